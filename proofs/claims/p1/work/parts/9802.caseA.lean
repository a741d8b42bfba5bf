/-! the law, case by case: 6, 7, 8 -/
theorem jA_116_206 {xs : List Int} {d : Nat} {x1 : Int} (h_x1 : (-2147483648) ≤ x1 ∧ x1 ≤ 0) : jT xs d 116 1 0 [(0, (4, 0)), (1, (0, x1)), (2, (0, 1)), (3, (0, 24))] [] [jgh] 1 6 (fun k v hsN => k = 1 ∧ v = (0, 1) ∧ hsN = [jgh] ++ []) := by
  refine jT_xiload_n (v := (0, x1)) (pcN := 1) jI_116_0 rfl rfl rfl ?_
  refine jT_xiload_n (v := (0, 1)) (pcN := 2) jI_116_1 rfl rfl rfl ?_
  refine jT_icT (a := x1) (b := 1) (t := 10) (by rfl) (by rfl) (by rfl) (jw_idd (by omega) (by omega)) (jw_idd (by omega) (by omega)) (by simp only [jcP] <;> omega) ?_
  exact jT_ret (c1 := 1) (s1 := 6) rfl (by decide) (by show 1 ≤ 1; decide) (by omega) (by omega) ⟨rfl, rfl, rfl⟩
theorem jI_123_0 : jmI (jm 123) 0 = (.aload_n 0, 1) := by rfl
theorem jI_123_1 : jmI (jm 123) 1 = (.iload_n 1, 1) := by rfl
theorem jI_123_2 : jmI (jm 123) 2 = (.iconst 1, 1) := by rfl
theorem jI_123_3 : jmI (jm 123) 3 = (.bipush 24, 2) := by rfl
theorem jA_123_207 {xs : List Int} {d : Nat} {x1 x2 x3 : Int} (h_x1 : (-2147483648) ≤ x1 ∧ x1 ≤ 0) (h_x2 : (-2147483648) ≤ x2 ∧ x2 ≤ 2147483647) (h_x3 : (-2147483648) ≤ x3 ∧ x3 ≤ 2147483647) : jT xs (d + 1) 123 12 0 [(0, (4, 0)), (1, (0, x1)), (2, (0, x2)), (3, (0, x3))] [] jpA_6 1 6 (fun k v hsN => k = 1 ∧ v = (0, 1) ∧ hsN = jpA_6 ++ []) := by
  refine jT_xaload_n (v := (4, 0)) (pcN := 1) jI_123_0 rfl rfl rfl ?_
  refine jT_xiload_n (v := (0, x1)) (pcN := 2) jI_123_1 rfl rfl rfl ?_
  refine jT_xiconst (k := 1) (pcN := 3) jI_123_2 rfl ?_
  refine jT_xbipush (k := 24) (pcN := 5) jI_123_3 (by decide) rfl ?_
  exact jT_fX [0] 12 (y := 116) (pcN := 8) (dC := 0) (bc1 := 1) (bc2 := 6) (as := [(4, 0), (0, x1), (0, 1), (0, 24)]) (asC := [(4, 0), (0, x1), (0, 1), (0, 24)]) (LN := [(0, (4, 0)), (1, (0, x1)), (2, (0, x2)), (3, (0, x3))]) (stN := []) (hsC := [jgh]) (e := 1) (jA_116_206 (d := 0) (by omega)) (by rfl) (by rfl) (by decide +kernel) (by rfl) (by rfl) (by omega) (by omega) (by omega) (by omega) ⟨rfl, ⟨rfl, rfl, rfl⟩⟩
theorem jI_332_0 : jmI (jm 332) 0 = (.aload 4, 2) := by rfl
theorem jI_332_2 : jmI (jm 332) 2 = (.iconst 0, 1) := by rfl
theorem jI_332_3 : jmI (jm 332) 3 = (.aload_n 0, 1) := by rfl
theorem jI_332_4 : jmI (jm 332) 4 = (.iload_n 1, 1) := by rfl
theorem jI_332_5 : jmI (jm 332) 5 = (.iload_n 2, 1) := by rfl
theorem jI_332_6 : jmI (jm 332) 6 = (.iload_n 3, 1) := by rfl
theorem jA_332_208 {xs : List Int} {d : Nat} {x1 x2 x3 : Int} (h_x1 : (-2147483648) ≤ x1 ∧ x1 ≤ 0) (h_x2 : (-2147483648) ≤ x2 ∧ x2 ≤ 2147483647) (h_x3 : (-2147483648) ≤ x3 ∧ x3 ≤ 2147483647) : jT xs (d + 2) 332 13 0 [(0, (4, 0)), (1, (0, x1)), (2, (0, x2)), (3, (0, x3)), (4, (4, 1))] [] jpA_15 1 6 (fun k v hsN => k = 0 ∧ v = (0, 1) ∧ hsN = jpA_15 ++ []) := by
  refine jT_xaload (v := (4, 1)) (pcN := 2) jI_332_0 rfl rfl rfl ?_
  refine jT_xiconst (k := 0) (pcN := 3) jI_332_2 rfl ?_
  refine jT_xaload_n (v := (4, 0)) (pcN := 4) jI_332_3 rfl rfl rfl ?_
  refine jT_xiload_n (v := (0, x1)) (pcN := 5) jI_332_4 rfl rfl rfl ?_
  refine jT_xiload_n (v := (0, x2)) (pcN := 6) jI_332_5 rfl rfl rfl ?_
  refine jT_xiload_n (v := (0, x3)) (pcN := 7) jI_332_6 rfl rfl rfl ?_
  exact jT_fX [0, 2, 3, 4, 5, 6, 7, 8, 9, 10, 11, 12] 13 (y := 123) (pcN := 10) (dC := 1) (bc1 := 1) (bc2 := 6) (as := [(4, 0), (0, x1), (0, x2), (0, x3)]) (asC := [(4, 0), (0, x1), (0, x2), (0, x3)]) (LN := [(0, (4, 0)), (1, (0, x1)), (2, (0, x2)), (3, (0, x3)), (4, (4, 1))]) (stN := [(0, 0), (4, 1)]) (hsC := jpA_6) (e := 1) (jA_123_207 (d := 0) (by omega) (by omega) (by omega)) (by rfl) (by rfl) (by decide +kernel) (by rfl) (by rfl) (by omega) (by omega) (by omega) (by omega) (show _ from ⟨rfl, rfl, rfl⟩)
theorem jI_217_0 : jmI (jm 217) 0 = (.aload_n 0, 1) := by rfl
theorem jI_217_1 : jmI (jm 217) 1 = (.iconst 0, 1) := by rfl
theorem jI_217_5 : jmI (jm 217) 5 = (.aload_n 0, 1) := by rfl
theorem jI_217_6 : jmI (jm 217) 6 = (.iload_n 1, 1) := by rfl
theorem jI_217_7 : jmI (jm 217) 7 = (.i2l, 1) := by rfl
theorem jI_217_8 : jmI (jm 217) 8 = (.lconst 1, 1) := by rfl
theorem jI_217_15 : jmI (jm 217) 15 = (.iconst 1, 1) := by rfl
theorem jI_217_19 : jmI (jm 217) 19 = (.ifCond .ne 30, 3) := by rfl
theorem jI_217_49 : jmI (jm 217) 49 = (.iconst 0, 1) := by rfl
theorem jA_217_209 {xs : List Int} {d : Nat} {x1 x2 x3 : Int} (h_x1 : (-2147483648) ≤ x1 ∧ x1 ≤ 0) (h_x2 : (-2147483648) ≤ x2 ∧ x2 ≤ 2147483647) (h_x3 : (-2147483648) ≤ x3 ∧ x3 ≤ 2147483647) : jT xs (d + 1) 217 16 0 [(0, (4, 0)), (1, (0, x1)), (2, (0, x2)), (3, (0, x3))] [] jpA_22 0 0 (fun k v hsN => k = 0 ∧ v = (0, 0) ∧ hsN = jpA_20) := by
  refine jT_xaload_n (v := (4, 0)) (pcN := 1) jI_217_0 rfl rfl rfl ?_
  refine jT_xiconst (k := 0) (pcN := 2) jI_217_1 rfl ?_
  refine jT_adv 1 (pcN := 5) (LN := [(0, (4, 0)), (1, (0, x1)), (2, (0, x2)), (3, (0, x3))]) (stN := []) (hsN := jpA_22) (c1 := 0) (s1 := 0) (c2 := 0) (s2 := 0) (by exact rfl) ?_ (by omega) (by omega)
  refine jT_xaload_n (v := (4, 0)) (pcN := 6) jI_217_5 rfl rfl rfl ?_
  refine jT_xiload_n (v := (0, x1)) (pcN := 7) jI_217_6 rfl rfl rfl ?_
  refine jT_xi2l (x := x1) (z := x1) (pcN := 8) jI_217_7 rfl (jw_idd (by omega) (by omega)) rfl ?_
  refine jT_xlconst (z := 1) (pcN := 9) jI_217_8 rfl rfl ?_
  refine jT_adv 1 (pcN := 12) (LN := [(0, (4, 0)), (1, (0, x1)), (2, (0, x2)), (3, (0, x3))]) (stN := [(1, 24), (1, 1), (1, x1), (4, 0)]) (hsN := jpA_22) (c1 := 0) (s1 := 0) (c2 := 0) (s2 := 0) (by exact rfl) ?_ (by omega) (by omega)
  refine jT_fR [] 16 (y := 189) (pcN := 15) (dC := 0) (bc1 := 0) (bc2 := 0) (c1 := 0) (c2 := 0) (as := [(1, x1), (1, 1), (1, 24)]) (asC := [(1, x1), (1, 1), (1, 24)]) (LN := [(0, (4, 0)), (1, (0, x1)), (2, (0, x2)), (3, (0, x3))]) (stN := [(4, 0)]) (hsC := []) (v := (0, 0)) (st2 := [(0, 0), (4, 0)]) (jT_in_lo (d := 0) (v := x1) (lo := 1) (hi := 24) (by omega) (by omega) (by omega) (by omega)) (by rfl) (by rfl) (by decide +kernel) (by rfl) (by rfl) (by omega) (by omega) (by omega) (by omega) rfl ?_
  refine jT_xiconst (k := 1) (pcN := 16) jI_217_15 rfl ?_
  refine jT_fB [0, 1, 2, 3, 4, 5, 6, 7, 8, 9, 10, 11, 12, 13, 14, 15] 16 (y := 191) (pcN := 19) (dC := 0) (bc1 := 0) (bc2 := 0) (c1 := 0) (c2 := 0) (as := [(4, 0), (0, 0), (0, 1)]) (asC := [(4, 0), (0, 0), (0, 1)]) (LN := [(0, (4, 0)), (1, (0, x1)), (2, (0, x2)), (3, (0, x3))]) (stN := []) (hsC := jpA_22) (hsD := jpA_20) (v := (0, 1)) (st2 := [(0, 1)]) (hs2 := jpA_20) (jA_191_5 (d := 0)) (by rfl) (by rfl) (by decide +kernel) (by rfl) (by rfl) (by omega) (by omega) (by omega) (by omega) rfl (by decide +kernel) ?_
  refine jT_xifT (pcN := 49) jI_217_19 rfl (by decide +kernel) rfl ?_
  refine jT_xiconst (k := 0) (pcN := 50) jI_217_49 rfl ?_
  exact jT_ret rfl (by decide) (by show 16 ≤ 16; decide) (by omega) (by omega) ⟨rfl, rfl, rfl⟩
theorem jA_116_210 {xs : List Int} {d : Nat} {x1 : Int} (h_x1 : 1 ≤ x1 ∧ x1 ≤ 24) : jT xs d 116 1 0 [(0, (4, 0)), (1, (0, x1)), (2, (0, 1)), (3, (0, 24))] [] [jgh] 0 0 (fun k v hsN => k = 0 ∧ v = (9, 0) ∧ hsN = [jgh] ++ []) := by
  refine jT_xiload_n (v := (0, x1)) (pcN := 1) jI_116_0 rfl rfl rfl ?_
  refine jT_xiload_n (v := (0, 1)) (pcN := 2) jI_116_1 rfl rfl rfl ?_
  refine jT_icF (a := x1) (b := 1) (t := 10) (by rfl) (by rfl) (by rfl) (jw_idd (by omega) (by omega)) (jw_idd (by omega) (by omega)) (by simp only [jcP] <;> omega) ?_
  refine jT_xiload_n (v := (0, x1)) (pcN := 6) jI_116_5 rfl rfl rfl ?_
  refine jT_xiload_n (v := (0, 24)) (pcN := 7) jI_116_6 rfl rfl rfl ?_
  refine jT_icT (a := x1) (b := 24) (t := 21) (by rfl) (by rfl) (by rfl) (jw_idd (by omega) (by omega)) (jw_idd (by omega) (by omega)) (by simp only [jcP] <;> omega) ?_
  exact jT_ret rfl (by decide) (by show 1 ≤ 1; decide) (by omega) (by omega) ⟨rfl, rfl, rfl⟩
theorem jI_123_8 : jmI (jm 123) 8 = (.aload_n 0, 1) := by rfl
theorem jI_123_9 : jmI (jm 123) 9 = (.iload_n 2, 1) := by rfl
theorem jI_123_10 : jmI (jm 123) 10 = (.bipush 8, 2) := by rfl
theorem jA_123_211 {xs : List Int} {d : Nat} {x1 x2 x3 : Int} (h_x1 : 1 ≤ x1 ∧ x1 ≤ 24) (h_x2 : (-2147483648) ≤ x2 ∧ x2 ≤ (-1)) (h_x3 : (-2147483648) ≤ x3 ∧ x3 ≤ 2147483647) : jT xs (d + 1) 123 12 0 [(0, (4, 0)), (1, (0, x1)), (2, (0, x2)), (3, (0, x3))] [] jpA_6 1 6 (fun k v hsN => k = 1 ∧ v = (0, 0) ∧ hsN = jpA_6 ++ []) := by
  refine jT_xaload_n (v := (4, 0)) (pcN := 1) jI_123_0 rfl rfl rfl ?_
  refine jT_xiload_n (v := (0, x1)) (pcN := 2) jI_123_1 rfl rfl rfl ?_
  refine jT_xiconst (k := 1) (pcN := 3) jI_123_2 rfl ?_
  refine jT_xbipush (k := 24) (pcN := 5) jI_123_3 (by decide) rfl ?_
  refine jT_fR [0] 12 (y := 116) (pcN := 8) (dC := 0) (bc1 := 0) (bc2 := 0) (c1 := 1) (c2 := 6) (as := [(4, 0), (0, x1), (0, 1), (0, 24)]) (asC := [(4, 0), (0, x1), (0, 1), (0, 24)]) (LN := [(0, (4, 0)), (1, (0, x1)), (2, (0, x2)), (3, (0, x3))]) (stN := []) (hsC := [jgh]) (v := (9, 0)) (st2 := []) (jA_116_210 (d := 0) (by omega)) (by rfl) (by rfl) (by decide +kernel) (by rfl) (by rfl) (by omega) (by omega) (by omega) (by omega) rfl ?_
  refine jT_xaload_n (v := (4, 0)) (pcN := 9) jI_123_8 rfl rfl rfl ?_
  refine jT_xiload_n (v := (0, x2)) (pcN := 10) jI_123_9 rfl rfl rfl ?_
  refine jT_xbipush (k := 8) (pcN := 12) jI_123_10 (by decide) rfl ?_
  exact jT_fX [0] 12 (y := 115) (pcN := 15) (dC := 0) (bc1 := 1) (bc2 := 6) (as := [(4, 0), (0, x2), (0, 8)]) (asC := [(4, 0), (0, x2), (0, 8)]) (LN := [(0, (4, 0)), (1, (0, x1)), (2, (0, x2)), (3, (0, x3))]) (stN := []) (hsC := [jgh]) (e := 0) (jA_115_10 (d := 0) (by omega)) (by rfl) (by rfl) (by decide +kernel) (by rfl) (by rfl) (by omega) (by omega) (by omega) (by omega) ⟨rfl, ⟨rfl, rfl, rfl⟩⟩
theorem jA_332_212 {xs : List Int} {d : Nat} {x1 x2 x3 : Int} (h_x1 : 1 ≤ x1 ∧ x1 ≤ 24) (h_x2 : (-2147483648) ≤ x2 ∧ x2 ≤ (-1)) (h_x3 : (-2147483648) ≤ x3 ∧ x3 ≤ 2147483647) : jT xs (d + 2) 332 13 0 [(0, (4, 0)), (1, (0, x1)), (2, (0, x2)), (3, (0, x3)), (4, (4, 1))] [] jpA_15 1 6 (fun k v hsN => k = 0 ∧ v = (0, 2) ∧ hsN = jpA_15 ++ []) := by
  refine jT_xaload (v := (4, 1)) (pcN := 2) jI_332_0 rfl rfl rfl ?_
  refine jT_xiconst (k := 0) (pcN := 3) jI_332_2 rfl ?_
  refine jT_xaload_n (v := (4, 0)) (pcN := 4) jI_332_3 rfl rfl rfl ?_
  refine jT_xiload_n (v := (0, x1)) (pcN := 5) jI_332_4 rfl rfl rfl ?_
  refine jT_xiload_n (v := (0, x2)) (pcN := 6) jI_332_5 rfl rfl rfl ?_
  refine jT_xiload_n (v := (0, x3)) (pcN := 7) jI_332_6 rfl rfl rfl ?_
  exact jT_fX [0, 2, 3, 4, 5, 6, 7, 8, 9, 10, 11, 12] 13 (y := 123) (pcN := 10) (dC := 1) (bc1 := 1) (bc2 := 6) (as := [(4, 0), (0, x1), (0, x2), (0, x3)]) (asC := [(4, 0), (0, x1), (0, x2), (0, x3)]) (LN := [(0, (4, 0)), (1, (0, x1)), (2, (0, x2)), (3, (0, x3)), (4, (4, 1))]) (stN := [(0, 0), (4, 1)]) (hsC := jpA_6) (e := 0) (jA_123_211 (d := 0) (by omega) (by omega) (by omega)) (by rfl) (by rfl) (by decide +kernel) (by rfl) (by rfl) (by omega) (by omega) (by omega) (by omega) (show _ from ⟨rfl, rfl, rfl⟩)
theorem jI_217_22 : jmI (jm 217) 22 = (.aload_n 0, 1) := by rfl
theorem jI_217_23 : jmI (jm 217) 23 = (.iload_n 2, 1) := by rfl
theorem jI_217_27 : jmI (jm 217) 27 = (.ifCond .eq 14, 3) := by rfl
theorem jI_217_41 : jmI (jm 217) 41 = (.iconst 0, 1) := by rfl
theorem jI_217_42 : jmI (jm 217) 42 = (.iconst 2, 1) := by rfl
theorem jI_217_46 : jmI (jm 217) 46 = (.ifCond .eq 5, 3) := by rfl
theorem jA_217_213 {xs : List Int} {d : Nat} {x1 x2 x3 : Int} (h_x1 : 1 ≤ x1 ∧ x1 ≤ 24) (h_x2 : (-2147483648) ≤ x2 ∧ x2 ≤ (-1)) (h_x3 : (-2147483648) ≤ x3 ∧ x3 ≤ 2147483647) : jT xs (d + 2) 217 16 0 [(0, (4, 0)), (1, (0, x1)), (2, (0, x2)), (3, (0, x3))] [] jpA_22 0 0 (fun k v hsN => k = 0 ∧ v = (0, 0) ∧ hsN = jpA_361) := by
  refine jT_xaload_n (v := (4, 0)) (pcN := 1) jI_217_0 rfl rfl rfl ?_
  refine jT_xiconst (k := 0) (pcN := 2) jI_217_1 rfl ?_
  refine jT_adv 1 (pcN := 5) (LN := [(0, (4, 0)), (1, (0, x1)), (2, (0, x2)), (3, (0, x3))]) (stN := []) (hsN := jpA_22) (c1 := 0) (s1 := 0) (c2 := 0) (s2 := 0) (by exact rfl) ?_ (by omega) (by omega)
  refine jT_xaload_n (v := (4, 0)) (pcN := 6) jI_217_5 rfl rfl rfl ?_
  refine jT_xiload_n (v := (0, x1)) (pcN := 7) jI_217_6 rfl rfl rfl ?_
  refine jT_xi2l (x := x1) (z := x1) (pcN := 8) jI_217_7 rfl (jw_idd (by omega) (by omega)) rfl ?_
  refine jT_xlconst (z := 1) (pcN := 9) jI_217_8 rfl rfl ?_
  refine jT_adv 1 (pcN := 12) (LN := [(0, (4, 0)), (1, (0, x1)), (2, (0, x2)), (3, (0, x3))]) (stN := [(1, 24), (1, 1), (1, x1), (4, 0)]) (hsN := jpA_22) (c1 := 0) (s1 := 0) (c2 := 0) (s2 := 0) (by exact rfl) ?_ (by omega) (by omega)
  refine jT_fR [] 16 (y := 189) (pcN := 15) (dC := 0) (bc1 := 0) (bc2 := 0) (c1 := 0) (c2 := 0) (as := [(1, x1), (1, 1), (1, 24)]) (asC := [(1, x1), (1, 1), (1, 24)]) (LN := [(0, (4, 0)), (1, (0, x1)), (2, (0, x2)), (3, (0, x3))]) (stN := [(4, 0)]) (hsC := []) (v := (0, 1)) (st2 := [(0, 1), (4, 0)]) (jT_in_ok (d := 0) (v := x1) (lo := 1) (hi := 24) (by omega) (by omega) (by omega) (by omega) (by omega)) (by rfl) (by rfl) (by decide +kernel) (by rfl) (by rfl) (by omega) (by omega) (by omega) (by omega) rfl ?_
  refine jT_xiconst (k := 1) (pcN := 16) jI_217_15 rfl ?_
  refine jT_fR [0] 16 (y := 191) (pcN := 19) (dC := 0) (bc1 := 0) (bc2 := 0) (c1 := 0) (c2 := 0) (as := [(4, 0), (0, 1), (0, 1)]) (asC := [(4, 0), (0, 1), (0, 1)]) (LN := [(0, (4, 0)), (1, (0, x1)), (2, (0, x2)), (3, (0, x3))]) (stN := []) (hsC := [jgh]) (v := (0, 0)) (st2 := [(0, 0)]) (jA_191_38 (d := 0)) (by rfl) (by rfl) (by decide +kernel) (by rfl) (by rfl) (by omega) (by omega) (by omega) (by omega) rfl ?_
  refine jT_xifF (t := 49) (pcN := 22) jI_217_19 rfl (by decide +kernel) rfl rfl ?_
  refine jT_xaload_n (v := (4, 0)) (pcN := 23) jI_217_22 rfl rfl rfl ?_
  refine jT_xiload_n (v := (0, x2)) (pcN := 24) jI_217_23 rfl rfl rfl ?_
  refine jT_fR [] 16 (y := 188) (pcN := 27) (dC := 1) (bc1 := 0) (bc2 := 0) (c1 := 0) (c2 := 0) (as := [(0, x2)]) (asC := [(0, x2)]) (LN := [(0, (4, 0)), (1, (0, x1)), (2, (0, x2)), (3, (0, x3))]) (stN := [(4, 0)]) (hsC := []) (v := (0, 0)) (st2 := [(0, 0), (4, 0)]) (jA_188_14 (d := 0) (by omega)) (by rfl) (by rfl) (by decide +kernel) (by rfl) (by rfl) (by omega) (by omega) (by omega) (by omega) rfl ?_
  refine jT_xifT (pcN := 41) jI_217_27 rfl (by decide +kernel) rfl ?_
  refine jT_xiconst (k := 0) (pcN := 42) jI_217_41 rfl ?_
  refine jT_xiconst (k := 2) (pcN := 43) jI_217_42 rfl ?_
  refine jT_fB [0, 1, 2, 3, 4, 5, 6, 7, 8, 9, 10, 11, 12, 13, 14, 15] 16 (y := 191) (pcN := 46) (dC := 0) (bc1 := 0) (bc2 := 0) (c1 := 0) (c2 := 0) (as := [(4, 0), (0, 0), (0, 2)]) (asC := [(4, 0), (0, 0), (0, 2)]) (LN := [(0, (4, 0)), (1, (0, x1)), (2, (0, x2)), (3, (0, x3))]) (stN := []) (hsC := jpA_22) (hsD := jpA_361) (v := (0, 1)) (st2 := [(0, 1)]) (hs2 := jpA_361) (jA_191_99 (d := 0)) (by rfl) (by rfl) (by decide +kernel) (by rfl) (by rfl) (by omega) (by omega) (by omega) (by omega) rfl (by decide +kernel) ?_
  refine jT_xifF (t := 51) (pcN := 49) jI_217_46 rfl (by decide +kernel) rfl rfl ?_
  refine jT_xiconst (k := 0) (pcN := 50) jI_217_49 rfl ?_
  exact jT_ret rfl (by decide) (by show 16 ≤ 16; decide) (by omega) (by omega) ⟨rfl, rfl, rfl⟩
theorem jI_123_15 : jmI (jm 123) 15 = (.aload_n 0, 1) := by rfl
theorem jI_123_16 : jmI (jm 123) 16 = (.iload_n 3, 1) := by rfl
theorem jI_123_17 : jmI (jm 123) 17 = (.bipush 8, 2) := by rfl
theorem jA_123_214 {xs : List Int} {d : Nat} {x1 x2 x3 : Int} (h_x1 : 1 ≤ x1 ∧ x1 ≤ 24) (h_x2 : 0 ≤ x2 ∧ x2 ≤ 7) (h_x3 : (-2147483648) ≤ x3 ∧ x3 ≤ (-1)) : jT xs (d + 1) 123 12 0 [(0, (4, 0)), (1, (0, x1)), (2, (0, x2)), (3, (0, x3))] [] jpA_6 1 6 (fun k v hsN => k = 1 ∧ v = (0, 0) ∧ hsN = jpA_6 ++ []) := by
  refine jT_xaload_n (v := (4, 0)) (pcN := 1) jI_123_0 rfl rfl rfl ?_
  refine jT_xiload_n (v := (0, x1)) (pcN := 2) jI_123_1 rfl rfl rfl ?_
  refine jT_xiconst (k := 1) (pcN := 3) jI_123_2 rfl ?_
  refine jT_xbipush (k := 24) (pcN := 5) jI_123_3 (by decide) rfl ?_
  refine jT_fR [0] 12 (y := 116) (pcN := 8) (dC := 0) (bc1 := 0) (bc2 := 0) (c1 := 1) (c2 := 6) (as := [(4, 0), (0, x1), (0, 1), (0, 24)]) (asC := [(4, 0), (0, x1), (0, 1), (0, 24)]) (LN := [(0, (4, 0)), (1, (0, x1)), (2, (0, x2)), (3, (0, x3))]) (stN := []) (hsC := [jgh]) (v := (9, 0)) (st2 := []) (jA_116_210 (d := 0) (by omega)) (by rfl) (by rfl) (by decide +kernel) (by rfl) (by rfl) (by omega) (by omega) (by omega) (by omega) rfl ?_
  refine jT_xaload_n (v := (4, 0)) (pcN := 9) jI_123_8 rfl rfl rfl ?_
  refine jT_xiload_n (v := (0, x2)) (pcN := 10) jI_123_9 rfl rfl rfl ?_
  refine jT_xbipush (k := 8) (pcN := 12) jI_123_10 (by decide) rfl ?_
  refine jT_fR [0] 12 (y := 115) (pcN := 15) (dC := 0) (bc1 := 0) (bc2 := 0) (c1 := 1) (c2 := 6) (as := [(4, 0), (0, x2), (0, 8)]) (asC := [(4, 0), (0, x2), (0, 8)]) (LN := [(0, (4, 0)), (1, (0, x1)), (2, (0, x2)), (3, (0, x3))]) (stN := []) (hsC := [jgh]) (v := (9, 0)) (st2 := []) (jA_115_16 (d := 0) (by omega)) (by rfl) (by rfl) (by decide +kernel) (by rfl) (by rfl) (by omega) (by omega) (by omega) (by omega) rfl ?_
  refine jT_xaload_n (v := (4, 0)) (pcN := 16) jI_123_15 rfl rfl rfl ?_
  refine jT_xiload_n (v := (0, x3)) (pcN := 17) jI_123_16 rfl rfl rfl ?_
  refine jT_xbipush (k := 8) (pcN := 19) jI_123_17 (by decide) rfl ?_
  exact jT_fX [0] 12 (y := 115) (pcN := 22) (dC := 0) (bc1 := 1) (bc2 := 6) (as := [(4, 0), (0, x3), (0, 8)]) (asC := [(4, 0), (0, x3), (0, 8)]) (LN := [(0, (4, 0)), (1, (0, x1)), (2, (0, x2)), (3, (0, x3))]) (stN := []) (hsC := [jgh]) (e := 0) (jA_115_17 (d := 0) (by omega)) (by rfl) (by rfl) (by decide +kernel) (by rfl) (by rfl) (by omega) (by omega) (by omega) (by omega) ⟨rfl, ⟨rfl, rfl, rfl⟩⟩
theorem jA_332_215 {xs : List Int} {d : Nat} {x1 x2 x3 : Int} (h_x1 : 1 ≤ x1 ∧ x1 ≤ 24) (h_x2 : 0 ≤ x2 ∧ x2 ≤ 7) (h_x3 : (-2147483648) ≤ x3 ∧ x3 ≤ (-1)) : jT xs (d + 2) 332 13 0 [(0, (4, 0)), (1, (0, x1)), (2, (0, x2)), (3, (0, x3)), (4, (4, 1))] [] jpA_15 1 6 (fun k v hsN => k = 0 ∧ v = (0, 2) ∧ hsN = jpA_15 ++ []) := by
  refine jT_xaload (v := (4, 1)) (pcN := 2) jI_332_0 rfl rfl rfl ?_
  refine jT_xiconst (k := 0) (pcN := 3) jI_332_2 rfl ?_
  refine jT_xaload_n (v := (4, 0)) (pcN := 4) jI_332_3 rfl rfl rfl ?_
  refine jT_xiload_n (v := (0, x1)) (pcN := 5) jI_332_4 rfl rfl rfl ?_
  refine jT_xiload_n (v := (0, x2)) (pcN := 6) jI_332_5 rfl rfl rfl ?_
  refine jT_xiload_n (v := (0, x3)) (pcN := 7) jI_332_6 rfl rfl rfl ?_
  exact jT_fX [0, 2, 3, 4, 5, 6, 7, 8, 9, 10, 11, 12] 13 (y := 123) (pcN := 10) (dC := 1) (bc1 := 1) (bc2 := 6) (as := [(4, 0), (0, x1), (0, x2), (0, x3)]) (asC := [(4, 0), (0, x1), (0, x2), (0, x3)]) (LN := [(0, (4, 0)), (1, (0, x1)), (2, (0, x2)), (3, (0, x3)), (4, (4, 1))]) (stN := [(0, 0), (4, 1)]) (hsC := jpA_6) (e := 0) (jA_123_214 (d := 0) (by omega) (by omega) (by omega)) (by rfl) (by rfl) (by decide +kernel) (by rfl) (by rfl) (by omega) (by omega) (by omega) (by omega) (show _ from ⟨rfl, rfl, rfl⟩)
theorem jI_217_30 : jmI (jm 217) 30 = (.iload_n 3, 1) := by rfl
theorem jI_217_34 : jmI (jm 217) 34 = (.ifCond .eq 7, 3) := by rfl
theorem jA_217_216 {xs : List Int} {d : Nat} {x1 x2 x3 : Int} (h_x1 : 1 ≤ x1 ∧ x1 ≤ 24) (h_x2 : 0 ≤ x2 ∧ x2 ≤ 7) (h_x3 : (-2147483648) ≤ x3 ∧ x3 ≤ (-1)) : jT xs (d + 2) 217 16 0 [(0, (4, 0)), (1, (0, x1)), (2, (0, x2)), (3, (0, x3))] [] jpA_22 0 0 (fun k v hsN => k = 0 ∧ v = (0, 0) ∧ hsN = jpA_361) := by
  refine jT_xaload_n (v := (4, 0)) (pcN := 1) jI_217_0 rfl rfl rfl ?_
  refine jT_xiconst (k := 0) (pcN := 2) jI_217_1 rfl ?_
  refine jT_adv 1 (pcN := 5) (LN := [(0, (4, 0)), (1, (0, x1)), (2, (0, x2)), (3, (0, x3))]) (stN := []) (hsN := jpA_22) (c1 := 0) (s1 := 0) (c2 := 0) (s2 := 0) (by exact rfl) ?_ (by omega) (by omega)
  refine jT_xaload_n (v := (4, 0)) (pcN := 6) jI_217_5 rfl rfl rfl ?_
  refine jT_xiload_n (v := (0, x1)) (pcN := 7) jI_217_6 rfl rfl rfl ?_
  refine jT_xi2l (x := x1) (z := x1) (pcN := 8) jI_217_7 rfl (jw_idd (by omega) (by omega)) rfl ?_
  refine jT_xlconst (z := 1) (pcN := 9) jI_217_8 rfl rfl ?_
  refine jT_adv 1 (pcN := 12) (LN := [(0, (4, 0)), (1, (0, x1)), (2, (0, x2)), (3, (0, x3))]) (stN := [(1, 24), (1, 1), (1, x1), (4, 0)]) (hsN := jpA_22) (c1 := 0) (s1 := 0) (c2 := 0) (s2 := 0) (by exact rfl) ?_ (by omega) (by omega)
  refine jT_fR [] 16 (y := 189) (pcN := 15) (dC := 0) (bc1 := 0) (bc2 := 0) (c1 := 0) (c2 := 0) (as := [(1, x1), (1, 1), (1, 24)]) (asC := [(1, x1), (1, 1), (1, 24)]) (LN := [(0, (4, 0)), (1, (0, x1)), (2, (0, x2)), (3, (0, x3))]) (stN := [(4, 0)]) (hsC := []) (v := (0, 1)) (st2 := [(0, 1), (4, 0)]) (jT_in_ok (d := 0) (v := x1) (lo := 1) (hi := 24) (by omega) (by omega) (by omega) (by omega) (by omega)) (by rfl) (by rfl) (by decide +kernel) (by rfl) (by rfl) (by omega) (by omega) (by omega) (by omega) rfl ?_
  refine jT_xiconst (k := 1) (pcN := 16) jI_217_15 rfl ?_
  refine jT_fR [0] 16 (y := 191) (pcN := 19) (dC := 0) (bc1 := 0) (bc2 := 0) (c1 := 0) (c2 := 0) (as := [(4, 0), (0, 1), (0, 1)]) (asC := [(4, 0), (0, 1), (0, 1)]) (LN := [(0, (4, 0)), (1, (0, x1)), (2, (0, x2)), (3, (0, x3))]) (stN := []) (hsC := [jgh]) (v := (0, 0)) (st2 := [(0, 0)]) (jA_191_38 (d := 0)) (by rfl) (by rfl) (by decide +kernel) (by rfl) (by rfl) (by omega) (by omega) (by omega) (by omega) rfl ?_
  refine jT_xifF (t := 49) (pcN := 22) jI_217_19 rfl (by decide +kernel) rfl rfl ?_
  refine jT_xaload_n (v := (4, 0)) (pcN := 23) jI_217_22 rfl rfl rfl ?_
  refine jT_xiload_n (v := (0, x2)) (pcN := 24) jI_217_23 rfl rfl rfl ?_
  refine jT_fR [] 16 (y := 188) (pcN := 27) (dC := 1) (bc1 := 0) (bc2 := 0) (c1 := 0) (c2 := 0) (as := [(0, x2)]) (asC := [(0, x2)]) (LN := [(0, (4, 0)), (1, (0, x1)), (2, (0, x2)), (3, (0, x3))]) (stN := [(4, 0)]) (hsC := []) (v := (0, 1)) (st2 := [(0, 1), (4, 0)]) (jA_188_20 (d := 0) (by omega)) (by rfl) (by rfl) (by decide +kernel) (by rfl) (by rfl) (by omega) (by omega) (by omega) (by omega) rfl ?_
  refine jT_xifF (t := 41) (pcN := 30) jI_217_27 rfl (by decide +kernel) rfl rfl ?_
  refine jT_xiload_n (v := (0, x3)) (pcN := 31) jI_217_30 rfl rfl rfl ?_
  refine jT_fR [] 16 (y := 188) (pcN := 34) (dC := 1) (bc1 := 0) (bc2 := 0) (c1 := 0) (c2 := 0) (as := [(0, x3)]) (asC := [(0, x3)]) (LN := [(0, (4, 0)), (1, (0, x1)), (2, (0, x2)), (3, (0, x3))]) (stN := [(4, 0)]) (hsC := []) (v := (0, 0)) (st2 := [(0, 0), (4, 0)]) (jA_188_21 (d := 0) (by omega)) (by rfl) (by rfl) (by decide +kernel) (by rfl) (by rfl) (by omega) (by omega) (by omega) (by omega) rfl ?_
  refine jT_xifT (pcN := 41) jI_217_34 rfl (by decide +kernel) rfl ?_
  refine jT_xiconst (k := 0) (pcN := 42) jI_217_41 rfl ?_
  refine jT_xiconst (k := 2) (pcN := 43) jI_217_42 rfl ?_
  refine jT_fB [0, 1, 2, 3, 4, 5, 6, 7, 8, 9, 10, 11, 12, 13, 14, 15] 16 (y := 191) (pcN := 46) (dC := 0) (bc1 := 0) (bc2 := 0) (c1 := 0) (c2 := 0) (as := [(4, 0), (0, 0), (0, 2)]) (asC := [(4, 0), (0, 0), (0, 2)]) (LN := [(0, (4, 0)), (1, (0, x1)), (2, (0, x2)), (3, (0, x3))]) (stN := []) (hsC := jpA_22) (hsD := jpA_361) (v := (0, 1)) (st2 := [(0, 1)]) (hs2 := jpA_361) (jA_191_99 (d := 0)) (by rfl) (by rfl) (by decide +kernel) (by rfl) (by rfl) (by omega) (by omega) (by omega) (by omega) rfl (by decide +kernel) ?_
  refine jT_xifF (t := 51) (pcN := 49) jI_217_46 rfl (by decide +kernel) rfl rfl ?_
  refine jT_xiconst (k := 0) (pcN := 50) jI_217_49 rfl ?_
  exact jT_ret rfl (by decide) (by show 16 ≤ 16; decide) (by omega) (by omega) ⟨rfl, rfl, rfl⟩
theorem jA_45_217 {xs : List Int} {d : Nat} {x1 : Int} (h_x1 : 1 ≤ x1 ∧ x1 ≤ 24) : jT xs (d + 1) 45 4 0 [(0, (4, 0)), (1, (4, 1)), (2, (1, 1)), (4, (1, 2 * x1))] [] jpA_625 0 0 (fun k v hsN => k = 0 ∧ v = (1, 0) ∧ hsN = jpA_625 ++ []) := by
  refine jT_xlload_n (v := (1, 1)) (pcN := 1) jI_45_0 rfl rfl rfl ?_
  refine jT_xlconst (z := 1) (pcN := 2) jI_45_1 rfl rfl ?_
  refine jT_lcmp (a := 1) (b := 1) (z := 0) (by rfl) (by rfl) (by decide +kernel) (by decide +kernel) (by decide) ?_
  refine jT_xifF (t := 13) (pcN := 6) jI_45_3 rfl (by decide +kernel) rfl rfl ?_
  refine jT_xlload (v := (1, 2 * x1)) (pcN := 8) jI_45_6 rfl rfl rfl ?_
  refine jT_xlconst (z := 1) (pcN := 9) jI_45_8 rfl rfl ?_
  refine jT_lcmp (a := 2 * x1) (b := 1) (z := 1) (by rfl) (by rfl) (jwl_idd (by omega) (by omega)) (jwl_idd (by omega) (by omega)) (by rw [decide_eq_true (show (1 : Int) < 2 * x1 by omega)]; rfl) ?_
  refine jT_xifT (pcN := 15) jI_45_10 rfl (by decide +kernel) rfl ?_
  refine jT_xaload_n (v := (4, 0)) (pcN := 16) jI_45_15 rfl rfl rfl ?_
  refine jT_xaload_n (v := (4, 1)) (pcN := 17) jI_45_16 rfl rfl rfl ?_
  refine jT_fR [0, 1] 4 (y := 39) (pcN := 20) (dC := 0) (bc1 := 0) (bc2 := 0) (c1 := 0) (c2 := 0) (as := [(4, 0), (4, 1)]) (asC := [(4, 0), (4, 1)]) (LN := [(0, (4, 0)), (1, (4, 1)), (2, (1, 1)), (4, (1, 2 * x1))]) (stN := []) (hsC := [jgh, (101, [], [0, 0, 0, 0, 0, 0])]) (v := (1, 0)) (st2 := [(1, 0)]) (jA_39_144 (d := 0)) (by rfl) (by rfl) (by decide +kernel) (by rfl) (by rfl) (by omega) (by omega) (by omega) (by omega) rfl ?_
  refine jT_xlstore (v := (1, 0)) (LN := [(6, (1, 0)), (0, (4, 0)), (1, (4, 1)), (2, (1, 1)), (4, (1, 2 * x1))]) (pcN := 22) jI_45_20 rfl rfl rfl rfl ?_
  refine jT_xlload (v := (1, 0)) (pcN := 24) jI_45_22 rfl rfl rfl ?_
  refine jT_xlconst (z := 0) (pcN := 25) jI_45_24 rfl rfl ?_
  refine jT_lcmp (a := 0) (b := 0) (z := 0) (by rfl) (by rfl) (by decide +kernel) (by decide +kernel) (by decide) ?_
  refine jT_xifF (t := 40) (pcN := 29) jI_45_26 rfl (by decide +kernel) rfl rfl ?_
  refine jT_xaload_n (v := (4, 1)) (pcN := 30) jI_45_29 rfl rfl rfl ?_
  refine jT_xiconst (k := 0) (pcN := 31) jI_45_30 rfl ?_
  refine jT_lald (x := 0) (a := 1) (j := 0) (fs := []) (X := [0, 0, 0, 0, 0, 0]) jI_45_31 rfl rfl rfl rfl ?_
  refine jT_eq (LN := [(6, (1, 0)), (0, (4, 0)), (1, (4, 1)), (2, (1, 1)), (4, (1, 2 * x1))]) (stN := [(1, 0)]) (hsN := jpA_625) rfl rfl rfl ?_
  refine jT_xlload (v := (1, 2 * x1)) (pcN := 34) jI_45_32 rfl rfl rfl ?_
  refine jT_xlmul (x := 0) (y := 2 * x1) (z := 0) (pcN := 35) jI_45_34 rfl (by omega) rfl ?_
  refine jT_xlload_n (v := (1, 1)) (pcN := 36) jI_45_35 rfl rfl rfl ?_
  refine jT_fR [] 4 (y := 373) (pcN := 39) (dC := 0) (bc1 := 0) (bc2 := 0) (c1 := 0) (c2 := 0) (as := [(1, 0), (1, 1)]) (asC := [(1, 0), (1, 1)]) (LN := [(6, (1, 0)), (0, (4, 0)), (1, (4, 1)), (2, (1, 1)), (4, (1, 2 * x1))]) (stN := []) (hsC := []) (v := (1, 0)) (st2 := [(1, 0)]) (jA_373_145 (d := 0)) (by rfl) (by rfl) (by decide +kernel) (by rfl) (by rfl) (by omega) (by omega) (by omega) (by omega) rfl ?_
  exact jT_ret rfl (by decide) (by show 4 ≤ 4; decide) (by omega) (by omega) ⟨rfl, rfl, rfl⟩
theorem jA_44_218 {xs : List Int} {d : Nat} {x1 : Int} (h_x1 : 1 ≤ x1 ∧ x1 ≤ 24) : jT xs (d + 2) 44 5 0 [(0, (4, 0)), (1, (4, 1)), (2, (1, 2 * x1))] [] jpA_626 0 0 (fun k v hsN => k = 0 ∧ v = (1, 0) ∧ hsN = jpA_626 ++ []) := by
  refine jT_xaload_n (v := (4, 0)) (pcN := 1) jI_44_0 rfl rfl rfl ?_
  refine jT_xaload_n (v := (4, 1)) (pcN := 2) jI_44_1 rfl rfl rfl ?_
  refine jT_xgetf (a := 1) (t := 2) (ci := 4) (fi := 0) (c := (4, [(4, 4), (1, 1)], [])) (v := (4, 4)) (pcN := 5) jI_44_2 rfl rfl rfl rfl rfl rfl rfl ?_
  refine jT_xaload_n (v := (4, 1)) (pcN := 6) jI_44_5 rfl rfl rfl ?_
  refine jT_xgetf (a := 1) (t := 2) (ci := 4) (fi := 1) (c := (4, [(4, 4), (1, 1)], [])) (v := (1, 1)) (pcN := 9) jI_44_6 rfl rfl rfl rfl rfl rfl rfl ?_
  refine jT_xlload_n (v := (1, 2 * x1)) (pcN := 10) jI_44_9 rfl rfl rfl ?_
  refine jT_fR [0, 4, 2, 3] 5 (y := 45) (pcN := 13) (dC := 1) (bc1 := 0) (bc2 := 0) (c1 := 0) (c2 := 0) (as := [(4, 0), (4, 4), (1, 1), (1, 2 * x1)]) (asC := [(4, 0), (4, 1), (1, 1), (1, 2 * x1)]) (LN := [(0, (4, 0)), (1, (4, 1)), (2, (1, 2 * x1))]) (stN := []) (hsC := jpA_625) (v := (1, 0)) (st2 := [(1, 0)]) (jA_45_217 (d := 0) (by omega)) (by rfl) (by rfl) (by decide +kernel) (by rfl) (by rfl) (by omega) (by omega) (by omega) (by omega) rfl ?_
  exact jT_ret rfl (by decide) (by show 5 ≤ 5; decide) (by omega) (by omega) ⟨rfl, rfl, rfl⟩
theorem jA_43_219 {xs : List Int} {d : Nat} {x1 : Int} (h_x1 : 1 ≤ x1 ∧ x1 ≤ 24) : jT xs (d + 3) 43 5 0 [(0, (4, 0)), (1, (4, 1)), (2, (1, x1))] [] jpA_626 0 0 (fun k v hsN => k = 0 ∧ v = (1, 0) ∧ hsN = jpA_626 ++ []) := by
  refine jT_xaload_n (v := (4, 0)) (pcN := 1) jI_43_0 rfl rfl rfl ?_
  refine jT_xaload_n (v := (4, 1)) (pcN := 2) jI_43_1 rfl rfl rfl ?_
  refine jT_adv 1 (pcN := 5) (LN := [(0, (4, 0)), (1, (4, 1)), (2, (1, x1))]) (stN := [(1, 2), (4, 1), (4, 0)]) (hsN := jpA_626) (c1 := 0) (s1 := 0) (c2 := 0) (s2 := 0) (by exact rfl) ?_ (by omega) (by omega)
  refine jT_xlload_n (v := (1, x1)) (pcN := 6) jI_43_5 rfl rfl rfl ?_
  refine jT_xlmul (x := 2) (y := x1) (z := 2 * x1) (pcN := 7) jI_43_6 rfl (rfl) rfl ?_
  refine jT_fR [0, 1, 2, 3, 4] 5 (y := 44) (pcN := 10) (dC := 2) (bc1 := 0) (bc2 := 0) (c1 := 0) (c2 := 0) (as := [(4, 0), (4, 1), (1, 2 * x1)]) (asC := [(4, 0), (4, 1), (1, 2 * x1)]) (LN := [(0, (4, 0)), (1, (4, 1)), (2, (1, x1))]) (stN := []) (hsC := jpA_626) (v := (1, 0)) (st2 := [(1, 0)]) (jA_44_218 (d := 0) (by omega)) (by rfl) (by rfl) (by decide +kernel) (by rfl) (by rfl) (by omega) (by omega) (by omega) (by omega) rfl ?_
  refine jT_xlconst (z := 1) (pcN := 11) jI_43_10 rfl rfl ?_
  refine jT_xladd (x := 0) (y := 1) (z := 1) (pcN := 12) jI_43_11 rfl (by decide) rfl ?_
  refine jT_xiconst (k := 2) (pcN := 13) jI_43_12 rfl ?_
  refine jT_fR [] 5 (y := 374) (pcN := 16) (dC := 1) (bc1 := 0) (bc2 := 0) (c1 := 0) (c2 := 0) (as := [(1, 1), (0, 2)]) (asC := [(1, 1), (0, 2)]) (LN := [(0, (4, 0)), (1, (4, 1)), (2, (1, x1))]) (stN := []) (hsC := []) (v := (1, 0)) (st2 := [(1, 0)]) (jA_374_178 (d := 0)) (by rfl) (by rfl) (by decide +kernel) (by rfl) (by rfl) (by omega) (by omega) (by omega) (by omega) rfl ?_
  exact jT_ret rfl (by decide) (by show 5 ≤ 5; decide) (by omega) (by omega) ⟨rfl, rfl, rfl⟩
theorem jA_45_220 {xs : List Int} {d : Nat} : jT xs (d + 1) 45 4 0 [(0, (4, 0)), (1, (4, 1)), (2, (1, 1)), (4, (1, 2))] [] jpA_625 0 0 (fun k v hsN => k = 0 ∧ v = (1, 0) ∧ hsN = jpA_625 ++ []) := by
  refine jT_advK 10 (pcN := 17) (LN := [(0, (4, 0)), (1, (4, 1)), (2, (1, 1)), (4, (1, 2))]) (stN := [(4, 1), (4, 0)]) (hsN := jpA_625) (c1 := 0) (s1 := 0) (c2 := 0) (s2 := 0) (by decide +kernel) ?_ (by omega) (by omega)
  refine jT_fR [0, 1] 4 (y := 39) (pcN := 20) (dC := 0) (bc1 := 0) (bc2 := 0) (c1 := 0) (c2 := 0) (as := [(4, 0), (4, 1)]) (asC := [(4, 0), (4, 1)]) (LN := [(0, (4, 0)), (1, (4, 1)), (2, (1, 1)), (4, (1, 2))]) (stN := []) (hsC := [jgh, (101, [], [0, 0, 0, 0, 0, 0])]) (v := (1, 0)) (st2 := [(1, 0)]) (jA_39_144 (d := 0)) (by rfl) (by rfl) (by decide +kernel) (by rfl) (by rfl) (by omega) (by omega) (by omega) (by omega) rfl ?_
  refine jT_advK 11 (pcN := 36) (LN := [(6, (1, 0)), (0, (4, 0)), (1, (4, 1)), (2, (1, 1)), (4, (1, 2))]) (stN := [(1, 1), (1, 0)]) (hsN := jpA_625) (c1 := 0) (s1 := 0) (c2 := 0) (s2 := 0) (by decide +kernel) ?_ (by omega) (by omega)
  refine jT_fR [] 4 (y := 373) (pcN := 39) (dC := 0) (bc1 := 0) (bc2 := 0) (c1 := 0) (c2 := 0) (as := [(1, 0), (1, 1)]) (asC := [(1, 0), (1, 1)]) (LN := [(6, (1, 0)), (0, (4, 0)), (1, (4, 1)), (2, (1, 1)), (4, (1, 2))]) (stN := []) (hsC := []) (v := (1, 0)) (st2 := [(1, 0)]) (jA_373_145 (d := 0)) (by rfl) (by rfl) (by decide +kernel) (by rfl) (by rfl) (by omega) (by omega) (by omega) (by omega) rfl ?_
  exact jT_ret rfl (by decide) (by show 4 ≤ 4; decide) (by omega) (by omega) ⟨rfl, rfl, rfl⟩
theorem jA_44_221 {xs : List Int} {d : Nat} : jT xs (d + 2) 44 5 0 [(0, (4, 0)), (1, (4, 1)), (2, (1, 2))] [] jpA_626 0 0 (fun k v hsN => k = 0 ∧ v = (1, 0) ∧ hsN = jpA_626 ++ []) := by
  refine jT_advK 6 (pcN := 10) (LN := [(0, (4, 0)), (1, (4, 1)), (2, (1, 2))]) (stN := [(1, 2), (1, 1), (4, 4), (4, 0)]) (hsN := jpA_626) (c1 := 0) (s1 := 0) (c2 := 0) (s2 := 0) (by decide +kernel) ?_ (by omega) (by omega)
  refine jT_fR [0, 4, 2, 3] 5 (y := 45) (pcN := 13) (dC := 1) (bc1 := 0) (bc2 := 0) (c1 := 0) (c2 := 0) (as := [(4, 0), (4, 4), (1, 1), (1, 2)]) (asC := [(4, 0), (4, 1), (1, 1), (1, 2)]) (LN := [(0, (4, 0)), (1, (4, 1)), (2, (1, 2))]) (stN := []) (hsC := jpA_625) (v := (1, 0)) (st2 := [(1, 0)]) (jA_45_220 (d := 0)) (by rfl) (by rfl) (by decide +kernel) (by rfl) (by rfl) (by omega) (by omega) (by omega) (by omega) rfl ?_
  exact jT_ret rfl (by decide) (by show 5 ≤ 5; decide) (by omega) (by omega) ⟨rfl, rfl, rfl⟩
theorem jA_43_222 {xs : List Int} {d : Nat} : jT xs (d + 3) 43 5 0 [(0, (4, 0)), (1, (4, 1)), (2, (1, 1))] [] jpA_626 0 0 (fun k v hsN => k = 0 ∧ v = (1, 0) ∧ hsN = jpA_626 ++ []) := by
  refine jT_advK 5 (pcN := 7) (LN := [(0, (4, 0)), (1, (4, 1)), (2, (1, 1))]) (stN := [(1, 2), (4, 1), (4, 0)]) (hsN := jpA_626) (c1 := 0) (s1 := 0) (c2 := 0) (s2 := 0) (by decide +kernel) ?_ (by omega) (by omega)
  refine jT_fR [0, 1, 2, 3, 4] 5 (y := 44) (pcN := 10) (dC := 2) (bc1 := 0) (bc2 := 0) (c1 := 0) (c2 := 0) (as := [(4, 0), (4, 1), (1, 2)]) (asC := [(4, 0), (4, 1), (1, 2)]) (LN := [(0, (4, 0)), (1, (4, 1)), (2, (1, 1))]) (stN := []) (hsC := jpA_626) (v := (1, 0)) (st2 := [(1, 0)]) (jA_44_221 (d := 0)) (by rfl) (by rfl) (by decide +kernel) (by rfl) (by rfl) (by omega) (by omega) (by omega) (by omega) rfl ?_
  refine jT_advK 3 (pcN := 13) (LN := [(0, (4, 0)), (1, (4, 1)), (2, (1, 1))]) (stN := [(0, 2), (1, 1)]) (hsN := jpA_626) (c1 := 0) (s1 := 0) (c2 := 0) (s2 := 0) (by decide +kernel) ?_ (by omega) (by omega)
  refine jT_fR [] 5 (y := 374) (pcN := 16) (dC := 1) (bc1 := 0) (bc2 := 0) (c1 := 0) (c2 := 0) (as := [(1, 1), (0, 2)]) (asC := [(1, 1), (0, 2)]) (LN := [(0, (4, 0)), (1, (4, 1)), (2, (1, 1))]) (stN := []) (hsC := []) (v := (1, 0)) (st2 := [(1, 0)]) (jA_374_178 (d := 0)) (by rfl) (by rfl) (by decide +kernel) (by rfl) (by rfl) (by omega) (by omega) (by omega) (by omega) rfl ?_
  exact jT_ret rfl (by decide) (by show 5 ≤ 5; decide) (by omega) (by omega) ⟨rfl, rfl, rfl⟩
theorem jA_8_223 {xs : List Int} {d : Nat} : jT xs (d + 2) 8 0 0 [(0, (1, 0)), (2, (1, 1))] [] [] 2 8 (fun k v hsN => k = 0 ∧ v = (4, 1) ∧ hsN = [] ++ [(101, [], [0, 0, 0, 0, 0, 0]), (4, [(4, 0), (1, 1)], [])]) := by
  refine jT_advK 11 (pcN := 18) (LN := [(4, (4, 0)), (0, (1, 0)), (2, (1, 1))]) (stN := [(1, 1), (4, 0), (4, 1), (4, 1)]) (hsN := [(101, [], [0, 0, 0, 0, 0, 0]), (4, [(4, (-1)), (1, 0)], [])]) (c1 := 2) (s1 := 8) (c2 := 0) (s2 := 0) (by decide +kernel) ?_ (by omega) (by omega)
  refine jT_fB [1, 0] 2 (y := 9) (pcN := 21) (dC := 1) (bc1 := 0) (bc2 := 0) (c1 := 0) (c2 := 0) (as := [(4, 1), (4, 0), (1, 1)]) (asC := [(4, 0), (4, 1), (1, 1)]) (LN := [(4, (4, 0)), (0, (1, 0)), (2, (1, 1))]) (stN := [(4, 1)]) (hsC := [(4, [(4, (-1)), (1, 0)], []), (101, [], [0, 0, 0, 0, 0, 0])]) (hsD := [(4, [(4, 1), (1, 1)], []), (101, [], [0, 0, 0, 0, 0, 0])]) (v := (9, 0)) (st2 := [(4, 1)]) (hs2 := [(101, [], [0, 0, 0, 0, 0, 0]), (4, [(4, 0), (1, 1)], [])]) (jA_9_27 (d := 0)) (by rfl) (by rfl) (by decide +kernel) (by rfl) (by rfl) (by omega) (by omega) (by omega) (by omega) rfl (by decide +kernel) ?_
  exact jT_ret rfl (by decide) (by show 0 ≤ 2; decide) (by omega) (by omega) ⟨rfl, rfl, rfl⟩
def jpA_945 : List JC := [(4, [(4, 2), (1, 1)], []), (4, [(4, 3), (1, 1)], []), (101, [], [0, 0, 0, 0, 0, 0]), (101, [], [0, 0, 0, 0, 0, 0]), (101, [], [0, 0, 0, 0, 0, 0]), (4, [(4, (-1)), (1, 0)], [])]
def jpA_946 : List JC := [(4, [(4, 2), (1, 1)], []), (4, [(4, 3), (1, 1)], []), (101, [], [0, 0, 0, 0, 0, 0]), (101, [], [0, 0, 0, 0, 0, 0]), (101, [], [0, 0, 0, 0, 0, 0]), (4, [(4, 4), (1, 1)], [])]
def jpA_947 : List JC := [(4, [(4, 2), (1, 1)], []), (4, [(4, 3), (1, 1)], []), (101, [], [0, 0, 0, 0, 0, 0]), (101, [], [0, 0, 0, 0, 0, 0])]
theorem jA_11_224 {xs : List Int} {d : Nat} : jT xs (d + 2) 11 4 0 [(0, (4, 0)), (1, (4, 1)), (2, (0, 1))] [] jpA_947 2 8 (fun k v hsN => k = 0 ∧ v = (4, 5) ∧ hsN = jpA_947 ++ [(101, [], [0, 0, 0, 0, 0, 0]), (4, [(4, 4), (1, 1)], [])]) := by
  refine jT_advK 190 (pcN := 78) (LN := [(4, (0, 6)), (5, (1, 0)), (3, (4, 4)), (0, (4, 0)), (1, (4, 1)), (2, (0, 1))]) (stN := [(1, 1), (4, 4), (4, 5), (4, 5)]) (hsN := jpA_945) (c1 := 2) (s1 := 8) (c2 := 0) (s2 := 0) (by decide +kernel) ?_ (by omega) (by omega)
  refine jT_fB [5, 4] 6 (y := 9) (pcN := 81) (dC := 1) (bc1 := 0) (bc2 := 0) (c1 := 0) (c2 := 0) (as := [(4, 5), (4, 4), (1, 1)]) (asC := [(4, 0), (4, 1), (1, 1)]) (LN := [(4, (0, 6)), (5, (1, 0)), (3, (4, 4)), (0, (4, 0)), (1, (4, 1)), (2, (0, 1))]) (stN := [(4, 5)]) (hsC := [(4, [(4, (-1)), (1, 0)], []), (101, [], [0, 0, 0, 0, 0, 0])]) (hsD := [(4, [(4, 1), (1, 1)], []), (101, [], [0, 0, 0, 0, 0, 0])]) (v := (9, 0)) (st2 := [(4, 5)]) (hs2 := jpA_946) (jA_9_27 (d := 0)) (by rfl) (by rfl) (by decide +kernel) (by rfl) (by rfl) (by omega) (by omega) (by omega) (by omega) rfl (by decide +kernel) ?_
  exact jT_ret rfl (by decide) (by show 4 ≤ 6; decide) (by omega) (by omega) ⟨rfl, rfl, rfl⟩
theorem jI_123_22 : jmI (jm 123) 22 = (.aload_n 0, 1) := by rfl
theorem jI_123_23 : jmI (jm 123) 23 = (.getfield 67, 3) := by rfl
theorem jI_123_26 : jmI (jm 123) 26 = (.iload_n 2, 1) := by rfl
theorem jI_123_30 : jmI (jm 123) 30 = (.astore 4, 2) := by rfl
theorem jI_123_32 : jmI (jm 123) 32 = (.aload_n 0, 1) := by rfl
theorem jI_123_33 : jmI (jm 123) 33 = (.getfield 10, 3) := by rfl
theorem jI_123_36 : jmI (jm 123) 36 = (.aload 4, 2) := by rfl
theorem jI_123_38 : jmI (jm 123) 38 = (.iload_n 1, 1) := by rfl
theorem jI_123_39 : jmI (jm 123) 39 = (.i2l, 1) := by rfl
theorem jI_123_43 : jmI (jm 123) 43 = (.lstore 5, 2) := by rfl
theorem jI_123_45 : jmI (jm 123) 45 = (.lload 5, 2) := by rfl
theorem jI_123_47 : jmI (jm 123) 47 = (.iload_n 1, 1) := by rfl
theorem jI_123_48 : jmI (jm 123) 48 = (.i2l, 1) := by rfl
theorem jI_123_52 : jmI (jm 123) 52 = (.aload 4, 2) := by rfl
theorem jI_123_54 : jmI (jm 123) 54 = (.iconst 1, 1) := by rfl
def jpA_963 : List JC := [jzA_5, (8, [(4, 12), (4, 13)], []), jgh, jgh, jgh, jgh, jgh, jgh, jgh, jgh, jzA_79, jzA_640, jgh, jgh, jzA_641, jgh, jgh, jgh, jgh, (4, [(4, 20), (1, 1)], []), (101, [], [0, 0, 0, 0, 0, 0]), (101, [], [0, 0, 0, 0, 0, 0]), (4, [(4, 21), (1, 1)], []), (101, [], [0, 0, 0, 0, 0, 0]), (4, [(4, 23), (1, 1)], [])]
theorem jI_123_58 : jmI (jm 123) 58 = (.astore 7, 2) := by rfl
theorem jI_123_60 : jmI (jm 123) 60 = (.aload_n 0, 1) := by rfl
theorem jI_123_61 : jmI (jm 123) 61 = (.aload 7, 2) := by rfl
theorem jI_123_66 : jmI (jm 123) 66 = (.aload_n 0, 1) := by rfl
theorem jI_123_67 : jmI (jm 123) 67 = (.aload_n 0, 1) := by rfl
theorem jI_123_68 : jmI (jm 123) 68 = (.getfield 67, 3) := by rfl
theorem jI_123_71 : jmI (jm 123) 71 = (.iload_n 3, 1) := by rfl
theorem jI_123_72 : jmI (jm 123) 72 = (.aload 7, 2) := by rfl
def jzA_972 : JC := (9, [(4, 25), (4, 15), (4, 16), (4, 17), (4, 18)], [])
def jpA_973 : List JC := [jzA_5, (8, [(4, 12), (4, 13)], []), jgh, jgh, jgh, jgh, jgh, jgh, jgh, jgh, jzA_79, jzA_640, jgh, jgh, jzA_641, jgh, jgh, jgh, jgh, (4, [(4, 20), (1, 1)], []), (101, [], [0, 0, 0, 0, 0, 0]), (101, [], [0, 0, 0, 0, 0, 0]), (4, [(4, 21), (1, 1)], []), (101, [], [0, 0, 0, 0, 0, 0]), (4, [(4, 23), (1, 1)], []), jgh, jzA_972]
def jzA_974 : JC := (13, [(4, 1), (4, 2), (4, 3), (4, 4), (4, 5), (4, 6), (4, 7), (4, 8), (4, 9), (4, 10), (0, 1), (4, 26), (0, 0)], [])
def jpA_975 : List JC := [jzA_974, (8, [(4, 12), (4, 13)], []), jgh, jgh, jgh, jgh, jgh, jgh, jgh, jgh, jzA_102, jzA_640, jgh, jgh, jzA_641, jgh, jgh, jgh, jgh, (4, [(4, 20), (1, 1)], []), (101, [], [0, 0, 0, 0, 0, 0]), (101, [], [0, 0, 0, 0, 0, 0]), (4, [(4, 21), (1, 1)], []), (101, [], [0, 0, 0, 0, 0, 0]), (4, [(4, 23), (1, 1)], []), jgh, jzA_972]
theorem jI_123_80 : jmI (jm 123) 80 = (.lload 5, 2) := by rfl
theorem jI_123_82 : jmI (jm 123) 82 = (.l2i, 1) := by rfl
theorem jA_123_225 {xs : List Int} {d : Nat} {x2 x3 : Int} (h_x2 : 0 ≤ x2 ∧ x2 ≤ 7) (h_x3 : 0 ≤ x3 ∧ x3 ≤ 7) : jT xs (d + 4) 123 21 0 [(0, (4, 0)), (1, (0, 1)), (2, (0, x2)), (3, (0, x3))] [] jpA_642 6 29 (fun k v hsN => k = 0 ∧ v = (0, 0) ∧ hsN = jpA_975) := by
  refine jT_xaload_n (v := (4, 0)) (pcN := 1) jI_123_0 rfl rfl rfl ?_
  refine jT_xiload_n (v := (0, 1)) (pcN := 2) jI_123_1 rfl rfl rfl ?_
  refine jT_xiconst (k := 1) (pcN := 3) jI_123_2 rfl ?_
  refine jT_xbipush (k := 24) (pcN := 5) jI_123_3 (by decide) rfl ?_
  refine jT_fR [0] 21 (y := 116) (pcN := 8) (dC := 0) (bc1 := 0) (bc2 := 0) (c1 := 6) (c2 := 29) (as := [(4, 0), (0, 1), (0, 1), (0, 24)]) (asC := [(4, 0), (0, 1), (0, 1), (0, 24)]) (LN := [(0, (4, 0)), (1, (0, 1)), (2, (0, x2)), (3, (0, x3))]) (stN := []) (hsC := [jgh]) (v := (9, 0)) (st2 := []) (jA_116_109 (d := 0)) (by rfl) (by rfl) (by decide +kernel) (by rfl) (by rfl) (by omega) (by omega) (by omega) (by omega) rfl ?_
  refine jT_xaload_n (v := (4, 0)) (pcN := 9) jI_123_8 rfl rfl rfl ?_
  refine jT_xiload_n (v := (0, x2)) (pcN := 10) jI_123_9 rfl rfl rfl ?_
  refine jT_xbipush (k := 8) (pcN := 12) jI_123_10 (by decide) rfl ?_
  refine jT_fR [0] 21 (y := 115) (pcN := 15) (dC := 0) (bc1 := 0) (bc2 := 0) (c1 := 6) (c2 := 29) (as := [(4, 0), (0, x2), (0, 8)]) (asC := [(4, 0), (0, x2), (0, 8)]) (LN := [(0, (4, 0)), (1, (0, 1)), (2, (0, x2)), (3, (0, x3))]) (stN := []) (hsC := [jgh]) (v := (9, 0)) (st2 := []) (jA_115_16 (d := 0) (by omega)) (by rfl) (by rfl) (by decide +kernel) (by rfl) (by rfl) (by omega) (by omega) (by omega) (by omega) rfl ?_
  refine jT_xaload_n (v := (4, 0)) (pcN := 16) jI_123_15 rfl rfl rfl ?_
  refine jT_xiload_n (v := (0, x3)) (pcN := 17) jI_123_16 rfl rfl rfl ?_
  refine jT_xbipush (k := 8) (pcN := 19) jI_123_17 (by decide) rfl ?_
  refine jT_fR [0] 21 (y := 115) (pcN := 22) (dC := 0) (bc1 := 0) (bc2 := 0) (c1 := 6) (c2 := 29) (as := [(4, 0), (0, x3), (0, 8)]) (asC := [(4, 0), (0, x3), (0, 8)]) (LN := [(0, (4, 0)), (1, (0, 1)), (2, (0, x2)), (3, (0, x3))]) (stN := []) (hsC := [jgh]) (v := (9, 0)) (st2 := []) (jA_115_23 (d := 0) (by omega)) (by rfl) (by rfl) (by decide +kernel) (by rfl) (by rfl) (by omega) (by omega) (by omega) (by omega) rfl ?_
  refine jT_xaload_n (v := (4, 0)) (pcN := 23) jI_123_22 rfl rfl rfl ?_
  refine jT_xgetf (a := 0) (t := 1) (ci := 13) (fi := 11) (c := jzA_5) (v := (4, 11)) (pcN := 26) jI_123_23 rfl rfl rfl rfl rfl rfl rfl ?_
  refine jT_xiload_n (v := (0, x2)) (pcN := 27) jI_123_26 rfl rfl rfl ?_
  refine jT_fR [11, 14, 15, 16, 17, 18, 19] 21 (y := 57) (pcN := 30) (dC := 0) (bc1 := 0) (bc2 := 0) (c1 := 6) (c2 := 29) (as := [(4, 11), (0, x2)]) (asC := [(4, 0), (0, x2)]) (LN := [(0, (4, 0)), (1, (0, 1)), (2, (0, x2)), (3, (0, x3))]) (stN := []) (hsC := jpA_47) (v := (4, 6)) (st2 := [(4, 19)]) (jA_57_24 (d := 0) (by omega)) (by rfl) (by rfl) (by decide +kernel) (by rfl) (by rfl) (by omega) (by omega) (by omega) (by omega) rfl ?_
  refine jT_xastore (v := (4, 19)) (LN := [(4, (4, 19)), (0, (4, 0)), (1, (0, 1)), (2, (0, x2)), (3, (0, x3))]) (pcN := 32) jI_123_30 rfl rfl rfl rfl ?_
  refine jT_xaload_n (v := (4, 0)) (pcN := 33) jI_123_32 rfl rfl rfl ?_
  refine jT_xgetf (a := 0) (t := 1) (ci := 13) (fi := 0) (c := jzA_5) (v := (4, 1)) (pcN := 36) jI_123_33 rfl rfl rfl rfl rfl rfl rfl ?_
  refine jT_xaload (v := (4, 19)) (pcN := 38) jI_123_36 rfl rfl rfl ?_
  refine jT_xiload_n (v := (0, 1)) (pcN := 39) jI_123_38 rfl rfl rfl ?_
  refine jT_xi2l (x := 1) (z := 1) (pcN := 40) jI_123_39 rfl (by decide +kernel) rfl ?_
  refine jT_fR [1, 19, 12, 13, 20] 21 (y := 43) (pcN := 43) (dC := 3) (bc1 := 0) (bc2 := 0) (c1 := 6) (c2 := 29) (as := [(4, 1), (4, 19), (1, 1)]) (asC := [(4, 0), (4, 1), (1, 1)]) (LN := [(4, (4, 19)), (0, (4, 0)), (1, (0, 1)), (2, (0, x2)), (3, (0, x3))]) (stN := []) (hsC := jpA_626) (v := (1, 0)) (st2 := [(1, 0)]) (jA_43_222 (d := 0)) (by rfl) (by rfl) (by decide +kernel) (by rfl) (by rfl) (by omega) (by omega) (by omega) (by omega) rfl ?_
  refine jT_xlstore (v := (1, 0)) (LN := [(5, (1, 0)), (4, (4, 19)), (0, (4, 0)), (1, (0, 1)), (2, (0, x2)), (3, (0, x3))]) (pcN := 45) jI_123_43 rfl rfl rfl rfl ?_
  refine jT_xlload (v := (1, 0)) (pcN := 47) jI_123_45 rfl rfl rfl ?_
  refine jT_xiload_n (v := (0, 1)) (pcN := 48) jI_123_47 rfl rfl rfl ?_
  refine jT_xi2l (x := 1) (z := 1) (pcN := 49) jI_123_48 rfl (by decide +kernel) rfl ?_
  refine jT_fA [] 21 (y := 8) (pcN := 52) (dC := 2) (bc1 := 2) (bc2 := 8) (c1 := 4) (c2 := 21) (as := [(1, 0), (1, 1)]) (asC := [(1, 0), (1, 1)]) (LN := [(5, (1, 0)), (4, (4, 19)), (0, (4, 0)), (1, (0, 1)), (2, (0, x2)), (3, (0, x3))]) (stN := []) (hsC := []) (ex := [(101, [], [0, 0, 0, 0, 0, 0]), (4, [(4, 0), (1, 1)], [])]) (v := (4, 1)) (st2 := [(4, 22)]) (hs2 := jpA_643) (jA_8_223 (d := 0)) (by rfl) (by rfl) (by decide +kernel) (by rfl) (by rfl) (by omega) (by omega) (by omega) (by omega) rfl (by decide +kernel) ?_
  refine jT_xaload (v := (4, 19)) (pcN := 54) jI_123_52 rfl rfl rfl ?_
  refine jT_xiconst (k := 1) (pcN := 55) jI_123_54 rfl ?_
  refine jT_fA [22, 19, 21, 20] 23 (y := 11) (pcN := 58) (dC := 2) (bc1 := 2) (bc2 := 8) (c1 := 2) (c2 := 13) (as := [(4, 22), (4, 19), (0, 1)]) (asC := [(4, 0), (4, 1), (0, 1)]) (LN := [(5, (1, 0)), (4, (4, 19)), (0, (4, 0)), (1, (0, 1)), (2, (0, x2)), (3, (0, x3))]) (stN := []) (hsC := jpA_947) (ex := [(101, [], [0, 0, 0, 0, 0, 0]), (4, [(4, 4), (1, 1)], [])]) (v := (4, 5)) (st2 := [(4, 24)]) (hs2 := jpA_963) (jA_11_224 (d := 0)) (by rfl) (by rfl) (by decide +kernel) (by rfl) (by rfl) (by omega) (by omega) (by omega) (by omega) rfl (by decide +kernel) ?_
  refine jT_xastore (v := (4, 24)) (LN := [(7, (4, 24)), (5, (1, 0)), (4, (4, 19)), (0, (4, 0)), (1, (0, 1)), (2, (0, x2)), (3, (0, x3))]) (pcN := 60) jI_123_58 rfl rfl rfl rfl ?_
  refine jT_xaload_n (v := (4, 0)) (pcN := 61) jI_123_60 rfl rfl rfl ?_
  refine jT_xaload (v := (4, 24)) (pcN := 63) jI_123_61 rfl rfl rfl ?_
  refine jT_fR [0, 24, 23] 25 (y := 117) (pcN := 66) (dC := 2) (bc1 := 0) (bc2 := 0) (c1 := 2) (c2 := 13) (as := [(4, 0), (4, 24)]) (asC := [(4, 0), (4, 1)]) (LN := [(7, (4, 24)), (5, (1, 0)), (4, (4, 19)), (0, (4, 0)), (1, (0, 1)), (2, (0, x2)), (3, (0, x3))]) (stN := []) (hsC := [jgh, (4, [(4, 2), (1, 1)], []), (101, [], [0, 0, 0, 0, 0, 0])]) (v := (9, 0)) (st2 := []) (jA_117_31 (d := 0)) (by rfl) (by rfl) (by decide +kernel) (by rfl) (by rfl) (by omega) (by omega) (by omega) (by omega) rfl ?_
  refine jT_xaload_n (v := (4, 0)) (pcN := 67) jI_123_66 rfl rfl rfl ?_
  refine jT_xaload_n (v := (4, 0)) (pcN := 68) jI_123_67 rfl rfl rfl ?_
  refine jT_xgetf (a := 0) (t := 1) (ci := 13) (fi := 11) (c := jzA_5) (v := (4, 11)) (pcN := 71) jI_123_68 rfl rfl rfl rfl rfl rfl rfl ?_
  refine jT_xiload_n (v := (0, x3)) (pcN := 72) jI_123_71 rfl rfl rfl ?_
  refine jT_xaload (v := (4, 24)) (pcN := 74) jI_123_72 rfl rfl rfl ?_
  refine jT_fA [11, 24, 14, 15, 16, 17, 18, 23, 19] 25 (y := 58) (pcN := 77) (dC := 1) (bc1 := 2) (bc2 := 13) (c1 := 0) (c2 := 0) (as := [(4, 11), (0, x3), (4, 24)]) (asC := [(4, 0), (0, x3), (4, 1)]) (LN := [(7, (4, 24)), (5, (1, 0)), (4, (4, 19)), (0, (4, 0)), (1, (0, 1)), (2, (0, x2)), (3, (0, x3))]) (stN := [(4, 0)]) (hsC := jpA_74) (ex := [jgh, jzA_72]) (v := (4, 10)) (st2 := [(4, 26), (4, 0)]) (hs2 := jpA_973) (jA_58_181 (d := 0) (by omega)) (by rfl) (by rfl) (by decide +kernel) (by rfl) (by rfl) (by omega) (by omega) (by omega) (by omega) rfl (by decide +kernel) ?_
  refine jT_fB [0, 26, 1, 2, 3, 4, 5, 6, 7, 8, 9, 10, 11, 14, 15, 16, 17, 18] 27 (y := 100) (pcN := 80) (dC := 0) (bc1 := 0) (bc2 := 0) (c1 := 0) (c2 := 0) (as := [(4, 0), (4, 26)]) (asC := [(4, 0), (4, 1)]) (LN := [(7, (4, 24)), (5, (1, 0)), (4, (4, 19)), (0, (4, 0)), (1, (0, 1)), (2, (0, x2)), (3, (0, x3))]) (stN := []) (hsC := jpA_80) (hsD := jpA_78) (v := (9, 0)) (st2 := []) (hs2 := jpA_975) (jA_100_34 (d := 0)) (by rfl) (by rfl) (by decide +kernel) (by rfl) (by rfl) (by omega) (by omega) (by omega) (by omega) rfl (by decide +kernel) ?_
  refine jT_xlload (v := (1, 0)) (pcN := 82) jI_123_80 rfl rfl rfl ?_
  refine jT_xl2i (pcN := 83) jI_123_82 rfl rfl ?_
  exact jT_ret rfl (by decide) (by show 21 ≤ 27; decide) (by omega) (by omega) ⟨rfl, rfl, rfl⟩
def jzA_978 : JC := (13, [(4, 2), (4, 3), (4, 4), (4, 5), (4, 6), (4, 7), (4, 8), (4, 9), (4, 10), (4, 11), (0, 1), (4, 27), (0, 0)], [])
def jzA_979 : JC := (9, [(4, 26), (4, 16), (4, 17), (4, 18), (4, 19)], [])
def jpA_980 : List JC := [jzA_978, (101, [], [0]), (8, [(4, 13), (4, 14)], []), jgh, jgh, jgh, jgh, jgh, jgh, jgh, jgh, jzA_76, jzA_659, jgh, jgh, jzA_660, jgh, jgh, jgh, jgh, (4, [(4, 21), (1, 1)], []), (101, [], [0, 0, 0, 0, 0, 0]), (101, [], [0, 0, 0, 0, 0, 0]), (4, [(4, 22), (1, 1)], []), (101, [], [0, 0, 0, 0, 0, 0]), (4, [(4, 24), (1, 1)], []), jgh, jzA_979]
theorem jI_332_10 : jmI (jm 332) 10 = (.i2l, 1) := by rfl
theorem jI_332_12 : jmI (jm 332) 12 = (.goto 15, 3) := by rfl
theorem jI_332_27 : jmI (jm 332) 27 = (.iconst 0, 1) := by rfl
theorem jA_332_226 {xs : List Int} {d : Nat} {x2 x3 : Int} (h_x2 : 0 ≤ x2 ∧ x2 ≤ 7) (h_x3 : 0 ≤ x3 ∧ x3 ≤ 7) : jT xs (d + 5) 332 22 0 [(0, (4, 0)), (1, (0, 1)), (2, (0, x2)), (3, (0, x3)), (4, (4, 1))] [] jpA_666 6 29 (fun k v hsN => k = 0 ∧ v = (0, 0) ∧ hsN = jpA_980) := by
  refine jT_xaload (v := (4, 1)) (pcN := 2) jI_332_0 rfl rfl rfl ?_
  refine jT_xiconst (k := 0) (pcN := 3) jI_332_2 rfl ?_
  refine jT_xaload_n (v := (4, 0)) (pcN := 4) jI_332_3 rfl rfl rfl ?_
  refine jT_xiload_n (v := (0, 1)) (pcN := 5) jI_332_4 rfl rfl rfl ?_
  refine jT_xiload_n (v := (0, x2)) (pcN := 6) jI_332_5 rfl rfl rfl ?_
  refine jT_xiload_n (v := (0, x3)) (pcN := 7) jI_332_6 rfl rfl rfl ?_
  refine jT_fB [0, 2, 3, 4, 5, 6, 7, 8, 9, 10, 11, 12, 13, 14, 15, 16, 17, 18, 19, 20, 21] 22 (y := 123) (pcN := 10) (dC := 4) (bc1 := 6) (bc2 := 29) (c1 := 0) (c2 := 0) (as := [(4, 0), (0, 1), (0, x2), (0, x3)]) (asC := [(4, 0), (0, 1), (0, x2), (0, x3)]) (LN := [(0, (4, 0)), (1, (0, 1)), (2, (0, x2)), (3, (0, x3)), (4, (4, 1))]) (stN := [(0, 0), (4, 1)]) (hsC := jpA_642) (hsD := jpA_975) (v := (0, 0)) (st2 := [(0, 0), (0, 0), (4, 1)]) (hs2 := jpA_980) (jA_123_225 (d := 0) (by omega) (by omega)) (by rfl) (by rfl) (by decide +kernel) (by rfl) (by rfl) (by omega) (by omega) (by omega) (by omega) rfl (by decide +kernel) ?_
  refine jT_xi2l (x := 0) (z := 0) (pcN := 11) jI_332_10 rfl (by decide +kernel) rfl ?_
  refine jT_adv 1 (pcN := 12) (LN := [(0, (4, 0)), (1, (0, 1)), (2, (0, x2)), (3, (0, x3)), (4, (4, 1))]) (stN := []) (hsN := jpA_980) (c1 := 0) (s1 := 0) (c2 := 0) (s2 := 0) (by exact rfl) ?_ (by omega) (by omega)
  refine jT_xgoto (pcN := 27) jI_332_12 rfl ?_
  refine jT_xiconst (k := 0) (pcN := 28) jI_332_27 rfl ?_
  exact jT_ret rfl (by decide) (by show 22 ≤ 28; decide) (by omega) (by omega) ⟨rfl, rfl, rfl⟩
def jpA_984 : List JC := [jzA_21, jgh, jgh, jgh, jgh, jgh, jgh, (101, [], [0, 0, 0, 0, 0, 0]), jgh, jgh, jgh, jgh, jgh, jgh, jgh, jgh, (101, [], [0, 0, 0, 0, 0, 0])]
theorem jA_218_227 {xs : List Int} {d : Nat} : jT xs d 218 16 0 [(0, (4, 0)), (1, (1, 1))] [] jpA_147 1 6 (fun k v hsN => k = 0 ∧ v = (4, 16) ∧ hsN = jpA_147 ++ [(101, [], [0, 0, 0, 0, 0, 0])]) := by
  refine jT_advK 93 (pcN := 35) (LN := [(4, (0, 6)), (3, (4, 16)), (0, (4, 0)), (1, (1, 1))]) (stN := [(4, 16)]) (hsN := jpA_984) (c1 := 1) (s1 := 6) (c2 := 0) (s2 := 0) (by decide +kernel) ?_ (by omega) (by omega)
  exact jT_ret rfl (by decide) (by show 16 ≤ 17; decide) (by omega) (by omega) ⟨rfl, rfl, rfl⟩
def jpA_985 : List JC := [jzA_670, (101, [], [0, 0, 0, 0, 0, 0]), jgh, jgh, jgh, jgh, jgh, (130, [], [17, 18, 19, 20, 21, 22]), jgh, jgh, jgh, jgh, jgh, jgh, jgh, jgh, jgh, (100, [], (jenc (jlg 0))), jgh, jgh, jgh, jgh, jgh, (101, [], [1, 0, 0, 0, 0, 0])]
def jpA_986 : List JC := [jzA_670, (101, [], [0, 0, 0, 0, 0, 0]), jgh, jgh, jgh, jgh, jgh, (130, [], [17, 18, 19, 20, 21, 22]), jgh, jgh, jgh, jgh, jgh, jgh, jgh, jgh, jgh, (100, [], (jenc (jlg 0))), jgh, jgh, jgh, jgh, jgh, (101, [], [1, 0, 0, 0, 0, 0]), (101, [], [1, 0, 0, 0, 0, 0]), (100, [], (jenc 0)), (100, [], (jenc 1)), (100, [], (jenc (1 * (jlg 0)))), (101, [], [(-1), 0, 0, 0, 0, 0]), (100, [], (jenc 0)), (100, [], (jenc (-1))), (100, [], (jenc ((-1) * (jlg 0))))]
def jpA_987 : List JC := [jzA_670, (101, [], [0, 0, 0, 0, 0, 0]), jgh, jgh, jgh, jgh, jgh, (130, [], [17, 18, 19, 20, 21, 22]), jgh, jgh, jgh, jgh, jgh, jgh, jgh, jgh, jgh, (100, [], (jenc (jlg 0))), jgh, jgh, jgh, jgh, jgh]
theorem jA_216_228 {xs : List Int} {d : Nat} : jT xs (d + 6) 216 23 0 [(0, (4, 0)), (1, (4, 1)), (2, (1, 1))] [] jpA_987 9 354 (fun k v hsN => k = 0 ∧ v = (1, 0) ∧ hsN = jpA_987 ++ jpA_839) := by
  refine jT_advK 98 (pcN := 51) (LN := [(5, (0, 6)), (4, (4, 23)), (0, (4, 0)), (1, (4, 1)), (2, (1, 1))]) (stN := [(1, 2), (4, 23), (4, 0)]) (hsN := jpA_985) (c1 := 1) (s1 := 6) (c2 := 8) (s2 := 348) (by decide +kernel) ?_ (by omega) (by omega)
  refine jT_fA [0, 23, 2, 3, 4, 5, 6, 7, 8, 9, 10, 11, 12, 13, 14, 15, 16, 17, 18, 19, 20, 21, 22] 24 (y := 210) (pcN := 54) (dC := 5) (bc1 := 8) (bc2 := 348) (c1 := 0) (c2 := 0) (as := [(4, 0), (4, 23), (1, 2)]) (asC := [(4, 0), (4, 1), (1, 2)]) (LN := [(5, (0, 6)), (4, (4, 23)), (0, (4, 0)), (1, (4, 1)), (2, (1, 1))]) (stN := []) (hsC := jpA_829) (ex := jpA_836) (v := (1, 0)) (st2 := [(1, 0)]) (hs2 := jpA_986) (jA_210_191 (d := 0)) (by rfl) (by rfl) (by decide +kernel) (by rfl) (by rfl) (by omega) (by omega) (by omega) (by omega) rfl (by decide +kernel) ?_
  exact jT_ret rfl (by decide) (by show 23 ≤ 32; decide) (by omega) (by omega) ⟨rfl, rfl, rfl⟩
theorem jI_217_37 : jmI (jm 217) 37 = (.iconst 1, 1) := by rfl
theorem jI_217_38 : jmI (jm 217) 38 = (.goto 4, 3) := by rfl
theorem jI_217_51 : jmI (jm 217) 51 = (.aload_n 0, 1) := by rfl
theorem jI_217_52 : jmI (jm 217) 52 = (.iload_n 2, 1) := by rfl
theorem jI_217_56 : jmI (jm 217) 56 = (.aload_n 0, 1) := by rfl
theorem jI_217_57 : jmI (jm 217) 57 = (.aload_n 0, 1) := by rfl
theorem jI_217_58 : jmI (jm 217) 58 = (.iload_n 1, 1) := by rfl
theorem jI_217_59 : jmI (jm 217) 59 = (.i2l, 1) := by rfl
def jpA_996 : List JC := [jzA_21, (100, [], jS0), (100, [], []), jzA_196, jzA_197, jgh, (130, [], [24, 25, 26, 27, 28, 29]), (101, [], [0, 0, 0, 0, 0, 0]), jgh, jgh, jgh, jgh, jgh, jgh, jgh, jgh, (100, [], (List.replicate 1613 0)), jgh, jgh, jgh, jgh, jgh, jgh, jgh, (100, [], (jenc (jlg 0))), jgh, jgh, jgh, jgh, jgh, (101, [], [0, 0, 0, 0, 0, 0])]
theorem jI_217_63 : jmI (jm 217) 63 = (.aload_n 0, 1) := by rfl
theorem jI_217_64 : jmI (jm 217) 64 = (.getfield 35, 3) := by rfl
def jpA_999 : List JC := [jzA_21, (100, [], jS0), (100, [], []), jzA_196, jzA_197, jgh, (130, [], [24, 25, 26, 27, 28, 29]), (101, [], [0, 0, 0, 0, 0, 0]), jgh, jgh, jgh, jgh, jgh, jgh, jgh, jgh, (100, [], (List.replicate 1613 0)), jgh, jgh, jgh, jgh, jgh, jgh, jgh, (100, [], (jenc (jlg 0))), jgh, jgh, jgh, jgh, jgh, (101, [], [0, 0, 0, 0, 0, 0]), (101, [], [1, 0, 0, 0, 0, 0]), (101, [], [1, 0, 0, 0, 0, 0]), (100, [], (jenc 0)), (100, [], (jenc 1)), (100, [], (jenc (1 * (jlg 0)))), (101, [], [(-1), 0, 0, 0, 0, 0]), (100, [], (jenc 0)), (100, [], (jenc (-1))), (100, [], (jenc ((-1) * (jlg 0))))]
theorem jI_217_70 : jmI (jm 217) 70 = (.lstore 4, 2) := by rfl
theorem jI_217_72 : jmI (jm 217) 72 = (.iconst 0, 1) := by rfl
theorem jI_217_73 : jmI (jm 217) 73 = (.istore 6, 2) := by rfl
theorem jI_217_75 : jmI (jm 217) 75 = (.iload 6, 2) := by rfl
theorem jI_217_77 : jmI (jm 217) 77 = (.bipush 6, 2) := by rfl
theorem jI_217_79 : jmI (jm 217) 79 = (.if_icmp .ge 22, 3) := by rfl
theorem jI_217_82 : jmI (jm 217) 82 = (.aload_n 0, 1) := by rfl
theorem jI_217_83 : jmI (jm 217) 83 = (.getfield 31, 3) := by rfl
theorem jI_217_86 : jmI (jm 217) 86 = (.iload 6, 2) := by rfl
theorem jI_217_89 : jmI (jm 217) 89 = (.laload, 1) := by rfl
theorem jI_217_90 : jmI (jm 217) 90 = (.iload_n 1, 1) := by rfl
theorem jI_217_92 : jmI (jm 217) 92 = (.i2l, 1) := by rfl
theorem jI_217_93 : jmI (jm 217) 93 = (.lmul, 1) := by rfl
theorem jI_217_95 : jmI (jm 217) 95 = (.iinc 6 1, 3) := by rfl
theorem jI_217_98 : jmI (jm 217) 98 = (.goto (-23), 3) := by rfl
theorem jI_217_101 : jmI (jm 217) 101 = (.aload_n 0, 1) := by rfl
theorem jI_217_102 : jmI (jm 217) 102 = (.getfield 31, 3) := by rfl
theorem jI_217_105 : jmI (jm 217) 105 = (.iconst 0, 1) := by rfl
theorem jI_217_107 : jmI (jm 217) 107 = (.laload, 1) := by rfl
theorem jI_217_108 : jmI (jm 217) 108 = (.lload 4, 2) := by rfl
theorem jI_217_110 : jmI (jm 217) 110 = (.aload_n 0, 1) := by rfl
theorem jI_217_111 : jmI (jm 217) 111 = (.getfield 35, 3) := by rfl
theorem jI_217_114 : jmI (jm 217) 114 = (.lmul, 1) := by rfl
theorem jI_217_115 : jmI (jm 217) 115 = (.ladd, 1) := by rfl
theorem jI_217_117 : jmI (jm 217) 117 = (.aload_n 0, 1) := by rfl
theorem jI_217_119 : jmI (jm 217) 119 = (.getfield 35, 3) := by rfl
theorem jI_217_122 : jmI (jm 217) 122 = (.iload_n 1, 1) := by rfl
theorem jI_217_123 : jmI (jm 217) 123 = (.i2l, 1) := by rfl
theorem jI_217_124 : jmI (jm 217) 124 = (.lmul, 1) := by rfl
theorem jI_217_128 : jmI (jm 217) 128 = (.aload_n 0, 1) := by rfl
theorem jI_217_132 : jmI (jm 217) 132 = (.aload_n 0, 1) := by rfl
theorem jI_217_133 : jmI (jm 217) 133 = (.aload_n 0, 1) := by rfl
theorem jI_217_137 : jmI (jm 217) 137 = (.iconst 3, 1) := by rfl
theorem jI_217_141 : jmI (jm 217) 141 = (.ifCond .eq 5, 3) := by rfl
theorem jI_217_146 : jmI (jm 217) 146 = (.aload_n 0, 1) := by rfl
def jpA_1035 : List JC := [jzA_200, (100, [], jS0), (100, [], []), jzA_196, jzA_201, jgh, (130, [], [24, 25, 26, 27, 28, 29]), (101, [], [0, 0, 0, 0, 0, 0]), jgh, jgh, jgh, jgh, jgh, jgh, jgh, jgh, (100, [], jS0), jgh, jgh, jgh, jgh, jgh, jgh, jgh, (100, [], (jenc (jlg 0))), jgh, jgh, jgh, jgh, jgh, (101, [], [0, 0, 0, 0, 0, 0]), (101, [], [1, 0, 0, 0, 0, 0]), (101, [], [1, 0, 0, 0, 0, 0]), (100, [], (jenc 0)), (100, [], (jenc 1)), (100, [], (jenc (1 * (jlg 0)))), (101, [], [(-1), 0, 0, 0, 0, 0]), (100, [], (jenc 0)), (100, [], (jenc (-1))), (100, [], (jenc ((-1) * (jlg 0))))]
theorem jI_217_150 : jmI (jm 217) 150 = (.aload_n 0, 1) := by rfl
theorem jI_217_151 : jmI (jm 217) 151 = (.iload_n 3, 1) := by rfl
theorem jI_217_156 : jmI (jm 217) 156 = (.lload 4, 2) := by rfl
theorem jI_217_158 : jmI (jm 217) 158 = (.l2i, 1) := by rfl
theorem jA_217_229 {xs : List Int} {d : Nat} {x2 x3 : Int} (h_x2 : 0 ≤ x2 ∧ x2 ≤ 7) (h_x3 : 0 ≤ x3 ∧ x3 ≤ 7) : jT xs (d + 7) 217 30 0 [(0, (4, 0)), (1, (0, 1)), (2, (0, x2)), (3, (0, x3))] [] jpA_701 10 360 (fun k v hsN => k = 0 ∧ v = (0, 0) ∧ hsN = [jzA_200, (100, [], ((((((((((((((jS0).set ((7 * x3).toNat) 0)).set ((7 * x3 + 1).toNat) 0)).set ((7 * x3 + 2).toNat) 0)).set ((7 * x3 + 3).toNat) 0)).set ((7 * x3 + 4).toNat) 0)).set ((7 * x3 + 5).toNat) 0)).set ((7 * x3 + 6).toNat) 1)), (100, [], []), jzA_196, jzA_201, jgh, (130, [], [24, 25, 26, 27, 28, 29]), (101, [], [0, 0, 0, 0, 0, 0]), jgh, jgh, jgh, jgh, jgh, jgh, jgh, jgh, (100, [], jS0), jgh, jgh, jgh, jgh, jgh, jgh, jgh, (100, [], (jenc (jlg 0))), jgh, jgh, jgh, jgh, jgh, (101, [], [0, 0, 0, 0, 0, 0]), (101, [], [1, 0, 0, 0, 0, 0]), (101, [], [1, 0, 0, 0, 0, 0]), (100, [], (jenc 0)), (100, [], (jenc 1)), (100, [], (jenc (1 * (jlg 0)))), (101, [], [(-1), 0, 0, 0, 0, 0]), (100, [], (jenc 0)), (100, [], (jenc (-1))), (100, [], (jenc ((-1) * (jlg 0))))]) := by
  refine jT_xaload_n (v := (4, 0)) (pcN := 1) jI_217_0 rfl rfl rfl ?_
  refine jT_xiconst (k := 0) (pcN := 2) jI_217_1 rfl ?_
  refine jT_adv 1 (pcN := 5) (LN := [(0, (4, 0)), (1, (0, 1)), (2, (0, x2)), (3, (0, x3))]) (stN := []) (hsN := jpA_701) (c1 := 0) (s1 := 0) (c2 := 10) (s2 := 360) (by exact rfl) ?_ (by omega) (by omega)
  refine jT_xaload_n (v := (4, 0)) (pcN := 6) jI_217_5 rfl rfl rfl ?_
  refine jT_xiload_n (v := (0, 1)) (pcN := 7) jI_217_6 rfl rfl rfl ?_
  refine jT_xi2l (x := 1) (z := 1) (pcN := 8) jI_217_7 rfl (by decide +kernel) rfl ?_
  refine jT_xlconst (z := 1) (pcN := 9) jI_217_8 rfl rfl ?_
  refine jT_adv 1 (pcN := 12) (LN := [(0, (4, 0)), (1, (0, 1)), (2, (0, x2)), (3, (0, x3))]) (stN := [(1, 24), (1, 1), (1, 1), (4, 0)]) (hsN := jpA_701) (c1 := 0) (s1 := 0) (c2 := 10) (s2 := 360) (by exact rfl) ?_ (by omega) (by omega)
  refine jT_fR [] 30 (y := 189) (pcN := 15) (dC := 0) (bc1 := 0) (bc2 := 0) (c1 := 10) (c2 := 360) (as := [(1, 1), (1, 1), (1, 24)]) (asC := [(1, 1), (1, 1), (1, 24)]) (LN := [(0, (4, 0)), (1, (0, 1)), (2, (0, x2)), (3, (0, x3))]) (stN := [(4, 0)]) (hsC := []) (v := (0, 1)) (st2 := [(0, 1), (4, 0)]) (jA_189_113 (d := 0)) (by rfl) (by rfl) (by decide +kernel) (by rfl) (by rfl) (by omega) (by omega) (by omega) (by omega) rfl ?_
  refine jT_xiconst (k := 1) (pcN := 16) jI_217_15 rfl ?_
  refine jT_fR [0] 30 (y := 191) (pcN := 19) (dC := 0) (bc1 := 0) (bc2 := 0) (c1 := 10) (c2 := 360) (as := [(4, 0), (0, 1), (0, 1)]) (asC := [(4, 0), (0, 1), (0, 1)]) (LN := [(0, (4, 0)), (1, (0, 1)), (2, (0, x2)), (3, (0, x3))]) (stN := []) (hsC := [jgh]) (v := (0, 0)) (st2 := [(0, 0)]) (jA_191_38 (d := 0)) (by rfl) (by rfl) (by decide +kernel) (by rfl) (by rfl) (by omega) (by omega) (by omega) (by omega) rfl ?_
  refine jT_xifF (t := 49) (pcN := 22) jI_217_19 rfl (by decide +kernel) rfl rfl ?_
  refine jT_xaload_n (v := (4, 0)) (pcN := 23) jI_217_22 rfl rfl rfl ?_
  refine jT_xiload_n (v := (0, x2)) (pcN := 24) jI_217_23 rfl rfl rfl ?_
  refine jT_fR [] 30 (y := 188) (pcN := 27) (dC := 1) (bc1 := 0) (bc2 := 0) (c1 := 10) (c2 := 360) (as := [(0, x2)]) (asC := [(0, x2)]) (LN := [(0, (4, 0)), (1, (0, 1)), (2, (0, x2)), (3, (0, x3))]) (stN := [(4, 0)]) (hsC := []) (v := (0, 1)) (st2 := [(0, 1), (4, 0)]) (jA_188_20 (d := 0) (by omega)) (by rfl) (by rfl) (by decide +kernel) (by rfl) (by rfl) (by omega) (by omega) (by omega) (by omega) rfl ?_
  refine jT_xifF (t := 41) (pcN := 30) jI_217_27 rfl (by decide +kernel) rfl rfl ?_
  refine jT_xiload_n (v := (0, x3)) (pcN := 31) jI_217_30 rfl rfl rfl ?_
  refine jT_fR [] 30 (y := 188) (pcN := 34) (dC := 1) (bc1 := 0) (bc2 := 0) (c1 := 10) (c2 := 360) (as := [(0, x3)]) (asC := [(0, x3)]) (LN := [(0, (4, 0)), (1, (0, 1)), (2, (0, x2)), (3, (0, x3))]) (stN := [(4, 0)]) (hsC := []) (v := (0, 1)) (st2 := [(0, 1), (4, 0)]) (jA_188_37 (d := 0) (by omega)) (by rfl) (by rfl) (by decide +kernel) (by rfl) (by rfl) (by omega) (by omega) (by omega) (by omega) rfl ?_
  refine jT_xifF (t := 41) (pcN := 37) jI_217_34 rfl (by decide +kernel) rfl rfl ?_
  refine jT_xiconst (k := 1) (pcN := 38) jI_217_37 rfl ?_
  refine jT_xgoto (pcN := 42) jI_217_38 rfl ?_
  refine jT_xiconst (k := 2) (pcN := 43) jI_217_42 rfl ?_
  refine jT_fR [0] 30 (y := 191) (pcN := 46) (dC := 0) (bc1 := 0) (bc2 := 0) (c1 := 10) (c2 := 360) (as := [(4, 0), (0, 1), (0, 2)]) (asC := [(4, 0), (0, 1), (0, 2)]) (LN := [(0, (4, 0)), (1, (0, 1)), (2, (0, x2)), (3, (0, x3))]) (stN := []) (hsC := [jgh]) (v := (0, 0)) (st2 := [(0, 0)]) (jA_191_49 (d := 0)) (by rfl) (by rfl) (by decide +kernel) (by rfl) (by rfl) (by omega) (by omega) (by omega) (by omega) rfl ?_
  refine jT_xifT (pcN := 51) jI_217_46 rfl (by decide +kernel) rfl ?_
  refine jT_xaload_n (v := (4, 0)) (pcN := 52) jI_217_51 rfl rfl rfl ?_
  refine jT_xiload_n (v := (0, x2)) (pcN := 53) jI_217_52 rfl rfl rfl ?_
  refine jT_fR [0, 1, 2, 3, 4, 5, 6, 7, 8, 9, 10, 11, 12, 13, 14, 15] 30 (y := 202) (pcN := 56) (dC := 1) (bc1 := 0) (bc2 := 0) (c1 := 10) (c2 := 360) (as := [(4, 0), (0, x2)]) (asC := [(4, 0), (0, x2)]) (LN := [(0, (4, 0)), (1, (0, 1)), (2, (0, x2)), (3, (0, x3))]) (stN := []) (hsC := jpA_130) (v := (9, 0)) (st2 := []) (jA_202_41 (d := 0) (by omega)) (by rfl) (by rfl) (by decide +kernel) (by rfl) (by rfl) (by omega) (by omega) (by omega) (by omega) rfl ?_
  refine jT_xaload_n (v := (4, 0)) (pcN := 57) jI_217_56 rfl rfl rfl ?_
  refine jT_xaload_n (v := (4, 0)) (pcN := 58) jI_217_57 rfl rfl rfl ?_
  refine jT_xiload_n (v := (0, 1)) (pcN := 59) jI_217_58 rfl rfl rfl ?_
  refine jT_xi2l (x := 1) (z := 1) (pcN := 60) jI_217_59 rfl (by decide +kernel) rfl ?_
  refine jT_fA [0, 1, 2, 3, 4, 5, 6, 7, 8, 9, 10, 11, 12, 13, 14, 15] 30 (y := 218) (pcN := 63) (dC := 0) (bc1 := 1) (bc2 := 6) (c1 := 9) (c2 := 354) (as := [(4, 0), (1, 1)]) (asC := [(4, 0), (1, 1)]) (LN := [(0, (4, 0)), (1, (0, 1)), (2, (0, x2)), (3, (0, x3))]) (stN := [(4, 0)]) (hsC := jpA_147) (ex := [(101, [], [0, 0, 0, 0, 0, 0])]) (v := (4, 16)) (st2 := [(4, 30), (4, 0)]) (hs2 := jpA_996) (jA_218_227 (d := 0)) (by rfl) (by rfl) (by decide +kernel) (by rfl) (by rfl) (by omega) (by omega) (by omega) (by omega) rfl (by decide +kernel) ?_
  refine jT_xaload_n (v := (4, 0)) (pcN := 64) jI_217_63 rfl rfl rfl ?_
  refine jT_xgetf (a := 0) (t := 1) (ci := 14) (fi := 10) (c := jzA_21) (v := (1, 1)) (pcN := 67) jI_217_64 rfl rfl rfl rfl rfl rfl rfl ?_
  refine jT_fA [0, 30, 1, 2, 3, 4, 5, 6, 7, 8, 9, 10, 11, 12, 13, 14, 15, 24, 25, 26, 27, 28, 29] 31 (y := 216) (pcN := 70) (dC := 6) (bc1 := 9) (bc2 := 354) (c1 := 0) (c2 := 0) (as := [(4, 0), (4, 30), (1, 1)]) (asC := [(4, 0), (4, 1), (1, 1)]) (LN := [(0, (4, 0)), (1, (0, 1)), (2, (0, x2)), (3, (0, x3))]) (stN := []) (hsC := jpA_987) (ex := jpA_839) (v := (1, 0)) (st2 := [(1, 0)]) (hs2 := jpA_999) (jA_216_228 (d := 0)) (by rfl) (by rfl) (by decide +kernel) (by rfl) (by rfl) (by omega) (by omega) (by omega) (by omega) rfl (by decide +kernel) ?_
  refine jT_xlstore (v := (1, 0)) (LN := [(4, (1, 0)), (0, (4, 0)), (1, (0, 1)), (2, (0, x2)), (3, (0, x3))]) (pcN := 72) jI_217_70 rfl rfl rfl rfl ?_
  refine jT_xiconst (k := 0) (pcN := 73) jI_217_72 rfl ?_
  refine jT_xistore (v := (0, 0)) (LN := [(6, (0, 0)), (4, (1, 0)), (0, (4, 0)), (1, (0, 1)), (2, (0, x2)), (3, (0, x3))]) (pcN := 75) jI_217_73 rfl rfl rfl rfl ?_
  refine jT_xiload (v := (0, 0)) (pcN := 77) jI_217_75 rfl rfl rfl ?_
  refine jT_xbipush (k := 6) (pcN := 79) jI_217_77 (by decide) rfl ?_
  refine jT_xicF (t := 101) (pcN := 82) jI_217_79 rfl (by decide +kernel) rfl rfl ?_
  refine jT_xaload_n (v := (4, 0)) (pcN := 83) jI_217_82 rfl rfl rfl ?_
  refine jT_xgetf (a := 0) (t := 1) (ci := 14) (fi := 9) (c := jzA_21) (v := (4, 7)) (pcN := 86) jI_217_83 rfl rfl rfl rfl rfl rfl rfl ?_
  refine jT_xiload (v := (0, 0)) (pcN := 88) jI_217_86 rfl rfl rfl ?_
  refine jT_adv 1 (pcN := 89) (LN := [(6, (0, 0)), (4, (1, 0)), (0, (4, 0)), (1, (0, 1)), (2, (0, x2)), (3, (0, x3))]) (stN := [(0, 0), (4, 7), (0, 0), (4, 7)]) (hsN := jpA_999) (c1 := 0) (s1 := 0) (c2 := 0) (s2 := 0) (by exact rfl) ?_ (by omega) (by omega)
  refine jT_lald (x := 0) (a := 7) (j := 0) (fs := []) (X := [0, 0, 0, 0, 0, 0]) jI_217_89 rfl rfl rfl rfl ?_
  refine jT_eq (LN := [(6, (0, 0)), (4, (1, 0)), (0, (4, 0)), (1, (0, 1)), (2, (0, x2)), (3, (0, x3))]) (stN := [(1, 0), (0, 0), (4, 7)]) (hsN := jpA_999) rfl rfl rfl ?_
  refine jT_xiload_n (v := (0, 1)) (pcN := 91) jI_217_90 rfl rfl rfl ?_
  refine jT_adv 1 (pcN := 92) (LN := [(6, (0, 0)), (4, (1, 0)), (0, (4, 0)), (1, (0, 1)), (2, (0, x2)), (3, (0, x3))]) (stN := [(0, (-1)), (1, 0), (0, 0), (4, 7)]) (hsN := jpA_999) (c1 := 0) (s1 := 0) (c2 := 0) (s2 := 0) (by exact rfl) ?_ (by omega) (by omega)
  refine jT_xi2l (x := (-1)) (z := (-1)) (pcN := 93) jI_217_92 rfl (by decide +kernel) rfl ?_
  refine jT_xlmul (x := 0) (y := (-1)) (z := 0) (pcN := 94) jI_217_93 rfl (by decide) rfl ?_
  refine jT_adv 1 (pcN := 95) (LN := [(6, (0, 0)), (4, (1, 0)), (0, (4, 0)), (1, (0, 1)), (2, (0, x2)), (3, (0, x3))]) (stN := []) (hsN := jpA_999) (c1 := 0) (s1 := 0) (c2 := 0) (s2 := 0) (by exact rfl) ?_ (by omega) (by omega)
  refine jT_xiinc (x := 0) (z := 1) (LN := [(6, (0, 1)), (4, (1, 0)), (0, (4, 0)), (1, (0, 1)), (2, (0, x2)), (3, (0, x3))]) (pcN := 98) jI_217_95 rfl rfl (by decide) rfl rfl ?_
  refine jT_xgoto (pcN := 75) jI_217_98 rfl ?_
  refine jT_xiload (v := (0, 1)) (pcN := 77) jI_217_75 rfl rfl rfl ?_
  refine jT_xbipush (k := 6) (pcN := 79) jI_217_77 (by decide) rfl ?_
  refine jT_xicF (t := 101) (pcN := 82) jI_217_79 rfl (by decide +kernel) rfl rfl ?_
  refine jT_xaload_n (v := (4, 0)) (pcN := 83) jI_217_82 rfl rfl rfl ?_
  refine jT_xgetf (a := 0) (t := 1) (ci := 14) (fi := 9) (c := jzA_21) (v := (4, 7)) (pcN := 86) jI_217_83 rfl rfl rfl rfl rfl rfl rfl ?_
  refine jT_xiload (v := (0, 1)) (pcN := 88) jI_217_86 rfl rfl rfl ?_
  refine jT_adv 1 (pcN := 89) (LN := [(6, (0, 1)), (4, (1, 0)), (0, (4, 0)), (1, (0, 1)), (2, (0, x2)), (3, (0, x3))]) (stN := [(0, 1), (4, 7), (0, 1), (4, 7)]) (hsN := jpA_999) (c1 := 0) (s1 := 0) (c2 := 0) (s2 := 0) (by exact rfl) ?_ (by omega) (by omega)
  refine jT_lald (x := 0) (a := 7) (j := 1) (fs := []) (X := [0, 0, 0, 0, 0, 0]) jI_217_89 rfl rfl rfl rfl ?_
  refine jT_eq (LN := [(6, (0, 1)), (4, (1, 0)), (0, (4, 0)), (1, (0, 1)), (2, (0, x2)), (3, (0, x3))]) (stN := [(1, 0), (0, 1), (4, 7)]) (hsN := jpA_999) rfl rfl rfl ?_
  refine jT_xiload_n (v := (0, 1)) (pcN := 91) jI_217_90 rfl rfl rfl ?_
  refine jT_adv 1 (pcN := 92) (LN := [(6, (0, 1)), (4, (1, 0)), (0, (4, 0)), (1, (0, 1)), (2, (0, x2)), (3, (0, x3))]) (stN := [(0, (-1)), (1, 0), (0, 1), (4, 7)]) (hsN := jpA_999) (c1 := 0) (s1 := 0) (c2 := 0) (s2 := 0) (by exact rfl) ?_ (by omega) (by omega)
  refine jT_xi2l (x := (-1)) (z := (-1)) (pcN := 93) jI_217_92 rfl (by decide +kernel) rfl ?_
  refine jT_xlmul (x := 0) (y := (-1)) (z := 0) (pcN := 94) jI_217_93 rfl (by decide) rfl ?_
  refine jT_adv 1 (pcN := 95) (LN := [(6, (0, 1)), (4, (1, 0)), (0, (4, 0)), (1, (0, 1)), (2, (0, x2)), (3, (0, x3))]) (stN := []) (hsN := jpA_999) (c1 := 0) (s1 := 0) (c2 := 0) (s2 := 0) (by exact rfl) ?_ (by omega) (by omega)
  refine jT_xiinc (x := 1) (z := 2) (LN := [(6, (0, 2)), (4, (1, 0)), (0, (4, 0)), (1, (0, 1)), (2, (0, x2)), (3, (0, x3))]) (pcN := 98) jI_217_95 rfl rfl (by decide) rfl rfl ?_
  refine jT_xgoto (pcN := 75) jI_217_98 rfl ?_
  refine jT_xiload (v := (0, 2)) (pcN := 77) jI_217_75 rfl rfl rfl ?_
  refine jT_xbipush (k := 6) (pcN := 79) jI_217_77 (by decide) rfl ?_
  refine jT_xicF (t := 101) (pcN := 82) jI_217_79 rfl (by decide +kernel) rfl rfl ?_
  refine jT_xaload_n (v := (4, 0)) (pcN := 83) jI_217_82 rfl rfl rfl ?_
  refine jT_xgetf (a := 0) (t := 1) (ci := 14) (fi := 9) (c := jzA_21) (v := (4, 7)) (pcN := 86) jI_217_83 rfl rfl rfl rfl rfl rfl rfl ?_
  refine jT_xiload (v := (0, 2)) (pcN := 88) jI_217_86 rfl rfl rfl ?_
  refine jT_adv 1 (pcN := 89) (LN := [(6, (0, 2)), (4, (1, 0)), (0, (4, 0)), (1, (0, 1)), (2, (0, x2)), (3, (0, x3))]) (stN := [(0, 2), (4, 7), (0, 2), (4, 7)]) (hsN := jpA_999) (c1 := 0) (s1 := 0) (c2 := 0) (s2 := 0) (by exact rfl) ?_ (by omega) (by omega)
  refine jT_lald (x := 0) (a := 7) (j := 2) (fs := []) (X := [0, 0, 0, 0, 0, 0]) jI_217_89 rfl rfl rfl rfl ?_
  refine jT_eq (LN := [(6, (0, 2)), (4, (1, 0)), (0, (4, 0)), (1, (0, 1)), (2, (0, x2)), (3, (0, x3))]) (stN := [(1, 0), (0, 2), (4, 7)]) (hsN := jpA_999) rfl rfl rfl ?_
  refine jT_xiload_n (v := (0, 1)) (pcN := 91) jI_217_90 rfl rfl rfl ?_
  refine jT_adv 1 (pcN := 92) (LN := [(6, (0, 2)), (4, (1, 0)), (0, (4, 0)), (1, (0, 1)), (2, (0, x2)), (3, (0, x3))]) (stN := [(0, (-1)), (1, 0), (0, 2), (4, 7)]) (hsN := jpA_999) (c1 := 0) (s1 := 0) (c2 := 0) (s2 := 0) (by exact rfl) ?_ (by omega) (by omega)
  refine jT_xi2l (x := (-1)) (z := (-1)) (pcN := 93) jI_217_92 rfl (by decide +kernel) rfl ?_
  refine jT_xlmul (x := 0) (y := (-1)) (z := 0) (pcN := 94) jI_217_93 rfl (by decide) rfl ?_
  refine jT_adv 1 (pcN := 95) (LN := [(6, (0, 2)), (4, (1, 0)), (0, (4, 0)), (1, (0, 1)), (2, (0, x2)), (3, (0, x3))]) (stN := []) (hsN := jpA_999) (c1 := 0) (s1 := 0) (c2 := 0) (s2 := 0) (by exact rfl) ?_ (by omega) (by omega)
  refine jT_xiinc (x := 2) (z := 3) (LN := [(6, (0, 3)), (4, (1, 0)), (0, (4, 0)), (1, (0, 1)), (2, (0, x2)), (3, (0, x3))]) (pcN := 98) jI_217_95 rfl rfl (by decide) rfl rfl ?_
  refine jT_xgoto (pcN := 75) jI_217_98 rfl ?_
  refine jT_xiload (v := (0, 3)) (pcN := 77) jI_217_75 rfl rfl rfl ?_
  refine jT_xbipush (k := 6) (pcN := 79) jI_217_77 (by decide) rfl ?_
  refine jT_xicF (t := 101) (pcN := 82) jI_217_79 rfl (by decide +kernel) rfl rfl ?_
  refine jT_xaload_n (v := (4, 0)) (pcN := 83) jI_217_82 rfl rfl rfl ?_
  refine jT_xgetf (a := 0) (t := 1) (ci := 14) (fi := 9) (c := jzA_21) (v := (4, 7)) (pcN := 86) jI_217_83 rfl rfl rfl rfl rfl rfl rfl ?_
  refine jT_xiload (v := (0, 3)) (pcN := 88) jI_217_86 rfl rfl rfl ?_
  refine jT_adv 1 (pcN := 89) (LN := [(6, (0, 3)), (4, (1, 0)), (0, (4, 0)), (1, (0, 1)), (2, (0, x2)), (3, (0, x3))]) (stN := [(0, 3), (4, 7), (0, 3), (4, 7)]) (hsN := jpA_999) (c1 := 0) (s1 := 0) (c2 := 0) (s2 := 0) (by exact rfl) ?_ (by omega) (by omega)
  refine jT_lald (x := 0) (a := 7) (j := 3) (fs := []) (X := [0, 0, 0, 0, 0, 0]) jI_217_89 rfl rfl rfl rfl ?_
  refine jT_eq (LN := [(6, (0, 3)), (4, (1, 0)), (0, (4, 0)), (1, (0, 1)), (2, (0, x2)), (3, (0, x3))]) (stN := [(1, 0), (0, 3), (4, 7)]) (hsN := jpA_999) rfl rfl rfl ?_
  refine jT_xiload_n (v := (0, 1)) (pcN := 91) jI_217_90 rfl rfl rfl ?_
  refine jT_adv 1 (pcN := 92) (LN := [(6, (0, 3)), (4, (1, 0)), (0, (4, 0)), (1, (0, 1)), (2, (0, x2)), (3, (0, x3))]) (stN := [(0, (-1)), (1, 0), (0, 3), (4, 7)]) (hsN := jpA_999) (c1 := 0) (s1 := 0) (c2 := 0) (s2 := 0) (by exact rfl) ?_ (by omega) (by omega)
  refine jT_xi2l (x := (-1)) (z := (-1)) (pcN := 93) jI_217_92 rfl (by decide +kernel) rfl ?_
  refine jT_xlmul (x := 0) (y := (-1)) (z := 0) (pcN := 94) jI_217_93 rfl (by decide) rfl ?_
  refine jT_adv 1 (pcN := 95) (LN := [(6, (0, 3)), (4, (1, 0)), (0, (4, 0)), (1, (0, 1)), (2, (0, x2)), (3, (0, x3))]) (stN := []) (hsN := jpA_999) (c1 := 0) (s1 := 0) (c2 := 0) (s2 := 0) (by exact rfl) ?_ (by omega) (by omega)
  refine jT_xiinc (x := 3) (z := 4) (LN := [(6, (0, 4)), (4, (1, 0)), (0, (4, 0)), (1, (0, 1)), (2, (0, x2)), (3, (0, x3))]) (pcN := 98) jI_217_95 rfl rfl (by decide) rfl rfl ?_
  refine jT_xgoto (pcN := 75) jI_217_98 rfl ?_
  refine jT_xiload (v := (0, 4)) (pcN := 77) jI_217_75 rfl rfl rfl ?_
  refine jT_xbipush (k := 6) (pcN := 79) jI_217_77 (by decide) rfl ?_
  refine jT_xicF (t := 101) (pcN := 82) jI_217_79 rfl (by decide +kernel) rfl rfl ?_
  refine jT_xaload_n (v := (4, 0)) (pcN := 83) jI_217_82 rfl rfl rfl ?_
  refine jT_xgetf (a := 0) (t := 1) (ci := 14) (fi := 9) (c := jzA_21) (v := (4, 7)) (pcN := 86) jI_217_83 rfl rfl rfl rfl rfl rfl rfl ?_
  refine jT_xiload (v := (0, 4)) (pcN := 88) jI_217_86 rfl rfl rfl ?_
  refine jT_adv 1 (pcN := 89) (LN := [(6, (0, 4)), (4, (1, 0)), (0, (4, 0)), (1, (0, 1)), (2, (0, x2)), (3, (0, x3))]) (stN := [(0, 4), (4, 7), (0, 4), (4, 7)]) (hsN := jpA_999) (c1 := 0) (s1 := 0) (c2 := 0) (s2 := 0) (by exact rfl) ?_ (by omega) (by omega)
  refine jT_lald (x := 0) (a := 7) (j := 4) (fs := []) (X := [0, 0, 0, 0, 0, 0]) jI_217_89 rfl rfl rfl rfl ?_
  refine jT_eq (LN := [(6, (0, 4)), (4, (1, 0)), (0, (4, 0)), (1, (0, 1)), (2, (0, x2)), (3, (0, x3))]) (stN := [(1, 0), (0, 4), (4, 7)]) (hsN := jpA_999) rfl rfl rfl ?_
  refine jT_xiload_n (v := (0, 1)) (pcN := 91) jI_217_90 rfl rfl rfl ?_
  refine jT_adv 1 (pcN := 92) (LN := [(6, (0, 4)), (4, (1, 0)), (0, (4, 0)), (1, (0, 1)), (2, (0, x2)), (3, (0, x3))]) (stN := [(0, (-1)), (1, 0), (0, 4), (4, 7)]) (hsN := jpA_999) (c1 := 0) (s1 := 0) (c2 := 0) (s2 := 0) (by exact rfl) ?_ (by omega) (by omega)
  refine jT_xi2l (x := (-1)) (z := (-1)) (pcN := 93) jI_217_92 rfl (by decide +kernel) rfl ?_
  refine jT_xlmul (x := 0) (y := (-1)) (z := 0) (pcN := 94) jI_217_93 rfl (by decide) rfl ?_
  refine jT_adv 1 (pcN := 95) (LN := [(6, (0, 4)), (4, (1, 0)), (0, (4, 0)), (1, (0, 1)), (2, (0, x2)), (3, (0, x3))]) (stN := []) (hsN := jpA_999) (c1 := 0) (s1 := 0) (c2 := 0) (s2 := 0) (by exact rfl) ?_ (by omega) (by omega)
  refine jT_xiinc (x := 4) (z := 5) (LN := [(6, (0, 5)), (4, (1, 0)), (0, (4, 0)), (1, (0, 1)), (2, (0, x2)), (3, (0, x3))]) (pcN := 98) jI_217_95 rfl rfl (by decide) rfl rfl ?_
  refine jT_xgoto (pcN := 75) jI_217_98 rfl ?_
  refine jT_xiload (v := (0, 5)) (pcN := 77) jI_217_75 rfl rfl rfl ?_
  refine jT_xbipush (k := 6) (pcN := 79) jI_217_77 (by decide) rfl ?_
  refine jT_xicF (t := 101) (pcN := 82) jI_217_79 rfl (by decide +kernel) rfl rfl ?_
  refine jT_xaload_n (v := (4, 0)) (pcN := 83) jI_217_82 rfl rfl rfl ?_
  refine jT_xgetf (a := 0) (t := 1) (ci := 14) (fi := 9) (c := jzA_21) (v := (4, 7)) (pcN := 86) jI_217_83 rfl rfl rfl rfl rfl rfl rfl ?_
  refine jT_xiload (v := (0, 5)) (pcN := 88) jI_217_86 rfl rfl rfl ?_
  refine jT_adv 1 (pcN := 89) (LN := [(6, (0, 5)), (4, (1, 0)), (0, (4, 0)), (1, (0, 1)), (2, (0, x2)), (3, (0, x3))]) (stN := [(0, 5), (4, 7), (0, 5), (4, 7)]) (hsN := jpA_999) (c1 := 0) (s1 := 0) (c2 := 0) (s2 := 0) (by exact rfl) ?_ (by omega) (by omega)
  refine jT_lald (x := 0) (a := 7) (j := 5) (fs := []) (X := [0, 0, 0, 0, 0, 0]) jI_217_89 rfl rfl rfl rfl ?_
  refine jT_eq (LN := [(6, (0, 5)), (4, (1, 0)), (0, (4, 0)), (1, (0, 1)), (2, (0, x2)), (3, (0, x3))]) (stN := [(1, 0), (0, 5), (4, 7)]) (hsN := jpA_999) rfl rfl rfl ?_
  refine jT_xiload_n (v := (0, 1)) (pcN := 91) jI_217_90 rfl rfl rfl ?_
  refine jT_adv 1 (pcN := 92) (LN := [(6, (0, 5)), (4, (1, 0)), (0, (4, 0)), (1, (0, 1)), (2, (0, x2)), (3, (0, x3))]) (stN := [(0, (-1)), (1, 0), (0, 5), (4, 7)]) (hsN := jpA_999) (c1 := 0) (s1 := 0) (c2 := 0) (s2 := 0) (by exact rfl) ?_ (by omega) (by omega)
  refine jT_xi2l (x := (-1)) (z := (-1)) (pcN := 93) jI_217_92 rfl (by decide +kernel) rfl ?_
  refine jT_xlmul (x := 0) (y := (-1)) (z := 0) (pcN := 94) jI_217_93 rfl (by decide) rfl ?_
  refine jT_adv 1 (pcN := 95) (LN := [(6, (0, 5)), (4, (1, 0)), (0, (4, 0)), (1, (0, 1)), (2, (0, x2)), (3, (0, x3))]) (stN := []) (hsN := jpA_999) (c1 := 0) (s1 := 0) (c2 := 0) (s2 := 0) (by exact rfl) ?_ (by omega) (by omega)
  refine jT_xiinc (x := 5) (z := 6) (LN := [(6, (0, 6)), (4, (1, 0)), (0, (4, 0)), (1, (0, 1)), (2, (0, x2)), (3, (0, x3))]) (pcN := 98) jI_217_95 rfl rfl (by decide) rfl rfl ?_
  refine jT_xgoto (pcN := 75) jI_217_98 rfl ?_
  refine jT_xiload (v := (0, 6)) (pcN := 77) jI_217_75 rfl rfl rfl ?_
  refine jT_xbipush (k := 6) (pcN := 79) jI_217_77 (by decide) rfl ?_
  refine jT_xicT (pcN := 101) jI_217_79 rfl (by decide +kernel) rfl ?_
  refine jT_xaload_n (v := (4, 0)) (pcN := 102) jI_217_101 rfl rfl rfl ?_
  refine jT_xgetf (a := 0) (t := 1) (ci := 14) (fi := 9) (c := jzA_21) (v := (4, 7)) (pcN := 105) jI_217_102 rfl rfl rfl rfl rfl rfl rfl ?_
  refine jT_xiconst (k := 0) (pcN := 106) jI_217_105 rfl ?_
  refine jT_adv 1 (pcN := 107) (LN := [(6, (0, 6)), (4, (1, 0)), (0, (4, 0)), (1, (0, 1)), (2, (0, x2)), (3, (0, x3))]) (stN := [(0, 0), (4, 7), (0, 0), (4, 7)]) (hsN := jpA_999) (c1 := 0) (s1 := 0) (c2 := 0) (s2 := 0) (by exact rfl) ?_ (by omega) (by omega)
  refine jT_lald (x := 0) (a := 7) (j := 0) (fs := []) (X := [0, 0, 0, 0, 0, 0]) jI_217_107 rfl rfl rfl rfl ?_
  refine jT_eq (LN := [(6, (0, 6)), (4, (1, 0)), (0, (4, 0)), (1, (0, 1)), (2, (0, x2)), (3, (0, x3))]) (stN := [(1, 0), (0, 0), (4, 7)]) (hsN := jpA_999) rfl rfl rfl ?_
  refine jT_xlload (v := (1, 0)) (pcN := 110) jI_217_108 rfl rfl rfl ?_
  refine jT_xaload_n (v := (4, 0)) (pcN := 111) jI_217_110 rfl rfl rfl ?_
  refine jT_xgetf (a := 0) (t := 1) (ci := 14) (fi := 10) (c := jzA_21) (v := (1, 1)) (pcN := 114) jI_217_111 rfl rfl rfl rfl rfl rfl rfl ?_
  refine jT_xlmul (x := 0) (y := 1) (z := 0) (pcN := 115) jI_217_114 rfl (by decide) rfl ?_
  refine jT_xladd (x := 0) (y := 0) (z := 0) (pcN := 116) jI_217_115 rfl (by decide) rfl ?_
  refine jT_adv 1 (pcN := 117) (LN := [(6, (0, 6)), (4, (1, 0)), (0, (4, 0)), (1, (0, 1)), (2, (0, x2)), (3, (0, x3))]) (stN := []) (hsN := jpA_999) (c1 := 0) (s1 := 0) (c2 := 0) (s2 := 0) (by exact rfl) ?_ (by omega) (by omega)
  refine jT_xaload_n (v := (4, 0)) (pcN := 118) jI_217_117 rfl rfl rfl ?_
  refine jT_adv 1 (pcN := 119) (LN := [(6, (0, 6)), (4, (1, 0)), (0, (4, 0)), (1, (0, 1)), (2, (0, x2)), (3, (0, x3))]) (stN := [(4, 0), (4, 0)]) (hsN := jpA_999) (c1 := 0) (s1 := 0) (c2 := 0) (s2 := 0) (by exact rfl) ?_ (by omega) (by omega)
  refine jT_xgetf (a := 0) (t := 1) (ci := 14) (fi := 10) (c := jzA_21) (v := (1, 1)) (pcN := 122) jI_217_119 rfl rfl rfl rfl rfl rfl rfl ?_
  refine jT_xiload_n (v := (0, 1)) (pcN := 123) jI_217_122 rfl rfl rfl ?_
  refine jT_xi2l (x := 1) (z := 1) (pcN := 124) jI_217_123 rfl (by decide +kernel) rfl ?_
  refine jT_xlmul (x := 1) (y := 1) (z := 1) (pcN := 125) jI_217_124 rfl (by decide) rfl ?_
  refine jT_adv 1 (pcN := 128) (LN := [(6, (0, 6)), (4, (1, 0)), (0, (4, 0)), (1, (0, 1)), (2, (0, x2)), (3, (0, x3))]) (stN := []) (hsN := jpA_999) (c1 := 0) (s1 := 0) (c2 := 0) (s2 := 0) (by exact rfl) ?_ (by omega) (by omega)
  refine jT_xaload_n (v := (4, 0)) (pcN := 129) jI_217_128 rfl rfl rfl ?_
  refine jT_fR [0, 1, 2, 3, 4, 5, 6, 7, 8, 9, 10, 11, 12, 13, 14, 15] 40 (y := 199) (pcN := 132) (dC := 1) (bc1 := 0) (bc2 := 0) (c1 := 0) (c2 := 0) (as := [(4, 0)]) (asC := [(4, 0)]) (LN := [(6, (0, 6)), (4, (1, 0)), (0, (4, 0)), (1, (0, 1)), (2, (0, x2)), (3, (0, x3))]) (stN := []) (hsC := jpA_147) (v := (9, 0)) (st2 := []) (jA_199_45 (d := 0)) (by rfl) (by rfl) (by decide +kernel) (by rfl) (by rfl) (by omega) (by omega) (by omega) (by omega) rfl ?_
  refine jT_xaload_n (v := (4, 0)) (pcN := 133) jI_217_132 rfl rfl rfl ?_
  refine jT_xaload_n (v := (4, 0)) (pcN := 134) jI_217_133 rfl rfl rfl ?_
  refine jT_fR [0, 1, 2, 3, 4, 5, 6, 7, 8, 9, 10, 11, 12, 13, 14, 15] 40 (y := 205) (pcN := 137) (dC := 1) (bc1 := 0) (bc2 := 0) (c1 := 0) (c2 := 0) (as := [(4, 0)]) (asC := [(4, 0)]) (LN := [(6, (0, 6)), (4, (1, 0)), (0, (4, 0)), (1, (0, 1)), (2, (0, x2)), (3, (0, x3))]) (stN := [(4, 0)]) (hsC := jpA_147) (v := (0, 1)) (st2 := [(0, 1), (4, 0)]) (jA_205_48 (d := 0)) (by rfl) (by rfl) (by decide +kernel) (by rfl) (by rfl) (by omega) (by omega) (by omega) (by omega) rfl ?_
  refine jT_xiconst (k := 3) (pcN := 138) jI_217_137 rfl ?_
  refine jT_fR [0] 40 (y := 191) (pcN := 141) (dC := 0) (bc1 := 0) (bc2 := 0) (c1 := 0) (c2 := 0) (as := [(4, 0), (0, 1), (0, 3)]) (asC := [(4, 0), (0, 1), (0, 3)]) (LN := [(6, (0, 6)), (4, (1, 0)), (0, (4, 0)), (1, (0, 1)), (2, (0, x2)), (3, (0, x3))]) (stN := []) (hsC := [jgh]) (v := (0, 0)) (st2 := [(0, 0)]) (jA_191_117 (d := 0)) (by rfl) (by rfl) (by decide +kernel) (by rfl) (by rfl) (by omega) (by omega) (by omega) (by omega) rfl ?_
  refine jT_xifT (pcN := 146) jI_217_141 rfl (by decide +kernel) rfl ?_
  refine jT_xaload_n (v := (4, 0)) (pcN := 147) jI_217_146 rfl rfl rfl ?_
  refine jT_fB [0, 1, 2, 3, 4, 5, 6, 7, 8, 9, 10, 11, 12, 13, 14, 15, 16, 17, 18, 19, 20, 21, 22, 23] 40 (y := 195) (pcN := 150) (dC := 0) (bc1 := 0) (bc2 := 0) (c1 := 0) (c2 := 0) (as := [(4, 0)]) (asC := [(4, 0)]) (LN := [(6, (0, 6)), (4, (1, 0)), (0, (4, 0)), (1, (0, 1)), (2, (0, x2)), (3, (0, x3))]) (stN := []) (hsC := jpA_198) (hsD := jpA_202) (v := (9, 0)) (st2 := []) (hs2 := jpA_1035) (jA_195_50 (d := 0)) (by rfl) (by rfl) (by decide +kernel) (by rfl) (by rfl) (by omega) (by omega) (by omega) (by omega) rfl (by decide +kernel) ?_
  refine jT_xaload_n (v := (4, 0)) (pcN := 151) jI_217_150 rfl rfl rfl ?_
  refine jT_xiload_n (v := (0, x3)) (pcN := 152) jI_217_151 rfl rfl rfl ?_
  refine jT_fB [0, 1, 2, 3, 4, 5, 6, 7, 8, 9, 10, 11, 12, 13, 14, 15] 40 (y := 196) (pcN := 155) (dC := 1) (bc1 := 0) (bc2 := 0) (c1 := 0) (c2 := 0) (as := [(4, 0), (0, x3)]) (asC := [(4, 0), (0, x3)]) (LN := [(6, (0, 6)), (4, (1, 0)), (0, (4, 0)), (1, (0, 1)), (2, (0, x2)), (3, (0, x3))]) (stN := []) (hsC := jpA_216) (hsD := [jzA_200, (100, [], ((((((((((((((jS0).set ((7 * x3).toNat) 0)).set ((7 * x3 + 1).toNat) 0)).set ((7 * x3 + 2).toNat) 0)).set ((7 * x3 + 3).toNat) 0)).set ((7 * x3 + 4).toNat) 0)).set ((7 * x3 + 5).toNat) 0)).set ((7 * x3 + 6).toNat) 1)), jgh, jgh, jgh, jgh, jgh, (101, [], [0, 0, 0, 0, 0, 0]), jgh, jgh, jgh, jgh, jgh, jgh, jgh, jgh]) (v := (0, 1)) (st2 := [(0, 1)]) (hs2 := [jzA_200, (100, [], ((((((((((((((jS0).set ((7 * x3).toNat) 0)).set ((7 * x3 + 1).toNat) 0)).set ((7 * x3 + 2).toNat) 0)).set ((7 * x3 + 3).toNat) 0)).set ((7 * x3 + 4).toNat) 0)).set ((7 * x3 + 5).toNat) 0)).set ((7 * x3 + 6).toNat) 1)), (100, [], []), jzA_196, jzA_201, jgh, (130, [], [24, 25, 26, 27, 28, 29]), (101, [], [0, 0, 0, 0, 0, 0]), jgh, jgh, jgh, jgh, jgh, jgh, jgh, jgh, (100, [], jS0), jgh, jgh, jgh, jgh, jgh, jgh, jgh, (100, [], (jenc (jlg 0))), jgh, jgh, jgh, jgh, jgh, (101, [], [0, 0, 0, 0, 0, 0]), (101, [], [1, 0, 0, 0, 0, 0]), (101, [], [1, 0, 0, 0, 0, 0]), (100, [], (jenc 0)), (100, [], (jenc 1)), (100, [], (jenc (1 * (jlg 0)))), (101, [], [(-1), 0, 0, 0, 0, 0]), (100, [], (jenc 0)), (100, [], (jenc (-1))), (100, [], (jenc ((-1) * (jlg 0))))]) (jA_196_194 (d := 0) (by omega)) (by rfl) (by rfl) (by decide +kernel) (by rfl) (by rfl) (by omega) (by omega) (by omega) (by omega) rfl rfl ?_
  refine jT_adv 1 (pcN := 156) (LN := [(6, (0, 6)), (4, (1, 0)), (0, (4, 0)), (1, (0, 1)), (2, (0, x2)), (3, (0, x3))]) (stN := []) (hsN := [jzA_200, (100, [], ((((((((((((((jS0).set ((7 * x3).toNat) 0)).set ((7 * x3 + 1).toNat) 0)).set ((7 * x3 + 2).toNat) 0)).set ((7 * x3 + 3).toNat) 0)).set ((7 * x3 + 4).toNat) 0)).set ((7 * x3 + 5).toNat) 0)).set ((7 * x3 + 6).toNat) 1)), (100, [], []), jzA_196, jzA_201, jgh, (130, [], [24, 25, 26, 27, 28, 29]), (101, [], [0, 0, 0, 0, 0, 0]), jgh, jgh, jgh, jgh, jgh, jgh, jgh, jgh, (100, [], jS0), jgh, jgh, jgh, jgh, jgh, jgh, jgh, (100, [], (jenc (jlg 0))), jgh, jgh, jgh, jgh, jgh, (101, [], [0, 0, 0, 0, 0, 0]), (101, [], [1, 0, 0, 0, 0, 0]), (101, [], [1, 0, 0, 0, 0, 0]), (100, [], (jenc 0)), (100, [], (jenc 1)), (100, [], (jenc (1 * (jlg 0)))), (101, [], [(-1), 0, 0, 0, 0, 0]), (100, [], (jenc 0)), (100, [], (jenc (-1))), (100, [], (jenc ((-1) * (jlg 0))))]) (c1 := 0) (s1 := 0) (c2 := 0) (s2 := 0) (by exact rfl) ?_ (by omega) (by omega)
  refine jT_xlload (v := (1, 0)) (pcN := 158) jI_217_156 rfl rfl rfl ?_
  refine jT_xl2i (pcN := 159) jI_217_158 rfl rfl ?_
  exact jT_ret rfl (by decide) (by show 30 ≤ 40; decide) (by omega) (by omega) ⟨rfl, rfl, rfl⟩
theorem jA_116_230 {xs : List Int} {d : Nat} {x1 : Int} (h_x1 : 2 ≤ x1 ∧ x1 ≤ 24) : jT xs d 116 1 0 [(0, (4, 0)), (1, (0, x1)), (2, (0, 1)), (3, (0, 24))] [] [jgh] 0 0 (fun k v hsN => k = 0 ∧ v = (9, 0) ∧ hsN = [jgh] ++ []) := by
  refine jT_xiload_n (v := (0, x1)) (pcN := 1) jI_116_0 rfl rfl rfl ?_
  refine jT_xiload_n (v := (0, 1)) (pcN := 2) jI_116_1 rfl rfl rfl ?_
  refine jT_icF (a := x1) (b := 1) (t := 10) (by rfl) (by rfl) (by rfl) (jw_idd (by omega) (by omega)) (jw_idd (by omega) (by omega)) (by simp only [jcP] <;> omega) ?_
  refine jT_xiload_n (v := (0, x1)) (pcN := 6) jI_116_5 rfl rfl rfl ?_
  refine jT_xiload_n (v := (0, 24)) (pcN := 7) jI_116_6 rfl rfl rfl ?_
  refine jT_icT (a := x1) (b := 24) (t := 21) (by rfl) (by rfl) (by rfl) (jw_idd (by omega) (by omega)) (jw_idd (by omega) (by omega)) (by simp only [jcP] <;> omega) ?_
  exact jT_ret rfl (by decide) (by show 1 ≤ 1; decide) (by omega) (by omega) ⟨rfl, rfl, rfl⟩
theorem jA_45_231 {xs : List Int} {d : Nat} {x1 : Int} (h_x1 : 2 ≤ x1 ∧ x1 ≤ 24) : jT xs (d + 1) 45 4 0 [(0, (4, 0)), (1, (4, 1)), (2, (1, 1)), (4, (1, 2 * x1))] [] jpA_625 0 0 (fun k v hsN => k = 0 ∧ v = (1, 0) ∧ hsN = jpA_625 ++ []) := by
  refine jT_xlload_n (v := (1, 1)) (pcN := 1) jI_45_0 rfl rfl rfl ?_
  refine jT_xlconst (z := 1) (pcN := 2) jI_45_1 rfl rfl ?_
  refine jT_lcmp (a := 1) (b := 1) (z := 0) (by rfl) (by rfl) (by decide +kernel) (by decide +kernel) (by decide) ?_
  refine jT_xifF (t := 13) (pcN := 6) jI_45_3 rfl (by decide +kernel) rfl rfl ?_
  refine jT_xlload (v := (1, 2 * x1)) (pcN := 8) jI_45_6 rfl rfl rfl ?_
  refine jT_xlconst (z := 1) (pcN := 9) jI_45_8 rfl rfl ?_
  refine jT_lcmp (a := 2 * x1) (b := 1) (z := 1) (by rfl) (by rfl) (jwl_idd (by omega) (by omega)) (jwl_idd (by omega) (by omega)) (by rw [decide_eq_true (show (1 : Int) < 2 * x1 by omega)]; rfl) ?_
  refine jT_xifT (pcN := 15) jI_45_10 rfl (by decide +kernel) rfl ?_
  refine jT_xaload_n (v := (4, 0)) (pcN := 16) jI_45_15 rfl rfl rfl ?_
  refine jT_xaload_n (v := (4, 1)) (pcN := 17) jI_45_16 rfl rfl rfl ?_
  refine jT_fR [0, 1] 4 (y := 39) (pcN := 20) (dC := 0) (bc1 := 0) (bc2 := 0) (c1 := 0) (c2 := 0) (as := [(4, 0), (4, 1)]) (asC := [(4, 0), (4, 1)]) (LN := [(0, (4, 0)), (1, (4, 1)), (2, (1, 1)), (4, (1, 2 * x1))]) (stN := []) (hsC := [jgh, (101, [], [0, 0, 0, 0, 0, 0])]) (v := (1, 0)) (st2 := [(1, 0)]) (jA_39_144 (d := 0)) (by rfl) (by rfl) (by decide +kernel) (by rfl) (by rfl) (by omega) (by omega) (by omega) (by omega) rfl ?_
  refine jT_xlstore (v := (1, 0)) (LN := [(6, (1, 0)), (0, (4, 0)), (1, (4, 1)), (2, (1, 1)), (4, (1, 2 * x1))]) (pcN := 22) jI_45_20 rfl rfl rfl rfl ?_
  refine jT_xlload (v := (1, 0)) (pcN := 24) jI_45_22 rfl rfl rfl ?_
  refine jT_xlconst (z := 0) (pcN := 25) jI_45_24 rfl rfl ?_
  refine jT_lcmp (a := 0) (b := 0) (z := 0) (by rfl) (by rfl) (by decide +kernel) (by decide +kernel) (by decide) ?_
  refine jT_xifF (t := 40) (pcN := 29) jI_45_26 rfl (by decide +kernel) rfl rfl ?_
  refine jT_xaload_n (v := (4, 1)) (pcN := 30) jI_45_29 rfl rfl rfl ?_
  refine jT_xiconst (k := 0) (pcN := 31) jI_45_30 rfl ?_
  refine jT_lald (x := 0) (a := 1) (j := 0) (fs := []) (X := [0, 0, 0, 0, 0, 0]) jI_45_31 rfl rfl rfl rfl ?_
  refine jT_eq (LN := [(6, (1, 0)), (0, (4, 0)), (1, (4, 1)), (2, (1, 1)), (4, (1, 2 * x1))]) (stN := [(1, 0)]) (hsN := jpA_625) rfl rfl rfl ?_
  refine jT_xlload (v := (1, 2 * x1)) (pcN := 34) jI_45_32 rfl rfl rfl ?_
  refine jT_xlmul (x := 0) (y := 2 * x1) (z := 0) (pcN := 35) jI_45_34 rfl (by omega) rfl ?_
  refine jT_xlload_n (v := (1, 1)) (pcN := 36) jI_45_35 rfl rfl rfl ?_
  refine jT_fR [] 4 (y := 373) (pcN := 39) (dC := 0) (bc1 := 0) (bc2 := 0) (c1 := 0) (c2 := 0) (as := [(1, 0), (1, 1)]) (asC := [(1, 0), (1, 1)]) (LN := [(6, (1, 0)), (0, (4, 0)), (1, (4, 1)), (2, (1, 1)), (4, (1, 2 * x1))]) (stN := []) (hsC := []) (v := (1, 0)) (st2 := [(1, 0)]) (jA_373_145 (d := 0)) (by rfl) (by rfl) (by decide +kernel) (by rfl) (by rfl) (by omega) (by omega) (by omega) (by omega) rfl ?_
  exact jT_ret rfl (by decide) (by show 4 ≤ 4; decide) (by omega) (by omega) ⟨rfl, rfl, rfl⟩
theorem jA_44_232 {xs : List Int} {d : Nat} {x1 : Int} (h_x1 : 2 ≤ x1 ∧ x1 ≤ 24) : jT xs (d + 2) 44 5 0 [(0, (4, 0)), (1, (4, 1)), (2, (1, 2 * x1))] [] jpA_626 0 0 (fun k v hsN => k = 0 ∧ v = (1, 0) ∧ hsN = jpA_626 ++ []) := by
  refine jT_xaload_n (v := (4, 0)) (pcN := 1) jI_44_0 rfl rfl rfl ?_
  refine jT_xaload_n (v := (4, 1)) (pcN := 2) jI_44_1 rfl rfl rfl ?_
  refine jT_xgetf (a := 1) (t := 2) (ci := 4) (fi := 0) (c := (4, [(4, 4), (1, 1)], [])) (v := (4, 4)) (pcN := 5) jI_44_2 rfl rfl rfl rfl rfl rfl rfl ?_
  refine jT_xaload_n (v := (4, 1)) (pcN := 6) jI_44_5 rfl rfl rfl ?_
  refine jT_xgetf (a := 1) (t := 2) (ci := 4) (fi := 1) (c := (4, [(4, 4), (1, 1)], [])) (v := (1, 1)) (pcN := 9) jI_44_6 rfl rfl rfl rfl rfl rfl rfl ?_
  refine jT_xlload_n (v := (1, 2 * x1)) (pcN := 10) jI_44_9 rfl rfl rfl ?_
  refine jT_fR [0, 4, 2, 3] 5 (y := 45) (pcN := 13) (dC := 1) (bc1 := 0) (bc2 := 0) (c1 := 0) (c2 := 0) (as := [(4, 0), (4, 4), (1, 1), (1, 2 * x1)]) (asC := [(4, 0), (4, 1), (1, 1), (1, 2 * x1)]) (LN := [(0, (4, 0)), (1, (4, 1)), (2, (1, 2 * x1))]) (stN := []) (hsC := jpA_625) (v := (1, 0)) (st2 := [(1, 0)]) (jA_45_231 (d := 0) (by omega)) (by rfl) (by rfl) (by decide +kernel) (by rfl) (by rfl) (by omega) (by omega) (by omega) (by omega) rfl ?_
  exact jT_ret rfl (by decide) (by show 5 ≤ 5; decide) (by omega) (by omega) ⟨rfl, rfl, rfl⟩
theorem jA_43_233 {xs : List Int} {d : Nat} {x1 : Int} (h_x1 : 2 ≤ x1 ∧ x1 ≤ 24) : jT xs (d + 3) 43 5 0 [(0, (4, 0)), (1, (4, 1)), (2, (1, x1))] [] jpA_626 0 0 (fun k v hsN => k = 0 ∧ v = (1, 0) ∧ hsN = jpA_626 ++ []) := by
  refine jT_xaload_n (v := (4, 0)) (pcN := 1) jI_43_0 rfl rfl rfl ?_
  refine jT_xaload_n (v := (4, 1)) (pcN := 2) jI_43_1 rfl rfl rfl ?_
  refine jT_adv 1 (pcN := 5) (LN := [(0, (4, 0)), (1, (4, 1)), (2, (1, x1))]) (stN := [(1, 2), (4, 1), (4, 0)]) (hsN := jpA_626) (c1 := 0) (s1 := 0) (c2 := 0) (s2 := 0) (by exact rfl) ?_ (by omega) (by omega)
  refine jT_xlload_n (v := (1, x1)) (pcN := 6) jI_43_5 rfl rfl rfl ?_
  refine jT_xlmul (x := 2) (y := x1) (z := 2 * x1) (pcN := 7) jI_43_6 rfl (rfl) rfl ?_
  refine jT_fR [0, 1, 2, 3, 4] 5 (y := 44) (pcN := 10) (dC := 2) (bc1 := 0) (bc2 := 0) (c1 := 0) (c2 := 0) (as := [(4, 0), (4, 1), (1, 2 * x1)]) (asC := [(4, 0), (4, 1), (1, 2 * x1)]) (LN := [(0, (4, 0)), (1, (4, 1)), (2, (1, x1))]) (stN := []) (hsC := jpA_626) (v := (1, 0)) (st2 := [(1, 0)]) (jA_44_232 (d := 0) (by omega)) (by rfl) (by rfl) (by decide +kernel) (by rfl) (by rfl) (by omega) (by omega) (by omega) (by omega) rfl ?_
  refine jT_xlconst (z := 1) (pcN := 11) jI_43_10 rfl rfl ?_
  refine jT_xladd (x := 0) (y := 1) (z := 1) (pcN := 12) jI_43_11 rfl (by decide) rfl ?_
  refine jT_xiconst (k := 2) (pcN := 13) jI_43_12 rfl ?_
  refine jT_fR [] 5 (y := 374) (pcN := 16) (dC := 1) (bc1 := 0) (bc2 := 0) (c1 := 0) (c2 := 0) (as := [(1, 1), (0, 2)]) (asC := [(1, 1), (0, 2)]) (LN := [(0, (4, 0)), (1, (4, 1)), (2, (1, x1))]) (stN := []) (hsC := []) (v := (1, 0)) (st2 := [(1, 0)]) (jA_374_178 (d := 0)) (by rfl) (by rfl) (by decide +kernel) (by rfl) (by rfl) (by omega) (by omega) (by omega) (by omega) rfl ?_
  exact jT_ret rfl (by decide) (by show 5 ≤ 5; decide) (by omega) (by omega) ⟨rfl, rfl, rfl⟩
theorem jA_98_234 {xs : List Int} {d : Nat} {x1 : Int} (h_x1 : 2 ≤ x1 ∧ x1 ≤ 24) : jT xs d 98 0 0 [(0, (1, x1)), (2, (1, 0))] [] [] 0 0 (fun k v hsN => k = 0 ∧ v = (1, x1) ∧ hsN = [] ++ []) := by
  refine jT_xlload_n (v := (1, x1)) (pcN := 1) jI_98_0 rfl rfl rfl ?_
  refine jT_xlconst (z := 0) (pcN := 2) jI_98_1 rfl rfl ?_
  refine jT_lcmp (a := x1) (b := 0) (z := 1) (by rfl) (by rfl) (jwl_idd (by omega) (by omega)) (jwl_idd (by omega) (by omega)) (by rw [decide_eq_true (show (0 : Int) < x1 by omega)]; rfl) ?_
  refine jT_xifT (pcN := 11) jI_98_3 rfl (by decide +kernel) rfl ?_
  refine jT_xlload_n (v := (1, x1)) (pcN := 12) jI_98_11 rfl rfl rfl ?_
  refine jT_xlstore (v := (1, x1)) (LN := [(4, (1, x1)), (0, (1, x1)), (2, (1, 0))]) (pcN := 14) jI_98_12 rfl rfl rfl rfl ?_
  refine jT_xlload_n (v := (1, 0)) (pcN := 15) jI_98_14 rfl rfl rfl ?_
  refine jT_xlconst (z := 0) (pcN := 16) jI_98_15 rfl rfl ?_
  refine jT_lcmp (a := 0) (b := 0) (z := 0) (by rfl) (by rfl) (by decide +kernel) (by decide +kernel) (by decide) ?_
  refine jT_xifT (pcN := 25) jI_98_17 rfl (by decide +kernel) rfl ?_
  refine jT_xlload_n (v := (1, 0)) (pcN := 26) jI_98_25 rfl rfl rfl ?_
  refine jT_xlstore (v := (1, 0)) (LN := [(6, (1, 0)), (4, (1, x1)), (0, (1, x1)), (2, (1, 0))]) (pcN := 28) jI_98_26 rfl rfl rfl rfl ?_
  refine jT_xiconst (k := 0) (pcN := 29) jI_98_28 rfl ?_
  refine jT_xistore (v := (0, 0)) (LN := [(8, (0, 0)), (6, (1, 0)), (4, (1, x1)), (0, (1, x1)), (2, (1, 0))]) (pcN := 31) jI_98_29 rfl rfl rfl rfl ?_
  refine jT_xiload (v := (0, 0)) (pcN := 33) jI_98_31 rfl rfl rfl ?_
  refine jT_xsipush (k := 200) (pcN := 36) jI_98_33 (by decide) rfl ?_
  refine jT_xicF (t := 67) (pcN := 39) jI_98_36 rfl (by decide +kernel) rfl rfl ?_
  refine jT_xlload (v := (1, 0)) (pcN := 41) jI_98_39 rfl rfl rfl ?_
  refine jT_xlconst (z := 0) (pcN := 42) jI_98_41 rfl rfl ?_
  refine jT_lcmp (a := 0) (b := 0) (z := 0) (by rfl) (by rfl) (by decide +kernel) (by decide +kernel) (by decide) ?_
  refine jT_xifT (pcN := 67) jI_98_43 rfl (by decide +kernel) rfl ?_
  refine jT_xlload (v := (1, x1)) (pcN := 69) jI_98_67 rfl rfl rfl ?_
  exact jT_ret rfl (by decide) (by show 0 ≤ 0; decide) (by omega) (by omega) ⟨rfl, rfl, rfl⟩
theorem jA_97_235 {xs : List Int} {d : Nat} {x1 : Int} (h_x1 : 2 ≤ x1 ∧ x1 ≤ 24) : jT xs (d + 1) 97 1 0 [(0, (4, 0)), (1, (1, x1))] [] [(101, [], [0, 0, 0, 0, 0, 0])] 0 0 (fun k v hsN => k = 0 ∧ v = (1, 1) ∧ hsN = [(101, [], [0, 0, 0, 0, 0, 0])] ++ []) := by
  refine jT_xlload_n (v := (1, x1)) (pcN := 1) jI_97_0 rfl rfl rfl ?_
  refine jT_xlconst (z := 1) (pcN := 2) jI_97_1 rfl rfl ?_
  refine jT_lcmp (a := x1) (b := 1) (z := 1) (by rfl) (by rfl) (jwl_idd (by omega) (by omega)) (jwl_idd (by omega) (by omega)) (by rw [decide_eq_true (show (1 : Int) < x1 by omega)]; rfl) ?_
  refine jT_xifT (pcN := 10) jI_97_3 rfl (by decide +kernel) rfl ?_
  refine jT_xlload_n (v := (1, x1)) (pcN := 11) jI_97_10 rfl rfl rfl ?_
  refine jT_xlstore_n (v := (1, x1)) (LN := [(3, (1, x1)), (0, (4, 0)), (1, (1, x1))]) (pcN := 12) jI_97_11 rfl rfl rfl rfl ?_
  refine jT_xiconst (k := 0) (pcN := 13) jI_97_12 rfl ?_
  refine jT_xistore (v := (0, 0)) (LN := [(5, (0, 0)), (3, (1, x1)), (0, (4, 0)), (1, (1, x1))]) (pcN := 15) jI_97_13 rfl rfl rfl rfl ?_
  refine jT_xiload (v := (0, 0)) (pcN := 17) jI_97_15 rfl rfl rfl ?_
  refine jT_xaload_n (v := (4, 0)) (pcN := 18) jI_97_17 rfl rfl rfl ?_
  refine jT_adv 1 (pcN := 19) (LN := [(5, (0, 0)), (3, (1, x1)), (0, (4, 0)), (1, (1, x1))]) (stN := [(0, 6), (0, 0)]) (hsN := [(101, [], [0, 0, 0, 0, 0, 0])]) (c1 := 0) (s1 := 0) (c2 := 0) (s2 := 0) (by exact rfl) ?_ (by omega) (by omega)
  refine jT_xicF (t := 43) (pcN := 22) jI_97_19 rfl (by decide +kernel) rfl rfl ?_
  refine jT_xlload_n (v := (1, x1)) (pcN := 23) jI_97_22 rfl rfl rfl ?_
  refine jT_xlconst (z := 1) (pcN := 24) jI_97_23 rfl rfl ?_
  refine jT_lcmp (a := x1) (b := 1) (z := 1) (by rfl) (by rfl) (jwl_idd (by omega) (by omega)) (jwl_idd (by omega) (by omega)) (by rw [decide_eq_true (show (1 : Int) < x1 by omega)]; rfl) ?_
  refine jT_xifF (t := 43) (pcN := 28) jI_97_25 rfl (by decide +kernel) rfl rfl ?_
  refine jT_xlload_n (v := (1, x1)) (pcN := 29) jI_97_28 rfl rfl rfl ?_
  refine jT_xaload_n (v := (4, 0)) (pcN := 30) jI_97_29 rfl rfl rfl ?_
  refine jT_xiload (v := (0, 0)) (pcN := 32) jI_97_30 rfl rfl rfl ?_
  refine jT_lald (x := 0) (a := 0) (j := 0) (fs := []) (X := [0, 0, 0, 0, 0, 0]) jI_97_32 rfl rfl rfl rfl ?_
  refine jT_eq (LN := [(5, (0, 0)), (3, (1, x1)), (0, (4, 0)), (1, (1, x1))]) (stN := [(1, 0), (1, x1)]) (hsN := [(101, [], [0, 0, 0, 0, 0, 0])]) rfl rfl rfl ?_
  refine jT_fR [] 1 (y := 98) (pcN := 36) (dC := 0) (bc1 := 0) (bc2 := 0) (c1 := 0) (c2 := 0) (as := [(1, x1), (1, 0)]) (asC := [(1, x1), (1, 0)]) (LN := [(5, (0, 0)), (3, (1, x1)), (0, (4, 0)), (1, (1, x1))]) (stN := []) (hsC := []) (v := (1, x1)) (st2 := [(1, x1)]) (jA_98_234 (d := 0) (by omega)) (by rfl) (by rfl) (by decide +kernel) (by rfl) (by rfl) (by omega) (by omega) (by omega) (by omega) rfl ?_
  refine jT_xlstore_n (v := (1, x1)) (LN := [(3, (1, x1)), (5, (0, 0)), (0, (4, 0)), (1, (1, x1))]) (pcN := 37) jI_97_36 rfl rfl rfl rfl ?_
  refine jT_xiinc (x := 0) (z := 1) (LN := [(5, (0, 1)), (3, (1, x1)), (0, (4, 0)), (1, (1, x1))]) (pcN := 40) jI_97_37 rfl rfl (by decide) rfl rfl ?_
  refine jT_xgoto (pcN := 15) jI_97_40 rfl ?_
  refine jT_xiload (v := (0, 1)) (pcN := 17) jI_97_15 rfl rfl rfl ?_
  refine jT_xaload_n (v := (4, 0)) (pcN := 18) jI_97_17 rfl rfl rfl ?_
  refine jT_adv 1 (pcN := 19) (LN := [(5, (0, 1)), (3, (1, x1)), (0, (4, 0)), (1, (1, x1))]) (stN := [(0, 6), (0, 1)]) (hsN := [(101, [], [0, 0, 0, 0, 0, 0])]) (c1 := 0) (s1 := 0) (c2 := 0) (s2 := 0) (by exact rfl) ?_ (by omega) (by omega)
  refine jT_xicF (t := 43) (pcN := 22) jI_97_19 rfl (by decide +kernel) rfl rfl ?_
  refine jT_xlload_n (v := (1, x1)) (pcN := 23) jI_97_22 rfl rfl rfl ?_
  refine jT_xlconst (z := 1) (pcN := 24) jI_97_23 rfl rfl ?_
  refine jT_lcmp (a := x1) (b := 1) (z := 1) (by rfl) (by rfl) (jwl_idd (by omega) (by omega)) (jwl_idd (by omega) (by omega)) (by rw [decide_eq_true (show (1 : Int) < x1 by omega)]; rfl) ?_
  refine jT_xifF (t := 43) (pcN := 28) jI_97_25 rfl (by decide +kernel) rfl rfl ?_
  refine jT_xlload_n (v := (1, x1)) (pcN := 29) jI_97_28 rfl rfl rfl ?_
  refine jT_xaload_n (v := (4, 0)) (pcN := 30) jI_97_29 rfl rfl rfl ?_
  refine jT_xiload (v := (0, 1)) (pcN := 32) jI_97_30 rfl rfl rfl ?_
  refine jT_lald (x := 0) (a := 0) (j := 1) (fs := []) (X := [0, 0, 0, 0, 0, 0]) jI_97_32 rfl rfl rfl rfl ?_
  refine jT_eq (LN := [(5, (0, 1)), (3, (1, x1)), (0, (4, 0)), (1, (1, x1))]) (stN := [(1, 0), (1, x1)]) (hsN := [(101, [], [0, 0, 0, 0, 0, 0])]) rfl rfl rfl ?_
  refine jT_fR [] 1 (y := 98) (pcN := 36) (dC := 0) (bc1 := 0) (bc2 := 0) (c1 := 0) (c2 := 0) (as := [(1, x1), (1, 0)]) (asC := [(1, x1), (1, 0)]) (LN := [(5, (0, 1)), (3, (1, x1)), (0, (4, 0)), (1, (1, x1))]) (stN := []) (hsC := []) (v := (1, x1)) (st2 := [(1, x1)]) (jA_98_234 (d := 0) (by omega)) (by rfl) (by rfl) (by decide +kernel) (by rfl) (by rfl) (by omega) (by omega) (by omega) (by omega) rfl ?_
  refine jT_xlstore_n (v := (1, x1)) (LN := [(3, (1, x1)), (5, (0, 1)), (0, (4, 0)), (1, (1, x1))]) (pcN := 37) jI_97_36 rfl rfl rfl rfl ?_
  refine jT_xiinc (x := 1) (z := 2) (LN := [(5, (0, 2)), (3, (1, x1)), (0, (4, 0)), (1, (1, x1))]) (pcN := 40) jI_97_37 rfl rfl (by decide) rfl rfl ?_
  refine jT_xgoto (pcN := 15) jI_97_40 rfl ?_
  refine jT_xiload (v := (0, 2)) (pcN := 17) jI_97_15 rfl rfl rfl ?_
  refine jT_xaload_n (v := (4, 0)) (pcN := 18) jI_97_17 rfl rfl rfl ?_
  refine jT_adv 1 (pcN := 19) (LN := [(5, (0, 2)), (3, (1, x1)), (0, (4, 0)), (1, (1, x1))]) (stN := [(0, 6), (0, 2)]) (hsN := [(101, [], [0, 0, 0, 0, 0, 0])]) (c1 := 0) (s1 := 0) (c2 := 0) (s2 := 0) (by exact rfl) ?_ (by omega) (by omega)
  refine jT_xicF (t := 43) (pcN := 22) jI_97_19 rfl (by decide +kernel) rfl rfl ?_
  refine jT_xlload_n (v := (1, x1)) (pcN := 23) jI_97_22 rfl rfl rfl ?_
  refine jT_xlconst (z := 1) (pcN := 24) jI_97_23 rfl rfl ?_
  refine jT_lcmp (a := x1) (b := 1) (z := 1) (by rfl) (by rfl) (jwl_idd (by omega) (by omega)) (jwl_idd (by omega) (by omega)) (by rw [decide_eq_true (show (1 : Int) < x1 by omega)]; rfl) ?_
  refine jT_xifF (t := 43) (pcN := 28) jI_97_25 rfl (by decide +kernel) rfl rfl ?_
  refine jT_xlload_n (v := (1, x1)) (pcN := 29) jI_97_28 rfl rfl rfl ?_
  refine jT_xaload_n (v := (4, 0)) (pcN := 30) jI_97_29 rfl rfl rfl ?_
  refine jT_xiload (v := (0, 2)) (pcN := 32) jI_97_30 rfl rfl rfl ?_
  refine jT_lald (x := 0) (a := 0) (j := 2) (fs := []) (X := [0, 0, 0, 0, 0, 0]) jI_97_32 rfl rfl rfl rfl ?_
  refine jT_eq (LN := [(5, (0, 2)), (3, (1, x1)), (0, (4, 0)), (1, (1, x1))]) (stN := [(1, 0), (1, x1)]) (hsN := [(101, [], [0, 0, 0, 0, 0, 0])]) rfl rfl rfl ?_
  refine jT_fR [] 1 (y := 98) (pcN := 36) (dC := 0) (bc1 := 0) (bc2 := 0) (c1 := 0) (c2 := 0) (as := [(1, x1), (1, 0)]) (asC := [(1, x1), (1, 0)]) (LN := [(5, (0, 2)), (3, (1, x1)), (0, (4, 0)), (1, (1, x1))]) (stN := []) (hsC := []) (v := (1, x1)) (st2 := [(1, x1)]) (jA_98_234 (d := 0) (by omega)) (by rfl) (by rfl) (by decide +kernel) (by rfl) (by rfl) (by omega) (by omega) (by omega) (by omega) rfl ?_
  refine jT_xlstore_n (v := (1, x1)) (LN := [(3, (1, x1)), (5, (0, 2)), (0, (4, 0)), (1, (1, x1))]) (pcN := 37) jI_97_36 rfl rfl rfl rfl ?_
  refine jT_xiinc (x := 2) (z := 3) (LN := [(5, (0, 3)), (3, (1, x1)), (0, (4, 0)), (1, (1, x1))]) (pcN := 40) jI_97_37 rfl rfl (by decide) rfl rfl ?_
  refine jT_xgoto (pcN := 15) jI_97_40 rfl ?_
  refine jT_xiload (v := (0, 3)) (pcN := 17) jI_97_15 rfl rfl rfl ?_
  refine jT_xaload_n (v := (4, 0)) (pcN := 18) jI_97_17 rfl rfl rfl ?_
  refine jT_adv 1 (pcN := 19) (LN := [(5, (0, 3)), (3, (1, x1)), (0, (4, 0)), (1, (1, x1))]) (stN := [(0, 6), (0, 3)]) (hsN := [(101, [], [0, 0, 0, 0, 0, 0])]) (c1 := 0) (s1 := 0) (c2 := 0) (s2 := 0) (by exact rfl) ?_ (by omega) (by omega)
  refine jT_xicF (t := 43) (pcN := 22) jI_97_19 rfl (by decide +kernel) rfl rfl ?_
  refine jT_xlload_n (v := (1, x1)) (pcN := 23) jI_97_22 rfl rfl rfl ?_
  refine jT_xlconst (z := 1) (pcN := 24) jI_97_23 rfl rfl ?_
  refine jT_lcmp (a := x1) (b := 1) (z := 1) (by rfl) (by rfl) (jwl_idd (by omega) (by omega)) (jwl_idd (by omega) (by omega)) (by rw [decide_eq_true (show (1 : Int) < x1 by omega)]; rfl) ?_
  refine jT_xifF (t := 43) (pcN := 28) jI_97_25 rfl (by decide +kernel) rfl rfl ?_
  refine jT_xlload_n (v := (1, x1)) (pcN := 29) jI_97_28 rfl rfl rfl ?_
  refine jT_xaload_n (v := (4, 0)) (pcN := 30) jI_97_29 rfl rfl rfl ?_
  refine jT_xiload (v := (0, 3)) (pcN := 32) jI_97_30 rfl rfl rfl ?_
  refine jT_lald (x := 0) (a := 0) (j := 3) (fs := []) (X := [0, 0, 0, 0, 0, 0]) jI_97_32 rfl rfl rfl rfl ?_
  refine jT_eq (LN := [(5, (0, 3)), (3, (1, x1)), (0, (4, 0)), (1, (1, x1))]) (stN := [(1, 0), (1, x1)]) (hsN := [(101, [], [0, 0, 0, 0, 0, 0])]) rfl rfl rfl ?_
  refine jT_fR [] 1 (y := 98) (pcN := 36) (dC := 0) (bc1 := 0) (bc2 := 0) (c1 := 0) (c2 := 0) (as := [(1, x1), (1, 0)]) (asC := [(1, x1), (1, 0)]) (LN := [(5, (0, 3)), (3, (1, x1)), (0, (4, 0)), (1, (1, x1))]) (stN := []) (hsC := []) (v := (1, x1)) (st2 := [(1, x1)]) (jA_98_234 (d := 0) (by omega)) (by rfl) (by rfl) (by decide +kernel) (by rfl) (by rfl) (by omega) (by omega) (by omega) (by omega) rfl ?_
  refine jT_xlstore_n (v := (1, x1)) (LN := [(3, (1, x1)), (5, (0, 3)), (0, (4, 0)), (1, (1, x1))]) (pcN := 37) jI_97_36 rfl rfl rfl rfl ?_
  refine jT_xiinc (x := 3) (z := 4) (LN := [(5, (0, 4)), (3, (1, x1)), (0, (4, 0)), (1, (1, x1))]) (pcN := 40) jI_97_37 rfl rfl (by decide) rfl rfl ?_
  refine jT_xgoto (pcN := 15) jI_97_40 rfl ?_
  refine jT_xiload (v := (0, 4)) (pcN := 17) jI_97_15 rfl rfl rfl ?_
  refine jT_xaload_n (v := (4, 0)) (pcN := 18) jI_97_17 rfl rfl rfl ?_
  refine jT_adv 1 (pcN := 19) (LN := [(5, (0, 4)), (3, (1, x1)), (0, (4, 0)), (1, (1, x1))]) (stN := [(0, 6), (0, 4)]) (hsN := [(101, [], [0, 0, 0, 0, 0, 0])]) (c1 := 0) (s1 := 0) (c2 := 0) (s2 := 0) (by exact rfl) ?_ (by omega) (by omega)
  refine jT_xicF (t := 43) (pcN := 22) jI_97_19 rfl (by decide +kernel) rfl rfl ?_
  refine jT_xlload_n (v := (1, x1)) (pcN := 23) jI_97_22 rfl rfl rfl ?_
  refine jT_xlconst (z := 1) (pcN := 24) jI_97_23 rfl rfl ?_
  refine jT_lcmp (a := x1) (b := 1) (z := 1) (by rfl) (by rfl) (jwl_idd (by omega) (by omega)) (jwl_idd (by omega) (by omega)) (by rw [decide_eq_true (show (1 : Int) < x1 by omega)]; rfl) ?_
  refine jT_xifF (t := 43) (pcN := 28) jI_97_25 rfl (by decide +kernel) rfl rfl ?_
  refine jT_xlload_n (v := (1, x1)) (pcN := 29) jI_97_28 rfl rfl rfl ?_
  refine jT_xaload_n (v := (4, 0)) (pcN := 30) jI_97_29 rfl rfl rfl ?_
  refine jT_xiload (v := (0, 4)) (pcN := 32) jI_97_30 rfl rfl rfl ?_
  refine jT_lald (x := 0) (a := 0) (j := 4) (fs := []) (X := [0, 0, 0, 0, 0, 0]) jI_97_32 rfl rfl rfl rfl ?_
  refine jT_eq (LN := [(5, (0, 4)), (3, (1, x1)), (0, (4, 0)), (1, (1, x1))]) (stN := [(1, 0), (1, x1)]) (hsN := [(101, [], [0, 0, 0, 0, 0, 0])]) rfl rfl rfl ?_
  refine jT_fR [] 1 (y := 98) (pcN := 36) (dC := 0) (bc1 := 0) (bc2 := 0) (c1 := 0) (c2 := 0) (as := [(1, x1), (1, 0)]) (asC := [(1, x1), (1, 0)]) (LN := [(5, (0, 4)), (3, (1, x1)), (0, (4, 0)), (1, (1, x1))]) (stN := []) (hsC := []) (v := (1, x1)) (st2 := [(1, x1)]) (jA_98_234 (d := 0) (by omega)) (by rfl) (by rfl) (by decide +kernel) (by rfl) (by rfl) (by omega) (by omega) (by omega) (by omega) rfl ?_
  refine jT_xlstore_n (v := (1, x1)) (LN := [(3, (1, x1)), (5, (0, 4)), (0, (4, 0)), (1, (1, x1))]) (pcN := 37) jI_97_36 rfl rfl rfl rfl ?_
  refine jT_xiinc (x := 4) (z := 5) (LN := [(5, (0, 5)), (3, (1, x1)), (0, (4, 0)), (1, (1, x1))]) (pcN := 40) jI_97_37 rfl rfl (by decide) rfl rfl ?_
  refine jT_xgoto (pcN := 15) jI_97_40 rfl ?_
  refine jT_xiload (v := (0, 5)) (pcN := 17) jI_97_15 rfl rfl rfl ?_
  refine jT_xaload_n (v := (4, 0)) (pcN := 18) jI_97_17 rfl rfl rfl ?_
  refine jT_adv 1 (pcN := 19) (LN := [(5, (0, 5)), (3, (1, x1)), (0, (4, 0)), (1, (1, x1))]) (stN := [(0, 6), (0, 5)]) (hsN := [(101, [], [0, 0, 0, 0, 0, 0])]) (c1 := 0) (s1 := 0) (c2 := 0) (s2 := 0) (by exact rfl) ?_ (by omega) (by omega)
  refine jT_xicF (t := 43) (pcN := 22) jI_97_19 rfl (by decide +kernel) rfl rfl ?_
  refine jT_xlload_n (v := (1, x1)) (pcN := 23) jI_97_22 rfl rfl rfl ?_
  refine jT_xlconst (z := 1) (pcN := 24) jI_97_23 rfl rfl ?_
  refine jT_lcmp (a := x1) (b := 1) (z := 1) (by rfl) (by rfl) (jwl_idd (by omega) (by omega)) (jwl_idd (by omega) (by omega)) (by rw [decide_eq_true (show (1 : Int) < x1 by omega)]; rfl) ?_
  refine jT_xifF (t := 43) (pcN := 28) jI_97_25 rfl (by decide +kernel) rfl rfl ?_
  refine jT_xlload_n (v := (1, x1)) (pcN := 29) jI_97_28 rfl rfl rfl ?_
  refine jT_xaload_n (v := (4, 0)) (pcN := 30) jI_97_29 rfl rfl rfl ?_
  refine jT_xiload (v := (0, 5)) (pcN := 32) jI_97_30 rfl rfl rfl ?_
  refine jT_lald (x := 0) (a := 0) (j := 5) (fs := []) (X := [0, 0, 0, 0, 0, 0]) jI_97_32 rfl rfl rfl rfl ?_
  refine jT_eq (LN := [(5, (0, 5)), (3, (1, x1)), (0, (4, 0)), (1, (1, x1))]) (stN := [(1, 0), (1, x1)]) (hsN := [(101, [], [0, 0, 0, 0, 0, 0])]) rfl rfl rfl ?_
  refine jT_fR [] 1 (y := 98) (pcN := 36) (dC := 0) (bc1 := 0) (bc2 := 0) (c1 := 0) (c2 := 0) (as := [(1, x1), (1, 0)]) (asC := [(1, x1), (1, 0)]) (LN := [(5, (0, 5)), (3, (1, x1)), (0, (4, 0)), (1, (1, x1))]) (stN := []) (hsC := []) (v := (1, x1)) (st2 := [(1, x1)]) (jA_98_234 (d := 0) (by omega)) (by rfl) (by rfl) (by decide +kernel) (by rfl) (by rfl) (by omega) (by omega) (by omega) (by omega) rfl ?_
  refine jT_xlstore_n (v := (1, x1)) (LN := [(3, (1, x1)), (5, (0, 5)), (0, (4, 0)), (1, (1, x1))]) (pcN := 37) jI_97_36 rfl rfl rfl rfl ?_
  refine jT_xiinc (x := 5) (z := 6) (LN := [(5, (0, 6)), (3, (1, x1)), (0, (4, 0)), (1, (1, x1))]) (pcN := 40) jI_97_37 rfl rfl (by decide) rfl rfl ?_
  refine jT_xgoto (pcN := 15) jI_97_40 rfl ?_
  refine jT_xiload (v := (0, 6)) (pcN := 17) jI_97_15 rfl rfl rfl ?_
  refine jT_xaload_n (v := (4, 0)) (pcN := 18) jI_97_17 rfl rfl rfl ?_
  refine jT_adv 1 (pcN := 19) (LN := [(5, (0, 6)), (3, (1, x1)), (0, (4, 0)), (1, (1, x1))]) (stN := [(0, 6), (0, 6)]) (hsN := [(101, [], [0, 0, 0, 0, 0, 0])]) (c1 := 0) (s1 := 0) (c2 := 0) (s2 := 0) (by exact rfl) ?_ (by omega) (by omega)
  refine jT_xicT (pcN := 43) jI_97_19 rfl (by decide +kernel) rfl ?_
  refine jT_xlload_n (v := (1, x1)) (pcN := 44) jI_97_43 rfl rfl rfl ?_
  refine jT_xlconst (z := 1) (pcN := 45) jI_97_44 rfl rfl ?_
  refine jT_lcmp (a := x1) (b := 1) (z := 1) (by rfl) (by rfl) (jwl_idd (by omega) (by omega)) (jwl_idd (by omega) (by omega)) (by rw [decide_eq_true (show (1 : Int) < x1 by omega)]; rfl) ?_
  refine jT_xifT (pcN := 61) jI_97_46 rfl (by decide +kernel) rfl ?_
  refine jT_xiconst (k := 0) (pcN := 62) jI_97_61 rfl ?_
  refine jT_xistore (v := (0, 0)) (LN := [(5, (0, 0)), (3, (1, x1)), (0, (4, 0)), (1, (1, x1))]) (pcN := 64) jI_97_62 rfl rfl rfl rfl ?_
  refine jT_xiload (v := (0, 0)) (pcN := 66) jI_97_64 rfl rfl rfl ?_
  refine jT_xaload_n (v := (4, 0)) (pcN := 67) jI_97_66 rfl rfl rfl ?_
  refine jT_adv 1 (pcN := 68) (LN := [(5, (0, 0)), (3, (1, x1)), (0, (4, 0)), (1, (1, x1))]) (stN := [(0, 6), (0, 0)]) (hsN := [(101, [], [0, 0, 0, 0, 0, 0])]) (c1 := 0) (s1 := 0) (c2 := 0) (s2 := 0) (by exact rfl) ?_ (by omega) (by omega)
  refine jT_xicF (t := 85) (pcN := 71) jI_97_68 rfl (by decide +kernel) rfl rfl ?_
  refine jT_xaload_n (v := (4, 0)) (pcN := 72) jI_97_71 rfl rfl rfl ?_
  refine jT_xiload (v := (0, 0)) (pcN := 74) jI_97_72 rfl rfl rfl ?_
  refine jT_adv 1 (pcN := 75) (LN := [(5, (0, 0)), (3, (1, x1)), (0, (4, 0)), (1, (1, x1))]) (stN := [(0, 0), (4, 0), (0, 0), (4, 0)]) (hsN := [(101, [], [0, 0, 0, 0, 0, 0])]) (c1 := 0) (s1 := 0) (c2 := 0) (s2 := 0) (by exact rfl) ?_ (by omega) (by omega)
  refine jT_lald (x := 0) (a := 0) (j := 0) (fs := []) (X := [0, 0, 0, 0, 0, 0]) jI_97_75 rfl rfl rfl rfl ?_
  refine jT_eq (LN := [(5, (0, 0)), (3, (1, x1)), (0, (4, 0)), (1, (1, x1))]) (stN := [(1, 0), (0, 0), (4, 0)]) (hsN := [(101, [], [0, 0, 0, 0, 0, 0])]) rfl rfl rfl ?_
  refine jT_xlload_n (v := (1, x1)) (pcN := 77) jI_97_76 rfl rfl rfl ?_
  refine jT_ldiv (a := 0) (b := x1) (by rfl) (by rfl) (jwl_idd (by omega) (by omega)) (jwl_idd (by omega) (by omega)) (by omega) ?_
  refine jT_eq (LN := [(5, (0, 0)), (3, (1, x1)), (0, (4, 0)), (1, (1, x1))]) (stN := [(1, 0), (0, 0), (4, 0)]) (hsN := [(101, [], [0, 0, 0, 0, 0, 0])]) rfl (by rw [show ((0 : Int).tdiv x1 : Int) = 0 by simp]) rfl ?_
  refine jT_adv 1 (pcN := 79) (LN := [(5, (0, 0)), (3, (1, x1)), (0, (4, 0)), (1, (1, x1))]) (stN := []) (hsN := [(101, [], [0, 0, 0, 0, 0, 0])]) (c1 := 0) (s1 := 0) (c2 := 0) (s2 := 0) (by exact rfl) ?_ (by omega) (by omega)
  refine jT_xiinc (x := 0) (z := 1) (LN := [(5, (0, 1)), (3, (1, x1)), (0, (4, 0)), (1, (1, x1))]) (pcN := 82) jI_97_79 rfl rfl (by decide) rfl rfl ?_
  refine jT_xgoto (pcN := 64) jI_97_82 rfl ?_
  refine jT_xiload (v := (0, 1)) (pcN := 66) jI_97_64 rfl rfl rfl ?_
  refine jT_xaload_n (v := (4, 0)) (pcN := 67) jI_97_66 rfl rfl rfl ?_
  refine jT_adv 1 (pcN := 68) (LN := [(5, (0, 1)), (3, (1, x1)), (0, (4, 0)), (1, (1, x1))]) (stN := [(0, 6), (0, 1)]) (hsN := [(101, [], [0, 0, 0, 0, 0, 0])]) (c1 := 0) (s1 := 0) (c2 := 0) (s2 := 0) (by exact rfl) ?_ (by omega) (by omega)
  refine jT_xicF (t := 85) (pcN := 71) jI_97_68 rfl (by decide +kernel) rfl rfl ?_
  refine jT_xaload_n (v := (4, 0)) (pcN := 72) jI_97_71 rfl rfl rfl ?_
  refine jT_xiload (v := (0, 1)) (pcN := 74) jI_97_72 rfl rfl rfl ?_
  refine jT_adv 1 (pcN := 75) (LN := [(5, (0, 1)), (3, (1, x1)), (0, (4, 0)), (1, (1, x1))]) (stN := [(0, 1), (4, 0), (0, 1), (4, 0)]) (hsN := [(101, [], [0, 0, 0, 0, 0, 0])]) (c1 := 0) (s1 := 0) (c2 := 0) (s2 := 0) (by exact rfl) ?_ (by omega) (by omega)
  refine jT_lald (x := 0) (a := 0) (j := 1) (fs := []) (X := [0, 0, 0, 0, 0, 0]) jI_97_75 rfl rfl rfl rfl ?_
  refine jT_eq (LN := [(5, (0, 1)), (3, (1, x1)), (0, (4, 0)), (1, (1, x1))]) (stN := [(1, 0), (0, 1), (4, 0)]) (hsN := [(101, [], [0, 0, 0, 0, 0, 0])]) rfl rfl rfl ?_
  refine jT_xlload_n (v := (1, x1)) (pcN := 77) jI_97_76 rfl rfl rfl ?_
  refine jT_ldiv (a := 0) (b := x1) (by rfl) (by rfl) (jwl_idd (by omega) (by omega)) (jwl_idd (by omega) (by omega)) (by omega) ?_
  refine jT_eq (LN := [(5, (0, 1)), (3, (1, x1)), (0, (4, 0)), (1, (1, x1))]) (stN := [(1, 0), (0, 1), (4, 0)]) (hsN := [(101, [], [0, 0, 0, 0, 0, 0])]) rfl (by rw [show ((0 : Int).tdiv x1 : Int) = 0 by simp]) rfl ?_
  refine jT_adv 1 (pcN := 79) (LN := [(5, (0, 1)), (3, (1, x1)), (0, (4, 0)), (1, (1, x1))]) (stN := []) (hsN := [(101, [], [0, 0, 0, 0, 0, 0])]) (c1 := 0) (s1 := 0) (c2 := 0) (s2 := 0) (by exact rfl) ?_ (by omega) (by omega)
  refine jT_xiinc (x := 1) (z := 2) (LN := [(5, (0, 2)), (3, (1, x1)), (0, (4, 0)), (1, (1, x1))]) (pcN := 82) jI_97_79 rfl rfl (by decide) rfl rfl ?_
  refine jT_xgoto (pcN := 64) jI_97_82 rfl ?_
  refine jT_xiload (v := (0, 2)) (pcN := 66) jI_97_64 rfl rfl rfl ?_
  refine jT_xaload_n (v := (4, 0)) (pcN := 67) jI_97_66 rfl rfl rfl ?_
  refine jT_adv 1 (pcN := 68) (LN := [(5, (0, 2)), (3, (1, x1)), (0, (4, 0)), (1, (1, x1))]) (stN := [(0, 6), (0, 2)]) (hsN := [(101, [], [0, 0, 0, 0, 0, 0])]) (c1 := 0) (s1 := 0) (c2 := 0) (s2 := 0) (by exact rfl) ?_ (by omega) (by omega)
  refine jT_xicF (t := 85) (pcN := 71) jI_97_68 rfl (by decide +kernel) rfl rfl ?_
  refine jT_xaload_n (v := (4, 0)) (pcN := 72) jI_97_71 rfl rfl rfl ?_
  refine jT_xiload (v := (0, 2)) (pcN := 74) jI_97_72 rfl rfl rfl ?_
  refine jT_adv 1 (pcN := 75) (LN := [(5, (0, 2)), (3, (1, x1)), (0, (4, 0)), (1, (1, x1))]) (stN := [(0, 2), (4, 0), (0, 2), (4, 0)]) (hsN := [(101, [], [0, 0, 0, 0, 0, 0])]) (c1 := 0) (s1 := 0) (c2 := 0) (s2 := 0) (by exact rfl) ?_ (by omega) (by omega)
  refine jT_lald (x := 0) (a := 0) (j := 2) (fs := []) (X := [0, 0, 0, 0, 0, 0]) jI_97_75 rfl rfl rfl rfl ?_
  refine jT_eq (LN := [(5, (0, 2)), (3, (1, x1)), (0, (4, 0)), (1, (1, x1))]) (stN := [(1, 0), (0, 2), (4, 0)]) (hsN := [(101, [], [0, 0, 0, 0, 0, 0])]) rfl rfl rfl ?_
  refine jT_xlload_n (v := (1, x1)) (pcN := 77) jI_97_76 rfl rfl rfl ?_
  refine jT_ldiv (a := 0) (b := x1) (by rfl) (by rfl) (jwl_idd (by omega) (by omega)) (jwl_idd (by omega) (by omega)) (by omega) ?_
  refine jT_eq (LN := [(5, (0, 2)), (3, (1, x1)), (0, (4, 0)), (1, (1, x1))]) (stN := [(1, 0), (0, 2), (4, 0)]) (hsN := [(101, [], [0, 0, 0, 0, 0, 0])]) rfl (by rw [show ((0 : Int).tdiv x1 : Int) = 0 by simp]) rfl ?_
  refine jT_adv 1 (pcN := 79) (LN := [(5, (0, 2)), (3, (1, x1)), (0, (4, 0)), (1, (1, x1))]) (stN := []) (hsN := [(101, [], [0, 0, 0, 0, 0, 0])]) (c1 := 0) (s1 := 0) (c2 := 0) (s2 := 0) (by exact rfl) ?_ (by omega) (by omega)
  refine jT_xiinc (x := 2) (z := 3) (LN := [(5, (0, 3)), (3, (1, x1)), (0, (4, 0)), (1, (1, x1))]) (pcN := 82) jI_97_79 rfl rfl (by decide) rfl rfl ?_
  refine jT_xgoto (pcN := 64) jI_97_82 rfl ?_
  refine jT_xiload (v := (0, 3)) (pcN := 66) jI_97_64 rfl rfl rfl ?_
  refine jT_xaload_n (v := (4, 0)) (pcN := 67) jI_97_66 rfl rfl rfl ?_
  refine jT_adv 1 (pcN := 68) (LN := [(5, (0, 3)), (3, (1, x1)), (0, (4, 0)), (1, (1, x1))]) (stN := [(0, 6), (0, 3)]) (hsN := [(101, [], [0, 0, 0, 0, 0, 0])]) (c1 := 0) (s1 := 0) (c2 := 0) (s2 := 0) (by exact rfl) ?_ (by omega) (by omega)
  refine jT_xicF (t := 85) (pcN := 71) jI_97_68 rfl (by decide +kernel) rfl rfl ?_
  refine jT_xaload_n (v := (4, 0)) (pcN := 72) jI_97_71 rfl rfl rfl ?_
  refine jT_xiload (v := (0, 3)) (pcN := 74) jI_97_72 rfl rfl rfl ?_
  refine jT_adv 1 (pcN := 75) (LN := [(5, (0, 3)), (3, (1, x1)), (0, (4, 0)), (1, (1, x1))]) (stN := [(0, 3), (4, 0), (0, 3), (4, 0)]) (hsN := [(101, [], [0, 0, 0, 0, 0, 0])]) (c1 := 0) (s1 := 0) (c2 := 0) (s2 := 0) (by exact rfl) ?_ (by omega) (by omega)
  refine jT_lald (x := 0) (a := 0) (j := 3) (fs := []) (X := [0, 0, 0, 0, 0, 0]) jI_97_75 rfl rfl rfl rfl ?_
  refine jT_eq (LN := [(5, (0, 3)), (3, (1, x1)), (0, (4, 0)), (1, (1, x1))]) (stN := [(1, 0), (0, 3), (4, 0)]) (hsN := [(101, [], [0, 0, 0, 0, 0, 0])]) rfl rfl rfl ?_
  refine jT_xlload_n (v := (1, x1)) (pcN := 77) jI_97_76 rfl rfl rfl ?_
  refine jT_ldiv (a := 0) (b := x1) (by rfl) (by rfl) (jwl_idd (by omega) (by omega)) (jwl_idd (by omega) (by omega)) (by omega) ?_
  refine jT_eq (LN := [(5, (0, 3)), (3, (1, x1)), (0, (4, 0)), (1, (1, x1))]) (stN := [(1, 0), (0, 3), (4, 0)]) (hsN := [(101, [], [0, 0, 0, 0, 0, 0])]) rfl (by rw [show ((0 : Int).tdiv x1 : Int) = 0 by simp]) rfl ?_
  refine jT_adv 1 (pcN := 79) (LN := [(5, (0, 3)), (3, (1, x1)), (0, (4, 0)), (1, (1, x1))]) (stN := []) (hsN := [(101, [], [0, 0, 0, 0, 0, 0])]) (c1 := 0) (s1 := 0) (c2 := 0) (s2 := 0) (by exact rfl) ?_ (by omega) (by omega)
  refine jT_xiinc (x := 3) (z := 4) (LN := [(5, (0, 4)), (3, (1, x1)), (0, (4, 0)), (1, (1, x1))]) (pcN := 82) jI_97_79 rfl rfl (by decide) rfl rfl ?_
  refine jT_xgoto (pcN := 64) jI_97_82 rfl ?_
  refine jT_xiload (v := (0, 4)) (pcN := 66) jI_97_64 rfl rfl rfl ?_
  refine jT_xaload_n (v := (4, 0)) (pcN := 67) jI_97_66 rfl rfl rfl ?_
  refine jT_adv 1 (pcN := 68) (LN := [(5, (0, 4)), (3, (1, x1)), (0, (4, 0)), (1, (1, x1))]) (stN := [(0, 6), (0, 4)]) (hsN := [(101, [], [0, 0, 0, 0, 0, 0])]) (c1 := 0) (s1 := 0) (c2 := 0) (s2 := 0) (by exact rfl) ?_ (by omega) (by omega)
  refine jT_xicF (t := 85) (pcN := 71) jI_97_68 rfl (by decide +kernel) rfl rfl ?_
  refine jT_xaload_n (v := (4, 0)) (pcN := 72) jI_97_71 rfl rfl rfl ?_
  refine jT_xiload (v := (0, 4)) (pcN := 74) jI_97_72 rfl rfl rfl ?_
  refine jT_adv 1 (pcN := 75) (LN := [(5, (0, 4)), (3, (1, x1)), (0, (4, 0)), (1, (1, x1))]) (stN := [(0, 4), (4, 0), (0, 4), (4, 0)]) (hsN := [(101, [], [0, 0, 0, 0, 0, 0])]) (c1 := 0) (s1 := 0) (c2 := 0) (s2 := 0) (by exact rfl) ?_ (by omega) (by omega)
  refine jT_lald (x := 0) (a := 0) (j := 4) (fs := []) (X := [0, 0, 0, 0, 0, 0]) jI_97_75 rfl rfl rfl rfl ?_
  refine jT_eq (LN := [(5, (0, 4)), (3, (1, x1)), (0, (4, 0)), (1, (1, x1))]) (stN := [(1, 0), (0, 4), (4, 0)]) (hsN := [(101, [], [0, 0, 0, 0, 0, 0])]) rfl rfl rfl ?_
  refine jT_xlload_n (v := (1, x1)) (pcN := 77) jI_97_76 rfl rfl rfl ?_
  refine jT_ldiv (a := 0) (b := x1) (by rfl) (by rfl) (jwl_idd (by omega) (by omega)) (jwl_idd (by omega) (by omega)) (by omega) ?_
  refine jT_eq (LN := [(5, (0, 4)), (3, (1, x1)), (0, (4, 0)), (1, (1, x1))]) (stN := [(1, 0), (0, 4), (4, 0)]) (hsN := [(101, [], [0, 0, 0, 0, 0, 0])]) rfl (by rw [show ((0 : Int).tdiv x1 : Int) = 0 by simp]) rfl ?_
  refine jT_adv 1 (pcN := 79) (LN := [(5, (0, 4)), (3, (1, x1)), (0, (4, 0)), (1, (1, x1))]) (stN := []) (hsN := [(101, [], [0, 0, 0, 0, 0, 0])]) (c1 := 0) (s1 := 0) (c2 := 0) (s2 := 0) (by exact rfl) ?_ (by omega) (by omega)
  refine jT_xiinc (x := 4) (z := 5) (LN := [(5, (0, 5)), (3, (1, x1)), (0, (4, 0)), (1, (1, x1))]) (pcN := 82) jI_97_79 rfl rfl (by decide) rfl rfl ?_
  refine jT_xgoto (pcN := 64) jI_97_82 rfl ?_
  refine jT_xiload (v := (0, 5)) (pcN := 66) jI_97_64 rfl rfl rfl ?_
  refine jT_xaload_n (v := (4, 0)) (pcN := 67) jI_97_66 rfl rfl rfl ?_
  refine jT_adv 1 (pcN := 68) (LN := [(5, (0, 5)), (3, (1, x1)), (0, (4, 0)), (1, (1, x1))]) (stN := [(0, 6), (0, 5)]) (hsN := [(101, [], [0, 0, 0, 0, 0, 0])]) (c1 := 0) (s1 := 0) (c2 := 0) (s2 := 0) (by exact rfl) ?_ (by omega) (by omega)
  refine jT_xicF (t := 85) (pcN := 71) jI_97_68 rfl (by decide +kernel) rfl rfl ?_
  refine jT_xaload_n (v := (4, 0)) (pcN := 72) jI_97_71 rfl rfl rfl ?_
  refine jT_xiload (v := (0, 5)) (pcN := 74) jI_97_72 rfl rfl rfl ?_
  refine jT_adv 1 (pcN := 75) (LN := [(5, (0, 5)), (3, (1, x1)), (0, (4, 0)), (1, (1, x1))]) (stN := [(0, 5), (4, 0), (0, 5), (4, 0)]) (hsN := [(101, [], [0, 0, 0, 0, 0, 0])]) (c1 := 0) (s1 := 0) (c2 := 0) (s2 := 0) (by exact rfl) ?_ (by omega) (by omega)
  refine jT_lald (x := 0) (a := 0) (j := 5) (fs := []) (X := [0, 0, 0, 0, 0, 0]) jI_97_75 rfl rfl rfl rfl ?_
  refine jT_eq (LN := [(5, (0, 5)), (3, (1, x1)), (0, (4, 0)), (1, (1, x1))]) (stN := [(1, 0), (0, 5), (4, 0)]) (hsN := [(101, [], [0, 0, 0, 0, 0, 0])]) rfl rfl rfl ?_
  refine jT_xlload_n (v := (1, x1)) (pcN := 77) jI_97_76 rfl rfl rfl ?_
  refine jT_ldiv (a := 0) (b := x1) (by rfl) (by rfl) (jwl_idd (by omega) (by omega)) (jwl_idd (by omega) (by omega)) (by omega) ?_
  refine jT_eq (LN := [(5, (0, 5)), (3, (1, x1)), (0, (4, 0)), (1, (1, x1))]) (stN := [(1, 0), (0, 5), (4, 0)]) (hsN := [(101, [], [0, 0, 0, 0, 0, 0])]) rfl (by rw [show ((0 : Int).tdiv x1 : Int) = 0 by simp]) rfl ?_
  refine jT_adv 1 (pcN := 79) (LN := [(5, (0, 5)), (3, (1, x1)), (0, (4, 0)), (1, (1, x1))]) (stN := []) (hsN := [(101, [], [0, 0, 0, 0, 0, 0])]) (c1 := 0) (s1 := 0) (c2 := 0) (s2 := 0) (by exact rfl) ?_ (by omega) (by omega)
  refine jT_xiinc (x := 5) (z := 6) (LN := [(5, (0, 6)), (3, (1, x1)), (0, (4, 0)), (1, (1, x1))]) (pcN := 82) jI_97_79 rfl rfl (by decide) rfl rfl ?_
  refine jT_xgoto (pcN := 64) jI_97_82 rfl ?_
  refine jT_xiload (v := (0, 6)) (pcN := 66) jI_97_64 rfl rfl rfl ?_
  refine jT_xaload_n (v := (4, 0)) (pcN := 67) jI_97_66 rfl rfl rfl ?_
  refine jT_adv 1 (pcN := 68) (LN := [(5, (0, 6)), (3, (1, x1)), (0, (4, 0)), (1, (1, x1))]) (stN := [(0, 6), (0, 6)]) (hsN := [(101, [], [0, 0, 0, 0, 0, 0])]) (c1 := 0) (s1 := 0) (c2 := 0) (s2 := 0) (by exact rfl) ?_ (by omega) (by omega)
  refine jT_xicT (pcN := 85) jI_97_68 rfl (by decide +kernel) rfl ?_
  refine jT_xlload_n (v := (1, x1)) (pcN := 86) jI_97_85 rfl rfl rfl ?_
  refine jT_xlload_n (v := (1, x1)) (pcN := 87) jI_97_86 rfl rfl rfl ?_
  refine jT_ldiv (a := x1) (b := x1) (by rfl) (by rfl) (jwl_idd (by omega) (by omega)) (jwl_idd (by omega) (by omega)) (by omega) ?_
  refine jT_eq (LN := [(5, (0, 6)), (3, (1, x1)), (0, (4, 0)), (1, (1, x1))]) (stN := [(1, 1)]) (hsN := [(101, [], [0, 0, 0, 0, 0, 0])]) rfl (by rw [show (x1.tdiv x1 : Int) = 1 by exact Int.tdiv_self (by omega)]) rfl ?_
  exact jT_ret rfl (by decide) (by show 1 ≤ 1; decide) (by omega) (by omega) ⟨rfl, rfl, rfl⟩
theorem jA_9_236 {xs : List Int} {d : Nat} {x1 : Int} (h_x1 : 2 ≤ x1 ∧ x1 ≤ 24) : jT xs (d + 2) 9 2 0 [(0, (4, 0)), (1, (4, 1)), (2, (1, x1))] [] [(4, [(4, (-1)), (1, 0)], []), (101, [], [0, 0, 0, 0, 0, 0])] 0 0 (fun k v hsN => k = 0 ∧ v = (9, 0) ∧ hsN = [(4, [(4, 1), (1, 1)], []), (101, [], [0, 0, 0, 0, 0, 0])]) := by
  refine jT_xaload_n (v := (4, 0)) (pcN := 1) jI_9_0 rfl rfl rfl ?_
  refine jT_adv 1 (pcN := 4) (LN := [(0, (4, 0)), (1, (4, 1)), (2, (1, x1))]) (stN := []) (hsN := [(4, [(4, (-1)), (1, 0)], []), (101, [], [0, 0, 0, 0, 0, 0])]) (c1 := 0) (s1 := 0) (c2 := 0) (s2 := 0) (by exact rfl) ?_ (by omega) (by omega)
  refine jT_xaload_n (v := (4, 0)) (pcN := 5) jI_9_4 rfl rfl rfl ?_
  refine jT_xaload_n (v := (4, 1)) (pcN := 6) jI_9_5 rfl rfl rfl ?_
  refine jT_adv 1 (pcN := 9) (LN := [(0, (4, 0)), (1, (4, 1)), (2, (1, x1))]) (stN := []) (hsN := [(4, [(4, 1), (1, 0)], []), (101, [], [0, 0, 0, 0, 0, 0])]) (c1 := 0) (s1 := 0) (c2 := 0) (s2 := 0) (by exact rfl) ?_ (by omega) (by omega)
  refine jT_xaload_n (v := (4, 0)) (pcN := 10) jI_9_9 rfl rfl rfl ?_
  refine jT_xaload_n (v := (4, 1)) (pcN := 11) jI_9_10 rfl rfl rfl ?_
  refine jT_xlload_n (v := (1, x1)) (pcN := 12) jI_9_11 rfl rfl rfl ?_
  refine jT_fR [1] 2 (y := 97) (pcN := 15) (dC := 1) (bc1 := 0) (bc2 := 0) (c1 := 0) (c2 := 0) (as := [(4, 1), (1, x1)]) (asC := [(4, 0), (1, x1)]) (LN := [(0, (4, 0)), (1, (4, 1)), (2, (1, x1))]) (stN := [(4, 0)]) (hsC := [(101, [], [0, 0, 0, 0, 0, 0])]) (v := (1, 1)) (st2 := [(1, 1), (4, 0)]) (jA_97_235 (d := 0) (by omega)) (by rfl) (by rfl) (by decide +kernel) (by rfl) (by rfl) (by omega) (by omega) (by omega) (by omega) rfl ?_
  refine jT_adv 1 (pcN := 18) (LN := [(0, (4, 0)), (1, (4, 1)), (2, (1, x1))]) (stN := []) (hsN := [(4, [(4, 1), (1, 1)], []), (101, [], [0, 0, 0, 0, 0, 0])]) (c1 := 0) (s1 := 0) (c2 := 0) (s2 := 0) (by exact rfl) ?_ (by omega) (by omega)
  exact jT_ret rfl (by decide) (by show 2 ≤ 2; decide) (by omega) (by omega) ⟨rfl, rfl, rfl⟩
theorem jI_8_0 : jmI (jm 8) 0 = (.bipush 6, 2) := by rfl
theorem jI_8_4 : jmI (jm 8) 4 = (.astore 4, 2) := by rfl
theorem jI_8_6 : jmI (jm 8) 6 = (.aload 4, 2) := by rfl
theorem jI_8_8 : jmI (jm 8) 8 = (.iconst 0, 1) := by rfl
theorem jI_8_9 : jmI (jm 8) 9 = (.lload_n 0, 1) := by rfl
theorem jI_8_15 : jmI (jm 8) 15 = (.aload 4, 2) := by rfl
theorem jI_8_17 : jmI (jm 8) 17 = (.lload_n 2, 1) := by rfl
theorem jA_8_237 {xs : List Int} {d : Nat} {x1 : Int} (h_x1 : 2 ≤ x1 ∧ x1 ≤ 24) : jT xs (d + 3) 8 0 0 [(0, (1, 0)), (2, (1, x1))] [] [] 2 8 (fun k v hsN => k = 0 ∧ v = (4, 1) ∧ hsN = [] ++ [(101, [], [0, 0, 0, 0, 0, 0]), (4, [(4, 0), (1, 1)], [])]) := by
  refine jT_xbipush (k := 6) (pcN := 2) jI_8_0 (by decide) rfl ?_
  refine jT_adv 1 (pcN := 4) (LN := [(0, (1, 0)), (2, (1, x1))]) (stN := [(4, 0)]) (hsN := [(101, [], [0, 0, 0, 0, 0, 0])]) (c1 := 1) (s1 := 6) (c2 := 1) (s2 := 2) (by exact rfl) ?_ (by omega) (by omega)
  refine jT_xastore (v := (4, 0)) (LN := [(4, (4, 0)), (0, (1, 0)), (2, (1, x1))]) (pcN := 6) jI_8_4 rfl rfl rfl rfl ?_
  refine jT_xaload (v := (4, 0)) (pcN := 8) jI_8_6 rfl rfl rfl ?_
  refine jT_xiconst (k := 0) (pcN := 9) jI_8_8 rfl ?_
  refine jT_xlload_n (v := (1, 0)) (pcN := 10) jI_8_9 rfl rfl rfl ?_
  refine jT_adv 3 (pcN := 15) (LN := [(4, (4, 0)), (0, (1, 0)), (2, (1, x1))]) (stN := [(4, 1), (4, 1)]) (hsN := [(101, [], [0, 0, 0, 0, 0, 0]), (4, [(4, (-1)), (1, 0)], [])]) (c1 := 1) (s1 := 2) (c2 := 0) (s2 := 0) (by exact rfl) ?_ (by omega) (by omega)
  refine jT_xaload (v := (4, 0)) (pcN := 17) jI_8_15 rfl rfl rfl ?_
  refine jT_xlload_n (v := (1, x1)) (pcN := 18) jI_8_17 rfl rfl rfl ?_
  refine jT_fB [1, 0] 2 (y := 9) (pcN := 21) (dC := 2) (bc1 := 0) (bc2 := 0) (c1 := 0) (c2 := 0) (as := [(4, 1), (4, 0), (1, x1)]) (asC := [(4, 0), (4, 1), (1, x1)]) (LN := [(4, (4, 0)), (0, (1, 0)), (2, (1, x1))]) (stN := [(4, 1)]) (hsC := [(4, [(4, (-1)), (1, 0)], []), (101, [], [0, 0, 0, 0, 0, 0])]) (hsD := [(4, [(4, 1), (1, 1)], []), (101, [], [0, 0, 0, 0, 0, 0])]) (v := (9, 0)) (st2 := [(4, 1)]) (hs2 := [(101, [], [0, 0, 0, 0, 0, 0]), (4, [(4, 0), (1, 1)], [])]) (jA_9_236 (d := 0) (by omega)) (by rfl) (by rfl) (by decide +kernel) (by rfl) (by rfl) (by omega) (by omega) (by omega) (by omega) rfl (by decide +kernel) ?_
  exact jT_ret rfl (by decide) (by show 0 ≤ 2; decide) (by omega) (by omega) ⟨rfl, rfl, rfl⟩
theorem jA_123_238 {xs : List Int} {d : Nat} {x1 x2 x3 : Int} (h_x1 : 2 ≤ x1 ∧ x1 ≤ 24) (h_x2 : 0 ≤ x2 ∧ x2 ≤ 7) (h_x3 : 0 ≤ x3 ∧ x3 ≤ 7) : jT xs (d + 4) 123 21 0 [(0, (4, 0)), (1, (0, x1)), (2, (0, x2)), (3, (0, x3))] [] jpA_642 6 29 (fun k v hsN => k = 0 ∧ v = (0, 0) ∧ hsN = jpA_975) := by
  refine jT_xaload_n (v := (4, 0)) (pcN := 1) jI_123_0 rfl rfl rfl ?_
  refine jT_xiload_n (v := (0, x1)) (pcN := 2) jI_123_1 rfl rfl rfl ?_
  refine jT_xiconst (k := 1) (pcN := 3) jI_123_2 rfl ?_
  refine jT_xbipush (k := 24) (pcN := 5) jI_123_3 (by decide) rfl ?_
  refine jT_fR [0] 21 (y := 116) (pcN := 8) (dC := 0) (bc1 := 0) (bc2 := 0) (c1 := 6) (c2 := 29) (as := [(4, 0), (0, x1), (0, 1), (0, 24)]) (asC := [(4, 0), (0, x1), (0, 1), (0, 24)]) (LN := [(0, (4, 0)), (1, (0, x1)), (2, (0, x2)), (3, (0, x3))]) (stN := []) (hsC := [jgh]) (v := (9, 0)) (st2 := []) (jA_116_230 (d := 0) (by omega)) (by rfl) (by rfl) (by decide +kernel) (by rfl) (by rfl) (by omega) (by omega) (by omega) (by omega) rfl ?_
  refine jT_xaload_n (v := (4, 0)) (pcN := 9) jI_123_8 rfl rfl rfl ?_
  refine jT_xiload_n (v := (0, x2)) (pcN := 10) jI_123_9 rfl rfl rfl ?_
  refine jT_xbipush (k := 8) (pcN := 12) jI_123_10 (by decide) rfl ?_
  refine jT_fR [0] 21 (y := 115) (pcN := 15) (dC := 0) (bc1 := 0) (bc2 := 0) (c1 := 6) (c2 := 29) (as := [(4, 0), (0, x2), (0, 8)]) (asC := [(4, 0), (0, x2), (0, 8)]) (LN := [(0, (4, 0)), (1, (0, x1)), (2, (0, x2)), (3, (0, x3))]) (stN := []) (hsC := [jgh]) (v := (9, 0)) (st2 := []) (jA_115_16 (d := 0) (by omega)) (by rfl) (by rfl) (by decide +kernel) (by rfl) (by rfl) (by omega) (by omega) (by omega) (by omega) rfl ?_
  refine jT_xaload_n (v := (4, 0)) (pcN := 16) jI_123_15 rfl rfl rfl ?_
  refine jT_xiload_n (v := (0, x3)) (pcN := 17) jI_123_16 rfl rfl rfl ?_
  refine jT_xbipush (k := 8) (pcN := 19) jI_123_17 (by decide) rfl ?_
  refine jT_fR [0] 21 (y := 115) (pcN := 22) (dC := 0) (bc1 := 0) (bc2 := 0) (c1 := 6) (c2 := 29) (as := [(4, 0), (0, x3), (0, 8)]) (asC := [(4, 0), (0, x3), (0, 8)]) (LN := [(0, (4, 0)), (1, (0, x1)), (2, (0, x2)), (3, (0, x3))]) (stN := []) (hsC := [jgh]) (v := (9, 0)) (st2 := []) (jA_115_23 (d := 0) (by omega)) (by rfl) (by rfl) (by decide +kernel) (by rfl) (by rfl) (by omega) (by omega) (by omega) (by omega) rfl ?_
  refine jT_xaload_n (v := (4, 0)) (pcN := 23) jI_123_22 rfl rfl rfl ?_
  refine jT_xgetf (a := 0) (t := 1) (ci := 13) (fi := 11) (c := jzA_5) (v := (4, 11)) (pcN := 26) jI_123_23 rfl rfl rfl rfl rfl rfl rfl ?_
  refine jT_xiload_n (v := (0, x2)) (pcN := 27) jI_123_26 rfl rfl rfl ?_
  refine jT_fR [11, 14, 15, 16, 17, 18, 19] 21 (y := 57) (pcN := 30) (dC := 0) (bc1 := 0) (bc2 := 0) (c1 := 6) (c2 := 29) (as := [(4, 11), (0, x2)]) (asC := [(4, 0), (0, x2)]) (LN := [(0, (4, 0)), (1, (0, x1)), (2, (0, x2)), (3, (0, x3))]) (stN := []) (hsC := jpA_47) (v := (4, 6)) (st2 := [(4, 19)]) (jA_57_24 (d := 0) (by omega)) (by rfl) (by rfl) (by decide +kernel) (by rfl) (by rfl) (by omega) (by omega) (by omega) (by omega) rfl ?_
  refine jT_xastore (v := (4, 19)) (LN := [(4, (4, 19)), (0, (4, 0)), (1, (0, x1)), (2, (0, x2)), (3, (0, x3))]) (pcN := 32) jI_123_30 rfl rfl rfl rfl ?_
  refine jT_xaload_n (v := (4, 0)) (pcN := 33) jI_123_32 rfl rfl rfl ?_
  refine jT_xgetf (a := 0) (t := 1) (ci := 13) (fi := 0) (c := jzA_5) (v := (4, 1)) (pcN := 36) jI_123_33 rfl rfl rfl rfl rfl rfl rfl ?_
  refine jT_xaload (v := (4, 19)) (pcN := 38) jI_123_36 rfl rfl rfl ?_
  refine jT_xiload_n (v := (0, x1)) (pcN := 39) jI_123_38 rfl rfl rfl ?_
  refine jT_xi2l (x := x1) (z := x1) (pcN := 40) jI_123_39 rfl (jw_idd (by omega) (by omega)) rfl ?_
  refine jT_fR [1, 19, 12, 13, 20] 21 (y := 43) (pcN := 43) (dC := 3) (bc1 := 0) (bc2 := 0) (c1 := 6) (c2 := 29) (as := [(4, 1), (4, 19), (1, x1)]) (asC := [(4, 0), (4, 1), (1, x1)]) (LN := [(4, (4, 19)), (0, (4, 0)), (1, (0, x1)), (2, (0, x2)), (3, (0, x3))]) (stN := []) (hsC := jpA_626) (v := (1, 0)) (st2 := [(1, 0)]) (jA_43_233 (d := 0) (by omega)) (by rfl) (by rfl) (by decide +kernel) (by rfl) (by rfl) (by omega) (by omega) (by omega) (by omega) rfl ?_
  refine jT_xlstore (v := (1, 0)) (LN := [(5, (1, 0)), (4, (4, 19)), (0, (4, 0)), (1, (0, x1)), (2, (0, x2)), (3, (0, x3))]) (pcN := 45) jI_123_43 rfl rfl rfl rfl ?_
  refine jT_xlload (v := (1, 0)) (pcN := 47) jI_123_45 rfl rfl rfl ?_
  refine jT_xiload_n (v := (0, x1)) (pcN := 48) jI_123_47 rfl rfl rfl ?_
  refine jT_xi2l (x := x1) (z := x1) (pcN := 49) jI_123_48 rfl (jw_idd (by omega) (by omega)) rfl ?_
  refine jT_fA [] 21 (y := 8) (pcN := 52) (dC := 3) (bc1 := 2) (bc2 := 8) (c1 := 4) (c2 := 21) (as := [(1, 0), (1, x1)]) (asC := [(1, 0), (1, x1)]) (LN := [(5, (1, 0)), (4, (4, 19)), (0, (4, 0)), (1, (0, x1)), (2, (0, x2)), (3, (0, x3))]) (stN := []) (hsC := []) (ex := [(101, [], [0, 0, 0, 0, 0, 0]), (4, [(4, 0), (1, 1)], [])]) (v := (4, 1)) (st2 := [(4, 22)]) (hs2 := jpA_643) (jA_8_237 (d := 0) (by omega)) (by rfl) (by rfl) (by decide +kernel) (by rfl) (by rfl) (by omega) (by omega) (by omega) (by omega) rfl (by decide +kernel) ?_
  refine jT_xaload (v := (4, 19)) (pcN := 54) jI_123_52 rfl rfl rfl ?_
  refine jT_xiconst (k := 1) (pcN := 55) jI_123_54 rfl ?_
  refine jT_fA [22, 19, 21, 20] 23 (y := 11) (pcN := 58) (dC := 2) (bc1 := 2) (bc2 := 8) (c1 := 2) (c2 := 13) (as := [(4, 22), (4, 19), (0, 1)]) (asC := [(4, 0), (4, 1), (0, 1)]) (LN := [(5, (1, 0)), (4, (4, 19)), (0, (4, 0)), (1, (0, x1)), (2, (0, x2)), (3, (0, x3))]) (stN := []) (hsC := jpA_947) (ex := [(101, [], [0, 0, 0, 0, 0, 0]), (4, [(4, 4), (1, 1)], [])]) (v := (4, 5)) (st2 := [(4, 24)]) (hs2 := jpA_963) (jA_11_224 (d := 0)) (by rfl) (by rfl) (by decide +kernel) (by rfl) (by rfl) (by omega) (by omega) (by omega) (by omega) rfl (by decide +kernel) ?_
  refine jT_xastore (v := (4, 24)) (LN := [(7, (4, 24)), (5, (1, 0)), (4, (4, 19)), (0, (4, 0)), (1, (0, x1)), (2, (0, x2)), (3, (0, x3))]) (pcN := 60) jI_123_58 rfl rfl rfl rfl ?_
  refine jT_xaload_n (v := (4, 0)) (pcN := 61) jI_123_60 rfl rfl rfl ?_
  refine jT_xaload (v := (4, 24)) (pcN := 63) jI_123_61 rfl rfl rfl ?_
  refine jT_fR [0, 24, 23] 25 (y := 117) (pcN := 66) (dC := 2) (bc1 := 0) (bc2 := 0) (c1 := 2) (c2 := 13) (as := [(4, 0), (4, 24)]) (asC := [(4, 0), (4, 1)]) (LN := [(7, (4, 24)), (5, (1, 0)), (4, (4, 19)), (0, (4, 0)), (1, (0, x1)), (2, (0, x2)), (3, (0, x3))]) (stN := []) (hsC := [jgh, (4, [(4, 2), (1, 1)], []), (101, [], [0, 0, 0, 0, 0, 0])]) (v := (9, 0)) (st2 := []) (jA_117_31 (d := 0)) (by rfl) (by rfl) (by decide +kernel) (by rfl) (by rfl) (by omega) (by omega) (by omega) (by omega) rfl ?_
  refine jT_xaload_n (v := (4, 0)) (pcN := 67) jI_123_66 rfl rfl rfl ?_
  refine jT_xaload_n (v := (4, 0)) (pcN := 68) jI_123_67 rfl rfl rfl ?_
  refine jT_xgetf (a := 0) (t := 1) (ci := 13) (fi := 11) (c := jzA_5) (v := (4, 11)) (pcN := 71) jI_123_68 rfl rfl rfl rfl rfl rfl rfl ?_
  refine jT_xiload_n (v := (0, x3)) (pcN := 72) jI_123_71 rfl rfl rfl ?_
  refine jT_xaload (v := (4, 24)) (pcN := 74) jI_123_72 rfl rfl rfl ?_
  refine jT_fA [11, 24, 14, 15, 16, 17, 18, 23, 19] 25 (y := 58) (pcN := 77) (dC := 1) (bc1 := 2) (bc2 := 13) (c1 := 0) (c2 := 0) (as := [(4, 11), (0, x3), (4, 24)]) (asC := [(4, 0), (0, x3), (4, 1)]) (LN := [(7, (4, 24)), (5, (1, 0)), (4, (4, 19)), (0, (4, 0)), (1, (0, x1)), (2, (0, x2)), (3, (0, x3))]) (stN := [(4, 0)]) (hsC := jpA_74) (ex := [jgh, jzA_72]) (v := (4, 10)) (st2 := [(4, 26), (4, 0)]) (hs2 := jpA_973) (jA_58_181 (d := 0) (by omega)) (by rfl) (by rfl) (by decide +kernel) (by rfl) (by rfl) (by omega) (by omega) (by omega) (by omega) rfl (by decide +kernel) ?_
  refine jT_fB [0, 26, 1, 2, 3, 4, 5, 6, 7, 8, 9, 10, 11, 14, 15, 16, 17, 18] 27 (y := 100) (pcN := 80) (dC := 0) (bc1 := 0) (bc2 := 0) (c1 := 0) (c2 := 0) (as := [(4, 0), (4, 26)]) (asC := [(4, 0), (4, 1)]) (LN := [(7, (4, 24)), (5, (1, 0)), (4, (4, 19)), (0, (4, 0)), (1, (0, x1)), (2, (0, x2)), (3, (0, x3))]) (stN := []) (hsC := jpA_80) (hsD := jpA_78) (v := (9, 0)) (st2 := []) (hs2 := jpA_975) (jA_100_34 (d := 0)) (by rfl) (by rfl) (by decide +kernel) (by rfl) (by rfl) (by omega) (by omega) (by omega) (by omega) rfl (by decide +kernel) ?_
  refine jT_xlload (v := (1, 0)) (pcN := 82) jI_123_80 rfl rfl rfl ?_
  refine jT_xl2i (pcN := 83) jI_123_82 rfl rfl ?_
  exact jT_ret rfl (by decide) (by show 21 ≤ 27; decide) (by omega) (by omega) ⟨rfl, rfl, rfl⟩
theorem jA_332_239 {xs : List Int} {d : Nat} {x1 x2 x3 : Int} (h_x1 : 2 ≤ x1 ∧ x1 ≤ 24) (h_x2 : 0 ≤ x2 ∧ x2 ≤ 7) (h_x3 : 0 ≤ x3 ∧ x3 ≤ 7) : jT xs (d + 5) 332 22 0 [(0, (4, 0)), (1, (0, x1)), (2, (0, x2)), (3, (0, x3)), (4, (4, 1))] [] jpA_666 6 29 (fun k v hsN => k = 0 ∧ v = (0, 0) ∧ hsN = jpA_980) := by
  refine jT_xaload (v := (4, 1)) (pcN := 2) jI_332_0 rfl rfl rfl ?_
  refine jT_xiconst (k := 0) (pcN := 3) jI_332_2 rfl ?_
  refine jT_xaload_n (v := (4, 0)) (pcN := 4) jI_332_3 rfl rfl rfl ?_
  refine jT_xiload_n (v := (0, x1)) (pcN := 5) jI_332_4 rfl rfl rfl ?_
  refine jT_xiload_n (v := (0, x2)) (pcN := 6) jI_332_5 rfl rfl rfl ?_
  refine jT_xiload_n (v := (0, x3)) (pcN := 7) jI_332_6 rfl rfl rfl ?_
  refine jT_fB [0, 2, 3, 4, 5, 6, 7, 8, 9, 10, 11, 12, 13, 14, 15, 16, 17, 18, 19, 20, 21] 22 (y := 123) (pcN := 10) (dC := 4) (bc1 := 6) (bc2 := 29) (c1 := 0) (c2 := 0) (as := [(4, 0), (0, x1), (0, x2), (0, x3)]) (asC := [(4, 0), (0, x1), (0, x2), (0, x3)]) (LN := [(0, (4, 0)), (1, (0, x1)), (2, (0, x2)), (3, (0, x3)), (4, (4, 1))]) (stN := [(0, 0), (4, 1)]) (hsC := jpA_642) (hsD := jpA_975) (v := (0, 0)) (st2 := [(0, 0), (0, 0), (4, 1)]) (hs2 := jpA_980) (jA_123_238 (d := 0) (by omega) (by omega) (by omega)) (by rfl) (by rfl) (by decide +kernel) (by rfl) (by rfl) (by omega) (by omega) (by omega) (by omega) rfl (by decide +kernel) ?_
  refine jT_xi2l (x := 0) (z := 0) (pcN := 11) jI_332_10 rfl (by decide +kernel) rfl ?_
  refine jT_adv 1 (pcN := 12) (LN := [(0, (4, 0)), (1, (0, x1)), (2, (0, x2)), (3, (0, x3)), (4, (4, 1))]) (stN := []) (hsN := jpA_980) (c1 := 0) (s1 := 0) (c2 := 0) (s2 := 0) (by exact rfl) ?_ (by omega) (by omega)
  refine jT_xgoto (pcN := 27) jI_332_12 rfl ?_
  refine jT_xiconst (k := 0) (pcN := 28) jI_332_27 rfl ?_
  exact jT_ret rfl (by decide) (by show 22 ≤ 28; decide) (by omega) (by omega) ⟨rfl, rfl, rfl⟩
theorem jI_218_0 : jmI (jm 218) 0 = (.bipush 6, 2) := by rfl
theorem jI_218_4 : jmI (jm 218) 4 = (.astore_n 3, 1) := by rfl
theorem jI_218_5 : jmI (jm 218) 5 = (.iconst 0, 1) := by rfl
theorem jI_218_6 : jmI (jm 218) 6 = (.istore 4, 2) := by rfl
theorem jI_218_8 : jmI (jm 218) 8 = (.iload 4, 2) := by rfl
theorem jI_218_10 : jmI (jm 218) 10 = (.bipush 6, 2) := by rfl
theorem jI_218_12 : jmI (jm 218) 12 = (.if_icmp .ge 22, 3) := by rfl
theorem jI_218_15 : jmI (jm 218) 15 = (.aload_n 3, 1) := by rfl
theorem jI_218_16 : jmI (jm 218) 16 = (.iload 4, 2) := by rfl
theorem jI_218_18 : jmI (jm 218) 18 = (.lload_n 1, 1) := by rfl
theorem jI_218_19 : jmI (jm 218) 19 = (.aload_n 0, 1) := by rfl
theorem jI_218_20 : jmI (jm 218) 20 = (.getfield 31, 3) := by rfl
theorem jI_218_23 : jmI (jm 218) 23 = (.iload 4, 2) := by rfl
theorem jI_218_25 : jmI (jm 218) 25 = (.laload, 1) := by rfl
theorem jI_218_26 : jmI (jm 218) 26 = (.lmul, 1) := by rfl
theorem jI_218_28 : jmI (jm 218) 28 = (.iinc 4 1, 3) := by rfl
theorem jI_218_31 : jmI (jm 218) 31 = (.goto (-23), 3) := by rfl
theorem jI_218_34 : jmI (jm 218) 34 = (.aload_n 3, 1) := by rfl
theorem jA_218_240 {xs : List Int} {d : Nat} {x1 : Int} (h_x1 : 2 ≤ x1 ∧ x1 ≤ 24) : jT xs d 218 16 0 [(0, (4, 0)), (1, (1, x1))] [] jpA_147 1 6 (fun k v hsN => k = 0 ∧ v = (4, 16) ∧ hsN = jpA_147 ++ [(101, [], [0, 0, 0, 0, 0, 0])]) := by
  refine jT_xbipush (k := 6) (pcN := 2) jI_218_0 (by decide) rfl ?_
  refine jT_adv 1 (pcN := 4) (LN := [(0, (4, 0)), (1, (1, x1))]) (stN := [(4, 16)]) (hsN := jpA_984) (c1 := 1) (s1 := 6) (c2 := 0) (s2 := 0) (by exact rfl) ?_ (by omega) (by omega)
  refine jT_xastore_n (v := (4, 16)) (LN := [(3, (4, 16)), (0, (4, 0)), (1, (1, x1))]) (pcN := 5) jI_218_4 rfl rfl rfl rfl ?_
  refine jT_xiconst (k := 0) (pcN := 6) jI_218_5 rfl ?_
  refine jT_xistore (v := (0, 0)) (LN := [(4, (0, 0)), (3, (4, 16)), (0, (4, 0)), (1, (1, x1))]) (pcN := 8) jI_218_6 rfl rfl rfl rfl ?_
  refine jT_xiload (v := (0, 0)) (pcN := 10) jI_218_8 rfl rfl rfl ?_
  refine jT_xbipush (k := 6) (pcN := 12) jI_218_10 (by decide) rfl ?_
  refine jT_xicF (t := 34) (pcN := 15) jI_218_12 rfl (by decide +kernel) rfl rfl ?_
  refine jT_xaload_n (v := (4, 16)) (pcN := 16) jI_218_15 rfl rfl rfl ?_
  refine jT_xiload (v := (0, 0)) (pcN := 18) jI_218_16 rfl rfl rfl ?_
  refine jT_xlload_n (v := (1, x1)) (pcN := 19) jI_218_18 rfl rfl rfl ?_
  refine jT_xaload_n (v := (4, 0)) (pcN := 20) jI_218_19 rfl rfl rfl ?_
  refine jT_xgetf (a := 0) (t := 1) (ci := 14) (fi := 9) (c := jzA_21) (v := (4, 7)) (pcN := 23) jI_218_20 rfl rfl rfl rfl rfl rfl rfl ?_
  refine jT_xiload (v := (0, 0)) (pcN := 25) jI_218_23 rfl rfl rfl ?_
  refine jT_lald (x := 0) (a := 7) (j := 0) (fs := []) (X := [0, 0, 0, 0, 0, 0]) jI_218_25 rfl rfl rfl rfl ?_
  refine jT_eq (LN := [(4, (0, 0)), (3, (4, 16)), (0, (4, 0)), (1, (1, x1))]) (stN := [(1, 0), (1, x1), (0, 0), (4, 16)]) (hsN := jpA_984) rfl rfl rfl ?_
  refine jT_xlmul (x := x1) (y := 0) (z := 0) (pcN := 27) jI_218_26 rfl (by omega) rfl ?_
  refine jT_adv 1 (pcN := 28) (LN := [(4, (0, 0)), (3, (4, 16)), (0, (4, 0)), (1, (1, x1))]) (stN := []) (hsN := jpA_984) (c1 := 0) (s1 := 0) (c2 := 0) (s2 := 0) (by exact rfl) ?_ (by omega) (by omega)
  refine jT_xiinc (x := 0) (z := 1) (LN := [(4, (0, 1)), (3, (4, 16)), (0, (4, 0)), (1, (1, x1))]) (pcN := 31) jI_218_28 rfl rfl (by decide) rfl rfl ?_
  refine jT_xgoto (pcN := 8) jI_218_31 rfl ?_
  refine jT_xiload (v := (0, 1)) (pcN := 10) jI_218_8 rfl rfl rfl ?_
  refine jT_xbipush (k := 6) (pcN := 12) jI_218_10 (by decide) rfl ?_
  refine jT_xicF (t := 34) (pcN := 15) jI_218_12 rfl (by decide +kernel) rfl rfl ?_
  refine jT_xaload_n (v := (4, 16)) (pcN := 16) jI_218_15 rfl rfl rfl ?_
  refine jT_xiload (v := (0, 1)) (pcN := 18) jI_218_16 rfl rfl rfl ?_
  refine jT_xlload_n (v := (1, x1)) (pcN := 19) jI_218_18 rfl rfl rfl ?_
  refine jT_xaload_n (v := (4, 0)) (pcN := 20) jI_218_19 rfl rfl rfl ?_
  refine jT_xgetf (a := 0) (t := 1) (ci := 14) (fi := 9) (c := jzA_21) (v := (4, 7)) (pcN := 23) jI_218_20 rfl rfl rfl rfl rfl rfl rfl ?_
  refine jT_xiload (v := (0, 1)) (pcN := 25) jI_218_23 rfl rfl rfl ?_
  refine jT_lald (x := 0) (a := 7) (j := 1) (fs := []) (X := [0, 0, 0, 0, 0, 0]) jI_218_25 rfl rfl rfl rfl ?_
  refine jT_eq (LN := [(4, (0, 1)), (3, (4, 16)), (0, (4, 0)), (1, (1, x1))]) (stN := [(1, 0), (1, x1), (0, 1), (4, 16)]) (hsN := jpA_984) rfl rfl rfl ?_
  refine jT_xlmul (x := x1) (y := 0) (z := 0) (pcN := 27) jI_218_26 rfl (by omega) rfl ?_
  refine jT_adv 1 (pcN := 28) (LN := [(4, (0, 1)), (3, (4, 16)), (0, (4, 0)), (1, (1, x1))]) (stN := []) (hsN := jpA_984) (c1 := 0) (s1 := 0) (c2 := 0) (s2 := 0) (by exact rfl) ?_ (by omega) (by omega)
  refine jT_xiinc (x := 1) (z := 2) (LN := [(4, (0, 2)), (3, (4, 16)), (0, (4, 0)), (1, (1, x1))]) (pcN := 31) jI_218_28 rfl rfl (by decide) rfl rfl ?_
  refine jT_xgoto (pcN := 8) jI_218_31 rfl ?_
  refine jT_xiload (v := (0, 2)) (pcN := 10) jI_218_8 rfl rfl rfl ?_
  refine jT_xbipush (k := 6) (pcN := 12) jI_218_10 (by decide) rfl ?_
  refine jT_xicF (t := 34) (pcN := 15) jI_218_12 rfl (by decide +kernel) rfl rfl ?_
  refine jT_xaload_n (v := (4, 16)) (pcN := 16) jI_218_15 rfl rfl rfl ?_
  refine jT_xiload (v := (0, 2)) (pcN := 18) jI_218_16 rfl rfl rfl ?_
  refine jT_xlload_n (v := (1, x1)) (pcN := 19) jI_218_18 rfl rfl rfl ?_
  refine jT_xaload_n (v := (4, 0)) (pcN := 20) jI_218_19 rfl rfl rfl ?_
  refine jT_xgetf (a := 0) (t := 1) (ci := 14) (fi := 9) (c := jzA_21) (v := (4, 7)) (pcN := 23) jI_218_20 rfl rfl rfl rfl rfl rfl rfl ?_
  refine jT_xiload (v := (0, 2)) (pcN := 25) jI_218_23 rfl rfl rfl ?_
  refine jT_lald (x := 0) (a := 7) (j := 2) (fs := []) (X := [0, 0, 0, 0, 0, 0]) jI_218_25 rfl rfl rfl rfl ?_
  refine jT_eq (LN := [(4, (0, 2)), (3, (4, 16)), (0, (4, 0)), (1, (1, x1))]) (stN := [(1, 0), (1, x1), (0, 2), (4, 16)]) (hsN := jpA_984) rfl rfl rfl ?_
  refine jT_xlmul (x := x1) (y := 0) (z := 0) (pcN := 27) jI_218_26 rfl (by omega) rfl ?_
  refine jT_adv 1 (pcN := 28) (LN := [(4, (0, 2)), (3, (4, 16)), (0, (4, 0)), (1, (1, x1))]) (stN := []) (hsN := jpA_984) (c1 := 0) (s1 := 0) (c2 := 0) (s2 := 0) (by exact rfl) ?_ (by omega) (by omega)
  refine jT_xiinc (x := 2) (z := 3) (LN := [(4, (0, 3)), (3, (4, 16)), (0, (4, 0)), (1, (1, x1))]) (pcN := 31) jI_218_28 rfl rfl (by decide) rfl rfl ?_
  refine jT_xgoto (pcN := 8) jI_218_31 rfl ?_
  refine jT_xiload (v := (0, 3)) (pcN := 10) jI_218_8 rfl rfl rfl ?_
  refine jT_xbipush (k := 6) (pcN := 12) jI_218_10 (by decide) rfl ?_
  refine jT_xicF (t := 34) (pcN := 15) jI_218_12 rfl (by decide +kernel) rfl rfl ?_
  refine jT_xaload_n (v := (4, 16)) (pcN := 16) jI_218_15 rfl rfl rfl ?_
  refine jT_xiload (v := (0, 3)) (pcN := 18) jI_218_16 rfl rfl rfl ?_
  refine jT_xlload_n (v := (1, x1)) (pcN := 19) jI_218_18 rfl rfl rfl ?_
  refine jT_xaload_n (v := (4, 0)) (pcN := 20) jI_218_19 rfl rfl rfl ?_
  refine jT_xgetf (a := 0) (t := 1) (ci := 14) (fi := 9) (c := jzA_21) (v := (4, 7)) (pcN := 23) jI_218_20 rfl rfl rfl rfl rfl rfl rfl ?_
  refine jT_xiload (v := (0, 3)) (pcN := 25) jI_218_23 rfl rfl rfl ?_
  refine jT_lald (x := 0) (a := 7) (j := 3) (fs := []) (X := [0, 0, 0, 0, 0, 0]) jI_218_25 rfl rfl rfl rfl ?_
  refine jT_eq (LN := [(4, (0, 3)), (3, (4, 16)), (0, (4, 0)), (1, (1, x1))]) (stN := [(1, 0), (1, x1), (0, 3), (4, 16)]) (hsN := jpA_984) rfl rfl rfl ?_
  refine jT_xlmul (x := x1) (y := 0) (z := 0) (pcN := 27) jI_218_26 rfl (by omega) rfl ?_
  refine jT_adv 1 (pcN := 28) (LN := [(4, (0, 3)), (3, (4, 16)), (0, (4, 0)), (1, (1, x1))]) (stN := []) (hsN := jpA_984) (c1 := 0) (s1 := 0) (c2 := 0) (s2 := 0) (by exact rfl) ?_ (by omega) (by omega)
  refine jT_xiinc (x := 3) (z := 4) (LN := [(4, (0, 4)), (3, (4, 16)), (0, (4, 0)), (1, (1, x1))]) (pcN := 31) jI_218_28 rfl rfl (by decide) rfl rfl ?_
  refine jT_xgoto (pcN := 8) jI_218_31 rfl ?_
  refine jT_xiload (v := (0, 4)) (pcN := 10) jI_218_8 rfl rfl rfl ?_
  refine jT_xbipush (k := 6) (pcN := 12) jI_218_10 (by decide) rfl ?_
  refine jT_xicF (t := 34) (pcN := 15) jI_218_12 rfl (by decide +kernel) rfl rfl ?_
  refine jT_xaload_n (v := (4, 16)) (pcN := 16) jI_218_15 rfl rfl rfl ?_
  refine jT_xiload (v := (0, 4)) (pcN := 18) jI_218_16 rfl rfl rfl ?_
  refine jT_xlload_n (v := (1, x1)) (pcN := 19) jI_218_18 rfl rfl rfl ?_
  refine jT_xaload_n (v := (4, 0)) (pcN := 20) jI_218_19 rfl rfl rfl ?_
  refine jT_xgetf (a := 0) (t := 1) (ci := 14) (fi := 9) (c := jzA_21) (v := (4, 7)) (pcN := 23) jI_218_20 rfl rfl rfl rfl rfl rfl rfl ?_
  refine jT_xiload (v := (0, 4)) (pcN := 25) jI_218_23 rfl rfl rfl ?_
  refine jT_lald (x := 0) (a := 7) (j := 4) (fs := []) (X := [0, 0, 0, 0, 0, 0]) jI_218_25 rfl rfl rfl rfl ?_
  refine jT_eq (LN := [(4, (0, 4)), (3, (4, 16)), (0, (4, 0)), (1, (1, x1))]) (stN := [(1, 0), (1, x1), (0, 4), (4, 16)]) (hsN := jpA_984) rfl rfl rfl ?_
  refine jT_xlmul (x := x1) (y := 0) (z := 0) (pcN := 27) jI_218_26 rfl (by omega) rfl ?_
  refine jT_adv 1 (pcN := 28) (LN := [(4, (0, 4)), (3, (4, 16)), (0, (4, 0)), (1, (1, x1))]) (stN := []) (hsN := jpA_984) (c1 := 0) (s1 := 0) (c2 := 0) (s2 := 0) (by exact rfl) ?_ (by omega) (by omega)
  refine jT_xiinc (x := 4) (z := 5) (LN := [(4, (0, 5)), (3, (4, 16)), (0, (4, 0)), (1, (1, x1))]) (pcN := 31) jI_218_28 rfl rfl (by decide) rfl rfl ?_
  refine jT_xgoto (pcN := 8) jI_218_31 rfl ?_
  refine jT_xiload (v := (0, 5)) (pcN := 10) jI_218_8 rfl rfl rfl ?_
  refine jT_xbipush (k := 6) (pcN := 12) jI_218_10 (by decide) rfl ?_
  refine jT_xicF (t := 34) (pcN := 15) jI_218_12 rfl (by decide +kernel) rfl rfl ?_
  refine jT_xaload_n (v := (4, 16)) (pcN := 16) jI_218_15 rfl rfl rfl ?_
  refine jT_xiload (v := (0, 5)) (pcN := 18) jI_218_16 rfl rfl rfl ?_
  refine jT_xlload_n (v := (1, x1)) (pcN := 19) jI_218_18 rfl rfl rfl ?_
  refine jT_xaload_n (v := (4, 0)) (pcN := 20) jI_218_19 rfl rfl rfl ?_
  refine jT_xgetf (a := 0) (t := 1) (ci := 14) (fi := 9) (c := jzA_21) (v := (4, 7)) (pcN := 23) jI_218_20 rfl rfl rfl rfl rfl rfl rfl ?_
  refine jT_xiload (v := (0, 5)) (pcN := 25) jI_218_23 rfl rfl rfl ?_
  refine jT_lald (x := 0) (a := 7) (j := 5) (fs := []) (X := [0, 0, 0, 0, 0, 0]) jI_218_25 rfl rfl rfl rfl ?_
  refine jT_eq (LN := [(4, (0, 5)), (3, (4, 16)), (0, (4, 0)), (1, (1, x1))]) (stN := [(1, 0), (1, x1), (0, 5), (4, 16)]) (hsN := jpA_984) rfl rfl rfl ?_
  refine jT_xlmul (x := x1) (y := 0) (z := 0) (pcN := 27) jI_218_26 rfl (by omega) rfl ?_
  refine jT_adv 1 (pcN := 28) (LN := [(4, (0, 5)), (3, (4, 16)), (0, (4, 0)), (1, (1, x1))]) (stN := []) (hsN := jpA_984) (c1 := 0) (s1 := 0) (c2 := 0) (s2 := 0) (by exact rfl) ?_ (by omega) (by omega)
  refine jT_xiinc (x := 5) (z := 6) (LN := [(4, (0, 6)), (3, (4, 16)), (0, (4, 0)), (1, (1, x1))]) (pcN := 31) jI_218_28 rfl rfl (by decide) rfl rfl ?_
  refine jT_xgoto (pcN := 8) jI_218_31 rfl ?_
  refine jT_xiload (v := (0, 6)) (pcN := 10) jI_218_8 rfl rfl rfl ?_
  refine jT_xbipush (k := 6) (pcN := 12) jI_218_10 (by decide) rfl ?_
  refine jT_xicT (pcN := 34) jI_218_12 rfl (by decide +kernel) rfl ?_
  refine jT_xaload_n (v := (4, 16)) (pcN := 35) jI_218_34 rfl rfl rfl ?_
  exact jT_ret rfl (by decide) (by show 16 ≤ 17; decide) (by omega) (by omega) ⟨rfl, rfl, rfl⟩
theorem jA_194_241 {xs : List Int} {d : Nat} {x1 : Int} (h_x1 : 2 ≤ x1 ∧ x1 ≤ 24) : jT xs d 194 0 0 [(0, (1, x1)), (2, (1, 0))] [] [] 0 0 (fun k v hsN => k = 0 ∧ v = (1, x1) ∧ hsN = [] ++ []) := by
  refine jT_xlload_n (v := (1, 0)) (pcN := 1) jI_194_0 rfl rfl rfl ?_
  refine jT_xlconst (z := 0) (pcN := 2) jI_194_1 rfl rfl ?_
  refine jT_lcmp (a := 0) (b := 0) (z := 0) (by rfl) (by rfl) (by decide +kernel) (by decide +kernel) (by decide) ?_
  refine jT_xifF (t := 13) (pcN := 6) jI_194_3 rfl (by decide +kernel) rfl rfl ?_
  refine jT_xlload_n (v := (1, x1)) (pcN := 7) jI_194_6 rfl rfl rfl ?_
  refine jT_labs (z := x1) (by rfl) (by rfl) (by rfl) (by rfl) (by rw [show jwl (x1) = x1 from jwl_idd (by omega) (by omega), decide_eq_false (by omega)]; first | rfl | (show (_ : Int) = _; simp only [cond_true, cond_false]; omega)) ?_
  refine jT_xgoto (pcN := 20) jI_194_10 rfl ?_
  exact jT_ret rfl (by decide) (by show 0 ≤ 0; decide) (by omega) (by omega) ⟨rfl, rfl, rfl⟩
theorem jA_199_242 {xs : List Int} {d : Nat} {x1 : Int} (h_x1 : 2 ≤ x1 ∧ x1 ≤ 24) : jT xs (d + 1) 199 16 0 [(0, (4, 0))] [] [(14, [(0, 0), (4, 1), (4, 2), (4, 3), (4, 4), (0, 0), (4, 5), (0, 0), (4, 6), (4, 7), (1, x1), (4, 8), (0, 0), (4, 9), (0, 0), (0, 0), (0, 0), (0, 0), (0, 0), (0, 0), (0, 0), (4, 10), (4, 11), (4, 12), (4, 13), (4, 14), (4, 15), (0, 0)], []), jgh, jgh, jgh, jgh, jgh, jgh, (101, [], [0, 0, 0, 0, 0, 0]), jgh, jgh, jgh, jgh, jgh, jgh, jgh, jgh] 0 0 (fun k v hsN => k = 0 ∧ v = (9, 0) ∧ hsN = jpA_147) := by
  refine jT_xaload_n (v := (4, 0)) (pcN := 1) jI_199_0 rfl rfl rfl ?_
  refine jT_xgetf (a := 0) (t := 1) (ci := 14) (fi := 10) (c := (14, [(0, 0), (4, 1), (4, 2), (4, 3), (4, 4), (0, 0), (4, 5), (0, 0), (4, 6), (4, 7), (1, x1), (4, 8), (0, 0), (4, 9), (0, 0), (0, 0), (0, 0), (0, 0), (0, 0), (0, 0), (0, 0), (4, 10), (4, 11), (4, 12), (4, 13), (4, 14), (4, 15), (0, 0)], [])) (v := (1, x1)) (pcN := 4) jI_199_1 rfl rfl rfl rfl rfl rfl rfl ?_
  refine jT_xlstore_n (v := (1, x1)) (LN := [(1, (1, x1)), (0, (4, 0))]) (pcN := 5) jI_199_4 rfl rfl rfl rfl ?_
  refine jT_xiconst (k := 0) (pcN := 6) jI_199_5 rfl ?_
  refine jT_xistore_n (v := (0, 0)) (LN := [(3, (0, 0)), (1, (1, x1)), (0, (4, 0))]) (pcN := 7) jI_199_6 rfl rfl rfl rfl ?_
  refine jT_xiload_n (v := (0, 0)) (pcN := 8) jI_199_7 rfl rfl rfl ?_
  refine jT_xbipush (k := 6) (pcN := 10) jI_199_8 (by decide) rfl ?_
  refine jT_xicF (t := 30) (pcN := 13) jI_199_10 rfl (by decide +kernel) rfl rfl ?_
  refine jT_xlload_n (v := (1, x1)) (pcN := 14) jI_199_13 rfl rfl rfl ?_
  refine jT_xaload_n (v := (4, 0)) (pcN := 15) jI_199_14 rfl rfl rfl ?_
  refine jT_xgetf (a := 0) (t := 1) (ci := 14) (fi := 9) (c := (14, [(0, 0), (4, 1), (4, 2), (4, 3), (4, 4), (0, 0), (4, 5), (0, 0), (4, 6), (4, 7), (1, x1), (4, 8), (0, 0), (4, 9), (0, 0), (0, 0), (0, 0), (0, 0), (0, 0), (0, 0), (0, 0), (4, 10), (4, 11), (4, 12), (4, 13), (4, 14), (4, 15), (0, 0)], [])) (v := (4, 7)) (pcN := 18) jI_199_15 rfl rfl rfl rfl rfl rfl rfl ?_
  refine jT_xiload_n (v := (0, 0)) (pcN := 19) jI_199_18 rfl rfl rfl ?_
  refine jT_lald (x := 0) (a := 7) (j := 0) (fs := []) (X := [0, 0, 0, 0, 0, 0]) jI_199_19 rfl rfl rfl rfl ?_
  refine jT_eq (LN := [(3, (0, 0)), (1, (1, x1)), (0, (4, 0))]) (stN := [(1, 0), (1, x1)]) (hsN := [(14, [(0, 0), (4, 1), (4, 2), (4, 3), (4, 4), (0, 0), (4, 5), (0, 0), (4, 6), (4, 7), (1, x1), (4, 8), (0, 0), (4, 9), (0, 0), (0, 0), (0, 0), (0, 0), (0, 0), (0, 0), (0, 0), (4, 10), (4, 11), (4, 12), (4, 13), (4, 14), (4, 15), (0, 0)], []), jgh, jgh, jgh, jgh, jgh, jgh, (101, [], [0, 0, 0, 0, 0, 0]), jgh, jgh, jgh, jgh, jgh, jgh, jgh, jgh]) rfl rfl rfl ?_
  refine jT_callA [] (y := 194) (pcN := 23) (dC := 0) (bc1 := 0) (bc2 := 0) (c1 := 0) (c2 := 0) (as := [(1, x1), (1, 0)]) (asC := [(1, x1), (1, 0)]) (LN := [(3, (0, 0)), (1, (1, x1)), (0, (4, 0))]) (stN := []) (hsC := []) (ex := []) (v := (1, x1)) (st2 := [(1, x1)]) (hs2 := [(14, [(0, 0), (4, 1), (4, 2), (4, 3), (4, 4), (0, 0), (4, 5), (0, 0), (4, 6), (4, 7), (1, x1), (4, 8), (0, 0), (4, 9), (0, 0), (0, 0), (0, 0), (0, 0), (0, 0), (0, 0), (0, 0), (4, 10), (4, 11), (4, 12), (4, 13), (4, 14), (4, 15), (0, 0)], []), jgh, jgh, jgh, jgh, jgh, jgh, (101, [], [0, 0, 0, 0, 0, 0]), jgh, jgh, jgh, jgh, jgh, jgh, jgh, jgh]) (jA_194_241 (d := 0) (by omega)) (by rfl) (by rfl) (by rfl) (by rfl) trivial (by rfl) (by rfl) (by omega) (by show 16 ≤ 16; omega) (by omega) (by omega) rfl rfl ?_
  refine jT_xlstore_n (v := (1, x1)) (LN := [(1, (1, x1)), (3, (0, 0)), (0, (4, 0))]) (pcN := 24) jI_199_23 rfl rfl rfl rfl ?_
  refine jT_xiinc (x := 0) (z := 1) (LN := [(3, (0, 1)), (1, (1, x1)), (0, (4, 0))]) (pcN := 27) jI_199_24 rfl rfl (by decide) rfl rfl ?_
  refine jT_xgoto (pcN := 7) jI_199_27 rfl ?_
  refine jT_xiload_n (v := (0, 1)) (pcN := 8) jI_199_7 rfl rfl rfl ?_
  refine jT_xbipush (k := 6) (pcN := 10) jI_199_8 (by decide) rfl ?_
  refine jT_xicF (t := 30) (pcN := 13) jI_199_10 rfl (by decide +kernel) rfl rfl ?_
  refine jT_xlload_n (v := (1, x1)) (pcN := 14) jI_199_13 rfl rfl rfl ?_
  refine jT_xaload_n (v := (4, 0)) (pcN := 15) jI_199_14 rfl rfl rfl ?_
  refine jT_xgetf (a := 0) (t := 1) (ci := 14) (fi := 9) (c := (14, [(0, 0), (4, 1), (4, 2), (4, 3), (4, 4), (0, 0), (4, 5), (0, 0), (4, 6), (4, 7), (1, x1), (4, 8), (0, 0), (4, 9), (0, 0), (0, 0), (0, 0), (0, 0), (0, 0), (0, 0), (0, 0), (4, 10), (4, 11), (4, 12), (4, 13), (4, 14), (4, 15), (0, 0)], [])) (v := (4, 7)) (pcN := 18) jI_199_15 rfl rfl rfl rfl rfl rfl rfl ?_
  refine jT_xiload_n (v := (0, 1)) (pcN := 19) jI_199_18 rfl rfl rfl ?_
  refine jT_lald (x := 0) (a := 7) (j := 1) (fs := []) (X := [0, 0, 0, 0, 0, 0]) jI_199_19 rfl rfl rfl rfl ?_
  refine jT_eq (LN := [(3, (0, 1)), (1, (1, x1)), (0, (4, 0))]) (stN := [(1, 0), (1, x1)]) (hsN := [(14, [(0, 0), (4, 1), (4, 2), (4, 3), (4, 4), (0, 0), (4, 5), (0, 0), (4, 6), (4, 7), (1, x1), (4, 8), (0, 0), (4, 9), (0, 0), (0, 0), (0, 0), (0, 0), (0, 0), (0, 0), (0, 0), (4, 10), (4, 11), (4, 12), (4, 13), (4, 14), (4, 15), (0, 0)], []), jgh, jgh, jgh, jgh, jgh, jgh, (101, [], [0, 0, 0, 0, 0, 0]), jgh, jgh, jgh, jgh, jgh, jgh, jgh, jgh]) rfl rfl rfl ?_
  refine jT_callA [] (y := 194) (pcN := 23) (dC := 0) (bc1 := 0) (bc2 := 0) (c1 := 0) (c2 := 0) (as := [(1, x1), (1, 0)]) (asC := [(1, x1), (1, 0)]) (LN := [(3, (0, 1)), (1, (1, x1)), (0, (4, 0))]) (stN := []) (hsC := []) (ex := []) (v := (1, x1)) (st2 := [(1, x1)]) (hs2 := [(14, [(0, 0), (4, 1), (4, 2), (4, 3), (4, 4), (0, 0), (4, 5), (0, 0), (4, 6), (4, 7), (1, x1), (4, 8), (0, 0), (4, 9), (0, 0), (0, 0), (0, 0), (0, 0), (0, 0), (0, 0), (0, 0), (4, 10), (4, 11), (4, 12), (4, 13), (4, 14), (4, 15), (0, 0)], []), jgh, jgh, jgh, jgh, jgh, jgh, (101, [], [0, 0, 0, 0, 0, 0]), jgh, jgh, jgh, jgh, jgh, jgh, jgh, jgh]) (jA_194_241 (d := 0) (by omega)) (by rfl) (by rfl) (by rfl) (by rfl) trivial (by rfl) (by rfl) (by omega) (by show 16 ≤ 16; omega) (by omega) (by omega) rfl rfl ?_
  refine jT_xlstore_n (v := (1, x1)) (LN := [(1, (1, x1)), (3, (0, 1)), (0, (4, 0))]) (pcN := 24) jI_199_23 rfl rfl rfl rfl ?_
  refine jT_xiinc (x := 1) (z := 2) (LN := [(3, (0, 2)), (1, (1, x1)), (0, (4, 0))]) (pcN := 27) jI_199_24 rfl rfl (by decide) rfl rfl ?_
  refine jT_xgoto (pcN := 7) jI_199_27 rfl ?_
  refine jT_xiload_n (v := (0, 2)) (pcN := 8) jI_199_7 rfl rfl rfl ?_
  refine jT_xbipush (k := 6) (pcN := 10) jI_199_8 (by decide) rfl ?_
  refine jT_xicF (t := 30) (pcN := 13) jI_199_10 rfl (by decide +kernel) rfl rfl ?_
  refine jT_xlload_n (v := (1, x1)) (pcN := 14) jI_199_13 rfl rfl rfl ?_
  refine jT_xaload_n (v := (4, 0)) (pcN := 15) jI_199_14 rfl rfl rfl ?_
  refine jT_xgetf (a := 0) (t := 1) (ci := 14) (fi := 9) (c := (14, [(0, 0), (4, 1), (4, 2), (4, 3), (4, 4), (0, 0), (4, 5), (0, 0), (4, 6), (4, 7), (1, x1), (4, 8), (0, 0), (4, 9), (0, 0), (0, 0), (0, 0), (0, 0), (0, 0), (0, 0), (0, 0), (4, 10), (4, 11), (4, 12), (4, 13), (4, 14), (4, 15), (0, 0)], [])) (v := (4, 7)) (pcN := 18) jI_199_15 rfl rfl rfl rfl rfl rfl rfl ?_
  refine jT_xiload_n (v := (0, 2)) (pcN := 19) jI_199_18 rfl rfl rfl ?_
  refine jT_lald (x := 0) (a := 7) (j := 2) (fs := []) (X := [0, 0, 0, 0, 0, 0]) jI_199_19 rfl rfl rfl rfl ?_
  refine jT_eq (LN := [(3, (0, 2)), (1, (1, x1)), (0, (4, 0))]) (stN := [(1, 0), (1, x1)]) (hsN := [(14, [(0, 0), (4, 1), (4, 2), (4, 3), (4, 4), (0, 0), (4, 5), (0, 0), (4, 6), (4, 7), (1, x1), (4, 8), (0, 0), (4, 9), (0, 0), (0, 0), (0, 0), (0, 0), (0, 0), (0, 0), (0, 0), (4, 10), (4, 11), (4, 12), (4, 13), (4, 14), (4, 15), (0, 0)], []), jgh, jgh, jgh, jgh, jgh, jgh, (101, [], [0, 0, 0, 0, 0, 0]), jgh, jgh, jgh, jgh, jgh, jgh, jgh, jgh]) rfl rfl rfl ?_
  refine jT_callA [] (y := 194) (pcN := 23) (dC := 0) (bc1 := 0) (bc2 := 0) (c1 := 0) (c2 := 0) (as := [(1, x1), (1, 0)]) (asC := [(1, x1), (1, 0)]) (LN := [(3, (0, 2)), (1, (1, x1)), (0, (4, 0))]) (stN := []) (hsC := []) (ex := []) (v := (1, x1)) (st2 := [(1, x1)]) (hs2 := [(14, [(0, 0), (4, 1), (4, 2), (4, 3), (4, 4), (0, 0), (4, 5), (0, 0), (4, 6), (4, 7), (1, x1), (4, 8), (0, 0), (4, 9), (0, 0), (0, 0), (0, 0), (0, 0), (0, 0), (0, 0), (0, 0), (4, 10), (4, 11), (4, 12), (4, 13), (4, 14), (4, 15), (0, 0)], []), jgh, jgh, jgh, jgh, jgh, jgh, (101, [], [0, 0, 0, 0, 0, 0]), jgh, jgh, jgh, jgh, jgh, jgh, jgh, jgh]) (jA_194_241 (d := 0) (by omega)) (by rfl) (by rfl) (by rfl) (by rfl) trivial (by rfl) (by rfl) (by omega) (by show 16 ≤ 16; omega) (by omega) (by omega) rfl rfl ?_
  refine jT_xlstore_n (v := (1, x1)) (LN := [(1, (1, x1)), (3, (0, 2)), (0, (4, 0))]) (pcN := 24) jI_199_23 rfl rfl rfl rfl ?_
  refine jT_xiinc (x := 2) (z := 3) (LN := [(3, (0, 3)), (1, (1, x1)), (0, (4, 0))]) (pcN := 27) jI_199_24 rfl rfl (by decide) rfl rfl ?_
  refine jT_xgoto (pcN := 7) jI_199_27 rfl ?_
  refine jT_xiload_n (v := (0, 3)) (pcN := 8) jI_199_7 rfl rfl rfl ?_
  refine jT_xbipush (k := 6) (pcN := 10) jI_199_8 (by decide) rfl ?_
  refine jT_xicF (t := 30) (pcN := 13) jI_199_10 rfl (by decide +kernel) rfl rfl ?_
  refine jT_xlload_n (v := (1, x1)) (pcN := 14) jI_199_13 rfl rfl rfl ?_
  refine jT_xaload_n (v := (4, 0)) (pcN := 15) jI_199_14 rfl rfl rfl ?_
  refine jT_xgetf (a := 0) (t := 1) (ci := 14) (fi := 9) (c := (14, [(0, 0), (4, 1), (4, 2), (4, 3), (4, 4), (0, 0), (4, 5), (0, 0), (4, 6), (4, 7), (1, x1), (4, 8), (0, 0), (4, 9), (0, 0), (0, 0), (0, 0), (0, 0), (0, 0), (0, 0), (0, 0), (4, 10), (4, 11), (4, 12), (4, 13), (4, 14), (4, 15), (0, 0)], [])) (v := (4, 7)) (pcN := 18) jI_199_15 rfl rfl rfl rfl rfl rfl rfl ?_
  refine jT_xiload_n (v := (0, 3)) (pcN := 19) jI_199_18 rfl rfl rfl ?_
  refine jT_lald (x := 0) (a := 7) (j := 3) (fs := []) (X := [0, 0, 0, 0, 0, 0]) jI_199_19 rfl rfl rfl rfl ?_
  refine jT_eq (LN := [(3, (0, 3)), (1, (1, x1)), (0, (4, 0))]) (stN := [(1, 0), (1, x1)]) (hsN := [(14, [(0, 0), (4, 1), (4, 2), (4, 3), (4, 4), (0, 0), (4, 5), (0, 0), (4, 6), (4, 7), (1, x1), (4, 8), (0, 0), (4, 9), (0, 0), (0, 0), (0, 0), (0, 0), (0, 0), (0, 0), (0, 0), (4, 10), (4, 11), (4, 12), (4, 13), (4, 14), (4, 15), (0, 0)], []), jgh, jgh, jgh, jgh, jgh, jgh, (101, [], [0, 0, 0, 0, 0, 0]), jgh, jgh, jgh, jgh, jgh, jgh, jgh, jgh]) rfl rfl rfl ?_
  refine jT_callA [] (y := 194) (pcN := 23) (dC := 0) (bc1 := 0) (bc2 := 0) (c1 := 0) (c2 := 0) (as := [(1, x1), (1, 0)]) (asC := [(1, x1), (1, 0)]) (LN := [(3, (0, 3)), (1, (1, x1)), (0, (4, 0))]) (stN := []) (hsC := []) (ex := []) (v := (1, x1)) (st2 := [(1, x1)]) (hs2 := [(14, [(0, 0), (4, 1), (4, 2), (4, 3), (4, 4), (0, 0), (4, 5), (0, 0), (4, 6), (4, 7), (1, x1), (4, 8), (0, 0), (4, 9), (0, 0), (0, 0), (0, 0), (0, 0), (0, 0), (0, 0), (0, 0), (4, 10), (4, 11), (4, 12), (4, 13), (4, 14), (4, 15), (0, 0)], []), jgh, jgh, jgh, jgh, jgh, jgh, (101, [], [0, 0, 0, 0, 0, 0]), jgh, jgh, jgh, jgh, jgh, jgh, jgh, jgh]) (jA_194_241 (d := 0) (by omega)) (by rfl) (by rfl) (by rfl) (by rfl) trivial (by rfl) (by rfl) (by omega) (by show 16 ≤ 16; omega) (by omega) (by omega) rfl rfl ?_
  refine jT_xlstore_n (v := (1, x1)) (LN := [(1, (1, x1)), (3, (0, 3)), (0, (4, 0))]) (pcN := 24) jI_199_23 rfl rfl rfl rfl ?_
  refine jT_xiinc (x := 3) (z := 4) (LN := [(3, (0, 4)), (1, (1, x1)), (0, (4, 0))]) (pcN := 27) jI_199_24 rfl rfl (by decide) rfl rfl ?_
  refine jT_xgoto (pcN := 7) jI_199_27 rfl ?_
  refine jT_xiload_n (v := (0, 4)) (pcN := 8) jI_199_7 rfl rfl rfl ?_
  refine jT_xbipush (k := 6) (pcN := 10) jI_199_8 (by decide) rfl ?_
  refine jT_xicF (t := 30) (pcN := 13) jI_199_10 rfl (by decide +kernel) rfl rfl ?_
  refine jT_xlload_n (v := (1, x1)) (pcN := 14) jI_199_13 rfl rfl rfl ?_
  refine jT_xaload_n (v := (4, 0)) (pcN := 15) jI_199_14 rfl rfl rfl ?_
  refine jT_xgetf (a := 0) (t := 1) (ci := 14) (fi := 9) (c := (14, [(0, 0), (4, 1), (4, 2), (4, 3), (4, 4), (0, 0), (4, 5), (0, 0), (4, 6), (4, 7), (1, x1), (4, 8), (0, 0), (4, 9), (0, 0), (0, 0), (0, 0), (0, 0), (0, 0), (0, 0), (0, 0), (4, 10), (4, 11), (4, 12), (4, 13), (4, 14), (4, 15), (0, 0)], [])) (v := (4, 7)) (pcN := 18) jI_199_15 rfl rfl rfl rfl rfl rfl rfl ?_
  refine jT_xiload_n (v := (0, 4)) (pcN := 19) jI_199_18 rfl rfl rfl ?_
  refine jT_lald (x := 0) (a := 7) (j := 4) (fs := []) (X := [0, 0, 0, 0, 0, 0]) jI_199_19 rfl rfl rfl rfl ?_
  refine jT_eq (LN := [(3, (0, 4)), (1, (1, x1)), (0, (4, 0))]) (stN := [(1, 0), (1, x1)]) (hsN := [(14, [(0, 0), (4, 1), (4, 2), (4, 3), (4, 4), (0, 0), (4, 5), (0, 0), (4, 6), (4, 7), (1, x1), (4, 8), (0, 0), (4, 9), (0, 0), (0, 0), (0, 0), (0, 0), (0, 0), (0, 0), (0, 0), (4, 10), (4, 11), (4, 12), (4, 13), (4, 14), (4, 15), (0, 0)], []), jgh, jgh, jgh, jgh, jgh, jgh, (101, [], [0, 0, 0, 0, 0, 0]), jgh, jgh, jgh, jgh, jgh, jgh, jgh, jgh]) rfl rfl rfl ?_
  refine jT_callA [] (y := 194) (pcN := 23) (dC := 0) (bc1 := 0) (bc2 := 0) (c1 := 0) (c2 := 0) (as := [(1, x1), (1, 0)]) (asC := [(1, x1), (1, 0)]) (LN := [(3, (0, 4)), (1, (1, x1)), (0, (4, 0))]) (stN := []) (hsC := []) (ex := []) (v := (1, x1)) (st2 := [(1, x1)]) (hs2 := [(14, [(0, 0), (4, 1), (4, 2), (4, 3), (4, 4), (0, 0), (4, 5), (0, 0), (4, 6), (4, 7), (1, x1), (4, 8), (0, 0), (4, 9), (0, 0), (0, 0), (0, 0), (0, 0), (0, 0), (0, 0), (0, 0), (4, 10), (4, 11), (4, 12), (4, 13), (4, 14), (4, 15), (0, 0)], []), jgh, jgh, jgh, jgh, jgh, jgh, (101, [], [0, 0, 0, 0, 0, 0]), jgh, jgh, jgh, jgh, jgh, jgh, jgh, jgh]) (jA_194_241 (d := 0) (by omega)) (by rfl) (by rfl) (by rfl) (by rfl) trivial (by rfl) (by rfl) (by omega) (by show 16 ≤ 16; omega) (by omega) (by omega) rfl rfl ?_
  refine jT_xlstore_n (v := (1, x1)) (LN := [(1, (1, x1)), (3, (0, 4)), (0, (4, 0))]) (pcN := 24) jI_199_23 rfl rfl rfl rfl ?_
  refine jT_xiinc (x := 4) (z := 5) (LN := [(3, (0, 5)), (1, (1, x1)), (0, (4, 0))]) (pcN := 27) jI_199_24 rfl rfl (by decide) rfl rfl ?_
  refine jT_xgoto (pcN := 7) jI_199_27 rfl ?_
  refine jT_xiload_n (v := (0, 5)) (pcN := 8) jI_199_7 rfl rfl rfl ?_
  refine jT_xbipush (k := 6) (pcN := 10) jI_199_8 (by decide) rfl ?_
  refine jT_xicF (t := 30) (pcN := 13) jI_199_10 rfl (by decide +kernel) rfl rfl ?_
  refine jT_xlload_n (v := (1, x1)) (pcN := 14) jI_199_13 rfl rfl rfl ?_
  refine jT_xaload_n (v := (4, 0)) (pcN := 15) jI_199_14 rfl rfl rfl ?_
  refine jT_xgetf (a := 0) (t := 1) (ci := 14) (fi := 9) (c := (14, [(0, 0), (4, 1), (4, 2), (4, 3), (4, 4), (0, 0), (4, 5), (0, 0), (4, 6), (4, 7), (1, x1), (4, 8), (0, 0), (4, 9), (0, 0), (0, 0), (0, 0), (0, 0), (0, 0), (0, 0), (0, 0), (4, 10), (4, 11), (4, 12), (4, 13), (4, 14), (4, 15), (0, 0)], [])) (v := (4, 7)) (pcN := 18) jI_199_15 rfl rfl rfl rfl rfl rfl rfl ?_
  refine jT_xiload_n (v := (0, 5)) (pcN := 19) jI_199_18 rfl rfl rfl ?_
  refine jT_lald (x := 0) (a := 7) (j := 5) (fs := []) (X := [0, 0, 0, 0, 0, 0]) jI_199_19 rfl rfl rfl rfl ?_
  refine jT_eq (LN := [(3, (0, 5)), (1, (1, x1)), (0, (4, 0))]) (stN := [(1, 0), (1, x1)]) (hsN := [(14, [(0, 0), (4, 1), (4, 2), (4, 3), (4, 4), (0, 0), (4, 5), (0, 0), (4, 6), (4, 7), (1, x1), (4, 8), (0, 0), (4, 9), (0, 0), (0, 0), (0, 0), (0, 0), (0, 0), (0, 0), (0, 0), (4, 10), (4, 11), (4, 12), (4, 13), (4, 14), (4, 15), (0, 0)], []), jgh, jgh, jgh, jgh, jgh, jgh, (101, [], [0, 0, 0, 0, 0, 0]), jgh, jgh, jgh, jgh, jgh, jgh, jgh, jgh]) rfl rfl rfl ?_
  refine jT_callA [] (y := 194) (pcN := 23) (dC := 0) (bc1 := 0) (bc2 := 0) (c1 := 0) (c2 := 0) (as := [(1, x1), (1, 0)]) (asC := [(1, x1), (1, 0)]) (LN := [(3, (0, 5)), (1, (1, x1)), (0, (4, 0))]) (stN := []) (hsC := []) (ex := []) (v := (1, x1)) (st2 := [(1, x1)]) (hs2 := [(14, [(0, 0), (4, 1), (4, 2), (4, 3), (4, 4), (0, 0), (4, 5), (0, 0), (4, 6), (4, 7), (1, x1), (4, 8), (0, 0), (4, 9), (0, 0), (0, 0), (0, 0), (0, 0), (0, 0), (0, 0), (0, 0), (4, 10), (4, 11), (4, 12), (4, 13), (4, 14), (4, 15), (0, 0)], []), jgh, jgh, jgh, jgh, jgh, jgh, (101, [], [0, 0, 0, 0, 0, 0]), jgh, jgh, jgh, jgh, jgh, jgh, jgh, jgh]) (jA_194_241 (d := 0) (by omega)) (by rfl) (by rfl) (by rfl) (by rfl) trivial (by rfl) (by rfl) (by omega) (by show 16 ≤ 16; omega) (by omega) (by omega) rfl rfl ?_
  refine jT_xlstore_n (v := (1, x1)) (LN := [(1, (1, x1)), (3, (0, 5)), (0, (4, 0))]) (pcN := 24) jI_199_23 rfl rfl rfl rfl ?_
  refine jT_xiinc (x := 5) (z := 6) (LN := [(3, (0, 6)), (1, (1, x1)), (0, (4, 0))]) (pcN := 27) jI_199_24 rfl rfl (by decide) rfl rfl ?_
  refine jT_xgoto (pcN := 7) jI_199_27 rfl ?_
  refine jT_xiload_n (v := (0, 6)) (pcN := 8) jI_199_7 rfl rfl rfl ?_
  refine jT_xbipush (k := 6) (pcN := 10) jI_199_8 (by decide) rfl ?_
  refine jT_xicT (pcN := 30) jI_199_10 rfl (by decide +kernel) rfl ?_
  refine jT_xaload_n (v := (4, 0)) (pcN := 31) jI_199_30 rfl rfl rfl ?_
  refine jT_xgetf (a := 0) (t := 1) (ci := 14) (fi := 9) (c := (14, [(0, 0), (4, 1), (4, 2), (4, 3), (4, 4), (0, 0), (4, 5), (0, 0), (4, 6), (4, 7), (1, x1), (4, 8), (0, 0), (4, 9), (0, 0), (0, 0), (0, 0), (0, 0), (0, 0), (0, 0), (0, 0), (4, 10), (4, 11), (4, 12), (4, 13), (4, 14), (4, 15), (0, 0)], [])) (v := (4, 7)) (pcN := 34) jI_199_31 rfl rfl rfl rfl rfl rfl rfl ?_
  refine jT_callA [7] (y := 200) (pcN := 37) (dC := 0) (bc1 := 0) (bc2 := 0) (c1 := 0) (c2 := 0) (as := [(4, 7)]) (asC := [(4, 0)]) (LN := [(3, (0, 6)), (1, (1, x1)), (0, (4, 0))]) (stN := []) (hsC := [(101, [], [0, 0, 0, 0, 0, 0])]) (ex := []) (v := (0, 1)) (st2 := [(0, 1)]) (hs2 := [(14, [(0, 0), (4, 1), (4, 2), (4, 3), (4, 4), (0, 0), (4, 5), (0, 0), (4, 6), (4, 7), (1, x1), (4, 8), (0, 0), (4, 9), (0, 0), (0, 0), (0, 0), (0, 0), (0, 0), (0, 0), (0, 0), (4, 10), (4, 11), (4, 12), (4, 13), (4, 14), (4, 15), (0, 0)], []), jgh, jgh, jgh, jgh, jgh, jgh, (101, [], [0, 0, 0, 0, 0, 0]), jgh, jgh, jgh, jgh, jgh, jgh, jgh, jgh]) (jA_200_44 (d := 0)) (by rfl) (by rfl) (by rfl) (by rfl) ⟨rfl, trivial⟩ (by rfl) (by rfl) (by omega) (by show 16 ≤ 16; omega) (by omega) (by omega) rfl rfl ?_
  refine jT_xifF (t := 45) (pcN := 40) jI_199_37 rfl (by decide +kernel) rfl rfl ?_
  refine jT_xaload_n (v := (4, 0)) (pcN := 41) jI_199_40 rfl rfl rfl ?_
  refine jT_xgetf (a := 0) (t := 1) (ci := 14) (fi := 10) (c := (14, [(0, 0), (4, 1), (4, 2), (4, 3), (4, 4), (0, 0), (4, 5), (0, 0), (4, 6), (4, 7), (1, x1), (4, 8), (0, 0), (4, 9), (0, 0), (0, 0), (0, 0), (0, 0), (0, 0), (0, 0), (0, 0), (4, 10), (4, 11), (4, 12), (4, 13), (4, 14), (4, 15), (0, 0)], [])) (v := (1, x1)) (pcN := 44) jI_199_41 rfl rfl rfl rfl rfl rfl rfl ?_
  refine jT_xlstore_n (v := (1, x1)) (LN := [(1, (1, x1)), (3, (0, 6)), (0, (4, 0))]) (pcN := 45) jI_199_44 rfl rfl rfl rfl ?_
  refine jT_xiconst (k := 0) (pcN := 46) jI_199_45 rfl ?_
  refine jT_xistore_n (v := (0, 0)) (LN := [(3, (0, 0)), (1, (1, x1)), (0, (4, 0))]) (pcN := 47) jI_199_46 rfl rfl rfl rfl ?_
  refine jT_xiload_n (v := (0, 0)) (pcN := 48) jI_199_47 rfl rfl rfl ?_
  refine jT_xbipush (k := 6) (pcN := 50) jI_199_48 (by decide) rfl ?_
  refine jT_xicF (t := 69) (pcN := 53) jI_199_50 rfl (by decide +kernel) rfl rfl ?_
  refine jT_xaload_n (v := (4, 0)) (pcN := 54) jI_199_53 rfl rfl rfl ?_
  refine jT_xgetf (a := 0) (t := 1) (ci := 14) (fi := 9) (c := (14, [(0, 0), (4, 1), (4, 2), (4, 3), (4, 4), (0, 0), (4, 5), (0, 0), (4, 6), (4, 7), (1, x1), (4, 8), (0, 0), (4, 9), (0, 0), (0, 0), (0, 0), (0, 0), (0, 0), (0, 0), (0, 0), (4, 10), (4, 11), (4, 12), (4, 13), (4, 14), (4, 15), (0, 0)], [])) (v := (4, 7)) (pcN := 57) jI_199_54 rfl rfl rfl rfl rfl rfl rfl ?_
  refine jT_xiload_n (v := (0, 0)) (pcN := 58) jI_199_57 rfl rfl rfl ?_
  refine jT_adv 1 (pcN := 59) (LN := [(3, (0, 0)), (1, (1, x1)), (0, (4, 0))]) (stN := [(0, 0), (4, 7), (0, 0), (4, 7)]) (hsN := [(14, [(0, 0), (4, 1), (4, 2), (4, 3), (4, 4), (0, 0), (4, 5), (0, 0), (4, 6), (4, 7), (1, x1), (4, 8), (0, 0), (4, 9), (0, 0), (0, 0), (0, 0), (0, 0), (0, 0), (0, 0), (0, 0), (4, 10), (4, 11), (4, 12), (4, 13), (4, 14), (4, 15), (0, 0)], []), jgh, jgh, jgh, jgh, jgh, jgh, (101, [], [0, 0, 0, 0, 0, 0]), jgh, jgh, jgh, jgh, jgh, jgh, jgh, jgh]) (c1 := 0) (s1 := 0) (c2 := 0) (s2 := 0) (by exact rfl) ?_ (by omega) (by omega)
  refine jT_lald (x := 0) (a := 7) (j := 0) (fs := []) (X := [0, 0, 0, 0, 0, 0]) jI_199_59 rfl rfl rfl rfl ?_
  refine jT_eq (LN := [(3, (0, 0)), (1, (1, x1)), (0, (4, 0))]) (stN := [(1, 0), (0, 0), (4, 7)]) (hsN := [(14, [(0, 0), (4, 1), (4, 2), (4, 3), (4, 4), (0, 0), (4, 5), (0, 0), (4, 6), (4, 7), (1, x1), (4, 8), (0, 0), (4, 9), (0, 0), (0, 0), (0, 0), (0, 0), (0, 0), (0, 0), (0, 0), (4, 10), (4, 11), (4, 12), (4, 13), (4, 14), (4, 15), (0, 0)], []), jgh, jgh, jgh, jgh, jgh, jgh, (101, [], [0, 0, 0, 0, 0, 0]), jgh, jgh, jgh, jgh, jgh, jgh, jgh, jgh]) rfl rfl rfl ?_
  refine jT_xlload_n (v := (1, x1)) (pcN := 61) jI_199_60 rfl rfl rfl ?_
  refine jT_ldiv (a := 0) (b := x1) (by rfl) (by rfl) (jwl_idd (by omega) (by omega)) (jwl_idd (by omega) (by omega)) (by omega) ?_
  refine jT_eq (LN := [(3, (0, 0)), (1, (1, x1)), (0, (4, 0))]) (stN := [(1, 0), (0, 0), (4, 7)]) (hsN := [(14, [(0, 0), (4, 1), (4, 2), (4, 3), (4, 4), (0, 0), (4, 5), (0, 0), (4, 6), (4, 7), (1, x1), (4, 8), (0, 0), (4, 9), (0, 0), (0, 0), (0, 0), (0, 0), (0, 0), (0, 0), (0, 0), (4, 10), (4, 11), (4, 12), (4, 13), (4, 14), (4, 15), (0, 0)], []), jgh, jgh, jgh, jgh, jgh, jgh, (101, [], [0, 0, 0, 0, 0, 0]), jgh, jgh, jgh, jgh, jgh, jgh, jgh, jgh]) rfl (by rw [show ((0 : Int).tdiv x1 : Int) = 0 by simp]) rfl ?_
  refine jT_adv 1 (pcN := 63) (LN := [(3, (0, 0)), (1, (1, x1)), (0, (4, 0))]) (stN := []) (hsN := [(14, [(0, 0), (4, 1), (4, 2), (4, 3), (4, 4), (0, 0), (4, 5), (0, 0), (4, 6), (4, 7), (1, x1), (4, 8), (0, 0), (4, 9), (0, 0), (0, 0), (0, 0), (0, 0), (0, 0), (0, 0), (0, 0), (4, 10), (4, 11), (4, 12), (4, 13), (4, 14), (4, 15), (0, 0)], []), jgh, jgh, jgh, jgh, jgh, jgh, (101, [], [0, 0, 0, 0, 0, 0]), jgh, jgh, jgh, jgh, jgh, jgh, jgh, jgh]) (c1 := 0) (s1 := 0) (c2 := 0) (s2 := 0) (by exact rfl) ?_ (by omega) (by omega)
  refine jT_xiinc (x := 0) (z := 1) (LN := [(3, (0, 1)), (1, (1, x1)), (0, (4, 0))]) (pcN := 66) jI_199_63 rfl rfl (by decide) rfl rfl ?_
  refine jT_xgoto (pcN := 47) jI_199_66 rfl ?_
  refine jT_xiload_n (v := (0, 1)) (pcN := 48) jI_199_47 rfl rfl rfl ?_
  refine jT_xbipush (k := 6) (pcN := 50) jI_199_48 (by decide) rfl ?_
  refine jT_xicF (t := 69) (pcN := 53) jI_199_50 rfl (by decide +kernel) rfl rfl ?_
  refine jT_xaload_n (v := (4, 0)) (pcN := 54) jI_199_53 rfl rfl rfl ?_
  refine jT_xgetf (a := 0) (t := 1) (ci := 14) (fi := 9) (c := (14, [(0, 0), (4, 1), (4, 2), (4, 3), (4, 4), (0, 0), (4, 5), (0, 0), (4, 6), (4, 7), (1, x1), (4, 8), (0, 0), (4, 9), (0, 0), (0, 0), (0, 0), (0, 0), (0, 0), (0, 0), (0, 0), (4, 10), (4, 11), (4, 12), (4, 13), (4, 14), (4, 15), (0, 0)], [])) (v := (4, 7)) (pcN := 57) jI_199_54 rfl rfl rfl rfl rfl rfl rfl ?_
  refine jT_xiload_n (v := (0, 1)) (pcN := 58) jI_199_57 rfl rfl rfl ?_
  refine jT_adv 1 (pcN := 59) (LN := [(3, (0, 1)), (1, (1, x1)), (0, (4, 0))]) (stN := [(0, 1), (4, 7), (0, 1), (4, 7)]) (hsN := [(14, [(0, 0), (4, 1), (4, 2), (4, 3), (4, 4), (0, 0), (4, 5), (0, 0), (4, 6), (4, 7), (1, x1), (4, 8), (0, 0), (4, 9), (0, 0), (0, 0), (0, 0), (0, 0), (0, 0), (0, 0), (0, 0), (4, 10), (4, 11), (4, 12), (4, 13), (4, 14), (4, 15), (0, 0)], []), jgh, jgh, jgh, jgh, jgh, jgh, (101, [], [0, 0, 0, 0, 0, 0]), jgh, jgh, jgh, jgh, jgh, jgh, jgh, jgh]) (c1 := 0) (s1 := 0) (c2 := 0) (s2 := 0) (by exact rfl) ?_ (by omega) (by omega)
  refine jT_lald (x := 0) (a := 7) (j := 1) (fs := []) (X := [0, 0, 0, 0, 0, 0]) jI_199_59 rfl rfl rfl rfl ?_
  refine jT_eq (LN := [(3, (0, 1)), (1, (1, x1)), (0, (4, 0))]) (stN := [(1, 0), (0, 1), (4, 7)]) (hsN := [(14, [(0, 0), (4, 1), (4, 2), (4, 3), (4, 4), (0, 0), (4, 5), (0, 0), (4, 6), (4, 7), (1, x1), (4, 8), (0, 0), (4, 9), (0, 0), (0, 0), (0, 0), (0, 0), (0, 0), (0, 0), (0, 0), (4, 10), (4, 11), (4, 12), (4, 13), (4, 14), (4, 15), (0, 0)], []), jgh, jgh, jgh, jgh, jgh, jgh, (101, [], [0, 0, 0, 0, 0, 0]), jgh, jgh, jgh, jgh, jgh, jgh, jgh, jgh]) rfl rfl rfl ?_
  refine jT_xlload_n (v := (1, x1)) (pcN := 61) jI_199_60 rfl rfl rfl ?_
  refine jT_ldiv (a := 0) (b := x1) (by rfl) (by rfl) (jwl_idd (by omega) (by omega)) (jwl_idd (by omega) (by omega)) (by omega) ?_
  refine jT_eq (LN := [(3, (0, 1)), (1, (1, x1)), (0, (4, 0))]) (stN := [(1, 0), (0, 1), (4, 7)]) (hsN := [(14, [(0, 0), (4, 1), (4, 2), (4, 3), (4, 4), (0, 0), (4, 5), (0, 0), (4, 6), (4, 7), (1, x1), (4, 8), (0, 0), (4, 9), (0, 0), (0, 0), (0, 0), (0, 0), (0, 0), (0, 0), (0, 0), (4, 10), (4, 11), (4, 12), (4, 13), (4, 14), (4, 15), (0, 0)], []), jgh, jgh, jgh, jgh, jgh, jgh, (101, [], [0, 0, 0, 0, 0, 0]), jgh, jgh, jgh, jgh, jgh, jgh, jgh, jgh]) rfl (by rw [show ((0 : Int).tdiv x1 : Int) = 0 by simp]) rfl ?_
  refine jT_adv 1 (pcN := 63) (LN := [(3, (0, 1)), (1, (1, x1)), (0, (4, 0))]) (stN := []) (hsN := [(14, [(0, 0), (4, 1), (4, 2), (4, 3), (4, 4), (0, 0), (4, 5), (0, 0), (4, 6), (4, 7), (1, x1), (4, 8), (0, 0), (4, 9), (0, 0), (0, 0), (0, 0), (0, 0), (0, 0), (0, 0), (0, 0), (4, 10), (4, 11), (4, 12), (4, 13), (4, 14), (4, 15), (0, 0)], []), jgh, jgh, jgh, jgh, jgh, jgh, (101, [], [0, 0, 0, 0, 0, 0]), jgh, jgh, jgh, jgh, jgh, jgh, jgh, jgh]) (c1 := 0) (s1 := 0) (c2 := 0) (s2 := 0) (by exact rfl) ?_ (by omega) (by omega)
  refine jT_xiinc (x := 1) (z := 2) (LN := [(3, (0, 2)), (1, (1, x1)), (0, (4, 0))]) (pcN := 66) jI_199_63 rfl rfl (by decide) rfl rfl ?_
  refine jT_xgoto (pcN := 47) jI_199_66 rfl ?_
  refine jT_xiload_n (v := (0, 2)) (pcN := 48) jI_199_47 rfl rfl rfl ?_
  refine jT_xbipush (k := 6) (pcN := 50) jI_199_48 (by decide) rfl ?_
  refine jT_xicF (t := 69) (pcN := 53) jI_199_50 rfl (by decide +kernel) rfl rfl ?_
  refine jT_xaload_n (v := (4, 0)) (pcN := 54) jI_199_53 rfl rfl rfl ?_
  refine jT_xgetf (a := 0) (t := 1) (ci := 14) (fi := 9) (c := (14, [(0, 0), (4, 1), (4, 2), (4, 3), (4, 4), (0, 0), (4, 5), (0, 0), (4, 6), (4, 7), (1, x1), (4, 8), (0, 0), (4, 9), (0, 0), (0, 0), (0, 0), (0, 0), (0, 0), (0, 0), (0, 0), (4, 10), (4, 11), (4, 12), (4, 13), (4, 14), (4, 15), (0, 0)], [])) (v := (4, 7)) (pcN := 57) jI_199_54 rfl rfl rfl rfl rfl rfl rfl ?_
  refine jT_xiload_n (v := (0, 2)) (pcN := 58) jI_199_57 rfl rfl rfl ?_
  refine jT_adv 1 (pcN := 59) (LN := [(3, (0, 2)), (1, (1, x1)), (0, (4, 0))]) (stN := [(0, 2), (4, 7), (0, 2), (4, 7)]) (hsN := [(14, [(0, 0), (4, 1), (4, 2), (4, 3), (4, 4), (0, 0), (4, 5), (0, 0), (4, 6), (4, 7), (1, x1), (4, 8), (0, 0), (4, 9), (0, 0), (0, 0), (0, 0), (0, 0), (0, 0), (0, 0), (0, 0), (4, 10), (4, 11), (4, 12), (4, 13), (4, 14), (4, 15), (0, 0)], []), jgh, jgh, jgh, jgh, jgh, jgh, (101, [], [0, 0, 0, 0, 0, 0]), jgh, jgh, jgh, jgh, jgh, jgh, jgh, jgh]) (c1 := 0) (s1 := 0) (c2 := 0) (s2 := 0) (by exact rfl) ?_ (by omega) (by omega)
  refine jT_lald (x := 0) (a := 7) (j := 2) (fs := []) (X := [0, 0, 0, 0, 0, 0]) jI_199_59 rfl rfl rfl rfl ?_
  refine jT_eq (LN := [(3, (0, 2)), (1, (1, x1)), (0, (4, 0))]) (stN := [(1, 0), (0, 2), (4, 7)]) (hsN := [(14, [(0, 0), (4, 1), (4, 2), (4, 3), (4, 4), (0, 0), (4, 5), (0, 0), (4, 6), (4, 7), (1, x1), (4, 8), (0, 0), (4, 9), (0, 0), (0, 0), (0, 0), (0, 0), (0, 0), (0, 0), (0, 0), (4, 10), (4, 11), (4, 12), (4, 13), (4, 14), (4, 15), (0, 0)], []), jgh, jgh, jgh, jgh, jgh, jgh, (101, [], [0, 0, 0, 0, 0, 0]), jgh, jgh, jgh, jgh, jgh, jgh, jgh, jgh]) rfl rfl rfl ?_
  refine jT_xlload_n (v := (1, x1)) (pcN := 61) jI_199_60 rfl rfl rfl ?_
  refine jT_ldiv (a := 0) (b := x1) (by rfl) (by rfl) (jwl_idd (by omega) (by omega)) (jwl_idd (by omega) (by omega)) (by omega) ?_
  refine jT_eq (LN := [(3, (0, 2)), (1, (1, x1)), (0, (4, 0))]) (stN := [(1, 0), (0, 2), (4, 7)]) (hsN := [(14, [(0, 0), (4, 1), (4, 2), (4, 3), (4, 4), (0, 0), (4, 5), (0, 0), (4, 6), (4, 7), (1, x1), (4, 8), (0, 0), (4, 9), (0, 0), (0, 0), (0, 0), (0, 0), (0, 0), (0, 0), (0, 0), (4, 10), (4, 11), (4, 12), (4, 13), (4, 14), (4, 15), (0, 0)], []), jgh, jgh, jgh, jgh, jgh, jgh, (101, [], [0, 0, 0, 0, 0, 0]), jgh, jgh, jgh, jgh, jgh, jgh, jgh, jgh]) rfl (by rw [show ((0 : Int).tdiv x1 : Int) = 0 by simp]) rfl ?_
  refine jT_adv 1 (pcN := 63) (LN := [(3, (0, 2)), (1, (1, x1)), (0, (4, 0))]) (stN := []) (hsN := [(14, [(0, 0), (4, 1), (4, 2), (4, 3), (4, 4), (0, 0), (4, 5), (0, 0), (4, 6), (4, 7), (1, x1), (4, 8), (0, 0), (4, 9), (0, 0), (0, 0), (0, 0), (0, 0), (0, 0), (0, 0), (0, 0), (4, 10), (4, 11), (4, 12), (4, 13), (4, 14), (4, 15), (0, 0)], []), jgh, jgh, jgh, jgh, jgh, jgh, (101, [], [0, 0, 0, 0, 0, 0]), jgh, jgh, jgh, jgh, jgh, jgh, jgh, jgh]) (c1 := 0) (s1 := 0) (c2 := 0) (s2 := 0) (by exact rfl) ?_ (by omega) (by omega)
  refine jT_xiinc (x := 2) (z := 3) (LN := [(3, (0, 3)), (1, (1, x1)), (0, (4, 0))]) (pcN := 66) jI_199_63 rfl rfl (by decide) rfl rfl ?_
  refine jT_xgoto (pcN := 47) jI_199_66 rfl ?_
  refine jT_xiload_n (v := (0, 3)) (pcN := 48) jI_199_47 rfl rfl rfl ?_
  refine jT_xbipush (k := 6) (pcN := 50) jI_199_48 (by decide) rfl ?_
  refine jT_xicF (t := 69) (pcN := 53) jI_199_50 rfl (by decide +kernel) rfl rfl ?_
  refine jT_xaload_n (v := (4, 0)) (pcN := 54) jI_199_53 rfl rfl rfl ?_
  refine jT_xgetf (a := 0) (t := 1) (ci := 14) (fi := 9) (c := (14, [(0, 0), (4, 1), (4, 2), (4, 3), (4, 4), (0, 0), (4, 5), (0, 0), (4, 6), (4, 7), (1, x1), (4, 8), (0, 0), (4, 9), (0, 0), (0, 0), (0, 0), (0, 0), (0, 0), (0, 0), (0, 0), (4, 10), (4, 11), (4, 12), (4, 13), (4, 14), (4, 15), (0, 0)], [])) (v := (4, 7)) (pcN := 57) jI_199_54 rfl rfl rfl rfl rfl rfl rfl ?_
  refine jT_xiload_n (v := (0, 3)) (pcN := 58) jI_199_57 rfl rfl rfl ?_
  refine jT_adv 1 (pcN := 59) (LN := [(3, (0, 3)), (1, (1, x1)), (0, (4, 0))]) (stN := [(0, 3), (4, 7), (0, 3), (4, 7)]) (hsN := [(14, [(0, 0), (4, 1), (4, 2), (4, 3), (4, 4), (0, 0), (4, 5), (0, 0), (4, 6), (4, 7), (1, x1), (4, 8), (0, 0), (4, 9), (0, 0), (0, 0), (0, 0), (0, 0), (0, 0), (0, 0), (0, 0), (4, 10), (4, 11), (4, 12), (4, 13), (4, 14), (4, 15), (0, 0)], []), jgh, jgh, jgh, jgh, jgh, jgh, (101, [], [0, 0, 0, 0, 0, 0]), jgh, jgh, jgh, jgh, jgh, jgh, jgh, jgh]) (c1 := 0) (s1 := 0) (c2 := 0) (s2 := 0) (by exact rfl) ?_ (by omega) (by omega)
  refine jT_lald (x := 0) (a := 7) (j := 3) (fs := []) (X := [0, 0, 0, 0, 0, 0]) jI_199_59 rfl rfl rfl rfl ?_
  refine jT_eq (LN := [(3, (0, 3)), (1, (1, x1)), (0, (4, 0))]) (stN := [(1, 0), (0, 3), (4, 7)]) (hsN := [(14, [(0, 0), (4, 1), (4, 2), (4, 3), (4, 4), (0, 0), (4, 5), (0, 0), (4, 6), (4, 7), (1, x1), (4, 8), (0, 0), (4, 9), (0, 0), (0, 0), (0, 0), (0, 0), (0, 0), (0, 0), (0, 0), (4, 10), (4, 11), (4, 12), (4, 13), (4, 14), (4, 15), (0, 0)], []), jgh, jgh, jgh, jgh, jgh, jgh, (101, [], [0, 0, 0, 0, 0, 0]), jgh, jgh, jgh, jgh, jgh, jgh, jgh, jgh]) rfl rfl rfl ?_
  refine jT_xlload_n (v := (1, x1)) (pcN := 61) jI_199_60 rfl rfl rfl ?_
  refine jT_ldiv (a := 0) (b := x1) (by rfl) (by rfl) (jwl_idd (by omega) (by omega)) (jwl_idd (by omega) (by omega)) (by omega) ?_
  refine jT_eq (LN := [(3, (0, 3)), (1, (1, x1)), (0, (4, 0))]) (stN := [(1, 0), (0, 3), (4, 7)]) (hsN := [(14, [(0, 0), (4, 1), (4, 2), (4, 3), (4, 4), (0, 0), (4, 5), (0, 0), (4, 6), (4, 7), (1, x1), (4, 8), (0, 0), (4, 9), (0, 0), (0, 0), (0, 0), (0, 0), (0, 0), (0, 0), (0, 0), (4, 10), (4, 11), (4, 12), (4, 13), (4, 14), (4, 15), (0, 0)], []), jgh, jgh, jgh, jgh, jgh, jgh, (101, [], [0, 0, 0, 0, 0, 0]), jgh, jgh, jgh, jgh, jgh, jgh, jgh, jgh]) rfl (by rw [show ((0 : Int).tdiv x1 : Int) = 0 by simp]) rfl ?_
  refine jT_adv 1 (pcN := 63) (LN := [(3, (0, 3)), (1, (1, x1)), (0, (4, 0))]) (stN := []) (hsN := [(14, [(0, 0), (4, 1), (4, 2), (4, 3), (4, 4), (0, 0), (4, 5), (0, 0), (4, 6), (4, 7), (1, x1), (4, 8), (0, 0), (4, 9), (0, 0), (0, 0), (0, 0), (0, 0), (0, 0), (0, 0), (0, 0), (4, 10), (4, 11), (4, 12), (4, 13), (4, 14), (4, 15), (0, 0)], []), jgh, jgh, jgh, jgh, jgh, jgh, (101, [], [0, 0, 0, 0, 0, 0]), jgh, jgh, jgh, jgh, jgh, jgh, jgh, jgh]) (c1 := 0) (s1 := 0) (c2 := 0) (s2 := 0) (by exact rfl) ?_ (by omega) (by omega)
  refine jT_xiinc (x := 3) (z := 4) (LN := [(3, (0, 4)), (1, (1, x1)), (0, (4, 0))]) (pcN := 66) jI_199_63 rfl rfl (by decide) rfl rfl ?_
  refine jT_xgoto (pcN := 47) jI_199_66 rfl ?_
  refine jT_xiload_n (v := (0, 4)) (pcN := 48) jI_199_47 rfl rfl rfl ?_
  refine jT_xbipush (k := 6) (pcN := 50) jI_199_48 (by decide) rfl ?_
  refine jT_xicF (t := 69) (pcN := 53) jI_199_50 rfl (by decide +kernel) rfl rfl ?_
  refine jT_xaload_n (v := (4, 0)) (pcN := 54) jI_199_53 rfl rfl rfl ?_
  refine jT_xgetf (a := 0) (t := 1) (ci := 14) (fi := 9) (c := (14, [(0, 0), (4, 1), (4, 2), (4, 3), (4, 4), (0, 0), (4, 5), (0, 0), (4, 6), (4, 7), (1, x1), (4, 8), (0, 0), (4, 9), (0, 0), (0, 0), (0, 0), (0, 0), (0, 0), (0, 0), (0, 0), (4, 10), (4, 11), (4, 12), (4, 13), (4, 14), (4, 15), (0, 0)], [])) (v := (4, 7)) (pcN := 57) jI_199_54 rfl rfl rfl rfl rfl rfl rfl ?_
  refine jT_xiload_n (v := (0, 4)) (pcN := 58) jI_199_57 rfl rfl rfl ?_
  refine jT_adv 1 (pcN := 59) (LN := [(3, (0, 4)), (1, (1, x1)), (0, (4, 0))]) (stN := [(0, 4), (4, 7), (0, 4), (4, 7)]) (hsN := [(14, [(0, 0), (4, 1), (4, 2), (4, 3), (4, 4), (0, 0), (4, 5), (0, 0), (4, 6), (4, 7), (1, x1), (4, 8), (0, 0), (4, 9), (0, 0), (0, 0), (0, 0), (0, 0), (0, 0), (0, 0), (0, 0), (4, 10), (4, 11), (4, 12), (4, 13), (4, 14), (4, 15), (0, 0)], []), jgh, jgh, jgh, jgh, jgh, jgh, (101, [], [0, 0, 0, 0, 0, 0]), jgh, jgh, jgh, jgh, jgh, jgh, jgh, jgh]) (c1 := 0) (s1 := 0) (c2 := 0) (s2 := 0) (by exact rfl) ?_ (by omega) (by omega)
  refine jT_lald (x := 0) (a := 7) (j := 4) (fs := []) (X := [0, 0, 0, 0, 0, 0]) jI_199_59 rfl rfl rfl rfl ?_
  refine jT_eq (LN := [(3, (0, 4)), (1, (1, x1)), (0, (4, 0))]) (stN := [(1, 0), (0, 4), (4, 7)]) (hsN := [(14, [(0, 0), (4, 1), (4, 2), (4, 3), (4, 4), (0, 0), (4, 5), (0, 0), (4, 6), (4, 7), (1, x1), (4, 8), (0, 0), (4, 9), (0, 0), (0, 0), (0, 0), (0, 0), (0, 0), (0, 0), (0, 0), (4, 10), (4, 11), (4, 12), (4, 13), (4, 14), (4, 15), (0, 0)], []), jgh, jgh, jgh, jgh, jgh, jgh, (101, [], [0, 0, 0, 0, 0, 0]), jgh, jgh, jgh, jgh, jgh, jgh, jgh, jgh]) rfl rfl rfl ?_
  refine jT_xlload_n (v := (1, x1)) (pcN := 61) jI_199_60 rfl rfl rfl ?_
  refine jT_ldiv (a := 0) (b := x1) (by rfl) (by rfl) (jwl_idd (by omega) (by omega)) (jwl_idd (by omega) (by omega)) (by omega) ?_
  refine jT_eq (LN := [(3, (0, 4)), (1, (1, x1)), (0, (4, 0))]) (stN := [(1, 0), (0, 4), (4, 7)]) (hsN := [(14, [(0, 0), (4, 1), (4, 2), (4, 3), (4, 4), (0, 0), (4, 5), (0, 0), (4, 6), (4, 7), (1, x1), (4, 8), (0, 0), (4, 9), (0, 0), (0, 0), (0, 0), (0, 0), (0, 0), (0, 0), (0, 0), (4, 10), (4, 11), (4, 12), (4, 13), (4, 14), (4, 15), (0, 0)], []), jgh, jgh, jgh, jgh, jgh, jgh, (101, [], [0, 0, 0, 0, 0, 0]), jgh, jgh, jgh, jgh, jgh, jgh, jgh, jgh]) rfl (by rw [show ((0 : Int).tdiv x1 : Int) = 0 by simp]) rfl ?_
  refine jT_adv 1 (pcN := 63) (LN := [(3, (0, 4)), (1, (1, x1)), (0, (4, 0))]) (stN := []) (hsN := [(14, [(0, 0), (4, 1), (4, 2), (4, 3), (4, 4), (0, 0), (4, 5), (0, 0), (4, 6), (4, 7), (1, x1), (4, 8), (0, 0), (4, 9), (0, 0), (0, 0), (0, 0), (0, 0), (0, 0), (0, 0), (0, 0), (4, 10), (4, 11), (4, 12), (4, 13), (4, 14), (4, 15), (0, 0)], []), jgh, jgh, jgh, jgh, jgh, jgh, (101, [], [0, 0, 0, 0, 0, 0]), jgh, jgh, jgh, jgh, jgh, jgh, jgh, jgh]) (c1 := 0) (s1 := 0) (c2 := 0) (s2 := 0) (by exact rfl) ?_ (by omega) (by omega)
  refine jT_xiinc (x := 4) (z := 5) (LN := [(3, (0, 5)), (1, (1, x1)), (0, (4, 0))]) (pcN := 66) jI_199_63 rfl rfl (by decide) rfl rfl ?_
  refine jT_xgoto (pcN := 47) jI_199_66 rfl ?_
  refine jT_xiload_n (v := (0, 5)) (pcN := 48) jI_199_47 rfl rfl rfl ?_
  refine jT_xbipush (k := 6) (pcN := 50) jI_199_48 (by decide) rfl ?_
  refine jT_xicF (t := 69) (pcN := 53) jI_199_50 rfl (by decide +kernel) rfl rfl ?_
  refine jT_xaload_n (v := (4, 0)) (pcN := 54) jI_199_53 rfl rfl rfl ?_
  refine jT_xgetf (a := 0) (t := 1) (ci := 14) (fi := 9) (c := (14, [(0, 0), (4, 1), (4, 2), (4, 3), (4, 4), (0, 0), (4, 5), (0, 0), (4, 6), (4, 7), (1, x1), (4, 8), (0, 0), (4, 9), (0, 0), (0, 0), (0, 0), (0, 0), (0, 0), (0, 0), (0, 0), (4, 10), (4, 11), (4, 12), (4, 13), (4, 14), (4, 15), (0, 0)], [])) (v := (4, 7)) (pcN := 57) jI_199_54 rfl rfl rfl rfl rfl rfl rfl ?_
  refine jT_xiload_n (v := (0, 5)) (pcN := 58) jI_199_57 rfl rfl rfl ?_
  refine jT_adv 1 (pcN := 59) (LN := [(3, (0, 5)), (1, (1, x1)), (0, (4, 0))]) (stN := [(0, 5), (4, 7), (0, 5), (4, 7)]) (hsN := [(14, [(0, 0), (4, 1), (4, 2), (4, 3), (4, 4), (0, 0), (4, 5), (0, 0), (4, 6), (4, 7), (1, x1), (4, 8), (0, 0), (4, 9), (0, 0), (0, 0), (0, 0), (0, 0), (0, 0), (0, 0), (0, 0), (4, 10), (4, 11), (4, 12), (4, 13), (4, 14), (4, 15), (0, 0)], []), jgh, jgh, jgh, jgh, jgh, jgh, (101, [], [0, 0, 0, 0, 0, 0]), jgh, jgh, jgh, jgh, jgh, jgh, jgh, jgh]) (c1 := 0) (s1 := 0) (c2 := 0) (s2 := 0) (by exact rfl) ?_ (by omega) (by omega)
  refine jT_lald (x := 0) (a := 7) (j := 5) (fs := []) (X := [0, 0, 0, 0, 0, 0]) jI_199_59 rfl rfl rfl rfl ?_
  refine jT_eq (LN := [(3, (0, 5)), (1, (1, x1)), (0, (4, 0))]) (stN := [(1, 0), (0, 5), (4, 7)]) (hsN := [(14, [(0, 0), (4, 1), (4, 2), (4, 3), (4, 4), (0, 0), (4, 5), (0, 0), (4, 6), (4, 7), (1, x1), (4, 8), (0, 0), (4, 9), (0, 0), (0, 0), (0, 0), (0, 0), (0, 0), (0, 0), (0, 0), (4, 10), (4, 11), (4, 12), (4, 13), (4, 14), (4, 15), (0, 0)], []), jgh, jgh, jgh, jgh, jgh, jgh, (101, [], [0, 0, 0, 0, 0, 0]), jgh, jgh, jgh, jgh, jgh, jgh, jgh, jgh]) rfl rfl rfl ?_
  refine jT_xlload_n (v := (1, x1)) (pcN := 61) jI_199_60 rfl rfl rfl ?_
  refine jT_ldiv (a := 0) (b := x1) (by rfl) (by rfl) (jwl_idd (by omega) (by omega)) (jwl_idd (by omega) (by omega)) (by omega) ?_
  refine jT_eq (LN := [(3, (0, 5)), (1, (1, x1)), (0, (4, 0))]) (stN := [(1, 0), (0, 5), (4, 7)]) (hsN := [(14, [(0, 0), (4, 1), (4, 2), (4, 3), (4, 4), (0, 0), (4, 5), (0, 0), (4, 6), (4, 7), (1, x1), (4, 8), (0, 0), (4, 9), (0, 0), (0, 0), (0, 0), (0, 0), (0, 0), (0, 0), (0, 0), (4, 10), (4, 11), (4, 12), (4, 13), (4, 14), (4, 15), (0, 0)], []), jgh, jgh, jgh, jgh, jgh, jgh, (101, [], [0, 0, 0, 0, 0, 0]), jgh, jgh, jgh, jgh, jgh, jgh, jgh, jgh]) rfl (by rw [show ((0 : Int).tdiv x1 : Int) = 0 by simp]) rfl ?_
  refine jT_adv 1 (pcN := 63) (LN := [(3, (0, 5)), (1, (1, x1)), (0, (4, 0))]) (stN := []) (hsN := [(14, [(0, 0), (4, 1), (4, 2), (4, 3), (4, 4), (0, 0), (4, 5), (0, 0), (4, 6), (4, 7), (1, x1), (4, 8), (0, 0), (4, 9), (0, 0), (0, 0), (0, 0), (0, 0), (0, 0), (0, 0), (0, 0), (4, 10), (4, 11), (4, 12), (4, 13), (4, 14), (4, 15), (0, 0)], []), jgh, jgh, jgh, jgh, jgh, jgh, (101, [], [0, 0, 0, 0, 0, 0]), jgh, jgh, jgh, jgh, jgh, jgh, jgh, jgh]) (c1 := 0) (s1 := 0) (c2 := 0) (s2 := 0) (by exact rfl) ?_ (by omega) (by omega)
  refine jT_xiinc (x := 5) (z := 6) (LN := [(3, (0, 6)), (1, (1, x1)), (0, (4, 0))]) (pcN := 66) jI_199_63 rfl rfl (by decide) rfl rfl ?_
  refine jT_xgoto (pcN := 47) jI_199_66 rfl ?_
  refine jT_xiload_n (v := (0, 6)) (pcN := 48) jI_199_47 rfl rfl rfl ?_
  refine jT_xbipush (k := 6) (pcN := 50) jI_199_48 (by decide) rfl ?_
  refine jT_xicT (pcN := 69) jI_199_50 rfl (by decide +kernel) rfl ?_
  refine jT_xaload_n (v := (4, 0)) (pcN := 70) jI_199_69 rfl rfl rfl ?_
  refine jT_adv 1 (pcN := 71) (LN := [(3, (0, 6)), (1, (1, x1)), (0, (4, 0))]) (stN := [(4, 0), (4, 0)]) (hsN := [(14, [(0, 0), (4, 1), (4, 2), (4, 3), (4, 4), (0, 0), (4, 5), (0, 0), (4, 6), (4, 7), (1, x1), (4, 8), (0, 0), (4, 9), (0, 0), (0, 0), (0, 0), (0, 0), (0, 0), (0, 0), (0, 0), (4, 10), (4, 11), (4, 12), (4, 13), (4, 14), (4, 15), (0, 0)], []), jgh, jgh, jgh, jgh, jgh, jgh, (101, [], [0, 0, 0, 0, 0, 0]), jgh, jgh, jgh, jgh, jgh, jgh, jgh, jgh]) (c1 := 0) (s1 := 0) (c2 := 0) (s2 := 0) (by exact rfl) ?_ (by omega) (by omega)
  refine jT_xgetf (a := 0) (t := 1) (ci := 14) (fi := 10) (c := (14, [(0, 0), (4, 1), (4, 2), (4, 3), (4, 4), (0, 0), (4, 5), (0, 0), (4, 6), (4, 7), (1, x1), (4, 8), (0, 0), (4, 9), (0, 0), (0, 0), (0, 0), (0, 0), (0, 0), (0, 0), (0, 0), (4, 10), (4, 11), (4, 12), (4, 13), (4, 14), (4, 15), (0, 0)], [])) (v := (1, x1)) (pcN := 74) jI_199_71 rfl rfl rfl rfl rfl rfl rfl ?_
  refine jT_xlload_n (v := (1, x1)) (pcN := 75) jI_199_74 rfl rfl rfl ?_
  refine jT_ldiv (a := x1) (b := x1) (by rfl) (by rfl) (jwl_idd (by omega) (by omega)) (jwl_idd (by omega) (by omega)) (by omega) ?_
  refine jT_eq (LN := [(3, (0, 6)), (1, (1, x1)), (0, (4, 0))]) (stN := [(1, 1), (4, 0)]) (hsN := [(14, [(0, 0), (4, 1), (4, 2), (4, 3), (4, 4), (0, 0), (4, 5), (0, 0), (4, 6), (4, 7), (1, x1), (4, 8), (0, 0), (4, 9), (0, 0), (0, 0), (0, 0), (0, 0), (0, 0), (0, 0), (0, 0), (4, 10), (4, 11), (4, 12), (4, 13), (4, 14), (4, 15), (0, 0)], []), jgh, jgh, jgh, jgh, jgh, jgh, (101, [], [0, 0, 0, 0, 0, 0]), jgh, jgh, jgh, jgh, jgh, jgh, jgh, jgh]) rfl (by rw [show (x1.tdiv x1 : Int) = 1 by exact Int.tdiv_self (by omega)]) rfl ?_
  refine jT_adv 1 (pcN := 79) (LN := [(3, (0, 6)), (1, (1, x1)), (0, (4, 0))]) (stN := []) (hsN := jpA_147) (c1 := 0) (s1 := 0) (c2 := 0) (s2 := 0) (by exact rfl) ?_ (by omega) (by omega)
  exact jT_ret rfl (by decide) (by show 16 ≤ 16; decide) (by omega) (by omega) ⟨rfl, rfl, rfl⟩
theorem jA_217_243 {xs : List Int} {d : Nat} {x1 x2 x3 : Int} (h_x1 : 2 ≤ x1 ∧ x1 ≤ 24) (h_x2 : 0 ≤ x2 ∧ x2 ≤ 7) (h_x3 : 0 ≤ x3 ∧ x3 ≤ 7) : jT xs (d + 7) 217 30 0 [(0, (4, 0)), (1, (0, x1)), (2, (0, x2)), (3, (0, x3))] [] jpA_701 10 360 (fun k v hsN => k = 0 ∧ v = (0, 0) ∧ hsN = [jzA_200, (100, [], ((((((((((((((jS0).set ((7 * x3).toNat) 0)).set ((7 * x3 + 1).toNat) 0)).set ((7 * x3 + 2).toNat) 0)).set ((7 * x3 + 3).toNat) 0)).set ((7 * x3 + 4).toNat) 0)).set ((7 * x3 + 5).toNat) 0)).set ((7 * x3 + 6).toNat) 1)), (100, [], []), jzA_196, jzA_201, jgh, (130, [], [24, 25, 26, 27, 28, 29]), (101, [], [0, 0, 0, 0, 0, 0]), jgh, jgh, jgh, jgh, jgh, jgh, jgh, jgh, (100, [], jS0), jgh, jgh, jgh, jgh, jgh, jgh, jgh, (100, [], (jenc (jlg 0))), jgh, jgh, jgh, jgh, jgh, (101, [], [0, 0, 0, 0, 0, 0]), (101, [], [1, 0, 0, 0, 0, 0]), (101, [], [1, 0, 0, 0, 0, 0]), (100, [], (jenc 0)), (100, [], (jenc 1)), (100, [], (jenc (1 * (jlg 0)))), (101, [], [(-1), 0, 0, 0, 0, 0]), (100, [], (jenc 0)), (100, [], (jenc (-1))), (100, [], (jenc ((-1) * (jlg 0))))]) := by
  refine jT_xaload_n (v := (4, 0)) (pcN := 1) jI_217_0 rfl rfl rfl ?_
  refine jT_xiconst (k := 0) (pcN := 2) jI_217_1 rfl ?_
  refine jT_adv 1 (pcN := 5) (LN := [(0, (4, 0)), (1, (0, x1)), (2, (0, x2)), (3, (0, x3))]) (stN := []) (hsN := jpA_701) (c1 := 0) (s1 := 0) (c2 := 10) (s2 := 360) (by exact rfl) ?_ (by omega) (by omega)
  refine jT_xaload_n (v := (4, 0)) (pcN := 6) jI_217_5 rfl rfl rfl ?_
  refine jT_xiload_n (v := (0, x1)) (pcN := 7) jI_217_6 rfl rfl rfl ?_
  refine jT_xi2l (x := x1) (z := x1) (pcN := 8) jI_217_7 rfl (jw_idd (by omega) (by omega)) rfl ?_
  refine jT_xlconst (z := 1) (pcN := 9) jI_217_8 rfl rfl ?_
  refine jT_adv 1 (pcN := 12) (LN := [(0, (4, 0)), (1, (0, x1)), (2, (0, x2)), (3, (0, x3))]) (stN := [(1, 24), (1, 1), (1, x1), (4, 0)]) (hsN := jpA_701) (c1 := 0) (s1 := 0) (c2 := 10) (s2 := 360) (by exact rfl) ?_ (by omega) (by omega)
  refine jT_fR [] 30 (y := 189) (pcN := 15) (dC := 0) (bc1 := 0) (bc2 := 0) (c1 := 10) (c2 := 360) (as := [(1, x1), (1, 1), (1, 24)]) (asC := [(1, x1), (1, 1), (1, 24)]) (LN := [(0, (4, 0)), (1, (0, x1)), (2, (0, x2)), (3, (0, x3))]) (stN := [(4, 0)]) (hsC := []) (v := (0, 1)) (st2 := [(0, 1), (4, 0)]) (jT_in_ok (d := 0) (v := x1) (lo := 1) (hi := 24) (by omega) (by omega) (by omega) (by omega) (by omega)) (by rfl) (by rfl) (by decide +kernel) (by rfl) (by rfl) (by omega) (by omega) (by omega) (by omega) rfl ?_
  refine jT_xiconst (k := 1) (pcN := 16) jI_217_15 rfl ?_
  refine jT_fR [0] 30 (y := 191) (pcN := 19) (dC := 0) (bc1 := 0) (bc2 := 0) (c1 := 10) (c2 := 360) (as := [(4, 0), (0, 1), (0, 1)]) (asC := [(4, 0), (0, 1), (0, 1)]) (LN := [(0, (4, 0)), (1, (0, x1)), (2, (0, x2)), (3, (0, x3))]) (stN := []) (hsC := [jgh]) (v := (0, 0)) (st2 := [(0, 0)]) (jA_191_38 (d := 0)) (by rfl) (by rfl) (by decide +kernel) (by rfl) (by rfl) (by omega) (by omega) (by omega) (by omega) rfl ?_
  refine jT_xifF (t := 49) (pcN := 22) jI_217_19 rfl (by decide +kernel) rfl rfl ?_
  refine jT_xaload_n (v := (4, 0)) (pcN := 23) jI_217_22 rfl rfl rfl ?_
  refine jT_xiload_n (v := (0, x2)) (pcN := 24) jI_217_23 rfl rfl rfl ?_
  refine jT_fR [] 30 (y := 188) (pcN := 27) (dC := 1) (bc1 := 0) (bc2 := 0) (c1 := 10) (c2 := 360) (as := [(0, x2)]) (asC := [(0, x2)]) (LN := [(0, (4, 0)), (1, (0, x1)), (2, (0, x2)), (3, (0, x3))]) (stN := [(4, 0)]) (hsC := []) (v := (0, 1)) (st2 := [(0, 1), (4, 0)]) (jA_188_20 (d := 0) (by omega)) (by rfl) (by rfl) (by decide +kernel) (by rfl) (by rfl) (by omega) (by omega) (by omega) (by omega) rfl ?_
  refine jT_xifF (t := 41) (pcN := 30) jI_217_27 rfl (by decide +kernel) rfl rfl ?_
  refine jT_xiload_n (v := (0, x3)) (pcN := 31) jI_217_30 rfl rfl rfl ?_
  refine jT_fR [] 30 (y := 188) (pcN := 34) (dC := 1) (bc1 := 0) (bc2 := 0) (c1 := 10) (c2 := 360) (as := [(0, x3)]) (asC := [(0, x3)]) (LN := [(0, (4, 0)), (1, (0, x1)), (2, (0, x2)), (3, (0, x3))]) (stN := [(4, 0)]) (hsC := []) (v := (0, 1)) (st2 := [(0, 1), (4, 0)]) (jA_188_37 (d := 0) (by omega)) (by rfl) (by rfl) (by decide +kernel) (by rfl) (by rfl) (by omega) (by omega) (by omega) (by omega) rfl ?_
  refine jT_xifF (t := 41) (pcN := 37) jI_217_34 rfl (by decide +kernel) rfl rfl ?_
  refine jT_xiconst (k := 1) (pcN := 38) jI_217_37 rfl ?_
  refine jT_xgoto (pcN := 42) jI_217_38 rfl ?_
  refine jT_xiconst (k := 2) (pcN := 43) jI_217_42 rfl ?_
  refine jT_fR [0] 30 (y := 191) (pcN := 46) (dC := 0) (bc1 := 0) (bc2 := 0) (c1 := 10) (c2 := 360) (as := [(4, 0), (0, 1), (0, 2)]) (asC := [(4, 0), (0, 1), (0, 2)]) (LN := [(0, (4, 0)), (1, (0, x1)), (2, (0, x2)), (3, (0, x3))]) (stN := []) (hsC := [jgh]) (v := (0, 0)) (st2 := [(0, 0)]) (jA_191_49 (d := 0)) (by rfl) (by rfl) (by decide +kernel) (by rfl) (by rfl) (by omega) (by omega) (by omega) (by omega) rfl ?_
  refine jT_xifT (pcN := 51) jI_217_46 rfl (by decide +kernel) rfl ?_
  refine jT_xaload_n (v := (4, 0)) (pcN := 52) jI_217_51 rfl rfl rfl ?_
  refine jT_xiload_n (v := (0, x2)) (pcN := 53) jI_217_52 rfl rfl rfl ?_
  refine jT_fR [0, 1, 2, 3, 4, 5, 6, 7, 8, 9, 10, 11, 12, 13, 14, 15] 30 (y := 202) (pcN := 56) (dC := 1) (bc1 := 0) (bc2 := 0) (c1 := 10) (c2 := 360) (as := [(4, 0), (0, x2)]) (asC := [(4, 0), (0, x2)]) (LN := [(0, (4, 0)), (1, (0, x1)), (2, (0, x2)), (3, (0, x3))]) (stN := []) (hsC := jpA_130) (v := (9, 0)) (st2 := []) (jA_202_41 (d := 0) (by omega)) (by rfl) (by rfl) (by decide +kernel) (by rfl) (by rfl) (by omega) (by omega) (by omega) (by omega) rfl ?_
  refine jT_xaload_n (v := (4, 0)) (pcN := 57) jI_217_56 rfl rfl rfl ?_
  refine jT_xaload_n (v := (4, 0)) (pcN := 58) jI_217_57 rfl rfl rfl ?_
  refine jT_xiload_n (v := (0, x1)) (pcN := 59) jI_217_58 rfl rfl rfl ?_
  refine jT_xi2l (x := x1) (z := x1) (pcN := 60) jI_217_59 rfl (jw_idd (by omega) (by omega)) rfl ?_
  refine jT_fA [0, 1, 2, 3, 4, 5, 6, 7, 8, 9, 10, 11, 12, 13, 14, 15] 30 (y := 218) (pcN := 63) (dC := 0) (bc1 := 1) (bc2 := 6) (c1 := 9) (c2 := 354) (as := [(4, 0), (1, x1)]) (asC := [(4, 0), (1, x1)]) (LN := [(0, (4, 0)), (1, (0, x1)), (2, (0, x2)), (3, (0, x3))]) (stN := [(4, 0)]) (hsC := jpA_147) (ex := [(101, [], [0, 0, 0, 0, 0, 0])]) (v := (4, 16)) (st2 := [(4, 30), (4, 0)]) (hs2 := jpA_996) (jA_218_240 (d := 0) (by omega)) (by rfl) (by rfl) (by decide +kernel) (by rfl) (by rfl) (by omega) (by omega) (by omega) (by omega) rfl (by decide +kernel) ?_
  refine jT_xaload_n (v := (4, 0)) (pcN := 64) jI_217_63 rfl rfl rfl ?_
  refine jT_xgetf (a := 0) (t := 1) (ci := 14) (fi := 10) (c := jzA_21) (v := (1, 1)) (pcN := 67) jI_217_64 rfl rfl rfl rfl rfl rfl rfl ?_
  refine jT_fA [0, 30, 1, 2, 3, 4, 5, 6, 7, 8, 9, 10, 11, 12, 13, 14, 15, 24, 25, 26, 27, 28, 29] 31 (y := 216) (pcN := 70) (dC := 6) (bc1 := 9) (bc2 := 354) (c1 := 0) (c2 := 0) (as := [(4, 0), (4, 30), (1, 1)]) (asC := [(4, 0), (4, 1), (1, 1)]) (LN := [(0, (4, 0)), (1, (0, x1)), (2, (0, x2)), (3, (0, x3))]) (stN := []) (hsC := jpA_987) (ex := jpA_839) (v := (1, 0)) (st2 := [(1, 0)]) (hs2 := jpA_999) (jA_216_228 (d := 0)) (by rfl) (by rfl) (by decide +kernel) (by rfl) (by rfl) (by omega) (by omega) (by omega) (by omega) rfl (by decide +kernel) ?_
  refine jT_xlstore (v := (1, 0)) (LN := [(4, (1, 0)), (0, (4, 0)), (1, (0, x1)), (2, (0, x2)), (3, (0, x3))]) (pcN := 72) jI_217_70 rfl rfl rfl rfl ?_
  refine jT_xiconst (k := 0) (pcN := 73) jI_217_72 rfl ?_
  refine jT_xistore (v := (0, 0)) (LN := [(6, (0, 0)), (4, (1, 0)), (0, (4, 0)), (1, (0, x1)), (2, (0, x2)), (3, (0, x3))]) (pcN := 75) jI_217_73 rfl rfl rfl rfl ?_
  refine jT_xiload (v := (0, 0)) (pcN := 77) jI_217_75 rfl rfl rfl ?_
  refine jT_xbipush (k := 6) (pcN := 79) jI_217_77 (by decide) rfl ?_
  refine jT_xicF (t := 101) (pcN := 82) jI_217_79 rfl (by decide +kernel) rfl rfl ?_
  refine jT_xaload_n (v := (4, 0)) (pcN := 83) jI_217_82 rfl rfl rfl ?_
  refine jT_xgetf (a := 0) (t := 1) (ci := 14) (fi := 9) (c := jzA_21) (v := (4, 7)) (pcN := 86) jI_217_83 rfl rfl rfl rfl rfl rfl rfl ?_
  refine jT_xiload (v := (0, 0)) (pcN := 88) jI_217_86 rfl rfl rfl ?_
  refine jT_adv 1 (pcN := 89) (LN := [(6, (0, 0)), (4, (1, 0)), (0, (4, 0)), (1, (0, x1)), (2, (0, x2)), (3, (0, x3))]) (stN := [(0, 0), (4, 7), (0, 0), (4, 7)]) (hsN := jpA_999) (c1 := 0) (s1 := 0) (c2 := 0) (s2 := 0) (by exact rfl) ?_ (by omega) (by omega)
  refine jT_lald (x := 0) (a := 7) (j := 0) (fs := []) (X := [0, 0, 0, 0, 0, 0]) jI_217_89 rfl rfl rfl rfl ?_
  refine jT_eq (LN := [(6, (0, 0)), (4, (1, 0)), (0, (4, 0)), (1, (0, x1)), (2, (0, x2)), (3, (0, x3))]) (stN := [(1, 0), (0, 0), (4, 7)]) (hsN := jpA_999) rfl rfl rfl ?_
  refine jT_xiload_n (v := (0, x1)) (pcN := 91) jI_217_90 rfl rfl rfl ?_
  refine jT_adv 1 (pcN := 92) (LN := [(6, (0, 0)), (4, (1, 0)), (0, (4, 0)), (1, (0, x1)), (2, (0, x2)), (3, (0, x3))]) (stN := [(0, -x1), (1, 0), (0, 0), (4, 7)]) (hsN := jpA_999) (c1 := 0) (s1 := 0) (c2 := 0) (s2 := 0) (by exact rfl) ?_ (by omega) (by omega)
  refine jT_xi2l (x := -x1) (z := -x1) (pcN := 93) jI_217_92 rfl (jw_idd (by omega) (by omega)) rfl ?_
  refine jT_xlmul (x := 0) (y := -x1) (z := 0) (pcN := 94) jI_217_93 rfl (by omega) rfl ?_
  refine jT_adv 1 (pcN := 95) (LN := [(6, (0, 0)), (4, (1, 0)), (0, (4, 0)), (1, (0, x1)), (2, (0, x2)), (3, (0, x3))]) (stN := []) (hsN := jpA_999) (c1 := 0) (s1 := 0) (c2 := 0) (s2 := 0) (by exact rfl) ?_ (by omega) (by omega)
  refine jT_xiinc (x := 0) (z := 1) (LN := [(6, (0, 1)), (4, (1, 0)), (0, (4, 0)), (1, (0, x1)), (2, (0, x2)), (3, (0, x3))]) (pcN := 98) jI_217_95 rfl rfl (by decide) rfl rfl ?_
  refine jT_xgoto (pcN := 75) jI_217_98 rfl ?_
  refine jT_xiload (v := (0, 1)) (pcN := 77) jI_217_75 rfl rfl rfl ?_
  refine jT_xbipush (k := 6) (pcN := 79) jI_217_77 (by decide) rfl ?_
  refine jT_xicF (t := 101) (pcN := 82) jI_217_79 rfl (by decide +kernel) rfl rfl ?_
  refine jT_xaload_n (v := (4, 0)) (pcN := 83) jI_217_82 rfl rfl rfl ?_
  refine jT_xgetf (a := 0) (t := 1) (ci := 14) (fi := 9) (c := jzA_21) (v := (4, 7)) (pcN := 86) jI_217_83 rfl rfl rfl rfl rfl rfl rfl ?_
  refine jT_xiload (v := (0, 1)) (pcN := 88) jI_217_86 rfl rfl rfl ?_
  refine jT_adv 1 (pcN := 89) (LN := [(6, (0, 1)), (4, (1, 0)), (0, (4, 0)), (1, (0, x1)), (2, (0, x2)), (3, (0, x3))]) (stN := [(0, 1), (4, 7), (0, 1), (4, 7)]) (hsN := jpA_999) (c1 := 0) (s1 := 0) (c2 := 0) (s2 := 0) (by exact rfl) ?_ (by omega) (by omega)
  refine jT_lald (x := 0) (a := 7) (j := 1) (fs := []) (X := [0, 0, 0, 0, 0, 0]) jI_217_89 rfl rfl rfl rfl ?_
  refine jT_eq (LN := [(6, (0, 1)), (4, (1, 0)), (0, (4, 0)), (1, (0, x1)), (2, (0, x2)), (3, (0, x3))]) (stN := [(1, 0), (0, 1), (4, 7)]) (hsN := jpA_999) rfl rfl rfl ?_
  refine jT_xiload_n (v := (0, x1)) (pcN := 91) jI_217_90 rfl rfl rfl ?_
  refine jT_adv 1 (pcN := 92) (LN := [(6, (0, 1)), (4, (1, 0)), (0, (4, 0)), (1, (0, x1)), (2, (0, x2)), (3, (0, x3))]) (stN := [(0, -x1), (1, 0), (0, 1), (4, 7)]) (hsN := jpA_999) (c1 := 0) (s1 := 0) (c2 := 0) (s2 := 0) (by exact rfl) ?_ (by omega) (by omega)
  refine jT_xi2l (x := -x1) (z := -x1) (pcN := 93) jI_217_92 rfl (jw_idd (by omega) (by omega)) rfl ?_
  refine jT_xlmul (x := 0) (y := -x1) (z := 0) (pcN := 94) jI_217_93 rfl (by omega) rfl ?_
  refine jT_adv 1 (pcN := 95) (LN := [(6, (0, 1)), (4, (1, 0)), (0, (4, 0)), (1, (0, x1)), (2, (0, x2)), (3, (0, x3))]) (stN := []) (hsN := jpA_999) (c1 := 0) (s1 := 0) (c2 := 0) (s2 := 0) (by exact rfl) ?_ (by omega) (by omega)
  refine jT_xiinc (x := 1) (z := 2) (LN := [(6, (0, 2)), (4, (1, 0)), (0, (4, 0)), (1, (0, x1)), (2, (0, x2)), (3, (0, x3))]) (pcN := 98) jI_217_95 rfl rfl (by decide) rfl rfl ?_
  refine jT_xgoto (pcN := 75) jI_217_98 rfl ?_
  refine jT_xiload (v := (0, 2)) (pcN := 77) jI_217_75 rfl rfl rfl ?_
  refine jT_xbipush (k := 6) (pcN := 79) jI_217_77 (by decide) rfl ?_
  refine jT_xicF (t := 101) (pcN := 82) jI_217_79 rfl (by decide +kernel) rfl rfl ?_
  refine jT_xaload_n (v := (4, 0)) (pcN := 83) jI_217_82 rfl rfl rfl ?_
  refine jT_xgetf (a := 0) (t := 1) (ci := 14) (fi := 9) (c := jzA_21) (v := (4, 7)) (pcN := 86) jI_217_83 rfl rfl rfl rfl rfl rfl rfl ?_
  refine jT_xiload (v := (0, 2)) (pcN := 88) jI_217_86 rfl rfl rfl ?_
  refine jT_adv 1 (pcN := 89) (LN := [(6, (0, 2)), (4, (1, 0)), (0, (4, 0)), (1, (0, x1)), (2, (0, x2)), (3, (0, x3))]) (stN := [(0, 2), (4, 7), (0, 2), (4, 7)]) (hsN := jpA_999) (c1 := 0) (s1 := 0) (c2 := 0) (s2 := 0) (by exact rfl) ?_ (by omega) (by omega)
  refine jT_lald (x := 0) (a := 7) (j := 2) (fs := []) (X := [0, 0, 0, 0, 0, 0]) jI_217_89 rfl rfl rfl rfl ?_
  refine jT_eq (LN := [(6, (0, 2)), (4, (1, 0)), (0, (4, 0)), (1, (0, x1)), (2, (0, x2)), (3, (0, x3))]) (stN := [(1, 0), (0, 2), (4, 7)]) (hsN := jpA_999) rfl rfl rfl ?_
  refine jT_xiload_n (v := (0, x1)) (pcN := 91) jI_217_90 rfl rfl rfl ?_
  refine jT_adv 1 (pcN := 92) (LN := [(6, (0, 2)), (4, (1, 0)), (0, (4, 0)), (1, (0, x1)), (2, (0, x2)), (3, (0, x3))]) (stN := [(0, -x1), (1, 0), (0, 2), (4, 7)]) (hsN := jpA_999) (c1 := 0) (s1 := 0) (c2 := 0) (s2 := 0) (by exact rfl) ?_ (by omega) (by omega)
  refine jT_xi2l (x := -x1) (z := -x1) (pcN := 93) jI_217_92 rfl (jw_idd (by omega) (by omega)) rfl ?_
  refine jT_xlmul (x := 0) (y := -x1) (z := 0) (pcN := 94) jI_217_93 rfl (by omega) rfl ?_
  refine jT_adv 1 (pcN := 95) (LN := [(6, (0, 2)), (4, (1, 0)), (0, (4, 0)), (1, (0, x1)), (2, (0, x2)), (3, (0, x3))]) (stN := []) (hsN := jpA_999) (c1 := 0) (s1 := 0) (c2 := 0) (s2 := 0) (by exact rfl) ?_ (by omega) (by omega)
  refine jT_xiinc (x := 2) (z := 3) (LN := [(6, (0, 3)), (4, (1, 0)), (0, (4, 0)), (1, (0, x1)), (2, (0, x2)), (3, (0, x3))]) (pcN := 98) jI_217_95 rfl rfl (by decide) rfl rfl ?_
  refine jT_xgoto (pcN := 75) jI_217_98 rfl ?_
  refine jT_xiload (v := (0, 3)) (pcN := 77) jI_217_75 rfl rfl rfl ?_
  refine jT_xbipush (k := 6) (pcN := 79) jI_217_77 (by decide) rfl ?_
  refine jT_xicF (t := 101) (pcN := 82) jI_217_79 rfl (by decide +kernel) rfl rfl ?_
  refine jT_xaload_n (v := (4, 0)) (pcN := 83) jI_217_82 rfl rfl rfl ?_
  refine jT_xgetf (a := 0) (t := 1) (ci := 14) (fi := 9) (c := jzA_21) (v := (4, 7)) (pcN := 86) jI_217_83 rfl rfl rfl rfl rfl rfl rfl ?_
  refine jT_xiload (v := (0, 3)) (pcN := 88) jI_217_86 rfl rfl rfl ?_
  refine jT_adv 1 (pcN := 89) (LN := [(6, (0, 3)), (4, (1, 0)), (0, (4, 0)), (1, (0, x1)), (2, (0, x2)), (3, (0, x3))]) (stN := [(0, 3), (4, 7), (0, 3), (4, 7)]) (hsN := jpA_999) (c1 := 0) (s1 := 0) (c2 := 0) (s2 := 0) (by exact rfl) ?_ (by omega) (by omega)
  refine jT_lald (x := 0) (a := 7) (j := 3) (fs := []) (X := [0, 0, 0, 0, 0, 0]) jI_217_89 rfl rfl rfl rfl ?_
  refine jT_eq (LN := [(6, (0, 3)), (4, (1, 0)), (0, (4, 0)), (1, (0, x1)), (2, (0, x2)), (3, (0, x3))]) (stN := [(1, 0), (0, 3), (4, 7)]) (hsN := jpA_999) rfl rfl rfl ?_
  refine jT_xiload_n (v := (0, x1)) (pcN := 91) jI_217_90 rfl rfl rfl ?_
  refine jT_adv 1 (pcN := 92) (LN := [(6, (0, 3)), (4, (1, 0)), (0, (4, 0)), (1, (0, x1)), (2, (0, x2)), (3, (0, x3))]) (stN := [(0, -x1), (1, 0), (0, 3), (4, 7)]) (hsN := jpA_999) (c1 := 0) (s1 := 0) (c2 := 0) (s2 := 0) (by exact rfl) ?_ (by omega) (by omega)
  refine jT_xi2l (x := -x1) (z := -x1) (pcN := 93) jI_217_92 rfl (jw_idd (by omega) (by omega)) rfl ?_
  refine jT_xlmul (x := 0) (y := -x1) (z := 0) (pcN := 94) jI_217_93 rfl (by omega) rfl ?_
  refine jT_adv 1 (pcN := 95) (LN := [(6, (0, 3)), (4, (1, 0)), (0, (4, 0)), (1, (0, x1)), (2, (0, x2)), (3, (0, x3))]) (stN := []) (hsN := jpA_999) (c1 := 0) (s1 := 0) (c2 := 0) (s2 := 0) (by exact rfl) ?_ (by omega) (by omega)
  refine jT_xiinc (x := 3) (z := 4) (LN := [(6, (0, 4)), (4, (1, 0)), (0, (4, 0)), (1, (0, x1)), (2, (0, x2)), (3, (0, x3))]) (pcN := 98) jI_217_95 rfl rfl (by decide) rfl rfl ?_
  refine jT_xgoto (pcN := 75) jI_217_98 rfl ?_
  refine jT_xiload (v := (0, 4)) (pcN := 77) jI_217_75 rfl rfl rfl ?_
  refine jT_xbipush (k := 6) (pcN := 79) jI_217_77 (by decide) rfl ?_
  refine jT_xicF (t := 101) (pcN := 82) jI_217_79 rfl (by decide +kernel) rfl rfl ?_
  refine jT_xaload_n (v := (4, 0)) (pcN := 83) jI_217_82 rfl rfl rfl ?_
  refine jT_xgetf (a := 0) (t := 1) (ci := 14) (fi := 9) (c := jzA_21) (v := (4, 7)) (pcN := 86) jI_217_83 rfl rfl rfl rfl rfl rfl rfl ?_
  refine jT_xiload (v := (0, 4)) (pcN := 88) jI_217_86 rfl rfl rfl ?_
  refine jT_adv 1 (pcN := 89) (LN := [(6, (0, 4)), (4, (1, 0)), (0, (4, 0)), (1, (0, x1)), (2, (0, x2)), (3, (0, x3))]) (stN := [(0, 4), (4, 7), (0, 4), (4, 7)]) (hsN := jpA_999) (c1 := 0) (s1 := 0) (c2 := 0) (s2 := 0) (by exact rfl) ?_ (by omega) (by omega)
  refine jT_lald (x := 0) (a := 7) (j := 4) (fs := []) (X := [0, 0, 0, 0, 0, 0]) jI_217_89 rfl rfl rfl rfl ?_
  refine jT_eq (LN := [(6, (0, 4)), (4, (1, 0)), (0, (4, 0)), (1, (0, x1)), (2, (0, x2)), (3, (0, x3))]) (stN := [(1, 0), (0, 4), (4, 7)]) (hsN := jpA_999) rfl rfl rfl ?_
  refine jT_xiload_n (v := (0, x1)) (pcN := 91) jI_217_90 rfl rfl rfl ?_
  refine jT_adv 1 (pcN := 92) (LN := [(6, (0, 4)), (4, (1, 0)), (0, (4, 0)), (1, (0, x1)), (2, (0, x2)), (3, (0, x3))]) (stN := [(0, -x1), (1, 0), (0, 4), (4, 7)]) (hsN := jpA_999) (c1 := 0) (s1 := 0) (c2 := 0) (s2 := 0) (by exact rfl) ?_ (by omega) (by omega)
  refine jT_xi2l (x := -x1) (z := -x1) (pcN := 93) jI_217_92 rfl (jw_idd (by omega) (by omega)) rfl ?_
  refine jT_xlmul (x := 0) (y := -x1) (z := 0) (pcN := 94) jI_217_93 rfl (by omega) rfl ?_
  refine jT_adv 1 (pcN := 95) (LN := [(6, (0, 4)), (4, (1, 0)), (0, (4, 0)), (1, (0, x1)), (2, (0, x2)), (3, (0, x3))]) (stN := []) (hsN := jpA_999) (c1 := 0) (s1 := 0) (c2 := 0) (s2 := 0) (by exact rfl) ?_ (by omega) (by omega)
  refine jT_xiinc (x := 4) (z := 5) (LN := [(6, (0, 5)), (4, (1, 0)), (0, (4, 0)), (1, (0, x1)), (2, (0, x2)), (3, (0, x3))]) (pcN := 98) jI_217_95 rfl rfl (by decide) rfl rfl ?_
  refine jT_xgoto (pcN := 75) jI_217_98 rfl ?_
  refine jT_xiload (v := (0, 5)) (pcN := 77) jI_217_75 rfl rfl rfl ?_
  refine jT_xbipush (k := 6) (pcN := 79) jI_217_77 (by decide) rfl ?_
  refine jT_xicF (t := 101) (pcN := 82) jI_217_79 rfl (by decide +kernel) rfl rfl ?_
  refine jT_xaload_n (v := (4, 0)) (pcN := 83) jI_217_82 rfl rfl rfl ?_
  refine jT_xgetf (a := 0) (t := 1) (ci := 14) (fi := 9) (c := jzA_21) (v := (4, 7)) (pcN := 86) jI_217_83 rfl rfl rfl rfl rfl rfl rfl ?_
  refine jT_xiload (v := (0, 5)) (pcN := 88) jI_217_86 rfl rfl rfl ?_
  refine jT_adv 1 (pcN := 89) (LN := [(6, (0, 5)), (4, (1, 0)), (0, (4, 0)), (1, (0, x1)), (2, (0, x2)), (3, (0, x3))]) (stN := [(0, 5), (4, 7), (0, 5), (4, 7)]) (hsN := jpA_999) (c1 := 0) (s1 := 0) (c2 := 0) (s2 := 0) (by exact rfl) ?_ (by omega) (by omega)
  refine jT_lald (x := 0) (a := 7) (j := 5) (fs := []) (X := [0, 0, 0, 0, 0, 0]) jI_217_89 rfl rfl rfl rfl ?_
  refine jT_eq (LN := [(6, (0, 5)), (4, (1, 0)), (0, (4, 0)), (1, (0, x1)), (2, (0, x2)), (3, (0, x3))]) (stN := [(1, 0), (0, 5), (4, 7)]) (hsN := jpA_999) rfl rfl rfl ?_
  refine jT_xiload_n (v := (0, x1)) (pcN := 91) jI_217_90 rfl rfl rfl ?_
  refine jT_adv 1 (pcN := 92) (LN := [(6, (0, 5)), (4, (1, 0)), (0, (4, 0)), (1, (0, x1)), (2, (0, x2)), (3, (0, x3))]) (stN := [(0, -x1), (1, 0), (0, 5), (4, 7)]) (hsN := jpA_999) (c1 := 0) (s1 := 0) (c2 := 0) (s2 := 0) (by exact rfl) ?_ (by omega) (by omega)
  refine jT_xi2l (x := -x1) (z := -x1) (pcN := 93) jI_217_92 rfl (jw_idd (by omega) (by omega)) rfl ?_
  refine jT_xlmul (x := 0) (y := -x1) (z := 0) (pcN := 94) jI_217_93 rfl (by omega) rfl ?_
  refine jT_adv 1 (pcN := 95) (LN := [(6, (0, 5)), (4, (1, 0)), (0, (4, 0)), (1, (0, x1)), (2, (0, x2)), (3, (0, x3))]) (stN := []) (hsN := jpA_999) (c1 := 0) (s1 := 0) (c2 := 0) (s2 := 0) (by exact rfl) ?_ (by omega) (by omega)
  refine jT_xiinc (x := 5) (z := 6) (LN := [(6, (0, 6)), (4, (1, 0)), (0, (4, 0)), (1, (0, x1)), (2, (0, x2)), (3, (0, x3))]) (pcN := 98) jI_217_95 rfl rfl (by decide) rfl rfl ?_
  refine jT_xgoto (pcN := 75) jI_217_98 rfl ?_
  refine jT_xiload (v := (0, 6)) (pcN := 77) jI_217_75 rfl rfl rfl ?_
  refine jT_xbipush (k := 6) (pcN := 79) jI_217_77 (by decide) rfl ?_
  refine jT_xicT (pcN := 101) jI_217_79 rfl (by decide +kernel) rfl ?_
  refine jT_xaload_n (v := (4, 0)) (pcN := 102) jI_217_101 rfl rfl rfl ?_
  refine jT_xgetf (a := 0) (t := 1) (ci := 14) (fi := 9) (c := jzA_21) (v := (4, 7)) (pcN := 105) jI_217_102 rfl rfl rfl rfl rfl rfl rfl ?_
  refine jT_xiconst (k := 0) (pcN := 106) jI_217_105 rfl ?_
  refine jT_adv 1 (pcN := 107) (LN := [(6, (0, 6)), (4, (1, 0)), (0, (4, 0)), (1, (0, x1)), (2, (0, x2)), (3, (0, x3))]) (stN := [(0, 0), (4, 7), (0, 0), (4, 7)]) (hsN := jpA_999) (c1 := 0) (s1 := 0) (c2 := 0) (s2 := 0) (by exact rfl) ?_ (by omega) (by omega)
  refine jT_lald (x := 0) (a := 7) (j := 0) (fs := []) (X := [0, 0, 0, 0, 0, 0]) jI_217_107 rfl rfl rfl rfl ?_
  refine jT_eq (LN := [(6, (0, 6)), (4, (1, 0)), (0, (4, 0)), (1, (0, x1)), (2, (0, x2)), (3, (0, x3))]) (stN := [(1, 0), (0, 0), (4, 7)]) (hsN := jpA_999) rfl rfl rfl ?_
  refine jT_xlload (v := (1, 0)) (pcN := 110) jI_217_108 rfl rfl rfl ?_
  refine jT_xaload_n (v := (4, 0)) (pcN := 111) jI_217_110 rfl rfl rfl ?_
  refine jT_xgetf (a := 0) (t := 1) (ci := 14) (fi := 10) (c := jzA_21) (v := (1, 1)) (pcN := 114) jI_217_111 rfl rfl rfl rfl rfl rfl rfl ?_
  refine jT_xlmul (x := 0) (y := 1) (z := 0) (pcN := 115) jI_217_114 rfl (by decide) rfl ?_
  refine jT_xladd (x := 0) (y := 0) (z := 0) (pcN := 116) jI_217_115 rfl (by decide) rfl ?_
  refine jT_adv 1 (pcN := 117) (LN := [(6, (0, 6)), (4, (1, 0)), (0, (4, 0)), (1, (0, x1)), (2, (0, x2)), (3, (0, x3))]) (stN := []) (hsN := jpA_999) (c1 := 0) (s1 := 0) (c2 := 0) (s2 := 0) (by exact rfl) ?_ (by omega) (by omega)
  refine jT_xaload_n (v := (4, 0)) (pcN := 118) jI_217_117 rfl rfl rfl ?_
  refine jT_adv 1 (pcN := 119) (LN := [(6, (0, 6)), (4, (1, 0)), (0, (4, 0)), (1, (0, x1)), (2, (0, x2)), (3, (0, x3))]) (stN := [(4, 0), (4, 0)]) (hsN := jpA_999) (c1 := 0) (s1 := 0) (c2 := 0) (s2 := 0) (by exact rfl) ?_ (by omega) (by omega)
  refine jT_xgetf (a := 0) (t := 1) (ci := 14) (fi := 10) (c := jzA_21) (v := (1, 1)) (pcN := 122) jI_217_119 rfl rfl rfl rfl rfl rfl rfl ?_
  refine jT_xiload_n (v := (0, x1)) (pcN := 123) jI_217_122 rfl rfl rfl ?_
  refine jT_xi2l (x := x1) (z := x1) (pcN := 124) jI_217_123 rfl (jw_idd (by omega) (by omega)) rfl ?_
  refine jT_xlmul (x := 1) (y := x1) (z := x1) (pcN := 125) jI_217_124 rfl (by omega) rfl ?_
  refine jT_adv 1 (pcN := 128) (LN := [(6, (0, 6)), (4, (1, 0)), (0, (4, 0)), (1, (0, x1)), (2, (0, x2)), (3, (0, x3))]) (stN := []) (hsN := [(14, [(0, 0), (4, 1), (4, 2), (4, 3), (4, 4), (0, 0), (4, 5), (0, 0), (4, 6), (4, 7), (1, x1), (4, 8), (0, 0), (4, 9), (0, 0), (0, 0), (0, 0), (0, 0), (0, 0), (0, 0), (0, 0), (4, 10), (4, 11), (4, 12), (4, 13), (4, 14), (4, 15), (0, 0)], []), (100, [], jS0), (100, [], []), jzA_196, jzA_197, jgh, (130, [], [24, 25, 26, 27, 28, 29]), (101, [], [0, 0, 0, 0, 0, 0]), jgh, jgh, jgh, jgh, jgh, jgh, jgh, jgh, (100, [], (List.replicate 1613 0)), jgh, jgh, jgh, jgh, jgh, jgh, jgh, (100, [], (jenc (jlg 0))), jgh, jgh, jgh, jgh, jgh, (101, [], [0, 0, 0, 0, 0, 0]), (101, [], [1, 0, 0, 0, 0, 0]), (101, [], [1, 0, 0, 0, 0, 0]), (100, [], (jenc 0)), (100, [], (jenc 1)), (100, [], (jenc (1 * (jlg 0)))), (101, [], [(-1), 0, 0, 0, 0, 0]), (100, [], (jenc 0)), (100, [], (jenc (-1))), (100, [], (jenc ((-1) * (jlg 0))))]) (c1 := 0) (s1 := 0) (c2 := 0) (s2 := 0) (by exact rfl) ?_ (by omega) (by omega)
  refine jT_xaload_n (v := (4, 0)) (pcN := 129) jI_217_128 rfl rfl rfl ?_
  refine jT_callB [0, 1, 2, 3, 4, 5, 6, 7, 8, 9, 10, 11, 12, 13, 14, 15] (y := 199) (pcN := 132) (dC := 1) (bc1 := 0) (bc2 := 0) (c1 := 0) (c2 := 0) (as := [(4, 0)]) (asC := [(4, 0)]) (LN := [(6, (0, 6)), (4, (1, 0)), (0, (4, 0)), (1, (0, x1)), (2, (0, x2)), (3, (0, x3))]) (stN := []) (hsC := [(14, [(0, 0), (4, 1), (4, 2), (4, 3), (4, 4), (0, 0), (4, 5), (0, 0), (4, 6), (4, 7), (1, x1), (4, 8), (0, 0), (4, 9), (0, 0), (0, 0), (0, 0), (0, 0), (0, 0), (0, 0), (0, 0), (4, 10), (4, 11), (4, 12), (4, 13), (4, 14), (4, 15), (0, 0)], []), jgh, jgh, jgh, jgh, jgh, jgh, (101, [], [0, 0, 0, 0, 0, 0]), jgh, jgh, jgh, jgh, jgh, jgh, jgh, jgh]) (hsD := jpA_147) (v := (9, 0)) (st2 := []) (hs2 := jpA_999) (jA_199_242 (d := 0) (by omega)) (by rfl) (by rfl) (by rfl) (by rfl) ⟨rfl, rfl, rfl, rfl, rfl, rfl, rfl, rfl, rfl, rfl, rfl, rfl, rfl, rfl, rfl, rfl, trivial⟩ (by rfl) (by rfl) (by omega) (by show 30 ≤ 40; omega) (by omega) (by omega) rfl rfl ?_
  refine jT_xaload_n (v := (4, 0)) (pcN := 133) jI_217_132 rfl rfl rfl ?_
  refine jT_xaload_n (v := (4, 0)) (pcN := 134) jI_217_133 rfl rfl rfl ?_
  refine jT_fR [0, 1, 2, 3, 4, 5, 6, 7, 8, 9, 10, 11, 12, 13, 14, 15] 40 (y := 205) (pcN := 137) (dC := 1) (bc1 := 0) (bc2 := 0) (c1 := 0) (c2 := 0) (as := [(4, 0)]) (asC := [(4, 0)]) (LN := [(6, (0, 6)), (4, (1, 0)), (0, (4, 0)), (1, (0, x1)), (2, (0, x2)), (3, (0, x3))]) (stN := [(4, 0)]) (hsC := jpA_147) (v := (0, 1)) (st2 := [(0, 1), (4, 0)]) (jA_205_48 (d := 0)) (by rfl) (by rfl) (by decide +kernel) (by rfl) (by rfl) (by omega) (by omega) (by omega) (by omega) rfl ?_
  refine jT_xiconst (k := 3) (pcN := 138) jI_217_137 rfl ?_
  refine jT_fR [0] 40 (y := 191) (pcN := 141) (dC := 0) (bc1 := 0) (bc2 := 0) (c1 := 0) (c2 := 0) (as := [(4, 0), (0, 1), (0, 3)]) (asC := [(4, 0), (0, 1), (0, 3)]) (LN := [(6, (0, 6)), (4, (1, 0)), (0, (4, 0)), (1, (0, x1)), (2, (0, x2)), (3, (0, x3))]) (stN := []) (hsC := [jgh]) (v := (0, 0)) (st2 := [(0, 0)]) (jA_191_117 (d := 0)) (by rfl) (by rfl) (by decide +kernel) (by rfl) (by rfl) (by omega) (by omega) (by omega) (by omega) rfl ?_
  refine jT_xifT (pcN := 146) jI_217_141 rfl (by decide +kernel) rfl ?_
  refine jT_xaload_n (v := (4, 0)) (pcN := 147) jI_217_146 rfl rfl rfl ?_
  refine jT_fB [0, 1, 2, 3, 4, 5, 6, 7, 8, 9, 10, 11, 12, 13, 14, 15, 16, 17, 18, 19, 20, 21, 22, 23] 40 (y := 195) (pcN := 150) (dC := 0) (bc1 := 0) (bc2 := 0) (c1 := 0) (c2 := 0) (as := [(4, 0)]) (asC := [(4, 0)]) (LN := [(6, (0, 6)), (4, (1, 0)), (0, (4, 0)), (1, (0, x1)), (2, (0, x2)), (3, (0, x3))]) (stN := []) (hsC := jpA_198) (hsD := jpA_202) (v := (9, 0)) (st2 := []) (hs2 := jpA_1035) (jA_195_50 (d := 0)) (by rfl) (by rfl) (by decide +kernel) (by rfl) (by rfl) (by omega) (by omega) (by omega) (by omega) rfl (by decide +kernel) ?_
  refine jT_xaload_n (v := (4, 0)) (pcN := 151) jI_217_150 rfl rfl rfl ?_
  refine jT_xiload_n (v := (0, x3)) (pcN := 152) jI_217_151 rfl rfl rfl ?_
  refine jT_fB [0, 1, 2, 3, 4, 5, 6, 7, 8, 9, 10, 11, 12, 13, 14, 15] 40 (y := 196) (pcN := 155) (dC := 1) (bc1 := 0) (bc2 := 0) (c1 := 0) (c2 := 0) (as := [(4, 0), (0, x3)]) (asC := [(4, 0), (0, x3)]) (LN := [(6, (0, 6)), (4, (1, 0)), (0, (4, 0)), (1, (0, x1)), (2, (0, x2)), (3, (0, x3))]) (stN := []) (hsC := jpA_216) (hsD := [jzA_200, (100, [], ((((((((((((((jS0).set ((7 * x3).toNat) 0)).set ((7 * x3 + 1).toNat) 0)).set ((7 * x3 + 2).toNat) 0)).set ((7 * x3 + 3).toNat) 0)).set ((7 * x3 + 4).toNat) 0)).set ((7 * x3 + 5).toNat) 0)).set ((7 * x3 + 6).toNat) 1)), jgh, jgh, jgh, jgh, jgh, (101, [], [0, 0, 0, 0, 0, 0]), jgh, jgh, jgh, jgh, jgh, jgh, jgh, jgh]) (v := (0, 1)) (st2 := [(0, 1)]) (hs2 := [jzA_200, (100, [], ((((((((((((((jS0).set ((7 * x3).toNat) 0)).set ((7 * x3 + 1).toNat) 0)).set ((7 * x3 + 2).toNat) 0)).set ((7 * x3 + 3).toNat) 0)).set ((7 * x3 + 4).toNat) 0)).set ((7 * x3 + 5).toNat) 0)).set ((7 * x3 + 6).toNat) 1)), (100, [], []), jzA_196, jzA_201, jgh, (130, [], [24, 25, 26, 27, 28, 29]), (101, [], [0, 0, 0, 0, 0, 0]), jgh, jgh, jgh, jgh, jgh, jgh, jgh, jgh, (100, [], jS0), jgh, jgh, jgh, jgh, jgh, jgh, jgh, (100, [], (jenc (jlg 0))), jgh, jgh, jgh, jgh, jgh, (101, [], [0, 0, 0, 0, 0, 0]), (101, [], [1, 0, 0, 0, 0, 0]), (101, [], [1, 0, 0, 0, 0, 0]), (100, [], (jenc 0)), (100, [], (jenc 1)), (100, [], (jenc (1 * (jlg 0)))), (101, [], [(-1), 0, 0, 0, 0, 0]), (100, [], (jenc 0)), (100, [], (jenc (-1))), (100, [], (jenc ((-1) * (jlg 0))))]) (jA_196_194 (d := 0) (by omega)) (by rfl) (by rfl) (by decide +kernel) (by rfl) (by rfl) (by omega) (by omega) (by omega) (by omega) rfl rfl ?_
  refine jT_adv 1 (pcN := 156) (LN := [(6, (0, 6)), (4, (1, 0)), (0, (4, 0)), (1, (0, x1)), (2, (0, x2)), (3, (0, x3))]) (stN := []) (hsN := [jzA_200, (100, [], ((((((((((((((jS0).set ((7 * x3).toNat) 0)).set ((7 * x3 + 1).toNat) 0)).set ((7 * x3 + 2).toNat) 0)).set ((7 * x3 + 3).toNat) 0)).set ((7 * x3 + 4).toNat) 0)).set ((7 * x3 + 5).toNat) 0)).set ((7 * x3 + 6).toNat) 1)), (100, [], []), jzA_196, jzA_201, jgh, (130, [], [24, 25, 26, 27, 28, 29]), (101, [], [0, 0, 0, 0, 0, 0]), jgh, jgh, jgh, jgh, jgh, jgh, jgh, jgh, (100, [], jS0), jgh, jgh, jgh, jgh, jgh, jgh, jgh, (100, [], (jenc (jlg 0))), jgh, jgh, jgh, jgh, jgh, (101, [], [0, 0, 0, 0, 0, 0]), (101, [], [1, 0, 0, 0, 0, 0]), (101, [], [1, 0, 0, 0, 0, 0]), (100, [], (jenc 0)), (100, [], (jenc 1)), (100, [], (jenc (1 * (jlg 0)))), (101, [], [(-1), 0, 0, 0, 0, 0]), (100, [], (jenc 0)), (100, [], (jenc (-1))), (100, [], (jenc ((-1) * (jlg 0))))]) (c1 := 0) (s1 := 0) (c2 := 0) (s2 := 0) (by exact rfl) ?_ (by omega) (by omega)
  refine jT_xlload (v := (1, 0)) (pcN := 158) jI_217_156 rfl rfl rfl ?_
  refine jT_xl2i (pcN := 159) jI_217_158 rfl rfl ?_
  exact jT_ret rfl (by decide) (by show 30 ≤ 40; decide) (by omega) (by omega) ⟨rfl, rfl, rfl⟩
theorem jA_123_244 {xs : List Int} {d : Nat} {x1 x2 x3 : Int} (h_x1 : 1 ≤ x1 ∧ x1 ≤ 24) (h_x2 : 0 ≤ x2 ∧ x2 ≤ 7) (h_x3 : 8 ≤ x3 ∧ x3 ≤ 2147483647) : jT xs (d + 1) 123 12 0 [(0, (4, 0)), (1, (0, x1)), (2, (0, x2)), (3, (0, x3))] [] jpA_6 1 6 (fun k v hsN => k = 1 ∧ v = (0, 0) ∧ hsN = jpA_6 ++ []) := by
  refine jT_xaload_n (v := (4, 0)) (pcN := 1) jI_123_0 rfl rfl rfl ?_
  refine jT_xiload_n (v := (0, x1)) (pcN := 2) jI_123_1 rfl rfl rfl ?_
  refine jT_xiconst (k := 1) (pcN := 3) jI_123_2 rfl ?_
  refine jT_xbipush (k := 24) (pcN := 5) jI_123_3 (by decide) rfl ?_
  refine jT_fR [0] 12 (y := 116) (pcN := 8) (dC := 0) (bc1 := 0) (bc2 := 0) (c1 := 1) (c2 := 6) (as := [(4, 0), (0, x1), (0, 1), (0, 24)]) (asC := [(4, 0), (0, x1), (0, 1), (0, 24)]) (LN := [(0, (4, 0)), (1, (0, x1)), (2, (0, x2)), (3, (0, x3))]) (stN := []) (hsC := [jgh]) (v := (9, 0)) (st2 := []) (jA_116_210 (d := 0) (by omega)) (by rfl) (by rfl) (by decide +kernel) (by rfl) (by rfl) (by omega) (by omega) (by omega) (by omega) rfl ?_
  refine jT_xaload_n (v := (4, 0)) (pcN := 9) jI_123_8 rfl rfl rfl ?_
  refine jT_xiload_n (v := (0, x2)) (pcN := 10) jI_123_9 rfl rfl rfl ?_
  refine jT_xbipush (k := 8) (pcN := 12) jI_123_10 (by decide) rfl ?_
  refine jT_fR [0] 12 (y := 115) (pcN := 15) (dC := 0) (bc1 := 0) (bc2 := 0) (c1 := 1) (c2 := 6) (as := [(4, 0), (0, x2), (0, 8)]) (asC := [(4, 0), (0, x2), (0, 8)]) (LN := [(0, (4, 0)), (1, (0, x1)), (2, (0, x2)), (3, (0, x3))]) (stN := []) (hsC := [jgh]) (v := (9, 0)) (st2 := []) (jA_115_16 (d := 0) (by omega)) (by rfl) (by rfl) (by decide +kernel) (by rfl) (by rfl) (by omega) (by omega) (by omega) (by omega) rfl ?_
  refine jT_xaload_n (v := (4, 0)) (pcN := 16) jI_123_15 rfl rfl rfl ?_
  refine jT_xiload_n (v := (0, x3)) (pcN := 17) jI_123_16 rfl rfl rfl ?_
  refine jT_xbipush (k := 8) (pcN := 19) jI_123_17 (by decide) rfl ?_
  exact jT_fX [0] 12 (y := 115) (pcN := 22) (dC := 0) (bc1 := 1) (bc2 := 6) (as := [(4, 0), (0, x3), (0, 8)]) (asC := [(4, 0), (0, x3), (0, 8)]) (LN := [(0, (4, 0)), (1, (0, x1)), (2, (0, x2)), (3, (0, x3))]) (stN := []) (hsC := [jgh]) (e := 0) (jA_115_55 (d := 0) (by omega)) (by rfl) (by rfl) (by decide +kernel) (by rfl) (by rfl) (by omega) (by omega) (by omega) (by omega) ⟨rfl, ⟨rfl, rfl, rfl⟩⟩
theorem jA_332_245 {xs : List Int} {d : Nat} {x1 x2 x3 : Int} (h_x1 : 1 ≤ x1 ∧ x1 ≤ 24) (h_x2 : 0 ≤ x2 ∧ x2 ≤ 7) (h_x3 : 8 ≤ x3 ∧ x3 ≤ 2147483647) : jT xs (d + 2) 332 13 0 [(0, (4, 0)), (1, (0, x1)), (2, (0, x2)), (3, (0, x3)), (4, (4, 1))] [] jpA_15 1 6 (fun k v hsN => k = 0 ∧ v = (0, 2) ∧ hsN = jpA_15 ++ []) := by
  refine jT_xaload (v := (4, 1)) (pcN := 2) jI_332_0 rfl rfl rfl ?_
  refine jT_xiconst (k := 0) (pcN := 3) jI_332_2 rfl ?_
  refine jT_xaload_n (v := (4, 0)) (pcN := 4) jI_332_3 rfl rfl rfl ?_
  refine jT_xiload_n (v := (0, x1)) (pcN := 5) jI_332_4 rfl rfl rfl ?_
  refine jT_xiload_n (v := (0, x2)) (pcN := 6) jI_332_5 rfl rfl rfl ?_
  refine jT_xiload_n (v := (0, x3)) (pcN := 7) jI_332_6 rfl rfl rfl ?_
  exact jT_fX [0, 2, 3, 4, 5, 6, 7, 8, 9, 10, 11, 12] 13 (y := 123) (pcN := 10) (dC := 1) (bc1 := 1) (bc2 := 6) (as := [(4, 0), (0, x1), (0, x2), (0, x3)]) (asC := [(4, 0), (0, x1), (0, x2), (0, x3)]) (LN := [(0, (4, 0)), (1, (0, x1)), (2, (0, x2)), (3, (0, x3)), (4, (4, 1))]) (stN := [(0, 0), (4, 1)]) (hsC := jpA_6) (e := 0) (jA_123_244 (d := 0) (by omega) (by omega) (by omega)) (by rfl) (by rfl) (by decide +kernel) (by rfl) (by rfl) (by omega) (by omega) (by omega) (by omega) (show _ from ⟨rfl, rfl, rfl⟩)
theorem jA_217_246 {xs : List Int} {d : Nat} {x1 x2 x3 : Int} (h_x1 : 1 ≤ x1 ∧ x1 ≤ 24) (h_x2 : 0 ≤ x2 ∧ x2 ≤ 7) (h_x3 : 8 ≤ x3 ∧ x3 ≤ 2147483647) : jT xs (d + 2) 217 16 0 [(0, (4, 0)), (1, (0, x1)), (2, (0, x2)), (3, (0, x3))] [] jpA_22 0 0 (fun k v hsN => k = 0 ∧ v = (0, 0) ∧ hsN = jpA_361) := by
  refine jT_xaload_n (v := (4, 0)) (pcN := 1) jI_217_0 rfl rfl rfl ?_
  refine jT_xiconst (k := 0) (pcN := 2) jI_217_1 rfl ?_
  refine jT_adv 1 (pcN := 5) (LN := [(0, (4, 0)), (1, (0, x1)), (2, (0, x2)), (3, (0, x3))]) (stN := []) (hsN := jpA_22) (c1 := 0) (s1 := 0) (c2 := 0) (s2 := 0) (by exact rfl) ?_ (by omega) (by omega)
  refine jT_xaload_n (v := (4, 0)) (pcN := 6) jI_217_5 rfl rfl rfl ?_
  refine jT_xiload_n (v := (0, x1)) (pcN := 7) jI_217_6 rfl rfl rfl ?_
  refine jT_xi2l (x := x1) (z := x1) (pcN := 8) jI_217_7 rfl (jw_idd (by omega) (by omega)) rfl ?_
  refine jT_xlconst (z := 1) (pcN := 9) jI_217_8 rfl rfl ?_
  refine jT_adv 1 (pcN := 12) (LN := [(0, (4, 0)), (1, (0, x1)), (2, (0, x2)), (3, (0, x3))]) (stN := [(1, 24), (1, 1), (1, x1), (4, 0)]) (hsN := jpA_22) (c1 := 0) (s1 := 0) (c2 := 0) (s2 := 0) (by exact rfl) ?_ (by omega) (by omega)
  refine jT_fR [] 16 (y := 189) (pcN := 15) (dC := 0) (bc1 := 0) (bc2 := 0) (c1 := 0) (c2 := 0) (as := [(1, x1), (1, 1), (1, 24)]) (asC := [(1, x1), (1, 1), (1, 24)]) (LN := [(0, (4, 0)), (1, (0, x1)), (2, (0, x2)), (3, (0, x3))]) (stN := [(4, 0)]) (hsC := []) (v := (0, 1)) (st2 := [(0, 1), (4, 0)]) (jT_in_ok (d := 0) (v := x1) (lo := 1) (hi := 24) (by omega) (by omega) (by omega) (by omega) (by omega)) (by rfl) (by rfl) (by decide +kernel) (by rfl) (by rfl) (by omega) (by omega) (by omega) (by omega) rfl ?_
  refine jT_xiconst (k := 1) (pcN := 16) jI_217_15 rfl ?_
  refine jT_fR [0] 16 (y := 191) (pcN := 19) (dC := 0) (bc1 := 0) (bc2 := 0) (c1 := 0) (c2 := 0) (as := [(4, 0), (0, 1), (0, 1)]) (asC := [(4, 0), (0, 1), (0, 1)]) (LN := [(0, (4, 0)), (1, (0, x1)), (2, (0, x2)), (3, (0, x3))]) (stN := []) (hsC := [jgh]) (v := (0, 0)) (st2 := [(0, 0)]) (jA_191_38 (d := 0)) (by rfl) (by rfl) (by decide +kernel) (by rfl) (by rfl) (by omega) (by omega) (by omega) (by omega) rfl ?_
  refine jT_xifF (t := 49) (pcN := 22) jI_217_19 rfl (by decide +kernel) rfl rfl ?_
  refine jT_xaload_n (v := (4, 0)) (pcN := 23) jI_217_22 rfl rfl rfl ?_
  refine jT_xiload_n (v := (0, x2)) (pcN := 24) jI_217_23 rfl rfl rfl ?_
  refine jT_fR [] 16 (y := 188) (pcN := 27) (dC := 1) (bc1 := 0) (bc2 := 0) (c1 := 0) (c2 := 0) (as := [(0, x2)]) (asC := [(0, x2)]) (LN := [(0, (4, 0)), (1, (0, x1)), (2, (0, x2)), (3, (0, x3))]) (stN := [(4, 0)]) (hsC := []) (v := (0, 1)) (st2 := [(0, 1), (4, 0)]) (jA_188_20 (d := 0) (by omega)) (by rfl) (by rfl) (by decide +kernel) (by rfl) (by rfl) (by omega) (by omega) (by omega) (by omega) rfl ?_
  refine jT_xifF (t := 41) (pcN := 30) jI_217_27 rfl (by decide +kernel) rfl rfl ?_
  refine jT_xiload_n (v := (0, x3)) (pcN := 31) jI_217_30 rfl rfl rfl ?_
  refine jT_fR [] 16 (y := 188) (pcN := 34) (dC := 1) (bc1 := 0) (bc2 := 0) (c1 := 0) (c2 := 0) (as := [(0, x3)]) (asC := [(0, x3)]) (LN := [(0, (4, 0)), (1, (0, x1)), (2, (0, x2)), (3, (0, x3))]) (stN := [(4, 0)]) (hsC := []) (v := (0, 0)) (st2 := [(0, 0), (4, 0)]) (jA_188_58 (d := 0) (by omega)) (by rfl) (by rfl) (by decide +kernel) (by rfl) (by rfl) (by omega) (by omega) (by omega) (by omega) rfl ?_
  refine jT_xifT (pcN := 41) jI_217_34 rfl (by decide +kernel) rfl ?_
  refine jT_xiconst (k := 0) (pcN := 42) jI_217_41 rfl ?_
  refine jT_xiconst (k := 2) (pcN := 43) jI_217_42 rfl ?_
  refine jT_fB [0, 1, 2, 3, 4, 5, 6, 7, 8, 9, 10, 11, 12, 13, 14, 15] 16 (y := 191) (pcN := 46) (dC := 0) (bc1 := 0) (bc2 := 0) (c1 := 0) (c2 := 0) (as := [(4, 0), (0, 0), (0, 2)]) (asC := [(4, 0), (0, 0), (0, 2)]) (LN := [(0, (4, 0)), (1, (0, x1)), (2, (0, x2)), (3, (0, x3))]) (stN := []) (hsC := jpA_22) (hsD := jpA_361) (v := (0, 1)) (st2 := [(0, 1)]) (hs2 := jpA_361) (jA_191_99 (d := 0)) (by rfl) (by rfl) (by decide +kernel) (by rfl) (by rfl) (by omega) (by omega) (by omega) (by omega) rfl (by decide +kernel) ?_
  refine jT_xifF (t := 51) (pcN := 49) jI_217_46 rfl (by decide +kernel) rfl rfl ?_
  refine jT_xiconst (k := 0) (pcN := 50) jI_217_49 rfl ?_
  exact jT_ret rfl (by decide) (by show 16 ≤ 16; decide) (by omega) (by omega) ⟨rfl, rfl, rfl⟩
theorem jA_123_247 {xs : List Int} {d : Nat} {x1 x2 x3 : Int} (h_x1 : 1 ≤ x1 ∧ x1 ≤ 24) (h_x2 : 8 ≤ x2 ∧ x2 ≤ 2147483647) (h_x3 : (-2147483648) ≤ x3 ∧ x3 ≤ 2147483647) : jT xs (d + 1) 123 12 0 [(0, (4, 0)), (1, (0, x1)), (2, (0, x2)), (3, (0, x3))] [] jpA_6 1 6 (fun k v hsN => k = 1 ∧ v = (0, 0) ∧ hsN = jpA_6 ++ []) := by
  refine jT_xaload_n (v := (4, 0)) (pcN := 1) jI_123_0 rfl rfl rfl ?_
  refine jT_xiload_n (v := (0, x1)) (pcN := 2) jI_123_1 rfl rfl rfl ?_
  refine jT_xiconst (k := 1) (pcN := 3) jI_123_2 rfl ?_
  refine jT_xbipush (k := 24) (pcN := 5) jI_123_3 (by decide) rfl ?_
  refine jT_fR [0] 12 (y := 116) (pcN := 8) (dC := 0) (bc1 := 0) (bc2 := 0) (c1 := 1) (c2 := 6) (as := [(4, 0), (0, x1), (0, 1), (0, 24)]) (asC := [(4, 0), (0, x1), (0, 1), (0, 24)]) (LN := [(0, (4, 0)), (1, (0, x1)), (2, (0, x2)), (3, (0, x3))]) (stN := []) (hsC := [jgh]) (v := (9, 0)) (st2 := []) (jA_116_210 (d := 0) (by omega)) (by rfl) (by rfl) (by decide +kernel) (by rfl) (by rfl) (by omega) (by omega) (by omega) (by omega) rfl ?_
  refine jT_xaload_n (v := (4, 0)) (pcN := 9) jI_123_8 rfl rfl rfl ?_
  refine jT_xiload_n (v := (0, x2)) (pcN := 10) jI_123_9 rfl rfl rfl ?_
  refine jT_xbipush (k := 8) (pcN := 12) jI_123_10 (by decide) rfl ?_
  exact jT_fX [0] 12 (y := 115) (pcN := 15) (dC := 0) (bc1 := 1) (bc2 := 6) (as := [(4, 0), (0, x2), (0, 8)]) (asC := [(4, 0), (0, x2), (0, 8)]) (LN := [(0, (4, 0)), (1, (0, x1)), (2, (0, x2)), (3, (0, x3))]) (stN := []) (hsC := [jgh]) (e := 0) (jA_115_60 (d := 0) (by omega)) (by rfl) (by rfl) (by decide +kernel) (by rfl) (by rfl) (by omega) (by omega) (by omega) (by omega) ⟨rfl, ⟨rfl, rfl, rfl⟩⟩
theorem jA_332_248 {xs : List Int} {d : Nat} {x1 x2 x3 : Int} (h_x1 : 1 ≤ x1 ∧ x1 ≤ 24) (h_x2 : 8 ≤ x2 ∧ x2 ≤ 2147483647) (h_x3 : (-2147483648) ≤ x3 ∧ x3 ≤ 2147483647) : jT xs (d + 2) 332 13 0 [(0, (4, 0)), (1, (0, x1)), (2, (0, x2)), (3, (0, x3)), (4, (4, 1))] [] jpA_15 1 6 (fun k v hsN => k = 0 ∧ v = (0, 2) ∧ hsN = jpA_15 ++ []) := by
  refine jT_xaload (v := (4, 1)) (pcN := 2) jI_332_0 rfl rfl rfl ?_
  refine jT_xiconst (k := 0) (pcN := 3) jI_332_2 rfl ?_
  refine jT_xaload_n (v := (4, 0)) (pcN := 4) jI_332_3 rfl rfl rfl ?_
  refine jT_xiload_n (v := (0, x1)) (pcN := 5) jI_332_4 rfl rfl rfl ?_
  refine jT_xiload_n (v := (0, x2)) (pcN := 6) jI_332_5 rfl rfl rfl ?_
  refine jT_xiload_n (v := (0, x3)) (pcN := 7) jI_332_6 rfl rfl rfl ?_
  exact jT_fX [0, 2, 3, 4, 5, 6, 7, 8, 9, 10, 11, 12] 13 (y := 123) (pcN := 10) (dC := 1) (bc1 := 1) (bc2 := 6) (as := [(4, 0), (0, x1), (0, x2), (0, x3)]) (asC := [(4, 0), (0, x1), (0, x2), (0, x3)]) (LN := [(0, (4, 0)), (1, (0, x1)), (2, (0, x2)), (3, (0, x3)), (4, (4, 1))]) (stN := [(0, 0), (4, 1)]) (hsC := jpA_6) (e := 0) (jA_123_247 (d := 0) (by omega) (by omega) (by omega)) (by rfl) (by rfl) (by decide +kernel) (by rfl) (by rfl) (by omega) (by omega) (by omega) (by omega) (show _ from ⟨rfl, rfl, rfl⟩)
theorem jA_217_249 {xs : List Int} {d : Nat} {x1 x2 x3 : Int} (h_x1 : 1 ≤ x1 ∧ x1 ≤ 24) (h_x2 : 8 ≤ x2 ∧ x2 ≤ 2147483647) (h_x3 : (-2147483648) ≤ x3 ∧ x3 ≤ 2147483647) : jT xs (d + 2) 217 16 0 [(0, (4, 0)), (1, (0, x1)), (2, (0, x2)), (3, (0, x3))] [] jpA_22 0 0 (fun k v hsN => k = 0 ∧ v = (0, 0) ∧ hsN = jpA_361) := by
  refine jT_xaload_n (v := (4, 0)) (pcN := 1) jI_217_0 rfl rfl rfl ?_
  refine jT_xiconst (k := 0) (pcN := 2) jI_217_1 rfl ?_
  refine jT_adv 1 (pcN := 5) (LN := [(0, (4, 0)), (1, (0, x1)), (2, (0, x2)), (3, (0, x3))]) (stN := []) (hsN := jpA_22) (c1 := 0) (s1 := 0) (c2 := 0) (s2 := 0) (by exact rfl) ?_ (by omega) (by omega)
  refine jT_xaload_n (v := (4, 0)) (pcN := 6) jI_217_5 rfl rfl rfl ?_
  refine jT_xiload_n (v := (0, x1)) (pcN := 7) jI_217_6 rfl rfl rfl ?_
  refine jT_xi2l (x := x1) (z := x1) (pcN := 8) jI_217_7 rfl (jw_idd (by omega) (by omega)) rfl ?_
  refine jT_xlconst (z := 1) (pcN := 9) jI_217_8 rfl rfl ?_
  refine jT_adv 1 (pcN := 12) (LN := [(0, (4, 0)), (1, (0, x1)), (2, (0, x2)), (3, (0, x3))]) (stN := [(1, 24), (1, 1), (1, x1), (4, 0)]) (hsN := jpA_22) (c1 := 0) (s1 := 0) (c2 := 0) (s2 := 0) (by exact rfl) ?_ (by omega) (by omega)
  refine jT_fR [] 16 (y := 189) (pcN := 15) (dC := 0) (bc1 := 0) (bc2 := 0) (c1 := 0) (c2 := 0) (as := [(1, x1), (1, 1), (1, 24)]) (asC := [(1, x1), (1, 1), (1, 24)]) (LN := [(0, (4, 0)), (1, (0, x1)), (2, (0, x2)), (3, (0, x3))]) (stN := [(4, 0)]) (hsC := []) (v := (0, 1)) (st2 := [(0, 1), (4, 0)]) (jT_in_ok (d := 0) (v := x1) (lo := 1) (hi := 24) (by omega) (by omega) (by omega) (by omega) (by omega)) (by rfl) (by rfl) (by decide +kernel) (by rfl) (by rfl) (by omega) (by omega) (by omega) (by omega) rfl ?_
  refine jT_xiconst (k := 1) (pcN := 16) jI_217_15 rfl ?_
  refine jT_fR [0] 16 (y := 191) (pcN := 19) (dC := 0) (bc1 := 0) (bc2 := 0) (c1 := 0) (c2 := 0) (as := [(4, 0), (0, 1), (0, 1)]) (asC := [(4, 0), (0, 1), (0, 1)]) (LN := [(0, (4, 0)), (1, (0, x1)), (2, (0, x2)), (3, (0, x3))]) (stN := []) (hsC := [jgh]) (v := (0, 0)) (st2 := [(0, 0)]) (jA_191_38 (d := 0)) (by rfl) (by rfl) (by decide +kernel) (by rfl) (by rfl) (by omega) (by omega) (by omega) (by omega) rfl ?_
  refine jT_xifF (t := 49) (pcN := 22) jI_217_19 rfl (by decide +kernel) rfl rfl ?_
  refine jT_xaload_n (v := (4, 0)) (pcN := 23) jI_217_22 rfl rfl rfl ?_
  refine jT_xiload_n (v := (0, x2)) (pcN := 24) jI_217_23 rfl rfl rfl ?_
  refine jT_fR [] 16 (y := 188) (pcN := 27) (dC := 1) (bc1 := 0) (bc2 := 0) (c1 := 0) (c2 := 0) (as := [(0, x2)]) (asC := [(0, x2)]) (LN := [(0, (4, 0)), (1, (0, x1)), (2, (0, x2)), (3, (0, x3))]) (stN := [(4, 0)]) (hsC := []) (v := (0, 0)) (st2 := [(0, 0), (4, 0)]) (jA_188_63 (d := 0) (by omega)) (by rfl) (by rfl) (by decide +kernel) (by rfl) (by rfl) (by omega) (by omega) (by omega) (by omega) rfl ?_
  refine jT_xifT (pcN := 41) jI_217_27 rfl (by decide +kernel) rfl ?_
  refine jT_xiconst (k := 0) (pcN := 42) jI_217_41 rfl ?_
  refine jT_xiconst (k := 2) (pcN := 43) jI_217_42 rfl ?_
  refine jT_fB [0, 1, 2, 3, 4, 5, 6, 7, 8, 9, 10, 11, 12, 13, 14, 15] 16 (y := 191) (pcN := 46) (dC := 0) (bc1 := 0) (bc2 := 0) (c1 := 0) (c2 := 0) (as := [(4, 0), (0, 0), (0, 2)]) (asC := [(4, 0), (0, 0), (0, 2)]) (LN := [(0, (4, 0)), (1, (0, x1)), (2, (0, x2)), (3, (0, x3))]) (stN := []) (hsC := jpA_22) (hsD := jpA_361) (v := (0, 1)) (st2 := [(0, 1)]) (hs2 := jpA_361) (jA_191_99 (d := 0)) (by rfl) (by rfl) (by decide +kernel) (by rfl) (by rfl) (by omega) (by omega) (by omega) (by omega) rfl (by decide +kernel) ?_
  refine jT_xifF (t := 51) (pcN := 49) jI_217_46 rfl (by decide +kernel) rfl rfl ?_
  refine jT_xiconst (k := 0) (pcN := 50) jI_217_49 rfl ?_
  exact jT_ret rfl (by decide) (by show 16 ≤ 16; decide) (by omega) (by omega) ⟨rfl, rfl, rfl⟩
theorem jA_116_250 {xs : List Int} {d : Nat} {x1 : Int} (h_x1 : 25 ≤ x1 ∧ x1 ≤ 2147483647) : jT xs d 116 1 0 [(0, (4, 0)), (1, (0, x1)), (2, (0, 1)), (3, (0, 24))] [] [jgh] 1 6 (fun k v hsN => k = 1 ∧ v = (0, 1) ∧ hsN = [jgh] ++ []) := by
  refine jT_xiload_n (v := (0, x1)) (pcN := 1) jI_116_0 rfl rfl rfl ?_
  refine jT_xiload_n (v := (0, 1)) (pcN := 2) jI_116_1 rfl rfl rfl ?_
  refine jT_icF (a := x1) (b := 1) (t := 10) (by rfl) (by rfl) (by rfl) (jw_idd (by omega) (by omega)) (jw_idd (by omega) (by omega)) (by simp only [jcP] <;> omega) ?_
  refine jT_xiload_n (v := (0, x1)) (pcN := 6) jI_116_5 rfl rfl rfl ?_
  refine jT_xiload_n (v := (0, 24)) (pcN := 7) jI_116_6 rfl rfl rfl ?_
  refine jT_icF (a := x1) (b := 24) (t := 21) (by rfl) (by rfl) (by rfl) (jw_idd (by omega) (by omega)) (jw_idd (by omega) (by omega)) (by simp only [jcP] <;> omega) ?_
  exact jT_ret (c1 := 1) (s1 := 6) rfl (by decide) (by show 1 ≤ 1; decide) (by omega) (by omega) ⟨rfl, rfl, rfl⟩
theorem jA_123_251 {xs : List Int} {d : Nat} {x1 x2 x3 : Int} (h_x1 : 25 ≤ x1 ∧ x1 ≤ 2147483647) (h_x2 : (-2147483648) ≤ x2 ∧ x2 ≤ 2147483647) (h_x3 : (-2147483648) ≤ x3 ∧ x3 ≤ 2147483647) : jT xs (d + 1) 123 12 0 [(0, (4, 0)), (1, (0, x1)), (2, (0, x2)), (3, (0, x3))] [] jpA_6 1 6 (fun k v hsN => k = 1 ∧ v = (0, 1) ∧ hsN = jpA_6 ++ []) := by
  refine jT_xaload_n (v := (4, 0)) (pcN := 1) jI_123_0 rfl rfl rfl ?_
  refine jT_xiload_n (v := (0, x1)) (pcN := 2) jI_123_1 rfl rfl rfl ?_
  refine jT_xiconst (k := 1) (pcN := 3) jI_123_2 rfl ?_
  refine jT_xbipush (k := 24) (pcN := 5) jI_123_3 (by decide) rfl ?_
  exact jT_fX [0] 12 (y := 116) (pcN := 8) (dC := 0) (bc1 := 1) (bc2 := 6) (as := [(4, 0), (0, x1), (0, 1), (0, 24)]) (asC := [(4, 0), (0, x1), (0, 1), (0, 24)]) (LN := [(0, (4, 0)), (1, (0, x1)), (2, (0, x2)), (3, (0, x3))]) (stN := []) (hsC := [jgh]) (e := 1) (jA_116_250 (d := 0) (by omega)) (by rfl) (by rfl) (by decide +kernel) (by rfl) (by rfl) (by omega) (by omega) (by omega) (by omega) ⟨rfl, ⟨rfl, rfl, rfl⟩⟩
theorem jA_332_252 {xs : List Int} {d : Nat} {x1 x2 x3 : Int} (h_x1 : 25 ≤ x1 ∧ x1 ≤ 2147483647) (h_x2 : (-2147483648) ≤ x2 ∧ x2 ≤ 2147483647) (h_x3 : (-2147483648) ≤ x3 ∧ x3 ≤ 2147483647) : jT xs (d + 2) 332 13 0 [(0, (4, 0)), (1, (0, x1)), (2, (0, x2)), (3, (0, x3)), (4, (4, 1))] [] jpA_15 1 6 (fun k v hsN => k = 0 ∧ v = (0, 1) ∧ hsN = jpA_15 ++ []) := by
  refine jT_xaload (v := (4, 1)) (pcN := 2) jI_332_0 rfl rfl rfl ?_
  refine jT_xiconst (k := 0) (pcN := 3) jI_332_2 rfl ?_
  refine jT_xaload_n (v := (4, 0)) (pcN := 4) jI_332_3 rfl rfl rfl ?_
  refine jT_xiload_n (v := (0, x1)) (pcN := 5) jI_332_4 rfl rfl rfl ?_
  refine jT_xiload_n (v := (0, x2)) (pcN := 6) jI_332_5 rfl rfl rfl ?_
  refine jT_xiload_n (v := (0, x3)) (pcN := 7) jI_332_6 rfl rfl rfl ?_
  exact jT_fX [0, 2, 3, 4, 5, 6, 7, 8, 9, 10, 11, 12] 13 (y := 123) (pcN := 10) (dC := 1) (bc1 := 1) (bc2 := 6) (as := [(4, 0), (0, x1), (0, x2), (0, x3)]) (asC := [(4, 0), (0, x1), (0, x2), (0, x3)]) (LN := [(0, (4, 0)), (1, (0, x1)), (2, (0, x2)), (3, (0, x3)), (4, (4, 1))]) (stN := [(0, 0), (4, 1)]) (hsC := jpA_6) (e := 1) (jA_123_251 (d := 0) (by omega) (by omega) (by omega)) (by rfl) (by rfl) (by decide +kernel) (by rfl) (by rfl) (by omega) (by omega) (by omega) (by omega) (show _ from ⟨rfl, rfl, rfl⟩)
theorem jA_217_253 {xs : List Int} {d : Nat} {x1 x2 x3 : Int} (h_x1 : 25 ≤ x1 ∧ x1 ≤ 2147483647) (h_x2 : (-2147483648) ≤ x2 ∧ x2 ≤ 2147483647) (h_x3 : (-2147483648) ≤ x3 ∧ x3 ≤ 2147483647) : jT xs (d + 1) 217 16 0 [(0, (4, 0)), (1, (0, x1)), (2, (0, x2)), (3, (0, x3))] [] jpA_22 0 0 (fun k v hsN => k = 0 ∧ v = (0, 0) ∧ hsN = jpA_20) := by
  refine jT_xaload_n (v := (4, 0)) (pcN := 1) jI_217_0 rfl rfl rfl ?_
  refine jT_xiconst (k := 0) (pcN := 2) jI_217_1 rfl ?_
  refine jT_adv 1 (pcN := 5) (LN := [(0, (4, 0)), (1, (0, x1)), (2, (0, x2)), (3, (0, x3))]) (stN := []) (hsN := jpA_22) (c1 := 0) (s1 := 0) (c2 := 0) (s2 := 0) (by exact rfl) ?_ (by omega) (by omega)
  refine jT_xaload_n (v := (4, 0)) (pcN := 6) jI_217_5 rfl rfl rfl ?_
  refine jT_xiload_n (v := (0, x1)) (pcN := 7) jI_217_6 rfl rfl rfl ?_
  refine jT_xi2l (x := x1) (z := x1) (pcN := 8) jI_217_7 rfl (jw_idd (by omega) (by omega)) rfl ?_
  refine jT_xlconst (z := 1) (pcN := 9) jI_217_8 rfl rfl ?_
  refine jT_adv 1 (pcN := 12) (LN := [(0, (4, 0)), (1, (0, x1)), (2, (0, x2)), (3, (0, x3))]) (stN := [(1, 24), (1, 1), (1, x1), (4, 0)]) (hsN := jpA_22) (c1 := 0) (s1 := 0) (c2 := 0) (s2 := 0) (by exact rfl) ?_ (by omega) (by omega)
  refine jT_fR [] 16 (y := 189) (pcN := 15) (dC := 0) (bc1 := 0) (bc2 := 0) (c1 := 0) (c2 := 0) (as := [(1, x1), (1, 1), (1, 24)]) (asC := [(1, x1), (1, 1), (1, 24)]) (LN := [(0, (4, 0)), (1, (0, x1)), (2, (0, x2)), (3, (0, x3))]) (stN := [(4, 0)]) (hsC := []) (v := (0, 0)) (st2 := [(0, 0), (4, 0)]) (jT_in_hi (d := 0) (v := x1) (lo := 1) (hi := 24) (by omega) (by omega) (by omega) (by omega) (by omega)) (by rfl) (by rfl) (by decide +kernel) (by rfl) (by rfl) (by omega) (by omega) (by omega) (by omega) rfl ?_
  refine jT_xiconst (k := 1) (pcN := 16) jI_217_15 rfl ?_
  refine jT_fB [0, 1, 2, 3, 4, 5, 6, 7, 8, 9, 10, 11, 12, 13, 14, 15] 16 (y := 191) (pcN := 19) (dC := 0) (bc1 := 0) (bc2 := 0) (c1 := 0) (c2 := 0) (as := [(4, 0), (0, 0), (0, 1)]) (asC := [(4, 0), (0, 0), (0, 1)]) (LN := [(0, (4, 0)), (1, (0, x1)), (2, (0, x2)), (3, (0, x3))]) (stN := []) (hsC := jpA_22) (hsD := jpA_20) (v := (0, 1)) (st2 := [(0, 1)]) (hs2 := jpA_20) (jA_191_5 (d := 0)) (by rfl) (by rfl) (by decide +kernel) (by rfl) (by rfl) (by omega) (by omega) (by omega) (by omega) rfl (by decide +kernel) ?_
  refine jT_xifT (pcN := 49) jI_217_19 rfl (by decide +kernel) rfl ?_
  refine jT_xiconst (k := 0) (pcN := 50) jI_217_49 rfl ?_
  exact jT_ret rfl (by decide) (by show 16 ≤ 16; decide) (by omega) (by omega) ⟨rfl, rfl, rfl⟩
theorem jI_379_767 : jmI (jm 379) 767 = (.aload_n 1, 1) := by rfl
theorem jI_379_768 : jmI (jm 379) 768 = (.aload_n 0, 1) := by rfl
theorem jI_379_769 : jmI (jm 379) 769 = (.iload 5, 2) := by rfl
theorem jI_379_771 : jmI (jm 379) 771 = (.iconst 1, 1) := by rfl
theorem jI_379_772 : jmI (jm 379) 772 = (.iadd, 1) := by rfl
theorem jI_379_774 : jmI (jm 379) 774 = (.aload_n 0, 1) := by rfl
theorem jI_379_775 : jmI (jm 379) 775 = (.iload 5, 2) := by rfl
theorem jI_379_777 : jmI (jm 379) 777 = (.iconst 2, 1) := by rfl
theorem jI_379_778 : jmI (jm 379) 778 = (.iadd, 1) := by rfl
theorem jI_379_780 : jmI (jm 379) 780 = (.aload_n 0, 1) := by rfl
theorem jI_379_781 : jmI (jm 379) 781 = (.iload 5, 2) := by rfl
theorem jI_379_783 : jmI (jm 379) 783 = (.iconst 3, 1) := by rfl
theorem jI_379_784 : jmI (jm 379) 784 = (.iadd, 1) := by rfl
theorem jI_379_786 : jmI (jm 379) 786 = (.aload_n 3, 1) := by rfl
theorem jI_379_790 : jmI (jm 379) 790 = (.istore 6, 2) := by rfl
theorem jI_379_792 : jmI (jm 379) 792 = (.aload_n 2, 1) := by rfl
theorem jI_379_793 : jmI (jm 379) 793 = (.aload_n 0, 1) := by rfl
theorem jI_379_794 : jmI (jm 379) 794 = (.iload 5, 2) := by rfl
theorem jI_379_796 : jmI (jm 379) 796 = (.iconst 1, 1) := by rfl
theorem jI_379_797 : jmI (jm 379) 797 = (.iadd, 1) := by rfl
theorem jI_379_799 : jmI (jm 379) 799 = (.aload_n 0, 1) := by rfl
theorem jI_379_800 : jmI (jm 379) 800 = (.iload 5, 2) := by rfl
theorem jI_379_802 : jmI (jm 379) 802 = (.iconst 2, 1) := by rfl
theorem jI_379_803 : jmI (jm 379) 803 = (.iadd, 1) := by rfl
theorem jI_379_805 : jmI (jm 379) 805 = (.aload_n 0, 1) := by rfl
theorem jI_379_806 : jmI (jm 379) 806 = (.iload 5, 2) := by rfl
theorem jI_379_808 : jmI (jm 379) 808 = (.iconst 3, 1) := by rfl
theorem jI_379_809 : jmI (jm 379) 809 = (.iadd, 1) := by rfl
theorem jI_379_814 : jmI (jm 379) 814 = (.istore 7, 2) := by rfl
theorem jI_379_816 : jmI (jm 379) 816 = (.aload_n 2, 1) := by rfl
theorem jI_379_820 : jmI (jm 379) 820 = (.iload 6, 2) := by rfl
theorem jI_379_822 : jmI (jm 379) 822 = (.if_icmp .eq 5, 3) := by rfl
theorem jI_379_827 : jmI (jm 379) 827 = (.iload 6, 2) := by rfl
theorem jI_379_829 : jmI (jm 379) 829 = (.ifCond .ne 15, 3) := by rfl
theorem jI_379_844 : jmI (jm 379) 844 = (.goto 2896, 3) := by rfl
set_option maxRecDepth 100000 in
theorem jL_6_0 {d : Nat} {x0 x1 x2 x3 x4 : Int} (h_x0 : (-2147483648) ≤ x0 ∧ x0 ≤ 2147483647) (h_x1 : (-2147483648) ≤ x1 ∧ x1 ≤ 0) (h_x2 : (-2147483648) ≤ x2 ∧ x2 ≤ 2147483647) (h_x3 : (-2147483648) ≤ x3 ∧ x3 ≤ 2147483647) (h_x4 : (-2147483648) ≤ x4 ∧ x4 ≤ 2147483647) : jT [x0, x1, x2, x3, x4] (d + 3) 379 30 767 [(5, (0, 0)), (4, (4, 3)), (3, (4, 2)), (2, (4, 1)), (1, (4, 0)), (0, (6, 0))] [] jpA_267 1 6 (fun k v hsN => k = 0 ∧ v = (0, 1)) := by
  refine jT_xaload_n (v := (4, 0)) (pcN := 768) jI_379_767 rfl rfl rfl ?_
  refine jT_xaload_n (v := (6, 0)) (pcN := 769) jI_379_768 rfl rfl rfl ?_
  refine jT_xiload (v := (0, 0)) (pcN := 771) jI_379_769 rfl rfl rfl ?_
  refine jT_xiconst (k := 1) (pcN := 772) jI_379_771 rfl ?_
  refine jT_xiadd (x := 0) (y := 1) (z := 1) (pcN := 773) jI_379_772 rfl (by decide) rfl ?_
  refine jT_adv 1 (pcN := 774) (LN := [(5, (0, 0)), (4, (4, 3)), (3, (4, 2)), (2, (4, 1)), (1, (4, 0)), (0, (6, 0))]) (stN := [(0, x1), (4, 0)]) (hsN := jpA_267) (c1 := 0) (s1 := 0) (c2 := 1) (s2 := 6) (by exact rfl) ?_ (by omega) (by omega)
  refine jT_xaload_n (v := (6, 0)) (pcN := 775) jI_379_774 rfl rfl rfl ?_
  refine jT_xiload (v := (0, 0)) (pcN := 777) jI_379_775 rfl rfl rfl ?_
  refine jT_xiconst (k := 2) (pcN := 778) jI_379_777 rfl ?_
  refine jT_xiadd (x := 0) (y := 2) (z := 2) (pcN := 779) jI_379_778 rfl (by decide) rfl ?_
  refine jT_adv 1 (pcN := 780) (LN := [(5, (0, 0)), (4, (4, 3)), (3, (4, 2)), (2, (4, 1)), (1, (4, 0)), (0, (6, 0))]) (stN := [(0, x2), (0, x1), (4, 0)]) (hsN := jpA_267) (c1 := 0) (s1 := 0) (c2 := 1) (s2 := 6) (by exact rfl) ?_ (by omega) (by omega)
  refine jT_xaload_n (v := (6, 0)) (pcN := 781) jI_379_780 rfl rfl rfl ?_
  refine jT_xiload (v := (0, 0)) (pcN := 783) jI_379_781 rfl rfl rfl ?_
  refine jT_xiconst (k := 3) (pcN := 784) jI_379_783 rfl ?_
  refine jT_xiadd (x := 0) (y := 3) (z := 3) (pcN := 785) jI_379_784 rfl (by decide) rfl ?_
  refine jT_adv 1 (pcN := 786) (LN := [(5, (0, 0)), (4, (4, 3)), (3, (4, 2)), (2, (4, 1)), (1, (4, 0)), (0, (6, 0))]) (stN := [(0, x3), (0, x2), (0, x1), (4, 0)]) (hsN := jpA_267) (c1 := 0) (s1 := 0) (c2 := 1) (s2 := 6) (by exact rfl) ?_ (by omega) (by omega)
  refine jT_xaload_n (v := (4, 2)) (pcN := 787) jI_379_786 rfl rfl rfl ?_
  refine jT_fR [0, 2, 4, 5, 6, 7, 8, 9, 10, 11, 12, 13, 14] 30 (y := 332) (pcN := 790) (dC := 2) (bc1 := 1) (bc2 := 6) (c1 := 0) (c2 := 0) (as := [(4, 0), (0, x1), (0, x2), (0, x3), (4, 2)]) (asC := [(4, 0), (0, x1), (0, x2), (0, x3), (4, 1)]) (LN := [(5, (0, 0)), (4, (4, 3)), (3, (4, 2)), (2, (4, 1)), (1, (4, 0)), (0, (6, 0))]) (stN := []) (hsC := jpA_15) (v := (0, 1)) (st2 := [(0, 1)]) (jA_332_208 (d := 0) (by omega) (by omega) (by omega)) (by rfl) (by rfl) (by decide +kernel) (by rfl) (by rfl) (by omega) (by omega) (by omega) (by omega) rfl ?_
  refine jT_xistore (v := (0, 1)) (LN := [(6, (0, 1)), (5, (0, 0)), (4, (4, 3)), (3, (4, 2)), (2, (4, 1)), (1, (4, 0)), (0, (6, 0))]) (pcN := 792) jI_379_790 rfl rfl rfl rfl ?_
  refine jT_xaload_n (v := (4, 1)) (pcN := 793) jI_379_792 rfl rfl rfl ?_
  refine jT_xaload_n (v := (6, 0)) (pcN := 794) jI_379_793 rfl rfl rfl ?_
  refine jT_xiload (v := (0, 0)) (pcN := 796) jI_379_794 rfl rfl rfl ?_
  refine jT_xiconst (k := 1) (pcN := 797) jI_379_796 rfl ?_
  refine jT_xiadd (x := 0) (y := 1) (z := 1) (pcN := 798) jI_379_797 rfl (by decide) rfl ?_
  refine jT_adv 1 (pcN := 799) (LN := [(6, (0, 1)), (5, (0, 0)), (4, (4, 3)), (3, (4, 2)), (2, (4, 1)), (1, (4, 0)), (0, (6, 0))]) (stN := [(0, x1), (4, 1)]) (hsN := jpA_267) (c1 := 0) (s1 := 0) (c2 := 0) (s2 := 0) (by exact rfl) ?_ (by omega) (by omega)
  refine jT_xaload_n (v := (6, 0)) (pcN := 800) jI_379_799 rfl rfl rfl ?_
  refine jT_xiload (v := (0, 0)) (pcN := 802) jI_379_800 rfl rfl rfl ?_
  refine jT_xiconst (k := 2) (pcN := 803) jI_379_802 rfl ?_
  refine jT_xiadd (x := 0) (y := 2) (z := 2) (pcN := 804) jI_379_803 rfl (by decide) rfl ?_
  refine jT_adv 1 (pcN := 805) (LN := [(6, (0, 1)), (5, (0, 0)), (4, (4, 3)), (3, (4, 2)), (2, (4, 1)), (1, (4, 0)), (0, (6, 0))]) (stN := [(0, x2), (0, x1), (4, 1)]) (hsN := jpA_267) (c1 := 0) (s1 := 0) (c2 := 0) (s2 := 0) (by exact rfl) ?_ (by omega) (by omega)
  refine jT_xaload_n (v := (6, 0)) (pcN := 806) jI_379_805 rfl rfl rfl ?_
  refine jT_xiload (v := (0, 0)) (pcN := 808) jI_379_806 rfl rfl rfl ?_
  refine jT_xiconst (k := 3) (pcN := 809) jI_379_808 rfl ?_
  refine jT_xiadd (x := 0) (y := 3) (z := 3) (pcN := 810) jI_379_809 rfl (by decide) rfl ?_
  refine jT_adv 1 (pcN := 811) (LN := [(6, (0, 1)), (5, (0, 0)), (4, (4, 3)), (3, (4, 2)), (2, (4, 1)), (1, (4, 0)), (0, (6, 0))]) (stN := [(0, x3), (0, x2), (0, x1), (4, 1)]) (hsN := jpA_267) (c1 := 0) (s1 := 0) (c2 := 0) (s2 := 0) (by exact rfl) ?_ (by omega) (by omega)
  refine jT_fB [1, 15, 16, 17, 18, 19, 20, 21, 22, 23, 24, 25, 26, 27, 28, 29] 30 (y := 217) (pcN := 814) (dC := 1) (bc1 := 0) (bc2 := 0) (c1 := 0) (c2 := 0) (as := [(4, 1), (0, x1), (0, x2), (0, x3)]) (asC := [(4, 0), (0, x1), (0, x2), (0, x3)]) (LN := [(6, (0, 1)), (5, (0, 0)), (4, (4, 3)), (3, (4, 2)), (2, (4, 1)), (1, (4, 0)), (0, (6, 0))]) (stN := []) (hsC := jpA_22) (hsD := jpA_20) (v := (0, 0)) (st2 := [(0, 0)]) (hs2 := jpA_306) (jA_217_209 (d := 0) (by omega) (by omega) (by omega)) (by rfl) (by rfl) (by decide +kernel) (by rfl) (by rfl) (by omega) (by omega) (by omega) (by omega) rfl (by decide +kernel) ?_
  refine jT_xistore (v := (0, 0)) (LN := [(7, (0, 0)), (6, (0, 1)), (5, (0, 0)), (4, (4, 3)), (3, (4, 2)), (2, (4, 1)), (1, (4, 0)), (0, (6, 0))]) (pcN := 816) jI_379_814 rfl rfl rfl rfl ?_
  refine jT_xaload_n (v := (4, 1)) (pcN := 817) jI_379_816 rfl rfl rfl ?_
  refine jT_fR [1, 15, 16, 17, 18, 19, 20, 21, 22, 23, 24, 25, 26, 27, 28, 29] 30 (y := 186) (pcN := 820) (dC := 0) (bc1 := 0) (bc2 := 0) (c1 := 0) (c2 := 0) (as := [(4, 1)]) (asC := [(4, 0)]) (LN := [(7, (0, 0)), (6, (0, 1)), (5, (0, 0)), (4, (4, 3)), (3, (4, 2)), (2, (4, 1)), (1, (4, 0)), (0, (6, 0))]) (stN := []) (hsC := jpA_20) (v := (0, 1)) (st2 := [(0, 1)]) (jA_186_8 (d := 0)) (by rfl) (by rfl) (by decide +kernel) (by rfl) (by rfl) (by omega) (by omega) (by omega) (by omega) rfl ?_
  refine jT_xiload (v := (0, 1)) (pcN := 822) jI_379_820 rfl rfl rfl ?_
  refine jT_xicT (pcN := 827) jI_379_822 rfl (by decide +kernel) rfl ?_
  refine jT_xiload (v := (0, 1)) (pcN := 829) jI_379_827 rfl rfl rfl ?_
  refine jT_xifT (pcN := 844) jI_379_829 rfl (by decide +kernel) rfl ?_
  refine jT_xgoto (pcN := 3740) jI_379_844 rfl ?_
  refine jT_xiinc (x := 0) (z := 5) (LN := [(5, (0, 5)), (7, (0, 0)), (6, (0, 1)), (4, (4, 3)), (3, (4, 2)), (2, (4, 1)), (1, (4, 0)), (0, (6, 0))]) (pcN := 3743) jI_379_3740 rfl rfl (by decide) rfl rfl ?_
  refine jT_xgoto (pcN := 28) jI_379_3743 rfl ?_
  refine jT_xiload (v := (0, 5)) (pcN := 30) jI_379_28 rfl rfl rfl ?_
  refine jT_xaload_n (v := (6, 0)) (pcN := 31) jI_379_30 rfl rfl rfl ?_
  refine jT_adv 1 (pcN := 32) (LN := [(5, (0, 5)), (7, (0, 0)), (6, (0, 1)), (4, (4, 3)), (3, (4, 2)), (2, (4, 1)), (1, (4, 0)), (0, (6, 0))]) (stN := [(0, 5), (0, 5)]) (hsN := jpA_306) (c1 := 0) (s1 := 0) (c2 := 0) (s2 := 0) (by exact rfl) ?_ (by omega) (by omega)
  refine jT_xiconst (k := 5) (pcN := 33) jI_379_32 rfl ?_
  refine jT_xisub (x := 5) (y := 5) (z := 0) (pcN := 34) jI_379_33 rfl (by decide) rfl ?_
  refine jT_xicT (pcN := 3746) jI_379_34 rfl (by decide +kernel) rfl ?_
  refine jT_xiconst (k := 1) (pcN := 3747) jI_379_3746 rfl ?_
  exact jT_ret rfl (by decide) (by show 30 ≤ 30; decide) (by omega) (by omega) ⟨rfl, rfl⟩
set_option maxRecDepth 100000 in
theorem jL_6_1 {d : Nat} {x0 x1 x2 x3 x4 : Int} (h_x0 : (-2147483648) ≤ x0 ∧ x0 ≤ 2147483647) (h_x1 : 1 ≤ x1 ∧ x1 ≤ 24) (h_x2 : (-2147483648) ≤ x2 ∧ x2 ≤ (-1)) (h_x3 : (-2147483648) ≤ x3 ∧ x3 ≤ 2147483647) (h_x4 : (-2147483648) ≤ x4 ∧ x4 ≤ 2147483647) : jT [x0, x1, x2, x3, x4] (d + 3) 379 30 767 [(5, (0, 0)), (4, (4, 3)), (3, (4, 2)), (2, (4, 1)), (1, (4, 0)), (0, (6, 0))] [] jpA_267 1 6 (fun k v hsN => k = 0 ∧ v = (0, 1)) := by
  refine jT_xaload_n (v := (4, 0)) (pcN := 768) jI_379_767 rfl rfl rfl ?_
  refine jT_xaload_n (v := (6, 0)) (pcN := 769) jI_379_768 rfl rfl rfl ?_
  refine jT_xiload (v := (0, 0)) (pcN := 771) jI_379_769 rfl rfl rfl ?_
  refine jT_xiconst (k := 1) (pcN := 772) jI_379_771 rfl ?_
  refine jT_xiadd (x := 0) (y := 1) (z := 1) (pcN := 773) jI_379_772 rfl (by decide) rfl ?_
  refine jT_adv 1 (pcN := 774) (LN := [(5, (0, 0)), (4, (4, 3)), (3, (4, 2)), (2, (4, 1)), (1, (4, 0)), (0, (6, 0))]) (stN := [(0, x1), (4, 0)]) (hsN := jpA_267) (c1 := 0) (s1 := 0) (c2 := 1) (s2 := 6) (by exact rfl) ?_ (by omega) (by omega)
  refine jT_xaload_n (v := (6, 0)) (pcN := 775) jI_379_774 rfl rfl rfl ?_
  refine jT_xiload (v := (0, 0)) (pcN := 777) jI_379_775 rfl rfl rfl ?_
  refine jT_xiconst (k := 2) (pcN := 778) jI_379_777 rfl ?_
  refine jT_xiadd (x := 0) (y := 2) (z := 2) (pcN := 779) jI_379_778 rfl (by decide) rfl ?_
  refine jT_adv 1 (pcN := 780) (LN := [(5, (0, 0)), (4, (4, 3)), (3, (4, 2)), (2, (4, 1)), (1, (4, 0)), (0, (6, 0))]) (stN := [(0, x2), (0, x1), (4, 0)]) (hsN := jpA_267) (c1 := 0) (s1 := 0) (c2 := 1) (s2 := 6) (by exact rfl) ?_ (by omega) (by omega)
  refine jT_xaload_n (v := (6, 0)) (pcN := 781) jI_379_780 rfl rfl rfl ?_
  refine jT_xiload (v := (0, 0)) (pcN := 783) jI_379_781 rfl rfl rfl ?_
  refine jT_xiconst (k := 3) (pcN := 784) jI_379_783 rfl ?_
  refine jT_xiadd (x := 0) (y := 3) (z := 3) (pcN := 785) jI_379_784 rfl (by decide) rfl ?_
  refine jT_adv 1 (pcN := 786) (LN := [(5, (0, 0)), (4, (4, 3)), (3, (4, 2)), (2, (4, 1)), (1, (4, 0)), (0, (6, 0))]) (stN := [(0, x3), (0, x2), (0, x1), (4, 0)]) (hsN := jpA_267) (c1 := 0) (s1 := 0) (c2 := 1) (s2 := 6) (by exact rfl) ?_ (by omega) (by omega)
  refine jT_xaload_n (v := (4, 2)) (pcN := 787) jI_379_786 rfl rfl rfl ?_
  refine jT_fR [0, 2, 4, 5, 6, 7, 8, 9, 10, 11, 12, 13, 14] 30 (y := 332) (pcN := 790) (dC := 2) (bc1 := 1) (bc2 := 6) (c1 := 0) (c2 := 0) (as := [(4, 0), (0, x1), (0, x2), (0, x3), (4, 2)]) (asC := [(4, 0), (0, x1), (0, x2), (0, x3), (4, 1)]) (LN := [(5, (0, 0)), (4, (4, 3)), (3, (4, 2)), (2, (4, 1)), (1, (4, 0)), (0, (6, 0))]) (stN := []) (hsC := jpA_15) (v := (0, 2)) (st2 := [(0, 2)]) (jA_332_212 (d := 0) (by omega) (by omega) (by omega)) (by rfl) (by rfl) (by decide +kernel) (by rfl) (by rfl) (by omega) (by omega) (by omega) (by omega) rfl ?_
  refine jT_xistore (v := (0, 2)) (LN := [(6, (0, 2)), (5, (0, 0)), (4, (4, 3)), (3, (4, 2)), (2, (4, 1)), (1, (4, 0)), (0, (6, 0))]) (pcN := 792) jI_379_790 rfl rfl rfl rfl ?_
  refine jT_xaload_n (v := (4, 1)) (pcN := 793) jI_379_792 rfl rfl rfl ?_
  refine jT_xaload_n (v := (6, 0)) (pcN := 794) jI_379_793 rfl rfl rfl ?_
  refine jT_xiload (v := (0, 0)) (pcN := 796) jI_379_794 rfl rfl rfl ?_
  refine jT_xiconst (k := 1) (pcN := 797) jI_379_796 rfl ?_
  refine jT_xiadd (x := 0) (y := 1) (z := 1) (pcN := 798) jI_379_797 rfl (by decide) rfl ?_
  refine jT_adv 1 (pcN := 799) (LN := [(6, (0, 2)), (5, (0, 0)), (4, (4, 3)), (3, (4, 2)), (2, (4, 1)), (1, (4, 0)), (0, (6, 0))]) (stN := [(0, x1), (4, 1)]) (hsN := jpA_267) (c1 := 0) (s1 := 0) (c2 := 0) (s2 := 0) (by exact rfl) ?_ (by omega) (by omega)
  refine jT_xaload_n (v := (6, 0)) (pcN := 800) jI_379_799 rfl rfl rfl ?_
  refine jT_xiload (v := (0, 0)) (pcN := 802) jI_379_800 rfl rfl rfl ?_
  refine jT_xiconst (k := 2) (pcN := 803) jI_379_802 rfl ?_
  refine jT_xiadd (x := 0) (y := 2) (z := 2) (pcN := 804) jI_379_803 rfl (by decide) rfl ?_
  refine jT_adv 1 (pcN := 805) (LN := [(6, (0, 2)), (5, (0, 0)), (4, (4, 3)), (3, (4, 2)), (2, (4, 1)), (1, (4, 0)), (0, (6, 0))]) (stN := [(0, x2), (0, x1), (4, 1)]) (hsN := jpA_267) (c1 := 0) (s1 := 0) (c2 := 0) (s2 := 0) (by exact rfl) ?_ (by omega) (by omega)
  refine jT_xaload_n (v := (6, 0)) (pcN := 806) jI_379_805 rfl rfl rfl ?_
  refine jT_xiload (v := (0, 0)) (pcN := 808) jI_379_806 rfl rfl rfl ?_
  refine jT_xiconst (k := 3) (pcN := 809) jI_379_808 rfl ?_
  refine jT_xiadd (x := 0) (y := 3) (z := 3) (pcN := 810) jI_379_809 rfl (by decide) rfl ?_
  refine jT_adv 1 (pcN := 811) (LN := [(6, (0, 2)), (5, (0, 0)), (4, (4, 3)), (3, (4, 2)), (2, (4, 1)), (1, (4, 0)), (0, (6, 0))]) (stN := [(0, x3), (0, x2), (0, x1), (4, 1)]) (hsN := jpA_267) (c1 := 0) (s1 := 0) (c2 := 0) (s2 := 0) (by exact rfl) ?_ (by omega) (by omega)
  refine jT_fB [1, 15, 16, 17, 18, 19, 20, 21, 22, 23, 24, 25, 26, 27, 28, 29] 30 (y := 217) (pcN := 814) (dC := 2) (bc1 := 0) (bc2 := 0) (c1 := 0) (c2 := 0) (as := [(4, 1), (0, x1), (0, x2), (0, x3)]) (asC := [(4, 0), (0, x1), (0, x2), (0, x3)]) (LN := [(6, (0, 2)), (5, (0, 0)), (4, (4, 3)), (3, (4, 2)), (2, (4, 1)), (1, (4, 0)), (0, (6, 0))]) (stN := []) (hsC := jpA_22) (hsD := jpA_361) (v := (0, 0)) (st2 := [(0, 0)]) (hs2 := jpA_607) (jA_217_213 (d := 0) (by omega) (by omega) (by omega)) (by rfl) (by rfl) (by decide +kernel) (by rfl) (by rfl) (by omega) (by omega) (by omega) (by omega) rfl (by decide +kernel) ?_
  refine jT_xistore (v := (0, 0)) (LN := [(7, (0, 0)), (6, (0, 2)), (5, (0, 0)), (4, (4, 3)), (3, (4, 2)), (2, (4, 1)), (1, (4, 0)), (0, (6, 0))]) (pcN := 816) jI_379_814 rfl rfl rfl rfl ?_
  refine jT_xaload_n (v := (4, 1)) (pcN := 817) jI_379_816 rfl rfl rfl ?_
  refine jT_fR [1, 15, 16, 17, 18, 19, 20, 21, 22, 23, 24, 25, 26, 27, 28, 29] 30 (y := 186) (pcN := 820) (dC := 0) (bc1 := 0) (bc2 := 0) (c1 := 0) (c2 := 0) (as := [(4, 1)]) (asC := [(4, 0)]) (LN := [(7, (0, 0)), (6, (0, 2)), (5, (0, 0)), (4, (4, 3)), (3, (4, 2)), (2, (4, 1)), (1, (4, 0)), (0, (6, 0))]) (stN := []) (hsC := jpA_361) (v := (0, 2)) (st2 := [(0, 2)]) (jA_186_101 (d := 0)) (by rfl) (by rfl) (by decide +kernel) (by rfl) (by rfl) (by omega) (by omega) (by omega) (by omega) rfl ?_
  refine jT_xiload (v := (0, 2)) (pcN := 822) jI_379_820 rfl rfl rfl ?_
  refine jT_xicT (pcN := 827) jI_379_822 rfl (by decide +kernel) rfl ?_
  refine jT_xiload (v := (0, 2)) (pcN := 829) jI_379_827 rfl rfl rfl ?_
  refine jT_xifT (pcN := 844) jI_379_829 rfl (by decide +kernel) rfl ?_
  refine jT_xgoto (pcN := 3740) jI_379_844 rfl ?_
  refine jT_xiinc (x := 0) (z := 5) (LN := [(5, (0, 5)), (7, (0, 0)), (6, (0, 2)), (4, (4, 3)), (3, (4, 2)), (2, (4, 1)), (1, (4, 0)), (0, (6, 0))]) (pcN := 3743) jI_379_3740 rfl rfl (by decide) rfl rfl ?_
  refine jT_xgoto (pcN := 28) jI_379_3743 rfl ?_
  refine jT_xiload (v := (0, 5)) (pcN := 30) jI_379_28 rfl rfl rfl ?_
  refine jT_xaload_n (v := (6, 0)) (pcN := 31) jI_379_30 rfl rfl rfl ?_
  refine jT_adv 1 (pcN := 32) (LN := [(5, (0, 5)), (7, (0, 0)), (6, (0, 2)), (4, (4, 3)), (3, (4, 2)), (2, (4, 1)), (1, (4, 0)), (0, (6, 0))]) (stN := [(0, 5), (0, 5)]) (hsN := jpA_607) (c1 := 0) (s1 := 0) (c2 := 0) (s2 := 0) (by exact rfl) ?_ (by omega) (by omega)
  refine jT_xiconst (k := 5) (pcN := 33) jI_379_32 rfl ?_
  refine jT_xisub (x := 5) (y := 5) (z := 0) (pcN := 34) jI_379_33 rfl (by decide) rfl ?_
  refine jT_xicT (pcN := 3746) jI_379_34 rfl (by decide +kernel) rfl ?_
  refine jT_xiconst (k := 1) (pcN := 3747) jI_379_3746 rfl ?_
  exact jT_ret rfl (by decide) (by show 30 ≤ 30; decide) (by omega) (by omega) ⟨rfl, rfl⟩
set_option maxRecDepth 100000 in
theorem jL_6_2 {d : Nat} {x0 x1 x2 x3 x4 : Int} (h_x0 : (-2147483648) ≤ x0 ∧ x0 ≤ 2147483647) (h_x1 : 1 ≤ x1 ∧ x1 ≤ 24) (h_x2 : 0 ≤ x2 ∧ x2 ≤ 7) (h_x3 : (-2147483648) ≤ x3 ∧ x3 ≤ (-1)) (h_x4 : (-2147483648) ≤ x4 ∧ x4 ≤ 2147483647) : jT [x0, x1, x2, x3, x4] (d + 3) 379 30 767 [(5, (0, 0)), (4, (4, 3)), (3, (4, 2)), (2, (4, 1)), (1, (4, 0)), (0, (6, 0))] [] jpA_267 1 6 (fun k v hsN => k = 0 ∧ v = (0, 1)) := by
  refine jT_xaload_n (v := (4, 0)) (pcN := 768) jI_379_767 rfl rfl rfl ?_
  refine jT_xaload_n (v := (6, 0)) (pcN := 769) jI_379_768 rfl rfl rfl ?_
  refine jT_xiload (v := (0, 0)) (pcN := 771) jI_379_769 rfl rfl rfl ?_
  refine jT_xiconst (k := 1) (pcN := 772) jI_379_771 rfl ?_
  refine jT_xiadd (x := 0) (y := 1) (z := 1) (pcN := 773) jI_379_772 rfl (by decide) rfl ?_
  refine jT_adv 1 (pcN := 774) (LN := [(5, (0, 0)), (4, (4, 3)), (3, (4, 2)), (2, (4, 1)), (1, (4, 0)), (0, (6, 0))]) (stN := [(0, x1), (4, 0)]) (hsN := jpA_267) (c1 := 0) (s1 := 0) (c2 := 1) (s2 := 6) (by exact rfl) ?_ (by omega) (by omega)
  refine jT_xaload_n (v := (6, 0)) (pcN := 775) jI_379_774 rfl rfl rfl ?_
  refine jT_xiload (v := (0, 0)) (pcN := 777) jI_379_775 rfl rfl rfl ?_
  refine jT_xiconst (k := 2) (pcN := 778) jI_379_777 rfl ?_
  refine jT_xiadd (x := 0) (y := 2) (z := 2) (pcN := 779) jI_379_778 rfl (by decide) rfl ?_
  refine jT_adv 1 (pcN := 780) (LN := [(5, (0, 0)), (4, (4, 3)), (3, (4, 2)), (2, (4, 1)), (1, (4, 0)), (0, (6, 0))]) (stN := [(0, x2), (0, x1), (4, 0)]) (hsN := jpA_267) (c1 := 0) (s1 := 0) (c2 := 1) (s2 := 6) (by exact rfl) ?_ (by omega) (by omega)
  refine jT_xaload_n (v := (6, 0)) (pcN := 781) jI_379_780 rfl rfl rfl ?_
  refine jT_xiload (v := (0, 0)) (pcN := 783) jI_379_781 rfl rfl rfl ?_
  refine jT_xiconst (k := 3) (pcN := 784) jI_379_783 rfl ?_
  refine jT_xiadd (x := 0) (y := 3) (z := 3) (pcN := 785) jI_379_784 rfl (by decide) rfl ?_
  refine jT_adv 1 (pcN := 786) (LN := [(5, (0, 0)), (4, (4, 3)), (3, (4, 2)), (2, (4, 1)), (1, (4, 0)), (0, (6, 0))]) (stN := [(0, x3), (0, x2), (0, x1), (4, 0)]) (hsN := jpA_267) (c1 := 0) (s1 := 0) (c2 := 1) (s2 := 6) (by exact rfl) ?_ (by omega) (by omega)
  refine jT_xaload_n (v := (4, 2)) (pcN := 787) jI_379_786 rfl rfl rfl ?_
  refine jT_fR [0, 2, 4, 5, 6, 7, 8, 9, 10, 11, 12, 13, 14] 30 (y := 332) (pcN := 790) (dC := 2) (bc1 := 1) (bc2 := 6) (c1 := 0) (c2 := 0) (as := [(4, 0), (0, x1), (0, x2), (0, x3), (4, 2)]) (asC := [(4, 0), (0, x1), (0, x2), (0, x3), (4, 1)]) (LN := [(5, (0, 0)), (4, (4, 3)), (3, (4, 2)), (2, (4, 1)), (1, (4, 0)), (0, (6, 0))]) (stN := []) (hsC := jpA_15) (v := (0, 2)) (st2 := [(0, 2)]) (jA_332_215 (d := 0) (by omega) (by omega) (by omega)) (by rfl) (by rfl) (by decide +kernel) (by rfl) (by rfl) (by omega) (by omega) (by omega) (by omega) rfl ?_
  refine jT_xistore (v := (0, 2)) (LN := [(6, (0, 2)), (5, (0, 0)), (4, (4, 3)), (3, (4, 2)), (2, (4, 1)), (1, (4, 0)), (0, (6, 0))]) (pcN := 792) jI_379_790 rfl rfl rfl rfl ?_
  refine jT_xaload_n (v := (4, 1)) (pcN := 793) jI_379_792 rfl rfl rfl ?_
  refine jT_xaload_n (v := (6, 0)) (pcN := 794) jI_379_793 rfl rfl rfl ?_
  refine jT_xiload (v := (0, 0)) (pcN := 796) jI_379_794 rfl rfl rfl ?_
  refine jT_xiconst (k := 1) (pcN := 797) jI_379_796 rfl ?_
  refine jT_xiadd (x := 0) (y := 1) (z := 1) (pcN := 798) jI_379_797 rfl (by decide) rfl ?_
  refine jT_adv 1 (pcN := 799) (LN := [(6, (0, 2)), (5, (0, 0)), (4, (4, 3)), (3, (4, 2)), (2, (4, 1)), (1, (4, 0)), (0, (6, 0))]) (stN := [(0, x1), (4, 1)]) (hsN := jpA_267) (c1 := 0) (s1 := 0) (c2 := 0) (s2 := 0) (by exact rfl) ?_ (by omega) (by omega)
  refine jT_xaload_n (v := (6, 0)) (pcN := 800) jI_379_799 rfl rfl rfl ?_
  refine jT_xiload (v := (0, 0)) (pcN := 802) jI_379_800 rfl rfl rfl ?_
  refine jT_xiconst (k := 2) (pcN := 803) jI_379_802 rfl ?_
  refine jT_xiadd (x := 0) (y := 2) (z := 2) (pcN := 804) jI_379_803 rfl (by decide) rfl ?_
  refine jT_adv 1 (pcN := 805) (LN := [(6, (0, 2)), (5, (0, 0)), (4, (4, 3)), (3, (4, 2)), (2, (4, 1)), (1, (4, 0)), (0, (6, 0))]) (stN := [(0, x2), (0, x1), (4, 1)]) (hsN := jpA_267) (c1 := 0) (s1 := 0) (c2 := 0) (s2 := 0) (by exact rfl) ?_ (by omega) (by omega)
  refine jT_xaload_n (v := (6, 0)) (pcN := 806) jI_379_805 rfl rfl rfl ?_
  refine jT_xiload (v := (0, 0)) (pcN := 808) jI_379_806 rfl rfl rfl ?_
  refine jT_xiconst (k := 3) (pcN := 809) jI_379_808 rfl ?_
  refine jT_xiadd (x := 0) (y := 3) (z := 3) (pcN := 810) jI_379_809 rfl (by decide) rfl ?_
  refine jT_adv 1 (pcN := 811) (LN := [(6, (0, 2)), (5, (0, 0)), (4, (4, 3)), (3, (4, 2)), (2, (4, 1)), (1, (4, 0)), (0, (6, 0))]) (stN := [(0, x3), (0, x2), (0, x1), (4, 1)]) (hsN := jpA_267) (c1 := 0) (s1 := 0) (c2 := 0) (s2 := 0) (by exact rfl) ?_ (by omega) (by omega)
  refine jT_fB [1, 15, 16, 17, 18, 19, 20, 21, 22, 23, 24, 25, 26, 27, 28, 29] 30 (y := 217) (pcN := 814) (dC := 2) (bc1 := 0) (bc2 := 0) (c1 := 0) (c2 := 0) (as := [(4, 1), (0, x1), (0, x2), (0, x3)]) (asC := [(4, 0), (0, x1), (0, x2), (0, x3)]) (LN := [(6, (0, 2)), (5, (0, 0)), (4, (4, 3)), (3, (4, 2)), (2, (4, 1)), (1, (4, 0)), (0, (6, 0))]) (stN := []) (hsC := jpA_22) (hsD := jpA_361) (v := (0, 0)) (st2 := [(0, 0)]) (hs2 := jpA_607) (jA_217_216 (d := 0) (by omega) (by omega) (by omega)) (by rfl) (by rfl) (by decide +kernel) (by rfl) (by rfl) (by omega) (by omega) (by omega) (by omega) rfl (by decide +kernel) ?_
  refine jT_xistore (v := (0, 0)) (LN := [(7, (0, 0)), (6, (0, 2)), (5, (0, 0)), (4, (4, 3)), (3, (4, 2)), (2, (4, 1)), (1, (4, 0)), (0, (6, 0))]) (pcN := 816) jI_379_814 rfl rfl rfl rfl ?_
  refine jT_xaload_n (v := (4, 1)) (pcN := 817) jI_379_816 rfl rfl rfl ?_
  refine jT_fR [1, 15, 16, 17, 18, 19, 20, 21, 22, 23, 24, 25, 26, 27, 28, 29] 30 (y := 186) (pcN := 820) (dC := 0) (bc1 := 0) (bc2 := 0) (c1 := 0) (c2 := 0) (as := [(4, 1)]) (asC := [(4, 0)]) (LN := [(7, (0, 0)), (6, (0, 2)), (5, (0, 0)), (4, (4, 3)), (3, (4, 2)), (2, (4, 1)), (1, (4, 0)), (0, (6, 0))]) (stN := []) (hsC := jpA_361) (v := (0, 2)) (st2 := [(0, 2)]) (jA_186_101 (d := 0)) (by rfl) (by rfl) (by decide +kernel) (by rfl) (by rfl) (by omega) (by omega) (by omega) (by omega) rfl ?_
  refine jT_xiload (v := (0, 2)) (pcN := 822) jI_379_820 rfl rfl rfl ?_
  refine jT_xicT (pcN := 827) jI_379_822 rfl (by decide +kernel) rfl ?_
  refine jT_xiload (v := (0, 2)) (pcN := 829) jI_379_827 rfl rfl rfl ?_
  refine jT_xifT (pcN := 844) jI_379_829 rfl (by decide +kernel) rfl ?_
  refine jT_xgoto (pcN := 3740) jI_379_844 rfl ?_
  refine jT_xiinc (x := 0) (z := 5) (LN := [(5, (0, 5)), (7, (0, 0)), (6, (0, 2)), (4, (4, 3)), (3, (4, 2)), (2, (4, 1)), (1, (4, 0)), (0, (6, 0))]) (pcN := 3743) jI_379_3740 rfl rfl (by decide) rfl rfl ?_
  refine jT_xgoto (pcN := 28) jI_379_3743 rfl ?_
  refine jT_xiload (v := (0, 5)) (pcN := 30) jI_379_28 rfl rfl rfl ?_
  refine jT_xaload_n (v := (6, 0)) (pcN := 31) jI_379_30 rfl rfl rfl ?_
  refine jT_adv 1 (pcN := 32) (LN := [(5, (0, 5)), (7, (0, 0)), (6, (0, 2)), (4, (4, 3)), (3, (4, 2)), (2, (4, 1)), (1, (4, 0)), (0, (6, 0))]) (stN := [(0, 5), (0, 5)]) (hsN := jpA_607) (c1 := 0) (s1 := 0) (c2 := 0) (s2 := 0) (by exact rfl) ?_ (by omega) (by omega)
  refine jT_xiconst (k := 5) (pcN := 33) jI_379_32 rfl ?_
  refine jT_xisub (x := 5) (y := 5) (z := 0) (pcN := 34) jI_379_33 rfl (by decide) rfl ?_
  refine jT_xicT (pcN := 3746) jI_379_34 rfl (by decide +kernel) rfl ?_
  refine jT_xiconst (k := 1) (pcN := 3747) jI_379_3746 rfl ?_
  exact jT_ret rfl (by decide) (by show 30 ≤ 30; decide) (by omega) (by omega) ⟨rfl, rfl⟩
def jzA_1100 : JC := (13, [(4, 4), (4, 5), (4, 6), (4, 7), (4, 8), (4, 9), (4, 10), (4, 11), (4, 12), (4, 13), (0, 1), (4, 58), (0, 0)], [])
def jzA_1101 : JC := (9, [(4, 57), (4, 33), (4, 34), (4, 35), (4, 36)], [])
def jpA_1102 : List JC := [jzA_1100, jzA_266, (101, [], [0]), jgh, (8, [(4, 30), (4, 31)], []), jgh, jgh, jgh, jgh, jgh, jgh, jgh, jgh, jzA_327, jzA_721, (100, [], jS0), (100, [], []), jzA_722, jzA_197, jgh, (130, [], [45, 46, 47, 48, 49, 50]), (101, [], [0, 0, 0, 0, 0, 0]), jgh, jgh, jgh, jgh, jgh, jgh, jgh, jgh, jgh, jgh, jzA_723, jgh, jgh, jgh, jgh, (100, [], (List.replicate 1613 0)), jgh, jgh, jgh, jgh, jgh, jgh, jgh, (100, [], (jenc (jlg 0))), jgh, jgh, jgh, jgh, jgh, (4, [(4, 52), (1, 1)], []), (101, [], [0, 0, 0, 0, 0, 0]), (101, [], [0, 0, 0, 0, 0, 0]), (4, [(4, 53), (1, 1)], []), (101, [], [0, 0, 0, 0, 0, 0]), (4, [(4, 55), (1, 1)], []), jgh, jzA_1101]
theorem jI_379_832 : jmI (jm 379) 832 = (.aload_n 3, 1) := by rfl
theorem jI_379_833 : jmI (jm 379) 833 = (.iconst 0, 1) := by rfl
theorem jI_379_834 : jmI (jm 379) 834 = (.laload, 1) := by rfl
theorem jI_379_835 : jmI (jm 379) 835 = (.iload 7, 2) := by rfl
theorem jI_379_837 : jmI (jm 379) 837 = (.i2l, 1) := by rfl
theorem jI_379_839 : jmI (jm 379) 839 = (.ifCond .eq 5, 3) := by rfl
set_option maxRecDepth 100000 in
theorem jL_6_3 {d : Nat} {x0 x1 x2 x3 x4 : Int} (h_x0 : (-2147483648) ≤ x0 ∧ x0 ≤ 2147483647) (h_x1 : 1 ≤ x1 ∧ x1 ≤ 1) (h_x2 : 0 ≤ x2 ∧ x2 ≤ 7) (h_x3 : 0 ≤ x3 ∧ x3 ≤ 7) (h_x4 : (-2147483648) ≤ x4 ∧ x4 ≤ 2147483647) : jT [x0, x1, x2, x3, x4] (d + 8) 379 53 767 [(5, (0, 0)), (4, (4, 3)), (3, (4, 2)), (2, (4, 1)), (1, (4, 0)), (0, (6, 0))] [] jpA_724 16 389 (fun k v hsN => k = 0 ∧ v = (0, 1)) := by
  refine jT_xaload_n (v := (4, 0)) (pcN := 768) jI_379_767 rfl rfl rfl ?_
  refine jT_xaload_n (v := (6, 0)) (pcN := 769) jI_379_768 rfl rfl rfl ?_
  refine jT_xiload (v := (0, 0)) (pcN := 771) jI_379_769 rfl rfl rfl ?_
  refine jT_xiconst (k := 1) (pcN := 772) jI_379_771 rfl ?_
  refine jT_xiadd (x := 0) (y := 1) (z := 1) (pcN := 773) jI_379_772 rfl (by decide) rfl ?_
  refine jT_adv 1 (pcN := 774) (LN := [(5, (0, 0)), (4, (4, 3)), (3, (4, 2)), (2, (4, 1)), (1, (4, 0)), (0, (6, 0))]) (stN := [(0, x1), (4, 0)]) (hsN := jpA_724) (c1 := 0) (s1 := 0) (c2 := 16) (s2 := 389) (by exact rfl) ?_ (by omega) (by omega)
  refine jT_eq (LN := [(5, (0, 0)), (4, (4, 3)), (3, (4, 2)), (2, (4, 1)), (1, (4, 0)), (0, (6, 0))]) (stN := [(0, 1), (4, 0)]) (hsN := [jzA_265, jzA_266, (101, [], [0]), jgh, (8, [(4, 30), (4, 31)], []), jgh, jgh, jgh, jgh, jgh, jgh, jgh, jgh, jzA_79, jzA_721, (100, [], jS0), (100, [], []), jzA_722, jzA_197, jgh, (130, [], [45, 46, 47, 48, 49, 50]), (101, [], [0, 0, 0, 0, 0, 0]), jgh, jgh, jgh, jgh, jgh, jgh, jgh, jgh, jgh, jgh, jzA_723, jgh, jgh, jgh, jgh, (100, [], (List.replicate 1613 0)), jgh, jgh, jgh, jgh, jgh, jgh, jgh, (100, [], (jenc (jlg 0))), jgh, jgh, jgh, jgh, jgh, (4, [(4, 52), (1, 1)], []), (101, [], [0, 0, 0, 0, 0, 0])]) (rfl) (by simp only [List.cons.injEq, Prod.mk.injEq, and_true, true_and] <;> ((try unfold jw); (try unfold jwl); omega)) (rfl) ?_
  refine jT_xaload_n (v := (6, 0)) (pcN := 775) jI_379_774 rfl rfl rfl ?_
  refine jT_xiload (v := (0, 0)) (pcN := 777) jI_379_775 rfl rfl rfl ?_
  refine jT_xiconst (k := 2) (pcN := 778) jI_379_777 rfl ?_
  refine jT_xiadd (x := 0) (y := 2) (z := 2) (pcN := 779) jI_379_778 rfl (by decide) rfl ?_
  refine jT_adv 1 (pcN := 780) (LN := [(5, (0, 0)), (4, (4, 3)), (3, (4, 2)), (2, (4, 1)), (1, (4, 0)), (0, (6, 0))]) (stN := [(0, x2), (0, 1), (4, 0)]) (hsN := jpA_724) (c1 := 0) (s1 := 0) (c2 := 16) (s2 := 389) (by exact rfl) ?_ (by omega) (by omega)
  refine jT_xaload_n (v := (6, 0)) (pcN := 781) jI_379_780 rfl rfl rfl ?_
  refine jT_xiload (v := (0, 0)) (pcN := 783) jI_379_781 rfl rfl rfl ?_
  refine jT_xiconst (k := 3) (pcN := 784) jI_379_783 rfl ?_
  refine jT_xiadd (x := 0) (y := 3) (z := 3) (pcN := 785) jI_379_784 rfl (by decide) rfl ?_
  refine jT_adv 1 (pcN := 786) (LN := [(5, (0, 0)), (4, (4, 3)), (3, (4, 2)), (2, (4, 1)), (1, (4, 0)), (0, (6, 0))]) (stN := [(0, x3), (0, x2), (0, 1), (4, 0)]) (hsN := jpA_724) (c1 := 0) (s1 := 0) (c2 := 16) (s2 := 389) (by exact rfl) ?_ (by omega) (by omega)
  refine jT_xaload_n (v := (4, 2)) (pcN := 787) jI_379_786 rfl rfl rfl ?_
  refine jT_fB [0, 2, 4, 5, 6, 7, 8, 9, 10, 11, 12, 13, 14, 30, 31, 32, 33, 34, 35, 36, 51, 52] 53 (y := 332) (pcN := 790) (dC := 5) (bc1 := 6) (bc2 := 29) (c1 := 10) (c2 := 360) (as := [(4, 0), (0, 1), (0, x2), (0, x3), (4, 2)]) (asC := [(4, 0), (0, 1), (0, x2), (0, x3), (4, 1)]) (LN := [(5, (0, 0)), (4, (4, 3)), (3, (4, 2)), (2, (4, 1)), (1, (4, 0)), (0, (6, 0))]) (stN := []) (hsC := jpA_666) (hsD := jpA_980) (v := (0, 0)) (st2 := [(0, 0)]) (hs2 := jpA_1102) (jA_332_226 (d := 0) (by omega) (by omega)) (by rfl) (by rfl) (by decide +kernel) (by rfl) (by rfl) (by omega) (by omega) (by omega) (by omega) rfl (by decide +kernel) ?_
  refine jT_xistore (v := (0, 0)) (LN := [(6, (0, 0)), (5, (0, 0)), (4, (4, 3)), (3, (4, 2)), (2, (4, 1)), (1, (4, 0)), (0, (6, 0))]) (pcN := 792) jI_379_790 rfl rfl rfl rfl ?_
  refine jT_xaload_n (v := (4, 1)) (pcN := 793) jI_379_792 rfl rfl rfl ?_
  refine jT_xaload_n (v := (6, 0)) (pcN := 794) jI_379_793 rfl rfl rfl ?_
  refine jT_xiload (v := (0, 0)) (pcN := 796) jI_379_794 rfl rfl rfl ?_
  refine jT_xiconst (k := 1) (pcN := 797) jI_379_796 rfl ?_
  refine jT_xiadd (x := 0) (y := 1) (z := 1) (pcN := 798) jI_379_797 rfl (by decide) rfl ?_
  refine jT_adv 1 (pcN := 799) (LN := [(6, (0, 0)), (5, (0, 0)), (4, (4, 3)), (3, (4, 2)), (2, (4, 1)), (1, (4, 0)), (0, (6, 0))]) (stN := [(0, x1), (4, 1)]) (hsN := jpA_1102) (c1 := 0) (s1 := 0) (c2 := 10) (s2 := 360) (by exact rfl) ?_ (by omega) (by omega)
  refine jT_eq (LN := [(6, (0, 0)), (5, (0, 0)), (4, (4, 3)), (3, (4, 2)), (2, (4, 1)), (1, (4, 0)), (0, (6, 0))]) (stN := [(0, 1), (4, 1)]) (hsN := [jzA_1100, jzA_266, (101, [], [0]), jgh, (8, [(4, 30), (4, 31)], []), jgh, jgh, jgh, jgh, jgh, jgh, jgh, jgh, jzA_327, jzA_721, (100, [], jS0), (100, [], []), jzA_722, jzA_197, jgh, (130, [], [45, 46, 47, 48, 49, 50]), (101, [], [0, 0, 0, 0, 0, 0]), jgh, jgh, jgh, jgh, jgh, jgh, jgh, jgh, jgh, jgh, jzA_723, jgh, jgh, jgh, jgh, (100, [], (List.replicate 1613 0)), jgh, jgh, jgh, jgh, jgh, jgh, jgh, (100, [], (jenc (jlg 0))), jgh, jgh, jgh, jgh, jgh, (4, [(4, 52), (1, 1)], []), (101, [], [0, 0, 0, 0, 0, 0]), (101, [], [0, 0, 0, 0, 0, 0]), (4, [(4, 53), (1, 1)], []), (101, [], [0, 0, 0, 0, 0, 0]), (4, [(4, 55), (1, 1)], []), jgh, jzA_1101]) (rfl) (by simp only [List.cons.injEq, Prod.mk.injEq, and_true, true_and] <;> ((try unfold jw); (try unfold jwl); omega)) (rfl) ?_
  refine jT_xaload_n (v := (6, 0)) (pcN := 800) jI_379_799 rfl rfl rfl ?_
  refine jT_xiload (v := (0, 0)) (pcN := 802) jI_379_800 rfl rfl rfl ?_
  refine jT_xiconst (k := 2) (pcN := 803) jI_379_802 rfl ?_
  refine jT_xiadd (x := 0) (y := 2) (z := 2) (pcN := 804) jI_379_803 rfl (by decide) rfl ?_
  refine jT_adv 1 (pcN := 805) (LN := [(6, (0, 0)), (5, (0, 0)), (4, (4, 3)), (3, (4, 2)), (2, (4, 1)), (1, (4, 0)), (0, (6, 0))]) (stN := [(0, x2), (0, 1), (4, 1)]) (hsN := jpA_1102) (c1 := 0) (s1 := 0) (c2 := 10) (s2 := 360) (by exact rfl) ?_ (by omega) (by omega)
  refine jT_xaload_n (v := (6, 0)) (pcN := 806) jI_379_805 rfl rfl rfl ?_
  refine jT_xiload (v := (0, 0)) (pcN := 808) jI_379_806 rfl rfl rfl ?_
  refine jT_xiconst (k := 3) (pcN := 809) jI_379_808 rfl ?_
  refine jT_xiadd (x := 0) (y := 3) (z := 3) (pcN := 810) jI_379_809 rfl (by decide) rfl ?_
  refine jT_adv 1 (pcN := 811) (LN := [(6, (0, 0)), (5, (0, 0)), (4, (4, 3)), (3, (4, 2)), (2, (4, 1)), (1, (4, 0)), (0, (6, 0))]) (stN := [(0, x3), (0, x2), (0, 1), (4, 1)]) (hsN := jpA_1102) (c1 := 0) (s1 := 0) (c2 := 10) (s2 := 360) (by exact rfl) ?_ (by omega) (by omega)
  refine jT_fB [1, 15, 16, 17, 18, 19, 20, 21, 22, 23, 24, 25, 26, 27, 28, 29, 37, 38, 39, 40, 41, 42, 43, 44, 45, 46, 47, 48, 49, 50] 59 (y := 217) (pcN := 814) (dC := 7) (bc1 := 10) (bc2 := 360) (c1 := 0) (c2 := 0) (as := [(4, 1), (0, 1), (0, x2), (0, x3)]) (asC := [(4, 0), (0, 1), (0, x2), (0, x3)]) (LN := [(6, (0, 0)), (5, (0, 0)), (4, (4, 3)), (3, (4, 2)), (2, (4, 1)), (1, (4, 0)), (0, (6, 0))]) (stN := []) (hsC := jpA_701) (hsD := [jzA_200, (100, [], ((((((((((((((jS0).set ((7 * x3).toNat) 0)).set ((7 * x3 + 1).toNat) 0)).set ((7 * x3 + 2).toNat) 0)).set ((7 * x3 + 3).toNat) 0)).set ((7 * x3 + 4).toNat) 0)).set ((7 * x3 + 5).toNat) 0)).set ((7 * x3 + 6).toNat) 1)), (100, [], []), jzA_196, jzA_201, jgh, (130, [], [24, 25, 26, 27, 28, 29]), (101, [], [0, 0, 0, 0, 0, 0]), jgh, jgh, jgh, jgh, jgh, jgh, jgh, jgh, (100, [], jS0), jgh, jgh, jgh, jgh, jgh, jgh, jgh, (100, [], (jenc (jlg 0))), jgh, jgh, jgh, jgh, jgh, (101, [], [0, 0, 0, 0, 0, 0]), (101, [], [1, 0, 0, 0, 0, 0]), (101, [], [1, 0, 0, 0, 0, 0]), (100, [], (jenc 0)), (100, [], (jenc 1)), (100, [], (jenc (1 * (jlg 0)))), (101, [], [(-1), 0, 0, 0, 0, 0]), (100, [], (jenc 0)), (100, [], (jenc (-1))), (100, [], (jenc ((-1) * (jlg 0))))]) (v := (0, 0)) (st2 := [(0, 0)]) (hs2 := [jzA_1100, jzA_330, (101, [], [0]), jgh, (8, [(4, 30), (4, 31)], []), jgh, jgh, jgh, jgh, jgh, jgh, jgh, jgh, jzA_327, jzA_721, (100, [], ((((((((((((((jS0).set ((7 * x3).toNat) 0)).set ((7 * x3 + 1).toNat) 0)).set ((7 * x3 + 2).toNat) 0)).set ((7 * x3 + 3).toNat) 0)).set ((7 * x3 + 4).toNat) 0)).set ((7 * x3 + 5).toNat) 0)).set ((7 * x3 + 6).toNat) 1)), (100, [], []), jzA_722, jzA_331, jgh, (130, [], [45, 46, 47, 48, 49, 50]), (101, [], [0, 0, 0, 0, 0, 0]), jgh, jgh, jgh, jgh, jgh, jgh, jgh, jgh, jgh, jgh, jzA_723, jgh, jgh, jgh, jgh, (100, [], jS0), jgh, jgh, jgh, jgh, jgh, jgh, jgh, (100, [], (jenc (jlg 0))), jgh, jgh, jgh, jgh, jgh, (4, [(4, 52), (1, 1)], []), (101, [], [0, 0, 0, 0, 0, 0]), (101, [], [0, 0, 0, 0, 0, 0]), (4, [(4, 53), (1, 1)], []), (101, [], [0, 0, 0, 0, 0, 0]), (4, [(4, 55), (1, 1)], []), jgh, jzA_1101, (101, [], [0, 0, 0, 0, 0, 0]), (101, [], [1, 0, 0, 0, 0, 0]), (101, [], [1, 0, 0, 0, 0, 0]), (100, [], (jenc 0)), (100, [], (jenc 1)), (100, [], (jenc (1 * (jlg 0)))), (101, [], [(-1), 0, 0, 0, 0, 0]), (100, [], (jenc 0)), (100, [], (jenc (-1))), (100, [], (jenc ((-1) * (jlg 0))))]) (jA_217_229 (d := 0) (by omega) (by omega)) (by rfl) (by rfl) (by decide +kernel) (by rfl) (by rfl) (by omega) (by omega) (by omega) (by omega) rfl rfl ?_
  refine jT_xistore (v := (0, 0)) (LN := [(7, (0, 0)), (6, (0, 0)), (5, (0, 0)), (4, (4, 3)), (3, (4, 2)), (2, (4, 1)), (1, (4, 0)), (0, (6, 0))]) (pcN := 816) jI_379_814 rfl rfl rfl rfl ?_
  refine jT_xaload_n (v := (4, 1)) (pcN := 817) jI_379_816 rfl rfl rfl ?_
  refine jT_callA [1, 15, 16, 17, 18, 19, 20, 21, 22, 23, 24, 25, 26, 27, 28, 29] (y := 186) (pcN := 820) (dC := 0) (bc1 := 0) (bc2 := 0) (c1 := 0) (c2 := 0) (as := [(4, 1)]) (asC := [(4, 0)]) (LN := [(7, (0, 0)), (6, (0, 0)), (5, (0, 0)), (4, (4, 3)), (3, (4, 2)), (2, (4, 1)), (1, (4, 0)), (0, (6, 0))]) (stN := []) (hsC := jpA_258) (ex := []) (v := (0, 0)) (st2 := [(0, 0)]) (hs2 := [jzA_1100, jzA_330, (101, [], [0]), jgh, (8, [(4, 30), (4, 31)], []), jgh, jgh, jgh, jgh, jgh, jgh, jgh, jgh, jzA_327, jzA_721, (100, [], ((((((((((((((jS0).set ((7 * x3).toNat) 0)).set ((7 * x3 + 1).toNat) 0)).set ((7 * x3 + 2).toNat) 0)).set ((7 * x3 + 3).toNat) 0)).set ((7 * x3 + 4).toNat) 0)).set ((7 * x3 + 5).toNat) 0)).set ((7 * x3 + 6).toNat) 1)), (100, [], []), jzA_722, jzA_331, jgh, (130, [], [45, 46, 47, 48, 49, 50]), (101, [], [0, 0, 0, 0, 0, 0]), jgh, jgh, jgh, jgh, jgh, jgh, jgh, jgh, jgh, jgh, jzA_723, jgh, jgh, jgh, jgh, (100, [], jS0), jgh, jgh, jgh, jgh, jgh, jgh, jgh, (100, [], (jenc (jlg 0))), jgh, jgh, jgh, jgh, jgh, (4, [(4, 52), (1, 1)], []), (101, [], [0, 0, 0, 0, 0, 0]), (101, [], [0, 0, 0, 0, 0, 0]), (4, [(4, 53), (1, 1)], []), (101, [], [0, 0, 0, 0, 0, 0]), (4, [(4, 55), (1, 1)], []), jgh, jzA_1101, (101, [], [0, 0, 0, 0, 0, 0]), (101, [], [1, 0, 0, 0, 0, 0]), (101, [], [1, 0, 0, 0, 0, 0]), (100, [], (jenc 0)), (100, [], (jenc 1)), (100, [], (jenc (1 * (jlg 0)))), (101, [], [(-1), 0, 0, 0, 0, 0]), (100, [], (jenc 0)), (100, [], (jenc (-1))), (100, [], (jenc ((-1) * (jlg 0))))]) (jA_186_54 (d := 0)) (by rfl) (by rfl) (by rfl) (by rfl) ⟨rfl, rfl, rfl, rfl, rfl, rfl, rfl, rfl, rfl, rfl, rfl, rfl, rfl, rfl, rfl, rfl, trivial⟩ (by rfl) (by rfl) (by omega) (by show 53 ≤ 69; omega) (by omega) (by omega) rfl rfl ?_
  refine jT_xiload (v := (0, 0)) (pcN := 822) jI_379_820 rfl rfl rfl ?_
  refine jT_xicT (pcN := 827) jI_379_822 rfl (by decide +kernel) rfl ?_
  refine jT_xiload (v := (0, 0)) (pcN := 829) jI_379_827 rfl rfl rfl ?_
  refine jT_xifF (t := 844) (pcN := 832) jI_379_829 rfl (by decide +kernel) rfl rfl ?_
  refine jT_xaload_n (v := (4, 2)) (pcN := 833) jI_379_832 rfl rfl rfl ?_
  refine jT_xiconst (k := 0) (pcN := 834) jI_379_833 rfl ?_
  refine jT_lald (x := 0) (a := 2) (j := 0) (fs := []) (X := [0]) jI_379_834 rfl rfl rfl rfl ?_
  refine jT_eq (LN := [(7, (0, 0)), (6, (0, 0)), (5, (0, 0)), (4, (4, 3)), (3, (4, 2)), (2, (4, 1)), (1, (4, 0)), (0, (6, 0))]) (stN := [(1, 0)]) (hsN := [jzA_1100, jzA_330, (101, [], [0]), jgh, (8, [(4, 30), (4, 31)], []), jgh, jgh, jgh, jgh, jgh, jgh, jgh, jgh, jzA_327, jzA_721, (100, [], ((((((((((((((jS0).set ((7 * x3).toNat) 0)).set ((7 * x3 + 1).toNat) 0)).set ((7 * x3 + 2).toNat) 0)).set ((7 * x3 + 3).toNat) 0)).set ((7 * x3 + 4).toNat) 0)).set ((7 * x3 + 5).toNat) 0)).set ((7 * x3 + 6).toNat) 1)), (100, [], []), jzA_722, jzA_331, jgh, (130, [], [45, 46, 47, 48, 49, 50]), (101, [], [0, 0, 0, 0, 0, 0]), jgh, jgh, jgh, jgh, jgh, jgh, jgh, jgh, jgh, jgh, jzA_723, jgh, jgh, jgh, jgh, (100, [], jS0), jgh, jgh, jgh, jgh, jgh, jgh, jgh, (100, [], (jenc (jlg 0))), jgh, jgh, jgh, jgh, jgh, (4, [(4, 52), (1, 1)], []), (101, [], [0, 0, 0, 0, 0, 0]), (101, [], [0, 0, 0, 0, 0, 0]), (4, [(4, 53), (1, 1)], []), (101, [], [0, 0, 0, 0, 0, 0]), (4, [(4, 55), (1, 1)], []), jgh, jzA_1101, (101, [], [0, 0, 0, 0, 0, 0]), (101, [], [1, 0, 0, 0, 0, 0]), (101, [], [1, 0, 0, 0, 0, 0]), (100, [], (jenc 0)), (100, [], (jenc 1)), (100, [], (jenc (1 * (jlg 0)))), (101, [], [(-1), 0, 0, 0, 0, 0]), (100, [], (jenc 0)), (100, [], (jenc (-1))), (100, [], (jenc ((-1) * (jlg 0))))]) rfl rfl rfl ?_
  refine jT_xiload (v := (0, 0)) (pcN := 837) jI_379_835 rfl rfl rfl ?_
  refine jT_xi2l (x := 0) (z := 0) (pcN := 838) jI_379_837 rfl (by decide +kernel) rfl ?_
  refine jT_lcmp (a := 0) (b := 0) (z := 0) (by rfl) (by rfl) (by decide +kernel) (by decide +kernel) (by decide) ?_
  refine jT_xifT (pcN := 844) jI_379_839 rfl (by decide +kernel) rfl ?_
  refine jT_xgoto (pcN := 3740) jI_379_844 rfl ?_
  refine jT_xiinc (x := 0) (z := 5) (LN := [(5, (0, 5)), (7, (0, 0)), (6, (0, 0)), (4, (4, 3)), (3, (4, 2)), (2, (4, 1)), (1, (4, 0)), (0, (6, 0))]) (pcN := 3743) jI_379_3740 rfl rfl (by decide) rfl rfl ?_
  refine jT_xgoto (pcN := 28) jI_379_3743 rfl ?_
  refine jT_xiload (v := (0, 5)) (pcN := 30) jI_379_28 rfl rfl rfl ?_
  refine jT_xaload_n (v := (6, 0)) (pcN := 31) jI_379_30 rfl rfl rfl ?_
  refine jT_adv 1 (pcN := 32) (LN := [(5, (0, 5)), (7, (0, 0)), (6, (0, 0)), (4, (4, 3)), (3, (4, 2)), (2, (4, 1)), (1, (4, 0)), (0, (6, 0))]) (stN := [(0, 5), (0, 5)]) (hsN := [jzA_1100, jzA_330, (101, [], [0]), jgh, (8, [(4, 30), (4, 31)], []), jgh, jgh, jgh, jgh, jgh, jgh, jgh, jgh, jzA_327, jzA_721, (100, [], ((((((((((((((jS0).set ((7 * x3).toNat) 0)).set ((7 * x3 + 1).toNat) 0)).set ((7 * x3 + 2).toNat) 0)).set ((7 * x3 + 3).toNat) 0)).set ((7 * x3 + 4).toNat) 0)).set ((7 * x3 + 5).toNat) 0)).set ((7 * x3 + 6).toNat) 1)), (100, [], []), jzA_722, jzA_331, jgh, (130, [], [45, 46, 47, 48, 49, 50]), (101, [], [0, 0, 0, 0, 0, 0]), jgh, jgh, jgh, jgh, jgh, jgh, jgh, jgh, jgh, jgh, jzA_723, jgh, jgh, jgh, jgh, (100, [], jS0), jgh, jgh, jgh, jgh, jgh, jgh, jgh, (100, [], (jenc (jlg 0))), jgh, jgh, jgh, jgh, jgh, (4, [(4, 52), (1, 1)], []), (101, [], [0, 0, 0, 0, 0, 0]), (101, [], [0, 0, 0, 0, 0, 0]), (4, [(4, 53), (1, 1)], []), (101, [], [0, 0, 0, 0, 0, 0]), (4, [(4, 55), (1, 1)], []), jgh, jzA_1101, (101, [], [0, 0, 0, 0, 0, 0]), (101, [], [1, 0, 0, 0, 0, 0]), (101, [], [1, 0, 0, 0, 0, 0]), (100, [], (jenc 0)), (100, [], (jenc 1)), (100, [], (jenc (1 * (jlg 0)))), (101, [], [(-1), 0, 0, 0, 0, 0]), (100, [], (jenc 0)), (100, [], (jenc (-1))), (100, [], (jenc ((-1) * (jlg 0))))]) (c1 := 0) (s1 := 0) (c2 := 0) (s2 := 0) (by exact rfl) ?_ (by omega) (by omega)
  refine jT_xiconst (k := 5) (pcN := 33) jI_379_32 rfl ?_
  refine jT_xisub (x := 5) (y := 5) (z := 0) (pcN := 34) jI_379_33 rfl (by decide) rfl ?_
  refine jT_xicT (pcN := 3746) jI_379_34 rfl (by decide +kernel) rfl ?_
  refine jT_xiconst (k := 1) (pcN := 3747) jI_379_3746 rfl ?_
  exact jT_ret rfl (by decide) (by show 53 ≤ 69; decide) (by omega) (by omega) ⟨rfl, rfl⟩
set_option maxRecDepth 100000 in
theorem jL_6_4 {d : Nat} {x0 x1 x2 x3 x4 : Int} (h_x0 : (-2147483648) ≤ x0 ∧ x0 ≤ 2147483647) (h_x1 : 2 ≤ x1 ∧ x1 ≤ 24) (h_x2 : 0 ≤ x2 ∧ x2 ≤ 7) (h_x3 : 0 ≤ x3 ∧ x3 ≤ 7) (h_x4 : (-2147483648) ≤ x4 ∧ x4 ≤ 2147483647) : jT [x0, x1, x2, x3, x4] (d + 8) 379 53 767 [(5, (0, 0)), (4, (4, 3)), (3, (4, 2)), (2, (4, 1)), (1, (4, 0)), (0, (6, 0))] [] jpA_724 16 389 (fun k v hsN => k = 0 ∧ v = (0, 1)) := by
  refine jT_xaload_n (v := (4, 0)) (pcN := 768) jI_379_767 rfl rfl rfl ?_
  refine jT_xaload_n (v := (6, 0)) (pcN := 769) jI_379_768 rfl rfl rfl ?_
  refine jT_xiload (v := (0, 0)) (pcN := 771) jI_379_769 rfl rfl rfl ?_
  refine jT_xiconst (k := 1) (pcN := 772) jI_379_771 rfl ?_
  refine jT_xiadd (x := 0) (y := 1) (z := 1) (pcN := 773) jI_379_772 rfl (by decide) rfl ?_
  refine jT_adv 1 (pcN := 774) (LN := [(5, (0, 0)), (4, (4, 3)), (3, (4, 2)), (2, (4, 1)), (1, (4, 0)), (0, (6, 0))]) (stN := [(0, x1), (4, 0)]) (hsN := jpA_724) (c1 := 0) (s1 := 0) (c2 := 16) (s2 := 389) (by exact rfl) ?_ (by omega) (by omega)
  refine jT_xaload_n (v := (6, 0)) (pcN := 775) jI_379_774 rfl rfl rfl ?_
  refine jT_xiload (v := (0, 0)) (pcN := 777) jI_379_775 rfl rfl rfl ?_
  refine jT_xiconst (k := 2) (pcN := 778) jI_379_777 rfl ?_
  refine jT_xiadd (x := 0) (y := 2) (z := 2) (pcN := 779) jI_379_778 rfl (by decide) rfl ?_
  refine jT_adv 1 (pcN := 780) (LN := [(5, (0, 0)), (4, (4, 3)), (3, (4, 2)), (2, (4, 1)), (1, (4, 0)), (0, (6, 0))]) (stN := [(0, x2), (0, x1), (4, 0)]) (hsN := jpA_724) (c1 := 0) (s1 := 0) (c2 := 16) (s2 := 389) (by exact rfl) ?_ (by omega) (by omega)
  refine jT_xaload_n (v := (6, 0)) (pcN := 781) jI_379_780 rfl rfl rfl ?_
  refine jT_xiload (v := (0, 0)) (pcN := 783) jI_379_781 rfl rfl rfl ?_
  refine jT_xiconst (k := 3) (pcN := 784) jI_379_783 rfl ?_
  refine jT_xiadd (x := 0) (y := 3) (z := 3) (pcN := 785) jI_379_784 rfl (by decide) rfl ?_
  refine jT_adv 1 (pcN := 786) (LN := [(5, (0, 0)), (4, (4, 3)), (3, (4, 2)), (2, (4, 1)), (1, (4, 0)), (0, (6, 0))]) (stN := [(0, x3), (0, x2), (0, x1), (4, 0)]) (hsN := jpA_724) (c1 := 0) (s1 := 0) (c2 := 16) (s2 := 389) (by exact rfl) ?_ (by omega) (by omega)
  refine jT_xaload_n (v := (4, 2)) (pcN := 787) jI_379_786 rfl rfl rfl ?_
  refine jT_fB [0, 2, 4, 5, 6, 7, 8, 9, 10, 11, 12, 13, 14, 30, 31, 32, 33, 34, 35, 36, 51, 52] 53 (y := 332) (pcN := 790) (dC := 5) (bc1 := 6) (bc2 := 29) (c1 := 10) (c2 := 360) (as := [(4, 0), (0, x1), (0, x2), (0, x3), (4, 2)]) (asC := [(4, 0), (0, x1), (0, x2), (0, x3), (4, 1)]) (LN := [(5, (0, 0)), (4, (4, 3)), (3, (4, 2)), (2, (4, 1)), (1, (4, 0)), (0, (6, 0))]) (stN := []) (hsC := jpA_666) (hsD := jpA_980) (v := (0, 0)) (st2 := [(0, 0)]) (hs2 := jpA_1102) (jA_332_239 (d := 0) (by omega) (by omega) (by omega)) (by rfl) (by rfl) (by decide +kernel) (by rfl) (by rfl) (by omega) (by omega) (by omega) (by omega) rfl (by decide +kernel) ?_
  refine jT_xistore (v := (0, 0)) (LN := [(6, (0, 0)), (5, (0, 0)), (4, (4, 3)), (3, (4, 2)), (2, (4, 1)), (1, (4, 0)), (0, (6, 0))]) (pcN := 792) jI_379_790 rfl rfl rfl rfl ?_
  refine jT_xaload_n (v := (4, 1)) (pcN := 793) jI_379_792 rfl rfl rfl ?_
  refine jT_xaload_n (v := (6, 0)) (pcN := 794) jI_379_793 rfl rfl rfl ?_
  refine jT_xiload (v := (0, 0)) (pcN := 796) jI_379_794 rfl rfl rfl ?_
  refine jT_xiconst (k := 1) (pcN := 797) jI_379_796 rfl ?_
  refine jT_xiadd (x := 0) (y := 1) (z := 1) (pcN := 798) jI_379_797 rfl (by decide) rfl ?_
  refine jT_adv 1 (pcN := 799) (LN := [(6, (0, 0)), (5, (0, 0)), (4, (4, 3)), (3, (4, 2)), (2, (4, 1)), (1, (4, 0)), (0, (6, 0))]) (stN := [(0, x1), (4, 1)]) (hsN := jpA_1102) (c1 := 0) (s1 := 0) (c2 := 10) (s2 := 360) (by exact rfl) ?_ (by omega) (by omega)
  refine jT_xaload_n (v := (6, 0)) (pcN := 800) jI_379_799 rfl rfl rfl ?_
  refine jT_xiload (v := (0, 0)) (pcN := 802) jI_379_800 rfl rfl rfl ?_
  refine jT_xiconst (k := 2) (pcN := 803) jI_379_802 rfl ?_
  refine jT_xiadd (x := 0) (y := 2) (z := 2) (pcN := 804) jI_379_803 rfl (by decide) rfl ?_
  refine jT_adv 1 (pcN := 805) (LN := [(6, (0, 0)), (5, (0, 0)), (4, (4, 3)), (3, (4, 2)), (2, (4, 1)), (1, (4, 0)), (0, (6, 0))]) (stN := [(0, x2), (0, x1), (4, 1)]) (hsN := jpA_1102) (c1 := 0) (s1 := 0) (c2 := 10) (s2 := 360) (by exact rfl) ?_ (by omega) (by omega)
  refine jT_xaload_n (v := (6, 0)) (pcN := 806) jI_379_805 rfl rfl rfl ?_
  refine jT_xiload (v := (0, 0)) (pcN := 808) jI_379_806 rfl rfl rfl ?_
  refine jT_xiconst (k := 3) (pcN := 809) jI_379_808 rfl ?_
  refine jT_xiadd (x := 0) (y := 3) (z := 3) (pcN := 810) jI_379_809 rfl (by decide) rfl ?_
  refine jT_adv 1 (pcN := 811) (LN := [(6, (0, 0)), (5, (0, 0)), (4, (4, 3)), (3, (4, 2)), (2, (4, 1)), (1, (4, 0)), (0, (6, 0))]) (stN := [(0, x3), (0, x2), (0, x1), (4, 1)]) (hsN := jpA_1102) (c1 := 0) (s1 := 0) (c2 := 10) (s2 := 360) (by exact rfl) ?_ (by omega) (by omega)
  refine jT_fB [1, 15, 16, 17, 18, 19, 20, 21, 22, 23, 24, 25, 26, 27, 28, 29, 37, 38, 39, 40, 41, 42, 43, 44, 45, 46, 47, 48, 49, 50] 59 (y := 217) (pcN := 814) (dC := 7) (bc1 := 10) (bc2 := 360) (c1 := 0) (c2 := 0) (as := [(4, 1), (0, x1), (0, x2), (0, x3)]) (asC := [(4, 0), (0, x1), (0, x2), (0, x3)]) (LN := [(6, (0, 0)), (5, (0, 0)), (4, (4, 3)), (3, (4, 2)), (2, (4, 1)), (1, (4, 0)), (0, (6, 0))]) (stN := []) (hsC := jpA_701) (hsD := [jzA_200, (100, [], ((((((((((((((jS0).set ((7 * x3).toNat) 0)).set ((7 * x3 + 1).toNat) 0)).set ((7 * x3 + 2).toNat) 0)).set ((7 * x3 + 3).toNat) 0)).set ((7 * x3 + 4).toNat) 0)).set ((7 * x3 + 5).toNat) 0)).set ((7 * x3 + 6).toNat) 1)), (100, [], []), jzA_196, jzA_201, jgh, (130, [], [24, 25, 26, 27, 28, 29]), (101, [], [0, 0, 0, 0, 0, 0]), jgh, jgh, jgh, jgh, jgh, jgh, jgh, jgh, (100, [], jS0), jgh, jgh, jgh, jgh, jgh, jgh, jgh, (100, [], (jenc (jlg 0))), jgh, jgh, jgh, jgh, jgh, (101, [], [0, 0, 0, 0, 0, 0]), (101, [], [1, 0, 0, 0, 0, 0]), (101, [], [1, 0, 0, 0, 0, 0]), (100, [], (jenc 0)), (100, [], (jenc 1)), (100, [], (jenc (1 * (jlg 0)))), (101, [], [(-1), 0, 0, 0, 0, 0]), (100, [], (jenc 0)), (100, [], (jenc (-1))), (100, [], (jenc ((-1) * (jlg 0))))]) (v := (0, 0)) (st2 := [(0, 0)]) (hs2 := [jzA_1100, jzA_330, (101, [], [0]), jgh, (8, [(4, 30), (4, 31)], []), jgh, jgh, jgh, jgh, jgh, jgh, jgh, jgh, jzA_327, jzA_721, (100, [], ((((((((((((((jS0).set ((7 * x3).toNat) 0)).set ((7 * x3 + 1).toNat) 0)).set ((7 * x3 + 2).toNat) 0)).set ((7 * x3 + 3).toNat) 0)).set ((7 * x3 + 4).toNat) 0)).set ((7 * x3 + 5).toNat) 0)).set ((7 * x3 + 6).toNat) 1)), (100, [], []), jzA_722, jzA_331, jgh, (130, [], [45, 46, 47, 48, 49, 50]), (101, [], [0, 0, 0, 0, 0, 0]), jgh, jgh, jgh, jgh, jgh, jgh, jgh, jgh, jgh, jgh, jzA_723, jgh, jgh, jgh, jgh, (100, [], jS0), jgh, jgh, jgh, jgh, jgh, jgh, jgh, (100, [], (jenc (jlg 0))), jgh, jgh, jgh, jgh, jgh, (4, [(4, 52), (1, 1)], []), (101, [], [0, 0, 0, 0, 0, 0]), (101, [], [0, 0, 0, 0, 0, 0]), (4, [(4, 53), (1, 1)], []), (101, [], [0, 0, 0, 0, 0, 0]), (4, [(4, 55), (1, 1)], []), jgh, jzA_1101, (101, [], [0, 0, 0, 0, 0, 0]), (101, [], [1, 0, 0, 0, 0, 0]), (101, [], [1, 0, 0, 0, 0, 0]), (100, [], (jenc 0)), (100, [], (jenc 1)), (100, [], (jenc (1 * (jlg 0)))), (101, [], [(-1), 0, 0, 0, 0, 0]), (100, [], (jenc 0)), (100, [], (jenc (-1))), (100, [], (jenc ((-1) * (jlg 0))))]) (jA_217_243 (d := 0) (by omega) (by omega) (by omega)) (by rfl) (by rfl) (by decide +kernel) (by rfl) (by rfl) (by omega) (by omega) (by omega) (by omega) rfl rfl ?_
  refine jT_xistore (v := (0, 0)) (LN := [(7, (0, 0)), (6, (0, 0)), (5, (0, 0)), (4, (4, 3)), (3, (4, 2)), (2, (4, 1)), (1, (4, 0)), (0, (6, 0))]) (pcN := 816) jI_379_814 rfl rfl rfl rfl ?_
  refine jT_xaload_n (v := (4, 1)) (pcN := 817) jI_379_816 rfl rfl rfl ?_
  refine jT_callA [1, 15, 16, 17, 18, 19, 20, 21, 22, 23, 24, 25, 26, 27, 28, 29] (y := 186) (pcN := 820) (dC := 0) (bc1 := 0) (bc2 := 0) (c1 := 0) (c2 := 0) (as := [(4, 1)]) (asC := [(4, 0)]) (LN := [(7, (0, 0)), (6, (0, 0)), (5, (0, 0)), (4, (4, 3)), (3, (4, 2)), (2, (4, 1)), (1, (4, 0)), (0, (6, 0))]) (stN := []) (hsC := jpA_258) (ex := []) (v := (0, 0)) (st2 := [(0, 0)]) (hs2 := [jzA_1100, jzA_330, (101, [], [0]), jgh, (8, [(4, 30), (4, 31)], []), jgh, jgh, jgh, jgh, jgh, jgh, jgh, jgh, jzA_327, jzA_721, (100, [], ((((((((((((((jS0).set ((7 * x3).toNat) 0)).set ((7 * x3 + 1).toNat) 0)).set ((7 * x3 + 2).toNat) 0)).set ((7 * x3 + 3).toNat) 0)).set ((7 * x3 + 4).toNat) 0)).set ((7 * x3 + 5).toNat) 0)).set ((7 * x3 + 6).toNat) 1)), (100, [], []), jzA_722, jzA_331, jgh, (130, [], [45, 46, 47, 48, 49, 50]), (101, [], [0, 0, 0, 0, 0, 0]), jgh, jgh, jgh, jgh, jgh, jgh, jgh, jgh, jgh, jgh, jzA_723, jgh, jgh, jgh, jgh, (100, [], jS0), jgh, jgh, jgh, jgh, jgh, jgh, jgh, (100, [], (jenc (jlg 0))), jgh, jgh, jgh, jgh, jgh, (4, [(4, 52), (1, 1)], []), (101, [], [0, 0, 0, 0, 0, 0]), (101, [], [0, 0, 0, 0, 0, 0]), (4, [(4, 53), (1, 1)], []), (101, [], [0, 0, 0, 0, 0, 0]), (4, [(4, 55), (1, 1)], []), jgh, jzA_1101, (101, [], [0, 0, 0, 0, 0, 0]), (101, [], [1, 0, 0, 0, 0, 0]), (101, [], [1, 0, 0, 0, 0, 0]), (100, [], (jenc 0)), (100, [], (jenc 1)), (100, [], (jenc (1 * (jlg 0)))), (101, [], [(-1), 0, 0, 0, 0, 0]), (100, [], (jenc 0)), (100, [], (jenc (-1))), (100, [], (jenc ((-1) * (jlg 0))))]) (jA_186_54 (d := 0)) (by rfl) (by rfl) (by rfl) (by rfl) ⟨rfl, rfl, rfl, rfl, rfl, rfl, rfl, rfl, rfl, rfl, rfl, rfl, rfl, rfl, rfl, rfl, trivial⟩ (by rfl) (by rfl) (by omega) (by show 53 ≤ 69; omega) (by omega) (by omega) rfl rfl ?_
  refine jT_xiload (v := (0, 0)) (pcN := 822) jI_379_820 rfl rfl rfl ?_
  refine jT_xicT (pcN := 827) jI_379_822 rfl (by decide +kernel) rfl ?_
  refine jT_xiload (v := (0, 0)) (pcN := 829) jI_379_827 rfl rfl rfl ?_
  refine jT_xifF (t := 844) (pcN := 832) jI_379_829 rfl (by decide +kernel) rfl rfl ?_
  refine jT_xaload_n (v := (4, 2)) (pcN := 833) jI_379_832 rfl rfl rfl ?_
  refine jT_xiconst (k := 0) (pcN := 834) jI_379_833 rfl ?_
  refine jT_lald (x := 0) (a := 2) (j := 0) (fs := []) (X := [0]) jI_379_834 rfl rfl rfl rfl ?_
  refine jT_eq (LN := [(7, (0, 0)), (6, (0, 0)), (5, (0, 0)), (4, (4, 3)), (3, (4, 2)), (2, (4, 1)), (1, (4, 0)), (0, (6, 0))]) (stN := [(1, 0)]) (hsN := [jzA_1100, jzA_330, (101, [], [0]), jgh, (8, [(4, 30), (4, 31)], []), jgh, jgh, jgh, jgh, jgh, jgh, jgh, jgh, jzA_327, jzA_721, (100, [], ((((((((((((((jS0).set ((7 * x3).toNat) 0)).set ((7 * x3 + 1).toNat) 0)).set ((7 * x3 + 2).toNat) 0)).set ((7 * x3 + 3).toNat) 0)).set ((7 * x3 + 4).toNat) 0)).set ((7 * x3 + 5).toNat) 0)).set ((7 * x3 + 6).toNat) 1)), (100, [], []), jzA_722, jzA_331, jgh, (130, [], [45, 46, 47, 48, 49, 50]), (101, [], [0, 0, 0, 0, 0, 0]), jgh, jgh, jgh, jgh, jgh, jgh, jgh, jgh, jgh, jgh, jzA_723, jgh, jgh, jgh, jgh, (100, [], jS0), jgh, jgh, jgh, jgh, jgh, jgh, jgh, (100, [], (jenc (jlg 0))), jgh, jgh, jgh, jgh, jgh, (4, [(4, 52), (1, 1)], []), (101, [], [0, 0, 0, 0, 0, 0]), (101, [], [0, 0, 0, 0, 0, 0]), (4, [(4, 53), (1, 1)], []), (101, [], [0, 0, 0, 0, 0, 0]), (4, [(4, 55), (1, 1)], []), jgh, jzA_1101, (101, [], [0, 0, 0, 0, 0, 0]), (101, [], [1, 0, 0, 0, 0, 0]), (101, [], [1, 0, 0, 0, 0, 0]), (100, [], (jenc 0)), (100, [], (jenc 1)), (100, [], (jenc (1 * (jlg 0)))), (101, [], [(-1), 0, 0, 0, 0, 0]), (100, [], (jenc 0)), (100, [], (jenc (-1))), (100, [], (jenc ((-1) * (jlg 0))))]) rfl rfl rfl ?_
  refine jT_xiload (v := (0, 0)) (pcN := 837) jI_379_835 rfl rfl rfl ?_
  refine jT_xi2l (x := 0) (z := 0) (pcN := 838) jI_379_837 rfl (by decide +kernel) rfl ?_
  refine jT_lcmp (a := 0) (b := 0) (z := 0) (by rfl) (by rfl) (by decide +kernel) (by decide +kernel) (by decide) ?_
  refine jT_xifT (pcN := 844) jI_379_839 rfl (by decide +kernel) rfl ?_
  refine jT_xgoto (pcN := 3740) jI_379_844 rfl ?_
  refine jT_xiinc (x := 0) (z := 5) (LN := [(5, (0, 5)), (7, (0, 0)), (6, (0, 0)), (4, (4, 3)), (3, (4, 2)), (2, (4, 1)), (1, (4, 0)), (0, (6, 0))]) (pcN := 3743) jI_379_3740 rfl rfl (by decide) rfl rfl ?_
  refine jT_xgoto (pcN := 28) jI_379_3743 rfl ?_
  refine jT_xiload (v := (0, 5)) (pcN := 30) jI_379_28 rfl rfl rfl ?_
  refine jT_xaload_n (v := (6, 0)) (pcN := 31) jI_379_30 rfl rfl rfl ?_
  refine jT_adv 1 (pcN := 32) (LN := [(5, (0, 5)), (7, (0, 0)), (6, (0, 0)), (4, (4, 3)), (3, (4, 2)), (2, (4, 1)), (1, (4, 0)), (0, (6, 0))]) (stN := [(0, 5), (0, 5)]) (hsN := [jzA_1100, jzA_330, (101, [], [0]), jgh, (8, [(4, 30), (4, 31)], []), jgh, jgh, jgh, jgh, jgh, jgh, jgh, jgh, jzA_327, jzA_721, (100, [], ((((((((((((((jS0).set ((7 * x3).toNat) 0)).set ((7 * x3 + 1).toNat) 0)).set ((7 * x3 + 2).toNat) 0)).set ((7 * x3 + 3).toNat) 0)).set ((7 * x3 + 4).toNat) 0)).set ((7 * x3 + 5).toNat) 0)).set ((7 * x3 + 6).toNat) 1)), (100, [], []), jzA_722, jzA_331, jgh, (130, [], [45, 46, 47, 48, 49, 50]), (101, [], [0, 0, 0, 0, 0, 0]), jgh, jgh, jgh, jgh, jgh, jgh, jgh, jgh, jgh, jgh, jzA_723, jgh, jgh, jgh, jgh, (100, [], jS0), jgh, jgh, jgh, jgh, jgh, jgh, jgh, (100, [], (jenc (jlg 0))), jgh, jgh, jgh, jgh, jgh, (4, [(4, 52), (1, 1)], []), (101, [], [0, 0, 0, 0, 0, 0]), (101, [], [0, 0, 0, 0, 0, 0]), (4, [(4, 53), (1, 1)], []), (101, [], [0, 0, 0, 0, 0, 0]), (4, [(4, 55), (1, 1)], []), jgh, jzA_1101, (101, [], [0, 0, 0, 0, 0, 0]), (101, [], [1, 0, 0, 0, 0, 0]), (101, [], [1, 0, 0, 0, 0, 0]), (100, [], (jenc 0)), (100, [], (jenc 1)), (100, [], (jenc (1 * (jlg 0)))), (101, [], [(-1), 0, 0, 0, 0, 0]), (100, [], (jenc 0)), (100, [], (jenc (-1))), (100, [], (jenc ((-1) * (jlg 0))))]) (c1 := 0) (s1 := 0) (c2 := 0) (s2 := 0) (by exact rfl) ?_ (by omega) (by omega)
  refine jT_xiconst (k := 5) (pcN := 33) jI_379_32 rfl ?_
  refine jT_xisub (x := 5) (y := 5) (z := 0) (pcN := 34) jI_379_33 rfl (by decide) rfl ?_
  refine jT_xicT (pcN := 3746) jI_379_34 rfl (by decide +kernel) rfl ?_
  refine jT_xiconst (k := 1) (pcN := 3747) jI_379_3746 rfl ?_
  exact jT_ret rfl (by decide) (by show 53 ≤ 69; decide) (by omega) (by omega) ⟨rfl, rfl⟩
set_option maxRecDepth 100000 in
theorem jL_6_5 {d : Nat} {x0 x1 x2 x3 x4 : Int} (h_x0 : (-2147483648) ≤ x0 ∧ x0 ≤ 2147483647) (h_x1 : 1 ≤ x1 ∧ x1 ≤ 24) (h_x2 : 0 ≤ x2 ∧ x2 ≤ 7) (h_x3 : 8 ≤ x3 ∧ x3 ≤ 2147483647) (h_x4 : (-2147483648) ≤ x4 ∧ x4 ≤ 2147483647) : jT [x0, x1, x2, x3, x4] (d + 3) 379 30 767 [(5, (0, 0)), (4, (4, 3)), (3, (4, 2)), (2, (4, 1)), (1, (4, 0)), (0, (6, 0))] [] jpA_267 1 6 (fun k v hsN => k = 0 ∧ v = (0, 1)) := by
  refine jT_xaload_n (v := (4, 0)) (pcN := 768) jI_379_767 rfl rfl rfl ?_
  refine jT_xaload_n (v := (6, 0)) (pcN := 769) jI_379_768 rfl rfl rfl ?_
  refine jT_xiload (v := (0, 0)) (pcN := 771) jI_379_769 rfl rfl rfl ?_
  refine jT_xiconst (k := 1) (pcN := 772) jI_379_771 rfl ?_
  refine jT_xiadd (x := 0) (y := 1) (z := 1) (pcN := 773) jI_379_772 rfl (by decide) rfl ?_
  refine jT_adv 1 (pcN := 774) (LN := [(5, (0, 0)), (4, (4, 3)), (3, (4, 2)), (2, (4, 1)), (1, (4, 0)), (0, (6, 0))]) (stN := [(0, x1), (4, 0)]) (hsN := jpA_267) (c1 := 0) (s1 := 0) (c2 := 1) (s2 := 6) (by exact rfl) ?_ (by omega) (by omega)
  refine jT_xaload_n (v := (6, 0)) (pcN := 775) jI_379_774 rfl rfl rfl ?_
  refine jT_xiload (v := (0, 0)) (pcN := 777) jI_379_775 rfl rfl rfl ?_
  refine jT_xiconst (k := 2) (pcN := 778) jI_379_777 rfl ?_
  refine jT_xiadd (x := 0) (y := 2) (z := 2) (pcN := 779) jI_379_778 rfl (by decide) rfl ?_
  refine jT_adv 1 (pcN := 780) (LN := [(5, (0, 0)), (4, (4, 3)), (3, (4, 2)), (2, (4, 1)), (1, (4, 0)), (0, (6, 0))]) (stN := [(0, x2), (0, x1), (4, 0)]) (hsN := jpA_267) (c1 := 0) (s1 := 0) (c2 := 1) (s2 := 6) (by exact rfl) ?_ (by omega) (by omega)
  refine jT_xaload_n (v := (6, 0)) (pcN := 781) jI_379_780 rfl rfl rfl ?_
  refine jT_xiload (v := (0, 0)) (pcN := 783) jI_379_781 rfl rfl rfl ?_
  refine jT_xiconst (k := 3) (pcN := 784) jI_379_783 rfl ?_
  refine jT_xiadd (x := 0) (y := 3) (z := 3) (pcN := 785) jI_379_784 rfl (by decide) rfl ?_
  refine jT_adv 1 (pcN := 786) (LN := [(5, (0, 0)), (4, (4, 3)), (3, (4, 2)), (2, (4, 1)), (1, (4, 0)), (0, (6, 0))]) (stN := [(0, x3), (0, x2), (0, x1), (4, 0)]) (hsN := jpA_267) (c1 := 0) (s1 := 0) (c2 := 1) (s2 := 6) (by exact rfl) ?_ (by omega) (by omega)
  refine jT_xaload_n (v := (4, 2)) (pcN := 787) jI_379_786 rfl rfl rfl ?_
  refine jT_fR [0, 2, 4, 5, 6, 7, 8, 9, 10, 11, 12, 13, 14] 30 (y := 332) (pcN := 790) (dC := 2) (bc1 := 1) (bc2 := 6) (c1 := 0) (c2 := 0) (as := [(4, 0), (0, x1), (0, x2), (0, x3), (4, 2)]) (asC := [(4, 0), (0, x1), (0, x2), (0, x3), (4, 1)]) (LN := [(5, (0, 0)), (4, (4, 3)), (3, (4, 2)), (2, (4, 1)), (1, (4, 0)), (0, (6, 0))]) (stN := []) (hsC := jpA_15) (v := (0, 2)) (st2 := [(0, 2)]) (jA_332_245 (d := 0) (by omega) (by omega) (by omega)) (by rfl) (by rfl) (by decide +kernel) (by rfl) (by rfl) (by omega) (by omega) (by omega) (by omega) rfl ?_
  refine jT_xistore (v := (0, 2)) (LN := [(6, (0, 2)), (5, (0, 0)), (4, (4, 3)), (3, (4, 2)), (2, (4, 1)), (1, (4, 0)), (0, (6, 0))]) (pcN := 792) jI_379_790 rfl rfl rfl rfl ?_
  refine jT_xaload_n (v := (4, 1)) (pcN := 793) jI_379_792 rfl rfl rfl ?_
  refine jT_xaload_n (v := (6, 0)) (pcN := 794) jI_379_793 rfl rfl rfl ?_
  refine jT_xiload (v := (0, 0)) (pcN := 796) jI_379_794 rfl rfl rfl ?_
  refine jT_xiconst (k := 1) (pcN := 797) jI_379_796 rfl ?_
  refine jT_xiadd (x := 0) (y := 1) (z := 1) (pcN := 798) jI_379_797 rfl (by decide) rfl ?_
  refine jT_adv 1 (pcN := 799) (LN := [(6, (0, 2)), (5, (0, 0)), (4, (4, 3)), (3, (4, 2)), (2, (4, 1)), (1, (4, 0)), (0, (6, 0))]) (stN := [(0, x1), (4, 1)]) (hsN := jpA_267) (c1 := 0) (s1 := 0) (c2 := 0) (s2 := 0) (by exact rfl) ?_ (by omega) (by omega)
  refine jT_xaload_n (v := (6, 0)) (pcN := 800) jI_379_799 rfl rfl rfl ?_
  refine jT_xiload (v := (0, 0)) (pcN := 802) jI_379_800 rfl rfl rfl ?_
  refine jT_xiconst (k := 2) (pcN := 803) jI_379_802 rfl ?_
  refine jT_xiadd (x := 0) (y := 2) (z := 2) (pcN := 804) jI_379_803 rfl (by decide) rfl ?_
  refine jT_adv 1 (pcN := 805) (LN := [(6, (0, 2)), (5, (0, 0)), (4, (4, 3)), (3, (4, 2)), (2, (4, 1)), (1, (4, 0)), (0, (6, 0))]) (stN := [(0, x2), (0, x1), (4, 1)]) (hsN := jpA_267) (c1 := 0) (s1 := 0) (c2 := 0) (s2 := 0) (by exact rfl) ?_ (by omega) (by omega)
  refine jT_xaload_n (v := (6, 0)) (pcN := 806) jI_379_805 rfl rfl rfl ?_
  refine jT_xiload (v := (0, 0)) (pcN := 808) jI_379_806 rfl rfl rfl ?_
  refine jT_xiconst (k := 3) (pcN := 809) jI_379_808 rfl ?_
  refine jT_xiadd (x := 0) (y := 3) (z := 3) (pcN := 810) jI_379_809 rfl (by decide) rfl ?_
  refine jT_adv 1 (pcN := 811) (LN := [(6, (0, 2)), (5, (0, 0)), (4, (4, 3)), (3, (4, 2)), (2, (4, 1)), (1, (4, 0)), (0, (6, 0))]) (stN := [(0, x3), (0, x2), (0, x1), (4, 1)]) (hsN := jpA_267) (c1 := 0) (s1 := 0) (c2 := 0) (s2 := 0) (by exact rfl) ?_ (by omega) (by omega)
  refine jT_fB [1, 15, 16, 17, 18, 19, 20, 21, 22, 23, 24, 25, 26, 27, 28, 29] 30 (y := 217) (pcN := 814) (dC := 2) (bc1 := 0) (bc2 := 0) (c1 := 0) (c2 := 0) (as := [(4, 1), (0, x1), (0, x2), (0, x3)]) (asC := [(4, 0), (0, x1), (0, x2), (0, x3)]) (LN := [(6, (0, 2)), (5, (0, 0)), (4, (4, 3)), (3, (4, 2)), (2, (4, 1)), (1, (4, 0)), (0, (6, 0))]) (stN := []) (hsC := jpA_22) (hsD := jpA_361) (v := (0, 0)) (st2 := [(0, 0)]) (hs2 := jpA_607) (jA_217_246 (d := 0) (by omega) (by omega) (by omega)) (by rfl) (by rfl) (by decide +kernel) (by rfl) (by rfl) (by omega) (by omega) (by omega) (by omega) rfl (by decide +kernel) ?_
  refine jT_xistore (v := (0, 0)) (LN := [(7, (0, 0)), (6, (0, 2)), (5, (0, 0)), (4, (4, 3)), (3, (4, 2)), (2, (4, 1)), (1, (4, 0)), (0, (6, 0))]) (pcN := 816) jI_379_814 rfl rfl rfl rfl ?_
  refine jT_xaload_n (v := (4, 1)) (pcN := 817) jI_379_816 rfl rfl rfl ?_
  refine jT_fR [1, 15, 16, 17, 18, 19, 20, 21, 22, 23, 24, 25, 26, 27, 28, 29] 30 (y := 186) (pcN := 820) (dC := 0) (bc1 := 0) (bc2 := 0) (c1 := 0) (c2 := 0) (as := [(4, 1)]) (asC := [(4, 0)]) (LN := [(7, (0, 0)), (6, (0, 2)), (5, (0, 0)), (4, (4, 3)), (3, (4, 2)), (2, (4, 1)), (1, (4, 0)), (0, (6, 0))]) (stN := []) (hsC := jpA_361) (v := (0, 2)) (st2 := [(0, 2)]) (jA_186_101 (d := 0)) (by rfl) (by rfl) (by decide +kernel) (by rfl) (by rfl) (by omega) (by omega) (by omega) (by omega) rfl ?_
  refine jT_xiload (v := (0, 2)) (pcN := 822) jI_379_820 rfl rfl rfl ?_
  refine jT_xicT (pcN := 827) jI_379_822 rfl (by decide +kernel) rfl ?_
  refine jT_xiload (v := (0, 2)) (pcN := 829) jI_379_827 rfl rfl rfl ?_
  refine jT_xifT (pcN := 844) jI_379_829 rfl (by decide +kernel) rfl ?_
  refine jT_xgoto (pcN := 3740) jI_379_844 rfl ?_
  refine jT_xiinc (x := 0) (z := 5) (LN := [(5, (0, 5)), (7, (0, 0)), (6, (0, 2)), (4, (4, 3)), (3, (4, 2)), (2, (4, 1)), (1, (4, 0)), (0, (6, 0))]) (pcN := 3743) jI_379_3740 rfl rfl (by decide) rfl rfl ?_
  refine jT_xgoto (pcN := 28) jI_379_3743 rfl ?_
  refine jT_xiload (v := (0, 5)) (pcN := 30) jI_379_28 rfl rfl rfl ?_
  refine jT_xaload_n (v := (6, 0)) (pcN := 31) jI_379_30 rfl rfl rfl ?_
  refine jT_adv 1 (pcN := 32) (LN := [(5, (0, 5)), (7, (0, 0)), (6, (0, 2)), (4, (4, 3)), (3, (4, 2)), (2, (4, 1)), (1, (4, 0)), (0, (6, 0))]) (stN := [(0, 5), (0, 5)]) (hsN := jpA_607) (c1 := 0) (s1 := 0) (c2 := 0) (s2 := 0) (by exact rfl) ?_ (by omega) (by omega)
  refine jT_xiconst (k := 5) (pcN := 33) jI_379_32 rfl ?_
  refine jT_xisub (x := 5) (y := 5) (z := 0) (pcN := 34) jI_379_33 rfl (by decide) rfl ?_
  refine jT_xicT (pcN := 3746) jI_379_34 rfl (by decide +kernel) rfl ?_
  refine jT_xiconst (k := 1) (pcN := 3747) jI_379_3746 rfl ?_
  exact jT_ret rfl (by decide) (by show 30 ≤ 30; decide) (by omega) (by omega) ⟨rfl, rfl⟩
set_option maxRecDepth 100000 in
theorem jL_6_6 {d : Nat} {x0 x1 x2 x3 x4 : Int} (h_x0 : (-2147483648) ≤ x0 ∧ x0 ≤ 2147483647) (h_x1 : 1 ≤ x1 ∧ x1 ≤ 24) (h_x2 : 8 ≤ x2 ∧ x2 ≤ 2147483647) (h_x3 : (-2147483648) ≤ x3 ∧ x3 ≤ 2147483647) (h_x4 : (-2147483648) ≤ x4 ∧ x4 ≤ 2147483647) : jT [x0, x1, x2, x3, x4] (d + 3) 379 30 767 [(5, (0, 0)), (4, (4, 3)), (3, (4, 2)), (2, (4, 1)), (1, (4, 0)), (0, (6, 0))] [] jpA_267 1 6 (fun k v hsN => k = 0 ∧ v = (0, 1)) := by
  refine jT_xaload_n (v := (4, 0)) (pcN := 768) jI_379_767 rfl rfl rfl ?_
  refine jT_xaload_n (v := (6, 0)) (pcN := 769) jI_379_768 rfl rfl rfl ?_
  refine jT_xiload (v := (0, 0)) (pcN := 771) jI_379_769 rfl rfl rfl ?_
  refine jT_xiconst (k := 1) (pcN := 772) jI_379_771 rfl ?_
  refine jT_xiadd (x := 0) (y := 1) (z := 1) (pcN := 773) jI_379_772 rfl (by decide) rfl ?_
  refine jT_adv 1 (pcN := 774) (LN := [(5, (0, 0)), (4, (4, 3)), (3, (4, 2)), (2, (4, 1)), (1, (4, 0)), (0, (6, 0))]) (stN := [(0, x1), (4, 0)]) (hsN := jpA_267) (c1 := 0) (s1 := 0) (c2 := 1) (s2 := 6) (by exact rfl) ?_ (by omega) (by omega)
  refine jT_xaload_n (v := (6, 0)) (pcN := 775) jI_379_774 rfl rfl rfl ?_
  refine jT_xiload (v := (0, 0)) (pcN := 777) jI_379_775 rfl rfl rfl ?_
  refine jT_xiconst (k := 2) (pcN := 778) jI_379_777 rfl ?_
  refine jT_xiadd (x := 0) (y := 2) (z := 2) (pcN := 779) jI_379_778 rfl (by decide) rfl ?_
  refine jT_adv 1 (pcN := 780) (LN := [(5, (0, 0)), (4, (4, 3)), (3, (4, 2)), (2, (4, 1)), (1, (4, 0)), (0, (6, 0))]) (stN := [(0, x2), (0, x1), (4, 0)]) (hsN := jpA_267) (c1 := 0) (s1 := 0) (c2 := 1) (s2 := 6) (by exact rfl) ?_ (by omega) (by omega)
  refine jT_xaload_n (v := (6, 0)) (pcN := 781) jI_379_780 rfl rfl rfl ?_
  refine jT_xiload (v := (0, 0)) (pcN := 783) jI_379_781 rfl rfl rfl ?_
  refine jT_xiconst (k := 3) (pcN := 784) jI_379_783 rfl ?_
  refine jT_xiadd (x := 0) (y := 3) (z := 3) (pcN := 785) jI_379_784 rfl (by decide) rfl ?_
  refine jT_adv 1 (pcN := 786) (LN := [(5, (0, 0)), (4, (4, 3)), (3, (4, 2)), (2, (4, 1)), (1, (4, 0)), (0, (6, 0))]) (stN := [(0, x3), (0, x2), (0, x1), (4, 0)]) (hsN := jpA_267) (c1 := 0) (s1 := 0) (c2 := 1) (s2 := 6) (by exact rfl) ?_ (by omega) (by omega)
  refine jT_xaload_n (v := (4, 2)) (pcN := 787) jI_379_786 rfl rfl rfl ?_
  refine jT_fR [0, 2, 4, 5, 6, 7, 8, 9, 10, 11, 12, 13, 14] 30 (y := 332) (pcN := 790) (dC := 2) (bc1 := 1) (bc2 := 6) (c1 := 0) (c2 := 0) (as := [(4, 0), (0, x1), (0, x2), (0, x3), (4, 2)]) (asC := [(4, 0), (0, x1), (0, x2), (0, x3), (4, 1)]) (LN := [(5, (0, 0)), (4, (4, 3)), (3, (4, 2)), (2, (4, 1)), (1, (4, 0)), (0, (6, 0))]) (stN := []) (hsC := jpA_15) (v := (0, 2)) (st2 := [(0, 2)]) (jA_332_248 (d := 0) (by omega) (by omega) (by omega)) (by rfl) (by rfl) (by decide +kernel) (by rfl) (by rfl) (by omega) (by omega) (by omega) (by omega) rfl ?_
  refine jT_xistore (v := (0, 2)) (LN := [(6, (0, 2)), (5, (0, 0)), (4, (4, 3)), (3, (4, 2)), (2, (4, 1)), (1, (4, 0)), (0, (6, 0))]) (pcN := 792) jI_379_790 rfl rfl rfl rfl ?_
  refine jT_xaload_n (v := (4, 1)) (pcN := 793) jI_379_792 rfl rfl rfl ?_
  refine jT_xaload_n (v := (6, 0)) (pcN := 794) jI_379_793 rfl rfl rfl ?_
  refine jT_xiload (v := (0, 0)) (pcN := 796) jI_379_794 rfl rfl rfl ?_
  refine jT_xiconst (k := 1) (pcN := 797) jI_379_796 rfl ?_
  refine jT_xiadd (x := 0) (y := 1) (z := 1) (pcN := 798) jI_379_797 rfl (by decide) rfl ?_
  refine jT_adv 1 (pcN := 799) (LN := [(6, (0, 2)), (5, (0, 0)), (4, (4, 3)), (3, (4, 2)), (2, (4, 1)), (1, (4, 0)), (0, (6, 0))]) (stN := [(0, x1), (4, 1)]) (hsN := jpA_267) (c1 := 0) (s1 := 0) (c2 := 0) (s2 := 0) (by exact rfl) ?_ (by omega) (by omega)
  refine jT_xaload_n (v := (6, 0)) (pcN := 800) jI_379_799 rfl rfl rfl ?_
  refine jT_xiload (v := (0, 0)) (pcN := 802) jI_379_800 rfl rfl rfl ?_
  refine jT_xiconst (k := 2) (pcN := 803) jI_379_802 rfl ?_
  refine jT_xiadd (x := 0) (y := 2) (z := 2) (pcN := 804) jI_379_803 rfl (by decide) rfl ?_
  refine jT_adv 1 (pcN := 805) (LN := [(6, (0, 2)), (5, (0, 0)), (4, (4, 3)), (3, (4, 2)), (2, (4, 1)), (1, (4, 0)), (0, (6, 0))]) (stN := [(0, x2), (0, x1), (4, 1)]) (hsN := jpA_267) (c1 := 0) (s1 := 0) (c2 := 0) (s2 := 0) (by exact rfl) ?_ (by omega) (by omega)
  refine jT_xaload_n (v := (6, 0)) (pcN := 806) jI_379_805 rfl rfl rfl ?_
  refine jT_xiload (v := (0, 0)) (pcN := 808) jI_379_806 rfl rfl rfl ?_
  refine jT_xiconst (k := 3) (pcN := 809) jI_379_808 rfl ?_
  refine jT_xiadd (x := 0) (y := 3) (z := 3) (pcN := 810) jI_379_809 rfl (by decide) rfl ?_
  refine jT_adv 1 (pcN := 811) (LN := [(6, (0, 2)), (5, (0, 0)), (4, (4, 3)), (3, (4, 2)), (2, (4, 1)), (1, (4, 0)), (0, (6, 0))]) (stN := [(0, x3), (0, x2), (0, x1), (4, 1)]) (hsN := jpA_267) (c1 := 0) (s1 := 0) (c2 := 0) (s2 := 0) (by exact rfl) ?_ (by omega) (by omega)
  refine jT_fB [1, 15, 16, 17, 18, 19, 20, 21, 22, 23, 24, 25, 26, 27, 28, 29] 30 (y := 217) (pcN := 814) (dC := 2) (bc1 := 0) (bc2 := 0) (c1 := 0) (c2 := 0) (as := [(4, 1), (0, x1), (0, x2), (0, x3)]) (asC := [(4, 0), (0, x1), (0, x2), (0, x3)]) (LN := [(6, (0, 2)), (5, (0, 0)), (4, (4, 3)), (3, (4, 2)), (2, (4, 1)), (1, (4, 0)), (0, (6, 0))]) (stN := []) (hsC := jpA_22) (hsD := jpA_361) (v := (0, 0)) (st2 := [(0, 0)]) (hs2 := jpA_607) (jA_217_249 (d := 0) (by omega) (by omega) (by omega)) (by rfl) (by rfl) (by decide +kernel) (by rfl) (by rfl) (by omega) (by omega) (by omega) (by omega) rfl (by decide +kernel) ?_
  refine jT_xistore (v := (0, 0)) (LN := [(7, (0, 0)), (6, (0, 2)), (5, (0, 0)), (4, (4, 3)), (3, (4, 2)), (2, (4, 1)), (1, (4, 0)), (0, (6, 0))]) (pcN := 816) jI_379_814 rfl rfl rfl rfl ?_
  refine jT_xaload_n (v := (4, 1)) (pcN := 817) jI_379_816 rfl rfl rfl ?_
  refine jT_fR [1, 15, 16, 17, 18, 19, 20, 21, 22, 23, 24, 25, 26, 27, 28, 29] 30 (y := 186) (pcN := 820) (dC := 0) (bc1 := 0) (bc2 := 0) (c1 := 0) (c2 := 0) (as := [(4, 1)]) (asC := [(4, 0)]) (LN := [(7, (0, 0)), (6, (0, 2)), (5, (0, 0)), (4, (4, 3)), (3, (4, 2)), (2, (4, 1)), (1, (4, 0)), (0, (6, 0))]) (stN := []) (hsC := jpA_361) (v := (0, 2)) (st2 := [(0, 2)]) (jA_186_101 (d := 0)) (by rfl) (by rfl) (by decide +kernel) (by rfl) (by rfl) (by omega) (by omega) (by omega) (by omega) rfl ?_
  refine jT_xiload (v := (0, 2)) (pcN := 822) jI_379_820 rfl rfl rfl ?_
  refine jT_xicT (pcN := 827) jI_379_822 rfl (by decide +kernel) rfl ?_
  refine jT_xiload (v := (0, 2)) (pcN := 829) jI_379_827 rfl rfl rfl ?_
  refine jT_xifT (pcN := 844) jI_379_829 rfl (by decide +kernel) rfl ?_
  refine jT_xgoto (pcN := 3740) jI_379_844 rfl ?_
  refine jT_xiinc (x := 0) (z := 5) (LN := [(5, (0, 5)), (7, (0, 0)), (6, (0, 2)), (4, (4, 3)), (3, (4, 2)), (2, (4, 1)), (1, (4, 0)), (0, (6, 0))]) (pcN := 3743) jI_379_3740 rfl rfl (by decide) rfl rfl ?_
  refine jT_xgoto (pcN := 28) jI_379_3743 rfl ?_
  refine jT_xiload (v := (0, 5)) (pcN := 30) jI_379_28 rfl rfl rfl ?_
  refine jT_xaload_n (v := (6, 0)) (pcN := 31) jI_379_30 rfl rfl rfl ?_
  refine jT_adv 1 (pcN := 32) (LN := [(5, (0, 5)), (7, (0, 0)), (6, (0, 2)), (4, (4, 3)), (3, (4, 2)), (2, (4, 1)), (1, (4, 0)), (0, (6, 0))]) (stN := [(0, 5), (0, 5)]) (hsN := jpA_607) (c1 := 0) (s1 := 0) (c2 := 0) (s2 := 0) (by exact rfl) ?_ (by omega) (by omega)
  refine jT_xiconst (k := 5) (pcN := 33) jI_379_32 rfl ?_
  refine jT_xisub (x := 5) (y := 5) (z := 0) (pcN := 34) jI_379_33 rfl (by decide) rfl ?_
  refine jT_xicT (pcN := 3746) jI_379_34 rfl (by decide +kernel) rfl ?_
  refine jT_xiconst (k := 1) (pcN := 3747) jI_379_3746 rfl ?_
  exact jT_ret rfl (by decide) (by show 30 ≤ 30; decide) (by omega) (by omega) ⟨rfl, rfl⟩
set_option maxRecDepth 100000 in
theorem jL_6_7 {d : Nat} {x0 x1 x2 x3 x4 : Int} (h_x0 : (-2147483648) ≤ x0 ∧ x0 ≤ 2147483647) (h_x1 : 25 ≤ x1 ∧ x1 ≤ 2147483647) (h_x2 : (-2147483648) ≤ x2 ∧ x2 ≤ 2147483647) (h_x3 : (-2147483648) ≤ x3 ∧ x3 ≤ 2147483647) (h_x4 : (-2147483648) ≤ x4 ∧ x4 ≤ 2147483647) : jT [x0, x1, x2, x3, x4] (d + 3) 379 30 767 [(5, (0, 0)), (4, (4, 3)), (3, (4, 2)), (2, (4, 1)), (1, (4, 0)), (0, (6, 0))] [] jpA_267 1 6 (fun k v hsN => k = 0 ∧ v = (0, 1)) := by
  refine jT_xaload_n (v := (4, 0)) (pcN := 768) jI_379_767 rfl rfl rfl ?_
  refine jT_xaload_n (v := (6, 0)) (pcN := 769) jI_379_768 rfl rfl rfl ?_
  refine jT_xiload (v := (0, 0)) (pcN := 771) jI_379_769 rfl rfl rfl ?_
  refine jT_xiconst (k := 1) (pcN := 772) jI_379_771 rfl ?_
  refine jT_xiadd (x := 0) (y := 1) (z := 1) (pcN := 773) jI_379_772 rfl (by decide) rfl ?_
  refine jT_adv 1 (pcN := 774) (LN := [(5, (0, 0)), (4, (4, 3)), (3, (4, 2)), (2, (4, 1)), (1, (4, 0)), (0, (6, 0))]) (stN := [(0, x1), (4, 0)]) (hsN := jpA_267) (c1 := 0) (s1 := 0) (c2 := 1) (s2 := 6) (by exact rfl) ?_ (by omega) (by omega)
  refine jT_xaload_n (v := (6, 0)) (pcN := 775) jI_379_774 rfl rfl rfl ?_
  refine jT_xiload (v := (0, 0)) (pcN := 777) jI_379_775 rfl rfl rfl ?_
  refine jT_xiconst (k := 2) (pcN := 778) jI_379_777 rfl ?_
  refine jT_xiadd (x := 0) (y := 2) (z := 2) (pcN := 779) jI_379_778 rfl (by decide) rfl ?_
  refine jT_adv 1 (pcN := 780) (LN := [(5, (0, 0)), (4, (4, 3)), (3, (4, 2)), (2, (4, 1)), (1, (4, 0)), (0, (6, 0))]) (stN := [(0, x2), (0, x1), (4, 0)]) (hsN := jpA_267) (c1 := 0) (s1 := 0) (c2 := 1) (s2 := 6) (by exact rfl) ?_ (by omega) (by omega)
  refine jT_xaload_n (v := (6, 0)) (pcN := 781) jI_379_780 rfl rfl rfl ?_
  refine jT_xiload (v := (0, 0)) (pcN := 783) jI_379_781 rfl rfl rfl ?_
  refine jT_xiconst (k := 3) (pcN := 784) jI_379_783 rfl ?_
  refine jT_xiadd (x := 0) (y := 3) (z := 3) (pcN := 785) jI_379_784 rfl (by decide) rfl ?_
  refine jT_adv 1 (pcN := 786) (LN := [(5, (0, 0)), (4, (4, 3)), (3, (4, 2)), (2, (4, 1)), (1, (4, 0)), (0, (6, 0))]) (stN := [(0, x3), (0, x2), (0, x1), (4, 0)]) (hsN := jpA_267) (c1 := 0) (s1 := 0) (c2 := 1) (s2 := 6) (by exact rfl) ?_ (by omega) (by omega)
  refine jT_xaload_n (v := (4, 2)) (pcN := 787) jI_379_786 rfl rfl rfl ?_
  refine jT_fR [0, 2, 4, 5, 6, 7, 8, 9, 10, 11, 12, 13, 14] 30 (y := 332) (pcN := 790) (dC := 2) (bc1 := 1) (bc2 := 6) (c1 := 0) (c2 := 0) (as := [(4, 0), (0, x1), (0, x2), (0, x3), (4, 2)]) (asC := [(4, 0), (0, x1), (0, x2), (0, x3), (4, 1)]) (LN := [(5, (0, 0)), (4, (4, 3)), (3, (4, 2)), (2, (4, 1)), (1, (4, 0)), (0, (6, 0))]) (stN := []) (hsC := jpA_15) (v := (0, 1)) (st2 := [(0, 1)]) (jA_332_252 (d := 0) (by omega) (by omega) (by omega)) (by rfl) (by rfl) (by decide +kernel) (by rfl) (by rfl) (by omega) (by omega) (by omega) (by omega) rfl ?_
  refine jT_xistore (v := (0, 1)) (LN := [(6, (0, 1)), (5, (0, 0)), (4, (4, 3)), (3, (4, 2)), (2, (4, 1)), (1, (4, 0)), (0, (6, 0))]) (pcN := 792) jI_379_790 rfl rfl rfl rfl ?_
  refine jT_xaload_n (v := (4, 1)) (pcN := 793) jI_379_792 rfl rfl rfl ?_
  refine jT_xaload_n (v := (6, 0)) (pcN := 794) jI_379_793 rfl rfl rfl ?_
  refine jT_xiload (v := (0, 0)) (pcN := 796) jI_379_794 rfl rfl rfl ?_
  refine jT_xiconst (k := 1) (pcN := 797) jI_379_796 rfl ?_
  refine jT_xiadd (x := 0) (y := 1) (z := 1) (pcN := 798) jI_379_797 rfl (by decide) rfl ?_
  refine jT_adv 1 (pcN := 799) (LN := [(6, (0, 1)), (5, (0, 0)), (4, (4, 3)), (3, (4, 2)), (2, (4, 1)), (1, (4, 0)), (0, (6, 0))]) (stN := [(0, x1), (4, 1)]) (hsN := jpA_267) (c1 := 0) (s1 := 0) (c2 := 0) (s2 := 0) (by exact rfl) ?_ (by omega) (by omega)
  refine jT_xaload_n (v := (6, 0)) (pcN := 800) jI_379_799 rfl rfl rfl ?_
  refine jT_xiload (v := (0, 0)) (pcN := 802) jI_379_800 rfl rfl rfl ?_
  refine jT_xiconst (k := 2) (pcN := 803) jI_379_802 rfl ?_
  refine jT_xiadd (x := 0) (y := 2) (z := 2) (pcN := 804) jI_379_803 rfl (by decide) rfl ?_
  refine jT_adv 1 (pcN := 805) (LN := [(6, (0, 1)), (5, (0, 0)), (4, (4, 3)), (3, (4, 2)), (2, (4, 1)), (1, (4, 0)), (0, (6, 0))]) (stN := [(0, x2), (0, x1), (4, 1)]) (hsN := jpA_267) (c1 := 0) (s1 := 0) (c2 := 0) (s2 := 0) (by exact rfl) ?_ (by omega) (by omega)
  refine jT_xaload_n (v := (6, 0)) (pcN := 806) jI_379_805 rfl rfl rfl ?_
  refine jT_xiload (v := (0, 0)) (pcN := 808) jI_379_806 rfl rfl rfl ?_
  refine jT_xiconst (k := 3) (pcN := 809) jI_379_808 rfl ?_
  refine jT_xiadd (x := 0) (y := 3) (z := 3) (pcN := 810) jI_379_809 rfl (by decide) rfl ?_
  refine jT_adv 1 (pcN := 811) (LN := [(6, (0, 1)), (5, (0, 0)), (4, (4, 3)), (3, (4, 2)), (2, (4, 1)), (1, (4, 0)), (0, (6, 0))]) (stN := [(0, x3), (0, x2), (0, x1), (4, 1)]) (hsN := jpA_267) (c1 := 0) (s1 := 0) (c2 := 0) (s2 := 0) (by exact rfl) ?_ (by omega) (by omega)
  refine jT_fB [1, 15, 16, 17, 18, 19, 20, 21, 22, 23, 24, 25, 26, 27, 28, 29] 30 (y := 217) (pcN := 814) (dC := 1) (bc1 := 0) (bc2 := 0) (c1 := 0) (c2 := 0) (as := [(4, 1), (0, x1), (0, x2), (0, x3)]) (asC := [(4, 0), (0, x1), (0, x2), (0, x3)]) (LN := [(6, (0, 1)), (5, (0, 0)), (4, (4, 3)), (3, (4, 2)), (2, (4, 1)), (1, (4, 0)), (0, (6, 0))]) (stN := []) (hsC := jpA_22) (hsD := jpA_20) (v := (0, 0)) (st2 := [(0, 0)]) (hs2 := jpA_306) (jA_217_253 (d := 0) (by omega) (by omega) (by omega)) (by rfl) (by rfl) (by decide +kernel) (by rfl) (by rfl) (by omega) (by omega) (by omega) (by omega) rfl (by decide +kernel) ?_
  refine jT_xistore (v := (0, 0)) (LN := [(7, (0, 0)), (6, (0, 1)), (5, (0, 0)), (4, (4, 3)), (3, (4, 2)), (2, (4, 1)), (1, (4, 0)), (0, (6, 0))]) (pcN := 816) jI_379_814 rfl rfl rfl rfl ?_
  refine jT_xaload_n (v := (4, 1)) (pcN := 817) jI_379_816 rfl rfl rfl ?_
  refine jT_fR [1, 15, 16, 17, 18, 19, 20, 21, 22, 23, 24, 25, 26, 27, 28, 29] 30 (y := 186) (pcN := 820) (dC := 0) (bc1 := 0) (bc2 := 0) (c1 := 0) (c2 := 0) (as := [(4, 1)]) (asC := [(4, 0)]) (LN := [(7, (0, 0)), (6, (0, 1)), (5, (0, 0)), (4, (4, 3)), (3, (4, 2)), (2, (4, 1)), (1, (4, 0)), (0, (6, 0))]) (stN := []) (hsC := jpA_20) (v := (0, 1)) (st2 := [(0, 1)]) (jA_186_8 (d := 0)) (by rfl) (by rfl) (by decide +kernel) (by rfl) (by rfl) (by omega) (by omega) (by omega) (by omega) rfl ?_
  refine jT_xiload (v := (0, 1)) (pcN := 822) jI_379_820 rfl rfl rfl ?_
  refine jT_xicT (pcN := 827) jI_379_822 rfl (by decide +kernel) rfl ?_
  refine jT_xiload (v := (0, 1)) (pcN := 829) jI_379_827 rfl rfl rfl ?_
  refine jT_xifT (pcN := 844) jI_379_829 rfl (by decide +kernel) rfl ?_
  refine jT_xgoto (pcN := 3740) jI_379_844 rfl ?_
  refine jT_xiinc (x := 0) (z := 5) (LN := [(5, (0, 5)), (7, (0, 0)), (6, (0, 1)), (4, (4, 3)), (3, (4, 2)), (2, (4, 1)), (1, (4, 0)), (0, (6, 0))]) (pcN := 3743) jI_379_3740 rfl rfl (by decide) rfl rfl ?_
  refine jT_xgoto (pcN := 28) jI_379_3743 rfl ?_
  refine jT_xiload (v := (0, 5)) (pcN := 30) jI_379_28 rfl rfl rfl ?_
  refine jT_xaload_n (v := (6, 0)) (pcN := 31) jI_379_30 rfl rfl rfl ?_
  refine jT_adv 1 (pcN := 32) (LN := [(5, (0, 5)), (7, (0, 0)), (6, (0, 1)), (4, (4, 3)), (3, (4, 2)), (2, (4, 1)), (1, (4, 0)), (0, (6, 0))]) (stN := [(0, 5), (0, 5)]) (hsN := jpA_306) (c1 := 0) (s1 := 0) (c2 := 0) (s2 := 0) (by exact rfl) ?_ (by omega) (by omega)
  refine jT_xiconst (k := 5) (pcN := 33) jI_379_32 rfl ?_
  refine jT_xisub (x := 5) (y := 5) (z := 0) (pcN := 34) jI_379_33 rfl (by decide) rfl ?_
  refine jT_xicT (pcN := 3746) jI_379_34 rfl (by decide +kernel) rfl ?_
  refine jT_xiconst (k := 1) (pcN := 3747) jI_379_3746 rfl ?_
  exact jT_ret rfl (by decide) (by show 30 ≤ 30; decide) (by omega) (by omega) ⟨rfl, rfl⟩
theorem jI_124_0 : jmI (jm 124) 0 = (.aload_n 0, 1) := by rfl
theorem jI_124_1 : jmI (jm 124) 1 = (.iload_n 1, 1) := by rfl
theorem jI_124_2 : jmI (jm 124) 2 = (.bipush 8, 2) := by rfl
theorem jA_124_254 {xs : List Int} {d : Nat} {x1 : Int} (h_x1 : (-2147483648) ≤ x1 ∧ x1 ≤ (-1)) : jT xs (d + 1) 124 12 0 [(0, (4, 0)), (1, (0, x1))] [] jpA_6 1 6 (fun k v hsN => k = 1 ∧ v = (0, 0) ∧ hsN = jpA_6 ++ []) := by
  refine jT_xaload_n (v := (4, 0)) (pcN := 1) jI_124_0 rfl rfl rfl ?_
  refine jT_xiload_n (v := (0, x1)) (pcN := 2) jI_124_1 rfl rfl rfl ?_
  refine jT_xbipush (k := 8) (pcN := 4) jI_124_2 (by decide) rfl ?_
  exact jT_fX [0] 12 (y := 115) (pcN := 7) (dC := 0) (bc1 := 1) (bc2 := 6) (as := [(4, 0), (0, x1), (0, 8)]) (asC := [(4, 0), (0, x1), (0, 8)]) (LN := [(0, (4, 0)), (1, (0, x1))]) (stN := []) (hsC := [jgh]) (e := 0) (jA_115_1 (d := 0) (by omega)) (by rfl) (by rfl) (by decide +kernel) (by rfl) (by rfl) (by omega) (by omega) (by omega) (by omega) ⟨rfl, ⟨rfl, rfl, rfl⟩⟩
theorem jI_333_0 : jmI (jm 333) 0 = (.aload_n 2, 1) := by rfl
theorem jI_333_1 : jmI (jm 333) 1 = (.iconst 0, 1) := by rfl
theorem jI_333_2 : jmI (jm 333) 2 = (.aload_n 0, 1) := by rfl
theorem jI_333_3 : jmI (jm 333) 3 = (.iload_n 1, 1) := by rfl
theorem jA_333_255 {xs : List Int} {d : Nat} {x1 : Int} (h_x1 : (-2147483648) ≤ x1 ∧ x1 ≤ (-1)) : jT xs (d + 2) 333 13 0 [(0, (4, 0)), (1, (0, x1)), (2, (4, 1))] [] jpA_15 1 6 (fun k v hsN => k = 0 ∧ v = (0, 1) ∧ hsN = jpA_15 ++ []) := by
  refine jT_xaload_n (v := (4, 1)) (pcN := 1) jI_333_0 rfl rfl rfl ?_
  refine jT_xiconst (k := 0) (pcN := 2) jI_333_1 rfl ?_
  refine jT_xaload_n (v := (4, 0)) (pcN := 3) jI_333_2 rfl rfl rfl ?_
  refine jT_xiload_n (v := (0, x1)) (pcN := 4) jI_333_3 rfl rfl rfl ?_
  exact jT_fX [0, 2, 3, 4, 5, 6, 7, 8, 9, 10, 11, 12] 13 (y := 124) (pcN := 7) (dC := 1) (bc1 := 1) (bc2 := 6) (as := [(4, 0), (0, x1)]) (asC := [(4, 0), (0, x1)]) (LN := [(0, (4, 0)), (1, (0, x1)), (2, (4, 1))]) (stN := [(0, 0), (4, 1)]) (hsC := jpA_6) (e := 0) (jA_124_254 (d := 0) (by omega)) (by rfl) (by rfl) (by decide +kernel) (by rfl) (by rfl) (by omega) (by omega) (by omega) (by omega) (show _ from ⟨rfl, rfl, rfl⟩)
theorem jI_219_0 : jmI (jm 219) 0 = (.aload_n 0, 1) := by rfl
theorem jI_219_1 : jmI (jm 219) 1 = (.iload_n 1, 1) := by rfl
theorem jI_219_8 : jmI (jm 219) 8 = (.ifCond .eq 5, 3) := by rfl
theorem jI_219_11 : jmI (jm 219) 11 = (.iconst 0, 1) := by rfl
theorem jA_219_256 {xs : List Int} {d : Nat} {x1 : Int} (h_x1 : (-2147483648) ≤ x1 ∧ x1 ≤ (-1)) : jT xs (d + 2) 219 16 0 [(0, (4, 0)), (1, (0, x1))] [] jpA_22 0 0 (fun k v hsN => k = 0 ∧ v = (0, 0) ∧ hsN = jpA_20) := by
  refine jT_xaload_n (v := (4, 0)) (pcN := 1) jI_219_0 rfl rfl rfl ?_
  refine jT_xiload_n (v := (0, x1)) (pcN := 2) jI_219_1 rfl rfl rfl ?_
  refine jT_fR [] 16 (y := 188) (pcN := 5) (dC := 1) (bc1 := 0) (bc2 := 0) (c1 := 0) (c2 := 0) (as := [(0, x1)]) (asC := [(0, x1)]) (LN := [(0, (4, 0)), (1, (0, x1))]) (stN := [(4, 0)]) (hsC := []) (v := (0, 0)) (st2 := [(0, 0), (4, 0)]) (jA_188_4 (d := 0) (by omega)) (by rfl) (by rfl) (by decide +kernel) (by rfl) (by rfl) (by omega) (by omega) (by omega) (by omega) rfl ?_
  refine jT_fB [0, 1, 2, 3, 4, 5, 6, 7, 8, 9, 10, 11, 12, 13, 14, 15] 16 (y := 190) (pcN := 8) (dC := 1) (bc1 := 0) (bc2 := 0) (c1 := 0) (c2 := 0) (as := [(4, 0), (0, 0)]) (asC := [(4, 0), (0, 0)]) (LN := [(0, (4, 0)), (1, (0, x1))]) (stN := []) (hsC := jpA_22) (hsD := jpA_20) (v := (0, 1)) (st2 := [(0, 1)]) (hs2 := jpA_20) (jA_190_6 (d := 0)) (by rfl) (by rfl) (by decide +kernel) (by rfl) (by rfl) (by omega) (by omega) (by omega) (by omega) rfl (by decide +kernel) ?_
  refine jT_xifF (t := 13) (pcN := 11) jI_219_8 rfl (by decide +kernel) rfl rfl ?_
  refine jT_xiconst (k := 0) (pcN := 12) jI_219_11 rfl ?_
  exact jT_ret rfl (by decide) (by show 16 ≤ 16; decide) (by omega) (by omega) ⟨rfl, rfl, rfl⟩
def jzA_1120 : JC := (11, [(4, 1), (4, 2), (0, 0), (0, 0), (0, 0), (0, (-1))], [])
theorem jA_67_257 {xs : List Int} {d : Nat} : jT xs d 67 3 0 [(0, (4, 0))] [] [jzA_1120, jgh, jgh] 0 0 (fun k v hsN => k = 0 ∧ v = (0, (-1)) ∧ hsN = [jzA_1120, jgh, jgh] ++ []) := by
  refine jT_advK 11 (pcN := 62) (LN := [(0, (4, 0))]) (stN := [(0, (-1))]) (hsN := [jzA_1120, jgh, jgh]) (c1 := 0) (s1 := 0) (c2 := 0) (s2 := 0) (by decide +kernel) ?_ (by omega) (by omega)
  exact jT_ret rfl (by decide) (by show 3 ≤ 3; decide) (by omega) (by omega) ⟨rfl, rfl, rfl⟩
theorem jA_69_258 {xs : List Int} {d : Nat} : jT xs d 69 1 0 [(0, (4, 0)), (1, (0, (-1)))] [] [jgh] 0 0 (fun k v hsN => k = 0 ∧ v = (0, 0) ∧ hsN = [jgh] ++ []) := by
  refine jT_advK 4 (pcN := 17) (LN := [(0, (4, 0)), (1, (0, (-1)))]) (stN := [(0, 0)]) (hsN := [jgh]) (c1 := 0) (s1 := 0) (c2 := 0) (s2 := 0) (by decide +kernel) ?_ (by omega) (by omega)
  exact jT_ret rfl (by decide) (by show 1 ≤ 1; decide) (by omega) (by omega) ⟨rfl, rfl, rfl⟩
theorem jA_73_259 {xs : List Int} {d : Nat} : jT xs d 73 1 0 [(0, (4, 0)), (1, (0, (-1)))] [] [jgh] 0 0 (fun k v hsN => k = 0 ∧ v = (0, 0) ∧ hsN = [jgh] ++ []) := by
  refine jT_advK 4 (pcN := 17) (LN := [(0, (4, 0)), (1, (0, (-1)))]) (stN := [(0, 0)]) (hsN := [jgh]) (c1 := 0) (s1 := 0) (c2 := 0) (s2 := 0) (by decide +kernel) ?_ (by omega) (by omega)
  exact jT_ret rfl (by decide) (by show 1 ≤ 1; decide) (by omega) (by omega) ⟨rfl, rfl, rfl⟩
def jzA_1121 : JC := (11, [(4, 2), (4, 3), (0, 0), (0, 0), (0, 0), (0, (-1))], [])
def jpA_1122 : List JC := [jzA_1121, jgh, jgh, jgh]
def jzA_1123 : JC := (11, [(4, 2), (4, 3), (0, 0), (0, 0), (0, 0), (0, 0)], [])
def jpA_1124 : List JC := [jzA_1123, jgh, jgh, jgh]
theorem jA_72_260 {xs : List Int} {d : Nat} : jT xs (d + 1) 72 4 0 [(0, (4, 0)), (1, (4, 1))] [] jpA_1122 0 0 (fun k v hsN => k = 0 ∧ v = (9, 0) ∧ hsN = jpA_1124) := by
  refine jT_advK 1 (pcN := 1) (LN := [(0, (4, 0)), (1, (4, 1))]) (stN := [(4, 0)]) (hsN := jpA_1122) (c1 := 0) (s1 := 0) (c2 := 0) (s2 := 0) (by decide +kernel) ?_ (by omega) (by omega)
  refine jT_fR [0, 2, 3] 4 (y := 67) (pcN := 4) (dC := 0) (bc1 := 0) (bc2 := 0) (c1 := 0) (c2 := 0) (as := [(4, 0)]) (asC := [(4, 0)]) (LN := [(0, (4, 0)), (1, (4, 1))]) (stN := []) (hsC := [jzA_1120, jgh, jgh]) (v := (0, (-1))) (st2 := [(0, (-1))]) (jA_67_257 (d := 0)) (by rfl) (by rfl) (by decide +kernel) (by rfl) (by rfl) (by omega) (by omega) (by omega) (by omega) rfl ?_
  refine jT_advK 3 (pcN := 7) (LN := [(2, (0, (-1))), (0, (4, 0)), (1, (4, 1))]) (stN := [(0, (-1)), (4, 0)]) (hsN := jpA_1122) (c1 := 0) (s1 := 0) (c2 := 0) (s2 := 0) (by decide +kernel) ?_ (by omega) (by omega)
  refine jT_fR [0] 4 (y := 73) (pcN := 10) (dC := 0) (bc1 := 0) (bc2 := 0) (c1 := 0) (c2 := 0) (as := [(4, 0), (0, (-1))]) (asC := [(4, 0), (0, (-1))]) (LN := [(2, (0, (-1))), (0, (4, 0)), (1, (4, 1))]) (stN := []) (hsC := [jgh]) (v := (0, 0)) (st2 := [(0, 0)]) (jA_73_259 (d := 0)) (by rfl) (by rfl) (by decide +kernel) (by rfl) (by rfl) (by omega) (by omega) (by omega) (by omega) rfl ?_
  refine jT_advK 3 (pcN := 23) (LN := [(2, (0, (-1))), (0, (4, 0)), (1, (4, 1))]) (stN := [(0, (-1)), (4, 0)]) (hsN := jpA_1122) (c1 := 0) (s1 := 0) (c2 := 0) (s2 := 0) (by decide +kernel) ?_ (by omega) (by omega)
  refine jT_fR [0] 4 (y := 69) (pcN := 26) (dC := 0) (bc1 := 0) (bc2 := 0) (c1 := 0) (c2 := 0) (as := [(4, 0), (0, (-1))]) (asC := [(4, 0), (0, (-1))]) (LN := [(2, (0, (-1))), (0, (4, 0)), (1, (4, 1))]) (stN := []) (hsC := [jgh]) (v := (0, 0)) (st2 := [(0, 0)]) (jA_69_258 (d := 0)) (by rfl) (by rfl) (by decide +kernel) (by rfl) (by rfl) (by omega) (by omega) (by omega) (by omega) rfl ?_
  refine jT_advK 5 (pcN := 95) (LN := [(2, (0, (-1))), (0, (4, 0)), (1, (4, 1))]) (stN := []) (hsN := jpA_1124) (c1 := 0) (s1 := 0) (c2 := 0) (s2 := 0) (by decide +kernel) ?_ (by omega) (by omega)
  exact jT_ret rfl (by decide) (by show 4 ≤ 4; decide) (by omega) (by omega) ⟨rfl, rfl, rfl⟩
def jzA_1125 : JC := (120, [], [3, 4, 5, 6, 7, 8, 9, 10, 11, 12, 13, 14, 15, 16, 17, 18, 19, 20, 21, 22, 23, 24, 25, 26, 27, 28, 29, 30, 31, 32, 33, 34, 35, 36, 37, 38, 39, 40, 41, 42, 43, 44, 45, 46, 47, 48, 49, 50, 51, 52, 53, 54, 55, 56, 57, 58, 59, 60, 61, 62])
def jzA_1126 : JC := (10, [(0, 0), (0, 1), (0, 0), (0, 0), (0, 0), (0, 1)], [])
def jpA_1127 : List JC := [jzA_1120, jgh, jzA_1125, jzA_1126, jgh, jgh, jgh, jgh, jgh, jgh, jgh, jgh, jgh, jgh, jgh, jgh, jgh, jgh, jgh, jgh, jgh, jgh, jgh, jgh, jgh, jgh, jgh, jgh, jgh, jgh, jgh, jgh, jgh, jgh, jgh, jgh, jgh, jgh, jgh, jgh, jgh, jgh, jgh, jgh, jgh, jgh, jgh, jgh, jgh, jgh, jgh, jgh, jgh, jgh, jgh, jgh, jgh, jgh, jgh, jgh, jgh, jgh, jgh]
def jzA_1128 : JC := (11, [(4, 1), (4, 2), (0, 0), (0, 0), (0, 0), (0, 0)], [])
def jpA_1129 : List JC := [jzA_1128, jgh, jzA_1125, jzA_1126, jgh, jgh, jgh, jgh, jgh, jgh, jgh, jgh, jgh, jgh, jgh, jgh, jgh, jgh, jgh, jgh, jgh, jgh, jgh, jgh, jgh, jgh, jgh, jgh, jgh, jgh, jgh, jgh, jgh, jgh, jgh, jgh, jgh, jgh, jgh, jgh, jgh, jgh, jgh, jgh, jgh, jgh, jgh, jgh, jgh, jgh, jgh, jgh, jgh, jgh, jgh, jgh, jgh, jgh, jgh, jgh, jgh, jgh, jgh]
def jzA_1130 : JC := (11, [(4, 1), (4, 2), (0, 0), (0, 1), (0, 0), (0, 0)], [])
def jpA_1131 : List JC := [jzA_1130, jgh, jzA_1125, jzA_1126, jgh, jgh, jgh, jgh, jgh, jgh, jgh, jgh, jgh, jgh, jgh, jgh, jgh, jgh, jgh, jgh, jgh, jgh, jgh, jgh, jgh, jgh, jgh, jgh, jgh, jgh, jgh, jgh, jgh, jgh, jgh, jgh, jgh, jgh, jgh, jgh, jgh, jgh, jgh, jgh, jgh, jgh, jgh, jgh, jgh, jgh, jgh, jgh, jgh, jgh, jgh, jgh, jgh, jgh, jgh, jgh, jgh, jgh, jgh]
def jzA_1132 : JC := (10, [(0, 0), (0, 0), (0, 0), (0, 0), (0, 0), (0, 0)], [])
def jpA_1133 : List JC := [jzA_1120, jgh, jzA_1125, jzA_1132, jgh, jgh, jgh, jgh, jgh, jgh, jgh, jgh, jgh, jgh, jgh, jgh, jgh, jgh, jgh, jgh, jgh, jgh, jgh, jgh, jgh, jgh, jgh, jgh, jgh, jgh, jgh, jgh, jgh, jgh, jgh, jgh, jgh, jgh, jgh, jgh, jgh, jgh, jgh, jgh, jgh, jgh, jgh, jgh, jgh, jgh, jgh, jgh, jgh, jgh, jgh, jgh, jgh, jgh, jgh, jgh, jgh, jgh, jgh]
theorem jA_68_261 {xs : List Int} {d : Nat} : jT xs (d + 2) 68 63 0 [(0, (4, 0)), (1, (0, 0))] [] jpA_1133 0 0 (fun k v hsN => k = 0 ∧ v = (9, 0) ∧ hsN = jpA_1131) := by
  refine jT_advK 21 (pcN := 45) (LN := [(2, (4, 3)), (0, (4, 0)), (1, (0, 0))]) (stN := [(4, 0), (4, 0)]) (hsN := jpA_1127) (c1 := 0) (s1 := 0) (c2 := 0) (s2 := 0) (by decide +kernel) ?_ (by omega) (by omega)
  refine jT_fR [0, 1, 2] 63 (y := 67) (pcN := 48) (dC := 0) (bc1 := 0) (bc2 := 0) (c1 := 0) (c2 := 0) (as := [(4, 0)]) (asC := [(4, 0)]) (LN := [(2, (4, 3)), (0, (4, 0)), (1, (0, 0))]) (stN := [(4, 0)]) (hsC := [jzA_1120, jgh, jgh]) (v := (0, (-1))) (st2 := [(0, (-1)), (4, 0)]) (jA_67_257 (d := 0)) (by rfl) (by rfl) (by decide +kernel) (by rfl) (by rfl) (by omega) (by omega) (by omega) (by omega) rfl ?_
  refine jT_fR [0] 63 (y := 69) (pcN := 51) (dC := 0) (bc1 := 0) (bc2 := 0) (c1 := 0) (c2 := 0) (as := [(4, 0), (0, (-1))]) (asC := [(4, 0), (0, (-1))]) (LN := [(2, (4, 3)), (0, (4, 0)), (1, (0, 0))]) (stN := []) (hsC := [jgh]) (v := (0, 0)) (st2 := [(0, 0)]) (jA_69_258 (d := 0)) (by rfl) (by rfl) (by decide +kernel) (by rfl) (by rfl) (by omega) (by omega) (by omega) (by omega) rfl ?_
  refine jT_advK 7 (pcN := 82) (LN := [(2, (4, 3)), (0, (4, 0)), (1, (0, 0))]) (stN := [(4, 3), (4, 0)]) (hsN := jpA_1127) (c1 := 0) (s1 := 0) (c2 := 0) (s2 := 0) (by decide +kernel) ?_ (by omega) (by omega)
  refine jT_fB [0, 3, 1, 2] 63 (y := 72) (pcN := 85) (dC := 1) (bc1 := 0) (bc2 := 0) (c1 := 0) (c2 := 0) (as := [(4, 0), (4, 3)]) (asC := [(4, 0), (4, 1)]) (LN := [(2, (4, 3)), (0, (4, 0)), (1, (0, 0))]) (stN := []) (hsC := jpA_1122) (hsD := jpA_1124) (v := (9, 0)) (st2 := []) (hs2 := jpA_1129) (jA_72_260 (d := 0)) (by rfl) (by rfl) (by decide +kernel) (by rfl) (by rfl) (by omega) (by omega) (by omega) (by omega) rfl (by decide +kernel) ?_
  refine jT_advK 10 (pcN := 133) (LN := [(2, (4, 3)), (0, (4, 0)), (1, (0, 0))]) (stN := []) (hsN := jpA_1131) (c1 := 0) (s1 := 0) (c2 := 0) (s2 := 0) (by decide +kernel) ?_ (by omega) (by omega)
  exact jT_ret rfl (by decide) (by show 63 ≤ 63; decide) (by omega) (by omega) ⟨rfl, rfl, rfl⟩
def jpA_1134 : List JC := [jzA_1128, jgh, jzA_1125, jzA_1132, jgh, jgh, jgh, jgh, jgh, jgh, jgh, jgh, jgh, jgh, jgh, jgh, jgh, jgh, jgh, jgh, jgh, jgh, jgh, jgh, jgh, jgh, jgh, jgh, jgh, jgh, jgh, jgh, jgh, jgh, jgh, jgh, jgh, jgh, jgh, jgh, jgh, jgh, jgh, jgh, jgh, jgh, jgh, jgh, jgh, jgh, jgh, jgh, jgh, jgh, jgh, jgh, jgh, jgh, jgh, jgh, jgh, jgh, jgh]
theorem jA_66_262 {xs : List Int} {d : Nat} : jT xs (d + 3) 66 63 0 [(0, (4, 0))] [] jpA_1134 0 0 (fun k v hsN => k = 0 ∧ v = (0, 0) ∧ hsN = jpA_1131) := by
  refine jT_advK 10 (pcN := 16) (LN := [(0, (4, 0))]) (stN := [(4, 0)]) (hsN := jpA_1133) (c1 := 0) (s1 := 0) (c2 := 0) (s2 := 0) (by decide +kernel) ?_ (by omega) (by omega)
  refine jT_fR [0, 1, 2] 63 (y := 67) (pcN := 19) (dC := 0) (bc1 := 0) (bc2 := 0) (c1 := 0) (c2 := 0) (as := [(4, 0)]) (asC := [(4, 0)]) (LN := [(0, (4, 0))]) (stN := []) (hsC := [jzA_1120, jgh, jgh]) (v := (0, (-1))) (st2 := [(0, (-1))]) (jA_67_257 (d := 0)) (by rfl) (by rfl) (by decide +kernel) (by rfl) (by rfl) (by omega) (by omega) (by omega) (by omega) rfl ?_
  refine jT_advK 14 (pcN := 50) (LN := [(1, (0, 0)), (0, (4, 0))]) (stN := [(0, 0), (4, 0)]) (hsN := jpA_1133) (c1 := 0) (s1 := 0) (c2 := 0) (s2 := 0) (by decide +kernel) ?_ (by omega) (by omega)
  refine jT_fB [0, 1, 2, 3, 4, 5, 6, 7, 8, 9, 10, 11, 12, 13, 14, 15, 16, 17, 18, 19, 20, 21, 22, 23, 24, 25, 26, 27, 28, 29, 30, 31, 32, 33, 34, 35, 36, 37, 38, 39, 40, 41, 42, 43, 44, 45, 46, 47, 48, 49, 50, 51, 52, 53, 54, 55, 56, 57, 58, 59, 60, 61, 62] 63 (y := 68) (pcN := 53) (dC := 2) (bc1 := 0) (bc2 := 0) (c1 := 0) (c2 := 0) (as := [(4, 0), (0, 0)]) (asC := [(4, 0), (0, 0)]) (LN := [(1, (0, 0)), (0, (4, 0))]) (stN := []) (hsC := jpA_1133) (hsD := jpA_1131) (v := (9, 0)) (st2 := []) (hs2 := jpA_1131) (jA_68_261 (d := 0)) (by rfl) (by rfl) (by decide +kernel) (by rfl) (by rfl) (by omega) (by omega) (by omega) (by omega) rfl (by decide +kernel) ?_
  refine jT_advK 11 (pcN := 140) (LN := [(2, (0, 0)), (1, (0, 0)), (0, (4, 0))]) (stN := [(0, 0)]) (hsN := jpA_1131) (c1 := 0) (s1 := 0) (c2 := 0) (s2 := 0) (by decide +kernel) ?_ (by omega) (by omega)
  exact jT_ret rfl (by decide) (by show 63 ≤ 63; decide) (by omega) (by omega) ⟨rfl, rfl, rfl⟩
theorem jI_124_7 : jmI (jm 124) 7 = (.aload_n 0, 1) := by rfl
theorem jI_124_8 : jmI (jm 124) 8 = (.getfield 33, 3) := by rfl
def jzA_1137 : JC := (11, [(4, 12), (4, 13), (0, 0), (0, 1), (0, 0), (0, 0)], [])
def jzA_1138 : JC := (120, [], [14, 15, 16, 17, 18, 19, 20, 21, 22, 23, 24, 25, 26, 27, 28, 29, 30, 31, 32, 33, 34, 35, 36, 37, 38, 39, 40, 41, 42, 43, 44, 45, 46, 47, 48, 49, 50, 51, 52, 53, 54, 55, 56, 57, 58, 59, 60, 61, 62, 63, 64, 65, 66, 67, 68, 69, 70, 71, 72, 73])
def jpA_1139 : List JC := [jzA_5, jgh, jgh, jgh, jzA_1137, jgh, jgh, jgh, jgh, jgh, jgh, jgh, jgh, jzA_1138, jzA_1126, jgh, jgh, jgh, jgh, jgh, jgh, jgh, jgh, jgh, jgh, jgh, jgh, jgh, jgh, jgh, jgh, jgh, jgh, jgh, jgh, jgh, jgh, jgh, jgh, jgh, jgh, jgh, jgh, jgh, jgh, jgh, jgh, jgh, jgh, jgh, jgh, jgh, jgh, jgh, jgh, jgh, jgh, jgh, jgh, jgh, jgh, jgh, jgh, jgh, jgh, jgh, jgh, jgh, jgh, jgh, jgh, jgh, jgh, jgh]
theorem jI_124_14 : jmI (jm 124) 14 = (.iconst (-1), 1) := by rfl
theorem jI_124_15 : jmI (jm 124) 15 = (.if_icmp .eq 13, 3) := by rfl
def jzA_1142 : JC := (11, [(4, 12), (4, 13), (0, 0), (0, 0), (0, 0), (0, 0)], [])
def jpA_1143 : List JC := [jzA_5, jgh, jgh, jgh, jzA_1142, jgh, jgh, jgh, jgh, jgh, jgh, jgh, jgh, jzA_1138, jzA_1132, jgh, jgh, jgh, jgh, jgh, jgh, jgh, jgh, jgh, jgh, jgh, jgh, jgh, jgh, jgh, jgh, jgh, jgh, jgh, jgh, jgh, jgh, jgh, jgh, jgh, jgh, jgh, jgh, jgh, jgh, jgh, jgh, jgh, jgh, jgh, jgh, jgh, jgh, jgh, jgh, jgh, jgh, jgh, jgh, jgh, jgh, jgh, jgh, jgh, jgh, jgh, jgh, jgh, jgh, jgh, jgh, jgh, jgh, jgh]
theorem jA_124_263 {xs : List Int} {d : Nat} {x1 : Int} (h_x1 : 0 ≤ x1 ∧ x1 ≤ 7) : jT xs (d + 4) 124 74 0 [(0, (4, 0)), (1, (0, x1))] [] jpA_1143 1 6 (fun k v hsN => k = 1 ∧ v = (0, 1) ∧ hsN = jpA_1139) := by
  refine jT_xaload_n (v := (4, 0)) (pcN := 1) jI_124_0 rfl rfl rfl ?_
  refine jT_xiload_n (v := (0, x1)) (pcN := 2) jI_124_1 rfl rfl rfl ?_
  refine jT_xbipush (k := 8) (pcN := 4) jI_124_2 (by decide) rfl ?_
  refine jT_fR [0] 74 (y := 115) (pcN := 7) (dC := 0) (bc1 := 0) (bc2 := 0) (c1 := 1) (c2 := 6) (as := [(4, 0), (0, x1), (0, 8)]) (asC := [(4, 0), (0, x1), (0, 8)]) (LN := [(0, (4, 0)), (1, (0, x1))]) (stN := []) (hsC := [jgh]) (v := (9, 0)) (st2 := []) (jA_115_9 (d := 0) (by omega)) (by rfl) (by rfl) (by decide +kernel) (by rfl) (by rfl) (by omega) (by omega) (by omega) (by omega) rfl ?_
  refine jT_xaload_n (v := (4, 0)) (pcN := 8) jI_124_7 rfl rfl rfl ?_
  refine jT_xgetf (a := 0) (t := 1) (ci := 13) (fi := 3) (c := jzA_5) (v := (4, 4)) (pcN := 11) jI_124_8 rfl rfl rfl rfl rfl rfl rfl ?_
  refine jT_fB [4, 12, 13, 14, 15, 16, 17, 18, 19, 20, 21, 22, 23, 24, 25, 26, 27, 28, 29, 30, 31, 32, 33, 34, 35, 36, 37, 38, 39, 40, 41, 42, 43, 44, 45, 46, 47, 48, 49, 50, 51, 52, 53, 54, 55, 56, 57, 58, 59, 60, 61, 62, 63, 64, 65, 66, 67, 68, 69, 70, 71, 72, 73] 74 (y := 66) (pcN := 14) (dC := 3) (bc1 := 0) (bc2 := 0) (c1 := 1) (c2 := 6) (as := [(4, 4)]) (asC := [(4, 0)]) (LN := [(0, (4, 0)), (1, (0, x1))]) (stN := []) (hsC := jpA_1134) (hsD := jpA_1131) (v := (0, 0)) (st2 := [(0, 0)]) (hs2 := jpA_1139) (jA_66_262 (d := 0)) (by rfl) (by rfl) (by decide +kernel) (by rfl) (by rfl) (by omega) (by omega) (by omega) (by omega) rfl (by decide +kernel) ?_
  refine jT_xiconst (k := (-1)) (pcN := 15) jI_124_14 rfl ?_
  refine jT_xicF (t := 28) (pcN := 18) jI_124_15 rfl (by decide +kernel) rfl rfl ?_
  exact jT_ret (c1 := 1) (s1 := 6) rfl (by decide) (by show 74 ≤ 74; decide) (by omega) (by omega) ⟨rfl, rfl, rfl⟩
def jzA_1144 : JC := (11, [(4, 13), (4, 14), (0, 0), (0, 1), (0, 0), (0, 0)], [])
def jzA_1145 : JC := (120, [], [15, 16, 17, 18, 19, 20, 21, 22, 23, 24, 25, 26, 27, 28, 29, 30, 31, 32, 33, 34, 35, 36, 37, 38, 39, 40, 41, 42, 43, 44, 45, 46, 47, 48, 49, 50, 51, 52, 53, 54, 55, 56, 57, 58, 59, 60, 61, 62, 63, 64, 65, 66, 67, 68, 69, 70, 71, 72, 73, 74])
def jpA_1146 : List JC := [jzA_14, jgh, jgh, jgh, jgh, jzA_1144, jgh, jgh, jgh, jgh, jgh, jgh, jgh, jgh, jzA_1145, jzA_1126, jgh, jgh, jgh, jgh, jgh, jgh, jgh, jgh, jgh, jgh, jgh, jgh, jgh, jgh, jgh, jgh, jgh, jgh, jgh, jgh, jgh, jgh, jgh, jgh, jgh, jgh, jgh, jgh, jgh, jgh, jgh, jgh, jgh, jgh, jgh, jgh, jgh, jgh, jgh, jgh, jgh, jgh, jgh, jgh, jgh, jgh, jgh, jgh, jgh, jgh, jgh, jgh, jgh, jgh, jgh, jgh, jgh, jgh, jgh]
def jzA_1147 : JC := (11, [(4, 13), (4, 14), (0, 0), (0, 0), (0, 0), (0, 0)], [])
def jpA_1148 : List JC := [jzA_14, jgh, jgh, jgh, jgh, jzA_1147, jgh, jgh, jgh, jgh, jgh, jgh, jgh, jgh, jzA_1145, jzA_1132, jgh, jgh, jgh, jgh, jgh, jgh, jgh, jgh, jgh, jgh, jgh, jgh, jgh, jgh, jgh, jgh, jgh, jgh, jgh, jgh, jgh, jgh, jgh, jgh, jgh, jgh, jgh, jgh, jgh, jgh, jgh, jgh, jgh, jgh, jgh, jgh, jgh, jgh, jgh, jgh, jgh, jgh, jgh, jgh, jgh, jgh, jgh, jgh, jgh, jgh, jgh, jgh, jgh, jgh, jgh, jgh, jgh, jgh, jgh]
theorem jA_333_264 {xs : List Int} {d : Nat} {x1 : Int} (h_x1 : 0 ≤ x1 ∧ x1 ≤ 7) : jT xs (d + 5) 333 75 0 [(0, (4, 0)), (1, (0, x1)), (2, (4, 1))] [] jpA_1148 1 6 (fun k v hsN => k = 0 ∧ v = (0, 2) ∧ hsN = jpA_1146) := by
  refine jT_xaload_n (v := (4, 1)) (pcN := 1) jI_333_0 rfl rfl rfl ?_
  refine jT_xiconst (k := 0) (pcN := 2) jI_333_1 rfl ?_
  refine jT_xaload_n (v := (4, 0)) (pcN := 3) jI_333_2 rfl rfl rfl ?_
  refine jT_xiload_n (v := (0, x1)) (pcN := 4) jI_333_3 rfl rfl rfl ?_
  exact jT_fY [0, 2, 3, 4, 5, 6, 7, 8, 9, 10, 11, 12, 13, 14, 15, 16, 17, 18, 19, 20, 21, 22, 23, 24, 25, 26, 27, 28, 29, 30, 31, 32, 33, 34, 35, 36, 37, 38, 39, 40, 41, 42, 43, 44, 45, 46, 47, 48, 49, 50, 51, 52, 53, 54, 55, 56, 57, 58, 59, 60, 61, 62, 63, 64, 65, 66, 67, 68, 69, 70, 71, 72, 73, 74] 75 (y := 124) (pcN := 7) (dC := 4) (bc1 := 1) (bc2 := 6) (as := [(4, 0), (0, x1)]) (asC := [(4, 0), (0, x1)]) (LN := [(0, (4, 0)), (1, (0, x1)), (2, (4, 1))]) (stN := [(0, 0), (4, 1)]) (hsC := jpA_1143) (hsD := jpA_1139) (hs2 := jpA_1146) (e := 1) (jA_124_263 (d := 0) (by omega)) (by rfl) (by rfl) (by decide +kernel) (by rfl) (by rfl) (by omega) (by omega) (by omega) (by omega) (by decide +kernel) (show _ from ⟨rfl, rfl, rfl⟩)
def jzA_1149 : JC := (14, [(0, 0), (4, 1), (4, 2), (4, 3), (4, 4), (0, 0), (4, 5), (0, 0), (4, 6), (4, 7), (1, 1), (4, 8), (0, 0), (4, 9), (0, 0), (0, 0), (0, 0), (0, 0), (0, 0), (0, 0), (0, (-1)), (4, 10), (4, 11), (4, 12), (4, 13), (4, 14), (4, 15), (0, 0)], [])
def jpA_1150 : List JC := [jzA_1149, jgh, jgh, jgh, jgh, jgh, jgh, jgh, jgh, jgh, jgh, jgh, jgh, jgh, jgh, jgh]
theorem jA_221_265 {xs : List Int} {d : Nat} : jT xs d 221 16 0 [(0, (4, 0))] [] jpA_1150 0 0 (fun k v hsN => k = 0 ∧ v = (9, 0) ∧ hsN = jpA_1150 ++ []) := by
  refine jT_advK 40 (pcN := 343) (LN := [(0, (4, 0))]) (stN := []) (hsN := jpA_1150) (c1 := 0) (s1 := 0) (c2 := 0) (s2 := 0) (by decide +kernel) ?_ (by omega) (by omega)
  exact jT_ret rfl (by decide) (by show 16 ≤ 16; decide) (by omega) (by omega) ⟨rfl, rfl, rfl⟩
theorem jA_224_266 {xs : List Int} {d : Nat} : jT xs d 224 16 0 [(0, (4, 0)), (1, (0, 45))] [] jpA_1150 0 0 (fun k v hsN => k = 0 ∧ v = (0, 0) ∧ hsN = jpA_1150 ++ []) := by
  refine jT_advK 5 (pcN := 26) (LN := [(0, (4, 0)), (1, (0, 45))]) (stN := [(0, 0)]) (hsN := jpA_1150) (c1 := 0) (s1 := 0) (c2 := 0) (s2 := 0) (by decide +kernel) ?_ (by omega) (by omega)
  exact jT_ret rfl (by decide) (by show 16 ≤ 16; decide) (by omega) (by omega) ⟨rfl, rfl, rfl⟩
def jpA_1151 : List JC := [jzA_1149, jgh, jgh, jgh, jgh, jgh, jgh, jgh, jgh, jgh, jgh, jgh, (100, [], (List.replicate 120 0)), (100, [], (List.replicate 120 0)), (100, [], (List.replicate 120 0)), jgh]
def jzA_1152 : JC := (100, [], (((List.replicate 120 0)).set 0 2))
def jpA_1153 : List JC := [jzA_1149, jgh, jgh, jgh, jgh, jgh, jgh, jgh, jgh, jgh, jgh, jgh, jzA_1152, (100, [], (List.replicate 120 0)), (100, [], (List.replicate 120 0)), jgh]
def jzA_1154 : JC := (100, [], (((List.replicate 120 0)).set 0 1))
def jpA_1155 : List JC := [jzA_1149, jgh, jgh, jgh, jgh, jgh, jgh, jgh, jgh, jgh, jgh, jgh, jzA_1152, jzA_1154, (100, [], (List.replicate 120 0)), jgh]
def jzA_1156 : JC := (100, [], (((List.replicate 120 0)).set 0 (-1)))
def jpA_1157 : List JC := [jzA_1149, jgh, jgh, jgh, jgh, jgh, jgh, jgh, jgh, jgh, jgh, jgh, jzA_1152, jzA_1154, jzA_1156, jgh]
theorem jA_230_267 {xs : List Int} {d : Nat} : jT xs d 230 16 0 [(0, (4, 0)), (1, (0, 2)), (2, (0, 1))] [] jpA_1151 0 0 (fun k v hsN => k = 0 ∧ v = (9, 0) ∧ hsN = jpA_1157) := by
  refine jT_advK 5 (pcN := 9) (LN := [(0, (4, 0)), (1, (0, 2)), (2, (0, 1))]) (stN := [(0, 2), (0, 0), (4, 12)]) (hsN := jpA_1151) (c1 := 0) (s1 := 0) (c2 := 0) (s2 := 0) (by decide +kernel) ?_ (by omega) (by omega)
  refine jT_iast (x := 2) (a := 12) (j := 0) (fs := []) (X := (List.replicate 120 0)) (by rfl) (by rfl) (by rfl) (by rfl) (by rw [show List.length ((List.replicate 120 0) : List Int) = 120 from List.length_replicate]; omega) ?_
  refine jT_eq (LN := [(0, (4, 0)), (1, (0, 2)), (2, (0, 1))]) (stN := []) (hsN := jpA_1153) rfl rfl rfl ?_
  refine jT_advK 5 (pcN := 19) (LN := [(0, (4, 0)), (1, (0, 2)), (2, (0, 1))]) (stN := [(0, 1), (0, 0), (4, 13)]) (hsN := jpA_1153) (c1 := 0) (s1 := 0) (c2 := 0) (s2 := 0) (by decide +kernel) ?_ (by omega) (by omega)
  refine jT_iast (x := 1) (a := 13) (j := 0) (fs := []) (X := (List.replicate 120 0)) (by rfl) (by rfl) (by rfl) (by rfl) (by rw [show List.length ((List.replicate 120 0) : List Int) = 120 from List.length_replicate]; omega) ?_
  refine jT_eq (LN := [(0, (4, 0)), (1, (0, 2)), (2, (0, 1))]) (stN := []) (hsN := jpA_1155) rfl rfl rfl ?_
  refine jT_advK 5 (pcN := 29) (LN := [(0, (4, 0)), (1, (0, 2)), (2, (0, 1))]) (stN := [(0, (-1)), (0, 0), (4, 14)]) (hsN := jpA_1155) (c1 := 0) (s1 := 0) (c2 := 0) (s2 := 0) (by decide +kernel) ?_ (by omega) (by omega)
  refine jT_iast (x := (-1)) (a := 14) (j := 0) (fs := []) (X := (List.replicate 120 0)) (by rfl) (by rfl) (by rfl) (by rfl) (by rw [show List.length ((List.replicate 120 0) : List Int) = 120 from List.length_replicate]; omega) ?_
  refine jT_eq (LN := [(0, (4, 0)), (1, (0, 2)), (2, (0, 1))]) (stN := []) (hsN := jpA_1157) rfl rfl rfl ?_
  exact jT_ret rfl (by decide) (by show 16 ≤ 16; decide) (by omega) (by omega) ⟨rfl, rfl, rfl⟩
theorem jA_226_268 {xs : List Int} {d : Nat} : jT xs d 226 16 0 [(0, (4, 0))] [] jpA_1150 0 0 (fun k v hsN => k = 0 ∧ v = (0, 0) ∧ hsN = jpA_1150 ++ []) := by
  refine jT_advK 12 (pcN := 62) (LN := [(1, (0, 0)), (0, (4, 0))]) (stN := [(0, 0)]) (hsN := jpA_1150) (c1 := 0) (s1 := 0) (c2 := 0) (s2 := 0) (by decide +kernel) ?_ (by omega) (by omega)
  exact jT_ret rfl (by decide) (by show 16 ≤ 16; decide) (by omega) (by omega) ⟨rfl, rfl, rfl⟩
theorem jA_232_269 {xs : List Int} {d : Nat} : jT xs d 232 16 0 [(0, (4, 0)), (1, (7, 26))] [] jpA_1150 0 0 (fun k v hsN => k = 0 ∧ v = (0, 0) ∧ hsN = jpA_1150 ++ []) := by
  refine jT_advK 11 (pcN := 76) (LN := [(3, (0, 0)), (2, (0, 0)), (0, (4, 0)), (1, (7, 26))]) (stN := [(0, 0)]) (hsN := jpA_1150) (c1 := 0) (s1 := 0) (c2 := 0) (s2 := 0) (by decide +kernel) ?_ (by omega) (by omega)
  exact jT_ret rfl (by decide) (by show 16 ≤ 16; decide) (by omega) (by omega) ⟨rfl, rfl, rfl⟩
theorem jA_232_270 {xs : List Int} {d : Nat} : jT xs d 232 16 0 [(0, (4, 0)), (1, (7, 27))] [] jpA_1150 0 0 (fun k v hsN => k = 0 ∧ v = (0, 0) ∧ hsN = jpA_1150 ++ []) := by
  refine jT_advK 11 (pcN := 76) (LN := [(3, (0, 0)), (2, (0, 0)), (0, (4, 0)), (1, (7, 27))]) (stN := [(0, 0)]) (hsN := jpA_1150) (c1 := 0) (s1 := 0) (c2 := 0) (s2 := 0) (by decide +kernel) ?_ (by omega) (by omega)
  exact jT_ret rfl (by decide) (by show 16 ≤ 16; decide) (by omega) (by omega) ⟨rfl, rfl, rfl⟩
theorem jA_232_271 {xs : List Int} {d : Nat} : jT xs d 232 16 0 [(0, (4, 0)), (1, (7, 28))] [] jpA_1150 0 0 (fun k v hsN => k = 0 ∧ v = (0, 0) ∧ hsN = jpA_1150 ++ []) := by
  refine jT_advK 11 (pcN := 76) (LN := [(3, (0, 0)), (2, (0, 0)), (0, (4, 0)), (1, (7, 28))]) (stN := [(0, 0)]) (hsN := jpA_1150) (c1 := 0) (s1 := 0) (c2 := 0) (s2 := 0) (by decide +kernel) ?_ (by omega) (by omega)
  exact jT_ret rfl (by decide) (by show 16 ≤ 16; decide) (by omega) (by omega) ⟨rfl, rfl, rfl⟩
theorem jA_232_272 {xs : List Int} {d : Nat} : jT xs d 232 16 0 [(0, (4, 0)), (1, (7, 29))] [] jpA_1150 0 0 (fun k v hsN => k = 0 ∧ v = (0, 0) ∧ hsN = jpA_1150 ++ []) := by
  refine jT_advK 11 (pcN := 76) (LN := [(3, (0, 0)), (2, (0, 0)), (0, (4, 0)), (1, (7, 29))]) (stN := [(0, 0)]) (hsN := jpA_1150) (c1 := 0) (s1 := 0) (c2 := 0) (s2 := 0) (by decide +kernel) ?_ (by omega) (by omega)
  exact jT_ret rfl (by decide) (by show 16 ≤ 16; decide) (by omega) (by omega) ⟨rfl, rfl, rfl⟩
theorem jA_228_273 {xs : List Int} {d : Nat} : jT xs d 228 16 0 [(0, (4, 0))] [] jpA_1150 0 0 (fun k v hsN => k = 0 ∧ v = (9, 0) ∧ hsN = jpA_22) := by
  refine jT_advK 8 (pcN := 16) (LN := [(0, (4, 0))]) (stN := []) (hsN := jpA_22) (c1 := 0) (s1 := 0) (c2 := 0) (s2 := 0) (by decide +kernel) ?_ (by omega) (by omega)
  exact jT_ret rfl (by decide) (by show 16 ≤ 16; decide) (by omega) (by omega) ⟨rfl, rfl, rfl⟩
def jpA_1158 : List JC := [jzA_21, jgh, jgh, jgh, jgh, jgh, jgh, jgh, jgh, jgh, jgh, jgh, jzA_1152, jzA_1154, jzA_1156, jgh]
theorem jA_229_274 {xs : List Int} {d : Nat} : jT xs (d + 1) 229 16 0 [(0, (4, 0))] [] jpA_1151 0 0 (fun k v hsN => k = 0 ∧ v = (9, 0) ∧ hsN = jpA_1158) := by
  refine jT_advK 3 (pcN := 3) (LN := [(0, (4, 0))]) (stN := [(0, 1), (0, 2), (4, 0)]) (hsN := jpA_1151) (c1 := 0) (s1 := 0) (c2 := 0) (s2 := 0) (by decide +kernel) ?_ (by omega) (by omega)
  refine jT_fB [0, 1, 2, 3, 4, 5, 6, 7, 8, 9, 10, 11, 12, 13, 14, 15] 16 (y := 230) (pcN := 6) (dC := 0) (bc1 := 0) (bc2 := 0) (c1 := 0) (c2 := 0) (as := [(4, 0), (0, 2), (0, 1)]) (asC := [(4, 0), (0, 2), (0, 1)]) (LN := [(0, (4, 0))]) (stN := []) (hsC := jpA_1151) (hsD := jpA_1157) (v := (9, 0)) (st2 := []) (hs2 := jpA_1157) (jA_230_267 (d := 0)) (by rfl) (by rfl) (by decide +kernel) (by rfl) (by rfl) (by omega) (by omega) (by omega) (by omega) rfl (by decide +kernel) ?_
  refine jT_advK 1 (pcN := 7) (LN := [(0, (4, 0))]) (stN := [(4, 0)]) (hsN := jpA_1157) (c1 := 0) (s1 := 0) (c2 := 0) (s2 := 0) (by decide +kernel) ?_ (by omega) (by omega)
  refine jT_fR [0, 1, 2, 3, 4, 5, 6, 7, 8, 9, 10, 11, 12, 13, 14, 15] 16 (y := 226) (pcN := 10) (dC := 0) (bc1 := 0) (bc2 := 0) (c1 := 0) (c2 := 0) (as := [(4, 0)]) (asC := [(4, 0)]) (LN := [(0, (4, 0))]) (stN := []) (hsC := jpA_1150) (v := (0, 0)) (st2 := [(0, 0)]) (jA_226_268 (d := 0)) (by rfl) (by rfl) (by decide +kernel) (by rfl) (by rfl) (by omega) (by omega) (by omega) (by omega) rfl ?_
  refine jT_advK 3 (pcN := 24) (LN := [(0, (4, 0))]) (stN := [(7, 26), (4, 0)]) (hsN := jpA_1157) (c1 := 0) (s1 := 0) (c2 := 0) (s2 := 0) (by decide +kernel) ?_ (by omega) (by omega)
  refine jT_fR [0, 1, 2, 3, 4, 5, 6, 7, 8, 9, 10, 11, 12, 13, 14, 15] 16 (y := 232) (pcN := 27) (dC := 0) (bc1 := 0) (bc2 := 0) (c1 := 0) (c2 := 0) (as := [(4, 0), (7, 26)]) (asC := [(4, 0), (7, 26)]) (LN := [(0, (4, 0))]) (stN := []) (hsC := jpA_1150) (v := (0, 0)) (st2 := [(0, 0)]) (jA_232_269 (d := 0)) (by rfl) (by rfl) (by decide +kernel) (by rfl) (by rfl) (by omega) (by omega) (by omega) (by omega) rfl ?_
  refine jT_advK 3 (pcN := 43) (LN := [(0, (4, 0))]) (stN := [(7, 27), (4, 0)]) (hsN := jpA_1157) (c1 := 0) (s1 := 0) (c2 := 0) (s2 := 0) (by decide +kernel) ?_ (by omega) (by omega)
  refine jT_fR [0, 1, 2, 3, 4, 5, 6, 7, 8, 9, 10, 11, 12, 13, 14, 15] 16 (y := 232) (pcN := 46) (dC := 0) (bc1 := 0) (bc2 := 0) (c1 := 0) (c2 := 0) (as := [(4, 0), (7, 27)]) (asC := [(4, 0), (7, 27)]) (LN := [(0, (4, 0))]) (stN := []) (hsC := jpA_1150) (v := (0, 0)) (st2 := [(0, 0)]) (jA_232_270 (d := 0)) (by rfl) (by rfl) (by decide +kernel) (by rfl) (by rfl) (by omega) (by omega) (by omega) (by omega) rfl ?_
  refine jT_advK 3 (pcN := 62) (LN := [(0, (4, 0))]) (stN := [(7, 28), (4, 0)]) (hsN := jpA_1157) (c1 := 0) (s1 := 0) (c2 := 0) (s2 := 0) (by decide +kernel) ?_ (by omega) (by omega)
  refine jT_fR [0, 1, 2, 3, 4, 5, 6, 7, 8, 9, 10, 11, 12, 13, 14, 15] 16 (y := 232) (pcN := 65) (dC := 0) (bc1 := 0) (bc2 := 0) (c1 := 0) (c2 := 0) (as := [(4, 0), (7, 28)]) (asC := [(4, 0), (7, 28)]) (LN := [(0, (4, 0))]) (stN := []) (hsC := jpA_1150) (v := (0, 0)) (st2 := [(0, 0)]) (jA_232_271 (d := 0)) (by rfl) (by rfl) (by decide +kernel) (by rfl) (by rfl) (by omega) (by omega) (by omega) (by omega) rfl ?_
  refine jT_advK 7 (pcN := 107) (LN := [(0, (4, 0))]) (stN := [(7, 29), (4, 0)]) (hsN := jpA_1157) (c1 := 0) (s1 := 0) (c2 := 0) (s2 := 0) (by decide +kernel) ?_ (by omega) (by omega)
  refine jT_fR [0, 1, 2, 3, 4, 5, 6, 7, 8, 9, 10, 11, 12, 13, 14, 15] 16 (y := 232) (pcN := 110) (dC := 0) (bc1 := 0) (bc2 := 0) (c1 := 0) (c2 := 0) (as := [(4, 0), (7, 29)]) (asC := [(4, 0), (7, 29)]) (LN := [(0, (4, 0))]) (stN := []) (hsC := jpA_1150) (v := (0, 0)) (st2 := [(0, 0)]) (jA_232_272 (d := 0)) (by rfl) (by rfl) (by decide +kernel) (by rfl) (by rfl) (by omega) (by omega) (by omega) (by omega) rfl ?_
  refine jT_advK 2 (pcN := 114) (LN := [(0, (4, 0))]) (stN := [(4, 0)]) (hsN := jpA_1157) (c1 := 0) (s1 := 0) (c2 := 0) (s2 := 0) (by decide +kernel) ?_ (by omega) (by omega)
  refine jT_fB [0, 1, 2, 3, 4, 5, 6, 7, 8, 9, 10, 11, 12, 13, 14, 15] 16 (y := 228) (pcN := 117) (dC := 0) (bc1 := 0) (bc2 := 0) (c1 := 0) (c2 := 0) (as := [(4, 0)]) (asC := [(4, 0)]) (LN := [(0, (4, 0))]) (stN := []) (hsC := jpA_1150) (hsD := jpA_22) (v := (9, 0)) (st2 := []) (hs2 := jpA_1158) (jA_228_273 (d := 0)) (by rfl) (by rfl) (by decide +kernel) (by rfl) (by rfl) (by omega) (by omega) (by omega) (by omega) rfl (by decide +kernel) ?_
  refine jT_advK 4 (pcN := 129) (LN := [(0, (4, 0))]) (stN := []) (hsN := jpA_1158) (c1 := 0) (s1 := 0) (c2 := 0) (s2 := 0) (by decide +kernel) ?_ (by omega) (by omega)
  exact jT_ret rfl (by decide) (by show 16 ≤ 16; decide) (by omega) (by omega) ⟨rfl, rfl, rfl⟩
def jpA_1159 : List JC := [jzA_1149, jgh, jgh, jgh, jgh, jgh, jgh, jgh, jgh, jgh, jgh, (100, [], (List.replicate 120 0)), (100, [], (List.replicate 120 0)), (100, [], (List.replicate 120 0)), (100, [], (List.replicate 120 0)), (100, [], (List.replicate 120 0))]
def jpA_1160 : List JC := [jzA_1149, jgh, jgh, jgh, jgh, jgh, jgh, jgh, jgh, jgh, jgh, jzA_1154, (100, [], (List.replicate 120 0)), (100, [], (List.replicate 120 0)), (100, [], (List.replicate 120 0)), (100, [], (List.replicate 120 0))]
def jpA_1161 : List JC := [jzA_1149, jgh, jgh, jgh, jgh, jgh, jgh, jgh, jgh, jgh, jgh, jzA_1154, (100, [], (List.replicate 120 0)), (100, [], (List.replicate 120 0)), (100, [], (List.replicate 120 0)), jzA_1154]
def jpA_1162 : List JC := [jzA_21, jgh, jgh, jgh, jgh, jgh, jgh, jgh, jgh, jgh, jgh, jzA_1154, jzA_1152, jzA_1154, jzA_1156, jzA_1154]
def jzA_1163 : JC := (14, [(0, 0), (4, 1), (4, 2), (4, 3), (4, 4), (0, 0), (4, 5), (0, 0), (4, 6), (4, 7), (1, 1), (4, 8), (0, 0), (4, 9), (0, 0), (0, 0), (0, 0), (0, 0), (0, 0), (0, 0), (0, 0), (4, 10), (4, 11), (4, 12), (4, 13), (4, 14), (4, 15), (0, 1)], [])
def jpA_1164 : List JC := [jzA_1163, jgh, jgh, jgh, jgh, jgh, jgh, jgh, jgh, jgh, jgh, jzA_1154, jzA_1152, jzA_1154, jzA_1156, jzA_1154]
theorem jA_225_275 {xs : List Int} {d : Nat} : jT xs (d + 2) 225 16 0 [(0, (4, 0))] [] jpA_1159 0 0 (fun k v hsN => k = 0 ∧ v = (9, 0) ∧ hsN = jpA_1164) := by
  refine jT_advK 5 (pcN := 9) (LN := [(0, (4, 0))]) (stN := [(0, 1), (0, 0), (4, 11)]) (hsN := jpA_1159) (c1 := 0) (s1 := 0) (c2 := 0) (s2 := 0) (by decide +kernel) ?_ (by omega) (by omega)
  refine jT_iast (x := 1) (a := 11) (j := 0) (fs := []) (X := (List.replicate 120 0)) (by rfl) (by rfl) (by rfl) (by rfl) (by rw [show List.length ((List.replicate 120 0) : List Int) = 120 from List.length_replicate]; omega) ?_
  refine jT_eq (LN := [(0, (4, 0))]) (stN := []) (hsN := jpA_1160) rfl rfl rfl ?_
  refine jT_advK 5 (pcN := 19) (LN := [(0, (4, 0))]) (stN := [(0, 1), (0, 0), (4, 15)]) (hsN := jpA_1160) (c1 := 0) (s1 := 0) (c2 := 0) (s2 := 0) (by decide +kernel) ?_ (by omega) (by omega)
  refine jT_iast (x := 1) (a := 15) (j := 0) (fs := []) (X := (List.replicate 120 0)) (by rfl) (by rfl) (by rfl) (by rfl) (by rw [show List.length ((List.replicate 120 0) : List Int) = 120 from List.length_replicate]; omega) ?_
  refine jT_eq (LN := [(0, (4, 0))]) (stN := []) (hsN := jpA_1161) rfl rfl rfl ?_
  refine jT_advK 9 (pcN := 83) (LN := [(0, (4, 0))]) (stN := [(4, 0)]) (hsN := jpA_1161) (c1 := 0) (s1 := 0) (c2 := 0) (s2 := 0) (by decide +kernel) ?_ (by omega) (by omega)
  refine jT_fB [0, 1, 2, 3, 4, 5, 6, 7, 8, 9, 10, 11, 12, 13, 14, 15] 16 (y := 229) (pcN := 86) (dC := 1) (bc1 := 0) (bc2 := 0) (c1 := 0) (c2 := 0) (as := [(4, 0)]) (asC := [(4, 0)]) (LN := [(0, (4, 0))]) (stN := []) (hsC := jpA_1151) (hsD := jpA_1158) (v := (9, 0)) (st2 := []) (hs2 := jpA_1162) (jA_229_274 (d := 0)) (by rfl) (by rfl) (by decide +kernel) (by rfl) (by rfl) (by omega) (by omega) (by omega) (by omega) rfl (by decide +kernel) ?_
  refine jT_advK 10 (pcN := 156) (LN := [(0, (4, 0))]) (stN := []) (hsN := jpA_1164) (c1 := 0) (s1 := 0) (c2 := 0) (s2 := 0) (by decide +kernel) ?_ (by omega) (by omega)
  exact jT_ret rfl (by decide) (by show 16 ≤ 16; decide) (by omega) (by omega) ⟨rfl, rfl, rfl⟩
def jpA_1165 : List JC := [jzA_1149, jgh, jgh, jgh, jgh, jgh, jgh, jgh, jgh, jgh, (100, [], (List.replicate 120 0)), (100, [], (List.replicate 120 0)), (100, [], (List.replicate 120 0)), (100, [], (List.replicate 120 0)), (100, [], (List.replicate 120 0)), (100, [], (List.replicate 120 0))]
def jzA_1166 : JC := (100, [], (((List.replicate 120 0)).set 0 0))
def jpA_1167 : List JC := [jzA_1149, jgh, jgh, jgh, jgh, jgh, jgh, jgh, jgh, jgh, jzA_1166, (100, [], (List.replicate 120 0)), (100, [], (List.replicate 120 0)), (100, [], (List.replicate 120 0)), (100, [], (List.replicate 120 0)), (100, [], (List.replicate 120 0))]
theorem jI_220_44 : jmI (jm 220) 44 = (.iaload, 1) := by rfl
def jpA_1169 : List JC := [jzA_1163, jgh, jgh, jgh, jgh, jgh, jgh, jgh, jgh, jgh, jzA_1166, jzA_1154, jzA_1152, jzA_1154, jzA_1156, jzA_1154]
def jpA_1170 : List JC := [jzA_21, jgh, jgh, jgh, jgh, jgh, jgh, jgh, jgh, jgh, (100, [], (List.replicate 120 0)), (100, [], (List.replicate 120 0)), (100, [], (List.replicate 120 0)), (100, [], (List.replicate 120 0)), (100, [], (List.replicate 120 0)), (100, [], (List.replicate 120 0))]
theorem jA_220_276 {xs : List Int} {d : Nat} : jT xs (d + 3) 220 16 0 [(0, (4, 0))] [] jpA_1170 0 0 (fun k v hsN => k = 0 ∧ v = (9, 0) ∧ hsN = jpA_1169) := by
  refine jT_advK 10 (pcN := 16) (LN := [(0, (4, 0))]) (stN := [(4, 0)]) (hsN := jpA_1165) (c1 := 0) (s1 := 0) (c2 := 0) (s2 := 0) (by decide +kernel) ?_ (by omega) (by omega)
  refine jT_fR [0, 1, 2, 3, 4, 5, 6, 7, 8, 9, 10, 11, 12, 13, 14, 15] 16 (y := 221) (pcN := 19) (dC := 0) (bc1 := 0) (bc2 := 0) (c1 := 0) (c2 := 0) (as := [(4, 0)]) (asC := [(4, 0)]) (LN := [(0, (4, 0))]) (stN := []) (hsC := jpA_1150) (v := (9, 0)) (st2 := []) (jA_221_265 (d := 0)) (by rfl) (by rfl) (by decide +kernel) (by rfl) (by rfl) (by omega) (by omega) (by omega) (by omega) rfl ?_
  refine jT_advK 5 (pcN := 27) (LN := [(0, (4, 0))]) (stN := [(0, 45), (4, 0), (0, 0), (4, 10)]) (hsN := jpA_1165) (c1 := 0) (s1 := 0) (c2 := 0) (s2 := 0) (by decide +kernel) ?_ (by omega) (by omega)
  refine jT_fR [0, 1, 2, 3, 4, 5, 6, 7, 8, 9, 10, 11, 12, 13, 14, 15] 16 (y := 224) (pcN := 30) (dC := 0) (bc1 := 0) (bc2 := 0) (c1 := 0) (c2 := 0) (as := [(4, 0), (0, 45)]) (asC := [(4, 0), (0, 45)]) (LN := [(0, (4, 0))]) (stN := [(0, 0), (4, 10)]) (hsC := jpA_1150) (v := (0, 0)) (st2 := [(0, 0), (0, 0), (4, 10)]) (jA_224_266 (d := 0)) (by rfl) (by rfl) (by decide +kernel) (by rfl) (by rfl) (by omega) (by omega) (by omega) (by omega) rfl ?_
  refine jT_advK 2 (pcN := 38) (LN := [(0, (4, 0))]) (stN := [(0, 0), (0, 0), (4, 10)]) (hsN := jpA_1165) (c1 := 0) (s1 := 0) (c2 := 0) (s2 := 0) (by decide +kernel) ?_ (by omega) (by omega)
  refine jT_iast (x := 0) (a := 10) (j := 0) (fs := []) (X := (List.replicate 120 0)) (by rfl) (by rfl) (by rfl) (by rfl) (by rw [show List.length ((List.replicate 120 0) : List Int) = 120 from List.length_replicate]; omega) ?_
  refine jT_eq (LN := [(0, (4, 0))]) (stN := []) (hsN := jpA_1167) rfl rfl rfl ?_
  refine jT_advK 3 (pcN := 44) (LN := [(0, (4, 0))]) (stN := [(0, 0), (4, 10)]) (hsN := jpA_1167) (c1 := 0) (s1 := 0) (c2 := 0) (s2 := 0) (by decide +kernel) ?_ (by omega) (by omega)
  refine jT_iald (x := 0) (a := 10) (j := 0) (fs := []) (X := (((List.replicate 120 0)).set 0 0)) (by rfl) (by rfl) (by rfl) (by rfl) (by rw [List.getElem?_set_self (by simp only [List.length_set, List.length_replicate, List.length_cons, List.length_nil, jS0_len]; omega)]) ?_
  refine jT_eq (LN := [(0, (4, 0))]) (stN := [(0, 0)]) (hsN := jpA_1167) rfl rfl rfl ?_
  refine jT_advK 3 (pcN := 54) (LN := [(0, (4, 0))]) (stN := [(4, 0)]) (hsN := jpA_1167) (c1 := 0) (s1 := 0) (c2 := 0) (s2 := 0) (by decide +kernel) ?_ (by omega) (by omega)
  refine jT_fB [0, 1, 2, 3, 4, 5, 6, 7, 8, 9, 10, 11, 12, 13, 14, 15] 16 (y := 225) (pcN := 57) (dC := 2) (bc1 := 0) (bc2 := 0) (c1 := 0) (c2 := 0) (as := [(4, 0)]) (asC := [(4, 0)]) (LN := [(0, (4, 0))]) (stN := []) (hsC := jpA_1159) (hsD := jpA_1164) (v := (9, 0)) (st2 := []) (hs2 := jpA_1169) (jA_225_275 (d := 0)) (by rfl) (by rfl) (by decide +kernel) (by rfl) (by rfl) (by omega) (by omega) (by omega) (by omega) rfl (by decide +kernel) ?_
  refine jT_advK 4 (pcN := 137) (LN := [(0, (4, 0))]) (stN := []) (hsN := jpA_1169) (c1 := 0) (s1 := 0) (c2 := 0) (s2 := 0) (by decide +kernel) ?_ (by omega) (by omega)
  exact jT_ret rfl (by decide) (by show 16 ≤ 16; decide) (by omega) (by omega) ⟨rfl, rfl, rfl⟩
def jzA_1171 : JC := (14, [(0, 2), (4, 1), (4, 2), (4, 3), (4, 4), (0, 0), (4, 5), (0, 0), (4, 6), (4, 7), (1, 1), (4, 8), (0, 0), (4, 9), (0, 0), (0, 0), (0, 0), (0, 0), (0, 0), (0, 0), (0, 0), (4, 10), (4, 11), (4, 12), (4, 13), (4, 14), (4, 15), (0, 1)], [])
def jpA_1172 : List JC := [jzA_1171, jgh, jgh, jgh, jgh, jgh, jgh, jgh, jgh, jgh, jgh, jgh, jgh, jgh, jgh, jgh]
def jpA_1173 : List JC := [jzA_1163, jgh, jgh, jgh, jgh, jgh, jgh, jgh, jgh, jgh, jgh, jgh, jgh, jgh, jgh, jgh]
theorem jA_191_277 {xs : List Int} {d : Nat} : jT xs d 191 16 0 [(0, (4, 0)), (1, (0, 0)), (2, (0, 2))] [] jpA_1173 0 0 (fun k v hsN => k = 0 ∧ v = (0, 1) ∧ hsN = jpA_1172) := by
  refine jT_advK 9 (pcN := 18) (LN := [(0, (4, 0)), (1, (0, 0)), (2, (0, 2))]) (stN := [(0, 1)]) (hsN := jpA_1172) (c1 := 0) (s1 := 0) (c2 := 0) (s2 := 0) (by decide +kernel) ?_ (by omega) (by omega)
  exact jT_ret rfl (by decide) (by show 16 ≤ 16; decide) (by omega) (by omega) ⟨rfl, rfl, rfl⟩
theorem jI_219_13 : jmI (jm 219) 13 = (.aload_n 0, 1) := by rfl
theorem jI_219_17 : jmI (jm 219) 17 = (.aload_n 0, 1) := by rfl
theorem jI_219_18 : jmI (jm 219) 18 = (.aload_n 0, 1) := by rfl
theorem jI_219_19 : jmI (jm 219) 19 = (.getfield 265, 3) := by rfl
theorem jI_219_22 : jmI (jm 219) 22 = (.iconst (-1), 1) := by rfl
theorem jI_219_23 : jmI (jm 219) 23 = (.if_icmp .ne 7, 3) := by rfl
theorem jI_219_30 : jmI (jm 219) 30 = (.iconst 0, 1) := by rfl
theorem jI_219_31 : jmI (jm 219) 31 = (.iconst 2, 1) := by rfl
def jpA_1182 : List JC := [jzA_1171, jgh, jgh, jgh, jgh, jgh, jgh, jgh, jgh, jgh, jzA_1166, jzA_1154, jzA_1152, jzA_1154, jzA_1156, jzA_1154]
theorem jI_219_35 : jmI (jm 219) 35 = (.ifCond .ne 15, 3) := by rfl
theorem jI_219_50 : jmI (jm 219) 50 = (.iconst 0, 1) := by rfl
theorem jA_219_278 {xs : List Int} {d : Nat} {x1 : Int} (h_x1 : 0 ≤ x1 ∧ x1 ≤ 7) : jT xs (d + 4) 219 16 0 [(0, (4, 0)), (1, (0, x1))] [] jpA_1170 0 0 (fun k v hsN => k = 0 ∧ v = (0, 0) ∧ hsN = jpA_1182) := by
  refine jT_xaload_n (v := (4, 0)) (pcN := 1) jI_219_0 rfl rfl rfl ?_
  refine jT_xiload_n (v := (0, x1)) (pcN := 2) jI_219_1 rfl rfl rfl ?_
  refine jT_fR [] 16 (y := 188) (pcN := 5) (dC := 1) (bc1 := 0) (bc2 := 0) (c1 := 0) (c2 := 0) (as := [(0, x1)]) (asC := [(0, x1)]) (LN := [(0, (4, 0)), (1, (0, x1))]) (stN := [(4, 0)]) (hsC := []) (v := (0, 1)) (st2 := [(0, 1), (4, 0)]) (jA_188_13 (d := 0) (by omega)) (by rfl) (by rfl) (by decide +kernel) (by rfl) (by rfl) (by omega) (by omega) (by omega) (by omega) rfl ?_
  refine jT_fR [0, 1, 2, 3, 4, 5, 6, 7, 8, 9, 10, 11, 12, 13, 14, 15] 16 (y := 190) (pcN := 8) (dC := 1) (bc1 := 0) (bc2 := 0) (c1 := 0) (c2 := 0) (as := [(4, 0), (0, 1)]) (asC := [(4, 0), (0, 1)]) (LN := [(0, (4, 0)), (1, (0, x1))]) (stN := []) (hsC := jpA_22) (v := (0, 0)) (st2 := [(0, 0)]) (jA_190_39 (d := 0)) (by rfl) (by rfl) (by decide +kernel) (by rfl) (by rfl) (by omega) (by omega) (by omega) (by omega) rfl ?_
  refine jT_xifT (pcN := 13) jI_219_8 rfl (by decide +kernel) rfl ?_
  refine jT_xaload_n (v := (4, 0)) (pcN := 14) jI_219_13 rfl rfl rfl ?_
  refine jT_fB [0, 1, 2, 3, 4, 5, 6, 7, 8, 9, 10, 11, 12, 13, 14, 15] 16 (y := 220) (pcN := 17) (dC := 3) (bc1 := 0) (bc2 := 0) (c1 := 0) (c2 := 0) (as := [(4, 0)]) (asC := [(4, 0)]) (LN := [(0, (4, 0)), (1, (0, x1))]) (stN := []) (hsC := jpA_1170) (hsD := jpA_1169) (v := (9, 0)) (st2 := []) (hs2 := jpA_1169) (jA_220_276 (d := 0)) (by rfl) (by rfl) (by decide +kernel) (by rfl) (by rfl) (by omega) (by omega) (by omega) (by omega) rfl (by decide +kernel) ?_
  refine jT_xaload_n (v := (4, 0)) (pcN := 18) jI_219_17 rfl rfl rfl ?_
  refine jT_xaload_n (v := (4, 0)) (pcN := 19) jI_219_18 rfl rfl rfl ?_
  refine jT_xgetf (a := 0) (t := 1) (ci := 14) (fi := 20) (c := jzA_1163) (v := (0, 0)) (pcN := 22) jI_219_19 rfl rfl rfl rfl rfl rfl rfl ?_
  refine jT_xiconst (k := (-1)) (pcN := 23) jI_219_22 rfl ?_
  refine jT_xicT (pcN := 30) jI_219_23 rfl (by decide +kernel) rfl ?_
  refine jT_xiconst (k := 0) (pcN := 31) jI_219_30 rfl ?_
  refine jT_xiconst (k := 2) (pcN := 32) jI_219_31 rfl ?_
  refine jT_fB [0, 1, 2, 3, 4, 5, 6, 7, 8, 9, 10, 11, 12, 13, 14, 15] 16 (y := 191) (pcN := 35) (dC := 0) (bc1 := 0) (bc2 := 0) (c1 := 0) (c2 := 0) (as := [(4, 0), (0, 0), (0, 2)]) (asC := [(4, 0), (0, 0), (0, 2)]) (LN := [(0, (4, 0)), (1, (0, x1))]) (stN := []) (hsC := jpA_1173) (hsD := jpA_1172) (v := (0, 1)) (st2 := [(0, 1)]) (hs2 := jpA_1182) (jA_191_277 (d := 0)) (by rfl) (by rfl) (by decide +kernel) (by rfl) (by rfl) (by omega) (by omega) (by omega) (by omega) rfl (by decide +kernel) ?_
  refine jT_xifT (pcN := 50) jI_219_35 rfl (by decide +kernel) rfl ?_
  refine jT_xiconst (k := 0) (pcN := 51) jI_219_50 rfl ?_
  exact jT_ret rfl (by decide) (by show 16 ≤ 16; decide) (by omega) (by omega) ⟨rfl, rfl, rfl⟩
theorem jA_186_279 {xs : List Int} {d : Nat} : jT xs d 186 16 0 [(0, (4, 0))] [] jpA_1172 0 0 (fun k v hsN => k = 0 ∧ v = (0, 2) ∧ hsN = jpA_1172 ++ []) := by
  refine jT_advK 2 (pcN := 4) (LN := [(0, (4, 0))]) (stN := [(0, 2)]) (hsN := jpA_1172) (c1 := 0) (s1 := 0) (c2 := 0) (s2 := 0) (by decide +kernel) ?_ (by omega) (by omega)
  exact jT_ret rfl (by decide) (by show 16 ≤ 16; decide) (by omega) (by omega) ⟨rfl, rfl, rfl⟩
theorem jA_124_280 {xs : List Int} {d : Nat} {x1 : Int} (h_x1 : 8 ≤ x1 ∧ x1 ≤ 2147483647) : jT xs (d + 1) 124 12 0 [(0, (4, 0)), (1, (0, x1))] [] jpA_6 1 6 (fun k v hsN => k = 1 ∧ v = (0, 0) ∧ hsN = jpA_6 ++ []) := by
  refine jT_xaload_n (v := (4, 0)) (pcN := 1) jI_124_0 rfl rfl rfl ?_
  refine jT_xiload_n (v := (0, x1)) (pcN := 2) jI_124_1 rfl rfl rfl ?_
  refine jT_xbipush (k := 8) (pcN := 4) jI_124_2 (by decide) rfl ?_
  exact jT_fX [0] 12 (y := 115) (pcN := 7) (dC := 0) (bc1 := 1) (bc2 := 6) (as := [(4, 0), (0, x1), (0, 8)]) (asC := [(4, 0), (0, x1), (0, 8)]) (LN := [(0, (4, 0)), (1, (0, x1))]) (stN := []) (hsC := [jgh]) (e := 0) (jA_115_65 (d := 0) (by omega)) (by rfl) (by rfl) (by decide +kernel) (by rfl) (by rfl) (by omega) (by omega) (by omega) (by omega) ⟨rfl, ⟨rfl, rfl, rfl⟩⟩
theorem jA_333_281 {xs : List Int} {d : Nat} {x1 : Int} (h_x1 : 8 ≤ x1 ∧ x1 ≤ 2147483647) : jT xs (d + 2) 333 13 0 [(0, (4, 0)), (1, (0, x1)), (2, (4, 1))] [] jpA_15 1 6 (fun k v hsN => k = 0 ∧ v = (0, 1) ∧ hsN = jpA_15 ++ []) := by
  refine jT_xaload_n (v := (4, 1)) (pcN := 1) jI_333_0 rfl rfl rfl ?_
  refine jT_xiconst (k := 0) (pcN := 2) jI_333_1 rfl ?_
  refine jT_xaload_n (v := (4, 0)) (pcN := 3) jI_333_2 rfl rfl rfl ?_
  refine jT_xiload_n (v := (0, x1)) (pcN := 4) jI_333_3 rfl rfl rfl ?_
  exact jT_fX [0, 2, 3, 4, 5, 6, 7, 8, 9, 10, 11, 12] 13 (y := 124) (pcN := 7) (dC := 1) (bc1 := 1) (bc2 := 6) (as := [(4, 0), (0, x1)]) (asC := [(4, 0), (0, x1)]) (LN := [(0, (4, 0)), (1, (0, x1)), (2, (4, 1))]) (stN := [(0, 0), (4, 1)]) (hsC := jpA_6) (e := 0) (jA_124_280 (d := 0) (by omega)) (by rfl) (by rfl) (by decide +kernel) (by rfl) (by rfl) (by omega) (by omega) (by omega) (by omega) (show _ from ⟨rfl, rfl, rfl⟩)
theorem jA_219_282 {xs : List Int} {d : Nat} {x1 : Int} (h_x1 : 8 ≤ x1 ∧ x1 ≤ 2147483647) : jT xs (d + 2) 219 16 0 [(0, (4, 0)), (1, (0, x1))] [] jpA_22 0 0 (fun k v hsN => k = 0 ∧ v = (0, 0) ∧ hsN = jpA_20) := by
  refine jT_xaload_n (v := (4, 0)) (pcN := 1) jI_219_0 rfl rfl rfl ?_
  refine jT_xiload_n (v := (0, x1)) (pcN := 2) jI_219_1 rfl rfl rfl ?_
  refine jT_fR [] 16 (y := 188) (pcN := 5) (dC := 1) (bc1 := 0) (bc2 := 0) (c1 := 0) (c2 := 0) (as := [(0, x1)]) (asC := [(0, x1)]) (LN := [(0, (4, 0)), (1, (0, x1))]) (stN := [(4, 0)]) (hsC := []) (v := (0, 0)) (st2 := [(0, 0), (4, 0)]) (jA_188_68 (d := 0) (by omega)) (by rfl) (by rfl) (by decide +kernel) (by rfl) (by rfl) (by omega) (by omega) (by omega) (by omega) rfl ?_
  refine jT_fB [0, 1, 2, 3, 4, 5, 6, 7, 8, 9, 10, 11, 12, 13, 14, 15] 16 (y := 190) (pcN := 8) (dC := 1) (bc1 := 0) (bc2 := 0) (c1 := 0) (c2 := 0) (as := [(4, 0), (0, 0)]) (asC := [(4, 0), (0, 0)]) (LN := [(0, (4, 0)), (1, (0, x1))]) (stN := []) (hsC := jpA_22) (hsD := jpA_20) (v := (0, 1)) (st2 := [(0, 1)]) (hs2 := jpA_20) (jA_190_6 (d := 0)) (by rfl) (by rfl) (by decide +kernel) (by rfl) (by rfl) (by omega) (by omega) (by omega) (by omega) rfl (by decide +kernel) ?_
  refine jT_xifF (t := 13) (pcN := 11) jI_219_8 rfl (by decide +kernel) rfl rfl ?_
  refine jT_xiconst (k := 0) (pcN := 12) jI_219_11 rfl ?_
  exact jT_ret rfl (by decide) (by show 16 ≤ 16; decide) (by omega) (by omega) ⟨rfl, rfl, rfl⟩
theorem jI_379_847 : jmI (jm 379) 847 = (.aload_n 1, 1) := by rfl
theorem jI_379_848 : jmI (jm 379) 848 = (.aload_n 0, 1) := by rfl
theorem jI_379_849 : jmI (jm 379) 849 = (.iload 5, 2) := by rfl
theorem jI_379_851 : jmI (jm 379) 851 = (.iconst 1, 1) := by rfl
theorem jI_379_852 : jmI (jm 379) 852 = (.iadd, 1) := by rfl
theorem jI_379_854 : jmI (jm 379) 854 = (.aload_n 3, 1) := by rfl
theorem jI_379_858 : jmI (jm 379) 858 = (.istore 6, 2) := by rfl
theorem jI_379_860 : jmI (jm 379) 860 = (.aload_n 2, 1) := by rfl
theorem jI_379_861 : jmI (jm 379) 861 = (.aload_n 0, 1) := by rfl
theorem jI_379_862 : jmI (jm 379) 862 = (.iload 5, 2) := by rfl
theorem jI_379_864 : jmI (jm 379) 864 = (.iconst 1, 1) := by rfl
theorem jI_379_865 : jmI (jm 379) 865 = (.iadd, 1) := by rfl
theorem jI_379_870 : jmI (jm 379) 870 = (.istore 7, 2) := by rfl
theorem jI_379_872 : jmI (jm 379) 872 = (.aload_n 2, 1) := by rfl
theorem jI_379_876 : jmI (jm 379) 876 = (.iload 6, 2) := by rfl
theorem jI_379_878 : jmI (jm 379) 878 = (.if_icmp .eq 5, 3) := by rfl
theorem jI_379_883 : jmI (jm 379) 883 = (.iload 6, 2) := by rfl
theorem jI_379_885 : jmI (jm 379) 885 = (.ifCond .ne 15, 3) := by rfl
theorem jI_379_900 : jmI (jm 379) 900 = (.goto 2840, 3) := by rfl
set_option maxRecDepth 100000 in
theorem jL_7_0 {d : Nat} {x0 x1 x2 x3 x4 : Int} (h_x0 : (-2147483648) ≤ x0 ∧ x0 ≤ 2147483647) (h_x1 : (-2147483648) ≤ x1 ∧ x1 ≤ (-1)) (h_x2 : (-2147483648) ≤ x2 ∧ x2 ≤ 2147483647) (h_x3 : (-2147483648) ≤ x3 ∧ x3 ≤ 2147483647) (h_x4 : (-2147483648) ≤ x4 ∧ x4 ≤ 2147483647) : jT [x0, x1, x2, x3, x4] (d + 3) 379 30 847 [(5, (0, 0)), (4, (4, 3)), (3, (4, 2)), (2, (4, 1)), (1, (4, 0)), (0, (6, 0))] [] jpA_267 1 6 (fun k v hsN => k = 0 ∧ v = (0, 1)) := by
  refine jT_xaload_n (v := (4, 0)) (pcN := 848) jI_379_847 rfl rfl rfl ?_
  refine jT_xaload_n (v := (6, 0)) (pcN := 849) jI_379_848 rfl rfl rfl ?_
  refine jT_xiload (v := (0, 0)) (pcN := 851) jI_379_849 rfl rfl rfl ?_
  refine jT_xiconst (k := 1) (pcN := 852) jI_379_851 rfl ?_
  refine jT_xiadd (x := 0) (y := 1) (z := 1) (pcN := 853) jI_379_852 rfl (by decide) rfl ?_
  refine jT_adv 1 (pcN := 854) (LN := [(5, (0, 0)), (4, (4, 3)), (3, (4, 2)), (2, (4, 1)), (1, (4, 0)), (0, (6, 0))]) (stN := [(0, x1), (4, 0)]) (hsN := jpA_267) (c1 := 0) (s1 := 0) (c2 := 1) (s2 := 6) (by exact rfl) ?_ (by omega) (by omega)
  refine jT_xaload_n (v := (4, 2)) (pcN := 855) jI_379_854 rfl rfl rfl ?_
  refine jT_fR [0, 2, 4, 5, 6, 7, 8, 9, 10, 11, 12, 13, 14] 30 (y := 333) (pcN := 858) (dC := 2) (bc1 := 1) (bc2 := 6) (c1 := 0) (c2 := 0) (as := [(4, 0), (0, x1), (4, 2)]) (asC := [(4, 0), (0, x1), (4, 1)]) (LN := [(5, (0, 0)), (4, (4, 3)), (3, (4, 2)), (2, (4, 1)), (1, (4, 0)), (0, (6, 0))]) (stN := []) (hsC := jpA_15) (v := (0, 1)) (st2 := [(0, 1)]) (jA_333_255 (d := 0) (by omega)) (by rfl) (by rfl) (by decide +kernel) (by rfl) (by rfl) (by omega) (by omega) (by omega) (by omega) rfl ?_
  refine jT_xistore (v := (0, 1)) (LN := [(6, (0, 1)), (5, (0, 0)), (4, (4, 3)), (3, (4, 2)), (2, (4, 1)), (1, (4, 0)), (0, (6, 0))]) (pcN := 860) jI_379_858 rfl rfl rfl rfl ?_
  refine jT_xaload_n (v := (4, 1)) (pcN := 861) jI_379_860 rfl rfl rfl ?_
  refine jT_xaload_n (v := (6, 0)) (pcN := 862) jI_379_861 rfl rfl rfl ?_
  refine jT_xiload (v := (0, 0)) (pcN := 864) jI_379_862 rfl rfl rfl ?_
  refine jT_xiconst (k := 1) (pcN := 865) jI_379_864 rfl ?_
  refine jT_xiadd (x := 0) (y := 1) (z := 1) (pcN := 866) jI_379_865 rfl (by decide) rfl ?_
  refine jT_adv 1 (pcN := 867) (LN := [(6, (0, 1)), (5, (0, 0)), (4, (4, 3)), (3, (4, 2)), (2, (4, 1)), (1, (4, 0)), (0, (6, 0))]) (stN := [(0, x1), (4, 1)]) (hsN := jpA_267) (c1 := 0) (s1 := 0) (c2 := 0) (s2 := 0) (by exact rfl) ?_ (by omega) (by omega)
  refine jT_fB [1, 15, 16, 17, 18, 19, 20, 21, 22, 23, 24, 25, 26, 27, 28, 29] 30 (y := 219) (pcN := 870) (dC := 2) (bc1 := 0) (bc2 := 0) (c1 := 0) (c2 := 0) (as := [(4, 1), (0, x1)]) (asC := [(4, 0), (0, x1)]) (LN := [(6, (0, 1)), (5, (0, 0)), (4, (4, 3)), (3, (4, 2)), (2, (4, 1)), (1, (4, 0)), (0, (6, 0))]) (stN := []) (hsC := jpA_22) (hsD := jpA_20) (v := (0, 0)) (st2 := [(0, 0)]) (hs2 := jpA_306) (jA_219_256 (d := 0) (by omega)) (by rfl) (by rfl) (by decide +kernel) (by rfl) (by rfl) (by omega) (by omega) (by omega) (by omega) rfl (by decide +kernel) ?_
  refine jT_xistore (v := (0, 0)) (LN := [(7, (0, 0)), (6, (0, 1)), (5, (0, 0)), (4, (4, 3)), (3, (4, 2)), (2, (4, 1)), (1, (4, 0)), (0, (6, 0))]) (pcN := 872) jI_379_870 rfl rfl rfl rfl ?_
  refine jT_xaload_n (v := (4, 1)) (pcN := 873) jI_379_872 rfl rfl rfl ?_
  refine jT_fR [1, 15, 16, 17, 18, 19, 20, 21, 22, 23, 24, 25, 26, 27, 28, 29] 30 (y := 186) (pcN := 876) (dC := 0) (bc1 := 0) (bc2 := 0) (c1 := 0) (c2 := 0) (as := [(4, 1)]) (asC := [(4, 0)]) (LN := [(7, (0, 0)), (6, (0, 1)), (5, (0, 0)), (4, (4, 3)), (3, (4, 2)), (2, (4, 1)), (1, (4, 0)), (0, (6, 0))]) (stN := []) (hsC := jpA_20) (v := (0, 1)) (st2 := [(0, 1)]) (jA_186_8 (d := 0)) (by rfl) (by rfl) (by decide +kernel) (by rfl) (by rfl) (by omega) (by omega) (by omega) (by omega) rfl ?_
  refine jT_xiload (v := (0, 1)) (pcN := 878) jI_379_876 rfl rfl rfl ?_
  refine jT_xicT (pcN := 883) jI_379_878 rfl (by decide +kernel) rfl ?_
  refine jT_xiload (v := (0, 1)) (pcN := 885) jI_379_883 rfl rfl rfl ?_
  refine jT_xifT (pcN := 900) jI_379_885 rfl (by decide +kernel) rfl ?_
  refine jT_xgoto (pcN := 3740) jI_379_900 rfl ?_
  refine jT_xiinc (x := 0) (z := 5) (LN := [(5, (0, 5)), (7, (0, 0)), (6, (0, 1)), (4, (4, 3)), (3, (4, 2)), (2, (4, 1)), (1, (4, 0)), (0, (6, 0))]) (pcN := 3743) jI_379_3740 rfl rfl (by decide) rfl rfl ?_
  refine jT_xgoto (pcN := 28) jI_379_3743 rfl ?_
  refine jT_xiload (v := (0, 5)) (pcN := 30) jI_379_28 rfl rfl rfl ?_
  refine jT_xaload_n (v := (6, 0)) (pcN := 31) jI_379_30 rfl rfl rfl ?_
  refine jT_adv 1 (pcN := 32) (LN := [(5, (0, 5)), (7, (0, 0)), (6, (0, 1)), (4, (4, 3)), (3, (4, 2)), (2, (4, 1)), (1, (4, 0)), (0, (6, 0))]) (stN := [(0, 5), (0, 5)]) (hsN := jpA_306) (c1 := 0) (s1 := 0) (c2 := 0) (s2 := 0) (by exact rfl) ?_ (by omega) (by omega)
  refine jT_xiconst (k := 5) (pcN := 33) jI_379_32 rfl ?_
  refine jT_xisub (x := 5) (y := 5) (z := 0) (pcN := 34) jI_379_33 rfl (by decide) rfl ?_
  refine jT_xicT (pcN := 3746) jI_379_34 rfl (by decide +kernel) rfl ?_
  refine jT_xiconst (k := 1) (pcN := 3747) jI_379_3746 rfl ?_
  exact jT_ret rfl (by decide) (by show 30 ≤ 30; decide) (by omega) (by omega) ⟨rfl, rfl⟩
def jzA_1204 : JC := (11, [(4, 30), (4, 31), (0, 0), (0, 0), (0, 0), (0, 0)], [])
def jzA_1205 : JC := (120, [], [32, 33, 34, 35, 36, 37, 38, 39, 40, 41, 42, 43, 44, 45, 46, 47, 48, 49, 50, 51, 52, 53, 54, 55, 56, 57, 58, 59, 60, 61, 62, 63, 64, 65, 66, 67, 68, 69, 70, 71, 72, 73, 74, 75, 76, 77, 78, 79, 80, 81, 82, 83, 84, 85, 86, 87, 88, 89, 90, 91])
def jpA_1206 : List JC := [jzA_265, jzA_266, jgh, jgh, jgh, jgh, jgh, jzA_1204, jgh, jgh, jgh, jgh, jgh, jgh, jgh, jgh, jgh, jgh, jgh, jgh, jgh, jgh, jgh, jgh, (100, [], (List.replicate 120 0)), (100, [], (List.replicate 120 0)), (100, [], (List.replicate 120 0)), (100, [], (List.replicate 120 0)), (100, [], (List.replicate 120 0)), (100, [], (List.replicate 120 0)), jgh, jzA_1205, jzA_1132, jgh, jgh, jgh, jgh, jgh, jgh, jgh, jgh, jgh, jgh, jgh, jgh, jgh, jgh, jgh, jgh, jgh, jgh, jgh, jgh, jgh, jgh, jgh, jgh, jgh, jgh, jgh, jgh, jgh, jgh, jgh, jgh, jgh, jgh, jgh, jgh, jgh, jgh, jgh, jgh, jgh, jgh, jgh, jgh, jgh, jgh, jgh, jgh, jgh, jgh, jgh, jgh, jgh, jgh, jgh, jgh, jgh, jgh, jgh]
def jzA_1207 : JC := (11, [(4, 30), (4, 31), (0, 0), (0, 1), (0, 0), (0, 0)], [])
def jpA_1208 : List JC := [jzA_265, jzA_266, jgh, jgh, jgh, jgh, jgh, jzA_1207, jgh, jgh, jgh, jgh, jgh, jgh, jgh, jgh, jgh, jgh, jgh, jgh, jgh, jgh, jgh, jgh, (100, [], (List.replicate 120 0)), (100, [], (List.replicate 120 0)), (100, [], (List.replicate 120 0)), (100, [], (List.replicate 120 0)), (100, [], (List.replicate 120 0)), (100, [], (List.replicate 120 0)), jgh, jzA_1205, jzA_1126, jgh, jgh, jgh, jgh, jgh, jgh, jgh, jgh, jgh, jgh, jgh, jgh, jgh, jgh, jgh, jgh, jgh, jgh, jgh, jgh, jgh, jgh, jgh, jgh, jgh, jgh, jgh, jgh, jgh, jgh, jgh, jgh, jgh, jgh, jgh, jgh, jgh, jgh, jgh, jgh, jgh, jgh, jgh, jgh, jgh, jgh, jgh, jgh, jgh, jgh, jgh, jgh, jgh, jgh, jgh, jgh, jgh, jgh, jgh]
def jzA_1209 : JC := (14, [(0, 2), (4, 15), (4, 16), (4, 17), (4, 18), (0, 0), (4, 19), (0, 0), (4, 20), (4, 21), (1, 1), (4, 22), (0, 0), (4, 23), (0, 0), (0, 0), (0, 0), (0, 0), (0, 0), (0, 0), (0, 0), (4, 24), (4, 25), (4, 26), (4, 27), (4, 28), (4, 29), (0, 1)], [])
def jpA_1210 : List JC := [jzA_265, jzA_1209, jgh, jgh, jgh, jgh, jgh, jzA_1207, jgh, jgh, jgh, jgh, jgh, jgh, jgh, jgh, jgh, jgh, jgh, jgh, jgh, jgh, jgh, jgh, jzA_1166, jzA_1154, jzA_1152, jzA_1154, jzA_1156, jzA_1154, jgh, jzA_1205, jzA_1126, jgh, jgh, jgh, jgh, jgh, jgh, jgh, jgh, jgh, jgh, jgh, jgh, jgh, jgh, jgh, jgh, jgh, jgh, jgh, jgh, jgh, jgh, jgh, jgh, jgh, jgh, jgh, jgh, jgh, jgh, jgh, jgh, jgh, jgh, jgh, jgh, jgh, jgh, jgh, jgh, jgh, jgh, jgh, jgh, jgh, jgh, jgh, jgh, jgh, jgh, jgh, jgh, jgh, jgh, jgh, jgh, jgh, jgh, jgh]
set_option maxRecDepth 100000 in
theorem jL_7_1 {d : Nat} {x0 x1 x2 x3 x4 : Int} (h_x0 : (-2147483648) ≤ x0 ∧ x0 ≤ 2147483647) (h_x1 : 0 ≤ x1 ∧ x1 ≤ 7) (h_x2 : (-2147483648) ≤ x2 ∧ x2 ≤ 2147483647) (h_x3 : (-2147483648) ≤ x3 ∧ x3 ≤ 2147483647) (h_x4 : (-2147483648) ≤ x4 ∧ x4 ≤ 2147483647) : jT [x0, x1, x2, x3, x4] (d + 6) 379 92 847 [(5, (0, 0)), (4, (4, 3)), (3, (4, 2)), (2, (4, 1)), (1, (4, 0)), (0, (6, 0))] [] jpA_1206 1 6 (fun k v hsN => k = 0 ∧ v = (0, 1)) := by
  refine jT_xaload_n (v := (4, 0)) (pcN := 848) jI_379_847 rfl rfl rfl ?_
  refine jT_xaload_n (v := (6, 0)) (pcN := 849) jI_379_848 rfl rfl rfl ?_
  refine jT_xiload (v := (0, 0)) (pcN := 851) jI_379_849 rfl rfl rfl ?_
  refine jT_xiconst (k := 1) (pcN := 852) jI_379_851 rfl ?_
  refine jT_xiadd (x := 0) (y := 1) (z := 1) (pcN := 853) jI_379_852 rfl (by decide) rfl ?_
  refine jT_adv 1 (pcN := 854) (LN := [(5, (0, 0)), (4, (4, 3)), (3, (4, 2)), (2, (4, 1)), (1, (4, 0)), (0, (6, 0))]) (stN := [(0, x1), (4, 0)]) (hsN := jpA_1206) (c1 := 0) (s1 := 0) (c2 := 1) (s2 := 6) (by exact rfl) ?_ (by omega) (by omega)
  refine jT_xaload_n (v := (4, 2)) (pcN := 855) jI_379_854 rfl rfl rfl ?_
  refine jT_fB [0, 2, 4, 5, 6, 7, 8, 9, 10, 11, 12, 13, 14, 30, 31, 32, 33, 34, 35, 36, 37, 38, 39, 40, 41, 42, 43, 44, 45, 46, 47, 48, 49, 50, 51, 52, 53, 54, 55, 56, 57, 58, 59, 60, 61, 62, 63, 64, 65, 66, 67, 68, 69, 70, 71, 72, 73, 74, 75, 76, 77, 78, 79, 80, 81, 82, 83, 84, 85, 86, 87, 88, 89, 90, 91] 92 (y := 333) (pcN := 858) (dC := 5) (bc1 := 1) (bc2 := 6) (c1 := 0) (c2 := 0) (as := [(4, 0), (0, x1), (4, 2)]) (asC := [(4, 0), (0, x1), (4, 1)]) (LN := [(5, (0, 0)), (4, (4, 3)), (3, (4, 2)), (2, (4, 1)), (1, (4, 0)), (0, (6, 0))]) (stN := []) (hsC := jpA_1148) (hsD := jpA_1146) (v := (0, 2)) (st2 := [(0, 2)]) (hs2 := jpA_1208) (jA_333_264 (d := 0) (by omega)) (by rfl) (by rfl) (by decide +kernel) (by rfl) (by rfl) (by omega) (by omega) (by omega) (by omega) rfl (by decide +kernel) ?_
  refine jT_xistore (v := (0, 2)) (LN := [(6, (0, 2)), (5, (0, 0)), (4, (4, 3)), (3, (4, 2)), (2, (4, 1)), (1, (4, 0)), (0, (6, 0))]) (pcN := 860) jI_379_858 rfl rfl rfl rfl ?_
  refine jT_xaload_n (v := (4, 1)) (pcN := 861) jI_379_860 rfl rfl rfl ?_
  refine jT_xaload_n (v := (6, 0)) (pcN := 862) jI_379_861 rfl rfl rfl ?_
  refine jT_xiload (v := (0, 0)) (pcN := 864) jI_379_862 rfl rfl rfl ?_
  refine jT_xiconst (k := 1) (pcN := 865) jI_379_864 rfl ?_
  refine jT_xiadd (x := 0) (y := 1) (z := 1) (pcN := 866) jI_379_865 rfl (by decide) rfl ?_
  refine jT_adv 1 (pcN := 867) (LN := [(6, (0, 2)), (5, (0, 0)), (4, (4, 3)), (3, (4, 2)), (2, (4, 1)), (1, (4, 0)), (0, (6, 0))]) (stN := [(0, x1), (4, 1)]) (hsN := jpA_1208) (c1 := 0) (s1 := 0) (c2 := 0) (s2 := 0) (by exact rfl) ?_ (by omega) (by omega)
  refine jT_fB [1, 15, 16, 17, 18, 19, 20, 21, 22, 23, 24, 25, 26, 27, 28, 29] 92 (y := 219) (pcN := 870) (dC := 4) (bc1 := 0) (bc2 := 0) (c1 := 0) (c2 := 0) (as := [(4, 1), (0, x1)]) (asC := [(4, 0), (0, x1)]) (LN := [(6, (0, 2)), (5, (0, 0)), (4, (4, 3)), (3, (4, 2)), (2, (4, 1)), (1, (4, 0)), (0, (6, 0))]) (stN := []) (hsC := jpA_1170) (hsD := jpA_1182) (v := (0, 0)) (st2 := [(0, 0)]) (hs2 := jpA_1210) (jA_219_278 (d := 0) (by omega)) (by rfl) (by rfl) (by decide +kernel) (by rfl) (by rfl) (by omega) (by omega) (by omega) (by omega) rfl (by decide +kernel) ?_
  refine jT_xistore (v := (0, 0)) (LN := [(7, (0, 0)), (6, (0, 2)), (5, (0, 0)), (4, (4, 3)), (3, (4, 2)), (2, (4, 1)), (1, (4, 0)), (0, (6, 0))]) (pcN := 872) jI_379_870 rfl rfl rfl rfl ?_
  refine jT_xaload_n (v := (4, 1)) (pcN := 873) jI_379_872 rfl rfl rfl ?_
  refine jT_fR [1, 15, 16, 17, 18, 19, 20, 21, 22, 23, 24, 25, 26, 27, 28, 29] 92 (y := 186) (pcN := 876) (dC := 0) (bc1 := 0) (bc2 := 0) (c1 := 0) (c2 := 0) (as := [(4, 1)]) (asC := [(4, 0)]) (LN := [(7, (0, 0)), (6, (0, 2)), (5, (0, 0)), (4, (4, 3)), (3, (4, 2)), (2, (4, 1)), (1, (4, 0)), (0, (6, 0))]) (stN := []) (hsC := jpA_1172) (v := (0, 2)) (st2 := [(0, 2)]) (jA_186_279 (d := 0)) (by rfl) (by rfl) (by decide +kernel) (by rfl) (by rfl) (by omega) (by omega) (by omega) (by omega) rfl ?_
  refine jT_xiload (v := (0, 2)) (pcN := 878) jI_379_876 rfl rfl rfl ?_
  refine jT_xicT (pcN := 883) jI_379_878 rfl (by decide +kernel) rfl ?_
  refine jT_xiload (v := (0, 2)) (pcN := 885) jI_379_883 rfl rfl rfl ?_
  refine jT_xifT (pcN := 900) jI_379_885 rfl (by decide +kernel) rfl ?_
  refine jT_xgoto (pcN := 3740) jI_379_900 rfl ?_
  refine jT_xiinc (x := 0) (z := 5) (LN := [(5, (0, 5)), (7, (0, 0)), (6, (0, 2)), (4, (4, 3)), (3, (4, 2)), (2, (4, 1)), (1, (4, 0)), (0, (6, 0))]) (pcN := 3743) jI_379_3740 rfl rfl (by decide) rfl rfl ?_
  refine jT_xgoto (pcN := 28) jI_379_3743 rfl ?_
  refine jT_xiload (v := (0, 5)) (pcN := 30) jI_379_28 rfl rfl rfl ?_
  refine jT_xaload_n (v := (6, 0)) (pcN := 31) jI_379_30 rfl rfl rfl ?_
  refine jT_adv 1 (pcN := 32) (LN := [(5, (0, 5)), (7, (0, 0)), (6, (0, 2)), (4, (4, 3)), (3, (4, 2)), (2, (4, 1)), (1, (4, 0)), (0, (6, 0))]) (stN := [(0, 5), (0, 5)]) (hsN := jpA_1210) (c1 := 0) (s1 := 0) (c2 := 0) (s2 := 0) (by exact rfl) ?_ (by omega) (by omega)
  refine jT_xiconst (k := 5) (pcN := 33) jI_379_32 rfl ?_
  refine jT_xisub (x := 5) (y := 5) (z := 0) (pcN := 34) jI_379_33 rfl (by decide) rfl ?_
  refine jT_xicT (pcN := 3746) jI_379_34 rfl (by decide +kernel) rfl ?_
  refine jT_xiconst (k := 1) (pcN := 3747) jI_379_3746 rfl ?_
  exact jT_ret rfl (by decide) (by show 92 ≤ 92; decide) (by omega) (by omega) ⟨rfl, rfl⟩
set_option maxRecDepth 100000 in
theorem jL_7_2 {d : Nat} {x0 x1 x2 x3 x4 : Int} (h_x0 : (-2147483648) ≤ x0 ∧ x0 ≤ 2147483647) (h_x1 : 8 ≤ x1 ∧ x1 ≤ 2147483647) (h_x2 : (-2147483648) ≤ x2 ∧ x2 ≤ 2147483647) (h_x3 : (-2147483648) ≤ x3 ∧ x3 ≤ 2147483647) (h_x4 : (-2147483648) ≤ x4 ∧ x4 ≤ 2147483647) : jT [x0, x1, x2, x3, x4] (d + 3) 379 30 847 [(5, (0, 0)), (4, (4, 3)), (3, (4, 2)), (2, (4, 1)), (1, (4, 0)), (0, (6, 0))] [] jpA_267 1 6 (fun k v hsN => k = 0 ∧ v = (0, 1)) := by
  refine jT_xaload_n (v := (4, 0)) (pcN := 848) jI_379_847 rfl rfl rfl ?_
  refine jT_xaload_n (v := (6, 0)) (pcN := 849) jI_379_848 rfl rfl rfl ?_
  refine jT_xiload (v := (0, 0)) (pcN := 851) jI_379_849 rfl rfl rfl ?_
  refine jT_xiconst (k := 1) (pcN := 852) jI_379_851 rfl ?_
  refine jT_xiadd (x := 0) (y := 1) (z := 1) (pcN := 853) jI_379_852 rfl (by decide) rfl ?_
  refine jT_adv 1 (pcN := 854) (LN := [(5, (0, 0)), (4, (4, 3)), (3, (4, 2)), (2, (4, 1)), (1, (4, 0)), (0, (6, 0))]) (stN := [(0, x1), (4, 0)]) (hsN := jpA_267) (c1 := 0) (s1 := 0) (c2 := 1) (s2 := 6) (by exact rfl) ?_ (by omega) (by omega)
  refine jT_xaload_n (v := (4, 2)) (pcN := 855) jI_379_854 rfl rfl rfl ?_
  refine jT_fR [0, 2, 4, 5, 6, 7, 8, 9, 10, 11, 12, 13, 14] 30 (y := 333) (pcN := 858) (dC := 2) (bc1 := 1) (bc2 := 6) (c1 := 0) (c2 := 0) (as := [(4, 0), (0, x1), (4, 2)]) (asC := [(4, 0), (0, x1), (4, 1)]) (LN := [(5, (0, 0)), (4, (4, 3)), (3, (4, 2)), (2, (4, 1)), (1, (4, 0)), (0, (6, 0))]) (stN := []) (hsC := jpA_15) (v := (0, 1)) (st2 := [(0, 1)]) (jA_333_281 (d := 0) (by omega)) (by rfl) (by rfl) (by decide +kernel) (by rfl) (by rfl) (by omega) (by omega) (by omega) (by omega) rfl ?_
  refine jT_xistore (v := (0, 1)) (LN := [(6, (0, 1)), (5, (0, 0)), (4, (4, 3)), (3, (4, 2)), (2, (4, 1)), (1, (4, 0)), (0, (6, 0))]) (pcN := 860) jI_379_858 rfl rfl rfl rfl ?_
  refine jT_xaload_n (v := (4, 1)) (pcN := 861) jI_379_860 rfl rfl rfl ?_
  refine jT_xaload_n (v := (6, 0)) (pcN := 862) jI_379_861 rfl rfl rfl ?_
  refine jT_xiload (v := (0, 0)) (pcN := 864) jI_379_862 rfl rfl rfl ?_
  refine jT_xiconst (k := 1) (pcN := 865) jI_379_864 rfl ?_
  refine jT_xiadd (x := 0) (y := 1) (z := 1) (pcN := 866) jI_379_865 rfl (by decide) rfl ?_
  refine jT_adv 1 (pcN := 867) (LN := [(6, (0, 1)), (5, (0, 0)), (4, (4, 3)), (3, (4, 2)), (2, (4, 1)), (1, (4, 0)), (0, (6, 0))]) (stN := [(0, x1), (4, 1)]) (hsN := jpA_267) (c1 := 0) (s1 := 0) (c2 := 0) (s2 := 0) (by exact rfl) ?_ (by omega) (by omega)
  refine jT_fB [1, 15, 16, 17, 18, 19, 20, 21, 22, 23, 24, 25, 26, 27, 28, 29] 30 (y := 219) (pcN := 870) (dC := 2) (bc1 := 0) (bc2 := 0) (c1 := 0) (c2 := 0) (as := [(4, 1), (0, x1)]) (asC := [(4, 0), (0, x1)]) (LN := [(6, (0, 1)), (5, (0, 0)), (4, (4, 3)), (3, (4, 2)), (2, (4, 1)), (1, (4, 0)), (0, (6, 0))]) (stN := []) (hsC := jpA_22) (hsD := jpA_20) (v := (0, 0)) (st2 := [(0, 0)]) (hs2 := jpA_306) (jA_219_282 (d := 0) (by omega)) (by rfl) (by rfl) (by decide +kernel) (by rfl) (by rfl) (by omega) (by omega) (by omega) (by omega) rfl (by decide +kernel) ?_
  refine jT_xistore (v := (0, 0)) (LN := [(7, (0, 0)), (6, (0, 1)), (5, (0, 0)), (4, (4, 3)), (3, (4, 2)), (2, (4, 1)), (1, (4, 0)), (0, (6, 0))]) (pcN := 872) jI_379_870 rfl rfl rfl rfl ?_
  refine jT_xaload_n (v := (4, 1)) (pcN := 873) jI_379_872 rfl rfl rfl ?_
  refine jT_fR [1, 15, 16, 17, 18, 19, 20, 21, 22, 23, 24, 25, 26, 27, 28, 29] 30 (y := 186) (pcN := 876) (dC := 0) (bc1 := 0) (bc2 := 0) (c1 := 0) (c2 := 0) (as := [(4, 1)]) (asC := [(4, 0)]) (LN := [(7, (0, 0)), (6, (0, 1)), (5, (0, 0)), (4, (4, 3)), (3, (4, 2)), (2, (4, 1)), (1, (4, 0)), (0, (6, 0))]) (stN := []) (hsC := jpA_20) (v := (0, 1)) (st2 := [(0, 1)]) (jA_186_8 (d := 0)) (by rfl) (by rfl) (by decide +kernel) (by rfl) (by rfl) (by omega) (by omega) (by omega) (by omega) rfl ?_
  refine jT_xiload (v := (0, 1)) (pcN := 878) jI_379_876 rfl rfl rfl ?_
  refine jT_xicT (pcN := 883) jI_379_878 rfl (by decide +kernel) rfl ?_
  refine jT_xiload (v := (0, 1)) (pcN := 885) jI_379_883 rfl rfl rfl ?_
  refine jT_xifT (pcN := 900) jI_379_885 rfl (by decide +kernel) rfl ?_
  refine jT_xgoto (pcN := 3740) jI_379_900 rfl ?_
  refine jT_xiinc (x := 0) (z := 5) (LN := [(5, (0, 5)), (7, (0, 0)), (6, (0, 1)), (4, (4, 3)), (3, (4, 2)), (2, (4, 1)), (1, (4, 0)), (0, (6, 0))]) (pcN := 3743) jI_379_3740 rfl rfl (by decide) rfl rfl ?_
  refine jT_xgoto (pcN := 28) jI_379_3743 rfl ?_
  refine jT_xiload (v := (0, 5)) (pcN := 30) jI_379_28 rfl rfl rfl ?_
  refine jT_xaload_n (v := (6, 0)) (pcN := 31) jI_379_30 rfl rfl rfl ?_
  refine jT_adv 1 (pcN := 32) (LN := [(5, (0, 5)), (7, (0, 0)), (6, (0, 1)), (4, (4, 3)), (3, (4, 2)), (2, (4, 1)), (1, (4, 0)), (0, (6, 0))]) (stN := [(0, 5), (0, 5)]) (hsN := jpA_306) (c1 := 0) (s1 := 0) (c2 := 0) (s2 := 0) (by exact rfl) ?_ (by omega) (by omega)
  refine jT_xiconst (k := 5) (pcN := 33) jI_379_32 rfl ?_
  refine jT_xisub (x := 5) (y := 5) (z := 0) (pcN := 34) jI_379_33 rfl (by decide) rfl ?_
  refine jT_xicT (pcN := 3746) jI_379_34 rfl (by decide +kernel) rfl ?_
  refine jT_xiconst (k := 1) (pcN := 3747) jI_379_3746 rfl ?_
  exact jT_ret rfl (by decide) (by show 30 ≤ 30; decide) (by omega) (by omega) ⟨rfl, rfl⟩
theorem jI_125_0 : jmI (jm 125) 0 = (.aload_n 0, 1) := by rfl
theorem jI_125_1 : jmI (jm 125) 1 = (.iload_n 1, 1) := by rfl
theorem jI_125_2 : jmI (jm 125) 2 = (.bipush 8, 2) := by rfl
theorem jA_125_283 {xs : List Int} {d : Nat} {x1 x2 : Int} (h_x1 : (-2147483648) ≤ x1 ∧ x1 ≤ (-1)) (h_x2 : (-2147483648) ≤ x2 ∧ x2 ≤ 2147483647) : jT xs (d + 1) 125 12 0 [(0, (4, 0)), (1, (0, x1)), (2, (0, x2))] [] jpA_6 1 6 (fun k v hsN => k = 1 ∧ v = (0, 0) ∧ hsN = jpA_6 ++ []) := by
  refine jT_xaload_n (v := (4, 0)) (pcN := 1) jI_125_0 rfl rfl rfl ?_
  refine jT_xiload_n (v := (0, x1)) (pcN := 2) jI_125_1 rfl rfl rfl ?_
  refine jT_xbipush (k := 8) (pcN := 4) jI_125_2 (by decide) rfl ?_
  exact jT_fX [0] 12 (y := 115) (pcN := 7) (dC := 0) (bc1 := 1) (bc2 := 6) (as := [(4, 0), (0, x1), (0, 8)]) (asC := [(4, 0), (0, x1), (0, 8)]) (LN := [(0, (4, 0)), (1, (0, x1)), (2, (0, x2))]) (stN := []) (hsC := [jgh]) (e := 0) (jA_115_1 (d := 0) (by omega)) (by rfl) (by rfl) (by decide +kernel) (by rfl) (by rfl) (by omega) (by omega) (by omega) (by omega) ⟨rfl, ⟨rfl, rfl, rfl⟩⟩
theorem jI_334_0 : jmI (jm 334) 0 = (.aload_n 3, 1) := by rfl
theorem jI_334_1 : jmI (jm 334) 1 = (.iconst 0, 1) := by rfl
theorem jI_334_2 : jmI (jm 334) 2 = (.aload_n 0, 1) := by rfl
theorem jI_334_3 : jmI (jm 334) 3 = (.iload_n 1, 1) := by rfl
theorem jI_334_4 : jmI (jm 334) 4 = (.iload_n 2, 1) := by rfl
theorem jA_334_284 {xs : List Int} {d : Nat} {x1 x2 : Int} (h_x1 : (-2147483648) ≤ x1 ∧ x1 ≤ (-1)) (h_x2 : (-2147483648) ≤ x2 ∧ x2 ≤ 2147483647) : jT xs (d + 2) 334 13 0 [(0, (4, 0)), (1, (0, x1)), (2, (0, x2)), (3, (4, 1))] [] jpA_15 1 6 (fun k v hsN => k = 0 ∧ v = (0, 1) ∧ hsN = jpA_15 ++ []) := by
  refine jT_xaload_n (v := (4, 1)) (pcN := 1) jI_334_0 rfl rfl rfl ?_
  refine jT_xiconst (k := 0) (pcN := 2) jI_334_1 rfl ?_
  refine jT_xaload_n (v := (4, 0)) (pcN := 3) jI_334_2 rfl rfl rfl ?_
  refine jT_xiload_n (v := (0, x1)) (pcN := 4) jI_334_3 rfl rfl rfl ?_
  refine jT_xiload_n (v := (0, x2)) (pcN := 5) jI_334_4 rfl rfl rfl ?_
  exact jT_fX [0, 2, 3, 4, 5, 6, 7, 8, 9, 10, 11, 12] 13 (y := 125) (pcN := 8) (dC := 1) (bc1 := 1) (bc2 := 6) (as := [(4, 0), (0, x1), (0, x2)]) (asC := [(4, 0), (0, x1), (0, x2)]) (LN := [(0, (4, 0)), (1, (0, x1)), (2, (0, x2)), (3, (4, 1))]) (stN := [(0, 0), (4, 1)]) (hsC := jpA_6) (e := 0) (jA_125_283 (d := 0) (by omega) (by omega)) (by rfl) (by rfl) (by decide +kernel) (by rfl) (by rfl) (by omega) (by omega) (by omega) (by omega) (show _ from ⟨rfl, rfl, rfl⟩)
theorem jI_234_0 : jmI (jm 234) 0 = (.aload_n 0, 1) := by rfl
theorem jI_234_1 : jmI (jm 234) 1 = (.iload_n 1, 1) := by rfl
theorem jI_234_8 : jmI (jm 234) 8 = (.ifCond .ne 20, 3) := by rfl
theorem jI_234_28 : jmI (jm 234) 28 = (.iconst 0, 1) := by rfl
theorem jA_234_285 {xs : List Int} {d : Nat} {x1 x2 : Int} (h_x1 : (-2147483648) ≤ x1 ∧ x1 ≤ (-1)) (h_x2 : (-2147483648) ≤ x2 ∧ x2 ≤ 2147483647) : jT xs (d + 2) 234 16 0 [(0, (4, 0)), (1, (0, x1)), (2, (0, x2))] [] jpA_22 0 0 (fun k v hsN => k = 0 ∧ v = (0, 0) ∧ hsN = jpA_20) := by
  refine jT_xaload_n (v := (4, 0)) (pcN := 1) jI_234_0 rfl rfl rfl ?_
  refine jT_xiload_n (v := (0, x1)) (pcN := 2) jI_234_1 rfl rfl rfl ?_
  refine jT_fR [] 16 (y := 188) (pcN := 5) (dC := 1) (bc1 := 0) (bc2 := 0) (c1 := 0) (c2 := 0) (as := [(0, x1)]) (asC := [(0, x1)]) (LN := [(0, (4, 0)), (1, (0, x1)), (2, (0, x2))]) (stN := [(4, 0)]) (hsC := []) (v := (0, 0)) (st2 := [(0, 0), (4, 0)]) (jA_188_4 (d := 0) (by omega)) (by rfl) (by rfl) (by decide +kernel) (by rfl) (by rfl) (by omega) (by omega) (by omega) (by omega) rfl ?_
  refine jT_fB [0, 1, 2, 3, 4, 5, 6, 7, 8, 9, 10, 11, 12, 13, 14, 15] 16 (y := 190) (pcN := 8) (dC := 1) (bc1 := 0) (bc2 := 0) (c1 := 0) (c2 := 0) (as := [(4, 0), (0, 0)]) (asC := [(4, 0), (0, 0)]) (LN := [(0, (4, 0)), (1, (0, x1)), (2, (0, x2))]) (stN := []) (hsC := jpA_22) (hsD := jpA_20) (v := (0, 1)) (st2 := [(0, 1)]) (hs2 := jpA_20) (jA_190_6 (d := 0)) (by rfl) (by rfl) (by decide +kernel) (by rfl) (by rfl) (by omega) (by omega) (by omega) (by omega) rfl (by decide +kernel) ?_
  refine jT_xifT (pcN := 28) jI_234_8 rfl (by decide +kernel) rfl ?_
  refine jT_xiconst (k := 0) (pcN := 29) jI_234_28 rfl ?_
  exact jT_ret rfl (by decide) (by show 16 ≤ 16; decide) (by omega) (by omega) ⟨rfl, rfl, rfl⟩
theorem jA_116_286 {xs : List Int} {d : Nat} {x2 : Int} (h_x2 : (-2147483648) ≤ x2 ∧ x2 ≤ (-1)) : jT xs d 116 1 0 [(0, (4, 0)), (1, (0, x2)), (2, (0, 0)), (3, (0, 99))] [] [jgh] 1 6 (fun k v hsN => k = 1 ∧ v = (0, 1) ∧ hsN = [jgh] ++ []) := by
  refine jT_xiload_n (v := (0, x2)) (pcN := 1) jI_116_0 rfl rfl rfl ?_
  refine jT_xiload_n (v := (0, 0)) (pcN := 2) jI_116_1 rfl rfl rfl ?_
  refine jT_icT (a := x2) (b := 0) (t := 10) (by rfl) (by rfl) (by rfl) (jw_idd (by omega) (by omega)) (jw_idd (by omega) (by omega)) (by simp only [jcP] <;> omega) ?_
  exact jT_ret (c1 := 1) (s1 := 6) rfl (by decide) (by show 1 ≤ 1; decide) (by omega) (by omega) ⟨rfl, rfl, rfl⟩
theorem jI_125_7 : jmI (jm 125) 7 = (.aload_n 0, 1) := by rfl
theorem jI_125_8 : jmI (jm 125) 8 = (.iload_n 2, 1) := by rfl
theorem jI_125_9 : jmI (jm 125) 9 = (.iconst 0, 1) := by rfl
theorem jI_125_10 : jmI (jm 125) 10 = (.bipush 99, 2) := by rfl
theorem jA_125_287 {xs : List Int} {d : Nat} {x1 x2 : Int} (h_x1 : 0 ≤ x1 ∧ x1 ≤ 7) (h_x2 : (-2147483648) ≤ x2 ∧ x2 ≤ (-1)) : jT xs (d + 1) 125 12 0 [(0, (4, 0)), (1, (0, x1)), (2, (0, x2))] [] jpA_6 1 6 (fun k v hsN => k = 1 ∧ v = (0, 1) ∧ hsN = jpA_6 ++ []) := by
  refine jT_xaload_n (v := (4, 0)) (pcN := 1) jI_125_0 rfl rfl rfl ?_
  refine jT_xiload_n (v := (0, x1)) (pcN := 2) jI_125_1 rfl rfl rfl ?_
  refine jT_xbipush (k := 8) (pcN := 4) jI_125_2 (by decide) rfl ?_
  refine jT_fR [0] 12 (y := 115) (pcN := 7) (dC := 0) (bc1 := 0) (bc2 := 0) (c1 := 1) (c2 := 6) (as := [(4, 0), (0, x1), (0, 8)]) (asC := [(4, 0), (0, x1), (0, 8)]) (LN := [(0, (4, 0)), (1, (0, x1)), (2, (0, x2))]) (stN := []) (hsC := [jgh]) (v := (9, 0)) (st2 := []) (jA_115_9 (d := 0) (by omega)) (by rfl) (by rfl) (by decide +kernel) (by rfl) (by rfl) (by omega) (by omega) (by omega) (by omega) rfl ?_
  refine jT_xaload_n (v := (4, 0)) (pcN := 8) jI_125_7 rfl rfl rfl ?_
  refine jT_xiload_n (v := (0, x2)) (pcN := 9) jI_125_8 rfl rfl rfl ?_
  refine jT_xiconst (k := 0) (pcN := 10) jI_125_9 rfl ?_
  refine jT_xbipush (k := 99) (pcN := 12) jI_125_10 (by decide) rfl ?_
  exact jT_fX [0] 12 (y := 116) (pcN := 15) (dC := 0) (bc1 := 1) (bc2 := 6) (as := [(4, 0), (0, x2), (0, 0), (0, 99)]) (asC := [(4, 0), (0, x2), (0, 0), (0, 99)]) (LN := [(0, (4, 0)), (1, (0, x1)), (2, (0, x2))]) (stN := []) (hsC := [jgh]) (e := 1) (jA_116_286 (d := 0) (by omega)) (by rfl) (by rfl) (by decide +kernel) (by rfl) (by rfl) (by omega) (by omega) (by omega) (by omega) ⟨rfl, ⟨rfl, rfl, rfl⟩⟩
theorem jA_334_288 {xs : List Int} {d : Nat} {x1 x2 : Int} (h_x1 : 0 ≤ x1 ∧ x1 ≤ 7) (h_x2 : (-2147483648) ≤ x2 ∧ x2 ≤ (-1)) : jT xs (d + 2) 334 13 0 [(0, (4, 0)), (1, (0, x1)), (2, (0, x2)), (3, (4, 1))] [] jpA_15 1 6 (fun k v hsN => k = 0 ∧ v = (0, 2) ∧ hsN = jpA_15 ++ []) := by
  refine jT_xaload_n (v := (4, 1)) (pcN := 1) jI_334_0 rfl rfl rfl ?_
  refine jT_xiconst (k := 0) (pcN := 2) jI_334_1 rfl ?_
  refine jT_xaload_n (v := (4, 0)) (pcN := 3) jI_334_2 rfl rfl rfl ?_
  refine jT_xiload_n (v := (0, x1)) (pcN := 4) jI_334_3 rfl rfl rfl ?_
  refine jT_xiload_n (v := (0, x2)) (pcN := 5) jI_334_4 rfl rfl rfl ?_
  exact jT_fX [0, 2, 3, 4, 5, 6, 7, 8, 9, 10, 11, 12] 13 (y := 125) (pcN := 8) (dC := 1) (bc1 := 1) (bc2 := 6) (as := [(4, 0), (0, x1), (0, x2)]) (asC := [(4, 0), (0, x1), (0, x2)]) (LN := [(0, (4, 0)), (1, (0, x1)), (2, (0, x2)), (3, (4, 1))]) (stN := [(0, 0), (4, 1)]) (hsC := jpA_6) (e := 1) (jA_125_287 (d := 0) (by omega) (by omega)) (by rfl) (by rfl) (by decide +kernel) (by rfl) (by rfl) (by omega) (by omega) (by omega) (by omega) (show _ from ⟨rfl, rfl, rfl⟩)
theorem jI_234_11 : jmI (jm 234) 11 = (.aload_n 0, 1) := by rfl
theorem jI_234_12 : jmI (jm 234) 12 = (.iload_n 2, 1) := by rfl
theorem jI_234_13 : jmI (jm 234) 13 = (.i2l, 1) := by rfl
theorem jI_234_14 : jmI (jm 234) 14 = (.lconst 0, 1) := by rfl
theorem jI_234_21 : jmI (jm 234) 21 = (.iconst 2, 1) := by rfl
theorem jI_234_25 : jmI (jm 234) 25 = (.ifCond .eq 5, 3) := by rfl
theorem jA_234_289 {xs : List Int} {d : Nat} {x1 x2 : Int} (h_x1 : 0 ≤ x1 ∧ x1 ≤ 7) (h_x2 : (-2147483648) ≤ x2 ∧ x2 ≤ (-1)) : jT xs (d + 2) 234 16 0 [(0, (4, 0)), (1, (0, x1)), (2, (0, x2))] [] jpA_22 0 0 (fun k v hsN => k = 0 ∧ v = (0, 0) ∧ hsN = jpA_361) := by
  refine jT_xaload_n (v := (4, 0)) (pcN := 1) jI_234_0 rfl rfl rfl ?_
  refine jT_xiload_n (v := (0, x1)) (pcN := 2) jI_234_1 rfl rfl rfl ?_
  refine jT_fR [] 16 (y := 188) (pcN := 5) (dC := 1) (bc1 := 0) (bc2 := 0) (c1 := 0) (c2 := 0) (as := [(0, x1)]) (asC := [(0, x1)]) (LN := [(0, (4, 0)), (1, (0, x1)), (2, (0, x2))]) (stN := [(4, 0)]) (hsC := []) (v := (0, 1)) (st2 := [(0, 1), (4, 0)]) (jA_188_13 (d := 0) (by omega)) (by rfl) (by rfl) (by decide +kernel) (by rfl) (by rfl) (by omega) (by omega) (by omega) (by omega) rfl ?_
  refine jT_fR [0, 1, 2, 3, 4, 5, 6, 7, 8, 9, 10, 11, 12, 13, 14, 15] 16 (y := 190) (pcN := 8) (dC := 1) (bc1 := 0) (bc2 := 0) (c1 := 0) (c2 := 0) (as := [(4, 0), (0, 1)]) (asC := [(4, 0), (0, 1)]) (LN := [(0, (4, 0)), (1, (0, x1)), (2, (0, x2))]) (stN := []) (hsC := jpA_22) (v := (0, 0)) (st2 := [(0, 0)]) (jA_190_39 (d := 0)) (by rfl) (by rfl) (by decide +kernel) (by rfl) (by rfl) (by omega) (by omega) (by omega) (by omega) rfl ?_
  refine jT_xifF (t := 28) (pcN := 11) jI_234_8 rfl (by decide +kernel) rfl rfl ?_
  refine jT_xaload_n (v := (4, 0)) (pcN := 12) jI_234_11 rfl rfl rfl ?_
  refine jT_xiload_n (v := (0, x2)) (pcN := 13) jI_234_12 rfl rfl rfl ?_
  refine jT_xi2l (x := x2) (z := x2) (pcN := 14) jI_234_13 rfl (jw_idd (by omega) (by omega)) rfl ?_
  refine jT_xlconst (z := 0) (pcN := 15) jI_234_14 rfl rfl ?_
  refine jT_adv 1 (pcN := 18) (LN := [(0, (4, 0)), (1, (0, x1)), (2, (0, x2))]) (stN := [(1, 99), (1, 0), (1, x2), (4, 0)]) (hsN := jpA_22) (c1 := 0) (s1 := 0) (c2 := 0) (s2 := 0) (by exact rfl) ?_ (by omega) (by omega)
  refine jT_fR [] 16 (y := 189) (pcN := 21) (dC := 0) (bc1 := 0) (bc2 := 0) (c1 := 0) (c2 := 0) (as := [(1, x2), (1, 0), (1, 99)]) (asC := [(1, x2), (1, 0), (1, 99)]) (LN := [(0, (4, 0)), (1, (0, x1)), (2, (0, x2))]) (stN := [(4, 0)]) (hsC := []) (v := (0, 0)) (st2 := [(0, 0), (4, 0)]) (jT_in_lo (d := 0) (v := x2) (lo := 0) (hi := 99) (by omega) (by omega) (by omega) (by omega)) (by rfl) (by rfl) (by decide +kernel) (by rfl) (by rfl) (by omega) (by omega) (by omega) (by omega) rfl ?_
  refine jT_xiconst (k := 2) (pcN := 22) jI_234_21 rfl ?_
  refine jT_fB [0, 1, 2, 3, 4, 5, 6, 7, 8, 9, 10, 11, 12, 13, 14, 15] 16 (y := 191) (pcN := 25) (dC := 0) (bc1 := 0) (bc2 := 0) (c1 := 0) (c2 := 0) (as := [(4, 0), (0, 0), (0, 2)]) (asC := [(4, 0), (0, 0), (0, 2)]) (LN := [(0, (4, 0)), (1, (0, x1)), (2, (0, x2))]) (stN := []) (hsC := jpA_22) (hsD := jpA_361) (v := (0, 1)) (st2 := [(0, 1)]) (hs2 := jpA_361) (jA_191_99 (d := 0)) (by rfl) (by rfl) (by decide +kernel) (by rfl) (by rfl) (by omega) (by omega) (by omega) (by omega) rfl (by decide +kernel) ?_
  refine jT_xifF (t := 30) (pcN := 28) jI_234_25 rfl (by decide +kernel) rfl rfl ?_
  refine jT_xiconst (k := 0) (pcN := 29) jI_234_28 rfl ?_
  exact jT_ret rfl (by decide) (by show 16 ≤ 16; decide) (by omega) (by omega) ⟨rfl, rfl, rfl⟩
theorem jA_116_290 {xs : List Int} {d : Nat} {x2 : Int} (h_x2 : 0 ≤ x2 ∧ x2 ≤ 99) : jT xs d 116 1 0 [(0, (4, 0)), (1, (0, x2)), (2, (0, 0)), (3, (0, 99))] [] [jgh] 0 0 (fun k v hsN => k = 0 ∧ v = (9, 0) ∧ hsN = [jgh] ++ []) := by
  refine jT_xiload_n (v := (0, x2)) (pcN := 1) jI_116_0 rfl rfl rfl ?_
  refine jT_xiload_n (v := (0, 0)) (pcN := 2) jI_116_1 rfl rfl rfl ?_
  refine jT_icF (a := x2) (b := 0) (t := 10) (by rfl) (by rfl) (by rfl) (jw_idd (by omega) (by omega)) (jw_idd (by omega) (by omega)) (by simp only [jcP] <;> omega) ?_
  refine jT_xiload_n (v := (0, x2)) (pcN := 6) jI_116_5 rfl rfl rfl ?_
  refine jT_xiload_n (v := (0, 99)) (pcN := 7) jI_116_6 rfl rfl rfl ?_
  refine jT_icT (a := x2) (b := 99) (t := 21) (by rfl) (by rfl) (by rfl) (jw_idd (by omega) (by omega)) (jw_idd (by omega) (by omega)) (by simp only [jcP] <;> omega) ?_
  exact jT_ret rfl (by decide) (by show 1 ≤ 1; decide) (by omega) (by omega) ⟨rfl, rfl, rfl⟩
theorem jA_48_291 {xs : List Int} {d : Nat} : jT xs d 48 3 0 [(0, (4, 0)), (1, (4, 1)), (2, (0, 0)), (3, (4, 2))] [] [jgh, (114, [], []), jgh] 0 0 (fun k v hsN => k = 0 ∧ v = (0, (-1)) ∧ hsN = [jgh, (114, [], []), jgh] ++ []) := by
  refine jT_advK 13 (pcN := 71) (LN := [(5, (0, 0)), (4, (0, 0)), (0, (4, 0)), (1, (4, 1)), (2, (0, 0)), (3, (4, 2))]) (stN := [(0, (-1))]) (hsN := [jgh, (114, [], []), jgh]) (c1 := 0) (s1 := 0) (c2 := 0) (s2 := 0) (by decide +kernel) ?_ (by omega) (by omega)
  exact jT_ret rfl (by decide) (by show 3 ≤ 3; decide) (by omega) (by omega) ⟨rfl, rfl, rfl⟩
def jpA_1233 : List JC := [(5, [(4, 3), (4, 4)], []), jgh, (8, [(4, 5), (4, 6)], []), (114, [], []), jgh, jgh, jgh]
theorem jA_20_292 {xs : List Int} {d : Nat} : jT xs (d + 1) 20 7 0 [(0, (4, 0)), (1, (4, 1)), (2, (4, 2))] [] jpA_1233 0 0 (fun k v hsN => k = 0 ∧ v = (0, (-1)) ∧ hsN = jpA_1233 ++ []) := by
  refine jT_advK 7 (pcN := 11) (LN := [(0, (4, 0)), (1, (4, 1)), (2, (4, 2))]) (stN := [(4, 1), (0, 0), (4, 3), (4, 2)]) (hsN := jpA_1233) (c1 := 0) (s1 := 0) (c2 := 0) (s2 := 0) (by decide +kernel) ?_ (by omega) (by omega)
  refine jT_fR [2, 3, 1] 7 (y := 48) (pcN := 14) (dC := 0) (bc1 := 0) (bc2 := 0) (c1 := 0) (c2 := 0) (as := [(4, 2), (4, 3), (0, 0), (4, 1)]) (asC := [(4, 0), (4, 1), (0, 0), (4, 2)]) (LN := [(0, (4, 0)), (1, (4, 1)), (2, (4, 2))]) (stN := []) (hsC := [jgh, (114, [], []), jgh]) (v := (0, (-1))) (st2 := [(0, (-1))]) (jA_48_291 (d := 0)) (by rfl) (by rfl) (by decide +kernel) (by rfl) (by rfl) (by omega) (by omega) (by omega) (by omega) rfl ?_
  refine jT_advK 4 (pcN := 38) (LN := [(3, (0, (-1))), (0, (4, 0)), (1, (4, 1)), (2, (4, 2))]) (stN := [(0, (-1))]) (hsN := jpA_1233) (c1 := 0) (s1 := 0) (c2 := 0) (s2 := 0) (by decide +kernel) ?_ (by omega) (by omega)
  exact jT_ret rfl (by decide) (by show 7 ≤ 7; decide) (by omega) (by omega) ⟨rfl, rfl, rfl⟩
theorem jA_19_293 {xs : List Int} {d : Nat} : jT xs d 19 3 0 [(0, (4, 0)), (1, (4, 1)), (2, (4, 2))] [] [(5, [(4, (-1)), (4, (-1))], []), jgh, jgh] 0 0 (fun k v hsN => k = 0 ∧ v = (9, 0) ∧ hsN = [(5, [(4, 1), (4, 2)], []), jgh, jgh]) := by
  refine jT_advK 8 (pcN := 14) (LN := [(0, (4, 0)), (1, (4, 1)), (2, (4, 2))]) (stN := []) (hsN := [(5, [(4, 1), (4, 2)], []), jgh, jgh]) (c1 := 0) (s1 := 0) (c2 := 0) (s2 := 0) (by decide +kernel) ?_ (by omega) (by omega)
  exact jT_ret rfl (by decide) (by show 3 ≤ 3; decide) (by omega) (by omega) ⟨rfl, rfl, rfl⟩
theorem jI_21_0 : jmI (jm 21) 0 = (.aload_n 3, 1) := by rfl
theorem jI_21_1 : jmI (jm 21) 1 = (.aload_n 0, 1) := by rfl
theorem jI_21_2 : jmI (jm 21) 2 = (.getfield 9, 3) := by rfl
theorem jI_21_5 : jmI (jm 21) 5 = (.aload_n 0, 1) := by rfl
theorem jI_21_6 : jmI (jm 21) 6 = (.getfield 9, 3) := by rfl
def jpA_1239 : List JC := [(5, [(4, 3), (4, 4)], []), (4, [(4, 5), (1, 1)], []), (8, [(4, 6), (4, 7)], []), (114, [], []), jgh, jgh, jgh, jgh]
theorem jI_21_10 : jmI (jm 21) 10 = (.aload_n 1, 1) := by rfl
theorem jI_21_14 : jmI (jm 21) 14 = (.istore 4, 2) := by rfl
theorem jI_21_16 : jmI (jm 21) 16 = (.iload 4, 2) := by rfl
theorem jI_21_18 : jmI (jm 21) 18 = (.ifCond .lt 45, 3) := by rfl
theorem jI_21_63 : jmI (jm 21) 63 = (.iconst (-1), 1) := by rfl
theorem jI_21_64 : jmI (jm 21) 64 = (.iload 4, 2) := by rfl
theorem jI_21_66 : jmI (jm 21) 66 = (.isub, 1) := by rfl
theorem jI_21_67 : jmI (jm 21) 67 = (.istore 5, 2) := by rfl
theorem jI_21_69 : jmI (jm 21) 69 = (.aload_n 0, 1) := by rfl
theorem jI_21_70 : jmI (jm 21) 70 = (.getfield 9, 3) := by rfl
theorem jI_21_74 : jmI (jm 21) 74 = (.iconst 1, 1) := by rfl
theorem jI_21_75 : jmI (jm 21) 75 = (.iadd, 1) := by rfl
def jpA_1252 : List JC := [(5, [(4, 3), (4, 4)], []), (4, [(4, 5), (1, 1)], []), (8, [(4, 6), (4, 7)], []), (114, [], []), jgh, jgh, jgh, jgh, (114, [], [(-1)])]
theorem jI_21_79 : jmI (jm 21) 79 = (.astore 6, 2) := by rfl
theorem jI_21_81 : jmI (jm 21) 81 = (.aload_n 0, 1) := by rfl
theorem jI_21_82 : jmI (jm 21) 82 = (.getfield 9, 3) := by rfl
theorem jI_21_86 : jmI (jm 21) 86 = (.iconst 1, 1) := by rfl
theorem jI_21_87 : jmI (jm 21) 87 = (.iadd, 1) := by rfl
def jpA_1258 : List JC := [(5, [(4, 3), (4, 4)], []), (4, [(4, 5), (1, 1)], []), (8, [(4, 6), (4, 7)], []), (114, [], []), jgh, jgh, jgh, jgh, (114, [], [(-1)]), (100, [], [0])]
theorem jI_21_90 : jmI (jm 21) 90 = (.astore 7, 2) := by rfl
theorem jI_21_92 : jmI (jm 21) 92 = (.iconst 0, 1) := by rfl
theorem jI_21_93 : jmI (jm 21) 93 = (.istore 8, 2) := by rfl
theorem jI_21_95 : jmI (jm 21) 95 = (.iload 8, 2) := by rfl
theorem jI_21_97 : jmI (jm 21) 97 = (.aload 6, 2) := by rfl
theorem jI_21_100 : jmI (jm 21) 100 = (.if_icmp .ge 73, 3) := by rfl
theorem jI_21_103 : jmI (jm 21) 103 = (.iload 8, 2) := by rfl
theorem jI_21_105 : jmI (jm 21) 105 = (.iload 5, 2) := by rfl
theorem jI_21_107 : jmI (jm 21) 107 = (.if_icmp .ge 8, 3) := by rfl
theorem jI_21_115 : jmI (jm 21) 115 = (.iload 8, 2) := by rfl
theorem jI_21_117 : jmI (jm 21) 117 = (.iconst 1, 1) := by rfl
theorem jI_21_118 : jmI (jm 21) 118 = (.isub, 1) := by rfl
theorem jI_21_119 : jmI (jm 21) 119 = (.istore 9, 2) := by rfl
theorem jI_21_121 : jmI (jm 21) 121 = (.aload 6, 2) := by rfl
theorem jI_21_123 : jmI (jm 21) 123 = (.iload 8, 2) := by rfl
theorem jI_21_125 : jmI (jm 21) 125 = (.iload 8, 2) := by rfl
theorem jI_21_127 : jmI (jm 21) 127 = (.iload 5, 2) := by rfl
theorem jI_21_129 : jmI (jm 21) 129 = (.if_icmp .ne 7, 3) := by rfl
theorem jI_21_132 : jmI (jm 21) 132 = (.aload_n 1, 1) := by rfl
theorem jI_21_133 : jmI (jm 21) 133 = (.goto 10, 3) := by rfl
def jpA_1279 : List JC := [(5, [(4, 3), (4, 4)], []), (4, [(4, 5), (1, 1)], []), (8, [(4, 6), (4, 7)], []), (114, [], []), jgh, jgh, jgh, jgh, (114, [], [1]), (100, [], [0])]
theorem jI_21_144 : jmI (jm 21) 144 = (.aload 7, 2) := by rfl
theorem jI_21_146 : jmI (jm 21) 146 = (.iload 8, 2) := by rfl
theorem jI_21_148 : jmI (jm 21) 148 = (.iload 8, 2) := by rfl
theorem jI_21_150 : jmI (jm 21) 150 = (.iload 5, 2) := by rfl
theorem jI_21_152 : jmI (jm 21) 152 = (.if_icmp .ne 7, 3) := by rfl
theorem jI_21_155 : jmI (jm 21) 155 = (.iload_n 2, 1) := by rfl
theorem jI_21_156 : jmI (jm 21) 156 = (.goto 10, 3) := by rfl
theorem jI_21_167 : jmI (jm 21) 167 = (.iinc 8 1, 3) := by rfl
theorem jI_21_170 : jmI (jm 21) 170 = (.goto (-75), 3) := by rfl
theorem jI_21_177 : jmI (jm 21) 177 = (.aload 6, 2) := by rfl
theorem jI_21_179 : jmI (jm 21) 179 = (.aload 7, 2) := by rfl
theorem jA_21_294 {xs : List Int} {d : Nat} {x2 : Int} (h_x2 : 0 ≤ x2 ∧ x2 ≤ 99) : jT xs (d + 1) 21 8 0 [(0, (4, 0)), (1, (4, 1)), (2, (0, x2)), (3, (4, 2))] [] jpA_1239 3 4 (fun k v hsN => k = 0 ∧ v = (4, 10) ∧ hsN = jpA_1239 ++ [(114, [], [1]), (100, [], [x2]), (5, [(4, 8), (4, 9)], [])]) := by
  refine jT_xaload_n (v := (4, 2)) (pcN := 1) jI_21_0 rfl rfl rfl ?_
  refine jT_xaload_n (v := (4, 0)) (pcN := 2) jI_21_1 rfl rfl rfl ?_
  refine jT_xgetf (a := 0) (t := 1) (ci := 5) (fi := 0) (c := (5, [(4, 3), (4, 4)], [])) (v := (4, 3)) (pcN := 5) jI_21_2 rfl rfl rfl rfl rfl rfl rfl ?_
  refine jT_xaload_n (v := (4, 0)) (pcN := 6) jI_21_5 rfl rfl rfl ?_
  refine jT_xgetf (a := 0) (t := 1) (ci := 5) (fi := 0) (c := (5, [(4, 3), (4, 4)], [])) (v := (4, 3)) (pcN := 9) jI_21_6 rfl rfl rfl rfl rfl rfl rfl ?_
  refine jT_adv 1 (pcN := 10) (LN := [(0, (4, 0)), (1, (4, 1)), (2, (0, x2)), (3, (4, 2))]) (stN := [(0, 0), (4, 3), (4, 2)]) (hsN := jpA_1239) (c1 := 0) (s1 := 0) (c2 := 3) (s2 := 4) (by exact rfl) ?_ (by omega) (by omega)
  refine jT_xaload_n (v := (4, 1)) (pcN := 11) jI_21_10 rfl rfl rfl ?_
  refine jT_fR [2, 3, 1] 8 (y := 48) (pcN := 14) (dC := 0) (bc1 := 0) (bc2 := 0) (c1 := 3) (c2 := 4) (as := [(4, 2), (4, 3), (0, 0), (4, 1)]) (asC := [(4, 0), (4, 1), (0, 0), (4, 2)]) (LN := [(0, (4, 0)), (1, (4, 1)), (2, (0, x2)), (3, (4, 2))]) (stN := []) (hsC := [jgh, (114, [], []), jgh]) (v := (0, (-1))) (st2 := [(0, (-1))]) (jA_48_291 (d := 0)) (by rfl) (by rfl) (by decide +kernel) (by rfl) (by rfl) (by omega) (by omega) (by omega) (by omega) rfl ?_
  refine jT_xistore (v := (0, (-1))) (LN := [(4, (0, (-1))), (0, (4, 0)), (1, (4, 1)), (2, (0, x2)), (3, (4, 2))]) (pcN := 16) jI_21_14 rfl rfl rfl rfl ?_
  refine jT_xiload (v := (0, (-1))) (pcN := 18) jI_21_16 rfl rfl rfl ?_
  refine jT_xifT (pcN := 63) jI_21_18 rfl (by decide +kernel) rfl ?_
  refine jT_xiconst (k := (-1)) (pcN := 64) jI_21_63 rfl ?_
  refine jT_xiload (v := (0, (-1))) (pcN := 66) jI_21_64 rfl rfl rfl ?_
  refine jT_xisub (x := (-1)) (y := (-1)) (z := 0) (pcN := 67) jI_21_66 rfl (by decide) rfl ?_
  refine jT_xistore (v := (0, 0)) (LN := [(5, (0, 0)), (4, (0, (-1))), (0, (4, 0)), (1, (4, 1)), (2, (0, x2)), (3, (4, 2))]) (pcN := 69) jI_21_67 rfl rfl rfl rfl ?_
  refine jT_xaload_n (v := (4, 0)) (pcN := 70) jI_21_69 rfl rfl rfl ?_
  refine jT_xgetf (a := 0) (t := 1) (ci := 5) (fi := 0) (c := (5, [(4, 3), (4, 4)], [])) (v := (4, 3)) (pcN := 73) jI_21_70 rfl rfl rfl rfl rfl rfl rfl ?_
  refine jT_adv 1 (pcN := 74) (LN := [(5, (0, 0)), (4, (0, (-1))), (0, (4, 0)), (1, (4, 1)), (2, (0, x2)), (3, (4, 2))]) (stN := [(0, 0)]) (hsN := jpA_1239) (c1 := 0) (s1 := 0) (c2 := 3) (s2 := 4) (by exact rfl) ?_ (by omega) (by omega)
  refine jT_xiconst (k := 1) (pcN := 75) jI_21_74 rfl ?_
  refine jT_xiadd (x := 0) (y := 1) (z := 1) (pcN := 76) jI_21_75 rfl (by decide) rfl ?_
  refine jT_adv 1 (pcN := 79) (LN := [(5, (0, 0)), (4, (0, (-1))), (0, (4, 0)), (1, (4, 1)), (2, (0, x2)), (3, (4, 2))]) (stN := [(4, 8)]) (hsN := jpA_1252) (c1 := 1) (s1 := 1) (c2 := 2) (s2 := 3) (by exact rfl) ?_ (by omega) (by omega)
  refine jT_xastore (v := (4, 8)) (LN := [(6, (4, 8)), (5, (0, 0)), (4, (0, (-1))), (0, (4, 0)), (1, (4, 1)), (2, (0, x2)), (3, (4, 2))]) (pcN := 81) jI_21_79 rfl rfl rfl rfl ?_
  refine jT_xaload_n (v := (4, 0)) (pcN := 82) jI_21_81 rfl rfl rfl ?_
  refine jT_xgetf (a := 0) (t := 1) (ci := 5) (fi := 0) (c := (5, [(4, 3), (4, 4)], [])) (v := (4, 3)) (pcN := 85) jI_21_82 rfl rfl rfl rfl rfl rfl rfl ?_
  refine jT_adv 1 (pcN := 86) (LN := [(6, (4, 8)), (5, (0, 0)), (4, (0, (-1))), (0, (4, 0)), (1, (4, 1)), (2, (0, x2)), (3, (4, 2))]) (stN := [(0, 0)]) (hsN := jpA_1252) (c1 := 0) (s1 := 0) (c2 := 2) (s2 := 3) (by exact rfl) ?_ (by omega) (by omega)
  refine jT_xiconst (k := 1) (pcN := 87) jI_21_86 rfl ?_
  refine jT_xiadd (x := 0) (y := 1) (z := 1) (pcN := 88) jI_21_87 rfl (by decide) rfl ?_
  refine jT_adv 1 (pcN := 90) (LN := [(6, (4, 8)), (5, (0, 0)), (4, (0, (-1))), (0, (4, 0)), (1, (4, 1)), (2, (0, x2)), (3, (4, 2))]) (stN := [(4, 9)]) (hsN := jpA_1258) (c1 := 1) (s1 := 1) (c2 := 1) (s2 := 2) (by exact rfl) ?_ (by omega) (by omega)
  refine jT_xastore (v := (4, 9)) (LN := [(7, (4, 9)), (6, (4, 8)), (5, (0, 0)), (4, (0, (-1))), (0, (4, 0)), (1, (4, 1)), (2, (0, x2)), (3, (4, 2))]) (pcN := 92) jI_21_90 rfl rfl rfl rfl ?_
  refine jT_xiconst (k := 0) (pcN := 93) jI_21_92 rfl ?_
  refine jT_xistore (v := (0, 0)) (LN := [(8, (0, 0)), (7, (4, 9)), (6, (4, 8)), (5, (0, 0)), (4, (0, (-1))), (0, (4, 0)), (1, (4, 1)), (2, (0, x2)), (3, (4, 2))]) (pcN := 95) jI_21_93 rfl rfl rfl rfl ?_
  refine jT_xiload (v := (0, 0)) (pcN := 97) jI_21_95 rfl rfl rfl ?_
  refine jT_xaload (v := (4, 8)) (pcN := 99) jI_21_97 rfl rfl rfl ?_
  refine jT_adv 1 (pcN := 100) (LN := [(8, (0, 0)), (7, (4, 9)), (6, (4, 8)), (5, (0, 0)), (4, (0, (-1))), (0, (4, 0)), (1, (4, 1)), (2, (0, x2)), (3, (4, 2))]) (stN := [(0, 1), (0, 0)]) (hsN := jpA_1258) (c1 := 0) (s1 := 0) (c2 := 1) (s2 := 2) (by exact rfl) ?_ (by omega) (by omega)
  refine jT_xicF (t := 173) (pcN := 103) jI_21_100 rfl (by decide +kernel) rfl rfl ?_
  refine jT_xiload (v := (0, 0)) (pcN := 105) jI_21_103 rfl rfl rfl ?_
  refine jT_xiload (v := (0, 0)) (pcN := 107) jI_21_105 rfl rfl rfl ?_
  refine jT_xicT (pcN := 115) jI_21_107 rfl (by decide +kernel) rfl ?_
  refine jT_xiload (v := (0, 0)) (pcN := 117) jI_21_115 rfl rfl rfl ?_
  refine jT_xiconst (k := 1) (pcN := 118) jI_21_117 rfl ?_
  refine jT_xisub (x := 0) (y := 1) (z := (-1)) (pcN := 119) jI_21_118 rfl (by decide) rfl ?_
  refine jT_xistore (v := (0, (-1))) (LN := [(9, (0, (-1))), (8, (0, 0)), (7, (4, 9)), (6, (4, 8)), (5, (0, 0)), (4, (0, (-1))), (0, (4, 0)), (1, (4, 1)), (2, (0, x2)), (3, (4, 2))]) (pcN := 121) jI_21_119 rfl rfl rfl rfl ?_
  refine jT_xaload (v := (4, 8)) (pcN := 123) jI_21_121 rfl rfl rfl ?_
  refine jT_xiload (v := (0, 0)) (pcN := 125) jI_21_123 rfl rfl rfl ?_
  refine jT_xiload (v := (0, 0)) (pcN := 127) jI_21_125 rfl rfl rfl ?_
  refine jT_xiload (v := (0, 0)) (pcN := 129) jI_21_127 rfl rfl rfl ?_
  refine jT_xicF (t := 136) (pcN := 132) jI_21_129 rfl (by decide +kernel) rfl rfl ?_
  refine jT_xaload_n (v := (4, 1)) (pcN := 133) jI_21_132 rfl rfl rfl ?_
  refine jT_xgoto (pcN := 143) jI_21_133 rfl ?_
  refine jT_adv 1 (pcN := 144) (LN := [(9, (0, (-1))), (8, (0, 0)), (7, (4, 9)), (6, (4, 8)), (5, (0, 0)), (4, (0, (-1))), (0, (4, 0)), (1, (4, 1)), (2, (0, x2)), (3, (4, 2))]) (stN := []) (hsN := jpA_1279) (c1 := 0) (s1 := 0) (c2 := 1) (s2 := 2) (by exact rfl) ?_ (by omega) (by omega)
  refine jT_xaload (v := (4, 9)) (pcN := 146) jI_21_144 rfl rfl rfl ?_
  refine jT_xiload (v := (0, 0)) (pcN := 148) jI_21_146 rfl rfl rfl ?_
  refine jT_xiload (v := (0, 0)) (pcN := 150) jI_21_148 rfl rfl rfl ?_
  refine jT_xiload (v := (0, 0)) (pcN := 152) jI_21_150 rfl rfl rfl ?_
  refine jT_xicF (t := 159) (pcN := 155) jI_21_152 rfl (by decide +kernel) rfl rfl ?_
  refine jT_xiload_n (v := (0, x2)) (pcN := 156) jI_21_155 rfl rfl rfl ?_
  refine jT_xgoto (pcN := 166) jI_21_156 rfl ?_
  refine jT_adv 1 (pcN := 167) (LN := [(9, (0, (-1))), (8, (0, 0)), (7, (4, 9)), (6, (4, 8)), (5, (0, 0)), (4, (0, (-1))), (0, (4, 0)), (1, (4, 1)), (2, (0, x2)), (3, (4, 2))]) (stN := []) (hsN := [(5, [(4, 3), (4, 4)], []), (4, [(4, 5), (1, 1)], []), (8, [(4, 6), (4, 7)], []), (114, [], []), jgh, jgh, jgh, jgh, (114, [], [1]), (100, [], [x2])]) (c1 := 0) (s1 := 0) (c2 := 1) (s2 := 2) (by exact rfl) ?_ (by omega) (by omega)
  refine jT_xiinc (x := 0) (z := 1) (LN := [(8, (0, 1)), (9, (0, (-1))), (7, (4, 9)), (6, (4, 8)), (5, (0, 0)), (4, (0, (-1))), (0, (4, 0)), (1, (4, 1)), (2, (0, x2)), (3, (4, 2))]) (pcN := 170) jI_21_167 rfl rfl (by decide) rfl rfl ?_
  refine jT_xgoto (pcN := 95) jI_21_170 rfl ?_
  refine jT_xiload (v := (0, 1)) (pcN := 97) jI_21_95 rfl rfl rfl ?_
  refine jT_xaload (v := (4, 8)) (pcN := 99) jI_21_97 rfl rfl rfl ?_
  refine jT_adv 1 (pcN := 100) (LN := [(8, (0, 1)), (9, (0, (-1))), (7, (4, 9)), (6, (4, 8)), (5, (0, 0)), (4, (0, (-1))), (0, (4, 0)), (1, (4, 1)), (2, (0, x2)), (3, (4, 2))]) (stN := [(0, 1), (0, 1)]) (hsN := [(5, [(4, 3), (4, 4)], []), (4, [(4, 5), (1, 1)], []), (8, [(4, 6), (4, 7)], []), (114, [], []), jgh, jgh, jgh, jgh, (114, [], [1]), (100, [], [x2])]) (c1 := 0) (s1 := 0) (c2 := 1) (s2 := 2) (by exact rfl) ?_ (by omega) (by omega)
  refine jT_xicT (pcN := 173) jI_21_100 rfl (by decide +kernel) rfl ?_
  refine jT_adv 2 (pcN := 177) (LN := [(8, (0, 1)), (9, (0, (-1))), (7, (4, 9)), (6, (4, 8)), (5, (0, 0)), (4, (0, (-1))), (0, (4, 0)), (1, (4, 1)), (2, (0, x2)), (3, (4, 2))]) (stN := [(4, 10), (4, 10)]) (hsN := [(5, [(4, 3), (4, 4)], []), (4, [(4, 5), (1, 1)], []), (8, [(4, 6), (4, 7)], []), (114, [], []), jgh, jgh, jgh, jgh, (114, [], [1]), (100, [], [x2]), (5, [(4, (-1)), (4, (-1))], [])]) (c1 := 1) (s1 := 2) (c2 := 0) (s2 := 0) (by exact rfl) ?_ (by omega) (by omega)
  refine jT_xaload (v := (4, 8)) (pcN := 179) jI_21_177 rfl rfl rfl ?_
  refine jT_xaload (v := (4, 9)) (pcN := 181) jI_21_179 rfl rfl rfl ?_
  refine jT_callB [10, 8, 9] (y := 19) (pcN := 184) (dC := 0) (bc1 := 0) (bc2 := 0) (c1 := 0) (c2 := 0) (as := [(4, 10), (4, 8), (4, 9)]) (asC := [(4, 0), (4, 1), (4, 2)]) (LN := [(8, (0, 1)), (9, (0, (-1))), (7, (4, 9)), (6, (4, 8)), (5, (0, 0)), (4, (0, (-1))), (0, (4, 0)), (1, (4, 1)), (2, (0, x2)), (3, (4, 2))]) (stN := [(4, 10)]) (hsC := [(5, [(4, (-1)), (4, (-1))], []), jgh, jgh]) (hsD := [(5, [(4, 1), (4, 2)], []), jgh, jgh]) (v := (9, 0)) (st2 := [(4, 10)]) (hs2 := [(5, [(4, 3), (4, 4)], []), (4, [(4, 5), (1, 1)], []), (8, [(4, 6), (4, 7)], []), (114, [], []), jgh, jgh, jgh, jgh, (114, [], [1]), (100, [], [x2]), (5, [(4, 8), (4, 9)], [])]) (jA_19_293 (d := 0)) (by rfl) (by rfl) (by rfl) (by rfl) ⟨rfl, rfl, rfl, trivial⟩ (by rfl) (by rfl) (by omega) (by show 8 ≤ 11; omega) (by omega) (by omega) rfl rfl ?_
  exact jT_ret rfl (by decide) (by show 8 ≤ 11; decide) (by omega) (by omega) ⟨rfl, rfl, rfl⟩
def jpA_1291 : List JC := [jzA_55, jgh, jgh, jgh, jgh, jgh, jgh, jzA_51]
def jzA_1292 : JC := (9, [(4, 2), (4, 3), (4, 1), (4, 5), (4, 6)], [])
def jpA_1293 : List JC := [jzA_55, jgh, jgh, jgh, jgh, jgh, jgh, jzA_1292]
def jpA_1294 : List JC := [jzA_55, jgh, jgh, jgh, jgh, jgh, jgh]
theorem jA_59_295 {xs : List Int} {d : Nat} : jT xs (d + 1) 59 7 0 [(0, (4, 0)), (1, (4, 1))] [] jpA_1294 1 5 (fun k v hsN => k = 0 ∧ v = (4, 7) ∧ hsN = jpA_1294 ++ [jzA_1292]) := by
  refine jT_advK 11 (pcN := 21) (LN := [(0, (4, 0)), (1, (4, 1))]) (stN := [(4, 6), (4, 5), (4, 1), (4, 3), (4, 2), (4, 7), (4, 7)]) (hsN := jpA_1291) (c1 := 1) (s1 := 5) (c2 := 0) (s2 := 0) (by decide +kernel) ?_ (by omega) (by omega)
  refine jT_fB [7, 2, 3, 1, 5, 6] 8 (y := 53) (pcN := 24) (dC := 0) (bc1 := 0) (bc2 := 0) (c1 := 0) (c2 := 0) (as := [(4, 7), (4, 2), (4, 3), (4, 1), (4, 5), (4, 6)]) (asC := [(4, 0), (4, 1), (4, 2), (4, 3), (4, 4), (4, 5)]) (LN := [(0, (4, 0)), (1, (4, 1))]) (stN := [(4, 7)]) (hsC := jpA_52) (hsD := jpA_50) (v := (9, 0)) (st2 := [(4, 7)]) (hs2 := jpA_1293) (jA_53_32 (d := 0)) (by rfl) (by rfl) (by decide +kernel) (by rfl) (by rfl) (by omega) (by omega) (by omega) (by omega) rfl (by decide +kernel) ?_
  exact jT_ret rfl (by decide) (by show 7 ≤ 8; decide) (by omega) (by omega) ⟨rfl, rfl, rfl⟩
theorem jI_125_15 : jmI (jm 125) 15 = (.aload_n 0, 1) := by rfl
theorem jI_125_16 : jmI (jm 125) 16 = (.getfield 67, 3) := by rfl
theorem jI_125_19 : jmI (jm 125) 19 = (.iload_n 1, 1) := by rfl
theorem jI_125_23 : jmI (jm 125) 23 = (.astore_n 3, 1) := by rfl
theorem jI_125_24 : jmI (jm 125) 24 = (.aload_n 0, 1) := by rfl
theorem jI_125_25 : jmI (jm 125) 25 = (.getfield 67, 3) := by rfl
theorem jI_125_28 : jmI (jm 125) 28 = (.getfield 140, 3) := by rfl
theorem jI_125_31 : jmI (jm 125) 31 = (.aload_n 3, 1) := by rfl
theorem jI_125_32 : jmI (jm 125) 32 = (.aload_n 0, 1) := by rfl
theorem jI_125_33 : jmI (jm 125) 33 = (.getfield 10, 3) := by rfl
theorem jI_125_39 : jmI (jm 125) 39 = (.istore 4, 2) := by rfl
theorem jI_125_41 : jmI (jm 125) 41 = (.aload_n 0, 1) := by rfl
theorem jI_125_42 : jmI (jm 125) 42 = (.aload_n 0, 1) := by rfl
theorem jI_125_43 : jmI (jm 125) 43 = (.getfield 67, 3) := by rfl
theorem jI_125_46 : jmI (jm 125) 46 = (.aload_n 0, 1) := by rfl
theorem jI_125_47 : jmI (jm 125) 47 = (.getfield 67, 3) := by rfl
theorem jI_125_50 : jmI (jm 125) 50 = (.getfield 140, 3) := by rfl
theorem jI_125_53 : jmI (jm 125) 53 = (.aload_n 3, 1) := by rfl
theorem jI_125_54 : jmI (jm 125) 54 = (.iload_n 2, 1) := by rfl
theorem jI_125_55 : jmI (jm 125) 55 = (.aload_n 0, 1) := by rfl
theorem jI_125_56 : jmI (jm 125) 56 = (.getfield 10, 3) := by rfl
def jzA_1316 : JC := (9, [(4, 14), (4, 15), (4, 25), (4, 17), (4, 18)], [])
theorem jI_125_68 : jmI (jm 125) 68 = (.iload 4, 2) := by rfl
def jpA_1318 : List JC := [jzA_5, (8, [(4, 12), (4, 13)], []), jgh, jgh, jgh, jgh, jgh, jgh, jgh, jgh, jzA_79, jzA_640, jgh, jgh, jzA_641, jgh, (5, [(4, 20), (4, 21)], []), jgh, jgh, (4, [(4, 22), (1, 1)], []), (114, [], []), jgh, jgh]
theorem jA_125_296 {xs : List Int} {d : Nat} {x1 x2 : Int} (h_x1 : 0 ≤ x1 ∧ x1 ≤ 7) (h_x2 : 0 ≤ x2 ∧ x2 ≤ 99) : jT xs (d + 2) 125 23 0 [(0, (4, 0)), (1, (0, x1)), (2, (0, x2))] [] jpA_1318 4 9 (fun k v hsN => k = 0 ∧ v = (0, (-1)) ∧ hsN = [jzA_974, (8, [(4, 12), (4, 13)], []), jgh, jgh, jgh, jgh, jgh, jgh, jgh, jgh, jzA_102, jzA_640, jgh, jgh, jzA_641, jgh, (5, [(4, 20), (4, 21)], []), jgh, jgh, (4, [(4, 22), (1, 1)], []), (114, [], []), jgh, jgh, (114, [], [19]), (100, [], [x2]), (5, [(4, 23), (4, 24)], []), jzA_1316]) := by
  refine jT_xaload_n (v := (4, 0)) (pcN := 1) jI_125_0 rfl rfl rfl ?_
  refine jT_xiload_n (v := (0, x1)) (pcN := 2) jI_125_1 rfl rfl rfl ?_
  refine jT_xbipush (k := 8) (pcN := 4) jI_125_2 (by decide) rfl ?_
  refine jT_fR [0] 23 (y := 115) (pcN := 7) (dC := 0) (bc1 := 0) (bc2 := 0) (c1 := 4) (c2 := 9) (as := [(4, 0), (0, x1), (0, 8)]) (asC := [(4, 0), (0, x1), (0, 8)]) (LN := [(0, (4, 0)), (1, (0, x1)), (2, (0, x2))]) (stN := []) (hsC := [jgh]) (v := (9, 0)) (st2 := []) (jA_115_9 (d := 0) (by omega)) (by rfl) (by rfl) (by decide +kernel) (by rfl) (by rfl) (by omega) (by omega) (by omega) (by omega) rfl ?_
  refine jT_xaload_n (v := (4, 0)) (pcN := 8) jI_125_7 rfl rfl rfl ?_
  refine jT_xiload_n (v := (0, x2)) (pcN := 9) jI_125_8 rfl rfl rfl ?_
  refine jT_xiconst (k := 0) (pcN := 10) jI_125_9 rfl ?_
  refine jT_xbipush (k := 99) (pcN := 12) jI_125_10 (by decide) rfl ?_
  refine jT_fR [0] 23 (y := 116) (pcN := 15) (dC := 0) (bc1 := 0) (bc2 := 0) (c1 := 4) (c2 := 9) (as := [(4, 0), (0, x2), (0, 0), (0, 99)]) (asC := [(4, 0), (0, x2), (0, 0), (0, 99)]) (LN := [(0, (4, 0)), (1, (0, x1)), (2, (0, x2))]) (stN := []) (hsC := [jgh]) (v := (9, 0)) (st2 := []) (jA_116_290 (d := 0) (by omega)) (by rfl) (by rfl) (by decide +kernel) (by rfl) (by rfl) (by omega) (by omega) (by omega) (by omega) rfl ?_
  refine jT_xaload_n (v := (4, 0)) (pcN := 16) jI_125_15 rfl rfl rfl ?_
  refine jT_xgetf (a := 0) (t := 1) (ci := 13) (fi := 11) (c := jzA_5) (v := (4, 11)) (pcN := 19) jI_125_16 rfl rfl rfl rfl rfl rfl rfl ?_
  refine jT_xiload_n (v := (0, x1)) (pcN := 20) jI_125_19 rfl rfl rfl ?_
  refine jT_fR [11, 14, 15, 16, 17, 18, 19] 23 (y := 57) (pcN := 23) (dC := 0) (bc1 := 0) (bc2 := 0) (c1 := 4) (c2 := 9) (as := [(4, 11), (0, x1)]) (asC := [(4, 0), (0, x1)]) (LN := [(0, (4, 0)), (1, (0, x1)), (2, (0, x2))]) (stN := []) (hsC := jpA_47) (v := (4, 6)) (st2 := [(4, 19)]) (jA_57_108 (d := 0) (by omega)) (by rfl) (by rfl) (by decide +kernel) (by rfl) (by rfl) (by omega) (by omega) (by omega) (by omega) rfl ?_
  refine jT_xastore_n (v := (4, 19)) (LN := [(3, (4, 19)), (0, (4, 0)), (1, (0, x1)), (2, (0, x2))]) (pcN := 24) jI_125_23 rfl rfl rfl rfl ?_
  refine jT_xaload_n (v := (4, 0)) (pcN := 25) jI_125_24 rfl rfl rfl ?_
  refine jT_xgetf (a := 0) (t := 1) (ci := 13) (fi := 11) (c := jzA_5) (v := (4, 11)) (pcN := 28) jI_125_25 rfl rfl rfl rfl rfl rfl rfl ?_
  refine jT_xgetf (a := 11) (t := 2) (ci := 9) (fi := 2) (c := jzA_640) (v := (4, 16)) (pcN := 31) jI_125_28 rfl rfl rfl rfl rfl rfl rfl ?_
  refine jT_xaload_n (v := (4, 19)) (pcN := 32) jI_125_31 rfl rfl rfl ?_
  refine jT_xaload_n (v := (4, 0)) (pcN := 33) jI_125_32 rfl rfl rfl ?_
  refine jT_xgetf (a := 0) (t := 1) (ci := 13) (fi := 0) (c := jzA_5) (v := (4, 1)) (pcN := 36) jI_125_33 rfl rfl rfl rfl rfl rfl rfl ?_
  refine jT_fR [16, 19, 1, 20, 21, 12, 13] 23 (y := 20) (pcN := 39) (dC := 1) (bc1 := 0) (bc2 := 0) (c1 := 4) (c2 := 9) (as := [(4, 16), (4, 19), (4, 1)]) (asC := [(4, 0), (4, 1), (4, 2)]) (LN := [(3, (4, 19)), (0, (4, 0)), (1, (0, x1)), (2, (0, x2))]) (stN := []) (hsC := jpA_1233) (v := (0, (-1))) (st2 := [(0, (-1))]) (jA_20_292 (d := 0)) (by rfl) (by rfl) (by decide +kernel) (by rfl) (by rfl) (by omega) (by omega) (by omega) (by omega) rfl ?_
  refine jT_xistore (v := (0, (-1))) (LN := [(4, (0, (-1))), (3, (4, 19)), (0, (4, 0)), (1, (0, x1)), (2, (0, x2))]) (pcN := 41) jI_125_39 rfl rfl rfl rfl ?_
  refine jT_xaload_n (v := (4, 0)) (pcN := 42) jI_125_41 rfl rfl rfl ?_
  refine jT_xaload_n (v := (4, 0)) (pcN := 43) jI_125_42 rfl rfl rfl ?_
  refine jT_xgetf (a := 0) (t := 1) (ci := 13) (fi := 11) (c := jzA_5) (v := (4, 11)) (pcN := 46) jI_125_43 rfl rfl rfl rfl rfl rfl rfl ?_
  refine jT_xaload_n (v := (4, 0)) (pcN := 47) jI_125_46 rfl rfl rfl ?_
  refine jT_xgetf (a := 0) (t := 1) (ci := 13) (fi := 11) (c := jzA_5) (v := (4, 11)) (pcN := 50) jI_125_47 rfl rfl rfl rfl rfl rfl rfl ?_
  refine jT_xgetf (a := 11) (t := 2) (ci := 9) (fi := 2) (c := jzA_640) (v := (4, 16)) (pcN := 53) jI_125_50 rfl rfl rfl rfl rfl rfl rfl ?_
  refine jT_xaload_n (v := (4, 19)) (pcN := 54) jI_125_53 rfl rfl rfl ?_
  refine jT_xiload_n (v := (0, x2)) (pcN := 55) jI_125_54 rfl rfl rfl ?_
  refine jT_xaload_n (v := (4, 0)) (pcN := 56) jI_125_55 rfl rfl rfl ?_
  refine jT_xgetf (a := 0) (t := 1) (ci := 13) (fi := 0) (c := jzA_5) (v := (4, 1)) (pcN := 59) jI_125_56 rfl rfl rfl rfl rfl rfl rfl ?_
  refine jT_fA [16, 19, 1, 20, 21, 22, 12, 13] 23 (y := 21) (pcN := 62) (dC := 1) (bc1 := 3) (bc2 := 4) (c1 := 1) (c2 := 5) (as := [(4, 16), (4, 19), (0, x2), (4, 1)]) (asC := [(4, 0), (4, 1), (0, x2), (4, 2)]) (LN := [(4, (0, (-1))), (3, (4, 19)), (0, (4, 0)), (1, (0, x1)), (2, (0, x2))]) (stN := [(4, 11), (4, 0)]) (hsC := jpA_1239) (ex := [(114, [], [1]), (100, [], [x2]), (5, [(4, 8), (4, 9)], [])]) (v := (4, 10)) (st2 := [(4, 25), (4, 11), (4, 0)]) (hs2 := [jzA_5, (8, [(4, 12), (4, 13)], []), jgh, jgh, jgh, jgh, jgh, jgh, jgh, jgh, jzA_79, jzA_640, jgh, jgh, jzA_641, jgh, (5, [(4, 20), (4, 21)], []), jgh, jgh, (4, [(4, 22), (1, 1)], []), (114, [], []), jgh, jgh, (114, [], [19]), (100, [], [x2]), (5, [(4, 23), (4, 24)], [])]) (jA_21_294 (d := 0) (by omega)) (by rfl) (by rfl) (by decide +kernel) (by rfl) (by rfl) (by omega) (by omega) (by omega) (by omega) rfl rfl ?_
  refine jT_callA [11, 25, 14, 15, 16, 17, 18] (y := 59) (pcN := 65) (dC := 1) (bc1 := 1) (bc2 := 5) (c1 := 0) (c2 := 0) (as := [(4, 11), (4, 25)]) (asC := [(4, 0), (4, 1)]) (LN := [(4, (0, (-1))), (3, (4, 19)), (0, (4, 0)), (1, (0, x1)), (2, (0, x2))]) (stN := [(4, 0)]) (hsC := jpA_1294) (ex := [jzA_1292]) (v := (4, 7)) (st2 := [(4, 26), (4, 0)]) (hs2 := [jzA_5, (8, [(4, 12), (4, 13)], []), jgh, jgh, jgh, jgh, jgh, jgh, jgh, jgh, jzA_79, jzA_640, jgh, jgh, jzA_641, jgh, (5, [(4, 20), (4, 21)], []), jgh, jgh, (4, [(4, 22), (1, 1)], []), (114, [], []), jgh, jgh, (114, [], [19]), (100, [], [x2]), (5, [(4, 23), (4, 24)], []), jzA_1316]) (jA_59_295 (d := 0)) (by rfl) (by rfl) (by rfl) (by rfl) ⟨rfl, rfl, rfl, rfl, rfl, rfl, rfl, trivial⟩ (by rfl) (by rfl) (by omega) (by show 23 ≤ 26; omega) (by omega) (by omega) rfl rfl ?_
  refine jT_callB [0, 26, 1, 2, 3, 4, 5, 6, 7, 8, 9, 10, 11, 14, 15, 16, 17, 18] (y := 100) (pcN := 68) (dC := 0) (bc1 := 0) (bc2 := 0) (c1 := 0) (c2 := 0) (as := [(4, 0), (4, 26)]) (asC := [(4, 0), (4, 1)]) (LN := [(4, (0, (-1))), (3, (4, 19)), (0, (4, 0)), (1, (0, x1)), (2, (0, x2))]) (stN := []) (hsC := jpA_80) (hsD := jpA_78) (v := (9, 0)) (st2 := []) (hs2 := [jzA_974, (8, [(4, 12), (4, 13)], []), jgh, jgh, jgh, jgh, jgh, jgh, jgh, jgh, jzA_102, jzA_640, jgh, jgh, jzA_641, jgh, (5, [(4, 20), (4, 21)], []), jgh, jgh, (4, [(4, 22), (1, 1)], []), (114, [], []), jgh, jgh, (114, [], [19]), (100, [], [x2]), (5, [(4, 23), (4, 24)], []), jzA_1316]) (jA_100_34 (d := 0)) (by rfl) (by rfl) (by rfl) (by rfl) ⟨rfl, rfl, rfl, rfl, rfl, rfl, rfl, rfl, rfl, rfl, rfl, rfl, rfl, rfl, rfl, rfl, rfl, rfl, trivial⟩ (by rfl) (by rfl) (by omega) (by show 23 ≤ 27; omega) (by omega) (by omega) rfl rfl ?_
  refine jT_xiload (v := (0, (-1))) (pcN := 70) jI_125_68 rfl rfl rfl ?_
  exact jT_ret rfl (by decide) (by show 23 ≤ 27; decide) (by omega) (by omega) ⟨rfl, rfl, rfl⟩
def jzA_1319 : JC := (9, [(4, 15), (4, 16), (4, 26), (4, 18), (4, 19)], [])
theorem jI_334_8 : jmI (jm 334) 8 = (.i2l, 1) := by rfl
theorem jI_334_10 : jmI (jm 334) 10 = (.goto 11, 3) := by rfl
theorem jI_334_21 : jmI (jm 334) 21 = (.iconst 0, 1) := by rfl
def jpA_1323 : List JC := [jzA_14, (101, [], [0]), (8, [(4, 13), (4, 14)], []), jgh, jgh, jgh, jgh, jgh, jgh, jgh, jgh, jzA_79, jzA_659, jgh, jgh, jzA_660, jgh, (5, [(4, 21), (4, 22)], []), jgh, jgh, (4, [(4, 23), (1, 1)], []), (114, [], []), jgh, jgh]
theorem jA_334_297 {xs : List Int} {d : Nat} {x1 x2 : Int} (h_x1 : 0 ≤ x1 ∧ x1 ≤ 7) (h_x2 : 0 ≤ x2 ∧ x2 ≤ 99) : jT xs (d + 3) 334 24 0 [(0, (4, 0)), (1, (0, x1)), (2, (0, x2)), (3, (4, 1))] [] jpA_1323 4 9 (fun k v hsN => k = 0 ∧ v = (0, 0) ∧ hsN = [jzA_978, (101, [], [(-1)]), (8, [(4, 13), (4, 14)], []), jgh, jgh, jgh, jgh, jgh, jgh, jgh, jgh, jzA_76, jzA_659, jgh, jgh, jzA_660, jgh, (5, [(4, 21), (4, 22)], []), jgh, jgh, (4, [(4, 23), (1, 1)], []), (114, [], []), jgh, jgh, (114, [], [20]), (100, [], [x2]), (5, [(4, 24), (4, 25)], []), jzA_1319]) := by
  refine jT_xaload_n (v := (4, 1)) (pcN := 1) jI_334_0 rfl rfl rfl ?_
  refine jT_xiconst (k := 0) (pcN := 2) jI_334_1 rfl ?_
  refine jT_xaload_n (v := (4, 0)) (pcN := 3) jI_334_2 rfl rfl rfl ?_
  refine jT_xiload_n (v := (0, x1)) (pcN := 4) jI_334_3 rfl rfl rfl ?_
  refine jT_xiload_n (v := (0, x2)) (pcN := 5) jI_334_4 rfl rfl rfl ?_
  refine jT_fB [0, 2, 3, 4, 5, 6, 7, 8, 9, 10, 11, 12, 13, 14, 15, 16, 17, 18, 19, 20, 21, 22, 23] 24 (y := 125) (pcN := 8) (dC := 2) (bc1 := 4) (bc2 := 9) (c1 := 0) (c2 := 0) (as := [(4, 0), (0, x1), (0, x2)]) (asC := [(4, 0), (0, x1), (0, x2)]) (LN := [(0, (4, 0)), (1, (0, x1)), (2, (0, x2)), (3, (4, 1))]) (stN := [(0, 0), (4, 1)]) (hsC := jpA_1318) (hsD := [jzA_974, (8, [(4, 12), (4, 13)], []), jgh, jgh, jgh, jgh, jgh, jgh, jgh, jgh, jzA_102, jzA_640, jgh, jgh, jzA_641, jgh, (5, [(4, 20), (4, 21)], []), jgh, jgh, (4, [(4, 22), (1, 1)], []), (114, [], []), jgh, jgh, (114, [], [19]), (100, [], [x2]), (5, [(4, 23), (4, 24)], []), jzA_1316]) (v := (0, (-1))) (st2 := [(0, (-1)), (0, 0), (4, 1)]) (hs2 := [jzA_978, (101, [], [0]), (8, [(4, 13), (4, 14)], []), jgh, jgh, jgh, jgh, jgh, jgh, jgh, jgh, jzA_76, jzA_659, jgh, jgh, jzA_660, jgh, (5, [(4, 21), (4, 22)], []), jgh, jgh, (4, [(4, 23), (1, 1)], []), (114, [], []), jgh, jgh, (114, [], [20]), (100, [], [x2]), (5, [(4, 24), (4, 25)], []), jzA_1319]) (jA_125_296 (d := 0) (by omega) (by omega)) (by rfl) (by rfl) (by decide +kernel) (by rfl) (by rfl) (by omega) (by omega) (by omega) (by omega) rfl rfl ?_
  refine jT_xi2l (x := (-1)) (z := (-1)) (pcN := 9) jI_334_8 rfl (by decide +kernel) rfl ?_
  refine jT_adv 1 (pcN := 10) (LN := [(0, (4, 0)), (1, (0, x1)), (2, (0, x2)), (3, (4, 1))]) (stN := []) (hsN := [jzA_978, (101, [], [(-1)]), (8, [(4, 13), (4, 14)], []), jgh, jgh, jgh, jgh, jgh, jgh, jgh, jgh, jzA_76, jzA_659, jgh, jgh, jzA_660, jgh, (5, [(4, 21), (4, 22)], []), jgh, jgh, (4, [(4, 23), (1, 1)], []), (114, [], []), jgh, jgh, (114, [], [20]), (100, [], [x2]), (5, [(4, 24), (4, 25)], []), jzA_1319]) (c1 := 0) (s1 := 0) (c2 := 0) (s2 := 0) (by exact rfl) ?_ (by omega) (by omega)
  refine jT_xgoto (pcN := 21) jI_334_10 rfl ?_
  refine jT_xiconst (k := 0) (pcN := 22) jI_334_21 rfl ?_
  exact jT_ret rfl (by decide) (by show 24 ≤ 28; decide) (by omega) (by omega) ⟨rfl, rfl, rfl⟩
theorem jA_203_298 {xs : List Int} {d : Nat} {x1 : Int} (h_x1 : 0 ≤ x1 ∧ x1 ≤ 7) : jT xs d 203 16 0 [(0, (4, 0)), (1, (4, 1)), (2, (0, 7 * x1))] [] jpA_216 0 0 (fun k v hsN => k = 0 ∧ v = (9, 0) ∧ hsN = jpA_216 ++ []) := by
  refine jT_xiconst (k := 0) (pcN := 1) jI_203_0 rfl ?_
  refine jT_xistore_n (v := (0, 0)) (LN := [(3, (0, 0)), (0, (4, 0)), (1, (4, 1)), (2, (0, 7 * x1))]) (pcN := 2) jI_203_1 rfl rfl rfl rfl ?_
  refine jT_xiload_n (v := (0, 0)) (pcN := 3) jI_203_2 rfl rfl rfl ?_
  refine jT_xbipush (k := 6) (pcN := 5) jI_203_3 (by decide) rfl ?_
  refine jT_xicF (t := 26) (pcN := 8) jI_203_5 rfl (by decide +kernel) rfl rfl ?_
  refine jT_xaload_n (v := (4, 0)) (pcN := 9) jI_203_8 rfl rfl rfl ?_
  refine jT_xgetf (a := 0) (t := 1) (ci := 14) (fi := 9) (c := jzA_200) (v := (4, 7)) (pcN := 12) jI_203_9 rfl rfl rfl rfl rfl rfl rfl ?_
  refine jT_xiload_n (v := (0, 0)) (pcN := 13) jI_203_12 rfl rfl rfl ?_
  refine jT_xaload_n (v := (4, 1)) (pcN := 14) jI_203_13 rfl rfl rfl ?_
  refine jT_xiload_n (v := (0, 7 * x1)) (pcN := 15) jI_203_14 rfl rfl rfl ?_
  refine jT_xiload_n (v := (0, 0)) (pcN := 16) jI_203_15 rfl rfl rfl ?_
  refine jT_xiadd (x := 7 * x1) (y := 0) (z := 7 * x1) (pcN := 17) jI_203_16 rfl (by omega) rfl ?_
  refine jT_iald (x := 0) (a := 1) (j := (7 * x1).toNat) (fs := []) (X := jS0) (by rfl) (by rfl) (by rfl) (jw_nn (by omega) (by omega)) (jS0_r0 (by omega) (by omega)) ?_
  refine jT_eq (LN := [(3, (0, 0)), (0, (4, 0)), (1, (4, 1)), (2, (0, 7 * x1))]) (stN := [(0, 0), (0, 0), (4, 7)]) (hsN := jpA_216) rfl rfl rfl ?_
  refine jT_xi2l (x := 0) (z := 0) (pcN := 19) jI_203_18 rfl (by decide +kernel) rfl ?_
  refine jT_adv 1 (pcN := 20) (LN := [(3, (0, 0)), (0, (4, 0)), (1, (4, 1)), (2, (0, 7 * x1))]) (stN := []) (hsN := jpA_216) (c1 := 0) (s1 := 0) (c2 := 0) (s2 := 0) (by exact rfl) ?_ (by omega) (by omega)
  refine jT_xiinc (x := 0) (z := 1) (LN := [(3, (0, 1)), (0, (4, 0)), (1, (4, 1)), (2, (0, 7 * x1))]) (pcN := 23) jI_203_20 rfl rfl (by decide) rfl rfl ?_
  refine jT_xgoto (pcN := 2) jI_203_23 rfl ?_
  refine jT_xiload_n (v := (0, 1)) (pcN := 3) jI_203_2 rfl rfl rfl ?_
  refine jT_xbipush (k := 6) (pcN := 5) jI_203_3 (by decide) rfl ?_
  refine jT_xicF (t := 26) (pcN := 8) jI_203_5 rfl (by decide +kernel) rfl rfl ?_
  refine jT_xaload_n (v := (4, 0)) (pcN := 9) jI_203_8 rfl rfl rfl ?_
  refine jT_xgetf (a := 0) (t := 1) (ci := 14) (fi := 9) (c := jzA_200) (v := (4, 7)) (pcN := 12) jI_203_9 rfl rfl rfl rfl rfl rfl rfl ?_
  refine jT_xiload_n (v := (0, 1)) (pcN := 13) jI_203_12 rfl rfl rfl ?_
  refine jT_xaload_n (v := (4, 1)) (pcN := 14) jI_203_13 rfl rfl rfl ?_
  refine jT_xiload_n (v := (0, 7 * x1)) (pcN := 15) jI_203_14 rfl rfl rfl ?_
  refine jT_xiload_n (v := (0, 1)) (pcN := 16) jI_203_15 rfl rfl rfl ?_
  refine jT_xiadd (x := 7 * x1) (y := 1) (z := 7 * x1 + 1) (pcN := 17) jI_203_16 rfl (by omega) rfl ?_
  refine jT_iald (x := 0) (a := 1) (j := (7 * x1 + 1).toNat) (fs := []) (X := jS0) (by rfl) (by rfl) (by rfl) (jw_nn (by omega) (by omega)) (jS0_r1 (by omega) (by omega)) ?_
  refine jT_eq (LN := [(3, (0, 1)), (0, (4, 0)), (1, (4, 1)), (2, (0, 7 * x1))]) (stN := [(0, 0), (0, 1), (4, 7)]) (hsN := jpA_216) rfl rfl rfl ?_
  refine jT_xi2l (x := 0) (z := 0) (pcN := 19) jI_203_18 rfl (by decide +kernel) rfl ?_
  refine jT_adv 1 (pcN := 20) (LN := [(3, (0, 1)), (0, (4, 0)), (1, (4, 1)), (2, (0, 7 * x1))]) (stN := []) (hsN := jpA_216) (c1 := 0) (s1 := 0) (c2 := 0) (s2 := 0) (by exact rfl) ?_ (by omega) (by omega)
  refine jT_xiinc (x := 1) (z := 2) (LN := [(3, (0, 2)), (0, (4, 0)), (1, (4, 1)), (2, (0, 7 * x1))]) (pcN := 23) jI_203_20 rfl rfl (by decide) rfl rfl ?_
  refine jT_xgoto (pcN := 2) jI_203_23 rfl ?_
  refine jT_xiload_n (v := (0, 2)) (pcN := 3) jI_203_2 rfl rfl rfl ?_
  refine jT_xbipush (k := 6) (pcN := 5) jI_203_3 (by decide) rfl ?_
  refine jT_xicF (t := 26) (pcN := 8) jI_203_5 rfl (by decide +kernel) rfl rfl ?_
  refine jT_xaload_n (v := (4, 0)) (pcN := 9) jI_203_8 rfl rfl rfl ?_
  refine jT_xgetf (a := 0) (t := 1) (ci := 14) (fi := 9) (c := jzA_200) (v := (4, 7)) (pcN := 12) jI_203_9 rfl rfl rfl rfl rfl rfl rfl ?_
  refine jT_xiload_n (v := (0, 2)) (pcN := 13) jI_203_12 rfl rfl rfl ?_
  refine jT_xaload_n (v := (4, 1)) (pcN := 14) jI_203_13 rfl rfl rfl ?_
  refine jT_xiload_n (v := (0, 7 * x1)) (pcN := 15) jI_203_14 rfl rfl rfl ?_
  refine jT_xiload_n (v := (0, 2)) (pcN := 16) jI_203_15 rfl rfl rfl ?_
  refine jT_xiadd (x := 7 * x1) (y := 2) (z := 7 * x1 + 2) (pcN := 17) jI_203_16 rfl (by omega) rfl ?_
  refine jT_iald (x := 0) (a := 1) (j := (7 * x1 + 2).toNat) (fs := []) (X := jS0) (by rfl) (by rfl) (by rfl) (jw_nn (by omega) (by omega)) (jS0_r2 (by omega) (by omega)) ?_
  refine jT_eq (LN := [(3, (0, 2)), (0, (4, 0)), (1, (4, 1)), (2, (0, 7 * x1))]) (stN := [(0, 0), (0, 2), (4, 7)]) (hsN := jpA_216) rfl rfl rfl ?_
  refine jT_xi2l (x := 0) (z := 0) (pcN := 19) jI_203_18 rfl (by decide +kernel) rfl ?_
  refine jT_adv 1 (pcN := 20) (LN := [(3, (0, 2)), (0, (4, 0)), (1, (4, 1)), (2, (0, 7 * x1))]) (stN := []) (hsN := jpA_216) (c1 := 0) (s1 := 0) (c2 := 0) (s2 := 0) (by exact rfl) ?_ (by omega) (by omega)
  refine jT_xiinc (x := 2) (z := 3) (LN := [(3, (0, 3)), (0, (4, 0)), (1, (4, 1)), (2, (0, 7 * x1))]) (pcN := 23) jI_203_20 rfl rfl (by decide) rfl rfl ?_
  refine jT_xgoto (pcN := 2) jI_203_23 rfl ?_
  refine jT_xiload_n (v := (0, 3)) (pcN := 3) jI_203_2 rfl rfl rfl ?_
  refine jT_xbipush (k := 6) (pcN := 5) jI_203_3 (by decide) rfl ?_
  refine jT_xicF (t := 26) (pcN := 8) jI_203_5 rfl (by decide +kernel) rfl rfl ?_
  refine jT_xaload_n (v := (4, 0)) (pcN := 9) jI_203_8 rfl rfl rfl ?_
  refine jT_xgetf (a := 0) (t := 1) (ci := 14) (fi := 9) (c := jzA_200) (v := (4, 7)) (pcN := 12) jI_203_9 rfl rfl rfl rfl rfl rfl rfl ?_
  refine jT_xiload_n (v := (0, 3)) (pcN := 13) jI_203_12 rfl rfl rfl ?_
  refine jT_xaload_n (v := (4, 1)) (pcN := 14) jI_203_13 rfl rfl rfl ?_
  refine jT_xiload_n (v := (0, 7 * x1)) (pcN := 15) jI_203_14 rfl rfl rfl ?_
  refine jT_xiload_n (v := (0, 3)) (pcN := 16) jI_203_15 rfl rfl rfl ?_
  refine jT_xiadd (x := 7 * x1) (y := 3) (z := 7 * x1 + 3) (pcN := 17) jI_203_16 rfl (by omega) rfl ?_
  refine jT_iald (x := 0) (a := 1) (j := (7 * x1 + 3).toNat) (fs := []) (X := jS0) (by rfl) (by rfl) (by rfl) (jw_nn (by omega) (by omega)) (jS0_r3 (by omega) (by omega)) ?_
  refine jT_eq (LN := [(3, (0, 3)), (0, (4, 0)), (1, (4, 1)), (2, (0, 7 * x1))]) (stN := [(0, 0), (0, 3), (4, 7)]) (hsN := jpA_216) rfl rfl rfl ?_
  refine jT_xi2l (x := 0) (z := 0) (pcN := 19) jI_203_18 rfl (by decide +kernel) rfl ?_
  refine jT_adv 1 (pcN := 20) (LN := [(3, (0, 3)), (0, (4, 0)), (1, (4, 1)), (2, (0, 7 * x1))]) (stN := []) (hsN := jpA_216) (c1 := 0) (s1 := 0) (c2 := 0) (s2 := 0) (by exact rfl) ?_ (by omega) (by omega)
  refine jT_xiinc (x := 3) (z := 4) (LN := [(3, (0, 4)), (0, (4, 0)), (1, (4, 1)), (2, (0, 7 * x1))]) (pcN := 23) jI_203_20 rfl rfl (by decide) rfl rfl ?_
  refine jT_xgoto (pcN := 2) jI_203_23 rfl ?_
  refine jT_xiload_n (v := (0, 4)) (pcN := 3) jI_203_2 rfl rfl rfl ?_
  refine jT_xbipush (k := 6) (pcN := 5) jI_203_3 (by decide) rfl ?_
  refine jT_xicF (t := 26) (pcN := 8) jI_203_5 rfl (by decide +kernel) rfl rfl ?_
  refine jT_xaload_n (v := (4, 0)) (pcN := 9) jI_203_8 rfl rfl rfl ?_
  refine jT_xgetf (a := 0) (t := 1) (ci := 14) (fi := 9) (c := jzA_200) (v := (4, 7)) (pcN := 12) jI_203_9 rfl rfl rfl rfl rfl rfl rfl ?_
  refine jT_xiload_n (v := (0, 4)) (pcN := 13) jI_203_12 rfl rfl rfl ?_
  refine jT_xaload_n (v := (4, 1)) (pcN := 14) jI_203_13 rfl rfl rfl ?_
  refine jT_xiload_n (v := (0, 7 * x1)) (pcN := 15) jI_203_14 rfl rfl rfl ?_
  refine jT_xiload_n (v := (0, 4)) (pcN := 16) jI_203_15 rfl rfl rfl ?_
  refine jT_xiadd (x := 7 * x1) (y := 4) (z := 7 * x1 + 4) (pcN := 17) jI_203_16 rfl (by omega) rfl ?_
  refine jT_iald (x := 0) (a := 1) (j := (7 * x1 + 4).toNat) (fs := []) (X := jS0) (by rfl) (by rfl) (by rfl) (jw_nn (by omega) (by omega)) (jS0_r4 (by omega) (by omega)) ?_
  refine jT_eq (LN := [(3, (0, 4)), (0, (4, 0)), (1, (4, 1)), (2, (0, 7 * x1))]) (stN := [(0, 0), (0, 4), (4, 7)]) (hsN := jpA_216) rfl rfl rfl ?_
  refine jT_xi2l (x := 0) (z := 0) (pcN := 19) jI_203_18 rfl (by decide +kernel) rfl ?_
  refine jT_adv 1 (pcN := 20) (LN := [(3, (0, 4)), (0, (4, 0)), (1, (4, 1)), (2, (0, 7 * x1))]) (stN := []) (hsN := jpA_216) (c1 := 0) (s1 := 0) (c2 := 0) (s2 := 0) (by exact rfl) ?_ (by omega) (by omega)
  refine jT_xiinc (x := 4) (z := 5) (LN := [(3, (0, 5)), (0, (4, 0)), (1, (4, 1)), (2, (0, 7 * x1))]) (pcN := 23) jI_203_20 rfl rfl (by decide) rfl rfl ?_
  refine jT_xgoto (pcN := 2) jI_203_23 rfl ?_
  refine jT_xiload_n (v := (0, 5)) (pcN := 3) jI_203_2 rfl rfl rfl ?_
  refine jT_xbipush (k := 6) (pcN := 5) jI_203_3 (by decide) rfl ?_
  refine jT_xicF (t := 26) (pcN := 8) jI_203_5 rfl (by decide +kernel) rfl rfl ?_
  refine jT_xaload_n (v := (4, 0)) (pcN := 9) jI_203_8 rfl rfl rfl ?_
  refine jT_xgetf (a := 0) (t := 1) (ci := 14) (fi := 9) (c := jzA_200) (v := (4, 7)) (pcN := 12) jI_203_9 rfl rfl rfl rfl rfl rfl rfl ?_
  refine jT_xiload_n (v := (0, 5)) (pcN := 13) jI_203_12 rfl rfl rfl ?_
  refine jT_xaload_n (v := (4, 1)) (pcN := 14) jI_203_13 rfl rfl rfl ?_
  refine jT_xiload_n (v := (0, 7 * x1)) (pcN := 15) jI_203_14 rfl rfl rfl ?_
  refine jT_xiload_n (v := (0, 5)) (pcN := 16) jI_203_15 rfl rfl rfl ?_
  refine jT_xiadd (x := 7 * x1) (y := 5) (z := 7 * x1 + 5) (pcN := 17) jI_203_16 rfl (by omega) rfl ?_
  refine jT_iald (x := 0) (a := 1) (j := (7 * x1 + 5).toNat) (fs := []) (X := jS0) (by rfl) (by rfl) (by rfl) (jw_nn (by omega) (by omega)) (jS0_r5 (by omega) (by omega)) ?_
  refine jT_eq (LN := [(3, (0, 5)), (0, (4, 0)), (1, (4, 1)), (2, (0, 7 * x1))]) (stN := [(0, 0), (0, 5), (4, 7)]) (hsN := jpA_216) rfl rfl rfl ?_
  refine jT_xi2l (x := 0) (z := 0) (pcN := 19) jI_203_18 rfl (by decide +kernel) rfl ?_
  refine jT_adv 1 (pcN := 20) (LN := [(3, (0, 5)), (0, (4, 0)), (1, (4, 1)), (2, (0, 7 * x1))]) (stN := []) (hsN := jpA_216) (c1 := 0) (s1 := 0) (c2 := 0) (s2 := 0) (by exact rfl) ?_ (by omega) (by omega)
  refine jT_xiinc (x := 5) (z := 6) (LN := [(3, (0, 6)), (0, (4, 0)), (1, (4, 1)), (2, (0, 7 * x1))]) (pcN := 23) jI_203_20 rfl rfl (by decide) rfl rfl ?_
  refine jT_xgoto (pcN := 2) jI_203_23 rfl ?_
  refine jT_xiload_n (v := (0, 6)) (pcN := 3) jI_203_2 rfl rfl rfl ?_
  refine jT_xbipush (k := 6) (pcN := 5) jI_203_3 (by decide) rfl ?_
  refine jT_xicT (pcN := 26) jI_203_5 rfl (by decide +kernel) rfl ?_
  refine jT_xaload_n (v := (4, 0)) (pcN := 27) jI_203_26 rfl rfl rfl ?_
  refine jT_xaload_n (v := (4, 1)) (pcN := 28) jI_203_27 rfl rfl rfl ?_
  refine jT_xiload_n (v := (0, 7 * x1)) (pcN := 29) jI_203_28 rfl rfl rfl ?_
  refine jT_xbipush (k := 6) (pcN := 31) jI_203_29 (by decide) rfl ?_
  refine jT_xiadd (x := 7 * x1) (y := 6) (z := 7 * x1 + 6) (pcN := 32) jI_203_31 rfl (by omega) rfl ?_
  refine jT_iald (x := 1) (a := 1) (j := (7 * x1 + 6).toNat) (fs := []) (X := jS0) (by rfl) (by rfl) (by rfl) (jw_nn (by omega) (by omega)) (jS0_r6 (by omega) (by omega)) ?_
  refine jT_eq (LN := [(3, (0, 6)), (0, (4, 0)), (1, (4, 1)), (2, (0, 7 * x1))]) (stN := [(0, 1), (4, 0)]) (hsN := jpA_216) rfl rfl rfl ?_
  refine jT_xi2l (x := 1) (z := 1) (pcN := 34) jI_203_33 rfl (by decide +kernel) rfl ?_
  refine jT_adv 1 (pcN := 37) (LN := [(3, (0, 6)), (0, (4, 0)), (1, (4, 1)), (2, (0, 7 * x1))]) (stN := []) (hsN := jpA_216) (c1 := 0) (s1 := 0) (c2 := 0) (s2 := 0) (by exact rfl) ?_ (by omega) (by omega)
  exact jT_ret rfl (by decide) (by show 16 ≤ 16; decide) (by omega) (by omega) ⟨rfl, rfl, rfl⟩
theorem jA_202_299 {xs : List Int} {d : Nat} {x1 : Int} (h_x1 : 0 ≤ x1 ∧ x1 ≤ 7) : jT xs (d + 1) 202 16 0 [(0, (4, 0)), (1, (0, x1))] [] jpA_216 0 0 (fun k v hsN => k = 0 ∧ v = (9, 0) ∧ hsN = jpA_216 ++ []) := by
  refine jT_xaload_n (v := (4, 0)) (pcN := 1) jI_202_0 rfl rfl rfl ?_
  refine jT_xaload_n (v := (4, 0)) (pcN := 2) jI_202_1 rfl rfl rfl ?_
  refine jT_xgetf (a := 0) (t := 1) (ci := 14) (fi := 1) (c := jzA_200) (v := (4, 1)) (pcN := 5) jI_202_2 rfl rfl rfl rfl rfl rfl rfl ?_
  refine jT_xbipush (k := 7) (pcN := 7) jI_202_5 (by decide) rfl ?_
  refine jT_xiload_n (v := (0, x1)) (pcN := 8) jI_202_7 rfl rfl rfl ?_
  refine jT_ximul (x := 7) (y := x1) (z := 7 * x1) (pcN := 9) jI_202_8 rfl (rfl) rfl ?_
  refine jT_fR [0, 1, 2, 3, 4, 5, 6, 7, 8, 9, 10, 11, 12, 13, 14, 15] 16 (y := 203) (pcN := 12) (dC := 0) (bc1 := 0) (bc2 := 0) (c1 := 0) (c2 := 0) (as := [(4, 0), (4, 1), (0, 7 * x1)]) (asC := [(4, 0), (4, 1), (0, 7 * x1)]) (LN := [(0, (4, 0)), (1, (0, x1))]) (stN := []) (hsC := jpA_216) (v := (9, 0)) (st2 := []) (jA_203_298 (d := 0) (by omega)) (by rfl) (by rfl) (by decide +kernel) (by rfl) (by rfl) (by omega) (by omega) (by omega) (by omega) rfl ?_
  exact jT_ret rfl (by decide) (by show 16 ≤ 16; decide) (by omega) (by omega) ⟨rfl, rfl, rfl⟩
theorem jI_235_0 : jmI (jm 235) 0 = (.aload_n 0, 1) := by rfl
theorem jI_235_1 : jmI (jm 235) 1 = (.iload_n 1, 1) := by rfl
theorem jI_235_5 : jmI (jm 235) 5 = (.iconst 0, 1) := by rfl
theorem jI_235_6 : jmI (jm 235) 6 = (.istore_n 2, 1) := by rfl
theorem jI_235_7 : jmI (jm 235) 7 = (.iload_n 2, 1) := by rfl
theorem jI_235_8 : jmI (jm 235) 8 = (.aload_n 0, 1) := by rfl
theorem jI_235_9 : jmI (jm 235) 9 = (.getfield 13, 3) := by rfl
def jpA_1331 : List JC := [jzA_200, (100, [], jS0), (100, [], []), jgh, jgh, jgh, jgh, (101, [], [0, 0, 0, 0, 0, 0]), jgh, jgh, jgh, jgh, jgh, jgh, jgh, jgh]
theorem jI_235_13 : jmI (jm 235) 13 = (.if_icmp .ge 23, 3) := by rfl
theorem jI_235_36 : jmI (jm 235) 36 = (.iconst (-1), 1) := by rfl
theorem jA_235_300 {xs : List Int} {d : Nat} {x1 : Int} (h_x1 : 0 ≤ x1 ∧ x1 ≤ 7) : jT xs (d + 2) 235 16 0 [(0, (4, 0)), (1, (0, x1))] [] jpA_1331 0 0 (fun k v hsN => k = 0 ∧ v = (0, (-1)) ∧ hsN = jpA_1331 ++ []) := by
  refine jT_xaload_n (v := (4, 0)) (pcN := 1) jI_235_0 rfl rfl rfl ?_
  refine jT_xiload_n (v := (0, x1)) (pcN := 2) jI_235_1 rfl rfl rfl ?_
  refine jT_fR [0, 1, 2, 3, 4, 5, 6, 7, 8, 9, 10, 11, 12, 13, 14, 15] 16 (y := 202) (pcN := 5) (dC := 1) (bc1 := 0) (bc2 := 0) (c1 := 0) (c2 := 0) (as := [(4, 0), (0, x1)]) (asC := [(4, 0), (0, x1)]) (LN := [(0, (4, 0)), (1, (0, x1))]) (stN := []) (hsC := jpA_216) (v := (9, 0)) (st2 := []) (jA_202_299 (d := 0) (by omega)) (by rfl) (by rfl) (by decide +kernel) (by rfl) (by rfl) (by omega) (by omega) (by omega) (by omega) rfl ?_
  refine jT_xiconst (k := 0) (pcN := 6) jI_235_5 rfl ?_
  refine jT_xistore_n (v := (0, 0)) (LN := [(2, (0, 0)), (0, (4, 0)), (1, (0, x1))]) (pcN := 7) jI_235_6 rfl rfl rfl rfl ?_
  refine jT_xiload_n (v := (0, 0)) (pcN := 8) jI_235_7 rfl rfl rfl ?_
  refine jT_xaload_n (v := (4, 0)) (pcN := 9) jI_235_8 rfl rfl rfl ?_
  refine jT_xgetf (a := 0) (t := 1) (ci := 14) (fi := 2) (c := jzA_200) (v := (4, 2)) (pcN := 12) jI_235_9 rfl rfl rfl rfl rfl rfl rfl ?_
  refine jT_adv 1 (pcN := 13) (LN := [(2, (0, 0)), (0, (4, 0)), (1, (0, x1))]) (stN := [(0, 0), (0, 0)]) (hsN := jpA_1331) (c1 := 0) (s1 := 0) (c2 := 0) (s2 := 0) (by exact rfl) ?_ (by omega) (by omega)
  refine jT_xicT (pcN := 36) jI_235_13 rfl (by decide +kernel) rfl ?_
  refine jT_xiconst (k := (-1)) (pcN := 37) jI_235_36 rfl ?_
  exact jT_ret rfl (by decide) (by show 16 ≤ 16; decide) (by omega) (by omega) ⟨rfl, rfl, rfl⟩
def jzA_1334 : JC := (14, [(0, 0), (4, 2), (4, 3), (4, 4), (4, 5), (0, 1), (4, 6), (0, 0), (4, 7), (4, 8), (1, 1), (4, 9), (0, 0), (4, 10), (0, 0), (0, 0), (0, 0), (0, 0), (0, 0), (0, 0), (0, 0), (4, 11), (4, 12), (4, 13), (4, 14), (4, 15), (4, 16), (0, 0)], [])
def jpA_1335 : List JC := [jzA_1334, (100, [], [0, 0, 0, 0, 0, 0, 1, 0]), jgh, jgh, jgh, jgh, jgh, jgh, (101, [], [0, 0, 0, 0, 0, 0]), jgh, jgh, jgh, jgh, jgh, jgh, jgh, jgh]
def jpA_1336 : List JC := [jzA_1334, (100, [], [0, 0, 0, 0, 0, 0, 0, 0]), jgh, jgh, jgh, jgh, jgh, jgh, (101, [], [0, 0, 0, 0, 0, 0]), jgh, jgh, jgh, jgh, jgh, jgh, jgh, jgh]
theorem jA_197_301 {xs : List Int} {d : Nat} : jT xs d 197 17 0 [(0, (4, 0)), (1, (4, 1)), (2, (0, 0))] [] jpA_1336 0 0 (fun k v hsN => k = 0 ∧ v = (9, 0) ∧ hsN = jpA_1335) := by
  refine jT_advK 103 (pcN := 37) (LN := [(3, (0, 6)), (0, (4, 0)), (1, (4, 1)), (2, (0, 0))]) (stN := []) (hsN := jpA_1335) (c1 := 0) (s1 := 0) (c2 := 0) (s2 := 0) (by decide +kernel) ?_ (by omega) (by omega)
  exact jT_ret rfl (by decide) (by show 17 ≤ 17; decide) (by omega) (by omega) ⟨rfl, rfl, rfl⟩
theorem jI_234_30 : jmI (jm 234) 30 = (.aload_n 0, 1) := by rfl
theorem jI_234_34 : jmI (jm 234) 34 = (.aload_n 0, 1) := by rfl
theorem jI_234_35 : jmI (jm 234) 35 = (.iload_n 1, 1) := by rfl
theorem jI_234_39 : jmI (jm 234) 39 = (.istore_n 3, 1) := by rfl
theorem jI_234_40 : jmI (jm 234) 40 = (.iload_n 3, 1) := by rfl
theorem jI_234_41 : jmI (jm 234) 41 = (.iconst (-1), 1) := by rfl
theorem jI_234_42 : jmI (jm 234) 42 = (.if_icmp .ne 7, 3) := by rfl
theorem jI_234_45 : jmI (jm 234) 45 = (.iconst (-1), 1) := by rfl
theorem jI_234_46 : jmI (jm 234) 46 = (.goto 12, 3) := by rfl
theorem jI_234_58 : jmI (jm 234) 58 = (.istore 4, 2) := by rfl
theorem jI_234_60 : jmI (jm 234) 60 = (.iload_n 3, 1) := by rfl
theorem jI_234_61 : jmI (jm 234) 61 = (.iconst (-1), 1) := by rfl
theorem jI_234_62 : jmI (jm 234) 62 = (.if_icmp .ne 16, 3) := by rfl
theorem jI_234_65 : jmI (jm 234) 65 = (.aload_n 0, 1) := by rfl
theorem jI_234_66 : jmI (jm 234) 66 = (.getfield 13, 3) := by rfl
theorem jI_234_70 : jmI (jm 234) 70 = (.bipush 7, 2) := by rfl
theorem jI_234_72 : jmI (jm 234) 72 = (.iadd, 1) := by rfl
theorem jI_234_73 : jmI (jm 234) 73 = (.iconst 1, 1) := by rfl
theorem jI_234_74 : jmI (jm 234) 74 = (.iadd, 1) := by rfl
theorem jI_234_75 : jmI (jm 234) 75 = (.goto 8, 3) := by rfl
def jpA_1357 : List JC := [jzA_200, (100, [], jS0), (100, [], []), jzA_196, jzA_201, jgh, jgh, (101, [], [0, 0, 0, 0, 0, 0]), jgh, jgh, jgh, jgh, jgh, jgh, jgh, jgh, (100, [], jS0), jgh, jgh, jgh, jgh, jgh, jgh, jgh, (100, [], [0, 0, 0, 0, 0, 0, 0, 0])]
theorem jI_234_85 : jmI (jm 234) 85 = (.astore 5, 2) := by rfl
theorem jI_234_87 : jmI (jm 234) 87 = (.aload_n 0, 1) := by rfl
theorem jI_234_88 : jmI (jm 234) 88 = (.getfield 13, 3) := by rfl
theorem jI_234_91 : jmI (jm 234) 91 = (.iconst 0, 1) := by rfl
theorem jI_234_92 : jmI (jm 234) 92 = (.aload 5, 2) := by rfl
theorem jI_234_94 : jmI (jm 234) 94 = (.iconst 0, 1) := by rfl
theorem jI_234_95 : jmI (jm 234) 95 = (.aload_n 0, 1) := by rfl
theorem jI_234_96 : jmI (jm 234) 96 = (.getfield 13, 3) := by rfl
theorem jI_234_103 : jmI (jm 234) 103 = (.iload_n 3, 1) := by rfl
theorem jI_234_104 : jmI (jm 234) 104 = (.iconst (-1), 1) := by rfl
theorem jI_234_105 : jmI (jm 234) 105 = (.if_icmp .ne 9, 3) := by rfl
theorem jI_234_108 : jmI (jm 234) 108 = (.aload_n 0, 1) := by rfl
theorem jI_234_109 : jmI (jm 234) 109 = (.getfield 13, 3) := by rfl
theorem jI_234_113 : jmI (jm 234) 113 = (.istore_n 3, 1) := by rfl
theorem jI_234_114 : jmI (jm 234) 114 = (.aload_n 0, 1) := by rfl
theorem jI_234_115 : jmI (jm 234) 115 = (.aload 5, 2) := by rfl
theorem jI_234_117 : jmI (jm 234) 117 = (.iload_n 3, 1) := by rfl
def jpA_1375 : List JC := [jzA_200, (100, [], jS0), (100, [], []), jzA_196, jzA_201, jgh, jgh, (101, [], [0, 0, 0, 0, 0, 0]), jgh, jgh, jgh, jgh, jgh, jgh, jgh, jgh, (100, [], jS0), jgh, jgh, jgh, jgh, jgh, jgh, jgh, (100, [], [0, 0, 0, 0, 0, 0, 1, 0])]
theorem jI_234_121 : jmI (jm 234) 121 = (.aload 5, 2) := by rfl
theorem jI_234_123 : jmI (jm 234) 123 = (.iload_n 3, 1) := by rfl
theorem jI_234_124 : jmI (jm 234) 124 = (.bipush 7, 2) := by rfl
theorem jI_234_126 : jmI (jm 234) 126 = (.iadd, 1) := by rfl
theorem jI_234_127 : jmI (jm 234) 127 = (.iload_n 2, 1) := by rfl
theorem jI_234_129 : jmI (jm 234) 129 = (.aload_n 0, 1) := by rfl
theorem jI_234_130 : jmI (jm 234) 130 = (.aload 5, 2) := by rfl
def jzA_1383 : JC := (14, [(0, 0), (4, 1), (4, 24), (4, 3), (4, 4), (0, 1), (4, 5), (0, 0), (4, 6), (4, 7), (1, 1), (4, 8), (0, 0), (4, 9), (0, 0), (0, 0), (0, 0), (0, 0), (0, 0), (0, 0), (0, 0), (4, 10), (4, 11), (4, 12), (4, 13), (4, 14), (4, 15), (0, 0)], [])
theorem jI_234_135 : jmI (jm 234) 135 = (.iload 4, 2) := by rfl
theorem jA_234_302 {xs : List Int} {d : Nat} {x1 x2 : Int} (h_x1 : 0 ≤ x1 ∧ x1 ≤ 7) (h_x2 : 0 ≤ x2 ∧ x2 ≤ 99) : jT xs (d + 3) 234 24 0 [(0, (4, 0)), (1, (0, x1)), (2, (0, x2))] [] jpA_248 1 8 (fun k v hsN => k = 0 ∧ v = (0, (-1)) ∧ hsN = [jzA_1383, (100, [], jS0), (100, [], []), jzA_196, jzA_201, jgh, jgh, (101, [], [0, 0, 0, 0, 0, 0]), jgh, jgh, jgh, jgh, jgh, jgh, jgh, jgh, (100, [], jS0), jgh, jgh, jgh, jgh, jgh, jgh, jgh, (100, [], [0, 0, 0, 0, 0, 0, 1, x2])]) := by
  refine jT_xaload_n (v := (4, 0)) (pcN := 1) jI_234_0 rfl rfl rfl ?_
  refine jT_xiload_n (v := (0, x1)) (pcN := 2) jI_234_1 rfl rfl rfl ?_
  refine jT_fR [] 24 (y := 188) (pcN := 5) (dC := 1) (bc1 := 0) (bc2 := 0) (c1 := 1) (c2 := 8) (as := [(0, x1)]) (asC := [(0, x1)]) (LN := [(0, (4, 0)), (1, (0, x1)), (2, (0, x2))]) (stN := [(4, 0)]) (hsC := []) (v := (0, 1)) (st2 := [(0, 1), (4, 0)]) (jA_188_13 (d := 0) (by omega)) (by rfl) (by rfl) (by decide +kernel) (by rfl) (by rfl) (by omega) (by omega) (by omega) (by omega) rfl ?_
  refine jT_fR [0, 1, 2, 3, 4, 5, 6, 7, 8, 9, 10, 11, 12, 13, 14, 15] 24 (y := 190) (pcN := 8) (dC := 1) (bc1 := 0) (bc2 := 0) (c1 := 1) (c2 := 8) (as := [(4, 0), (0, 1)]) (asC := [(4, 0), (0, 1)]) (LN := [(0, (4, 0)), (1, (0, x1)), (2, (0, x2))]) (stN := []) (hsC := jpA_22) (v := (0, 0)) (st2 := [(0, 0)]) (jA_190_39 (d := 0)) (by rfl) (by rfl) (by decide +kernel) (by rfl) (by rfl) (by omega) (by omega) (by omega) (by omega) rfl ?_
  refine jT_xifF (t := 28) (pcN := 11) jI_234_8 rfl (by decide +kernel) rfl rfl ?_
  refine jT_xaload_n (v := (4, 0)) (pcN := 12) jI_234_11 rfl rfl rfl ?_
  refine jT_xiload_n (v := (0, x2)) (pcN := 13) jI_234_12 rfl rfl rfl ?_
  refine jT_xi2l (x := x2) (z := x2) (pcN := 14) jI_234_13 rfl (jw_idd (by omega) (by omega)) rfl ?_
  refine jT_xlconst (z := 0) (pcN := 15) jI_234_14 rfl rfl ?_
  refine jT_adv 1 (pcN := 18) (LN := [(0, (4, 0)), (1, (0, x1)), (2, (0, x2))]) (stN := [(1, 99), (1, 0), (1, x2), (4, 0)]) (hsN := jpA_248) (c1 := 0) (s1 := 0) (c2 := 1) (s2 := 8) (by exact rfl) ?_ (by omega) (by omega)
  refine jT_fR [] 24 (y := 189) (pcN := 21) (dC := 0) (bc1 := 0) (bc2 := 0) (c1 := 1) (c2 := 8) (as := [(1, x2), (1, 0), (1, 99)]) (asC := [(1, x2), (1, 0), (1, 99)]) (LN := [(0, (4, 0)), (1, (0, x1)), (2, (0, x2))]) (stN := [(4, 0)]) (hsC := []) (v := (0, 1)) (st2 := [(0, 1), (4, 0)]) (jT_in_ok (d := 0) (v := x2) (lo := 0) (hi := 99) (by omega) (by omega) (by omega) (by omega) (by omega)) (by rfl) (by rfl) (by decide +kernel) (by rfl) (by rfl) (by omega) (by omega) (by omega) (by omega) rfl ?_
  refine jT_xiconst (k := 2) (pcN := 22) jI_234_21 rfl ?_
  refine jT_fR [0] 24 (y := 191) (pcN := 25) (dC := 0) (bc1 := 0) (bc2 := 0) (c1 := 1) (c2 := 8) (as := [(4, 0), (0, 1), (0, 2)]) (asC := [(4, 0), (0, 1), (0, 2)]) (LN := [(0, (4, 0)), (1, (0, x1)), (2, (0, x2))]) (stN := []) (hsC := [jgh]) (v := (0, 0)) (st2 := [(0, 0)]) (jA_191_49 (d := 0)) (by rfl) (by rfl) (by decide +kernel) (by rfl) (by rfl) (by omega) (by omega) (by omega) (by omega) rfl ?_
  refine jT_xifT (pcN := 30) jI_234_25 rfl (by decide +kernel) rfl ?_
  refine jT_xaload_n (v := (4, 0)) (pcN := 31) jI_234_30 rfl rfl rfl ?_
  refine jT_fB [0, 1, 2, 3, 4, 5, 6, 7, 8, 9, 10, 11, 12, 13, 14, 15, 16, 17, 18, 19, 20, 21, 22, 23] 24 (y := 195) (pcN := 34) (dC := 0) (bc1 := 0) (bc2 := 0) (c1 := 1) (c2 := 8) (as := [(4, 0)]) (asC := [(4, 0)]) (LN := [(0, (4, 0)), (1, (0, x1)), (2, (0, x2))]) (stN := []) (hsC := jpA_198) (hsD := jpA_202) (v := (9, 0)) (st2 := []) (hs2 := jpA_255) (jA_195_50 (d := 0)) (by rfl) (by rfl) (by decide +kernel) (by rfl) (by rfl) (by omega) (by omega) (by omega) (by omega) rfl (by decide +kernel) ?_
  refine jT_xaload_n (v := (4, 0)) (pcN := 35) jI_234_34 rfl rfl rfl ?_
  refine jT_xiload_n (v := (0, x1)) (pcN := 36) jI_234_35 rfl rfl rfl ?_
  refine jT_fR [0, 1, 2, 3, 4, 5, 6, 7, 8, 9, 10, 11, 12, 13, 14, 15] 24 (y := 235) (pcN := 39) (dC := 2) (bc1 := 0) (bc2 := 0) (c1 := 1) (c2 := 8) (as := [(4, 0), (0, x1)]) (asC := [(4, 0), (0, x1)]) (LN := [(0, (4, 0)), (1, (0, x1)), (2, (0, x2))]) (stN := []) (hsC := jpA_1331) (v := (0, (-1))) (st2 := [(0, (-1))]) (jA_235_300 (d := 0) (by omega)) (by rfl) (by rfl) (by decide +kernel) (by rfl) (by rfl) (by omega) (by omega) (by omega) (by omega) rfl ?_
  refine jT_xistore_n (v := (0, (-1))) (LN := [(3, (0, (-1))), (0, (4, 0)), (1, (0, x1)), (2, (0, x2))]) (pcN := 40) jI_234_39 rfl rfl rfl rfl ?_
  refine jT_xiload_n (v := (0, (-1))) (pcN := 41) jI_234_40 rfl rfl rfl ?_
  refine jT_xiconst (k := (-1)) (pcN := 42) jI_234_41 rfl ?_
  refine jT_xicF (t := 49) (pcN := 45) jI_234_42 rfl (by decide +kernel) rfl rfl ?_
  refine jT_xiconst (k := (-1)) (pcN := 46) jI_234_45 rfl ?_
  refine jT_xgoto (pcN := 58) jI_234_46 rfl ?_
  refine jT_xistore (v := (0, (-1))) (LN := [(4, (0, (-1))), (3, (0, (-1))), (0, (4, 0)), (1, (0, x1)), (2, (0, x2))]) (pcN := 60) jI_234_58 rfl rfl rfl rfl ?_
  refine jT_xiload_n (v := (0, (-1))) (pcN := 61) jI_234_60 rfl rfl rfl ?_
  refine jT_xiconst (k := (-1)) (pcN := 62) jI_234_61 rfl ?_
  refine jT_xicF (t := 78) (pcN := 65) jI_234_62 rfl (by decide +kernel) rfl rfl ?_
  refine jT_xaload_n (v := (4, 0)) (pcN := 66) jI_234_65 rfl rfl rfl ?_
  refine jT_xgetf (a := 0) (t := 1) (ci := 14) (fi := 2) (c := jzA_200) (v := (4, 2)) (pcN := 69) jI_234_66 rfl rfl rfl rfl rfl rfl rfl ?_
  refine jT_adv 1 (pcN := 70) (LN := [(4, (0, (-1))), (3, (0, (-1))), (0, (4, 0)), (1, (0, x1)), (2, (0, x2))]) (stN := [(0, 0)]) (hsN := jpA_255) (c1 := 0) (s1 := 0) (c2 := 1) (s2 := 8) (by exact rfl) ?_ (by omega) (by omega)
  refine jT_xbipush (k := 7) (pcN := 72) jI_234_70 (by decide) rfl ?_
  refine jT_xiadd (x := 0) (y := 7) (z := 7) (pcN := 73) jI_234_72 rfl (by decide) rfl ?_
  refine jT_xiconst (k := 1) (pcN := 74) jI_234_73 rfl ?_
  refine jT_xiadd (x := 7) (y := 1) (z := 8) (pcN := 75) jI_234_74 rfl (by decide) rfl ?_
  refine jT_xgoto (pcN := 83) jI_234_75 rfl ?_
  refine jT_adv 1 (pcN := 85) (LN := [(4, (0, (-1))), (3, (0, (-1))), (0, (4, 0)), (1, (0, x1)), (2, (0, x2))]) (stN := [(4, 24)]) (hsN := jpA_1357) (c1 := 1) (s1 := 8) (c2 := 0) (s2 := 0) (by exact rfl) ?_ (by omega) (by omega)
  refine jT_xastore (v := (4, 24)) (LN := [(5, (4, 24)), (4, (0, (-1))), (3, (0, (-1))), (0, (4, 0)), (1, (0, x1)), (2, (0, x2))]) (pcN := 87) jI_234_85 rfl rfl rfl rfl ?_
  refine jT_xaload_n (v := (4, 0)) (pcN := 88) jI_234_87 rfl rfl rfl ?_
  refine jT_xgetf (a := 0) (t := 1) (ci := 14) (fi := 2) (c := jzA_200) (v := (4, 2)) (pcN := 91) jI_234_88 rfl rfl rfl rfl rfl rfl rfl ?_
  refine jT_xiconst (k := 0) (pcN := 92) jI_234_91 rfl ?_
  refine jT_xaload (v := (4, 24)) (pcN := 94) jI_234_92 rfl rfl rfl ?_
  refine jT_xiconst (k := 0) (pcN := 95) jI_234_94 rfl ?_
  refine jT_xaload_n (v := (4, 0)) (pcN := 96) jI_234_95 rfl rfl rfl ?_
  refine jT_xgetf (a := 0) (t := 1) (ci := 14) (fi := 2) (c := jzA_200) (v := (4, 2)) (pcN := 99) jI_234_96 rfl rfl rfl rfl rfl rfl rfl ?_
  refine jT_adv 2 (pcN := 103) (LN := [(5, (4, 24)), (4, (0, (-1))), (3, (0, (-1))), (0, (4, 0)), (1, (0, x1)), (2, (0, x2))]) (stN := []) (hsN := jpA_1357) (c1 := 0) (s1 := 0) (c2 := 0) (s2 := 0) (by exact rfl) ?_ (by omega) (by omega)
  refine jT_xiload_n (v := (0, (-1))) (pcN := 104) jI_234_103 rfl rfl rfl ?_
  refine jT_xiconst (k := (-1)) (pcN := 105) jI_234_104 rfl ?_
  refine jT_xicF (t := 114) (pcN := 108) jI_234_105 rfl (by decide +kernel) rfl rfl ?_
  refine jT_xaload_n (v := (4, 0)) (pcN := 109) jI_234_108 rfl rfl rfl ?_
  refine jT_xgetf (a := 0) (t := 1) (ci := 14) (fi := 2) (c := jzA_200) (v := (4, 2)) (pcN := 112) jI_234_109 rfl rfl rfl rfl rfl rfl rfl ?_
  refine jT_adv 1 (pcN := 113) (LN := [(5, (4, 24)), (4, (0, (-1))), (3, (0, (-1))), (0, (4, 0)), (1, (0, x1)), (2, (0, x2))]) (stN := [(0, 0)]) (hsN := jpA_1357) (c1 := 0) (s1 := 0) (c2 := 0) (s2 := 0) (by exact rfl) ?_ (by omega) (by omega)
  refine jT_xistore_n (v := (0, 0)) (LN := [(3, (0, 0)), (5, (4, 24)), (4, (0, (-1))), (0, (4, 0)), (1, (0, x1)), (2, (0, x2))]) (pcN := 114) jI_234_113 rfl rfl rfl rfl ?_
  refine jT_xaload_n (v := (4, 0)) (pcN := 115) jI_234_114 rfl rfl rfl ?_
  refine jT_xaload (v := (4, 24)) (pcN := 117) jI_234_115 rfl rfl rfl ?_
  refine jT_xiload_n (v := (0, 0)) (pcN := 118) jI_234_117 rfl rfl rfl ?_
  refine jT_fB [0, 24, 1, 2, 3, 4, 5, 6, 7, 8, 9, 10, 11, 12, 13, 14, 15] 25 (y := 197) (pcN := 121) (dC := 0) (bc1 := 0) (bc2 := 0) (c1 := 0) (c2 := 0) (as := [(4, 0), (4, 24), (0, 0)]) (asC := [(4, 0), (4, 1), (0, 0)]) (LN := [(3, (0, 0)), (5, (4, 24)), (4, (0, (-1))), (0, (4, 0)), (1, (0, x1)), (2, (0, x2))]) (stN := []) (hsC := jpA_1336) (hsD := jpA_1335) (v := (9, 0)) (st2 := []) (hs2 := jpA_1375) (jA_197_301 (d := 0)) (by rfl) (by rfl) (by decide +kernel) (by rfl) (by rfl) (by omega) (by omega) (by omega) (by omega) rfl (by decide +kernel) ?_
  refine jT_xaload (v := (4, 24)) (pcN := 123) jI_234_121 rfl rfl rfl ?_
  refine jT_xiload_n (v := (0, 0)) (pcN := 124) jI_234_123 rfl rfl rfl ?_
  refine jT_xbipush (k := 7) (pcN := 126) jI_234_124 (by decide) rfl ?_
  refine jT_xiadd (x := 0) (y := 7) (z := 7) (pcN := 127) jI_234_126 rfl (by decide) rfl ?_
  refine jT_xiload_n (v := (0, x2)) (pcN := 128) jI_234_127 rfl rfl rfl ?_
  refine jT_adv 1 (pcN := 129) (LN := [(3, (0, 0)), (5, (4, 24)), (4, (0, (-1))), (0, (4, 0)), (1, (0, x1)), (2, (0, x2))]) (stN := []) (hsN := [jzA_200, (100, [], jS0), (100, [], []), jzA_196, jzA_201, jgh, jgh, (101, [], [0, 0, 0, 0, 0, 0]), jgh, jgh, jgh, jgh, jgh, jgh, jgh, jgh, (100, [], jS0), jgh, jgh, jgh, jgh, jgh, jgh, jgh, (100, [], [0, 0, 0, 0, 0, 0, 1, x2])]) (c1 := 0) (s1 := 0) (c2 := 0) (s2 := 0) (by exact rfl) ?_ (by omega) (by omega)
  refine jT_xaload_n (v := (4, 0)) (pcN := 130) jI_234_129 rfl rfl rfl ?_
  refine jT_xaload (v := (4, 24)) (pcN := 132) jI_234_130 rfl rfl rfl ?_
  refine jT_adv 1 (pcN := 135) (LN := [(3, (0, 0)), (5, (4, 24)), (4, (0, (-1))), (0, (4, 0)), (1, (0, x1)), (2, (0, x2))]) (stN := []) (hsN := [jzA_1383, (100, [], jS0), (100, [], []), jzA_196, jzA_201, jgh, jgh, (101, [], [0, 0, 0, 0, 0, 0]), jgh, jgh, jgh, jgh, jgh, jgh, jgh, jgh, (100, [], jS0), jgh, jgh, jgh, jgh, jgh, jgh, jgh, (100, [], [0, 0, 0, 0, 0, 0, 1, x2])]) (c1 := 0) (s1 := 0) (c2 := 0) (s2 := 0) (by exact rfl) ?_ (by omega) (by omega)
  refine jT_xiload (v := (0, (-1))) (pcN := 137) jI_234_135 rfl rfl rfl ?_
  exact jT_ret rfl (by decide) (by show 24 ≤ 25; decide) (by omega) (by omega) ⟨rfl, rfl, rfl⟩
theorem jA_116_303 {xs : List Int} {d : Nat} {x2 : Int} (h_x2 : 100 ≤ x2 ∧ x2 ≤ 2147483647) : jT xs d 116 1 0 [(0, (4, 0)), (1, (0, x2)), (2, (0, 0)), (3, (0, 99))] [] [jgh] 1 6 (fun k v hsN => k = 1 ∧ v = (0, 1) ∧ hsN = [jgh] ++ []) := by
  refine jT_xiload_n (v := (0, x2)) (pcN := 1) jI_116_0 rfl rfl rfl ?_
  refine jT_xiload_n (v := (0, 0)) (pcN := 2) jI_116_1 rfl rfl rfl ?_
  refine jT_icF (a := x2) (b := 0) (t := 10) (by rfl) (by rfl) (by rfl) (jw_idd (by omega) (by omega)) (jw_idd (by omega) (by omega)) (by simp only [jcP] <;> omega) ?_
  refine jT_xiload_n (v := (0, x2)) (pcN := 6) jI_116_5 rfl rfl rfl ?_
  refine jT_xiload_n (v := (0, 99)) (pcN := 7) jI_116_6 rfl rfl rfl ?_
  refine jT_icF (a := x2) (b := 99) (t := 21) (by rfl) (by rfl) (by rfl) (jw_idd (by omega) (by omega)) (jw_idd (by omega) (by omega)) (by simp only [jcP] <;> omega) ?_
  exact jT_ret (c1 := 1) (s1 := 6) rfl (by decide) (by show 1 ≤ 1; decide) (by omega) (by omega) ⟨rfl, rfl, rfl⟩
theorem jA_125_304 {xs : List Int} {d : Nat} {x1 x2 : Int} (h_x1 : 0 ≤ x1 ∧ x1 ≤ 7) (h_x2 : 100 ≤ x2 ∧ x2 ≤ 2147483647) : jT xs (d + 1) 125 12 0 [(0, (4, 0)), (1, (0, x1)), (2, (0, x2))] [] jpA_6 1 6 (fun k v hsN => k = 1 ∧ v = (0, 1) ∧ hsN = jpA_6 ++ []) := by
  refine jT_xaload_n (v := (4, 0)) (pcN := 1) jI_125_0 rfl rfl rfl ?_
  refine jT_xiload_n (v := (0, x1)) (pcN := 2) jI_125_1 rfl rfl rfl ?_
  refine jT_xbipush (k := 8) (pcN := 4) jI_125_2 (by decide) rfl ?_
  refine jT_fR [0] 12 (y := 115) (pcN := 7) (dC := 0) (bc1 := 0) (bc2 := 0) (c1 := 1) (c2 := 6) (as := [(4, 0), (0, x1), (0, 8)]) (asC := [(4, 0), (0, x1), (0, 8)]) (LN := [(0, (4, 0)), (1, (0, x1)), (2, (0, x2))]) (stN := []) (hsC := [jgh]) (v := (9, 0)) (st2 := []) (jA_115_9 (d := 0) (by omega)) (by rfl) (by rfl) (by decide +kernel) (by rfl) (by rfl) (by omega) (by omega) (by omega) (by omega) rfl ?_
  refine jT_xaload_n (v := (4, 0)) (pcN := 8) jI_125_7 rfl rfl rfl ?_
  refine jT_xiload_n (v := (0, x2)) (pcN := 9) jI_125_8 rfl rfl rfl ?_
  refine jT_xiconst (k := 0) (pcN := 10) jI_125_9 rfl ?_
  refine jT_xbipush (k := 99) (pcN := 12) jI_125_10 (by decide) rfl ?_
  exact jT_fX [0] 12 (y := 116) (pcN := 15) (dC := 0) (bc1 := 1) (bc2 := 6) (as := [(4, 0), (0, x2), (0, 0), (0, 99)]) (asC := [(4, 0), (0, x2), (0, 0), (0, 99)]) (LN := [(0, (4, 0)), (1, (0, x1)), (2, (0, x2))]) (stN := []) (hsC := [jgh]) (e := 1) (jA_116_303 (d := 0) (by omega)) (by rfl) (by rfl) (by decide +kernel) (by rfl) (by rfl) (by omega) (by omega) (by omega) (by omega) ⟨rfl, ⟨rfl, rfl, rfl⟩⟩
theorem jA_334_305 {xs : List Int} {d : Nat} {x1 x2 : Int} (h_x1 : 0 ≤ x1 ∧ x1 ≤ 7) (h_x2 : 100 ≤ x2 ∧ x2 ≤ 2147483647) : jT xs (d + 2) 334 13 0 [(0, (4, 0)), (1, (0, x1)), (2, (0, x2)), (3, (4, 1))] [] jpA_15 1 6 (fun k v hsN => k = 0 ∧ v = (0, 2) ∧ hsN = jpA_15 ++ []) := by
  refine jT_xaload_n (v := (4, 1)) (pcN := 1) jI_334_0 rfl rfl rfl ?_
  refine jT_xiconst (k := 0) (pcN := 2) jI_334_1 rfl ?_
  refine jT_xaload_n (v := (4, 0)) (pcN := 3) jI_334_2 rfl rfl rfl ?_
  refine jT_xiload_n (v := (0, x1)) (pcN := 4) jI_334_3 rfl rfl rfl ?_
  refine jT_xiload_n (v := (0, x2)) (pcN := 5) jI_334_4 rfl rfl rfl ?_
  exact jT_fX [0, 2, 3, 4, 5, 6, 7, 8, 9, 10, 11, 12] 13 (y := 125) (pcN := 8) (dC := 1) (bc1 := 1) (bc2 := 6) (as := [(4, 0), (0, x1), (0, x2)]) (asC := [(4, 0), (0, x1), (0, x2)]) (LN := [(0, (4, 0)), (1, (0, x1)), (2, (0, x2)), (3, (4, 1))]) (stN := [(0, 0), (4, 1)]) (hsC := jpA_6) (e := 1) (jA_125_304 (d := 0) (by omega) (by omega)) (by rfl) (by rfl) (by decide +kernel) (by rfl) (by rfl) (by omega) (by omega) (by omega) (by omega) (show _ from ⟨rfl, rfl, rfl⟩)
theorem jA_234_306 {xs : List Int} {d : Nat} {x1 x2 : Int} (h_x1 : 0 ≤ x1 ∧ x1 ≤ 7) (h_x2 : 100 ≤ x2 ∧ x2 ≤ 2147483647) : jT xs (d + 2) 234 16 0 [(0, (4, 0)), (1, (0, x1)), (2, (0, x2))] [] jpA_22 0 0 (fun k v hsN => k = 0 ∧ v = (0, 0) ∧ hsN = jpA_361) := by
  refine jT_xaload_n (v := (4, 0)) (pcN := 1) jI_234_0 rfl rfl rfl ?_
  refine jT_xiload_n (v := (0, x1)) (pcN := 2) jI_234_1 rfl rfl rfl ?_
  refine jT_fR [] 16 (y := 188) (pcN := 5) (dC := 1) (bc1 := 0) (bc2 := 0) (c1 := 0) (c2 := 0) (as := [(0, x1)]) (asC := [(0, x1)]) (LN := [(0, (4, 0)), (1, (0, x1)), (2, (0, x2))]) (stN := [(4, 0)]) (hsC := []) (v := (0, 1)) (st2 := [(0, 1), (4, 0)]) (jA_188_13 (d := 0) (by omega)) (by rfl) (by rfl) (by decide +kernel) (by rfl) (by rfl) (by omega) (by omega) (by omega) (by omega) rfl ?_
  refine jT_fR [0, 1, 2, 3, 4, 5, 6, 7, 8, 9, 10, 11, 12, 13, 14, 15] 16 (y := 190) (pcN := 8) (dC := 1) (bc1 := 0) (bc2 := 0) (c1 := 0) (c2 := 0) (as := [(4, 0), (0, 1)]) (asC := [(4, 0), (0, 1)]) (LN := [(0, (4, 0)), (1, (0, x1)), (2, (0, x2))]) (stN := []) (hsC := jpA_22) (v := (0, 0)) (st2 := [(0, 0)]) (jA_190_39 (d := 0)) (by rfl) (by rfl) (by decide +kernel) (by rfl) (by rfl) (by omega) (by omega) (by omega) (by omega) rfl ?_
  refine jT_xifF (t := 28) (pcN := 11) jI_234_8 rfl (by decide +kernel) rfl rfl ?_
  refine jT_xaload_n (v := (4, 0)) (pcN := 12) jI_234_11 rfl rfl rfl ?_
  refine jT_xiload_n (v := (0, x2)) (pcN := 13) jI_234_12 rfl rfl rfl ?_
  refine jT_xi2l (x := x2) (z := x2) (pcN := 14) jI_234_13 rfl (jw_idd (by omega) (by omega)) rfl ?_
  refine jT_xlconst (z := 0) (pcN := 15) jI_234_14 rfl rfl ?_
  refine jT_adv 1 (pcN := 18) (LN := [(0, (4, 0)), (1, (0, x1)), (2, (0, x2))]) (stN := [(1, 99), (1, 0), (1, x2), (4, 0)]) (hsN := jpA_22) (c1 := 0) (s1 := 0) (c2 := 0) (s2 := 0) (by exact rfl) ?_ (by omega) (by omega)
  refine jT_fR [] 16 (y := 189) (pcN := 21) (dC := 0) (bc1 := 0) (bc2 := 0) (c1 := 0) (c2 := 0) (as := [(1, x2), (1, 0), (1, 99)]) (asC := [(1, x2), (1, 0), (1, 99)]) (LN := [(0, (4, 0)), (1, (0, x1)), (2, (0, x2))]) (stN := [(4, 0)]) (hsC := []) (v := (0, 0)) (st2 := [(0, 0), (4, 0)]) (jT_in_hi (d := 0) (v := x2) (lo := 0) (hi := 99) (by omega) (by omega) (by omega) (by omega) (by omega)) (by rfl) (by rfl) (by decide +kernel) (by rfl) (by rfl) (by omega) (by omega) (by omega) (by omega) rfl ?_
  refine jT_xiconst (k := 2) (pcN := 22) jI_234_21 rfl ?_
  refine jT_fB [0, 1, 2, 3, 4, 5, 6, 7, 8, 9, 10, 11, 12, 13, 14, 15] 16 (y := 191) (pcN := 25) (dC := 0) (bc1 := 0) (bc2 := 0) (c1 := 0) (c2 := 0) (as := [(4, 0), (0, 0), (0, 2)]) (asC := [(4, 0), (0, 0), (0, 2)]) (LN := [(0, (4, 0)), (1, (0, x1)), (2, (0, x2))]) (stN := []) (hsC := jpA_22) (hsD := jpA_361) (v := (0, 1)) (st2 := [(0, 1)]) (hs2 := jpA_361) (jA_191_99 (d := 0)) (by rfl) (by rfl) (by decide +kernel) (by rfl) (by rfl) (by omega) (by omega) (by omega) (by omega) rfl (by decide +kernel) ?_
  refine jT_xifF (t := 30) (pcN := 28) jI_234_25 rfl (by decide +kernel) rfl rfl ?_
  refine jT_xiconst (k := 0) (pcN := 29) jI_234_28 rfl ?_
  exact jT_ret rfl (by decide) (by show 16 ≤ 16; decide) (by omega) (by omega) ⟨rfl, rfl, rfl⟩
theorem jA_125_307 {xs : List Int} {d : Nat} {x1 x2 : Int} (h_x1 : 8 ≤ x1 ∧ x1 ≤ 2147483647) (h_x2 : (-2147483648) ≤ x2 ∧ x2 ≤ 2147483647) : jT xs (d + 1) 125 12 0 [(0, (4, 0)), (1, (0, x1)), (2, (0, x2))] [] jpA_6 1 6 (fun k v hsN => k = 1 ∧ v = (0, 0) ∧ hsN = jpA_6 ++ []) := by
  refine jT_xaload_n (v := (4, 0)) (pcN := 1) jI_125_0 rfl rfl rfl ?_
  refine jT_xiload_n (v := (0, x1)) (pcN := 2) jI_125_1 rfl rfl rfl ?_
  refine jT_xbipush (k := 8) (pcN := 4) jI_125_2 (by decide) rfl ?_
  exact jT_fX [0] 12 (y := 115) (pcN := 7) (dC := 0) (bc1 := 1) (bc2 := 6) (as := [(4, 0), (0, x1), (0, 8)]) (asC := [(4, 0), (0, x1), (0, 8)]) (LN := [(0, (4, 0)), (1, (0, x1)), (2, (0, x2))]) (stN := []) (hsC := [jgh]) (e := 0) (jA_115_65 (d := 0) (by omega)) (by rfl) (by rfl) (by decide +kernel) (by rfl) (by rfl) (by omega) (by omega) (by omega) (by omega) ⟨rfl, ⟨rfl, rfl, rfl⟩⟩
theorem jA_334_308 {xs : List Int} {d : Nat} {x1 x2 : Int} (h_x1 : 8 ≤ x1 ∧ x1 ≤ 2147483647) (h_x2 : (-2147483648) ≤ x2 ∧ x2 ≤ 2147483647) : jT xs (d + 2) 334 13 0 [(0, (4, 0)), (1, (0, x1)), (2, (0, x2)), (3, (4, 1))] [] jpA_15 1 6 (fun k v hsN => k = 0 ∧ v = (0, 1) ∧ hsN = jpA_15 ++ []) := by
  refine jT_xaload_n (v := (4, 1)) (pcN := 1) jI_334_0 rfl rfl rfl ?_
  refine jT_xiconst (k := 0) (pcN := 2) jI_334_1 rfl ?_
  refine jT_xaload_n (v := (4, 0)) (pcN := 3) jI_334_2 rfl rfl rfl ?_
  refine jT_xiload_n (v := (0, x1)) (pcN := 4) jI_334_3 rfl rfl rfl ?_
  refine jT_xiload_n (v := (0, x2)) (pcN := 5) jI_334_4 rfl rfl rfl ?_
  exact jT_fX [0, 2, 3, 4, 5, 6, 7, 8, 9, 10, 11, 12] 13 (y := 125) (pcN := 8) (dC := 1) (bc1 := 1) (bc2 := 6) (as := [(4, 0), (0, x1), (0, x2)]) (asC := [(4, 0), (0, x1), (0, x2)]) (LN := [(0, (4, 0)), (1, (0, x1)), (2, (0, x2)), (3, (4, 1))]) (stN := [(0, 0), (4, 1)]) (hsC := jpA_6) (e := 0) (jA_125_307 (d := 0) (by omega) (by omega)) (by rfl) (by rfl) (by decide +kernel) (by rfl) (by rfl) (by omega) (by omega) (by omega) (by omega) (show _ from ⟨rfl, rfl, rfl⟩)
theorem jA_234_309 {xs : List Int} {d : Nat} {x1 x2 : Int} (h_x1 : 8 ≤ x1 ∧ x1 ≤ 2147483647) (h_x2 : (-2147483648) ≤ x2 ∧ x2 ≤ 2147483647) : jT xs (d + 2) 234 16 0 [(0, (4, 0)), (1, (0, x1)), (2, (0, x2))] [] jpA_22 0 0 (fun k v hsN => k = 0 ∧ v = (0, 0) ∧ hsN = jpA_20) := by
  refine jT_xaload_n (v := (4, 0)) (pcN := 1) jI_234_0 rfl rfl rfl ?_
  refine jT_xiload_n (v := (0, x1)) (pcN := 2) jI_234_1 rfl rfl rfl ?_
  refine jT_fR [] 16 (y := 188) (pcN := 5) (dC := 1) (bc1 := 0) (bc2 := 0) (c1 := 0) (c2 := 0) (as := [(0, x1)]) (asC := [(0, x1)]) (LN := [(0, (4, 0)), (1, (0, x1)), (2, (0, x2))]) (stN := [(4, 0)]) (hsC := []) (v := (0, 0)) (st2 := [(0, 0), (4, 0)]) (jA_188_68 (d := 0) (by omega)) (by rfl) (by rfl) (by decide +kernel) (by rfl) (by rfl) (by omega) (by omega) (by omega) (by omega) rfl ?_
  refine jT_fB [0, 1, 2, 3, 4, 5, 6, 7, 8, 9, 10, 11, 12, 13, 14, 15] 16 (y := 190) (pcN := 8) (dC := 1) (bc1 := 0) (bc2 := 0) (c1 := 0) (c2 := 0) (as := [(4, 0), (0, 0)]) (asC := [(4, 0), (0, 0)]) (LN := [(0, (4, 0)), (1, (0, x1)), (2, (0, x2))]) (stN := []) (hsC := jpA_22) (hsD := jpA_20) (v := (0, 1)) (st2 := [(0, 1)]) (hs2 := jpA_20) (jA_190_6 (d := 0)) (by rfl) (by rfl) (by decide +kernel) (by rfl) (by rfl) (by omega) (by omega) (by omega) (by omega) rfl (by decide +kernel) ?_
  refine jT_xifT (pcN := 28) jI_234_8 rfl (by decide +kernel) rfl ?_
  refine jT_xiconst (k := 0) (pcN := 29) jI_234_28 rfl ?_
  exact jT_ret rfl (by decide) (by show 16 ≤ 16; decide) (by omega) (by omega) ⟨rfl, rfl, rfl⟩
theorem jI_379_903 : jmI (jm 379) 903 = (.aload_n 1, 1) := by rfl
theorem jI_379_904 : jmI (jm 379) 904 = (.aload_n 0, 1) := by rfl
theorem jI_379_905 : jmI (jm 379) 905 = (.iload 5, 2) := by rfl
theorem jI_379_907 : jmI (jm 379) 907 = (.iconst 1, 1) := by rfl
theorem jI_379_908 : jmI (jm 379) 908 = (.iadd, 1) := by rfl
theorem jI_379_910 : jmI (jm 379) 910 = (.aload_n 0, 1) := by rfl
theorem jI_379_911 : jmI (jm 379) 911 = (.iload 5, 2) := by rfl
theorem jI_379_913 : jmI (jm 379) 913 = (.iconst 2, 1) := by rfl
theorem jI_379_914 : jmI (jm 379) 914 = (.iadd, 1) := by rfl
theorem jI_379_916 : jmI (jm 379) 916 = (.aload_n 3, 1) := by rfl
theorem jI_379_920 : jmI (jm 379) 920 = (.istore 6, 2) := by rfl
theorem jI_379_922 : jmI (jm 379) 922 = (.aload_n 2, 1) := by rfl
theorem jI_379_923 : jmI (jm 379) 923 = (.aload_n 0, 1) := by rfl
theorem jI_379_924 : jmI (jm 379) 924 = (.iload 5, 2) := by rfl
theorem jI_379_926 : jmI (jm 379) 926 = (.iconst 1, 1) := by rfl
theorem jI_379_927 : jmI (jm 379) 927 = (.iadd, 1) := by rfl
theorem jI_379_929 : jmI (jm 379) 929 = (.aload_n 0, 1) := by rfl
theorem jI_379_930 : jmI (jm 379) 930 = (.iload 5, 2) := by rfl
theorem jI_379_932 : jmI (jm 379) 932 = (.iconst 2, 1) := by rfl
theorem jI_379_933 : jmI (jm 379) 933 = (.iadd, 1) := by rfl
theorem jI_379_938 : jmI (jm 379) 938 = (.istore 7, 2) := by rfl
theorem jI_379_940 : jmI (jm 379) 940 = (.aload_n 2, 1) := by rfl
theorem jI_379_944 : jmI (jm 379) 944 = (.iload 6, 2) := by rfl
theorem jI_379_946 : jmI (jm 379) 946 = (.if_icmp .eq 5, 3) := by rfl
theorem jI_379_951 : jmI (jm 379) 951 = (.iload 6, 2) := by rfl
theorem jI_379_953 : jmI (jm 379) 953 = (.ifCond .ne 15, 3) := by rfl
theorem jI_379_968 : jmI (jm 379) 968 = (.goto 2772, 3) := by rfl
set_option maxRecDepth 100000 in
theorem jL_8_0 {d : Nat} {x0 x1 x2 x3 x4 : Int} (h_x0 : (-2147483648) ≤ x0 ∧ x0 ≤ 2147483647) (h_x1 : (-2147483648) ≤ x1 ∧ x1 ≤ (-1)) (h_x2 : (-2147483648) ≤ x2 ∧ x2 ≤ 2147483647) (h_x3 : (-2147483648) ≤ x3 ∧ x3 ≤ 2147483647) (h_x4 : (-2147483648) ≤ x4 ∧ x4 ≤ 2147483647) : jT [x0, x1, x2, x3, x4] (d + 3) 379 30 903 [(5, (0, 0)), (4, (4, 3)), (3, (4, 2)), (2, (4, 1)), (1, (4, 0)), (0, (6, 0))] [] jpA_267 1 6 (fun k v hsN => k = 0 ∧ v = (0, 1)) := by
  refine jT_xaload_n (v := (4, 0)) (pcN := 904) jI_379_903 rfl rfl rfl ?_
  refine jT_xaload_n (v := (6, 0)) (pcN := 905) jI_379_904 rfl rfl rfl ?_
  refine jT_xiload (v := (0, 0)) (pcN := 907) jI_379_905 rfl rfl rfl ?_
  refine jT_xiconst (k := 1) (pcN := 908) jI_379_907 rfl ?_
  refine jT_xiadd (x := 0) (y := 1) (z := 1) (pcN := 909) jI_379_908 rfl (by decide) rfl ?_
  refine jT_adv 1 (pcN := 910) (LN := [(5, (0, 0)), (4, (4, 3)), (3, (4, 2)), (2, (4, 1)), (1, (4, 0)), (0, (6, 0))]) (stN := [(0, x1), (4, 0)]) (hsN := jpA_267) (c1 := 0) (s1 := 0) (c2 := 1) (s2 := 6) (by exact rfl) ?_ (by omega) (by omega)
  refine jT_xaload_n (v := (6, 0)) (pcN := 911) jI_379_910 rfl rfl rfl ?_
  refine jT_xiload (v := (0, 0)) (pcN := 913) jI_379_911 rfl rfl rfl ?_
  refine jT_xiconst (k := 2) (pcN := 914) jI_379_913 rfl ?_
  refine jT_xiadd (x := 0) (y := 2) (z := 2) (pcN := 915) jI_379_914 rfl (by decide) rfl ?_
  refine jT_adv 1 (pcN := 916) (LN := [(5, (0, 0)), (4, (4, 3)), (3, (4, 2)), (2, (4, 1)), (1, (4, 0)), (0, (6, 0))]) (stN := [(0, x2), (0, x1), (4, 0)]) (hsN := jpA_267) (c1 := 0) (s1 := 0) (c2 := 1) (s2 := 6) (by exact rfl) ?_ (by omega) (by omega)
  refine jT_xaload_n (v := (4, 2)) (pcN := 917) jI_379_916 rfl rfl rfl ?_
  refine jT_fR [0, 2, 4, 5, 6, 7, 8, 9, 10, 11, 12, 13, 14] 30 (y := 334) (pcN := 920) (dC := 2) (bc1 := 1) (bc2 := 6) (c1 := 0) (c2 := 0) (as := [(4, 0), (0, x1), (0, x2), (4, 2)]) (asC := [(4, 0), (0, x1), (0, x2), (4, 1)]) (LN := [(5, (0, 0)), (4, (4, 3)), (3, (4, 2)), (2, (4, 1)), (1, (4, 0)), (0, (6, 0))]) (stN := []) (hsC := jpA_15) (v := (0, 1)) (st2 := [(0, 1)]) (jA_334_284 (d := 0) (by omega) (by omega)) (by rfl) (by rfl) (by decide +kernel) (by rfl) (by rfl) (by omega) (by omega) (by omega) (by omega) rfl ?_
  refine jT_xistore (v := (0, 1)) (LN := [(6, (0, 1)), (5, (0, 0)), (4, (4, 3)), (3, (4, 2)), (2, (4, 1)), (1, (4, 0)), (0, (6, 0))]) (pcN := 922) jI_379_920 rfl rfl rfl rfl ?_
  refine jT_xaload_n (v := (4, 1)) (pcN := 923) jI_379_922 rfl rfl rfl ?_
  refine jT_xaload_n (v := (6, 0)) (pcN := 924) jI_379_923 rfl rfl rfl ?_
  refine jT_xiload (v := (0, 0)) (pcN := 926) jI_379_924 rfl rfl rfl ?_
  refine jT_xiconst (k := 1) (pcN := 927) jI_379_926 rfl ?_
  refine jT_xiadd (x := 0) (y := 1) (z := 1) (pcN := 928) jI_379_927 rfl (by decide) rfl ?_
  refine jT_adv 1 (pcN := 929) (LN := [(6, (0, 1)), (5, (0, 0)), (4, (4, 3)), (3, (4, 2)), (2, (4, 1)), (1, (4, 0)), (0, (6, 0))]) (stN := [(0, x1), (4, 1)]) (hsN := jpA_267) (c1 := 0) (s1 := 0) (c2 := 0) (s2 := 0) (by exact rfl) ?_ (by omega) (by omega)
  refine jT_xaload_n (v := (6, 0)) (pcN := 930) jI_379_929 rfl rfl rfl ?_
  refine jT_xiload (v := (0, 0)) (pcN := 932) jI_379_930 rfl rfl rfl ?_
  refine jT_xiconst (k := 2) (pcN := 933) jI_379_932 rfl ?_
  refine jT_xiadd (x := 0) (y := 2) (z := 2) (pcN := 934) jI_379_933 rfl (by decide) rfl ?_
  refine jT_adv 1 (pcN := 935) (LN := [(6, (0, 1)), (5, (0, 0)), (4, (4, 3)), (3, (4, 2)), (2, (4, 1)), (1, (4, 0)), (0, (6, 0))]) (stN := [(0, x2), (0, x1), (4, 1)]) (hsN := jpA_267) (c1 := 0) (s1 := 0) (c2 := 0) (s2 := 0) (by exact rfl) ?_ (by omega) (by omega)
  refine jT_fB [1, 15, 16, 17, 18, 19, 20, 21, 22, 23, 24, 25, 26, 27, 28, 29] 30 (y := 234) (pcN := 938) (dC := 2) (bc1 := 0) (bc2 := 0) (c1 := 0) (c2 := 0) (as := [(4, 1), (0, x1), (0, x2)]) (asC := [(4, 0), (0, x1), (0, x2)]) (LN := [(6, (0, 1)), (5, (0, 0)), (4, (4, 3)), (3, (4, 2)), (2, (4, 1)), (1, (4, 0)), (0, (6, 0))]) (stN := []) (hsC := jpA_22) (hsD := jpA_20) (v := (0, 0)) (st2 := [(0, 0)]) (hs2 := jpA_306) (jA_234_285 (d := 0) (by omega) (by omega)) (by rfl) (by rfl) (by decide +kernel) (by rfl) (by rfl) (by omega) (by omega) (by omega) (by omega) rfl (by decide +kernel) ?_
  refine jT_xistore (v := (0, 0)) (LN := [(7, (0, 0)), (6, (0, 1)), (5, (0, 0)), (4, (4, 3)), (3, (4, 2)), (2, (4, 1)), (1, (4, 0)), (0, (6, 0))]) (pcN := 940) jI_379_938 rfl rfl rfl rfl ?_
  refine jT_xaload_n (v := (4, 1)) (pcN := 941) jI_379_940 rfl rfl rfl ?_
  refine jT_fR [1, 15, 16, 17, 18, 19, 20, 21, 22, 23, 24, 25, 26, 27, 28, 29] 30 (y := 186) (pcN := 944) (dC := 0) (bc1 := 0) (bc2 := 0) (c1 := 0) (c2 := 0) (as := [(4, 1)]) (asC := [(4, 0)]) (LN := [(7, (0, 0)), (6, (0, 1)), (5, (0, 0)), (4, (4, 3)), (3, (4, 2)), (2, (4, 1)), (1, (4, 0)), (0, (6, 0))]) (stN := []) (hsC := jpA_20) (v := (0, 1)) (st2 := [(0, 1)]) (jA_186_8 (d := 0)) (by rfl) (by rfl) (by decide +kernel) (by rfl) (by rfl) (by omega) (by omega) (by omega) (by omega) rfl ?_
  refine jT_xiload (v := (0, 1)) (pcN := 946) jI_379_944 rfl rfl rfl ?_
  refine jT_xicT (pcN := 951) jI_379_946 rfl (by decide +kernel) rfl ?_
  refine jT_xiload (v := (0, 1)) (pcN := 953) jI_379_951 rfl rfl rfl ?_
  refine jT_xifT (pcN := 968) jI_379_953 rfl (by decide +kernel) rfl ?_
  refine jT_xgoto (pcN := 3740) jI_379_968 rfl ?_
  refine jT_xiinc (x := 0) (z := 5) (LN := [(5, (0, 5)), (7, (0, 0)), (6, (0, 1)), (4, (4, 3)), (3, (4, 2)), (2, (4, 1)), (1, (4, 0)), (0, (6, 0))]) (pcN := 3743) jI_379_3740 rfl rfl (by decide) rfl rfl ?_
  refine jT_xgoto (pcN := 28) jI_379_3743 rfl ?_
  refine jT_xiload (v := (0, 5)) (pcN := 30) jI_379_28 rfl rfl rfl ?_
  refine jT_xaload_n (v := (6, 0)) (pcN := 31) jI_379_30 rfl rfl rfl ?_
  refine jT_adv 1 (pcN := 32) (LN := [(5, (0, 5)), (7, (0, 0)), (6, (0, 1)), (4, (4, 3)), (3, (4, 2)), (2, (4, 1)), (1, (4, 0)), (0, (6, 0))]) (stN := [(0, 5), (0, 5)]) (hsN := jpA_306) (c1 := 0) (s1 := 0) (c2 := 0) (s2 := 0) (by exact rfl) ?_ (by omega) (by omega)
  refine jT_xiconst (k := 5) (pcN := 33) jI_379_32 rfl ?_
  refine jT_xisub (x := 5) (y := 5) (z := 0) (pcN := 34) jI_379_33 rfl (by decide) rfl ?_
  refine jT_xicT (pcN := 3746) jI_379_34 rfl (by decide +kernel) rfl ?_
  refine jT_xiconst (k := 1) (pcN := 3747) jI_379_3746 rfl ?_
  exact jT_ret rfl (by decide) (by show 30 ≤ 30; decide) (by omega) (by omega) ⟨rfl, rfl⟩
set_option maxRecDepth 100000 in
theorem jL_8_1 {d : Nat} {x0 x1 x2 x3 x4 : Int} (h_x0 : (-2147483648) ≤ x0 ∧ x0 ≤ 2147483647) (h_x1 : 0 ≤ x1 ∧ x1 ≤ 7) (h_x2 : (-2147483648) ≤ x2 ∧ x2 ≤ (-1)) (h_x3 : (-2147483648) ≤ x3 ∧ x3 ≤ 2147483647) (h_x4 : (-2147483648) ≤ x4 ∧ x4 ≤ 2147483647) : jT [x0, x1, x2, x3, x4] (d + 3) 379 30 903 [(5, (0, 0)), (4, (4, 3)), (3, (4, 2)), (2, (4, 1)), (1, (4, 0)), (0, (6, 0))] [] jpA_267 1 6 (fun k v hsN => k = 0 ∧ v = (0, 1)) := by
  refine jT_xaload_n (v := (4, 0)) (pcN := 904) jI_379_903 rfl rfl rfl ?_
  refine jT_xaload_n (v := (6, 0)) (pcN := 905) jI_379_904 rfl rfl rfl ?_
  refine jT_xiload (v := (0, 0)) (pcN := 907) jI_379_905 rfl rfl rfl ?_
  refine jT_xiconst (k := 1) (pcN := 908) jI_379_907 rfl ?_
  refine jT_xiadd (x := 0) (y := 1) (z := 1) (pcN := 909) jI_379_908 rfl (by decide) rfl ?_
  refine jT_adv 1 (pcN := 910) (LN := [(5, (0, 0)), (4, (4, 3)), (3, (4, 2)), (2, (4, 1)), (1, (4, 0)), (0, (6, 0))]) (stN := [(0, x1), (4, 0)]) (hsN := jpA_267) (c1 := 0) (s1 := 0) (c2 := 1) (s2 := 6) (by exact rfl) ?_ (by omega) (by omega)
  refine jT_xaload_n (v := (6, 0)) (pcN := 911) jI_379_910 rfl rfl rfl ?_
  refine jT_xiload (v := (0, 0)) (pcN := 913) jI_379_911 rfl rfl rfl ?_
  refine jT_xiconst (k := 2) (pcN := 914) jI_379_913 rfl ?_
  refine jT_xiadd (x := 0) (y := 2) (z := 2) (pcN := 915) jI_379_914 rfl (by decide) rfl ?_
  refine jT_adv 1 (pcN := 916) (LN := [(5, (0, 0)), (4, (4, 3)), (3, (4, 2)), (2, (4, 1)), (1, (4, 0)), (0, (6, 0))]) (stN := [(0, x2), (0, x1), (4, 0)]) (hsN := jpA_267) (c1 := 0) (s1 := 0) (c2 := 1) (s2 := 6) (by exact rfl) ?_ (by omega) (by omega)
  refine jT_xaload_n (v := (4, 2)) (pcN := 917) jI_379_916 rfl rfl rfl ?_
  refine jT_fR [0, 2, 4, 5, 6, 7, 8, 9, 10, 11, 12, 13, 14] 30 (y := 334) (pcN := 920) (dC := 2) (bc1 := 1) (bc2 := 6) (c1 := 0) (c2 := 0) (as := [(4, 0), (0, x1), (0, x2), (4, 2)]) (asC := [(4, 0), (0, x1), (0, x2), (4, 1)]) (LN := [(5, (0, 0)), (4, (4, 3)), (3, (4, 2)), (2, (4, 1)), (1, (4, 0)), (0, (6, 0))]) (stN := []) (hsC := jpA_15) (v := (0, 2)) (st2 := [(0, 2)]) (jA_334_288 (d := 0) (by omega) (by omega)) (by rfl) (by rfl) (by decide +kernel) (by rfl) (by rfl) (by omega) (by omega) (by omega) (by omega) rfl ?_
  refine jT_xistore (v := (0, 2)) (LN := [(6, (0, 2)), (5, (0, 0)), (4, (4, 3)), (3, (4, 2)), (2, (4, 1)), (1, (4, 0)), (0, (6, 0))]) (pcN := 922) jI_379_920 rfl rfl rfl rfl ?_
  refine jT_xaload_n (v := (4, 1)) (pcN := 923) jI_379_922 rfl rfl rfl ?_
  refine jT_xaload_n (v := (6, 0)) (pcN := 924) jI_379_923 rfl rfl rfl ?_
  refine jT_xiload (v := (0, 0)) (pcN := 926) jI_379_924 rfl rfl rfl ?_
  refine jT_xiconst (k := 1) (pcN := 927) jI_379_926 rfl ?_
  refine jT_xiadd (x := 0) (y := 1) (z := 1) (pcN := 928) jI_379_927 rfl (by decide) rfl ?_
  refine jT_adv 1 (pcN := 929) (LN := [(6, (0, 2)), (5, (0, 0)), (4, (4, 3)), (3, (4, 2)), (2, (4, 1)), (1, (4, 0)), (0, (6, 0))]) (stN := [(0, x1), (4, 1)]) (hsN := jpA_267) (c1 := 0) (s1 := 0) (c2 := 0) (s2 := 0) (by exact rfl) ?_ (by omega) (by omega)
  refine jT_xaload_n (v := (6, 0)) (pcN := 930) jI_379_929 rfl rfl rfl ?_
  refine jT_xiload (v := (0, 0)) (pcN := 932) jI_379_930 rfl rfl rfl ?_
  refine jT_xiconst (k := 2) (pcN := 933) jI_379_932 rfl ?_
  refine jT_xiadd (x := 0) (y := 2) (z := 2) (pcN := 934) jI_379_933 rfl (by decide) rfl ?_
  refine jT_adv 1 (pcN := 935) (LN := [(6, (0, 2)), (5, (0, 0)), (4, (4, 3)), (3, (4, 2)), (2, (4, 1)), (1, (4, 0)), (0, (6, 0))]) (stN := [(0, x2), (0, x1), (4, 1)]) (hsN := jpA_267) (c1 := 0) (s1 := 0) (c2 := 0) (s2 := 0) (by exact rfl) ?_ (by omega) (by omega)
  refine jT_fB [1, 15, 16, 17, 18, 19, 20, 21, 22, 23, 24, 25, 26, 27, 28, 29] 30 (y := 234) (pcN := 938) (dC := 2) (bc1 := 0) (bc2 := 0) (c1 := 0) (c2 := 0) (as := [(4, 1), (0, x1), (0, x2)]) (asC := [(4, 0), (0, x1), (0, x2)]) (LN := [(6, (0, 2)), (5, (0, 0)), (4, (4, 3)), (3, (4, 2)), (2, (4, 1)), (1, (4, 0)), (0, (6, 0))]) (stN := []) (hsC := jpA_22) (hsD := jpA_361) (v := (0, 0)) (st2 := [(0, 0)]) (hs2 := jpA_607) (jA_234_289 (d := 0) (by omega) (by omega)) (by rfl) (by rfl) (by decide +kernel) (by rfl) (by rfl) (by omega) (by omega) (by omega) (by omega) rfl (by decide +kernel) ?_
  refine jT_xistore (v := (0, 0)) (LN := [(7, (0, 0)), (6, (0, 2)), (5, (0, 0)), (4, (4, 3)), (3, (4, 2)), (2, (4, 1)), (1, (4, 0)), (0, (6, 0))]) (pcN := 940) jI_379_938 rfl rfl rfl rfl ?_
  refine jT_xaload_n (v := (4, 1)) (pcN := 941) jI_379_940 rfl rfl rfl ?_
  refine jT_fR [1, 15, 16, 17, 18, 19, 20, 21, 22, 23, 24, 25, 26, 27, 28, 29] 30 (y := 186) (pcN := 944) (dC := 0) (bc1 := 0) (bc2 := 0) (c1 := 0) (c2 := 0) (as := [(4, 1)]) (asC := [(4, 0)]) (LN := [(7, (0, 0)), (6, (0, 2)), (5, (0, 0)), (4, (4, 3)), (3, (4, 2)), (2, (4, 1)), (1, (4, 0)), (0, (6, 0))]) (stN := []) (hsC := jpA_361) (v := (0, 2)) (st2 := [(0, 2)]) (jA_186_101 (d := 0)) (by rfl) (by rfl) (by decide +kernel) (by rfl) (by rfl) (by omega) (by omega) (by omega) (by omega) rfl ?_
  refine jT_xiload (v := (0, 2)) (pcN := 946) jI_379_944 rfl rfl rfl ?_
  refine jT_xicT (pcN := 951) jI_379_946 rfl (by decide +kernel) rfl ?_
  refine jT_xiload (v := (0, 2)) (pcN := 953) jI_379_951 rfl rfl rfl ?_
  refine jT_xifT (pcN := 968) jI_379_953 rfl (by decide +kernel) rfl ?_
  refine jT_xgoto (pcN := 3740) jI_379_968 rfl ?_
  refine jT_xiinc (x := 0) (z := 5) (LN := [(5, (0, 5)), (7, (0, 0)), (6, (0, 2)), (4, (4, 3)), (3, (4, 2)), (2, (4, 1)), (1, (4, 0)), (0, (6, 0))]) (pcN := 3743) jI_379_3740 rfl rfl (by decide) rfl rfl ?_
  refine jT_xgoto (pcN := 28) jI_379_3743 rfl ?_
  refine jT_xiload (v := (0, 5)) (pcN := 30) jI_379_28 rfl rfl rfl ?_
  refine jT_xaload_n (v := (6, 0)) (pcN := 31) jI_379_30 rfl rfl rfl ?_
  refine jT_adv 1 (pcN := 32) (LN := [(5, (0, 5)), (7, (0, 0)), (6, (0, 2)), (4, (4, 3)), (3, (4, 2)), (2, (4, 1)), (1, (4, 0)), (0, (6, 0))]) (stN := [(0, 5), (0, 5)]) (hsN := jpA_607) (c1 := 0) (s1 := 0) (c2 := 0) (s2 := 0) (by exact rfl) ?_ (by omega) (by omega)
  refine jT_xiconst (k := 5) (pcN := 33) jI_379_32 rfl ?_
  refine jT_xisub (x := 5) (y := 5) (z := 0) (pcN := 34) jI_379_33 rfl (by decide) rfl ?_
  refine jT_xicT (pcN := 3746) jI_379_34 rfl (by decide +kernel) rfl ?_
  refine jT_xiconst (k := 1) (pcN := 3747) jI_379_3746 rfl ?_
  exact jT_ret rfl (by decide) (by show 30 ≤ 30; decide) (by omega) (by omega) ⟨rfl, rfl⟩
def jzA_1412 : JC := (114, [], [45, 45, 45, 45, 45, 45, 45, 45])
def jpA_1413 : List JC := [jzA_265, jzA_266, (101, [], [0]), jgh, (8, [(4, 30), (4, 31)], []), jgh, jgh, jgh, jgh, jgh, jgh, jgh, jgh, jzA_79, jzA_721, (100, [], jS0), (100, [], []), jzA_722, jzA_197, jgh, jgh, (101, [], [0, 0, 0, 0, 0, 0]), jgh, jgh, jgh, jgh, jgh, jgh, jgh, jgh, jgh, jgh, jzA_1412, jgh, (5, [(4, 46), (4, 47)], []), jgh, jgh, (100, [], (List.replicate 1613 0)), jgh, jgh, jgh, jgh, jgh, jgh, jgh, (4, [(4, 48), (1, 1)], []), (114, [], []), jgh, jgh]
def jzA_1414 : JC := (13, [(4, 4), (4, 5), (4, 6), (4, 7), (4, 8), (4, 9), (4, 10), (4, 11), (4, 12), (4, 13), (0, 1), (4, 52), (0, 0)], [])
def jzA_1415 : JC := (9, [(4, 32), (4, 33), (4, 51), (4, 35), (4, 36)], [])
def jzA_1416 : JC := (14, [(0, 0), (4, 15), (4, 53), (4, 17), (4, 18), (0, 1), (4, 19), (0, 0), (4, 20), (4, 21), (1, 1), (4, 22), (0, 0), (4, 23), (0, 0), (0, 0), (0, 0), (0, 0), (0, 0), (0, 0), (0, 0), (4, 24), (4, 25), (4, 26), (4, 27), (4, 28), (4, 29), (0, 0)], [])
theorem jI_379_956 : jmI (jm 379) 956 = (.aload_n 3, 1) := by rfl
theorem jI_379_957 : jmI (jm 379) 957 = (.iconst 0, 1) := by rfl
theorem jI_379_958 : jmI (jm 379) 958 = (.laload, 1) := by rfl
theorem jI_379_959 : jmI (jm 379) 959 = (.iload 7, 2) := by rfl
theorem jI_379_961 : jmI (jm 379) 961 = (.i2l, 1) := by rfl
theorem jI_379_963 : jmI (jm 379) 963 = (.ifCond .eq 5, 3) := by rfl
set_option maxRecDepth 100000 in
theorem jL_8_2 {d : Nat} {x0 x1 x2 x3 x4 : Int} (h_x0 : (-2147483648) ≤ x0 ∧ x0 ≤ 2147483647) (h_x1 : 0 ≤ x1 ∧ x1 ≤ 7) (h_x2 : 0 ≤ x2 ∧ x2 ≤ 99) (h_x3 : (-2147483648) ≤ x3 ∧ x3 ≤ 2147483647) (h_x4 : (-2147483648) ≤ x4 ∧ x4 ≤ 2147483647) : jT [x0, x1, x2, x3, x4] (d + 4) 379 49 903 [(5, (0, 0)), (4, (4, 3)), (3, (4, 2)), (2, (4, 1)), (1, (4, 0)), (0, (6, 0))] [] jpA_1413 5 17 (fun k v hsN => k = 0 ∧ v = (0, 1)) := by
  refine jT_xaload_n (v := (4, 0)) (pcN := 904) jI_379_903 rfl rfl rfl ?_
  refine jT_xaload_n (v := (6, 0)) (pcN := 905) jI_379_904 rfl rfl rfl ?_
  refine jT_xiload (v := (0, 0)) (pcN := 907) jI_379_905 rfl rfl rfl ?_
  refine jT_xiconst (k := 1) (pcN := 908) jI_379_907 rfl ?_
  refine jT_xiadd (x := 0) (y := 1) (z := 1) (pcN := 909) jI_379_908 rfl (by decide) rfl ?_
  refine jT_adv 1 (pcN := 910) (LN := [(5, (0, 0)), (4, (4, 3)), (3, (4, 2)), (2, (4, 1)), (1, (4, 0)), (0, (6, 0))]) (stN := [(0, x1), (4, 0)]) (hsN := jpA_1413) (c1 := 0) (s1 := 0) (c2 := 5) (s2 := 17) (by exact rfl) ?_ (by omega) (by omega)
  refine jT_xaload_n (v := (6, 0)) (pcN := 911) jI_379_910 rfl rfl rfl ?_
  refine jT_xiload (v := (0, 0)) (pcN := 913) jI_379_911 rfl rfl rfl ?_
  refine jT_xiconst (k := 2) (pcN := 914) jI_379_913 rfl ?_
  refine jT_xiadd (x := 0) (y := 2) (z := 2) (pcN := 915) jI_379_914 rfl (by decide) rfl ?_
  refine jT_adv 1 (pcN := 916) (LN := [(5, (0, 0)), (4, (4, 3)), (3, (4, 2)), (2, (4, 1)), (1, (4, 0)), (0, (6, 0))]) (stN := [(0, x2), (0, x1), (4, 0)]) (hsN := jpA_1413) (c1 := 0) (s1 := 0) (c2 := 5) (s2 := 17) (by exact rfl) ?_ (by omega) (by omega)
  refine jT_xaload_n (v := (4, 2)) (pcN := 917) jI_379_916 rfl rfl rfl ?_
  refine jT_fB [0, 2, 4, 5, 6, 7, 8, 9, 10, 11, 12, 13, 14, 30, 31, 32, 33, 34, 35, 36, 45, 46, 47, 48] 49 (y := 334) (pcN := 920) (dC := 3) (bc1 := 4) (bc2 := 9) (c1 := 1) (c2 := 8) (as := [(4, 0), (0, x1), (0, x2), (4, 2)]) (asC := [(4, 0), (0, x1), (0, x2), (4, 1)]) (LN := [(5, (0, 0)), (4, (4, 3)), (3, (4, 2)), (2, (4, 1)), (1, (4, 0)), (0, (6, 0))]) (stN := []) (hsC := jpA_1323) (hsD := [jzA_978, (101, [], [(-1)]), (8, [(4, 13), (4, 14)], []), jgh, jgh, jgh, jgh, jgh, jgh, jgh, jgh, jzA_76, jzA_659, jgh, jgh, jzA_660, jgh, (5, [(4, 21), (4, 22)], []), jgh, jgh, (4, [(4, 23), (1, 1)], []), (114, [], []), jgh, jgh, (114, [], [20]), (100, [], [x2]), (5, [(4, 24), (4, 25)], []), jzA_1319]) (v := (0, 0)) (st2 := [(0, 0)]) (hs2 := [jzA_1414, jzA_266, (101, [], [(-1)]), jgh, (8, [(4, 30), (4, 31)], []), jgh, jgh, jgh, jgh, jgh, jgh, jgh, jgh, jzA_327, jzA_721, (100, [], jS0), (100, [], []), jzA_722, jzA_197, jgh, jgh, (101, [], [0, 0, 0, 0, 0, 0]), jgh, jgh, jgh, jgh, jgh, jgh, jgh, jgh, jgh, jgh, jzA_1412, jgh, (5, [(4, 46), (4, 47)], []), jgh, jgh, (100, [], (List.replicate 1613 0)), jgh, jgh, jgh, jgh, jgh, jgh, jgh, (4, [(4, 48), (1, 1)], []), (114, [], []), jgh, jgh, (114, [], [45]), (100, [], [x2]), (5, [(4, 49), (4, 50)], []), jzA_1415]) (jA_334_297 (d := 0) (by omega) (by omega)) (by rfl) (by rfl) (by decide +kernel) (by rfl) (by rfl) (by omega) (by omega) (by omega) (by omega) rfl rfl ?_
  refine jT_xistore (v := (0, 0)) (LN := [(6, (0, 0)), (5, (0, 0)), (4, (4, 3)), (3, (4, 2)), (2, (4, 1)), (1, (4, 0)), (0, (6, 0))]) (pcN := 922) jI_379_920 rfl rfl rfl rfl ?_
  refine jT_xaload_n (v := (4, 1)) (pcN := 923) jI_379_922 rfl rfl rfl ?_
  refine jT_xaload_n (v := (6, 0)) (pcN := 924) jI_379_923 rfl rfl rfl ?_
  refine jT_xiload (v := (0, 0)) (pcN := 926) jI_379_924 rfl rfl rfl ?_
  refine jT_xiconst (k := 1) (pcN := 927) jI_379_926 rfl ?_
  refine jT_xiadd (x := 0) (y := 1) (z := 1) (pcN := 928) jI_379_927 rfl (by decide) rfl ?_
  refine jT_adv 1 (pcN := 929) (LN := [(6, (0, 0)), (5, (0, 0)), (4, (4, 3)), (3, (4, 2)), (2, (4, 1)), (1, (4, 0)), (0, (6, 0))]) (stN := [(0, x1), (4, 1)]) (hsN := [jzA_1414, jzA_266, (101, [], [(-1)]), jgh, (8, [(4, 30), (4, 31)], []), jgh, jgh, jgh, jgh, jgh, jgh, jgh, jgh, jzA_327, jzA_721, (100, [], jS0), (100, [], []), jzA_722, jzA_197, jgh, jgh, (101, [], [0, 0, 0, 0, 0, 0]), jgh, jgh, jgh, jgh, jgh, jgh, jgh, jgh, jgh, jgh, jzA_1412, jgh, (5, [(4, 46), (4, 47)], []), jgh, jgh, (100, [], (List.replicate 1613 0)), jgh, jgh, jgh, jgh, jgh, jgh, jgh, (4, [(4, 48), (1, 1)], []), (114, [], []), jgh, jgh, (114, [], [45]), (100, [], [x2]), (5, [(4, 49), (4, 50)], []), jzA_1415]) (c1 := 0) (s1 := 0) (c2 := 1) (s2 := 8) (by exact rfl) ?_ (by omega) (by omega)
  refine jT_xaload_n (v := (6, 0)) (pcN := 930) jI_379_929 rfl rfl rfl ?_
  refine jT_xiload (v := (0, 0)) (pcN := 932) jI_379_930 rfl rfl rfl ?_
  refine jT_xiconst (k := 2) (pcN := 933) jI_379_932 rfl ?_
  refine jT_xiadd (x := 0) (y := 2) (z := 2) (pcN := 934) jI_379_933 rfl (by decide) rfl ?_
  refine jT_adv 1 (pcN := 935) (LN := [(6, (0, 0)), (5, (0, 0)), (4, (4, 3)), (3, (4, 2)), (2, (4, 1)), (1, (4, 0)), (0, (6, 0))]) (stN := [(0, x2), (0, x1), (4, 1)]) (hsN := [jzA_1414, jzA_266, (101, [], [(-1)]), jgh, (8, [(4, 30), (4, 31)], []), jgh, jgh, jgh, jgh, jgh, jgh, jgh, jgh, jzA_327, jzA_721, (100, [], jS0), (100, [], []), jzA_722, jzA_197, jgh, jgh, (101, [], [0, 0, 0, 0, 0, 0]), jgh, jgh, jgh, jgh, jgh, jgh, jgh, jgh, jgh, jgh, jzA_1412, jgh, (5, [(4, 46), (4, 47)], []), jgh, jgh, (100, [], (List.replicate 1613 0)), jgh, jgh, jgh, jgh, jgh, jgh, jgh, (4, [(4, 48), (1, 1)], []), (114, [], []), jgh, jgh, (114, [], [45]), (100, [], [x2]), (5, [(4, 49), (4, 50)], []), jzA_1415]) (c1 := 0) (s1 := 0) (c2 := 1) (s2 := 8) (by exact rfl) ?_ (by omega) (by omega)
  refine jT_callB [1, 15, 16, 17, 18, 19, 20, 21, 22, 23, 24, 25, 26, 27, 28, 29, 37, 38, 39, 40, 41, 42, 43, 44] (y := 234) (pcN := 938) (dC := 3) (bc1 := 1) (bc2 := 8) (c1 := 0) (c2 := 0) (as := [(4, 1), (0, x1), (0, x2)]) (asC := [(4, 0), (0, x1), (0, x2)]) (LN := [(6, (0, 0)), (5, (0, 0)), (4, (4, 3)), (3, (4, 2)), (2, (4, 1)), (1, (4, 0)), (0, (6, 0))]) (stN := []) (hsC := jpA_248) (hsD := [jzA_1383, (100, [], jS0), (100, [], []), jzA_196, jzA_201, jgh, jgh, (101, [], [0, 0, 0, 0, 0, 0]), jgh, jgh, jgh, jgh, jgh, jgh, jgh, jgh, (100, [], jS0), jgh, jgh, jgh, jgh, jgh, jgh, jgh, (100, [], [0, 0, 0, 0, 0, 0, 1, x2])]) (v := (0, (-1))) (st2 := [(0, (-1))]) (hs2 := [jzA_1414, jzA_1416, (101, [], [(-1)]), jgh, (8, [(4, 30), (4, 31)], []), jgh, jgh, jgh, jgh, jgh, jgh, jgh, jgh, jzA_327, jzA_721, (100, [], jS0), (100, [], []), jzA_722, jzA_331, jgh, jgh, (101, [], [0, 0, 0, 0, 0, 0]), jgh, jgh, jgh, jgh, jgh, jgh, jgh, jgh, jgh, jgh, jzA_1412, jgh, (5, [(4, 46), (4, 47)], []), jgh, jgh, (100, [], jS0), jgh, jgh, jgh, jgh, jgh, jgh, jgh, (4, [(4, 48), (1, 1)], []), (114, [], []), jgh, jgh, (114, [], [45]), (100, [], [x2]), (5, [(4, 49), (4, 50)], []), jzA_1415, (100, [], [0, 0, 0, 0, 0, 0, 1, x2])]) (jA_234_302 (d := 0) (by omega) (by omega)) (by rfl) (by rfl) (by rfl) (by rfl) ⟨rfl, rfl, rfl, rfl, rfl, rfl, rfl, rfl, rfl, rfl, rfl, rfl, rfl, rfl, rfl, rfl, rfl, rfl, rfl, rfl, rfl, rfl, rfl, rfl, trivial⟩ (by rfl) (by rfl) (by omega) (by show 49 ≤ 53; omega) (by omega) (by omega) rfl rfl ?_
  refine jT_xistore (v := (0, (-1))) (LN := [(7, (0, (-1))), (6, (0, 0)), (5, (0, 0)), (4, (4, 3)), (3, (4, 2)), (2, (4, 1)), (1, (4, 0)), (0, (6, 0))]) (pcN := 940) jI_379_938 rfl rfl rfl rfl ?_
  refine jT_xaload_n (v := (4, 1)) (pcN := 941) jI_379_940 rfl rfl rfl ?_
  refine jT_callA [1, 15, 53, 17, 18, 19, 20, 21, 22, 23, 24, 25, 26, 27, 28, 29] (y := 186) (pcN := 944) (dC := 0) (bc1 := 0) (bc2 := 0) (c1 := 0) (c2 := 0) (as := [(4, 1)]) (asC := [(4, 0)]) (LN := [(7, (0, (-1))), (6, (0, 0)), (5, (0, 0)), (4, (4, 3)), (3, (4, 2)), (2, (4, 1)), (1, (4, 0)), (0, (6, 0))]) (stN := []) (hsC := jpA_258) (ex := []) (v := (0, 0)) (st2 := [(0, 0)]) (hs2 := [jzA_1414, jzA_1416, (101, [], [(-1)]), jgh, (8, [(4, 30), (4, 31)], []), jgh, jgh, jgh, jgh, jgh, jgh, jgh, jgh, jzA_327, jzA_721, (100, [], jS0), (100, [], []), jzA_722, jzA_331, jgh, jgh, (101, [], [0, 0, 0, 0, 0, 0]), jgh, jgh, jgh, jgh, jgh, jgh, jgh, jgh, jgh, jgh, jzA_1412, jgh, (5, [(4, 46), (4, 47)], []), jgh, jgh, (100, [], jS0), jgh, jgh, jgh, jgh, jgh, jgh, jgh, (4, [(4, 48), (1, 1)], []), (114, [], []), jgh, jgh, (114, [], [45]), (100, [], [x2]), (5, [(4, 49), (4, 50)], []), jzA_1415, (100, [], [0, 0, 0, 0, 0, 0, 1, x2])]) (jA_186_54 (d := 0)) (by rfl) (by rfl) (by rfl) (by rfl) ⟨rfl, rfl, rfl, rfl, rfl, rfl, rfl, rfl, rfl, rfl, rfl, rfl, rfl, rfl, rfl, rfl, trivial⟩ (by rfl) (by rfl) (by omega) (by show 49 ≤ 54; omega) (by omega) (by omega) rfl rfl ?_
  refine jT_xiload (v := (0, 0)) (pcN := 946) jI_379_944 rfl rfl rfl ?_
  refine jT_xicT (pcN := 951) jI_379_946 rfl (by decide +kernel) rfl ?_
  refine jT_xiload (v := (0, 0)) (pcN := 953) jI_379_951 rfl rfl rfl ?_
  refine jT_xifF (t := 968) (pcN := 956) jI_379_953 rfl (by decide +kernel) rfl rfl ?_
  refine jT_xaload_n (v := (4, 2)) (pcN := 957) jI_379_956 rfl rfl rfl ?_
  refine jT_xiconst (k := 0) (pcN := 958) jI_379_957 rfl ?_
  refine jT_lald (x := (-1)) (a := 2) (j := 0) (fs := []) (X := [(-1)]) jI_379_958 rfl rfl rfl rfl ?_
  refine jT_eq (LN := [(7, (0, (-1))), (6, (0, 0)), (5, (0, 0)), (4, (4, 3)), (3, (4, 2)), (2, (4, 1)), (1, (4, 0)), (0, (6, 0))]) (stN := [(1, (-1))]) (hsN := [jzA_1414, jzA_1416, (101, [], [(-1)]), jgh, (8, [(4, 30), (4, 31)], []), jgh, jgh, jgh, jgh, jgh, jgh, jgh, jgh, jzA_327, jzA_721, (100, [], jS0), (100, [], []), jzA_722, jzA_331, jgh, jgh, (101, [], [0, 0, 0, 0, 0, 0]), jgh, jgh, jgh, jgh, jgh, jgh, jgh, jgh, jgh, jgh, jzA_1412, jgh, (5, [(4, 46), (4, 47)], []), jgh, jgh, (100, [], jS0), jgh, jgh, jgh, jgh, jgh, jgh, jgh, (4, [(4, 48), (1, 1)], []), (114, [], []), jgh, jgh, (114, [], [45]), (100, [], [x2]), (5, [(4, 49), (4, 50)], []), jzA_1415, (100, [], [0, 0, 0, 0, 0, 0, 1, x2])]) rfl rfl rfl ?_
  refine jT_xiload (v := (0, (-1))) (pcN := 961) jI_379_959 rfl rfl rfl ?_
  refine jT_xi2l (x := (-1)) (z := (-1)) (pcN := 962) jI_379_961 rfl (by decide +kernel) rfl ?_
  refine jT_lcmp (a := (-1)) (b := (-1)) (z := 0) (by rfl) (by rfl) (by decide +kernel) (by decide +kernel) (by decide) ?_
  refine jT_xifT (pcN := 968) jI_379_963 rfl (by decide +kernel) rfl ?_
  refine jT_xgoto (pcN := 3740) jI_379_968 rfl ?_
  refine jT_xiinc (x := 0) (z := 5) (LN := [(5, (0, 5)), (7, (0, (-1))), (6, (0, 0)), (4, (4, 3)), (3, (4, 2)), (2, (4, 1)), (1, (4, 0)), (0, (6, 0))]) (pcN := 3743) jI_379_3740 rfl rfl (by decide) rfl rfl ?_
  refine jT_xgoto (pcN := 28) jI_379_3743 rfl ?_
  refine jT_xiload (v := (0, 5)) (pcN := 30) jI_379_28 rfl rfl rfl ?_
  refine jT_xaload_n (v := (6, 0)) (pcN := 31) jI_379_30 rfl rfl rfl ?_
  refine jT_adv 1 (pcN := 32) (LN := [(5, (0, 5)), (7, (0, (-1))), (6, (0, 0)), (4, (4, 3)), (3, (4, 2)), (2, (4, 1)), (1, (4, 0)), (0, (6, 0))]) (stN := [(0, 5), (0, 5)]) (hsN := [jzA_1414, jzA_1416, (101, [], [(-1)]), jgh, (8, [(4, 30), (4, 31)], []), jgh, jgh, jgh, jgh, jgh, jgh, jgh, jgh, jzA_327, jzA_721, (100, [], jS0), (100, [], []), jzA_722, jzA_331, jgh, jgh, (101, [], [0, 0, 0, 0, 0, 0]), jgh, jgh, jgh, jgh, jgh, jgh, jgh, jgh, jgh, jgh, jzA_1412, jgh, (5, [(4, 46), (4, 47)], []), jgh, jgh, (100, [], jS0), jgh, jgh, jgh, jgh, jgh, jgh, jgh, (4, [(4, 48), (1, 1)], []), (114, [], []), jgh, jgh, (114, [], [45]), (100, [], [x2]), (5, [(4, 49), (4, 50)], []), jzA_1415, (100, [], [0, 0, 0, 0, 0, 0, 1, x2])]) (c1 := 0) (s1 := 0) (c2 := 0) (s2 := 0) (by exact rfl) ?_ (by omega) (by omega)
  refine jT_xiconst (k := 5) (pcN := 33) jI_379_32 rfl ?_
  refine jT_xisub (x := 5) (y := 5) (z := 0) (pcN := 34) jI_379_33 rfl (by decide) rfl ?_
  refine jT_xicT (pcN := 3746) jI_379_34 rfl (by decide +kernel) rfl ?_
  refine jT_xiconst (k := 1) (pcN := 3747) jI_379_3746 rfl ?_
  exact jT_ret rfl (by decide) (by show 49 ≤ 54; decide) (by omega) (by omega) ⟨rfl, rfl⟩
set_option maxRecDepth 100000 in
theorem jL_8_3 {d : Nat} {x0 x1 x2 x3 x4 : Int} (h_x0 : (-2147483648) ≤ x0 ∧ x0 ≤ 2147483647) (h_x1 : 0 ≤ x1 ∧ x1 ≤ 7) (h_x2 : 100 ≤ x2 ∧ x2 ≤ 2147483647) (h_x3 : (-2147483648) ≤ x3 ∧ x3 ≤ 2147483647) (h_x4 : (-2147483648) ≤ x4 ∧ x4 ≤ 2147483647) : jT [x0, x1, x2, x3, x4] (d + 3) 379 30 903 [(5, (0, 0)), (4, (4, 3)), (3, (4, 2)), (2, (4, 1)), (1, (4, 0)), (0, (6, 0))] [] jpA_267 1 6 (fun k v hsN => k = 0 ∧ v = (0, 1)) := by
  refine jT_xaload_n (v := (4, 0)) (pcN := 904) jI_379_903 rfl rfl rfl ?_
  refine jT_xaload_n (v := (6, 0)) (pcN := 905) jI_379_904 rfl rfl rfl ?_
  refine jT_xiload (v := (0, 0)) (pcN := 907) jI_379_905 rfl rfl rfl ?_
  refine jT_xiconst (k := 1) (pcN := 908) jI_379_907 rfl ?_
  refine jT_xiadd (x := 0) (y := 1) (z := 1) (pcN := 909) jI_379_908 rfl (by decide) rfl ?_
  refine jT_adv 1 (pcN := 910) (LN := [(5, (0, 0)), (4, (4, 3)), (3, (4, 2)), (2, (4, 1)), (1, (4, 0)), (0, (6, 0))]) (stN := [(0, x1), (4, 0)]) (hsN := jpA_267) (c1 := 0) (s1 := 0) (c2 := 1) (s2 := 6) (by exact rfl) ?_ (by omega) (by omega)
  refine jT_xaload_n (v := (6, 0)) (pcN := 911) jI_379_910 rfl rfl rfl ?_
  refine jT_xiload (v := (0, 0)) (pcN := 913) jI_379_911 rfl rfl rfl ?_
  refine jT_xiconst (k := 2) (pcN := 914) jI_379_913 rfl ?_
  refine jT_xiadd (x := 0) (y := 2) (z := 2) (pcN := 915) jI_379_914 rfl (by decide) rfl ?_
  refine jT_adv 1 (pcN := 916) (LN := [(5, (0, 0)), (4, (4, 3)), (3, (4, 2)), (2, (4, 1)), (1, (4, 0)), (0, (6, 0))]) (stN := [(0, x2), (0, x1), (4, 0)]) (hsN := jpA_267) (c1 := 0) (s1 := 0) (c2 := 1) (s2 := 6) (by exact rfl) ?_ (by omega) (by omega)
  refine jT_xaload_n (v := (4, 2)) (pcN := 917) jI_379_916 rfl rfl rfl ?_
  refine jT_fR [0, 2, 4, 5, 6, 7, 8, 9, 10, 11, 12, 13, 14] 30 (y := 334) (pcN := 920) (dC := 2) (bc1 := 1) (bc2 := 6) (c1 := 0) (c2 := 0) (as := [(4, 0), (0, x1), (0, x2), (4, 2)]) (asC := [(4, 0), (0, x1), (0, x2), (4, 1)]) (LN := [(5, (0, 0)), (4, (4, 3)), (3, (4, 2)), (2, (4, 1)), (1, (4, 0)), (0, (6, 0))]) (stN := []) (hsC := jpA_15) (v := (0, 2)) (st2 := [(0, 2)]) (jA_334_305 (d := 0) (by omega) (by omega)) (by rfl) (by rfl) (by decide +kernel) (by rfl) (by rfl) (by omega) (by omega) (by omega) (by omega) rfl ?_
  refine jT_xistore (v := (0, 2)) (LN := [(6, (0, 2)), (5, (0, 0)), (4, (4, 3)), (3, (4, 2)), (2, (4, 1)), (1, (4, 0)), (0, (6, 0))]) (pcN := 922) jI_379_920 rfl rfl rfl rfl ?_
  refine jT_xaload_n (v := (4, 1)) (pcN := 923) jI_379_922 rfl rfl rfl ?_
  refine jT_xaload_n (v := (6, 0)) (pcN := 924) jI_379_923 rfl rfl rfl ?_
  refine jT_xiload (v := (0, 0)) (pcN := 926) jI_379_924 rfl rfl rfl ?_
  refine jT_xiconst (k := 1) (pcN := 927) jI_379_926 rfl ?_
  refine jT_xiadd (x := 0) (y := 1) (z := 1) (pcN := 928) jI_379_927 rfl (by decide) rfl ?_
  refine jT_adv 1 (pcN := 929) (LN := [(6, (0, 2)), (5, (0, 0)), (4, (4, 3)), (3, (4, 2)), (2, (4, 1)), (1, (4, 0)), (0, (6, 0))]) (stN := [(0, x1), (4, 1)]) (hsN := jpA_267) (c1 := 0) (s1 := 0) (c2 := 0) (s2 := 0) (by exact rfl) ?_ (by omega) (by omega)
  refine jT_xaload_n (v := (6, 0)) (pcN := 930) jI_379_929 rfl rfl rfl ?_
  refine jT_xiload (v := (0, 0)) (pcN := 932) jI_379_930 rfl rfl rfl ?_
  refine jT_xiconst (k := 2) (pcN := 933) jI_379_932 rfl ?_
  refine jT_xiadd (x := 0) (y := 2) (z := 2) (pcN := 934) jI_379_933 rfl (by decide) rfl ?_
  refine jT_adv 1 (pcN := 935) (LN := [(6, (0, 2)), (5, (0, 0)), (4, (4, 3)), (3, (4, 2)), (2, (4, 1)), (1, (4, 0)), (0, (6, 0))]) (stN := [(0, x2), (0, x1), (4, 1)]) (hsN := jpA_267) (c1 := 0) (s1 := 0) (c2 := 0) (s2 := 0) (by exact rfl) ?_ (by omega) (by omega)
  refine jT_fB [1, 15, 16, 17, 18, 19, 20, 21, 22, 23, 24, 25, 26, 27, 28, 29] 30 (y := 234) (pcN := 938) (dC := 2) (bc1 := 0) (bc2 := 0) (c1 := 0) (c2 := 0) (as := [(4, 1), (0, x1), (0, x2)]) (asC := [(4, 0), (0, x1), (0, x2)]) (LN := [(6, (0, 2)), (5, (0, 0)), (4, (4, 3)), (3, (4, 2)), (2, (4, 1)), (1, (4, 0)), (0, (6, 0))]) (stN := []) (hsC := jpA_22) (hsD := jpA_361) (v := (0, 0)) (st2 := [(0, 0)]) (hs2 := jpA_607) (jA_234_306 (d := 0) (by omega) (by omega)) (by rfl) (by rfl) (by decide +kernel) (by rfl) (by rfl) (by omega) (by omega) (by omega) (by omega) rfl (by decide +kernel) ?_
  refine jT_xistore (v := (0, 0)) (LN := [(7, (0, 0)), (6, (0, 2)), (5, (0, 0)), (4, (4, 3)), (3, (4, 2)), (2, (4, 1)), (1, (4, 0)), (0, (6, 0))]) (pcN := 940) jI_379_938 rfl rfl rfl rfl ?_
  refine jT_xaload_n (v := (4, 1)) (pcN := 941) jI_379_940 rfl rfl rfl ?_
  refine jT_fR [1, 15, 16, 17, 18, 19, 20, 21, 22, 23, 24, 25, 26, 27, 28, 29] 30 (y := 186) (pcN := 944) (dC := 0) (bc1 := 0) (bc2 := 0) (c1 := 0) (c2 := 0) (as := [(4, 1)]) (asC := [(4, 0)]) (LN := [(7, (0, 0)), (6, (0, 2)), (5, (0, 0)), (4, (4, 3)), (3, (4, 2)), (2, (4, 1)), (1, (4, 0)), (0, (6, 0))]) (stN := []) (hsC := jpA_361) (v := (0, 2)) (st2 := [(0, 2)]) (jA_186_101 (d := 0)) (by rfl) (by rfl) (by decide +kernel) (by rfl) (by rfl) (by omega) (by omega) (by omega) (by omega) rfl ?_
  refine jT_xiload (v := (0, 2)) (pcN := 946) jI_379_944 rfl rfl rfl ?_
  refine jT_xicT (pcN := 951) jI_379_946 rfl (by decide +kernel) rfl ?_
  refine jT_xiload (v := (0, 2)) (pcN := 953) jI_379_951 rfl rfl rfl ?_
  refine jT_xifT (pcN := 968) jI_379_953 rfl (by decide +kernel) rfl ?_
  refine jT_xgoto (pcN := 3740) jI_379_968 rfl ?_
  refine jT_xiinc (x := 0) (z := 5) (LN := [(5, (0, 5)), (7, (0, 0)), (6, (0, 2)), (4, (4, 3)), (3, (4, 2)), (2, (4, 1)), (1, (4, 0)), (0, (6, 0))]) (pcN := 3743) jI_379_3740 rfl rfl (by decide) rfl rfl ?_
  refine jT_xgoto (pcN := 28) jI_379_3743 rfl ?_
  refine jT_xiload (v := (0, 5)) (pcN := 30) jI_379_28 rfl rfl rfl ?_
  refine jT_xaload_n (v := (6, 0)) (pcN := 31) jI_379_30 rfl rfl rfl ?_
  refine jT_adv 1 (pcN := 32) (LN := [(5, (0, 5)), (7, (0, 0)), (6, (0, 2)), (4, (4, 3)), (3, (4, 2)), (2, (4, 1)), (1, (4, 0)), (0, (6, 0))]) (stN := [(0, 5), (0, 5)]) (hsN := jpA_607) (c1 := 0) (s1 := 0) (c2 := 0) (s2 := 0) (by exact rfl) ?_ (by omega) (by omega)
  refine jT_xiconst (k := 5) (pcN := 33) jI_379_32 rfl ?_
  refine jT_xisub (x := 5) (y := 5) (z := 0) (pcN := 34) jI_379_33 rfl (by decide) rfl ?_
  refine jT_xicT (pcN := 3746) jI_379_34 rfl (by decide +kernel) rfl ?_
  refine jT_xiconst (k := 1) (pcN := 3747) jI_379_3746 rfl ?_
  exact jT_ret rfl (by decide) (by show 30 ≤ 30; decide) (by omega) (by omega) ⟨rfl, rfl⟩
set_option maxRecDepth 100000 in
theorem jL_8_4 {d : Nat} {x0 x1 x2 x3 x4 : Int} (h_x0 : (-2147483648) ≤ x0 ∧ x0 ≤ 2147483647) (h_x1 : 8 ≤ x1 ∧ x1 ≤ 2147483647) (h_x2 : (-2147483648) ≤ x2 ∧ x2 ≤ 2147483647) (h_x3 : (-2147483648) ≤ x3 ∧ x3 ≤ 2147483647) (h_x4 : (-2147483648) ≤ x4 ∧ x4 ≤ 2147483647) : jT [x0, x1, x2, x3, x4] (d + 3) 379 30 903 [(5, (0, 0)), (4, (4, 3)), (3, (4, 2)), (2, (4, 1)), (1, (4, 0)), (0, (6, 0))] [] jpA_267 1 6 (fun k v hsN => k = 0 ∧ v = (0, 1)) := by
  refine jT_xaload_n (v := (4, 0)) (pcN := 904) jI_379_903 rfl rfl rfl ?_
  refine jT_xaload_n (v := (6, 0)) (pcN := 905) jI_379_904 rfl rfl rfl ?_
  refine jT_xiload (v := (0, 0)) (pcN := 907) jI_379_905 rfl rfl rfl ?_
  refine jT_xiconst (k := 1) (pcN := 908) jI_379_907 rfl ?_
  refine jT_xiadd (x := 0) (y := 1) (z := 1) (pcN := 909) jI_379_908 rfl (by decide) rfl ?_
  refine jT_adv 1 (pcN := 910) (LN := [(5, (0, 0)), (4, (4, 3)), (3, (4, 2)), (2, (4, 1)), (1, (4, 0)), (0, (6, 0))]) (stN := [(0, x1), (4, 0)]) (hsN := jpA_267) (c1 := 0) (s1 := 0) (c2 := 1) (s2 := 6) (by exact rfl) ?_ (by omega) (by omega)
  refine jT_xaload_n (v := (6, 0)) (pcN := 911) jI_379_910 rfl rfl rfl ?_
  refine jT_xiload (v := (0, 0)) (pcN := 913) jI_379_911 rfl rfl rfl ?_
  refine jT_xiconst (k := 2) (pcN := 914) jI_379_913 rfl ?_
  refine jT_xiadd (x := 0) (y := 2) (z := 2) (pcN := 915) jI_379_914 rfl (by decide) rfl ?_
  refine jT_adv 1 (pcN := 916) (LN := [(5, (0, 0)), (4, (4, 3)), (3, (4, 2)), (2, (4, 1)), (1, (4, 0)), (0, (6, 0))]) (stN := [(0, x2), (0, x1), (4, 0)]) (hsN := jpA_267) (c1 := 0) (s1 := 0) (c2 := 1) (s2 := 6) (by exact rfl) ?_ (by omega) (by omega)
  refine jT_xaload_n (v := (4, 2)) (pcN := 917) jI_379_916 rfl rfl rfl ?_
  refine jT_fR [0, 2, 4, 5, 6, 7, 8, 9, 10, 11, 12, 13, 14] 30 (y := 334) (pcN := 920) (dC := 2) (bc1 := 1) (bc2 := 6) (c1 := 0) (c2 := 0) (as := [(4, 0), (0, x1), (0, x2), (4, 2)]) (asC := [(4, 0), (0, x1), (0, x2), (4, 1)]) (LN := [(5, (0, 0)), (4, (4, 3)), (3, (4, 2)), (2, (4, 1)), (1, (4, 0)), (0, (6, 0))]) (stN := []) (hsC := jpA_15) (v := (0, 1)) (st2 := [(0, 1)]) (jA_334_308 (d := 0) (by omega) (by omega)) (by rfl) (by rfl) (by decide +kernel) (by rfl) (by rfl) (by omega) (by omega) (by omega) (by omega) rfl ?_
  refine jT_xistore (v := (0, 1)) (LN := [(6, (0, 1)), (5, (0, 0)), (4, (4, 3)), (3, (4, 2)), (2, (4, 1)), (1, (4, 0)), (0, (6, 0))]) (pcN := 922) jI_379_920 rfl rfl rfl rfl ?_
  refine jT_xaload_n (v := (4, 1)) (pcN := 923) jI_379_922 rfl rfl rfl ?_
  refine jT_xaload_n (v := (6, 0)) (pcN := 924) jI_379_923 rfl rfl rfl ?_
  refine jT_xiload (v := (0, 0)) (pcN := 926) jI_379_924 rfl rfl rfl ?_
  refine jT_xiconst (k := 1) (pcN := 927) jI_379_926 rfl ?_
  refine jT_xiadd (x := 0) (y := 1) (z := 1) (pcN := 928) jI_379_927 rfl (by decide) rfl ?_
  refine jT_adv 1 (pcN := 929) (LN := [(6, (0, 1)), (5, (0, 0)), (4, (4, 3)), (3, (4, 2)), (2, (4, 1)), (1, (4, 0)), (0, (6, 0))]) (stN := [(0, x1), (4, 1)]) (hsN := jpA_267) (c1 := 0) (s1 := 0) (c2 := 0) (s2 := 0) (by exact rfl) ?_ (by omega) (by omega)
  refine jT_xaload_n (v := (6, 0)) (pcN := 930) jI_379_929 rfl rfl rfl ?_
  refine jT_xiload (v := (0, 0)) (pcN := 932) jI_379_930 rfl rfl rfl ?_
  refine jT_xiconst (k := 2) (pcN := 933) jI_379_932 rfl ?_
  refine jT_xiadd (x := 0) (y := 2) (z := 2) (pcN := 934) jI_379_933 rfl (by decide) rfl ?_
  refine jT_adv 1 (pcN := 935) (LN := [(6, (0, 1)), (5, (0, 0)), (4, (4, 3)), (3, (4, 2)), (2, (4, 1)), (1, (4, 0)), (0, (6, 0))]) (stN := [(0, x2), (0, x1), (4, 1)]) (hsN := jpA_267) (c1 := 0) (s1 := 0) (c2 := 0) (s2 := 0) (by exact rfl) ?_ (by omega) (by omega)
  refine jT_fB [1, 15, 16, 17, 18, 19, 20, 21, 22, 23, 24, 25, 26, 27, 28, 29] 30 (y := 234) (pcN := 938) (dC := 2) (bc1 := 0) (bc2 := 0) (c1 := 0) (c2 := 0) (as := [(4, 1), (0, x1), (0, x2)]) (asC := [(4, 0), (0, x1), (0, x2)]) (LN := [(6, (0, 1)), (5, (0, 0)), (4, (4, 3)), (3, (4, 2)), (2, (4, 1)), (1, (4, 0)), (0, (6, 0))]) (stN := []) (hsC := jpA_22) (hsD := jpA_20) (v := (0, 0)) (st2 := [(0, 0)]) (hs2 := jpA_306) (jA_234_309 (d := 0) (by omega) (by omega)) (by rfl) (by rfl) (by decide +kernel) (by rfl) (by rfl) (by omega) (by omega) (by omega) (by omega) rfl (by decide +kernel) ?_
  refine jT_xistore (v := (0, 0)) (LN := [(7, (0, 0)), (6, (0, 1)), (5, (0, 0)), (4, (4, 3)), (3, (4, 2)), (2, (4, 1)), (1, (4, 0)), (0, (6, 0))]) (pcN := 940) jI_379_938 rfl rfl rfl rfl ?_
  refine jT_xaload_n (v := (4, 1)) (pcN := 941) jI_379_940 rfl rfl rfl ?_
  refine jT_fR [1, 15, 16, 17, 18, 19, 20, 21, 22, 23, 24, 25, 26, 27, 28, 29] 30 (y := 186) (pcN := 944) (dC := 0) (bc1 := 0) (bc2 := 0) (c1 := 0) (c2 := 0) (as := [(4, 1)]) (asC := [(4, 0)]) (LN := [(7, (0, 0)), (6, (0, 1)), (5, (0, 0)), (4, (4, 3)), (3, (4, 2)), (2, (4, 1)), (1, (4, 0)), (0, (6, 0))]) (stN := []) (hsC := jpA_20) (v := (0, 1)) (st2 := [(0, 1)]) (jA_186_8 (d := 0)) (by rfl) (by rfl) (by decide +kernel) (by rfl) (by rfl) (by omega) (by omega) (by omega) (by omega) rfl ?_
  refine jT_xiload (v := (0, 1)) (pcN := 946) jI_379_944 rfl rfl rfl ?_
  refine jT_xicT (pcN := 951) jI_379_946 rfl (by decide +kernel) rfl ?_
  refine jT_xiload (v := (0, 1)) (pcN := 953) jI_379_951 rfl rfl rfl ?_
  refine jT_xifT (pcN := 968) jI_379_953 rfl (by decide +kernel) rfl ?_
  refine jT_xgoto (pcN := 3740) jI_379_968 rfl ?_
  refine jT_xiinc (x := 0) (z := 5) (LN := [(5, (0, 5)), (7, (0, 0)), (6, (0, 1)), (4, (4, 3)), (3, (4, 2)), (2, (4, 1)), (1, (4, 0)), (0, (6, 0))]) (pcN := 3743) jI_379_3740 rfl rfl (by decide) rfl rfl ?_
  refine jT_xgoto (pcN := 28) jI_379_3743 rfl ?_
  refine jT_xiload (v := (0, 5)) (pcN := 30) jI_379_28 rfl rfl rfl ?_
  refine jT_xaload_n (v := (6, 0)) (pcN := 31) jI_379_30 rfl rfl rfl ?_
  refine jT_adv 1 (pcN := 32) (LN := [(5, (0, 5)), (7, (0, 0)), (6, (0, 1)), (4, (4, 3)), (3, (4, 2)), (2, (4, 1)), (1, (4, 0)), (0, (6, 0))]) (stN := [(0, 5), (0, 5)]) (hsN := jpA_306) (c1 := 0) (s1 := 0) (c2 := 0) (s2 := 0) (by exact rfl) ?_ (by omega) (by omega)
  refine jT_xiconst (k := 5) (pcN := 33) jI_379_32 rfl ?_
  refine jT_xisub (x := 5) (y := 5) (z := 0) (pcN := 34) jI_379_33 rfl (by decide) rfl ?_
  refine jT_xicT (pcN := 3746) jI_379_34 rfl (by decide +kernel) rfl ?_
  refine jT_xiconst (k := 1) (pcN := 3747) jI_379_3746 rfl ?_
  exact jT_ret rfl (by decide) (by show 30 ≤ 30; decide) (by omega) (by omega) ⟨rfl, rfl⟩
