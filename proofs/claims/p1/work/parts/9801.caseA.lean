/-! the law, case by case: 3, 4, 5 -/
theorem jI_120_0 : jmI (jm 120) 0 = (.aload_n 0, 1) := by rfl
theorem jI_120_1 : jmI (jm 120) 1 = (.iload_n 1, 1) := by rfl
theorem jI_120_2 : jmI (jm 120) 2 = (.bipush 8, 2) := by rfl
theorem jA_120_93 {xs : List Int} {d : Nat} {x1 x2 x3 : Int} (h_x1 : (-2147483648) ≤ x1 ∧ x1 ≤ (-1)) (h_x2 : (-2147483648) ≤ x2 ∧ x2 ≤ 2147483647) (h_x3 : (-2147483648) ≤ x3 ∧ x3 ≤ 2147483647) : jT xs (d + 1) 120 12 0 [(0, (4, 0)), (1, (0, x1)), (2, (0, x2)), (3, (0, x3))] [] jpA_6 1 6 (fun k v hsN => k = 1 ∧ v = (0, 0) ∧ hsN = jpA_6 ++ []) := by
  refine jT_xaload_n (v := (4, 0)) (pcN := 1) jI_120_0 rfl rfl rfl ?_
  refine jT_xiload_n (v := (0, x1)) (pcN := 2) jI_120_1 rfl rfl rfl ?_
  refine jT_xbipush (k := 8) (pcN := 4) jI_120_2 (by decide) rfl ?_
  exact jT_fX [0] 12 (y := 115) (pcN := 7) (dC := 0) (bc1 := 1) (bc2 := 6) (as := [(4, 0), (0, x1), (0, 8)]) (asC := [(4, 0), (0, x1), (0, 8)]) (LN := [(0, (4, 0)), (1, (0, x1)), (2, (0, x2)), (3, (0, x3))]) (stN := []) (hsC := [jgh]) (e := 0) (jA_115_1 (d := 0) (by omega)) (by rfl) (by rfl) (by decide +kernel) (by rfl) (by rfl) (by omega) (by omega) (by omega) (by omega) ⟨rfl, ⟨rfl, rfl, rfl⟩⟩
theorem jI_329_0 : jmI (jm 329) 0 = (.aload 4, 2) := by rfl
theorem jI_329_2 : jmI (jm 329) 2 = (.iconst 0, 1) := by rfl
theorem jI_329_3 : jmI (jm 329) 3 = (.aload_n 0, 1) := by rfl
theorem jI_329_4 : jmI (jm 329) 4 = (.iload_n 1, 1) := by rfl
theorem jI_329_5 : jmI (jm 329) 5 = (.iload_n 2, 1) := by rfl
theorem jI_329_6 : jmI (jm 329) 6 = (.iload_n 3, 1) := by rfl
theorem jA_329_94 {xs : List Int} {d : Nat} {x1 x2 x3 : Int} (h_x1 : (-2147483648) ≤ x1 ∧ x1 ≤ (-1)) (h_x2 : (-2147483648) ≤ x2 ∧ x2 ≤ 2147483647) (h_x3 : (-2147483648) ≤ x3 ∧ x3 ≤ 2147483647) : jT xs (d + 2) 329 13 0 [(0, (4, 0)), (1, (0, x1)), (2, (0, x2)), (3, (0, x3)), (4, (4, 1))] [] jpA_15 1 6 (fun k v hsN => k = 0 ∧ v = (0, 1) ∧ hsN = jpA_15 ++ []) := by
  refine jT_xaload (v := (4, 1)) (pcN := 2) jI_329_0 rfl rfl rfl ?_
  refine jT_xiconst (k := 0) (pcN := 3) jI_329_2 rfl ?_
  refine jT_xaload_n (v := (4, 0)) (pcN := 4) jI_329_3 rfl rfl rfl ?_
  refine jT_xiload_n (v := (0, x1)) (pcN := 5) jI_329_4 rfl rfl rfl ?_
  refine jT_xiload_n (v := (0, x2)) (pcN := 6) jI_329_5 rfl rfl rfl ?_
  refine jT_xiload_n (v := (0, x3)) (pcN := 7) jI_329_6 rfl rfl rfl ?_
  exact jT_fX [0, 2, 3, 4, 5, 6, 7, 8, 9, 10, 11, 12] 13 (y := 120) (pcN := 10) (dC := 1) (bc1 := 1) (bc2 := 6) (as := [(4, 0), (0, x1), (0, x2), (0, x3)]) (asC := [(4, 0), (0, x1), (0, x2), (0, x3)]) (LN := [(0, (4, 0)), (1, (0, x1)), (2, (0, x2)), (3, (0, x3)), (4, (4, 1))]) (stN := [(0, 0), (4, 1)]) (hsC := jpA_6) (e := 0) (jA_120_93 (d := 0) (by omega) (by omega) (by omega)) (by rfl) (by rfl) (by decide +kernel) (by rfl) (by rfl) (by omega) (by omega) (by omega) (by omega) (show _ from ⟨rfl, rfl, rfl⟩)
theorem jI_206_0 : jmI (jm 206) 0 = (.aload_n 0, 1) := by rfl
theorem jI_206_1 : jmI (jm 206) 1 = (.iload_n 1, 1) := by rfl
theorem jI_206_8 : jmI (jm 206) 8 = (.ifCond .ne 42, 3) := by rfl
theorem jI_206_50 : jmI (jm 206) 50 = (.iconst 0, 1) := by rfl
theorem jA_206_95 {xs : List Int} {d : Nat} {x1 x2 x3 : Int} (h_x1 : (-2147483648) ≤ x1 ∧ x1 ≤ (-1)) (h_x2 : (-2147483648) ≤ x2 ∧ x2 ≤ 2147483647) (h_x3 : (-2147483648) ≤ x3 ∧ x3 ≤ 2147483647) : jT xs (d + 2) 206 16 0 [(0, (4, 0)), (1, (0, x1)), (2, (0, x2)), (3, (0, x3))] [] jpA_22 0 0 (fun k v hsN => k = 0 ∧ v = (0, 0) ∧ hsN = jpA_20) := by
  refine jT_xaload_n (v := (4, 0)) (pcN := 1) jI_206_0 rfl rfl rfl ?_
  refine jT_xiload_n (v := (0, x1)) (pcN := 2) jI_206_1 rfl rfl rfl ?_
  refine jT_fR [] 16 (y := 188) (pcN := 5) (dC := 1) (bc1 := 0) (bc2 := 0) (c1 := 0) (c2 := 0) (as := [(0, x1)]) (asC := [(0, x1)]) (LN := [(0, (4, 0)), (1, (0, x1)), (2, (0, x2)), (3, (0, x3))]) (stN := [(4, 0)]) (hsC := []) (v := (0, 0)) (st2 := [(0, 0), (4, 0)]) (jA_188_4 (d := 0) (by omega)) (by rfl) (by rfl) (by decide +kernel) (by rfl) (by rfl) (by omega) (by omega) (by omega) (by omega) rfl ?_
  refine jT_fB [0, 1, 2, 3, 4, 5, 6, 7, 8, 9, 10, 11, 12, 13, 14, 15] 16 (y := 190) (pcN := 8) (dC := 1) (bc1 := 0) (bc2 := 0) (c1 := 0) (c2 := 0) (as := [(4, 0), (0, 0)]) (asC := [(4, 0), (0, 0)]) (LN := [(0, (4, 0)), (1, (0, x1)), (2, (0, x2)), (3, (0, x3))]) (stN := []) (hsC := jpA_22) (hsD := jpA_20) (v := (0, 1)) (st2 := [(0, 1)]) (hs2 := jpA_20) (jA_190_6 (d := 0)) (by rfl) (by rfl) (by decide +kernel) (by rfl) (by rfl) (by omega) (by omega) (by omega) (by omega) rfl (by decide +kernel) ?_
  refine jT_xifT (pcN := 50) jI_206_8 rfl (by decide +kernel) rfl ?_
  refine jT_xiconst (k := 0) (pcN := 51) jI_206_50 rfl ?_
  exact jT_ret rfl (by decide) (by show 16 ≤ 16; decide) (by omega) (by omega) ⟨rfl, rfl, rfl⟩
theorem jI_116_0 : jmI (jm 116) 0 = (.iload_n 1, 1) := by rfl
theorem jI_116_1 : jmI (jm 116) 1 = (.iload_n 2, 1) := by rfl
theorem jI_116_2 : jmI (jm 116) 2 = (.if_icmp .lt 8, 3) := by rfl
theorem jA_116_96 {xs : List Int} {d : Nat} {x2 : Int} (h_x2 : (-2147483648) ≤ x2 ∧ x2 ≤ (-101)) : jT xs d 116 1 0 [(0, (4, 0)), (1, (0, x2)), (2, (0, (-100))), (3, (0, 100))] [] [jgh] 1 6 (fun k v hsN => k = 1 ∧ v = (0, 1) ∧ hsN = [jgh] ++ []) := by
  refine jT_xiload_n (v := (0, x2)) (pcN := 1) jI_116_0 rfl rfl rfl ?_
  refine jT_xiload_n (v := (0, (-100))) (pcN := 2) jI_116_1 rfl rfl rfl ?_
  refine jT_icT (a := x2) (b := (-100)) (t := 10) (by rfl) (by rfl) (by rfl) (jw_idd (by omega) (by omega)) (jw_idd (by omega) (by omega)) (by simp only [jcP] <;> omega) ?_
  exact jT_ret (c1 := 1) (s1 := 6) rfl (by decide) (by show 1 ≤ 1; decide) (by omega) (by omega) ⟨rfl, rfl, rfl⟩
theorem jI_120_7 : jmI (jm 120) 7 = (.aload_n 0, 1) := by rfl
theorem jI_120_8 : jmI (jm 120) 8 = (.iload_n 2, 1) := by rfl
theorem jI_120_9 : jmI (jm 120) 9 = (.bipush (-100), 2) := by rfl
theorem jI_120_11 : jmI (jm 120) 11 = (.bipush 100, 2) := by rfl
theorem jA_120_97 {xs : List Int} {d : Nat} {x1 x2 x3 : Int} (h_x1 : 0 ≤ x1 ∧ x1 ≤ 7) (h_x2 : (-2147483648) ≤ x2 ∧ x2 ≤ (-101)) (h_x3 : (-2147483648) ≤ x3 ∧ x3 ≤ 2147483647) : jT xs (d + 1) 120 12 0 [(0, (4, 0)), (1, (0, x1)), (2, (0, x2)), (3, (0, x3))] [] jpA_6 1 6 (fun k v hsN => k = 1 ∧ v = (0, 1) ∧ hsN = jpA_6 ++ []) := by
  refine jT_xaload_n (v := (4, 0)) (pcN := 1) jI_120_0 rfl rfl rfl ?_
  refine jT_xiload_n (v := (0, x1)) (pcN := 2) jI_120_1 rfl rfl rfl ?_
  refine jT_xbipush (k := 8) (pcN := 4) jI_120_2 (by decide) rfl ?_
  refine jT_fR [0] 12 (y := 115) (pcN := 7) (dC := 0) (bc1 := 0) (bc2 := 0) (c1 := 1) (c2 := 6) (as := [(4, 0), (0, x1), (0, 8)]) (asC := [(4, 0), (0, x1), (0, 8)]) (LN := [(0, (4, 0)), (1, (0, x1)), (2, (0, x2)), (3, (0, x3))]) (stN := []) (hsC := [jgh]) (v := (9, 0)) (st2 := []) (jA_115_9 (d := 0) (by omega)) (by rfl) (by rfl) (by decide +kernel) (by rfl) (by rfl) (by omega) (by omega) (by omega) (by omega) rfl ?_
  refine jT_xaload_n (v := (4, 0)) (pcN := 8) jI_120_7 rfl rfl rfl ?_
  refine jT_xiload_n (v := (0, x2)) (pcN := 9) jI_120_8 rfl rfl rfl ?_
  refine jT_xbipush (k := (-100)) (pcN := 11) jI_120_9 (by decide) rfl ?_
  refine jT_xbipush (k := 100) (pcN := 13) jI_120_11 (by decide) rfl ?_
  exact jT_fX [0] 12 (y := 116) (pcN := 16) (dC := 0) (bc1 := 1) (bc2 := 6) (as := [(4, 0), (0, x2), (0, (-100)), (0, 100)]) (asC := [(4, 0), (0, x2), (0, (-100)), (0, 100)]) (LN := [(0, (4, 0)), (1, (0, x1)), (2, (0, x2)), (3, (0, x3))]) (stN := []) (hsC := [jgh]) (e := 1) (jA_116_96 (d := 0) (by omega)) (by rfl) (by rfl) (by decide +kernel) (by rfl) (by rfl) (by omega) (by omega) (by omega) (by omega) ⟨rfl, ⟨rfl, rfl, rfl⟩⟩
theorem jA_329_98 {xs : List Int} {d : Nat} {x1 x2 x3 : Int} (h_x1 : 0 ≤ x1 ∧ x1 ≤ 7) (h_x2 : (-2147483648) ≤ x2 ∧ x2 ≤ (-101)) (h_x3 : (-2147483648) ≤ x3 ∧ x3 ≤ 2147483647) : jT xs (d + 2) 329 13 0 [(0, (4, 0)), (1, (0, x1)), (2, (0, x2)), (3, (0, x3)), (4, (4, 1))] [] jpA_15 1 6 (fun k v hsN => k = 0 ∧ v = (0, 2) ∧ hsN = jpA_15 ++ []) := by
  refine jT_xaload (v := (4, 1)) (pcN := 2) jI_329_0 rfl rfl rfl ?_
  refine jT_xiconst (k := 0) (pcN := 3) jI_329_2 rfl ?_
  refine jT_xaload_n (v := (4, 0)) (pcN := 4) jI_329_3 rfl rfl rfl ?_
  refine jT_xiload_n (v := (0, x1)) (pcN := 5) jI_329_4 rfl rfl rfl ?_
  refine jT_xiload_n (v := (0, x2)) (pcN := 6) jI_329_5 rfl rfl rfl ?_
  refine jT_xiload_n (v := (0, x3)) (pcN := 7) jI_329_6 rfl rfl rfl ?_
  exact jT_fX [0, 2, 3, 4, 5, 6, 7, 8, 9, 10, 11, 12] 13 (y := 120) (pcN := 10) (dC := 1) (bc1 := 1) (bc2 := 6) (as := [(4, 0), (0, x1), (0, x2), (0, x3)]) (asC := [(4, 0), (0, x1), (0, x2), (0, x3)]) (LN := [(0, (4, 0)), (1, (0, x1)), (2, (0, x2)), (3, (0, x3)), (4, (4, 1))]) (stN := [(0, 0), (4, 1)]) (hsC := jpA_6) (e := 1) (jA_120_97 (d := 0) (by omega) (by omega) (by omega)) (by rfl) (by rfl) (by decide +kernel) (by rfl) (by rfl) (by omega) (by omega) (by omega) (by omega) (show _ from ⟨rfl, rfl, rfl⟩)
def jzA_360 : JC := (14, [(0, 2), (4, 1), (4, 2), (4, 3), (4, 4), (0, 0), (4, 5), (0, 0), (4, 6), (4, 7), (1, 1), (4, 8), (0, 0), (4, 9), (0, 0), (0, 0), (0, 0), (0, 0), (0, 0), (0, 0), (0, 0), (4, 10), (4, 11), (4, 12), (4, 13), (4, 14), (4, 15), (0, 0)], [])
def jpA_361 : List JC := [jzA_360, jgh, jgh, jgh, jgh, jgh, jgh, jgh, jgh, jgh, jgh, jgh, jgh, jgh, jgh, jgh]
theorem jA_191_99 {xs : List Int} {d : Nat} : jT xs d 191 16 0 [(0, (4, 0)), (1, (0, 0)), (2, (0, 2))] [] jpA_22 0 0 (fun k v hsN => k = 0 ∧ v = (0, 1) ∧ hsN = jpA_361) := by
  refine jT_advK 9 (pcN := 18) (LN := [(0, (4, 0)), (1, (0, 0)), (2, (0, 2))]) (stN := [(0, 1)]) (hsN := jpA_361) (c1 := 0) (s1 := 0) (c2 := 0) (s2 := 0) (by decide +kernel) ?_ (by omega) (by omega)
  exact jT_ret rfl (by decide) (by show 16 ≤ 16; decide) (by omega) (by omega) ⟨rfl, rfl, rfl⟩
theorem jI_206_11 : jmI (jm 206) 11 = (.aload_n 0, 1) := by rfl
theorem jI_206_12 : jmI (jm 206) 12 = (.iload_n 2, 1) := by rfl
theorem jI_206_13 : jmI (jm 206) 13 = (.i2l, 1) := by rfl
theorem jI_206_23 : jmI (jm 206) 23 = (.ifCond .eq 19, 3) := by rfl
theorem jI_206_42 : jmI (jm 206) 42 = (.iconst 0, 1) := by rfl
theorem jI_206_43 : jmI (jm 206) 43 = (.iconst 2, 1) := by rfl
theorem jI_206_47 : jmI (jm 206) 47 = (.ifCond .eq 5, 3) := by rfl
theorem jA_206_100 {xs : List Int} {d : Nat} {x1 x2 x3 : Int} (h_x1 : 0 ≤ x1 ∧ x1 ≤ 7) (h_x2 : (-2147483648) ≤ x2 ∧ x2 ≤ (-101)) (h_x3 : (-2147483648) ≤ x3 ∧ x3 ≤ 2147483647) : jT xs (d + 2) 206 16 0 [(0, (4, 0)), (1, (0, x1)), (2, (0, x2)), (3, (0, x3))] [] jpA_22 0 0 (fun k v hsN => k = 0 ∧ v = (0, 0) ∧ hsN = jpA_361) := by
  refine jT_xaload_n (v := (4, 0)) (pcN := 1) jI_206_0 rfl rfl rfl ?_
  refine jT_xiload_n (v := (0, x1)) (pcN := 2) jI_206_1 rfl rfl rfl ?_
  refine jT_fR [] 16 (y := 188) (pcN := 5) (dC := 1) (bc1 := 0) (bc2 := 0) (c1 := 0) (c2 := 0) (as := [(0, x1)]) (asC := [(0, x1)]) (LN := [(0, (4, 0)), (1, (0, x1)), (2, (0, x2)), (3, (0, x3))]) (stN := [(4, 0)]) (hsC := []) (v := (0, 1)) (st2 := [(0, 1), (4, 0)]) (jA_188_13 (d := 0) (by omega)) (by rfl) (by rfl) (by decide +kernel) (by rfl) (by rfl) (by omega) (by omega) (by omega) (by omega) rfl ?_
  refine jT_fR [0, 1, 2, 3, 4, 5, 6, 7, 8, 9, 10, 11, 12, 13, 14, 15] 16 (y := 190) (pcN := 8) (dC := 1) (bc1 := 0) (bc2 := 0) (c1 := 0) (c2 := 0) (as := [(4, 0), (0, 1)]) (asC := [(4, 0), (0, 1)]) (LN := [(0, (4, 0)), (1, (0, x1)), (2, (0, x2)), (3, (0, x3))]) (stN := []) (hsC := jpA_22) (v := (0, 0)) (st2 := [(0, 0)]) (jA_190_39 (d := 0)) (by rfl) (by rfl) (by decide +kernel) (by rfl) (by rfl) (by omega) (by omega) (by omega) (by omega) rfl ?_
  refine jT_xifF (t := 50) (pcN := 11) jI_206_8 rfl (by decide +kernel) rfl rfl ?_
  refine jT_xaload_n (v := (4, 0)) (pcN := 12) jI_206_11 rfl rfl rfl ?_
  refine jT_xiload_n (v := (0, x2)) (pcN := 13) jI_206_12 rfl rfl rfl ?_
  refine jT_xi2l (x := x2) (z := x2) (pcN := 14) jI_206_13 rfl (jw_idd (by omega) (by omega)) rfl ?_
  refine jT_adv 2 (pcN := 20) (LN := [(0, (4, 0)), (1, (0, x1)), (2, (0, x2)), (3, (0, x3))]) (stN := [(1, 100), (1, (-100)), (1, x2), (4, 0)]) (hsN := jpA_22) (c1 := 0) (s1 := 0) (c2 := 0) (s2 := 0) (by exact rfl) ?_ (by omega) (by omega)
  refine jT_fR [] 16 (y := 189) (pcN := 23) (dC := 0) (bc1 := 0) (bc2 := 0) (c1 := 0) (c2 := 0) (as := [(1, x2), (1, (-100)), (1, 100)]) (asC := [(1, x2), (1, (-100)), (1, 100)]) (LN := [(0, (4, 0)), (1, (0, x1)), (2, (0, x2)), (3, (0, x3))]) (stN := [(4, 0)]) (hsC := []) (v := (0, 0)) (st2 := [(0, 0), (4, 0)]) (jT_in_lo (d := 0) (v := x2) (lo := (-100)) (hi := 100) (by omega) (by omega) (by omega) (by omega)) (by rfl) (by rfl) (by decide +kernel) (by rfl) (by rfl) (by omega) (by omega) (by omega) (by omega) rfl ?_
  refine jT_xifT (pcN := 42) jI_206_23 rfl (by decide +kernel) rfl ?_
  refine jT_xiconst (k := 0) (pcN := 43) jI_206_42 rfl ?_
  refine jT_xiconst (k := 2) (pcN := 44) jI_206_43 rfl ?_
  refine jT_fB [0, 1, 2, 3, 4, 5, 6, 7, 8, 9, 10, 11, 12, 13, 14, 15] 16 (y := 191) (pcN := 47) (dC := 0) (bc1 := 0) (bc2 := 0) (c1 := 0) (c2 := 0) (as := [(4, 0), (0, 0), (0, 2)]) (asC := [(4, 0), (0, 0), (0, 2)]) (LN := [(0, (4, 0)), (1, (0, x1)), (2, (0, x2)), (3, (0, x3))]) (stN := []) (hsC := jpA_22) (hsD := jpA_361) (v := (0, 1)) (st2 := [(0, 1)]) (hs2 := jpA_361) (jA_191_99 (d := 0)) (by rfl) (by rfl) (by decide +kernel) (by rfl) (by rfl) (by omega) (by omega) (by omega) (by omega) rfl (by decide +kernel) ?_
  refine jT_xifF (t := 52) (pcN := 50) jI_206_47 rfl (by decide +kernel) rfl rfl ?_
  refine jT_xiconst (k := 0) (pcN := 51) jI_206_50 rfl ?_
  exact jT_ret rfl (by decide) (by show 16 ≤ 16; decide) (by omega) (by omega) ⟨rfl, rfl, rfl⟩
theorem jA_186_101 {xs : List Int} {d : Nat} : jT xs d 186 16 0 [(0, (4, 0))] [] jpA_361 0 0 (fun k v hsN => k = 0 ∧ v = (0, 2) ∧ hsN = jpA_361 ++ []) := by
  refine jT_advK 2 (pcN := 4) (LN := [(0, (4, 0))]) (stN := [(0, 2)]) (hsN := jpA_361) (c1 := 0) (s1 := 0) (c2 := 0) (s2 := 0) (by decide +kernel) ?_ (by omega) (by omega)
  exact jT_ret rfl (by decide) (by show 16 ≤ 16; decide) (by omega) (by omega) ⟨rfl, rfl, rfl⟩
theorem jI_116_5 : jmI (jm 116) 5 = (.iload_n 1, 1) := by rfl
theorem jI_116_6 : jmI (jm 116) 6 = (.iload_n 3, 1) := by rfl
theorem jI_116_7 : jmI (jm 116) 7 = (.if_icmp .le 14, 3) := by rfl
theorem jA_116_102 {xs : List Int} {d : Nat} {x2 : Int} (h_x2 : (-100) ≤ x2 ∧ x2 ≤ 100) : jT xs d 116 1 0 [(0, (4, 0)), (1, (0, x2)), (2, (0, (-100))), (3, (0, 100))] [] [jgh] 0 0 (fun k v hsN => k = 0 ∧ v = (9, 0) ∧ hsN = [jgh] ++ []) := by
  refine jT_xiload_n (v := (0, x2)) (pcN := 1) jI_116_0 rfl rfl rfl ?_
  refine jT_xiload_n (v := (0, (-100))) (pcN := 2) jI_116_1 rfl rfl rfl ?_
  refine jT_icF (a := x2) (b := (-100)) (t := 10) (by rfl) (by rfl) (by rfl) (jw_idd (by omega) (by omega)) (jw_idd (by omega) (by omega)) (by simp only [jcP] <;> omega) ?_
  refine jT_xiload_n (v := (0, x2)) (pcN := 6) jI_116_5 rfl rfl rfl ?_
  refine jT_xiload_n (v := (0, 100)) (pcN := 7) jI_116_6 rfl rfl rfl ?_
  refine jT_icT (a := x2) (b := 100) (t := 21) (by rfl) (by rfl) (by rfl) (jw_idd (by omega) (by omega)) (jw_idd (by omega) (by omega)) (by simp only [jcP] <;> omega) ?_
  exact jT_ret rfl (by decide) (by show 1 ≤ 1; decide) (by omega) (by omega) ⟨rfl, rfl, rfl⟩
theorem jA_116_103 {xs : List Int} {d : Nat} {x3 : Int} (h_x3 : (-2147483648) ≤ x3 ∧ x3 ≤ 0) : jT xs d 116 1 0 [(0, (4, 0)), (1, (0, x3)), (2, (0, 1)), (3, (0, 24))] [] [jgh] 1 6 (fun k v hsN => k = 1 ∧ v = (0, 1) ∧ hsN = [jgh] ++ []) := by
  refine jT_xiload_n (v := (0, x3)) (pcN := 1) jI_116_0 rfl rfl rfl ?_
  refine jT_xiload_n (v := (0, 1)) (pcN := 2) jI_116_1 rfl rfl rfl ?_
  refine jT_icT (a := x3) (b := 1) (t := 10) (by rfl) (by rfl) (by rfl) (jw_idd (by omega) (by omega)) (jw_idd (by omega) (by omega)) (by simp only [jcP] <;> omega) ?_
  exact jT_ret (c1 := 1) (s1 := 6) rfl (by decide) (by show 1 ≤ 1; decide) (by omega) (by omega) ⟨rfl, rfl, rfl⟩
theorem jI_120_16 : jmI (jm 120) 16 = (.aload_n 0, 1) := by rfl
theorem jI_120_17 : jmI (jm 120) 17 = (.iload_n 3, 1) := by rfl
theorem jI_120_18 : jmI (jm 120) 18 = (.iconst 1, 1) := by rfl
theorem jI_120_19 : jmI (jm 120) 19 = (.bipush 24, 2) := by rfl
theorem jA_120_104 {xs : List Int} {d : Nat} {x1 x2 x3 : Int} (h_x1 : 0 ≤ x1 ∧ x1 ≤ 7) (h_x2 : (-100) ≤ x2 ∧ x2 ≤ 100) (h_x3 : (-2147483648) ≤ x3 ∧ x3 ≤ 0) : jT xs (d + 1) 120 12 0 [(0, (4, 0)), (1, (0, x1)), (2, (0, x2)), (3, (0, x3))] [] jpA_6 1 6 (fun k v hsN => k = 1 ∧ v = (0, 1) ∧ hsN = jpA_6 ++ []) := by
  refine jT_xaload_n (v := (4, 0)) (pcN := 1) jI_120_0 rfl rfl rfl ?_
  refine jT_xiload_n (v := (0, x1)) (pcN := 2) jI_120_1 rfl rfl rfl ?_
  refine jT_xbipush (k := 8) (pcN := 4) jI_120_2 (by decide) rfl ?_
  refine jT_fR [0] 12 (y := 115) (pcN := 7) (dC := 0) (bc1 := 0) (bc2 := 0) (c1 := 1) (c2 := 6) (as := [(4, 0), (0, x1), (0, 8)]) (asC := [(4, 0), (0, x1), (0, 8)]) (LN := [(0, (4, 0)), (1, (0, x1)), (2, (0, x2)), (3, (0, x3))]) (stN := []) (hsC := [jgh]) (v := (9, 0)) (st2 := []) (jA_115_9 (d := 0) (by omega)) (by rfl) (by rfl) (by decide +kernel) (by rfl) (by rfl) (by omega) (by omega) (by omega) (by omega) rfl ?_
  refine jT_xaload_n (v := (4, 0)) (pcN := 8) jI_120_7 rfl rfl rfl ?_
  refine jT_xiload_n (v := (0, x2)) (pcN := 9) jI_120_8 rfl rfl rfl ?_
  refine jT_xbipush (k := (-100)) (pcN := 11) jI_120_9 (by decide) rfl ?_
  refine jT_xbipush (k := 100) (pcN := 13) jI_120_11 (by decide) rfl ?_
  refine jT_fR [0] 12 (y := 116) (pcN := 16) (dC := 0) (bc1 := 0) (bc2 := 0) (c1 := 1) (c2 := 6) (as := [(4, 0), (0, x2), (0, (-100)), (0, 100)]) (asC := [(4, 0), (0, x2), (0, (-100)), (0, 100)]) (LN := [(0, (4, 0)), (1, (0, x1)), (2, (0, x2)), (3, (0, x3))]) (stN := []) (hsC := [jgh]) (v := (9, 0)) (st2 := []) (jA_116_102 (d := 0) (by omega)) (by rfl) (by rfl) (by decide +kernel) (by rfl) (by rfl) (by omega) (by omega) (by omega) (by omega) rfl ?_
  refine jT_xaload_n (v := (4, 0)) (pcN := 17) jI_120_16 rfl rfl rfl ?_
  refine jT_xiload_n (v := (0, x3)) (pcN := 18) jI_120_17 rfl rfl rfl ?_
  refine jT_xiconst (k := 1) (pcN := 19) jI_120_18 rfl ?_
  refine jT_xbipush (k := 24) (pcN := 21) jI_120_19 (by decide) rfl ?_
  exact jT_fX [0] 12 (y := 116) (pcN := 24) (dC := 0) (bc1 := 1) (bc2 := 6) (as := [(4, 0), (0, x3), (0, 1), (0, 24)]) (asC := [(4, 0), (0, x3), (0, 1), (0, 24)]) (LN := [(0, (4, 0)), (1, (0, x1)), (2, (0, x2)), (3, (0, x3))]) (stN := []) (hsC := [jgh]) (e := 1) (jA_116_103 (d := 0) (by omega)) (by rfl) (by rfl) (by decide +kernel) (by rfl) (by rfl) (by omega) (by omega) (by omega) (by omega) ⟨rfl, ⟨rfl, rfl, rfl⟩⟩
theorem jA_329_105 {xs : List Int} {d : Nat} {x1 x2 x3 : Int} (h_x1 : 0 ≤ x1 ∧ x1 ≤ 7) (h_x2 : (-100) ≤ x2 ∧ x2 ≤ 100) (h_x3 : (-2147483648) ≤ x3 ∧ x3 ≤ 0) : jT xs (d + 2) 329 13 0 [(0, (4, 0)), (1, (0, x1)), (2, (0, x2)), (3, (0, x3)), (4, (4, 1))] [] jpA_15 1 6 (fun k v hsN => k = 0 ∧ v = (0, 2) ∧ hsN = jpA_15 ++ []) := by
  refine jT_xaload (v := (4, 1)) (pcN := 2) jI_329_0 rfl rfl rfl ?_
  refine jT_xiconst (k := 0) (pcN := 3) jI_329_2 rfl ?_
  refine jT_xaload_n (v := (4, 0)) (pcN := 4) jI_329_3 rfl rfl rfl ?_
  refine jT_xiload_n (v := (0, x1)) (pcN := 5) jI_329_4 rfl rfl rfl ?_
  refine jT_xiload_n (v := (0, x2)) (pcN := 6) jI_329_5 rfl rfl rfl ?_
  refine jT_xiload_n (v := (0, x3)) (pcN := 7) jI_329_6 rfl rfl rfl ?_
  exact jT_fX [0, 2, 3, 4, 5, 6, 7, 8, 9, 10, 11, 12] 13 (y := 120) (pcN := 10) (dC := 1) (bc1 := 1) (bc2 := 6) (as := [(4, 0), (0, x1), (0, x2), (0, x3)]) (asC := [(4, 0), (0, x1), (0, x2), (0, x3)]) (LN := [(0, (4, 0)), (1, (0, x1)), (2, (0, x2)), (3, (0, x3)), (4, (4, 1))]) (stN := [(0, 0), (4, 1)]) (hsC := jpA_6) (e := 1) (jA_120_104 (d := 0) (by omega) (by omega) (by omega)) (by rfl) (by rfl) (by decide +kernel) (by rfl) (by rfl) (by omega) (by omega) (by omega) (by omega) (show _ from ⟨rfl, rfl, rfl⟩)
theorem jI_206_26 : jmI (jm 206) 26 = (.iload_n 3, 1) := by rfl
theorem jI_206_27 : jmI (jm 206) 27 = (.i2l, 1) := by rfl
theorem jI_206_28 : jmI (jm 206) 28 = (.lconst 1, 1) := by rfl
theorem jI_206_35 : jmI (jm 206) 35 = (.ifCond .eq 7, 3) := by rfl
theorem jA_206_106 {xs : List Int} {d : Nat} {x1 x2 x3 : Int} (h_x1 : 0 ≤ x1 ∧ x1 ≤ 7) (h_x2 : (-100) ≤ x2 ∧ x2 ≤ 100) (h_x3 : (-2147483648) ≤ x3 ∧ x3 ≤ 0) : jT xs (d + 2) 206 16 0 [(0, (4, 0)), (1, (0, x1)), (2, (0, x2)), (3, (0, x3))] [] jpA_22 0 0 (fun k v hsN => k = 0 ∧ v = (0, 0) ∧ hsN = jpA_361) := by
  refine jT_xaload_n (v := (4, 0)) (pcN := 1) jI_206_0 rfl rfl rfl ?_
  refine jT_xiload_n (v := (0, x1)) (pcN := 2) jI_206_1 rfl rfl rfl ?_
  refine jT_fR [] 16 (y := 188) (pcN := 5) (dC := 1) (bc1 := 0) (bc2 := 0) (c1 := 0) (c2 := 0) (as := [(0, x1)]) (asC := [(0, x1)]) (LN := [(0, (4, 0)), (1, (0, x1)), (2, (0, x2)), (3, (0, x3))]) (stN := [(4, 0)]) (hsC := []) (v := (0, 1)) (st2 := [(0, 1), (4, 0)]) (jA_188_13 (d := 0) (by omega)) (by rfl) (by rfl) (by decide +kernel) (by rfl) (by rfl) (by omega) (by omega) (by omega) (by omega) rfl ?_
  refine jT_fR [0, 1, 2, 3, 4, 5, 6, 7, 8, 9, 10, 11, 12, 13, 14, 15] 16 (y := 190) (pcN := 8) (dC := 1) (bc1 := 0) (bc2 := 0) (c1 := 0) (c2 := 0) (as := [(4, 0), (0, 1)]) (asC := [(4, 0), (0, 1)]) (LN := [(0, (4, 0)), (1, (0, x1)), (2, (0, x2)), (3, (0, x3))]) (stN := []) (hsC := jpA_22) (v := (0, 0)) (st2 := [(0, 0)]) (jA_190_39 (d := 0)) (by rfl) (by rfl) (by decide +kernel) (by rfl) (by rfl) (by omega) (by omega) (by omega) (by omega) rfl ?_
  refine jT_xifF (t := 50) (pcN := 11) jI_206_8 rfl (by decide +kernel) rfl rfl ?_
  refine jT_xaload_n (v := (4, 0)) (pcN := 12) jI_206_11 rfl rfl rfl ?_
  refine jT_xiload_n (v := (0, x2)) (pcN := 13) jI_206_12 rfl rfl rfl ?_
  refine jT_xi2l (x := x2) (z := x2) (pcN := 14) jI_206_13 rfl (jw_idd (by omega) (by omega)) rfl ?_
  refine jT_adv 2 (pcN := 20) (LN := [(0, (4, 0)), (1, (0, x1)), (2, (0, x2)), (3, (0, x3))]) (stN := [(1, 100), (1, (-100)), (1, x2), (4, 0)]) (hsN := jpA_22) (c1 := 0) (s1 := 0) (c2 := 0) (s2 := 0) (by exact rfl) ?_ (by omega) (by omega)
  refine jT_fR [] 16 (y := 189) (pcN := 23) (dC := 0) (bc1 := 0) (bc2 := 0) (c1 := 0) (c2 := 0) (as := [(1, x2), (1, (-100)), (1, 100)]) (asC := [(1, x2), (1, (-100)), (1, 100)]) (LN := [(0, (4, 0)), (1, (0, x1)), (2, (0, x2)), (3, (0, x3))]) (stN := [(4, 0)]) (hsC := []) (v := (0, 1)) (st2 := [(0, 1), (4, 0)]) (jT_in_ok (d := 0) (v := x2) (lo := (-100)) (hi := 100) (by omega) (by omega) (by omega) (by omega) (by omega)) (by rfl) (by rfl) (by decide +kernel) (by rfl) (by rfl) (by omega) (by omega) (by omega) (by omega) rfl ?_
  refine jT_xifF (t := 42) (pcN := 26) jI_206_23 rfl (by decide +kernel) rfl rfl ?_
  refine jT_xiload_n (v := (0, x3)) (pcN := 27) jI_206_26 rfl rfl rfl ?_
  refine jT_xi2l (x := x3) (z := x3) (pcN := 28) jI_206_27 rfl (jw_idd (by omega) (by omega)) rfl ?_
  refine jT_xlconst (z := 1) (pcN := 29) jI_206_28 rfl rfl ?_
  refine jT_adv 1 (pcN := 32) (LN := [(0, (4, 0)), (1, (0, x1)), (2, (0, x2)), (3, (0, x3))]) (stN := [(1, 24), (1, 1), (1, x3), (4, 0)]) (hsN := jpA_22) (c1 := 0) (s1 := 0) (c2 := 0) (s2 := 0) (by exact rfl) ?_ (by omega) (by omega)
  refine jT_fR [] 16 (y := 189) (pcN := 35) (dC := 0) (bc1 := 0) (bc2 := 0) (c1 := 0) (c2 := 0) (as := [(1, x3), (1, 1), (1, 24)]) (asC := [(1, x3), (1, 1), (1, 24)]) (LN := [(0, (4, 0)), (1, (0, x1)), (2, (0, x2)), (3, (0, x3))]) (stN := [(4, 0)]) (hsC := []) (v := (0, 0)) (st2 := [(0, 0), (4, 0)]) (jT_in_lo (d := 0) (v := x3) (lo := 1) (hi := 24) (by omega) (by omega) (by omega) (by omega)) (by rfl) (by rfl) (by decide +kernel) (by rfl) (by rfl) (by omega) (by omega) (by omega) (by omega) rfl ?_
  refine jT_xifT (pcN := 42) jI_206_35 rfl (by decide +kernel) rfl ?_
  refine jT_xiconst (k := 0) (pcN := 43) jI_206_42 rfl ?_
  refine jT_xiconst (k := 2) (pcN := 44) jI_206_43 rfl ?_
  refine jT_fB [0, 1, 2, 3, 4, 5, 6, 7, 8, 9, 10, 11, 12, 13, 14, 15] 16 (y := 191) (pcN := 47) (dC := 0) (bc1 := 0) (bc2 := 0) (c1 := 0) (c2 := 0) (as := [(4, 0), (0, 0), (0, 2)]) (asC := [(4, 0), (0, 0), (0, 2)]) (LN := [(0, (4, 0)), (1, (0, x1)), (2, (0, x2)), (3, (0, x3))]) (stN := []) (hsC := jpA_22) (hsD := jpA_361) (v := (0, 1)) (st2 := [(0, 1)]) (hs2 := jpA_361) (jA_191_99 (d := 0)) (by rfl) (by rfl) (by decide +kernel) (by rfl) (by rfl) (by omega) (by omega) (by omega) (by omega) rfl (by decide +kernel) ?_
  refine jT_xifF (t := 52) (pcN := 50) jI_206_47 rfl (by decide +kernel) rfl rfl ?_
  refine jT_xiconst (k := 0) (pcN := 51) jI_206_50 rfl ?_
  exact jT_ret rfl (by decide) (by show 16 ≤ 16; decide) (by omega) (by omega) ⟨rfl, rfl, rfl⟩
theorem jA_116_107 {xs : List Int} {d : Nat} {x3 : Int} (h_x3 : 1 ≤ x3 ∧ x3 ≤ 24) : jT xs d 116 1 0 [(0, (4, 0)), (1, (0, x3)), (2, (0, 1)), (3, (0, 24))] [] [jgh] 0 0 (fun k v hsN => k = 0 ∧ v = (9, 0) ∧ hsN = [jgh] ++ []) := by
  refine jT_xiload_n (v := (0, x3)) (pcN := 1) jI_116_0 rfl rfl rfl ?_
  refine jT_xiload_n (v := (0, 1)) (pcN := 2) jI_116_1 rfl rfl rfl ?_
  refine jT_icF (a := x3) (b := 1) (t := 10) (by rfl) (by rfl) (by rfl) (jw_idd (by omega) (by omega)) (jw_idd (by omega) (by omega)) (by simp only [jcP] <;> omega) ?_
  refine jT_xiload_n (v := (0, x3)) (pcN := 6) jI_116_5 rfl rfl rfl ?_
  refine jT_xiload_n (v := (0, 24)) (pcN := 7) jI_116_6 rfl rfl rfl ?_
  refine jT_icT (a := x3) (b := 24) (t := 21) (by rfl) (by rfl) (by rfl) (jw_idd (by omega) (by omega)) (jw_idd (by omega) (by omega)) (by simp only [jcP] <;> omega) ?_
  exact jT_ret rfl (by decide) (by show 1 ≤ 1; decide) (by omega) (by omega) ⟨rfl, rfl, rfl⟩
theorem jA_57_108 {xs : List Int} {d : Nat} {x1 : Int} (h_x1 : 0 ≤ x1 ∧ x1 ≤ 7) : jT xs d 57 7 0 [(0, (4, 0)), (1, (0, x1))] [] jpA_47 0 0 (fun k v hsN => k = 0 ∧ v = (4, 6) ∧ hsN = jpA_47 ++ []) := by
  refine jT_xaload_n (v := (4, 0)) (pcN := 1) jI_57_0 rfl rfl rfl ?_
  refine jT_xgetf (a := 0) (t := 1) (ci := 9) (fi := 0) (c := jzA_44) (v := (4, 1)) (pcN := 4) jI_57_1 rfl rfl rfl rfl rfl rfl rfl ?_
  refine jT_xiload_n (v := (0, x1)) (pcN := 5) jI_57_4 rfl rfl rfl ?_
  refine jT_aald (x := 6) (a := 1) (j := (x1).toNat) (fs := []) (X := [6, 6, 6, 6, 6, 6, 6, 6]) (kd := 114) (by rfl) (by rfl) (by rfl) (jw_nn (by omega) (by omega)) (jall_get 8 (by decide) (by omega)) (by rfl) ?_
  refine jT_eq (LN := [(0, (4, 0)), (1, (0, x1))]) (stN := [(4, 6)]) (hsN := jpA_47) rfl rfl rfl ?_
  exact jT_ret rfl (by decide) (by show 7 ≤ 7; decide) (by omega) (by omega) ⟨rfl, rfl, rfl⟩
theorem jA_116_109 {xs : List Int} {d : Nat} : jT xs d 116 1 0 [(0, (4, 0)), (1, (0, 1)), (2, (0, 1)), (3, (0, 24))] [] [jgh] 0 0 (fun k v hsN => k = 0 ∧ v = (9, 0) ∧ hsN = [jgh] ++ []) := by
  refine jT_advK 6 (pcN := 21) (LN := [(0, (4, 0)), (1, (0, 1)), (2, (0, 1)), (3, (0, 24))]) (stN := []) (hsN := [jgh]) (c1 := 0) (s1 := 0) (c2 := 0) (s2 := 0) (by decide +kernel) ?_ (by omega) (by omega)
  exact jT_ret rfl (by decide) (by show 1 ≤ 1; decide) (by omega) (by omega) ⟨rfl, rfl, rfl⟩
theorem jI_10_0 : jmI (jm 10) 0 = (.bipush 6, 2) := by rfl
theorem jI_10_4 : jmI (jm 10) 4 = (.astore 7, 2) := by rfl
theorem jI_10_6 : jmI (jm 10) 6 = (.iconst 0, 1) := by rfl
theorem jI_10_7 : jmI (jm 10) 7 = (.istore 8, 2) := by rfl
theorem jI_10_9 : jmI (jm 10) 9 = (.iload 8, 2) := by rfl
theorem jI_10_11 : jmI (jm 10) 11 = (.bipush 6, 2) := by rfl
theorem jI_10_13 : jmI (jm 10) 13 = (.if_icmp .ge 23, 3) := by rfl
theorem jI_10_16 : jmI (jm 10) 16 = (.aload 7, 2) := by rfl
theorem jI_10_18 : jmI (jm 10) 18 = (.iload 8, 2) := by rfl
theorem jI_10_20 : jmI (jm 10) 20 = (.aload_n 0, 1) := by rfl
theorem jI_10_21 : jmI (jm 10) 21 = (.getfield 9, 3) := by rfl
theorem jI_10_24 : jmI (jm 10) 24 = (.iload 8, 2) := by rfl
theorem jI_10_26 : jmI (jm 10) 26 = (.laload, 1) := by rfl
theorem jI_10_27 : jmI (jm 10) 27 = (.lload_n 1, 1) := by rfl
theorem jI_10_28 : jmI (jm 10) 28 = (.lmul, 1) := by rfl
theorem jI_10_30 : jmI (jm 10) 30 = (.iinc 8 1, 3) := by rfl
theorem jI_10_33 : jmI (jm 10) 33 = (.goto (-24), 3) := by rfl
theorem jI_10_36 : jmI (jm 10) 36 = (.aload 7, 2) := by rfl
theorem jI_10_38 : jmI (jm 10) 38 = (.iconst 0, 1) := by rfl
theorem jI_10_40 : jmI (jm 10) 40 = (.laload, 1) := by rfl
theorem jI_10_41 : jmI (jm 10) 41 = (.lload 5, 2) := by rfl
theorem jI_10_43 : jmI (jm 10) 43 = (.aload_n 0, 1) := by rfl
theorem jI_10_44 : jmI (jm 10) 44 = (.getfield 19, 3) := by rfl
theorem jI_10_47 : jmI (jm 10) 47 = (.lmul, 1) := by rfl
theorem jI_10_48 : jmI (jm 10) 48 = (.lload_n 3, 1) := by rfl
theorem jI_10_49 : jmI (jm 10) 49 = (.lmul, 1) := by rfl
theorem jI_10_50 : jmI (jm 10) 50 = (.ladd, 1) := by rfl
theorem jI_10_56 : jmI (jm 10) 56 = (.aload 7, 2) := by rfl
theorem jI_10_58 : jmI (jm 10) 58 = (.aload_n 0, 1) := by rfl
theorem jI_10_59 : jmI (jm 10) 59 = (.getfield 19, 3) := by rfl
theorem jI_10_62 : jmI (jm 10) 62 = (.lload_n 3, 1) := by rfl
theorem jI_10_63 : jmI (jm 10) 63 = (.lmul, 1) := by rfl
theorem jA_10_110 {xs : List Int} {d : Nat} {x2 : Int} (h_x2 : (-100) ≤ x2 ∧ x2 ≤ 100) : jT xs (d + 2) 10 2 0 [(0, (4, 0)), (1, (1, x2)), (3, (1, 1)), (5, (1, 0))] [] [(4, [(4, 1), (1, 1)], []), (101, [], [0, 0, 0, 0, 0, 0])] 2 8 (fun k v hsN => k = 0 ∧ v = (4, 3) ∧ hsN = [(4, [(4, 1), (1, 1)], []), (101, [], [0, 0, 0, 0, 0, 0])] ++ [(101, [], [0, 0, 0, 0, 0, 0]), (4, [(4, 2), (1, 1)], [])]) := by
  refine jT_xbipush (k := 6) (pcN := 2) jI_10_0 (by decide) rfl ?_
  refine jT_adv 1 (pcN := 4) (LN := [(0, (4, 0)), (1, (1, x2)), (3, (1, 1)), (5, (1, 0))]) (stN := [(4, 2)]) (hsN := [(4, [(4, 1), (1, 1)], []), (101, [], [0, 0, 0, 0, 0, 0]), (101, [], [0, 0, 0, 0, 0, 0])]) (c1 := 1) (s1 := 6) (c2 := 1) (s2 := 2) (by exact rfl) ?_ (by omega) (by omega)
  refine jT_xastore (v := (4, 2)) (LN := [(7, (4, 2)), (0, (4, 0)), (1, (1, x2)), (3, (1, 1)), (5, (1, 0))]) (pcN := 6) jI_10_4 rfl rfl rfl rfl ?_
  refine jT_xiconst (k := 0) (pcN := 7) jI_10_6 rfl ?_
  refine jT_xistore (v := (0, 0)) (LN := [(8, (0, 0)), (7, (4, 2)), (0, (4, 0)), (1, (1, x2)), (3, (1, 1)), (5, (1, 0))]) (pcN := 9) jI_10_7 rfl rfl rfl rfl ?_
  refine jT_xiload (v := (0, 0)) (pcN := 11) jI_10_9 rfl rfl rfl ?_
  refine jT_xbipush (k := 6) (pcN := 13) jI_10_11 (by decide) rfl ?_
  refine jT_xicF (t := 36) (pcN := 16) jI_10_13 rfl (by decide +kernel) rfl rfl ?_
  refine jT_xaload (v := (4, 2)) (pcN := 18) jI_10_16 rfl rfl rfl ?_
  refine jT_xiload (v := (0, 0)) (pcN := 20) jI_10_18 rfl rfl rfl ?_
  refine jT_xaload_n (v := (4, 0)) (pcN := 21) jI_10_20 rfl rfl rfl ?_
  refine jT_xgetf (a := 0) (t := 1) (ci := 4) (fi := 0) (c := (4, [(4, 1), (1, 1)], [])) (v := (4, 1)) (pcN := 24) jI_10_21 rfl rfl rfl rfl rfl rfl rfl ?_
  refine jT_xiload (v := (0, 0)) (pcN := 26) jI_10_24 rfl rfl rfl ?_
  refine jT_lald (x := 0) (a := 1) (j := 0) (fs := []) (X := [0, 0, 0, 0, 0, 0]) jI_10_26 rfl rfl rfl rfl ?_
  refine jT_eq (LN := [(8, (0, 0)), (7, (4, 2)), (0, (4, 0)), (1, (1, x2)), (3, (1, 1)), (5, (1, 0))]) (stN := [(1, 0), (0, 0), (4, 2)]) (hsN := [(4, [(4, 1), (1, 1)], []), (101, [], [0, 0, 0, 0, 0, 0]), (101, [], [0, 0, 0, 0, 0, 0])]) rfl rfl rfl ?_
  refine jT_xlload_n (v := (1, x2)) (pcN := 28) jI_10_27 rfl rfl rfl ?_
  refine jT_xlmul (x := 0) (y := x2) (z := 0) (pcN := 29) jI_10_28 rfl (by omega) rfl ?_
  refine jT_adv 1 (pcN := 30) (LN := [(8, (0, 0)), (7, (4, 2)), (0, (4, 0)), (1, (1, x2)), (3, (1, 1)), (5, (1, 0))]) (stN := []) (hsN := [(4, [(4, 1), (1, 1)], []), (101, [], [0, 0, 0, 0, 0, 0]), (101, [], [0, 0, 0, 0, 0, 0])]) (c1 := 0) (s1 := 0) (c2 := 1) (s2 := 2) (by exact rfl) ?_ (by omega) (by omega)
  refine jT_xiinc (x := 0) (z := 1) (LN := [(8, (0, 1)), (7, (4, 2)), (0, (4, 0)), (1, (1, x2)), (3, (1, 1)), (5, (1, 0))]) (pcN := 33) jI_10_30 rfl rfl (by decide) rfl rfl ?_
  refine jT_xgoto (pcN := 9) jI_10_33 rfl ?_
  refine jT_xiload (v := (0, 1)) (pcN := 11) jI_10_9 rfl rfl rfl ?_
  refine jT_xbipush (k := 6) (pcN := 13) jI_10_11 (by decide) rfl ?_
  refine jT_xicF (t := 36) (pcN := 16) jI_10_13 rfl (by decide +kernel) rfl rfl ?_
  refine jT_xaload (v := (4, 2)) (pcN := 18) jI_10_16 rfl rfl rfl ?_
  refine jT_xiload (v := (0, 1)) (pcN := 20) jI_10_18 rfl rfl rfl ?_
  refine jT_xaload_n (v := (4, 0)) (pcN := 21) jI_10_20 rfl rfl rfl ?_
  refine jT_xgetf (a := 0) (t := 1) (ci := 4) (fi := 0) (c := (4, [(4, 1), (1, 1)], [])) (v := (4, 1)) (pcN := 24) jI_10_21 rfl rfl rfl rfl rfl rfl rfl ?_
  refine jT_xiload (v := (0, 1)) (pcN := 26) jI_10_24 rfl rfl rfl ?_
  refine jT_lald (x := 0) (a := 1) (j := 1) (fs := []) (X := [0, 0, 0, 0, 0, 0]) jI_10_26 rfl rfl rfl rfl ?_
  refine jT_eq (LN := [(8, (0, 1)), (7, (4, 2)), (0, (4, 0)), (1, (1, x2)), (3, (1, 1)), (5, (1, 0))]) (stN := [(1, 0), (0, 1), (4, 2)]) (hsN := [(4, [(4, 1), (1, 1)], []), (101, [], [0, 0, 0, 0, 0, 0]), (101, [], [0, 0, 0, 0, 0, 0])]) rfl rfl rfl ?_
  refine jT_xlload_n (v := (1, x2)) (pcN := 28) jI_10_27 rfl rfl rfl ?_
  refine jT_xlmul (x := 0) (y := x2) (z := 0) (pcN := 29) jI_10_28 rfl (by omega) rfl ?_
  refine jT_adv 1 (pcN := 30) (LN := [(8, (0, 1)), (7, (4, 2)), (0, (4, 0)), (1, (1, x2)), (3, (1, 1)), (5, (1, 0))]) (stN := []) (hsN := [(4, [(4, 1), (1, 1)], []), (101, [], [0, 0, 0, 0, 0, 0]), (101, [], [0, 0, 0, 0, 0, 0])]) (c1 := 0) (s1 := 0) (c2 := 1) (s2 := 2) (by exact rfl) ?_ (by omega) (by omega)
  refine jT_xiinc (x := 1) (z := 2) (LN := [(8, (0, 2)), (7, (4, 2)), (0, (4, 0)), (1, (1, x2)), (3, (1, 1)), (5, (1, 0))]) (pcN := 33) jI_10_30 rfl rfl (by decide) rfl rfl ?_
  refine jT_xgoto (pcN := 9) jI_10_33 rfl ?_
  refine jT_xiload (v := (0, 2)) (pcN := 11) jI_10_9 rfl rfl rfl ?_
  refine jT_xbipush (k := 6) (pcN := 13) jI_10_11 (by decide) rfl ?_
  refine jT_xicF (t := 36) (pcN := 16) jI_10_13 rfl (by decide +kernel) rfl rfl ?_
  refine jT_xaload (v := (4, 2)) (pcN := 18) jI_10_16 rfl rfl rfl ?_
  refine jT_xiload (v := (0, 2)) (pcN := 20) jI_10_18 rfl rfl rfl ?_
  refine jT_xaload_n (v := (4, 0)) (pcN := 21) jI_10_20 rfl rfl rfl ?_
  refine jT_xgetf (a := 0) (t := 1) (ci := 4) (fi := 0) (c := (4, [(4, 1), (1, 1)], [])) (v := (4, 1)) (pcN := 24) jI_10_21 rfl rfl rfl rfl rfl rfl rfl ?_
  refine jT_xiload (v := (0, 2)) (pcN := 26) jI_10_24 rfl rfl rfl ?_
  refine jT_lald (x := 0) (a := 1) (j := 2) (fs := []) (X := [0, 0, 0, 0, 0, 0]) jI_10_26 rfl rfl rfl rfl ?_
  refine jT_eq (LN := [(8, (0, 2)), (7, (4, 2)), (0, (4, 0)), (1, (1, x2)), (3, (1, 1)), (5, (1, 0))]) (stN := [(1, 0), (0, 2), (4, 2)]) (hsN := [(4, [(4, 1), (1, 1)], []), (101, [], [0, 0, 0, 0, 0, 0]), (101, [], [0, 0, 0, 0, 0, 0])]) rfl rfl rfl ?_
  refine jT_xlload_n (v := (1, x2)) (pcN := 28) jI_10_27 rfl rfl rfl ?_
  refine jT_xlmul (x := 0) (y := x2) (z := 0) (pcN := 29) jI_10_28 rfl (by omega) rfl ?_
  refine jT_adv 1 (pcN := 30) (LN := [(8, (0, 2)), (7, (4, 2)), (0, (4, 0)), (1, (1, x2)), (3, (1, 1)), (5, (1, 0))]) (stN := []) (hsN := [(4, [(4, 1), (1, 1)], []), (101, [], [0, 0, 0, 0, 0, 0]), (101, [], [0, 0, 0, 0, 0, 0])]) (c1 := 0) (s1 := 0) (c2 := 1) (s2 := 2) (by exact rfl) ?_ (by omega) (by omega)
  refine jT_xiinc (x := 2) (z := 3) (LN := [(8, (0, 3)), (7, (4, 2)), (0, (4, 0)), (1, (1, x2)), (3, (1, 1)), (5, (1, 0))]) (pcN := 33) jI_10_30 rfl rfl (by decide) rfl rfl ?_
  refine jT_xgoto (pcN := 9) jI_10_33 rfl ?_
  refine jT_xiload (v := (0, 3)) (pcN := 11) jI_10_9 rfl rfl rfl ?_
  refine jT_xbipush (k := 6) (pcN := 13) jI_10_11 (by decide) rfl ?_
  refine jT_xicF (t := 36) (pcN := 16) jI_10_13 rfl (by decide +kernel) rfl rfl ?_
  refine jT_xaload (v := (4, 2)) (pcN := 18) jI_10_16 rfl rfl rfl ?_
  refine jT_xiload (v := (0, 3)) (pcN := 20) jI_10_18 rfl rfl rfl ?_
  refine jT_xaload_n (v := (4, 0)) (pcN := 21) jI_10_20 rfl rfl rfl ?_
  refine jT_xgetf (a := 0) (t := 1) (ci := 4) (fi := 0) (c := (4, [(4, 1), (1, 1)], [])) (v := (4, 1)) (pcN := 24) jI_10_21 rfl rfl rfl rfl rfl rfl rfl ?_
  refine jT_xiload (v := (0, 3)) (pcN := 26) jI_10_24 rfl rfl rfl ?_
  refine jT_lald (x := 0) (a := 1) (j := 3) (fs := []) (X := [0, 0, 0, 0, 0, 0]) jI_10_26 rfl rfl rfl rfl ?_
  refine jT_eq (LN := [(8, (0, 3)), (7, (4, 2)), (0, (4, 0)), (1, (1, x2)), (3, (1, 1)), (5, (1, 0))]) (stN := [(1, 0), (0, 3), (4, 2)]) (hsN := [(4, [(4, 1), (1, 1)], []), (101, [], [0, 0, 0, 0, 0, 0]), (101, [], [0, 0, 0, 0, 0, 0])]) rfl rfl rfl ?_
  refine jT_xlload_n (v := (1, x2)) (pcN := 28) jI_10_27 rfl rfl rfl ?_
  refine jT_xlmul (x := 0) (y := x2) (z := 0) (pcN := 29) jI_10_28 rfl (by omega) rfl ?_
  refine jT_adv 1 (pcN := 30) (LN := [(8, (0, 3)), (7, (4, 2)), (0, (4, 0)), (1, (1, x2)), (3, (1, 1)), (5, (1, 0))]) (stN := []) (hsN := [(4, [(4, 1), (1, 1)], []), (101, [], [0, 0, 0, 0, 0, 0]), (101, [], [0, 0, 0, 0, 0, 0])]) (c1 := 0) (s1 := 0) (c2 := 1) (s2 := 2) (by exact rfl) ?_ (by omega) (by omega)
  refine jT_xiinc (x := 3) (z := 4) (LN := [(8, (0, 4)), (7, (4, 2)), (0, (4, 0)), (1, (1, x2)), (3, (1, 1)), (5, (1, 0))]) (pcN := 33) jI_10_30 rfl rfl (by decide) rfl rfl ?_
  refine jT_xgoto (pcN := 9) jI_10_33 rfl ?_
  refine jT_xiload (v := (0, 4)) (pcN := 11) jI_10_9 rfl rfl rfl ?_
  refine jT_xbipush (k := 6) (pcN := 13) jI_10_11 (by decide) rfl ?_
  refine jT_xicF (t := 36) (pcN := 16) jI_10_13 rfl (by decide +kernel) rfl rfl ?_
  refine jT_xaload (v := (4, 2)) (pcN := 18) jI_10_16 rfl rfl rfl ?_
  refine jT_xiload (v := (0, 4)) (pcN := 20) jI_10_18 rfl rfl rfl ?_
  refine jT_xaload_n (v := (4, 0)) (pcN := 21) jI_10_20 rfl rfl rfl ?_
  refine jT_xgetf (a := 0) (t := 1) (ci := 4) (fi := 0) (c := (4, [(4, 1), (1, 1)], [])) (v := (4, 1)) (pcN := 24) jI_10_21 rfl rfl rfl rfl rfl rfl rfl ?_
  refine jT_xiload (v := (0, 4)) (pcN := 26) jI_10_24 rfl rfl rfl ?_
  refine jT_lald (x := 0) (a := 1) (j := 4) (fs := []) (X := [0, 0, 0, 0, 0, 0]) jI_10_26 rfl rfl rfl rfl ?_
  refine jT_eq (LN := [(8, (0, 4)), (7, (4, 2)), (0, (4, 0)), (1, (1, x2)), (3, (1, 1)), (5, (1, 0))]) (stN := [(1, 0), (0, 4), (4, 2)]) (hsN := [(4, [(4, 1), (1, 1)], []), (101, [], [0, 0, 0, 0, 0, 0]), (101, [], [0, 0, 0, 0, 0, 0])]) rfl rfl rfl ?_
  refine jT_xlload_n (v := (1, x2)) (pcN := 28) jI_10_27 rfl rfl rfl ?_
  refine jT_xlmul (x := 0) (y := x2) (z := 0) (pcN := 29) jI_10_28 rfl (by omega) rfl ?_
  refine jT_adv 1 (pcN := 30) (LN := [(8, (0, 4)), (7, (4, 2)), (0, (4, 0)), (1, (1, x2)), (3, (1, 1)), (5, (1, 0))]) (stN := []) (hsN := [(4, [(4, 1), (1, 1)], []), (101, [], [0, 0, 0, 0, 0, 0]), (101, [], [0, 0, 0, 0, 0, 0])]) (c1 := 0) (s1 := 0) (c2 := 1) (s2 := 2) (by exact rfl) ?_ (by omega) (by omega)
  refine jT_xiinc (x := 4) (z := 5) (LN := [(8, (0, 5)), (7, (4, 2)), (0, (4, 0)), (1, (1, x2)), (3, (1, 1)), (5, (1, 0))]) (pcN := 33) jI_10_30 rfl rfl (by decide) rfl rfl ?_
  refine jT_xgoto (pcN := 9) jI_10_33 rfl ?_
  refine jT_xiload (v := (0, 5)) (pcN := 11) jI_10_9 rfl rfl rfl ?_
  refine jT_xbipush (k := 6) (pcN := 13) jI_10_11 (by decide) rfl ?_
  refine jT_xicF (t := 36) (pcN := 16) jI_10_13 rfl (by decide +kernel) rfl rfl ?_
  refine jT_xaload (v := (4, 2)) (pcN := 18) jI_10_16 rfl rfl rfl ?_
  refine jT_xiload (v := (0, 5)) (pcN := 20) jI_10_18 rfl rfl rfl ?_
  refine jT_xaload_n (v := (4, 0)) (pcN := 21) jI_10_20 rfl rfl rfl ?_
  refine jT_xgetf (a := 0) (t := 1) (ci := 4) (fi := 0) (c := (4, [(4, 1), (1, 1)], [])) (v := (4, 1)) (pcN := 24) jI_10_21 rfl rfl rfl rfl rfl rfl rfl ?_
  refine jT_xiload (v := (0, 5)) (pcN := 26) jI_10_24 rfl rfl rfl ?_
  refine jT_lald (x := 0) (a := 1) (j := 5) (fs := []) (X := [0, 0, 0, 0, 0, 0]) jI_10_26 rfl rfl rfl rfl ?_
  refine jT_eq (LN := [(8, (0, 5)), (7, (4, 2)), (0, (4, 0)), (1, (1, x2)), (3, (1, 1)), (5, (1, 0))]) (stN := [(1, 0), (0, 5), (4, 2)]) (hsN := [(4, [(4, 1), (1, 1)], []), (101, [], [0, 0, 0, 0, 0, 0]), (101, [], [0, 0, 0, 0, 0, 0])]) rfl rfl rfl ?_
  refine jT_xlload_n (v := (1, x2)) (pcN := 28) jI_10_27 rfl rfl rfl ?_
  refine jT_xlmul (x := 0) (y := x2) (z := 0) (pcN := 29) jI_10_28 rfl (by omega) rfl ?_
  refine jT_adv 1 (pcN := 30) (LN := [(8, (0, 5)), (7, (4, 2)), (0, (4, 0)), (1, (1, x2)), (3, (1, 1)), (5, (1, 0))]) (stN := []) (hsN := [(4, [(4, 1), (1, 1)], []), (101, [], [0, 0, 0, 0, 0, 0]), (101, [], [0, 0, 0, 0, 0, 0])]) (c1 := 0) (s1 := 0) (c2 := 1) (s2 := 2) (by exact rfl) ?_ (by omega) (by omega)
  refine jT_xiinc (x := 5) (z := 6) (LN := [(8, (0, 6)), (7, (4, 2)), (0, (4, 0)), (1, (1, x2)), (3, (1, 1)), (5, (1, 0))]) (pcN := 33) jI_10_30 rfl rfl (by decide) rfl rfl ?_
  refine jT_xgoto (pcN := 9) jI_10_33 rfl ?_
  refine jT_xiload (v := (0, 6)) (pcN := 11) jI_10_9 rfl rfl rfl ?_
  refine jT_xbipush (k := 6) (pcN := 13) jI_10_11 (by decide) rfl ?_
  refine jT_xicT (pcN := 36) jI_10_13 rfl (by decide +kernel) rfl ?_
  refine jT_xaload (v := (4, 2)) (pcN := 38) jI_10_36 rfl rfl rfl ?_
  refine jT_xiconst (k := 0) (pcN := 39) jI_10_38 rfl ?_
  refine jT_adv 1 (pcN := 40) (LN := [(8, (0, 6)), (7, (4, 2)), (0, (4, 0)), (1, (1, x2)), (3, (1, 1)), (5, (1, 0))]) (stN := [(0, 0), (4, 2), (0, 0), (4, 2)]) (hsN := [(4, [(4, 1), (1, 1)], []), (101, [], [0, 0, 0, 0, 0, 0]), (101, [], [0, 0, 0, 0, 0, 0])]) (c1 := 0) (s1 := 0) (c2 := 1) (s2 := 2) (by exact rfl) ?_ (by omega) (by omega)
  refine jT_lald (x := 0) (a := 2) (j := 0) (fs := []) (X := [0, 0, 0, 0, 0, 0]) jI_10_40 rfl rfl rfl rfl ?_
  refine jT_eq (LN := [(8, (0, 6)), (7, (4, 2)), (0, (4, 0)), (1, (1, x2)), (3, (1, 1)), (5, (1, 0))]) (stN := [(1, 0), (0, 0), (4, 2)]) (hsN := [(4, [(4, 1), (1, 1)], []), (101, [], [0, 0, 0, 0, 0, 0]), (101, [], [0, 0, 0, 0, 0, 0])]) rfl rfl rfl ?_
  refine jT_xlload (v := (1, 0)) (pcN := 43) jI_10_41 rfl rfl rfl ?_
  refine jT_xaload_n (v := (4, 0)) (pcN := 44) jI_10_43 rfl rfl rfl ?_
  refine jT_xgetf (a := 0) (t := 1) (ci := 4) (fi := 1) (c := (4, [(4, 1), (1, 1)], [])) (v := (1, 1)) (pcN := 47) jI_10_44 rfl rfl rfl rfl rfl rfl rfl ?_
  refine jT_xlmul (x := 0) (y := 1) (z := 0) (pcN := 48) jI_10_47 rfl (by decide) rfl ?_
  refine jT_xlload_n (v := (1, 1)) (pcN := 49) jI_10_48 rfl rfl rfl ?_
  refine jT_xlmul (x := 0) (y := 1) (z := 0) (pcN := 50) jI_10_49 rfl (by decide) rfl ?_
  refine jT_xladd (x := 0) (y := 0) (z := 0) (pcN := 51) jI_10_50 rfl (by decide) rfl ?_
  refine jT_adv 3 (pcN := 56) (LN := [(8, (0, 6)), (7, (4, 2)), (0, (4, 0)), (1, (1, x2)), (3, (1, 1)), (5, (1, 0))]) (stN := [(4, 3), (4, 3)]) (hsN := jpA_48) (c1 := 1) (s1 := 2) (c2 := 0) (s2 := 0) (by exact rfl) ?_ (by omega) (by omega)
  refine jT_xaload (v := (4, 2)) (pcN := 58) jI_10_56 rfl rfl rfl ?_
  refine jT_xaload_n (v := (4, 0)) (pcN := 59) jI_10_58 rfl rfl rfl ?_
  refine jT_xgetf (a := 0) (t := 1) (ci := 4) (fi := 1) (c := (4, [(4, 1), (1, 1)], [])) (v := (1, 1)) (pcN := 62) jI_10_59 rfl rfl rfl rfl rfl rfl rfl ?_
  refine jT_xlload_n (v := (1, 1)) (pcN := 63) jI_10_62 rfl rfl rfl ?_
  refine jT_xlmul (x := 1) (y := 1) (z := 1) (pcN := 64) jI_10_63 rfl (by decide) rfl ?_
  refine jT_fB [3, 2] 4 (y := 9) (pcN := 67) (dC := 1) (bc1 := 0) (bc2 := 0) (c1 := 0) (c2 := 0) (as := [(4, 3), (4, 2), (1, 1)]) (asC := [(4, 0), (4, 1), (1, 1)]) (LN := [(8, (0, 6)), (7, (4, 2)), (0, (4, 0)), (1, (1, x2)), (3, (1, 1)), (5, (1, 0))]) (stN := [(4, 3)]) (hsC := [(4, [(4, (-1)), (1, 0)], []), (101, [], [0, 0, 0, 0, 0, 0])]) (hsD := [(4, [(4, 1), (1, 1)], []), (101, [], [0, 0, 0, 0, 0, 0])]) (v := (9, 0)) (st2 := [(4, 3)]) (hs2 := jpA_49) (jA_9_27 (d := 0)) (by rfl) (by rfl) (by decide +kernel) (by rfl) (by rfl) (by omega) (by omega) (by omega) (by omega) rfl (by decide +kernel) ?_
  exact jT_ret rfl (by decide) (by show 2 ≤ 4; decide) (by omega) (by omega) ⟨rfl, rfl, rfl⟩
theorem jI_120_24 : jmI (jm 120) 24 = (.aload_n 0, 1) := by rfl
theorem jI_120_25 : jmI (jm 120) 25 = (.getfield 67, 3) := by rfl
theorem jI_120_28 : jmI (jm 120) 28 = (.iload_n 1, 1) := by rfl
theorem jI_120_32 : jmI (jm 120) 32 = (.iload_n 2, 1) := by rfl
theorem jI_120_33 : jmI (jm 120) 33 = (.i2l, 1) := by rfl
theorem jI_120_34 : jmI (jm 120) 34 = (.iload_n 3, 1) := by rfl
theorem jI_120_35 : jmI (jm 120) 35 = (.i2l, 1) := by rfl
theorem jI_120_36 : jmI (jm 120) 36 = (.lconst 0, 1) := by rfl
theorem jI_120_40 : jmI (jm 120) 40 = (.astore 4, 2) := by rfl
theorem jI_120_42 : jmI (jm 120) 42 = (.aload_n 0, 1) := by rfl
theorem jI_120_43 : jmI (jm 120) 43 = (.aload 4, 2) := by rfl
theorem jI_120_48 : jmI (jm 120) 48 = (.aload_n 0, 1) := by rfl
theorem jI_120_49 : jmI (jm 120) 49 = (.aload_n 0, 1) := by rfl
theorem jI_120_50 : jmI (jm 120) 50 = (.getfield 67, 3) := by rfl
theorem jI_120_53 : jmI (jm 120) 53 = (.iload_n 1, 1) := by rfl
theorem jI_120_54 : jmI (jm 120) 54 = (.aload 4, 2) := by rfl
theorem jI_120_62 : jmI (jm 120) 62 = (.aload 4, 2) := by rfl
theorem jI_120_64 : jmI (jm 120) 64 = (.getfield 102, 3) := by rfl
theorem jI_120_67 : jmI (jm 120) 67 = (.l2i, 1) := by rfl
theorem jA_120_111 {xs : List Int} {d : Nat} {x1 x2 : Int} (h_x1 : 0 ≤ x1 ∧ x1 ≤ 7) (h_x2 : (-100) ≤ x2 ∧ x2 ≤ 100) : jT xs (d + 3) 120 19 0 [(0, (4, 0)), (1, (0, x1)), (2, (0, x2)), (3, (0, 1))] [] jpA_107 4 21 (fun k v hsN => k = 0 ∧ v = (0, 1) ∧ hsN = jpA_103) := by
  refine jT_xaload_n (v := (4, 0)) (pcN := 1) jI_120_0 rfl rfl rfl ?_
  refine jT_xiload_n (v := (0, x1)) (pcN := 2) jI_120_1 rfl rfl rfl ?_
  refine jT_xbipush (k := 8) (pcN := 4) jI_120_2 (by decide) rfl ?_
  refine jT_fR [0] 19 (y := 115) (pcN := 7) (dC := 0) (bc1 := 0) (bc2 := 0) (c1 := 4) (c2 := 21) (as := [(4, 0), (0, x1), (0, 8)]) (asC := [(4, 0), (0, x1), (0, 8)]) (LN := [(0, (4, 0)), (1, (0, x1)), (2, (0, x2)), (3, (0, 1))]) (stN := []) (hsC := [jgh]) (v := (9, 0)) (st2 := []) (jA_115_9 (d := 0) (by omega)) (by rfl) (by rfl) (by decide +kernel) (by rfl) (by rfl) (by omega) (by omega) (by omega) (by omega) rfl ?_
  refine jT_xaload_n (v := (4, 0)) (pcN := 8) jI_120_7 rfl rfl rfl ?_
  refine jT_xiload_n (v := (0, x2)) (pcN := 9) jI_120_8 rfl rfl rfl ?_
  refine jT_xbipush (k := (-100)) (pcN := 11) jI_120_9 (by decide) rfl ?_
  refine jT_xbipush (k := 100) (pcN := 13) jI_120_11 (by decide) rfl ?_
  refine jT_fR [0] 19 (y := 116) (pcN := 16) (dC := 0) (bc1 := 0) (bc2 := 0) (c1 := 4) (c2 := 21) (as := [(4, 0), (0, x2), (0, (-100)), (0, 100)]) (asC := [(4, 0), (0, x2), (0, (-100)), (0, 100)]) (LN := [(0, (4, 0)), (1, (0, x1)), (2, (0, x2)), (3, (0, 1))]) (stN := []) (hsC := [jgh]) (v := (9, 0)) (st2 := []) (jA_116_102 (d := 0) (by omega)) (by rfl) (by rfl) (by decide +kernel) (by rfl) (by rfl) (by omega) (by omega) (by omega) (by omega) rfl ?_
  refine jT_xaload_n (v := (4, 0)) (pcN := 17) jI_120_16 rfl rfl rfl ?_
  refine jT_xiload_n (v := (0, 1)) (pcN := 18) jI_120_17 rfl rfl rfl ?_
  refine jT_xiconst (k := 1) (pcN := 19) jI_120_18 rfl ?_
  refine jT_xbipush (k := 24) (pcN := 21) jI_120_19 (by decide) rfl ?_
  refine jT_fR [0] 19 (y := 116) (pcN := 24) (dC := 0) (bc1 := 0) (bc2 := 0) (c1 := 4) (c2 := 21) (as := [(4, 0), (0, 1), (0, 1), (0, 24)]) (asC := [(4, 0), (0, 1), (0, 1), (0, 24)]) (LN := [(0, (4, 0)), (1, (0, x1)), (2, (0, x2)), (3, (0, 1))]) (stN := []) (hsC := [jgh]) (v := (9, 0)) (st2 := []) (jA_116_109 (d := 0)) (by rfl) (by rfl) (by decide +kernel) (by rfl) (by rfl) (by omega) (by omega) (by omega) (by omega) rfl ?_
  refine jT_xaload_n (v := (4, 0)) (pcN := 25) jI_120_24 rfl rfl rfl ?_
  refine jT_xgetf (a := 0) (t := 1) (ci := 13) (fi := 11) (c := jzA_5) (v := (4, 11)) (pcN := 28) jI_120_25 rfl rfl rfl rfl rfl rfl rfl ?_
  refine jT_xiload_n (v := (0, x1)) (pcN := 29) jI_120_28 rfl rfl rfl ?_
  refine jT_fR [11, 12, 13, 14, 15, 16, 17] 19 (y := 57) (pcN := 32) (dC := 0) (bc1 := 0) (bc2 := 0) (c1 := 4) (c2 := 21) (as := [(4, 11), (0, x1)]) (asC := [(4, 0), (0, x1)]) (LN := [(0, (4, 0)), (1, (0, x1)), (2, (0, x2)), (3, (0, 1))]) (stN := []) (hsC := jpA_47) (v := (4, 6)) (st2 := [(4, 17)]) (jA_57_108 (d := 0) (by omega)) (by rfl) (by rfl) (by decide +kernel) (by rfl) (by rfl) (by omega) (by omega) (by omega) (by omega) rfl ?_
  refine jT_xiload_n (v := (0, x2)) (pcN := 33) jI_120_32 rfl rfl rfl ?_
  refine jT_xi2l (x := x2) (z := x2) (pcN := 34) jI_120_33 rfl (jw_idd (by omega) (by omega)) rfl ?_
  refine jT_xiload_n (v := (0, 1)) (pcN := 35) jI_120_34 rfl rfl rfl ?_
  refine jT_xi2l (x := 1) (z := 1) (pcN := 36) jI_120_35 rfl (by decide +kernel) rfl ?_
  refine jT_xlconst (z := 0) (pcN := 37) jI_120_36 rfl rfl ?_
  refine jT_fA [17, 18] 19 (y := 10) (pcN := 40) (dC := 2) (bc1 := 2) (bc2 := 8) (c1 := 2) (c2 := 13) (as := [(4, 17), (1, x2), (1, 1), (1, 0)]) (asC := [(4, 0), (1, x2), (1, 1), (1, 0)]) (LN := [(0, (4, 0)), (1, (0, x1)), (2, (0, x2)), (3, (0, 1))]) (stN := []) (hsC := [(4, [(4, 1), (1, 1)], []), (101, [], [0, 0, 0, 0, 0, 0])]) (ex := [(101, [], [0, 0, 0, 0, 0, 0]), (4, [(4, 2), (1, 1)], [])]) (v := (4, 3)) (st2 := [(4, 20)]) (hs2 := jpA_90) (jA_10_110 (d := 0) (by omega)) (by rfl) (by rfl) (by decide +kernel) (by rfl) (by rfl) (by omega) (by omega) (by omega) (by omega) rfl (by decide +kernel) ?_
  refine jT_xastore (v := (4, 20)) (LN := [(4, (4, 20)), (0, (4, 0)), (1, (0, x1)), (2, (0, x2)), (3, (0, 1))]) (pcN := 42) jI_120_40 rfl rfl rfl rfl ?_
  refine jT_xaload_n (v := (4, 0)) (pcN := 43) jI_120_42 rfl rfl rfl ?_
  refine jT_xaload (v := (4, 20)) (pcN := 45) jI_120_43 rfl rfl rfl ?_
  refine jT_fR [0, 20, 19] 21 (y := 117) (pcN := 48) (dC := 2) (bc1 := 0) (bc2 := 0) (c1 := 2) (c2 := 13) (as := [(4, 0), (4, 20)]) (asC := [(4, 0), (4, 1)]) (LN := [(4, (4, 20)), (0, (4, 0)), (1, (0, x1)), (2, (0, x2)), (3, (0, 1))]) (stN := []) (hsC := [jgh, (4, [(4, 2), (1, 1)], []), (101, [], [0, 0, 0, 0, 0, 0])]) (v := (9, 0)) (st2 := []) (jA_117_31 (d := 0)) (by rfl) (by rfl) (by decide +kernel) (by rfl) (by rfl) (by omega) (by omega) (by omega) (by omega) rfl ?_
  refine jT_xaload_n (v := (4, 0)) (pcN := 49) jI_120_48 rfl rfl rfl ?_
  refine jT_xaload_n (v := (4, 0)) (pcN := 50) jI_120_49 rfl rfl rfl ?_
  refine jT_xgetf (a := 0) (t := 1) (ci := 13) (fi := 11) (c := jzA_5) (v := (4, 11)) (pcN := 53) jI_120_50 rfl rfl rfl rfl rfl rfl rfl ?_
  refine jT_xiload_n (v := (0, x1)) (pcN := 54) jI_120_53 rfl rfl rfl ?_
  refine jT_xaload (v := (4, 20)) (pcN := 56) jI_120_54 rfl rfl rfl ?_
  refine jT_fA [11, 20, 12, 13, 14, 15, 16, 19, 17] 21 (y := 58) (pcN := 59) (dC := 1) (bc1 := 2) (bc2 := 13) (c1 := 0) (c2 := 0) (as := [(4, 11), (0, x1), (4, 20)]) (asC := [(4, 0), (0, x1), (4, 1)]) (LN := [(4, (4, 20)), (0, (4, 0)), (1, (0, x1)), (2, (0, x2)), (3, (0, 1))]) (stN := [(4, 0)]) (hsC := jpA_74) (ex := [jgh, jzA_72]) (v := (4, 10)) (st2 := [(4, 22), (4, 0)]) (hs2 := jpA_100) (jA_58_33 (d := 0) (by omega)) (by rfl) (by rfl) (by decide +kernel) (by rfl) (by rfl) (by omega) (by omega) (by omega) (by omega) rfl (by decide +kernel) ?_
  refine jT_fB [0, 22, 1, 2, 3, 4, 5, 6, 7, 8, 9, 10, 11, 12, 13, 14, 15, 16] 23 (y := 100) (pcN := 62) (dC := 0) (bc1 := 0) (bc2 := 0) (c1 := 0) (c2 := 0) (as := [(4, 0), (4, 22)]) (asC := [(4, 0), (4, 1)]) (LN := [(4, (4, 20)), (0, (4, 0)), (1, (0, x1)), (2, (0, x2)), (3, (0, 1))]) (stN := []) (hsC := jpA_80) (hsD := jpA_78) (v := (9, 0)) (st2 := []) (hs2 := jpA_103) (jA_100_34 (d := 0)) (by rfl) (by rfl) (by decide +kernel) (by rfl) (by rfl) (by omega) (by omega) (by omega) (by omega) rfl (by decide +kernel) ?_
  refine jT_xaload (v := (4, 20)) (pcN := 64) jI_120_62 rfl rfl rfl ?_
  refine jT_xgetf (a := 20) (t := 2) (ci := 4) (fi := 1) (c := (4, [(4, 19), (1, 1)], [])) (v := (1, 1)) (pcN := 67) jI_120_64 rfl rfl rfl rfl rfl rfl rfl ?_
  refine jT_xl2i (pcN := 68) jI_120_67 rfl rfl ?_
  exact jT_ret rfl (by decide) (by show 19 ≤ 23; decide) (by omega) (by omega) ⟨rfl, rfl, rfl⟩
theorem jI_329_10 : jmI (jm 329) 10 = (.i2l, 1) := by rfl
theorem jI_329_12 : jmI (jm 329) 12 = (.goto 15, 3) := by rfl
theorem jI_329_27 : jmI (jm 329) 27 = (.iconst 0, 1) := by rfl
theorem jA_329_112 {xs : List Int} {d : Nat} {x1 x2 : Int} (h_x1 : 0 ≤ x1 ∧ x1 ≤ 7) (h_x2 : (-100) ≤ x2 ∧ x2 ≤ 100) : jT xs (d + 4) 329 20 0 [(0, (4, 0)), (1, (0, x1)), (2, (0, x2)), (3, (0, 1)), (4, (4, 1))] [] jpA_116 4 21 (fun k v hsN => k = 0 ∧ v = (0, 0) ∧ hsN = jpA_113) := by
  refine jT_xaload (v := (4, 1)) (pcN := 2) jI_329_0 rfl rfl rfl ?_
  refine jT_xiconst (k := 0) (pcN := 3) jI_329_2 rfl ?_
  refine jT_xaload_n (v := (4, 0)) (pcN := 4) jI_329_3 rfl rfl rfl ?_
  refine jT_xiload_n (v := (0, x1)) (pcN := 5) jI_329_4 rfl rfl rfl ?_
  refine jT_xiload_n (v := (0, x2)) (pcN := 6) jI_329_5 rfl rfl rfl ?_
  refine jT_xiload_n (v := (0, 1)) (pcN := 7) jI_329_6 rfl rfl rfl ?_
  refine jT_fB [0, 2, 3, 4, 5, 6, 7, 8, 9, 10, 11, 12, 13, 14, 15, 16, 17, 18, 19] 20 (y := 120) (pcN := 10) (dC := 3) (bc1 := 4) (bc2 := 21) (c1 := 0) (c2 := 0) (as := [(4, 0), (0, x1), (0, x2), (0, 1)]) (asC := [(4, 0), (0, x1), (0, x2), (0, 1)]) (LN := [(0, (4, 0)), (1, (0, x1)), (2, (0, x2)), (3, (0, 1)), (4, (4, 1))]) (stN := [(0, 0), (4, 1)]) (hsC := jpA_107) (hsD := jpA_103) (v := (0, 1)) (st2 := [(0, 1), (0, 0), (4, 1)]) (hs2 := jpA_111) (jA_120_111 (d := 0) (by omega) (by omega)) (by rfl) (by rfl) (by decide +kernel) (by rfl) (by rfl) (by omega) (by omega) (by omega) (by omega) rfl (by decide +kernel) ?_
  refine jT_xi2l (x := 1) (z := 1) (pcN := 11) jI_329_10 rfl (by decide +kernel) rfl ?_
  refine jT_adv 1 (pcN := 12) (LN := [(0, (4, 0)), (1, (0, x1)), (2, (0, x2)), (3, (0, 1)), (4, (4, 1))]) (stN := []) (hsN := jpA_113) (c1 := 0) (s1 := 0) (c2 := 0) (s2 := 0) (by exact rfl) ?_ (by omega) (by omega)
  refine jT_xgoto (pcN := 27) jI_329_12 rfl ?_
  refine jT_xiconst (k := 0) (pcN := 28) jI_329_27 rfl ?_
  exact jT_ret rfl (by decide) (by show 20 ≤ 24; decide) (by omega) (by omega) ⟨rfl, rfl, rfl⟩
theorem jA_189_113 {xs : List Int} {d : Nat} : jT xs d 189 0 0 [(0, (1, 1)), (2, (1, 1)), (4, (1, 24))] [] [] 0 0 (fun k v hsN => k = 0 ∧ v = (0, 1) ∧ hsN = [] ++ []) := by
  refine jT_advK 10 (pcN := 18) (LN := [(0, (1, 1)), (2, (1, 1)), (4, (1, 24))]) (stN := [(0, 1)]) (hsN := []) (c1 := 0) (s1 := 0) (c2 := 0) (s2 := 0) (by decide +kernel) ?_ (by omega) (by omega)
  exact jT_ret rfl (by decide) (by show 0 ≤ 0; decide) (by omega) (by omega) ⟨rfl, rfl, rfl⟩
theorem jA_203_114 {xs : List Int} {d : Nat} {x1 : Int} (h_x1 : 0 ≤ x1 ∧ x1 ≤ 7) : jT xs d 203 16 0 [(0, (4, 0)), (1, (4, 1)), (2, (0, 7 * x1))] [] jpA_130 0 0 (fun k v hsN => k = 0 ∧ v = (9, 0) ∧ hsN = jpA_130 ++ []) := by
  refine jT_xiconst (k := 0) (pcN := 1) jI_203_0 rfl ?_
  refine jT_xistore_n (v := (0, 0)) (LN := [(3, (0, 0)), (0, (4, 0)), (1, (4, 1)), (2, (0, 7 * x1))]) (pcN := 2) jI_203_1 rfl rfl rfl rfl ?_
  refine jT_xiload_n (v := (0, 0)) (pcN := 3) jI_203_2 rfl rfl rfl ?_
  refine jT_xbipush (k := 6) (pcN := 5) jI_203_3 (by decide) rfl ?_
  refine jT_xicF (t := 26) (pcN := 8) jI_203_5 rfl (by decide +kernel) rfl rfl ?_
  refine jT_xaload_n (v := (4, 0)) (pcN := 9) jI_203_8 rfl rfl rfl ?_
  refine jT_xgetf (a := 0) (t := 1) (ci := 14) (fi := 9) (c := jzA_21) (v := (4, 7)) (pcN := 12) jI_203_9 rfl rfl rfl rfl rfl rfl rfl ?_
  refine jT_xiload_n (v := (0, 0)) (pcN := 13) jI_203_12 rfl rfl rfl ?_
  refine jT_xaload_n (v := (4, 1)) (pcN := 14) jI_203_13 rfl rfl rfl ?_
  refine jT_xiload_n (v := (0, 7 * x1)) (pcN := 15) jI_203_14 rfl rfl rfl ?_
  refine jT_xiload_n (v := (0, 0)) (pcN := 16) jI_203_15 rfl rfl rfl ?_
  refine jT_xiadd (x := 7 * x1) (y := 0) (z := 7 * x1) (pcN := 17) jI_203_16 rfl (by omega) rfl ?_
  refine jT_iald (x := 0) (a := 1) (j := (7 * x1).toNat) (fs := []) (X := jS0) (by rfl) (by rfl) (by rfl) (jw_nn (by omega) (by omega)) (jS0_r0 (by omega) (by omega)) ?_
  refine jT_eq (LN := [(3, (0, 0)), (0, (4, 0)), (1, (4, 1)), (2, (0, 7 * x1))]) (stN := [(0, 0), (0, 0), (4, 7)]) (hsN := jpA_130) rfl rfl rfl ?_
  refine jT_xi2l (x := 0) (z := 0) (pcN := 19) jI_203_18 rfl (by decide +kernel) rfl ?_
  refine jT_adv 1 (pcN := 20) (LN := [(3, (0, 0)), (0, (4, 0)), (1, (4, 1)), (2, (0, 7 * x1))]) (stN := []) (hsN := jpA_130) (c1 := 0) (s1 := 0) (c2 := 0) (s2 := 0) (by exact rfl) ?_ (by omega) (by omega)
  refine jT_xiinc (x := 0) (z := 1) (LN := [(3, (0, 1)), (0, (4, 0)), (1, (4, 1)), (2, (0, 7 * x1))]) (pcN := 23) jI_203_20 rfl rfl (by decide) rfl rfl ?_
  refine jT_xgoto (pcN := 2) jI_203_23 rfl ?_
  refine jT_xiload_n (v := (0, 1)) (pcN := 3) jI_203_2 rfl rfl rfl ?_
  refine jT_xbipush (k := 6) (pcN := 5) jI_203_3 (by decide) rfl ?_
  refine jT_xicF (t := 26) (pcN := 8) jI_203_5 rfl (by decide +kernel) rfl rfl ?_
  refine jT_xaload_n (v := (4, 0)) (pcN := 9) jI_203_8 rfl rfl rfl ?_
  refine jT_xgetf (a := 0) (t := 1) (ci := 14) (fi := 9) (c := jzA_21) (v := (4, 7)) (pcN := 12) jI_203_9 rfl rfl rfl rfl rfl rfl rfl ?_
  refine jT_xiload_n (v := (0, 1)) (pcN := 13) jI_203_12 rfl rfl rfl ?_
  refine jT_xaload_n (v := (4, 1)) (pcN := 14) jI_203_13 rfl rfl rfl ?_
  refine jT_xiload_n (v := (0, 7 * x1)) (pcN := 15) jI_203_14 rfl rfl rfl ?_
  refine jT_xiload_n (v := (0, 1)) (pcN := 16) jI_203_15 rfl rfl rfl ?_
  refine jT_xiadd (x := 7 * x1) (y := 1) (z := 7 * x1 + 1) (pcN := 17) jI_203_16 rfl (by omega) rfl ?_
  refine jT_iald (x := 0) (a := 1) (j := (7 * x1 + 1).toNat) (fs := []) (X := jS0) (by rfl) (by rfl) (by rfl) (jw_nn (by omega) (by omega)) (jS0_r1 (by omega) (by omega)) ?_
  refine jT_eq (LN := [(3, (0, 1)), (0, (4, 0)), (1, (4, 1)), (2, (0, 7 * x1))]) (stN := [(0, 0), (0, 1), (4, 7)]) (hsN := jpA_130) rfl rfl rfl ?_
  refine jT_xi2l (x := 0) (z := 0) (pcN := 19) jI_203_18 rfl (by decide +kernel) rfl ?_
  refine jT_adv 1 (pcN := 20) (LN := [(3, (0, 1)), (0, (4, 0)), (1, (4, 1)), (2, (0, 7 * x1))]) (stN := []) (hsN := jpA_130) (c1 := 0) (s1 := 0) (c2 := 0) (s2 := 0) (by exact rfl) ?_ (by omega) (by omega)
  refine jT_xiinc (x := 1) (z := 2) (LN := [(3, (0, 2)), (0, (4, 0)), (1, (4, 1)), (2, (0, 7 * x1))]) (pcN := 23) jI_203_20 rfl rfl (by decide) rfl rfl ?_
  refine jT_xgoto (pcN := 2) jI_203_23 rfl ?_
  refine jT_xiload_n (v := (0, 2)) (pcN := 3) jI_203_2 rfl rfl rfl ?_
  refine jT_xbipush (k := 6) (pcN := 5) jI_203_3 (by decide) rfl ?_
  refine jT_xicF (t := 26) (pcN := 8) jI_203_5 rfl (by decide +kernel) rfl rfl ?_
  refine jT_xaload_n (v := (4, 0)) (pcN := 9) jI_203_8 rfl rfl rfl ?_
  refine jT_xgetf (a := 0) (t := 1) (ci := 14) (fi := 9) (c := jzA_21) (v := (4, 7)) (pcN := 12) jI_203_9 rfl rfl rfl rfl rfl rfl rfl ?_
  refine jT_xiload_n (v := (0, 2)) (pcN := 13) jI_203_12 rfl rfl rfl ?_
  refine jT_xaload_n (v := (4, 1)) (pcN := 14) jI_203_13 rfl rfl rfl ?_
  refine jT_xiload_n (v := (0, 7 * x1)) (pcN := 15) jI_203_14 rfl rfl rfl ?_
  refine jT_xiload_n (v := (0, 2)) (pcN := 16) jI_203_15 rfl rfl rfl ?_
  refine jT_xiadd (x := 7 * x1) (y := 2) (z := 7 * x1 + 2) (pcN := 17) jI_203_16 rfl (by omega) rfl ?_
  refine jT_iald (x := 0) (a := 1) (j := (7 * x1 + 2).toNat) (fs := []) (X := jS0) (by rfl) (by rfl) (by rfl) (jw_nn (by omega) (by omega)) (jS0_r2 (by omega) (by omega)) ?_
  refine jT_eq (LN := [(3, (0, 2)), (0, (4, 0)), (1, (4, 1)), (2, (0, 7 * x1))]) (stN := [(0, 0), (0, 2), (4, 7)]) (hsN := jpA_130) rfl rfl rfl ?_
  refine jT_xi2l (x := 0) (z := 0) (pcN := 19) jI_203_18 rfl (by decide +kernel) rfl ?_
  refine jT_adv 1 (pcN := 20) (LN := [(3, (0, 2)), (0, (4, 0)), (1, (4, 1)), (2, (0, 7 * x1))]) (stN := []) (hsN := jpA_130) (c1 := 0) (s1 := 0) (c2 := 0) (s2 := 0) (by exact rfl) ?_ (by omega) (by omega)
  refine jT_xiinc (x := 2) (z := 3) (LN := [(3, (0, 3)), (0, (4, 0)), (1, (4, 1)), (2, (0, 7 * x1))]) (pcN := 23) jI_203_20 rfl rfl (by decide) rfl rfl ?_
  refine jT_xgoto (pcN := 2) jI_203_23 rfl ?_
  refine jT_xiload_n (v := (0, 3)) (pcN := 3) jI_203_2 rfl rfl rfl ?_
  refine jT_xbipush (k := 6) (pcN := 5) jI_203_3 (by decide) rfl ?_
  refine jT_xicF (t := 26) (pcN := 8) jI_203_5 rfl (by decide +kernel) rfl rfl ?_
  refine jT_xaload_n (v := (4, 0)) (pcN := 9) jI_203_8 rfl rfl rfl ?_
  refine jT_xgetf (a := 0) (t := 1) (ci := 14) (fi := 9) (c := jzA_21) (v := (4, 7)) (pcN := 12) jI_203_9 rfl rfl rfl rfl rfl rfl rfl ?_
  refine jT_xiload_n (v := (0, 3)) (pcN := 13) jI_203_12 rfl rfl rfl ?_
  refine jT_xaload_n (v := (4, 1)) (pcN := 14) jI_203_13 rfl rfl rfl ?_
  refine jT_xiload_n (v := (0, 7 * x1)) (pcN := 15) jI_203_14 rfl rfl rfl ?_
  refine jT_xiload_n (v := (0, 3)) (pcN := 16) jI_203_15 rfl rfl rfl ?_
  refine jT_xiadd (x := 7 * x1) (y := 3) (z := 7 * x1 + 3) (pcN := 17) jI_203_16 rfl (by omega) rfl ?_
  refine jT_iald (x := 0) (a := 1) (j := (7 * x1 + 3).toNat) (fs := []) (X := jS0) (by rfl) (by rfl) (by rfl) (jw_nn (by omega) (by omega)) (jS0_r3 (by omega) (by omega)) ?_
  refine jT_eq (LN := [(3, (0, 3)), (0, (4, 0)), (1, (4, 1)), (2, (0, 7 * x1))]) (stN := [(0, 0), (0, 3), (4, 7)]) (hsN := jpA_130) rfl rfl rfl ?_
  refine jT_xi2l (x := 0) (z := 0) (pcN := 19) jI_203_18 rfl (by decide +kernel) rfl ?_
  refine jT_adv 1 (pcN := 20) (LN := [(3, (0, 3)), (0, (4, 0)), (1, (4, 1)), (2, (0, 7 * x1))]) (stN := []) (hsN := jpA_130) (c1 := 0) (s1 := 0) (c2 := 0) (s2 := 0) (by exact rfl) ?_ (by omega) (by omega)
  refine jT_xiinc (x := 3) (z := 4) (LN := [(3, (0, 4)), (0, (4, 0)), (1, (4, 1)), (2, (0, 7 * x1))]) (pcN := 23) jI_203_20 rfl rfl (by decide) rfl rfl ?_
  refine jT_xgoto (pcN := 2) jI_203_23 rfl ?_
  refine jT_xiload_n (v := (0, 4)) (pcN := 3) jI_203_2 rfl rfl rfl ?_
  refine jT_xbipush (k := 6) (pcN := 5) jI_203_3 (by decide) rfl ?_
  refine jT_xicF (t := 26) (pcN := 8) jI_203_5 rfl (by decide +kernel) rfl rfl ?_
  refine jT_xaload_n (v := (4, 0)) (pcN := 9) jI_203_8 rfl rfl rfl ?_
  refine jT_xgetf (a := 0) (t := 1) (ci := 14) (fi := 9) (c := jzA_21) (v := (4, 7)) (pcN := 12) jI_203_9 rfl rfl rfl rfl rfl rfl rfl ?_
  refine jT_xiload_n (v := (0, 4)) (pcN := 13) jI_203_12 rfl rfl rfl ?_
  refine jT_xaload_n (v := (4, 1)) (pcN := 14) jI_203_13 rfl rfl rfl ?_
  refine jT_xiload_n (v := (0, 7 * x1)) (pcN := 15) jI_203_14 rfl rfl rfl ?_
  refine jT_xiload_n (v := (0, 4)) (pcN := 16) jI_203_15 rfl rfl rfl ?_
  refine jT_xiadd (x := 7 * x1) (y := 4) (z := 7 * x1 + 4) (pcN := 17) jI_203_16 rfl (by omega) rfl ?_
  refine jT_iald (x := 0) (a := 1) (j := (7 * x1 + 4).toNat) (fs := []) (X := jS0) (by rfl) (by rfl) (by rfl) (jw_nn (by omega) (by omega)) (jS0_r4 (by omega) (by omega)) ?_
  refine jT_eq (LN := [(3, (0, 4)), (0, (4, 0)), (1, (4, 1)), (2, (0, 7 * x1))]) (stN := [(0, 0), (0, 4), (4, 7)]) (hsN := jpA_130) rfl rfl rfl ?_
  refine jT_xi2l (x := 0) (z := 0) (pcN := 19) jI_203_18 rfl (by decide +kernel) rfl ?_
  refine jT_adv 1 (pcN := 20) (LN := [(3, (0, 4)), (0, (4, 0)), (1, (4, 1)), (2, (0, 7 * x1))]) (stN := []) (hsN := jpA_130) (c1 := 0) (s1 := 0) (c2 := 0) (s2 := 0) (by exact rfl) ?_ (by omega) (by omega)
  refine jT_xiinc (x := 4) (z := 5) (LN := [(3, (0, 5)), (0, (4, 0)), (1, (4, 1)), (2, (0, 7 * x1))]) (pcN := 23) jI_203_20 rfl rfl (by decide) rfl rfl ?_
  refine jT_xgoto (pcN := 2) jI_203_23 rfl ?_
  refine jT_xiload_n (v := (0, 5)) (pcN := 3) jI_203_2 rfl rfl rfl ?_
  refine jT_xbipush (k := 6) (pcN := 5) jI_203_3 (by decide) rfl ?_
  refine jT_xicF (t := 26) (pcN := 8) jI_203_5 rfl (by decide +kernel) rfl rfl ?_
  refine jT_xaload_n (v := (4, 0)) (pcN := 9) jI_203_8 rfl rfl rfl ?_
  refine jT_xgetf (a := 0) (t := 1) (ci := 14) (fi := 9) (c := jzA_21) (v := (4, 7)) (pcN := 12) jI_203_9 rfl rfl rfl rfl rfl rfl rfl ?_
  refine jT_xiload_n (v := (0, 5)) (pcN := 13) jI_203_12 rfl rfl rfl ?_
  refine jT_xaload_n (v := (4, 1)) (pcN := 14) jI_203_13 rfl rfl rfl ?_
  refine jT_xiload_n (v := (0, 7 * x1)) (pcN := 15) jI_203_14 rfl rfl rfl ?_
  refine jT_xiload_n (v := (0, 5)) (pcN := 16) jI_203_15 rfl rfl rfl ?_
  refine jT_xiadd (x := 7 * x1) (y := 5) (z := 7 * x1 + 5) (pcN := 17) jI_203_16 rfl (by omega) rfl ?_
  refine jT_iald (x := 0) (a := 1) (j := (7 * x1 + 5).toNat) (fs := []) (X := jS0) (by rfl) (by rfl) (by rfl) (jw_nn (by omega) (by omega)) (jS0_r5 (by omega) (by omega)) ?_
  refine jT_eq (LN := [(3, (0, 5)), (0, (4, 0)), (1, (4, 1)), (2, (0, 7 * x1))]) (stN := [(0, 0), (0, 5), (4, 7)]) (hsN := jpA_130) rfl rfl rfl ?_
  refine jT_xi2l (x := 0) (z := 0) (pcN := 19) jI_203_18 rfl (by decide +kernel) rfl ?_
  refine jT_adv 1 (pcN := 20) (LN := [(3, (0, 5)), (0, (4, 0)), (1, (4, 1)), (2, (0, 7 * x1))]) (stN := []) (hsN := jpA_130) (c1 := 0) (s1 := 0) (c2 := 0) (s2 := 0) (by exact rfl) ?_ (by omega) (by omega)
  refine jT_xiinc (x := 5) (z := 6) (LN := [(3, (0, 6)), (0, (4, 0)), (1, (4, 1)), (2, (0, 7 * x1))]) (pcN := 23) jI_203_20 rfl rfl (by decide) rfl rfl ?_
  refine jT_xgoto (pcN := 2) jI_203_23 rfl ?_
  refine jT_xiload_n (v := (0, 6)) (pcN := 3) jI_203_2 rfl rfl rfl ?_
  refine jT_xbipush (k := 6) (pcN := 5) jI_203_3 (by decide) rfl ?_
  refine jT_xicT (pcN := 26) jI_203_5 rfl (by decide +kernel) rfl ?_
  refine jT_xaload_n (v := (4, 0)) (pcN := 27) jI_203_26 rfl rfl rfl ?_
  refine jT_xaload_n (v := (4, 1)) (pcN := 28) jI_203_27 rfl rfl rfl ?_
  refine jT_xiload_n (v := (0, 7 * x1)) (pcN := 29) jI_203_28 rfl rfl rfl ?_
  refine jT_xbipush (k := 6) (pcN := 31) jI_203_29 (by decide) rfl ?_
  refine jT_xiadd (x := 7 * x1) (y := 6) (z := 7 * x1 + 6) (pcN := 32) jI_203_31 rfl (by omega) rfl ?_
  refine jT_iald (x := 1) (a := 1) (j := (7 * x1 + 6).toNat) (fs := []) (X := jS0) (by rfl) (by rfl) (by rfl) (jw_nn (by omega) (by omega)) (jS0_r6 (by omega) (by omega)) ?_
  refine jT_eq (LN := [(3, (0, 6)), (0, (4, 0)), (1, (4, 1)), (2, (0, 7 * x1))]) (stN := [(0, 1), (4, 0)]) (hsN := jpA_130) rfl rfl rfl ?_
  refine jT_xi2l (x := 1) (z := 1) (pcN := 34) jI_203_33 rfl (by decide +kernel) rfl ?_
  refine jT_adv 1 (pcN := 37) (LN := [(3, (0, 6)), (0, (4, 0)), (1, (4, 1)), (2, (0, 7 * x1))]) (stN := []) (hsN := jpA_130) (c1 := 0) (s1 := 0) (c2 := 0) (s2 := 0) (by exact rfl) ?_ (by omega) (by omega)
  exact jT_ret rfl (by decide) (by show 16 ≤ 16; decide) (by omega) (by omega) ⟨rfl, rfl, rfl⟩
theorem jA_202_115 {xs : List Int} {d : Nat} {x1 : Int} (h_x1 : 0 ≤ x1 ∧ x1 ≤ 7) : jT xs (d + 1) 202 16 0 [(0, (4, 0)), (1, (0, x1))] [] jpA_130 0 0 (fun k v hsN => k = 0 ∧ v = (9, 0) ∧ hsN = jpA_130 ++ []) := by
  refine jT_xaload_n (v := (4, 0)) (pcN := 1) jI_202_0 rfl rfl rfl ?_
  refine jT_xaload_n (v := (4, 0)) (pcN := 2) jI_202_1 rfl rfl rfl ?_
  refine jT_xgetf (a := 0) (t := 1) (ci := 14) (fi := 1) (c := jzA_21) (v := (4, 1)) (pcN := 5) jI_202_2 rfl rfl rfl rfl rfl rfl rfl ?_
  refine jT_xbipush (k := 7) (pcN := 7) jI_202_5 (by decide) rfl ?_
  refine jT_xiload_n (v := (0, x1)) (pcN := 8) jI_202_7 rfl rfl rfl ?_
  refine jT_ximul (x := 7) (y := x1) (z := 7 * x1) (pcN := 9) jI_202_8 rfl (rfl) rfl ?_
  refine jT_fR [0, 1, 2, 3, 4, 5, 6, 7, 8, 9, 10, 11, 12, 13, 14, 15] 16 (y := 203) (pcN := 12) (dC := 0) (bc1 := 0) (bc2 := 0) (c1 := 0) (c2 := 0) (as := [(4, 0), (4, 1), (0, 7 * x1)]) (asC := [(4, 0), (4, 1), (0, 7 * x1)]) (LN := [(0, (4, 0)), (1, (0, x1))]) (stN := []) (hsC := jpA_130) (v := (9, 0)) (st2 := []) (jA_203_114 (d := 0) (by omega)) (by rfl) (by rfl) (by decide +kernel) (by rfl) (by rfl) (by omega) (by omega) (by omega) (by omega) rfl ?_
  exact jT_ret rfl (by decide) (by show 16 ≤ 16; decide) (by omega) (by omega) ⟨rfl, rfl, rfl⟩
theorem jI_207_0 : jmI (jm 207) 0 = (.iconst 0, 1) := by rfl
theorem jI_207_1 : jmI (jm 207) 1 = (.istore_n 3, 1) := by rfl
theorem jI_207_2 : jmI (jm 207) 2 = (.iload_n 3, 1) := by rfl
theorem jI_207_3 : jmI (jm 207) 3 = (.bipush 6, 2) := by rfl
theorem jI_207_5 : jmI (jm 207) 5 = (.if_icmp .ge 20, 3) := by rfl
theorem jI_207_8 : jmI (jm 207) 8 = (.aload_n 0, 1) := by rfl
theorem jI_207_9 : jmI (jm 207) 9 = (.getfield 31, 3) := by rfl
theorem jI_207_12 : jmI (jm 207) 12 = (.iload_n 3, 1) := by rfl
theorem jI_207_14 : jmI (jm 207) 14 = (.laload, 1) := by rfl
theorem jI_207_15 : jmI (jm 207) 15 = (.iload_n 1, 1) := by rfl
theorem jI_207_16 : jmI (jm 207) 16 = (.i2l, 1) := by rfl
theorem jI_207_17 : jmI (jm 207) 17 = (.lmul, 1) := by rfl
theorem jI_207_19 : jmI (jm 207) 19 = (.iinc 3 1, 3) := by rfl
theorem jI_207_22 : jmI (jm 207) 22 = (.goto (-20), 3) := by rfl
theorem jI_207_25 : jmI (jm 207) 25 = (.aload_n 0, 1) := by rfl
theorem jI_207_27 : jmI (jm 207) 27 = (.getfield 35, 3) := by rfl
theorem jI_207_30 : jmI (jm 207) 30 = (.iload_n 2, 1) := by rfl
theorem jI_207_31 : jmI (jm 207) 31 = (.i2l, 1) := by rfl
theorem jI_207_32 : jmI (jm 207) 32 = (.lmul, 1) := by rfl
theorem jI_207_36 : jmI (jm 207) 36 = (.aload_n 0, 1) := by rfl
theorem jA_207_116 {xs : List Int} {d : Nat} {x2 : Int} (h_x2 : (-100) ≤ x2 ∧ x2 ≤ 100) : jT xs (d + 2) 207 16 0 [(0, (4, 0)), (1, (0, x2)), (2, (0, 1))] [] jpA_147 0 0 (fun k v hsN => k = 0 ∧ v = (9, 0) ∧ hsN = jpA_147 ++ []) := by
  refine jT_xiconst (k := 0) (pcN := 1) jI_207_0 rfl ?_
  refine jT_xistore_n (v := (0, 0)) (LN := [(3, (0, 0)), (0, (4, 0)), (1, (0, x2)), (2, (0, 1))]) (pcN := 2) jI_207_1 rfl rfl rfl rfl ?_
  refine jT_xiload_n (v := (0, 0)) (pcN := 3) jI_207_2 rfl rfl rfl ?_
  refine jT_xbipush (k := 6) (pcN := 5) jI_207_3 (by decide) rfl ?_
  refine jT_xicF (t := 25) (pcN := 8) jI_207_5 rfl (by decide +kernel) rfl rfl ?_
  refine jT_xaload_n (v := (4, 0)) (pcN := 9) jI_207_8 rfl rfl rfl ?_
  refine jT_xgetf (a := 0) (t := 1) (ci := 14) (fi := 9) (c := jzA_21) (v := (4, 7)) (pcN := 12) jI_207_9 rfl rfl rfl rfl rfl rfl rfl ?_
  refine jT_xiload_n (v := (0, 0)) (pcN := 13) jI_207_12 rfl rfl rfl ?_
  refine jT_adv 1 (pcN := 14) (LN := [(3, (0, 0)), (0, (4, 0)), (1, (0, x2)), (2, (0, 1))]) (stN := [(0, 0), (4, 7), (0, 0), (4, 7)]) (hsN := jpA_147) (c1 := 0) (s1 := 0) (c2 := 0) (s2 := 0) (by exact rfl) ?_ (by omega) (by omega)
  refine jT_lald (x := 0) (a := 7) (j := 0) (fs := []) (X := [0, 0, 0, 0, 0, 0]) jI_207_14 rfl rfl rfl rfl ?_
  refine jT_eq (LN := [(3, (0, 0)), (0, (4, 0)), (1, (0, x2)), (2, (0, 1))]) (stN := [(1, 0), (0, 0), (4, 7)]) (hsN := jpA_147) rfl rfl rfl ?_
  refine jT_xiload_n (v := (0, x2)) (pcN := 16) jI_207_15 rfl rfl rfl ?_
  refine jT_xi2l (x := x2) (z := x2) (pcN := 17) jI_207_16 rfl (jw_idd (by omega) (by omega)) rfl ?_
  refine jT_xlmul (x := 0) (y := x2) (z := 0) (pcN := 18) jI_207_17 rfl (by omega) rfl ?_
  refine jT_adv 1 (pcN := 19) (LN := [(3, (0, 0)), (0, (4, 0)), (1, (0, x2)), (2, (0, 1))]) (stN := []) (hsN := jpA_147) (c1 := 0) (s1 := 0) (c2 := 0) (s2 := 0) (by exact rfl) ?_ (by omega) (by omega)
  refine jT_xiinc (x := 0) (z := 1) (LN := [(3, (0, 1)), (0, (4, 0)), (1, (0, x2)), (2, (0, 1))]) (pcN := 22) jI_207_19 rfl rfl (by decide) rfl rfl ?_
  refine jT_xgoto (pcN := 2) jI_207_22 rfl ?_
  refine jT_xiload_n (v := (0, 1)) (pcN := 3) jI_207_2 rfl rfl rfl ?_
  refine jT_xbipush (k := 6) (pcN := 5) jI_207_3 (by decide) rfl ?_
  refine jT_xicF (t := 25) (pcN := 8) jI_207_5 rfl (by decide +kernel) rfl rfl ?_
  refine jT_xaload_n (v := (4, 0)) (pcN := 9) jI_207_8 rfl rfl rfl ?_
  refine jT_xgetf (a := 0) (t := 1) (ci := 14) (fi := 9) (c := jzA_21) (v := (4, 7)) (pcN := 12) jI_207_9 rfl rfl rfl rfl rfl rfl rfl ?_
  refine jT_xiload_n (v := (0, 1)) (pcN := 13) jI_207_12 rfl rfl rfl ?_
  refine jT_adv 1 (pcN := 14) (LN := [(3, (0, 1)), (0, (4, 0)), (1, (0, x2)), (2, (0, 1))]) (stN := [(0, 1), (4, 7), (0, 1), (4, 7)]) (hsN := jpA_147) (c1 := 0) (s1 := 0) (c2 := 0) (s2 := 0) (by exact rfl) ?_ (by omega) (by omega)
  refine jT_lald (x := 0) (a := 7) (j := 1) (fs := []) (X := [0, 0, 0, 0, 0, 0]) jI_207_14 rfl rfl rfl rfl ?_
  refine jT_eq (LN := [(3, (0, 1)), (0, (4, 0)), (1, (0, x2)), (2, (0, 1))]) (stN := [(1, 0), (0, 1), (4, 7)]) (hsN := jpA_147) rfl rfl rfl ?_
  refine jT_xiload_n (v := (0, x2)) (pcN := 16) jI_207_15 rfl rfl rfl ?_
  refine jT_xi2l (x := x2) (z := x2) (pcN := 17) jI_207_16 rfl (jw_idd (by omega) (by omega)) rfl ?_
  refine jT_xlmul (x := 0) (y := x2) (z := 0) (pcN := 18) jI_207_17 rfl (by omega) rfl ?_
  refine jT_adv 1 (pcN := 19) (LN := [(3, (0, 1)), (0, (4, 0)), (1, (0, x2)), (2, (0, 1))]) (stN := []) (hsN := jpA_147) (c1 := 0) (s1 := 0) (c2 := 0) (s2 := 0) (by exact rfl) ?_ (by omega) (by omega)
  refine jT_xiinc (x := 1) (z := 2) (LN := [(3, (0, 2)), (0, (4, 0)), (1, (0, x2)), (2, (0, 1))]) (pcN := 22) jI_207_19 rfl rfl (by decide) rfl rfl ?_
  refine jT_xgoto (pcN := 2) jI_207_22 rfl ?_
  refine jT_xiload_n (v := (0, 2)) (pcN := 3) jI_207_2 rfl rfl rfl ?_
  refine jT_xbipush (k := 6) (pcN := 5) jI_207_3 (by decide) rfl ?_
  refine jT_xicF (t := 25) (pcN := 8) jI_207_5 rfl (by decide +kernel) rfl rfl ?_
  refine jT_xaload_n (v := (4, 0)) (pcN := 9) jI_207_8 rfl rfl rfl ?_
  refine jT_xgetf (a := 0) (t := 1) (ci := 14) (fi := 9) (c := jzA_21) (v := (4, 7)) (pcN := 12) jI_207_9 rfl rfl rfl rfl rfl rfl rfl ?_
  refine jT_xiload_n (v := (0, 2)) (pcN := 13) jI_207_12 rfl rfl rfl ?_
  refine jT_adv 1 (pcN := 14) (LN := [(3, (0, 2)), (0, (4, 0)), (1, (0, x2)), (2, (0, 1))]) (stN := [(0, 2), (4, 7), (0, 2), (4, 7)]) (hsN := jpA_147) (c1 := 0) (s1 := 0) (c2 := 0) (s2 := 0) (by exact rfl) ?_ (by omega) (by omega)
  refine jT_lald (x := 0) (a := 7) (j := 2) (fs := []) (X := [0, 0, 0, 0, 0, 0]) jI_207_14 rfl rfl rfl rfl ?_
  refine jT_eq (LN := [(3, (0, 2)), (0, (4, 0)), (1, (0, x2)), (2, (0, 1))]) (stN := [(1, 0), (0, 2), (4, 7)]) (hsN := jpA_147) rfl rfl rfl ?_
  refine jT_xiload_n (v := (0, x2)) (pcN := 16) jI_207_15 rfl rfl rfl ?_
  refine jT_xi2l (x := x2) (z := x2) (pcN := 17) jI_207_16 rfl (jw_idd (by omega) (by omega)) rfl ?_
  refine jT_xlmul (x := 0) (y := x2) (z := 0) (pcN := 18) jI_207_17 rfl (by omega) rfl ?_
  refine jT_adv 1 (pcN := 19) (LN := [(3, (0, 2)), (0, (4, 0)), (1, (0, x2)), (2, (0, 1))]) (stN := []) (hsN := jpA_147) (c1 := 0) (s1 := 0) (c2 := 0) (s2 := 0) (by exact rfl) ?_ (by omega) (by omega)
  refine jT_xiinc (x := 2) (z := 3) (LN := [(3, (0, 3)), (0, (4, 0)), (1, (0, x2)), (2, (0, 1))]) (pcN := 22) jI_207_19 rfl rfl (by decide) rfl rfl ?_
  refine jT_xgoto (pcN := 2) jI_207_22 rfl ?_
  refine jT_xiload_n (v := (0, 3)) (pcN := 3) jI_207_2 rfl rfl rfl ?_
  refine jT_xbipush (k := 6) (pcN := 5) jI_207_3 (by decide) rfl ?_
  refine jT_xicF (t := 25) (pcN := 8) jI_207_5 rfl (by decide +kernel) rfl rfl ?_
  refine jT_xaload_n (v := (4, 0)) (pcN := 9) jI_207_8 rfl rfl rfl ?_
  refine jT_xgetf (a := 0) (t := 1) (ci := 14) (fi := 9) (c := jzA_21) (v := (4, 7)) (pcN := 12) jI_207_9 rfl rfl rfl rfl rfl rfl rfl ?_
  refine jT_xiload_n (v := (0, 3)) (pcN := 13) jI_207_12 rfl rfl rfl ?_
  refine jT_adv 1 (pcN := 14) (LN := [(3, (0, 3)), (0, (4, 0)), (1, (0, x2)), (2, (0, 1))]) (stN := [(0, 3), (4, 7), (0, 3), (4, 7)]) (hsN := jpA_147) (c1 := 0) (s1 := 0) (c2 := 0) (s2 := 0) (by exact rfl) ?_ (by omega) (by omega)
  refine jT_lald (x := 0) (a := 7) (j := 3) (fs := []) (X := [0, 0, 0, 0, 0, 0]) jI_207_14 rfl rfl rfl rfl ?_
  refine jT_eq (LN := [(3, (0, 3)), (0, (4, 0)), (1, (0, x2)), (2, (0, 1))]) (stN := [(1, 0), (0, 3), (4, 7)]) (hsN := jpA_147) rfl rfl rfl ?_
  refine jT_xiload_n (v := (0, x2)) (pcN := 16) jI_207_15 rfl rfl rfl ?_
  refine jT_xi2l (x := x2) (z := x2) (pcN := 17) jI_207_16 rfl (jw_idd (by omega) (by omega)) rfl ?_
  refine jT_xlmul (x := 0) (y := x2) (z := 0) (pcN := 18) jI_207_17 rfl (by omega) rfl ?_
  refine jT_adv 1 (pcN := 19) (LN := [(3, (0, 3)), (0, (4, 0)), (1, (0, x2)), (2, (0, 1))]) (stN := []) (hsN := jpA_147) (c1 := 0) (s1 := 0) (c2 := 0) (s2 := 0) (by exact rfl) ?_ (by omega) (by omega)
  refine jT_xiinc (x := 3) (z := 4) (LN := [(3, (0, 4)), (0, (4, 0)), (1, (0, x2)), (2, (0, 1))]) (pcN := 22) jI_207_19 rfl rfl (by decide) rfl rfl ?_
  refine jT_xgoto (pcN := 2) jI_207_22 rfl ?_
  refine jT_xiload_n (v := (0, 4)) (pcN := 3) jI_207_2 rfl rfl rfl ?_
  refine jT_xbipush (k := 6) (pcN := 5) jI_207_3 (by decide) rfl ?_
  refine jT_xicF (t := 25) (pcN := 8) jI_207_5 rfl (by decide +kernel) rfl rfl ?_
  refine jT_xaload_n (v := (4, 0)) (pcN := 9) jI_207_8 rfl rfl rfl ?_
  refine jT_xgetf (a := 0) (t := 1) (ci := 14) (fi := 9) (c := jzA_21) (v := (4, 7)) (pcN := 12) jI_207_9 rfl rfl rfl rfl rfl rfl rfl ?_
  refine jT_xiload_n (v := (0, 4)) (pcN := 13) jI_207_12 rfl rfl rfl ?_
  refine jT_adv 1 (pcN := 14) (LN := [(3, (0, 4)), (0, (4, 0)), (1, (0, x2)), (2, (0, 1))]) (stN := [(0, 4), (4, 7), (0, 4), (4, 7)]) (hsN := jpA_147) (c1 := 0) (s1 := 0) (c2 := 0) (s2 := 0) (by exact rfl) ?_ (by omega) (by omega)
  refine jT_lald (x := 0) (a := 7) (j := 4) (fs := []) (X := [0, 0, 0, 0, 0, 0]) jI_207_14 rfl rfl rfl rfl ?_
  refine jT_eq (LN := [(3, (0, 4)), (0, (4, 0)), (1, (0, x2)), (2, (0, 1))]) (stN := [(1, 0), (0, 4), (4, 7)]) (hsN := jpA_147) rfl rfl rfl ?_
  refine jT_xiload_n (v := (0, x2)) (pcN := 16) jI_207_15 rfl rfl rfl ?_
  refine jT_xi2l (x := x2) (z := x2) (pcN := 17) jI_207_16 rfl (jw_idd (by omega) (by omega)) rfl ?_
  refine jT_xlmul (x := 0) (y := x2) (z := 0) (pcN := 18) jI_207_17 rfl (by omega) rfl ?_
  refine jT_adv 1 (pcN := 19) (LN := [(3, (0, 4)), (0, (4, 0)), (1, (0, x2)), (2, (0, 1))]) (stN := []) (hsN := jpA_147) (c1 := 0) (s1 := 0) (c2 := 0) (s2 := 0) (by exact rfl) ?_ (by omega) (by omega)
  refine jT_xiinc (x := 4) (z := 5) (LN := [(3, (0, 5)), (0, (4, 0)), (1, (0, x2)), (2, (0, 1))]) (pcN := 22) jI_207_19 rfl rfl (by decide) rfl rfl ?_
  refine jT_xgoto (pcN := 2) jI_207_22 rfl ?_
  refine jT_xiload_n (v := (0, 5)) (pcN := 3) jI_207_2 rfl rfl rfl ?_
  refine jT_xbipush (k := 6) (pcN := 5) jI_207_3 (by decide) rfl ?_
  refine jT_xicF (t := 25) (pcN := 8) jI_207_5 rfl (by decide +kernel) rfl rfl ?_
  refine jT_xaload_n (v := (4, 0)) (pcN := 9) jI_207_8 rfl rfl rfl ?_
  refine jT_xgetf (a := 0) (t := 1) (ci := 14) (fi := 9) (c := jzA_21) (v := (4, 7)) (pcN := 12) jI_207_9 rfl rfl rfl rfl rfl rfl rfl ?_
  refine jT_xiload_n (v := (0, 5)) (pcN := 13) jI_207_12 rfl rfl rfl ?_
  refine jT_adv 1 (pcN := 14) (LN := [(3, (0, 5)), (0, (4, 0)), (1, (0, x2)), (2, (0, 1))]) (stN := [(0, 5), (4, 7), (0, 5), (4, 7)]) (hsN := jpA_147) (c1 := 0) (s1 := 0) (c2 := 0) (s2 := 0) (by exact rfl) ?_ (by omega) (by omega)
  refine jT_lald (x := 0) (a := 7) (j := 5) (fs := []) (X := [0, 0, 0, 0, 0, 0]) jI_207_14 rfl rfl rfl rfl ?_
  refine jT_eq (LN := [(3, (0, 5)), (0, (4, 0)), (1, (0, x2)), (2, (0, 1))]) (stN := [(1, 0), (0, 5), (4, 7)]) (hsN := jpA_147) rfl rfl rfl ?_
  refine jT_xiload_n (v := (0, x2)) (pcN := 16) jI_207_15 rfl rfl rfl ?_
  refine jT_xi2l (x := x2) (z := x2) (pcN := 17) jI_207_16 rfl (jw_idd (by omega) (by omega)) rfl ?_
  refine jT_xlmul (x := 0) (y := x2) (z := 0) (pcN := 18) jI_207_17 rfl (by omega) rfl ?_
  refine jT_adv 1 (pcN := 19) (LN := [(3, (0, 5)), (0, (4, 0)), (1, (0, x2)), (2, (0, 1))]) (stN := []) (hsN := jpA_147) (c1 := 0) (s1 := 0) (c2 := 0) (s2 := 0) (by exact rfl) ?_ (by omega) (by omega)
  refine jT_xiinc (x := 5) (z := 6) (LN := [(3, (0, 6)), (0, (4, 0)), (1, (0, x2)), (2, (0, 1))]) (pcN := 22) jI_207_19 rfl rfl (by decide) rfl rfl ?_
  refine jT_xgoto (pcN := 2) jI_207_22 rfl ?_
  refine jT_xiload_n (v := (0, 6)) (pcN := 3) jI_207_2 rfl rfl rfl ?_
  refine jT_xbipush (k := 6) (pcN := 5) jI_207_3 (by decide) rfl ?_
  refine jT_xicT (pcN := 25) jI_207_5 rfl (by decide +kernel) rfl ?_
  refine jT_xaload_n (v := (4, 0)) (pcN := 26) jI_207_25 rfl rfl rfl ?_
  refine jT_adv 1 (pcN := 27) (LN := [(3, (0, 6)), (0, (4, 0)), (1, (0, x2)), (2, (0, 1))]) (stN := [(4, 0), (4, 0)]) (hsN := jpA_147) (c1 := 0) (s1 := 0) (c2 := 0) (s2 := 0) (by exact rfl) ?_ (by omega) (by omega)
  refine jT_xgetf (a := 0) (t := 1) (ci := 14) (fi := 10) (c := jzA_21) (v := (1, 1)) (pcN := 30) jI_207_27 rfl rfl rfl rfl rfl rfl rfl ?_
  refine jT_xiload_n (v := (0, 1)) (pcN := 31) jI_207_30 rfl rfl rfl ?_
  refine jT_xi2l (x := 1) (z := 1) (pcN := 32) jI_207_31 rfl (by decide +kernel) rfl ?_
  refine jT_xlmul (x := 1) (y := 1) (z := 1) (pcN := 33) jI_207_32 rfl (by decide) rfl ?_
  refine jT_adv 1 (pcN := 36) (LN := [(3, (0, 6)), (0, (4, 0)), (1, (0, x2)), (2, (0, 1))]) (stN := []) (hsN := jpA_147) (c1 := 0) (s1 := 0) (c2 := 0) (s2 := 0) (by exact rfl) ?_ (by omega) (by omega)
  refine jT_xaload_n (v := (4, 0)) (pcN := 37) jI_207_36 rfl rfl rfl ?_
  refine jT_fR [0, 1, 2, 3, 4, 5, 6, 7, 8, 9, 10, 11, 12, 13, 14, 15] 16 (y := 199) (pcN := 40) (dC := 1) (bc1 := 0) (bc2 := 0) (c1 := 0) (c2 := 0) (as := [(4, 0)]) (asC := [(4, 0)]) (LN := [(3, (0, 6)), (0, (4, 0)), (1, (0, x2)), (2, (0, 1))]) (stN := []) (hsC := jpA_147) (v := (9, 0)) (st2 := []) (jA_199_45 (d := 0)) (by rfl) (by rfl) (by decide +kernel) (by rfl) (by rfl) (by omega) (by omega) (by omega) (by omega) rfl ?_
  exact jT_ret rfl (by decide) (by show 16 ≤ 16; decide) (by omega) (by omega) ⟨rfl, rfl, rfl⟩
theorem jA_191_117 {xs : List Int} {d : Nat} : jT xs d 191 1 0 [(0, (4, 0)), (1, (0, 1)), (2, (0, 3))] [] [jgh] 0 0 (fun k v hsN => k = 0 ∧ v = (0, 0) ∧ hsN = [jgh] ++ []) := by
  refine jT_advK 5 (pcN := 18) (LN := [(0, (4, 0)), (1, (0, 1)), (2, (0, 3))]) (stN := [(0, 0)]) (hsN := [jgh]) (c1 := 0) (s1 := 0) (c2 := 0) (s2 := 0) (by decide +kernel) ?_ (by omega) (by omega)
  exact jT_ret rfl (by decide) (by show 1 ≤ 1; decide) (by omega) (by omega) ⟨rfl, rfl, rfl⟩
theorem jI_206_38 : jmI (jm 206) 38 = (.iconst 1, 1) := by rfl
theorem jI_206_39 : jmI (jm 206) 39 = (.goto 4, 3) := by rfl
theorem jI_206_52 : jmI (jm 206) 52 = (.aload_n 0, 1) := by rfl
theorem jI_206_53 : jmI (jm 206) 53 = (.iload_n 1, 1) := by rfl
theorem jI_206_57 : jmI (jm 206) 57 = (.aload_n 0, 1) := by rfl
theorem jI_206_58 : jmI (jm 206) 58 = (.iload_n 2, 1) := by rfl
theorem jI_206_59 : jmI (jm 206) 59 = (.iload_n 3, 1) := by rfl
theorem jI_206_63 : jmI (jm 206) 63 = (.aload_n 0, 1) := by rfl
theorem jI_206_64 : jmI (jm 206) 64 = (.aload_n 0, 1) := by rfl
theorem jI_206_68 : jmI (jm 206) 68 = (.iconst 3, 1) := by rfl
theorem jI_206_72 : jmI (jm 206) 72 = (.ifCond .eq 5, 3) := by rfl
theorem jI_206_77 : jmI (jm 206) 77 = (.aload_n 0, 1) := by rfl
theorem jI_206_81 : jmI (jm 206) 81 = (.aload_n 0, 1) := by rfl
theorem jI_206_82 : jmI (jm 206) 82 = (.iload_n 1, 1) := by rfl
theorem jA_206_118 {xs : List Int} {d : Nat} {x1 x2 : Int} (h_x1 : 0 ≤ x1 ∧ x1 ≤ 7) (h_x2 : (-100) ≤ x2 ∧ x2 ≤ 100) : jT xs (d + 3) 206 24 0 [(0, (4, 0)), (1, (0, x1)), (2, (0, x2)), (3, (0, 1))] [] jpA_248 0 0 (fun k v hsN => k = 0 ∧ v = (0, 1) ∧ hsN = [jzA_200, (100, [], ((((((((((((((jS0).set ((7 * x1).toNat) 0)).set ((7 * x1 + 1).toNat) 0)).set ((7 * x1 + 2).toNat) 0)).set ((7 * x1 + 3).toNat) 0)).set ((7 * x1 + 4).toNat) 0)).set ((7 * x1 + 5).toNat) 0)).set ((7 * x1 + 6).toNat) 1)), (100, [], []), jzA_196, jzA_201, jgh, jgh, (101, [], [0, 0, 0, 0, 0, 0]), jgh, jgh, jgh, jgh, jgh, jgh, jgh, jgh, (100, [], jS0), jgh, jgh, jgh, jgh, jgh, jgh, jgh]) := by
  refine jT_xaload_n (v := (4, 0)) (pcN := 1) jI_206_0 rfl rfl rfl ?_
  refine jT_xiload_n (v := (0, x1)) (pcN := 2) jI_206_1 rfl rfl rfl ?_
  refine jT_fR [] 24 (y := 188) (pcN := 5) (dC := 1) (bc1 := 0) (bc2 := 0) (c1 := 0) (c2 := 0) (as := [(0, x1)]) (asC := [(0, x1)]) (LN := [(0, (4, 0)), (1, (0, x1)), (2, (0, x2)), (3, (0, 1))]) (stN := [(4, 0)]) (hsC := []) (v := (0, 1)) (st2 := [(0, 1), (4, 0)]) (jA_188_13 (d := 0) (by omega)) (by rfl) (by rfl) (by decide +kernel) (by rfl) (by rfl) (by omega) (by omega) (by omega) (by omega) rfl ?_
  refine jT_fR [0, 1, 2, 3, 4, 5, 6, 7, 8, 9, 10, 11, 12, 13, 14, 15] 24 (y := 190) (pcN := 8) (dC := 1) (bc1 := 0) (bc2 := 0) (c1 := 0) (c2 := 0) (as := [(4, 0), (0, 1)]) (asC := [(4, 0), (0, 1)]) (LN := [(0, (4, 0)), (1, (0, x1)), (2, (0, x2)), (3, (0, 1))]) (stN := []) (hsC := jpA_22) (v := (0, 0)) (st2 := [(0, 0)]) (jA_190_39 (d := 0)) (by rfl) (by rfl) (by decide +kernel) (by rfl) (by rfl) (by omega) (by omega) (by omega) (by omega) rfl ?_
  refine jT_xifF (t := 50) (pcN := 11) jI_206_8 rfl (by decide +kernel) rfl rfl ?_
  refine jT_xaload_n (v := (4, 0)) (pcN := 12) jI_206_11 rfl rfl rfl ?_
  refine jT_xiload_n (v := (0, x2)) (pcN := 13) jI_206_12 rfl rfl rfl ?_
  refine jT_xi2l (x := x2) (z := x2) (pcN := 14) jI_206_13 rfl (jw_idd (by omega) (by omega)) rfl ?_
  refine jT_adv 2 (pcN := 20) (LN := [(0, (4, 0)), (1, (0, x1)), (2, (0, x2)), (3, (0, 1))]) (stN := [(1, 100), (1, (-100)), (1, x2), (4, 0)]) (hsN := jpA_248) (c1 := 0) (s1 := 0) (c2 := 0) (s2 := 0) (by exact rfl) ?_ (by omega) (by omega)
  refine jT_fR [] 24 (y := 189) (pcN := 23) (dC := 0) (bc1 := 0) (bc2 := 0) (c1 := 0) (c2 := 0) (as := [(1, x2), (1, (-100)), (1, 100)]) (asC := [(1, x2), (1, (-100)), (1, 100)]) (LN := [(0, (4, 0)), (1, (0, x1)), (2, (0, x2)), (3, (0, 1))]) (stN := [(4, 0)]) (hsC := []) (v := (0, 1)) (st2 := [(0, 1), (4, 0)]) (jT_in_ok (d := 0) (v := x2) (lo := (-100)) (hi := 100) (by omega) (by omega) (by omega) (by omega) (by omega)) (by rfl) (by rfl) (by decide +kernel) (by rfl) (by rfl) (by omega) (by omega) (by omega) (by omega) rfl ?_
  refine jT_xifF (t := 42) (pcN := 26) jI_206_23 rfl (by decide +kernel) rfl rfl ?_
  refine jT_xiload_n (v := (0, 1)) (pcN := 27) jI_206_26 rfl rfl rfl ?_
  refine jT_xi2l (x := 1) (z := 1) (pcN := 28) jI_206_27 rfl (by decide +kernel) rfl ?_
  refine jT_xlconst (z := 1) (pcN := 29) jI_206_28 rfl rfl ?_
  refine jT_adv 1 (pcN := 32) (LN := [(0, (4, 0)), (1, (0, x1)), (2, (0, x2)), (3, (0, 1))]) (stN := [(1, 24), (1, 1), (1, 1), (4, 0)]) (hsN := jpA_248) (c1 := 0) (s1 := 0) (c2 := 0) (s2 := 0) (by exact rfl) ?_ (by omega) (by omega)
  refine jT_fR [] 24 (y := 189) (pcN := 35) (dC := 0) (bc1 := 0) (bc2 := 0) (c1 := 0) (c2 := 0) (as := [(1, 1), (1, 1), (1, 24)]) (asC := [(1, 1), (1, 1), (1, 24)]) (LN := [(0, (4, 0)), (1, (0, x1)), (2, (0, x2)), (3, (0, 1))]) (stN := [(4, 0)]) (hsC := []) (v := (0, 1)) (st2 := [(0, 1), (4, 0)]) (jA_189_113 (d := 0)) (by rfl) (by rfl) (by decide +kernel) (by rfl) (by rfl) (by omega) (by omega) (by omega) (by omega) rfl ?_
  refine jT_xifF (t := 42) (pcN := 38) jI_206_35 rfl (by decide +kernel) rfl rfl ?_
  refine jT_xiconst (k := 1) (pcN := 39) jI_206_38 rfl ?_
  refine jT_xgoto (pcN := 43) jI_206_39 rfl ?_
  refine jT_xiconst (k := 2) (pcN := 44) jI_206_43 rfl ?_
  refine jT_fR [0] 24 (y := 191) (pcN := 47) (dC := 0) (bc1 := 0) (bc2 := 0) (c1 := 0) (c2 := 0) (as := [(4, 0), (0, 1), (0, 2)]) (asC := [(4, 0), (0, 1), (0, 2)]) (LN := [(0, (4, 0)), (1, (0, x1)), (2, (0, x2)), (3, (0, 1))]) (stN := []) (hsC := [jgh]) (v := (0, 0)) (st2 := [(0, 0)]) (jA_191_49 (d := 0)) (by rfl) (by rfl) (by decide +kernel) (by rfl) (by rfl) (by omega) (by omega) (by omega) (by omega) rfl ?_
  refine jT_xifT (pcN := 52) jI_206_47 rfl (by decide +kernel) rfl ?_
  refine jT_xaload_n (v := (4, 0)) (pcN := 53) jI_206_52 rfl rfl rfl ?_
  refine jT_xiload_n (v := (0, x1)) (pcN := 54) jI_206_53 rfl rfl rfl ?_
  refine jT_fR [0, 1, 2, 3, 4, 5, 6, 7, 8, 9, 10, 11, 12, 13, 14, 15] 24 (y := 202) (pcN := 57) (dC := 1) (bc1 := 0) (bc2 := 0) (c1 := 0) (c2 := 0) (as := [(4, 0), (0, x1)]) (asC := [(4, 0), (0, x1)]) (LN := [(0, (4, 0)), (1, (0, x1)), (2, (0, x2)), (3, (0, 1))]) (stN := []) (hsC := jpA_130) (v := (9, 0)) (st2 := []) (jA_202_115 (d := 0) (by omega)) (by rfl) (by rfl) (by decide +kernel) (by rfl) (by rfl) (by omega) (by omega) (by omega) (by omega) rfl ?_
  refine jT_xaload_n (v := (4, 0)) (pcN := 58) jI_206_57 rfl rfl rfl ?_
  refine jT_xiload_n (v := (0, x2)) (pcN := 59) jI_206_58 rfl rfl rfl ?_
  refine jT_xiload_n (v := (0, 1)) (pcN := 60) jI_206_59 rfl rfl rfl ?_
  refine jT_fR [0, 1, 2, 3, 4, 5, 6, 7, 8, 9, 10, 11, 12, 13, 14, 15] 24 (y := 207) (pcN := 63) (dC := 2) (bc1 := 0) (bc2 := 0) (c1 := 0) (c2 := 0) (as := [(4, 0), (0, x2), (0, 1)]) (asC := [(4, 0), (0, x2), (0, 1)]) (LN := [(0, (4, 0)), (1, (0, x1)), (2, (0, x2)), (3, (0, 1))]) (stN := []) (hsC := jpA_147) (v := (9, 0)) (st2 := []) (jA_207_116 (d := 0) (by omega)) (by rfl) (by rfl) (by decide +kernel) (by rfl) (by rfl) (by omega) (by omega) (by omega) (by omega) rfl ?_
  refine jT_xaload_n (v := (4, 0)) (pcN := 64) jI_206_63 rfl rfl rfl ?_
  refine jT_xaload_n (v := (4, 0)) (pcN := 65) jI_206_64 rfl rfl rfl ?_
  refine jT_fR [0, 1, 2, 3, 4, 5, 6, 7, 8, 9, 10, 11, 12, 13, 14, 15] 24 (y := 205) (pcN := 68) (dC := 1) (bc1 := 0) (bc2 := 0) (c1 := 0) (c2 := 0) (as := [(4, 0)]) (asC := [(4, 0)]) (LN := [(0, (4, 0)), (1, (0, x1)), (2, (0, x2)), (3, (0, 1))]) (stN := [(4, 0)]) (hsC := jpA_147) (v := (0, 1)) (st2 := [(0, 1), (4, 0)]) (jA_205_48 (d := 0)) (by rfl) (by rfl) (by decide +kernel) (by rfl) (by rfl) (by omega) (by omega) (by omega) (by omega) rfl ?_
  refine jT_xiconst (k := 3) (pcN := 69) jI_206_68 rfl ?_
  refine jT_fR [0] 24 (y := 191) (pcN := 72) (dC := 0) (bc1 := 0) (bc2 := 0) (c1 := 0) (c2 := 0) (as := [(4, 0), (0, 1), (0, 3)]) (asC := [(4, 0), (0, 1), (0, 3)]) (LN := [(0, (4, 0)), (1, (0, x1)), (2, (0, x2)), (3, (0, 1))]) (stN := []) (hsC := [jgh]) (v := (0, 0)) (st2 := [(0, 0)]) (jA_191_117 (d := 0)) (by rfl) (by rfl) (by decide +kernel) (by rfl) (by rfl) (by omega) (by omega) (by omega) (by omega) rfl ?_
  refine jT_xifT (pcN := 77) jI_206_72 rfl (by decide +kernel) rfl ?_
  refine jT_xaload_n (v := (4, 0)) (pcN := 78) jI_206_77 rfl rfl rfl ?_
  refine jT_fB [0, 1, 2, 3, 4, 5, 6, 7, 8, 9, 10, 11, 12, 13, 14, 15, 16, 17, 18, 19, 20, 21, 22, 23] 24 (y := 195) (pcN := 81) (dC := 0) (bc1 := 0) (bc2 := 0) (c1 := 0) (c2 := 0) (as := [(4, 0)]) (asC := [(4, 0)]) (LN := [(0, (4, 0)), (1, (0, x1)), (2, (0, x2)), (3, (0, 1))]) (stN := []) (hsC := jpA_198) (hsD := jpA_202) (v := (9, 0)) (st2 := []) (hs2 := jpA_255) (jA_195_50 (d := 0)) (by rfl) (by rfl) (by decide +kernel) (by rfl) (by rfl) (by omega) (by omega) (by omega) (by omega) rfl (by decide +kernel) ?_
  refine jT_xaload_n (v := (4, 0)) (pcN := 82) jI_206_81 rfl rfl rfl ?_
  refine jT_xiload_n (v := (0, x1)) (pcN := 83) jI_206_82 rfl rfl rfl ?_
  refine jT_fB [0, 1, 2, 3, 4, 5, 6, 7, 8, 9, 10, 11, 12, 13, 14, 15] 24 (y := 196) (pcN := 86) (dC := 1) (bc1 := 0) (bc2 := 0) (c1 := 0) (c2 := 0) (as := [(4, 0), (0, x1)]) (asC := [(4, 0), (0, x1)]) (LN := [(0, (4, 0)), (1, (0, x1)), (2, (0, x2)), (3, (0, 1))]) (stN := []) (hsC := jpA_216) (hsD := [jzA_200, (100, [], ((((((((((((((jS0).set ((7 * x1).toNat) 0)).set ((7 * x1 + 1).toNat) 0)).set ((7 * x1 + 2).toNat) 0)).set ((7 * x1 + 3).toNat) 0)).set ((7 * x1 + 4).toNat) 0)).set ((7 * x1 + 5).toNat) 0)).set ((7 * x1 + 6).toNat) 1)), jgh, jgh, jgh, jgh, jgh, (101, [], [0, 0, 0, 0, 0, 0]), jgh, jgh, jgh, jgh, jgh, jgh, jgh, jgh]) (v := (0, 1)) (st2 := [(0, 1)]) (hs2 := [jzA_200, (100, [], ((((((((((((((jS0).set ((7 * x1).toNat) 0)).set ((7 * x1 + 1).toNat) 0)).set ((7 * x1 + 2).toNat) 0)).set ((7 * x1 + 3).toNat) 0)).set ((7 * x1 + 4).toNat) 0)).set ((7 * x1 + 5).toNat) 0)).set ((7 * x1 + 6).toNat) 1)), (100, [], []), jzA_196, jzA_201, jgh, jgh, (101, [], [0, 0, 0, 0, 0, 0]), jgh, jgh, jgh, jgh, jgh, jgh, jgh, jgh, (100, [], jS0), jgh, jgh, jgh, jgh, jgh, jgh, jgh]) (jA_196_52 (d := 0) (by omega)) (by rfl) (by rfl) (by decide +kernel) (by rfl) (by rfl) (by omega) (by omega) (by omega) (by omega) rfl rfl ?_
  exact jT_ret rfl (by decide) (by show 24 ≤ 24; decide) (by omega) (by omega) ⟨rfl, rfl, rfl⟩
theorem jA_116_119 {xs : List Int} {d : Nat} {x3 : Int} (h_x3 : 2 ≤ x3 ∧ x3 ≤ 24) : jT xs d 116 1 0 [(0, (4, 0)), (1, (0, x3)), (2, (0, 1)), (3, (0, 24))] [] [jgh] 0 0 (fun k v hsN => k = 0 ∧ v = (9, 0) ∧ hsN = [jgh] ++ []) := by
  refine jT_xiload_n (v := (0, x3)) (pcN := 1) jI_116_0 rfl rfl rfl ?_
  refine jT_xiload_n (v := (0, 1)) (pcN := 2) jI_116_1 rfl rfl rfl ?_
  refine jT_icF (a := x3) (b := 1) (t := 10) (by rfl) (by rfl) (by rfl) (jw_idd (by omega) (by omega)) (jw_idd (by omega) (by omega)) (by simp only [jcP] <;> omega) ?_
  refine jT_xiload_n (v := (0, x3)) (pcN := 6) jI_116_5 rfl rfl rfl ?_
  refine jT_xiload_n (v := (0, 24)) (pcN := 7) jI_116_6 rfl rfl rfl ?_
  refine jT_icT (a := x3) (b := 24) (t := 21) (by rfl) (by rfl) (by rfl) (jw_idd (by omega) (by omega)) (jw_idd (by omega) (by omega)) (by simp only [jcP] <;> omega) ?_
  exact jT_ret rfl (by decide) (by show 1 ≤ 1; decide) (by omega) (by omega) ⟨rfl, rfl, rfl⟩
theorem jI_98_0 : jmI (jm 98) 0 = (.lload_n 0, 1) := by rfl
theorem jI_98_1 : jmI (jm 98) 1 = (.lconst 0, 1) := by rfl
theorem jI_98_3 : jmI (jm 98) 3 = (.ifCond .ge 8, 3) := by rfl
theorem jI_98_11 : jmI (jm 98) 11 = (.lload_n 0, 1) := by rfl
theorem jI_98_12 : jmI (jm 98) 12 = (.lstore 4, 2) := by rfl
theorem jI_98_14 : jmI (jm 98) 14 = (.lload_n 2, 1) := by rfl
theorem jI_98_15 : jmI (jm 98) 15 = (.lconst 0, 1) := by rfl
theorem jI_98_17 : jmI (jm 98) 17 = (.ifCond .ge 8, 3) := by rfl
theorem jI_98_25 : jmI (jm 98) 25 = (.lload_n 2, 1) := by rfl
theorem jI_98_26 : jmI (jm 98) 26 = (.lstore 6, 2) := by rfl
theorem jI_98_28 : jmI (jm 98) 28 = (.iconst 0, 1) := by rfl
theorem jI_98_29 : jmI (jm 98) 29 = (.istore 8, 2) := by rfl
theorem jI_98_31 : jmI (jm 98) 31 = (.iload 8, 2) := by rfl
theorem jI_98_33 : jmI (jm 98) 33 = (.sipush 200, 3) := by rfl
theorem jI_98_36 : jmI (jm 98) 36 = (.if_icmp .ge 31, 3) := by rfl
theorem jI_98_39 : jmI (jm 98) 39 = (.lload 6, 2) := by rfl
theorem jI_98_41 : jmI (jm 98) 41 = (.lconst 0, 1) := by rfl
theorem jI_98_43 : jmI (jm 98) 43 = (.ifCond .eq 24, 3) := by rfl
theorem jI_98_67 : jmI (jm 98) 67 = (.lload 4, 2) := by rfl
theorem jA_98_120 {xs : List Int} {d : Nat} {x3 : Int} (h_x3 : 2 ≤ x3 ∧ x3 ≤ 24) : jT xs d 98 0 0 [(0, (1, x3)), (2, (1, 0))] [] [] 0 0 (fun k v hsN => k = 0 ∧ v = (1, x3) ∧ hsN = [] ++ []) := by
  refine jT_xlload_n (v := (1, x3)) (pcN := 1) jI_98_0 rfl rfl rfl ?_
  refine jT_xlconst (z := 0) (pcN := 2) jI_98_1 rfl rfl ?_
  refine jT_lcmp (a := x3) (b := 0) (z := 1) (by rfl) (by rfl) (jwl_idd (by omega) (by omega)) (jwl_idd (by omega) (by omega)) (by rw [decide_eq_true (show (0 : Int) < x3 by omega)]; rfl) ?_
  refine jT_xifT (pcN := 11) jI_98_3 rfl (by decide +kernel) rfl ?_
  refine jT_xlload_n (v := (1, x3)) (pcN := 12) jI_98_11 rfl rfl rfl ?_
  refine jT_xlstore (v := (1, x3)) (LN := [(4, (1, x3)), (0, (1, x3)), (2, (1, 0))]) (pcN := 14) jI_98_12 rfl rfl rfl rfl ?_
  refine jT_xlload_n (v := (1, 0)) (pcN := 15) jI_98_14 rfl rfl rfl ?_
  refine jT_xlconst (z := 0) (pcN := 16) jI_98_15 rfl rfl ?_
  refine jT_lcmp (a := 0) (b := 0) (z := 0) (by rfl) (by rfl) (by decide +kernel) (by decide +kernel) (by decide) ?_
  refine jT_xifT (pcN := 25) jI_98_17 rfl (by decide +kernel) rfl ?_
  refine jT_xlload_n (v := (1, 0)) (pcN := 26) jI_98_25 rfl rfl rfl ?_
  refine jT_xlstore (v := (1, 0)) (LN := [(6, (1, 0)), (4, (1, x3)), (0, (1, x3)), (2, (1, 0))]) (pcN := 28) jI_98_26 rfl rfl rfl rfl ?_
  refine jT_xiconst (k := 0) (pcN := 29) jI_98_28 rfl ?_
  refine jT_xistore (v := (0, 0)) (LN := [(8, (0, 0)), (6, (1, 0)), (4, (1, x3)), (0, (1, x3)), (2, (1, 0))]) (pcN := 31) jI_98_29 rfl rfl rfl rfl ?_
  refine jT_xiload (v := (0, 0)) (pcN := 33) jI_98_31 rfl rfl rfl ?_
  refine jT_xsipush (k := 200) (pcN := 36) jI_98_33 (by decide) rfl ?_
  refine jT_xicF (t := 67) (pcN := 39) jI_98_36 rfl (by decide +kernel) rfl rfl ?_
  refine jT_xlload (v := (1, 0)) (pcN := 41) jI_98_39 rfl rfl rfl ?_
  refine jT_xlconst (z := 0) (pcN := 42) jI_98_41 rfl rfl ?_
  refine jT_lcmp (a := 0) (b := 0) (z := 0) (by rfl) (by rfl) (by decide +kernel) (by decide +kernel) (by decide) ?_
  refine jT_xifT (pcN := 67) jI_98_43 rfl (by decide +kernel) rfl ?_
  refine jT_xlload (v := (1, x3)) (pcN := 69) jI_98_67 rfl rfl rfl ?_
  exact jT_ret rfl (by decide) (by show 0 ≤ 0; decide) (by omega) (by omega) ⟨rfl, rfl, rfl⟩
theorem jI_97_0 : jmI (jm 97) 0 = (.lload_n 1, 1) := by rfl
theorem jI_97_1 : jmI (jm 97) 1 = (.lconst 1, 1) := by rfl
theorem jI_97_3 : jmI (jm 97) 3 = (.ifCond .ge 7, 3) := by rfl
theorem jI_97_10 : jmI (jm 97) 10 = (.lload_n 1, 1) := by rfl
theorem jI_97_11 : jmI (jm 97) 11 = (.lstore_n 3, 1) := by rfl
theorem jI_97_12 : jmI (jm 97) 12 = (.iconst 0, 1) := by rfl
theorem jI_97_13 : jmI (jm 97) 13 = (.istore 5, 2) := by rfl
theorem jI_97_15 : jmI (jm 97) 15 = (.iload 5, 2) := by rfl
theorem jI_97_17 : jmI (jm 97) 17 = (.aload_n 0, 1) := by rfl
theorem jI_97_19 : jmI (jm 97) 19 = (.if_icmp .ge 24, 3) := by rfl
theorem jI_97_22 : jmI (jm 97) 22 = (.lload_n 3, 1) := by rfl
theorem jI_97_23 : jmI (jm 97) 23 = (.lconst 1, 1) := by rfl
theorem jI_97_25 : jmI (jm 97) 25 = (.ifCond .le 18, 3) := by rfl
theorem jI_97_28 : jmI (jm 97) 28 = (.lload_n 3, 1) := by rfl
theorem jI_97_29 : jmI (jm 97) 29 = (.aload_n 0, 1) := by rfl
theorem jI_97_30 : jmI (jm 97) 30 = (.iload 5, 2) := by rfl
theorem jI_97_32 : jmI (jm 97) 32 = (.laload, 1) := by rfl
theorem jI_97_36 : jmI (jm 97) 36 = (.lstore_n 3, 1) := by rfl
theorem jI_97_37 : jmI (jm 97) 37 = (.iinc 5 1, 3) := by rfl
theorem jI_97_40 : jmI (jm 97) 40 = (.goto (-25), 3) := by rfl
theorem jI_97_43 : jmI (jm 97) 43 = (.lload_n 3, 1) := by rfl
theorem jI_97_44 : jmI (jm 97) 44 = (.lconst 1, 1) := by rfl
theorem jI_97_46 : jmI (jm 97) 46 = (.ifCond .gt 15, 3) := by rfl
theorem jI_97_61 : jmI (jm 97) 61 = (.iconst 0, 1) := by rfl
theorem jI_97_62 : jmI (jm 97) 62 = (.istore 5, 2) := by rfl
theorem jI_97_64 : jmI (jm 97) 64 = (.iload 5, 2) := by rfl
theorem jI_97_66 : jmI (jm 97) 66 = (.aload_n 0, 1) := by rfl
theorem jI_97_68 : jmI (jm 97) 68 = (.if_icmp .ge 17, 3) := by rfl
theorem jI_97_71 : jmI (jm 97) 71 = (.aload_n 0, 1) := by rfl
theorem jI_97_72 : jmI (jm 97) 72 = (.iload 5, 2) := by rfl
theorem jI_97_75 : jmI (jm 97) 75 = (.laload, 1) := by rfl
theorem jI_97_76 : jmI (jm 97) 76 = (.lload_n 3, 1) := by rfl
theorem jI_97_79 : jmI (jm 97) 79 = (.iinc 5 1, 3) := by rfl
theorem jI_97_82 : jmI (jm 97) 82 = (.goto (-18), 3) := by rfl
theorem jI_97_85 : jmI (jm 97) 85 = (.lload_n 1, 1) := by rfl
theorem jI_97_86 : jmI (jm 97) 86 = (.lload_n 3, 1) := by rfl
theorem jA_97_121 {xs : List Int} {d : Nat} {x3 : Int} (h_x3 : 2 ≤ x3 ∧ x3 ≤ 24) : jT xs (d + 1) 97 1 0 [(0, (4, 0)), (1, (1, x3))] [] [(101, [], [0, 0, 0, 0, 0, 0])] 0 0 (fun k v hsN => k = 0 ∧ v = (1, 1) ∧ hsN = [(101, [], [0, 0, 0, 0, 0, 0])] ++ []) := by
  refine jT_xlload_n (v := (1, x3)) (pcN := 1) jI_97_0 rfl rfl rfl ?_
  refine jT_xlconst (z := 1) (pcN := 2) jI_97_1 rfl rfl ?_
  refine jT_lcmp (a := x3) (b := 1) (z := 1) (by rfl) (by rfl) (jwl_idd (by omega) (by omega)) (jwl_idd (by omega) (by omega)) (by rw [decide_eq_true (show (1 : Int) < x3 by omega)]; rfl) ?_
  refine jT_xifT (pcN := 10) jI_97_3 rfl (by decide +kernel) rfl ?_
  refine jT_xlload_n (v := (1, x3)) (pcN := 11) jI_97_10 rfl rfl rfl ?_
  refine jT_xlstore_n (v := (1, x3)) (LN := [(3, (1, x3)), (0, (4, 0)), (1, (1, x3))]) (pcN := 12) jI_97_11 rfl rfl rfl rfl ?_
  refine jT_xiconst (k := 0) (pcN := 13) jI_97_12 rfl ?_
  refine jT_xistore (v := (0, 0)) (LN := [(5, (0, 0)), (3, (1, x3)), (0, (4, 0)), (1, (1, x3))]) (pcN := 15) jI_97_13 rfl rfl rfl rfl ?_
  refine jT_xiload (v := (0, 0)) (pcN := 17) jI_97_15 rfl rfl rfl ?_
  refine jT_xaload_n (v := (4, 0)) (pcN := 18) jI_97_17 rfl rfl rfl ?_
  refine jT_adv 1 (pcN := 19) (LN := [(5, (0, 0)), (3, (1, x3)), (0, (4, 0)), (1, (1, x3))]) (stN := [(0, 6), (0, 0)]) (hsN := [(101, [], [0, 0, 0, 0, 0, 0])]) (c1 := 0) (s1 := 0) (c2 := 0) (s2 := 0) (by exact rfl) ?_ (by omega) (by omega)
  refine jT_xicF (t := 43) (pcN := 22) jI_97_19 rfl (by decide +kernel) rfl rfl ?_
  refine jT_xlload_n (v := (1, x3)) (pcN := 23) jI_97_22 rfl rfl rfl ?_
  refine jT_xlconst (z := 1) (pcN := 24) jI_97_23 rfl rfl ?_
  refine jT_lcmp (a := x3) (b := 1) (z := 1) (by rfl) (by rfl) (jwl_idd (by omega) (by omega)) (jwl_idd (by omega) (by omega)) (by rw [decide_eq_true (show (1 : Int) < x3 by omega)]; rfl) ?_
  refine jT_xifF (t := 43) (pcN := 28) jI_97_25 rfl (by decide +kernel) rfl rfl ?_
  refine jT_xlload_n (v := (1, x3)) (pcN := 29) jI_97_28 rfl rfl rfl ?_
  refine jT_xaload_n (v := (4, 0)) (pcN := 30) jI_97_29 rfl rfl rfl ?_
  refine jT_xiload (v := (0, 0)) (pcN := 32) jI_97_30 rfl rfl rfl ?_
  refine jT_lald (x := 0) (a := 0) (j := 0) (fs := []) (X := [0, 0, 0, 0, 0, 0]) jI_97_32 rfl rfl rfl rfl ?_
  refine jT_eq (LN := [(5, (0, 0)), (3, (1, x3)), (0, (4, 0)), (1, (1, x3))]) (stN := [(1, 0), (1, x3)]) (hsN := [(101, [], [0, 0, 0, 0, 0, 0])]) rfl rfl rfl ?_
  refine jT_fR [] 1 (y := 98) (pcN := 36) (dC := 0) (bc1 := 0) (bc2 := 0) (c1 := 0) (c2 := 0) (as := [(1, x3), (1, 0)]) (asC := [(1, x3), (1, 0)]) (LN := [(5, (0, 0)), (3, (1, x3)), (0, (4, 0)), (1, (1, x3))]) (stN := []) (hsC := []) (v := (1, x3)) (st2 := [(1, x3)]) (jA_98_120 (d := 0) (by omega)) (by rfl) (by rfl) (by decide +kernel) (by rfl) (by rfl) (by omega) (by omega) (by omega) (by omega) rfl ?_
  refine jT_xlstore_n (v := (1, x3)) (LN := [(3, (1, x3)), (5, (0, 0)), (0, (4, 0)), (1, (1, x3))]) (pcN := 37) jI_97_36 rfl rfl rfl rfl ?_
  refine jT_xiinc (x := 0) (z := 1) (LN := [(5, (0, 1)), (3, (1, x3)), (0, (4, 0)), (1, (1, x3))]) (pcN := 40) jI_97_37 rfl rfl (by decide) rfl rfl ?_
  refine jT_xgoto (pcN := 15) jI_97_40 rfl ?_
  refine jT_xiload (v := (0, 1)) (pcN := 17) jI_97_15 rfl rfl rfl ?_
  refine jT_xaload_n (v := (4, 0)) (pcN := 18) jI_97_17 rfl rfl rfl ?_
  refine jT_adv 1 (pcN := 19) (LN := [(5, (0, 1)), (3, (1, x3)), (0, (4, 0)), (1, (1, x3))]) (stN := [(0, 6), (0, 1)]) (hsN := [(101, [], [0, 0, 0, 0, 0, 0])]) (c1 := 0) (s1 := 0) (c2 := 0) (s2 := 0) (by exact rfl) ?_ (by omega) (by omega)
  refine jT_xicF (t := 43) (pcN := 22) jI_97_19 rfl (by decide +kernel) rfl rfl ?_
  refine jT_xlload_n (v := (1, x3)) (pcN := 23) jI_97_22 rfl rfl rfl ?_
  refine jT_xlconst (z := 1) (pcN := 24) jI_97_23 rfl rfl ?_
  refine jT_lcmp (a := x3) (b := 1) (z := 1) (by rfl) (by rfl) (jwl_idd (by omega) (by omega)) (jwl_idd (by omega) (by omega)) (by rw [decide_eq_true (show (1 : Int) < x3 by omega)]; rfl) ?_
  refine jT_xifF (t := 43) (pcN := 28) jI_97_25 rfl (by decide +kernel) rfl rfl ?_
  refine jT_xlload_n (v := (1, x3)) (pcN := 29) jI_97_28 rfl rfl rfl ?_
  refine jT_xaload_n (v := (4, 0)) (pcN := 30) jI_97_29 rfl rfl rfl ?_
  refine jT_xiload (v := (0, 1)) (pcN := 32) jI_97_30 rfl rfl rfl ?_
  refine jT_lald (x := 0) (a := 0) (j := 1) (fs := []) (X := [0, 0, 0, 0, 0, 0]) jI_97_32 rfl rfl rfl rfl ?_
  refine jT_eq (LN := [(5, (0, 1)), (3, (1, x3)), (0, (4, 0)), (1, (1, x3))]) (stN := [(1, 0), (1, x3)]) (hsN := [(101, [], [0, 0, 0, 0, 0, 0])]) rfl rfl rfl ?_
  refine jT_fR [] 1 (y := 98) (pcN := 36) (dC := 0) (bc1 := 0) (bc2 := 0) (c1 := 0) (c2 := 0) (as := [(1, x3), (1, 0)]) (asC := [(1, x3), (1, 0)]) (LN := [(5, (0, 1)), (3, (1, x3)), (0, (4, 0)), (1, (1, x3))]) (stN := []) (hsC := []) (v := (1, x3)) (st2 := [(1, x3)]) (jA_98_120 (d := 0) (by omega)) (by rfl) (by rfl) (by decide +kernel) (by rfl) (by rfl) (by omega) (by omega) (by omega) (by omega) rfl ?_
  refine jT_xlstore_n (v := (1, x3)) (LN := [(3, (1, x3)), (5, (0, 1)), (0, (4, 0)), (1, (1, x3))]) (pcN := 37) jI_97_36 rfl rfl rfl rfl ?_
  refine jT_xiinc (x := 1) (z := 2) (LN := [(5, (0, 2)), (3, (1, x3)), (0, (4, 0)), (1, (1, x3))]) (pcN := 40) jI_97_37 rfl rfl (by decide) rfl rfl ?_
  refine jT_xgoto (pcN := 15) jI_97_40 rfl ?_
  refine jT_xiload (v := (0, 2)) (pcN := 17) jI_97_15 rfl rfl rfl ?_
  refine jT_xaload_n (v := (4, 0)) (pcN := 18) jI_97_17 rfl rfl rfl ?_
  refine jT_adv 1 (pcN := 19) (LN := [(5, (0, 2)), (3, (1, x3)), (0, (4, 0)), (1, (1, x3))]) (stN := [(0, 6), (0, 2)]) (hsN := [(101, [], [0, 0, 0, 0, 0, 0])]) (c1 := 0) (s1 := 0) (c2 := 0) (s2 := 0) (by exact rfl) ?_ (by omega) (by omega)
  refine jT_xicF (t := 43) (pcN := 22) jI_97_19 rfl (by decide +kernel) rfl rfl ?_
  refine jT_xlload_n (v := (1, x3)) (pcN := 23) jI_97_22 rfl rfl rfl ?_
  refine jT_xlconst (z := 1) (pcN := 24) jI_97_23 rfl rfl ?_
  refine jT_lcmp (a := x3) (b := 1) (z := 1) (by rfl) (by rfl) (jwl_idd (by omega) (by omega)) (jwl_idd (by omega) (by omega)) (by rw [decide_eq_true (show (1 : Int) < x3 by omega)]; rfl) ?_
  refine jT_xifF (t := 43) (pcN := 28) jI_97_25 rfl (by decide +kernel) rfl rfl ?_
  refine jT_xlload_n (v := (1, x3)) (pcN := 29) jI_97_28 rfl rfl rfl ?_
  refine jT_xaload_n (v := (4, 0)) (pcN := 30) jI_97_29 rfl rfl rfl ?_
  refine jT_xiload (v := (0, 2)) (pcN := 32) jI_97_30 rfl rfl rfl ?_
  refine jT_lald (x := 0) (a := 0) (j := 2) (fs := []) (X := [0, 0, 0, 0, 0, 0]) jI_97_32 rfl rfl rfl rfl ?_
  refine jT_eq (LN := [(5, (0, 2)), (3, (1, x3)), (0, (4, 0)), (1, (1, x3))]) (stN := [(1, 0), (1, x3)]) (hsN := [(101, [], [0, 0, 0, 0, 0, 0])]) rfl rfl rfl ?_
  refine jT_fR [] 1 (y := 98) (pcN := 36) (dC := 0) (bc1 := 0) (bc2 := 0) (c1 := 0) (c2 := 0) (as := [(1, x3), (1, 0)]) (asC := [(1, x3), (1, 0)]) (LN := [(5, (0, 2)), (3, (1, x3)), (0, (4, 0)), (1, (1, x3))]) (stN := []) (hsC := []) (v := (1, x3)) (st2 := [(1, x3)]) (jA_98_120 (d := 0) (by omega)) (by rfl) (by rfl) (by decide +kernel) (by rfl) (by rfl) (by omega) (by omega) (by omega) (by omega) rfl ?_
  refine jT_xlstore_n (v := (1, x3)) (LN := [(3, (1, x3)), (5, (0, 2)), (0, (4, 0)), (1, (1, x3))]) (pcN := 37) jI_97_36 rfl rfl rfl rfl ?_
  refine jT_xiinc (x := 2) (z := 3) (LN := [(5, (0, 3)), (3, (1, x3)), (0, (4, 0)), (1, (1, x3))]) (pcN := 40) jI_97_37 rfl rfl (by decide) rfl rfl ?_
  refine jT_xgoto (pcN := 15) jI_97_40 rfl ?_
  refine jT_xiload (v := (0, 3)) (pcN := 17) jI_97_15 rfl rfl rfl ?_
  refine jT_xaload_n (v := (4, 0)) (pcN := 18) jI_97_17 rfl rfl rfl ?_
  refine jT_adv 1 (pcN := 19) (LN := [(5, (0, 3)), (3, (1, x3)), (0, (4, 0)), (1, (1, x3))]) (stN := [(0, 6), (0, 3)]) (hsN := [(101, [], [0, 0, 0, 0, 0, 0])]) (c1 := 0) (s1 := 0) (c2 := 0) (s2 := 0) (by exact rfl) ?_ (by omega) (by omega)
  refine jT_xicF (t := 43) (pcN := 22) jI_97_19 rfl (by decide +kernel) rfl rfl ?_
  refine jT_xlload_n (v := (1, x3)) (pcN := 23) jI_97_22 rfl rfl rfl ?_
  refine jT_xlconst (z := 1) (pcN := 24) jI_97_23 rfl rfl ?_
  refine jT_lcmp (a := x3) (b := 1) (z := 1) (by rfl) (by rfl) (jwl_idd (by omega) (by omega)) (jwl_idd (by omega) (by omega)) (by rw [decide_eq_true (show (1 : Int) < x3 by omega)]; rfl) ?_
  refine jT_xifF (t := 43) (pcN := 28) jI_97_25 rfl (by decide +kernel) rfl rfl ?_
  refine jT_xlload_n (v := (1, x3)) (pcN := 29) jI_97_28 rfl rfl rfl ?_
  refine jT_xaload_n (v := (4, 0)) (pcN := 30) jI_97_29 rfl rfl rfl ?_
  refine jT_xiload (v := (0, 3)) (pcN := 32) jI_97_30 rfl rfl rfl ?_
  refine jT_lald (x := 0) (a := 0) (j := 3) (fs := []) (X := [0, 0, 0, 0, 0, 0]) jI_97_32 rfl rfl rfl rfl ?_
  refine jT_eq (LN := [(5, (0, 3)), (3, (1, x3)), (0, (4, 0)), (1, (1, x3))]) (stN := [(1, 0), (1, x3)]) (hsN := [(101, [], [0, 0, 0, 0, 0, 0])]) rfl rfl rfl ?_
  refine jT_fR [] 1 (y := 98) (pcN := 36) (dC := 0) (bc1 := 0) (bc2 := 0) (c1 := 0) (c2 := 0) (as := [(1, x3), (1, 0)]) (asC := [(1, x3), (1, 0)]) (LN := [(5, (0, 3)), (3, (1, x3)), (0, (4, 0)), (1, (1, x3))]) (stN := []) (hsC := []) (v := (1, x3)) (st2 := [(1, x3)]) (jA_98_120 (d := 0) (by omega)) (by rfl) (by rfl) (by decide +kernel) (by rfl) (by rfl) (by omega) (by omega) (by omega) (by omega) rfl ?_
  refine jT_xlstore_n (v := (1, x3)) (LN := [(3, (1, x3)), (5, (0, 3)), (0, (4, 0)), (1, (1, x3))]) (pcN := 37) jI_97_36 rfl rfl rfl rfl ?_
  refine jT_xiinc (x := 3) (z := 4) (LN := [(5, (0, 4)), (3, (1, x3)), (0, (4, 0)), (1, (1, x3))]) (pcN := 40) jI_97_37 rfl rfl (by decide) rfl rfl ?_
  refine jT_xgoto (pcN := 15) jI_97_40 rfl ?_
  refine jT_xiload (v := (0, 4)) (pcN := 17) jI_97_15 rfl rfl rfl ?_
  refine jT_xaload_n (v := (4, 0)) (pcN := 18) jI_97_17 rfl rfl rfl ?_
  refine jT_adv 1 (pcN := 19) (LN := [(5, (0, 4)), (3, (1, x3)), (0, (4, 0)), (1, (1, x3))]) (stN := [(0, 6), (0, 4)]) (hsN := [(101, [], [0, 0, 0, 0, 0, 0])]) (c1 := 0) (s1 := 0) (c2 := 0) (s2 := 0) (by exact rfl) ?_ (by omega) (by omega)
  refine jT_xicF (t := 43) (pcN := 22) jI_97_19 rfl (by decide +kernel) rfl rfl ?_
  refine jT_xlload_n (v := (1, x3)) (pcN := 23) jI_97_22 rfl rfl rfl ?_
  refine jT_xlconst (z := 1) (pcN := 24) jI_97_23 rfl rfl ?_
  refine jT_lcmp (a := x3) (b := 1) (z := 1) (by rfl) (by rfl) (jwl_idd (by omega) (by omega)) (jwl_idd (by omega) (by omega)) (by rw [decide_eq_true (show (1 : Int) < x3 by omega)]; rfl) ?_
  refine jT_xifF (t := 43) (pcN := 28) jI_97_25 rfl (by decide +kernel) rfl rfl ?_
  refine jT_xlload_n (v := (1, x3)) (pcN := 29) jI_97_28 rfl rfl rfl ?_
  refine jT_xaload_n (v := (4, 0)) (pcN := 30) jI_97_29 rfl rfl rfl ?_
  refine jT_xiload (v := (0, 4)) (pcN := 32) jI_97_30 rfl rfl rfl ?_
  refine jT_lald (x := 0) (a := 0) (j := 4) (fs := []) (X := [0, 0, 0, 0, 0, 0]) jI_97_32 rfl rfl rfl rfl ?_
  refine jT_eq (LN := [(5, (0, 4)), (3, (1, x3)), (0, (4, 0)), (1, (1, x3))]) (stN := [(1, 0), (1, x3)]) (hsN := [(101, [], [0, 0, 0, 0, 0, 0])]) rfl rfl rfl ?_
  refine jT_fR [] 1 (y := 98) (pcN := 36) (dC := 0) (bc1 := 0) (bc2 := 0) (c1 := 0) (c2 := 0) (as := [(1, x3), (1, 0)]) (asC := [(1, x3), (1, 0)]) (LN := [(5, (0, 4)), (3, (1, x3)), (0, (4, 0)), (1, (1, x3))]) (stN := []) (hsC := []) (v := (1, x3)) (st2 := [(1, x3)]) (jA_98_120 (d := 0) (by omega)) (by rfl) (by rfl) (by decide +kernel) (by rfl) (by rfl) (by omega) (by omega) (by omega) (by omega) rfl ?_
  refine jT_xlstore_n (v := (1, x3)) (LN := [(3, (1, x3)), (5, (0, 4)), (0, (4, 0)), (1, (1, x3))]) (pcN := 37) jI_97_36 rfl rfl rfl rfl ?_
  refine jT_xiinc (x := 4) (z := 5) (LN := [(5, (0, 5)), (3, (1, x3)), (0, (4, 0)), (1, (1, x3))]) (pcN := 40) jI_97_37 rfl rfl (by decide) rfl rfl ?_
  refine jT_xgoto (pcN := 15) jI_97_40 rfl ?_
  refine jT_xiload (v := (0, 5)) (pcN := 17) jI_97_15 rfl rfl rfl ?_
  refine jT_xaload_n (v := (4, 0)) (pcN := 18) jI_97_17 rfl rfl rfl ?_
  refine jT_adv 1 (pcN := 19) (LN := [(5, (0, 5)), (3, (1, x3)), (0, (4, 0)), (1, (1, x3))]) (stN := [(0, 6), (0, 5)]) (hsN := [(101, [], [0, 0, 0, 0, 0, 0])]) (c1 := 0) (s1 := 0) (c2 := 0) (s2 := 0) (by exact rfl) ?_ (by omega) (by omega)
  refine jT_xicF (t := 43) (pcN := 22) jI_97_19 rfl (by decide +kernel) rfl rfl ?_
  refine jT_xlload_n (v := (1, x3)) (pcN := 23) jI_97_22 rfl rfl rfl ?_
  refine jT_xlconst (z := 1) (pcN := 24) jI_97_23 rfl rfl ?_
  refine jT_lcmp (a := x3) (b := 1) (z := 1) (by rfl) (by rfl) (jwl_idd (by omega) (by omega)) (jwl_idd (by omega) (by omega)) (by rw [decide_eq_true (show (1 : Int) < x3 by omega)]; rfl) ?_
  refine jT_xifF (t := 43) (pcN := 28) jI_97_25 rfl (by decide +kernel) rfl rfl ?_
  refine jT_xlload_n (v := (1, x3)) (pcN := 29) jI_97_28 rfl rfl rfl ?_
  refine jT_xaload_n (v := (4, 0)) (pcN := 30) jI_97_29 rfl rfl rfl ?_
  refine jT_xiload (v := (0, 5)) (pcN := 32) jI_97_30 rfl rfl rfl ?_
  refine jT_lald (x := 0) (a := 0) (j := 5) (fs := []) (X := [0, 0, 0, 0, 0, 0]) jI_97_32 rfl rfl rfl rfl ?_
  refine jT_eq (LN := [(5, (0, 5)), (3, (1, x3)), (0, (4, 0)), (1, (1, x3))]) (stN := [(1, 0), (1, x3)]) (hsN := [(101, [], [0, 0, 0, 0, 0, 0])]) rfl rfl rfl ?_
  refine jT_fR [] 1 (y := 98) (pcN := 36) (dC := 0) (bc1 := 0) (bc2 := 0) (c1 := 0) (c2 := 0) (as := [(1, x3), (1, 0)]) (asC := [(1, x3), (1, 0)]) (LN := [(5, (0, 5)), (3, (1, x3)), (0, (4, 0)), (1, (1, x3))]) (stN := []) (hsC := []) (v := (1, x3)) (st2 := [(1, x3)]) (jA_98_120 (d := 0) (by omega)) (by rfl) (by rfl) (by decide +kernel) (by rfl) (by rfl) (by omega) (by omega) (by omega) (by omega) rfl ?_
  refine jT_xlstore_n (v := (1, x3)) (LN := [(3, (1, x3)), (5, (0, 5)), (0, (4, 0)), (1, (1, x3))]) (pcN := 37) jI_97_36 rfl rfl rfl rfl ?_
  refine jT_xiinc (x := 5) (z := 6) (LN := [(5, (0, 6)), (3, (1, x3)), (0, (4, 0)), (1, (1, x3))]) (pcN := 40) jI_97_37 rfl rfl (by decide) rfl rfl ?_
  refine jT_xgoto (pcN := 15) jI_97_40 rfl ?_
  refine jT_xiload (v := (0, 6)) (pcN := 17) jI_97_15 rfl rfl rfl ?_
  refine jT_xaload_n (v := (4, 0)) (pcN := 18) jI_97_17 rfl rfl rfl ?_
  refine jT_adv 1 (pcN := 19) (LN := [(5, (0, 6)), (3, (1, x3)), (0, (4, 0)), (1, (1, x3))]) (stN := [(0, 6), (0, 6)]) (hsN := [(101, [], [0, 0, 0, 0, 0, 0])]) (c1 := 0) (s1 := 0) (c2 := 0) (s2 := 0) (by exact rfl) ?_ (by omega) (by omega)
  refine jT_xicT (pcN := 43) jI_97_19 rfl (by decide +kernel) rfl ?_
  refine jT_xlload_n (v := (1, x3)) (pcN := 44) jI_97_43 rfl rfl rfl ?_
  refine jT_xlconst (z := 1) (pcN := 45) jI_97_44 rfl rfl ?_
  refine jT_lcmp (a := x3) (b := 1) (z := 1) (by rfl) (by rfl) (jwl_idd (by omega) (by omega)) (jwl_idd (by omega) (by omega)) (by rw [decide_eq_true (show (1 : Int) < x3 by omega)]; rfl) ?_
  refine jT_xifT (pcN := 61) jI_97_46 rfl (by decide +kernel) rfl ?_
  refine jT_xiconst (k := 0) (pcN := 62) jI_97_61 rfl ?_
  refine jT_xistore (v := (0, 0)) (LN := [(5, (0, 0)), (3, (1, x3)), (0, (4, 0)), (1, (1, x3))]) (pcN := 64) jI_97_62 rfl rfl rfl rfl ?_
  refine jT_xiload (v := (0, 0)) (pcN := 66) jI_97_64 rfl rfl rfl ?_
  refine jT_xaload_n (v := (4, 0)) (pcN := 67) jI_97_66 rfl rfl rfl ?_
  refine jT_adv 1 (pcN := 68) (LN := [(5, (0, 0)), (3, (1, x3)), (0, (4, 0)), (1, (1, x3))]) (stN := [(0, 6), (0, 0)]) (hsN := [(101, [], [0, 0, 0, 0, 0, 0])]) (c1 := 0) (s1 := 0) (c2 := 0) (s2 := 0) (by exact rfl) ?_ (by omega) (by omega)
  refine jT_xicF (t := 85) (pcN := 71) jI_97_68 rfl (by decide +kernel) rfl rfl ?_
  refine jT_xaload_n (v := (4, 0)) (pcN := 72) jI_97_71 rfl rfl rfl ?_
  refine jT_xiload (v := (0, 0)) (pcN := 74) jI_97_72 rfl rfl rfl ?_
  refine jT_adv 1 (pcN := 75) (LN := [(5, (0, 0)), (3, (1, x3)), (0, (4, 0)), (1, (1, x3))]) (stN := [(0, 0), (4, 0), (0, 0), (4, 0)]) (hsN := [(101, [], [0, 0, 0, 0, 0, 0])]) (c1 := 0) (s1 := 0) (c2 := 0) (s2 := 0) (by exact rfl) ?_ (by omega) (by omega)
  refine jT_lald (x := 0) (a := 0) (j := 0) (fs := []) (X := [0, 0, 0, 0, 0, 0]) jI_97_75 rfl rfl rfl rfl ?_
  refine jT_eq (LN := [(5, (0, 0)), (3, (1, x3)), (0, (4, 0)), (1, (1, x3))]) (stN := [(1, 0), (0, 0), (4, 0)]) (hsN := [(101, [], [0, 0, 0, 0, 0, 0])]) rfl rfl rfl ?_
  refine jT_xlload_n (v := (1, x3)) (pcN := 77) jI_97_76 rfl rfl rfl ?_
  refine jT_ldiv (a := 0) (b := x3) (by rfl) (by rfl) (jwl_idd (by omega) (by omega)) (jwl_idd (by omega) (by omega)) (by omega) ?_
  refine jT_eq (LN := [(5, (0, 0)), (3, (1, x3)), (0, (4, 0)), (1, (1, x3))]) (stN := [(1, 0), (0, 0), (4, 0)]) (hsN := [(101, [], [0, 0, 0, 0, 0, 0])]) rfl (by rw [show ((0 : Int).tdiv x3 : Int) = 0 by simp]) rfl ?_
  refine jT_adv 1 (pcN := 79) (LN := [(5, (0, 0)), (3, (1, x3)), (0, (4, 0)), (1, (1, x3))]) (stN := []) (hsN := [(101, [], [0, 0, 0, 0, 0, 0])]) (c1 := 0) (s1 := 0) (c2 := 0) (s2 := 0) (by exact rfl) ?_ (by omega) (by omega)
  refine jT_xiinc (x := 0) (z := 1) (LN := [(5, (0, 1)), (3, (1, x3)), (0, (4, 0)), (1, (1, x3))]) (pcN := 82) jI_97_79 rfl rfl (by decide) rfl rfl ?_
  refine jT_xgoto (pcN := 64) jI_97_82 rfl ?_
  refine jT_xiload (v := (0, 1)) (pcN := 66) jI_97_64 rfl rfl rfl ?_
  refine jT_xaload_n (v := (4, 0)) (pcN := 67) jI_97_66 rfl rfl rfl ?_
  refine jT_adv 1 (pcN := 68) (LN := [(5, (0, 1)), (3, (1, x3)), (0, (4, 0)), (1, (1, x3))]) (stN := [(0, 6), (0, 1)]) (hsN := [(101, [], [0, 0, 0, 0, 0, 0])]) (c1 := 0) (s1 := 0) (c2 := 0) (s2 := 0) (by exact rfl) ?_ (by omega) (by omega)
  refine jT_xicF (t := 85) (pcN := 71) jI_97_68 rfl (by decide +kernel) rfl rfl ?_
  refine jT_xaload_n (v := (4, 0)) (pcN := 72) jI_97_71 rfl rfl rfl ?_
  refine jT_xiload (v := (0, 1)) (pcN := 74) jI_97_72 rfl rfl rfl ?_
  refine jT_adv 1 (pcN := 75) (LN := [(5, (0, 1)), (3, (1, x3)), (0, (4, 0)), (1, (1, x3))]) (stN := [(0, 1), (4, 0), (0, 1), (4, 0)]) (hsN := [(101, [], [0, 0, 0, 0, 0, 0])]) (c1 := 0) (s1 := 0) (c2 := 0) (s2 := 0) (by exact rfl) ?_ (by omega) (by omega)
  refine jT_lald (x := 0) (a := 0) (j := 1) (fs := []) (X := [0, 0, 0, 0, 0, 0]) jI_97_75 rfl rfl rfl rfl ?_
  refine jT_eq (LN := [(5, (0, 1)), (3, (1, x3)), (0, (4, 0)), (1, (1, x3))]) (stN := [(1, 0), (0, 1), (4, 0)]) (hsN := [(101, [], [0, 0, 0, 0, 0, 0])]) rfl rfl rfl ?_
  refine jT_xlload_n (v := (1, x3)) (pcN := 77) jI_97_76 rfl rfl rfl ?_
  refine jT_ldiv (a := 0) (b := x3) (by rfl) (by rfl) (jwl_idd (by omega) (by omega)) (jwl_idd (by omega) (by omega)) (by omega) ?_
  refine jT_eq (LN := [(5, (0, 1)), (3, (1, x3)), (0, (4, 0)), (1, (1, x3))]) (stN := [(1, 0), (0, 1), (4, 0)]) (hsN := [(101, [], [0, 0, 0, 0, 0, 0])]) rfl (by rw [show ((0 : Int).tdiv x3 : Int) = 0 by simp]) rfl ?_
  refine jT_adv 1 (pcN := 79) (LN := [(5, (0, 1)), (3, (1, x3)), (0, (4, 0)), (1, (1, x3))]) (stN := []) (hsN := [(101, [], [0, 0, 0, 0, 0, 0])]) (c1 := 0) (s1 := 0) (c2 := 0) (s2 := 0) (by exact rfl) ?_ (by omega) (by omega)
  refine jT_xiinc (x := 1) (z := 2) (LN := [(5, (0, 2)), (3, (1, x3)), (0, (4, 0)), (1, (1, x3))]) (pcN := 82) jI_97_79 rfl rfl (by decide) rfl rfl ?_
  refine jT_xgoto (pcN := 64) jI_97_82 rfl ?_
  refine jT_xiload (v := (0, 2)) (pcN := 66) jI_97_64 rfl rfl rfl ?_
  refine jT_xaload_n (v := (4, 0)) (pcN := 67) jI_97_66 rfl rfl rfl ?_
  refine jT_adv 1 (pcN := 68) (LN := [(5, (0, 2)), (3, (1, x3)), (0, (4, 0)), (1, (1, x3))]) (stN := [(0, 6), (0, 2)]) (hsN := [(101, [], [0, 0, 0, 0, 0, 0])]) (c1 := 0) (s1 := 0) (c2 := 0) (s2 := 0) (by exact rfl) ?_ (by omega) (by omega)
  refine jT_xicF (t := 85) (pcN := 71) jI_97_68 rfl (by decide +kernel) rfl rfl ?_
  refine jT_xaload_n (v := (4, 0)) (pcN := 72) jI_97_71 rfl rfl rfl ?_
  refine jT_xiload (v := (0, 2)) (pcN := 74) jI_97_72 rfl rfl rfl ?_
  refine jT_adv 1 (pcN := 75) (LN := [(5, (0, 2)), (3, (1, x3)), (0, (4, 0)), (1, (1, x3))]) (stN := [(0, 2), (4, 0), (0, 2), (4, 0)]) (hsN := [(101, [], [0, 0, 0, 0, 0, 0])]) (c1 := 0) (s1 := 0) (c2 := 0) (s2 := 0) (by exact rfl) ?_ (by omega) (by omega)
  refine jT_lald (x := 0) (a := 0) (j := 2) (fs := []) (X := [0, 0, 0, 0, 0, 0]) jI_97_75 rfl rfl rfl rfl ?_
  refine jT_eq (LN := [(5, (0, 2)), (3, (1, x3)), (0, (4, 0)), (1, (1, x3))]) (stN := [(1, 0), (0, 2), (4, 0)]) (hsN := [(101, [], [0, 0, 0, 0, 0, 0])]) rfl rfl rfl ?_
  refine jT_xlload_n (v := (1, x3)) (pcN := 77) jI_97_76 rfl rfl rfl ?_
  refine jT_ldiv (a := 0) (b := x3) (by rfl) (by rfl) (jwl_idd (by omega) (by omega)) (jwl_idd (by omega) (by omega)) (by omega) ?_
  refine jT_eq (LN := [(5, (0, 2)), (3, (1, x3)), (0, (4, 0)), (1, (1, x3))]) (stN := [(1, 0), (0, 2), (4, 0)]) (hsN := [(101, [], [0, 0, 0, 0, 0, 0])]) rfl (by rw [show ((0 : Int).tdiv x3 : Int) = 0 by simp]) rfl ?_
  refine jT_adv 1 (pcN := 79) (LN := [(5, (0, 2)), (3, (1, x3)), (0, (4, 0)), (1, (1, x3))]) (stN := []) (hsN := [(101, [], [0, 0, 0, 0, 0, 0])]) (c1 := 0) (s1 := 0) (c2 := 0) (s2 := 0) (by exact rfl) ?_ (by omega) (by omega)
  refine jT_xiinc (x := 2) (z := 3) (LN := [(5, (0, 3)), (3, (1, x3)), (0, (4, 0)), (1, (1, x3))]) (pcN := 82) jI_97_79 rfl rfl (by decide) rfl rfl ?_
  refine jT_xgoto (pcN := 64) jI_97_82 rfl ?_
  refine jT_xiload (v := (0, 3)) (pcN := 66) jI_97_64 rfl rfl rfl ?_
  refine jT_xaload_n (v := (4, 0)) (pcN := 67) jI_97_66 rfl rfl rfl ?_
  refine jT_adv 1 (pcN := 68) (LN := [(5, (0, 3)), (3, (1, x3)), (0, (4, 0)), (1, (1, x3))]) (stN := [(0, 6), (0, 3)]) (hsN := [(101, [], [0, 0, 0, 0, 0, 0])]) (c1 := 0) (s1 := 0) (c2 := 0) (s2 := 0) (by exact rfl) ?_ (by omega) (by omega)
  refine jT_xicF (t := 85) (pcN := 71) jI_97_68 rfl (by decide +kernel) rfl rfl ?_
  refine jT_xaload_n (v := (4, 0)) (pcN := 72) jI_97_71 rfl rfl rfl ?_
  refine jT_xiload (v := (0, 3)) (pcN := 74) jI_97_72 rfl rfl rfl ?_
  refine jT_adv 1 (pcN := 75) (LN := [(5, (0, 3)), (3, (1, x3)), (0, (4, 0)), (1, (1, x3))]) (stN := [(0, 3), (4, 0), (0, 3), (4, 0)]) (hsN := [(101, [], [0, 0, 0, 0, 0, 0])]) (c1 := 0) (s1 := 0) (c2 := 0) (s2 := 0) (by exact rfl) ?_ (by omega) (by omega)
  refine jT_lald (x := 0) (a := 0) (j := 3) (fs := []) (X := [0, 0, 0, 0, 0, 0]) jI_97_75 rfl rfl rfl rfl ?_
  refine jT_eq (LN := [(5, (0, 3)), (3, (1, x3)), (0, (4, 0)), (1, (1, x3))]) (stN := [(1, 0), (0, 3), (4, 0)]) (hsN := [(101, [], [0, 0, 0, 0, 0, 0])]) rfl rfl rfl ?_
  refine jT_xlload_n (v := (1, x3)) (pcN := 77) jI_97_76 rfl rfl rfl ?_
  refine jT_ldiv (a := 0) (b := x3) (by rfl) (by rfl) (jwl_idd (by omega) (by omega)) (jwl_idd (by omega) (by omega)) (by omega) ?_
  refine jT_eq (LN := [(5, (0, 3)), (3, (1, x3)), (0, (4, 0)), (1, (1, x3))]) (stN := [(1, 0), (0, 3), (4, 0)]) (hsN := [(101, [], [0, 0, 0, 0, 0, 0])]) rfl (by rw [show ((0 : Int).tdiv x3 : Int) = 0 by simp]) rfl ?_
  refine jT_adv 1 (pcN := 79) (LN := [(5, (0, 3)), (3, (1, x3)), (0, (4, 0)), (1, (1, x3))]) (stN := []) (hsN := [(101, [], [0, 0, 0, 0, 0, 0])]) (c1 := 0) (s1 := 0) (c2 := 0) (s2 := 0) (by exact rfl) ?_ (by omega) (by omega)
  refine jT_xiinc (x := 3) (z := 4) (LN := [(5, (0, 4)), (3, (1, x3)), (0, (4, 0)), (1, (1, x3))]) (pcN := 82) jI_97_79 rfl rfl (by decide) rfl rfl ?_
  refine jT_xgoto (pcN := 64) jI_97_82 rfl ?_
  refine jT_xiload (v := (0, 4)) (pcN := 66) jI_97_64 rfl rfl rfl ?_
  refine jT_xaload_n (v := (4, 0)) (pcN := 67) jI_97_66 rfl rfl rfl ?_
  refine jT_adv 1 (pcN := 68) (LN := [(5, (0, 4)), (3, (1, x3)), (0, (4, 0)), (1, (1, x3))]) (stN := [(0, 6), (0, 4)]) (hsN := [(101, [], [0, 0, 0, 0, 0, 0])]) (c1 := 0) (s1 := 0) (c2 := 0) (s2 := 0) (by exact rfl) ?_ (by omega) (by omega)
  refine jT_xicF (t := 85) (pcN := 71) jI_97_68 rfl (by decide +kernel) rfl rfl ?_
  refine jT_xaload_n (v := (4, 0)) (pcN := 72) jI_97_71 rfl rfl rfl ?_
  refine jT_xiload (v := (0, 4)) (pcN := 74) jI_97_72 rfl rfl rfl ?_
  refine jT_adv 1 (pcN := 75) (LN := [(5, (0, 4)), (3, (1, x3)), (0, (4, 0)), (1, (1, x3))]) (stN := [(0, 4), (4, 0), (0, 4), (4, 0)]) (hsN := [(101, [], [0, 0, 0, 0, 0, 0])]) (c1 := 0) (s1 := 0) (c2 := 0) (s2 := 0) (by exact rfl) ?_ (by omega) (by omega)
  refine jT_lald (x := 0) (a := 0) (j := 4) (fs := []) (X := [0, 0, 0, 0, 0, 0]) jI_97_75 rfl rfl rfl rfl ?_
  refine jT_eq (LN := [(5, (0, 4)), (3, (1, x3)), (0, (4, 0)), (1, (1, x3))]) (stN := [(1, 0), (0, 4), (4, 0)]) (hsN := [(101, [], [0, 0, 0, 0, 0, 0])]) rfl rfl rfl ?_
  refine jT_xlload_n (v := (1, x3)) (pcN := 77) jI_97_76 rfl rfl rfl ?_
  refine jT_ldiv (a := 0) (b := x3) (by rfl) (by rfl) (jwl_idd (by omega) (by omega)) (jwl_idd (by omega) (by omega)) (by omega) ?_
  refine jT_eq (LN := [(5, (0, 4)), (3, (1, x3)), (0, (4, 0)), (1, (1, x3))]) (stN := [(1, 0), (0, 4), (4, 0)]) (hsN := [(101, [], [0, 0, 0, 0, 0, 0])]) rfl (by rw [show ((0 : Int).tdiv x3 : Int) = 0 by simp]) rfl ?_
  refine jT_adv 1 (pcN := 79) (LN := [(5, (0, 4)), (3, (1, x3)), (0, (4, 0)), (1, (1, x3))]) (stN := []) (hsN := [(101, [], [0, 0, 0, 0, 0, 0])]) (c1 := 0) (s1 := 0) (c2 := 0) (s2 := 0) (by exact rfl) ?_ (by omega) (by omega)
  refine jT_xiinc (x := 4) (z := 5) (LN := [(5, (0, 5)), (3, (1, x3)), (0, (4, 0)), (1, (1, x3))]) (pcN := 82) jI_97_79 rfl rfl (by decide) rfl rfl ?_
  refine jT_xgoto (pcN := 64) jI_97_82 rfl ?_
  refine jT_xiload (v := (0, 5)) (pcN := 66) jI_97_64 rfl rfl rfl ?_
  refine jT_xaload_n (v := (4, 0)) (pcN := 67) jI_97_66 rfl rfl rfl ?_
  refine jT_adv 1 (pcN := 68) (LN := [(5, (0, 5)), (3, (1, x3)), (0, (4, 0)), (1, (1, x3))]) (stN := [(0, 6), (0, 5)]) (hsN := [(101, [], [0, 0, 0, 0, 0, 0])]) (c1 := 0) (s1 := 0) (c2 := 0) (s2 := 0) (by exact rfl) ?_ (by omega) (by omega)
  refine jT_xicF (t := 85) (pcN := 71) jI_97_68 rfl (by decide +kernel) rfl rfl ?_
  refine jT_xaload_n (v := (4, 0)) (pcN := 72) jI_97_71 rfl rfl rfl ?_
  refine jT_xiload (v := (0, 5)) (pcN := 74) jI_97_72 rfl rfl rfl ?_
  refine jT_adv 1 (pcN := 75) (LN := [(5, (0, 5)), (3, (1, x3)), (0, (4, 0)), (1, (1, x3))]) (stN := [(0, 5), (4, 0), (0, 5), (4, 0)]) (hsN := [(101, [], [0, 0, 0, 0, 0, 0])]) (c1 := 0) (s1 := 0) (c2 := 0) (s2 := 0) (by exact rfl) ?_ (by omega) (by omega)
  refine jT_lald (x := 0) (a := 0) (j := 5) (fs := []) (X := [0, 0, 0, 0, 0, 0]) jI_97_75 rfl rfl rfl rfl ?_
  refine jT_eq (LN := [(5, (0, 5)), (3, (1, x3)), (0, (4, 0)), (1, (1, x3))]) (stN := [(1, 0), (0, 5), (4, 0)]) (hsN := [(101, [], [0, 0, 0, 0, 0, 0])]) rfl rfl rfl ?_
  refine jT_xlload_n (v := (1, x3)) (pcN := 77) jI_97_76 rfl rfl rfl ?_
  refine jT_ldiv (a := 0) (b := x3) (by rfl) (by rfl) (jwl_idd (by omega) (by omega)) (jwl_idd (by omega) (by omega)) (by omega) ?_
  refine jT_eq (LN := [(5, (0, 5)), (3, (1, x3)), (0, (4, 0)), (1, (1, x3))]) (stN := [(1, 0), (0, 5), (4, 0)]) (hsN := [(101, [], [0, 0, 0, 0, 0, 0])]) rfl (by rw [show ((0 : Int).tdiv x3 : Int) = 0 by simp]) rfl ?_
  refine jT_adv 1 (pcN := 79) (LN := [(5, (0, 5)), (3, (1, x3)), (0, (4, 0)), (1, (1, x3))]) (stN := []) (hsN := [(101, [], [0, 0, 0, 0, 0, 0])]) (c1 := 0) (s1 := 0) (c2 := 0) (s2 := 0) (by exact rfl) ?_ (by omega) (by omega)
  refine jT_xiinc (x := 5) (z := 6) (LN := [(5, (0, 6)), (3, (1, x3)), (0, (4, 0)), (1, (1, x3))]) (pcN := 82) jI_97_79 rfl rfl (by decide) rfl rfl ?_
  refine jT_xgoto (pcN := 64) jI_97_82 rfl ?_
  refine jT_xiload (v := (0, 6)) (pcN := 66) jI_97_64 rfl rfl rfl ?_
  refine jT_xaload_n (v := (4, 0)) (pcN := 67) jI_97_66 rfl rfl rfl ?_
  refine jT_adv 1 (pcN := 68) (LN := [(5, (0, 6)), (3, (1, x3)), (0, (4, 0)), (1, (1, x3))]) (stN := [(0, 6), (0, 6)]) (hsN := [(101, [], [0, 0, 0, 0, 0, 0])]) (c1 := 0) (s1 := 0) (c2 := 0) (s2 := 0) (by exact rfl) ?_ (by omega) (by omega)
  refine jT_xicT (pcN := 85) jI_97_68 rfl (by decide +kernel) rfl ?_
  refine jT_xlload_n (v := (1, x3)) (pcN := 86) jI_97_85 rfl rfl rfl ?_
  refine jT_xlload_n (v := (1, x3)) (pcN := 87) jI_97_86 rfl rfl rfl ?_
  refine jT_ldiv (a := x3) (b := x3) (by rfl) (by rfl) (jwl_idd (by omega) (by omega)) (jwl_idd (by omega) (by omega)) (by omega) ?_
  refine jT_eq (LN := [(5, (0, 6)), (3, (1, x3)), (0, (4, 0)), (1, (1, x3))]) (stN := [(1, 1)]) (hsN := [(101, [], [0, 0, 0, 0, 0, 0])]) rfl (by rw [show (x3.tdiv x3 : Int) = 1 by exact Int.tdiv_self (by omega)]) rfl ?_
  exact jT_ret rfl (by decide) (by show 1 ≤ 1; decide) (by omega) (by omega) ⟨rfl, rfl, rfl⟩
theorem jI_9_0 : jmI (jm 9) 0 = (.aload_n 0, 1) := by rfl
theorem jI_9_4 : jmI (jm 9) 4 = (.aload_n 0, 1) := by rfl
theorem jI_9_5 : jmI (jm 9) 5 = (.aload_n 1, 1) := by rfl
theorem jI_9_9 : jmI (jm 9) 9 = (.aload_n 0, 1) := by rfl
theorem jI_9_10 : jmI (jm 9) 10 = (.aload_n 1, 1) := by rfl
theorem jI_9_11 : jmI (jm 9) 11 = (.lload_n 2, 1) := by rfl
theorem jA_9_122 {xs : List Int} {d : Nat} {x3 : Int} (h_x3 : 2 ≤ x3 ∧ x3 ≤ 24) : jT xs (d + 2) 9 2 0 [(0, (4, 0)), (1, (4, 1)), (2, (1, x3))] [] [(4, [(4, (-1)), (1, 0)], []), (101, [], [0, 0, 0, 0, 0, 0])] 0 0 (fun k v hsN => k = 0 ∧ v = (9, 0) ∧ hsN = [(4, [(4, 1), (1, 1)], []), (101, [], [0, 0, 0, 0, 0, 0])]) := by
  refine jT_xaload_n (v := (4, 0)) (pcN := 1) jI_9_0 rfl rfl rfl ?_
  refine jT_adv 1 (pcN := 4) (LN := [(0, (4, 0)), (1, (4, 1)), (2, (1, x3))]) (stN := []) (hsN := [(4, [(4, (-1)), (1, 0)], []), (101, [], [0, 0, 0, 0, 0, 0])]) (c1 := 0) (s1 := 0) (c2 := 0) (s2 := 0) (by exact rfl) ?_ (by omega) (by omega)
  refine jT_xaload_n (v := (4, 0)) (pcN := 5) jI_9_4 rfl rfl rfl ?_
  refine jT_xaload_n (v := (4, 1)) (pcN := 6) jI_9_5 rfl rfl rfl ?_
  refine jT_adv 1 (pcN := 9) (LN := [(0, (4, 0)), (1, (4, 1)), (2, (1, x3))]) (stN := []) (hsN := [(4, [(4, 1), (1, 0)], []), (101, [], [0, 0, 0, 0, 0, 0])]) (c1 := 0) (s1 := 0) (c2 := 0) (s2 := 0) (by exact rfl) ?_ (by omega) (by omega)
  refine jT_xaload_n (v := (4, 0)) (pcN := 10) jI_9_9 rfl rfl rfl ?_
  refine jT_xaload_n (v := (4, 1)) (pcN := 11) jI_9_10 rfl rfl rfl ?_
  refine jT_xlload_n (v := (1, x3)) (pcN := 12) jI_9_11 rfl rfl rfl ?_
  refine jT_fR [1] 2 (y := 97) (pcN := 15) (dC := 1) (bc1 := 0) (bc2 := 0) (c1 := 0) (c2 := 0) (as := [(4, 1), (1, x3)]) (asC := [(4, 0), (1, x3)]) (LN := [(0, (4, 0)), (1, (4, 1)), (2, (1, x3))]) (stN := [(4, 0)]) (hsC := [(101, [], [0, 0, 0, 0, 0, 0])]) (v := (1, 1)) (st2 := [(1, 1), (4, 0)]) (jA_97_121 (d := 0) (by omega)) (by rfl) (by rfl) (by decide +kernel) (by rfl) (by rfl) (by omega) (by omega) (by omega) (by omega) rfl ?_
  refine jT_adv 1 (pcN := 18) (LN := [(0, (4, 0)), (1, (4, 1)), (2, (1, x3))]) (stN := []) (hsN := [(4, [(4, 1), (1, 1)], []), (101, [], [0, 0, 0, 0, 0, 0])]) (c1 := 0) (s1 := 0) (c2 := 0) (s2 := 0) (by exact rfl) ?_ (by omega) (by omega)
  exact jT_ret rfl (by decide) (by show 2 ≤ 2; decide) (by omega) (by omega) ⟨rfl, rfl, rfl⟩
theorem jA_10_123 {xs : List Int} {d : Nat} {x2 x3 : Int} (h_x2 : (-100) ≤ x2 ∧ x2 ≤ 100) (h_x3 : 2 ≤ x3 ∧ x3 ≤ 24) : jT xs (d + 3) 10 2 0 [(0, (4, 0)), (1, (1, x2)), (3, (1, x3)), (5, (1, 0))] [] [(4, [(4, 1), (1, 1)], []), (101, [], [0, 0, 0, 0, 0, 0])] 2 8 (fun k v hsN => k = 0 ∧ v = (4, 3) ∧ hsN = [(4, [(4, 1), (1, 1)], []), (101, [], [0, 0, 0, 0, 0, 0])] ++ [(101, [], [0, 0, 0, 0, 0, 0]), (4, [(4, 2), (1, 1)], [])]) := by
  refine jT_xbipush (k := 6) (pcN := 2) jI_10_0 (by decide) rfl ?_
  refine jT_adv 1 (pcN := 4) (LN := [(0, (4, 0)), (1, (1, x2)), (3, (1, x3)), (5, (1, 0))]) (stN := [(4, 2)]) (hsN := [(4, [(4, 1), (1, 1)], []), (101, [], [0, 0, 0, 0, 0, 0]), (101, [], [0, 0, 0, 0, 0, 0])]) (c1 := 1) (s1 := 6) (c2 := 1) (s2 := 2) (by exact rfl) ?_ (by omega) (by omega)
  refine jT_xastore (v := (4, 2)) (LN := [(7, (4, 2)), (0, (4, 0)), (1, (1, x2)), (3, (1, x3)), (5, (1, 0))]) (pcN := 6) jI_10_4 rfl rfl rfl rfl ?_
  refine jT_xiconst (k := 0) (pcN := 7) jI_10_6 rfl ?_
  refine jT_xistore (v := (0, 0)) (LN := [(8, (0, 0)), (7, (4, 2)), (0, (4, 0)), (1, (1, x2)), (3, (1, x3)), (5, (1, 0))]) (pcN := 9) jI_10_7 rfl rfl rfl rfl ?_
  refine jT_xiload (v := (0, 0)) (pcN := 11) jI_10_9 rfl rfl rfl ?_
  refine jT_xbipush (k := 6) (pcN := 13) jI_10_11 (by decide) rfl ?_
  refine jT_xicF (t := 36) (pcN := 16) jI_10_13 rfl (by decide +kernel) rfl rfl ?_
  refine jT_xaload (v := (4, 2)) (pcN := 18) jI_10_16 rfl rfl rfl ?_
  refine jT_xiload (v := (0, 0)) (pcN := 20) jI_10_18 rfl rfl rfl ?_
  refine jT_xaload_n (v := (4, 0)) (pcN := 21) jI_10_20 rfl rfl rfl ?_
  refine jT_xgetf (a := 0) (t := 1) (ci := 4) (fi := 0) (c := (4, [(4, 1), (1, 1)], [])) (v := (4, 1)) (pcN := 24) jI_10_21 rfl rfl rfl rfl rfl rfl rfl ?_
  refine jT_xiload (v := (0, 0)) (pcN := 26) jI_10_24 rfl rfl rfl ?_
  refine jT_lald (x := 0) (a := 1) (j := 0) (fs := []) (X := [0, 0, 0, 0, 0, 0]) jI_10_26 rfl rfl rfl rfl ?_
  refine jT_eq (LN := [(8, (0, 0)), (7, (4, 2)), (0, (4, 0)), (1, (1, x2)), (3, (1, x3)), (5, (1, 0))]) (stN := [(1, 0), (0, 0), (4, 2)]) (hsN := [(4, [(4, 1), (1, 1)], []), (101, [], [0, 0, 0, 0, 0, 0]), (101, [], [0, 0, 0, 0, 0, 0])]) rfl rfl rfl ?_
  refine jT_xlload_n (v := (1, x2)) (pcN := 28) jI_10_27 rfl rfl rfl ?_
  refine jT_xlmul (x := 0) (y := x2) (z := 0) (pcN := 29) jI_10_28 rfl (by omega) rfl ?_
  refine jT_adv 1 (pcN := 30) (LN := [(8, (0, 0)), (7, (4, 2)), (0, (4, 0)), (1, (1, x2)), (3, (1, x3)), (5, (1, 0))]) (stN := []) (hsN := [(4, [(4, 1), (1, 1)], []), (101, [], [0, 0, 0, 0, 0, 0]), (101, [], [0, 0, 0, 0, 0, 0])]) (c1 := 0) (s1 := 0) (c2 := 1) (s2 := 2) (by exact rfl) ?_ (by omega) (by omega)
  refine jT_xiinc (x := 0) (z := 1) (LN := [(8, (0, 1)), (7, (4, 2)), (0, (4, 0)), (1, (1, x2)), (3, (1, x3)), (5, (1, 0))]) (pcN := 33) jI_10_30 rfl rfl (by decide) rfl rfl ?_
  refine jT_xgoto (pcN := 9) jI_10_33 rfl ?_
  refine jT_xiload (v := (0, 1)) (pcN := 11) jI_10_9 rfl rfl rfl ?_
  refine jT_xbipush (k := 6) (pcN := 13) jI_10_11 (by decide) rfl ?_
  refine jT_xicF (t := 36) (pcN := 16) jI_10_13 rfl (by decide +kernel) rfl rfl ?_
  refine jT_xaload (v := (4, 2)) (pcN := 18) jI_10_16 rfl rfl rfl ?_
  refine jT_xiload (v := (0, 1)) (pcN := 20) jI_10_18 rfl rfl rfl ?_
  refine jT_xaload_n (v := (4, 0)) (pcN := 21) jI_10_20 rfl rfl rfl ?_
  refine jT_xgetf (a := 0) (t := 1) (ci := 4) (fi := 0) (c := (4, [(4, 1), (1, 1)], [])) (v := (4, 1)) (pcN := 24) jI_10_21 rfl rfl rfl rfl rfl rfl rfl ?_
  refine jT_xiload (v := (0, 1)) (pcN := 26) jI_10_24 rfl rfl rfl ?_
  refine jT_lald (x := 0) (a := 1) (j := 1) (fs := []) (X := [0, 0, 0, 0, 0, 0]) jI_10_26 rfl rfl rfl rfl ?_
  refine jT_eq (LN := [(8, (0, 1)), (7, (4, 2)), (0, (4, 0)), (1, (1, x2)), (3, (1, x3)), (5, (1, 0))]) (stN := [(1, 0), (0, 1), (4, 2)]) (hsN := [(4, [(4, 1), (1, 1)], []), (101, [], [0, 0, 0, 0, 0, 0]), (101, [], [0, 0, 0, 0, 0, 0])]) rfl rfl rfl ?_
  refine jT_xlload_n (v := (1, x2)) (pcN := 28) jI_10_27 rfl rfl rfl ?_
  refine jT_xlmul (x := 0) (y := x2) (z := 0) (pcN := 29) jI_10_28 rfl (by omega) rfl ?_
  refine jT_adv 1 (pcN := 30) (LN := [(8, (0, 1)), (7, (4, 2)), (0, (4, 0)), (1, (1, x2)), (3, (1, x3)), (5, (1, 0))]) (stN := []) (hsN := [(4, [(4, 1), (1, 1)], []), (101, [], [0, 0, 0, 0, 0, 0]), (101, [], [0, 0, 0, 0, 0, 0])]) (c1 := 0) (s1 := 0) (c2 := 1) (s2 := 2) (by exact rfl) ?_ (by omega) (by omega)
  refine jT_xiinc (x := 1) (z := 2) (LN := [(8, (0, 2)), (7, (4, 2)), (0, (4, 0)), (1, (1, x2)), (3, (1, x3)), (5, (1, 0))]) (pcN := 33) jI_10_30 rfl rfl (by decide) rfl rfl ?_
  refine jT_xgoto (pcN := 9) jI_10_33 rfl ?_
  refine jT_xiload (v := (0, 2)) (pcN := 11) jI_10_9 rfl rfl rfl ?_
  refine jT_xbipush (k := 6) (pcN := 13) jI_10_11 (by decide) rfl ?_
  refine jT_xicF (t := 36) (pcN := 16) jI_10_13 rfl (by decide +kernel) rfl rfl ?_
  refine jT_xaload (v := (4, 2)) (pcN := 18) jI_10_16 rfl rfl rfl ?_
  refine jT_xiload (v := (0, 2)) (pcN := 20) jI_10_18 rfl rfl rfl ?_
  refine jT_xaload_n (v := (4, 0)) (pcN := 21) jI_10_20 rfl rfl rfl ?_
  refine jT_xgetf (a := 0) (t := 1) (ci := 4) (fi := 0) (c := (4, [(4, 1), (1, 1)], [])) (v := (4, 1)) (pcN := 24) jI_10_21 rfl rfl rfl rfl rfl rfl rfl ?_
  refine jT_xiload (v := (0, 2)) (pcN := 26) jI_10_24 rfl rfl rfl ?_
  refine jT_lald (x := 0) (a := 1) (j := 2) (fs := []) (X := [0, 0, 0, 0, 0, 0]) jI_10_26 rfl rfl rfl rfl ?_
  refine jT_eq (LN := [(8, (0, 2)), (7, (4, 2)), (0, (4, 0)), (1, (1, x2)), (3, (1, x3)), (5, (1, 0))]) (stN := [(1, 0), (0, 2), (4, 2)]) (hsN := [(4, [(4, 1), (1, 1)], []), (101, [], [0, 0, 0, 0, 0, 0]), (101, [], [0, 0, 0, 0, 0, 0])]) rfl rfl rfl ?_
  refine jT_xlload_n (v := (1, x2)) (pcN := 28) jI_10_27 rfl rfl rfl ?_
  refine jT_xlmul (x := 0) (y := x2) (z := 0) (pcN := 29) jI_10_28 rfl (by omega) rfl ?_
  refine jT_adv 1 (pcN := 30) (LN := [(8, (0, 2)), (7, (4, 2)), (0, (4, 0)), (1, (1, x2)), (3, (1, x3)), (5, (1, 0))]) (stN := []) (hsN := [(4, [(4, 1), (1, 1)], []), (101, [], [0, 0, 0, 0, 0, 0]), (101, [], [0, 0, 0, 0, 0, 0])]) (c1 := 0) (s1 := 0) (c2 := 1) (s2 := 2) (by exact rfl) ?_ (by omega) (by omega)
  refine jT_xiinc (x := 2) (z := 3) (LN := [(8, (0, 3)), (7, (4, 2)), (0, (4, 0)), (1, (1, x2)), (3, (1, x3)), (5, (1, 0))]) (pcN := 33) jI_10_30 rfl rfl (by decide) rfl rfl ?_
  refine jT_xgoto (pcN := 9) jI_10_33 rfl ?_
  refine jT_xiload (v := (0, 3)) (pcN := 11) jI_10_9 rfl rfl rfl ?_
  refine jT_xbipush (k := 6) (pcN := 13) jI_10_11 (by decide) rfl ?_
  refine jT_xicF (t := 36) (pcN := 16) jI_10_13 rfl (by decide +kernel) rfl rfl ?_
  refine jT_xaload (v := (4, 2)) (pcN := 18) jI_10_16 rfl rfl rfl ?_
  refine jT_xiload (v := (0, 3)) (pcN := 20) jI_10_18 rfl rfl rfl ?_
  refine jT_xaload_n (v := (4, 0)) (pcN := 21) jI_10_20 rfl rfl rfl ?_
  refine jT_xgetf (a := 0) (t := 1) (ci := 4) (fi := 0) (c := (4, [(4, 1), (1, 1)], [])) (v := (4, 1)) (pcN := 24) jI_10_21 rfl rfl rfl rfl rfl rfl rfl ?_
  refine jT_xiload (v := (0, 3)) (pcN := 26) jI_10_24 rfl rfl rfl ?_
  refine jT_lald (x := 0) (a := 1) (j := 3) (fs := []) (X := [0, 0, 0, 0, 0, 0]) jI_10_26 rfl rfl rfl rfl ?_
  refine jT_eq (LN := [(8, (0, 3)), (7, (4, 2)), (0, (4, 0)), (1, (1, x2)), (3, (1, x3)), (5, (1, 0))]) (stN := [(1, 0), (0, 3), (4, 2)]) (hsN := [(4, [(4, 1), (1, 1)], []), (101, [], [0, 0, 0, 0, 0, 0]), (101, [], [0, 0, 0, 0, 0, 0])]) rfl rfl rfl ?_
  refine jT_xlload_n (v := (1, x2)) (pcN := 28) jI_10_27 rfl rfl rfl ?_
  refine jT_xlmul (x := 0) (y := x2) (z := 0) (pcN := 29) jI_10_28 rfl (by omega) rfl ?_
  refine jT_adv 1 (pcN := 30) (LN := [(8, (0, 3)), (7, (4, 2)), (0, (4, 0)), (1, (1, x2)), (3, (1, x3)), (5, (1, 0))]) (stN := []) (hsN := [(4, [(4, 1), (1, 1)], []), (101, [], [0, 0, 0, 0, 0, 0]), (101, [], [0, 0, 0, 0, 0, 0])]) (c1 := 0) (s1 := 0) (c2 := 1) (s2 := 2) (by exact rfl) ?_ (by omega) (by omega)
  refine jT_xiinc (x := 3) (z := 4) (LN := [(8, (0, 4)), (7, (4, 2)), (0, (4, 0)), (1, (1, x2)), (3, (1, x3)), (5, (1, 0))]) (pcN := 33) jI_10_30 rfl rfl (by decide) rfl rfl ?_
  refine jT_xgoto (pcN := 9) jI_10_33 rfl ?_
  refine jT_xiload (v := (0, 4)) (pcN := 11) jI_10_9 rfl rfl rfl ?_
  refine jT_xbipush (k := 6) (pcN := 13) jI_10_11 (by decide) rfl ?_
  refine jT_xicF (t := 36) (pcN := 16) jI_10_13 rfl (by decide +kernel) rfl rfl ?_
  refine jT_xaload (v := (4, 2)) (pcN := 18) jI_10_16 rfl rfl rfl ?_
  refine jT_xiload (v := (0, 4)) (pcN := 20) jI_10_18 rfl rfl rfl ?_
  refine jT_xaload_n (v := (4, 0)) (pcN := 21) jI_10_20 rfl rfl rfl ?_
  refine jT_xgetf (a := 0) (t := 1) (ci := 4) (fi := 0) (c := (4, [(4, 1), (1, 1)], [])) (v := (4, 1)) (pcN := 24) jI_10_21 rfl rfl rfl rfl rfl rfl rfl ?_
  refine jT_xiload (v := (0, 4)) (pcN := 26) jI_10_24 rfl rfl rfl ?_
  refine jT_lald (x := 0) (a := 1) (j := 4) (fs := []) (X := [0, 0, 0, 0, 0, 0]) jI_10_26 rfl rfl rfl rfl ?_
  refine jT_eq (LN := [(8, (0, 4)), (7, (4, 2)), (0, (4, 0)), (1, (1, x2)), (3, (1, x3)), (5, (1, 0))]) (stN := [(1, 0), (0, 4), (4, 2)]) (hsN := [(4, [(4, 1), (1, 1)], []), (101, [], [0, 0, 0, 0, 0, 0]), (101, [], [0, 0, 0, 0, 0, 0])]) rfl rfl rfl ?_
  refine jT_xlload_n (v := (1, x2)) (pcN := 28) jI_10_27 rfl rfl rfl ?_
  refine jT_xlmul (x := 0) (y := x2) (z := 0) (pcN := 29) jI_10_28 rfl (by omega) rfl ?_
  refine jT_adv 1 (pcN := 30) (LN := [(8, (0, 4)), (7, (4, 2)), (0, (4, 0)), (1, (1, x2)), (3, (1, x3)), (5, (1, 0))]) (stN := []) (hsN := [(4, [(4, 1), (1, 1)], []), (101, [], [0, 0, 0, 0, 0, 0]), (101, [], [0, 0, 0, 0, 0, 0])]) (c1 := 0) (s1 := 0) (c2 := 1) (s2 := 2) (by exact rfl) ?_ (by omega) (by omega)
  refine jT_xiinc (x := 4) (z := 5) (LN := [(8, (0, 5)), (7, (4, 2)), (0, (4, 0)), (1, (1, x2)), (3, (1, x3)), (5, (1, 0))]) (pcN := 33) jI_10_30 rfl rfl (by decide) rfl rfl ?_
  refine jT_xgoto (pcN := 9) jI_10_33 rfl ?_
  refine jT_xiload (v := (0, 5)) (pcN := 11) jI_10_9 rfl rfl rfl ?_
  refine jT_xbipush (k := 6) (pcN := 13) jI_10_11 (by decide) rfl ?_
  refine jT_xicF (t := 36) (pcN := 16) jI_10_13 rfl (by decide +kernel) rfl rfl ?_
  refine jT_xaload (v := (4, 2)) (pcN := 18) jI_10_16 rfl rfl rfl ?_
  refine jT_xiload (v := (0, 5)) (pcN := 20) jI_10_18 rfl rfl rfl ?_
  refine jT_xaload_n (v := (4, 0)) (pcN := 21) jI_10_20 rfl rfl rfl ?_
  refine jT_xgetf (a := 0) (t := 1) (ci := 4) (fi := 0) (c := (4, [(4, 1), (1, 1)], [])) (v := (4, 1)) (pcN := 24) jI_10_21 rfl rfl rfl rfl rfl rfl rfl ?_
  refine jT_xiload (v := (0, 5)) (pcN := 26) jI_10_24 rfl rfl rfl ?_
  refine jT_lald (x := 0) (a := 1) (j := 5) (fs := []) (X := [0, 0, 0, 0, 0, 0]) jI_10_26 rfl rfl rfl rfl ?_
  refine jT_eq (LN := [(8, (0, 5)), (7, (4, 2)), (0, (4, 0)), (1, (1, x2)), (3, (1, x3)), (5, (1, 0))]) (stN := [(1, 0), (0, 5), (4, 2)]) (hsN := [(4, [(4, 1), (1, 1)], []), (101, [], [0, 0, 0, 0, 0, 0]), (101, [], [0, 0, 0, 0, 0, 0])]) rfl rfl rfl ?_
  refine jT_xlload_n (v := (1, x2)) (pcN := 28) jI_10_27 rfl rfl rfl ?_
  refine jT_xlmul (x := 0) (y := x2) (z := 0) (pcN := 29) jI_10_28 rfl (by omega) rfl ?_
  refine jT_adv 1 (pcN := 30) (LN := [(8, (0, 5)), (7, (4, 2)), (0, (4, 0)), (1, (1, x2)), (3, (1, x3)), (5, (1, 0))]) (stN := []) (hsN := [(4, [(4, 1), (1, 1)], []), (101, [], [0, 0, 0, 0, 0, 0]), (101, [], [0, 0, 0, 0, 0, 0])]) (c1 := 0) (s1 := 0) (c2 := 1) (s2 := 2) (by exact rfl) ?_ (by omega) (by omega)
  refine jT_xiinc (x := 5) (z := 6) (LN := [(8, (0, 6)), (7, (4, 2)), (0, (4, 0)), (1, (1, x2)), (3, (1, x3)), (5, (1, 0))]) (pcN := 33) jI_10_30 rfl rfl (by decide) rfl rfl ?_
  refine jT_xgoto (pcN := 9) jI_10_33 rfl ?_
  refine jT_xiload (v := (0, 6)) (pcN := 11) jI_10_9 rfl rfl rfl ?_
  refine jT_xbipush (k := 6) (pcN := 13) jI_10_11 (by decide) rfl ?_
  refine jT_xicT (pcN := 36) jI_10_13 rfl (by decide +kernel) rfl ?_
  refine jT_xaload (v := (4, 2)) (pcN := 38) jI_10_36 rfl rfl rfl ?_
  refine jT_xiconst (k := 0) (pcN := 39) jI_10_38 rfl ?_
  refine jT_adv 1 (pcN := 40) (LN := [(8, (0, 6)), (7, (4, 2)), (0, (4, 0)), (1, (1, x2)), (3, (1, x3)), (5, (1, 0))]) (stN := [(0, 0), (4, 2), (0, 0), (4, 2)]) (hsN := [(4, [(4, 1), (1, 1)], []), (101, [], [0, 0, 0, 0, 0, 0]), (101, [], [0, 0, 0, 0, 0, 0])]) (c1 := 0) (s1 := 0) (c2 := 1) (s2 := 2) (by exact rfl) ?_ (by omega) (by omega)
  refine jT_lald (x := 0) (a := 2) (j := 0) (fs := []) (X := [0, 0, 0, 0, 0, 0]) jI_10_40 rfl rfl rfl rfl ?_
  refine jT_eq (LN := [(8, (0, 6)), (7, (4, 2)), (0, (4, 0)), (1, (1, x2)), (3, (1, x3)), (5, (1, 0))]) (stN := [(1, 0), (0, 0), (4, 2)]) (hsN := [(4, [(4, 1), (1, 1)], []), (101, [], [0, 0, 0, 0, 0, 0]), (101, [], [0, 0, 0, 0, 0, 0])]) rfl rfl rfl ?_
  refine jT_xlload (v := (1, 0)) (pcN := 43) jI_10_41 rfl rfl rfl ?_
  refine jT_xaload_n (v := (4, 0)) (pcN := 44) jI_10_43 rfl rfl rfl ?_
  refine jT_xgetf (a := 0) (t := 1) (ci := 4) (fi := 1) (c := (4, [(4, 1), (1, 1)], [])) (v := (1, 1)) (pcN := 47) jI_10_44 rfl rfl rfl rfl rfl rfl rfl ?_
  refine jT_xlmul (x := 0) (y := 1) (z := 0) (pcN := 48) jI_10_47 rfl (by decide) rfl ?_
  refine jT_xlload_n (v := (1, x3)) (pcN := 49) jI_10_48 rfl rfl rfl ?_
  refine jT_xlmul (x := 0) (y := x3) (z := 0) (pcN := 50) jI_10_49 rfl (by omega) rfl ?_
  refine jT_xladd (x := 0) (y := 0) (z := 0) (pcN := 51) jI_10_50 rfl (by decide) rfl ?_
  refine jT_adv 3 (pcN := 56) (LN := [(8, (0, 6)), (7, (4, 2)), (0, (4, 0)), (1, (1, x2)), (3, (1, x3)), (5, (1, 0))]) (stN := [(4, 3), (4, 3)]) (hsN := jpA_48) (c1 := 1) (s1 := 2) (c2 := 0) (s2 := 0) (by exact rfl) ?_ (by omega) (by omega)
  refine jT_xaload (v := (4, 2)) (pcN := 58) jI_10_56 rfl rfl rfl ?_
  refine jT_xaload_n (v := (4, 0)) (pcN := 59) jI_10_58 rfl rfl rfl ?_
  refine jT_xgetf (a := 0) (t := 1) (ci := 4) (fi := 1) (c := (4, [(4, 1), (1, 1)], [])) (v := (1, 1)) (pcN := 62) jI_10_59 rfl rfl rfl rfl rfl rfl rfl ?_
  refine jT_xlload_n (v := (1, x3)) (pcN := 63) jI_10_62 rfl rfl rfl ?_
  refine jT_xlmul (x := 1) (y := x3) (z := x3) (pcN := 64) jI_10_63 rfl (by omega) rfl ?_
  refine jT_fB [3, 2] 4 (y := 9) (pcN := 67) (dC := 2) (bc1 := 0) (bc2 := 0) (c1 := 0) (c2 := 0) (as := [(4, 3), (4, 2), (1, x3)]) (asC := [(4, 0), (4, 1), (1, x3)]) (LN := [(8, (0, 6)), (7, (4, 2)), (0, (4, 0)), (1, (1, x2)), (3, (1, x3)), (5, (1, 0))]) (stN := [(4, 3)]) (hsC := [(4, [(4, (-1)), (1, 0)], []), (101, [], [0, 0, 0, 0, 0, 0])]) (hsD := [(4, [(4, 1), (1, 1)], []), (101, [], [0, 0, 0, 0, 0, 0])]) (v := (9, 0)) (st2 := [(4, 3)]) (hs2 := jpA_49) (jA_9_122 (d := 0) (by omega)) (by rfl) (by rfl) (by decide +kernel) (by rfl) (by rfl) (by omega) (by omega) (by omega) (by omega) rfl (by decide +kernel) ?_
  exact jT_ret rfl (by decide) (by show 2 ≤ 4; decide) (by omega) (by omega) ⟨rfl, rfl, rfl⟩
theorem jA_120_124 {xs : List Int} {d : Nat} {x1 x2 x3 : Int} (h_x1 : 0 ≤ x1 ∧ x1 ≤ 7) (h_x2 : (-100) ≤ x2 ∧ x2 ≤ 100) (h_x3 : 2 ≤ x3 ∧ x3 ≤ 24) : jT xs (d + 4) 120 19 0 [(0, (4, 0)), (1, (0, x1)), (2, (0, x2)), (3, (0, x3))] [] jpA_107 4 21 (fun k v hsN => k = 0 ∧ v = (0, 1) ∧ hsN = jpA_103) := by
  refine jT_xaload_n (v := (4, 0)) (pcN := 1) jI_120_0 rfl rfl rfl ?_
  refine jT_xiload_n (v := (0, x1)) (pcN := 2) jI_120_1 rfl rfl rfl ?_
  refine jT_xbipush (k := 8) (pcN := 4) jI_120_2 (by decide) rfl ?_
  refine jT_fR [0] 19 (y := 115) (pcN := 7) (dC := 0) (bc1 := 0) (bc2 := 0) (c1 := 4) (c2 := 21) (as := [(4, 0), (0, x1), (0, 8)]) (asC := [(4, 0), (0, x1), (0, 8)]) (LN := [(0, (4, 0)), (1, (0, x1)), (2, (0, x2)), (3, (0, x3))]) (stN := []) (hsC := [jgh]) (v := (9, 0)) (st2 := []) (jA_115_9 (d := 0) (by omega)) (by rfl) (by rfl) (by decide +kernel) (by rfl) (by rfl) (by omega) (by omega) (by omega) (by omega) rfl ?_
  refine jT_xaload_n (v := (4, 0)) (pcN := 8) jI_120_7 rfl rfl rfl ?_
  refine jT_xiload_n (v := (0, x2)) (pcN := 9) jI_120_8 rfl rfl rfl ?_
  refine jT_xbipush (k := (-100)) (pcN := 11) jI_120_9 (by decide) rfl ?_
  refine jT_xbipush (k := 100) (pcN := 13) jI_120_11 (by decide) rfl ?_
  refine jT_fR [0] 19 (y := 116) (pcN := 16) (dC := 0) (bc1 := 0) (bc2 := 0) (c1 := 4) (c2 := 21) (as := [(4, 0), (0, x2), (0, (-100)), (0, 100)]) (asC := [(4, 0), (0, x2), (0, (-100)), (0, 100)]) (LN := [(0, (4, 0)), (1, (0, x1)), (2, (0, x2)), (3, (0, x3))]) (stN := []) (hsC := [jgh]) (v := (9, 0)) (st2 := []) (jA_116_102 (d := 0) (by omega)) (by rfl) (by rfl) (by decide +kernel) (by rfl) (by rfl) (by omega) (by omega) (by omega) (by omega) rfl ?_
  refine jT_xaload_n (v := (4, 0)) (pcN := 17) jI_120_16 rfl rfl rfl ?_
  refine jT_xiload_n (v := (0, x3)) (pcN := 18) jI_120_17 rfl rfl rfl ?_
  refine jT_xiconst (k := 1) (pcN := 19) jI_120_18 rfl ?_
  refine jT_xbipush (k := 24) (pcN := 21) jI_120_19 (by decide) rfl ?_
  refine jT_fR [0] 19 (y := 116) (pcN := 24) (dC := 0) (bc1 := 0) (bc2 := 0) (c1 := 4) (c2 := 21) (as := [(4, 0), (0, x3), (0, 1), (0, 24)]) (asC := [(4, 0), (0, x3), (0, 1), (0, 24)]) (LN := [(0, (4, 0)), (1, (0, x1)), (2, (0, x2)), (3, (0, x3))]) (stN := []) (hsC := [jgh]) (v := (9, 0)) (st2 := []) (jA_116_119 (d := 0) (by omega)) (by rfl) (by rfl) (by decide +kernel) (by rfl) (by rfl) (by omega) (by omega) (by omega) (by omega) rfl ?_
  refine jT_xaload_n (v := (4, 0)) (pcN := 25) jI_120_24 rfl rfl rfl ?_
  refine jT_xgetf (a := 0) (t := 1) (ci := 13) (fi := 11) (c := jzA_5) (v := (4, 11)) (pcN := 28) jI_120_25 rfl rfl rfl rfl rfl rfl rfl ?_
  refine jT_xiload_n (v := (0, x1)) (pcN := 29) jI_120_28 rfl rfl rfl ?_
  refine jT_fR [11, 12, 13, 14, 15, 16, 17] 19 (y := 57) (pcN := 32) (dC := 0) (bc1 := 0) (bc2 := 0) (c1 := 4) (c2 := 21) (as := [(4, 11), (0, x1)]) (asC := [(4, 0), (0, x1)]) (LN := [(0, (4, 0)), (1, (0, x1)), (2, (0, x2)), (3, (0, x3))]) (stN := []) (hsC := jpA_47) (v := (4, 6)) (st2 := [(4, 17)]) (jA_57_108 (d := 0) (by omega)) (by rfl) (by rfl) (by decide +kernel) (by rfl) (by rfl) (by omega) (by omega) (by omega) (by omega) rfl ?_
  refine jT_xiload_n (v := (0, x2)) (pcN := 33) jI_120_32 rfl rfl rfl ?_
  refine jT_xi2l (x := x2) (z := x2) (pcN := 34) jI_120_33 rfl (jw_idd (by omega) (by omega)) rfl ?_
  refine jT_xiload_n (v := (0, x3)) (pcN := 35) jI_120_34 rfl rfl rfl ?_
  refine jT_xi2l (x := x3) (z := x3) (pcN := 36) jI_120_35 rfl (jw_idd (by omega) (by omega)) rfl ?_
  refine jT_xlconst (z := 0) (pcN := 37) jI_120_36 rfl rfl ?_
  refine jT_fA [17, 18] 19 (y := 10) (pcN := 40) (dC := 3) (bc1 := 2) (bc2 := 8) (c1 := 2) (c2 := 13) (as := [(4, 17), (1, x2), (1, x3), (1, 0)]) (asC := [(4, 0), (1, x2), (1, x3), (1, 0)]) (LN := [(0, (4, 0)), (1, (0, x1)), (2, (0, x2)), (3, (0, x3))]) (stN := []) (hsC := [(4, [(4, 1), (1, 1)], []), (101, [], [0, 0, 0, 0, 0, 0])]) (ex := [(101, [], [0, 0, 0, 0, 0, 0]), (4, [(4, 2), (1, 1)], [])]) (v := (4, 3)) (st2 := [(4, 20)]) (hs2 := jpA_90) (jA_10_123 (d := 0) (by omega) (by omega)) (by rfl) (by rfl) (by decide +kernel) (by rfl) (by rfl) (by omega) (by omega) (by omega) (by omega) rfl (by decide +kernel) ?_
  refine jT_xastore (v := (4, 20)) (LN := [(4, (4, 20)), (0, (4, 0)), (1, (0, x1)), (2, (0, x2)), (3, (0, x3))]) (pcN := 42) jI_120_40 rfl rfl rfl rfl ?_
  refine jT_xaload_n (v := (4, 0)) (pcN := 43) jI_120_42 rfl rfl rfl ?_
  refine jT_xaload (v := (4, 20)) (pcN := 45) jI_120_43 rfl rfl rfl ?_
  refine jT_fR [0, 20, 19] 21 (y := 117) (pcN := 48) (dC := 2) (bc1 := 0) (bc2 := 0) (c1 := 2) (c2 := 13) (as := [(4, 0), (4, 20)]) (asC := [(4, 0), (4, 1)]) (LN := [(4, (4, 20)), (0, (4, 0)), (1, (0, x1)), (2, (0, x2)), (3, (0, x3))]) (stN := []) (hsC := [jgh, (4, [(4, 2), (1, 1)], []), (101, [], [0, 0, 0, 0, 0, 0])]) (v := (9, 0)) (st2 := []) (jA_117_31 (d := 0)) (by rfl) (by rfl) (by decide +kernel) (by rfl) (by rfl) (by omega) (by omega) (by omega) (by omega) rfl ?_
  refine jT_xaload_n (v := (4, 0)) (pcN := 49) jI_120_48 rfl rfl rfl ?_
  refine jT_xaload_n (v := (4, 0)) (pcN := 50) jI_120_49 rfl rfl rfl ?_
  refine jT_xgetf (a := 0) (t := 1) (ci := 13) (fi := 11) (c := jzA_5) (v := (4, 11)) (pcN := 53) jI_120_50 rfl rfl rfl rfl rfl rfl rfl ?_
  refine jT_xiload_n (v := (0, x1)) (pcN := 54) jI_120_53 rfl rfl rfl ?_
  refine jT_xaload (v := (4, 20)) (pcN := 56) jI_120_54 rfl rfl rfl ?_
  refine jT_fA [11, 20, 12, 13, 14, 15, 16, 19, 17] 21 (y := 58) (pcN := 59) (dC := 1) (bc1 := 2) (bc2 := 13) (c1 := 0) (c2 := 0) (as := [(4, 11), (0, x1), (4, 20)]) (asC := [(4, 0), (0, x1), (4, 1)]) (LN := [(4, (4, 20)), (0, (4, 0)), (1, (0, x1)), (2, (0, x2)), (3, (0, x3))]) (stN := [(4, 0)]) (hsC := jpA_74) (ex := [jgh, jzA_72]) (v := (4, 10)) (st2 := [(4, 22), (4, 0)]) (hs2 := jpA_100) (jA_58_33 (d := 0) (by omega)) (by rfl) (by rfl) (by decide +kernel) (by rfl) (by rfl) (by omega) (by omega) (by omega) (by omega) rfl (by decide +kernel) ?_
  refine jT_fB [0, 22, 1, 2, 3, 4, 5, 6, 7, 8, 9, 10, 11, 12, 13, 14, 15, 16] 23 (y := 100) (pcN := 62) (dC := 0) (bc1 := 0) (bc2 := 0) (c1 := 0) (c2 := 0) (as := [(4, 0), (4, 22)]) (asC := [(4, 0), (4, 1)]) (LN := [(4, (4, 20)), (0, (4, 0)), (1, (0, x1)), (2, (0, x2)), (3, (0, x3))]) (stN := []) (hsC := jpA_80) (hsD := jpA_78) (v := (9, 0)) (st2 := []) (hs2 := jpA_103) (jA_100_34 (d := 0)) (by rfl) (by rfl) (by decide +kernel) (by rfl) (by rfl) (by omega) (by omega) (by omega) (by omega) rfl (by decide +kernel) ?_
  refine jT_xaload (v := (4, 20)) (pcN := 64) jI_120_62 rfl rfl rfl ?_
  refine jT_xgetf (a := 20) (t := 2) (ci := 4) (fi := 1) (c := (4, [(4, 19), (1, 1)], [])) (v := (1, 1)) (pcN := 67) jI_120_64 rfl rfl rfl rfl rfl rfl rfl ?_
  refine jT_xl2i (pcN := 68) jI_120_67 rfl rfl ?_
  exact jT_ret rfl (by decide) (by show 19 ≤ 23; decide) (by omega) (by omega) ⟨rfl, rfl, rfl⟩
theorem jA_329_125 {xs : List Int} {d : Nat} {x1 x2 x3 : Int} (h_x1 : 0 ≤ x1 ∧ x1 ≤ 7) (h_x2 : (-100) ≤ x2 ∧ x2 ≤ 100) (h_x3 : 2 ≤ x3 ∧ x3 ≤ 24) : jT xs (d + 5) 329 20 0 [(0, (4, 0)), (1, (0, x1)), (2, (0, x2)), (3, (0, x3)), (4, (4, 1))] [] jpA_116 4 21 (fun k v hsN => k = 0 ∧ v = (0, 0) ∧ hsN = jpA_113) := by
  refine jT_xaload (v := (4, 1)) (pcN := 2) jI_329_0 rfl rfl rfl ?_
  refine jT_xiconst (k := 0) (pcN := 3) jI_329_2 rfl ?_
  refine jT_xaload_n (v := (4, 0)) (pcN := 4) jI_329_3 rfl rfl rfl ?_
  refine jT_xiload_n (v := (0, x1)) (pcN := 5) jI_329_4 rfl rfl rfl ?_
  refine jT_xiload_n (v := (0, x2)) (pcN := 6) jI_329_5 rfl rfl rfl ?_
  refine jT_xiload_n (v := (0, x3)) (pcN := 7) jI_329_6 rfl rfl rfl ?_
  refine jT_fB [0, 2, 3, 4, 5, 6, 7, 8, 9, 10, 11, 12, 13, 14, 15, 16, 17, 18, 19] 20 (y := 120) (pcN := 10) (dC := 4) (bc1 := 4) (bc2 := 21) (c1 := 0) (c2 := 0) (as := [(4, 0), (0, x1), (0, x2), (0, x3)]) (asC := [(4, 0), (0, x1), (0, x2), (0, x3)]) (LN := [(0, (4, 0)), (1, (0, x1)), (2, (0, x2)), (3, (0, x3)), (4, (4, 1))]) (stN := [(0, 0), (4, 1)]) (hsC := jpA_107) (hsD := jpA_103) (v := (0, 1)) (st2 := [(0, 1), (0, 0), (4, 1)]) (hs2 := jpA_111) (jA_120_124 (d := 0) (by omega) (by omega) (by omega)) (by rfl) (by rfl) (by decide +kernel) (by rfl) (by rfl) (by omega) (by omega) (by omega) (by omega) rfl (by decide +kernel) ?_
  refine jT_xi2l (x := 1) (z := 1) (pcN := 11) jI_329_10 rfl (by decide +kernel) rfl ?_
  refine jT_adv 1 (pcN := 12) (LN := [(0, (4, 0)), (1, (0, x1)), (2, (0, x2)), (3, (0, x3)), (4, (4, 1))]) (stN := []) (hsN := jpA_113) (c1 := 0) (s1 := 0) (c2 := 0) (s2 := 0) (by exact rfl) ?_ (by omega) (by omega)
  refine jT_xgoto (pcN := 27) jI_329_12 rfl ?_
  refine jT_xiconst (k := 0) (pcN := 28) jI_329_27 rfl ?_
  exact jT_ret rfl (by decide) (by show 20 ≤ 24; decide) (by omega) (by omega) ⟨rfl, rfl, rfl⟩
theorem jI_194_0 : jmI (jm 194) 0 = (.lload_n 2, 1) := by rfl
theorem jI_194_1 : jmI (jm 194) 1 = (.lconst 0, 1) := by rfl
theorem jI_194_3 : jmI (jm 194) 3 = (.ifCond .ne 10, 3) := by rfl
theorem jI_194_6 : jmI (jm 194) 6 = (.lload_n 0, 1) := by rfl
theorem jI_194_10 : jmI (jm 194) 10 = (.goto 10, 3) := by rfl
theorem jA_194_126 {xs : List Int} {d : Nat} {x3 : Int} (h_x3 : 2 ≤ x3 ∧ x3 ≤ 24) : jT xs d 194 0 0 [(0, (1, x3)), (2, (1, 0))] [] [] 0 0 (fun k v hsN => k = 0 ∧ v = (1, x3) ∧ hsN = [] ++ []) := by
  refine jT_xlload_n (v := (1, 0)) (pcN := 1) jI_194_0 rfl rfl rfl ?_
  refine jT_xlconst (z := 0) (pcN := 2) jI_194_1 rfl rfl ?_
  refine jT_lcmp (a := 0) (b := 0) (z := 0) (by rfl) (by rfl) (by decide +kernel) (by decide +kernel) (by decide) ?_
  refine jT_xifF (t := 13) (pcN := 6) jI_194_3 rfl (by decide +kernel) rfl rfl ?_
  refine jT_xlload_n (v := (1, x3)) (pcN := 7) jI_194_6 rfl rfl rfl ?_
  refine jT_labs (z := x3) (by rfl) (by rfl) (by rfl) (by rfl) (by rw [show jwl (x3) = x3 from jwl_idd (by omega) (by omega), decide_eq_false (by omega)]; first | rfl | (show (_ : Int) = _; simp only [cond_true, cond_false]; omega)) ?_
  refine jT_xgoto (pcN := 20) jI_194_10 rfl ?_
  exact jT_ret rfl (by decide) (by show 0 ≤ 0; decide) (by omega) (by omega) ⟨rfl, rfl, rfl⟩
theorem jI_199_0 : jmI (jm 199) 0 = (.aload_n 0, 1) := by rfl
theorem jI_199_1 : jmI (jm 199) 1 = (.getfield 35, 3) := by rfl
theorem jI_199_4 : jmI (jm 199) 4 = (.lstore_n 1, 1) := by rfl
theorem jI_199_5 : jmI (jm 199) 5 = (.iconst 0, 1) := by rfl
theorem jI_199_6 : jmI (jm 199) 6 = (.istore_n 3, 1) := by rfl
theorem jI_199_7 : jmI (jm 199) 7 = (.iload_n 3, 1) := by rfl
theorem jI_199_8 : jmI (jm 199) 8 = (.bipush 6, 2) := by rfl
theorem jI_199_10 : jmI (jm 199) 10 = (.if_icmp .ge 20, 3) := by rfl
theorem jI_199_13 : jmI (jm 199) 13 = (.lload_n 1, 1) := by rfl
theorem jI_199_14 : jmI (jm 199) 14 = (.aload_n 0, 1) := by rfl
theorem jI_199_15 : jmI (jm 199) 15 = (.getfield 31, 3) := by rfl
theorem jI_199_18 : jmI (jm 199) 18 = (.iload_n 3, 1) := by rfl
theorem jI_199_19 : jmI (jm 199) 19 = (.laload, 1) := by rfl
theorem jI_199_23 : jmI (jm 199) 23 = (.lstore_n 1, 1) := by rfl
theorem jI_199_24 : jmI (jm 199) 24 = (.iinc 3 1, 3) := by rfl
theorem jI_199_27 : jmI (jm 199) 27 = (.goto (-20), 3) := by rfl
theorem jI_199_30 : jmI (jm 199) 30 = (.aload_n 0, 1) := by rfl
theorem jI_199_31 : jmI (jm 199) 31 = (.getfield 31, 3) := by rfl
theorem jI_199_37 : jmI (jm 199) 37 = (.ifCond .eq 8, 3) := by rfl
theorem jI_199_40 : jmI (jm 199) 40 = (.aload_n 0, 1) := by rfl
theorem jI_199_41 : jmI (jm 199) 41 = (.getfield 35, 3) := by rfl
theorem jI_199_44 : jmI (jm 199) 44 = (.lstore_n 1, 1) := by rfl
theorem jI_199_45 : jmI (jm 199) 45 = (.iconst 0, 1) := by rfl
theorem jI_199_46 : jmI (jm 199) 46 = (.istore_n 3, 1) := by rfl
theorem jI_199_47 : jmI (jm 199) 47 = (.iload_n 3, 1) := by rfl
theorem jI_199_48 : jmI (jm 199) 48 = (.bipush 6, 2) := by rfl
theorem jI_199_50 : jmI (jm 199) 50 = (.if_icmp .ge 19, 3) := by rfl
theorem jI_199_53 : jmI (jm 199) 53 = (.aload_n 0, 1) := by rfl
theorem jI_199_54 : jmI (jm 199) 54 = (.getfield 31, 3) := by rfl
theorem jI_199_57 : jmI (jm 199) 57 = (.iload_n 3, 1) := by rfl
theorem jI_199_59 : jmI (jm 199) 59 = (.laload, 1) := by rfl
theorem jI_199_60 : jmI (jm 199) 60 = (.lload_n 1, 1) := by rfl
theorem jI_199_63 : jmI (jm 199) 63 = (.iinc 3 1, 3) := by rfl
theorem jI_199_66 : jmI (jm 199) 66 = (.goto (-19), 3) := by rfl
theorem jI_199_69 : jmI (jm 199) 69 = (.aload_n 0, 1) := by rfl
theorem jI_199_71 : jmI (jm 199) 71 = (.getfield 35, 3) := by rfl
theorem jI_199_74 : jmI (jm 199) 74 = (.lload_n 1, 1) := by rfl
theorem jA_199_127 {xs : List Int} {d : Nat} {x3 : Int} (h_x3 : 2 ≤ x3 ∧ x3 ≤ 24) : jT xs (d + 1) 199 16 0 [(0, (4, 0))] [] [(14, [(0, 0), (4, 1), (4, 2), (4, 3), (4, 4), (0, 0), (4, 5), (0, 0), (4, 6), (4, 7), (1, x3), (4, 8), (0, 0), (4, 9), (0, 0), (0, 0), (0, 0), (0, 0), (0, 0), (0, 0), (0, 0), (4, 10), (4, 11), (4, 12), (4, 13), (4, 14), (4, 15), (0, 0)], []), jgh, jgh, jgh, jgh, jgh, jgh, (101, [], [0, 0, 0, 0, 0, 0]), jgh, jgh, jgh, jgh, jgh, jgh, jgh, jgh] 0 0 (fun k v hsN => k = 0 ∧ v = (9, 0) ∧ hsN = jpA_147) := by
  refine jT_xaload_n (v := (4, 0)) (pcN := 1) jI_199_0 rfl rfl rfl ?_
  refine jT_xgetf (a := 0) (t := 1) (ci := 14) (fi := 10) (c := (14, [(0, 0), (4, 1), (4, 2), (4, 3), (4, 4), (0, 0), (4, 5), (0, 0), (4, 6), (4, 7), (1, x3), (4, 8), (0, 0), (4, 9), (0, 0), (0, 0), (0, 0), (0, 0), (0, 0), (0, 0), (0, 0), (4, 10), (4, 11), (4, 12), (4, 13), (4, 14), (4, 15), (0, 0)], [])) (v := (1, x3)) (pcN := 4) jI_199_1 rfl rfl rfl rfl rfl rfl rfl ?_
  refine jT_xlstore_n (v := (1, x3)) (LN := [(1, (1, x3)), (0, (4, 0))]) (pcN := 5) jI_199_4 rfl rfl rfl rfl ?_
  refine jT_xiconst (k := 0) (pcN := 6) jI_199_5 rfl ?_
  refine jT_xistore_n (v := (0, 0)) (LN := [(3, (0, 0)), (1, (1, x3)), (0, (4, 0))]) (pcN := 7) jI_199_6 rfl rfl rfl rfl ?_
  refine jT_xiload_n (v := (0, 0)) (pcN := 8) jI_199_7 rfl rfl rfl ?_
  refine jT_xbipush (k := 6) (pcN := 10) jI_199_8 (by decide) rfl ?_
  refine jT_xicF (t := 30) (pcN := 13) jI_199_10 rfl (by decide +kernel) rfl rfl ?_
  refine jT_xlload_n (v := (1, x3)) (pcN := 14) jI_199_13 rfl rfl rfl ?_
  refine jT_xaload_n (v := (4, 0)) (pcN := 15) jI_199_14 rfl rfl rfl ?_
  refine jT_xgetf (a := 0) (t := 1) (ci := 14) (fi := 9) (c := (14, [(0, 0), (4, 1), (4, 2), (4, 3), (4, 4), (0, 0), (4, 5), (0, 0), (4, 6), (4, 7), (1, x3), (4, 8), (0, 0), (4, 9), (0, 0), (0, 0), (0, 0), (0, 0), (0, 0), (0, 0), (0, 0), (4, 10), (4, 11), (4, 12), (4, 13), (4, 14), (4, 15), (0, 0)], [])) (v := (4, 7)) (pcN := 18) jI_199_15 rfl rfl rfl rfl rfl rfl rfl ?_
  refine jT_xiload_n (v := (0, 0)) (pcN := 19) jI_199_18 rfl rfl rfl ?_
  refine jT_lald (x := 0) (a := 7) (j := 0) (fs := []) (X := [0, 0, 0, 0, 0, 0]) jI_199_19 rfl rfl rfl rfl ?_
  refine jT_eq (LN := [(3, (0, 0)), (1, (1, x3)), (0, (4, 0))]) (stN := [(1, 0), (1, x3)]) (hsN := [(14, [(0, 0), (4, 1), (4, 2), (4, 3), (4, 4), (0, 0), (4, 5), (0, 0), (4, 6), (4, 7), (1, x3), (4, 8), (0, 0), (4, 9), (0, 0), (0, 0), (0, 0), (0, 0), (0, 0), (0, 0), (0, 0), (4, 10), (4, 11), (4, 12), (4, 13), (4, 14), (4, 15), (0, 0)], []), jgh, jgh, jgh, jgh, jgh, jgh, (101, [], [0, 0, 0, 0, 0, 0]), jgh, jgh, jgh, jgh, jgh, jgh, jgh, jgh]) rfl rfl rfl ?_
  refine jT_callA [] (y := 194) (pcN := 23) (dC := 0) (bc1 := 0) (bc2 := 0) (c1 := 0) (c2 := 0) (as := [(1, x3), (1, 0)]) (asC := [(1, x3), (1, 0)]) (LN := [(3, (0, 0)), (1, (1, x3)), (0, (4, 0))]) (stN := []) (hsC := []) (ex := []) (v := (1, x3)) (st2 := [(1, x3)]) (hs2 := [(14, [(0, 0), (4, 1), (4, 2), (4, 3), (4, 4), (0, 0), (4, 5), (0, 0), (4, 6), (4, 7), (1, x3), (4, 8), (0, 0), (4, 9), (0, 0), (0, 0), (0, 0), (0, 0), (0, 0), (0, 0), (0, 0), (4, 10), (4, 11), (4, 12), (4, 13), (4, 14), (4, 15), (0, 0)], []), jgh, jgh, jgh, jgh, jgh, jgh, (101, [], [0, 0, 0, 0, 0, 0]), jgh, jgh, jgh, jgh, jgh, jgh, jgh, jgh]) (jA_194_126 (d := 0) (by omega)) (by rfl) (by rfl) (by rfl) (by rfl) trivial (by rfl) (by rfl) (by omega) (by show 16 ≤ 16; omega) (by omega) (by omega) rfl rfl ?_
  refine jT_xlstore_n (v := (1, x3)) (LN := [(1, (1, x3)), (3, (0, 0)), (0, (4, 0))]) (pcN := 24) jI_199_23 rfl rfl rfl rfl ?_
  refine jT_xiinc (x := 0) (z := 1) (LN := [(3, (0, 1)), (1, (1, x3)), (0, (4, 0))]) (pcN := 27) jI_199_24 rfl rfl (by decide) rfl rfl ?_
  refine jT_xgoto (pcN := 7) jI_199_27 rfl ?_
  refine jT_xiload_n (v := (0, 1)) (pcN := 8) jI_199_7 rfl rfl rfl ?_
  refine jT_xbipush (k := 6) (pcN := 10) jI_199_8 (by decide) rfl ?_
  refine jT_xicF (t := 30) (pcN := 13) jI_199_10 rfl (by decide +kernel) rfl rfl ?_
  refine jT_xlload_n (v := (1, x3)) (pcN := 14) jI_199_13 rfl rfl rfl ?_
  refine jT_xaload_n (v := (4, 0)) (pcN := 15) jI_199_14 rfl rfl rfl ?_
  refine jT_xgetf (a := 0) (t := 1) (ci := 14) (fi := 9) (c := (14, [(0, 0), (4, 1), (4, 2), (4, 3), (4, 4), (0, 0), (4, 5), (0, 0), (4, 6), (4, 7), (1, x3), (4, 8), (0, 0), (4, 9), (0, 0), (0, 0), (0, 0), (0, 0), (0, 0), (0, 0), (0, 0), (4, 10), (4, 11), (4, 12), (4, 13), (4, 14), (4, 15), (0, 0)], [])) (v := (4, 7)) (pcN := 18) jI_199_15 rfl rfl rfl rfl rfl rfl rfl ?_
  refine jT_xiload_n (v := (0, 1)) (pcN := 19) jI_199_18 rfl rfl rfl ?_
  refine jT_lald (x := 0) (a := 7) (j := 1) (fs := []) (X := [0, 0, 0, 0, 0, 0]) jI_199_19 rfl rfl rfl rfl ?_
  refine jT_eq (LN := [(3, (0, 1)), (1, (1, x3)), (0, (4, 0))]) (stN := [(1, 0), (1, x3)]) (hsN := [(14, [(0, 0), (4, 1), (4, 2), (4, 3), (4, 4), (0, 0), (4, 5), (0, 0), (4, 6), (4, 7), (1, x3), (4, 8), (0, 0), (4, 9), (0, 0), (0, 0), (0, 0), (0, 0), (0, 0), (0, 0), (0, 0), (4, 10), (4, 11), (4, 12), (4, 13), (4, 14), (4, 15), (0, 0)], []), jgh, jgh, jgh, jgh, jgh, jgh, (101, [], [0, 0, 0, 0, 0, 0]), jgh, jgh, jgh, jgh, jgh, jgh, jgh, jgh]) rfl rfl rfl ?_
  refine jT_callA [] (y := 194) (pcN := 23) (dC := 0) (bc1 := 0) (bc2 := 0) (c1 := 0) (c2 := 0) (as := [(1, x3), (1, 0)]) (asC := [(1, x3), (1, 0)]) (LN := [(3, (0, 1)), (1, (1, x3)), (0, (4, 0))]) (stN := []) (hsC := []) (ex := []) (v := (1, x3)) (st2 := [(1, x3)]) (hs2 := [(14, [(0, 0), (4, 1), (4, 2), (4, 3), (4, 4), (0, 0), (4, 5), (0, 0), (4, 6), (4, 7), (1, x3), (4, 8), (0, 0), (4, 9), (0, 0), (0, 0), (0, 0), (0, 0), (0, 0), (0, 0), (0, 0), (4, 10), (4, 11), (4, 12), (4, 13), (4, 14), (4, 15), (0, 0)], []), jgh, jgh, jgh, jgh, jgh, jgh, (101, [], [0, 0, 0, 0, 0, 0]), jgh, jgh, jgh, jgh, jgh, jgh, jgh, jgh]) (jA_194_126 (d := 0) (by omega)) (by rfl) (by rfl) (by rfl) (by rfl) trivial (by rfl) (by rfl) (by omega) (by show 16 ≤ 16; omega) (by omega) (by omega) rfl rfl ?_
  refine jT_xlstore_n (v := (1, x3)) (LN := [(1, (1, x3)), (3, (0, 1)), (0, (4, 0))]) (pcN := 24) jI_199_23 rfl rfl rfl rfl ?_
  refine jT_xiinc (x := 1) (z := 2) (LN := [(3, (0, 2)), (1, (1, x3)), (0, (4, 0))]) (pcN := 27) jI_199_24 rfl rfl (by decide) rfl rfl ?_
  refine jT_xgoto (pcN := 7) jI_199_27 rfl ?_
  refine jT_xiload_n (v := (0, 2)) (pcN := 8) jI_199_7 rfl rfl rfl ?_
  refine jT_xbipush (k := 6) (pcN := 10) jI_199_8 (by decide) rfl ?_
  refine jT_xicF (t := 30) (pcN := 13) jI_199_10 rfl (by decide +kernel) rfl rfl ?_
  refine jT_xlload_n (v := (1, x3)) (pcN := 14) jI_199_13 rfl rfl rfl ?_
  refine jT_xaload_n (v := (4, 0)) (pcN := 15) jI_199_14 rfl rfl rfl ?_
  refine jT_xgetf (a := 0) (t := 1) (ci := 14) (fi := 9) (c := (14, [(0, 0), (4, 1), (4, 2), (4, 3), (4, 4), (0, 0), (4, 5), (0, 0), (4, 6), (4, 7), (1, x3), (4, 8), (0, 0), (4, 9), (0, 0), (0, 0), (0, 0), (0, 0), (0, 0), (0, 0), (0, 0), (4, 10), (4, 11), (4, 12), (4, 13), (4, 14), (4, 15), (0, 0)], [])) (v := (4, 7)) (pcN := 18) jI_199_15 rfl rfl rfl rfl rfl rfl rfl ?_
  refine jT_xiload_n (v := (0, 2)) (pcN := 19) jI_199_18 rfl rfl rfl ?_
  refine jT_lald (x := 0) (a := 7) (j := 2) (fs := []) (X := [0, 0, 0, 0, 0, 0]) jI_199_19 rfl rfl rfl rfl ?_
  refine jT_eq (LN := [(3, (0, 2)), (1, (1, x3)), (0, (4, 0))]) (stN := [(1, 0), (1, x3)]) (hsN := [(14, [(0, 0), (4, 1), (4, 2), (4, 3), (4, 4), (0, 0), (4, 5), (0, 0), (4, 6), (4, 7), (1, x3), (4, 8), (0, 0), (4, 9), (0, 0), (0, 0), (0, 0), (0, 0), (0, 0), (0, 0), (0, 0), (4, 10), (4, 11), (4, 12), (4, 13), (4, 14), (4, 15), (0, 0)], []), jgh, jgh, jgh, jgh, jgh, jgh, (101, [], [0, 0, 0, 0, 0, 0]), jgh, jgh, jgh, jgh, jgh, jgh, jgh, jgh]) rfl rfl rfl ?_
  refine jT_callA [] (y := 194) (pcN := 23) (dC := 0) (bc1 := 0) (bc2 := 0) (c1 := 0) (c2 := 0) (as := [(1, x3), (1, 0)]) (asC := [(1, x3), (1, 0)]) (LN := [(3, (0, 2)), (1, (1, x3)), (0, (4, 0))]) (stN := []) (hsC := []) (ex := []) (v := (1, x3)) (st2 := [(1, x3)]) (hs2 := [(14, [(0, 0), (4, 1), (4, 2), (4, 3), (4, 4), (0, 0), (4, 5), (0, 0), (4, 6), (4, 7), (1, x3), (4, 8), (0, 0), (4, 9), (0, 0), (0, 0), (0, 0), (0, 0), (0, 0), (0, 0), (0, 0), (4, 10), (4, 11), (4, 12), (4, 13), (4, 14), (4, 15), (0, 0)], []), jgh, jgh, jgh, jgh, jgh, jgh, (101, [], [0, 0, 0, 0, 0, 0]), jgh, jgh, jgh, jgh, jgh, jgh, jgh, jgh]) (jA_194_126 (d := 0) (by omega)) (by rfl) (by rfl) (by rfl) (by rfl) trivial (by rfl) (by rfl) (by omega) (by show 16 ≤ 16; omega) (by omega) (by omega) rfl rfl ?_
  refine jT_xlstore_n (v := (1, x3)) (LN := [(1, (1, x3)), (3, (0, 2)), (0, (4, 0))]) (pcN := 24) jI_199_23 rfl rfl rfl rfl ?_
  refine jT_xiinc (x := 2) (z := 3) (LN := [(3, (0, 3)), (1, (1, x3)), (0, (4, 0))]) (pcN := 27) jI_199_24 rfl rfl (by decide) rfl rfl ?_
  refine jT_xgoto (pcN := 7) jI_199_27 rfl ?_
  refine jT_xiload_n (v := (0, 3)) (pcN := 8) jI_199_7 rfl rfl rfl ?_
  refine jT_xbipush (k := 6) (pcN := 10) jI_199_8 (by decide) rfl ?_
  refine jT_xicF (t := 30) (pcN := 13) jI_199_10 rfl (by decide +kernel) rfl rfl ?_
  refine jT_xlload_n (v := (1, x3)) (pcN := 14) jI_199_13 rfl rfl rfl ?_
  refine jT_xaload_n (v := (4, 0)) (pcN := 15) jI_199_14 rfl rfl rfl ?_
  refine jT_xgetf (a := 0) (t := 1) (ci := 14) (fi := 9) (c := (14, [(0, 0), (4, 1), (4, 2), (4, 3), (4, 4), (0, 0), (4, 5), (0, 0), (4, 6), (4, 7), (1, x3), (4, 8), (0, 0), (4, 9), (0, 0), (0, 0), (0, 0), (0, 0), (0, 0), (0, 0), (0, 0), (4, 10), (4, 11), (4, 12), (4, 13), (4, 14), (4, 15), (0, 0)], [])) (v := (4, 7)) (pcN := 18) jI_199_15 rfl rfl rfl rfl rfl rfl rfl ?_
  refine jT_xiload_n (v := (0, 3)) (pcN := 19) jI_199_18 rfl rfl rfl ?_
  refine jT_lald (x := 0) (a := 7) (j := 3) (fs := []) (X := [0, 0, 0, 0, 0, 0]) jI_199_19 rfl rfl rfl rfl ?_
  refine jT_eq (LN := [(3, (0, 3)), (1, (1, x3)), (0, (4, 0))]) (stN := [(1, 0), (1, x3)]) (hsN := [(14, [(0, 0), (4, 1), (4, 2), (4, 3), (4, 4), (0, 0), (4, 5), (0, 0), (4, 6), (4, 7), (1, x3), (4, 8), (0, 0), (4, 9), (0, 0), (0, 0), (0, 0), (0, 0), (0, 0), (0, 0), (0, 0), (4, 10), (4, 11), (4, 12), (4, 13), (4, 14), (4, 15), (0, 0)], []), jgh, jgh, jgh, jgh, jgh, jgh, (101, [], [0, 0, 0, 0, 0, 0]), jgh, jgh, jgh, jgh, jgh, jgh, jgh, jgh]) rfl rfl rfl ?_
  refine jT_callA [] (y := 194) (pcN := 23) (dC := 0) (bc1 := 0) (bc2 := 0) (c1 := 0) (c2 := 0) (as := [(1, x3), (1, 0)]) (asC := [(1, x3), (1, 0)]) (LN := [(3, (0, 3)), (1, (1, x3)), (0, (4, 0))]) (stN := []) (hsC := []) (ex := []) (v := (1, x3)) (st2 := [(1, x3)]) (hs2 := [(14, [(0, 0), (4, 1), (4, 2), (4, 3), (4, 4), (0, 0), (4, 5), (0, 0), (4, 6), (4, 7), (1, x3), (4, 8), (0, 0), (4, 9), (0, 0), (0, 0), (0, 0), (0, 0), (0, 0), (0, 0), (0, 0), (4, 10), (4, 11), (4, 12), (4, 13), (4, 14), (4, 15), (0, 0)], []), jgh, jgh, jgh, jgh, jgh, jgh, (101, [], [0, 0, 0, 0, 0, 0]), jgh, jgh, jgh, jgh, jgh, jgh, jgh, jgh]) (jA_194_126 (d := 0) (by omega)) (by rfl) (by rfl) (by rfl) (by rfl) trivial (by rfl) (by rfl) (by omega) (by show 16 ≤ 16; omega) (by omega) (by omega) rfl rfl ?_
  refine jT_xlstore_n (v := (1, x3)) (LN := [(1, (1, x3)), (3, (0, 3)), (0, (4, 0))]) (pcN := 24) jI_199_23 rfl rfl rfl rfl ?_
  refine jT_xiinc (x := 3) (z := 4) (LN := [(3, (0, 4)), (1, (1, x3)), (0, (4, 0))]) (pcN := 27) jI_199_24 rfl rfl (by decide) rfl rfl ?_
  refine jT_xgoto (pcN := 7) jI_199_27 rfl ?_
  refine jT_xiload_n (v := (0, 4)) (pcN := 8) jI_199_7 rfl rfl rfl ?_
  refine jT_xbipush (k := 6) (pcN := 10) jI_199_8 (by decide) rfl ?_
  refine jT_xicF (t := 30) (pcN := 13) jI_199_10 rfl (by decide +kernel) rfl rfl ?_
  refine jT_xlload_n (v := (1, x3)) (pcN := 14) jI_199_13 rfl rfl rfl ?_
  refine jT_xaload_n (v := (4, 0)) (pcN := 15) jI_199_14 rfl rfl rfl ?_
  refine jT_xgetf (a := 0) (t := 1) (ci := 14) (fi := 9) (c := (14, [(0, 0), (4, 1), (4, 2), (4, 3), (4, 4), (0, 0), (4, 5), (0, 0), (4, 6), (4, 7), (1, x3), (4, 8), (0, 0), (4, 9), (0, 0), (0, 0), (0, 0), (0, 0), (0, 0), (0, 0), (0, 0), (4, 10), (4, 11), (4, 12), (4, 13), (4, 14), (4, 15), (0, 0)], [])) (v := (4, 7)) (pcN := 18) jI_199_15 rfl rfl rfl rfl rfl rfl rfl ?_
  refine jT_xiload_n (v := (0, 4)) (pcN := 19) jI_199_18 rfl rfl rfl ?_
  refine jT_lald (x := 0) (a := 7) (j := 4) (fs := []) (X := [0, 0, 0, 0, 0, 0]) jI_199_19 rfl rfl rfl rfl ?_
  refine jT_eq (LN := [(3, (0, 4)), (1, (1, x3)), (0, (4, 0))]) (stN := [(1, 0), (1, x3)]) (hsN := [(14, [(0, 0), (4, 1), (4, 2), (4, 3), (4, 4), (0, 0), (4, 5), (0, 0), (4, 6), (4, 7), (1, x3), (4, 8), (0, 0), (4, 9), (0, 0), (0, 0), (0, 0), (0, 0), (0, 0), (0, 0), (0, 0), (4, 10), (4, 11), (4, 12), (4, 13), (4, 14), (4, 15), (0, 0)], []), jgh, jgh, jgh, jgh, jgh, jgh, (101, [], [0, 0, 0, 0, 0, 0]), jgh, jgh, jgh, jgh, jgh, jgh, jgh, jgh]) rfl rfl rfl ?_
  refine jT_callA [] (y := 194) (pcN := 23) (dC := 0) (bc1 := 0) (bc2 := 0) (c1 := 0) (c2 := 0) (as := [(1, x3), (1, 0)]) (asC := [(1, x3), (1, 0)]) (LN := [(3, (0, 4)), (1, (1, x3)), (0, (4, 0))]) (stN := []) (hsC := []) (ex := []) (v := (1, x3)) (st2 := [(1, x3)]) (hs2 := [(14, [(0, 0), (4, 1), (4, 2), (4, 3), (4, 4), (0, 0), (4, 5), (0, 0), (4, 6), (4, 7), (1, x3), (4, 8), (0, 0), (4, 9), (0, 0), (0, 0), (0, 0), (0, 0), (0, 0), (0, 0), (0, 0), (4, 10), (4, 11), (4, 12), (4, 13), (4, 14), (4, 15), (0, 0)], []), jgh, jgh, jgh, jgh, jgh, jgh, (101, [], [0, 0, 0, 0, 0, 0]), jgh, jgh, jgh, jgh, jgh, jgh, jgh, jgh]) (jA_194_126 (d := 0) (by omega)) (by rfl) (by rfl) (by rfl) (by rfl) trivial (by rfl) (by rfl) (by omega) (by show 16 ≤ 16; omega) (by omega) (by omega) rfl rfl ?_
  refine jT_xlstore_n (v := (1, x3)) (LN := [(1, (1, x3)), (3, (0, 4)), (0, (4, 0))]) (pcN := 24) jI_199_23 rfl rfl rfl rfl ?_
  refine jT_xiinc (x := 4) (z := 5) (LN := [(3, (0, 5)), (1, (1, x3)), (0, (4, 0))]) (pcN := 27) jI_199_24 rfl rfl (by decide) rfl rfl ?_
  refine jT_xgoto (pcN := 7) jI_199_27 rfl ?_
  refine jT_xiload_n (v := (0, 5)) (pcN := 8) jI_199_7 rfl rfl rfl ?_
  refine jT_xbipush (k := 6) (pcN := 10) jI_199_8 (by decide) rfl ?_
  refine jT_xicF (t := 30) (pcN := 13) jI_199_10 rfl (by decide +kernel) rfl rfl ?_
  refine jT_xlload_n (v := (1, x3)) (pcN := 14) jI_199_13 rfl rfl rfl ?_
  refine jT_xaload_n (v := (4, 0)) (pcN := 15) jI_199_14 rfl rfl rfl ?_
  refine jT_xgetf (a := 0) (t := 1) (ci := 14) (fi := 9) (c := (14, [(0, 0), (4, 1), (4, 2), (4, 3), (4, 4), (0, 0), (4, 5), (0, 0), (4, 6), (4, 7), (1, x3), (4, 8), (0, 0), (4, 9), (0, 0), (0, 0), (0, 0), (0, 0), (0, 0), (0, 0), (0, 0), (4, 10), (4, 11), (4, 12), (4, 13), (4, 14), (4, 15), (0, 0)], [])) (v := (4, 7)) (pcN := 18) jI_199_15 rfl rfl rfl rfl rfl rfl rfl ?_
  refine jT_xiload_n (v := (0, 5)) (pcN := 19) jI_199_18 rfl rfl rfl ?_
  refine jT_lald (x := 0) (a := 7) (j := 5) (fs := []) (X := [0, 0, 0, 0, 0, 0]) jI_199_19 rfl rfl rfl rfl ?_
  refine jT_eq (LN := [(3, (0, 5)), (1, (1, x3)), (0, (4, 0))]) (stN := [(1, 0), (1, x3)]) (hsN := [(14, [(0, 0), (4, 1), (4, 2), (4, 3), (4, 4), (0, 0), (4, 5), (0, 0), (4, 6), (4, 7), (1, x3), (4, 8), (0, 0), (4, 9), (0, 0), (0, 0), (0, 0), (0, 0), (0, 0), (0, 0), (0, 0), (4, 10), (4, 11), (4, 12), (4, 13), (4, 14), (4, 15), (0, 0)], []), jgh, jgh, jgh, jgh, jgh, jgh, (101, [], [0, 0, 0, 0, 0, 0]), jgh, jgh, jgh, jgh, jgh, jgh, jgh, jgh]) rfl rfl rfl ?_
  refine jT_callA [] (y := 194) (pcN := 23) (dC := 0) (bc1 := 0) (bc2 := 0) (c1 := 0) (c2 := 0) (as := [(1, x3), (1, 0)]) (asC := [(1, x3), (1, 0)]) (LN := [(3, (0, 5)), (1, (1, x3)), (0, (4, 0))]) (stN := []) (hsC := []) (ex := []) (v := (1, x3)) (st2 := [(1, x3)]) (hs2 := [(14, [(0, 0), (4, 1), (4, 2), (4, 3), (4, 4), (0, 0), (4, 5), (0, 0), (4, 6), (4, 7), (1, x3), (4, 8), (0, 0), (4, 9), (0, 0), (0, 0), (0, 0), (0, 0), (0, 0), (0, 0), (0, 0), (4, 10), (4, 11), (4, 12), (4, 13), (4, 14), (4, 15), (0, 0)], []), jgh, jgh, jgh, jgh, jgh, jgh, (101, [], [0, 0, 0, 0, 0, 0]), jgh, jgh, jgh, jgh, jgh, jgh, jgh, jgh]) (jA_194_126 (d := 0) (by omega)) (by rfl) (by rfl) (by rfl) (by rfl) trivial (by rfl) (by rfl) (by omega) (by show 16 ≤ 16; omega) (by omega) (by omega) rfl rfl ?_
  refine jT_xlstore_n (v := (1, x3)) (LN := [(1, (1, x3)), (3, (0, 5)), (0, (4, 0))]) (pcN := 24) jI_199_23 rfl rfl rfl rfl ?_
  refine jT_xiinc (x := 5) (z := 6) (LN := [(3, (0, 6)), (1, (1, x3)), (0, (4, 0))]) (pcN := 27) jI_199_24 rfl rfl (by decide) rfl rfl ?_
  refine jT_xgoto (pcN := 7) jI_199_27 rfl ?_
  refine jT_xiload_n (v := (0, 6)) (pcN := 8) jI_199_7 rfl rfl rfl ?_
  refine jT_xbipush (k := 6) (pcN := 10) jI_199_8 (by decide) rfl ?_
  refine jT_xicT (pcN := 30) jI_199_10 rfl (by decide +kernel) rfl ?_
  refine jT_xaload_n (v := (4, 0)) (pcN := 31) jI_199_30 rfl rfl rfl ?_
  refine jT_xgetf (a := 0) (t := 1) (ci := 14) (fi := 9) (c := (14, [(0, 0), (4, 1), (4, 2), (4, 3), (4, 4), (0, 0), (4, 5), (0, 0), (4, 6), (4, 7), (1, x3), (4, 8), (0, 0), (4, 9), (0, 0), (0, 0), (0, 0), (0, 0), (0, 0), (0, 0), (0, 0), (4, 10), (4, 11), (4, 12), (4, 13), (4, 14), (4, 15), (0, 0)], [])) (v := (4, 7)) (pcN := 34) jI_199_31 rfl rfl rfl rfl rfl rfl rfl ?_
  refine jT_callA [7] (y := 200) (pcN := 37) (dC := 0) (bc1 := 0) (bc2 := 0) (c1 := 0) (c2 := 0) (as := [(4, 7)]) (asC := [(4, 0)]) (LN := [(3, (0, 6)), (1, (1, x3)), (0, (4, 0))]) (stN := []) (hsC := [(101, [], [0, 0, 0, 0, 0, 0])]) (ex := []) (v := (0, 1)) (st2 := [(0, 1)]) (hs2 := [(14, [(0, 0), (4, 1), (4, 2), (4, 3), (4, 4), (0, 0), (4, 5), (0, 0), (4, 6), (4, 7), (1, x3), (4, 8), (0, 0), (4, 9), (0, 0), (0, 0), (0, 0), (0, 0), (0, 0), (0, 0), (0, 0), (4, 10), (4, 11), (4, 12), (4, 13), (4, 14), (4, 15), (0, 0)], []), jgh, jgh, jgh, jgh, jgh, jgh, (101, [], [0, 0, 0, 0, 0, 0]), jgh, jgh, jgh, jgh, jgh, jgh, jgh, jgh]) (jA_200_44 (d := 0)) (by rfl) (by rfl) (by rfl) (by rfl) ⟨rfl, trivial⟩ (by rfl) (by rfl) (by omega) (by show 16 ≤ 16; omega) (by omega) (by omega) rfl rfl ?_
  refine jT_xifF (t := 45) (pcN := 40) jI_199_37 rfl (by decide +kernel) rfl rfl ?_
  refine jT_xaload_n (v := (4, 0)) (pcN := 41) jI_199_40 rfl rfl rfl ?_
  refine jT_xgetf (a := 0) (t := 1) (ci := 14) (fi := 10) (c := (14, [(0, 0), (4, 1), (4, 2), (4, 3), (4, 4), (0, 0), (4, 5), (0, 0), (4, 6), (4, 7), (1, x3), (4, 8), (0, 0), (4, 9), (0, 0), (0, 0), (0, 0), (0, 0), (0, 0), (0, 0), (0, 0), (4, 10), (4, 11), (4, 12), (4, 13), (4, 14), (4, 15), (0, 0)], [])) (v := (1, x3)) (pcN := 44) jI_199_41 rfl rfl rfl rfl rfl rfl rfl ?_
  refine jT_xlstore_n (v := (1, x3)) (LN := [(1, (1, x3)), (3, (0, 6)), (0, (4, 0))]) (pcN := 45) jI_199_44 rfl rfl rfl rfl ?_
  refine jT_xiconst (k := 0) (pcN := 46) jI_199_45 rfl ?_
  refine jT_xistore_n (v := (0, 0)) (LN := [(3, (0, 0)), (1, (1, x3)), (0, (4, 0))]) (pcN := 47) jI_199_46 rfl rfl rfl rfl ?_
  refine jT_xiload_n (v := (0, 0)) (pcN := 48) jI_199_47 rfl rfl rfl ?_
  refine jT_xbipush (k := 6) (pcN := 50) jI_199_48 (by decide) rfl ?_
  refine jT_xicF (t := 69) (pcN := 53) jI_199_50 rfl (by decide +kernel) rfl rfl ?_
  refine jT_xaload_n (v := (4, 0)) (pcN := 54) jI_199_53 rfl rfl rfl ?_
  refine jT_xgetf (a := 0) (t := 1) (ci := 14) (fi := 9) (c := (14, [(0, 0), (4, 1), (4, 2), (4, 3), (4, 4), (0, 0), (4, 5), (0, 0), (4, 6), (4, 7), (1, x3), (4, 8), (0, 0), (4, 9), (0, 0), (0, 0), (0, 0), (0, 0), (0, 0), (0, 0), (0, 0), (4, 10), (4, 11), (4, 12), (4, 13), (4, 14), (4, 15), (0, 0)], [])) (v := (4, 7)) (pcN := 57) jI_199_54 rfl rfl rfl rfl rfl rfl rfl ?_
  refine jT_xiload_n (v := (0, 0)) (pcN := 58) jI_199_57 rfl rfl rfl ?_
  refine jT_adv 1 (pcN := 59) (LN := [(3, (0, 0)), (1, (1, x3)), (0, (4, 0))]) (stN := [(0, 0), (4, 7), (0, 0), (4, 7)]) (hsN := [(14, [(0, 0), (4, 1), (4, 2), (4, 3), (4, 4), (0, 0), (4, 5), (0, 0), (4, 6), (4, 7), (1, x3), (4, 8), (0, 0), (4, 9), (0, 0), (0, 0), (0, 0), (0, 0), (0, 0), (0, 0), (0, 0), (4, 10), (4, 11), (4, 12), (4, 13), (4, 14), (4, 15), (0, 0)], []), jgh, jgh, jgh, jgh, jgh, jgh, (101, [], [0, 0, 0, 0, 0, 0]), jgh, jgh, jgh, jgh, jgh, jgh, jgh, jgh]) (c1 := 0) (s1 := 0) (c2 := 0) (s2 := 0) (by exact rfl) ?_ (by omega) (by omega)
  refine jT_lald (x := 0) (a := 7) (j := 0) (fs := []) (X := [0, 0, 0, 0, 0, 0]) jI_199_59 rfl rfl rfl rfl ?_
  refine jT_eq (LN := [(3, (0, 0)), (1, (1, x3)), (0, (4, 0))]) (stN := [(1, 0), (0, 0), (4, 7)]) (hsN := [(14, [(0, 0), (4, 1), (4, 2), (4, 3), (4, 4), (0, 0), (4, 5), (0, 0), (4, 6), (4, 7), (1, x3), (4, 8), (0, 0), (4, 9), (0, 0), (0, 0), (0, 0), (0, 0), (0, 0), (0, 0), (0, 0), (4, 10), (4, 11), (4, 12), (4, 13), (4, 14), (4, 15), (0, 0)], []), jgh, jgh, jgh, jgh, jgh, jgh, (101, [], [0, 0, 0, 0, 0, 0]), jgh, jgh, jgh, jgh, jgh, jgh, jgh, jgh]) rfl rfl rfl ?_
  refine jT_xlload_n (v := (1, x3)) (pcN := 61) jI_199_60 rfl rfl rfl ?_
  refine jT_ldiv (a := 0) (b := x3) (by rfl) (by rfl) (jwl_idd (by omega) (by omega)) (jwl_idd (by omega) (by omega)) (by omega) ?_
  refine jT_eq (LN := [(3, (0, 0)), (1, (1, x3)), (0, (4, 0))]) (stN := [(1, 0), (0, 0), (4, 7)]) (hsN := [(14, [(0, 0), (4, 1), (4, 2), (4, 3), (4, 4), (0, 0), (4, 5), (0, 0), (4, 6), (4, 7), (1, x3), (4, 8), (0, 0), (4, 9), (0, 0), (0, 0), (0, 0), (0, 0), (0, 0), (0, 0), (0, 0), (4, 10), (4, 11), (4, 12), (4, 13), (4, 14), (4, 15), (0, 0)], []), jgh, jgh, jgh, jgh, jgh, jgh, (101, [], [0, 0, 0, 0, 0, 0]), jgh, jgh, jgh, jgh, jgh, jgh, jgh, jgh]) rfl (by rw [show ((0 : Int).tdiv x3 : Int) = 0 by simp]) rfl ?_
  refine jT_adv 1 (pcN := 63) (LN := [(3, (0, 0)), (1, (1, x3)), (0, (4, 0))]) (stN := []) (hsN := [(14, [(0, 0), (4, 1), (4, 2), (4, 3), (4, 4), (0, 0), (4, 5), (0, 0), (4, 6), (4, 7), (1, x3), (4, 8), (0, 0), (4, 9), (0, 0), (0, 0), (0, 0), (0, 0), (0, 0), (0, 0), (0, 0), (4, 10), (4, 11), (4, 12), (4, 13), (4, 14), (4, 15), (0, 0)], []), jgh, jgh, jgh, jgh, jgh, jgh, (101, [], [0, 0, 0, 0, 0, 0]), jgh, jgh, jgh, jgh, jgh, jgh, jgh, jgh]) (c1 := 0) (s1 := 0) (c2 := 0) (s2 := 0) (by exact rfl) ?_ (by omega) (by omega)
  refine jT_xiinc (x := 0) (z := 1) (LN := [(3, (0, 1)), (1, (1, x3)), (0, (4, 0))]) (pcN := 66) jI_199_63 rfl rfl (by decide) rfl rfl ?_
  refine jT_xgoto (pcN := 47) jI_199_66 rfl ?_
  refine jT_xiload_n (v := (0, 1)) (pcN := 48) jI_199_47 rfl rfl rfl ?_
  refine jT_xbipush (k := 6) (pcN := 50) jI_199_48 (by decide) rfl ?_
  refine jT_xicF (t := 69) (pcN := 53) jI_199_50 rfl (by decide +kernel) rfl rfl ?_
  refine jT_xaload_n (v := (4, 0)) (pcN := 54) jI_199_53 rfl rfl rfl ?_
  refine jT_xgetf (a := 0) (t := 1) (ci := 14) (fi := 9) (c := (14, [(0, 0), (4, 1), (4, 2), (4, 3), (4, 4), (0, 0), (4, 5), (0, 0), (4, 6), (4, 7), (1, x3), (4, 8), (0, 0), (4, 9), (0, 0), (0, 0), (0, 0), (0, 0), (0, 0), (0, 0), (0, 0), (4, 10), (4, 11), (4, 12), (4, 13), (4, 14), (4, 15), (0, 0)], [])) (v := (4, 7)) (pcN := 57) jI_199_54 rfl rfl rfl rfl rfl rfl rfl ?_
  refine jT_xiload_n (v := (0, 1)) (pcN := 58) jI_199_57 rfl rfl rfl ?_
  refine jT_adv 1 (pcN := 59) (LN := [(3, (0, 1)), (1, (1, x3)), (0, (4, 0))]) (stN := [(0, 1), (4, 7), (0, 1), (4, 7)]) (hsN := [(14, [(0, 0), (4, 1), (4, 2), (4, 3), (4, 4), (0, 0), (4, 5), (0, 0), (4, 6), (4, 7), (1, x3), (4, 8), (0, 0), (4, 9), (0, 0), (0, 0), (0, 0), (0, 0), (0, 0), (0, 0), (0, 0), (4, 10), (4, 11), (4, 12), (4, 13), (4, 14), (4, 15), (0, 0)], []), jgh, jgh, jgh, jgh, jgh, jgh, (101, [], [0, 0, 0, 0, 0, 0]), jgh, jgh, jgh, jgh, jgh, jgh, jgh, jgh]) (c1 := 0) (s1 := 0) (c2 := 0) (s2 := 0) (by exact rfl) ?_ (by omega) (by omega)
  refine jT_lald (x := 0) (a := 7) (j := 1) (fs := []) (X := [0, 0, 0, 0, 0, 0]) jI_199_59 rfl rfl rfl rfl ?_
  refine jT_eq (LN := [(3, (0, 1)), (1, (1, x3)), (0, (4, 0))]) (stN := [(1, 0), (0, 1), (4, 7)]) (hsN := [(14, [(0, 0), (4, 1), (4, 2), (4, 3), (4, 4), (0, 0), (4, 5), (0, 0), (4, 6), (4, 7), (1, x3), (4, 8), (0, 0), (4, 9), (0, 0), (0, 0), (0, 0), (0, 0), (0, 0), (0, 0), (0, 0), (4, 10), (4, 11), (4, 12), (4, 13), (4, 14), (4, 15), (0, 0)], []), jgh, jgh, jgh, jgh, jgh, jgh, (101, [], [0, 0, 0, 0, 0, 0]), jgh, jgh, jgh, jgh, jgh, jgh, jgh, jgh]) rfl rfl rfl ?_
  refine jT_xlload_n (v := (1, x3)) (pcN := 61) jI_199_60 rfl rfl rfl ?_
  refine jT_ldiv (a := 0) (b := x3) (by rfl) (by rfl) (jwl_idd (by omega) (by omega)) (jwl_idd (by omega) (by omega)) (by omega) ?_
  refine jT_eq (LN := [(3, (0, 1)), (1, (1, x3)), (0, (4, 0))]) (stN := [(1, 0), (0, 1), (4, 7)]) (hsN := [(14, [(0, 0), (4, 1), (4, 2), (4, 3), (4, 4), (0, 0), (4, 5), (0, 0), (4, 6), (4, 7), (1, x3), (4, 8), (0, 0), (4, 9), (0, 0), (0, 0), (0, 0), (0, 0), (0, 0), (0, 0), (0, 0), (4, 10), (4, 11), (4, 12), (4, 13), (4, 14), (4, 15), (0, 0)], []), jgh, jgh, jgh, jgh, jgh, jgh, (101, [], [0, 0, 0, 0, 0, 0]), jgh, jgh, jgh, jgh, jgh, jgh, jgh, jgh]) rfl (by rw [show ((0 : Int).tdiv x3 : Int) = 0 by simp]) rfl ?_
  refine jT_adv 1 (pcN := 63) (LN := [(3, (0, 1)), (1, (1, x3)), (0, (4, 0))]) (stN := []) (hsN := [(14, [(0, 0), (4, 1), (4, 2), (4, 3), (4, 4), (0, 0), (4, 5), (0, 0), (4, 6), (4, 7), (1, x3), (4, 8), (0, 0), (4, 9), (0, 0), (0, 0), (0, 0), (0, 0), (0, 0), (0, 0), (0, 0), (4, 10), (4, 11), (4, 12), (4, 13), (4, 14), (4, 15), (0, 0)], []), jgh, jgh, jgh, jgh, jgh, jgh, (101, [], [0, 0, 0, 0, 0, 0]), jgh, jgh, jgh, jgh, jgh, jgh, jgh, jgh]) (c1 := 0) (s1 := 0) (c2 := 0) (s2 := 0) (by exact rfl) ?_ (by omega) (by omega)
  refine jT_xiinc (x := 1) (z := 2) (LN := [(3, (0, 2)), (1, (1, x3)), (0, (4, 0))]) (pcN := 66) jI_199_63 rfl rfl (by decide) rfl rfl ?_
  refine jT_xgoto (pcN := 47) jI_199_66 rfl ?_
  refine jT_xiload_n (v := (0, 2)) (pcN := 48) jI_199_47 rfl rfl rfl ?_
  refine jT_xbipush (k := 6) (pcN := 50) jI_199_48 (by decide) rfl ?_
  refine jT_xicF (t := 69) (pcN := 53) jI_199_50 rfl (by decide +kernel) rfl rfl ?_
  refine jT_xaload_n (v := (4, 0)) (pcN := 54) jI_199_53 rfl rfl rfl ?_
  refine jT_xgetf (a := 0) (t := 1) (ci := 14) (fi := 9) (c := (14, [(0, 0), (4, 1), (4, 2), (4, 3), (4, 4), (0, 0), (4, 5), (0, 0), (4, 6), (4, 7), (1, x3), (4, 8), (0, 0), (4, 9), (0, 0), (0, 0), (0, 0), (0, 0), (0, 0), (0, 0), (0, 0), (4, 10), (4, 11), (4, 12), (4, 13), (4, 14), (4, 15), (0, 0)], [])) (v := (4, 7)) (pcN := 57) jI_199_54 rfl rfl rfl rfl rfl rfl rfl ?_
  refine jT_xiload_n (v := (0, 2)) (pcN := 58) jI_199_57 rfl rfl rfl ?_
  refine jT_adv 1 (pcN := 59) (LN := [(3, (0, 2)), (1, (1, x3)), (0, (4, 0))]) (stN := [(0, 2), (4, 7), (0, 2), (4, 7)]) (hsN := [(14, [(0, 0), (4, 1), (4, 2), (4, 3), (4, 4), (0, 0), (4, 5), (0, 0), (4, 6), (4, 7), (1, x3), (4, 8), (0, 0), (4, 9), (0, 0), (0, 0), (0, 0), (0, 0), (0, 0), (0, 0), (0, 0), (4, 10), (4, 11), (4, 12), (4, 13), (4, 14), (4, 15), (0, 0)], []), jgh, jgh, jgh, jgh, jgh, jgh, (101, [], [0, 0, 0, 0, 0, 0]), jgh, jgh, jgh, jgh, jgh, jgh, jgh, jgh]) (c1 := 0) (s1 := 0) (c2 := 0) (s2 := 0) (by exact rfl) ?_ (by omega) (by omega)
  refine jT_lald (x := 0) (a := 7) (j := 2) (fs := []) (X := [0, 0, 0, 0, 0, 0]) jI_199_59 rfl rfl rfl rfl ?_
  refine jT_eq (LN := [(3, (0, 2)), (1, (1, x3)), (0, (4, 0))]) (stN := [(1, 0), (0, 2), (4, 7)]) (hsN := [(14, [(0, 0), (4, 1), (4, 2), (4, 3), (4, 4), (0, 0), (4, 5), (0, 0), (4, 6), (4, 7), (1, x3), (4, 8), (0, 0), (4, 9), (0, 0), (0, 0), (0, 0), (0, 0), (0, 0), (0, 0), (0, 0), (4, 10), (4, 11), (4, 12), (4, 13), (4, 14), (4, 15), (0, 0)], []), jgh, jgh, jgh, jgh, jgh, jgh, (101, [], [0, 0, 0, 0, 0, 0]), jgh, jgh, jgh, jgh, jgh, jgh, jgh, jgh]) rfl rfl rfl ?_
  refine jT_xlload_n (v := (1, x3)) (pcN := 61) jI_199_60 rfl rfl rfl ?_
  refine jT_ldiv (a := 0) (b := x3) (by rfl) (by rfl) (jwl_idd (by omega) (by omega)) (jwl_idd (by omega) (by omega)) (by omega) ?_
  refine jT_eq (LN := [(3, (0, 2)), (1, (1, x3)), (0, (4, 0))]) (stN := [(1, 0), (0, 2), (4, 7)]) (hsN := [(14, [(0, 0), (4, 1), (4, 2), (4, 3), (4, 4), (0, 0), (4, 5), (0, 0), (4, 6), (4, 7), (1, x3), (4, 8), (0, 0), (4, 9), (0, 0), (0, 0), (0, 0), (0, 0), (0, 0), (0, 0), (0, 0), (4, 10), (4, 11), (4, 12), (4, 13), (4, 14), (4, 15), (0, 0)], []), jgh, jgh, jgh, jgh, jgh, jgh, (101, [], [0, 0, 0, 0, 0, 0]), jgh, jgh, jgh, jgh, jgh, jgh, jgh, jgh]) rfl (by rw [show ((0 : Int).tdiv x3 : Int) = 0 by simp]) rfl ?_
  refine jT_adv 1 (pcN := 63) (LN := [(3, (0, 2)), (1, (1, x3)), (0, (4, 0))]) (stN := []) (hsN := [(14, [(0, 0), (4, 1), (4, 2), (4, 3), (4, 4), (0, 0), (4, 5), (0, 0), (4, 6), (4, 7), (1, x3), (4, 8), (0, 0), (4, 9), (0, 0), (0, 0), (0, 0), (0, 0), (0, 0), (0, 0), (0, 0), (4, 10), (4, 11), (4, 12), (4, 13), (4, 14), (4, 15), (0, 0)], []), jgh, jgh, jgh, jgh, jgh, jgh, (101, [], [0, 0, 0, 0, 0, 0]), jgh, jgh, jgh, jgh, jgh, jgh, jgh, jgh]) (c1 := 0) (s1 := 0) (c2 := 0) (s2 := 0) (by exact rfl) ?_ (by omega) (by omega)
  refine jT_xiinc (x := 2) (z := 3) (LN := [(3, (0, 3)), (1, (1, x3)), (0, (4, 0))]) (pcN := 66) jI_199_63 rfl rfl (by decide) rfl rfl ?_
  refine jT_xgoto (pcN := 47) jI_199_66 rfl ?_
  refine jT_xiload_n (v := (0, 3)) (pcN := 48) jI_199_47 rfl rfl rfl ?_
  refine jT_xbipush (k := 6) (pcN := 50) jI_199_48 (by decide) rfl ?_
  refine jT_xicF (t := 69) (pcN := 53) jI_199_50 rfl (by decide +kernel) rfl rfl ?_
  refine jT_xaload_n (v := (4, 0)) (pcN := 54) jI_199_53 rfl rfl rfl ?_
  refine jT_xgetf (a := 0) (t := 1) (ci := 14) (fi := 9) (c := (14, [(0, 0), (4, 1), (4, 2), (4, 3), (4, 4), (0, 0), (4, 5), (0, 0), (4, 6), (4, 7), (1, x3), (4, 8), (0, 0), (4, 9), (0, 0), (0, 0), (0, 0), (0, 0), (0, 0), (0, 0), (0, 0), (4, 10), (4, 11), (4, 12), (4, 13), (4, 14), (4, 15), (0, 0)], [])) (v := (4, 7)) (pcN := 57) jI_199_54 rfl rfl rfl rfl rfl rfl rfl ?_
  refine jT_xiload_n (v := (0, 3)) (pcN := 58) jI_199_57 rfl rfl rfl ?_
  refine jT_adv 1 (pcN := 59) (LN := [(3, (0, 3)), (1, (1, x3)), (0, (4, 0))]) (stN := [(0, 3), (4, 7), (0, 3), (4, 7)]) (hsN := [(14, [(0, 0), (4, 1), (4, 2), (4, 3), (4, 4), (0, 0), (4, 5), (0, 0), (4, 6), (4, 7), (1, x3), (4, 8), (0, 0), (4, 9), (0, 0), (0, 0), (0, 0), (0, 0), (0, 0), (0, 0), (0, 0), (4, 10), (4, 11), (4, 12), (4, 13), (4, 14), (4, 15), (0, 0)], []), jgh, jgh, jgh, jgh, jgh, jgh, (101, [], [0, 0, 0, 0, 0, 0]), jgh, jgh, jgh, jgh, jgh, jgh, jgh, jgh]) (c1 := 0) (s1 := 0) (c2 := 0) (s2 := 0) (by exact rfl) ?_ (by omega) (by omega)
  refine jT_lald (x := 0) (a := 7) (j := 3) (fs := []) (X := [0, 0, 0, 0, 0, 0]) jI_199_59 rfl rfl rfl rfl ?_
  refine jT_eq (LN := [(3, (0, 3)), (1, (1, x3)), (0, (4, 0))]) (stN := [(1, 0), (0, 3), (4, 7)]) (hsN := [(14, [(0, 0), (4, 1), (4, 2), (4, 3), (4, 4), (0, 0), (4, 5), (0, 0), (4, 6), (4, 7), (1, x3), (4, 8), (0, 0), (4, 9), (0, 0), (0, 0), (0, 0), (0, 0), (0, 0), (0, 0), (0, 0), (4, 10), (4, 11), (4, 12), (4, 13), (4, 14), (4, 15), (0, 0)], []), jgh, jgh, jgh, jgh, jgh, jgh, (101, [], [0, 0, 0, 0, 0, 0]), jgh, jgh, jgh, jgh, jgh, jgh, jgh, jgh]) rfl rfl rfl ?_
  refine jT_xlload_n (v := (1, x3)) (pcN := 61) jI_199_60 rfl rfl rfl ?_
  refine jT_ldiv (a := 0) (b := x3) (by rfl) (by rfl) (jwl_idd (by omega) (by omega)) (jwl_idd (by omega) (by omega)) (by omega) ?_
  refine jT_eq (LN := [(3, (0, 3)), (1, (1, x3)), (0, (4, 0))]) (stN := [(1, 0), (0, 3), (4, 7)]) (hsN := [(14, [(0, 0), (4, 1), (4, 2), (4, 3), (4, 4), (0, 0), (4, 5), (0, 0), (4, 6), (4, 7), (1, x3), (4, 8), (0, 0), (4, 9), (0, 0), (0, 0), (0, 0), (0, 0), (0, 0), (0, 0), (0, 0), (4, 10), (4, 11), (4, 12), (4, 13), (4, 14), (4, 15), (0, 0)], []), jgh, jgh, jgh, jgh, jgh, jgh, (101, [], [0, 0, 0, 0, 0, 0]), jgh, jgh, jgh, jgh, jgh, jgh, jgh, jgh]) rfl (by rw [show ((0 : Int).tdiv x3 : Int) = 0 by simp]) rfl ?_
  refine jT_adv 1 (pcN := 63) (LN := [(3, (0, 3)), (1, (1, x3)), (0, (4, 0))]) (stN := []) (hsN := [(14, [(0, 0), (4, 1), (4, 2), (4, 3), (4, 4), (0, 0), (4, 5), (0, 0), (4, 6), (4, 7), (1, x3), (4, 8), (0, 0), (4, 9), (0, 0), (0, 0), (0, 0), (0, 0), (0, 0), (0, 0), (0, 0), (4, 10), (4, 11), (4, 12), (4, 13), (4, 14), (4, 15), (0, 0)], []), jgh, jgh, jgh, jgh, jgh, jgh, (101, [], [0, 0, 0, 0, 0, 0]), jgh, jgh, jgh, jgh, jgh, jgh, jgh, jgh]) (c1 := 0) (s1 := 0) (c2 := 0) (s2 := 0) (by exact rfl) ?_ (by omega) (by omega)
  refine jT_xiinc (x := 3) (z := 4) (LN := [(3, (0, 4)), (1, (1, x3)), (0, (4, 0))]) (pcN := 66) jI_199_63 rfl rfl (by decide) rfl rfl ?_
  refine jT_xgoto (pcN := 47) jI_199_66 rfl ?_
  refine jT_xiload_n (v := (0, 4)) (pcN := 48) jI_199_47 rfl rfl rfl ?_
  refine jT_xbipush (k := 6) (pcN := 50) jI_199_48 (by decide) rfl ?_
  refine jT_xicF (t := 69) (pcN := 53) jI_199_50 rfl (by decide +kernel) rfl rfl ?_
  refine jT_xaload_n (v := (4, 0)) (pcN := 54) jI_199_53 rfl rfl rfl ?_
  refine jT_xgetf (a := 0) (t := 1) (ci := 14) (fi := 9) (c := (14, [(0, 0), (4, 1), (4, 2), (4, 3), (4, 4), (0, 0), (4, 5), (0, 0), (4, 6), (4, 7), (1, x3), (4, 8), (0, 0), (4, 9), (0, 0), (0, 0), (0, 0), (0, 0), (0, 0), (0, 0), (0, 0), (4, 10), (4, 11), (4, 12), (4, 13), (4, 14), (4, 15), (0, 0)], [])) (v := (4, 7)) (pcN := 57) jI_199_54 rfl rfl rfl rfl rfl rfl rfl ?_
  refine jT_xiload_n (v := (0, 4)) (pcN := 58) jI_199_57 rfl rfl rfl ?_
  refine jT_adv 1 (pcN := 59) (LN := [(3, (0, 4)), (1, (1, x3)), (0, (4, 0))]) (stN := [(0, 4), (4, 7), (0, 4), (4, 7)]) (hsN := [(14, [(0, 0), (4, 1), (4, 2), (4, 3), (4, 4), (0, 0), (4, 5), (0, 0), (4, 6), (4, 7), (1, x3), (4, 8), (0, 0), (4, 9), (0, 0), (0, 0), (0, 0), (0, 0), (0, 0), (0, 0), (0, 0), (4, 10), (4, 11), (4, 12), (4, 13), (4, 14), (4, 15), (0, 0)], []), jgh, jgh, jgh, jgh, jgh, jgh, (101, [], [0, 0, 0, 0, 0, 0]), jgh, jgh, jgh, jgh, jgh, jgh, jgh, jgh]) (c1 := 0) (s1 := 0) (c2 := 0) (s2 := 0) (by exact rfl) ?_ (by omega) (by omega)
  refine jT_lald (x := 0) (a := 7) (j := 4) (fs := []) (X := [0, 0, 0, 0, 0, 0]) jI_199_59 rfl rfl rfl rfl ?_
  refine jT_eq (LN := [(3, (0, 4)), (1, (1, x3)), (0, (4, 0))]) (stN := [(1, 0), (0, 4), (4, 7)]) (hsN := [(14, [(0, 0), (4, 1), (4, 2), (4, 3), (4, 4), (0, 0), (4, 5), (0, 0), (4, 6), (4, 7), (1, x3), (4, 8), (0, 0), (4, 9), (0, 0), (0, 0), (0, 0), (0, 0), (0, 0), (0, 0), (0, 0), (4, 10), (4, 11), (4, 12), (4, 13), (4, 14), (4, 15), (0, 0)], []), jgh, jgh, jgh, jgh, jgh, jgh, (101, [], [0, 0, 0, 0, 0, 0]), jgh, jgh, jgh, jgh, jgh, jgh, jgh, jgh]) rfl rfl rfl ?_
  refine jT_xlload_n (v := (1, x3)) (pcN := 61) jI_199_60 rfl rfl rfl ?_
  refine jT_ldiv (a := 0) (b := x3) (by rfl) (by rfl) (jwl_idd (by omega) (by omega)) (jwl_idd (by omega) (by omega)) (by omega) ?_
  refine jT_eq (LN := [(3, (0, 4)), (1, (1, x3)), (0, (4, 0))]) (stN := [(1, 0), (0, 4), (4, 7)]) (hsN := [(14, [(0, 0), (4, 1), (4, 2), (4, 3), (4, 4), (0, 0), (4, 5), (0, 0), (4, 6), (4, 7), (1, x3), (4, 8), (0, 0), (4, 9), (0, 0), (0, 0), (0, 0), (0, 0), (0, 0), (0, 0), (0, 0), (4, 10), (4, 11), (4, 12), (4, 13), (4, 14), (4, 15), (0, 0)], []), jgh, jgh, jgh, jgh, jgh, jgh, (101, [], [0, 0, 0, 0, 0, 0]), jgh, jgh, jgh, jgh, jgh, jgh, jgh, jgh]) rfl (by rw [show ((0 : Int).tdiv x3 : Int) = 0 by simp]) rfl ?_
  refine jT_adv 1 (pcN := 63) (LN := [(3, (0, 4)), (1, (1, x3)), (0, (4, 0))]) (stN := []) (hsN := [(14, [(0, 0), (4, 1), (4, 2), (4, 3), (4, 4), (0, 0), (4, 5), (0, 0), (4, 6), (4, 7), (1, x3), (4, 8), (0, 0), (4, 9), (0, 0), (0, 0), (0, 0), (0, 0), (0, 0), (0, 0), (0, 0), (4, 10), (4, 11), (4, 12), (4, 13), (4, 14), (4, 15), (0, 0)], []), jgh, jgh, jgh, jgh, jgh, jgh, (101, [], [0, 0, 0, 0, 0, 0]), jgh, jgh, jgh, jgh, jgh, jgh, jgh, jgh]) (c1 := 0) (s1 := 0) (c2 := 0) (s2 := 0) (by exact rfl) ?_ (by omega) (by omega)
  refine jT_xiinc (x := 4) (z := 5) (LN := [(3, (0, 5)), (1, (1, x3)), (0, (4, 0))]) (pcN := 66) jI_199_63 rfl rfl (by decide) rfl rfl ?_
  refine jT_xgoto (pcN := 47) jI_199_66 rfl ?_
  refine jT_xiload_n (v := (0, 5)) (pcN := 48) jI_199_47 rfl rfl rfl ?_
  refine jT_xbipush (k := 6) (pcN := 50) jI_199_48 (by decide) rfl ?_
  refine jT_xicF (t := 69) (pcN := 53) jI_199_50 rfl (by decide +kernel) rfl rfl ?_
  refine jT_xaload_n (v := (4, 0)) (pcN := 54) jI_199_53 rfl rfl rfl ?_
  refine jT_xgetf (a := 0) (t := 1) (ci := 14) (fi := 9) (c := (14, [(0, 0), (4, 1), (4, 2), (4, 3), (4, 4), (0, 0), (4, 5), (0, 0), (4, 6), (4, 7), (1, x3), (4, 8), (0, 0), (4, 9), (0, 0), (0, 0), (0, 0), (0, 0), (0, 0), (0, 0), (0, 0), (4, 10), (4, 11), (4, 12), (4, 13), (4, 14), (4, 15), (0, 0)], [])) (v := (4, 7)) (pcN := 57) jI_199_54 rfl rfl rfl rfl rfl rfl rfl ?_
  refine jT_xiload_n (v := (0, 5)) (pcN := 58) jI_199_57 rfl rfl rfl ?_
  refine jT_adv 1 (pcN := 59) (LN := [(3, (0, 5)), (1, (1, x3)), (0, (4, 0))]) (stN := [(0, 5), (4, 7), (0, 5), (4, 7)]) (hsN := [(14, [(0, 0), (4, 1), (4, 2), (4, 3), (4, 4), (0, 0), (4, 5), (0, 0), (4, 6), (4, 7), (1, x3), (4, 8), (0, 0), (4, 9), (0, 0), (0, 0), (0, 0), (0, 0), (0, 0), (0, 0), (0, 0), (4, 10), (4, 11), (4, 12), (4, 13), (4, 14), (4, 15), (0, 0)], []), jgh, jgh, jgh, jgh, jgh, jgh, (101, [], [0, 0, 0, 0, 0, 0]), jgh, jgh, jgh, jgh, jgh, jgh, jgh, jgh]) (c1 := 0) (s1 := 0) (c2 := 0) (s2 := 0) (by exact rfl) ?_ (by omega) (by omega)
  refine jT_lald (x := 0) (a := 7) (j := 5) (fs := []) (X := [0, 0, 0, 0, 0, 0]) jI_199_59 rfl rfl rfl rfl ?_
  refine jT_eq (LN := [(3, (0, 5)), (1, (1, x3)), (0, (4, 0))]) (stN := [(1, 0), (0, 5), (4, 7)]) (hsN := [(14, [(0, 0), (4, 1), (4, 2), (4, 3), (4, 4), (0, 0), (4, 5), (0, 0), (4, 6), (4, 7), (1, x3), (4, 8), (0, 0), (4, 9), (0, 0), (0, 0), (0, 0), (0, 0), (0, 0), (0, 0), (0, 0), (4, 10), (4, 11), (4, 12), (4, 13), (4, 14), (4, 15), (0, 0)], []), jgh, jgh, jgh, jgh, jgh, jgh, (101, [], [0, 0, 0, 0, 0, 0]), jgh, jgh, jgh, jgh, jgh, jgh, jgh, jgh]) rfl rfl rfl ?_
  refine jT_xlload_n (v := (1, x3)) (pcN := 61) jI_199_60 rfl rfl rfl ?_
  refine jT_ldiv (a := 0) (b := x3) (by rfl) (by rfl) (jwl_idd (by omega) (by omega)) (jwl_idd (by omega) (by omega)) (by omega) ?_
  refine jT_eq (LN := [(3, (0, 5)), (1, (1, x3)), (0, (4, 0))]) (stN := [(1, 0), (0, 5), (4, 7)]) (hsN := [(14, [(0, 0), (4, 1), (4, 2), (4, 3), (4, 4), (0, 0), (4, 5), (0, 0), (4, 6), (4, 7), (1, x3), (4, 8), (0, 0), (4, 9), (0, 0), (0, 0), (0, 0), (0, 0), (0, 0), (0, 0), (0, 0), (4, 10), (4, 11), (4, 12), (4, 13), (4, 14), (4, 15), (0, 0)], []), jgh, jgh, jgh, jgh, jgh, jgh, (101, [], [0, 0, 0, 0, 0, 0]), jgh, jgh, jgh, jgh, jgh, jgh, jgh, jgh]) rfl (by rw [show ((0 : Int).tdiv x3 : Int) = 0 by simp]) rfl ?_
  refine jT_adv 1 (pcN := 63) (LN := [(3, (0, 5)), (1, (1, x3)), (0, (4, 0))]) (stN := []) (hsN := [(14, [(0, 0), (4, 1), (4, 2), (4, 3), (4, 4), (0, 0), (4, 5), (0, 0), (4, 6), (4, 7), (1, x3), (4, 8), (0, 0), (4, 9), (0, 0), (0, 0), (0, 0), (0, 0), (0, 0), (0, 0), (0, 0), (4, 10), (4, 11), (4, 12), (4, 13), (4, 14), (4, 15), (0, 0)], []), jgh, jgh, jgh, jgh, jgh, jgh, (101, [], [0, 0, 0, 0, 0, 0]), jgh, jgh, jgh, jgh, jgh, jgh, jgh, jgh]) (c1 := 0) (s1 := 0) (c2 := 0) (s2 := 0) (by exact rfl) ?_ (by omega) (by omega)
  refine jT_xiinc (x := 5) (z := 6) (LN := [(3, (0, 6)), (1, (1, x3)), (0, (4, 0))]) (pcN := 66) jI_199_63 rfl rfl (by decide) rfl rfl ?_
  refine jT_xgoto (pcN := 47) jI_199_66 rfl ?_
  refine jT_xiload_n (v := (0, 6)) (pcN := 48) jI_199_47 rfl rfl rfl ?_
  refine jT_xbipush (k := 6) (pcN := 50) jI_199_48 (by decide) rfl ?_
  refine jT_xicT (pcN := 69) jI_199_50 rfl (by decide +kernel) rfl ?_
  refine jT_xaload_n (v := (4, 0)) (pcN := 70) jI_199_69 rfl rfl rfl ?_
  refine jT_adv 1 (pcN := 71) (LN := [(3, (0, 6)), (1, (1, x3)), (0, (4, 0))]) (stN := [(4, 0), (4, 0)]) (hsN := [(14, [(0, 0), (4, 1), (4, 2), (4, 3), (4, 4), (0, 0), (4, 5), (0, 0), (4, 6), (4, 7), (1, x3), (4, 8), (0, 0), (4, 9), (0, 0), (0, 0), (0, 0), (0, 0), (0, 0), (0, 0), (0, 0), (4, 10), (4, 11), (4, 12), (4, 13), (4, 14), (4, 15), (0, 0)], []), jgh, jgh, jgh, jgh, jgh, jgh, (101, [], [0, 0, 0, 0, 0, 0]), jgh, jgh, jgh, jgh, jgh, jgh, jgh, jgh]) (c1 := 0) (s1 := 0) (c2 := 0) (s2 := 0) (by exact rfl) ?_ (by omega) (by omega)
  refine jT_xgetf (a := 0) (t := 1) (ci := 14) (fi := 10) (c := (14, [(0, 0), (4, 1), (4, 2), (4, 3), (4, 4), (0, 0), (4, 5), (0, 0), (4, 6), (4, 7), (1, x3), (4, 8), (0, 0), (4, 9), (0, 0), (0, 0), (0, 0), (0, 0), (0, 0), (0, 0), (0, 0), (4, 10), (4, 11), (4, 12), (4, 13), (4, 14), (4, 15), (0, 0)], [])) (v := (1, x3)) (pcN := 74) jI_199_71 rfl rfl rfl rfl rfl rfl rfl ?_
  refine jT_xlload_n (v := (1, x3)) (pcN := 75) jI_199_74 rfl rfl rfl ?_
  refine jT_ldiv (a := x3) (b := x3) (by rfl) (by rfl) (jwl_idd (by omega) (by omega)) (jwl_idd (by omega) (by omega)) (by omega) ?_
  refine jT_eq (LN := [(3, (0, 6)), (1, (1, x3)), (0, (4, 0))]) (stN := [(1, 1), (4, 0)]) (hsN := [(14, [(0, 0), (4, 1), (4, 2), (4, 3), (4, 4), (0, 0), (4, 5), (0, 0), (4, 6), (4, 7), (1, x3), (4, 8), (0, 0), (4, 9), (0, 0), (0, 0), (0, 0), (0, 0), (0, 0), (0, 0), (0, 0), (4, 10), (4, 11), (4, 12), (4, 13), (4, 14), (4, 15), (0, 0)], []), jgh, jgh, jgh, jgh, jgh, jgh, (101, [], [0, 0, 0, 0, 0, 0]), jgh, jgh, jgh, jgh, jgh, jgh, jgh, jgh]) rfl (by rw [show (x3.tdiv x3 : Int) = 1 by exact Int.tdiv_self (by omega)]) rfl ?_
  refine jT_adv 1 (pcN := 79) (LN := [(3, (0, 6)), (1, (1, x3)), (0, (4, 0))]) (stN := []) (hsN := jpA_147) (c1 := 0) (s1 := 0) (c2 := 0) (s2 := 0) (by exact rfl) ?_ (by omega) (by omega)
  exact jT_ret rfl (by decide) (by show 16 ≤ 16; decide) (by omega) (by omega) ⟨rfl, rfl, rfl⟩
theorem jA_207_128 {xs : List Int} {d : Nat} {x2 x3 : Int} (h_x2 : (-100) ≤ x2 ∧ x2 ≤ 100) (h_x3 : 2 ≤ x3 ∧ x3 ≤ 24) : jT xs (d + 2) 207 16 0 [(0, (4, 0)), (1, (0, x2)), (2, (0, x3))] [] jpA_147 0 0 (fun k v hsN => k = 0 ∧ v = (9, 0) ∧ hsN = jpA_147 ++ []) := by
  refine jT_xiconst (k := 0) (pcN := 1) jI_207_0 rfl ?_
  refine jT_xistore_n (v := (0, 0)) (LN := [(3, (0, 0)), (0, (4, 0)), (1, (0, x2)), (2, (0, x3))]) (pcN := 2) jI_207_1 rfl rfl rfl rfl ?_
  refine jT_xiload_n (v := (0, 0)) (pcN := 3) jI_207_2 rfl rfl rfl ?_
  refine jT_xbipush (k := 6) (pcN := 5) jI_207_3 (by decide) rfl ?_
  refine jT_xicF (t := 25) (pcN := 8) jI_207_5 rfl (by decide +kernel) rfl rfl ?_
  refine jT_xaload_n (v := (4, 0)) (pcN := 9) jI_207_8 rfl rfl rfl ?_
  refine jT_xgetf (a := 0) (t := 1) (ci := 14) (fi := 9) (c := jzA_21) (v := (4, 7)) (pcN := 12) jI_207_9 rfl rfl rfl rfl rfl rfl rfl ?_
  refine jT_xiload_n (v := (0, 0)) (pcN := 13) jI_207_12 rfl rfl rfl ?_
  refine jT_adv 1 (pcN := 14) (LN := [(3, (0, 0)), (0, (4, 0)), (1, (0, x2)), (2, (0, x3))]) (stN := [(0, 0), (4, 7), (0, 0), (4, 7)]) (hsN := jpA_147) (c1 := 0) (s1 := 0) (c2 := 0) (s2 := 0) (by exact rfl) ?_ (by omega) (by omega)
  refine jT_lald (x := 0) (a := 7) (j := 0) (fs := []) (X := [0, 0, 0, 0, 0, 0]) jI_207_14 rfl rfl rfl rfl ?_
  refine jT_eq (LN := [(3, (0, 0)), (0, (4, 0)), (1, (0, x2)), (2, (0, x3))]) (stN := [(1, 0), (0, 0), (4, 7)]) (hsN := jpA_147) rfl rfl rfl ?_
  refine jT_xiload_n (v := (0, x2)) (pcN := 16) jI_207_15 rfl rfl rfl ?_
  refine jT_xi2l (x := x2) (z := x2) (pcN := 17) jI_207_16 rfl (jw_idd (by omega) (by omega)) rfl ?_
  refine jT_xlmul (x := 0) (y := x2) (z := 0) (pcN := 18) jI_207_17 rfl (by omega) rfl ?_
  refine jT_adv 1 (pcN := 19) (LN := [(3, (0, 0)), (0, (4, 0)), (1, (0, x2)), (2, (0, x3))]) (stN := []) (hsN := jpA_147) (c1 := 0) (s1 := 0) (c2 := 0) (s2 := 0) (by exact rfl) ?_ (by omega) (by omega)
  refine jT_xiinc (x := 0) (z := 1) (LN := [(3, (0, 1)), (0, (4, 0)), (1, (0, x2)), (2, (0, x3))]) (pcN := 22) jI_207_19 rfl rfl (by decide) rfl rfl ?_
  refine jT_xgoto (pcN := 2) jI_207_22 rfl ?_
  refine jT_xiload_n (v := (0, 1)) (pcN := 3) jI_207_2 rfl rfl rfl ?_
  refine jT_xbipush (k := 6) (pcN := 5) jI_207_3 (by decide) rfl ?_
  refine jT_xicF (t := 25) (pcN := 8) jI_207_5 rfl (by decide +kernel) rfl rfl ?_
  refine jT_xaload_n (v := (4, 0)) (pcN := 9) jI_207_8 rfl rfl rfl ?_
  refine jT_xgetf (a := 0) (t := 1) (ci := 14) (fi := 9) (c := jzA_21) (v := (4, 7)) (pcN := 12) jI_207_9 rfl rfl rfl rfl rfl rfl rfl ?_
  refine jT_xiload_n (v := (0, 1)) (pcN := 13) jI_207_12 rfl rfl rfl ?_
  refine jT_adv 1 (pcN := 14) (LN := [(3, (0, 1)), (0, (4, 0)), (1, (0, x2)), (2, (0, x3))]) (stN := [(0, 1), (4, 7), (0, 1), (4, 7)]) (hsN := jpA_147) (c1 := 0) (s1 := 0) (c2 := 0) (s2 := 0) (by exact rfl) ?_ (by omega) (by omega)
  refine jT_lald (x := 0) (a := 7) (j := 1) (fs := []) (X := [0, 0, 0, 0, 0, 0]) jI_207_14 rfl rfl rfl rfl ?_
  refine jT_eq (LN := [(3, (0, 1)), (0, (4, 0)), (1, (0, x2)), (2, (0, x3))]) (stN := [(1, 0), (0, 1), (4, 7)]) (hsN := jpA_147) rfl rfl rfl ?_
  refine jT_xiload_n (v := (0, x2)) (pcN := 16) jI_207_15 rfl rfl rfl ?_
  refine jT_xi2l (x := x2) (z := x2) (pcN := 17) jI_207_16 rfl (jw_idd (by omega) (by omega)) rfl ?_
  refine jT_xlmul (x := 0) (y := x2) (z := 0) (pcN := 18) jI_207_17 rfl (by omega) rfl ?_
  refine jT_adv 1 (pcN := 19) (LN := [(3, (0, 1)), (0, (4, 0)), (1, (0, x2)), (2, (0, x3))]) (stN := []) (hsN := jpA_147) (c1 := 0) (s1 := 0) (c2 := 0) (s2 := 0) (by exact rfl) ?_ (by omega) (by omega)
  refine jT_xiinc (x := 1) (z := 2) (LN := [(3, (0, 2)), (0, (4, 0)), (1, (0, x2)), (2, (0, x3))]) (pcN := 22) jI_207_19 rfl rfl (by decide) rfl rfl ?_
  refine jT_xgoto (pcN := 2) jI_207_22 rfl ?_
  refine jT_xiload_n (v := (0, 2)) (pcN := 3) jI_207_2 rfl rfl rfl ?_
  refine jT_xbipush (k := 6) (pcN := 5) jI_207_3 (by decide) rfl ?_
  refine jT_xicF (t := 25) (pcN := 8) jI_207_5 rfl (by decide +kernel) rfl rfl ?_
  refine jT_xaload_n (v := (4, 0)) (pcN := 9) jI_207_8 rfl rfl rfl ?_
  refine jT_xgetf (a := 0) (t := 1) (ci := 14) (fi := 9) (c := jzA_21) (v := (4, 7)) (pcN := 12) jI_207_9 rfl rfl rfl rfl rfl rfl rfl ?_
  refine jT_xiload_n (v := (0, 2)) (pcN := 13) jI_207_12 rfl rfl rfl ?_
  refine jT_adv 1 (pcN := 14) (LN := [(3, (0, 2)), (0, (4, 0)), (1, (0, x2)), (2, (0, x3))]) (stN := [(0, 2), (4, 7), (0, 2), (4, 7)]) (hsN := jpA_147) (c1 := 0) (s1 := 0) (c2 := 0) (s2 := 0) (by exact rfl) ?_ (by omega) (by omega)
  refine jT_lald (x := 0) (a := 7) (j := 2) (fs := []) (X := [0, 0, 0, 0, 0, 0]) jI_207_14 rfl rfl rfl rfl ?_
  refine jT_eq (LN := [(3, (0, 2)), (0, (4, 0)), (1, (0, x2)), (2, (0, x3))]) (stN := [(1, 0), (0, 2), (4, 7)]) (hsN := jpA_147) rfl rfl rfl ?_
  refine jT_xiload_n (v := (0, x2)) (pcN := 16) jI_207_15 rfl rfl rfl ?_
  refine jT_xi2l (x := x2) (z := x2) (pcN := 17) jI_207_16 rfl (jw_idd (by omega) (by omega)) rfl ?_
  refine jT_xlmul (x := 0) (y := x2) (z := 0) (pcN := 18) jI_207_17 rfl (by omega) rfl ?_
  refine jT_adv 1 (pcN := 19) (LN := [(3, (0, 2)), (0, (4, 0)), (1, (0, x2)), (2, (0, x3))]) (stN := []) (hsN := jpA_147) (c1 := 0) (s1 := 0) (c2 := 0) (s2 := 0) (by exact rfl) ?_ (by omega) (by omega)
  refine jT_xiinc (x := 2) (z := 3) (LN := [(3, (0, 3)), (0, (4, 0)), (1, (0, x2)), (2, (0, x3))]) (pcN := 22) jI_207_19 rfl rfl (by decide) rfl rfl ?_
  refine jT_xgoto (pcN := 2) jI_207_22 rfl ?_
  refine jT_xiload_n (v := (0, 3)) (pcN := 3) jI_207_2 rfl rfl rfl ?_
  refine jT_xbipush (k := 6) (pcN := 5) jI_207_3 (by decide) rfl ?_
  refine jT_xicF (t := 25) (pcN := 8) jI_207_5 rfl (by decide +kernel) rfl rfl ?_
  refine jT_xaload_n (v := (4, 0)) (pcN := 9) jI_207_8 rfl rfl rfl ?_
  refine jT_xgetf (a := 0) (t := 1) (ci := 14) (fi := 9) (c := jzA_21) (v := (4, 7)) (pcN := 12) jI_207_9 rfl rfl rfl rfl rfl rfl rfl ?_
  refine jT_xiload_n (v := (0, 3)) (pcN := 13) jI_207_12 rfl rfl rfl ?_
  refine jT_adv 1 (pcN := 14) (LN := [(3, (0, 3)), (0, (4, 0)), (1, (0, x2)), (2, (0, x3))]) (stN := [(0, 3), (4, 7), (0, 3), (4, 7)]) (hsN := jpA_147) (c1 := 0) (s1 := 0) (c2 := 0) (s2 := 0) (by exact rfl) ?_ (by omega) (by omega)
  refine jT_lald (x := 0) (a := 7) (j := 3) (fs := []) (X := [0, 0, 0, 0, 0, 0]) jI_207_14 rfl rfl rfl rfl ?_
  refine jT_eq (LN := [(3, (0, 3)), (0, (4, 0)), (1, (0, x2)), (2, (0, x3))]) (stN := [(1, 0), (0, 3), (4, 7)]) (hsN := jpA_147) rfl rfl rfl ?_
  refine jT_xiload_n (v := (0, x2)) (pcN := 16) jI_207_15 rfl rfl rfl ?_
  refine jT_xi2l (x := x2) (z := x2) (pcN := 17) jI_207_16 rfl (jw_idd (by omega) (by omega)) rfl ?_
  refine jT_xlmul (x := 0) (y := x2) (z := 0) (pcN := 18) jI_207_17 rfl (by omega) rfl ?_
  refine jT_adv 1 (pcN := 19) (LN := [(3, (0, 3)), (0, (4, 0)), (1, (0, x2)), (2, (0, x3))]) (stN := []) (hsN := jpA_147) (c1 := 0) (s1 := 0) (c2 := 0) (s2 := 0) (by exact rfl) ?_ (by omega) (by omega)
  refine jT_xiinc (x := 3) (z := 4) (LN := [(3, (0, 4)), (0, (4, 0)), (1, (0, x2)), (2, (0, x3))]) (pcN := 22) jI_207_19 rfl rfl (by decide) rfl rfl ?_
  refine jT_xgoto (pcN := 2) jI_207_22 rfl ?_
  refine jT_xiload_n (v := (0, 4)) (pcN := 3) jI_207_2 rfl rfl rfl ?_
  refine jT_xbipush (k := 6) (pcN := 5) jI_207_3 (by decide) rfl ?_
  refine jT_xicF (t := 25) (pcN := 8) jI_207_5 rfl (by decide +kernel) rfl rfl ?_
  refine jT_xaload_n (v := (4, 0)) (pcN := 9) jI_207_8 rfl rfl rfl ?_
  refine jT_xgetf (a := 0) (t := 1) (ci := 14) (fi := 9) (c := jzA_21) (v := (4, 7)) (pcN := 12) jI_207_9 rfl rfl rfl rfl rfl rfl rfl ?_
  refine jT_xiload_n (v := (0, 4)) (pcN := 13) jI_207_12 rfl rfl rfl ?_
  refine jT_adv 1 (pcN := 14) (LN := [(3, (0, 4)), (0, (4, 0)), (1, (0, x2)), (2, (0, x3))]) (stN := [(0, 4), (4, 7), (0, 4), (4, 7)]) (hsN := jpA_147) (c1 := 0) (s1 := 0) (c2 := 0) (s2 := 0) (by exact rfl) ?_ (by omega) (by omega)
  refine jT_lald (x := 0) (a := 7) (j := 4) (fs := []) (X := [0, 0, 0, 0, 0, 0]) jI_207_14 rfl rfl rfl rfl ?_
  refine jT_eq (LN := [(3, (0, 4)), (0, (4, 0)), (1, (0, x2)), (2, (0, x3))]) (stN := [(1, 0), (0, 4), (4, 7)]) (hsN := jpA_147) rfl rfl rfl ?_
  refine jT_xiload_n (v := (0, x2)) (pcN := 16) jI_207_15 rfl rfl rfl ?_
  refine jT_xi2l (x := x2) (z := x2) (pcN := 17) jI_207_16 rfl (jw_idd (by omega) (by omega)) rfl ?_
  refine jT_xlmul (x := 0) (y := x2) (z := 0) (pcN := 18) jI_207_17 rfl (by omega) rfl ?_
  refine jT_adv 1 (pcN := 19) (LN := [(3, (0, 4)), (0, (4, 0)), (1, (0, x2)), (2, (0, x3))]) (stN := []) (hsN := jpA_147) (c1 := 0) (s1 := 0) (c2 := 0) (s2 := 0) (by exact rfl) ?_ (by omega) (by omega)
  refine jT_xiinc (x := 4) (z := 5) (LN := [(3, (0, 5)), (0, (4, 0)), (1, (0, x2)), (2, (0, x3))]) (pcN := 22) jI_207_19 rfl rfl (by decide) rfl rfl ?_
  refine jT_xgoto (pcN := 2) jI_207_22 rfl ?_
  refine jT_xiload_n (v := (0, 5)) (pcN := 3) jI_207_2 rfl rfl rfl ?_
  refine jT_xbipush (k := 6) (pcN := 5) jI_207_3 (by decide) rfl ?_
  refine jT_xicF (t := 25) (pcN := 8) jI_207_5 rfl (by decide +kernel) rfl rfl ?_
  refine jT_xaload_n (v := (4, 0)) (pcN := 9) jI_207_8 rfl rfl rfl ?_
  refine jT_xgetf (a := 0) (t := 1) (ci := 14) (fi := 9) (c := jzA_21) (v := (4, 7)) (pcN := 12) jI_207_9 rfl rfl rfl rfl rfl rfl rfl ?_
  refine jT_xiload_n (v := (0, 5)) (pcN := 13) jI_207_12 rfl rfl rfl ?_
  refine jT_adv 1 (pcN := 14) (LN := [(3, (0, 5)), (0, (4, 0)), (1, (0, x2)), (2, (0, x3))]) (stN := [(0, 5), (4, 7), (0, 5), (4, 7)]) (hsN := jpA_147) (c1 := 0) (s1 := 0) (c2 := 0) (s2 := 0) (by exact rfl) ?_ (by omega) (by omega)
  refine jT_lald (x := 0) (a := 7) (j := 5) (fs := []) (X := [0, 0, 0, 0, 0, 0]) jI_207_14 rfl rfl rfl rfl ?_
  refine jT_eq (LN := [(3, (0, 5)), (0, (4, 0)), (1, (0, x2)), (2, (0, x3))]) (stN := [(1, 0), (0, 5), (4, 7)]) (hsN := jpA_147) rfl rfl rfl ?_
  refine jT_xiload_n (v := (0, x2)) (pcN := 16) jI_207_15 rfl rfl rfl ?_
  refine jT_xi2l (x := x2) (z := x2) (pcN := 17) jI_207_16 rfl (jw_idd (by omega) (by omega)) rfl ?_
  refine jT_xlmul (x := 0) (y := x2) (z := 0) (pcN := 18) jI_207_17 rfl (by omega) rfl ?_
  refine jT_adv 1 (pcN := 19) (LN := [(3, (0, 5)), (0, (4, 0)), (1, (0, x2)), (2, (0, x3))]) (stN := []) (hsN := jpA_147) (c1 := 0) (s1 := 0) (c2 := 0) (s2 := 0) (by exact rfl) ?_ (by omega) (by omega)
  refine jT_xiinc (x := 5) (z := 6) (LN := [(3, (0, 6)), (0, (4, 0)), (1, (0, x2)), (2, (0, x3))]) (pcN := 22) jI_207_19 rfl rfl (by decide) rfl rfl ?_
  refine jT_xgoto (pcN := 2) jI_207_22 rfl ?_
  refine jT_xiload_n (v := (0, 6)) (pcN := 3) jI_207_2 rfl rfl rfl ?_
  refine jT_xbipush (k := 6) (pcN := 5) jI_207_3 (by decide) rfl ?_
  refine jT_xicT (pcN := 25) jI_207_5 rfl (by decide +kernel) rfl ?_
  refine jT_xaload_n (v := (4, 0)) (pcN := 26) jI_207_25 rfl rfl rfl ?_
  refine jT_adv 1 (pcN := 27) (LN := [(3, (0, 6)), (0, (4, 0)), (1, (0, x2)), (2, (0, x3))]) (stN := [(4, 0), (4, 0)]) (hsN := jpA_147) (c1 := 0) (s1 := 0) (c2 := 0) (s2 := 0) (by exact rfl) ?_ (by omega) (by omega)
  refine jT_xgetf (a := 0) (t := 1) (ci := 14) (fi := 10) (c := jzA_21) (v := (1, 1)) (pcN := 30) jI_207_27 rfl rfl rfl rfl rfl rfl rfl ?_
  refine jT_xiload_n (v := (0, x3)) (pcN := 31) jI_207_30 rfl rfl rfl ?_
  refine jT_xi2l (x := x3) (z := x3) (pcN := 32) jI_207_31 rfl (jw_idd (by omega) (by omega)) rfl ?_
  refine jT_xlmul (x := 1) (y := x3) (z := x3) (pcN := 33) jI_207_32 rfl (by omega) rfl ?_
  refine jT_adv 1 (pcN := 36) (LN := [(3, (0, 6)), (0, (4, 0)), (1, (0, x2)), (2, (0, x3))]) (stN := []) (hsN := [(14, [(0, 0), (4, 1), (4, 2), (4, 3), (4, 4), (0, 0), (4, 5), (0, 0), (4, 6), (4, 7), (1, x3), (4, 8), (0, 0), (4, 9), (0, 0), (0, 0), (0, 0), (0, 0), (0, 0), (0, 0), (0, 0), (4, 10), (4, 11), (4, 12), (4, 13), (4, 14), (4, 15), (0, 0)], []), jgh, jgh, jgh, jgh, jgh, jgh, (101, [], [0, 0, 0, 0, 0, 0]), jgh, jgh, jgh, jgh, jgh, jgh, jgh, jgh]) (c1 := 0) (s1 := 0) (c2 := 0) (s2 := 0) (by exact rfl) ?_ (by omega) (by omega)
  refine jT_xaload_n (v := (4, 0)) (pcN := 37) jI_207_36 rfl rfl rfl ?_
  refine jT_callB [0, 1, 2, 3, 4, 5, 6, 7, 8, 9, 10, 11, 12, 13, 14, 15] (y := 199) (pcN := 40) (dC := 1) (bc1 := 0) (bc2 := 0) (c1 := 0) (c2 := 0) (as := [(4, 0)]) (asC := [(4, 0)]) (LN := [(3, (0, 6)), (0, (4, 0)), (1, (0, x2)), (2, (0, x3))]) (stN := []) (hsC := [(14, [(0, 0), (4, 1), (4, 2), (4, 3), (4, 4), (0, 0), (4, 5), (0, 0), (4, 6), (4, 7), (1, x3), (4, 8), (0, 0), (4, 9), (0, 0), (0, 0), (0, 0), (0, 0), (0, 0), (0, 0), (0, 0), (4, 10), (4, 11), (4, 12), (4, 13), (4, 14), (4, 15), (0, 0)], []), jgh, jgh, jgh, jgh, jgh, jgh, (101, [], [0, 0, 0, 0, 0, 0]), jgh, jgh, jgh, jgh, jgh, jgh, jgh, jgh]) (hsD := jpA_147) (v := (9, 0)) (st2 := []) (hs2 := jpA_147) (jA_199_127 (d := 0) (by omega)) (by rfl) (by rfl) (by rfl) (by rfl) ⟨rfl, rfl, rfl, rfl, rfl, rfl, rfl, rfl, rfl, rfl, rfl, rfl, rfl, rfl, rfl, rfl, trivial⟩ (by rfl) (by rfl) (by omega) (by show 16 ≤ 16; omega) (by omega) (by omega) rfl rfl ?_
  exact jT_ret rfl (by decide) (by show 16 ≤ 16; decide) (by omega) (by omega) ⟨rfl, rfl, rfl⟩
theorem jA_206_129 {xs : List Int} {d : Nat} {x1 x2 x3 : Int} (h_x1 : 0 ≤ x1 ∧ x1 ≤ 7) (h_x2 : (-100) ≤ x2 ∧ x2 ≤ 100) (h_x3 : 2 ≤ x3 ∧ x3 ≤ 24) : jT xs (d + 3) 206 24 0 [(0, (4, 0)), (1, (0, x1)), (2, (0, x2)), (3, (0, x3))] [] jpA_248 0 0 (fun k v hsN => k = 0 ∧ v = (0, 1) ∧ hsN = [jzA_200, (100, [], ((((((((((((((jS0).set ((7 * x1).toNat) 0)).set ((7 * x1 + 1).toNat) 0)).set ((7 * x1 + 2).toNat) 0)).set ((7 * x1 + 3).toNat) 0)).set ((7 * x1 + 4).toNat) 0)).set ((7 * x1 + 5).toNat) 0)).set ((7 * x1 + 6).toNat) 1)), (100, [], []), jzA_196, jzA_201, jgh, jgh, (101, [], [0, 0, 0, 0, 0, 0]), jgh, jgh, jgh, jgh, jgh, jgh, jgh, jgh, (100, [], jS0), jgh, jgh, jgh, jgh, jgh, jgh, jgh]) := by
  refine jT_xaload_n (v := (4, 0)) (pcN := 1) jI_206_0 rfl rfl rfl ?_
  refine jT_xiload_n (v := (0, x1)) (pcN := 2) jI_206_1 rfl rfl rfl ?_
  refine jT_fR [] 24 (y := 188) (pcN := 5) (dC := 1) (bc1 := 0) (bc2 := 0) (c1 := 0) (c2 := 0) (as := [(0, x1)]) (asC := [(0, x1)]) (LN := [(0, (4, 0)), (1, (0, x1)), (2, (0, x2)), (3, (0, x3))]) (stN := [(4, 0)]) (hsC := []) (v := (0, 1)) (st2 := [(0, 1), (4, 0)]) (jA_188_13 (d := 0) (by omega)) (by rfl) (by rfl) (by decide +kernel) (by rfl) (by rfl) (by omega) (by omega) (by omega) (by omega) rfl ?_
  refine jT_fR [0, 1, 2, 3, 4, 5, 6, 7, 8, 9, 10, 11, 12, 13, 14, 15] 24 (y := 190) (pcN := 8) (dC := 1) (bc1 := 0) (bc2 := 0) (c1 := 0) (c2 := 0) (as := [(4, 0), (0, 1)]) (asC := [(4, 0), (0, 1)]) (LN := [(0, (4, 0)), (1, (0, x1)), (2, (0, x2)), (3, (0, x3))]) (stN := []) (hsC := jpA_22) (v := (0, 0)) (st2 := [(0, 0)]) (jA_190_39 (d := 0)) (by rfl) (by rfl) (by decide +kernel) (by rfl) (by rfl) (by omega) (by omega) (by omega) (by omega) rfl ?_
  refine jT_xifF (t := 50) (pcN := 11) jI_206_8 rfl (by decide +kernel) rfl rfl ?_
  refine jT_xaload_n (v := (4, 0)) (pcN := 12) jI_206_11 rfl rfl rfl ?_
  refine jT_xiload_n (v := (0, x2)) (pcN := 13) jI_206_12 rfl rfl rfl ?_
  refine jT_xi2l (x := x2) (z := x2) (pcN := 14) jI_206_13 rfl (jw_idd (by omega) (by omega)) rfl ?_
  refine jT_adv 2 (pcN := 20) (LN := [(0, (4, 0)), (1, (0, x1)), (2, (0, x2)), (3, (0, x3))]) (stN := [(1, 100), (1, (-100)), (1, x2), (4, 0)]) (hsN := jpA_248) (c1 := 0) (s1 := 0) (c2 := 0) (s2 := 0) (by exact rfl) ?_ (by omega) (by omega)
  refine jT_fR [] 24 (y := 189) (pcN := 23) (dC := 0) (bc1 := 0) (bc2 := 0) (c1 := 0) (c2 := 0) (as := [(1, x2), (1, (-100)), (1, 100)]) (asC := [(1, x2), (1, (-100)), (1, 100)]) (LN := [(0, (4, 0)), (1, (0, x1)), (2, (0, x2)), (3, (0, x3))]) (stN := [(4, 0)]) (hsC := []) (v := (0, 1)) (st2 := [(0, 1), (4, 0)]) (jT_in_ok (d := 0) (v := x2) (lo := (-100)) (hi := 100) (by omega) (by omega) (by omega) (by omega) (by omega)) (by rfl) (by rfl) (by decide +kernel) (by rfl) (by rfl) (by omega) (by omega) (by omega) (by omega) rfl ?_
  refine jT_xifF (t := 42) (pcN := 26) jI_206_23 rfl (by decide +kernel) rfl rfl ?_
  refine jT_xiload_n (v := (0, x3)) (pcN := 27) jI_206_26 rfl rfl rfl ?_
  refine jT_xi2l (x := x3) (z := x3) (pcN := 28) jI_206_27 rfl (jw_idd (by omega) (by omega)) rfl ?_
  refine jT_xlconst (z := 1) (pcN := 29) jI_206_28 rfl rfl ?_
  refine jT_adv 1 (pcN := 32) (LN := [(0, (4, 0)), (1, (0, x1)), (2, (0, x2)), (3, (0, x3))]) (stN := [(1, 24), (1, 1), (1, x3), (4, 0)]) (hsN := jpA_248) (c1 := 0) (s1 := 0) (c2 := 0) (s2 := 0) (by exact rfl) ?_ (by omega) (by omega)
  refine jT_fR [] 24 (y := 189) (pcN := 35) (dC := 0) (bc1 := 0) (bc2 := 0) (c1 := 0) (c2 := 0) (as := [(1, x3), (1, 1), (1, 24)]) (asC := [(1, x3), (1, 1), (1, 24)]) (LN := [(0, (4, 0)), (1, (0, x1)), (2, (0, x2)), (3, (0, x3))]) (stN := [(4, 0)]) (hsC := []) (v := (0, 1)) (st2 := [(0, 1), (4, 0)]) (jT_in_ok (d := 0) (v := x3) (lo := 1) (hi := 24) (by omega) (by omega) (by omega) (by omega) (by omega)) (by rfl) (by rfl) (by decide +kernel) (by rfl) (by rfl) (by omega) (by omega) (by omega) (by omega) rfl ?_
  refine jT_xifF (t := 42) (pcN := 38) jI_206_35 rfl (by decide +kernel) rfl rfl ?_
  refine jT_xiconst (k := 1) (pcN := 39) jI_206_38 rfl ?_
  refine jT_xgoto (pcN := 43) jI_206_39 rfl ?_
  refine jT_xiconst (k := 2) (pcN := 44) jI_206_43 rfl ?_
  refine jT_fR [0] 24 (y := 191) (pcN := 47) (dC := 0) (bc1 := 0) (bc2 := 0) (c1 := 0) (c2 := 0) (as := [(4, 0), (0, 1), (0, 2)]) (asC := [(4, 0), (0, 1), (0, 2)]) (LN := [(0, (4, 0)), (1, (0, x1)), (2, (0, x2)), (3, (0, x3))]) (stN := []) (hsC := [jgh]) (v := (0, 0)) (st2 := [(0, 0)]) (jA_191_49 (d := 0)) (by rfl) (by rfl) (by decide +kernel) (by rfl) (by rfl) (by omega) (by omega) (by omega) (by omega) rfl ?_
  refine jT_xifT (pcN := 52) jI_206_47 rfl (by decide +kernel) rfl ?_
  refine jT_xaload_n (v := (4, 0)) (pcN := 53) jI_206_52 rfl rfl rfl ?_
  refine jT_xiload_n (v := (0, x1)) (pcN := 54) jI_206_53 rfl rfl rfl ?_
  refine jT_fR [0, 1, 2, 3, 4, 5, 6, 7, 8, 9, 10, 11, 12, 13, 14, 15] 24 (y := 202) (pcN := 57) (dC := 1) (bc1 := 0) (bc2 := 0) (c1 := 0) (c2 := 0) (as := [(4, 0), (0, x1)]) (asC := [(4, 0), (0, x1)]) (LN := [(0, (4, 0)), (1, (0, x1)), (2, (0, x2)), (3, (0, x3))]) (stN := []) (hsC := jpA_130) (v := (9, 0)) (st2 := []) (jA_202_115 (d := 0) (by omega)) (by rfl) (by rfl) (by decide +kernel) (by rfl) (by rfl) (by omega) (by omega) (by omega) (by omega) rfl ?_
  refine jT_xaload_n (v := (4, 0)) (pcN := 58) jI_206_57 rfl rfl rfl ?_
  refine jT_xiload_n (v := (0, x2)) (pcN := 59) jI_206_58 rfl rfl rfl ?_
  refine jT_xiload_n (v := (0, x3)) (pcN := 60) jI_206_59 rfl rfl rfl ?_
  refine jT_fR [0, 1, 2, 3, 4, 5, 6, 7, 8, 9, 10, 11, 12, 13, 14, 15] 24 (y := 207) (pcN := 63) (dC := 2) (bc1 := 0) (bc2 := 0) (c1 := 0) (c2 := 0) (as := [(4, 0), (0, x2), (0, x3)]) (asC := [(4, 0), (0, x2), (0, x3)]) (LN := [(0, (4, 0)), (1, (0, x1)), (2, (0, x2)), (3, (0, x3))]) (stN := []) (hsC := jpA_147) (v := (9, 0)) (st2 := []) (jA_207_128 (d := 0) (by omega) (by omega)) (by rfl) (by rfl) (by decide +kernel) (by rfl) (by rfl) (by omega) (by omega) (by omega) (by omega) rfl ?_
  refine jT_xaload_n (v := (4, 0)) (pcN := 64) jI_206_63 rfl rfl rfl ?_
  refine jT_xaload_n (v := (4, 0)) (pcN := 65) jI_206_64 rfl rfl rfl ?_
  refine jT_fR [0, 1, 2, 3, 4, 5, 6, 7, 8, 9, 10, 11, 12, 13, 14, 15] 24 (y := 205) (pcN := 68) (dC := 1) (bc1 := 0) (bc2 := 0) (c1 := 0) (c2 := 0) (as := [(4, 0)]) (asC := [(4, 0)]) (LN := [(0, (4, 0)), (1, (0, x1)), (2, (0, x2)), (3, (0, x3))]) (stN := [(4, 0)]) (hsC := jpA_147) (v := (0, 1)) (st2 := [(0, 1), (4, 0)]) (jA_205_48 (d := 0)) (by rfl) (by rfl) (by decide +kernel) (by rfl) (by rfl) (by omega) (by omega) (by omega) (by omega) rfl ?_
  refine jT_xiconst (k := 3) (pcN := 69) jI_206_68 rfl ?_
  refine jT_fR [0] 24 (y := 191) (pcN := 72) (dC := 0) (bc1 := 0) (bc2 := 0) (c1 := 0) (c2 := 0) (as := [(4, 0), (0, 1), (0, 3)]) (asC := [(4, 0), (0, 1), (0, 3)]) (LN := [(0, (4, 0)), (1, (0, x1)), (2, (0, x2)), (3, (0, x3))]) (stN := []) (hsC := [jgh]) (v := (0, 0)) (st2 := [(0, 0)]) (jA_191_117 (d := 0)) (by rfl) (by rfl) (by decide +kernel) (by rfl) (by rfl) (by omega) (by omega) (by omega) (by omega) rfl ?_
  refine jT_xifT (pcN := 77) jI_206_72 rfl (by decide +kernel) rfl ?_
  refine jT_xaload_n (v := (4, 0)) (pcN := 78) jI_206_77 rfl rfl rfl ?_
  refine jT_fB [0, 1, 2, 3, 4, 5, 6, 7, 8, 9, 10, 11, 12, 13, 14, 15, 16, 17, 18, 19, 20, 21, 22, 23] 24 (y := 195) (pcN := 81) (dC := 0) (bc1 := 0) (bc2 := 0) (c1 := 0) (c2 := 0) (as := [(4, 0)]) (asC := [(4, 0)]) (LN := [(0, (4, 0)), (1, (0, x1)), (2, (0, x2)), (3, (0, x3))]) (stN := []) (hsC := jpA_198) (hsD := jpA_202) (v := (9, 0)) (st2 := []) (hs2 := jpA_255) (jA_195_50 (d := 0)) (by rfl) (by rfl) (by decide +kernel) (by rfl) (by rfl) (by omega) (by omega) (by omega) (by omega) rfl (by decide +kernel) ?_
  refine jT_xaload_n (v := (4, 0)) (pcN := 82) jI_206_81 rfl rfl rfl ?_
  refine jT_xiload_n (v := (0, x1)) (pcN := 83) jI_206_82 rfl rfl rfl ?_
  refine jT_fB [0, 1, 2, 3, 4, 5, 6, 7, 8, 9, 10, 11, 12, 13, 14, 15] 24 (y := 196) (pcN := 86) (dC := 1) (bc1 := 0) (bc2 := 0) (c1 := 0) (c2 := 0) (as := [(4, 0), (0, x1)]) (asC := [(4, 0), (0, x1)]) (LN := [(0, (4, 0)), (1, (0, x1)), (2, (0, x2)), (3, (0, x3))]) (stN := []) (hsC := jpA_216) (hsD := [jzA_200, (100, [], ((((((((((((((jS0).set ((7 * x1).toNat) 0)).set ((7 * x1 + 1).toNat) 0)).set ((7 * x1 + 2).toNat) 0)).set ((7 * x1 + 3).toNat) 0)).set ((7 * x1 + 4).toNat) 0)).set ((7 * x1 + 5).toNat) 0)).set ((7 * x1 + 6).toNat) 1)), jgh, jgh, jgh, jgh, jgh, (101, [], [0, 0, 0, 0, 0, 0]), jgh, jgh, jgh, jgh, jgh, jgh, jgh, jgh]) (v := (0, 1)) (st2 := [(0, 1)]) (hs2 := [jzA_200, (100, [], ((((((((((((((jS0).set ((7 * x1).toNat) 0)).set ((7 * x1 + 1).toNat) 0)).set ((7 * x1 + 2).toNat) 0)).set ((7 * x1 + 3).toNat) 0)).set ((7 * x1 + 4).toNat) 0)).set ((7 * x1 + 5).toNat) 0)).set ((7 * x1 + 6).toNat) 1)), (100, [], []), jzA_196, jzA_201, jgh, jgh, (101, [], [0, 0, 0, 0, 0, 0]), jgh, jgh, jgh, jgh, jgh, jgh, jgh, jgh, (100, [], jS0), jgh, jgh, jgh, jgh, jgh, jgh, jgh]) (jA_196_52 (d := 0) (by omega)) (by rfl) (by rfl) (by decide +kernel) (by rfl) (by rfl) (by omega) (by omega) (by omega) (by omega) rfl rfl ?_
  exact jT_ret rfl (by decide) (by show 24 ≤ 24; decide) (by omega) (by omega) ⟨rfl, rfl, rfl⟩
theorem jA_116_130 {xs : List Int} {d : Nat} {x3 : Int} (h_x3 : 25 ≤ x3 ∧ x3 ≤ 2147483647) : jT xs d 116 1 0 [(0, (4, 0)), (1, (0, x3)), (2, (0, 1)), (3, (0, 24))] [] [jgh] 1 6 (fun k v hsN => k = 1 ∧ v = (0, 1) ∧ hsN = [jgh] ++ []) := by
  refine jT_xiload_n (v := (0, x3)) (pcN := 1) jI_116_0 rfl rfl rfl ?_
  refine jT_xiload_n (v := (0, 1)) (pcN := 2) jI_116_1 rfl rfl rfl ?_
  refine jT_icF (a := x3) (b := 1) (t := 10) (by rfl) (by rfl) (by rfl) (jw_idd (by omega) (by omega)) (jw_idd (by omega) (by omega)) (by simp only [jcP] <;> omega) ?_
  refine jT_xiload_n (v := (0, x3)) (pcN := 6) jI_116_5 rfl rfl rfl ?_
  refine jT_xiload_n (v := (0, 24)) (pcN := 7) jI_116_6 rfl rfl rfl ?_
  refine jT_icF (a := x3) (b := 24) (t := 21) (by rfl) (by rfl) (by rfl) (jw_idd (by omega) (by omega)) (jw_idd (by omega) (by omega)) (by simp only [jcP] <;> omega) ?_
  exact jT_ret (c1 := 1) (s1 := 6) rfl (by decide) (by show 1 ≤ 1; decide) (by omega) (by omega) ⟨rfl, rfl, rfl⟩
theorem jA_120_131 {xs : List Int} {d : Nat} {x1 x2 x3 : Int} (h_x1 : 0 ≤ x1 ∧ x1 ≤ 7) (h_x2 : (-100) ≤ x2 ∧ x2 ≤ 100) (h_x3 : 25 ≤ x3 ∧ x3 ≤ 2147483647) : jT xs (d + 1) 120 12 0 [(0, (4, 0)), (1, (0, x1)), (2, (0, x2)), (3, (0, x3))] [] jpA_6 1 6 (fun k v hsN => k = 1 ∧ v = (0, 1) ∧ hsN = jpA_6 ++ []) := by
  refine jT_xaload_n (v := (4, 0)) (pcN := 1) jI_120_0 rfl rfl rfl ?_
  refine jT_xiload_n (v := (0, x1)) (pcN := 2) jI_120_1 rfl rfl rfl ?_
  refine jT_xbipush (k := 8) (pcN := 4) jI_120_2 (by decide) rfl ?_
  refine jT_fR [0] 12 (y := 115) (pcN := 7) (dC := 0) (bc1 := 0) (bc2 := 0) (c1 := 1) (c2 := 6) (as := [(4, 0), (0, x1), (0, 8)]) (asC := [(4, 0), (0, x1), (0, 8)]) (LN := [(0, (4, 0)), (1, (0, x1)), (2, (0, x2)), (3, (0, x3))]) (stN := []) (hsC := [jgh]) (v := (9, 0)) (st2 := []) (jA_115_9 (d := 0) (by omega)) (by rfl) (by rfl) (by decide +kernel) (by rfl) (by rfl) (by omega) (by omega) (by omega) (by omega) rfl ?_
  refine jT_xaload_n (v := (4, 0)) (pcN := 8) jI_120_7 rfl rfl rfl ?_
  refine jT_xiload_n (v := (0, x2)) (pcN := 9) jI_120_8 rfl rfl rfl ?_
  refine jT_xbipush (k := (-100)) (pcN := 11) jI_120_9 (by decide) rfl ?_
  refine jT_xbipush (k := 100) (pcN := 13) jI_120_11 (by decide) rfl ?_
  refine jT_fR [0] 12 (y := 116) (pcN := 16) (dC := 0) (bc1 := 0) (bc2 := 0) (c1 := 1) (c2 := 6) (as := [(4, 0), (0, x2), (0, (-100)), (0, 100)]) (asC := [(4, 0), (0, x2), (0, (-100)), (0, 100)]) (LN := [(0, (4, 0)), (1, (0, x1)), (2, (0, x2)), (3, (0, x3))]) (stN := []) (hsC := [jgh]) (v := (9, 0)) (st2 := []) (jA_116_102 (d := 0) (by omega)) (by rfl) (by rfl) (by decide +kernel) (by rfl) (by rfl) (by omega) (by omega) (by omega) (by omega) rfl ?_
  refine jT_xaload_n (v := (4, 0)) (pcN := 17) jI_120_16 rfl rfl rfl ?_
  refine jT_xiload_n (v := (0, x3)) (pcN := 18) jI_120_17 rfl rfl rfl ?_
  refine jT_xiconst (k := 1) (pcN := 19) jI_120_18 rfl ?_
  refine jT_xbipush (k := 24) (pcN := 21) jI_120_19 (by decide) rfl ?_
  exact jT_fX [0] 12 (y := 116) (pcN := 24) (dC := 0) (bc1 := 1) (bc2 := 6) (as := [(4, 0), (0, x3), (0, 1), (0, 24)]) (asC := [(4, 0), (0, x3), (0, 1), (0, 24)]) (LN := [(0, (4, 0)), (1, (0, x1)), (2, (0, x2)), (3, (0, x3))]) (stN := []) (hsC := [jgh]) (e := 1) (jA_116_130 (d := 0) (by omega)) (by rfl) (by rfl) (by decide +kernel) (by rfl) (by rfl) (by omega) (by omega) (by omega) (by omega) ⟨rfl, ⟨rfl, rfl, rfl⟩⟩
theorem jA_329_132 {xs : List Int} {d : Nat} {x1 x2 x3 : Int} (h_x1 : 0 ≤ x1 ∧ x1 ≤ 7) (h_x2 : (-100) ≤ x2 ∧ x2 ≤ 100) (h_x3 : 25 ≤ x3 ∧ x3 ≤ 2147483647) : jT xs (d + 2) 329 13 0 [(0, (4, 0)), (1, (0, x1)), (2, (0, x2)), (3, (0, x3)), (4, (4, 1))] [] jpA_15 1 6 (fun k v hsN => k = 0 ∧ v = (0, 2) ∧ hsN = jpA_15 ++ []) := by
  refine jT_xaload (v := (4, 1)) (pcN := 2) jI_329_0 rfl rfl rfl ?_
  refine jT_xiconst (k := 0) (pcN := 3) jI_329_2 rfl ?_
  refine jT_xaload_n (v := (4, 0)) (pcN := 4) jI_329_3 rfl rfl rfl ?_
  refine jT_xiload_n (v := (0, x1)) (pcN := 5) jI_329_4 rfl rfl rfl ?_
  refine jT_xiload_n (v := (0, x2)) (pcN := 6) jI_329_5 rfl rfl rfl ?_
  refine jT_xiload_n (v := (0, x3)) (pcN := 7) jI_329_6 rfl rfl rfl ?_
  exact jT_fX [0, 2, 3, 4, 5, 6, 7, 8, 9, 10, 11, 12] 13 (y := 120) (pcN := 10) (dC := 1) (bc1 := 1) (bc2 := 6) (as := [(4, 0), (0, x1), (0, x2), (0, x3)]) (asC := [(4, 0), (0, x1), (0, x2), (0, x3)]) (LN := [(0, (4, 0)), (1, (0, x1)), (2, (0, x2)), (3, (0, x3)), (4, (4, 1))]) (stN := [(0, 0), (4, 1)]) (hsC := jpA_6) (e := 1) (jA_120_131 (d := 0) (by omega) (by omega) (by omega)) (by rfl) (by rfl) (by decide +kernel) (by rfl) (by rfl) (by omega) (by omega) (by omega) (by omega) (show _ from ⟨rfl, rfl, rfl⟩)
theorem jA_206_133 {xs : List Int} {d : Nat} {x1 x2 x3 : Int} (h_x1 : 0 ≤ x1 ∧ x1 ≤ 7) (h_x2 : (-100) ≤ x2 ∧ x2 ≤ 100) (h_x3 : 25 ≤ x3 ∧ x3 ≤ 2147483647) : jT xs (d + 2) 206 16 0 [(0, (4, 0)), (1, (0, x1)), (2, (0, x2)), (3, (0, x3))] [] jpA_22 0 0 (fun k v hsN => k = 0 ∧ v = (0, 0) ∧ hsN = jpA_361) := by
  refine jT_xaload_n (v := (4, 0)) (pcN := 1) jI_206_0 rfl rfl rfl ?_
  refine jT_xiload_n (v := (0, x1)) (pcN := 2) jI_206_1 rfl rfl rfl ?_
  refine jT_fR [] 16 (y := 188) (pcN := 5) (dC := 1) (bc1 := 0) (bc2 := 0) (c1 := 0) (c2 := 0) (as := [(0, x1)]) (asC := [(0, x1)]) (LN := [(0, (4, 0)), (1, (0, x1)), (2, (0, x2)), (3, (0, x3))]) (stN := [(4, 0)]) (hsC := []) (v := (0, 1)) (st2 := [(0, 1), (4, 0)]) (jA_188_13 (d := 0) (by omega)) (by rfl) (by rfl) (by decide +kernel) (by rfl) (by rfl) (by omega) (by omega) (by omega) (by omega) rfl ?_
  refine jT_fR [0, 1, 2, 3, 4, 5, 6, 7, 8, 9, 10, 11, 12, 13, 14, 15] 16 (y := 190) (pcN := 8) (dC := 1) (bc1 := 0) (bc2 := 0) (c1 := 0) (c2 := 0) (as := [(4, 0), (0, 1)]) (asC := [(4, 0), (0, 1)]) (LN := [(0, (4, 0)), (1, (0, x1)), (2, (0, x2)), (3, (0, x3))]) (stN := []) (hsC := jpA_22) (v := (0, 0)) (st2 := [(0, 0)]) (jA_190_39 (d := 0)) (by rfl) (by rfl) (by decide +kernel) (by rfl) (by rfl) (by omega) (by omega) (by omega) (by omega) rfl ?_
  refine jT_xifF (t := 50) (pcN := 11) jI_206_8 rfl (by decide +kernel) rfl rfl ?_
  refine jT_xaload_n (v := (4, 0)) (pcN := 12) jI_206_11 rfl rfl rfl ?_
  refine jT_xiload_n (v := (0, x2)) (pcN := 13) jI_206_12 rfl rfl rfl ?_
  refine jT_xi2l (x := x2) (z := x2) (pcN := 14) jI_206_13 rfl (jw_idd (by omega) (by omega)) rfl ?_
  refine jT_adv 2 (pcN := 20) (LN := [(0, (4, 0)), (1, (0, x1)), (2, (0, x2)), (3, (0, x3))]) (stN := [(1, 100), (1, (-100)), (1, x2), (4, 0)]) (hsN := jpA_22) (c1 := 0) (s1 := 0) (c2 := 0) (s2 := 0) (by exact rfl) ?_ (by omega) (by omega)
  refine jT_fR [] 16 (y := 189) (pcN := 23) (dC := 0) (bc1 := 0) (bc2 := 0) (c1 := 0) (c2 := 0) (as := [(1, x2), (1, (-100)), (1, 100)]) (asC := [(1, x2), (1, (-100)), (1, 100)]) (LN := [(0, (4, 0)), (1, (0, x1)), (2, (0, x2)), (3, (0, x3))]) (stN := [(4, 0)]) (hsC := []) (v := (0, 1)) (st2 := [(0, 1), (4, 0)]) (jT_in_ok (d := 0) (v := x2) (lo := (-100)) (hi := 100) (by omega) (by omega) (by omega) (by omega) (by omega)) (by rfl) (by rfl) (by decide +kernel) (by rfl) (by rfl) (by omega) (by omega) (by omega) (by omega) rfl ?_
  refine jT_xifF (t := 42) (pcN := 26) jI_206_23 rfl (by decide +kernel) rfl rfl ?_
  refine jT_xiload_n (v := (0, x3)) (pcN := 27) jI_206_26 rfl rfl rfl ?_
  refine jT_xi2l (x := x3) (z := x3) (pcN := 28) jI_206_27 rfl (jw_idd (by omega) (by omega)) rfl ?_
  refine jT_xlconst (z := 1) (pcN := 29) jI_206_28 rfl rfl ?_
  refine jT_adv 1 (pcN := 32) (LN := [(0, (4, 0)), (1, (0, x1)), (2, (0, x2)), (3, (0, x3))]) (stN := [(1, 24), (1, 1), (1, x3), (4, 0)]) (hsN := jpA_22) (c1 := 0) (s1 := 0) (c2 := 0) (s2 := 0) (by exact rfl) ?_ (by omega) (by omega)
  refine jT_fR [] 16 (y := 189) (pcN := 35) (dC := 0) (bc1 := 0) (bc2 := 0) (c1 := 0) (c2 := 0) (as := [(1, x3), (1, 1), (1, 24)]) (asC := [(1, x3), (1, 1), (1, 24)]) (LN := [(0, (4, 0)), (1, (0, x1)), (2, (0, x2)), (3, (0, x3))]) (stN := [(4, 0)]) (hsC := []) (v := (0, 0)) (st2 := [(0, 0), (4, 0)]) (jT_in_hi (d := 0) (v := x3) (lo := 1) (hi := 24) (by omega) (by omega) (by omega) (by omega) (by omega)) (by rfl) (by rfl) (by decide +kernel) (by rfl) (by rfl) (by omega) (by omega) (by omega) (by omega) rfl ?_
  refine jT_xifT (pcN := 42) jI_206_35 rfl (by decide +kernel) rfl ?_
  refine jT_xiconst (k := 0) (pcN := 43) jI_206_42 rfl ?_
  refine jT_xiconst (k := 2) (pcN := 44) jI_206_43 rfl ?_
  refine jT_fB [0, 1, 2, 3, 4, 5, 6, 7, 8, 9, 10, 11, 12, 13, 14, 15] 16 (y := 191) (pcN := 47) (dC := 0) (bc1 := 0) (bc2 := 0) (c1 := 0) (c2 := 0) (as := [(4, 0), (0, 0), (0, 2)]) (asC := [(4, 0), (0, 0), (0, 2)]) (LN := [(0, (4, 0)), (1, (0, x1)), (2, (0, x2)), (3, (0, x3))]) (stN := []) (hsC := jpA_22) (hsD := jpA_361) (v := (0, 1)) (st2 := [(0, 1)]) (hs2 := jpA_361) (jA_191_99 (d := 0)) (by rfl) (by rfl) (by decide +kernel) (by rfl) (by rfl) (by omega) (by omega) (by omega) (by omega) rfl (by decide +kernel) ?_
  refine jT_xifF (t := 52) (pcN := 50) jI_206_47 rfl (by decide +kernel) rfl rfl ?_
  refine jT_xiconst (k := 0) (pcN := 51) jI_206_50 rfl ?_
  exact jT_ret rfl (by decide) (by show 16 ≤ 16; decide) (by omega) (by omega) ⟨rfl, rfl, rfl⟩
theorem jA_116_134 {xs : List Int} {d : Nat} {x2 : Int} (h_x2 : 101 ≤ x2 ∧ x2 ≤ 2147483647) : jT xs d 116 1 0 [(0, (4, 0)), (1, (0, x2)), (2, (0, (-100))), (3, (0, 100))] [] [jgh] 1 6 (fun k v hsN => k = 1 ∧ v = (0, 1) ∧ hsN = [jgh] ++ []) := by
  refine jT_xiload_n (v := (0, x2)) (pcN := 1) jI_116_0 rfl rfl rfl ?_
  refine jT_xiload_n (v := (0, (-100))) (pcN := 2) jI_116_1 rfl rfl rfl ?_
  refine jT_icF (a := x2) (b := (-100)) (t := 10) (by rfl) (by rfl) (by rfl) (jw_idd (by omega) (by omega)) (jw_idd (by omega) (by omega)) (by simp only [jcP] <;> omega) ?_
  refine jT_xiload_n (v := (0, x2)) (pcN := 6) jI_116_5 rfl rfl rfl ?_
  refine jT_xiload_n (v := (0, 100)) (pcN := 7) jI_116_6 rfl rfl rfl ?_
  refine jT_icF (a := x2) (b := 100) (t := 21) (by rfl) (by rfl) (by rfl) (jw_idd (by omega) (by omega)) (jw_idd (by omega) (by omega)) (by simp only [jcP] <;> omega) ?_
  exact jT_ret (c1 := 1) (s1 := 6) rfl (by decide) (by show 1 ≤ 1; decide) (by omega) (by omega) ⟨rfl, rfl, rfl⟩
theorem jA_120_135 {xs : List Int} {d : Nat} {x1 x2 x3 : Int} (h_x1 : 0 ≤ x1 ∧ x1 ≤ 7) (h_x2 : 101 ≤ x2 ∧ x2 ≤ 2147483647) (h_x3 : (-2147483648) ≤ x3 ∧ x3 ≤ 2147483647) : jT xs (d + 1) 120 12 0 [(0, (4, 0)), (1, (0, x1)), (2, (0, x2)), (3, (0, x3))] [] jpA_6 1 6 (fun k v hsN => k = 1 ∧ v = (0, 1) ∧ hsN = jpA_6 ++ []) := by
  refine jT_xaload_n (v := (4, 0)) (pcN := 1) jI_120_0 rfl rfl rfl ?_
  refine jT_xiload_n (v := (0, x1)) (pcN := 2) jI_120_1 rfl rfl rfl ?_
  refine jT_xbipush (k := 8) (pcN := 4) jI_120_2 (by decide) rfl ?_
  refine jT_fR [0] 12 (y := 115) (pcN := 7) (dC := 0) (bc1 := 0) (bc2 := 0) (c1 := 1) (c2 := 6) (as := [(4, 0), (0, x1), (0, 8)]) (asC := [(4, 0), (0, x1), (0, 8)]) (LN := [(0, (4, 0)), (1, (0, x1)), (2, (0, x2)), (3, (0, x3))]) (stN := []) (hsC := [jgh]) (v := (9, 0)) (st2 := []) (jA_115_9 (d := 0) (by omega)) (by rfl) (by rfl) (by decide +kernel) (by rfl) (by rfl) (by omega) (by omega) (by omega) (by omega) rfl ?_
  refine jT_xaload_n (v := (4, 0)) (pcN := 8) jI_120_7 rfl rfl rfl ?_
  refine jT_xiload_n (v := (0, x2)) (pcN := 9) jI_120_8 rfl rfl rfl ?_
  refine jT_xbipush (k := (-100)) (pcN := 11) jI_120_9 (by decide) rfl ?_
  refine jT_xbipush (k := 100) (pcN := 13) jI_120_11 (by decide) rfl ?_
  exact jT_fX [0] 12 (y := 116) (pcN := 16) (dC := 0) (bc1 := 1) (bc2 := 6) (as := [(4, 0), (0, x2), (0, (-100)), (0, 100)]) (asC := [(4, 0), (0, x2), (0, (-100)), (0, 100)]) (LN := [(0, (4, 0)), (1, (0, x1)), (2, (0, x2)), (3, (0, x3))]) (stN := []) (hsC := [jgh]) (e := 1) (jA_116_134 (d := 0) (by omega)) (by rfl) (by rfl) (by decide +kernel) (by rfl) (by rfl) (by omega) (by omega) (by omega) (by omega) ⟨rfl, ⟨rfl, rfl, rfl⟩⟩
theorem jA_329_136 {xs : List Int} {d : Nat} {x1 x2 x3 : Int} (h_x1 : 0 ≤ x1 ∧ x1 ≤ 7) (h_x2 : 101 ≤ x2 ∧ x2 ≤ 2147483647) (h_x3 : (-2147483648) ≤ x3 ∧ x3 ≤ 2147483647) : jT xs (d + 2) 329 13 0 [(0, (4, 0)), (1, (0, x1)), (2, (0, x2)), (3, (0, x3)), (4, (4, 1))] [] jpA_15 1 6 (fun k v hsN => k = 0 ∧ v = (0, 2) ∧ hsN = jpA_15 ++ []) := by
  refine jT_xaload (v := (4, 1)) (pcN := 2) jI_329_0 rfl rfl rfl ?_
  refine jT_xiconst (k := 0) (pcN := 3) jI_329_2 rfl ?_
  refine jT_xaload_n (v := (4, 0)) (pcN := 4) jI_329_3 rfl rfl rfl ?_
  refine jT_xiload_n (v := (0, x1)) (pcN := 5) jI_329_4 rfl rfl rfl ?_
  refine jT_xiload_n (v := (0, x2)) (pcN := 6) jI_329_5 rfl rfl rfl ?_
  refine jT_xiload_n (v := (0, x3)) (pcN := 7) jI_329_6 rfl rfl rfl ?_
  exact jT_fX [0, 2, 3, 4, 5, 6, 7, 8, 9, 10, 11, 12] 13 (y := 120) (pcN := 10) (dC := 1) (bc1 := 1) (bc2 := 6) (as := [(4, 0), (0, x1), (0, x2), (0, x3)]) (asC := [(4, 0), (0, x1), (0, x2), (0, x3)]) (LN := [(0, (4, 0)), (1, (0, x1)), (2, (0, x2)), (3, (0, x3)), (4, (4, 1))]) (stN := [(0, 0), (4, 1)]) (hsC := jpA_6) (e := 1) (jA_120_135 (d := 0) (by omega) (by omega) (by omega)) (by rfl) (by rfl) (by decide +kernel) (by rfl) (by rfl) (by omega) (by omega) (by omega) (by omega) (show _ from ⟨rfl, rfl, rfl⟩)
theorem jA_206_137 {xs : List Int} {d : Nat} {x1 x2 x3 : Int} (h_x1 : 0 ≤ x1 ∧ x1 ≤ 7) (h_x2 : 101 ≤ x2 ∧ x2 ≤ 2147483647) (h_x3 : (-2147483648) ≤ x3 ∧ x3 ≤ 2147483647) : jT xs (d + 2) 206 16 0 [(0, (4, 0)), (1, (0, x1)), (2, (0, x2)), (3, (0, x3))] [] jpA_22 0 0 (fun k v hsN => k = 0 ∧ v = (0, 0) ∧ hsN = jpA_361) := by
  refine jT_xaload_n (v := (4, 0)) (pcN := 1) jI_206_0 rfl rfl rfl ?_
  refine jT_xiload_n (v := (0, x1)) (pcN := 2) jI_206_1 rfl rfl rfl ?_
  refine jT_fR [] 16 (y := 188) (pcN := 5) (dC := 1) (bc1 := 0) (bc2 := 0) (c1 := 0) (c2 := 0) (as := [(0, x1)]) (asC := [(0, x1)]) (LN := [(0, (4, 0)), (1, (0, x1)), (2, (0, x2)), (3, (0, x3))]) (stN := [(4, 0)]) (hsC := []) (v := (0, 1)) (st2 := [(0, 1), (4, 0)]) (jA_188_13 (d := 0) (by omega)) (by rfl) (by rfl) (by decide +kernel) (by rfl) (by rfl) (by omega) (by omega) (by omega) (by omega) rfl ?_
  refine jT_fR [0, 1, 2, 3, 4, 5, 6, 7, 8, 9, 10, 11, 12, 13, 14, 15] 16 (y := 190) (pcN := 8) (dC := 1) (bc1 := 0) (bc2 := 0) (c1 := 0) (c2 := 0) (as := [(4, 0), (0, 1)]) (asC := [(4, 0), (0, 1)]) (LN := [(0, (4, 0)), (1, (0, x1)), (2, (0, x2)), (3, (0, x3))]) (stN := []) (hsC := jpA_22) (v := (0, 0)) (st2 := [(0, 0)]) (jA_190_39 (d := 0)) (by rfl) (by rfl) (by decide +kernel) (by rfl) (by rfl) (by omega) (by omega) (by omega) (by omega) rfl ?_
  refine jT_xifF (t := 50) (pcN := 11) jI_206_8 rfl (by decide +kernel) rfl rfl ?_
  refine jT_xaload_n (v := (4, 0)) (pcN := 12) jI_206_11 rfl rfl rfl ?_
  refine jT_xiload_n (v := (0, x2)) (pcN := 13) jI_206_12 rfl rfl rfl ?_
  refine jT_xi2l (x := x2) (z := x2) (pcN := 14) jI_206_13 rfl (jw_idd (by omega) (by omega)) rfl ?_
  refine jT_adv 2 (pcN := 20) (LN := [(0, (4, 0)), (1, (0, x1)), (2, (0, x2)), (3, (0, x3))]) (stN := [(1, 100), (1, (-100)), (1, x2), (4, 0)]) (hsN := jpA_22) (c1 := 0) (s1 := 0) (c2 := 0) (s2 := 0) (by exact rfl) ?_ (by omega) (by omega)
  refine jT_fR [] 16 (y := 189) (pcN := 23) (dC := 0) (bc1 := 0) (bc2 := 0) (c1 := 0) (c2 := 0) (as := [(1, x2), (1, (-100)), (1, 100)]) (asC := [(1, x2), (1, (-100)), (1, 100)]) (LN := [(0, (4, 0)), (1, (0, x1)), (2, (0, x2)), (3, (0, x3))]) (stN := [(4, 0)]) (hsC := []) (v := (0, 0)) (st2 := [(0, 0), (4, 0)]) (jT_in_hi (d := 0) (v := x2) (lo := (-100)) (hi := 100) (by omega) (by omega) (by omega) (by omega) (by omega)) (by rfl) (by rfl) (by decide +kernel) (by rfl) (by rfl) (by omega) (by omega) (by omega) (by omega) rfl ?_
  refine jT_xifT (pcN := 42) jI_206_23 rfl (by decide +kernel) rfl ?_
  refine jT_xiconst (k := 0) (pcN := 43) jI_206_42 rfl ?_
  refine jT_xiconst (k := 2) (pcN := 44) jI_206_43 rfl ?_
  refine jT_fB [0, 1, 2, 3, 4, 5, 6, 7, 8, 9, 10, 11, 12, 13, 14, 15] 16 (y := 191) (pcN := 47) (dC := 0) (bc1 := 0) (bc2 := 0) (c1 := 0) (c2 := 0) (as := [(4, 0), (0, 0), (0, 2)]) (asC := [(4, 0), (0, 0), (0, 2)]) (LN := [(0, (4, 0)), (1, (0, x1)), (2, (0, x2)), (3, (0, x3))]) (stN := []) (hsC := jpA_22) (hsD := jpA_361) (v := (0, 1)) (st2 := [(0, 1)]) (hs2 := jpA_361) (jA_191_99 (d := 0)) (by rfl) (by rfl) (by decide +kernel) (by rfl) (by rfl) (by omega) (by omega) (by omega) (by omega) rfl (by decide +kernel) ?_
  refine jT_xifF (t := 52) (pcN := 50) jI_206_47 rfl (by decide +kernel) rfl rfl ?_
  refine jT_xiconst (k := 0) (pcN := 51) jI_206_50 rfl ?_
  exact jT_ret rfl (by decide) (by show 16 ≤ 16; decide) (by omega) (by omega) ⟨rfl, rfl, rfl⟩
theorem jA_120_138 {xs : List Int} {d : Nat} {x1 x2 x3 : Int} (h_x1 : 8 ≤ x1 ∧ x1 ≤ 2147483647) (h_x2 : (-2147483648) ≤ x2 ∧ x2 ≤ 2147483647) (h_x3 : (-2147483648) ≤ x3 ∧ x3 ≤ 2147483647) : jT xs (d + 1) 120 12 0 [(0, (4, 0)), (1, (0, x1)), (2, (0, x2)), (3, (0, x3))] [] jpA_6 1 6 (fun k v hsN => k = 1 ∧ v = (0, 0) ∧ hsN = jpA_6 ++ []) := by
  refine jT_xaload_n (v := (4, 0)) (pcN := 1) jI_120_0 rfl rfl rfl ?_
  refine jT_xiload_n (v := (0, x1)) (pcN := 2) jI_120_1 rfl rfl rfl ?_
  refine jT_xbipush (k := 8) (pcN := 4) jI_120_2 (by decide) rfl ?_
  exact jT_fX [0] 12 (y := 115) (pcN := 7) (dC := 0) (bc1 := 1) (bc2 := 6) (as := [(4, 0), (0, x1), (0, 8)]) (asC := [(4, 0), (0, x1), (0, 8)]) (LN := [(0, (4, 0)), (1, (0, x1)), (2, (0, x2)), (3, (0, x3))]) (stN := []) (hsC := [jgh]) (e := 0) (jA_115_65 (d := 0) (by omega)) (by rfl) (by rfl) (by decide +kernel) (by rfl) (by rfl) (by omega) (by omega) (by omega) (by omega) ⟨rfl, ⟨rfl, rfl, rfl⟩⟩
theorem jA_329_139 {xs : List Int} {d : Nat} {x1 x2 x3 : Int} (h_x1 : 8 ≤ x1 ∧ x1 ≤ 2147483647) (h_x2 : (-2147483648) ≤ x2 ∧ x2 ≤ 2147483647) (h_x3 : (-2147483648) ≤ x3 ∧ x3 ≤ 2147483647) : jT xs (d + 2) 329 13 0 [(0, (4, 0)), (1, (0, x1)), (2, (0, x2)), (3, (0, x3)), (4, (4, 1))] [] jpA_15 1 6 (fun k v hsN => k = 0 ∧ v = (0, 1) ∧ hsN = jpA_15 ++ []) := by
  refine jT_xaload (v := (4, 1)) (pcN := 2) jI_329_0 rfl rfl rfl ?_
  refine jT_xiconst (k := 0) (pcN := 3) jI_329_2 rfl ?_
  refine jT_xaload_n (v := (4, 0)) (pcN := 4) jI_329_3 rfl rfl rfl ?_
  refine jT_xiload_n (v := (0, x1)) (pcN := 5) jI_329_4 rfl rfl rfl ?_
  refine jT_xiload_n (v := (0, x2)) (pcN := 6) jI_329_5 rfl rfl rfl ?_
  refine jT_xiload_n (v := (0, x3)) (pcN := 7) jI_329_6 rfl rfl rfl ?_
  exact jT_fX [0, 2, 3, 4, 5, 6, 7, 8, 9, 10, 11, 12] 13 (y := 120) (pcN := 10) (dC := 1) (bc1 := 1) (bc2 := 6) (as := [(4, 0), (0, x1), (0, x2), (0, x3)]) (asC := [(4, 0), (0, x1), (0, x2), (0, x3)]) (LN := [(0, (4, 0)), (1, (0, x1)), (2, (0, x2)), (3, (0, x3)), (4, (4, 1))]) (stN := [(0, 0), (4, 1)]) (hsC := jpA_6) (e := 0) (jA_120_138 (d := 0) (by omega) (by omega) (by omega)) (by rfl) (by rfl) (by decide +kernel) (by rfl) (by rfl) (by omega) (by omega) (by omega) (by omega) (show _ from ⟨rfl, rfl, rfl⟩)
theorem jA_206_140 {xs : List Int} {d : Nat} {x1 x2 x3 : Int} (h_x1 : 8 ≤ x1 ∧ x1 ≤ 2147483647) (h_x2 : (-2147483648) ≤ x2 ∧ x2 ≤ 2147483647) (h_x3 : (-2147483648) ≤ x3 ∧ x3 ≤ 2147483647) : jT xs (d + 2) 206 16 0 [(0, (4, 0)), (1, (0, x1)), (2, (0, x2)), (3, (0, x3))] [] jpA_22 0 0 (fun k v hsN => k = 0 ∧ v = (0, 0) ∧ hsN = jpA_20) := by
  refine jT_xaload_n (v := (4, 0)) (pcN := 1) jI_206_0 rfl rfl rfl ?_
  refine jT_xiload_n (v := (0, x1)) (pcN := 2) jI_206_1 rfl rfl rfl ?_
  refine jT_fR [] 16 (y := 188) (pcN := 5) (dC := 1) (bc1 := 0) (bc2 := 0) (c1 := 0) (c2 := 0) (as := [(0, x1)]) (asC := [(0, x1)]) (LN := [(0, (4, 0)), (1, (0, x1)), (2, (0, x2)), (3, (0, x3))]) (stN := [(4, 0)]) (hsC := []) (v := (0, 0)) (st2 := [(0, 0), (4, 0)]) (jA_188_68 (d := 0) (by omega)) (by rfl) (by rfl) (by decide +kernel) (by rfl) (by rfl) (by omega) (by omega) (by omega) (by omega) rfl ?_
  refine jT_fB [0, 1, 2, 3, 4, 5, 6, 7, 8, 9, 10, 11, 12, 13, 14, 15] 16 (y := 190) (pcN := 8) (dC := 1) (bc1 := 0) (bc2 := 0) (c1 := 0) (c2 := 0) (as := [(4, 0), (0, 0)]) (asC := [(4, 0), (0, 0)]) (LN := [(0, (4, 0)), (1, (0, x1)), (2, (0, x2)), (3, (0, x3))]) (stN := []) (hsC := jpA_22) (hsD := jpA_20) (v := (0, 1)) (st2 := [(0, 1)]) (hs2 := jpA_20) (jA_190_6 (d := 0)) (by rfl) (by rfl) (by decide +kernel) (by rfl) (by rfl) (by omega) (by omega) (by omega) (by omega) rfl (by decide +kernel) ?_
  refine jT_xifT (pcN := 50) jI_206_8 rfl (by decide +kernel) rfl ?_
  refine jT_xiconst (k := 0) (pcN := 51) jI_206_50 rfl ?_
  exact jT_ret rfl (by decide) (by show 16 ≤ 16; decide) (by omega) (by omega) ⟨rfl, rfl, rfl⟩
theorem jI_379_551 : jmI (jm 379) 551 = (.aload_n 1, 1) := by rfl
theorem jI_379_552 : jmI (jm 379) 552 = (.aload_n 0, 1) := by rfl
theorem jI_379_553 : jmI (jm 379) 553 = (.iload 5, 2) := by rfl
theorem jI_379_555 : jmI (jm 379) 555 = (.iconst 1, 1) := by rfl
theorem jI_379_556 : jmI (jm 379) 556 = (.iadd, 1) := by rfl
theorem jI_379_558 : jmI (jm 379) 558 = (.aload_n 0, 1) := by rfl
theorem jI_379_559 : jmI (jm 379) 559 = (.iload 5, 2) := by rfl
theorem jI_379_561 : jmI (jm 379) 561 = (.iconst 2, 1) := by rfl
theorem jI_379_562 : jmI (jm 379) 562 = (.iadd, 1) := by rfl
theorem jI_379_564 : jmI (jm 379) 564 = (.aload_n 0, 1) := by rfl
theorem jI_379_565 : jmI (jm 379) 565 = (.iload 5, 2) := by rfl
theorem jI_379_567 : jmI (jm 379) 567 = (.iconst 3, 1) := by rfl
theorem jI_379_568 : jmI (jm 379) 568 = (.iadd, 1) := by rfl
theorem jI_379_570 : jmI (jm 379) 570 = (.aload_n 3, 1) := by rfl
theorem jI_379_574 : jmI (jm 379) 574 = (.istore 6, 2) := by rfl
theorem jI_379_576 : jmI (jm 379) 576 = (.aload_n 2, 1) := by rfl
theorem jI_379_577 : jmI (jm 379) 577 = (.aload_n 0, 1) := by rfl
theorem jI_379_578 : jmI (jm 379) 578 = (.iload 5, 2) := by rfl
theorem jI_379_580 : jmI (jm 379) 580 = (.iconst 1, 1) := by rfl
theorem jI_379_581 : jmI (jm 379) 581 = (.iadd, 1) := by rfl
theorem jI_379_583 : jmI (jm 379) 583 = (.aload_n 0, 1) := by rfl
theorem jI_379_584 : jmI (jm 379) 584 = (.iload 5, 2) := by rfl
theorem jI_379_586 : jmI (jm 379) 586 = (.iconst 2, 1) := by rfl
theorem jI_379_587 : jmI (jm 379) 587 = (.iadd, 1) := by rfl
theorem jI_379_589 : jmI (jm 379) 589 = (.aload_n 0, 1) := by rfl
theorem jI_379_590 : jmI (jm 379) 590 = (.iload 5, 2) := by rfl
theorem jI_379_592 : jmI (jm 379) 592 = (.iconst 3, 1) := by rfl
theorem jI_379_593 : jmI (jm 379) 593 = (.iadd, 1) := by rfl
theorem jI_379_598 : jmI (jm 379) 598 = (.istore 7, 2) := by rfl
theorem jI_379_600 : jmI (jm 379) 600 = (.aload_n 2, 1) := by rfl
theorem jI_379_604 : jmI (jm 379) 604 = (.iload 6, 2) := by rfl
theorem jI_379_606 : jmI (jm 379) 606 = (.if_icmp .eq 5, 3) := by rfl
theorem jI_379_611 : jmI (jm 379) 611 = (.iload 6, 2) := by rfl
theorem jI_379_613 : jmI (jm 379) 613 = (.ifCond .ne 15, 3) := by rfl
theorem jI_379_628 : jmI (jm 379) 628 = (.goto 3112, 3) := by rfl
set_option maxRecDepth 100000 in
theorem jL_3_0 {d : Nat} {x0 x1 x2 x3 x4 : Int} (h_x0 : (-2147483648) ≤ x0 ∧ x0 ≤ 2147483647) (h_x1 : (-2147483648) ≤ x1 ∧ x1 ≤ (-1)) (h_x2 : (-2147483648) ≤ x2 ∧ x2 ≤ 2147483647) (h_x3 : (-2147483648) ≤ x3 ∧ x3 ≤ 2147483647) (h_x4 : (-2147483648) ≤ x4 ∧ x4 ≤ 2147483647) : jT [x0, x1, x2, x3, x4] (d + 3) 379 30 551 [(5, (0, 0)), (4, (4, 3)), (3, (4, 2)), (2, (4, 1)), (1, (4, 0)), (0, (6, 0))] [] jpA_267 1 6 (fun k v hsN => k = 0 ∧ v = (0, 1)) := by
  refine jT_xaload_n (v := (4, 0)) (pcN := 552) jI_379_551 rfl rfl rfl ?_
  refine jT_xaload_n (v := (6, 0)) (pcN := 553) jI_379_552 rfl rfl rfl ?_
  refine jT_xiload (v := (0, 0)) (pcN := 555) jI_379_553 rfl rfl rfl ?_
  refine jT_xiconst (k := 1) (pcN := 556) jI_379_555 rfl ?_
  refine jT_xiadd (x := 0) (y := 1) (z := 1) (pcN := 557) jI_379_556 rfl (by decide) rfl ?_
  refine jT_adv 1 (pcN := 558) (LN := [(5, (0, 0)), (4, (4, 3)), (3, (4, 2)), (2, (4, 1)), (1, (4, 0)), (0, (6, 0))]) (stN := [(0, x1), (4, 0)]) (hsN := jpA_267) (c1 := 0) (s1 := 0) (c2 := 1) (s2 := 6) (by exact rfl) ?_ (by omega) (by omega)
  refine jT_xaload_n (v := (6, 0)) (pcN := 559) jI_379_558 rfl rfl rfl ?_
  refine jT_xiload (v := (0, 0)) (pcN := 561) jI_379_559 rfl rfl rfl ?_
  refine jT_xiconst (k := 2) (pcN := 562) jI_379_561 rfl ?_
  refine jT_xiadd (x := 0) (y := 2) (z := 2) (pcN := 563) jI_379_562 rfl (by decide) rfl ?_
  refine jT_adv 1 (pcN := 564) (LN := [(5, (0, 0)), (4, (4, 3)), (3, (4, 2)), (2, (4, 1)), (1, (4, 0)), (0, (6, 0))]) (stN := [(0, x2), (0, x1), (4, 0)]) (hsN := jpA_267) (c1 := 0) (s1 := 0) (c2 := 1) (s2 := 6) (by exact rfl) ?_ (by omega) (by omega)
  refine jT_xaload_n (v := (6, 0)) (pcN := 565) jI_379_564 rfl rfl rfl ?_
  refine jT_xiload (v := (0, 0)) (pcN := 567) jI_379_565 rfl rfl rfl ?_
  refine jT_xiconst (k := 3) (pcN := 568) jI_379_567 rfl ?_
  refine jT_xiadd (x := 0) (y := 3) (z := 3) (pcN := 569) jI_379_568 rfl (by decide) rfl ?_
  refine jT_adv 1 (pcN := 570) (LN := [(5, (0, 0)), (4, (4, 3)), (3, (4, 2)), (2, (4, 1)), (1, (4, 0)), (0, (6, 0))]) (stN := [(0, x3), (0, x2), (0, x1), (4, 0)]) (hsN := jpA_267) (c1 := 0) (s1 := 0) (c2 := 1) (s2 := 6) (by exact rfl) ?_ (by omega) (by omega)
  refine jT_xaload_n (v := (4, 2)) (pcN := 571) jI_379_570 rfl rfl rfl ?_
  refine jT_fR [0, 2, 4, 5, 6, 7, 8, 9, 10, 11, 12, 13, 14] 30 (y := 329) (pcN := 574) (dC := 2) (bc1 := 1) (bc2 := 6) (c1 := 0) (c2 := 0) (as := [(4, 0), (0, x1), (0, x2), (0, x3), (4, 2)]) (asC := [(4, 0), (0, x1), (0, x2), (0, x3), (4, 1)]) (LN := [(5, (0, 0)), (4, (4, 3)), (3, (4, 2)), (2, (4, 1)), (1, (4, 0)), (0, (6, 0))]) (stN := []) (hsC := jpA_15) (v := (0, 1)) (st2 := [(0, 1)]) (jA_329_94 (d := 0) (by omega) (by omega) (by omega)) (by rfl) (by rfl) (by decide +kernel) (by rfl) (by rfl) (by omega) (by omega) (by omega) (by omega) rfl ?_
  refine jT_xistore (v := (0, 1)) (LN := [(6, (0, 1)), (5, (0, 0)), (4, (4, 3)), (3, (4, 2)), (2, (4, 1)), (1, (4, 0)), (0, (6, 0))]) (pcN := 576) jI_379_574 rfl rfl rfl rfl ?_
  refine jT_xaload_n (v := (4, 1)) (pcN := 577) jI_379_576 rfl rfl rfl ?_
  refine jT_xaload_n (v := (6, 0)) (pcN := 578) jI_379_577 rfl rfl rfl ?_
  refine jT_xiload (v := (0, 0)) (pcN := 580) jI_379_578 rfl rfl rfl ?_
  refine jT_xiconst (k := 1) (pcN := 581) jI_379_580 rfl ?_
  refine jT_xiadd (x := 0) (y := 1) (z := 1) (pcN := 582) jI_379_581 rfl (by decide) rfl ?_
  refine jT_adv 1 (pcN := 583) (LN := [(6, (0, 1)), (5, (0, 0)), (4, (4, 3)), (3, (4, 2)), (2, (4, 1)), (1, (4, 0)), (0, (6, 0))]) (stN := [(0, x1), (4, 1)]) (hsN := jpA_267) (c1 := 0) (s1 := 0) (c2 := 0) (s2 := 0) (by exact rfl) ?_ (by omega) (by omega)
  refine jT_xaload_n (v := (6, 0)) (pcN := 584) jI_379_583 rfl rfl rfl ?_
  refine jT_xiload (v := (0, 0)) (pcN := 586) jI_379_584 rfl rfl rfl ?_
  refine jT_xiconst (k := 2) (pcN := 587) jI_379_586 rfl ?_
  refine jT_xiadd (x := 0) (y := 2) (z := 2) (pcN := 588) jI_379_587 rfl (by decide) rfl ?_
  refine jT_adv 1 (pcN := 589) (LN := [(6, (0, 1)), (5, (0, 0)), (4, (4, 3)), (3, (4, 2)), (2, (4, 1)), (1, (4, 0)), (0, (6, 0))]) (stN := [(0, x2), (0, x1), (4, 1)]) (hsN := jpA_267) (c1 := 0) (s1 := 0) (c2 := 0) (s2 := 0) (by exact rfl) ?_ (by omega) (by omega)
  refine jT_xaload_n (v := (6, 0)) (pcN := 590) jI_379_589 rfl rfl rfl ?_
  refine jT_xiload (v := (0, 0)) (pcN := 592) jI_379_590 rfl rfl rfl ?_
  refine jT_xiconst (k := 3) (pcN := 593) jI_379_592 rfl ?_
  refine jT_xiadd (x := 0) (y := 3) (z := 3) (pcN := 594) jI_379_593 rfl (by decide) rfl ?_
  refine jT_adv 1 (pcN := 595) (LN := [(6, (0, 1)), (5, (0, 0)), (4, (4, 3)), (3, (4, 2)), (2, (4, 1)), (1, (4, 0)), (0, (6, 0))]) (stN := [(0, x3), (0, x2), (0, x1), (4, 1)]) (hsN := jpA_267) (c1 := 0) (s1 := 0) (c2 := 0) (s2 := 0) (by exact rfl) ?_ (by omega) (by omega)
  refine jT_fB [1, 15, 16, 17, 18, 19, 20, 21, 22, 23, 24, 25, 26, 27, 28, 29] 30 (y := 206) (pcN := 598) (dC := 2) (bc1 := 0) (bc2 := 0) (c1 := 0) (c2 := 0) (as := [(4, 1), (0, x1), (0, x2), (0, x3)]) (asC := [(4, 0), (0, x1), (0, x2), (0, x3)]) (LN := [(6, (0, 1)), (5, (0, 0)), (4, (4, 3)), (3, (4, 2)), (2, (4, 1)), (1, (4, 0)), (0, (6, 0))]) (stN := []) (hsC := jpA_22) (hsD := jpA_20) (v := (0, 0)) (st2 := [(0, 0)]) (hs2 := jpA_306) (jA_206_95 (d := 0) (by omega) (by omega) (by omega)) (by rfl) (by rfl) (by decide +kernel) (by rfl) (by rfl) (by omega) (by omega) (by omega) (by omega) rfl (by decide +kernel) ?_
  refine jT_xistore (v := (0, 0)) (LN := [(7, (0, 0)), (6, (0, 1)), (5, (0, 0)), (4, (4, 3)), (3, (4, 2)), (2, (4, 1)), (1, (4, 0)), (0, (6, 0))]) (pcN := 600) jI_379_598 rfl rfl rfl rfl ?_
  refine jT_xaload_n (v := (4, 1)) (pcN := 601) jI_379_600 rfl rfl rfl ?_
  refine jT_fR [1, 15, 16, 17, 18, 19, 20, 21, 22, 23, 24, 25, 26, 27, 28, 29] 30 (y := 186) (pcN := 604) (dC := 0) (bc1 := 0) (bc2 := 0) (c1 := 0) (c2 := 0) (as := [(4, 1)]) (asC := [(4, 0)]) (LN := [(7, (0, 0)), (6, (0, 1)), (5, (0, 0)), (4, (4, 3)), (3, (4, 2)), (2, (4, 1)), (1, (4, 0)), (0, (6, 0))]) (stN := []) (hsC := jpA_20) (v := (0, 1)) (st2 := [(0, 1)]) (jA_186_8 (d := 0)) (by rfl) (by rfl) (by decide +kernel) (by rfl) (by rfl) (by omega) (by omega) (by omega) (by omega) rfl ?_
  refine jT_xiload (v := (0, 1)) (pcN := 606) jI_379_604 rfl rfl rfl ?_
  refine jT_xicT (pcN := 611) jI_379_606 rfl (by decide +kernel) rfl ?_
  refine jT_xiload (v := (0, 1)) (pcN := 613) jI_379_611 rfl rfl rfl ?_
  refine jT_xifT (pcN := 628) jI_379_613 rfl (by decide +kernel) rfl ?_
  refine jT_xgoto (pcN := 3740) jI_379_628 rfl ?_
  refine jT_xiinc (x := 0) (z := 5) (LN := [(5, (0, 5)), (7, (0, 0)), (6, (0, 1)), (4, (4, 3)), (3, (4, 2)), (2, (4, 1)), (1, (4, 0)), (0, (6, 0))]) (pcN := 3743) jI_379_3740 rfl rfl (by decide) rfl rfl ?_
  refine jT_xgoto (pcN := 28) jI_379_3743 rfl ?_
  refine jT_xiload (v := (0, 5)) (pcN := 30) jI_379_28 rfl rfl rfl ?_
  refine jT_xaload_n (v := (6, 0)) (pcN := 31) jI_379_30 rfl rfl rfl ?_
  refine jT_adv 1 (pcN := 32) (LN := [(5, (0, 5)), (7, (0, 0)), (6, (0, 1)), (4, (4, 3)), (3, (4, 2)), (2, (4, 1)), (1, (4, 0)), (0, (6, 0))]) (stN := [(0, 5), (0, 5)]) (hsN := jpA_306) (c1 := 0) (s1 := 0) (c2 := 0) (s2 := 0) (by exact rfl) ?_ (by omega) (by omega)
  refine jT_xiconst (k := 5) (pcN := 33) jI_379_32 rfl ?_
  refine jT_xisub (x := 5) (y := 5) (z := 0) (pcN := 34) jI_379_33 rfl (by decide) rfl ?_
  refine jT_xicT (pcN := 3746) jI_379_34 rfl (by decide +kernel) rfl ?_
  refine jT_xiconst (k := 1) (pcN := 3747) jI_379_3746 rfl ?_
  exact jT_ret rfl (by decide) (by show 30 ≤ 30; decide) (by omega) (by omega) ⟨rfl, rfl⟩
def jzA_606 : JC := (14, [(0, 2), (4, 15), (4, 16), (4, 17), (4, 18), (0, 0), (4, 19), (0, 0), (4, 20), (4, 21), (1, 1), (4, 22), (0, 0), (4, 23), (0, 0), (0, 0), (0, 0), (0, 0), (0, 0), (0, 0), (0, 0), (4, 24), (4, 25), (4, 26), (4, 27), (4, 28), (4, 29), (0, 0)], [])
def jpA_607 : List JC := [jzA_265, jzA_606, jgh, jgh, jgh, jgh, jgh, jgh, jgh, jgh, jgh, jgh, jgh, jgh, jgh, jgh, jgh, jgh, jgh, jgh, jgh, jgh, jgh, jgh, jgh, jgh, jgh, jgh, jgh, jgh]
set_option maxRecDepth 100000 in
theorem jL_3_1 {d : Nat} {x0 x1 x2 x3 x4 : Int} (h_x0 : (-2147483648) ≤ x0 ∧ x0 ≤ 2147483647) (h_x1 : 0 ≤ x1 ∧ x1 ≤ 7) (h_x2 : (-2147483648) ≤ x2 ∧ x2 ≤ (-101)) (h_x3 : (-2147483648) ≤ x3 ∧ x3 ≤ 2147483647) (h_x4 : (-2147483648) ≤ x4 ∧ x4 ≤ 2147483647) : jT [x0, x1, x2, x3, x4] (d + 3) 379 30 551 [(5, (0, 0)), (4, (4, 3)), (3, (4, 2)), (2, (4, 1)), (1, (4, 0)), (0, (6, 0))] [] jpA_267 1 6 (fun k v hsN => k = 0 ∧ v = (0, 1)) := by
  refine jT_xaload_n (v := (4, 0)) (pcN := 552) jI_379_551 rfl rfl rfl ?_
  refine jT_xaload_n (v := (6, 0)) (pcN := 553) jI_379_552 rfl rfl rfl ?_
  refine jT_xiload (v := (0, 0)) (pcN := 555) jI_379_553 rfl rfl rfl ?_
  refine jT_xiconst (k := 1) (pcN := 556) jI_379_555 rfl ?_
  refine jT_xiadd (x := 0) (y := 1) (z := 1) (pcN := 557) jI_379_556 rfl (by decide) rfl ?_
  refine jT_adv 1 (pcN := 558) (LN := [(5, (0, 0)), (4, (4, 3)), (3, (4, 2)), (2, (4, 1)), (1, (4, 0)), (0, (6, 0))]) (stN := [(0, x1), (4, 0)]) (hsN := jpA_267) (c1 := 0) (s1 := 0) (c2 := 1) (s2 := 6) (by exact rfl) ?_ (by omega) (by omega)
  refine jT_xaload_n (v := (6, 0)) (pcN := 559) jI_379_558 rfl rfl rfl ?_
  refine jT_xiload (v := (0, 0)) (pcN := 561) jI_379_559 rfl rfl rfl ?_
  refine jT_xiconst (k := 2) (pcN := 562) jI_379_561 rfl ?_
  refine jT_xiadd (x := 0) (y := 2) (z := 2) (pcN := 563) jI_379_562 rfl (by decide) rfl ?_
  refine jT_adv 1 (pcN := 564) (LN := [(5, (0, 0)), (4, (4, 3)), (3, (4, 2)), (2, (4, 1)), (1, (4, 0)), (0, (6, 0))]) (stN := [(0, x2), (0, x1), (4, 0)]) (hsN := jpA_267) (c1 := 0) (s1 := 0) (c2 := 1) (s2 := 6) (by exact rfl) ?_ (by omega) (by omega)
  refine jT_xaload_n (v := (6, 0)) (pcN := 565) jI_379_564 rfl rfl rfl ?_
  refine jT_xiload (v := (0, 0)) (pcN := 567) jI_379_565 rfl rfl rfl ?_
  refine jT_xiconst (k := 3) (pcN := 568) jI_379_567 rfl ?_
  refine jT_xiadd (x := 0) (y := 3) (z := 3) (pcN := 569) jI_379_568 rfl (by decide) rfl ?_
  refine jT_adv 1 (pcN := 570) (LN := [(5, (0, 0)), (4, (4, 3)), (3, (4, 2)), (2, (4, 1)), (1, (4, 0)), (0, (6, 0))]) (stN := [(0, x3), (0, x2), (0, x1), (4, 0)]) (hsN := jpA_267) (c1 := 0) (s1 := 0) (c2 := 1) (s2 := 6) (by exact rfl) ?_ (by omega) (by omega)
  refine jT_xaload_n (v := (4, 2)) (pcN := 571) jI_379_570 rfl rfl rfl ?_
  refine jT_fR [0, 2, 4, 5, 6, 7, 8, 9, 10, 11, 12, 13, 14] 30 (y := 329) (pcN := 574) (dC := 2) (bc1 := 1) (bc2 := 6) (c1 := 0) (c2 := 0) (as := [(4, 0), (0, x1), (0, x2), (0, x3), (4, 2)]) (asC := [(4, 0), (0, x1), (0, x2), (0, x3), (4, 1)]) (LN := [(5, (0, 0)), (4, (4, 3)), (3, (4, 2)), (2, (4, 1)), (1, (4, 0)), (0, (6, 0))]) (stN := []) (hsC := jpA_15) (v := (0, 2)) (st2 := [(0, 2)]) (jA_329_98 (d := 0) (by omega) (by omega) (by omega)) (by rfl) (by rfl) (by decide +kernel) (by rfl) (by rfl) (by omega) (by omega) (by omega) (by omega) rfl ?_
  refine jT_xistore (v := (0, 2)) (LN := [(6, (0, 2)), (5, (0, 0)), (4, (4, 3)), (3, (4, 2)), (2, (4, 1)), (1, (4, 0)), (0, (6, 0))]) (pcN := 576) jI_379_574 rfl rfl rfl rfl ?_
  refine jT_xaload_n (v := (4, 1)) (pcN := 577) jI_379_576 rfl rfl rfl ?_
  refine jT_xaload_n (v := (6, 0)) (pcN := 578) jI_379_577 rfl rfl rfl ?_
  refine jT_xiload (v := (0, 0)) (pcN := 580) jI_379_578 rfl rfl rfl ?_
  refine jT_xiconst (k := 1) (pcN := 581) jI_379_580 rfl ?_
  refine jT_xiadd (x := 0) (y := 1) (z := 1) (pcN := 582) jI_379_581 rfl (by decide) rfl ?_
  refine jT_adv 1 (pcN := 583) (LN := [(6, (0, 2)), (5, (0, 0)), (4, (4, 3)), (3, (4, 2)), (2, (4, 1)), (1, (4, 0)), (0, (6, 0))]) (stN := [(0, x1), (4, 1)]) (hsN := jpA_267) (c1 := 0) (s1 := 0) (c2 := 0) (s2 := 0) (by exact rfl) ?_ (by omega) (by omega)
  refine jT_xaload_n (v := (6, 0)) (pcN := 584) jI_379_583 rfl rfl rfl ?_
  refine jT_xiload (v := (0, 0)) (pcN := 586) jI_379_584 rfl rfl rfl ?_
  refine jT_xiconst (k := 2) (pcN := 587) jI_379_586 rfl ?_
  refine jT_xiadd (x := 0) (y := 2) (z := 2) (pcN := 588) jI_379_587 rfl (by decide) rfl ?_
  refine jT_adv 1 (pcN := 589) (LN := [(6, (0, 2)), (5, (0, 0)), (4, (4, 3)), (3, (4, 2)), (2, (4, 1)), (1, (4, 0)), (0, (6, 0))]) (stN := [(0, x2), (0, x1), (4, 1)]) (hsN := jpA_267) (c1 := 0) (s1 := 0) (c2 := 0) (s2 := 0) (by exact rfl) ?_ (by omega) (by omega)
  refine jT_xaload_n (v := (6, 0)) (pcN := 590) jI_379_589 rfl rfl rfl ?_
  refine jT_xiload (v := (0, 0)) (pcN := 592) jI_379_590 rfl rfl rfl ?_
  refine jT_xiconst (k := 3) (pcN := 593) jI_379_592 rfl ?_
  refine jT_xiadd (x := 0) (y := 3) (z := 3) (pcN := 594) jI_379_593 rfl (by decide) rfl ?_
  refine jT_adv 1 (pcN := 595) (LN := [(6, (0, 2)), (5, (0, 0)), (4, (4, 3)), (3, (4, 2)), (2, (4, 1)), (1, (4, 0)), (0, (6, 0))]) (stN := [(0, x3), (0, x2), (0, x1), (4, 1)]) (hsN := jpA_267) (c1 := 0) (s1 := 0) (c2 := 0) (s2 := 0) (by exact rfl) ?_ (by omega) (by omega)
  refine jT_fB [1, 15, 16, 17, 18, 19, 20, 21, 22, 23, 24, 25, 26, 27, 28, 29] 30 (y := 206) (pcN := 598) (dC := 2) (bc1 := 0) (bc2 := 0) (c1 := 0) (c2 := 0) (as := [(4, 1), (0, x1), (0, x2), (0, x3)]) (asC := [(4, 0), (0, x1), (0, x2), (0, x3)]) (LN := [(6, (0, 2)), (5, (0, 0)), (4, (4, 3)), (3, (4, 2)), (2, (4, 1)), (1, (4, 0)), (0, (6, 0))]) (stN := []) (hsC := jpA_22) (hsD := jpA_361) (v := (0, 0)) (st2 := [(0, 0)]) (hs2 := jpA_607) (jA_206_100 (d := 0) (by omega) (by omega) (by omega)) (by rfl) (by rfl) (by decide +kernel) (by rfl) (by rfl) (by omega) (by omega) (by omega) (by omega) rfl (by decide +kernel) ?_
  refine jT_xistore (v := (0, 0)) (LN := [(7, (0, 0)), (6, (0, 2)), (5, (0, 0)), (4, (4, 3)), (3, (4, 2)), (2, (4, 1)), (1, (4, 0)), (0, (6, 0))]) (pcN := 600) jI_379_598 rfl rfl rfl rfl ?_
  refine jT_xaload_n (v := (4, 1)) (pcN := 601) jI_379_600 rfl rfl rfl ?_
  refine jT_fR [1, 15, 16, 17, 18, 19, 20, 21, 22, 23, 24, 25, 26, 27, 28, 29] 30 (y := 186) (pcN := 604) (dC := 0) (bc1 := 0) (bc2 := 0) (c1 := 0) (c2 := 0) (as := [(4, 1)]) (asC := [(4, 0)]) (LN := [(7, (0, 0)), (6, (0, 2)), (5, (0, 0)), (4, (4, 3)), (3, (4, 2)), (2, (4, 1)), (1, (4, 0)), (0, (6, 0))]) (stN := []) (hsC := jpA_361) (v := (0, 2)) (st2 := [(0, 2)]) (jA_186_101 (d := 0)) (by rfl) (by rfl) (by decide +kernel) (by rfl) (by rfl) (by omega) (by omega) (by omega) (by omega) rfl ?_
  refine jT_xiload (v := (0, 2)) (pcN := 606) jI_379_604 rfl rfl rfl ?_
  refine jT_xicT (pcN := 611) jI_379_606 rfl (by decide +kernel) rfl ?_
  refine jT_xiload (v := (0, 2)) (pcN := 613) jI_379_611 rfl rfl rfl ?_
  refine jT_xifT (pcN := 628) jI_379_613 rfl (by decide +kernel) rfl ?_
  refine jT_xgoto (pcN := 3740) jI_379_628 rfl ?_
  refine jT_xiinc (x := 0) (z := 5) (LN := [(5, (0, 5)), (7, (0, 0)), (6, (0, 2)), (4, (4, 3)), (3, (4, 2)), (2, (4, 1)), (1, (4, 0)), (0, (6, 0))]) (pcN := 3743) jI_379_3740 rfl rfl (by decide) rfl rfl ?_
  refine jT_xgoto (pcN := 28) jI_379_3743 rfl ?_
  refine jT_xiload (v := (0, 5)) (pcN := 30) jI_379_28 rfl rfl rfl ?_
  refine jT_xaload_n (v := (6, 0)) (pcN := 31) jI_379_30 rfl rfl rfl ?_
  refine jT_adv 1 (pcN := 32) (LN := [(5, (0, 5)), (7, (0, 0)), (6, (0, 2)), (4, (4, 3)), (3, (4, 2)), (2, (4, 1)), (1, (4, 0)), (0, (6, 0))]) (stN := [(0, 5), (0, 5)]) (hsN := jpA_607) (c1 := 0) (s1 := 0) (c2 := 0) (s2 := 0) (by exact rfl) ?_ (by omega) (by omega)
  refine jT_xiconst (k := 5) (pcN := 33) jI_379_32 rfl ?_
  refine jT_xisub (x := 5) (y := 5) (z := 0) (pcN := 34) jI_379_33 rfl (by decide) rfl ?_
  refine jT_xicT (pcN := 3746) jI_379_34 rfl (by decide +kernel) rfl ?_
  refine jT_xiconst (k := 1) (pcN := 3747) jI_379_3746 rfl ?_
  exact jT_ret rfl (by decide) (by show 30 ≤ 30; decide) (by omega) (by omega) ⟨rfl, rfl⟩
set_option maxRecDepth 100000 in
theorem jL_3_2 {d : Nat} {x0 x1 x2 x3 x4 : Int} (h_x0 : (-2147483648) ≤ x0 ∧ x0 ≤ 2147483647) (h_x1 : 0 ≤ x1 ∧ x1 ≤ 7) (h_x2 : (-100) ≤ x2 ∧ x2 ≤ 100) (h_x3 : (-2147483648) ≤ x3 ∧ x3 ≤ 0) (h_x4 : (-2147483648) ≤ x4 ∧ x4 ≤ 2147483647) : jT [x0, x1, x2, x3, x4] (d + 3) 379 30 551 [(5, (0, 0)), (4, (4, 3)), (3, (4, 2)), (2, (4, 1)), (1, (4, 0)), (0, (6, 0))] [] jpA_267 1 6 (fun k v hsN => k = 0 ∧ v = (0, 1)) := by
  refine jT_xaload_n (v := (4, 0)) (pcN := 552) jI_379_551 rfl rfl rfl ?_
  refine jT_xaload_n (v := (6, 0)) (pcN := 553) jI_379_552 rfl rfl rfl ?_
  refine jT_xiload (v := (0, 0)) (pcN := 555) jI_379_553 rfl rfl rfl ?_
  refine jT_xiconst (k := 1) (pcN := 556) jI_379_555 rfl ?_
  refine jT_xiadd (x := 0) (y := 1) (z := 1) (pcN := 557) jI_379_556 rfl (by decide) rfl ?_
  refine jT_adv 1 (pcN := 558) (LN := [(5, (0, 0)), (4, (4, 3)), (3, (4, 2)), (2, (4, 1)), (1, (4, 0)), (0, (6, 0))]) (stN := [(0, x1), (4, 0)]) (hsN := jpA_267) (c1 := 0) (s1 := 0) (c2 := 1) (s2 := 6) (by exact rfl) ?_ (by omega) (by omega)
  refine jT_xaload_n (v := (6, 0)) (pcN := 559) jI_379_558 rfl rfl rfl ?_
  refine jT_xiload (v := (0, 0)) (pcN := 561) jI_379_559 rfl rfl rfl ?_
  refine jT_xiconst (k := 2) (pcN := 562) jI_379_561 rfl ?_
  refine jT_xiadd (x := 0) (y := 2) (z := 2) (pcN := 563) jI_379_562 rfl (by decide) rfl ?_
  refine jT_adv 1 (pcN := 564) (LN := [(5, (0, 0)), (4, (4, 3)), (3, (4, 2)), (2, (4, 1)), (1, (4, 0)), (0, (6, 0))]) (stN := [(0, x2), (0, x1), (4, 0)]) (hsN := jpA_267) (c1 := 0) (s1 := 0) (c2 := 1) (s2 := 6) (by exact rfl) ?_ (by omega) (by omega)
  refine jT_xaload_n (v := (6, 0)) (pcN := 565) jI_379_564 rfl rfl rfl ?_
  refine jT_xiload (v := (0, 0)) (pcN := 567) jI_379_565 rfl rfl rfl ?_
  refine jT_xiconst (k := 3) (pcN := 568) jI_379_567 rfl ?_
  refine jT_xiadd (x := 0) (y := 3) (z := 3) (pcN := 569) jI_379_568 rfl (by decide) rfl ?_
  refine jT_adv 1 (pcN := 570) (LN := [(5, (0, 0)), (4, (4, 3)), (3, (4, 2)), (2, (4, 1)), (1, (4, 0)), (0, (6, 0))]) (stN := [(0, x3), (0, x2), (0, x1), (4, 0)]) (hsN := jpA_267) (c1 := 0) (s1 := 0) (c2 := 1) (s2 := 6) (by exact rfl) ?_ (by omega) (by omega)
  refine jT_xaload_n (v := (4, 2)) (pcN := 571) jI_379_570 rfl rfl rfl ?_
  refine jT_fR [0, 2, 4, 5, 6, 7, 8, 9, 10, 11, 12, 13, 14] 30 (y := 329) (pcN := 574) (dC := 2) (bc1 := 1) (bc2 := 6) (c1 := 0) (c2 := 0) (as := [(4, 0), (0, x1), (0, x2), (0, x3), (4, 2)]) (asC := [(4, 0), (0, x1), (0, x2), (0, x3), (4, 1)]) (LN := [(5, (0, 0)), (4, (4, 3)), (3, (4, 2)), (2, (4, 1)), (1, (4, 0)), (0, (6, 0))]) (stN := []) (hsC := jpA_15) (v := (0, 2)) (st2 := [(0, 2)]) (jA_329_105 (d := 0) (by omega) (by omega) (by omega)) (by rfl) (by rfl) (by decide +kernel) (by rfl) (by rfl) (by omega) (by omega) (by omega) (by omega) rfl ?_
  refine jT_xistore (v := (0, 2)) (LN := [(6, (0, 2)), (5, (0, 0)), (4, (4, 3)), (3, (4, 2)), (2, (4, 1)), (1, (4, 0)), (0, (6, 0))]) (pcN := 576) jI_379_574 rfl rfl rfl rfl ?_
  refine jT_xaload_n (v := (4, 1)) (pcN := 577) jI_379_576 rfl rfl rfl ?_
  refine jT_xaload_n (v := (6, 0)) (pcN := 578) jI_379_577 rfl rfl rfl ?_
  refine jT_xiload (v := (0, 0)) (pcN := 580) jI_379_578 rfl rfl rfl ?_
  refine jT_xiconst (k := 1) (pcN := 581) jI_379_580 rfl ?_
  refine jT_xiadd (x := 0) (y := 1) (z := 1) (pcN := 582) jI_379_581 rfl (by decide) rfl ?_
  refine jT_adv 1 (pcN := 583) (LN := [(6, (0, 2)), (5, (0, 0)), (4, (4, 3)), (3, (4, 2)), (2, (4, 1)), (1, (4, 0)), (0, (6, 0))]) (stN := [(0, x1), (4, 1)]) (hsN := jpA_267) (c1 := 0) (s1 := 0) (c2 := 0) (s2 := 0) (by exact rfl) ?_ (by omega) (by omega)
  refine jT_xaload_n (v := (6, 0)) (pcN := 584) jI_379_583 rfl rfl rfl ?_
  refine jT_xiload (v := (0, 0)) (pcN := 586) jI_379_584 rfl rfl rfl ?_
  refine jT_xiconst (k := 2) (pcN := 587) jI_379_586 rfl ?_
  refine jT_xiadd (x := 0) (y := 2) (z := 2) (pcN := 588) jI_379_587 rfl (by decide) rfl ?_
  refine jT_adv 1 (pcN := 589) (LN := [(6, (0, 2)), (5, (0, 0)), (4, (4, 3)), (3, (4, 2)), (2, (4, 1)), (1, (4, 0)), (0, (6, 0))]) (stN := [(0, x2), (0, x1), (4, 1)]) (hsN := jpA_267) (c1 := 0) (s1 := 0) (c2 := 0) (s2 := 0) (by exact rfl) ?_ (by omega) (by omega)
  refine jT_xaload_n (v := (6, 0)) (pcN := 590) jI_379_589 rfl rfl rfl ?_
  refine jT_xiload (v := (0, 0)) (pcN := 592) jI_379_590 rfl rfl rfl ?_
  refine jT_xiconst (k := 3) (pcN := 593) jI_379_592 rfl ?_
  refine jT_xiadd (x := 0) (y := 3) (z := 3) (pcN := 594) jI_379_593 rfl (by decide) rfl ?_
  refine jT_adv 1 (pcN := 595) (LN := [(6, (0, 2)), (5, (0, 0)), (4, (4, 3)), (3, (4, 2)), (2, (4, 1)), (1, (4, 0)), (0, (6, 0))]) (stN := [(0, x3), (0, x2), (0, x1), (4, 1)]) (hsN := jpA_267) (c1 := 0) (s1 := 0) (c2 := 0) (s2 := 0) (by exact rfl) ?_ (by omega) (by omega)
  refine jT_fB [1, 15, 16, 17, 18, 19, 20, 21, 22, 23, 24, 25, 26, 27, 28, 29] 30 (y := 206) (pcN := 598) (dC := 2) (bc1 := 0) (bc2 := 0) (c1 := 0) (c2 := 0) (as := [(4, 1), (0, x1), (0, x2), (0, x3)]) (asC := [(4, 0), (0, x1), (0, x2), (0, x3)]) (LN := [(6, (0, 2)), (5, (0, 0)), (4, (4, 3)), (3, (4, 2)), (2, (4, 1)), (1, (4, 0)), (0, (6, 0))]) (stN := []) (hsC := jpA_22) (hsD := jpA_361) (v := (0, 0)) (st2 := [(0, 0)]) (hs2 := jpA_607) (jA_206_106 (d := 0) (by omega) (by omega) (by omega)) (by rfl) (by rfl) (by decide +kernel) (by rfl) (by rfl) (by omega) (by omega) (by omega) (by omega) rfl (by decide +kernel) ?_
  refine jT_xistore (v := (0, 0)) (LN := [(7, (0, 0)), (6, (0, 2)), (5, (0, 0)), (4, (4, 3)), (3, (4, 2)), (2, (4, 1)), (1, (4, 0)), (0, (6, 0))]) (pcN := 600) jI_379_598 rfl rfl rfl rfl ?_
  refine jT_xaload_n (v := (4, 1)) (pcN := 601) jI_379_600 rfl rfl rfl ?_
  refine jT_fR [1, 15, 16, 17, 18, 19, 20, 21, 22, 23, 24, 25, 26, 27, 28, 29] 30 (y := 186) (pcN := 604) (dC := 0) (bc1 := 0) (bc2 := 0) (c1 := 0) (c2 := 0) (as := [(4, 1)]) (asC := [(4, 0)]) (LN := [(7, (0, 0)), (6, (0, 2)), (5, (0, 0)), (4, (4, 3)), (3, (4, 2)), (2, (4, 1)), (1, (4, 0)), (0, (6, 0))]) (stN := []) (hsC := jpA_361) (v := (0, 2)) (st2 := [(0, 2)]) (jA_186_101 (d := 0)) (by rfl) (by rfl) (by decide +kernel) (by rfl) (by rfl) (by omega) (by omega) (by omega) (by omega) rfl ?_
  refine jT_xiload (v := (0, 2)) (pcN := 606) jI_379_604 rfl rfl rfl ?_
  refine jT_xicT (pcN := 611) jI_379_606 rfl (by decide +kernel) rfl ?_
  refine jT_xiload (v := (0, 2)) (pcN := 613) jI_379_611 rfl rfl rfl ?_
  refine jT_xifT (pcN := 628) jI_379_613 rfl (by decide +kernel) rfl ?_
  refine jT_xgoto (pcN := 3740) jI_379_628 rfl ?_
  refine jT_xiinc (x := 0) (z := 5) (LN := [(5, (0, 5)), (7, (0, 0)), (6, (0, 2)), (4, (4, 3)), (3, (4, 2)), (2, (4, 1)), (1, (4, 0)), (0, (6, 0))]) (pcN := 3743) jI_379_3740 rfl rfl (by decide) rfl rfl ?_
  refine jT_xgoto (pcN := 28) jI_379_3743 rfl ?_
  refine jT_xiload (v := (0, 5)) (pcN := 30) jI_379_28 rfl rfl rfl ?_
  refine jT_xaload_n (v := (6, 0)) (pcN := 31) jI_379_30 rfl rfl rfl ?_
  refine jT_adv 1 (pcN := 32) (LN := [(5, (0, 5)), (7, (0, 0)), (6, (0, 2)), (4, (4, 3)), (3, (4, 2)), (2, (4, 1)), (1, (4, 0)), (0, (6, 0))]) (stN := [(0, 5), (0, 5)]) (hsN := jpA_607) (c1 := 0) (s1 := 0) (c2 := 0) (s2 := 0) (by exact rfl) ?_ (by omega) (by omega)
  refine jT_xiconst (k := 5) (pcN := 33) jI_379_32 rfl ?_
  refine jT_xisub (x := 5) (y := 5) (z := 0) (pcN := 34) jI_379_33 rfl (by decide) rfl ?_
  refine jT_xicT (pcN := 3746) jI_379_34 rfl (by decide +kernel) rfl ?_
  refine jT_xiconst (k := 1) (pcN := 3747) jI_379_3746 rfl ?_
  exact jT_ret rfl (by decide) (by show 30 ≤ 30; decide) (by omega) (by omega) ⟨rfl, rfl⟩
theorem jI_379_616 : jmI (jm 379) 616 = (.aload_n 3, 1) := by rfl
theorem jI_379_617 : jmI (jm 379) 617 = (.iconst 0, 1) := by rfl
theorem jI_379_618 : jmI (jm 379) 618 = (.laload, 1) := by rfl
theorem jI_379_619 : jmI (jm 379) 619 = (.iload 7, 2) := by rfl
theorem jI_379_621 : jmI (jm 379) 621 = (.i2l, 1) := by rfl
theorem jI_379_623 : jmI (jm 379) 623 = (.ifCond .eq 5, 3) := by rfl
set_option maxRecDepth 100000 in
theorem jL_3_3 {d : Nat} {x0 x1 x2 x3 x4 : Int} (h_x0 : (-2147483648) ≤ x0 ∧ x0 ≤ 2147483647) (h_x1 : 0 ≤ x1 ∧ x1 ≤ 7) (h_x2 : (-100) ≤ x2 ∧ x2 ≤ 100) (h_x3 : 1 ≤ x3 ∧ x3 ≤ 1) (h_x4 : (-2147483648) ≤ x4 ∧ x4 ≤ 2147483647) : jT [x0, x1, x2, x3, x4] (d + 5) 379 45 551 [(5, (0, 0)), (4, (4, 3)), (3, (4, 2)), (2, (4, 1)), (1, (4, 0)), (0, (6, 0))] [] jpA_325 4 21 (fun k v hsN => k = 0 ∧ v = (0, 1)) := by
  refine jT_xaload_n (v := (4, 0)) (pcN := 552) jI_379_551 rfl rfl rfl ?_
  refine jT_xaload_n (v := (6, 0)) (pcN := 553) jI_379_552 rfl rfl rfl ?_
  refine jT_xiload (v := (0, 0)) (pcN := 555) jI_379_553 rfl rfl rfl ?_
  refine jT_xiconst (k := 1) (pcN := 556) jI_379_555 rfl ?_
  refine jT_xiadd (x := 0) (y := 1) (z := 1) (pcN := 557) jI_379_556 rfl (by decide) rfl ?_
  refine jT_adv 1 (pcN := 558) (LN := [(5, (0, 0)), (4, (4, 3)), (3, (4, 2)), (2, (4, 1)), (1, (4, 0)), (0, (6, 0))]) (stN := [(0, x1), (4, 0)]) (hsN := jpA_325) (c1 := 0) (s1 := 0) (c2 := 4) (s2 := 21) (by exact rfl) ?_ (by omega) (by omega)
  refine jT_xaload_n (v := (6, 0)) (pcN := 559) jI_379_558 rfl rfl rfl ?_
  refine jT_xiload (v := (0, 0)) (pcN := 561) jI_379_559 rfl rfl rfl ?_
  refine jT_xiconst (k := 2) (pcN := 562) jI_379_561 rfl ?_
  refine jT_xiadd (x := 0) (y := 2) (z := 2) (pcN := 563) jI_379_562 rfl (by decide) rfl ?_
  refine jT_adv 1 (pcN := 564) (LN := [(5, (0, 0)), (4, (4, 3)), (3, (4, 2)), (2, (4, 1)), (1, (4, 0)), (0, (6, 0))]) (stN := [(0, x2), (0, x1), (4, 0)]) (hsN := jpA_325) (c1 := 0) (s1 := 0) (c2 := 4) (s2 := 21) (by exact rfl) ?_ (by omega) (by omega)
  refine jT_xaload_n (v := (6, 0)) (pcN := 565) jI_379_564 rfl rfl rfl ?_
  refine jT_xiload (v := (0, 0)) (pcN := 567) jI_379_565 rfl rfl rfl ?_
  refine jT_xiconst (k := 3) (pcN := 568) jI_379_567 rfl ?_
  refine jT_xiadd (x := 0) (y := 3) (z := 3) (pcN := 569) jI_379_568 rfl (by decide) rfl ?_
  refine jT_adv 1 (pcN := 570) (LN := [(5, (0, 0)), (4, (4, 3)), (3, (4, 2)), (2, (4, 1)), (1, (4, 0)), (0, (6, 0))]) (stN := [(0, x3), (0, x2), (0, x1), (4, 0)]) (hsN := jpA_325) (c1 := 0) (s1 := 0) (c2 := 4) (s2 := 21) (by exact rfl) ?_ (by omega) (by omega)
  refine jT_eq (LN := [(5, (0, 0)), (4, (4, 3)), (3, (4, 2)), (2, (4, 1)), (1, (4, 0)), (0, (6, 0))]) (stN := [(0, 1), (0, x2), (0, x1), (4, 0)]) (hsN := [jzA_265, jzA_266, (101, [], [0]), jgh, jgh, jgh, jgh, jgh, jgh, jgh, jgh, jgh, jgh, jzA_79, jzA_322, (100, [], jS0), (100, [], []), jzA_323, jzA_197, jgh, jgh, (101, [], [0, 0, 0, 0, 0, 0]), jgh, jgh, jgh, jgh, jgh, jgh, jgh, jgh, jzA_324, jgh, jgh, jgh, jgh, (100, [], (List.replicate 1613 0)), jgh, jgh, jgh, jgh, jgh, jgh, jgh, (4, [(4, 44), (1, 1)], []), (101, [], [0, 0, 0, 0, 0, 0])]) (rfl) (by simp only [List.cons.injEq, Prod.mk.injEq, and_true, true_and] <;> ((try unfold jw); (try unfold jwl); omega)) (rfl) ?_
  refine jT_xaload_n (v := (4, 2)) (pcN := 571) jI_379_570 rfl rfl rfl ?_
  refine jT_fB [0, 2, 4, 5, 6, 7, 8, 9, 10, 11, 12, 13, 14, 30, 31, 32, 33, 34, 43, 44] 45 (y := 329) (pcN := 574) (dC := 4) (bc1 := 4) (bc2 := 21) (c1 := 0) (c2 := 0) (as := [(4, 0), (0, x1), (0, x2), (0, 1), (4, 2)]) (asC := [(4, 0), (0, x1), (0, x2), (0, 1), (4, 1)]) (LN := [(5, (0, 0)), (4, (4, 3)), (3, (4, 2)), (2, (4, 1)), (1, (4, 0)), (0, (6, 0))]) (stN := []) (hsC := jpA_116) (hsD := jpA_113) (v := (0, 0)) (st2 := [(0, 0)]) (hs2 := jpA_329) (jA_329_112 (d := 0) (by omega) (by omega)) (by rfl) (by rfl) (by decide +kernel) (by rfl) (by rfl) (by omega) (by omega) (by omega) (by omega) rfl (by decide +kernel) ?_
  refine jT_xistore (v := (0, 0)) (LN := [(6, (0, 0)), (5, (0, 0)), (4, (4, 3)), (3, (4, 2)), (2, (4, 1)), (1, (4, 0)), (0, (6, 0))]) (pcN := 576) jI_379_574 rfl rfl rfl rfl ?_
  refine jT_xaload_n (v := (4, 1)) (pcN := 577) jI_379_576 rfl rfl rfl ?_
  refine jT_xaload_n (v := (6, 0)) (pcN := 578) jI_379_577 rfl rfl rfl ?_
  refine jT_xiload (v := (0, 0)) (pcN := 580) jI_379_578 rfl rfl rfl ?_
  refine jT_xiconst (k := 1) (pcN := 581) jI_379_580 rfl ?_
  refine jT_xiadd (x := 0) (y := 1) (z := 1) (pcN := 582) jI_379_581 rfl (by decide) rfl ?_
  refine jT_adv 1 (pcN := 583) (LN := [(6, (0, 0)), (5, (0, 0)), (4, (4, 3)), (3, (4, 2)), (2, (4, 1)), (1, (4, 0)), (0, (6, 0))]) (stN := [(0, x1), (4, 1)]) (hsN := jpA_329) (c1 := 0) (s1 := 0) (c2 := 0) (s2 := 0) (by exact rfl) ?_ (by omega) (by omega)
  refine jT_xaload_n (v := (6, 0)) (pcN := 584) jI_379_583 rfl rfl rfl ?_
  refine jT_xiload (v := (0, 0)) (pcN := 586) jI_379_584 rfl rfl rfl ?_
  refine jT_xiconst (k := 2) (pcN := 587) jI_379_586 rfl ?_
  refine jT_xiadd (x := 0) (y := 2) (z := 2) (pcN := 588) jI_379_587 rfl (by decide) rfl ?_
  refine jT_adv 1 (pcN := 589) (LN := [(6, (0, 0)), (5, (0, 0)), (4, (4, 3)), (3, (4, 2)), (2, (4, 1)), (1, (4, 0)), (0, (6, 0))]) (stN := [(0, x2), (0, x1), (4, 1)]) (hsN := jpA_329) (c1 := 0) (s1 := 0) (c2 := 0) (s2 := 0) (by exact rfl) ?_ (by omega) (by omega)
  refine jT_xaload_n (v := (6, 0)) (pcN := 590) jI_379_589 rfl rfl rfl ?_
  refine jT_xiload (v := (0, 0)) (pcN := 592) jI_379_590 rfl rfl rfl ?_
  refine jT_xiconst (k := 3) (pcN := 593) jI_379_592 rfl ?_
  refine jT_xiadd (x := 0) (y := 3) (z := 3) (pcN := 594) jI_379_593 rfl (by decide) rfl ?_
  refine jT_adv 1 (pcN := 595) (LN := [(6, (0, 0)), (5, (0, 0)), (4, (4, 3)), (3, (4, 2)), (2, (4, 1)), (1, (4, 0)), (0, (6, 0))]) (stN := [(0, x3), (0, x2), (0, x1), (4, 1)]) (hsN := jpA_329) (c1 := 0) (s1 := 0) (c2 := 0) (s2 := 0) (by exact rfl) ?_ (by omega) (by omega)
  refine jT_eq (LN := [(6, (0, 0)), (5, (0, 0)), (4, (4, 3)), (3, (4, 2)), (2, (4, 1)), (1, (4, 0)), (0, (6, 0))]) (stN := [(0, 1), (0, x2), (0, x1), (4, 1)]) (hsN := [jzA_326, jzA_266, (101, [], [1]), jgh, jgh, jgh, jgh, jgh, jgh, jgh, jgh, jgh, jgh, jzA_327, jzA_322, (100, [], jS0), (100, [], []), jzA_323, jzA_197, jgh, jgh, (101, [], [0, 0, 0, 0, 0, 0]), jgh, jgh, jgh, jgh, jgh, jgh, jgh, jgh, jzA_324, jgh, jgh, jgh, jgh, (100, [], (List.replicate 1613 0)), jgh, jgh, jgh, jgh, jgh, jgh, jgh, (4, [(4, 44), (1, 1)], []), (101, [], [0, 0, 0, 0, 0, 0]), (101, [], [0, 0, 0, 0, 0, 0]), (4, [(4, 45), (1, 1)], []), jgh, jzA_328]) (rfl) (by simp only [List.cons.injEq, Prod.mk.injEq, and_true, true_and] <;> ((try unfold jw); (try unfold jwl); omega)) (rfl) ?_
  refine jT_fB [1, 15, 16, 17, 18, 19, 20, 21, 22, 23, 24, 25, 26, 27, 28, 29, 35, 36, 37, 38, 39, 40, 41, 42] 49 (y := 206) (pcN := 598) (dC := 3) (bc1 := 0) (bc2 := 0) (c1 := 0) (c2 := 0) (as := [(4, 1), (0, x1), (0, x2), (0, 1)]) (asC := [(4, 0), (0, x1), (0, x2), (0, 1)]) (LN := [(6, (0, 0)), (5, (0, 0)), (4, (4, 3)), (3, (4, 2)), (2, (4, 1)), (1, (4, 0)), (0, (6, 0))]) (stN := []) (hsC := jpA_248) (hsD := [jzA_200, (100, [], ((((((((((((((jS0).set ((7 * x1).toNat) 0)).set ((7 * x1 + 1).toNat) 0)).set ((7 * x1 + 2).toNat) 0)).set ((7 * x1 + 3).toNat) 0)).set ((7 * x1 + 4).toNat) 0)).set ((7 * x1 + 5).toNat) 0)).set ((7 * x1 + 6).toNat) 1)), (100, [], []), jzA_196, jzA_201, jgh, jgh, (101, [], [0, 0, 0, 0, 0, 0]), jgh, jgh, jgh, jgh, jgh, jgh, jgh, jgh, (100, [], jS0), jgh, jgh, jgh, jgh, jgh, jgh, jgh]) (v := (0, 1)) (st2 := [(0, 1)]) (hs2 := [jzA_326, jzA_330, (101, [], [1]), jgh, jgh, jgh, jgh, jgh, jgh, jgh, jgh, jgh, jgh, jzA_327, jzA_322, (100, [], ((((((((((((((jS0).set ((7 * x1).toNat) 0)).set ((7 * x1 + 1).toNat) 0)).set ((7 * x1 + 2).toNat) 0)).set ((7 * x1 + 3).toNat) 0)).set ((7 * x1 + 4).toNat) 0)).set ((7 * x1 + 5).toNat) 0)).set ((7 * x1 + 6).toNat) 1)), (100, [], []), jzA_323, jzA_331, jgh, jgh, (101, [], [0, 0, 0, 0, 0, 0]), jgh, jgh, jgh, jgh, jgh, jgh, jgh, jgh, jzA_324, jgh, jgh, jgh, jgh, (100, [], jS0), jgh, jgh, jgh, jgh, jgh, jgh, jgh, (4, [(4, 44), (1, 1)], []), (101, [], [0, 0, 0, 0, 0, 0]), (101, [], [0, 0, 0, 0, 0, 0]), (4, [(4, 45), (1, 1)], []), jgh, jzA_328]) (jA_206_118 (d := 0) (by omega) (by omega)) (by rfl) (by rfl) (by decide +kernel) (by rfl) (by rfl) (by omega) (by omega) (by omega) (by omega) rfl rfl ?_
  refine jT_xistore (v := (0, 1)) (LN := [(7, (0, 1)), (6, (0, 0)), (5, (0, 0)), (4, (4, 3)), (3, (4, 2)), (2, (4, 1)), (1, (4, 0)), (0, (6, 0))]) (pcN := 600) jI_379_598 rfl rfl rfl rfl ?_
  refine jT_xaload_n (v := (4, 1)) (pcN := 601) jI_379_600 rfl rfl rfl ?_
  refine jT_callA [1, 15, 16, 17, 18, 19, 20, 21, 22, 23, 24, 25, 26, 27, 28, 29] (y := 186) (pcN := 604) (dC := 0) (bc1 := 0) (bc2 := 0) (c1 := 0) (c2 := 0) (as := [(4, 1)]) (asC := [(4, 0)]) (LN := [(7, (0, 1)), (6, (0, 0)), (5, (0, 0)), (4, (4, 3)), (3, (4, 2)), (2, (4, 1)), (1, (4, 0)), (0, (6, 0))]) (stN := []) (hsC := jpA_258) (ex := []) (v := (0, 0)) (st2 := [(0, 0)]) (hs2 := [jzA_326, jzA_330, (101, [], [1]), jgh, jgh, jgh, jgh, jgh, jgh, jgh, jgh, jgh, jgh, jzA_327, jzA_322, (100, [], ((((((((((((((jS0).set ((7 * x1).toNat) 0)).set ((7 * x1 + 1).toNat) 0)).set ((7 * x1 + 2).toNat) 0)).set ((7 * x1 + 3).toNat) 0)).set ((7 * x1 + 4).toNat) 0)).set ((7 * x1 + 5).toNat) 0)).set ((7 * x1 + 6).toNat) 1)), (100, [], []), jzA_323, jzA_331, jgh, jgh, (101, [], [0, 0, 0, 0, 0, 0]), jgh, jgh, jgh, jgh, jgh, jgh, jgh, jgh, jzA_324, jgh, jgh, jgh, jgh, (100, [], jS0), jgh, jgh, jgh, jgh, jgh, jgh, jgh, (4, [(4, 44), (1, 1)], []), (101, [], [0, 0, 0, 0, 0, 0]), (101, [], [0, 0, 0, 0, 0, 0]), (4, [(4, 45), (1, 1)], []), jgh, jzA_328]) (jA_186_54 (d := 0)) (by rfl) (by rfl) (by rfl) (by rfl) ⟨rfl, rfl, rfl, rfl, rfl, rfl, rfl, rfl, rfl, rfl, rfl, rfl, rfl, rfl, rfl, rfl, trivial⟩ (by rfl) (by rfl) (by omega) (by show 45 ≤ 49; omega) (by omega) (by omega) rfl rfl ?_
  refine jT_xiload (v := (0, 0)) (pcN := 606) jI_379_604 rfl rfl rfl ?_
  refine jT_xicT (pcN := 611) jI_379_606 rfl (by decide +kernel) rfl ?_
  refine jT_xiload (v := (0, 0)) (pcN := 613) jI_379_611 rfl rfl rfl ?_
  refine jT_xifF (t := 628) (pcN := 616) jI_379_613 rfl (by decide +kernel) rfl rfl ?_
  refine jT_xaload_n (v := (4, 2)) (pcN := 617) jI_379_616 rfl rfl rfl ?_
  refine jT_xiconst (k := 0) (pcN := 618) jI_379_617 rfl ?_
  refine jT_lald (x := 1) (a := 2) (j := 0) (fs := []) (X := [1]) jI_379_618 rfl rfl rfl rfl ?_
  refine jT_eq (LN := [(7, (0, 1)), (6, (0, 0)), (5, (0, 0)), (4, (4, 3)), (3, (4, 2)), (2, (4, 1)), (1, (4, 0)), (0, (6, 0))]) (stN := [(1, 1)]) (hsN := [jzA_326, jzA_330, (101, [], [1]), jgh, jgh, jgh, jgh, jgh, jgh, jgh, jgh, jgh, jgh, jzA_327, jzA_322, (100, [], ((((((((((((((jS0).set ((7 * x1).toNat) 0)).set ((7 * x1 + 1).toNat) 0)).set ((7 * x1 + 2).toNat) 0)).set ((7 * x1 + 3).toNat) 0)).set ((7 * x1 + 4).toNat) 0)).set ((7 * x1 + 5).toNat) 0)).set ((7 * x1 + 6).toNat) 1)), (100, [], []), jzA_323, jzA_331, jgh, jgh, (101, [], [0, 0, 0, 0, 0, 0]), jgh, jgh, jgh, jgh, jgh, jgh, jgh, jgh, jzA_324, jgh, jgh, jgh, jgh, (100, [], jS0), jgh, jgh, jgh, jgh, jgh, jgh, jgh, (4, [(4, 44), (1, 1)], []), (101, [], [0, 0, 0, 0, 0, 0]), (101, [], [0, 0, 0, 0, 0, 0]), (4, [(4, 45), (1, 1)], []), jgh, jzA_328]) rfl rfl rfl ?_
  refine jT_xiload (v := (0, 1)) (pcN := 621) jI_379_619 rfl rfl rfl ?_
  refine jT_xi2l (x := 1) (z := 1) (pcN := 622) jI_379_621 rfl (by decide +kernel) rfl ?_
  refine jT_lcmp (a := 1) (b := 1) (z := 0) (by rfl) (by rfl) (by decide +kernel) (by decide +kernel) (by decide) ?_
  refine jT_xifT (pcN := 628) jI_379_623 rfl (by decide +kernel) rfl ?_
  refine jT_xgoto (pcN := 3740) jI_379_628 rfl ?_
  refine jT_xiinc (x := 0) (z := 5) (LN := [(5, (0, 5)), (7, (0, 1)), (6, (0, 0)), (4, (4, 3)), (3, (4, 2)), (2, (4, 1)), (1, (4, 0)), (0, (6, 0))]) (pcN := 3743) jI_379_3740 rfl rfl (by decide) rfl rfl ?_
  refine jT_xgoto (pcN := 28) jI_379_3743 rfl ?_
  refine jT_xiload (v := (0, 5)) (pcN := 30) jI_379_28 rfl rfl rfl ?_
  refine jT_xaload_n (v := (6, 0)) (pcN := 31) jI_379_30 rfl rfl rfl ?_
  refine jT_adv 1 (pcN := 32) (LN := [(5, (0, 5)), (7, (0, 1)), (6, (0, 0)), (4, (4, 3)), (3, (4, 2)), (2, (4, 1)), (1, (4, 0)), (0, (6, 0))]) (stN := [(0, 5), (0, 5)]) (hsN := [jzA_326, jzA_330, (101, [], [1]), jgh, jgh, jgh, jgh, jgh, jgh, jgh, jgh, jgh, jgh, jzA_327, jzA_322, (100, [], ((((((((((((((jS0).set ((7 * x1).toNat) 0)).set ((7 * x1 + 1).toNat) 0)).set ((7 * x1 + 2).toNat) 0)).set ((7 * x1 + 3).toNat) 0)).set ((7 * x1 + 4).toNat) 0)).set ((7 * x1 + 5).toNat) 0)).set ((7 * x1 + 6).toNat) 1)), (100, [], []), jzA_323, jzA_331, jgh, jgh, (101, [], [0, 0, 0, 0, 0, 0]), jgh, jgh, jgh, jgh, jgh, jgh, jgh, jgh, jzA_324, jgh, jgh, jgh, jgh, (100, [], jS0), jgh, jgh, jgh, jgh, jgh, jgh, jgh, (4, [(4, 44), (1, 1)], []), (101, [], [0, 0, 0, 0, 0, 0]), (101, [], [0, 0, 0, 0, 0, 0]), (4, [(4, 45), (1, 1)], []), jgh, jzA_328]) (c1 := 0) (s1 := 0) (c2 := 0) (s2 := 0) (by exact rfl) ?_ (by omega) (by omega)
  refine jT_xiconst (k := 5) (pcN := 33) jI_379_32 rfl ?_
  refine jT_xisub (x := 5) (y := 5) (z := 0) (pcN := 34) jI_379_33 rfl (by decide) rfl ?_
  refine jT_xicT (pcN := 3746) jI_379_34 rfl (by decide +kernel) rfl ?_
  refine jT_xiconst (k := 1) (pcN := 3747) jI_379_3746 rfl ?_
  exact jT_ret rfl (by decide) (by show 45 ≤ 49; decide) (by omega) (by omega) ⟨rfl, rfl⟩
set_option maxRecDepth 100000 in
theorem jL_3_4 {d : Nat} {x0 x1 x2 x3 x4 : Int} (h_x0 : (-2147483648) ≤ x0 ∧ x0 ≤ 2147483647) (h_x1 : 0 ≤ x1 ∧ x1 ≤ 7) (h_x2 : (-100) ≤ x2 ∧ x2 ≤ 100) (h_x3 : 2 ≤ x3 ∧ x3 ≤ 24) (h_x4 : (-2147483648) ≤ x4 ∧ x4 ≤ 2147483647) : jT [x0, x1, x2, x3, x4] (d + 6) 379 45 551 [(5, (0, 0)), (4, (4, 3)), (3, (4, 2)), (2, (4, 1)), (1, (4, 0)), (0, (6, 0))] [] jpA_325 4 21 (fun k v hsN => k = 0 ∧ v = (0, 1)) := by
  refine jT_xaload_n (v := (4, 0)) (pcN := 552) jI_379_551 rfl rfl rfl ?_
  refine jT_xaload_n (v := (6, 0)) (pcN := 553) jI_379_552 rfl rfl rfl ?_
  refine jT_xiload (v := (0, 0)) (pcN := 555) jI_379_553 rfl rfl rfl ?_
  refine jT_xiconst (k := 1) (pcN := 556) jI_379_555 rfl ?_
  refine jT_xiadd (x := 0) (y := 1) (z := 1) (pcN := 557) jI_379_556 rfl (by decide) rfl ?_
  refine jT_adv 1 (pcN := 558) (LN := [(5, (0, 0)), (4, (4, 3)), (3, (4, 2)), (2, (4, 1)), (1, (4, 0)), (0, (6, 0))]) (stN := [(0, x1), (4, 0)]) (hsN := jpA_325) (c1 := 0) (s1 := 0) (c2 := 4) (s2 := 21) (by exact rfl) ?_ (by omega) (by omega)
  refine jT_xaload_n (v := (6, 0)) (pcN := 559) jI_379_558 rfl rfl rfl ?_
  refine jT_xiload (v := (0, 0)) (pcN := 561) jI_379_559 rfl rfl rfl ?_
  refine jT_xiconst (k := 2) (pcN := 562) jI_379_561 rfl ?_
  refine jT_xiadd (x := 0) (y := 2) (z := 2) (pcN := 563) jI_379_562 rfl (by decide) rfl ?_
  refine jT_adv 1 (pcN := 564) (LN := [(5, (0, 0)), (4, (4, 3)), (3, (4, 2)), (2, (4, 1)), (1, (4, 0)), (0, (6, 0))]) (stN := [(0, x2), (0, x1), (4, 0)]) (hsN := jpA_325) (c1 := 0) (s1 := 0) (c2 := 4) (s2 := 21) (by exact rfl) ?_ (by omega) (by omega)
  refine jT_xaload_n (v := (6, 0)) (pcN := 565) jI_379_564 rfl rfl rfl ?_
  refine jT_xiload (v := (0, 0)) (pcN := 567) jI_379_565 rfl rfl rfl ?_
  refine jT_xiconst (k := 3) (pcN := 568) jI_379_567 rfl ?_
  refine jT_xiadd (x := 0) (y := 3) (z := 3) (pcN := 569) jI_379_568 rfl (by decide) rfl ?_
  refine jT_adv 1 (pcN := 570) (LN := [(5, (0, 0)), (4, (4, 3)), (3, (4, 2)), (2, (4, 1)), (1, (4, 0)), (0, (6, 0))]) (stN := [(0, x3), (0, x2), (0, x1), (4, 0)]) (hsN := jpA_325) (c1 := 0) (s1 := 0) (c2 := 4) (s2 := 21) (by exact rfl) ?_ (by omega) (by omega)
  refine jT_xaload_n (v := (4, 2)) (pcN := 571) jI_379_570 rfl rfl rfl ?_
  refine jT_fB [0, 2, 4, 5, 6, 7, 8, 9, 10, 11, 12, 13, 14, 30, 31, 32, 33, 34, 43, 44] 45 (y := 329) (pcN := 574) (dC := 5) (bc1 := 4) (bc2 := 21) (c1 := 0) (c2 := 0) (as := [(4, 0), (0, x1), (0, x2), (0, x3), (4, 2)]) (asC := [(4, 0), (0, x1), (0, x2), (0, x3), (4, 1)]) (LN := [(5, (0, 0)), (4, (4, 3)), (3, (4, 2)), (2, (4, 1)), (1, (4, 0)), (0, (6, 0))]) (stN := []) (hsC := jpA_116) (hsD := jpA_113) (v := (0, 0)) (st2 := [(0, 0)]) (hs2 := jpA_329) (jA_329_125 (d := 0) (by omega) (by omega) (by omega)) (by rfl) (by rfl) (by decide +kernel) (by rfl) (by rfl) (by omega) (by omega) (by omega) (by omega) rfl (by decide +kernel) ?_
  refine jT_xistore (v := (0, 0)) (LN := [(6, (0, 0)), (5, (0, 0)), (4, (4, 3)), (3, (4, 2)), (2, (4, 1)), (1, (4, 0)), (0, (6, 0))]) (pcN := 576) jI_379_574 rfl rfl rfl rfl ?_
  refine jT_xaload_n (v := (4, 1)) (pcN := 577) jI_379_576 rfl rfl rfl ?_
  refine jT_xaload_n (v := (6, 0)) (pcN := 578) jI_379_577 rfl rfl rfl ?_
  refine jT_xiload (v := (0, 0)) (pcN := 580) jI_379_578 rfl rfl rfl ?_
  refine jT_xiconst (k := 1) (pcN := 581) jI_379_580 rfl ?_
  refine jT_xiadd (x := 0) (y := 1) (z := 1) (pcN := 582) jI_379_581 rfl (by decide) rfl ?_
  refine jT_adv 1 (pcN := 583) (LN := [(6, (0, 0)), (5, (0, 0)), (4, (4, 3)), (3, (4, 2)), (2, (4, 1)), (1, (4, 0)), (0, (6, 0))]) (stN := [(0, x1), (4, 1)]) (hsN := jpA_329) (c1 := 0) (s1 := 0) (c2 := 0) (s2 := 0) (by exact rfl) ?_ (by omega) (by omega)
  refine jT_xaload_n (v := (6, 0)) (pcN := 584) jI_379_583 rfl rfl rfl ?_
  refine jT_xiload (v := (0, 0)) (pcN := 586) jI_379_584 rfl rfl rfl ?_
  refine jT_xiconst (k := 2) (pcN := 587) jI_379_586 rfl ?_
  refine jT_xiadd (x := 0) (y := 2) (z := 2) (pcN := 588) jI_379_587 rfl (by decide) rfl ?_
  refine jT_adv 1 (pcN := 589) (LN := [(6, (0, 0)), (5, (0, 0)), (4, (4, 3)), (3, (4, 2)), (2, (4, 1)), (1, (4, 0)), (0, (6, 0))]) (stN := [(0, x2), (0, x1), (4, 1)]) (hsN := jpA_329) (c1 := 0) (s1 := 0) (c2 := 0) (s2 := 0) (by exact rfl) ?_ (by omega) (by omega)
  refine jT_xaload_n (v := (6, 0)) (pcN := 590) jI_379_589 rfl rfl rfl ?_
  refine jT_xiload (v := (0, 0)) (pcN := 592) jI_379_590 rfl rfl rfl ?_
  refine jT_xiconst (k := 3) (pcN := 593) jI_379_592 rfl ?_
  refine jT_xiadd (x := 0) (y := 3) (z := 3) (pcN := 594) jI_379_593 rfl (by decide) rfl ?_
  refine jT_adv 1 (pcN := 595) (LN := [(6, (0, 0)), (5, (0, 0)), (4, (4, 3)), (3, (4, 2)), (2, (4, 1)), (1, (4, 0)), (0, (6, 0))]) (stN := [(0, x3), (0, x2), (0, x1), (4, 1)]) (hsN := jpA_329) (c1 := 0) (s1 := 0) (c2 := 0) (s2 := 0) (by exact rfl) ?_ (by omega) (by omega)
  refine jT_fB [1, 15, 16, 17, 18, 19, 20, 21, 22, 23, 24, 25, 26, 27, 28, 29, 35, 36, 37, 38, 39, 40, 41, 42] 49 (y := 206) (pcN := 598) (dC := 3) (bc1 := 0) (bc2 := 0) (c1 := 0) (c2 := 0) (as := [(4, 1), (0, x1), (0, x2), (0, x3)]) (asC := [(4, 0), (0, x1), (0, x2), (0, x3)]) (LN := [(6, (0, 0)), (5, (0, 0)), (4, (4, 3)), (3, (4, 2)), (2, (4, 1)), (1, (4, 0)), (0, (6, 0))]) (stN := []) (hsC := jpA_248) (hsD := [jzA_200, (100, [], ((((((((((((((jS0).set ((7 * x1).toNat) 0)).set ((7 * x1 + 1).toNat) 0)).set ((7 * x1 + 2).toNat) 0)).set ((7 * x1 + 3).toNat) 0)).set ((7 * x1 + 4).toNat) 0)).set ((7 * x1 + 5).toNat) 0)).set ((7 * x1 + 6).toNat) 1)), (100, [], []), jzA_196, jzA_201, jgh, jgh, (101, [], [0, 0, 0, 0, 0, 0]), jgh, jgh, jgh, jgh, jgh, jgh, jgh, jgh, (100, [], jS0), jgh, jgh, jgh, jgh, jgh, jgh, jgh]) (v := (0, 1)) (st2 := [(0, 1)]) (hs2 := [jzA_326, jzA_330, (101, [], [1]), jgh, jgh, jgh, jgh, jgh, jgh, jgh, jgh, jgh, jgh, jzA_327, jzA_322, (100, [], ((((((((((((((jS0).set ((7 * x1).toNat) 0)).set ((7 * x1 + 1).toNat) 0)).set ((7 * x1 + 2).toNat) 0)).set ((7 * x1 + 3).toNat) 0)).set ((7 * x1 + 4).toNat) 0)).set ((7 * x1 + 5).toNat) 0)).set ((7 * x1 + 6).toNat) 1)), (100, [], []), jzA_323, jzA_331, jgh, jgh, (101, [], [0, 0, 0, 0, 0, 0]), jgh, jgh, jgh, jgh, jgh, jgh, jgh, jgh, jzA_324, jgh, jgh, jgh, jgh, (100, [], jS0), jgh, jgh, jgh, jgh, jgh, jgh, jgh, (4, [(4, 44), (1, 1)], []), (101, [], [0, 0, 0, 0, 0, 0]), (101, [], [0, 0, 0, 0, 0, 0]), (4, [(4, 45), (1, 1)], []), jgh, jzA_328]) (jA_206_129 (d := 0) (by omega) (by omega) (by omega)) (by rfl) (by rfl) (by decide +kernel) (by rfl) (by rfl) (by omega) (by omega) (by omega) (by omega) rfl rfl ?_
  refine jT_xistore (v := (0, 1)) (LN := [(7, (0, 1)), (6, (0, 0)), (5, (0, 0)), (4, (4, 3)), (3, (4, 2)), (2, (4, 1)), (1, (4, 0)), (0, (6, 0))]) (pcN := 600) jI_379_598 rfl rfl rfl rfl ?_
  refine jT_xaload_n (v := (4, 1)) (pcN := 601) jI_379_600 rfl rfl rfl ?_
  refine jT_callA [1, 15, 16, 17, 18, 19, 20, 21, 22, 23, 24, 25, 26, 27, 28, 29] (y := 186) (pcN := 604) (dC := 0) (bc1 := 0) (bc2 := 0) (c1 := 0) (c2 := 0) (as := [(4, 1)]) (asC := [(4, 0)]) (LN := [(7, (0, 1)), (6, (0, 0)), (5, (0, 0)), (4, (4, 3)), (3, (4, 2)), (2, (4, 1)), (1, (4, 0)), (0, (6, 0))]) (stN := []) (hsC := jpA_258) (ex := []) (v := (0, 0)) (st2 := [(0, 0)]) (hs2 := [jzA_326, jzA_330, (101, [], [1]), jgh, jgh, jgh, jgh, jgh, jgh, jgh, jgh, jgh, jgh, jzA_327, jzA_322, (100, [], ((((((((((((((jS0).set ((7 * x1).toNat) 0)).set ((7 * x1 + 1).toNat) 0)).set ((7 * x1 + 2).toNat) 0)).set ((7 * x1 + 3).toNat) 0)).set ((7 * x1 + 4).toNat) 0)).set ((7 * x1 + 5).toNat) 0)).set ((7 * x1 + 6).toNat) 1)), (100, [], []), jzA_323, jzA_331, jgh, jgh, (101, [], [0, 0, 0, 0, 0, 0]), jgh, jgh, jgh, jgh, jgh, jgh, jgh, jgh, jzA_324, jgh, jgh, jgh, jgh, (100, [], jS0), jgh, jgh, jgh, jgh, jgh, jgh, jgh, (4, [(4, 44), (1, 1)], []), (101, [], [0, 0, 0, 0, 0, 0]), (101, [], [0, 0, 0, 0, 0, 0]), (4, [(4, 45), (1, 1)], []), jgh, jzA_328]) (jA_186_54 (d := 0)) (by rfl) (by rfl) (by rfl) (by rfl) ⟨rfl, rfl, rfl, rfl, rfl, rfl, rfl, rfl, rfl, rfl, rfl, rfl, rfl, rfl, rfl, rfl, trivial⟩ (by rfl) (by rfl) (by omega) (by show 45 ≤ 49; omega) (by omega) (by omega) rfl rfl ?_
  refine jT_xiload (v := (0, 0)) (pcN := 606) jI_379_604 rfl rfl rfl ?_
  refine jT_xicT (pcN := 611) jI_379_606 rfl (by decide +kernel) rfl ?_
  refine jT_xiload (v := (0, 0)) (pcN := 613) jI_379_611 rfl rfl rfl ?_
  refine jT_xifF (t := 628) (pcN := 616) jI_379_613 rfl (by decide +kernel) rfl rfl ?_
  refine jT_xaload_n (v := (4, 2)) (pcN := 617) jI_379_616 rfl rfl rfl ?_
  refine jT_xiconst (k := 0) (pcN := 618) jI_379_617 rfl ?_
  refine jT_lald (x := 1) (a := 2) (j := 0) (fs := []) (X := [1]) jI_379_618 rfl rfl rfl rfl ?_
  refine jT_eq (LN := [(7, (0, 1)), (6, (0, 0)), (5, (0, 0)), (4, (4, 3)), (3, (4, 2)), (2, (4, 1)), (1, (4, 0)), (0, (6, 0))]) (stN := [(1, 1)]) (hsN := [jzA_326, jzA_330, (101, [], [1]), jgh, jgh, jgh, jgh, jgh, jgh, jgh, jgh, jgh, jgh, jzA_327, jzA_322, (100, [], ((((((((((((((jS0).set ((7 * x1).toNat) 0)).set ((7 * x1 + 1).toNat) 0)).set ((7 * x1 + 2).toNat) 0)).set ((7 * x1 + 3).toNat) 0)).set ((7 * x1 + 4).toNat) 0)).set ((7 * x1 + 5).toNat) 0)).set ((7 * x1 + 6).toNat) 1)), (100, [], []), jzA_323, jzA_331, jgh, jgh, (101, [], [0, 0, 0, 0, 0, 0]), jgh, jgh, jgh, jgh, jgh, jgh, jgh, jgh, jzA_324, jgh, jgh, jgh, jgh, (100, [], jS0), jgh, jgh, jgh, jgh, jgh, jgh, jgh, (4, [(4, 44), (1, 1)], []), (101, [], [0, 0, 0, 0, 0, 0]), (101, [], [0, 0, 0, 0, 0, 0]), (4, [(4, 45), (1, 1)], []), jgh, jzA_328]) rfl rfl rfl ?_
  refine jT_xiload (v := (0, 1)) (pcN := 621) jI_379_619 rfl rfl rfl ?_
  refine jT_xi2l (x := 1) (z := 1) (pcN := 622) jI_379_621 rfl (by decide +kernel) rfl ?_
  refine jT_lcmp (a := 1) (b := 1) (z := 0) (by rfl) (by rfl) (by decide +kernel) (by decide +kernel) (by decide) ?_
  refine jT_xifT (pcN := 628) jI_379_623 rfl (by decide +kernel) rfl ?_
  refine jT_xgoto (pcN := 3740) jI_379_628 rfl ?_
  refine jT_xiinc (x := 0) (z := 5) (LN := [(5, (0, 5)), (7, (0, 1)), (6, (0, 0)), (4, (4, 3)), (3, (4, 2)), (2, (4, 1)), (1, (4, 0)), (0, (6, 0))]) (pcN := 3743) jI_379_3740 rfl rfl (by decide) rfl rfl ?_
  refine jT_xgoto (pcN := 28) jI_379_3743 rfl ?_
  refine jT_xiload (v := (0, 5)) (pcN := 30) jI_379_28 rfl rfl rfl ?_
  refine jT_xaload_n (v := (6, 0)) (pcN := 31) jI_379_30 rfl rfl rfl ?_
  refine jT_adv 1 (pcN := 32) (LN := [(5, (0, 5)), (7, (0, 1)), (6, (0, 0)), (4, (4, 3)), (3, (4, 2)), (2, (4, 1)), (1, (4, 0)), (0, (6, 0))]) (stN := [(0, 5), (0, 5)]) (hsN := [jzA_326, jzA_330, (101, [], [1]), jgh, jgh, jgh, jgh, jgh, jgh, jgh, jgh, jgh, jgh, jzA_327, jzA_322, (100, [], ((((((((((((((jS0).set ((7 * x1).toNat) 0)).set ((7 * x1 + 1).toNat) 0)).set ((7 * x1 + 2).toNat) 0)).set ((7 * x1 + 3).toNat) 0)).set ((7 * x1 + 4).toNat) 0)).set ((7 * x1 + 5).toNat) 0)).set ((7 * x1 + 6).toNat) 1)), (100, [], []), jzA_323, jzA_331, jgh, jgh, (101, [], [0, 0, 0, 0, 0, 0]), jgh, jgh, jgh, jgh, jgh, jgh, jgh, jgh, jzA_324, jgh, jgh, jgh, jgh, (100, [], jS0), jgh, jgh, jgh, jgh, jgh, jgh, jgh, (4, [(4, 44), (1, 1)], []), (101, [], [0, 0, 0, 0, 0, 0]), (101, [], [0, 0, 0, 0, 0, 0]), (4, [(4, 45), (1, 1)], []), jgh, jzA_328]) (c1 := 0) (s1 := 0) (c2 := 0) (s2 := 0) (by exact rfl) ?_ (by omega) (by omega)
  refine jT_xiconst (k := 5) (pcN := 33) jI_379_32 rfl ?_
  refine jT_xisub (x := 5) (y := 5) (z := 0) (pcN := 34) jI_379_33 rfl (by decide) rfl ?_
  refine jT_xicT (pcN := 3746) jI_379_34 rfl (by decide +kernel) rfl ?_
  refine jT_xiconst (k := 1) (pcN := 3747) jI_379_3746 rfl ?_
  exact jT_ret rfl (by decide) (by show 45 ≤ 49; decide) (by omega) (by omega) ⟨rfl, rfl⟩
set_option maxRecDepth 100000 in
theorem jL_3_5 {d : Nat} {x0 x1 x2 x3 x4 : Int} (h_x0 : (-2147483648) ≤ x0 ∧ x0 ≤ 2147483647) (h_x1 : 0 ≤ x1 ∧ x1 ≤ 7) (h_x2 : (-100) ≤ x2 ∧ x2 ≤ 100) (h_x3 : 25 ≤ x3 ∧ x3 ≤ 2147483647) (h_x4 : (-2147483648) ≤ x4 ∧ x4 ≤ 2147483647) : jT [x0, x1, x2, x3, x4] (d + 3) 379 30 551 [(5, (0, 0)), (4, (4, 3)), (3, (4, 2)), (2, (4, 1)), (1, (4, 0)), (0, (6, 0))] [] jpA_267 1 6 (fun k v hsN => k = 0 ∧ v = (0, 1)) := by
  refine jT_xaload_n (v := (4, 0)) (pcN := 552) jI_379_551 rfl rfl rfl ?_
  refine jT_xaload_n (v := (6, 0)) (pcN := 553) jI_379_552 rfl rfl rfl ?_
  refine jT_xiload (v := (0, 0)) (pcN := 555) jI_379_553 rfl rfl rfl ?_
  refine jT_xiconst (k := 1) (pcN := 556) jI_379_555 rfl ?_
  refine jT_xiadd (x := 0) (y := 1) (z := 1) (pcN := 557) jI_379_556 rfl (by decide) rfl ?_
  refine jT_adv 1 (pcN := 558) (LN := [(5, (0, 0)), (4, (4, 3)), (3, (4, 2)), (2, (4, 1)), (1, (4, 0)), (0, (6, 0))]) (stN := [(0, x1), (4, 0)]) (hsN := jpA_267) (c1 := 0) (s1 := 0) (c2 := 1) (s2 := 6) (by exact rfl) ?_ (by omega) (by omega)
  refine jT_xaload_n (v := (6, 0)) (pcN := 559) jI_379_558 rfl rfl rfl ?_
  refine jT_xiload (v := (0, 0)) (pcN := 561) jI_379_559 rfl rfl rfl ?_
  refine jT_xiconst (k := 2) (pcN := 562) jI_379_561 rfl ?_
  refine jT_xiadd (x := 0) (y := 2) (z := 2) (pcN := 563) jI_379_562 rfl (by decide) rfl ?_
  refine jT_adv 1 (pcN := 564) (LN := [(5, (0, 0)), (4, (4, 3)), (3, (4, 2)), (2, (4, 1)), (1, (4, 0)), (0, (6, 0))]) (stN := [(0, x2), (0, x1), (4, 0)]) (hsN := jpA_267) (c1 := 0) (s1 := 0) (c2 := 1) (s2 := 6) (by exact rfl) ?_ (by omega) (by omega)
  refine jT_xaload_n (v := (6, 0)) (pcN := 565) jI_379_564 rfl rfl rfl ?_
  refine jT_xiload (v := (0, 0)) (pcN := 567) jI_379_565 rfl rfl rfl ?_
  refine jT_xiconst (k := 3) (pcN := 568) jI_379_567 rfl ?_
  refine jT_xiadd (x := 0) (y := 3) (z := 3) (pcN := 569) jI_379_568 rfl (by decide) rfl ?_
  refine jT_adv 1 (pcN := 570) (LN := [(5, (0, 0)), (4, (4, 3)), (3, (4, 2)), (2, (4, 1)), (1, (4, 0)), (0, (6, 0))]) (stN := [(0, x3), (0, x2), (0, x1), (4, 0)]) (hsN := jpA_267) (c1 := 0) (s1 := 0) (c2 := 1) (s2 := 6) (by exact rfl) ?_ (by omega) (by omega)
  refine jT_xaload_n (v := (4, 2)) (pcN := 571) jI_379_570 rfl rfl rfl ?_
  refine jT_fR [0, 2, 4, 5, 6, 7, 8, 9, 10, 11, 12, 13, 14] 30 (y := 329) (pcN := 574) (dC := 2) (bc1 := 1) (bc2 := 6) (c1 := 0) (c2 := 0) (as := [(4, 0), (0, x1), (0, x2), (0, x3), (4, 2)]) (asC := [(4, 0), (0, x1), (0, x2), (0, x3), (4, 1)]) (LN := [(5, (0, 0)), (4, (4, 3)), (3, (4, 2)), (2, (4, 1)), (1, (4, 0)), (0, (6, 0))]) (stN := []) (hsC := jpA_15) (v := (0, 2)) (st2 := [(0, 2)]) (jA_329_132 (d := 0) (by omega) (by omega) (by omega)) (by rfl) (by rfl) (by decide +kernel) (by rfl) (by rfl) (by omega) (by omega) (by omega) (by omega) rfl ?_
  refine jT_xistore (v := (0, 2)) (LN := [(6, (0, 2)), (5, (0, 0)), (4, (4, 3)), (3, (4, 2)), (2, (4, 1)), (1, (4, 0)), (0, (6, 0))]) (pcN := 576) jI_379_574 rfl rfl rfl rfl ?_
  refine jT_xaload_n (v := (4, 1)) (pcN := 577) jI_379_576 rfl rfl rfl ?_
  refine jT_xaload_n (v := (6, 0)) (pcN := 578) jI_379_577 rfl rfl rfl ?_
  refine jT_xiload (v := (0, 0)) (pcN := 580) jI_379_578 rfl rfl rfl ?_
  refine jT_xiconst (k := 1) (pcN := 581) jI_379_580 rfl ?_
  refine jT_xiadd (x := 0) (y := 1) (z := 1) (pcN := 582) jI_379_581 rfl (by decide) rfl ?_
  refine jT_adv 1 (pcN := 583) (LN := [(6, (0, 2)), (5, (0, 0)), (4, (4, 3)), (3, (4, 2)), (2, (4, 1)), (1, (4, 0)), (0, (6, 0))]) (stN := [(0, x1), (4, 1)]) (hsN := jpA_267) (c1 := 0) (s1 := 0) (c2 := 0) (s2 := 0) (by exact rfl) ?_ (by omega) (by omega)
  refine jT_xaload_n (v := (6, 0)) (pcN := 584) jI_379_583 rfl rfl rfl ?_
  refine jT_xiload (v := (0, 0)) (pcN := 586) jI_379_584 rfl rfl rfl ?_
  refine jT_xiconst (k := 2) (pcN := 587) jI_379_586 rfl ?_
  refine jT_xiadd (x := 0) (y := 2) (z := 2) (pcN := 588) jI_379_587 rfl (by decide) rfl ?_
  refine jT_adv 1 (pcN := 589) (LN := [(6, (0, 2)), (5, (0, 0)), (4, (4, 3)), (3, (4, 2)), (2, (4, 1)), (1, (4, 0)), (0, (6, 0))]) (stN := [(0, x2), (0, x1), (4, 1)]) (hsN := jpA_267) (c1 := 0) (s1 := 0) (c2 := 0) (s2 := 0) (by exact rfl) ?_ (by omega) (by omega)
  refine jT_xaload_n (v := (6, 0)) (pcN := 590) jI_379_589 rfl rfl rfl ?_
  refine jT_xiload (v := (0, 0)) (pcN := 592) jI_379_590 rfl rfl rfl ?_
  refine jT_xiconst (k := 3) (pcN := 593) jI_379_592 rfl ?_
  refine jT_xiadd (x := 0) (y := 3) (z := 3) (pcN := 594) jI_379_593 rfl (by decide) rfl ?_
  refine jT_adv 1 (pcN := 595) (LN := [(6, (0, 2)), (5, (0, 0)), (4, (4, 3)), (3, (4, 2)), (2, (4, 1)), (1, (4, 0)), (0, (6, 0))]) (stN := [(0, x3), (0, x2), (0, x1), (4, 1)]) (hsN := jpA_267) (c1 := 0) (s1 := 0) (c2 := 0) (s2 := 0) (by exact rfl) ?_ (by omega) (by omega)
  refine jT_fB [1, 15, 16, 17, 18, 19, 20, 21, 22, 23, 24, 25, 26, 27, 28, 29] 30 (y := 206) (pcN := 598) (dC := 2) (bc1 := 0) (bc2 := 0) (c1 := 0) (c2 := 0) (as := [(4, 1), (0, x1), (0, x2), (0, x3)]) (asC := [(4, 0), (0, x1), (0, x2), (0, x3)]) (LN := [(6, (0, 2)), (5, (0, 0)), (4, (4, 3)), (3, (4, 2)), (2, (4, 1)), (1, (4, 0)), (0, (6, 0))]) (stN := []) (hsC := jpA_22) (hsD := jpA_361) (v := (0, 0)) (st2 := [(0, 0)]) (hs2 := jpA_607) (jA_206_133 (d := 0) (by omega) (by omega) (by omega)) (by rfl) (by rfl) (by decide +kernel) (by rfl) (by rfl) (by omega) (by omega) (by omega) (by omega) rfl (by decide +kernel) ?_
  refine jT_xistore (v := (0, 0)) (LN := [(7, (0, 0)), (6, (0, 2)), (5, (0, 0)), (4, (4, 3)), (3, (4, 2)), (2, (4, 1)), (1, (4, 0)), (0, (6, 0))]) (pcN := 600) jI_379_598 rfl rfl rfl rfl ?_
  refine jT_xaload_n (v := (4, 1)) (pcN := 601) jI_379_600 rfl rfl rfl ?_
  refine jT_fR [1, 15, 16, 17, 18, 19, 20, 21, 22, 23, 24, 25, 26, 27, 28, 29] 30 (y := 186) (pcN := 604) (dC := 0) (bc1 := 0) (bc2 := 0) (c1 := 0) (c2 := 0) (as := [(4, 1)]) (asC := [(4, 0)]) (LN := [(7, (0, 0)), (6, (0, 2)), (5, (0, 0)), (4, (4, 3)), (3, (4, 2)), (2, (4, 1)), (1, (4, 0)), (0, (6, 0))]) (stN := []) (hsC := jpA_361) (v := (0, 2)) (st2 := [(0, 2)]) (jA_186_101 (d := 0)) (by rfl) (by rfl) (by decide +kernel) (by rfl) (by rfl) (by omega) (by omega) (by omega) (by omega) rfl ?_
  refine jT_xiload (v := (0, 2)) (pcN := 606) jI_379_604 rfl rfl rfl ?_
  refine jT_xicT (pcN := 611) jI_379_606 rfl (by decide +kernel) rfl ?_
  refine jT_xiload (v := (0, 2)) (pcN := 613) jI_379_611 rfl rfl rfl ?_
  refine jT_xifT (pcN := 628) jI_379_613 rfl (by decide +kernel) rfl ?_
  refine jT_xgoto (pcN := 3740) jI_379_628 rfl ?_
  refine jT_xiinc (x := 0) (z := 5) (LN := [(5, (0, 5)), (7, (0, 0)), (6, (0, 2)), (4, (4, 3)), (3, (4, 2)), (2, (4, 1)), (1, (4, 0)), (0, (6, 0))]) (pcN := 3743) jI_379_3740 rfl rfl (by decide) rfl rfl ?_
  refine jT_xgoto (pcN := 28) jI_379_3743 rfl ?_
  refine jT_xiload (v := (0, 5)) (pcN := 30) jI_379_28 rfl rfl rfl ?_
  refine jT_xaload_n (v := (6, 0)) (pcN := 31) jI_379_30 rfl rfl rfl ?_
  refine jT_adv 1 (pcN := 32) (LN := [(5, (0, 5)), (7, (0, 0)), (6, (0, 2)), (4, (4, 3)), (3, (4, 2)), (2, (4, 1)), (1, (4, 0)), (0, (6, 0))]) (stN := [(0, 5), (0, 5)]) (hsN := jpA_607) (c1 := 0) (s1 := 0) (c2 := 0) (s2 := 0) (by exact rfl) ?_ (by omega) (by omega)
  refine jT_xiconst (k := 5) (pcN := 33) jI_379_32 rfl ?_
  refine jT_xisub (x := 5) (y := 5) (z := 0) (pcN := 34) jI_379_33 rfl (by decide) rfl ?_
  refine jT_xicT (pcN := 3746) jI_379_34 rfl (by decide +kernel) rfl ?_
  refine jT_xiconst (k := 1) (pcN := 3747) jI_379_3746 rfl ?_
  exact jT_ret rfl (by decide) (by show 30 ≤ 30; decide) (by omega) (by omega) ⟨rfl, rfl⟩
set_option maxRecDepth 100000 in
theorem jL_3_6 {d : Nat} {x0 x1 x2 x3 x4 : Int} (h_x0 : (-2147483648) ≤ x0 ∧ x0 ≤ 2147483647) (h_x1 : 0 ≤ x1 ∧ x1 ≤ 7) (h_x2 : 101 ≤ x2 ∧ x2 ≤ 2147483647) (h_x3 : (-2147483648) ≤ x3 ∧ x3 ≤ 2147483647) (h_x4 : (-2147483648) ≤ x4 ∧ x4 ≤ 2147483647) : jT [x0, x1, x2, x3, x4] (d + 3) 379 30 551 [(5, (0, 0)), (4, (4, 3)), (3, (4, 2)), (2, (4, 1)), (1, (4, 0)), (0, (6, 0))] [] jpA_267 1 6 (fun k v hsN => k = 0 ∧ v = (0, 1)) := by
  refine jT_xaload_n (v := (4, 0)) (pcN := 552) jI_379_551 rfl rfl rfl ?_
  refine jT_xaload_n (v := (6, 0)) (pcN := 553) jI_379_552 rfl rfl rfl ?_
  refine jT_xiload (v := (0, 0)) (pcN := 555) jI_379_553 rfl rfl rfl ?_
  refine jT_xiconst (k := 1) (pcN := 556) jI_379_555 rfl ?_
  refine jT_xiadd (x := 0) (y := 1) (z := 1) (pcN := 557) jI_379_556 rfl (by decide) rfl ?_
  refine jT_adv 1 (pcN := 558) (LN := [(5, (0, 0)), (4, (4, 3)), (3, (4, 2)), (2, (4, 1)), (1, (4, 0)), (0, (6, 0))]) (stN := [(0, x1), (4, 0)]) (hsN := jpA_267) (c1 := 0) (s1 := 0) (c2 := 1) (s2 := 6) (by exact rfl) ?_ (by omega) (by omega)
  refine jT_xaload_n (v := (6, 0)) (pcN := 559) jI_379_558 rfl rfl rfl ?_
  refine jT_xiload (v := (0, 0)) (pcN := 561) jI_379_559 rfl rfl rfl ?_
  refine jT_xiconst (k := 2) (pcN := 562) jI_379_561 rfl ?_
  refine jT_xiadd (x := 0) (y := 2) (z := 2) (pcN := 563) jI_379_562 rfl (by decide) rfl ?_
  refine jT_adv 1 (pcN := 564) (LN := [(5, (0, 0)), (4, (4, 3)), (3, (4, 2)), (2, (4, 1)), (1, (4, 0)), (0, (6, 0))]) (stN := [(0, x2), (0, x1), (4, 0)]) (hsN := jpA_267) (c1 := 0) (s1 := 0) (c2 := 1) (s2 := 6) (by exact rfl) ?_ (by omega) (by omega)
  refine jT_xaload_n (v := (6, 0)) (pcN := 565) jI_379_564 rfl rfl rfl ?_
  refine jT_xiload (v := (0, 0)) (pcN := 567) jI_379_565 rfl rfl rfl ?_
  refine jT_xiconst (k := 3) (pcN := 568) jI_379_567 rfl ?_
  refine jT_xiadd (x := 0) (y := 3) (z := 3) (pcN := 569) jI_379_568 rfl (by decide) rfl ?_
  refine jT_adv 1 (pcN := 570) (LN := [(5, (0, 0)), (4, (4, 3)), (3, (4, 2)), (2, (4, 1)), (1, (4, 0)), (0, (6, 0))]) (stN := [(0, x3), (0, x2), (0, x1), (4, 0)]) (hsN := jpA_267) (c1 := 0) (s1 := 0) (c2 := 1) (s2 := 6) (by exact rfl) ?_ (by omega) (by omega)
  refine jT_xaload_n (v := (4, 2)) (pcN := 571) jI_379_570 rfl rfl rfl ?_
  refine jT_fR [0, 2, 4, 5, 6, 7, 8, 9, 10, 11, 12, 13, 14] 30 (y := 329) (pcN := 574) (dC := 2) (bc1 := 1) (bc2 := 6) (c1 := 0) (c2 := 0) (as := [(4, 0), (0, x1), (0, x2), (0, x3), (4, 2)]) (asC := [(4, 0), (0, x1), (0, x2), (0, x3), (4, 1)]) (LN := [(5, (0, 0)), (4, (4, 3)), (3, (4, 2)), (2, (4, 1)), (1, (4, 0)), (0, (6, 0))]) (stN := []) (hsC := jpA_15) (v := (0, 2)) (st2 := [(0, 2)]) (jA_329_136 (d := 0) (by omega) (by omega) (by omega)) (by rfl) (by rfl) (by decide +kernel) (by rfl) (by rfl) (by omega) (by omega) (by omega) (by omega) rfl ?_
  refine jT_xistore (v := (0, 2)) (LN := [(6, (0, 2)), (5, (0, 0)), (4, (4, 3)), (3, (4, 2)), (2, (4, 1)), (1, (4, 0)), (0, (6, 0))]) (pcN := 576) jI_379_574 rfl rfl rfl rfl ?_
  refine jT_xaload_n (v := (4, 1)) (pcN := 577) jI_379_576 rfl rfl rfl ?_
  refine jT_xaload_n (v := (6, 0)) (pcN := 578) jI_379_577 rfl rfl rfl ?_
  refine jT_xiload (v := (0, 0)) (pcN := 580) jI_379_578 rfl rfl rfl ?_
  refine jT_xiconst (k := 1) (pcN := 581) jI_379_580 rfl ?_
  refine jT_xiadd (x := 0) (y := 1) (z := 1) (pcN := 582) jI_379_581 rfl (by decide) rfl ?_
  refine jT_adv 1 (pcN := 583) (LN := [(6, (0, 2)), (5, (0, 0)), (4, (4, 3)), (3, (4, 2)), (2, (4, 1)), (1, (4, 0)), (0, (6, 0))]) (stN := [(0, x1), (4, 1)]) (hsN := jpA_267) (c1 := 0) (s1 := 0) (c2 := 0) (s2 := 0) (by exact rfl) ?_ (by omega) (by omega)
  refine jT_xaload_n (v := (6, 0)) (pcN := 584) jI_379_583 rfl rfl rfl ?_
  refine jT_xiload (v := (0, 0)) (pcN := 586) jI_379_584 rfl rfl rfl ?_
  refine jT_xiconst (k := 2) (pcN := 587) jI_379_586 rfl ?_
  refine jT_xiadd (x := 0) (y := 2) (z := 2) (pcN := 588) jI_379_587 rfl (by decide) rfl ?_
  refine jT_adv 1 (pcN := 589) (LN := [(6, (0, 2)), (5, (0, 0)), (4, (4, 3)), (3, (4, 2)), (2, (4, 1)), (1, (4, 0)), (0, (6, 0))]) (stN := [(0, x2), (0, x1), (4, 1)]) (hsN := jpA_267) (c1 := 0) (s1 := 0) (c2 := 0) (s2 := 0) (by exact rfl) ?_ (by omega) (by omega)
  refine jT_xaload_n (v := (6, 0)) (pcN := 590) jI_379_589 rfl rfl rfl ?_
  refine jT_xiload (v := (0, 0)) (pcN := 592) jI_379_590 rfl rfl rfl ?_
  refine jT_xiconst (k := 3) (pcN := 593) jI_379_592 rfl ?_
  refine jT_xiadd (x := 0) (y := 3) (z := 3) (pcN := 594) jI_379_593 rfl (by decide) rfl ?_
  refine jT_adv 1 (pcN := 595) (LN := [(6, (0, 2)), (5, (0, 0)), (4, (4, 3)), (3, (4, 2)), (2, (4, 1)), (1, (4, 0)), (0, (6, 0))]) (stN := [(0, x3), (0, x2), (0, x1), (4, 1)]) (hsN := jpA_267) (c1 := 0) (s1 := 0) (c2 := 0) (s2 := 0) (by exact rfl) ?_ (by omega) (by omega)
  refine jT_fB [1, 15, 16, 17, 18, 19, 20, 21, 22, 23, 24, 25, 26, 27, 28, 29] 30 (y := 206) (pcN := 598) (dC := 2) (bc1 := 0) (bc2 := 0) (c1 := 0) (c2 := 0) (as := [(4, 1), (0, x1), (0, x2), (0, x3)]) (asC := [(4, 0), (0, x1), (0, x2), (0, x3)]) (LN := [(6, (0, 2)), (5, (0, 0)), (4, (4, 3)), (3, (4, 2)), (2, (4, 1)), (1, (4, 0)), (0, (6, 0))]) (stN := []) (hsC := jpA_22) (hsD := jpA_361) (v := (0, 0)) (st2 := [(0, 0)]) (hs2 := jpA_607) (jA_206_137 (d := 0) (by omega) (by omega) (by omega)) (by rfl) (by rfl) (by decide +kernel) (by rfl) (by rfl) (by omega) (by omega) (by omega) (by omega) rfl (by decide +kernel) ?_
  refine jT_xistore (v := (0, 0)) (LN := [(7, (0, 0)), (6, (0, 2)), (5, (0, 0)), (4, (4, 3)), (3, (4, 2)), (2, (4, 1)), (1, (4, 0)), (0, (6, 0))]) (pcN := 600) jI_379_598 rfl rfl rfl rfl ?_
  refine jT_xaload_n (v := (4, 1)) (pcN := 601) jI_379_600 rfl rfl rfl ?_
  refine jT_fR [1, 15, 16, 17, 18, 19, 20, 21, 22, 23, 24, 25, 26, 27, 28, 29] 30 (y := 186) (pcN := 604) (dC := 0) (bc1 := 0) (bc2 := 0) (c1 := 0) (c2 := 0) (as := [(4, 1)]) (asC := [(4, 0)]) (LN := [(7, (0, 0)), (6, (0, 2)), (5, (0, 0)), (4, (4, 3)), (3, (4, 2)), (2, (4, 1)), (1, (4, 0)), (0, (6, 0))]) (stN := []) (hsC := jpA_361) (v := (0, 2)) (st2 := [(0, 2)]) (jA_186_101 (d := 0)) (by rfl) (by rfl) (by decide +kernel) (by rfl) (by rfl) (by omega) (by omega) (by omega) (by omega) rfl ?_
  refine jT_xiload (v := (0, 2)) (pcN := 606) jI_379_604 rfl rfl rfl ?_
  refine jT_xicT (pcN := 611) jI_379_606 rfl (by decide +kernel) rfl ?_
  refine jT_xiload (v := (0, 2)) (pcN := 613) jI_379_611 rfl rfl rfl ?_
  refine jT_xifT (pcN := 628) jI_379_613 rfl (by decide +kernel) rfl ?_
  refine jT_xgoto (pcN := 3740) jI_379_628 rfl ?_
  refine jT_xiinc (x := 0) (z := 5) (LN := [(5, (0, 5)), (7, (0, 0)), (6, (0, 2)), (4, (4, 3)), (3, (4, 2)), (2, (4, 1)), (1, (4, 0)), (0, (6, 0))]) (pcN := 3743) jI_379_3740 rfl rfl (by decide) rfl rfl ?_
  refine jT_xgoto (pcN := 28) jI_379_3743 rfl ?_
  refine jT_xiload (v := (0, 5)) (pcN := 30) jI_379_28 rfl rfl rfl ?_
  refine jT_xaload_n (v := (6, 0)) (pcN := 31) jI_379_30 rfl rfl rfl ?_
  refine jT_adv 1 (pcN := 32) (LN := [(5, (0, 5)), (7, (0, 0)), (6, (0, 2)), (4, (4, 3)), (3, (4, 2)), (2, (4, 1)), (1, (4, 0)), (0, (6, 0))]) (stN := [(0, 5), (0, 5)]) (hsN := jpA_607) (c1 := 0) (s1 := 0) (c2 := 0) (s2 := 0) (by exact rfl) ?_ (by omega) (by omega)
  refine jT_xiconst (k := 5) (pcN := 33) jI_379_32 rfl ?_
  refine jT_xisub (x := 5) (y := 5) (z := 0) (pcN := 34) jI_379_33 rfl (by decide) rfl ?_
  refine jT_xicT (pcN := 3746) jI_379_34 rfl (by decide +kernel) rfl ?_
  refine jT_xiconst (k := 1) (pcN := 3747) jI_379_3746 rfl ?_
  exact jT_ret rfl (by decide) (by show 30 ≤ 30; decide) (by omega) (by omega) ⟨rfl, rfl⟩
set_option maxRecDepth 100000 in
theorem jL_3_7 {d : Nat} {x0 x1 x2 x3 x4 : Int} (h_x0 : (-2147483648) ≤ x0 ∧ x0 ≤ 2147483647) (h_x1 : 8 ≤ x1 ∧ x1 ≤ 2147483647) (h_x2 : (-2147483648) ≤ x2 ∧ x2 ≤ 2147483647) (h_x3 : (-2147483648) ≤ x3 ∧ x3 ≤ 2147483647) (h_x4 : (-2147483648) ≤ x4 ∧ x4 ≤ 2147483647) : jT [x0, x1, x2, x3, x4] (d + 3) 379 30 551 [(5, (0, 0)), (4, (4, 3)), (3, (4, 2)), (2, (4, 1)), (1, (4, 0)), (0, (6, 0))] [] jpA_267 1 6 (fun k v hsN => k = 0 ∧ v = (0, 1)) := by
  refine jT_xaload_n (v := (4, 0)) (pcN := 552) jI_379_551 rfl rfl rfl ?_
  refine jT_xaload_n (v := (6, 0)) (pcN := 553) jI_379_552 rfl rfl rfl ?_
  refine jT_xiload (v := (0, 0)) (pcN := 555) jI_379_553 rfl rfl rfl ?_
  refine jT_xiconst (k := 1) (pcN := 556) jI_379_555 rfl ?_
  refine jT_xiadd (x := 0) (y := 1) (z := 1) (pcN := 557) jI_379_556 rfl (by decide) rfl ?_
  refine jT_adv 1 (pcN := 558) (LN := [(5, (0, 0)), (4, (4, 3)), (3, (4, 2)), (2, (4, 1)), (1, (4, 0)), (0, (6, 0))]) (stN := [(0, x1), (4, 0)]) (hsN := jpA_267) (c1 := 0) (s1 := 0) (c2 := 1) (s2 := 6) (by exact rfl) ?_ (by omega) (by omega)
  refine jT_xaload_n (v := (6, 0)) (pcN := 559) jI_379_558 rfl rfl rfl ?_
  refine jT_xiload (v := (0, 0)) (pcN := 561) jI_379_559 rfl rfl rfl ?_
  refine jT_xiconst (k := 2) (pcN := 562) jI_379_561 rfl ?_
  refine jT_xiadd (x := 0) (y := 2) (z := 2) (pcN := 563) jI_379_562 rfl (by decide) rfl ?_
  refine jT_adv 1 (pcN := 564) (LN := [(5, (0, 0)), (4, (4, 3)), (3, (4, 2)), (2, (4, 1)), (1, (4, 0)), (0, (6, 0))]) (stN := [(0, x2), (0, x1), (4, 0)]) (hsN := jpA_267) (c1 := 0) (s1 := 0) (c2 := 1) (s2 := 6) (by exact rfl) ?_ (by omega) (by omega)
  refine jT_xaload_n (v := (6, 0)) (pcN := 565) jI_379_564 rfl rfl rfl ?_
  refine jT_xiload (v := (0, 0)) (pcN := 567) jI_379_565 rfl rfl rfl ?_
  refine jT_xiconst (k := 3) (pcN := 568) jI_379_567 rfl ?_
  refine jT_xiadd (x := 0) (y := 3) (z := 3) (pcN := 569) jI_379_568 rfl (by decide) rfl ?_
  refine jT_adv 1 (pcN := 570) (LN := [(5, (0, 0)), (4, (4, 3)), (3, (4, 2)), (2, (4, 1)), (1, (4, 0)), (0, (6, 0))]) (stN := [(0, x3), (0, x2), (0, x1), (4, 0)]) (hsN := jpA_267) (c1 := 0) (s1 := 0) (c2 := 1) (s2 := 6) (by exact rfl) ?_ (by omega) (by omega)
  refine jT_xaload_n (v := (4, 2)) (pcN := 571) jI_379_570 rfl rfl rfl ?_
  refine jT_fR [0, 2, 4, 5, 6, 7, 8, 9, 10, 11, 12, 13, 14] 30 (y := 329) (pcN := 574) (dC := 2) (bc1 := 1) (bc2 := 6) (c1 := 0) (c2 := 0) (as := [(4, 0), (0, x1), (0, x2), (0, x3), (4, 2)]) (asC := [(4, 0), (0, x1), (0, x2), (0, x3), (4, 1)]) (LN := [(5, (0, 0)), (4, (4, 3)), (3, (4, 2)), (2, (4, 1)), (1, (4, 0)), (0, (6, 0))]) (stN := []) (hsC := jpA_15) (v := (0, 1)) (st2 := [(0, 1)]) (jA_329_139 (d := 0) (by omega) (by omega) (by omega)) (by rfl) (by rfl) (by decide +kernel) (by rfl) (by rfl) (by omega) (by omega) (by omega) (by omega) rfl ?_
  refine jT_xistore (v := (0, 1)) (LN := [(6, (0, 1)), (5, (0, 0)), (4, (4, 3)), (3, (4, 2)), (2, (4, 1)), (1, (4, 0)), (0, (6, 0))]) (pcN := 576) jI_379_574 rfl rfl rfl rfl ?_
  refine jT_xaload_n (v := (4, 1)) (pcN := 577) jI_379_576 rfl rfl rfl ?_
  refine jT_xaload_n (v := (6, 0)) (pcN := 578) jI_379_577 rfl rfl rfl ?_
  refine jT_xiload (v := (0, 0)) (pcN := 580) jI_379_578 rfl rfl rfl ?_
  refine jT_xiconst (k := 1) (pcN := 581) jI_379_580 rfl ?_
  refine jT_xiadd (x := 0) (y := 1) (z := 1) (pcN := 582) jI_379_581 rfl (by decide) rfl ?_
  refine jT_adv 1 (pcN := 583) (LN := [(6, (0, 1)), (5, (0, 0)), (4, (4, 3)), (3, (4, 2)), (2, (4, 1)), (1, (4, 0)), (0, (6, 0))]) (stN := [(0, x1), (4, 1)]) (hsN := jpA_267) (c1 := 0) (s1 := 0) (c2 := 0) (s2 := 0) (by exact rfl) ?_ (by omega) (by omega)
  refine jT_xaload_n (v := (6, 0)) (pcN := 584) jI_379_583 rfl rfl rfl ?_
  refine jT_xiload (v := (0, 0)) (pcN := 586) jI_379_584 rfl rfl rfl ?_
  refine jT_xiconst (k := 2) (pcN := 587) jI_379_586 rfl ?_
  refine jT_xiadd (x := 0) (y := 2) (z := 2) (pcN := 588) jI_379_587 rfl (by decide) rfl ?_
  refine jT_adv 1 (pcN := 589) (LN := [(6, (0, 1)), (5, (0, 0)), (4, (4, 3)), (3, (4, 2)), (2, (4, 1)), (1, (4, 0)), (0, (6, 0))]) (stN := [(0, x2), (0, x1), (4, 1)]) (hsN := jpA_267) (c1 := 0) (s1 := 0) (c2 := 0) (s2 := 0) (by exact rfl) ?_ (by omega) (by omega)
  refine jT_xaload_n (v := (6, 0)) (pcN := 590) jI_379_589 rfl rfl rfl ?_
  refine jT_xiload (v := (0, 0)) (pcN := 592) jI_379_590 rfl rfl rfl ?_
  refine jT_xiconst (k := 3) (pcN := 593) jI_379_592 rfl ?_
  refine jT_xiadd (x := 0) (y := 3) (z := 3) (pcN := 594) jI_379_593 rfl (by decide) rfl ?_
  refine jT_adv 1 (pcN := 595) (LN := [(6, (0, 1)), (5, (0, 0)), (4, (4, 3)), (3, (4, 2)), (2, (4, 1)), (1, (4, 0)), (0, (6, 0))]) (stN := [(0, x3), (0, x2), (0, x1), (4, 1)]) (hsN := jpA_267) (c1 := 0) (s1 := 0) (c2 := 0) (s2 := 0) (by exact rfl) ?_ (by omega) (by omega)
  refine jT_fB [1, 15, 16, 17, 18, 19, 20, 21, 22, 23, 24, 25, 26, 27, 28, 29] 30 (y := 206) (pcN := 598) (dC := 2) (bc1 := 0) (bc2 := 0) (c1 := 0) (c2 := 0) (as := [(4, 1), (0, x1), (0, x2), (0, x3)]) (asC := [(4, 0), (0, x1), (0, x2), (0, x3)]) (LN := [(6, (0, 1)), (5, (0, 0)), (4, (4, 3)), (3, (4, 2)), (2, (4, 1)), (1, (4, 0)), (0, (6, 0))]) (stN := []) (hsC := jpA_22) (hsD := jpA_20) (v := (0, 0)) (st2 := [(0, 0)]) (hs2 := jpA_306) (jA_206_140 (d := 0) (by omega) (by omega) (by omega)) (by rfl) (by rfl) (by decide +kernel) (by rfl) (by rfl) (by omega) (by omega) (by omega) (by omega) rfl (by decide +kernel) ?_
  refine jT_xistore (v := (0, 0)) (LN := [(7, (0, 0)), (6, (0, 1)), (5, (0, 0)), (4, (4, 3)), (3, (4, 2)), (2, (4, 1)), (1, (4, 0)), (0, (6, 0))]) (pcN := 600) jI_379_598 rfl rfl rfl rfl ?_
  refine jT_xaload_n (v := (4, 1)) (pcN := 601) jI_379_600 rfl rfl rfl ?_
  refine jT_fR [1, 15, 16, 17, 18, 19, 20, 21, 22, 23, 24, 25, 26, 27, 28, 29] 30 (y := 186) (pcN := 604) (dC := 0) (bc1 := 0) (bc2 := 0) (c1 := 0) (c2 := 0) (as := [(4, 1)]) (asC := [(4, 0)]) (LN := [(7, (0, 0)), (6, (0, 1)), (5, (0, 0)), (4, (4, 3)), (3, (4, 2)), (2, (4, 1)), (1, (4, 0)), (0, (6, 0))]) (stN := []) (hsC := jpA_20) (v := (0, 1)) (st2 := [(0, 1)]) (jA_186_8 (d := 0)) (by rfl) (by rfl) (by decide +kernel) (by rfl) (by rfl) (by omega) (by omega) (by omega) (by omega) rfl ?_
  refine jT_xiload (v := (0, 1)) (pcN := 606) jI_379_604 rfl rfl rfl ?_
  refine jT_xicT (pcN := 611) jI_379_606 rfl (by decide +kernel) rfl ?_
  refine jT_xiload (v := (0, 1)) (pcN := 613) jI_379_611 rfl rfl rfl ?_
  refine jT_xifT (pcN := 628) jI_379_613 rfl (by decide +kernel) rfl ?_
  refine jT_xgoto (pcN := 3740) jI_379_628 rfl ?_
  refine jT_xiinc (x := 0) (z := 5) (LN := [(5, (0, 5)), (7, (0, 0)), (6, (0, 1)), (4, (4, 3)), (3, (4, 2)), (2, (4, 1)), (1, (4, 0)), (0, (6, 0))]) (pcN := 3743) jI_379_3740 rfl rfl (by decide) rfl rfl ?_
  refine jT_xgoto (pcN := 28) jI_379_3743 rfl ?_
  refine jT_xiload (v := (0, 5)) (pcN := 30) jI_379_28 rfl rfl rfl ?_
  refine jT_xaload_n (v := (6, 0)) (pcN := 31) jI_379_30 rfl rfl rfl ?_
  refine jT_adv 1 (pcN := 32) (LN := [(5, (0, 5)), (7, (0, 0)), (6, (0, 1)), (4, (4, 3)), (3, (4, 2)), (2, (4, 1)), (1, (4, 0)), (0, (6, 0))]) (stN := [(0, 5), (0, 5)]) (hsN := jpA_306) (c1 := 0) (s1 := 0) (c2 := 0) (s2 := 0) (by exact rfl) ?_ (by omega) (by omega)
  refine jT_xiconst (k := 5) (pcN := 33) jI_379_32 rfl ?_
  refine jT_xisub (x := 5) (y := 5) (z := 0) (pcN := 34) jI_379_33 rfl (by decide) rfl ?_
  refine jT_xicT (pcN := 3746) jI_379_34 rfl (by decide +kernel) rfl ?_
  refine jT_xiconst (k := 1) (pcN := 3747) jI_379_3746 rfl ?_
  exact jT_ret rfl (by decide) (by show 30 ≤ 30; decide) (by omega) (by omega) ⟨rfl, rfl⟩
theorem jI_121_0 : jmI (jm 121) 0 = (.aload_n 0, 1) := by rfl
theorem jI_121_1 : jmI (jm 121) 1 = (.iload_n 1, 1) := by rfl
theorem jI_121_2 : jmI (jm 121) 2 = (.bipush 8, 2) := by rfl
theorem jA_121_141 {xs : List Int} {d : Nat} {x1 : Int} (h_x1 : (-2147483648) ≤ x1 ∧ x1 ≤ (-1)) : jT xs (d + 1) 121 12 0 [(0, (4, 0)), (1, (0, x1))] [] jpA_6 1 6 (fun k v hsN => k = 1 ∧ v = (0, 0) ∧ hsN = jpA_6 ++ []) := by
  refine jT_xaload_n (v := (4, 0)) (pcN := 1) jI_121_0 rfl rfl rfl ?_
  refine jT_xiload_n (v := (0, x1)) (pcN := 2) jI_121_1 rfl rfl rfl ?_
  refine jT_xbipush (k := 8) (pcN := 4) jI_121_2 (by decide) rfl ?_
  exact jT_fX [0] 12 (y := 115) (pcN := 7) (dC := 0) (bc1 := 1) (bc2 := 6) (as := [(4, 0), (0, x1), (0, 8)]) (asC := [(4, 0), (0, x1), (0, 8)]) (LN := [(0, (4, 0)), (1, (0, x1))]) (stN := []) (hsC := [jgh]) (e := 0) (jA_115_1 (d := 0) (by omega)) (by rfl) (by rfl) (by decide +kernel) (by rfl) (by rfl) (by omega) (by omega) (by omega) (by omega) ⟨rfl, ⟨rfl, rfl, rfl⟩⟩
theorem jI_330_0 : jmI (jm 330) 0 = (.aload_n 2, 1) := by rfl
theorem jI_330_1 : jmI (jm 330) 1 = (.iconst 0, 1) := by rfl
theorem jI_330_2 : jmI (jm 330) 2 = (.aload_n 0, 1) := by rfl
theorem jI_330_3 : jmI (jm 330) 3 = (.iload_n 1, 1) := by rfl
theorem jA_330_142 {xs : List Int} {d : Nat} {x1 : Int} (h_x1 : (-2147483648) ≤ x1 ∧ x1 ≤ (-1)) : jT xs (d + 2) 330 13 0 [(0, (4, 0)), (1, (0, x1)), (2, (4, 1))] [] jpA_15 1 6 (fun k v hsN => k = 0 ∧ v = (0, 1) ∧ hsN = jpA_15 ++ []) := by
  refine jT_xaload_n (v := (4, 1)) (pcN := 1) jI_330_0 rfl rfl rfl ?_
  refine jT_xiconst (k := 0) (pcN := 2) jI_330_1 rfl ?_
  refine jT_xaload_n (v := (4, 0)) (pcN := 3) jI_330_2 rfl rfl rfl ?_
  refine jT_xiload_n (v := (0, x1)) (pcN := 4) jI_330_3 rfl rfl rfl ?_
  exact jT_fX [0, 2, 3, 4, 5, 6, 7, 8, 9, 10, 11, 12] 13 (y := 121) (pcN := 7) (dC := 1) (bc1 := 1) (bc2 := 6) (as := [(4, 0), (0, x1)]) (asC := [(4, 0), (0, x1)]) (LN := [(0, (4, 0)), (1, (0, x1)), (2, (4, 1))]) (stN := [(0, 0), (4, 1)]) (hsC := jpA_6) (e := 0) (jA_121_141 (d := 0) (by omega)) (by rfl) (by rfl) (by decide +kernel) (by rfl) (by rfl) (by omega) (by omega) (by omega) (by omega) (show _ from ⟨rfl, rfl, rfl⟩)
theorem jI_208_0 : jmI (jm 208) 0 = (.aload_n 0, 1) := by rfl
theorem jI_208_1 : jmI (jm 208) 1 = (.iload_n 1, 1) := by rfl
theorem jI_208_8 : jmI (jm 208) 8 = (.ifCond .eq 5, 3) := by rfl
theorem jI_208_11 : jmI (jm 208) 11 = (.iconst 0, 1) := by rfl
theorem jA_208_143 {xs : List Int} {d : Nat} {x1 : Int} (h_x1 : (-2147483648) ≤ x1 ∧ x1 ≤ (-1)) : jT xs (d + 2) 208 16 0 [(0, (4, 0)), (1, (0, x1))] [] jpA_22 0 0 (fun k v hsN => k = 0 ∧ v = (0, 0) ∧ hsN = jpA_20) := by
  refine jT_xaload_n (v := (4, 0)) (pcN := 1) jI_208_0 rfl rfl rfl ?_
  refine jT_xiload_n (v := (0, x1)) (pcN := 2) jI_208_1 rfl rfl rfl ?_
  refine jT_fR [] 16 (y := 188) (pcN := 5) (dC := 1) (bc1 := 0) (bc2 := 0) (c1 := 0) (c2 := 0) (as := [(0, x1)]) (asC := [(0, x1)]) (LN := [(0, (4, 0)), (1, (0, x1))]) (stN := [(4, 0)]) (hsC := []) (v := (0, 0)) (st2 := [(0, 0), (4, 0)]) (jA_188_4 (d := 0) (by omega)) (by rfl) (by rfl) (by decide +kernel) (by rfl) (by rfl) (by omega) (by omega) (by omega) (by omega) rfl ?_
  refine jT_fB [0, 1, 2, 3, 4, 5, 6, 7, 8, 9, 10, 11, 12, 13, 14, 15] 16 (y := 190) (pcN := 8) (dC := 1) (bc1 := 0) (bc2 := 0) (c1 := 0) (c2 := 0) (as := [(4, 0), (0, 0)]) (asC := [(4, 0), (0, 0)]) (LN := [(0, (4, 0)), (1, (0, x1))]) (stN := []) (hsC := jpA_22) (hsD := jpA_20) (v := (0, 1)) (st2 := [(0, 1)]) (hs2 := jpA_20) (jA_190_6 (d := 0)) (by rfl) (by rfl) (by decide +kernel) (by rfl) (by rfl) (by omega) (by omega) (by omega) (by omega) rfl (by decide +kernel) ?_
  refine jT_xifF (t := 13) (pcN := 11) jI_208_8 rfl (by decide +kernel) rfl rfl ?_
  refine jT_xiconst (k := 0) (pcN := 12) jI_208_11 rfl ?_
  exact jT_ret rfl (by decide) (by show 16 ≤ 16; decide) (by omega) (by omega) ⟨rfl, rfl, rfl⟩
theorem jA_39_144 {xs : List Int} {d : Nat} : jT xs d 39 2 0 [(0, (4, 0)), (1, (4, 1))] [] [jgh, (101, [], [0, 0, 0, 0, 0, 0])] 0 0 (fun k v hsN => k = 0 ∧ v = (1, 0) ∧ hsN = [jgh, (101, [], [0, 0, 0, 0, 0, 0])] ++ []) := by
  refine jT_advK 68 (pcN := 29) (LN := [(4, (0, 6)), (2, (1, 0)), (0, (4, 0)), (1, (4, 1))]) (stN := [(1, 0)]) (hsN := [jgh, (101, [], [0, 0, 0, 0, 0, 0])]) (c1 := 0) (s1 := 0) (c2 := 0) (s2 := 0) (by decide +kernel) ?_ (by omega) (by omega)
  exact jT_ret rfl (by decide) (by show 2 ≤ 2; decide) (by omega) (by omega) ⟨rfl, rfl, rfl⟩
theorem jA_373_145 {xs : List Int} {d : Nat} : jT xs d 373 0 0 [(0, (1, 0)), (2, (1, 1))] [] [] 0 0 (fun k v hsN => k = 0 ∧ v = (1, 0) ∧ hsN = [] ++ []) := by
  refine jT_advK 11 (pcN := 29) (LN := [(4, (1, 0)), (0, (1, 0)), (2, (1, 1))]) (stN := [(1, 0)]) (hsN := []) (c1 := 0) (s1 := 0) (c2 := 0) (s2 := 0) (by decide +kernel) ?_ (by omega) (by omega)
  exact jT_ret rfl (by decide) (by show 0 ≤ 0; decide) (by omega) (by omega) ⟨rfl, rfl, rfl⟩
def jpA_625 : List JC := [(8, [(4, 2), (4, 3)], []), (101, [], [0, 0, 0, 0, 0, 0]), jgh, jgh]
theorem jA_45_146 {xs : List Int} {d : Nat} : jT xs (d + 1) 45 4 0 [(0, (4, 0)), (1, (4, 1)), (2, (1, 1)), (4, (1, 1))] [] jpA_625 0 0 (fun k v hsN => k = 0 ∧ v = (1, 0) ∧ hsN = jpA_625 ++ []) := by
  refine jT_advK 10 (pcN := 17) (LN := [(0, (4, 0)), (1, (4, 1)), (2, (1, 1)), (4, (1, 1))]) (stN := [(4, 1), (4, 0)]) (hsN := jpA_625) (c1 := 0) (s1 := 0) (c2 := 0) (s2 := 0) (by decide +kernel) ?_ (by omega) (by omega)
  refine jT_fR [0, 1] 4 (y := 39) (pcN := 20) (dC := 0) (bc1 := 0) (bc2 := 0) (c1 := 0) (c2 := 0) (as := [(4, 0), (4, 1)]) (asC := [(4, 0), (4, 1)]) (LN := [(0, (4, 0)), (1, (4, 1)), (2, (1, 1)), (4, (1, 1))]) (stN := []) (hsC := [jgh, (101, [], [0, 0, 0, 0, 0, 0])]) (v := (1, 0)) (st2 := [(1, 0)]) (jA_39_144 (d := 0)) (by rfl) (by rfl) (by decide +kernel) (by rfl) (by rfl) (by omega) (by omega) (by omega) (by omega) rfl ?_
  refine jT_advK 11 (pcN := 36) (LN := [(6, (1, 0)), (0, (4, 0)), (1, (4, 1)), (2, (1, 1)), (4, (1, 1))]) (stN := [(1, 1), (1, 0)]) (hsN := jpA_625) (c1 := 0) (s1 := 0) (c2 := 0) (s2 := 0) (by decide +kernel) ?_ (by omega) (by omega)
  refine jT_fR [] 4 (y := 373) (pcN := 39) (dC := 0) (bc1 := 0) (bc2 := 0) (c1 := 0) (c2 := 0) (as := [(1, 0), (1, 1)]) (asC := [(1, 0), (1, 1)]) (LN := [(6, (1, 0)), (0, (4, 0)), (1, (4, 1)), (2, (1, 1)), (4, (1, 1))]) (stN := []) (hsC := []) (v := (1, 0)) (st2 := [(1, 0)]) (jA_373_145 (d := 0)) (by rfl) (by rfl) (by decide +kernel) (by rfl) (by rfl) (by omega) (by omega) (by omega) (by omega) rfl ?_
  exact jT_ret rfl (by decide) (by show 4 ≤ 4; decide) (by omega) (by omega) ⟨rfl, rfl, rfl⟩
def jpA_626 : List JC := [(8, [(4, 2), (4, 3)], []), (4, [(4, 4), (1, 1)], []), jgh, jgh, (101, [], [0, 0, 0, 0, 0, 0])]
theorem jA_44_147 {xs : List Int} {d : Nat} : jT xs (d + 2) 44 5 0 [(0, (4, 0)), (1, (4, 1)), (2, (1, 1))] [] jpA_626 0 0 (fun k v hsN => k = 0 ∧ v = (1, 0) ∧ hsN = jpA_626 ++ []) := by
  refine jT_advK 6 (pcN := 10) (LN := [(0, (4, 0)), (1, (4, 1)), (2, (1, 1))]) (stN := [(1, 1), (1, 1), (4, 4), (4, 0)]) (hsN := jpA_626) (c1 := 0) (s1 := 0) (c2 := 0) (s2 := 0) (by decide +kernel) ?_ (by omega) (by omega)
  refine jT_fR [0, 4, 2, 3] 5 (y := 45) (pcN := 13) (dC := 1) (bc1 := 0) (bc2 := 0) (c1 := 0) (c2 := 0) (as := [(4, 0), (4, 4), (1, 1), (1, 1)]) (asC := [(4, 0), (4, 1), (1, 1), (1, 1)]) (LN := [(0, (4, 0)), (1, (4, 1)), (2, (1, 1))]) (stN := []) (hsC := jpA_625) (v := (1, 0)) (st2 := [(1, 0)]) (jA_45_146 (d := 0)) (by rfl) (by rfl) (by decide +kernel) (by rfl) (by rfl) (by omega) (by omega) (by omega) (by omega) rfl ?_
  exact jT_ret rfl (by decide) (by show 5 ≤ 5; decide) (by omega) (by omega) ⟨rfl, rfl, rfl⟩
theorem jA_10_148 {xs : List Int} {d : Nat} : jT xs (d + 2) 10 2 0 [(0, (4, 0)), (1, (1, 1)), (3, (1, 1)), (5, (1, 0))] [] [(4, [(4, 1), (1, 1)], []), (101, [], [0, 0, 0, 0, 0, 0])] 2 8 (fun k v hsN => k = 0 ∧ v = (4, 3) ∧ hsN = [(4, [(4, 1), (1, 1)], []), (101, [], [0, 0, 0, 0, 0, 0])] ++ [(101, [], [0, 0, 0, 0, 0, 0]), (4, [(4, 2), (1, 1)], [])]) := by
  refine jT_advK 111 (pcN := 64) (LN := [(8, (0, 6)), (7, (4, 2)), (0, (4, 0)), (1, (1, 1)), (3, (1, 1)), (5, (1, 0))]) (stN := [(1, 1), (4, 2), (4, 3), (4, 3)]) (hsN := jpA_48) (c1 := 2) (s1 := 8) (c2 := 0) (s2 := 0) (by decide +kernel) ?_ (by omega) (by omega)
  refine jT_fB [3, 2] 4 (y := 9) (pcN := 67) (dC := 1) (bc1 := 0) (bc2 := 0) (c1 := 0) (c2 := 0) (as := [(4, 3), (4, 2), (1, 1)]) (asC := [(4, 0), (4, 1), (1, 1)]) (LN := [(8, (0, 6)), (7, (4, 2)), (0, (4, 0)), (1, (1, 1)), (3, (1, 1)), (5, (1, 0))]) (stN := [(4, 3)]) (hsC := [(4, [(4, (-1)), (1, 0)], []), (101, [], [0, 0, 0, 0, 0, 0])]) (hsD := [(4, [(4, 1), (1, 1)], []), (101, [], [0, 0, 0, 0, 0, 0])]) (v := (9, 0)) (st2 := [(4, 3)]) (hs2 := jpA_49) (jA_9_27 (d := 0)) (by rfl) (by rfl) (by decide +kernel) (by rfl) (by rfl) (by omega) (by omega) (by omega) (by omega) rfl (by decide +kernel) ?_
  exact jT_ret rfl (by decide) (by show 2 ≤ 4; decide) (by omega) (by omega) ⟨rfl, rfl, rfl⟩
theorem jI_121_7 : jmI (jm 121) 7 = (.aload_n 0, 1) := by rfl
theorem jI_121_8 : jmI (jm 121) 8 = (.getfield 67, 3) := by rfl
theorem jI_121_11 : jmI (jm 121) 11 = (.iload_n 1, 1) := by rfl
theorem jI_121_15 : jmI (jm 121) 15 = (.astore_n 2, 1) := by rfl
theorem jI_121_16 : jmI (jm 121) 16 = (.aload_n 0, 1) := by rfl
theorem jI_121_17 : jmI (jm 121) 17 = (.getfield 10, 3) := by rfl
theorem jI_121_20 : jmI (jm 121) 20 = (.aload_n 2, 1) := by rfl
theorem jI_121_21 : jmI (jm 121) 21 = (.lconst 1, 1) := by rfl
theorem jI_121_25 : jmI (jm 121) 25 = (.lstore_n 3, 1) := by rfl
theorem jI_121_26 : jmI (jm 121) 26 = (.aload_n 2, 1) := by rfl
theorem jI_121_27 : jmI (jm 121) 27 = (.lconst 1, 1) := by rfl
theorem jI_121_28 : jmI (jm 121) 28 = (.lconst 1, 1) := by rfl
theorem jI_121_29 : jmI (jm 121) 29 = (.lload_n 3, 1) := by rfl
def jzA_640 : JC := (9, [(4, 14), (4, 15), (4, 16), (4, 17), (4, 18)], [])
def jzA_641 : JC := (114, [], [19, 19, 19, 19, 19, 19, 19, 19])
def jpA_642 : List JC := [jzA_5, (8, [(4, 12), (4, 13)], []), jgh, jgh, jgh, jgh, jgh, jgh, jgh, jgh, jzA_79, jzA_640, jgh, jgh, jzA_641, jgh, jgh, jgh, jgh, (4, [(4, 20), (1, 1)], []), (101, [], [0, 0, 0, 0, 0, 0])]
def jpA_643 : List JC := [jzA_5, (8, [(4, 12), (4, 13)], []), jgh, jgh, jgh, jgh, jgh, jgh, jgh, jgh, jzA_79, jzA_640, jgh, jgh, jzA_641, jgh, jgh, jgh, jgh, (4, [(4, 20), (1, 1)], []), (101, [], [0, 0, 0, 0, 0, 0]), (101, [], [0, 0, 0, 0, 0, 0]), (4, [(4, 21), (1, 1)], [])]
theorem jI_121_34 : jmI (jm 121) 34 = (.astore 5, 2) := by rfl
theorem jI_121_36 : jmI (jm 121) 36 = (.aload_n 0, 1) := by rfl
theorem jI_121_37 : jmI (jm 121) 37 = (.aload 5, 2) := by rfl
theorem jI_121_42 : jmI (jm 121) 42 = (.aload_n 0, 1) := by rfl
theorem jI_121_43 : jmI (jm 121) 43 = (.aload_n 0, 1) := by rfl
theorem jI_121_44 : jmI (jm 121) 44 = (.getfield 67, 3) := by rfl
theorem jI_121_47 : jmI (jm 121) 47 = (.iload_n 1, 1) := by rfl
theorem jI_121_48 : jmI (jm 121) 48 = (.aload 5, 2) := by rfl
def jzA_652 : JC := (9, [(4, 23), (4, 15), (4, 16), (4, 17), (4, 18)], [])
def jpA_653 : List JC := [jzA_5, (8, [(4, 12), (4, 13)], []), jgh, jgh, jgh, jgh, jgh, jgh, jgh, jgh, jzA_79, jzA_640, jgh, jgh, jzA_641, jgh, jgh, jgh, jgh, (4, [(4, 20), (1, 1)], []), (101, [], [0, 0, 0, 0, 0, 0]), (101, [], [0, 0, 0, 0, 0, 0]), (4, [(4, 21), (1, 1)], []), jgh, jzA_652]
def jzA_654 : JC := (13, [(4, 1), (4, 2), (4, 3), (4, 4), (4, 5), (4, 6), (4, 7), (4, 8), (4, 9), (4, 10), (0, 1), (4, 24), (0, 0)], [])
def jpA_655 : List JC := [jzA_654, (8, [(4, 12), (4, 13)], []), jgh, jgh, jgh, jgh, jgh, jgh, jgh, jgh, jzA_102, jzA_640, jgh, jgh, jzA_641, jgh, jgh, jgh, jgh, (4, [(4, 20), (1, 1)], []), (101, [], [0, 0, 0, 0, 0, 0]), (101, [], [0, 0, 0, 0, 0, 0]), (4, [(4, 21), (1, 1)], []), jgh, jzA_652]
theorem jI_121_56 : jmI (jm 121) 56 = (.lload_n 3, 1) := by rfl
theorem jI_121_57 : jmI (jm 121) 57 = (.l2i, 1) := by rfl
theorem jA_121_149 {xs : List Int} {d : Nat} {x1 : Int} (h_x1 : 0 ≤ x1 ∧ x1 ≤ 7) : jT xs (d + 3) 121 21 0 [(0, (4, 0)), (1, (0, x1))] [] jpA_642 4 21 (fun k v hsN => k = 0 ∧ v = (0, 0) ∧ hsN = jpA_655) := by
  refine jT_xaload_n (v := (4, 0)) (pcN := 1) jI_121_0 rfl rfl rfl ?_
  refine jT_xiload_n (v := (0, x1)) (pcN := 2) jI_121_1 rfl rfl rfl ?_
  refine jT_xbipush (k := 8) (pcN := 4) jI_121_2 (by decide) rfl ?_
  refine jT_fR [0] 21 (y := 115) (pcN := 7) (dC := 0) (bc1 := 0) (bc2 := 0) (c1 := 4) (c2 := 21) (as := [(4, 0), (0, x1), (0, 8)]) (asC := [(4, 0), (0, x1), (0, 8)]) (LN := [(0, (4, 0)), (1, (0, x1))]) (stN := []) (hsC := [jgh]) (v := (9, 0)) (st2 := []) (jA_115_9 (d := 0) (by omega)) (by rfl) (by rfl) (by decide +kernel) (by rfl) (by rfl) (by omega) (by omega) (by omega) (by omega) rfl ?_
  refine jT_xaload_n (v := (4, 0)) (pcN := 8) jI_121_7 rfl rfl rfl ?_
  refine jT_xgetf (a := 0) (t := 1) (ci := 13) (fi := 11) (c := jzA_5) (v := (4, 11)) (pcN := 11) jI_121_8 rfl rfl rfl rfl rfl rfl rfl ?_
  refine jT_xiload_n (v := (0, x1)) (pcN := 12) jI_121_11 rfl rfl rfl ?_
  refine jT_fR [11, 14, 15, 16, 17, 18, 19] 21 (y := 57) (pcN := 15) (dC := 0) (bc1 := 0) (bc2 := 0) (c1 := 4) (c2 := 21) (as := [(4, 11), (0, x1)]) (asC := [(4, 0), (0, x1)]) (LN := [(0, (4, 0)), (1, (0, x1))]) (stN := []) (hsC := jpA_47) (v := (4, 6)) (st2 := [(4, 19)]) (jA_57_108 (d := 0) (by omega)) (by rfl) (by rfl) (by decide +kernel) (by rfl) (by rfl) (by omega) (by omega) (by omega) (by omega) rfl ?_
  refine jT_xastore_n (v := (4, 19)) (LN := [(2, (4, 19)), (0, (4, 0)), (1, (0, x1))]) (pcN := 16) jI_121_15 rfl rfl rfl rfl ?_
  refine jT_xaload_n (v := (4, 0)) (pcN := 17) jI_121_16 rfl rfl rfl ?_
  refine jT_xgetf (a := 0) (t := 1) (ci := 13) (fi := 0) (c := jzA_5) (v := (4, 1)) (pcN := 20) jI_121_17 rfl rfl rfl rfl rfl rfl rfl ?_
  refine jT_xaload_n (v := (4, 19)) (pcN := 21) jI_121_20 rfl rfl rfl ?_
  refine jT_xlconst (z := 1) (pcN := 22) jI_121_21 rfl rfl ?_
  refine jT_fR [1, 19, 12, 13, 20] 21 (y := 44) (pcN := 25) (dC := 2) (bc1 := 0) (bc2 := 0) (c1 := 4) (c2 := 21) (as := [(4, 1), (4, 19), (1, 1)]) (asC := [(4, 0), (4, 1), (1, 1)]) (LN := [(2, (4, 19)), (0, (4, 0)), (1, (0, x1))]) (stN := []) (hsC := jpA_626) (v := (1, 0)) (st2 := [(1, 0)]) (jA_44_147 (d := 0)) (by rfl) (by rfl) (by decide +kernel) (by rfl) (by rfl) (by omega) (by omega) (by omega) (by omega) rfl ?_
  refine jT_xlstore_n (v := (1, 0)) (LN := [(3, (1, 0)), (2, (4, 19)), (0, (4, 0)), (1, (0, x1))]) (pcN := 26) jI_121_25 rfl rfl rfl rfl ?_
  refine jT_xaload_n (v := (4, 19)) (pcN := 27) jI_121_26 rfl rfl rfl ?_
  refine jT_xlconst (z := 1) (pcN := 28) jI_121_27 rfl rfl ?_
  refine jT_xlconst (z := 1) (pcN := 29) jI_121_28 rfl rfl ?_
  refine jT_xlload_n (v := (1, 0)) (pcN := 30) jI_121_29 rfl rfl rfl ?_
  refine jT_adv 1 (pcN := 31) (LN := [(3, (1, 0)), (2, (4, 19)), (0, (4, 0)), (1, (0, x1))]) (stN := [(1, 0), (1, 1), (1, 1), (4, 19)]) (hsN := jpA_642) (c1 := 0) (s1 := 0) (c2 := 4) (s2 := 21) (by exact rfl) ?_ (by omega) (by omega)
  refine jT_fA [19, 20] 21 (y := 10) (pcN := 34) (dC := 2) (bc1 := 2) (bc2 := 8) (c1 := 2) (c2 := 13) (as := [(4, 19), (1, 1), (1, 1), (1, 0)]) (asC := [(4, 0), (1, 1), (1, 1), (1, 0)]) (LN := [(3, (1, 0)), (2, (4, 19)), (0, (4, 0)), (1, (0, x1))]) (stN := []) (hsC := [(4, [(4, 1), (1, 1)], []), (101, [], [0, 0, 0, 0, 0, 0])]) (ex := [(101, [], [0, 0, 0, 0, 0, 0]), (4, [(4, 2), (1, 1)], [])]) (v := (4, 3)) (st2 := [(4, 22)]) (hs2 := jpA_643) (jA_10_148 (d := 0)) (by rfl) (by rfl) (by decide +kernel) (by rfl) (by rfl) (by omega) (by omega) (by omega) (by omega) rfl (by decide +kernel) ?_
  refine jT_xastore (v := (4, 22)) (LN := [(5, (4, 22)), (3, (1, 0)), (2, (4, 19)), (0, (4, 0)), (1, (0, x1))]) (pcN := 36) jI_121_34 rfl rfl rfl rfl ?_
  refine jT_xaload_n (v := (4, 0)) (pcN := 37) jI_121_36 rfl rfl rfl ?_
  refine jT_xaload (v := (4, 22)) (pcN := 39) jI_121_37 rfl rfl rfl ?_
  refine jT_fR [0, 22, 21] 23 (y := 117) (pcN := 42) (dC := 2) (bc1 := 0) (bc2 := 0) (c1 := 2) (c2 := 13) (as := [(4, 0), (4, 22)]) (asC := [(4, 0), (4, 1)]) (LN := [(5, (4, 22)), (3, (1, 0)), (2, (4, 19)), (0, (4, 0)), (1, (0, x1))]) (stN := []) (hsC := [jgh, (4, [(4, 2), (1, 1)], []), (101, [], [0, 0, 0, 0, 0, 0])]) (v := (9, 0)) (st2 := []) (jA_117_31 (d := 0)) (by rfl) (by rfl) (by decide +kernel) (by rfl) (by rfl) (by omega) (by omega) (by omega) (by omega) rfl ?_
  refine jT_xaload_n (v := (4, 0)) (pcN := 43) jI_121_42 rfl rfl rfl ?_
  refine jT_xaload_n (v := (4, 0)) (pcN := 44) jI_121_43 rfl rfl rfl ?_
  refine jT_xgetf (a := 0) (t := 1) (ci := 13) (fi := 11) (c := jzA_5) (v := (4, 11)) (pcN := 47) jI_121_44 rfl rfl rfl rfl rfl rfl rfl ?_
  refine jT_xiload_n (v := (0, x1)) (pcN := 48) jI_121_47 rfl rfl rfl ?_
  refine jT_xaload (v := (4, 22)) (pcN := 50) jI_121_48 rfl rfl rfl ?_
  refine jT_fA [11, 22, 14, 15, 16, 17, 18, 21, 19] 23 (y := 58) (pcN := 53) (dC := 1) (bc1 := 2) (bc2 := 13) (c1 := 0) (c2 := 0) (as := [(4, 11), (0, x1), (4, 22)]) (asC := [(4, 0), (0, x1), (4, 1)]) (LN := [(5, (4, 22)), (3, (1, 0)), (2, (4, 19)), (0, (4, 0)), (1, (0, x1))]) (stN := [(4, 0)]) (hsC := jpA_74) (ex := [jgh, jzA_72]) (v := (4, 10)) (st2 := [(4, 24), (4, 0)]) (hs2 := jpA_653) (jA_58_33 (d := 0) (by omega)) (by rfl) (by rfl) (by decide +kernel) (by rfl) (by rfl) (by omega) (by omega) (by omega) (by omega) rfl (by decide +kernel) ?_
  refine jT_fB [0, 24, 1, 2, 3, 4, 5, 6, 7, 8, 9, 10, 11, 14, 15, 16, 17, 18] 25 (y := 100) (pcN := 56) (dC := 0) (bc1 := 0) (bc2 := 0) (c1 := 0) (c2 := 0) (as := [(4, 0), (4, 24)]) (asC := [(4, 0), (4, 1)]) (LN := [(5, (4, 22)), (3, (1, 0)), (2, (4, 19)), (0, (4, 0)), (1, (0, x1))]) (stN := []) (hsC := jpA_80) (hsD := jpA_78) (v := (9, 0)) (st2 := []) (hs2 := jpA_655) (jA_100_34 (d := 0)) (by rfl) (by rfl) (by decide +kernel) (by rfl) (by rfl) (by omega) (by omega) (by omega) (by omega) rfl (by decide +kernel) ?_
  refine jT_xlload_n (v := (1, 0)) (pcN := 57) jI_121_56 rfl rfl rfl ?_
  refine jT_xl2i (pcN := 58) jI_121_57 rfl rfl ?_
  exact jT_ret rfl (by decide) (by show 21 ≤ 25; decide) (by omega) (by omega) ⟨rfl, rfl, rfl⟩
def jzA_658 : JC := (13, [(4, 2), (4, 3), (4, 4), (4, 5), (4, 6), (4, 7), (4, 8), (4, 9), (4, 10), (4, 11), (0, 1), (4, 25), (0, 0)], [])
def jzA_659 : JC := (9, [(4, 15), (4, 16), (4, 17), (4, 18), (4, 19)], [])
def jzA_660 : JC := (114, [], [20, 20, 20, 20, 20, 20, 20, 20])
def jzA_661 : JC := (9, [(4, 24), (4, 16), (4, 17), (4, 18), (4, 19)], [])
def jpA_662 : List JC := [jzA_658, (101, [], [0]), (8, [(4, 13), (4, 14)], []), jgh, jgh, jgh, jgh, jgh, jgh, jgh, jgh, jzA_76, jzA_659, jgh, jgh, jzA_660, jgh, jgh, jgh, jgh, (4, [(4, 21), (1, 1)], []), (101, [], [0, 0, 0, 0, 0, 0]), (101, [], [0, 0, 0, 0, 0, 0]), (4, [(4, 22), (1, 1)], []), jgh, jzA_661]
theorem jI_330_7 : jmI (jm 330) 7 = (.i2l, 1) := by rfl
theorem jI_330_9 : jmI (jm 330) 9 = (.goto 9, 3) := by rfl
theorem jI_330_18 : jmI (jm 330) 18 = (.iconst 0, 1) := by rfl
def jpA_666 : List JC := [jzA_14, (101, [], [0]), (8, [(4, 13), (4, 14)], []), jgh, jgh, jgh, jgh, jgh, jgh, jgh, jgh, jzA_79, jzA_659, jgh, jgh, jzA_660, jgh, jgh, jgh, jgh, (4, [(4, 21), (1, 1)], []), (101, [], [0, 0, 0, 0, 0, 0])]
theorem jA_330_150 {xs : List Int} {d : Nat} {x1 : Int} (h_x1 : 0 ≤ x1 ∧ x1 ≤ 7) : jT xs (d + 4) 330 22 0 [(0, (4, 0)), (1, (0, x1)), (2, (4, 1))] [] jpA_666 4 21 (fun k v hsN => k = 0 ∧ v = (0, 0) ∧ hsN = jpA_662) := by
  refine jT_xaload_n (v := (4, 1)) (pcN := 1) jI_330_0 rfl rfl rfl ?_
  refine jT_xiconst (k := 0) (pcN := 2) jI_330_1 rfl ?_
  refine jT_xaload_n (v := (4, 0)) (pcN := 3) jI_330_2 rfl rfl rfl ?_
  refine jT_xiload_n (v := (0, x1)) (pcN := 4) jI_330_3 rfl rfl rfl ?_
  refine jT_fB [0, 2, 3, 4, 5, 6, 7, 8, 9, 10, 11, 12, 13, 14, 15, 16, 17, 18, 19, 20, 21] 22 (y := 121) (pcN := 7) (dC := 3) (bc1 := 4) (bc2 := 21) (c1 := 0) (c2 := 0) (as := [(4, 0), (0, x1)]) (asC := [(4, 0), (0, x1)]) (LN := [(0, (4, 0)), (1, (0, x1)), (2, (4, 1))]) (stN := [(0, 0), (4, 1)]) (hsC := jpA_642) (hsD := jpA_655) (v := (0, 0)) (st2 := [(0, 0), (0, 0), (4, 1)]) (hs2 := jpA_662) (jA_121_149 (d := 0) (by omega)) (by rfl) (by rfl) (by decide +kernel) (by rfl) (by rfl) (by omega) (by omega) (by omega) (by omega) rfl (by decide +kernel) ?_
  refine jT_xi2l (x := 0) (z := 0) (pcN := 8) jI_330_7 rfl (by decide +kernel) rfl ?_
  refine jT_adv 1 (pcN := 9) (LN := [(0, (4, 0)), (1, (0, x1)), (2, (4, 1))]) (stN := []) (hsN := jpA_662) (c1 := 0) (s1 := 0) (c2 := 0) (s2 := 0) (by exact rfl) ?_ (by omega) (by omega)
  refine jT_xgoto (pcN := 18) jI_330_9 rfl ?_
  refine jT_xiconst (k := 0) (pcN := 19) jI_330_18 rfl ?_
  exact jT_ret rfl (by decide) (by show 22 ≤ 26; decide) (by omega) (by omega) ⟨rfl, rfl, rfl⟩
theorem jA_211_151 {xs : List Int} {d : Nat} : jT xs d 211 1 0 [(0, (4, 0))] [] [(101, [], [0, 0, 0, 0, 0, 0])] 0 0 (fun k v hsN => k = 0 ∧ v = (3, 0) ∧ hsN = [(101, [], [0, 0, 0, 0, 0, 0])] ++ []) := by
  refine jT_advK 3 (pcN := 3) (LN := [(0, (4, 0))]) (stN := [(1, 0)]) (hsN := [(101, [], [0, 0, 0, 0, 0, 0])]) (c1 := 0) (s1 := 0) (c2 := 0) (s2 := 0) (by decide +kernel) ?_ (by omega) (by omega)
  refine jT_l2d (x := 0) (z := 0) (by rfl) (by rfl) (by decide +kernel) ?_
  refine jT_advK 4 (pcN := 10) (LN := [(0, (4, 0))]) (stN := [(1, 0), (3, 4609816855700290920), (3, 0)]) (hsN := [(101, [], [0, 0, 0, 0, 0, 0])]) (c1 := 0) (s1 := 0) (c2 := 0) (s2 := 0) (by decide +kernel) ?_ (by omega) (by omega)
  refine jT_l2d (x := 0) (z := 0) (by rfl) (by rfl) (by decide +kernel) ?_
  refine jT_dmul (x := 4609816855700290920) (y := 0) (z := 0) (by rfl) (by rfl) (by decide +kernel) ?_
  refine jT_dadd (x := 0) (y := 0) (z := 0) (by rfl) (by rfl) (by decide +kernel) ?_
  refine jT_advK 4 (pcN := 19) (LN := [(0, (4, 0))]) (stN := [(1, 0), (3, 4612410936051475313), (3, 0)]) (hsN := [(101, [], [0, 0, 0, 0, 0, 0])]) (c1 := 0) (s1 := 0) (c2 := 0) (s2 := 0) (by decide +kernel) ?_ (by omega) (by omega)
  refine jT_l2d (x := 0) (z := 0) (by rfl) (by rfl) (by decide +kernel) ?_
  refine jT_dmul (x := 4612410936051475313) (y := 0) (z := 0) (by rfl) (by rfl) (by decide +kernel) ?_
  refine jT_dadd (x := 0) (y := 0) (z := 0) (by rfl) (by rfl) (by decide +kernel) ?_
  refine jT_advK 4 (pcN := 28) (LN := [(0, (4, 0))]) (stN := [(1, 0), (3, 4613504020090455085), (3, 0)]) (hsN := [(101, [], [0, 0, 0, 0, 0, 0])]) (c1 := 0) (s1 := 0) (c2 := 0) (s2 := 0) (by decide +kernel) ?_ (by omega) (by omega)
  refine jT_l2d (x := 0) (z := 0) (by rfl) (by rfl) (by decide +kernel) ?_
  refine jT_dmul (x := 4613504020090455085) (y := 0) (z := 0) (by rfl) (by rfl) (by decide +kernel) ?_
  refine jT_dadd (x := 0) (y := 0) (z := 0) (by rfl) (by rfl) (by decide +kernel) ?_
  refine jT_advK 4 (pcN := 37) (LN := [(0, (4, 0))]) (stN := [(1, 0), (3, 4614972366274321729), (3, 0)]) (hsN := [(101, [], [0, 0, 0, 0, 0, 0])]) (c1 := 0) (s1 := 0) (c2 := 0) (s2 := 0) (by decide +kernel) ?_ (by omega) (by omega)
  refine jT_l2d (x := 0) (z := 0) (by rfl) (by rfl) (by decide +kernel) ?_
  refine jT_dmul (x := 4614972366274321729) (y := 0) (z := 0) (by rfl) (by rfl) (by decide +kernel) ?_
  refine jT_dadd (x := 0) (y := 0) (z := 0) (by rfl) (by rfl) (by decide +kernel) ?_
  refine jT_advK 4 (pcN := 46) (LN := [(0, (4, 0))]) (stN := [(1, 0), (3, 4615515068267881011), (3, 0)]) (hsN := [(101, [], [0, 0, 0, 0, 0, 0])]) (c1 := 0) (s1 := 0) (c2 := 0) (s2 := 0) (by decide +kernel) ?_ (by omega) (by omega)
  refine jT_l2d (x := 0) (z := 0) (by rfl) (by rfl) (by decide +kernel) ?_
  refine jT_dmul (x := 4615515068267881011) (y := 0) (z := 0) (by rfl) (by rfl) (by decide +kernel) ?_
  refine jT_dadd (x := 0) (y := 0) (z := 0) (by rfl) (by rfl) (by decide +kernel) ?_
  exact jT_ret rfl (by decide) (by show 1 ≤ 1; decide) (by omega) (by omega) ⟨rfl, rfl, rfl⟩
theorem jA_213_152 {xs : List Int} {d : Nat} : jT xs (d + 1) 213 2 0 [(0, (4, 0)), (1, (4, 1))] [] [jgh, (101, [], [0, 0, 0, 0, 0, 0])] 0 0 (fun k v hsN => k = 0 ∧ v = (0, 0) ∧ hsN = [jgh, (101, [], [0, 0, 0, 0, 0, 0])] ++ []) := by
  refine jT_advK 1 (pcN := 1) (LN := [(0, (4, 0)), (1, (4, 1))]) (stN := [(4, 1)]) (hsN := [jgh, (101, [], [0, 0, 0, 0, 0, 0])]) (c1 := 0) (s1 := 0) (c2 := 0) (s2 := 0) (by decide +kernel) ?_ (by omega) (by omega)
  refine jT_fR [1] 2 (y := 200) (pcN := 4) (dC := 0) (bc1 := 0) (bc2 := 0) (c1 := 0) (c2 := 0) (as := [(4, 1)]) (asC := [(4, 0)]) (LN := [(0, (4, 0)), (1, (4, 1))]) (stN := []) (hsC := [(101, [], [0, 0, 0, 0, 0, 0])]) (v := (0, 1)) (st2 := [(0, 1)]) (jA_200_44 (d := 0)) (by rfl) (by rfl) (by decide +kernel) (by rfl) (by rfl) (by omega) (by omega) (by omega) (by omega) rfl ?_
  refine jT_advK 3 (pcN := 18) (LN := [(0, (4, 0)), (1, (4, 1))]) (stN := [(0, 0)]) (hsN := [jgh, (101, [], [0, 0, 0, 0, 0, 0])]) (c1 := 0) (s1 := 0) (c2 := 0) (s2 := 0) (by decide +kernel) ?_ (by omega) (by omega)
  exact jT_ret rfl (by decide) (by show 2 ≤ 2; decide) (by omega) (by omega) ⟨rfl, rfl, rfl⟩
def jzA_667 : JC := (14, [(0, 0), (4, 2), (4, 3), (4, 4), (4, 5), (0, 0), (4, 6), (0, 0), (4, 7), (4, 1), (1, 1), (4, 8), (0, 0), (4, 9), (0, 0), (0, 0), (0, 0), (0, 0), (0, 0), (0, 0), (0, 0), (4, 10), (4, 11), (4, 12), (4, 13), (4, 14), (4, 15), (0, 0)], [])
def jpA_668 : List JC := [jzA_667, (101, [], [0, 0, 0, 0, 0, 0]), jgh, jgh, jgh, jgh, jgh, jgh, jgh, jgh, jgh, jgh, jgh, jgh, jgh, jgh, (101, [], [0, 0, 0, 0, 0, 0])]
def jpA_669 : List JC := [jzA_667, (101, [], [0, 0, 0, 0, 0, 0]), jgh, jgh, jgh, jgh, jgh, jgh, jgh, jgh, jgh, jgh, jgh, jgh, jgh, jgh]
theorem jA_212_153 {xs : List Int} {d : Nat} : jT xs (d + 2) 212 16 0 [(0, (4, 0)), (1, (4, 1)), (2, (1, 0))] [] jpA_669 1 6 (fun k v hsN => k = 0 ∧ v = (0, 0) ∧ hsN = jpA_669 ++ [(101, [], [0, 0, 0, 0, 0, 0])]) := by
  refine jT_advK 18 (pcN := 27) (LN := [(4, (4, 16)), (0, (4, 0)), (1, (4, 1)), (2, (1, 0))]) (stN := [(4, 16), (4, 0)]) (hsN := jpA_668) (c1 := 1) (s1 := 6) (c2 := 0) (s2 := 0) (by decide +kernel) ?_ (by omega) (by omega)
  refine jT_fR [0, 16] 17 (y := 213) (pcN := 30) (dC := 1) (bc1 := 0) (bc2 := 0) (c1 := 0) (c2 := 0) (as := [(4, 0), (4, 16)]) (asC := [(4, 0), (4, 1)]) (LN := [(4, (4, 16)), (0, (4, 0)), (1, (4, 1)), (2, (1, 0))]) (stN := []) (hsC := [jgh, (101, [], [0, 0, 0, 0, 0, 0])]) (v := (0, 0)) (st2 := [(0, 0)]) (jA_213_152 (d := 0)) (by rfl) (by rfl) (by decide +kernel) (by rfl) (by rfl) (by omega) (by omega) (by omega) (by omega) rfl ?_
  exact jT_ret rfl (by decide) (by show 16 ≤ 17; decide) (by omega) (by omega) ⟨rfl, rfl, rfl⟩
theorem jA_200_154 {xs : List Int} {d : Nat} : jT xs d 200 1 0 [(0, (4, 0))] [] [(101, [], [(-1), 0, 0, 0, 0, 0])] 0 0 (fun k v hsN => k = 0 ∧ v = (0, 0) ∧ hsN = [(101, [], [(-1), 0, 0, 0, 0, 0])] ++ []) := by
  refine jT_advK 12 (pcN := 17) (LN := [(1, (0, 0)), (0, (4, 0))]) (stN := [(0, 0)]) (hsN := [(101, [], [(-1), 0, 0, 0, 0, 0])]) (c1 := 0) (s1 := 0) (c2 := 0) (s2 := 0) (by decide +kernel) ?_ (by omega) (by omega)
  exact jT_ret rfl (by decide) (by show 1 ≤ 1; decide) (by omega) (by omega) ⟨rfl, rfl, rfl⟩
def jzA_670 : JC := (14, [(0, 0), (4, 2), (4, 3), (4, 4), (4, 5), (0, 0), (4, 6), (0, 0), (4, 7), (4, 8), (1, 1), (4, 9), (0, 0), (4, 10), (0, 0), (0, 0), (0, 0), (0, 0), (0, 0), (0, 0), (0, 0), (4, 11), (4, 12), (4, 13), (4, 14), (4, 15), (4, 16), (0, 0)], [])
def jpA_671 : List JC := [jzA_670, (101, [], [(-1), 0, 0, 0, 0, 0]), jgh, jgh, jgh, jgh, jgh, (130, [], [17, 18, 19, 20, 21, 22]), jgh, jgh, jgh, jgh, jgh, jgh, jgh, jgh, jgh, (100, [], (jenc (jlg 0))), jgh, jgh, jgh, jgh, jgh, (100, [], List.replicate 56 0)]
def jpA_672 : List JC := [jzA_670, (101, [], [(-1), 0, 0, 0, 0, 0]), jgh, jgh, jgh, jgh, jgh, (130, [], [17, 18, 19, 20, 21, 22]), jgh, jgh, jgh, jgh, jgh, jgh, jgh, jgh, jgh, (100, [], (jenc (jlg 0))), jgh, jgh, jgh, jgh, jgh, (100, [], List.replicate 56 0), (100, [], (jenc (-1)))]
def jpA_673 : List JC := [jzA_670, (101, [], [(-1), 0, 0, 0, 0, 0]), jgh, jgh, jgh, jgh, jgh, (130, [], [17, 18, 19, 20, 21, 22]), jgh, jgh, jgh, jgh, jgh, jgh, jgh, jgh, jgh, (100, [], (jenc (jlg 0))), jgh, jgh, jgh, jgh, jgh, (100, [], List.replicate 56 0), (100, [], (jenc (-1))), (100, [], (jenc ((-1) * (jlg 0))))]
def jpA_674 : List JC := [jzA_670, (101, [], [(-1), 0, 0, 0, 0, 0]), jgh, jgh, jgh, jgh, jgh, (130, [], [17, 18, 19, 20, 21, 22]), jgh, jgh, jgh, jgh, jgh, jgh, jgh, jgh, jgh, (100, [], (jenc (jlg 0))), jgh, jgh, jgh, jgh, jgh, (100, [], (jenc 0)), (100, [], (jenc (-1))), (100, [], (jenc ((-1) * (jlg 0))))]
def jpA_675 : List JC := [jzA_670, (101, [], [(-1), 0, 0, 0, 0, 0]), jgh, jgh, jgh, jgh, jgh, (130, [], [17, 18, 19, 20, 21, 22]), jgh, jgh, jgh, jgh, jgh, jgh, jgh, jgh, jgh, (100, [], (jenc (jlg 0))), jgh, jgh, jgh, jgh, jgh]
theorem jA_214_155 {xs : List Int} {d : Nat} : jT xs (d + 2) 214 23 0 [(0, (4, 0)), (1, (4, 1))] [] jpA_675 3 168 (fun k v hsN => k = 0 ∧ v = (4, 25) ∧ hsN = jpA_675 ++ [(100, [], (jenc 0)), (100, [], (jenc (-1))), (100, [], (jenc ((-1) * (jlg 0))))]) := by
  refine jT_advK 18 (pcN := 25) (LN := [(3, (0, 0)), (2, (4, 23)), (0, (4, 0)), (1, (4, 1))]) (stN := [(1, (-1)), (4, 23)]) (hsN := jpA_671) (c1 := 1) (s1 := 56) (c2 := 2) (s2 := 112) (by decide +kernel) ?_ (by omega) (by omega)
  refine jT_fA [] 24 (y := 178) (pcN := 28) (dC := 1) (bc1 := 1) (bc2 := 56) (c1 := 1) (c2 := 56) (as := [(1, (-1))]) (asC := [(1, (-1))]) (LN := [(3, (0, 0)), (2, (4, 23)), (0, (4, 0)), (1, (4, 1))]) (stN := [(4, 23)]) (hsC := []) (ex := [(100, [], (jenc (-1)))]) (v := (4, 0)) (st2 := [(4, 24), (4, 23)]) (hs2 := jpA_672) (jT_big (d := 0) (v := (-1)) (by omega) (by omega)) (by rfl) (by rfl) (by decide +kernel) (by rfl) (by rfl) (by omega) (by omega) (by omega) (by omega) rfl (by decide +kernel) ?_
  refine jT_advK 4 (pcN := 34) (LN := [(3, (0, 0)), (2, (4, 23)), (0, (4, 0)), (1, (4, 1))]) (stN := [(4, 17), (4, 24), (4, 23)]) (hsN := jpA_672) (c1 := 0) (s1 := 0) (c2 := 1) (s2 := 56) (by decide +kernel) ?_ (by omega) (by omega)
  refine jT_fA [24, 17] 25 (y := 179) (pcN := 37) (dC := 1) (bc1 := 1) (bc2 := 56) (c1 := 0) (c2 := 0) (as := [(4, 24), (4, 17)]) (asC := [(4, 0), (4, 1)]) (LN := [(3, (0, 0)), (2, (4, 23)), (0, (4, 0)), (1, (4, 1))]) (stN := [(4, 23)]) (hsC := [(100, [], (jenc (-1))), (100, [], (jenc (jlg 0)))]) (ex := [(100, [], (jenc ((-1) * (jlg 0))))]) (v := (4, 2)) (st2 := [(4, 25), (4, 23)]) (hs2 := jpA_673) (jT_product (d := 0) (a := (-1)) (b := jlg 0) (by decide +kernel) (by decide +kernel)) (by rfl) (by rfl) (by decide +kernel) (by rfl) (by rfl) (by omega) (by omega) (by omega) (by omega) rfl (by decide +kernel) ?_
  refine jT_eq (LN := [(3, (0, 0)), (2, (4, 23)), (0, (4, 0)), (1, (4, 1))]) (stN := [(4, 25), (4, 23)]) (hsN := [jzA_670, (101, [], [(-1), 0, 0, 0, 0, 0]), jgh, jgh, jgh, jgh, jgh, (130, [], [17, 18, 19, 20, 21, 22]), jgh, jgh, jgh, jgh, jgh, jgh, jgh, jgh, jgh, (100, [], (jenc (jlg 0))), jgh, jgh, jgh, jgh, jgh, (100, [], (jenc 0)), (100, [], (jenc (-1))), (100, [], (jenc ((-1) * (jlg 0))))]) rfl rfl (by show [jzA_670, (101, [], [(-1), 0, 0, 0, 0, 0]), jgh, jgh, jgh, jgh, jgh, (130, [], [17, 18, 19, 20, 21, 22]), jgh, jgh, jgh, jgh, jgh, jgh, jgh, jgh, jgh, (100, [], (jenc (jlg 0))), jgh, jgh, jgh, jgh, jgh, (100, [], List.replicate 56 0), (100, [], (jenc (-1))), (100, [], (jenc ((-1) * (jlg 0))))] = _; rw [jrep56e]) ?_
  refine jT_fR [23, 25] 26 (y := 181) (pcN := 40) (dC := 0) (bc1 := 0) (bc2 := 0) (c1 := 0) (c2 := 0) (as := [(4, 23), (4, 25)]) (asC := [(4, 0), (4, 1)]) (LN := [(3, (0, 0)), (2, (4, 23)), (0, (4, 0)), (1, (4, 1))]) (stN := []) (hsC := [(100, [], (jenc 0)), (100, [], (jenc ((-1) * (jlg 0))))]) (v := (4, 1)) (st2 := [(4, 25)]) (jT_added_0l (d := 0) (b := (-1) * (jlg 0))) (by rfl) (by rfl) (by decide +kernel) (by rfl) (by rfl) (by omega) (by omega) (by omega) (by omega) rfl ?_
  refine jT_advK 62 (pcN := 48) (LN := [(3, (0, 6)), (2, (4, 25)), (0, (4, 0)), (1, (4, 1))]) (stN := [(4, 25)]) (hsN := jpA_674) (c1 := 0) (s1 := 0) (c2 := 0) (s2 := 0) (by decide +kernel) ?_ (by omega) (by omega)
  exact jT_ret rfl (by decide) (by show 23 ≤ 26; decide) (by omega) (by omega) ⟨rfl, rfl, rfl⟩
theorem jI_213_17 : jmI (jm 213) 17 = (.iaload, 1) := by rfl
theorem jA_213_156 {xs : List Int} {d : Nat} : jT xs (d + 3) 213 23 0 [(0, (4, 0)), (1, (4, 1))] [] jpA_675 3 168 (fun k v hsN => k = 0 ∧ v = (0, (-1)) ∧ hsN = jpA_675 ++ [(100, [], (jenc 0)), (100, [], (jenc (-1))), (100, [], (jenc ((-1) * (jlg 0))))]) := by
  refine jT_advK 1 (pcN := 1) (LN := [(0, (4, 0)), (1, (4, 1))]) (stN := [(4, 1)]) (hsN := jpA_675) (c1 := 0) (s1 := 0) (c2 := 3) (s2 := 168) (by decide +kernel) ?_ (by omega) (by omega)
  refine jT_fR [1] 23 (y := 200) (pcN := 4) (dC := 0) (bc1 := 0) (bc2 := 0) (c1 := 3) (c2 := 168) (as := [(4, 1)]) (asC := [(4, 0)]) (LN := [(0, (4, 0)), (1, (4, 1))]) (stN := []) (hsC := [(101, [], [(-1), 0, 0, 0, 0, 0])]) (v := (0, 0)) (st2 := [(0, 0)]) (jA_200_154 (d := 0)) (by rfl) (by rfl) (by decide +kernel) (by rfl) (by rfl) (by omega) (by omega) (by omega) (by omega) rfl ?_
  refine jT_advK 3 (pcN := 13) (LN := [(0, (4, 0)), (1, (4, 1))]) (stN := [(4, 1), (4, 0)]) (hsN := jpA_675) (c1 := 0) (s1 := 0) (c2 := 3) (s2 := 168) (by decide +kernel) ?_ (by omega) (by omega)
  refine jT_fA [0, 1, 2, 3, 4, 5, 6, 7, 8, 9, 10, 11, 12, 13, 14, 15, 16, 17, 18, 19, 20, 21, 22] 23 (y := 214) (pcN := 16) (dC := 2) (bc1 := 3) (bc2 := 168) (c1 := 0) (c2 := 0) (as := [(4, 0), (4, 1)]) (asC := [(4, 0), (4, 1)]) (LN := [(0, (4, 0)), (1, (4, 1))]) (stN := []) (hsC := jpA_675) (ex := [(100, [], (jenc 0)), (100, [], (jenc (-1))), (100, [], (jenc ((-1) * (jlg 0))))]) (v := (4, 25)) (st2 := [(4, 25)]) (hs2 := jpA_674) (jA_214_155 (d := 0)) (by rfl) (by rfl) (by decide +kernel) (by rfl) (by rfl) (by omega) (by omega) (by omega) (by omega) rfl (by decide +kernel) ?_
  refine jT_advK 1 (pcN := 17) (LN := [(0, (4, 0)), (1, (4, 1))]) (stN := [(0, 0), (4, 25)]) (hsN := jpA_674) (c1 := 0) (s1 := 0) (c2 := 0) (s2 := 0) (by decide +kernel) ?_ (by omega) (by omega)
  refine jT_iald (x := (-1)) (a := 25) (j := 0) (fs := []) (X := (jenc ((-1) * (jlg 0)))) (by rfl) (by rfl) (by rfl) (by rfl) (jenc_sg (by decide +kernel)) ?_
  refine jT_eq (LN := [(0, (4, 0)), (1, (4, 1))]) (stN := [(0, (-1))]) (hsN := jpA_674) rfl rfl rfl ?_
  exact jT_ret rfl (by decide) (by show 23 ≤ 26; decide) (by omega) (by omega) ⟨rfl, rfl, rfl⟩
def jpA_677 : List JC := [jzA_667, (101, [], [0, 0, 0, 0, 0, 0]), jgh, jgh, jgh, jgh, jgh, (130, [], [16, 17, 18, 19, 20, 21]), jgh, jgh, jgh, jgh, jgh, jgh, jgh, jgh, (100, [], (jenc (jlg 0))), jgh, jgh, jgh, jgh, jgh, (101, [], [(-1), 0, 0, 0, 0, 0])]
def jpA_678 : List JC := [jzA_667, (101, [], [0, 0, 0, 0, 0, 0]), jgh, jgh, jgh, jgh, jgh, (130, [], [16, 17, 18, 19, 20, 21]), jgh, jgh, jgh, jgh, jgh, jgh, jgh, jgh, (100, [], (jenc (jlg 0))), jgh, jgh, jgh, jgh, jgh, (101, [], [(-1), 0, 0, 0, 0, 0]), (100, [], (jenc 0)), (100, [], (jenc (-1))), (100, [], (jenc ((-1) * (jlg 0))))]
def jpA_679 : List JC := [jzA_667, (101, [], [0, 0, 0, 0, 0, 0]), jgh, jgh, jgh, jgh, jgh, (130, [], [16, 17, 18, 19, 20, 21]), jgh, jgh, jgh, jgh, jgh, jgh, jgh, jgh, (100, [], (jenc (jlg 0))), jgh, jgh, jgh, jgh, jgh]
def jpA_680 : List JC := [(101, [], [(-1), 0, 0, 0, 0, 0]), (100, [], (jenc 0)), (100, [], (jenc (-1))), (100, [], (jenc ((-1) * (jlg 0))))]
theorem jA_212_157 {xs : List Int} {d : Nat} : jT xs (d + 4) 212 22 0 [(0, (4, 0)), (1, (4, 1)), (2, (1, 1))] [] jpA_679 4 174 (fun k v hsN => k = 0 ∧ v = (0, (-1)) ∧ hsN = jpA_679 ++ jpA_680) := by
  refine jT_advK 18 (pcN := 27) (LN := [(4, (4, 22)), (0, (4, 0)), (1, (4, 1)), (2, (1, 1))]) (stN := [(4, 22), (4, 0)]) (hsN := jpA_677) (c1 := 1) (s1 := 6) (c2 := 3) (s2 := 168) (by decide +kernel) ?_ (by omega) (by omega)
  refine jT_fA [0, 22, 2, 3, 4, 5, 6, 7, 1, 8, 9, 10, 11, 12, 13, 14, 15, 16, 17, 18, 19, 20, 21] 23 (y := 213) (pcN := 30) (dC := 3) (bc1 := 3) (bc2 := 168) (c1 := 0) (c2 := 0) (as := [(4, 0), (4, 22)]) (asC := [(4, 0), (4, 1)]) (LN := [(4, (4, 22)), (0, (4, 0)), (1, (4, 1)), (2, (1, 1))]) (stN := []) (hsC := jpA_675) (ex := [(100, [], (jenc 0)), (100, [], (jenc (-1))), (100, [], (jenc ((-1) * (jlg 0))))]) (v := (0, (-1))) (st2 := [(0, (-1))]) (hs2 := jpA_678) (jA_213_156 (d := 0)) (by rfl) (by rfl) (by decide +kernel) (by rfl) (by rfl) (by omega) (by omega) (by omega) (by omega) rfl (by decide +kernel) ?_
  exact jT_ret rfl (by decide) (by show 22 ≤ 26; decide) (by omega) (by omega) ⟨rfl, rfl, rfl⟩
def jpA_681 : List JC := [jzA_667, (101, [], [0, 0, 0, 0, 0, 0]), jgh, jgh, jgh, jgh, jgh, (130, [], [16, 17, 18, 19, 20, 21]), jgh, jgh, jgh, jgh, jgh, jgh, jgh, jgh, (100, [], (jenc (jlg 0))), jgh, jgh, jgh, jgh, jgh, (101, [], [0, 0, 0, 0, 0, 0])]
def jpA_682 : List JC := [jzA_667, (101, [], [0, 0, 0, 0, 0, 0]), jgh, jgh, jgh, jgh, jgh, (130, [], [16, 17, 18, 19, 20, 21]), jgh, jgh, jgh, jgh, jgh, jgh, jgh, jgh, (100, [], (jenc (jlg 0))), jgh, jgh, jgh, jgh, jgh, (101, [], [0, 0, 0, 0, 0, 0]), (101, [], [(-1), 0, 0, 0, 0, 0]), (100, [], (jenc 0)), (100, [], (jenc (-1))), (100, [], (jenc ((-1) * (jlg 0))))]
def jpA_683 : List JC := [(101, [], [0, 0, 0, 0, 0, 0]), (101, [], [(-1), 0, 0, 0, 0, 0]), (100, [], (jenc 0)), (100, [], (jenc (-1))), (100, [], (jenc ((-1) * (jlg 0))))]
theorem jA_210_158 {xs : List Int} {d : Nat} : jT xs (d + 5) 210 22 0 [(0, (4, 0)), (1, (4, 1)), (2, (1, 1))] [] jpA_679 5 180 (fun k v hsN => k = 0 ∧ v = (1, 0) ∧ hsN = jpA_679 ++ jpA_683) := by
  refine jT_advK 1 (pcN := 1) (LN := [(0, (4, 0)), (1, (4, 1)), (2, (1, 1))]) (stN := [(4, 1)]) (hsN := jpA_679) (c1 := 0) (s1 := 0) (c2 := 5) (s2 := 180) (by decide +kernel) ?_ (by omega) (by omega)
  refine jT_fR [1] 22 (y := 211) (pcN := 4) (dC := 0) (bc1 := 0) (bc2 := 0) (c1 := 5) (c2 := 180) (as := [(4, 1)]) (asC := [(4, 0)]) (LN := [(0, (4, 0)), (1, (4, 1)), (2, (1, 1))]) (stN := []) (hsC := [(101, [], [0, 0, 0, 0, 0, 0])]) (v := (3, 0)) (st2 := [(3, 0)]) (jA_211_151 (d := 0)) (by rfl) (by rfl) (by decide +kernel) (by rfl) (by rfl) (by omega) (by omega) (by omega) (by omega) rfl ?_
  refine jT_advK 1 (pcN := 5) (LN := [(0, (4, 0)), (1, (4, 1)), (2, (1, 1))]) (stN := [(1, 1), (3, 0)]) (hsN := jpA_679) (c1 := 0) (s1 := 0) (c2 := 5) (s2 := 180) (by decide +kernel) ?_ (by omega) (by omega)
  refine jT_l2d (x := 1) (z := 4607182418800017408) (by rfl) (by rfl) (by decide +kernel) ?_
  refine jT_ddiv (x := 0) (y := 4607182418800017408) (z := 0) (by rfl) (by rfl) (by decide +kernel) ?_
  refine jT_d2l (x := 0) (z := 0) (by rfl) (by rfl) (by decide +kernel) ?_
  refine jT_advK 6 (pcN := 16) (LN := [(4, (1, 0)), (0, (4, 0)), (1, (4, 1)), (2, (1, 1))]) (stN := [(1, 0), (4, 1), (4, 0)]) (hsN := jpA_679) (c1 := 0) (s1 := 0) (c2 := 5) (s2 := 180) (by decide +kernel) ?_ (by omega) (by omega)
  refine jT_fA [0, 1, 2, 3, 4, 5, 6, 7, 8, 9, 10, 11, 12, 13, 14, 15] 22 (y := 212) (pcN := 19) (dC := 2) (bc1 := 1) (bc2 := 6) (c1 := 4) (c2 := 174) (as := [(4, 0), (4, 1), (1, 0)]) (asC := [(4, 0), (4, 1), (1, 0)]) (LN := [(4, (1, 0)), (0, (4, 0)), (1, (4, 1)), (2, (1, 1))]) (stN := []) (hsC := jpA_669) (ex := [(101, [], [0, 0, 0, 0, 0, 0])]) (v := (0, 0)) (st2 := [(0, 0)]) (hs2 := jpA_681) (jA_212_153 (d := 0)) (by rfl) (by rfl) (by decide +kernel) (by rfl) (by rfl) (by omega) (by omega) (by omega) (by omega) rfl (by decide +kernel) ?_
  refine jT_advK 8 (pcN := 39) (LN := [(4, (1, 0)), (0, (4, 0)), (1, (4, 1)), (2, (1, 1))]) (stN := [(1, 1), (4, 1), (4, 0)]) (hsN := jpA_681) (c1 := 0) (s1 := 0) (c2 := 4) (s2 := 174) (by decide +kernel) ?_ (by omega) (by omega)
  refine jT_fA [0, 1, 2, 3, 4, 5, 6, 7, 8, 9, 10, 11, 12, 13, 14, 15, 16, 17, 18, 19, 20, 21] 23 (y := 212) (pcN := 42) (dC := 4) (bc1 := 4) (bc2 := 174) (c1 := 0) (c2 := 0) (as := [(4, 0), (4, 1), (1, 1)]) (asC := [(4, 0), (4, 1), (1, 1)]) (LN := [(4, (1, 0)), (0, (4, 0)), (1, (4, 1)), (2, (1, 1))]) (stN := []) (hsC := jpA_679) (ex := jpA_680) (v := (0, (-1))) (st2 := [(0, (-1))]) (hs2 := jpA_682) (jA_212_157 (d := 0)) (by rfl) (by rfl) (by decide +kernel) (by rfl) (by rfl) (by omega) (by omega) (by omega) (by omega) rfl (by decide +kernel) ?_
  refine jT_advK 2 (pcN := 56) (LN := [(4, (1, 0)), (0, (4, 0)), (1, (4, 1)), (2, (1, 1))]) (stN := [(1, 0)]) (hsN := jpA_682) (c1 := 0) (s1 := 0) (c2 := 0) (s2 := 0) (by decide +kernel) ?_ (by omega) (by omega)
  exact jT_ret rfl (by decide) (by show 22 ≤ 27; decide) (by omega) (by omega) ⟨rfl, rfl, rfl⟩
def jpA_684 : List JC := [jzA_21, jgh, jgh, jgh, jgh, jgh, (130, [], [16, 17, 18, 19, 20, 21]), (101, [], [0, 0, 0, 0, 0, 0]), jgh, jgh, jgh, jgh, jgh, jgh, jgh, jgh, (100, [], (jenc (jlg 0))), jgh, jgh, jgh, jgh, jgh]
def jpA_685 : List JC := [jzA_21, jgh, jgh, jgh, jgh, jgh, (130, [], [16, 17, 18, 19, 20, 21]), (101, [], [0, 0, 0, 0, 0, 0]), jgh, jgh, jgh, jgh, jgh, jgh, jgh, jgh, (100, [], (jenc (jlg 0))), jgh, jgh, jgh, jgh, jgh, (101, [], [0, 0, 0, 0, 0, 0]), (101, [], [(-1), 0, 0, 0, 0, 0]), (100, [], (jenc 0)), (100, [], (jenc (-1))), (100, [], (jenc ((-1) * (jlg 0))))]
theorem jA_209_159 {xs : List Int} {d : Nat} : jT xs (d + 6) 209 22 0 [(0, (4, 0))] [] jpA_684 5 180 (fun k v hsN => k = 0 ∧ v = (1, 0) ∧ hsN = jpA_684 ++ jpA_683) := by
  refine jT_advK 5 (pcN := 9) (LN := [(0, (4, 0))]) (stN := [(1, 1), (4, 7), (4, 0)]) (hsN := jpA_684) (c1 := 0) (s1 := 0) (c2 := 5) (s2 := 180) (by decide +kernel) ?_ (by omega) (by omega)
  refine jT_fA [0, 7, 1, 2, 3, 4, 5, 6, 8, 9, 10, 11, 12, 13, 14, 15, 16, 17, 18, 19, 20, 21] 22 (y := 210) (pcN := 12) (dC := 5) (bc1 := 5) (bc2 := 180) (c1 := 0) (c2 := 0) (as := [(4, 0), (4, 7), (1, 1)]) (asC := [(4, 0), (4, 1), (1, 1)]) (LN := [(0, (4, 0))]) (stN := []) (hsC := jpA_679) (ex := jpA_683) (v := (1, 0)) (st2 := [(1, 0)]) (hs2 := jpA_685) (jA_210_158 (d := 0)) (by rfl) (by rfl) (by decide +kernel) (by rfl) (by rfl) (by omega) (by omega) (by omega) (by omega) rfl (by decide +kernel) ?_
  refine jT_advK 13 (pcN := 29) (LN := [(1, (1, 0)), (0, (4, 0))]) (stN := [(1, 0)]) (hsN := jpA_685) (c1 := 0) (s1 := 0) (c2 := 0) (s2 := 0) (by decide +kernel) ?_ (by omega) (by omega)
  exact jT_ret rfl (by decide) (by show 22 ≤ 27; decide) (by omega) (by omega) ⟨rfl, rfl, rfl⟩
theorem jI_208_13 : jmI (jm 208) 13 = (.aload_n 0, 1) := by rfl
theorem jI_208_14 : jmI (jm 208) 14 = (.iload_n 1, 1) := by rfl
theorem jI_208_18 : jmI (jm 208) 18 = (.aload_n 0, 1) := by rfl
def jpA_689 : List JC := [jzA_21, (100, [], jS0), (100, [], []), jzA_196, jzA_197, jgh, (130, [], [24, 25, 26, 27, 28, 29]), (101, [], [0, 0, 0, 0, 0, 0]), jgh, jgh, jgh, jgh, jgh, jgh, jgh, jgh, (100, [], (List.replicate 1613 0)), jgh, jgh, jgh, jgh, jgh, jgh, jgh, (100, [], (jenc (jlg 0))), jgh, jgh, jgh, jgh, jgh, (101, [], [0, 0, 0, 0, 0, 0]), (101, [], [(-1), 0, 0, 0, 0, 0]), (100, [], (jenc 0)), (100, [], (jenc (-1))), (100, [], (jenc ((-1) * (jlg 0))))]
theorem jI_208_22 : jmI (jm 208) 22 = (.lstore_n 2, 1) := by rfl
theorem jI_208_23 : jmI (jm 208) 23 = (.aload_n 0, 1) := by rfl
theorem jI_208_24 : jmI (jm 208) 24 = (.aload_n 0, 1) := by rfl
theorem jI_208_28 : jmI (jm 208) 28 = (.iconst 2, 1) := by rfl
theorem jI_208_32 : jmI (jm 208) 32 = (.ifCond .eq 5, 3) := by rfl
theorem jI_208_37 : jmI (jm 208) 37 = (.aload_n 0, 1) := by rfl
def jpA_696 : List JC := [jzA_200, (100, [], jS0), (100, [], []), jzA_196, jzA_201, jgh, (130, [], [24, 25, 26, 27, 28, 29]), (101, [], [0, 0, 0, 0, 0, 0]), jgh, jgh, jgh, jgh, jgh, jgh, jgh, jgh, (100, [], jS0), jgh, jgh, jgh, jgh, jgh, jgh, jgh, (100, [], (jenc (jlg 0))), jgh, jgh, jgh, jgh, jgh, (101, [], [0, 0, 0, 0, 0, 0]), (101, [], [(-1), 0, 0, 0, 0, 0]), (100, [], (jenc 0)), (100, [], (jenc (-1))), (100, [], (jenc ((-1) * (jlg 0))))]
theorem jI_208_41 : jmI (jm 208) 41 = (.aload_n 0, 1) := by rfl
theorem jI_208_42 : jmI (jm 208) 42 = (.iload_n 1, 1) := by rfl
theorem jI_208_47 : jmI (jm 208) 47 = (.lload_n 2, 1) := by rfl
theorem jI_208_48 : jmI (jm 208) 48 = (.l2i, 1) := by rfl
def jpA_701 : List JC := [jzA_21, (100, [], jS0), (100, [], []), jzA_196, jzA_197, jgh, (130, [], [24, 25, 26, 27, 28, 29]), (101, [], [0, 0, 0, 0, 0, 0]), jgh, jgh, jgh, jgh, jgh, jgh, jgh, jgh, (100, [], (List.replicate 1613 0)), jgh, jgh, jgh, jgh, jgh, jgh, jgh, (100, [], (jenc (jlg 0))), jgh, jgh, jgh, jgh, jgh]
theorem jA_208_160 {xs : List Int} {d : Nat} {x1 : Int} (h_x1 : 0 ≤ x1 ∧ x1 ≤ 7) : jT xs (d + 7) 208 30 0 [(0, (4, 0)), (1, (0, x1))] [] jpA_701 5 180 (fun k v hsN => k = 0 ∧ v = (0, 0) ∧ hsN = [jzA_200, (100, [], ((((((((((((((jS0).set ((7 * x1).toNat) 0)).set ((7 * x1 + 1).toNat) 0)).set ((7 * x1 + 2).toNat) 0)).set ((7 * x1 + 3).toNat) 0)).set ((7 * x1 + 4).toNat) 0)).set ((7 * x1 + 5).toNat) 0)).set ((7 * x1 + 6).toNat) 1)), (100, [], []), jzA_196, jzA_201, jgh, (130, [], [24, 25, 26, 27, 28, 29]), (101, [], [0, 0, 0, 0, 0, 0]), jgh, jgh, jgh, jgh, jgh, jgh, jgh, jgh, (100, [], jS0), jgh, jgh, jgh, jgh, jgh, jgh, jgh, (100, [], (jenc (jlg 0))), jgh, jgh, jgh, jgh, jgh, (101, [], [0, 0, 0, 0, 0, 0]), (101, [], [(-1), 0, 0, 0, 0, 0]), (100, [], (jenc 0)), (100, [], (jenc (-1))), (100, [], (jenc ((-1) * (jlg 0))))]) := by
  refine jT_xaload_n (v := (4, 0)) (pcN := 1) jI_208_0 rfl rfl rfl ?_
  refine jT_xiload_n (v := (0, x1)) (pcN := 2) jI_208_1 rfl rfl rfl ?_
  refine jT_fR [] 30 (y := 188) (pcN := 5) (dC := 1) (bc1 := 0) (bc2 := 0) (c1 := 5) (c2 := 180) (as := [(0, x1)]) (asC := [(0, x1)]) (LN := [(0, (4, 0)), (1, (0, x1))]) (stN := [(4, 0)]) (hsC := []) (v := (0, 1)) (st2 := [(0, 1), (4, 0)]) (jA_188_13 (d := 0) (by omega)) (by rfl) (by rfl) (by decide +kernel) (by rfl) (by rfl) (by omega) (by omega) (by omega) (by omega) rfl ?_
  refine jT_fR [0, 1, 2, 3, 4, 5, 6, 7, 8, 9, 10, 11, 12, 13, 14, 15] 30 (y := 190) (pcN := 8) (dC := 1) (bc1 := 0) (bc2 := 0) (c1 := 5) (c2 := 180) (as := [(4, 0), (0, 1)]) (asC := [(4, 0), (0, 1)]) (LN := [(0, (4, 0)), (1, (0, x1))]) (stN := []) (hsC := jpA_22) (v := (0, 0)) (st2 := [(0, 0)]) (jA_190_39 (d := 0)) (by rfl) (by rfl) (by decide +kernel) (by rfl) (by rfl) (by omega) (by omega) (by omega) (by omega) rfl ?_
  refine jT_xifT (pcN := 13) jI_208_8 rfl (by decide +kernel) rfl ?_
  refine jT_xaload_n (v := (4, 0)) (pcN := 14) jI_208_13 rfl rfl rfl ?_
  refine jT_xiload_n (v := (0, x1)) (pcN := 15) jI_208_14 rfl rfl rfl ?_
  refine jT_fR [0, 1, 2, 3, 4, 5, 6, 7, 8, 9, 10, 11, 12, 13, 14, 15] 30 (y := 202) (pcN := 18) (dC := 1) (bc1 := 0) (bc2 := 0) (c1 := 5) (c2 := 180) (as := [(4, 0), (0, x1)]) (asC := [(4, 0), (0, x1)]) (LN := [(0, (4, 0)), (1, (0, x1))]) (stN := []) (hsC := jpA_130) (v := (9, 0)) (st2 := []) (jA_202_115 (d := 0) (by omega)) (by rfl) (by rfl) (by decide +kernel) (by rfl) (by rfl) (by omega) (by omega) (by omega) (by omega) rfl ?_
  refine jT_xaload_n (v := (4, 0)) (pcN := 19) jI_208_18 rfl rfl rfl ?_
  refine jT_fA [0, 1, 2, 3, 4, 5, 6, 7, 8, 9, 10, 11, 12, 13, 14, 15, 24, 25, 26, 27, 28, 29] 30 (y := 209) (pcN := 22) (dC := 6) (bc1 := 5) (bc2 := 180) (c1 := 0) (c2 := 0) (as := [(4, 0)]) (asC := [(4, 0)]) (LN := [(0, (4, 0)), (1, (0, x1))]) (stN := []) (hsC := jpA_684) (ex := jpA_683) (v := (1, 0)) (st2 := [(1, 0)]) (hs2 := jpA_689) (jA_209_159 (d := 0)) (by rfl) (by rfl) (by decide +kernel) (by rfl) (by rfl) (by omega) (by omega) (by omega) (by omega) rfl (by decide +kernel) ?_
  refine jT_xlstore_n (v := (1, 0)) (LN := [(2, (1, 0)), (0, (4, 0)), (1, (0, x1))]) (pcN := 23) jI_208_22 rfl rfl rfl rfl ?_
  refine jT_xaload_n (v := (4, 0)) (pcN := 24) jI_208_23 rfl rfl rfl ?_
  refine jT_xaload_n (v := (4, 0)) (pcN := 25) jI_208_24 rfl rfl rfl ?_
  refine jT_fR [0, 1, 2, 3, 4, 5, 6, 7, 8, 9, 10, 11, 12, 13, 14, 15] 35 (y := 205) (pcN := 28) (dC := 1) (bc1 := 0) (bc2 := 0) (c1 := 0) (c2 := 0) (as := [(4, 0)]) (asC := [(4, 0)]) (LN := [(2, (1, 0)), (0, (4, 0)), (1, (0, x1))]) (stN := [(4, 0)]) (hsC := jpA_147) (v := (0, 1)) (st2 := [(0, 1), (4, 0)]) (jA_205_48 (d := 0)) (by rfl) (by rfl) (by decide +kernel) (by rfl) (by rfl) (by omega) (by omega) (by omega) (by omega) rfl ?_
  refine jT_xiconst (k := 2) (pcN := 29) jI_208_28 rfl ?_
  refine jT_fR [0] 35 (y := 191) (pcN := 32) (dC := 0) (bc1 := 0) (bc2 := 0) (c1 := 0) (c2 := 0) (as := [(4, 0), (0, 1), (0, 2)]) (asC := [(4, 0), (0, 1), (0, 2)]) (LN := [(2, (1, 0)), (0, (4, 0)), (1, (0, x1))]) (stN := []) (hsC := [jgh]) (v := (0, 0)) (st2 := [(0, 0)]) (jA_191_49 (d := 0)) (by rfl) (by rfl) (by decide +kernel) (by rfl) (by rfl) (by omega) (by omega) (by omega) (by omega) rfl ?_
  refine jT_xifT (pcN := 37) jI_208_32 rfl (by decide +kernel) rfl ?_
  refine jT_xaload_n (v := (4, 0)) (pcN := 38) jI_208_37 rfl rfl rfl ?_
  refine jT_fB [0, 1, 2, 3, 4, 5, 6, 7, 8, 9, 10, 11, 12, 13, 14, 15, 16, 17, 18, 19, 20, 21, 22, 23] 35 (y := 195) (pcN := 41) (dC := 0) (bc1 := 0) (bc2 := 0) (c1 := 0) (c2 := 0) (as := [(4, 0)]) (asC := [(4, 0)]) (LN := [(2, (1, 0)), (0, (4, 0)), (1, (0, x1))]) (stN := []) (hsC := jpA_198) (hsD := jpA_202) (v := (9, 0)) (st2 := []) (hs2 := jpA_696) (jA_195_50 (d := 0)) (by rfl) (by rfl) (by decide +kernel) (by rfl) (by rfl) (by omega) (by omega) (by omega) (by omega) rfl (by decide +kernel) ?_
  refine jT_xaload_n (v := (4, 0)) (pcN := 42) jI_208_41 rfl rfl rfl ?_
  refine jT_xiload_n (v := (0, x1)) (pcN := 43) jI_208_42 rfl rfl rfl ?_
  refine jT_fB [0, 1, 2, 3, 4, 5, 6, 7, 8, 9, 10, 11, 12, 13, 14, 15] 35 (y := 196) (pcN := 46) (dC := 1) (bc1 := 0) (bc2 := 0) (c1 := 0) (c2 := 0) (as := [(4, 0), (0, x1)]) (asC := [(4, 0), (0, x1)]) (LN := [(2, (1, 0)), (0, (4, 0)), (1, (0, x1))]) (stN := []) (hsC := jpA_216) (hsD := [jzA_200, (100, [], ((((((((((((((jS0).set ((7 * x1).toNat) 0)).set ((7 * x1 + 1).toNat) 0)).set ((7 * x1 + 2).toNat) 0)).set ((7 * x1 + 3).toNat) 0)).set ((7 * x1 + 4).toNat) 0)).set ((7 * x1 + 5).toNat) 0)).set ((7 * x1 + 6).toNat) 1)), jgh, jgh, jgh, jgh, jgh, (101, [], [0, 0, 0, 0, 0, 0]), jgh, jgh, jgh, jgh, jgh, jgh, jgh, jgh]) (v := (0, 1)) (st2 := [(0, 1)]) (hs2 := [jzA_200, (100, [], ((((((((((((((jS0).set ((7 * x1).toNat) 0)).set ((7 * x1 + 1).toNat) 0)).set ((7 * x1 + 2).toNat) 0)).set ((7 * x1 + 3).toNat) 0)).set ((7 * x1 + 4).toNat) 0)).set ((7 * x1 + 5).toNat) 0)).set ((7 * x1 + 6).toNat) 1)), (100, [], []), jzA_196, jzA_201, jgh, (130, [], [24, 25, 26, 27, 28, 29]), (101, [], [0, 0, 0, 0, 0, 0]), jgh, jgh, jgh, jgh, jgh, jgh, jgh, jgh, (100, [], jS0), jgh, jgh, jgh, jgh, jgh, jgh, jgh, (100, [], (jenc (jlg 0))), jgh, jgh, jgh, jgh, jgh, (101, [], [0, 0, 0, 0, 0, 0]), (101, [], [(-1), 0, 0, 0, 0, 0]), (100, [], (jenc 0)), (100, [], (jenc (-1))), (100, [], (jenc ((-1) * (jlg 0))))]) (jA_196_52 (d := 0) (by omega)) (by rfl) (by rfl) (by decide +kernel) (by rfl) (by rfl) (by omega) (by omega) (by omega) (by omega) rfl rfl ?_
  refine jT_adv 1 (pcN := 47) (LN := [(2, (1, 0)), (0, (4, 0)), (1, (0, x1))]) (stN := []) (hsN := [jzA_200, (100, [], ((((((((((((((jS0).set ((7 * x1).toNat) 0)).set ((7 * x1 + 1).toNat) 0)).set ((7 * x1 + 2).toNat) 0)).set ((7 * x1 + 3).toNat) 0)).set ((7 * x1 + 4).toNat) 0)).set ((7 * x1 + 5).toNat) 0)).set ((7 * x1 + 6).toNat) 1)), (100, [], []), jzA_196, jzA_201, jgh, (130, [], [24, 25, 26, 27, 28, 29]), (101, [], [0, 0, 0, 0, 0, 0]), jgh, jgh, jgh, jgh, jgh, jgh, jgh, jgh, (100, [], jS0), jgh, jgh, jgh, jgh, jgh, jgh, jgh, (100, [], (jenc (jlg 0))), jgh, jgh, jgh, jgh, jgh, (101, [], [0, 0, 0, 0, 0, 0]), (101, [], [(-1), 0, 0, 0, 0, 0]), (100, [], (jenc 0)), (100, [], (jenc (-1))), (100, [], (jenc ((-1) * (jlg 0))))]) (c1 := 0) (s1 := 0) (c2 := 0) (s2 := 0) (by exact rfl) ?_ (by omega) (by omega)
  refine jT_xlload_n (v := (1, 0)) (pcN := 48) jI_208_47 rfl rfl rfl ?_
  refine jT_xl2i (pcN := 49) jI_208_48 rfl rfl ?_
  exact jT_ret rfl (by decide) (by show 30 ≤ 35; decide) (by omega) (by omega) ⟨rfl, rfl, rfl⟩
theorem jA_121_161 {xs : List Int} {d : Nat} {x1 : Int} (h_x1 : 8 ≤ x1 ∧ x1 ≤ 2147483647) : jT xs (d + 1) 121 12 0 [(0, (4, 0)), (1, (0, x1))] [] jpA_6 1 6 (fun k v hsN => k = 1 ∧ v = (0, 0) ∧ hsN = jpA_6 ++ []) := by
  refine jT_xaload_n (v := (4, 0)) (pcN := 1) jI_121_0 rfl rfl rfl ?_
  refine jT_xiload_n (v := (0, x1)) (pcN := 2) jI_121_1 rfl rfl rfl ?_
  refine jT_xbipush (k := 8) (pcN := 4) jI_121_2 (by decide) rfl ?_
  exact jT_fX [0] 12 (y := 115) (pcN := 7) (dC := 0) (bc1 := 1) (bc2 := 6) (as := [(4, 0), (0, x1), (0, 8)]) (asC := [(4, 0), (0, x1), (0, 8)]) (LN := [(0, (4, 0)), (1, (0, x1))]) (stN := []) (hsC := [jgh]) (e := 0) (jA_115_65 (d := 0) (by omega)) (by rfl) (by rfl) (by decide +kernel) (by rfl) (by rfl) (by omega) (by omega) (by omega) (by omega) ⟨rfl, ⟨rfl, rfl, rfl⟩⟩
theorem jA_330_162 {xs : List Int} {d : Nat} {x1 : Int} (h_x1 : 8 ≤ x1 ∧ x1 ≤ 2147483647) : jT xs (d + 2) 330 13 0 [(0, (4, 0)), (1, (0, x1)), (2, (4, 1))] [] jpA_15 1 6 (fun k v hsN => k = 0 ∧ v = (0, 1) ∧ hsN = jpA_15 ++ []) := by
  refine jT_xaload_n (v := (4, 1)) (pcN := 1) jI_330_0 rfl rfl rfl ?_
  refine jT_xiconst (k := 0) (pcN := 2) jI_330_1 rfl ?_
  refine jT_xaload_n (v := (4, 0)) (pcN := 3) jI_330_2 rfl rfl rfl ?_
  refine jT_xiload_n (v := (0, x1)) (pcN := 4) jI_330_3 rfl rfl rfl ?_
  exact jT_fX [0, 2, 3, 4, 5, 6, 7, 8, 9, 10, 11, 12] 13 (y := 121) (pcN := 7) (dC := 1) (bc1 := 1) (bc2 := 6) (as := [(4, 0), (0, x1)]) (asC := [(4, 0), (0, x1)]) (LN := [(0, (4, 0)), (1, (0, x1)), (2, (4, 1))]) (stN := [(0, 0), (4, 1)]) (hsC := jpA_6) (e := 0) (jA_121_161 (d := 0) (by omega)) (by rfl) (by rfl) (by decide +kernel) (by rfl) (by rfl) (by omega) (by omega) (by omega) (by omega) (show _ from ⟨rfl, rfl, rfl⟩)
theorem jA_208_163 {xs : List Int} {d : Nat} {x1 : Int} (h_x1 : 8 ≤ x1 ∧ x1 ≤ 2147483647) : jT xs (d + 2) 208 16 0 [(0, (4, 0)), (1, (0, x1))] [] jpA_22 0 0 (fun k v hsN => k = 0 ∧ v = (0, 0) ∧ hsN = jpA_20) := by
  refine jT_xaload_n (v := (4, 0)) (pcN := 1) jI_208_0 rfl rfl rfl ?_
  refine jT_xiload_n (v := (0, x1)) (pcN := 2) jI_208_1 rfl rfl rfl ?_
  refine jT_fR [] 16 (y := 188) (pcN := 5) (dC := 1) (bc1 := 0) (bc2 := 0) (c1 := 0) (c2 := 0) (as := [(0, x1)]) (asC := [(0, x1)]) (LN := [(0, (4, 0)), (1, (0, x1))]) (stN := [(4, 0)]) (hsC := []) (v := (0, 0)) (st2 := [(0, 0), (4, 0)]) (jA_188_68 (d := 0) (by omega)) (by rfl) (by rfl) (by decide +kernel) (by rfl) (by rfl) (by omega) (by omega) (by omega) (by omega) rfl ?_
  refine jT_fB [0, 1, 2, 3, 4, 5, 6, 7, 8, 9, 10, 11, 12, 13, 14, 15] 16 (y := 190) (pcN := 8) (dC := 1) (bc1 := 0) (bc2 := 0) (c1 := 0) (c2 := 0) (as := [(4, 0), (0, 0)]) (asC := [(4, 0), (0, 0)]) (LN := [(0, (4, 0)), (1, (0, x1))]) (stN := []) (hsC := jpA_22) (hsD := jpA_20) (v := (0, 1)) (st2 := [(0, 1)]) (hs2 := jpA_20) (jA_190_6 (d := 0)) (by rfl) (by rfl) (by decide +kernel) (by rfl) (by rfl) (by omega) (by omega) (by omega) (by omega) rfl (by decide +kernel) ?_
  refine jT_xifF (t := 13) (pcN := 11) jI_208_8 rfl (by decide +kernel) rfl rfl ?_
  refine jT_xiconst (k := 0) (pcN := 12) jI_208_11 rfl ?_
  exact jT_ret rfl (by decide) (by show 16 ≤ 16; decide) (by omega) (by omega) ⟨rfl, rfl, rfl⟩
theorem jI_379_631 : jmI (jm 379) 631 = (.aload_n 1, 1) := by rfl
theorem jI_379_632 : jmI (jm 379) 632 = (.aload_n 0, 1) := by rfl
theorem jI_379_633 : jmI (jm 379) 633 = (.iload 5, 2) := by rfl
theorem jI_379_635 : jmI (jm 379) 635 = (.iconst 1, 1) := by rfl
theorem jI_379_636 : jmI (jm 379) 636 = (.iadd, 1) := by rfl
theorem jI_379_638 : jmI (jm 379) 638 = (.aload_n 3, 1) := by rfl
theorem jI_379_642 : jmI (jm 379) 642 = (.istore 6, 2) := by rfl
theorem jI_379_644 : jmI (jm 379) 644 = (.aload_n 2, 1) := by rfl
theorem jI_379_645 : jmI (jm 379) 645 = (.aload_n 0, 1) := by rfl
theorem jI_379_646 : jmI (jm 379) 646 = (.iload 5, 2) := by rfl
theorem jI_379_648 : jmI (jm 379) 648 = (.iconst 1, 1) := by rfl
theorem jI_379_649 : jmI (jm 379) 649 = (.iadd, 1) := by rfl
theorem jI_379_654 : jmI (jm 379) 654 = (.istore 7, 2) := by rfl
theorem jI_379_656 : jmI (jm 379) 656 = (.aload_n 2, 1) := by rfl
theorem jI_379_660 : jmI (jm 379) 660 = (.iload 6, 2) := by rfl
theorem jI_379_662 : jmI (jm 379) 662 = (.if_icmp .eq 5, 3) := by rfl
theorem jI_379_667 : jmI (jm 379) 667 = (.iload 6, 2) := by rfl
theorem jI_379_669 : jmI (jm 379) 669 = (.ifCond .ne 15, 3) := by rfl
theorem jI_379_684 : jmI (jm 379) 684 = (.goto 3056, 3) := by rfl
set_option maxRecDepth 100000 in
theorem jL_4_0 {d : Nat} {x0 x1 x2 x3 x4 : Int} (h_x0 : (-2147483648) ≤ x0 ∧ x0 ≤ 2147483647) (h_x1 : (-2147483648) ≤ x1 ∧ x1 ≤ (-1)) (h_x2 : (-2147483648) ≤ x2 ∧ x2 ≤ 2147483647) (h_x3 : (-2147483648) ≤ x3 ∧ x3 ≤ 2147483647) (h_x4 : (-2147483648) ≤ x4 ∧ x4 ≤ 2147483647) : jT [x0, x1, x2, x3, x4] (d + 3) 379 30 631 [(5, (0, 0)), (4, (4, 3)), (3, (4, 2)), (2, (4, 1)), (1, (4, 0)), (0, (6, 0))] [] jpA_267 1 6 (fun k v hsN => k = 0 ∧ v = (0, 1)) := by
  refine jT_xaload_n (v := (4, 0)) (pcN := 632) jI_379_631 rfl rfl rfl ?_
  refine jT_xaload_n (v := (6, 0)) (pcN := 633) jI_379_632 rfl rfl rfl ?_
  refine jT_xiload (v := (0, 0)) (pcN := 635) jI_379_633 rfl rfl rfl ?_
  refine jT_xiconst (k := 1) (pcN := 636) jI_379_635 rfl ?_
  refine jT_xiadd (x := 0) (y := 1) (z := 1) (pcN := 637) jI_379_636 rfl (by decide) rfl ?_
  refine jT_adv 1 (pcN := 638) (LN := [(5, (0, 0)), (4, (4, 3)), (3, (4, 2)), (2, (4, 1)), (1, (4, 0)), (0, (6, 0))]) (stN := [(0, x1), (4, 0)]) (hsN := jpA_267) (c1 := 0) (s1 := 0) (c2 := 1) (s2 := 6) (by exact rfl) ?_ (by omega) (by omega)
  refine jT_xaload_n (v := (4, 2)) (pcN := 639) jI_379_638 rfl rfl rfl ?_
  refine jT_fR [0, 2, 4, 5, 6, 7, 8, 9, 10, 11, 12, 13, 14] 30 (y := 330) (pcN := 642) (dC := 2) (bc1 := 1) (bc2 := 6) (c1 := 0) (c2 := 0) (as := [(4, 0), (0, x1), (4, 2)]) (asC := [(4, 0), (0, x1), (4, 1)]) (LN := [(5, (0, 0)), (4, (4, 3)), (3, (4, 2)), (2, (4, 1)), (1, (4, 0)), (0, (6, 0))]) (stN := []) (hsC := jpA_15) (v := (0, 1)) (st2 := [(0, 1)]) (jA_330_142 (d := 0) (by omega)) (by rfl) (by rfl) (by decide +kernel) (by rfl) (by rfl) (by omega) (by omega) (by omega) (by omega) rfl ?_
  refine jT_xistore (v := (0, 1)) (LN := [(6, (0, 1)), (5, (0, 0)), (4, (4, 3)), (3, (4, 2)), (2, (4, 1)), (1, (4, 0)), (0, (6, 0))]) (pcN := 644) jI_379_642 rfl rfl rfl rfl ?_
  refine jT_xaload_n (v := (4, 1)) (pcN := 645) jI_379_644 rfl rfl rfl ?_
  refine jT_xaload_n (v := (6, 0)) (pcN := 646) jI_379_645 rfl rfl rfl ?_
  refine jT_xiload (v := (0, 0)) (pcN := 648) jI_379_646 rfl rfl rfl ?_
  refine jT_xiconst (k := 1) (pcN := 649) jI_379_648 rfl ?_
  refine jT_xiadd (x := 0) (y := 1) (z := 1) (pcN := 650) jI_379_649 rfl (by decide) rfl ?_
  refine jT_adv 1 (pcN := 651) (LN := [(6, (0, 1)), (5, (0, 0)), (4, (4, 3)), (3, (4, 2)), (2, (4, 1)), (1, (4, 0)), (0, (6, 0))]) (stN := [(0, x1), (4, 1)]) (hsN := jpA_267) (c1 := 0) (s1 := 0) (c2 := 0) (s2 := 0) (by exact rfl) ?_ (by omega) (by omega)
  refine jT_fB [1, 15, 16, 17, 18, 19, 20, 21, 22, 23, 24, 25, 26, 27, 28, 29] 30 (y := 208) (pcN := 654) (dC := 2) (bc1 := 0) (bc2 := 0) (c1 := 0) (c2 := 0) (as := [(4, 1), (0, x1)]) (asC := [(4, 0), (0, x1)]) (LN := [(6, (0, 1)), (5, (0, 0)), (4, (4, 3)), (3, (4, 2)), (2, (4, 1)), (1, (4, 0)), (0, (6, 0))]) (stN := []) (hsC := jpA_22) (hsD := jpA_20) (v := (0, 0)) (st2 := [(0, 0)]) (hs2 := jpA_306) (jA_208_143 (d := 0) (by omega)) (by rfl) (by rfl) (by decide +kernel) (by rfl) (by rfl) (by omega) (by omega) (by omega) (by omega) rfl (by decide +kernel) ?_
  refine jT_xistore (v := (0, 0)) (LN := [(7, (0, 0)), (6, (0, 1)), (5, (0, 0)), (4, (4, 3)), (3, (4, 2)), (2, (4, 1)), (1, (4, 0)), (0, (6, 0))]) (pcN := 656) jI_379_654 rfl rfl rfl rfl ?_
  refine jT_xaload_n (v := (4, 1)) (pcN := 657) jI_379_656 rfl rfl rfl ?_
  refine jT_fR [1, 15, 16, 17, 18, 19, 20, 21, 22, 23, 24, 25, 26, 27, 28, 29] 30 (y := 186) (pcN := 660) (dC := 0) (bc1 := 0) (bc2 := 0) (c1 := 0) (c2 := 0) (as := [(4, 1)]) (asC := [(4, 0)]) (LN := [(7, (0, 0)), (6, (0, 1)), (5, (0, 0)), (4, (4, 3)), (3, (4, 2)), (2, (4, 1)), (1, (4, 0)), (0, (6, 0))]) (stN := []) (hsC := jpA_20) (v := (0, 1)) (st2 := [(0, 1)]) (jA_186_8 (d := 0)) (by rfl) (by rfl) (by decide +kernel) (by rfl) (by rfl) (by omega) (by omega) (by omega) (by omega) rfl ?_
  refine jT_xiload (v := (0, 1)) (pcN := 662) jI_379_660 rfl rfl rfl ?_
  refine jT_xicT (pcN := 667) jI_379_662 rfl (by decide +kernel) rfl ?_
  refine jT_xiload (v := (0, 1)) (pcN := 669) jI_379_667 rfl rfl rfl ?_
  refine jT_xifT (pcN := 684) jI_379_669 rfl (by decide +kernel) rfl ?_
  refine jT_xgoto (pcN := 3740) jI_379_684 rfl ?_
  refine jT_xiinc (x := 0) (z := 5) (LN := [(5, (0, 5)), (7, (0, 0)), (6, (0, 1)), (4, (4, 3)), (3, (4, 2)), (2, (4, 1)), (1, (4, 0)), (0, (6, 0))]) (pcN := 3743) jI_379_3740 rfl rfl (by decide) rfl rfl ?_
  refine jT_xgoto (pcN := 28) jI_379_3743 rfl ?_
  refine jT_xiload (v := (0, 5)) (pcN := 30) jI_379_28 rfl rfl rfl ?_
  refine jT_xaload_n (v := (6, 0)) (pcN := 31) jI_379_30 rfl rfl rfl ?_
  refine jT_adv 1 (pcN := 32) (LN := [(5, (0, 5)), (7, (0, 0)), (6, (0, 1)), (4, (4, 3)), (3, (4, 2)), (2, (4, 1)), (1, (4, 0)), (0, (6, 0))]) (stN := [(0, 5), (0, 5)]) (hsN := jpA_306) (c1 := 0) (s1 := 0) (c2 := 0) (s2 := 0) (by exact rfl) ?_ (by omega) (by omega)
  refine jT_xiconst (k := 5) (pcN := 33) jI_379_32 rfl ?_
  refine jT_xisub (x := 5) (y := 5) (z := 0) (pcN := 34) jI_379_33 rfl (by decide) rfl ?_
  refine jT_xicT (pcN := 3746) jI_379_34 rfl (by decide +kernel) rfl ?_
  refine jT_xiconst (k := 1) (pcN := 3747) jI_379_3746 rfl ?_
  exact jT_ret rfl (by decide) (by show 30 ≤ 30; decide) (by omega) (by omega) ⟨rfl, rfl⟩
def jzA_721 : JC := (9, [(4, 32), (4, 33), (4, 34), (4, 35), (4, 36)], [])
def jzA_722 : JC := (130, [], [37, 38, 39, 40, 41, 42, 43, 44])
def jzA_723 : JC := (114, [], [51, 51, 51, 51, 51, 51, 51, 51])
def jpA_724 : List JC := [jzA_265, jzA_266, (101, [], [0]), jgh, (8, [(4, 30), (4, 31)], []), jgh, jgh, jgh, jgh, jgh, jgh, jgh, jgh, jzA_79, jzA_721, (100, [], jS0), (100, [], []), jzA_722, jzA_197, jgh, (130, [], [45, 46, 47, 48, 49, 50]), (101, [], [0, 0, 0, 0, 0, 0]), jgh, jgh, jgh, jgh, jgh, jgh, jgh, jgh, jgh, jgh, jzA_723, jgh, jgh, jgh, jgh, (100, [], (List.replicate 1613 0)), jgh, jgh, jgh, jgh, jgh, jgh, jgh, (100, [], (jenc (jlg 0))), jgh, jgh, jgh, jgh, jgh, (4, [(4, 52), (1, 1)], []), (101, [], [0, 0, 0, 0, 0, 0])]
def jzA_725 : JC := (13, [(4, 4), (4, 5), (4, 6), (4, 7), (4, 8), (4, 9), (4, 10), (4, 11), (4, 12), (4, 13), (0, 1), (4, 56), (0, 0)], [])
def jzA_726 : JC := (9, [(4, 55), (4, 33), (4, 34), (4, 35), (4, 36)], [])
def jpA_727 : List JC := [jzA_725, jzA_266, (101, [], [0]), jgh, (8, [(4, 30), (4, 31)], []), jgh, jgh, jgh, jgh, jgh, jgh, jgh, jgh, jzA_327, jzA_721, (100, [], jS0), (100, [], []), jzA_722, jzA_197, jgh, (130, [], [45, 46, 47, 48, 49, 50]), (101, [], [0, 0, 0, 0, 0, 0]), jgh, jgh, jgh, jgh, jgh, jgh, jgh, jgh, jgh, jgh, jzA_723, jgh, jgh, jgh, jgh, (100, [], (List.replicate 1613 0)), jgh, jgh, jgh, jgh, jgh, jgh, jgh, (100, [], (jenc (jlg 0))), jgh, jgh, jgh, jgh, jgh, (4, [(4, 52), (1, 1)], []), (101, [], [0, 0, 0, 0, 0, 0]), (101, [], [0, 0, 0, 0, 0, 0]), (4, [(4, 53), (1, 1)], []), jgh, jzA_726]
theorem jI_379_672 : jmI (jm 379) 672 = (.aload_n 3, 1) := by rfl
theorem jI_379_673 : jmI (jm 379) 673 = (.iconst 0, 1) := by rfl
theorem jI_379_674 : jmI (jm 379) 674 = (.laload, 1) := by rfl
theorem jI_379_675 : jmI (jm 379) 675 = (.iload 7, 2) := by rfl
theorem jI_379_677 : jmI (jm 379) 677 = (.i2l, 1) := by rfl
theorem jI_379_679 : jmI (jm 379) 679 = (.ifCond .eq 5, 3) := by rfl
set_option maxRecDepth 100000 in
theorem jL_4_1 {d : Nat} {x0 x1 x2 x3 x4 : Int} (h_x0 : (-2147483648) ≤ x0 ∧ x0 ≤ 2147483647) (h_x1 : 0 ≤ x1 ∧ x1 ≤ 7) (h_x2 : (-2147483648) ≤ x2 ∧ x2 ≤ 2147483647) (h_x3 : (-2147483648) ≤ x3 ∧ x3 ≤ 2147483647) (h_x4 : (-2147483648) ≤ x4 ∧ x4 ≤ 2147483647) : jT [x0, x1, x2, x3, x4] (d + 8) 379 53 631 [(5, (0, 0)), (4, (4, 3)), (3, (4, 2)), (2, (4, 1)), (1, (4, 0)), (0, (6, 0))] [] jpA_724 9 201 (fun k v hsN => k = 0 ∧ v = (0, 1)) := by
  refine jT_xaload_n (v := (4, 0)) (pcN := 632) jI_379_631 rfl rfl rfl ?_
  refine jT_xaload_n (v := (6, 0)) (pcN := 633) jI_379_632 rfl rfl rfl ?_
  refine jT_xiload (v := (0, 0)) (pcN := 635) jI_379_633 rfl rfl rfl ?_
  refine jT_xiconst (k := 1) (pcN := 636) jI_379_635 rfl ?_
  refine jT_xiadd (x := 0) (y := 1) (z := 1) (pcN := 637) jI_379_636 rfl (by decide) rfl ?_
  refine jT_adv 1 (pcN := 638) (LN := [(5, (0, 0)), (4, (4, 3)), (3, (4, 2)), (2, (4, 1)), (1, (4, 0)), (0, (6, 0))]) (stN := [(0, x1), (4, 0)]) (hsN := jpA_724) (c1 := 0) (s1 := 0) (c2 := 9) (s2 := 201) (by exact rfl) ?_ (by omega) (by omega)
  refine jT_xaload_n (v := (4, 2)) (pcN := 639) jI_379_638 rfl rfl rfl ?_
  refine jT_fB [0, 2, 4, 5, 6, 7, 8, 9, 10, 11, 12, 13, 14, 30, 31, 32, 33, 34, 35, 36, 51, 52] 53 (y := 330) (pcN := 642) (dC := 4) (bc1 := 4) (bc2 := 21) (c1 := 5) (c2 := 180) (as := [(4, 0), (0, x1), (4, 2)]) (asC := [(4, 0), (0, x1), (4, 1)]) (LN := [(5, (0, 0)), (4, (4, 3)), (3, (4, 2)), (2, (4, 1)), (1, (4, 0)), (0, (6, 0))]) (stN := []) (hsC := jpA_666) (hsD := jpA_662) (v := (0, 0)) (st2 := [(0, 0)]) (hs2 := jpA_727) (jA_330_150 (d := 0) (by omega)) (by rfl) (by rfl) (by decide +kernel) (by rfl) (by rfl) (by omega) (by omega) (by omega) (by omega) rfl (by decide +kernel) ?_
  refine jT_xistore (v := (0, 0)) (LN := [(6, (0, 0)), (5, (0, 0)), (4, (4, 3)), (3, (4, 2)), (2, (4, 1)), (1, (4, 0)), (0, (6, 0))]) (pcN := 644) jI_379_642 rfl rfl rfl rfl ?_
  refine jT_xaload_n (v := (4, 1)) (pcN := 645) jI_379_644 rfl rfl rfl ?_
  refine jT_xaload_n (v := (6, 0)) (pcN := 646) jI_379_645 rfl rfl rfl ?_
  refine jT_xiload (v := (0, 0)) (pcN := 648) jI_379_646 rfl rfl rfl ?_
  refine jT_xiconst (k := 1) (pcN := 649) jI_379_648 rfl ?_
  refine jT_xiadd (x := 0) (y := 1) (z := 1) (pcN := 650) jI_379_649 rfl (by decide) rfl ?_
  refine jT_adv 1 (pcN := 651) (LN := [(6, (0, 0)), (5, (0, 0)), (4, (4, 3)), (3, (4, 2)), (2, (4, 1)), (1, (4, 0)), (0, (6, 0))]) (stN := [(0, x1), (4, 1)]) (hsN := jpA_727) (c1 := 0) (s1 := 0) (c2 := 5) (s2 := 180) (by exact rfl) ?_ (by omega) (by omega)
  refine jT_fB [1, 15, 16, 17, 18, 19, 20, 21, 22, 23, 24, 25, 26, 27, 28, 29, 37, 38, 39, 40, 41, 42, 43, 44, 45, 46, 47, 48, 49, 50] 57 (y := 208) (pcN := 654) (dC := 7) (bc1 := 5) (bc2 := 180) (c1 := 0) (c2 := 0) (as := [(4, 1), (0, x1)]) (asC := [(4, 0), (0, x1)]) (LN := [(6, (0, 0)), (5, (0, 0)), (4, (4, 3)), (3, (4, 2)), (2, (4, 1)), (1, (4, 0)), (0, (6, 0))]) (stN := []) (hsC := jpA_701) (hsD := [jzA_200, (100, [], ((((((((((((((jS0).set ((7 * x1).toNat) 0)).set ((7 * x1 + 1).toNat) 0)).set ((7 * x1 + 2).toNat) 0)).set ((7 * x1 + 3).toNat) 0)).set ((7 * x1 + 4).toNat) 0)).set ((7 * x1 + 5).toNat) 0)).set ((7 * x1 + 6).toNat) 1)), (100, [], []), jzA_196, jzA_201, jgh, (130, [], [24, 25, 26, 27, 28, 29]), (101, [], [0, 0, 0, 0, 0, 0]), jgh, jgh, jgh, jgh, jgh, jgh, jgh, jgh, (100, [], jS0), jgh, jgh, jgh, jgh, jgh, jgh, jgh, (100, [], (jenc (jlg 0))), jgh, jgh, jgh, jgh, jgh, (101, [], [0, 0, 0, 0, 0, 0]), (101, [], [(-1), 0, 0, 0, 0, 0]), (100, [], (jenc 0)), (100, [], (jenc (-1))), (100, [], (jenc ((-1) * (jlg 0))))]) (v := (0, 0)) (st2 := [(0, 0)]) (hs2 := [jzA_725, jzA_330, (101, [], [0]), jgh, (8, [(4, 30), (4, 31)], []), jgh, jgh, jgh, jgh, jgh, jgh, jgh, jgh, jzA_327, jzA_721, (100, [], ((((((((((((((jS0).set ((7 * x1).toNat) 0)).set ((7 * x1 + 1).toNat) 0)).set ((7 * x1 + 2).toNat) 0)).set ((7 * x1 + 3).toNat) 0)).set ((7 * x1 + 4).toNat) 0)).set ((7 * x1 + 5).toNat) 0)).set ((7 * x1 + 6).toNat) 1)), (100, [], []), jzA_722, jzA_331, jgh, (130, [], [45, 46, 47, 48, 49, 50]), (101, [], [0, 0, 0, 0, 0, 0]), jgh, jgh, jgh, jgh, jgh, jgh, jgh, jgh, jgh, jgh, jzA_723, jgh, jgh, jgh, jgh, (100, [], jS0), jgh, jgh, jgh, jgh, jgh, jgh, jgh, (100, [], (jenc (jlg 0))), jgh, jgh, jgh, jgh, jgh, (4, [(4, 52), (1, 1)], []), (101, [], [0, 0, 0, 0, 0, 0]), (101, [], [0, 0, 0, 0, 0, 0]), (4, [(4, 53), (1, 1)], []), jgh, jzA_726, (101, [], [0, 0, 0, 0, 0, 0]), (101, [], [(-1), 0, 0, 0, 0, 0]), (100, [], (jenc 0)), (100, [], (jenc (-1))), (100, [], (jenc ((-1) * (jlg 0))))]) (jA_208_160 (d := 0) (by omega)) (by rfl) (by rfl) (by decide +kernel) (by rfl) (by rfl) (by omega) (by omega) (by omega) (by omega) rfl rfl ?_
  refine jT_xistore (v := (0, 0)) (LN := [(7, (0, 0)), (6, (0, 0)), (5, (0, 0)), (4, (4, 3)), (3, (4, 2)), (2, (4, 1)), (1, (4, 0)), (0, (6, 0))]) (pcN := 656) jI_379_654 rfl rfl rfl rfl ?_
  refine jT_xaload_n (v := (4, 1)) (pcN := 657) jI_379_656 rfl rfl rfl ?_
  refine jT_callA [1, 15, 16, 17, 18, 19, 20, 21, 22, 23, 24, 25, 26, 27, 28, 29] (y := 186) (pcN := 660) (dC := 0) (bc1 := 0) (bc2 := 0) (c1 := 0) (c2 := 0) (as := [(4, 1)]) (asC := [(4, 0)]) (LN := [(7, (0, 0)), (6, (0, 0)), (5, (0, 0)), (4, (4, 3)), (3, (4, 2)), (2, (4, 1)), (1, (4, 0)), (0, (6, 0))]) (stN := []) (hsC := jpA_258) (ex := []) (v := (0, 0)) (st2 := [(0, 0)]) (hs2 := [jzA_725, jzA_330, (101, [], [0]), jgh, (8, [(4, 30), (4, 31)], []), jgh, jgh, jgh, jgh, jgh, jgh, jgh, jgh, jzA_327, jzA_721, (100, [], ((((((((((((((jS0).set ((7 * x1).toNat) 0)).set ((7 * x1 + 1).toNat) 0)).set ((7 * x1 + 2).toNat) 0)).set ((7 * x1 + 3).toNat) 0)).set ((7 * x1 + 4).toNat) 0)).set ((7 * x1 + 5).toNat) 0)).set ((7 * x1 + 6).toNat) 1)), (100, [], []), jzA_722, jzA_331, jgh, (130, [], [45, 46, 47, 48, 49, 50]), (101, [], [0, 0, 0, 0, 0, 0]), jgh, jgh, jgh, jgh, jgh, jgh, jgh, jgh, jgh, jgh, jzA_723, jgh, jgh, jgh, jgh, (100, [], jS0), jgh, jgh, jgh, jgh, jgh, jgh, jgh, (100, [], (jenc (jlg 0))), jgh, jgh, jgh, jgh, jgh, (4, [(4, 52), (1, 1)], []), (101, [], [0, 0, 0, 0, 0, 0]), (101, [], [0, 0, 0, 0, 0, 0]), (4, [(4, 53), (1, 1)], []), jgh, jzA_726, (101, [], [0, 0, 0, 0, 0, 0]), (101, [], [(-1), 0, 0, 0, 0, 0]), (100, [], (jenc 0)), (100, [], (jenc (-1))), (100, [], (jenc ((-1) * (jlg 0))))]) (jA_186_54 (d := 0)) (by rfl) (by rfl) (by rfl) (by rfl) ⟨rfl, rfl, rfl, rfl, rfl, rfl, rfl, rfl, rfl, rfl, rfl, rfl, rfl, rfl, rfl, rfl, trivial⟩ (by rfl) (by rfl) (by omega) (by show 53 ≤ 62; omega) (by omega) (by omega) rfl rfl ?_
  refine jT_xiload (v := (0, 0)) (pcN := 662) jI_379_660 rfl rfl rfl ?_
  refine jT_xicT (pcN := 667) jI_379_662 rfl (by decide +kernel) rfl ?_
  refine jT_xiload (v := (0, 0)) (pcN := 669) jI_379_667 rfl rfl rfl ?_
  refine jT_xifF (t := 684) (pcN := 672) jI_379_669 rfl (by decide +kernel) rfl rfl ?_
  refine jT_xaload_n (v := (4, 2)) (pcN := 673) jI_379_672 rfl rfl rfl ?_
  refine jT_xiconst (k := 0) (pcN := 674) jI_379_673 rfl ?_
  refine jT_lald (x := 0) (a := 2) (j := 0) (fs := []) (X := [0]) jI_379_674 rfl rfl rfl rfl ?_
  refine jT_eq (LN := [(7, (0, 0)), (6, (0, 0)), (5, (0, 0)), (4, (4, 3)), (3, (4, 2)), (2, (4, 1)), (1, (4, 0)), (0, (6, 0))]) (stN := [(1, 0)]) (hsN := [jzA_725, jzA_330, (101, [], [0]), jgh, (8, [(4, 30), (4, 31)], []), jgh, jgh, jgh, jgh, jgh, jgh, jgh, jgh, jzA_327, jzA_721, (100, [], ((((((((((((((jS0).set ((7 * x1).toNat) 0)).set ((7 * x1 + 1).toNat) 0)).set ((7 * x1 + 2).toNat) 0)).set ((7 * x1 + 3).toNat) 0)).set ((7 * x1 + 4).toNat) 0)).set ((7 * x1 + 5).toNat) 0)).set ((7 * x1 + 6).toNat) 1)), (100, [], []), jzA_722, jzA_331, jgh, (130, [], [45, 46, 47, 48, 49, 50]), (101, [], [0, 0, 0, 0, 0, 0]), jgh, jgh, jgh, jgh, jgh, jgh, jgh, jgh, jgh, jgh, jzA_723, jgh, jgh, jgh, jgh, (100, [], jS0), jgh, jgh, jgh, jgh, jgh, jgh, jgh, (100, [], (jenc (jlg 0))), jgh, jgh, jgh, jgh, jgh, (4, [(4, 52), (1, 1)], []), (101, [], [0, 0, 0, 0, 0, 0]), (101, [], [0, 0, 0, 0, 0, 0]), (4, [(4, 53), (1, 1)], []), jgh, jzA_726, (101, [], [0, 0, 0, 0, 0, 0]), (101, [], [(-1), 0, 0, 0, 0, 0]), (100, [], (jenc 0)), (100, [], (jenc (-1))), (100, [], (jenc ((-1) * (jlg 0))))]) rfl rfl rfl ?_
  refine jT_xiload (v := (0, 0)) (pcN := 677) jI_379_675 rfl rfl rfl ?_
  refine jT_xi2l (x := 0) (z := 0) (pcN := 678) jI_379_677 rfl (by decide +kernel) rfl ?_
  refine jT_lcmp (a := 0) (b := 0) (z := 0) (by rfl) (by rfl) (by decide +kernel) (by decide +kernel) (by decide) ?_
  refine jT_xifT (pcN := 684) jI_379_679 rfl (by decide +kernel) rfl ?_
  refine jT_xgoto (pcN := 3740) jI_379_684 rfl ?_
  refine jT_xiinc (x := 0) (z := 5) (LN := [(5, (0, 5)), (7, (0, 0)), (6, (0, 0)), (4, (4, 3)), (3, (4, 2)), (2, (4, 1)), (1, (4, 0)), (0, (6, 0))]) (pcN := 3743) jI_379_3740 rfl rfl (by decide) rfl rfl ?_
  refine jT_xgoto (pcN := 28) jI_379_3743 rfl ?_
  refine jT_xiload (v := (0, 5)) (pcN := 30) jI_379_28 rfl rfl rfl ?_
  refine jT_xaload_n (v := (6, 0)) (pcN := 31) jI_379_30 rfl rfl rfl ?_
  refine jT_adv 1 (pcN := 32) (LN := [(5, (0, 5)), (7, (0, 0)), (6, (0, 0)), (4, (4, 3)), (3, (4, 2)), (2, (4, 1)), (1, (4, 0)), (0, (6, 0))]) (stN := [(0, 5), (0, 5)]) (hsN := [jzA_725, jzA_330, (101, [], [0]), jgh, (8, [(4, 30), (4, 31)], []), jgh, jgh, jgh, jgh, jgh, jgh, jgh, jgh, jzA_327, jzA_721, (100, [], ((((((((((((((jS0).set ((7 * x1).toNat) 0)).set ((7 * x1 + 1).toNat) 0)).set ((7 * x1 + 2).toNat) 0)).set ((7 * x1 + 3).toNat) 0)).set ((7 * x1 + 4).toNat) 0)).set ((7 * x1 + 5).toNat) 0)).set ((7 * x1 + 6).toNat) 1)), (100, [], []), jzA_722, jzA_331, jgh, (130, [], [45, 46, 47, 48, 49, 50]), (101, [], [0, 0, 0, 0, 0, 0]), jgh, jgh, jgh, jgh, jgh, jgh, jgh, jgh, jgh, jgh, jzA_723, jgh, jgh, jgh, jgh, (100, [], jS0), jgh, jgh, jgh, jgh, jgh, jgh, jgh, (100, [], (jenc (jlg 0))), jgh, jgh, jgh, jgh, jgh, (4, [(4, 52), (1, 1)], []), (101, [], [0, 0, 0, 0, 0, 0]), (101, [], [0, 0, 0, 0, 0, 0]), (4, [(4, 53), (1, 1)], []), jgh, jzA_726, (101, [], [0, 0, 0, 0, 0, 0]), (101, [], [(-1), 0, 0, 0, 0, 0]), (100, [], (jenc 0)), (100, [], (jenc (-1))), (100, [], (jenc ((-1) * (jlg 0))))]) (c1 := 0) (s1 := 0) (c2 := 0) (s2 := 0) (by exact rfl) ?_ (by omega) (by omega)
  refine jT_xiconst (k := 5) (pcN := 33) jI_379_32 rfl ?_
  refine jT_xisub (x := 5) (y := 5) (z := 0) (pcN := 34) jI_379_33 rfl (by decide) rfl ?_
  refine jT_xicT (pcN := 3746) jI_379_34 rfl (by decide +kernel) rfl ?_
  refine jT_xiconst (k := 1) (pcN := 3747) jI_379_3746 rfl ?_
  exact jT_ret rfl (by decide) (by show 53 ≤ 62; decide) (by omega) (by omega) ⟨rfl, rfl⟩
set_option maxRecDepth 100000 in
theorem jL_4_2 {d : Nat} {x0 x1 x2 x3 x4 : Int} (h_x0 : (-2147483648) ≤ x0 ∧ x0 ≤ 2147483647) (h_x1 : 8 ≤ x1 ∧ x1 ≤ 2147483647) (h_x2 : (-2147483648) ≤ x2 ∧ x2 ≤ 2147483647) (h_x3 : (-2147483648) ≤ x3 ∧ x3 ≤ 2147483647) (h_x4 : (-2147483648) ≤ x4 ∧ x4 ≤ 2147483647) : jT [x0, x1, x2, x3, x4] (d + 3) 379 30 631 [(5, (0, 0)), (4, (4, 3)), (3, (4, 2)), (2, (4, 1)), (1, (4, 0)), (0, (6, 0))] [] jpA_267 1 6 (fun k v hsN => k = 0 ∧ v = (0, 1)) := by
  refine jT_xaload_n (v := (4, 0)) (pcN := 632) jI_379_631 rfl rfl rfl ?_
  refine jT_xaload_n (v := (6, 0)) (pcN := 633) jI_379_632 rfl rfl rfl ?_
  refine jT_xiload (v := (0, 0)) (pcN := 635) jI_379_633 rfl rfl rfl ?_
  refine jT_xiconst (k := 1) (pcN := 636) jI_379_635 rfl ?_
  refine jT_xiadd (x := 0) (y := 1) (z := 1) (pcN := 637) jI_379_636 rfl (by decide) rfl ?_
  refine jT_adv 1 (pcN := 638) (LN := [(5, (0, 0)), (4, (4, 3)), (3, (4, 2)), (2, (4, 1)), (1, (4, 0)), (0, (6, 0))]) (stN := [(0, x1), (4, 0)]) (hsN := jpA_267) (c1 := 0) (s1 := 0) (c2 := 1) (s2 := 6) (by exact rfl) ?_ (by omega) (by omega)
  refine jT_xaload_n (v := (4, 2)) (pcN := 639) jI_379_638 rfl rfl rfl ?_
  refine jT_fR [0, 2, 4, 5, 6, 7, 8, 9, 10, 11, 12, 13, 14] 30 (y := 330) (pcN := 642) (dC := 2) (bc1 := 1) (bc2 := 6) (c1 := 0) (c2 := 0) (as := [(4, 0), (0, x1), (4, 2)]) (asC := [(4, 0), (0, x1), (4, 1)]) (LN := [(5, (0, 0)), (4, (4, 3)), (3, (4, 2)), (2, (4, 1)), (1, (4, 0)), (0, (6, 0))]) (stN := []) (hsC := jpA_15) (v := (0, 1)) (st2 := [(0, 1)]) (jA_330_162 (d := 0) (by omega)) (by rfl) (by rfl) (by decide +kernel) (by rfl) (by rfl) (by omega) (by omega) (by omega) (by omega) rfl ?_
  refine jT_xistore (v := (0, 1)) (LN := [(6, (0, 1)), (5, (0, 0)), (4, (4, 3)), (3, (4, 2)), (2, (4, 1)), (1, (4, 0)), (0, (6, 0))]) (pcN := 644) jI_379_642 rfl rfl rfl rfl ?_
  refine jT_xaload_n (v := (4, 1)) (pcN := 645) jI_379_644 rfl rfl rfl ?_
  refine jT_xaload_n (v := (6, 0)) (pcN := 646) jI_379_645 rfl rfl rfl ?_
  refine jT_xiload (v := (0, 0)) (pcN := 648) jI_379_646 rfl rfl rfl ?_
  refine jT_xiconst (k := 1) (pcN := 649) jI_379_648 rfl ?_
  refine jT_xiadd (x := 0) (y := 1) (z := 1) (pcN := 650) jI_379_649 rfl (by decide) rfl ?_
  refine jT_adv 1 (pcN := 651) (LN := [(6, (0, 1)), (5, (0, 0)), (4, (4, 3)), (3, (4, 2)), (2, (4, 1)), (1, (4, 0)), (0, (6, 0))]) (stN := [(0, x1), (4, 1)]) (hsN := jpA_267) (c1 := 0) (s1 := 0) (c2 := 0) (s2 := 0) (by exact rfl) ?_ (by omega) (by omega)
  refine jT_fB [1, 15, 16, 17, 18, 19, 20, 21, 22, 23, 24, 25, 26, 27, 28, 29] 30 (y := 208) (pcN := 654) (dC := 2) (bc1 := 0) (bc2 := 0) (c1 := 0) (c2 := 0) (as := [(4, 1), (0, x1)]) (asC := [(4, 0), (0, x1)]) (LN := [(6, (0, 1)), (5, (0, 0)), (4, (4, 3)), (3, (4, 2)), (2, (4, 1)), (1, (4, 0)), (0, (6, 0))]) (stN := []) (hsC := jpA_22) (hsD := jpA_20) (v := (0, 0)) (st2 := [(0, 0)]) (hs2 := jpA_306) (jA_208_163 (d := 0) (by omega)) (by rfl) (by rfl) (by decide +kernel) (by rfl) (by rfl) (by omega) (by omega) (by omega) (by omega) rfl (by decide +kernel) ?_
  refine jT_xistore (v := (0, 0)) (LN := [(7, (0, 0)), (6, (0, 1)), (5, (0, 0)), (4, (4, 3)), (3, (4, 2)), (2, (4, 1)), (1, (4, 0)), (0, (6, 0))]) (pcN := 656) jI_379_654 rfl rfl rfl rfl ?_
  refine jT_xaload_n (v := (4, 1)) (pcN := 657) jI_379_656 rfl rfl rfl ?_
  refine jT_fR [1, 15, 16, 17, 18, 19, 20, 21, 22, 23, 24, 25, 26, 27, 28, 29] 30 (y := 186) (pcN := 660) (dC := 0) (bc1 := 0) (bc2 := 0) (c1 := 0) (c2 := 0) (as := [(4, 1)]) (asC := [(4, 0)]) (LN := [(7, (0, 0)), (6, (0, 1)), (5, (0, 0)), (4, (4, 3)), (3, (4, 2)), (2, (4, 1)), (1, (4, 0)), (0, (6, 0))]) (stN := []) (hsC := jpA_20) (v := (0, 1)) (st2 := [(0, 1)]) (jA_186_8 (d := 0)) (by rfl) (by rfl) (by decide +kernel) (by rfl) (by rfl) (by omega) (by omega) (by omega) (by omega) rfl ?_
  refine jT_xiload (v := (0, 1)) (pcN := 662) jI_379_660 rfl rfl rfl ?_
  refine jT_xicT (pcN := 667) jI_379_662 rfl (by decide +kernel) rfl ?_
  refine jT_xiload (v := (0, 1)) (pcN := 669) jI_379_667 rfl rfl rfl ?_
  refine jT_xifT (pcN := 684) jI_379_669 rfl (by decide +kernel) rfl ?_
  refine jT_xgoto (pcN := 3740) jI_379_684 rfl ?_
  refine jT_xiinc (x := 0) (z := 5) (LN := [(5, (0, 5)), (7, (0, 0)), (6, (0, 1)), (4, (4, 3)), (3, (4, 2)), (2, (4, 1)), (1, (4, 0)), (0, (6, 0))]) (pcN := 3743) jI_379_3740 rfl rfl (by decide) rfl rfl ?_
  refine jT_xgoto (pcN := 28) jI_379_3743 rfl ?_
  refine jT_xiload (v := (0, 5)) (pcN := 30) jI_379_28 rfl rfl rfl ?_
  refine jT_xaload_n (v := (6, 0)) (pcN := 31) jI_379_30 rfl rfl rfl ?_
  refine jT_adv 1 (pcN := 32) (LN := [(5, (0, 5)), (7, (0, 0)), (6, (0, 1)), (4, (4, 3)), (3, (4, 2)), (2, (4, 1)), (1, (4, 0)), (0, (6, 0))]) (stN := [(0, 5), (0, 5)]) (hsN := jpA_306) (c1 := 0) (s1 := 0) (c2 := 0) (s2 := 0) (by exact rfl) ?_ (by omega) (by omega)
  refine jT_xiconst (k := 5) (pcN := 33) jI_379_32 rfl ?_
  refine jT_xisub (x := 5) (y := 5) (z := 0) (pcN := 34) jI_379_33 rfl (by decide) rfl ?_
  refine jT_xicT (pcN := 3746) jI_379_34 rfl (by decide +kernel) rfl ?_
  refine jT_xiconst (k := 1) (pcN := 3747) jI_379_3746 rfl ?_
  exact jT_ret rfl (by decide) (by show 30 ≤ 30; decide) (by omega) (by omega) ⟨rfl, rfl⟩
theorem jI_122_0 : jmI (jm 122) 0 = (.aload_n 0, 1) := by rfl
theorem jI_122_1 : jmI (jm 122) 1 = (.iload_n 1, 1) := by rfl
theorem jI_122_2 : jmI (jm 122) 2 = (.bipush 8, 2) := by rfl
theorem jA_122_164 {xs : List Int} {d : Nat} {x1 x2 x3 : Int} (h_x1 : (-2147483648) ≤ x1 ∧ x1 ≤ (-1)) (h_x2 : (-2147483648) ≤ x2 ∧ x2 ≤ 2147483647) (h_x3 : (-2147483648) ≤ x3 ∧ x3 ≤ 2147483647) : jT xs (d + 1) 122 12 0 [(0, (4, 0)), (1, (0, x1)), (2, (0, x2)), (3, (0, x3))] [] jpA_6 1 6 (fun k v hsN => k = 1 ∧ v = (0, 0) ∧ hsN = jpA_6 ++ []) := by
  refine jT_xaload_n (v := (4, 0)) (pcN := 1) jI_122_0 rfl rfl rfl ?_
  refine jT_xiload_n (v := (0, x1)) (pcN := 2) jI_122_1 rfl rfl rfl ?_
  refine jT_xbipush (k := 8) (pcN := 4) jI_122_2 (by decide) rfl ?_
  exact jT_fX [0] 12 (y := 115) (pcN := 7) (dC := 0) (bc1 := 1) (bc2 := 6) (as := [(4, 0), (0, x1), (0, 8)]) (asC := [(4, 0), (0, x1), (0, 8)]) (LN := [(0, (4, 0)), (1, (0, x1)), (2, (0, x2)), (3, (0, x3))]) (stN := []) (hsC := [jgh]) (e := 0) (jA_115_1 (d := 0) (by omega)) (by rfl) (by rfl) (by decide +kernel) (by rfl) (by rfl) (by omega) (by omega) (by omega) (by omega) ⟨rfl, ⟨rfl, rfl, rfl⟩⟩
theorem jI_331_0 : jmI (jm 331) 0 = (.aload 4, 2) := by rfl
theorem jI_331_2 : jmI (jm 331) 2 = (.iconst 0, 1) := by rfl
theorem jI_331_3 : jmI (jm 331) 3 = (.aload_n 0, 1) := by rfl
theorem jI_331_4 : jmI (jm 331) 4 = (.iload_n 1, 1) := by rfl
theorem jI_331_5 : jmI (jm 331) 5 = (.iload_n 2, 1) := by rfl
theorem jI_331_6 : jmI (jm 331) 6 = (.iload_n 3, 1) := by rfl
theorem jA_331_165 {xs : List Int} {d : Nat} {x1 x2 x3 : Int} (h_x1 : (-2147483648) ≤ x1 ∧ x1 ≤ (-1)) (h_x2 : (-2147483648) ≤ x2 ∧ x2 ≤ 2147483647) (h_x3 : (-2147483648) ≤ x3 ∧ x3 ≤ 2147483647) : jT xs (d + 2) 331 13 0 [(0, (4, 0)), (1, (0, x1)), (2, (0, x2)), (3, (0, x3)), (4, (4, 1))] [] jpA_15 1 6 (fun k v hsN => k = 0 ∧ v = (0, 1) ∧ hsN = jpA_15 ++ []) := by
  refine jT_xaload (v := (4, 1)) (pcN := 2) jI_331_0 rfl rfl rfl ?_
  refine jT_xiconst (k := 0) (pcN := 3) jI_331_2 rfl ?_
  refine jT_xaload_n (v := (4, 0)) (pcN := 4) jI_331_3 rfl rfl rfl ?_
  refine jT_xiload_n (v := (0, x1)) (pcN := 5) jI_331_4 rfl rfl rfl ?_
  refine jT_xiload_n (v := (0, x2)) (pcN := 6) jI_331_5 rfl rfl rfl ?_
  refine jT_xiload_n (v := (0, x3)) (pcN := 7) jI_331_6 rfl rfl rfl ?_
  exact jT_fX [0, 2, 3, 4, 5, 6, 7, 8, 9, 10, 11, 12] 13 (y := 122) (pcN := 10) (dC := 1) (bc1 := 1) (bc2 := 6) (as := [(4, 0), (0, x1), (0, x2), (0, x3)]) (asC := [(4, 0), (0, x1), (0, x2), (0, x3)]) (LN := [(0, (4, 0)), (1, (0, x1)), (2, (0, x2)), (3, (0, x3)), (4, (4, 1))]) (stN := [(0, 0), (4, 1)]) (hsC := jpA_6) (e := 0) (jA_122_164 (d := 0) (by omega) (by omega) (by omega)) (by rfl) (by rfl) (by decide +kernel) (by rfl) (by rfl) (by omega) (by omega) (by omega) (by omega) (show _ from ⟨rfl, rfl, rfl⟩)
theorem jI_215_0 : jmI (jm 215) 0 = (.aload_n 0, 1) := by rfl
theorem jI_215_1 : jmI (jm 215) 1 = (.iload_n 1, 1) := by rfl
theorem jI_215_5 : jmI (jm 215) 5 = (.ifCond .eq 14, 3) := by rfl
theorem jI_215_19 : jmI (jm 215) 19 = (.iconst 0, 1) := by rfl
theorem jI_215_23 : jmI (jm 215) 23 = (.ifCond .ne 20, 3) := by rfl
theorem jI_215_43 : jmI (jm 215) 43 = (.iconst 0, 1) := by rfl
theorem jA_215_166 {xs : List Int} {d : Nat} {x1 x2 x3 : Int} (h_x1 : (-2147483648) ≤ x1 ∧ x1 ≤ (-1)) (h_x2 : (-2147483648) ≤ x2 ∧ x2 ≤ 2147483647) (h_x3 : (-2147483648) ≤ x3 ∧ x3 ≤ 2147483647) : jT xs (d + 2) 215 16 0 [(0, (4, 0)), (1, (0, x1)), (2, (0, x2)), (3, (0, x3))] [] jpA_22 0 0 (fun k v hsN => k = 0 ∧ v = (0, 0) ∧ hsN = jpA_20) := by
  refine jT_xaload_n (v := (4, 0)) (pcN := 1) jI_215_0 rfl rfl rfl ?_
  refine jT_xiload_n (v := (0, x1)) (pcN := 2) jI_215_1 rfl rfl rfl ?_
  refine jT_fR [] 16 (y := 188) (pcN := 5) (dC := 1) (bc1 := 0) (bc2 := 0) (c1 := 0) (c2 := 0) (as := [(0, x1)]) (asC := [(0, x1)]) (LN := [(0, (4, 0)), (1, (0, x1)), (2, (0, x2)), (3, (0, x3))]) (stN := [(4, 0)]) (hsC := []) (v := (0, 0)) (st2 := [(0, 0), (4, 0)]) (jA_188_4 (d := 0) (by omega)) (by rfl) (by rfl) (by decide +kernel) (by rfl) (by rfl) (by omega) (by omega) (by omega) (by omega) rfl ?_
  refine jT_xifT (pcN := 19) jI_215_5 rfl (by decide +kernel) rfl ?_
  refine jT_xiconst (k := 0) (pcN := 20) jI_215_19 rfl ?_
  refine jT_fB [0, 1, 2, 3, 4, 5, 6, 7, 8, 9, 10, 11, 12, 13, 14, 15] 16 (y := 190) (pcN := 23) (dC := 1) (bc1 := 0) (bc2 := 0) (c1 := 0) (c2 := 0) (as := [(4, 0), (0, 0)]) (asC := [(4, 0), (0, 0)]) (LN := [(0, (4, 0)), (1, (0, x1)), (2, (0, x2)), (3, (0, x3))]) (stN := []) (hsC := jpA_22) (hsD := jpA_20) (v := (0, 1)) (st2 := [(0, 1)]) (hs2 := jpA_20) (jA_190_6 (d := 0)) (by rfl) (by rfl) (by decide +kernel) (by rfl) (by rfl) (by omega) (by omega) (by omega) (by omega) rfl (by decide +kernel) ?_
  refine jT_xifT (pcN := 43) jI_215_23 rfl (by decide +kernel) rfl ?_
  refine jT_xiconst (k := 0) (pcN := 44) jI_215_43 rfl ?_
  exact jT_ret rfl (by decide) (by show 16 ≤ 16; decide) (by omega) (by omega) ⟨rfl, rfl, rfl⟩
theorem jI_122_7 : jmI (jm 122) 7 = (.aload_n 0, 1) := by rfl
theorem jI_122_8 : jmI (jm 122) 8 = (.iload_n 3, 1) := by rfl
theorem jI_122_9 : jmI (jm 122) 9 = (.bipush 8, 2) := by rfl
theorem jA_122_167 {xs : List Int} {d : Nat} {x1 x2 x3 : Int} (h_x1 : 0 ≤ x1 ∧ x1 ≤ 7) (h_x2 : (-2147483648) ≤ x2 ∧ x2 ≤ 2147483647) (h_x3 : (-2147483648) ≤ x3 ∧ x3 ≤ (-1)) : jT xs (d + 1) 122 12 0 [(0, (4, 0)), (1, (0, x1)), (2, (0, x2)), (3, (0, x3))] [] jpA_6 1 6 (fun k v hsN => k = 1 ∧ v = (0, 0) ∧ hsN = jpA_6 ++ []) := by
  refine jT_xaload_n (v := (4, 0)) (pcN := 1) jI_122_0 rfl rfl rfl ?_
  refine jT_xiload_n (v := (0, x1)) (pcN := 2) jI_122_1 rfl rfl rfl ?_
  refine jT_xbipush (k := 8) (pcN := 4) jI_122_2 (by decide) rfl ?_
  refine jT_fR [0] 12 (y := 115) (pcN := 7) (dC := 0) (bc1 := 0) (bc2 := 0) (c1 := 1) (c2 := 6) (as := [(4, 0), (0, x1), (0, 8)]) (asC := [(4, 0), (0, x1), (0, 8)]) (LN := [(0, (4, 0)), (1, (0, x1)), (2, (0, x2)), (3, (0, x3))]) (stN := []) (hsC := [jgh]) (v := (9, 0)) (st2 := []) (jA_115_9 (d := 0) (by omega)) (by rfl) (by rfl) (by decide +kernel) (by rfl) (by rfl) (by omega) (by omega) (by omega) (by omega) rfl ?_
  refine jT_xaload_n (v := (4, 0)) (pcN := 8) jI_122_7 rfl rfl rfl ?_
  refine jT_xiload_n (v := (0, x3)) (pcN := 9) jI_122_8 rfl rfl rfl ?_
  refine jT_xbipush (k := 8) (pcN := 11) jI_122_9 (by decide) rfl ?_
  exact jT_fX [0] 12 (y := 115) (pcN := 14) (dC := 0) (bc1 := 1) (bc2 := 6) (as := [(4, 0), (0, x3), (0, 8)]) (asC := [(4, 0), (0, x3), (0, 8)]) (LN := [(0, (4, 0)), (1, (0, x1)), (2, (0, x2)), (3, (0, x3))]) (stN := []) (hsC := [jgh]) (e := 0) (jA_115_17 (d := 0) (by omega)) (by rfl) (by rfl) (by decide +kernel) (by rfl) (by rfl) (by omega) (by omega) (by omega) (by omega) ⟨rfl, ⟨rfl, rfl, rfl⟩⟩
theorem jA_331_168 {xs : List Int} {d : Nat} {x1 x2 x3 : Int} (h_x1 : 0 ≤ x1 ∧ x1 ≤ 7) (h_x2 : (-2147483648) ≤ x2 ∧ x2 ≤ 2147483647) (h_x3 : (-2147483648) ≤ x3 ∧ x3 ≤ (-1)) : jT xs (d + 2) 331 13 0 [(0, (4, 0)), (1, (0, x1)), (2, (0, x2)), (3, (0, x3)), (4, (4, 1))] [] jpA_15 1 6 (fun k v hsN => k = 0 ∧ v = (0, 1) ∧ hsN = jpA_15 ++ []) := by
  refine jT_xaload (v := (4, 1)) (pcN := 2) jI_331_0 rfl rfl rfl ?_
  refine jT_xiconst (k := 0) (pcN := 3) jI_331_2 rfl ?_
  refine jT_xaload_n (v := (4, 0)) (pcN := 4) jI_331_3 rfl rfl rfl ?_
  refine jT_xiload_n (v := (0, x1)) (pcN := 5) jI_331_4 rfl rfl rfl ?_
  refine jT_xiload_n (v := (0, x2)) (pcN := 6) jI_331_5 rfl rfl rfl ?_
  refine jT_xiload_n (v := (0, x3)) (pcN := 7) jI_331_6 rfl rfl rfl ?_
  exact jT_fX [0, 2, 3, 4, 5, 6, 7, 8, 9, 10, 11, 12] 13 (y := 122) (pcN := 10) (dC := 1) (bc1 := 1) (bc2 := 6) (as := [(4, 0), (0, x1), (0, x2), (0, x3)]) (asC := [(4, 0), (0, x1), (0, x2), (0, x3)]) (LN := [(0, (4, 0)), (1, (0, x1)), (2, (0, x2)), (3, (0, x3)), (4, (4, 1))]) (stN := [(0, 0), (4, 1)]) (hsC := jpA_6) (e := 0) (jA_122_167 (d := 0) (by omega) (by omega) (by omega)) (by rfl) (by rfl) (by decide +kernel) (by rfl) (by rfl) (by omega) (by omega) (by omega) (by omega) (show _ from ⟨rfl, rfl, rfl⟩)
theorem jI_215_8 : jmI (jm 215) 8 = (.iload_n 3, 1) := by rfl
theorem jI_215_12 : jmI (jm 215) 12 = (.ifCond .eq 7, 3) := by rfl
theorem jA_215_169 {xs : List Int} {d : Nat} {x1 x2 x3 : Int} (h_x1 : 0 ≤ x1 ∧ x1 ≤ 7) (h_x2 : (-2147483648) ≤ x2 ∧ x2 ≤ 2147483647) (h_x3 : (-2147483648) ≤ x3 ∧ x3 ≤ (-1)) : jT xs (d + 2) 215 16 0 [(0, (4, 0)), (1, (0, x1)), (2, (0, x2)), (3, (0, x3))] [] jpA_22 0 0 (fun k v hsN => k = 0 ∧ v = (0, 0) ∧ hsN = jpA_20) := by
  refine jT_xaload_n (v := (4, 0)) (pcN := 1) jI_215_0 rfl rfl rfl ?_
  refine jT_xiload_n (v := (0, x1)) (pcN := 2) jI_215_1 rfl rfl rfl ?_
  refine jT_fR [] 16 (y := 188) (pcN := 5) (dC := 1) (bc1 := 0) (bc2 := 0) (c1 := 0) (c2 := 0) (as := [(0, x1)]) (asC := [(0, x1)]) (LN := [(0, (4, 0)), (1, (0, x1)), (2, (0, x2)), (3, (0, x3))]) (stN := [(4, 0)]) (hsC := []) (v := (0, 1)) (st2 := [(0, 1), (4, 0)]) (jA_188_13 (d := 0) (by omega)) (by rfl) (by rfl) (by decide +kernel) (by rfl) (by rfl) (by omega) (by omega) (by omega) (by omega) rfl ?_
  refine jT_xifF (t := 19) (pcN := 8) jI_215_5 rfl (by decide +kernel) rfl rfl ?_
  refine jT_xiload_n (v := (0, x3)) (pcN := 9) jI_215_8 rfl rfl rfl ?_
  refine jT_fR [] 16 (y := 188) (pcN := 12) (dC := 1) (bc1 := 0) (bc2 := 0) (c1 := 0) (c2 := 0) (as := [(0, x3)]) (asC := [(0, x3)]) (LN := [(0, (4, 0)), (1, (0, x1)), (2, (0, x2)), (3, (0, x3))]) (stN := [(4, 0)]) (hsC := []) (v := (0, 0)) (st2 := [(0, 0), (4, 0)]) (jA_188_21 (d := 0) (by omega)) (by rfl) (by rfl) (by decide +kernel) (by rfl) (by rfl) (by omega) (by omega) (by omega) (by omega) rfl ?_
  refine jT_xifT (pcN := 19) jI_215_12 rfl (by decide +kernel) rfl ?_
  refine jT_xiconst (k := 0) (pcN := 20) jI_215_19 rfl ?_
  refine jT_fB [0, 1, 2, 3, 4, 5, 6, 7, 8, 9, 10, 11, 12, 13, 14, 15] 16 (y := 190) (pcN := 23) (dC := 1) (bc1 := 0) (bc2 := 0) (c1 := 0) (c2 := 0) (as := [(4, 0), (0, 0)]) (asC := [(4, 0), (0, 0)]) (LN := [(0, (4, 0)), (1, (0, x1)), (2, (0, x2)), (3, (0, x3))]) (stN := []) (hsC := jpA_22) (hsD := jpA_20) (v := (0, 1)) (st2 := [(0, 1)]) (hs2 := jpA_20) (jA_190_6 (d := 0)) (by rfl) (by rfl) (by decide +kernel) (by rfl) (by rfl) (by omega) (by omega) (by omega) (by omega) rfl (by decide +kernel) ?_
  refine jT_xifT (pcN := 43) jI_215_23 rfl (by decide +kernel) rfl ?_
  refine jT_xiconst (k := 0) (pcN := 44) jI_215_43 rfl ?_
  exact jT_ret rfl (by decide) (by show 16 ≤ 16; decide) (by omega) (by omega) ⟨rfl, rfl, rfl⟩
theorem jA_116_170 {xs : List Int} {d : Nat} {x2 : Int} (h_x2 : (-2147483648) ≤ x2 ∧ x2 ≤ 0) : jT xs d 116 1 0 [(0, (4, 0)), (1, (0, x2)), (2, (0, 1)), (3, (0, 400))] [] [jgh] 1 6 (fun k v hsN => k = 1 ∧ v = (0, 1) ∧ hsN = [jgh] ++ []) := by
  refine jT_xiload_n (v := (0, x2)) (pcN := 1) jI_116_0 rfl rfl rfl ?_
  refine jT_xiload_n (v := (0, 1)) (pcN := 2) jI_116_1 rfl rfl rfl ?_
  refine jT_icT (a := x2) (b := 1) (t := 10) (by rfl) (by rfl) (by rfl) (jw_idd (by omega) (by omega)) (jw_idd (by omega) (by omega)) (by simp only [jcP] <;> omega) ?_
  exact jT_ret (c1 := 1) (s1 := 6) rfl (by decide) (by show 1 ≤ 1; decide) (by omega) (by omega) ⟨rfl, rfl, rfl⟩
theorem jI_122_14 : jmI (jm 122) 14 = (.aload_n 0, 1) := by rfl
theorem jI_122_15 : jmI (jm 122) 15 = (.iload_n 2, 1) := by rfl
theorem jI_122_16 : jmI (jm 122) 16 = (.iconst 1, 1) := by rfl
theorem jI_122_17 : jmI (jm 122) 17 = (.sipush 400, 3) := by rfl
theorem jA_122_171 {xs : List Int} {d : Nat} {x1 x2 x3 : Int} (h_x1 : 0 ≤ x1 ∧ x1 ≤ 7) (h_x2 : (-2147483648) ≤ x2 ∧ x2 ≤ 0) (h_x3 : 0 ≤ x3 ∧ x3 ≤ 7) : jT xs (d + 1) 122 12 0 [(0, (4, 0)), (1, (0, x1)), (2, (0, x2)), (3, (0, x3))] [] jpA_6 1 6 (fun k v hsN => k = 1 ∧ v = (0, 1) ∧ hsN = jpA_6 ++ []) := by
  refine jT_xaload_n (v := (4, 0)) (pcN := 1) jI_122_0 rfl rfl rfl ?_
  refine jT_xiload_n (v := (0, x1)) (pcN := 2) jI_122_1 rfl rfl rfl ?_
  refine jT_xbipush (k := 8) (pcN := 4) jI_122_2 (by decide) rfl ?_
  refine jT_fR [0] 12 (y := 115) (pcN := 7) (dC := 0) (bc1 := 0) (bc2 := 0) (c1 := 1) (c2 := 6) (as := [(4, 0), (0, x1), (0, 8)]) (asC := [(4, 0), (0, x1), (0, 8)]) (LN := [(0, (4, 0)), (1, (0, x1)), (2, (0, x2)), (3, (0, x3))]) (stN := []) (hsC := [jgh]) (v := (9, 0)) (st2 := []) (jA_115_9 (d := 0) (by omega)) (by rfl) (by rfl) (by decide +kernel) (by rfl) (by rfl) (by omega) (by omega) (by omega) (by omega) rfl ?_
  refine jT_xaload_n (v := (4, 0)) (pcN := 8) jI_122_7 rfl rfl rfl ?_
  refine jT_xiload_n (v := (0, x3)) (pcN := 9) jI_122_8 rfl rfl rfl ?_
  refine jT_xbipush (k := 8) (pcN := 11) jI_122_9 (by decide) rfl ?_
  refine jT_fR [0] 12 (y := 115) (pcN := 14) (dC := 0) (bc1 := 0) (bc2 := 0) (c1 := 1) (c2 := 6) (as := [(4, 0), (0, x3), (0, 8)]) (asC := [(4, 0), (0, x3), (0, 8)]) (LN := [(0, (4, 0)), (1, (0, x1)), (2, (0, x2)), (3, (0, x3))]) (stN := []) (hsC := [jgh]) (v := (9, 0)) (st2 := []) (jA_115_23 (d := 0) (by omega)) (by rfl) (by rfl) (by decide +kernel) (by rfl) (by rfl) (by omega) (by omega) (by omega) (by omega) rfl ?_
  refine jT_xaload_n (v := (4, 0)) (pcN := 15) jI_122_14 rfl rfl rfl ?_
  refine jT_xiload_n (v := (0, x2)) (pcN := 16) jI_122_15 rfl rfl rfl ?_
  refine jT_xiconst (k := 1) (pcN := 17) jI_122_16 rfl ?_
  refine jT_xsipush (k := 400) (pcN := 20) jI_122_17 (by decide) rfl ?_
  exact jT_fX [0] 12 (y := 116) (pcN := 23) (dC := 0) (bc1 := 1) (bc2 := 6) (as := [(4, 0), (0, x2), (0, 1), (0, 400)]) (asC := [(4, 0), (0, x2), (0, 1), (0, 400)]) (LN := [(0, (4, 0)), (1, (0, x1)), (2, (0, x2)), (3, (0, x3))]) (stN := []) (hsC := [jgh]) (e := 1) (jA_116_170 (d := 0) (by omega)) (by rfl) (by rfl) (by decide +kernel) (by rfl) (by rfl) (by omega) (by omega) (by omega) (by omega) ⟨rfl, ⟨rfl, rfl, rfl⟩⟩
theorem jA_331_172 {xs : List Int} {d : Nat} {x1 x2 x3 : Int} (h_x1 : 0 ≤ x1 ∧ x1 ≤ 7) (h_x2 : (-2147483648) ≤ x2 ∧ x2 ≤ 0) (h_x3 : 0 ≤ x3 ∧ x3 ≤ 7) : jT xs (d + 2) 331 13 0 [(0, (4, 0)), (1, (0, x1)), (2, (0, x2)), (3, (0, x3)), (4, (4, 1))] [] jpA_15 1 6 (fun k v hsN => k = 0 ∧ v = (0, 2) ∧ hsN = jpA_15 ++ []) := by
  refine jT_xaload (v := (4, 1)) (pcN := 2) jI_331_0 rfl rfl rfl ?_
  refine jT_xiconst (k := 0) (pcN := 3) jI_331_2 rfl ?_
  refine jT_xaload_n (v := (4, 0)) (pcN := 4) jI_331_3 rfl rfl rfl ?_
  refine jT_xiload_n (v := (0, x1)) (pcN := 5) jI_331_4 rfl rfl rfl ?_
  refine jT_xiload_n (v := (0, x2)) (pcN := 6) jI_331_5 rfl rfl rfl ?_
  refine jT_xiload_n (v := (0, x3)) (pcN := 7) jI_331_6 rfl rfl rfl ?_
  exact jT_fX [0, 2, 3, 4, 5, 6, 7, 8, 9, 10, 11, 12] 13 (y := 122) (pcN := 10) (dC := 1) (bc1 := 1) (bc2 := 6) (as := [(4, 0), (0, x1), (0, x2), (0, x3)]) (asC := [(4, 0), (0, x1), (0, x2), (0, x3)]) (LN := [(0, (4, 0)), (1, (0, x1)), (2, (0, x2)), (3, (0, x3)), (4, (4, 1))]) (stN := [(0, 0), (4, 1)]) (hsC := jpA_6) (e := 1) (jA_122_171 (d := 0) (by omega) (by omega) (by omega)) (by rfl) (by rfl) (by decide +kernel) (by rfl) (by rfl) (by omega) (by omega) (by omega) (by omega) (show _ from ⟨rfl, rfl, rfl⟩)
theorem jI_215_15 : jmI (jm 215) 15 = (.iconst 1, 1) := by rfl
theorem jI_215_16 : jmI (jm 215) 16 = (.goto 4, 3) := by rfl
theorem jI_215_26 : jmI (jm 215) 26 = (.aload_n 0, 1) := by rfl
theorem jI_215_27 : jmI (jm 215) 27 = (.iload_n 2, 1) := by rfl
theorem jI_215_28 : jmI (jm 215) 28 = (.i2l, 1) := by rfl
theorem jI_215_29 : jmI (jm 215) 29 = (.lconst 1, 1) := by rfl
theorem jI_215_36 : jmI (jm 215) 36 = (.iconst 2, 1) := by rfl
theorem jI_215_40 : jmI (jm 215) 40 = (.ifCond .eq 5, 3) := by rfl
theorem jA_215_173 {xs : List Int} {d : Nat} {x1 x2 x3 : Int} (h_x1 : 0 ≤ x1 ∧ x1 ≤ 7) (h_x2 : (-2147483648) ≤ x2 ∧ x2 ≤ 0) (h_x3 : 0 ≤ x3 ∧ x3 ≤ 7) : jT xs (d + 2) 215 16 0 [(0, (4, 0)), (1, (0, x1)), (2, (0, x2)), (3, (0, x3))] [] jpA_22 0 0 (fun k v hsN => k = 0 ∧ v = (0, 0) ∧ hsN = jpA_361) := by
  refine jT_xaload_n (v := (4, 0)) (pcN := 1) jI_215_0 rfl rfl rfl ?_
  refine jT_xiload_n (v := (0, x1)) (pcN := 2) jI_215_1 rfl rfl rfl ?_
  refine jT_fR [] 16 (y := 188) (pcN := 5) (dC := 1) (bc1 := 0) (bc2 := 0) (c1 := 0) (c2 := 0) (as := [(0, x1)]) (asC := [(0, x1)]) (LN := [(0, (4, 0)), (1, (0, x1)), (2, (0, x2)), (3, (0, x3))]) (stN := [(4, 0)]) (hsC := []) (v := (0, 1)) (st2 := [(0, 1), (4, 0)]) (jA_188_13 (d := 0) (by omega)) (by rfl) (by rfl) (by decide +kernel) (by rfl) (by rfl) (by omega) (by omega) (by omega) (by omega) rfl ?_
  refine jT_xifF (t := 19) (pcN := 8) jI_215_5 rfl (by decide +kernel) rfl rfl ?_
  refine jT_xiload_n (v := (0, x3)) (pcN := 9) jI_215_8 rfl rfl rfl ?_
  refine jT_fR [] 16 (y := 188) (pcN := 12) (dC := 1) (bc1 := 0) (bc2 := 0) (c1 := 0) (c2 := 0) (as := [(0, x3)]) (asC := [(0, x3)]) (LN := [(0, (4, 0)), (1, (0, x1)), (2, (0, x2)), (3, (0, x3))]) (stN := [(4, 0)]) (hsC := []) (v := (0, 1)) (st2 := [(0, 1), (4, 0)]) (jA_188_37 (d := 0) (by omega)) (by rfl) (by rfl) (by decide +kernel) (by rfl) (by rfl) (by omega) (by omega) (by omega) (by omega) rfl ?_
  refine jT_xifF (t := 19) (pcN := 15) jI_215_12 rfl (by decide +kernel) rfl rfl ?_
  refine jT_xiconst (k := 1) (pcN := 16) jI_215_15 rfl ?_
  refine jT_xgoto (pcN := 20) jI_215_16 rfl ?_
  refine jT_fR [0, 1, 2, 3, 4, 5, 6, 7, 8, 9, 10, 11, 12, 13, 14, 15] 16 (y := 190) (pcN := 23) (dC := 1) (bc1 := 0) (bc2 := 0) (c1 := 0) (c2 := 0) (as := [(4, 0), (0, 1)]) (asC := [(4, 0), (0, 1)]) (LN := [(0, (4, 0)), (1, (0, x1)), (2, (0, x2)), (3, (0, x3))]) (stN := []) (hsC := jpA_22) (v := (0, 0)) (st2 := [(0, 0)]) (jA_190_39 (d := 0)) (by rfl) (by rfl) (by decide +kernel) (by rfl) (by rfl) (by omega) (by omega) (by omega) (by omega) rfl ?_
  refine jT_xifF (t := 43) (pcN := 26) jI_215_23 rfl (by decide +kernel) rfl rfl ?_
  refine jT_xaload_n (v := (4, 0)) (pcN := 27) jI_215_26 rfl rfl rfl ?_
  refine jT_xiload_n (v := (0, x2)) (pcN := 28) jI_215_27 rfl rfl rfl ?_
  refine jT_xi2l (x := x2) (z := x2) (pcN := 29) jI_215_28 rfl (jw_idd (by omega) (by omega)) rfl ?_
  refine jT_xlconst (z := 1) (pcN := 30) jI_215_29 rfl rfl ?_
  refine jT_adv 1 (pcN := 33) (LN := [(0, (4, 0)), (1, (0, x1)), (2, (0, x2)), (3, (0, x3))]) (stN := [(1, 400), (1, 1), (1, x2), (4, 0)]) (hsN := jpA_22) (c1 := 0) (s1 := 0) (c2 := 0) (s2 := 0) (by exact rfl) ?_ (by omega) (by omega)
  refine jT_fR [] 16 (y := 189) (pcN := 36) (dC := 0) (bc1 := 0) (bc2 := 0) (c1 := 0) (c2 := 0) (as := [(1, x2), (1, 1), (1, 400)]) (asC := [(1, x2), (1, 1), (1, 400)]) (LN := [(0, (4, 0)), (1, (0, x1)), (2, (0, x2)), (3, (0, x3))]) (stN := [(4, 0)]) (hsC := []) (v := (0, 0)) (st2 := [(0, 0), (4, 0)]) (jT_in_lo (d := 0) (v := x2) (lo := 1) (hi := 400) (by omega) (by omega) (by omega) (by omega)) (by rfl) (by rfl) (by decide +kernel) (by rfl) (by rfl) (by omega) (by omega) (by omega) (by omega) rfl ?_
  refine jT_xiconst (k := 2) (pcN := 37) jI_215_36 rfl ?_
  refine jT_fB [0, 1, 2, 3, 4, 5, 6, 7, 8, 9, 10, 11, 12, 13, 14, 15] 16 (y := 191) (pcN := 40) (dC := 0) (bc1 := 0) (bc2 := 0) (c1 := 0) (c2 := 0) (as := [(4, 0), (0, 0), (0, 2)]) (asC := [(4, 0), (0, 0), (0, 2)]) (LN := [(0, (4, 0)), (1, (0, x1)), (2, (0, x2)), (3, (0, x3))]) (stN := []) (hsC := jpA_22) (hsD := jpA_361) (v := (0, 1)) (st2 := [(0, 1)]) (hs2 := jpA_361) (jA_191_99 (d := 0)) (by rfl) (by rfl) (by decide +kernel) (by rfl) (by rfl) (by omega) (by omega) (by omega) (by omega) rfl (by decide +kernel) ?_
  refine jT_xifF (t := 45) (pcN := 43) jI_215_40 rfl (by decide +kernel) rfl rfl ?_
  refine jT_xiconst (k := 0) (pcN := 44) jI_215_43 rfl ?_
  exact jT_ret rfl (by decide) (by show 16 ≤ 16; decide) (by omega) (by omega) ⟨rfl, rfl, rfl⟩
theorem jA_116_174 {xs : List Int} {d : Nat} {x2 : Int} (h_x2 : 1 ≤ x2 ∧ x2 ≤ 400) : jT xs d 116 1 0 [(0, (4, 0)), (1, (0, x2)), (2, (0, 1)), (3, (0, 400))] [] [jgh] 0 0 (fun k v hsN => k = 0 ∧ v = (9, 0) ∧ hsN = [jgh] ++ []) := by
  refine jT_xiload_n (v := (0, x2)) (pcN := 1) jI_116_0 rfl rfl rfl ?_
  refine jT_xiload_n (v := (0, 1)) (pcN := 2) jI_116_1 rfl rfl rfl ?_
  refine jT_icF (a := x2) (b := 1) (t := 10) (by rfl) (by rfl) (by rfl) (jw_idd (by omega) (by omega)) (jw_idd (by omega) (by omega)) (by simp only [jcP] <;> omega) ?_
  refine jT_xiload_n (v := (0, x2)) (pcN := 6) jI_116_5 rfl rfl rfl ?_
  refine jT_xiload_n (v := (0, 400)) (pcN := 7) jI_116_6 rfl rfl rfl ?_
  refine jT_icT (a := x2) (b := 400) (t := 21) (by rfl) (by rfl) (by rfl) (jw_idd (by omega) (by omega)) (jw_idd (by omega) (by omega)) (by simp only [jcP] <;> omega) ?_
  exact jT_ret rfl (by decide) (by show 1 ≤ 1; decide) (by omega) (by omega) ⟨rfl, rfl, rfl⟩
theorem jI_45_0 : jmI (jm 45) 0 = (.lload_n 2, 1) := by rfl
theorem jI_45_1 : jmI (jm 45) 1 = (.lconst 1, 1) := by rfl
theorem jI_45_3 : jmI (jm 45) 3 = (.ifCond .lt 10, 3) := by rfl
theorem jI_45_6 : jmI (jm 45) 6 = (.lload 4, 2) := by rfl
theorem jI_45_8 : jmI (jm 45) 8 = (.lconst 1, 1) := by rfl
theorem jI_45_10 : jmI (jm 45) 10 = (.ifCond .ge 5, 3) := by rfl
theorem jI_45_15 : jmI (jm 45) 15 = (.aload_n 0, 1) := by rfl
theorem jI_45_16 : jmI (jm 45) 16 = (.aload_n 1, 1) := by rfl
theorem jI_45_20 : jmI (jm 45) 20 = (.lstore 6, 2) := by rfl
theorem jI_45_22 : jmI (jm 45) 22 = (.lload 6, 2) := by rfl
theorem jI_45_24 : jmI (jm 45) 24 = (.lconst 0, 1) := by rfl
theorem jI_45_26 : jmI (jm 45) 26 = (.ifCond .ne 14, 3) := by rfl
theorem jI_45_29 : jmI (jm 45) 29 = (.aload_n 1, 1) := by rfl
theorem jI_45_30 : jmI (jm 45) 30 = (.iconst 0, 1) := by rfl
theorem jI_45_31 : jmI (jm 45) 31 = (.laload, 1) := by rfl
theorem jI_45_32 : jmI (jm 45) 32 = (.lload 4, 2) := by rfl
theorem jI_45_34 : jmI (jm 45) 34 = (.lmul, 1) := by rfl
theorem jI_45_35 : jmI (jm 45) 35 = (.lload_n 2, 1) := by rfl
theorem jA_45_175 {xs : List Int} {d : Nat} {x2 : Int} (h_x2 : 1 ≤ x2 ∧ x2 ≤ 400) : jT xs (d + 1) 45 4 0 [(0, (4, 0)), (1, (4, 1)), (2, (1, 1)), (4, (1, 2 * x2))] [] jpA_625 0 0 (fun k v hsN => k = 0 ∧ v = (1, 0) ∧ hsN = jpA_625 ++ []) := by
  refine jT_xlload_n (v := (1, 1)) (pcN := 1) jI_45_0 rfl rfl rfl ?_
  refine jT_xlconst (z := 1) (pcN := 2) jI_45_1 rfl rfl ?_
  refine jT_lcmp (a := 1) (b := 1) (z := 0) (by rfl) (by rfl) (by decide +kernel) (by decide +kernel) (by decide) ?_
  refine jT_xifF (t := 13) (pcN := 6) jI_45_3 rfl (by decide +kernel) rfl rfl ?_
  refine jT_xlload (v := (1, 2 * x2)) (pcN := 8) jI_45_6 rfl rfl rfl ?_
  refine jT_xlconst (z := 1) (pcN := 9) jI_45_8 rfl rfl ?_
  refine jT_lcmp (a := 2 * x2) (b := 1) (z := 1) (by rfl) (by rfl) (jwl_idd (by omega) (by omega)) (jwl_idd (by omega) (by omega)) (by rw [decide_eq_true (show (1 : Int) < 2 * x2 by omega)]; rfl) ?_
  refine jT_xifT (pcN := 15) jI_45_10 rfl (by decide +kernel) rfl ?_
  refine jT_xaload_n (v := (4, 0)) (pcN := 16) jI_45_15 rfl rfl rfl ?_
  refine jT_xaload_n (v := (4, 1)) (pcN := 17) jI_45_16 rfl rfl rfl ?_
  refine jT_fR [0, 1] 4 (y := 39) (pcN := 20) (dC := 0) (bc1 := 0) (bc2 := 0) (c1 := 0) (c2 := 0) (as := [(4, 0), (4, 1)]) (asC := [(4, 0), (4, 1)]) (LN := [(0, (4, 0)), (1, (4, 1)), (2, (1, 1)), (4, (1, 2 * x2))]) (stN := []) (hsC := [jgh, (101, [], [0, 0, 0, 0, 0, 0])]) (v := (1, 0)) (st2 := [(1, 0)]) (jA_39_144 (d := 0)) (by rfl) (by rfl) (by decide +kernel) (by rfl) (by rfl) (by omega) (by omega) (by omega) (by omega) rfl ?_
  refine jT_xlstore (v := (1, 0)) (LN := [(6, (1, 0)), (0, (4, 0)), (1, (4, 1)), (2, (1, 1)), (4, (1, 2 * x2))]) (pcN := 22) jI_45_20 rfl rfl rfl rfl ?_
  refine jT_xlload (v := (1, 0)) (pcN := 24) jI_45_22 rfl rfl rfl ?_
  refine jT_xlconst (z := 0) (pcN := 25) jI_45_24 rfl rfl ?_
  refine jT_lcmp (a := 0) (b := 0) (z := 0) (by rfl) (by rfl) (by decide +kernel) (by decide +kernel) (by decide) ?_
  refine jT_xifF (t := 40) (pcN := 29) jI_45_26 rfl (by decide +kernel) rfl rfl ?_
  refine jT_xaload_n (v := (4, 1)) (pcN := 30) jI_45_29 rfl rfl rfl ?_
  refine jT_xiconst (k := 0) (pcN := 31) jI_45_30 rfl ?_
  refine jT_lald (x := 0) (a := 1) (j := 0) (fs := []) (X := [0, 0, 0, 0, 0, 0]) jI_45_31 rfl rfl rfl rfl ?_
  refine jT_eq (LN := [(6, (1, 0)), (0, (4, 0)), (1, (4, 1)), (2, (1, 1)), (4, (1, 2 * x2))]) (stN := [(1, 0)]) (hsN := jpA_625) rfl rfl rfl ?_
  refine jT_xlload (v := (1, 2 * x2)) (pcN := 34) jI_45_32 rfl rfl rfl ?_
  refine jT_xlmul (x := 0) (y := 2 * x2) (z := 0) (pcN := 35) jI_45_34 rfl (by omega) rfl ?_
  refine jT_xlload_n (v := (1, 1)) (pcN := 36) jI_45_35 rfl rfl rfl ?_
  refine jT_fR [] 4 (y := 373) (pcN := 39) (dC := 0) (bc1 := 0) (bc2 := 0) (c1 := 0) (c2 := 0) (as := [(1, 0), (1, 1)]) (asC := [(1, 0), (1, 1)]) (LN := [(6, (1, 0)), (0, (4, 0)), (1, (4, 1)), (2, (1, 1)), (4, (1, 2 * x2))]) (stN := []) (hsC := []) (v := (1, 0)) (st2 := [(1, 0)]) (jA_373_145 (d := 0)) (by rfl) (by rfl) (by decide +kernel) (by rfl) (by rfl) (by omega) (by omega) (by omega) (by omega) rfl ?_
  exact jT_ret rfl (by decide) (by show 4 ≤ 4; decide) (by omega) (by omega) ⟨rfl, rfl, rfl⟩
theorem jI_44_0 : jmI (jm 44) 0 = (.aload_n 0, 1) := by rfl
theorem jI_44_1 : jmI (jm 44) 1 = (.aload_n 1, 1) := by rfl
theorem jI_44_2 : jmI (jm 44) 2 = (.getfield 49, 3) := by rfl
theorem jI_44_5 : jmI (jm 44) 5 = (.aload_n 1, 1) := by rfl
theorem jI_44_6 : jmI (jm 44) 6 = (.getfield 54, 3) := by rfl
theorem jI_44_9 : jmI (jm 44) 9 = (.lload_n 2, 1) := by rfl
theorem jA_44_176 {xs : List Int} {d : Nat} {x2 : Int} (h_x2 : 1 ≤ x2 ∧ x2 ≤ 400) : jT xs (d + 2) 44 5 0 [(0, (4, 0)), (1, (4, 1)), (2, (1, 2 * x2))] [] jpA_626 0 0 (fun k v hsN => k = 0 ∧ v = (1, 0) ∧ hsN = jpA_626 ++ []) := by
  refine jT_xaload_n (v := (4, 0)) (pcN := 1) jI_44_0 rfl rfl rfl ?_
  refine jT_xaload_n (v := (4, 1)) (pcN := 2) jI_44_1 rfl rfl rfl ?_
  refine jT_xgetf (a := 1) (t := 2) (ci := 4) (fi := 0) (c := (4, [(4, 4), (1, 1)], [])) (v := (4, 4)) (pcN := 5) jI_44_2 rfl rfl rfl rfl rfl rfl rfl ?_
  refine jT_xaload_n (v := (4, 1)) (pcN := 6) jI_44_5 rfl rfl rfl ?_
  refine jT_xgetf (a := 1) (t := 2) (ci := 4) (fi := 1) (c := (4, [(4, 4), (1, 1)], [])) (v := (1, 1)) (pcN := 9) jI_44_6 rfl rfl rfl rfl rfl rfl rfl ?_
  refine jT_xlload_n (v := (1, 2 * x2)) (pcN := 10) jI_44_9 rfl rfl rfl ?_
  refine jT_fR [0, 4, 2, 3] 5 (y := 45) (pcN := 13) (dC := 1) (bc1 := 0) (bc2 := 0) (c1 := 0) (c2 := 0) (as := [(4, 0), (4, 4), (1, 1), (1, 2 * x2)]) (asC := [(4, 0), (4, 1), (1, 1), (1, 2 * x2)]) (LN := [(0, (4, 0)), (1, (4, 1)), (2, (1, 2 * x2))]) (stN := []) (hsC := jpA_625) (v := (1, 0)) (st2 := [(1, 0)]) (jA_45_175 (d := 0) (by omega)) (by rfl) (by rfl) (by decide +kernel) (by rfl) (by rfl) (by omega) (by omega) (by omega) (by omega) rfl ?_
  exact jT_ret rfl (by decide) (by show 5 ≤ 5; decide) (by omega) (by omega) ⟨rfl, rfl, rfl⟩
theorem jA_373_177 {xs : List Int} {d : Nat} : jT xs d 373 0 0 [(0, (1, 1)), (2, (1, 2))] [] [] 0 0 (fun k v hsN => k = 0 ∧ v = (1, 0) ∧ hsN = [] ++ []) := by
  refine jT_advK 11 (pcN := 29) (LN := [(4, (1, 0)), (0, (1, 1)), (2, (1, 2))]) (stN := [(1, 0)]) (hsN := []) (c1 := 0) (s1 := 0) (c2 := 0) (s2 := 0) (by decide +kernel) ?_ (by omega) (by omega)
  exact jT_ret rfl (by decide) (by show 0 ≤ 0; decide) (by omega) (by omega) ⟨rfl, rfl, rfl⟩
theorem jA_374_178 {xs : List Int} {d : Nat} : jT xs (d + 1) 374 0 0 [(0, (1, 1)), (2, (0, 2))] [] [] 0 0 (fun k v hsN => k = 0 ∧ v = (1, 0) ∧ hsN = [] ++ []) := by
  refine jT_advK 3 (pcN := 3) (LN := [(0, (1, 1)), (2, (0, 2))]) (stN := [(1, 2), (1, 1)]) (hsN := []) (c1 := 0) (s1 := 0) (c2 := 0) (s2 := 0) (by decide +kernel) ?_ (by omega) (by omega)
  refine jT_fR [] 0 (y := 373) (pcN := 6) (dC := 0) (bc1 := 0) (bc2 := 0) (c1 := 0) (c2 := 0) (as := [(1, 1), (1, 2)]) (asC := [(1, 1), (1, 2)]) (LN := [(0, (1, 1)), (2, (0, 2))]) (stN := []) (hsC := []) (v := (1, 0)) (st2 := [(1, 0)]) (jA_373_177 (d := 0)) (by rfl) (by rfl) (by decide +kernel) (by rfl) (by rfl) (by omega) (by omega) (by omega) (by omega) rfl ?_
  exact jT_ret rfl (by decide) (by show 0 ≤ 0; decide) (by omega) (by omega) ⟨rfl, rfl, rfl⟩
theorem jI_43_0 : jmI (jm 43) 0 = (.aload_n 0, 1) := by rfl
theorem jI_43_1 : jmI (jm 43) 1 = (.aload_n 1, 1) := by rfl
theorem jI_43_5 : jmI (jm 43) 5 = (.lload_n 2, 1) := by rfl
theorem jI_43_6 : jmI (jm 43) 6 = (.lmul, 1) := by rfl
theorem jI_43_10 : jmI (jm 43) 10 = (.lconst 1, 1) := by rfl
theorem jI_43_11 : jmI (jm 43) 11 = (.ladd, 1) := by rfl
theorem jI_43_12 : jmI (jm 43) 12 = (.iconst 2, 1) := by rfl
theorem jA_43_179 {xs : List Int} {d : Nat} {x2 : Int} (h_x2 : 1 ≤ x2 ∧ x2 ≤ 400) : jT xs (d + 3) 43 5 0 [(0, (4, 0)), (1, (4, 1)), (2, (1, x2))] [] jpA_626 0 0 (fun k v hsN => k = 0 ∧ v = (1, 0) ∧ hsN = jpA_626 ++ []) := by
  refine jT_xaload_n (v := (4, 0)) (pcN := 1) jI_43_0 rfl rfl rfl ?_
  refine jT_xaload_n (v := (4, 1)) (pcN := 2) jI_43_1 rfl rfl rfl ?_
  refine jT_adv 1 (pcN := 5) (LN := [(0, (4, 0)), (1, (4, 1)), (2, (1, x2))]) (stN := [(1, 2), (4, 1), (4, 0)]) (hsN := jpA_626) (c1 := 0) (s1 := 0) (c2 := 0) (s2 := 0) (by exact rfl) ?_ (by omega) (by omega)
  refine jT_xlload_n (v := (1, x2)) (pcN := 6) jI_43_5 rfl rfl rfl ?_
  refine jT_xlmul (x := 2) (y := x2) (z := 2 * x2) (pcN := 7) jI_43_6 rfl (rfl) rfl ?_
  refine jT_fR [0, 1, 2, 3, 4] 5 (y := 44) (pcN := 10) (dC := 2) (bc1 := 0) (bc2 := 0) (c1 := 0) (c2 := 0) (as := [(4, 0), (4, 1), (1, 2 * x2)]) (asC := [(4, 0), (4, 1), (1, 2 * x2)]) (LN := [(0, (4, 0)), (1, (4, 1)), (2, (1, x2))]) (stN := []) (hsC := jpA_626) (v := (1, 0)) (st2 := [(1, 0)]) (jA_44_176 (d := 0) (by omega)) (by rfl) (by rfl) (by decide +kernel) (by rfl) (by rfl) (by omega) (by omega) (by omega) (by omega) rfl ?_
  refine jT_xlconst (z := 1) (pcN := 11) jI_43_10 rfl rfl ?_
  refine jT_xladd (x := 0) (y := 1) (z := 1) (pcN := 12) jI_43_11 rfl (by decide) rfl ?_
  refine jT_xiconst (k := 2) (pcN := 13) jI_43_12 rfl ?_
  refine jT_fR [] 5 (y := 374) (pcN := 16) (dC := 1) (bc1 := 0) (bc2 := 0) (c1 := 0) (c2 := 0) (as := [(1, 1), (0, 2)]) (asC := [(1, 1), (0, 2)]) (LN := [(0, (4, 0)), (1, (4, 1)), (2, (1, x2))]) (stN := []) (hsC := []) (v := (1, 0)) (st2 := [(1, 0)]) (jA_374_178 (d := 0)) (by rfl) (by rfl) (by decide +kernel) (by rfl) (by rfl) (by omega) (by omega) (by omega) (by omega) rfl ?_
  exact jT_ret rfl (by decide) (by show 5 ≤ 5; decide) (by omega) (by omega) ⟨rfl, rfl, rfl⟩
theorem jA_10_180 {xs : List Int} {d : Nat} {x2 : Int} (h_x2 : 1 ≤ x2 ∧ x2 ≤ 400) : jT xs (d + 2) 10 2 0 [(0, (4, 0)), (1, (1, x2)), (3, (1, 1)), (5, (1, 0))] [] [(4, [(4, 1), (1, 1)], []), (101, [], [0, 0, 0, 0, 0, 0])] 2 8 (fun k v hsN => k = 0 ∧ v = (4, 3) ∧ hsN = [(4, [(4, 1), (1, 1)], []), (101, [], [0, 0, 0, 0, 0, 0])] ++ [(101, [], [0, 0, 0, 0, 0, 0]), (4, [(4, 2), (1, 1)], [])]) := by
  refine jT_xbipush (k := 6) (pcN := 2) jI_10_0 (by decide) rfl ?_
  refine jT_adv 1 (pcN := 4) (LN := [(0, (4, 0)), (1, (1, x2)), (3, (1, 1)), (5, (1, 0))]) (stN := [(4, 2)]) (hsN := [(4, [(4, 1), (1, 1)], []), (101, [], [0, 0, 0, 0, 0, 0]), (101, [], [0, 0, 0, 0, 0, 0])]) (c1 := 1) (s1 := 6) (c2 := 1) (s2 := 2) (by exact rfl) ?_ (by omega) (by omega)
  refine jT_xastore (v := (4, 2)) (LN := [(7, (4, 2)), (0, (4, 0)), (1, (1, x2)), (3, (1, 1)), (5, (1, 0))]) (pcN := 6) jI_10_4 rfl rfl rfl rfl ?_
  refine jT_xiconst (k := 0) (pcN := 7) jI_10_6 rfl ?_
  refine jT_xistore (v := (0, 0)) (LN := [(8, (0, 0)), (7, (4, 2)), (0, (4, 0)), (1, (1, x2)), (3, (1, 1)), (5, (1, 0))]) (pcN := 9) jI_10_7 rfl rfl rfl rfl ?_
  refine jT_xiload (v := (0, 0)) (pcN := 11) jI_10_9 rfl rfl rfl ?_
  refine jT_xbipush (k := 6) (pcN := 13) jI_10_11 (by decide) rfl ?_
  refine jT_xicF (t := 36) (pcN := 16) jI_10_13 rfl (by decide +kernel) rfl rfl ?_
  refine jT_xaload (v := (4, 2)) (pcN := 18) jI_10_16 rfl rfl rfl ?_
  refine jT_xiload (v := (0, 0)) (pcN := 20) jI_10_18 rfl rfl rfl ?_
  refine jT_xaload_n (v := (4, 0)) (pcN := 21) jI_10_20 rfl rfl rfl ?_
  refine jT_xgetf (a := 0) (t := 1) (ci := 4) (fi := 0) (c := (4, [(4, 1), (1, 1)], [])) (v := (4, 1)) (pcN := 24) jI_10_21 rfl rfl rfl rfl rfl rfl rfl ?_
  refine jT_xiload (v := (0, 0)) (pcN := 26) jI_10_24 rfl rfl rfl ?_
  refine jT_lald (x := 0) (a := 1) (j := 0) (fs := []) (X := [0, 0, 0, 0, 0, 0]) jI_10_26 rfl rfl rfl rfl ?_
  refine jT_eq (LN := [(8, (0, 0)), (7, (4, 2)), (0, (4, 0)), (1, (1, x2)), (3, (1, 1)), (5, (1, 0))]) (stN := [(1, 0), (0, 0), (4, 2)]) (hsN := [(4, [(4, 1), (1, 1)], []), (101, [], [0, 0, 0, 0, 0, 0]), (101, [], [0, 0, 0, 0, 0, 0])]) rfl rfl rfl ?_
  refine jT_xlload_n (v := (1, x2)) (pcN := 28) jI_10_27 rfl rfl rfl ?_
  refine jT_xlmul (x := 0) (y := x2) (z := 0) (pcN := 29) jI_10_28 rfl (by omega) rfl ?_
  refine jT_adv 1 (pcN := 30) (LN := [(8, (0, 0)), (7, (4, 2)), (0, (4, 0)), (1, (1, x2)), (3, (1, 1)), (5, (1, 0))]) (stN := []) (hsN := [(4, [(4, 1), (1, 1)], []), (101, [], [0, 0, 0, 0, 0, 0]), (101, [], [0, 0, 0, 0, 0, 0])]) (c1 := 0) (s1 := 0) (c2 := 1) (s2 := 2) (by exact rfl) ?_ (by omega) (by omega)
  refine jT_xiinc (x := 0) (z := 1) (LN := [(8, (0, 1)), (7, (4, 2)), (0, (4, 0)), (1, (1, x2)), (3, (1, 1)), (5, (1, 0))]) (pcN := 33) jI_10_30 rfl rfl (by decide) rfl rfl ?_
  refine jT_xgoto (pcN := 9) jI_10_33 rfl ?_
  refine jT_xiload (v := (0, 1)) (pcN := 11) jI_10_9 rfl rfl rfl ?_
  refine jT_xbipush (k := 6) (pcN := 13) jI_10_11 (by decide) rfl ?_
  refine jT_xicF (t := 36) (pcN := 16) jI_10_13 rfl (by decide +kernel) rfl rfl ?_
  refine jT_xaload (v := (4, 2)) (pcN := 18) jI_10_16 rfl rfl rfl ?_
  refine jT_xiload (v := (0, 1)) (pcN := 20) jI_10_18 rfl rfl rfl ?_
  refine jT_xaload_n (v := (4, 0)) (pcN := 21) jI_10_20 rfl rfl rfl ?_
  refine jT_xgetf (a := 0) (t := 1) (ci := 4) (fi := 0) (c := (4, [(4, 1), (1, 1)], [])) (v := (4, 1)) (pcN := 24) jI_10_21 rfl rfl rfl rfl rfl rfl rfl ?_
  refine jT_xiload (v := (0, 1)) (pcN := 26) jI_10_24 rfl rfl rfl ?_
  refine jT_lald (x := 0) (a := 1) (j := 1) (fs := []) (X := [0, 0, 0, 0, 0, 0]) jI_10_26 rfl rfl rfl rfl ?_
  refine jT_eq (LN := [(8, (0, 1)), (7, (4, 2)), (0, (4, 0)), (1, (1, x2)), (3, (1, 1)), (5, (1, 0))]) (stN := [(1, 0), (0, 1), (4, 2)]) (hsN := [(4, [(4, 1), (1, 1)], []), (101, [], [0, 0, 0, 0, 0, 0]), (101, [], [0, 0, 0, 0, 0, 0])]) rfl rfl rfl ?_
  refine jT_xlload_n (v := (1, x2)) (pcN := 28) jI_10_27 rfl rfl rfl ?_
  refine jT_xlmul (x := 0) (y := x2) (z := 0) (pcN := 29) jI_10_28 rfl (by omega) rfl ?_
  refine jT_adv 1 (pcN := 30) (LN := [(8, (0, 1)), (7, (4, 2)), (0, (4, 0)), (1, (1, x2)), (3, (1, 1)), (5, (1, 0))]) (stN := []) (hsN := [(4, [(4, 1), (1, 1)], []), (101, [], [0, 0, 0, 0, 0, 0]), (101, [], [0, 0, 0, 0, 0, 0])]) (c1 := 0) (s1 := 0) (c2 := 1) (s2 := 2) (by exact rfl) ?_ (by omega) (by omega)
  refine jT_xiinc (x := 1) (z := 2) (LN := [(8, (0, 2)), (7, (4, 2)), (0, (4, 0)), (1, (1, x2)), (3, (1, 1)), (5, (1, 0))]) (pcN := 33) jI_10_30 rfl rfl (by decide) rfl rfl ?_
  refine jT_xgoto (pcN := 9) jI_10_33 rfl ?_
  refine jT_xiload (v := (0, 2)) (pcN := 11) jI_10_9 rfl rfl rfl ?_
  refine jT_xbipush (k := 6) (pcN := 13) jI_10_11 (by decide) rfl ?_
  refine jT_xicF (t := 36) (pcN := 16) jI_10_13 rfl (by decide +kernel) rfl rfl ?_
  refine jT_xaload (v := (4, 2)) (pcN := 18) jI_10_16 rfl rfl rfl ?_
  refine jT_xiload (v := (0, 2)) (pcN := 20) jI_10_18 rfl rfl rfl ?_
  refine jT_xaload_n (v := (4, 0)) (pcN := 21) jI_10_20 rfl rfl rfl ?_
  refine jT_xgetf (a := 0) (t := 1) (ci := 4) (fi := 0) (c := (4, [(4, 1), (1, 1)], [])) (v := (4, 1)) (pcN := 24) jI_10_21 rfl rfl rfl rfl rfl rfl rfl ?_
  refine jT_xiload (v := (0, 2)) (pcN := 26) jI_10_24 rfl rfl rfl ?_
  refine jT_lald (x := 0) (a := 1) (j := 2) (fs := []) (X := [0, 0, 0, 0, 0, 0]) jI_10_26 rfl rfl rfl rfl ?_
  refine jT_eq (LN := [(8, (0, 2)), (7, (4, 2)), (0, (4, 0)), (1, (1, x2)), (3, (1, 1)), (5, (1, 0))]) (stN := [(1, 0), (0, 2), (4, 2)]) (hsN := [(4, [(4, 1), (1, 1)], []), (101, [], [0, 0, 0, 0, 0, 0]), (101, [], [0, 0, 0, 0, 0, 0])]) rfl rfl rfl ?_
  refine jT_xlload_n (v := (1, x2)) (pcN := 28) jI_10_27 rfl rfl rfl ?_
  refine jT_xlmul (x := 0) (y := x2) (z := 0) (pcN := 29) jI_10_28 rfl (by omega) rfl ?_
  refine jT_adv 1 (pcN := 30) (LN := [(8, (0, 2)), (7, (4, 2)), (0, (4, 0)), (1, (1, x2)), (3, (1, 1)), (5, (1, 0))]) (stN := []) (hsN := [(4, [(4, 1), (1, 1)], []), (101, [], [0, 0, 0, 0, 0, 0]), (101, [], [0, 0, 0, 0, 0, 0])]) (c1 := 0) (s1 := 0) (c2 := 1) (s2 := 2) (by exact rfl) ?_ (by omega) (by omega)
  refine jT_xiinc (x := 2) (z := 3) (LN := [(8, (0, 3)), (7, (4, 2)), (0, (4, 0)), (1, (1, x2)), (3, (1, 1)), (5, (1, 0))]) (pcN := 33) jI_10_30 rfl rfl (by decide) rfl rfl ?_
  refine jT_xgoto (pcN := 9) jI_10_33 rfl ?_
  refine jT_xiload (v := (0, 3)) (pcN := 11) jI_10_9 rfl rfl rfl ?_
  refine jT_xbipush (k := 6) (pcN := 13) jI_10_11 (by decide) rfl ?_
  refine jT_xicF (t := 36) (pcN := 16) jI_10_13 rfl (by decide +kernel) rfl rfl ?_
  refine jT_xaload (v := (4, 2)) (pcN := 18) jI_10_16 rfl rfl rfl ?_
  refine jT_xiload (v := (0, 3)) (pcN := 20) jI_10_18 rfl rfl rfl ?_
  refine jT_xaload_n (v := (4, 0)) (pcN := 21) jI_10_20 rfl rfl rfl ?_
  refine jT_xgetf (a := 0) (t := 1) (ci := 4) (fi := 0) (c := (4, [(4, 1), (1, 1)], [])) (v := (4, 1)) (pcN := 24) jI_10_21 rfl rfl rfl rfl rfl rfl rfl ?_
  refine jT_xiload (v := (0, 3)) (pcN := 26) jI_10_24 rfl rfl rfl ?_
  refine jT_lald (x := 0) (a := 1) (j := 3) (fs := []) (X := [0, 0, 0, 0, 0, 0]) jI_10_26 rfl rfl rfl rfl ?_
  refine jT_eq (LN := [(8, (0, 3)), (7, (4, 2)), (0, (4, 0)), (1, (1, x2)), (3, (1, 1)), (5, (1, 0))]) (stN := [(1, 0), (0, 3), (4, 2)]) (hsN := [(4, [(4, 1), (1, 1)], []), (101, [], [0, 0, 0, 0, 0, 0]), (101, [], [0, 0, 0, 0, 0, 0])]) rfl rfl rfl ?_
  refine jT_xlload_n (v := (1, x2)) (pcN := 28) jI_10_27 rfl rfl rfl ?_
  refine jT_xlmul (x := 0) (y := x2) (z := 0) (pcN := 29) jI_10_28 rfl (by omega) rfl ?_
  refine jT_adv 1 (pcN := 30) (LN := [(8, (0, 3)), (7, (4, 2)), (0, (4, 0)), (1, (1, x2)), (3, (1, 1)), (5, (1, 0))]) (stN := []) (hsN := [(4, [(4, 1), (1, 1)], []), (101, [], [0, 0, 0, 0, 0, 0]), (101, [], [0, 0, 0, 0, 0, 0])]) (c1 := 0) (s1 := 0) (c2 := 1) (s2 := 2) (by exact rfl) ?_ (by omega) (by omega)
  refine jT_xiinc (x := 3) (z := 4) (LN := [(8, (0, 4)), (7, (4, 2)), (0, (4, 0)), (1, (1, x2)), (3, (1, 1)), (5, (1, 0))]) (pcN := 33) jI_10_30 rfl rfl (by decide) rfl rfl ?_
  refine jT_xgoto (pcN := 9) jI_10_33 rfl ?_
  refine jT_xiload (v := (0, 4)) (pcN := 11) jI_10_9 rfl rfl rfl ?_
  refine jT_xbipush (k := 6) (pcN := 13) jI_10_11 (by decide) rfl ?_
  refine jT_xicF (t := 36) (pcN := 16) jI_10_13 rfl (by decide +kernel) rfl rfl ?_
  refine jT_xaload (v := (4, 2)) (pcN := 18) jI_10_16 rfl rfl rfl ?_
  refine jT_xiload (v := (0, 4)) (pcN := 20) jI_10_18 rfl rfl rfl ?_
  refine jT_xaload_n (v := (4, 0)) (pcN := 21) jI_10_20 rfl rfl rfl ?_
  refine jT_xgetf (a := 0) (t := 1) (ci := 4) (fi := 0) (c := (4, [(4, 1), (1, 1)], [])) (v := (4, 1)) (pcN := 24) jI_10_21 rfl rfl rfl rfl rfl rfl rfl ?_
  refine jT_xiload (v := (0, 4)) (pcN := 26) jI_10_24 rfl rfl rfl ?_
  refine jT_lald (x := 0) (a := 1) (j := 4) (fs := []) (X := [0, 0, 0, 0, 0, 0]) jI_10_26 rfl rfl rfl rfl ?_
  refine jT_eq (LN := [(8, (0, 4)), (7, (4, 2)), (0, (4, 0)), (1, (1, x2)), (3, (1, 1)), (5, (1, 0))]) (stN := [(1, 0), (0, 4), (4, 2)]) (hsN := [(4, [(4, 1), (1, 1)], []), (101, [], [0, 0, 0, 0, 0, 0]), (101, [], [0, 0, 0, 0, 0, 0])]) rfl rfl rfl ?_
  refine jT_xlload_n (v := (1, x2)) (pcN := 28) jI_10_27 rfl rfl rfl ?_
  refine jT_xlmul (x := 0) (y := x2) (z := 0) (pcN := 29) jI_10_28 rfl (by omega) rfl ?_
  refine jT_adv 1 (pcN := 30) (LN := [(8, (0, 4)), (7, (4, 2)), (0, (4, 0)), (1, (1, x2)), (3, (1, 1)), (5, (1, 0))]) (stN := []) (hsN := [(4, [(4, 1), (1, 1)], []), (101, [], [0, 0, 0, 0, 0, 0]), (101, [], [0, 0, 0, 0, 0, 0])]) (c1 := 0) (s1 := 0) (c2 := 1) (s2 := 2) (by exact rfl) ?_ (by omega) (by omega)
  refine jT_xiinc (x := 4) (z := 5) (LN := [(8, (0, 5)), (7, (4, 2)), (0, (4, 0)), (1, (1, x2)), (3, (1, 1)), (5, (1, 0))]) (pcN := 33) jI_10_30 rfl rfl (by decide) rfl rfl ?_
  refine jT_xgoto (pcN := 9) jI_10_33 rfl ?_
  refine jT_xiload (v := (0, 5)) (pcN := 11) jI_10_9 rfl rfl rfl ?_
  refine jT_xbipush (k := 6) (pcN := 13) jI_10_11 (by decide) rfl ?_
  refine jT_xicF (t := 36) (pcN := 16) jI_10_13 rfl (by decide +kernel) rfl rfl ?_
  refine jT_xaload (v := (4, 2)) (pcN := 18) jI_10_16 rfl rfl rfl ?_
  refine jT_xiload (v := (0, 5)) (pcN := 20) jI_10_18 rfl rfl rfl ?_
  refine jT_xaload_n (v := (4, 0)) (pcN := 21) jI_10_20 rfl rfl rfl ?_
  refine jT_xgetf (a := 0) (t := 1) (ci := 4) (fi := 0) (c := (4, [(4, 1), (1, 1)], [])) (v := (4, 1)) (pcN := 24) jI_10_21 rfl rfl rfl rfl rfl rfl rfl ?_
  refine jT_xiload (v := (0, 5)) (pcN := 26) jI_10_24 rfl rfl rfl ?_
  refine jT_lald (x := 0) (a := 1) (j := 5) (fs := []) (X := [0, 0, 0, 0, 0, 0]) jI_10_26 rfl rfl rfl rfl ?_
  refine jT_eq (LN := [(8, (0, 5)), (7, (4, 2)), (0, (4, 0)), (1, (1, x2)), (3, (1, 1)), (5, (1, 0))]) (stN := [(1, 0), (0, 5), (4, 2)]) (hsN := [(4, [(4, 1), (1, 1)], []), (101, [], [0, 0, 0, 0, 0, 0]), (101, [], [0, 0, 0, 0, 0, 0])]) rfl rfl rfl ?_
  refine jT_xlload_n (v := (1, x2)) (pcN := 28) jI_10_27 rfl rfl rfl ?_
  refine jT_xlmul (x := 0) (y := x2) (z := 0) (pcN := 29) jI_10_28 rfl (by omega) rfl ?_
  refine jT_adv 1 (pcN := 30) (LN := [(8, (0, 5)), (7, (4, 2)), (0, (4, 0)), (1, (1, x2)), (3, (1, 1)), (5, (1, 0))]) (stN := []) (hsN := [(4, [(4, 1), (1, 1)], []), (101, [], [0, 0, 0, 0, 0, 0]), (101, [], [0, 0, 0, 0, 0, 0])]) (c1 := 0) (s1 := 0) (c2 := 1) (s2 := 2) (by exact rfl) ?_ (by omega) (by omega)
  refine jT_xiinc (x := 5) (z := 6) (LN := [(8, (0, 6)), (7, (4, 2)), (0, (4, 0)), (1, (1, x2)), (3, (1, 1)), (5, (1, 0))]) (pcN := 33) jI_10_30 rfl rfl (by decide) rfl rfl ?_
  refine jT_xgoto (pcN := 9) jI_10_33 rfl ?_
  refine jT_xiload (v := (0, 6)) (pcN := 11) jI_10_9 rfl rfl rfl ?_
  refine jT_xbipush (k := 6) (pcN := 13) jI_10_11 (by decide) rfl ?_
  refine jT_xicT (pcN := 36) jI_10_13 rfl (by decide +kernel) rfl ?_
  refine jT_xaload (v := (4, 2)) (pcN := 38) jI_10_36 rfl rfl rfl ?_
  refine jT_xiconst (k := 0) (pcN := 39) jI_10_38 rfl ?_
  refine jT_adv 1 (pcN := 40) (LN := [(8, (0, 6)), (7, (4, 2)), (0, (4, 0)), (1, (1, x2)), (3, (1, 1)), (5, (1, 0))]) (stN := [(0, 0), (4, 2), (0, 0), (4, 2)]) (hsN := [(4, [(4, 1), (1, 1)], []), (101, [], [0, 0, 0, 0, 0, 0]), (101, [], [0, 0, 0, 0, 0, 0])]) (c1 := 0) (s1 := 0) (c2 := 1) (s2 := 2) (by exact rfl) ?_ (by omega) (by omega)
  refine jT_lald (x := 0) (a := 2) (j := 0) (fs := []) (X := [0, 0, 0, 0, 0, 0]) jI_10_40 rfl rfl rfl rfl ?_
  refine jT_eq (LN := [(8, (0, 6)), (7, (4, 2)), (0, (4, 0)), (1, (1, x2)), (3, (1, 1)), (5, (1, 0))]) (stN := [(1, 0), (0, 0), (4, 2)]) (hsN := [(4, [(4, 1), (1, 1)], []), (101, [], [0, 0, 0, 0, 0, 0]), (101, [], [0, 0, 0, 0, 0, 0])]) rfl rfl rfl ?_
  refine jT_xlload (v := (1, 0)) (pcN := 43) jI_10_41 rfl rfl rfl ?_
  refine jT_xaload_n (v := (4, 0)) (pcN := 44) jI_10_43 rfl rfl rfl ?_
  refine jT_xgetf (a := 0) (t := 1) (ci := 4) (fi := 1) (c := (4, [(4, 1), (1, 1)], [])) (v := (1, 1)) (pcN := 47) jI_10_44 rfl rfl rfl rfl rfl rfl rfl ?_
  refine jT_xlmul (x := 0) (y := 1) (z := 0) (pcN := 48) jI_10_47 rfl (by decide) rfl ?_
  refine jT_xlload_n (v := (1, 1)) (pcN := 49) jI_10_48 rfl rfl rfl ?_
  refine jT_xlmul (x := 0) (y := 1) (z := 0) (pcN := 50) jI_10_49 rfl (by decide) rfl ?_
  refine jT_xladd (x := 0) (y := 0) (z := 0) (pcN := 51) jI_10_50 rfl (by decide) rfl ?_
  refine jT_adv 3 (pcN := 56) (LN := [(8, (0, 6)), (7, (4, 2)), (0, (4, 0)), (1, (1, x2)), (3, (1, 1)), (5, (1, 0))]) (stN := [(4, 3), (4, 3)]) (hsN := jpA_48) (c1 := 1) (s1 := 2) (c2 := 0) (s2 := 0) (by exact rfl) ?_ (by omega) (by omega)
  refine jT_xaload (v := (4, 2)) (pcN := 58) jI_10_56 rfl rfl rfl ?_
  refine jT_xaload_n (v := (4, 0)) (pcN := 59) jI_10_58 rfl rfl rfl ?_
  refine jT_xgetf (a := 0) (t := 1) (ci := 4) (fi := 1) (c := (4, [(4, 1), (1, 1)], [])) (v := (1, 1)) (pcN := 62) jI_10_59 rfl rfl rfl rfl rfl rfl rfl ?_
  refine jT_xlload_n (v := (1, 1)) (pcN := 63) jI_10_62 rfl rfl rfl ?_
  refine jT_xlmul (x := 1) (y := 1) (z := 1) (pcN := 64) jI_10_63 rfl (by decide) rfl ?_
  refine jT_fB [3, 2] 4 (y := 9) (pcN := 67) (dC := 1) (bc1 := 0) (bc2 := 0) (c1 := 0) (c2 := 0) (as := [(4, 3), (4, 2), (1, 1)]) (asC := [(4, 0), (4, 1), (1, 1)]) (LN := [(8, (0, 6)), (7, (4, 2)), (0, (4, 0)), (1, (1, x2)), (3, (1, 1)), (5, (1, 0))]) (stN := [(4, 3)]) (hsC := [(4, [(4, (-1)), (1, 0)], []), (101, [], [0, 0, 0, 0, 0, 0])]) (hsD := [(4, [(4, 1), (1, 1)], []), (101, [], [0, 0, 0, 0, 0, 0])]) (v := (9, 0)) (st2 := [(4, 3)]) (hs2 := jpA_49) (jA_9_27 (d := 0)) (by rfl) (by rfl) (by decide +kernel) (by rfl) (by rfl) (by omega) (by omega) (by omega) (by omega) rfl (by decide +kernel) ?_
  exact jT_ret rfl (by decide) (by show 2 ≤ 4; decide) (by omega) (by omega) ⟨rfl, rfl, rfl⟩
theorem jA_58_181 {xs : List Int} {d : Nat} {x3 : Int} (h_x3 : 0 ≤ x3 ∧ x3 ≤ 7) : jT xs (d + 1) 58 9 0 [(0, (4, 0)), (1, (0, x3)), (2, (4, 1))] [] jpA_74 2 13 (fun k v hsN => k = 0 ∧ v = (4, 10) ∧ hsN = jpA_74 ++ [jgh, jzA_72]) := by
  refine jT_xaload_n (v := (4, 0)) (pcN := 1) jI_58_0 rfl rfl rfl ?_
  refine jT_xgetf (a := 0) (t := 1) (ci := 9) (fi := 0) (c := jzA_55) (v := (4, 2)) (pcN := 4) jI_58_1 rfl rfl rfl rfl rfl rfl rfl ?_
  refine jT_adv 2 (pcN := 10) (LN := [(0, (4, 0)), (1, (0, x3)), (2, (4, 1))]) (stN := [(4, 9)]) (hsN := jpA_56) (c1 := 1) (s1 := 8) (c2 := 1) (s2 := 5) (by exact rfl) ?_ (by omega) (by omega)
  refine jT_xastore_n (v := (4, 9)) (LN := [(3, (4, 9)), (0, (4, 0)), (1, (0, x3)), (2, (4, 1))]) (pcN := 11) jI_58_10 rfl rfl rfl rfl ?_
  refine jT_xaload_n (v := (4, 9)) (pcN := 12) jI_58_11 rfl rfl rfl ?_
  refine jT_xiload_n (v := (0, x3)) (pcN := 13) jI_58_12 rfl rfl rfl ?_
  refine jT_xaload_n (v := (4, 1)) (pcN := 14) jI_58_13 rfl rfl rfl ?_
  refine jT_aastG (kd := 114) (a := 9) (b := 1) (j := (x3).toNat) (fs := []) (X := [8, 8, 8, 8, 8, 8, 8, 8]) (e := (4, [(4, 7), (1, 1)], [])) (by rfl) (by rfl) (by rfl) (jw_nn (by omega) (by omega)) (by show (x3).toNat < 8; omega) (by rfl) (by rfl) (by rfl) ?_
  refine jT_eq (LN := [(3, (4, 9)), (0, (4, 0)), (1, (0, x3)), (2, (4, 1))]) (stN := []) (hsN := jpA_61) rfl rfl rfl ?_
  refine jT_adv 2 (pcN := 19) (LN := [(3, (4, 9)), (0, (4, 0)), (1, (0, x3)), (2, (4, 1))]) (stN := [(4, 10), (4, 10)]) (hsN := jpA_62) (c1 := 1) (s1 := 5) (c2 := 0) (s2 := 0) (by exact rfl) ?_ (by omega) (by omega)
  refine jT_xaload_n (v := (4, 9)) (pcN := 20) jI_58_19 rfl rfl rfl ?_
  refine jT_xaload_n (v := (4, 0)) (pcN := 21) jI_58_20 rfl rfl rfl ?_
  refine jT_xgetf (a := 0) (t := 1) (ci := 9) (fi := 1) (c := jzA_55) (v := (4, 3)) (pcN := 24) jI_58_21 rfl rfl rfl rfl rfl rfl rfl ?_
  refine jT_xaload_n (v := (4, 0)) (pcN := 25) jI_58_24 rfl rfl rfl ?_
  refine jT_xgetf (a := 0) (t := 1) (ci := 9) (fi := 2) (c := jzA_55) (v := (4, 4)) (pcN := 28) jI_58_25 rfl rfl rfl rfl rfl rfl rfl ?_
  refine jT_xaload_n (v := (4, 0)) (pcN := 29) jI_58_28 rfl rfl rfl ?_
  refine jT_xgetf (a := 0) (t := 1) (ci := 9) (fi := 3) (c := jzA_55) (v := (4, 5)) (pcN := 32) jI_58_29 rfl rfl rfl rfl rfl rfl rfl ?_
  refine jT_xaload_n (v := (4, 0)) (pcN := 33) jI_58_32 rfl rfl rfl ?_
  refine jT_xgetf (a := 0) (t := 1) (ci := 9) (fi := 4) (c := jzA_55) (v := (4, 6)) (pcN := 36) jI_58_33 rfl rfl rfl rfl rfl rfl rfl ?_
  refine jT_fB [10, 9, 3, 4, 5, 6] 11 (y := 53) (pcN := 39) (dC := 0) (bc1 := 0) (bc2 := 0) (c1 := 0) (c2 := 0) (as := [(4, 10), (4, 9), (4, 3), (4, 4), (4, 5), (4, 6)]) (asC := [(4, 0), (4, 1), (4, 2), (4, 3), (4, 4), (4, 5)]) (LN := [(3, (4, 9)), (0, (4, 0)), (1, (0, x3)), (2, (4, 1))]) (stN := [(4, 10)]) (hsC := jpA_52) (hsD := jpA_50) (v := (9, 0)) (st2 := [(4, 10)]) (hs2 := jpA_73) (jA_53_32 (d := 0)) (by rfl) (by rfl) (by decide +kernel) (by rfl) (by rfl) (by omega) (by omega) (by omega) (by omega) rfl (by decide +kernel) ?_
  exact jT_ret rfl (by decide) (by show 9 ≤ 11; decide) (by omega) (by omega) ⟨rfl, rfl, rfl⟩
theorem jI_122_23 : jmI (jm 122) 23 = (.aload_n 0, 1) := by rfl
theorem jI_122_24 : jmI (jm 122) 24 = (.getfield 67, 3) := by rfl
theorem jI_122_27 : jmI (jm 122) 27 = (.iload_n 1, 1) := by rfl
theorem jI_122_31 : jmI (jm 122) 31 = (.astore 4, 2) := by rfl
theorem jI_122_33 : jmI (jm 122) 33 = (.aload_n 0, 1) := by rfl
theorem jI_122_34 : jmI (jm 122) 34 = (.getfield 10, 3) := by rfl
theorem jI_122_37 : jmI (jm 122) 37 = (.aload 4, 2) := by rfl
theorem jI_122_39 : jmI (jm 122) 39 = (.iload_n 2, 1) := by rfl
theorem jI_122_40 : jmI (jm 122) 40 = (.i2l, 1) := by rfl
theorem jI_122_44 : jmI (jm 122) 44 = (.lstore 5, 2) := by rfl
theorem jI_122_46 : jmI (jm 122) 46 = (.aload 4, 2) := by rfl
theorem jI_122_48 : jmI (jm 122) 48 = (.iload_n 2, 1) := by rfl
theorem jI_122_49 : jmI (jm 122) 49 = (.i2l, 1) := by rfl
theorem jI_122_50 : jmI (jm 122) 50 = (.lconst 1, 1) := by rfl
theorem jI_122_51 : jmI (jm 122) 51 = (.lload 5, 2) := by rfl
theorem jI_122_57 : jmI (jm 122) 57 = (.astore 7, 2) := by rfl
theorem jI_122_59 : jmI (jm 122) 59 = (.aload_n 0, 1) := by rfl
theorem jI_122_60 : jmI (jm 122) 60 = (.aload 7, 2) := by rfl
theorem jI_122_65 : jmI (jm 122) 65 = (.aload_n 0, 1) := by rfl
theorem jI_122_66 : jmI (jm 122) 66 = (.aload_n 0, 1) := by rfl
theorem jI_122_67 : jmI (jm 122) 67 = (.getfield 67, 3) := by rfl
theorem jI_122_70 : jmI (jm 122) 70 = (.iload_n 3, 1) := by rfl
theorem jI_122_71 : jmI (jm 122) 71 = (.aload 7, 2) := by rfl
theorem jI_122_79 : jmI (jm 122) 79 = (.lload 5, 2) := by rfl
theorem jI_122_81 : jmI (jm 122) 81 = (.l2i, 1) := by rfl
theorem jA_122_182 {xs : List Int} {d : Nat} {x1 x2 x3 : Int} (h_x1 : 0 ≤ x1 ∧ x1 ≤ 7) (h_x2 : 1 ≤ x2 ∧ x2 ≤ 400) (h_x3 : 0 ≤ x3 ∧ x3 ≤ 7) : jT xs (d + 4) 122 21 0 [(0, (4, 0)), (1, (0, x1)), (2, (0, x2)), (3, (0, x3))] [] jpA_642 4 21 (fun k v hsN => k = 0 ∧ v = (0, 0) ∧ hsN = jpA_655) := by
  refine jT_xaload_n (v := (4, 0)) (pcN := 1) jI_122_0 rfl rfl rfl ?_
  refine jT_xiload_n (v := (0, x1)) (pcN := 2) jI_122_1 rfl rfl rfl ?_
  refine jT_xbipush (k := 8) (pcN := 4) jI_122_2 (by decide) rfl ?_
  refine jT_fR [0] 21 (y := 115) (pcN := 7) (dC := 0) (bc1 := 0) (bc2 := 0) (c1 := 4) (c2 := 21) (as := [(4, 0), (0, x1), (0, 8)]) (asC := [(4, 0), (0, x1), (0, 8)]) (LN := [(0, (4, 0)), (1, (0, x1)), (2, (0, x2)), (3, (0, x3))]) (stN := []) (hsC := [jgh]) (v := (9, 0)) (st2 := []) (jA_115_9 (d := 0) (by omega)) (by rfl) (by rfl) (by decide +kernel) (by rfl) (by rfl) (by omega) (by omega) (by omega) (by omega) rfl ?_
  refine jT_xaload_n (v := (4, 0)) (pcN := 8) jI_122_7 rfl rfl rfl ?_
  refine jT_xiload_n (v := (0, x3)) (pcN := 9) jI_122_8 rfl rfl rfl ?_
  refine jT_xbipush (k := 8) (pcN := 11) jI_122_9 (by decide) rfl ?_
  refine jT_fR [0] 21 (y := 115) (pcN := 14) (dC := 0) (bc1 := 0) (bc2 := 0) (c1 := 4) (c2 := 21) (as := [(4, 0), (0, x3), (0, 8)]) (asC := [(4, 0), (0, x3), (0, 8)]) (LN := [(0, (4, 0)), (1, (0, x1)), (2, (0, x2)), (3, (0, x3))]) (stN := []) (hsC := [jgh]) (v := (9, 0)) (st2 := []) (jA_115_23 (d := 0) (by omega)) (by rfl) (by rfl) (by decide +kernel) (by rfl) (by rfl) (by omega) (by omega) (by omega) (by omega) rfl ?_
  refine jT_xaload_n (v := (4, 0)) (pcN := 15) jI_122_14 rfl rfl rfl ?_
  refine jT_xiload_n (v := (0, x2)) (pcN := 16) jI_122_15 rfl rfl rfl ?_
  refine jT_xiconst (k := 1) (pcN := 17) jI_122_16 rfl ?_
  refine jT_xsipush (k := 400) (pcN := 20) jI_122_17 (by decide) rfl ?_
  refine jT_fR [0] 21 (y := 116) (pcN := 23) (dC := 0) (bc1 := 0) (bc2 := 0) (c1 := 4) (c2 := 21) (as := [(4, 0), (0, x2), (0, 1), (0, 400)]) (asC := [(4, 0), (0, x2), (0, 1), (0, 400)]) (LN := [(0, (4, 0)), (1, (0, x1)), (2, (0, x2)), (3, (0, x3))]) (stN := []) (hsC := [jgh]) (v := (9, 0)) (st2 := []) (jA_116_174 (d := 0) (by omega)) (by rfl) (by rfl) (by decide +kernel) (by rfl) (by rfl) (by omega) (by omega) (by omega) (by omega) rfl ?_
  refine jT_xaload_n (v := (4, 0)) (pcN := 24) jI_122_23 rfl rfl rfl ?_
  refine jT_xgetf (a := 0) (t := 1) (ci := 13) (fi := 11) (c := jzA_5) (v := (4, 11)) (pcN := 27) jI_122_24 rfl rfl rfl rfl rfl rfl rfl ?_
  refine jT_xiload_n (v := (0, x1)) (pcN := 28) jI_122_27 rfl rfl rfl ?_
  refine jT_fR [11, 14, 15, 16, 17, 18, 19] 21 (y := 57) (pcN := 31) (dC := 0) (bc1 := 0) (bc2 := 0) (c1 := 4) (c2 := 21) (as := [(4, 11), (0, x1)]) (asC := [(4, 0), (0, x1)]) (LN := [(0, (4, 0)), (1, (0, x1)), (2, (0, x2)), (3, (0, x3))]) (stN := []) (hsC := jpA_47) (v := (4, 6)) (st2 := [(4, 19)]) (jA_57_108 (d := 0) (by omega)) (by rfl) (by rfl) (by decide +kernel) (by rfl) (by rfl) (by omega) (by omega) (by omega) (by omega) rfl ?_
  refine jT_xastore (v := (4, 19)) (LN := [(4, (4, 19)), (0, (4, 0)), (1, (0, x1)), (2, (0, x2)), (3, (0, x3))]) (pcN := 33) jI_122_31 rfl rfl rfl rfl ?_
  refine jT_xaload_n (v := (4, 0)) (pcN := 34) jI_122_33 rfl rfl rfl ?_
  refine jT_xgetf (a := 0) (t := 1) (ci := 13) (fi := 0) (c := jzA_5) (v := (4, 1)) (pcN := 37) jI_122_34 rfl rfl rfl rfl rfl rfl rfl ?_
  refine jT_xaload (v := (4, 19)) (pcN := 39) jI_122_37 rfl rfl rfl ?_
  refine jT_xiload_n (v := (0, x2)) (pcN := 40) jI_122_39 rfl rfl rfl ?_
  refine jT_xi2l (x := x2) (z := x2) (pcN := 41) jI_122_40 rfl (jw_idd (by omega) (by omega)) rfl ?_
  refine jT_fR [1, 19, 12, 13, 20] 21 (y := 43) (pcN := 44) (dC := 3) (bc1 := 0) (bc2 := 0) (c1 := 4) (c2 := 21) (as := [(4, 1), (4, 19), (1, x2)]) (asC := [(4, 0), (4, 1), (1, x2)]) (LN := [(4, (4, 19)), (0, (4, 0)), (1, (0, x1)), (2, (0, x2)), (3, (0, x3))]) (stN := []) (hsC := jpA_626) (v := (1, 0)) (st2 := [(1, 0)]) (jA_43_179 (d := 0) (by omega)) (by rfl) (by rfl) (by decide +kernel) (by rfl) (by rfl) (by omega) (by omega) (by omega) (by omega) rfl ?_
  refine jT_xlstore (v := (1, 0)) (LN := [(5, (1, 0)), (4, (4, 19)), (0, (4, 0)), (1, (0, x1)), (2, (0, x2)), (3, (0, x3))]) (pcN := 46) jI_122_44 rfl rfl rfl rfl ?_
  refine jT_xaload (v := (4, 19)) (pcN := 48) jI_122_46 rfl rfl rfl ?_
  refine jT_xiload_n (v := (0, x2)) (pcN := 49) jI_122_48 rfl rfl rfl ?_
  refine jT_xi2l (x := x2) (z := x2) (pcN := 50) jI_122_49 rfl (jw_idd (by omega) (by omega)) rfl ?_
  refine jT_xlconst (z := 1) (pcN := 51) jI_122_50 rfl rfl ?_
  refine jT_xlload (v := (1, 0)) (pcN := 53) jI_122_51 rfl rfl rfl ?_
  refine jT_adv 1 (pcN := 54) (LN := [(5, (1, 0)), (4, (4, 19)), (0, (4, 0)), (1, (0, x1)), (2, (0, x2)), (3, (0, x3))]) (stN := [(1, 0), (1, 1), (1, x2), (4, 19)]) (hsN := jpA_642) (c1 := 0) (s1 := 0) (c2 := 4) (s2 := 21) (by exact rfl) ?_ (by omega) (by omega)
  refine jT_fA [19, 20] 21 (y := 10) (pcN := 57) (dC := 2) (bc1 := 2) (bc2 := 8) (c1 := 2) (c2 := 13) (as := [(4, 19), (1, x2), (1, 1), (1, 0)]) (asC := [(4, 0), (1, x2), (1, 1), (1, 0)]) (LN := [(5, (1, 0)), (4, (4, 19)), (0, (4, 0)), (1, (0, x1)), (2, (0, x2)), (3, (0, x3))]) (stN := []) (hsC := [(4, [(4, 1), (1, 1)], []), (101, [], [0, 0, 0, 0, 0, 0])]) (ex := [(101, [], [0, 0, 0, 0, 0, 0]), (4, [(4, 2), (1, 1)], [])]) (v := (4, 3)) (st2 := [(4, 22)]) (hs2 := jpA_643) (jA_10_180 (d := 0) (by omega)) (by rfl) (by rfl) (by decide +kernel) (by rfl) (by rfl) (by omega) (by omega) (by omega) (by omega) rfl (by decide +kernel) ?_
  refine jT_xastore (v := (4, 22)) (LN := [(7, (4, 22)), (5, (1, 0)), (4, (4, 19)), (0, (4, 0)), (1, (0, x1)), (2, (0, x2)), (3, (0, x3))]) (pcN := 59) jI_122_57 rfl rfl rfl rfl ?_
  refine jT_xaload_n (v := (4, 0)) (pcN := 60) jI_122_59 rfl rfl rfl ?_
  refine jT_xaload (v := (4, 22)) (pcN := 62) jI_122_60 rfl rfl rfl ?_
  refine jT_fR [0, 22, 21] 23 (y := 117) (pcN := 65) (dC := 2) (bc1 := 0) (bc2 := 0) (c1 := 2) (c2 := 13) (as := [(4, 0), (4, 22)]) (asC := [(4, 0), (4, 1)]) (LN := [(7, (4, 22)), (5, (1, 0)), (4, (4, 19)), (0, (4, 0)), (1, (0, x1)), (2, (0, x2)), (3, (0, x3))]) (stN := []) (hsC := [jgh, (4, [(4, 2), (1, 1)], []), (101, [], [0, 0, 0, 0, 0, 0])]) (v := (9, 0)) (st2 := []) (jA_117_31 (d := 0)) (by rfl) (by rfl) (by decide +kernel) (by rfl) (by rfl) (by omega) (by omega) (by omega) (by omega) rfl ?_
  refine jT_xaload_n (v := (4, 0)) (pcN := 66) jI_122_65 rfl rfl rfl ?_
  refine jT_xaload_n (v := (4, 0)) (pcN := 67) jI_122_66 rfl rfl rfl ?_
  refine jT_xgetf (a := 0) (t := 1) (ci := 13) (fi := 11) (c := jzA_5) (v := (4, 11)) (pcN := 70) jI_122_67 rfl rfl rfl rfl rfl rfl rfl ?_
  refine jT_xiload_n (v := (0, x3)) (pcN := 71) jI_122_70 rfl rfl rfl ?_
  refine jT_xaload (v := (4, 22)) (pcN := 73) jI_122_71 rfl rfl rfl ?_
  refine jT_fA [11, 22, 14, 15, 16, 17, 18, 21, 19] 23 (y := 58) (pcN := 76) (dC := 1) (bc1 := 2) (bc2 := 13) (c1 := 0) (c2 := 0) (as := [(4, 11), (0, x3), (4, 22)]) (asC := [(4, 0), (0, x3), (4, 1)]) (LN := [(7, (4, 22)), (5, (1, 0)), (4, (4, 19)), (0, (4, 0)), (1, (0, x1)), (2, (0, x2)), (3, (0, x3))]) (stN := [(4, 0)]) (hsC := jpA_74) (ex := [jgh, jzA_72]) (v := (4, 10)) (st2 := [(4, 24), (4, 0)]) (hs2 := jpA_653) (jA_58_181 (d := 0) (by omega)) (by rfl) (by rfl) (by decide +kernel) (by rfl) (by rfl) (by omega) (by omega) (by omega) (by omega) rfl (by decide +kernel) ?_
  refine jT_fB [0, 24, 1, 2, 3, 4, 5, 6, 7, 8, 9, 10, 11, 14, 15, 16, 17, 18] 25 (y := 100) (pcN := 79) (dC := 0) (bc1 := 0) (bc2 := 0) (c1 := 0) (c2 := 0) (as := [(4, 0), (4, 24)]) (asC := [(4, 0), (4, 1)]) (LN := [(7, (4, 22)), (5, (1, 0)), (4, (4, 19)), (0, (4, 0)), (1, (0, x1)), (2, (0, x2)), (3, (0, x3))]) (stN := []) (hsC := jpA_80) (hsD := jpA_78) (v := (9, 0)) (st2 := []) (hs2 := jpA_655) (jA_100_34 (d := 0)) (by rfl) (by rfl) (by decide +kernel) (by rfl) (by rfl) (by omega) (by omega) (by omega) (by omega) rfl (by decide +kernel) ?_
  refine jT_xlload (v := (1, 0)) (pcN := 81) jI_122_79 rfl rfl rfl ?_
  refine jT_xl2i (pcN := 82) jI_122_81 rfl rfl ?_
  exact jT_ret rfl (by decide) (by show 21 ≤ 25; decide) (by omega) (by omega) ⟨rfl, rfl, rfl⟩
theorem jI_331_10 : jmI (jm 331) 10 = (.i2l, 1) := by rfl
theorem jI_331_12 : jmI (jm 331) 12 = (.goto 15, 3) := by rfl
theorem jI_331_27 : jmI (jm 331) 27 = (.iconst 0, 1) := by rfl
theorem jA_331_183 {xs : List Int} {d : Nat} {x1 x2 x3 : Int} (h_x1 : 0 ≤ x1 ∧ x1 ≤ 7) (h_x2 : 1 ≤ x2 ∧ x2 ≤ 400) (h_x3 : 0 ≤ x3 ∧ x3 ≤ 7) : jT xs (d + 5) 331 22 0 [(0, (4, 0)), (1, (0, x1)), (2, (0, x2)), (3, (0, x3)), (4, (4, 1))] [] jpA_666 4 21 (fun k v hsN => k = 0 ∧ v = (0, 0) ∧ hsN = jpA_662) := by
  refine jT_xaload (v := (4, 1)) (pcN := 2) jI_331_0 rfl rfl rfl ?_
  refine jT_xiconst (k := 0) (pcN := 3) jI_331_2 rfl ?_
  refine jT_xaload_n (v := (4, 0)) (pcN := 4) jI_331_3 rfl rfl rfl ?_
  refine jT_xiload_n (v := (0, x1)) (pcN := 5) jI_331_4 rfl rfl rfl ?_
  refine jT_xiload_n (v := (0, x2)) (pcN := 6) jI_331_5 rfl rfl rfl ?_
  refine jT_xiload_n (v := (0, x3)) (pcN := 7) jI_331_6 rfl rfl rfl ?_
  refine jT_fB [0, 2, 3, 4, 5, 6, 7, 8, 9, 10, 11, 12, 13, 14, 15, 16, 17, 18, 19, 20, 21] 22 (y := 122) (pcN := 10) (dC := 4) (bc1 := 4) (bc2 := 21) (c1 := 0) (c2 := 0) (as := [(4, 0), (0, x1), (0, x2), (0, x3)]) (asC := [(4, 0), (0, x1), (0, x2), (0, x3)]) (LN := [(0, (4, 0)), (1, (0, x1)), (2, (0, x2)), (3, (0, x3)), (4, (4, 1))]) (stN := [(0, 0), (4, 1)]) (hsC := jpA_642) (hsD := jpA_655) (v := (0, 0)) (st2 := [(0, 0), (0, 0), (4, 1)]) (hs2 := jpA_662) (jA_122_182 (d := 0) (by omega) (by omega) (by omega)) (by rfl) (by rfl) (by decide +kernel) (by rfl) (by rfl) (by omega) (by omega) (by omega) (by omega) rfl (by decide +kernel) ?_
  refine jT_xi2l (x := 0) (z := 0) (pcN := 11) jI_331_10 rfl (by decide +kernel) rfl ?_
  refine jT_adv 1 (pcN := 12) (LN := [(0, (4, 0)), (1, (0, x1)), (2, (0, x2)), (3, (0, x3)), (4, (4, 1))]) (stN := []) (hsN := jpA_662) (c1 := 0) (s1 := 0) (c2 := 0) (s2 := 0) (by exact rfl) ?_ (by omega) (by omega)
  refine jT_xgoto (pcN := 27) jI_331_12 rfl ?_
  refine jT_xiconst (k := 0) (pcN := 28) jI_331_27 rfl ?_
  exact jT_ret rfl (by decide) (by show 22 ≤ 26; decide) (by omega) (by omega) ⟨rfl, rfl, rfl⟩
theorem jA_207_184 {xs : List Int} {d : Nat} {x2 : Int} (h_x2 : 1 ≤ x2 ∧ x2 ≤ 400) : jT xs (d + 2) 207 16 0 [(0, (4, 0)), (1, (0, x2)), (2, (0, 1))] [] jpA_147 0 0 (fun k v hsN => k = 0 ∧ v = (9, 0) ∧ hsN = jpA_147 ++ []) := by
  refine jT_xiconst (k := 0) (pcN := 1) jI_207_0 rfl ?_
  refine jT_xistore_n (v := (0, 0)) (LN := [(3, (0, 0)), (0, (4, 0)), (1, (0, x2)), (2, (0, 1))]) (pcN := 2) jI_207_1 rfl rfl rfl rfl ?_
  refine jT_xiload_n (v := (0, 0)) (pcN := 3) jI_207_2 rfl rfl rfl ?_
  refine jT_xbipush (k := 6) (pcN := 5) jI_207_3 (by decide) rfl ?_
  refine jT_xicF (t := 25) (pcN := 8) jI_207_5 rfl (by decide +kernel) rfl rfl ?_
  refine jT_xaload_n (v := (4, 0)) (pcN := 9) jI_207_8 rfl rfl rfl ?_
  refine jT_xgetf (a := 0) (t := 1) (ci := 14) (fi := 9) (c := jzA_21) (v := (4, 7)) (pcN := 12) jI_207_9 rfl rfl rfl rfl rfl rfl rfl ?_
  refine jT_xiload_n (v := (0, 0)) (pcN := 13) jI_207_12 rfl rfl rfl ?_
  refine jT_adv 1 (pcN := 14) (LN := [(3, (0, 0)), (0, (4, 0)), (1, (0, x2)), (2, (0, 1))]) (stN := [(0, 0), (4, 7), (0, 0), (4, 7)]) (hsN := jpA_147) (c1 := 0) (s1 := 0) (c2 := 0) (s2 := 0) (by exact rfl) ?_ (by omega) (by omega)
  refine jT_lald (x := 0) (a := 7) (j := 0) (fs := []) (X := [0, 0, 0, 0, 0, 0]) jI_207_14 rfl rfl rfl rfl ?_
  refine jT_eq (LN := [(3, (0, 0)), (0, (4, 0)), (1, (0, x2)), (2, (0, 1))]) (stN := [(1, 0), (0, 0), (4, 7)]) (hsN := jpA_147) rfl rfl rfl ?_
  refine jT_xiload_n (v := (0, x2)) (pcN := 16) jI_207_15 rfl rfl rfl ?_
  refine jT_xi2l (x := x2) (z := x2) (pcN := 17) jI_207_16 rfl (jw_idd (by omega) (by omega)) rfl ?_
  refine jT_xlmul (x := 0) (y := x2) (z := 0) (pcN := 18) jI_207_17 rfl (by omega) rfl ?_
  refine jT_adv 1 (pcN := 19) (LN := [(3, (0, 0)), (0, (4, 0)), (1, (0, x2)), (2, (0, 1))]) (stN := []) (hsN := jpA_147) (c1 := 0) (s1 := 0) (c2 := 0) (s2 := 0) (by exact rfl) ?_ (by omega) (by omega)
  refine jT_xiinc (x := 0) (z := 1) (LN := [(3, (0, 1)), (0, (4, 0)), (1, (0, x2)), (2, (0, 1))]) (pcN := 22) jI_207_19 rfl rfl (by decide) rfl rfl ?_
  refine jT_xgoto (pcN := 2) jI_207_22 rfl ?_
  refine jT_xiload_n (v := (0, 1)) (pcN := 3) jI_207_2 rfl rfl rfl ?_
  refine jT_xbipush (k := 6) (pcN := 5) jI_207_3 (by decide) rfl ?_
  refine jT_xicF (t := 25) (pcN := 8) jI_207_5 rfl (by decide +kernel) rfl rfl ?_
  refine jT_xaload_n (v := (4, 0)) (pcN := 9) jI_207_8 rfl rfl rfl ?_
  refine jT_xgetf (a := 0) (t := 1) (ci := 14) (fi := 9) (c := jzA_21) (v := (4, 7)) (pcN := 12) jI_207_9 rfl rfl rfl rfl rfl rfl rfl ?_
  refine jT_xiload_n (v := (0, 1)) (pcN := 13) jI_207_12 rfl rfl rfl ?_
  refine jT_adv 1 (pcN := 14) (LN := [(3, (0, 1)), (0, (4, 0)), (1, (0, x2)), (2, (0, 1))]) (stN := [(0, 1), (4, 7), (0, 1), (4, 7)]) (hsN := jpA_147) (c1 := 0) (s1 := 0) (c2 := 0) (s2 := 0) (by exact rfl) ?_ (by omega) (by omega)
  refine jT_lald (x := 0) (a := 7) (j := 1) (fs := []) (X := [0, 0, 0, 0, 0, 0]) jI_207_14 rfl rfl rfl rfl ?_
  refine jT_eq (LN := [(3, (0, 1)), (0, (4, 0)), (1, (0, x2)), (2, (0, 1))]) (stN := [(1, 0), (0, 1), (4, 7)]) (hsN := jpA_147) rfl rfl rfl ?_
  refine jT_xiload_n (v := (0, x2)) (pcN := 16) jI_207_15 rfl rfl rfl ?_
  refine jT_xi2l (x := x2) (z := x2) (pcN := 17) jI_207_16 rfl (jw_idd (by omega) (by omega)) rfl ?_
  refine jT_xlmul (x := 0) (y := x2) (z := 0) (pcN := 18) jI_207_17 rfl (by omega) rfl ?_
  refine jT_adv 1 (pcN := 19) (LN := [(3, (0, 1)), (0, (4, 0)), (1, (0, x2)), (2, (0, 1))]) (stN := []) (hsN := jpA_147) (c1 := 0) (s1 := 0) (c2 := 0) (s2 := 0) (by exact rfl) ?_ (by omega) (by omega)
  refine jT_xiinc (x := 1) (z := 2) (LN := [(3, (0, 2)), (0, (4, 0)), (1, (0, x2)), (2, (0, 1))]) (pcN := 22) jI_207_19 rfl rfl (by decide) rfl rfl ?_
  refine jT_xgoto (pcN := 2) jI_207_22 rfl ?_
  refine jT_xiload_n (v := (0, 2)) (pcN := 3) jI_207_2 rfl rfl rfl ?_
  refine jT_xbipush (k := 6) (pcN := 5) jI_207_3 (by decide) rfl ?_
  refine jT_xicF (t := 25) (pcN := 8) jI_207_5 rfl (by decide +kernel) rfl rfl ?_
  refine jT_xaload_n (v := (4, 0)) (pcN := 9) jI_207_8 rfl rfl rfl ?_
  refine jT_xgetf (a := 0) (t := 1) (ci := 14) (fi := 9) (c := jzA_21) (v := (4, 7)) (pcN := 12) jI_207_9 rfl rfl rfl rfl rfl rfl rfl ?_
  refine jT_xiload_n (v := (0, 2)) (pcN := 13) jI_207_12 rfl rfl rfl ?_
  refine jT_adv 1 (pcN := 14) (LN := [(3, (0, 2)), (0, (4, 0)), (1, (0, x2)), (2, (0, 1))]) (stN := [(0, 2), (4, 7), (0, 2), (4, 7)]) (hsN := jpA_147) (c1 := 0) (s1 := 0) (c2 := 0) (s2 := 0) (by exact rfl) ?_ (by omega) (by omega)
  refine jT_lald (x := 0) (a := 7) (j := 2) (fs := []) (X := [0, 0, 0, 0, 0, 0]) jI_207_14 rfl rfl rfl rfl ?_
  refine jT_eq (LN := [(3, (0, 2)), (0, (4, 0)), (1, (0, x2)), (2, (0, 1))]) (stN := [(1, 0), (0, 2), (4, 7)]) (hsN := jpA_147) rfl rfl rfl ?_
  refine jT_xiload_n (v := (0, x2)) (pcN := 16) jI_207_15 rfl rfl rfl ?_
  refine jT_xi2l (x := x2) (z := x2) (pcN := 17) jI_207_16 rfl (jw_idd (by omega) (by omega)) rfl ?_
  refine jT_xlmul (x := 0) (y := x2) (z := 0) (pcN := 18) jI_207_17 rfl (by omega) rfl ?_
  refine jT_adv 1 (pcN := 19) (LN := [(3, (0, 2)), (0, (4, 0)), (1, (0, x2)), (2, (0, 1))]) (stN := []) (hsN := jpA_147) (c1 := 0) (s1 := 0) (c2 := 0) (s2 := 0) (by exact rfl) ?_ (by omega) (by omega)
  refine jT_xiinc (x := 2) (z := 3) (LN := [(3, (0, 3)), (0, (4, 0)), (1, (0, x2)), (2, (0, 1))]) (pcN := 22) jI_207_19 rfl rfl (by decide) rfl rfl ?_
  refine jT_xgoto (pcN := 2) jI_207_22 rfl ?_
  refine jT_xiload_n (v := (0, 3)) (pcN := 3) jI_207_2 rfl rfl rfl ?_
  refine jT_xbipush (k := 6) (pcN := 5) jI_207_3 (by decide) rfl ?_
  refine jT_xicF (t := 25) (pcN := 8) jI_207_5 rfl (by decide +kernel) rfl rfl ?_
  refine jT_xaload_n (v := (4, 0)) (pcN := 9) jI_207_8 rfl rfl rfl ?_
  refine jT_xgetf (a := 0) (t := 1) (ci := 14) (fi := 9) (c := jzA_21) (v := (4, 7)) (pcN := 12) jI_207_9 rfl rfl rfl rfl rfl rfl rfl ?_
  refine jT_xiload_n (v := (0, 3)) (pcN := 13) jI_207_12 rfl rfl rfl ?_
  refine jT_adv 1 (pcN := 14) (LN := [(3, (0, 3)), (0, (4, 0)), (1, (0, x2)), (2, (0, 1))]) (stN := [(0, 3), (4, 7), (0, 3), (4, 7)]) (hsN := jpA_147) (c1 := 0) (s1 := 0) (c2 := 0) (s2 := 0) (by exact rfl) ?_ (by omega) (by omega)
  refine jT_lald (x := 0) (a := 7) (j := 3) (fs := []) (X := [0, 0, 0, 0, 0, 0]) jI_207_14 rfl rfl rfl rfl ?_
  refine jT_eq (LN := [(3, (0, 3)), (0, (4, 0)), (1, (0, x2)), (2, (0, 1))]) (stN := [(1, 0), (0, 3), (4, 7)]) (hsN := jpA_147) rfl rfl rfl ?_
  refine jT_xiload_n (v := (0, x2)) (pcN := 16) jI_207_15 rfl rfl rfl ?_
  refine jT_xi2l (x := x2) (z := x2) (pcN := 17) jI_207_16 rfl (jw_idd (by omega) (by omega)) rfl ?_
  refine jT_xlmul (x := 0) (y := x2) (z := 0) (pcN := 18) jI_207_17 rfl (by omega) rfl ?_
  refine jT_adv 1 (pcN := 19) (LN := [(3, (0, 3)), (0, (4, 0)), (1, (0, x2)), (2, (0, 1))]) (stN := []) (hsN := jpA_147) (c1 := 0) (s1 := 0) (c2 := 0) (s2 := 0) (by exact rfl) ?_ (by omega) (by omega)
  refine jT_xiinc (x := 3) (z := 4) (LN := [(3, (0, 4)), (0, (4, 0)), (1, (0, x2)), (2, (0, 1))]) (pcN := 22) jI_207_19 rfl rfl (by decide) rfl rfl ?_
  refine jT_xgoto (pcN := 2) jI_207_22 rfl ?_
  refine jT_xiload_n (v := (0, 4)) (pcN := 3) jI_207_2 rfl rfl rfl ?_
  refine jT_xbipush (k := 6) (pcN := 5) jI_207_3 (by decide) rfl ?_
  refine jT_xicF (t := 25) (pcN := 8) jI_207_5 rfl (by decide +kernel) rfl rfl ?_
  refine jT_xaload_n (v := (4, 0)) (pcN := 9) jI_207_8 rfl rfl rfl ?_
  refine jT_xgetf (a := 0) (t := 1) (ci := 14) (fi := 9) (c := jzA_21) (v := (4, 7)) (pcN := 12) jI_207_9 rfl rfl rfl rfl rfl rfl rfl ?_
  refine jT_xiload_n (v := (0, 4)) (pcN := 13) jI_207_12 rfl rfl rfl ?_
  refine jT_adv 1 (pcN := 14) (LN := [(3, (0, 4)), (0, (4, 0)), (1, (0, x2)), (2, (0, 1))]) (stN := [(0, 4), (4, 7), (0, 4), (4, 7)]) (hsN := jpA_147) (c1 := 0) (s1 := 0) (c2 := 0) (s2 := 0) (by exact rfl) ?_ (by omega) (by omega)
  refine jT_lald (x := 0) (a := 7) (j := 4) (fs := []) (X := [0, 0, 0, 0, 0, 0]) jI_207_14 rfl rfl rfl rfl ?_
  refine jT_eq (LN := [(3, (0, 4)), (0, (4, 0)), (1, (0, x2)), (2, (0, 1))]) (stN := [(1, 0), (0, 4), (4, 7)]) (hsN := jpA_147) rfl rfl rfl ?_
  refine jT_xiload_n (v := (0, x2)) (pcN := 16) jI_207_15 rfl rfl rfl ?_
  refine jT_xi2l (x := x2) (z := x2) (pcN := 17) jI_207_16 rfl (jw_idd (by omega) (by omega)) rfl ?_
  refine jT_xlmul (x := 0) (y := x2) (z := 0) (pcN := 18) jI_207_17 rfl (by omega) rfl ?_
  refine jT_adv 1 (pcN := 19) (LN := [(3, (0, 4)), (0, (4, 0)), (1, (0, x2)), (2, (0, 1))]) (stN := []) (hsN := jpA_147) (c1 := 0) (s1 := 0) (c2 := 0) (s2 := 0) (by exact rfl) ?_ (by omega) (by omega)
  refine jT_xiinc (x := 4) (z := 5) (LN := [(3, (0, 5)), (0, (4, 0)), (1, (0, x2)), (2, (0, 1))]) (pcN := 22) jI_207_19 rfl rfl (by decide) rfl rfl ?_
  refine jT_xgoto (pcN := 2) jI_207_22 rfl ?_
  refine jT_xiload_n (v := (0, 5)) (pcN := 3) jI_207_2 rfl rfl rfl ?_
  refine jT_xbipush (k := 6) (pcN := 5) jI_207_3 (by decide) rfl ?_
  refine jT_xicF (t := 25) (pcN := 8) jI_207_5 rfl (by decide +kernel) rfl rfl ?_
  refine jT_xaload_n (v := (4, 0)) (pcN := 9) jI_207_8 rfl rfl rfl ?_
  refine jT_xgetf (a := 0) (t := 1) (ci := 14) (fi := 9) (c := jzA_21) (v := (4, 7)) (pcN := 12) jI_207_9 rfl rfl rfl rfl rfl rfl rfl ?_
  refine jT_xiload_n (v := (0, 5)) (pcN := 13) jI_207_12 rfl rfl rfl ?_
  refine jT_adv 1 (pcN := 14) (LN := [(3, (0, 5)), (0, (4, 0)), (1, (0, x2)), (2, (0, 1))]) (stN := [(0, 5), (4, 7), (0, 5), (4, 7)]) (hsN := jpA_147) (c1 := 0) (s1 := 0) (c2 := 0) (s2 := 0) (by exact rfl) ?_ (by omega) (by omega)
  refine jT_lald (x := 0) (a := 7) (j := 5) (fs := []) (X := [0, 0, 0, 0, 0, 0]) jI_207_14 rfl rfl rfl rfl ?_
  refine jT_eq (LN := [(3, (0, 5)), (0, (4, 0)), (1, (0, x2)), (2, (0, 1))]) (stN := [(1, 0), (0, 5), (4, 7)]) (hsN := jpA_147) rfl rfl rfl ?_
  refine jT_xiload_n (v := (0, x2)) (pcN := 16) jI_207_15 rfl rfl rfl ?_
  refine jT_xi2l (x := x2) (z := x2) (pcN := 17) jI_207_16 rfl (jw_idd (by omega) (by omega)) rfl ?_
  refine jT_xlmul (x := 0) (y := x2) (z := 0) (pcN := 18) jI_207_17 rfl (by omega) rfl ?_
  refine jT_adv 1 (pcN := 19) (LN := [(3, (0, 5)), (0, (4, 0)), (1, (0, x2)), (2, (0, 1))]) (stN := []) (hsN := jpA_147) (c1 := 0) (s1 := 0) (c2 := 0) (s2 := 0) (by exact rfl) ?_ (by omega) (by omega)
  refine jT_xiinc (x := 5) (z := 6) (LN := [(3, (0, 6)), (0, (4, 0)), (1, (0, x2)), (2, (0, 1))]) (pcN := 22) jI_207_19 rfl rfl (by decide) rfl rfl ?_
  refine jT_xgoto (pcN := 2) jI_207_22 rfl ?_
  refine jT_xiload_n (v := (0, 6)) (pcN := 3) jI_207_2 rfl rfl rfl ?_
  refine jT_xbipush (k := 6) (pcN := 5) jI_207_3 (by decide) rfl ?_
  refine jT_xicT (pcN := 25) jI_207_5 rfl (by decide +kernel) rfl ?_
  refine jT_xaload_n (v := (4, 0)) (pcN := 26) jI_207_25 rfl rfl rfl ?_
  refine jT_adv 1 (pcN := 27) (LN := [(3, (0, 6)), (0, (4, 0)), (1, (0, x2)), (2, (0, 1))]) (stN := [(4, 0), (4, 0)]) (hsN := jpA_147) (c1 := 0) (s1 := 0) (c2 := 0) (s2 := 0) (by exact rfl) ?_ (by omega) (by omega)
  refine jT_xgetf (a := 0) (t := 1) (ci := 14) (fi := 10) (c := jzA_21) (v := (1, 1)) (pcN := 30) jI_207_27 rfl rfl rfl rfl rfl rfl rfl ?_
  refine jT_xiload_n (v := (0, 1)) (pcN := 31) jI_207_30 rfl rfl rfl ?_
  refine jT_xi2l (x := 1) (z := 1) (pcN := 32) jI_207_31 rfl (by decide +kernel) rfl ?_
  refine jT_xlmul (x := 1) (y := 1) (z := 1) (pcN := 33) jI_207_32 rfl (by decide) rfl ?_
  refine jT_adv 1 (pcN := 36) (LN := [(3, (0, 6)), (0, (4, 0)), (1, (0, x2)), (2, (0, 1))]) (stN := []) (hsN := jpA_147) (c1 := 0) (s1 := 0) (c2 := 0) (s2 := 0) (by exact rfl) ?_ (by omega) (by omega)
  refine jT_xaload_n (v := (4, 0)) (pcN := 37) jI_207_36 rfl rfl rfl ?_
  refine jT_fR [0, 1, 2, 3, 4, 5, 6, 7, 8, 9, 10, 11, 12, 13, 14, 15] 16 (y := 199) (pcN := 40) (dC := 1) (bc1 := 0) (bc2 := 0) (c1 := 0) (c2 := 0) (as := [(4, 0)]) (asC := [(4, 0)]) (LN := [(3, (0, 6)), (0, (4, 0)), (1, (0, x2)), (2, (0, 1))]) (stN := []) (hsC := jpA_147) (v := (9, 0)) (st2 := []) (jA_199_45 (d := 0)) (by rfl) (by rfl) (by decide +kernel) (by rfl) (by rfl) (by omega) (by omega) (by omega) (by omega) rfl ?_
  exact jT_ret rfl (by decide) (by show 16 ≤ 16; decide) (by omega) (by omega) ⟨rfl, rfl, rfl⟩
theorem jA_211_185 {xs : List Int} {d : Nat} : jT xs d 211 1 0 [(0, (4, 0))] [] [(101, [], [1, 0, 0, 0, 0, 0])] 0 0 (fun k v hsN => k = 0 ∧ v = (3, 4607182418800017408) ∧ hsN = [(101, [], [1, 0, 0, 0, 0, 0])] ++ []) := by
  refine jT_advK 3 (pcN := 3) (LN := [(0, (4, 0))]) (stN := [(1, 1)]) (hsN := [(101, [], [1, 0, 0, 0, 0, 0])]) (c1 := 0) (s1 := 0) (c2 := 0) (s2 := 0) (by decide +kernel) ?_ (by omega) (by omega)
  refine jT_l2d (x := 1) (z := 4607182418800017408) (by rfl) (by rfl) (by decide +kernel) ?_
  refine jT_advK 4 (pcN := 10) (LN := [(0, (4, 0))]) (stN := [(1, 0), (3, 4609816855700290920), (3, 4607182418800017408)]) (hsN := [(101, [], [1, 0, 0, 0, 0, 0])]) (c1 := 0) (s1 := 0) (c2 := 0) (s2 := 0) (by decide +kernel) ?_ (by omega) (by omega)
  refine jT_l2d (x := 0) (z := 0) (by rfl) (by rfl) (by decide +kernel) ?_
  refine jT_dmul (x := 4609816855700290920) (y := 0) (z := 0) (by rfl) (by rfl) (by decide +kernel) ?_
  refine jT_dadd (x := 4607182418800017408) (y := 0) (z := 4607182418800017408) (by rfl) (by rfl) (by decide +kernel) ?_
  refine jT_advK 4 (pcN := 19) (LN := [(0, (4, 0))]) (stN := [(1, 0), (3, 4612410936051475313), (3, 4607182418800017408)]) (hsN := [(101, [], [1, 0, 0, 0, 0, 0])]) (c1 := 0) (s1 := 0) (c2 := 0) (s2 := 0) (by decide +kernel) ?_ (by omega) (by omega)
  refine jT_l2d (x := 0) (z := 0) (by rfl) (by rfl) (by decide +kernel) ?_
  refine jT_dmul (x := 4612410936051475313) (y := 0) (z := 0) (by rfl) (by rfl) (by decide +kernel) ?_
  refine jT_dadd (x := 4607182418800017408) (y := 0) (z := 4607182418800017408) (by rfl) (by rfl) (by decide +kernel) ?_
  refine jT_advK 4 (pcN := 28) (LN := [(0, (4, 0))]) (stN := [(1, 0), (3, 4613504020090455085), (3, 4607182418800017408)]) (hsN := [(101, [], [1, 0, 0, 0, 0, 0])]) (c1 := 0) (s1 := 0) (c2 := 0) (s2 := 0) (by decide +kernel) ?_ (by omega) (by omega)
  refine jT_l2d (x := 0) (z := 0) (by rfl) (by rfl) (by decide +kernel) ?_
  refine jT_dmul (x := 4613504020090455085) (y := 0) (z := 0) (by rfl) (by rfl) (by decide +kernel) ?_
  refine jT_dadd (x := 4607182418800017408) (y := 0) (z := 4607182418800017408) (by rfl) (by rfl) (by decide +kernel) ?_
  refine jT_advK 4 (pcN := 37) (LN := [(0, (4, 0))]) (stN := [(1, 0), (3, 4614972366274321729), (3, 4607182418800017408)]) (hsN := [(101, [], [1, 0, 0, 0, 0, 0])]) (c1 := 0) (s1 := 0) (c2 := 0) (s2 := 0) (by decide +kernel) ?_ (by omega) (by omega)
  refine jT_l2d (x := 0) (z := 0) (by rfl) (by rfl) (by decide +kernel) ?_
  refine jT_dmul (x := 4614972366274321729) (y := 0) (z := 0) (by rfl) (by rfl) (by decide +kernel) ?_
  refine jT_dadd (x := 4607182418800017408) (y := 0) (z := 4607182418800017408) (by rfl) (by rfl) (by decide +kernel) ?_
  refine jT_advK 4 (pcN := 46) (LN := [(0, (4, 0))]) (stN := [(1, 0), (3, 4615515068267881011), (3, 4607182418800017408)]) (hsN := [(101, [], [1, 0, 0, 0, 0, 0])]) (c1 := 0) (s1 := 0) (c2 := 0) (s2 := 0) (by decide +kernel) ?_ (by omega) (by omega)
  refine jT_l2d (x := 0) (z := 0) (by rfl) (by rfl) (by decide +kernel) ?_
  refine jT_dmul (x := 4615515068267881011) (y := 0) (z := 0) (by rfl) (by rfl) (by decide +kernel) ?_
  refine jT_dadd (x := 4607182418800017408) (y := 0) (z := 4607182418800017408) (by rfl) (by rfl) (by decide +kernel) ?_
  exact jT_ret rfl (by decide) (by show 1 ≤ 1; decide) (by omega) (by omega) ⟨rfl, rfl, rfl⟩
theorem jA_200_186 {xs : List Int} {d : Nat} : jT xs d 200 1 0 [(0, (4, 0))] [] [(101, [], [1, 0, 0, 0, 0, 0])] 0 0 (fun k v hsN => k = 0 ∧ v = (0, 0) ∧ hsN = [(101, [], [1, 0, 0, 0, 0, 0])] ++ []) := by
  refine jT_advK 12 (pcN := 17) (LN := [(1, (0, 0)), (0, (4, 0))]) (stN := [(0, 0)]) (hsN := [(101, [], [1, 0, 0, 0, 0, 0])]) (c1 := 0) (s1 := 0) (c2 := 0) (s2 := 0) (by decide +kernel) ?_ (by omega) (by omega)
  exact jT_ret rfl (by decide) (by show 1 ≤ 1; decide) (by omega) (by omega) ⟨rfl, rfl, rfl⟩
def jpA_825 : List JC := [jzA_670, (101, [], [1, 0, 0, 0, 0, 0]), jgh, jgh, jgh, jgh, jgh, (130, [], [17, 18, 19, 20, 21, 22]), jgh, jgh, jgh, jgh, jgh, jgh, jgh, jgh, jgh, (100, [], (jenc (jlg 0))), jgh, jgh, jgh, jgh, jgh, (100, [], List.replicate 56 0)]
def jpA_826 : List JC := [jzA_670, (101, [], [1, 0, 0, 0, 0, 0]), jgh, jgh, jgh, jgh, jgh, (130, [], [17, 18, 19, 20, 21, 22]), jgh, jgh, jgh, jgh, jgh, jgh, jgh, jgh, jgh, (100, [], (jenc (jlg 0))), jgh, jgh, jgh, jgh, jgh, (100, [], List.replicate 56 0), (100, [], (jenc 1))]
def jpA_827 : List JC := [jzA_670, (101, [], [1, 0, 0, 0, 0, 0]), jgh, jgh, jgh, jgh, jgh, (130, [], [17, 18, 19, 20, 21, 22]), jgh, jgh, jgh, jgh, jgh, jgh, jgh, jgh, jgh, (100, [], (jenc (jlg 0))), jgh, jgh, jgh, jgh, jgh, (100, [], List.replicate 56 0), (100, [], (jenc 1)), (100, [], (jenc (1 * (jlg 0))))]
def jpA_828 : List JC := [jzA_670, (101, [], [1, 0, 0, 0, 0, 0]), jgh, jgh, jgh, jgh, jgh, (130, [], [17, 18, 19, 20, 21, 22]), jgh, jgh, jgh, jgh, jgh, jgh, jgh, jgh, jgh, (100, [], (jenc (jlg 0))), jgh, jgh, jgh, jgh, jgh, (100, [], (jenc 0)), (100, [], (jenc 1)), (100, [], (jenc (1 * (jlg 0))))]
def jpA_829 : List JC := [jzA_670, (101, [], [1, 0, 0, 0, 0, 0]), jgh, jgh, jgh, jgh, jgh, (130, [], [17, 18, 19, 20, 21, 22]), jgh, jgh, jgh, jgh, jgh, jgh, jgh, jgh, jgh, (100, [], (jenc (jlg 0))), jgh, jgh, jgh, jgh, jgh]
theorem jA_214_187 {xs : List Int} {d : Nat} : jT xs (d + 2) 214 23 0 [(0, (4, 0)), (1, (4, 1))] [] jpA_829 3 168 (fun k v hsN => k = 0 ∧ v = (4, 25) ∧ hsN = jpA_829 ++ [(100, [], (jenc 0)), (100, [], (jenc 1)), (100, [], (jenc (1 * (jlg 0))))]) := by
  refine jT_advK 18 (pcN := 25) (LN := [(3, (0, 0)), (2, (4, 23)), (0, (4, 0)), (1, (4, 1))]) (stN := [(1, 1), (4, 23)]) (hsN := jpA_825) (c1 := 1) (s1 := 56) (c2 := 2) (s2 := 112) (by decide +kernel) ?_ (by omega) (by omega)
  refine jT_fA [] 24 (y := 178) (pcN := 28) (dC := 1) (bc1 := 1) (bc2 := 56) (c1 := 1) (c2 := 56) (as := [(1, 1)]) (asC := [(1, 1)]) (LN := [(3, (0, 0)), (2, (4, 23)), (0, (4, 0)), (1, (4, 1))]) (stN := [(4, 23)]) (hsC := []) (ex := [(100, [], (jenc 1))]) (v := (4, 0)) (st2 := [(4, 24), (4, 23)]) (hs2 := jpA_826) (jT_big (d := 0) (v := 1) (by omega) (by omega)) (by rfl) (by rfl) (by decide +kernel) (by rfl) (by rfl) (by omega) (by omega) (by omega) (by omega) rfl (by decide +kernel) ?_
  refine jT_advK 4 (pcN := 34) (LN := [(3, (0, 0)), (2, (4, 23)), (0, (4, 0)), (1, (4, 1))]) (stN := [(4, 17), (4, 24), (4, 23)]) (hsN := jpA_826) (c1 := 0) (s1 := 0) (c2 := 1) (s2 := 56) (by decide +kernel) ?_ (by omega) (by omega)
  refine jT_fA [24, 17] 25 (y := 179) (pcN := 37) (dC := 1) (bc1 := 1) (bc2 := 56) (c1 := 0) (c2 := 0) (as := [(4, 24), (4, 17)]) (asC := [(4, 0), (4, 1)]) (LN := [(3, (0, 0)), (2, (4, 23)), (0, (4, 0)), (1, (4, 1))]) (stN := [(4, 23)]) (hsC := [(100, [], (jenc 1)), (100, [], (jenc (jlg 0)))]) (ex := [(100, [], (jenc (1 * (jlg 0))))]) (v := (4, 2)) (st2 := [(4, 25), (4, 23)]) (hs2 := jpA_827) (jT_product (d := 0) (a := 1) (b := jlg 0) (by decide +kernel) (by decide +kernel)) (by rfl) (by rfl) (by decide +kernel) (by rfl) (by rfl) (by omega) (by omega) (by omega) (by omega) rfl (by decide +kernel) ?_
  refine jT_eq (LN := [(3, (0, 0)), (2, (4, 23)), (0, (4, 0)), (1, (4, 1))]) (stN := [(4, 25), (4, 23)]) (hsN := [jzA_670, (101, [], [1, 0, 0, 0, 0, 0]), jgh, jgh, jgh, jgh, jgh, (130, [], [17, 18, 19, 20, 21, 22]), jgh, jgh, jgh, jgh, jgh, jgh, jgh, jgh, jgh, (100, [], (jenc (jlg 0))), jgh, jgh, jgh, jgh, jgh, (100, [], (jenc 0)), (100, [], (jenc 1)), (100, [], (jenc (1 * (jlg 0))))]) rfl rfl (by show [jzA_670, (101, [], [1, 0, 0, 0, 0, 0]), jgh, jgh, jgh, jgh, jgh, (130, [], [17, 18, 19, 20, 21, 22]), jgh, jgh, jgh, jgh, jgh, jgh, jgh, jgh, jgh, (100, [], (jenc (jlg 0))), jgh, jgh, jgh, jgh, jgh, (100, [], List.replicate 56 0), (100, [], (jenc 1)), (100, [], (jenc (1 * (jlg 0))))] = _; rw [jrep56e]) ?_
  refine jT_fR [23, 25] 26 (y := 181) (pcN := 40) (dC := 0) (bc1 := 0) (bc2 := 0) (c1 := 0) (c2 := 0) (as := [(4, 23), (4, 25)]) (asC := [(4, 0), (4, 1)]) (LN := [(3, (0, 0)), (2, (4, 23)), (0, (4, 0)), (1, (4, 1))]) (stN := []) (hsC := [(100, [], (jenc 0)), (100, [], (jenc (1 * (jlg 0))))]) (v := (4, 1)) (st2 := [(4, 25)]) (jT_added_0l (d := 0) (b := 1 * (jlg 0))) (by rfl) (by rfl) (by decide +kernel) (by rfl) (by rfl) (by omega) (by omega) (by omega) (by omega) rfl ?_
  refine jT_advK 62 (pcN := 48) (LN := [(3, (0, 6)), (2, (4, 25)), (0, (4, 0)), (1, (4, 1))]) (stN := [(4, 25)]) (hsN := jpA_828) (c1 := 0) (s1 := 0) (c2 := 0) (s2 := 0) (by decide +kernel) ?_ (by omega) (by omega)
  exact jT_ret rfl (by decide) (by show 23 ≤ 26; decide) (by omega) (by omega) ⟨rfl, rfl, rfl⟩
theorem jA_213_188 {xs : List Int} {d : Nat} : jT xs (d + 3) 213 23 0 [(0, (4, 0)), (1, (4, 1))] [] jpA_829 3 168 (fun k v hsN => k = 0 ∧ v = (0, 1) ∧ hsN = jpA_829 ++ [(100, [], (jenc 0)), (100, [], (jenc 1)), (100, [], (jenc (1 * (jlg 0))))]) := by
  refine jT_advK 1 (pcN := 1) (LN := [(0, (4, 0)), (1, (4, 1))]) (stN := [(4, 1)]) (hsN := jpA_829) (c1 := 0) (s1 := 0) (c2 := 3) (s2 := 168) (by decide +kernel) ?_ (by omega) (by omega)
  refine jT_fR [1] 23 (y := 200) (pcN := 4) (dC := 0) (bc1 := 0) (bc2 := 0) (c1 := 3) (c2 := 168) (as := [(4, 1)]) (asC := [(4, 0)]) (LN := [(0, (4, 0)), (1, (4, 1))]) (stN := []) (hsC := [(101, [], [1, 0, 0, 0, 0, 0])]) (v := (0, 0)) (st2 := [(0, 0)]) (jA_200_186 (d := 0)) (by rfl) (by rfl) (by decide +kernel) (by rfl) (by rfl) (by omega) (by omega) (by omega) (by omega) rfl ?_
  refine jT_advK 3 (pcN := 13) (LN := [(0, (4, 0)), (1, (4, 1))]) (stN := [(4, 1), (4, 0)]) (hsN := jpA_829) (c1 := 0) (s1 := 0) (c2 := 3) (s2 := 168) (by decide +kernel) ?_ (by omega) (by omega)
  refine jT_fA [0, 1, 2, 3, 4, 5, 6, 7, 8, 9, 10, 11, 12, 13, 14, 15, 16, 17, 18, 19, 20, 21, 22] 23 (y := 214) (pcN := 16) (dC := 2) (bc1 := 3) (bc2 := 168) (c1 := 0) (c2 := 0) (as := [(4, 0), (4, 1)]) (asC := [(4, 0), (4, 1)]) (LN := [(0, (4, 0)), (1, (4, 1))]) (stN := []) (hsC := jpA_829) (ex := [(100, [], (jenc 0)), (100, [], (jenc 1)), (100, [], (jenc (1 * (jlg 0))))]) (v := (4, 25)) (st2 := [(4, 25)]) (hs2 := jpA_828) (jA_214_187 (d := 0)) (by rfl) (by rfl) (by decide +kernel) (by rfl) (by rfl) (by omega) (by omega) (by omega) (by omega) rfl (by decide +kernel) ?_
  refine jT_advK 1 (pcN := 17) (LN := [(0, (4, 0)), (1, (4, 1))]) (stN := [(0, 0), (4, 25)]) (hsN := jpA_828) (c1 := 0) (s1 := 0) (c2 := 0) (s2 := 0) (by decide +kernel) ?_ (by omega) (by omega)
  refine jT_iald (x := 1) (a := 25) (j := 0) (fs := []) (X := (jenc (1 * (jlg 0)))) (by rfl) (by rfl) (by rfl) (by rfl) (jenc_sg (by decide +kernel)) ?_
  refine jT_eq (LN := [(0, (4, 0)), (1, (4, 1))]) (stN := [(0, 1)]) (hsN := jpA_828) rfl rfl rfl ?_
  exact jT_ret rfl (by decide) (by show 23 ≤ 26; decide) (by omega) (by omega) ⟨rfl, rfl, rfl⟩
def jpA_830 : List JC := [jzA_670, (101, [], [1, 0, 0, 0, 0, 0]), jgh, jgh, jgh, jgh, jgh, (130, [], [17, 18, 19, 20, 21, 22]), jgh, jgh, jgh, jgh, jgh, jgh, jgh, jgh, jgh, (100, [], (jenc (jlg 0))), jgh, jgh, jgh, jgh, jgh, (101, [], [1, 0, 0, 0, 0, 0])]
def jpA_831 : List JC := [jzA_670, (101, [], [1, 0, 0, 0, 0, 0]), jgh, jgh, jgh, jgh, jgh, (130, [], [17, 18, 19, 20, 21, 22]), jgh, jgh, jgh, jgh, jgh, jgh, jgh, jgh, jgh, (100, [], (jenc (jlg 0))), jgh, jgh, jgh, jgh, jgh, (101, [], [1, 0, 0, 0, 0, 0]), (100, [], (jenc 0)), (100, [], (jenc 1)), (100, [], (jenc (1 * (jlg 0))))]
def jpA_832 : List JC := [(101, [], [1, 0, 0, 0, 0, 0]), (100, [], (jenc 0)), (100, [], (jenc 1)), (100, [], (jenc (1 * (jlg 0))))]
theorem jA_212_189 {xs : List Int} {d : Nat} : jT xs (d + 4) 212 23 0 [(0, (4, 0)), (1, (4, 1)), (2, (1, 0))] [] jpA_829 4 174 (fun k v hsN => k = 0 ∧ v = (0, 1) ∧ hsN = jpA_829 ++ jpA_832) := by
  refine jT_advK 18 (pcN := 27) (LN := [(4, (4, 23)), (0, (4, 0)), (1, (4, 1)), (2, (1, 0))]) (stN := [(4, 23), (4, 0)]) (hsN := jpA_830) (c1 := 1) (s1 := 6) (c2 := 3) (s2 := 168) (by decide +kernel) ?_ (by omega) (by omega)
  refine jT_fA [0, 23, 2, 3, 4, 5, 6, 7, 8, 9, 10, 11, 12, 13, 14, 15, 16, 17, 18, 19, 20, 21, 22] 24 (y := 213) (pcN := 30) (dC := 3) (bc1 := 3) (bc2 := 168) (c1 := 0) (c2 := 0) (as := [(4, 0), (4, 23)]) (asC := [(4, 0), (4, 1)]) (LN := [(4, (4, 23)), (0, (4, 0)), (1, (4, 1)), (2, (1, 0))]) (stN := []) (hsC := jpA_829) (ex := [(100, [], (jenc 0)), (100, [], (jenc 1)), (100, [], (jenc (1 * (jlg 0))))]) (v := (0, 1)) (st2 := [(0, 1)]) (hs2 := jpA_831) (jA_213_188 (d := 0)) (by rfl) (by rfl) (by decide +kernel) (by rfl) (by rfl) (by omega) (by omega) (by omega) (by omega) rfl (by decide +kernel) ?_
  exact jT_ret rfl (by decide) (by show 23 ≤ 27; decide) (by omega) (by omega) ⟨rfl, rfl, rfl⟩
def jpA_833 : List JC := [jzA_670, (101, [], [1, 0, 0, 0, 0, 0]), jgh, jgh, jgh, jgh, jgh, (130, [], [17, 18, 19, 20, 21, 22]), jgh, jgh, jgh, jgh, jgh, jgh, jgh, jgh, jgh, (100, [], (jenc (jlg 0))), jgh, jgh, jgh, jgh, jgh, (101, [], [(-1), 0, 0, 0, 0, 0])]
def jpA_834 : List JC := [jzA_670, (101, [], [1, 0, 0, 0, 0, 0]), jgh, jgh, jgh, jgh, jgh, (130, [], [17, 18, 19, 20, 21, 22]), jgh, jgh, jgh, jgh, jgh, jgh, jgh, jgh, jgh, (100, [], (jenc (jlg 0))), jgh, jgh, jgh, jgh, jgh, (101, [], [(-1), 0, 0, 0, 0, 0]), (100, [], (jenc 0)), (100, [], (jenc (-1))), (100, [], (jenc ((-1) * (jlg 0))))]
theorem jA_212_190 {xs : List Int} {d : Nat} : jT xs (d + 4) 212 23 0 [(0, (4, 0)), (1, (4, 1)), (2, (1, 2))] [] jpA_829 4 174 (fun k v hsN => k = 0 ∧ v = (0, (-1)) ∧ hsN = jpA_829 ++ jpA_680) := by
  refine jT_advK 18 (pcN := 27) (LN := [(4, (4, 23)), (0, (4, 0)), (1, (4, 1)), (2, (1, 2))]) (stN := [(4, 23), (4, 0)]) (hsN := jpA_833) (c1 := 1) (s1 := 6) (c2 := 3) (s2 := 168) (by decide +kernel) ?_ (by omega) (by omega)
  refine jT_fA [0, 23, 2, 3, 4, 5, 6, 7, 8, 9, 10, 11, 12, 13, 14, 15, 16, 17, 18, 19, 20, 21, 22] 24 (y := 213) (pcN := 30) (dC := 3) (bc1 := 3) (bc2 := 168) (c1 := 0) (c2 := 0) (as := [(4, 0), (4, 23)]) (asC := [(4, 0), (4, 1)]) (LN := [(4, (4, 23)), (0, (4, 0)), (1, (4, 1)), (2, (1, 2))]) (stN := []) (hsC := jpA_675) (ex := [(100, [], (jenc 0)), (100, [], (jenc (-1))), (100, [], (jenc ((-1) * (jlg 0))))]) (v := (0, (-1))) (st2 := [(0, (-1))]) (hs2 := jpA_834) (jA_213_156 (d := 0)) (by rfl) (by rfl) (by decide +kernel) (by rfl) (by rfl) (by omega) (by omega) (by omega) (by omega) rfl (by decide +kernel) ?_
  exact jT_ret rfl (by decide) (by show 23 ≤ 27; decide) (by omega) (by omega) ⟨rfl, rfl, rfl⟩
def jpA_835 : List JC := [jzA_670, (101, [], [1, 0, 0, 0, 0, 0]), jgh, jgh, jgh, jgh, jgh, (130, [], [17, 18, 19, 20, 21, 22]), jgh, jgh, jgh, jgh, jgh, jgh, jgh, jgh, jgh, (100, [], (jenc (jlg 0))), jgh, jgh, jgh, jgh, jgh, (101, [], [1, 0, 0, 0, 0, 0]), (100, [], (jenc 0)), (100, [], (jenc 1)), (100, [], (jenc (1 * (jlg 0)))), (101, [], [(-1), 0, 0, 0, 0, 0]), (100, [], (jenc 0)), (100, [], (jenc (-1))), (100, [], (jenc ((-1) * (jlg 0))))]
def jpA_836 : List JC := [(101, [], [1, 0, 0, 0, 0, 0]), (100, [], (jenc 0)), (100, [], (jenc 1)), (100, [], (jenc (1 * (jlg 0)))), (101, [], [(-1), 0, 0, 0, 0, 0]), (100, [], (jenc 0)), (100, [], (jenc (-1))), (100, [], (jenc ((-1) * (jlg 0))))]
theorem jA_210_191 {xs : List Int} {d : Nat} : jT xs (d + 5) 210 23 0 [(0, (4, 0)), (1, (4, 1)), (2, (1, 2))] [] jpA_829 8 348 (fun k v hsN => k = 0 ∧ v = (1, 0) ∧ hsN = jpA_829 ++ jpA_836) := by
  refine jT_advK 1 (pcN := 1) (LN := [(0, (4, 0)), (1, (4, 1)), (2, (1, 2))]) (stN := [(4, 1)]) (hsN := jpA_829) (c1 := 0) (s1 := 0) (c2 := 8) (s2 := 348) (by decide +kernel) ?_ (by omega) (by omega)
  refine jT_fR [1] 23 (y := 211) (pcN := 4) (dC := 0) (bc1 := 0) (bc2 := 0) (c1 := 8) (c2 := 348) (as := [(4, 1)]) (asC := [(4, 0)]) (LN := [(0, (4, 0)), (1, (4, 1)), (2, (1, 2))]) (stN := []) (hsC := [(101, [], [1, 0, 0, 0, 0, 0])]) (v := (3, 4607182418800017408)) (st2 := [(3, 4607182418800017408)]) (jA_211_185 (d := 0)) (by rfl) (by rfl) (by decide +kernel) (by rfl) (by rfl) (by omega) (by omega) (by omega) (by omega) rfl ?_
  refine jT_advK 1 (pcN := 5) (LN := [(0, (4, 0)), (1, (4, 1)), (2, (1, 2))]) (stN := [(1, 2), (3, 4607182418800017408)]) (hsN := jpA_829) (c1 := 0) (s1 := 0) (c2 := 8) (s2 := 348) (by decide +kernel) ?_ (by omega) (by omega)
  refine jT_l2d (x := 2) (z := 4611686018427387904) (by rfl) (by rfl) (by decide +kernel) ?_
  refine jT_ddiv (x := 4607182418800017408) (y := 4611686018427387904) (z := 4602678819172646912) (by rfl) (by rfl) (by decide +kernel) ?_
  refine jT_d2l (x := 4602678819172646912) (z := 0) (by rfl) (by rfl) (by decide +kernel) ?_
  refine jT_advK 6 (pcN := 16) (LN := [(4, (1, 0)), (0, (4, 0)), (1, (4, 1)), (2, (1, 2))]) (stN := [(1, 0), (4, 1), (4, 0)]) (hsN := jpA_829) (c1 := 0) (s1 := 0) (c2 := 8) (s2 := 348) (by decide +kernel) ?_ (by omega) (by omega)
  refine jT_fA [0, 1, 2, 3, 4, 5, 6, 7, 8, 9, 10, 11, 12, 13, 14, 15, 16, 17, 18, 19, 20, 21, 22] 23 (y := 212) (pcN := 19) (dC := 4) (bc1 := 4) (bc2 := 174) (c1 := 4) (c2 := 174) (as := [(4, 0), (4, 1), (1, 0)]) (asC := [(4, 0), (4, 1), (1, 0)]) (LN := [(4, (1, 0)), (0, (4, 0)), (1, (4, 1)), (2, (1, 2))]) (stN := []) (hsC := jpA_829) (ex := jpA_832) (v := (0, 1)) (st2 := [(0, 1)]) (hs2 := jpA_831) (jA_212_189 (d := 0)) (by rfl) (by rfl) (by decide +kernel) (by rfl) (by rfl) (by omega) (by omega) (by omega) (by omega) rfl (by decide +kernel) ?_
  refine jT_advK 8 (pcN := 39) (LN := [(4, (1, 0)), (0, (4, 0)), (1, (4, 1)), (2, (1, 2))]) (stN := [(1, 2), (4, 1), (4, 0)]) (hsN := jpA_831) (c1 := 0) (s1 := 0) (c2 := 4) (s2 := 174) (by decide +kernel) ?_ (by omega) (by omega)
  refine jT_fA [0, 1, 2, 3, 4, 5, 6, 7, 8, 9, 10, 11, 12, 13, 14, 15, 16, 17, 18, 19, 20, 21, 22] 27 (y := 212) (pcN := 42) (dC := 4) (bc1 := 4) (bc2 := 174) (c1 := 0) (c2 := 0) (as := [(4, 0), (4, 1), (1, 2)]) (asC := [(4, 0), (4, 1), (1, 2)]) (LN := [(4, (1, 0)), (0, (4, 0)), (1, (4, 1)), (2, (1, 2))]) (stN := []) (hsC := jpA_829) (ex := jpA_680) (v := (0, (-1))) (st2 := [(0, (-1))]) (hs2 := jpA_835) (jA_212_190 (d := 0)) (by rfl) (by rfl) (by decide +kernel) (by rfl) (by rfl) (by omega) (by omega) (by omega) (by omega) rfl (by decide +kernel) ?_
  refine jT_advK 2 (pcN := 56) (LN := [(4, (1, 0)), (0, (4, 0)), (1, (4, 1)), (2, (1, 2))]) (stN := [(1, 0)]) (hsN := jpA_835) (c1 := 0) (s1 := 0) (c2 := 0) (s2 := 0) (by decide +kernel) ?_ (by omega) (by omega)
  exact jT_ret rfl (by decide) (by show 23 ≤ 31; decide) (by omega) (by omega) ⟨rfl, rfl, rfl⟩
def jpA_837 : List JC := [jzA_667, (101, [], [0, 0, 0, 0, 0, 0]), jgh, jgh, jgh, jgh, jgh, (130, [], [16, 17, 18, 19, 20, 21]), jgh, jgh, jgh, jgh, jgh, jgh, jgh, jgh, (100, [], (jenc (jlg 0))), jgh, jgh, jgh, jgh, jgh, (101, [], [1, 0, 0, 0, 0, 0])]
def jpA_838 : List JC := [jzA_667, (101, [], [0, 0, 0, 0, 0, 0]), jgh, jgh, jgh, jgh, jgh, (130, [], [16, 17, 18, 19, 20, 21]), jgh, jgh, jgh, jgh, jgh, jgh, jgh, jgh, (100, [], (jenc (jlg 0))), jgh, jgh, jgh, jgh, jgh, (101, [], [1, 0, 0, 0, 0, 0]), (101, [], [1, 0, 0, 0, 0, 0]), (100, [], (jenc 0)), (100, [], (jenc 1)), (100, [], (jenc (1 * (jlg 0)))), (101, [], [(-1), 0, 0, 0, 0, 0]), (100, [], (jenc 0)), (100, [], (jenc (-1))), (100, [], (jenc ((-1) * (jlg 0))))]
def jpA_839 : List JC := [(101, [], [1, 0, 0, 0, 0, 0]), (101, [], [1, 0, 0, 0, 0, 0]), (100, [], (jenc 0)), (100, [], (jenc 1)), (100, [], (jenc (1 * (jlg 0)))), (101, [], [(-1), 0, 0, 0, 0, 0]), (100, [], (jenc 0)), (100, [], (jenc (-1))), (100, [], (jenc ((-1) * (jlg 0))))]
theorem jA_216_192 {xs : List Int} {d : Nat} : jT xs (d + 6) 216 22 0 [(0, (4, 0)), (1, (4, 1)), (2, (1, 1))] [] jpA_679 9 354 (fun k v hsN => k = 0 ∧ v = (1, 0) ∧ hsN = jpA_679 ++ jpA_839) := by
  refine jT_advK 98 (pcN := 51) (LN := [(5, (0, 6)), (4, (4, 22)), (0, (4, 0)), (1, (4, 1)), (2, (1, 1))]) (stN := [(1, 2), (4, 22), (4, 0)]) (hsN := jpA_837) (c1 := 1) (s1 := 6) (c2 := 8) (s2 := 348) (by decide +kernel) ?_ (by omega) (by omega)
  refine jT_fA [0, 22, 2, 3, 4, 5, 6, 7, 1, 8, 9, 10, 11, 12, 13, 14, 15, 16, 17, 18, 19, 20, 21] 23 (y := 210) (pcN := 54) (dC := 5) (bc1 := 8) (bc2 := 348) (c1 := 0) (c2 := 0) (as := [(4, 0), (4, 22), (1, 2)]) (asC := [(4, 0), (4, 1), (1, 2)]) (LN := [(5, (0, 6)), (4, (4, 22)), (0, (4, 0)), (1, (4, 1)), (2, (1, 1))]) (stN := []) (hsC := jpA_829) (ex := jpA_836) (v := (1, 0)) (st2 := [(1, 0)]) (hs2 := jpA_838) (jA_210_191 (d := 0)) (by rfl) (by rfl) (by decide +kernel) (by rfl) (by rfl) (by omega) (by omega) (by omega) (by omega) rfl (by decide +kernel) ?_
  exact jT_ret rfl (by decide) (by show 22 ≤ 31; decide) (by omega) (by omega) ⟨rfl, rfl, rfl⟩
theorem jA_197_193 {xs : List Int} {d : Nat} {x3 : Int} (h_x3 : 0 ≤ x3 ∧ x3 ≤ 7) : jT xs d 197 16 0 [(0, (4, 0)), (1, (4, 1)), (2, (0, 7 * x3))] [] jpA_216 0 0 (fun k v hsN => k = 0 ∧ v = (9, 0) ∧ hsN = [jzA_200, (100, [], ((((((((((((((jS0).set ((7 * x3).toNat) 0)).set ((7 * x3 + 1).toNat) 0)).set ((7 * x3 + 2).toNat) 0)).set ((7 * x3 + 3).toNat) 0)).set ((7 * x3 + 4).toNat) 0)).set ((7 * x3 + 5).toNat) 0)).set ((7 * x3 + 6).toNat) 1)), jgh, jgh, jgh, jgh, jgh, (101, [], [0, 0, 0, 0, 0, 0]), jgh, jgh, jgh, jgh, jgh, jgh, jgh, jgh]) := by
  refine jT_xiconst (k := 0) (pcN := 1) jI_197_0 rfl ?_
  refine jT_xistore_n (v := (0, 0)) (LN := [(3, (0, 0)), (0, (4, 0)), (1, (4, 1)), (2, (0, 7 * x3))]) (pcN := 2) jI_197_1 rfl rfl rfl rfl ?_
  refine jT_xiload_n (v := (0, 0)) (pcN := 3) jI_197_2 rfl rfl rfl ?_
  refine jT_xbipush (k := 6) (pcN := 5) jI_197_3 (by decide) rfl ?_
  refine jT_xicF (t := 26) (pcN := 8) jI_197_5 rfl (by decide +kernel) rfl rfl ?_
  refine jT_xaload_n (v := (4, 1)) (pcN := 9) jI_197_8 rfl rfl rfl ?_
  refine jT_xiload_n (v := (0, 7 * x3)) (pcN := 10) jI_197_9 rfl rfl rfl ?_
  refine jT_xiload_n (v := (0, 0)) (pcN := 11) jI_197_10 rfl rfl rfl ?_
  refine jT_xiadd (x := 7 * x3) (y := 0) (z := 7 * x3) (pcN := 12) jI_197_11 rfl (by omega) rfl ?_
  refine jT_xaload_n (v := (4, 0)) (pcN := 13) jI_197_12 rfl rfl rfl ?_
  refine jT_xgetf (a := 0) (t := 1) (ci := 14) (fi := 9) (c := jzA_200) (v := (4, 7)) (pcN := 16) jI_197_13 rfl rfl rfl rfl rfl rfl rfl ?_
  refine jT_xiload_n (v := (0, 0)) (pcN := 17) jI_197_16 rfl rfl rfl ?_
  refine jT_lald (x := 0) (a := 7) (j := 0) (fs := []) (X := [0, 0, 0, 0, 0, 0]) jI_197_17 rfl rfl rfl rfl ?_
  refine jT_eq (LN := [(3, (0, 0)), (0, (4, 0)), (1, (4, 1)), (2, (0, 7 * x3))]) (stN := [(1, 0), (0, 7 * x3), (4, 1)]) (hsN := jpA_216) rfl rfl rfl ?_
  refine jT_xl2i (pcN := 19) jI_197_18 rfl rfl ?_
  refine jT_iast (x := 0) (a := 1) (j := (7 * x3).toNat) (fs := []) (X := jS0) (by rfl) (by rfl) (by rfl) (jw_nn (by omega) (by omega)) (by rw [show List.length (jS0 : List Int) = 1613 from jS0_len]; omega) ?_
  refine jT_eq (LN := [(3, (0, 0)), (0, (4, 0)), (1, (4, 1)), (2, (0, 7 * x3))]) (stN := []) (hsN := [jzA_200, (100, [], ((jS0).set ((7 * x3).toNat) 0)), jgh, jgh, jgh, jgh, jgh, (101, [], [0, 0, 0, 0, 0, 0]), jgh, jgh, jgh, jgh, jgh, jgh, jgh, jgh]) rfl rfl rfl ?_
  refine jT_xiinc (x := 0) (z := 1) (LN := [(3, (0, 1)), (0, (4, 0)), (1, (4, 1)), (2, (0, 7 * x3))]) (pcN := 23) jI_197_20 rfl rfl (by decide) rfl rfl ?_
  refine jT_xgoto (pcN := 2) jI_197_23 rfl ?_
  refine jT_xiload_n (v := (0, 1)) (pcN := 3) jI_197_2 rfl rfl rfl ?_
  refine jT_xbipush (k := 6) (pcN := 5) jI_197_3 (by decide) rfl ?_
  refine jT_xicF (t := 26) (pcN := 8) jI_197_5 rfl (by decide +kernel) rfl rfl ?_
  refine jT_xaload_n (v := (4, 1)) (pcN := 9) jI_197_8 rfl rfl rfl ?_
  refine jT_xiload_n (v := (0, 7 * x3)) (pcN := 10) jI_197_9 rfl rfl rfl ?_
  refine jT_xiload_n (v := (0, 1)) (pcN := 11) jI_197_10 rfl rfl rfl ?_
  refine jT_xiadd (x := 7 * x3) (y := 1) (z := 7 * x3 + 1) (pcN := 12) jI_197_11 rfl (by omega) rfl ?_
  refine jT_xaload_n (v := (4, 0)) (pcN := 13) jI_197_12 rfl rfl rfl ?_
  refine jT_xgetf (a := 0) (t := 1) (ci := 14) (fi := 9) (c := jzA_200) (v := (4, 7)) (pcN := 16) jI_197_13 rfl rfl rfl rfl rfl rfl rfl ?_
  refine jT_xiload_n (v := (0, 1)) (pcN := 17) jI_197_16 rfl rfl rfl ?_
  refine jT_lald (x := 0) (a := 7) (j := 1) (fs := []) (X := [0, 0, 0, 0, 0, 0]) jI_197_17 rfl rfl rfl rfl ?_
  refine jT_eq (LN := [(3, (0, 1)), (0, (4, 0)), (1, (4, 1)), (2, (0, 7 * x3))]) (stN := [(1, 0), (0, 7 * x3 + 1), (4, 1)]) (hsN := [jzA_200, (100, [], ((jS0).set ((7 * x3).toNat) 0)), jgh, jgh, jgh, jgh, jgh, (101, [], [0, 0, 0, 0, 0, 0]), jgh, jgh, jgh, jgh, jgh, jgh, jgh, jgh]) rfl rfl rfl ?_
  refine jT_xl2i (pcN := 19) jI_197_18 rfl rfl ?_
  refine jT_iast (x := 0) (a := 1) (j := (7 * x3 + 1).toNat) (fs := []) (X := ((jS0).set ((7 * x3).toNat) 0)) (by rfl) (by rfl) (by rfl) (jw_nn (by omega) (by omega)) (by rw [show List.length (((jS0).set ((7 * x3).toNat) 0) : List Int) = 1613 from by rw [List.length_set]; exact (jS0_len)]; omega) ?_
  refine jT_eq (LN := [(3, (0, 1)), (0, (4, 0)), (1, (4, 1)), (2, (0, 7 * x3))]) (stN := []) (hsN := [jzA_200, (100, [], ((((jS0).set ((7 * x3).toNat) 0)).set ((7 * x3 + 1).toNat) 0)), jgh, jgh, jgh, jgh, jgh, (101, [], [0, 0, 0, 0, 0, 0]), jgh, jgh, jgh, jgh, jgh, jgh, jgh, jgh]) rfl rfl rfl ?_
  refine jT_xiinc (x := 1) (z := 2) (LN := [(3, (0, 2)), (0, (4, 0)), (1, (4, 1)), (2, (0, 7 * x3))]) (pcN := 23) jI_197_20 rfl rfl (by decide) rfl rfl ?_
  refine jT_xgoto (pcN := 2) jI_197_23 rfl ?_
  refine jT_xiload_n (v := (0, 2)) (pcN := 3) jI_197_2 rfl rfl rfl ?_
  refine jT_xbipush (k := 6) (pcN := 5) jI_197_3 (by decide) rfl ?_
  refine jT_xicF (t := 26) (pcN := 8) jI_197_5 rfl (by decide +kernel) rfl rfl ?_
  refine jT_xaload_n (v := (4, 1)) (pcN := 9) jI_197_8 rfl rfl rfl ?_
  refine jT_xiload_n (v := (0, 7 * x3)) (pcN := 10) jI_197_9 rfl rfl rfl ?_
  refine jT_xiload_n (v := (0, 2)) (pcN := 11) jI_197_10 rfl rfl rfl ?_
  refine jT_xiadd (x := 7 * x3) (y := 2) (z := 7 * x3 + 2) (pcN := 12) jI_197_11 rfl (by omega) rfl ?_
  refine jT_xaload_n (v := (4, 0)) (pcN := 13) jI_197_12 rfl rfl rfl ?_
  refine jT_xgetf (a := 0) (t := 1) (ci := 14) (fi := 9) (c := jzA_200) (v := (4, 7)) (pcN := 16) jI_197_13 rfl rfl rfl rfl rfl rfl rfl ?_
  refine jT_xiload_n (v := (0, 2)) (pcN := 17) jI_197_16 rfl rfl rfl ?_
  refine jT_lald (x := 0) (a := 7) (j := 2) (fs := []) (X := [0, 0, 0, 0, 0, 0]) jI_197_17 rfl rfl rfl rfl ?_
  refine jT_eq (LN := [(3, (0, 2)), (0, (4, 0)), (1, (4, 1)), (2, (0, 7 * x3))]) (stN := [(1, 0), (0, 7 * x3 + 2), (4, 1)]) (hsN := [jzA_200, (100, [], ((((jS0).set ((7 * x3).toNat) 0)).set ((7 * x3 + 1).toNat) 0)), jgh, jgh, jgh, jgh, jgh, (101, [], [0, 0, 0, 0, 0, 0]), jgh, jgh, jgh, jgh, jgh, jgh, jgh, jgh]) rfl rfl rfl ?_
  refine jT_xl2i (pcN := 19) jI_197_18 rfl rfl ?_
  refine jT_iast (x := 0) (a := 1) (j := (7 * x3 + 2).toNat) (fs := []) (X := ((((jS0).set ((7 * x3).toNat) 0)).set ((7 * x3 + 1).toNat) 0)) (by rfl) (by rfl) (by rfl) (jw_nn (by omega) (by omega)) (by rw [show List.length (((((jS0).set ((7 * x3).toNat) 0)).set ((7 * x3 + 1).toNat) 0) : List Int) = 1613 from by rw [List.length_set, List.length_set]; exact (jS0_len)]; omega) ?_
  refine jT_eq (LN := [(3, (0, 2)), (0, (4, 0)), (1, (4, 1)), (2, (0, 7 * x3))]) (stN := []) (hsN := [jzA_200, (100, [], ((((((jS0).set ((7 * x3).toNat) 0)).set ((7 * x3 + 1).toNat) 0)).set ((7 * x3 + 2).toNat) 0)), jgh, jgh, jgh, jgh, jgh, (101, [], [0, 0, 0, 0, 0, 0]), jgh, jgh, jgh, jgh, jgh, jgh, jgh, jgh]) rfl rfl rfl ?_
  refine jT_xiinc (x := 2) (z := 3) (LN := [(3, (0, 3)), (0, (4, 0)), (1, (4, 1)), (2, (0, 7 * x3))]) (pcN := 23) jI_197_20 rfl rfl (by decide) rfl rfl ?_
  refine jT_xgoto (pcN := 2) jI_197_23 rfl ?_
  refine jT_xiload_n (v := (0, 3)) (pcN := 3) jI_197_2 rfl rfl rfl ?_
  refine jT_xbipush (k := 6) (pcN := 5) jI_197_3 (by decide) rfl ?_
  refine jT_xicF (t := 26) (pcN := 8) jI_197_5 rfl (by decide +kernel) rfl rfl ?_
  refine jT_xaload_n (v := (4, 1)) (pcN := 9) jI_197_8 rfl rfl rfl ?_
  refine jT_xiload_n (v := (0, 7 * x3)) (pcN := 10) jI_197_9 rfl rfl rfl ?_
  refine jT_xiload_n (v := (0, 3)) (pcN := 11) jI_197_10 rfl rfl rfl ?_
  refine jT_xiadd (x := 7 * x3) (y := 3) (z := 7 * x3 + 3) (pcN := 12) jI_197_11 rfl (by omega) rfl ?_
  refine jT_xaload_n (v := (4, 0)) (pcN := 13) jI_197_12 rfl rfl rfl ?_
  refine jT_xgetf (a := 0) (t := 1) (ci := 14) (fi := 9) (c := jzA_200) (v := (4, 7)) (pcN := 16) jI_197_13 rfl rfl rfl rfl rfl rfl rfl ?_
  refine jT_xiload_n (v := (0, 3)) (pcN := 17) jI_197_16 rfl rfl rfl ?_
  refine jT_lald (x := 0) (a := 7) (j := 3) (fs := []) (X := [0, 0, 0, 0, 0, 0]) jI_197_17 rfl rfl rfl rfl ?_
  refine jT_eq (LN := [(3, (0, 3)), (0, (4, 0)), (1, (4, 1)), (2, (0, 7 * x3))]) (stN := [(1, 0), (0, 7 * x3 + 3), (4, 1)]) (hsN := [jzA_200, (100, [], ((((((jS0).set ((7 * x3).toNat) 0)).set ((7 * x3 + 1).toNat) 0)).set ((7 * x3 + 2).toNat) 0)), jgh, jgh, jgh, jgh, jgh, (101, [], [0, 0, 0, 0, 0, 0]), jgh, jgh, jgh, jgh, jgh, jgh, jgh, jgh]) rfl rfl rfl ?_
  refine jT_xl2i (pcN := 19) jI_197_18 rfl rfl ?_
  refine jT_iast (x := 0) (a := 1) (j := (7 * x3 + 3).toNat) (fs := []) (X := ((((((jS0).set ((7 * x3).toNat) 0)).set ((7 * x3 + 1).toNat) 0)).set ((7 * x3 + 2).toNat) 0)) (by rfl) (by rfl) (by rfl) (jw_nn (by omega) (by omega)) (by rw [show List.length (((((((jS0).set ((7 * x3).toNat) 0)).set ((7 * x3 + 1).toNat) 0)).set ((7 * x3 + 2).toNat) 0) : List Int) = 1613 from by rw [List.length_set, List.length_set, List.length_set]; exact (jS0_len)]; omega) ?_
  refine jT_eq (LN := [(3, (0, 3)), (0, (4, 0)), (1, (4, 1)), (2, (0, 7 * x3))]) (stN := []) (hsN := [jzA_200, (100, [], ((((((((jS0).set ((7 * x3).toNat) 0)).set ((7 * x3 + 1).toNat) 0)).set ((7 * x3 + 2).toNat) 0)).set ((7 * x3 + 3).toNat) 0)), jgh, jgh, jgh, jgh, jgh, (101, [], [0, 0, 0, 0, 0, 0]), jgh, jgh, jgh, jgh, jgh, jgh, jgh, jgh]) rfl rfl rfl ?_
  refine jT_xiinc (x := 3) (z := 4) (LN := [(3, (0, 4)), (0, (4, 0)), (1, (4, 1)), (2, (0, 7 * x3))]) (pcN := 23) jI_197_20 rfl rfl (by decide) rfl rfl ?_
  refine jT_xgoto (pcN := 2) jI_197_23 rfl ?_
  refine jT_xiload_n (v := (0, 4)) (pcN := 3) jI_197_2 rfl rfl rfl ?_
  refine jT_xbipush (k := 6) (pcN := 5) jI_197_3 (by decide) rfl ?_
  refine jT_xicF (t := 26) (pcN := 8) jI_197_5 rfl (by decide +kernel) rfl rfl ?_
  refine jT_xaload_n (v := (4, 1)) (pcN := 9) jI_197_8 rfl rfl rfl ?_
  refine jT_xiload_n (v := (0, 7 * x3)) (pcN := 10) jI_197_9 rfl rfl rfl ?_
  refine jT_xiload_n (v := (0, 4)) (pcN := 11) jI_197_10 rfl rfl rfl ?_
  refine jT_xiadd (x := 7 * x3) (y := 4) (z := 7 * x3 + 4) (pcN := 12) jI_197_11 rfl (by omega) rfl ?_
  refine jT_xaload_n (v := (4, 0)) (pcN := 13) jI_197_12 rfl rfl rfl ?_
  refine jT_xgetf (a := 0) (t := 1) (ci := 14) (fi := 9) (c := jzA_200) (v := (4, 7)) (pcN := 16) jI_197_13 rfl rfl rfl rfl rfl rfl rfl ?_
  refine jT_xiload_n (v := (0, 4)) (pcN := 17) jI_197_16 rfl rfl rfl ?_
  refine jT_lald (x := 0) (a := 7) (j := 4) (fs := []) (X := [0, 0, 0, 0, 0, 0]) jI_197_17 rfl rfl rfl rfl ?_
  refine jT_eq (LN := [(3, (0, 4)), (0, (4, 0)), (1, (4, 1)), (2, (0, 7 * x3))]) (stN := [(1, 0), (0, 7 * x3 + 4), (4, 1)]) (hsN := [jzA_200, (100, [], ((((((((jS0).set ((7 * x3).toNat) 0)).set ((7 * x3 + 1).toNat) 0)).set ((7 * x3 + 2).toNat) 0)).set ((7 * x3 + 3).toNat) 0)), jgh, jgh, jgh, jgh, jgh, (101, [], [0, 0, 0, 0, 0, 0]), jgh, jgh, jgh, jgh, jgh, jgh, jgh, jgh]) rfl rfl rfl ?_
  refine jT_xl2i (pcN := 19) jI_197_18 rfl rfl ?_
  refine jT_iast (x := 0) (a := 1) (j := (7 * x3 + 4).toNat) (fs := []) (X := ((((((((jS0).set ((7 * x3).toNat) 0)).set ((7 * x3 + 1).toNat) 0)).set ((7 * x3 + 2).toNat) 0)).set ((7 * x3 + 3).toNat) 0)) (by rfl) (by rfl) (by rfl) (jw_nn (by omega) (by omega)) (by rw [show List.length (((((((((jS0).set ((7 * x3).toNat) 0)).set ((7 * x3 + 1).toNat) 0)).set ((7 * x3 + 2).toNat) 0)).set ((7 * x3 + 3).toNat) 0) : List Int) = 1613 from by rw [List.length_set, List.length_set, List.length_set, List.length_set]; exact (jS0_len)]; omega) ?_
  refine jT_eq (LN := [(3, (0, 4)), (0, (4, 0)), (1, (4, 1)), (2, (0, 7 * x3))]) (stN := []) (hsN := [jzA_200, (100, [], ((((((((((jS0).set ((7 * x3).toNat) 0)).set ((7 * x3 + 1).toNat) 0)).set ((7 * x3 + 2).toNat) 0)).set ((7 * x3 + 3).toNat) 0)).set ((7 * x3 + 4).toNat) 0)), jgh, jgh, jgh, jgh, jgh, (101, [], [0, 0, 0, 0, 0, 0]), jgh, jgh, jgh, jgh, jgh, jgh, jgh, jgh]) rfl rfl rfl ?_
  refine jT_xiinc (x := 4) (z := 5) (LN := [(3, (0, 5)), (0, (4, 0)), (1, (4, 1)), (2, (0, 7 * x3))]) (pcN := 23) jI_197_20 rfl rfl (by decide) rfl rfl ?_
  refine jT_xgoto (pcN := 2) jI_197_23 rfl ?_
  refine jT_xiload_n (v := (0, 5)) (pcN := 3) jI_197_2 rfl rfl rfl ?_
  refine jT_xbipush (k := 6) (pcN := 5) jI_197_3 (by decide) rfl ?_
  refine jT_xicF (t := 26) (pcN := 8) jI_197_5 rfl (by decide +kernel) rfl rfl ?_
  refine jT_xaload_n (v := (4, 1)) (pcN := 9) jI_197_8 rfl rfl rfl ?_
  refine jT_xiload_n (v := (0, 7 * x3)) (pcN := 10) jI_197_9 rfl rfl rfl ?_
  refine jT_xiload_n (v := (0, 5)) (pcN := 11) jI_197_10 rfl rfl rfl ?_
  refine jT_xiadd (x := 7 * x3) (y := 5) (z := 7 * x3 + 5) (pcN := 12) jI_197_11 rfl (by omega) rfl ?_
  refine jT_xaload_n (v := (4, 0)) (pcN := 13) jI_197_12 rfl rfl rfl ?_
  refine jT_xgetf (a := 0) (t := 1) (ci := 14) (fi := 9) (c := jzA_200) (v := (4, 7)) (pcN := 16) jI_197_13 rfl rfl rfl rfl rfl rfl rfl ?_
  refine jT_xiload_n (v := (0, 5)) (pcN := 17) jI_197_16 rfl rfl rfl ?_
  refine jT_lald (x := 0) (a := 7) (j := 5) (fs := []) (X := [0, 0, 0, 0, 0, 0]) jI_197_17 rfl rfl rfl rfl ?_
  refine jT_eq (LN := [(3, (0, 5)), (0, (4, 0)), (1, (4, 1)), (2, (0, 7 * x3))]) (stN := [(1, 0), (0, 7 * x3 + 5), (4, 1)]) (hsN := [jzA_200, (100, [], ((((((((((jS0).set ((7 * x3).toNat) 0)).set ((7 * x3 + 1).toNat) 0)).set ((7 * x3 + 2).toNat) 0)).set ((7 * x3 + 3).toNat) 0)).set ((7 * x3 + 4).toNat) 0)), jgh, jgh, jgh, jgh, jgh, (101, [], [0, 0, 0, 0, 0, 0]), jgh, jgh, jgh, jgh, jgh, jgh, jgh, jgh]) rfl rfl rfl ?_
  refine jT_xl2i (pcN := 19) jI_197_18 rfl rfl ?_
  refine jT_iast (x := 0) (a := 1) (j := (7 * x3 + 5).toNat) (fs := []) (X := ((((((((((jS0).set ((7 * x3).toNat) 0)).set ((7 * x3 + 1).toNat) 0)).set ((7 * x3 + 2).toNat) 0)).set ((7 * x3 + 3).toNat) 0)).set ((7 * x3 + 4).toNat) 0)) (by rfl) (by rfl) (by rfl) (jw_nn (by omega) (by omega)) (by rw [show List.length (((((((((((jS0).set ((7 * x3).toNat) 0)).set ((7 * x3 + 1).toNat) 0)).set ((7 * x3 + 2).toNat) 0)).set ((7 * x3 + 3).toNat) 0)).set ((7 * x3 + 4).toNat) 0) : List Int) = 1613 from by rw [List.length_set, List.length_set, List.length_set, List.length_set, List.length_set]; exact (jS0_len)]; omega) ?_
  refine jT_eq (LN := [(3, (0, 5)), (0, (4, 0)), (1, (4, 1)), (2, (0, 7 * x3))]) (stN := []) (hsN := [jzA_200, (100, [], ((((((((((((jS0).set ((7 * x3).toNat) 0)).set ((7 * x3 + 1).toNat) 0)).set ((7 * x3 + 2).toNat) 0)).set ((7 * x3 + 3).toNat) 0)).set ((7 * x3 + 4).toNat) 0)).set ((7 * x3 + 5).toNat) 0)), jgh, jgh, jgh, jgh, jgh, (101, [], [0, 0, 0, 0, 0, 0]), jgh, jgh, jgh, jgh, jgh, jgh, jgh, jgh]) rfl rfl rfl ?_
  refine jT_xiinc (x := 5) (z := 6) (LN := [(3, (0, 6)), (0, (4, 0)), (1, (4, 1)), (2, (0, 7 * x3))]) (pcN := 23) jI_197_20 rfl rfl (by decide) rfl rfl ?_
  refine jT_xgoto (pcN := 2) jI_197_23 rfl ?_
  refine jT_xiload_n (v := (0, 6)) (pcN := 3) jI_197_2 rfl rfl rfl ?_
  refine jT_xbipush (k := 6) (pcN := 5) jI_197_3 (by decide) rfl ?_
  refine jT_xicT (pcN := 26) jI_197_5 rfl (by decide +kernel) rfl ?_
  refine jT_xaload_n (v := (4, 1)) (pcN := 27) jI_197_26 rfl rfl rfl ?_
  refine jT_xiload_n (v := (0, 7 * x3)) (pcN := 28) jI_197_27 rfl rfl rfl ?_
  refine jT_xbipush (k := 6) (pcN := 30) jI_197_28 (by decide) rfl ?_
  refine jT_xiadd (x := 7 * x3) (y := 6) (z := 7 * x3 + 6) (pcN := 31) jI_197_30 rfl (by omega) rfl ?_
  refine jT_xaload_n (v := (4, 0)) (pcN := 32) jI_197_31 rfl rfl rfl ?_
  refine jT_xgetf (a := 0) (t := 1) (ci := 14) (fi := 10) (c := jzA_200) (v := (1, 1)) (pcN := 35) jI_197_32 rfl rfl rfl rfl rfl rfl rfl ?_
  refine jT_xl2i (pcN := 36) jI_197_35 rfl rfl ?_
  refine jT_iast (x := 1) (a := 1) (j := (7 * x3 + 6).toNat) (fs := []) (X := ((((((((((((jS0).set ((7 * x3).toNat) 0)).set ((7 * x3 + 1).toNat) 0)).set ((7 * x3 + 2).toNat) 0)).set ((7 * x3 + 3).toNat) 0)).set ((7 * x3 + 4).toNat) 0)).set ((7 * x3 + 5).toNat) 0)) (by rfl) (by rfl) (by rfl) (jw_nn (by omega) (by omega)) (by rw [show List.length (((((((((((((jS0).set ((7 * x3).toNat) 0)).set ((7 * x3 + 1).toNat) 0)).set ((7 * x3 + 2).toNat) 0)).set ((7 * x3 + 3).toNat) 0)).set ((7 * x3 + 4).toNat) 0)).set ((7 * x3 + 5).toNat) 0) : List Int) = 1613 from by rw [List.length_set, List.length_set, List.length_set, List.length_set, List.length_set, List.length_set]; exact (jS0_len)]; omega) ?_
  refine jT_eq (LN := [(3, (0, 6)), (0, (4, 0)), (1, (4, 1)), (2, (0, 7 * x3))]) (stN := []) (hsN := [jzA_200, (100, [], ((((((((((((((jS0).set ((7 * x3).toNat) 0)).set ((7 * x3 + 1).toNat) 0)).set ((7 * x3 + 2).toNat) 0)).set ((7 * x3 + 3).toNat) 0)).set ((7 * x3 + 4).toNat) 0)).set ((7 * x3 + 5).toNat) 0)).set ((7 * x3 + 6).toNat) 1)), jgh, jgh, jgh, jgh, jgh, (101, [], [0, 0, 0, 0, 0, 0]), jgh, jgh, jgh, jgh, jgh, jgh, jgh, jgh]) rfl rfl rfl ?_
  exact jT_ret rfl (by decide) (by show 16 ≤ 16; decide) (by omega) (by omega) ⟨rfl, rfl, rfl⟩
theorem jA_196_194 {xs : List Int} {d : Nat} {x3 : Int} (h_x3 : 0 ≤ x3 ∧ x3 ≤ 7) : jT xs (d + 1) 196 16 0 [(0, (4, 0)), (1, (0, x3))] [] jpA_216 0 0 (fun k v hsN => k = 0 ∧ v = (0, 1) ∧ hsN = [jzA_200, (100, [], ((((((((((((((jS0).set ((7 * x3).toNat) 0)).set ((7 * x3 + 1).toNat) 0)).set ((7 * x3 + 2).toNat) 0)).set ((7 * x3 + 3).toNat) 0)).set ((7 * x3 + 4).toNat) 0)).set ((7 * x3 + 5).toNat) 0)).set ((7 * x3 + 6).toNat) 1)), jgh, jgh, jgh, jgh, jgh, (101, [], [0, 0, 0, 0, 0, 0]), jgh, jgh, jgh, jgh, jgh, jgh, jgh, jgh]) := by
  refine jT_xaload_n (v := (4, 0)) (pcN := 1) jI_196_0 rfl rfl rfl ?_
  refine jT_xaload_n (v := (4, 0)) (pcN := 2) jI_196_1 rfl rfl rfl ?_
  refine jT_xgetf (a := 0) (t := 1) (ci := 14) (fi := 1) (c := jzA_200) (v := (4, 1)) (pcN := 5) jI_196_2 rfl rfl rfl rfl rfl rfl rfl ?_
  refine jT_xbipush (k := 7) (pcN := 7) jI_196_5 (by decide) rfl ?_
  refine jT_xiload_n (v := (0, x3)) (pcN := 8) jI_196_7 rfl rfl rfl ?_
  refine jT_ximul (x := 7) (y := x3) (z := 7 * x3) (pcN := 9) jI_196_8 rfl (rfl) rfl ?_
  refine jT_fB [0, 1, 2, 3, 4, 5, 6, 7, 8, 9, 10, 11, 12, 13, 14, 15] 16 (y := 197) (pcN := 12) (dC := 0) (bc1 := 0) (bc2 := 0) (c1 := 0) (c2 := 0) (as := [(4, 0), (4, 1), (0, 7 * x3)]) (asC := [(4, 0), (4, 1), (0, 7 * x3)]) (LN := [(0, (4, 0)), (1, (0, x3))]) (stN := []) (hsC := jpA_216) (hsD := [jzA_200, (100, [], ((((((((((((((jS0).set ((7 * x3).toNat) 0)).set ((7 * x3 + 1).toNat) 0)).set ((7 * x3 + 2).toNat) 0)).set ((7 * x3 + 3).toNat) 0)).set ((7 * x3 + 4).toNat) 0)).set ((7 * x3 + 5).toNat) 0)).set ((7 * x3 + 6).toNat) 1)), jgh, jgh, jgh, jgh, jgh, (101, [], [0, 0, 0, 0, 0, 0]), jgh, jgh, jgh, jgh, jgh, jgh, jgh, jgh]) (v := (9, 0)) (st2 := []) (hs2 := [jzA_200, (100, [], ((((((((((((((jS0).set ((7 * x3).toNat) 0)).set ((7 * x3 + 1).toNat) 0)).set ((7 * x3 + 2).toNat) 0)).set ((7 * x3 + 3).toNat) 0)).set ((7 * x3 + 4).toNat) 0)).set ((7 * x3 + 5).toNat) 0)).set ((7 * x3 + 6).toNat) 1)), jgh, jgh, jgh, jgh, jgh, (101, [], [0, 0, 0, 0, 0, 0]), jgh, jgh, jgh, jgh, jgh, jgh, jgh, jgh]) (jA_197_193 (d := 0) (by omega)) (by rfl) (by rfl) (by decide +kernel) (by rfl) (by rfl) (by omega) (by omega) (by omega) (by omega) rfl rfl ?_
  refine jT_xaload_n (v := (4, 0)) (pcN := 13) jI_196_12 rfl rfl rfl ?_
  refine jT_xgetf (a := 0) (t := 1) (ci := 14) (fi := 10) (c := jzA_200) (v := (1, 1)) (pcN := 16) jI_196_13 rfl rfl rfl rfl rfl rfl rfl ?_
  refine jT_xl2i (pcN := 17) jI_196_16 rfl rfl ?_
  exact jT_ret rfl (by decide) (by show 16 ≤ 16; decide) (by omega) (by omega) ⟨rfl, rfl, rfl⟩
theorem jI_215_45 : jmI (jm 215) 45 = (.aload_n 0, 1) := by rfl
theorem jI_215_46 : jmI (jm 215) 46 = (.iload_n 1, 1) := by rfl
theorem jI_215_50 : jmI (jm 215) 50 = (.aload_n 0, 1) := by rfl
theorem jI_215_51 : jmI (jm 215) 51 = (.iload_n 2, 1) := by rfl
theorem jI_215_52 : jmI (jm 215) 52 = (.iconst 1, 1) := by rfl
theorem jI_215_56 : jmI (jm 215) 56 = (.aload_n 0, 1) := by rfl
theorem jI_215_57 : jmI (jm 215) 57 = (.aload_n 0, 1) := by rfl
theorem jI_215_58 : jmI (jm 215) 58 = (.getfield 31, 3) := by rfl
theorem jI_215_61 : jmI (jm 215) 61 = (.aload_n 0, 1) := by rfl
theorem jI_215_62 : jmI (jm 215) 62 = (.getfield 35, 3) := by rfl
def jpA_850 : List JC := [jzA_21, (100, [], jS0), (100, [], []), jzA_196, jzA_197, jgh, (130, [], [24, 25, 26, 27, 28, 29]), (101, [], [0, 0, 0, 0, 0, 0]), jgh, jgh, jgh, jgh, jgh, jgh, jgh, jgh, (100, [], (List.replicate 1613 0)), jgh, jgh, jgh, jgh, jgh, jgh, jgh, (100, [], (jenc (jlg 0))), jgh, jgh, jgh, jgh, jgh, (101, [], [1, 0, 0, 0, 0, 0]), (101, [], [1, 0, 0, 0, 0, 0]), (100, [], (jenc 0)), (100, [], (jenc 1)), (100, [], (jenc (1 * (jlg 0)))), (101, [], [(-1), 0, 0, 0, 0, 0]), (100, [], (jenc 0)), (100, [], (jenc (-1))), (100, [], (jenc ((-1) * (jlg 0))))]
theorem jI_215_68 : jmI (jm 215) 68 = (.lstore 4, 2) := by rfl
theorem jI_215_70 : jmI (jm 215) 70 = (.aload_n 0, 1) := by rfl
theorem jI_215_71 : jmI (jm 215) 71 = (.getfield 31, 3) := by rfl
theorem jI_215_74 : jmI (jm 215) 74 = (.iconst 0, 1) := by rfl
theorem jI_215_76 : jmI (jm 215) 76 = (.laload, 1) := by rfl
theorem jI_215_77 : jmI (jm 215) 77 = (.lload 4, 2) := by rfl
theorem jI_215_79 : jmI (jm 215) 79 = (.aload_n 0, 1) := by rfl
theorem jI_215_80 : jmI (jm 215) 80 = (.getfield 35, 3) := by rfl
theorem jI_215_83 : jmI (jm 215) 83 = (.lmul, 1) := by rfl
theorem jI_215_84 : jmI (jm 215) 84 = (.lsub, 1) := by rfl
theorem jI_215_86 : jmI (jm 215) 86 = (.aload_n 0, 1) := by rfl
theorem jI_215_87 : jmI (jm 215) 87 = (.aload_n 0, 1) := by rfl
theorem jI_215_91 : jmI (jm 215) 91 = (.iconst 3, 1) := by rfl
theorem jI_215_95 : jmI (jm 215) 95 = (.ifCond .eq 5, 3) := by rfl
theorem jI_215_100 : jmI (jm 215) 100 = (.aload_n 0, 1) := by rfl
def jpA_866 : List JC := [jzA_200, (100, [], jS0), (100, [], []), jzA_196, jzA_201, jgh, (130, [], [24, 25, 26, 27, 28, 29]), (101, [], [0, 0, 0, 0, 0, 0]), jgh, jgh, jgh, jgh, jgh, jgh, jgh, jgh, (100, [], jS0), jgh, jgh, jgh, jgh, jgh, jgh, jgh, (100, [], (jenc (jlg 0))), jgh, jgh, jgh, jgh, jgh, (101, [], [1, 0, 0, 0, 0, 0]), (101, [], [1, 0, 0, 0, 0, 0]), (100, [], (jenc 0)), (100, [], (jenc 1)), (100, [], (jenc (1 * (jlg 0)))), (101, [], [(-1), 0, 0, 0, 0, 0]), (100, [], (jenc 0)), (100, [], (jenc (-1))), (100, [], (jenc ((-1) * (jlg 0))))]
theorem jI_215_104 : jmI (jm 215) 104 = (.aload_n 0, 1) := by rfl
theorem jI_215_105 : jmI (jm 215) 105 = (.iload_n 3, 1) := by rfl
theorem jI_215_110 : jmI (jm 215) 110 = (.lload 4, 2) := by rfl
theorem jI_215_112 : jmI (jm 215) 112 = (.l2i, 1) := by rfl
theorem jA_215_195 {xs : List Int} {d : Nat} {x1 x2 x3 : Int} (h_x1 : 0 ≤ x1 ∧ x1 ≤ 7) (h_x2 : 1 ≤ x2 ∧ x2 ≤ 400) (h_x3 : 0 ≤ x3 ∧ x3 ≤ 7) : jT xs (d + 7) 215 30 0 [(0, (4, 0)), (1, (0, x1)), (2, (0, x2)), (3, (0, x3))] [] jpA_701 9 354 (fun k v hsN => k = 0 ∧ v = (0, 0) ∧ hsN = [jzA_200, (100, [], ((((((((((((((jS0).set ((7 * x3).toNat) 0)).set ((7 * x3 + 1).toNat) 0)).set ((7 * x3 + 2).toNat) 0)).set ((7 * x3 + 3).toNat) 0)).set ((7 * x3 + 4).toNat) 0)).set ((7 * x3 + 5).toNat) 0)).set ((7 * x3 + 6).toNat) 1)), (100, [], []), jzA_196, jzA_201, jgh, (130, [], [24, 25, 26, 27, 28, 29]), (101, [], [0, 0, 0, 0, 0, 0]), jgh, jgh, jgh, jgh, jgh, jgh, jgh, jgh, (100, [], jS0), jgh, jgh, jgh, jgh, jgh, jgh, jgh, (100, [], (jenc (jlg 0))), jgh, jgh, jgh, jgh, jgh, (101, [], [1, 0, 0, 0, 0, 0]), (101, [], [1, 0, 0, 0, 0, 0]), (100, [], (jenc 0)), (100, [], (jenc 1)), (100, [], (jenc (1 * (jlg 0)))), (101, [], [(-1), 0, 0, 0, 0, 0]), (100, [], (jenc 0)), (100, [], (jenc (-1))), (100, [], (jenc ((-1) * (jlg 0))))]) := by
  refine jT_xaload_n (v := (4, 0)) (pcN := 1) jI_215_0 rfl rfl rfl ?_
  refine jT_xiload_n (v := (0, x1)) (pcN := 2) jI_215_1 rfl rfl rfl ?_
  refine jT_fR [] 30 (y := 188) (pcN := 5) (dC := 1) (bc1 := 0) (bc2 := 0) (c1 := 9) (c2 := 354) (as := [(0, x1)]) (asC := [(0, x1)]) (LN := [(0, (4, 0)), (1, (0, x1)), (2, (0, x2)), (3, (0, x3))]) (stN := [(4, 0)]) (hsC := []) (v := (0, 1)) (st2 := [(0, 1), (4, 0)]) (jA_188_13 (d := 0) (by omega)) (by rfl) (by rfl) (by decide +kernel) (by rfl) (by rfl) (by omega) (by omega) (by omega) (by omega) rfl ?_
  refine jT_xifF (t := 19) (pcN := 8) jI_215_5 rfl (by decide +kernel) rfl rfl ?_
  refine jT_xiload_n (v := (0, x3)) (pcN := 9) jI_215_8 rfl rfl rfl ?_
  refine jT_fR [] 30 (y := 188) (pcN := 12) (dC := 1) (bc1 := 0) (bc2 := 0) (c1 := 9) (c2 := 354) (as := [(0, x3)]) (asC := [(0, x3)]) (LN := [(0, (4, 0)), (1, (0, x1)), (2, (0, x2)), (3, (0, x3))]) (stN := [(4, 0)]) (hsC := []) (v := (0, 1)) (st2 := [(0, 1), (4, 0)]) (jA_188_37 (d := 0) (by omega)) (by rfl) (by rfl) (by decide +kernel) (by rfl) (by rfl) (by omega) (by omega) (by omega) (by omega) rfl ?_
  refine jT_xifF (t := 19) (pcN := 15) jI_215_12 rfl (by decide +kernel) rfl rfl ?_
  refine jT_xiconst (k := 1) (pcN := 16) jI_215_15 rfl ?_
  refine jT_xgoto (pcN := 20) jI_215_16 rfl ?_
  refine jT_fR [0, 1, 2, 3, 4, 5, 6, 7, 8, 9, 10, 11, 12, 13, 14, 15] 30 (y := 190) (pcN := 23) (dC := 1) (bc1 := 0) (bc2 := 0) (c1 := 9) (c2 := 354) (as := [(4, 0), (0, 1)]) (asC := [(4, 0), (0, 1)]) (LN := [(0, (4, 0)), (1, (0, x1)), (2, (0, x2)), (3, (0, x3))]) (stN := []) (hsC := jpA_22) (v := (0, 0)) (st2 := [(0, 0)]) (jA_190_39 (d := 0)) (by rfl) (by rfl) (by decide +kernel) (by rfl) (by rfl) (by omega) (by omega) (by omega) (by omega) rfl ?_
  refine jT_xifF (t := 43) (pcN := 26) jI_215_23 rfl (by decide +kernel) rfl rfl ?_
  refine jT_xaload_n (v := (4, 0)) (pcN := 27) jI_215_26 rfl rfl rfl ?_
  refine jT_xiload_n (v := (0, x2)) (pcN := 28) jI_215_27 rfl rfl rfl ?_
  refine jT_xi2l (x := x2) (z := x2) (pcN := 29) jI_215_28 rfl (jw_idd (by omega) (by omega)) rfl ?_
  refine jT_xlconst (z := 1) (pcN := 30) jI_215_29 rfl rfl ?_
  refine jT_adv 1 (pcN := 33) (LN := [(0, (4, 0)), (1, (0, x1)), (2, (0, x2)), (3, (0, x3))]) (stN := [(1, 400), (1, 1), (1, x2), (4, 0)]) (hsN := jpA_701) (c1 := 0) (s1 := 0) (c2 := 9) (s2 := 354) (by exact rfl) ?_ (by omega) (by omega)
  refine jT_fR [] 30 (y := 189) (pcN := 36) (dC := 0) (bc1 := 0) (bc2 := 0) (c1 := 9) (c2 := 354) (as := [(1, x2), (1, 1), (1, 400)]) (asC := [(1, x2), (1, 1), (1, 400)]) (LN := [(0, (4, 0)), (1, (0, x1)), (2, (0, x2)), (3, (0, x3))]) (stN := [(4, 0)]) (hsC := []) (v := (0, 1)) (st2 := [(0, 1), (4, 0)]) (jT_in_ok (d := 0) (v := x2) (lo := 1) (hi := 400) (by omega) (by omega) (by omega) (by omega) (by omega)) (by rfl) (by rfl) (by decide +kernel) (by rfl) (by rfl) (by omega) (by omega) (by omega) (by omega) rfl ?_
  refine jT_xiconst (k := 2) (pcN := 37) jI_215_36 rfl ?_
  refine jT_fR [0] 30 (y := 191) (pcN := 40) (dC := 0) (bc1 := 0) (bc2 := 0) (c1 := 9) (c2 := 354) (as := [(4, 0), (0, 1), (0, 2)]) (asC := [(4, 0), (0, 1), (0, 2)]) (LN := [(0, (4, 0)), (1, (0, x1)), (2, (0, x2)), (3, (0, x3))]) (stN := []) (hsC := [jgh]) (v := (0, 0)) (st2 := [(0, 0)]) (jA_191_49 (d := 0)) (by rfl) (by rfl) (by decide +kernel) (by rfl) (by rfl) (by omega) (by omega) (by omega) (by omega) rfl ?_
  refine jT_xifT (pcN := 45) jI_215_40 rfl (by decide +kernel) rfl ?_
  refine jT_xaload_n (v := (4, 0)) (pcN := 46) jI_215_45 rfl rfl rfl ?_
  refine jT_xiload_n (v := (0, x1)) (pcN := 47) jI_215_46 rfl rfl rfl ?_
  refine jT_fR [0, 1, 2, 3, 4, 5, 6, 7, 8, 9, 10, 11, 12, 13, 14, 15] 30 (y := 202) (pcN := 50) (dC := 1) (bc1 := 0) (bc2 := 0) (c1 := 9) (c2 := 354) (as := [(4, 0), (0, x1)]) (asC := [(4, 0), (0, x1)]) (LN := [(0, (4, 0)), (1, (0, x1)), (2, (0, x2)), (3, (0, x3))]) (stN := []) (hsC := jpA_130) (v := (9, 0)) (st2 := []) (jA_202_115 (d := 0) (by omega)) (by rfl) (by rfl) (by decide +kernel) (by rfl) (by rfl) (by omega) (by omega) (by omega) (by omega) rfl ?_
  refine jT_xaload_n (v := (4, 0)) (pcN := 51) jI_215_50 rfl rfl rfl ?_
  refine jT_xiload_n (v := (0, x2)) (pcN := 52) jI_215_51 rfl rfl rfl ?_
  refine jT_xiconst (k := 1) (pcN := 53) jI_215_52 rfl ?_
  refine jT_fR [0, 1, 2, 3, 4, 5, 6, 7, 8, 9, 10, 11, 12, 13, 14, 15] 30 (y := 207) (pcN := 56) (dC := 2) (bc1 := 0) (bc2 := 0) (c1 := 9) (c2 := 354) (as := [(4, 0), (0, x2), (0, 1)]) (asC := [(4, 0), (0, x2), (0, 1)]) (LN := [(0, (4, 0)), (1, (0, x1)), (2, (0, x2)), (3, (0, x3))]) (stN := []) (hsC := jpA_147) (v := (9, 0)) (st2 := []) (jA_207_184 (d := 0) (by omega)) (by rfl) (by rfl) (by decide +kernel) (by rfl) (by rfl) (by omega) (by omega) (by omega) (by omega) rfl ?_
  refine jT_xaload_n (v := (4, 0)) (pcN := 57) jI_215_56 rfl rfl rfl ?_
  refine jT_xaload_n (v := (4, 0)) (pcN := 58) jI_215_57 rfl rfl rfl ?_
  refine jT_xgetf (a := 0) (t := 1) (ci := 14) (fi := 9) (c := jzA_21) (v := (4, 7)) (pcN := 61) jI_215_58 rfl rfl rfl rfl rfl rfl rfl ?_
  refine jT_xaload_n (v := (4, 0)) (pcN := 62) jI_215_61 rfl rfl rfl ?_
  refine jT_xgetf (a := 0) (t := 1) (ci := 14) (fi := 10) (c := jzA_21) (v := (1, 1)) (pcN := 65) jI_215_62 rfl rfl rfl rfl rfl rfl rfl ?_
  refine jT_fA [0, 7, 1, 2, 3, 4, 5, 6, 8, 9, 10, 11, 12, 13, 14, 15, 24, 25, 26, 27, 28, 29] 30 (y := 216) (pcN := 68) (dC := 6) (bc1 := 9) (bc2 := 354) (c1 := 0) (c2 := 0) (as := [(4, 0), (4, 7), (1, 1)]) (asC := [(4, 0), (4, 1), (1, 1)]) (LN := [(0, (4, 0)), (1, (0, x1)), (2, (0, x2)), (3, (0, x3))]) (stN := []) (hsC := jpA_679) (ex := jpA_839) (v := (1, 0)) (st2 := [(1, 0)]) (hs2 := jpA_850) (jA_216_192 (d := 0)) (by rfl) (by rfl) (by decide +kernel) (by rfl) (by rfl) (by omega) (by omega) (by omega) (by omega) rfl (by decide +kernel) ?_
  refine jT_xlstore (v := (1, 0)) (LN := [(4, (1, 0)), (0, (4, 0)), (1, (0, x1)), (2, (0, x2)), (3, (0, x3))]) (pcN := 70) jI_215_68 rfl rfl rfl rfl ?_
  refine jT_xaload_n (v := (4, 0)) (pcN := 71) jI_215_70 rfl rfl rfl ?_
  refine jT_xgetf (a := 0) (t := 1) (ci := 14) (fi := 9) (c := jzA_21) (v := (4, 7)) (pcN := 74) jI_215_71 rfl rfl rfl rfl rfl rfl rfl ?_
  refine jT_xiconst (k := 0) (pcN := 75) jI_215_74 rfl ?_
  refine jT_adv 1 (pcN := 76) (LN := [(4, (1, 0)), (0, (4, 0)), (1, (0, x1)), (2, (0, x2)), (3, (0, x3))]) (stN := [(0, 0), (4, 7), (0, 0), (4, 7)]) (hsN := jpA_850) (c1 := 0) (s1 := 0) (c2 := 0) (s2 := 0) (by exact rfl) ?_ (by omega) (by omega)
  refine jT_lald (x := 0) (a := 7) (j := 0) (fs := []) (X := [0, 0, 0, 0, 0, 0]) jI_215_76 rfl rfl rfl rfl ?_
  refine jT_eq (LN := [(4, (1, 0)), (0, (4, 0)), (1, (0, x1)), (2, (0, x2)), (3, (0, x3))]) (stN := [(1, 0), (0, 0), (4, 7)]) (hsN := jpA_850) rfl rfl rfl ?_
  refine jT_xlload (v := (1, 0)) (pcN := 79) jI_215_77 rfl rfl rfl ?_
  refine jT_xaload_n (v := (4, 0)) (pcN := 80) jI_215_79 rfl rfl rfl ?_
  refine jT_xgetf (a := 0) (t := 1) (ci := 14) (fi := 10) (c := jzA_21) (v := (1, 1)) (pcN := 83) jI_215_80 rfl rfl rfl rfl rfl rfl rfl ?_
  refine jT_xlmul (x := 0) (y := 1) (z := 0) (pcN := 84) jI_215_83 rfl (by decide) rfl ?_
  refine jT_xlsub (x := 0) (y := 0) (z := 0) (pcN := 85) jI_215_84 rfl (by decide) rfl ?_
  refine jT_adv 1 (pcN := 86) (LN := [(4, (1, 0)), (0, (4, 0)), (1, (0, x1)), (2, (0, x2)), (3, (0, x3))]) (stN := []) (hsN := jpA_850) (c1 := 0) (s1 := 0) (c2 := 0) (s2 := 0) (by exact rfl) ?_ (by omega) (by omega)
  refine jT_xaload_n (v := (4, 0)) (pcN := 87) jI_215_86 rfl rfl rfl ?_
  refine jT_xaload_n (v := (4, 0)) (pcN := 88) jI_215_87 rfl rfl rfl ?_
  refine jT_fR [0, 1, 2, 3, 4, 5, 6, 7, 8, 9, 10, 11, 12, 13, 14, 15] 39 (y := 205) (pcN := 91) (dC := 1) (bc1 := 0) (bc2 := 0) (c1 := 0) (c2 := 0) (as := [(4, 0)]) (asC := [(4, 0)]) (LN := [(4, (1, 0)), (0, (4, 0)), (1, (0, x1)), (2, (0, x2)), (3, (0, x3))]) (stN := [(4, 0)]) (hsC := jpA_147) (v := (0, 1)) (st2 := [(0, 1), (4, 0)]) (jA_205_48 (d := 0)) (by rfl) (by rfl) (by decide +kernel) (by rfl) (by rfl) (by omega) (by omega) (by omega) (by omega) rfl ?_
  refine jT_xiconst (k := 3) (pcN := 92) jI_215_91 rfl ?_
  refine jT_fR [0] 39 (y := 191) (pcN := 95) (dC := 0) (bc1 := 0) (bc2 := 0) (c1 := 0) (c2 := 0) (as := [(4, 0), (0, 1), (0, 3)]) (asC := [(4, 0), (0, 1), (0, 3)]) (LN := [(4, (1, 0)), (0, (4, 0)), (1, (0, x1)), (2, (0, x2)), (3, (0, x3))]) (stN := []) (hsC := [jgh]) (v := (0, 0)) (st2 := [(0, 0)]) (jA_191_117 (d := 0)) (by rfl) (by rfl) (by decide +kernel) (by rfl) (by rfl) (by omega) (by omega) (by omega) (by omega) rfl ?_
  refine jT_xifT (pcN := 100) jI_215_95 rfl (by decide +kernel) rfl ?_
  refine jT_xaload_n (v := (4, 0)) (pcN := 101) jI_215_100 rfl rfl rfl ?_
  refine jT_fB [0, 1, 2, 3, 4, 5, 6, 7, 8, 9, 10, 11, 12, 13, 14, 15, 16, 17, 18, 19, 20, 21, 22, 23] 39 (y := 195) (pcN := 104) (dC := 0) (bc1 := 0) (bc2 := 0) (c1 := 0) (c2 := 0) (as := [(4, 0)]) (asC := [(4, 0)]) (LN := [(4, (1, 0)), (0, (4, 0)), (1, (0, x1)), (2, (0, x2)), (3, (0, x3))]) (stN := []) (hsC := jpA_198) (hsD := jpA_202) (v := (9, 0)) (st2 := []) (hs2 := jpA_866) (jA_195_50 (d := 0)) (by rfl) (by rfl) (by decide +kernel) (by rfl) (by rfl) (by omega) (by omega) (by omega) (by omega) rfl (by decide +kernel) ?_
  refine jT_xaload_n (v := (4, 0)) (pcN := 105) jI_215_104 rfl rfl rfl ?_
  refine jT_xiload_n (v := (0, x3)) (pcN := 106) jI_215_105 rfl rfl rfl ?_
  refine jT_fB [0, 1, 2, 3, 4, 5, 6, 7, 8, 9, 10, 11, 12, 13, 14, 15] 39 (y := 196) (pcN := 109) (dC := 1) (bc1 := 0) (bc2 := 0) (c1 := 0) (c2 := 0) (as := [(4, 0), (0, x3)]) (asC := [(4, 0), (0, x3)]) (LN := [(4, (1, 0)), (0, (4, 0)), (1, (0, x1)), (2, (0, x2)), (3, (0, x3))]) (stN := []) (hsC := jpA_216) (hsD := [jzA_200, (100, [], ((((((((((((((jS0).set ((7 * x3).toNat) 0)).set ((7 * x3 + 1).toNat) 0)).set ((7 * x3 + 2).toNat) 0)).set ((7 * x3 + 3).toNat) 0)).set ((7 * x3 + 4).toNat) 0)).set ((7 * x3 + 5).toNat) 0)).set ((7 * x3 + 6).toNat) 1)), jgh, jgh, jgh, jgh, jgh, (101, [], [0, 0, 0, 0, 0, 0]), jgh, jgh, jgh, jgh, jgh, jgh, jgh, jgh]) (v := (0, 1)) (st2 := [(0, 1)]) (hs2 := [jzA_200, (100, [], ((((((((((((((jS0).set ((7 * x3).toNat) 0)).set ((7 * x3 + 1).toNat) 0)).set ((7 * x3 + 2).toNat) 0)).set ((7 * x3 + 3).toNat) 0)).set ((7 * x3 + 4).toNat) 0)).set ((7 * x3 + 5).toNat) 0)).set ((7 * x3 + 6).toNat) 1)), (100, [], []), jzA_196, jzA_201, jgh, (130, [], [24, 25, 26, 27, 28, 29]), (101, [], [0, 0, 0, 0, 0, 0]), jgh, jgh, jgh, jgh, jgh, jgh, jgh, jgh, (100, [], jS0), jgh, jgh, jgh, jgh, jgh, jgh, jgh, (100, [], (jenc (jlg 0))), jgh, jgh, jgh, jgh, jgh, (101, [], [1, 0, 0, 0, 0, 0]), (101, [], [1, 0, 0, 0, 0, 0]), (100, [], (jenc 0)), (100, [], (jenc 1)), (100, [], (jenc (1 * (jlg 0)))), (101, [], [(-1), 0, 0, 0, 0, 0]), (100, [], (jenc 0)), (100, [], (jenc (-1))), (100, [], (jenc ((-1) * (jlg 0))))]) (jA_196_194 (d := 0) (by omega)) (by rfl) (by rfl) (by decide +kernel) (by rfl) (by rfl) (by omega) (by omega) (by omega) (by omega) rfl rfl ?_
  refine jT_adv 1 (pcN := 110) (LN := [(4, (1, 0)), (0, (4, 0)), (1, (0, x1)), (2, (0, x2)), (3, (0, x3))]) (stN := []) (hsN := [jzA_200, (100, [], ((((((((((((((jS0).set ((7 * x3).toNat) 0)).set ((7 * x3 + 1).toNat) 0)).set ((7 * x3 + 2).toNat) 0)).set ((7 * x3 + 3).toNat) 0)).set ((7 * x3 + 4).toNat) 0)).set ((7 * x3 + 5).toNat) 0)).set ((7 * x3 + 6).toNat) 1)), (100, [], []), jzA_196, jzA_201, jgh, (130, [], [24, 25, 26, 27, 28, 29]), (101, [], [0, 0, 0, 0, 0, 0]), jgh, jgh, jgh, jgh, jgh, jgh, jgh, jgh, (100, [], jS0), jgh, jgh, jgh, jgh, jgh, jgh, jgh, (100, [], (jenc (jlg 0))), jgh, jgh, jgh, jgh, jgh, (101, [], [1, 0, 0, 0, 0, 0]), (101, [], [1, 0, 0, 0, 0, 0]), (100, [], (jenc 0)), (100, [], (jenc 1)), (100, [], (jenc (1 * (jlg 0)))), (101, [], [(-1), 0, 0, 0, 0, 0]), (100, [], (jenc 0)), (100, [], (jenc (-1))), (100, [], (jenc ((-1) * (jlg 0))))]) (c1 := 0) (s1 := 0) (c2 := 0) (s2 := 0) (by exact rfl) ?_ (by omega) (by omega)
  refine jT_xlload (v := (1, 0)) (pcN := 112) jI_215_110 rfl rfl rfl ?_
  refine jT_xl2i (pcN := 113) jI_215_112 rfl rfl ?_
  exact jT_ret rfl (by decide) (by show 30 ≤ 39; decide) (by omega) (by omega) ⟨rfl, rfl, rfl⟩
theorem jA_116_196 {xs : List Int} {d : Nat} {x2 : Int} (h_x2 : 401 ≤ x2 ∧ x2 ≤ 2147483647) : jT xs d 116 1 0 [(0, (4, 0)), (1, (0, x2)), (2, (0, 1)), (3, (0, 400))] [] [jgh] 1 6 (fun k v hsN => k = 1 ∧ v = (0, 1) ∧ hsN = [jgh] ++ []) := by
  refine jT_xiload_n (v := (0, x2)) (pcN := 1) jI_116_0 rfl rfl rfl ?_
  refine jT_xiload_n (v := (0, 1)) (pcN := 2) jI_116_1 rfl rfl rfl ?_
  refine jT_icF (a := x2) (b := 1) (t := 10) (by rfl) (by rfl) (by rfl) (jw_idd (by omega) (by omega)) (jw_idd (by omega) (by omega)) (by simp only [jcP] <;> omega) ?_
  refine jT_xiload_n (v := (0, x2)) (pcN := 6) jI_116_5 rfl rfl rfl ?_
  refine jT_xiload_n (v := (0, 400)) (pcN := 7) jI_116_6 rfl rfl rfl ?_
  refine jT_icF (a := x2) (b := 400) (t := 21) (by rfl) (by rfl) (by rfl) (jw_idd (by omega) (by omega)) (jw_idd (by omega) (by omega)) (by simp only [jcP] <;> omega) ?_
  exact jT_ret (c1 := 1) (s1 := 6) rfl (by decide) (by show 1 ≤ 1; decide) (by omega) (by omega) ⟨rfl, rfl, rfl⟩
theorem jA_122_197 {xs : List Int} {d : Nat} {x1 x2 x3 : Int} (h_x1 : 0 ≤ x1 ∧ x1 ≤ 7) (h_x2 : 401 ≤ x2 ∧ x2 ≤ 2147483647) (h_x3 : 0 ≤ x3 ∧ x3 ≤ 7) : jT xs (d + 1) 122 12 0 [(0, (4, 0)), (1, (0, x1)), (2, (0, x2)), (3, (0, x3))] [] jpA_6 1 6 (fun k v hsN => k = 1 ∧ v = (0, 1) ∧ hsN = jpA_6 ++ []) := by
  refine jT_xaload_n (v := (4, 0)) (pcN := 1) jI_122_0 rfl rfl rfl ?_
  refine jT_xiload_n (v := (0, x1)) (pcN := 2) jI_122_1 rfl rfl rfl ?_
  refine jT_xbipush (k := 8) (pcN := 4) jI_122_2 (by decide) rfl ?_
  refine jT_fR [0] 12 (y := 115) (pcN := 7) (dC := 0) (bc1 := 0) (bc2 := 0) (c1 := 1) (c2 := 6) (as := [(4, 0), (0, x1), (0, 8)]) (asC := [(4, 0), (0, x1), (0, 8)]) (LN := [(0, (4, 0)), (1, (0, x1)), (2, (0, x2)), (3, (0, x3))]) (stN := []) (hsC := [jgh]) (v := (9, 0)) (st2 := []) (jA_115_9 (d := 0) (by omega)) (by rfl) (by rfl) (by decide +kernel) (by rfl) (by rfl) (by omega) (by omega) (by omega) (by omega) rfl ?_
  refine jT_xaload_n (v := (4, 0)) (pcN := 8) jI_122_7 rfl rfl rfl ?_
  refine jT_xiload_n (v := (0, x3)) (pcN := 9) jI_122_8 rfl rfl rfl ?_
  refine jT_xbipush (k := 8) (pcN := 11) jI_122_9 (by decide) rfl ?_
  refine jT_fR [0] 12 (y := 115) (pcN := 14) (dC := 0) (bc1 := 0) (bc2 := 0) (c1 := 1) (c2 := 6) (as := [(4, 0), (0, x3), (0, 8)]) (asC := [(4, 0), (0, x3), (0, 8)]) (LN := [(0, (4, 0)), (1, (0, x1)), (2, (0, x2)), (3, (0, x3))]) (stN := []) (hsC := [jgh]) (v := (9, 0)) (st2 := []) (jA_115_23 (d := 0) (by omega)) (by rfl) (by rfl) (by decide +kernel) (by rfl) (by rfl) (by omega) (by omega) (by omega) (by omega) rfl ?_
  refine jT_xaload_n (v := (4, 0)) (pcN := 15) jI_122_14 rfl rfl rfl ?_
  refine jT_xiload_n (v := (0, x2)) (pcN := 16) jI_122_15 rfl rfl rfl ?_
  refine jT_xiconst (k := 1) (pcN := 17) jI_122_16 rfl ?_
  refine jT_xsipush (k := 400) (pcN := 20) jI_122_17 (by decide) rfl ?_
  exact jT_fX [0] 12 (y := 116) (pcN := 23) (dC := 0) (bc1 := 1) (bc2 := 6) (as := [(4, 0), (0, x2), (0, 1), (0, 400)]) (asC := [(4, 0), (0, x2), (0, 1), (0, 400)]) (LN := [(0, (4, 0)), (1, (0, x1)), (2, (0, x2)), (3, (0, x3))]) (stN := []) (hsC := [jgh]) (e := 1) (jA_116_196 (d := 0) (by omega)) (by rfl) (by rfl) (by decide +kernel) (by rfl) (by rfl) (by omega) (by omega) (by omega) (by omega) ⟨rfl, ⟨rfl, rfl, rfl⟩⟩
theorem jA_331_198 {xs : List Int} {d : Nat} {x1 x2 x3 : Int} (h_x1 : 0 ≤ x1 ∧ x1 ≤ 7) (h_x2 : 401 ≤ x2 ∧ x2 ≤ 2147483647) (h_x3 : 0 ≤ x3 ∧ x3 ≤ 7) : jT xs (d + 2) 331 13 0 [(0, (4, 0)), (1, (0, x1)), (2, (0, x2)), (3, (0, x3)), (4, (4, 1))] [] jpA_15 1 6 (fun k v hsN => k = 0 ∧ v = (0, 2) ∧ hsN = jpA_15 ++ []) := by
  refine jT_xaload (v := (4, 1)) (pcN := 2) jI_331_0 rfl rfl rfl ?_
  refine jT_xiconst (k := 0) (pcN := 3) jI_331_2 rfl ?_
  refine jT_xaload_n (v := (4, 0)) (pcN := 4) jI_331_3 rfl rfl rfl ?_
  refine jT_xiload_n (v := (0, x1)) (pcN := 5) jI_331_4 rfl rfl rfl ?_
  refine jT_xiload_n (v := (0, x2)) (pcN := 6) jI_331_5 rfl rfl rfl ?_
  refine jT_xiload_n (v := (0, x3)) (pcN := 7) jI_331_6 rfl rfl rfl ?_
  exact jT_fX [0, 2, 3, 4, 5, 6, 7, 8, 9, 10, 11, 12] 13 (y := 122) (pcN := 10) (dC := 1) (bc1 := 1) (bc2 := 6) (as := [(4, 0), (0, x1), (0, x2), (0, x3)]) (asC := [(4, 0), (0, x1), (0, x2), (0, x3)]) (LN := [(0, (4, 0)), (1, (0, x1)), (2, (0, x2)), (3, (0, x3)), (4, (4, 1))]) (stN := [(0, 0), (4, 1)]) (hsC := jpA_6) (e := 1) (jA_122_197 (d := 0) (by omega) (by omega) (by omega)) (by rfl) (by rfl) (by decide +kernel) (by rfl) (by rfl) (by omega) (by omega) (by omega) (by omega) (show _ from ⟨rfl, rfl, rfl⟩)
theorem jA_215_199 {xs : List Int} {d : Nat} {x1 x2 x3 : Int} (h_x1 : 0 ≤ x1 ∧ x1 ≤ 7) (h_x2 : 401 ≤ x2 ∧ x2 ≤ 2147483647) (h_x3 : 0 ≤ x3 ∧ x3 ≤ 7) : jT xs (d + 2) 215 16 0 [(0, (4, 0)), (1, (0, x1)), (2, (0, x2)), (3, (0, x3))] [] jpA_22 0 0 (fun k v hsN => k = 0 ∧ v = (0, 0) ∧ hsN = jpA_361) := by
  refine jT_xaload_n (v := (4, 0)) (pcN := 1) jI_215_0 rfl rfl rfl ?_
  refine jT_xiload_n (v := (0, x1)) (pcN := 2) jI_215_1 rfl rfl rfl ?_
  refine jT_fR [] 16 (y := 188) (pcN := 5) (dC := 1) (bc1 := 0) (bc2 := 0) (c1 := 0) (c2 := 0) (as := [(0, x1)]) (asC := [(0, x1)]) (LN := [(0, (4, 0)), (1, (0, x1)), (2, (0, x2)), (3, (0, x3))]) (stN := [(4, 0)]) (hsC := []) (v := (0, 1)) (st2 := [(0, 1), (4, 0)]) (jA_188_13 (d := 0) (by omega)) (by rfl) (by rfl) (by decide +kernel) (by rfl) (by rfl) (by omega) (by omega) (by omega) (by omega) rfl ?_
  refine jT_xifF (t := 19) (pcN := 8) jI_215_5 rfl (by decide +kernel) rfl rfl ?_
  refine jT_xiload_n (v := (0, x3)) (pcN := 9) jI_215_8 rfl rfl rfl ?_
  refine jT_fR [] 16 (y := 188) (pcN := 12) (dC := 1) (bc1 := 0) (bc2 := 0) (c1 := 0) (c2 := 0) (as := [(0, x3)]) (asC := [(0, x3)]) (LN := [(0, (4, 0)), (1, (0, x1)), (2, (0, x2)), (3, (0, x3))]) (stN := [(4, 0)]) (hsC := []) (v := (0, 1)) (st2 := [(0, 1), (4, 0)]) (jA_188_37 (d := 0) (by omega)) (by rfl) (by rfl) (by decide +kernel) (by rfl) (by rfl) (by omega) (by omega) (by omega) (by omega) rfl ?_
  refine jT_xifF (t := 19) (pcN := 15) jI_215_12 rfl (by decide +kernel) rfl rfl ?_
  refine jT_xiconst (k := 1) (pcN := 16) jI_215_15 rfl ?_
  refine jT_xgoto (pcN := 20) jI_215_16 rfl ?_
  refine jT_fR [0, 1, 2, 3, 4, 5, 6, 7, 8, 9, 10, 11, 12, 13, 14, 15] 16 (y := 190) (pcN := 23) (dC := 1) (bc1 := 0) (bc2 := 0) (c1 := 0) (c2 := 0) (as := [(4, 0), (0, 1)]) (asC := [(4, 0), (0, 1)]) (LN := [(0, (4, 0)), (1, (0, x1)), (2, (0, x2)), (3, (0, x3))]) (stN := []) (hsC := jpA_22) (v := (0, 0)) (st2 := [(0, 0)]) (jA_190_39 (d := 0)) (by rfl) (by rfl) (by decide +kernel) (by rfl) (by rfl) (by omega) (by omega) (by omega) (by omega) rfl ?_
  refine jT_xifF (t := 43) (pcN := 26) jI_215_23 rfl (by decide +kernel) rfl rfl ?_
  refine jT_xaload_n (v := (4, 0)) (pcN := 27) jI_215_26 rfl rfl rfl ?_
  refine jT_xiload_n (v := (0, x2)) (pcN := 28) jI_215_27 rfl rfl rfl ?_
  refine jT_xi2l (x := x2) (z := x2) (pcN := 29) jI_215_28 rfl (jw_idd (by omega) (by omega)) rfl ?_
  refine jT_xlconst (z := 1) (pcN := 30) jI_215_29 rfl rfl ?_
  refine jT_adv 1 (pcN := 33) (LN := [(0, (4, 0)), (1, (0, x1)), (2, (0, x2)), (3, (0, x3))]) (stN := [(1, 400), (1, 1), (1, x2), (4, 0)]) (hsN := jpA_22) (c1 := 0) (s1 := 0) (c2 := 0) (s2 := 0) (by exact rfl) ?_ (by omega) (by omega)
  refine jT_fR [] 16 (y := 189) (pcN := 36) (dC := 0) (bc1 := 0) (bc2 := 0) (c1 := 0) (c2 := 0) (as := [(1, x2), (1, 1), (1, 400)]) (asC := [(1, x2), (1, 1), (1, 400)]) (LN := [(0, (4, 0)), (1, (0, x1)), (2, (0, x2)), (3, (0, x3))]) (stN := [(4, 0)]) (hsC := []) (v := (0, 0)) (st2 := [(0, 0), (4, 0)]) (jT_in_hi (d := 0) (v := x2) (lo := 1) (hi := 400) (by omega) (by omega) (by omega) (by omega) (by omega)) (by rfl) (by rfl) (by decide +kernel) (by rfl) (by rfl) (by omega) (by omega) (by omega) (by omega) rfl ?_
  refine jT_xiconst (k := 2) (pcN := 37) jI_215_36 rfl ?_
  refine jT_fB [0, 1, 2, 3, 4, 5, 6, 7, 8, 9, 10, 11, 12, 13, 14, 15] 16 (y := 191) (pcN := 40) (dC := 0) (bc1 := 0) (bc2 := 0) (c1 := 0) (c2 := 0) (as := [(4, 0), (0, 0), (0, 2)]) (asC := [(4, 0), (0, 0), (0, 2)]) (LN := [(0, (4, 0)), (1, (0, x1)), (2, (0, x2)), (3, (0, x3))]) (stN := []) (hsC := jpA_22) (hsD := jpA_361) (v := (0, 1)) (st2 := [(0, 1)]) (hs2 := jpA_361) (jA_191_99 (d := 0)) (by rfl) (by rfl) (by decide +kernel) (by rfl) (by rfl) (by omega) (by omega) (by omega) (by omega) rfl (by decide +kernel) ?_
  refine jT_xifF (t := 45) (pcN := 43) jI_215_40 rfl (by decide +kernel) rfl rfl ?_
  refine jT_xiconst (k := 0) (pcN := 44) jI_215_43 rfl ?_
  exact jT_ret rfl (by decide) (by show 16 ≤ 16; decide) (by omega) (by omega) ⟨rfl, rfl, rfl⟩
theorem jA_122_200 {xs : List Int} {d : Nat} {x1 x2 x3 : Int} (h_x1 : 0 ≤ x1 ∧ x1 ≤ 7) (h_x2 : (-2147483648) ≤ x2 ∧ x2 ≤ 2147483647) (h_x3 : 8 ≤ x3 ∧ x3 ≤ 2147483647) : jT xs (d + 1) 122 12 0 [(0, (4, 0)), (1, (0, x1)), (2, (0, x2)), (3, (0, x3))] [] jpA_6 1 6 (fun k v hsN => k = 1 ∧ v = (0, 0) ∧ hsN = jpA_6 ++ []) := by
  refine jT_xaload_n (v := (4, 0)) (pcN := 1) jI_122_0 rfl rfl rfl ?_
  refine jT_xiload_n (v := (0, x1)) (pcN := 2) jI_122_1 rfl rfl rfl ?_
  refine jT_xbipush (k := 8) (pcN := 4) jI_122_2 (by decide) rfl ?_
  refine jT_fR [0] 12 (y := 115) (pcN := 7) (dC := 0) (bc1 := 0) (bc2 := 0) (c1 := 1) (c2 := 6) (as := [(4, 0), (0, x1), (0, 8)]) (asC := [(4, 0), (0, x1), (0, 8)]) (LN := [(0, (4, 0)), (1, (0, x1)), (2, (0, x2)), (3, (0, x3))]) (stN := []) (hsC := [jgh]) (v := (9, 0)) (st2 := []) (jA_115_9 (d := 0) (by omega)) (by rfl) (by rfl) (by decide +kernel) (by rfl) (by rfl) (by omega) (by omega) (by omega) (by omega) rfl ?_
  refine jT_xaload_n (v := (4, 0)) (pcN := 8) jI_122_7 rfl rfl rfl ?_
  refine jT_xiload_n (v := (0, x3)) (pcN := 9) jI_122_8 rfl rfl rfl ?_
  refine jT_xbipush (k := 8) (pcN := 11) jI_122_9 (by decide) rfl ?_
  exact jT_fX [0] 12 (y := 115) (pcN := 14) (dC := 0) (bc1 := 1) (bc2 := 6) (as := [(4, 0), (0, x3), (0, 8)]) (asC := [(4, 0), (0, x3), (0, 8)]) (LN := [(0, (4, 0)), (1, (0, x1)), (2, (0, x2)), (3, (0, x3))]) (stN := []) (hsC := [jgh]) (e := 0) (jA_115_55 (d := 0) (by omega)) (by rfl) (by rfl) (by decide +kernel) (by rfl) (by rfl) (by omega) (by omega) (by omega) (by omega) ⟨rfl, ⟨rfl, rfl, rfl⟩⟩
theorem jA_331_201 {xs : List Int} {d : Nat} {x1 x2 x3 : Int} (h_x1 : 0 ≤ x1 ∧ x1 ≤ 7) (h_x2 : (-2147483648) ≤ x2 ∧ x2 ≤ 2147483647) (h_x3 : 8 ≤ x3 ∧ x3 ≤ 2147483647) : jT xs (d + 2) 331 13 0 [(0, (4, 0)), (1, (0, x1)), (2, (0, x2)), (3, (0, x3)), (4, (4, 1))] [] jpA_15 1 6 (fun k v hsN => k = 0 ∧ v = (0, 1) ∧ hsN = jpA_15 ++ []) := by
  refine jT_xaload (v := (4, 1)) (pcN := 2) jI_331_0 rfl rfl rfl ?_
  refine jT_xiconst (k := 0) (pcN := 3) jI_331_2 rfl ?_
  refine jT_xaload_n (v := (4, 0)) (pcN := 4) jI_331_3 rfl rfl rfl ?_
  refine jT_xiload_n (v := (0, x1)) (pcN := 5) jI_331_4 rfl rfl rfl ?_
  refine jT_xiload_n (v := (0, x2)) (pcN := 6) jI_331_5 rfl rfl rfl ?_
  refine jT_xiload_n (v := (0, x3)) (pcN := 7) jI_331_6 rfl rfl rfl ?_
  exact jT_fX [0, 2, 3, 4, 5, 6, 7, 8, 9, 10, 11, 12] 13 (y := 122) (pcN := 10) (dC := 1) (bc1 := 1) (bc2 := 6) (as := [(4, 0), (0, x1), (0, x2), (0, x3)]) (asC := [(4, 0), (0, x1), (0, x2), (0, x3)]) (LN := [(0, (4, 0)), (1, (0, x1)), (2, (0, x2)), (3, (0, x3)), (4, (4, 1))]) (stN := [(0, 0), (4, 1)]) (hsC := jpA_6) (e := 0) (jA_122_200 (d := 0) (by omega) (by omega) (by omega)) (by rfl) (by rfl) (by decide +kernel) (by rfl) (by rfl) (by omega) (by omega) (by omega) (by omega) (show _ from ⟨rfl, rfl, rfl⟩)
theorem jA_215_202 {xs : List Int} {d : Nat} {x1 x2 x3 : Int} (h_x1 : 0 ≤ x1 ∧ x1 ≤ 7) (h_x2 : (-2147483648) ≤ x2 ∧ x2 ≤ 2147483647) (h_x3 : 8 ≤ x3 ∧ x3 ≤ 2147483647) : jT xs (d + 2) 215 16 0 [(0, (4, 0)), (1, (0, x1)), (2, (0, x2)), (3, (0, x3))] [] jpA_22 0 0 (fun k v hsN => k = 0 ∧ v = (0, 0) ∧ hsN = jpA_20) := by
  refine jT_xaload_n (v := (4, 0)) (pcN := 1) jI_215_0 rfl rfl rfl ?_
  refine jT_xiload_n (v := (0, x1)) (pcN := 2) jI_215_1 rfl rfl rfl ?_
  refine jT_fR [] 16 (y := 188) (pcN := 5) (dC := 1) (bc1 := 0) (bc2 := 0) (c1 := 0) (c2 := 0) (as := [(0, x1)]) (asC := [(0, x1)]) (LN := [(0, (4, 0)), (1, (0, x1)), (2, (0, x2)), (3, (0, x3))]) (stN := [(4, 0)]) (hsC := []) (v := (0, 1)) (st2 := [(0, 1), (4, 0)]) (jA_188_13 (d := 0) (by omega)) (by rfl) (by rfl) (by decide +kernel) (by rfl) (by rfl) (by omega) (by omega) (by omega) (by omega) rfl ?_
  refine jT_xifF (t := 19) (pcN := 8) jI_215_5 rfl (by decide +kernel) rfl rfl ?_
  refine jT_xiload_n (v := (0, x3)) (pcN := 9) jI_215_8 rfl rfl rfl ?_
  refine jT_fR [] 16 (y := 188) (pcN := 12) (dC := 1) (bc1 := 0) (bc2 := 0) (c1 := 0) (c2 := 0) (as := [(0, x3)]) (asC := [(0, x3)]) (LN := [(0, (4, 0)), (1, (0, x1)), (2, (0, x2)), (3, (0, x3))]) (stN := [(4, 0)]) (hsC := []) (v := (0, 0)) (st2 := [(0, 0), (4, 0)]) (jA_188_58 (d := 0) (by omega)) (by rfl) (by rfl) (by decide +kernel) (by rfl) (by rfl) (by omega) (by omega) (by omega) (by omega) rfl ?_
  refine jT_xifT (pcN := 19) jI_215_12 rfl (by decide +kernel) rfl ?_
  refine jT_xiconst (k := 0) (pcN := 20) jI_215_19 rfl ?_
  refine jT_fB [0, 1, 2, 3, 4, 5, 6, 7, 8, 9, 10, 11, 12, 13, 14, 15] 16 (y := 190) (pcN := 23) (dC := 1) (bc1 := 0) (bc2 := 0) (c1 := 0) (c2 := 0) (as := [(4, 0), (0, 0)]) (asC := [(4, 0), (0, 0)]) (LN := [(0, (4, 0)), (1, (0, x1)), (2, (0, x2)), (3, (0, x3))]) (stN := []) (hsC := jpA_22) (hsD := jpA_20) (v := (0, 1)) (st2 := [(0, 1)]) (hs2 := jpA_20) (jA_190_6 (d := 0)) (by rfl) (by rfl) (by decide +kernel) (by rfl) (by rfl) (by omega) (by omega) (by omega) (by omega) rfl (by decide +kernel) ?_
  refine jT_xifT (pcN := 43) jI_215_23 rfl (by decide +kernel) rfl ?_
  refine jT_xiconst (k := 0) (pcN := 44) jI_215_43 rfl ?_
  exact jT_ret rfl (by decide) (by show 16 ≤ 16; decide) (by omega) (by omega) ⟨rfl, rfl, rfl⟩
theorem jA_122_203 {xs : List Int} {d : Nat} {x1 x2 x3 : Int} (h_x1 : 8 ≤ x1 ∧ x1 ≤ 2147483647) (h_x2 : (-2147483648) ≤ x2 ∧ x2 ≤ 2147483647) (h_x3 : (-2147483648) ≤ x3 ∧ x3 ≤ 2147483647) : jT xs (d + 1) 122 12 0 [(0, (4, 0)), (1, (0, x1)), (2, (0, x2)), (3, (0, x3))] [] jpA_6 1 6 (fun k v hsN => k = 1 ∧ v = (0, 0) ∧ hsN = jpA_6 ++ []) := by
  refine jT_xaload_n (v := (4, 0)) (pcN := 1) jI_122_0 rfl rfl rfl ?_
  refine jT_xiload_n (v := (0, x1)) (pcN := 2) jI_122_1 rfl rfl rfl ?_
  refine jT_xbipush (k := 8) (pcN := 4) jI_122_2 (by decide) rfl ?_
  exact jT_fX [0] 12 (y := 115) (pcN := 7) (dC := 0) (bc1 := 1) (bc2 := 6) (as := [(4, 0), (0, x1), (0, 8)]) (asC := [(4, 0), (0, x1), (0, 8)]) (LN := [(0, (4, 0)), (1, (0, x1)), (2, (0, x2)), (3, (0, x3))]) (stN := []) (hsC := [jgh]) (e := 0) (jA_115_65 (d := 0) (by omega)) (by rfl) (by rfl) (by decide +kernel) (by rfl) (by rfl) (by omega) (by omega) (by omega) (by omega) ⟨rfl, ⟨rfl, rfl, rfl⟩⟩
theorem jA_331_204 {xs : List Int} {d : Nat} {x1 x2 x3 : Int} (h_x1 : 8 ≤ x1 ∧ x1 ≤ 2147483647) (h_x2 : (-2147483648) ≤ x2 ∧ x2 ≤ 2147483647) (h_x3 : (-2147483648) ≤ x3 ∧ x3 ≤ 2147483647) : jT xs (d + 2) 331 13 0 [(0, (4, 0)), (1, (0, x1)), (2, (0, x2)), (3, (0, x3)), (4, (4, 1))] [] jpA_15 1 6 (fun k v hsN => k = 0 ∧ v = (0, 1) ∧ hsN = jpA_15 ++ []) := by
  refine jT_xaload (v := (4, 1)) (pcN := 2) jI_331_0 rfl rfl rfl ?_
  refine jT_xiconst (k := 0) (pcN := 3) jI_331_2 rfl ?_
  refine jT_xaload_n (v := (4, 0)) (pcN := 4) jI_331_3 rfl rfl rfl ?_
  refine jT_xiload_n (v := (0, x1)) (pcN := 5) jI_331_4 rfl rfl rfl ?_
  refine jT_xiload_n (v := (0, x2)) (pcN := 6) jI_331_5 rfl rfl rfl ?_
  refine jT_xiload_n (v := (0, x3)) (pcN := 7) jI_331_6 rfl rfl rfl ?_
  exact jT_fX [0, 2, 3, 4, 5, 6, 7, 8, 9, 10, 11, 12] 13 (y := 122) (pcN := 10) (dC := 1) (bc1 := 1) (bc2 := 6) (as := [(4, 0), (0, x1), (0, x2), (0, x3)]) (asC := [(4, 0), (0, x1), (0, x2), (0, x3)]) (LN := [(0, (4, 0)), (1, (0, x1)), (2, (0, x2)), (3, (0, x3)), (4, (4, 1))]) (stN := [(0, 0), (4, 1)]) (hsC := jpA_6) (e := 0) (jA_122_203 (d := 0) (by omega) (by omega) (by omega)) (by rfl) (by rfl) (by decide +kernel) (by rfl) (by rfl) (by omega) (by omega) (by omega) (by omega) (show _ from ⟨rfl, rfl, rfl⟩)
theorem jA_215_205 {xs : List Int} {d : Nat} {x1 x2 x3 : Int} (h_x1 : 8 ≤ x1 ∧ x1 ≤ 2147483647) (h_x2 : (-2147483648) ≤ x2 ∧ x2 ≤ 2147483647) (h_x3 : (-2147483648) ≤ x3 ∧ x3 ≤ 2147483647) : jT xs (d + 2) 215 16 0 [(0, (4, 0)), (1, (0, x1)), (2, (0, x2)), (3, (0, x3))] [] jpA_22 0 0 (fun k v hsN => k = 0 ∧ v = (0, 0) ∧ hsN = jpA_20) := by
  refine jT_xaload_n (v := (4, 0)) (pcN := 1) jI_215_0 rfl rfl rfl ?_
  refine jT_xiload_n (v := (0, x1)) (pcN := 2) jI_215_1 rfl rfl rfl ?_
  refine jT_fR [] 16 (y := 188) (pcN := 5) (dC := 1) (bc1 := 0) (bc2 := 0) (c1 := 0) (c2 := 0) (as := [(0, x1)]) (asC := [(0, x1)]) (LN := [(0, (4, 0)), (1, (0, x1)), (2, (0, x2)), (3, (0, x3))]) (stN := [(4, 0)]) (hsC := []) (v := (0, 0)) (st2 := [(0, 0), (4, 0)]) (jA_188_68 (d := 0) (by omega)) (by rfl) (by rfl) (by decide +kernel) (by rfl) (by rfl) (by omega) (by omega) (by omega) (by omega) rfl ?_
  refine jT_xifT (pcN := 19) jI_215_5 rfl (by decide +kernel) rfl ?_
  refine jT_xiconst (k := 0) (pcN := 20) jI_215_19 rfl ?_
  refine jT_fB [0, 1, 2, 3, 4, 5, 6, 7, 8, 9, 10, 11, 12, 13, 14, 15] 16 (y := 190) (pcN := 23) (dC := 1) (bc1 := 0) (bc2 := 0) (c1 := 0) (c2 := 0) (as := [(4, 0), (0, 0)]) (asC := [(4, 0), (0, 0)]) (LN := [(0, (4, 0)), (1, (0, x1)), (2, (0, x2)), (3, (0, x3))]) (stN := []) (hsC := jpA_22) (hsD := jpA_20) (v := (0, 1)) (st2 := [(0, 1)]) (hs2 := jpA_20) (jA_190_6 (d := 0)) (by rfl) (by rfl) (by decide +kernel) (by rfl) (by rfl) (by omega) (by omega) (by omega) (by omega) rfl (by decide +kernel) ?_
  refine jT_xifT (pcN := 43) jI_215_23 rfl (by decide +kernel) rfl ?_
  refine jT_xiconst (k := 0) (pcN := 44) jI_215_43 rfl ?_
  exact jT_ret rfl (by decide) (by show 16 ≤ 16; decide) (by omega) (by omega) ⟨rfl, rfl, rfl⟩
theorem jI_379_687 : jmI (jm 379) 687 = (.aload_n 1, 1) := by rfl
theorem jI_379_688 : jmI (jm 379) 688 = (.aload_n 0, 1) := by rfl
theorem jI_379_689 : jmI (jm 379) 689 = (.iload 5, 2) := by rfl
theorem jI_379_691 : jmI (jm 379) 691 = (.iconst 1, 1) := by rfl
theorem jI_379_692 : jmI (jm 379) 692 = (.iadd, 1) := by rfl
theorem jI_379_694 : jmI (jm 379) 694 = (.aload_n 0, 1) := by rfl
theorem jI_379_695 : jmI (jm 379) 695 = (.iload 5, 2) := by rfl
theorem jI_379_697 : jmI (jm 379) 697 = (.iconst 2, 1) := by rfl
theorem jI_379_698 : jmI (jm 379) 698 = (.iadd, 1) := by rfl
theorem jI_379_700 : jmI (jm 379) 700 = (.aload_n 0, 1) := by rfl
theorem jI_379_701 : jmI (jm 379) 701 = (.iload 5, 2) := by rfl
theorem jI_379_703 : jmI (jm 379) 703 = (.iconst 3, 1) := by rfl
theorem jI_379_704 : jmI (jm 379) 704 = (.iadd, 1) := by rfl
theorem jI_379_706 : jmI (jm 379) 706 = (.aload_n 3, 1) := by rfl
theorem jI_379_710 : jmI (jm 379) 710 = (.istore 6, 2) := by rfl
theorem jI_379_712 : jmI (jm 379) 712 = (.aload_n 2, 1) := by rfl
theorem jI_379_713 : jmI (jm 379) 713 = (.aload_n 0, 1) := by rfl
theorem jI_379_714 : jmI (jm 379) 714 = (.iload 5, 2) := by rfl
theorem jI_379_716 : jmI (jm 379) 716 = (.iconst 1, 1) := by rfl
theorem jI_379_717 : jmI (jm 379) 717 = (.iadd, 1) := by rfl
theorem jI_379_719 : jmI (jm 379) 719 = (.aload_n 0, 1) := by rfl
theorem jI_379_720 : jmI (jm 379) 720 = (.iload 5, 2) := by rfl
theorem jI_379_722 : jmI (jm 379) 722 = (.iconst 2, 1) := by rfl
theorem jI_379_723 : jmI (jm 379) 723 = (.iadd, 1) := by rfl
theorem jI_379_725 : jmI (jm 379) 725 = (.aload_n 0, 1) := by rfl
theorem jI_379_726 : jmI (jm 379) 726 = (.iload 5, 2) := by rfl
theorem jI_379_728 : jmI (jm 379) 728 = (.iconst 3, 1) := by rfl
theorem jI_379_729 : jmI (jm 379) 729 = (.iadd, 1) := by rfl
theorem jI_379_734 : jmI (jm 379) 734 = (.istore 7, 2) := by rfl
theorem jI_379_736 : jmI (jm 379) 736 = (.aload_n 2, 1) := by rfl
theorem jI_379_740 : jmI (jm 379) 740 = (.iload 6, 2) := by rfl
theorem jI_379_742 : jmI (jm 379) 742 = (.if_icmp .eq 5, 3) := by rfl
theorem jI_379_747 : jmI (jm 379) 747 = (.iload 6, 2) := by rfl
theorem jI_379_749 : jmI (jm 379) 749 = (.ifCond .ne 15, 3) := by rfl
theorem jI_379_764 : jmI (jm 379) 764 = (.goto 2976, 3) := by rfl
set_option maxRecDepth 100000 in
theorem jL_5_0 {d : Nat} {x0 x1 x2 x3 x4 : Int} (h_x0 : (-2147483648) ≤ x0 ∧ x0 ≤ 2147483647) (h_x1 : (-2147483648) ≤ x1 ∧ x1 ≤ (-1)) (h_x2 : (-2147483648) ≤ x2 ∧ x2 ≤ 2147483647) (h_x3 : (-2147483648) ≤ x3 ∧ x3 ≤ 2147483647) (h_x4 : (-2147483648) ≤ x4 ∧ x4 ≤ 2147483647) : jT [x0, x1, x2, x3, x4] (d + 3) 379 30 687 [(5, (0, 0)), (4, (4, 3)), (3, (4, 2)), (2, (4, 1)), (1, (4, 0)), (0, (6, 0))] [] jpA_267 1 6 (fun k v hsN => k = 0 ∧ v = (0, 1)) := by
  refine jT_xaload_n (v := (4, 0)) (pcN := 688) jI_379_687 rfl rfl rfl ?_
  refine jT_xaload_n (v := (6, 0)) (pcN := 689) jI_379_688 rfl rfl rfl ?_
  refine jT_xiload (v := (0, 0)) (pcN := 691) jI_379_689 rfl rfl rfl ?_
  refine jT_xiconst (k := 1) (pcN := 692) jI_379_691 rfl ?_
  refine jT_xiadd (x := 0) (y := 1) (z := 1) (pcN := 693) jI_379_692 rfl (by decide) rfl ?_
  refine jT_adv 1 (pcN := 694) (LN := [(5, (0, 0)), (4, (4, 3)), (3, (4, 2)), (2, (4, 1)), (1, (4, 0)), (0, (6, 0))]) (stN := [(0, x1), (4, 0)]) (hsN := jpA_267) (c1 := 0) (s1 := 0) (c2 := 1) (s2 := 6) (by exact rfl) ?_ (by omega) (by omega)
  refine jT_xaload_n (v := (6, 0)) (pcN := 695) jI_379_694 rfl rfl rfl ?_
  refine jT_xiload (v := (0, 0)) (pcN := 697) jI_379_695 rfl rfl rfl ?_
  refine jT_xiconst (k := 2) (pcN := 698) jI_379_697 rfl ?_
  refine jT_xiadd (x := 0) (y := 2) (z := 2) (pcN := 699) jI_379_698 rfl (by decide) rfl ?_
  refine jT_adv 1 (pcN := 700) (LN := [(5, (0, 0)), (4, (4, 3)), (3, (4, 2)), (2, (4, 1)), (1, (4, 0)), (0, (6, 0))]) (stN := [(0, x2), (0, x1), (4, 0)]) (hsN := jpA_267) (c1 := 0) (s1 := 0) (c2 := 1) (s2 := 6) (by exact rfl) ?_ (by omega) (by omega)
  refine jT_xaload_n (v := (6, 0)) (pcN := 701) jI_379_700 rfl rfl rfl ?_
  refine jT_xiload (v := (0, 0)) (pcN := 703) jI_379_701 rfl rfl rfl ?_
  refine jT_xiconst (k := 3) (pcN := 704) jI_379_703 rfl ?_
  refine jT_xiadd (x := 0) (y := 3) (z := 3) (pcN := 705) jI_379_704 rfl (by decide) rfl ?_
  refine jT_adv 1 (pcN := 706) (LN := [(5, (0, 0)), (4, (4, 3)), (3, (4, 2)), (2, (4, 1)), (1, (4, 0)), (0, (6, 0))]) (stN := [(0, x3), (0, x2), (0, x1), (4, 0)]) (hsN := jpA_267) (c1 := 0) (s1 := 0) (c2 := 1) (s2 := 6) (by exact rfl) ?_ (by omega) (by omega)
  refine jT_xaload_n (v := (4, 2)) (pcN := 707) jI_379_706 rfl rfl rfl ?_
  refine jT_fR [0, 2, 4, 5, 6, 7, 8, 9, 10, 11, 12, 13, 14] 30 (y := 331) (pcN := 710) (dC := 2) (bc1 := 1) (bc2 := 6) (c1 := 0) (c2 := 0) (as := [(4, 0), (0, x1), (0, x2), (0, x3), (4, 2)]) (asC := [(4, 0), (0, x1), (0, x2), (0, x3), (4, 1)]) (LN := [(5, (0, 0)), (4, (4, 3)), (3, (4, 2)), (2, (4, 1)), (1, (4, 0)), (0, (6, 0))]) (stN := []) (hsC := jpA_15) (v := (0, 1)) (st2 := [(0, 1)]) (jA_331_165 (d := 0) (by omega) (by omega) (by omega)) (by rfl) (by rfl) (by decide +kernel) (by rfl) (by rfl) (by omega) (by omega) (by omega) (by omega) rfl ?_
  refine jT_xistore (v := (0, 1)) (LN := [(6, (0, 1)), (5, (0, 0)), (4, (4, 3)), (3, (4, 2)), (2, (4, 1)), (1, (4, 0)), (0, (6, 0))]) (pcN := 712) jI_379_710 rfl rfl rfl rfl ?_
  refine jT_xaload_n (v := (4, 1)) (pcN := 713) jI_379_712 rfl rfl rfl ?_
  refine jT_xaload_n (v := (6, 0)) (pcN := 714) jI_379_713 rfl rfl rfl ?_
  refine jT_xiload (v := (0, 0)) (pcN := 716) jI_379_714 rfl rfl rfl ?_
  refine jT_xiconst (k := 1) (pcN := 717) jI_379_716 rfl ?_
  refine jT_xiadd (x := 0) (y := 1) (z := 1) (pcN := 718) jI_379_717 rfl (by decide) rfl ?_
  refine jT_adv 1 (pcN := 719) (LN := [(6, (0, 1)), (5, (0, 0)), (4, (4, 3)), (3, (4, 2)), (2, (4, 1)), (1, (4, 0)), (0, (6, 0))]) (stN := [(0, x1), (4, 1)]) (hsN := jpA_267) (c1 := 0) (s1 := 0) (c2 := 0) (s2 := 0) (by exact rfl) ?_ (by omega) (by omega)
  refine jT_xaload_n (v := (6, 0)) (pcN := 720) jI_379_719 rfl rfl rfl ?_
  refine jT_xiload (v := (0, 0)) (pcN := 722) jI_379_720 rfl rfl rfl ?_
  refine jT_xiconst (k := 2) (pcN := 723) jI_379_722 rfl ?_
  refine jT_xiadd (x := 0) (y := 2) (z := 2) (pcN := 724) jI_379_723 rfl (by decide) rfl ?_
  refine jT_adv 1 (pcN := 725) (LN := [(6, (0, 1)), (5, (0, 0)), (4, (4, 3)), (3, (4, 2)), (2, (4, 1)), (1, (4, 0)), (0, (6, 0))]) (stN := [(0, x2), (0, x1), (4, 1)]) (hsN := jpA_267) (c1 := 0) (s1 := 0) (c2 := 0) (s2 := 0) (by exact rfl) ?_ (by omega) (by omega)
  refine jT_xaload_n (v := (6, 0)) (pcN := 726) jI_379_725 rfl rfl rfl ?_
  refine jT_xiload (v := (0, 0)) (pcN := 728) jI_379_726 rfl rfl rfl ?_
  refine jT_xiconst (k := 3) (pcN := 729) jI_379_728 rfl ?_
  refine jT_xiadd (x := 0) (y := 3) (z := 3) (pcN := 730) jI_379_729 rfl (by decide) rfl ?_
  refine jT_adv 1 (pcN := 731) (LN := [(6, (0, 1)), (5, (0, 0)), (4, (4, 3)), (3, (4, 2)), (2, (4, 1)), (1, (4, 0)), (0, (6, 0))]) (stN := [(0, x3), (0, x2), (0, x1), (4, 1)]) (hsN := jpA_267) (c1 := 0) (s1 := 0) (c2 := 0) (s2 := 0) (by exact rfl) ?_ (by omega) (by omega)
  refine jT_fB [1, 15, 16, 17, 18, 19, 20, 21, 22, 23, 24, 25, 26, 27, 28, 29] 30 (y := 215) (pcN := 734) (dC := 2) (bc1 := 0) (bc2 := 0) (c1 := 0) (c2 := 0) (as := [(4, 1), (0, x1), (0, x2), (0, x3)]) (asC := [(4, 0), (0, x1), (0, x2), (0, x3)]) (LN := [(6, (0, 1)), (5, (0, 0)), (4, (4, 3)), (3, (4, 2)), (2, (4, 1)), (1, (4, 0)), (0, (6, 0))]) (stN := []) (hsC := jpA_22) (hsD := jpA_20) (v := (0, 0)) (st2 := [(0, 0)]) (hs2 := jpA_306) (jA_215_166 (d := 0) (by omega) (by omega) (by omega)) (by rfl) (by rfl) (by decide +kernel) (by rfl) (by rfl) (by omega) (by omega) (by omega) (by omega) rfl (by decide +kernel) ?_
  refine jT_xistore (v := (0, 0)) (LN := [(7, (0, 0)), (6, (0, 1)), (5, (0, 0)), (4, (4, 3)), (3, (4, 2)), (2, (4, 1)), (1, (4, 0)), (0, (6, 0))]) (pcN := 736) jI_379_734 rfl rfl rfl rfl ?_
  refine jT_xaload_n (v := (4, 1)) (pcN := 737) jI_379_736 rfl rfl rfl ?_
  refine jT_fR [1, 15, 16, 17, 18, 19, 20, 21, 22, 23, 24, 25, 26, 27, 28, 29] 30 (y := 186) (pcN := 740) (dC := 0) (bc1 := 0) (bc2 := 0) (c1 := 0) (c2 := 0) (as := [(4, 1)]) (asC := [(4, 0)]) (LN := [(7, (0, 0)), (6, (0, 1)), (5, (0, 0)), (4, (4, 3)), (3, (4, 2)), (2, (4, 1)), (1, (4, 0)), (0, (6, 0))]) (stN := []) (hsC := jpA_20) (v := (0, 1)) (st2 := [(0, 1)]) (jA_186_8 (d := 0)) (by rfl) (by rfl) (by decide +kernel) (by rfl) (by rfl) (by omega) (by omega) (by omega) (by omega) rfl ?_
  refine jT_xiload (v := (0, 1)) (pcN := 742) jI_379_740 rfl rfl rfl ?_
  refine jT_xicT (pcN := 747) jI_379_742 rfl (by decide +kernel) rfl ?_
  refine jT_xiload (v := (0, 1)) (pcN := 749) jI_379_747 rfl rfl rfl ?_
  refine jT_xifT (pcN := 764) jI_379_749 rfl (by decide +kernel) rfl ?_
  refine jT_xgoto (pcN := 3740) jI_379_764 rfl ?_
  refine jT_xiinc (x := 0) (z := 5) (LN := [(5, (0, 5)), (7, (0, 0)), (6, (0, 1)), (4, (4, 3)), (3, (4, 2)), (2, (4, 1)), (1, (4, 0)), (0, (6, 0))]) (pcN := 3743) jI_379_3740 rfl rfl (by decide) rfl rfl ?_
  refine jT_xgoto (pcN := 28) jI_379_3743 rfl ?_
  refine jT_xiload (v := (0, 5)) (pcN := 30) jI_379_28 rfl rfl rfl ?_
  refine jT_xaload_n (v := (6, 0)) (pcN := 31) jI_379_30 rfl rfl rfl ?_
  refine jT_adv 1 (pcN := 32) (LN := [(5, (0, 5)), (7, (0, 0)), (6, (0, 1)), (4, (4, 3)), (3, (4, 2)), (2, (4, 1)), (1, (4, 0)), (0, (6, 0))]) (stN := [(0, 5), (0, 5)]) (hsN := jpA_306) (c1 := 0) (s1 := 0) (c2 := 0) (s2 := 0) (by exact rfl) ?_ (by omega) (by omega)
  refine jT_xiconst (k := 5) (pcN := 33) jI_379_32 rfl ?_
  refine jT_xisub (x := 5) (y := 5) (z := 0) (pcN := 34) jI_379_33 rfl (by decide) rfl ?_
  refine jT_xicT (pcN := 3746) jI_379_34 rfl (by decide +kernel) rfl ?_
  refine jT_xiconst (k := 1) (pcN := 3747) jI_379_3746 rfl ?_
  exact jT_ret rfl (by decide) (by show 30 ≤ 30; decide) (by omega) (by omega) ⟨rfl, rfl⟩
set_option maxRecDepth 100000 in
theorem jL_5_1 {d : Nat} {x0 x1 x2 x3 x4 : Int} (h_x0 : (-2147483648) ≤ x0 ∧ x0 ≤ 2147483647) (h_x1 : 0 ≤ x1 ∧ x1 ≤ 7) (h_x2 : (-2147483648) ≤ x2 ∧ x2 ≤ 2147483647) (h_x3 : (-2147483648) ≤ x3 ∧ x3 ≤ (-1)) (h_x4 : (-2147483648) ≤ x4 ∧ x4 ≤ 2147483647) : jT [x0, x1, x2, x3, x4] (d + 3) 379 30 687 [(5, (0, 0)), (4, (4, 3)), (3, (4, 2)), (2, (4, 1)), (1, (4, 0)), (0, (6, 0))] [] jpA_267 1 6 (fun k v hsN => k = 0 ∧ v = (0, 1)) := by
  refine jT_xaload_n (v := (4, 0)) (pcN := 688) jI_379_687 rfl rfl rfl ?_
  refine jT_xaload_n (v := (6, 0)) (pcN := 689) jI_379_688 rfl rfl rfl ?_
  refine jT_xiload (v := (0, 0)) (pcN := 691) jI_379_689 rfl rfl rfl ?_
  refine jT_xiconst (k := 1) (pcN := 692) jI_379_691 rfl ?_
  refine jT_xiadd (x := 0) (y := 1) (z := 1) (pcN := 693) jI_379_692 rfl (by decide) rfl ?_
  refine jT_adv 1 (pcN := 694) (LN := [(5, (0, 0)), (4, (4, 3)), (3, (4, 2)), (2, (4, 1)), (1, (4, 0)), (0, (6, 0))]) (stN := [(0, x1), (4, 0)]) (hsN := jpA_267) (c1 := 0) (s1 := 0) (c2 := 1) (s2 := 6) (by exact rfl) ?_ (by omega) (by omega)
  refine jT_xaload_n (v := (6, 0)) (pcN := 695) jI_379_694 rfl rfl rfl ?_
  refine jT_xiload (v := (0, 0)) (pcN := 697) jI_379_695 rfl rfl rfl ?_
  refine jT_xiconst (k := 2) (pcN := 698) jI_379_697 rfl ?_
  refine jT_xiadd (x := 0) (y := 2) (z := 2) (pcN := 699) jI_379_698 rfl (by decide) rfl ?_
  refine jT_adv 1 (pcN := 700) (LN := [(5, (0, 0)), (4, (4, 3)), (3, (4, 2)), (2, (4, 1)), (1, (4, 0)), (0, (6, 0))]) (stN := [(0, x2), (0, x1), (4, 0)]) (hsN := jpA_267) (c1 := 0) (s1 := 0) (c2 := 1) (s2 := 6) (by exact rfl) ?_ (by omega) (by omega)
  refine jT_xaload_n (v := (6, 0)) (pcN := 701) jI_379_700 rfl rfl rfl ?_
  refine jT_xiload (v := (0, 0)) (pcN := 703) jI_379_701 rfl rfl rfl ?_
  refine jT_xiconst (k := 3) (pcN := 704) jI_379_703 rfl ?_
  refine jT_xiadd (x := 0) (y := 3) (z := 3) (pcN := 705) jI_379_704 rfl (by decide) rfl ?_
  refine jT_adv 1 (pcN := 706) (LN := [(5, (0, 0)), (4, (4, 3)), (3, (4, 2)), (2, (4, 1)), (1, (4, 0)), (0, (6, 0))]) (stN := [(0, x3), (0, x2), (0, x1), (4, 0)]) (hsN := jpA_267) (c1 := 0) (s1 := 0) (c2 := 1) (s2 := 6) (by exact rfl) ?_ (by omega) (by omega)
  refine jT_xaload_n (v := (4, 2)) (pcN := 707) jI_379_706 rfl rfl rfl ?_
  refine jT_fR [0, 2, 4, 5, 6, 7, 8, 9, 10, 11, 12, 13, 14] 30 (y := 331) (pcN := 710) (dC := 2) (bc1 := 1) (bc2 := 6) (c1 := 0) (c2 := 0) (as := [(4, 0), (0, x1), (0, x2), (0, x3), (4, 2)]) (asC := [(4, 0), (0, x1), (0, x2), (0, x3), (4, 1)]) (LN := [(5, (0, 0)), (4, (4, 3)), (3, (4, 2)), (2, (4, 1)), (1, (4, 0)), (0, (6, 0))]) (stN := []) (hsC := jpA_15) (v := (0, 1)) (st2 := [(0, 1)]) (jA_331_168 (d := 0) (by omega) (by omega) (by omega)) (by rfl) (by rfl) (by decide +kernel) (by rfl) (by rfl) (by omega) (by omega) (by omega) (by omega) rfl ?_
  refine jT_xistore (v := (0, 1)) (LN := [(6, (0, 1)), (5, (0, 0)), (4, (4, 3)), (3, (4, 2)), (2, (4, 1)), (1, (4, 0)), (0, (6, 0))]) (pcN := 712) jI_379_710 rfl rfl rfl rfl ?_
  refine jT_xaload_n (v := (4, 1)) (pcN := 713) jI_379_712 rfl rfl rfl ?_
  refine jT_xaload_n (v := (6, 0)) (pcN := 714) jI_379_713 rfl rfl rfl ?_
  refine jT_xiload (v := (0, 0)) (pcN := 716) jI_379_714 rfl rfl rfl ?_
  refine jT_xiconst (k := 1) (pcN := 717) jI_379_716 rfl ?_
  refine jT_xiadd (x := 0) (y := 1) (z := 1) (pcN := 718) jI_379_717 rfl (by decide) rfl ?_
  refine jT_adv 1 (pcN := 719) (LN := [(6, (0, 1)), (5, (0, 0)), (4, (4, 3)), (3, (4, 2)), (2, (4, 1)), (1, (4, 0)), (0, (6, 0))]) (stN := [(0, x1), (4, 1)]) (hsN := jpA_267) (c1 := 0) (s1 := 0) (c2 := 0) (s2 := 0) (by exact rfl) ?_ (by omega) (by omega)
  refine jT_xaload_n (v := (6, 0)) (pcN := 720) jI_379_719 rfl rfl rfl ?_
  refine jT_xiload (v := (0, 0)) (pcN := 722) jI_379_720 rfl rfl rfl ?_
  refine jT_xiconst (k := 2) (pcN := 723) jI_379_722 rfl ?_
  refine jT_xiadd (x := 0) (y := 2) (z := 2) (pcN := 724) jI_379_723 rfl (by decide) rfl ?_
  refine jT_adv 1 (pcN := 725) (LN := [(6, (0, 1)), (5, (0, 0)), (4, (4, 3)), (3, (4, 2)), (2, (4, 1)), (1, (4, 0)), (0, (6, 0))]) (stN := [(0, x2), (0, x1), (4, 1)]) (hsN := jpA_267) (c1 := 0) (s1 := 0) (c2 := 0) (s2 := 0) (by exact rfl) ?_ (by omega) (by omega)
  refine jT_xaload_n (v := (6, 0)) (pcN := 726) jI_379_725 rfl rfl rfl ?_
  refine jT_xiload (v := (0, 0)) (pcN := 728) jI_379_726 rfl rfl rfl ?_
  refine jT_xiconst (k := 3) (pcN := 729) jI_379_728 rfl ?_
  refine jT_xiadd (x := 0) (y := 3) (z := 3) (pcN := 730) jI_379_729 rfl (by decide) rfl ?_
  refine jT_adv 1 (pcN := 731) (LN := [(6, (0, 1)), (5, (0, 0)), (4, (4, 3)), (3, (4, 2)), (2, (4, 1)), (1, (4, 0)), (0, (6, 0))]) (stN := [(0, x3), (0, x2), (0, x1), (4, 1)]) (hsN := jpA_267) (c1 := 0) (s1 := 0) (c2 := 0) (s2 := 0) (by exact rfl) ?_ (by omega) (by omega)
  refine jT_fB [1, 15, 16, 17, 18, 19, 20, 21, 22, 23, 24, 25, 26, 27, 28, 29] 30 (y := 215) (pcN := 734) (dC := 2) (bc1 := 0) (bc2 := 0) (c1 := 0) (c2 := 0) (as := [(4, 1), (0, x1), (0, x2), (0, x3)]) (asC := [(4, 0), (0, x1), (0, x2), (0, x3)]) (LN := [(6, (0, 1)), (5, (0, 0)), (4, (4, 3)), (3, (4, 2)), (2, (4, 1)), (1, (4, 0)), (0, (6, 0))]) (stN := []) (hsC := jpA_22) (hsD := jpA_20) (v := (0, 0)) (st2 := [(0, 0)]) (hs2 := jpA_306) (jA_215_169 (d := 0) (by omega) (by omega) (by omega)) (by rfl) (by rfl) (by decide +kernel) (by rfl) (by rfl) (by omega) (by omega) (by omega) (by omega) rfl (by decide +kernel) ?_
  refine jT_xistore (v := (0, 0)) (LN := [(7, (0, 0)), (6, (0, 1)), (5, (0, 0)), (4, (4, 3)), (3, (4, 2)), (2, (4, 1)), (1, (4, 0)), (0, (6, 0))]) (pcN := 736) jI_379_734 rfl rfl rfl rfl ?_
  refine jT_xaload_n (v := (4, 1)) (pcN := 737) jI_379_736 rfl rfl rfl ?_
  refine jT_fR [1, 15, 16, 17, 18, 19, 20, 21, 22, 23, 24, 25, 26, 27, 28, 29] 30 (y := 186) (pcN := 740) (dC := 0) (bc1 := 0) (bc2 := 0) (c1 := 0) (c2 := 0) (as := [(4, 1)]) (asC := [(4, 0)]) (LN := [(7, (0, 0)), (6, (0, 1)), (5, (0, 0)), (4, (4, 3)), (3, (4, 2)), (2, (4, 1)), (1, (4, 0)), (0, (6, 0))]) (stN := []) (hsC := jpA_20) (v := (0, 1)) (st2 := [(0, 1)]) (jA_186_8 (d := 0)) (by rfl) (by rfl) (by decide +kernel) (by rfl) (by rfl) (by omega) (by omega) (by omega) (by omega) rfl ?_
  refine jT_xiload (v := (0, 1)) (pcN := 742) jI_379_740 rfl rfl rfl ?_
  refine jT_xicT (pcN := 747) jI_379_742 rfl (by decide +kernel) rfl ?_
  refine jT_xiload (v := (0, 1)) (pcN := 749) jI_379_747 rfl rfl rfl ?_
  refine jT_xifT (pcN := 764) jI_379_749 rfl (by decide +kernel) rfl ?_
  refine jT_xgoto (pcN := 3740) jI_379_764 rfl ?_
  refine jT_xiinc (x := 0) (z := 5) (LN := [(5, (0, 5)), (7, (0, 0)), (6, (0, 1)), (4, (4, 3)), (3, (4, 2)), (2, (4, 1)), (1, (4, 0)), (0, (6, 0))]) (pcN := 3743) jI_379_3740 rfl rfl (by decide) rfl rfl ?_
  refine jT_xgoto (pcN := 28) jI_379_3743 rfl ?_
  refine jT_xiload (v := (0, 5)) (pcN := 30) jI_379_28 rfl rfl rfl ?_
  refine jT_xaload_n (v := (6, 0)) (pcN := 31) jI_379_30 rfl rfl rfl ?_
  refine jT_adv 1 (pcN := 32) (LN := [(5, (0, 5)), (7, (0, 0)), (6, (0, 1)), (4, (4, 3)), (3, (4, 2)), (2, (4, 1)), (1, (4, 0)), (0, (6, 0))]) (stN := [(0, 5), (0, 5)]) (hsN := jpA_306) (c1 := 0) (s1 := 0) (c2 := 0) (s2 := 0) (by exact rfl) ?_ (by omega) (by omega)
  refine jT_xiconst (k := 5) (pcN := 33) jI_379_32 rfl ?_
  refine jT_xisub (x := 5) (y := 5) (z := 0) (pcN := 34) jI_379_33 rfl (by decide) rfl ?_
  refine jT_xicT (pcN := 3746) jI_379_34 rfl (by decide +kernel) rfl ?_
  refine jT_xiconst (k := 1) (pcN := 3747) jI_379_3746 rfl ?_
  exact jT_ret rfl (by decide) (by show 30 ≤ 30; decide) (by omega) (by omega) ⟨rfl, rfl⟩
set_option maxRecDepth 100000 in
theorem jL_5_2 {d : Nat} {x0 x1 x2 x3 x4 : Int} (h_x0 : (-2147483648) ≤ x0 ∧ x0 ≤ 2147483647) (h_x1 : 0 ≤ x1 ∧ x1 ≤ 7) (h_x2 : (-2147483648) ≤ x2 ∧ x2 ≤ 0) (h_x3 : 0 ≤ x3 ∧ x3 ≤ 7) (h_x4 : (-2147483648) ≤ x4 ∧ x4 ≤ 2147483647) : jT [x0, x1, x2, x3, x4] (d + 3) 379 30 687 [(5, (0, 0)), (4, (4, 3)), (3, (4, 2)), (2, (4, 1)), (1, (4, 0)), (0, (6, 0))] [] jpA_267 1 6 (fun k v hsN => k = 0 ∧ v = (0, 1)) := by
  refine jT_xaload_n (v := (4, 0)) (pcN := 688) jI_379_687 rfl rfl rfl ?_
  refine jT_xaload_n (v := (6, 0)) (pcN := 689) jI_379_688 rfl rfl rfl ?_
  refine jT_xiload (v := (0, 0)) (pcN := 691) jI_379_689 rfl rfl rfl ?_
  refine jT_xiconst (k := 1) (pcN := 692) jI_379_691 rfl ?_
  refine jT_xiadd (x := 0) (y := 1) (z := 1) (pcN := 693) jI_379_692 rfl (by decide) rfl ?_
  refine jT_adv 1 (pcN := 694) (LN := [(5, (0, 0)), (4, (4, 3)), (3, (4, 2)), (2, (4, 1)), (1, (4, 0)), (0, (6, 0))]) (stN := [(0, x1), (4, 0)]) (hsN := jpA_267) (c1 := 0) (s1 := 0) (c2 := 1) (s2 := 6) (by exact rfl) ?_ (by omega) (by omega)
  refine jT_xaload_n (v := (6, 0)) (pcN := 695) jI_379_694 rfl rfl rfl ?_
  refine jT_xiload (v := (0, 0)) (pcN := 697) jI_379_695 rfl rfl rfl ?_
  refine jT_xiconst (k := 2) (pcN := 698) jI_379_697 rfl ?_
  refine jT_xiadd (x := 0) (y := 2) (z := 2) (pcN := 699) jI_379_698 rfl (by decide) rfl ?_
  refine jT_adv 1 (pcN := 700) (LN := [(5, (0, 0)), (4, (4, 3)), (3, (4, 2)), (2, (4, 1)), (1, (4, 0)), (0, (6, 0))]) (stN := [(0, x2), (0, x1), (4, 0)]) (hsN := jpA_267) (c1 := 0) (s1 := 0) (c2 := 1) (s2 := 6) (by exact rfl) ?_ (by omega) (by omega)
  refine jT_xaload_n (v := (6, 0)) (pcN := 701) jI_379_700 rfl rfl rfl ?_
  refine jT_xiload (v := (0, 0)) (pcN := 703) jI_379_701 rfl rfl rfl ?_
  refine jT_xiconst (k := 3) (pcN := 704) jI_379_703 rfl ?_
  refine jT_xiadd (x := 0) (y := 3) (z := 3) (pcN := 705) jI_379_704 rfl (by decide) rfl ?_
  refine jT_adv 1 (pcN := 706) (LN := [(5, (0, 0)), (4, (4, 3)), (3, (4, 2)), (2, (4, 1)), (1, (4, 0)), (0, (6, 0))]) (stN := [(0, x3), (0, x2), (0, x1), (4, 0)]) (hsN := jpA_267) (c1 := 0) (s1 := 0) (c2 := 1) (s2 := 6) (by exact rfl) ?_ (by omega) (by omega)
  refine jT_xaload_n (v := (4, 2)) (pcN := 707) jI_379_706 rfl rfl rfl ?_
  refine jT_fR [0, 2, 4, 5, 6, 7, 8, 9, 10, 11, 12, 13, 14] 30 (y := 331) (pcN := 710) (dC := 2) (bc1 := 1) (bc2 := 6) (c1 := 0) (c2 := 0) (as := [(4, 0), (0, x1), (0, x2), (0, x3), (4, 2)]) (asC := [(4, 0), (0, x1), (0, x2), (0, x3), (4, 1)]) (LN := [(5, (0, 0)), (4, (4, 3)), (3, (4, 2)), (2, (4, 1)), (1, (4, 0)), (0, (6, 0))]) (stN := []) (hsC := jpA_15) (v := (0, 2)) (st2 := [(0, 2)]) (jA_331_172 (d := 0) (by omega) (by omega) (by omega)) (by rfl) (by rfl) (by decide +kernel) (by rfl) (by rfl) (by omega) (by omega) (by omega) (by omega) rfl ?_
  refine jT_xistore (v := (0, 2)) (LN := [(6, (0, 2)), (5, (0, 0)), (4, (4, 3)), (3, (4, 2)), (2, (4, 1)), (1, (4, 0)), (0, (6, 0))]) (pcN := 712) jI_379_710 rfl rfl rfl rfl ?_
  refine jT_xaload_n (v := (4, 1)) (pcN := 713) jI_379_712 rfl rfl rfl ?_
  refine jT_xaload_n (v := (6, 0)) (pcN := 714) jI_379_713 rfl rfl rfl ?_
  refine jT_xiload (v := (0, 0)) (pcN := 716) jI_379_714 rfl rfl rfl ?_
  refine jT_xiconst (k := 1) (pcN := 717) jI_379_716 rfl ?_
  refine jT_xiadd (x := 0) (y := 1) (z := 1) (pcN := 718) jI_379_717 rfl (by decide) rfl ?_
  refine jT_adv 1 (pcN := 719) (LN := [(6, (0, 2)), (5, (0, 0)), (4, (4, 3)), (3, (4, 2)), (2, (4, 1)), (1, (4, 0)), (0, (6, 0))]) (stN := [(0, x1), (4, 1)]) (hsN := jpA_267) (c1 := 0) (s1 := 0) (c2 := 0) (s2 := 0) (by exact rfl) ?_ (by omega) (by omega)
  refine jT_xaload_n (v := (6, 0)) (pcN := 720) jI_379_719 rfl rfl rfl ?_
  refine jT_xiload (v := (0, 0)) (pcN := 722) jI_379_720 rfl rfl rfl ?_
  refine jT_xiconst (k := 2) (pcN := 723) jI_379_722 rfl ?_
  refine jT_xiadd (x := 0) (y := 2) (z := 2) (pcN := 724) jI_379_723 rfl (by decide) rfl ?_
  refine jT_adv 1 (pcN := 725) (LN := [(6, (0, 2)), (5, (0, 0)), (4, (4, 3)), (3, (4, 2)), (2, (4, 1)), (1, (4, 0)), (0, (6, 0))]) (stN := [(0, x2), (0, x1), (4, 1)]) (hsN := jpA_267) (c1 := 0) (s1 := 0) (c2 := 0) (s2 := 0) (by exact rfl) ?_ (by omega) (by omega)
  refine jT_xaload_n (v := (6, 0)) (pcN := 726) jI_379_725 rfl rfl rfl ?_
  refine jT_xiload (v := (0, 0)) (pcN := 728) jI_379_726 rfl rfl rfl ?_
  refine jT_xiconst (k := 3) (pcN := 729) jI_379_728 rfl ?_
  refine jT_xiadd (x := 0) (y := 3) (z := 3) (pcN := 730) jI_379_729 rfl (by decide) rfl ?_
  refine jT_adv 1 (pcN := 731) (LN := [(6, (0, 2)), (5, (0, 0)), (4, (4, 3)), (3, (4, 2)), (2, (4, 1)), (1, (4, 0)), (0, (6, 0))]) (stN := [(0, x3), (0, x2), (0, x1), (4, 1)]) (hsN := jpA_267) (c1 := 0) (s1 := 0) (c2 := 0) (s2 := 0) (by exact rfl) ?_ (by omega) (by omega)
  refine jT_fB [1, 15, 16, 17, 18, 19, 20, 21, 22, 23, 24, 25, 26, 27, 28, 29] 30 (y := 215) (pcN := 734) (dC := 2) (bc1 := 0) (bc2 := 0) (c1 := 0) (c2 := 0) (as := [(4, 1), (0, x1), (0, x2), (0, x3)]) (asC := [(4, 0), (0, x1), (0, x2), (0, x3)]) (LN := [(6, (0, 2)), (5, (0, 0)), (4, (4, 3)), (3, (4, 2)), (2, (4, 1)), (1, (4, 0)), (0, (6, 0))]) (stN := []) (hsC := jpA_22) (hsD := jpA_361) (v := (0, 0)) (st2 := [(0, 0)]) (hs2 := jpA_607) (jA_215_173 (d := 0) (by omega) (by omega) (by omega)) (by rfl) (by rfl) (by decide +kernel) (by rfl) (by rfl) (by omega) (by omega) (by omega) (by omega) rfl (by decide +kernel) ?_
  refine jT_xistore (v := (0, 0)) (LN := [(7, (0, 0)), (6, (0, 2)), (5, (0, 0)), (4, (4, 3)), (3, (4, 2)), (2, (4, 1)), (1, (4, 0)), (0, (6, 0))]) (pcN := 736) jI_379_734 rfl rfl rfl rfl ?_
  refine jT_xaload_n (v := (4, 1)) (pcN := 737) jI_379_736 rfl rfl rfl ?_
  refine jT_fR [1, 15, 16, 17, 18, 19, 20, 21, 22, 23, 24, 25, 26, 27, 28, 29] 30 (y := 186) (pcN := 740) (dC := 0) (bc1 := 0) (bc2 := 0) (c1 := 0) (c2 := 0) (as := [(4, 1)]) (asC := [(4, 0)]) (LN := [(7, (0, 0)), (6, (0, 2)), (5, (0, 0)), (4, (4, 3)), (3, (4, 2)), (2, (4, 1)), (1, (4, 0)), (0, (6, 0))]) (stN := []) (hsC := jpA_361) (v := (0, 2)) (st2 := [(0, 2)]) (jA_186_101 (d := 0)) (by rfl) (by rfl) (by decide +kernel) (by rfl) (by rfl) (by omega) (by omega) (by omega) (by omega) rfl ?_
  refine jT_xiload (v := (0, 2)) (pcN := 742) jI_379_740 rfl rfl rfl ?_
  refine jT_xicT (pcN := 747) jI_379_742 rfl (by decide +kernel) rfl ?_
  refine jT_xiload (v := (0, 2)) (pcN := 749) jI_379_747 rfl rfl rfl ?_
  refine jT_xifT (pcN := 764) jI_379_749 rfl (by decide +kernel) rfl ?_
  refine jT_xgoto (pcN := 3740) jI_379_764 rfl ?_
  refine jT_xiinc (x := 0) (z := 5) (LN := [(5, (0, 5)), (7, (0, 0)), (6, (0, 2)), (4, (4, 3)), (3, (4, 2)), (2, (4, 1)), (1, (4, 0)), (0, (6, 0))]) (pcN := 3743) jI_379_3740 rfl rfl (by decide) rfl rfl ?_
  refine jT_xgoto (pcN := 28) jI_379_3743 rfl ?_
  refine jT_xiload (v := (0, 5)) (pcN := 30) jI_379_28 rfl rfl rfl ?_
  refine jT_xaload_n (v := (6, 0)) (pcN := 31) jI_379_30 rfl rfl rfl ?_
  refine jT_adv 1 (pcN := 32) (LN := [(5, (0, 5)), (7, (0, 0)), (6, (0, 2)), (4, (4, 3)), (3, (4, 2)), (2, (4, 1)), (1, (4, 0)), (0, (6, 0))]) (stN := [(0, 5), (0, 5)]) (hsN := jpA_607) (c1 := 0) (s1 := 0) (c2 := 0) (s2 := 0) (by exact rfl) ?_ (by omega) (by omega)
  refine jT_xiconst (k := 5) (pcN := 33) jI_379_32 rfl ?_
  refine jT_xisub (x := 5) (y := 5) (z := 0) (pcN := 34) jI_379_33 rfl (by decide) rfl ?_
  refine jT_xicT (pcN := 3746) jI_379_34 rfl (by decide +kernel) rfl ?_
  refine jT_xiconst (k := 1) (pcN := 3747) jI_379_3746 rfl ?_
  exact jT_ret rfl (by decide) (by show 30 ≤ 30; decide) (by omega) (by omega) ⟨rfl, rfl⟩
theorem jI_379_752 : jmI (jm 379) 752 = (.aload_n 3, 1) := by rfl
theorem jI_379_753 : jmI (jm 379) 753 = (.iconst 0, 1) := by rfl
theorem jI_379_754 : jmI (jm 379) 754 = (.laload, 1) := by rfl
theorem jI_379_755 : jmI (jm 379) 755 = (.iload 7, 2) := by rfl
theorem jI_379_757 : jmI (jm 379) 757 = (.i2l, 1) := by rfl
theorem jI_379_759 : jmI (jm 379) 759 = (.ifCond .eq 5, 3) := by rfl
set_option maxRecDepth 100000 in
theorem jL_5_3 {d : Nat} {x0 x1 x2 x3 x4 : Int} (h_x0 : (-2147483648) ≤ x0 ∧ x0 ≤ 2147483647) (h_x1 : 0 ≤ x1 ∧ x1 ≤ 7) (h_x2 : 1 ≤ x2 ∧ x2 ≤ 400) (h_x3 : 0 ≤ x3 ∧ x3 ≤ 7) (h_x4 : (-2147483648) ≤ x4 ∧ x4 ≤ 2147483647) : jT [x0, x1, x2, x3, x4] (d + 8) 379 53 687 [(5, (0, 0)), (4, (4, 3)), (3, (4, 2)), (2, (4, 1)), (1, (4, 0)), (0, (6, 0))] [] jpA_724 13 375 (fun k v hsN => k = 0 ∧ v = (0, 1)) := by
  refine jT_xaload_n (v := (4, 0)) (pcN := 688) jI_379_687 rfl rfl rfl ?_
  refine jT_xaload_n (v := (6, 0)) (pcN := 689) jI_379_688 rfl rfl rfl ?_
  refine jT_xiload (v := (0, 0)) (pcN := 691) jI_379_689 rfl rfl rfl ?_
  refine jT_xiconst (k := 1) (pcN := 692) jI_379_691 rfl ?_
  refine jT_xiadd (x := 0) (y := 1) (z := 1) (pcN := 693) jI_379_692 rfl (by decide) rfl ?_
  refine jT_adv 1 (pcN := 694) (LN := [(5, (0, 0)), (4, (4, 3)), (3, (4, 2)), (2, (4, 1)), (1, (4, 0)), (0, (6, 0))]) (stN := [(0, x1), (4, 0)]) (hsN := jpA_724) (c1 := 0) (s1 := 0) (c2 := 13) (s2 := 375) (by exact rfl) ?_ (by omega) (by omega)
  refine jT_xaload_n (v := (6, 0)) (pcN := 695) jI_379_694 rfl rfl rfl ?_
  refine jT_xiload (v := (0, 0)) (pcN := 697) jI_379_695 rfl rfl rfl ?_
  refine jT_xiconst (k := 2) (pcN := 698) jI_379_697 rfl ?_
  refine jT_xiadd (x := 0) (y := 2) (z := 2) (pcN := 699) jI_379_698 rfl (by decide) rfl ?_
  refine jT_adv 1 (pcN := 700) (LN := [(5, (0, 0)), (4, (4, 3)), (3, (4, 2)), (2, (4, 1)), (1, (4, 0)), (0, (6, 0))]) (stN := [(0, x2), (0, x1), (4, 0)]) (hsN := jpA_724) (c1 := 0) (s1 := 0) (c2 := 13) (s2 := 375) (by exact rfl) ?_ (by omega) (by omega)
  refine jT_xaload_n (v := (6, 0)) (pcN := 701) jI_379_700 rfl rfl rfl ?_
  refine jT_xiload (v := (0, 0)) (pcN := 703) jI_379_701 rfl rfl rfl ?_
  refine jT_xiconst (k := 3) (pcN := 704) jI_379_703 rfl ?_
  refine jT_xiadd (x := 0) (y := 3) (z := 3) (pcN := 705) jI_379_704 rfl (by decide) rfl ?_
  refine jT_adv 1 (pcN := 706) (LN := [(5, (0, 0)), (4, (4, 3)), (3, (4, 2)), (2, (4, 1)), (1, (4, 0)), (0, (6, 0))]) (stN := [(0, x3), (0, x2), (0, x1), (4, 0)]) (hsN := jpA_724) (c1 := 0) (s1 := 0) (c2 := 13) (s2 := 375) (by exact rfl) ?_ (by omega) (by omega)
  refine jT_xaload_n (v := (4, 2)) (pcN := 707) jI_379_706 rfl rfl rfl ?_
  refine jT_fB [0, 2, 4, 5, 6, 7, 8, 9, 10, 11, 12, 13, 14, 30, 31, 32, 33, 34, 35, 36, 51, 52] 53 (y := 331) (pcN := 710) (dC := 5) (bc1 := 4) (bc2 := 21) (c1 := 9) (c2 := 354) (as := [(4, 0), (0, x1), (0, x2), (0, x3), (4, 2)]) (asC := [(4, 0), (0, x1), (0, x2), (0, x3), (4, 1)]) (LN := [(5, (0, 0)), (4, (4, 3)), (3, (4, 2)), (2, (4, 1)), (1, (4, 0)), (0, (6, 0))]) (stN := []) (hsC := jpA_666) (hsD := jpA_662) (v := (0, 0)) (st2 := [(0, 0)]) (hs2 := jpA_727) (jA_331_183 (d := 0) (by omega) (by omega) (by omega)) (by rfl) (by rfl) (by decide +kernel) (by rfl) (by rfl) (by omega) (by omega) (by omega) (by omega) rfl (by decide +kernel) ?_
  refine jT_xistore (v := (0, 0)) (LN := [(6, (0, 0)), (5, (0, 0)), (4, (4, 3)), (3, (4, 2)), (2, (4, 1)), (1, (4, 0)), (0, (6, 0))]) (pcN := 712) jI_379_710 rfl rfl rfl rfl ?_
  refine jT_xaload_n (v := (4, 1)) (pcN := 713) jI_379_712 rfl rfl rfl ?_
  refine jT_xaload_n (v := (6, 0)) (pcN := 714) jI_379_713 rfl rfl rfl ?_
  refine jT_xiload (v := (0, 0)) (pcN := 716) jI_379_714 rfl rfl rfl ?_
  refine jT_xiconst (k := 1) (pcN := 717) jI_379_716 rfl ?_
  refine jT_xiadd (x := 0) (y := 1) (z := 1) (pcN := 718) jI_379_717 rfl (by decide) rfl ?_
  refine jT_adv 1 (pcN := 719) (LN := [(6, (0, 0)), (5, (0, 0)), (4, (4, 3)), (3, (4, 2)), (2, (4, 1)), (1, (4, 0)), (0, (6, 0))]) (stN := [(0, x1), (4, 1)]) (hsN := jpA_727) (c1 := 0) (s1 := 0) (c2 := 9) (s2 := 354) (by exact rfl) ?_ (by omega) (by omega)
  refine jT_xaload_n (v := (6, 0)) (pcN := 720) jI_379_719 rfl rfl rfl ?_
  refine jT_xiload (v := (0, 0)) (pcN := 722) jI_379_720 rfl rfl rfl ?_
  refine jT_xiconst (k := 2) (pcN := 723) jI_379_722 rfl ?_
  refine jT_xiadd (x := 0) (y := 2) (z := 2) (pcN := 724) jI_379_723 rfl (by decide) rfl ?_
  refine jT_adv 1 (pcN := 725) (LN := [(6, (0, 0)), (5, (0, 0)), (4, (4, 3)), (3, (4, 2)), (2, (4, 1)), (1, (4, 0)), (0, (6, 0))]) (stN := [(0, x2), (0, x1), (4, 1)]) (hsN := jpA_727) (c1 := 0) (s1 := 0) (c2 := 9) (s2 := 354) (by exact rfl) ?_ (by omega) (by omega)
  refine jT_xaload_n (v := (6, 0)) (pcN := 726) jI_379_725 rfl rfl rfl ?_
  refine jT_xiload (v := (0, 0)) (pcN := 728) jI_379_726 rfl rfl rfl ?_
  refine jT_xiconst (k := 3) (pcN := 729) jI_379_728 rfl ?_
  refine jT_xiadd (x := 0) (y := 3) (z := 3) (pcN := 730) jI_379_729 rfl (by decide) rfl ?_
  refine jT_adv 1 (pcN := 731) (LN := [(6, (0, 0)), (5, (0, 0)), (4, (4, 3)), (3, (4, 2)), (2, (4, 1)), (1, (4, 0)), (0, (6, 0))]) (stN := [(0, x3), (0, x2), (0, x1), (4, 1)]) (hsN := jpA_727) (c1 := 0) (s1 := 0) (c2 := 9) (s2 := 354) (by exact rfl) ?_ (by omega) (by omega)
  refine jT_fB [1, 15, 16, 17, 18, 19, 20, 21, 22, 23, 24, 25, 26, 27, 28, 29, 37, 38, 39, 40, 41, 42, 43, 44, 45, 46, 47, 48, 49, 50] 57 (y := 215) (pcN := 734) (dC := 7) (bc1 := 9) (bc2 := 354) (c1 := 0) (c2 := 0) (as := [(4, 1), (0, x1), (0, x2), (0, x3)]) (asC := [(4, 0), (0, x1), (0, x2), (0, x3)]) (LN := [(6, (0, 0)), (5, (0, 0)), (4, (4, 3)), (3, (4, 2)), (2, (4, 1)), (1, (4, 0)), (0, (6, 0))]) (stN := []) (hsC := jpA_701) (hsD := [jzA_200, (100, [], ((((((((((((((jS0).set ((7 * x3).toNat) 0)).set ((7 * x3 + 1).toNat) 0)).set ((7 * x3 + 2).toNat) 0)).set ((7 * x3 + 3).toNat) 0)).set ((7 * x3 + 4).toNat) 0)).set ((7 * x3 + 5).toNat) 0)).set ((7 * x3 + 6).toNat) 1)), (100, [], []), jzA_196, jzA_201, jgh, (130, [], [24, 25, 26, 27, 28, 29]), (101, [], [0, 0, 0, 0, 0, 0]), jgh, jgh, jgh, jgh, jgh, jgh, jgh, jgh, (100, [], jS0), jgh, jgh, jgh, jgh, jgh, jgh, jgh, (100, [], (jenc (jlg 0))), jgh, jgh, jgh, jgh, jgh, (101, [], [1, 0, 0, 0, 0, 0]), (101, [], [1, 0, 0, 0, 0, 0]), (100, [], (jenc 0)), (100, [], (jenc 1)), (100, [], (jenc (1 * (jlg 0)))), (101, [], [(-1), 0, 0, 0, 0, 0]), (100, [], (jenc 0)), (100, [], (jenc (-1))), (100, [], (jenc ((-1) * (jlg 0))))]) (v := (0, 0)) (st2 := [(0, 0)]) (hs2 := [jzA_725, jzA_330, (101, [], [0]), jgh, (8, [(4, 30), (4, 31)], []), jgh, jgh, jgh, jgh, jgh, jgh, jgh, jgh, jzA_327, jzA_721, (100, [], ((((((((((((((jS0).set ((7 * x3).toNat) 0)).set ((7 * x3 + 1).toNat) 0)).set ((7 * x3 + 2).toNat) 0)).set ((7 * x3 + 3).toNat) 0)).set ((7 * x3 + 4).toNat) 0)).set ((7 * x3 + 5).toNat) 0)).set ((7 * x3 + 6).toNat) 1)), (100, [], []), jzA_722, jzA_331, jgh, (130, [], [45, 46, 47, 48, 49, 50]), (101, [], [0, 0, 0, 0, 0, 0]), jgh, jgh, jgh, jgh, jgh, jgh, jgh, jgh, jgh, jgh, jzA_723, jgh, jgh, jgh, jgh, (100, [], jS0), jgh, jgh, jgh, jgh, jgh, jgh, jgh, (100, [], (jenc (jlg 0))), jgh, jgh, jgh, jgh, jgh, (4, [(4, 52), (1, 1)], []), (101, [], [0, 0, 0, 0, 0, 0]), (101, [], [0, 0, 0, 0, 0, 0]), (4, [(4, 53), (1, 1)], []), jgh, jzA_726, (101, [], [1, 0, 0, 0, 0, 0]), (101, [], [1, 0, 0, 0, 0, 0]), (100, [], (jenc 0)), (100, [], (jenc 1)), (100, [], (jenc (1 * (jlg 0)))), (101, [], [(-1), 0, 0, 0, 0, 0]), (100, [], (jenc 0)), (100, [], (jenc (-1))), (100, [], (jenc ((-1) * (jlg 0))))]) (jA_215_195 (d := 0) (by omega) (by omega) (by omega)) (by rfl) (by rfl) (by decide +kernel) (by rfl) (by rfl) (by omega) (by omega) (by omega) (by omega) rfl rfl ?_
  refine jT_xistore (v := (0, 0)) (LN := [(7, (0, 0)), (6, (0, 0)), (5, (0, 0)), (4, (4, 3)), (3, (4, 2)), (2, (4, 1)), (1, (4, 0)), (0, (6, 0))]) (pcN := 736) jI_379_734 rfl rfl rfl rfl ?_
  refine jT_xaload_n (v := (4, 1)) (pcN := 737) jI_379_736 rfl rfl rfl ?_
  refine jT_callA [1, 15, 16, 17, 18, 19, 20, 21, 22, 23, 24, 25, 26, 27, 28, 29] (y := 186) (pcN := 740) (dC := 0) (bc1 := 0) (bc2 := 0) (c1 := 0) (c2 := 0) (as := [(4, 1)]) (asC := [(4, 0)]) (LN := [(7, (0, 0)), (6, (0, 0)), (5, (0, 0)), (4, (4, 3)), (3, (4, 2)), (2, (4, 1)), (1, (4, 0)), (0, (6, 0))]) (stN := []) (hsC := jpA_258) (ex := []) (v := (0, 0)) (st2 := [(0, 0)]) (hs2 := [jzA_725, jzA_330, (101, [], [0]), jgh, (8, [(4, 30), (4, 31)], []), jgh, jgh, jgh, jgh, jgh, jgh, jgh, jgh, jzA_327, jzA_721, (100, [], ((((((((((((((jS0).set ((7 * x3).toNat) 0)).set ((7 * x3 + 1).toNat) 0)).set ((7 * x3 + 2).toNat) 0)).set ((7 * x3 + 3).toNat) 0)).set ((7 * x3 + 4).toNat) 0)).set ((7 * x3 + 5).toNat) 0)).set ((7 * x3 + 6).toNat) 1)), (100, [], []), jzA_722, jzA_331, jgh, (130, [], [45, 46, 47, 48, 49, 50]), (101, [], [0, 0, 0, 0, 0, 0]), jgh, jgh, jgh, jgh, jgh, jgh, jgh, jgh, jgh, jgh, jzA_723, jgh, jgh, jgh, jgh, (100, [], jS0), jgh, jgh, jgh, jgh, jgh, jgh, jgh, (100, [], (jenc (jlg 0))), jgh, jgh, jgh, jgh, jgh, (4, [(4, 52), (1, 1)], []), (101, [], [0, 0, 0, 0, 0, 0]), (101, [], [0, 0, 0, 0, 0, 0]), (4, [(4, 53), (1, 1)], []), jgh, jzA_726, (101, [], [1, 0, 0, 0, 0, 0]), (101, [], [1, 0, 0, 0, 0, 0]), (100, [], (jenc 0)), (100, [], (jenc 1)), (100, [], (jenc (1 * (jlg 0)))), (101, [], [(-1), 0, 0, 0, 0, 0]), (100, [], (jenc 0)), (100, [], (jenc (-1))), (100, [], (jenc ((-1) * (jlg 0))))]) (jA_186_54 (d := 0)) (by rfl) (by rfl) (by rfl) (by rfl) ⟨rfl, rfl, rfl, rfl, rfl, rfl, rfl, rfl, rfl, rfl, rfl, rfl, rfl, rfl, rfl, rfl, trivial⟩ (by rfl) (by rfl) (by omega) (by show 53 ≤ 66; omega) (by omega) (by omega) rfl rfl ?_
  refine jT_xiload (v := (0, 0)) (pcN := 742) jI_379_740 rfl rfl rfl ?_
  refine jT_xicT (pcN := 747) jI_379_742 rfl (by decide +kernel) rfl ?_
  refine jT_xiload (v := (0, 0)) (pcN := 749) jI_379_747 rfl rfl rfl ?_
  refine jT_xifF (t := 764) (pcN := 752) jI_379_749 rfl (by decide +kernel) rfl rfl ?_
  refine jT_xaload_n (v := (4, 2)) (pcN := 753) jI_379_752 rfl rfl rfl ?_
  refine jT_xiconst (k := 0) (pcN := 754) jI_379_753 rfl ?_
  refine jT_lald (x := 0) (a := 2) (j := 0) (fs := []) (X := [0]) jI_379_754 rfl rfl rfl rfl ?_
  refine jT_eq (LN := [(7, (0, 0)), (6, (0, 0)), (5, (0, 0)), (4, (4, 3)), (3, (4, 2)), (2, (4, 1)), (1, (4, 0)), (0, (6, 0))]) (stN := [(1, 0)]) (hsN := [jzA_725, jzA_330, (101, [], [0]), jgh, (8, [(4, 30), (4, 31)], []), jgh, jgh, jgh, jgh, jgh, jgh, jgh, jgh, jzA_327, jzA_721, (100, [], ((((((((((((((jS0).set ((7 * x3).toNat) 0)).set ((7 * x3 + 1).toNat) 0)).set ((7 * x3 + 2).toNat) 0)).set ((7 * x3 + 3).toNat) 0)).set ((7 * x3 + 4).toNat) 0)).set ((7 * x3 + 5).toNat) 0)).set ((7 * x3 + 6).toNat) 1)), (100, [], []), jzA_722, jzA_331, jgh, (130, [], [45, 46, 47, 48, 49, 50]), (101, [], [0, 0, 0, 0, 0, 0]), jgh, jgh, jgh, jgh, jgh, jgh, jgh, jgh, jgh, jgh, jzA_723, jgh, jgh, jgh, jgh, (100, [], jS0), jgh, jgh, jgh, jgh, jgh, jgh, jgh, (100, [], (jenc (jlg 0))), jgh, jgh, jgh, jgh, jgh, (4, [(4, 52), (1, 1)], []), (101, [], [0, 0, 0, 0, 0, 0]), (101, [], [0, 0, 0, 0, 0, 0]), (4, [(4, 53), (1, 1)], []), jgh, jzA_726, (101, [], [1, 0, 0, 0, 0, 0]), (101, [], [1, 0, 0, 0, 0, 0]), (100, [], (jenc 0)), (100, [], (jenc 1)), (100, [], (jenc (1 * (jlg 0)))), (101, [], [(-1), 0, 0, 0, 0, 0]), (100, [], (jenc 0)), (100, [], (jenc (-1))), (100, [], (jenc ((-1) * (jlg 0))))]) rfl rfl rfl ?_
  refine jT_xiload (v := (0, 0)) (pcN := 757) jI_379_755 rfl rfl rfl ?_
  refine jT_xi2l (x := 0) (z := 0) (pcN := 758) jI_379_757 rfl (by decide +kernel) rfl ?_
  refine jT_lcmp (a := 0) (b := 0) (z := 0) (by rfl) (by rfl) (by decide +kernel) (by decide +kernel) (by decide) ?_
  refine jT_xifT (pcN := 764) jI_379_759 rfl (by decide +kernel) rfl ?_
  refine jT_xgoto (pcN := 3740) jI_379_764 rfl ?_
  refine jT_xiinc (x := 0) (z := 5) (LN := [(5, (0, 5)), (7, (0, 0)), (6, (0, 0)), (4, (4, 3)), (3, (4, 2)), (2, (4, 1)), (1, (4, 0)), (0, (6, 0))]) (pcN := 3743) jI_379_3740 rfl rfl (by decide) rfl rfl ?_
  refine jT_xgoto (pcN := 28) jI_379_3743 rfl ?_
  refine jT_xiload (v := (0, 5)) (pcN := 30) jI_379_28 rfl rfl rfl ?_
  refine jT_xaload_n (v := (6, 0)) (pcN := 31) jI_379_30 rfl rfl rfl ?_
  refine jT_adv 1 (pcN := 32) (LN := [(5, (0, 5)), (7, (0, 0)), (6, (0, 0)), (4, (4, 3)), (3, (4, 2)), (2, (4, 1)), (1, (4, 0)), (0, (6, 0))]) (stN := [(0, 5), (0, 5)]) (hsN := [jzA_725, jzA_330, (101, [], [0]), jgh, (8, [(4, 30), (4, 31)], []), jgh, jgh, jgh, jgh, jgh, jgh, jgh, jgh, jzA_327, jzA_721, (100, [], ((((((((((((((jS0).set ((7 * x3).toNat) 0)).set ((7 * x3 + 1).toNat) 0)).set ((7 * x3 + 2).toNat) 0)).set ((7 * x3 + 3).toNat) 0)).set ((7 * x3 + 4).toNat) 0)).set ((7 * x3 + 5).toNat) 0)).set ((7 * x3 + 6).toNat) 1)), (100, [], []), jzA_722, jzA_331, jgh, (130, [], [45, 46, 47, 48, 49, 50]), (101, [], [0, 0, 0, 0, 0, 0]), jgh, jgh, jgh, jgh, jgh, jgh, jgh, jgh, jgh, jgh, jzA_723, jgh, jgh, jgh, jgh, (100, [], jS0), jgh, jgh, jgh, jgh, jgh, jgh, jgh, (100, [], (jenc (jlg 0))), jgh, jgh, jgh, jgh, jgh, (4, [(4, 52), (1, 1)], []), (101, [], [0, 0, 0, 0, 0, 0]), (101, [], [0, 0, 0, 0, 0, 0]), (4, [(4, 53), (1, 1)], []), jgh, jzA_726, (101, [], [1, 0, 0, 0, 0, 0]), (101, [], [1, 0, 0, 0, 0, 0]), (100, [], (jenc 0)), (100, [], (jenc 1)), (100, [], (jenc (1 * (jlg 0)))), (101, [], [(-1), 0, 0, 0, 0, 0]), (100, [], (jenc 0)), (100, [], (jenc (-1))), (100, [], (jenc ((-1) * (jlg 0))))]) (c1 := 0) (s1 := 0) (c2 := 0) (s2 := 0) (by exact rfl) ?_ (by omega) (by omega)
  refine jT_xiconst (k := 5) (pcN := 33) jI_379_32 rfl ?_
  refine jT_xisub (x := 5) (y := 5) (z := 0) (pcN := 34) jI_379_33 rfl (by decide) rfl ?_
  refine jT_xicT (pcN := 3746) jI_379_34 rfl (by decide +kernel) rfl ?_
  refine jT_xiconst (k := 1) (pcN := 3747) jI_379_3746 rfl ?_
  exact jT_ret rfl (by decide) (by show 53 ≤ 66; decide) (by omega) (by omega) ⟨rfl, rfl⟩
set_option maxRecDepth 100000 in
theorem jL_5_4 {d : Nat} {x0 x1 x2 x3 x4 : Int} (h_x0 : (-2147483648) ≤ x0 ∧ x0 ≤ 2147483647) (h_x1 : 0 ≤ x1 ∧ x1 ≤ 7) (h_x2 : 401 ≤ x2 ∧ x2 ≤ 2147483647) (h_x3 : 0 ≤ x3 ∧ x3 ≤ 7) (h_x4 : (-2147483648) ≤ x4 ∧ x4 ≤ 2147483647) : jT [x0, x1, x2, x3, x4] (d + 3) 379 30 687 [(5, (0, 0)), (4, (4, 3)), (3, (4, 2)), (2, (4, 1)), (1, (4, 0)), (0, (6, 0))] [] jpA_267 1 6 (fun k v hsN => k = 0 ∧ v = (0, 1)) := by
  refine jT_xaload_n (v := (4, 0)) (pcN := 688) jI_379_687 rfl rfl rfl ?_
  refine jT_xaload_n (v := (6, 0)) (pcN := 689) jI_379_688 rfl rfl rfl ?_
  refine jT_xiload (v := (0, 0)) (pcN := 691) jI_379_689 rfl rfl rfl ?_
  refine jT_xiconst (k := 1) (pcN := 692) jI_379_691 rfl ?_
  refine jT_xiadd (x := 0) (y := 1) (z := 1) (pcN := 693) jI_379_692 rfl (by decide) rfl ?_
  refine jT_adv 1 (pcN := 694) (LN := [(5, (0, 0)), (4, (4, 3)), (3, (4, 2)), (2, (4, 1)), (1, (4, 0)), (0, (6, 0))]) (stN := [(0, x1), (4, 0)]) (hsN := jpA_267) (c1 := 0) (s1 := 0) (c2 := 1) (s2 := 6) (by exact rfl) ?_ (by omega) (by omega)
  refine jT_xaload_n (v := (6, 0)) (pcN := 695) jI_379_694 rfl rfl rfl ?_
  refine jT_xiload (v := (0, 0)) (pcN := 697) jI_379_695 rfl rfl rfl ?_
  refine jT_xiconst (k := 2) (pcN := 698) jI_379_697 rfl ?_
  refine jT_xiadd (x := 0) (y := 2) (z := 2) (pcN := 699) jI_379_698 rfl (by decide) rfl ?_
  refine jT_adv 1 (pcN := 700) (LN := [(5, (0, 0)), (4, (4, 3)), (3, (4, 2)), (2, (4, 1)), (1, (4, 0)), (0, (6, 0))]) (stN := [(0, x2), (0, x1), (4, 0)]) (hsN := jpA_267) (c1 := 0) (s1 := 0) (c2 := 1) (s2 := 6) (by exact rfl) ?_ (by omega) (by omega)
  refine jT_xaload_n (v := (6, 0)) (pcN := 701) jI_379_700 rfl rfl rfl ?_
  refine jT_xiload (v := (0, 0)) (pcN := 703) jI_379_701 rfl rfl rfl ?_
  refine jT_xiconst (k := 3) (pcN := 704) jI_379_703 rfl ?_
  refine jT_xiadd (x := 0) (y := 3) (z := 3) (pcN := 705) jI_379_704 rfl (by decide) rfl ?_
  refine jT_adv 1 (pcN := 706) (LN := [(5, (0, 0)), (4, (4, 3)), (3, (4, 2)), (2, (4, 1)), (1, (4, 0)), (0, (6, 0))]) (stN := [(0, x3), (0, x2), (0, x1), (4, 0)]) (hsN := jpA_267) (c1 := 0) (s1 := 0) (c2 := 1) (s2 := 6) (by exact rfl) ?_ (by omega) (by omega)
  refine jT_xaload_n (v := (4, 2)) (pcN := 707) jI_379_706 rfl rfl rfl ?_
  refine jT_fR [0, 2, 4, 5, 6, 7, 8, 9, 10, 11, 12, 13, 14] 30 (y := 331) (pcN := 710) (dC := 2) (bc1 := 1) (bc2 := 6) (c1 := 0) (c2 := 0) (as := [(4, 0), (0, x1), (0, x2), (0, x3), (4, 2)]) (asC := [(4, 0), (0, x1), (0, x2), (0, x3), (4, 1)]) (LN := [(5, (0, 0)), (4, (4, 3)), (3, (4, 2)), (2, (4, 1)), (1, (4, 0)), (0, (6, 0))]) (stN := []) (hsC := jpA_15) (v := (0, 2)) (st2 := [(0, 2)]) (jA_331_198 (d := 0) (by omega) (by omega) (by omega)) (by rfl) (by rfl) (by decide +kernel) (by rfl) (by rfl) (by omega) (by omega) (by omega) (by omega) rfl ?_
  refine jT_xistore (v := (0, 2)) (LN := [(6, (0, 2)), (5, (0, 0)), (4, (4, 3)), (3, (4, 2)), (2, (4, 1)), (1, (4, 0)), (0, (6, 0))]) (pcN := 712) jI_379_710 rfl rfl rfl rfl ?_
  refine jT_xaload_n (v := (4, 1)) (pcN := 713) jI_379_712 rfl rfl rfl ?_
  refine jT_xaload_n (v := (6, 0)) (pcN := 714) jI_379_713 rfl rfl rfl ?_
  refine jT_xiload (v := (0, 0)) (pcN := 716) jI_379_714 rfl rfl rfl ?_
  refine jT_xiconst (k := 1) (pcN := 717) jI_379_716 rfl ?_
  refine jT_xiadd (x := 0) (y := 1) (z := 1) (pcN := 718) jI_379_717 rfl (by decide) rfl ?_
  refine jT_adv 1 (pcN := 719) (LN := [(6, (0, 2)), (5, (0, 0)), (4, (4, 3)), (3, (4, 2)), (2, (4, 1)), (1, (4, 0)), (0, (6, 0))]) (stN := [(0, x1), (4, 1)]) (hsN := jpA_267) (c1 := 0) (s1 := 0) (c2 := 0) (s2 := 0) (by exact rfl) ?_ (by omega) (by omega)
  refine jT_xaload_n (v := (6, 0)) (pcN := 720) jI_379_719 rfl rfl rfl ?_
  refine jT_xiload (v := (0, 0)) (pcN := 722) jI_379_720 rfl rfl rfl ?_
  refine jT_xiconst (k := 2) (pcN := 723) jI_379_722 rfl ?_
  refine jT_xiadd (x := 0) (y := 2) (z := 2) (pcN := 724) jI_379_723 rfl (by decide) rfl ?_
  refine jT_adv 1 (pcN := 725) (LN := [(6, (0, 2)), (5, (0, 0)), (4, (4, 3)), (3, (4, 2)), (2, (4, 1)), (1, (4, 0)), (0, (6, 0))]) (stN := [(0, x2), (0, x1), (4, 1)]) (hsN := jpA_267) (c1 := 0) (s1 := 0) (c2 := 0) (s2 := 0) (by exact rfl) ?_ (by omega) (by omega)
  refine jT_xaload_n (v := (6, 0)) (pcN := 726) jI_379_725 rfl rfl rfl ?_
  refine jT_xiload (v := (0, 0)) (pcN := 728) jI_379_726 rfl rfl rfl ?_
  refine jT_xiconst (k := 3) (pcN := 729) jI_379_728 rfl ?_
  refine jT_xiadd (x := 0) (y := 3) (z := 3) (pcN := 730) jI_379_729 rfl (by decide) rfl ?_
  refine jT_adv 1 (pcN := 731) (LN := [(6, (0, 2)), (5, (0, 0)), (4, (4, 3)), (3, (4, 2)), (2, (4, 1)), (1, (4, 0)), (0, (6, 0))]) (stN := [(0, x3), (0, x2), (0, x1), (4, 1)]) (hsN := jpA_267) (c1 := 0) (s1 := 0) (c2 := 0) (s2 := 0) (by exact rfl) ?_ (by omega) (by omega)
  refine jT_fB [1, 15, 16, 17, 18, 19, 20, 21, 22, 23, 24, 25, 26, 27, 28, 29] 30 (y := 215) (pcN := 734) (dC := 2) (bc1 := 0) (bc2 := 0) (c1 := 0) (c2 := 0) (as := [(4, 1), (0, x1), (0, x2), (0, x3)]) (asC := [(4, 0), (0, x1), (0, x2), (0, x3)]) (LN := [(6, (0, 2)), (5, (0, 0)), (4, (4, 3)), (3, (4, 2)), (2, (4, 1)), (1, (4, 0)), (0, (6, 0))]) (stN := []) (hsC := jpA_22) (hsD := jpA_361) (v := (0, 0)) (st2 := [(0, 0)]) (hs2 := jpA_607) (jA_215_199 (d := 0) (by omega) (by omega) (by omega)) (by rfl) (by rfl) (by decide +kernel) (by rfl) (by rfl) (by omega) (by omega) (by omega) (by omega) rfl (by decide +kernel) ?_
  refine jT_xistore (v := (0, 0)) (LN := [(7, (0, 0)), (6, (0, 2)), (5, (0, 0)), (4, (4, 3)), (3, (4, 2)), (2, (4, 1)), (1, (4, 0)), (0, (6, 0))]) (pcN := 736) jI_379_734 rfl rfl rfl rfl ?_
  refine jT_xaload_n (v := (4, 1)) (pcN := 737) jI_379_736 rfl rfl rfl ?_
  refine jT_fR [1, 15, 16, 17, 18, 19, 20, 21, 22, 23, 24, 25, 26, 27, 28, 29] 30 (y := 186) (pcN := 740) (dC := 0) (bc1 := 0) (bc2 := 0) (c1 := 0) (c2 := 0) (as := [(4, 1)]) (asC := [(4, 0)]) (LN := [(7, (0, 0)), (6, (0, 2)), (5, (0, 0)), (4, (4, 3)), (3, (4, 2)), (2, (4, 1)), (1, (4, 0)), (0, (6, 0))]) (stN := []) (hsC := jpA_361) (v := (0, 2)) (st2 := [(0, 2)]) (jA_186_101 (d := 0)) (by rfl) (by rfl) (by decide +kernel) (by rfl) (by rfl) (by omega) (by omega) (by omega) (by omega) rfl ?_
  refine jT_xiload (v := (0, 2)) (pcN := 742) jI_379_740 rfl rfl rfl ?_
  refine jT_xicT (pcN := 747) jI_379_742 rfl (by decide +kernel) rfl ?_
  refine jT_xiload (v := (0, 2)) (pcN := 749) jI_379_747 rfl rfl rfl ?_
  refine jT_xifT (pcN := 764) jI_379_749 rfl (by decide +kernel) rfl ?_
  refine jT_xgoto (pcN := 3740) jI_379_764 rfl ?_
  refine jT_xiinc (x := 0) (z := 5) (LN := [(5, (0, 5)), (7, (0, 0)), (6, (0, 2)), (4, (4, 3)), (3, (4, 2)), (2, (4, 1)), (1, (4, 0)), (0, (6, 0))]) (pcN := 3743) jI_379_3740 rfl rfl (by decide) rfl rfl ?_
  refine jT_xgoto (pcN := 28) jI_379_3743 rfl ?_
  refine jT_xiload (v := (0, 5)) (pcN := 30) jI_379_28 rfl rfl rfl ?_
  refine jT_xaload_n (v := (6, 0)) (pcN := 31) jI_379_30 rfl rfl rfl ?_
  refine jT_adv 1 (pcN := 32) (LN := [(5, (0, 5)), (7, (0, 0)), (6, (0, 2)), (4, (4, 3)), (3, (4, 2)), (2, (4, 1)), (1, (4, 0)), (0, (6, 0))]) (stN := [(0, 5), (0, 5)]) (hsN := jpA_607) (c1 := 0) (s1 := 0) (c2 := 0) (s2 := 0) (by exact rfl) ?_ (by omega) (by omega)
  refine jT_xiconst (k := 5) (pcN := 33) jI_379_32 rfl ?_
  refine jT_xisub (x := 5) (y := 5) (z := 0) (pcN := 34) jI_379_33 rfl (by decide) rfl ?_
  refine jT_xicT (pcN := 3746) jI_379_34 rfl (by decide +kernel) rfl ?_
  refine jT_xiconst (k := 1) (pcN := 3747) jI_379_3746 rfl ?_
  exact jT_ret rfl (by decide) (by show 30 ≤ 30; decide) (by omega) (by omega) ⟨rfl, rfl⟩
set_option maxRecDepth 100000 in
theorem jL_5_5 {d : Nat} {x0 x1 x2 x3 x4 : Int} (h_x0 : (-2147483648) ≤ x0 ∧ x0 ≤ 2147483647) (h_x1 : 0 ≤ x1 ∧ x1 ≤ 7) (h_x2 : (-2147483648) ≤ x2 ∧ x2 ≤ 2147483647) (h_x3 : 8 ≤ x3 ∧ x3 ≤ 2147483647) (h_x4 : (-2147483648) ≤ x4 ∧ x4 ≤ 2147483647) : jT [x0, x1, x2, x3, x4] (d + 3) 379 30 687 [(5, (0, 0)), (4, (4, 3)), (3, (4, 2)), (2, (4, 1)), (1, (4, 0)), (0, (6, 0))] [] jpA_267 1 6 (fun k v hsN => k = 0 ∧ v = (0, 1)) := by
  refine jT_xaload_n (v := (4, 0)) (pcN := 688) jI_379_687 rfl rfl rfl ?_
  refine jT_xaload_n (v := (6, 0)) (pcN := 689) jI_379_688 rfl rfl rfl ?_
  refine jT_xiload (v := (0, 0)) (pcN := 691) jI_379_689 rfl rfl rfl ?_
  refine jT_xiconst (k := 1) (pcN := 692) jI_379_691 rfl ?_
  refine jT_xiadd (x := 0) (y := 1) (z := 1) (pcN := 693) jI_379_692 rfl (by decide) rfl ?_
  refine jT_adv 1 (pcN := 694) (LN := [(5, (0, 0)), (4, (4, 3)), (3, (4, 2)), (2, (4, 1)), (1, (4, 0)), (0, (6, 0))]) (stN := [(0, x1), (4, 0)]) (hsN := jpA_267) (c1 := 0) (s1 := 0) (c2 := 1) (s2 := 6) (by exact rfl) ?_ (by omega) (by omega)
  refine jT_xaload_n (v := (6, 0)) (pcN := 695) jI_379_694 rfl rfl rfl ?_
  refine jT_xiload (v := (0, 0)) (pcN := 697) jI_379_695 rfl rfl rfl ?_
  refine jT_xiconst (k := 2) (pcN := 698) jI_379_697 rfl ?_
  refine jT_xiadd (x := 0) (y := 2) (z := 2) (pcN := 699) jI_379_698 rfl (by decide) rfl ?_
  refine jT_adv 1 (pcN := 700) (LN := [(5, (0, 0)), (4, (4, 3)), (3, (4, 2)), (2, (4, 1)), (1, (4, 0)), (0, (6, 0))]) (stN := [(0, x2), (0, x1), (4, 0)]) (hsN := jpA_267) (c1 := 0) (s1 := 0) (c2 := 1) (s2 := 6) (by exact rfl) ?_ (by omega) (by omega)
  refine jT_xaload_n (v := (6, 0)) (pcN := 701) jI_379_700 rfl rfl rfl ?_
  refine jT_xiload (v := (0, 0)) (pcN := 703) jI_379_701 rfl rfl rfl ?_
  refine jT_xiconst (k := 3) (pcN := 704) jI_379_703 rfl ?_
  refine jT_xiadd (x := 0) (y := 3) (z := 3) (pcN := 705) jI_379_704 rfl (by decide) rfl ?_
  refine jT_adv 1 (pcN := 706) (LN := [(5, (0, 0)), (4, (4, 3)), (3, (4, 2)), (2, (4, 1)), (1, (4, 0)), (0, (6, 0))]) (stN := [(0, x3), (0, x2), (0, x1), (4, 0)]) (hsN := jpA_267) (c1 := 0) (s1 := 0) (c2 := 1) (s2 := 6) (by exact rfl) ?_ (by omega) (by omega)
  refine jT_xaload_n (v := (4, 2)) (pcN := 707) jI_379_706 rfl rfl rfl ?_
  refine jT_fR [0, 2, 4, 5, 6, 7, 8, 9, 10, 11, 12, 13, 14] 30 (y := 331) (pcN := 710) (dC := 2) (bc1 := 1) (bc2 := 6) (c1 := 0) (c2 := 0) (as := [(4, 0), (0, x1), (0, x2), (0, x3), (4, 2)]) (asC := [(4, 0), (0, x1), (0, x2), (0, x3), (4, 1)]) (LN := [(5, (0, 0)), (4, (4, 3)), (3, (4, 2)), (2, (4, 1)), (1, (4, 0)), (0, (6, 0))]) (stN := []) (hsC := jpA_15) (v := (0, 1)) (st2 := [(0, 1)]) (jA_331_201 (d := 0) (by omega) (by omega) (by omega)) (by rfl) (by rfl) (by decide +kernel) (by rfl) (by rfl) (by omega) (by omega) (by omega) (by omega) rfl ?_
  refine jT_xistore (v := (0, 1)) (LN := [(6, (0, 1)), (5, (0, 0)), (4, (4, 3)), (3, (4, 2)), (2, (4, 1)), (1, (4, 0)), (0, (6, 0))]) (pcN := 712) jI_379_710 rfl rfl rfl rfl ?_
  refine jT_xaload_n (v := (4, 1)) (pcN := 713) jI_379_712 rfl rfl rfl ?_
  refine jT_xaload_n (v := (6, 0)) (pcN := 714) jI_379_713 rfl rfl rfl ?_
  refine jT_xiload (v := (0, 0)) (pcN := 716) jI_379_714 rfl rfl rfl ?_
  refine jT_xiconst (k := 1) (pcN := 717) jI_379_716 rfl ?_
  refine jT_xiadd (x := 0) (y := 1) (z := 1) (pcN := 718) jI_379_717 rfl (by decide) rfl ?_
  refine jT_adv 1 (pcN := 719) (LN := [(6, (0, 1)), (5, (0, 0)), (4, (4, 3)), (3, (4, 2)), (2, (4, 1)), (1, (4, 0)), (0, (6, 0))]) (stN := [(0, x1), (4, 1)]) (hsN := jpA_267) (c1 := 0) (s1 := 0) (c2 := 0) (s2 := 0) (by exact rfl) ?_ (by omega) (by omega)
  refine jT_xaload_n (v := (6, 0)) (pcN := 720) jI_379_719 rfl rfl rfl ?_
  refine jT_xiload (v := (0, 0)) (pcN := 722) jI_379_720 rfl rfl rfl ?_
  refine jT_xiconst (k := 2) (pcN := 723) jI_379_722 rfl ?_
  refine jT_xiadd (x := 0) (y := 2) (z := 2) (pcN := 724) jI_379_723 rfl (by decide) rfl ?_
  refine jT_adv 1 (pcN := 725) (LN := [(6, (0, 1)), (5, (0, 0)), (4, (4, 3)), (3, (4, 2)), (2, (4, 1)), (1, (4, 0)), (0, (6, 0))]) (stN := [(0, x2), (0, x1), (4, 1)]) (hsN := jpA_267) (c1 := 0) (s1 := 0) (c2 := 0) (s2 := 0) (by exact rfl) ?_ (by omega) (by omega)
  refine jT_xaload_n (v := (6, 0)) (pcN := 726) jI_379_725 rfl rfl rfl ?_
  refine jT_xiload (v := (0, 0)) (pcN := 728) jI_379_726 rfl rfl rfl ?_
  refine jT_xiconst (k := 3) (pcN := 729) jI_379_728 rfl ?_
  refine jT_xiadd (x := 0) (y := 3) (z := 3) (pcN := 730) jI_379_729 rfl (by decide) rfl ?_
  refine jT_adv 1 (pcN := 731) (LN := [(6, (0, 1)), (5, (0, 0)), (4, (4, 3)), (3, (4, 2)), (2, (4, 1)), (1, (4, 0)), (0, (6, 0))]) (stN := [(0, x3), (0, x2), (0, x1), (4, 1)]) (hsN := jpA_267) (c1 := 0) (s1 := 0) (c2 := 0) (s2 := 0) (by exact rfl) ?_ (by omega) (by omega)
  refine jT_fB [1, 15, 16, 17, 18, 19, 20, 21, 22, 23, 24, 25, 26, 27, 28, 29] 30 (y := 215) (pcN := 734) (dC := 2) (bc1 := 0) (bc2 := 0) (c1 := 0) (c2 := 0) (as := [(4, 1), (0, x1), (0, x2), (0, x3)]) (asC := [(4, 0), (0, x1), (0, x2), (0, x3)]) (LN := [(6, (0, 1)), (5, (0, 0)), (4, (4, 3)), (3, (4, 2)), (2, (4, 1)), (1, (4, 0)), (0, (6, 0))]) (stN := []) (hsC := jpA_22) (hsD := jpA_20) (v := (0, 0)) (st2 := [(0, 0)]) (hs2 := jpA_306) (jA_215_202 (d := 0) (by omega) (by omega) (by omega)) (by rfl) (by rfl) (by decide +kernel) (by rfl) (by rfl) (by omega) (by omega) (by omega) (by omega) rfl (by decide +kernel) ?_
  refine jT_xistore (v := (0, 0)) (LN := [(7, (0, 0)), (6, (0, 1)), (5, (0, 0)), (4, (4, 3)), (3, (4, 2)), (2, (4, 1)), (1, (4, 0)), (0, (6, 0))]) (pcN := 736) jI_379_734 rfl rfl rfl rfl ?_
  refine jT_xaload_n (v := (4, 1)) (pcN := 737) jI_379_736 rfl rfl rfl ?_
  refine jT_fR [1, 15, 16, 17, 18, 19, 20, 21, 22, 23, 24, 25, 26, 27, 28, 29] 30 (y := 186) (pcN := 740) (dC := 0) (bc1 := 0) (bc2 := 0) (c1 := 0) (c2 := 0) (as := [(4, 1)]) (asC := [(4, 0)]) (LN := [(7, (0, 0)), (6, (0, 1)), (5, (0, 0)), (4, (4, 3)), (3, (4, 2)), (2, (4, 1)), (1, (4, 0)), (0, (6, 0))]) (stN := []) (hsC := jpA_20) (v := (0, 1)) (st2 := [(0, 1)]) (jA_186_8 (d := 0)) (by rfl) (by rfl) (by decide +kernel) (by rfl) (by rfl) (by omega) (by omega) (by omega) (by omega) rfl ?_
  refine jT_xiload (v := (0, 1)) (pcN := 742) jI_379_740 rfl rfl rfl ?_
  refine jT_xicT (pcN := 747) jI_379_742 rfl (by decide +kernel) rfl ?_
  refine jT_xiload (v := (0, 1)) (pcN := 749) jI_379_747 rfl rfl rfl ?_
  refine jT_xifT (pcN := 764) jI_379_749 rfl (by decide +kernel) rfl ?_
  refine jT_xgoto (pcN := 3740) jI_379_764 rfl ?_
  refine jT_xiinc (x := 0) (z := 5) (LN := [(5, (0, 5)), (7, (0, 0)), (6, (0, 1)), (4, (4, 3)), (3, (4, 2)), (2, (4, 1)), (1, (4, 0)), (0, (6, 0))]) (pcN := 3743) jI_379_3740 rfl rfl (by decide) rfl rfl ?_
  refine jT_xgoto (pcN := 28) jI_379_3743 rfl ?_
  refine jT_xiload (v := (0, 5)) (pcN := 30) jI_379_28 rfl rfl rfl ?_
  refine jT_xaload_n (v := (6, 0)) (pcN := 31) jI_379_30 rfl rfl rfl ?_
  refine jT_adv 1 (pcN := 32) (LN := [(5, (0, 5)), (7, (0, 0)), (6, (0, 1)), (4, (4, 3)), (3, (4, 2)), (2, (4, 1)), (1, (4, 0)), (0, (6, 0))]) (stN := [(0, 5), (0, 5)]) (hsN := jpA_306) (c1 := 0) (s1 := 0) (c2 := 0) (s2 := 0) (by exact rfl) ?_ (by omega) (by omega)
  refine jT_xiconst (k := 5) (pcN := 33) jI_379_32 rfl ?_
  refine jT_xisub (x := 5) (y := 5) (z := 0) (pcN := 34) jI_379_33 rfl (by decide) rfl ?_
  refine jT_xicT (pcN := 3746) jI_379_34 rfl (by decide +kernel) rfl ?_
  refine jT_xiconst (k := 1) (pcN := 3747) jI_379_3746 rfl ?_
  exact jT_ret rfl (by decide) (by show 30 ≤ 30; decide) (by omega) (by omega) ⟨rfl, rfl⟩
set_option maxRecDepth 100000 in
theorem jL_5_6 {d : Nat} {x0 x1 x2 x3 x4 : Int} (h_x0 : (-2147483648) ≤ x0 ∧ x0 ≤ 2147483647) (h_x1 : 8 ≤ x1 ∧ x1 ≤ 2147483647) (h_x2 : (-2147483648) ≤ x2 ∧ x2 ≤ 2147483647) (h_x3 : (-2147483648) ≤ x3 ∧ x3 ≤ 2147483647) (h_x4 : (-2147483648) ≤ x4 ∧ x4 ≤ 2147483647) : jT [x0, x1, x2, x3, x4] (d + 3) 379 30 687 [(5, (0, 0)), (4, (4, 3)), (3, (4, 2)), (2, (4, 1)), (1, (4, 0)), (0, (6, 0))] [] jpA_267 1 6 (fun k v hsN => k = 0 ∧ v = (0, 1)) := by
  refine jT_xaload_n (v := (4, 0)) (pcN := 688) jI_379_687 rfl rfl rfl ?_
  refine jT_xaload_n (v := (6, 0)) (pcN := 689) jI_379_688 rfl rfl rfl ?_
  refine jT_xiload (v := (0, 0)) (pcN := 691) jI_379_689 rfl rfl rfl ?_
  refine jT_xiconst (k := 1) (pcN := 692) jI_379_691 rfl ?_
  refine jT_xiadd (x := 0) (y := 1) (z := 1) (pcN := 693) jI_379_692 rfl (by decide) rfl ?_
  refine jT_adv 1 (pcN := 694) (LN := [(5, (0, 0)), (4, (4, 3)), (3, (4, 2)), (2, (4, 1)), (1, (4, 0)), (0, (6, 0))]) (stN := [(0, x1), (4, 0)]) (hsN := jpA_267) (c1 := 0) (s1 := 0) (c2 := 1) (s2 := 6) (by exact rfl) ?_ (by omega) (by omega)
  refine jT_xaload_n (v := (6, 0)) (pcN := 695) jI_379_694 rfl rfl rfl ?_
  refine jT_xiload (v := (0, 0)) (pcN := 697) jI_379_695 rfl rfl rfl ?_
  refine jT_xiconst (k := 2) (pcN := 698) jI_379_697 rfl ?_
  refine jT_xiadd (x := 0) (y := 2) (z := 2) (pcN := 699) jI_379_698 rfl (by decide) rfl ?_
  refine jT_adv 1 (pcN := 700) (LN := [(5, (0, 0)), (4, (4, 3)), (3, (4, 2)), (2, (4, 1)), (1, (4, 0)), (0, (6, 0))]) (stN := [(0, x2), (0, x1), (4, 0)]) (hsN := jpA_267) (c1 := 0) (s1 := 0) (c2 := 1) (s2 := 6) (by exact rfl) ?_ (by omega) (by omega)
  refine jT_xaload_n (v := (6, 0)) (pcN := 701) jI_379_700 rfl rfl rfl ?_
  refine jT_xiload (v := (0, 0)) (pcN := 703) jI_379_701 rfl rfl rfl ?_
  refine jT_xiconst (k := 3) (pcN := 704) jI_379_703 rfl ?_
  refine jT_xiadd (x := 0) (y := 3) (z := 3) (pcN := 705) jI_379_704 rfl (by decide) rfl ?_
  refine jT_adv 1 (pcN := 706) (LN := [(5, (0, 0)), (4, (4, 3)), (3, (4, 2)), (2, (4, 1)), (1, (4, 0)), (0, (6, 0))]) (stN := [(0, x3), (0, x2), (0, x1), (4, 0)]) (hsN := jpA_267) (c1 := 0) (s1 := 0) (c2 := 1) (s2 := 6) (by exact rfl) ?_ (by omega) (by omega)
  refine jT_xaload_n (v := (4, 2)) (pcN := 707) jI_379_706 rfl rfl rfl ?_
  refine jT_fR [0, 2, 4, 5, 6, 7, 8, 9, 10, 11, 12, 13, 14] 30 (y := 331) (pcN := 710) (dC := 2) (bc1 := 1) (bc2 := 6) (c1 := 0) (c2 := 0) (as := [(4, 0), (0, x1), (0, x2), (0, x3), (4, 2)]) (asC := [(4, 0), (0, x1), (0, x2), (0, x3), (4, 1)]) (LN := [(5, (0, 0)), (4, (4, 3)), (3, (4, 2)), (2, (4, 1)), (1, (4, 0)), (0, (6, 0))]) (stN := []) (hsC := jpA_15) (v := (0, 1)) (st2 := [(0, 1)]) (jA_331_204 (d := 0) (by omega) (by omega) (by omega)) (by rfl) (by rfl) (by decide +kernel) (by rfl) (by rfl) (by omega) (by omega) (by omega) (by omega) rfl ?_
  refine jT_xistore (v := (0, 1)) (LN := [(6, (0, 1)), (5, (0, 0)), (4, (4, 3)), (3, (4, 2)), (2, (4, 1)), (1, (4, 0)), (0, (6, 0))]) (pcN := 712) jI_379_710 rfl rfl rfl rfl ?_
  refine jT_xaload_n (v := (4, 1)) (pcN := 713) jI_379_712 rfl rfl rfl ?_
  refine jT_xaload_n (v := (6, 0)) (pcN := 714) jI_379_713 rfl rfl rfl ?_
  refine jT_xiload (v := (0, 0)) (pcN := 716) jI_379_714 rfl rfl rfl ?_
  refine jT_xiconst (k := 1) (pcN := 717) jI_379_716 rfl ?_
  refine jT_xiadd (x := 0) (y := 1) (z := 1) (pcN := 718) jI_379_717 rfl (by decide) rfl ?_
  refine jT_adv 1 (pcN := 719) (LN := [(6, (0, 1)), (5, (0, 0)), (4, (4, 3)), (3, (4, 2)), (2, (4, 1)), (1, (4, 0)), (0, (6, 0))]) (stN := [(0, x1), (4, 1)]) (hsN := jpA_267) (c1 := 0) (s1 := 0) (c2 := 0) (s2 := 0) (by exact rfl) ?_ (by omega) (by omega)
  refine jT_xaload_n (v := (6, 0)) (pcN := 720) jI_379_719 rfl rfl rfl ?_
  refine jT_xiload (v := (0, 0)) (pcN := 722) jI_379_720 rfl rfl rfl ?_
  refine jT_xiconst (k := 2) (pcN := 723) jI_379_722 rfl ?_
  refine jT_xiadd (x := 0) (y := 2) (z := 2) (pcN := 724) jI_379_723 rfl (by decide) rfl ?_
  refine jT_adv 1 (pcN := 725) (LN := [(6, (0, 1)), (5, (0, 0)), (4, (4, 3)), (3, (4, 2)), (2, (4, 1)), (1, (4, 0)), (0, (6, 0))]) (stN := [(0, x2), (0, x1), (4, 1)]) (hsN := jpA_267) (c1 := 0) (s1 := 0) (c2 := 0) (s2 := 0) (by exact rfl) ?_ (by omega) (by omega)
  refine jT_xaload_n (v := (6, 0)) (pcN := 726) jI_379_725 rfl rfl rfl ?_
  refine jT_xiload (v := (0, 0)) (pcN := 728) jI_379_726 rfl rfl rfl ?_
  refine jT_xiconst (k := 3) (pcN := 729) jI_379_728 rfl ?_
  refine jT_xiadd (x := 0) (y := 3) (z := 3) (pcN := 730) jI_379_729 rfl (by decide) rfl ?_
  refine jT_adv 1 (pcN := 731) (LN := [(6, (0, 1)), (5, (0, 0)), (4, (4, 3)), (3, (4, 2)), (2, (4, 1)), (1, (4, 0)), (0, (6, 0))]) (stN := [(0, x3), (0, x2), (0, x1), (4, 1)]) (hsN := jpA_267) (c1 := 0) (s1 := 0) (c2 := 0) (s2 := 0) (by exact rfl) ?_ (by omega) (by omega)
  refine jT_fB [1, 15, 16, 17, 18, 19, 20, 21, 22, 23, 24, 25, 26, 27, 28, 29] 30 (y := 215) (pcN := 734) (dC := 2) (bc1 := 0) (bc2 := 0) (c1 := 0) (c2 := 0) (as := [(4, 1), (0, x1), (0, x2), (0, x3)]) (asC := [(4, 0), (0, x1), (0, x2), (0, x3)]) (LN := [(6, (0, 1)), (5, (0, 0)), (4, (4, 3)), (3, (4, 2)), (2, (4, 1)), (1, (4, 0)), (0, (6, 0))]) (stN := []) (hsC := jpA_22) (hsD := jpA_20) (v := (0, 0)) (st2 := [(0, 0)]) (hs2 := jpA_306) (jA_215_205 (d := 0) (by omega) (by omega) (by omega)) (by rfl) (by rfl) (by decide +kernel) (by rfl) (by rfl) (by omega) (by omega) (by omega) (by omega) rfl (by decide +kernel) ?_
  refine jT_xistore (v := (0, 0)) (LN := [(7, (0, 0)), (6, (0, 1)), (5, (0, 0)), (4, (4, 3)), (3, (4, 2)), (2, (4, 1)), (1, (4, 0)), (0, (6, 0))]) (pcN := 736) jI_379_734 rfl rfl rfl rfl ?_
  refine jT_xaload_n (v := (4, 1)) (pcN := 737) jI_379_736 rfl rfl rfl ?_
  refine jT_fR [1, 15, 16, 17, 18, 19, 20, 21, 22, 23, 24, 25, 26, 27, 28, 29] 30 (y := 186) (pcN := 740) (dC := 0) (bc1 := 0) (bc2 := 0) (c1 := 0) (c2 := 0) (as := [(4, 1)]) (asC := [(4, 0)]) (LN := [(7, (0, 0)), (6, (0, 1)), (5, (0, 0)), (4, (4, 3)), (3, (4, 2)), (2, (4, 1)), (1, (4, 0)), (0, (6, 0))]) (stN := []) (hsC := jpA_20) (v := (0, 1)) (st2 := [(0, 1)]) (jA_186_8 (d := 0)) (by rfl) (by rfl) (by decide +kernel) (by rfl) (by rfl) (by omega) (by omega) (by omega) (by omega) rfl ?_
  refine jT_xiload (v := (0, 1)) (pcN := 742) jI_379_740 rfl rfl rfl ?_
  refine jT_xicT (pcN := 747) jI_379_742 rfl (by decide +kernel) rfl ?_
  refine jT_xiload (v := (0, 1)) (pcN := 749) jI_379_747 rfl rfl rfl ?_
  refine jT_xifT (pcN := 764) jI_379_749 rfl (by decide +kernel) rfl ?_
  refine jT_xgoto (pcN := 3740) jI_379_764 rfl ?_
  refine jT_xiinc (x := 0) (z := 5) (LN := [(5, (0, 5)), (7, (0, 0)), (6, (0, 1)), (4, (4, 3)), (3, (4, 2)), (2, (4, 1)), (1, (4, 0)), (0, (6, 0))]) (pcN := 3743) jI_379_3740 rfl rfl (by decide) rfl rfl ?_
  refine jT_xgoto (pcN := 28) jI_379_3743 rfl ?_
  refine jT_xiload (v := (0, 5)) (pcN := 30) jI_379_28 rfl rfl rfl ?_
  refine jT_xaload_n (v := (6, 0)) (pcN := 31) jI_379_30 rfl rfl rfl ?_
  refine jT_adv 1 (pcN := 32) (LN := [(5, (0, 5)), (7, (0, 0)), (6, (0, 1)), (4, (4, 3)), (3, (4, 2)), (2, (4, 1)), (1, (4, 0)), (0, (6, 0))]) (stN := [(0, 5), (0, 5)]) (hsN := jpA_306) (c1 := 0) (s1 := 0) (c2 := 0) (s2 := 0) (by exact rfl) ?_ (by omega) (by omega)
  refine jT_xiconst (k := 5) (pcN := 33) jI_379_32 rfl ?_
  refine jT_xisub (x := 5) (y := 5) (z := 0) (pcN := 34) jI_379_33 rfl (by decide) rfl ?_
  refine jT_xicT (pcN := 3746) jI_379_34 rfl (by decide +kernel) rfl ?_
  refine jT_xiconst (k := 1) (pcN := 3747) jI_379_3746 rfl ?_
  exact jT_ret rfl (by decide) (by show 30 ≤ 30; decide) (by omega) (by omega) ⟨rfl, rfl⟩
