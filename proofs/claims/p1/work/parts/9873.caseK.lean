/-! the law, case by case: 9 -/
theorem jIK_115_0 : jmI (jm 115) 0 = (.iload_n 1, 1) := by rfl
theorem jIK_115_1 : jmI (jm 115) 1 = (.ifCond .lt 8, 3) := by rfl
theorem jK_115_1 {xs : List Int} {d : Nat} {x1 : Int} (h_x1 : (-2147483648) ≤ x1 ∧ x1 ≤ (-1)) : jT xs d 115 1 0 [(0, (4, 0)), (1, (0, x1)), (2, (0, 4))] [] [jgh] 1 6 (fun k v hsN => k = 1 ∧ v = (0, 0) ∧ hsN = [jgh] ++ []) := by
  refine jT_xiload_n (v := (0, x1)) (pcN := 1) jIK_115_0 rfl rfl rfl ?_
  refine jT_ifT (a := x1) (t := 9) (by rfl) (by rfl) (by rfl) (jw_idd (by omega) (by omega)) (by simp only [jcP] <;> omega) ?_
  exact jT_ret (c1 := 1) (s1 := 6) rfl (by decide) (by show 1 ≤ 1; omega) (by omega) (by omega) ⟨rfl, rfl, rfl⟩
theorem jIK_126_0 : jmI (jm 126) 0 = (.aload_n 0, 1) := by rfl
theorem jIK_126_1 : jmI (jm 126) 1 = (.iload_n 1, 1) := by rfl
theorem jIK_126_2 : jmI (jm 126) 2 = (.iconst 4, 1) := by rfl
def jzK_5 : JC := (13, [(4, 1), (4, 2), (4, 3), (4, 4), (4, 5), (4, 6), (4, 7), (4, 8), (4, 9), (4, 10), (0, 0), (4, 11), (0, 0)], [])
def jpK_6 : List JC := [jzK_5, jgh, jgh, jgh, jgh, jgh, jgh, jgh, jgh, jgh, jgh, jgh]
theorem jK_126_2 {xs : List Int} {d : Nat} {x1 x2 x3 x4 : Int} (h_x1 : (-2147483648) ≤ x1 ∧ x1 ≤ (-1)) (h_x2 : (-2147483648) ≤ x2 ∧ x2 ≤ 2147483647) (h_x3 : (-2147483648) ≤ x3 ∧ x3 ≤ 2147483647) (h_x4 : (-2147483648) ≤ x4 ∧ x4 ≤ 2147483647) : jT xs (d + 1) 126 12 0 [(0, (4, 0)), (1, (0, x1)), (2, (0, x2)), (3, (0, x3)), (4, (0, x4))] [] jpK_6 1 6 (fun k v hsN => k = 1 ∧ v = (0, 0) ∧ hsN = jpK_6 ++ []) := by
  refine jT_xaload_n (v := (4, 0)) (pcN := 1) jIK_126_0 rfl rfl rfl ?_
  refine jT_xiload_n (v := (0, x1)) (pcN := 2) jIK_126_1 rfl rfl rfl ?_
  refine jT_xiconst (k := 4) (pcN := 3) jIK_126_2 rfl ?_
  exact jT_fX [0] 12 (y := 115) (pcN := 6) (dC := 0) (bc1 := 1) (bc2 := 6) (as := [(4, 0), (0, x1), (0, 4)]) (asC := [(4, 0), (0, x1), (0, 4)]) (LN := [(0, (4, 0)), (1, (0, x1)), (2, (0, x2)), (3, (0, x3)), (4, (0, x4))]) (stN := []) (hsC := [jgh]) (e := 0) (jK_115_1 (d := 0) (by omega)) (by rfl) (by rfl) (by decide +kernel) (by rfl) (by rfl) (by omega) (by omega) (by omega) (by omega) ⟨rfl, ⟨rfl, rfl, rfl⟩⟩
theorem jIK_335_0 : jmI (jm 335) 0 = (.aload 5, 2) := by rfl
theorem jIK_335_2 : jmI (jm 335) 2 = (.iconst 0, 1) := by rfl
theorem jIK_335_3 : jmI (jm 335) 3 = (.aload_n 0, 1) := by rfl
theorem jIK_335_4 : jmI (jm 335) 4 = (.iload_n 1, 1) := by rfl
theorem jIK_335_5 : jmI (jm 335) 5 = (.iload_n 2, 1) := by rfl
theorem jIK_335_6 : jmI (jm 335) 6 = (.iload_n 3, 1) := by rfl
theorem jIK_335_7 : jmI (jm 335) 7 = (.iload 4, 2) := by rfl
def jzK_14 : JC := (13, [(4, 2), (4, 3), (4, 4), (4, 5), (4, 6), (4, 7), (4, 8), (4, 9), (4, 10), (4, 11), (0, 0), (4, 12), (0, 0)], [])
def jpK_15 : List JC := [jzK_14, jgh, jgh, jgh, jgh, jgh, jgh, jgh, jgh, jgh, jgh, jgh, jgh]
theorem jK_335_3 {xs : List Int} {d : Nat} {x1 x2 x3 x4 : Int} (h_x1 : (-2147483648) ≤ x1 ∧ x1 ≤ (-1)) (h_x2 : (-2147483648) ≤ x2 ∧ x2 ≤ 2147483647) (h_x3 : (-2147483648) ≤ x3 ∧ x3 ≤ 2147483647) (h_x4 : (-2147483648) ≤ x4 ∧ x4 ≤ 2147483647) : jT xs (d + 2) 335 13 0 [(0, (4, 0)), (1, (0, x1)), (2, (0, x2)), (3, (0, x3)), (4, (0, x4)), (5, (4, 1))] [] jpK_15 1 6 (fun k v hsN => k = 0 ∧ v = (0, 1) ∧ hsN = jpK_15 ++ []) := by
  refine jT_xaload (v := (4, 1)) (pcN := 2) jIK_335_0 rfl rfl rfl ?_
  refine jT_xiconst (k := 0) (pcN := 3) jIK_335_2 rfl ?_
  refine jT_xaload_n (v := (4, 0)) (pcN := 4) jIK_335_3 rfl rfl rfl ?_
  refine jT_xiload_n (v := (0, x1)) (pcN := 5) jIK_335_4 rfl rfl rfl ?_
  refine jT_xiload_n (v := (0, x2)) (pcN := 6) jIK_335_5 rfl rfl rfl ?_
  refine jT_xiload_n (v := (0, x3)) (pcN := 7) jIK_335_6 rfl rfl rfl ?_
  refine jT_xiload (v := (0, x4)) (pcN := 9) jIK_335_7 rfl rfl rfl ?_
  exact jT_fX [0, 2, 3, 4, 5, 6, 7, 8, 9, 10, 11, 12] 13 (y := 126) (pcN := 12) (dC := 1) (bc1 := 1) (bc2 := 6) (as := [(4, 0), (0, x1), (0, x2), (0, x3), (0, x4)]) (asC := [(4, 0), (0, x1), (0, x2), (0, x3), (0, x4)]) (LN := [(0, (4, 0)), (1, (0, x1)), (2, (0, x2)), (3, (0, x3)), (4, (0, x4)), (5, (4, 1))]) (stN := [(0, 0), (4, 1)]) (hsC := jpK_6) (e := 0) (jK_126_2 (d := 0) (by omega) (by omega) (by omega) (by omega)) (by rfl) (by rfl) (by decide +kernel) (by rfl) (by rfl) (by omega) (by omega) (by omega) (by omega) (show _ from ⟨rfl, rfl, rfl⟩)
theorem jIK_238_0 : jmI (jm 238) 0 = (.iload_n 0, 1) := by rfl
theorem jIK_238_1 : jmI (jm 238) 1 = (.i2l, 1) := by rfl
theorem jIK_238_2 : jmI (jm 238) 2 = (.lconst 0, 1) := by rfl
theorem jK_238_4 {xs : List Int} {d : Nat} {x1 : Int} (h_x1 : (-2147483648) ≤ x1 ∧ x1 ≤ (-1)) : jT xs (d + 1) 238 0 0 [(0, (0, x1))] [] [] 0 0 (fun k v hsN => k = 0 ∧ v = (0, 0) ∧ hsN = [] ++ []) := by
  refine jT_xiload_n (v := (0, x1)) (pcN := 1) jIK_238_0 rfl rfl rfl ?_
  refine jT_xi2l (x := x1) (z := x1) (pcN := 2) jIK_238_1 rfl (jw_idd (by omega) (by omega)) rfl ?_
  refine jT_xlconst (z := 0) (pcN := 3) jIK_238_2 rfl rfl ?_
  refine jT_adv 1 (pcN := 6) (LN := [(0, (0, x1))]) (stN := [(1, 3), (1, 0), (1, x1)]) (hsN := []) (c1 := 0) (s1 := 0) (c2 := 0) (s2 := 0) (by exact rfl) ?_ (by omega) (by omega)
  refine jT_fR [] 0 (y := 189) (pcN := 9) (dC := 0) (bc1 := 0) (bc2 := 0) (c1 := 0) (c2 := 0) (as := [(1, x1), (1, 0), (1, 3)]) (asC := [(1, x1), (1, 0), (1, 3)]) (LN := [(0, (0, x1))]) (stN := []) (hsC := []) (v := (0, 0)) (st2 := [(0, 0)]) (jT_in_lo (d := 0) (v := x1) (lo := 0) (hi := 3) (by omega) (by omega) (by omega) (by omega)) (by rfl) (by rfl) (by decide +kernel) (by rfl) (by rfl) (by omega) (by omega) (by omega) (by omega) rfl ?_
  exact jT_ret rfl (by decide) (by show 0 ≤ 0; omega) (by omega) (by omega) ⟨rfl, rfl, rfl⟩
def jzK_19 : JC := (14, [(0, 1), (4, 1), (4, 2), (4, 3), (4, 4), (0, 0), (4, 5), (0, 0), (4, 6), (4, 7), (1, 1), (4, 8), (0, 0), (4, 9), (0, 0), (0, 0), (0, 0), (0, 0), (0, 0), (0, 0), (0, 0), (4, 10), (4, 11), (4, 12), (4, 13), (4, 14), (4, 15), (0, 0)], [])
def jpK_20 : List JC := [jzK_19, jgh, jgh, jgh, jgh, jgh, jgh, jgh, jgh, jgh, jgh, jgh, jgh, jgh, jgh, jgh]
def jzK_21 : JC := (14, [(0, 0), (4, 1), (4, 2), (4, 3), (4, 4), (0, 0), (4, 5), (0, 0), (4, 6), (4, 7), (1, 1), (4, 8), (0, 0), (4, 9), (0, 0), (0, 0), (0, 0), (0, 0), (0, 0), (0, 0), (0, 0), (4, 10), (4, 11), (4, 12), (4, 13), (4, 14), (4, 15), (0, 0)], [])
def jpK_22 : List JC := [jzK_21, jgh, jgh, jgh, jgh, jgh, jgh, jgh, jgh, jgh, jgh, jgh, jgh, jgh, jgh, jgh]
theorem jK_191_5 {xs : List Int} {d : Nat} : jT xs d 191 16 0 [(0, (4, 0)), (1, (0, 0)), (2, (0, 1))] [] jpK_22 0 0 (fun k v hsN => k = 0 ∧ v = (0, 1) ∧ hsN = jpK_20) := by
  refine jT_advK 9 (pcN := 18) (LN := [(0, (4, 0)), (1, (0, 0)), (2, (0, 1))]) (stN := [(0, 1)]) (hsN := jpK_20) (c1 := 0) (s1 := 0) (c2 := 0) (s2 := 0) (by decide +kernel) ?_ (by omega) (by omega)
  exact jT_ret rfl (by decide) (by show 16 ≤ 16; omega) (by omega) (by omega) ⟨rfl, rfl, rfl⟩
theorem jK_190_6 {xs : List Int} {d : Nat} : jT xs (d + 1) 190 16 0 [(0, (4, 0)), (1, (0, 0))] [] jpK_22 0 0 (fun k v hsN => k = 0 ∧ v = (0, 1) ∧ hsN = jpK_20) := by
  refine jT_advK 6 (pcN := 8) (LN := [(0, (4, 0)), (1, (0, 0))]) (stN := [(0, 1), (0, 0), (4, 0)]) (hsN := jpK_22) (c1 := 0) (s1 := 0) (c2 := 0) (s2 := 0) (by decide +kernel) ?_ (by omega) (by omega)
  refine jT_fB [0, 1, 2, 3, 4, 5, 6, 7, 8, 9, 10, 11, 12, 13, 14, 15] 16 (y := 191) (pcN := 11) (dC := 0) (bc1 := 0) (bc2 := 0) (c1 := 0) (c2 := 0) (as := [(4, 0), (0, 0), (0, 1)]) (asC := [(4, 0), (0, 0), (0, 1)]) (LN := [(0, (4, 0)), (1, (0, 0))]) (stN := []) (hsC := jpK_22) (hsD := jpK_20) (v := (0, 1)) (st2 := [(0, 1)]) (hs2 := jpK_20) (jK_191_5 (d := 0)) (by rfl) (by rfl) (by decide +kernel) (by rfl) (by rfl) (by omega) (by omega) (by omega) (by omega) rfl (by decide +kernel) ?_
  exact jT_ret rfl (by decide) (by show 16 ≤ 16; omega) (by omega) (by omega) ⟨rfl, rfl, rfl⟩
theorem jIK_237_0 : jmI (jm 237) 0 = (.aload_n 0, 1) := by rfl
theorem jIK_237_1 : jmI (jm 237) 1 = (.iload_n 1, 1) := by rfl
theorem jIK_237_5 : jmI (jm 237) 5 = (.ifCond .eq 14, 3) := by rfl
theorem jIK_237_19 : jmI (jm 237) 19 = (.iconst 0, 1) := by rfl
theorem jIK_237_23 : jmI (jm 237) 23 = (.ifCond .ne 43, 3) := by rfl
theorem jIK_237_66 : jmI (jm 237) 66 = (.iconst 0, 1) := by rfl
theorem jK_237_7 {xs : List Int} {d : Nat} {x1 x2 x3 x4 : Int} (h_x1 : (-2147483648) ≤ x1 ∧ x1 ≤ (-1)) (h_x2 : (-2147483648) ≤ x2 ∧ x2 ≤ 2147483647) (h_x3 : (-2147483648) ≤ x3 ∧ x3 ≤ 2147483647) (h_x4 : (-2147483648) ≤ x4 ∧ x4 ≤ 2147483647) : jT xs (d + 2) 237 16 0 [(0, (4, 0)), (1, (0, x1)), (2, (0, x2)), (3, (0, x3)), (4, (0, x4))] [] jpK_22 0 0 (fun k v hsN => k = 0 ∧ v = (0, 0) ∧ hsN = jpK_20) := by
  refine jT_xaload_n (v := (4, 0)) (pcN := 1) jIK_237_0 rfl rfl rfl ?_
  refine jT_xiload_n (v := (0, x1)) (pcN := 2) jIK_237_1 rfl rfl rfl ?_
  refine jT_fR [] 16 (y := 238) (pcN := 5) (dC := 1) (bc1 := 0) (bc2 := 0) (c1 := 0) (c2 := 0) (as := [(0, x1)]) (asC := [(0, x1)]) (LN := [(0, (4, 0)), (1, (0, x1)), (2, (0, x2)), (3, (0, x3)), (4, (0, x4))]) (stN := [(4, 0)]) (hsC := []) (v := (0, 0)) (st2 := [(0, 0), (4, 0)]) (jK_238_4 (d := 0) (by omega)) (by rfl) (by rfl) (by decide +kernel) (by rfl) (by rfl) (by omega) (by omega) (by omega) (by omega) rfl ?_
  refine jT_xifT (pcN := 19) jIK_237_5 rfl (by decide +kernel) rfl ?_
  refine jT_xiconst (k := 0) (pcN := 20) jIK_237_19 rfl ?_
  refine jT_fB [0, 1, 2, 3, 4, 5, 6, 7, 8, 9, 10, 11, 12, 13, 14, 15] 16 (y := 190) (pcN := 23) (dC := 1) (bc1 := 0) (bc2 := 0) (c1 := 0) (c2 := 0) (as := [(4, 0), (0, 0)]) (asC := [(4, 0), (0, 0)]) (LN := [(0, (4, 0)), (1, (0, x1)), (2, (0, x2)), (3, (0, x3)), (4, (0, x4))]) (stN := []) (hsC := jpK_22) (hsD := jpK_20) (v := (0, 1)) (st2 := [(0, 1)]) (hs2 := jpK_20) (jK_190_6 (d := 0)) (by rfl) (by rfl) (by decide +kernel) (by rfl) (by rfl) (by omega) (by omega) (by omega) (by omega) rfl (by decide +kernel) ?_
  refine jT_xifT (pcN := 66) jIK_237_23 rfl (by decide +kernel) rfl ?_
  refine jT_xiconst (k := 0) (pcN := 67) jIK_237_66 rfl ?_
  exact jT_ret rfl (by decide) (by show 16 ≤ 16; omega) (by omega) (by omega) ⟨rfl, rfl, rfl⟩
theorem jK_186_8 {xs : List Int} {d : Nat} : jT xs d 186 16 0 [(0, (4, 0))] [] jpK_20 0 0 (fun k v hsN => k = 0 ∧ v = (0, 1) ∧ hsN = jpK_20 ++ []) := by
  refine jT_advK 2 (pcN := 4) (LN := [(0, (4, 0))]) (stN := [(0, 1)]) (hsN := jpK_20) (c1 := 0) (s1 := 0) (c2 := 0) (s2 := 0) (by decide +kernel) ?_ (by omega) (by omega)
  exact jT_ret rfl (by decide) (by show 16 ≤ 16; omega) (by omega) (by omega) ⟨rfl, rfl, rfl⟩
theorem jIK_115_4 : jmI (jm 115) 4 = (.iload_n 1, 1) := by rfl
theorem jIK_115_5 : jmI (jm 115) 5 = (.iload_n 2, 1) := by rfl
theorem jIK_115_6 : jmI (jm 115) 6 = (.if_icmp .lt 14, 3) := by rfl
theorem jK_115_9 {xs : List Int} {d : Nat} {x1 : Int} (h_x1 : 0 ≤ x1 ∧ x1 ≤ 3) : jT xs d 115 1 0 [(0, (4, 0)), (1, (0, x1)), (2, (0, 4))] [] [jgh] 0 0 (fun k v hsN => k = 0 ∧ v = (9, 0) ∧ hsN = [jgh] ++ []) := by
  refine jT_xiload_n (v := (0, x1)) (pcN := 1) jIK_115_0 rfl rfl rfl ?_
  refine jT_ifF (a := x1) (t := 9) (by rfl) (by rfl) (by rfl) (jw_idd (by omega) (by omega)) (by simp only [jcP] <;> omega) ?_
  refine jT_xiload_n (v := (0, x1)) (pcN := 5) jIK_115_4 rfl rfl rfl ?_
  refine jT_xiload_n (v := (0, 4)) (pcN := 6) jIK_115_5 rfl rfl rfl ?_
  refine jT_icT (a := x1) (b := 4) (t := 20) (by rfl) (by rfl) (by rfl) (jw_idd (by omega) (by omega)) (jw_idd (by omega) (by omega)) (by simp only [jcP] <;> omega) ?_
  exact jT_ret rfl (by decide) (by show 1 ≤ 1; omega) (by omega) (by omega) ⟨rfl, rfl, rfl⟩
theorem jK_115_10 {xs : List Int} {d : Nat} {x2 : Int} (h_x2 : (-2147483648) ≤ x2 ∧ x2 ≤ (-1)) : jT xs d 115 1 0 [(0, (4, 0)), (1, (0, x2)), (2, (0, 8))] [] [jgh] 1 6 (fun k v hsN => k = 1 ∧ v = (0, 0) ∧ hsN = [jgh] ++ []) := by
  refine jT_xiload_n (v := (0, x2)) (pcN := 1) jIK_115_0 rfl rfl rfl ?_
  refine jT_ifT (a := x2) (t := 9) (by rfl) (by rfl) (by rfl) (jw_idd (by omega) (by omega)) (by simp only [jcP] <;> omega) ?_
  exact jT_ret (c1 := 1) (s1 := 6) rfl (by decide) (by show 1 ≤ 1; omega) (by omega) (by omega) ⟨rfl, rfl, rfl⟩
theorem jIK_126_6 : jmI (jm 126) 6 = (.aload_n 0, 1) := by rfl
theorem jIK_126_7 : jmI (jm 126) 7 = (.iload_n 2, 1) := by rfl
theorem jIK_126_8 : jmI (jm 126) 8 = (.bipush 8, 2) := by rfl
theorem jK_126_11 {xs : List Int} {d : Nat} {x1 x2 x3 x4 : Int} (h_x1 : 0 ≤ x1 ∧ x1 ≤ 3) (h_x2 : (-2147483648) ≤ x2 ∧ x2 ≤ (-1)) (h_x3 : (-2147483648) ≤ x3 ∧ x3 ≤ 2147483647) (h_x4 : (-2147483648) ≤ x4 ∧ x4 ≤ 2147483647) : jT xs (d + 1) 126 12 0 [(0, (4, 0)), (1, (0, x1)), (2, (0, x2)), (3, (0, x3)), (4, (0, x4))] [] jpK_6 1 6 (fun k v hsN => k = 1 ∧ v = (0, 0) ∧ hsN = jpK_6 ++ []) := by
  refine jT_xaload_n (v := (4, 0)) (pcN := 1) jIK_126_0 rfl rfl rfl ?_
  refine jT_xiload_n (v := (0, x1)) (pcN := 2) jIK_126_1 rfl rfl rfl ?_
  refine jT_xiconst (k := 4) (pcN := 3) jIK_126_2 rfl ?_
  refine jT_fR [0] 12 (y := 115) (pcN := 6) (dC := 0) (bc1 := 0) (bc2 := 0) (c1 := 1) (c2 := 6) (as := [(4, 0), (0, x1), (0, 4)]) (asC := [(4, 0), (0, x1), (0, 4)]) (LN := [(0, (4, 0)), (1, (0, x1)), (2, (0, x2)), (3, (0, x3)), (4, (0, x4))]) (stN := []) (hsC := [jgh]) (v := (9, 0)) (st2 := []) (jK_115_9 (d := 0) (by omega)) (by rfl) (by rfl) (by decide +kernel) (by rfl) (by rfl) (by omega) (by omega) (by omega) (by omega) rfl ?_
  refine jT_xaload_n (v := (4, 0)) (pcN := 7) jIK_126_6 rfl rfl rfl ?_
  refine jT_xiload_n (v := (0, x2)) (pcN := 8) jIK_126_7 rfl rfl rfl ?_
  refine jT_xbipush (k := 8) (pcN := 10) jIK_126_8 (by decide) rfl ?_
  exact jT_fX [0] 12 (y := 115) (pcN := 13) (dC := 0) (bc1 := 1) (bc2 := 6) (as := [(4, 0), (0, x2), (0, 8)]) (asC := [(4, 0), (0, x2), (0, 8)]) (LN := [(0, (4, 0)), (1, (0, x1)), (2, (0, x2)), (3, (0, x3)), (4, (0, x4))]) (stN := []) (hsC := [jgh]) (e := 0) (jK_115_10 (d := 0) (by omega)) (by rfl) (by rfl) (by decide +kernel) (by rfl) (by rfl) (by omega) (by omega) (by omega) (by omega) ⟨rfl, ⟨rfl, rfl, rfl⟩⟩
theorem jK_335_12 {xs : List Int} {d : Nat} {x1 x2 x3 x4 : Int} (h_x1 : 0 ≤ x1 ∧ x1 ≤ 3) (h_x2 : (-2147483648) ≤ x2 ∧ x2 ≤ (-1)) (h_x3 : (-2147483648) ≤ x3 ∧ x3 ≤ 2147483647) (h_x4 : (-2147483648) ≤ x4 ∧ x4 ≤ 2147483647) : jT xs (d + 2) 335 13 0 [(0, (4, 0)), (1, (0, x1)), (2, (0, x2)), (3, (0, x3)), (4, (0, x4)), (5, (4, 1))] [] jpK_15 1 6 (fun k v hsN => k = 0 ∧ v = (0, 1) ∧ hsN = jpK_15 ++ []) := by
  refine jT_xaload (v := (4, 1)) (pcN := 2) jIK_335_0 rfl rfl rfl ?_
  refine jT_xiconst (k := 0) (pcN := 3) jIK_335_2 rfl ?_
  refine jT_xaload_n (v := (4, 0)) (pcN := 4) jIK_335_3 rfl rfl rfl ?_
  refine jT_xiload_n (v := (0, x1)) (pcN := 5) jIK_335_4 rfl rfl rfl ?_
  refine jT_xiload_n (v := (0, x2)) (pcN := 6) jIK_335_5 rfl rfl rfl ?_
  refine jT_xiload_n (v := (0, x3)) (pcN := 7) jIK_335_6 rfl rfl rfl ?_
  refine jT_xiload (v := (0, x4)) (pcN := 9) jIK_335_7 rfl rfl rfl ?_
  exact jT_fX [0, 2, 3, 4, 5, 6, 7, 8, 9, 10, 11, 12] 13 (y := 126) (pcN := 12) (dC := 1) (bc1 := 1) (bc2 := 6) (as := [(4, 0), (0, x1), (0, x2), (0, x3), (0, x4)]) (asC := [(4, 0), (0, x1), (0, x2), (0, x3), (0, x4)]) (LN := [(0, (4, 0)), (1, (0, x1)), (2, (0, x2)), (3, (0, x3)), (4, (0, x4)), (5, (4, 1))]) (stN := [(0, 0), (4, 1)]) (hsC := jpK_6) (e := 0) (jK_126_11 (d := 0) (by omega) (by omega) (by omega) (by omega)) (by rfl) (by rfl) (by decide +kernel) (by rfl) (by rfl) (by omega) (by omega) (by omega) (by omega) (show _ from ⟨rfl, rfl, rfl⟩)
theorem jK_238_13 {xs : List Int} {d : Nat} {x1 : Int} (h_x1 : 0 ≤ x1 ∧ x1 ≤ 3) : jT xs (d + 1) 238 0 0 [(0, (0, x1))] [] [] 0 0 (fun k v hsN => k = 0 ∧ v = (0, 1) ∧ hsN = [] ++ []) := by
  refine jT_xiload_n (v := (0, x1)) (pcN := 1) jIK_238_0 rfl rfl rfl ?_
  refine jT_xi2l (x := x1) (z := x1) (pcN := 2) jIK_238_1 rfl (jw_idd (by omega) (by omega)) rfl ?_
  refine jT_xlconst (z := 0) (pcN := 3) jIK_238_2 rfl rfl ?_
  refine jT_adv 1 (pcN := 6) (LN := [(0, (0, x1))]) (stN := [(1, 3), (1, 0), (1, x1)]) (hsN := []) (c1 := 0) (s1 := 0) (c2 := 0) (s2 := 0) (by exact rfl) ?_ (by omega) (by omega)
  refine jT_fR [] 0 (y := 189) (pcN := 9) (dC := 0) (bc1 := 0) (bc2 := 0) (c1 := 0) (c2 := 0) (as := [(1, x1), (1, 0), (1, 3)]) (asC := [(1, x1), (1, 0), (1, 3)]) (LN := [(0, (0, x1))]) (stN := []) (hsC := []) (v := (0, 1)) (st2 := [(0, 1)]) (jT_in_ok (d := 0) (v := x1) (lo := 0) (hi := 3) (by omega) (by omega) (by omega) (by omega) (by omega)) (by rfl) (by rfl) (by decide +kernel) (by rfl) (by rfl) (by omega) (by omega) (by omega) (by omega) rfl ?_
  exact jT_ret rfl (by decide) (by show 0 ≤ 0; omega) (by omega) (by omega) ⟨rfl, rfl, rfl⟩
theorem jIK_188_0 : jmI (jm 188) 0 = (.iload_n 0, 1) := by rfl
theorem jIK_188_1 : jmI (jm 188) 1 = (.i2l, 1) := by rfl
theorem jIK_188_2 : jmI (jm 188) 2 = (.lconst 0, 1) := by rfl
theorem jK_188_14 {xs : List Int} {d : Nat} {x2 : Int} (h_x2 : (-2147483648) ≤ x2 ∧ x2 ≤ (-1)) : jT xs (d + 1) 188 0 0 [(0, (0, x2))] [] [] 0 0 (fun k v hsN => k = 0 ∧ v = (0, 0) ∧ hsN = [] ++ []) := by
  refine jT_xiload_n (v := (0, x2)) (pcN := 1) jIK_188_0 rfl rfl rfl ?_
  refine jT_xi2l (x := x2) (z := x2) (pcN := 2) jIK_188_1 rfl (jw_idd (by omega) (by omega)) rfl ?_
  refine jT_xlconst (z := 0) (pcN := 3) jIK_188_2 rfl rfl ?_
  refine jT_adv 1 (pcN := 6) (LN := [(0, (0, x2))]) (stN := [(1, 7), (1, 0), (1, x2)]) (hsN := []) (c1 := 0) (s1 := 0) (c2 := 0) (s2 := 0) (by exact rfl) ?_ (by omega) (by omega)
  refine jT_fR [] 0 (y := 189) (pcN := 9) (dC := 0) (bc1 := 0) (bc2 := 0) (c1 := 0) (c2 := 0) (as := [(1, x2), (1, 0), (1, 7)]) (asC := [(1, x2), (1, 0), (1, 7)]) (LN := [(0, (0, x2))]) (stN := []) (hsC := []) (v := (0, 0)) (st2 := [(0, 0)]) (jT_in_lo (d := 0) (v := x2) (lo := 0) (hi := 7) (by omega) (by omega) (by omega) (by omega)) (by rfl) (by rfl) (by decide +kernel) (by rfl) (by rfl) (by omega) (by omega) (by omega) (by omega) rfl ?_
  exact jT_ret rfl (by decide) (by show 0 ≤ 0; omega) (by omega) (by omega) ⟨rfl, rfl, rfl⟩
theorem jIK_237_8 : jmI (jm 237) 8 = (.iload_n 2, 1) := by rfl
theorem jIK_237_12 : jmI (jm 237) 12 = (.ifCond .eq 7, 3) := by rfl
theorem jK_237_15 {xs : List Int} {d : Nat} {x1 x2 x3 x4 : Int} (h_x1 : 0 ≤ x1 ∧ x1 ≤ 3) (h_x2 : (-2147483648) ≤ x2 ∧ x2 ≤ (-1)) (h_x3 : (-2147483648) ≤ x3 ∧ x3 ≤ 2147483647) (h_x4 : (-2147483648) ≤ x4 ∧ x4 ≤ 2147483647) : jT xs (d + 2) 237 16 0 [(0, (4, 0)), (1, (0, x1)), (2, (0, x2)), (3, (0, x3)), (4, (0, x4))] [] jpK_22 0 0 (fun k v hsN => k = 0 ∧ v = (0, 0) ∧ hsN = jpK_20) := by
  refine jT_xaload_n (v := (4, 0)) (pcN := 1) jIK_237_0 rfl rfl rfl ?_
  refine jT_xiload_n (v := (0, x1)) (pcN := 2) jIK_237_1 rfl rfl rfl ?_
  refine jT_fR [] 16 (y := 238) (pcN := 5) (dC := 1) (bc1 := 0) (bc2 := 0) (c1 := 0) (c2 := 0) (as := [(0, x1)]) (asC := [(0, x1)]) (LN := [(0, (4, 0)), (1, (0, x1)), (2, (0, x2)), (3, (0, x3)), (4, (0, x4))]) (stN := [(4, 0)]) (hsC := []) (v := (0, 1)) (st2 := [(0, 1), (4, 0)]) (jK_238_13 (d := 0) (by omega)) (by rfl) (by rfl) (by decide +kernel) (by rfl) (by rfl) (by omega) (by omega) (by omega) (by omega) rfl ?_
  refine jT_xifF (t := 19) (pcN := 8) jIK_237_5 rfl (by decide +kernel) rfl rfl ?_
  refine jT_xiload_n (v := (0, x2)) (pcN := 9) jIK_237_8 rfl rfl rfl ?_
  refine jT_fR [] 16 (y := 188) (pcN := 12) (dC := 1) (bc1 := 0) (bc2 := 0) (c1 := 0) (c2 := 0) (as := [(0, x2)]) (asC := [(0, x2)]) (LN := [(0, (4, 0)), (1, (0, x1)), (2, (0, x2)), (3, (0, x3)), (4, (0, x4))]) (stN := [(4, 0)]) (hsC := []) (v := (0, 0)) (st2 := [(0, 0), (4, 0)]) (jK_188_14 (d := 0) (by omega)) (by rfl) (by rfl) (by decide +kernel) (by rfl) (by rfl) (by omega) (by omega) (by omega) (by omega) rfl ?_
  refine jT_xifT (pcN := 19) jIK_237_12 rfl (by decide +kernel) rfl ?_
  refine jT_xiconst (k := 0) (pcN := 20) jIK_237_19 rfl ?_
  refine jT_fB [0, 1, 2, 3, 4, 5, 6, 7, 8, 9, 10, 11, 12, 13, 14, 15] 16 (y := 190) (pcN := 23) (dC := 1) (bc1 := 0) (bc2 := 0) (c1 := 0) (c2 := 0) (as := [(4, 0), (0, 0)]) (asC := [(4, 0), (0, 0)]) (LN := [(0, (4, 0)), (1, (0, x1)), (2, (0, x2)), (3, (0, x3)), (4, (0, x4))]) (stN := []) (hsC := jpK_22) (hsD := jpK_20) (v := (0, 1)) (st2 := [(0, 1)]) (hs2 := jpK_20) (jK_190_6 (d := 0)) (by rfl) (by rfl) (by decide +kernel) (by rfl) (by rfl) (by omega) (by omega) (by omega) (by omega) rfl (by decide +kernel) ?_
  refine jT_xifT (pcN := 66) jIK_237_23 rfl (by decide +kernel) rfl ?_
  refine jT_xiconst (k := 0) (pcN := 67) jIK_237_66 rfl ?_
  exact jT_ret rfl (by decide) (by show 16 ≤ 16; omega) (by omega) (by omega) ⟨rfl, rfl, rfl⟩
theorem jK_115_16 {xs : List Int} {d : Nat} {x2 : Int} (h_x2 : 0 ≤ x2 ∧ x2 ≤ 7) : jT xs d 115 1 0 [(0, (4, 0)), (1, (0, x2)), (2, (0, 8))] [] [jgh] 0 0 (fun k v hsN => k = 0 ∧ v = (9, 0) ∧ hsN = [jgh] ++ []) := by
  refine jT_xiload_n (v := (0, x2)) (pcN := 1) jIK_115_0 rfl rfl rfl ?_
  refine jT_ifF (a := x2) (t := 9) (by rfl) (by rfl) (by rfl) (jw_idd (by omega) (by omega)) (by simp only [jcP] <;> omega) ?_
  refine jT_xiload_n (v := (0, x2)) (pcN := 5) jIK_115_4 rfl rfl rfl ?_
  refine jT_xiload_n (v := (0, 8)) (pcN := 6) jIK_115_5 rfl rfl rfl ?_
  refine jT_icT (a := x2) (b := 8) (t := 20) (by rfl) (by rfl) (by rfl) (jw_idd (by omega) (by omega)) (jw_idd (by omega) (by omega)) (by simp only [jcP] <;> omega) ?_
  exact jT_ret rfl (by decide) (by show 1 ≤ 1; omega) (by omega) (by omega) ⟨rfl, rfl, rfl⟩
theorem jIK_116_0 : jmI (jm 116) 0 = (.iload_n 1, 1) := by rfl
theorem jIK_116_1 : jmI (jm 116) 1 = (.iload_n 2, 1) := by rfl
theorem jIK_116_2 : jmI (jm 116) 2 = (.if_icmp .lt 8, 3) := by rfl
theorem jK_116_17 {xs : List Int} {d : Nat} {x3 : Int} (h_x3 : (-2147483648) ≤ x3 ∧ x3 ≤ (-51)) : jT xs d 116 1 0 [(0, (4, 0)), (1, (0, x3)), (2, (0, (-50))), (3, (0, 50))] [] [jgh] 1 6 (fun k v hsN => k = 1 ∧ v = (0, 1) ∧ hsN = [jgh] ++ []) := by
  refine jT_xiload_n (v := (0, x3)) (pcN := 1) jIK_116_0 rfl rfl rfl ?_
  refine jT_xiload_n (v := (0, (-50))) (pcN := 2) jIK_116_1 rfl rfl rfl ?_
  refine jT_icT (a := x3) (b := (-50)) (t := 10) (by rfl) (by rfl) (by rfl) (jw_idd (by omega) (by omega)) (jw_idd (by omega) (by omega)) (by simp only [jcP] <;> omega) ?_
  exact jT_ret (c1 := 1) (s1 := 6) rfl (by decide) (by show 1 ≤ 1; omega) (by omega) (by omega) ⟨rfl, rfl, rfl⟩
theorem jIK_126_13 : jmI (jm 126) 13 = (.aload_n 0, 1) := by rfl
theorem jIK_126_14 : jmI (jm 126) 14 = (.iload_n 3, 1) := by rfl
theorem jIK_126_15 : jmI (jm 126) 15 = (.bipush (-50), 2) := by rfl
theorem jIK_126_17 : jmI (jm 126) 17 = (.bipush 50, 2) := by rfl
theorem jK_126_18 {xs : List Int} {d : Nat} {x1 x2 x3 x4 : Int} (h_x1 : 0 ≤ x1 ∧ x1 ≤ 3) (h_x2 : 0 ≤ x2 ∧ x2 ≤ 7) (h_x3 : (-2147483648) ≤ x3 ∧ x3 ≤ (-51)) (h_x4 : (-2147483648) ≤ x4 ∧ x4 ≤ 2147483647) : jT xs (d + 1) 126 12 0 [(0, (4, 0)), (1, (0, x1)), (2, (0, x2)), (3, (0, x3)), (4, (0, x4))] [] jpK_6 1 6 (fun k v hsN => k = 1 ∧ v = (0, 1) ∧ hsN = jpK_6 ++ []) := by
  refine jT_xaload_n (v := (4, 0)) (pcN := 1) jIK_126_0 rfl rfl rfl ?_
  refine jT_xiload_n (v := (0, x1)) (pcN := 2) jIK_126_1 rfl rfl rfl ?_
  refine jT_xiconst (k := 4) (pcN := 3) jIK_126_2 rfl ?_
  refine jT_fR [0] 12 (y := 115) (pcN := 6) (dC := 0) (bc1 := 0) (bc2 := 0) (c1 := 1) (c2 := 6) (as := [(4, 0), (0, x1), (0, 4)]) (asC := [(4, 0), (0, x1), (0, 4)]) (LN := [(0, (4, 0)), (1, (0, x1)), (2, (0, x2)), (3, (0, x3)), (4, (0, x4))]) (stN := []) (hsC := [jgh]) (v := (9, 0)) (st2 := []) (jK_115_9 (d := 0) (by omega)) (by rfl) (by rfl) (by decide +kernel) (by rfl) (by rfl) (by omega) (by omega) (by omega) (by omega) rfl ?_
  refine jT_xaload_n (v := (4, 0)) (pcN := 7) jIK_126_6 rfl rfl rfl ?_
  refine jT_xiload_n (v := (0, x2)) (pcN := 8) jIK_126_7 rfl rfl rfl ?_
  refine jT_xbipush (k := 8) (pcN := 10) jIK_126_8 (by decide) rfl ?_
  refine jT_fR [0] 12 (y := 115) (pcN := 13) (dC := 0) (bc1 := 0) (bc2 := 0) (c1 := 1) (c2 := 6) (as := [(4, 0), (0, x2), (0, 8)]) (asC := [(4, 0), (0, x2), (0, 8)]) (LN := [(0, (4, 0)), (1, (0, x1)), (2, (0, x2)), (3, (0, x3)), (4, (0, x4))]) (stN := []) (hsC := [jgh]) (v := (9, 0)) (st2 := []) (jK_115_16 (d := 0) (by omega)) (by rfl) (by rfl) (by decide +kernel) (by rfl) (by rfl) (by omega) (by omega) (by omega) (by omega) rfl ?_
  refine jT_xaload_n (v := (4, 0)) (pcN := 14) jIK_126_13 rfl rfl rfl ?_
  refine jT_xiload_n (v := (0, x3)) (pcN := 15) jIK_126_14 rfl rfl rfl ?_
  refine jT_xbipush (k := (-50)) (pcN := 17) jIK_126_15 (by decide) rfl ?_
  refine jT_xbipush (k := 50) (pcN := 19) jIK_126_17 (by decide) rfl ?_
  exact jT_fX [0] 12 (y := 116) (pcN := 22) (dC := 0) (bc1 := 1) (bc2 := 6) (as := [(4, 0), (0, x3), (0, (-50)), (0, 50)]) (asC := [(4, 0), (0, x3), (0, (-50)), (0, 50)]) (LN := [(0, (4, 0)), (1, (0, x1)), (2, (0, x2)), (3, (0, x3)), (4, (0, x4))]) (stN := []) (hsC := [jgh]) (e := 1) (jK_116_17 (d := 0) (by omega)) (by rfl) (by rfl) (by decide +kernel) (by rfl) (by rfl) (by omega) (by omega) (by omega) (by omega) ⟨rfl, ⟨rfl, rfl, rfl⟩⟩
theorem jK_335_19 {xs : List Int} {d : Nat} {x1 x2 x3 x4 : Int} (h_x1 : 0 ≤ x1 ∧ x1 ≤ 3) (h_x2 : 0 ≤ x2 ∧ x2 ≤ 7) (h_x3 : (-2147483648) ≤ x3 ∧ x3 ≤ (-51)) (h_x4 : (-2147483648) ≤ x4 ∧ x4 ≤ 2147483647) : jT xs (d + 2) 335 13 0 [(0, (4, 0)), (1, (0, x1)), (2, (0, x2)), (3, (0, x3)), (4, (0, x4)), (5, (4, 1))] [] jpK_15 1 6 (fun k v hsN => k = 0 ∧ v = (0, 2) ∧ hsN = jpK_15 ++ []) := by
  refine jT_xaload (v := (4, 1)) (pcN := 2) jIK_335_0 rfl rfl rfl ?_
  refine jT_xiconst (k := 0) (pcN := 3) jIK_335_2 rfl ?_
  refine jT_xaload_n (v := (4, 0)) (pcN := 4) jIK_335_3 rfl rfl rfl ?_
  refine jT_xiload_n (v := (0, x1)) (pcN := 5) jIK_335_4 rfl rfl rfl ?_
  refine jT_xiload_n (v := (0, x2)) (pcN := 6) jIK_335_5 rfl rfl rfl ?_
  refine jT_xiload_n (v := (0, x3)) (pcN := 7) jIK_335_6 rfl rfl rfl ?_
  refine jT_xiload (v := (0, x4)) (pcN := 9) jIK_335_7 rfl rfl rfl ?_
  exact jT_fX [0, 2, 3, 4, 5, 6, 7, 8, 9, 10, 11, 12] 13 (y := 126) (pcN := 12) (dC := 1) (bc1 := 1) (bc2 := 6) (as := [(4, 0), (0, x1), (0, x2), (0, x3), (0, x4)]) (asC := [(4, 0), (0, x1), (0, x2), (0, x3), (0, x4)]) (LN := [(0, (4, 0)), (1, (0, x1)), (2, (0, x2)), (3, (0, x3)), (4, (0, x4)), (5, (4, 1))]) (stN := [(0, 0), (4, 1)]) (hsC := jpK_6) (e := 1) (jK_126_18 (d := 0) (by omega) (by omega) (by omega) (by omega)) (by rfl) (by rfl) (by decide +kernel) (by rfl) (by rfl) (by omega) (by omega) (by omega) (by omega) (show _ from ⟨rfl, rfl, rfl⟩)
theorem jK_188_20 {xs : List Int} {d : Nat} {x2 : Int} (h_x2 : 0 ≤ x2 ∧ x2 ≤ 7) : jT xs (d + 1) 188 0 0 [(0, (0, x2))] [] [] 0 0 (fun k v hsN => k = 0 ∧ v = (0, 1) ∧ hsN = [] ++ []) := by
  refine jT_xiload_n (v := (0, x2)) (pcN := 1) jIK_188_0 rfl rfl rfl ?_
  refine jT_xi2l (x := x2) (z := x2) (pcN := 2) jIK_188_1 rfl (jw_idd (by omega) (by omega)) rfl ?_
  refine jT_xlconst (z := 0) (pcN := 3) jIK_188_2 rfl rfl ?_
  refine jT_adv 1 (pcN := 6) (LN := [(0, (0, x2))]) (stN := [(1, 7), (1, 0), (1, x2)]) (hsN := []) (c1 := 0) (s1 := 0) (c2 := 0) (s2 := 0) (by exact rfl) ?_ (by omega) (by omega)
  refine jT_fR [] 0 (y := 189) (pcN := 9) (dC := 0) (bc1 := 0) (bc2 := 0) (c1 := 0) (c2 := 0) (as := [(1, x2), (1, 0), (1, 7)]) (asC := [(1, x2), (1, 0), (1, 7)]) (LN := [(0, (0, x2))]) (stN := []) (hsC := []) (v := (0, 1)) (st2 := [(0, 1)]) (jT_in_ok (d := 0) (v := x2) (lo := 0) (hi := 7) (by omega) (by omega) (by omega) (by omega) (by omega)) (by rfl) (by rfl) (by decide +kernel) (by rfl) (by rfl) (by omega) (by omega) (by omega) (by omega) rfl ?_
  exact jT_ret rfl (by decide) (by show 0 ≤ 0; omega) (by omega) (by omega) ⟨rfl, rfl, rfl⟩
theorem jK_191_21 {xs : List Int} {d : Nat} : jT xs d 191 1 0 [(0, (4, 0)), (1, (0, 1)), (2, (0, 1))] [] [jgh] 0 0 (fun k v hsN => k = 0 ∧ v = (0, 0) ∧ hsN = [jgh] ++ []) := by
  refine jT_advK 5 (pcN := 18) (LN := [(0, (4, 0)), (1, (0, 1)), (2, (0, 1))]) (stN := [(0, 0)]) (hsN := [jgh]) (c1 := 0) (s1 := 0) (c2 := 0) (s2 := 0) (by decide +kernel) ?_ (by omega) (by omega)
  exact jT_ret rfl (by decide) (by show 1 ≤ 1; omega) (by omega) (by omega) ⟨rfl, rfl, rfl⟩
theorem jK_190_22 {xs : List Int} {d : Nat} : jT xs (d + 1) 190 16 0 [(0, (4, 0)), (1, (0, 1))] [] jpK_22 0 0 (fun k v hsN => k = 0 ∧ v = (0, 0) ∧ hsN = jpK_22 ++ []) := by
  refine jT_advK 6 (pcN := 8) (LN := [(0, (4, 0)), (1, (0, 1))]) (stN := [(0, 1), (0, 1), (4, 0)]) (hsN := jpK_22) (c1 := 0) (s1 := 0) (c2 := 0) (s2 := 0) (by decide +kernel) ?_ (by omega) (by omega)
  refine jT_fR [0] 16 (y := 191) (pcN := 11) (dC := 0) (bc1 := 0) (bc2 := 0) (c1 := 0) (c2 := 0) (as := [(4, 0), (0, 1), (0, 1)]) (asC := [(4, 0), (0, 1), (0, 1)]) (LN := [(0, (4, 0)), (1, (0, 1))]) (stN := []) (hsC := [jgh]) (v := (0, 0)) (st2 := [(0, 0)]) (jK_191_21 (d := 0)) (by rfl) (by rfl) (by decide +kernel) (by rfl) (by rfl) (by omega) (by omega) (by omega) (by omega) rfl ?_
  exact jT_ret rfl (by decide) (by show 16 ≤ 16; omega) (by omega) (by omega) ⟨rfl, rfl, rfl⟩
def jzK_47 : JC := (14, [(0, 2), (4, 1), (4, 2), (4, 3), (4, 4), (0, 0), (4, 5), (0, 0), (4, 6), (4, 7), (1, 1), (4, 8), (0, 0), (4, 9), (0, 0), (0, 0), (0, 0), (0, 0), (0, 0), (0, 0), (0, 0), (4, 10), (4, 11), (4, 12), (4, 13), (4, 14), (4, 15), (0, 0)], [])
def jpK_48 : List JC := [jzK_47, jgh, jgh, jgh, jgh, jgh, jgh, jgh, jgh, jgh, jgh, jgh, jgh, jgh, jgh, jgh]
theorem jK_191_23 {xs : List Int} {d : Nat} : jT xs d 191 16 0 [(0, (4, 0)), (1, (0, 0)), (2, (0, 2))] [] jpK_22 0 0 (fun k v hsN => k = 0 ∧ v = (0, 1) ∧ hsN = jpK_48) := by
  refine jT_advK 9 (pcN := 18) (LN := [(0, (4, 0)), (1, (0, 0)), (2, (0, 2))]) (stN := [(0, 1)]) (hsN := jpK_48) (c1 := 0) (s1 := 0) (c2 := 0) (s2 := 0) (by decide +kernel) ?_ (by omega) (by omega)
  exact jT_ret rfl (by decide) (by show 16 ≤ 16; omega) (by omega) (by omega) ⟨rfl, rfl, rfl⟩
theorem jIK_237_15 : jmI (jm 237) 15 = (.iconst 1, 1) := by rfl
theorem jIK_237_16 : jmI (jm 237) 16 = (.goto 4, 3) := by rfl
theorem jIK_237_26 : jmI (jm 237) 26 = (.aload_n 0, 1) := by rfl
theorem jIK_237_27 : jmI (jm 237) 27 = (.iload_n 3, 1) := by rfl
theorem jIK_237_28 : jmI (jm 237) 28 = (.i2l, 1) := by rfl
theorem jIK_237_38 : jmI (jm 237) 38 = (.ifCond .eq 20, 3) := by rfl
theorem jIK_237_58 : jmI (jm 237) 58 = (.iconst 0, 1) := by rfl
theorem jIK_237_59 : jmI (jm 237) 59 = (.iconst 2, 1) := by rfl
theorem jIK_237_63 : jmI (jm 237) 63 = (.ifCond .eq 5, 3) := by rfl
theorem jK_237_24 {xs : List Int} {d : Nat} {x1 x2 x3 x4 : Int} (h_x1 : 0 ≤ x1 ∧ x1 ≤ 3) (h_x2 : 0 ≤ x2 ∧ x2 ≤ 7) (h_x3 : (-2147483648) ≤ x3 ∧ x3 ≤ (-51)) (h_x4 : (-2147483648) ≤ x4 ∧ x4 ≤ 2147483647) : jT xs (d + 2) 237 16 0 [(0, (4, 0)), (1, (0, x1)), (2, (0, x2)), (3, (0, x3)), (4, (0, x4))] [] jpK_22 0 0 (fun k v hsN => k = 0 ∧ v = (0, 0) ∧ hsN = jpK_48) := by
  refine jT_xaload_n (v := (4, 0)) (pcN := 1) jIK_237_0 rfl rfl rfl ?_
  refine jT_xiload_n (v := (0, x1)) (pcN := 2) jIK_237_1 rfl rfl rfl ?_
  refine jT_fR [] 16 (y := 238) (pcN := 5) (dC := 1) (bc1 := 0) (bc2 := 0) (c1 := 0) (c2 := 0) (as := [(0, x1)]) (asC := [(0, x1)]) (LN := [(0, (4, 0)), (1, (0, x1)), (2, (0, x2)), (3, (0, x3)), (4, (0, x4))]) (stN := [(4, 0)]) (hsC := []) (v := (0, 1)) (st2 := [(0, 1), (4, 0)]) (jK_238_13 (d := 0) (by omega)) (by rfl) (by rfl) (by decide +kernel) (by rfl) (by rfl) (by omega) (by omega) (by omega) (by omega) rfl ?_
  refine jT_xifF (t := 19) (pcN := 8) jIK_237_5 rfl (by decide +kernel) rfl rfl ?_
  refine jT_xiload_n (v := (0, x2)) (pcN := 9) jIK_237_8 rfl rfl rfl ?_
  refine jT_fR [] 16 (y := 188) (pcN := 12) (dC := 1) (bc1 := 0) (bc2 := 0) (c1 := 0) (c2 := 0) (as := [(0, x2)]) (asC := [(0, x2)]) (LN := [(0, (4, 0)), (1, (0, x1)), (2, (0, x2)), (3, (0, x3)), (4, (0, x4))]) (stN := [(4, 0)]) (hsC := []) (v := (0, 1)) (st2 := [(0, 1), (4, 0)]) (jK_188_20 (d := 0) (by omega)) (by rfl) (by rfl) (by decide +kernel) (by rfl) (by rfl) (by omega) (by omega) (by omega) (by omega) rfl ?_
  refine jT_xifF (t := 19) (pcN := 15) jIK_237_12 rfl (by decide +kernel) rfl rfl ?_
  refine jT_xiconst (k := 1) (pcN := 16) jIK_237_15 rfl ?_
  refine jT_xgoto (pcN := 20) jIK_237_16 rfl ?_
  refine jT_fR [0, 1, 2, 3, 4, 5, 6, 7, 8, 9, 10, 11, 12, 13, 14, 15] 16 (y := 190) (pcN := 23) (dC := 1) (bc1 := 0) (bc2 := 0) (c1 := 0) (c2 := 0) (as := [(4, 0), (0, 1)]) (asC := [(4, 0), (0, 1)]) (LN := [(0, (4, 0)), (1, (0, x1)), (2, (0, x2)), (3, (0, x3)), (4, (0, x4))]) (stN := []) (hsC := jpK_22) (v := (0, 0)) (st2 := [(0, 0)]) (jK_190_22 (d := 0)) (by rfl) (by rfl) (by decide +kernel) (by rfl) (by rfl) (by omega) (by omega) (by omega) (by omega) rfl ?_
  refine jT_xifF (t := 66) (pcN := 26) jIK_237_23 rfl (by decide +kernel) rfl rfl ?_
  refine jT_xaload_n (v := (4, 0)) (pcN := 27) jIK_237_26 rfl rfl rfl ?_
  refine jT_xiload_n (v := (0, x3)) (pcN := 28) jIK_237_27 rfl rfl rfl ?_
  refine jT_xi2l (x := x3) (z := x3) (pcN := 29) jIK_237_28 rfl (jw_idd (by omega) (by omega)) rfl ?_
  refine jT_adv 2 (pcN := 35) (LN := [(0, (4, 0)), (1, (0, x1)), (2, (0, x2)), (3, (0, x3)), (4, (0, x4))]) (stN := [(1, 50), (1, (-50)), (1, x3), (4, 0)]) (hsN := jpK_22) (c1 := 0) (s1 := 0) (c2 := 0) (s2 := 0) (by exact rfl) ?_ (by omega) (by omega)
  refine jT_fR [] 16 (y := 189) (pcN := 38) (dC := 0) (bc1 := 0) (bc2 := 0) (c1 := 0) (c2 := 0) (as := [(1, x3), (1, (-50)), (1, 50)]) (asC := [(1, x3), (1, (-50)), (1, 50)]) (LN := [(0, (4, 0)), (1, (0, x1)), (2, (0, x2)), (3, (0, x3)), (4, (0, x4))]) (stN := [(4, 0)]) (hsC := []) (v := (0, 0)) (st2 := [(0, 0), (4, 0)]) (jT_in_lo (d := 0) (v := x3) (lo := (-50)) (hi := 50) (by omega) (by omega) (by omega) (by omega)) (by rfl) (by rfl) (by decide +kernel) (by rfl) (by rfl) (by omega) (by omega) (by omega) (by omega) rfl ?_
  refine jT_xifT (pcN := 58) jIK_237_38 rfl (by decide +kernel) rfl ?_
  refine jT_xiconst (k := 0) (pcN := 59) jIK_237_58 rfl ?_
  refine jT_xiconst (k := 2) (pcN := 60) jIK_237_59 rfl ?_
  refine jT_fB [0, 1, 2, 3, 4, 5, 6, 7, 8, 9, 10, 11, 12, 13, 14, 15] 16 (y := 191) (pcN := 63) (dC := 0) (bc1 := 0) (bc2 := 0) (c1 := 0) (c2 := 0) (as := [(4, 0), (0, 0), (0, 2)]) (asC := [(4, 0), (0, 0), (0, 2)]) (LN := [(0, (4, 0)), (1, (0, x1)), (2, (0, x2)), (3, (0, x3)), (4, (0, x4))]) (stN := []) (hsC := jpK_22) (hsD := jpK_48) (v := (0, 1)) (st2 := [(0, 1)]) (hs2 := jpK_48) (jK_191_23 (d := 0)) (by rfl) (by rfl) (by decide +kernel) (by rfl) (by rfl) (by omega) (by omega) (by omega) (by omega) rfl (by decide +kernel) ?_
  refine jT_xifF (t := 68) (pcN := 66) jIK_237_63 rfl (by decide +kernel) rfl rfl ?_
  refine jT_xiconst (k := 0) (pcN := 67) jIK_237_66 rfl ?_
  exact jT_ret rfl (by decide) (by show 16 ≤ 16; omega) (by omega) (by omega) ⟨rfl, rfl, rfl⟩
theorem jK_186_25 {xs : List Int} {d : Nat} : jT xs d 186 16 0 [(0, (4, 0))] [] jpK_48 0 0 (fun k v hsN => k = 0 ∧ v = (0, 2) ∧ hsN = jpK_48 ++ []) := by
  refine jT_advK 2 (pcN := 4) (LN := [(0, (4, 0))]) (stN := [(0, 2)]) (hsN := jpK_48) (c1 := 0) (s1 := 0) (c2 := 0) (s2 := 0) (by decide +kernel) ?_ (by omega) (by omega)
  exact jT_ret rfl (by decide) (by show 16 ≤ 16; omega) (by omega) (by omega) ⟨rfl, rfl, rfl⟩
theorem jIK_116_5 : jmI (jm 116) 5 = (.iload_n 1, 1) := by rfl
theorem jIK_116_6 : jmI (jm 116) 6 = (.iload_n 3, 1) := by rfl
theorem jIK_116_7 : jmI (jm 116) 7 = (.if_icmp .le 14, 3) := by rfl
theorem jK_116_26 {xs : List Int} {d : Nat} {x3 : Int} (h_x3 : (-50) ≤ x3 ∧ x3 ≤ 50) : jT xs d 116 1 0 [(0, (4, 0)), (1, (0, x3)), (2, (0, (-50))), (3, (0, 50))] [] [jgh] 0 0 (fun k v hsN => k = 0 ∧ v = (9, 0) ∧ hsN = [jgh] ++ []) := by
  refine jT_xiload_n (v := (0, x3)) (pcN := 1) jIK_116_0 rfl rfl rfl ?_
  refine jT_xiload_n (v := (0, (-50))) (pcN := 2) jIK_116_1 rfl rfl rfl ?_
  refine jT_icF (a := x3) (b := (-50)) (t := 10) (by rfl) (by rfl) (by rfl) (jw_idd (by omega) (by omega)) (jw_idd (by omega) (by omega)) (by simp only [jcP] <;> omega) ?_
  refine jT_xiload_n (v := (0, x3)) (pcN := 6) jIK_116_5 rfl rfl rfl ?_
  refine jT_xiload_n (v := (0, 50)) (pcN := 7) jIK_116_6 rfl rfl rfl ?_
  refine jT_icT (a := x3) (b := 50) (t := 21) (by rfl) (by rfl) (by rfl) (jw_idd (by omega) (by omega)) (jw_idd (by omega) (by omega)) (by simp only [jcP] <;> omega) ?_
  exact jT_ret rfl (by decide) (by show 1 ≤ 1; omega) (by omega) (by omega) ⟨rfl, rfl, rfl⟩
theorem jK_116_27 {xs : List Int} {d : Nat} {x4 : Int} (h_x4 : (-2147483648) ≤ x4 ∧ x4 ≤ 0) : jT xs d 116 1 0 [(0, (4, 0)), (1, (0, x4)), (2, (0, 1)), (3, (0, 40))] [] [jgh] 1 6 (fun k v hsN => k = 1 ∧ v = (0, 1) ∧ hsN = [jgh] ++ []) := by
  refine jT_xiload_n (v := (0, x4)) (pcN := 1) jIK_116_0 rfl rfl rfl ?_
  refine jT_xiload_n (v := (0, 1)) (pcN := 2) jIK_116_1 rfl rfl rfl ?_
  refine jT_icT (a := x4) (b := 1) (t := 10) (by rfl) (by rfl) (by rfl) (jw_idd (by omega) (by omega)) (jw_idd (by omega) (by omega)) (by simp only [jcP] <;> omega) ?_
  exact jT_ret (c1 := 1) (s1 := 6) rfl (by decide) (by show 1 ≤ 1; omega) (by omega) (by omega) ⟨rfl, rfl, rfl⟩
theorem jIK_126_22 : jmI (jm 126) 22 = (.aload_n 0, 1) := by rfl
theorem jIK_126_23 : jmI (jm 126) 23 = (.iload 4, 2) := by rfl
theorem jIK_126_25 : jmI (jm 126) 25 = (.iconst 1, 1) := by rfl
theorem jIK_126_26 : jmI (jm 126) 26 = (.bipush 40, 2) := by rfl
theorem jK_126_28 {xs : List Int} {d : Nat} {x1 x2 x3 x4 : Int} (h_x1 : 0 ≤ x1 ∧ x1 ≤ 3) (h_x2 : 0 ≤ x2 ∧ x2 ≤ 7) (h_x3 : (-50) ≤ x3 ∧ x3 ≤ 50) (h_x4 : (-2147483648) ≤ x4 ∧ x4 ≤ 0) : jT xs (d + 1) 126 12 0 [(0, (4, 0)), (1, (0, x1)), (2, (0, x2)), (3, (0, x3)), (4, (0, x4))] [] jpK_6 1 6 (fun k v hsN => k = 1 ∧ v = (0, 1) ∧ hsN = jpK_6 ++ []) := by
  refine jT_xaload_n (v := (4, 0)) (pcN := 1) jIK_126_0 rfl rfl rfl ?_
  refine jT_xiload_n (v := (0, x1)) (pcN := 2) jIK_126_1 rfl rfl rfl ?_
  refine jT_xiconst (k := 4) (pcN := 3) jIK_126_2 rfl ?_
  refine jT_fR [0] 12 (y := 115) (pcN := 6) (dC := 0) (bc1 := 0) (bc2 := 0) (c1 := 1) (c2 := 6) (as := [(4, 0), (0, x1), (0, 4)]) (asC := [(4, 0), (0, x1), (0, 4)]) (LN := [(0, (4, 0)), (1, (0, x1)), (2, (0, x2)), (3, (0, x3)), (4, (0, x4))]) (stN := []) (hsC := [jgh]) (v := (9, 0)) (st2 := []) (jK_115_9 (d := 0) (by omega)) (by rfl) (by rfl) (by decide +kernel) (by rfl) (by rfl) (by omega) (by omega) (by omega) (by omega) rfl ?_
  refine jT_xaload_n (v := (4, 0)) (pcN := 7) jIK_126_6 rfl rfl rfl ?_
  refine jT_xiload_n (v := (0, x2)) (pcN := 8) jIK_126_7 rfl rfl rfl ?_
  refine jT_xbipush (k := 8) (pcN := 10) jIK_126_8 (by decide) rfl ?_
  refine jT_fR [0] 12 (y := 115) (pcN := 13) (dC := 0) (bc1 := 0) (bc2 := 0) (c1 := 1) (c2 := 6) (as := [(4, 0), (0, x2), (0, 8)]) (asC := [(4, 0), (0, x2), (0, 8)]) (LN := [(0, (4, 0)), (1, (0, x1)), (2, (0, x2)), (3, (0, x3)), (4, (0, x4))]) (stN := []) (hsC := [jgh]) (v := (9, 0)) (st2 := []) (jK_115_16 (d := 0) (by omega)) (by rfl) (by rfl) (by decide +kernel) (by rfl) (by rfl) (by omega) (by omega) (by omega) (by omega) rfl ?_
  refine jT_xaload_n (v := (4, 0)) (pcN := 14) jIK_126_13 rfl rfl rfl ?_
  refine jT_xiload_n (v := (0, x3)) (pcN := 15) jIK_126_14 rfl rfl rfl ?_
  refine jT_xbipush (k := (-50)) (pcN := 17) jIK_126_15 (by decide) rfl ?_
  refine jT_xbipush (k := 50) (pcN := 19) jIK_126_17 (by decide) rfl ?_
  refine jT_fR [0] 12 (y := 116) (pcN := 22) (dC := 0) (bc1 := 0) (bc2 := 0) (c1 := 1) (c2 := 6) (as := [(4, 0), (0, x3), (0, (-50)), (0, 50)]) (asC := [(4, 0), (0, x3), (0, (-50)), (0, 50)]) (LN := [(0, (4, 0)), (1, (0, x1)), (2, (0, x2)), (3, (0, x3)), (4, (0, x4))]) (stN := []) (hsC := [jgh]) (v := (9, 0)) (st2 := []) (jK_116_26 (d := 0) (by omega)) (by rfl) (by rfl) (by decide +kernel) (by rfl) (by rfl) (by omega) (by omega) (by omega) (by omega) rfl ?_
  refine jT_xaload_n (v := (4, 0)) (pcN := 23) jIK_126_22 rfl rfl rfl ?_
  refine jT_xiload (v := (0, x4)) (pcN := 25) jIK_126_23 rfl rfl rfl ?_
  refine jT_xiconst (k := 1) (pcN := 26) jIK_126_25 rfl ?_
  refine jT_xbipush (k := 40) (pcN := 28) jIK_126_26 (by decide) rfl ?_
  exact jT_fX [0] 12 (y := 116) (pcN := 31) (dC := 0) (bc1 := 1) (bc2 := 6) (as := [(4, 0), (0, x4), (0, 1), (0, 40)]) (asC := [(4, 0), (0, x4), (0, 1), (0, 40)]) (LN := [(0, (4, 0)), (1, (0, x1)), (2, (0, x2)), (3, (0, x3)), (4, (0, x4))]) (stN := []) (hsC := [jgh]) (e := 1) (jK_116_27 (d := 0) (by omega)) (by rfl) (by rfl) (by decide +kernel) (by rfl) (by rfl) (by omega) (by omega) (by omega) (by omega) ⟨rfl, ⟨rfl, rfl, rfl⟩⟩
theorem jK_335_29 {xs : List Int} {d : Nat} {x1 x2 x3 x4 : Int} (h_x1 : 0 ≤ x1 ∧ x1 ≤ 3) (h_x2 : 0 ≤ x2 ∧ x2 ≤ 7) (h_x3 : (-50) ≤ x3 ∧ x3 ≤ 50) (h_x4 : (-2147483648) ≤ x4 ∧ x4 ≤ 0) : jT xs (d + 2) 335 13 0 [(0, (4, 0)), (1, (0, x1)), (2, (0, x2)), (3, (0, x3)), (4, (0, x4)), (5, (4, 1))] [] jpK_15 1 6 (fun k v hsN => k = 0 ∧ v = (0, 2) ∧ hsN = jpK_15 ++ []) := by
  refine jT_xaload (v := (4, 1)) (pcN := 2) jIK_335_0 rfl rfl rfl ?_
  refine jT_xiconst (k := 0) (pcN := 3) jIK_335_2 rfl ?_
  refine jT_xaload_n (v := (4, 0)) (pcN := 4) jIK_335_3 rfl rfl rfl ?_
  refine jT_xiload_n (v := (0, x1)) (pcN := 5) jIK_335_4 rfl rfl rfl ?_
  refine jT_xiload_n (v := (0, x2)) (pcN := 6) jIK_335_5 rfl rfl rfl ?_
  refine jT_xiload_n (v := (0, x3)) (pcN := 7) jIK_335_6 rfl rfl rfl ?_
  refine jT_xiload (v := (0, x4)) (pcN := 9) jIK_335_7 rfl rfl rfl ?_
  exact jT_fX [0, 2, 3, 4, 5, 6, 7, 8, 9, 10, 11, 12] 13 (y := 126) (pcN := 12) (dC := 1) (bc1 := 1) (bc2 := 6) (as := [(4, 0), (0, x1), (0, x2), (0, x3), (0, x4)]) (asC := [(4, 0), (0, x1), (0, x2), (0, x3), (0, x4)]) (LN := [(0, (4, 0)), (1, (0, x1)), (2, (0, x2)), (3, (0, x3)), (4, (0, x4)), (5, (4, 1))]) (stN := [(0, 0), (4, 1)]) (hsC := jpK_6) (e := 1) (jK_126_28 (d := 0) (by omega) (by omega) (by omega) (by omega)) (by rfl) (by rfl) (by decide +kernel) (by rfl) (by rfl) (by omega) (by omega) (by omega) (by omega) (show _ from ⟨rfl, rfl, rfl⟩)
theorem jIK_237_41 : jmI (jm 237) 41 = (.iload 4, 2) := by rfl
theorem jIK_237_43 : jmI (jm 237) 43 = (.i2l, 1) := by rfl
theorem jIK_237_44 : jmI (jm 237) 44 = (.lconst 1, 1) := by rfl
theorem jIK_237_51 : jmI (jm 237) 51 = (.ifCond .eq 7, 3) := by rfl
theorem jK_237_30 {xs : List Int} {d : Nat} {x1 x2 x3 x4 : Int} (h_x1 : 0 ≤ x1 ∧ x1 ≤ 3) (h_x2 : 0 ≤ x2 ∧ x2 ≤ 7) (h_x3 : (-50) ≤ x3 ∧ x3 ≤ 50) (h_x4 : (-2147483648) ≤ x4 ∧ x4 ≤ 0) : jT xs (d + 2) 237 16 0 [(0, (4, 0)), (1, (0, x1)), (2, (0, x2)), (3, (0, x3)), (4, (0, x4))] [] jpK_22 0 0 (fun k v hsN => k = 0 ∧ v = (0, 0) ∧ hsN = jpK_48) := by
  refine jT_xaload_n (v := (4, 0)) (pcN := 1) jIK_237_0 rfl rfl rfl ?_
  refine jT_xiload_n (v := (0, x1)) (pcN := 2) jIK_237_1 rfl rfl rfl ?_
  refine jT_fR [] 16 (y := 238) (pcN := 5) (dC := 1) (bc1 := 0) (bc2 := 0) (c1 := 0) (c2 := 0) (as := [(0, x1)]) (asC := [(0, x1)]) (LN := [(0, (4, 0)), (1, (0, x1)), (2, (0, x2)), (3, (0, x3)), (4, (0, x4))]) (stN := [(4, 0)]) (hsC := []) (v := (0, 1)) (st2 := [(0, 1), (4, 0)]) (jK_238_13 (d := 0) (by omega)) (by rfl) (by rfl) (by decide +kernel) (by rfl) (by rfl) (by omega) (by omega) (by omega) (by omega) rfl ?_
  refine jT_xifF (t := 19) (pcN := 8) jIK_237_5 rfl (by decide +kernel) rfl rfl ?_
  refine jT_xiload_n (v := (0, x2)) (pcN := 9) jIK_237_8 rfl rfl rfl ?_
  refine jT_fR [] 16 (y := 188) (pcN := 12) (dC := 1) (bc1 := 0) (bc2 := 0) (c1 := 0) (c2 := 0) (as := [(0, x2)]) (asC := [(0, x2)]) (LN := [(0, (4, 0)), (1, (0, x1)), (2, (0, x2)), (3, (0, x3)), (4, (0, x4))]) (stN := [(4, 0)]) (hsC := []) (v := (0, 1)) (st2 := [(0, 1), (4, 0)]) (jK_188_20 (d := 0) (by omega)) (by rfl) (by rfl) (by decide +kernel) (by rfl) (by rfl) (by omega) (by omega) (by omega) (by omega) rfl ?_
  refine jT_xifF (t := 19) (pcN := 15) jIK_237_12 rfl (by decide +kernel) rfl rfl ?_
  refine jT_xiconst (k := 1) (pcN := 16) jIK_237_15 rfl ?_
  refine jT_xgoto (pcN := 20) jIK_237_16 rfl ?_
  refine jT_fR [0, 1, 2, 3, 4, 5, 6, 7, 8, 9, 10, 11, 12, 13, 14, 15] 16 (y := 190) (pcN := 23) (dC := 1) (bc1 := 0) (bc2 := 0) (c1 := 0) (c2 := 0) (as := [(4, 0), (0, 1)]) (asC := [(4, 0), (0, 1)]) (LN := [(0, (4, 0)), (1, (0, x1)), (2, (0, x2)), (3, (0, x3)), (4, (0, x4))]) (stN := []) (hsC := jpK_22) (v := (0, 0)) (st2 := [(0, 0)]) (jK_190_22 (d := 0)) (by rfl) (by rfl) (by decide +kernel) (by rfl) (by rfl) (by omega) (by omega) (by omega) (by omega) rfl ?_
  refine jT_xifF (t := 66) (pcN := 26) jIK_237_23 rfl (by decide +kernel) rfl rfl ?_
  refine jT_xaload_n (v := (4, 0)) (pcN := 27) jIK_237_26 rfl rfl rfl ?_
  refine jT_xiload_n (v := (0, x3)) (pcN := 28) jIK_237_27 rfl rfl rfl ?_
  refine jT_xi2l (x := x3) (z := x3) (pcN := 29) jIK_237_28 rfl (jw_idd (by omega) (by omega)) rfl ?_
  refine jT_adv 2 (pcN := 35) (LN := [(0, (4, 0)), (1, (0, x1)), (2, (0, x2)), (3, (0, x3)), (4, (0, x4))]) (stN := [(1, 50), (1, (-50)), (1, x3), (4, 0)]) (hsN := jpK_22) (c1 := 0) (s1 := 0) (c2 := 0) (s2 := 0) (by exact rfl) ?_ (by omega) (by omega)
  refine jT_fR [] 16 (y := 189) (pcN := 38) (dC := 0) (bc1 := 0) (bc2 := 0) (c1 := 0) (c2 := 0) (as := [(1, x3), (1, (-50)), (1, 50)]) (asC := [(1, x3), (1, (-50)), (1, 50)]) (LN := [(0, (4, 0)), (1, (0, x1)), (2, (0, x2)), (3, (0, x3)), (4, (0, x4))]) (stN := [(4, 0)]) (hsC := []) (v := (0, 1)) (st2 := [(0, 1), (4, 0)]) (jT_in_ok (d := 0) (v := x3) (lo := (-50)) (hi := 50) (by omega) (by omega) (by omega) (by omega) (by omega)) (by rfl) (by rfl) (by decide +kernel) (by rfl) (by rfl) (by omega) (by omega) (by omega) (by omega) rfl ?_
  refine jT_xifF (t := 58) (pcN := 41) jIK_237_38 rfl (by decide +kernel) rfl rfl ?_
  refine jT_xiload (v := (0, x4)) (pcN := 43) jIK_237_41 rfl rfl rfl ?_
  refine jT_xi2l (x := x4) (z := x4) (pcN := 44) jIK_237_43 rfl (jw_idd (by omega) (by omega)) rfl ?_
  refine jT_xlconst (z := 1) (pcN := 45) jIK_237_44 rfl rfl ?_
  refine jT_adv 1 (pcN := 48) (LN := [(0, (4, 0)), (1, (0, x1)), (2, (0, x2)), (3, (0, x3)), (4, (0, x4))]) (stN := [(1, 40), (1, 1), (1, x4), (4, 0)]) (hsN := jpK_22) (c1 := 0) (s1 := 0) (c2 := 0) (s2 := 0) (by exact rfl) ?_ (by omega) (by omega)
  refine jT_fR [] 16 (y := 189) (pcN := 51) (dC := 0) (bc1 := 0) (bc2 := 0) (c1 := 0) (c2 := 0) (as := [(1, x4), (1, 1), (1, 40)]) (asC := [(1, x4), (1, 1), (1, 40)]) (LN := [(0, (4, 0)), (1, (0, x1)), (2, (0, x2)), (3, (0, x3)), (4, (0, x4))]) (stN := [(4, 0)]) (hsC := []) (v := (0, 0)) (st2 := [(0, 0), (4, 0)]) (jT_in_lo (d := 0) (v := x4) (lo := 1) (hi := 40) (by omega) (by omega) (by omega) (by omega)) (by rfl) (by rfl) (by decide +kernel) (by rfl) (by rfl) (by omega) (by omega) (by omega) (by omega) rfl ?_
  refine jT_xifT (pcN := 58) jIK_237_51 rfl (by decide +kernel) rfl ?_
  refine jT_xiconst (k := 0) (pcN := 59) jIK_237_58 rfl ?_
  refine jT_xiconst (k := 2) (pcN := 60) jIK_237_59 rfl ?_
  refine jT_fB [0, 1, 2, 3, 4, 5, 6, 7, 8, 9, 10, 11, 12, 13, 14, 15] 16 (y := 191) (pcN := 63) (dC := 0) (bc1 := 0) (bc2 := 0) (c1 := 0) (c2 := 0) (as := [(4, 0), (0, 0), (0, 2)]) (asC := [(4, 0), (0, 0), (0, 2)]) (LN := [(0, (4, 0)), (1, (0, x1)), (2, (0, x2)), (3, (0, x3)), (4, (0, x4))]) (stN := []) (hsC := jpK_22) (hsD := jpK_48) (v := (0, 1)) (st2 := [(0, 1)]) (hs2 := jpK_48) (jK_191_23 (d := 0)) (by rfl) (by rfl) (by decide +kernel) (by rfl) (by rfl) (by omega) (by omega) (by omega) (by omega) rfl (by decide +kernel) ?_
  refine jT_xifF (t := 68) (pcN := 66) jIK_237_63 rfl (by decide +kernel) rfl rfl ?_
  refine jT_xiconst (k := 0) (pcN := 67) jIK_237_66 rfl ?_
  exact jT_ret rfl (by decide) (by show 16 ≤ 16; omega) (by omega) (by omega) ⟨rfl, rfl, rfl⟩
theorem jK_116_31 {xs : List Int} {d : Nat} {x4 : Int} (h_x4 : 1 ≤ x4 ∧ x4 ≤ 40) : jT xs d 116 1 0 [(0, (4, 0)), (1, (0, x4)), (2, (0, 1)), (3, (0, 40))] [] [jgh] 0 0 (fun k v hsN => k = 0 ∧ v = (9, 0) ∧ hsN = [jgh] ++ []) := by
  refine jT_xiload_n (v := (0, x4)) (pcN := 1) jIK_116_0 rfl rfl rfl ?_
  refine jT_xiload_n (v := (0, 1)) (pcN := 2) jIK_116_1 rfl rfl rfl ?_
  refine jT_icF (a := x4) (b := 1) (t := 10) (by rfl) (by rfl) (by rfl) (jw_idd (by omega) (by omega)) (jw_idd (by omega) (by omega)) (by simp only [jcP] <;> omega) ?_
  refine jT_xiload_n (v := (0, x4)) (pcN := 6) jIK_116_5 rfl rfl rfl ?_
  refine jT_xiload_n (v := (0, 40)) (pcN := 7) jIK_116_6 rfl rfl rfl ?_
  refine jT_icT (a := x4) (b := 40) (t := 21) (by rfl) (by rfl) (by rfl) (jw_idd (by omega) (by omega)) (jw_idd (by omega) (by omega)) (by simp only [jcP] <;> omega) ?_
  exact jT_ret rfl (by decide) (by show 1 ≤ 1; omega) (by omega) (by omega) ⟨rfl, rfl, rfl⟩
theorem jIK_57_0 : jmI (jm 57) 0 = (.aload_n 0, 1) := by rfl
theorem jIK_57_1 : jmI (jm 57) 1 = (.getfield 9, 3) := by rfl
def jzK_71 : JC := (9, [(4, 1), (4, 2), (4, 3), (4, 4), (4, 5)], [])
theorem jIK_57_4 : jmI (jm 57) 4 = (.iload_n 1, 1) := by rfl
theorem jIK_57_5 : jmI (jm 57) 5 = (.aaload, 1) := by rfl
def jpK_74 : List JC := [jzK_71, (114, [], [6, 6, 6, 6, 6, 6, 6, 6]), jgh, jgh, jgh, jgh, jgh]
theorem jK_57_32 {xs : List Int} {d : Nat} {x2 : Int} (h_x2 : 0 ≤ x2 ∧ x2 ≤ 7) : jT xs d 57 7 0 [(0, (4, 0)), (1, (0, x2))] [] jpK_74 0 0 (fun k v hsN => k = 0 ∧ v = (4, 6) ∧ hsN = jpK_74 ++ []) := by
  refine jT_xaload_n (v := (4, 0)) (pcN := 1) jIK_57_0 rfl rfl rfl ?_
  refine jT_xgetf (a := 0) (t := 1) (ci := 9) (fi := 0) (c := jzK_71) (v := (4, 1)) (pcN := 4) jIK_57_1 rfl rfl rfl rfl rfl rfl rfl ?_
  refine jT_xiload_n (v := (0, x2)) (pcN := 5) jIK_57_4 rfl rfl rfl ?_
  refine jT_aald (x := 6) (a := 1) (j := (x2).toNat) (fs := []) (X := [6, 6, 6, 6, 6, 6, 6, 6]) (kd := 114) (by rfl) (by rfl) (by rfl) (jw_nn (by omega) (by omega)) (jall_get 8 (by decide) (by omega)) (by rfl) ?_
  refine jT_eq (LN := [(0, (4, 0)), (1, (0, x2))]) (stN := [(4, 6)]) (hsN := jpK_74) rfl rfl rfl ?_
  exact jT_ret rfl (by decide) (by show 7 ≤ 7; omega) (by omega) (by omega) ⟨rfl, rfl, rfl⟩
theorem jK_39_33 {xs : List Int} {d : Nat} : jT xs d 39 2 0 [(0, (4, 0)), (1, (4, 1))] [] [jgh, (101, [], [0, 0, 0, 0, 0, 0])] 0 0 (fun k v hsN => k = 0 ∧ v = (1, 0) ∧ hsN = [jgh, (101, [], [0, 0, 0, 0, 0, 0])] ++ []) := by
  refine jT_advK 68 (pcN := 29) (LN := [(4, (0, 6)), (2, (1, 0)), (0, (4, 0)), (1, (4, 1))]) (stN := [(1, 0)]) (hsN := [jgh, (101, [], [0, 0, 0, 0, 0, 0])]) (c1 := 0) (s1 := 0) (c2 := 0) (s2 := 0) (by decide +kernel) ?_ (by omega) (by omega)
  exact jT_ret rfl (by decide) (by show 2 ≤ 2; omega) (by omega) (by omega) ⟨rfl, rfl, rfl⟩
theorem jK_373_34 {xs : List Int} {d : Nat} : jT xs d 373 0 0 [(0, (1, 0)), (2, (1, 1))] [] [] 0 0 (fun k v hsN => k = 0 ∧ v = (1, 0) ∧ hsN = [] ++ []) := by
  refine jT_advK 11 (pcN := 29) (LN := [(4, (1, 0)), (0, (1, 0)), (2, (1, 1))]) (stN := [(1, 0)]) (hsN := []) (c1 := 0) (s1 := 0) (c2 := 0) (s2 := 0) (by decide +kernel) ?_ (by omega) (by omega)
  exact jT_ret rfl (by decide) (by show 0 ≤ 0; omega) (by omega) (by omega) ⟨rfl, rfl, rfl⟩
def jpK_75 : List JC := [(8, [(4, 2), (4, 3)], []), (101, [], [0, 0, 0, 0, 0, 0]), jgh, jgh]
theorem jK_45_35 {xs : List Int} {d : Nat} : jT xs (d + 1) 45 4 0 [(0, (4, 0)), (1, (4, 1)), (2, (1, 1)), (4, (1, 1))] [] jpK_75 0 0 (fun k v hsN => k = 0 ∧ v = (1, 0) ∧ hsN = jpK_75 ++ []) := by
  refine jT_advK 10 (pcN := 17) (LN := [(0, (4, 0)), (1, (4, 1)), (2, (1, 1)), (4, (1, 1))]) (stN := [(4, 1), (4, 0)]) (hsN := jpK_75) (c1 := 0) (s1 := 0) (c2 := 0) (s2 := 0) (by decide +kernel) ?_ (by omega) (by omega)
  refine jT_fR [0, 1] 4 (y := 39) (pcN := 20) (dC := 0) (bc1 := 0) (bc2 := 0) (c1 := 0) (c2 := 0) (as := [(4, 0), (4, 1)]) (asC := [(4, 0), (4, 1)]) (LN := [(0, (4, 0)), (1, (4, 1)), (2, (1, 1)), (4, (1, 1))]) (stN := []) (hsC := [jgh, (101, [], [0, 0, 0, 0, 0, 0])]) (v := (1, 0)) (st2 := [(1, 0)]) (jK_39_33 (d := 0)) (by rfl) (by rfl) (by decide +kernel) (by rfl) (by rfl) (by omega) (by omega) (by omega) (by omega) rfl ?_
  refine jT_advK 11 (pcN := 36) (LN := [(6, (1, 0)), (0, (4, 0)), (1, (4, 1)), (2, (1, 1)), (4, (1, 1))]) (stN := [(1, 1), (1, 0)]) (hsN := jpK_75) (c1 := 0) (s1 := 0) (c2 := 0) (s2 := 0) (by decide +kernel) ?_ (by omega) (by omega)
  refine jT_fR [] 4 (y := 373) (pcN := 39) (dC := 0) (bc1 := 0) (bc2 := 0) (c1 := 0) (c2 := 0) (as := [(1, 0), (1, 1)]) (asC := [(1, 0), (1, 1)]) (LN := [(6, (1, 0)), (0, (4, 0)), (1, (4, 1)), (2, (1, 1)), (4, (1, 1))]) (stN := []) (hsC := []) (v := (1, 0)) (st2 := [(1, 0)]) (jK_373_34 (d := 0)) (by rfl) (by rfl) (by decide +kernel) (by rfl) (by rfl) (by omega) (by omega) (by omega) (by omega) rfl ?_
  exact jT_ret rfl (by decide) (by show 4 ≤ 4; omega) (by omega) (by omega) ⟨rfl, rfl, rfl⟩
theorem jK_97_36 {xs : List Int} {d : Nat} : jT xs d 97 1 0 [(0, (4, 0)), (1, (1, 1))] [] [(101, [], [0, 0, 0, 0, 0, 0])] 0 0 (fun k v hsN => k = 0 ∧ v = (1, 1) ∧ hsN = [(101, [], [0, 0, 0, 0, 0, 0])] ++ []) := by
  refine jT_advK 25 (pcN := 60) (LN := [(5, (0, 0)), (3, (1, 1)), (0, (4, 0)), (1, (1, 1))]) (stN := [(1, 1)]) (hsN := [(101, [], [0, 0, 0, 0, 0, 0])]) (c1 := 0) (s1 := 0) (c2 := 0) (s2 := 0) (by decide +kernel) ?_ (by omega) (by omega)
  exact jT_ret rfl (by decide) (by show 1 ≤ 1; omega) (by omega) (by omega) ⟨rfl, rfl, rfl⟩
theorem jK_9_37 {xs : List Int} {d : Nat} : jT xs (d + 1) 9 2 0 [(0, (4, 0)), (1, (4, 1)), (2, (1, 1))] [] [(4, [(4, (-1)), (1, 0)], []), (101, [], [0, 0, 0, 0, 0, 0])] 0 0 (fun k v hsN => k = 0 ∧ v = (9, 0) ∧ hsN = [(4, [(4, 1), (1, 1)], []), (101, [], [0, 0, 0, 0, 0, 0])]) := by
  refine jT_advK 8 (pcN := 12) (LN := [(0, (4, 0)), (1, (4, 1)), (2, (1, 1))]) (stN := [(1, 1), (4, 1), (4, 0)]) (hsN := [(4, [(4, 1), (1, 0)], []), (101, [], [0, 0, 0, 0, 0, 0])]) (c1 := 0) (s1 := 0) (c2 := 0) (s2 := 0) (by decide +kernel) ?_ (by omega) (by omega)
  refine jT_fR [1] 2 (y := 97) (pcN := 15) (dC := 0) (bc1 := 0) (bc2 := 0) (c1 := 0) (c2 := 0) (as := [(4, 1), (1, 1)]) (asC := [(4, 0), (1, 1)]) (LN := [(0, (4, 0)), (1, (4, 1)), (2, (1, 1))]) (stN := [(4, 0)]) (hsC := [(101, [], [0, 0, 0, 0, 0, 0])]) (v := (1, 1)) (st2 := [(1, 1), (4, 0)]) (jK_97_36 (d := 0)) (by rfl) (by rfl) (by decide +kernel) (by rfl) (by rfl) (by omega) (by omega) (by omega) (by omega) rfl ?_
  refine jT_advK 1 (pcN := 18) (LN := [(0, (4, 0)), (1, (4, 1)), (2, (1, 1))]) (stN := []) (hsN := [(4, [(4, 1), (1, 1)], []), (101, [], [0, 0, 0, 0, 0, 0])]) (c1 := 0) (s1 := 0) (c2 := 0) (s2 := 0) (by decide +kernel) ?_ (by omega) (by omega)
  exact jT_ret rfl (by decide) (by show 2 ≤ 2; omega) (by omega) (by omega) ⟨rfl, rfl, rfl⟩
theorem jIK_10_0 : jmI (jm 10) 0 = (.bipush 6, 2) := by rfl
theorem jIK_10_4 : jmI (jm 10) 4 = (.astore 7, 2) := by rfl
theorem jIK_10_6 : jmI (jm 10) 6 = (.iconst 0, 1) := by rfl
theorem jIK_10_7 : jmI (jm 10) 7 = (.istore 8, 2) := by rfl
theorem jIK_10_9 : jmI (jm 10) 9 = (.iload 8, 2) := by rfl
theorem jIK_10_11 : jmI (jm 10) 11 = (.bipush 6, 2) := by rfl
theorem jIK_10_13 : jmI (jm 10) 13 = (.if_icmp .ge 23, 3) := by rfl
theorem jIK_10_16 : jmI (jm 10) 16 = (.aload 7, 2) := by rfl
theorem jIK_10_18 : jmI (jm 10) 18 = (.iload 8, 2) := by rfl
theorem jIK_10_20 : jmI (jm 10) 20 = (.aload_n 0, 1) := by rfl
theorem jIK_10_21 : jmI (jm 10) 21 = (.getfield 9, 3) := by rfl
theorem jIK_10_24 : jmI (jm 10) 24 = (.iload 8, 2) := by rfl
theorem jIK_10_26 : jmI (jm 10) 26 = (.laload, 1) := by rfl
theorem jIK_10_27 : jmI (jm 10) 27 = (.lload_n 1, 1) := by rfl
theorem jIK_10_28 : jmI (jm 10) 28 = (.lmul, 1) := by rfl
theorem jIK_10_30 : jmI (jm 10) 30 = (.iinc 8 1, 3) := by rfl
theorem jIK_10_33 : jmI (jm 10) 33 = (.goto (-24), 3) := by rfl
theorem jIK_10_36 : jmI (jm 10) 36 = (.aload 7, 2) := by rfl
theorem jIK_10_38 : jmI (jm 10) 38 = (.iconst 0, 1) := by rfl
theorem jIK_10_40 : jmI (jm 10) 40 = (.laload, 1) := by rfl
theorem jIK_10_41 : jmI (jm 10) 41 = (.lload 5, 2) := by rfl
theorem jIK_10_43 : jmI (jm 10) 43 = (.aload_n 0, 1) := by rfl
theorem jIK_10_44 : jmI (jm 10) 44 = (.getfield 19, 3) := by rfl
theorem jIK_10_47 : jmI (jm 10) 47 = (.lmul, 1) := by rfl
theorem jIK_10_48 : jmI (jm 10) 48 = (.lload_n 3, 1) := by rfl
theorem jIK_10_49 : jmI (jm 10) 49 = (.lmul, 1) := by rfl
theorem jIK_10_50 : jmI (jm 10) 50 = (.ladd, 1) := by rfl
def jpK_103 : List JC := [(4, [(4, 1), (1, 1)], []), (101, [], [0, 0, 0, 0, 0, 0]), (101, [], [0, 0, 0, 0, 0, 0]), (4, [(4, (-1)), (1, 0)], [])]
theorem jIK_10_56 : jmI (jm 10) 56 = (.aload 7, 2) := by rfl
theorem jIK_10_58 : jmI (jm 10) 58 = (.aload_n 0, 1) := by rfl
theorem jIK_10_59 : jmI (jm 10) 59 = (.getfield 19, 3) := by rfl
theorem jIK_10_62 : jmI (jm 10) 62 = (.lload_n 3, 1) := by rfl
theorem jIK_10_63 : jmI (jm 10) 63 = (.lmul, 1) := by rfl
def jpK_109 : List JC := [(4, [(4, 1), (1, 1)], []), (101, [], [0, 0, 0, 0, 0, 0]), (101, [], [0, 0, 0, 0, 0, 0]), (4, [(4, 2), (1, 1)], [])]
theorem jK_10_38 {xs : List Int} {d : Nat} {x3 : Int} (h_x3 : (-50) ≤ x3 ∧ x3 ≤ 50) : jT xs (d + 2) 10 2 0 [(0, (4, 0)), (1, (1, x3)), (3, (1, 1)), (5, (1, 0))] [] [(4, [(4, 1), (1, 1)], []), (101, [], [0, 0, 0, 0, 0, 0])] 2 8 (fun k v hsN => k = 0 ∧ v = (4, 3) ∧ hsN = [(4, [(4, 1), (1, 1)], []), (101, [], [0, 0, 0, 0, 0, 0])] ++ [(101, [], [0, 0, 0, 0, 0, 0]), (4, [(4, 2), (1, 1)], [])]) := by
  refine jT_xbipush (k := 6) (pcN := 2) jIK_10_0 (by decide) rfl ?_
  refine jT_adv 1 (pcN := 4) (LN := [(0, (4, 0)), (1, (1, x3)), (3, (1, 1)), (5, (1, 0))]) (stN := [(4, 2)]) (hsN := [(4, [(4, 1), (1, 1)], []), (101, [], [0, 0, 0, 0, 0, 0]), (101, [], [0, 0, 0, 0, 0, 0])]) (c1 := 1) (s1 := 6) (c2 := 1) (s2 := 2) (by exact rfl) ?_ (by omega) (by omega)
  refine jT_xastore (v := (4, 2)) (LN := [(7, (4, 2)), (0, (4, 0)), (1, (1, x3)), (3, (1, 1)), (5, (1, 0))]) (pcN := 6) jIK_10_4 rfl rfl rfl rfl ?_
  refine jT_xiconst (k := 0) (pcN := 7) jIK_10_6 rfl ?_
  refine jT_xistore (v := (0, 0)) (LN := [(8, (0, 0)), (7, (4, 2)), (0, (4, 0)), (1, (1, x3)), (3, (1, 1)), (5, (1, 0))]) (pcN := 9) jIK_10_7 rfl rfl rfl rfl ?_
  refine jT_xiload (v := (0, 0)) (pcN := 11) jIK_10_9 rfl rfl rfl ?_
  refine jT_xbipush (k := 6) (pcN := 13) jIK_10_11 (by decide) rfl ?_
  refine jT_xicF (t := 36) (pcN := 16) jIK_10_13 rfl (by decide +kernel) rfl rfl ?_
  refine jT_xaload (v := (4, 2)) (pcN := 18) jIK_10_16 rfl rfl rfl ?_
  refine jT_xiload (v := (0, 0)) (pcN := 20) jIK_10_18 rfl rfl rfl ?_
  refine jT_xaload_n (v := (4, 0)) (pcN := 21) jIK_10_20 rfl rfl rfl ?_
  refine jT_xgetf (a := 0) (t := 1) (ci := 4) (fi := 0) (c := (4, [(4, 1), (1, 1)], [])) (v := (4, 1)) (pcN := 24) jIK_10_21 rfl rfl rfl rfl rfl rfl rfl ?_
  refine jT_xiload (v := (0, 0)) (pcN := 26) jIK_10_24 rfl rfl rfl ?_
  refine jT_lald (x := 0) (a := 1) (j := 0) (fs := []) (X := [0, 0, 0, 0, 0, 0]) jIK_10_26 rfl rfl rfl rfl ?_
  refine jT_eq (LN := [(8, (0, 0)), (7, (4, 2)), (0, (4, 0)), (1, (1, x3)), (3, (1, 1)), (5, (1, 0))]) (stN := [(1, 0), (0, 0), (4, 2)]) (hsN := [(4, [(4, 1), (1, 1)], []), (101, [], [0, 0, 0, 0, 0, 0]), (101, [], [0, 0, 0, 0, 0, 0])]) rfl rfl rfl ?_
  refine jT_xlload_n (v := (1, x3)) (pcN := 28) jIK_10_27 rfl rfl rfl ?_
  refine jT_xlmul (x := 0) (y := x3) (z := 0) (pcN := 29) jIK_10_28 rfl (by omega) rfl ?_
  refine jT_adv 1 (pcN := 30) (LN := [(8, (0, 0)), (7, (4, 2)), (0, (4, 0)), (1, (1, x3)), (3, (1, 1)), (5, (1, 0))]) (stN := []) (hsN := [(4, [(4, 1), (1, 1)], []), (101, [], [0, 0, 0, 0, 0, 0]), (101, [], [0, 0, 0, 0, 0, 0])]) (c1 := 0) (s1 := 0) (c2 := 1) (s2 := 2) (by exact rfl) ?_ (by omega) (by omega)
  refine jT_xiinc (x := 0) (z := 1) (LN := [(8, (0, 1)), (7, (4, 2)), (0, (4, 0)), (1, (1, x3)), (3, (1, 1)), (5, (1, 0))]) (pcN := 33) jIK_10_30 rfl rfl (by decide) rfl rfl ?_
  refine jT_xgoto (pcN := 9) jIK_10_33 rfl ?_
  refine jT_xiload (v := (0, 1)) (pcN := 11) jIK_10_9 rfl rfl rfl ?_
  refine jT_xbipush (k := 6) (pcN := 13) jIK_10_11 (by decide) rfl ?_
  refine jT_xicF (t := 36) (pcN := 16) jIK_10_13 rfl (by decide +kernel) rfl rfl ?_
  refine jT_xaload (v := (4, 2)) (pcN := 18) jIK_10_16 rfl rfl rfl ?_
  refine jT_xiload (v := (0, 1)) (pcN := 20) jIK_10_18 rfl rfl rfl ?_
  refine jT_xaload_n (v := (4, 0)) (pcN := 21) jIK_10_20 rfl rfl rfl ?_
  refine jT_xgetf (a := 0) (t := 1) (ci := 4) (fi := 0) (c := (4, [(4, 1), (1, 1)], [])) (v := (4, 1)) (pcN := 24) jIK_10_21 rfl rfl rfl rfl rfl rfl rfl ?_
  refine jT_xiload (v := (0, 1)) (pcN := 26) jIK_10_24 rfl rfl rfl ?_
  refine jT_lald (x := 0) (a := 1) (j := 1) (fs := []) (X := [0, 0, 0, 0, 0, 0]) jIK_10_26 rfl rfl rfl rfl ?_
  refine jT_eq (LN := [(8, (0, 1)), (7, (4, 2)), (0, (4, 0)), (1, (1, x3)), (3, (1, 1)), (5, (1, 0))]) (stN := [(1, 0), (0, 1), (4, 2)]) (hsN := [(4, [(4, 1), (1, 1)], []), (101, [], [0, 0, 0, 0, 0, 0]), (101, [], [0, 0, 0, 0, 0, 0])]) rfl rfl rfl ?_
  refine jT_xlload_n (v := (1, x3)) (pcN := 28) jIK_10_27 rfl rfl rfl ?_
  refine jT_xlmul (x := 0) (y := x3) (z := 0) (pcN := 29) jIK_10_28 rfl (by omega) rfl ?_
  refine jT_adv 1 (pcN := 30) (LN := [(8, (0, 1)), (7, (4, 2)), (0, (4, 0)), (1, (1, x3)), (3, (1, 1)), (5, (1, 0))]) (stN := []) (hsN := [(4, [(4, 1), (1, 1)], []), (101, [], [0, 0, 0, 0, 0, 0]), (101, [], [0, 0, 0, 0, 0, 0])]) (c1 := 0) (s1 := 0) (c2 := 1) (s2 := 2) (by exact rfl) ?_ (by omega) (by omega)
  refine jT_xiinc (x := 1) (z := 2) (LN := [(8, (0, 2)), (7, (4, 2)), (0, (4, 0)), (1, (1, x3)), (3, (1, 1)), (5, (1, 0))]) (pcN := 33) jIK_10_30 rfl rfl (by decide) rfl rfl ?_
  refine jT_xgoto (pcN := 9) jIK_10_33 rfl ?_
  refine jT_xiload (v := (0, 2)) (pcN := 11) jIK_10_9 rfl rfl rfl ?_
  refine jT_xbipush (k := 6) (pcN := 13) jIK_10_11 (by decide) rfl ?_
  refine jT_xicF (t := 36) (pcN := 16) jIK_10_13 rfl (by decide +kernel) rfl rfl ?_
  refine jT_xaload (v := (4, 2)) (pcN := 18) jIK_10_16 rfl rfl rfl ?_
  refine jT_xiload (v := (0, 2)) (pcN := 20) jIK_10_18 rfl rfl rfl ?_
  refine jT_xaload_n (v := (4, 0)) (pcN := 21) jIK_10_20 rfl rfl rfl ?_
  refine jT_xgetf (a := 0) (t := 1) (ci := 4) (fi := 0) (c := (4, [(4, 1), (1, 1)], [])) (v := (4, 1)) (pcN := 24) jIK_10_21 rfl rfl rfl rfl rfl rfl rfl ?_
  refine jT_xiload (v := (0, 2)) (pcN := 26) jIK_10_24 rfl rfl rfl ?_
  refine jT_lald (x := 0) (a := 1) (j := 2) (fs := []) (X := [0, 0, 0, 0, 0, 0]) jIK_10_26 rfl rfl rfl rfl ?_
  refine jT_eq (LN := [(8, (0, 2)), (7, (4, 2)), (0, (4, 0)), (1, (1, x3)), (3, (1, 1)), (5, (1, 0))]) (stN := [(1, 0), (0, 2), (4, 2)]) (hsN := [(4, [(4, 1), (1, 1)], []), (101, [], [0, 0, 0, 0, 0, 0]), (101, [], [0, 0, 0, 0, 0, 0])]) rfl rfl rfl ?_
  refine jT_xlload_n (v := (1, x3)) (pcN := 28) jIK_10_27 rfl rfl rfl ?_
  refine jT_xlmul (x := 0) (y := x3) (z := 0) (pcN := 29) jIK_10_28 rfl (by omega) rfl ?_
  refine jT_adv 1 (pcN := 30) (LN := [(8, (0, 2)), (7, (4, 2)), (0, (4, 0)), (1, (1, x3)), (3, (1, 1)), (5, (1, 0))]) (stN := []) (hsN := [(4, [(4, 1), (1, 1)], []), (101, [], [0, 0, 0, 0, 0, 0]), (101, [], [0, 0, 0, 0, 0, 0])]) (c1 := 0) (s1 := 0) (c2 := 1) (s2 := 2) (by exact rfl) ?_ (by omega) (by omega)
  refine jT_xiinc (x := 2) (z := 3) (LN := [(8, (0, 3)), (7, (4, 2)), (0, (4, 0)), (1, (1, x3)), (3, (1, 1)), (5, (1, 0))]) (pcN := 33) jIK_10_30 rfl rfl (by decide) rfl rfl ?_
  refine jT_xgoto (pcN := 9) jIK_10_33 rfl ?_
  refine jT_xiload (v := (0, 3)) (pcN := 11) jIK_10_9 rfl rfl rfl ?_
  refine jT_xbipush (k := 6) (pcN := 13) jIK_10_11 (by decide) rfl ?_
  refine jT_xicF (t := 36) (pcN := 16) jIK_10_13 rfl (by decide +kernel) rfl rfl ?_
  refine jT_xaload (v := (4, 2)) (pcN := 18) jIK_10_16 rfl rfl rfl ?_
  refine jT_xiload (v := (0, 3)) (pcN := 20) jIK_10_18 rfl rfl rfl ?_
  refine jT_xaload_n (v := (4, 0)) (pcN := 21) jIK_10_20 rfl rfl rfl ?_
  refine jT_xgetf (a := 0) (t := 1) (ci := 4) (fi := 0) (c := (4, [(4, 1), (1, 1)], [])) (v := (4, 1)) (pcN := 24) jIK_10_21 rfl rfl rfl rfl rfl rfl rfl ?_
  refine jT_xiload (v := (0, 3)) (pcN := 26) jIK_10_24 rfl rfl rfl ?_
  refine jT_lald (x := 0) (a := 1) (j := 3) (fs := []) (X := [0, 0, 0, 0, 0, 0]) jIK_10_26 rfl rfl rfl rfl ?_
  refine jT_eq (LN := [(8, (0, 3)), (7, (4, 2)), (0, (4, 0)), (1, (1, x3)), (3, (1, 1)), (5, (1, 0))]) (stN := [(1, 0), (0, 3), (4, 2)]) (hsN := [(4, [(4, 1), (1, 1)], []), (101, [], [0, 0, 0, 0, 0, 0]), (101, [], [0, 0, 0, 0, 0, 0])]) rfl rfl rfl ?_
  refine jT_xlload_n (v := (1, x3)) (pcN := 28) jIK_10_27 rfl rfl rfl ?_
  refine jT_xlmul (x := 0) (y := x3) (z := 0) (pcN := 29) jIK_10_28 rfl (by omega) rfl ?_
  refine jT_adv 1 (pcN := 30) (LN := [(8, (0, 3)), (7, (4, 2)), (0, (4, 0)), (1, (1, x3)), (3, (1, 1)), (5, (1, 0))]) (stN := []) (hsN := [(4, [(4, 1), (1, 1)], []), (101, [], [0, 0, 0, 0, 0, 0]), (101, [], [0, 0, 0, 0, 0, 0])]) (c1 := 0) (s1 := 0) (c2 := 1) (s2 := 2) (by exact rfl) ?_ (by omega) (by omega)
  refine jT_xiinc (x := 3) (z := 4) (LN := [(8, (0, 4)), (7, (4, 2)), (0, (4, 0)), (1, (1, x3)), (3, (1, 1)), (5, (1, 0))]) (pcN := 33) jIK_10_30 rfl rfl (by decide) rfl rfl ?_
  refine jT_xgoto (pcN := 9) jIK_10_33 rfl ?_
  refine jT_xiload (v := (0, 4)) (pcN := 11) jIK_10_9 rfl rfl rfl ?_
  refine jT_xbipush (k := 6) (pcN := 13) jIK_10_11 (by decide) rfl ?_
  refine jT_xicF (t := 36) (pcN := 16) jIK_10_13 rfl (by decide +kernel) rfl rfl ?_
  refine jT_xaload (v := (4, 2)) (pcN := 18) jIK_10_16 rfl rfl rfl ?_
  refine jT_xiload (v := (0, 4)) (pcN := 20) jIK_10_18 rfl rfl rfl ?_
  refine jT_xaload_n (v := (4, 0)) (pcN := 21) jIK_10_20 rfl rfl rfl ?_
  refine jT_xgetf (a := 0) (t := 1) (ci := 4) (fi := 0) (c := (4, [(4, 1), (1, 1)], [])) (v := (4, 1)) (pcN := 24) jIK_10_21 rfl rfl rfl rfl rfl rfl rfl ?_
  refine jT_xiload (v := (0, 4)) (pcN := 26) jIK_10_24 rfl rfl rfl ?_
  refine jT_lald (x := 0) (a := 1) (j := 4) (fs := []) (X := [0, 0, 0, 0, 0, 0]) jIK_10_26 rfl rfl rfl rfl ?_
  refine jT_eq (LN := [(8, (0, 4)), (7, (4, 2)), (0, (4, 0)), (1, (1, x3)), (3, (1, 1)), (5, (1, 0))]) (stN := [(1, 0), (0, 4), (4, 2)]) (hsN := [(4, [(4, 1), (1, 1)], []), (101, [], [0, 0, 0, 0, 0, 0]), (101, [], [0, 0, 0, 0, 0, 0])]) rfl rfl rfl ?_
  refine jT_xlload_n (v := (1, x3)) (pcN := 28) jIK_10_27 rfl rfl rfl ?_
  refine jT_xlmul (x := 0) (y := x3) (z := 0) (pcN := 29) jIK_10_28 rfl (by omega) rfl ?_
  refine jT_adv 1 (pcN := 30) (LN := [(8, (0, 4)), (7, (4, 2)), (0, (4, 0)), (1, (1, x3)), (3, (1, 1)), (5, (1, 0))]) (stN := []) (hsN := [(4, [(4, 1), (1, 1)], []), (101, [], [0, 0, 0, 0, 0, 0]), (101, [], [0, 0, 0, 0, 0, 0])]) (c1 := 0) (s1 := 0) (c2 := 1) (s2 := 2) (by exact rfl) ?_ (by omega) (by omega)
  refine jT_xiinc (x := 4) (z := 5) (LN := [(8, (0, 5)), (7, (4, 2)), (0, (4, 0)), (1, (1, x3)), (3, (1, 1)), (5, (1, 0))]) (pcN := 33) jIK_10_30 rfl rfl (by decide) rfl rfl ?_
  refine jT_xgoto (pcN := 9) jIK_10_33 rfl ?_
  refine jT_xiload (v := (0, 5)) (pcN := 11) jIK_10_9 rfl rfl rfl ?_
  refine jT_xbipush (k := 6) (pcN := 13) jIK_10_11 (by decide) rfl ?_
  refine jT_xicF (t := 36) (pcN := 16) jIK_10_13 rfl (by decide +kernel) rfl rfl ?_
  refine jT_xaload (v := (4, 2)) (pcN := 18) jIK_10_16 rfl rfl rfl ?_
  refine jT_xiload (v := (0, 5)) (pcN := 20) jIK_10_18 rfl rfl rfl ?_
  refine jT_xaload_n (v := (4, 0)) (pcN := 21) jIK_10_20 rfl rfl rfl ?_
  refine jT_xgetf (a := 0) (t := 1) (ci := 4) (fi := 0) (c := (4, [(4, 1), (1, 1)], [])) (v := (4, 1)) (pcN := 24) jIK_10_21 rfl rfl rfl rfl rfl rfl rfl ?_
  refine jT_xiload (v := (0, 5)) (pcN := 26) jIK_10_24 rfl rfl rfl ?_
  refine jT_lald (x := 0) (a := 1) (j := 5) (fs := []) (X := [0, 0, 0, 0, 0, 0]) jIK_10_26 rfl rfl rfl rfl ?_
  refine jT_eq (LN := [(8, (0, 5)), (7, (4, 2)), (0, (4, 0)), (1, (1, x3)), (3, (1, 1)), (5, (1, 0))]) (stN := [(1, 0), (0, 5), (4, 2)]) (hsN := [(4, [(4, 1), (1, 1)], []), (101, [], [0, 0, 0, 0, 0, 0]), (101, [], [0, 0, 0, 0, 0, 0])]) rfl rfl rfl ?_
  refine jT_xlload_n (v := (1, x3)) (pcN := 28) jIK_10_27 rfl rfl rfl ?_
  refine jT_xlmul (x := 0) (y := x3) (z := 0) (pcN := 29) jIK_10_28 rfl (by omega) rfl ?_
  refine jT_adv 1 (pcN := 30) (LN := [(8, (0, 5)), (7, (4, 2)), (0, (4, 0)), (1, (1, x3)), (3, (1, 1)), (5, (1, 0))]) (stN := []) (hsN := [(4, [(4, 1), (1, 1)], []), (101, [], [0, 0, 0, 0, 0, 0]), (101, [], [0, 0, 0, 0, 0, 0])]) (c1 := 0) (s1 := 0) (c2 := 1) (s2 := 2) (by exact rfl) ?_ (by omega) (by omega)
  refine jT_xiinc (x := 5) (z := 6) (LN := [(8, (0, 6)), (7, (4, 2)), (0, (4, 0)), (1, (1, x3)), (3, (1, 1)), (5, (1, 0))]) (pcN := 33) jIK_10_30 rfl rfl (by decide) rfl rfl ?_
  refine jT_xgoto (pcN := 9) jIK_10_33 rfl ?_
  refine jT_xiload (v := (0, 6)) (pcN := 11) jIK_10_9 rfl rfl rfl ?_
  refine jT_xbipush (k := 6) (pcN := 13) jIK_10_11 (by decide) rfl ?_
  refine jT_xicT (pcN := 36) jIK_10_13 rfl (by decide +kernel) rfl ?_
  refine jT_xaload (v := (4, 2)) (pcN := 38) jIK_10_36 rfl rfl rfl ?_
  refine jT_xiconst (k := 0) (pcN := 39) jIK_10_38 rfl ?_
  refine jT_adv 1 (pcN := 40) (LN := [(8, (0, 6)), (7, (4, 2)), (0, (4, 0)), (1, (1, x3)), (3, (1, 1)), (5, (1, 0))]) (stN := [(0, 0), (4, 2), (0, 0), (4, 2)]) (hsN := [(4, [(4, 1), (1, 1)], []), (101, [], [0, 0, 0, 0, 0, 0]), (101, [], [0, 0, 0, 0, 0, 0])]) (c1 := 0) (s1 := 0) (c2 := 1) (s2 := 2) (by exact rfl) ?_ (by omega) (by omega)
  refine jT_lald (x := 0) (a := 2) (j := 0) (fs := []) (X := [0, 0, 0, 0, 0, 0]) jIK_10_40 rfl rfl rfl rfl ?_
  refine jT_eq (LN := [(8, (0, 6)), (7, (4, 2)), (0, (4, 0)), (1, (1, x3)), (3, (1, 1)), (5, (1, 0))]) (stN := [(1, 0), (0, 0), (4, 2)]) (hsN := [(4, [(4, 1), (1, 1)], []), (101, [], [0, 0, 0, 0, 0, 0]), (101, [], [0, 0, 0, 0, 0, 0])]) rfl rfl rfl ?_
  refine jT_xlload (v := (1, 0)) (pcN := 43) jIK_10_41 rfl rfl rfl ?_
  refine jT_xaload_n (v := (4, 0)) (pcN := 44) jIK_10_43 rfl rfl rfl ?_
  refine jT_xgetf (a := 0) (t := 1) (ci := 4) (fi := 1) (c := (4, [(4, 1), (1, 1)], [])) (v := (1, 1)) (pcN := 47) jIK_10_44 rfl rfl rfl rfl rfl rfl rfl ?_
  refine jT_xlmul (x := 0) (y := 1) (z := 0) (pcN := 48) jIK_10_47 rfl (by decide) rfl ?_
  refine jT_xlload_n (v := (1, 1)) (pcN := 49) jIK_10_48 rfl rfl rfl ?_
  refine jT_xlmul (x := 0) (y := 1) (z := 0) (pcN := 50) jIK_10_49 rfl (by decide) rfl ?_
  refine jT_xladd (x := 0) (y := 0) (z := 0) (pcN := 51) jIK_10_50 rfl (by decide) rfl ?_
  refine jT_adv 3 (pcN := 56) (LN := [(8, (0, 6)), (7, (4, 2)), (0, (4, 0)), (1, (1, x3)), (3, (1, 1)), (5, (1, 0))]) (stN := [(4, 3), (4, 3)]) (hsN := jpK_103) (c1 := 1) (s1 := 2) (c2 := 0) (s2 := 0) (by exact rfl) ?_ (by omega) (by omega)
  refine jT_xaload (v := (4, 2)) (pcN := 58) jIK_10_56 rfl rfl rfl ?_
  refine jT_xaload_n (v := (4, 0)) (pcN := 59) jIK_10_58 rfl rfl rfl ?_
  refine jT_xgetf (a := 0) (t := 1) (ci := 4) (fi := 1) (c := (4, [(4, 1), (1, 1)], [])) (v := (1, 1)) (pcN := 62) jIK_10_59 rfl rfl rfl rfl rfl rfl rfl ?_
  refine jT_xlload_n (v := (1, 1)) (pcN := 63) jIK_10_62 rfl rfl rfl ?_
  refine jT_xlmul (x := 1) (y := 1) (z := 1) (pcN := 64) jIK_10_63 rfl (by decide) rfl ?_
  refine jT_fB [3, 2] 4 (y := 9) (pcN := 67) (dC := 1) (bc1 := 0) (bc2 := 0) (c1 := 0) (c2 := 0) (as := [(4, 3), (4, 2), (1, 1)]) (asC := [(4, 0), (4, 1), (1, 1)]) (LN := [(8, (0, 6)), (7, (4, 2)), (0, (4, 0)), (1, (1, x3)), (3, (1, 1)), (5, (1, 0))]) (stN := [(4, 3)]) (hsC := [(4, [(4, (-1)), (1, 0)], []), (101, [], [0, 0, 0, 0, 0, 0])]) (hsD := [(4, [(4, 1), (1, 1)], []), (101, [], [0, 0, 0, 0, 0, 0])]) (v := (9, 0)) (st2 := [(4, 3)]) (hs2 := jpK_109) (jK_9_37 (d := 0)) (by rfl) (by rfl) (by decide +kernel) (by rfl) (by rfl) (by omega) (by omega) (by omega) (by omega) rfl (by decide +kernel) ?_
  exact jT_ret rfl (by decide) (by show 2 ≤ 4; omega) (by omega) (by omega) ⟨rfl, rfl, rfl⟩
theorem jIK_127_0 : jmI (jm 127) 0 = (.iconst 0, 1) := by rfl
theorem jIK_127_1 : jmI (jm 127) 1 = (.istore_n 3, 1) := by rfl
theorem jIK_127_2 : jmI (jm 127) 2 = (.iload_n 3, 1) := by rfl
theorem jIK_127_3 : jmI (jm 127) 3 = (.bipush 6, 2) := by rfl
theorem jIK_127_5 : jmI (jm 127) 5 = (.if_icmp .ge 24, 3) := by rfl
theorem jIK_127_8 : jmI (jm 127) 8 = (.aload_n 0, 1) := by rfl
theorem jIK_127_9 : jmI (jm 127) 9 = (.getfield 50, 3) := by rfl
theorem jIK_127_12 : jmI (jm 127) 12 = (.iload_n 3, 1) := by rfl
theorem jIK_127_13 : jmI (jm 127) 13 = (.aload_n 1, 1) := by rfl
theorem jIK_127_14 : jmI (jm 127) 14 = (.getfield 209, 3) := by rfl
theorem jIK_127_17 : jmI (jm 127) 17 = (.iload_n 3, 1) := by rfl
theorem jIK_127_18 : jmI (jm 127) 18 = (.laload, 1) := by rfl
def jpK_122 : List JC := [jzK_14, (4, [(4, 13), (1, 1)], []), (8, [(4, 14), (4, 15)], []), jgh, jgh, jgh, jgh, jgh, jgh, (101, [], [0, 0, 0, 0, 0, 0]), jgh, jgh, jgh, (101, [], [0, 0, 0, 0, 0, 0]), jgh, jgh]
theorem jIK_127_19 : jmI (jm 127) 19 = (.iload_n 2, 1) := by rfl
theorem jIK_127_20 : jmI (jm 127) 20 = (.i2l, 1) := by rfl
theorem jIK_127_21 : jmI (jm 127) 21 = (.lmul, 1) := by rfl
theorem jIK_127_23 : jmI (jm 127) 23 = (.iinc 3 1, 3) := by rfl
theorem jIK_127_26 : jmI (jm 127) 26 = (.goto (-24), 3) := by rfl
theorem jIK_127_29 : jmI (jm 127) 29 = (.aload_n 1, 1) := by rfl
theorem jIK_127_30 : jmI (jm 127) 30 = (.iload_n 2, 1) := by rfl
theorem jIK_127_31 : jmI (jm 127) 31 = (.i2l, 1) := by rfl
theorem jIK_127_32 : jmI (jm 127) 32 = (.lconst 1, 1) := by rfl
theorem jIK_127_33 : jmI (jm 127) 33 = (.aload_n 0, 1) := by rfl
theorem jIK_127_34 : jmI (jm 127) 34 = (.getfield 10, 3) := by rfl
theorem jIK_127_37 : jmI (jm 127) 37 = (.aload_n 0, 1) := by rfl
theorem jIK_127_38 : jmI (jm 127) 38 = (.getfield 50, 3) := by rfl
theorem jIK_127_41 : jmI (jm 127) 41 = (.aload_n 1, 1) := by rfl
theorem jIK_127_42 : jmI (jm 127) 42 = (.getfield 102, 3) := by rfl
theorem jIK_127_45 : jmI (jm 127) 45 = (.lconst 1, 1) := by rfl
def jpK_139 : List JC := [jzK_14, (4, [(4, 13), (1, 1)], []), (8, [(4, 14), (4, 15)], []), jgh, jgh, jgh, jgh, jgh, jgh, (101, [], [0, 0, 0, 0, 0, 0]), jgh, jgh, jgh, (101, [], [0, 0, 0, 0, 0, 0]), jgh, jgh, (101, [], [0, 0, 0, 0, 0, 0]), (4, [(4, 16), (1, 1)], [])]
theorem jK_127_39 {xs : List Int} {d : Nat} {x3 : Int} (h_x3 : (-50) ≤ x3 ∧ x3 ≤ 50) : jT xs (d + 3) 127 16 0 [(0, (4, 0)), (1, (4, 1)), (2, (0, x3))] [] jpK_122 2 8 (fun k v hsN => k = 0 ∧ v = (4, 17) ∧ hsN = jpK_122 ++ [(101, [], [0, 0, 0, 0, 0, 0]), (4, [(4, 16), (1, 1)], [])]) := by
  refine jT_xiconst (k := 0) (pcN := 1) jIK_127_0 rfl ?_
  refine jT_xistore_n (v := (0, 0)) (LN := [(3, (0, 0)), (0, (4, 0)), (1, (4, 1)), (2, (0, x3))]) (pcN := 2) jIK_127_1 rfl rfl rfl rfl ?_
  refine jT_xiload_n (v := (0, 0)) (pcN := 3) jIK_127_2 rfl rfl rfl ?_
  refine jT_xbipush (k := 6) (pcN := 5) jIK_127_3 (by decide) rfl ?_
  refine jT_xicF (t := 29) (pcN := 8) jIK_127_5 rfl (by decide +kernel) rfl rfl ?_
  refine jT_xaload_n (v := (4, 0)) (pcN := 9) jIK_127_8 rfl rfl rfl ?_
  refine jT_xgetf (a := 0) (t := 1) (ci := 13) (fi := 7) (c := jzK_14) (v := (4, 9)) (pcN := 12) jIK_127_9 rfl rfl rfl rfl rfl rfl rfl ?_
  refine jT_xiload_n (v := (0, 0)) (pcN := 13) jIK_127_12 rfl rfl rfl ?_
  refine jT_xaload_n (v := (4, 1)) (pcN := 14) jIK_127_13 rfl rfl rfl ?_
  refine jT_xgetf (a := 1) (t := 2) (ci := 4) (fi := 0) (c := (4, [(4, 13), (1, 1)], [])) (v := (4, 13)) (pcN := 17) jIK_127_14 rfl rfl rfl rfl rfl rfl rfl ?_
  refine jT_xiload_n (v := (0, 0)) (pcN := 18) jIK_127_17 rfl rfl rfl ?_
  refine jT_lald (x := 0) (a := 13) (j := 0) (fs := []) (X := [0, 0, 0, 0, 0, 0]) jIK_127_18 rfl rfl rfl rfl ?_
  refine jT_eq (LN := [(3, (0, 0)), (0, (4, 0)), (1, (4, 1)), (2, (0, x3))]) (stN := [(1, 0), (0, 0), (4, 9)]) (hsN := jpK_122) rfl rfl rfl ?_
  refine jT_xiload_n (v := (0, x3)) (pcN := 20) jIK_127_19 rfl rfl rfl ?_
  refine jT_xi2l (x := x3) (z := x3) (pcN := 21) jIK_127_20 rfl (jw_idd (by omega) (by omega)) rfl ?_
  refine jT_xlmul (x := 0) (y := x3) (z := 0) (pcN := 22) jIK_127_21 rfl (by omega) rfl ?_
  refine jT_adv 1 (pcN := 23) (LN := [(3, (0, 0)), (0, (4, 0)), (1, (4, 1)), (2, (0, x3))]) (stN := []) (hsN := jpK_122) (c1 := 0) (s1 := 0) (c2 := 2) (s2 := 8) (by exact rfl) ?_ (by omega) (by omega)
  refine jT_xiinc (x := 0) (z := 1) (LN := [(3, (0, 1)), (0, (4, 0)), (1, (4, 1)), (2, (0, x3))]) (pcN := 26) jIK_127_23 rfl rfl (by decide) rfl rfl ?_
  refine jT_xgoto (pcN := 2) jIK_127_26 rfl ?_
  refine jT_xiload_n (v := (0, 1)) (pcN := 3) jIK_127_2 rfl rfl rfl ?_
  refine jT_xbipush (k := 6) (pcN := 5) jIK_127_3 (by decide) rfl ?_
  refine jT_xicF (t := 29) (pcN := 8) jIK_127_5 rfl (by decide +kernel) rfl rfl ?_
  refine jT_xaload_n (v := (4, 0)) (pcN := 9) jIK_127_8 rfl rfl rfl ?_
  refine jT_xgetf (a := 0) (t := 1) (ci := 13) (fi := 7) (c := jzK_14) (v := (4, 9)) (pcN := 12) jIK_127_9 rfl rfl rfl rfl rfl rfl rfl ?_
  refine jT_xiload_n (v := (0, 1)) (pcN := 13) jIK_127_12 rfl rfl rfl ?_
  refine jT_xaload_n (v := (4, 1)) (pcN := 14) jIK_127_13 rfl rfl rfl ?_
  refine jT_xgetf (a := 1) (t := 2) (ci := 4) (fi := 0) (c := (4, [(4, 13), (1, 1)], [])) (v := (4, 13)) (pcN := 17) jIK_127_14 rfl rfl rfl rfl rfl rfl rfl ?_
  refine jT_xiload_n (v := (0, 1)) (pcN := 18) jIK_127_17 rfl rfl rfl ?_
  refine jT_lald (x := 0) (a := 13) (j := 1) (fs := []) (X := [0, 0, 0, 0, 0, 0]) jIK_127_18 rfl rfl rfl rfl ?_
  refine jT_eq (LN := [(3, (0, 1)), (0, (4, 0)), (1, (4, 1)), (2, (0, x3))]) (stN := [(1, 0), (0, 1), (4, 9)]) (hsN := jpK_122) rfl rfl rfl ?_
  refine jT_xiload_n (v := (0, x3)) (pcN := 20) jIK_127_19 rfl rfl rfl ?_
  refine jT_xi2l (x := x3) (z := x3) (pcN := 21) jIK_127_20 rfl (jw_idd (by omega) (by omega)) rfl ?_
  refine jT_xlmul (x := 0) (y := x3) (z := 0) (pcN := 22) jIK_127_21 rfl (by omega) rfl ?_
  refine jT_adv 1 (pcN := 23) (LN := [(3, (0, 1)), (0, (4, 0)), (1, (4, 1)), (2, (0, x3))]) (stN := []) (hsN := jpK_122) (c1 := 0) (s1 := 0) (c2 := 2) (s2 := 8) (by exact rfl) ?_ (by omega) (by omega)
  refine jT_xiinc (x := 1) (z := 2) (LN := [(3, (0, 2)), (0, (4, 0)), (1, (4, 1)), (2, (0, x3))]) (pcN := 26) jIK_127_23 rfl rfl (by decide) rfl rfl ?_
  refine jT_xgoto (pcN := 2) jIK_127_26 rfl ?_
  refine jT_xiload_n (v := (0, 2)) (pcN := 3) jIK_127_2 rfl rfl rfl ?_
  refine jT_xbipush (k := 6) (pcN := 5) jIK_127_3 (by decide) rfl ?_
  refine jT_xicF (t := 29) (pcN := 8) jIK_127_5 rfl (by decide +kernel) rfl rfl ?_
  refine jT_xaload_n (v := (4, 0)) (pcN := 9) jIK_127_8 rfl rfl rfl ?_
  refine jT_xgetf (a := 0) (t := 1) (ci := 13) (fi := 7) (c := jzK_14) (v := (4, 9)) (pcN := 12) jIK_127_9 rfl rfl rfl rfl rfl rfl rfl ?_
  refine jT_xiload_n (v := (0, 2)) (pcN := 13) jIK_127_12 rfl rfl rfl ?_
  refine jT_xaload_n (v := (4, 1)) (pcN := 14) jIK_127_13 rfl rfl rfl ?_
  refine jT_xgetf (a := 1) (t := 2) (ci := 4) (fi := 0) (c := (4, [(4, 13), (1, 1)], [])) (v := (4, 13)) (pcN := 17) jIK_127_14 rfl rfl rfl rfl rfl rfl rfl ?_
  refine jT_xiload_n (v := (0, 2)) (pcN := 18) jIK_127_17 rfl rfl rfl ?_
  refine jT_lald (x := 0) (a := 13) (j := 2) (fs := []) (X := [0, 0, 0, 0, 0, 0]) jIK_127_18 rfl rfl rfl rfl ?_
  refine jT_eq (LN := [(3, (0, 2)), (0, (4, 0)), (1, (4, 1)), (2, (0, x3))]) (stN := [(1, 0), (0, 2), (4, 9)]) (hsN := jpK_122) rfl rfl rfl ?_
  refine jT_xiload_n (v := (0, x3)) (pcN := 20) jIK_127_19 rfl rfl rfl ?_
  refine jT_xi2l (x := x3) (z := x3) (pcN := 21) jIK_127_20 rfl (jw_idd (by omega) (by omega)) rfl ?_
  refine jT_xlmul (x := 0) (y := x3) (z := 0) (pcN := 22) jIK_127_21 rfl (by omega) rfl ?_
  refine jT_adv 1 (pcN := 23) (LN := [(3, (0, 2)), (0, (4, 0)), (1, (4, 1)), (2, (0, x3))]) (stN := []) (hsN := jpK_122) (c1 := 0) (s1 := 0) (c2 := 2) (s2 := 8) (by exact rfl) ?_ (by omega) (by omega)
  refine jT_xiinc (x := 2) (z := 3) (LN := [(3, (0, 3)), (0, (4, 0)), (1, (4, 1)), (2, (0, x3))]) (pcN := 26) jIK_127_23 rfl rfl (by decide) rfl rfl ?_
  refine jT_xgoto (pcN := 2) jIK_127_26 rfl ?_
  refine jT_xiload_n (v := (0, 3)) (pcN := 3) jIK_127_2 rfl rfl rfl ?_
  refine jT_xbipush (k := 6) (pcN := 5) jIK_127_3 (by decide) rfl ?_
  refine jT_xicF (t := 29) (pcN := 8) jIK_127_5 rfl (by decide +kernel) rfl rfl ?_
  refine jT_xaload_n (v := (4, 0)) (pcN := 9) jIK_127_8 rfl rfl rfl ?_
  refine jT_xgetf (a := 0) (t := 1) (ci := 13) (fi := 7) (c := jzK_14) (v := (4, 9)) (pcN := 12) jIK_127_9 rfl rfl rfl rfl rfl rfl rfl ?_
  refine jT_xiload_n (v := (0, 3)) (pcN := 13) jIK_127_12 rfl rfl rfl ?_
  refine jT_xaload_n (v := (4, 1)) (pcN := 14) jIK_127_13 rfl rfl rfl ?_
  refine jT_xgetf (a := 1) (t := 2) (ci := 4) (fi := 0) (c := (4, [(4, 13), (1, 1)], [])) (v := (4, 13)) (pcN := 17) jIK_127_14 rfl rfl rfl rfl rfl rfl rfl ?_
  refine jT_xiload_n (v := (0, 3)) (pcN := 18) jIK_127_17 rfl rfl rfl ?_
  refine jT_lald (x := 0) (a := 13) (j := 3) (fs := []) (X := [0, 0, 0, 0, 0, 0]) jIK_127_18 rfl rfl rfl rfl ?_
  refine jT_eq (LN := [(3, (0, 3)), (0, (4, 0)), (1, (4, 1)), (2, (0, x3))]) (stN := [(1, 0), (0, 3), (4, 9)]) (hsN := jpK_122) rfl rfl rfl ?_
  refine jT_xiload_n (v := (0, x3)) (pcN := 20) jIK_127_19 rfl rfl rfl ?_
  refine jT_xi2l (x := x3) (z := x3) (pcN := 21) jIK_127_20 rfl (jw_idd (by omega) (by omega)) rfl ?_
  refine jT_xlmul (x := 0) (y := x3) (z := 0) (pcN := 22) jIK_127_21 rfl (by omega) rfl ?_
  refine jT_adv 1 (pcN := 23) (LN := [(3, (0, 3)), (0, (4, 0)), (1, (4, 1)), (2, (0, x3))]) (stN := []) (hsN := jpK_122) (c1 := 0) (s1 := 0) (c2 := 2) (s2 := 8) (by exact rfl) ?_ (by omega) (by omega)
  refine jT_xiinc (x := 3) (z := 4) (LN := [(3, (0, 4)), (0, (4, 0)), (1, (4, 1)), (2, (0, x3))]) (pcN := 26) jIK_127_23 rfl rfl (by decide) rfl rfl ?_
  refine jT_xgoto (pcN := 2) jIK_127_26 rfl ?_
  refine jT_xiload_n (v := (0, 4)) (pcN := 3) jIK_127_2 rfl rfl rfl ?_
  refine jT_xbipush (k := 6) (pcN := 5) jIK_127_3 (by decide) rfl ?_
  refine jT_xicF (t := 29) (pcN := 8) jIK_127_5 rfl (by decide +kernel) rfl rfl ?_
  refine jT_xaload_n (v := (4, 0)) (pcN := 9) jIK_127_8 rfl rfl rfl ?_
  refine jT_xgetf (a := 0) (t := 1) (ci := 13) (fi := 7) (c := jzK_14) (v := (4, 9)) (pcN := 12) jIK_127_9 rfl rfl rfl rfl rfl rfl rfl ?_
  refine jT_xiload_n (v := (0, 4)) (pcN := 13) jIK_127_12 rfl rfl rfl ?_
  refine jT_xaload_n (v := (4, 1)) (pcN := 14) jIK_127_13 rfl rfl rfl ?_
  refine jT_xgetf (a := 1) (t := 2) (ci := 4) (fi := 0) (c := (4, [(4, 13), (1, 1)], [])) (v := (4, 13)) (pcN := 17) jIK_127_14 rfl rfl rfl rfl rfl rfl rfl ?_
  refine jT_xiload_n (v := (0, 4)) (pcN := 18) jIK_127_17 rfl rfl rfl ?_
  refine jT_lald (x := 0) (a := 13) (j := 4) (fs := []) (X := [0, 0, 0, 0, 0, 0]) jIK_127_18 rfl rfl rfl rfl ?_
  refine jT_eq (LN := [(3, (0, 4)), (0, (4, 0)), (1, (4, 1)), (2, (0, x3))]) (stN := [(1, 0), (0, 4), (4, 9)]) (hsN := jpK_122) rfl rfl rfl ?_
  refine jT_xiload_n (v := (0, x3)) (pcN := 20) jIK_127_19 rfl rfl rfl ?_
  refine jT_xi2l (x := x3) (z := x3) (pcN := 21) jIK_127_20 rfl (jw_idd (by omega) (by omega)) rfl ?_
  refine jT_xlmul (x := 0) (y := x3) (z := 0) (pcN := 22) jIK_127_21 rfl (by omega) rfl ?_
  refine jT_adv 1 (pcN := 23) (LN := [(3, (0, 4)), (0, (4, 0)), (1, (4, 1)), (2, (0, x3))]) (stN := []) (hsN := jpK_122) (c1 := 0) (s1 := 0) (c2 := 2) (s2 := 8) (by exact rfl) ?_ (by omega) (by omega)
  refine jT_xiinc (x := 4) (z := 5) (LN := [(3, (0, 5)), (0, (4, 0)), (1, (4, 1)), (2, (0, x3))]) (pcN := 26) jIK_127_23 rfl rfl (by decide) rfl rfl ?_
  refine jT_xgoto (pcN := 2) jIK_127_26 rfl ?_
  refine jT_xiload_n (v := (0, 5)) (pcN := 3) jIK_127_2 rfl rfl rfl ?_
  refine jT_xbipush (k := 6) (pcN := 5) jIK_127_3 (by decide) rfl ?_
  refine jT_xicF (t := 29) (pcN := 8) jIK_127_5 rfl (by decide +kernel) rfl rfl ?_
  refine jT_xaload_n (v := (4, 0)) (pcN := 9) jIK_127_8 rfl rfl rfl ?_
  refine jT_xgetf (a := 0) (t := 1) (ci := 13) (fi := 7) (c := jzK_14) (v := (4, 9)) (pcN := 12) jIK_127_9 rfl rfl rfl rfl rfl rfl rfl ?_
  refine jT_xiload_n (v := (0, 5)) (pcN := 13) jIK_127_12 rfl rfl rfl ?_
  refine jT_xaload_n (v := (4, 1)) (pcN := 14) jIK_127_13 rfl rfl rfl ?_
  refine jT_xgetf (a := 1) (t := 2) (ci := 4) (fi := 0) (c := (4, [(4, 13), (1, 1)], [])) (v := (4, 13)) (pcN := 17) jIK_127_14 rfl rfl rfl rfl rfl rfl rfl ?_
  refine jT_xiload_n (v := (0, 5)) (pcN := 18) jIK_127_17 rfl rfl rfl ?_
  refine jT_lald (x := 0) (a := 13) (j := 5) (fs := []) (X := [0, 0, 0, 0, 0, 0]) jIK_127_18 rfl rfl rfl rfl ?_
  refine jT_eq (LN := [(3, (0, 5)), (0, (4, 0)), (1, (4, 1)), (2, (0, x3))]) (stN := [(1, 0), (0, 5), (4, 9)]) (hsN := jpK_122) rfl rfl rfl ?_
  refine jT_xiload_n (v := (0, x3)) (pcN := 20) jIK_127_19 rfl rfl rfl ?_
  refine jT_xi2l (x := x3) (z := x3) (pcN := 21) jIK_127_20 rfl (jw_idd (by omega) (by omega)) rfl ?_
  refine jT_xlmul (x := 0) (y := x3) (z := 0) (pcN := 22) jIK_127_21 rfl (by omega) rfl ?_
  refine jT_adv 1 (pcN := 23) (LN := [(3, (0, 5)), (0, (4, 0)), (1, (4, 1)), (2, (0, x3))]) (stN := []) (hsN := jpK_122) (c1 := 0) (s1 := 0) (c2 := 2) (s2 := 8) (by exact rfl) ?_ (by omega) (by omega)
  refine jT_xiinc (x := 5) (z := 6) (LN := [(3, (0, 6)), (0, (4, 0)), (1, (4, 1)), (2, (0, x3))]) (pcN := 26) jIK_127_23 rfl rfl (by decide) rfl rfl ?_
  refine jT_xgoto (pcN := 2) jIK_127_26 rfl ?_
  refine jT_xiload_n (v := (0, 6)) (pcN := 3) jIK_127_2 rfl rfl rfl ?_
  refine jT_xbipush (k := 6) (pcN := 5) jIK_127_3 (by decide) rfl ?_
  refine jT_xicT (pcN := 29) jIK_127_5 rfl (by decide +kernel) rfl ?_
  refine jT_xaload_n (v := (4, 1)) (pcN := 30) jIK_127_29 rfl rfl rfl ?_
  refine jT_xiload_n (v := (0, x3)) (pcN := 31) jIK_127_30 rfl rfl rfl ?_
  refine jT_xi2l (x := x3) (z := x3) (pcN := 32) jIK_127_31 rfl (jw_idd (by omega) (by omega)) rfl ?_
  refine jT_xlconst (z := 1) (pcN := 33) jIK_127_32 rfl rfl ?_
  refine jT_xaload_n (v := (4, 0)) (pcN := 34) jIK_127_33 rfl rfl rfl ?_
  refine jT_xgetf (a := 0) (t := 1) (ci := 13) (fi := 0) (c := jzK_14) (v := (4, 2)) (pcN := 37) jIK_127_34 rfl rfl rfl rfl rfl rfl rfl ?_
  refine jT_xaload_n (v := (4, 0)) (pcN := 38) jIK_127_37 rfl rfl rfl ?_
  refine jT_xgetf (a := 0) (t := 1) (ci := 13) (fi := 7) (c := jzK_14) (v := (4, 9)) (pcN := 41) jIK_127_38 rfl rfl rfl rfl rfl rfl rfl ?_
  refine jT_xaload_n (v := (4, 1)) (pcN := 42) jIK_127_41 rfl rfl rfl ?_
  refine jT_xgetf (a := 1) (t := 2) (ci := 4) (fi := 1) (c := (4, [(4, 13), (1, 1)], [])) (v := (1, 1)) (pcN := 45) jIK_127_42 rfl rfl rfl rfl rfl rfl rfl ?_
  refine jT_xlconst (z := 1) (pcN := 46) jIK_127_45 rfl rfl ?_
  refine jT_fR [2, 9, 14, 15] 16 (y := 45) (pcN := 49) (dC := 1) (bc1 := 0) (bc2 := 0) (c1 := 2) (c2 := 8) (as := [(4, 2), (4, 9), (1, 1), (1, 1)]) (asC := [(4, 0), (4, 1), (1, 1), (1, 1)]) (LN := [(3, (0, 6)), (0, (4, 0)), (1, (4, 1)), (2, (0, x3))]) (stN := [(1, 1), (1, x3), (4, 1)]) (hsC := jpK_75) (v := (1, 0)) (st2 := [(1, 0), (1, 1), (1, x3), (4, 1)]) (jK_45_35 (d := 0)) (by rfl) (by rfl) (by decide +kernel) (by rfl) (by rfl) (by omega) (by omega) (by omega) (by omega) rfl ?_
  refine jT_adv 1 (pcN := 50) (LN := [(3, (0, 6)), (0, (4, 0)), (1, (4, 1)), (2, (0, x3))]) (stN := [(1, 0), (1, 1), (1, x3), (4, 1)]) (hsN := jpK_122) (c1 := 0) (s1 := 0) (c2 := 2) (s2 := 8) (by exact rfl) ?_ (by omega) (by omega)
  refine jT_fA [1, 13] 16 (y := 10) (pcN := 53) (dC := 2) (bc1 := 2) (bc2 := 8) (c1 := 0) (c2 := 0) (as := [(4, 1), (1, x3), (1, 1), (1, 0)]) (asC := [(4, 0), (1, x3), (1, 1), (1, 0)]) (LN := [(3, (0, 6)), (0, (4, 0)), (1, (4, 1)), (2, (0, x3))]) (stN := []) (hsC := [(4, [(4, 1), (1, 1)], []), (101, [], [0, 0, 0, 0, 0, 0])]) (ex := [(101, [], [0, 0, 0, 0, 0, 0]), (4, [(4, 2), (1, 1)], [])]) (v := (4, 3)) (st2 := [(4, 17)]) (hs2 := jpK_139) (jK_10_38 (d := 0) (by omega)) (by rfl) (by rfl) (by decide +kernel) (by rfl) (by rfl) (by omega) (by omega) (by omega) (by omega) rfl (by decide +kernel) ?_
  exact jT_ret rfl (by decide) (by show 16 ≤ 18; omega) (by omega) (by omega) ⟨rfl, rfl, rfl⟩
theorem jK_16_40 {xs : List Int} {d : Nat} : jT xs d 16 2 0 [(0, (4, 0))] [] [(4, [(4, 1), (1, 1)], []), (101, [], [0, 0, 0, 0, 0, 0])] 0 0 (fun k v hsN => k = 0 ∧ v = (1, 0) ∧ hsN = [(4, [(4, 1), (1, 1)], []), (101, [], [0, 0, 0, 0, 0, 0])] ++ []) := by
  refine jT_advK 86 (pcN := 31) (LN := [(3, (0, 6)), (1, (1, 0)), (0, (4, 0))]) (stN := [(1, 0)]) (hsN := [(4, [(4, 1), (1, 1)], []), (101, [], [0, 0, 0, 0, 0, 0])]) (c1 := 0) (s1 := 0) (c2 := 0) (s2 := 0) (by decide +kernel) ?_ (by omega) (by omega)
  exact jT_ret rfl (by decide) (by show 2 ≤ 2; omega) (by omega) (by omega) ⟨rfl, rfl, rfl⟩
theorem jK_15_41 {xs : List Int} {d : Nat} : jT xs (d + 1) 15 2 0 [(0, (4, 0))] [] [(4, [(4, 1), (1, 1)], []), (101, [], [0, 0, 0, 0, 0, 0])] 0 0 (fun k v hsN => k = 0 ∧ v = (0, 1) ∧ hsN = [(4, [(4, 1), (1, 1)], []), (101, [], [0, 0, 0, 0, 0, 0])] ++ []) := by
  refine jT_advK 6 (pcN := 12) (LN := [(0, (4, 0))]) (stN := [(4, 0)]) (hsN := [(4, [(4, 1), (1, 1)], []), (101, [], [0, 0, 0, 0, 0, 0])]) (c1 := 0) (s1 := 0) (c2 := 0) (s2 := 0) (by decide +kernel) ?_ (by omega) (by omega)
  refine jT_fR [0, 1] 2 (y := 16) (pcN := 15) (dC := 0) (bc1 := 0) (bc2 := 0) (c1 := 0) (c2 := 0) (as := [(4, 0)]) (asC := [(4, 0)]) (LN := [(0, (4, 0))]) (stN := []) (hsC := [(4, [(4, 1), (1, 1)], []), (101, [], [0, 0, 0, 0, 0, 0])]) (v := (1, 0)) (st2 := [(1, 0)]) (jK_16_40 (d := 0)) (by rfl) (by rfl) (by decide +kernel) (by rfl) (by rfl) (by omega) (by omega) (by omega) (by omega) rfl ?_
  refine jT_advK 5 (pcN := 27) (LN := [(0, (4, 0))]) (stN := [(0, 1)]) (hsN := [(4, [(4, 1), (1, 1)], []), (101, [], [0, 0, 0, 0, 0, 0])]) (c1 := 0) (s1 := 0) (c2 := 0) (s2 := 0) (by decide +kernel) ?_ (by omega) (by omega)
  exact jT_ret rfl (by decide) (by show 2 ≤ 2; omega) (by omega) (by omega) ⟨rfl, rfl, rfl⟩
theorem jK_117_42 {xs : List Int} {d : Nat} : jT xs (d + 2) 117 3 0 [(0, (4, 0)), (1, (4, 1))] [] [jgh, (4, [(4, 2), (1, 1)], []), (101, [], [0, 0, 0, 0, 0, 0])] 0 0 (fun k v hsN => k = 0 ∧ v = (9, 0) ∧ hsN = [jgh, (4, [(4, 2), (1, 1)], []), (101, [], [0, 0, 0, 0, 0, 0])] ++ []) := by
  refine jT_advK 3 (pcN := 5) (LN := [(0, (4, 0)), (1, (4, 1))]) (stN := [(4, 1)]) (hsN := [jgh, (4, [(4, 2), (1, 1)], []), (101, [], [0, 0, 0, 0, 0, 0])]) (c1 := 0) (s1 := 0) (c2 := 0) (s2 := 0) (by decide +kernel) ?_ (by omega) (by omega)
  refine jT_fR [1, 2] 3 (y := 15) (pcN := 8) (dC := 1) (bc1 := 0) (bc2 := 0) (c1 := 0) (c2 := 0) (as := [(4, 1)]) (asC := [(4, 0)]) (LN := [(0, (4, 0)), (1, (4, 1))]) (stN := []) (hsC := [(4, [(4, 1), (1, 1)], []), (101, [], [0, 0, 0, 0, 0, 0])]) (v := (0, 1)) (st2 := [(0, 1)]) (jK_15_41 (d := 0)) (by rfl) (by rfl) (by decide +kernel) (by rfl) (by rfl) (by omega) (by omega) (by omega) (by omega) rfl ?_
  refine jT_advK 1 (pcN := 22) (LN := [(0, (4, 0)), (1, (4, 1))]) (stN := []) (hsN := [jgh, (4, [(4, 2), (1, 1)], []), (101, [], [0, 0, 0, 0, 0, 0])]) (c1 := 0) (s1 := 0) (c2 := 0) (s2 := 0) (by decide +kernel) ?_ (by omega) (by omega)
  exact jT_ret rfl (by decide) (by show 3 ≤ 3; omega) (by omega) (by omega) ⟨rfl, rfl, rfl⟩
def jzK_140 : JC := (114, [], [(-1), (-1), (-1), (-1), (-1), (-1), (-1), (-1), (-1), (-1), (-1), (-1), (-1), (-1), (-1), (-1), (-1), (-1), (-1), (-1), (-1), (-1), (-1), (-1), (-1), (-1), (-1), (-1), (-1), (-1), (-1), (-1), (-1), (-1), (-1), (-1), (-1), (-1), (-1), (-1)])
theorem jK_48_43 {xs : List Int} {d : Nat} : jT xs d 48 3 0 [(0, (4, 0)), (1, (4, 1)), (2, (0, 0)), (3, (4, 2))] [] [jgh, jzK_140, jgh] 0 0 (fun k v hsN => k = 0 ∧ v = (0, (-1)) ∧ hsN = [jgh, jzK_140, jgh] ++ []) := by
  refine jT_advK 13 (pcN := 71) (LN := [(5, (0, 0)), (4, (0, 0)), (0, (4, 0)), (1, (4, 1)), (2, (0, 0)), (3, (4, 2))]) (stN := [(0, (-1))]) (hsN := [jgh, jzK_140, jgh]) (c1 := 0) (s1 := 0) (c2 := 0) (s2 := 0) (by decide +kernel) ?_ (by omega) (by omega)
  exact jT_ret rfl (by decide) (by show 3 ≤ 3; omega) (by omega) (by omega) ⟨rfl, rfl, rfl⟩
def jpK_141 : List JC := [(8, [(4, 3), (4, 4)], []), jzK_140, (4, [(4, 5), (1, 1)], []), jgh, jgh, jgh]
def jzK_142 : JC := (114, [], [2, (-1), (-1), (-1), (-1), (-1), (-1), (-1), (-1), (-1), (-1), (-1), (-1), (-1), (-1), (-1), (-1), (-1), (-1), (-1), (-1), (-1), (-1), (-1), (-1), (-1), (-1), (-1), (-1), (-1), (-1), (-1), (-1), (-1), (-1), (-1), (-1), (-1), (-1), (-1)])
def jpK_143 : List JC := [(8, [(4, 3), (4, 4)], []), jzK_142, (4, [(4, 5), (1, 1)], []), jgh, jgh, jgh]
theorem jK_49_44 {xs : List Int} {d : Nat} : jT xs (d + 1) 49 6 0 [(0, (4, 0)), (1, (4, 1)), (2, (0, 0)), (3, (4, 2))] [] jpK_141 0 0 (fun k v hsN => k = 0 ∧ v = (0, 1) ∧ hsN = jpK_143) := by
  refine jT_advK 4 (pcN := 4) (LN := [(0, (4, 0)), (1, (4, 1)), (2, (0, 0)), (3, (4, 2))]) (stN := [(4, 2), (0, 0), (4, 1), (4, 0)]) (hsN := jpK_141) (c1 := 0) (s1 := 0) (c2 := 0) (s2 := 0) (by decide +kernel) ?_ (by omega) (by omega)
  refine jT_fR [0, 1, 2] 6 (y := 48) (pcN := 7) (dC := 0) (bc1 := 0) (bc2 := 0) (c1 := 0) (c2 := 0) (as := [(4, 0), (4, 1), (0, 0), (4, 2)]) (asC := [(4, 0), (4, 1), (0, 0), (4, 2)]) (LN := [(0, (4, 0)), (1, (4, 1)), (2, (0, 0)), (3, (4, 2))]) (stN := []) (hsC := [jgh, jzK_140, jgh]) (v := (0, (-1))) (st2 := [(0, (-1))]) (jK_48_43 (d := 0)) (by rfl) (by rfl) (by decide +kernel) (by rfl) (by rfl) (by omega) (by omega) (by omega) (by omega) rfl ?_
  refine jT_advK 23 (pcN := 60) (LN := [(5, (0, 0)), (4, (0, (-1))), (0, (4, 0)), (1, (4, 1)), (2, (0, 0)), (3, (4, 2))]) (stN := [(0, 1)]) (hsN := jpK_143) (c1 := 0) (s1 := 0) (c2 := 0) (s2 := 0) (by decide +kernel) ?_ (by omega) (by omega)
  exact jT_ret rfl (by decide) (by show 6 ≤ 6; omega) (by omega) (by omega) ⟨rfl, rfl, rfl⟩
theorem jK_10_45 {xs : List Int} {d : Nat} {t y3 : Int} (h_t : 1 ≤ t ∧ t ≤ 39) (h_y3 : (-50) ≤ y3 ∧ y3 ≤ 50) : jT xs (d + 2) 10 2 0 [(0, (4, 0)), (1, (1, t + y3)), (3, (1, 1)), (5, (1, 0))] [] [(4, [(4, 1), (1, 1)], []), (101, [], [0, 0, 0, 0, 0, 0])] 2 8 (fun k v hsN => k = 0 ∧ v = (4, 3) ∧ hsN = [(4, [(4, 1), (1, 1)], []), (101, [], [0, 0, 0, 0, 0, 0])] ++ [(101, [], [0, 0, 0, 0, 0, 0]), (4, [(4, 2), (1, 1)], [])]) := by
  refine jT_xbipush (k := 6) (pcN := 2) jIK_10_0 (by decide) rfl ?_
  refine jT_adv 1 (pcN := 4) (LN := [(0, (4, 0)), (1, (1, t + y3)), (3, (1, 1)), (5, (1, 0))]) (stN := [(4, 2)]) (hsN := [(4, [(4, 1), (1, 1)], []), (101, [], [0, 0, 0, 0, 0, 0]), (101, [], [0, 0, 0, 0, 0, 0])]) (c1 := 1) (s1 := 6) (c2 := 1) (s2 := 2) (by exact rfl) ?_ (by omega) (by omega)
  refine jT_xastore (v := (4, 2)) (LN := [(7, (4, 2)), (0, (4, 0)), (1, (1, t + y3)), (3, (1, 1)), (5, (1, 0))]) (pcN := 6) jIK_10_4 rfl rfl rfl rfl ?_
  refine jT_xiconst (k := 0) (pcN := 7) jIK_10_6 rfl ?_
  refine jT_xistore (v := (0, 0)) (LN := [(8, (0, 0)), (7, (4, 2)), (0, (4, 0)), (1, (1, t + y3)), (3, (1, 1)), (5, (1, 0))]) (pcN := 9) jIK_10_7 rfl rfl rfl rfl ?_
  refine jT_xiload (v := (0, 0)) (pcN := 11) jIK_10_9 rfl rfl rfl ?_
  refine jT_xbipush (k := 6) (pcN := 13) jIK_10_11 (by decide) rfl ?_
  refine jT_xicF (t := 36) (pcN := 16) jIK_10_13 rfl (by decide +kernel) rfl rfl ?_
  refine jT_xaload (v := (4, 2)) (pcN := 18) jIK_10_16 rfl rfl rfl ?_
  refine jT_xiload (v := (0, 0)) (pcN := 20) jIK_10_18 rfl rfl rfl ?_
  refine jT_xaload_n (v := (4, 0)) (pcN := 21) jIK_10_20 rfl rfl rfl ?_
  refine jT_xgetf (a := 0) (t := 1) (ci := 4) (fi := 0) (c := (4, [(4, 1), (1, 1)], [])) (v := (4, 1)) (pcN := 24) jIK_10_21 rfl rfl rfl rfl rfl rfl rfl ?_
  refine jT_xiload (v := (0, 0)) (pcN := 26) jIK_10_24 rfl rfl rfl ?_
  refine jT_lald (x := 0) (a := 1) (j := 0) (fs := []) (X := [0, 0, 0, 0, 0, 0]) jIK_10_26 rfl rfl rfl rfl ?_
  refine jT_eq (LN := [(8, (0, 0)), (7, (4, 2)), (0, (4, 0)), (1, (1, t + y3)), (3, (1, 1)), (5, (1, 0))]) (stN := [(1, 0), (0, 0), (4, 2)]) (hsN := [(4, [(4, 1), (1, 1)], []), (101, [], [0, 0, 0, 0, 0, 0]), (101, [], [0, 0, 0, 0, 0, 0])]) rfl rfl rfl ?_
  refine jT_xlload_n (v := (1, t + y3)) (pcN := 28) jIK_10_27 rfl rfl rfl ?_
  refine jT_xlmul (x := 0) (y := t + y3) (z := 0) (pcN := 29) jIK_10_28 rfl (by omega) rfl ?_
  refine jT_adv 1 (pcN := 30) (LN := [(8, (0, 0)), (7, (4, 2)), (0, (4, 0)), (1, (1, t + y3)), (3, (1, 1)), (5, (1, 0))]) (stN := []) (hsN := [(4, [(4, 1), (1, 1)], []), (101, [], [0, 0, 0, 0, 0, 0]), (101, [], [0, 0, 0, 0, 0, 0])]) (c1 := 0) (s1 := 0) (c2 := 1) (s2 := 2) (by exact rfl) ?_ (by omega) (by omega)
  refine jT_xiinc (x := 0) (z := 1) (LN := [(8, (0, 1)), (7, (4, 2)), (0, (4, 0)), (1, (1, t + y3)), (3, (1, 1)), (5, (1, 0))]) (pcN := 33) jIK_10_30 rfl rfl (by decide) rfl rfl ?_
  refine jT_xgoto (pcN := 9) jIK_10_33 rfl ?_
  refine jT_xiload (v := (0, 1)) (pcN := 11) jIK_10_9 rfl rfl rfl ?_
  refine jT_xbipush (k := 6) (pcN := 13) jIK_10_11 (by decide) rfl ?_
  refine jT_xicF (t := 36) (pcN := 16) jIK_10_13 rfl (by decide +kernel) rfl rfl ?_
  refine jT_xaload (v := (4, 2)) (pcN := 18) jIK_10_16 rfl rfl rfl ?_
  refine jT_xiload (v := (0, 1)) (pcN := 20) jIK_10_18 rfl rfl rfl ?_
  refine jT_xaload_n (v := (4, 0)) (pcN := 21) jIK_10_20 rfl rfl rfl ?_
  refine jT_xgetf (a := 0) (t := 1) (ci := 4) (fi := 0) (c := (4, [(4, 1), (1, 1)], [])) (v := (4, 1)) (pcN := 24) jIK_10_21 rfl rfl rfl rfl rfl rfl rfl ?_
  refine jT_xiload (v := (0, 1)) (pcN := 26) jIK_10_24 rfl rfl rfl ?_
  refine jT_lald (x := 0) (a := 1) (j := 1) (fs := []) (X := [0, 0, 0, 0, 0, 0]) jIK_10_26 rfl rfl rfl rfl ?_
  refine jT_eq (LN := [(8, (0, 1)), (7, (4, 2)), (0, (4, 0)), (1, (1, t + y3)), (3, (1, 1)), (5, (1, 0))]) (stN := [(1, 0), (0, 1), (4, 2)]) (hsN := [(4, [(4, 1), (1, 1)], []), (101, [], [0, 0, 0, 0, 0, 0]), (101, [], [0, 0, 0, 0, 0, 0])]) rfl rfl rfl ?_
  refine jT_xlload_n (v := (1, t + y3)) (pcN := 28) jIK_10_27 rfl rfl rfl ?_
  refine jT_xlmul (x := 0) (y := t + y3) (z := 0) (pcN := 29) jIK_10_28 rfl (by omega) rfl ?_
  refine jT_adv 1 (pcN := 30) (LN := [(8, (0, 1)), (7, (4, 2)), (0, (4, 0)), (1, (1, t + y3)), (3, (1, 1)), (5, (1, 0))]) (stN := []) (hsN := [(4, [(4, 1), (1, 1)], []), (101, [], [0, 0, 0, 0, 0, 0]), (101, [], [0, 0, 0, 0, 0, 0])]) (c1 := 0) (s1 := 0) (c2 := 1) (s2 := 2) (by exact rfl) ?_ (by omega) (by omega)
  refine jT_xiinc (x := 1) (z := 2) (LN := [(8, (0, 2)), (7, (4, 2)), (0, (4, 0)), (1, (1, t + y3)), (3, (1, 1)), (5, (1, 0))]) (pcN := 33) jIK_10_30 rfl rfl (by decide) rfl rfl ?_
  refine jT_xgoto (pcN := 9) jIK_10_33 rfl ?_
  refine jT_xiload (v := (0, 2)) (pcN := 11) jIK_10_9 rfl rfl rfl ?_
  refine jT_xbipush (k := 6) (pcN := 13) jIK_10_11 (by decide) rfl ?_
  refine jT_xicF (t := 36) (pcN := 16) jIK_10_13 rfl (by decide +kernel) rfl rfl ?_
  refine jT_xaload (v := (4, 2)) (pcN := 18) jIK_10_16 rfl rfl rfl ?_
  refine jT_xiload (v := (0, 2)) (pcN := 20) jIK_10_18 rfl rfl rfl ?_
  refine jT_xaload_n (v := (4, 0)) (pcN := 21) jIK_10_20 rfl rfl rfl ?_
  refine jT_xgetf (a := 0) (t := 1) (ci := 4) (fi := 0) (c := (4, [(4, 1), (1, 1)], [])) (v := (4, 1)) (pcN := 24) jIK_10_21 rfl rfl rfl rfl rfl rfl rfl ?_
  refine jT_xiload (v := (0, 2)) (pcN := 26) jIK_10_24 rfl rfl rfl ?_
  refine jT_lald (x := 0) (a := 1) (j := 2) (fs := []) (X := [0, 0, 0, 0, 0, 0]) jIK_10_26 rfl rfl rfl rfl ?_
  refine jT_eq (LN := [(8, (0, 2)), (7, (4, 2)), (0, (4, 0)), (1, (1, t + y3)), (3, (1, 1)), (5, (1, 0))]) (stN := [(1, 0), (0, 2), (4, 2)]) (hsN := [(4, [(4, 1), (1, 1)], []), (101, [], [0, 0, 0, 0, 0, 0]), (101, [], [0, 0, 0, 0, 0, 0])]) rfl rfl rfl ?_
  refine jT_xlload_n (v := (1, t + y3)) (pcN := 28) jIK_10_27 rfl rfl rfl ?_
  refine jT_xlmul (x := 0) (y := t + y3) (z := 0) (pcN := 29) jIK_10_28 rfl (by omega) rfl ?_
  refine jT_adv 1 (pcN := 30) (LN := [(8, (0, 2)), (7, (4, 2)), (0, (4, 0)), (1, (1, t + y3)), (3, (1, 1)), (5, (1, 0))]) (stN := []) (hsN := [(4, [(4, 1), (1, 1)], []), (101, [], [0, 0, 0, 0, 0, 0]), (101, [], [0, 0, 0, 0, 0, 0])]) (c1 := 0) (s1 := 0) (c2 := 1) (s2 := 2) (by exact rfl) ?_ (by omega) (by omega)
  refine jT_xiinc (x := 2) (z := 3) (LN := [(8, (0, 3)), (7, (4, 2)), (0, (4, 0)), (1, (1, t + y3)), (3, (1, 1)), (5, (1, 0))]) (pcN := 33) jIK_10_30 rfl rfl (by decide) rfl rfl ?_
  refine jT_xgoto (pcN := 9) jIK_10_33 rfl ?_
  refine jT_xiload (v := (0, 3)) (pcN := 11) jIK_10_9 rfl rfl rfl ?_
  refine jT_xbipush (k := 6) (pcN := 13) jIK_10_11 (by decide) rfl ?_
  refine jT_xicF (t := 36) (pcN := 16) jIK_10_13 rfl (by decide +kernel) rfl rfl ?_
  refine jT_xaload (v := (4, 2)) (pcN := 18) jIK_10_16 rfl rfl rfl ?_
  refine jT_xiload (v := (0, 3)) (pcN := 20) jIK_10_18 rfl rfl rfl ?_
  refine jT_xaload_n (v := (4, 0)) (pcN := 21) jIK_10_20 rfl rfl rfl ?_
  refine jT_xgetf (a := 0) (t := 1) (ci := 4) (fi := 0) (c := (4, [(4, 1), (1, 1)], [])) (v := (4, 1)) (pcN := 24) jIK_10_21 rfl rfl rfl rfl rfl rfl rfl ?_
  refine jT_xiload (v := (0, 3)) (pcN := 26) jIK_10_24 rfl rfl rfl ?_
  refine jT_lald (x := 0) (a := 1) (j := 3) (fs := []) (X := [0, 0, 0, 0, 0, 0]) jIK_10_26 rfl rfl rfl rfl ?_
  refine jT_eq (LN := [(8, (0, 3)), (7, (4, 2)), (0, (4, 0)), (1, (1, t + y3)), (3, (1, 1)), (5, (1, 0))]) (stN := [(1, 0), (0, 3), (4, 2)]) (hsN := [(4, [(4, 1), (1, 1)], []), (101, [], [0, 0, 0, 0, 0, 0]), (101, [], [0, 0, 0, 0, 0, 0])]) rfl rfl rfl ?_
  refine jT_xlload_n (v := (1, t + y3)) (pcN := 28) jIK_10_27 rfl rfl rfl ?_
  refine jT_xlmul (x := 0) (y := t + y3) (z := 0) (pcN := 29) jIK_10_28 rfl (by omega) rfl ?_
  refine jT_adv 1 (pcN := 30) (LN := [(8, (0, 3)), (7, (4, 2)), (0, (4, 0)), (1, (1, t + y3)), (3, (1, 1)), (5, (1, 0))]) (stN := []) (hsN := [(4, [(4, 1), (1, 1)], []), (101, [], [0, 0, 0, 0, 0, 0]), (101, [], [0, 0, 0, 0, 0, 0])]) (c1 := 0) (s1 := 0) (c2 := 1) (s2 := 2) (by exact rfl) ?_ (by omega) (by omega)
  refine jT_xiinc (x := 3) (z := 4) (LN := [(8, (0, 4)), (7, (4, 2)), (0, (4, 0)), (1, (1, t + y3)), (3, (1, 1)), (5, (1, 0))]) (pcN := 33) jIK_10_30 rfl rfl (by decide) rfl rfl ?_
  refine jT_xgoto (pcN := 9) jIK_10_33 rfl ?_
  refine jT_xiload (v := (0, 4)) (pcN := 11) jIK_10_9 rfl rfl rfl ?_
  refine jT_xbipush (k := 6) (pcN := 13) jIK_10_11 (by decide) rfl ?_
  refine jT_xicF (t := 36) (pcN := 16) jIK_10_13 rfl (by decide +kernel) rfl rfl ?_
  refine jT_xaload (v := (4, 2)) (pcN := 18) jIK_10_16 rfl rfl rfl ?_
  refine jT_xiload (v := (0, 4)) (pcN := 20) jIK_10_18 rfl rfl rfl ?_
  refine jT_xaload_n (v := (4, 0)) (pcN := 21) jIK_10_20 rfl rfl rfl ?_
  refine jT_xgetf (a := 0) (t := 1) (ci := 4) (fi := 0) (c := (4, [(4, 1), (1, 1)], [])) (v := (4, 1)) (pcN := 24) jIK_10_21 rfl rfl rfl rfl rfl rfl rfl ?_
  refine jT_xiload (v := (0, 4)) (pcN := 26) jIK_10_24 rfl rfl rfl ?_
  refine jT_lald (x := 0) (a := 1) (j := 4) (fs := []) (X := [0, 0, 0, 0, 0, 0]) jIK_10_26 rfl rfl rfl rfl ?_
  refine jT_eq (LN := [(8, (0, 4)), (7, (4, 2)), (0, (4, 0)), (1, (1, t + y3)), (3, (1, 1)), (5, (1, 0))]) (stN := [(1, 0), (0, 4), (4, 2)]) (hsN := [(4, [(4, 1), (1, 1)], []), (101, [], [0, 0, 0, 0, 0, 0]), (101, [], [0, 0, 0, 0, 0, 0])]) rfl rfl rfl ?_
  refine jT_xlload_n (v := (1, t + y3)) (pcN := 28) jIK_10_27 rfl rfl rfl ?_
  refine jT_xlmul (x := 0) (y := t + y3) (z := 0) (pcN := 29) jIK_10_28 rfl (by omega) rfl ?_
  refine jT_adv 1 (pcN := 30) (LN := [(8, (0, 4)), (7, (4, 2)), (0, (4, 0)), (1, (1, t + y3)), (3, (1, 1)), (5, (1, 0))]) (stN := []) (hsN := [(4, [(4, 1), (1, 1)], []), (101, [], [0, 0, 0, 0, 0, 0]), (101, [], [0, 0, 0, 0, 0, 0])]) (c1 := 0) (s1 := 0) (c2 := 1) (s2 := 2) (by exact rfl) ?_ (by omega) (by omega)
  refine jT_xiinc (x := 4) (z := 5) (LN := [(8, (0, 5)), (7, (4, 2)), (0, (4, 0)), (1, (1, t + y3)), (3, (1, 1)), (5, (1, 0))]) (pcN := 33) jIK_10_30 rfl rfl (by decide) rfl rfl ?_
  refine jT_xgoto (pcN := 9) jIK_10_33 rfl ?_
  refine jT_xiload (v := (0, 5)) (pcN := 11) jIK_10_9 rfl rfl rfl ?_
  refine jT_xbipush (k := 6) (pcN := 13) jIK_10_11 (by decide) rfl ?_
  refine jT_xicF (t := 36) (pcN := 16) jIK_10_13 rfl (by decide +kernel) rfl rfl ?_
  refine jT_xaload (v := (4, 2)) (pcN := 18) jIK_10_16 rfl rfl rfl ?_
  refine jT_xiload (v := (0, 5)) (pcN := 20) jIK_10_18 rfl rfl rfl ?_
  refine jT_xaload_n (v := (4, 0)) (pcN := 21) jIK_10_20 rfl rfl rfl ?_
  refine jT_xgetf (a := 0) (t := 1) (ci := 4) (fi := 0) (c := (4, [(4, 1), (1, 1)], [])) (v := (4, 1)) (pcN := 24) jIK_10_21 rfl rfl rfl rfl rfl rfl rfl ?_
  refine jT_xiload (v := (0, 5)) (pcN := 26) jIK_10_24 rfl rfl rfl ?_
  refine jT_lald (x := 0) (a := 1) (j := 5) (fs := []) (X := [0, 0, 0, 0, 0, 0]) jIK_10_26 rfl rfl rfl rfl ?_
  refine jT_eq (LN := [(8, (0, 5)), (7, (4, 2)), (0, (4, 0)), (1, (1, t + y3)), (3, (1, 1)), (5, (1, 0))]) (stN := [(1, 0), (0, 5), (4, 2)]) (hsN := [(4, [(4, 1), (1, 1)], []), (101, [], [0, 0, 0, 0, 0, 0]), (101, [], [0, 0, 0, 0, 0, 0])]) rfl rfl rfl ?_
  refine jT_xlload_n (v := (1, t + y3)) (pcN := 28) jIK_10_27 rfl rfl rfl ?_
  refine jT_xlmul (x := 0) (y := t + y3) (z := 0) (pcN := 29) jIK_10_28 rfl (by omega) rfl ?_
  refine jT_adv 1 (pcN := 30) (LN := [(8, (0, 5)), (7, (4, 2)), (0, (4, 0)), (1, (1, t + y3)), (3, (1, 1)), (5, (1, 0))]) (stN := []) (hsN := [(4, [(4, 1), (1, 1)], []), (101, [], [0, 0, 0, 0, 0, 0]), (101, [], [0, 0, 0, 0, 0, 0])]) (c1 := 0) (s1 := 0) (c2 := 1) (s2 := 2) (by exact rfl) ?_ (by omega) (by omega)
  refine jT_xiinc (x := 5) (z := 6) (LN := [(8, (0, 6)), (7, (4, 2)), (0, (4, 0)), (1, (1, t + y3)), (3, (1, 1)), (5, (1, 0))]) (pcN := 33) jIK_10_30 rfl rfl (by decide) rfl rfl ?_
  refine jT_xgoto (pcN := 9) jIK_10_33 rfl ?_
  refine jT_xiload (v := (0, 6)) (pcN := 11) jIK_10_9 rfl rfl rfl ?_
  refine jT_xbipush (k := 6) (pcN := 13) jIK_10_11 (by decide) rfl ?_
  refine jT_xicT (pcN := 36) jIK_10_13 rfl (by decide +kernel) rfl ?_
  refine jT_xaload (v := (4, 2)) (pcN := 38) jIK_10_36 rfl rfl rfl ?_
  refine jT_xiconst (k := 0) (pcN := 39) jIK_10_38 rfl ?_
  refine jT_adv 1 (pcN := 40) (LN := [(8, (0, 6)), (7, (4, 2)), (0, (4, 0)), (1, (1, t + y3)), (3, (1, 1)), (5, (1, 0))]) (stN := [(0, 0), (4, 2), (0, 0), (4, 2)]) (hsN := [(4, [(4, 1), (1, 1)], []), (101, [], [0, 0, 0, 0, 0, 0]), (101, [], [0, 0, 0, 0, 0, 0])]) (c1 := 0) (s1 := 0) (c2 := 1) (s2 := 2) (by exact rfl) ?_ (by omega) (by omega)
  refine jT_lald (x := 0) (a := 2) (j := 0) (fs := []) (X := [0, 0, 0, 0, 0, 0]) jIK_10_40 rfl rfl rfl rfl ?_
  refine jT_eq (LN := [(8, (0, 6)), (7, (4, 2)), (0, (4, 0)), (1, (1, t + y3)), (3, (1, 1)), (5, (1, 0))]) (stN := [(1, 0), (0, 0), (4, 2)]) (hsN := [(4, [(4, 1), (1, 1)], []), (101, [], [0, 0, 0, 0, 0, 0]), (101, [], [0, 0, 0, 0, 0, 0])]) rfl rfl rfl ?_
  refine jT_xlload (v := (1, 0)) (pcN := 43) jIK_10_41 rfl rfl rfl ?_
  refine jT_xaload_n (v := (4, 0)) (pcN := 44) jIK_10_43 rfl rfl rfl ?_
  refine jT_xgetf (a := 0) (t := 1) (ci := 4) (fi := 1) (c := (4, [(4, 1), (1, 1)], [])) (v := (1, 1)) (pcN := 47) jIK_10_44 rfl rfl rfl rfl rfl rfl rfl ?_
  refine jT_xlmul (x := 0) (y := 1) (z := 0) (pcN := 48) jIK_10_47 rfl (by decide) rfl ?_
  refine jT_xlload_n (v := (1, 1)) (pcN := 49) jIK_10_48 rfl rfl rfl ?_
  refine jT_xlmul (x := 0) (y := 1) (z := 0) (pcN := 50) jIK_10_49 rfl (by decide) rfl ?_
  refine jT_xladd (x := 0) (y := 0) (z := 0) (pcN := 51) jIK_10_50 rfl (by decide) rfl ?_
  refine jT_adv 3 (pcN := 56) (LN := [(8, (0, 6)), (7, (4, 2)), (0, (4, 0)), (1, (1, t + y3)), (3, (1, 1)), (5, (1, 0))]) (stN := [(4, 3), (4, 3)]) (hsN := jpK_103) (c1 := 1) (s1 := 2) (c2 := 0) (s2 := 0) (by exact rfl) ?_ (by omega) (by omega)
  refine jT_xaload (v := (4, 2)) (pcN := 58) jIK_10_56 rfl rfl rfl ?_
  refine jT_xaload_n (v := (4, 0)) (pcN := 59) jIK_10_58 rfl rfl rfl ?_
  refine jT_xgetf (a := 0) (t := 1) (ci := 4) (fi := 1) (c := (4, [(4, 1), (1, 1)], [])) (v := (1, 1)) (pcN := 62) jIK_10_59 rfl rfl rfl rfl rfl rfl rfl ?_
  refine jT_xlload_n (v := (1, 1)) (pcN := 63) jIK_10_62 rfl rfl rfl ?_
  refine jT_xlmul (x := 1) (y := 1) (z := 1) (pcN := 64) jIK_10_63 rfl (by decide) rfl ?_
  refine jT_fB [3, 2] 4 (y := 9) (pcN := 67) (dC := 1) (bc1 := 0) (bc2 := 0) (c1 := 0) (c2 := 0) (as := [(4, 3), (4, 2), (1, 1)]) (asC := [(4, 0), (4, 1), (1, 1)]) (LN := [(8, (0, 6)), (7, (4, 2)), (0, (4, 0)), (1, (1, t + y3)), (3, (1, 1)), (5, (1, 0))]) (stN := [(4, 3)]) (hsC := [(4, [(4, (-1)), (1, 0)], []), (101, [], [0, 0, 0, 0, 0, 0])]) (hsD := [(4, [(4, 1), (1, 1)], []), (101, [], [0, 0, 0, 0, 0, 0])]) (v := (9, 0)) (st2 := [(4, 3)]) (hs2 := jpK_109) (jK_9_37 (d := 0)) (by rfl) (by rfl) (by decide +kernel) (by rfl) (by rfl) (by omega) (by omega) (by omega) (by omega) rfl (by decide +kernel) ?_
  exact jT_ret rfl (by decide) (by show 2 ≤ 4; omega) (by omega) (by omega) ⟨rfl, rfl, rfl⟩
theorem jK_127_46 {xs : List Int} {d : Nat} {t y3 : Int} (h_t : 1 ≤ t ∧ t ≤ 39) (h_y3 : (-50) ≤ y3 ∧ y3 ≤ 50) : jT xs (d + 3) 127 16 0 [(0, (4, 0)), (1, (4, 1)), (2, (0, t + y3))] [] jpK_122 2 8 (fun k v hsN => k = 0 ∧ v = (4, 17) ∧ hsN = jpK_122 ++ [(101, [], [0, 0, 0, 0, 0, 0]), (4, [(4, 16), (1, 1)], [])]) := by
  refine jT_xiconst (k := 0) (pcN := 1) jIK_127_0 rfl ?_
  refine jT_xistore_n (v := (0, 0)) (LN := [(3, (0, 0)), (0, (4, 0)), (1, (4, 1)), (2, (0, t + y3))]) (pcN := 2) jIK_127_1 rfl rfl rfl rfl ?_
  refine jT_xiload_n (v := (0, 0)) (pcN := 3) jIK_127_2 rfl rfl rfl ?_
  refine jT_xbipush (k := 6) (pcN := 5) jIK_127_3 (by decide) rfl ?_
  refine jT_xicF (t := 29) (pcN := 8) jIK_127_5 rfl (by decide +kernel) rfl rfl ?_
  refine jT_xaload_n (v := (4, 0)) (pcN := 9) jIK_127_8 rfl rfl rfl ?_
  refine jT_xgetf (a := 0) (t := 1) (ci := 13) (fi := 7) (c := jzK_14) (v := (4, 9)) (pcN := 12) jIK_127_9 rfl rfl rfl rfl rfl rfl rfl ?_
  refine jT_xiload_n (v := (0, 0)) (pcN := 13) jIK_127_12 rfl rfl rfl ?_
  refine jT_xaload_n (v := (4, 1)) (pcN := 14) jIK_127_13 rfl rfl rfl ?_
  refine jT_xgetf (a := 1) (t := 2) (ci := 4) (fi := 0) (c := (4, [(4, 13), (1, 1)], [])) (v := (4, 13)) (pcN := 17) jIK_127_14 rfl rfl rfl rfl rfl rfl rfl ?_
  refine jT_xiload_n (v := (0, 0)) (pcN := 18) jIK_127_17 rfl rfl rfl ?_
  refine jT_lald (x := 0) (a := 13) (j := 0) (fs := []) (X := [0, 0, 0, 0, 0, 0]) jIK_127_18 rfl rfl rfl rfl ?_
  refine jT_eq (LN := [(3, (0, 0)), (0, (4, 0)), (1, (4, 1)), (2, (0, t + y3))]) (stN := [(1, 0), (0, 0), (4, 9)]) (hsN := jpK_122) rfl rfl rfl ?_
  refine jT_xiload_n (v := (0, t + y3)) (pcN := 20) jIK_127_19 rfl rfl rfl ?_
  refine jT_xi2l (x := t + y3) (z := t + y3) (pcN := 21) jIK_127_20 rfl (jw_idd (by omega) (by omega)) rfl ?_
  refine jT_xlmul (x := 0) (y := t + y3) (z := 0) (pcN := 22) jIK_127_21 rfl (by omega) rfl ?_
  refine jT_adv 1 (pcN := 23) (LN := [(3, (0, 0)), (0, (4, 0)), (1, (4, 1)), (2, (0, t + y3))]) (stN := []) (hsN := jpK_122) (c1 := 0) (s1 := 0) (c2 := 2) (s2 := 8) (by exact rfl) ?_ (by omega) (by omega)
  refine jT_xiinc (x := 0) (z := 1) (LN := [(3, (0, 1)), (0, (4, 0)), (1, (4, 1)), (2, (0, t + y3))]) (pcN := 26) jIK_127_23 rfl rfl (by decide) rfl rfl ?_
  refine jT_xgoto (pcN := 2) jIK_127_26 rfl ?_
  refine jT_xiload_n (v := (0, 1)) (pcN := 3) jIK_127_2 rfl rfl rfl ?_
  refine jT_xbipush (k := 6) (pcN := 5) jIK_127_3 (by decide) rfl ?_
  refine jT_xicF (t := 29) (pcN := 8) jIK_127_5 rfl (by decide +kernel) rfl rfl ?_
  refine jT_xaload_n (v := (4, 0)) (pcN := 9) jIK_127_8 rfl rfl rfl ?_
  refine jT_xgetf (a := 0) (t := 1) (ci := 13) (fi := 7) (c := jzK_14) (v := (4, 9)) (pcN := 12) jIK_127_9 rfl rfl rfl rfl rfl rfl rfl ?_
  refine jT_xiload_n (v := (0, 1)) (pcN := 13) jIK_127_12 rfl rfl rfl ?_
  refine jT_xaload_n (v := (4, 1)) (pcN := 14) jIK_127_13 rfl rfl rfl ?_
  refine jT_xgetf (a := 1) (t := 2) (ci := 4) (fi := 0) (c := (4, [(4, 13), (1, 1)], [])) (v := (4, 13)) (pcN := 17) jIK_127_14 rfl rfl rfl rfl rfl rfl rfl ?_
  refine jT_xiload_n (v := (0, 1)) (pcN := 18) jIK_127_17 rfl rfl rfl ?_
  refine jT_lald (x := 0) (a := 13) (j := 1) (fs := []) (X := [0, 0, 0, 0, 0, 0]) jIK_127_18 rfl rfl rfl rfl ?_
  refine jT_eq (LN := [(3, (0, 1)), (0, (4, 0)), (1, (4, 1)), (2, (0, t + y3))]) (stN := [(1, 0), (0, 1), (4, 9)]) (hsN := jpK_122) rfl rfl rfl ?_
  refine jT_xiload_n (v := (0, t + y3)) (pcN := 20) jIK_127_19 rfl rfl rfl ?_
  refine jT_xi2l (x := t + y3) (z := t + y3) (pcN := 21) jIK_127_20 rfl (jw_idd (by omega) (by omega)) rfl ?_
  refine jT_xlmul (x := 0) (y := t + y3) (z := 0) (pcN := 22) jIK_127_21 rfl (by omega) rfl ?_
  refine jT_adv 1 (pcN := 23) (LN := [(3, (0, 1)), (0, (4, 0)), (1, (4, 1)), (2, (0, t + y3))]) (stN := []) (hsN := jpK_122) (c1 := 0) (s1 := 0) (c2 := 2) (s2 := 8) (by exact rfl) ?_ (by omega) (by omega)
  refine jT_xiinc (x := 1) (z := 2) (LN := [(3, (0, 2)), (0, (4, 0)), (1, (4, 1)), (2, (0, t + y3))]) (pcN := 26) jIK_127_23 rfl rfl (by decide) rfl rfl ?_
  refine jT_xgoto (pcN := 2) jIK_127_26 rfl ?_
  refine jT_xiload_n (v := (0, 2)) (pcN := 3) jIK_127_2 rfl rfl rfl ?_
  refine jT_xbipush (k := 6) (pcN := 5) jIK_127_3 (by decide) rfl ?_
  refine jT_xicF (t := 29) (pcN := 8) jIK_127_5 rfl (by decide +kernel) rfl rfl ?_
  refine jT_xaload_n (v := (4, 0)) (pcN := 9) jIK_127_8 rfl rfl rfl ?_
  refine jT_xgetf (a := 0) (t := 1) (ci := 13) (fi := 7) (c := jzK_14) (v := (4, 9)) (pcN := 12) jIK_127_9 rfl rfl rfl rfl rfl rfl rfl ?_
  refine jT_xiload_n (v := (0, 2)) (pcN := 13) jIK_127_12 rfl rfl rfl ?_
  refine jT_xaload_n (v := (4, 1)) (pcN := 14) jIK_127_13 rfl rfl rfl ?_
  refine jT_xgetf (a := 1) (t := 2) (ci := 4) (fi := 0) (c := (4, [(4, 13), (1, 1)], [])) (v := (4, 13)) (pcN := 17) jIK_127_14 rfl rfl rfl rfl rfl rfl rfl ?_
  refine jT_xiload_n (v := (0, 2)) (pcN := 18) jIK_127_17 rfl rfl rfl ?_
  refine jT_lald (x := 0) (a := 13) (j := 2) (fs := []) (X := [0, 0, 0, 0, 0, 0]) jIK_127_18 rfl rfl rfl rfl ?_
  refine jT_eq (LN := [(3, (0, 2)), (0, (4, 0)), (1, (4, 1)), (2, (0, t + y3))]) (stN := [(1, 0), (0, 2), (4, 9)]) (hsN := jpK_122) rfl rfl rfl ?_
  refine jT_xiload_n (v := (0, t + y3)) (pcN := 20) jIK_127_19 rfl rfl rfl ?_
  refine jT_xi2l (x := t + y3) (z := t + y3) (pcN := 21) jIK_127_20 rfl (jw_idd (by omega) (by omega)) rfl ?_
  refine jT_xlmul (x := 0) (y := t + y3) (z := 0) (pcN := 22) jIK_127_21 rfl (by omega) rfl ?_
  refine jT_adv 1 (pcN := 23) (LN := [(3, (0, 2)), (0, (4, 0)), (1, (4, 1)), (2, (0, t + y3))]) (stN := []) (hsN := jpK_122) (c1 := 0) (s1 := 0) (c2 := 2) (s2 := 8) (by exact rfl) ?_ (by omega) (by omega)
  refine jT_xiinc (x := 2) (z := 3) (LN := [(3, (0, 3)), (0, (4, 0)), (1, (4, 1)), (2, (0, t + y3))]) (pcN := 26) jIK_127_23 rfl rfl (by decide) rfl rfl ?_
  refine jT_xgoto (pcN := 2) jIK_127_26 rfl ?_
  refine jT_xiload_n (v := (0, 3)) (pcN := 3) jIK_127_2 rfl rfl rfl ?_
  refine jT_xbipush (k := 6) (pcN := 5) jIK_127_3 (by decide) rfl ?_
  refine jT_xicF (t := 29) (pcN := 8) jIK_127_5 rfl (by decide +kernel) rfl rfl ?_
  refine jT_xaload_n (v := (4, 0)) (pcN := 9) jIK_127_8 rfl rfl rfl ?_
  refine jT_xgetf (a := 0) (t := 1) (ci := 13) (fi := 7) (c := jzK_14) (v := (4, 9)) (pcN := 12) jIK_127_9 rfl rfl rfl rfl rfl rfl rfl ?_
  refine jT_xiload_n (v := (0, 3)) (pcN := 13) jIK_127_12 rfl rfl rfl ?_
  refine jT_xaload_n (v := (4, 1)) (pcN := 14) jIK_127_13 rfl rfl rfl ?_
  refine jT_xgetf (a := 1) (t := 2) (ci := 4) (fi := 0) (c := (4, [(4, 13), (1, 1)], [])) (v := (4, 13)) (pcN := 17) jIK_127_14 rfl rfl rfl rfl rfl rfl rfl ?_
  refine jT_xiload_n (v := (0, 3)) (pcN := 18) jIK_127_17 rfl rfl rfl ?_
  refine jT_lald (x := 0) (a := 13) (j := 3) (fs := []) (X := [0, 0, 0, 0, 0, 0]) jIK_127_18 rfl rfl rfl rfl ?_
  refine jT_eq (LN := [(3, (0, 3)), (0, (4, 0)), (1, (4, 1)), (2, (0, t + y3))]) (stN := [(1, 0), (0, 3), (4, 9)]) (hsN := jpK_122) rfl rfl rfl ?_
  refine jT_xiload_n (v := (0, t + y3)) (pcN := 20) jIK_127_19 rfl rfl rfl ?_
  refine jT_xi2l (x := t + y3) (z := t + y3) (pcN := 21) jIK_127_20 rfl (jw_idd (by omega) (by omega)) rfl ?_
  refine jT_xlmul (x := 0) (y := t + y3) (z := 0) (pcN := 22) jIK_127_21 rfl (by omega) rfl ?_
  refine jT_adv 1 (pcN := 23) (LN := [(3, (0, 3)), (0, (4, 0)), (1, (4, 1)), (2, (0, t + y3))]) (stN := []) (hsN := jpK_122) (c1 := 0) (s1 := 0) (c2 := 2) (s2 := 8) (by exact rfl) ?_ (by omega) (by omega)
  refine jT_xiinc (x := 3) (z := 4) (LN := [(3, (0, 4)), (0, (4, 0)), (1, (4, 1)), (2, (0, t + y3))]) (pcN := 26) jIK_127_23 rfl rfl (by decide) rfl rfl ?_
  refine jT_xgoto (pcN := 2) jIK_127_26 rfl ?_
  refine jT_xiload_n (v := (0, 4)) (pcN := 3) jIK_127_2 rfl rfl rfl ?_
  refine jT_xbipush (k := 6) (pcN := 5) jIK_127_3 (by decide) rfl ?_
  refine jT_xicF (t := 29) (pcN := 8) jIK_127_5 rfl (by decide +kernel) rfl rfl ?_
  refine jT_xaload_n (v := (4, 0)) (pcN := 9) jIK_127_8 rfl rfl rfl ?_
  refine jT_xgetf (a := 0) (t := 1) (ci := 13) (fi := 7) (c := jzK_14) (v := (4, 9)) (pcN := 12) jIK_127_9 rfl rfl rfl rfl rfl rfl rfl ?_
  refine jT_xiload_n (v := (0, 4)) (pcN := 13) jIK_127_12 rfl rfl rfl ?_
  refine jT_xaload_n (v := (4, 1)) (pcN := 14) jIK_127_13 rfl rfl rfl ?_
  refine jT_xgetf (a := 1) (t := 2) (ci := 4) (fi := 0) (c := (4, [(4, 13), (1, 1)], [])) (v := (4, 13)) (pcN := 17) jIK_127_14 rfl rfl rfl rfl rfl rfl rfl ?_
  refine jT_xiload_n (v := (0, 4)) (pcN := 18) jIK_127_17 rfl rfl rfl ?_
  refine jT_lald (x := 0) (a := 13) (j := 4) (fs := []) (X := [0, 0, 0, 0, 0, 0]) jIK_127_18 rfl rfl rfl rfl ?_
  refine jT_eq (LN := [(3, (0, 4)), (0, (4, 0)), (1, (4, 1)), (2, (0, t + y3))]) (stN := [(1, 0), (0, 4), (4, 9)]) (hsN := jpK_122) rfl rfl rfl ?_
  refine jT_xiload_n (v := (0, t + y3)) (pcN := 20) jIK_127_19 rfl rfl rfl ?_
  refine jT_xi2l (x := t + y3) (z := t + y3) (pcN := 21) jIK_127_20 rfl (jw_idd (by omega) (by omega)) rfl ?_
  refine jT_xlmul (x := 0) (y := t + y3) (z := 0) (pcN := 22) jIK_127_21 rfl (by omega) rfl ?_
  refine jT_adv 1 (pcN := 23) (LN := [(3, (0, 4)), (0, (4, 0)), (1, (4, 1)), (2, (0, t + y3))]) (stN := []) (hsN := jpK_122) (c1 := 0) (s1 := 0) (c2 := 2) (s2 := 8) (by exact rfl) ?_ (by omega) (by omega)
  refine jT_xiinc (x := 4) (z := 5) (LN := [(3, (0, 5)), (0, (4, 0)), (1, (4, 1)), (2, (0, t + y3))]) (pcN := 26) jIK_127_23 rfl rfl (by decide) rfl rfl ?_
  refine jT_xgoto (pcN := 2) jIK_127_26 rfl ?_
  refine jT_xiload_n (v := (0, 5)) (pcN := 3) jIK_127_2 rfl rfl rfl ?_
  refine jT_xbipush (k := 6) (pcN := 5) jIK_127_3 (by decide) rfl ?_
  refine jT_xicF (t := 29) (pcN := 8) jIK_127_5 rfl (by decide +kernel) rfl rfl ?_
  refine jT_xaload_n (v := (4, 0)) (pcN := 9) jIK_127_8 rfl rfl rfl ?_
  refine jT_xgetf (a := 0) (t := 1) (ci := 13) (fi := 7) (c := jzK_14) (v := (4, 9)) (pcN := 12) jIK_127_9 rfl rfl rfl rfl rfl rfl rfl ?_
  refine jT_xiload_n (v := (0, 5)) (pcN := 13) jIK_127_12 rfl rfl rfl ?_
  refine jT_xaload_n (v := (4, 1)) (pcN := 14) jIK_127_13 rfl rfl rfl ?_
  refine jT_xgetf (a := 1) (t := 2) (ci := 4) (fi := 0) (c := (4, [(4, 13), (1, 1)], [])) (v := (4, 13)) (pcN := 17) jIK_127_14 rfl rfl rfl rfl rfl rfl rfl ?_
  refine jT_xiload_n (v := (0, 5)) (pcN := 18) jIK_127_17 rfl rfl rfl ?_
  refine jT_lald (x := 0) (a := 13) (j := 5) (fs := []) (X := [0, 0, 0, 0, 0, 0]) jIK_127_18 rfl rfl rfl rfl ?_
  refine jT_eq (LN := [(3, (0, 5)), (0, (4, 0)), (1, (4, 1)), (2, (0, t + y3))]) (stN := [(1, 0), (0, 5), (4, 9)]) (hsN := jpK_122) rfl rfl rfl ?_
  refine jT_xiload_n (v := (0, t + y3)) (pcN := 20) jIK_127_19 rfl rfl rfl ?_
  refine jT_xi2l (x := t + y3) (z := t + y3) (pcN := 21) jIK_127_20 rfl (jw_idd (by omega) (by omega)) rfl ?_
  refine jT_xlmul (x := 0) (y := t + y3) (z := 0) (pcN := 22) jIK_127_21 rfl (by omega) rfl ?_
  refine jT_adv 1 (pcN := 23) (LN := [(3, (0, 5)), (0, (4, 0)), (1, (4, 1)), (2, (0, t + y3))]) (stN := []) (hsN := jpK_122) (c1 := 0) (s1 := 0) (c2 := 2) (s2 := 8) (by exact rfl) ?_ (by omega) (by omega)
  refine jT_xiinc (x := 5) (z := 6) (LN := [(3, (0, 6)), (0, (4, 0)), (1, (4, 1)), (2, (0, t + y3))]) (pcN := 26) jIK_127_23 rfl rfl (by decide) rfl rfl ?_
  refine jT_xgoto (pcN := 2) jIK_127_26 rfl ?_
  refine jT_xiload_n (v := (0, 6)) (pcN := 3) jIK_127_2 rfl rfl rfl ?_
  refine jT_xbipush (k := 6) (pcN := 5) jIK_127_3 (by decide) rfl ?_
  refine jT_xicT (pcN := 29) jIK_127_5 rfl (by decide +kernel) rfl ?_
  refine jT_xaload_n (v := (4, 1)) (pcN := 30) jIK_127_29 rfl rfl rfl ?_
  refine jT_xiload_n (v := (0, t + y3)) (pcN := 31) jIK_127_30 rfl rfl rfl ?_
  refine jT_xi2l (x := t + y3) (z := t + y3) (pcN := 32) jIK_127_31 rfl (jw_idd (by omega) (by omega)) rfl ?_
  refine jT_xlconst (z := 1) (pcN := 33) jIK_127_32 rfl rfl ?_
  refine jT_xaload_n (v := (4, 0)) (pcN := 34) jIK_127_33 rfl rfl rfl ?_
  refine jT_xgetf (a := 0) (t := 1) (ci := 13) (fi := 0) (c := jzK_14) (v := (4, 2)) (pcN := 37) jIK_127_34 rfl rfl rfl rfl rfl rfl rfl ?_
  refine jT_xaload_n (v := (4, 0)) (pcN := 38) jIK_127_37 rfl rfl rfl ?_
  refine jT_xgetf (a := 0) (t := 1) (ci := 13) (fi := 7) (c := jzK_14) (v := (4, 9)) (pcN := 41) jIK_127_38 rfl rfl rfl rfl rfl rfl rfl ?_
  refine jT_xaload_n (v := (4, 1)) (pcN := 42) jIK_127_41 rfl rfl rfl ?_
  refine jT_xgetf (a := 1) (t := 2) (ci := 4) (fi := 1) (c := (4, [(4, 13), (1, 1)], [])) (v := (1, 1)) (pcN := 45) jIK_127_42 rfl rfl rfl rfl rfl rfl rfl ?_
  refine jT_xlconst (z := 1) (pcN := 46) jIK_127_45 rfl rfl ?_
  refine jT_fR [2, 9, 14, 15] 16 (y := 45) (pcN := 49) (dC := 1) (bc1 := 0) (bc2 := 0) (c1 := 2) (c2 := 8) (as := [(4, 2), (4, 9), (1, 1), (1, 1)]) (asC := [(4, 0), (4, 1), (1, 1), (1, 1)]) (LN := [(3, (0, 6)), (0, (4, 0)), (1, (4, 1)), (2, (0, t + y3))]) (stN := [(1, 1), (1, t + y3), (4, 1)]) (hsC := jpK_75) (v := (1, 0)) (st2 := [(1, 0), (1, 1), (1, t + y3), (4, 1)]) (jK_45_35 (d := 0)) (by rfl) (by rfl) (by decide +kernel) (by rfl) (by rfl) (by omega) (by omega) (by omega) (by omega) rfl ?_
  refine jT_adv 1 (pcN := 50) (LN := [(3, (0, 6)), (0, (4, 0)), (1, (4, 1)), (2, (0, t + y3))]) (stN := [(1, 0), (1, 1), (1, t + y3), (4, 1)]) (hsN := jpK_122) (c1 := 0) (s1 := 0) (c2 := 2) (s2 := 8) (by exact rfl) ?_ (by omega) (by omega)
  refine jT_fA [1, 13] 16 (y := 10) (pcN := 53) (dC := 2) (bc1 := 2) (bc2 := 8) (c1 := 0) (c2 := 0) (as := [(4, 1), (1, t + y3), (1, 1), (1, 0)]) (asC := [(4, 0), (1, t + y3), (1, 1), (1, 0)]) (LN := [(3, (0, 6)), (0, (4, 0)), (1, (4, 1)), (2, (0, t + y3))]) (stN := []) (hsC := [(4, [(4, 1), (1, 1)], []), (101, [], [0, 0, 0, 0, 0, 0])]) (ex := [(101, [], [0, 0, 0, 0, 0, 0]), (4, [(4, 2), (1, 1)], [])]) (v := (4, 3)) (st2 := [(4, 17)]) (hs2 := jpK_139) (jK_10_45 (d := 0) (by omega) (by omega)) (by rfl) (by rfl) (by decide +kernel) (by rfl) (by rfl) (by omega) (by omega) (by omega) (by omega) rfl (by decide +kernel) ?_
  exact jT_ret rfl (by decide) (by show 16 ≤ 18; omega) (by omega) (by omega) ⟨rfl, rfl, rfl⟩
theorem jK_372_47 {xs : List Int} {d : Nat} : jT xs d 372 0 0 [(0, (1, 0)), (2, (1, 0))] [] [] 0 0 (fun k v hsN => k = 0 ∧ v = (0, 0) ∧ hsN = [] ++ []) := by
  refine jT_advK 10 (pcN := 21) (LN := [(0, (1, 0)), (2, (1, 0))]) (stN := [(0, 0)]) (hsN := []) (c1 := 0) (s1 := 0) (c2 := 0) (s2 := 0) (by decide +kernel) ?_ (by omega) (by omega)
  exact jT_ret rfl (by decide) (by show 0 ≤ 0; omega) (by omega) (by omega) ⟨rfl, rfl, rfl⟩
theorem jK_38_48 {xs : List Int} {d : Nat} : jT xs (d + 1) 38 3 0 [(0, (4, 0)), (1, (4, 1))] [] [(8, [(4, 2), (4, 1)], []), (101, [], [0, 0, 0, 0, 0, 0]), jgh] 0 0 (fun k v hsN => k = 0 ∧ v = (0, 0) ∧ hsN = [(8, [(4, 2), (4, 1)], []), (101, [], [0, 0, 0, 0, 0, 0]), jgh] ++ []) := by
  refine jT_advK 2 (pcN := 2) (LN := [(0, (4, 0)), (1, (4, 1))]) (stN := [(4, 1), (4, 0)]) (hsN := [(8, [(4, 2), (4, 1)], []), (101, [], [0, 0, 0, 0, 0, 0]), jgh]) (c1 := 0) (s1 := 0) (c2 := 0) (s2 := 0) (by decide +kernel) ?_ (by omega) (by omega)
  refine jT_fR [0, 1] 3 (y := 39) (pcN := 5) (dC := 0) (bc1 := 0) (bc2 := 0) (c1 := 0) (c2 := 0) (as := [(4, 0), (4, 1)]) (asC := [(4, 0), (4, 1)]) (LN := [(0, (4, 0)), (1, (4, 1))]) (stN := []) (hsC := [jgh, (101, [], [0, 0, 0, 0, 0, 0])]) (v := (1, 0)) (st2 := [(1, 0)]) (jK_39_33 (d := 0)) (by rfl) (by rfl) (by decide +kernel) (by rfl) (by rfl) (by omega) (by omega) (by omega) (by omega) rfl ?_
  refine jT_advK 9 (pcN := 16) (LN := [(2, (1, 0)), (0, (4, 0)), (1, (4, 1))]) (stN := [(1, 0), (1, 0)]) (hsN := [(8, [(4, 2), (4, 1)], []), (101, [], [0, 0, 0, 0, 0, 0]), jgh]) (c1 := 0) (s1 := 0) (c2 := 0) (s2 := 0) (by decide +kernel) ?_ (by omega) (by omega)
  refine jT_fR [] 3 (y := 372) (pcN := 19) (dC := 0) (bc1 := 0) (bc2 := 0) (c1 := 0) (c2 := 0) (as := [(1, 0), (1, 0)]) (asC := [(1, 0), (1, 0)]) (LN := [(2, (1, 0)), (0, (4, 0)), (1, (4, 1))]) (stN := []) (hsC := []) (v := (0, 0)) (st2 := [(0, 0)]) (jK_372_47 (d := 0)) (by rfl) (by rfl) (by decide +kernel) (by rfl) (by rfl) (by omega) (by omega) (by omega) (by omega) rfl ?_
  exact jT_ret rfl (by decide) (by show 3 ≤ 3; omega) (by omega) (by omega) ⟨rfl, rfl, rfl⟩
def jpK_144 : List JC := [(8, [(4, 3), (4, 4)], []), (4, [(4, 5), (1, 1)], []), (4, [(4, 6), (1, 1)], []), jgh, (101, [], [0, 0, 0, 0, 0, 0]), (101, [], [0, 0, 0, 0, 0, 0]), (101, [], [0, 0, 0, 0, 0, 0])]
theorem jK_46_49 {xs : List Int} {d : Nat} : jT xs (d + 2) 46 7 0 [(0, (4, 0)), (1, (4, 1)), (2, (4, 2))] [] jpK_144 0 0 (fun k v hsN => k = 0 ∧ v = (0, 0) ∧ hsN = jpK_144 ++ []) := by
  refine jT_advK 152 (pcN := 48) (LN := [(3, (0, 6)), (0, (4, 0)), (1, (4, 1)), (2, (4, 2))]) (stN := [(4, 4), (4, 0)]) (hsN := jpK_144) (c1 := 0) (s1 := 0) (c2 := 0) (s2 := 0) (by decide +kernel) ?_ (by omega) (by omega)
  refine jT_fR [0, 4, 3] 7 (y := 38) (pcN := 51) (dC := 1) (bc1 := 0) (bc2 := 0) (c1 := 0) (c2 := 0) (as := [(4, 0), (4, 4)]) (asC := [(4, 0), (4, 1)]) (LN := [(3, (0, 6)), (0, (4, 0)), (1, (4, 1)), (2, (4, 2))]) (stN := []) (hsC := [(8, [(4, 2), (4, 1)], []), (101, [], [0, 0, 0, 0, 0, 0]), jgh]) (v := (0, 0)) (st2 := [(0, 0)]) (jK_38_48 (d := 0)) (by rfl) (by rfl) (by decide +kernel) (by rfl) (by rfl) (by omega) (by omega) (by omega) (by omega) rfl ?_
  exact jT_ret rfl (by decide) (by show 7 ≤ 7; omega) (by omega) (by omega) ⟨rfl, rfl, rfl⟩
def jzK_145 : JC := (114, [], [5, (-1), (-1), (-1), (-1), (-1), (-1), (-1), (-1), (-1), (-1), (-1), (-1), (-1), (-1), (-1), (-1), (-1), (-1), (-1), (-1), (-1), (-1), (-1), (-1), (-1), (-1), (-1), (-1), (-1), (-1), (-1), (-1), (-1), (-1), (-1), (-1), (-1), (-1), (-1)])
def jpK_146 : List JC := [(8, [(4, 3), (4, 4)], []), jzK_145, (4, [(4, 6), (1, 1)], []), jgh, (101, [], [0, 0, 0, 0, 0, 0]), (4, [(4, 7), (1, 1)], []), (101, [], [0, 0, 0, 0, 0, 0]), (101, [], [0, 0, 0, 0, 0, 0])]
theorem jK_48_50 {xs : List Int} {d : Nat} : jT xs (d + 3) 48 8 0 [(0, (4, 0)), (1, (4, 1)), (2, (0, 1)), (3, (4, 2))] [] jpK_146 0 0 (fun k v hsN => k = 0 ∧ v = (0, 0) ∧ hsN = jpK_146 ++ []) := by
  refine jT_advK 21 (pcN := 33) (LN := [(6, (0, 0)), (5, (0, 1)), (4, (0, 0)), (0, (4, 0)), (1, (4, 1)), (2, (0, 1)), (3, (4, 2))]) (stN := [(4, 2), (4, 5), (4, 0)]) (hsN := jpK_146) (c1 := 0) (s1 := 0) (c2 := 0) (s2 := 0) (by decide +kernel) ?_ (by omega) (by omega)
  refine jT_fR [0, 5, 2, 3, 4, 7, 6] 8 (y := 46) (pcN := 36) (dC := 2) (bc1 := 0) (bc2 := 0) (c1 := 0) (c2 := 0) (as := [(4, 0), (4, 5), (4, 2)]) (asC := [(4, 0), (4, 1), (4, 2)]) (LN := [(6, (0, 0)), (5, (0, 1)), (4, (0, 0)), (0, (4, 0)), (1, (4, 1)), (2, (0, 1)), (3, (4, 2))]) (stN := []) (hsC := jpK_144) (v := (0, 0)) (st2 := [(0, 0)]) (jK_46_49 (d := 0)) (by rfl) (by rfl) (by decide +kernel) (by rfl) (by rfl) (by omega) (by omega) (by omega) (by omega) rfl ?_
  refine jT_advK 4 (pcN := 45) (LN := [(7, (0, 0)), (6, (0, 0)), (5, (0, 1)), (4, (0, 0)), (0, (4, 0)), (1, (4, 1)), (2, (0, 1)), (3, (4, 2))]) (stN := [(0, 0)]) (hsN := jpK_146) (c1 := 0) (s1 := 0) (c2 := 0) (s2 := 0) (by decide +kernel) ?_ (by omega) (by omega)
  exact jT_ret rfl (by decide) (by show 8 ≤ 8; omega) (by omega) (by omega) ⟨rfl, rfl, rfl⟩
theorem jK_49_51 {xs : List Int} {d : Nat} : jT xs (d + 4) 49 8 0 [(0, (4, 0)), (1, (4, 1)), (2, (0, 1)), (3, (4, 2))] [] jpK_146 0 0 (fun k v hsN => k = 0 ∧ v = (0, 1) ∧ hsN = jpK_146 ++ []) := by
  refine jT_advK 4 (pcN := 4) (LN := [(0, (4, 0)), (1, (4, 1)), (2, (0, 1)), (3, (4, 2))]) (stN := [(4, 2), (0, 1), (4, 1), (4, 0)]) (hsN := jpK_146) (c1 := 0) (s1 := 0) (c2 := 0) (s2 := 0) (by decide +kernel) ?_ (by omega) (by omega)
  refine jT_fR [0, 1, 2, 3, 4, 5, 6, 7] 8 (y := 48) (pcN := 7) (dC := 3) (bc1 := 0) (bc2 := 0) (c1 := 0) (c2 := 0) (as := [(4, 0), (4, 1), (0, 1), (4, 2)]) (asC := [(4, 0), (4, 1), (0, 1), (4, 2)]) (LN := [(0, (4, 0)), (1, (4, 1)), (2, (0, 1)), (3, (4, 2))]) (stN := []) (hsC := jpK_146) (v := (0, 0)) (st2 := [(0, 0)]) (jK_48_50 (d := 0)) (by rfl) (by rfl) (by decide +kernel) (by rfl) (by rfl) (by omega) (by omega) (by omega) (by omega) rfl ?_
  refine jT_advK 4 (pcN := 21) (LN := [(4, (0, 0)), (0, (4, 0)), (1, (4, 1)), (2, (0, 1)), (3, (4, 2))]) (stN := [(0, 1)]) (hsN := jpK_146) (c1 := 0) (s1 := 0) (c2 := 0) (s2 := 0) (by decide +kernel) ?_ (by omega) (by omega)
  exact jT_ret rfl (by decide) (by show 8 ≤ 8; omega) (by omega) (by omega) ⟨rfl, rfl, rfl⟩
def jzK_147 : JC := (7, [(4, (-1)), (4, (-1)), (4, (-1))], [])
theorem jK_28_52 {xs : List Int} {d : Nat} : jT xs d 28 2 0 [(0, (4, 0)), (1, (4, 1))] [] [jzK_147, jgh] 0 0 (fun k v hsN => k = 0 ∧ v = (9, 0) ∧ hsN = [(7, [(4, 1), (4, (-1)), (4, (-1))], []), jgh]) := by
  refine jT_advK 5 (pcN := 9) (LN := [(0, (4, 0)), (1, (4, 1))]) (stN := []) (hsN := [(7, [(4, 1), (4, (-1)), (4, (-1))], []), jgh]) (c1 := 0) (s1 := 0) (c2 := 0) (s2 := 0) (by decide +kernel) ?_ (by omega) (by omega)
  exact jT_ret rfl (by decide) (by show 2 ≤ 2; omega) (by omega) (by omega) ⟨rfl, rfl, rfl⟩
def jzK_148 : JC := (114, [], [1, (-1), (-1), (-1), (-1), (-1), (-1), (-1), (-1), (-1), (-1), (-1), (-1), (-1), (-1), (-1), (-1), (-1), (-1), (-1), (-1), (-1), (-1), (-1), (-1), (-1), (-1), (-1), (-1), (-1), (-1), (-1), (-1), (-1), (-1), (-1), (-1), (-1), (-1), (-1)])
def jpK_149 : List JC := [jzK_148, (4, [(4, 2), (1, 1)], []), jgh, (114, [], [1]), jzK_147]
def jpK_150 : List JC := [jzK_148, (4, [(4, 2), (1, 1)], []), jgh, (114, [], [1]), (7, [(4, 3), (4, (-1)), (4, (-1))], [])]
theorem jK_27_53 {xs : List Int} {d : Nat} : jT xs (d + 1) 27 3 0 [(0, (4, 0)), (1, (0, 1))] [] [jzK_148, (4, [(4, 2), (1, 1)], []), jgh] 2 4 (fun k v hsN => k = 0 ∧ v = (4, 4) ∧ hsN = [jzK_148, (4, [(4, 2), (1, 1)], []), jgh] ++ [(114, [], [1]), (7, [(4, 3), (4, (-1)), (4, (-1))], [])]) := by
  refine jT_advK 29 (pcN := 39) (LN := [(3, (0, 1)), (2, (4, 3)), (0, (4, 0)), (1, (0, 1))]) (stN := [(4, 3), (4, 4), (4, 4)]) (hsN := jpK_149) (c1 := 2) (s1 := 4) (c2 := 0) (s2 := 0) (by decide +kernel) ?_ (by omega) (by omega)
  refine jT_fB [4, 3] 5 (y := 28) (pcN := 42) (dC := 0) (bc1 := 0) (bc2 := 0) (c1 := 0) (c2 := 0) (as := [(4, 4), (4, 3)]) (asC := [(4, 0), (4, 1)]) (LN := [(3, (0, 1)), (2, (4, 3)), (0, (4, 0)), (1, (0, 1))]) (stN := [(4, 4)]) (hsC := [jzK_147, jgh]) (hsD := [(7, [(4, 1), (4, (-1)), (4, (-1))], []), jgh]) (v := (9, 0)) (st2 := [(4, 4)]) (hs2 := jpK_150) (jK_28_52 (d := 0)) (by rfl) (by rfl) (by decide +kernel) (by rfl) (by rfl) (by omega) (by omega) (by omega) (by omega) rfl (by decide +kernel) ?_
  exact jT_ret rfl (by decide) (by show 3 ≤ 5; omega) (by omega) (by omega) ⟨rfl, rfl, rfl⟩
def jpK_151 : List JC := [jzK_71, jgh, jgh, jgh, jgh, jgh]
def jzK_152 : JC := (9, [(4, (-1)), (4, (-1)), (4, (-1)), (4, (-1)), (4, (-1))], [])
def jpK_153 : List JC := [jzK_152, jgh, jgh, jgh, jgh, jgh]
theorem jK_53_54 {xs : List Int} {d : Nat} : jT xs d 53 6 0 [(0, (4, 0)), (1, (4, 1)), (2, (4, 2)), (3, (4, 3)), (4, (4, 4)), (5, (4, 5))] [] jpK_153 0 0 (fun k v hsN => k = 0 ∧ v = (9, 0) ∧ hsN = jpK_151) := by
  refine jT_advK 17 (pcN := 31) (LN := [(0, (4, 0)), (1, (4, 1)), (2, (4, 2)), (3, (4, 3)), (4, (4, 4)), (5, (4, 5))]) (stN := []) (hsN := jpK_151) (c1 := 0) (s1 := 0) (c2 := 0) (s2 := 0) (by decide +kernel) ?_ (by omega) (by omega)
  exact jT_ret rfl (by decide) (by show 6 ≤ 6; omega) (by omega) (by omega) ⟨rfl, rfl, rfl⟩
theorem jIK_60_0 : jmI (jm 60) 0 = (.aload_n 0, 1) := by rfl
theorem jIK_60_1 : jmI (jm 60) 1 = (.getfield 15, 3) := by rfl
def jzK_156 : JC := (9, [(4, 2), (4, 3), (4, 4), (4, 5), (4, 6)], [])
def jpK_157 : List JC := [jzK_156, (7, [(4, 7), (4, (-1)), (4, (-1))], []), jgh, (117, [], [8, 9, 10, 11]), jgh, jgh, jgh, jgh, jgh, jgh, jgh, jgh, (117, [], [8, 9, 10, 11])]
theorem jIK_60_10 : jmI (jm 60) 10 = (.astore_n 3, 1) := by rfl
theorem jIK_60_11 : jmI (jm 60) 11 = (.aload_n 3, 1) := by rfl
theorem jIK_60_12 : jmI (jm 60) 12 = (.iload_n 1, 1) := by rfl
theorem jIK_60_13 : jmI (jm 60) 13 = (.aload_n 2, 1) := by rfl
def jpK_162 : List JC := [jzK_156, (7, [(4, 7), (4, (-1)), (4, (-1))], []), jgh, (117, [], [8, 9, 10, 11]), jgh, jgh, jgh, jgh, jgh, jgh, jgh, jgh, jgh]
def jpK_163 : List JC := [jzK_156, (7, [(4, 7), (4, (-1)), (4, (-1))], []), jgh, (117, [], [8, 9, 10, 11]), jgh, jgh, jgh, jgh, jgh, jgh, jgh, jgh, jgh, jzK_152]
theorem jIK_60_19 : jmI (jm 60) 19 = (.aload_n 0, 1) := by rfl
theorem jIK_60_20 : jmI (jm 60) 20 = (.getfield 9, 3) := by rfl
theorem jIK_60_23 : jmI (jm 60) 23 = (.aload_n 3, 1) := by rfl
theorem jIK_60_24 : jmI (jm 60) 24 = (.aload_n 0, 1) := by rfl
theorem jIK_60_25 : jmI (jm 60) 25 = (.getfield 19, 3) := by rfl
theorem jIK_60_28 : jmI (jm 60) 28 = (.aload_n 0, 1) := by rfl
theorem jIK_60_29 : jmI (jm 60) 29 = (.getfield 23, 3) := by rfl
theorem jIK_60_32 : jmI (jm 60) 32 = (.aload_n 0, 1) := by rfl
theorem jIK_60_33 : jmI (jm 60) 33 = (.getfield 27, 3) := by rfl
def jzK_173 : JC := (9, [(4, 2), (4, 12), (4, 4), (4, 5), (4, 6)], [])
def jpK_174 : List JC := [jzK_156, (7, [(4, 7), (4, (-1)), (4, (-1))], []), jgh, (117, [], [8, 9, 10, 11]), jgh, jgh, jgh, jgh, jgh, jgh, jgh, jgh, jgh, jzK_173]
def jpK_175 : List JC := [jzK_156, (7, [(4, 7), (4, (-1)), (4, (-1))], []), jgh, (117, [], [8, 9, 10, 11]), jgh, jgh, jgh, jgh, jgh, jgh, jgh, jgh]
theorem jK_60_55 {xs : List Int} {d : Nat} {x1 : Int} (h_x1 : 0 ≤ x1 ∧ x1 ≤ 3) : jT xs (d + 1) 60 12 0 [(0, (4, 0)), (1, (0, x1)), (2, (4, 1))] [] jpK_175 2 9 (fun k v hsN => k = 0 ∧ v = (4, 13) ∧ hsN = jpK_175 ++ [jgh, jzK_173]) := by
  refine jT_xaload_n (v := (4, 0)) (pcN := 1) jIK_60_0 rfl rfl rfl ?_
  refine jT_xgetf (a := 0) (t := 1) (ci := 9) (fi := 1) (c := jzK_156) (v := (4, 3)) (pcN := 4) jIK_60_1 rfl rfl rfl rfl rfl rfl rfl ?_
  refine jT_adv 2 (pcN := 10) (LN := [(0, (4, 0)), (1, (0, x1)), (2, (4, 1))]) (stN := [(4, 12)]) (hsN := jpK_157) (c1 := 1) (s1 := 4) (c2 := 1) (s2 := 5) (by exact rfl) ?_ (by omega) (by omega)
  refine jT_xastore_n (v := (4, 12)) (LN := [(3, (4, 12)), (0, (4, 0)), (1, (0, x1)), (2, (4, 1))]) (pcN := 11) jIK_60_10 rfl rfl rfl rfl ?_
  refine jT_xaload_n (v := (4, 12)) (pcN := 12) jIK_60_11 rfl rfl rfl ?_
  refine jT_xiload_n (v := (0, x1)) (pcN := 13) jIK_60_12 rfl rfl rfl ?_
  refine jT_xaload_n (v := (4, 1)) (pcN := 14) jIK_60_13 rfl rfl rfl ?_
  refine jT_aastG (kd := 117) (a := 12) (b := 1) (j := (x1).toNat) (fs := []) (X := [8, 9, 10, 11]) (e := (7, [(4, 7), (4, (-1)), (4, (-1))], [])) (by rfl) (by rfl) (by rfl) (jw_nn (by omega) (by omega)) (by show (x1).toNat < 4; omega) (by rfl) (by rfl) (by rfl) ?_
  refine jT_eq (LN := [(3, (4, 12)), (0, (4, 0)), (1, (0, x1)), (2, (4, 1))]) (stN := []) (hsN := jpK_162) rfl rfl rfl ?_
  refine jT_adv 2 (pcN := 19) (LN := [(3, (4, 12)), (0, (4, 0)), (1, (0, x1)), (2, (4, 1))]) (stN := [(4, 13), (4, 13)]) (hsN := jpK_163) (c1 := 1) (s1 := 5) (c2 := 0) (s2 := 0) (by exact rfl) ?_ (by omega) (by omega)
  refine jT_xaload_n (v := (4, 0)) (pcN := 20) jIK_60_19 rfl rfl rfl ?_
  refine jT_xgetf (a := 0) (t := 1) (ci := 9) (fi := 0) (c := jzK_156) (v := (4, 2)) (pcN := 23) jIK_60_20 rfl rfl rfl rfl rfl rfl rfl ?_
  refine jT_xaload_n (v := (4, 12)) (pcN := 24) jIK_60_23 rfl rfl rfl ?_
  refine jT_xaload_n (v := (4, 0)) (pcN := 25) jIK_60_24 rfl rfl rfl ?_
  refine jT_xgetf (a := 0) (t := 1) (ci := 9) (fi := 2) (c := jzK_156) (v := (4, 4)) (pcN := 28) jIK_60_25 rfl rfl rfl rfl rfl rfl rfl ?_
  refine jT_xaload_n (v := (4, 0)) (pcN := 29) jIK_60_28 rfl rfl rfl ?_
  refine jT_xgetf (a := 0) (t := 1) (ci := 9) (fi := 3) (c := jzK_156) (v := (4, 5)) (pcN := 32) jIK_60_29 rfl rfl rfl rfl rfl rfl rfl ?_
  refine jT_xaload_n (v := (4, 0)) (pcN := 33) jIK_60_32 rfl rfl rfl ?_
  refine jT_xgetf (a := 0) (t := 1) (ci := 9) (fi := 4) (c := jzK_156) (v := (4, 6)) (pcN := 36) jIK_60_33 rfl rfl rfl rfl rfl rfl rfl ?_
  refine jT_fB [13, 2, 12, 4, 5, 6] 14 (y := 53) (pcN := 39) (dC := 0) (bc1 := 0) (bc2 := 0) (c1 := 0) (c2 := 0) (as := [(4, 13), (4, 2), (4, 12), (4, 4), (4, 5), (4, 6)]) (asC := [(4, 0), (4, 1), (4, 2), (4, 3), (4, 4), (4, 5)]) (LN := [(3, (4, 12)), (0, (4, 0)), (1, (0, x1)), (2, (4, 1))]) (stN := [(4, 13)]) (hsC := jpK_153) (hsD := jpK_151) (v := (9, 0)) (st2 := [(4, 13)]) (hs2 := jpK_174) (jK_53_54 (d := 0)) (by rfl) (by rfl) (by decide +kernel) (by rfl) (by rfl) (by omega) (by omega) (by omega) (by omega) rfl (by decide +kernel) ?_
  exact jT_ret rfl (by decide) (by show 12 ≤ 14; omega) (by omega) (by omega) ⟨rfl, rfl, rfl⟩
def jzK_176 : JC := (13, [(4, 2), (4, 3), (4, 4), (4, 5), (4, 6), (4, 7), (4, 8), (4, 9), (4, 10), (4, 11), (0, 1), (4, 1), (0, 0)], [])
def jzK_177 : JC := (119, [], [12, (-1), (-1), (-1), (-1), (-1), (-1), (-1)])
def jzK_178 : JC := (9, [(4, 13), (4, 14), (4, 15), (4, 16), (4, 17)], [])
def jpK_179 : List JC := [jzK_176, jgh, jgh, jgh, jgh, jgh, jgh, jgh, jgh, jgh, jgh, jzK_177, jzK_178, jgh, jgh, jgh, jgh, jgh]
def jzK_180 : JC := (119, [], [(-1), (-1), (-1), (-1), (-1), (-1), (-1), (-1)])
def jpK_181 : List JC := [jzK_14, jgh, jgh, jgh, jgh, jgh, jgh, jgh, jgh, jgh, jgh, jzK_180, jzK_178, jgh, jgh, jgh, jgh, jgh]
theorem jK_100_56 {xs : List Int} {d : Nat} : jT xs d 100 18 0 [(0, (4, 0)), (1, (4, 1))] [] jpK_181 0 0 (fun k v hsN => k = 0 ∧ v = (9, 0) ∧ hsN = jpK_179) := by
  refine jT_advK 22 (pcN := 82) (LN := [(0, (4, 0)), (1, (4, 1))]) (stN := []) (hsN := jpK_179) (c1 := 0) (s1 := 0) (c2 := 0) (s2 := 0) (by decide +kernel) ?_ (by omega) (by omega)
  exact jT_ret rfl (by decide) (by show 18 ≤ 18; omega) (by omega) (by omega) ⟨rfl, rfl, rfl⟩
theorem jIK_126_31 : jmI (jm 126) 31 = (.aload_n 0, 1) := by rfl
theorem jIK_126_32 : jmI (jm 126) 32 = (.getfield 67, 3) := by rfl
theorem jIK_126_35 : jmI (jm 126) 35 = (.iload_n 2, 1) := by rfl
theorem jIK_126_39 : jmI (jm 126) 39 = (.astore 5, 2) := by rfl
theorem jIK_126_41 : jmI (jm 126) 41 = (.bipush 40, 2) := by rfl
def jzK_187 : JC := (9, [(4, 14), (4, 15), (4, 16), (4, 17), (4, 18)], [])
def jzK_188 : JC := (114, [], [19, 19, 19, 19, 19, 19, 19, 19])
def jpK_189 : List JC := [jzK_5, (8, [(4, 12), (4, 13)], []), jgh, jgh, jgh, jgh, jgh, jgh, (101, [], [0, 0, 0, 0, 0, 0]), jgh, jzK_180, jzK_187, jgh, (101, [], [0, 0, 0, 0, 0, 0]), jzK_188, (117, [], [20, 21, 22, 23]), jgh, jgh, jgh, (4, [(4, 24), (1, 1)], []), jgh, jgh, jgh, jgh, (101, [], [0, 0, 0, 0, 0, 0]), jzK_140]
theorem jIK_126_46 : jmI (jm 126) 46 = (.astore 6, 2) := by rfl
theorem jIK_126_48 : jmI (jm 126) 48 = (.iconst 0, 1) := by rfl
theorem jIK_126_49 : jmI (jm 126) 49 = (.istore 7, 2) := by rfl
theorem jIK_126_51 : jmI (jm 126) 51 = (.iconst 0, 1) := by rfl
theorem jIK_126_52 : jmI (jm 126) 52 = (.istore 8, 2) := by rfl
theorem jIK_126_54 : jmI (jm 126) 54 = (.iload 8, 2) := by rfl
theorem jIK_126_56 : jmI (jm 126) 56 = (.iload 4, 2) := by rfl
theorem jIK_126_58 : jmI (jm 126) 58 = (.if_icmp .ge 42, 3) := by rfl
theorem jIK_126_61 : jmI (jm 126) 61 = (.aload_n 0, 1) := by rfl
theorem jIK_126_62 : jmI (jm 126) 62 = (.aload 5, 2) := by rfl
theorem jIK_126_64 : jmI (jm 126) 64 = (.iload_n 3, 1) := by rfl
theorem jIK_126_65 : jmI (jm 126) 65 = (.iload 8, 2) := by rfl
theorem jIK_126_67 : jmI (jm 126) 67 = (.iadd, 1) := by rfl
def jpK_203 : List JC := [jzK_5, (8, [(4, 12), (4, 13)], []), jgh, jgh, jgh, jgh, jgh, jgh, (101, [], [0, 0, 0, 0, 0, 0]), jgh, jzK_180, jzK_187, jgh, (101, [], [0, 0, 0, 0, 0, 0]), jzK_188, (117, [], [20, 21, 22, 23]), jgh, jgh, jgh, (4, [(4, 24), (1, 1)], []), jgh, jgh, jgh, jgh, (101, [], [0, 0, 0, 0, 0, 0]), jzK_140, (101, [], [0, 0, 0, 0, 0, 0]), (4, [(4, 26), (1, 1)], [])]
theorem jIK_126_71 : jmI (jm 126) 71 = (.astore 9, 2) := by rfl
theorem jIK_126_73 : jmI (jm 126) 73 = (.aload_n 0, 1) := by rfl
theorem jIK_126_74 : jmI (jm 126) 74 = (.aload 9, 2) := by rfl
theorem jIK_126_79 : jmI (jm 126) 79 = (.aload_n 0, 1) := by rfl
theorem jIK_126_80 : jmI (jm 126) 80 = (.getfield 10, 3) := by rfl
theorem jIK_126_83 : jmI (jm 126) 83 = (.aload 6, 2) := by rfl
theorem jIK_126_85 : jmI (jm 126) 85 = (.iload 7, 2) := by rfl
theorem jIK_126_87 : jmI (jm 126) 87 = (.aload 9, 2) := by rfl
def jzK_212 : JC := (114, [], [27, (-1), (-1), (-1), (-1), (-1), (-1), (-1), (-1), (-1), (-1), (-1), (-1), (-1), (-1), (-1), (-1), (-1), (-1), (-1), (-1), (-1), (-1), (-1), (-1), (-1), (-1), (-1), (-1), (-1), (-1), (-1), (-1), (-1), (-1), (-1), (-1), (-1), (-1), (-1)])
def jpK_213 : List JC := [jzK_5, (8, [(4, 12), (4, 13)], []), jgh, jgh, jgh, jgh, jgh, jgh, (101, [], [0, 0, 0, 0, 0, 0]), jgh, jzK_180, jzK_187, jgh, (101, [], [0, 0, 0, 0, 0, 0]), jzK_188, (117, [], [20, 21, 22, 23]), jgh, jgh, jgh, (4, [(4, 24), (1, 1)], []), jgh, jgh, jgh, jgh, (101, [], [0, 0, 0, 0, 0, 0]), jzK_212, (101, [], [0, 0, 0, 0, 0, 0]), (4, [(4, 26), (1, 1)], [])]
theorem jIK_126_92 : jmI (jm 126) 92 = (.istore 7, 2) := by rfl
theorem jIK_126_94 : jmI (jm 126) 94 = (.iinc 8 1, 3) := by rfl
theorem jIK_126_97 : jmI (jm 126) 97 = (.goto (-43), 3) := by rfl
def jpK_217 : List JC := [jzK_5, (8, [(4, 12), (4, 13)], []), jgh, jgh, jgh, jgh, jgh, jgh, (101, [], [0, 0, 0, 0, 0, 0]), jgh, jzK_180, jzK_187, jgh, (101, [], [0, 0, 0, 0, 0, 0]), jzK_188, (117, [], [20, 21, 22, 23]), jgh, jgh, jgh, (4, [(4, 24), (1, 1)], []), jgh, jgh, jgh, jgh, (101, [], [0, 0, 0, 0, 0, 0]), jzK_212, (101, [], [0, 0, 0, 0, 0, 0]), (4, [(4, 26), (1, 1)], []), (101, [], [0, 0, 0, 0, 0, 0]), (4, [(4, 28), (1, 1)], [])]
theorem jKl_gc_57 {xs : List Int} {d b1 b2 : Nat} {Q : Nat → JV → List JC → Prop} (hd : 5 < d) {y3 z4 o1 o2 : Int} (h_y3 : (-50) ≤ y3 ∧ y3 ≤ 50) (h_z4 : 1 ≤ z4 ∧ z4 ≤ 40) (h_o1 : 0 ≤ o1 ∧ o1 ≤ 3) (h_o2 : 0 ≤ o2 ∧ o2 ≤ 7) (h : jT xs d 126 25 100 [(7, (0, 1)), (6, (4, 25)), (0, (4, 0)), (1, (0, o1))] [] [jzK_5, (8, [(4, 12), (4, 13)], []), jgh, jgh, jgh, jgh, jgh, jgh, (101, [], [0, 0, 0, 0, 0, 0]), jgh, jzK_180, jzK_187, jgh, (101, [], [0, 0, 0, 0, 0, 0]), jzK_188, (117, [], [20, 21, 22, 23]), jgh, jgh, jgh, (4, [(4, 24), (1, 1)], []), jgh, jgh, jgh, jgh, (101, [], [0, 0, 0, 0, 0, 0]), jzK_212, (101, [], [0, 0, 0, 0, 0, 0]), (4, [(4, 26), (1, 1)], [])] b1 b2 Q) : ∀ (q : Nat) (t : Int), 1 ≤ t → t + (q : Int) = z4 → jT xs d 126 25 54 [(8, (0, t)), (7, (0, 1)), (6, (4, 25)), (5, (4, 19)), (0, (4, 0)), (1, (0, o1)), (2, (0, o2)), (3, (0, y3)), (4, (0, z4))] [] [jzK_5, (8, [(4, 12), (4, 13)], []), jgh, jgh, jgh, jgh, jgh, jgh, (101, [], [0, 0, 0, 0, 0, 0]), jgh, jzK_180, jzK_187, jgh, (101, [], [0, 0, 0, 0, 0, 0]), jzK_188, (117, [], [20, 21, 22, 23]), jgh, jgh, jgh, (4, [(4, 24), (1, 1)], []), jgh, jgh, jgh, jgh, (101, [], [0, 0, 0, 0, 0, 0]), jzK_212, (101, [], [0, 0, 0, 0, 0, 0]), (4, [(4, 26), (1, 1)], [])] (b1 + 2 * q) (b2 + 8 * q) Q := by
  intro q
  induction q with
  | zero =>
    intro t h0 ht
    have e : t = z4 := by omega
    subst t
    refine jT.mono (b1 := b1) (b2 := b2) ?_ (Nat.le_refl _) (by omega) (by omega) (fun _ _ _ z => z)
    refine jT_xiload (v := (0, z4)) (pcN := 56) jIK_126_54 rfl rfl rfl ?_
    refine jT_xiload (v := (0, z4)) (pcN := 58) jIK_126_56 rfl rfl rfl ?_
    refine jT_icT (a := z4) (b := z4) (t := 100) (by rfl) (by rfl) (by rfl) (jw_idd (by omega) (by omega)) (jw_idd (by omega) (by omega)) (by simp only [jcP] <;> omega) ?_
    refine jT_loc (LN := [(7, (0, 1)), (6, (4, 25)), (0, (4, 0)), (1, (0, o1))]) (by show List.Nodup [7, 6, 0, 1]; decide) (by intro q hq; simp only [List.mem_cons, List.not_mem_nil, or_false] at hq; rcases hq with rfl | rfl | rfl | rfl <;> rfl) ?_
    exact h
  | succ q ih =>
    intro t h0 ht
    have h_t : 1 ≤ t ∧ t ≤ 39 := by omega
    have g_0 : t - z4 < 0 := by omega
    refine jT.mono (b1 := b1 + 2 * q + 2) (b2 := b2 + 8 * q + 8) ?_ (Nat.le_refl _) (by omega) (by omega) (fun _ _ _ z => z)
    refine jT_xiload (v := (0, t)) (pcN := 56) jIK_126_54 rfl rfl rfl ?_
    refine jT_xiload (v := (0, z4)) (pcN := 58) jIK_126_56 rfl rfl rfl ?_
    refine jT_icF (a := t) (b := z4) (t := 100) (by rfl) (by rfl) (by rfl) (jw_idd (by omega) (by omega)) (jw_idd (by omega) (by omega)) (by simp only [jcP] <;> omega) ?_
    refine jT_xaload_n (v := (4, 0)) (pcN := 62) jIK_126_61 rfl rfl rfl ?_
    refine jT_xaload (v := (4, 19)) (pcN := 64) jIK_126_62 rfl rfl rfl ?_
    refine jT_xiload_n (v := (0, y3)) (pcN := 65) jIK_126_64 rfl rfl rfl ?_
    refine jT_xiload (v := (0, t)) (pcN := 67) jIK_126_65 rfl rfl rfl ?_
    refine jT_xiadd (x := y3) (y := t) (z := t + y3) (pcN := 68) jIK_126_67 rfl (by omega) rfl ?_
    refine jT_fA [0, 19, 1, 2, 3, 4, 5, 6, 7, 8, 9, 10, 11, 24, 12, 13] 28 (y := 127) (pcN := 71) (dC := 3) (bc1 := 2) (bc2 := 8) (c1 := (b1 + 2 * q + 0)) (c2 := (b2 + 8 * q + 0)) (as := [(4, 0), (4, 19), (0, t + y3)]) (asC := [(4, 0), (4, 1), (0, t + y3)]) (LN := [(8, (0, t)), (7, (0, 1)), (6, (4, 25)), (5, (4, 19)), (0, (4, 0)), (1, (0, o1)), (2, (0, o2)), (3, (0, y3)), (4, (0, z4))]) (stN := []) (hsC := jpK_122) (ex := [(101, [], [0, 0, 0, 0, 0, 0]), (4, [(4, 16), (1, 1)], [])]) (v := (4, 17)) (st2 := [(4, 29)]) (hs2 := jpK_217) (jK_127_46 (d := 0) (by omega) (by omega)) (by rfl) (by rfl) (by decide +kernel) (by rfl) (by rfl) (by omega) (by omega) (by omega) (by omega) rfl (by decide +kernel) ?_
    refine jT_xastore (v := (4, 29)) (LN := [(9, (4, 29)), (8, (0, t)), (7, (0, 1)), (6, (4, 25)), (5, (4, 19)), (0, (4, 0)), (1, (0, o1)), (2, (0, o2)), (3, (0, y3)), (4, (0, z4))]) (pcN := 73) jIK_126_71 rfl rfl rfl rfl ?_
    refine jT_xaload_n (v := (4, 0)) (pcN := 74) jIK_126_73 rfl rfl rfl ?_
    refine jT_xaload (v := (4, 29)) (pcN := 76) jIK_126_74 rfl rfl rfl ?_
    refine jT_fR [0, 29, 28] 30 (y := 117) (pcN := 79) (dC := 2) (bc1 := 0) (bc2 := 0) (c1 := (b1 + 2 * q + 0)) (c2 := (b2 + 8 * q + 0)) (as := [(4, 0), (4, 29)]) (asC := [(4, 0), (4, 1)]) (LN := [(9, (4, 29)), (8, (0, t)), (7, (0, 1)), (6, (4, 25)), (5, (4, 19)), (0, (4, 0)), (1, (0, o1)), (2, (0, o2)), (3, (0, y3)), (4, (0, z4))]) (stN := []) (hsC := [jgh, (4, [(4, 2), (1, 1)], []), (101, [], [0, 0, 0, 0, 0, 0])]) (v := (9, 0)) (st2 := []) (jK_117_42 (d := 0)) (by rfl) (by rfl) (by decide +kernel) (by rfl) (by rfl) (by omega) (by omega) (by omega) (by omega) rfl ?_
    refine jT_xaload_n (v := (4, 0)) (pcN := 80) jIK_126_79 rfl rfl rfl ?_
    refine jT_xgetf (a := 0) (t := 1) (ci := 13) (fi := 0) (c := jzK_5) (v := (4, 1)) (pcN := 83) jIK_126_80 rfl rfl rfl rfl rfl rfl rfl ?_
    refine jT_xaload (v := (4, 25)) (pcN := 85) jIK_126_83 rfl rfl rfl ?_
    refine jT_xiload (v := (0, 1)) (pcN := 87) jIK_126_85 rfl rfl rfl ?_
    refine jT_xaload (v := (4, 29)) (pcN := 89) jIK_126_87 rfl rfl rfl ?_
    refine jT_fR [1, 25, 29, 12, 13, 27, 28, 26] 30 (y := 49) (pcN := 92) (dC := 4) (bc1 := 0) (bc2 := 0) (c1 := (b1 + 2 * q + 0)) (c2 := (b2 + 8 * q + 0)) (as := [(4, 1), (4, 25), (0, 1), (4, 29)]) (asC := [(4, 0), (4, 1), (0, 1), (4, 2)]) (LN := [(9, (4, 29)), (8, (0, t)), (7, (0, 1)), (6, (4, 25)), (5, (4, 19)), (0, (4, 0)), (1, (0, o1)), (2, (0, o2)), (3, (0, y3)), (4, (0, z4))]) (stN := []) (hsC := jpK_146) (v := (0, 1)) (st2 := [(0, 1)]) (jK_49_51 (d := 0)) (by rfl) (by rfl) (by decide +kernel) (by rfl) (by rfl) (by omega) (by omega) (by omega) (by omega) rfl ?_
    refine jT_xistore (v := (0, 1)) (LN := [(7, (0, 1)), (9, (4, 29)), (8, (0, t)), (6, (4, 25)), (5, (4, 19)), (0, (4, 0)), (1, (0, o1)), (2, (0, o2)), (3, (0, y3)), (4, (0, z4))]) (pcN := 94) jIK_126_92 rfl rfl rfl rfl ?_
    refine jT_xiinc (x := t) (z := t + 1) (LN := [(8, (0, t + 1)), (7, (0, 1)), (9, (4, 29)), (6, (4, 25)), (5, (4, 19)), (0, (4, 0)), (1, (0, o1)), (2, (0, o2)), (3, (0, y3)), (4, (0, z4))]) (pcN := 97) jIK_126_94 rfl rfl (rfl) rfl rfl ?_
    refine jT_xgoto (pcN := 54) jIK_126_97 rfl ?_
    refine jT_loc (LN := [(8, (0, t + 1)), (7, (0, 1)), (6, (4, 25)), (5, (4, 19)), (0, (4, 0)), (1, (0, o1)), (2, (0, o2)), (3, (0, y3)), (4, (0, z4))]) (by show List.Nodup [8, 7, 6, 5, 0, 1, 2, 3, 4]; decide) (by intro q hq; simp only [List.mem_cons, List.not_mem_nil, or_false] at hq; rcases hq with rfl | rfl | rfl | rfl | rfl | rfl | rfl | rfl | rfl <;> rfl) ?_
    refine jT_drop 28 (hs0 := jpK_213) (ex := [(101, [], [0, 0, 0, 0, 0, 0]), (4, [(4, 28), (1, 1)], [])]) rfl rfl rfl (by decide) ?_
    exact ih (t + 1) (by omega) (by omega)
theorem jIK_126_100 : jmI (jm 126) 100 = (.aload_n 0, 1) := by rfl
theorem jIK_126_101 : jmI (jm 126) 101 = (.aload_n 0, 1) := by rfl
theorem jIK_126_102 : jmI (jm 126) 102 = (.getfield 67, 3) := by rfl
theorem jIK_126_105 : jmI (jm 126) 105 = (.iload_n 1, 1) := by rfl
theorem jIK_126_106 : jmI (jm 126) 106 = (.aload 6, 2) := by rfl
theorem jIK_126_108 : jmI (jm 126) 108 = (.iload 7, 2) := by rfl
def jpK_224 : List JC := [jzK_5, (8, [(4, 12), (4, 13)], []), jgh, jgh, jgh, jgh, jgh, jgh, (101, [], [0, 0, 0, 0, 0, 0]), jgh, jzK_180, jzK_187, jgh, (101, [], [0, 0, 0, 0, 0, 0]), jzK_188, (117, [], [20, 21, 22, 23]), jgh, jgh, jgh, (4, [(4, 24), (1, 1)], []), jgh, jgh, jgh, jgh, (101, [], [0, 0, 0, 0, 0, 0]), jzK_212, (101, [], [0, 0, 0, 0, 0, 0]), (4, [(4, 26), (1, 1)], []), (114, [], [27]), (7, [(4, 28), (4, (-1)), (4, (-1))], [])]
def jzK_225 : JC := (9, [(4, 14), (4, 30), (4, 16), (4, 17), (4, 18)], [])
def jpK_226 : List JC := [jzK_5, (8, [(4, 12), (4, 13)], []), jgh, jgh, jgh, jgh, jgh, jgh, (101, [], [0, 0, 0, 0, 0, 0]), jgh, jzK_180, jzK_187, jgh, (101, [], [0, 0, 0, 0, 0, 0]), jzK_188, (117, [], [20, 21, 22, 23]), jgh, jgh, jgh, (4, [(4, 24), (1, 1)], []), jgh, jgh, jgh, jgh, (101, [], [0, 0, 0, 0, 0, 0]), jzK_212, (101, [], [0, 0, 0, 0, 0, 0]), (4, [(4, 26), (1, 1)], []), (114, [], [27]), (7, [(4, 28), (4, (-1)), (4, (-1))], []), jgh, jzK_225]
def jzK_227 : JC := (13, [(4, 1), (4, 2), (4, 3), (4, 4), (4, 5), (4, 6), (4, 7), (4, 8), (4, 9), (4, 10), (0, 1), (4, 31), (0, 0)], [])
def jzK_228 : JC := (119, [], [11, (-1), (-1), (-1), (-1), (-1), (-1), (-1)])
def jpK_229 : List JC := [jzK_227, (8, [(4, 12), (4, 13)], []), jgh, jgh, jgh, jgh, jgh, jgh, (101, [], [0, 0, 0, 0, 0, 0]), jgh, jzK_228, jzK_187, jgh, (101, [], [0, 0, 0, 0, 0, 0]), jzK_188, (117, [], [20, 21, 22, 23]), jgh, jgh, jgh, (4, [(4, 24), (1, 1)], []), jgh, jgh, jgh, jgh, (101, [], [0, 0, 0, 0, 0, 0]), jzK_212, (101, [], [0, 0, 0, 0, 0, 0]), (4, [(4, 26), (1, 1)], []), (114, [], [27]), (7, [(4, 28), (4, (-1)), (4, (-1))], []), jgh, jzK_225]
theorem jIK_126_119 : jmI (jm 126) 119 = (.iload 7, 2) := by rfl
def jpK_231 : List JC := [jzK_5, (8, [(4, 12), (4, 13)], []), jgh, jgh, jgh, jgh, jgh, jgh, (101, [], [0, 0, 0, 0, 0, 0]), jgh, jzK_180, jzK_187, jgh, (101, [], [0, 0, 0, 0, 0, 0]), jzK_188, (117, [], [20, 21, 22, 23]), jgh, jgh, jgh, (4, [(4, 24), (1, 1)], []), jgh, jgh, jgh, jgh, (101, [], [0, 0, 0, 0, 0, 0])]
theorem jK_126_58 {xs : List Int} {d : Nat} {x1 x2 x3 x4 : Int} (h_x1 : 0 ≤ x1 ∧ x1 ≤ 3) (h_x2 : 0 ≤ x2 ∧ x2 ≤ 7) (h_x3 : (-50) ≤ x3 ∧ x3 ≤ 50) (h_x4 : 1 ≤ x4 ∧ x4 ≤ 40) : jT xs (d + 6) 126 25 0 [(0, (4, 0)), (1, (0, x1)), (2, (0, x2)), (3, (0, x3)), (4, (0, x4))] [] jpK_231 85 373 (fun k v hsN => k = 0 ∧ v = (0, 1) ∧ hsN = jpK_229) := by
  refine jT_xaload_n (v := (4, 0)) (pcN := 1) jIK_126_0 rfl rfl rfl ?_
  refine jT_xiload_n (v := (0, x1)) (pcN := 2) jIK_126_1 rfl rfl rfl ?_
  refine jT_xiconst (k := 4) (pcN := 3) jIK_126_2 rfl ?_
  refine jT_fR [0] 25 (y := 115) (pcN := 6) (dC := 0) (bc1 := 0) (bc2 := 0) (c1 := 85) (c2 := 373) (as := [(4, 0), (0, x1), (0, 4)]) (asC := [(4, 0), (0, x1), (0, 4)]) (LN := [(0, (4, 0)), (1, (0, x1)), (2, (0, x2)), (3, (0, x3)), (4, (0, x4))]) (stN := []) (hsC := [jgh]) (v := (9, 0)) (st2 := []) (jK_115_9 (d := 0) (by omega)) (by rfl) (by rfl) (by decide +kernel) (by rfl) (by rfl) (by omega) (by omega) (by omega) (by omega) rfl ?_
  refine jT_xaload_n (v := (4, 0)) (pcN := 7) jIK_126_6 rfl rfl rfl ?_
  refine jT_xiload_n (v := (0, x2)) (pcN := 8) jIK_126_7 rfl rfl rfl ?_
  refine jT_xbipush (k := 8) (pcN := 10) jIK_126_8 (by decide) rfl ?_
  refine jT_fR [0] 25 (y := 115) (pcN := 13) (dC := 0) (bc1 := 0) (bc2 := 0) (c1 := 85) (c2 := 373) (as := [(4, 0), (0, x2), (0, 8)]) (asC := [(4, 0), (0, x2), (0, 8)]) (LN := [(0, (4, 0)), (1, (0, x1)), (2, (0, x2)), (3, (0, x3)), (4, (0, x4))]) (stN := []) (hsC := [jgh]) (v := (9, 0)) (st2 := []) (jK_115_16 (d := 0) (by omega)) (by rfl) (by rfl) (by decide +kernel) (by rfl) (by rfl) (by omega) (by omega) (by omega) (by omega) rfl ?_
  refine jT_xaload_n (v := (4, 0)) (pcN := 14) jIK_126_13 rfl rfl rfl ?_
  refine jT_xiload_n (v := (0, x3)) (pcN := 15) jIK_126_14 rfl rfl rfl ?_
  refine jT_xbipush (k := (-50)) (pcN := 17) jIK_126_15 (by decide) rfl ?_
  refine jT_xbipush (k := 50) (pcN := 19) jIK_126_17 (by decide) rfl ?_
  refine jT_fR [0] 25 (y := 116) (pcN := 22) (dC := 0) (bc1 := 0) (bc2 := 0) (c1 := 85) (c2 := 373) (as := [(4, 0), (0, x3), (0, (-50)), (0, 50)]) (asC := [(4, 0), (0, x3), (0, (-50)), (0, 50)]) (LN := [(0, (4, 0)), (1, (0, x1)), (2, (0, x2)), (3, (0, x3)), (4, (0, x4))]) (stN := []) (hsC := [jgh]) (v := (9, 0)) (st2 := []) (jK_116_26 (d := 0) (by omega)) (by rfl) (by rfl) (by decide +kernel) (by rfl) (by rfl) (by omega) (by omega) (by omega) (by omega) rfl ?_
  refine jT_xaload_n (v := (4, 0)) (pcN := 23) jIK_126_22 rfl rfl rfl ?_
  refine jT_xiload (v := (0, x4)) (pcN := 25) jIK_126_23 rfl rfl rfl ?_
  refine jT_xiconst (k := 1) (pcN := 26) jIK_126_25 rfl ?_
  refine jT_xbipush (k := 40) (pcN := 28) jIK_126_26 (by decide) rfl ?_
  refine jT_fR [0] 25 (y := 116) (pcN := 31) (dC := 0) (bc1 := 0) (bc2 := 0) (c1 := 85) (c2 := 373) (as := [(4, 0), (0, x4), (0, 1), (0, 40)]) (asC := [(4, 0), (0, x4), (0, 1), (0, 40)]) (LN := [(0, (4, 0)), (1, (0, x1)), (2, (0, x2)), (3, (0, x3)), (4, (0, x4))]) (stN := []) (hsC := [jgh]) (v := (9, 0)) (st2 := []) (jK_116_31 (d := 0) (by omega)) (by rfl) (by rfl) (by decide +kernel) (by rfl) (by rfl) (by omega) (by omega) (by omega) (by omega) rfl ?_
  refine jT_xaload_n (v := (4, 0)) (pcN := 32) jIK_126_31 rfl rfl rfl ?_
  refine jT_xgetf (a := 0) (t := 1) (ci := 13) (fi := 11) (c := jzK_5) (v := (4, 11)) (pcN := 35) jIK_126_32 rfl rfl rfl rfl rfl rfl rfl ?_
  refine jT_xiload_n (v := (0, x2)) (pcN := 36) jIK_126_35 rfl rfl rfl ?_
  refine jT_fR [11, 14, 15, 16, 17, 18, 19] 25 (y := 57) (pcN := 39) (dC := 0) (bc1 := 0) (bc2 := 0) (c1 := 85) (c2 := 373) (as := [(4, 11), (0, x2)]) (asC := [(4, 0), (0, x2)]) (LN := [(0, (4, 0)), (1, (0, x1)), (2, (0, x2)), (3, (0, x3)), (4, (0, x4))]) (stN := []) (hsC := jpK_74) (v := (4, 6)) (st2 := [(4, 19)]) (jK_57_32 (d := 0) (by omega)) (by rfl) (by rfl) (by decide +kernel) (by rfl) (by rfl) (by omega) (by omega) (by omega) (by omega) rfl ?_
  refine jT_xastore (v := (4, 19)) (LN := [(5, (4, 19)), (0, (4, 0)), (1, (0, x1)), (2, (0, x2)), (3, (0, x3)), (4, (0, x4))]) (pcN := 41) jIK_126_39 rfl rfl rfl rfl ?_
  refine jT_xbipush (k := 40) (pcN := 43) jIK_126_41 (by decide) rfl ?_
  refine jT_adv 1 (pcN := 46) (LN := [(5, (4, 19)), (0, (4, 0)), (1, (0, x1)), (2, (0, x2)), (3, (0, x3)), (4, (0, x4))]) (stN := [(4, 25)]) (hsN := jpK_189) (c1 := 1) (s1 := 40) (c2 := 84) (s2 := 333) (by exact rfl) ?_ (by omega) (by omega)
  refine jT_xastore (v := (4, 25)) (LN := [(6, (4, 25)), (5, (4, 19)), (0, (4, 0)), (1, (0, x1)), (2, (0, x2)), (3, (0, x3)), (4, (0, x4))]) (pcN := 48) jIK_126_46 rfl rfl rfl rfl ?_
  refine jT_xiconst (k := 0) (pcN := 49) jIK_126_48 rfl ?_
  refine jT_xistore (v := (0, 0)) (LN := [(7, (0, 0)), (6, (4, 25)), (5, (4, 19)), (0, (4, 0)), (1, (0, x1)), (2, (0, x2)), (3, (0, x3)), (4, (0, x4))]) (pcN := 51) jIK_126_49 rfl rfl rfl rfl ?_
  refine jT_xiconst (k := 0) (pcN := 52) jIK_126_51 rfl ?_
  refine jT_xistore (v := (0, 0)) (LN := [(8, (0, 0)), (7, (0, 0)), (6, (4, 25)), (5, (4, 19)), (0, (4, 0)), (1, (0, x1)), (2, (0, x2)), (3, (0, x3)), (4, (0, x4))]) (pcN := 54) jIK_126_52 rfl rfl rfl rfl ?_
  refine jT_xiload (v := (0, 0)) (pcN := 56) jIK_126_54 rfl rfl rfl ?_
  refine jT_xiload (v := (0, x4)) (pcN := 58) jIK_126_56 rfl rfl rfl ?_
  refine jT_icF (a := 0) (b := x4) (t := 100) (by rfl) (by rfl) (by rfl) (jw_idd (by omega) (by omega)) (jw_idd (by omega) (by omega)) (by simp only [jcP] <;> omega) ?_
  refine jT_xaload_n (v := (4, 0)) (pcN := 62) jIK_126_61 rfl rfl rfl ?_
  refine jT_xaload (v := (4, 19)) (pcN := 64) jIK_126_62 rfl rfl rfl ?_
  refine jT_xiload_n (v := (0, x3)) (pcN := 65) jIK_126_64 rfl rfl rfl ?_
  refine jT_xiload (v := (0, 0)) (pcN := 67) jIK_126_65 rfl rfl rfl ?_
  refine jT_xiadd (x := x3) (y := 0) (z := x3) (pcN := 68) jIK_126_67 rfl (by omega) rfl ?_
  refine jT_fA [0, 19, 1, 2, 3, 4, 5, 6, 7, 8, 9, 10, 11, 24, 12, 13] 26 (y := 127) (pcN := 71) (dC := 3) (bc1 := 2) (bc2 := 8) (c1 := 82) (c2 := 325) (as := [(4, 0), (4, 19), (0, x3)]) (asC := [(4, 0), (4, 1), (0, x3)]) (LN := [(8, (0, 0)), (7, (0, 0)), (6, (4, 25)), (5, (4, 19)), (0, (4, 0)), (1, (0, x1)), (2, (0, x2)), (3, (0, x3)), (4, (0, x4))]) (stN := []) (hsC := jpK_122) (ex := [(101, [], [0, 0, 0, 0, 0, 0]), (4, [(4, 16), (1, 1)], [])]) (v := (4, 17)) (st2 := [(4, 27)]) (hs2 := jpK_203) (jK_127_39 (d := 0) (by omega)) (by rfl) (by rfl) (by decide +kernel) (by rfl) (by rfl) (by omega) (by omega) (by omega) (by omega) rfl (by decide +kernel) ?_
  refine jT_xastore (v := (4, 27)) (LN := [(9, (4, 27)), (8, (0, 0)), (7, (0, 0)), (6, (4, 25)), (5, (4, 19)), (0, (4, 0)), (1, (0, x1)), (2, (0, x2)), (3, (0, x3)), (4, (0, x4))]) (pcN := 73) jIK_126_71 rfl rfl rfl rfl ?_
  refine jT_xaload_n (v := (4, 0)) (pcN := 74) jIK_126_73 rfl rfl rfl ?_
  refine jT_xaload (v := (4, 27)) (pcN := 76) jIK_126_74 rfl rfl rfl ?_
  refine jT_fR [0, 27, 26] 28 (y := 117) (pcN := 79) (dC := 2) (bc1 := 0) (bc2 := 0) (c1 := 82) (c2 := 325) (as := [(4, 0), (4, 27)]) (asC := [(4, 0), (4, 1)]) (LN := [(9, (4, 27)), (8, (0, 0)), (7, (0, 0)), (6, (4, 25)), (5, (4, 19)), (0, (4, 0)), (1, (0, x1)), (2, (0, x2)), (3, (0, x3)), (4, (0, x4))]) (stN := []) (hsC := [jgh, (4, [(4, 2), (1, 1)], []), (101, [], [0, 0, 0, 0, 0, 0])]) (v := (9, 0)) (st2 := []) (jK_117_42 (d := 0)) (by rfl) (by rfl) (by decide +kernel) (by rfl) (by rfl) (by omega) (by omega) (by omega) (by omega) rfl ?_
  refine jT_xaload_n (v := (4, 0)) (pcN := 80) jIK_126_79 rfl rfl rfl ?_
  refine jT_xgetf (a := 0) (t := 1) (ci := 13) (fi := 0) (c := jzK_5) (v := (4, 1)) (pcN := 83) jIK_126_80 rfl rfl rfl rfl rfl rfl rfl ?_
  refine jT_xaload (v := (4, 25)) (pcN := 85) jIK_126_83 rfl rfl rfl ?_
  refine jT_xiload (v := (0, 0)) (pcN := 87) jIK_126_85 rfl rfl rfl ?_
  refine jT_xaload (v := (4, 27)) (pcN := 89) jIK_126_87 rfl rfl rfl ?_
  refine jT_fB [1, 25, 27, 12, 13, 26] 28 (y := 49) (pcN := 92) (dC := 1) (bc1 := 0) (bc2 := 0) (c1 := 82) (c2 := 325) (as := [(4, 1), (4, 25), (0, 0), (4, 27)]) (asC := [(4, 0), (4, 1), (0, 0), (4, 2)]) (LN := [(9, (4, 27)), (8, (0, 0)), (7, (0, 0)), (6, (4, 25)), (5, (4, 19)), (0, (4, 0)), (1, (0, x1)), (2, (0, x2)), (3, (0, x3)), (4, (0, x4))]) (stN := []) (hsC := jpK_141) (hsD := jpK_143) (v := (0, 1)) (st2 := [(0, 1)]) (hs2 := jpK_213) (jK_49_44 (d := 0)) (by rfl) (by rfl) (by decide +kernel) (by rfl) (by rfl) (by omega) (by omega) (by omega) (by omega) rfl (by decide +kernel) ?_
  refine jT_xistore (v := (0, 1)) (LN := [(7, (0, 1)), (9, (4, 27)), (8, (0, 0)), (6, (4, 25)), (5, (4, 19)), (0, (4, 0)), (1, (0, x1)), (2, (0, x2)), (3, (0, x3)), (4, (0, x4))]) (pcN := 94) jIK_126_92 rfl rfl rfl rfl ?_
  refine jT_xiinc (x := 0) (z := 1) (LN := [(8, (0, 1)), (7, (0, 1)), (9, (4, 27)), (6, (4, 25)), (5, (4, 19)), (0, (4, 0)), (1, (0, x1)), (2, (0, x2)), (3, (0, x3)), (4, (0, x4))]) (pcN := 97) jIK_126_94 rfl rfl (by decide) rfl rfl ?_
  refine jT_xgoto (pcN := 54) jIK_126_97 rfl ?_
  refine jT_loc (LN := [(8, (0, 1)), (7, (0, 1)), (6, (4, 25)), (5, (4, 19)), (0, (4, 0)), (1, (0, x1)), (2, (0, x2)), (3, (0, x3)), (4, (0, x4))]) (by show List.Nodup [8, 7, 6, 5, 0, 1, 2, 3, 4]; decide) (by intro q hq; simp only [List.mem_cons, List.not_mem_nil, or_false] at hq; rcases hq with rfl | rfl | rfl | rfl | rfl | rfl | rfl | rfl | rfl <;> rfl) ?_
  refine jT.mono (jKl_gc_57 (b1 := 4) (b2 := 13) (by omega) (y3 := x3) (z4 := x4) (o1 := x1) (o2 := x2) (by omega) (by omega) (by omega) (by omega) ?_ (x4 - 1).toNat 1 (by omega) (by omega)) (Nat.le_refl _) (by omega) (by omega) (fun _ _ _ z => z)
  refine jT_xaload_n (v := (4, 0)) (pcN := 101) jIK_126_100 rfl rfl rfl ?_
  refine jT_xaload_n (v := (4, 0)) (pcN := 102) jIK_126_101 rfl rfl rfl ?_
  refine jT_xgetf (a := 0) (t := 1) (ci := 13) (fi := 11) (c := jzK_5) (v := (4, 11)) (pcN := 105) jIK_126_102 rfl rfl rfl rfl rfl rfl rfl ?_
  refine jT_xiload_n (v := (0, x1)) (pcN := 106) jIK_126_105 rfl rfl rfl ?_
  refine jT_xaload (v := (4, 25)) (pcN := 108) jIK_126_106 rfl rfl rfl ?_
  refine jT_xiload (v := (0, 1)) (pcN := 110) jIK_126_108 rfl rfl rfl ?_
  refine jT_fA [25, 27, 26] 28 (y := 27) (pcN := 113) (dC := 1) (bc1 := 2) (bc2 := 4) (c1 := 2) (c2 := 9) (as := [(4, 25), (0, 1)]) (asC := [(4, 0), (0, 1)]) (LN := [(7, (0, 1)), (6, (4, 25)), (0, (4, 0)), (1, (0, x1))]) (stN := [(0, x1), (4, 11), (4, 0)]) (hsC := [jzK_148, (4, [(4, 2), (1, 1)], []), jgh]) (ex := [(114, [], [1]), (7, [(4, 3), (4, (-1)), (4, (-1))], [])]) (v := (4, 4)) (st2 := [(4, 29), (0, x1), (4, 11), (4, 0)]) (hs2 := jpK_224) (jK_27_53 (d := 0)) (by rfl) (by rfl) (by decide +kernel) (by rfl) (by rfl) (by omega) (by omega) (by omega) (by omega) rfl (by decide +kernel) ?_
  refine jT_fA [11, 29, 14, 15, 16, 17, 18, 28, 20, 21, 22, 23] 30 (y := 60) (pcN := 116) (dC := 1) (bc1 := 2) (bc2 := 9) (c1 := 0) (c2 := 0) (as := [(4, 11), (0, x1), (4, 29)]) (asC := [(4, 0), (0, x1), (4, 1)]) (LN := [(7, (0, 1)), (6, (4, 25)), (0, (4, 0)), (1, (0, x1))]) (stN := [(4, 0)]) (hsC := jpK_175) (ex := [jgh, jzK_173]) (v := (4, 13)) (st2 := [(4, 31), (4, 0)]) (hs2 := jpK_226) (jK_60_55 (d := 0) (by omega)) (by rfl) (by rfl) (by decide +kernel) (by rfl) (by rfl) (by omega) (by omega) (by omega) (by omega) rfl (by decide +kernel) ?_
  refine jT_fB [0, 31, 1, 2, 3, 4, 5, 6, 7, 8, 9, 10, 11, 14, 15, 16, 17, 18] 32 (y := 100) (pcN := 119) (dC := 0) (bc1 := 0) (bc2 := 0) (c1 := 0) (c2 := 0) (as := [(4, 0), (4, 31)]) (asC := [(4, 0), (4, 1)]) (LN := [(7, (0, 1)), (6, (4, 25)), (0, (4, 0)), (1, (0, x1))]) (stN := []) (hsC := jpK_181) (hsD := jpK_179) (v := (9, 0)) (st2 := []) (hs2 := jpK_229) (jK_100_56 (d := 0)) (by rfl) (by rfl) (by decide +kernel) (by rfl) (by rfl) (by omega) (by omega) (by omega) (by omega) rfl (by decide +kernel) ?_
  refine jT_xiload (v := (0, 1)) (pcN := 121) jIK_126_119 rfl rfl rfl ?_
  exact jT_ret rfl (by decide) (by show 25 ≤ 32; omega) (by omega) (by omega) ⟨rfl, rfl, rfl⟩
def jzK_232 : JC := (13, [(4, 2), (4, 3), (4, 4), (4, 5), (4, 6), (4, 7), (4, 8), (4, 9), (4, 10), (4, 11), (0, 1), (4, 32), (0, 0)], [])
def jzK_233 : JC := (9, [(4, 15), (4, 16), (4, 17), (4, 18), (4, 19)], [])
def jzK_234 : JC := (114, [], [20, 20, 20, 20, 20, 20, 20, 20])
def jzK_235 : JC := (114, [], [28, (-1), (-1), (-1), (-1), (-1), (-1), (-1), (-1), (-1), (-1), (-1), (-1), (-1), (-1), (-1), (-1), (-1), (-1), (-1), (-1), (-1), (-1), (-1), (-1), (-1), (-1), (-1), (-1), (-1), (-1), (-1), (-1), (-1), (-1), (-1), (-1), (-1), (-1), (-1)])
def jzK_236 : JC := (9, [(4, 15), (4, 31), (4, 17), (4, 18), (4, 19)], [])
def jpK_237 : List JC := [jzK_232, (101, [], [0]), (8, [(4, 13), (4, 14)], []), jgh, jgh, jgh, jgh, jgh, jgh, (101, [], [0, 0, 0, 0, 0, 0]), jgh, jzK_177, jzK_233, jgh, (101, [], [0, 0, 0, 0, 0, 0]), jzK_234, (117, [], [21, 22, 23, 24]), jgh, jgh, jgh, (4, [(4, 25), (1, 1)], []), jgh, jgh, jgh, jgh, (101, [], [0, 0, 0, 0, 0, 0]), jzK_235, (101, [], [0, 0, 0, 0, 0, 0]), (4, [(4, 27), (1, 1)], []), (114, [], [28]), (7, [(4, 29), (4, (-1)), (4, (-1))], []), jgh, jzK_236]
theorem jIK_335_12 : jmI (jm 335) 12 = (.i2l, 1) := by rfl
def jpK_239 : List JC := [jzK_232, (101, [], [1]), (8, [(4, 13), (4, 14)], []), jgh, jgh, jgh, jgh, jgh, jgh, (101, [], [0, 0, 0, 0, 0, 0]), jgh, jzK_177, jzK_233, jgh, (101, [], [0, 0, 0, 0, 0, 0]), jzK_234, (117, [], [21, 22, 23, 24]), jgh, jgh, jgh, (4, [(4, 25), (1, 1)], []), jgh, jgh, jgh, jgh, (101, [], [0, 0, 0, 0, 0, 0]), jzK_235, (101, [], [0, 0, 0, 0, 0, 0]), (4, [(4, 27), (1, 1)], []), (114, [], [28]), (7, [(4, 29), (4, (-1)), (4, (-1))], []), jgh, jzK_236]
theorem jIK_335_14 : jmI (jm 335) 14 = (.goto 15, 3) := by rfl
theorem jIK_335_29 : jmI (jm 335) 29 = (.iconst 0, 1) := by rfl
def jpK_242 : List JC := [jzK_14, (101, [], [0]), (8, [(4, 13), (4, 14)], []), jgh, jgh, jgh, jgh, jgh, jgh, (101, [], [0, 0, 0, 0, 0, 0]), jgh, jzK_180, jzK_233, jgh, (101, [], [0, 0, 0, 0, 0, 0]), jzK_234, (117, [], [21, 22, 23, 24]), jgh, jgh, jgh, (4, [(4, 25), (1, 1)], []), jgh, jgh, jgh, jgh, (101, [], [0, 0, 0, 0, 0, 0])]
theorem jK_335_59 {xs : List Int} {d : Nat} {x1 x2 x3 x4 : Int} (h_x1 : 0 ≤ x1 ∧ x1 ≤ 3) (h_x2 : 0 ≤ x2 ∧ x2 ≤ 7) (h_x3 : (-50) ≤ x3 ∧ x3 ≤ 50) (h_x4 : 1 ≤ x4 ∧ x4 ≤ 40) : jT xs (d + 7) 335 26 0 [(0, (4, 0)), (1, (0, x1)), (2, (0, x2)), (3, (0, x3)), (4, (0, x4)), (5, (4, 1))] [] jpK_242 85 373 (fun k v hsN => k = 0 ∧ v = (0, 0) ∧ hsN = jpK_239) := by
  refine jT_xaload (v := (4, 1)) (pcN := 2) jIK_335_0 rfl rfl rfl ?_
  refine jT_xiconst (k := 0) (pcN := 3) jIK_335_2 rfl ?_
  refine jT_xaload_n (v := (4, 0)) (pcN := 4) jIK_335_3 rfl rfl rfl ?_
  refine jT_xiload_n (v := (0, x1)) (pcN := 5) jIK_335_4 rfl rfl rfl ?_
  refine jT_xiload_n (v := (0, x2)) (pcN := 6) jIK_335_5 rfl rfl rfl ?_
  refine jT_xiload_n (v := (0, x3)) (pcN := 7) jIK_335_6 rfl rfl rfl ?_
  refine jT_xiload (v := (0, x4)) (pcN := 9) jIK_335_7 rfl rfl rfl ?_
  refine jT_fB [0, 2, 3, 4, 5, 6, 7, 8, 9, 10, 11, 12, 13, 14, 15, 16, 17, 18, 19, 20, 21, 22, 23, 24, 25] 26 (y := 126) (pcN := 12) (dC := 6) (bc1 := 85) (bc2 := 373) (c1 := 0) (c2 := 0) (as := [(4, 0), (0, x1), (0, x2), (0, x3), (0, x4)]) (asC := [(4, 0), (0, x1), (0, x2), (0, x3), (0, x4)]) (LN := [(0, (4, 0)), (1, (0, x1)), (2, (0, x2)), (3, (0, x3)), (4, (0, x4)), (5, (4, 1))]) (stN := [(0, 0), (4, 1)]) (hsC := jpK_231) (hsD := jpK_229) (v := (0, 1)) (st2 := [(0, 1), (0, 0), (4, 1)]) (hs2 := jpK_237) (jK_126_58 (d := 0) (by omega) (by omega) (by omega) (by omega)) (by rfl) (by rfl) (by decide +kernel) (by rfl) (by rfl) (by omega) (by omega) (by omega) (by omega) rfl (by decide +kernel) ?_
  refine jT_xi2l (x := 1) (z := 1) (pcN := 13) jIK_335_12 rfl (by decide +kernel) rfl ?_
  refine jT_adv 1 (pcN := 14) (LN := [(0, (4, 0)), (1, (0, x1)), (2, (0, x2)), (3, (0, x3)), (4, (0, x4)), (5, (4, 1))]) (stN := []) (hsN := jpK_239) (c1 := 0) (s1 := 0) (c2 := 0) (s2 := 0) (by exact rfl) ?_ (by omega) (by omega)
  refine jT_xgoto (pcN := 29) jIK_335_14 rfl ?_
  refine jT_xiconst (k := 0) (pcN := 30) jIK_335_29 rfl ?_
  exact jT_ret rfl (by decide) (by show 26 ≤ 33; omega) (by omega) (by omega) ⟨rfl, rfl, rfl⟩
theorem jK_191_60 {xs : List Int} {d : Nat} : jT xs d 191 1 0 [(0, (4, 0)), (1, (0, 1)), (2, (0, 2))] [] [jgh] 0 0 (fun k v hsN => k = 0 ∧ v = (0, 0) ∧ hsN = [jgh] ++ []) := by
  refine jT_advK 5 (pcN := 18) (LN := [(0, (4, 0)), (1, (0, 1)), (2, (0, 2))]) (stN := [(0, 0)]) (hsN := [jgh]) (c1 := 0) (s1 := 0) (c2 := 0) (s2 := 0) (by decide +kernel) ?_ (by omega) (by omega)
  exact jT_ret rfl (by decide) (by show 1 ≤ 1; omega) (by omega) (by omega) ⟨rfl, rfl, rfl⟩
theorem jIK_203_0 : jmI (jm 203) 0 = (.iconst 0, 1) := by rfl
theorem jIK_203_1 : jmI (jm 203) 1 = (.istore_n 3, 1) := by rfl
theorem jIK_203_2 : jmI (jm 203) 2 = (.iload_n 3, 1) := by rfl
theorem jIK_203_3 : jmI (jm 203) 3 = (.bipush 6, 2) := by rfl
theorem jIK_203_5 : jmI (jm 203) 5 = (.if_icmp .ge 21, 3) := by rfl
theorem jIK_203_8 : jmI (jm 203) 8 = (.aload_n 0, 1) := by rfl
theorem jIK_203_9 : jmI (jm 203) 9 = (.getfield 31, 3) := by rfl
theorem jIK_203_12 : jmI (jm 203) 12 = (.iload_n 3, 1) := by rfl
theorem jIK_203_13 : jmI (jm 203) 13 = (.aload_n 1, 1) := by rfl
theorem jIK_203_14 : jmI (jm 203) 14 = (.iload_n 2, 1) := by rfl
theorem jIK_203_15 : jmI (jm 203) 15 = (.iload_n 3, 1) := by rfl
theorem jIK_203_16 : jmI (jm 203) 16 = (.iadd, 1) := by rfl
theorem jIK_203_17 : jmI (jm 203) 17 = (.iaload, 1) := by rfl
def jpK_256 : List JC := [jzK_21, (100, [], jS0), jgh, jgh, jgh, jgh, jgh, (101, [], [0, 0, 0, 0, 0, 0]), jgh, jgh, jgh, jgh, jgh, jgh, jgh, jgh]
theorem jIK_203_18 : jmI (jm 203) 18 = (.i2l, 1) := by rfl
theorem jIK_203_20 : jmI (jm 203) 20 = (.iinc 3 1, 3) := by rfl
theorem jIK_203_23 : jmI (jm 203) 23 = (.goto (-21), 3) := by rfl
theorem jIK_203_26 : jmI (jm 203) 26 = (.aload_n 0, 1) := by rfl
theorem jIK_203_27 : jmI (jm 203) 27 = (.aload_n 1, 1) := by rfl
theorem jIK_203_28 : jmI (jm 203) 28 = (.iload_n 2, 1) := by rfl
theorem jIK_203_29 : jmI (jm 203) 29 = (.bipush 6, 2) := by rfl
theorem jIK_203_31 : jmI (jm 203) 31 = (.iadd, 1) := by rfl
theorem jIK_203_32 : jmI (jm 203) 32 = (.iaload, 1) := by rfl
theorem jIK_203_33 : jmI (jm 203) 33 = (.i2l, 1) := by rfl
theorem jK_203_61 {xs : List Int} {d : Nat} {x2 : Int} (h_x2 : 0 ≤ x2 ∧ x2 ≤ 7) : jT xs d 203 16 0 [(0, (4, 0)), (1, (4, 1)), (2, (0, 7 * x2))] [] jpK_256 0 0 (fun k v hsN => k = 0 ∧ v = (9, 0) ∧ hsN = jpK_256 ++ []) := by
  refine jT_xiconst (k := 0) (pcN := 1) jIK_203_0 rfl ?_
  refine jT_xistore_n (v := (0, 0)) (LN := [(3, (0, 0)), (0, (4, 0)), (1, (4, 1)), (2, (0, 7 * x2))]) (pcN := 2) jIK_203_1 rfl rfl rfl rfl ?_
  refine jT_xiload_n (v := (0, 0)) (pcN := 3) jIK_203_2 rfl rfl rfl ?_
  refine jT_xbipush (k := 6) (pcN := 5) jIK_203_3 (by decide) rfl ?_
  refine jT_xicF (t := 26) (pcN := 8) jIK_203_5 rfl (by decide +kernel) rfl rfl ?_
  refine jT_xaload_n (v := (4, 0)) (pcN := 9) jIK_203_8 rfl rfl rfl ?_
  refine jT_xgetf (a := 0) (t := 1) (ci := 14) (fi := 9) (c := jzK_21) (v := (4, 7)) (pcN := 12) jIK_203_9 rfl rfl rfl rfl rfl rfl rfl ?_
  refine jT_xiload_n (v := (0, 0)) (pcN := 13) jIK_203_12 rfl rfl rfl ?_
  refine jT_xaload_n (v := (4, 1)) (pcN := 14) jIK_203_13 rfl rfl rfl ?_
  refine jT_xiload_n (v := (0, 7 * x2)) (pcN := 15) jIK_203_14 rfl rfl rfl ?_
  refine jT_xiload_n (v := (0, 0)) (pcN := 16) jIK_203_15 rfl rfl rfl ?_
  refine jT_xiadd (x := 7 * x2) (y := 0) (z := 7 * x2) (pcN := 17) jIK_203_16 rfl (by omega) rfl ?_
  refine jT_iald (x := 0) (a := 1) (j := (7 * x2).toNat) (fs := []) (X := jS0) (by rfl) (by rfl) (by rfl) (jw_nn (by omega) (by omega)) (jS0_r0 (by omega) (by omega)) ?_
  refine jT_eq (LN := [(3, (0, 0)), (0, (4, 0)), (1, (4, 1)), (2, (0, 7 * x2))]) (stN := [(0, 0), (0, 0), (4, 7)]) (hsN := jpK_256) rfl rfl rfl ?_
  refine jT_xi2l (x := 0) (z := 0) (pcN := 19) jIK_203_18 rfl (by decide +kernel) rfl ?_
  refine jT_adv 1 (pcN := 20) (LN := [(3, (0, 0)), (0, (4, 0)), (1, (4, 1)), (2, (0, 7 * x2))]) (stN := []) (hsN := jpK_256) (c1 := 0) (s1 := 0) (c2 := 0) (s2 := 0) (by exact rfl) ?_ (by omega) (by omega)
  refine jT_xiinc (x := 0) (z := 1) (LN := [(3, (0, 1)), (0, (4, 0)), (1, (4, 1)), (2, (0, 7 * x2))]) (pcN := 23) jIK_203_20 rfl rfl (by decide) rfl rfl ?_
  refine jT_xgoto (pcN := 2) jIK_203_23 rfl ?_
  refine jT_xiload_n (v := (0, 1)) (pcN := 3) jIK_203_2 rfl rfl rfl ?_
  refine jT_xbipush (k := 6) (pcN := 5) jIK_203_3 (by decide) rfl ?_
  refine jT_xicF (t := 26) (pcN := 8) jIK_203_5 rfl (by decide +kernel) rfl rfl ?_
  refine jT_xaload_n (v := (4, 0)) (pcN := 9) jIK_203_8 rfl rfl rfl ?_
  refine jT_xgetf (a := 0) (t := 1) (ci := 14) (fi := 9) (c := jzK_21) (v := (4, 7)) (pcN := 12) jIK_203_9 rfl rfl rfl rfl rfl rfl rfl ?_
  refine jT_xiload_n (v := (0, 1)) (pcN := 13) jIK_203_12 rfl rfl rfl ?_
  refine jT_xaload_n (v := (4, 1)) (pcN := 14) jIK_203_13 rfl rfl rfl ?_
  refine jT_xiload_n (v := (0, 7 * x2)) (pcN := 15) jIK_203_14 rfl rfl rfl ?_
  refine jT_xiload_n (v := (0, 1)) (pcN := 16) jIK_203_15 rfl rfl rfl ?_
  refine jT_xiadd (x := 7 * x2) (y := 1) (z := 7 * x2 + 1) (pcN := 17) jIK_203_16 rfl (by omega) rfl ?_
  refine jT_iald (x := 0) (a := 1) (j := (7 * x2 + 1).toNat) (fs := []) (X := jS0) (by rfl) (by rfl) (by rfl) (jw_nn (by omega) (by omega)) (jS0_r1 (by omega) (by omega)) ?_
  refine jT_eq (LN := [(3, (0, 1)), (0, (4, 0)), (1, (4, 1)), (2, (0, 7 * x2))]) (stN := [(0, 0), (0, 1), (4, 7)]) (hsN := jpK_256) rfl rfl rfl ?_
  refine jT_xi2l (x := 0) (z := 0) (pcN := 19) jIK_203_18 rfl (by decide +kernel) rfl ?_
  refine jT_adv 1 (pcN := 20) (LN := [(3, (0, 1)), (0, (4, 0)), (1, (4, 1)), (2, (0, 7 * x2))]) (stN := []) (hsN := jpK_256) (c1 := 0) (s1 := 0) (c2 := 0) (s2 := 0) (by exact rfl) ?_ (by omega) (by omega)
  refine jT_xiinc (x := 1) (z := 2) (LN := [(3, (0, 2)), (0, (4, 0)), (1, (4, 1)), (2, (0, 7 * x2))]) (pcN := 23) jIK_203_20 rfl rfl (by decide) rfl rfl ?_
  refine jT_xgoto (pcN := 2) jIK_203_23 rfl ?_
  refine jT_xiload_n (v := (0, 2)) (pcN := 3) jIK_203_2 rfl rfl rfl ?_
  refine jT_xbipush (k := 6) (pcN := 5) jIK_203_3 (by decide) rfl ?_
  refine jT_xicF (t := 26) (pcN := 8) jIK_203_5 rfl (by decide +kernel) rfl rfl ?_
  refine jT_xaload_n (v := (4, 0)) (pcN := 9) jIK_203_8 rfl rfl rfl ?_
  refine jT_xgetf (a := 0) (t := 1) (ci := 14) (fi := 9) (c := jzK_21) (v := (4, 7)) (pcN := 12) jIK_203_9 rfl rfl rfl rfl rfl rfl rfl ?_
  refine jT_xiload_n (v := (0, 2)) (pcN := 13) jIK_203_12 rfl rfl rfl ?_
  refine jT_xaload_n (v := (4, 1)) (pcN := 14) jIK_203_13 rfl rfl rfl ?_
  refine jT_xiload_n (v := (0, 7 * x2)) (pcN := 15) jIK_203_14 rfl rfl rfl ?_
  refine jT_xiload_n (v := (0, 2)) (pcN := 16) jIK_203_15 rfl rfl rfl ?_
  refine jT_xiadd (x := 7 * x2) (y := 2) (z := 7 * x2 + 2) (pcN := 17) jIK_203_16 rfl (by omega) rfl ?_
  refine jT_iald (x := 0) (a := 1) (j := (7 * x2 + 2).toNat) (fs := []) (X := jS0) (by rfl) (by rfl) (by rfl) (jw_nn (by omega) (by omega)) (jS0_r2 (by omega) (by omega)) ?_
  refine jT_eq (LN := [(3, (0, 2)), (0, (4, 0)), (1, (4, 1)), (2, (0, 7 * x2))]) (stN := [(0, 0), (0, 2), (4, 7)]) (hsN := jpK_256) rfl rfl rfl ?_
  refine jT_xi2l (x := 0) (z := 0) (pcN := 19) jIK_203_18 rfl (by decide +kernel) rfl ?_
  refine jT_adv 1 (pcN := 20) (LN := [(3, (0, 2)), (0, (4, 0)), (1, (4, 1)), (2, (0, 7 * x2))]) (stN := []) (hsN := jpK_256) (c1 := 0) (s1 := 0) (c2 := 0) (s2 := 0) (by exact rfl) ?_ (by omega) (by omega)
  refine jT_xiinc (x := 2) (z := 3) (LN := [(3, (0, 3)), (0, (4, 0)), (1, (4, 1)), (2, (0, 7 * x2))]) (pcN := 23) jIK_203_20 rfl rfl (by decide) rfl rfl ?_
  refine jT_xgoto (pcN := 2) jIK_203_23 rfl ?_
  refine jT_xiload_n (v := (0, 3)) (pcN := 3) jIK_203_2 rfl rfl rfl ?_
  refine jT_xbipush (k := 6) (pcN := 5) jIK_203_3 (by decide) rfl ?_
  refine jT_xicF (t := 26) (pcN := 8) jIK_203_5 rfl (by decide +kernel) rfl rfl ?_
  refine jT_xaload_n (v := (4, 0)) (pcN := 9) jIK_203_8 rfl rfl rfl ?_
  refine jT_xgetf (a := 0) (t := 1) (ci := 14) (fi := 9) (c := jzK_21) (v := (4, 7)) (pcN := 12) jIK_203_9 rfl rfl rfl rfl rfl rfl rfl ?_
  refine jT_xiload_n (v := (0, 3)) (pcN := 13) jIK_203_12 rfl rfl rfl ?_
  refine jT_xaload_n (v := (4, 1)) (pcN := 14) jIK_203_13 rfl rfl rfl ?_
  refine jT_xiload_n (v := (0, 7 * x2)) (pcN := 15) jIK_203_14 rfl rfl rfl ?_
  refine jT_xiload_n (v := (0, 3)) (pcN := 16) jIK_203_15 rfl rfl rfl ?_
  refine jT_xiadd (x := 7 * x2) (y := 3) (z := 7 * x2 + 3) (pcN := 17) jIK_203_16 rfl (by omega) rfl ?_
  refine jT_iald (x := 0) (a := 1) (j := (7 * x2 + 3).toNat) (fs := []) (X := jS0) (by rfl) (by rfl) (by rfl) (jw_nn (by omega) (by omega)) (jS0_r3 (by omega) (by omega)) ?_
  refine jT_eq (LN := [(3, (0, 3)), (0, (4, 0)), (1, (4, 1)), (2, (0, 7 * x2))]) (stN := [(0, 0), (0, 3), (4, 7)]) (hsN := jpK_256) rfl rfl rfl ?_
  refine jT_xi2l (x := 0) (z := 0) (pcN := 19) jIK_203_18 rfl (by decide +kernel) rfl ?_
  refine jT_adv 1 (pcN := 20) (LN := [(3, (0, 3)), (0, (4, 0)), (1, (4, 1)), (2, (0, 7 * x2))]) (stN := []) (hsN := jpK_256) (c1 := 0) (s1 := 0) (c2 := 0) (s2 := 0) (by exact rfl) ?_ (by omega) (by omega)
  refine jT_xiinc (x := 3) (z := 4) (LN := [(3, (0, 4)), (0, (4, 0)), (1, (4, 1)), (2, (0, 7 * x2))]) (pcN := 23) jIK_203_20 rfl rfl (by decide) rfl rfl ?_
  refine jT_xgoto (pcN := 2) jIK_203_23 rfl ?_
  refine jT_xiload_n (v := (0, 4)) (pcN := 3) jIK_203_2 rfl rfl rfl ?_
  refine jT_xbipush (k := 6) (pcN := 5) jIK_203_3 (by decide) rfl ?_
  refine jT_xicF (t := 26) (pcN := 8) jIK_203_5 rfl (by decide +kernel) rfl rfl ?_
  refine jT_xaload_n (v := (4, 0)) (pcN := 9) jIK_203_8 rfl rfl rfl ?_
  refine jT_xgetf (a := 0) (t := 1) (ci := 14) (fi := 9) (c := jzK_21) (v := (4, 7)) (pcN := 12) jIK_203_9 rfl rfl rfl rfl rfl rfl rfl ?_
  refine jT_xiload_n (v := (0, 4)) (pcN := 13) jIK_203_12 rfl rfl rfl ?_
  refine jT_xaload_n (v := (4, 1)) (pcN := 14) jIK_203_13 rfl rfl rfl ?_
  refine jT_xiload_n (v := (0, 7 * x2)) (pcN := 15) jIK_203_14 rfl rfl rfl ?_
  refine jT_xiload_n (v := (0, 4)) (pcN := 16) jIK_203_15 rfl rfl rfl ?_
  refine jT_xiadd (x := 7 * x2) (y := 4) (z := 7 * x2 + 4) (pcN := 17) jIK_203_16 rfl (by omega) rfl ?_
  refine jT_iald (x := 0) (a := 1) (j := (7 * x2 + 4).toNat) (fs := []) (X := jS0) (by rfl) (by rfl) (by rfl) (jw_nn (by omega) (by omega)) (jS0_r4 (by omega) (by omega)) ?_
  refine jT_eq (LN := [(3, (0, 4)), (0, (4, 0)), (1, (4, 1)), (2, (0, 7 * x2))]) (stN := [(0, 0), (0, 4), (4, 7)]) (hsN := jpK_256) rfl rfl rfl ?_
  refine jT_xi2l (x := 0) (z := 0) (pcN := 19) jIK_203_18 rfl (by decide +kernel) rfl ?_
  refine jT_adv 1 (pcN := 20) (LN := [(3, (0, 4)), (0, (4, 0)), (1, (4, 1)), (2, (0, 7 * x2))]) (stN := []) (hsN := jpK_256) (c1 := 0) (s1 := 0) (c2 := 0) (s2 := 0) (by exact rfl) ?_ (by omega) (by omega)
  refine jT_xiinc (x := 4) (z := 5) (LN := [(3, (0, 5)), (0, (4, 0)), (1, (4, 1)), (2, (0, 7 * x2))]) (pcN := 23) jIK_203_20 rfl rfl (by decide) rfl rfl ?_
  refine jT_xgoto (pcN := 2) jIK_203_23 rfl ?_
  refine jT_xiload_n (v := (0, 5)) (pcN := 3) jIK_203_2 rfl rfl rfl ?_
  refine jT_xbipush (k := 6) (pcN := 5) jIK_203_3 (by decide) rfl ?_
  refine jT_xicF (t := 26) (pcN := 8) jIK_203_5 rfl (by decide +kernel) rfl rfl ?_
  refine jT_xaload_n (v := (4, 0)) (pcN := 9) jIK_203_8 rfl rfl rfl ?_
  refine jT_xgetf (a := 0) (t := 1) (ci := 14) (fi := 9) (c := jzK_21) (v := (4, 7)) (pcN := 12) jIK_203_9 rfl rfl rfl rfl rfl rfl rfl ?_
  refine jT_xiload_n (v := (0, 5)) (pcN := 13) jIK_203_12 rfl rfl rfl ?_
  refine jT_xaload_n (v := (4, 1)) (pcN := 14) jIK_203_13 rfl rfl rfl ?_
  refine jT_xiload_n (v := (0, 7 * x2)) (pcN := 15) jIK_203_14 rfl rfl rfl ?_
  refine jT_xiload_n (v := (0, 5)) (pcN := 16) jIK_203_15 rfl rfl rfl ?_
  refine jT_xiadd (x := 7 * x2) (y := 5) (z := 7 * x2 + 5) (pcN := 17) jIK_203_16 rfl (by omega) rfl ?_
  refine jT_iald (x := 0) (a := 1) (j := (7 * x2 + 5).toNat) (fs := []) (X := jS0) (by rfl) (by rfl) (by rfl) (jw_nn (by omega) (by omega)) (jS0_r5 (by omega) (by omega)) ?_
  refine jT_eq (LN := [(3, (0, 5)), (0, (4, 0)), (1, (4, 1)), (2, (0, 7 * x2))]) (stN := [(0, 0), (0, 5), (4, 7)]) (hsN := jpK_256) rfl rfl rfl ?_
  refine jT_xi2l (x := 0) (z := 0) (pcN := 19) jIK_203_18 rfl (by decide +kernel) rfl ?_
  refine jT_adv 1 (pcN := 20) (LN := [(3, (0, 5)), (0, (4, 0)), (1, (4, 1)), (2, (0, 7 * x2))]) (stN := []) (hsN := jpK_256) (c1 := 0) (s1 := 0) (c2 := 0) (s2 := 0) (by exact rfl) ?_ (by omega) (by omega)
  refine jT_xiinc (x := 5) (z := 6) (LN := [(3, (0, 6)), (0, (4, 0)), (1, (4, 1)), (2, (0, 7 * x2))]) (pcN := 23) jIK_203_20 rfl rfl (by decide) rfl rfl ?_
  refine jT_xgoto (pcN := 2) jIK_203_23 rfl ?_
  refine jT_xiload_n (v := (0, 6)) (pcN := 3) jIK_203_2 rfl rfl rfl ?_
  refine jT_xbipush (k := 6) (pcN := 5) jIK_203_3 (by decide) rfl ?_
  refine jT_xicT (pcN := 26) jIK_203_5 rfl (by decide +kernel) rfl ?_
  refine jT_xaload_n (v := (4, 0)) (pcN := 27) jIK_203_26 rfl rfl rfl ?_
  refine jT_xaload_n (v := (4, 1)) (pcN := 28) jIK_203_27 rfl rfl rfl ?_
  refine jT_xiload_n (v := (0, 7 * x2)) (pcN := 29) jIK_203_28 rfl rfl rfl ?_
  refine jT_xbipush (k := 6) (pcN := 31) jIK_203_29 (by decide) rfl ?_
  refine jT_xiadd (x := 7 * x2) (y := 6) (z := 7 * x2 + 6) (pcN := 32) jIK_203_31 rfl (by omega) rfl ?_
  refine jT_iald (x := 1) (a := 1) (j := (7 * x2 + 6).toNat) (fs := []) (X := jS0) (by rfl) (by rfl) (by rfl) (jw_nn (by omega) (by omega)) (jS0_r6 (by omega) (by omega)) ?_
  refine jT_eq (LN := [(3, (0, 6)), (0, (4, 0)), (1, (4, 1)), (2, (0, 7 * x2))]) (stN := [(0, 1), (4, 0)]) (hsN := jpK_256) rfl rfl rfl ?_
  refine jT_xi2l (x := 1) (z := 1) (pcN := 34) jIK_203_33 rfl (by decide +kernel) rfl ?_
  refine jT_adv 1 (pcN := 37) (LN := [(3, (0, 6)), (0, (4, 0)), (1, (4, 1)), (2, (0, 7 * x2))]) (stN := []) (hsN := jpK_256) (c1 := 0) (s1 := 0) (c2 := 0) (s2 := 0) (by exact rfl) ?_ (by omega) (by omega)
  exact jT_ret rfl (by decide) (by show 16 ≤ 16; omega) (by omega) (by omega) ⟨rfl, rfl, rfl⟩
theorem jIK_202_0 : jmI (jm 202) 0 = (.aload_n 0, 1) := by rfl
theorem jIK_202_1 : jmI (jm 202) 1 = (.aload_n 0, 1) := by rfl
theorem jIK_202_2 : jmI (jm 202) 2 = (.getfield 9, 3) := by rfl
theorem jIK_202_5 : jmI (jm 202) 5 = (.bipush 7, 2) := by rfl
theorem jIK_202_7 : jmI (jm 202) 7 = (.iload_n 1, 1) := by rfl
theorem jIK_202_8 : jmI (jm 202) 8 = (.imul, 1) := by rfl
theorem jK_202_62 {xs : List Int} {d : Nat} {x2 : Int} (h_x2 : 0 ≤ x2 ∧ x2 ≤ 7) : jT xs (d + 1) 202 16 0 [(0, (4, 0)), (1, (0, x2))] [] jpK_256 0 0 (fun k v hsN => k = 0 ∧ v = (9, 0) ∧ hsN = jpK_256 ++ []) := by
  refine jT_xaload_n (v := (4, 0)) (pcN := 1) jIK_202_0 rfl rfl rfl ?_
  refine jT_xaload_n (v := (4, 0)) (pcN := 2) jIK_202_1 rfl rfl rfl ?_
  refine jT_xgetf (a := 0) (t := 1) (ci := 14) (fi := 1) (c := jzK_21) (v := (4, 1)) (pcN := 5) jIK_202_2 rfl rfl rfl rfl rfl rfl rfl ?_
  refine jT_xbipush (k := 7) (pcN := 7) jIK_202_5 (by decide) rfl ?_
  refine jT_xiload_n (v := (0, x2)) (pcN := 8) jIK_202_7 rfl rfl rfl ?_
  refine jT_ximul (x := 7) (y := x2) (z := 7 * x2) (pcN := 9) jIK_202_8 rfl (rfl) rfl ?_
  refine jT_fR [0, 1, 2, 3, 4, 5, 6, 7, 8, 9, 10, 11, 12, 13, 14, 15] 16 (y := 203) (pcN := 12) (dC := 0) (bc1 := 0) (bc2 := 0) (c1 := 0) (c2 := 0) (as := [(4, 0), (4, 1), (0, 7 * x2)]) (asC := [(4, 0), (4, 1), (0, 7 * x2)]) (LN := [(0, (4, 0)), (1, (0, x2))]) (stN := []) (hsC := jpK_256) (v := (9, 0)) (st2 := []) (jK_203_61 (d := 0) (by omega)) (by rfl) (by rfl) (by decide +kernel) (by rfl) (by rfl) (by omega) (by omega) (by omega) (by omega) rfl ?_
  exact jT_ret rfl (by decide) (by show 16 ≤ 16; omega) (by omega) (by omega) ⟨rfl, rfl, rfl⟩
theorem jK_194_63 {xs : List Int} {d : Nat} : jT xs d 194 0 0 [(0, (1, 1)), (2, (1, 0))] [] [] 0 0 (fun k v hsN => k = 0 ∧ v = (1, 1) ∧ hsN = [] ++ []) := by
  refine jT_advK 7 (pcN := 20) (LN := [(0, (1, 1)), (2, (1, 0))]) (stN := [(1, 1)]) (hsN := []) (c1 := 0) (s1 := 0) (c2 := 0) (s2 := 0) (by decide +kernel) ?_ (by omega) (by omega)
  exact jT_ret rfl (by decide) (by show 0 ≤ 0; omega) (by omega) (by omega) ⟨rfl, rfl, rfl⟩
theorem jK_200_64 {xs : List Int} {d : Nat} : jT xs d 200 1 0 [(0, (4, 0))] [] [(101, [], [0, 0, 0, 0, 0, 0])] 0 0 (fun k v hsN => k = 0 ∧ v = (0, 1) ∧ hsN = [(101, [], [0, 0, 0, 0, 0, 0])] ++ []) := by
  refine jT_advK 72 (pcN := 25) (LN := [(1, (0, 6)), (0, (4, 0))]) (stN := [(0, 1)]) (hsN := [(101, [], [0, 0, 0, 0, 0, 0])]) (c1 := 0) (s1 := 0) (c2 := 0) (s2 := 0) (by decide +kernel) ?_ (by omega) (by omega)
  exact jT_ret rfl (by decide) (by show 1 ≤ 1; omega) (by omega) (by omega) ⟨rfl, rfl, rfl⟩
def jpK_273 : List JC := [jzK_21, jgh, jgh, jgh, jgh, jgh, jgh, (101, [], [0, 0, 0, 0, 0, 0]), jgh, jgh, jgh, jgh, jgh, jgh, jgh, jgh]
theorem jK_199_65 {xs : List Int} {d : Nat} : jT xs (d + 1) 199 16 0 [(0, (4, 0))] [] jpK_273 0 0 (fun k v hsN => k = 0 ∧ v = (9, 0) ∧ hsN = jpK_273 ++ []) := by
  refine jT_advK 13 (pcN := 20) (LN := [(3, (0, 0)), (1, (1, 1)), (0, (4, 0))]) (stN := [(1, 0), (1, 1)]) (hsN := jpK_273) (c1 := 0) (s1 := 0) (c2 := 0) (s2 := 0) (by decide +kernel) ?_ (by omega) (by omega)
  refine jT_fR [] 16 (y := 194) (pcN := 23) (dC := 0) (bc1 := 0) (bc2 := 0) (c1 := 0) (c2 := 0) (as := [(1, 1), (1, 0)]) (asC := [(1, 1), (1, 0)]) (LN := [(3, (0, 0)), (1, (1, 1)), (0, (4, 0))]) (stN := []) (hsC := []) (v := (1, 1)) (st2 := [(1, 1)]) (jK_194_63 (d := 0)) (by rfl) (by rfl) (by decide +kernel) (by rfl) (by rfl) (by omega) (by omega) (by omega) (by omega) rfl ?_
  refine jT_advK 11 (pcN := 20) (LN := [(3, (0, 1)), (1, (1, 1)), (0, (4, 0))]) (stN := [(1, 0), (1, 1)]) (hsN := jpK_273) (c1 := 0) (s1 := 0) (c2 := 0) (s2 := 0) (by decide +kernel) ?_ (by omega) (by omega)
  refine jT_fR [] 16 (y := 194) (pcN := 23) (dC := 0) (bc1 := 0) (bc2 := 0) (c1 := 0) (c2 := 0) (as := [(1, 1), (1, 0)]) (asC := [(1, 1), (1, 0)]) (LN := [(3, (0, 1)), (1, (1, 1)), (0, (4, 0))]) (stN := []) (hsC := []) (v := (1, 1)) (st2 := [(1, 1)]) (jK_194_63 (d := 0)) (by rfl) (by rfl) (by decide +kernel) (by rfl) (by rfl) (by omega) (by omega) (by omega) (by omega) rfl ?_
  refine jT_advK 11 (pcN := 20) (LN := [(3, (0, 2)), (1, (1, 1)), (0, (4, 0))]) (stN := [(1, 0), (1, 1)]) (hsN := jpK_273) (c1 := 0) (s1 := 0) (c2 := 0) (s2 := 0) (by decide +kernel) ?_ (by omega) (by omega)
  refine jT_fR [] 16 (y := 194) (pcN := 23) (dC := 0) (bc1 := 0) (bc2 := 0) (c1 := 0) (c2 := 0) (as := [(1, 1), (1, 0)]) (asC := [(1, 1), (1, 0)]) (LN := [(3, (0, 2)), (1, (1, 1)), (0, (4, 0))]) (stN := []) (hsC := []) (v := (1, 1)) (st2 := [(1, 1)]) (jK_194_63 (d := 0)) (by rfl) (by rfl) (by decide +kernel) (by rfl) (by rfl) (by omega) (by omega) (by omega) (by omega) rfl ?_
  refine jT_advK 11 (pcN := 20) (LN := [(3, (0, 3)), (1, (1, 1)), (0, (4, 0))]) (stN := [(1, 0), (1, 1)]) (hsN := jpK_273) (c1 := 0) (s1 := 0) (c2 := 0) (s2 := 0) (by decide +kernel) ?_ (by omega) (by omega)
  refine jT_fR [] 16 (y := 194) (pcN := 23) (dC := 0) (bc1 := 0) (bc2 := 0) (c1 := 0) (c2 := 0) (as := [(1, 1), (1, 0)]) (asC := [(1, 1), (1, 0)]) (LN := [(3, (0, 3)), (1, (1, 1)), (0, (4, 0))]) (stN := []) (hsC := []) (v := (1, 1)) (st2 := [(1, 1)]) (jK_194_63 (d := 0)) (by rfl) (by rfl) (by decide +kernel) (by rfl) (by rfl) (by omega) (by omega) (by omega) (by omega) rfl ?_
  refine jT_advK 11 (pcN := 20) (LN := [(3, (0, 4)), (1, (1, 1)), (0, (4, 0))]) (stN := [(1, 0), (1, 1)]) (hsN := jpK_273) (c1 := 0) (s1 := 0) (c2 := 0) (s2 := 0) (by decide +kernel) ?_ (by omega) (by omega)
  refine jT_fR [] 16 (y := 194) (pcN := 23) (dC := 0) (bc1 := 0) (bc2 := 0) (c1 := 0) (c2 := 0) (as := [(1, 1), (1, 0)]) (asC := [(1, 1), (1, 0)]) (LN := [(3, (0, 4)), (1, (1, 1)), (0, (4, 0))]) (stN := []) (hsC := []) (v := (1, 1)) (st2 := [(1, 1)]) (jK_194_63 (d := 0)) (by rfl) (by rfl) (by decide +kernel) (by rfl) (by rfl) (by omega) (by omega) (by omega) (by omega) rfl ?_
  refine jT_advK 11 (pcN := 20) (LN := [(3, (0, 5)), (1, (1, 1)), (0, (4, 0))]) (stN := [(1, 0), (1, 1)]) (hsN := jpK_273) (c1 := 0) (s1 := 0) (c2 := 0) (s2 := 0) (by decide +kernel) ?_ (by omega) (by omega)
  refine jT_fR [] 16 (y := 194) (pcN := 23) (dC := 0) (bc1 := 0) (bc2 := 0) (c1 := 0) (c2 := 0) (as := [(1, 1), (1, 0)]) (asC := [(1, 1), (1, 0)]) (LN := [(3, (0, 5)), (1, (1, 1)), (0, (4, 0))]) (stN := []) (hsC := []) (v := (1, 1)) (st2 := [(1, 1)]) (jK_194_63 (d := 0)) (by rfl) (by rfl) (by decide +kernel) (by rfl) (by rfl) (by omega) (by omega) (by omega) (by omega) rfl ?_
  refine jT_advK 8 (pcN := 34) (LN := [(3, (0, 6)), (1, (1, 1)), (0, (4, 0))]) (stN := [(4, 7)]) (hsN := jpK_273) (c1 := 0) (s1 := 0) (c2 := 0) (s2 := 0) (by decide +kernel) ?_ (by omega) (by omega)
  refine jT_fR [7] 16 (y := 200) (pcN := 37) (dC := 0) (bc1 := 0) (bc2 := 0) (c1 := 0) (c2 := 0) (as := [(4, 7)]) (asC := [(4, 0)]) (LN := [(3, (0, 6)), (1, (1, 1)), (0, (4, 0))]) (stN := []) (hsC := [(101, [], [0, 0, 0, 0, 0, 0])]) (v := (0, 1)) (st2 := [(0, 1)]) (jK_200_64 (d := 0)) (by rfl) (by rfl) (by decide +kernel) (by rfl) (by rfl) (by omega) (by omega) (by omega) (by omega) rfl ?_
  refine jT_advK 93 (pcN := 79) (LN := [(3, (0, 6)), (1, (1, 1)), (0, (4, 0))]) (stN := []) (hsN := jpK_273) (c1 := 0) (s1 := 0) (c2 := 0) (s2 := 0) (by decide +kernel) ?_ (by omega) (by omega)
  exact jT_ret rfl (by decide) (by show 16 ≤ 16; omega) (by omega) (by omega) ⟨rfl, rfl, rfl⟩
theorem jIK_207_0 : jmI (jm 207) 0 = (.iconst 0, 1) := by rfl
theorem jIK_207_1 : jmI (jm 207) 1 = (.istore_n 3, 1) := by rfl
theorem jIK_207_2 : jmI (jm 207) 2 = (.iload_n 3, 1) := by rfl
theorem jIK_207_3 : jmI (jm 207) 3 = (.bipush 6, 2) := by rfl
theorem jIK_207_5 : jmI (jm 207) 5 = (.if_icmp .ge 20, 3) := by rfl
theorem jIK_207_8 : jmI (jm 207) 8 = (.aload_n 0, 1) := by rfl
theorem jIK_207_9 : jmI (jm 207) 9 = (.getfield 31, 3) := by rfl
theorem jIK_207_12 : jmI (jm 207) 12 = (.iload_n 3, 1) := by rfl
theorem jIK_207_14 : jmI (jm 207) 14 = (.laload, 1) := by rfl
theorem jIK_207_15 : jmI (jm 207) 15 = (.iload_n 1, 1) := by rfl
theorem jIK_207_16 : jmI (jm 207) 16 = (.i2l, 1) := by rfl
theorem jIK_207_17 : jmI (jm 207) 17 = (.lmul, 1) := by rfl
theorem jIK_207_19 : jmI (jm 207) 19 = (.iinc 3 1, 3) := by rfl
theorem jIK_207_22 : jmI (jm 207) 22 = (.goto (-20), 3) := by rfl
theorem jIK_207_25 : jmI (jm 207) 25 = (.aload_n 0, 1) := by rfl
theorem jIK_207_27 : jmI (jm 207) 27 = (.getfield 35, 3) := by rfl
theorem jIK_207_30 : jmI (jm 207) 30 = (.iload_n 2, 1) := by rfl
theorem jIK_207_31 : jmI (jm 207) 31 = (.i2l, 1) := by rfl
theorem jIK_207_32 : jmI (jm 207) 32 = (.lmul, 1) := by rfl
theorem jIK_207_36 : jmI (jm 207) 36 = (.aload_n 0, 1) := by rfl
theorem jK_207_66 {xs : List Int} {d : Nat} {x3 : Int} (h_x3 : (-50) ≤ x3 ∧ x3 ≤ 50) : jT xs (d + 2) 207 16 0 [(0, (4, 0)), (1, (0, x3)), (2, (0, 1))] [] jpK_273 0 0 (fun k v hsN => k = 0 ∧ v = (9, 0) ∧ hsN = jpK_273 ++ []) := by
  refine jT_xiconst (k := 0) (pcN := 1) jIK_207_0 rfl ?_
  refine jT_xistore_n (v := (0, 0)) (LN := [(3, (0, 0)), (0, (4, 0)), (1, (0, x3)), (2, (0, 1))]) (pcN := 2) jIK_207_1 rfl rfl rfl rfl ?_
  refine jT_xiload_n (v := (0, 0)) (pcN := 3) jIK_207_2 rfl rfl rfl ?_
  refine jT_xbipush (k := 6) (pcN := 5) jIK_207_3 (by decide) rfl ?_
  refine jT_xicF (t := 25) (pcN := 8) jIK_207_5 rfl (by decide +kernel) rfl rfl ?_
  refine jT_xaload_n (v := (4, 0)) (pcN := 9) jIK_207_8 rfl rfl rfl ?_
  refine jT_xgetf (a := 0) (t := 1) (ci := 14) (fi := 9) (c := jzK_21) (v := (4, 7)) (pcN := 12) jIK_207_9 rfl rfl rfl rfl rfl rfl rfl ?_
  refine jT_xiload_n (v := (0, 0)) (pcN := 13) jIK_207_12 rfl rfl rfl ?_
  refine jT_adv 1 (pcN := 14) (LN := [(3, (0, 0)), (0, (4, 0)), (1, (0, x3)), (2, (0, 1))]) (stN := [(0, 0), (4, 7), (0, 0), (4, 7)]) (hsN := jpK_273) (c1 := 0) (s1 := 0) (c2 := 0) (s2 := 0) (by exact rfl) ?_ (by omega) (by omega)
  refine jT_lald (x := 0) (a := 7) (j := 0) (fs := []) (X := [0, 0, 0, 0, 0, 0]) jIK_207_14 rfl rfl rfl rfl ?_
  refine jT_eq (LN := [(3, (0, 0)), (0, (4, 0)), (1, (0, x3)), (2, (0, 1))]) (stN := [(1, 0), (0, 0), (4, 7)]) (hsN := jpK_273) rfl rfl rfl ?_
  refine jT_xiload_n (v := (0, x3)) (pcN := 16) jIK_207_15 rfl rfl rfl ?_
  refine jT_xi2l (x := x3) (z := x3) (pcN := 17) jIK_207_16 rfl (jw_idd (by omega) (by omega)) rfl ?_
  refine jT_xlmul (x := 0) (y := x3) (z := 0) (pcN := 18) jIK_207_17 rfl (by omega) rfl ?_
  refine jT_adv 1 (pcN := 19) (LN := [(3, (0, 0)), (0, (4, 0)), (1, (0, x3)), (2, (0, 1))]) (stN := []) (hsN := jpK_273) (c1 := 0) (s1 := 0) (c2 := 0) (s2 := 0) (by exact rfl) ?_ (by omega) (by omega)
  refine jT_xiinc (x := 0) (z := 1) (LN := [(3, (0, 1)), (0, (4, 0)), (1, (0, x3)), (2, (0, 1))]) (pcN := 22) jIK_207_19 rfl rfl (by decide) rfl rfl ?_
  refine jT_xgoto (pcN := 2) jIK_207_22 rfl ?_
  refine jT_xiload_n (v := (0, 1)) (pcN := 3) jIK_207_2 rfl rfl rfl ?_
  refine jT_xbipush (k := 6) (pcN := 5) jIK_207_3 (by decide) rfl ?_
  refine jT_xicF (t := 25) (pcN := 8) jIK_207_5 rfl (by decide +kernel) rfl rfl ?_
  refine jT_xaload_n (v := (4, 0)) (pcN := 9) jIK_207_8 rfl rfl rfl ?_
  refine jT_xgetf (a := 0) (t := 1) (ci := 14) (fi := 9) (c := jzK_21) (v := (4, 7)) (pcN := 12) jIK_207_9 rfl rfl rfl rfl rfl rfl rfl ?_
  refine jT_xiload_n (v := (0, 1)) (pcN := 13) jIK_207_12 rfl rfl rfl ?_
  refine jT_adv 1 (pcN := 14) (LN := [(3, (0, 1)), (0, (4, 0)), (1, (0, x3)), (2, (0, 1))]) (stN := [(0, 1), (4, 7), (0, 1), (4, 7)]) (hsN := jpK_273) (c1 := 0) (s1 := 0) (c2 := 0) (s2 := 0) (by exact rfl) ?_ (by omega) (by omega)
  refine jT_lald (x := 0) (a := 7) (j := 1) (fs := []) (X := [0, 0, 0, 0, 0, 0]) jIK_207_14 rfl rfl rfl rfl ?_
  refine jT_eq (LN := [(3, (0, 1)), (0, (4, 0)), (1, (0, x3)), (2, (0, 1))]) (stN := [(1, 0), (0, 1), (4, 7)]) (hsN := jpK_273) rfl rfl rfl ?_
  refine jT_xiload_n (v := (0, x3)) (pcN := 16) jIK_207_15 rfl rfl rfl ?_
  refine jT_xi2l (x := x3) (z := x3) (pcN := 17) jIK_207_16 rfl (jw_idd (by omega) (by omega)) rfl ?_
  refine jT_xlmul (x := 0) (y := x3) (z := 0) (pcN := 18) jIK_207_17 rfl (by omega) rfl ?_
  refine jT_adv 1 (pcN := 19) (LN := [(3, (0, 1)), (0, (4, 0)), (1, (0, x3)), (2, (0, 1))]) (stN := []) (hsN := jpK_273) (c1 := 0) (s1 := 0) (c2 := 0) (s2 := 0) (by exact rfl) ?_ (by omega) (by omega)
  refine jT_xiinc (x := 1) (z := 2) (LN := [(3, (0, 2)), (0, (4, 0)), (1, (0, x3)), (2, (0, 1))]) (pcN := 22) jIK_207_19 rfl rfl (by decide) rfl rfl ?_
  refine jT_xgoto (pcN := 2) jIK_207_22 rfl ?_
  refine jT_xiload_n (v := (0, 2)) (pcN := 3) jIK_207_2 rfl rfl rfl ?_
  refine jT_xbipush (k := 6) (pcN := 5) jIK_207_3 (by decide) rfl ?_
  refine jT_xicF (t := 25) (pcN := 8) jIK_207_5 rfl (by decide +kernel) rfl rfl ?_
  refine jT_xaload_n (v := (4, 0)) (pcN := 9) jIK_207_8 rfl rfl rfl ?_
  refine jT_xgetf (a := 0) (t := 1) (ci := 14) (fi := 9) (c := jzK_21) (v := (4, 7)) (pcN := 12) jIK_207_9 rfl rfl rfl rfl rfl rfl rfl ?_
  refine jT_xiload_n (v := (0, 2)) (pcN := 13) jIK_207_12 rfl rfl rfl ?_
  refine jT_adv 1 (pcN := 14) (LN := [(3, (0, 2)), (0, (4, 0)), (1, (0, x3)), (2, (0, 1))]) (stN := [(0, 2), (4, 7), (0, 2), (4, 7)]) (hsN := jpK_273) (c1 := 0) (s1 := 0) (c2 := 0) (s2 := 0) (by exact rfl) ?_ (by omega) (by omega)
  refine jT_lald (x := 0) (a := 7) (j := 2) (fs := []) (X := [0, 0, 0, 0, 0, 0]) jIK_207_14 rfl rfl rfl rfl ?_
  refine jT_eq (LN := [(3, (0, 2)), (0, (4, 0)), (1, (0, x3)), (2, (0, 1))]) (stN := [(1, 0), (0, 2), (4, 7)]) (hsN := jpK_273) rfl rfl rfl ?_
  refine jT_xiload_n (v := (0, x3)) (pcN := 16) jIK_207_15 rfl rfl rfl ?_
  refine jT_xi2l (x := x3) (z := x3) (pcN := 17) jIK_207_16 rfl (jw_idd (by omega) (by omega)) rfl ?_
  refine jT_xlmul (x := 0) (y := x3) (z := 0) (pcN := 18) jIK_207_17 rfl (by omega) rfl ?_
  refine jT_adv 1 (pcN := 19) (LN := [(3, (0, 2)), (0, (4, 0)), (1, (0, x3)), (2, (0, 1))]) (stN := []) (hsN := jpK_273) (c1 := 0) (s1 := 0) (c2 := 0) (s2 := 0) (by exact rfl) ?_ (by omega) (by omega)
  refine jT_xiinc (x := 2) (z := 3) (LN := [(3, (0, 3)), (0, (4, 0)), (1, (0, x3)), (2, (0, 1))]) (pcN := 22) jIK_207_19 rfl rfl (by decide) rfl rfl ?_
  refine jT_xgoto (pcN := 2) jIK_207_22 rfl ?_
  refine jT_xiload_n (v := (0, 3)) (pcN := 3) jIK_207_2 rfl rfl rfl ?_
  refine jT_xbipush (k := 6) (pcN := 5) jIK_207_3 (by decide) rfl ?_
  refine jT_xicF (t := 25) (pcN := 8) jIK_207_5 rfl (by decide +kernel) rfl rfl ?_
  refine jT_xaload_n (v := (4, 0)) (pcN := 9) jIK_207_8 rfl rfl rfl ?_
  refine jT_xgetf (a := 0) (t := 1) (ci := 14) (fi := 9) (c := jzK_21) (v := (4, 7)) (pcN := 12) jIK_207_9 rfl rfl rfl rfl rfl rfl rfl ?_
  refine jT_xiload_n (v := (0, 3)) (pcN := 13) jIK_207_12 rfl rfl rfl ?_
  refine jT_adv 1 (pcN := 14) (LN := [(3, (0, 3)), (0, (4, 0)), (1, (0, x3)), (2, (0, 1))]) (stN := [(0, 3), (4, 7), (0, 3), (4, 7)]) (hsN := jpK_273) (c1 := 0) (s1 := 0) (c2 := 0) (s2 := 0) (by exact rfl) ?_ (by omega) (by omega)
  refine jT_lald (x := 0) (a := 7) (j := 3) (fs := []) (X := [0, 0, 0, 0, 0, 0]) jIK_207_14 rfl rfl rfl rfl ?_
  refine jT_eq (LN := [(3, (0, 3)), (0, (4, 0)), (1, (0, x3)), (2, (0, 1))]) (stN := [(1, 0), (0, 3), (4, 7)]) (hsN := jpK_273) rfl rfl rfl ?_
  refine jT_xiload_n (v := (0, x3)) (pcN := 16) jIK_207_15 rfl rfl rfl ?_
  refine jT_xi2l (x := x3) (z := x3) (pcN := 17) jIK_207_16 rfl (jw_idd (by omega) (by omega)) rfl ?_
  refine jT_xlmul (x := 0) (y := x3) (z := 0) (pcN := 18) jIK_207_17 rfl (by omega) rfl ?_
  refine jT_adv 1 (pcN := 19) (LN := [(3, (0, 3)), (0, (4, 0)), (1, (0, x3)), (2, (0, 1))]) (stN := []) (hsN := jpK_273) (c1 := 0) (s1 := 0) (c2 := 0) (s2 := 0) (by exact rfl) ?_ (by omega) (by omega)
  refine jT_xiinc (x := 3) (z := 4) (LN := [(3, (0, 4)), (0, (4, 0)), (1, (0, x3)), (2, (0, 1))]) (pcN := 22) jIK_207_19 rfl rfl (by decide) rfl rfl ?_
  refine jT_xgoto (pcN := 2) jIK_207_22 rfl ?_
  refine jT_xiload_n (v := (0, 4)) (pcN := 3) jIK_207_2 rfl rfl rfl ?_
  refine jT_xbipush (k := 6) (pcN := 5) jIK_207_3 (by decide) rfl ?_
  refine jT_xicF (t := 25) (pcN := 8) jIK_207_5 rfl (by decide +kernel) rfl rfl ?_
  refine jT_xaload_n (v := (4, 0)) (pcN := 9) jIK_207_8 rfl rfl rfl ?_
  refine jT_xgetf (a := 0) (t := 1) (ci := 14) (fi := 9) (c := jzK_21) (v := (4, 7)) (pcN := 12) jIK_207_9 rfl rfl rfl rfl rfl rfl rfl ?_
  refine jT_xiload_n (v := (0, 4)) (pcN := 13) jIK_207_12 rfl rfl rfl ?_
  refine jT_adv 1 (pcN := 14) (LN := [(3, (0, 4)), (0, (4, 0)), (1, (0, x3)), (2, (0, 1))]) (stN := [(0, 4), (4, 7), (0, 4), (4, 7)]) (hsN := jpK_273) (c1 := 0) (s1 := 0) (c2 := 0) (s2 := 0) (by exact rfl) ?_ (by omega) (by omega)
  refine jT_lald (x := 0) (a := 7) (j := 4) (fs := []) (X := [0, 0, 0, 0, 0, 0]) jIK_207_14 rfl rfl rfl rfl ?_
  refine jT_eq (LN := [(3, (0, 4)), (0, (4, 0)), (1, (0, x3)), (2, (0, 1))]) (stN := [(1, 0), (0, 4), (4, 7)]) (hsN := jpK_273) rfl rfl rfl ?_
  refine jT_xiload_n (v := (0, x3)) (pcN := 16) jIK_207_15 rfl rfl rfl ?_
  refine jT_xi2l (x := x3) (z := x3) (pcN := 17) jIK_207_16 rfl (jw_idd (by omega) (by omega)) rfl ?_
  refine jT_xlmul (x := 0) (y := x3) (z := 0) (pcN := 18) jIK_207_17 rfl (by omega) rfl ?_
  refine jT_adv 1 (pcN := 19) (LN := [(3, (0, 4)), (0, (4, 0)), (1, (0, x3)), (2, (0, 1))]) (stN := []) (hsN := jpK_273) (c1 := 0) (s1 := 0) (c2 := 0) (s2 := 0) (by exact rfl) ?_ (by omega) (by omega)
  refine jT_xiinc (x := 4) (z := 5) (LN := [(3, (0, 5)), (0, (4, 0)), (1, (0, x3)), (2, (0, 1))]) (pcN := 22) jIK_207_19 rfl rfl (by decide) rfl rfl ?_
  refine jT_xgoto (pcN := 2) jIK_207_22 rfl ?_
  refine jT_xiload_n (v := (0, 5)) (pcN := 3) jIK_207_2 rfl rfl rfl ?_
  refine jT_xbipush (k := 6) (pcN := 5) jIK_207_3 (by decide) rfl ?_
  refine jT_xicF (t := 25) (pcN := 8) jIK_207_5 rfl (by decide +kernel) rfl rfl ?_
  refine jT_xaload_n (v := (4, 0)) (pcN := 9) jIK_207_8 rfl rfl rfl ?_
  refine jT_xgetf (a := 0) (t := 1) (ci := 14) (fi := 9) (c := jzK_21) (v := (4, 7)) (pcN := 12) jIK_207_9 rfl rfl rfl rfl rfl rfl rfl ?_
  refine jT_xiload_n (v := (0, 5)) (pcN := 13) jIK_207_12 rfl rfl rfl ?_
  refine jT_adv 1 (pcN := 14) (LN := [(3, (0, 5)), (0, (4, 0)), (1, (0, x3)), (2, (0, 1))]) (stN := [(0, 5), (4, 7), (0, 5), (4, 7)]) (hsN := jpK_273) (c1 := 0) (s1 := 0) (c2 := 0) (s2 := 0) (by exact rfl) ?_ (by omega) (by omega)
  refine jT_lald (x := 0) (a := 7) (j := 5) (fs := []) (X := [0, 0, 0, 0, 0, 0]) jIK_207_14 rfl rfl rfl rfl ?_
  refine jT_eq (LN := [(3, (0, 5)), (0, (4, 0)), (1, (0, x3)), (2, (0, 1))]) (stN := [(1, 0), (0, 5), (4, 7)]) (hsN := jpK_273) rfl rfl rfl ?_
  refine jT_xiload_n (v := (0, x3)) (pcN := 16) jIK_207_15 rfl rfl rfl ?_
  refine jT_xi2l (x := x3) (z := x3) (pcN := 17) jIK_207_16 rfl (jw_idd (by omega) (by omega)) rfl ?_
  refine jT_xlmul (x := 0) (y := x3) (z := 0) (pcN := 18) jIK_207_17 rfl (by omega) rfl ?_
  refine jT_adv 1 (pcN := 19) (LN := [(3, (0, 5)), (0, (4, 0)), (1, (0, x3)), (2, (0, 1))]) (stN := []) (hsN := jpK_273) (c1 := 0) (s1 := 0) (c2 := 0) (s2 := 0) (by exact rfl) ?_ (by omega) (by omega)
  refine jT_xiinc (x := 5) (z := 6) (LN := [(3, (0, 6)), (0, (4, 0)), (1, (0, x3)), (2, (0, 1))]) (pcN := 22) jIK_207_19 rfl rfl (by decide) rfl rfl ?_
  refine jT_xgoto (pcN := 2) jIK_207_22 rfl ?_
  refine jT_xiload_n (v := (0, 6)) (pcN := 3) jIK_207_2 rfl rfl rfl ?_
  refine jT_xbipush (k := 6) (pcN := 5) jIK_207_3 (by decide) rfl ?_
  refine jT_xicT (pcN := 25) jIK_207_5 rfl (by decide +kernel) rfl ?_
  refine jT_xaload_n (v := (4, 0)) (pcN := 26) jIK_207_25 rfl rfl rfl ?_
  refine jT_adv 1 (pcN := 27) (LN := [(3, (0, 6)), (0, (4, 0)), (1, (0, x3)), (2, (0, 1))]) (stN := [(4, 0), (4, 0)]) (hsN := jpK_273) (c1 := 0) (s1 := 0) (c2 := 0) (s2 := 0) (by exact rfl) ?_ (by omega) (by omega)
  refine jT_xgetf (a := 0) (t := 1) (ci := 14) (fi := 10) (c := jzK_21) (v := (1, 1)) (pcN := 30) jIK_207_27 rfl rfl rfl rfl rfl rfl rfl ?_
  refine jT_xiload_n (v := (0, 1)) (pcN := 31) jIK_207_30 rfl rfl rfl ?_
  refine jT_xi2l (x := 1) (z := 1) (pcN := 32) jIK_207_31 rfl (by decide +kernel) rfl ?_
  refine jT_xlmul (x := 1) (y := 1) (z := 1) (pcN := 33) jIK_207_32 rfl (by decide) rfl ?_
  refine jT_adv 1 (pcN := 36) (LN := [(3, (0, 6)), (0, (4, 0)), (1, (0, x3)), (2, (0, 1))]) (stN := []) (hsN := jpK_273) (c1 := 0) (s1 := 0) (c2 := 0) (s2 := 0) (by exact rfl) ?_ (by omega) (by omega)
  refine jT_xaload_n (v := (4, 0)) (pcN := 37) jIK_207_36 rfl rfl rfl ?_
  refine jT_fR [0, 1, 2, 3, 4, 5, 6, 7, 8, 9, 10, 11, 12, 13, 14, 15] 16 (y := 199) (pcN := 40) (dC := 1) (bc1 := 0) (bc2 := 0) (c1 := 0) (c2 := 0) (as := [(4, 0)]) (asC := [(4, 0)]) (LN := [(3, (0, 6)), (0, (4, 0)), (1, (0, x3)), (2, (0, 1))]) (stN := []) (hsC := jpK_273) (v := (9, 0)) (st2 := []) (jK_199_65 (d := 0)) (by rfl) (by rfl) (by decide +kernel) (by rfl) (by rfl) (by omega) (by omega) (by omega) (by omega) rfl ?_
  exact jT_ret rfl (by decide) (by show 16 ≤ 16; omega) (by omega) (by omega) ⟨rfl, rfl, rfl⟩
theorem jK_211_67 {xs : List Int} {d : Nat} : jT xs d 211 1 0 [(0, (4, 0))] [] [(101, [], [0, 0, 0, 0, 0, 0])] 0 0 (fun k v hsN => k = 0 ∧ v = (3, 0) ∧ hsN = [(101, [], [0, 0, 0, 0, 0, 0])] ++ []) := by
  refine jT_advK 3 (pcN := 3) (LN := [(0, (4, 0))]) (stN := [(1, 0)]) (hsN := [(101, [], [0, 0, 0, 0, 0, 0])]) (c1 := 0) (s1 := 0) (c2 := 0) (s2 := 0) (by decide +kernel) ?_ (by omega) (by omega)
  refine jT_l2d (x := 0) (z := 0) (by rfl) (by rfl) (by decide +kernel) ?_
  refine jT_advK 4 (pcN := 10) (LN := [(0, (4, 0))]) (stN := [(1, 0), (3, 4609816855700290920), (3, 0)]) (hsN := [(101, [], [0, 0, 0, 0, 0, 0])]) (c1 := 0) (s1 := 0) (c2 := 0) (s2 := 0) (by decide +kernel) ?_ (by omega) (by omega)
  refine jT_l2d (x := 0) (z := 0) (by rfl) (by rfl) (by decide +kernel) ?_
  refine jT_dmul (x := 4609816855700290920) (y := 0) (z := 0) (by rfl) (by rfl) (by decide +kernel) ?_
  refine jT_dadd (x := 0) (y := 0) (z := 0) (by rfl) (by rfl) (by decide +kernel) ?_
  refine jT_advK 4 (pcN := 19) (LN := [(0, (4, 0))]) (stN := [(1, 0), (3, 4612410936051475313), (3, 0)]) (hsN := [(101, [], [0, 0, 0, 0, 0, 0])]) (c1 := 0) (s1 := 0) (c2 := 0) (s2 := 0) (by decide +kernel) ?_ (by omega) (by omega)
  refine jT_l2d (x := 0) (z := 0) (by rfl) (by rfl) (by decide +kernel) ?_
  refine jT_dmul (x := 4612410936051475313) (y := 0) (z := 0) (by rfl) (by rfl) (by decide +kernel) ?_
  refine jT_dadd (x := 0) (y := 0) (z := 0) (by rfl) (by rfl) (by decide +kernel) ?_
  refine jT_advK 4 (pcN := 28) (LN := [(0, (4, 0))]) (stN := [(1, 0), (3, 4613504020090455085), (3, 0)]) (hsN := [(101, [], [0, 0, 0, 0, 0, 0])]) (c1 := 0) (s1 := 0) (c2 := 0) (s2 := 0) (by decide +kernel) ?_ (by omega) (by omega)
  refine jT_l2d (x := 0) (z := 0) (by rfl) (by rfl) (by decide +kernel) ?_
  refine jT_dmul (x := 4613504020090455085) (y := 0) (z := 0) (by rfl) (by rfl) (by decide +kernel) ?_
  refine jT_dadd (x := 0) (y := 0) (z := 0) (by rfl) (by rfl) (by decide +kernel) ?_
  refine jT_advK 4 (pcN := 37) (LN := [(0, (4, 0))]) (stN := [(1, 0), (3, 4614972366274321729), (3, 0)]) (hsN := [(101, [], [0, 0, 0, 0, 0, 0])]) (c1 := 0) (s1 := 0) (c2 := 0) (s2 := 0) (by decide +kernel) ?_ (by omega) (by omega)
  refine jT_l2d (x := 0) (z := 0) (by rfl) (by rfl) (by decide +kernel) ?_
  refine jT_dmul (x := 4614972366274321729) (y := 0) (z := 0) (by rfl) (by rfl) (by decide +kernel) ?_
  refine jT_dadd (x := 0) (y := 0) (z := 0) (by rfl) (by rfl) (by decide +kernel) ?_
  refine jT_advK 4 (pcN := 46) (LN := [(0, (4, 0))]) (stN := [(1, 0), (3, 4615515068267881011), (3, 0)]) (hsN := [(101, [], [0, 0, 0, 0, 0, 0])]) (c1 := 0) (s1 := 0) (c2 := 0) (s2 := 0) (by decide +kernel) ?_ (by omega) (by omega)
  refine jT_l2d (x := 0) (z := 0) (by rfl) (by rfl) (by decide +kernel) ?_
  refine jT_dmul (x := 4615515068267881011) (y := 0) (z := 0) (by rfl) (by rfl) (by decide +kernel) ?_
  refine jT_dadd (x := 0) (y := 0) (z := 0) (by rfl) (by rfl) (by decide +kernel) ?_
  exact jT_ret rfl (by decide) (by show 1 ≤ 1; omega) (by omega) (by omega) ⟨rfl, rfl, rfl⟩
theorem jK_213_68 {xs : List Int} {d : Nat} : jT xs (d + 1) 213 2 0 [(0, (4, 0)), (1, (4, 1))] [] [jgh, (101, [], [0, 0, 0, 0, 0, 0])] 0 0 (fun k v hsN => k = 0 ∧ v = (0, 0) ∧ hsN = [jgh, (101, [], [0, 0, 0, 0, 0, 0])] ++ []) := by
  refine jT_advK 1 (pcN := 1) (LN := [(0, (4, 0)), (1, (4, 1))]) (stN := [(4, 1)]) (hsN := [jgh, (101, [], [0, 0, 0, 0, 0, 0])]) (c1 := 0) (s1 := 0) (c2 := 0) (s2 := 0) (by decide +kernel) ?_ (by omega) (by omega)
  refine jT_fR [1] 2 (y := 200) (pcN := 4) (dC := 0) (bc1 := 0) (bc2 := 0) (c1 := 0) (c2 := 0) (as := [(4, 1)]) (asC := [(4, 0)]) (LN := [(0, (4, 0)), (1, (4, 1))]) (stN := []) (hsC := [(101, [], [0, 0, 0, 0, 0, 0])]) (v := (0, 1)) (st2 := [(0, 1)]) (jK_200_64 (d := 0)) (by rfl) (by rfl) (by decide +kernel) (by rfl) (by rfl) (by omega) (by omega) (by omega) (by omega) rfl ?_
  refine jT_advK 3 (pcN := 18) (LN := [(0, (4, 0)), (1, (4, 1))]) (stN := [(0, 0)]) (hsN := [jgh, (101, [], [0, 0, 0, 0, 0, 0])]) (c1 := 0) (s1 := 0) (c2 := 0) (s2 := 0) (by decide +kernel) ?_ (by omega) (by omega)
  exact jT_ret rfl (by decide) (by show 2 ≤ 2; omega) (by omega) (by omega) ⟨rfl, rfl, rfl⟩
def jzK_294 : JC := (14, [(0, 0), (4, 2), (4, 3), (4, 4), (4, 5), (0, 0), (4, 6), (0, 0), (4, 7), (4, 1), (1, 1), (4, 8), (0, 0), (4, 9), (0, 0), (0, 0), (0, 0), (0, 0), (0, 0), (0, 0), (0, 0), (4, 10), (4, 11), (4, 12), (4, 13), (4, 14), (4, 15), (0, 0)], [])
def jpK_295 : List JC := [jzK_294, (101, [], [0, 0, 0, 0, 0, 0]), jgh, jgh, jgh, jgh, jgh, jgh, jgh, jgh, jgh, jgh, jgh, jgh, jgh, jgh, (101, [], [0, 0, 0, 0, 0, 0])]
def jpK_296 : List JC := [jzK_294, (101, [], [0, 0, 0, 0, 0, 0]), jgh, jgh, jgh, jgh, jgh, jgh, jgh, jgh, jgh, jgh, jgh, jgh, jgh, jgh]
theorem jK_212_69 {xs : List Int} {d : Nat} : jT xs (d + 2) 212 16 0 [(0, (4, 0)), (1, (4, 1)), (2, (1, 0))] [] jpK_296 1 6 (fun k v hsN => k = 0 ∧ v = (0, 0) ∧ hsN = jpK_296 ++ [(101, [], [0, 0, 0, 0, 0, 0])]) := by
  refine jT_advK 18 (pcN := 27) (LN := [(4, (4, 16)), (0, (4, 0)), (1, (4, 1)), (2, (1, 0))]) (stN := [(4, 16), (4, 0)]) (hsN := jpK_295) (c1 := 1) (s1 := 6) (c2 := 0) (s2 := 0) (by decide +kernel) ?_ (by omega) (by omega)
  refine jT_fR [0, 16] 17 (y := 213) (pcN := 30) (dC := 1) (bc1 := 0) (bc2 := 0) (c1 := 0) (c2 := 0) (as := [(4, 0), (4, 16)]) (asC := [(4, 0), (4, 1)]) (LN := [(4, (4, 16)), (0, (4, 0)), (1, (4, 1)), (2, (1, 0))]) (stN := []) (hsC := [jgh, (101, [], [0, 0, 0, 0, 0, 0])]) (v := (0, 0)) (st2 := [(0, 0)]) (jK_213_68 (d := 0)) (by rfl) (by rfl) (by decide +kernel) (by rfl) (by rfl) (by omega) (by omega) (by omega) (by omega) rfl ?_
  exact jT_ret rfl (by decide) (by show 16 ≤ 17; omega) (by omega) (by omega) ⟨rfl, rfl, rfl⟩
theorem jK_200_70 {xs : List Int} {d : Nat} : jT xs d 200 1 0 [(0, (4, 0))] [] [(101, [], [(-1), 0, 0, 0, 0, 0])] 0 0 (fun k v hsN => k = 0 ∧ v = (0, 0) ∧ hsN = [(101, [], [(-1), 0, 0, 0, 0, 0])] ++ []) := by
  refine jT_advK 12 (pcN := 17) (LN := [(1, (0, 0)), (0, (4, 0))]) (stN := [(0, 0)]) (hsN := [(101, [], [(-1), 0, 0, 0, 0, 0])]) (c1 := 0) (s1 := 0) (c2 := 0) (s2 := 0) (by decide +kernel) ?_ (by omega) (by omega)
  exact jT_ret rfl (by decide) (by show 1 ≤ 1; omega) (by omega) (by omega) ⟨rfl, rfl, rfl⟩
def jzK_297 : JC := (14, [(0, 0), (4, 2), (4, 3), (4, 4), (4, 5), (0, 0), (4, 6), (0, 0), (4, 7), (4, 8), (1, 1), (4, 9), (0, 0), (4, 10), (0, 0), (0, 0), (0, 0), (0, 0), (0, 0), (0, 0), (0, 0), (4, 11), (4, 12), (4, 13), (4, 14), (4, 15), (4, 16), (0, 0)], [])
def jpK_298 : List JC := [jzK_297, (101, [], [(-1), 0, 0, 0, 0, 0]), jgh, jgh, jgh, jgh, jgh, (130, [], [17, 18, 19, 20, 21, 22]), jgh, jgh, jgh, jgh, jgh, jgh, jgh, jgh, jgh, (100, [], (jenc (jlg 0))), jgh, jgh, jgh, jgh, jgh, (100, [], List.replicate 56 0)]
def jpK_299 : List JC := [jzK_297, (101, [], [(-1), 0, 0, 0, 0, 0]), jgh, jgh, jgh, jgh, jgh, (130, [], [17, 18, 19, 20, 21, 22]), jgh, jgh, jgh, jgh, jgh, jgh, jgh, jgh, jgh, (100, [], (jenc (jlg 0))), jgh, jgh, jgh, jgh, jgh, (100, [], List.replicate 56 0), (100, [], (jenc (-1)))]
def jpK_300 : List JC := [jzK_297, (101, [], [(-1), 0, 0, 0, 0, 0]), jgh, jgh, jgh, jgh, jgh, (130, [], [17, 18, 19, 20, 21, 22]), jgh, jgh, jgh, jgh, jgh, jgh, jgh, jgh, jgh, (100, [], (jenc (jlg 0))), jgh, jgh, jgh, jgh, jgh, (100, [], List.replicate 56 0), (100, [], (jenc (-1))), (100, [], (jenc ((-1) * (jlg 0))))]
def jpK_301 : List JC := [jzK_297, (101, [], [(-1), 0, 0, 0, 0, 0]), jgh, jgh, jgh, jgh, jgh, (130, [], [17, 18, 19, 20, 21, 22]), jgh, jgh, jgh, jgh, jgh, jgh, jgh, jgh, jgh, (100, [], (jenc (jlg 0))), jgh, jgh, jgh, jgh, jgh, (100, [], (jenc 0)), (100, [], (jenc (-1))), (100, [], (jenc ((-1) * (jlg 0))))]
def jpK_302 : List JC := [jzK_297, (101, [], [(-1), 0, 0, 0, 0, 0]), jgh, jgh, jgh, jgh, jgh, (130, [], [17, 18, 19, 20, 21, 22]), jgh, jgh, jgh, jgh, jgh, jgh, jgh, jgh, jgh, (100, [], (jenc (jlg 0))), jgh, jgh, jgh, jgh, jgh]
theorem jK_214_71 {xs : List Int} {d : Nat} : jT xs (d + 2) 214 23 0 [(0, (4, 0)), (1, (4, 1))] [] jpK_302 3 168 (fun k v hsN => k = 0 ∧ v = (4, 25) ∧ hsN = jpK_302 ++ [(100, [], (jenc 0)), (100, [], (jenc (-1))), (100, [], (jenc ((-1) * (jlg 0))))]) := by
  refine jT_advK 18 (pcN := 25) (LN := [(3, (0, 0)), (2, (4, 23)), (0, (4, 0)), (1, (4, 1))]) (stN := [(1, (-1)), (4, 23)]) (hsN := jpK_298) (c1 := 1) (s1 := 56) (c2 := 2) (s2 := 112) (by decide +kernel) ?_ (by omega) (by omega)
  refine jT_fA [] 24 (y := 178) (pcN := 28) (dC := 1) (bc1 := 1) (bc2 := 56) (c1 := 1) (c2 := 56) (as := [(1, (-1))]) (asC := [(1, (-1))]) (LN := [(3, (0, 0)), (2, (4, 23)), (0, (4, 0)), (1, (4, 1))]) (stN := [(4, 23)]) (hsC := []) (ex := [(100, [], (jenc (-1)))]) (v := (4, 0)) (st2 := [(4, 24), (4, 23)]) (hs2 := jpK_299) (jT_big (d := 0) (v := (-1)) (by omega) (by omega)) (by rfl) (by rfl) (by decide +kernel) (by rfl) (by rfl) (by omega) (by omega) (by omega) (by omega) rfl (by decide +kernel) ?_
  refine jT_advK 4 (pcN := 34) (LN := [(3, (0, 0)), (2, (4, 23)), (0, (4, 0)), (1, (4, 1))]) (stN := [(4, 17), (4, 24), (4, 23)]) (hsN := jpK_299) (c1 := 0) (s1 := 0) (c2 := 1) (s2 := 56) (by decide +kernel) ?_ (by omega) (by omega)
  refine jT_fA [24, 17] 25 (y := 179) (pcN := 37) (dC := 1) (bc1 := 1) (bc2 := 56) (c1 := 0) (c2 := 0) (as := [(4, 24), (4, 17)]) (asC := [(4, 0), (4, 1)]) (LN := [(3, (0, 0)), (2, (4, 23)), (0, (4, 0)), (1, (4, 1))]) (stN := [(4, 23)]) (hsC := [(100, [], (jenc (-1))), (100, [], (jenc (jlg 0)))]) (ex := [(100, [], (jenc ((-1) * (jlg 0))))]) (v := (4, 2)) (st2 := [(4, 25), (4, 23)]) (hs2 := jpK_300) (jT_product (d := 0) (a := (-1)) (b := jlg 0) (by decide +kernel) (by decide +kernel)) (by rfl) (by rfl) (by decide +kernel) (by rfl) (by rfl) (by omega) (by omega) (by omega) (by omega) rfl (by decide +kernel) ?_
  refine jT_eq (LN := [(3, (0, 0)), (2, (4, 23)), (0, (4, 0)), (1, (4, 1))]) (stN := [(4, 25), (4, 23)]) (hsN := [jzK_297, (101, [], [(-1), 0, 0, 0, 0, 0]), jgh, jgh, jgh, jgh, jgh, (130, [], [17, 18, 19, 20, 21, 22]), jgh, jgh, jgh, jgh, jgh, jgh, jgh, jgh, jgh, (100, [], (jenc (jlg 0))), jgh, jgh, jgh, jgh, jgh, (100, [], (jenc 0)), (100, [], (jenc (-1))), (100, [], (jenc ((-1) * (jlg 0))))]) rfl rfl (by show [jzK_297, (101, [], [(-1), 0, 0, 0, 0, 0]), jgh, jgh, jgh, jgh, jgh, (130, [], [17, 18, 19, 20, 21, 22]), jgh, jgh, jgh, jgh, jgh, jgh, jgh, jgh, jgh, (100, [], (jenc (jlg 0))), jgh, jgh, jgh, jgh, jgh, (100, [], List.replicate 56 0), (100, [], (jenc (-1))), (100, [], (jenc ((-1) * (jlg 0))))] = _; rw [jrep56e]) ?_
  refine jT_fR [23, 25] 26 (y := 181) (pcN := 40) (dC := 0) (bc1 := 0) (bc2 := 0) (c1 := 0) (c2 := 0) (as := [(4, 23), (4, 25)]) (asC := [(4, 0), (4, 1)]) (LN := [(3, (0, 0)), (2, (4, 23)), (0, (4, 0)), (1, (4, 1))]) (stN := []) (hsC := [(100, [], (jenc 0)), (100, [], (jenc ((-1) * (jlg 0))))]) (v := (4, 1)) (st2 := [(4, 25)]) (jT_added_0l (d := 0) (b := (-1) * (jlg 0))) (by rfl) (by rfl) (by decide +kernel) (by rfl) (by rfl) (by omega) (by omega) (by omega) (by omega) rfl ?_
  refine jT_advK 62 (pcN := 48) (LN := [(3, (0, 6)), (2, (4, 25)), (0, (4, 0)), (1, (4, 1))]) (stN := [(4, 25)]) (hsN := jpK_301) (c1 := 0) (s1 := 0) (c2 := 0) (s2 := 0) (by decide +kernel) ?_ (by omega) (by omega)
  exact jT_ret rfl (by decide) (by show 23 ≤ 26; omega) (by omega) (by omega) ⟨rfl, rfl, rfl⟩
theorem jIK_213_17 : jmI (jm 213) 17 = (.iaload, 1) := by rfl
theorem jK_213_72 {xs : List Int} {d : Nat} : jT xs (d + 3) 213 23 0 [(0, (4, 0)), (1, (4, 1))] [] jpK_302 3 168 (fun k v hsN => k = 0 ∧ v = (0, (-1)) ∧ hsN = jpK_302 ++ [(100, [], (jenc 0)), (100, [], (jenc (-1))), (100, [], (jenc ((-1) * (jlg 0))))]) := by
  refine jT_advK 1 (pcN := 1) (LN := [(0, (4, 0)), (1, (4, 1))]) (stN := [(4, 1)]) (hsN := jpK_302) (c1 := 0) (s1 := 0) (c2 := 3) (s2 := 168) (by decide +kernel) ?_ (by omega) (by omega)
  refine jT_fR [1] 23 (y := 200) (pcN := 4) (dC := 0) (bc1 := 0) (bc2 := 0) (c1 := 3) (c2 := 168) (as := [(4, 1)]) (asC := [(4, 0)]) (LN := [(0, (4, 0)), (1, (4, 1))]) (stN := []) (hsC := [(101, [], [(-1), 0, 0, 0, 0, 0])]) (v := (0, 0)) (st2 := [(0, 0)]) (jK_200_70 (d := 0)) (by rfl) (by rfl) (by decide +kernel) (by rfl) (by rfl) (by omega) (by omega) (by omega) (by omega) rfl ?_
  refine jT_advK 3 (pcN := 13) (LN := [(0, (4, 0)), (1, (4, 1))]) (stN := [(4, 1), (4, 0)]) (hsN := jpK_302) (c1 := 0) (s1 := 0) (c2 := 3) (s2 := 168) (by decide +kernel) ?_ (by omega) (by omega)
  refine jT_fA [0, 1, 2, 3, 4, 5, 6, 7, 8, 9, 10, 11, 12, 13, 14, 15, 16, 17, 18, 19, 20, 21, 22] 23 (y := 214) (pcN := 16) (dC := 2) (bc1 := 3) (bc2 := 168) (c1 := 0) (c2 := 0) (as := [(4, 0), (4, 1)]) (asC := [(4, 0), (4, 1)]) (LN := [(0, (4, 0)), (1, (4, 1))]) (stN := []) (hsC := jpK_302) (ex := [(100, [], (jenc 0)), (100, [], (jenc (-1))), (100, [], (jenc ((-1) * (jlg 0))))]) (v := (4, 25)) (st2 := [(4, 25)]) (hs2 := jpK_301) (jK_214_71 (d := 0)) (by rfl) (by rfl) (by decide +kernel) (by rfl) (by rfl) (by omega) (by omega) (by omega) (by omega) rfl (by decide +kernel) ?_
  refine jT_advK 1 (pcN := 17) (LN := [(0, (4, 0)), (1, (4, 1))]) (stN := [(0, 0), (4, 25)]) (hsN := jpK_301) (c1 := 0) (s1 := 0) (c2 := 0) (s2 := 0) (by decide +kernel) ?_ (by omega) (by omega)
  refine jT_iald (x := (-1)) (a := 25) (j := 0) (fs := []) (X := (jenc ((-1) * (jlg 0)))) (by rfl) (by rfl) (by rfl) (by rfl) (jenc_sg (by decide +kernel)) ?_
  refine jT_eq (LN := [(0, (4, 0)), (1, (4, 1))]) (stN := [(0, (-1))]) (hsN := jpK_301) rfl rfl rfl ?_
  exact jT_ret rfl (by decide) (by show 23 ≤ 26; omega) (by omega) (by omega) ⟨rfl, rfl, rfl⟩
def jpK_304 : List JC := [jzK_294, (101, [], [0, 0, 0, 0, 0, 0]), jgh, jgh, jgh, jgh, jgh, (130, [], [16, 17, 18, 19, 20, 21]), jgh, jgh, jgh, jgh, jgh, jgh, jgh, jgh, (100, [], (jenc (jlg 0))), jgh, jgh, jgh, jgh, jgh, (101, [], [(-1), 0, 0, 0, 0, 0])]
def jpK_305 : List JC := [jzK_294, (101, [], [0, 0, 0, 0, 0, 0]), jgh, jgh, jgh, jgh, jgh, (130, [], [16, 17, 18, 19, 20, 21]), jgh, jgh, jgh, jgh, jgh, jgh, jgh, jgh, (100, [], (jenc (jlg 0))), jgh, jgh, jgh, jgh, jgh, (101, [], [(-1), 0, 0, 0, 0, 0]), (100, [], (jenc 0)), (100, [], (jenc (-1))), (100, [], (jenc ((-1) * (jlg 0))))]
def jpK_306 : List JC := [jzK_294, (101, [], [0, 0, 0, 0, 0, 0]), jgh, jgh, jgh, jgh, jgh, (130, [], [16, 17, 18, 19, 20, 21]), jgh, jgh, jgh, jgh, jgh, jgh, jgh, jgh, (100, [], (jenc (jlg 0))), jgh, jgh, jgh, jgh, jgh]
def jpK_307 : List JC := [(101, [], [(-1), 0, 0, 0, 0, 0]), (100, [], (jenc 0)), (100, [], (jenc (-1))), (100, [], (jenc ((-1) * (jlg 0))))]
theorem jK_212_73 {xs : List Int} {d : Nat} : jT xs (d + 4) 212 22 0 [(0, (4, 0)), (1, (4, 1)), (2, (1, 1))] [] jpK_306 4 174 (fun k v hsN => k = 0 ∧ v = (0, (-1)) ∧ hsN = jpK_306 ++ jpK_307) := by
  refine jT_advK 18 (pcN := 27) (LN := [(4, (4, 22)), (0, (4, 0)), (1, (4, 1)), (2, (1, 1))]) (stN := [(4, 22), (4, 0)]) (hsN := jpK_304) (c1 := 1) (s1 := 6) (c2 := 3) (s2 := 168) (by decide +kernel) ?_ (by omega) (by omega)
  refine jT_fA [0, 22, 2, 3, 4, 5, 6, 7, 1, 8, 9, 10, 11, 12, 13, 14, 15, 16, 17, 18, 19, 20, 21] 23 (y := 213) (pcN := 30) (dC := 3) (bc1 := 3) (bc2 := 168) (c1 := 0) (c2 := 0) (as := [(4, 0), (4, 22)]) (asC := [(4, 0), (4, 1)]) (LN := [(4, (4, 22)), (0, (4, 0)), (1, (4, 1)), (2, (1, 1))]) (stN := []) (hsC := jpK_302) (ex := [(100, [], (jenc 0)), (100, [], (jenc (-1))), (100, [], (jenc ((-1) * (jlg 0))))]) (v := (0, (-1))) (st2 := [(0, (-1))]) (hs2 := jpK_305) (jK_213_72 (d := 0)) (by rfl) (by rfl) (by decide +kernel) (by rfl) (by rfl) (by omega) (by omega) (by omega) (by omega) rfl (by decide +kernel) ?_
  exact jT_ret rfl (by decide) (by show 22 ≤ 26; omega) (by omega) (by omega) ⟨rfl, rfl, rfl⟩
def jpK_308 : List JC := [jzK_294, (101, [], [0, 0, 0, 0, 0, 0]), jgh, jgh, jgh, jgh, jgh, (130, [], [16, 17, 18, 19, 20, 21]), jgh, jgh, jgh, jgh, jgh, jgh, jgh, jgh, (100, [], (jenc (jlg 0))), jgh, jgh, jgh, jgh, jgh, (101, [], [0, 0, 0, 0, 0, 0])]
def jpK_309 : List JC := [jzK_294, (101, [], [0, 0, 0, 0, 0, 0]), jgh, jgh, jgh, jgh, jgh, (130, [], [16, 17, 18, 19, 20, 21]), jgh, jgh, jgh, jgh, jgh, jgh, jgh, jgh, (100, [], (jenc (jlg 0))), jgh, jgh, jgh, jgh, jgh, (101, [], [0, 0, 0, 0, 0, 0]), (101, [], [(-1), 0, 0, 0, 0, 0]), (100, [], (jenc 0)), (100, [], (jenc (-1))), (100, [], (jenc ((-1) * (jlg 0))))]
def jpK_310 : List JC := [(101, [], [0, 0, 0, 0, 0, 0]), (101, [], [(-1), 0, 0, 0, 0, 0]), (100, [], (jenc 0)), (100, [], (jenc (-1))), (100, [], (jenc ((-1) * (jlg 0))))]
theorem jK_210_74 {xs : List Int} {d : Nat} : jT xs (d + 5) 210 22 0 [(0, (4, 0)), (1, (4, 1)), (2, (1, 1))] [] jpK_306 5 180 (fun k v hsN => k = 0 ∧ v = (1, 0) ∧ hsN = jpK_306 ++ jpK_310) := by
  refine jT_advK 1 (pcN := 1) (LN := [(0, (4, 0)), (1, (4, 1)), (2, (1, 1))]) (stN := [(4, 1)]) (hsN := jpK_306) (c1 := 0) (s1 := 0) (c2 := 5) (s2 := 180) (by decide +kernel) ?_ (by omega) (by omega)
  refine jT_fR [1] 22 (y := 211) (pcN := 4) (dC := 0) (bc1 := 0) (bc2 := 0) (c1 := 5) (c2 := 180) (as := [(4, 1)]) (asC := [(4, 0)]) (LN := [(0, (4, 0)), (1, (4, 1)), (2, (1, 1))]) (stN := []) (hsC := [(101, [], [0, 0, 0, 0, 0, 0])]) (v := (3, 0)) (st2 := [(3, 0)]) (jK_211_67 (d := 0)) (by rfl) (by rfl) (by decide +kernel) (by rfl) (by rfl) (by omega) (by omega) (by omega) (by omega) rfl ?_
  refine jT_advK 1 (pcN := 5) (LN := [(0, (4, 0)), (1, (4, 1)), (2, (1, 1))]) (stN := [(1, 1), (3, 0)]) (hsN := jpK_306) (c1 := 0) (s1 := 0) (c2 := 5) (s2 := 180) (by decide +kernel) ?_ (by omega) (by omega)
  refine jT_l2d (x := 1) (z := 4607182418800017408) (by rfl) (by rfl) (by decide +kernel) ?_
  refine jT_ddiv (x := 0) (y := 4607182418800017408) (z := 0) (by rfl) (by rfl) (by decide +kernel) ?_
  refine jT_d2l (x := 0) (z := 0) (by rfl) (by rfl) (by decide +kernel) ?_
  refine jT_advK 6 (pcN := 16) (LN := [(4, (1, 0)), (0, (4, 0)), (1, (4, 1)), (2, (1, 1))]) (stN := [(1, 0), (4, 1), (4, 0)]) (hsN := jpK_306) (c1 := 0) (s1 := 0) (c2 := 5) (s2 := 180) (by decide +kernel) ?_ (by omega) (by omega)
  refine jT_fA [0, 1, 2, 3, 4, 5, 6, 7, 8, 9, 10, 11, 12, 13, 14, 15] 22 (y := 212) (pcN := 19) (dC := 2) (bc1 := 1) (bc2 := 6) (c1 := 4) (c2 := 174) (as := [(4, 0), (4, 1), (1, 0)]) (asC := [(4, 0), (4, 1), (1, 0)]) (LN := [(4, (1, 0)), (0, (4, 0)), (1, (4, 1)), (2, (1, 1))]) (stN := []) (hsC := jpK_296) (ex := [(101, [], [0, 0, 0, 0, 0, 0])]) (v := (0, 0)) (st2 := [(0, 0)]) (hs2 := jpK_308) (jK_212_69 (d := 0)) (by rfl) (by rfl) (by decide +kernel) (by rfl) (by rfl) (by omega) (by omega) (by omega) (by omega) rfl (by decide +kernel) ?_
  refine jT_advK 8 (pcN := 39) (LN := [(4, (1, 0)), (0, (4, 0)), (1, (4, 1)), (2, (1, 1))]) (stN := [(1, 1), (4, 1), (4, 0)]) (hsN := jpK_308) (c1 := 0) (s1 := 0) (c2 := 4) (s2 := 174) (by decide +kernel) ?_ (by omega) (by omega)
  refine jT_fA [0, 1, 2, 3, 4, 5, 6, 7, 8, 9, 10, 11, 12, 13, 14, 15, 16, 17, 18, 19, 20, 21] 23 (y := 212) (pcN := 42) (dC := 4) (bc1 := 4) (bc2 := 174) (c1 := 0) (c2 := 0) (as := [(4, 0), (4, 1), (1, 1)]) (asC := [(4, 0), (4, 1), (1, 1)]) (LN := [(4, (1, 0)), (0, (4, 0)), (1, (4, 1)), (2, (1, 1))]) (stN := []) (hsC := jpK_306) (ex := jpK_307) (v := (0, (-1))) (st2 := [(0, (-1))]) (hs2 := jpK_309) (jK_212_73 (d := 0)) (by rfl) (by rfl) (by decide +kernel) (by rfl) (by rfl) (by omega) (by omega) (by omega) (by omega) rfl (by decide +kernel) ?_
  refine jT_advK 2 (pcN := 56) (LN := [(4, (1, 0)), (0, (4, 0)), (1, (4, 1)), (2, (1, 1))]) (stN := [(1, 0)]) (hsN := jpK_309) (c1 := 0) (s1 := 0) (c2 := 0) (s2 := 0) (by decide +kernel) ?_ (by omega) (by omega)
  exact jT_ret rfl (by decide) (by show 22 ≤ 27; omega) (by omega) (by omega) ⟨rfl, rfl, rfl⟩
def jpK_311 : List JC := [jzK_21, jgh, jgh, jgh, jgh, jgh, (130, [], [16, 17, 18, 19, 20, 21]), (101, [], [0, 0, 0, 0, 0, 0]), jgh, jgh, jgh, jgh, jgh, jgh, jgh, jgh, (100, [], (jenc (jlg 0))), jgh, jgh, jgh, jgh, jgh]
def jpK_312 : List JC := [jzK_21, jgh, jgh, jgh, jgh, jgh, (130, [], [16, 17, 18, 19, 20, 21]), (101, [], [0, 0, 0, 0, 0, 0]), jgh, jgh, jgh, jgh, jgh, jgh, jgh, jgh, (100, [], (jenc (jlg 0))), jgh, jgh, jgh, jgh, jgh, (101, [], [0, 0, 0, 0, 0, 0]), (101, [], [(-1), 0, 0, 0, 0, 0]), (100, [], (jenc 0)), (100, [], (jenc (-1))), (100, [], (jenc ((-1) * (jlg 0))))]
theorem jK_209_75 {xs : List Int} {d : Nat} : jT xs (d + 6) 209 22 0 [(0, (4, 0))] [] jpK_311 5 180 (fun k v hsN => k = 0 ∧ v = (1, 0) ∧ hsN = jpK_311 ++ jpK_310) := by
  refine jT_advK 5 (pcN := 9) (LN := [(0, (4, 0))]) (stN := [(1, 1), (4, 7), (4, 0)]) (hsN := jpK_311) (c1 := 0) (s1 := 0) (c2 := 5) (s2 := 180) (by decide +kernel) ?_ (by omega) (by omega)
  refine jT_fA [0, 7, 1, 2, 3, 4, 5, 6, 8, 9, 10, 11, 12, 13, 14, 15, 16, 17, 18, 19, 20, 21] 22 (y := 210) (pcN := 12) (dC := 5) (bc1 := 5) (bc2 := 180) (c1 := 0) (c2 := 0) (as := [(4, 0), (4, 7), (1, 1)]) (asC := [(4, 0), (4, 1), (1, 1)]) (LN := [(0, (4, 0))]) (stN := []) (hsC := jpK_306) (ex := jpK_310) (v := (1, 0)) (st2 := [(1, 0)]) (hs2 := jpK_312) (jK_210_74 (d := 0)) (by rfl) (by rfl) (by decide +kernel) (by rfl) (by rfl) (by omega) (by omega) (by omega) (by omega) rfl (by decide +kernel) ?_
  refine jT_advK 13 (pcN := 29) (LN := [(1, (1, 0)), (0, (4, 0))]) (stN := [(1, 0)]) (hsN := jpK_312) (c1 := 0) (s1 := 0) (c2 := 0) (s2 := 0) (by decide +kernel) ?_ (by omega) (by omega)
  exact jT_ret rfl (by decide) (by show 22 ≤ 27; omega) (by omega) (by omega) ⟨rfl, rfl, rfl⟩
theorem jK_189_76 {xs : List Int} {d : Nat} : jT xs d 189 0 0 [(0, (1, 0)), (2, (1, (-5000))), (4, (1, 5000))] [] [] 0 0 (fun k v hsN => k = 0 ∧ v = (0, 1) ∧ hsN = [] ++ []) := by
  refine jT_advK 10 (pcN := 18) (LN := [(0, (1, 0)), (2, (1, (-5000))), (4, (1, 5000))]) (stN := [(0, 1)]) (hsN := []) (c1 := 0) (s1 := 0) (c2 := 0) (s2 := 0) (by decide +kernel) ?_ (by omega) (by omega)
  exact jT_ret rfl (by decide) (by show 0 ≤ 0; omega) (by omega) (by omega) ⟨rfl, rfl, rfl⟩
theorem jK_205_77 {xs : List Int} {d : Nat} : jT xs (d + 1) 205 16 0 [(0, (4, 0))] [] jpK_273 0 0 (fun k v hsN => k = 0 ∧ v = (0, 1) ∧ hsN = jpK_273 ++ []) := by
  refine jT_advK 21 (pcN := 41) (LN := [(2, (0, 0)), (1, (0, 1)), (0, (4, 0))]) (stN := [(1, 5000), (1, (-5000)), (1, 0)]) (hsN := jpK_273) (c1 := 0) (s1 := 0) (c2 := 0) (s2 := 0) (by decide +kernel) ?_ (by omega) (by omega)
  refine jT_fR [] 16 (y := 189) (pcN := 44) (dC := 0) (bc1 := 0) (bc2 := 0) (c1 := 0) (c2 := 0) (as := [(1, 0), (1, (-5000)), (1, 5000)]) (asC := [(1, 0), (1, (-5000)), (1, 5000)]) (LN := [(2, (0, 0)), (1, (0, 1)), (0, (4, 0))]) (stN := []) (hsC := []) (v := (0, 1)) (st2 := [(0, 1)]) (jK_189_76 (d := 0)) (by rfl) (by rfl) (by decide +kernel) (by rfl) (by rfl) (by omega) (by omega) (by omega) (by omega) rfl ?_
  refine jT_advK 17 (pcN := 41) (LN := [(2, (0, 1)), (1, (0, 1)), (0, (4, 0))]) (stN := [(1, 5000), (1, (-5000)), (1, 0)]) (hsN := jpK_273) (c1 := 0) (s1 := 0) (c2 := 0) (s2 := 0) (by decide +kernel) ?_ (by omega) (by omega)
  refine jT_fR [] 16 (y := 189) (pcN := 44) (dC := 0) (bc1 := 0) (bc2 := 0) (c1 := 0) (c2 := 0) (as := [(1, 0), (1, (-5000)), (1, 5000)]) (asC := [(1, 0), (1, (-5000)), (1, 5000)]) (LN := [(2, (0, 1)), (1, (0, 1)), (0, (4, 0))]) (stN := []) (hsC := []) (v := (0, 1)) (st2 := [(0, 1)]) (jK_189_76 (d := 0)) (by rfl) (by rfl) (by decide +kernel) (by rfl) (by rfl) (by omega) (by omega) (by omega) (by omega) rfl ?_
  refine jT_advK 17 (pcN := 41) (LN := [(2, (0, 2)), (1, (0, 1)), (0, (4, 0))]) (stN := [(1, 5000), (1, (-5000)), (1, 0)]) (hsN := jpK_273) (c1 := 0) (s1 := 0) (c2 := 0) (s2 := 0) (by decide +kernel) ?_ (by omega) (by omega)
  refine jT_fR [] 16 (y := 189) (pcN := 44) (dC := 0) (bc1 := 0) (bc2 := 0) (c1 := 0) (c2 := 0) (as := [(1, 0), (1, (-5000)), (1, 5000)]) (asC := [(1, 0), (1, (-5000)), (1, 5000)]) (LN := [(2, (0, 2)), (1, (0, 1)), (0, (4, 0))]) (stN := []) (hsC := []) (v := (0, 1)) (st2 := [(0, 1)]) (jK_189_76 (d := 0)) (by rfl) (by rfl) (by decide +kernel) (by rfl) (by rfl) (by omega) (by omega) (by omega) (by omega) rfl ?_
  refine jT_advK 17 (pcN := 41) (LN := [(2, (0, 3)), (1, (0, 1)), (0, (4, 0))]) (stN := [(1, 5000), (1, (-5000)), (1, 0)]) (hsN := jpK_273) (c1 := 0) (s1 := 0) (c2 := 0) (s2 := 0) (by decide +kernel) ?_ (by omega) (by omega)
  refine jT_fR [] 16 (y := 189) (pcN := 44) (dC := 0) (bc1 := 0) (bc2 := 0) (c1 := 0) (c2 := 0) (as := [(1, 0), (1, (-5000)), (1, 5000)]) (asC := [(1, 0), (1, (-5000)), (1, 5000)]) (LN := [(2, (0, 3)), (1, (0, 1)), (0, (4, 0))]) (stN := []) (hsC := []) (v := (0, 1)) (st2 := [(0, 1)]) (jK_189_76 (d := 0)) (by rfl) (by rfl) (by decide +kernel) (by rfl) (by rfl) (by omega) (by omega) (by omega) (by omega) rfl ?_
  refine jT_advK 17 (pcN := 41) (LN := [(2, (0, 4)), (1, (0, 1)), (0, (4, 0))]) (stN := [(1, 5000), (1, (-5000)), (1, 0)]) (hsN := jpK_273) (c1 := 0) (s1 := 0) (c2 := 0) (s2 := 0) (by decide +kernel) ?_ (by omega) (by omega)
  refine jT_fR [] 16 (y := 189) (pcN := 44) (dC := 0) (bc1 := 0) (bc2 := 0) (c1 := 0) (c2 := 0) (as := [(1, 0), (1, (-5000)), (1, 5000)]) (asC := [(1, 0), (1, (-5000)), (1, 5000)]) (LN := [(2, (0, 4)), (1, (0, 1)), (0, (4, 0))]) (stN := []) (hsC := []) (v := (0, 1)) (st2 := [(0, 1)]) (jK_189_76 (d := 0)) (by rfl) (by rfl) (by decide +kernel) (by rfl) (by rfl) (by omega) (by omega) (by omega) (by omega) rfl ?_
  refine jT_advK 17 (pcN := 41) (LN := [(2, (0, 5)), (1, (0, 1)), (0, (4, 0))]) (stN := [(1, 5000), (1, (-5000)), (1, 0)]) (hsN := jpK_273) (c1 := 0) (s1 := 0) (c2 := 0) (s2 := 0) (by decide +kernel) ?_ (by omega) (by omega)
  refine jT_fR [] 16 (y := 189) (pcN := 44) (dC := 0) (bc1 := 0) (bc2 := 0) (c1 := 0) (c2 := 0) (as := [(1, 0), (1, (-5000)), (1, 5000)]) (asC := [(1, 0), (1, (-5000)), (1, 5000)]) (LN := [(2, (0, 5)), (1, (0, 1)), (0, (4, 0))]) (stN := []) (hsC := []) (v := (0, 1)) (st2 := [(0, 1)]) (jK_189_76 (d := 0)) (by rfl) (by rfl) (by decide +kernel) (by rfl) (by rfl) (by omega) (by omega) (by omega) (by omega) rfl ?_
  refine jT_advK 10 (pcN := 60) (LN := [(2, (0, 6)), (1, (0, 1)), (0, (4, 0))]) (stN := [(0, 1)]) (hsN := jpK_273) (c1 := 0) (s1 := 0) (c2 := 0) (s2 := 0) (by decide +kernel) ?_ (by omega) (by omega)
  exact jT_ret rfl (by decide) (by show 16 ≤ 16; omega) (by omega) (by omega) ⟨rfl, rfl, rfl⟩
def jzK_313 : JC := (14, [(0, 0), (4, 2), (4, 3), (4, 4), (4, 5), (0, 0), (4, 6), (0, 0), (4, 7), (4, 8), (1, 1), (4, 1), (0, 0), (4, 9), (0, 0), (0, 0), (0, 0), (0, 0), (0, 0), (0, 0), (0, 0), (4, 10), (4, 11), (4, 12), (4, 13), (4, 14), (4, 15), (0, 0)], [])
def jpK_314 : List JC := [jzK_313, (100, [], (List.replicate 1792 0)), jgh, jgh, jgh, jgh, jgh, jgh, (101, [], [0, 0, 0, 0, 0, 0]), jgh, jgh, jgh, jgh, jgh, jgh, jgh]
def jzK_315 : JC := (100, [], (((List.replicate 1792 0)).set 0 0))
def jpK_316 : List JC := [jzK_313, jzK_315, jgh, jgh, jgh, jgh, jgh, jgh, (101, [], [0, 0, 0, 0, 0, 0]), jgh, jgh, jgh, jgh, jgh, jgh, jgh]
def jzK_317 : JC := (100, [], (((((List.replicate 1792 0)).set 0 0)).set 1 0))
def jpK_318 : List JC := [jzK_313, jzK_317, jgh, jgh, jgh, jgh, jgh, jgh, (101, [], [0, 0, 0, 0, 0, 0]), jgh, jgh, jgh, jgh, jgh, jgh, jgh]
def jzK_319 : JC := (100, [], (((((((List.replicate 1792 0)).set 0 0)).set 1 0)).set 2 0))
def jpK_320 : List JC := [jzK_313, jzK_319, jgh, jgh, jgh, jgh, jgh, jgh, (101, [], [0, 0, 0, 0, 0, 0]), jgh, jgh, jgh, jgh, jgh, jgh, jgh]
def jzK_321 : JC := (100, [], (((((((((List.replicate 1792 0)).set 0 0)).set 1 0)).set 2 0)).set 3 0))
def jpK_322 : List JC := [jzK_313, jzK_321, jgh, jgh, jgh, jgh, jgh, jgh, (101, [], [0, 0, 0, 0, 0, 0]), jgh, jgh, jgh, jgh, jgh, jgh, jgh]
def jzK_323 : JC := (100, [], (((((((((((List.replicate 1792 0)).set 0 0)).set 1 0)).set 2 0)).set 3 0)).set 4 0))
def jpK_324 : List JC := [jzK_313, jzK_323, jgh, jgh, jgh, jgh, jgh, jgh, (101, [], [0, 0, 0, 0, 0, 0]), jgh, jgh, jgh, jgh, jgh, jgh, jgh]
def jzK_325 : JC := (100, [], (((((((((((((List.replicate 1792 0)).set 0 0)).set 1 0)).set 2 0)).set 3 0)).set 4 0)).set 5 0))
def jpK_326 : List JC := [jzK_313, jzK_325, jgh, jgh, jgh, jgh, jgh, jgh, (101, [], [0, 0, 0, 0, 0, 0]), jgh, jgh, jgh, jgh, jgh, jgh, jgh]
def jzK_327 : JC := (100, [], (((((((((((((((List.replicate 1792 0)).set 0 0)).set 1 0)).set 2 0)).set 3 0)).set 4 0)).set 5 0)).set 6 1))
def jpK_328 : List JC := [jzK_313, jzK_327, jgh, jgh, jgh, jgh, jgh, jgh, (101, [], [0, 0, 0, 0, 0, 0]), jgh, jgh, jgh, jgh, jgh, jgh, jgh]
theorem jK_197_78 {xs : List Int} {d : Nat} : jT xs d 197 16 0 [(0, (4, 0)), (1, (4, 1)), (2, (0, 0))] [] jpK_314 0 0 (fun k v hsN => k = 0 ∧ v = (9, 0) ∧ hsN = jpK_328) := by
  refine jT_advK 14 (pcN := 19) (LN := [(3, (0, 0)), (0, (4, 0)), (1, (4, 1)), (2, (0, 0))]) (stN := [(0, 0), (0, 0), (4, 1)]) (hsN := jpK_314) (c1 := 0) (s1 := 0) (c2 := 0) (s2 := 0) (by decide +kernel) ?_ (by omega) (by omega)
  refine jT_iast (x := 0) (a := 1) (j := 0) (fs := []) (X := (List.replicate 1792 0)) (by rfl) (by rfl) (by rfl) (by rfl) (by rw [show List.length ((List.replicate 1792 0) : List Int) = 1792 from List.length_replicate]; omega) ?_
  refine jT_eq (LN := [(3, (0, 0)), (0, (4, 0)), (1, (4, 1)), (2, (0, 0))]) (stN := []) (hsN := jpK_316) rfl rfl rfl ?_
  refine jT_advK 14 (pcN := 19) (LN := [(3, (0, 1)), (0, (4, 0)), (1, (4, 1)), (2, (0, 0))]) (stN := [(0, 0), (0, 1), (4, 1)]) (hsN := jpK_316) (c1 := 0) (s1 := 0) (c2 := 0) (s2 := 0) (by decide +kernel) ?_ (by omega) (by omega)
  refine jT_iast (x := 0) (a := 1) (j := 1) (fs := []) (X := (((List.replicate 1792 0)).set 0 0)) (by rfl) (by rfl) (by rfl) (by rfl) (by rw [show List.length ((((List.replicate 1792 0)).set 0 0) : List Int) = 1792 from by rw [List.length_set]; exact (List.length_replicate)]; omega) ?_
  refine jT_eq (LN := [(3, (0, 1)), (0, (4, 0)), (1, (4, 1)), (2, (0, 0))]) (stN := []) (hsN := jpK_318) rfl rfl rfl ?_
  refine jT_advK 14 (pcN := 19) (LN := [(3, (0, 2)), (0, (4, 0)), (1, (4, 1)), (2, (0, 0))]) (stN := [(0, 0), (0, 2), (4, 1)]) (hsN := jpK_318) (c1 := 0) (s1 := 0) (c2 := 0) (s2 := 0) (by decide +kernel) ?_ (by omega) (by omega)
  refine jT_iast (x := 0) (a := 1) (j := 2) (fs := []) (X := (((((List.replicate 1792 0)).set 0 0)).set 1 0)) (by rfl) (by rfl) (by rfl) (by rfl) (by rw [show List.length ((((((List.replicate 1792 0)).set 0 0)).set 1 0) : List Int) = 1792 from by rw [List.length_set, List.length_set]; exact (List.length_replicate)]; omega) ?_
  refine jT_eq (LN := [(3, (0, 2)), (0, (4, 0)), (1, (4, 1)), (2, (0, 0))]) (stN := []) (hsN := jpK_320) rfl rfl rfl ?_
  refine jT_advK 14 (pcN := 19) (LN := [(3, (0, 3)), (0, (4, 0)), (1, (4, 1)), (2, (0, 0))]) (stN := [(0, 0), (0, 3), (4, 1)]) (hsN := jpK_320) (c1 := 0) (s1 := 0) (c2 := 0) (s2 := 0) (by decide +kernel) ?_ (by omega) (by omega)
  refine jT_iast (x := 0) (a := 1) (j := 3) (fs := []) (X := (((((((List.replicate 1792 0)).set 0 0)).set 1 0)).set 2 0)) (by rfl) (by rfl) (by rfl) (by rfl) (by rw [show List.length ((((((((List.replicate 1792 0)).set 0 0)).set 1 0)).set 2 0) : List Int) = 1792 from by rw [List.length_set, List.length_set, List.length_set]; exact (List.length_replicate)]; omega) ?_
  refine jT_eq (LN := [(3, (0, 3)), (0, (4, 0)), (1, (4, 1)), (2, (0, 0))]) (stN := []) (hsN := jpK_322) rfl rfl rfl ?_
  refine jT_advK 14 (pcN := 19) (LN := [(3, (0, 4)), (0, (4, 0)), (1, (4, 1)), (2, (0, 0))]) (stN := [(0, 0), (0, 4), (4, 1)]) (hsN := jpK_322) (c1 := 0) (s1 := 0) (c2 := 0) (s2 := 0) (by decide +kernel) ?_ (by omega) (by omega)
  refine jT_iast (x := 0) (a := 1) (j := 4) (fs := []) (X := (((((((((List.replicate 1792 0)).set 0 0)).set 1 0)).set 2 0)).set 3 0)) (by rfl) (by rfl) (by rfl) (by rfl) (by rw [show List.length ((((((((((List.replicate 1792 0)).set 0 0)).set 1 0)).set 2 0)).set 3 0) : List Int) = 1792 from by rw [List.length_set, List.length_set, List.length_set, List.length_set]; exact (List.length_replicate)]; omega) ?_
  refine jT_eq (LN := [(3, (0, 4)), (0, (4, 0)), (1, (4, 1)), (2, (0, 0))]) (stN := []) (hsN := jpK_324) rfl rfl rfl ?_
  refine jT_advK 14 (pcN := 19) (LN := [(3, (0, 5)), (0, (4, 0)), (1, (4, 1)), (2, (0, 0))]) (stN := [(0, 0), (0, 5), (4, 1)]) (hsN := jpK_324) (c1 := 0) (s1 := 0) (c2 := 0) (s2 := 0) (by decide +kernel) ?_ (by omega) (by omega)
  refine jT_iast (x := 0) (a := 1) (j := 5) (fs := []) (X := (((((((((((List.replicate 1792 0)).set 0 0)).set 1 0)).set 2 0)).set 3 0)).set 4 0)) (by rfl) (by rfl) (by rfl) (by rfl) (by rw [show List.length ((((((((((((List.replicate 1792 0)).set 0 0)).set 1 0)).set 2 0)).set 3 0)).set 4 0) : List Int) = 1792 from by rw [List.length_set, List.length_set, List.length_set, List.length_set, List.length_set]; exact (List.length_replicate)]; omega) ?_
  refine jT_eq (LN := [(3, (0, 5)), (0, (4, 0)), (1, (4, 1)), (2, (0, 0))]) (stN := []) (hsN := jpK_326) rfl rfl rfl ?_
  refine jT_advK 12 (pcN := 36) (LN := [(3, (0, 6)), (0, (4, 0)), (1, (4, 1)), (2, (0, 0))]) (stN := [(0, 1), (0, 6), (4, 1)]) (hsN := jpK_326) (c1 := 0) (s1 := 0) (c2 := 0) (s2 := 0) (by decide +kernel) ?_ (by omega) (by omega)
  refine jT_iast (x := 1) (a := 1) (j := 6) (fs := []) (X := (((((((((((((List.replicate 1792 0)).set 0 0)).set 1 0)).set 2 0)).set 3 0)).set 4 0)).set 5 0)) (by rfl) (by rfl) (by rfl) (by rfl) (by rw [show List.length ((((((((((((((List.replicate 1792 0)).set 0 0)).set 1 0)).set 2 0)).set 3 0)).set 4 0)).set 5 0) : List Int) = 1792 from by rw [List.length_set, List.length_set, List.length_set, List.length_set, List.length_set, List.length_set]; exact (List.length_replicate)]; omega) ?_
  refine jT_eq (LN := [(3, (0, 6)), (0, (4, 0)), (1, (4, 1)), (2, (0, 0))]) (stN := []) (hsN := jpK_328) rfl rfl rfl ?_
  exact jT_ret rfl (by decide) (by show 16 ≤ 16; omega) (by omega) (by omega) ⟨rfl, rfl, rfl⟩
def jpK_329 : List JC := [jzK_21, jgh, jgh, jgh, jgh, jgh, jgh, (101, [], [0, 0, 0, 0, 0, 0]), (100, [], (List.replicate 1792 0)), jgh, jgh, jgh, jgh, jgh, jgh, jgh]
def jpK_330 : List JC := [jzK_21, jgh, jgh, jgh, jgh, jgh, jgh, (101, [], [0, 0, 0, 0, 0, 0]), jzK_327, jgh, jgh, jgh, jgh, jgh, jgh, jgh]
def jzK_331 : JC := (14, [(0, 0), (4, 1), (4, 2), (4, 3), (4, 4), (0, 0), (4, 5), (0, 0), (4, 6), (4, 7), (1, 1), (4, 8), (0, 1), (4, 9), (0, 0), (0, 0), (0, 0), (0, 0), (0, 0), (0, 0), (0, 0), (4, 10), (4, 11), (4, 12), (4, 13), (4, 14), (4, 15), (0, 0)], [])
def jpK_332 : List JC := [jzK_331, jgh, jgh, jgh, jgh, jgh, jgh, (101, [], [0, 0, 0, 0, 0, 0]), jzK_327, jgh, jgh, jgh, jgh, jgh, jgh, jgh]
theorem jK_239_79 {xs : List Int} {d : Nat} : jT xs (d + 1) 239 16 0 [(0, (4, 0))] [] jpK_329 0 0 (fun k v hsN => k = 0 ∧ v = (9, 0) ∧ hsN = jpK_332) := by
  refine jT_advK 28 (pcN := 103) (LN := [(2, (0, (-1))), (1, (0, 0)), (0, (4, 0))]) (stN := [(0, 0), (4, 8), (4, 0)]) (hsN := jpK_329) (c1 := 0) (s1 := 0) (c2 := 0) (s2 := 0) (by decide +kernel) ?_ (by omega) (by omega)
  refine jT_fB [0, 8, 1, 2, 3, 4, 5, 6, 7, 9, 10, 11, 12, 13, 14, 15] 16 (y := 197) (pcN := 106) (dC := 0) (bc1 := 0) (bc2 := 0) (c1 := 0) (c2 := 0) (as := [(4, 0), (4, 8), (0, 0)]) (asC := [(4, 0), (4, 1), (0, 0)]) (LN := [(2, (0, (-1))), (1, (0, 0)), (0, (4, 0))]) (stN := []) (hsC := jpK_314) (hsD := jpK_328) (v := (9, 0)) (st2 := []) (hs2 := jpK_330) (jK_197_78 (d := 0)) (by rfl) (by rfl) (by decide +kernel) (by rfl) (by rfl) (by omega) (by omega) (by omega) (by omega) rfl (by decide +kernel) ?_
  refine jT_advK 6 (pcN := 116) (LN := [(2, (0, (-1))), (1, (0, 0)), (0, (4, 0))]) (stN := []) (hsN := jpK_332) (c1 := 0) (s1 := 0) (c2 := 0) (s2 := 0) (by decide +kernel) ?_ (by omega) (by omega)
  exact jT_ret rfl (by decide) (by show 16 ≤ 16; omega) (by omega) (by omega) ⟨rfl, rfl, rfl⟩
def jpK_333 : List JC := [jzK_331, (100, [], jS0), jgh, jgh, jgh, jgh, jgh, (101, [], [0, 0, 0, 0, 0, 0]), jgh, jgh, jgh, jgh, jgh, jgh, jgh, jgh]
theorem jK_203_80 {xs : List Int} {d : Nat} {o2 : Int} (h_o2 : 0 ≤ o2 ∧ o2 ≤ 7) : jT xs d 203 16 0 [(0, (4, 0)), (1, (4, 1)), (2, (0, 7 * o2))] [] jpK_333 0 0 (fun k v hsN => k = 0 ∧ v = (9, 0) ∧ hsN = jpK_333 ++ []) := by
  refine jT_xiconst (k := 0) (pcN := 1) jIK_203_0 rfl ?_
  refine jT_xistore_n (v := (0, 0)) (LN := [(3, (0, 0)), (0, (4, 0)), (1, (4, 1)), (2, (0, 7 * o2))]) (pcN := 2) jIK_203_1 rfl rfl rfl rfl ?_
  refine jT_xiload_n (v := (0, 0)) (pcN := 3) jIK_203_2 rfl rfl rfl ?_
  refine jT_xbipush (k := 6) (pcN := 5) jIK_203_3 (by decide) rfl ?_
  refine jT_xicF (t := 26) (pcN := 8) jIK_203_5 rfl (by decide +kernel) rfl rfl ?_
  refine jT_xaload_n (v := (4, 0)) (pcN := 9) jIK_203_8 rfl rfl rfl ?_
  refine jT_xgetf (a := 0) (t := 1) (ci := 14) (fi := 9) (c := jzK_331) (v := (4, 7)) (pcN := 12) jIK_203_9 rfl rfl rfl rfl rfl rfl rfl ?_
  refine jT_xiload_n (v := (0, 0)) (pcN := 13) jIK_203_12 rfl rfl rfl ?_
  refine jT_xaload_n (v := (4, 1)) (pcN := 14) jIK_203_13 rfl rfl rfl ?_
  refine jT_xiload_n (v := (0, 7 * o2)) (pcN := 15) jIK_203_14 rfl rfl rfl ?_
  refine jT_xiload_n (v := (0, 0)) (pcN := 16) jIK_203_15 rfl rfl rfl ?_
  refine jT_xiadd (x := 7 * o2) (y := 0) (z := 7 * o2) (pcN := 17) jIK_203_16 rfl (by omega) rfl ?_
  refine jT_iald (x := 0) (a := 1) (j := (7 * o2).toNat) (fs := []) (X := jS0) (by rfl) (by rfl) (by rfl) (jw_nn (by omega) (by omega)) (jS0_r0 (by omega) (by omega)) ?_
  refine jT_eq (LN := [(3, (0, 0)), (0, (4, 0)), (1, (4, 1)), (2, (0, 7 * o2))]) (stN := [(0, 0), (0, 0), (4, 7)]) (hsN := jpK_333) rfl rfl rfl ?_
  refine jT_xi2l (x := 0) (z := 0) (pcN := 19) jIK_203_18 rfl (by decide +kernel) rfl ?_
  refine jT_adv 1 (pcN := 20) (LN := [(3, (0, 0)), (0, (4, 0)), (1, (4, 1)), (2, (0, 7 * o2))]) (stN := []) (hsN := jpK_333) (c1 := 0) (s1 := 0) (c2 := 0) (s2 := 0) (by exact rfl) ?_ (by omega) (by omega)
  refine jT_xiinc (x := 0) (z := 1) (LN := [(3, (0, 1)), (0, (4, 0)), (1, (4, 1)), (2, (0, 7 * o2))]) (pcN := 23) jIK_203_20 rfl rfl (by decide) rfl rfl ?_
  refine jT_xgoto (pcN := 2) jIK_203_23 rfl ?_
  refine jT_xiload_n (v := (0, 1)) (pcN := 3) jIK_203_2 rfl rfl rfl ?_
  refine jT_xbipush (k := 6) (pcN := 5) jIK_203_3 (by decide) rfl ?_
  refine jT_xicF (t := 26) (pcN := 8) jIK_203_5 rfl (by decide +kernel) rfl rfl ?_
  refine jT_xaload_n (v := (4, 0)) (pcN := 9) jIK_203_8 rfl rfl rfl ?_
  refine jT_xgetf (a := 0) (t := 1) (ci := 14) (fi := 9) (c := jzK_331) (v := (4, 7)) (pcN := 12) jIK_203_9 rfl rfl rfl rfl rfl rfl rfl ?_
  refine jT_xiload_n (v := (0, 1)) (pcN := 13) jIK_203_12 rfl rfl rfl ?_
  refine jT_xaload_n (v := (4, 1)) (pcN := 14) jIK_203_13 rfl rfl rfl ?_
  refine jT_xiload_n (v := (0, 7 * o2)) (pcN := 15) jIK_203_14 rfl rfl rfl ?_
  refine jT_xiload_n (v := (0, 1)) (pcN := 16) jIK_203_15 rfl rfl rfl ?_
  refine jT_xiadd (x := 7 * o2) (y := 1) (z := 7 * o2 + 1) (pcN := 17) jIK_203_16 rfl (by omega) rfl ?_
  refine jT_iald (x := 0) (a := 1) (j := (7 * o2 + 1).toNat) (fs := []) (X := jS0) (by rfl) (by rfl) (by rfl) (jw_nn (by omega) (by omega)) (jS0_r1 (by omega) (by omega)) ?_
  refine jT_eq (LN := [(3, (0, 1)), (0, (4, 0)), (1, (4, 1)), (2, (0, 7 * o2))]) (stN := [(0, 0), (0, 1), (4, 7)]) (hsN := jpK_333) rfl rfl rfl ?_
  refine jT_xi2l (x := 0) (z := 0) (pcN := 19) jIK_203_18 rfl (by decide +kernel) rfl ?_
  refine jT_adv 1 (pcN := 20) (LN := [(3, (0, 1)), (0, (4, 0)), (1, (4, 1)), (2, (0, 7 * o2))]) (stN := []) (hsN := jpK_333) (c1 := 0) (s1 := 0) (c2 := 0) (s2 := 0) (by exact rfl) ?_ (by omega) (by omega)
  refine jT_xiinc (x := 1) (z := 2) (LN := [(3, (0, 2)), (0, (4, 0)), (1, (4, 1)), (2, (0, 7 * o2))]) (pcN := 23) jIK_203_20 rfl rfl (by decide) rfl rfl ?_
  refine jT_xgoto (pcN := 2) jIK_203_23 rfl ?_
  refine jT_xiload_n (v := (0, 2)) (pcN := 3) jIK_203_2 rfl rfl rfl ?_
  refine jT_xbipush (k := 6) (pcN := 5) jIK_203_3 (by decide) rfl ?_
  refine jT_xicF (t := 26) (pcN := 8) jIK_203_5 rfl (by decide +kernel) rfl rfl ?_
  refine jT_xaload_n (v := (4, 0)) (pcN := 9) jIK_203_8 rfl rfl rfl ?_
  refine jT_xgetf (a := 0) (t := 1) (ci := 14) (fi := 9) (c := jzK_331) (v := (4, 7)) (pcN := 12) jIK_203_9 rfl rfl rfl rfl rfl rfl rfl ?_
  refine jT_xiload_n (v := (0, 2)) (pcN := 13) jIK_203_12 rfl rfl rfl ?_
  refine jT_xaload_n (v := (4, 1)) (pcN := 14) jIK_203_13 rfl rfl rfl ?_
  refine jT_xiload_n (v := (0, 7 * o2)) (pcN := 15) jIK_203_14 rfl rfl rfl ?_
  refine jT_xiload_n (v := (0, 2)) (pcN := 16) jIK_203_15 rfl rfl rfl ?_
  refine jT_xiadd (x := 7 * o2) (y := 2) (z := 7 * o2 + 2) (pcN := 17) jIK_203_16 rfl (by omega) rfl ?_
  refine jT_iald (x := 0) (a := 1) (j := (7 * o2 + 2).toNat) (fs := []) (X := jS0) (by rfl) (by rfl) (by rfl) (jw_nn (by omega) (by omega)) (jS0_r2 (by omega) (by omega)) ?_
  refine jT_eq (LN := [(3, (0, 2)), (0, (4, 0)), (1, (4, 1)), (2, (0, 7 * o2))]) (stN := [(0, 0), (0, 2), (4, 7)]) (hsN := jpK_333) rfl rfl rfl ?_
  refine jT_xi2l (x := 0) (z := 0) (pcN := 19) jIK_203_18 rfl (by decide +kernel) rfl ?_
  refine jT_adv 1 (pcN := 20) (LN := [(3, (0, 2)), (0, (4, 0)), (1, (4, 1)), (2, (0, 7 * o2))]) (stN := []) (hsN := jpK_333) (c1 := 0) (s1 := 0) (c2 := 0) (s2 := 0) (by exact rfl) ?_ (by omega) (by omega)
  refine jT_xiinc (x := 2) (z := 3) (LN := [(3, (0, 3)), (0, (4, 0)), (1, (4, 1)), (2, (0, 7 * o2))]) (pcN := 23) jIK_203_20 rfl rfl (by decide) rfl rfl ?_
  refine jT_xgoto (pcN := 2) jIK_203_23 rfl ?_
  refine jT_xiload_n (v := (0, 3)) (pcN := 3) jIK_203_2 rfl rfl rfl ?_
  refine jT_xbipush (k := 6) (pcN := 5) jIK_203_3 (by decide) rfl ?_
  refine jT_xicF (t := 26) (pcN := 8) jIK_203_5 rfl (by decide +kernel) rfl rfl ?_
  refine jT_xaload_n (v := (4, 0)) (pcN := 9) jIK_203_8 rfl rfl rfl ?_
  refine jT_xgetf (a := 0) (t := 1) (ci := 14) (fi := 9) (c := jzK_331) (v := (4, 7)) (pcN := 12) jIK_203_9 rfl rfl rfl rfl rfl rfl rfl ?_
  refine jT_xiload_n (v := (0, 3)) (pcN := 13) jIK_203_12 rfl rfl rfl ?_
  refine jT_xaload_n (v := (4, 1)) (pcN := 14) jIK_203_13 rfl rfl rfl ?_
  refine jT_xiload_n (v := (0, 7 * o2)) (pcN := 15) jIK_203_14 rfl rfl rfl ?_
  refine jT_xiload_n (v := (0, 3)) (pcN := 16) jIK_203_15 rfl rfl rfl ?_
  refine jT_xiadd (x := 7 * o2) (y := 3) (z := 7 * o2 + 3) (pcN := 17) jIK_203_16 rfl (by omega) rfl ?_
  refine jT_iald (x := 0) (a := 1) (j := (7 * o2 + 3).toNat) (fs := []) (X := jS0) (by rfl) (by rfl) (by rfl) (jw_nn (by omega) (by omega)) (jS0_r3 (by omega) (by omega)) ?_
  refine jT_eq (LN := [(3, (0, 3)), (0, (4, 0)), (1, (4, 1)), (2, (0, 7 * o2))]) (stN := [(0, 0), (0, 3), (4, 7)]) (hsN := jpK_333) rfl rfl rfl ?_
  refine jT_xi2l (x := 0) (z := 0) (pcN := 19) jIK_203_18 rfl (by decide +kernel) rfl ?_
  refine jT_adv 1 (pcN := 20) (LN := [(3, (0, 3)), (0, (4, 0)), (1, (4, 1)), (2, (0, 7 * o2))]) (stN := []) (hsN := jpK_333) (c1 := 0) (s1 := 0) (c2 := 0) (s2 := 0) (by exact rfl) ?_ (by omega) (by omega)
  refine jT_xiinc (x := 3) (z := 4) (LN := [(3, (0, 4)), (0, (4, 0)), (1, (4, 1)), (2, (0, 7 * o2))]) (pcN := 23) jIK_203_20 rfl rfl (by decide) rfl rfl ?_
  refine jT_xgoto (pcN := 2) jIK_203_23 rfl ?_
  refine jT_xiload_n (v := (0, 4)) (pcN := 3) jIK_203_2 rfl rfl rfl ?_
  refine jT_xbipush (k := 6) (pcN := 5) jIK_203_3 (by decide) rfl ?_
  refine jT_xicF (t := 26) (pcN := 8) jIK_203_5 rfl (by decide +kernel) rfl rfl ?_
  refine jT_xaload_n (v := (4, 0)) (pcN := 9) jIK_203_8 rfl rfl rfl ?_
  refine jT_xgetf (a := 0) (t := 1) (ci := 14) (fi := 9) (c := jzK_331) (v := (4, 7)) (pcN := 12) jIK_203_9 rfl rfl rfl rfl rfl rfl rfl ?_
  refine jT_xiload_n (v := (0, 4)) (pcN := 13) jIK_203_12 rfl rfl rfl ?_
  refine jT_xaload_n (v := (4, 1)) (pcN := 14) jIK_203_13 rfl rfl rfl ?_
  refine jT_xiload_n (v := (0, 7 * o2)) (pcN := 15) jIK_203_14 rfl rfl rfl ?_
  refine jT_xiload_n (v := (0, 4)) (pcN := 16) jIK_203_15 rfl rfl rfl ?_
  refine jT_xiadd (x := 7 * o2) (y := 4) (z := 7 * o2 + 4) (pcN := 17) jIK_203_16 rfl (by omega) rfl ?_
  refine jT_iald (x := 0) (a := 1) (j := (7 * o2 + 4).toNat) (fs := []) (X := jS0) (by rfl) (by rfl) (by rfl) (jw_nn (by omega) (by omega)) (jS0_r4 (by omega) (by omega)) ?_
  refine jT_eq (LN := [(3, (0, 4)), (0, (4, 0)), (1, (4, 1)), (2, (0, 7 * o2))]) (stN := [(0, 0), (0, 4), (4, 7)]) (hsN := jpK_333) rfl rfl rfl ?_
  refine jT_xi2l (x := 0) (z := 0) (pcN := 19) jIK_203_18 rfl (by decide +kernel) rfl ?_
  refine jT_adv 1 (pcN := 20) (LN := [(3, (0, 4)), (0, (4, 0)), (1, (4, 1)), (2, (0, 7 * o2))]) (stN := []) (hsN := jpK_333) (c1 := 0) (s1 := 0) (c2 := 0) (s2 := 0) (by exact rfl) ?_ (by omega) (by omega)
  refine jT_xiinc (x := 4) (z := 5) (LN := [(3, (0, 5)), (0, (4, 0)), (1, (4, 1)), (2, (0, 7 * o2))]) (pcN := 23) jIK_203_20 rfl rfl (by decide) rfl rfl ?_
  refine jT_xgoto (pcN := 2) jIK_203_23 rfl ?_
  refine jT_xiload_n (v := (0, 5)) (pcN := 3) jIK_203_2 rfl rfl rfl ?_
  refine jT_xbipush (k := 6) (pcN := 5) jIK_203_3 (by decide) rfl ?_
  refine jT_xicF (t := 26) (pcN := 8) jIK_203_5 rfl (by decide +kernel) rfl rfl ?_
  refine jT_xaload_n (v := (4, 0)) (pcN := 9) jIK_203_8 rfl rfl rfl ?_
  refine jT_xgetf (a := 0) (t := 1) (ci := 14) (fi := 9) (c := jzK_331) (v := (4, 7)) (pcN := 12) jIK_203_9 rfl rfl rfl rfl rfl rfl rfl ?_
  refine jT_xiload_n (v := (0, 5)) (pcN := 13) jIK_203_12 rfl rfl rfl ?_
  refine jT_xaload_n (v := (4, 1)) (pcN := 14) jIK_203_13 rfl rfl rfl ?_
  refine jT_xiload_n (v := (0, 7 * o2)) (pcN := 15) jIK_203_14 rfl rfl rfl ?_
  refine jT_xiload_n (v := (0, 5)) (pcN := 16) jIK_203_15 rfl rfl rfl ?_
  refine jT_xiadd (x := 7 * o2) (y := 5) (z := 7 * o2 + 5) (pcN := 17) jIK_203_16 rfl (by omega) rfl ?_
  refine jT_iald (x := 0) (a := 1) (j := (7 * o2 + 5).toNat) (fs := []) (X := jS0) (by rfl) (by rfl) (by rfl) (jw_nn (by omega) (by omega)) (jS0_r5 (by omega) (by omega)) ?_
  refine jT_eq (LN := [(3, (0, 5)), (0, (4, 0)), (1, (4, 1)), (2, (0, 7 * o2))]) (stN := [(0, 0), (0, 5), (4, 7)]) (hsN := jpK_333) rfl rfl rfl ?_
  refine jT_xi2l (x := 0) (z := 0) (pcN := 19) jIK_203_18 rfl (by decide +kernel) rfl ?_
  refine jT_adv 1 (pcN := 20) (LN := [(3, (0, 5)), (0, (4, 0)), (1, (4, 1)), (2, (0, 7 * o2))]) (stN := []) (hsN := jpK_333) (c1 := 0) (s1 := 0) (c2 := 0) (s2 := 0) (by exact rfl) ?_ (by omega) (by omega)
  refine jT_xiinc (x := 5) (z := 6) (LN := [(3, (0, 6)), (0, (4, 0)), (1, (4, 1)), (2, (0, 7 * o2))]) (pcN := 23) jIK_203_20 rfl rfl (by decide) rfl rfl ?_
  refine jT_xgoto (pcN := 2) jIK_203_23 rfl ?_
  refine jT_xiload_n (v := (0, 6)) (pcN := 3) jIK_203_2 rfl rfl rfl ?_
  refine jT_xbipush (k := 6) (pcN := 5) jIK_203_3 (by decide) rfl ?_
  refine jT_xicT (pcN := 26) jIK_203_5 rfl (by decide +kernel) rfl ?_
  refine jT_xaload_n (v := (4, 0)) (pcN := 27) jIK_203_26 rfl rfl rfl ?_
  refine jT_xaload_n (v := (4, 1)) (pcN := 28) jIK_203_27 rfl rfl rfl ?_
  refine jT_xiload_n (v := (0, 7 * o2)) (pcN := 29) jIK_203_28 rfl rfl rfl ?_
  refine jT_xbipush (k := 6) (pcN := 31) jIK_203_29 (by decide) rfl ?_
  refine jT_xiadd (x := 7 * o2) (y := 6) (z := 7 * o2 + 6) (pcN := 32) jIK_203_31 rfl (by omega) rfl ?_
  refine jT_iald (x := 1) (a := 1) (j := (7 * o2 + 6).toNat) (fs := []) (X := jS0) (by rfl) (by rfl) (by rfl) (jw_nn (by omega) (by omega)) (jS0_r6 (by omega) (by omega)) ?_
  refine jT_eq (LN := [(3, (0, 6)), (0, (4, 0)), (1, (4, 1)), (2, (0, 7 * o2))]) (stN := [(0, 1), (4, 0)]) (hsN := jpK_333) rfl rfl rfl ?_
  refine jT_xi2l (x := 1) (z := 1) (pcN := 34) jIK_203_33 rfl (by decide +kernel) rfl ?_
  refine jT_adv 1 (pcN := 37) (LN := [(3, (0, 6)), (0, (4, 0)), (1, (4, 1)), (2, (0, 7 * o2))]) (stN := []) (hsN := jpK_333) (c1 := 0) (s1 := 0) (c2 := 0) (s2 := 0) (by exact rfl) ?_ (by omega) (by omega)
  exact jT_ret rfl (by decide) (by show 16 ≤ 16; omega) (by omega) (by omega) ⟨rfl, rfl, rfl⟩
theorem jK_202_81 {xs : List Int} {d : Nat} {o2 : Int} (h_o2 : 0 ≤ o2 ∧ o2 ≤ 7) : jT xs (d + 1) 202 16 0 [(0, (4, 0)), (1, (0, o2))] [] jpK_333 0 0 (fun k v hsN => k = 0 ∧ v = (9, 0) ∧ hsN = jpK_333 ++ []) := by
  refine jT_xaload_n (v := (4, 0)) (pcN := 1) jIK_202_0 rfl rfl rfl ?_
  refine jT_xaload_n (v := (4, 0)) (pcN := 2) jIK_202_1 rfl rfl rfl ?_
  refine jT_xgetf (a := 0) (t := 1) (ci := 14) (fi := 1) (c := jzK_331) (v := (4, 1)) (pcN := 5) jIK_202_2 rfl rfl rfl rfl rfl rfl rfl ?_
  refine jT_xbipush (k := 7) (pcN := 7) jIK_202_5 (by decide) rfl ?_
  refine jT_xiload_n (v := (0, o2)) (pcN := 8) jIK_202_7 rfl rfl rfl ?_
  refine jT_ximul (x := 7) (y := o2) (z := 7 * o2) (pcN := 9) jIK_202_8 rfl (rfl) rfl ?_
  refine jT_fR [0, 1, 2, 3, 4, 5, 6, 7, 8, 9, 10, 11, 12, 13, 14, 15] 16 (y := 203) (pcN := 12) (dC := 0) (bc1 := 0) (bc2 := 0) (c1 := 0) (c2 := 0) (as := [(4, 0), (4, 1), (0, 7 * o2)]) (asC := [(4, 0), (4, 1), (0, 7 * o2)]) (LN := [(0, (4, 0)), (1, (0, o2))]) (stN := []) (hsC := jpK_333) (v := (9, 0)) (st2 := []) (jK_203_80 (d := 0) (by omega)) (by rfl) (by rfl) (by decide +kernel) (by rfl) (by rfl) (by omega) (by omega) (by omega) (by omega) rfl ?_
  exact jT_ret rfl (by decide) (by show 16 ≤ 16; omega) (by omega) (by omega) ⟨rfl, rfl, rfl⟩
def jpK_334 : List JC := [jzK_331, jgh, jgh, jgh, jgh, jgh, jgh, (101, [], [0, 0, 0, 0, 0, 0]), jgh, jgh, jgh, jgh, jgh, jgh, jgh, jgh]
theorem jK_199_82 {xs : List Int} {d : Nat} : jT xs (d + 1) 199 16 0 [(0, (4, 0))] [] jpK_334 0 0 (fun k v hsN => k = 0 ∧ v = (9, 0) ∧ hsN = jpK_334 ++ []) := by
  refine jT_advK 13 (pcN := 20) (LN := [(3, (0, 0)), (1, (1, 1)), (0, (4, 0))]) (stN := [(1, 0), (1, 1)]) (hsN := jpK_334) (c1 := 0) (s1 := 0) (c2 := 0) (s2 := 0) (by decide +kernel) ?_ (by omega) (by omega)
  refine jT_fR [] 16 (y := 194) (pcN := 23) (dC := 0) (bc1 := 0) (bc2 := 0) (c1 := 0) (c2 := 0) (as := [(1, 1), (1, 0)]) (asC := [(1, 1), (1, 0)]) (LN := [(3, (0, 0)), (1, (1, 1)), (0, (4, 0))]) (stN := []) (hsC := []) (v := (1, 1)) (st2 := [(1, 1)]) (jK_194_63 (d := 0)) (by rfl) (by rfl) (by decide +kernel) (by rfl) (by rfl) (by omega) (by omega) (by omega) (by omega) rfl ?_
  refine jT_advK 11 (pcN := 20) (LN := [(3, (0, 1)), (1, (1, 1)), (0, (4, 0))]) (stN := [(1, 0), (1, 1)]) (hsN := jpK_334) (c1 := 0) (s1 := 0) (c2 := 0) (s2 := 0) (by decide +kernel) ?_ (by omega) (by omega)
  refine jT_fR [] 16 (y := 194) (pcN := 23) (dC := 0) (bc1 := 0) (bc2 := 0) (c1 := 0) (c2 := 0) (as := [(1, 1), (1, 0)]) (asC := [(1, 1), (1, 0)]) (LN := [(3, (0, 1)), (1, (1, 1)), (0, (4, 0))]) (stN := []) (hsC := []) (v := (1, 1)) (st2 := [(1, 1)]) (jK_194_63 (d := 0)) (by rfl) (by rfl) (by decide +kernel) (by rfl) (by rfl) (by omega) (by omega) (by omega) (by omega) rfl ?_
  refine jT_advK 11 (pcN := 20) (LN := [(3, (0, 2)), (1, (1, 1)), (0, (4, 0))]) (stN := [(1, 0), (1, 1)]) (hsN := jpK_334) (c1 := 0) (s1 := 0) (c2 := 0) (s2 := 0) (by decide +kernel) ?_ (by omega) (by omega)
  refine jT_fR [] 16 (y := 194) (pcN := 23) (dC := 0) (bc1 := 0) (bc2 := 0) (c1 := 0) (c2 := 0) (as := [(1, 1), (1, 0)]) (asC := [(1, 1), (1, 0)]) (LN := [(3, (0, 2)), (1, (1, 1)), (0, (4, 0))]) (stN := []) (hsC := []) (v := (1, 1)) (st2 := [(1, 1)]) (jK_194_63 (d := 0)) (by rfl) (by rfl) (by decide +kernel) (by rfl) (by rfl) (by omega) (by omega) (by omega) (by omega) rfl ?_
  refine jT_advK 11 (pcN := 20) (LN := [(3, (0, 3)), (1, (1, 1)), (0, (4, 0))]) (stN := [(1, 0), (1, 1)]) (hsN := jpK_334) (c1 := 0) (s1 := 0) (c2 := 0) (s2 := 0) (by decide +kernel) ?_ (by omega) (by omega)
  refine jT_fR [] 16 (y := 194) (pcN := 23) (dC := 0) (bc1 := 0) (bc2 := 0) (c1 := 0) (c2 := 0) (as := [(1, 1), (1, 0)]) (asC := [(1, 1), (1, 0)]) (LN := [(3, (0, 3)), (1, (1, 1)), (0, (4, 0))]) (stN := []) (hsC := []) (v := (1, 1)) (st2 := [(1, 1)]) (jK_194_63 (d := 0)) (by rfl) (by rfl) (by decide +kernel) (by rfl) (by rfl) (by omega) (by omega) (by omega) (by omega) rfl ?_
  refine jT_advK 11 (pcN := 20) (LN := [(3, (0, 4)), (1, (1, 1)), (0, (4, 0))]) (stN := [(1, 0), (1, 1)]) (hsN := jpK_334) (c1 := 0) (s1 := 0) (c2 := 0) (s2 := 0) (by decide +kernel) ?_ (by omega) (by omega)
  refine jT_fR [] 16 (y := 194) (pcN := 23) (dC := 0) (bc1 := 0) (bc2 := 0) (c1 := 0) (c2 := 0) (as := [(1, 1), (1, 0)]) (asC := [(1, 1), (1, 0)]) (LN := [(3, (0, 4)), (1, (1, 1)), (0, (4, 0))]) (stN := []) (hsC := []) (v := (1, 1)) (st2 := [(1, 1)]) (jK_194_63 (d := 0)) (by rfl) (by rfl) (by decide +kernel) (by rfl) (by rfl) (by omega) (by omega) (by omega) (by omega) rfl ?_
  refine jT_advK 11 (pcN := 20) (LN := [(3, (0, 5)), (1, (1, 1)), (0, (4, 0))]) (stN := [(1, 0), (1, 1)]) (hsN := jpK_334) (c1 := 0) (s1 := 0) (c2 := 0) (s2 := 0) (by decide +kernel) ?_ (by omega) (by omega)
  refine jT_fR [] 16 (y := 194) (pcN := 23) (dC := 0) (bc1 := 0) (bc2 := 0) (c1 := 0) (c2 := 0) (as := [(1, 1), (1, 0)]) (asC := [(1, 1), (1, 0)]) (LN := [(3, (0, 5)), (1, (1, 1)), (0, (4, 0))]) (stN := []) (hsC := []) (v := (1, 1)) (st2 := [(1, 1)]) (jK_194_63 (d := 0)) (by rfl) (by rfl) (by decide +kernel) (by rfl) (by rfl) (by omega) (by omega) (by omega) (by omega) rfl ?_
  refine jT_advK 8 (pcN := 34) (LN := [(3, (0, 6)), (1, (1, 1)), (0, (4, 0))]) (stN := [(4, 7)]) (hsN := jpK_334) (c1 := 0) (s1 := 0) (c2 := 0) (s2 := 0) (by decide +kernel) ?_ (by omega) (by omega)
  refine jT_fR [7] 16 (y := 200) (pcN := 37) (dC := 0) (bc1 := 0) (bc2 := 0) (c1 := 0) (c2 := 0) (as := [(4, 7)]) (asC := [(4, 0)]) (LN := [(3, (0, 6)), (1, (1, 1)), (0, (4, 0))]) (stN := []) (hsC := [(101, [], [0, 0, 0, 0, 0, 0])]) (v := (0, 1)) (st2 := [(0, 1)]) (jK_200_64 (d := 0)) (by rfl) (by rfl) (by decide +kernel) (by rfl) (by rfl) (by omega) (by omega) (by omega) (by omega) rfl ?_
  refine jT_advK 93 (pcN := 79) (LN := [(3, (0, 6)), (1, (1, 1)), (0, (4, 0))]) (stN := []) (hsN := jpK_334) (c1 := 0) (s1 := 0) (c2 := 0) (s2 := 0) (by decide +kernel) ?_ (by omega) (by omega)
  exact jT_ret rfl (by decide) (by show 16 ≤ 16; omega) (by omega) (by omega) ⟨rfl, rfl, rfl⟩
theorem jK_207_83 {xs : List Int} {d : Nat} {t : Int} (h_t : (-49) ≤ t ∧ t ≤ 89) : jT xs (d + 2) 207 16 0 [(0, (4, 0)), (1, (0, t)), (2, (0, 1))] [] jpK_334 0 0 (fun k v hsN => k = 0 ∧ v = (9, 0) ∧ hsN = jpK_334 ++ []) := by
  refine jT_xiconst (k := 0) (pcN := 1) jIK_207_0 rfl ?_
  refine jT_xistore_n (v := (0, 0)) (LN := [(3, (0, 0)), (0, (4, 0)), (1, (0, t)), (2, (0, 1))]) (pcN := 2) jIK_207_1 rfl rfl rfl rfl ?_
  refine jT_xiload_n (v := (0, 0)) (pcN := 3) jIK_207_2 rfl rfl rfl ?_
  refine jT_xbipush (k := 6) (pcN := 5) jIK_207_3 (by decide) rfl ?_
  refine jT_xicF (t := 25) (pcN := 8) jIK_207_5 rfl (by decide +kernel) rfl rfl ?_
  refine jT_xaload_n (v := (4, 0)) (pcN := 9) jIK_207_8 rfl rfl rfl ?_
  refine jT_xgetf (a := 0) (t := 1) (ci := 14) (fi := 9) (c := jzK_331) (v := (4, 7)) (pcN := 12) jIK_207_9 rfl rfl rfl rfl rfl rfl rfl ?_
  refine jT_xiload_n (v := (0, 0)) (pcN := 13) jIK_207_12 rfl rfl rfl ?_
  refine jT_adv 1 (pcN := 14) (LN := [(3, (0, 0)), (0, (4, 0)), (1, (0, t)), (2, (0, 1))]) (stN := [(0, 0), (4, 7), (0, 0), (4, 7)]) (hsN := jpK_334) (c1 := 0) (s1 := 0) (c2 := 0) (s2 := 0) (by exact rfl) ?_ (by omega) (by omega)
  refine jT_lald (x := 0) (a := 7) (j := 0) (fs := []) (X := [0, 0, 0, 0, 0, 0]) jIK_207_14 rfl rfl rfl rfl ?_
  refine jT_eq (LN := [(3, (0, 0)), (0, (4, 0)), (1, (0, t)), (2, (0, 1))]) (stN := [(1, 0), (0, 0), (4, 7)]) (hsN := jpK_334) rfl rfl rfl ?_
  refine jT_xiload_n (v := (0, t)) (pcN := 16) jIK_207_15 rfl rfl rfl ?_
  refine jT_xi2l (x := t) (z := t) (pcN := 17) jIK_207_16 rfl (jw_idd (by omega) (by omega)) rfl ?_
  refine jT_xlmul (x := 0) (y := t) (z := 0) (pcN := 18) jIK_207_17 rfl (by omega) rfl ?_
  refine jT_adv 1 (pcN := 19) (LN := [(3, (0, 0)), (0, (4, 0)), (1, (0, t)), (2, (0, 1))]) (stN := []) (hsN := jpK_334) (c1 := 0) (s1 := 0) (c2 := 0) (s2 := 0) (by exact rfl) ?_ (by omega) (by omega)
  refine jT_xiinc (x := 0) (z := 1) (LN := [(3, (0, 1)), (0, (4, 0)), (1, (0, t)), (2, (0, 1))]) (pcN := 22) jIK_207_19 rfl rfl (by decide) rfl rfl ?_
  refine jT_xgoto (pcN := 2) jIK_207_22 rfl ?_
  refine jT_xiload_n (v := (0, 1)) (pcN := 3) jIK_207_2 rfl rfl rfl ?_
  refine jT_xbipush (k := 6) (pcN := 5) jIK_207_3 (by decide) rfl ?_
  refine jT_xicF (t := 25) (pcN := 8) jIK_207_5 rfl (by decide +kernel) rfl rfl ?_
  refine jT_xaload_n (v := (4, 0)) (pcN := 9) jIK_207_8 rfl rfl rfl ?_
  refine jT_xgetf (a := 0) (t := 1) (ci := 14) (fi := 9) (c := jzK_331) (v := (4, 7)) (pcN := 12) jIK_207_9 rfl rfl rfl rfl rfl rfl rfl ?_
  refine jT_xiload_n (v := (0, 1)) (pcN := 13) jIK_207_12 rfl rfl rfl ?_
  refine jT_adv 1 (pcN := 14) (LN := [(3, (0, 1)), (0, (4, 0)), (1, (0, t)), (2, (0, 1))]) (stN := [(0, 1), (4, 7), (0, 1), (4, 7)]) (hsN := jpK_334) (c1 := 0) (s1 := 0) (c2 := 0) (s2 := 0) (by exact rfl) ?_ (by omega) (by omega)
  refine jT_lald (x := 0) (a := 7) (j := 1) (fs := []) (X := [0, 0, 0, 0, 0, 0]) jIK_207_14 rfl rfl rfl rfl ?_
  refine jT_eq (LN := [(3, (0, 1)), (0, (4, 0)), (1, (0, t)), (2, (0, 1))]) (stN := [(1, 0), (0, 1), (4, 7)]) (hsN := jpK_334) rfl rfl rfl ?_
  refine jT_xiload_n (v := (0, t)) (pcN := 16) jIK_207_15 rfl rfl rfl ?_
  refine jT_xi2l (x := t) (z := t) (pcN := 17) jIK_207_16 rfl (jw_idd (by omega) (by omega)) rfl ?_
  refine jT_xlmul (x := 0) (y := t) (z := 0) (pcN := 18) jIK_207_17 rfl (by omega) rfl ?_
  refine jT_adv 1 (pcN := 19) (LN := [(3, (0, 1)), (0, (4, 0)), (1, (0, t)), (2, (0, 1))]) (stN := []) (hsN := jpK_334) (c1 := 0) (s1 := 0) (c2 := 0) (s2 := 0) (by exact rfl) ?_ (by omega) (by omega)
  refine jT_xiinc (x := 1) (z := 2) (LN := [(3, (0, 2)), (0, (4, 0)), (1, (0, t)), (2, (0, 1))]) (pcN := 22) jIK_207_19 rfl rfl (by decide) rfl rfl ?_
  refine jT_xgoto (pcN := 2) jIK_207_22 rfl ?_
  refine jT_xiload_n (v := (0, 2)) (pcN := 3) jIK_207_2 rfl rfl rfl ?_
  refine jT_xbipush (k := 6) (pcN := 5) jIK_207_3 (by decide) rfl ?_
  refine jT_xicF (t := 25) (pcN := 8) jIK_207_5 rfl (by decide +kernel) rfl rfl ?_
  refine jT_xaload_n (v := (4, 0)) (pcN := 9) jIK_207_8 rfl rfl rfl ?_
  refine jT_xgetf (a := 0) (t := 1) (ci := 14) (fi := 9) (c := jzK_331) (v := (4, 7)) (pcN := 12) jIK_207_9 rfl rfl rfl rfl rfl rfl rfl ?_
  refine jT_xiload_n (v := (0, 2)) (pcN := 13) jIK_207_12 rfl rfl rfl ?_
  refine jT_adv 1 (pcN := 14) (LN := [(3, (0, 2)), (0, (4, 0)), (1, (0, t)), (2, (0, 1))]) (stN := [(0, 2), (4, 7), (0, 2), (4, 7)]) (hsN := jpK_334) (c1 := 0) (s1 := 0) (c2 := 0) (s2 := 0) (by exact rfl) ?_ (by omega) (by omega)
  refine jT_lald (x := 0) (a := 7) (j := 2) (fs := []) (X := [0, 0, 0, 0, 0, 0]) jIK_207_14 rfl rfl rfl rfl ?_
  refine jT_eq (LN := [(3, (0, 2)), (0, (4, 0)), (1, (0, t)), (2, (0, 1))]) (stN := [(1, 0), (0, 2), (4, 7)]) (hsN := jpK_334) rfl rfl rfl ?_
  refine jT_xiload_n (v := (0, t)) (pcN := 16) jIK_207_15 rfl rfl rfl ?_
  refine jT_xi2l (x := t) (z := t) (pcN := 17) jIK_207_16 rfl (jw_idd (by omega) (by omega)) rfl ?_
  refine jT_xlmul (x := 0) (y := t) (z := 0) (pcN := 18) jIK_207_17 rfl (by omega) rfl ?_
  refine jT_adv 1 (pcN := 19) (LN := [(3, (0, 2)), (0, (4, 0)), (1, (0, t)), (2, (0, 1))]) (stN := []) (hsN := jpK_334) (c1 := 0) (s1 := 0) (c2 := 0) (s2 := 0) (by exact rfl) ?_ (by omega) (by omega)
  refine jT_xiinc (x := 2) (z := 3) (LN := [(3, (0, 3)), (0, (4, 0)), (1, (0, t)), (2, (0, 1))]) (pcN := 22) jIK_207_19 rfl rfl (by decide) rfl rfl ?_
  refine jT_xgoto (pcN := 2) jIK_207_22 rfl ?_
  refine jT_xiload_n (v := (0, 3)) (pcN := 3) jIK_207_2 rfl rfl rfl ?_
  refine jT_xbipush (k := 6) (pcN := 5) jIK_207_3 (by decide) rfl ?_
  refine jT_xicF (t := 25) (pcN := 8) jIK_207_5 rfl (by decide +kernel) rfl rfl ?_
  refine jT_xaload_n (v := (4, 0)) (pcN := 9) jIK_207_8 rfl rfl rfl ?_
  refine jT_xgetf (a := 0) (t := 1) (ci := 14) (fi := 9) (c := jzK_331) (v := (4, 7)) (pcN := 12) jIK_207_9 rfl rfl rfl rfl rfl rfl rfl ?_
  refine jT_xiload_n (v := (0, 3)) (pcN := 13) jIK_207_12 rfl rfl rfl ?_
  refine jT_adv 1 (pcN := 14) (LN := [(3, (0, 3)), (0, (4, 0)), (1, (0, t)), (2, (0, 1))]) (stN := [(0, 3), (4, 7), (0, 3), (4, 7)]) (hsN := jpK_334) (c1 := 0) (s1 := 0) (c2 := 0) (s2 := 0) (by exact rfl) ?_ (by omega) (by omega)
  refine jT_lald (x := 0) (a := 7) (j := 3) (fs := []) (X := [0, 0, 0, 0, 0, 0]) jIK_207_14 rfl rfl rfl rfl ?_
  refine jT_eq (LN := [(3, (0, 3)), (0, (4, 0)), (1, (0, t)), (2, (0, 1))]) (stN := [(1, 0), (0, 3), (4, 7)]) (hsN := jpK_334) rfl rfl rfl ?_
  refine jT_xiload_n (v := (0, t)) (pcN := 16) jIK_207_15 rfl rfl rfl ?_
  refine jT_xi2l (x := t) (z := t) (pcN := 17) jIK_207_16 rfl (jw_idd (by omega) (by omega)) rfl ?_
  refine jT_xlmul (x := 0) (y := t) (z := 0) (pcN := 18) jIK_207_17 rfl (by omega) rfl ?_
  refine jT_adv 1 (pcN := 19) (LN := [(3, (0, 3)), (0, (4, 0)), (1, (0, t)), (2, (0, 1))]) (stN := []) (hsN := jpK_334) (c1 := 0) (s1 := 0) (c2 := 0) (s2 := 0) (by exact rfl) ?_ (by omega) (by omega)
  refine jT_xiinc (x := 3) (z := 4) (LN := [(3, (0, 4)), (0, (4, 0)), (1, (0, t)), (2, (0, 1))]) (pcN := 22) jIK_207_19 rfl rfl (by decide) rfl rfl ?_
  refine jT_xgoto (pcN := 2) jIK_207_22 rfl ?_
  refine jT_xiload_n (v := (0, 4)) (pcN := 3) jIK_207_2 rfl rfl rfl ?_
  refine jT_xbipush (k := 6) (pcN := 5) jIK_207_3 (by decide) rfl ?_
  refine jT_xicF (t := 25) (pcN := 8) jIK_207_5 rfl (by decide +kernel) rfl rfl ?_
  refine jT_xaload_n (v := (4, 0)) (pcN := 9) jIK_207_8 rfl rfl rfl ?_
  refine jT_xgetf (a := 0) (t := 1) (ci := 14) (fi := 9) (c := jzK_331) (v := (4, 7)) (pcN := 12) jIK_207_9 rfl rfl rfl rfl rfl rfl rfl ?_
  refine jT_xiload_n (v := (0, 4)) (pcN := 13) jIK_207_12 rfl rfl rfl ?_
  refine jT_adv 1 (pcN := 14) (LN := [(3, (0, 4)), (0, (4, 0)), (1, (0, t)), (2, (0, 1))]) (stN := [(0, 4), (4, 7), (0, 4), (4, 7)]) (hsN := jpK_334) (c1 := 0) (s1 := 0) (c2 := 0) (s2 := 0) (by exact rfl) ?_ (by omega) (by omega)
  refine jT_lald (x := 0) (a := 7) (j := 4) (fs := []) (X := [0, 0, 0, 0, 0, 0]) jIK_207_14 rfl rfl rfl rfl ?_
  refine jT_eq (LN := [(3, (0, 4)), (0, (4, 0)), (1, (0, t)), (2, (0, 1))]) (stN := [(1, 0), (0, 4), (4, 7)]) (hsN := jpK_334) rfl rfl rfl ?_
  refine jT_xiload_n (v := (0, t)) (pcN := 16) jIK_207_15 rfl rfl rfl ?_
  refine jT_xi2l (x := t) (z := t) (pcN := 17) jIK_207_16 rfl (jw_idd (by omega) (by omega)) rfl ?_
  refine jT_xlmul (x := 0) (y := t) (z := 0) (pcN := 18) jIK_207_17 rfl (by omega) rfl ?_
  refine jT_adv 1 (pcN := 19) (LN := [(3, (0, 4)), (0, (4, 0)), (1, (0, t)), (2, (0, 1))]) (stN := []) (hsN := jpK_334) (c1 := 0) (s1 := 0) (c2 := 0) (s2 := 0) (by exact rfl) ?_ (by omega) (by omega)
  refine jT_xiinc (x := 4) (z := 5) (LN := [(3, (0, 5)), (0, (4, 0)), (1, (0, t)), (2, (0, 1))]) (pcN := 22) jIK_207_19 rfl rfl (by decide) rfl rfl ?_
  refine jT_xgoto (pcN := 2) jIK_207_22 rfl ?_
  refine jT_xiload_n (v := (0, 5)) (pcN := 3) jIK_207_2 rfl rfl rfl ?_
  refine jT_xbipush (k := 6) (pcN := 5) jIK_207_3 (by decide) rfl ?_
  refine jT_xicF (t := 25) (pcN := 8) jIK_207_5 rfl (by decide +kernel) rfl rfl ?_
  refine jT_xaload_n (v := (4, 0)) (pcN := 9) jIK_207_8 rfl rfl rfl ?_
  refine jT_xgetf (a := 0) (t := 1) (ci := 14) (fi := 9) (c := jzK_331) (v := (4, 7)) (pcN := 12) jIK_207_9 rfl rfl rfl rfl rfl rfl rfl ?_
  refine jT_xiload_n (v := (0, 5)) (pcN := 13) jIK_207_12 rfl rfl rfl ?_
  refine jT_adv 1 (pcN := 14) (LN := [(3, (0, 5)), (0, (4, 0)), (1, (0, t)), (2, (0, 1))]) (stN := [(0, 5), (4, 7), (0, 5), (4, 7)]) (hsN := jpK_334) (c1 := 0) (s1 := 0) (c2 := 0) (s2 := 0) (by exact rfl) ?_ (by omega) (by omega)
  refine jT_lald (x := 0) (a := 7) (j := 5) (fs := []) (X := [0, 0, 0, 0, 0, 0]) jIK_207_14 rfl rfl rfl rfl ?_
  refine jT_eq (LN := [(3, (0, 5)), (0, (4, 0)), (1, (0, t)), (2, (0, 1))]) (stN := [(1, 0), (0, 5), (4, 7)]) (hsN := jpK_334) rfl rfl rfl ?_
  refine jT_xiload_n (v := (0, t)) (pcN := 16) jIK_207_15 rfl rfl rfl ?_
  refine jT_xi2l (x := t) (z := t) (pcN := 17) jIK_207_16 rfl (jw_idd (by omega) (by omega)) rfl ?_
  refine jT_xlmul (x := 0) (y := t) (z := 0) (pcN := 18) jIK_207_17 rfl (by omega) rfl ?_
  refine jT_adv 1 (pcN := 19) (LN := [(3, (0, 5)), (0, (4, 0)), (1, (0, t)), (2, (0, 1))]) (stN := []) (hsN := jpK_334) (c1 := 0) (s1 := 0) (c2 := 0) (s2 := 0) (by exact rfl) ?_ (by omega) (by omega)
  refine jT_xiinc (x := 5) (z := 6) (LN := [(3, (0, 6)), (0, (4, 0)), (1, (0, t)), (2, (0, 1))]) (pcN := 22) jIK_207_19 rfl rfl (by decide) rfl rfl ?_
  refine jT_xgoto (pcN := 2) jIK_207_22 rfl ?_
  refine jT_xiload_n (v := (0, 6)) (pcN := 3) jIK_207_2 rfl rfl rfl ?_
  refine jT_xbipush (k := 6) (pcN := 5) jIK_207_3 (by decide) rfl ?_
  refine jT_xicT (pcN := 25) jIK_207_5 rfl (by decide +kernel) rfl ?_
  refine jT_xaload_n (v := (4, 0)) (pcN := 26) jIK_207_25 rfl rfl rfl ?_
  refine jT_adv 1 (pcN := 27) (LN := [(3, (0, 6)), (0, (4, 0)), (1, (0, t)), (2, (0, 1))]) (stN := [(4, 0), (4, 0)]) (hsN := jpK_334) (c1 := 0) (s1 := 0) (c2 := 0) (s2 := 0) (by exact rfl) ?_ (by omega) (by omega)
  refine jT_xgetf (a := 0) (t := 1) (ci := 14) (fi := 10) (c := jzK_331) (v := (1, 1)) (pcN := 30) jIK_207_27 rfl rfl rfl rfl rfl rfl rfl ?_
  refine jT_xiload_n (v := (0, 1)) (pcN := 31) jIK_207_30 rfl rfl rfl ?_
  refine jT_xi2l (x := 1) (z := 1) (pcN := 32) jIK_207_31 rfl (by decide +kernel) rfl ?_
  refine jT_xlmul (x := 1) (y := 1) (z := 1) (pcN := 33) jIK_207_32 rfl (by decide) rfl ?_
  refine jT_adv 1 (pcN := 36) (LN := [(3, (0, 6)), (0, (4, 0)), (1, (0, t)), (2, (0, 1))]) (stN := []) (hsN := jpK_334) (c1 := 0) (s1 := 0) (c2 := 0) (s2 := 0) (by exact rfl) ?_ (by omega) (by omega)
  refine jT_xaload_n (v := (4, 0)) (pcN := 37) jIK_207_36 rfl rfl rfl ?_
  refine jT_fR [0, 1, 2, 3, 4, 5, 6, 7, 8, 9, 10, 11, 12, 13, 14, 15] 16 (y := 199) (pcN := 40) (dC := 1) (bc1 := 0) (bc2 := 0) (c1 := 0) (c2 := 0) (as := [(4, 0)]) (asC := [(4, 0)]) (LN := [(3, (0, 6)), (0, (4, 0)), (1, (0, t)), (2, (0, 1))]) (stN := []) (hsC := jpK_334) (v := (9, 0)) (st2 := []) (jK_199_82 (d := 0)) (by rfl) (by rfl) (by decide +kernel) (by rfl) (by rfl) (by omega) (by omega) (by omega) (by omega) rfl ?_
  exact jT_ret rfl (by decide) (by show 16 ≤ 16; omega) (by omega) (by omega) ⟨rfl, rfl, rfl⟩
def jzK_335 : JC := (14, [(0, 0), (4, 2), (4, 3), (4, 4), (4, 5), (0, 0), (4, 6), (0, 0), (4, 7), (4, 1), (1, 1), (4, 8), (0, 1), (4, 9), (0, 0), (0, 0), (0, 0), (0, 0), (0, 0), (0, 0), (0, 0), (4, 10), (4, 11), (4, 12), (4, 13), (4, 14), (4, 15), (0, 0)], [])
def jpK_336 : List JC := [jzK_335, (101, [], [0, 0, 0, 0, 0, 0]), jgh, jgh, jgh, jgh, jgh, jgh, jgh, jgh, jgh, jgh, jgh, jgh, jgh, jgh, (101, [], [0, 0, 0, 0, 0, 0])]
def jpK_337 : List JC := [jzK_335, (101, [], [0, 0, 0, 0, 0, 0]), jgh, jgh, jgh, jgh, jgh, jgh, jgh, jgh, jgh, jgh, jgh, jgh, jgh, jgh]
theorem jK_212_84 {xs : List Int} {d : Nat} : jT xs (d + 2) 212 16 0 [(0, (4, 0)), (1, (4, 1)), (2, (1, 0))] [] jpK_337 1 6 (fun k v hsN => k = 0 ∧ v = (0, 0) ∧ hsN = jpK_337 ++ [(101, [], [0, 0, 0, 0, 0, 0])]) := by
  refine jT_advK 18 (pcN := 27) (LN := [(4, (4, 16)), (0, (4, 0)), (1, (4, 1)), (2, (1, 0))]) (stN := [(4, 16), (4, 0)]) (hsN := jpK_336) (c1 := 1) (s1 := 6) (c2 := 0) (s2 := 0) (by decide +kernel) ?_ (by omega) (by omega)
  refine jT_fR [0, 16] 17 (y := 213) (pcN := 30) (dC := 1) (bc1 := 0) (bc2 := 0) (c1 := 0) (c2 := 0) (as := [(4, 0), (4, 16)]) (asC := [(4, 0), (4, 1)]) (LN := [(4, (4, 16)), (0, (4, 0)), (1, (4, 1)), (2, (1, 0))]) (stN := []) (hsC := [jgh, (101, [], [0, 0, 0, 0, 0, 0])]) (v := (0, 0)) (st2 := [(0, 0)]) (jK_213_68 (d := 0)) (by rfl) (by rfl) (by decide +kernel) (by rfl) (by rfl) (by omega) (by omega) (by omega) (by omega) rfl ?_
  exact jT_ret rfl (by decide) (by show 16 ≤ 17; omega) (by omega) (by omega) ⟨rfl, rfl, rfl⟩
def jzK_338 : JC := (14, [(0, 0), (4, 2), (4, 3), (4, 4), (4, 5), (0, 0), (4, 6), (0, 0), (4, 7), (4, 8), (1, 1), (4, 9), (0, 1), (4, 10), (0, 0), (0, 0), (0, 0), (0, 0), (0, 0), (0, 0), (0, 0), (4, 11), (4, 12), (4, 13), (4, 14), (4, 15), (4, 16), (0, 0)], [])
def jpK_339 : List JC := [jzK_338, (101, [], [(-1), 0, 0, 0, 0, 0]), jgh, jgh, jgh, jgh, jgh, (130, [], [17, 18, 19, 20, 21, 22]), jgh, jgh, jgh, jgh, jgh, jgh, jgh, jgh, jgh, (100, [], (jenc (jlg 0))), jgh, jgh, jgh, jgh, jgh, (100, [], List.replicate 56 0)]
def jpK_340 : List JC := [jzK_338, (101, [], [(-1), 0, 0, 0, 0, 0]), jgh, jgh, jgh, jgh, jgh, (130, [], [17, 18, 19, 20, 21, 22]), jgh, jgh, jgh, jgh, jgh, jgh, jgh, jgh, jgh, (100, [], (jenc (jlg 0))), jgh, jgh, jgh, jgh, jgh, (100, [], List.replicate 56 0), (100, [], (jenc (-1)))]
def jpK_341 : List JC := [jzK_338, (101, [], [(-1), 0, 0, 0, 0, 0]), jgh, jgh, jgh, jgh, jgh, (130, [], [17, 18, 19, 20, 21, 22]), jgh, jgh, jgh, jgh, jgh, jgh, jgh, jgh, jgh, (100, [], (jenc (jlg 0))), jgh, jgh, jgh, jgh, jgh, (100, [], List.replicate 56 0), (100, [], (jenc (-1))), (100, [], (jenc ((-1) * (jlg 0))))]
def jpK_342 : List JC := [jzK_338, (101, [], [(-1), 0, 0, 0, 0, 0]), jgh, jgh, jgh, jgh, jgh, (130, [], [17, 18, 19, 20, 21, 22]), jgh, jgh, jgh, jgh, jgh, jgh, jgh, jgh, jgh, (100, [], (jenc (jlg 0))), jgh, jgh, jgh, jgh, jgh, (100, [], (jenc 0)), (100, [], (jenc (-1))), (100, [], (jenc ((-1) * (jlg 0))))]
def jpK_343 : List JC := [jzK_338, (101, [], [(-1), 0, 0, 0, 0, 0]), jgh, jgh, jgh, jgh, jgh, (130, [], [17, 18, 19, 20, 21, 22]), jgh, jgh, jgh, jgh, jgh, jgh, jgh, jgh, jgh, (100, [], (jenc (jlg 0))), jgh, jgh, jgh, jgh, jgh]
theorem jK_214_85 {xs : List Int} {d : Nat} : jT xs (d + 2) 214 23 0 [(0, (4, 0)), (1, (4, 1))] [] jpK_343 3 168 (fun k v hsN => k = 0 ∧ v = (4, 25) ∧ hsN = jpK_343 ++ [(100, [], (jenc 0)), (100, [], (jenc (-1))), (100, [], (jenc ((-1) * (jlg 0))))]) := by
  refine jT_advK 18 (pcN := 25) (LN := [(3, (0, 0)), (2, (4, 23)), (0, (4, 0)), (1, (4, 1))]) (stN := [(1, (-1)), (4, 23)]) (hsN := jpK_339) (c1 := 1) (s1 := 56) (c2 := 2) (s2 := 112) (by decide +kernel) ?_ (by omega) (by omega)
  refine jT_fA [] 24 (y := 178) (pcN := 28) (dC := 1) (bc1 := 1) (bc2 := 56) (c1 := 1) (c2 := 56) (as := [(1, (-1))]) (asC := [(1, (-1))]) (LN := [(3, (0, 0)), (2, (4, 23)), (0, (4, 0)), (1, (4, 1))]) (stN := [(4, 23)]) (hsC := []) (ex := [(100, [], (jenc (-1)))]) (v := (4, 0)) (st2 := [(4, 24), (4, 23)]) (hs2 := jpK_340) (jT_big (d := 0) (v := (-1)) (by omega) (by omega)) (by rfl) (by rfl) (by decide +kernel) (by rfl) (by rfl) (by omega) (by omega) (by omega) (by omega) rfl (by decide +kernel) ?_
  refine jT_advK 4 (pcN := 34) (LN := [(3, (0, 0)), (2, (4, 23)), (0, (4, 0)), (1, (4, 1))]) (stN := [(4, 17), (4, 24), (4, 23)]) (hsN := jpK_340) (c1 := 0) (s1 := 0) (c2 := 1) (s2 := 56) (by decide +kernel) ?_ (by omega) (by omega)
  refine jT_fA [24, 17] 25 (y := 179) (pcN := 37) (dC := 1) (bc1 := 1) (bc2 := 56) (c1 := 0) (c2 := 0) (as := [(4, 24), (4, 17)]) (asC := [(4, 0), (4, 1)]) (LN := [(3, (0, 0)), (2, (4, 23)), (0, (4, 0)), (1, (4, 1))]) (stN := [(4, 23)]) (hsC := [(100, [], (jenc (-1))), (100, [], (jenc (jlg 0)))]) (ex := [(100, [], (jenc ((-1) * (jlg 0))))]) (v := (4, 2)) (st2 := [(4, 25), (4, 23)]) (hs2 := jpK_341) (jT_product (d := 0) (a := (-1)) (b := jlg 0) (by decide +kernel) (by decide +kernel)) (by rfl) (by rfl) (by decide +kernel) (by rfl) (by rfl) (by omega) (by omega) (by omega) (by omega) rfl (by decide +kernel) ?_
  refine jT_eq (LN := [(3, (0, 0)), (2, (4, 23)), (0, (4, 0)), (1, (4, 1))]) (stN := [(4, 25), (4, 23)]) (hsN := [jzK_338, (101, [], [(-1), 0, 0, 0, 0, 0]), jgh, jgh, jgh, jgh, jgh, (130, [], [17, 18, 19, 20, 21, 22]), jgh, jgh, jgh, jgh, jgh, jgh, jgh, jgh, jgh, (100, [], (jenc (jlg 0))), jgh, jgh, jgh, jgh, jgh, (100, [], (jenc 0)), (100, [], (jenc (-1))), (100, [], (jenc ((-1) * (jlg 0))))]) rfl rfl (by show [jzK_338, (101, [], [(-1), 0, 0, 0, 0, 0]), jgh, jgh, jgh, jgh, jgh, (130, [], [17, 18, 19, 20, 21, 22]), jgh, jgh, jgh, jgh, jgh, jgh, jgh, jgh, jgh, (100, [], (jenc (jlg 0))), jgh, jgh, jgh, jgh, jgh, (100, [], List.replicate 56 0), (100, [], (jenc (-1))), (100, [], (jenc ((-1) * (jlg 0))))] = _; rw [jrep56e]) ?_
  refine jT_fR [23, 25] 26 (y := 181) (pcN := 40) (dC := 0) (bc1 := 0) (bc2 := 0) (c1 := 0) (c2 := 0) (as := [(4, 23), (4, 25)]) (asC := [(4, 0), (4, 1)]) (LN := [(3, (0, 0)), (2, (4, 23)), (0, (4, 0)), (1, (4, 1))]) (stN := []) (hsC := [(100, [], (jenc 0)), (100, [], (jenc ((-1) * (jlg 0))))]) (v := (4, 1)) (st2 := [(4, 25)]) (jT_added_0l (d := 0) (b := (-1) * (jlg 0))) (by rfl) (by rfl) (by decide +kernel) (by rfl) (by rfl) (by omega) (by omega) (by omega) (by omega) rfl ?_
  refine jT_advK 62 (pcN := 48) (LN := [(3, (0, 6)), (2, (4, 25)), (0, (4, 0)), (1, (4, 1))]) (stN := [(4, 25)]) (hsN := jpK_342) (c1 := 0) (s1 := 0) (c2 := 0) (s2 := 0) (by decide +kernel) ?_ (by omega) (by omega)
  exact jT_ret rfl (by decide) (by show 23 ≤ 26; omega) (by omega) (by omega) ⟨rfl, rfl, rfl⟩
theorem jK_213_86 {xs : List Int} {d : Nat} : jT xs (d + 3) 213 23 0 [(0, (4, 0)), (1, (4, 1))] [] jpK_343 3 168 (fun k v hsN => k = 0 ∧ v = (0, (-1)) ∧ hsN = jpK_343 ++ [(100, [], (jenc 0)), (100, [], (jenc (-1))), (100, [], (jenc ((-1) * (jlg 0))))]) := by
  refine jT_advK 1 (pcN := 1) (LN := [(0, (4, 0)), (1, (4, 1))]) (stN := [(4, 1)]) (hsN := jpK_343) (c1 := 0) (s1 := 0) (c2 := 3) (s2 := 168) (by decide +kernel) ?_ (by omega) (by omega)
  refine jT_fR [1] 23 (y := 200) (pcN := 4) (dC := 0) (bc1 := 0) (bc2 := 0) (c1 := 3) (c2 := 168) (as := [(4, 1)]) (asC := [(4, 0)]) (LN := [(0, (4, 0)), (1, (4, 1))]) (stN := []) (hsC := [(101, [], [(-1), 0, 0, 0, 0, 0])]) (v := (0, 0)) (st2 := [(0, 0)]) (jK_200_70 (d := 0)) (by rfl) (by rfl) (by decide +kernel) (by rfl) (by rfl) (by omega) (by omega) (by omega) (by omega) rfl ?_
  refine jT_advK 3 (pcN := 13) (LN := [(0, (4, 0)), (1, (4, 1))]) (stN := [(4, 1), (4, 0)]) (hsN := jpK_343) (c1 := 0) (s1 := 0) (c2 := 3) (s2 := 168) (by decide +kernel) ?_ (by omega) (by omega)
  refine jT_fA [0, 1, 2, 3, 4, 5, 6, 7, 8, 9, 10, 11, 12, 13, 14, 15, 16, 17, 18, 19, 20, 21, 22] 23 (y := 214) (pcN := 16) (dC := 2) (bc1 := 3) (bc2 := 168) (c1 := 0) (c2 := 0) (as := [(4, 0), (4, 1)]) (asC := [(4, 0), (4, 1)]) (LN := [(0, (4, 0)), (1, (4, 1))]) (stN := []) (hsC := jpK_343) (ex := [(100, [], (jenc 0)), (100, [], (jenc (-1))), (100, [], (jenc ((-1) * (jlg 0))))]) (v := (4, 25)) (st2 := [(4, 25)]) (hs2 := jpK_342) (jK_214_85 (d := 0)) (by rfl) (by rfl) (by decide +kernel) (by rfl) (by rfl) (by omega) (by omega) (by omega) (by omega) rfl (by decide +kernel) ?_
  refine jT_advK 1 (pcN := 17) (LN := [(0, (4, 0)), (1, (4, 1))]) (stN := [(0, 0), (4, 25)]) (hsN := jpK_342) (c1 := 0) (s1 := 0) (c2 := 0) (s2 := 0) (by decide +kernel) ?_ (by omega) (by omega)
  refine jT_iald (x := (-1)) (a := 25) (j := 0) (fs := []) (X := (jenc ((-1) * (jlg 0)))) (by rfl) (by rfl) (by rfl) (by rfl) (jenc_sg (by decide +kernel)) ?_
  refine jT_eq (LN := [(0, (4, 0)), (1, (4, 1))]) (stN := [(0, (-1))]) (hsN := jpK_342) rfl rfl rfl ?_
  exact jT_ret rfl (by decide) (by show 23 ≤ 26; omega) (by omega) (by omega) ⟨rfl, rfl, rfl⟩
def jpK_344 : List JC := [jzK_335, (101, [], [0, 0, 0, 0, 0, 0]), jgh, jgh, jgh, jgh, jgh, (130, [], [16, 17, 18, 19, 20, 21]), jgh, jgh, jgh, jgh, jgh, jgh, jgh, jgh, (100, [], (jenc (jlg 0))), jgh, jgh, jgh, jgh, jgh, (101, [], [(-1), 0, 0, 0, 0, 0])]
def jpK_345 : List JC := [jzK_335, (101, [], [0, 0, 0, 0, 0, 0]), jgh, jgh, jgh, jgh, jgh, (130, [], [16, 17, 18, 19, 20, 21]), jgh, jgh, jgh, jgh, jgh, jgh, jgh, jgh, (100, [], (jenc (jlg 0))), jgh, jgh, jgh, jgh, jgh, (101, [], [(-1), 0, 0, 0, 0, 0]), (100, [], (jenc 0)), (100, [], (jenc (-1))), (100, [], (jenc ((-1) * (jlg 0))))]
def jpK_346 : List JC := [jzK_335, (101, [], [0, 0, 0, 0, 0, 0]), jgh, jgh, jgh, jgh, jgh, (130, [], [16, 17, 18, 19, 20, 21]), jgh, jgh, jgh, jgh, jgh, jgh, jgh, jgh, (100, [], (jenc (jlg 0))), jgh, jgh, jgh, jgh, jgh]
theorem jK_212_87 {xs : List Int} {d : Nat} : jT xs (d + 4) 212 22 0 [(0, (4, 0)), (1, (4, 1)), (2, (1, 1))] [] jpK_346 4 174 (fun k v hsN => k = 0 ∧ v = (0, (-1)) ∧ hsN = jpK_346 ++ jpK_307) := by
  refine jT_advK 18 (pcN := 27) (LN := [(4, (4, 22)), (0, (4, 0)), (1, (4, 1)), (2, (1, 1))]) (stN := [(4, 22), (4, 0)]) (hsN := jpK_344) (c1 := 1) (s1 := 6) (c2 := 3) (s2 := 168) (by decide +kernel) ?_ (by omega) (by omega)
  refine jT_fA [0, 22, 2, 3, 4, 5, 6, 7, 1, 8, 9, 10, 11, 12, 13, 14, 15, 16, 17, 18, 19, 20, 21] 23 (y := 213) (pcN := 30) (dC := 3) (bc1 := 3) (bc2 := 168) (c1 := 0) (c2 := 0) (as := [(4, 0), (4, 22)]) (asC := [(4, 0), (4, 1)]) (LN := [(4, (4, 22)), (0, (4, 0)), (1, (4, 1)), (2, (1, 1))]) (stN := []) (hsC := jpK_343) (ex := [(100, [], (jenc 0)), (100, [], (jenc (-1))), (100, [], (jenc ((-1) * (jlg 0))))]) (v := (0, (-1))) (st2 := [(0, (-1))]) (hs2 := jpK_345) (jK_213_86 (d := 0)) (by rfl) (by rfl) (by decide +kernel) (by rfl) (by rfl) (by omega) (by omega) (by omega) (by omega) rfl (by decide +kernel) ?_
  exact jT_ret rfl (by decide) (by show 22 ≤ 26; omega) (by omega) (by omega) ⟨rfl, rfl, rfl⟩
def jpK_347 : List JC := [jzK_335, (101, [], [0, 0, 0, 0, 0, 0]), jgh, jgh, jgh, jgh, jgh, (130, [], [16, 17, 18, 19, 20, 21]), jgh, jgh, jgh, jgh, jgh, jgh, jgh, jgh, (100, [], (jenc (jlg 0))), jgh, jgh, jgh, jgh, jgh, (101, [], [0, 0, 0, 0, 0, 0])]
def jpK_348 : List JC := [jzK_335, (101, [], [0, 0, 0, 0, 0, 0]), jgh, jgh, jgh, jgh, jgh, (130, [], [16, 17, 18, 19, 20, 21]), jgh, jgh, jgh, jgh, jgh, jgh, jgh, jgh, (100, [], (jenc (jlg 0))), jgh, jgh, jgh, jgh, jgh, (101, [], [0, 0, 0, 0, 0, 0]), (101, [], [(-1), 0, 0, 0, 0, 0]), (100, [], (jenc 0)), (100, [], (jenc (-1))), (100, [], (jenc ((-1) * (jlg 0))))]
theorem jK_210_88 {xs : List Int} {d : Nat} : jT xs (d + 5) 210 22 0 [(0, (4, 0)), (1, (4, 1)), (2, (1, 1))] [] jpK_346 5 180 (fun k v hsN => k = 0 ∧ v = (1, 0) ∧ hsN = jpK_346 ++ jpK_310) := by
  refine jT_advK 1 (pcN := 1) (LN := [(0, (4, 0)), (1, (4, 1)), (2, (1, 1))]) (stN := [(4, 1)]) (hsN := jpK_346) (c1 := 0) (s1 := 0) (c2 := 5) (s2 := 180) (by decide +kernel) ?_ (by omega) (by omega)
  refine jT_fR [1] 22 (y := 211) (pcN := 4) (dC := 0) (bc1 := 0) (bc2 := 0) (c1 := 5) (c2 := 180) (as := [(4, 1)]) (asC := [(4, 0)]) (LN := [(0, (4, 0)), (1, (4, 1)), (2, (1, 1))]) (stN := []) (hsC := [(101, [], [0, 0, 0, 0, 0, 0])]) (v := (3, 0)) (st2 := [(3, 0)]) (jK_211_67 (d := 0)) (by rfl) (by rfl) (by decide +kernel) (by rfl) (by rfl) (by omega) (by omega) (by omega) (by omega) rfl ?_
  refine jT_advK 1 (pcN := 5) (LN := [(0, (4, 0)), (1, (4, 1)), (2, (1, 1))]) (stN := [(1, 1), (3, 0)]) (hsN := jpK_346) (c1 := 0) (s1 := 0) (c2 := 5) (s2 := 180) (by decide +kernel) ?_ (by omega) (by omega)
  refine jT_l2d (x := 1) (z := 4607182418800017408) (by rfl) (by rfl) (by decide +kernel) ?_
  refine jT_ddiv (x := 0) (y := 4607182418800017408) (z := 0) (by rfl) (by rfl) (by decide +kernel) ?_
  refine jT_d2l (x := 0) (z := 0) (by rfl) (by rfl) (by decide +kernel) ?_
  refine jT_advK 6 (pcN := 16) (LN := [(4, (1, 0)), (0, (4, 0)), (1, (4, 1)), (2, (1, 1))]) (stN := [(1, 0), (4, 1), (4, 0)]) (hsN := jpK_346) (c1 := 0) (s1 := 0) (c2 := 5) (s2 := 180) (by decide +kernel) ?_ (by omega) (by omega)
  refine jT_fA [0, 1, 2, 3, 4, 5, 6, 7, 8, 9, 10, 11, 12, 13, 14, 15] 22 (y := 212) (pcN := 19) (dC := 2) (bc1 := 1) (bc2 := 6) (c1 := 4) (c2 := 174) (as := [(4, 0), (4, 1), (1, 0)]) (asC := [(4, 0), (4, 1), (1, 0)]) (LN := [(4, (1, 0)), (0, (4, 0)), (1, (4, 1)), (2, (1, 1))]) (stN := []) (hsC := jpK_337) (ex := [(101, [], [0, 0, 0, 0, 0, 0])]) (v := (0, 0)) (st2 := [(0, 0)]) (hs2 := jpK_347) (jK_212_84 (d := 0)) (by rfl) (by rfl) (by decide +kernel) (by rfl) (by rfl) (by omega) (by omega) (by omega) (by omega) rfl (by decide +kernel) ?_
  refine jT_advK 8 (pcN := 39) (LN := [(4, (1, 0)), (0, (4, 0)), (1, (4, 1)), (2, (1, 1))]) (stN := [(1, 1), (4, 1), (4, 0)]) (hsN := jpK_347) (c1 := 0) (s1 := 0) (c2 := 4) (s2 := 174) (by decide +kernel) ?_ (by omega) (by omega)
  refine jT_fA [0, 1, 2, 3, 4, 5, 6, 7, 8, 9, 10, 11, 12, 13, 14, 15, 16, 17, 18, 19, 20, 21] 23 (y := 212) (pcN := 42) (dC := 4) (bc1 := 4) (bc2 := 174) (c1 := 0) (c2 := 0) (as := [(4, 0), (4, 1), (1, 1)]) (asC := [(4, 0), (4, 1), (1, 1)]) (LN := [(4, (1, 0)), (0, (4, 0)), (1, (4, 1)), (2, (1, 1))]) (stN := []) (hsC := jpK_346) (ex := jpK_307) (v := (0, (-1))) (st2 := [(0, (-1))]) (hs2 := jpK_348) (jK_212_87 (d := 0)) (by rfl) (by rfl) (by decide +kernel) (by rfl) (by rfl) (by omega) (by omega) (by omega) (by omega) rfl (by decide +kernel) ?_
  refine jT_advK 2 (pcN := 56) (LN := [(4, (1, 0)), (0, (4, 0)), (1, (4, 1)), (2, (1, 1))]) (stN := [(1, 0)]) (hsN := jpK_348) (c1 := 0) (s1 := 0) (c2 := 0) (s2 := 0) (by decide +kernel) ?_ (by omega) (by omega)
  exact jT_ret rfl (by decide) (by show 22 ≤ 27; omega) (by omega) (by omega) ⟨rfl, rfl, rfl⟩
def jpK_349 : List JC := [jzK_331, jgh, jgh, jgh, jgh, jgh, (130, [], [16, 17, 18, 19, 20, 21]), (101, [], [0, 0, 0, 0, 0, 0]), jgh, jgh, jgh, jgh, jgh, jgh, jgh, jgh, (100, [], (jenc (jlg 0))), jgh, jgh, jgh, jgh, jgh]
def jpK_350 : List JC := [jzK_331, jgh, jgh, jgh, jgh, jgh, (130, [], [16, 17, 18, 19, 20, 21]), (101, [], [0, 0, 0, 0, 0, 0]), jgh, jgh, jgh, jgh, jgh, jgh, jgh, jgh, (100, [], (jenc (jlg 0))), jgh, jgh, jgh, jgh, jgh, (101, [], [0, 0, 0, 0, 0, 0]), (101, [], [(-1), 0, 0, 0, 0, 0]), (100, [], (jenc 0)), (100, [], (jenc (-1))), (100, [], (jenc ((-1) * (jlg 0))))]
theorem jK_209_89 {xs : List Int} {d : Nat} : jT xs (d + 6) 209 22 0 [(0, (4, 0))] [] jpK_349 5 180 (fun k v hsN => k = 0 ∧ v = (1, 0) ∧ hsN = jpK_349 ++ jpK_310) := by
  refine jT_advK 5 (pcN := 9) (LN := [(0, (4, 0))]) (stN := [(1, 1), (4, 7), (4, 0)]) (hsN := jpK_349) (c1 := 0) (s1 := 0) (c2 := 5) (s2 := 180) (by decide +kernel) ?_ (by omega) (by omega)
  refine jT_fA [0, 7, 1, 2, 3, 4, 5, 6, 8, 9, 10, 11, 12, 13, 14, 15, 16, 17, 18, 19, 20, 21] 22 (y := 210) (pcN := 12) (dC := 5) (bc1 := 5) (bc2 := 180) (c1 := 0) (c2 := 0) (as := [(4, 0), (4, 7), (1, 1)]) (asC := [(4, 0), (4, 1), (1, 1)]) (LN := [(0, (4, 0))]) (stN := []) (hsC := jpK_346) (ex := jpK_310) (v := (1, 0)) (st2 := [(1, 0)]) (hs2 := jpK_350) (jK_210_88 (d := 0)) (by rfl) (by rfl) (by decide +kernel) (by rfl) (by rfl) (by omega) (by omega) (by omega) (by omega) rfl (by decide +kernel) ?_
  refine jT_advK 13 (pcN := 29) (LN := [(1, (1, 0)), (0, (4, 0))]) (stN := [(1, 0)]) (hsN := jpK_350) (c1 := 0) (s1 := 0) (c2 := 0) (s2 := 0) (by decide +kernel) ?_ (by omega) (by omega)
  exact jT_ret rfl (by decide) (by show 22 ≤ 27; omega) (by omega) (by omega) ⟨rfl, rfl, rfl⟩
theorem jK_205_90 {xs : List Int} {d : Nat} : jT xs (d + 1) 205 16 0 [(0, (4, 0))] [] jpK_334 0 0 (fun k v hsN => k = 0 ∧ v = (0, 1) ∧ hsN = jpK_334 ++ []) := by
  refine jT_advK 21 (pcN := 41) (LN := [(2, (0, 0)), (1, (0, 1)), (0, (4, 0))]) (stN := [(1, 5000), (1, (-5000)), (1, 0)]) (hsN := jpK_334) (c1 := 0) (s1 := 0) (c2 := 0) (s2 := 0) (by decide +kernel) ?_ (by omega) (by omega)
  refine jT_fR [] 16 (y := 189) (pcN := 44) (dC := 0) (bc1 := 0) (bc2 := 0) (c1 := 0) (c2 := 0) (as := [(1, 0), (1, (-5000)), (1, 5000)]) (asC := [(1, 0), (1, (-5000)), (1, 5000)]) (LN := [(2, (0, 0)), (1, (0, 1)), (0, (4, 0))]) (stN := []) (hsC := []) (v := (0, 1)) (st2 := [(0, 1)]) (jK_189_76 (d := 0)) (by rfl) (by rfl) (by decide +kernel) (by rfl) (by rfl) (by omega) (by omega) (by omega) (by omega) rfl ?_
  refine jT_advK 17 (pcN := 41) (LN := [(2, (0, 1)), (1, (0, 1)), (0, (4, 0))]) (stN := [(1, 5000), (1, (-5000)), (1, 0)]) (hsN := jpK_334) (c1 := 0) (s1 := 0) (c2 := 0) (s2 := 0) (by decide +kernel) ?_ (by omega) (by omega)
  refine jT_fR [] 16 (y := 189) (pcN := 44) (dC := 0) (bc1 := 0) (bc2 := 0) (c1 := 0) (c2 := 0) (as := [(1, 0), (1, (-5000)), (1, 5000)]) (asC := [(1, 0), (1, (-5000)), (1, 5000)]) (LN := [(2, (0, 1)), (1, (0, 1)), (0, (4, 0))]) (stN := []) (hsC := []) (v := (0, 1)) (st2 := [(0, 1)]) (jK_189_76 (d := 0)) (by rfl) (by rfl) (by decide +kernel) (by rfl) (by rfl) (by omega) (by omega) (by omega) (by omega) rfl ?_
  refine jT_advK 17 (pcN := 41) (LN := [(2, (0, 2)), (1, (0, 1)), (0, (4, 0))]) (stN := [(1, 5000), (1, (-5000)), (1, 0)]) (hsN := jpK_334) (c1 := 0) (s1 := 0) (c2 := 0) (s2 := 0) (by decide +kernel) ?_ (by omega) (by omega)
  refine jT_fR [] 16 (y := 189) (pcN := 44) (dC := 0) (bc1 := 0) (bc2 := 0) (c1 := 0) (c2 := 0) (as := [(1, 0), (1, (-5000)), (1, 5000)]) (asC := [(1, 0), (1, (-5000)), (1, 5000)]) (LN := [(2, (0, 2)), (1, (0, 1)), (0, (4, 0))]) (stN := []) (hsC := []) (v := (0, 1)) (st2 := [(0, 1)]) (jK_189_76 (d := 0)) (by rfl) (by rfl) (by decide +kernel) (by rfl) (by rfl) (by omega) (by omega) (by omega) (by omega) rfl ?_
  refine jT_advK 17 (pcN := 41) (LN := [(2, (0, 3)), (1, (0, 1)), (0, (4, 0))]) (stN := [(1, 5000), (1, (-5000)), (1, 0)]) (hsN := jpK_334) (c1 := 0) (s1 := 0) (c2 := 0) (s2 := 0) (by decide +kernel) ?_ (by omega) (by omega)
  refine jT_fR [] 16 (y := 189) (pcN := 44) (dC := 0) (bc1 := 0) (bc2 := 0) (c1 := 0) (c2 := 0) (as := [(1, 0), (1, (-5000)), (1, 5000)]) (asC := [(1, 0), (1, (-5000)), (1, 5000)]) (LN := [(2, (0, 3)), (1, (0, 1)), (0, (4, 0))]) (stN := []) (hsC := []) (v := (0, 1)) (st2 := [(0, 1)]) (jK_189_76 (d := 0)) (by rfl) (by rfl) (by decide +kernel) (by rfl) (by rfl) (by omega) (by omega) (by omega) (by omega) rfl ?_
  refine jT_advK 17 (pcN := 41) (LN := [(2, (0, 4)), (1, (0, 1)), (0, (4, 0))]) (stN := [(1, 5000), (1, (-5000)), (1, 0)]) (hsN := jpK_334) (c1 := 0) (s1 := 0) (c2 := 0) (s2 := 0) (by decide +kernel) ?_ (by omega) (by omega)
  refine jT_fR [] 16 (y := 189) (pcN := 44) (dC := 0) (bc1 := 0) (bc2 := 0) (c1 := 0) (c2 := 0) (as := [(1, 0), (1, (-5000)), (1, 5000)]) (asC := [(1, 0), (1, (-5000)), (1, 5000)]) (LN := [(2, (0, 4)), (1, (0, 1)), (0, (4, 0))]) (stN := []) (hsC := []) (v := (0, 1)) (st2 := [(0, 1)]) (jK_189_76 (d := 0)) (by rfl) (by rfl) (by decide +kernel) (by rfl) (by rfl) (by omega) (by omega) (by omega) (by omega) rfl ?_
  refine jT_advK 17 (pcN := 41) (LN := [(2, (0, 5)), (1, (0, 1)), (0, (4, 0))]) (stN := [(1, 5000), (1, (-5000)), (1, 0)]) (hsN := jpK_334) (c1 := 0) (s1 := 0) (c2 := 0) (s2 := 0) (by decide +kernel) ?_ (by omega) (by omega)
  refine jT_fR [] 16 (y := 189) (pcN := 44) (dC := 0) (bc1 := 0) (bc2 := 0) (c1 := 0) (c2 := 0) (as := [(1, 0), (1, (-5000)), (1, 5000)]) (asC := [(1, 0), (1, (-5000)), (1, 5000)]) (LN := [(2, (0, 5)), (1, (0, 1)), (0, (4, 0))]) (stN := []) (hsC := []) (v := (0, 1)) (st2 := [(0, 1)]) (jK_189_76 (d := 0)) (by rfl) (by rfl) (by decide +kernel) (by rfl) (by rfl) (by omega) (by omega) (by omega) (by omega) rfl ?_
  refine jT_advK 10 (pcN := 60) (LN := [(2, (0, 6)), (1, (0, 1)), (0, (4, 0))]) (stN := [(0, 1)]) (hsN := jpK_334) (c1 := 0) (s1 := 0) (c2 := 0) (s2 := 0) (by decide +kernel) ?_ (by omega) (by omega)
  exact jT_ret rfl (by decide) (by show 16 ≤ 16; omega) (by omega) (by omega) ⟨rfl, rfl, rfl⟩
def jzK_351 : JC := (14, [(0, 0), (4, 2), (4, 3), (4, 4), (4, 5), (0, 0), (4, 6), (0, 0), (4, 7), (4, 8), (1, 1), (4, 1), (0, 1), (4, 9), (0, 0), (0, 0), (0, 0), (0, 0), (0, 0), (0, 0), (0, 0), (4, 10), (4, 11), (4, 12), (4, 13), (4, 14), (4, 15), (0, 0)], [])
def jpK_352 : List JC := [jzK_351, jzK_327, jgh, jgh, jgh, jgh, jgh, jgh, (101, [], [0, 0, 0, 0, 0, 0]), jgh, jgh, jgh, jgh, jgh, jgh, jgh, (101, [], [0, 0, 0, 0, 0, 0])]
theorem jIK_240_30 : jmI (jm 240) 30 = (.iaload, 1) := by rfl
theorem jIK_240_38 : jmI (jm 240) 38 = (.iaload, 1) := by rfl
def jpK_355 : List JC := [jzK_351, jzK_327, jgh, jgh, jgh, jgh, jgh, jgh, (101, [], [0, 0, 0, 0, 0, 0]), jgh, jgh, jgh, jgh, jgh, jgh, jgh]
theorem jK_240_91 {xs : List Int} {d : Nat} : jT xs (d + 2) 240 16 0 [(0, (4, 0)), (1, (4, 1)), (2, (0, 0))] [] jpK_355 1 6 (fun k v hsN => k = 0 ∧ v = (0, 0) ∧ hsN = jpK_355 ++ [(101, [], [0, 0, 0, 0, 0, 0])]) := by
  refine jT_advK 18 (pcN := 30) (LN := [(4, (0, 0)), (3, (4, 16)), (0, (4, 0)), (1, (4, 1)), (2, (0, 0))]) (stN := [(0, 6), (4, 1), (1, 0), (0, 0), (4, 16)]) (hsN := jpK_352) (c1 := 1) (s1 := 6) (c2 := 0) (s2 := 0) (by decide +kernel) ?_ (by omega) (by omega)
  refine jT_iald (x := 1) (a := 1) (j := 6) (fs := []) (X := (((((((((((((((List.replicate 1792 0)).set 0 0)).set 1 0)).set 2 0)).set 3 0)).set 4 0)).set 5 0)).set 6 1)) (by rfl) (by rfl) (by rfl) (by rfl) (by rw [List.getElem?_set_self (by simp only [List.length_set, List.length_replicate, List.length_cons, List.length_nil, jS0_len]; omega)]) ?_
  refine jT_eq (LN := [(4, (0, 0)), (3, (4, 16)), (0, (4, 0)), (1, (4, 1)), (2, (0, 0))]) (stN := [(0, 1), (1, 0), (0, 0), (4, 16)]) (hsN := jpK_352) rfl rfl rfl ?_
  refine jT_advK 6 (pcN := 38) (LN := [(4, (0, 0)), (3, (4, 16)), (0, (4, 0)), (1, (4, 1)), (2, (0, 0))]) (stN := [(0, 0), (4, 1), (1, 0), (0, 0), (4, 16)]) (hsN := jpK_352) (c1 := 0) (s1 := 0) (c2 := 0) (s2 := 0) (by decide +kernel) ?_ (by omega) (by omega)
  refine jT_iald (x := 0) (a := 1) (j := 0) (fs := []) (X := (((((((((((((((List.replicate 1792 0)).set 0 0)).set 1 0)).set 2 0)).set 3 0)).set 4 0)).set 5 0)).set 6 1)) (by rfl) (by rfl) (by rfl) (by rfl) (by rw [List.getElem?_set_ne (by omega), List.getElem?_set_ne (by omega), List.getElem?_set_ne (by omega), List.getElem?_set_ne (by omega), List.getElem?_set_ne (by omega), List.getElem?_set_ne (by omega), List.getElem?_set_self (by simp only [List.length_set, List.length_replicate, List.length_cons, List.length_nil, jS0_len]; omega)]) ?_
  refine jT_eq (LN := [(4, (0, 0)), (3, (4, 16)), (0, (4, 0)), (1, (4, 1)), (2, (0, 0))]) (stN := [(0, 0), (1, 0), (0, 0), (4, 16)]) (hsN := jpK_352) rfl rfl rfl ?_
  refine jT_advK 21 (pcN := 30) (LN := [(4, (0, 1)), (3, (4, 16)), (0, (4, 0)), (1, (4, 1)), (2, (0, 0))]) (stN := [(0, 6), (4, 1), (1, 0), (0, 1), (4, 16)]) (hsN := jpK_352) (c1 := 0) (s1 := 0) (c2 := 0) (s2 := 0) (by decide +kernel) ?_ (by omega) (by omega)
  refine jT_iald (x := 1) (a := 1) (j := 6) (fs := []) (X := (((((((((((((((List.replicate 1792 0)).set 0 0)).set 1 0)).set 2 0)).set 3 0)).set 4 0)).set 5 0)).set 6 1)) (by rfl) (by rfl) (by rfl) (by rfl) (by rw [List.getElem?_set_self (by simp only [List.length_set, List.length_replicate, List.length_cons, List.length_nil, jS0_len]; omega)]) ?_
  refine jT_eq (LN := [(4, (0, 1)), (3, (4, 16)), (0, (4, 0)), (1, (4, 1)), (2, (0, 0))]) (stN := [(0, 1), (1, 0), (0, 1), (4, 16)]) (hsN := jpK_352) rfl rfl rfl ?_
  refine jT_advK 6 (pcN := 38) (LN := [(4, (0, 1)), (3, (4, 16)), (0, (4, 0)), (1, (4, 1)), (2, (0, 0))]) (stN := [(0, 1), (4, 1), (1, 0), (0, 1), (4, 16)]) (hsN := jpK_352) (c1 := 0) (s1 := 0) (c2 := 0) (s2 := 0) (by decide +kernel) ?_ (by omega) (by omega)
  refine jT_iald (x := 0) (a := 1) (j := 1) (fs := []) (X := (((((((((((((((List.replicate 1792 0)).set 0 0)).set 1 0)).set 2 0)).set 3 0)).set 4 0)).set 5 0)).set 6 1)) (by rfl) (by rfl) (by rfl) (by rfl) (by rw [List.getElem?_set_ne (by omega), List.getElem?_set_ne (by omega), List.getElem?_set_ne (by omega), List.getElem?_set_ne (by omega), List.getElem?_set_ne (by omega), List.getElem?_set_self (by simp only [List.length_set, List.length_replicate, List.length_cons, List.length_nil, jS0_len]; omega)]) ?_
  refine jT_eq (LN := [(4, (0, 1)), (3, (4, 16)), (0, (4, 0)), (1, (4, 1)), (2, (0, 0))]) (stN := [(0, 0), (1, 0), (0, 1), (4, 16)]) (hsN := jpK_352) rfl rfl rfl ?_
  refine jT_advK 21 (pcN := 30) (LN := [(4, (0, 2)), (3, (4, 16)), (0, (4, 0)), (1, (4, 1)), (2, (0, 0))]) (stN := [(0, 6), (4, 1), (1, 0), (0, 2), (4, 16)]) (hsN := jpK_352) (c1 := 0) (s1 := 0) (c2 := 0) (s2 := 0) (by decide +kernel) ?_ (by omega) (by omega)
  refine jT_iald (x := 1) (a := 1) (j := 6) (fs := []) (X := (((((((((((((((List.replicate 1792 0)).set 0 0)).set 1 0)).set 2 0)).set 3 0)).set 4 0)).set 5 0)).set 6 1)) (by rfl) (by rfl) (by rfl) (by rfl) (by rw [List.getElem?_set_self (by simp only [List.length_set, List.length_replicate, List.length_cons, List.length_nil, jS0_len]; omega)]) ?_
  refine jT_eq (LN := [(4, (0, 2)), (3, (4, 16)), (0, (4, 0)), (1, (4, 1)), (2, (0, 0))]) (stN := [(0, 1), (1, 0), (0, 2), (4, 16)]) (hsN := jpK_352) rfl rfl rfl ?_
  refine jT_advK 6 (pcN := 38) (LN := [(4, (0, 2)), (3, (4, 16)), (0, (4, 0)), (1, (4, 1)), (2, (0, 0))]) (stN := [(0, 2), (4, 1), (1, 0), (0, 2), (4, 16)]) (hsN := jpK_352) (c1 := 0) (s1 := 0) (c2 := 0) (s2 := 0) (by decide +kernel) ?_ (by omega) (by omega)
  refine jT_iald (x := 0) (a := 1) (j := 2) (fs := []) (X := (((((((((((((((List.replicate 1792 0)).set 0 0)).set 1 0)).set 2 0)).set 3 0)).set 4 0)).set 5 0)).set 6 1)) (by rfl) (by rfl) (by rfl) (by rfl) (by rw [List.getElem?_set_ne (by omega), List.getElem?_set_ne (by omega), List.getElem?_set_ne (by omega), List.getElem?_set_ne (by omega), List.getElem?_set_self (by simp only [List.length_set, List.length_replicate, List.length_cons, List.length_nil, jS0_len]; omega)]) ?_
  refine jT_eq (LN := [(4, (0, 2)), (3, (4, 16)), (0, (4, 0)), (1, (4, 1)), (2, (0, 0))]) (stN := [(0, 0), (1, 0), (0, 2), (4, 16)]) (hsN := jpK_352) rfl rfl rfl ?_
  refine jT_advK 21 (pcN := 30) (LN := [(4, (0, 3)), (3, (4, 16)), (0, (4, 0)), (1, (4, 1)), (2, (0, 0))]) (stN := [(0, 6), (4, 1), (1, 0), (0, 3), (4, 16)]) (hsN := jpK_352) (c1 := 0) (s1 := 0) (c2 := 0) (s2 := 0) (by decide +kernel) ?_ (by omega) (by omega)
  refine jT_iald (x := 1) (a := 1) (j := 6) (fs := []) (X := (((((((((((((((List.replicate 1792 0)).set 0 0)).set 1 0)).set 2 0)).set 3 0)).set 4 0)).set 5 0)).set 6 1)) (by rfl) (by rfl) (by rfl) (by rfl) (by rw [List.getElem?_set_self (by simp only [List.length_set, List.length_replicate, List.length_cons, List.length_nil, jS0_len]; omega)]) ?_
  refine jT_eq (LN := [(4, (0, 3)), (3, (4, 16)), (0, (4, 0)), (1, (4, 1)), (2, (0, 0))]) (stN := [(0, 1), (1, 0), (0, 3), (4, 16)]) (hsN := jpK_352) rfl rfl rfl ?_
  refine jT_advK 6 (pcN := 38) (LN := [(4, (0, 3)), (3, (4, 16)), (0, (4, 0)), (1, (4, 1)), (2, (0, 0))]) (stN := [(0, 3), (4, 1), (1, 0), (0, 3), (4, 16)]) (hsN := jpK_352) (c1 := 0) (s1 := 0) (c2 := 0) (s2 := 0) (by decide +kernel) ?_ (by omega) (by omega)
  refine jT_iald (x := 0) (a := 1) (j := 3) (fs := []) (X := (((((((((((((((List.replicate 1792 0)).set 0 0)).set 1 0)).set 2 0)).set 3 0)).set 4 0)).set 5 0)).set 6 1)) (by rfl) (by rfl) (by rfl) (by rfl) (by rw [List.getElem?_set_ne (by omega), List.getElem?_set_ne (by omega), List.getElem?_set_ne (by omega), List.getElem?_set_self (by simp only [List.length_set, List.length_replicate, List.length_cons, List.length_nil, jS0_len]; omega)]) ?_
  refine jT_eq (LN := [(4, (0, 3)), (3, (4, 16)), (0, (4, 0)), (1, (4, 1)), (2, (0, 0))]) (stN := [(0, 0), (1, 0), (0, 3), (4, 16)]) (hsN := jpK_352) rfl rfl rfl ?_
  refine jT_advK 21 (pcN := 30) (LN := [(4, (0, 4)), (3, (4, 16)), (0, (4, 0)), (1, (4, 1)), (2, (0, 0))]) (stN := [(0, 6), (4, 1), (1, 0), (0, 4), (4, 16)]) (hsN := jpK_352) (c1 := 0) (s1 := 0) (c2 := 0) (s2 := 0) (by decide +kernel) ?_ (by omega) (by omega)
  refine jT_iald (x := 1) (a := 1) (j := 6) (fs := []) (X := (((((((((((((((List.replicate 1792 0)).set 0 0)).set 1 0)).set 2 0)).set 3 0)).set 4 0)).set 5 0)).set 6 1)) (by rfl) (by rfl) (by rfl) (by rfl) (by rw [List.getElem?_set_self (by simp only [List.length_set, List.length_replicate, List.length_cons, List.length_nil, jS0_len]; omega)]) ?_
  refine jT_eq (LN := [(4, (0, 4)), (3, (4, 16)), (0, (4, 0)), (1, (4, 1)), (2, (0, 0))]) (stN := [(0, 1), (1, 0), (0, 4), (4, 16)]) (hsN := jpK_352) rfl rfl rfl ?_
  refine jT_advK 6 (pcN := 38) (LN := [(4, (0, 4)), (3, (4, 16)), (0, (4, 0)), (1, (4, 1)), (2, (0, 0))]) (stN := [(0, 4), (4, 1), (1, 0), (0, 4), (4, 16)]) (hsN := jpK_352) (c1 := 0) (s1 := 0) (c2 := 0) (s2 := 0) (by decide +kernel) ?_ (by omega) (by omega)
  refine jT_iald (x := 0) (a := 1) (j := 4) (fs := []) (X := (((((((((((((((List.replicate 1792 0)).set 0 0)).set 1 0)).set 2 0)).set 3 0)).set 4 0)).set 5 0)).set 6 1)) (by rfl) (by rfl) (by rfl) (by rfl) (by rw [List.getElem?_set_ne (by omega), List.getElem?_set_ne (by omega), List.getElem?_set_self (by simp only [List.length_set, List.length_replicate, List.length_cons, List.length_nil, jS0_len]; omega)]) ?_
  refine jT_eq (LN := [(4, (0, 4)), (3, (4, 16)), (0, (4, 0)), (1, (4, 1)), (2, (0, 0))]) (stN := [(0, 0), (1, 0), (0, 4), (4, 16)]) (hsN := jpK_352) rfl rfl rfl ?_
  refine jT_advK 21 (pcN := 30) (LN := [(4, (0, 5)), (3, (4, 16)), (0, (4, 0)), (1, (4, 1)), (2, (0, 0))]) (stN := [(0, 6), (4, 1), (1, 0), (0, 5), (4, 16)]) (hsN := jpK_352) (c1 := 0) (s1 := 0) (c2 := 0) (s2 := 0) (by decide +kernel) ?_ (by omega) (by omega)
  refine jT_iald (x := 1) (a := 1) (j := 6) (fs := []) (X := (((((((((((((((List.replicate 1792 0)).set 0 0)).set 1 0)).set 2 0)).set 3 0)).set 4 0)).set 5 0)).set 6 1)) (by rfl) (by rfl) (by rfl) (by rfl) (by rw [List.getElem?_set_self (by simp only [List.length_set, List.length_replicate, List.length_cons, List.length_nil, jS0_len]; omega)]) ?_
  refine jT_eq (LN := [(4, (0, 5)), (3, (4, 16)), (0, (4, 0)), (1, (4, 1)), (2, (0, 0))]) (stN := [(0, 1), (1, 0), (0, 5), (4, 16)]) (hsN := jpK_352) rfl rfl rfl ?_
  refine jT_advK 6 (pcN := 38) (LN := [(4, (0, 5)), (3, (4, 16)), (0, (4, 0)), (1, (4, 1)), (2, (0, 0))]) (stN := [(0, 5), (4, 1), (1, 0), (0, 5), (4, 16)]) (hsN := jpK_352) (c1 := 0) (s1 := 0) (c2 := 0) (s2 := 0) (by decide +kernel) ?_ (by omega) (by omega)
  refine jT_iald (x := 0) (a := 1) (j := 5) (fs := []) (X := (((((((((((((((List.replicate 1792 0)).set 0 0)).set 1 0)).set 2 0)).set 3 0)).set 4 0)).set 5 0)).set 6 1)) (by rfl) (by rfl) (by rfl) (by rfl) (by rw [List.getElem?_set_ne (by omega), List.getElem?_set_self (by simp only [List.length_set, List.length_replicate, List.length_cons, List.length_nil, jS0_len]; omega)]) ?_
  refine jT_eq (LN := [(4, (0, 5)), (3, (4, 16)), (0, (4, 0)), (1, (4, 1)), (2, (0, 0))]) (stN := [(0, 0), (1, 0), (0, 5), (4, 16)]) (hsN := jpK_352) rfl rfl rfl ?_
  refine jT_advK 13 (pcN := 55) (LN := [(4, (0, 6)), (3, (4, 16)), (0, (4, 0)), (1, (4, 1)), (2, (0, 0))]) (stN := [(4, 16), (4, 0)]) (hsN := jpK_352) (c1 := 0) (s1 := 0) (c2 := 0) (s2 := 0) (by decide +kernel) ?_ (by omega) (by omega)
  refine jT_fR [0, 16] 17 (y := 213) (pcN := 58) (dC := 1) (bc1 := 0) (bc2 := 0) (c1 := 0) (c2 := 0) (as := [(4, 0), (4, 16)]) (asC := [(4, 0), (4, 1)]) (LN := [(4, (0, 6)), (3, (4, 16)), (0, (4, 0)), (1, (4, 1)), (2, (0, 0))]) (stN := []) (hsC := [jgh, (101, [], [0, 0, 0, 0, 0, 0])]) (v := (0, 0)) (st2 := [(0, 0)]) (jK_213_68 (d := 0)) (by rfl) (by rfl) (by decide +kernel) (by rfl) (by rfl) (by omega) (by omega) (by omega) (by omega) rfl ?_
  exact jT_ret rfl (by decide) (by show 16 ≤ 17; omega) (by omega) (by omega) ⟨rfl, rfl, rfl⟩
theorem jIK_236_9 : jmI (jm 236) 9 = (.iaload, 1) := by rfl
theorem jIK_236_47 : jmI (jm 236) 47 = (.iaload, 1) := by rfl
theorem jK_236_92 {xs : List Int} {d : Nat} : jT xs d 236 16 0 [(0, (4, 0)), (1, (4, 1)), (2, (0, 0))] [] jpK_355 0 0 (fun k v hsN => k = 0 ∧ v = (0, 1) ∧ hsN = jpK_355 ++ []) := by
  refine jT_advK 6 (pcN := 9) (LN := [(0, (4, 0)), (1, (4, 1)), (2, (0, 0))]) (stN := [(0, 6), (4, 1), (1, 1)]) (hsN := jpK_355) (c1 := 0) (s1 := 0) (c2 := 0) (s2 := 0) (by decide +kernel) ?_ (by omega) (by omega)
  refine jT_iald (x := 1) (a := 1) (j := 6) (fs := []) (X := (((((((((((((((List.replicate 1792 0)).set 0 0)).set 1 0)).set 2 0)).set 3 0)).set 4 0)).set 5 0)).set 6 1)) (by rfl) (by rfl) (by rfl) (by rfl) (by rw [List.getElem?_set_self (by simp only [List.length_set, List.length_replicate, List.length_cons, List.length_nil, jS0_len]; omega)]) ?_
  refine jT_eq (LN := [(0, (4, 0)), (1, (4, 1)), (2, (0, 0))]) (stN := [(0, 1), (1, 1)]) (hsN := jpK_355) rfl rfl rfl ?_
  refine jT_advK 21 (pcN := 47) (LN := [(4, (0, 0)), (3, (0, 1)), (0, (4, 0)), (1, (4, 1)), (2, (0, 0))]) (stN := [(0, 0), (4, 1), (1, 0)]) (hsN := jpK_355) (c1 := 0) (s1 := 0) (c2 := 0) (s2 := 0) (by decide +kernel) ?_ (by omega) (by omega)
  refine jT_iald (x := 0) (a := 1) (j := 0) (fs := []) (X := (((((((((((((((List.replicate 1792 0)).set 0 0)).set 1 0)).set 2 0)).set 3 0)).set 4 0)).set 5 0)).set 6 1)) (by rfl) (by rfl) (by rfl) (by rfl) (by rw [List.getElem?_set_ne (by omega), List.getElem?_set_ne (by omega), List.getElem?_set_ne (by omega), List.getElem?_set_ne (by omega), List.getElem?_set_ne (by omega), List.getElem?_set_ne (by omega), List.getElem?_set_self (by simp only [List.length_set, List.length_replicate, List.length_cons, List.length_nil, jS0_len]; omega)]) ?_
  refine jT_eq (LN := [(4, (0, 0)), (3, (0, 1)), (0, (4, 0)), (1, (4, 1)), (2, (0, 0))]) (stN := [(0, 0), (1, 0)]) (hsN := jpK_355) rfl rfl rfl ?_
  refine jT_advK 21 (pcN := 47) (LN := [(4, (0, 1)), (3, (0, 1)), (0, (4, 0)), (1, (4, 1)), (2, (0, 0))]) (stN := [(0, 1), (4, 1), (1, 0)]) (hsN := jpK_355) (c1 := 0) (s1 := 0) (c2 := 0) (s2 := 0) (by decide +kernel) ?_ (by omega) (by omega)
  refine jT_iald (x := 0) (a := 1) (j := 1) (fs := []) (X := (((((((((((((((List.replicate 1792 0)).set 0 0)).set 1 0)).set 2 0)).set 3 0)).set 4 0)).set 5 0)).set 6 1)) (by rfl) (by rfl) (by rfl) (by rfl) (by rw [List.getElem?_set_ne (by omega), List.getElem?_set_ne (by omega), List.getElem?_set_ne (by omega), List.getElem?_set_ne (by omega), List.getElem?_set_ne (by omega), List.getElem?_set_self (by simp only [List.length_set, List.length_replicate, List.length_cons, List.length_nil, jS0_len]; omega)]) ?_
  refine jT_eq (LN := [(4, (0, 1)), (3, (0, 1)), (0, (4, 0)), (1, (4, 1)), (2, (0, 0))]) (stN := [(0, 0), (1, 0)]) (hsN := jpK_355) rfl rfl rfl ?_
  refine jT_advK 21 (pcN := 47) (LN := [(4, (0, 2)), (3, (0, 1)), (0, (4, 0)), (1, (4, 1)), (2, (0, 0))]) (stN := [(0, 2), (4, 1), (1, 0)]) (hsN := jpK_355) (c1 := 0) (s1 := 0) (c2 := 0) (s2 := 0) (by decide +kernel) ?_ (by omega) (by omega)
  refine jT_iald (x := 0) (a := 1) (j := 2) (fs := []) (X := (((((((((((((((List.replicate 1792 0)).set 0 0)).set 1 0)).set 2 0)).set 3 0)).set 4 0)).set 5 0)).set 6 1)) (by rfl) (by rfl) (by rfl) (by rfl) (by rw [List.getElem?_set_ne (by omega), List.getElem?_set_ne (by omega), List.getElem?_set_ne (by omega), List.getElem?_set_ne (by omega), List.getElem?_set_self (by simp only [List.length_set, List.length_replicate, List.length_cons, List.length_nil, jS0_len]; omega)]) ?_
  refine jT_eq (LN := [(4, (0, 2)), (3, (0, 1)), (0, (4, 0)), (1, (4, 1)), (2, (0, 0))]) (stN := [(0, 0), (1, 0)]) (hsN := jpK_355) rfl rfl rfl ?_
  refine jT_advK 21 (pcN := 47) (LN := [(4, (0, 3)), (3, (0, 1)), (0, (4, 0)), (1, (4, 1)), (2, (0, 0))]) (stN := [(0, 3), (4, 1), (1, 0)]) (hsN := jpK_355) (c1 := 0) (s1 := 0) (c2 := 0) (s2 := 0) (by decide +kernel) ?_ (by omega) (by omega)
  refine jT_iald (x := 0) (a := 1) (j := 3) (fs := []) (X := (((((((((((((((List.replicate 1792 0)).set 0 0)).set 1 0)).set 2 0)).set 3 0)).set 4 0)).set 5 0)).set 6 1)) (by rfl) (by rfl) (by rfl) (by rfl) (by rw [List.getElem?_set_ne (by omega), List.getElem?_set_ne (by omega), List.getElem?_set_ne (by omega), List.getElem?_set_self (by simp only [List.length_set, List.length_replicate, List.length_cons, List.length_nil, jS0_len]; omega)]) ?_
  refine jT_eq (LN := [(4, (0, 3)), (3, (0, 1)), (0, (4, 0)), (1, (4, 1)), (2, (0, 0))]) (stN := [(0, 0), (1, 0)]) (hsN := jpK_355) rfl rfl rfl ?_
  refine jT_advK 21 (pcN := 47) (LN := [(4, (0, 4)), (3, (0, 1)), (0, (4, 0)), (1, (4, 1)), (2, (0, 0))]) (stN := [(0, 4), (4, 1), (1, 0)]) (hsN := jpK_355) (c1 := 0) (s1 := 0) (c2 := 0) (s2 := 0) (by decide +kernel) ?_ (by omega) (by omega)
  refine jT_iald (x := 0) (a := 1) (j := 4) (fs := []) (X := (((((((((((((((List.replicate 1792 0)).set 0 0)).set 1 0)).set 2 0)).set 3 0)).set 4 0)).set 5 0)).set 6 1)) (by rfl) (by rfl) (by rfl) (by rfl) (by rw [List.getElem?_set_ne (by omega), List.getElem?_set_ne (by omega), List.getElem?_set_self (by simp only [List.length_set, List.length_replicate, List.length_cons, List.length_nil, jS0_len]; omega)]) ?_
  refine jT_eq (LN := [(4, (0, 4)), (3, (0, 1)), (0, (4, 0)), (1, (4, 1)), (2, (0, 0))]) (stN := [(0, 0), (1, 0)]) (hsN := jpK_355) rfl rfl rfl ?_
  refine jT_advK 21 (pcN := 47) (LN := [(4, (0, 5)), (3, (0, 1)), (0, (4, 0)), (1, (4, 1)), (2, (0, 0))]) (stN := [(0, 5), (4, 1), (1, 0)]) (hsN := jpK_355) (c1 := 0) (s1 := 0) (c2 := 0) (s2 := 0) (by decide +kernel) ?_ (by omega) (by omega)
  refine jT_iald (x := 0) (a := 1) (j := 5) (fs := []) (X := (((((((((((((((List.replicate 1792 0)).set 0 0)).set 1 0)).set 2 0)).set 3 0)).set 4 0)).set 5 0)).set 6 1)) (by rfl) (by rfl) (by rfl) (by rfl) (by rw [List.getElem?_set_ne (by omega), List.getElem?_set_self (by simp only [List.length_set, List.length_replicate, List.length_cons, List.length_nil, jS0_len]; omega)]) ?_
  refine jT_eq (LN := [(4, (0, 5)), (3, (0, 1)), (0, (4, 0)), (1, (4, 1)), (2, (0, 0))]) (stN := [(0, 0), (1, 0)]) (hsN := jpK_355) rfl rfl rfl ?_
  refine jT_advK 12 (pcN := 66) (LN := [(4, (0, 6)), (3, (0, 1)), (0, (4, 0)), (1, (4, 1)), (2, (0, 0))]) (stN := [(0, 1)]) (hsN := jpK_355) (c1 := 0) (s1 := 0) (c2 := 0) (s2 := 0) (by decide +kernel) ?_ (by omega) (by omega)
  exact jT_ret rfl (by decide) (by show 16 ≤ 16; omega) (by omega) (by omega) ⟨rfl, rfl, rfl⟩
def jpK_358 : List JC := [jzK_331, jgh, jgh, jgh, jgh, jgh, jgh, (101, [], [0, 0, 0, 0, 0, 0]), jzK_327, jgh, jgh, jgh, jgh, jgh, jgh, jgh, (101, [], [0, 0, 0, 0, 0, 0])]
theorem jK_239_93 {xs : List Int} {d : Nat} : jT xs (d + 3) 239 16 0 [(0, (4, 0))] [] jpK_332 1 6 (fun k v hsN => k = 0 ∧ v = (9, 0) ∧ hsN = jpK_332 ++ [(101, [], [0, 0, 0, 0, 0, 0])]) := by
  refine jT_advK 12 (pcN := 19) (LN := [(1, (0, 0)), (0, (4, 0))]) (stN := [(0, 0), (4, 8), (4, 0)]) (hsN := jpK_332) (c1 := 0) (s1 := 0) (c2 := 1) (s2 := 6) (by decide +kernel) ?_ (by omega) (by omega)
  refine jT_fA [0, 8, 1, 2, 3, 4, 5, 6, 7, 9, 10, 11, 12, 13, 14, 15] 16 (y := 240) (pcN := 22) (dC := 2) (bc1 := 1) (bc2 := 6) (c1 := 0) (c2 := 0) (as := [(4, 0), (4, 8), (0, 0)]) (asC := [(4, 0), (4, 1), (0, 0)]) (LN := [(1, (0, 0)), (0, (4, 0))]) (stN := []) (hsC := jpK_355) (ex := [(101, [], [0, 0, 0, 0, 0, 0])]) (v := (0, 0)) (st2 := [(0, 0)]) (hs2 := jpK_358) (jK_240_91 (d := 0)) (by rfl) (by rfl) (by decide +kernel) (by rfl) (by rfl) (by omega) (by omega) (by omega) (by omega) rfl (by decide +kernel) ?_
  refine jT_advK 11 (pcN := 48) (LN := [(1, (0, 0)), (0, (4, 0))]) (stN := [(0, 0), (4, 8), (4, 0)]) (hsN := jpK_358) (c1 := 0) (s1 := 0) (c2 := 0) (s2 := 0) (by decide +kernel) ?_ (by omega) (by omega)
  refine jT_fR [0, 8, 1, 2, 3, 4, 5, 6, 7, 9, 10, 11, 12, 13, 14, 15] 17 (y := 236) (pcN := 51) (dC := 0) (bc1 := 0) (bc2 := 0) (c1 := 0) (c2 := 0) (as := [(4, 0), (4, 8), (0, 0)]) (asC := [(4, 0), (4, 1), (0, 0)]) (LN := [(1, (0, 0)), (0, (4, 0))]) (stN := []) (hsC := jpK_355) (v := (0, 1)) (st2 := [(0, 1)]) (jK_236_92 (d := 0)) (by rfl) (by rfl) (by decide +kernel) (by rfl) (by rfl) (by omega) (by omega) (by omega) (by omega) rfl ?_
  refine jT_advK 1 (pcN := 54) (LN := [(1, (0, 0)), (0, (4, 0))]) (stN := []) (hsN := jpK_358) (c1 := 0) (s1 := 0) (c2 := 0) (s2 := 0) (by decide +kernel) ?_ (by omega) (by omega)
  exact jT_ret rfl (by decide) (by show 16 ≤ 17; omega) (by omega) (by omega) ⟨rfl, rfl, rfl⟩
theorem jK_191_94 {xs : List Int} {d : Nat} : jT xs d 191 1 0 [(0, (4, 0)), (1, (0, 1)), (2, (0, 3))] [] [jgh] 0 0 (fun k v hsN => k = 0 ∧ v = (0, 0) ∧ hsN = [jgh] ++ []) := by
  refine jT_advK 5 (pcN := 18) (LN := [(0, (4, 0)), (1, (0, 1)), (2, (0, 3))]) (stN := [(0, 0)]) (hsN := [jgh]) (c1 := 0) (s1 := 0) (c2 := 0) (s2 := 0) (by decide +kernel) ?_ (by omega) (by omega)
  exact jT_ret rfl (by decide) (by show 1 ≤ 1; omega) (by omega) (by omega) ⟨rfl, rfl, rfl⟩
def jzK_359 : JC := (130, [], [16, 17, 18, 19, 20, 21, 22, 23])
def jzK_360 : JC := (130, [], [(-1), (-1), (-1), (-1), (-1), (-1), (-1), (-1)])
def jpK_361 : List JC := [jzK_331, (100, [], jS0), (100, [], []), jzK_359, jzK_360, jgh, jgh, jgh, jgh, jgh, jgh, jgh, jgh, jgh, jgh, jgh, (100, [], (List.replicate 1613 0)), jgh, jgh, jgh, jgh, jgh, jgh, jgh]
def jpK_362 : List JC := [jzK_331, (100, [], jS0), (100, [], []), jzK_359, jzK_360, jgh, jgh, jgh, jgh, jgh, jgh, jgh, jgh, jgh, jgh, jgh, (100, [], jS0), jgh, jgh, jgh, jgh, jgh, jgh, jgh]
def jzK_363 : JC := (14, [(0, 0), (4, 1), (4, 2), (4, 3), (4, 4), (0, 1), (4, 5), (0, 0), (4, 6), (4, 7), (1, 1), (4, 8), (0, 1), (4, 9), (0, 0), (0, 0), (0, 0), (0, 0), (0, 0), (0, 0), (0, 0), (4, 10), (4, 11), (4, 12), (4, 13), (4, 14), (4, 15), (0, 0)], [])
def jzK_364 : JC := (130, [], [2, (-1), (-1), (-1), (-1), (-1), (-1), (-1)])
def jpK_365 : List JC := [jzK_363, (100, [], jS0), (100, [], []), jzK_359, jzK_364, jgh, jgh, jgh, jgh, jgh, jgh, jgh, jgh, jgh, jgh, jgh, (100, [], jS0), jgh, jgh, jgh, jgh, jgh, jgh, jgh]
theorem jK_195_95 {xs : List Int} {d : Nat} : jT xs d 195 24 0 [(0, (4, 0))] [] jpK_361 0 0 (fun k v hsN => k = 0 ∧ v = (9, 0) ∧ hsN = jpK_365) := by
  refine jT_advK 14 (pcN := 94) (LN := [(0, (4, 0))]) (stN := [(0, 1613), (0, 0), (4, 16), (0, 0), (4, 1)]) (hsN := jpK_361) (c1 := 0) (s1 := 0) (c2 := 0) (s2 := 0) (by decide +kernel) ?_ (by omega) (by omega)
  refine jT_cpy (a := 1) (b := 16) (s0 := 0) (d0 := 0) (n := 1613) (k := 100) (X := jS0) (Y := (List.replicate 1613 0)) (by rfl) (by rfl) (by rfl) (by rfl) (by rfl) (by rfl) (by rfl) (by decide) (by decide) (by decide) (by rw [show List.length (jS0 : List Int) = 1613 from jS0_len]; decide) (by rw [show List.length ((List.replicate 1613 0) : List Int) = 1613 from List.length_replicate]; omega) ?_
  refine jT_eq (LN := [(0, (4, 0))]) (stN := []) (hsN := jpK_362) rfl rfl (by rw [jcpy_all (X := jS0) (Y := (List.replicate 1613 0)) (n := 1613) (jS0_len) (List.length_replicate)]; rfl) ?_
  refine jT_advK 13 (pcN := 120) (LN := [(0, (4, 0))]) (stN := []) (hsN := jpK_365) (c1 := 0) (s1 := 0) (c2 := 0) (s2 := 0) (by decide +kernel) ?_ (by omega) (by omega)
  exact jT_ret rfl (by decide) (by show 24 ≤ 24; omega) (by omega) (by omega) ⟨rfl, rfl, rfl⟩
theorem jIK_242_0 : jmI (jm 242) 0 = (.bipush 56, 2) := by rfl
theorem jIK_242_2 : jmI (jm 242) 2 = (.sipush 281, 3) := by rfl
theorem jIK_242_5 : jmI (jm 242) 5 = (.iload_n 0, 1) := by rfl
theorem jIK_242_6 : jmI (jm 242) 6 = (.imul, 1) := by rfl
theorem jIK_242_7 : jmI (jm 242) 7 = (.iadd, 1) := by rfl
theorem jIK_242_8 : jmI (jm 242) 8 = (.iconst 1, 1) := by rfl
theorem jIK_242_9 : jmI (jm 242) 9 = (.iadd, 1) := by rfl
theorem jIK_242_10 : jmI (jm 242) 10 = (.bipush 7, 2) := by rfl
theorem jIK_242_12 : jmI (jm 242) 12 = (.iload_n 1, 1) := by rfl
theorem jIK_242_13 : jmI (jm 242) 13 = (.imul, 1) := by rfl
theorem jIK_242_14 : jmI (jm 242) 14 = (.iadd, 1) := by rfl
theorem jK_242_96 {xs : List Int} {d : Nat} {x1 : Int} (h_x1 : 0 ≤ x1 ∧ x1 ≤ 3) : jT xs d 242 0 0 [(0, (0, x1)), (1, (0, 0))] [] [] 0 0 (fun k v hsN => k = 0 ∧ v = (0, 281 * x1 + 57) ∧ hsN = [] ++ []) := by
  refine jT_xbipush (k := 56) (pcN := 2) jIK_242_0 (by decide) rfl ?_
  refine jT_xsipush (k := 281) (pcN := 5) jIK_242_2 (by decide) rfl ?_
  refine jT_xiload_n (v := (0, x1)) (pcN := 6) jIK_242_5 rfl rfl rfl ?_
  refine jT_ximul (x := 281) (y := x1) (z := 281 * x1) (pcN := 7) jIK_242_6 rfl (rfl) rfl ?_
  refine jT_xiadd (x := 56) (y := 281 * x1) (z := 281 * x1 + 56) (pcN := 8) jIK_242_7 rfl (by omega) rfl ?_
  refine jT_xiconst (k := 1) (pcN := 9) jIK_242_8 rfl ?_
  refine jT_xiadd (x := 281 * x1 + 56) (y := 1) (z := 281 * x1 + 57) (pcN := 10) jIK_242_9 rfl (by omega) rfl ?_
  refine jT_xbipush (k := 7) (pcN := 12) jIK_242_10 (by decide) rfl ?_
  refine jT_xiload_n (v := (0, 0)) (pcN := 13) jIK_242_12 rfl rfl rfl ?_
  refine jT_ximul (x := 7) (y := 0) (z := 0) (pcN := 14) jIK_242_13 rfl (by decide) rfl ?_
  refine jT_xiadd (x := 281 * x1 + 57) (y := 0) (z := 281 * x1 + 57) (pcN := 15) jIK_242_14 rfl (by omega) rfl ?_
  exact jT_ret rfl (by decide) (by show 0 ≤ 0; omega) (by omega) (by omega) ⟨rfl, rfl, rfl⟩
theorem jIK_241_0 : jmI (jm 241) 0 = (.aload_n 0, 1) := by rfl
def jpK_378 : List JC := [jzK_363, (100, [], jS0), (100, [], []), jzK_359, jzK_364, jgh, jgh, jgh, jzK_327, jgh, jgh, jgh, jgh, jgh, jgh, jgh, (100, [], jS0), jgh, jgh, jgh, jgh, jgh, jgh, jgh]
theorem jIK_241_4 : jmI (jm 241) 4 = (.aload_n 0, 1) := by rfl
theorem jIK_241_5 : jmI (jm 241) 5 = (.getfield 9, 3) := by rfl
theorem jIK_241_8 : jmI (jm 241) 8 = (.bipush 56, 2) := by rfl
theorem jIK_241_10 : jmI (jm 241) 10 = (.sipush 281, 3) := by rfl
theorem jIK_241_13 : jmI (jm 241) 13 = (.iload_n 1, 1) := by rfl
theorem jIK_241_14 : jmI (jm 241) 14 = (.imul, 1) := by rfl
theorem jIK_241_15 : jmI (jm 241) 15 = (.iadd, 1) := by rfl
theorem jIK_241_16 : jmI (jm 241) 16 = (.aload_n 0, 1) := by rfl
theorem jIK_241_17 : jmI (jm 241) 17 = (.getfield 280, 3) := by rfl
theorem jIK_241_21 : jmI (jm 241) 21 = (.aload_n 0, 1) := by rfl
theorem jIK_241_22 : jmI (jm 241) 22 = (.getfield 39, 3) := by rfl
theorem jIK_241_25 : jmI (jm 241) 25 = (.iconst 0, 1) := by rfl
theorem jIK_241_26 : jmI (jm 241) 26 = (.aload_n 0, 1) := by rfl
theorem jIK_241_27 : jmI (jm 241) 27 = (.getfield 9, 3) := by rfl
theorem jIK_241_30 : jmI (jm 241) 30 = (.iload_n 1, 1) := by rfl
theorem jIK_241_31 : jmI (jm 241) 31 = (.iconst 0, 1) := by rfl
theorem jIK_241_35 : jmI (jm 241) 35 = (.bipush 7, 2) := by rfl
theorem jIK_241_37 : jmI (jm 241) 37 = (.aload_n 0, 1) := by rfl
theorem jIK_241_38 : jmI (jm 241) 38 = (.getfield 280, 3) := by rfl
theorem jIK_241_41 : jmI (jm 241) 41 = (.imul, 1) := by rfl
theorem jIK_241_45 : jmI (jm 241) 45 = (.aload_n 0, 1) := by rfl
theorem jIK_241_46 : jmI (jm 241) 46 = (.getfield 280, 3) := by rfl
def jpK_401 : List JC := [jzK_331, (100, [], jS0), (100, [], []), jzK_359, jzK_360, jgh, jgh, jgh, jzK_327, jgh, jgh, jgh, jgh, jgh, jgh, jgh, (100, [], (List.replicate 1613 0)), jgh, jgh, jgh, jgh, jgh, jgh, jgh]
theorem jK_241_97 {xs : List Int} {d : Nat} {x1 : Int} (h_x1 : 0 ≤ x1 ∧ x1 ≤ 3) : jT xs (d + 1) 241 24 0 [(0, (4, 0)), (1, (0, x1))] [] jpK_401 0 0 (fun k v hsN => k = 0 ∧ v = (0, 1) ∧ hsN = [jzK_363, (100, [], (jcpy (((((((((((((((List.replicate 1792 0)).set 0 0)).set 1 0)).set 2 0)).set 3 0)).set 4 0)).set 5 0)).set 6 1) ((jS0).set ((281 * x1 + 56).toNat) 1) 0 ((281 * x1 + 57).toNat) 7)), (100, [], []), jzK_359, jzK_364, jgh, jgh, jgh, jzK_327, jgh, jgh, jgh, jgh, jgh, jgh, jgh, (100, [], jS0), jgh, jgh, jgh, jgh, jgh, jgh, jgh]) := by
  refine jT_xaload_n (v := (4, 0)) (pcN := 1) jIK_241_0 rfl rfl rfl ?_
  refine jT_fB [0, 1, 2, 3, 4, 5, 6, 7, 8, 9, 10, 11, 12, 13, 14, 15, 16, 17, 18, 19, 20, 21, 22, 23] 24 (y := 195) (pcN := 4) (dC := 0) (bc1 := 0) (bc2 := 0) (c1 := 0) (c2 := 0) (as := [(4, 0)]) (asC := [(4, 0)]) (LN := [(0, (4, 0)), (1, (0, x1))]) (stN := []) (hsC := jpK_361) (hsD := jpK_365) (v := (9, 0)) (st2 := []) (hs2 := jpK_378) (jK_195_95 (d := 0)) (by rfl) (by rfl) (by decide +kernel) (by rfl) (by rfl) (by omega) (by omega) (by omega) (by omega) rfl (by decide +kernel) ?_
  refine jT_xaload_n (v := (4, 0)) (pcN := 5) jIK_241_4 rfl rfl rfl ?_
  refine jT_xgetf (a := 0) (t := 1) (ci := 14) (fi := 1) (c := jzK_363) (v := (4, 1)) (pcN := 8) jIK_241_5 rfl rfl rfl rfl rfl rfl rfl ?_
  refine jT_xbipush (k := 56) (pcN := 10) jIK_241_8 (by decide) rfl ?_
  refine jT_xsipush (k := 281) (pcN := 13) jIK_241_10 (by decide) rfl ?_
  refine jT_xiload_n (v := (0, x1)) (pcN := 14) jIK_241_13 rfl rfl rfl ?_
  refine jT_ximul (x := 281) (y := x1) (z := 281 * x1) (pcN := 15) jIK_241_14 rfl (rfl) rfl ?_
  refine jT_xiadd (x := 56) (y := 281 * x1) (z := 281 * x1 + 56) (pcN := 16) jIK_241_15 rfl (by omega) rfl ?_
  refine jT_xaload_n (v := (4, 0)) (pcN := 17) jIK_241_16 rfl rfl rfl ?_
  refine jT_xgetf (a := 0) (t := 1) (ci := 14) (fi := 12) (c := jzK_363) (v := (0, 1)) (pcN := 20) jIK_241_17 rfl rfl rfl rfl rfl rfl rfl ?_
  refine jT_iast (x := 1) (a := 1) (j := (281 * x1 + 56).toNat) (fs := []) (X := jS0) (by rfl) (by rfl) (by rfl) (jw_nn (by omega) (by omega)) (by rw [show List.length (jS0 : List Int) = 1613 from jS0_len]; omega) ?_
  refine jT_eq (LN := [(0, (4, 0)), (1, (0, x1))]) (stN := []) (hsN := [jzK_363, (100, [], ((jS0).set ((281 * x1 + 56).toNat) 1)), (100, [], []), jzK_359, jzK_364, jgh, jgh, jgh, jzK_327, jgh, jgh, jgh, jgh, jgh, jgh, jgh, (100, [], jS0), jgh, jgh, jgh, jgh, jgh, jgh, jgh]) rfl rfl rfl ?_
  refine jT_xaload_n (v := (4, 0)) (pcN := 22) jIK_241_21 rfl rfl rfl ?_
  refine jT_xgetf (a := 0) (t := 1) (ci := 14) (fi := 11) (c := jzK_363) (v := (4, 8)) (pcN := 25) jIK_241_22 rfl rfl rfl rfl rfl rfl rfl ?_
  refine jT_xiconst (k := 0) (pcN := 26) jIK_241_25 rfl ?_
  refine jT_xaload_n (v := (4, 0)) (pcN := 27) jIK_241_26 rfl rfl rfl ?_
  refine jT_xgetf (a := 0) (t := 1) (ci := 14) (fi := 1) (c := jzK_363) (v := (4, 1)) (pcN := 30) jIK_241_27 rfl rfl rfl rfl rfl rfl rfl ?_
  refine jT_xiload_n (v := (0, x1)) (pcN := 31) jIK_241_30 rfl rfl rfl ?_
  refine jT_xiconst (k := 0) (pcN := 32) jIK_241_31 rfl ?_
  refine jT_callA [] (y := 242) (pcN := 35) (dC := 0) (bc1 := 0) (bc2 := 0) (c1 := 0) (c2 := 0) (as := [(0, x1), (0, 0)]) (asC := [(0, x1), (0, 0)]) (LN := [(0, (4, 0)), (1, (0, x1))]) (stN := [(4, 1), (0, 0), (4, 8)]) (hsC := []) (ex := []) (v := (0, 281 * x1 + 57)) (st2 := [(0, 281 * x1 + 57), (4, 1), (0, 0), (4, 8)]) (hs2 := [jzK_363, (100, [], ((jS0).set ((281 * x1 + 56).toNat) 1)), (100, [], []), jzK_359, jzK_364, jgh, jgh, jgh, jzK_327, jgh, jgh, jgh, jgh, jgh, jgh, jgh, (100, [], jS0), jgh, jgh, jgh, jgh, jgh, jgh, jgh]) (jK_242_96 (d := 0) (by omega)) (by rfl) (by rfl) (by rfl) (by rfl) trivial (by rfl) (by rfl) (by omega) (by show 24 ≤ 24; omega) (by omega) (by omega) rfl rfl ?_
  refine jT_xbipush (k := 7) (pcN := 37) jIK_241_35 (by decide) rfl ?_
  refine jT_xaload_n (v := (4, 0)) (pcN := 38) jIK_241_37 rfl rfl rfl ?_
  refine jT_xgetf (a := 0) (t := 1) (ci := 14) (fi := 12) (c := jzK_363) (v := (0, 1)) (pcN := 41) jIK_241_38 rfl rfl rfl rfl rfl rfl rfl ?_
  refine jT_ximul (x := 7) (y := 1) (z := 7) (pcN := 42) jIK_241_41 rfl (by decide) rfl ?_
  refine jT_cpy (a := 8) (b := 1) (s0 := 0) (d0 := (281 * x1 + 57).toNat) (n := 7) (k := 100) (X := (((((((((((((((List.replicate 1792 0)).set 0 0)).set 1 0)).set 2 0)).set 3 0)).set 4 0)).set 5 0)).set 6 1)) (Y := ((jS0).set ((281 * x1 + 56).toNat) 1)) (by rfl) (by rfl) (by first | (rw [Int.toNat_of_nonneg (by omega)]; done) | (rw [Int.toNat_of_nonneg (by omega)]; rfl)) (by rfl) (by rfl) (by rfl) (by rfl) (by decide) (by decide) (by omega) (by rw [show List.length ((((((((((((((((List.replicate 1792 0)).set 0 0)).set 1 0)).set 2 0)).set 3 0)).set 4 0)).set 5 0)).set 6 1) : List Int) = 1792 from by rw [List.length_set, List.length_set, List.length_set, List.length_set, List.length_set, List.length_set, List.length_set]; exact (List.length_replicate)]; decide) (by rw [show List.length (((jS0).set ((281 * x1 + 56).toNat) 1) : List Int) = 1613 from by rw [List.length_set]; exact (jS0_len)]; omega) ?_
  refine jT_eq (LN := [(0, (4, 0)), (1, (0, x1))]) (stN := []) (hsN := [jzK_363, (100, [], (jcpy (((((((((((((((List.replicate 1792 0)).set 0 0)).set 1 0)).set 2 0)).set 3 0)).set 4 0)).set 5 0)).set 6 1) ((jS0).set ((281 * x1 + 56).toNat) 1) 0 ((281 * x1 + 57).toNat) 7)), (100, [], []), jzK_359, jzK_364, jgh, jgh, jgh, jzK_327, jgh, jgh, jgh, jgh, jgh, jgh, jgh, (100, [], jS0), jgh, jgh, jgh, jgh, jgh, jgh, jgh]) rfl rfl rfl ?_
  refine jT_xaload_n (v := (4, 0)) (pcN := 46) jIK_241_45 rfl rfl rfl ?_
  refine jT_xgetf (a := 0) (t := 1) (ci := 14) (fi := 12) (c := jzK_363) (v := (0, 1)) (pcN := 49) jIK_241_46 rfl rfl rfl rfl rfl rfl rfl ?_
  exact jT_ret rfl (by decide) (by show 24 ≤ 24; omega) (by omega) (by omega) ⟨rfl, rfl, rfl⟩
def jpK_402 : List JC := [jzK_21, (100, [], jS0), (100, [], []), jzK_359, jzK_360, jgh, (130, [], [24, 25, 26, 27, 28, 29]), (101, [], [0, 0, 0, 0, 0, 0]), (100, [], (List.replicate 1792 0)), jgh, jgh, jgh, jgh, jgh, jgh, jgh, (100, [], (List.replicate 1613 0)), jgh, jgh, jgh, jgh, jgh, jgh, jgh, (100, [], (jenc (jlg 0))), jgh, jgh, jgh, jgh, jgh]
theorem jIK_237_54 : jmI (jm 237) 54 = (.iconst 1, 1) := by rfl
theorem jIK_237_55 : jmI (jm 237) 55 = (.goto 4, 3) := by rfl
theorem jIK_237_68 : jmI (jm 237) 68 = (.aload_n 0, 1) := by rfl
theorem jIK_237_69 : jmI (jm 237) 69 = (.iconst 0, 1) := by rfl
theorem jIK_237_73 : jmI (jm 237) 73 = (.iconst 1, 1) := by rfl
theorem jIK_237_74 : jmI (jm 237) 74 = (.istore 5, 2) := by rfl
theorem jIK_237_76 : jmI (jm 237) 76 = (.iload_n 3, 1) := by rfl
theorem jIK_237_77 : jmI (jm 237) 77 = (.istore 6, 2) := by rfl
theorem jIK_237_79 : jmI (jm 237) 79 = (.iload 6, 2) := by rfl
theorem jIK_237_81 : jmI (jm 237) 81 = (.iload_n 3, 1) := by rfl
theorem jIK_237_82 : jmI (jm 237) 82 = (.iload 4, 2) := by rfl
theorem jIK_237_84 : jmI (jm 237) 84 = (.iadd, 1) := by rfl
theorem jIK_237_85 : jmI (jm 237) 85 = (.if_icmp .ge 64, 3) := by rfl
theorem jIK_237_88 : jmI (jm 237) 88 = (.aload_n 0, 1) := by rfl
theorem jIK_237_89 : jmI (jm 237) 89 = (.iload_n 2, 1) := by rfl
theorem jIK_237_93 : jmI (jm 237) 93 = (.aload_n 0, 1) := by rfl
theorem jIK_237_94 : jmI (jm 237) 94 = (.iload 6, 2) := by rfl
theorem jIK_237_96 : jmI (jm 237) 96 = (.iconst 1, 1) := by rfl
theorem jIK_237_100 : jmI (jm 237) 100 = (.aload_n 0, 1) := by rfl
def jpK_422 : List JC := [jzK_21, (100, [], jS0), (100, [], []), jzK_359, jzK_360, jgh, (130, [], [24, 25, 26, 27, 28, 29]), (101, [], [0, 0, 0, 0, 0, 0]), (100, [], (List.replicate 1792 0)), jgh, jgh, jgh, jgh, jgh, jgh, jgh, (100, [], (List.replicate 1613 0)), jgh, jgh, jgh, jgh, jgh, jgh, jgh, (100, [], (jenc (jlg 0))), jgh, jgh, jgh, jgh, jgh, (101, [], [0, 0, 0, 0, 0, 0]), (101, [], [(-1), 0, 0, 0, 0, 0]), (100, [], (jenc 0)), (100, [], (jenc (-1))), (100, [], (jenc ((-1) * (jlg 0))))]
theorem jIK_237_104 : jmI (jm 237) 104 = (.lstore 7, 2) := by rfl
theorem jIK_237_106 : jmI (jm 237) 106 = (.iload 5, 2) := by rfl
theorem jIK_237_108 : jmI (jm 237) 108 = (.ifCond .eq 23, 3) := by rfl
theorem jIK_237_111 : jmI (jm 237) 111 = (.aload_n 0, 1) := by rfl
theorem jIK_237_115 : jmI (jm 237) 115 = (.ifCond .eq 16, 3) := by rfl
theorem jIK_237_118 : jmI (jm 237) 118 = (.lload 7, 2) := by rfl
theorem jIK_237_124 : jmI (jm 237) 124 = (.ifCond .lt 7, 3) := by rfl
theorem jIK_237_127 : jmI (jm 237) 127 = (.iconst 1, 1) := by rfl
theorem jIK_237_128 : jmI (jm 237) 128 = (.goto 4, 3) := by rfl
theorem jIK_237_132 : jmI (jm 237) 132 = (.istore 5, 2) := by rfl
theorem jIK_237_134 : jmI (jm 237) 134 = (.iload 5, 2) := by rfl
theorem jIK_237_136 : jmI (jm 237) 136 = (.ifCond .eq 7, 3) := by rfl
theorem jIK_237_139 : jmI (jm 237) 139 = (.aload_n 0, 1) := by rfl
def jpK_436 : List JC := [jzK_331, (100, [], jS0), (100, [], []), jzK_359, jzK_360, jgh, (130, [], [24, 25, 26, 27, 28, 29]), (101, [], [0, 0, 0, 0, 0, 0]), jzK_327, jgh, jgh, jgh, jgh, jgh, jgh, jgh, (100, [], (List.replicate 1613 0)), jgh, jgh, jgh, jgh, jgh, jgh, jgh, (100, [], (jenc (jlg 0))), jgh, jgh, jgh, jgh, jgh, (101, [], [0, 0, 0, 0, 0, 0]), (101, [], [(-1), 0, 0, 0, 0, 0]), (100, [], (jenc 0)), (100, [], (jenc (-1))), (100, [], (jenc ((-1) * (jlg 0))))]
theorem jIK_237_143 : jmI (jm 237) 143 = (.iinc 6 1, 3) := by rfl
theorem jIK_237_146 : jmI (jm 237) 146 = (.goto (-67), 3) := by rfl
def jpK_439 : List JC := [jzK_331, (100, [], jS0), (100, [], []), jzK_359, jzK_360, jgh, (130, [], [24, 25, 26, 27, 28, 29]), (101, [], [0, 0, 0, 0, 0, 0]), jzK_327, jgh, jgh, jgh, jgh, jgh, jgh, jgh, (100, [], (List.replicate 1613 0)), jgh, jgh, jgh, jgh, jgh, jgh, jgh, (100, [], (jenc (jlg 0))), jgh, jgh, jgh, jgh, jgh, (101, [], [0, 0, 0, 0, 0, 0]), (101, [], [(-1), 0, 0, 0, 0, 0]), (100, [], (jenc 0)), (100, [], (jenc (-1))), (100, [], (jenc ((-1) * (jlg 0)))), (101, [], [0, 0, 0, 0, 0, 0]), (101, [], [(-1), 0, 0, 0, 0, 0]), (100, [], (jenc 0)), (100, [], (jenc (-1))), (100, [], (jenc ((-1) * (jlg 0))))]
def jpK_440 : List JC := [jzK_331, (100, [], jS0), (100, [], []), jzK_359, jzK_360, jgh, (130, [], [24, 25, 26, 27, 28, 29]), (101, [], [0, 0, 0, 0, 0, 0]), jzK_327, jgh, jgh, jgh, jgh, jgh, jgh, jgh, (100, [], (List.replicate 1613 0)), jgh, jgh, jgh, jgh, jgh, jgh, jgh, (100, [], (jenc (jlg 0))), jgh, jgh, jgh, jgh, jgh, (101, [], [0, 0, 0, 0, 0, 0]), (101, [], [(-1), 0, 0, 0, 0, 0]), (100, [], (jenc 0)), (100, [], (jenc (-1))), (100, [], (jenc ((-1) * (jlg 0)))), (101, [], [0, 0, 0, 0, 0, 0]), (101, [], [(-1), 0, 0, 0, 0, 0]), (100, [], (jenc 0)), (100, [], (jenc (-1))), (100, [], (jenc ((-1) * (jlg 0)))), (101, [], [0, 0, 0, 0, 0, 0])]
def jpK_441 : List JC := [(101, [], [0, 0, 0, 0, 0, 0]), (101, [], [(-1), 0, 0, 0, 0, 0]), (100, [], (jenc 0)), (100, [], (jenc (-1))), (100, [], (jenc ((-1) * (jlg 0)))), (101, [], [0, 0, 0, 0, 0, 0])]
theorem jKl_gc_98 {xs : List Int} {d b1 b2 : Nat} {Q : Nat → JV → List JC → Prop} (hd : 7 < d) {y3 z4 o1 o2 : Int} (h_y3 : (-50) ≤ y3 ∧ y3 ≤ 50) (h_z4 : 1 ≤ z4 ∧ z4 ≤ 40) (h_o1 : 0 ≤ o1 ∧ o1 ≤ 3) (h_o2 : 0 ≤ o2 ∧ o2 ≤ 7) (h : jT xs d 237 30 149 [(5, (0, 1)), (0, (4, 0)), (1, (0, o1))] [] [jzK_331, (100, [], jS0), (100, [], []), jzK_359, jzK_360, jgh, (130, [], [24, 25, 26, 27, 28, 29]), (101, [], [0, 0, 0, 0, 0, 0]), jzK_327, jgh, jgh, jgh, jgh, jgh, jgh, jgh, (100, [], (List.replicate 1613 0)), jgh, jgh, jgh, jgh, jgh, jgh, jgh, (100, [], (jenc (jlg 0))), jgh, jgh, jgh, jgh, jgh, (101, [], [0, 0, 0, 0, 0, 0]), (101, [], [(-1), 0, 0, 0, 0, 0]), (100, [], (jenc 0)), (100, [], (jenc (-1))), (100, [], (jenc ((-1) * (jlg 0))))] b1 b2 Q) : ∀ (q : Nat) (t : Int), y3 + 1 ≤ t → t + (q : Int) = y3 + z4 → jT xs d 237 30 79 [(6, (0, t)), (5, (0, 1)), (0, (4, 0)), (1, (0, o1)), (2, (0, o2)), (3, (0, y3)), (4, (0, z4))] [] [jzK_331, (100, [], jS0), (100, [], []), jzK_359, jzK_360, jgh, (130, [], [24, 25, 26, 27, 28, 29]), (101, [], [0, 0, 0, 0, 0, 0]), jzK_327, jgh, jgh, jgh, jgh, jgh, jgh, jgh, (100, [], (List.replicate 1613 0)), jgh, jgh, jgh, jgh, jgh, jgh, jgh, (100, [], (jenc (jlg 0))), jgh, jgh, jgh, jgh, jgh, (101, [], [0, 0, 0, 0, 0, 0]), (101, [], [(-1), 0, 0, 0, 0, 0]), (100, [], (jenc 0)), (100, [], (jenc (-1))), (100, [], (jenc ((-1) * (jlg 0))))] (b1 + 6 * q) (b2 + 186 * q) Q := by
  intro q
  induction q with
  | zero =>
    intro t h0 ht
    have e : t = y3 + z4 := by omega
    subst t
    refine jT.mono (b1 := b1) (b2 := b2) ?_ (Nat.le_refl _) (by omega) (by omega) (fun _ _ _ z => z)
    refine jT_xiload (v := (0, y3 + z4)) (pcN := 81) jIK_237_79 rfl rfl rfl ?_
    refine jT_xiload_n (v := (0, y3)) (pcN := 82) jIK_237_81 rfl rfl rfl ?_
    refine jT_xiload (v := (0, z4)) (pcN := 84) jIK_237_82 rfl rfl rfl ?_
    refine jT_xiadd (x := y3) (y := z4) (z := y3 + z4) (pcN := 85) jIK_237_84 rfl (rfl) rfl ?_
    refine jT_icT (a := y3 + z4) (b := y3 + z4) (t := 149) (by rfl) (by rfl) (by rfl) (jw_idd (by omega) (by omega)) (jw_idd (by omega) (by omega)) (by simp only [jcP] <;> omega) ?_
    refine jT_loc (LN := [(5, (0, 1)), (0, (4, 0)), (1, (0, o1))]) (by show List.Nodup [5, 0, 1]; decide) (by intro q hq; simp only [List.mem_cons, List.not_mem_nil, or_false] at hq; rcases hq with rfl | rfl | rfl <;> rfl) ?_
    exact h
  | succ q ih =>
    intro t h0 ht
    have h_t : (-49) ≤ t ∧ t ≤ 89 := by omega
    have g_0 : t - y3 - z4 < 0 := by omega
    refine jT.mono (b1 := b1 + 6 * q + 6) (b2 := b2 + 186 * q + 186) ?_ (Nat.le_refl _) (by omega) (by omega) (fun _ _ _ z => z)
    refine jT_xiload (v := (0, t)) (pcN := 81) jIK_237_79 rfl rfl rfl ?_
    refine jT_xiload_n (v := (0, y3)) (pcN := 82) jIK_237_81 rfl rfl rfl ?_
    refine jT_xiload (v := (0, z4)) (pcN := 84) jIK_237_82 rfl rfl rfl ?_
    refine jT_xiadd (x := y3) (y := z4) (z := y3 + z4) (pcN := 85) jIK_237_84 rfl (rfl) rfl ?_
    refine jT_icF (a := t) (b := y3 + z4) (t := 149) (by rfl) (by rfl) (by rfl) (jw_idd (by omega) (by omega)) (jw_idd (by omega) (by omega)) (by simp only [jcP] <;> omega) ?_
    refine jT_xaload_n (v := (4, 0)) (pcN := 89) jIK_237_88 rfl rfl rfl ?_
    refine jT_xiload_n (v := (0, o2)) (pcN := 90) jIK_237_89 rfl rfl rfl ?_
    refine jT_fR [0, 1, 2, 3, 4, 5, 6, 7, 8, 9, 10, 11, 12, 13, 14, 15] 35 (y := 202) (pcN := 93) (dC := 1) (bc1 := 0) (bc2 := 0) (c1 := (b1 + 6 * q + 6)) (c2 := (b2 + 186 * q + 186)) (as := [(4, 0), (0, o2)]) (asC := [(4, 0), (0, o2)]) (LN := [(6, (0, t)), (5, (0, 1)), (0, (4, 0)), (1, (0, o1)), (2, (0, o2)), (3, (0, y3)), (4, (0, z4))]) (stN := []) (hsC := jpK_333) (v := (9, 0)) (st2 := []) (jK_202_81 (d := 0) (by omega)) (by rfl) (by rfl) (by decide +kernel) (by rfl) (by rfl) (by omega) (by omega) (by omega) (by omega) rfl ?_
    refine jT_xaload_n (v := (4, 0)) (pcN := 94) jIK_237_93 rfl rfl rfl ?_
    refine jT_xiload (v := (0, t)) (pcN := 96) jIK_237_94 rfl rfl rfl ?_
    refine jT_xiconst (k := 1) (pcN := 97) jIK_237_96 rfl ?_
    refine jT_fR [0, 1, 2, 3, 4, 5, 6, 7, 8, 9, 10, 11, 12, 13, 14, 15] 35 (y := 207) (pcN := 100) (dC := 2) (bc1 := 0) (bc2 := 0) (c1 := (b1 + 6 * q + 6)) (c2 := (b2 + 186 * q + 186)) (as := [(4, 0), (0, t), (0, 1)]) (asC := [(4, 0), (0, t), (0, 1)]) (LN := [(6, (0, t)), (5, (0, 1)), (0, (4, 0)), (1, (0, o1)), (2, (0, o2)), (3, (0, y3)), (4, (0, z4))]) (stN := []) (hsC := jpK_334) (v := (9, 0)) (st2 := []) (jK_207_83 (d := 0) (by omega)) (by rfl) (by rfl) (by decide +kernel) (by rfl) (by rfl) (by omega) (by omega) (by omega) (by omega) rfl ?_
    refine jT_xaload_n (v := (4, 0)) (pcN := 101) jIK_237_100 rfl rfl rfl ?_
    refine jT_fA [0, 1, 2, 3, 4, 5, 6, 7, 8, 9, 10, 11, 12, 13, 14, 15, 24, 25, 26, 27, 28, 29] 35 (y := 209) (pcN := 104) (dC := 6) (bc1 := 5) (bc2 := 180) (c1 := (b1 + 6 * q + 1)) (c2 := (b2 + 186 * q + 6)) (as := [(4, 0)]) (asC := [(4, 0)]) (LN := [(6, (0, t)), (5, (0, 1)), (0, (4, 0)), (1, (0, o1)), (2, (0, o2)), (3, (0, y3)), (4, (0, z4))]) (stN := []) (hsC := jpK_349) (ex := jpK_310) (v := (1, 0)) (st2 := [(1, 0)]) (hs2 := jpK_439) (jK_209_89 (d := 0)) (by rfl) (by rfl) (by decide +kernel) (by rfl) (by rfl) (by omega) (by omega) (by omega) (by omega) rfl (by decide +kernel) ?_
    refine jT_xlstore (v := (1, 0)) (LN := [(7, (1, 0)), (6, (0, t)), (5, (0, 1)), (0, (4, 0)), (1, (0, o1)), (2, (0, o2)), (3, (0, y3)), (4, (0, z4))]) (pcN := 106) jIK_237_104 rfl rfl rfl rfl ?_
    refine jT_xiload (v := (0, 1)) (pcN := 108) jIK_237_106 rfl rfl rfl ?_
    refine jT_xifF (t := 131) (pcN := 111) jIK_237_108 rfl (by decide +kernel) rfl rfl ?_
    refine jT_xaload_n (v := (4, 0)) (pcN := 112) jIK_237_111 rfl rfl rfl ?_
    refine jT_fR [0, 1, 2, 3, 4, 5, 6, 7, 8, 9, 10, 11, 12, 13, 14, 15] 40 (y := 205) (pcN := 115) (dC := 1) (bc1 := 0) (bc2 := 0) (c1 := (b1 + 6 * q + 1)) (c2 := (b2 + 186 * q + 6)) (as := [(4, 0)]) (asC := [(4, 0)]) (LN := [(7, (1, 0)), (6, (0, t)), (5, (0, 1)), (0, (4, 0)), (1, (0, o1)), (2, (0, o2)), (3, (0, y3)), (4, (0, z4))]) (stN := []) (hsC := jpK_334) (v := (0, 1)) (st2 := [(0, 1)]) (jK_205_90 (d := 0)) (by rfl) (by rfl) (by decide +kernel) (by rfl) (by rfl) (by omega) (by omega) (by omega) (by omega) rfl ?_
    refine jT_xifF (t := 131) (pcN := 118) jIK_237_115 rfl (by decide +kernel) rfl rfl ?_
    refine jT_xlload (v := (1, 0)) (pcN := 120) jIK_237_118 rfl rfl rfl ?_
    refine jT_adv 1 (pcN := 123) (LN := [(7, (1, 0)), (6, (0, t)), (5, (0, 1)), (0, (4, 0)), (1, (0, o1)), (2, (0, o2)), (3, (0, y3)), (4, (0, z4))]) (stN := [(1, (-2147483648)), (1, 0)]) (hsN := jpK_439) (c1 := 0) (s1 := 0) (c2 := (b1 + 6 * q + 1)) (s2 := (b2 + 186 * q + 6)) (by exact rfl) ?_ (by omega) (by omega)
    refine jT_lcmp (a := 0) (b := (-2147483648)) (z := 1) (by rfl) (by rfl) (by decide +kernel) (by decide +kernel) (by decide) ?_
    refine jT_xifF (t := 131) (pcN := 127) jIK_237_124 rfl (by decide +kernel) rfl rfl ?_
    refine jT_xiconst (k := 1) (pcN := 128) jIK_237_127 rfl ?_
    refine jT_xgoto (pcN := 132) jIK_237_128 rfl ?_
    refine jT_xistore (v := (0, 1)) (LN := [(5, (0, 1)), (7, (1, 0)), (6, (0, t)), (0, (4, 0)), (1, (0, o1)), (2, (0, o2)), (3, (0, y3)), (4, (0, z4))]) (pcN := 134) jIK_237_132 rfl rfl rfl rfl ?_
    refine jT_xiload (v := (0, 1)) (pcN := 136) jIK_237_134 rfl rfl rfl ?_
    refine jT_xifF (t := 143) (pcN := 139) jIK_237_136 rfl (by decide +kernel) rfl rfl ?_
    refine jT_xaload_n (v := (4, 0)) (pcN := 140) jIK_237_139 rfl rfl rfl ?_
    refine jT_fA [0, 1, 2, 3, 4, 5, 6, 7, 8, 9, 10, 11, 12, 13, 14, 15] 40 (y := 239) (pcN := 143) (dC := 3) (bc1 := 1) (bc2 := 6) (c1 := (b1 + 6 * q + 0)) (c2 := (b2 + 186 * q + 0)) (as := [(4, 0)]) (asC := [(4, 0)]) (LN := [(5, (0, 1)), (7, (1, 0)), (6, (0, t)), (0, (4, 0)), (1, (0, o1)), (2, (0, o2)), (3, (0, y3)), (4, (0, z4))]) (stN := []) (hsC := jpK_332) (ex := [(101, [], [0, 0, 0, 0, 0, 0])]) (v := (9, 0)) (st2 := []) (hs2 := jpK_440) (jK_239_93 (d := 0)) (by rfl) (by rfl) (by decide +kernel) (by rfl) (by rfl) (by omega) (by omega) (by omega) (by omega) rfl (by decide +kernel) ?_
    refine jT_xiinc (x := t) (z := t + 1) (LN := [(6, (0, t + 1)), (5, (0, 1)), (7, (1, 0)), (0, (4, 0)), (1, (0, o1)), (2, (0, o2)), (3, (0, y3)), (4, (0, z4))]) (pcN := 146) jIK_237_143 rfl rfl (rfl) rfl rfl ?_
    refine jT_xgoto (pcN := 79) jIK_237_146 rfl ?_
    refine jT_loc (LN := [(6, (0, t + 1)), (5, (0, 1)), (0, (4, 0)), (1, (0, o1)), (2, (0, o2)), (3, (0, y3)), (4, (0, z4))]) (by show List.Nodup [6, 5, 0, 1, 2, 3, 4]; decide) (by intro q hq; simp only [List.mem_cons, List.not_mem_nil, or_false] at hq; rcases hq with rfl | rfl | rfl | rfl | rfl | rfl | rfl <;> rfl) ?_
    refine jT_drop 35 (hs0 := jpK_436) (ex := jpK_441) rfl rfl rfl (by decide) ?_
    exact ih (t + 1) (by omega) (by omega)
theorem jIK_237_149 : jmI (jm 237) 149 = (.aload_n 0, 1) := by rfl
theorem jIK_237_150 : jmI (jm 237) 150 = (.iload 5, 2) := by rfl
theorem jIK_237_152 : jmI (jm 237) 152 = (.iconst 3, 1) := by rfl
theorem jIK_237_156 : jmI (jm 237) 156 = (.ifCond .eq 7, 3) := by rfl
theorem jIK_237_163 : jmI (jm 237) 163 = (.aload_n 0, 1) := by rfl
theorem jIK_237_164 : jmI (jm 237) 164 = (.iload_n 1, 1) := by rfl
theorem jK_237_99 {xs : List Int} {d : Nat} {x1 x2 x3 x4 : Int} (h_x1 : 0 ≤ x1 ∧ x1 ≤ 3) (h_x2 : 0 ≤ x2 ∧ x2 ≤ 7) (h_x3 : (-50) ≤ x3 ∧ x3 ≤ 50) (h_x4 : 1 ≤ x4 ∧ x4 ≤ 40) : jT xs (d + 8) 237 30 0 [(0, (4, 0)), (1, (0, x1)), (2, (0, x2)), (3, (0, x3)), (4, (0, x4))] [] jpK_402 239 7434 (fun k v hsN => k = 0 ∧ v = (0, 1) ∧ hsN = [jzK_363, (100, [], (jcpy (((((((((((((((List.replicate 1792 0)).set 0 0)).set 1 0)).set 2 0)).set 3 0)).set 4 0)).set 5 0)).set 6 1) ((jS0).set ((281 * x1 + 56).toNat) 1) 0 ((281 * x1 + 57).toNat) 7)), (100, [], []), jzK_359, jzK_364, jgh, (130, [], [24, 25, 26, 27, 28, 29]), (101, [], [0, 0, 0, 0, 0, 0]), jzK_327, jgh, jgh, jgh, jgh, jgh, jgh, jgh, (100, [], jS0), jgh, jgh, jgh, jgh, jgh, jgh, jgh, (100, [], (jenc (jlg 0))), jgh, jgh, jgh, jgh, jgh, (101, [], [0, 0, 0, 0, 0, 0]), (101, [], [(-1), 0, 0, 0, 0, 0]), (100, [], (jenc 0)), (100, [], (jenc (-1))), (100, [], (jenc ((-1) * (jlg 0))))]) := by
  refine jT_xaload_n (v := (4, 0)) (pcN := 1) jIK_237_0 rfl rfl rfl ?_
  refine jT_xiload_n (v := (0, x1)) (pcN := 2) jIK_237_1 rfl rfl rfl ?_
  refine jT_fR [] 30 (y := 238) (pcN := 5) (dC := 1) (bc1 := 0) (bc2 := 0) (c1 := 239) (c2 := 7434) (as := [(0, x1)]) (asC := [(0, x1)]) (LN := [(0, (4, 0)), (1, (0, x1)), (2, (0, x2)), (3, (0, x3)), (4, (0, x4))]) (stN := [(4, 0)]) (hsC := []) (v := (0, 1)) (st2 := [(0, 1), (4, 0)]) (jK_238_13 (d := 0) (by omega)) (by rfl) (by rfl) (by decide +kernel) (by rfl) (by rfl) (by omega) (by omega) (by omega) (by omega) rfl ?_
  refine jT_xifF (t := 19) (pcN := 8) jIK_237_5 rfl (by decide +kernel) rfl rfl ?_
  refine jT_xiload_n (v := (0, x2)) (pcN := 9) jIK_237_8 rfl rfl rfl ?_
  refine jT_fR [] 30 (y := 188) (pcN := 12) (dC := 1) (bc1 := 0) (bc2 := 0) (c1 := 239) (c2 := 7434) (as := [(0, x2)]) (asC := [(0, x2)]) (LN := [(0, (4, 0)), (1, (0, x1)), (2, (0, x2)), (3, (0, x3)), (4, (0, x4))]) (stN := [(4, 0)]) (hsC := []) (v := (0, 1)) (st2 := [(0, 1), (4, 0)]) (jK_188_20 (d := 0) (by omega)) (by rfl) (by rfl) (by decide +kernel) (by rfl) (by rfl) (by omega) (by omega) (by omega) (by omega) rfl ?_
  refine jT_xifF (t := 19) (pcN := 15) jIK_237_12 rfl (by decide +kernel) rfl rfl ?_
  refine jT_xiconst (k := 1) (pcN := 16) jIK_237_15 rfl ?_
  refine jT_xgoto (pcN := 20) jIK_237_16 rfl ?_
  refine jT_fR [0, 1, 2, 3, 4, 5, 6, 7, 8, 9, 10, 11, 12, 13, 14, 15] 30 (y := 190) (pcN := 23) (dC := 1) (bc1 := 0) (bc2 := 0) (c1 := 239) (c2 := 7434) (as := [(4, 0), (0, 1)]) (asC := [(4, 0), (0, 1)]) (LN := [(0, (4, 0)), (1, (0, x1)), (2, (0, x2)), (3, (0, x3)), (4, (0, x4))]) (stN := []) (hsC := jpK_22) (v := (0, 0)) (st2 := [(0, 0)]) (jK_190_22 (d := 0)) (by rfl) (by rfl) (by decide +kernel) (by rfl) (by rfl) (by omega) (by omega) (by omega) (by omega) rfl ?_
  refine jT_xifF (t := 66) (pcN := 26) jIK_237_23 rfl (by decide +kernel) rfl rfl ?_
  refine jT_xaload_n (v := (4, 0)) (pcN := 27) jIK_237_26 rfl rfl rfl ?_
  refine jT_xiload_n (v := (0, x3)) (pcN := 28) jIK_237_27 rfl rfl rfl ?_
  refine jT_xi2l (x := x3) (z := x3) (pcN := 29) jIK_237_28 rfl (jw_idd (by omega) (by omega)) rfl ?_
  refine jT_adv 2 (pcN := 35) (LN := [(0, (4, 0)), (1, (0, x1)), (2, (0, x2)), (3, (0, x3)), (4, (0, x4))]) (stN := [(1, 50), (1, (-50)), (1, x3), (4, 0)]) (hsN := jpK_402) (c1 := 0) (s1 := 0) (c2 := 239) (s2 := 7434) (by exact rfl) ?_ (by omega) (by omega)
  refine jT_fR [] 30 (y := 189) (pcN := 38) (dC := 0) (bc1 := 0) (bc2 := 0) (c1 := 239) (c2 := 7434) (as := [(1, x3), (1, (-50)), (1, 50)]) (asC := [(1, x3), (1, (-50)), (1, 50)]) (LN := [(0, (4, 0)), (1, (0, x1)), (2, (0, x2)), (3, (0, x3)), (4, (0, x4))]) (stN := [(4, 0)]) (hsC := []) (v := (0, 1)) (st2 := [(0, 1), (4, 0)]) (jT_in_ok (d := 0) (v := x3) (lo := (-50)) (hi := 50) (by omega) (by omega) (by omega) (by omega) (by omega)) (by rfl) (by rfl) (by decide +kernel) (by rfl) (by rfl) (by omega) (by omega) (by omega) (by omega) rfl ?_
  refine jT_xifF (t := 58) (pcN := 41) jIK_237_38 rfl (by decide +kernel) rfl rfl ?_
  refine jT_xiload (v := (0, x4)) (pcN := 43) jIK_237_41 rfl rfl rfl ?_
  refine jT_xi2l (x := x4) (z := x4) (pcN := 44) jIK_237_43 rfl (jw_idd (by omega) (by omega)) rfl ?_
  refine jT_xlconst (z := 1) (pcN := 45) jIK_237_44 rfl rfl ?_
  refine jT_adv 1 (pcN := 48) (LN := [(0, (4, 0)), (1, (0, x1)), (2, (0, x2)), (3, (0, x3)), (4, (0, x4))]) (stN := [(1, 40), (1, 1), (1, x4), (4, 0)]) (hsN := jpK_402) (c1 := 0) (s1 := 0) (c2 := 239) (s2 := 7434) (by exact rfl) ?_ (by omega) (by omega)
  refine jT_fR [] 30 (y := 189) (pcN := 51) (dC := 0) (bc1 := 0) (bc2 := 0) (c1 := 239) (c2 := 7434) (as := [(1, x4), (1, 1), (1, 40)]) (asC := [(1, x4), (1, 1), (1, 40)]) (LN := [(0, (4, 0)), (1, (0, x1)), (2, (0, x2)), (3, (0, x3)), (4, (0, x4))]) (stN := [(4, 0)]) (hsC := []) (v := (0, 1)) (st2 := [(0, 1), (4, 0)]) (jT_in_ok (d := 0) (v := x4) (lo := 1) (hi := 40) (by omega) (by omega) (by omega) (by omega) (by omega)) (by rfl) (by rfl) (by decide +kernel) (by rfl) (by rfl) (by omega) (by omega) (by omega) (by omega) rfl ?_
  refine jT_xifF (t := 58) (pcN := 54) jIK_237_51 rfl (by decide +kernel) rfl rfl ?_
  refine jT_xiconst (k := 1) (pcN := 55) jIK_237_54 rfl ?_
  refine jT_xgoto (pcN := 59) jIK_237_55 rfl ?_
  refine jT_xiconst (k := 2) (pcN := 60) jIK_237_59 rfl ?_
  refine jT_fR [0] 30 (y := 191) (pcN := 63) (dC := 0) (bc1 := 0) (bc2 := 0) (c1 := 239) (c2 := 7434) (as := [(4, 0), (0, 1), (0, 2)]) (asC := [(4, 0), (0, 1), (0, 2)]) (LN := [(0, (4, 0)), (1, (0, x1)), (2, (0, x2)), (3, (0, x3)), (4, (0, x4))]) (stN := []) (hsC := [jgh]) (v := (0, 0)) (st2 := [(0, 0)]) (jK_191_60 (d := 0)) (by rfl) (by rfl) (by decide +kernel) (by rfl) (by rfl) (by omega) (by omega) (by omega) (by omega) rfl ?_
  refine jT_xifT (pcN := 68) jIK_237_63 rfl (by decide +kernel) rfl ?_
  refine jT_xaload_n (v := (4, 0)) (pcN := 69) jIK_237_68 rfl rfl rfl ?_
  refine jT_xiconst (k := 0) (pcN := 70) jIK_237_69 rfl ?_
  refine jT_adv 1 (pcN := 73) (LN := [(0, (4, 0)), (1, (0, x1)), (2, (0, x2)), (3, (0, x3)), (4, (0, x4))]) (stN := []) (hsN := jpK_402) (c1 := 0) (s1 := 0) (c2 := 239) (s2 := 7434) (by exact rfl) ?_ (by omega) (by omega)
  refine jT_xiconst (k := 1) (pcN := 74) jIK_237_73 rfl ?_
  refine jT_xistore (v := (0, 1)) (LN := [(5, (0, 1)), (0, (4, 0)), (1, (0, x1)), (2, (0, x2)), (3, (0, x3)), (4, (0, x4))]) (pcN := 76) jIK_237_74 rfl rfl rfl rfl ?_
  refine jT_xiload_n (v := (0, x3)) (pcN := 77) jIK_237_76 rfl rfl rfl ?_
  refine jT_xistore (v := (0, x3)) (LN := [(6, (0, x3)), (5, (0, 1)), (0, (4, 0)), (1, (0, x1)), (2, (0, x2)), (3, (0, x3)), (4, (0, x4))]) (pcN := 79) jIK_237_77 rfl rfl rfl rfl ?_
  refine jT_xiload (v := (0, x3)) (pcN := 81) jIK_237_79 rfl rfl rfl ?_
  refine jT_xiload_n (v := (0, x3)) (pcN := 82) jIK_237_81 rfl rfl rfl ?_
  refine jT_xiload (v := (0, x4)) (pcN := 84) jIK_237_82 rfl rfl rfl ?_
  refine jT_xiadd (x := x3) (y := x4) (z := x3 + x4) (pcN := 85) jIK_237_84 rfl (rfl) rfl ?_
  refine jT_icF (a := x3) (b := x3 + x4) (t := 149) (by rfl) (by rfl) (by rfl) (jw_idd (by omega) (by omega)) (jw_idd (by omega) (by omega)) (by simp only [jcP] <;> omega) ?_
  refine jT_xaload_n (v := (4, 0)) (pcN := 89) jIK_237_88 rfl rfl rfl ?_
  refine jT_xiload_n (v := (0, x2)) (pcN := 90) jIK_237_89 rfl rfl rfl ?_
  refine jT_fR [0, 1, 2, 3, 4, 5, 6, 7, 8, 9, 10, 11, 12, 13, 14, 15] 30 (y := 202) (pcN := 93) (dC := 1) (bc1 := 0) (bc2 := 0) (c1 := 239) (c2 := 7434) (as := [(4, 0), (0, x2)]) (asC := [(4, 0), (0, x2)]) (LN := [(6, (0, x3)), (5, (0, 1)), (0, (4, 0)), (1, (0, x1)), (2, (0, x2)), (3, (0, x3)), (4, (0, x4))]) (stN := []) (hsC := jpK_256) (v := (9, 0)) (st2 := []) (jK_202_62 (d := 0) (by omega)) (by rfl) (by rfl) (by decide +kernel) (by rfl) (by rfl) (by omega) (by omega) (by omega) (by omega) rfl ?_
  refine jT_xaload_n (v := (4, 0)) (pcN := 94) jIK_237_93 rfl rfl rfl ?_
  refine jT_xiload (v := (0, x3)) (pcN := 96) jIK_237_94 rfl rfl rfl ?_
  refine jT_xiconst (k := 1) (pcN := 97) jIK_237_96 rfl ?_
  refine jT_fR [0, 1, 2, 3, 4, 5, 6, 7, 8, 9, 10, 11, 12, 13, 14, 15] 30 (y := 207) (pcN := 100) (dC := 2) (bc1 := 0) (bc2 := 0) (c1 := 239) (c2 := 7434) (as := [(4, 0), (0, x3), (0, 1)]) (asC := [(4, 0), (0, x3), (0, 1)]) (LN := [(6, (0, x3)), (5, (0, 1)), (0, (4, 0)), (1, (0, x1)), (2, (0, x2)), (3, (0, x3)), (4, (0, x4))]) (stN := []) (hsC := jpK_273) (v := (9, 0)) (st2 := []) (jK_207_66 (d := 0) (by omega)) (by rfl) (by rfl) (by decide +kernel) (by rfl) (by rfl) (by omega) (by omega) (by omega) (by omega) rfl ?_
  refine jT_xaload_n (v := (4, 0)) (pcN := 101) jIK_237_100 rfl rfl rfl ?_
  refine jT_fA [0, 1, 2, 3, 4, 5, 6, 7, 8, 9, 10, 11, 12, 13, 14, 15, 24, 25, 26, 27, 28, 29] 30 (y := 209) (pcN := 104) (dC := 6) (bc1 := 5) (bc2 := 180) (c1 := 234) (c2 := 7254) (as := [(4, 0)]) (asC := [(4, 0)]) (LN := [(6, (0, x3)), (5, (0, 1)), (0, (4, 0)), (1, (0, x1)), (2, (0, x2)), (3, (0, x3)), (4, (0, x4))]) (stN := []) (hsC := jpK_311) (ex := jpK_310) (v := (1, 0)) (st2 := [(1, 0)]) (hs2 := jpK_422) (jK_209_75 (d := 0)) (by rfl) (by rfl) (by decide +kernel) (by rfl) (by rfl) (by omega) (by omega) (by omega) (by omega) rfl (by decide +kernel) ?_
  refine jT_xlstore (v := (1, 0)) (LN := [(7, (1, 0)), (6, (0, x3)), (5, (0, 1)), (0, (4, 0)), (1, (0, x1)), (2, (0, x2)), (3, (0, x3)), (4, (0, x4))]) (pcN := 106) jIK_237_104 rfl rfl rfl rfl ?_
  refine jT_xiload (v := (0, 1)) (pcN := 108) jIK_237_106 rfl rfl rfl ?_
  refine jT_xifF (t := 131) (pcN := 111) jIK_237_108 rfl (by decide +kernel) rfl rfl ?_
  refine jT_xaload_n (v := (4, 0)) (pcN := 112) jIK_237_111 rfl rfl rfl ?_
  refine jT_fR [0, 1, 2, 3, 4, 5, 6, 7, 8, 9, 10, 11, 12, 13, 14, 15] 35 (y := 205) (pcN := 115) (dC := 1) (bc1 := 0) (bc2 := 0) (c1 := 234) (c2 := 7254) (as := [(4, 0)]) (asC := [(4, 0)]) (LN := [(7, (1, 0)), (6, (0, x3)), (5, (0, 1)), (0, (4, 0)), (1, (0, x1)), (2, (0, x2)), (3, (0, x3)), (4, (0, x4))]) (stN := []) (hsC := jpK_273) (v := (0, 1)) (st2 := [(0, 1)]) (jK_205_77 (d := 0)) (by rfl) (by rfl) (by decide +kernel) (by rfl) (by rfl) (by omega) (by omega) (by omega) (by omega) rfl ?_
  refine jT_xifF (t := 131) (pcN := 118) jIK_237_115 rfl (by decide +kernel) rfl rfl ?_
  refine jT_xlload (v := (1, 0)) (pcN := 120) jIK_237_118 rfl rfl rfl ?_
  refine jT_adv 1 (pcN := 123) (LN := [(7, (1, 0)), (6, (0, x3)), (5, (0, 1)), (0, (4, 0)), (1, (0, x1)), (2, (0, x2)), (3, (0, x3)), (4, (0, x4))]) (stN := [(1, (-2147483648)), (1, 0)]) (hsN := jpK_422) (c1 := 0) (s1 := 0) (c2 := 234) (s2 := 7254) (by exact rfl) ?_ (by omega) (by omega)
  refine jT_lcmp (a := 0) (b := (-2147483648)) (z := 1) (by rfl) (by rfl) (by decide +kernel) (by decide +kernel) (by decide) ?_
  refine jT_xifF (t := 131) (pcN := 127) jIK_237_124 rfl (by decide +kernel) rfl rfl ?_
  refine jT_xiconst (k := 1) (pcN := 128) jIK_237_127 rfl ?_
  refine jT_xgoto (pcN := 132) jIK_237_128 rfl ?_
  refine jT_xistore (v := (0, 1)) (LN := [(5, (0, 1)), (7, (1, 0)), (6, (0, x3)), (0, (4, 0)), (1, (0, x1)), (2, (0, x2)), (3, (0, x3)), (4, (0, x4))]) (pcN := 134) jIK_237_132 rfl rfl rfl rfl ?_
  refine jT_xiload (v := (0, 1)) (pcN := 136) jIK_237_134 rfl rfl rfl ?_
  refine jT_xifF (t := 143) (pcN := 139) jIK_237_136 rfl (by decide +kernel) rfl rfl ?_
  refine jT_xaload_n (v := (4, 0)) (pcN := 140) jIK_237_139 rfl rfl rfl ?_
  refine jT_fB [0, 1, 2, 3, 4, 5, 6, 7, 8, 9, 10, 11, 12, 13, 14, 15] 35 (y := 239) (pcN := 143) (dC := 1) (bc1 := 0) (bc2 := 0) (c1 := 234) (c2 := 7254) (as := [(4, 0)]) (asC := [(4, 0)]) (LN := [(5, (0, 1)), (7, (1, 0)), (6, (0, x3)), (0, (4, 0)), (1, (0, x1)), (2, (0, x2)), (3, (0, x3)), (4, (0, x4))]) (stN := []) (hsC := jpK_329) (hsD := jpK_332) (v := (9, 0)) (st2 := []) (hs2 := jpK_436) (jK_239_79 (d := 0)) (by rfl) (by rfl) (by decide +kernel) (by rfl) (by rfl) (by omega) (by omega) (by omega) (by omega) rfl (by decide +kernel) ?_
  refine jT_xiinc (x := x3) (z := x3 + 1) (LN := [(6, (0, x3 + 1)), (5, (0, 1)), (7, (1, 0)), (0, (4, 0)), (1, (0, x1)), (2, (0, x2)), (3, (0, x3)), (4, (0, x4))]) (pcN := 146) jIK_237_143 rfl rfl (rfl) rfl rfl ?_
  refine jT_xgoto (pcN := 79) jIK_237_146 rfl ?_
  refine jT_loc (LN := [(6, (0, x3 + 1)), (5, (0, 1)), (0, (4, 0)), (1, (0, x1)), (2, (0, x2)), (3, (0, x3)), (4, (0, x4))]) (by show List.Nodup [6, 5, 0, 1, 2, 3, 4]; decide) (by intro q hq; simp only [List.mem_cons, List.not_mem_nil, or_false] at hq; rcases hq with rfl | rfl | rfl | rfl | rfl | rfl | rfl <;> rfl) ?_
  refine jT.mono (jKl_gc_98 (b1 := 0) (b2 := 0) (by omega) (y3 := x3) (z4 := x4) (o1 := x1) (o2 := x2) (by omega) (by omega) (by omega) (by omega) ?_ (x3 + x4 - (x3 + 1)).toNat (x3 + 1) (by omega) (by omega)) (Nat.le_refl _) (by omega) (by omega) (fun _ _ _ z => z)
  refine jT_xaload_n (v := (4, 0)) (pcN := 150) jIK_237_149 rfl rfl rfl ?_
  refine jT_xiload (v := (0, 1)) (pcN := 152) jIK_237_150 rfl rfl rfl ?_
  refine jT_xiconst (k := 3) (pcN := 153) jIK_237_152 rfl ?_
  refine jT_fR [0] 35 (y := 191) (pcN := 156) (dC := 0) (bc1 := 0) (bc2 := 0) (c1 := 0) (c2 := 0) (as := [(4, 0), (0, 1), (0, 3)]) (asC := [(4, 0), (0, 1), (0, 3)]) (LN := [(5, (0, 1)), (0, (4, 0)), (1, (0, x1))]) (stN := []) (hsC := [jgh]) (v := (0, 0)) (st2 := [(0, 0)]) (jK_191_94 (d := 0)) (by rfl) (by rfl) (by decide +kernel) (by rfl) (by rfl) (by omega) (by omega) (by omega) (by omega) rfl ?_
  refine jT_xifT (pcN := 163) jIK_237_156 rfl (by decide +kernel) rfl ?_
  refine jT_xaload_n (v := (4, 0)) (pcN := 164) jIK_237_163 rfl rfl rfl ?_
  refine jT_xiload_n (v := (0, x1)) (pcN := 165) jIK_237_164 rfl rfl rfl ?_
  refine jT_fB [0, 1, 2, 3, 4, 5, 6, 7, 8, 9, 10, 11, 12, 13, 14, 15, 16, 17, 18, 19, 20, 21, 22, 23] 35 (y := 241) (pcN := 168) (dC := 1) (bc1 := 0) (bc2 := 0) (c1 := 0) (c2 := 0) (as := [(4, 0), (0, x1)]) (asC := [(4, 0), (0, x1)]) (LN := [(5, (0, 1)), (0, (4, 0)), (1, (0, x1))]) (stN := []) (hsC := jpK_401) (hsD := [jzK_363, (100, [], (jcpy (((((((((((((((List.replicate 1792 0)).set 0 0)).set 1 0)).set 2 0)).set 3 0)).set 4 0)).set 5 0)).set 6 1) ((jS0).set ((281 * x1 + 56).toNat) 1) 0 ((281 * x1 + 57).toNat) 7)), (100, [], []), jzK_359, jzK_364, jgh, jgh, jgh, jzK_327, jgh, jgh, jgh, jgh, jgh, jgh, jgh, (100, [], jS0), jgh, jgh, jgh, jgh, jgh, jgh, jgh]) (v := (0, 1)) (st2 := [(0, 1)]) (hs2 := [jzK_363, (100, [], (jcpy (((((((((((((((List.replicate 1792 0)).set 0 0)).set 1 0)).set 2 0)).set 3 0)).set 4 0)).set 5 0)).set 6 1) ((jS0).set ((281 * x1 + 56).toNat) 1) 0 ((281 * x1 + 57).toNat) 7)), (100, [], []), jzK_359, jzK_364, jgh, (130, [], [24, 25, 26, 27, 28, 29]), (101, [], [0, 0, 0, 0, 0, 0]), jzK_327, jgh, jgh, jgh, jgh, jgh, jgh, jgh, (100, [], jS0), jgh, jgh, jgh, jgh, jgh, jgh, jgh, (100, [], (jenc (jlg 0))), jgh, jgh, jgh, jgh, jgh, (101, [], [0, 0, 0, 0, 0, 0]), (101, [], [(-1), 0, 0, 0, 0, 0]), (100, [], (jenc 0)), (100, [], (jenc (-1))), (100, [], (jenc ((-1) * (jlg 0))))]) (jK_241_97 (d := 0) (by omega)) (by rfl) (by rfl) (by decide +kernel) (by rfl) (by rfl) (by omega) (by omega) (by omega) (by omega) rfl rfl ?_
  exact jT_ret rfl (by decide) (by show 30 ≤ 35; omega) (by omega) (by omega) ⟨rfl, rfl, rfl⟩
def jpK_448 : List JC := [jzK_363, jgh, jgh, jgh, jgh, jgh, jgh, jgh, jgh, jgh, jgh, jgh, jgh, jgh, jgh, jgh]
theorem jK_186_100 {xs : List Int} {d : Nat} : jT xs d 186 16 0 [(0, (4, 0))] [] jpK_448 0 0 (fun k v hsN => k = 0 ∧ v = (0, 0) ∧ hsN = jpK_448 ++ []) := by
  refine jT_advK 2 (pcN := 4) (LN := [(0, (4, 0))]) (stN := [(0, 0)]) (hsN := jpK_448) (c1 := 0) (s1 := 0) (c2 := 0) (s2 := 0) (by decide +kernel) ?_ (by omega) (by omega)
  exact jT_ret rfl (by decide) (by show 16 ≤ 16; omega) (by omega) (by omega) ⟨rfl, rfl, rfl⟩
theorem jK_116_101 {xs : List Int} {d : Nat} {x4 : Int} (h_x4 : 41 ≤ x4 ∧ x4 ≤ 2147483647) : jT xs d 116 1 0 [(0, (4, 0)), (1, (0, x4)), (2, (0, 1)), (3, (0, 40))] [] [jgh] 1 6 (fun k v hsN => k = 1 ∧ v = (0, 1) ∧ hsN = [jgh] ++ []) := by
  refine jT_xiload_n (v := (0, x4)) (pcN := 1) jIK_116_0 rfl rfl rfl ?_
  refine jT_xiload_n (v := (0, 1)) (pcN := 2) jIK_116_1 rfl rfl rfl ?_
  refine jT_icF (a := x4) (b := 1) (t := 10) (by rfl) (by rfl) (by rfl) (jw_idd (by omega) (by omega)) (jw_idd (by omega) (by omega)) (by simp only [jcP] <;> omega) ?_
  refine jT_xiload_n (v := (0, x4)) (pcN := 6) jIK_116_5 rfl rfl rfl ?_
  refine jT_xiload_n (v := (0, 40)) (pcN := 7) jIK_116_6 rfl rfl rfl ?_
  refine jT_icF (a := x4) (b := 40) (t := 21) (by rfl) (by rfl) (by rfl) (jw_idd (by omega) (by omega)) (jw_idd (by omega) (by omega)) (by simp only [jcP] <;> omega) ?_
  exact jT_ret (c1 := 1) (s1 := 6) rfl (by decide) (by show 1 ≤ 1; omega) (by omega) (by omega) ⟨rfl, rfl, rfl⟩
theorem jK_126_102 {xs : List Int} {d : Nat} {x1 x2 x3 x4 : Int} (h_x1 : 0 ≤ x1 ∧ x1 ≤ 3) (h_x2 : 0 ≤ x2 ∧ x2 ≤ 7) (h_x3 : (-50) ≤ x3 ∧ x3 ≤ 50) (h_x4 : 41 ≤ x4 ∧ x4 ≤ 2147483647) : jT xs (d + 1) 126 12 0 [(0, (4, 0)), (1, (0, x1)), (2, (0, x2)), (3, (0, x3)), (4, (0, x4))] [] jpK_6 1 6 (fun k v hsN => k = 1 ∧ v = (0, 1) ∧ hsN = jpK_6 ++ []) := by
  refine jT_xaload_n (v := (4, 0)) (pcN := 1) jIK_126_0 rfl rfl rfl ?_
  refine jT_xiload_n (v := (0, x1)) (pcN := 2) jIK_126_1 rfl rfl rfl ?_
  refine jT_xiconst (k := 4) (pcN := 3) jIK_126_2 rfl ?_
  refine jT_fR [0] 12 (y := 115) (pcN := 6) (dC := 0) (bc1 := 0) (bc2 := 0) (c1 := 1) (c2 := 6) (as := [(4, 0), (0, x1), (0, 4)]) (asC := [(4, 0), (0, x1), (0, 4)]) (LN := [(0, (4, 0)), (1, (0, x1)), (2, (0, x2)), (3, (0, x3)), (4, (0, x4))]) (stN := []) (hsC := [jgh]) (v := (9, 0)) (st2 := []) (jK_115_9 (d := 0) (by omega)) (by rfl) (by rfl) (by decide +kernel) (by rfl) (by rfl) (by omega) (by omega) (by omega) (by omega) rfl ?_
  refine jT_xaload_n (v := (4, 0)) (pcN := 7) jIK_126_6 rfl rfl rfl ?_
  refine jT_xiload_n (v := (0, x2)) (pcN := 8) jIK_126_7 rfl rfl rfl ?_
  refine jT_xbipush (k := 8) (pcN := 10) jIK_126_8 (by decide) rfl ?_
  refine jT_fR [0] 12 (y := 115) (pcN := 13) (dC := 0) (bc1 := 0) (bc2 := 0) (c1 := 1) (c2 := 6) (as := [(4, 0), (0, x2), (0, 8)]) (asC := [(4, 0), (0, x2), (0, 8)]) (LN := [(0, (4, 0)), (1, (0, x1)), (2, (0, x2)), (3, (0, x3)), (4, (0, x4))]) (stN := []) (hsC := [jgh]) (v := (9, 0)) (st2 := []) (jK_115_16 (d := 0) (by omega)) (by rfl) (by rfl) (by decide +kernel) (by rfl) (by rfl) (by omega) (by omega) (by omega) (by omega) rfl ?_
  refine jT_xaload_n (v := (4, 0)) (pcN := 14) jIK_126_13 rfl rfl rfl ?_
  refine jT_xiload_n (v := (0, x3)) (pcN := 15) jIK_126_14 rfl rfl rfl ?_
  refine jT_xbipush (k := (-50)) (pcN := 17) jIK_126_15 (by decide) rfl ?_
  refine jT_xbipush (k := 50) (pcN := 19) jIK_126_17 (by decide) rfl ?_
  refine jT_fR [0] 12 (y := 116) (pcN := 22) (dC := 0) (bc1 := 0) (bc2 := 0) (c1 := 1) (c2 := 6) (as := [(4, 0), (0, x3), (0, (-50)), (0, 50)]) (asC := [(4, 0), (0, x3), (0, (-50)), (0, 50)]) (LN := [(0, (4, 0)), (1, (0, x1)), (2, (0, x2)), (3, (0, x3)), (4, (0, x4))]) (stN := []) (hsC := [jgh]) (v := (9, 0)) (st2 := []) (jK_116_26 (d := 0) (by omega)) (by rfl) (by rfl) (by decide +kernel) (by rfl) (by rfl) (by omega) (by omega) (by omega) (by omega) rfl ?_
  refine jT_xaload_n (v := (4, 0)) (pcN := 23) jIK_126_22 rfl rfl rfl ?_
  refine jT_xiload (v := (0, x4)) (pcN := 25) jIK_126_23 rfl rfl rfl ?_
  refine jT_xiconst (k := 1) (pcN := 26) jIK_126_25 rfl ?_
  refine jT_xbipush (k := 40) (pcN := 28) jIK_126_26 (by decide) rfl ?_
  exact jT_fX [0] 12 (y := 116) (pcN := 31) (dC := 0) (bc1 := 1) (bc2 := 6) (as := [(4, 0), (0, x4), (0, 1), (0, 40)]) (asC := [(4, 0), (0, x4), (0, 1), (0, 40)]) (LN := [(0, (4, 0)), (1, (0, x1)), (2, (0, x2)), (3, (0, x3)), (4, (0, x4))]) (stN := []) (hsC := [jgh]) (e := 1) (jK_116_101 (d := 0) (by omega)) (by rfl) (by rfl) (by decide +kernel) (by rfl) (by rfl) (by omega) (by omega) (by omega) (by omega) ⟨rfl, ⟨rfl, rfl, rfl⟩⟩
theorem jK_335_103 {xs : List Int} {d : Nat} {x1 x2 x3 x4 : Int} (h_x1 : 0 ≤ x1 ∧ x1 ≤ 3) (h_x2 : 0 ≤ x2 ∧ x2 ≤ 7) (h_x3 : (-50) ≤ x3 ∧ x3 ≤ 50) (h_x4 : 41 ≤ x4 ∧ x4 ≤ 2147483647) : jT xs (d + 2) 335 13 0 [(0, (4, 0)), (1, (0, x1)), (2, (0, x2)), (3, (0, x3)), (4, (0, x4)), (5, (4, 1))] [] jpK_15 1 6 (fun k v hsN => k = 0 ∧ v = (0, 2) ∧ hsN = jpK_15 ++ []) := by
  refine jT_xaload (v := (4, 1)) (pcN := 2) jIK_335_0 rfl rfl rfl ?_
  refine jT_xiconst (k := 0) (pcN := 3) jIK_335_2 rfl ?_
  refine jT_xaload_n (v := (4, 0)) (pcN := 4) jIK_335_3 rfl rfl rfl ?_
  refine jT_xiload_n (v := (0, x1)) (pcN := 5) jIK_335_4 rfl rfl rfl ?_
  refine jT_xiload_n (v := (0, x2)) (pcN := 6) jIK_335_5 rfl rfl rfl ?_
  refine jT_xiload_n (v := (0, x3)) (pcN := 7) jIK_335_6 rfl rfl rfl ?_
  refine jT_xiload (v := (0, x4)) (pcN := 9) jIK_335_7 rfl rfl rfl ?_
  exact jT_fX [0, 2, 3, 4, 5, 6, 7, 8, 9, 10, 11, 12] 13 (y := 126) (pcN := 12) (dC := 1) (bc1 := 1) (bc2 := 6) (as := [(4, 0), (0, x1), (0, x2), (0, x3), (0, x4)]) (asC := [(4, 0), (0, x1), (0, x2), (0, x3), (0, x4)]) (LN := [(0, (4, 0)), (1, (0, x1)), (2, (0, x2)), (3, (0, x3)), (4, (0, x4)), (5, (4, 1))]) (stN := [(0, 0), (4, 1)]) (hsC := jpK_6) (e := 1) (jK_126_102 (d := 0) (by omega) (by omega) (by omega) (by omega)) (by rfl) (by rfl) (by decide +kernel) (by rfl) (by rfl) (by omega) (by omega) (by omega) (by omega) (show _ from ⟨rfl, rfl, rfl⟩)
theorem jK_237_104 {xs : List Int} {d : Nat} {x1 x2 x3 x4 : Int} (h_x1 : 0 ≤ x1 ∧ x1 ≤ 3) (h_x2 : 0 ≤ x2 ∧ x2 ≤ 7) (h_x3 : (-50) ≤ x3 ∧ x3 ≤ 50) (h_x4 : 41 ≤ x4 ∧ x4 ≤ 2147483647) : jT xs (d + 2) 237 16 0 [(0, (4, 0)), (1, (0, x1)), (2, (0, x2)), (3, (0, x3)), (4, (0, x4))] [] jpK_22 0 0 (fun k v hsN => k = 0 ∧ v = (0, 0) ∧ hsN = jpK_48) := by
  refine jT_xaload_n (v := (4, 0)) (pcN := 1) jIK_237_0 rfl rfl rfl ?_
  refine jT_xiload_n (v := (0, x1)) (pcN := 2) jIK_237_1 rfl rfl rfl ?_
  refine jT_fR [] 16 (y := 238) (pcN := 5) (dC := 1) (bc1 := 0) (bc2 := 0) (c1 := 0) (c2 := 0) (as := [(0, x1)]) (asC := [(0, x1)]) (LN := [(0, (4, 0)), (1, (0, x1)), (2, (0, x2)), (3, (0, x3)), (4, (0, x4))]) (stN := [(4, 0)]) (hsC := []) (v := (0, 1)) (st2 := [(0, 1), (4, 0)]) (jK_238_13 (d := 0) (by omega)) (by rfl) (by rfl) (by decide +kernel) (by rfl) (by rfl) (by omega) (by omega) (by omega) (by omega) rfl ?_
  refine jT_xifF (t := 19) (pcN := 8) jIK_237_5 rfl (by decide +kernel) rfl rfl ?_
  refine jT_xiload_n (v := (0, x2)) (pcN := 9) jIK_237_8 rfl rfl rfl ?_
  refine jT_fR [] 16 (y := 188) (pcN := 12) (dC := 1) (bc1 := 0) (bc2 := 0) (c1 := 0) (c2 := 0) (as := [(0, x2)]) (asC := [(0, x2)]) (LN := [(0, (4, 0)), (1, (0, x1)), (2, (0, x2)), (3, (0, x3)), (4, (0, x4))]) (stN := [(4, 0)]) (hsC := []) (v := (0, 1)) (st2 := [(0, 1), (4, 0)]) (jK_188_20 (d := 0) (by omega)) (by rfl) (by rfl) (by decide +kernel) (by rfl) (by rfl) (by omega) (by omega) (by omega) (by omega) rfl ?_
  refine jT_xifF (t := 19) (pcN := 15) jIK_237_12 rfl (by decide +kernel) rfl rfl ?_
  refine jT_xiconst (k := 1) (pcN := 16) jIK_237_15 rfl ?_
  refine jT_xgoto (pcN := 20) jIK_237_16 rfl ?_
  refine jT_fR [0, 1, 2, 3, 4, 5, 6, 7, 8, 9, 10, 11, 12, 13, 14, 15] 16 (y := 190) (pcN := 23) (dC := 1) (bc1 := 0) (bc2 := 0) (c1 := 0) (c2 := 0) (as := [(4, 0), (0, 1)]) (asC := [(4, 0), (0, 1)]) (LN := [(0, (4, 0)), (1, (0, x1)), (2, (0, x2)), (3, (0, x3)), (4, (0, x4))]) (stN := []) (hsC := jpK_22) (v := (0, 0)) (st2 := [(0, 0)]) (jK_190_22 (d := 0)) (by rfl) (by rfl) (by decide +kernel) (by rfl) (by rfl) (by omega) (by omega) (by omega) (by omega) rfl ?_
  refine jT_xifF (t := 66) (pcN := 26) jIK_237_23 rfl (by decide +kernel) rfl rfl ?_
  refine jT_xaload_n (v := (4, 0)) (pcN := 27) jIK_237_26 rfl rfl rfl ?_
  refine jT_xiload_n (v := (0, x3)) (pcN := 28) jIK_237_27 rfl rfl rfl ?_
  refine jT_xi2l (x := x3) (z := x3) (pcN := 29) jIK_237_28 rfl (jw_idd (by omega) (by omega)) rfl ?_
  refine jT_adv 2 (pcN := 35) (LN := [(0, (4, 0)), (1, (0, x1)), (2, (0, x2)), (3, (0, x3)), (4, (0, x4))]) (stN := [(1, 50), (1, (-50)), (1, x3), (4, 0)]) (hsN := jpK_22) (c1 := 0) (s1 := 0) (c2 := 0) (s2 := 0) (by exact rfl) ?_ (by omega) (by omega)
  refine jT_fR [] 16 (y := 189) (pcN := 38) (dC := 0) (bc1 := 0) (bc2 := 0) (c1 := 0) (c2 := 0) (as := [(1, x3), (1, (-50)), (1, 50)]) (asC := [(1, x3), (1, (-50)), (1, 50)]) (LN := [(0, (4, 0)), (1, (0, x1)), (2, (0, x2)), (3, (0, x3)), (4, (0, x4))]) (stN := [(4, 0)]) (hsC := []) (v := (0, 1)) (st2 := [(0, 1), (4, 0)]) (jT_in_ok (d := 0) (v := x3) (lo := (-50)) (hi := 50) (by omega) (by omega) (by omega) (by omega) (by omega)) (by rfl) (by rfl) (by decide +kernel) (by rfl) (by rfl) (by omega) (by omega) (by omega) (by omega) rfl ?_
  refine jT_xifF (t := 58) (pcN := 41) jIK_237_38 rfl (by decide +kernel) rfl rfl ?_
  refine jT_xiload (v := (0, x4)) (pcN := 43) jIK_237_41 rfl rfl rfl ?_
  refine jT_xi2l (x := x4) (z := x4) (pcN := 44) jIK_237_43 rfl (jw_idd (by omega) (by omega)) rfl ?_
  refine jT_xlconst (z := 1) (pcN := 45) jIK_237_44 rfl rfl ?_
  refine jT_adv 1 (pcN := 48) (LN := [(0, (4, 0)), (1, (0, x1)), (2, (0, x2)), (3, (0, x3)), (4, (0, x4))]) (stN := [(1, 40), (1, 1), (1, x4), (4, 0)]) (hsN := jpK_22) (c1 := 0) (s1 := 0) (c2 := 0) (s2 := 0) (by exact rfl) ?_ (by omega) (by omega)
  refine jT_fR [] 16 (y := 189) (pcN := 51) (dC := 0) (bc1 := 0) (bc2 := 0) (c1 := 0) (c2 := 0) (as := [(1, x4), (1, 1), (1, 40)]) (asC := [(1, x4), (1, 1), (1, 40)]) (LN := [(0, (4, 0)), (1, (0, x1)), (2, (0, x2)), (3, (0, x3)), (4, (0, x4))]) (stN := [(4, 0)]) (hsC := []) (v := (0, 0)) (st2 := [(0, 0), (4, 0)]) (jT_in_hi (d := 0) (v := x4) (lo := 1) (hi := 40) (by omega) (by omega) (by omega) (by omega) (by omega)) (by rfl) (by rfl) (by decide +kernel) (by rfl) (by rfl) (by omega) (by omega) (by omega) (by omega) rfl ?_
  refine jT_xifT (pcN := 58) jIK_237_51 rfl (by decide +kernel) rfl ?_
  refine jT_xiconst (k := 0) (pcN := 59) jIK_237_58 rfl ?_
  refine jT_xiconst (k := 2) (pcN := 60) jIK_237_59 rfl ?_
  refine jT_fB [0, 1, 2, 3, 4, 5, 6, 7, 8, 9, 10, 11, 12, 13, 14, 15] 16 (y := 191) (pcN := 63) (dC := 0) (bc1 := 0) (bc2 := 0) (c1 := 0) (c2 := 0) (as := [(4, 0), (0, 0), (0, 2)]) (asC := [(4, 0), (0, 0), (0, 2)]) (LN := [(0, (4, 0)), (1, (0, x1)), (2, (0, x2)), (3, (0, x3)), (4, (0, x4))]) (stN := []) (hsC := jpK_22) (hsD := jpK_48) (v := (0, 1)) (st2 := [(0, 1)]) (hs2 := jpK_48) (jK_191_23 (d := 0)) (by rfl) (by rfl) (by decide +kernel) (by rfl) (by rfl) (by omega) (by omega) (by omega) (by omega) rfl (by decide +kernel) ?_
  refine jT_xifF (t := 68) (pcN := 66) jIK_237_63 rfl (by decide +kernel) rfl rfl ?_
  refine jT_xiconst (k := 0) (pcN := 67) jIK_237_66 rfl ?_
  exact jT_ret rfl (by decide) (by show 16 ≤ 16; omega) (by omega) (by omega) ⟨rfl, rfl, rfl⟩
theorem jK_116_105 {xs : List Int} {d : Nat} {x3 : Int} (h_x3 : 51 ≤ x3 ∧ x3 ≤ 2147483647) : jT xs d 116 1 0 [(0, (4, 0)), (1, (0, x3)), (2, (0, (-50))), (3, (0, 50))] [] [jgh] 1 6 (fun k v hsN => k = 1 ∧ v = (0, 1) ∧ hsN = [jgh] ++ []) := by
  refine jT_xiload_n (v := (0, x3)) (pcN := 1) jIK_116_0 rfl rfl rfl ?_
  refine jT_xiload_n (v := (0, (-50))) (pcN := 2) jIK_116_1 rfl rfl rfl ?_
  refine jT_icF (a := x3) (b := (-50)) (t := 10) (by rfl) (by rfl) (by rfl) (jw_idd (by omega) (by omega)) (jw_idd (by omega) (by omega)) (by simp only [jcP] <;> omega) ?_
  refine jT_xiload_n (v := (0, x3)) (pcN := 6) jIK_116_5 rfl rfl rfl ?_
  refine jT_xiload_n (v := (0, 50)) (pcN := 7) jIK_116_6 rfl rfl rfl ?_
  refine jT_icF (a := x3) (b := 50) (t := 21) (by rfl) (by rfl) (by rfl) (jw_idd (by omega) (by omega)) (jw_idd (by omega) (by omega)) (by simp only [jcP] <;> omega) ?_
  exact jT_ret (c1 := 1) (s1 := 6) rfl (by decide) (by show 1 ≤ 1; omega) (by omega) (by omega) ⟨rfl, rfl, rfl⟩
theorem jK_126_106 {xs : List Int} {d : Nat} {x1 x2 x3 x4 : Int} (h_x1 : 0 ≤ x1 ∧ x1 ≤ 3) (h_x2 : 0 ≤ x2 ∧ x2 ≤ 7) (h_x3 : 51 ≤ x3 ∧ x3 ≤ 2147483647) (h_x4 : (-2147483648) ≤ x4 ∧ x4 ≤ 2147483647) : jT xs (d + 1) 126 12 0 [(0, (4, 0)), (1, (0, x1)), (2, (0, x2)), (3, (0, x3)), (4, (0, x4))] [] jpK_6 1 6 (fun k v hsN => k = 1 ∧ v = (0, 1) ∧ hsN = jpK_6 ++ []) := by
  refine jT_xaload_n (v := (4, 0)) (pcN := 1) jIK_126_0 rfl rfl rfl ?_
  refine jT_xiload_n (v := (0, x1)) (pcN := 2) jIK_126_1 rfl rfl rfl ?_
  refine jT_xiconst (k := 4) (pcN := 3) jIK_126_2 rfl ?_
  refine jT_fR [0] 12 (y := 115) (pcN := 6) (dC := 0) (bc1 := 0) (bc2 := 0) (c1 := 1) (c2 := 6) (as := [(4, 0), (0, x1), (0, 4)]) (asC := [(4, 0), (0, x1), (0, 4)]) (LN := [(0, (4, 0)), (1, (0, x1)), (2, (0, x2)), (3, (0, x3)), (4, (0, x4))]) (stN := []) (hsC := [jgh]) (v := (9, 0)) (st2 := []) (jK_115_9 (d := 0) (by omega)) (by rfl) (by rfl) (by decide +kernel) (by rfl) (by rfl) (by omega) (by omega) (by omega) (by omega) rfl ?_
  refine jT_xaload_n (v := (4, 0)) (pcN := 7) jIK_126_6 rfl rfl rfl ?_
  refine jT_xiload_n (v := (0, x2)) (pcN := 8) jIK_126_7 rfl rfl rfl ?_
  refine jT_xbipush (k := 8) (pcN := 10) jIK_126_8 (by decide) rfl ?_
  refine jT_fR [0] 12 (y := 115) (pcN := 13) (dC := 0) (bc1 := 0) (bc2 := 0) (c1 := 1) (c2 := 6) (as := [(4, 0), (0, x2), (0, 8)]) (asC := [(4, 0), (0, x2), (0, 8)]) (LN := [(0, (4, 0)), (1, (0, x1)), (2, (0, x2)), (3, (0, x3)), (4, (0, x4))]) (stN := []) (hsC := [jgh]) (v := (9, 0)) (st2 := []) (jK_115_16 (d := 0) (by omega)) (by rfl) (by rfl) (by decide +kernel) (by rfl) (by rfl) (by omega) (by omega) (by omega) (by omega) rfl ?_
  refine jT_xaload_n (v := (4, 0)) (pcN := 14) jIK_126_13 rfl rfl rfl ?_
  refine jT_xiload_n (v := (0, x3)) (pcN := 15) jIK_126_14 rfl rfl rfl ?_
  refine jT_xbipush (k := (-50)) (pcN := 17) jIK_126_15 (by decide) rfl ?_
  refine jT_xbipush (k := 50) (pcN := 19) jIK_126_17 (by decide) rfl ?_
  exact jT_fX [0] 12 (y := 116) (pcN := 22) (dC := 0) (bc1 := 1) (bc2 := 6) (as := [(4, 0), (0, x3), (0, (-50)), (0, 50)]) (asC := [(4, 0), (0, x3), (0, (-50)), (0, 50)]) (LN := [(0, (4, 0)), (1, (0, x1)), (2, (0, x2)), (3, (0, x3)), (4, (0, x4))]) (stN := []) (hsC := [jgh]) (e := 1) (jK_116_105 (d := 0) (by omega)) (by rfl) (by rfl) (by decide +kernel) (by rfl) (by rfl) (by omega) (by omega) (by omega) (by omega) ⟨rfl, ⟨rfl, rfl, rfl⟩⟩
theorem jK_335_107 {xs : List Int} {d : Nat} {x1 x2 x3 x4 : Int} (h_x1 : 0 ≤ x1 ∧ x1 ≤ 3) (h_x2 : 0 ≤ x2 ∧ x2 ≤ 7) (h_x3 : 51 ≤ x3 ∧ x3 ≤ 2147483647) (h_x4 : (-2147483648) ≤ x4 ∧ x4 ≤ 2147483647) : jT xs (d + 2) 335 13 0 [(0, (4, 0)), (1, (0, x1)), (2, (0, x2)), (3, (0, x3)), (4, (0, x4)), (5, (4, 1))] [] jpK_15 1 6 (fun k v hsN => k = 0 ∧ v = (0, 2) ∧ hsN = jpK_15 ++ []) := by
  refine jT_xaload (v := (4, 1)) (pcN := 2) jIK_335_0 rfl rfl rfl ?_
  refine jT_xiconst (k := 0) (pcN := 3) jIK_335_2 rfl ?_
  refine jT_xaload_n (v := (4, 0)) (pcN := 4) jIK_335_3 rfl rfl rfl ?_
  refine jT_xiload_n (v := (0, x1)) (pcN := 5) jIK_335_4 rfl rfl rfl ?_
  refine jT_xiload_n (v := (0, x2)) (pcN := 6) jIK_335_5 rfl rfl rfl ?_
  refine jT_xiload_n (v := (0, x3)) (pcN := 7) jIK_335_6 rfl rfl rfl ?_
  refine jT_xiload (v := (0, x4)) (pcN := 9) jIK_335_7 rfl rfl rfl ?_
  exact jT_fX [0, 2, 3, 4, 5, 6, 7, 8, 9, 10, 11, 12] 13 (y := 126) (pcN := 12) (dC := 1) (bc1 := 1) (bc2 := 6) (as := [(4, 0), (0, x1), (0, x2), (0, x3), (0, x4)]) (asC := [(4, 0), (0, x1), (0, x2), (0, x3), (0, x4)]) (LN := [(0, (4, 0)), (1, (0, x1)), (2, (0, x2)), (3, (0, x3)), (4, (0, x4)), (5, (4, 1))]) (stN := [(0, 0), (4, 1)]) (hsC := jpK_6) (e := 1) (jK_126_106 (d := 0) (by omega) (by omega) (by omega) (by omega)) (by rfl) (by rfl) (by decide +kernel) (by rfl) (by rfl) (by omega) (by omega) (by omega) (by omega) (show _ from ⟨rfl, rfl, rfl⟩)
theorem jK_237_108 {xs : List Int} {d : Nat} {x1 x2 x3 x4 : Int} (h_x1 : 0 ≤ x1 ∧ x1 ≤ 3) (h_x2 : 0 ≤ x2 ∧ x2 ≤ 7) (h_x3 : 51 ≤ x3 ∧ x3 ≤ 2147483647) (h_x4 : (-2147483648) ≤ x4 ∧ x4 ≤ 2147483647) : jT xs (d + 2) 237 16 0 [(0, (4, 0)), (1, (0, x1)), (2, (0, x2)), (3, (0, x3)), (4, (0, x4))] [] jpK_22 0 0 (fun k v hsN => k = 0 ∧ v = (0, 0) ∧ hsN = jpK_48) := by
  refine jT_xaload_n (v := (4, 0)) (pcN := 1) jIK_237_0 rfl rfl rfl ?_
  refine jT_xiload_n (v := (0, x1)) (pcN := 2) jIK_237_1 rfl rfl rfl ?_
  refine jT_fR [] 16 (y := 238) (pcN := 5) (dC := 1) (bc1 := 0) (bc2 := 0) (c1 := 0) (c2 := 0) (as := [(0, x1)]) (asC := [(0, x1)]) (LN := [(0, (4, 0)), (1, (0, x1)), (2, (0, x2)), (3, (0, x3)), (4, (0, x4))]) (stN := [(4, 0)]) (hsC := []) (v := (0, 1)) (st2 := [(0, 1), (4, 0)]) (jK_238_13 (d := 0) (by omega)) (by rfl) (by rfl) (by decide +kernel) (by rfl) (by rfl) (by omega) (by omega) (by omega) (by omega) rfl ?_
  refine jT_xifF (t := 19) (pcN := 8) jIK_237_5 rfl (by decide +kernel) rfl rfl ?_
  refine jT_xiload_n (v := (0, x2)) (pcN := 9) jIK_237_8 rfl rfl rfl ?_
  refine jT_fR [] 16 (y := 188) (pcN := 12) (dC := 1) (bc1 := 0) (bc2 := 0) (c1 := 0) (c2 := 0) (as := [(0, x2)]) (asC := [(0, x2)]) (LN := [(0, (4, 0)), (1, (0, x1)), (2, (0, x2)), (3, (0, x3)), (4, (0, x4))]) (stN := [(4, 0)]) (hsC := []) (v := (0, 1)) (st2 := [(0, 1), (4, 0)]) (jK_188_20 (d := 0) (by omega)) (by rfl) (by rfl) (by decide +kernel) (by rfl) (by rfl) (by omega) (by omega) (by omega) (by omega) rfl ?_
  refine jT_xifF (t := 19) (pcN := 15) jIK_237_12 rfl (by decide +kernel) rfl rfl ?_
  refine jT_xiconst (k := 1) (pcN := 16) jIK_237_15 rfl ?_
  refine jT_xgoto (pcN := 20) jIK_237_16 rfl ?_
  refine jT_fR [0, 1, 2, 3, 4, 5, 6, 7, 8, 9, 10, 11, 12, 13, 14, 15] 16 (y := 190) (pcN := 23) (dC := 1) (bc1 := 0) (bc2 := 0) (c1 := 0) (c2 := 0) (as := [(4, 0), (0, 1)]) (asC := [(4, 0), (0, 1)]) (LN := [(0, (4, 0)), (1, (0, x1)), (2, (0, x2)), (3, (0, x3)), (4, (0, x4))]) (stN := []) (hsC := jpK_22) (v := (0, 0)) (st2 := [(0, 0)]) (jK_190_22 (d := 0)) (by rfl) (by rfl) (by decide +kernel) (by rfl) (by rfl) (by omega) (by omega) (by omega) (by omega) rfl ?_
  refine jT_xifF (t := 66) (pcN := 26) jIK_237_23 rfl (by decide +kernel) rfl rfl ?_
  refine jT_xaload_n (v := (4, 0)) (pcN := 27) jIK_237_26 rfl rfl rfl ?_
  refine jT_xiload_n (v := (0, x3)) (pcN := 28) jIK_237_27 rfl rfl rfl ?_
  refine jT_xi2l (x := x3) (z := x3) (pcN := 29) jIK_237_28 rfl (jw_idd (by omega) (by omega)) rfl ?_
  refine jT_adv 2 (pcN := 35) (LN := [(0, (4, 0)), (1, (0, x1)), (2, (0, x2)), (3, (0, x3)), (4, (0, x4))]) (stN := [(1, 50), (1, (-50)), (1, x3), (4, 0)]) (hsN := jpK_22) (c1 := 0) (s1 := 0) (c2 := 0) (s2 := 0) (by exact rfl) ?_ (by omega) (by omega)
  refine jT_fR [] 16 (y := 189) (pcN := 38) (dC := 0) (bc1 := 0) (bc2 := 0) (c1 := 0) (c2 := 0) (as := [(1, x3), (1, (-50)), (1, 50)]) (asC := [(1, x3), (1, (-50)), (1, 50)]) (LN := [(0, (4, 0)), (1, (0, x1)), (2, (0, x2)), (3, (0, x3)), (4, (0, x4))]) (stN := [(4, 0)]) (hsC := []) (v := (0, 0)) (st2 := [(0, 0), (4, 0)]) (jT_in_hi (d := 0) (v := x3) (lo := (-50)) (hi := 50) (by omega) (by omega) (by omega) (by omega) (by omega)) (by rfl) (by rfl) (by decide +kernel) (by rfl) (by rfl) (by omega) (by omega) (by omega) (by omega) rfl ?_
  refine jT_xifT (pcN := 58) jIK_237_38 rfl (by decide +kernel) rfl ?_
  refine jT_xiconst (k := 0) (pcN := 59) jIK_237_58 rfl ?_
  refine jT_xiconst (k := 2) (pcN := 60) jIK_237_59 rfl ?_
  refine jT_fB [0, 1, 2, 3, 4, 5, 6, 7, 8, 9, 10, 11, 12, 13, 14, 15] 16 (y := 191) (pcN := 63) (dC := 0) (bc1 := 0) (bc2 := 0) (c1 := 0) (c2 := 0) (as := [(4, 0), (0, 0), (0, 2)]) (asC := [(4, 0), (0, 0), (0, 2)]) (LN := [(0, (4, 0)), (1, (0, x1)), (2, (0, x2)), (3, (0, x3)), (4, (0, x4))]) (stN := []) (hsC := jpK_22) (hsD := jpK_48) (v := (0, 1)) (st2 := [(0, 1)]) (hs2 := jpK_48) (jK_191_23 (d := 0)) (by rfl) (by rfl) (by decide +kernel) (by rfl) (by rfl) (by omega) (by omega) (by omega) (by omega) rfl (by decide +kernel) ?_
  refine jT_xifF (t := 68) (pcN := 66) jIK_237_63 rfl (by decide +kernel) rfl rfl ?_
  refine jT_xiconst (k := 0) (pcN := 67) jIK_237_66 rfl ?_
  exact jT_ret rfl (by decide) (by show 16 ≤ 16; omega) (by omega) (by omega) ⟨rfl, rfl, rfl⟩
theorem jK_115_109 {xs : List Int} {d : Nat} {x2 : Int} (h_x2 : 8 ≤ x2 ∧ x2 ≤ 2147483647) : jT xs d 115 1 0 [(0, (4, 0)), (1, (0, x2)), (2, (0, 8))] [] [jgh] 1 6 (fun k v hsN => k = 1 ∧ v = (0, 0) ∧ hsN = [jgh] ++ []) := by
  refine jT_xiload_n (v := (0, x2)) (pcN := 1) jIK_115_0 rfl rfl rfl ?_
  refine jT_ifF (a := x2) (t := 9) (by rfl) (by rfl) (by rfl) (jw_idd (by omega) (by omega)) (by simp only [jcP] <;> omega) ?_
  refine jT_xiload_n (v := (0, x2)) (pcN := 5) jIK_115_4 rfl rfl rfl ?_
  refine jT_xiload_n (v := (0, 8)) (pcN := 6) jIK_115_5 rfl rfl rfl ?_
  refine jT_icF (a := x2) (b := 8) (t := 20) (by rfl) (by rfl) (by rfl) (jw_idd (by omega) (by omega)) (jw_idd (by omega) (by omega)) (by simp only [jcP] <;> omega) ?_
  exact jT_ret (c1 := 1) (s1 := 6) rfl (by decide) (by show 1 ≤ 1; omega) (by omega) (by omega) ⟨rfl, rfl, rfl⟩
theorem jK_126_110 {xs : List Int} {d : Nat} {x1 x2 x3 x4 : Int} (h_x1 : 0 ≤ x1 ∧ x1 ≤ 3) (h_x2 : 8 ≤ x2 ∧ x2 ≤ 2147483647) (h_x3 : (-2147483648) ≤ x3 ∧ x3 ≤ 2147483647) (h_x4 : (-2147483648) ≤ x4 ∧ x4 ≤ 2147483647) : jT xs (d + 1) 126 12 0 [(0, (4, 0)), (1, (0, x1)), (2, (0, x2)), (3, (0, x3)), (4, (0, x4))] [] jpK_6 1 6 (fun k v hsN => k = 1 ∧ v = (0, 0) ∧ hsN = jpK_6 ++ []) := by
  refine jT_xaload_n (v := (4, 0)) (pcN := 1) jIK_126_0 rfl rfl rfl ?_
  refine jT_xiload_n (v := (0, x1)) (pcN := 2) jIK_126_1 rfl rfl rfl ?_
  refine jT_xiconst (k := 4) (pcN := 3) jIK_126_2 rfl ?_
  refine jT_fR [0] 12 (y := 115) (pcN := 6) (dC := 0) (bc1 := 0) (bc2 := 0) (c1 := 1) (c2 := 6) (as := [(4, 0), (0, x1), (0, 4)]) (asC := [(4, 0), (0, x1), (0, 4)]) (LN := [(0, (4, 0)), (1, (0, x1)), (2, (0, x2)), (3, (0, x3)), (4, (0, x4))]) (stN := []) (hsC := [jgh]) (v := (9, 0)) (st2 := []) (jK_115_9 (d := 0) (by omega)) (by rfl) (by rfl) (by decide +kernel) (by rfl) (by rfl) (by omega) (by omega) (by omega) (by omega) rfl ?_
  refine jT_xaload_n (v := (4, 0)) (pcN := 7) jIK_126_6 rfl rfl rfl ?_
  refine jT_xiload_n (v := (0, x2)) (pcN := 8) jIK_126_7 rfl rfl rfl ?_
  refine jT_xbipush (k := 8) (pcN := 10) jIK_126_8 (by decide) rfl ?_
  exact jT_fX [0] 12 (y := 115) (pcN := 13) (dC := 0) (bc1 := 1) (bc2 := 6) (as := [(4, 0), (0, x2), (0, 8)]) (asC := [(4, 0), (0, x2), (0, 8)]) (LN := [(0, (4, 0)), (1, (0, x1)), (2, (0, x2)), (3, (0, x3)), (4, (0, x4))]) (stN := []) (hsC := [jgh]) (e := 0) (jK_115_109 (d := 0) (by omega)) (by rfl) (by rfl) (by decide +kernel) (by rfl) (by rfl) (by omega) (by omega) (by omega) (by omega) ⟨rfl, ⟨rfl, rfl, rfl⟩⟩
theorem jK_335_111 {xs : List Int} {d : Nat} {x1 x2 x3 x4 : Int} (h_x1 : 0 ≤ x1 ∧ x1 ≤ 3) (h_x2 : 8 ≤ x2 ∧ x2 ≤ 2147483647) (h_x3 : (-2147483648) ≤ x3 ∧ x3 ≤ 2147483647) (h_x4 : (-2147483648) ≤ x4 ∧ x4 ≤ 2147483647) : jT xs (d + 2) 335 13 0 [(0, (4, 0)), (1, (0, x1)), (2, (0, x2)), (3, (0, x3)), (4, (0, x4)), (5, (4, 1))] [] jpK_15 1 6 (fun k v hsN => k = 0 ∧ v = (0, 1) ∧ hsN = jpK_15 ++ []) := by
  refine jT_xaload (v := (4, 1)) (pcN := 2) jIK_335_0 rfl rfl rfl ?_
  refine jT_xiconst (k := 0) (pcN := 3) jIK_335_2 rfl ?_
  refine jT_xaload_n (v := (4, 0)) (pcN := 4) jIK_335_3 rfl rfl rfl ?_
  refine jT_xiload_n (v := (0, x1)) (pcN := 5) jIK_335_4 rfl rfl rfl ?_
  refine jT_xiload_n (v := (0, x2)) (pcN := 6) jIK_335_5 rfl rfl rfl ?_
  refine jT_xiload_n (v := (0, x3)) (pcN := 7) jIK_335_6 rfl rfl rfl ?_
  refine jT_xiload (v := (0, x4)) (pcN := 9) jIK_335_7 rfl rfl rfl ?_
  exact jT_fX [0, 2, 3, 4, 5, 6, 7, 8, 9, 10, 11, 12] 13 (y := 126) (pcN := 12) (dC := 1) (bc1 := 1) (bc2 := 6) (as := [(4, 0), (0, x1), (0, x2), (0, x3), (0, x4)]) (asC := [(4, 0), (0, x1), (0, x2), (0, x3), (0, x4)]) (LN := [(0, (4, 0)), (1, (0, x1)), (2, (0, x2)), (3, (0, x3)), (4, (0, x4)), (5, (4, 1))]) (stN := [(0, 0), (4, 1)]) (hsC := jpK_6) (e := 0) (jK_126_110 (d := 0) (by omega) (by omega) (by omega) (by omega)) (by rfl) (by rfl) (by decide +kernel) (by rfl) (by rfl) (by omega) (by omega) (by omega) (by omega) (show _ from ⟨rfl, rfl, rfl⟩)
theorem jK_188_112 {xs : List Int} {d : Nat} {x2 : Int} (h_x2 : 8 ≤ x2 ∧ x2 ≤ 2147483647) : jT xs (d + 1) 188 0 0 [(0, (0, x2))] [] [] 0 0 (fun k v hsN => k = 0 ∧ v = (0, 0) ∧ hsN = [] ++ []) := by
  refine jT_xiload_n (v := (0, x2)) (pcN := 1) jIK_188_0 rfl rfl rfl ?_
  refine jT_xi2l (x := x2) (z := x2) (pcN := 2) jIK_188_1 rfl (jw_idd (by omega) (by omega)) rfl ?_
  refine jT_xlconst (z := 0) (pcN := 3) jIK_188_2 rfl rfl ?_
  refine jT_adv 1 (pcN := 6) (LN := [(0, (0, x2))]) (stN := [(1, 7), (1, 0), (1, x2)]) (hsN := []) (c1 := 0) (s1 := 0) (c2 := 0) (s2 := 0) (by exact rfl) ?_ (by omega) (by omega)
  refine jT_fR [] 0 (y := 189) (pcN := 9) (dC := 0) (bc1 := 0) (bc2 := 0) (c1 := 0) (c2 := 0) (as := [(1, x2), (1, 0), (1, 7)]) (asC := [(1, x2), (1, 0), (1, 7)]) (LN := [(0, (0, x2))]) (stN := []) (hsC := []) (v := (0, 0)) (st2 := [(0, 0)]) (jT_in_hi (d := 0) (v := x2) (lo := 0) (hi := 7) (by omega) (by omega) (by omega) (by omega) (by omega)) (by rfl) (by rfl) (by decide +kernel) (by rfl) (by rfl) (by omega) (by omega) (by omega) (by omega) rfl ?_
  exact jT_ret rfl (by decide) (by show 0 ≤ 0; omega) (by omega) (by omega) ⟨rfl, rfl, rfl⟩
theorem jK_237_113 {xs : List Int} {d : Nat} {x1 x2 x3 x4 : Int} (h_x1 : 0 ≤ x1 ∧ x1 ≤ 3) (h_x2 : 8 ≤ x2 ∧ x2 ≤ 2147483647) (h_x3 : (-2147483648) ≤ x3 ∧ x3 ≤ 2147483647) (h_x4 : (-2147483648) ≤ x4 ∧ x4 ≤ 2147483647) : jT xs (d + 2) 237 16 0 [(0, (4, 0)), (1, (0, x1)), (2, (0, x2)), (3, (0, x3)), (4, (0, x4))] [] jpK_22 0 0 (fun k v hsN => k = 0 ∧ v = (0, 0) ∧ hsN = jpK_20) := by
  refine jT_xaload_n (v := (4, 0)) (pcN := 1) jIK_237_0 rfl rfl rfl ?_
  refine jT_xiload_n (v := (0, x1)) (pcN := 2) jIK_237_1 rfl rfl rfl ?_
  refine jT_fR [] 16 (y := 238) (pcN := 5) (dC := 1) (bc1 := 0) (bc2 := 0) (c1 := 0) (c2 := 0) (as := [(0, x1)]) (asC := [(0, x1)]) (LN := [(0, (4, 0)), (1, (0, x1)), (2, (0, x2)), (3, (0, x3)), (4, (0, x4))]) (stN := [(4, 0)]) (hsC := []) (v := (0, 1)) (st2 := [(0, 1), (4, 0)]) (jK_238_13 (d := 0) (by omega)) (by rfl) (by rfl) (by decide +kernel) (by rfl) (by rfl) (by omega) (by omega) (by omega) (by omega) rfl ?_
  refine jT_xifF (t := 19) (pcN := 8) jIK_237_5 rfl (by decide +kernel) rfl rfl ?_
  refine jT_xiload_n (v := (0, x2)) (pcN := 9) jIK_237_8 rfl rfl rfl ?_
  refine jT_fR [] 16 (y := 188) (pcN := 12) (dC := 1) (bc1 := 0) (bc2 := 0) (c1 := 0) (c2 := 0) (as := [(0, x2)]) (asC := [(0, x2)]) (LN := [(0, (4, 0)), (1, (0, x1)), (2, (0, x2)), (3, (0, x3)), (4, (0, x4))]) (stN := [(4, 0)]) (hsC := []) (v := (0, 0)) (st2 := [(0, 0), (4, 0)]) (jK_188_112 (d := 0) (by omega)) (by rfl) (by rfl) (by decide +kernel) (by rfl) (by rfl) (by omega) (by omega) (by omega) (by omega) rfl ?_
  refine jT_xifT (pcN := 19) jIK_237_12 rfl (by decide +kernel) rfl ?_
  refine jT_xiconst (k := 0) (pcN := 20) jIK_237_19 rfl ?_
  refine jT_fB [0, 1, 2, 3, 4, 5, 6, 7, 8, 9, 10, 11, 12, 13, 14, 15] 16 (y := 190) (pcN := 23) (dC := 1) (bc1 := 0) (bc2 := 0) (c1 := 0) (c2 := 0) (as := [(4, 0), (0, 0)]) (asC := [(4, 0), (0, 0)]) (LN := [(0, (4, 0)), (1, (0, x1)), (2, (0, x2)), (3, (0, x3)), (4, (0, x4))]) (stN := []) (hsC := jpK_22) (hsD := jpK_20) (v := (0, 1)) (st2 := [(0, 1)]) (hs2 := jpK_20) (jK_190_6 (d := 0)) (by rfl) (by rfl) (by decide +kernel) (by rfl) (by rfl) (by omega) (by omega) (by omega) (by omega) rfl (by decide +kernel) ?_
  refine jT_xifT (pcN := 66) jIK_237_23 rfl (by decide +kernel) rfl ?_
  refine jT_xiconst (k := 0) (pcN := 67) jIK_237_66 rfl ?_
  exact jT_ret rfl (by decide) (by show 16 ≤ 16; omega) (by omega) (by omega) ⟨rfl, rfl, rfl⟩
theorem jK_115_114 {xs : List Int} {d : Nat} {x1 : Int} (h_x1 : 4 ≤ x1 ∧ x1 ≤ 2147483647) : jT xs d 115 1 0 [(0, (4, 0)), (1, (0, x1)), (2, (0, 4))] [] [jgh] 1 6 (fun k v hsN => k = 1 ∧ v = (0, 0) ∧ hsN = [jgh] ++ []) := by
  refine jT_xiload_n (v := (0, x1)) (pcN := 1) jIK_115_0 rfl rfl rfl ?_
  refine jT_ifF (a := x1) (t := 9) (by rfl) (by rfl) (by rfl) (jw_idd (by omega) (by omega)) (by simp only [jcP] <;> omega) ?_
  refine jT_xiload_n (v := (0, x1)) (pcN := 5) jIK_115_4 rfl rfl rfl ?_
  refine jT_xiload_n (v := (0, 4)) (pcN := 6) jIK_115_5 rfl rfl rfl ?_
  refine jT_icF (a := x1) (b := 4) (t := 20) (by rfl) (by rfl) (by rfl) (jw_idd (by omega) (by omega)) (jw_idd (by omega) (by omega)) (by simp only [jcP] <;> omega) ?_
  exact jT_ret (c1 := 1) (s1 := 6) rfl (by decide) (by show 1 ≤ 1; omega) (by omega) (by omega) ⟨rfl, rfl, rfl⟩
theorem jK_126_115 {xs : List Int} {d : Nat} {x1 x2 x3 x4 : Int} (h_x1 : 4 ≤ x1 ∧ x1 ≤ 2147483647) (h_x2 : (-2147483648) ≤ x2 ∧ x2 ≤ 2147483647) (h_x3 : (-2147483648) ≤ x3 ∧ x3 ≤ 2147483647) (h_x4 : (-2147483648) ≤ x4 ∧ x4 ≤ 2147483647) : jT xs (d + 1) 126 12 0 [(0, (4, 0)), (1, (0, x1)), (2, (0, x2)), (3, (0, x3)), (4, (0, x4))] [] jpK_6 1 6 (fun k v hsN => k = 1 ∧ v = (0, 0) ∧ hsN = jpK_6 ++ []) := by
  refine jT_xaload_n (v := (4, 0)) (pcN := 1) jIK_126_0 rfl rfl rfl ?_
  refine jT_xiload_n (v := (0, x1)) (pcN := 2) jIK_126_1 rfl rfl rfl ?_
  refine jT_xiconst (k := 4) (pcN := 3) jIK_126_2 rfl ?_
  exact jT_fX [0] 12 (y := 115) (pcN := 6) (dC := 0) (bc1 := 1) (bc2 := 6) (as := [(4, 0), (0, x1), (0, 4)]) (asC := [(4, 0), (0, x1), (0, 4)]) (LN := [(0, (4, 0)), (1, (0, x1)), (2, (0, x2)), (3, (0, x3)), (4, (0, x4))]) (stN := []) (hsC := [jgh]) (e := 0) (jK_115_114 (d := 0) (by omega)) (by rfl) (by rfl) (by decide +kernel) (by rfl) (by rfl) (by omega) (by omega) (by omega) (by omega) ⟨rfl, ⟨rfl, rfl, rfl⟩⟩
theorem jK_335_116 {xs : List Int} {d : Nat} {x1 x2 x3 x4 : Int} (h_x1 : 4 ≤ x1 ∧ x1 ≤ 2147483647) (h_x2 : (-2147483648) ≤ x2 ∧ x2 ≤ 2147483647) (h_x3 : (-2147483648) ≤ x3 ∧ x3 ≤ 2147483647) (h_x4 : (-2147483648) ≤ x4 ∧ x4 ≤ 2147483647) : jT xs (d + 2) 335 13 0 [(0, (4, 0)), (1, (0, x1)), (2, (0, x2)), (3, (0, x3)), (4, (0, x4)), (5, (4, 1))] [] jpK_15 1 6 (fun k v hsN => k = 0 ∧ v = (0, 1) ∧ hsN = jpK_15 ++ []) := by
  refine jT_xaload (v := (4, 1)) (pcN := 2) jIK_335_0 rfl rfl rfl ?_
  refine jT_xiconst (k := 0) (pcN := 3) jIK_335_2 rfl ?_
  refine jT_xaload_n (v := (4, 0)) (pcN := 4) jIK_335_3 rfl rfl rfl ?_
  refine jT_xiload_n (v := (0, x1)) (pcN := 5) jIK_335_4 rfl rfl rfl ?_
  refine jT_xiload_n (v := (0, x2)) (pcN := 6) jIK_335_5 rfl rfl rfl ?_
  refine jT_xiload_n (v := (0, x3)) (pcN := 7) jIK_335_6 rfl rfl rfl ?_
  refine jT_xiload (v := (0, x4)) (pcN := 9) jIK_335_7 rfl rfl rfl ?_
  exact jT_fX [0, 2, 3, 4, 5, 6, 7, 8, 9, 10, 11, 12] 13 (y := 126) (pcN := 12) (dC := 1) (bc1 := 1) (bc2 := 6) (as := [(4, 0), (0, x1), (0, x2), (0, x3), (0, x4)]) (asC := [(4, 0), (0, x1), (0, x2), (0, x3), (0, x4)]) (LN := [(0, (4, 0)), (1, (0, x1)), (2, (0, x2)), (3, (0, x3)), (4, (0, x4)), (5, (4, 1))]) (stN := [(0, 0), (4, 1)]) (hsC := jpK_6) (e := 0) (jK_126_115 (d := 0) (by omega) (by omega) (by omega) (by omega)) (by rfl) (by rfl) (by decide +kernel) (by rfl) (by rfl) (by omega) (by omega) (by omega) (by omega) (show _ from ⟨rfl, rfl, rfl⟩)
theorem jK_238_117 {xs : List Int} {d : Nat} {x1 : Int} (h_x1 : 4 ≤ x1 ∧ x1 ≤ 2147483647) : jT xs (d + 1) 238 0 0 [(0, (0, x1))] [] [] 0 0 (fun k v hsN => k = 0 ∧ v = (0, 0) ∧ hsN = [] ++ []) := by
  refine jT_xiload_n (v := (0, x1)) (pcN := 1) jIK_238_0 rfl rfl rfl ?_
  refine jT_xi2l (x := x1) (z := x1) (pcN := 2) jIK_238_1 rfl (jw_idd (by omega) (by omega)) rfl ?_
  refine jT_xlconst (z := 0) (pcN := 3) jIK_238_2 rfl rfl ?_
  refine jT_adv 1 (pcN := 6) (LN := [(0, (0, x1))]) (stN := [(1, 3), (1, 0), (1, x1)]) (hsN := []) (c1 := 0) (s1 := 0) (c2 := 0) (s2 := 0) (by exact rfl) ?_ (by omega) (by omega)
  refine jT_fR [] 0 (y := 189) (pcN := 9) (dC := 0) (bc1 := 0) (bc2 := 0) (c1 := 0) (c2 := 0) (as := [(1, x1), (1, 0), (1, 3)]) (asC := [(1, x1), (1, 0), (1, 3)]) (LN := [(0, (0, x1))]) (stN := []) (hsC := []) (v := (0, 0)) (st2 := [(0, 0)]) (jT_in_hi (d := 0) (v := x1) (lo := 0) (hi := 3) (by omega) (by omega) (by omega) (by omega) (by omega)) (by rfl) (by rfl) (by decide +kernel) (by rfl) (by rfl) (by omega) (by omega) (by omega) (by omega) rfl ?_
  exact jT_ret rfl (by decide) (by show 0 ≤ 0; omega) (by omega) (by omega) ⟨rfl, rfl, rfl⟩
theorem jK_237_118 {xs : List Int} {d : Nat} {x1 x2 x3 x4 : Int} (h_x1 : 4 ≤ x1 ∧ x1 ≤ 2147483647) (h_x2 : (-2147483648) ≤ x2 ∧ x2 ≤ 2147483647) (h_x3 : (-2147483648) ≤ x3 ∧ x3 ≤ 2147483647) (h_x4 : (-2147483648) ≤ x4 ∧ x4 ≤ 2147483647) : jT xs (d + 2) 237 16 0 [(0, (4, 0)), (1, (0, x1)), (2, (0, x2)), (3, (0, x3)), (4, (0, x4))] [] jpK_22 0 0 (fun k v hsN => k = 0 ∧ v = (0, 0) ∧ hsN = jpK_20) := by
  refine jT_xaload_n (v := (4, 0)) (pcN := 1) jIK_237_0 rfl rfl rfl ?_
  refine jT_xiload_n (v := (0, x1)) (pcN := 2) jIK_237_1 rfl rfl rfl ?_
  refine jT_fR [] 16 (y := 238) (pcN := 5) (dC := 1) (bc1 := 0) (bc2 := 0) (c1 := 0) (c2 := 0) (as := [(0, x1)]) (asC := [(0, x1)]) (LN := [(0, (4, 0)), (1, (0, x1)), (2, (0, x2)), (3, (0, x3)), (4, (0, x4))]) (stN := [(4, 0)]) (hsC := []) (v := (0, 0)) (st2 := [(0, 0), (4, 0)]) (jK_238_117 (d := 0) (by omega)) (by rfl) (by rfl) (by decide +kernel) (by rfl) (by rfl) (by omega) (by omega) (by omega) (by omega) rfl ?_
  refine jT_xifT (pcN := 19) jIK_237_5 rfl (by decide +kernel) rfl ?_
  refine jT_xiconst (k := 0) (pcN := 20) jIK_237_19 rfl ?_
  refine jT_fB [0, 1, 2, 3, 4, 5, 6, 7, 8, 9, 10, 11, 12, 13, 14, 15] 16 (y := 190) (pcN := 23) (dC := 1) (bc1 := 0) (bc2 := 0) (c1 := 0) (c2 := 0) (as := [(4, 0), (0, 0)]) (asC := [(4, 0), (0, 0)]) (LN := [(0, (4, 0)), (1, (0, x1)), (2, (0, x2)), (3, (0, x3)), (4, (0, x4))]) (stN := []) (hsC := jpK_22) (hsD := jpK_20) (v := (0, 1)) (st2 := [(0, 1)]) (hs2 := jpK_20) (jK_190_6 (d := 0)) (by rfl) (by rfl) (by decide +kernel) (by rfl) (by rfl) (by omega) (by omega) (by omega) (by omega) rfl (by decide +kernel) ?_
  refine jT_xifT (pcN := 66) jIK_237_23 rfl (by decide +kernel) rfl ?_
  refine jT_xiconst (k := 0) (pcN := 67) jIK_237_66 rfl ?_
  exact jT_ret rfl (by decide) (by show 16 ≤ 16; omega) (by omega) (by omega) ⟨rfl, rfl, rfl⟩
theorem jIK_379_971 : jmI (jm 379) 971 = (.aload_n 1, 1) := by rfl
theorem jIK_379_972 : jmI (jm 379) 972 = (.aload_n 0, 1) := by rfl
theorem jIK_379_973 : jmI (jm 379) 973 = (.iload 5, 2) := by rfl
theorem jIK_379_975 : jmI (jm 379) 975 = (.iconst 1, 1) := by rfl
theorem jIK_379_976 : jmI (jm 379) 976 = (.iadd, 1) := by rfl
def jzK_454 : JC := (13, [(4, 4), (4, 5), (4, 6), (4, 7), (4, 8), (4, 9), (4, 10), (4, 11), (4, 12), (4, 13), (0, 0), (4, 14), (0, 0)], [])
def jzK_455 : JC := (14, [(0, 0), (4, 15), (4, 16), (4, 17), (4, 18), (0, 0), (4, 19), (0, 0), (4, 20), (4, 21), (1, 1), (4, 22), (0, 0), (4, 23), (0, 0), (0, 0), (0, 0), (0, 0), (0, 0), (0, 0), (0, 0), (4, 24), (4, 25), (4, 26), (4, 27), (4, 28), (4, 29), (0, 0)], [])
def jpK_456 : List JC := [jzK_454, jzK_455, jgh, jgh, jgh, jgh, jgh, jgh, jgh, jgh, jgh, jgh, jgh, jgh, jgh, jgh, jgh, jgh, jgh, jgh, jgh, jgh, jgh, jgh, jgh, jgh, jgh, jgh, jgh, jgh]
theorem jIK_379_978 : jmI (jm 379) 978 = (.aload_n 0, 1) := by rfl
theorem jIK_379_979 : jmI (jm 379) 979 = (.iload 5, 2) := by rfl
theorem jIK_379_981 : jmI (jm 379) 981 = (.iconst 2, 1) := by rfl
theorem jIK_379_982 : jmI (jm 379) 982 = (.iadd, 1) := by rfl
theorem jIK_379_984 : jmI (jm 379) 984 = (.aload_n 0, 1) := by rfl
theorem jIK_379_985 : jmI (jm 379) 985 = (.iload 5, 2) := by rfl
theorem jIK_379_987 : jmI (jm 379) 987 = (.iconst 3, 1) := by rfl
theorem jIK_379_988 : jmI (jm 379) 988 = (.iadd, 1) := by rfl
theorem jIK_379_990 : jmI (jm 379) 990 = (.aload_n 0, 1) := by rfl
theorem jIK_379_991 : jmI (jm 379) 991 = (.iload 5, 2) := by rfl
theorem jIK_379_993 : jmI (jm 379) 993 = (.iconst 4, 1) := by rfl
theorem jIK_379_994 : jmI (jm 379) 994 = (.iadd, 1) := by rfl
theorem jIK_379_996 : jmI (jm 379) 996 = (.aload_n 3, 1) := by rfl
theorem jIK_379_1000 : jmI (jm 379) 1000 = (.istore 6, 2) := by rfl
theorem jIK_379_1002 : jmI (jm 379) 1002 = (.aload_n 2, 1) := by rfl
theorem jIK_379_1003 : jmI (jm 379) 1003 = (.aload_n 0, 1) := by rfl
theorem jIK_379_1004 : jmI (jm 379) 1004 = (.iload 5, 2) := by rfl
theorem jIK_379_1006 : jmI (jm 379) 1006 = (.iconst 1, 1) := by rfl
theorem jIK_379_1007 : jmI (jm 379) 1007 = (.iadd, 1) := by rfl
theorem jIK_379_1009 : jmI (jm 379) 1009 = (.aload_n 0, 1) := by rfl
theorem jIK_379_1010 : jmI (jm 379) 1010 = (.iload 5, 2) := by rfl
theorem jIK_379_1012 : jmI (jm 379) 1012 = (.iconst 2, 1) := by rfl
theorem jIK_379_1013 : jmI (jm 379) 1013 = (.iadd, 1) := by rfl
theorem jIK_379_1015 : jmI (jm 379) 1015 = (.aload_n 0, 1) := by rfl
theorem jIK_379_1016 : jmI (jm 379) 1016 = (.iload 5, 2) := by rfl
theorem jIK_379_1018 : jmI (jm 379) 1018 = (.iconst 3, 1) := by rfl
theorem jIK_379_1019 : jmI (jm 379) 1019 = (.iadd, 1) := by rfl
theorem jIK_379_1021 : jmI (jm 379) 1021 = (.aload_n 0, 1) := by rfl
theorem jIK_379_1022 : jmI (jm 379) 1022 = (.iload 5, 2) := by rfl
theorem jIK_379_1024 : jmI (jm 379) 1024 = (.iconst 4, 1) := by rfl
theorem jIK_379_1025 : jmI (jm 379) 1025 = (.iadd, 1) := by rfl
def jzK_488 : JC := (14, [(0, 1), (4, 15), (4, 16), (4, 17), (4, 18), (0, 0), (4, 19), (0, 0), (4, 20), (4, 21), (1, 1), (4, 22), (0, 0), (4, 23), (0, 0), (0, 0), (0, 0), (0, 0), (0, 0), (0, 0), (0, 0), (4, 24), (4, 25), (4, 26), (4, 27), (4, 28), (4, 29), (0, 0)], [])
def jpK_489 : List JC := [jzK_454, jzK_488, jgh, jgh, jgh, jgh, jgh, jgh, jgh, jgh, jgh, jgh, jgh, jgh, jgh, jgh, jgh, jgh, jgh, jgh, jgh, jgh, jgh, jgh, jgh, jgh, jgh, jgh, jgh, jgh]
theorem jIK_379_1030 : jmI (jm 379) 1030 = (.istore 7, 2) := by rfl
theorem jIK_379_1032 : jmI (jm 379) 1032 = (.aload_n 2, 1) := by rfl
theorem jIK_379_1036 : jmI (jm 379) 1036 = (.iload 6, 2) := by rfl
theorem jIK_379_1038 : jmI (jm 379) 1038 = (.if_icmp .eq 5, 3) := by rfl
theorem jIK_379_1043 : jmI (jm 379) 1043 = (.iload 6, 2) := by rfl
theorem jIK_379_1045 : jmI (jm 379) 1045 = (.ifCond .ne 15, 3) := by rfl
theorem jIK_379_1060 : jmI (jm 379) 1060 = (.goto 2680, 3) := by rfl
theorem jIK_379_3740 : jmI (jm 379) 3740 = (.iinc 5 5, 3) := by rfl
theorem jIK_379_3743 : jmI (jm 379) 3743 = (.goto (-3715), 3) := by rfl
theorem jIK_379_28 : jmI (jm 379) 28 = (.iload 5, 2) := by rfl
theorem jIK_379_30 : jmI (jm 379) 30 = (.aload_n 0, 1) := by rfl
theorem jIK_379_32 : jmI (jm 379) 32 = (.iconst 5, 1) := by rfl
theorem jIK_379_33 : jmI (jm 379) 33 = (.isub, 1) := by rfl
theorem jIK_379_34 : jmI (jm 379) 34 = (.if_icmp .gt 3712, 3) := by rfl
theorem jIK_379_3746 : jmI (jm 379) 3746 = (.iconst 1, 1) := by rfl
set_option maxRecDepth 100000 in
theorem jL_9_0 {d : Nat} {x0 x1 x2 x3 x4 : Int} (h_x0 : (-2147483648) ≤ x0 ∧ x0 ≤ 2147483647) (h_x1 : (-2147483648) ≤ x1 ∧ x1 ≤ (-1)) (h_x2 : (-2147483648) ≤ x2 ∧ x2 ≤ 2147483647) (h_x3 : (-2147483648) ≤ x3 ∧ x3 ≤ 2147483647) (h_x4 : (-2147483648) ≤ x4 ∧ x4 ≤ 2147483647) : jT [x0, x1, x2, x3, x4] (d + 3) 379 30 971 [(5, (0, 0)), (4, (4, 3)), (3, (4, 2)), (2, (4, 1)), (1, (4, 0)), (0, (6, 0))] [] jpK_456 1 6 (fun k v hsN => k = 0 ∧ v = (0, 1)) := by
  refine jT_xaload_n (v := (4, 0)) (pcN := 972) jIK_379_971 rfl rfl rfl ?_
  refine jT_xaload_n (v := (6, 0)) (pcN := 973) jIK_379_972 rfl rfl rfl ?_
  refine jT_xiload (v := (0, 0)) (pcN := 975) jIK_379_973 rfl rfl rfl ?_
  refine jT_xiconst (k := 1) (pcN := 976) jIK_379_975 rfl ?_
  refine jT_xiadd (x := 0) (y := 1) (z := 1) (pcN := 977) jIK_379_976 rfl (by decide) rfl ?_
  refine jT_adv 1 (pcN := 978) (LN := [(5, (0, 0)), (4, (4, 3)), (3, (4, 2)), (2, (4, 1)), (1, (4, 0)), (0, (6, 0))]) (stN := [(0, x1), (4, 0)]) (hsN := jpK_456) (c1 := 0) (s1 := 0) (c2 := 1) (s2 := 6) (by exact rfl) ?_ (by omega) (by omega)
  refine jT_xaload_n (v := (6, 0)) (pcN := 979) jIK_379_978 rfl rfl rfl ?_
  refine jT_xiload (v := (0, 0)) (pcN := 981) jIK_379_979 rfl rfl rfl ?_
  refine jT_xiconst (k := 2) (pcN := 982) jIK_379_981 rfl ?_
  refine jT_xiadd (x := 0) (y := 2) (z := 2) (pcN := 983) jIK_379_982 rfl (by decide) rfl ?_
  refine jT_adv 1 (pcN := 984) (LN := [(5, (0, 0)), (4, (4, 3)), (3, (4, 2)), (2, (4, 1)), (1, (4, 0)), (0, (6, 0))]) (stN := [(0, x2), (0, x1), (4, 0)]) (hsN := jpK_456) (c1 := 0) (s1 := 0) (c2 := 1) (s2 := 6) (by exact rfl) ?_ (by omega) (by omega)
  refine jT_xaload_n (v := (6, 0)) (pcN := 985) jIK_379_984 rfl rfl rfl ?_
  refine jT_xiload (v := (0, 0)) (pcN := 987) jIK_379_985 rfl rfl rfl ?_
  refine jT_xiconst (k := 3) (pcN := 988) jIK_379_987 rfl ?_
  refine jT_xiadd (x := 0) (y := 3) (z := 3) (pcN := 989) jIK_379_988 rfl (by decide) rfl ?_
  refine jT_adv 1 (pcN := 990) (LN := [(5, (0, 0)), (4, (4, 3)), (3, (4, 2)), (2, (4, 1)), (1, (4, 0)), (0, (6, 0))]) (stN := [(0, x3), (0, x2), (0, x1), (4, 0)]) (hsN := jpK_456) (c1 := 0) (s1 := 0) (c2 := 1) (s2 := 6) (by exact rfl) ?_ (by omega) (by omega)
  refine jT_xaload_n (v := (6, 0)) (pcN := 991) jIK_379_990 rfl rfl rfl ?_
  refine jT_xiload (v := (0, 0)) (pcN := 993) jIK_379_991 rfl rfl rfl ?_
  refine jT_xiconst (k := 4) (pcN := 994) jIK_379_993 rfl ?_
  refine jT_xiadd (x := 0) (y := 4) (z := 4) (pcN := 995) jIK_379_994 rfl (by decide) rfl ?_
  refine jT_adv 1 (pcN := 996) (LN := [(5, (0, 0)), (4, (4, 3)), (3, (4, 2)), (2, (4, 1)), (1, (4, 0)), (0, (6, 0))]) (stN := [(0, x4), (0, x3), (0, x2), (0, x1), (4, 0)]) (hsN := jpK_456) (c1 := 0) (s1 := 0) (c2 := 1) (s2 := 6) (by exact rfl) ?_ (by omega) (by omega)
  refine jT_xaload_n (v := (4, 2)) (pcN := 997) jIK_379_996 rfl rfl rfl ?_
  refine jT_fR [0, 2, 4, 5, 6, 7, 8, 9, 10, 11, 12, 13, 14] 30 (y := 335) (pcN := 1000) (dC := 2) (bc1 := 1) (bc2 := 6) (c1 := 0) (c2 := 0) (as := [(4, 0), (0, x1), (0, x2), (0, x3), (0, x4), (4, 2)]) (asC := [(4, 0), (0, x1), (0, x2), (0, x3), (0, x4), (4, 1)]) (LN := [(5, (0, 0)), (4, (4, 3)), (3, (4, 2)), (2, (4, 1)), (1, (4, 0)), (0, (6, 0))]) (stN := []) (hsC := jpK_15) (v := (0, 1)) (st2 := [(0, 1)]) (jK_335_3 (d := 0) (by omega) (by omega) (by omega) (by omega)) (by rfl) (by rfl) (by decide +kernel) (by rfl) (by rfl) (by omega) (by omega) (by omega) (by omega) rfl ?_
  refine jT_xistore (v := (0, 1)) (LN := [(6, (0, 1)), (5, (0, 0)), (4, (4, 3)), (3, (4, 2)), (2, (4, 1)), (1, (4, 0)), (0, (6, 0))]) (pcN := 1002) jIK_379_1000 rfl rfl rfl rfl ?_
  refine jT_xaload_n (v := (4, 1)) (pcN := 1003) jIK_379_1002 rfl rfl rfl ?_
  refine jT_xaload_n (v := (6, 0)) (pcN := 1004) jIK_379_1003 rfl rfl rfl ?_
  refine jT_xiload (v := (0, 0)) (pcN := 1006) jIK_379_1004 rfl rfl rfl ?_
  refine jT_xiconst (k := 1) (pcN := 1007) jIK_379_1006 rfl ?_
  refine jT_xiadd (x := 0) (y := 1) (z := 1) (pcN := 1008) jIK_379_1007 rfl (by decide) rfl ?_
  refine jT_adv 1 (pcN := 1009) (LN := [(6, (0, 1)), (5, (0, 0)), (4, (4, 3)), (3, (4, 2)), (2, (4, 1)), (1, (4, 0)), (0, (6, 0))]) (stN := [(0, x1), (4, 1)]) (hsN := jpK_456) (c1 := 0) (s1 := 0) (c2 := 0) (s2 := 0) (by exact rfl) ?_ (by omega) (by omega)
  refine jT_xaload_n (v := (6, 0)) (pcN := 1010) jIK_379_1009 rfl rfl rfl ?_
  refine jT_xiload (v := (0, 0)) (pcN := 1012) jIK_379_1010 rfl rfl rfl ?_
  refine jT_xiconst (k := 2) (pcN := 1013) jIK_379_1012 rfl ?_
  refine jT_xiadd (x := 0) (y := 2) (z := 2) (pcN := 1014) jIK_379_1013 rfl (by decide) rfl ?_
  refine jT_adv 1 (pcN := 1015) (LN := [(6, (0, 1)), (5, (0, 0)), (4, (4, 3)), (3, (4, 2)), (2, (4, 1)), (1, (4, 0)), (0, (6, 0))]) (stN := [(0, x2), (0, x1), (4, 1)]) (hsN := jpK_456) (c1 := 0) (s1 := 0) (c2 := 0) (s2 := 0) (by exact rfl) ?_ (by omega) (by omega)
  refine jT_xaload_n (v := (6, 0)) (pcN := 1016) jIK_379_1015 rfl rfl rfl ?_
  refine jT_xiload (v := (0, 0)) (pcN := 1018) jIK_379_1016 rfl rfl rfl ?_
  refine jT_xiconst (k := 3) (pcN := 1019) jIK_379_1018 rfl ?_
  refine jT_xiadd (x := 0) (y := 3) (z := 3) (pcN := 1020) jIK_379_1019 rfl (by decide) rfl ?_
  refine jT_adv 1 (pcN := 1021) (LN := [(6, (0, 1)), (5, (0, 0)), (4, (4, 3)), (3, (4, 2)), (2, (4, 1)), (1, (4, 0)), (0, (6, 0))]) (stN := [(0, x3), (0, x2), (0, x1), (4, 1)]) (hsN := jpK_456) (c1 := 0) (s1 := 0) (c2 := 0) (s2 := 0) (by exact rfl) ?_ (by omega) (by omega)
  refine jT_xaload_n (v := (6, 0)) (pcN := 1022) jIK_379_1021 rfl rfl rfl ?_
  refine jT_xiload (v := (0, 0)) (pcN := 1024) jIK_379_1022 rfl rfl rfl ?_
  refine jT_xiconst (k := 4) (pcN := 1025) jIK_379_1024 rfl ?_
  refine jT_xiadd (x := 0) (y := 4) (z := 4) (pcN := 1026) jIK_379_1025 rfl (by decide) rfl ?_
  refine jT_adv 1 (pcN := 1027) (LN := [(6, (0, 1)), (5, (0, 0)), (4, (4, 3)), (3, (4, 2)), (2, (4, 1)), (1, (4, 0)), (0, (6, 0))]) (stN := [(0, x4), (0, x3), (0, x2), (0, x1), (4, 1)]) (hsN := jpK_456) (c1 := 0) (s1 := 0) (c2 := 0) (s2 := 0) (by exact rfl) ?_ (by omega) (by omega)
  refine jT_fB [1, 15, 16, 17, 18, 19, 20, 21, 22, 23, 24, 25, 26, 27, 28, 29] 30 (y := 237) (pcN := 1030) (dC := 2) (bc1 := 0) (bc2 := 0) (c1 := 0) (c2 := 0) (as := [(4, 1), (0, x1), (0, x2), (0, x3), (0, x4)]) (asC := [(4, 0), (0, x1), (0, x2), (0, x3), (0, x4)]) (LN := [(6, (0, 1)), (5, (0, 0)), (4, (4, 3)), (3, (4, 2)), (2, (4, 1)), (1, (4, 0)), (0, (6, 0))]) (stN := []) (hsC := jpK_22) (hsD := jpK_20) (v := (0, 0)) (st2 := [(0, 0)]) (hs2 := jpK_489) (jK_237_7 (d := 0) (by omega) (by omega) (by omega) (by omega)) (by rfl) (by rfl) (by decide +kernel) (by rfl) (by rfl) (by omega) (by omega) (by omega) (by omega) rfl (by decide +kernel) ?_
  refine jT_xistore (v := (0, 0)) (LN := [(7, (0, 0)), (6, (0, 1)), (5, (0, 0)), (4, (4, 3)), (3, (4, 2)), (2, (4, 1)), (1, (4, 0)), (0, (6, 0))]) (pcN := 1032) jIK_379_1030 rfl rfl rfl rfl ?_
  refine jT_xaload_n (v := (4, 1)) (pcN := 1033) jIK_379_1032 rfl rfl rfl ?_
  refine jT_fR [1, 15, 16, 17, 18, 19, 20, 21, 22, 23, 24, 25, 26, 27, 28, 29] 30 (y := 186) (pcN := 1036) (dC := 0) (bc1 := 0) (bc2 := 0) (c1 := 0) (c2 := 0) (as := [(4, 1)]) (asC := [(4, 0)]) (LN := [(7, (0, 0)), (6, (0, 1)), (5, (0, 0)), (4, (4, 3)), (3, (4, 2)), (2, (4, 1)), (1, (4, 0)), (0, (6, 0))]) (stN := []) (hsC := jpK_20) (v := (0, 1)) (st2 := [(0, 1)]) (jK_186_8 (d := 0)) (by rfl) (by rfl) (by decide +kernel) (by rfl) (by rfl) (by omega) (by omega) (by omega) (by omega) rfl ?_
  refine jT_xiload (v := (0, 1)) (pcN := 1038) jIK_379_1036 rfl rfl rfl ?_
  refine jT_xicT (pcN := 1043) jIK_379_1038 rfl (by decide +kernel) rfl ?_
  refine jT_xiload (v := (0, 1)) (pcN := 1045) jIK_379_1043 rfl rfl rfl ?_
  refine jT_xifT (pcN := 1060) jIK_379_1045 rfl (by decide +kernel) rfl ?_
  refine jT_xgoto (pcN := 3740) jIK_379_1060 rfl ?_
  refine jT_xiinc (x := 0) (z := 5) (LN := [(5, (0, 5)), (7, (0, 0)), (6, (0, 1)), (4, (4, 3)), (3, (4, 2)), (2, (4, 1)), (1, (4, 0)), (0, (6, 0))]) (pcN := 3743) jIK_379_3740 rfl rfl (by decide) rfl rfl ?_
  refine jT_xgoto (pcN := 28) jIK_379_3743 rfl ?_
  refine jT_xiload (v := (0, 5)) (pcN := 30) jIK_379_28 rfl rfl rfl ?_
  refine jT_xaload_n (v := (6, 0)) (pcN := 31) jIK_379_30 rfl rfl rfl ?_
  refine jT_adv 1 (pcN := 32) (LN := [(5, (0, 5)), (7, (0, 0)), (6, (0, 1)), (4, (4, 3)), (3, (4, 2)), (2, (4, 1)), (1, (4, 0)), (0, (6, 0))]) (stN := [(0, 5), (0, 5)]) (hsN := jpK_489) (c1 := 0) (s1 := 0) (c2 := 0) (s2 := 0) (by exact rfl) ?_ (by omega) (by omega)
  refine jT_xiconst (k := 5) (pcN := 33) jIK_379_32 rfl ?_
  refine jT_xisub (x := 5) (y := 5) (z := 0) (pcN := 34) jIK_379_33 rfl (by decide) rfl ?_
  refine jT_xicT (pcN := 3746) jIK_379_34 rfl (by decide +kernel) rfl ?_
  refine jT_xiconst (k := 1) (pcN := 3747) jIK_379_3746 rfl ?_
  exact jT_ret rfl (by decide) (by show 30 ≤ 30; decide) (by omega) (by omega) ⟨rfl, rfl⟩
set_option maxRecDepth 100000 in
theorem jL_9_1 {d : Nat} {x0 x1 x2 x3 x4 : Int} (h_x0 : (-2147483648) ≤ x0 ∧ x0 ≤ 2147483647) (h_x1 : 0 ≤ x1 ∧ x1 ≤ 3) (h_x2 : (-2147483648) ≤ x2 ∧ x2 ≤ (-1)) (h_x3 : (-2147483648) ≤ x3 ∧ x3 ≤ 2147483647) (h_x4 : (-2147483648) ≤ x4 ∧ x4 ≤ 2147483647) : jT [x0, x1, x2, x3, x4] (d + 3) 379 30 971 [(5, (0, 0)), (4, (4, 3)), (3, (4, 2)), (2, (4, 1)), (1, (4, 0)), (0, (6, 0))] [] jpK_456 1 6 (fun k v hsN => k = 0 ∧ v = (0, 1)) := by
  refine jT_xaload_n (v := (4, 0)) (pcN := 972) jIK_379_971 rfl rfl rfl ?_
  refine jT_xaload_n (v := (6, 0)) (pcN := 973) jIK_379_972 rfl rfl rfl ?_
  refine jT_xiload (v := (0, 0)) (pcN := 975) jIK_379_973 rfl rfl rfl ?_
  refine jT_xiconst (k := 1) (pcN := 976) jIK_379_975 rfl ?_
  refine jT_xiadd (x := 0) (y := 1) (z := 1) (pcN := 977) jIK_379_976 rfl (by decide) rfl ?_
  refine jT_adv 1 (pcN := 978) (LN := [(5, (0, 0)), (4, (4, 3)), (3, (4, 2)), (2, (4, 1)), (1, (4, 0)), (0, (6, 0))]) (stN := [(0, x1), (4, 0)]) (hsN := jpK_456) (c1 := 0) (s1 := 0) (c2 := 1) (s2 := 6) (by exact rfl) ?_ (by omega) (by omega)
  refine jT_xaload_n (v := (6, 0)) (pcN := 979) jIK_379_978 rfl rfl rfl ?_
  refine jT_xiload (v := (0, 0)) (pcN := 981) jIK_379_979 rfl rfl rfl ?_
  refine jT_xiconst (k := 2) (pcN := 982) jIK_379_981 rfl ?_
  refine jT_xiadd (x := 0) (y := 2) (z := 2) (pcN := 983) jIK_379_982 rfl (by decide) rfl ?_
  refine jT_adv 1 (pcN := 984) (LN := [(5, (0, 0)), (4, (4, 3)), (3, (4, 2)), (2, (4, 1)), (1, (4, 0)), (0, (6, 0))]) (stN := [(0, x2), (0, x1), (4, 0)]) (hsN := jpK_456) (c1 := 0) (s1 := 0) (c2 := 1) (s2 := 6) (by exact rfl) ?_ (by omega) (by omega)
  refine jT_xaload_n (v := (6, 0)) (pcN := 985) jIK_379_984 rfl rfl rfl ?_
  refine jT_xiload (v := (0, 0)) (pcN := 987) jIK_379_985 rfl rfl rfl ?_
  refine jT_xiconst (k := 3) (pcN := 988) jIK_379_987 rfl ?_
  refine jT_xiadd (x := 0) (y := 3) (z := 3) (pcN := 989) jIK_379_988 rfl (by decide) rfl ?_
  refine jT_adv 1 (pcN := 990) (LN := [(5, (0, 0)), (4, (4, 3)), (3, (4, 2)), (2, (4, 1)), (1, (4, 0)), (0, (6, 0))]) (stN := [(0, x3), (0, x2), (0, x1), (4, 0)]) (hsN := jpK_456) (c1 := 0) (s1 := 0) (c2 := 1) (s2 := 6) (by exact rfl) ?_ (by omega) (by omega)
  refine jT_xaload_n (v := (6, 0)) (pcN := 991) jIK_379_990 rfl rfl rfl ?_
  refine jT_xiload (v := (0, 0)) (pcN := 993) jIK_379_991 rfl rfl rfl ?_
  refine jT_xiconst (k := 4) (pcN := 994) jIK_379_993 rfl ?_
  refine jT_xiadd (x := 0) (y := 4) (z := 4) (pcN := 995) jIK_379_994 rfl (by decide) rfl ?_
  refine jT_adv 1 (pcN := 996) (LN := [(5, (0, 0)), (4, (4, 3)), (3, (4, 2)), (2, (4, 1)), (1, (4, 0)), (0, (6, 0))]) (stN := [(0, x4), (0, x3), (0, x2), (0, x1), (4, 0)]) (hsN := jpK_456) (c1 := 0) (s1 := 0) (c2 := 1) (s2 := 6) (by exact rfl) ?_ (by omega) (by omega)
  refine jT_xaload_n (v := (4, 2)) (pcN := 997) jIK_379_996 rfl rfl rfl ?_
  refine jT_fR [0, 2, 4, 5, 6, 7, 8, 9, 10, 11, 12, 13, 14] 30 (y := 335) (pcN := 1000) (dC := 2) (bc1 := 1) (bc2 := 6) (c1 := 0) (c2 := 0) (as := [(4, 0), (0, x1), (0, x2), (0, x3), (0, x4), (4, 2)]) (asC := [(4, 0), (0, x1), (0, x2), (0, x3), (0, x4), (4, 1)]) (LN := [(5, (0, 0)), (4, (4, 3)), (3, (4, 2)), (2, (4, 1)), (1, (4, 0)), (0, (6, 0))]) (stN := []) (hsC := jpK_15) (v := (0, 1)) (st2 := [(0, 1)]) (jK_335_12 (d := 0) (by omega) (by omega) (by omega) (by omega)) (by rfl) (by rfl) (by decide +kernel) (by rfl) (by rfl) (by omega) (by omega) (by omega) (by omega) rfl ?_
  refine jT_xistore (v := (0, 1)) (LN := [(6, (0, 1)), (5, (0, 0)), (4, (4, 3)), (3, (4, 2)), (2, (4, 1)), (1, (4, 0)), (0, (6, 0))]) (pcN := 1002) jIK_379_1000 rfl rfl rfl rfl ?_
  refine jT_xaload_n (v := (4, 1)) (pcN := 1003) jIK_379_1002 rfl rfl rfl ?_
  refine jT_xaload_n (v := (6, 0)) (pcN := 1004) jIK_379_1003 rfl rfl rfl ?_
  refine jT_xiload (v := (0, 0)) (pcN := 1006) jIK_379_1004 rfl rfl rfl ?_
  refine jT_xiconst (k := 1) (pcN := 1007) jIK_379_1006 rfl ?_
  refine jT_xiadd (x := 0) (y := 1) (z := 1) (pcN := 1008) jIK_379_1007 rfl (by decide) rfl ?_
  refine jT_adv 1 (pcN := 1009) (LN := [(6, (0, 1)), (5, (0, 0)), (4, (4, 3)), (3, (4, 2)), (2, (4, 1)), (1, (4, 0)), (0, (6, 0))]) (stN := [(0, x1), (4, 1)]) (hsN := jpK_456) (c1 := 0) (s1 := 0) (c2 := 0) (s2 := 0) (by exact rfl) ?_ (by omega) (by omega)
  refine jT_xaload_n (v := (6, 0)) (pcN := 1010) jIK_379_1009 rfl rfl rfl ?_
  refine jT_xiload (v := (0, 0)) (pcN := 1012) jIK_379_1010 rfl rfl rfl ?_
  refine jT_xiconst (k := 2) (pcN := 1013) jIK_379_1012 rfl ?_
  refine jT_xiadd (x := 0) (y := 2) (z := 2) (pcN := 1014) jIK_379_1013 rfl (by decide) rfl ?_
  refine jT_adv 1 (pcN := 1015) (LN := [(6, (0, 1)), (5, (0, 0)), (4, (4, 3)), (3, (4, 2)), (2, (4, 1)), (1, (4, 0)), (0, (6, 0))]) (stN := [(0, x2), (0, x1), (4, 1)]) (hsN := jpK_456) (c1 := 0) (s1 := 0) (c2 := 0) (s2 := 0) (by exact rfl) ?_ (by omega) (by omega)
  refine jT_xaload_n (v := (6, 0)) (pcN := 1016) jIK_379_1015 rfl rfl rfl ?_
  refine jT_xiload (v := (0, 0)) (pcN := 1018) jIK_379_1016 rfl rfl rfl ?_
  refine jT_xiconst (k := 3) (pcN := 1019) jIK_379_1018 rfl ?_
  refine jT_xiadd (x := 0) (y := 3) (z := 3) (pcN := 1020) jIK_379_1019 rfl (by decide) rfl ?_
  refine jT_adv 1 (pcN := 1021) (LN := [(6, (0, 1)), (5, (0, 0)), (4, (4, 3)), (3, (4, 2)), (2, (4, 1)), (1, (4, 0)), (0, (6, 0))]) (stN := [(0, x3), (0, x2), (0, x1), (4, 1)]) (hsN := jpK_456) (c1 := 0) (s1 := 0) (c2 := 0) (s2 := 0) (by exact rfl) ?_ (by omega) (by omega)
  refine jT_xaload_n (v := (6, 0)) (pcN := 1022) jIK_379_1021 rfl rfl rfl ?_
  refine jT_xiload (v := (0, 0)) (pcN := 1024) jIK_379_1022 rfl rfl rfl ?_
  refine jT_xiconst (k := 4) (pcN := 1025) jIK_379_1024 rfl ?_
  refine jT_xiadd (x := 0) (y := 4) (z := 4) (pcN := 1026) jIK_379_1025 rfl (by decide) rfl ?_
  refine jT_adv 1 (pcN := 1027) (LN := [(6, (0, 1)), (5, (0, 0)), (4, (4, 3)), (3, (4, 2)), (2, (4, 1)), (1, (4, 0)), (0, (6, 0))]) (stN := [(0, x4), (0, x3), (0, x2), (0, x1), (4, 1)]) (hsN := jpK_456) (c1 := 0) (s1 := 0) (c2 := 0) (s2 := 0) (by exact rfl) ?_ (by omega) (by omega)
  refine jT_fB [1, 15, 16, 17, 18, 19, 20, 21, 22, 23, 24, 25, 26, 27, 28, 29] 30 (y := 237) (pcN := 1030) (dC := 2) (bc1 := 0) (bc2 := 0) (c1 := 0) (c2 := 0) (as := [(4, 1), (0, x1), (0, x2), (0, x3), (0, x4)]) (asC := [(4, 0), (0, x1), (0, x2), (0, x3), (0, x4)]) (LN := [(6, (0, 1)), (5, (0, 0)), (4, (4, 3)), (3, (4, 2)), (2, (4, 1)), (1, (4, 0)), (0, (6, 0))]) (stN := []) (hsC := jpK_22) (hsD := jpK_20) (v := (0, 0)) (st2 := [(0, 0)]) (hs2 := jpK_489) (jK_237_15 (d := 0) (by omega) (by omega) (by omega) (by omega)) (by rfl) (by rfl) (by decide +kernel) (by rfl) (by rfl) (by omega) (by omega) (by omega) (by omega) rfl (by decide +kernel) ?_
  refine jT_xistore (v := (0, 0)) (LN := [(7, (0, 0)), (6, (0, 1)), (5, (0, 0)), (4, (4, 3)), (3, (4, 2)), (2, (4, 1)), (1, (4, 0)), (0, (6, 0))]) (pcN := 1032) jIK_379_1030 rfl rfl rfl rfl ?_
  refine jT_xaload_n (v := (4, 1)) (pcN := 1033) jIK_379_1032 rfl rfl rfl ?_
  refine jT_fR [1, 15, 16, 17, 18, 19, 20, 21, 22, 23, 24, 25, 26, 27, 28, 29] 30 (y := 186) (pcN := 1036) (dC := 0) (bc1 := 0) (bc2 := 0) (c1 := 0) (c2 := 0) (as := [(4, 1)]) (asC := [(4, 0)]) (LN := [(7, (0, 0)), (6, (0, 1)), (5, (0, 0)), (4, (4, 3)), (3, (4, 2)), (2, (4, 1)), (1, (4, 0)), (0, (6, 0))]) (stN := []) (hsC := jpK_20) (v := (0, 1)) (st2 := [(0, 1)]) (jK_186_8 (d := 0)) (by rfl) (by rfl) (by decide +kernel) (by rfl) (by rfl) (by omega) (by omega) (by omega) (by omega) rfl ?_
  refine jT_xiload (v := (0, 1)) (pcN := 1038) jIK_379_1036 rfl rfl rfl ?_
  refine jT_xicT (pcN := 1043) jIK_379_1038 rfl (by decide +kernel) rfl ?_
  refine jT_xiload (v := (0, 1)) (pcN := 1045) jIK_379_1043 rfl rfl rfl ?_
  refine jT_xifT (pcN := 1060) jIK_379_1045 rfl (by decide +kernel) rfl ?_
  refine jT_xgoto (pcN := 3740) jIK_379_1060 rfl ?_
  refine jT_xiinc (x := 0) (z := 5) (LN := [(5, (0, 5)), (7, (0, 0)), (6, (0, 1)), (4, (4, 3)), (3, (4, 2)), (2, (4, 1)), (1, (4, 0)), (0, (6, 0))]) (pcN := 3743) jIK_379_3740 rfl rfl (by decide) rfl rfl ?_
  refine jT_xgoto (pcN := 28) jIK_379_3743 rfl ?_
  refine jT_xiload (v := (0, 5)) (pcN := 30) jIK_379_28 rfl rfl rfl ?_
  refine jT_xaload_n (v := (6, 0)) (pcN := 31) jIK_379_30 rfl rfl rfl ?_
  refine jT_adv 1 (pcN := 32) (LN := [(5, (0, 5)), (7, (0, 0)), (6, (0, 1)), (4, (4, 3)), (3, (4, 2)), (2, (4, 1)), (1, (4, 0)), (0, (6, 0))]) (stN := [(0, 5), (0, 5)]) (hsN := jpK_489) (c1 := 0) (s1 := 0) (c2 := 0) (s2 := 0) (by exact rfl) ?_ (by omega) (by omega)
  refine jT_xiconst (k := 5) (pcN := 33) jIK_379_32 rfl ?_
  refine jT_xisub (x := 5) (y := 5) (z := 0) (pcN := 34) jIK_379_33 rfl (by decide) rfl ?_
  refine jT_xicT (pcN := 3746) jIK_379_34 rfl (by decide +kernel) rfl ?_
  refine jT_xiconst (k := 1) (pcN := 3747) jIK_379_3746 rfl ?_
  exact jT_ret rfl (by decide) (by show 30 ≤ 30; decide) (by omega) (by omega) ⟨rfl, rfl⟩
def jzK_505 : JC := (14, [(0, 2), (4, 15), (4, 16), (4, 17), (4, 18), (0, 0), (4, 19), (0, 0), (4, 20), (4, 21), (1, 1), (4, 22), (0, 0), (4, 23), (0, 0), (0, 0), (0, 0), (0, 0), (0, 0), (0, 0), (0, 0), (4, 24), (4, 25), (4, 26), (4, 27), (4, 28), (4, 29), (0, 0)], [])
def jpK_506 : List JC := [jzK_454, jzK_505, jgh, jgh, jgh, jgh, jgh, jgh, jgh, jgh, jgh, jgh, jgh, jgh, jgh, jgh, jgh, jgh, jgh, jgh, jgh, jgh, jgh, jgh, jgh, jgh, jgh, jgh, jgh, jgh]
set_option maxRecDepth 100000 in
theorem jL_9_2 {d : Nat} {x0 x1 x2 x3 x4 : Int} (h_x0 : (-2147483648) ≤ x0 ∧ x0 ≤ 2147483647) (h_x1 : 0 ≤ x1 ∧ x1 ≤ 3) (h_x2 : 0 ≤ x2 ∧ x2 ≤ 7) (h_x3 : (-2147483648) ≤ x3 ∧ x3 ≤ (-51)) (h_x4 : (-2147483648) ≤ x4 ∧ x4 ≤ 2147483647) : jT [x0, x1, x2, x3, x4] (d + 3) 379 30 971 [(5, (0, 0)), (4, (4, 3)), (3, (4, 2)), (2, (4, 1)), (1, (4, 0)), (0, (6, 0))] [] jpK_456 1 6 (fun k v hsN => k = 0 ∧ v = (0, 1)) := by
  refine jT_xaload_n (v := (4, 0)) (pcN := 972) jIK_379_971 rfl rfl rfl ?_
  refine jT_xaload_n (v := (6, 0)) (pcN := 973) jIK_379_972 rfl rfl rfl ?_
  refine jT_xiload (v := (0, 0)) (pcN := 975) jIK_379_973 rfl rfl rfl ?_
  refine jT_xiconst (k := 1) (pcN := 976) jIK_379_975 rfl ?_
  refine jT_xiadd (x := 0) (y := 1) (z := 1) (pcN := 977) jIK_379_976 rfl (by decide) rfl ?_
  refine jT_adv 1 (pcN := 978) (LN := [(5, (0, 0)), (4, (4, 3)), (3, (4, 2)), (2, (4, 1)), (1, (4, 0)), (0, (6, 0))]) (stN := [(0, x1), (4, 0)]) (hsN := jpK_456) (c1 := 0) (s1 := 0) (c2 := 1) (s2 := 6) (by exact rfl) ?_ (by omega) (by omega)
  refine jT_xaload_n (v := (6, 0)) (pcN := 979) jIK_379_978 rfl rfl rfl ?_
  refine jT_xiload (v := (0, 0)) (pcN := 981) jIK_379_979 rfl rfl rfl ?_
  refine jT_xiconst (k := 2) (pcN := 982) jIK_379_981 rfl ?_
  refine jT_xiadd (x := 0) (y := 2) (z := 2) (pcN := 983) jIK_379_982 rfl (by decide) rfl ?_
  refine jT_adv 1 (pcN := 984) (LN := [(5, (0, 0)), (4, (4, 3)), (3, (4, 2)), (2, (4, 1)), (1, (4, 0)), (0, (6, 0))]) (stN := [(0, x2), (0, x1), (4, 0)]) (hsN := jpK_456) (c1 := 0) (s1 := 0) (c2 := 1) (s2 := 6) (by exact rfl) ?_ (by omega) (by omega)
  refine jT_xaload_n (v := (6, 0)) (pcN := 985) jIK_379_984 rfl rfl rfl ?_
  refine jT_xiload (v := (0, 0)) (pcN := 987) jIK_379_985 rfl rfl rfl ?_
  refine jT_xiconst (k := 3) (pcN := 988) jIK_379_987 rfl ?_
  refine jT_xiadd (x := 0) (y := 3) (z := 3) (pcN := 989) jIK_379_988 rfl (by decide) rfl ?_
  refine jT_adv 1 (pcN := 990) (LN := [(5, (0, 0)), (4, (4, 3)), (3, (4, 2)), (2, (4, 1)), (1, (4, 0)), (0, (6, 0))]) (stN := [(0, x3), (0, x2), (0, x1), (4, 0)]) (hsN := jpK_456) (c1 := 0) (s1 := 0) (c2 := 1) (s2 := 6) (by exact rfl) ?_ (by omega) (by omega)
  refine jT_xaload_n (v := (6, 0)) (pcN := 991) jIK_379_990 rfl rfl rfl ?_
  refine jT_xiload (v := (0, 0)) (pcN := 993) jIK_379_991 rfl rfl rfl ?_
  refine jT_xiconst (k := 4) (pcN := 994) jIK_379_993 rfl ?_
  refine jT_xiadd (x := 0) (y := 4) (z := 4) (pcN := 995) jIK_379_994 rfl (by decide) rfl ?_
  refine jT_adv 1 (pcN := 996) (LN := [(5, (0, 0)), (4, (4, 3)), (3, (4, 2)), (2, (4, 1)), (1, (4, 0)), (0, (6, 0))]) (stN := [(0, x4), (0, x3), (0, x2), (0, x1), (4, 0)]) (hsN := jpK_456) (c1 := 0) (s1 := 0) (c2 := 1) (s2 := 6) (by exact rfl) ?_ (by omega) (by omega)
  refine jT_xaload_n (v := (4, 2)) (pcN := 997) jIK_379_996 rfl rfl rfl ?_
  refine jT_fR [0, 2, 4, 5, 6, 7, 8, 9, 10, 11, 12, 13, 14] 30 (y := 335) (pcN := 1000) (dC := 2) (bc1 := 1) (bc2 := 6) (c1 := 0) (c2 := 0) (as := [(4, 0), (0, x1), (0, x2), (0, x3), (0, x4), (4, 2)]) (asC := [(4, 0), (0, x1), (0, x2), (0, x3), (0, x4), (4, 1)]) (LN := [(5, (0, 0)), (4, (4, 3)), (3, (4, 2)), (2, (4, 1)), (1, (4, 0)), (0, (6, 0))]) (stN := []) (hsC := jpK_15) (v := (0, 2)) (st2 := [(0, 2)]) (jK_335_19 (d := 0) (by omega) (by omega) (by omega) (by omega)) (by rfl) (by rfl) (by decide +kernel) (by rfl) (by rfl) (by omega) (by omega) (by omega) (by omega) rfl ?_
  refine jT_xistore (v := (0, 2)) (LN := [(6, (0, 2)), (5, (0, 0)), (4, (4, 3)), (3, (4, 2)), (2, (4, 1)), (1, (4, 0)), (0, (6, 0))]) (pcN := 1002) jIK_379_1000 rfl rfl rfl rfl ?_
  refine jT_xaload_n (v := (4, 1)) (pcN := 1003) jIK_379_1002 rfl rfl rfl ?_
  refine jT_xaload_n (v := (6, 0)) (pcN := 1004) jIK_379_1003 rfl rfl rfl ?_
  refine jT_xiload (v := (0, 0)) (pcN := 1006) jIK_379_1004 rfl rfl rfl ?_
  refine jT_xiconst (k := 1) (pcN := 1007) jIK_379_1006 rfl ?_
  refine jT_xiadd (x := 0) (y := 1) (z := 1) (pcN := 1008) jIK_379_1007 rfl (by decide) rfl ?_
  refine jT_adv 1 (pcN := 1009) (LN := [(6, (0, 2)), (5, (0, 0)), (4, (4, 3)), (3, (4, 2)), (2, (4, 1)), (1, (4, 0)), (0, (6, 0))]) (stN := [(0, x1), (4, 1)]) (hsN := jpK_456) (c1 := 0) (s1 := 0) (c2 := 0) (s2 := 0) (by exact rfl) ?_ (by omega) (by omega)
  refine jT_xaload_n (v := (6, 0)) (pcN := 1010) jIK_379_1009 rfl rfl rfl ?_
  refine jT_xiload (v := (0, 0)) (pcN := 1012) jIK_379_1010 rfl rfl rfl ?_
  refine jT_xiconst (k := 2) (pcN := 1013) jIK_379_1012 rfl ?_
  refine jT_xiadd (x := 0) (y := 2) (z := 2) (pcN := 1014) jIK_379_1013 rfl (by decide) rfl ?_
  refine jT_adv 1 (pcN := 1015) (LN := [(6, (0, 2)), (5, (0, 0)), (4, (4, 3)), (3, (4, 2)), (2, (4, 1)), (1, (4, 0)), (0, (6, 0))]) (stN := [(0, x2), (0, x1), (4, 1)]) (hsN := jpK_456) (c1 := 0) (s1 := 0) (c2 := 0) (s2 := 0) (by exact rfl) ?_ (by omega) (by omega)
  refine jT_xaload_n (v := (6, 0)) (pcN := 1016) jIK_379_1015 rfl rfl rfl ?_
  refine jT_xiload (v := (0, 0)) (pcN := 1018) jIK_379_1016 rfl rfl rfl ?_
  refine jT_xiconst (k := 3) (pcN := 1019) jIK_379_1018 rfl ?_
  refine jT_xiadd (x := 0) (y := 3) (z := 3) (pcN := 1020) jIK_379_1019 rfl (by decide) rfl ?_
  refine jT_adv 1 (pcN := 1021) (LN := [(6, (0, 2)), (5, (0, 0)), (4, (4, 3)), (3, (4, 2)), (2, (4, 1)), (1, (4, 0)), (0, (6, 0))]) (stN := [(0, x3), (0, x2), (0, x1), (4, 1)]) (hsN := jpK_456) (c1 := 0) (s1 := 0) (c2 := 0) (s2 := 0) (by exact rfl) ?_ (by omega) (by omega)
  refine jT_xaload_n (v := (6, 0)) (pcN := 1022) jIK_379_1021 rfl rfl rfl ?_
  refine jT_xiload (v := (0, 0)) (pcN := 1024) jIK_379_1022 rfl rfl rfl ?_
  refine jT_xiconst (k := 4) (pcN := 1025) jIK_379_1024 rfl ?_
  refine jT_xiadd (x := 0) (y := 4) (z := 4) (pcN := 1026) jIK_379_1025 rfl (by decide) rfl ?_
  refine jT_adv 1 (pcN := 1027) (LN := [(6, (0, 2)), (5, (0, 0)), (4, (4, 3)), (3, (4, 2)), (2, (4, 1)), (1, (4, 0)), (0, (6, 0))]) (stN := [(0, x4), (0, x3), (0, x2), (0, x1), (4, 1)]) (hsN := jpK_456) (c1 := 0) (s1 := 0) (c2 := 0) (s2 := 0) (by exact rfl) ?_ (by omega) (by omega)
  refine jT_fB [1, 15, 16, 17, 18, 19, 20, 21, 22, 23, 24, 25, 26, 27, 28, 29] 30 (y := 237) (pcN := 1030) (dC := 2) (bc1 := 0) (bc2 := 0) (c1 := 0) (c2 := 0) (as := [(4, 1), (0, x1), (0, x2), (0, x3), (0, x4)]) (asC := [(4, 0), (0, x1), (0, x2), (0, x3), (0, x4)]) (LN := [(6, (0, 2)), (5, (0, 0)), (4, (4, 3)), (3, (4, 2)), (2, (4, 1)), (1, (4, 0)), (0, (6, 0))]) (stN := []) (hsC := jpK_22) (hsD := jpK_48) (v := (0, 0)) (st2 := [(0, 0)]) (hs2 := jpK_506) (jK_237_24 (d := 0) (by omega) (by omega) (by omega) (by omega)) (by rfl) (by rfl) (by decide +kernel) (by rfl) (by rfl) (by omega) (by omega) (by omega) (by omega) rfl (by decide +kernel) ?_
  refine jT_xistore (v := (0, 0)) (LN := [(7, (0, 0)), (6, (0, 2)), (5, (0, 0)), (4, (4, 3)), (3, (4, 2)), (2, (4, 1)), (1, (4, 0)), (0, (6, 0))]) (pcN := 1032) jIK_379_1030 rfl rfl rfl rfl ?_
  refine jT_xaload_n (v := (4, 1)) (pcN := 1033) jIK_379_1032 rfl rfl rfl ?_
  refine jT_fR [1, 15, 16, 17, 18, 19, 20, 21, 22, 23, 24, 25, 26, 27, 28, 29] 30 (y := 186) (pcN := 1036) (dC := 0) (bc1 := 0) (bc2 := 0) (c1 := 0) (c2 := 0) (as := [(4, 1)]) (asC := [(4, 0)]) (LN := [(7, (0, 0)), (6, (0, 2)), (5, (0, 0)), (4, (4, 3)), (3, (4, 2)), (2, (4, 1)), (1, (4, 0)), (0, (6, 0))]) (stN := []) (hsC := jpK_48) (v := (0, 2)) (st2 := [(0, 2)]) (jK_186_25 (d := 0)) (by rfl) (by rfl) (by decide +kernel) (by rfl) (by rfl) (by omega) (by omega) (by omega) (by omega) rfl ?_
  refine jT_xiload (v := (0, 2)) (pcN := 1038) jIK_379_1036 rfl rfl rfl ?_
  refine jT_xicT (pcN := 1043) jIK_379_1038 rfl (by decide +kernel) rfl ?_
  refine jT_xiload (v := (0, 2)) (pcN := 1045) jIK_379_1043 rfl rfl rfl ?_
  refine jT_xifT (pcN := 1060) jIK_379_1045 rfl (by decide +kernel) rfl ?_
  refine jT_xgoto (pcN := 3740) jIK_379_1060 rfl ?_
  refine jT_xiinc (x := 0) (z := 5) (LN := [(5, (0, 5)), (7, (0, 0)), (6, (0, 2)), (4, (4, 3)), (3, (4, 2)), (2, (4, 1)), (1, (4, 0)), (0, (6, 0))]) (pcN := 3743) jIK_379_3740 rfl rfl (by decide) rfl rfl ?_
  refine jT_xgoto (pcN := 28) jIK_379_3743 rfl ?_
  refine jT_xiload (v := (0, 5)) (pcN := 30) jIK_379_28 rfl rfl rfl ?_
  refine jT_xaload_n (v := (6, 0)) (pcN := 31) jIK_379_30 rfl rfl rfl ?_
  refine jT_adv 1 (pcN := 32) (LN := [(5, (0, 5)), (7, (0, 0)), (6, (0, 2)), (4, (4, 3)), (3, (4, 2)), (2, (4, 1)), (1, (4, 0)), (0, (6, 0))]) (stN := [(0, 5), (0, 5)]) (hsN := jpK_506) (c1 := 0) (s1 := 0) (c2 := 0) (s2 := 0) (by exact rfl) ?_ (by omega) (by omega)
  refine jT_xiconst (k := 5) (pcN := 33) jIK_379_32 rfl ?_
  refine jT_xisub (x := 5) (y := 5) (z := 0) (pcN := 34) jIK_379_33 rfl (by decide) rfl ?_
  refine jT_xicT (pcN := 3746) jIK_379_34 rfl (by decide +kernel) rfl ?_
  refine jT_xiconst (k := 1) (pcN := 3747) jIK_379_3746 rfl ?_
  exact jT_ret rfl (by decide) (by show 30 ≤ 30; decide) (by omega) (by omega) ⟨rfl, rfl⟩
set_option maxRecDepth 100000 in
theorem jL_9_3 {d : Nat} {x0 x1 x2 x3 x4 : Int} (h_x0 : (-2147483648) ≤ x0 ∧ x0 ≤ 2147483647) (h_x1 : 0 ≤ x1 ∧ x1 ≤ 3) (h_x2 : 0 ≤ x2 ∧ x2 ≤ 7) (h_x3 : (-50) ≤ x3 ∧ x3 ≤ 50) (h_x4 : (-2147483648) ≤ x4 ∧ x4 ≤ 0) : jT [x0, x1, x2, x3, x4] (d + 3) 379 30 971 [(5, (0, 0)), (4, (4, 3)), (3, (4, 2)), (2, (4, 1)), (1, (4, 0)), (0, (6, 0))] [] jpK_456 1 6 (fun k v hsN => k = 0 ∧ v = (0, 1)) := by
  refine jT_xaload_n (v := (4, 0)) (pcN := 972) jIK_379_971 rfl rfl rfl ?_
  refine jT_xaload_n (v := (6, 0)) (pcN := 973) jIK_379_972 rfl rfl rfl ?_
  refine jT_xiload (v := (0, 0)) (pcN := 975) jIK_379_973 rfl rfl rfl ?_
  refine jT_xiconst (k := 1) (pcN := 976) jIK_379_975 rfl ?_
  refine jT_xiadd (x := 0) (y := 1) (z := 1) (pcN := 977) jIK_379_976 rfl (by decide) rfl ?_
  refine jT_adv 1 (pcN := 978) (LN := [(5, (0, 0)), (4, (4, 3)), (3, (4, 2)), (2, (4, 1)), (1, (4, 0)), (0, (6, 0))]) (stN := [(0, x1), (4, 0)]) (hsN := jpK_456) (c1 := 0) (s1 := 0) (c2 := 1) (s2 := 6) (by exact rfl) ?_ (by omega) (by omega)
  refine jT_xaload_n (v := (6, 0)) (pcN := 979) jIK_379_978 rfl rfl rfl ?_
  refine jT_xiload (v := (0, 0)) (pcN := 981) jIK_379_979 rfl rfl rfl ?_
  refine jT_xiconst (k := 2) (pcN := 982) jIK_379_981 rfl ?_
  refine jT_xiadd (x := 0) (y := 2) (z := 2) (pcN := 983) jIK_379_982 rfl (by decide) rfl ?_
  refine jT_adv 1 (pcN := 984) (LN := [(5, (0, 0)), (4, (4, 3)), (3, (4, 2)), (2, (4, 1)), (1, (4, 0)), (0, (6, 0))]) (stN := [(0, x2), (0, x1), (4, 0)]) (hsN := jpK_456) (c1 := 0) (s1 := 0) (c2 := 1) (s2 := 6) (by exact rfl) ?_ (by omega) (by omega)
  refine jT_xaload_n (v := (6, 0)) (pcN := 985) jIK_379_984 rfl rfl rfl ?_
  refine jT_xiload (v := (0, 0)) (pcN := 987) jIK_379_985 rfl rfl rfl ?_
  refine jT_xiconst (k := 3) (pcN := 988) jIK_379_987 rfl ?_
  refine jT_xiadd (x := 0) (y := 3) (z := 3) (pcN := 989) jIK_379_988 rfl (by decide) rfl ?_
  refine jT_adv 1 (pcN := 990) (LN := [(5, (0, 0)), (4, (4, 3)), (3, (4, 2)), (2, (4, 1)), (1, (4, 0)), (0, (6, 0))]) (stN := [(0, x3), (0, x2), (0, x1), (4, 0)]) (hsN := jpK_456) (c1 := 0) (s1 := 0) (c2 := 1) (s2 := 6) (by exact rfl) ?_ (by omega) (by omega)
  refine jT_xaload_n (v := (6, 0)) (pcN := 991) jIK_379_990 rfl rfl rfl ?_
  refine jT_xiload (v := (0, 0)) (pcN := 993) jIK_379_991 rfl rfl rfl ?_
  refine jT_xiconst (k := 4) (pcN := 994) jIK_379_993 rfl ?_
  refine jT_xiadd (x := 0) (y := 4) (z := 4) (pcN := 995) jIK_379_994 rfl (by decide) rfl ?_
  refine jT_adv 1 (pcN := 996) (LN := [(5, (0, 0)), (4, (4, 3)), (3, (4, 2)), (2, (4, 1)), (1, (4, 0)), (0, (6, 0))]) (stN := [(0, x4), (0, x3), (0, x2), (0, x1), (4, 0)]) (hsN := jpK_456) (c1 := 0) (s1 := 0) (c2 := 1) (s2 := 6) (by exact rfl) ?_ (by omega) (by omega)
  refine jT_xaload_n (v := (4, 2)) (pcN := 997) jIK_379_996 rfl rfl rfl ?_
  refine jT_fR [0, 2, 4, 5, 6, 7, 8, 9, 10, 11, 12, 13, 14] 30 (y := 335) (pcN := 1000) (dC := 2) (bc1 := 1) (bc2 := 6) (c1 := 0) (c2 := 0) (as := [(4, 0), (0, x1), (0, x2), (0, x3), (0, x4), (4, 2)]) (asC := [(4, 0), (0, x1), (0, x2), (0, x3), (0, x4), (4, 1)]) (LN := [(5, (0, 0)), (4, (4, 3)), (3, (4, 2)), (2, (4, 1)), (1, (4, 0)), (0, (6, 0))]) (stN := []) (hsC := jpK_15) (v := (0, 2)) (st2 := [(0, 2)]) (jK_335_29 (d := 0) (by omega) (by omega) (by omega) (by omega)) (by rfl) (by rfl) (by decide +kernel) (by rfl) (by rfl) (by omega) (by omega) (by omega) (by omega) rfl ?_
  refine jT_xistore (v := (0, 2)) (LN := [(6, (0, 2)), (5, (0, 0)), (4, (4, 3)), (3, (4, 2)), (2, (4, 1)), (1, (4, 0)), (0, (6, 0))]) (pcN := 1002) jIK_379_1000 rfl rfl rfl rfl ?_
  refine jT_xaload_n (v := (4, 1)) (pcN := 1003) jIK_379_1002 rfl rfl rfl ?_
  refine jT_xaload_n (v := (6, 0)) (pcN := 1004) jIK_379_1003 rfl rfl rfl ?_
  refine jT_xiload (v := (0, 0)) (pcN := 1006) jIK_379_1004 rfl rfl rfl ?_
  refine jT_xiconst (k := 1) (pcN := 1007) jIK_379_1006 rfl ?_
  refine jT_xiadd (x := 0) (y := 1) (z := 1) (pcN := 1008) jIK_379_1007 rfl (by decide) rfl ?_
  refine jT_adv 1 (pcN := 1009) (LN := [(6, (0, 2)), (5, (0, 0)), (4, (4, 3)), (3, (4, 2)), (2, (4, 1)), (1, (4, 0)), (0, (6, 0))]) (stN := [(0, x1), (4, 1)]) (hsN := jpK_456) (c1 := 0) (s1 := 0) (c2 := 0) (s2 := 0) (by exact rfl) ?_ (by omega) (by omega)
  refine jT_xaload_n (v := (6, 0)) (pcN := 1010) jIK_379_1009 rfl rfl rfl ?_
  refine jT_xiload (v := (0, 0)) (pcN := 1012) jIK_379_1010 rfl rfl rfl ?_
  refine jT_xiconst (k := 2) (pcN := 1013) jIK_379_1012 rfl ?_
  refine jT_xiadd (x := 0) (y := 2) (z := 2) (pcN := 1014) jIK_379_1013 rfl (by decide) rfl ?_
  refine jT_adv 1 (pcN := 1015) (LN := [(6, (0, 2)), (5, (0, 0)), (4, (4, 3)), (3, (4, 2)), (2, (4, 1)), (1, (4, 0)), (0, (6, 0))]) (stN := [(0, x2), (0, x1), (4, 1)]) (hsN := jpK_456) (c1 := 0) (s1 := 0) (c2 := 0) (s2 := 0) (by exact rfl) ?_ (by omega) (by omega)
  refine jT_xaload_n (v := (6, 0)) (pcN := 1016) jIK_379_1015 rfl rfl rfl ?_
  refine jT_xiload (v := (0, 0)) (pcN := 1018) jIK_379_1016 rfl rfl rfl ?_
  refine jT_xiconst (k := 3) (pcN := 1019) jIK_379_1018 rfl ?_
  refine jT_xiadd (x := 0) (y := 3) (z := 3) (pcN := 1020) jIK_379_1019 rfl (by decide) rfl ?_
  refine jT_adv 1 (pcN := 1021) (LN := [(6, (0, 2)), (5, (0, 0)), (4, (4, 3)), (3, (4, 2)), (2, (4, 1)), (1, (4, 0)), (0, (6, 0))]) (stN := [(0, x3), (0, x2), (0, x1), (4, 1)]) (hsN := jpK_456) (c1 := 0) (s1 := 0) (c2 := 0) (s2 := 0) (by exact rfl) ?_ (by omega) (by omega)
  refine jT_xaload_n (v := (6, 0)) (pcN := 1022) jIK_379_1021 rfl rfl rfl ?_
  refine jT_xiload (v := (0, 0)) (pcN := 1024) jIK_379_1022 rfl rfl rfl ?_
  refine jT_xiconst (k := 4) (pcN := 1025) jIK_379_1024 rfl ?_
  refine jT_xiadd (x := 0) (y := 4) (z := 4) (pcN := 1026) jIK_379_1025 rfl (by decide) rfl ?_
  refine jT_adv 1 (pcN := 1027) (LN := [(6, (0, 2)), (5, (0, 0)), (4, (4, 3)), (3, (4, 2)), (2, (4, 1)), (1, (4, 0)), (0, (6, 0))]) (stN := [(0, x4), (0, x3), (0, x2), (0, x1), (4, 1)]) (hsN := jpK_456) (c1 := 0) (s1 := 0) (c2 := 0) (s2 := 0) (by exact rfl) ?_ (by omega) (by omega)
  refine jT_fB [1, 15, 16, 17, 18, 19, 20, 21, 22, 23, 24, 25, 26, 27, 28, 29] 30 (y := 237) (pcN := 1030) (dC := 2) (bc1 := 0) (bc2 := 0) (c1 := 0) (c2 := 0) (as := [(4, 1), (0, x1), (0, x2), (0, x3), (0, x4)]) (asC := [(4, 0), (0, x1), (0, x2), (0, x3), (0, x4)]) (LN := [(6, (0, 2)), (5, (0, 0)), (4, (4, 3)), (3, (4, 2)), (2, (4, 1)), (1, (4, 0)), (0, (6, 0))]) (stN := []) (hsC := jpK_22) (hsD := jpK_48) (v := (0, 0)) (st2 := [(0, 0)]) (hs2 := jpK_506) (jK_237_30 (d := 0) (by omega) (by omega) (by omega) (by omega)) (by rfl) (by rfl) (by decide +kernel) (by rfl) (by rfl) (by omega) (by omega) (by omega) (by omega) rfl (by decide +kernel) ?_
  refine jT_xistore (v := (0, 0)) (LN := [(7, (0, 0)), (6, (0, 2)), (5, (0, 0)), (4, (4, 3)), (3, (4, 2)), (2, (4, 1)), (1, (4, 0)), (0, (6, 0))]) (pcN := 1032) jIK_379_1030 rfl rfl rfl rfl ?_
  refine jT_xaload_n (v := (4, 1)) (pcN := 1033) jIK_379_1032 rfl rfl rfl ?_
  refine jT_fR [1, 15, 16, 17, 18, 19, 20, 21, 22, 23, 24, 25, 26, 27, 28, 29] 30 (y := 186) (pcN := 1036) (dC := 0) (bc1 := 0) (bc2 := 0) (c1 := 0) (c2 := 0) (as := [(4, 1)]) (asC := [(4, 0)]) (LN := [(7, (0, 0)), (6, (0, 2)), (5, (0, 0)), (4, (4, 3)), (3, (4, 2)), (2, (4, 1)), (1, (4, 0)), (0, (6, 0))]) (stN := []) (hsC := jpK_48) (v := (0, 2)) (st2 := [(0, 2)]) (jK_186_25 (d := 0)) (by rfl) (by rfl) (by decide +kernel) (by rfl) (by rfl) (by omega) (by omega) (by omega) (by omega) rfl ?_
  refine jT_xiload (v := (0, 2)) (pcN := 1038) jIK_379_1036 rfl rfl rfl ?_
  refine jT_xicT (pcN := 1043) jIK_379_1038 rfl (by decide +kernel) rfl ?_
  refine jT_xiload (v := (0, 2)) (pcN := 1045) jIK_379_1043 rfl rfl rfl ?_
  refine jT_xifT (pcN := 1060) jIK_379_1045 rfl (by decide +kernel) rfl ?_
  refine jT_xgoto (pcN := 3740) jIK_379_1060 rfl ?_
  refine jT_xiinc (x := 0) (z := 5) (LN := [(5, (0, 5)), (7, (0, 0)), (6, (0, 2)), (4, (4, 3)), (3, (4, 2)), (2, (4, 1)), (1, (4, 0)), (0, (6, 0))]) (pcN := 3743) jIK_379_3740 rfl rfl (by decide) rfl rfl ?_
  refine jT_xgoto (pcN := 28) jIK_379_3743 rfl ?_
  refine jT_xiload (v := (0, 5)) (pcN := 30) jIK_379_28 rfl rfl rfl ?_
  refine jT_xaload_n (v := (6, 0)) (pcN := 31) jIK_379_30 rfl rfl rfl ?_
  refine jT_adv 1 (pcN := 32) (LN := [(5, (0, 5)), (7, (0, 0)), (6, (0, 2)), (4, (4, 3)), (3, (4, 2)), (2, (4, 1)), (1, (4, 0)), (0, (6, 0))]) (stN := [(0, 5), (0, 5)]) (hsN := jpK_506) (c1 := 0) (s1 := 0) (c2 := 0) (s2 := 0) (by exact rfl) ?_ (by omega) (by omega)
  refine jT_xiconst (k := 5) (pcN := 33) jIK_379_32 rfl ?_
  refine jT_xisub (x := 5) (y := 5) (z := 0) (pcN := 34) jIK_379_33 rfl (by decide) rfl ?_
  refine jT_xicT (pcN := 3746) jIK_379_34 rfl (by decide +kernel) rfl ?_
  refine jT_xiconst (k := 1) (pcN := 3747) jIK_379_3746 rfl ?_
  exact jT_ret rfl (by decide) (by show 30 ≤ 30; decide) (by omega) (by omega) ⟨rfl, rfl⟩
def jzK_507 : JC := (9, [(4, 32), (4, 33), (4, 34), (4, 35), (4, 36)], [])
def jzK_508 : JC := (130, [], [37, 38, 39, 40, 41, 42, 43, 44])
def jzK_509 : JC := (114, [], [51, 51, 51, 51, 51, 51, 51, 51])
def jpK_510 : List JC := [jzK_454, jzK_455, (101, [], [0]), jgh, (8, [(4, 30), (4, 31)], []), jgh, jgh, jgh, jgh, jgh, jgh, (101, [], [0, 0, 0, 0, 0, 0]), jgh, jzK_180, jzK_507, (100, [], jS0), (100, [], []), jzK_508, jzK_360, jgh, (130, [], [45, 46, 47, 48, 49, 50]), (101, [], [0, 0, 0, 0, 0, 0]), (100, [], (List.replicate 1792 0)), jgh, jgh, jgh, jgh, jgh, jgh, jgh, jgh, (101, [], [0, 0, 0, 0, 0, 0]), jzK_509, (117, [], [52, 53, 54, 55]), jgh, jgh, jgh, (100, [], (List.replicate 1613 0)), jgh, jgh, jgh, jgh, jgh, jgh, jgh, (100, [], (jenc (jlg 0))), jgh, jgh, jgh, jgh, jgh, (4, [(4, 56), (1, 1)], []), jgh, jgh, jgh, jgh, (101, [], [0, 0, 0, 0, 0, 0])]
def jzK_511 : JC := (13, [(4, 4), (4, 5), (4, 6), (4, 7), (4, 8), (4, 9), (4, 10), (4, 11), (4, 12), (4, 13), (0, 1), (4, 63), (0, 0)], [])
def jzK_512 : JC := (119, [], [14, (-1), (-1), (-1), (-1), (-1), (-1), (-1)])
def jzK_513 : JC := (114, [], [59, (-1), (-1), (-1), (-1), (-1), (-1), (-1), (-1), (-1), (-1), (-1), (-1), (-1), (-1), (-1), (-1), (-1), (-1), (-1), (-1), (-1), (-1), (-1), (-1), (-1), (-1), (-1), (-1), (-1), (-1), (-1), (-1), (-1), (-1), (-1), (-1), (-1), (-1), (-1)])
def jzK_514 : JC := (9, [(4, 32), (4, 62), (4, 34), (4, 35), (4, 36)], [])
def jpK_515 : List JC := [jzK_511, jzK_455, (101, [], [1]), jgh, (8, [(4, 30), (4, 31)], []), jgh, jgh, jgh, jgh, jgh, jgh, (101, [], [0, 0, 0, 0, 0, 0]), jgh, jzK_512, jzK_507, (100, [], jS0), (100, [], []), jzK_508, jzK_360, jgh, (130, [], [45, 46, 47, 48, 49, 50]), (101, [], [0, 0, 0, 0, 0, 0]), (100, [], (List.replicate 1792 0)), jgh, jgh, jgh, jgh, jgh, jgh, jgh, jgh, (101, [], [0, 0, 0, 0, 0, 0]), jzK_509, (117, [], [52, 53, 54, 55]), jgh, jgh, jgh, (100, [], (List.replicate 1613 0)), jgh, jgh, jgh, jgh, jgh, jgh, jgh, (100, [], (jenc (jlg 0))), jgh, jgh, jgh, jgh, jgh, (4, [(4, 56), (1, 1)], []), jgh, jgh, jgh, jgh, (101, [], [0, 0, 0, 0, 0, 0]), jzK_513, (101, [], [0, 0, 0, 0, 0, 0]), (4, [(4, 58), (1, 1)], []), (114, [], [59]), (7, [(4, 60), (4, (-1)), (4, (-1))], []), jgh, jzK_514]
def jzK_516 : JC := (14, [(0, 0), (4, 15), (4, 16), (4, 17), (4, 18), (0, 1), (4, 19), (0, 0), (4, 20), (4, 21), (1, 1), (4, 22), (0, 1), (4, 23), (0, 0), (0, 0), (0, 0), (0, 0), (0, 0), (0, 0), (0, 0), (4, 24), (4, 25), (4, 26), (4, 27), (4, 28), (4, 29), (0, 0)], [])
def jzK_517 : JC := (130, [], [16, (-1), (-1), (-1), (-1), (-1), (-1), (-1)])
theorem jIK_379_1048 : jmI (jm 379) 1048 = (.aload_n 3, 1) := by rfl
theorem jIK_379_1049 : jmI (jm 379) 1049 = (.iconst 0, 1) := by rfl
theorem jIK_379_1050 : jmI (jm 379) 1050 = (.laload, 1) := by rfl
theorem jIK_379_1051 : jmI (jm 379) 1051 = (.iload 7, 2) := by rfl
theorem jIK_379_1053 : jmI (jm 379) 1053 = (.i2l, 1) := by rfl
theorem jIK_379_1055 : jmI (jm 379) 1055 = (.ifCond .eq 5, 3) := by rfl
set_option maxRecDepth 100000 in
theorem jL_9_4 {d : Nat} {x0 x1 x2 x3 x4 : Int} (h_x0 : (-2147483648) ≤ x0 ∧ x0 ≤ 2147483647) (h_x1 : 0 ≤ x1 ∧ x1 ≤ 3) (h_x2 : 0 ≤ x2 ∧ x2 ≤ 7) (h_x3 : (-50) ≤ x3 ∧ x3 ≤ 50) (h_x4 : 1 ≤ x4 ∧ x4 ≤ 40) : jT [x0, x1, x2, x3, x4] (d + 9) 379 57 971 [(5, (0, 0)), (4, (4, 3)), (3, (4, 2)), (2, (4, 1)), (1, (4, 0)), (0, (6, 0))] [] jpK_510 324 7807 (fun k v hsN => k = 0 ∧ v = (0, 1)) := by
  refine jT_xaload_n (v := (4, 0)) (pcN := 972) jIK_379_971 rfl rfl rfl ?_
  refine jT_xaload_n (v := (6, 0)) (pcN := 973) jIK_379_972 rfl rfl rfl ?_
  refine jT_xiload (v := (0, 0)) (pcN := 975) jIK_379_973 rfl rfl rfl ?_
  refine jT_xiconst (k := 1) (pcN := 976) jIK_379_975 rfl ?_
  refine jT_xiadd (x := 0) (y := 1) (z := 1) (pcN := 977) jIK_379_976 rfl (by decide) rfl ?_
  refine jT_adv 1 (pcN := 978) (LN := [(5, (0, 0)), (4, (4, 3)), (3, (4, 2)), (2, (4, 1)), (1, (4, 0)), (0, (6, 0))]) (stN := [(0, x1), (4, 0)]) (hsN := jpK_510) (c1 := 0) (s1 := 0) (c2 := 324) (s2 := 7807) (by exact rfl) ?_ (by omega) (by omega)
  refine jT_xaload_n (v := (6, 0)) (pcN := 979) jIK_379_978 rfl rfl rfl ?_
  refine jT_xiload (v := (0, 0)) (pcN := 981) jIK_379_979 rfl rfl rfl ?_
  refine jT_xiconst (k := 2) (pcN := 982) jIK_379_981 rfl ?_
  refine jT_xiadd (x := 0) (y := 2) (z := 2) (pcN := 983) jIK_379_982 rfl (by decide) rfl ?_
  refine jT_adv 1 (pcN := 984) (LN := [(5, (0, 0)), (4, (4, 3)), (3, (4, 2)), (2, (4, 1)), (1, (4, 0)), (0, (6, 0))]) (stN := [(0, x2), (0, x1), (4, 0)]) (hsN := jpK_510) (c1 := 0) (s1 := 0) (c2 := 324) (s2 := 7807) (by exact rfl) ?_ (by omega) (by omega)
  refine jT_xaload_n (v := (6, 0)) (pcN := 985) jIK_379_984 rfl rfl rfl ?_
  refine jT_xiload (v := (0, 0)) (pcN := 987) jIK_379_985 rfl rfl rfl ?_
  refine jT_xiconst (k := 3) (pcN := 988) jIK_379_987 rfl ?_
  refine jT_xiadd (x := 0) (y := 3) (z := 3) (pcN := 989) jIK_379_988 rfl (by decide) rfl ?_
  refine jT_adv 1 (pcN := 990) (LN := [(5, (0, 0)), (4, (4, 3)), (3, (4, 2)), (2, (4, 1)), (1, (4, 0)), (0, (6, 0))]) (stN := [(0, x3), (0, x2), (0, x1), (4, 0)]) (hsN := jpK_510) (c1 := 0) (s1 := 0) (c2 := 324) (s2 := 7807) (by exact rfl) ?_ (by omega) (by omega)
  refine jT_xaload_n (v := (6, 0)) (pcN := 991) jIK_379_990 rfl rfl rfl ?_
  refine jT_xiload (v := (0, 0)) (pcN := 993) jIK_379_991 rfl rfl rfl ?_
  refine jT_xiconst (k := 4) (pcN := 994) jIK_379_993 rfl ?_
  refine jT_xiadd (x := 0) (y := 4) (z := 4) (pcN := 995) jIK_379_994 rfl (by decide) rfl ?_
  refine jT_adv 1 (pcN := 996) (LN := [(5, (0, 0)), (4, (4, 3)), (3, (4, 2)), (2, (4, 1)), (1, (4, 0)), (0, (6, 0))]) (stN := [(0, x4), (0, x3), (0, x2), (0, x1), (4, 0)]) (hsN := jpK_510) (c1 := 0) (s1 := 0) (c2 := 324) (s2 := 7807) (by exact rfl) ?_ (by omega) (by omega)
  refine jT_xaload_n (v := (4, 2)) (pcN := 997) jIK_379_996 rfl rfl rfl ?_
  refine jT_fB [0, 2, 4, 5, 6, 7, 8, 9, 10, 11, 12, 13, 14, 30, 31, 32, 33, 34, 35, 36, 51, 52, 53, 54, 55, 56] 57 (y := 335) (pcN := 1000) (dC := 7) (bc1 := 85) (bc2 := 373) (c1 := 239) (c2 := 7434) (as := [(4, 0), (0, x1), (0, x2), (0, x3), (0, x4), (4, 2)]) (asC := [(4, 0), (0, x1), (0, x2), (0, x3), (0, x4), (4, 1)]) (LN := [(5, (0, 0)), (4, (4, 3)), (3, (4, 2)), (2, (4, 1)), (1, (4, 0)), (0, (6, 0))]) (stN := []) (hsC := jpK_242) (hsD := jpK_239) (v := (0, 0)) (st2 := [(0, 0)]) (hs2 := jpK_515) (jK_335_59 (d := 0) (by omega) (by omega) (by omega) (by omega)) (by rfl) (by rfl) (by decide +kernel) (by rfl) (by rfl) (by omega) (by omega) (by omega) (by omega) rfl (by decide +kernel) ?_
  refine jT_xistore (v := (0, 0)) (LN := [(6, (0, 0)), (5, (0, 0)), (4, (4, 3)), (3, (4, 2)), (2, (4, 1)), (1, (4, 0)), (0, (6, 0))]) (pcN := 1002) jIK_379_1000 rfl rfl rfl rfl ?_
  refine jT_xaload_n (v := (4, 1)) (pcN := 1003) jIK_379_1002 rfl rfl rfl ?_
  refine jT_xaload_n (v := (6, 0)) (pcN := 1004) jIK_379_1003 rfl rfl rfl ?_
  refine jT_xiload (v := (0, 0)) (pcN := 1006) jIK_379_1004 rfl rfl rfl ?_
  refine jT_xiconst (k := 1) (pcN := 1007) jIK_379_1006 rfl ?_
  refine jT_xiadd (x := 0) (y := 1) (z := 1) (pcN := 1008) jIK_379_1007 rfl (by decide) rfl ?_
  refine jT_adv 1 (pcN := 1009) (LN := [(6, (0, 0)), (5, (0, 0)), (4, (4, 3)), (3, (4, 2)), (2, (4, 1)), (1, (4, 0)), (0, (6, 0))]) (stN := [(0, x1), (4, 1)]) (hsN := jpK_515) (c1 := 0) (s1 := 0) (c2 := 239) (s2 := 7434) (by exact rfl) ?_ (by omega) (by omega)
  refine jT_xaload_n (v := (6, 0)) (pcN := 1010) jIK_379_1009 rfl rfl rfl ?_
  refine jT_xiload (v := (0, 0)) (pcN := 1012) jIK_379_1010 rfl rfl rfl ?_
  refine jT_xiconst (k := 2) (pcN := 1013) jIK_379_1012 rfl ?_
  refine jT_xiadd (x := 0) (y := 2) (z := 2) (pcN := 1014) jIK_379_1013 rfl (by decide) rfl ?_
  refine jT_adv 1 (pcN := 1015) (LN := [(6, (0, 0)), (5, (0, 0)), (4, (4, 3)), (3, (4, 2)), (2, (4, 1)), (1, (4, 0)), (0, (6, 0))]) (stN := [(0, x2), (0, x1), (4, 1)]) (hsN := jpK_515) (c1 := 0) (s1 := 0) (c2 := 239) (s2 := 7434) (by exact rfl) ?_ (by omega) (by omega)
  refine jT_xaload_n (v := (6, 0)) (pcN := 1016) jIK_379_1015 rfl rfl rfl ?_
  refine jT_xiload (v := (0, 0)) (pcN := 1018) jIK_379_1016 rfl rfl rfl ?_
  refine jT_xiconst (k := 3) (pcN := 1019) jIK_379_1018 rfl ?_
  refine jT_xiadd (x := 0) (y := 3) (z := 3) (pcN := 1020) jIK_379_1019 rfl (by decide) rfl ?_
  refine jT_adv 1 (pcN := 1021) (LN := [(6, (0, 0)), (5, (0, 0)), (4, (4, 3)), (3, (4, 2)), (2, (4, 1)), (1, (4, 0)), (0, (6, 0))]) (stN := [(0, x3), (0, x2), (0, x1), (4, 1)]) (hsN := jpK_515) (c1 := 0) (s1 := 0) (c2 := 239) (s2 := 7434) (by exact rfl) ?_ (by omega) (by omega)
  refine jT_xaload_n (v := (6, 0)) (pcN := 1022) jIK_379_1021 rfl rfl rfl ?_
  refine jT_xiload (v := (0, 0)) (pcN := 1024) jIK_379_1022 rfl rfl rfl ?_
  refine jT_xiconst (k := 4) (pcN := 1025) jIK_379_1024 rfl ?_
  refine jT_xiadd (x := 0) (y := 4) (z := 4) (pcN := 1026) jIK_379_1025 rfl (by decide) rfl ?_
  refine jT_adv 1 (pcN := 1027) (LN := [(6, (0, 0)), (5, (0, 0)), (4, (4, 3)), (3, (4, 2)), (2, (4, 1)), (1, (4, 0)), (0, (6, 0))]) (stN := [(0, x4), (0, x3), (0, x2), (0, x1), (4, 1)]) (hsN := jpK_515) (c1 := 0) (s1 := 0) (c2 := 239) (s2 := 7434) (by exact rfl) ?_ (by omega) (by omega)
  refine jT_fB [1, 15, 16, 17, 18, 19, 20, 21, 22, 23, 24, 25, 26, 27, 28, 29, 37, 38, 39, 40, 41, 42, 43, 44, 45, 46, 47, 48, 49, 50] 64 (y := 237) (pcN := 1030) (dC := 8) (bc1 := 239) (bc2 := 7434) (c1 := 0) (c2 := 0) (as := [(4, 1), (0, x1), (0, x2), (0, x3), (0, x4)]) (asC := [(4, 0), (0, x1), (0, x2), (0, x3), (0, x4)]) (LN := [(6, (0, 0)), (5, (0, 0)), (4, (4, 3)), (3, (4, 2)), (2, (4, 1)), (1, (4, 0)), (0, (6, 0))]) (stN := []) (hsC := jpK_402) (hsD := [jzK_363, (100, [], (jcpy (((((((((((((((List.replicate 1792 0)).set 0 0)).set 1 0)).set 2 0)).set 3 0)).set 4 0)).set 5 0)).set 6 1) ((jS0).set ((281 * x1 + 56).toNat) 1) 0 ((281 * x1 + 57).toNat) 7)), (100, [], []), jzK_359, jzK_364, jgh, (130, [], [24, 25, 26, 27, 28, 29]), (101, [], [0, 0, 0, 0, 0, 0]), jzK_327, jgh, jgh, jgh, jgh, jgh, jgh, jgh, (100, [], jS0), jgh, jgh, jgh, jgh, jgh, jgh, jgh, (100, [], (jenc (jlg 0))), jgh, jgh, jgh, jgh, jgh, (101, [], [0, 0, 0, 0, 0, 0]), (101, [], [(-1), 0, 0, 0, 0, 0]), (100, [], (jenc 0)), (100, [], (jenc (-1))), (100, [], (jenc ((-1) * (jlg 0))))]) (v := (0, 1)) (st2 := [(0, 1)]) (hs2 := [jzK_511, jzK_516, (101, [], [1]), jgh, (8, [(4, 30), (4, 31)], []), jgh, jgh, jgh, jgh, jgh, jgh, (101, [], [0, 0, 0, 0, 0, 0]), jgh, jzK_512, jzK_507, (100, [], (jcpy (((((((((((((((List.replicate 1792 0)).set 0 0)).set 1 0)).set 2 0)).set 3 0)).set 4 0)).set 5 0)).set 6 1) ((jS0).set ((281 * x1 + 56).toNat) 1) 0 ((281 * x1 + 57).toNat) 7)), (100, [], []), jzK_508, jzK_517, jgh, (130, [], [45, 46, 47, 48, 49, 50]), (101, [], [0, 0, 0, 0, 0, 0]), jzK_327, jgh, jgh, jgh, jgh, jgh, jgh, jgh, jgh, (101, [], [0, 0, 0, 0, 0, 0]), jzK_509, (117, [], [52, 53, 54, 55]), jgh, jgh, jgh, (100, [], jS0), jgh, jgh, jgh, jgh, jgh, jgh, jgh, (100, [], (jenc (jlg 0))), jgh, jgh, jgh, jgh, jgh, (4, [(4, 56), (1, 1)], []), jgh, jgh, jgh, jgh, (101, [], [0, 0, 0, 0, 0, 0]), jzK_513, (101, [], [0, 0, 0, 0, 0, 0]), (4, [(4, 58), (1, 1)], []), (114, [], [59]), (7, [(4, 60), (4, (-1)), (4, (-1))], []), jgh, jzK_514, (101, [], [0, 0, 0, 0, 0, 0]), (101, [], [(-1), 0, 0, 0, 0, 0]), (100, [], (jenc 0)), (100, [], (jenc (-1))), (100, [], (jenc ((-1) * (jlg 0))))]) (jK_237_99 (d := 0) (by omega) (by omega) (by omega) (by omega)) (by rfl) (by rfl) (by decide +kernel) (by rfl) (by rfl) (by omega) (by omega) (by omega) (by omega) rfl rfl ?_
  refine jT_xistore (v := (0, 1)) (LN := [(7, (0, 1)), (6, (0, 0)), (5, (0, 0)), (4, (4, 3)), (3, (4, 2)), (2, (4, 1)), (1, (4, 0)), (0, (6, 0))]) (pcN := 1032) jIK_379_1030 rfl rfl rfl rfl ?_
  refine jT_xaload_n (v := (4, 1)) (pcN := 1033) jIK_379_1032 rfl rfl rfl ?_
  refine jT_callA [1, 15, 16, 17, 18, 19, 20, 21, 22, 23, 24, 25, 26, 27, 28, 29] (y := 186) (pcN := 1036) (dC := 0) (bc1 := 0) (bc2 := 0) (c1 := 0) (c2 := 0) (as := [(4, 1)]) (asC := [(4, 0)]) (LN := [(7, (0, 1)), (6, (0, 0)), (5, (0, 0)), (4, (4, 3)), (3, (4, 2)), (2, (4, 1)), (1, (4, 0)), (0, (6, 0))]) (stN := []) (hsC := jpK_448) (ex := []) (v := (0, 0)) (st2 := [(0, 0)]) (hs2 := [jzK_511, jzK_516, (101, [], [1]), jgh, (8, [(4, 30), (4, 31)], []), jgh, jgh, jgh, jgh, jgh, jgh, (101, [], [0, 0, 0, 0, 0, 0]), jgh, jzK_512, jzK_507, (100, [], (jcpy (((((((((((((((List.replicate 1792 0)).set 0 0)).set 1 0)).set 2 0)).set 3 0)).set 4 0)).set 5 0)).set 6 1) ((jS0).set ((281 * x1 + 56).toNat) 1) 0 ((281 * x1 + 57).toNat) 7)), (100, [], []), jzK_508, jzK_517, jgh, (130, [], [45, 46, 47, 48, 49, 50]), (101, [], [0, 0, 0, 0, 0, 0]), jzK_327, jgh, jgh, jgh, jgh, jgh, jgh, jgh, jgh, (101, [], [0, 0, 0, 0, 0, 0]), jzK_509, (117, [], [52, 53, 54, 55]), jgh, jgh, jgh, (100, [], jS0), jgh, jgh, jgh, jgh, jgh, jgh, jgh, (100, [], (jenc (jlg 0))), jgh, jgh, jgh, jgh, jgh, (4, [(4, 56), (1, 1)], []), jgh, jgh, jgh, jgh, (101, [], [0, 0, 0, 0, 0, 0]), jzK_513, (101, [], [0, 0, 0, 0, 0, 0]), (4, [(4, 58), (1, 1)], []), (114, [], [59]), (7, [(4, 60), (4, (-1)), (4, (-1))], []), jgh, jzK_514, (101, [], [0, 0, 0, 0, 0, 0]), (101, [], [(-1), 0, 0, 0, 0, 0]), (100, [], (jenc 0)), (100, [], (jenc (-1))), (100, [], (jenc ((-1) * (jlg 0))))]) (jK_186_100 (d := 0)) (by rfl) (by rfl) (by rfl) (by rfl) ⟨rfl, rfl, rfl, rfl, rfl, rfl, rfl, rfl, rfl, rfl, rfl, rfl, rfl, rfl, rfl, rfl, trivial⟩ (by rfl) (by rfl) (by omega) (by show 57 ≤ 69; omega) (by omega) (by omega) rfl rfl ?_
  refine jT_xiload (v := (0, 0)) (pcN := 1038) jIK_379_1036 rfl rfl rfl ?_
  refine jT_xicT (pcN := 1043) jIK_379_1038 rfl (by decide +kernel) rfl ?_
  refine jT_xiload (v := (0, 0)) (pcN := 1045) jIK_379_1043 rfl rfl rfl ?_
  refine jT_xifF (t := 1060) (pcN := 1048) jIK_379_1045 rfl (by decide +kernel) rfl rfl ?_
  refine jT_xaload_n (v := (4, 2)) (pcN := 1049) jIK_379_1048 rfl rfl rfl ?_
  refine jT_xiconst (k := 0) (pcN := 1050) jIK_379_1049 rfl ?_
  refine jT_lald (x := 1) (a := 2) (j := 0) (fs := []) (X := [1]) jIK_379_1050 rfl rfl rfl rfl ?_
  refine jT_eq (LN := [(7, (0, 1)), (6, (0, 0)), (5, (0, 0)), (4, (4, 3)), (3, (4, 2)), (2, (4, 1)), (1, (4, 0)), (0, (6, 0))]) (stN := [(1, 1)]) (hsN := [jzK_511, jzK_516, (101, [], [1]), jgh, (8, [(4, 30), (4, 31)], []), jgh, jgh, jgh, jgh, jgh, jgh, (101, [], [0, 0, 0, 0, 0, 0]), jgh, jzK_512, jzK_507, (100, [], (jcpy (((((((((((((((List.replicate 1792 0)).set 0 0)).set 1 0)).set 2 0)).set 3 0)).set 4 0)).set 5 0)).set 6 1) ((jS0).set ((281 * x1 + 56).toNat) 1) 0 ((281 * x1 + 57).toNat) 7)), (100, [], []), jzK_508, jzK_517, jgh, (130, [], [45, 46, 47, 48, 49, 50]), (101, [], [0, 0, 0, 0, 0, 0]), jzK_327, jgh, jgh, jgh, jgh, jgh, jgh, jgh, jgh, (101, [], [0, 0, 0, 0, 0, 0]), jzK_509, (117, [], [52, 53, 54, 55]), jgh, jgh, jgh, (100, [], jS0), jgh, jgh, jgh, jgh, jgh, jgh, jgh, (100, [], (jenc (jlg 0))), jgh, jgh, jgh, jgh, jgh, (4, [(4, 56), (1, 1)], []), jgh, jgh, jgh, jgh, (101, [], [0, 0, 0, 0, 0, 0]), jzK_513, (101, [], [0, 0, 0, 0, 0, 0]), (4, [(4, 58), (1, 1)], []), (114, [], [59]), (7, [(4, 60), (4, (-1)), (4, (-1))], []), jgh, jzK_514, (101, [], [0, 0, 0, 0, 0, 0]), (101, [], [(-1), 0, 0, 0, 0, 0]), (100, [], (jenc 0)), (100, [], (jenc (-1))), (100, [], (jenc ((-1) * (jlg 0))))]) rfl rfl rfl ?_
  refine jT_xiload (v := (0, 1)) (pcN := 1053) jIK_379_1051 rfl rfl rfl ?_
  refine jT_xi2l (x := 1) (z := 1) (pcN := 1054) jIK_379_1053 rfl (by decide +kernel) rfl ?_
  refine jT_lcmp (a := 1) (b := 1) (z := 0) (by rfl) (by rfl) (by decide +kernel) (by decide +kernel) (by decide) ?_
  refine jT_xifT (pcN := 1060) jIK_379_1055 rfl (by decide +kernel) rfl ?_
  refine jT_xgoto (pcN := 3740) jIK_379_1060 rfl ?_
  refine jT_xiinc (x := 0) (z := 5) (LN := [(5, (0, 5)), (7, (0, 1)), (6, (0, 0)), (4, (4, 3)), (3, (4, 2)), (2, (4, 1)), (1, (4, 0)), (0, (6, 0))]) (pcN := 3743) jIK_379_3740 rfl rfl (by decide) rfl rfl ?_
  refine jT_xgoto (pcN := 28) jIK_379_3743 rfl ?_
  refine jT_xiload (v := (0, 5)) (pcN := 30) jIK_379_28 rfl rfl rfl ?_
  refine jT_xaload_n (v := (6, 0)) (pcN := 31) jIK_379_30 rfl rfl rfl ?_
  refine jT_adv 1 (pcN := 32) (LN := [(5, (0, 5)), (7, (0, 1)), (6, (0, 0)), (4, (4, 3)), (3, (4, 2)), (2, (4, 1)), (1, (4, 0)), (0, (6, 0))]) (stN := [(0, 5), (0, 5)]) (hsN := [jzK_511, jzK_516, (101, [], [1]), jgh, (8, [(4, 30), (4, 31)], []), jgh, jgh, jgh, jgh, jgh, jgh, (101, [], [0, 0, 0, 0, 0, 0]), jgh, jzK_512, jzK_507, (100, [], (jcpy (((((((((((((((List.replicate 1792 0)).set 0 0)).set 1 0)).set 2 0)).set 3 0)).set 4 0)).set 5 0)).set 6 1) ((jS0).set ((281 * x1 + 56).toNat) 1) 0 ((281 * x1 + 57).toNat) 7)), (100, [], []), jzK_508, jzK_517, jgh, (130, [], [45, 46, 47, 48, 49, 50]), (101, [], [0, 0, 0, 0, 0, 0]), jzK_327, jgh, jgh, jgh, jgh, jgh, jgh, jgh, jgh, (101, [], [0, 0, 0, 0, 0, 0]), jzK_509, (117, [], [52, 53, 54, 55]), jgh, jgh, jgh, (100, [], jS0), jgh, jgh, jgh, jgh, jgh, jgh, jgh, (100, [], (jenc (jlg 0))), jgh, jgh, jgh, jgh, jgh, (4, [(4, 56), (1, 1)], []), jgh, jgh, jgh, jgh, (101, [], [0, 0, 0, 0, 0, 0]), jzK_513, (101, [], [0, 0, 0, 0, 0, 0]), (4, [(4, 58), (1, 1)], []), (114, [], [59]), (7, [(4, 60), (4, (-1)), (4, (-1))], []), jgh, jzK_514, (101, [], [0, 0, 0, 0, 0, 0]), (101, [], [(-1), 0, 0, 0, 0, 0]), (100, [], (jenc 0)), (100, [], (jenc (-1))), (100, [], (jenc ((-1) * (jlg 0))))]) (c1 := 0) (s1 := 0) (c2 := 0) (s2 := 0) (by exact rfl) ?_ (by omega) (by omega)
  refine jT_xiconst (k := 5) (pcN := 33) jIK_379_32 rfl ?_
  refine jT_xisub (x := 5) (y := 5) (z := 0) (pcN := 34) jIK_379_33 rfl (by decide) rfl ?_
  refine jT_xicT (pcN := 3746) jIK_379_34 rfl (by decide +kernel) rfl ?_
  refine jT_xiconst (k := 1) (pcN := 3747) jIK_379_3746 rfl ?_
  exact jT_ret rfl (by decide) (by show 57 ≤ 69; decide) (by omega) (by omega) ⟨rfl, rfl⟩
set_option maxRecDepth 100000 in
theorem jL_9_5 {d : Nat} {x0 x1 x2 x3 x4 : Int} (h_x0 : (-2147483648) ≤ x0 ∧ x0 ≤ 2147483647) (h_x1 : 0 ≤ x1 ∧ x1 ≤ 3) (h_x2 : 0 ≤ x2 ∧ x2 ≤ 7) (h_x3 : (-50) ≤ x3 ∧ x3 ≤ 50) (h_x4 : 41 ≤ x4 ∧ x4 ≤ 2147483647) : jT [x0, x1, x2, x3, x4] (d + 3) 379 30 971 [(5, (0, 0)), (4, (4, 3)), (3, (4, 2)), (2, (4, 1)), (1, (4, 0)), (0, (6, 0))] [] jpK_456 1 6 (fun k v hsN => k = 0 ∧ v = (0, 1)) := by
  refine jT_xaload_n (v := (4, 0)) (pcN := 972) jIK_379_971 rfl rfl rfl ?_
  refine jT_xaload_n (v := (6, 0)) (pcN := 973) jIK_379_972 rfl rfl rfl ?_
  refine jT_xiload (v := (0, 0)) (pcN := 975) jIK_379_973 rfl rfl rfl ?_
  refine jT_xiconst (k := 1) (pcN := 976) jIK_379_975 rfl ?_
  refine jT_xiadd (x := 0) (y := 1) (z := 1) (pcN := 977) jIK_379_976 rfl (by decide) rfl ?_
  refine jT_adv 1 (pcN := 978) (LN := [(5, (0, 0)), (4, (4, 3)), (3, (4, 2)), (2, (4, 1)), (1, (4, 0)), (0, (6, 0))]) (stN := [(0, x1), (4, 0)]) (hsN := jpK_456) (c1 := 0) (s1 := 0) (c2 := 1) (s2 := 6) (by exact rfl) ?_ (by omega) (by omega)
  refine jT_xaload_n (v := (6, 0)) (pcN := 979) jIK_379_978 rfl rfl rfl ?_
  refine jT_xiload (v := (0, 0)) (pcN := 981) jIK_379_979 rfl rfl rfl ?_
  refine jT_xiconst (k := 2) (pcN := 982) jIK_379_981 rfl ?_
  refine jT_xiadd (x := 0) (y := 2) (z := 2) (pcN := 983) jIK_379_982 rfl (by decide) rfl ?_
  refine jT_adv 1 (pcN := 984) (LN := [(5, (0, 0)), (4, (4, 3)), (3, (4, 2)), (2, (4, 1)), (1, (4, 0)), (0, (6, 0))]) (stN := [(0, x2), (0, x1), (4, 0)]) (hsN := jpK_456) (c1 := 0) (s1 := 0) (c2 := 1) (s2 := 6) (by exact rfl) ?_ (by omega) (by omega)
  refine jT_xaload_n (v := (6, 0)) (pcN := 985) jIK_379_984 rfl rfl rfl ?_
  refine jT_xiload (v := (0, 0)) (pcN := 987) jIK_379_985 rfl rfl rfl ?_
  refine jT_xiconst (k := 3) (pcN := 988) jIK_379_987 rfl ?_
  refine jT_xiadd (x := 0) (y := 3) (z := 3) (pcN := 989) jIK_379_988 rfl (by decide) rfl ?_
  refine jT_adv 1 (pcN := 990) (LN := [(5, (0, 0)), (4, (4, 3)), (3, (4, 2)), (2, (4, 1)), (1, (4, 0)), (0, (6, 0))]) (stN := [(0, x3), (0, x2), (0, x1), (4, 0)]) (hsN := jpK_456) (c1 := 0) (s1 := 0) (c2 := 1) (s2 := 6) (by exact rfl) ?_ (by omega) (by omega)
  refine jT_xaload_n (v := (6, 0)) (pcN := 991) jIK_379_990 rfl rfl rfl ?_
  refine jT_xiload (v := (0, 0)) (pcN := 993) jIK_379_991 rfl rfl rfl ?_
  refine jT_xiconst (k := 4) (pcN := 994) jIK_379_993 rfl ?_
  refine jT_xiadd (x := 0) (y := 4) (z := 4) (pcN := 995) jIK_379_994 rfl (by decide) rfl ?_
  refine jT_adv 1 (pcN := 996) (LN := [(5, (0, 0)), (4, (4, 3)), (3, (4, 2)), (2, (4, 1)), (1, (4, 0)), (0, (6, 0))]) (stN := [(0, x4), (0, x3), (0, x2), (0, x1), (4, 0)]) (hsN := jpK_456) (c1 := 0) (s1 := 0) (c2 := 1) (s2 := 6) (by exact rfl) ?_ (by omega) (by omega)
  refine jT_xaload_n (v := (4, 2)) (pcN := 997) jIK_379_996 rfl rfl rfl ?_
  refine jT_fR [0, 2, 4, 5, 6, 7, 8, 9, 10, 11, 12, 13, 14] 30 (y := 335) (pcN := 1000) (dC := 2) (bc1 := 1) (bc2 := 6) (c1 := 0) (c2 := 0) (as := [(4, 0), (0, x1), (0, x2), (0, x3), (0, x4), (4, 2)]) (asC := [(4, 0), (0, x1), (0, x2), (0, x3), (0, x4), (4, 1)]) (LN := [(5, (0, 0)), (4, (4, 3)), (3, (4, 2)), (2, (4, 1)), (1, (4, 0)), (0, (6, 0))]) (stN := []) (hsC := jpK_15) (v := (0, 2)) (st2 := [(0, 2)]) (jK_335_103 (d := 0) (by omega) (by omega) (by omega) (by omega)) (by rfl) (by rfl) (by decide +kernel) (by rfl) (by rfl) (by omega) (by omega) (by omega) (by omega) rfl ?_
  refine jT_xistore (v := (0, 2)) (LN := [(6, (0, 2)), (5, (0, 0)), (4, (4, 3)), (3, (4, 2)), (2, (4, 1)), (1, (4, 0)), (0, (6, 0))]) (pcN := 1002) jIK_379_1000 rfl rfl rfl rfl ?_
  refine jT_xaload_n (v := (4, 1)) (pcN := 1003) jIK_379_1002 rfl rfl rfl ?_
  refine jT_xaload_n (v := (6, 0)) (pcN := 1004) jIK_379_1003 rfl rfl rfl ?_
  refine jT_xiload (v := (0, 0)) (pcN := 1006) jIK_379_1004 rfl rfl rfl ?_
  refine jT_xiconst (k := 1) (pcN := 1007) jIK_379_1006 rfl ?_
  refine jT_xiadd (x := 0) (y := 1) (z := 1) (pcN := 1008) jIK_379_1007 rfl (by decide) rfl ?_
  refine jT_adv 1 (pcN := 1009) (LN := [(6, (0, 2)), (5, (0, 0)), (4, (4, 3)), (3, (4, 2)), (2, (4, 1)), (1, (4, 0)), (0, (6, 0))]) (stN := [(0, x1), (4, 1)]) (hsN := jpK_456) (c1 := 0) (s1 := 0) (c2 := 0) (s2 := 0) (by exact rfl) ?_ (by omega) (by omega)
  refine jT_xaload_n (v := (6, 0)) (pcN := 1010) jIK_379_1009 rfl rfl rfl ?_
  refine jT_xiload (v := (0, 0)) (pcN := 1012) jIK_379_1010 rfl rfl rfl ?_
  refine jT_xiconst (k := 2) (pcN := 1013) jIK_379_1012 rfl ?_
  refine jT_xiadd (x := 0) (y := 2) (z := 2) (pcN := 1014) jIK_379_1013 rfl (by decide) rfl ?_
  refine jT_adv 1 (pcN := 1015) (LN := [(6, (0, 2)), (5, (0, 0)), (4, (4, 3)), (3, (4, 2)), (2, (4, 1)), (1, (4, 0)), (0, (6, 0))]) (stN := [(0, x2), (0, x1), (4, 1)]) (hsN := jpK_456) (c1 := 0) (s1 := 0) (c2 := 0) (s2 := 0) (by exact rfl) ?_ (by omega) (by omega)
  refine jT_xaload_n (v := (6, 0)) (pcN := 1016) jIK_379_1015 rfl rfl rfl ?_
  refine jT_xiload (v := (0, 0)) (pcN := 1018) jIK_379_1016 rfl rfl rfl ?_
  refine jT_xiconst (k := 3) (pcN := 1019) jIK_379_1018 rfl ?_
  refine jT_xiadd (x := 0) (y := 3) (z := 3) (pcN := 1020) jIK_379_1019 rfl (by decide) rfl ?_
  refine jT_adv 1 (pcN := 1021) (LN := [(6, (0, 2)), (5, (0, 0)), (4, (4, 3)), (3, (4, 2)), (2, (4, 1)), (1, (4, 0)), (0, (6, 0))]) (stN := [(0, x3), (0, x2), (0, x1), (4, 1)]) (hsN := jpK_456) (c1 := 0) (s1 := 0) (c2 := 0) (s2 := 0) (by exact rfl) ?_ (by omega) (by omega)
  refine jT_xaload_n (v := (6, 0)) (pcN := 1022) jIK_379_1021 rfl rfl rfl ?_
  refine jT_xiload (v := (0, 0)) (pcN := 1024) jIK_379_1022 rfl rfl rfl ?_
  refine jT_xiconst (k := 4) (pcN := 1025) jIK_379_1024 rfl ?_
  refine jT_xiadd (x := 0) (y := 4) (z := 4) (pcN := 1026) jIK_379_1025 rfl (by decide) rfl ?_
  refine jT_adv 1 (pcN := 1027) (LN := [(6, (0, 2)), (5, (0, 0)), (4, (4, 3)), (3, (4, 2)), (2, (4, 1)), (1, (4, 0)), (0, (6, 0))]) (stN := [(0, x4), (0, x3), (0, x2), (0, x1), (4, 1)]) (hsN := jpK_456) (c1 := 0) (s1 := 0) (c2 := 0) (s2 := 0) (by exact rfl) ?_ (by omega) (by omega)
  refine jT_fB [1, 15, 16, 17, 18, 19, 20, 21, 22, 23, 24, 25, 26, 27, 28, 29] 30 (y := 237) (pcN := 1030) (dC := 2) (bc1 := 0) (bc2 := 0) (c1 := 0) (c2 := 0) (as := [(4, 1), (0, x1), (0, x2), (0, x3), (0, x4)]) (asC := [(4, 0), (0, x1), (0, x2), (0, x3), (0, x4)]) (LN := [(6, (0, 2)), (5, (0, 0)), (4, (4, 3)), (3, (4, 2)), (2, (4, 1)), (1, (4, 0)), (0, (6, 0))]) (stN := []) (hsC := jpK_22) (hsD := jpK_48) (v := (0, 0)) (st2 := [(0, 0)]) (hs2 := jpK_506) (jK_237_104 (d := 0) (by omega) (by omega) (by omega) (by omega)) (by rfl) (by rfl) (by decide +kernel) (by rfl) (by rfl) (by omega) (by omega) (by omega) (by omega) rfl (by decide +kernel) ?_
  refine jT_xistore (v := (0, 0)) (LN := [(7, (0, 0)), (6, (0, 2)), (5, (0, 0)), (4, (4, 3)), (3, (4, 2)), (2, (4, 1)), (1, (4, 0)), (0, (6, 0))]) (pcN := 1032) jIK_379_1030 rfl rfl rfl rfl ?_
  refine jT_xaload_n (v := (4, 1)) (pcN := 1033) jIK_379_1032 rfl rfl rfl ?_
  refine jT_fR [1, 15, 16, 17, 18, 19, 20, 21, 22, 23, 24, 25, 26, 27, 28, 29] 30 (y := 186) (pcN := 1036) (dC := 0) (bc1 := 0) (bc2 := 0) (c1 := 0) (c2 := 0) (as := [(4, 1)]) (asC := [(4, 0)]) (LN := [(7, (0, 0)), (6, (0, 2)), (5, (0, 0)), (4, (4, 3)), (3, (4, 2)), (2, (4, 1)), (1, (4, 0)), (0, (6, 0))]) (stN := []) (hsC := jpK_48) (v := (0, 2)) (st2 := [(0, 2)]) (jK_186_25 (d := 0)) (by rfl) (by rfl) (by decide +kernel) (by rfl) (by rfl) (by omega) (by omega) (by omega) (by omega) rfl ?_
  refine jT_xiload (v := (0, 2)) (pcN := 1038) jIK_379_1036 rfl rfl rfl ?_
  refine jT_xicT (pcN := 1043) jIK_379_1038 rfl (by decide +kernel) rfl ?_
  refine jT_xiload (v := (0, 2)) (pcN := 1045) jIK_379_1043 rfl rfl rfl ?_
  refine jT_xifT (pcN := 1060) jIK_379_1045 rfl (by decide +kernel) rfl ?_
  refine jT_xgoto (pcN := 3740) jIK_379_1060 rfl ?_
  refine jT_xiinc (x := 0) (z := 5) (LN := [(5, (0, 5)), (7, (0, 0)), (6, (0, 2)), (4, (4, 3)), (3, (4, 2)), (2, (4, 1)), (1, (4, 0)), (0, (6, 0))]) (pcN := 3743) jIK_379_3740 rfl rfl (by decide) rfl rfl ?_
  refine jT_xgoto (pcN := 28) jIK_379_3743 rfl ?_
  refine jT_xiload (v := (0, 5)) (pcN := 30) jIK_379_28 rfl rfl rfl ?_
  refine jT_xaload_n (v := (6, 0)) (pcN := 31) jIK_379_30 rfl rfl rfl ?_
  refine jT_adv 1 (pcN := 32) (LN := [(5, (0, 5)), (7, (0, 0)), (6, (0, 2)), (4, (4, 3)), (3, (4, 2)), (2, (4, 1)), (1, (4, 0)), (0, (6, 0))]) (stN := [(0, 5), (0, 5)]) (hsN := jpK_506) (c1 := 0) (s1 := 0) (c2 := 0) (s2 := 0) (by exact rfl) ?_ (by omega) (by omega)
  refine jT_xiconst (k := 5) (pcN := 33) jIK_379_32 rfl ?_
  refine jT_xisub (x := 5) (y := 5) (z := 0) (pcN := 34) jIK_379_33 rfl (by decide) rfl ?_
  refine jT_xicT (pcN := 3746) jIK_379_34 rfl (by decide +kernel) rfl ?_
  refine jT_xiconst (k := 1) (pcN := 3747) jIK_379_3746 rfl ?_
  exact jT_ret rfl (by decide) (by show 30 ≤ 30; decide) (by omega) (by omega) ⟨rfl, rfl⟩
set_option maxRecDepth 100000 in
theorem jL_9_6 {d : Nat} {x0 x1 x2 x3 x4 : Int} (h_x0 : (-2147483648) ≤ x0 ∧ x0 ≤ 2147483647) (h_x1 : 0 ≤ x1 ∧ x1 ≤ 3) (h_x2 : 0 ≤ x2 ∧ x2 ≤ 7) (h_x3 : 51 ≤ x3 ∧ x3 ≤ 2147483647) (h_x4 : (-2147483648) ≤ x4 ∧ x4 ≤ 2147483647) : jT [x0, x1, x2, x3, x4] (d + 3) 379 30 971 [(5, (0, 0)), (4, (4, 3)), (3, (4, 2)), (2, (4, 1)), (1, (4, 0)), (0, (6, 0))] [] jpK_456 1 6 (fun k v hsN => k = 0 ∧ v = (0, 1)) := by
  refine jT_xaload_n (v := (4, 0)) (pcN := 972) jIK_379_971 rfl rfl rfl ?_
  refine jT_xaload_n (v := (6, 0)) (pcN := 973) jIK_379_972 rfl rfl rfl ?_
  refine jT_xiload (v := (0, 0)) (pcN := 975) jIK_379_973 rfl rfl rfl ?_
  refine jT_xiconst (k := 1) (pcN := 976) jIK_379_975 rfl ?_
  refine jT_xiadd (x := 0) (y := 1) (z := 1) (pcN := 977) jIK_379_976 rfl (by decide) rfl ?_
  refine jT_adv 1 (pcN := 978) (LN := [(5, (0, 0)), (4, (4, 3)), (3, (4, 2)), (2, (4, 1)), (1, (4, 0)), (0, (6, 0))]) (stN := [(0, x1), (4, 0)]) (hsN := jpK_456) (c1 := 0) (s1 := 0) (c2 := 1) (s2 := 6) (by exact rfl) ?_ (by omega) (by omega)
  refine jT_xaload_n (v := (6, 0)) (pcN := 979) jIK_379_978 rfl rfl rfl ?_
  refine jT_xiload (v := (0, 0)) (pcN := 981) jIK_379_979 rfl rfl rfl ?_
  refine jT_xiconst (k := 2) (pcN := 982) jIK_379_981 rfl ?_
  refine jT_xiadd (x := 0) (y := 2) (z := 2) (pcN := 983) jIK_379_982 rfl (by decide) rfl ?_
  refine jT_adv 1 (pcN := 984) (LN := [(5, (0, 0)), (4, (4, 3)), (3, (4, 2)), (2, (4, 1)), (1, (4, 0)), (0, (6, 0))]) (stN := [(0, x2), (0, x1), (4, 0)]) (hsN := jpK_456) (c1 := 0) (s1 := 0) (c2 := 1) (s2 := 6) (by exact rfl) ?_ (by omega) (by omega)
  refine jT_xaload_n (v := (6, 0)) (pcN := 985) jIK_379_984 rfl rfl rfl ?_
  refine jT_xiload (v := (0, 0)) (pcN := 987) jIK_379_985 rfl rfl rfl ?_
  refine jT_xiconst (k := 3) (pcN := 988) jIK_379_987 rfl ?_
  refine jT_xiadd (x := 0) (y := 3) (z := 3) (pcN := 989) jIK_379_988 rfl (by decide) rfl ?_
  refine jT_adv 1 (pcN := 990) (LN := [(5, (0, 0)), (4, (4, 3)), (3, (4, 2)), (2, (4, 1)), (1, (4, 0)), (0, (6, 0))]) (stN := [(0, x3), (0, x2), (0, x1), (4, 0)]) (hsN := jpK_456) (c1 := 0) (s1 := 0) (c2 := 1) (s2 := 6) (by exact rfl) ?_ (by omega) (by omega)
  refine jT_xaload_n (v := (6, 0)) (pcN := 991) jIK_379_990 rfl rfl rfl ?_
  refine jT_xiload (v := (0, 0)) (pcN := 993) jIK_379_991 rfl rfl rfl ?_
  refine jT_xiconst (k := 4) (pcN := 994) jIK_379_993 rfl ?_
  refine jT_xiadd (x := 0) (y := 4) (z := 4) (pcN := 995) jIK_379_994 rfl (by decide) rfl ?_
  refine jT_adv 1 (pcN := 996) (LN := [(5, (0, 0)), (4, (4, 3)), (3, (4, 2)), (2, (4, 1)), (1, (4, 0)), (0, (6, 0))]) (stN := [(0, x4), (0, x3), (0, x2), (0, x1), (4, 0)]) (hsN := jpK_456) (c1 := 0) (s1 := 0) (c2 := 1) (s2 := 6) (by exact rfl) ?_ (by omega) (by omega)
  refine jT_xaload_n (v := (4, 2)) (pcN := 997) jIK_379_996 rfl rfl rfl ?_
  refine jT_fR [0, 2, 4, 5, 6, 7, 8, 9, 10, 11, 12, 13, 14] 30 (y := 335) (pcN := 1000) (dC := 2) (bc1 := 1) (bc2 := 6) (c1 := 0) (c2 := 0) (as := [(4, 0), (0, x1), (0, x2), (0, x3), (0, x4), (4, 2)]) (asC := [(4, 0), (0, x1), (0, x2), (0, x3), (0, x4), (4, 1)]) (LN := [(5, (0, 0)), (4, (4, 3)), (3, (4, 2)), (2, (4, 1)), (1, (4, 0)), (0, (6, 0))]) (stN := []) (hsC := jpK_15) (v := (0, 2)) (st2 := [(0, 2)]) (jK_335_107 (d := 0) (by omega) (by omega) (by omega) (by omega)) (by rfl) (by rfl) (by decide +kernel) (by rfl) (by rfl) (by omega) (by omega) (by omega) (by omega) rfl ?_
  refine jT_xistore (v := (0, 2)) (LN := [(6, (0, 2)), (5, (0, 0)), (4, (4, 3)), (3, (4, 2)), (2, (4, 1)), (1, (4, 0)), (0, (6, 0))]) (pcN := 1002) jIK_379_1000 rfl rfl rfl rfl ?_
  refine jT_xaload_n (v := (4, 1)) (pcN := 1003) jIK_379_1002 rfl rfl rfl ?_
  refine jT_xaload_n (v := (6, 0)) (pcN := 1004) jIK_379_1003 rfl rfl rfl ?_
  refine jT_xiload (v := (0, 0)) (pcN := 1006) jIK_379_1004 rfl rfl rfl ?_
  refine jT_xiconst (k := 1) (pcN := 1007) jIK_379_1006 rfl ?_
  refine jT_xiadd (x := 0) (y := 1) (z := 1) (pcN := 1008) jIK_379_1007 rfl (by decide) rfl ?_
  refine jT_adv 1 (pcN := 1009) (LN := [(6, (0, 2)), (5, (0, 0)), (4, (4, 3)), (3, (4, 2)), (2, (4, 1)), (1, (4, 0)), (0, (6, 0))]) (stN := [(0, x1), (4, 1)]) (hsN := jpK_456) (c1 := 0) (s1 := 0) (c2 := 0) (s2 := 0) (by exact rfl) ?_ (by omega) (by omega)
  refine jT_xaload_n (v := (6, 0)) (pcN := 1010) jIK_379_1009 rfl rfl rfl ?_
  refine jT_xiload (v := (0, 0)) (pcN := 1012) jIK_379_1010 rfl rfl rfl ?_
  refine jT_xiconst (k := 2) (pcN := 1013) jIK_379_1012 rfl ?_
  refine jT_xiadd (x := 0) (y := 2) (z := 2) (pcN := 1014) jIK_379_1013 rfl (by decide) rfl ?_
  refine jT_adv 1 (pcN := 1015) (LN := [(6, (0, 2)), (5, (0, 0)), (4, (4, 3)), (3, (4, 2)), (2, (4, 1)), (1, (4, 0)), (0, (6, 0))]) (stN := [(0, x2), (0, x1), (4, 1)]) (hsN := jpK_456) (c1 := 0) (s1 := 0) (c2 := 0) (s2 := 0) (by exact rfl) ?_ (by omega) (by omega)
  refine jT_xaload_n (v := (6, 0)) (pcN := 1016) jIK_379_1015 rfl rfl rfl ?_
  refine jT_xiload (v := (0, 0)) (pcN := 1018) jIK_379_1016 rfl rfl rfl ?_
  refine jT_xiconst (k := 3) (pcN := 1019) jIK_379_1018 rfl ?_
  refine jT_xiadd (x := 0) (y := 3) (z := 3) (pcN := 1020) jIK_379_1019 rfl (by decide) rfl ?_
  refine jT_adv 1 (pcN := 1021) (LN := [(6, (0, 2)), (5, (0, 0)), (4, (4, 3)), (3, (4, 2)), (2, (4, 1)), (1, (4, 0)), (0, (6, 0))]) (stN := [(0, x3), (0, x2), (0, x1), (4, 1)]) (hsN := jpK_456) (c1 := 0) (s1 := 0) (c2 := 0) (s2 := 0) (by exact rfl) ?_ (by omega) (by omega)
  refine jT_xaload_n (v := (6, 0)) (pcN := 1022) jIK_379_1021 rfl rfl rfl ?_
  refine jT_xiload (v := (0, 0)) (pcN := 1024) jIK_379_1022 rfl rfl rfl ?_
  refine jT_xiconst (k := 4) (pcN := 1025) jIK_379_1024 rfl ?_
  refine jT_xiadd (x := 0) (y := 4) (z := 4) (pcN := 1026) jIK_379_1025 rfl (by decide) rfl ?_
  refine jT_adv 1 (pcN := 1027) (LN := [(6, (0, 2)), (5, (0, 0)), (4, (4, 3)), (3, (4, 2)), (2, (4, 1)), (1, (4, 0)), (0, (6, 0))]) (stN := [(0, x4), (0, x3), (0, x2), (0, x1), (4, 1)]) (hsN := jpK_456) (c1 := 0) (s1 := 0) (c2 := 0) (s2 := 0) (by exact rfl) ?_ (by omega) (by omega)
  refine jT_fB [1, 15, 16, 17, 18, 19, 20, 21, 22, 23, 24, 25, 26, 27, 28, 29] 30 (y := 237) (pcN := 1030) (dC := 2) (bc1 := 0) (bc2 := 0) (c1 := 0) (c2 := 0) (as := [(4, 1), (0, x1), (0, x2), (0, x3), (0, x4)]) (asC := [(4, 0), (0, x1), (0, x2), (0, x3), (0, x4)]) (LN := [(6, (0, 2)), (5, (0, 0)), (4, (4, 3)), (3, (4, 2)), (2, (4, 1)), (1, (4, 0)), (0, (6, 0))]) (stN := []) (hsC := jpK_22) (hsD := jpK_48) (v := (0, 0)) (st2 := [(0, 0)]) (hs2 := jpK_506) (jK_237_108 (d := 0) (by omega) (by omega) (by omega) (by omega)) (by rfl) (by rfl) (by decide +kernel) (by rfl) (by rfl) (by omega) (by omega) (by omega) (by omega) rfl (by decide +kernel) ?_
  refine jT_xistore (v := (0, 0)) (LN := [(7, (0, 0)), (6, (0, 2)), (5, (0, 0)), (4, (4, 3)), (3, (4, 2)), (2, (4, 1)), (1, (4, 0)), (0, (6, 0))]) (pcN := 1032) jIK_379_1030 rfl rfl rfl rfl ?_
  refine jT_xaload_n (v := (4, 1)) (pcN := 1033) jIK_379_1032 rfl rfl rfl ?_
  refine jT_fR [1, 15, 16, 17, 18, 19, 20, 21, 22, 23, 24, 25, 26, 27, 28, 29] 30 (y := 186) (pcN := 1036) (dC := 0) (bc1 := 0) (bc2 := 0) (c1 := 0) (c2 := 0) (as := [(4, 1)]) (asC := [(4, 0)]) (LN := [(7, (0, 0)), (6, (0, 2)), (5, (0, 0)), (4, (4, 3)), (3, (4, 2)), (2, (4, 1)), (1, (4, 0)), (0, (6, 0))]) (stN := []) (hsC := jpK_48) (v := (0, 2)) (st2 := [(0, 2)]) (jK_186_25 (d := 0)) (by rfl) (by rfl) (by decide +kernel) (by rfl) (by rfl) (by omega) (by omega) (by omega) (by omega) rfl ?_
  refine jT_xiload (v := (0, 2)) (pcN := 1038) jIK_379_1036 rfl rfl rfl ?_
  refine jT_xicT (pcN := 1043) jIK_379_1038 rfl (by decide +kernel) rfl ?_
  refine jT_xiload (v := (0, 2)) (pcN := 1045) jIK_379_1043 rfl rfl rfl ?_
  refine jT_xifT (pcN := 1060) jIK_379_1045 rfl (by decide +kernel) rfl ?_
  refine jT_xgoto (pcN := 3740) jIK_379_1060 rfl ?_
  refine jT_xiinc (x := 0) (z := 5) (LN := [(5, (0, 5)), (7, (0, 0)), (6, (0, 2)), (4, (4, 3)), (3, (4, 2)), (2, (4, 1)), (1, (4, 0)), (0, (6, 0))]) (pcN := 3743) jIK_379_3740 rfl rfl (by decide) rfl rfl ?_
  refine jT_xgoto (pcN := 28) jIK_379_3743 rfl ?_
  refine jT_xiload (v := (0, 5)) (pcN := 30) jIK_379_28 rfl rfl rfl ?_
  refine jT_xaload_n (v := (6, 0)) (pcN := 31) jIK_379_30 rfl rfl rfl ?_
  refine jT_adv 1 (pcN := 32) (LN := [(5, (0, 5)), (7, (0, 0)), (6, (0, 2)), (4, (4, 3)), (3, (4, 2)), (2, (4, 1)), (1, (4, 0)), (0, (6, 0))]) (stN := [(0, 5), (0, 5)]) (hsN := jpK_506) (c1 := 0) (s1 := 0) (c2 := 0) (s2 := 0) (by exact rfl) ?_ (by omega) (by omega)
  refine jT_xiconst (k := 5) (pcN := 33) jIK_379_32 rfl ?_
  refine jT_xisub (x := 5) (y := 5) (z := 0) (pcN := 34) jIK_379_33 rfl (by decide) rfl ?_
  refine jT_xicT (pcN := 3746) jIK_379_34 rfl (by decide +kernel) rfl ?_
  refine jT_xiconst (k := 1) (pcN := 3747) jIK_379_3746 rfl ?_
  exact jT_ret rfl (by decide) (by show 30 ≤ 30; decide) (by omega) (by omega) ⟨rfl, rfl⟩
set_option maxRecDepth 100000 in
theorem jL_9_7 {d : Nat} {x0 x1 x2 x3 x4 : Int} (h_x0 : (-2147483648) ≤ x0 ∧ x0 ≤ 2147483647) (h_x1 : 0 ≤ x1 ∧ x1 ≤ 3) (h_x2 : 8 ≤ x2 ∧ x2 ≤ 2147483647) (h_x3 : (-2147483648) ≤ x3 ∧ x3 ≤ 2147483647) (h_x4 : (-2147483648) ≤ x4 ∧ x4 ≤ 2147483647) : jT [x0, x1, x2, x3, x4] (d + 3) 379 30 971 [(5, (0, 0)), (4, (4, 3)), (3, (4, 2)), (2, (4, 1)), (1, (4, 0)), (0, (6, 0))] [] jpK_456 1 6 (fun k v hsN => k = 0 ∧ v = (0, 1)) := by
  refine jT_xaload_n (v := (4, 0)) (pcN := 972) jIK_379_971 rfl rfl rfl ?_
  refine jT_xaload_n (v := (6, 0)) (pcN := 973) jIK_379_972 rfl rfl rfl ?_
  refine jT_xiload (v := (0, 0)) (pcN := 975) jIK_379_973 rfl rfl rfl ?_
  refine jT_xiconst (k := 1) (pcN := 976) jIK_379_975 rfl ?_
  refine jT_xiadd (x := 0) (y := 1) (z := 1) (pcN := 977) jIK_379_976 rfl (by decide) rfl ?_
  refine jT_adv 1 (pcN := 978) (LN := [(5, (0, 0)), (4, (4, 3)), (3, (4, 2)), (2, (4, 1)), (1, (4, 0)), (0, (6, 0))]) (stN := [(0, x1), (4, 0)]) (hsN := jpK_456) (c1 := 0) (s1 := 0) (c2 := 1) (s2 := 6) (by exact rfl) ?_ (by omega) (by omega)
  refine jT_xaload_n (v := (6, 0)) (pcN := 979) jIK_379_978 rfl rfl rfl ?_
  refine jT_xiload (v := (0, 0)) (pcN := 981) jIK_379_979 rfl rfl rfl ?_
  refine jT_xiconst (k := 2) (pcN := 982) jIK_379_981 rfl ?_
  refine jT_xiadd (x := 0) (y := 2) (z := 2) (pcN := 983) jIK_379_982 rfl (by decide) rfl ?_
  refine jT_adv 1 (pcN := 984) (LN := [(5, (0, 0)), (4, (4, 3)), (3, (4, 2)), (2, (4, 1)), (1, (4, 0)), (0, (6, 0))]) (stN := [(0, x2), (0, x1), (4, 0)]) (hsN := jpK_456) (c1 := 0) (s1 := 0) (c2 := 1) (s2 := 6) (by exact rfl) ?_ (by omega) (by omega)
  refine jT_xaload_n (v := (6, 0)) (pcN := 985) jIK_379_984 rfl rfl rfl ?_
  refine jT_xiload (v := (0, 0)) (pcN := 987) jIK_379_985 rfl rfl rfl ?_
  refine jT_xiconst (k := 3) (pcN := 988) jIK_379_987 rfl ?_
  refine jT_xiadd (x := 0) (y := 3) (z := 3) (pcN := 989) jIK_379_988 rfl (by decide) rfl ?_
  refine jT_adv 1 (pcN := 990) (LN := [(5, (0, 0)), (4, (4, 3)), (3, (4, 2)), (2, (4, 1)), (1, (4, 0)), (0, (6, 0))]) (stN := [(0, x3), (0, x2), (0, x1), (4, 0)]) (hsN := jpK_456) (c1 := 0) (s1 := 0) (c2 := 1) (s2 := 6) (by exact rfl) ?_ (by omega) (by omega)
  refine jT_xaload_n (v := (6, 0)) (pcN := 991) jIK_379_990 rfl rfl rfl ?_
  refine jT_xiload (v := (0, 0)) (pcN := 993) jIK_379_991 rfl rfl rfl ?_
  refine jT_xiconst (k := 4) (pcN := 994) jIK_379_993 rfl ?_
  refine jT_xiadd (x := 0) (y := 4) (z := 4) (pcN := 995) jIK_379_994 rfl (by decide) rfl ?_
  refine jT_adv 1 (pcN := 996) (LN := [(5, (0, 0)), (4, (4, 3)), (3, (4, 2)), (2, (4, 1)), (1, (4, 0)), (0, (6, 0))]) (stN := [(0, x4), (0, x3), (0, x2), (0, x1), (4, 0)]) (hsN := jpK_456) (c1 := 0) (s1 := 0) (c2 := 1) (s2 := 6) (by exact rfl) ?_ (by omega) (by omega)
  refine jT_xaload_n (v := (4, 2)) (pcN := 997) jIK_379_996 rfl rfl rfl ?_
  refine jT_fR [0, 2, 4, 5, 6, 7, 8, 9, 10, 11, 12, 13, 14] 30 (y := 335) (pcN := 1000) (dC := 2) (bc1 := 1) (bc2 := 6) (c1 := 0) (c2 := 0) (as := [(4, 0), (0, x1), (0, x2), (0, x3), (0, x4), (4, 2)]) (asC := [(4, 0), (0, x1), (0, x2), (0, x3), (0, x4), (4, 1)]) (LN := [(5, (0, 0)), (4, (4, 3)), (3, (4, 2)), (2, (4, 1)), (1, (4, 0)), (0, (6, 0))]) (stN := []) (hsC := jpK_15) (v := (0, 1)) (st2 := [(0, 1)]) (jK_335_111 (d := 0) (by omega) (by omega) (by omega) (by omega)) (by rfl) (by rfl) (by decide +kernel) (by rfl) (by rfl) (by omega) (by omega) (by omega) (by omega) rfl ?_
  refine jT_xistore (v := (0, 1)) (LN := [(6, (0, 1)), (5, (0, 0)), (4, (4, 3)), (3, (4, 2)), (2, (4, 1)), (1, (4, 0)), (0, (6, 0))]) (pcN := 1002) jIK_379_1000 rfl rfl rfl rfl ?_
  refine jT_xaload_n (v := (4, 1)) (pcN := 1003) jIK_379_1002 rfl rfl rfl ?_
  refine jT_xaload_n (v := (6, 0)) (pcN := 1004) jIK_379_1003 rfl rfl rfl ?_
  refine jT_xiload (v := (0, 0)) (pcN := 1006) jIK_379_1004 rfl rfl rfl ?_
  refine jT_xiconst (k := 1) (pcN := 1007) jIK_379_1006 rfl ?_
  refine jT_xiadd (x := 0) (y := 1) (z := 1) (pcN := 1008) jIK_379_1007 rfl (by decide) rfl ?_
  refine jT_adv 1 (pcN := 1009) (LN := [(6, (0, 1)), (5, (0, 0)), (4, (4, 3)), (3, (4, 2)), (2, (4, 1)), (1, (4, 0)), (0, (6, 0))]) (stN := [(0, x1), (4, 1)]) (hsN := jpK_456) (c1 := 0) (s1 := 0) (c2 := 0) (s2 := 0) (by exact rfl) ?_ (by omega) (by omega)
  refine jT_xaload_n (v := (6, 0)) (pcN := 1010) jIK_379_1009 rfl rfl rfl ?_
  refine jT_xiload (v := (0, 0)) (pcN := 1012) jIK_379_1010 rfl rfl rfl ?_
  refine jT_xiconst (k := 2) (pcN := 1013) jIK_379_1012 rfl ?_
  refine jT_xiadd (x := 0) (y := 2) (z := 2) (pcN := 1014) jIK_379_1013 rfl (by decide) rfl ?_
  refine jT_adv 1 (pcN := 1015) (LN := [(6, (0, 1)), (5, (0, 0)), (4, (4, 3)), (3, (4, 2)), (2, (4, 1)), (1, (4, 0)), (0, (6, 0))]) (stN := [(0, x2), (0, x1), (4, 1)]) (hsN := jpK_456) (c1 := 0) (s1 := 0) (c2 := 0) (s2 := 0) (by exact rfl) ?_ (by omega) (by omega)
  refine jT_xaload_n (v := (6, 0)) (pcN := 1016) jIK_379_1015 rfl rfl rfl ?_
  refine jT_xiload (v := (0, 0)) (pcN := 1018) jIK_379_1016 rfl rfl rfl ?_
  refine jT_xiconst (k := 3) (pcN := 1019) jIK_379_1018 rfl ?_
  refine jT_xiadd (x := 0) (y := 3) (z := 3) (pcN := 1020) jIK_379_1019 rfl (by decide) rfl ?_
  refine jT_adv 1 (pcN := 1021) (LN := [(6, (0, 1)), (5, (0, 0)), (4, (4, 3)), (3, (4, 2)), (2, (4, 1)), (1, (4, 0)), (0, (6, 0))]) (stN := [(0, x3), (0, x2), (0, x1), (4, 1)]) (hsN := jpK_456) (c1 := 0) (s1 := 0) (c2 := 0) (s2 := 0) (by exact rfl) ?_ (by omega) (by omega)
  refine jT_xaload_n (v := (6, 0)) (pcN := 1022) jIK_379_1021 rfl rfl rfl ?_
  refine jT_xiload (v := (0, 0)) (pcN := 1024) jIK_379_1022 rfl rfl rfl ?_
  refine jT_xiconst (k := 4) (pcN := 1025) jIK_379_1024 rfl ?_
  refine jT_xiadd (x := 0) (y := 4) (z := 4) (pcN := 1026) jIK_379_1025 rfl (by decide) rfl ?_
  refine jT_adv 1 (pcN := 1027) (LN := [(6, (0, 1)), (5, (0, 0)), (4, (4, 3)), (3, (4, 2)), (2, (4, 1)), (1, (4, 0)), (0, (6, 0))]) (stN := [(0, x4), (0, x3), (0, x2), (0, x1), (4, 1)]) (hsN := jpK_456) (c1 := 0) (s1 := 0) (c2 := 0) (s2 := 0) (by exact rfl) ?_ (by omega) (by omega)
  refine jT_fB [1, 15, 16, 17, 18, 19, 20, 21, 22, 23, 24, 25, 26, 27, 28, 29] 30 (y := 237) (pcN := 1030) (dC := 2) (bc1 := 0) (bc2 := 0) (c1 := 0) (c2 := 0) (as := [(4, 1), (0, x1), (0, x2), (0, x3), (0, x4)]) (asC := [(4, 0), (0, x1), (0, x2), (0, x3), (0, x4)]) (LN := [(6, (0, 1)), (5, (0, 0)), (4, (4, 3)), (3, (4, 2)), (2, (4, 1)), (1, (4, 0)), (0, (6, 0))]) (stN := []) (hsC := jpK_22) (hsD := jpK_20) (v := (0, 0)) (st2 := [(0, 0)]) (hs2 := jpK_489) (jK_237_113 (d := 0) (by omega) (by omega) (by omega) (by omega)) (by rfl) (by rfl) (by decide +kernel) (by rfl) (by rfl) (by omega) (by omega) (by omega) (by omega) rfl (by decide +kernel) ?_
  refine jT_xistore (v := (0, 0)) (LN := [(7, (0, 0)), (6, (0, 1)), (5, (0, 0)), (4, (4, 3)), (3, (4, 2)), (2, (4, 1)), (1, (4, 0)), (0, (6, 0))]) (pcN := 1032) jIK_379_1030 rfl rfl rfl rfl ?_
  refine jT_xaload_n (v := (4, 1)) (pcN := 1033) jIK_379_1032 rfl rfl rfl ?_
  refine jT_fR [1, 15, 16, 17, 18, 19, 20, 21, 22, 23, 24, 25, 26, 27, 28, 29] 30 (y := 186) (pcN := 1036) (dC := 0) (bc1 := 0) (bc2 := 0) (c1 := 0) (c2 := 0) (as := [(4, 1)]) (asC := [(4, 0)]) (LN := [(7, (0, 0)), (6, (0, 1)), (5, (0, 0)), (4, (4, 3)), (3, (4, 2)), (2, (4, 1)), (1, (4, 0)), (0, (6, 0))]) (stN := []) (hsC := jpK_20) (v := (0, 1)) (st2 := [(0, 1)]) (jK_186_8 (d := 0)) (by rfl) (by rfl) (by decide +kernel) (by rfl) (by rfl) (by omega) (by omega) (by omega) (by omega) rfl ?_
  refine jT_xiload (v := (0, 1)) (pcN := 1038) jIK_379_1036 rfl rfl rfl ?_
  refine jT_xicT (pcN := 1043) jIK_379_1038 rfl (by decide +kernel) rfl ?_
  refine jT_xiload (v := (0, 1)) (pcN := 1045) jIK_379_1043 rfl rfl rfl ?_
  refine jT_xifT (pcN := 1060) jIK_379_1045 rfl (by decide +kernel) rfl ?_
  refine jT_xgoto (pcN := 3740) jIK_379_1060 rfl ?_
  refine jT_xiinc (x := 0) (z := 5) (LN := [(5, (0, 5)), (7, (0, 0)), (6, (0, 1)), (4, (4, 3)), (3, (4, 2)), (2, (4, 1)), (1, (4, 0)), (0, (6, 0))]) (pcN := 3743) jIK_379_3740 rfl rfl (by decide) rfl rfl ?_
  refine jT_xgoto (pcN := 28) jIK_379_3743 rfl ?_
  refine jT_xiload (v := (0, 5)) (pcN := 30) jIK_379_28 rfl rfl rfl ?_
  refine jT_xaload_n (v := (6, 0)) (pcN := 31) jIK_379_30 rfl rfl rfl ?_
  refine jT_adv 1 (pcN := 32) (LN := [(5, (0, 5)), (7, (0, 0)), (6, (0, 1)), (4, (4, 3)), (3, (4, 2)), (2, (4, 1)), (1, (4, 0)), (0, (6, 0))]) (stN := [(0, 5), (0, 5)]) (hsN := jpK_489) (c1 := 0) (s1 := 0) (c2 := 0) (s2 := 0) (by exact rfl) ?_ (by omega) (by omega)
  refine jT_xiconst (k := 5) (pcN := 33) jIK_379_32 rfl ?_
  refine jT_xisub (x := 5) (y := 5) (z := 0) (pcN := 34) jIK_379_33 rfl (by decide) rfl ?_
  refine jT_xicT (pcN := 3746) jIK_379_34 rfl (by decide +kernel) rfl ?_
  refine jT_xiconst (k := 1) (pcN := 3747) jIK_379_3746 rfl ?_
  exact jT_ret rfl (by decide) (by show 30 ≤ 30; decide) (by omega) (by omega) ⟨rfl, rfl⟩
set_option maxRecDepth 100000 in
theorem jL_9_8 {d : Nat} {x0 x1 x2 x3 x4 : Int} (h_x0 : (-2147483648) ≤ x0 ∧ x0 ≤ 2147483647) (h_x1 : 4 ≤ x1 ∧ x1 ≤ 2147483647) (h_x2 : (-2147483648) ≤ x2 ∧ x2 ≤ 2147483647) (h_x3 : (-2147483648) ≤ x3 ∧ x3 ≤ 2147483647) (h_x4 : (-2147483648) ≤ x4 ∧ x4 ≤ 2147483647) : jT [x0, x1, x2, x3, x4] (d + 3) 379 30 971 [(5, (0, 0)), (4, (4, 3)), (3, (4, 2)), (2, (4, 1)), (1, (4, 0)), (0, (6, 0))] [] jpK_456 1 6 (fun k v hsN => k = 0 ∧ v = (0, 1)) := by
  refine jT_xaload_n (v := (4, 0)) (pcN := 972) jIK_379_971 rfl rfl rfl ?_
  refine jT_xaload_n (v := (6, 0)) (pcN := 973) jIK_379_972 rfl rfl rfl ?_
  refine jT_xiload (v := (0, 0)) (pcN := 975) jIK_379_973 rfl rfl rfl ?_
  refine jT_xiconst (k := 1) (pcN := 976) jIK_379_975 rfl ?_
  refine jT_xiadd (x := 0) (y := 1) (z := 1) (pcN := 977) jIK_379_976 rfl (by decide) rfl ?_
  refine jT_adv 1 (pcN := 978) (LN := [(5, (0, 0)), (4, (4, 3)), (3, (4, 2)), (2, (4, 1)), (1, (4, 0)), (0, (6, 0))]) (stN := [(0, x1), (4, 0)]) (hsN := jpK_456) (c1 := 0) (s1 := 0) (c2 := 1) (s2 := 6) (by exact rfl) ?_ (by omega) (by omega)
  refine jT_xaload_n (v := (6, 0)) (pcN := 979) jIK_379_978 rfl rfl rfl ?_
  refine jT_xiload (v := (0, 0)) (pcN := 981) jIK_379_979 rfl rfl rfl ?_
  refine jT_xiconst (k := 2) (pcN := 982) jIK_379_981 rfl ?_
  refine jT_xiadd (x := 0) (y := 2) (z := 2) (pcN := 983) jIK_379_982 rfl (by decide) rfl ?_
  refine jT_adv 1 (pcN := 984) (LN := [(5, (0, 0)), (4, (4, 3)), (3, (4, 2)), (2, (4, 1)), (1, (4, 0)), (0, (6, 0))]) (stN := [(0, x2), (0, x1), (4, 0)]) (hsN := jpK_456) (c1 := 0) (s1 := 0) (c2 := 1) (s2 := 6) (by exact rfl) ?_ (by omega) (by omega)
  refine jT_xaload_n (v := (6, 0)) (pcN := 985) jIK_379_984 rfl rfl rfl ?_
  refine jT_xiload (v := (0, 0)) (pcN := 987) jIK_379_985 rfl rfl rfl ?_
  refine jT_xiconst (k := 3) (pcN := 988) jIK_379_987 rfl ?_
  refine jT_xiadd (x := 0) (y := 3) (z := 3) (pcN := 989) jIK_379_988 rfl (by decide) rfl ?_
  refine jT_adv 1 (pcN := 990) (LN := [(5, (0, 0)), (4, (4, 3)), (3, (4, 2)), (2, (4, 1)), (1, (4, 0)), (0, (6, 0))]) (stN := [(0, x3), (0, x2), (0, x1), (4, 0)]) (hsN := jpK_456) (c1 := 0) (s1 := 0) (c2 := 1) (s2 := 6) (by exact rfl) ?_ (by omega) (by omega)
  refine jT_xaload_n (v := (6, 0)) (pcN := 991) jIK_379_990 rfl rfl rfl ?_
  refine jT_xiload (v := (0, 0)) (pcN := 993) jIK_379_991 rfl rfl rfl ?_
  refine jT_xiconst (k := 4) (pcN := 994) jIK_379_993 rfl ?_
  refine jT_xiadd (x := 0) (y := 4) (z := 4) (pcN := 995) jIK_379_994 rfl (by decide) rfl ?_
  refine jT_adv 1 (pcN := 996) (LN := [(5, (0, 0)), (4, (4, 3)), (3, (4, 2)), (2, (4, 1)), (1, (4, 0)), (0, (6, 0))]) (stN := [(0, x4), (0, x3), (0, x2), (0, x1), (4, 0)]) (hsN := jpK_456) (c1 := 0) (s1 := 0) (c2 := 1) (s2 := 6) (by exact rfl) ?_ (by omega) (by omega)
  refine jT_xaload_n (v := (4, 2)) (pcN := 997) jIK_379_996 rfl rfl rfl ?_
  refine jT_fR [0, 2, 4, 5, 6, 7, 8, 9, 10, 11, 12, 13, 14] 30 (y := 335) (pcN := 1000) (dC := 2) (bc1 := 1) (bc2 := 6) (c1 := 0) (c2 := 0) (as := [(4, 0), (0, x1), (0, x2), (0, x3), (0, x4), (4, 2)]) (asC := [(4, 0), (0, x1), (0, x2), (0, x3), (0, x4), (4, 1)]) (LN := [(5, (0, 0)), (4, (4, 3)), (3, (4, 2)), (2, (4, 1)), (1, (4, 0)), (0, (6, 0))]) (stN := []) (hsC := jpK_15) (v := (0, 1)) (st2 := [(0, 1)]) (jK_335_116 (d := 0) (by omega) (by omega) (by omega) (by omega)) (by rfl) (by rfl) (by decide +kernel) (by rfl) (by rfl) (by omega) (by omega) (by omega) (by omega) rfl ?_
  refine jT_xistore (v := (0, 1)) (LN := [(6, (0, 1)), (5, (0, 0)), (4, (4, 3)), (3, (4, 2)), (2, (4, 1)), (1, (4, 0)), (0, (6, 0))]) (pcN := 1002) jIK_379_1000 rfl rfl rfl rfl ?_
  refine jT_xaload_n (v := (4, 1)) (pcN := 1003) jIK_379_1002 rfl rfl rfl ?_
  refine jT_xaload_n (v := (6, 0)) (pcN := 1004) jIK_379_1003 rfl rfl rfl ?_
  refine jT_xiload (v := (0, 0)) (pcN := 1006) jIK_379_1004 rfl rfl rfl ?_
  refine jT_xiconst (k := 1) (pcN := 1007) jIK_379_1006 rfl ?_
  refine jT_xiadd (x := 0) (y := 1) (z := 1) (pcN := 1008) jIK_379_1007 rfl (by decide) rfl ?_
  refine jT_adv 1 (pcN := 1009) (LN := [(6, (0, 1)), (5, (0, 0)), (4, (4, 3)), (3, (4, 2)), (2, (4, 1)), (1, (4, 0)), (0, (6, 0))]) (stN := [(0, x1), (4, 1)]) (hsN := jpK_456) (c1 := 0) (s1 := 0) (c2 := 0) (s2 := 0) (by exact rfl) ?_ (by omega) (by omega)
  refine jT_xaload_n (v := (6, 0)) (pcN := 1010) jIK_379_1009 rfl rfl rfl ?_
  refine jT_xiload (v := (0, 0)) (pcN := 1012) jIK_379_1010 rfl rfl rfl ?_
  refine jT_xiconst (k := 2) (pcN := 1013) jIK_379_1012 rfl ?_
  refine jT_xiadd (x := 0) (y := 2) (z := 2) (pcN := 1014) jIK_379_1013 rfl (by decide) rfl ?_
  refine jT_adv 1 (pcN := 1015) (LN := [(6, (0, 1)), (5, (0, 0)), (4, (4, 3)), (3, (4, 2)), (2, (4, 1)), (1, (4, 0)), (0, (6, 0))]) (stN := [(0, x2), (0, x1), (4, 1)]) (hsN := jpK_456) (c1 := 0) (s1 := 0) (c2 := 0) (s2 := 0) (by exact rfl) ?_ (by omega) (by omega)
  refine jT_xaload_n (v := (6, 0)) (pcN := 1016) jIK_379_1015 rfl rfl rfl ?_
  refine jT_xiload (v := (0, 0)) (pcN := 1018) jIK_379_1016 rfl rfl rfl ?_
  refine jT_xiconst (k := 3) (pcN := 1019) jIK_379_1018 rfl ?_
  refine jT_xiadd (x := 0) (y := 3) (z := 3) (pcN := 1020) jIK_379_1019 rfl (by decide) rfl ?_
  refine jT_adv 1 (pcN := 1021) (LN := [(6, (0, 1)), (5, (0, 0)), (4, (4, 3)), (3, (4, 2)), (2, (4, 1)), (1, (4, 0)), (0, (6, 0))]) (stN := [(0, x3), (0, x2), (0, x1), (4, 1)]) (hsN := jpK_456) (c1 := 0) (s1 := 0) (c2 := 0) (s2 := 0) (by exact rfl) ?_ (by omega) (by omega)
  refine jT_xaload_n (v := (6, 0)) (pcN := 1022) jIK_379_1021 rfl rfl rfl ?_
  refine jT_xiload (v := (0, 0)) (pcN := 1024) jIK_379_1022 rfl rfl rfl ?_
  refine jT_xiconst (k := 4) (pcN := 1025) jIK_379_1024 rfl ?_
  refine jT_xiadd (x := 0) (y := 4) (z := 4) (pcN := 1026) jIK_379_1025 rfl (by decide) rfl ?_
  refine jT_adv 1 (pcN := 1027) (LN := [(6, (0, 1)), (5, (0, 0)), (4, (4, 3)), (3, (4, 2)), (2, (4, 1)), (1, (4, 0)), (0, (6, 0))]) (stN := [(0, x4), (0, x3), (0, x2), (0, x1), (4, 1)]) (hsN := jpK_456) (c1 := 0) (s1 := 0) (c2 := 0) (s2 := 0) (by exact rfl) ?_ (by omega) (by omega)
  refine jT_fB [1, 15, 16, 17, 18, 19, 20, 21, 22, 23, 24, 25, 26, 27, 28, 29] 30 (y := 237) (pcN := 1030) (dC := 2) (bc1 := 0) (bc2 := 0) (c1 := 0) (c2 := 0) (as := [(4, 1), (0, x1), (0, x2), (0, x3), (0, x4)]) (asC := [(4, 0), (0, x1), (0, x2), (0, x3), (0, x4)]) (LN := [(6, (0, 1)), (5, (0, 0)), (4, (4, 3)), (3, (4, 2)), (2, (4, 1)), (1, (4, 0)), (0, (6, 0))]) (stN := []) (hsC := jpK_22) (hsD := jpK_20) (v := (0, 0)) (st2 := [(0, 0)]) (hs2 := jpK_489) (jK_237_118 (d := 0) (by omega) (by omega) (by omega) (by omega)) (by rfl) (by rfl) (by decide +kernel) (by rfl) (by rfl) (by omega) (by omega) (by omega) (by omega) rfl (by decide +kernel) ?_
  refine jT_xistore (v := (0, 0)) (LN := [(7, (0, 0)), (6, (0, 1)), (5, (0, 0)), (4, (4, 3)), (3, (4, 2)), (2, (4, 1)), (1, (4, 0)), (0, (6, 0))]) (pcN := 1032) jIK_379_1030 rfl rfl rfl rfl ?_
  refine jT_xaload_n (v := (4, 1)) (pcN := 1033) jIK_379_1032 rfl rfl rfl ?_
  refine jT_fR [1, 15, 16, 17, 18, 19, 20, 21, 22, 23, 24, 25, 26, 27, 28, 29] 30 (y := 186) (pcN := 1036) (dC := 0) (bc1 := 0) (bc2 := 0) (c1 := 0) (c2 := 0) (as := [(4, 1)]) (asC := [(4, 0)]) (LN := [(7, (0, 0)), (6, (0, 1)), (5, (0, 0)), (4, (4, 3)), (3, (4, 2)), (2, (4, 1)), (1, (4, 0)), (0, (6, 0))]) (stN := []) (hsC := jpK_20) (v := (0, 1)) (st2 := [(0, 1)]) (jK_186_8 (d := 0)) (by rfl) (by rfl) (by decide +kernel) (by rfl) (by rfl) (by omega) (by omega) (by omega) (by omega) rfl ?_
  refine jT_xiload (v := (0, 1)) (pcN := 1038) jIK_379_1036 rfl rfl rfl ?_
  refine jT_xicT (pcN := 1043) jIK_379_1038 rfl (by decide +kernel) rfl ?_
  refine jT_xiload (v := (0, 1)) (pcN := 1045) jIK_379_1043 rfl rfl rfl ?_
  refine jT_xifT (pcN := 1060) jIK_379_1045 rfl (by decide +kernel) rfl ?_
  refine jT_xgoto (pcN := 3740) jIK_379_1060 rfl ?_
  refine jT_xiinc (x := 0) (z := 5) (LN := [(5, (0, 5)), (7, (0, 0)), (6, (0, 1)), (4, (4, 3)), (3, (4, 2)), (2, (4, 1)), (1, (4, 0)), (0, (6, 0))]) (pcN := 3743) jIK_379_3740 rfl rfl (by decide) rfl rfl ?_
  refine jT_xgoto (pcN := 28) jIK_379_3743 rfl ?_
  refine jT_xiload (v := (0, 5)) (pcN := 30) jIK_379_28 rfl rfl rfl ?_
  refine jT_xaload_n (v := (6, 0)) (pcN := 31) jIK_379_30 rfl rfl rfl ?_
  refine jT_adv 1 (pcN := 32) (LN := [(5, (0, 5)), (7, (0, 0)), (6, (0, 1)), (4, (4, 3)), (3, (4, 2)), (2, (4, 1)), (1, (4, 0)), (0, (6, 0))]) (stN := [(0, 5), (0, 5)]) (hsN := jpK_489) (c1 := 0) (s1 := 0) (c2 := 0) (s2 := 0) (by exact rfl) ?_ (by omega) (by omega)
  refine jT_xiconst (k := 5) (pcN := 33) jIK_379_32 rfl ?_
  refine jT_xisub (x := 5) (y := 5) (z := 0) (pcN := 34) jIK_379_33 rfl (by decide) rfl ?_
  refine jT_xicT (pcN := 3746) jIK_379_34 rfl (by decide +kernel) rfl ?_
  refine jT_xiconst (k := 1) (pcN := 3747) jIK_379_3746 rfl ?_
  exact jT_ret rfl (by decide) (by show 30 ≤ 30; decide) (by omega) (by omega) ⟨rfl, rfl⟩
