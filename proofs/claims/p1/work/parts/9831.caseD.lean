/-! the law, case by case: 46 -/
theorem jID_116_0 : jmI (jm 116) 0 = (.iload_n 1, 1) := by rfl
theorem jID_116_1 : jmI (jm 116) 1 = (.iload_n 2, 1) := by rfl
theorem jID_116_2 : jmI (jm 116) 2 = (.if_icmp .lt 8, 3) := by rfl
theorem jD_116_1 {xs : List Int} {d : Nat} {x1 : Int} (h_x1 : (-2147483648) ≤ x1 ∧ x1 ≤ 0) : jT xs d 116 1 0 [(0, (4, 0)), (1, (0, x1)), (2, (0, 1)), (3, (0, 30))] [] [jgh] 1 6 (fun k v hsN => k = 1 ∧ v = (0, 1) ∧ hsN = [jgh] ++ []) := by
  refine jT_xiload_n (v := (0, x1)) (pcN := 1) jID_116_0 rfl rfl rfl ?_
  refine jT_xiload_n (v := (0, 1)) (pcN := 2) jID_116_1 rfl rfl rfl ?_
  refine jT_icT (a := x1) (b := 1) (t := 10) (by rfl) (by rfl) (by rfl) (jw_idd (by omega) (by omega)) (jw_idd (by omega) (by omega)) (by simp only [jcP] <;> omega) ?_
  exact jT_ret (c1 := 1) (s1 := 6) rfl (by decide) (by show 1 ≤ 1; decide) (by omega) (by omega) ⟨rfl, rfl, rfl⟩
theorem jID_170_0 : jmI (jm 170) 0 = (.aload_n 0, 1) := by rfl
theorem jID_170_1 : jmI (jm 170) 1 = (.iload_n 1, 1) := by rfl
theorem jID_170_2 : jmI (jm 170) 2 = (.iconst 1, 1) := by rfl
theorem jID_170_3 : jmI (jm 170) 3 = (.bipush 30, 2) := by rfl
def jzD_7 : JC := (13, [(4, 1), (4, 2), (4, 3), (4, 4), (4, 5), (4, 6), (4, 7), (4, 8), (4, 9), (4, 10), (0, 0), (4, 11), (0, 0)], [])
def jpD_8 : List JC := [jzD_7, jgh, jgh, jgh, jgh, jgh, jgh, jgh, jgh, jgh, jgh, jgh]
theorem jD_170_2 {xs : List Int} {d : Nat} {x1 x2 : Int} (h_x1 : (-2147483648) ≤ x1 ∧ x1 ≤ 0) (h_x2 : (-2147483648) ≤ x2 ∧ x2 ≤ 2147483647) : jT xs (d + 1) 170 12 0 [(0, (4, 0)), (1, (0, x1)), (2, (0, x2))] [] jpD_8 1 6 (fun k v hsN => k = 1 ∧ v = (0, 1) ∧ hsN = jpD_8 ++ []) := by
  refine jT_xaload_n (v := (4, 0)) (pcN := 1) jID_170_0 rfl rfl rfl ?_
  refine jT_xiload_n (v := (0, x1)) (pcN := 2) jID_170_1 rfl rfl rfl ?_
  refine jT_xiconst (k := 1) (pcN := 3) jID_170_2 rfl ?_
  refine jT_xbipush (k := 30) (pcN := 5) jID_170_3 (by decide) rfl ?_
  exact jT_fX [0] 12 (y := 116) (pcN := 8) (dC := 0) (bc1 := 1) (bc2 := 6) (as := [(4, 0), (0, x1), (0, 1), (0, 30)]) (asC := [(4, 0), (0, x1), (0, 1), (0, 30)]) (LN := [(0, (4, 0)), (1, (0, x1)), (2, (0, x2))]) (stN := []) (hsC := [jgh]) (e := 1) (jD_116_1 (d := 0) (by omega)) (by rfl) (by rfl) (by decide +kernel) (by rfl) (by rfl) (by omega) (by omega) (by omega) (by omega) ⟨rfl, ⟨rfl, rfl, rfl⟩⟩
theorem jID_368_0 : jmI (jm 368) 0 = (.aload_n 3, 1) := by rfl
theorem jID_368_1 : jmI (jm 368) 1 = (.iconst 0, 1) := by rfl
theorem jID_368_2 : jmI (jm 368) 2 = (.aload_n 0, 1) := by rfl
theorem jID_368_3 : jmI (jm 368) 3 = (.iload_n 1, 1) := by rfl
theorem jID_368_4 : jmI (jm 368) 4 = (.iload_n 2, 1) := by rfl
def jzD_14 : JC := (13, [(4, 2), (4, 3), (4, 4), (4, 5), (4, 6), (4, 7), (4, 8), (4, 9), (4, 10), (4, 11), (0, 0), (4, 12), (0, 0)], [])
def jpD_15 : List JC := [jzD_14, jgh, jgh, jgh, jgh, jgh, jgh, jgh, jgh, jgh, jgh, jgh, jgh]
theorem jD_368_3 {xs : List Int} {d : Nat} {x1 x2 : Int} (h_x1 : (-2147483648) ≤ x1 ∧ x1 ≤ 0) (h_x2 : (-2147483648) ≤ x2 ∧ x2 ≤ 2147483647) : jT xs (d + 2) 368 13 0 [(0, (4, 0)), (1, (0, x1)), (2, (0, x2)), (3, (4, 1))] [] jpD_15 1 6 (fun k v hsN => k = 0 ∧ v = (0, 1) ∧ hsN = jpD_15 ++ []) := by
  refine jT_xaload_n (v := (4, 1)) (pcN := 1) jID_368_0 rfl rfl rfl ?_
  refine jT_xiconst (k := 0) (pcN := 2) jID_368_1 rfl ?_
  refine jT_xaload_n (v := (4, 0)) (pcN := 3) jID_368_2 rfl rfl rfl ?_
  refine jT_xiload_n (v := (0, x1)) (pcN := 4) jID_368_3 rfl rfl rfl ?_
  refine jT_xiload_n (v := (0, x2)) (pcN := 5) jID_368_4 rfl rfl rfl ?_
  exact jT_fX [0, 2, 3, 4, 5, 6, 7, 8, 9, 10, 11, 12] 13 (y := 170) (pcN := 8) (dC := 1) (bc1 := 1) (bc2 := 6) (as := [(4, 0), (0, x1), (0, x2)]) (asC := [(4, 0), (0, x1), (0, x2)]) (LN := [(0, (4, 0)), (1, (0, x1)), (2, (0, x2)), (3, (4, 1))]) (stN := [(0, 0), (4, 1)]) (hsC := jpD_8) (e := 1) (jD_170_2 (d := 0) (by omega) (by omega)) (by rfl) (by rfl) (by decide +kernel) (by rfl) (by rfl) (by omega) (by omega) (by omega) (by omega) (show _ from ⟨rfl, rfl, rfl⟩)
def jzD_16 : JC := (14, [(0, 1), (4, 1), (4, 2), (4, 3), (4, 4), (0, 0), (4, 5), (0, 0), (4, 6), (4, 7), (1, 1), (4, 8), (0, 0), (4, 9), (0, 0), (0, 0), (0, 0), (0, 0), (0, 0), (0, 0), (0, 0), (4, 10), (4, 11), (4, 12), (4, 13), (4, 14), (4, 15), (0, 0)], [])
def jpD_17 : List JC := [jzD_16, jgh, jgh, jgh, jgh, jgh, jgh, jgh, jgh, jgh, jgh, jgh, jgh, jgh, jgh, jgh]
def jzD_18 : JC := (14, [(0, 0), (4, 1), (4, 2), (4, 3), (4, 4), (0, 0), (4, 5), (0, 0), (4, 6), (4, 7), (1, 1), (4, 8), (0, 0), (4, 9), (0, 0), (0, 0), (0, 0), (0, 0), (0, 0), (0, 0), (0, 0), (4, 10), (4, 11), (4, 12), (4, 13), (4, 14), (4, 15), (0, 0)], [])
def jpD_19 : List JC := [jzD_18, jgh, jgh, jgh, jgh, jgh, jgh, jgh, jgh, jgh, jgh, jgh, jgh, jgh, jgh, jgh]
theorem jD_191_4 {xs : List Int} {d : Nat} : jT xs d 191 16 0 [(0, (4, 0)), (1, (0, 0)), (2, (0, 1))] [] jpD_19 0 0 (fun k v hsN => k = 0 ∧ v = (0, 1) ∧ hsN = jpD_17) := by
  refine jT_advK 9 (pcN := 18) (LN := [(0, (4, 0)), (1, (0, 0)), (2, (0, 1))]) (stN := [(0, 1)]) (hsN := jpD_17) (c1 := 0) (s1 := 0) (c2 := 0) (s2 := 0) (by decide +kernel) ?_ (by omega) (by omega)
  exact jT_ret rfl (by decide) (by show 16 ≤ 16; decide) (by omega) (by omega) ⟨rfl, rfl, rfl⟩
theorem jD_190_5 {xs : List Int} {d : Nat} : jT xs (d + 1) 190 16 0 [(0, (4, 0)), (1, (0, 0))] [] jpD_19 0 0 (fun k v hsN => k = 0 ∧ v = (0, 1) ∧ hsN = jpD_17) := by
  refine jT_advK 6 (pcN := 8) (LN := [(0, (4, 0)), (1, (0, 0))]) (stN := [(0, 1), (0, 0), (4, 0)]) (hsN := jpD_19) (c1 := 0) (s1 := 0) (c2 := 0) (s2 := 0) (by decide +kernel) ?_ (by omega) (by omega)
  refine jT_fB [0, 1, 2, 3, 4, 5, 6, 7, 8, 9, 10, 11, 12, 13, 14, 15] 16 (y := 191) (pcN := 11) (dC := 0) (bc1 := 0) (bc2 := 0) (c1 := 0) (c2 := 0) (as := [(4, 0), (0, 0), (0, 1)]) (asC := [(4, 0), (0, 0), (0, 1)]) (LN := [(0, (4, 0)), (1, (0, 0))]) (stN := []) (hsC := jpD_19) (hsD := jpD_17) (v := (0, 1)) (st2 := [(0, 1)]) (hs2 := jpD_17) (jD_191_4 (d := 0)) (by rfl) (by rfl) (by decide +kernel) (by rfl) (by rfl) (by omega) (by omega) (by omega) (by omega) rfl (by decide +kernel) ?_
  exact jT_ret rfl (by decide) (by show 16 ≤ 16; decide) (by omega) (by omega) ⟨rfl, rfl, rfl⟩
theorem jID_313_0 : jmI (jm 313) 0 = (.aload_n 0, 1) := by rfl
theorem jID_313_1 : jmI (jm 313) 1 = (.iload_n 1, 1) := by rfl
theorem jID_313_2 : jmI (jm 313) 2 = (.i2l, 1) := by rfl
theorem jID_313_3 : jmI (jm 313) 3 = (.lconst 1, 1) := by rfl
theorem jID_313_10 : jmI (jm 313) 10 = (.ifCond .eq 18, 3) := by rfl
theorem jID_313_28 : jmI (jm 313) 28 = (.iconst 0, 1) := by rfl
theorem jID_313_32 : jmI (jm 313) 32 = (.ifCond .eq 5, 3) := by rfl
theorem jID_313_35 : jmI (jm 313) 35 = (.iconst 0, 1) := by rfl
theorem jD_313_6 {xs : List Int} {d : Nat} {x1 x2 : Int} (h_x1 : (-2147483648) ≤ x1 ∧ x1 ≤ 0) (h_x2 : (-2147483648) ≤ x2 ∧ x2 ≤ 2147483647) : jT xs (d + 2) 313 16 0 [(0, (4, 0)), (1, (0, x1)), (2, (0, x2))] [] jpD_19 0 0 (fun k v hsN => k = 0 ∧ v = (0, 0) ∧ hsN = jpD_17) := by
  refine jT_xaload_n (v := (4, 0)) (pcN := 1) jID_313_0 rfl rfl rfl ?_
  refine jT_xiload_n (v := (0, x1)) (pcN := 2) jID_313_1 rfl rfl rfl ?_
  refine jT_xi2l (x := x1) (z := x1) (pcN := 3) jID_313_2 rfl (jw_idd (by omega) (by omega)) rfl ?_
  refine jT_xlconst (z := 1) (pcN := 4) jID_313_3 rfl rfl ?_
  refine jT_adv 1 (pcN := 7) (LN := [(0, (4, 0)), (1, (0, x1)), (2, (0, x2))]) (stN := [(1, 30), (1, 1), (1, x1), (4, 0)]) (hsN := jpD_19) (c1 := 0) (s1 := 0) (c2 := 0) (s2 := 0) (by exact rfl) ?_ (by omega) (by omega)
  refine jT_fR [] 16 (y := 189) (pcN := 10) (dC := 0) (bc1 := 0) (bc2 := 0) (c1 := 0) (c2 := 0) (as := [(1, x1), (1, 1), (1, 30)]) (asC := [(1, x1), (1, 1), (1, 30)]) (LN := [(0, (4, 0)), (1, (0, x1)), (2, (0, x2))]) (stN := [(4, 0)]) (hsC := []) (v := (0, 0)) (st2 := [(0, 0), (4, 0)]) (jT_in_lo (d := 0) (v := x1) (lo := 1) (hi := 30) (by omega) (by omega) (by omega) (by omega)) (by rfl) (by rfl) (by decide +kernel) (by rfl) (by rfl) (by omega) (by omega) (by omega) (by omega) rfl ?_
  refine jT_xifT (pcN := 28) jID_313_10 rfl (by decide +kernel) rfl ?_
  refine jT_xiconst (k := 0) (pcN := 29) jID_313_28 rfl ?_
  refine jT_fB [0, 1, 2, 3, 4, 5, 6, 7, 8, 9, 10, 11, 12, 13, 14, 15] 16 (y := 190) (pcN := 32) (dC := 1) (bc1 := 0) (bc2 := 0) (c1 := 0) (c2 := 0) (as := [(4, 0), (0, 0)]) (asC := [(4, 0), (0, 0)]) (LN := [(0, (4, 0)), (1, (0, x1)), (2, (0, x2))]) (stN := []) (hsC := jpD_19) (hsD := jpD_17) (v := (0, 1)) (st2 := [(0, 1)]) (hs2 := jpD_17) (jD_190_5 (d := 0)) (by rfl) (by rfl) (by decide +kernel) (by rfl) (by rfl) (by omega) (by omega) (by omega) (by omega) rfl (by decide +kernel) ?_
  refine jT_xifF (t := 37) (pcN := 35) jID_313_32 rfl (by decide +kernel) rfl rfl ?_
  refine jT_xiconst (k := 0) (pcN := 36) jID_313_35 rfl ?_
  exact jT_ret rfl (by decide) (by show 16 ≤ 16; decide) (by omega) (by omega) ⟨rfl, rfl, rfl⟩
theorem jD_186_7 {xs : List Int} {d : Nat} : jT xs d 186 16 0 [(0, (4, 0))] [] jpD_17 0 0 (fun k v hsN => k = 0 ∧ v = (0, 1) ∧ hsN = jpD_17 ++ []) := by
  refine jT_advK 2 (pcN := 4) (LN := [(0, (4, 0))]) (stN := [(0, 1)]) (hsN := jpD_17) (c1 := 0) (s1 := 0) (c2 := 0) (s2 := 0) (by decide +kernel) ?_ (by omega) (by omega)
  exact jT_ret rfl (by decide) (by show 16 ≤ 16; decide) (by omega) (by omega) ⟨rfl, rfl, rfl⟩
theorem jID_116_5 : jmI (jm 116) 5 = (.iload_n 1, 1) := by rfl
theorem jID_116_6 : jmI (jm 116) 6 = (.iload_n 3, 1) := by rfl
theorem jID_116_7 : jmI (jm 116) 7 = (.if_icmp .le 14, 3) := by rfl
theorem jD_116_8 {xs : List Int} {d : Nat} {x1 : Int} (h_x1 : 1 ≤ x1 ∧ x1 ≤ 30) : jT xs d 116 1 0 [(0, (4, 0)), (1, (0, x1)), (2, (0, 1)), (3, (0, 30))] [] [jgh] 0 0 (fun k v hsN => k = 0 ∧ v = (9, 0) ∧ hsN = [jgh] ++ []) := by
  refine jT_xiload_n (v := (0, x1)) (pcN := 1) jID_116_0 rfl rfl rfl ?_
  refine jT_xiload_n (v := (0, 1)) (pcN := 2) jID_116_1 rfl rfl rfl ?_
  refine jT_icF (a := x1) (b := 1) (t := 10) (by rfl) (by rfl) (by rfl) (jw_idd (by omega) (by omega)) (jw_idd (by omega) (by omega)) (by simp only [jcP] <;> omega) ?_
  refine jT_xiload_n (v := (0, x1)) (pcN := 6) jID_116_5 rfl rfl rfl ?_
  refine jT_xiload_n (v := (0, 30)) (pcN := 7) jID_116_6 rfl rfl rfl ?_
  refine jT_icT (a := x1) (b := 30) (t := 21) (by rfl) (by rfl) (by rfl) (jw_idd (by omega) (by omega)) (jw_idd (by omega) (by omega)) (by simp only [jcP] <;> omega) ?_
  exact jT_ret rfl (by decide) (by show 1 ≤ 1; decide) (by omega) (by omega) ⟨rfl, rfl, rfl⟩
theorem jD_116_9 {xs : List Int} {d : Nat} {x1 x2 : Int} (h_x1 : 1 ≤ x1 ∧ x1 ≤ 30) (h_x2 : (-2147483648) ≤ x2 ∧ x2 ≤ (-1)) : jT xs d 116 1 0 [(0, (4, 0)), (1, (0, x2)), (2, (0, 0)), (3, (0, x1))] [] [jgh] 1 6 (fun k v hsN => k = 1 ∧ v = (0, 1) ∧ hsN = [jgh] ++ []) := by
  refine jT_xiload_n (v := (0, x2)) (pcN := 1) jID_116_0 rfl rfl rfl ?_
  refine jT_xiload_n (v := (0, 0)) (pcN := 2) jID_116_1 rfl rfl rfl ?_
  refine jT_icT (a := x2) (b := 0) (t := 10) (by rfl) (by rfl) (by rfl) (jw_idd (by omega) (by omega)) (jw_idd (by omega) (by omega)) (by simp only [jcP] <;> omega) ?_
  exact jT_ret (c1 := 1) (s1 := 6) rfl (by decide) (by show 1 ≤ 1; decide) (by omega) (by omega) ⟨rfl, rfl, rfl⟩
theorem jID_170_8 : jmI (jm 170) 8 = (.aload_n 0, 1) := by rfl
theorem jID_170_9 : jmI (jm 170) 9 = (.iload_n 2, 1) := by rfl
theorem jID_170_10 : jmI (jm 170) 10 = (.iconst 0, 1) := by rfl
theorem jID_170_11 : jmI (jm 170) 11 = (.iload_n 1, 1) := by rfl
theorem jD_170_10 {xs : List Int} {d : Nat} {x1 x2 : Int} (h_x1 : 1 ≤ x1 ∧ x1 ≤ 30) (h_x2 : (-2147483648) ≤ x2 ∧ x2 ≤ (-1)) : jT xs (d + 1) 170 12 0 [(0, (4, 0)), (1, (0, x1)), (2, (0, x2))] [] jpD_8 1 6 (fun k v hsN => k = 1 ∧ v = (0, 1) ∧ hsN = jpD_8 ++ []) := by
  refine jT_xaload_n (v := (4, 0)) (pcN := 1) jID_170_0 rfl rfl rfl ?_
  refine jT_xiload_n (v := (0, x1)) (pcN := 2) jID_170_1 rfl rfl rfl ?_
  refine jT_xiconst (k := 1) (pcN := 3) jID_170_2 rfl ?_
  refine jT_xbipush (k := 30) (pcN := 5) jID_170_3 (by decide) rfl ?_
  refine jT_fR [0] 12 (y := 116) (pcN := 8) (dC := 0) (bc1 := 0) (bc2 := 0) (c1 := 1) (c2 := 6) (as := [(4, 0), (0, x1), (0, 1), (0, 30)]) (asC := [(4, 0), (0, x1), (0, 1), (0, 30)]) (LN := [(0, (4, 0)), (1, (0, x1)), (2, (0, x2))]) (stN := []) (hsC := [jgh]) (v := (9, 0)) (st2 := []) (jD_116_8 (d := 0) (by omega)) (by rfl) (by rfl) (by decide +kernel) (by rfl) (by rfl) (by omega) (by omega) (by omega) (by omega) rfl ?_
  refine jT_xaload_n (v := (4, 0)) (pcN := 9) jID_170_8 rfl rfl rfl ?_
  refine jT_xiload_n (v := (0, x2)) (pcN := 10) jID_170_9 rfl rfl rfl ?_
  refine jT_xiconst (k := 0) (pcN := 11) jID_170_10 rfl ?_
  refine jT_xiload_n (v := (0, x1)) (pcN := 12) jID_170_11 rfl rfl rfl ?_
  exact jT_fX [0] 12 (y := 116) (pcN := 15) (dC := 0) (bc1 := 1) (bc2 := 6) (as := [(4, 0), (0, x2), (0, 0), (0, x1)]) (asC := [(4, 0), (0, x2), (0, 0), (0, x1)]) (LN := [(0, (4, 0)), (1, (0, x1)), (2, (0, x2))]) (stN := []) (hsC := [jgh]) (e := 1) (jD_116_9 (d := 0) (by omega) (by omega)) (by rfl) (by rfl) (by decide +kernel) (by rfl) (by rfl) (by omega) (by omega) (by omega) (by omega) ⟨rfl, ⟨rfl, rfl, rfl⟩⟩
theorem jD_368_11 {xs : List Int} {d : Nat} {x1 x2 : Int} (h_x1 : 1 ≤ x1 ∧ x1 ≤ 30) (h_x2 : (-2147483648) ≤ x2 ∧ x2 ≤ (-1)) : jT xs (d + 2) 368 13 0 [(0, (4, 0)), (1, (0, x1)), (2, (0, x2)), (3, (4, 1))] [] jpD_15 1 6 (fun k v hsN => k = 0 ∧ v = (0, 1) ∧ hsN = jpD_15 ++ []) := by
  refine jT_xaload_n (v := (4, 1)) (pcN := 1) jID_368_0 rfl rfl rfl ?_
  refine jT_xiconst (k := 0) (pcN := 2) jID_368_1 rfl ?_
  refine jT_xaload_n (v := (4, 0)) (pcN := 3) jID_368_2 rfl rfl rfl ?_
  refine jT_xiload_n (v := (0, x1)) (pcN := 4) jID_368_3 rfl rfl rfl ?_
  refine jT_xiload_n (v := (0, x2)) (pcN := 5) jID_368_4 rfl rfl rfl ?_
  exact jT_fX [0, 2, 3, 4, 5, 6, 7, 8, 9, 10, 11, 12] 13 (y := 170) (pcN := 8) (dC := 1) (bc1 := 1) (bc2 := 6) (as := [(4, 0), (0, x1), (0, x2)]) (asC := [(4, 0), (0, x1), (0, x2)]) (LN := [(0, (4, 0)), (1, (0, x1)), (2, (0, x2)), (3, (4, 1))]) (stN := [(0, 0), (4, 1)]) (hsC := jpD_8) (e := 1) (jD_170_10 (d := 0) (by omega) (by omega)) (by rfl) (by rfl) (by decide +kernel) (by rfl) (by rfl) (by omega) (by omega) (by omega) (by omega) (show _ from ⟨rfl, rfl, rfl⟩)
theorem jID_313_13 : jmI (jm 313) 13 = (.iload_n 2, 1) := by rfl
theorem jID_313_14 : jmI (jm 313) 14 = (.i2l, 1) := by rfl
theorem jID_313_15 : jmI (jm 313) 15 = (.lconst 0, 1) := by rfl
theorem jID_313_16 : jmI (jm 313) 16 = (.iload_n 1, 1) := by rfl
theorem jID_313_17 : jmI (jm 313) 17 = (.i2l, 1) := by rfl
theorem jID_313_21 : jmI (jm 313) 21 = (.ifCond .eq 7, 3) := by rfl
theorem jD_313_12 {xs : List Int} {d : Nat} {x1 x2 : Int} (h_x1 : 1 ≤ x1 ∧ x1 ≤ 30) (h_x2 : (-2147483648) ≤ x2 ∧ x2 ≤ (-1)) : jT xs (d + 2) 313 16 0 [(0, (4, 0)), (1, (0, x1)), (2, (0, x2))] [] jpD_19 0 0 (fun k v hsN => k = 0 ∧ v = (0, 0) ∧ hsN = jpD_17) := by
  refine jT_xaload_n (v := (4, 0)) (pcN := 1) jID_313_0 rfl rfl rfl ?_
  refine jT_xiload_n (v := (0, x1)) (pcN := 2) jID_313_1 rfl rfl rfl ?_
  refine jT_xi2l (x := x1) (z := x1) (pcN := 3) jID_313_2 rfl (jw_idd (by omega) (by omega)) rfl ?_
  refine jT_xlconst (z := 1) (pcN := 4) jID_313_3 rfl rfl ?_
  refine jT_adv 1 (pcN := 7) (LN := [(0, (4, 0)), (1, (0, x1)), (2, (0, x2))]) (stN := [(1, 30), (1, 1), (1, x1), (4, 0)]) (hsN := jpD_19) (c1 := 0) (s1 := 0) (c2 := 0) (s2 := 0) (by exact rfl) ?_ (by omega) (by omega)
  refine jT_fR [] 16 (y := 189) (pcN := 10) (dC := 0) (bc1 := 0) (bc2 := 0) (c1 := 0) (c2 := 0) (as := [(1, x1), (1, 1), (1, 30)]) (asC := [(1, x1), (1, 1), (1, 30)]) (LN := [(0, (4, 0)), (1, (0, x1)), (2, (0, x2))]) (stN := [(4, 0)]) (hsC := []) (v := (0, 1)) (st2 := [(0, 1), (4, 0)]) (jT_in_ok (d := 0) (v := x1) (lo := 1) (hi := 30) (by omega) (by omega) (by omega) (by omega) (by omega)) (by rfl) (by rfl) (by decide +kernel) (by rfl) (by rfl) (by omega) (by omega) (by omega) (by omega) rfl ?_
  refine jT_xifF (t := 28) (pcN := 13) jID_313_10 rfl (by decide +kernel) rfl rfl ?_
  refine jT_xiload_n (v := (0, x2)) (pcN := 14) jID_313_13 rfl rfl rfl ?_
  refine jT_xi2l (x := x2) (z := x2) (pcN := 15) jID_313_14 rfl (jw_idd (by omega) (by omega)) rfl ?_
  refine jT_xlconst (z := 0) (pcN := 16) jID_313_15 rfl rfl ?_
  refine jT_xiload_n (v := (0, x1)) (pcN := 17) jID_313_16 rfl rfl rfl ?_
  refine jT_xi2l (x := x1) (z := x1) (pcN := 18) jID_313_17 rfl (jw_idd (by omega) (by omega)) rfl ?_
  refine jT_fR [] 16 (y := 189) (pcN := 21) (dC := 0) (bc1 := 0) (bc2 := 0) (c1 := 0) (c2 := 0) (as := [(1, x2), (1, 0), (1, x1)]) (asC := [(1, x2), (1, 0), (1, x1)]) (LN := [(0, (4, 0)), (1, (0, x1)), (2, (0, x2))]) (stN := [(4, 0)]) (hsC := []) (v := (0, 0)) (st2 := [(0, 0), (4, 0)]) (jT_in_lo (d := 0) (v := x2) (lo := 0) (hi := x1) (by omega) (by omega) (by omega) (by omega)) (by rfl) (by rfl) (by decide +kernel) (by rfl) (by rfl) (by omega) (by omega) (by omega) (by omega) rfl ?_
  refine jT_xifT (pcN := 28) jID_313_21 rfl (by decide +kernel) rfl ?_
  refine jT_xiconst (k := 0) (pcN := 29) jID_313_28 rfl ?_
  refine jT_fB [0, 1, 2, 3, 4, 5, 6, 7, 8, 9, 10, 11, 12, 13, 14, 15] 16 (y := 190) (pcN := 32) (dC := 1) (bc1 := 0) (bc2 := 0) (c1 := 0) (c2 := 0) (as := [(4, 0), (0, 0)]) (asC := [(4, 0), (0, 0)]) (LN := [(0, (4, 0)), (1, (0, x1)), (2, (0, x2))]) (stN := []) (hsC := jpD_19) (hsD := jpD_17) (v := (0, 1)) (st2 := [(0, 1)]) (hs2 := jpD_17) (jD_190_5 (d := 0)) (by rfl) (by rfl) (by decide +kernel) (by rfl) (by rfl) (by omega) (by omega) (by omega) (by omega) rfl (by decide +kernel) ?_
  refine jT_xifF (t := 37) (pcN := 35) jID_313_32 rfl (by decide +kernel) rfl rfl ?_
  refine jT_xiconst (k := 0) (pcN := 36) jID_313_35 rfl ?_
  exact jT_ret rfl (by decide) (by show 16 ≤ 16; decide) (by omega) (by omega) ⟨rfl, rfl, rfl⟩
theorem jD_116_13 {xs : List Int} {d : Nat} {x1 x2 : Int} (h_x1 : 1 ≤ x1 ∧ x1 ≤ 30) (h_x2 : 0 ≤ x2 ∧ x2 ≤ 2147483647) (g_0 : 0 ≤ -x1 + x2 - 1) : jT xs d 116 1 0 [(0, (4, 0)), (1, (0, x2)), (2, (0, 0)), (3, (0, x1))] [] [jgh] 1 6 (fun k v hsN => k = 1 ∧ v = (0, 1) ∧ hsN = [jgh] ++ []) := by
  refine jT_xiload_n (v := (0, x2)) (pcN := 1) jID_116_0 rfl rfl rfl ?_
  refine jT_xiload_n (v := (0, 0)) (pcN := 2) jID_116_1 rfl rfl rfl ?_
  refine jT_icF (a := x2) (b := 0) (t := 10) (by rfl) (by rfl) (by rfl) (jw_idd (by omega) (by omega)) (jw_idd (by omega) (by omega)) (by simp only [jcP] <;> omega) ?_
  refine jT_xiload_n (v := (0, x2)) (pcN := 6) jID_116_5 rfl rfl rfl ?_
  refine jT_xiload_n (v := (0, x1)) (pcN := 7) jID_116_6 rfl rfl rfl ?_
  refine jT_icF (a := x2) (b := x1) (t := 21) (by rfl) (by rfl) (by rfl) (jw_idd (by omega) (by omega)) (jw_idd (by omega) (by omega)) (by simp only [jcP] <;> omega) ?_
  exact jT_ret (c1 := 1) (s1 := 6) rfl (by decide) (by show 1 ≤ 1; decide) (by omega) (by omega) ⟨rfl, rfl, rfl⟩
theorem jD_170_14 {xs : List Int} {d : Nat} {x1 x2 : Int} (h_x1 : 1 ≤ x1 ∧ x1 ≤ 30) (h_x2 : 0 ≤ x2 ∧ x2 ≤ 2147483647) (g_0 : 0 ≤ -x1 + x2 - 1) : jT xs (d + 1) 170 12 0 [(0, (4, 0)), (1, (0, x1)), (2, (0, x2))] [] jpD_8 1 6 (fun k v hsN => k = 1 ∧ v = (0, 1) ∧ hsN = jpD_8 ++ []) := by
  refine jT_xaload_n (v := (4, 0)) (pcN := 1) jID_170_0 rfl rfl rfl ?_
  refine jT_xiload_n (v := (0, x1)) (pcN := 2) jID_170_1 rfl rfl rfl ?_
  refine jT_xiconst (k := 1) (pcN := 3) jID_170_2 rfl ?_
  refine jT_xbipush (k := 30) (pcN := 5) jID_170_3 (by decide) rfl ?_
  refine jT_fR [0] 12 (y := 116) (pcN := 8) (dC := 0) (bc1 := 0) (bc2 := 0) (c1 := 1) (c2 := 6) (as := [(4, 0), (0, x1), (0, 1), (0, 30)]) (asC := [(4, 0), (0, x1), (0, 1), (0, 30)]) (LN := [(0, (4, 0)), (1, (0, x1)), (2, (0, x2))]) (stN := []) (hsC := [jgh]) (v := (9, 0)) (st2 := []) (jD_116_8 (d := 0) (by omega)) (by rfl) (by rfl) (by decide +kernel) (by rfl) (by rfl) (by omega) (by omega) (by omega) (by omega) rfl ?_
  refine jT_xaload_n (v := (4, 0)) (pcN := 9) jID_170_8 rfl rfl rfl ?_
  refine jT_xiload_n (v := (0, x2)) (pcN := 10) jID_170_9 rfl rfl rfl ?_
  refine jT_xiconst (k := 0) (pcN := 11) jID_170_10 rfl ?_
  refine jT_xiload_n (v := (0, x1)) (pcN := 12) jID_170_11 rfl rfl rfl ?_
  exact jT_fX [0] 12 (y := 116) (pcN := 15) (dC := 0) (bc1 := 1) (bc2 := 6) (as := [(4, 0), (0, x2), (0, 0), (0, x1)]) (asC := [(4, 0), (0, x2), (0, 0), (0, x1)]) (LN := [(0, (4, 0)), (1, (0, x1)), (2, (0, x2))]) (stN := []) (hsC := [jgh]) (e := 1) (jD_116_13 (d := 0) (by omega) (by omega) (by omega)) (by rfl) (by rfl) (by decide +kernel) (by rfl) (by rfl) (by omega) (by omega) (by omega) (by omega) ⟨rfl, ⟨rfl, rfl, rfl⟩⟩
theorem jD_368_15 {xs : List Int} {d : Nat} {x1 x2 : Int} (h_x1 : 1 ≤ x1 ∧ x1 ≤ 30) (h_x2 : 0 ≤ x2 ∧ x2 ≤ 2147483647) (g_0 : 0 ≤ -x1 + x2 - 1) : jT xs (d + 2) 368 13 0 [(0, (4, 0)), (1, (0, x1)), (2, (0, x2)), (3, (4, 1))] [] jpD_15 1 6 (fun k v hsN => k = 0 ∧ v = (0, 1) ∧ hsN = jpD_15 ++ []) := by
  refine jT_xaload_n (v := (4, 1)) (pcN := 1) jID_368_0 rfl rfl rfl ?_
  refine jT_xiconst (k := 0) (pcN := 2) jID_368_1 rfl ?_
  refine jT_xaload_n (v := (4, 0)) (pcN := 3) jID_368_2 rfl rfl rfl ?_
  refine jT_xiload_n (v := (0, x1)) (pcN := 4) jID_368_3 rfl rfl rfl ?_
  refine jT_xiload_n (v := (0, x2)) (pcN := 5) jID_368_4 rfl rfl rfl ?_
  exact jT_fX [0, 2, 3, 4, 5, 6, 7, 8, 9, 10, 11, 12] 13 (y := 170) (pcN := 8) (dC := 1) (bc1 := 1) (bc2 := 6) (as := [(4, 0), (0, x1), (0, x2)]) (asC := [(4, 0), (0, x1), (0, x2)]) (LN := [(0, (4, 0)), (1, (0, x1)), (2, (0, x2)), (3, (4, 1))]) (stN := [(0, 0), (4, 1)]) (hsC := jpD_8) (e := 1) (jD_170_14 (d := 0) (by omega) (by omega) (by omega)) (by rfl) (by rfl) (by decide +kernel) (by rfl) (by rfl) (by omega) (by omega) (by omega) (by omega) (show _ from ⟨rfl, rfl, rfl⟩)
theorem jD_313_16 {xs : List Int} {d : Nat} {x1 x2 : Int} (h_x1 : 1 ≤ x1 ∧ x1 ≤ 30) (h_x2 : 0 ≤ x2 ∧ x2 ≤ 2147483647) (g_0 : 0 ≤ -x1 + x2 - 1) : jT xs (d + 2) 313 16 0 [(0, (4, 0)), (1, (0, x1)), (2, (0, x2))] [] jpD_19 0 0 (fun k v hsN => k = 0 ∧ v = (0, 0) ∧ hsN = jpD_17) := by
  refine jT_xaload_n (v := (4, 0)) (pcN := 1) jID_313_0 rfl rfl rfl ?_
  refine jT_xiload_n (v := (0, x1)) (pcN := 2) jID_313_1 rfl rfl rfl ?_
  refine jT_xi2l (x := x1) (z := x1) (pcN := 3) jID_313_2 rfl (jw_idd (by omega) (by omega)) rfl ?_
  refine jT_xlconst (z := 1) (pcN := 4) jID_313_3 rfl rfl ?_
  refine jT_adv 1 (pcN := 7) (LN := [(0, (4, 0)), (1, (0, x1)), (2, (0, x2))]) (stN := [(1, 30), (1, 1), (1, x1), (4, 0)]) (hsN := jpD_19) (c1 := 0) (s1 := 0) (c2 := 0) (s2 := 0) (by exact rfl) ?_ (by omega) (by omega)
  refine jT_fR [] 16 (y := 189) (pcN := 10) (dC := 0) (bc1 := 0) (bc2 := 0) (c1 := 0) (c2 := 0) (as := [(1, x1), (1, 1), (1, 30)]) (asC := [(1, x1), (1, 1), (1, 30)]) (LN := [(0, (4, 0)), (1, (0, x1)), (2, (0, x2))]) (stN := [(4, 0)]) (hsC := []) (v := (0, 1)) (st2 := [(0, 1), (4, 0)]) (jT_in_ok (d := 0) (v := x1) (lo := 1) (hi := 30) (by omega) (by omega) (by omega) (by omega) (by omega)) (by rfl) (by rfl) (by decide +kernel) (by rfl) (by rfl) (by omega) (by omega) (by omega) (by omega) rfl ?_
  refine jT_xifF (t := 28) (pcN := 13) jID_313_10 rfl (by decide +kernel) rfl rfl ?_
  refine jT_xiload_n (v := (0, x2)) (pcN := 14) jID_313_13 rfl rfl rfl ?_
  refine jT_xi2l (x := x2) (z := x2) (pcN := 15) jID_313_14 rfl (jw_idd (by omega) (by omega)) rfl ?_
  refine jT_xlconst (z := 0) (pcN := 16) jID_313_15 rfl rfl ?_
  refine jT_xiload_n (v := (0, x1)) (pcN := 17) jID_313_16 rfl rfl rfl ?_
  refine jT_xi2l (x := x1) (z := x1) (pcN := 18) jID_313_17 rfl (jw_idd (by omega) (by omega)) rfl ?_
  refine jT_fR [] 16 (y := 189) (pcN := 21) (dC := 0) (bc1 := 0) (bc2 := 0) (c1 := 0) (c2 := 0) (as := [(1, x2), (1, 0), (1, x1)]) (asC := [(1, x2), (1, 0), (1, x1)]) (LN := [(0, (4, 0)), (1, (0, x1)), (2, (0, x2))]) (stN := [(4, 0)]) (hsC := []) (v := (0, 0)) (st2 := [(0, 0), (4, 0)]) (jT_in_hi (d := 0) (v := x2) (lo := 0) (hi := x1) (by omega) (by omega) (by omega) (by omega) (by omega)) (by rfl) (by rfl) (by decide +kernel) (by rfl) (by rfl) (by omega) (by omega) (by omega) (by omega) rfl ?_
  refine jT_xifT (pcN := 28) jID_313_21 rfl (by decide +kernel) rfl ?_
  refine jT_xiconst (k := 0) (pcN := 29) jID_313_28 rfl ?_
  refine jT_fB [0, 1, 2, 3, 4, 5, 6, 7, 8, 9, 10, 11, 12, 13, 14, 15] 16 (y := 190) (pcN := 32) (dC := 1) (bc1 := 0) (bc2 := 0) (c1 := 0) (c2 := 0) (as := [(4, 0), (0, 0)]) (asC := [(4, 0), (0, 0)]) (LN := [(0, (4, 0)), (1, (0, x1)), (2, (0, x2))]) (stN := []) (hsC := jpD_19) (hsD := jpD_17) (v := (0, 1)) (st2 := [(0, 1)]) (hs2 := jpD_17) (jD_190_5 (d := 0)) (by rfl) (by rfl) (by decide +kernel) (by rfl) (by rfl) (by omega) (by omega) (by omega) (by omega) rfl (by decide +kernel) ?_
  refine jT_xifF (t := 37) (pcN := 35) jID_313_32 rfl (by decide +kernel) rfl rfl ?_
  refine jT_xiconst (k := 0) (pcN := 36) jID_313_35 rfl ?_
  exact jT_ret rfl (by decide) (by show 16 ≤ 16; decide) (by omega) (by omega) ⟨rfl, rfl, rfl⟩
theorem jD_116_17 {xs : List Int} {d : Nat} {x1 x2 : Int} (h_x1 : 1 ≤ x1 ∧ x1 ≤ 30) (h_x2 : 0 ≤ x2 ∧ x2 ≤ 2147483647) (g_0 : -x1 + x2 - 1 < 0) : jT xs d 116 1 0 [(0, (4, 0)), (1, (0, x2)), (2, (0, 0)), (3, (0, x1))] [] [jgh] 0 0 (fun k v hsN => k = 0 ∧ v = (9, 0) ∧ hsN = [jgh] ++ []) := by
  refine jT_xiload_n (v := (0, x2)) (pcN := 1) jID_116_0 rfl rfl rfl ?_
  refine jT_xiload_n (v := (0, 0)) (pcN := 2) jID_116_1 rfl rfl rfl ?_
  refine jT_icF (a := x2) (b := 0) (t := 10) (by rfl) (by rfl) (by rfl) (jw_idd (by omega) (by omega)) (jw_idd (by omega) (by omega)) (by simp only [jcP] <;> omega) ?_
  refine jT_xiload_n (v := (0, x2)) (pcN := 6) jID_116_5 rfl rfl rfl ?_
  refine jT_xiload_n (v := (0, x1)) (pcN := 7) jID_116_6 rfl rfl rfl ?_
  refine jT_icT (a := x2) (b := x1) (t := 21) (by rfl) (by rfl) (by rfl) (jw_idd (by omega) (by omega)) (jw_idd (by omega) (by omega)) (by simp only [jcP] <;> omega) ?_
  exact jT_ret rfl (by decide) (by show 1 ≤ 1; decide) (by omega) (by omega) ⟨rfl, rfl, rfl⟩
theorem jID_170_15 : jmI (jm 170) 15 = (.iconst 0, 1) := by rfl
theorem jID_170_16 : jmI (jm 170) 16 = (.istore_n 3, 1) := by rfl
theorem jID_170_17 : jmI (jm 170) 17 = (.iconst 0, 1) := by rfl
theorem jID_170_18 : jmI (jm 170) 18 = (.istore 4, 2) := by rfl
theorem jD_170_18 {xs : List Int} {d : Nat} {x1 x2 : Int} (h_x1 : 1 ≤ x1 ∧ x1 ≤ 30) (h_x2 : 0 ≤ x2 ∧ x2 ≤ 2147483647) (g_0 : -x1 + x2 - 1 < 0) : jT xs (d + 1) 170 12 0 [(0, (4, 0)), (1, (0, x1)), (2, (0, x2))] [] jpD_8 0 0 (fun k v hsN => k = 0 ∧ v = (0, jrh x1 x2 x1.toNat) ∧ hsN = jpD_8 ++ []) := by
  refine jT_xaload_n (v := (4, 0)) (pcN := 1) jID_170_0 rfl rfl rfl ?_
  refine jT_xiload_n (v := (0, x1)) (pcN := 2) jID_170_1 rfl rfl rfl ?_
  refine jT_xiconst (k := 1) (pcN := 3) jID_170_2 rfl ?_
  refine jT_xbipush (k := 30) (pcN := 5) jID_170_3 (by decide) rfl ?_
  refine jT_fR [0] 12 (y := 116) (pcN := 8) (dC := 0) (bc1 := 0) (bc2 := 0) (c1 := 0) (c2 := 0) (as := [(4, 0), (0, x1), (0, 1), (0, 30)]) (asC := [(4, 0), (0, x1), (0, 1), (0, 30)]) (LN := [(0, (4, 0)), (1, (0, x1)), (2, (0, x2))]) (stN := []) (hsC := [jgh]) (v := (9, 0)) (st2 := []) (jD_116_8 (d := 0) (by omega)) (by rfl) (by rfl) (by decide +kernel) (by rfl) (by rfl) (by omega) (by omega) (by omega) (by omega) rfl ?_
  refine jT_xaload_n (v := (4, 0)) (pcN := 9) jID_170_8 rfl rfl rfl ?_
  refine jT_xiload_n (v := (0, x2)) (pcN := 10) jID_170_9 rfl rfl rfl ?_
  refine jT_xiconst (k := 0) (pcN := 11) jID_170_10 rfl ?_
  refine jT_xiload_n (v := (0, x1)) (pcN := 12) jID_170_11 rfl rfl rfl ?_
  refine jT_fR [0] 12 (y := 116) (pcN := 15) (dC := 0) (bc1 := 0) (bc2 := 0) (c1 := 0) (c2 := 0) (as := [(4, 0), (0, x2), (0, 0), (0, x1)]) (asC := [(4, 0), (0, x2), (0, 0), (0, x1)]) (LN := [(0, (4, 0)), (1, (0, x1)), (2, (0, x2))]) (stN := []) (hsC := [jgh]) (v := (9, 0)) (st2 := []) (jD_116_17 (d := 0) (by omega) (by omega) (by omega)) (by rfl) (by rfl) (by decide +kernel) (by rfl) (by rfl) (by omega) (by omega) (by omega) (by omega) rfl ?_
  refine jT_xiconst (k := 0) (pcN := 16) jID_170_15 rfl ?_
  refine jT_xistore_n (v := (0, 0)) (LN := [(3, (0, 0)), (0, (4, 0)), (1, (0, x1)), (2, (0, x2))]) (pcN := 17) jID_170_16 rfl rfl rfl rfl ?_
  refine jT_xiconst (k := 0) (pcN := 18) jID_170_17 rfl ?_
  refine jT_xistore (v := (0, 0)) (LN := [(4, (0, 0)), (3, (0, 0)), (0, (4, 0)), (1, (0, x1)), (2, (0, x2))]) (pcN := 20) jID_170_18 rfl rfl rfl rfl ?_
  refine jT_loc (LN := [(4, (0, 0)), (3, (0, 0)), (0, (4, 0)), (1, (0, x1)), (2, (0, x2))]) (by show List.Nodup [4, 3, 0, 1, 2]; decide) (by intro q hq; simp only [List.mem_cons, List.not_mem_nil, or_false] at hq; rcases hq with rfl | rfl | rfl | rfl | rfl <;> rfl) ?_
  exact jT.mono (jT_rh170 (d := d) (p := x1) (b := x2) (by show 12 ≤ 12; decide) (by omega) (by omega) x1.toNat 0 0 (by omega) (by omega) rfl) (by omega) (by omega) (by omega) (fun k v hs2 q => ⟨q.1, q.2.1, by rw [q.2.2]; rfl⟩)
theorem jID_368_8 : jmI (jm 368) 8 = (.i2l, 1) := by rfl
theorem jID_368_10 : jmI (jm 368) 10 = (.goto 7, 3) := by rfl
theorem jID_368_17 : jmI (jm 368) 17 = (.iconst 0, 1) := by rfl
def jpD_48 : List JC := [jzD_14, (101, [], [0]), jgh, jgh, jgh, jgh, jgh, jgh, jgh, jgh, jgh, jgh, jgh]
theorem jD_368_19 {xs : List Int} {d : Nat} {x1 x2 : Int} (h_x1 : 1 ≤ x1 ∧ x1 ≤ 30) (h_x2 : 0 ≤ x2 ∧ x2 ≤ 2147483647) (g_0 : -x1 + x2 - 1 < 0) : jT xs (d + 2) 368 13 0 [(0, (4, 0)), (1, (0, x1)), (2, (0, x2)), (3, (4, 1))] [] jpD_48 0 0 (fun k v hsN => k = 0 ∧ v = (0, 0) ∧ hsN = [jzD_14, (101, [], [jrh x1 x2 x1.toNat]), jgh, jgh, jgh, jgh, jgh, jgh, jgh, jgh, jgh, jgh, jgh]) := by
  refine jT_xaload_n (v := (4, 1)) (pcN := 1) jID_368_0 rfl rfl rfl ?_
  refine jT_xiconst (k := 0) (pcN := 2) jID_368_1 rfl ?_
  refine jT_xaload_n (v := (4, 0)) (pcN := 3) jID_368_2 rfl rfl rfl ?_
  refine jT_xiload_n (v := (0, x1)) (pcN := 4) jID_368_3 rfl rfl rfl ?_
  refine jT_xiload_n (v := (0, x2)) (pcN := 5) jID_368_4 rfl rfl rfl ?_
  refine jT_fR [0, 2, 3, 4, 5, 6, 7, 8, 9, 10, 11, 12] 13 (y := 170) (pcN := 8) (dC := 1) (bc1 := 0) (bc2 := 0) (c1 := 0) (c2 := 0) (as := [(4, 0), (0, x1), (0, x2)]) (asC := [(4, 0), (0, x1), (0, x2)]) (LN := [(0, (4, 0)), (1, (0, x1)), (2, (0, x2)), (3, (4, 1))]) (stN := [(0, 0), (4, 1)]) (hsC := jpD_8) (v := (0, jrh x1 x2 x1.toNat)) (st2 := [(0, jrh x1 x2 x1.toNat), (0, 0), (4, 1)]) (jD_170_18 (d := 0) (by omega) (by omega) (by omega)) (by rfl) (by rfl) (by decide +kernel) (by rfl) (by rfl) (by omega) (by omega) (by omega) (by omega) rfl ?_
  have hb_q1 := jrh_b (p := x1) (b := x2) (n := x1.toNat)
  generalize hq_q1 : jrh x1 x2 x1.toNat = q1 at hb_q1 ⊢
  refine jT_xi2l (x := q1) (z := q1) (pcN := 9) jID_368_8 rfl (jw_idd (by omega) (by omega)) rfl ?_
  refine jT_adv 1 (pcN := 10) (LN := [(0, (4, 0)), (1, (0, x1)), (2, (0, x2)), (3, (4, 1))]) (stN := []) (hsN := [jzD_14, (101, [], [q1]), jgh, jgh, jgh, jgh, jgh, jgh, jgh, jgh, jgh, jgh, jgh]) (c1 := 0) (s1 := 0) (c2 := 0) (s2 := 0) (by exact rfl) ?_ (by omega) (by omega)
  refine jT_xgoto (pcN := 17) jID_368_10 rfl ?_
  refine jT_xiconst (k := 0) (pcN := 18) jID_368_17 rfl ?_
  subst hq_q1
  exact jT_ret rfl (by decide) (by show 13 ≤ 13; decide) (by omega) (by omega) ⟨rfl, rfl, rfl⟩
theorem jD_191_20 {xs : List Int} {d : Nat} : jT xs d 191 1 0 [(0, (4, 0)), (1, (0, 1)), (2, (0, 1))] [] [jgh] 0 0 (fun k v hsN => k = 0 ∧ v = (0, 0) ∧ hsN = [jgh] ++ []) := by
  refine jT_advK 5 (pcN := 18) (LN := [(0, (4, 0)), (1, (0, 1)), (2, (0, 1))]) (stN := [(0, 0)]) (hsN := [jgh]) (c1 := 0) (s1 := 0) (c2 := 0) (s2 := 0) (by decide +kernel) ?_ (by omega) (by omega)
  exact jT_ret rfl (by decide) (by show 1 ≤ 1; decide) (by omega) (by omega) ⟨rfl, rfl, rfl⟩
theorem jD_190_21 {xs : List Int} {d : Nat} : jT xs (d + 1) 190 16 0 [(0, (4, 0)), (1, (0, 1))] [] jpD_19 0 0 (fun k v hsN => k = 0 ∧ v = (0, 0) ∧ hsN = jpD_19 ++ []) := by
  refine jT_advK 6 (pcN := 8) (LN := [(0, (4, 0)), (1, (0, 1))]) (stN := [(0, 1), (0, 1), (4, 0)]) (hsN := jpD_19) (c1 := 0) (s1 := 0) (c2 := 0) (s2 := 0) (by decide +kernel) ?_ (by omega) (by omega)
  refine jT_fR [0] 16 (y := 191) (pcN := 11) (dC := 0) (bc1 := 0) (bc2 := 0) (c1 := 0) (c2 := 0) (as := [(4, 0), (0, 1), (0, 1)]) (asC := [(4, 0), (0, 1), (0, 1)]) (LN := [(0, (4, 0)), (1, (0, 1))]) (stN := []) (hsC := [jgh]) (v := (0, 0)) (st2 := [(0, 0)]) (jD_191_20 (d := 0)) (by rfl) (by rfl) (by decide +kernel) (by rfl) (by rfl) (by omega) (by omega) (by omega) (by omega) rfl ?_
  exact jT_ret rfl (by decide) (by show 16 ≤ 16; decide) (by omega) (by omega) ⟨rfl, rfl, rfl⟩
theorem jID_313_24 : jmI (jm 313) 24 = (.iconst 1, 1) := by rfl
theorem jID_313_25 : jmI (jm 313) 25 = (.goto 4, 3) := by rfl
theorem jID_313_37 : jmI (jm 313) 37 = (.iconst 0, 1) := by rfl
theorem jID_313_38 : jmI (jm 313) 38 = (.istore_n 3, 1) := by rfl
theorem jID_313_39 : jmI (jm 313) 39 = (.iconst 0, 1) := by rfl
theorem jID_313_40 : jmI (jm 313) 40 = (.istore 4, 2) := by rfl
theorem jD_313_22 {xs : List Int} {d : Nat} {x1 x2 : Int} (h_x1 : 1 ≤ x1 ∧ x1 ≤ 30) (h_x2 : 0 ≤ x2 ∧ x2 ≤ 2147483647) (g_0 : -x1 + x2 - 1 < 0) : jT xs (d + 2) 313 16 0 [(0, (4, 0)), (1, (0, x1)), (2, (0, x2))] [] jpD_19 0 0 (fun k v hsN => k = 0 ∧ v = (0, jrh x1 x2 x1.toNat) ∧ hsN = jpD_19 ++ []) := by
  refine jT_xaload_n (v := (4, 0)) (pcN := 1) jID_313_0 rfl rfl rfl ?_
  refine jT_xiload_n (v := (0, x1)) (pcN := 2) jID_313_1 rfl rfl rfl ?_
  refine jT_xi2l (x := x1) (z := x1) (pcN := 3) jID_313_2 rfl (jw_idd (by omega) (by omega)) rfl ?_
  refine jT_xlconst (z := 1) (pcN := 4) jID_313_3 rfl rfl ?_
  refine jT_adv 1 (pcN := 7) (LN := [(0, (4, 0)), (1, (0, x1)), (2, (0, x2))]) (stN := [(1, 30), (1, 1), (1, x1), (4, 0)]) (hsN := jpD_19) (c1 := 0) (s1 := 0) (c2 := 0) (s2 := 0) (by exact rfl) ?_ (by omega) (by omega)
  refine jT_fR [] 16 (y := 189) (pcN := 10) (dC := 0) (bc1 := 0) (bc2 := 0) (c1 := 0) (c2 := 0) (as := [(1, x1), (1, 1), (1, 30)]) (asC := [(1, x1), (1, 1), (1, 30)]) (LN := [(0, (4, 0)), (1, (0, x1)), (2, (0, x2))]) (stN := [(4, 0)]) (hsC := []) (v := (0, 1)) (st2 := [(0, 1), (4, 0)]) (jT_in_ok (d := 0) (v := x1) (lo := 1) (hi := 30) (by omega) (by omega) (by omega) (by omega) (by omega)) (by rfl) (by rfl) (by decide +kernel) (by rfl) (by rfl) (by omega) (by omega) (by omega) (by omega) rfl ?_
  refine jT_xifF (t := 28) (pcN := 13) jID_313_10 rfl (by decide +kernel) rfl rfl ?_
  refine jT_xiload_n (v := (0, x2)) (pcN := 14) jID_313_13 rfl rfl rfl ?_
  refine jT_xi2l (x := x2) (z := x2) (pcN := 15) jID_313_14 rfl (jw_idd (by omega) (by omega)) rfl ?_
  refine jT_xlconst (z := 0) (pcN := 16) jID_313_15 rfl rfl ?_
  refine jT_xiload_n (v := (0, x1)) (pcN := 17) jID_313_16 rfl rfl rfl ?_
  refine jT_xi2l (x := x1) (z := x1) (pcN := 18) jID_313_17 rfl (jw_idd (by omega) (by omega)) rfl ?_
  refine jT_fR [] 16 (y := 189) (pcN := 21) (dC := 0) (bc1 := 0) (bc2 := 0) (c1 := 0) (c2 := 0) (as := [(1, x2), (1, 0), (1, x1)]) (asC := [(1, x2), (1, 0), (1, x1)]) (LN := [(0, (4, 0)), (1, (0, x1)), (2, (0, x2))]) (stN := [(4, 0)]) (hsC := []) (v := (0, 1)) (st2 := [(0, 1), (4, 0)]) (jT_in_ok (d := 0) (v := x2) (lo := 0) (hi := x1) (by omega) (by omega) (by omega) (by omega) (by omega)) (by rfl) (by rfl) (by decide +kernel) (by rfl) (by rfl) (by omega) (by omega) (by omega) (by omega) rfl ?_
  refine jT_xifF (t := 28) (pcN := 24) jID_313_21 rfl (by decide +kernel) rfl rfl ?_
  refine jT_xiconst (k := 1) (pcN := 25) jID_313_24 rfl ?_
  refine jT_xgoto (pcN := 29) jID_313_25 rfl ?_
  refine jT_fR [0, 1, 2, 3, 4, 5, 6, 7, 8, 9, 10, 11, 12, 13, 14, 15] 16 (y := 190) (pcN := 32) (dC := 1) (bc1 := 0) (bc2 := 0) (c1 := 0) (c2 := 0) (as := [(4, 0), (0, 1)]) (asC := [(4, 0), (0, 1)]) (LN := [(0, (4, 0)), (1, (0, x1)), (2, (0, x2))]) (stN := []) (hsC := jpD_19) (v := (0, 0)) (st2 := [(0, 0)]) (jD_190_21 (d := 0)) (by rfl) (by rfl) (by decide +kernel) (by rfl) (by rfl) (by omega) (by omega) (by omega) (by omega) rfl ?_
  refine jT_xifT (pcN := 37) jID_313_32 rfl (by decide +kernel) rfl ?_
  refine jT_xiconst (k := 0) (pcN := 38) jID_313_37 rfl ?_
  refine jT_xistore_n (v := (0, 0)) (LN := [(3, (0, 0)), (0, (4, 0)), (1, (0, x1)), (2, (0, x2))]) (pcN := 39) jID_313_38 rfl rfl rfl rfl ?_
  refine jT_xiconst (k := 0) (pcN := 40) jID_313_39 rfl ?_
  refine jT_xistore (v := (0, 0)) (LN := [(4, (0, 0)), (3, (0, 0)), (0, (4, 0)), (1, (0, x1)), (2, (0, x2))]) (pcN := 42) jID_313_40 rfl rfl rfl rfl ?_
  refine jT_loc (LN := [(4, (0, 0)), (3, (0, 0)), (0, (4, 0)), (1, (0, x1)), (2, (0, x2))]) (by show List.Nodup [4, 3, 0, 1, 2]; decide) (by intro q hq; simp only [List.mem_cons, List.not_mem_nil, or_false] at hq; rcases hq with rfl | rfl | rfl | rfl | rfl <;> rfl) ?_
  exact jT.mono (jT_rh313 (d := d) (p := x1) (b := x2) (by show 16 ≤ 16; decide) (by omega) (by omega) x1.toNat 0 0 (by omega) (by omega) rfl) (by omega) (by omega) (by omega) (fun k v hs2 q => ⟨q.1, q.2.1, by rw [q.2.2]; rfl⟩)
theorem jD_186_23 {xs : List Int} {d : Nat} : jT xs d 186 16 0 [(0, (4, 0))] [] jpD_19 0 0 (fun k v hsN => k = 0 ∧ v = (0, 0) ∧ hsN = jpD_19 ++ []) := by
  refine jT_advK 2 (pcN := 4) (LN := [(0, (4, 0))]) (stN := [(0, 0)]) (hsN := jpD_19) (c1 := 0) (s1 := 0) (c2 := 0) (s2 := 0) (by decide +kernel) ?_ (by omega) (by omega)
  exact jT_ret rfl (by decide) (by show 16 ≤ 16; decide) (by omega) (by omega) ⟨rfl, rfl, rfl⟩
theorem jD_116_24 {xs : List Int} {d : Nat} {x1 : Int} (h_x1 : 31 ≤ x1 ∧ x1 ≤ 2147483647) : jT xs d 116 1 0 [(0, (4, 0)), (1, (0, x1)), (2, (0, 1)), (3, (0, 30))] [] [jgh] 1 6 (fun k v hsN => k = 1 ∧ v = (0, 1) ∧ hsN = [jgh] ++ []) := by
  refine jT_xiload_n (v := (0, x1)) (pcN := 1) jID_116_0 rfl rfl rfl ?_
  refine jT_xiload_n (v := (0, 1)) (pcN := 2) jID_116_1 rfl rfl rfl ?_
  refine jT_icF (a := x1) (b := 1) (t := 10) (by rfl) (by rfl) (by rfl) (jw_idd (by omega) (by omega)) (jw_idd (by omega) (by omega)) (by simp only [jcP] <;> omega) ?_
  refine jT_xiload_n (v := (0, x1)) (pcN := 6) jID_116_5 rfl rfl rfl ?_
  refine jT_xiload_n (v := (0, 30)) (pcN := 7) jID_116_6 rfl rfl rfl ?_
  refine jT_icF (a := x1) (b := 30) (t := 21) (by rfl) (by rfl) (by rfl) (jw_idd (by omega) (by omega)) (jw_idd (by omega) (by omega)) (by simp only [jcP] <;> omega) ?_
  exact jT_ret (c1 := 1) (s1 := 6) rfl (by decide) (by show 1 ≤ 1; decide) (by omega) (by omega) ⟨rfl, rfl, rfl⟩
theorem jD_170_25 {xs : List Int} {d : Nat} {x1 x2 : Int} (h_x1 : 31 ≤ x1 ∧ x1 ≤ 2147483647) (h_x2 : (-2147483648) ≤ x2 ∧ x2 ≤ 2147483647) : jT xs (d + 1) 170 12 0 [(0, (4, 0)), (1, (0, x1)), (2, (0, x2))] [] jpD_8 1 6 (fun k v hsN => k = 1 ∧ v = (0, 1) ∧ hsN = jpD_8 ++ []) := by
  refine jT_xaload_n (v := (4, 0)) (pcN := 1) jID_170_0 rfl rfl rfl ?_
  refine jT_xiload_n (v := (0, x1)) (pcN := 2) jID_170_1 rfl rfl rfl ?_
  refine jT_xiconst (k := 1) (pcN := 3) jID_170_2 rfl ?_
  refine jT_xbipush (k := 30) (pcN := 5) jID_170_3 (by decide) rfl ?_
  exact jT_fX [0] 12 (y := 116) (pcN := 8) (dC := 0) (bc1 := 1) (bc2 := 6) (as := [(4, 0), (0, x1), (0, 1), (0, 30)]) (asC := [(4, 0), (0, x1), (0, 1), (0, 30)]) (LN := [(0, (4, 0)), (1, (0, x1)), (2, (0, x2))]) (stN := []) (hsC := [jgh]) (e := 1) (jD_116_24 (d := 0) (by omega)) (by rfl) (by rfl) (by decide +kernel) (by rfl) (by rfl) (by omega) (by omega) (by omega) (by omega) ⟨rfl, ⟨rfl, rfl, rfl⟩⟩
theorem jD_368_26 {xs : List Int} {d : Nat} {x1 x2 : Int} (h_x1 : 31 ≤ x1 ∧ x1 ≤ 2147483647) (h_x2 : (-2147483648) ≤ x2 ∧ x2 ≤ 2147483647) : jT xs (d + 2) 368 13 0 [(0, (4, 0)), (1, (0, x1)), (2, (0, x2)), (3, (4, 1))] [] jpD_15 1 6 (fun k v hsN => k = 0 ∧ v = (0, 1) ∧ hsN = jpD_15 ++ []) := by
  refine jT_xaload_n (v := (4, 1)) (pcN := 1) jID_368_0 rfl rfl rfl ?_
  refine jT_xiconst (k := 0) (pcN := 2) jID_368_1 rfl ?_
  refine jT_xaload_n (v := (4, 0)) (pcN := 3) jID_368_2 rfl rfl rfl ?_
  refine jT_xiload_n (v := (0, x1)) (pcN := 4) jID_368_3 rfl rfl rfl ?_
  refine jT_xiload_n (v := (0, x2)) (pcN := 5) jID_368_4 rfl rfl rfl ?_
  exact jT_fX [0, 2, 3, 4, 5, 6, 7, 8, 9, 10, 11, 12] 13 (y := 170) (pcN := 8) (dC := 1) (bc1 := 1) (bc2 := 6) (as := [(4, 0), (0, x1), (0, x2)]) (asC := [(4, 0), (0, x1), (0, x2)]) (LN := [(0, (4, 0)), (1, (0, x1)), (2, (0, x2)), (3, (4, 1))]) (stN := [(0, 0), (4, 1)]) (hsC := jpD_8) (e := 1) (jD_170_25 (d := 0) (by omega) (by omega)) (by rfl) (by rfl) (by decide +kernel) (by rfl) (by rfl) (by omega) (by omega) (by omega) (by omega) (show _ from ⟨rfl, rfl, rfl⟩)
theorem jD_313_27 {xs : List Int} {d : Nat} {x1 x2 : Int} (h_x1 : 31 ≤ x1 ∧ x1 ≤ 2147483647) (h_x2 : (-2147483648) ≤ x2 ∧ x2 ≤ 2147483647) : jT xs (d + 2) 313 16 0 [(0, (4, 0)), (1, (0, x1)), (2, (0, x2))] [] jpD_19 0 0 (fun k v hsN => k = 0 ∧ v = (0, 0) ∧ hsN = jpD_17) := by
  refine jT_xaload_n (v := (4, 0)) (pcN := 1) jID_313_0 rfl rfl rfl ?_
  refine jT_xiload_n (v := (0, x1)) (pcN := 2) jID_313_1 rfl rfl rfl ?_
  refine jT_xi2l (x := x1) (z := x1) (pcN := 3) jID_313_2 rfl (jw_idd (by omega) (by omega)) rfl ?_
  refine jT_xlconst (z := 1) (pcN := 4) jID_313_3 rfl rfl ?_
  refine jT_adv 1 (pcN := 7) (LN := [(0, (4, 0)), (1, (0, x1)), (2, (0, x2))]) (stN := [(1, 30), (1, 1), (1, x1), (4, 0)]) (hsN := jpD_19) (c1 := 0) (s1 := 0) (c2 := 0) (s2 := 0) (by exact rfl) ?_ (by omega) (by omega)
  refine jT_fR [] 16 (y := 189) (pcN := 10) (dC := 0) (bc1 := 0) (bc2 := 0) (c1 := 0) (c2 := 0) (as := [(1, x1), (1, 1), (1, 30)]) (asC := [(1, x1), (1, 1), (1, 30)]) (LN := [(0, (4, 0)), (1, (0, x1)), (2, (0, x2))]) (stN := [(4, 0)]) (hsC := []) (v := (0, 0)) (st2 := [(0, 0), (4, 0)]) (jT_in_hi (d := 0) (v := x1) (lo := 1) (hi := 30) (by omega) (by omega) (by omega) (by omega) (by omega)) (by rfl) (by rfl) (by decide +kernel) (by rfl) (by rfl) (by omega) (by omega) (by omega) (by omega) rfl ?_
  refine jT_xifT (pcN := 28) jID_313_10 rfl (by decide +kernel) rfl ?_
  refine jT_xiconst (k := 0) (pcN := 29) jID_313_28 rfl ?_
  refine jT_fB [0, 1, 2, 3, 4, 5, 6, 7, 8, 9, 10, 11, 12, 13, 14, 15] 16 (y := 190) (pcN := 32) (dC := 1) (bc1 := 0) (bc2 := 0) (c1 := 0) (c2 := 0) (as := [(4, 0), (0, 0)]) (asC := [(4, 0), (0, 0)]) (LN := [(0, (4, 0)), (1, (0, x1)), (2, (0, x2))]) (stN := []) (hsC := jpD_19) (hsD := jpD_17) (v := (0, 1)) (st2 := [(0, 1)]) (hs2 := jpD_17) (jD_190_5 (d := 0)) (by rfl) (by rfl) (by decide +kernel) (by rfl) (by rfl) (by omega) (by omega) (by omega) (by omega) rfl (by decide +kernel) ?_
  refine jT_xifF (t := 37) (pcN := 35) jID_313_32 rfl (by decide +kernel) rfl rfl ?_
  refine jT_xiconst (k := 0) (pcN := 36) jID_313_35 rfl ?_
  exact jT_ret rfl (by decide) (by show 16 ≤ 16; decide) (by omega) (by omega) ⟨rfl, rfl, rfl⟩
theorem jID_379_3358 : jmI (jm 379) 3358 = (.aload_n 1, 1) := by rfl
theorem jID_379_3359 : jmI (jm 379) 3359 = (.aload_n 0, 1) := by rfl
theorem jID_379_3360 : jmI (jm 379) 3360 = (.iload 5, 2) := by rfl
theorem jID_379_3362 : jmI (jm 379) 3362 = (.iconst 1, 1) := by rfl
theorem jID_379_3363 : jmI (jm 379) 3363 = (.iadd, 1) := by rfl
def jzD_60 : JC := (13, [(4, 4), (4, 5), (4, 6), (4, 7), (4, 8), (4, 9), (4, 10), (4, 11), (4, 12), (4, 13), (0, 0), (4, 14), (0, 0)], [])
def jzD_61 : JC := (14, [(0, 0), (4, 15), (4, 16), (4, 17), (4, 18), (0, 0), (4, 19), (0, 0), (4, 20), (4, 21), (1, 1), (4, 22), (0, 0), (4, 23), (0, 0), (0, 0), (0, 0), (0, 0), (0, 0), (0, 0), (0, 0), (4, 24), (4, 25), (4, 26), (4, 27), (4, 28), (4, 29), (0, 0)], [])
def jpD_62 : List JC := [jzD_60, jzD_61, jgh, jgh, jgh, jgh, jgh, jgh, jgh, jgh, jgh, jgh, jgh, jgh, jgh, jgh, jgh, jgh, jgh, jgh, jgh, jgh, jgh, jgh, jgh, jgh, jgh, jgh, jgh, jgh]
theorem jID_379_3365 : jmI (jm 379) 3365 = (.aload_n 0, 1) := by rfl
theorem jID_379_3366 : jmI (jm 379) 3366 = (.iload 5, 2) := by rfl
theorem jID_379_3368 : jmI (jm 379) 3368 = (.iconst 2, 1) := by rfl
theorem jID_379_3369 : jmI (jm 379) 3369 = (.iadd, 1) := by rfl
theorem jID_379_3371 : jmI (jm 379) 3371 = (.aload_n 3, 1) := by rfl
theorem jID_379_3375 : jmI (jm 379) 3375 = (.istore 6, 2) := by rfl
theorem jID_379_3377 : jmI (jm 379) 3377 = (.aload_n 2, 1) := by rfl
theorem jID_379_3378 : jmI (jm 379) 3378 = (.aload_n 0, 1) := by rfl
theorem jID_379_3379 : jmI (jm 379) 3379 = (.iload 5, 2) := by rfl
theorem jID_379_3381 : jmI (jm 379) 3381 = (.iconst 1, 1) := by rfl
theorem jID_379_3382 : jmI (jm 379) 3382 = (.iadd, 1) := by rfl
theorem jID_379_3384 : jmI (jm 379) 3384 = (.aload_n 0, 1) := by rfl
theorem jID_379_3385 : jmI (jm 379) 3385 = (.iload 5, 2) := by rfl
theorem jID_379_3387 : jmI (jm 379) 3387 = (.iconst 2, 1) := by rfl
theorem jID_379_3388 : jmI (jm 379) 3388 = (.iadd, 1) := by rfl
def jzD_78 : JC := (14, [(0, 1), (4, 15), (4, 16), (4, 17), (4, 18), (0, 0), (4, 19), (0, 0), (4, 20), (4, 21), (1, 1), (4, 22), (0, 0), (4, 23), (0, 0), (0, 0), (0, 0), (0, 0), (0, 0), (0, 0), (0, 0), (4, 24), (4, 25), (4, 26), (4, 27), (4, 28), (4, 29), (0, 0)], [])
def jpD_79 : List JC := [jzD_60, jzD_78, jgh, jgh, jgh, jgh, jgh, jgh, jgh, jgh, jgh, jgh, jgh, jgh, jgh, jgh, jgh, jgh, jgh, jgh, jgh, jgh, jgh, jgh, jgh, jgh, jgh, jgh, jgh, jgh]
theorem jID_379_3393 : jmI (jm 379) 3393 = (.istore 7, 2) := by rfl
theorem jID_379_3395 : jmI (jm 379) 3395 = (.aload_n 2, 1) := by rfl
theorem jID_379_3399 : jmI (jm 379) 3399 = (.iload 6, 2) := by rfl
theorem jID_379_3401 : jmI (jm 379) 3401 = (.if_icmp .eq 5, 3) := by rfl
theorem jID_379_3406 : jmI (jm 379) 3406 = (.iload 6, 2) := by rfl
theorem jID_379_3408 : jmI (jm 379) 3408 = (.ifCond .ne 15, 3) := by rfl
theorem jID_379_3423 : jmI (jm 379) 3423 = (.goto 317, 3) := by rfl
theorem jID_379_3740 : jmI (jm 379) 3740 = (.iinc 5 5, 3) := by rfl
theorem jID_379_3743 : jmI (jm 379) 3743 = (.goto (-3715), 3) := by rfl
theorem jID_379_28 : jmI (jm 379) 28 = (.iload 5, 2) := by rfl
theorem jID_379_30 : jmI (jm 379) 30 = (.aload_n 0, 1) := by rfl
theorem jID_379_32 : jmI (jm 379) 32 = (.iconst 5, 1) := by rfl
theorem jID_379_33 : jmI (jm 379) 33 = (.isub, 1) := by rfl
theorem jID_379_34 : jmI (jm 379) 34 = (.if_icmp .gt 3712, 3) := by rfl
theorem jID_379_3746 : jmI (jm 379) 3746 = (.iconst 1, 1) := by rfl
set_option maxRecDepth 100000 in
theorem jL_46_0 {d : Nat} {x0 x1 x2 x3 x4 : Int} (h_x0 : (-2147483648) ≤ x0 ∧ x0 ≤ 2147483647) (h_x1 : (-2147483648) ≤ x1 ∧ x1 ≤ 0) (h_x2 : (-2147483648) ≤ x2 ∧ x2 ≤ 2147483647) (h_x3 : (-2147483648) ≤ x3 ∧ x3 ≤ 2147483647) (h_x4 : (-2147483648) ≤ x4 ∧ x4 ≤ 2147483647) : jT [x0, x1, x2, x3, x4] (d + 3) 379 30 3358 [(5, (0, 0)), (4, (4, 3)), (3, (4, 2)), (2, (4, 1)), (1, (4, 0)), (0, (6, 0))] [] jpD_62 1 6 (fun k v hsN => k = 0 ∧ v = (0, 1)) := by
  refine jT_xaload_n (v := (4, 0)) (pcN := 3359) jID_379_3358 rfl rfl rfl ?_
  refine jT_xaload_n (v := (6, 0)) (pcN := 3360) jID_379_3359 rfl rfl rfl ?_
  refine jT_xiload (v := (0, 0)) (pcN := 3362) jID_379_3360 rfl rfl rfl ?_
  refine jT_xiconst (k := 1) (pcN := 3363) jID_379_3362 rfl ?_
  refine jT_xiadd (x := 0) (y := 1) (z := 1) (pcN := 3364) jID_379_3363 rfl (by decide) rfl ?_
  refine jT_adv 1 (pcN := 3365) (LN := [(5, (0, 0)), (4, (4, 3)), (3, (4, 2)), (2, (4, 1)), (1, (4, 0)), (0, (6, 0))]) (stN := [(0, x1), (4, 0)]) (hsN := jpD_62) (c1 := 0) (s1 := 0) (c2 := 1) (s2 := 6) (by exact rfl) ?_ (by omega) (by omega)
  refine jT_xaload_n (v := (6, 0)) (pcN := 3366) jID_379_3365 rfl rfl rfl ?_
  refine jT_xiload (v := (0, 0)) (pcN := 3368) jID_379_3366 rfl rfl rfl ?_
  refine jT_xiconst (k := 2) (pcN := 3369) jID_379_3368 rfl ?_
  refine jT_xiadd (x := 0) (y := 2) (z := 2) (pcN := 3370) jID_379_3369 rfl (by decide) rfl ?_
  refine jT_adv 1 (pcN := 3371) (LN := [(5, (0, 0)), (4, (4, 3)), (3, (4, 2)), (2, (4, 1)), (1, (4, 0)), (0, (6, 0))]) (stN := [(0, x2), (0, x1), (4, 0)]) (hsN := jpD_62) (c1 := 0) (s1 := 0) (c2 := 1) (s2 := 6) (by exact rfl) ?_ (by omega) (by omega)
  refine jT_xaload_n (v := (4, 2)) (pcN := 3372) jID_379_3371 rfl rfl rfl ?_
  refine jT_fR [0, 2, 4, 5, 6, 7, 8, 9, 10, 11, 12, 13, 14] 30 (y := 368) (pcN := 3375) (dC := 2) (bc1 := 1) (bc2 := 6) (c1 := 0) (c2 := 0) (as := [(4, 0), (0, x1), (0, x2), (4, 2)]) (asC := [(4, 0), (0, x1), (0, x2), (4, 1)]) (LN := [(5, (0, 0)), (4, (4, 3)), (3, (4, 2)), (2, (4, 1)), (1, (4, 0)), (0, (6, 0))]) (stN := []) (hsC := jpD_15) (v := (0, 1)) (st2 := [(0, 1)]) (jD_368_3 (d := 0) (by omega) (by omega)) (by rfl) (by rfl) (by decide +kernel) (by rfl) (by rfl) (by omega) (by omega) (by omega) (by omega) rfl ?_
  refine jT_xistore (v := (0, 1)) (LN := [(6, (0, 1)), (5, (0, 0)), (4, (4, 3)), (3, (4, 2)), (2, (4, 1)), (1, (4, 0)), (0, (6, 0))]) (pcN := 3377) jID_379_3375 rfl rfl rfl rfl ?_
  refine jT_xaload_n (v := (4, 1)) (pcN := 3378) jID_379_3377 rfl rfl rfl ?_
  refine jT_xaload_n (v := (6, 0)) (pcN := 3379) jID_379_3378 rfl rfl rfl ?_
  refine jT_xiload (v := (0, 0)) (pcN := 3381) jID_379_3379 rfl rfl rfl ?_
  refine jT_xiconst (k := 1) (pcN := 3382) jID_379_3381 rfl ?_
  refine jT_xiadd (x := 0) (y := 1) (z := 1) (pcN := 3383) jID_379_3382 rfl (by decide) rfl ?_
  refine jT_adv 1 (pcN := 3384) (LN := [(6, (0, 1)), (5, (0, 0)), (4, (4, 3)), (3, (4, 2)), (2, (4, 1)), (1, (4, 0)), (0, (6, 0))]) (stN := [(0, x1), (4, 1)]) (hsN := jpD_62) (c1 := 0) (s1 := 0) (c2 := 0) (s2 := 0) (by exact rfl) ?_ (by omega) (by omega)
  refine jT_xaload_n (v := (6, 0)) (pcN := 3385) jID_379_3384 rfl rfl rfl ?_
  refine jT_xiload (v := (0, 0)) (pcN := 3387) jID_379_3385 rfl rfl rfl ?_
  refine jT_xiconst (k := 2) (pcN := 3388) jID_379_3387 rfl ?_
  refine jT_xiadd (x := 0) (y := 2) (z := 2) (pcN := 3389) jID_379_3388 rfl (by decide) rfl ?_
  refine jT_adv 1 (pcN := 3390) (LN := [(6, (0, 1)), (5, (0, 0)), (4, (4, 3)), (3, (4, 2)), (2, (4, 1)), (1, (4, 0)), (0, (6, 0))]) (stN := [(0, x2), (0, x1), (4, 1)]) (hsN := jpD_62) (c1 := 0) (s1 := 0) (c2 := 0) (s2 := 0) (by exact rfl) ?_ (by omega) (by omega)
  refine jT_fB [1, 15, 16, 17, 18, 19, 20, 21, 22, 23, 24, 25, 26, 27, 28, 29] 30 (y := 313) (pcN := 3393) (dC := 2) (bc1 := 0) (bc2 := 0) (c1 := 0) (c2 := 0) (as := [(4, 1), (0, x1), (0, x2)]) (asC := [(4, 0), (0, x1), (0, x2)]) (LN := [(6, (0, 1)), (5, (0, 0)), (4, (4, 3)), (3, (4, 2)), (2, (4, 1)), (1, (4, 0)), (0, (6, 0))]) (stN := []) (hsC := jpD_19) (hsD := jpD_17) (v := (0, 0)) (st2 := [(0, 0)]) (hs2 := jpD_79) (jD_313_6 (d := 0) (by omega) (by omega)) (by rfl) (by rfl) (by decide +kernel) (by rfl) (by rfl) (by omega) (by omega) (by omega) (by omega) rfl (by decide +kernel) ?_
  refine jT_xistore (v := (0, 0)) (LN := [(7, (0, 0)), (6, (0, 1)), (5, (0, 0)), (4, (4, 3)), (3, (4, 2)), (2, (4, 1)), (1, (4, 0)), (0, (6, 0))]) (pcN := 3395) jID_379_3393 rfl rfl rfl rfl ?_
  refine jT_xaload_n (v := (4, 1)) (pcN := 3396) jID_379_3395 rfl rfl rfl ?_
  refine jT_fR [1, 15, 16, 17, 18, 19, 20, 21, 22, 23, 24, 25, 26, 27, 28, 29] 30 (y := 186) (pcN := 3399) (dC := 0) (bc1 := 0) (bc2 := 0) (c1 := 0) (c2 := 0) (as := [(4, 1)]) (asC := [(4, 0)]) (LN := [(7, (0, 0)), (6, (0, 1)), (5, (0, 0)), (4, (4, 3)), (3, (4, 2)), (2, (4, 1)), (1, (4, 0)), (0, (6, 0))]) (stN := []) (hsC := jpD_17) (v := (0, 1)) (st2 := [(0, 1)]) (jD_186_7 (d := 0)) (by rfl) (by rfl) (by decide +kernel) (by rfl) (by rfl) (by omega) (by omega) (by omega) (by omega) rfl ?_
  refine jT_xiload (v := (0, 1)) (pcN := 3401) jID_379_3399 rfl rfl rfl ?_
  refine jT_xicT (pcN := 3406) jID_379_3401 rfl (by decide +kernel) rfl ?_
  refine jT_xiload (v := (0, 1)) (pcN := 3408) jID_379_3406 rfl rfl rfl ?_
  refine jT_xifT (pcN := 3423) jID_379_3408 rfl (by decide +kernel) rfl ?_
  refine jT_xgoto (pcN := 3740) jID_379_3423 rfl ?_
  refine jT_xiinc (x := 0) (z := 5) (LN := [(5, (0, 5)), (7, (0, 0)), (6, (0, 1)), (4, (4, 3)), (3, (4, 2)), (2, (4, 1)), (1, (4, 0)), (0, (6, 0))]) (pcN := 3743) jID_379_3740 rfl rfl (by decide) rfl rfl ?_
  refine jT_xgoto (pcN := 28) jID_379_3743 rfl ?_
  refine jT_xiload (v := (0, 5)) (pcN := 30) jID_379_28 rfl rfl rfl ?_
  refine jT_xaload_n (v := (6, 0)) (pcN := 31) jID_379_30 rfl rfl rfl ?_
  refine jT_adv 1 (pcN := 32) (LN := [(5, (0, 5)), (7, (0, 0)), (6, (0, 1)), (4, (4, 3)), (3, (4, 2)), (2, (4, 1)), (1, (4, 0)), (0, (6, 0))]) (stN := [(0, 5), (0, 5)]) (hsN := jpD_79) (c1 := 0) (s1 := 0) (c2 := 0) (s2 := 0) (by exact rfl) ?_ (by omega) (by omega)
  refine jT_xiconst (k := 5) (pcN := 33) jID_379_32 rfl ?_
  refine jT_xisub (x := 5) (y := 5) (z := 0) (pcN := 34) jID_379_33 rfl (by decide) rfl ?_
  refine jT_xicT (pcN := 3746) jID_379_34 rfl (by decide +kernel) rfl ?_
  refine jT_xiconst (k := 1) (pcN := 3747) jID_379_3746 rfl ?_
  exact jT_ret rfl (by decide) (by show 30 ≤ 30; decide) (by omega) (by omega) ⟨rfl, rfl⟩
set_option maxRecDepth 100000 in
theorem jL_46_1 {d : Nat} {x0 x1 x2 x3 x4 : Int} (h_x0 : (-2147483648) ≤ x0 ∧ x0 ≤ 2147483647) (h_x1 : 1 ≤ x1 ∧ x1 ≤ 30) (h_x2 : (-2147483648) ≤ x2 ∧ x2 ≤ (-1)) (h_x3 : (-2147483648) ≤ x3 ∧ x3 ≤ 2147483647) (h_x4 : (-2147483648) ≤ x4 ∧ x4 ≤ 2147483647) : jT [x0, x1, x2, x3, x4] (d + 3) 379 30 3358 [(5, (0, 0)), (4, (4, 3)), (3, (4, 2)), (2, (4, 1)), (1, (4, 0)), (0, (6, 0))] [] jpD_62 1 6 (fun k v hsN => k = 0 ∧ v = (0, 1)) := by
  refine jT_xaload_n (v := (4, 0)) (pcN := 3359) jID_379_3358 rfl rfl rfl ?_
  refine jT_xaload_n (v := (6, 0)) (pcN := 3360) jID_379_3359 rfl rfl rfl ?_
  refine jT_xiload (v := (0, 0)) (pcN := 3362) jID_379_3360 rfl rfl rfl ?_
  refine jT_xiconst (k := 1) (pcN := 3363) jID_379_3362 rfl ?_
  refine jT_xiadd (x := 0) (y := 1) (z := 1) (pcN := 3364) jID_379_3363 rfl (by decide) rfl ?_
  refine jT_adv 1 (pcN := 3365) (LN := [(5, (0, 0)), (4, (4, 3)), (3, (4, 2)), (2, (4, 1)), (1, (4, 0)), (0, (6, 0))]) (stN := [(0, x1), (4, 0)]) (hsN := jpD_62) (c1 := 0) (s1 := 0) (c2 := 1) (s2 := 6) (by exact rfl) ?_ (by omega) (by omega)
  refine jT_xaload_n (v := (6, 0)) (pcN := 3366) jID_379_3365 rfl rfl rfl ?_
  refine jT_xiload (v := (0, 0)) (pcN := 3368) jID_379_3366 rfl rfl rfl ?_
  refine jT_xiconst (k := 2) (pcN := 3369) jID_379_3368 rfl ?_
  refine jT_xiadd (x := 0) (y := 2) (z := 2) (pcN := 3370) jID_379_3369 rfl (by decide) rfl ?_
  refine jT_adv 1 (pcN := 3371) (LN := [(5, (0, 0)), (4, (4, 3)), (3, (4, 2)), (2, (4, 1)), (1, (4, 0)), (0, (6, 0))]) (stN := [(0, x2), (0, x1), (4, 0)]) (hsN := jpD_62) (c1 := 0) (s1 := 0) (c2 := 1) (s2 := 6) (by exact rfl) ?_ (by omega) (by omega)
  refine jT_xaload_n (v := (4, 2)) (pcN := 3372) jID_379_3371 rfl rfl rfl ?_
  refine jT_fR [0, 2, 4, 5, 6, 7, 8, 9, 10, 11, 12, 13, 14] 30 (y := 368) (pcN := 3375) (dC := 2) (bc1 := 1) (bc2 := 6) (c1 := 0) (c2 := 0) (as := [(4, 0), (0, x1), (0, x2), (4, 2)]) (asC := [(4, 0), (0, x1), (0, x2), (4, 1)]) (LN := [(5, (0, 0)), (4, (4, 3)), (3, (4, 2)), (2, (4, 1)), (1, (4, 0)), (0, (6, 0))]) (stN := []) (hsC := jpD_15) (v := (0, 1)) (st2 := [(0, 1)]) (jD_368_11 (d := 0) (by omega) (by omega)) (by rfl) (by rfl) (by decide +kernel) (by rfl) (by rfl) (by omega) (by omega) (by omega) (by omega) rfl ?_
  refine jT_xistore (v := (0, 1)) (LN := [(6, (0, 1)), (5, (0, 0)), (4, (4, 3)), (3, (4, 2)), (2, (4, 1)), (1, (4, 0)), (0, (6, 0))]) (pcN := 3377) jID_379_3375 rfl rfl rfl rfl ?_
  refine jT_xaload_n (v := (4, 1)) (pcN := 3378) jID_379_3377 rfl rfl rfl ?_
  refine jT_xaload_n (v := (6, 0)) (pcN := 3379) jID_379_3378 rfl rfl rfl ?_
  refine jT_xiload (v := (0, 0)) (pcN := 3381) jID_379_3379 rfl rfl rfl ?_
  refine jT_xiconst (k := 1) (pcN := 3382) jID_379_3381 rfl ?_
  refine jT_xiadd (x := 0) (y := 1) (z := 1) (pcN := 3383) jID_379_3382 rfl (by decide) rfl ?_
  refine jT_adv 1 (pcN := 3384) (LN := [(6, (0, 1)), (5, (0, 0)), (4, (4, 3)), (3, (4, 2)), (2, (4, 1)), (1, (4, 0)), (0, (6, 0))]) (stN := [(0, x1), (4, 1)]) (hsN := jpD_62) (c1 := 0) (s1 := 0) (c2 := 0) (s2 := 0) (by exact rfl) ?_ (by omega) (by omega)
  refine jT_xaload_n (v := (6, 0)) (pcN := 3385) jID_379_3384 rfl rfl rfl ?_
  refine jT_xiload (v := (0, 0)) (pcN := 3387) jID_379_3385 rfl rfl rfl ?_
  refine jT_xiconst (k := 2) (pcN := 3388) jID_379_3387 rfl ?_
  refine jT_xiadd (x := 0) (y := 2) (z := 2) (pcN := 3389) jID_379_3388 rfl (by decide) rfl ?_
  refine jT_adv 1 (pcN := 3390) (LN := [(6, (0, 1)), (5, (0, 0)), (4, (4, 3)), (3, (4, 2)), (2, (4, 1)), (1, (4, 0)), (0, (6, 0))]) (stN := [(0, x2), (0, x1), (4, 1)]) (hsN := jpD_62) (c1 := 0) (s1 := 0) (c2 := 0) (s2 := 0) (by exact rfl) ?_ (by omega) (by omega)
  refine jT_fB [1, 15, 16, 17, 18, 19, 20, 21, 22, 23, 24, 25, 26, 27, 28, 29] 30 (y := 313) (pcN := 3393) (dC := 2) (bc1 := 0) (bc2 := 0) (c1 := 0) (c2 := 0) (as := [(4, 1), (0, x1), (0, x2)]) (asC := [(4, 0), (0, x1), (0, x2)]) (LN := [(6, (0, 1)), (5, (0, 0)), (4, (4, 3)), (3, (4, 2)), (2, (4, 1)), (1, (4, 0)), (0, (6, 0))]) (stN := []) (hsC := jpD_19) (hsD := jpD_17) (v := (0, 0)) (st2 := [(0, 0)]) (hs2 := jpD_79) (jD_313_12 (d := 0) (by omega) (by omega)) (by rfl) (by rfl) (by decide +kernel) (by rfl) (by rfl) (by omega) (by omega) (by omega) (by omega) rfl (by decide +kernel) ?_
  refine jT_xistore (v := (0, 0)) (LN := [(7, (0, 0)), (6, (0, 1)), (5, (0, 0)), (4, (4, 3)), (3, (4, 2)), (2, (4, 1)), (1, (4, 0)), (0, (6, 0))]) (pcN := 3395) jID_379_3393 rfl rfl rfl rfl ?_
  refine jT_xaload_n (v := (4, 1)) (pcN := 3396) jID_379_3395 rfl rfl rfl ?_
  refine jT_fR [1, 15, 16, 17, 18, 19, 20, 21, 22, 23, 24, 25, 26, 27, 28, 29] 30 (y := 186) (pcN := 3399) (dC := 0) (bc1 := 0) (bc2 := 0) (c1 := 0) (c2 := 0) (as := [(4, 1)]) (asC := [(4, 0)]) (LN := [(7, (0, 0)), (6, (0, 1)), (5, (0, 0)), (4, (4, 3)), (3, (4, 2)), (2, (4, 1)), (1, (4, 0)), (0, (6, 0))]) (stN := []) (hsC := jpD_17) (v := (0, 1)) (st2 := [(0, 1)]) (jD_186_7 (d := 0)) (by rfl) (by rfl) (by decide +kernel) (by rfl) (by rfl) (by omega) (by omega) (by omega) (by omega) rfl ?_
  refine jT_xiload (v := (0, 1)) (pcN := 3401) jID_379_3399 rfl rfl rfl ?_
  refine jT_xicT (pcN := 3406) jID_379_3401 rfl (by decide +kernel) rfl ?_
  refine jT_xiload (v := (0, 1)) (pcN := 3408) jID_379_3406 rfl rfl rfl ?_
  refine jT_xifT (pcN := 3423) jID_379_3408 rfl (by decide +kernel) rfl ?_
  refine jT_xgoto (pcN := 3740) jID_379_3423 rfl ?_
  refine jT_xiinc (x := 0) (z := 5) (LN := [(5, (0, 5)), (7, (0, 0)), (6, (0, 1)), (4, (4, 3)), (3, (4, 2)), (2, (4, 1)), (1, (4, 0)), (0, (6, 0))]) (pcN := 3743) jID_379_3740 rfl rfl (by decide) rfl rfl ?_
  refine jT_xgoto (pcN := 28) jID_379_3743 rfl ?_
  refine jT_xiload (v := (0, 5)) (pcN := 30) jID_379_28 rfl rfl rfl ?_
  refine jT_xaload_n (v := (6, 0)) (pcN := 31) jID_379_30 rfl rfl rfl ?_
  refine jT_adv 1 (pcN := 32) (LN := [(5, (0, 5)), (7, (0, 0)), (6, (0, 1)), (4, (4, 3)), (3, (4, 2)), (2, (4, 1)), (1, (4, 0)), (0, (6, 0))]) (stN := [(0, 5), (0, 5)]) (hsN := jpD_79) (c1 := 0) (s1 := 0) (c2 := 0) (s2 := 0) (by exact rfl) ?_ (by omega) (by omega)
  refine jT_xiconst (k := 5) (pcN := 33) jID_379_32 rfl ?_
  refine jT_xisub (x := 5) (y := 5) (z := 0) (pcN := 34) jID_379_33 rfl (by decide) rfl ?_
  refine jT_xicT (pcN := 3746) jID_379_34 rfl (by decide +kernel) rfl ?_
  refine jT_xiconst (k := 1) (pcN := 3747) jID_379_3746 rfl ?_
  exact jT_ret rfl (by decide) (by show 30 ≤ 30; decide) (by omega) (by omega) ⟨rfl, rfl⟩
set_option maxRecDepth 100000 in
theorem jL_46_2 {d : Nat} {x0 x1 x2 x3 x4 : Int} (h_x0 : (-2147483648) ≤ x0 ∧ x0 ≤ 2147483647) (h_x1 : 1 ≤ x1 ∧ x1 ≤ 30) (h_x2 : 0 ≤ x2 ∧ x2 ≤ 2147483647) (h_x3 : (-2147483648) ≤ x3 ∧ x3 ≤ 2147483647) (h_x4 : (-2147483648) ≤ x4 ∧ x4 ≤ 2147483647) (g_0 : 0 ≤ -x1 + x2 - 1) : jT [x0, x1, x2, x3, x4] (d + 3) 379 30 3358 [(5, (0, 0)), (4, (4, 3)), (3, (4, 2)), (2, (4, 1)), (1, (4, 0)), (0, (6, 0))] [] jpD_62 1 6 (fun k v hsN => k = 0 ∧ v = (0, 1)) := by
  refine jT_xaload_n (v := (4, 0)) (pcN := 3359) jID_379_3358 rfl rfl rfl ?_
  refine jT_xaload_n (v := (6, 0)) (pcN := 3360) jID_379_3359 rfl rfl rfl ?_
  refine jT_xiload (v := (0, 0)) (pcN := 3362) jID_379_3360 rfl rfl rfl ?_
  refine jT_xiconst (k := 1) (pcN := 3363) jID_379_3362 rfl ?_
  refine jT_xiadd (x := 0) (y := 1) (z := 1) (pcN := 3364) jID_379_3363 rfl (by decide) rfl ?_
  refine jT_adv 1 (pcN := 3365) (LN := [(5, (0, 0)), (4, (4, 3)), (3, (4, 2)), (2, (4, 1)), (1, (4, 0)), (0, (6, 0))]) (stN := [(0, x1), (4, 0)]) (hsN := jpD_62) (c1 := 0) (s1 := 0) (c2 := 1) (s2 := 6) (by exact rfl) ?_ (by omega) (by omega)
  refine jT_xaload_n (v := (6, 0)) (pcN := 3366) jID_379_3365 rfl rfl rfl ?_
  refine jT_xiload (v := (0, 0)) (pcN := 3368) jID_379_3366 rfl rfl rfl ?_
  refine jT_xiconst (k := 2) (pcN := 3369) jID_379_3368 rfl ?_
  refine jT_xiadd (x := 0) (y := 2) (z := 2) (pcN := 3370) jID_379_3369 rfl (by decide) rfl ?_
  refine jT_adv 1 (pcN := 3371) (LN := [(5, (0, 0)), (4, (4, 3)), (3, (4, 2)), (2, (4, 1)), (1, (4, 0)), (0, (6, 0))]) (stN := [(0, x2), (0, x1), (4, 0)]) (hsN := jpD_62) (c1 := 0) (s1 := 0) (c2 := 1) (s2 := 6) (by exact rfl) ?_ (by omega) (by omega)
  refine jT_xaload_n (v := (4, 2)) (pcN := 3372) jID_379_3371 rfl rfl rfl ?_
  refine jT_fR [0, 2, 4, 5, 6, 7, 8, 9, 10, 11, 12, 13, 14] 30 (y := 368) (pcN := 3375) (dC := 2) (bc1 := 1) (bc2 := 6) (c1 := 0) (c2 := 0) (as := [(4, 0), (0, x1), (0, x2), (4, 2)]) (asC := [(4, 0), (0, x1), (0, x2), (4, 1)]) (LN := [(5, (0, 0)), (4, (4, 3)), (3, (4, 2)), (2, (4, 1)), (1, (4, 0)), (0, (6, 0))]) (stN := []) (hsC := jpD_15) (v := (0, 1)) (st2 := [(0, 1)]) (jD_368_15 (d := 0) (by omega) (by omega) (by omega)) (by rfl) (by rfl) (by decide +kernel) (by rfl) (by rfl) (by omega) (by omega) (by omega) (by omega) rfl ?_
  refine jT_xistore (v := (0, 1)) (LN := [(6, (0, 1)), (5, (0, 0)), (4, (4, 3)), (3, (4, 2)), (2, (4, 1)), (1, (4, 0)), (0, (6, 0))]) (pcN := 3377) jID_379_3375 rfl rfl rfl rfl ?_
  refine jT_xaload_n (v := (4, 1)) (pcN := 3378) jID_379_3377 rfl rfl rfl ?_
  refine jT_xaload_n (v := (6, 0)) (pcN := 3379) jID_379_3378 rfl rfl rfl ?_
  refine jT_xiload (v := (0, 0)) (pcN := 3381) jID_379_3379 rfl rfl rfl ?_
  refine jT_xiconst (k := 1) (pcN := 3382) jID_379_3381 rfl ?_
  refine jT_xiadd (x := 0) (y := 1) (z := 1) (pcN := 3383) jID_379_3382 rfl (by decide) rfl ?_
  refine jT_adv 1 (pcN := 3384) (LN := [(6, (0, 1)), (5, (0, 0)), (4, (4, 3)), (3, (4, 2)), (2, (4, 1)), (1, (4, 0)), (0, (6, 0))]) (stN := [(0, x1), (4, 1)]) (hsN := jpD_62) (c1 := 0) (s1 := 0) (c2 := 0) (s2 := 0) (by exact rfl) ?_ (by omega) (by omega)
  refine jT_xaload_n (v := (6, 0)) (pcN := 3385) jID_379_3384 rfl rfl rfl ?_
  refine jT_xiload (v := (0, 0)) (pcN := 3387) jID_379_3385 rfl rfl rfl ?_
  refine jT_xiconst (k := 2) (pcN := 3388) jID_379_3387 rfl ?_
  refine jT_xiadd (x := 0) (y := 2) (z := 2) (pcN := 3389) jID_379_3388 rfl (by decide) rfl ?_
  refine jT_adv 1 (pcN := 3390) (LN := [(6, (0, 1)), (5, (0, 0)), (4, (4, 3)), (3, (4, 2)), (2, (4, 1)), (1, (4, 0)), (0, (6, 0))]) (stN := [(0, x2), (0, x1), (4, 1)]) (hsN := jpD_62) (c1 := 0) (s1 := 0) (c2 := 0) (s2 := 0) (by exact rfl) ?_ (by omega) (by omega)
  refine jT_fB [1, 15, 16, 17, 18, 19, 20, 21, 22, 23, 24, 25, 26, 27, 28, 29] 30 (y := 313) (pcN := 3393) (dC := 2) (bc1 := 0) (bc2 := 0) (c1 := 0) (c2 := 0) (as := [(4, 1), (0, x1), (0, x2)]) (asC := [(4, 0), (0, x1), (0, x2)]) (LN := [(6, (0, 1)), (5, (0, 0)), (4, (4, 3)), (3, (4, 2)), (2, (4, 1)), (1, (4, 0)), (0, (6, 0))]) (stN := []) (hsC := jpD_19) (hsD := jpD_17) (v := (0, 0)) (st2 := [(0, 0)]) (hs2 := jpD_79) (jD_313_16 (d := 0) (by omega) (by omega) (by omega)) (by rfl) (by rfl) (by decide +kernel) (by rfl) (by rfl) (by omega) (by omega) (by omega) (by omega) rfl (by decide +kernel) ?_
  refine jT_xistore (v := (0, 0)) (LN := [(7, (0, 0)), (6, (0, 1)), (5, (0, 0)), (4, (4, 3)), (3, (4, 2)), (2, (4, 1)), (1, (4, 0)), (0, (6, 0))]) (pcN := 3395) jID_379_3393 rfl rfl rfl rfl ?_
  refine jT_xaload_n (v := (4, 1)) (pcN := 3396) jID_379_3395 rfl rfl rfl ?_
  refine jT_fR [1, 15, 16, 17, 18, 19, 20, 21, 22, 23, 24, 25, 26, 27, 28, 29] 30 (y := 186) (pcN := 3399) (dC := 0) (bc1 := 0) (bc2 := 0) (c1 := 0) (c2 := 0) (as := [(4, 1)]) (asC := [(4, 0)]) (LN := [(7, (0, 0)), (6, (0, 1)), (5, (0, 0)), (4, (4, 3)), (3, (4, 2)), (2, (4, 1)), (1, (4, 0)), (0, (6, 0))]) (stN := []) (hsC := jpD_17) (v := (0, 1)) (st2 := [(0, 1)]) (jD_186_7 (d := 0)) (by rfl) (by rfl) (by decide +kernel) (by rfl) (by rfl) (by omega) (by omega) (by omega) (by omega) rfl ?_
  refine jT_xiload (v := (0, 1)) (pcN := 3401) jID_379_3399 rfl rfl rfl ?_
  refine jT_xicT (pcN := 3406) jID_379_3401 rfl (by decide +kernel) rfl ?_
  refine jT_xiload (v := (0, 1)) (pcN := 3408) jID_379_3406 rfl rfl rfl ?_
  refine jT_xifT (pcN := 3423) jID_379_3408 rfl (by decide +kernel) rfl ?_
  refine jT_xgoto (pcN := 3740) jID_379_3423 rfl ?_
  refine jT_xiinc (x := 0) (z := 5) (LN := [(5, (0, 5)), (7, (0, 0)), (6, (0, 1)), (4, (4, 3)), (3, (4, 2)), (2, (4, 1)), (1, (4, 0)), (0, (6, 0))]) (pcN := 3743) jID_379_3740 rfl rfl (by decide) rfl rfl ?_
  refine jT_xgoto (pcN := 28) jID_379_3743 rfl ?_
  refine jT_xiload (v := (0, 5)) (pcN := 30) jID_379_28 rfl rfl rfl ?_
  refine jT_xaload_n (v := (6, 0)) (pcN := 31) jID_379_30 rfl rfl rfl ?_
  refine jT_adv 1 (pcN := 32) (LN := [(5, (0, 5)), (7, (0, 0)), (6, (0, 1)), (4, (4, 3)), (3, (4, 2)), (2, (4, 1)), (1, (4, 0)), (0, (6, 0))]) (stN := [(0, 5), (0, 5)]) (hsN := jpD_79) (c1 := 0) (s1 := 0) (c2 := 0) (s2 := 0) (by exact rfl) ?_ (by omega) (by omega)
  refine jT_xiconst (k := 5) (pcN := 33) jID_379_32 rfl ?_
  refine jT_xisub (x := 5) (y := 5) (z := 0) (pcN := 34) jID_379_33 rfl (by decide) rfl ?_
  refine jT_xicT (pcN := 3746) jID_379_34 rfl (by decide +kernel) rfl ?_
  refine jT_xiconst (k := 1) (pcN := 3747) jID_379_3746 rfl ?_
  exact jT_ret rfl (by decide) (by show 30 ≤ 30; decide) (by omega) (by omega) ⟨rfl, rfl⟩
def jpD_95 : List JC := [jzD_60, jzD_61, (101, [], [0]), jgh, jgh, jgh, jgh, jgh, jgh, jgh, jgh, jgh, jgh, jgh, jgh, jgh, jgh, jgh, jgh, jgh, jgh, jgh, jgh, jgh, jgh, jgh, jgh, jgh, jgh, jgh]
theorem jID_379_3411 : jmI (jm 379) 3411 = (.aload_n 3, 1) := by rfl
theorem jID_379_3412 : jmI (jm 379) 3412 = (.iconst 0, 1) := by rfl
theorem jID_379_3413 : jmI (jm 379) 3413 = (.laload, 1) := by rfl
theorem jID_379_3414 : jmI (jm 379) 3414 = (.iload 7, 2) := by rfl
theorem jID_379_3416 : jmI (jm 379) 3416 = (.i2l, 1) := by rfl
theorem jID_379_3418 : jmI (jm 379) 3418 = (.ifCond .eq 5, 3) := by rfl
set_option maxRecDepth 100000 in
theorem jL_46_3 {d : Nat} {x0 x1 x2 x3 x4 : Int} (h_x0 : (-2147483648) ≤ x0 ∧ x0 ≤ 2147483647) (h_x1 : 1 ≤ x1 ∧ x1 ≤ 30) (h_x2 : 0 ≤ x2 ∧ x2 ≤ 2147483647) (h_x3 : (-2147483648) ≤ x3 ∧ x3 ≤ 2147483647) (h_x4 : (-2147483648) ≤ x4 ∧ x4 ≤ 2147483647) (g_0 : -x1 + x2 - 1 < 0) : jT [x0, x1, x2, x3, x4] (d + 3) 379 30 3358 [(5, (0, 0)), (4, (4, 3)), (3, (4, 2)), (2, (4, 1)), (1, (4, 0)), (0, (6, 0))] [] jpD_95 0 0 (fun k v hsN => k = 0 ∧ v = (0, 1)) := by
  refine jT_xaload_n (v := (4, 0)) (pcN := 3359) jID_379_3358 rfl rfl rfl ?_
  refine jT_xaload_n (v := (6, 0)) (pcN := 3360) jID_379_3359 rfl rfl rfl ?_
  refine jT_xiload (v := (0, 0)) (pcN := 3362) jID_379_3360 rfl rfl rfl ?_
  refine jT_xiconst (k := 1) (pcN := 3363) jID_379_3362 rfl ?_
  refine jT_xiadd (x := 0) (y := 1) (z := 1) (pcN := 3364) jID_379_3363 rfl (by decide) rfl ?_
  refine jT_adv 1 (pcN := 3365) (LN := [(5, (0, 0)), (4, (4, 3)), (3, (4, 2)), (2, (4, 1)), (1, (4, 0)), (0, (6, 0))]) (stN := [(0, x1), (4, 0)]) (hsN := jpD_95) (c1 := 0) (s1 := 0) (c2 := 0) (s2 := 0) (by exact rfl) ?_ (by omega) (by omega)
  refine jT_xaload_n (v := (6, 0)) (pcN := 3366) jID_379_3365 rfl rfl rfl ?_
  refine jT_xiload (v := (0, 0)) (pcN := 3368) jID_379_3366 rfl rfl rfl ?_
  refine jT_xiconst (k := 2) (pcN := 3369) jID_379_3368 rfl ?_
  refine jT_xiadd (x := 0) (y := 2) (z := 2) (pcN := 3370) jID_379_3369 rfl (by decide) rfl ?_
  refine jT_adv 1 (pcN := 3371) (LN := [(5, (0, 0)), (4, (4, 3)), (3, (4, 2)), (2, (4, 1)), (1, (4, 0)), (0, (6, 0))]) (stN := [(0, x2), (0, x1), (4, 0)]) (hsN := jpD_95) (c1 := 0) (s1 := 0) (c2 := 0) (s2 := 0) (by exact rfl) ?_ (by omega) (by omega)
  refine jT_xaload_n (v := (4, 2)) (pcN := 3372) jID_379_3371 rfl rfl rfl ?_
  refine jT_fB [0, 2, 4, 5, 6, 7, 8, 9, 10, 11, 12, 13, 14] 30 (y := 368) (pcN := 3375) (dC := 2) (bc1 := 0) (bc2 := 0) (c1 := 0) (c2 := 0) (as := [(4, 0), (0, x1), (0, x2), (4, 2)]) (asC := [(4, 0), (0, x1), (0, x2), (4, 1)]) (LN := [(5, (0, 0)), (4, (4, 3)), (3, (4, 2)), (2, (4, 1)), (1, (4, 0)), (0, (6, 0))]) (stN := []) (hsC := jpD_48) (hsD := [jzD_14, (101, [], [jrh x1 x2 x1.toNat]), jgh, jgh, jgh, jgh, jgh, jgh, jgh, jgh, jgh, jgh, jgh]) (v := (0, 0)) (st2 := [(0, 0)]) (hs2 := [jzD_60, jzD_61, (101, [], [jrh x1 x2 x1.toNat]), jgh, jgh, jgh, jgh, jgh, jgh, jgh, jgh, jgh, jgh, jgh, jgh, jgh, jgh, jgh, jgh, jgh, jgh, jgh, jgh, jgh, jgh, jgh, jgh, jgh, jgh, jgh]) (jD_368_19 (d := 0) (by omega) (by omega) (by omega)) (by rfl) (by rfl) (by decide +kernel) (by rfl) (by rfl) (by omega) (by omega) (by omega) (by omega) rfl rfl ?_
  have hb_q1 := jrh_b (p := x1) (b := x2) (n := x1.toNat)
  generalize hq_q1 : jrh x1 x2 x1.toNat = q1 at hb_q1 ⊢
  refine jT_xistore (v := (0, 0)) (LN := [(6, (0, 0)), (5, (0, 0)), (4, (4, 3)), (3, (4, 2)), (2, (4, 1)), (1, (4, 0)), (0, (6, 0))]) (pcN := 3377) jID_379_3375 rfl rfl rfl rfl ?_
  refine jT_xaload_n (v := (4, 1)) (pcN := 3378) jID_379_3377 rfl rfl rfl ?_
  refine jT_xaload_n (v := (6, 0)) (pcN := 3379) jID_379_3378 rfl rfl rfl ?_
  refine jT_xiload (v := (0, 0)) (pcN := 3381) jID_379_3379 rfl rfl rfl ?_
  refine jT_xiconst (k := 1) (pcN := 3382) jID_379_3381 rfl ?_
  refine jT_xiadd (x := 0) (y := 1) (z := 1) (pcN := 3383) jID_379_3382 rfl (by decide) rfl ?_
  refine jT_adv 1 (pcN := 3384) (LN := [(6, (0, 0)), (5, (0, 0)), (4, (4, 3)), (3, (4, 2)), (2, (4, 1)), (1, (4, 0)), (0, (6, 0))]) (stN := [(0, x1), (4, 1)]) (hsN := [jzD_60, jzD_61, (101, [], [q1]), jgh, jgh, jgh, jgh, jgh, jgh, jgh, jgh, jgh, jgh, jgh, jgh, jgh, jgh, jgh, jgh, jgh, jgh, jgh, jgh, jgh, jgh, jgh, jgh, jgh, jgh, jgh]) (c1 := 0) (s1 := 0) (c2 := 0) (s2 := 0) (by exact rfl) ?_ (by omega) (by omega)
  refine jT_xaload_n (v := (6, 0)) (pcN := 3385) jID_379_3384 rfl rfl rfl ?_
  refine jT_xiload (v := (0, 0)) (pcN := 3387) jID_379_3385 rfl rfl rfl ?_
  refine jT_xiconst (k := 2) (pcN := 3388) jID_379_3387 rfl ?_
  refine jT_xiadd (x := 0) (y := 2) (z := 2) (pcN := 3389) jID_379_3388 rfl (by decide) rfl ?_
  refine jT_adv 1 (pcN := 3390) (LN := [(6, (0, 0)), (5, (0, 0)), (4, (4, 3)), (3, (4, 2)), (2, (4, 1)), (1, (4, 0)), (0, (6, 0))]) (stN := [(0, x2), (0, x1), (4, 1)]) (hsN := [jzD_60, jzD_61, (101, [], [q1]), jgh, jgh, jgh, jgh, jgh, jgh, jgh, jgh, jgh, jgh, jgh, jgh, jgh, jgh, jgh, jgh, jgh, jgh, jgh, jgh, jgh, jgh, jgh, jgh, jgh, jgh, jgh]) (c1 := 0) (s1 := 0) (c2 := 0) (s2 := 0) (by exact rfl) ?_ (by omega) (by omega)
  refine jT_callA [1, 15, 16, 17, 18, 19, 20, 21, 22, 23, 24, 25, 26, 27, 28, 29] (y := 313) (pcN := 3393) (dC := 2) (bc1 := 0) (bc2 := 0) (c1 := 0) (c2 := 0) (as := [(4, 1), (0, x1), (0, x2)]) (asC := [(4, 0), (0, x1), (0, x2)]) (LN := [(6, (0, 0)), (5, (0, 0)), (4, (4, 3)), (3, (4, 2)), (2, (4, 1)), (1, (4, 0)), (0, (6, 0))]) (stN := []) (hsC := jpD_19) (ex := []) (v := (0, jrh x1 x2 x1.toNat)) (st2 := [(0, jrh x1 x2 x1.toNat)]) (hs2 := [jzD_60, jzD_61, (101, [], [q1]), jgh, jgh, jgh, jgh, jgh, jgh, jgh, jgh, jgh, jgh, jgh, jgh, jgh, jgh, jgh, jgh, jgh, jgh, jgh, jgh, jgh, jgh, jgh, jgh, jgh, jgh, jgh]) (jD_313_22 (d := 0) (by omega) (by omega) (by omega)) (by rfl) (by rfl) (by rfl) (by rfl) ⟨rfl, rfl, rfl, rfl, rfl, rfl, rfl, rfl, rfl, rfl, rfl, rfl, rfl, rfl, rfl, rfl, trivial⟩ (by rfl) (by rfl) (by omega) (by show 30 ≤ 30; omega) (by omega) (by omega) rfl rfl ?_
  rw [hq_q1]
  refine jT_xistore (v := (0, q1)) (LN := [(7, (0, q1)), (6, (0, 0)), (5, (0, 0)), (4, (4, 3)), (3, (4, 2)), (2, (4, 1)), (1, (4, 0)), (0, (6, 0))]) (pcN := 3395) jID_379_3393 rfl rfl rfl rfl ?_
  refine jT_xaload_n (v := (4, 1)) (pcN := 3396) jID_379_3395 rfl rfl rfl ?_
  refine jT_callA [1, 15, 16, 17, 18, 19, 20, 21, 22, 23, 24, 25, 26, 27, 28, 29] (y := 186) (pcN := 3399) (dC := 0) (bc1 := 0) (bc2 := 0) (c1 := 0) (c2 := 0) (as := [(4, 1)]) (asC := [(4, 0)]) (LN := [(7, (0, q1)), (6, (0, 0)), (5, (0, 0)), (4, (4, 3)), (3, (4, 2)), (2, (4, 1)), (1, (4, 0)), (0, (6, 0))]) (stN := []) (hsC := jpD_19) (ex := []) (v := (0, 0)) (st2 := [(0, 0)]) (hs2 := [jzD_60, jzD_61, (101, [], [q1]), jgh, jgh, jgh, jgh, jgh, jgh, jgh, jgh, jgh, jgh, jgh, jgh, jgh, jgh, jgh, jgh, jgh, jgh, jgh, jgh, jgh, jgh, jgh, jgh, jgh, jgh, jgh]) (jD_186_23 (d := 0)) (by rfl) (by rfl) (by rfl) (by rfl) ⟨rfl, rfl, rfl, rfl, rfl, rfl, rfl, rfl, rfl, rfl, rfl, rfl, rfl, rfl, rfl, rfl, trivial⟩ (by rfl) (by rfl) (by omega) (by show 30 ≤ 30; omega) (by omega) (by omega) rfl rfl ?_
  refine jT_xiload (v := (0, 0)) (pcN := 3401) jID_379_3399 rfl rfl rfl ?_
  refine jT_xicT (pcN := 3406) jID_379_3401 rfl (by decide +kernel) rfl ?_
  refine jT_xiload (v := (0, 0)) (pcN := 3408) jID_379_3406 rfl rfl rfl ?_
  refine jT_xifF (t := 3423) (pcN := 3411) jID_379_3408 rfl (by decide +kernel) rfl rfl ?_
  refine jT_xaload_n (v := (4, 2)) (pcN := 3412) jID_379_3411 rfl rfl rfl ?_
  refine jT_xiconst (k := 0) (pcN := 3413) jID_379_3412 rfl ?_
  refine jT_lald (x := q1) (a := 2) (j := 0) (fs := []) (X := [q1]) jID_379_3413 rfl rfl rfl rfl ?_
  refine jT_eq (LN := [(7, (0, q1)), (6, (0, 0)), (5, (0, 0)), (4, (4, 3)), (3, (4, 2)), (2, (4, 1)), (1, (4, 0)), (0, (6, 0))]) (stN := [(1, q1)]) (hsN := [jzD_60, jzD_61, (101, [], [q1]), jgh, jgh, jgh, jgh, jgh, jgh, jgh, jgh, jgh, jgh, jgh, jgh, jgh, jgh, jgh, jgh, jgh, jgh, jgh, jgh, jgh, jgh, jgh, jgh, jgh, jgh, jgh]) rfl rfl rfl ?_
  refine jT_xiload (v := (0, q1)) (pcN := 3416) jID_379_3414 rfl rfl rfl ?_
  refine jT_xi2l (x := q1) (z := q1) (pcN := 3417) jID_379_3416 rfl (jw_idd (by omega) (by omega)) rfl ?_
  refine jT_lcmp (a := q1) (b := q1) (z := 0) (by rfl) (by rfl) (jwl_idd (by omega) (by omega)) (jwl_idd (by omega) (by omega)) (by rw [decide_eq_false (show ¬ ((q1 : Int) < q1) by omega), decide_eq_true (show (q1 : Int) = q1 by omega)]; rfl) ?_
  refine jT_xifT (pcN := 3423) jID_379_3418 rfl (by decide +kernel) rfl ?_
  refine jT_xgoto (pcN := 3740) jID_379_3423 rfl ?_
  refine jT_xiinc (x := 0) (z := 5) (LN := [(5, (0, 5)), (7, (0, q1)), (6, (0, 0)), (4, (4, 3)), (3, (4, 2)), (2, (4, 1)), (1, (4, 0)), (0, (6, 0))]) (pcN := 3743) jID_379_3740 rfl rfl (by decide) rfl rfl ?_
  refine jT_xgoto (pcN := 28) jID_379_3743 rfl ?_
  refine jT_xiload (v := (0, 5)) (pcN := 30) jID_379_28 rfl rfl rfl ?_
  refine jT_xaload_n (v := (6, 0)) (pcN := 31) jID_379_30 rfl rfl rfl ?_
  refine jT_adv 1 (pcN := 32) (LN := [(5, (0, 5)), (7, (0, q1)), (6, (0, 0)), (4, (4, 3)), (3, (4, 2)), (2, (4, 1)), (1, (4, 0)), (0, (6, 0))]) (stN := [(0, 5), (0, 5)]) (hsN := [jzD_60, jzD_61, (101, [], [q1]), jgh, jgh, jgh, jgh, jgh, jgh, jgh, jgh, jgh, jgh, jgh, jgh, jgh, jgh, jgh, jgh, jgh, jgh, jgh, jgh, jgh, jgh, jgh, jgh, jgh, jgh, jgh]) (c1 := 0) (s1 := 0) (c2 := 0) (s2 := 0) (by exact rfl) ?_ (by omega) (by omega)
  refine jT_xiconst (k := 5) (pcN := 33) jID_379_32 rfl ?_
  refine jT_xisub (x := 5) (y := 5) (z := 0) (pcN := 34) jID_379_33 rfl (by decide) rfl ?_
  refine jT_xicT (pcN := 3746) jID_379_34 rfl (by decide +kernel) rfl ?_
  refine jT_xiconst (k := 1) (pcN := 3747) jID_379_3746 rfl ?_
  exact jT_ret rfl (by decide) (by show 30 ≤ 30; decide) (by omega) (by omega) ⟨rfl, rfl⟩
set_option maxRecDepth 100000 in
theorem jL_46_4 {d : Nat} {x0 x1 x2 x3 x4 : Int} (h_x0 : (-2147483648) ≤ x0 ∧ x0 ≤ 2147483647) (h_x1 : 31 ≤ x1 ∧ x1 ≤ 2147483647) (h_x2 : (-2147483648) ≤ x2 ∧ x2 ≤ 2147483647) (h_x3 : (-2147483648) ≤ x3 ∧ x3 ≤ 2147483647) (h_x4 : (-2147483648) ≤ x4 ∧ x4 ≤ 2147483647) : jT [x0, x1, x2, x3, x4] (d + 3) 379 30 3358 [(5, (0, 0)), (4, (4, 3)), (3, (4, 2)), (2, (4, 1)), (1, (4, 0)), (0, (6, 0))] [] jpD_62 1 6 (fun k v hsN => k = 0 ∧ v = (0, 1)) := by
  refine jT_xaload_n (v := (4, 0)) (pcN := 3359) jID_379_3358 rfl rfl rfl ?_
  refine jT_xaload_n (v := (6, 0)) (pcN := 3360) jID_379_3359 rfl rfl rfl ?_
  refine jT_xiload (v := (0, 0)) (pcN := 3362) jID_379_3360 rfl rfl rfl ?_
  refine jT_xiconst (k := 1) (pcN := 3363) jID_379_3362 rfl ?_
  refine jT_xiadd (x := 0) (y := 1) (z := 1) (pcN := 3364) jID_379_3363 rfl (by decide) rfl ?_
  refine jT_adv 1 (pcN := 3365) (LN := [(5, (0, 0)), (4, (4, 3)), (3, (4, 2)), (2, (4, 1)), (1, (4, 0)), (0, (6, 0))]) (stN := [(0, x1), (4, 0)]) (hsN := jpD_62) (c1 := 0) (s1 := 0) (c2 := 1) (s2 := 6) (by exact rfl) ?_ (by omega) (by omega)
  refine jT_xaload_n (v := (6, 0)) (pcN := 3366) jID_379_3365 rfl rfl rfl ?_
  refine jT_xiload (v := (0, 0)) (pcN := 3368) jID_379_3366 rfl rfl rfl ?_
  refine jT_xiconst (k := 2) (pcN := 3369) jID_379_3368 rfl ?_
  refine jT_xiadd (x := 0) (y := 2) (z := 2) (pcN := 3370) jID_379_3369 rfl (by decide) rfl ?_
  refine jT_adv 1 (pcN := 3371) (LN := [(5, (0, 0)), (4, (4, 3)), (3, (4, 2)), (2, (4, 1)), (1, (4, 0)), (0, (6, 0))]) (stN := [(0, x2), (0, x1), (4, 0)]) (hsN := jpD_62) (c1 := 0) (s1 := 0) (c2 := 1) (s2 := 6) (by exact rfl) ?_ (by omega) (by omega)
  refine jT_xaload_n (v := (4, 2)) (pcN := 3372) jID_379_3371 rfl rfl rfl ?_
  refine jT_fR [0, 2, 4, 5, 6, 7, 8, 9, 10, 11, 12, 13, 14] 30 (y := 368) (pcN := 3375) (dC := 2) (bc1 := 1) (bc2 := 6) (c1 := 0) (c2 := 0) (as := [(4, 0), (0, x1), (0, x2), (4, 2)]) (asC := [(4, 0), (0, x1), (0, x2), (4, 1)]) (LN := [(5, (0, 0)), (4, (4, 3)), (3, (4, 2)), (2, (4, 1)), (1, (4, 0)), (0, (6, 0))]) (stN := []) (hsC := jpD_15) (v := (0, 1)) (st2 := [(0, 1)]) (jD_368_26 (d := 0) (by omega) (by omega)) (by rfl) (by rfl) (by decide +kernel) (by rfl) (by rfl) (by omega) (by omega) (by omega) (by omega) rfl ?_
  refine jT_xistore (v := (0, 1)) (LN := [(6, (0, 1)), (5, (0, 0)), (4, (4, 3)), (3, (4, 2)), (2, (4, 1)), (1, (4, 0)), (0, (6, 0))]) (pcN := 3377) jID_379_3375 rfl rfl rfl rfl ?_
  refine jT_xaload_n (v := (4, 1)) (pcN := 3378) jID_379_3377 rfl rfl rfl ?_
  refine jT_xaload_n (v := (6, 0)) (pcN := 3379) jID_379_3378 rfl rfl rfl ?_
  refine jT_xiload (v := (0, 0)) (pcN := 3381) jID_379_3379 rfl rfl rfl ?_
  refine jT_xiconst (k := 1) (pcN := 3382) jID_379_3381 rfl ?_
  refine jT_xiadd (x := 0) (y := 1) (z := 1) (pcN := 3383) jID_379_3382 rfl (by decide) rfl ?_
  refine jT_adv 1 (pcN := 3384) (LN := [(6, (0, 1)), (5, (0, 0)), (4, (4, 3)), (3, (4, 2)), (2, (4, 1)), (1, (4, 0)), (0, (6, 0))]) (stN := [(0, x1), (4, 1)]) (hsN := jpD_62) (c1 := 0) (s1 := 0) (c2 := 0) (s2 := 0) (by exact rfl) ?_ (by omega) (by omega)
  refine jT_xaload_n (v := (6, 0)) (pcN := 3385) jID_379_3384 rfl rfl rfl ?_
  refine jT_xiload (v := (0, 0)) (pcN := 3387) jID_379_3385 rfl rfl rfl ?_
  refine jT_xiconst (k := 2) (pcN := 3388) jID_379_3387 rfl ?_
  refine jT_xiadd (x := 0) (y := 2) (z := 2) (pcN := 3389) jID_379_3388 rfl (by decide) rfl ?_
  refine jT_adv 1 (pcN := 3390) (LN := [(6, (0, 1)), (5, (0, 0)), (4, (4, 3)), (3, (4, 2)), (2, (4, 1)), (1, (4, 0)), (0, (6, 0))]) (stN := [(0, x2), (0, x1), (4, 1)]) (hsN := jpD_62) (c1 := 0) (s1 := 0) (c2 := 0) (s2 := 0) (by exact rfl) ?_ (by omega) (by omega)
  refine jT_fB [1, 15, 16, 17, 18, 19, 20, 21, 22, 23, 24, 25, 26, 27, 28, 29] 30 (y := 313) (pcN := 3393) (dC := 2) (bc1 := 0) (bc2 := 0) (c1 := 0) (c2 := 0) (as := [(4, 1), (0, x1), (0, x2)]) (asC := [(4, 0), (0, x1), (0, x2)]) (LN := [(6, (0, 1)), (5, (0, 0)), (4, (4, 3)), (3, (4, 2)), (2, (4, 1)), (1, (4, 0)), (0, (6, 0))]) (stN := []) (hsC := jpD_19) (hsD := jpD_17) (v := (0, 0)) (st2 := [(0, 0)]) (hs2 := jpD_79) (jD_313_27 (d := 0) (by omega) (by omega)) (by rfl) (by rfl) (by decide +kernel) (by rfl) (by rfl) (by omega) (by omega) (by omega) (by omega) rfl (by decide +kernel) ?_
  refine jT_xistore (v := (0, 0)) (LN := [(7, (0, 0)), (6, (0, 1)), (5, (0, 0)), (4, (4, 3)), (3, (4, 2)), (2, (4, 1)), (1, (4, 0)), (0, (6, 0))]) (pcN := 3395) jID_379_3393 rfl rfl rfl rfl ?_
  refine jT_xaload_n (v := (4, 1)) (pcN := 3396) jID_379_3395 rfl rfl rfl ?_
  refine jT_fR [1, 15, 16, 17, 18, 19, 20, 21, 22, 23, 24, 25, 26, 27, 28, 29] 30 (y := 186) (pcN := 3399) (dC := 0) (bc1 := 0) (bc2 := 0) (c1 := 0) (c2 := 0) (as := [(4, 1)]) (asC := [(4, 0)]) (LN := [(7, (0, 0)), (6, (0, 1)), (5, (0, 0)), (4, (4, 3)), (3, (4, 2)), (2, (4, 1)), (1, (4, 0)), (0, (6, 0))]) (stN := []) (hsC := jpD_17) (v := (0, 1)) (st2 := [(0, 1)]) (jD_186_7 (d := 0)) (by rfl) (by rfl) (by decide +kernel) (by rfl) (by rfl) (by omega) (by omega) (by omega) (by omega) rfl ?_
  refine jT_xiload (v := (0, 1)) (pcN := 3401) jID_379_3399 rfl rfl rfl ?_
  refine jT_xicT (pcN := 3406) jID_379_3401 rfl (by decide +kernel) rfl ?_
  refine jT_xiload (v := (0, 1)) (pcN := 3408) jID_379_3406 rfl rfl rfl ?_
  refine jT_xifT (pcN := 3423) jID_379_3408 rfl (by decide +kernel) rfl ?_
  refine jT_xgoto (pcN := 3740) jID_379_3423 rfl ?_
  refine jT_xiinc (x := 0) (z := 5) (LN := [(5, (0, 5)), (7, (0, 0)), (6, (0, 1)), (4, (4, 3)), (3, (4, 2)), (2, (4, 1)), (1, (4, 0)), (0, (6, 0))]) (pcN := 3743) jID_379_3740 rfl rfl (by decide) rfl rfl ?_
  refine jT_xgoto (pcN := 28) jID_379_3743 rfl ?_
  refine jT_xiload (v := (0, 5)) (pcN := 30) jID_379_28 rfl rfl rfl ?_
  refine jT_xaload_n (v := (6, 0)) (pcN := 31) jID_379_30 rfl rfl rfl ?_
  refine jT_adv 1 (pcN := 32) (LN := [(5, (0, 5)), (7, (0, 0)), (6, (0, 1)), (4, (4, 3)), (3, (4, 2)), (2, (4, 1)), (1, (4, 0)), (0, (6, 0))]) (stN := [(0, 5), (0, 5)]) (hsN := jpD_79) (c1 := 0) (s1 := 0) (c2 := 0) (s2 := 0) (by exact rfl) ?_ (by omega) (by omega)
  refine jT_xiconst (k := 5) (pcN := 33) jID_379_32 rfl ?_
  refine jT_xisub (x := 5) (y := 5) (z := 0) (pcN := 34) jID_379_33 rfl (by decide) rfl ?_
  refine jT_xicT (pcN := 3746) jID_379_34 rfl (by decide +kernel) rfl ?_
  refine jT_xiconst (k := 1) (pcN := 3747) jID_379_3746 rfl ?_
  exact jT_ret rfl (by decide) (by show 30 ≤ 30; decide) (by omega) (by omega) ⟨rfl, rfl⟩
