/-! the law, case by case: 38 -/
theorem jIQ_116_0 : jmI (jm 116) 0 = (.iload_n 1, 1) := by rfl
theorem jIQ_116_1 : jmI (jm 116) 1 = (.iload_n 2, 1) := by rfl
theorem jIQ_116_2 : jmI (jm 116) 2 = (.if_icmp .lt 8, 3) := by rfl
theorem jQ_116_1 {xs : List Int} {d : Nat} {x1 : Int} (h_x1 : (-2147483648) ≤ x1 ∧ x1 ≤ (-1)) : jT xs d 116 1 0 [(0, (4, 0)), (1, (0, x1)), (2, (0, 0)), (3, (0, 20))] [] [jgh] 1 6 (fun k v hsN => k = 1 ∧ v = (0, 1) ∧ hsN = [jgh] ++ []) := by
  refine jT_xiload_n (v := (0, x1)) (pcN := 1) jIQ_116_0 rfl rfl rfl ?_
  refine jT_xiload_n (v := (0, 0)) (pcN := 2) jIQ_116_1 rfl rfl rfl ?_
  refine jT_icT (a := x1) (b := 0) (t := 10) (by rfl) (by rfl) (by rfl) (jw_idd (by omega) (by omega)) (jw_idd (by omega) (by omega)) (by simp only [jcP] <;> omega) ?_
  exact jT_ret (c1 := 1) (s1 := 6) rfl (by decide) (by show 1 ≤ 1; omega) (by omega) (by omega) ⟨rfl, rfl, rfl⟩
theorem jIQ_160_0 : jmI (jm 160) 0 = (.aload_n 0, 1) := by rfl
theorem jIQ_160_1 : jmI (jm 160) 1 = (.iload_n 1, 1) := by rfl
theorem jIQ_160_2 : jmI (jm 160) 2 = (.iconst 0, 1) := by rfl
theorem jIQ_160_3 : jmI (jm 160) 3 = (.bipush 20, 2) := by rfl
def jzQ_7 : JC := (13, [(4, 1), (4, 2), (4, 3), (4, 4), (4, 5), (4, 6), (4, 7), (4, 8), (4, 9), (4, 10), (0, 0), (4, 11), (0, 0)], [])
def jpQ_8 : List JC := [jzQ_7, jgh, jgh, jgh, jgh, jgh, jgh, jgh, jgh, jgh, jgh, jgh]
theorem jQ_160_2 {xs : List Int} {d : Nat} {x1 x2 x3 x4 : Int} (h_x1 : (-2147483648) ≤ x1 ∧ x1 ≤ (-1)) (h_x2 : (-2147483648) ≤ x2 ∧ x2 ≤ 2147483647) (h_x3 : (-2147483648) ≤ x3 ∧ x3 ≤ 2147483647) (h_x4 : (-2147483648) ≤ x4 ∧ x4 ≤ 2147483647) : jT xs (d + 1) 160 12 0 [(0, (4, 0)), (1, (0, x1)), (2, (0, x2)), (3, (0, x3)), (4, (0, x4))] [] jpQ_8 1 6 (fun k v hsN => k = 1 ∧ v = (0, 1) ∧ hsN = jpQ_8 ++ []) := by
  refine jT_xaload_n (v := (4, 0)) (pcN := 1) jIQ_160_0 rfl rfl rfl ?_
  refine jT_xiload_n (v := (0, x1)) (pcN := 2) jIQ_160_1 rfl rfl rfl ?_
  refine jT_xiconst (k := 0) (pcN := 3) jIQ_160_2 rfl ?_
  refine jT_xbipush (k := 20) (pcN := 5) jIQ_160_3 (by decide) rfl ?_
  exact jT_fX [0] 12 (y := 116) (pcN := 8) (dC := 0) (bc1 := 1) (bc2 := 6) (as := [(4, 0), (0, x1), (0, 0), (0, 20)]) (asC := [(4, 0), (0, x1), (0, 0), (0, 20)]) (LN := [(0, (4, 0)), (1, (0, x1)), (2, (0, x2)), (3, (0, x3)), (4, (0, x4))]) (stN := []) (hsC := [jgh]) (e := 1) (jQ_116_1 (d := 0) (by omega)) (by rfl) (by rfl) (by decide +kernel) (by rfl) (by rfl) (by omega) (by omega) (by omega) (by omega) ⟨rfl, ⟨rfl, rfl, rfl⟩⟩
theorem jIQ_362_0 : jmI (jm 362) 0 = (.aload 5, 2) := by rfl
theorem jIQ_362_2 : jmI (jm 362) 2 = (.iconst 0, 1) := by rfl
theorem jIQ_362_3 : jmI (jm 362) 3 = (.aload_n 0, 1) := by rfl
theorem jIQ_362_4 : jmI (jm 362) 4 = (.iload_n 1, 1) := by rfl
theorem jIQ_362_5 : jmI (jm 362) 5 = (.iload_n 2, 1) := by rfl
theorem jIQ_362_6 : jmI (jm 362) 6 = (.iload_n 3, 1) := by rfl
theorem jIQ_362_7 : jmI (jm 362) 7 = (.iload 4, 2) := by rfl
def jzQ_16 : JC := (13, [(4, 2), (4, 3), (4, 4), (4, 5), (4, 6), (4, 7), (4, 8), (4, 9), (4, 10), (4, 11), (0, 0), (4, 12), (0, 0)], [])
def jpQ_17 : List JC := [jzQ_16, jgh, jgh, jgh, jgh, jgh, jgh, jgh, jgh, jgh, jgh, jgh, jgh]
theorem jQ_362_3 {xs : List Int} {d : Nat} {x1 x2 x3 x4 : Int} (h_x1 : (-2147483648) ≤ x1 ∧ x1 ≤ (-1)) (h_x2 : (-2147483648) ≤ x2 ∧ x2 ≤ 2147483647) (h_x3 : (-2147483648) ≤ x3 ∧ x3 ≤ 2147483647) (h_x4 : (-2147483648) ≤ x4 ∧ x4 ≤ 2147483647) : jT xs (d + 2) 362 13 0 [(0, (4, 0)), (1, (0, x1)), (2, (0, x2)), (3, (0, x3)), (4, (0, x4)), (5, (4, 1))] [] jpQ_17 1 6 (fun k v hsN => k = 0 ∧ v = (0, 1) ∧ hsN = jpQ_17 ++ []) := by
  refine jT_xaload (v := (4, 1)) (pcN := 2) jIQ_362_0 rfl rfl rfl ?_
  refine jT_xiconst (k := 0) (pcN := 3) jIQ_362_2 rfl ?_
  refine jT_xaload_n (v := (4, 0)) (pcN := 4) jIQ_362_3 rfl rfl rfl ?_
  refine jT_xiload_n (v := (0, x1)) (pcN := 5) jIQ_362_4 rfl rfl rfl ?_
  refine jT_xiload_n (v := (0, x2)) (pcN := 6) jIQ_362_5 rfl rfl rfl ?_
  refine jT_xiload_n (v := (0, x3)) (pcN := 7) jIQ_362_6 rfl rfl rfl ?_
  refine jT_xiload (v := (0, x4)) (pcN := 9) jIQ_362_7 rfl rfl rfl ?_
  exact jT_fX [0, 2, 3, 4, 5, 6, 7, 8, 9, 10, 11, 12] 13 (y := 160) (pcN := 12) (dC := 1) (bc1 := 1) (bc2 := 6) (as := [(4, 0), (0, x1), (0, x2), (0, x3), (0, x4)]) (asC := [(4, 0), (0, x1), (0, x2), (0, x3), (0, x4)]) (LN := [(0, (4, 0)), (1, (0, x1)), (2, (0, x2)), (3, (0, x3)), (4, (0, x4)), (5, (4, 1))]) (stN := [(0, 0), (4, 1)]) (hsC := jpQ_8) (e := 1) (jQ_160_2 (d := 0) (by omega) (by omega) (by omega) (by omega)) (by rfl) (by rfl) (by decide +kernel) (by rfl) (by rfl) (by omega) (by omega) (by omega) (by omega) (show _ from ⟨rfl, rfl, rfl⟩)
def jzQ_18 : JC := (14, [(0, 1), (4, 1), (4, 2), (4, 3), (4, 4), (0, 0), (4, 5), (0, 0), (4, 6), (4, 7), (1, 1), (4, 8), (0, 0), (4, 9), (0, 0), (0, 0), (0, 0), (0, 0), (0, 0), (0, 0), (0, 0), (4, 10), (4, 11), (4, 12), (4, 13), (4, 14), (4, 15), (0, 0)], [])
def jpQ_19 : List JC := [jzQ_18, jgh, jgh, jgh, jgh, jgh, jgh, jgh, jgh, jgh, jgh, jgh, jgh, jgh, jgh, jgh]
def jzQ_20 : JC := (14, [(0, 0), (4, 1), (4, 2), (4, 3), (4, 4), (0, 0), (4, 5), (0, 0), (4, 6), (4, 7), (1, 1), (4, 8), (0, 0), (4, 9), (0, 0), (0, 0), (0, 0), (0, 0), (0, 0), (0, 0), (0, 0), (4, 10), (4, 11), (4, 12), (4, 13), (4, 14), (4, 15), (0, 0)], [])
def jpQ_21 : List JC := [jzQ_20, jgh, jgh, jgh, jgh, jgh, jgh, jgh, jgh, jgh, jgh, jgh, jgh, jgh, jgh, jgh]
theorem jQ_191_4 {xs : List Int} {d : Nat} : jT xs d 191 16 0 [(0, (4, 0)), (1, (0, 0)), (2, (0, 1))] [] jpQ_21 0 0 (fun k v hsN => k = 0 ∧ v = (0, 1) ∧ hsN = jpQ_19) := by
  refine jT_advK 9 (pcN := 18) (LN := [(0, (4, 0)), (1, (0, 0)), (2, (0, 1))]) (stN := [(0, 1)]) (hsN := jpQ_19) (c1 := 0) (s1 := 0) (c2 := 0) (s2 := 0) (by decide +kernel) ?_ (by omega) (by omega)
  exact jT_ret rfl (by decide) (by show 16 ≤ 16; omega) (by omega) (by omega) ⟨rfl, rfl, rfl⟩
theorem jIQ_298_0 : jmI (jm 298) 0 = (.aload_n 0, 1) := by rfl
theorem jIQ_298_1 : jmI (jm 298) 1 = (.iconst 0, 1) := by rfl
theorem jIQ_298_5 : jmI (jm 298) 5 = (.aload_n 0, 1) := by rfl
theorem jIQ_298_6 : jmI (jm 298) 6 = (.iload_n 1, 1) := by rfl
theorem jIQ_298_7 : jmI (jm 298) 7 = (.i2l, 1) := by rfl
theorem jIQ_298_8 : jmI (jm 298) 8 = (.lconst 0, 1) := by rfl
theorem jIQ_298_15 : jmI (jm 298) 15 = (.ifCond .eq 32, 3) := by rfl
theorem jIQ_298_47 : jmI (jm 298) 47 = (.iconst 0, 1) := by rfl
theorem jIQ_298_48 : jmI (jm 298) 48 = (.iconst 1, 1) := by rfl
theorem jIQ_298_52 : jmI (jm 298) 52 = (.ifCond .ne 15, 3) := by rfl
theorem jIQ_298_67 : jmI (jm 298) 67 = (.iconst 0, 1) := by rfl
theorem jQ_298_5 {xs : List Int} {d : Nat} {x1 x2 x3 x4 : Int} (h_x1 : (-2147483648) ≤ x1 ∧ x1 ≤ (-1)) (h_x2 : (-2147483648) ≤ x2 ∧ x2 ≤ 2147483647) (h_x3 : (-2147483648) ≤ x3 ∧ x3 ≤ 2147483647) (h_x4 : (-2147483648) ≤ x4 ∧ x4 ≤ 2147483647) : jT xs (d + 1) 298 16 0 [(0, (4, 0)), (1, (0, x1)), (2, (0, x2)), (3, (0, x3)), (4, (0, x4))] [] jpQ_21 0 0 (fun k v hsN => k = 0 ∧ v = (0, 0) ∧ hsN = jpQ_19) := by
  refine jT_xaload_n (v := (4, 0)) (pcN := 1) jIQ_298_0 rfl rfl rfl ?_
  refine jT_xiconst (k := 0) (pcN := 2) jIQ_298_1 rfl ?_
  refine jT_adv 1 (pcN := 5) (LN := [(0, (4, 0)), (1, (0, x1)), (2, (0, x2)), (3, (0, x3)), (4, (0, x4))]) (stN := []) (hsN := jpQ_21) (c1 := 0) (s1 := 0) (c2 := 0) (s2 := 0) (by exact rfl) ?_ (by omega) (by omega)
  refine jT_xaload_n (v := (4, 0)) (pcN := 6) jIQ_298_5 rfl rfl rfl ?_
  refine jT_xiload_n (v := (0, x1)) (pcN := 7) jIQ_298_6 rfl rfl rfl ?_
  refine jT_xi2l (x := x1) (z := x1) (pcN := 8) jIQ_298_7 rfl (jw_idd (by omega) (by omega)) rfl ?_
  refine jT_xlconst (z := 0) (pcN := 9) jIQ_298_8 rfl rfl ?_
  refine jT_adv 1 (pcN := 12) (LN := [(0, (4, 0)), (1, (0, x1)), (2, (0, x2)), (3, (0, x3)), (4, (0, x4))]) (stN := [(1, 20), (1, 0), (1, x1), (4, 0)]) (hsN := jpQ_21) (c1 := 0) (s1 := 0) (c2 := 0) (s2 := 0) (by exact rfl) ?_ (by omega) (by omega)
  refine jT_fR [] 16 (y := 189) (pcN := 15) (dC := 0) (bc1 := 0) (bc2 := 0) (c1 := 0) (c2 := 0) (as := [(1, x1), (1, 0), (1, 20)]) (asC := [(1, x1), (1, 0), (1, 20)]) (LN := [(0, (4, 0)), (1, (0, x1)), (2, (0, x2)), (3, (0, x3)), (4, (0, x4))]) (stN := [(4, 0)]) (hsC := []) (v := (0, 0)) (st2 := [(0, 0), (4, 0)]) (jT_in_lo (d := 0) (v := x1) (lo := 0) (hi := 20) (by omega) (by omega) (by omega) (by omega)) (by rfl) (by rfl) (by decide +kernel) (by rfl) (by rfl) (by omega) (by omega) (by omega) (by omega) rfl ?_
  refine jT_xifT (pcN := 47) jIQ_298_15 rfl (by decide +kernel) rfl ?_
  refine jT_xiconst (k := 0) (pcN := 48) jIQ_298_47 rfl ?_
  refine jT_xiconst (k := 1) (pcN := 49) jIQ_298_48 rfl ?_
  refine jT_fB [0, 1, 2, 3, 4, 5, 6, 7, 8, 9, 10, 11, 12, 13, 14, 15] 16 (y := 191) (pcN := 52) (dC := 0) (bc1 := 0) (bc2 := 0) (c1 := 0) (c2 := 0) (as := [(4, 0), (0, 0), (0, 1)]) (asC := [(4, 0), (0, 0), (0, 1)]) (LN := [(0, (4, 0)), (1, (0, x1)), (2, (0, x2)), (3, (0, x3)), (4, (0, x4))]) (stN := []) (hsC := jpQ_21) (hsD := jpQ_19) (v := (0, 1)) (st2 := [(0, 1)]) (hs2 := jpQ_19) (jQ_191_4 (d := 0)) (by rfl) (by rfl) (by decide +kernel) (by rfl) (by rfl) (by omega) (by omega) (by omega) (by omega) rfl (by decide +kernel) ?_
  refine jT_xifT (pcN := 67) jIQ_298_52 rfl (by decide +kernel) rfl ?_
  refine jT_xiconst (k := 0) (pcN := 68) jIQ_298_67 rfl ?_
  exact jT_ret rfl (by decide) (by show 16 ≤ 16; omega) (by omega) (by omega) ⟨rfl, rfl, rfl⟩
theorem jQ_186_6 {xs : List Int} {d : Nat} : jT xs d 186 16 0 [(0, (4, 0))] [] jpQ_19 0 0 (fun k v hsN => k = 0 ∧ v = (0, 1) ∧ hsN = jpQ_19 ++ []) := by
  refine jT_advK 2 (pcN := 4) (LN := [(0, (4, 0))]) (stN := [(0, 1)]) (hsN := jpQ_19) (c1 := 0) (s1 := 0) (c2 := 0) (s2 := 0) (by decide +kernel) ?_ (by omega) (by omega)
  exact jT_ret rfl (by decide) (by show 16 ≤ 16; omega) (by omega) (by omega) ⟨rfl, rfl, rfl⟩
theorem jIQ_116_5 : jmI (jm 116) 5 = (.iload_n 1, 1) := by rfl
theorem jIQ_116_6 : jmI (jm 116) 6 = (.iload_n 3, 1) := by rfl
theorem jIQ_116_7 : jmI (jm 116) 7 = (.if_icmp .le 14, 3) := by rfl
theorem jQ_116_7 {xs : List Int} {d : Nat} {x1 : Int} (h_x1 : 0 ≤ x1 ∧ x1 ≤ 20) : jT xs d 116 1 0 [(0, (4, 0)), (1, (0, x1)), (2, (0, 0)), (3, (0, 20))] [] [jgh] 0 0 (fun k v hsN => k = 0 ∧ v = (9, 0) ∧ hsN = [jgh] ++ []) := by
  refine jT_xiload_n (v := (0, x1)) (pcN := 1) jIQ_116_0 rfl rfl rfl ?_
  refine jT_xiload_n (v := (0, 0)) (pcN := 2) jIQ_116_1 rfl rfl rfl ?_
  refine jT_icF (a := x1) (b := 0) (t := 10) (by rfl) (by rfl) (by rfl) (jw_idd (by omega) (by omega)) (jw_idd (by omega) (by omega)) (by simp only [jcP] <;> omega) ?_
  refine jT_xiload_n (v := (0, x1)) (pcN := 6) jIQ_116_5 rfl rfl rfl ?_
  refine jT_xiload_n (v := (0, 20)) (pcN := 7) jIQ_116_6 rfl rfl rfl ?_
  refine jT_icT (a := x1) (b := 20) (t := 21) (by rfl) (by rfl) (by rfl) (jw_idd (by omega) (by omega)) (jw_idd (by omega) (by omega)) (by simp only [jcP] <;> omega) ?_
  exact jT_ret rfl (by decide) (by show 1 ≤ 1; omega) (by omega) (by omega) ⟨rfl, rfl, rfl⟩
theorem jQ_116_8 {xs : List Int} {d : Nat} {x2 : Int} (h_x2 : (-2147483648) ≤ x2 ∧ x2 ≤ (-1)) : jT xs d 116 1 0 [(0, (4, 0)), (1, (0, x2)), (2, (0, 0)), (3, (0, 10))] [] [jgh] 1 6 (fun k v hsN => k = 1 ∧ v = (0, 1) ∧ hsN = [jgh] ++ []) := by
  refine jT_xiload_n (v := (0, x2)) (pcN := 1) jIQ_116_0 rfl rfl rfl ?_
  refine jT_xiload_n (v := (0, 0)) (pcN := 2) jIQ_116_1 rfl rfl rfl ?_
  refine jT_icT (a := x2) (b := 0) (t := 10) (by rfl) (by rfl) (by rfl) (jw_idd (by omega) (by omega)) (jw_idd (by omega) (by omega)) (by simp only [jcP] <;> omega) ?_
  exact jT_ret (c1 := 1) (s1 := 6) rfl (by decide) (by show 1 ≤ 1; omega) (by omega) (by omega) ⟨rfl, rfl, rfl⟩
theorem jIQ_160_8 : jmI (jm 160) 8 = (.aload_n 0, 1) := by rfl
theorem jIQ_160_9 : jmI (jm 160) 9 = (.iload_n 2, 1) := by rfl
theorem jIQ_160_10 : jmI (jm 160) 10 = (.iconst 0, 1) := by rfl
theorem jIQ_160_11 : jmI (jm 160) 11 = (.bipush 10, 2) := by rfl
theorem jQ_160_9 {xs : List Int} {d : Nat} {x1 x2 x3 x4 : Int} (h_x1 : 0 ≤ x1 ∧ x1 ≤ 20) (h_x2 : (-2147483648) ≤ x2 ∧ x2 ≤ (-1)) (h_x3 : (-2147483648) ≤ x3 ∧ x3 ≤ 2147483647) (h_x4 : (-2147483648) ≤ x4 ∧ x4 ≤ 2147483647) : jT xs (d + 1) 160 12 0 [(0, (4, 0)), (1, (0, x1)), (2, (0, x2)), (3, (0, x3)), (4, (0, x4))] [] jpQ_8 1 6 (fun k v hsN => k = 1 ∧ v = (0, 1) ∧ hsN = jpQ_8 ++ []) := by
  refine jT_xaload_n (v := (4, 0)) (pcN := 1) jIQ_160_0 rfl rfl rfl ?_
  refine jT_xiload_n (v := (0, x1)) (pcN := 2) jIQ_160_1 rfl rfl rfl ?_
  refine jT_xiconst (k := 0) (pcN := 3) jIQ_160_2 rfl ?_
  refine jT_xbipush (k := 20) (pcN := 5) jIQ_160_3 (by decide) rfl ?_
  refine jT_fR [0] 12 (y := 116) (pcN := 8) (dC := 0) (bc1 := 0) (bc2 := 0) (c1 := 1) (c2 := 6) (as := [(4, 0), (0, x1), (0, 0), (0, 20)]) (asC := [(4, 0), (0, x1), (0, 0), (0, 20)]) (LN := [(0, (4, 0)), (1, (0, x1)), (2, (0, x2)), (3, (0, x3)), (4, (0, x4))]) (stN := []) (hsC := [jgh]) (v := (9, 0)) (st2 := []) (jQ_116_7 (d := 0) (by omega)) (by rfl) (by rfl) (by decide +kernel) (by rfl) (by rfl) (by omega) (by omega) (by omega) (by omega) rfl ?_
  refine jT_xaload_n (v := (4, 0)) (pcN := 9) jIQ_160_8 rfl rfl rfl ?_
  refine jT_xiload_n (v := (0, x2)) (pcN := 10) jIQ_160_9 rfl rfl rfl ?_
  refine jT_xiconst (k := 0) (pcN := 11) jIQ_160_10 rfl ?_
  refine jT_xbipush (k := 10) (pcN := 13) jIQ_160_11 (by decide) rfl ?_
  exact jT_fX [0] 12 (y := 116) (pcN := 16) (dC := 0) (bc1 := 1) (bc2 := 6) (as := [(4, 0), (0, x2), (0, 0), (0, 10)]) (asC := [(4, 0), (0, x2), (0, 0), (0, 10)]) (LN := [(0, (4, 0)), (1, (0, x1)), (2, (0, x2)), (3, (0, x3)), (4, (0, x4))]) (stN := []) (hsC := [jgh]) (e := 1) (jQ_116_8 (d := 0) (by omega)) (by rfl) (by rfl) (by decide +kernel) (by rfl) (by rfl) (by omega) (by omega) (by omega) (by omega) ⟨rfl, ⟨rfl, rfl, rfl⟩⟩
theorem jQ_362_10 {xs : List Int} {d : Nat} {x1 x2 x3 x4 : Int} (h_x1 : 0 ≤ x1 ∧ x1 ≤ 20) (h_x2 : (-2147483648) ≤ x2 ∧ x2 ≤ (-1)) (h_x3 : (-2147483648) ≤ x3 ∧ x3 ≤ 2147483647) (h_x4 : (-2147483648) ≤ x4 ∧ x4 ≤ 2147483647) : jT xs (d + 2) 362 13 0 [(0, (4, 0)), (1, (0, x1)), (2, (0, x2)), (3, (0, x3)), (4, (0, x4)), (5, (4, 1))] [] jpQ_17 1 6 (fun k v hsN => k = 0 ∧ v = (0, 1) ∧ hsN = jpQ_17 ++ []) := by
  refine jT_xaload (v := (4, 1)) (pcN := 2) jIQ_362_0 rfl rfl rfl ?_
  refine jT_xiconst (k := 0) (pcN := 3) jIQ_362_2 rfl ?_
  refine jT_xaload_n (v := (4, 0)) (pcN := 4) jIQ_362_3 rfl rfl rfl ?_
  refine jT_xiload_n (v := (0, x1)) (pcN := 5) jIQ_362_4 rfl rfl rfl ?_
  refine jT_xiload_n (v := (0, x2)) (pcN := 6) jIQ_362_5 rfl rfl rfl ?_
  refine jT_xiload_n (v := (0, x3)) (pcN := 7) jIQ_362_6 rfl rfl rfl ?_
  refine jT_xiload (v := (0, x4)) (pcN := 9) jIQ_362_7 rfl rfl rfl ?_
  exact jT_fX [0, 2, 3, 4, 5, 6, 7, 8, 9, 10, 11, 12] 13 (y := 160) (pcN := 12) (dC := 1) (bc1 := 1) (bc2 := 6) (as := [(4, 0), (0, x1), (0, x2), (0, x3), (0, x4)]) (asC := [(4, 0), (0, x1), (0, x2), (0, x3), (0, x4)]) (LN := [(0, (4, 0)), (1, (0, x1)), (2, (0, x2)), (3, (0, x3)), (4, (0, x4)), (5, (4, 1))]) (stN := [(0, 0), (4, 1)]) (hsC := jpQ_8) (e := 1) (jQ_160_9 (d := 0) (by omega) (by omega) (by omega) (by omega)) (by rfl) (by rfl) (by decide +kernel) (by rfl) (by rfl) (by omega) (by omega) (by omega) (by omega) (show _ from ⟨rfl, rfl, rfl⟩)
theorem jIQ_298_18 : jmI (jm 298) 18 = (.iload_n 2, 1) := by rfl
theorem jIQ_298_19 : jmI (jm 298) 19 = (.i2l, 1) := by rfl
theorem jIQ_298_20 : jmI (jm 298) 20 = (.lconst 0, 1) := by rfl
theorem jIQ_298_27 : jmI (jm 298) 27 = (.ifCond .eq 20, 3) := by rfl
theorem jQ_298_11 {xs : List Int} {d : Nat} {x1 x2 x3 x4 : Int} (h_x1 : 0 ≤ x1 ∧ x1 ≤ 20) (h_x2 : (-2147483648) ≤ x2 ∧ x2 ≤ (-1)) (h_x3 : (-2147483648) ≤ x3 ∧ x3 ≤ 2147483647) (h_x4 : (-2147483648) ≤ x4 ∧ x4 ≤ 2147483647) : jT xs (d + 1) 298 16 0 [(0, (4, 0)), (1, (0, x1)), (2, (0, x2)), (3, (0, x3)), (4, (0, x4))] [] jpQ_21 0 0 (fun k v hsN => k = 0 ∧ v = (0, 0) ∧ hsN = jpQ_19) := by
  refine jT_xaload_n (v := (4, 0)) (pcN := 1) jIQ_298_0 rfl rfl rfl ?_
  refine jT_xiconst (k := 0) (pcN := 2) jIQ_298_1 rfl ?_
  refine jT_adv 1 (pcN := 5) (LN := [(0, (4, 0)), (1, (0, x1)), (2, (0, x2)), (3, (0, x3)), (4, (0, x4))]) (stN := []) (hsN := jpQ_21) (c1 := 0) (s1 := 0) (c2 := 0) (s2 := 0) (by exact rfl) ?_ (by omega) (by omega)
  refine jT_xaload_n (v := (4, 0)) (pcN := 6) jIQ_298_5 rfl rfl rfl ?_
  refine jT_xiload_n (v := (0, x1)) (pcN := 7) jIQ_298_6 rfl rfl rfl ?_
  refine jT_xi2l (x := x1) (z := x1) (pcN := 8) jIQ_298_7 rfl (jw_idd (by omega) (by omega)) rfl ?_
  refine jT_xlconst (z := 0) (pcN := 9) jIQ_298_8 rfl rfl ?_
  refine jT_adv 1 (pcN := 12) (LN := [(0, (4, 0)), (1, (0, x1)), (2, (0, x2)), (3, (0, x3)), (4, (0, x4))]) (stN := [(1, 20), (1, 0), (1, x1), (4, 0)]) (hsN := jpQ_21) (c1 := 0) (s1 := 0) (c2 := 0) (s2 := 0) (by exact rfl) ?_ (by omega) (by omega)
  refine jT_fR [] 16 (y := 189) (pcN := 15) (dC := 0) (bc1 := 0) (bc2 := 0) (c1 := 0) (c2 := 0) (as := [(1, x1), (1, 0), (1, 20)]) (asC := [(1, x1), (1, 0), (1, 20)]) (LN := [(0, (4, 0)), (1, (0, x1)), (2, (0, x2)), (3, (0, x3)), (4, (0, x4))]) (stN := [(4, 0)]) (hsC := []) (v := (0, 1)) (st2 := [(0, 1), (4, 0)]) (jT_in_ok (d := 0) (v := x1) (lo := 0) (hi := 20) (by omega) (by omega) (by omega) (by omega) (by omega)) (by rfl) (by rfl) (by decide +kernel) (by rfl) (by rfl) (by omega) (by omega) (by omega) (by omega) rfl ?_
  refine jT_xifF (t := 47) (pcN := 18) jIQ_298_15 rfl (by decide +kernel) rfl rfl ?_
  refine jT_xiload_n (v := (0, x2)) (pcN := 19) jIQ_298_18 rfl rfl rfl ?_
  refine jT_xi2l (x := x2) (z := x2) (pcN := 20) jIQ_298_19 rfl (jw_idd (by omega) (by omega)) rfl ?_
  refine jT_xlconst (z := 0) (pcN := 21) jIQ_298_20 rfl rfl ?_
  refine jT_adv 1 (pcN := 24) (LN := [(0, (4, 0)), (1, (0, x1)), (2, (0, x2)), (3, (0, x3)), (4, (0, x4))]) (stN := [(1, 10), (1, 0), (1, x2), (4, 0)]) (hsN := jpQ_21) (c1 := 0) (s1 := 0) (c2 := 0) (s2 := 0) (by exact rfl) ?_ (by omega) (by omega)
  refine jT_fR [] 16 (y := 189) (pcN := 27) (dC := 0) (bc1 := 0) (bc2 := 0) (c1 := 0) (c2 := 0) (as := [(1, x2), (1, 0), (1, 10)]) (asC := [(1, x2), (1, 0), (1, 10)]) (LN := [(0, (4, 0)), (1, (0, x1)), (2, (0, x2)), (3, (0, x3)), (4, (0, x4))]) (stN := [(4, 0)]) (hsC := []) (v := (0, 0)) (st2 := [(0, 0), (4, 0)]) (jT_in_lo (d := 0) (v := x2) (lo := 0) (hi := 10) (by omega) (by omega) (by omega) (by omega)) (by rfl) (by rfl) (by decide +kernel) (by rfl) (by rfl) (by omega) (by omega) (by omega) (by omega) rfl ?_
  refine jT_xifT (pcN := 47) jIQ_298_27 rfl (by decide +kernel) rfl ?_
  refine jT_xiconst (k := 0) (pcN := 48) jIQ_298_47 rfl ?_
  refine jT_xiconst (k := 1) (pcN := 49) jIQ_298_48 rfl ?_
  refine jT_fB [0, 1, 2, 3, 4, 5, 6, 7, 8, 9, 10, 11, 12, 13, 14, 15] 16 (y := 191) (pcN := 52) (dC := 0) (bc1 := 0) (bc2 := 0) (c1 := 0) (c2 := 0) (as := [(4, 0), (0, 0), (0, 1)]) (asC := [(4, 0), (0, 0), (0, 1)]) (LN := [(0, (4, 0)), (1, (0, x1)), (2, (0, x2)), (3, (0, x3)), (4, (0, x4))]) (stN := []) (hsC := jpQ_21) (hsD := jpQ_19) (v := (0, 1)) (st2 := [(0, 1)]) (hs2 := jpQ_19) (jQ_191_4 (d := 0)) (by rfl) (by rfl) (by decide +kernel) (by rfl) (by rfl) (by omega) (by omega) (by omega) (by omega) rfl (by decide +kernel) ?_
  refine jT_xifT (pcN := 67) jIQ_298_52 rfl (by decide +kernel) rfl ?_
  refine jT_xiconst (k := 0) (pcN := 68) jIQ_298_67 rfl ?_
  exact jT_ret rfl (by decide) (by show 16 ≤ 16; omega) (by omega) (by omega) ⟨rfl, rfl, rfl⟩
theorem jQ_116_12 {xs : List Int} {d : Nat} {x2 : Int} (h_x2 : 0 ≤ x2 ∧ x2 ≤ 10) : jT xs d 116 1 0 [(0, (4, 0)), (1, (0, x2)), (2, (0, 0)), (3, (0, 10))] [] [jgh] 0 0 (fun k v hsN => k = 0 ∧ v = (9, 0) ∧ hsN = [jgh] ++ []) := by
  refine jT_xiload_n (v := (0, x2)) (pcN := 1) jIQ_116_0 rfl rfl rfl ?_
  refine jT_xiload_n (v := (0, 0)) (pcN := 2) jIQ_116_1 rfl rfl rfl ?_
  refine jT_icF (a := x2) (b := 0) (t := 10) (by rfl) (by rfl) (by rfl) (jw_idd (by omega) (by omega)) (jw_idd (by omega) (by omega)) (by simp only [jcP] <;> omega) ?_
  refine jT_xiload_n (v := (0, x2)) (pcN := 6) jIQ_116_5 rfl rfl rfl ?_
  refine jT_xiload_n (v := (0, 10)) (pcN := 7) jIQ_116_6 rfl rfl rfl ?_
  refine jT_icT (a := x2) (b := 10) (t := 21) (by rfl) (by rfl) (by rfl) (jw_idd (by omega) (by omega)) (jw_idd (by omega) (by omega)) (by simp only [jcP] <;> omega) ?_
  exact jT_ret rfl (by decide) (by show 1 ≤ 1; omega) (by omega) (by omega) ⟨rfl, rfl, rfl⟩
theorem jQ_116_13 {xs : List Int} {d : Nat} {x4 : Int} (h_x4 : (-2147483648) ≤ x4 ∧ x4 ≤ (-1)) : jT xs d 116 1 0 [(0, (4, 0)), (1, (0, x4)), (2, (0, 0)), (3, (0, 100))] [] [jgh] 1 6 (fun k v hsN => k = 1 ∧ v = (0, 1) ∧ hsN = [jgh] ++ []) := by
  refine jT_xiload_n (v := (0, x4)) (pcN := 1) jIQ_116_0 rfl rfl rfl ?_
  refine jT_xiload_n (v := (0, 0)) (pcN := 2) jIQ_116_1 rfl rfl rfl ?_
  refine jT_icT (a := x4) (b := 0) (t := 10) (by rfl) (by rfl) (by rfl) (jw_idd (by omega) (by omega)) (jw_idd (by omega) (by omega)) (by simp only [jcP] <;> omega) ?_
  exact jT_ret (c1 := 1) (s1 := 6) rfl (by decide) (by show 1 ≤ 1; omega) (by omega) (by omega) ⟨rfl, rfl, rfl⟩
theorem jIQ_160_16 : jmI (jm 160) 16 = (.aload_n 0, 1) := by rfl
theorem jIQ_160_17 : jmI (jm 160) 17 = (.iload 4, 2) := by rfl
theorem jIQ_160_19 : jmI (jm 160) 19 = (.iconst 0, 1) := by rfl
theorem jIQ_160_20 : jmI (jm 160) 20 = (.bipush 100, 2) := by rfl
theorem jQ_160_14 {xs : List Int} {d : Nat} {x1 x2 x3 x4 : Int} (h_x1 : 0 ≤ x1 ∧ x1 ≤ 20) (h_x2 : 0 ≤ x2 ∧ x2 ≤ 10) (h_x3 : (-2147483648) ≤ x3 ∧ x3 ≤ 2147483647) (h_x4 : (-2147483648) ≤ x4 ∧ x4 ≤ (-1)) : jT xs (d + 1) 160 12 0 [(0, (4, 0)), (1, (0, x1)), (2, (0, x2)), (3, (0, x3)), (4, (0, x4))] [] jpQ_8 1 6 (fun k v hsN => k = 1 ∧ v = (0, 1) ∧ hsN = jpQ_8 ++ []) := by
  refine jT_xaload_n (v := (4, 0)) (pcN := 1) jIQ_160_0 rfl rfl rfl ?_
  refine jT_xiload_n (v := (0, x1)) (pcN := 2) jIQ_160_1 rfl rfl rfl ?_
  refine jT_xiconst (k := 0) (pcN := 3) jIQ_160_2 rfl ?_
  refine jT_xbipush (k := 20) (pcN := 5) jIQ_160_3 (by decide) rfl ?_
  refine jT_fR [0] 12 (y := 116) (pcN := 8) (dC := 0) (bc1 := 0) (bc2 := 0) (c1 := 1) (c2 := 6) (as := [(4, 0), (0, x1), (0, 0), (0, 20)]) (asC := [(4, 0), (0, x1), (0, 0), (0, 20)]) (LN := [(0, (4, 0)), (1, (0, x1)), (2, (0, x2)), (3, (0, x3)), (4, (0, x4))]) (stN := []) (hsC := [jgh]) (v := (9, 0)) (st2 := []) (jQ_116_7 (d := 0) (by omega)) (by rfl) (by rfl) (by decide +kernel) (by rfl) (by rfl) (by omega) (by omega) (by omega) (by omega) rfl ?_
  refine jT_xaload_n (v := (4, 0)) (pcN := 9) jIQ_160_8 rfl rfl rfl ?_
  refine jT_xiload_n (v := (0, x2)) (pcN := 10) jIQ_160_9 rfl rfl rfl ?_
  refine jT_xiconst (k := 0) (pcN := 11) jIQ_160_10 rfl ?_
  refine jT_xbipush (k := 10) (pcN := 13) jIQ_160_11 (by decide) rfl ?_
  refine jT_fR [0] 12 (y := 116) (pcN := 16) (dC := 0) (bc1 := 0) (bc2 := 0) (c1 := 1) (c2 := 6) (as := [(4, 0), (0, x2), (0, 0), (0, 10)]) (asC := [(4, 0), (0, x2), (0, 0), (0, 10)]) (LN := [(0, (4, 0)), (1, (0, x1)), (2, (0, x2)), (3, (0, x3)), (4, (0, x4))]) (stN := []) (hsC := [jgh]) (v := (9, 0)) (st2 := []) (jQ_116_12 (d := 0) (by omega)) (by rfl) (by rfl) (by decide +kernel) (by rfl) (by rfl) (by omega) (by omega) (by omega) (by omega) rfl ?_
  refine jT_xaload_n (v := (4, 0)) (pcN := 17) jIQ_160_16 rfl rfl rfl ?_
  refine jT_xiload (v := (0, x4)) (pcN := 19) jIQ_160_17 rfl rfl rfl ?_
  refine jT_xiconst (k := 0) (pcN := 20) jIQ_160_19 rfl ?_
  refine jT_xbipush (k := 100) (pcN := 22) jIQ_160_20 (by decide) rfl ?_
  exact jT_fX [0] 12 (y := 116) (pcN := 25) (dC := 0) (bc1 := 1) (bc2 := 6) (as := [(4, 0), (0, x4), (0, 0), (0, 100)]) (asC := [(4, 0), (0, x4), (0, 0), (0, 100)]) (LN := [(0, (4, 0)), (1, (0, x1)), (2, (0, x2)), (3, (0, x3)), (4, (0, x4))]) (stN := []) (hsC := [jgh]) (e := 1) (jQ_116_13 (d := 0) (by omega)) (by rfl) (by rfl) (by decide +kernel) (by rfl) (by rfl) (by omega) (by omega) (by omega) (by omega) ⟨rfl, ⟨rfl, rfl, rfl⟩⟩
theorem jQ_362_15 {xs : List Int} {d : Nat} {x1 x2 x3 x4 : Int} (h_x1 : 0 ≤ x1 ∧ x1 ≤ 20) (h_x2 : 0 ≤ x2 ∧ x2 ≤ 10) (h_x3 : (-2147483648) ≤ x3 ∧ x3 ≤ 2147483647) (h_x4 : (-2147483648) ≤ x4 ∧ x4 ≤ (-1)) : jT xs (d + 2) 362 13 0 [(0, (4, 0)), (1, (0, x1)), (2, (0, x2)), (3, (0, x3)), (4, (0, x4)), (5, (4, 1))] [] jpQ_17 1 6 (fun k v hsN => k = 0 ∧ v = (0, 1) ∧ hsN = jpQ_17 ++ []) := by
  refine jT_xaload (v := (4, 1)) (pcN := 2) jIQ_362_0 rfl rfl rfl ?_
  refine jT_xiconst (k := 0) (pcN := 3) jIQ_362_2 rfl ?_
  refine jT_xaload_n (v := (4, 0)) (pcN := 4) jIQ_362_3 rfl rfl rfl ?_
  refine jT_xiload_n (v := (0, x1)) (pcN := 5) jIQ_362_4 rfl rfl rfl ?_
  refine jT_xiload_n (v := (0, x2)) (pcN := 6) jIQ_362_5 rfl rfl rfl ?_
  refine jT_xiload_n (v := (0, x3)) (pcN := 7) jIQ_362_6 rfl rfl rfl ?_
  refine jT_xiload (v := (0, x4)) (pcN := 9) jIQ_362_7 rfl rfl rfl ?_
  exact jT_fX [0, 2, 3, 4, 5, 6, 7, 8, 9, 10, 11, 12] 13 (y := 160) (pcN := 12) (dC := 1) (bc1 := 1) (bc2 := 6) (as := [(4, 0), (0, x1), (0, x2), (0, x3), (0, x4)]) (asC := [(4, 0), (0, x1), (0, x2), (0, x3), (0, x4)]) (LN := [(0, (4, 0)), (1, (0, x1)), (2, (0, x2)), (3, (0, x3)), (4, (0, x4)), (5, (4, 1))]) (stN := [(0, 0), (4, 1)]) (hsC := jpQ_8) (e := 1) (jQ_160_14 (d := 0) (by omega) (by omega) (by omega) (by omega)) (by rfl) (by rfl) (by decide +kernel) (by rfl) (by rfl) (by omega) (by omega) (by omega) (by omega) (show _ from ⟨rfl, rfl, rfl⟩)
theorem jIQ_298_30 : jmI (jm 298) 30 = (.iload 4, 2) := by rfl
theorem jIQ_298_32 : jmI (jm 298) 32 = (.i2l, 1) := by rfl
theorem jIQ_298_33 : jmI (jm 298) 33 = (.lconst 0, 1) := by rfl
theorem jIQ_298_40 : jmI (jm 298) 40 = (.ifCond .eq 7, 3) := by rfl
theorem jQ_298_16 {xs : List Int} {d : Nat} {x1 x2 x3 x4 : Int} (h_x1 : 0 ≤ x1 ∧ x1 ≤ 20) (h_x2 : 0 ≤ x2 ∧ x2 ≤ 10) (h_x3 : (-2147483648) ≤ x3 ∧ x3 ≤ 2147483647) (h_x4 : (-2147483648) ≤ x4 ∧ x4 ≤ (-1)) : jT xs (d + 1) 298 16 0 [(0, (4, 0)), (1, (0, x1)), (2, (0, x2)), (3, (0, x3)), (4, (0, x4))] [] jpQ_21 0 0 (fun k v hsN => k = 0 ∧ v = (0, 0) ∧ hsN = jpQ_19) := by
  refine jT_xaload_n (v := (4, 0)) (pcN := 1) jIQ_298_0 rfl rfl rfl ?_
  refine jT_xiconst (k := 0) (pcN := 2) jIQ_298_1 rfl ?_
  refine jT_adv 1 (pcN := 5) (LN := [(0, (4, 0)), (1, (0, x1)), (2, (0, x2)), (3, (0, x3)), (4, (0, x4))]) (stN := []) (hsN := jpQ_21) (c1 := 0) (s1 := 0) (c2 := 0) (s2 := 0) (by exact rfl) ?_ (by omega) (by omega)
  refine jT_xaload_n (v := (4, 0)) (pcN := 6) jIQ_298_5 rfl rfl rfl ?_
  refine jT_xiload_n (v := (0, x1)) (pcN := 7) jIQ_298_6 rfl rfl rfl ?_
  refine jT_xi2l (x := x1) (z := x1) (pcN := 8) jIQ_298_7 rfl (jw_idd (by omega) (by omega)) rfl ?_
  refine jT_xlconst (z := 0) (pcN := 9) jIQ_298_8 rfl rfl ?_
  refine jT_adv 1 (pcN := 12) (LN := [(0, (4, 0)), (1, (0, x1)), (2, (0, x2)), (3, (0, x3)), (4, (0, x4))]) (stN := [(1, 20), (1, 0), (1, x1), (4, 0)]) (hsN := jpQ_21) (c1 := 0) (s1 := 0) (c2 := 0) (s2 := 0) (by exact rfl) ?_ (by omega) (by omega)
  refine jT_fR [] 16 (y := 189) (pcN := 15) (dC := 0) (bc1 := 0) (bc2 := 0) (c1 := 0) (c2 := 0) (as := [(1, x1), (1, 0), (1, 20)]) (asC := [(1, x1), (1, 0), (1, 20)]) (LN := [(0, (4, 0)), (1, (0, x1)), (2, (0, x2)), (3, (0, x3)), (4, (0, x4))]) (stN := [(4, 0)]) (hsC := []) (v := (0, 1)) (st2 := [(0, 1), (4, 0)]) (jT_in_ok (d := 0) (v := x1) (lo := 0) (hi := 20) (by omega) (by omega) (by omega) (by omega) (by omega)) (by rfl) (by rfl) (by decide +kernel) (by rfl) (by rfl) (by omega) (by omega) (by omega) (by omega) rfl ?_
  refine jT_xifF (t := 47) (pcN := 18) jIQ_298_15 rfl (by decide +kernel) rfl rfl ?_
  refine jT_xiload_n (v := (0, x2)) (pcN := 19) jIQ_298_18 rfl rfl rfl ?_
  refine jT_xi2l (x := x2) (z := x2) (pcN := 20) jIQ_298_19 rfl (jw_idd (by omega) (by omega)) rfl ?_
  refine jT_xlconst (z := 0) (pcN := 21) jIQ_298_20 rfl rfl ?_
  refine jT_adv 1 (pcN := 24) (LN := [(0, (4, 0)), (1, (0, x1)), (2, (0, x2)), (3, (0, x3)), (4, (0, x4))]) (stN := [(1, 10), (1, 0), (1, x2), (4, 0)]) (hsN := jpQ_21) (c1 := 0) (s1 := 0) (c2 := 0) (s2 := 0) (by exact rfl) ?_ (by omega) (by omega)
  refine jT_fR [] 16 (y := 189) (pcN := 27) (dC := 0) (bc1 := 0) (bc2 := 0) (c1 := 0) (c2 := 0) (as := [(1, x2), (1, 0), (1, 10)]) (asC := [(1, x2), (1, 0), (1, 10)]) (LN := [(0, (4, 0)), (1, (0, x1)), (2, (0, x2)), (3, (0, x3)), (4, (0, x4))]) (stN := [(4, 0)]) (hsC := []) (v := (0, 1)) (st2 := [(0, 1), (4, 0)]) (jT_in_ok (d := 0) (v := x2) (lo := 0) (hi := 10) (by omega) (by omega) (by omega) (by omega) (by omega)) (by rfl) (by rfl) (by decide +kernel) (by rfl) (by rfl) (by omega) (by omega) (by omega) (by omega) rfl ?_
  refine jT_xifF (t := 47) (pcN := 30) jIQ_298_27 rfl (by decide +kernel) rfl rfl ?_
  refine jT_xiload (v := (0, x4)) (pcN := 32) jIQ_298_30 rfl rfl rfl ?_
  refine jT_xi2l (x := x4) (z := x4) (pcN := 33) jIQ_298_32 rfl (jw_idd (by omega) (by omega)) rfl ?_
  refine jT_xlconst (z := 0) (pcN := 34) jIQ_298_33 rfl rfl ?_
  refine jT_adv 1 (pcN := 37) (LN := [(0, (4, 0)), (1, (0, x1)), (2, (0, x2)), (3, (0, x3)), (4, (0, x4))]) (stN := [(1, 100), (1, 0), (1, x4), (4, 0)]) (hsN := jpQ_21) (c1 := 0) (s1 := 0) (c2 := 0) (s2 := 0) (by exact rfl) ?_ (by omega) (by omega)
  refine jT_fR [] 16 (y := 189) (pcN := 40) (dC := 0) (bc1 := 0) (bc2 := 0) (c1 := 0) (c2 := 0) (as := [(1, x4), (1, 0), (1, 100)]) (asC := [(1, x4), (1, 0), (1, 100)]) (LN := [(0, (4, 0)), (1, (0, x1)), (2, (0, x2)), (3, (0, x3)), (4, (0, x4))]) (stN := [(4, 0)]) (hsC := []) (v := (0, 0)) (st2 := [(0, 0), (4, 0)]) (jT_in_lo (d := 0) (v := x4) (lo := 0) (hi := 100) (by omega) (by omega) (by omega) (by omega)) (by rfl) (by rfl) (by decide +kernel) (by rfl) (by rfl) (by omega) (by omega) (by omega) (by omega) rfl ?_
  refine jT_xifT (pcN := 47) jIQ_298_40 rfl (by decide +kernel) rfl ?_
  refine jT_xiconst (k := 0) (pcN := 48) jIQ_298_47 rfl ?_
  refine jT_xiconst (k := 1) (pcN := 49) jIQ_298_48 rfl ?_
  refine jT_fB [0, 1, 2, 3, 4, 5, 6, 7, 8, 9, 10, 11, 12, 13, 14, 15] 16 (y := 191) (pcN := 52) (dC := 0) (bc1 := 0) (bc2 := 0) (c1 := 0) (c2 := 0) (as := [(4, 0), (0, 0), (0, 1)]) (asC := [(4, 0), (0, 0), (0, 1)]) (LN := [(0, (4, 0)), (1, (0, x1)), (2, (0, x2)), (3, (0, x3)), (4, (0, x4))]) (stN := []) (hsC := jpQ_21) (hsD := jpQ_19) (v := (0, 1)) (st2 := [(0, 1)]) (hs2 := jpQ_19) (jQ_191_4 (d := 0)) (by rfl) (by rfl) (by decide +kernel) (by rfl) (by rfl) (by omega) (by omega) (by omega) (by omega) rfl (by decide +kernel) ?_
  refine jT_xifT (pcN := 67) jIQ_298_52 rfl (by decide +kernel) rfl ?_
  refine jT_xiconst (k := 0) (pcN := 68) jIQ_298_67 rfl ?_
  exact jT_ret rfl (by decide) (by show 16 ≤ 16; omega) (by omega) (by omega) ⟨rfl, rfl, rfl⟩
theorem jQ_116_17 {xs : List Int} {d : Nat} {x4 : Int} (h_x4 : 0 ≤ x4 ∧ x4 ≤ 100) : jT xs d 116 1 0 [(0, (4, 0)), (1, (0, x4)), (2, (0, 0)), (3, (0, 100))] [] [jgh] 0 0 (fun k v hsN => k = 0 ∧ v = (9, 0) ∧ hsN = [jgh] ++ []) := by
  refine jT_xiload_n (v := (0, x4)) (pcN := 1) jIQ_116_0 rfl rfl rfl ?_
  refine jT_xiload_n (v := (0, 0)) (pcN := 2) jIQ_116_1 rfl rfl rfl ?_
  refine jT_icF (a := x4) (b := 0) (t := 10) (by rfl) (by rfl) (by rfl) (jw_idd (by omega) (by omega)) (jw_idd (by omega) (by omega)) (by simp only [jcP] <;> omega) ?_
  refine jT_xiload_n (v := (0, x4)) (pcN := 6) jIQ_116_5 rfl rfl rfl ?_
  refine jT_xiload_n (v := (0, 100)) (pcN := 7) jIQ_116_6 rfl rfl rfl ?_
  refine jT_icT (a := x4) (b := 100) (t := 21) (by rfl) (by rfl) (by rfl) (jw_idd (by omega) (by omega)) (jw_idd (by omega) (by omega)) (by simp only [jcP] <;> omega) ?_
  exact jT_ret rfl (by decide) (by show 1 ≤ 1; omega) (by omega) (by omega) ⟨rfl, rfl, rfl⟩
theorem jIQ_115_0 : jmI (jm 115) 0 = (.iload_n 1, 1) := by rfl
theorem jIQ_115_1 : jmI (jm 115) 1 = (.ifCond .lt 8, 3) := by rfl
theorem jQ_115_18 {xs : List Int} {d : Nat} {x3 : Int} (h_x3 : (-2147483648) ≤ x3 ∧ x3 ≤ (-1)) : jT xs d 115 1 0 [(0, (4, 0)), (1, (0, x3)), (2, (0, 8))] [] [jgh] 1 6 (fun k v hsN => k = 1 ∧ v = (0, 0) ∧ hsN = [jgh] ++ []) := by
  refine jT_xiload_n (v := (0, x3)) (pcN := 1) jIQ_115_0 rfl rfl rfl ?_
  refine jT_ifT (a := x3) (t := 9) (by rfl) (by rfl) (by rfl) (jw_idd (by omega) (by omega)) (by simp only [jcP] <;> omega) ?_
  exact jT_ret (c1 := 1) (s1 := 6) rfl (by decide) (by show 1 ≤ 1; omega) (by omega) (by omega) ⟨rfl, rfl, rfl⟩
theorem jIQ_160_25 : jmI (jm 160) 25 = (.aload_n 0, 1) := by rfl
theorem jIQ_160_26 : jmI (jm 160) 26 = (.iload_n 3, 1) := by rfl
theorem jIQ_160_27 : jmI (jm 160) 27 = (.bipush 8, 2) := by rfl
theorem jQ_160_19 {xs : List Int} {d : Nat} {x1 x2 x3 x4 : Int} (h_x1 : 0 ≤ x1 ∧ x1 ≤ 20) (h_x2 : 0 ≤ x2 ∧ x2 ≤ 10) (h_x3 : (-2147483648) ≤ x3 ∧ x3 ≤ (-1)) (h_x4 : 0 ≤ x4 ∧ x4 ≤ 100) : jT xs (d + 1) 160 12 0 [(0, (4, 0)), (1, (0, x1)), (2, (0, x2)), (3, (0, x3)), (4, (0, x4))] [] jpQ_8 1 6 (fun k v hsN => k = 1 ∧ v = (0, 0) ∧ hsN = jpQ_8 ++ []) := by
  refine jT_xaload_n (v := (4, 0)) (pcN := 1) jIQ_160_0 rfl rfl rfl ?_
  refine jT_xiload_n (v := (0, x1)) (pcN := 2) jIQ_160_1 rfl rfl rfl ?_
  refine jT_xiconst (k := 0) (pcN := 3) jIQ_160_2 rfl ?_
  refine jT_xbipush (k := 20) (pcN := 5) jIQ_160_3 (by decide) rfl ?_
  refine jT_fR [0] 12 (y := 116) (pcN := 8) (dC := 0) (bc1 := 0) (bc2 := 0) (c1 := 1) (c2 := 6) (as := [(4, 0), (0, x1), (0, 0), (0, 20)]) (asC := [(4, 0), (0, x1), (0, 0), (0, 20)]) (LN := [(0, (4, 0)), (1, (0, x1)), (2, (0, x2)), (3, (0, x3)), (4, (0, x4))]) (stN := []) (hsC := [jgh]) (v := (9, 0)) (st2 := []) (jQ_116_7 (d := 0) (by omega)) (by rfl) (by rfl) (by decide +kernel) (by rfl) (by rfl) (by omega) (by omega) (by omega) (by omega) rfl ?_
  refine jT_xaload_n (v := (4, 0)) (pcN := 9) jIQ_160_8 rfl rfl rfl ?_
  refine jT_xiload_n (v := (0, x2)) (pcN := 10) jIQ_160_9 rfl rfl rfl ?_
  refine jT_xiconst (k := 0) (pcN := 11) jIQ_160_10 rfl ?_
  refine jT_xbipush (k := 10) (pcN := 13) jIQ_160_11 (by decide) rfl ?_
  refine jT_fR [0] 12 (y := 116) (pcN := 16) (dC := 0) (bc1 := 0) (bc2 := 0) (c1 := 1) (c2 := 6) (as := [(4, 0), (0, x2), (0, 0), (0, 10)]) (asC := [(4, 0), (0, x2), (0, 0), (0, 10)]) (LN := [(0, (4, 0)), (1, (0, x1)), (2, (0, x2)), (3, (0, x3)), (4, (0, x4))]) (stN := []) (hsC := [jgh]) (v := (9, 0)) (st2 := []) (jQ_116_12 (d := 0) (by omega)) (by rfl) (by rfl) (by decide +kernel) (by rfl) (by rfl) (by omega) (by omega) (by omega) (by omega) rfl ?_
  refine jT_xaload_n (v := (4, 0)) (pcN := 17) jIQ_160_16 rfl rfl rfl ?_
  refine jT_xiload (v := (0, x4)) (pcN := 19) jIQ_160_17 rfl rfl rfl ?_
  refine jT_xiconst (k := 0) (pcN := 20) jIQ_160_19 rfl ?_
  refine jT_xbipush (k := 100) (pcN := 22) jIQ_160_20 (by decide) rfl ?_
  refine jT_fR [0] 12 (y := 116) (pcN := 25) (dC := 0) (bc1 := 0) (bc2 := 0) (c1 := 1) (c2 := 6) (as := [(4, 0), (0, x4), (0, 0), (0, 100)]) (asC := [(4, 0), (0, x4), (0, 0), (0, 100)]) (LN := [(0, (4, 0)), (1, (0, x1)), (2, (0, x2)), (3, (0, x3)), (4, (0, x4))]) (stN := []) (hsC := [jgh]) (v := (9, 0)) (st2 := []) (jQ_116_17 (d := 0) (by omega)) (by rfl) (by rfl) (by decide +kernel) (by rfl) (by rfl) (by omega) (by omega) (by omega) (by omega) rfl ?_
  refine jT_xaload_n (v := (4, 0)) (pcN := 26) jIQ_160_25 rfl rfl rfl ?_
  refine jT_xiload_n (v := (0, x3)) (pcN := 27) jIQ_160_26 rfl rfl rfl ?_
  refine jT_xbipush (k := 8) (pcN := 29) jIQ_160_27 (by decide) rfl ?_
  exact jT_fX [0] 12 (y := 115) (pcN := 32) (dC := 0) (bc1 := 1) (bc2 := 6) (as := [(4, 0), (0, x3), (0, 8)]) (asC := [(4, 0), (0, x3), (0, 8)]) (LN := [(0, (4, 0)), (1, (0, x1)), (2, (0, x2)), (3, (0, x3)), (4, (0, x4))]) (stN := []) (hsC := [jgh]) (e := 0) (jQ_115_18 (d := 0) (by omega)) (by rfl) (by rfl) (by decide +kernel) (by rfl) (by rfl) (by omega) (by omega) (by omega) (by omega) ⟨rfl, ⟨rfl, rfl, rfl⟩⟩
theorem jQ_362_20 {xs : List Int} {d : Nat} {x1 x2 x3 x4 : Int} (h_x1 : 0 ≤ x1 ∧ x1 ≤ 20) (h_x2 : 0 ≤ x2 ∧ x2 ≤ 10) (h_x3 : (-2147483648) ≤ x3 ∧ x3 ≤ (-1)) (h_x4 : 0 ≤ x4 ∧ x4 ≤ 100) : jT xs (d + 2) 362 13 0 [(0, (4, 0)), (1, (0, x1)), (2, (0, x2)), (3, (0, x3)), (4, (0, x4)), (5, (4, 1))] [] jpQ_17 1 6 (fun k v hsN => k = 0 ∧ v = (0, 2) ∧ hsN = jpQ_17 ++ []) := by
  refine jT_xaload (v := (4, 1)) (pcN := 2) jIQ_362_0 rfl rfl rfl ?_
  refine jT_xiconst (k := 0) (pcN := 3) jIQ_362_2 rfl ?_
  refine jT_xaload_n (v := (4, 0)) (pcN := 4) jIQ_362_3 rfl rfl rfl ?_
  refine jT_xiload_n (v := (0, x1)) (pcN := 5) jIQ_362_4 rfl rfl rfl ?_
  refine jT_xiload_n (v := (0, x2)) (pcN := 6) jIQ_362_5 rfl rfl rfl ?_
  refine jT_xiload_n (v := (0, x3)) (pcN := 7) jIQ_362_6 rfl rfl rfl ?_
  refine jT_xiload (v := (0, x4)) (pcN := 9) jIQ_362_7 rfl rfl rfl ?_
  exact jT_fX [0, 2, 3, 4, 5, 6, 7, 8, 9, 10, 11, 12] 13 (y := 160) (pcN := 12) (dC := 1) (bc1 := 1) (bc2 := 6) (as := [(4, 0), (0, x1), (0, x2), (0, x3), (0, x4)]) (asC := [(4, 0), (0, x1), (0, x2), (0, x3), (0, x4)]) (LN := [(0, (4, 0)), (1, (0, x1)), (2, (0, x2)), (3, (0, x3)), (4, (0, x4)), (5, (4, 1))]) (stN := [(0, 0), (4, 1)]) (hsC := jpQ_8) (e := 0) (jQ_160_19 (d := 0) (by omega) (by omega) (by omega) (by omega)) (by rfl) (by rfl) (by decide +kernel) (by rfl) (by rfl) (by omega) (by omega) (by omega) (by omega) (show _ from ⟨rfl, rfl, rfl⟩)
theorem jQ_191_21 {xs : List Int} {d : Nat} : jT xs d 191 1 0 [(0, (4, 0)), (1, (0, 1)), (2, (0, 1))] [] [jgh] 0 0 (fun k v hsN => k = 0 ∧ v = (0, 0) ∧ hsN = [jgh] ++ []) := by
  refine jT_advK 5 (pcN := 18) (LN := [(0, (4, 0)), (1, (0, 1)), (2, (0, 1))]) (stN := [(0, 0)]) (hsN := [jgh]) (c1 := 0) (s1 := 0) (c2 := 0) (s2 := 0) (by decide +kernel) ?_ (by omega) (by omega)
  exact jT_ret rfl (by decide) (by show 1 ≤ 1; omega) (by omega) (by omega) ⟨rfl, rfl, rfl⟩
theorem jIQ_188_0 : jmI (jm 188) 0 = (.iload_n 0, 1) := by rfl
theorem jIQ_188_1 : jmI (jm 188) 1 = (.i2l, 1) := by rfl
theorem jIQ_188_2 : jmI (jm 188) 2 = (.lconst 0, 1) := by rfl
theorem jQ_188_22 {xs : List Int} {d : Nat} {x3 : Int} (h_x3 : (-2147483648) ≤ x3 ∧ x3 ≤ (-1)) : jT xs (d + 1) 188 0 0 [(0, (0, x3))] [] [] 0 0 (fun k v hsN => k = 0 ∧ v = (0, 0) ∧ hsN = [] ++ []) := by
  refine jT_xiload_n (v := (0, x3)) (pcN := 1) jIQ_188_0 rfl rfl rfl ?_
  refine jT_xi2l (x := x3) (z := x3) (pcN := 2) jIQ_188_1 rfl (jw_idd (by omega) (by omega)) rfl ?_
  refine jT_xlconst (z := 0) (pcN := 3) jIQ_188_2 rfl rfl ?_
  refine jT_adv 1 (pcN := 6) (LN := [(0, (0, x3))]) (stN := [(1, 7), (1, 0), (1, x3)]) (hsN := []) (c1 := 0) (s1 := 0) (c2 := 0) (s2 := 0) (by exact rfl) ?_ (by omega) (by omega)
  refine jT_fR [] 0 (y := 189) (pcN := 9) (dC := 0) (bc1 := 0) (bc2 := 0) (c1 := 0) (c2 := 0) (as := [(1, x3), (1, 0), (1, 7)]) (asC := [(1, x3), (1, 0), (1, 7)]) (LN := [(0, (0, x3))]) (stN := []) (hsC := []) (v := (0, 0)) (st2 := [(0, 0)]) (jT_in_lo (d := 0) (v := x3) (lo := 0) (hi := 7) (by omega) (by omega) (by omega) (by omega)) (by rfl) (by rfl) (by decide +kernel) (by rfl) (by rfl) (by omega) (by omega) (by omega) (by omega) rfl ?_
  exact jT_ret rfl (by decide) (by show 0 ≤ 0; omega) (by omega) (by omega) ⟨rfl, rfl, rfl⟩
def jzQ_60 : JC := (14, [(0, 2), (4, 1), (4, 2), (4, 3), (4, 4), (0, 0), (4, 5), (0, 0), (4, 6), (4, 7), (1, 1), (4, 8), (0, 0), (4, 9), (0, 0), (0, 0), (0, 0), (0, 0), (0, 0), (0, 0), (0, 0), (4, 10), (4, 11), (4, 12), (4, 13), (4, 14), (4, 15), (0, 0)], [])
def jpQ_61 : List JC := [jzQ_60, jgh, jgh, jgh, jgh, jgh, jgh, jgh, jgh, jgh, jgh, jgh, jgh, jgh, jgh, jgh]
theorem jQ_191_23 {xs : List Int} {d : Nat} : jT xs d 191 16 0 [(0, (4, 0)), (1, (0, 0)), (2, (0, 2))] [] jpQ_21 0 0 (fun k v hsN => k = 0 ∧ v = (0, 1) ∧ hsN = jpQ_61) := by
  refine jT_advK 9 (pcN := 18) (LN := [(0, (4, 0)), (1, (0, 0)), (2, (0, 2))]) (stN := [(0, 1)]) (hsN := jpQ_61) (c1 := 0) (s1 := 0) (c2 := 0) (s2 := 0) (by decide +kernel) ?_ (by omega) (by omega)
  exact jT_ret rfl (by decide) (by show 16 ≤ 16; omega) (by omega) (by omega) ⟨rfl, rfl, rfl⟩
theorem jIQ_298_43 : jmI (jm 298) 43 = (.iconst 1, 1) := by rfl
theorem jIQ_298_44 : jmI (jm 298) 44 = (.goto 4, 3) := by rfl
theorem jIQ_298_55 : jmI (jm 298) 55 = (.aload_n 0, 1) := by rfl
theorem jIQ_298_56 : jmI (jm 298) 56 = (.iload_n 3, 1) := by rfl
theorem jIQ_298_60 : jmI (jm 298) 60 = (.iconst 2, 1) := by rfl
theorem jIQ_298_64 : jmI (jm 298) 64 = (.ifCond .eq 5, 3) := by rfl
theorem jQ_298_24 {xs : List Int} {d : Nat} {x1 x2 x3 x4 : Int} (h_x1 : 0 ≤ x1 ∧ x1 ≤ 20) (h_x2 : 0 ≤ x2 ∧ x2 ≤ 10) (h_x3 : (-2147483648) ≤ x3 ∧ x3 ≤ (-1)) (h_x4 : 0 ≤ x4 ∧ x4 ≤ 100) : jT xs (d + 2) 298 16 0 [(0, (4, 0)), (1, (0, x1)), (2, (0, x2)), (3, (0, x3)), (4, (0, x4))] [] jpQ_21 0 0 (fun k v hsN => k = 0 ∧ v = (0, 0) ∧ hsN = jpQ_61) := by
  refine jT_xaload_n (v := (4, 0)) (pcN := 1) jIQ_298_0 rfl rfl rfl ?_
  refine jT_xiconst (k := 0) (pcN := 2) jIQ_298_1 rfl ?_
  refine jT_adv 1 (pcN := 5) (LN := [(0, (4, 0)), (1, (0, x1)), (2, (0, x2)), (3, (0, x3)), (4, (0, x4))]) (stN := []) (hsN := jpQ_21) (c1 := 0) (s1 := 0) (c2 := 0) (s2 := 0) (by exact rfl) ?_ (by omega) (by omega)
  refine jT_xaload_n (v := (4, 0)) (pcN := 6) jIQ_298_5 rfl rfl rfl ?_
  refine jT_xiload_n (v := (0, x1)) (pcN := 7) jIQ_298_6 rfl rfl rfl ?_
  refine jT_xi2l (x := x1) (z := x1) (pcN := 8) jIQ_298_7 rfl (jw_idd (by omega) (by omega)) rfl ?_
  refine jT_xlconst (z := 0) (pcN := 9) jIQ_298_8 rfl rfl ?_
  refine jT_adv 1 (pcN := 12) (LN := [(0, (4, 0)), (1, (0, x1)), (2, (0, x2)), (3, (0, x3)), (4, (0, x4))]) (stN := [(1, 20), (1, 0), (1, x1), (4, 0)]) (hsN := jpQ_21) (c1 := 0) (s1 := 0) (c2 := 0) (s2 := 0) (by exact rfl) ?_ (by omega) (by omega)
  refine jT_fR [] 16 (y := 189) (pcN := 15) (dC := 0) (bc1 := 0) (bc2 := 0) (c1 := 0) (c2 := 0) (as := [(1, x1), (1, 0), (1, 20)]) (asC := [(1, x1), (1, 0), (1, 20)]) (LN := [(0, (4, 0)), (1, (0, x1)), (2, (0, x2)), (3, (0, x3)), (4, (0, x4))]) (stN := [(4, 0)]) (hsC := []) (v := (0, 1)) (st2 := [(0, 1), (4, 0)]) (jT_in_ok (d := 0) (v := x1) (lo := 0) (hi := 20) (by omega) (by omega) (by omega) (by omega) (by omega)) (by rfl) (by rfl) (by decide +kernel) (by rfl) (by rfl) (by omega) (by omega) (by omega) (by omega) rfl ?_
  refine jT_xifF (t := 47) (pcN := 18) jIQ_298_15 rfl (by decide +kernel) rfl rfl ?_
  refine jT_xiload_n (v := (0, x2)) (pcN := 19) jIQ_298_18 rfl rfl rfl ?_
  refine jT_xi2l (x := x2) (z := x2) (pcN := 20) jIQ_298_19 rfl (jw_idd (by omega) (by omega)) rfl ?_
  refine jT_xlconst (z := 0) (pcN := 21) jIQ_298_20 rfl rfl ?_
  refine jT_adv 1 (pcN := 24) (LN := [(0, (4, 0)), (1, (0, x1)), (2, (0, x2)), (3, (0, x3)), (4, (0, x4))]) (stN := [(1, 10), (1, 0), (1, x2), (4, 0)]) (hsN := jpQ_21) (c1 := 0) (s1 := 0) (c2 := 0) (s2 := 0) (by exact rfl) ?_ (by omega) (by omega)
  refine jT_fR [] 16 (y := 189) (pcN := 27) (dC := 0) (bc1 := 0) (bc2 := 0) (c1 := 0) (c2 := 0) (as := [(1, x2), (1, 0), (1, 10)]) (asC := [(1, x2), (1, 0), (1, 10)]) (LN := [(0, (4, 0)), (1, (0, x1)), (2, (0, x2)), (3, (0, x3)), (4, (0, x4))]) (stN := [(4, 0)]) (hsC := []) (v := (0, 1)) (st2 := [(0, 1), (4, 0)]) (jT_in_ok (d := 0) (v := x2) (lo := 0) (hi := 10) (by omega) (by omega) (by omega) (by omega) (by omega)) (by rfl) (by rfl) (by decide +kernel) (by rfl) (by rfl) (by omega) (by omega) (by omega) (by omega) rfl ?_
  refine jT_xifF (t := 47) (pcN := 30) jIQ_298_27 rfl (by decide +kernel) rfl rfl ?_
  refine jT_xiload (v := (0, x4)) (pcN := 32) jIQ_298_30 rfl rfl rfl ?_
  refine jT_xi2l (x := x4) (z := x4) (pcN := 33) jIQ_298_32 rfl (jw_idd (by omega) (by omega)) rfl ?_
  refine jT_xlconst (z := 0) (pcN := 34) jIQ_298_33 rfl rfl ?_
  refine jT_adv 1 (pcN := 37) (LN := [(0, (4, 0)), (1, (0, x1)), (2, (0, x2)), (3, (0, x3)), (4, (0, x4))]) (stN := [(1, 100), (1, 0), (1, x4), (4, 0)]) (hsN := jpQ_21) (c1 := 0) (s1 := 0) (c2 := 0) (s2 := 0) (by exact rfl) ?_ (by omega) (by omega)
  refine jT_fR [] 16 (y := 189) (pcN := 40) (dC := 0) (bc1 := 0) (bc2 := 0) (c1 := 0) (c2 := 0) (as := [(1, x4), (1, 0), (1, 100)]) (asC := [(1, x4), (1, 0), (1, 100)]) (LN := [(0, (4, 0)), (1, (0, x1)), (2, (0, x2)), (3, (0, x3)), (4, (0, x4))]) (stN := [(4, 0)]) (hsC := []) (v := (0, 1)) (st2 := [(0, 1), (4, 0)]) (jT_in_ok (d := 0) (v := x4) (lo := 0) (hi := 100) (by omega) (by omega) (by omega) (by omega) (by omega)) (by rfl) (by rfl) (by decide +kernel) (by rfl) (by rfl) (by omega) (by omega) (by omega) (by omega) rfl ?_
  refine jT_xifF (t := 47) (pcN := 43) jIQ_298_40 rfl (by decide +kernel) rfl rfl ?_
  refine jT_xiconst (k := 1) (pcN := 44) jIQ_298_43 rfl ?_
  refine jT_xgoto (pcN := 48) jIQ_298_44 rfl ?_
  refine jT_xiconst (k := 1) (pcN := 49) jIQ_298_48 rfl ?_
  refine jT_fR [0] 16 (y := 191) (pcN := 52) (dC := 0) (bc1 := 0) (bc2 := 0) (c1 := 0) (c2 := 0) (as := [(4, 0), (0, 1), (0, 1)]) (asC := [(4, 0), (0, 1), (0, 1)]) (LN := [(0, (4, 0)), (1, (0, x1)), (2, (0, x2)), (3, (0, x3)), (4, (0, x4))]) (stN := []) (hsC := [jgh]) (v := (0, 0)) (st2 := [(0, 0)]) (jQ_191_21 (d := 0)) (by rfl) (by rfl) (by decide +kernel) (by rfl) (by rfl) (by omega) (by omega) (by omega) (by omega) rfl ?_
  refine jT_xifF (t := 67) (pcN := 55) jIQ_298_52 rfl (by decide +kernel) rfl rfl ?_
  refine jT_xaload_n (v := (4, 0)) (pcN := 56) jIQ_298_55 rfl rfl rfl ?_
  refine jT_xiload_n (v := (0, x3)) (pcN := 57) jIQ_298_56 rfl rfl rfl ?_
  refine jT_fR [] 16 (y := 188) (pcN := 60) (dC := 1) (bc1 := 0) (bc2 := 0) (c1 := 0) (c2 := 0) (as := [(0, x3)]) (asC := [(0, x3)]) (LN := [(0, (4, 0)), (1, (0, x1)), (2, (0, x2)), (3, (0, x3)), (4, (0, x4))]) (stN := [(4, 0)]) (hsC := []) (v := (0, 0)) (st2 := [(0, 0), (4, 0)]) (jQ_188_22 (d := 0) (by omega)) (by rfl) (by rfl) (by decide +kernel) (by rfl) (by rfl) (by omega) (by omega) (by omega) (by omega) rfl ?_
  refine jT_xiconst (k := 2) (pcN := 61) jIQ_298_60 rfl ?_
  refine jT_fB [0, 1, 2, 3, 4, 5, 6, 7, 8, 9, 10, 11, 12, 13, 14, 15] 16 (y := 191) (pcN := 64) (dC := 0) (bc1 := 0) (bc2 := 0) (c1 := 0) (c2 := 0) (as := [(4, 0), (0, 0), (0, 2)]) (asC := [(4, 0), (0, 0), (0, 2)]) (LN := [(0, (4, 0)), (1, (0, x1)), (2, (0, x2)), (3, (0, x3)), (4, (0, x4))]) (stN := []) (hsC := jpQ_21) (hsD := jpQ_61) (v := (0, 1)) (st2 := [(0, 1)]) (hs2 := jpQ_61) (jQ_191_23 (d := 0)) (by rfl) (by rfl) (by decide +kernel) (by rfl) (by rfl) (by omega) (by omega) (by omega) (by omega) rfl (by decide +kernel) ?_
  refine jT_xifF (t := 69) (pcN := 67) jIQ_298_64 rfl (by decide +kernel) rfl rfl ?_
  refine jT_xiconst (k := 0) (pcN := 68) jIQ_298_67 rfl ?_
  exact jT_ret rfl (by decide) (by show 16 ≤ 16; omega) (by omega) (by omega) ⟨rfl, rfl, rfl⟩
theorem jQ_186_25 {xs : List Int} {d : Nat} : jT xs d 186 16 0 [(0, (4, 0))] [] jpQ_61 0 0 (fun k v hsN => k = 0 ∧ v = (0, 2) ∧ hsN = jpQ_61 ++ []) := by
  refine jT_advK 2 (pcN := 4) (LN := [(0, (4, 0))]) (stN := [(0, 2)]) (hsN := jpQ_61) (c1 := 0) (s1 := 0) (c2 := 0) (s2 := 0) (by decide +kernel) ?_ (by omega) (by omega)
  exact jT_ret rfl (by decide) (by show 16 ≤ 16; omega) (by omega) (by omega) ⟨rfl, rfl, rfl⟩
theorem jIQ_115_4 : jmI (jm 115) 4 = (.iload_n 1, 1) := by rfl
theorem jIQ_115_5 : jmI (jm 115) 5 = (.iload_n 2, 1) := by rfl
theorem jIQ_115_6 : jmI (jm 115) 6 = (.if_icmp .lt 14, 3) := by rfl
theorem jQ_115_26 {xs : List Int} {d : Nat} {x3 : Int} (h_x3 : 0 ≤ x3 ∧ x3 ≤ 7) : jT xs d 115 1 0 [(0, (4, 0)), (1, (0, x3)), (2, (0, 8))] [] [jgh] 0 0 (fun k v hsN => k = 0 ∧ v = (9, 0) ∧ hsN = [jgh] ++ []) := by
  refine jT_xiload_n (v := (0, x3)) (pcN := 1) jIQ_115_0 rfl rfl rfl ?_
  refine jT_ifF (a := x3) (t := 9) (by rfl) (by rfl) (by rfl) (jw_idd (by omega) (by omega)) (by simp only [jcP] <;> omega) ?_
  refine jT_xiload_n (v := (0, x3)) (pcN := 5) jIQ_115_4 rfl rfl rfl ?_
  refine jT_xiload_n (v := (0, 8)) (pcN := 6) jIQ_115_5 rfl rfl rfl ?_
  refine jT_icT (a := x3) (b := 8) (t := 20) (by rfl) (by rfl) (by rfl) (jw_idd (by omega) (by omega)) (jw_idd (by omega) (by omega)) (by simp only [jcP] <;> omega) ?_
  exact jT_ret rfl (by decide) (by show 1 ≤ 1; omega) (by omega) (by omega) ⟨rfl, rfl, rfl⟩
theorem jIQ_57_0 : jmI (jm 57) 0 = (.aload_n 0, 1) := by rfl
theorem jIQ_57_1 : jmI (jm 57) 1 = (.getfield 9, 3) := by rfl
def jzQ_73 : JC := (9, [(4, 1), (4, 2), (4, 3), (4, 4), (4, 5)], [])
theorem jIQ_57_4 : jmI (jm 57) 4 = (.iload_n 1, 1) := by rfl
theorem jIQ_57_5 : jmI (jm 57) 5 = (.aaload, 1) := by rfl
def jpQ_76 : List JC := [jzQ_73, (114, [], [6, 6, 6, 6, 6, 6, 6, 6]), jgh, jgh, jgh, jgh, jgh]
theorem jQ_57_27 {xs : List Int} {d : Nat} {x3 : Int} (h_x3 : 0 ≤ x3 ∧ x3 ≤ 7) : jT xs d 57 7 0 [(0, (4, 0)), (1, (0, x3))] [] jpQ_76 0 0 (fun k v hsN => k = 0 ∧ v = (4, 6) ∧ hsN = jpQ_76 ++ []) := by
  refine jT_xaload_n (v := (4, 0)) (pcN := 1) jIQ_57_0 rfl rfl rfl ?_
  refine jT_xgetf (a := 0) (t := 1) (ci := 9) (fi := 0) (c := jzQ_73) (v := (4, 1)) (pcN := 4) jIQ_57_1 rfl rfl rfl rfl rfl rfl rfl ?_
  refine jT_xiload_n (v := (0, x3)) (pcN := 5) jIQ_57_4 rfl rfl rfl ?_
  refine jT_aald (x := 6) (a := 1) (j := (x3).toNat) (fs := []) (X := [6, 6, 6, 6, 6, 6, 6, 6]) (kd := 114) (by rfl) (by rfl) (by rfl) (jw_nn (by omega) (by omega)) (jall_get 8 (by decide) (by omega)) (by rfl) ?_
  refine jT_eq (LN := [(0, (4, 0)), (1, (0, x3))]) (stN := [(4, 6)]) (hsN := jpQ_76) rfl rfl rfl ?_
  exact jT_ret rfl (by decide) (by show 7 ≤ 7; omega) (by omega) (by omega) ⟨rfl, rfl, rfl⟩
theorem jQ_97_28 {xs : List Int} {d : Nat} : jT xs d 97 1 0 [(0, (4, 0)), (1, (1, 1))] [] [(101, [], [1, 0, 0, 0, 0, 0])] 0 0 (fun k v hsN => k = 0 ∧ v = (1, 1) ∧ hsN = [(101, [], [1, 0, 0, 0, 0, 0])] ++ []) := by
  refine jT_advK 25 (pcN := 60) (LN := [(5, (0, 0)), (3, (1, 1)), (0, (4, 0)), (1, (1, 1))]) (stN := [(1, 1)]) (hsN := [(101, [], [1, 0, 0, 0, 0, 0])]) (c1 := 0) (s1 := 0) (c2 := 0) (s2 := 0) (by decide +kernel) ?_ (by omega) (by omega)
  exact jT_ret rfl (by decide) (by show 1 ≤ 1; omega) (by omega) (by omega) ⟨rfl, rfl, rfl⟩
theorem jQ_9_29 {xs : List Int} {d : Nat} : jT xs (d + 1) 9 2 0 [(0, (4, 0)), (1, (4, 1)), (2, (1, 1))] [] [(4, [(4, (-1)), (1, 0)], []), (101, [], [1, 0, 0, 0, 0, 0])] 0 0 (fun k v hsN => k = 0 ∧ v = (9, 0) ∧ hsN = [(4, [(4, 1), (1, 1)], []), (101, [], [1, 0, 0, 0, 0, 0])]) := by
  refine jT_advK 8 (pcN := 12) (LN := [(0, (4, 0)), (1, (4, 1)), (2, (1, 1))]) (stN := [(1, 1), (4, 1), (4, 0)]) (hsN := [(4, [(4, 1), (1, 0)], []), (101, [], [1, 0, 0, 0, 0, 0])]) (c1 := 0) (s1 := 0) (c2 := 0) (s2 := 0) (by decide +kernel) ?_ (by omega) (by omega)
  refine jT_fR [1] 2 (y := 97) (pcN := 15) (dC := 0) (bc1 := 0) (bc2 := 0) (c1 := 0) (c2 := 0) (as := [(4, 1), (1, 1)]) (asC := [(4, 0), (1, 1)]) (LN := [(0, (4, 0)), (1, (4, 1)), (2, (1, 1))]) (stN := [(4, 0)]) (hsC := [(101, [], [1, 0, 0, 0, 0, 0])]) (v := (1, 1)) (st2 := [(1, 1), (4, 0)]) (jQ_97_28 (d := 0)) (by rfl) (by rfl) (by decide +kernel) (by rfl) (by rfl) (by omega) (by omega) (by omega) (by omega) rfl ?_
  refine jT_advK 1 (pcN := 18) (LN := [(0, (4, 0)), (1, (4, 1)), (2, (1, 1))]) (stN := []) (hsN := [(4, [(4, 1), (1, 1)], []), (101, [], [1, 0, 0, 0, 0, 0])]) (c1 := 0) (s1 := 0) (c2 := 0) (s2 := 0) (by decide +kernel) ?_ (by omega) (by omega)
  exact jT_ret rfl (by decide) (by show 2 ≤ 2; omega) (by omega) (by omega) ⟨rfl, rfl, rfl⟩
theorem jQ_8_30 {xs : List Int} {d : Nat} : jT xs (d + 2) 8 0 0 [(0, (1, 1)), (2, (1, 1))] [] [] 2 8 (fun k v hsN => k = 0 ∧ v = (4, 1) ∧ hsN = [] ++ [(101, [], [1, 0, 0, 0, 0, 0]), (4, [(4, 0), (1, 1)], [])]) := by
  refine jT_advK 11 (pcN := 18) (LN := [(4, (4, 0)), (0, (1, 1)), (2, (1, 1))]) (stN := [(1, 1), (4, 0), (4, 1), (4, 1)]) (hsN := [(101, [], [1, 0, 0, 0, 0, 0]), (4, [(4, (-1)), (1, 0)], [])]) (c1 := 2) (s1 := 8) (c2 := 0) (s2 := 0) (by decide +kernel) ?_ (by omega) (by omega)
  refine jT_fB [1, 0] 2 (y := 9) (pcN := 21) (dC := 1) (bc1 := 0) (bc2 := 0) (c1 := 0) (c2 := 0) (as := [(4, 1), (4, 0), (1, 1)]) (asC := [(4, 0), (4, 1), (1, 1)]) (LN := [(4, (4, 0)), (0, (1, 1)), (2, (1, 1))]) (stN := [(4, 1)]) (hsC := [(4, [(4, (-1)), (1, 0)], []), (101, [], [1, 0, 0, 0, 0, 0])]) (hsD := [(4, [(4, 1), (1, 1)], []), (101, [], [1, 0, 0, 0, 0, 0])]) (v := (9, 0)) (st2 := [(4, 1)]) (hs2 := [(101, [], [1, 0, 0, 0, 0, 0]), (4, [(4, 0), (1, 1)], [])]) (jQ_9_29 (d := 0)) (by rfl) (by rfl) (by decide +kernel) (by rfl) (by rfl) (by omega) (by omega) (by omega) (by omega) rfl (by decide +kernel) ?_
  exact jT_ret rfl (by decide) (by show 0 ≤ 2; omega) (by omega) (by omega) ⟨rfl, rfl, rfl⟩
theorem jQ_39_31 {xs : List Int} {d : Nat} : jT xs d 39 2 0 [(0, (4, 0)), (1, (4, 1))] [] [jgh, (101, [], [(-1), 0, 0, 0, 0, 0])] 0 0 (fun k v hsN => k = 0 ∧ v = (1, 0) ∧ hsN = [jgh, (101, [], [(-1), 0, 0, 0, 0, 0])] ++ []) := by
  refine jT_advK 68 (pcN := 29) (LN := [(4, (0, 6)), (2, (1, 0)), (0, (4, 0)), (1, (4, 1))]) (stN := [(1, 0)]) (hsN := [jgh, (101, [], [(-1), 0, 0, 0, 0, 0])]) (c1 := 0) (s1 := 0) (c2 := 0) (s2 := 0) (by decide +kernel) ?_ (by omega) (by omega)
  exact jT_ret rfl (by decide) (by show 2 ≤ 2; omega) (by omega) (by omega) ⟨rfl, rfl, rfl⟩
theorem jQ_372_32 {xs : List Int} {d : Nat} : jT xs d 372 0 0 [(0, (1, (-1))), (2, (1, 0))] [] [] 0 0 (fun k v hsN => k = 0 ∧ v = (0, (-1)) ∧ hsN = [] ++ []) := by
  refine jT_advK 6 (pcN := 21) (LN := [(0, (1, (-1))), (2, (1, 0))]) (stN := [(0, (-1))]) (hsN := []) (c1 := 0) (s1 := 0) (c2 := 0) (s2 := 0) (by decide +kernel) ?_ (by omega) (by omega)
  exact jT_ret rfl (by decide) (by show 0 ≤ 0; omega) (by omega) (by omega) ⟨rfl, rfl, rfl⟩
theorem jQ_38_33 {xs : List Int} {d : Nat} : jT xs (d + 1) 38 3 0 [(0, (4, 0)), (1, (4, 1))] [] [(8, [(4, 2), (4, 1)], []), (101, [], [(-1), 0, 0, 0, 0, 0]), jgh] 0 0 (fun k v hsN => k = 0 ∧ v = (0, (-1)) ∧ hsN = [(8, [(4, 2), (4, 1)], []), (101, [], [(-1), 0, 0, 0, 0, 0]), jgh] ++ []) := by
  refine jT_advK 2 (pcN := 2) (LN := [(0, (4, 0)), (1, (4, 1))]) (stN := [(4, 1), (4, 0)]) (hsN := [(8, [(4, 2), (4, 1)], []), (101, [], [(-1), 0, 0, 0, 0, 0]), jgh]) (c1 := 0) (s1 := 0) (c2 := 0) (s2 := 0) (by decide +kernel) ?_ (by omega) (by omega)
  refine jT_fR [0, 1] 3 (y := 39) (pcN := 5) (dC := 0) (bc1 := 0) (bc2 := 0) (c1 := 0) (c2 := 0) (as := [(4, 0), (4, 1)]) (asC := [(4, 0), (4, 1)]) (LN := [(0, (4, 0)), (1, (4, 1))]) (stN := []) (hsC := [jgh, (101, [], [(-1), 0, 0, 0, 0, 0])]) (v := (1, 0)) (st2 := [(1, 0)]) (jQ_39_31 (d := 0)) (by rfl) (by rfl) (by decide +kernel) (by rfl) (by rfl) (by omega) (by omega) (by omega) (by omega) rfl ?_
  refine jT_advK 9 (pcN := 16) (LN := [(2, (1, 0)), (0, (4, 0)), (1, (4, 1))]) (stN := [(1, 0), (1, (-1))]) (hsN := [(8, [(4, 2), (4, 1)], []), (101, [], [(-1), 0, 0, 0, 0, 0]), jgh]) (c1 := 0) (s1 := 0) (c2 := 0) (s2 := 0) (by decide +kernel) ?_ (by omega) (by omega)
  refine jT_fR [] 3 (y := 372) (pcN := 19) (dC := 0) (bc1 := 0) (bc2 := 0) (c1 := 0) (c2 := 0) (as := [(1, (-1)), (1, 0)]) (asC := [(1, (-1)), (1, 0)]) (LN := [(2, (1, 0)), (0, (4, 0)), (1, (4, 1))]) (stN := []) (hsC := []) (v := (0, (-1))) (st2 := [(0, (-1))]) (jQ_372_32 (d := 0)) (by rfl) (by rfl) (by decide +kernel) (by rfl) (by rfl) (by omega) (by omega) (by omega) (by omega) rfl ?_
  exact jT_ret rfl (by decide) (by show 3 ≤ 3; omega) (by omega) (by omega) ⟨rfl, rfl, rfl⟩
def jpQ_77 : List JC := [(8, [(4, 3), (4, 4)], []), (4, [(4, 5), (1, 1)], []), (4, [(4, 6), (1, 1)], []), jgh, (101, [], [(-1), 0, 0, 0, 0, 0]), (101, [], [0, 0, 0, 0, 0, 0]), (101, [], [1, 0, 0, 0, 0, 0])]
def jpQ_78 : List JC := [(8, [(4, 3), (4, 4)], []), (4, [(4, 5), (1, 1)], []), (4, [(4, 6), (1, 1)], []), jgh, (101, [], [0, 0, 0, 0, 0, 0]), (101, [], [0, 0, 0, 0, 0, 0]), (101, [], [1, 0, 0, 0, 0, 0])]
theorem jQ_46_34 {xs : List Int} {d : Nat} : jT xs (d + 2) 46 7 0 [(0, (4, 0)), (1, (4, 1)), (2, (4, 2))] [] jpQ_78 0 0 (fun k v hsN => k = 0 ∧ v = (0, (-1)) ∧ hsN = jpQ_77) := by
  refine jT_advK 152 (pcN := 48) (LN := [(3, (0, 6)), (0, (4, 0)), (1, (4, 1)), (2, (4, 2))]) (stN := [(4, 4), (4, 0)]) (hsN := jpQ_77) (c1 := 0) (s1 := 0) (c2 := 0) (s2 := 0) (by decide +kernel) ?_ (by omega) (by omega)
  refine jT_fR [0, 4, 3] 7 (y := 38) (pcN := 51) (dC := 1) (bc1 := 0) (bc2 := 0) (c1 := 0) (c2 := 0) (as := [(4, 0), (4, 4)]) (asC := [(4, 0), (4, 1)]) (LN := [(3, (0, 6)), (0, (4, 0)), (1, (4, 1)), (2, (4, 2))]) (stN := []) (hsC := [(8, [(4, 2), (4, 1)], []), (101, [], [(-1), 0, 0, 0, 0, 0]), jgh]) (v := (0, (-1))) (st2 := [(0, (-1))]) (jQ_38_33 (d := 0)) (by rfl) (by rfl) (by decide +kernel) (by rfl) (by rfl) (by omega) (by omega) (by omega) (by omega) rfl ?_
  exact jT_ret rfl (by decide) (by show 7 ≤ 7; omega) (by omega) (by omega) ⟨rfl, rfl, rfl⟩
theorem jQ_116_35 {xs : List Int} {d : Nat} : jT xs d 116 1 0 [(0, (4, 0)), (1, (0, 0)), (2, (0, 0)), (3, (0, 100))] [] [jgh] 0 0 (fun k v hsN => k = 0 ∧ v = (9, 0) ∧ hsN = [jgh] ++ []) := by
  refine jT_advK 6 (pcN := 21) (LN := [(0, (4, 0)), (1, (0, 0)), (2, (0, 0)), (3, (0, 100))]) (stN := []) (hsN := [jgh]) (c1 := 0) (s1 := 0) (c2 := 0) (s2 := 0) (by decide +kernel) ?_ (by omega) (by omega)
  exact jT_ret rfl (by decide) (by show 1 ≤ 1; omega) (by omega) (by omega) ⟨rfl, rfl, rfl⟩
theorem jQ_45_36 {xs : List Int} {d : Nat} : jT xs d 45 2 0 [(0, (4, 0)), (1, (4, 1)), (2, (1, 1)), (4, (1, 0))] [] [jgh, jgh] 0 0 (fun k v hsN => k = 0 ∧ v = (1, 0) ∧ hsN = [jgh, jgh] ++ []) := by
  refine jT_advK 9 (pcN := 14) (LN := [(0, (4, 0)), (1, (4, 1)), (2, (1, 1)), (4, (1, 0))]) (stN := [(1, 0)]) (hsN := [jgh, jgh]) (c1 := 0) (s1 := 0) (c2 := 0) (s2 := 0) (by decide +kernel) ?_ (by omega) (by omega)
  exact jT_ret rfl (by decide) (by show 2 ≤ 2; omega) (by omega) (by omega) ⟨rfl, rfl, rfl⟩
theorem jQ_373_37 {xs : List Int} {d : Nat} : jT xs d 373 0 0 [(0, (1, 1)), (2, (1, 2))] [] [] 0 0 (fun k v hsN => k = 0 ∧ v = (1, 0) ∧ hsN = [] ++ []) := by
  refine jT_advK 11 (pcN := 29) (LN := [(4, (1, 0)), (0, (1, 1)), (2, (1, 2))]) (stN := [(1, 0)]) (hsN := []) (c1 := 0) (s1 := 0) (c2 := 0) (s2 := 0) (by decide +kernel) ?_ (by omega) (by omega)
  exact jT_ret rfl (by decide) (by show 0 ≤ 0; omega) (by omega) (by omega) ⟨rfl, rfl, rfl⟩
theorem jQ_374_38 {xs : List Int} {d : Nat} : jT xs (d + 1) 374 0 0 [(0, (1, 1)), (2, (0, 2))] [] [] 0 0 (fun k v hsN => k = 0 ∧ v = (1, 0) ∧ hsN = [] ++ []) := by
  refine jT_advK 3 (pcN := 3) (LN := [(0, (1, 1)), (2, (0, 2))]) (stN := [(1, 2), (1, 1)]) (hsN := []) (c1 := 0) (s1 := 0) (c2 := 0) (s2 := 0) (by decide +kernel) ?_ (by omega) (by omega)
  refine jT_fR [] 0 (y := 373) (pcN := 6) (dC := 0) (bc1 := 0) (bc2 := 0) (c1 := 0) (c2 := 0) (as := [(1, 1), (1, 2)]) (asC := [(1, 1), (1, 2)]) (LN := [(0, (1, 1)), (2, (0, 2))]) (stN := []) (hsC := []) (v := (1, 0)) (st2 := [(1, 0)]) (jQ_373_37 (d := 0)) (by rfl) (by rfl) (by decide +kernel) (by rfl) (by rfl) (by omega) (by omega) (by omega) (by omega) rfl ?_
  exact jT_ret rfl (by decide) (by show 0 ≤ 0; omega) (by omega) (by omega) ⟨rfl, rfl, rfl⟩
def jpQ_79 : List JC := [(8, [(4, 2), (4, 3)], []), (101, [], [0, 0, 0, 0, 0, 0]), jgh, (101, [], [1, 0, 0, 0, 0, 0])]
def jpQ_80 : List JC := [(8, [(4, 2), (4, 3)], []), (101, [], [0, 0, 0, 0, 0, 0]), jgh, (101, [], [0, 1, 0, 0, 0, 0])]
def jpQ_81 : List JC := [(8, [(4, 2), (4, 3)], []), (101, [], [0, 0, 0, 0, 0, 0]), jgh, (101, [], [0, 0, 1, 0, 0, 0])]
def jpQ_82 : List JC := [(8, [(4, 2), (4, 3)], []), (101, [], [0, 0, 0, 0, 0, 0]), jgh, (101, [], [0, 0, 0, 1, 0, 0])]
def jpQ_83 : List JC := [(8, [(4, 2), (4, 3)], []), (101, [], [0, 0, 0, 0, 0, 0]), jgh, (101, [], [0, 0, 0, 0, 1, 0])]
def jpQ_84 : List JC := [(8, [(4, 2), (4, 3)], []), (101, [], [0, 0, 0, 0, 0, 0]), jgh, (101, [], [0, 0, 0, 0, 0, 1])]
def jpQ_85 : List JC := [(8, [(4, 2), (4, 3)], []), (101, [], [0, 0, 0, 0, 0, 0]), jgh, (101, [], [0, 0, 0, 0, 0, 0])]
def jpQ_86 : List JC := [(8, [(4, 2), (4, 3)], []), (101, [], [0, 0, 0, 0, 0, 0]), jgh, (101, [], [(-1), 0, 0, 0, 0, 0])]
theorem jQ_47_39 {xs : List Int} {d : Nat} : jT xs (d + 2) 47 4 0 [(0, (4, 0)), (1, (4, 1)), (2, (0, 0))] [] jpQ_86 0 0 (fun k v hsN => k = 0 ∧ v = (9, 0) ∧ hsN = jpQ_85) := by
  refine jT_advK 89 (pcN := 56) (LN := [(3, (0, 0)), (0, (4, 0)), (1, (4, 1)), (2, (0, 0))]) (stN := [(1, 0), (1, 1), (4, 3), (4, 0), (0, 0), (4, 1)]) (hsN := jpQ_79) (c1 := 0) (s1 := 0) (c2 := 0) (s2 := 0) (by decide +kernel) ?_ (by omega) (by omega)
  refine jT_fR [0, 3] 4 (y := 45) (pcN := 59) (dC := 0) (bc1 := 0) (bc2 := 0) (c1 := 0) (c2 := 0) (as := [(4, 0), (4, 3), (1, 1), (1, 0)]) (asC := [(4, 0), (4, 1), (1, 1), (1, 0)]) (LN := [(3, (0, 0)), (0, (4, 0)), (1, (4, 1)), (2, (0, 0))]) (stN := [(0, 0), (4, 1)]) (hsC := [jgh, jgh]) (v := (1, 0)) (st2 := [(1, 0), (0, 0), (4, 1)]) (jQ_45_36 (d := 0)) (by rfl) (by rfl) (by decide +kernel) (by rfl) (by rfl) (by omega) (by omega) (by omega) (by omega) rfl ?_
  refine jT_advK 3 (pcN := 62) (LN := [(3, (0, 0)), (0, (4, 0)), (1, (4, 1)), (2, (0, 0))]) (stN := [(0, 2), (1, 1), (0, 0), (4, 1)]) (hsN := jpQ_79) (c1 := 0) (s1 := 0) (c2 := 0) (s2 := 0) (by decide +kernel) ?_ (by omega) (by omega)
  refine jT_fR [] 4 (y := 374) (pcN := 65) (dC := 1) (bc1 := 0) (bc2 := 0) (c1 := 0) (c2 := 0) (as := [(1, 1), (0, 2)]) (asC := [(1, 1), (0, 2)]) (LN := [(3, (0, 0)), (0, (4, 0)), (1, (4, 1)), (2, (0, 0))]) (stN := [(0, 0), (4, 1)]) (hsC := []) (v := (1, 0)) (st2 := [(1, 0), (0, 0), (4, 1)]) (jQ_374_38 (d := 0)) (by rfl) (by rfl) (by decide +kernel) (by rfl) (by rfl) (by omega) (by omega) (by omega) (by omega) rfl ?_
  refine jT_advK 30 (pcN := 56) (LN := [(3, (0, 1)), (0, (4, 0)), (1, (4, 1)), (2, (0, 0))]) (stN := [(1, 0), (1, 1), (4, 3), (4, 0), (0, 1), (4, 1)]) (hsN := jpQ_80) (c1 := 0) (s1 := 0) (c2 := 0) (s2 := 0) (by decide +kernel) ?_ (by omega) (by omega)
  refine jT_fR [0, 3] 4 (y := 45) (pcN := 59) (dC := 0) (bc1 := 0) (bc2 := 0) (c1 := 0) (c2 := 0) (as := [(4, 0), (4, 3), (1, 1), (1, 0)]) (asC := [(4, 0), (4, 1), (1, 1), (1, 0)]) (LN := [(3, (0, 1)), (0, (4, 0)), (1, (4, 1)), (2, (0, 0))]) (stN := [(0, 1), (4, 1)]) (hsC := [jgh, jgh]) (v := (1, 0)) (st2 := [(1, 0), (0, 1), (4, 1)]) (jQ_45_36 (d := 0)) (by rfl) (by rfl) (by decide +kernel) (by rfl) (by rfl) (by omega) (by omega) (by omega) (by omega) rfl ?_
  refine jT_advK 3 (pcN := 62) (LN := [(3, (0, 1)), (0, (4, 0)), (1, (4, 1)), (2, (0, 0))]) (stN := [(0, 2), (1, 1), (0, 1), (4, 1)]) (hsN := jpQ_80) (c1 := 0) (s1 := 0) (c2 := 0) (s2 := 0) (by decide +kernel) ?_ (by omega) (by omega)
  refine jT_fR [] 4 (y := 374) (pcN := 65) (dC := 1) (bc1 := 0) (bc2 := 0) (c1 := 0) (c2 := 0) (as := [(1, 1), (0, 2)]) (asC := [(1, 1), (0, 2)]) (LN := [(3, (0, 1)), (0, (4, 0)), (1, (4, 1)), (2, (0, 0))]) (stN := [(0, 1), (4, 1)]) (hsC := []) (v := (1, 0)) (st2 := [(1, 0), (0, 1), (4, 1)]) (jQ_374_38 (d := 0)) (by rfl) (by rfl) (by decide +kernel) (by rfl) (by rfl) (by omega) (by omega) (by omega) (by omega) rfl ?_
  refine jT_advK 30 (pcN := 56) (LN := [(3, (0, 2)), (0, (4, 0)), (1, (4, 1)), (2, (0, 0))]) (stN := [(1, 0), (1, 1), (4, 3), (4, 0), (0, 2), (4, 1)]) (hsN := jpQ_81) (c1 := 0) (s1 := 0) (c2 := 0) (s2 := 0) (by decide +kernel) ?_ (by omega) (by omega)
  refine jT_fR [0, 3] 4 (y := 45) (pcN := 59) (dC := 0) (bc1 := 0) (bc2 := 0) (c1 := 0) (c2 := 0) (as := [(4, 0), (4, 3), (1, 1), (1, 0)]) (asC := [(4, 0), (4, 1), (1, 1), (1, 0)]) (LN := [(3, (0, 2)), (0, (4, 0)), (1, (4, 1)), (2, (0, 0))]) (stN := [(0, 2), (4, 1)]) (hsC := [jgh, jgh]) (v := (1, 0)) (st2 := [(1, 0), (0, 2), (4, 1)]) (jQ_45_36 (d := 0)) (by rfl) (by rfl) (by decide +kernel) (by rfl) (by rfl) (by omega) (by omega) (by omega) (by omega) rfl ?_
  refine jT_advK 3 (pcN := 62) (LN := [(3, (0, 2)), (0, (4, 0)), (1, (4, 1)), (2, (0, 0))]) (stN := [(0, 2), (1, 1), (0, 2), (4, 1)]) (hsN := jpQ_81) (c1 := 0) (s1 := 0) (c2 := 0) (s2 := 0) (by decide +kernel) ?_ (by omega) (by omega)
  refine jT_fR [] 4 (y := 374) (pcN := 65) (dC := 1) (bc1 := 0) (bc2 := 0) (c1 := 0) (c2 := 0) (as := [(1, 1), (0, 2)]) (asC := [(1, 1), (0, 2)]) (LN := [(3, (0, 2)), (0, (4, 0)), (1, (4, 1)), (2, (0, 0))]) (stN := [(0, 2), (4, 1)]) (hsC := []) (v := (1, 0)) (st2 := [(1, 0), (0, 2), (4, 1)]) (jQ_374_38 (d := 0)) (by rfl) (by rfl) (by decide +kernel) (by rfl) (by rfl) (by omega) (by omega) (by omega) (by omega) rfl ?_
  refine jT_advK 30 (pcN := 56) (LN := [(3, (0, 3)), (0, (4, 0)), (1, (4, 1)), (2, (0, 0))]) (stN := [(1, 0), (1, 1), (4, 3), (4, 0), (0, 3), (4, 1)]) (hsN := jpQ_82) (c1 := 0) (s1 := 0) (c2 := 0) (s2 := 0) (by decide +kernel) ?_ (by omega) (by omega)
  refine jT_fR [0, 3] 4 (y := 45) (pcN := 59) (dC := 0) (bc1 := 0) (bc2 := 0) (c1 := 0) (c2 := 0) (as := [(4, 0), (4, 3), (1, 1), (1, 0)]) (asC := [(4, 0), (4, 1), (1, 1), (1, 0)]) (LN := [(3, (0, 3)), (0, (4, 0)), (1, (4, 1)), (2, (0, 0))]) (stN := [(0, 3), (4, 1)]) (hsC := [jgh, jgh]) (v := (1, 0)) (st2 := [(1, 0), (0, 3), (4, 1)]) (jQ_45_36 (d := 0)) (by rfl) (by rfl) (by decide +kernel) (by rfl) (by rfl) (by omega) (by omega) (by omega) (by omega) rfl ?_
  refine jT_advK 3 (pcN := 62) (LN := [(3, (0, 3)), (0, (4, 0)), (1, (4, 1)), (2, (0, 0))]) (stN := [(0, 2), (1, 1), (0, 3), (4, 1)]) (hsN := jpQ_82) (c1 := 0) (s1 := 0) (c2 := 0) (s2 := 0) (by decide +kernel) ?_ (by omega) (by omega)
  refine jT_fR [] 4 (y := 374) (pcN := 65) (dC := 1) (bc1 := 0) (bc2 := 0) (c1 := 0) (c2 := 0) (as := [(1, 1), (0, 2)]) (asC := [(1, 1), (0, 2)]) (LN := [(3, (0, 3)), (0, (4, 0)), (1, (4, 1)), (2, (0, 0))]) (stN := [(0, 3), (4, 1)]) (hsC := []) (v := (1, 0)) (st2 := [(1, 0), (0, 3), (4, 1)]) (jQ_374_38 (d := 0)) (by rfl) (by rfl) (by decide +kernel) (by rfl) (by rfl) (by omega) (by omega) (by omega) (by omega) rfl ?_
  refine jT_advK 30 (pcN := 56) (LN := [(3, (0, 4)), (0, (4, 0)), (1, (4, 1)), (2, (0, 0))]) (stN := [(1, 0), (1, 1), (4, 3), (4, 0), (0, 4), (4, 1)]) (hsN := jpQ_83) (c1 := 0) (s1 := 0) (c2 := 0) (s2 := 0) (by decide +kernel) ?_ (by omega) (by omega)
  refine jT_fR [0, 3] 4 (y := 45) (pcN := 59) (dC := 0) (bc1 := 0) (bc2 := 0) (c1 := 0) (c2 := 0) (as := [(4, 0), (4, 3), (1, 1), (1, 0)]) (asC := [(4, 0), (4, 1), (1, 1), (1, 0)]) (LN := [(3, (0, 4)), (0, (4, 0)), (1, (4, 1)), (2, (0, 0))]) (stN := [(0, 4), (4, 1)]) (hsC := [jgh, jgh]) (v := (1, 0)) (st2 := [(1, 0), (0, 4), (4, 1)]) (jQ_45_36 (d := 0)) (by rfl) (by rfl) (by decide +kernel) (by rfl) (by rfl) (by omega) (by omega) (by omega) (by omega) rfl ?_
  refine jT_advK 3 (pcN := 62) (LN := [(3, (0, 4)), (0, (4, 0)), (1, (4, 1)), (2, (0, 0))]) (stN := [(0, 2), (1, 1), (0, 4), (4, 1)]) (hsN := jpQ_83) (c1 := 0) (s1 := 0) (c2 := 0) (s2 := 0) (by decide +kernel) ?_ (by omega) (by omega)
  refine jT_fR [] 4 (y := 374) (pcN := 65) (dC := 1) (bc1 := 0) (bc2 := 0) (c1 := 0) (c2 := 0) (as := [(1, 1), (0, 2)]) (asC := [(1, 1), (0, 2)]) (LN := [(3, (0, 4)), (0, (4, 0)), (1, (4, 1)), (2, (0, 0))]) (stN := [(0, 4), (4, 1)]) (hsC := []) (v := (1, 0)) (st2 := [(1, 0), (0, 4), (4, 1)]) (jQ_374_38 (d := 0)) (by rfl) (by rfl) (by decide +kernel) (by rfl) (by rfl) (by omega) (by omega) (by omega) (by omega) rfl ?_
  refine jT_advK 30 (pcN := 56) (LN := [(3, (0, 5)), (0, (4, 0)), (1, (4, 1)), (2, (0, 0))]) (stN := [(1, 0), (1, 1), (4, 3), (4, 0), (0, 5), (4, 1)]) (hsN := jpQ_84) (c1 := 0) (s1 := 0) (c2 := 0) (s2 := 0) (by decide +kernel) ?_ (by omega) (by omega)
  refine jT_fR [0, 3] 4 (y := 45) (pcN := 59) (dC := 0) (bc1 := 0) (bc2 := 0) (c1 := 0) (c2 := 0) (as := [(4, 0), (4, 3), (1, 1), (1, 0)]) (asC := [(4, 0), (4, 1), (1, 1), (1, 0)]) (LN := [(3, (0, 5)), (0, (4, 0)), (1, (4, 1)), (2, (0, 0))]) (stN := [(0, 5), (4, 1)]) (hsC := [jgh, jgh]) (v := (1, 0)) (st2 := [(1, 0), (0, 5), (4, 1)]) (jQ_45_36 (d := 0)) (by rfl) (by rfl) (by decide +kernel) (by rfl) (by rfl) (by omega) (by omega) (by omega) (by omega) rfl ?_
  refine jT_advK 3 (pcN := 62) (LN := [(3, (0, 5)), (0, (4, 0)), (1, (4, 1)), (2, (0, 0))]) (stN := [(0, 2), (1, 1), (0, 5), (4, 1)]) (hsN := jpQ_84) (c1 := 0) (s1 := 0) (c2 := 0) (s2 := 0) (by decide +kernel) ?_ (by omega) (by omega)
  refine jT_fR [] 4 (y := 374) (pcN := 65) (dC := 1) (bc1 := 0) (bc2 := 0) (c1 := 0) (c2 := 0) (as := [(1, 1), (0, 2)]) (asC := [(1, 1), (0, 2)]) (LN := [(3, (0, 5)), (0, (4, 0)), (1, (4, 1)), (2, (0, 0))]) (stN := [(0, 5), (4, 1)]) (hsC := []) (v := (1, 0)) (st2 := [(1, 0), (0, 5), (4, 1)]) (jQ_374_38 (d := 0)) (by rfl) (by rfl) (by decide +kernel) (by rfl) (by rfl) (by omega) (by omega) (by omega) (by omega) rfl ?_
  refine jT_advK 11 (pcN := 79) (LN := [(3, (0, 6)), (0, (4, 0)), (1, (4, 1)), (2, (0, 0))]) (stN := []) (hsN := jpQ_85) (c1 := 0) (s1 := 0) (c2 := 0) (s2 := 0) (by decide +kernel) ?_ (by omega) (by omega)
  exact jT_ret rfl (by decide) (by show 4 ≤ 4; omega) (by omega) (by omega) ⟨rfl, rfl, rfl⟩
theorem jIQ_39_0 : jmI (jm 39) 0 = (.lconst 0, 1) := by rfl
theorem jIQ_39_1 : jmI (jm 39) 1 = (.lstore_n 2, 1) := by rfl
theorem jIQ_39_2 : jmI (jm 39) 2 = (.iconst 1, 1) := by rfl
theorem jIQ_39_3 : jmI (jm 39) 3 = (.istore 4, 2) := by rfl
theorem jIQ_39_5 : jmI (jm 39) 5 = (.iload 4, 2) := by rfl
theorem jIQ_39_7 : jmI (jm 39) 7 = (.bipush 6, 2) := by rfl
theorem jIQ_39_9 : jmI (jm 39) 9 = (.if_icmp .ge 19, 3) := by rfl
theorem jIQ_39_12 : jmI (jm 39) 12 = (.lload_n 2, 1) := by rfl
theorem jIQ_39_13 : jmI (jm 39) 13 = (.aload_n 1, 1) := by rfl
theorem jIQ_39_14 : jmI (jm 39) 14 = (.iload 4, 2) := by rfl
theorem jIQ_39_16 : jmI (jm 39) 16 = (.laload, 1) := by rfl
theorem jIQ_39_20 : jmI (jm 39) 20 = (.ladd, 1) := by rfl
theorem jIQ_39_21 : jmI (jm 39) 21 = (.lstore_n 2, 1) := by rfl
theorem jIQ_39_22 : jmI (jm 39) 22 = (.iinc 4 1, 3) := by rfl
theorem jIQ_39_25 : jmI (jm 39) 25 = (.goto (-20), 3) := by rfl
theorem jIQ_39_28 : jmI (jm 39) 28 = (.lload_n 2, 1) := by rfl
theorem jQ_39_40 {xs : List Int} {d : Nat} {r7 r8 : Int} (h_r7 : (-20) ≤ r7 ∧ r7 ≤ 20) (h_r8 : (-10) ≤ r8 ∧ r8 ≤ 10) (g_0 : r7 < 0) (g_1 : r8 < 0) : jT xs d 39 2 0 [(0, (4, 0)), (1, (4, 1))] [] [jgh, (101, [], [0, r7, r8, 0, 0, 0])] 0 0 (fun k v hsN => k = 0 ∧ v = (1, -r7 - r8) ∧ hsN = [jgh, (101, [], [0, r7, r8, 0, 0, 0])] ++ []) := by
  refine jT_xlconst (z := 0) (pcN := 1) jIQ_39_0 rfl rfl ?_
  refine jT_xlstore_n (v := (1, 0)) (LN := [(2, (1, 0)), (0, (4, 0)), (1, (4, 1))]) (pcN := 2) jIQ_39_1 rfl rfl rfl rfl ?_
  refine jT_xiconst (k := 1) (pcN := 3) jIQ_39_2 rfl ?_
  refine jT_xistore (v := (0, 1)) (LN := [(4, (0, 1)), (2, (1, 0)), (0, (4, 0)), (1, (4, 1))]) (pcN := 5) jIQ_39_3 rfl rfl rfl rfl ?_
  refine jT_xiload (v := (0, 1)) (pcN := 7) jIQ_39_5 rfl rfl rfl ?_
  refine jT_xbipush (k := 6) (pcN := 9) jIQ_39_7 (by decide) rfl ?_
  refine jT_xicF (t := 28) (pcN := 12) jIQ_39_9 rfl (by decide +kernel) rfl rfl ?_
  refine jT_xlload_n (v := (1, 0)) (pcN := 13) jIQ_39_12 rfl rfl rfl ?_
  refine jT_xaload_n (v := (4, 1)) (pcN := 14) jIQ_39_13 rfl rfl rfl ?_
  refine jT_xiload (v := (0, 1)) (pcN := 16) jIQ_39_14 rfl rfl rfl ?_
  refine jT_lald (x := r7) (a := 1) (j := 1) (fs := []) (X := [0, r7, r8, 0, 0, 0]) jIQ_39_16 rfl rfl rfl rfl ?_
  refine jT_eq (LN := [(4, (0, 1)), (2, (1, 0)), (0, (4, 0)), (1, (4, 1))]) (stN := [(1, r7), (1, 0)]) (hsN := [jgh, (101, [], [0, r7, r8, 0, 0, 0])]) rfl rfl rfl ?_
  refine jT_labs (z := -r7) (by rfl) (by rfl) (by rfl) (by rfl) (by rw [show jwl (r7) = r7 from jwl_idd (by omega) (by omega), decide_eq_true (by omega)]; first | (simp only [cond_true, cond_false]; done) | (simp only [cond_true, cond_false]; omega) | rfl) ?_
  refine jT_xladd (x := 0) (y := -r7) (z := -r7) (pcN := 21) jIQ_39_20 rfl (by omega) rfl ?_
  refine jT_xlstore_n (v := (1, -r7)) (LN := [(2, (1, -r7)), (4, (0, 1)), (0, (4, 0)), (1, (4, 1))]) (pcN := 22) jIQ_39_21 rfl rfl rfl rfl ?_
  refine jT_xiinc (x := 1) (z := 2) (LN := [(4, (0, 2)), (2, (1, -r7)), (0, (4, 0)), (1, (4, 1))]) (pcN := 25) jIQ_39_22 rfl rfl (by decide) rfl rfl ?_
  refine jT_xgoto (pcN := 5) jIQ_39_25 rfl ?_
  refine jT_xiload (v := (0, 2)) (pcN := 7) jIQ_39_5 rfl rfl rfl ?_
  refine jT_xbipush (k := 6) (pcN := 9) jIQ_39_7 (by decide) rfl ?_
  refine jT_xicF (t := 28) (pcN := 12) jIQ_39_9 rfl (by decide +kernel) rfl rfl ?_
  refine jT_xlload_n (v := (1, -r7)) (pcN := 13) jIQ_39_12 rfl rfl rfl ?_
  refine jT_xaload_n (v := (4, 1)) (pcN := 14) jIQ_39_13 rfl rfl rfl ?_
  refine jT_xiload (v := (0, 2)) (pcN := 16) jIQ_39_14 rfl rfl rfl ?_
  refine jT_lald (x := r8) (a := 1) (j := 2) (fs := []) (X := [0, r7, r8, 0, 0, 0]) jIQ_39_16 rfl rfl rfl rfl ?_
  refine jT_eq (LN := [(4, (0, 2)), (2, (1, -r7)), (0, (4, 0)), (1, (4, 1))]) (stN := [(1, r8), (1, -r7)]) (hsN := [jgh, (101, [], [0, r7, r8, 0, 0, 0])]) rfl rfl rfl ?_
  refine jT_labs (z := -r8) (by rfl) (by rfl) (by rfl) (by rfl) (by rw [show jwl (r8) = r8 from jwl_idd (by omega) (by omega), decide_eq_true (by omega)]; first | (simp only [cond_true, cond_false]; done) | (simp only [cond_true, cond_false]; omega) | rfl) ?_
  refine jT_xladd (x := -r7) (y := -r8) (z := -r7 - r8) (pcN := 21) jIQ_39_20 rfl (by omega) rfl ?_
  refine jT_xlstore_n (v := (1, -r7 - r8)) (LN := [(2, (1, -r7 - r8)), (4, (0, 2)), (0, (4, 0)), (1, (4, 1))]) (pcN := 22) jIQ_39_21 rfl rfl rfl rfl ?_
  refine jT_xiinc (x := 2) (z := 3) (LN := [(4, (0, 3)), (2, (1, -r7 - r8)), (0, (4, 0)), (1, (4, 1))]) (pcN := 25) jIQ_39_22 rfl rfl (by decide) rfl rfl ?_
  refine jT_xgoto (pcN := 5) jIQ_39_25 rfl ?_
  refine jT_xiload (v := (0, 3)) (pcN := 7) jIQ_39_5 rfl rfl rfl ?_
  refine jT_xbipush (k := 6) (pcN := 9) jIQ_39_7 (by decide) rfl ?_
  refine jT_xicF (t := 28) (pcN := 12) jIQ_39_9 rfl (by decide +kernel) rfl rfl ?_
  refine jT_xlload_n (v := (1, -r7 - r8)) (pcN := 13) jIQ_39_12 rfl rfl rfl ?_
  refine jT_xaload_n (v := (4, 1)) (pcN := 14) jIQ_39_13 rfl rfl rfl ?_
  refine jT_xiload (v := (0, 3)) (pcN := 16) jIQ_39_14 rfl rfl rfl ?_
  refine jT_lald (x := 0) (a := 1) (j := 3) (fs := []) (X := [0, r7, r8, 0, 0, 0]) jIQ_39_16 rfl rfl rfl rfl ?_
  refine jT_eq (LN := [(4, (0, 3)), (2, (1, -r7 - r8)), (0, (4, 0)), (1, (4, 1))]) (stN := [(1, 0), (1, -r7 - r8)]) (hsN := [jgh, (101, [], [0, r7, r8, 0, 0, 0])]) rfl rfl rfl ?_
  refine jT_labs (z := 0) (by rfl) (by rfl) (by rfl) (by rfl) (by decide +kernel) ?_
  refine jT_xladd (x := -r7 - r8) (y := 0) (z := -r7 - r8) (pcN := 21) jIQ_39_20 rfl (by omega) rfl ?_
  refine jT_xlstore_n (v := (1, -r7 - r8)) (LN := [(2, (1, -r7 - r8)), (4, (0, 3)), (0, (4, 0)), (1, (4, 1))]) (pcN := 22) jIQ_39_21 rfl rfl rfl rfl ?_
  refine jT_xiinc (x := 3) (z := 4) (LN := [(4, (0, 4)), (2, (1, -r7 - r8)), (0, (4, 0)), (1, (4, 1))]) (pcN := 25) jIQ_39_22 rfl rfl (by decide) rfl rfl ?_
  refine jT_xgoto (pcN := 5) jIQ_39_25 rfl ?_
  refine jT_xiload (v := (0, 4)) (pcN := 7) jIQ_39_5 rfl rfl rfl ?_
  refine jT_xbipush (k := 6) (pcN := 9) jIQ_39_7 (by decide) rfl ?_
  refine jT_xicF (t := 28) (pcN := 12) jIQ_39_9 rfl (by decide +kernel) rfl rfl ?_
  refine jT_xlload_n (v := (1, -r7 - r8)) (pcN := 13) jIQ_39_12 rfl rfl rfl ?_
  refine jT_xaload_n (v := (4, 1)) (pcN := 14) jIQ_39_13 rfl rfl rfl ?_
  refine jT_xiload (v := (0, 4)) (pcN := 16) jIQ_39_14 rfl rfl rfl ?_
  refine jT_lald (x := 0) (a := 1) (j := 4) (fs := []) (X := [0, r7, r8, 0, 0, 0]) jIQ_39_16 rfl rfl rfl rfl ?_
  refine jT_eq (LN := [(4, (0, 4)), (2, (1, -r7 - r8)), (0, (4, 0)), (1, (4, 1))]) (stN := [(1, 0), (1, -r7 - r8)]) (hsN := [jgh, (101, [], [0, r7, r8, 0, 0, 0])]) rfl rfl rfl ?_
  refine jT_labs (z := 0) (by rfl) (by rfl) (by rfl) (by rfl) (by decide +kernel) ?_
  refine jT_xladd (x := -r7 - r8) (y := 0) (z := -r7 - r8) (pcN := 21) jIQ_39_20 rfl (by omega) rfl ?_
  refine jT_xlstore_n (v := (1, -r7 - r8)) (LN := [(2, (1, -r7 - r8)), (4, (0, 4)), (0, (4, 0)), (1, (4, 1))]) (pcN := 22) jIQ_39_21 rfl rfl rfl rfl ?_
  refine jT_xiinc (x := 4) (z := 5) (LN := [(4, (0, 5)), (2, (1, -r7 - r8)), (0, (4, 0)), (1, (4, 1))]) (pcN := 25) jIQ_39_22 rfl rfl (by decide) rfl rfl ?_
  refine jT_xgoto (pcN := 5) jIQ_39_25 rfl ?_
  refine jT_xiload (v := (0, 5)) (pcN := 7) jIQ_39_5 rfl rfl rfl ?_
  refine jT_xbipush (k := 6) (pcN := 9) jIQ_39_7 (by decide) rfl ?_
  refine jT_xicF (t := 28) (pcN := 12) jIQ_39_9 rfl (by decide +kernel) rfl rfl ?_
  refine jT_xlload_n (v := (1, -r7 - r8)) (pcN := 13) jIQ_39_12 rfl rfl rfl ?_
  refine jT_xaload_n (v := (4, 1)) (pcN := 14) jIQ_39_13 rfl rfl rfl ?_
  refine jT_xiload (v := (0, 5)) (pcN := 16) jIQ_39_14 rfl rfl rfl ?_
  refine jT_lald (x := 0) (a := 1) (j := 5) (fs := []) (X := [0, r7, r8, 0, 0, 0]) jIQ_39_16 rfl rfl rfl rfl ?_
  refine jT_eq (LN := [(4, (0, 5)), (2, (1, -r7 - r8)), (0, (4, 0)), (1, (4, 1))]) (stN := [(1, 0), (1, -r7 - r8)]) (hsN := [jgh, (101, [], [0, r7, r8, 0, 0, 0])]) rfl rfl rfl ?_
  refine jT_labs (z := 0) (by rfl) (by rfl) (by rfl) (by rfl) (by decide +kernel) ?_
  refine jT_xladd (x := -r7 - r8) (y := 0) (z := -r7 - r8) (pcN := 21) jIQ_39_20 rfl (by omega) rfl ?_
  refine jT_xlstore_n (v := (1, -r7 - r8)) (LN := [(2, (1, -r7 - r8)), (4, (0, 5)), (0, (4, 0)), (1, (4, 1))]) (pcN := 22) jIQ_39_21 rfl rfl rfl rfl ?_
  refine jT_xiinc (x := 5) (z := 6) (LN := [(4, (0, 6)), (2, (1, -r7 - r8)), (0, (4, 0)), (1, (4, 1))]) (pcN := 25) jIQ_39_22 rfl rfl (by decide) rfl rfl ?_
  refine jT_xgoto (pcN := 5) jIQ_39_25 rfl ?_
  refine jT_xiload (v := (0, 6)) (pcN := 7) jIQ_39_5 rfl rfl rfl ?_
  refine jT_xbipush (k := 6) (pcN := 9) jIQ_39_7 (by decide) rfl ?_
  refine jT_xicT (pcN := 28) jIQ_39_9 rfl (by decide +kernel) rfl ?_
  refine jT_xlload_n (v := (1, -r7 - r8)) (pcN := 29) jIQ_39_28 rfl rfl rfl ?_
  exact jT_ret rfl (by decide) (by show 2 ≤ 2; omega) (by omega) (by omega) ⟨rfl, rfl, rfl⟩
theorem jIQ_40_0 : jmI (jm 40) 0 = (.lload_n 2, 1) := by rfl
theorem jIQ_40_5 : jmI (jm 40) 5 = (.ifCond .ge 20, 3) := by rfl
theorem jIQ_40_8 : jmI (jm 40) 8 = (.aload_n 1, 1) := by rfl
theorem jIQ_40_9 : jmI (jm 40) 9 = (.iconst 0, 1) := by rfl
theorem jIQ_40_10 : jmI (jm 40) 10 = (.laload, 1) := by rfl
theorem jIQ_40_18 : jmI (jm 40) 18 = (.ifCond .ge 7, 3) := by rfl
theorem jIQ_40_21 : jmI (jm 40) 21 = (.iconst 1, 1) := by rfl
theorem jIQ_40_22 : jmI (jm 40) 22 = (.goto 4, 3) := by rfl
theorem jQ_40_41 {xs : List Int} {d : Nat} {r7 r8 : Int} (h_r7 : (-20) ≤ r7 ∧ r7 ≤ 20) (h_r8 : (-10) ≤ r8 ∧ r8 ≤ 10) (g_0 : r7 < 0) (g_1 : r8 < 0) : jT xs d 40 2 0 [(0, (4, 0)), (1, (4, 1)), (2, (1, -r7 - r8))] [] [jgh, (101, [], [0, r7, r8, 0, 0, 0])] 0 0 (fun k v hsN => k = 0 ∧ v = (0, 1) ∧ hsN = [jgh, (101, [], [0, r7, r8, 0, 0, 0])] ++ []) := by
  refine jT_xlload_n (v := (1, -r7 - r8)) (pcN := 1) jIQ_40_0 rfl rfl rfl ?_
  refine jT_adv 1 (pcN := 4) (LN := [(0, (4, 0)), (1, (4, 1)), (2, (1, -r7 - r8))]) (stN := [(1, 16777216), (1, -r7 - r8)]) (hsN := [jgh, (101, [], [0, r7, r8, 0, 0, 0])]) (c1 := 0) (s1 := 0) (c2 := 0) (s2 := 0) (by exact rfl) ?_ (by omega) (by omega)
  refine jT_lcmp (a := -r7 - r8) (b := 16777216) (z := (-1)) (by rfl) (by rfl) (jwl_idd (by omega) (by omega)) (jwl_idd (by omega) (by omega)) (by rw [decide_eq_false (show ¬ ((16777216 : Int) < -r7 - r8) by omega), decide_eq_false (show ¬ ((-r7 - r8 : Int) = 16777216) by omega)]; rfl) ?_
  refine jT_xifF (t := 25) (pcN := 8) jIQ_40_5 rfl (by decide +kernel) rfl rfl ?_
  refine jT_xaload_n (v := (4, 1)) (pcN := 9) jIQ_40_8 rfl rfl rfl ?_
  refine jT_xiconst (k := 0) (pcN := 10) jIQ_40_9 rfl ?_
  refine jT_lald (x := 0) (a := 1) (j := 0) (fs := []) (X := [0, r7, r8, 0, 0, 0]) jIQ_40_10 rfl rfl rfl rfl ?_
  refine jT_eq (LN := [(0, (4, 0)), (1, (4, 1)), (2, (1, -r7 - r8))]) (stN := [(1, 0)]) (hsN := [jgh, (101, [], [0, r7, r8, 0, 0, 0])]) rfl rfl rfl ?_
  refine jT_labs (z := 0) (by rfl) (by rfl) (by rfl) (by rfl) (by decide +kernel) ?_
  refine jT_adv 1 (pcN := 17) (LN := [(0, (4, 0)), (1, (4, 1)), (2, (1, -r7 - r8))]) (stN := [(1, 16777216), (1, 0)]) (hsN := [jgh, (101, [], [0, r7, r8, 0, 0, 0])]) (c1 := 0) (s1 := 0) (c2 := 0) (s2 := 0) (by exact rfl) ?_ (by omega) (by omega)
  refine jT_lcmp (a := 0) (b := 16777216) (z := (-1)) (by rfl) (by rfl) (by decide +kernel) (by decide +kernel) (by decide) ?_
  refine jT_xifF (t := 25) (pcN := 21) jIQ_40_18 rfl (by decide +kernel) rfl rfl ?_
  refine jT_xiconst (k := 1) (pcN := 22) jIQ_40_21 rfl ?_
  refine jT_xgoto (pcN := 26) jIQ_40_22 rfl ?_
  exact jT_ret rfl (by decide) (by show 2 ≤ 2; omega) (by omega) (by omega) ⟨rfl, rfl, rfl⟩
theorem jIQ_41_0 : jmI (jm 41) 0 = (.lconst 0, 1) := by rfl
theorem jIQ_41_1 : jmI (jm 41) 1 = (.lstore_n 2, 1) := by rfl
theorem jIQ_41_2 : jmI (jm 41) 2 = (.iconst 0, 1) := by rfl
theorem jIQ_41_3 : jmI (jm 41) 3 = (.istore 4, 2) := by rfl
theorem jIQ_41_5 : jmI (jm 41) 5 = (.iload 4, 2) := by rfl
theorem jIQ_41_7 : jmI (jm 41) 7 = (.bipush 6, 2) := by rfl
theorem jIQ_41_9 : jmI (jm 41) 9 = (.if_icmp .ge 23, 3) := by rfl
theorem jIQ_41_12 : jmI (jm 41) 12 = (.lload_n 2, 1) := by rfl
theorem jIQ_41_13 : jmI (jm 41) 13 = (.aload_n 1, 1) := by rfl
theorem jIQ_41_14 : jmI (jm 41) 14 = (.iload 4, 2) := by rfl
theorem jIQ_41_16 : jmI (jm 41) 16 = (.laload, 1) := by rfl
theorem jIQ_41_20 : jmI (jm 41) 20 = (.iload 4, 2) := by rfl
theorem jIQ_41_23 : jmI (jm 41) 23 = (.lmul, 1) := by rfl
theorem jIQ_41_24 : jmI (jm 41) 24 = (.ladd, 1) := by rfl
theorem jIQ_41_25 : jmI (jm 41) 25 = (.lstore_n 2, 1) := by rfl
theorem jIQ_41_26 : jmI (jm 41) 26 = (.iinc 4 1, 3) := by rfl
theorem jIQ_41_29 : jmI (jm 41) 29 = (.goto (-24), 3) := by rfl
theorem jIQ_41_32 : jmI (jm 41) 32 = (.lload_n 2, 1) := by rfl
theorem jQ_41_42 {xs : List Int} {d : Nat} {r7 r8 : Int} (h_r7 : (-20) ≤ r7 ∧ r7 ≤ 20) (h_r8 : (-10) ≤ r8 ∧ r8 ≤ 10) (g_0 : r7 < 0) (g_1 : r8 < 0) : jT xs d 41 2 0 [(0, (4, 0)), (1, (4, 1))] [] [jgh, (101, [], [0, r7, r8, 0, 0, 0])] 0 0 (fun k v hsN => k = 0 ∧ v = (1, 108917793695 * r7 + 159561683699 * r8) ∧ hsN = [jgh, (101, [], [0, r7, r8, 0, 0, 0])] ++ []) := by
  refine jT_xlconst (z := 0) (pcN := 1) jIQ_41_0 rfl rfl ?_
  refine jT_xlstore_n (v := (1, 0)) (LN := [(2, (1, 0)), (0, (4, 0)), (1, (4, 1))]) (pcN := 2) jIQ_41_1 rfl rfl rfl rfl ?_
  refine jT_xiconst (k := 0) (pcN := 3) jIQ_41_2 rfl ?_
  refine jT_xistore (v := (0, 0)) (LN := [(4, (0, 0)), (2, (1, 0)), (0, (4, 0)), (1, (4, 1))]) (pcN := 5) jIQ_41_3 rfl rfl rfl rfl ?_
  refine jT_xiload (v := (0, 0)) (pcN := 7) jIQ_41_5 rfl rfl rfl ?_
  refine jT_xbipush (k := 6) (pcN := 9) jIQ_41_7 (by decide) rfl ?_
  refine jT_xicF (t := 32) (pcN := 12) jIQ_41_9 rfl (by decide +kernel) rfl rfl ?_
  refine jT_xlload_n (v := (1, 0)) (pcN := 13) jIQ_41_12 rfl rfl rfl ?_
  refine jT_xaload_n (v := (4, 1)) (pcN := 14) jIQ_41_13 rfl rfl rfl ?_
  refine jT_xiload (v := (0, 0)) (pcN := 16) jIQ_41_14 rfl rfl rfl ?_
  refine jT_lald (x := 0) (a := 1) (j := 0) (fs := []) (X := [0, r7, r8, 0, 0, 0]) jIQ_41_16 rfl rfl rfl rfl ?_
  refine jT_eq (LN := [(4, (0, 0)), (2, (1, 0)), (0, (4, 0)), (1, (4, 1))]) (stN := [(1, 0), (1, 0)]) (hsN := [jgh, (101, [], [0, r7, r8, 0, 0, 0])]) rfl rfl rfl ?_
  refine jT_adv 1 (pcN := 20) (LN := [(4, (0, 0)), (2, (1, 0)), (0, (4, 0)), (1, (4, 1))]) (stN := [(5, 0), (1, 0), (1, 0)]) (hsN := [jgh, (101, [], [0, r7, r8, 0, 0, 0])]) (c1 := 0) (s1 := 0) (c2 := 0) (s2 := 0) (by exact rfl) ?_ (by omega) (by omega)
  refine jT_xiload (v := (0, 0)) (pcN := 22) jIQ_41_20 rfl rfl rfl ?_
  refine jT_adv 1 (pcN := 23) (LN := [(4, (0, 0)), (2, (1, 0)), (0, (4, 0)), (1, (4, 1))]) (stN := [(1, 68719476736), (1, 0), (1, 0)]) (hsN := [jgh, (101, [], [0, r7, r8, 0, 0, 0])]) (c1 := 0) (s1 := 0) (c2 := 0) (s2 := 0) (by exact rfl) ?_ (by omega) (by omega)
  refine jT_xlmul (x := 0) (y := 68719476736) (z := 0) (pcN := 24) jIQ_41_23 rfl (by decide) rfl ?_
  refine jT_xladd (x := 0) (y := 0) (z := 0) (pcN := 25) jIQ_41_24 rfl (by decide) rfl ?_
  refine jT_xlstore_n (v := (1, 0)) (LN := [(2, (1, 0)), (4, (0, 0)), (0, (4, 0)), (1, (4, 1))]) (pcN := 26) jIQ_41_25 rfl rfl rfl rfl ?_
  refine jT_xiinc (x := 0) (z := 1) (LN := [(4, (0, 1)), (2, (1, 0)), (0, (4, 0)), (1, (4, 1))]) (pcN := 29) jIQ_41_26 rfl rfl (by decide) rfl rfl ?_
  refine jT_xgoto (pcN := 5) jIQ_41_29 rfl ?_
  refine jT_xiload (v := (0, 1)) (pcN := 7) jIQ_41_5 rfl rfl rfl ?_
  refine jT_xbipush (k := 6) (pcN := 9) jIQ_41_7 (by decide) rfl ?_
  refine jT_xicF (t := 32) (pcN := 12) jIQ_41_9 rfl (by decide +kernel) rfl rfl ?_
  refine jT_xlload_n (v := (1, 0)) (pcN := 13) jIQ_41_12 rfl rfl rfl ?_
  refine jT_xaload_n (v := (4, 1)) (pcN := 14) jIQ_41_13 rfl rfl rfl ?_
  refine jT_xiload (v := (0, 1)) (pcN := 16) jIQ_41_14 rfl rfl rfl ?_
  refine jT_lald (x := r7) (a := 1) (j := 1) (fs := []) (X := [0, r7, r8, 0, 0, 0]) jIQ_41_16 rfl rfl rfl rfl ?_
  refine jT_eq (LN := [(4, (0, 1)), (2, (1, 0)), (0, (4, 0)), (1, (4, 1))]) (stN := [(1, r7), (1, 0)]) (hsN := [jgh, (101, [], [0, r7, r8, 0, 0, 0])]) rfl rfl rfl ?_
  refine jT_adv 1 (pcN := 20) (LN := [(4, (0, 1)), (2, (1, 0)), (0, (4, 0)), (1, (4, 1))]) (stN := [(5, 0), (1, r7), (1, 0)]) (hsN := [jgh, (101, [], [0, r7, r8, 0, 0, 0])]) (c1 := 0) (s1 := 0) (c2 := 0) (s2 := 0) (by exact rfl) ?_ (by omega) (by omega)
  refine jT_xiload (v := (0, 1)) (pcN := 22) jIQ_41_20 rfl rfl rfl ?_
  refine jT_adv 1 (pcN := 23) (LN := [(4, (0, 1)), (2, (1, 0)), (0, (4, 0)), (1, (4, 1))]) (stN := [(1, 108917793695), (1, r7), (1, 0)]) (hsN := [jgh, (101, [], [0, r7, r8, 0, 0, 0])]) (c1 := 0) (s1 := 0) (c2 := 0) (s2 := 0) (by exact rfl) ?_ (by omega) (by omega)
  refine jT_xlmul (x := r7) (y := 108917793695) (z := 108917793695 * r7) (pcN := 24) jIQ_41_23 rfl (by omega) rfl ?_
  refine jT_xladd (x := 0) (y := 108917793695 * r7) (z := 108917793695 * r7) (pcN := 25) jIQ_41_24 rfl (by omega) rfl ?_
  refine jT_xlstore_n (v := (1, 108917793695 * r7)) (LN := [(2, (1, 108917793695 * r7)), (4, (0, 1)), (0, (4, 0)), (1, (4, 1))]) (pcN := 26) jIQ_41_25 rfl rfl rfl rfl ?_
  refine jT_xiinc (x := 1) (z := 2) (LN := [(4, (0, 2)), (2, (1, 108917793695 * r7)), (0, (4, 0)), (1, (4, 1))]) (pcN := 29) jIQ_41_26 rfl rfl (by decide) rfl rfl ?_
  refine jT_xgoto (pcN := 5) jIQ_41_29 rfl ?_
  refine jT_xiload (v := (0, 2)) (pcN := 7) jIQ_41_5 rfl rfl rfl ?_
  refine jT_xbipush (k := 6) (pcN := 9) jIQ_41_7 (by decide) rfl ?_
  refine jT_xicF (t := 32) (pcN := 12) jIQ_41_9 rfl (by decide +kernel) rfl rfl ?_
  refine jT_xlload_n (v := (1, 108917793695 * r7)) (pcN := 13) jIQ_41_12 rfl rfl rfl ?_
  refine jT_xaload_n (v := (4, 1)) (pcN := 14) jIQ_41_13 rfl rfl rfl ?_
  refine jT_xiload (v := (0, 2)) (pcN := 16) jIQ_41_14 rfl rfl rfl ?_
  refine jT_lald (x := r8) (a := 1) (j := 2) (fs := []) (X := [0, r7, r8, 0, 0, 0]) jIQ_41_16 rfl rfl rfl rfl ?_
  refine jT_eq (LN := [(4, (0, 2)), (2, (1, 108917793695 * r7)), (0, (4, 0)), (1, (4, 1))]) (stN := [(1, r8), (1, 108917793695 * r7)]) (hsN := [jgh, (101, [], [0, r7, r8, 0, 0, 0])]) rfl rfl rfl ?_
  refine jT_adv 1 (pcN := 20) (LN := [(4, (0, 2)), (2, (1, 108917793695 * r7)), (0, (4, 0)), (1, (4, 1))]) (stN := [(5, 0), (1, r8), (1, 108917793695 * r7)]) (hsN := [jgh, (101, [], [0, r7, r8, 0, 0, 0])]) (c1 := 0) (s1 := 0) (c2 := 0) (s2 := 0) (by exact rfl) ?_ (by omega) (by omega)
  refine jT_xiload (v := (0, 2)) (pcN := 22) jIQ_41_20 rfl rfl rfl ?_
  refine jT_adv 1 (pcN := 23) (LN := [(4, (0, 2)), (2, (1, 108917793695 * r7)), (0, (4, 0)), (1, (4, 1))]) (stN := [(1, 159561683699), (1, r8), (1, 108917793695 * r7)]) (hsN := [jgh, (101, [], [0, r7, r8, 0, 0, 0])]) (c1 := 0) (s1 := 0) (c2 := 0) (s2 := 0) (by exact rfl) ?_ (by omega) (by omega)
  refine jT_xlmul (x := r8) (y := 159561683699) (z := 159561683699 * r8) (pcN := 24) jIQ_41_23 rfl (by omega) rfl ?_
  refine jT_xladd (x := 108917793695 * r7) (y := 159561683699 * r8) (z := 108917793695 * r7 + 159561683699 * r8) (pcN := 25) jIQ_41_24 rfl (by omega) rfl ?_
  refine jT_xlstore_n (v := (1, 108917793695 * r7 + 159561683699 * r8)) (LN := [(2, (1, 108917793695 * r7 + 159561683699 * r8)), (4, (0, 2)), (0, (4, 0)), (1, (4, 1))]) (pcN := 26) jIQ_41_25 rfl rfl rfl rfl ?_
  refine jT_xiinc (x := 2) (z := 3) (LN := [(4, (0, 3)), (2, (1, 108917793695 * r7 + 159561683699 * r8)), (0, (4, 0)), (1, (4, 1))]) (pcN := 29) jIQ_41_26 rfl rfl (by decide) rfl rfl ?_
  refine jT_xgoto (pcN := 5) jIQ_41_29 rfl ?_
  refine jT_xiload (v := (0, 3)) (pcN := 7) jIQ_41_5 rfl rfl rfl ?_
  refine jT_xbipush (k := 6) (pcN := 9) jIQ_41_7 (by decide) rfl ?_
  refine jT_xicF (t := 32) (pcN := 12) jIQ_41_9 rfl (by decide +kernel) rfl rfl ?_
  refine jT_xlload_n (v := (1, 108917793695 * r7 + 159561683699 * r8)) (pcN := 13) jIQ_41_12 rfl rfl rfl ?_
  refine jT_xaload_n (v := (4, 1)) (pcN := 14) jIQ_41_13 rfl rfl rfl ?_
  refine jT_xiload (v := (0, 3)) (pcN := 16) jIQ_41_14 rfl rfl rfl ?_
  refine jT_lald (x := 0) (a := 1) (j := 3) (fs := []) (X := [0, r7, r8, 0, 0, 0]) jIQ_41_16 rfl rfl rfl rfl ?_
  refine jT_eq (LN := [(4, (0, 3)), (2, (1, 108917793695 * r7 + 159561683699 * r8)), (0, (4, 0)), (1, (4, 1))]) (stN := [(1, 0), (1, 108917793695 * r7 + 159561683699 * r8)]) (hsN := [jgh, (101, [], [0, r7, r8, 0, 0, 0])]) rfl rfl rfl ?_
  refine jT_adv 1 (pcN := 20) (LN := [(4, (0, 3)), (2, (1, 108917793695 * r7 + 159561683699 * r8)), (0, (4, 0)), (1, (4, 1))]) (stN := [(5, 0), (1, 0), (1, 108917793695 * r7 + 159561683699 * r8)]) (hsN := [jgh, (101, [], [0, r7, r8, 0, 0, 0])]) (c1 := 0) (s1 := 0) (c2 := 0) (s2 := 0) (by exact rfl) ?_ (by omega) (by omega)
  refine jT_xiload (v := (0, 3)) (pcN := 22) jIQ_41_20 rfl rfl rfl ?_
  refine jT_adv 1 (pcN := 23) (LN := [(4, (0, 3)), (2, (1, 108917793695 * r7 + 159561683699 * r8)), (0, (4, 0)), (1, (4, 1))]) (stN := [(1, 192919961256), (1, 0), (1, 108917793695 * r7 + 159561683699 * r8)]) (hsN := [jgh, (101, [], [0, r7, r8, 0, 0, 0])]) (c1 := 0) (s1 := 0) (c2 := 0) (s2 := 0) (by exact rfl) ?_ (by omega) (by omega)
  refine jT_xlmul (x := 0) (y := 192919961256) (z := 0) (pcN := 24) jIQ_41_23 rfl (by decide) rfl ?_
  refine jT_xladd (x := 108917793695 * r7 + 159561683699 * r8) (y := 0) (z := 108917793695 * r7 + 159561683699 * r8) (pcN := 25) jIQ_41_24 rfl (by omega) rfl ?_
  refine jT_xlstore_n (v := (1, 108917793695 * r7 + 159561683699 * r8)) (LN := [(2, (1, 108917793695 * r7 + 159561683699 * r8)), (4, (0, 3)), (0, (4, 0)), (1, (4, 1))]) (pcN := 26) jIQ_41_25 rfl rfl rfl rfl ?_
  refine jT_xiinc (x := 3) (z := 4) (LN := [(4, (0, 4)), (2, (1, 108917793695 * r7 + 159561683699 * r8)), (0, (4, 0)), (1, (4, 1))]) (pcN := 29) jIQ_41_26 rfl rfl (by decide) rfl rfl ?_
  refine jT_xgoto (pcN := 5) jIQ_41_29 rfl ?_
  refine jT_xiload (v := (0, 4)) (pcN := 7) jIQ_41_5 rfl rfl rfl ?_
  refine jT_xbipush (k := 6) (pcN := 9) jIQ_41_7 (by decide) rfl ?_
  refine jT_xicF (t := 32) (pcN := 12) jIQ_41_9 rfl (by decide +kernel) rfl rfl ?_
  refine jT_xlload_n (v := (1, 108917793695 * r7 + 159561683699 * r8)) (pcN := 13) jIQ_41_12 rfl rfl rfl ?_
  refine jT_xaload_n (v := (4, 1)) (pcN := 14) jIQ_41_13 rfl rfl rfl ?_
  refine jT_xiload (v := (0, 4)) (pcN := 16) jIQ_41_14 rfl rfl rfl ?_
  refine jT_lald (x := 0) (a := 1) (j := 4) (fs := []) (X := [0, r7, r8, 0, 0, 0]) jIQ_41_16 rfl rfl rfl rfl ?_
  refine jT_eq (LN := [(4, (0, 4)), (2, (1, 108917793695 * r7 + 159561683699 * r8)), (0, (4, 0)), (1, (4, 1))]) (stN := [(1, 0), (1, 108917793695 * r7 + 159561683699 * r8)]) (hsN := [jgh, (101, [], [0, r7, r8, 0, 0, 0])]) rfl rfl rfl ?_
  refine jT_adv 1 (pcN := 20) (LN := [(4, (0, 4)), (2, (1, 108917793695 * r7 + 159561683699 * r8)), (0, (4, 0)), (1, (4, 1))]) (stN := [(5, 0), (1, 0), (1, 108917793695 * r7 + 159561683699 * r8)]) (hsN := [jgh, (101, [], [0, r7, r8, 0, 0, 0])]) (c1 := 0) (s1 := 0) (c2 := 0) (s2 := 0) (by exact rfl) ?_ (by omega) (by omega)
  refine jT_xiload (v := (0, 4)) (pcN := 22) jIQ_41_20 rfl rfl rfl ?_
  refine jT_adv 1 (pcN := 23) (LN := [(4, (0, 4)), (2, (1, 108917793695 * r7 + 159561683699 * r8)), (0, (4, 0)), (1, (4, 1))]) (stN := [(1, 237730330636), (1, 0), (1, 108917793695 * r7 + 159561683699 * r8)]) (hsN := [jgh, (101, [], [0, r7, r8, 0, 0, 0])]) (c1 := 0) (s1 := 0) (c2 := 0) (s2 := 0) (by exact rfl) ?_ (by omega) (by omega)
  refine jT_xlmul (x := 0) (y := 237730330636) (z := 0) (pcN := 24) jIQ_41_23 rfl (by decide) rfl ?_
  refine jT_xladd (x := 108917793695 * r7 + 159561683699 * r8) (y := 0) (z := 108917793695 * r7 + 159561683699 * r8) (pcN := 25) jIQ_41_24 rfl (by omega) rfl ?_
  refine jT_xlstore_n (v := (1, 108917793695 * r7 + 159561683699 * r8)) (LN := [(2, (1, 108917793695 * r7 + 159561683699 * r8)), (4, (0, 4)), (0, (4, 0)), (1, (4, 1))]) (pcN := 26) jIQ_41_25 rfl rfl rfl rfl ?_
  refine jT_xiinc (x := 4) (z := 5) (LN := [(4, (0, 5)), (2, (1, 108917793695 * r7 + 159561683699 * r8)), (0, (4, 0)), (1, (4, 1))]) (pcN := 29) jIQ_41_26 rfl rfl (by decide) rfl rfl ?_
  refine jT_xgoto (pcN := 5) jIQ_41_29 rfl ?_
  refine jT_xiload (v := (0, 5)) (pcN := 7) jIQ_41_5 rfl rfl rfl ?_
  refine jT_xbipush (k := 6) (pcN := 9) jIQ_41_7 (by decide) rfl ?_
  refine jT_xicF (t := 32) (pcN := 12) jIQ_41_9 rfl (by decide +kernel) rfl rfl ?_
  refine jT_xlload_n (v := (1, 108917793695 * r7 + 159561683699 * r8)) (pcN := 13) jIQ_41_12 rfl rfl rfl ?_
  refine jT_xaload_n (v := (4, 1)) (pcN := 14) jIQ_41_13 rfl rfl rfl ?_
  refine jT_xiload (v := (0, 5)) (pcN := 16) jIQ_41_14 rfl rfl rfl ?_
  refine jT_lald (x := 0) (a := 1) (j := 5) (fs := []) (X := [0, r7, r8, 0, 0, 0]) jIQ_41_16 rfl rfl rfl rfl ?_
  refine jT_eq (LN := [(4, (0, 5)), (2, (1, 108917793695 * r7 + 159561683699 * r8)), (0, (4, 0)), (1, (4, 1))]) (stN := [(1, 0), (1, 108917793695 * r7 + 159561683699 * r8)]) (hsN := [jgh, (101, [], [0, r7, r8, 0, 0, 0])]) rfl rfl rfl ?_
  refine jT_adv 1 (pcN := 20) (LN := [(4, (0, 5)), (2, (1, 108917793695 * r7 + 159561683699 * r8)), (0, (4, 0)), (1, (4, 1))]) (stN := [(5, 0), (1, 0), (1, 108917793695 * r7 + 159561683699 * r8)]) (hsN := [jgh, (101, [], [0, r7, r8, 0, 0, 0])]) (c1 := 0) (s1 := 0) (c2 := 0) (s2 := 0) (by exact rfl) ?_ (by omega) (by omega)
  refine jT_xiload (v := (0, 5)) (pcN := 22) jIQ_41_20 rfl rfl rfl ?_
  refine jT_adv 1 (pcN := 23) (LN := [(4, (0, 5)), (2, (1, 108917793695 * r7 + 159561683699 * r8)), (0, (4, 0)), (1, (4, 1))]) (stN := [(1, 254292281123), (1, 0), (1, 108917793695 * r7 + 159561683699 * r8)]) (hsN := [jgh, (101, [], [0, r7, r8, 0, 0, 0])]) (c1 := 0) (s1 := 0) (c2 := 0) (s2 := 0) (by exact rfl) ?_ (by omega) (by omega)
  refine jT_xlmul (x := 0) (y := 254292281123) (z := 0) (pcN := 24) jIQ_41_23 rfl (by decide) rfl ?_
  refine jT_xladd (x := 108917793695 * r7 + 159561683699 * r8) (y := 0) (z := 108917793695 * r7 + 159561683699 * r8) (pcN := 25) jIQ_41_24 rfl (by omega) rfl ?_
  refine jT_xlstore_n (v := (1, 108917793695 * r7 + 159561683699 * r8)) (LN := [(2, (1, 108917793695 * r7 + 159561683699 * r8)), (4, (0, 5)), (0, (4, 0)), (1, (4, 1))]) (pcN := 26) jIQ_41_25 rfl rfl rfl rfl ?_
  refine jT_xiinc (x := 5) (z := 6) (LN := [(4, (0, 6)), (2, (1, 108917793695 * r7 + 159561683699 * r8)), (0, (4, 0)), (1, (4, 1))]) (pcN := 29) jIQ_41_26 rfl rfl (by decide) rfl rfl ?_
  refine jT_xgoto (pcN := 5) jIQ_41_29 rfl ?_
  refine jT_xiload (v := (0, 6)) (pcN := 7) jIQ_41_5 rfl rfl rfl ?_
  refine jT_xbipush (k := 6) (pcN := 9) jIQ_41_7 (by decide) rfl ?_
  refine jT_xicT (pcN := 32) jIQ_41_9 rfl (by decide +kernel) rfl ?_
  refine jT_xlload_n (v := (1, 108917793695 * r7 + 159561683699 * r8)) (pcN := 33) jIQ_41_32 rfl rfl rfl ?_
  exact jT_ret rfl (by decide) (by show 2 ≤ 2; omega) (by omega) (by omega) ⟨rfl, rfl, rfl⟩
theorem jQ_39_43 {xs : List Int} {d : Nat} {r7 r8 : Int} (h_r7 : (-20) ≤ r7 ∧ r7 ≤ 20) (h_r8 : (-10) ≤ r8 ∧ r8 ≤ 10) (g_0 : r7 < 0) (g_1 : r8 < 0) (g_2 : 108917793695 * r7 + 159561683699 * r8 < 0) : jT xs d 39 2 0 [(0, (4, 0)), (1, (4, 1))] [] [jgh, (101, [], [0, r7, r8, 0, 0, 0])] 0 0 (fun k v hsN => k = 0 ∧ v = (1, -r7 - r8) ∧ hsN = [jgh, (101, [], [0, r7, r8, 0, 0, 0])] ++ []) := by
  refine jT_xlconst (z := 0) (pcN := 1) jIQ_39_0 rfl rfl ?_
  refine jT_xlstore_n (v := (1, 0)) (LN := [(2, (1, 0)), (0, (4, 0)), (1, (4, 1))]) (pcN := 2) jIQ_39_1 rfl rfl rfl rfl ?_
  refine jT_xiconst (k := 1) (pcN := 3) jIQ_39_2 rfl ?_
  refine jT_xistore (v := (0, 1)) (LN := [(4, (0, 1)), (2, (1, 0)), (0, (4, 0)), (1, (4, 1))]) (pcN := 5) jIQ_39_3 rfl rfl rfl rfl ?_
  refine jT_xiload (v := (0, 1)) (pcN := 7) jIQ_39_5 rfl rfl rfl ?_
  refine jT_xbipush (k := 6) (pcN := 9) jIQ_39_7 (by decide) rfl ?_
  refine jT_xicF (t := 28) (pcN := 12) jIQ_39_9 rfl (by decide +kernel) rfl rfl ?_
  refine jT_xlload_n (v := (1, 0)) (pcN := 13) jIQ_39_12 rfl rfl rfl ?_
  refine jT_xaload_n (v := (4, 1)) (pcN := 14) jIQ_39_13 rfl rfl rfl ?_
  refine jT_xiload (v := (0, 1)) (pcN := 16) jIQ_39_14 rfl rfl rfl ?_
  refine jT_lald (x := r7) (a := 1) (j := 1) (fs := []) (X := [0, r7, r8, 0, 0, 0]) jIQ_39_16 rfl rfl rfl rfl ?_
  refine jT_eq (LN := [(4, (0, 1)), (2, (1, 0)), (0, (4, 0)), (1, (4, 1))]) (stN := [(1, r7), (1, 0)]) (hsN := [jgh, (101, [], [0, r7, r8, 0, 0, 0])]) rfl rfl rfl ?_
  refine jT_labs (z := -r7) (by rfl) (by rfl) (by rfl) (by rfl) (by rw [show jwl (r7) = r7 from jwl_idd (by omega) (by omega), decide_eq_true (by omega)]; first | (simp only [cond_true, cond_false]; done) | (simp only [cond_true, cond_false]; omega) | rfl) ?_
  refine jT_xladd (x := 0) (y := -r7) (z := -r7) (pcN := 21) jIQ_39_20 rfl (by omega) rfl ?_
  refine jT_xlstore_n (v := (1, -r7)) (LN := [(2, (1, -r7)), (4, (0, 1)), (0, (4, 0)), (1, (4, 1))]) (pcN := 22) jIQ_39_21 rfl rfl rfl rfl ?_
  refine jT_xiinc (x := 1) (z := 2) (LN := [(4, (0, 2)), (2, (1, -r7)), (0, (4, 0)), (1, (4, 1))]) (pcN := 25) jIQ_39_22 rfl rfl (by decide) rfl rfl ?_
  refine jT_xgoto (pcN := 5) jIQ_39_25 rfl ?_
  refine jT_xiload (v := (0, 2)) (pcN := 7) jIQ_39_5 rfl rfl rfl ?_
  refine jT_xbipush (k := 6) (pcN := 9) jIQ_39_7 (by decide) rfl ?_
  refine jT_xicF (t := 28) (pcN := 12) jIQ_39_9 rfl (by decide +kernel) rfl rfl ?_
  refine jT_xlload_n (v := (1, -r7)) (pcN := 13) jIQ_39_12 rfl rfl rfl ?_
  refine jT_xaload_n (v := (4, 1)) (pcN := 14) jIQ_39_13 rfl rfl rfl ?_
  refine jT_xiload (v := (0, 2)) (pcN := 16) jIQ_39_14 rfl rfl rfl ?_
  refine jT_lald (x := r8) (a := 1) (j := 2) (fs := []) (X := [0, r7, r8, 0, 0, 0]) jIQ_39_16 rfl rfl rfl rfl ?_
  refine jT_eq (LN := [(4, (0, 2)), (2, (1, -r7)), (0, (4, 0)), (1, (4, 1))]) (stN := [(1, r8), (1, -r7)]) (hsN := [jgh, (101, [], [0, r7, r8, 0, 0, 0])]) rfl rfl rfl ?_
  refine jT_labs (z := -r8) (by rfl) (by rfl) (by rfl) (by rfl) (by rw [show jwl (r8) = r8 from jwl_idd (by omega) (by omega), decide_eq_true (by omega)]; first | (simp only [cond_true, cond_false]; done) | (simp only [cond_true, cond_false]; omega) | rfl) ?_
  refine jT_xladd (x := -r7) (y := -r8) (z := -r7 - r8) (pcN := 21) jIQ_39_20 rfl (by omega) rfl ?_
  refine jT_xlstore_n (v := (1, -r7 - r8)) (LN := [(2, (1, -r7 - r8)), (4, (0, 2)), (0, (4, 0)), (1, (4, 1))]) (pcN := 22) jIQ_39_21 rfl rfl rfl rfl ?_
  refine jT_xiinc (x := 2) (z := 3) (LN := [(4, (0, 3)), (2, (1, -r7 - r8)), (0, (4, 0)), (1, (4, 1))]) (pcN := 25) jIQ_39_22 rfl rfl (by decide) rfl rfl ?_
  refine jT_xgoto (pcN := 5) jIQ_39_25 rfl ?_
  refine jT_xiload (v := (0, 3)) (pcN := 7) jIQ_39_5 rfl rfl rfl ?_
  refine jT_xbipush (k := 6) (pcN := 9) jIQ_39_7 (by decide) rfl ?_
  refine jT_xicF (t := 28) (pcN := 12) jIQ_39_9 rfl (by decide +kernel) rfl rfl ?_
  refine jT_xlload_n (v := (1, -r7 - r8)) (pcN := 13) jIQ_39_12 rfl rfl rfl ?_
  refine jT_xaload_n (v := (4, 1)) (pcN := 14) jIQ_39_13 rfl rfl rfl ?_
  refine jT_xiload (v := (0, 3)) (pcN := 16) jIQ_39_14 rfl rfl rfl ?_
  refine jT_lald (x := 0) (a := 1) (j := 3) (fs := []) (X := [0, r7, r8, 0, 0, 0]) jIQ_39_16 rfl rfl rfl rfl ?_
  refine jT_eq (LN := [(4, (0, 3)), (2, (1, -r7 - r8)), (0, (4, 0)), (1, (4, 1))]) (stN := [(1, 0), (1, -r7 - r8)]) (hsN := [jgh, (101, [], [0, r7, r8, 0, 0, 0])]) rfl rfl rfl ?_
  refine jT_labs (z := 0) (by rfl) (by rfl) (by rfl) (by rfl) (by decide +kernel) ?_
  refine jT_xladd (x := -r7 - r8) (y := 0) (z := -r7 - r8) (pcN := 21) jIQ_39_20 rfl (by omega) rfl ?_
  refine jT_xlstore_n (v := (1, -r7 - r8)) (LN := [(2, (1, -r7 - r8)), (4, (0, 3)), (0, (4, 0)), (1, (4, 1))]) (pcN := 22) jIQ_39_21 rfl rfl rfl rfl ?_
  refine jT_xiinc (x := 3) (z := 4) (LN := [(4, (0, 4)), (2, (1, -r7 - r8)), (0, (4, 0)), (1, (4, 1))]) (pcN := 25) jIQ_39_22 rfl rfl (by decide) rfl rfl ?_
  refine jT_xgoto (pcN := 5) jIQ_39_25 rfl ?_
  refine jT_xiload (v := (0, 4)) (pcN := 7) jIQ_39_5 rfl rfl rfl ?_
  refine jT_xbipush (k := 6) (pcN := 9) jIQ_39_7 (by decide) rfl ?_
  refine jT_xicF (t := 28) (pcN := 12) jIQ_39_9 rfl (by decide +kernel) rfl rfl ?_
  refine jT_xlload_n (v := (1, -r7 - r8)) (pcN := 13) jIQ_39_12 rfl rfl rfl ?_
  refine jT_xaload_n (v := (4, 1)) (pcN := 14) jIQ_39_13 rfl rfl rfl ?_
  refine jT_xiload (v := (0, 4)) (pcN := 16) jIQ_39_14 rfl rfl rfl ?_
  refine jT_lald (x := 0) (a := 1) (j := 4) (fs := []) (X := [0, r7, r8, 0, 0, 0]) jIQ_39_16 rfl rfl rfl rfl ?_
  refine jT_eq (LN := [(4, (0, 4)), (2, (1, -r7 - r8)), (0, (4, 0)), (1, (4, 1))]) (stN := [(1, 0), (1, -r7 - r8)]) (hsN := [jgh, (101, [], [0, r7, r8, 0, 0, 0])]) rfl rfl rfl ?_
  refine jT_labs (z := 0) (by rfl) (by rfl) (by rfl) (by rfl) (by decide +kernel) ?_
  refine jT_xladd (x := -r7 - r8) (y := 0) (z := -r7 - r8) (pcN := 21) jIQ_39_20 rfl (by omega) rfl ?_
  refine jT_xlstore_n (v := (1, -r7 - r8)) (LN := [(2, (1, -r7 - r8)), (4, (0, 4)), (0, (4, 0)), (1, (4, 1))]) (pcN := 22) jIQ_39_21 rfl rfl rfl rfl ?_
  refine jT_xiinc (x := 4) (z := 5) (LN := [(4, (0, 5)), (2, (1, -r7 - r8)), (0, (4, 0)), (1, (4, 1))]) (pcN := 25) jIQ_39_22 rfl rfl (by decide) rfl rfl ?_
  refine jT_xgoto (pcN := 5) jIQ_39_25 rfl ?_
  refine jT_xiload (v := (0, 5)) (pcN := 7) jIQ_39_5 rfl rfl rfl ?_
  refine jT_xbipush (k := 6) (pcN := 9) jIQ_39_7 (by decide) rfl ?_
  refine jT_xicF (t := 28) (pcN := 12) jIQ_39_9 rfl (by decide +kernel) rfl rfl ?_
  refine jT_xlload_n (v := (1, -r7 - r8)) (pcN := 13) jIQ_39_12 rfl rfl rfl ?_
  refine jT_xaload_n (v := (4, 1)) (pcN := 14) jIQ_39_13 rfl rfl rfl ?_
  refine jT_xiload (v := (0, 5)) (pcN := 16) jIQ_39_14 rfl rfl rfl ?_
  refine jT_lald (x := 0) (a := 1) (j := 5) (fs := []) (X := [0, r7, r8, 0, 0, 0]) jIQ_39_16 rfl rfl rfl rfl ?_
  refine jT_eq (LN := [(4, (0, 5)), (2, (1, -r7 - r8)), (0, (4, 0)), (1, (4, 1))]) (stN := [(1, 0), (1, -r7 - r8)]) (hsN := [jgh, (101, [], [0, r7, r8, 0, 0, 0])]) rfl rfl rfl ?_
  refine jT_labs (z := 0) (by rfl) (by rfl) (by rfl) (by rfl) (by decide +kernel) ?_
  refine jT_xladd (x := -r7 - r8) (y := 0) (z := -r7 - r8) (pcN := 21) jIQ_39_20 rfl (by omega) rfl ?_
  refine jT_xlstore_n (v := (1, -r7 - r8)) (LN := [(2, (1, -r7 - r8)), (4, (0, 5)), (0, (4, 0)), (1, (4, 1))]) (pcN := 22) jIQ_39_21 rfl rfl rfl rfl ?_
  refine jT_xiinc (x := 5) (z := 6) (LN := [(4, (0, 6)), (2, (1, -r7 - r8)), (0, (4, 0)), (1, (4, 1))]) (pcN := 25) jIQ_39_22 rfl rfl (by decide) rfl rfl ?_
  refine jT_xgoto (pcN := 5) jIQ_39_25 rfl ?_
  refine jT_xiload (v := (0, 6)) (pcN := 7) jIQ_39_5 rfl rfl rfl ?_
  refine jT_xbipush (k := 6) (pcN := 9) jIQ_39_7 (by decide) rfl ?_
  refine jT_xicT (pcN := 28) jIQ_39_9 rfl (by decide +kernel) rfl ?_
  refine jT_xlload_n (v := (1, -r7 - r8)) (pcN := 29) jIQ_39_28 rfl rfl rfl ?_
  exact jT_ret rfl (by decide) (by show 2 ≤ 2; omega) (by omega) (by omega) ⟨rfl, rfl, rfl⟩
theorem jQ_40_44 {xs : List Int} {d : Nat} {r7 r8 : Int} (h_r7 : (-20) ≤ r7 ∧ r7 ≤ 20) (h_r8 : (-10) ≤ r8 ∧ r8 ≤ 10) (g_0 : r7 < 0) (g_1 : r8 < 0) (g_2 : 108917793695 * r7 + 159561683699 * r8 < 0) : jT xs d 40 2 0 [(0, (4, 0)), (1, (4, 1)), (2, (1, -r7 - r8))] [] [jgh, (101, [], [0, r7, r8, 0, 0, 0])] 0 0 (fun k v hsN => k = 0 ∧ v = (0, 1) ∧ hsN = [jgh, (101, [], [0, r7, r8, 0, 0, 0])] ++ []) := by
  refine jT_xlload_n (v := (1, -r7 - r8)) (pcN := 1) jIQ_40_0 rfl rfl rfl ?_
  refine jT_adv 1 (pcN := 4) (LN := [(0, (4, 0)), (1, (4, 1)), (2, (1, -r7 - r8))]) (stN := [(1, 16777216), (1, -r7 - r8)]) (hsN := [jgh, (101, [], [0, r7, r8, 0, 0, 0])]) (c1 := 0) (s1 := 0) (c2 := 0) (s2 := 0) (by exact rfl) ?_ (by omega) (by omega)
  refine jT_lcmp (a := -r7 - r8) (b := 16777216) (z := (-1)) (by rfl) (by rfl) (jwl_idd (by omega) (by omega)) (jwl_idd (by omega) (by omega)) (by rw [decide_eq_false (show ¬ ((16777216 : Int) < -r7 - r8) by omega), decide_eq_false (show ¬ ((-r7 - r8 : Int) = 16777216) by omega)]; rfl) ?_
  refine jT_xifF (t := 25) (pcN := 8) jIQ_40_5 rfl (by decide +kernel) rfl rfl ?_
  refine jT_xaload_n (v := (4, 1)) (pcN := 9) jIQ_40_8 rfl rfl rfl ?_
  refine jT_xiconst (k := 0) (pcN := 10) jIQ_40_9 rfl ?_
  refine jT_lald (x := 0) (a := 1) (j := 0) (fs := []) (X := [0, r7, r8, 0, 0, 0]) jIQ_40_10 rfl rfl rfl rfl ?_
  refine jT_eq (LN := [(0, (4, 0)), (1, (4, 1)), (2, (1, -r7 - r8))]) (stN := [(1, 0)]) (hsN := [jgh, (101, [], [0, r7, r8, 0, 0, 0])]) rfl rfl rfl ?_
  refine jT_labs (z := 0) (by rfl) (by rfl) (by rfl) (by rfl) (by decide +kernel) ?_
  refine jT_adv 1 (pcN := 17) (LN := [(0, (4, 0)), (1, (4, 1)), (2, (1, -r7 - r8))]) (stN := [(1, 16777216), (1, 0)]) (hsN := [jgh, (101, [], [0, r7, r8, 0, 0, 0])]) (c1 := 0) (s1 := 0) (c2 := 0) (s2 := 0) (by exact rfl) ?_ (by omega) (by omega)
  refine jT_lcmp (a := 0) (b := 16777216) (z := (-1)) (by rfl) (by rfl) (by decide +kernel) (by decide +kernel) (by decide) ?_
  refine jT_xifF (t := 25) (pcN := 21) jIQ_40_18 rfl (by decide +kernel) rfl rfl ?_
  refine jT_xiconst (k := 1) (pcN := 22) jIQ_40_21 rfl ?_
  refine jT_xgoto (pcN := 26) jIQ_40_22 rfl ?_
  exact jT_ret rfl (by decide) (by show 2 ≤ 2; omega) (by omega) (by omega) ⟨rfl, rfl, rfl⟩
theorem jQ_41_45 {xs : List Int} {d : Nat} {r7 r8 : Int} (h_r7 : (-20) ≤ r7 ∧ r7 ≤ 20) (h_r8 : (-10) ≤ r8 ∧ r8 ≤ 10) (g_0 : r7 < 0) (g_1 : r8 < 0) (g_2 : 108917793695 * r7 + 159561683699 * r8 < 0) : jT xs d 41 2 0 [(0, (4, 0)), (1, (4, 1))] [] [jgh, (101, [], [0, r7, r8, 0, 0, 0])] 0 0 (fun k v hsN => k = 0 ∧ v = (1, 108917793695 * r7 + 159561683699 * r8) ∧ hsN = [jgh, (101, [], [0, r7, r8, 0, 0, 0])] ++ []) := by
  refine jT_xlconst (z := 0) (pcN := 1) jIQ_41_0 rfl rfl ?_
  refine jT_xlstore_n (v := (1, 0)) (LN := [(2, (1, 0)), (0, (4, 0)), (1, (4, 1))]) (pcN := 2) jIQ_41_1 rfl rfl rfl rfl ?_
  refine jT_xiconst (k := 0) (pcN := 3) jIQ_41_2 rfl ?_
  refine jT_xistore (v := (0, 0)) (LN := [(4, (0, 0)), (2, (1, 0)), (0, (4, 0)), (1, (4, 1))]) (pcN := 5) jIQ_41_3 rfl rfl rfl rfl ?_
  refine jT_xiload (v := (0, 0)) (pcN := 7) jIQ_41_5 rfl rfl rfl ?_
  refine jT_xbipush (k := 6) (pcN := 9) jIQ_41_7 (by decide) rfl ?_
  refine jT_xicF (t := 32) (pcN := 12) jIQ_41_9 rfl (by decide +kernel) rfl rfl ?_
  refine jT_xlload_n (v := (1, 0)) (pcN := 13) jIQ_41_12 rfl rfl rfl ?_
  refine jT_xaload_n (v := (4, 1)) (pcN := 14) jIQ_41_13 rfl rfl rfl ?_
  refine jT_xiload (v := (0, 0)) (pcN := 16) jIQ_41_14 rfl rfl rfl ?_
  refine jT_lald (x := 0) (a := 1) (j := 0) (fs := []) (X := [0, r7, r8, 0, 0, 0]) jIQ_41_16 rfl rfl rfl rfl ?_
  refine jT_eq (LN := [(4, (0, 0)), (2, (1, 0)), (0, (4, 0)), (1, (4, 1))]) (stN := [(1, 0), (1, 0)]) (hsN := [jgh, (101, [], [0, r7, r8, 0, 0, 0])]) rfl rfl rfl ?_
  refine jT_adv 1 (pcN := 20) (LN := [(4, (0, 0)), (2, (1, 0)), (0, (4, 0)), (1, (4, 1))]) (stN := [(5, 0), (1, 0), (1, 0)]) (hsN := [jgh, (101, [], [0, r7, r8, 0, 0, 0])]) (c1 := 0) (s1 := 0) (c2 := 0) (s2 := 0) (by exact rfl) ?_ (by omega) (by omega)
  refine jT_xiload (v := (0, 0)) (pcN := 22) jIQ_41_20 rfl rfl rfl ?_
  refine jT_adv 1 (pcN := 23) (LN := [(4, (0, 0)), (2, (1, 0)), (0, (4, 0)), (1, (4, 1))]) (stN := [(1, 68719476736), (1, 0), (1, 0)]) (hsN := [jgh, (101, [], [0, r7, r8, 0, 0, 0])]) (c1 := 0) (s1 := 0) (c2 := 0) (s2 := 0) (by exact rfl) ?_ (by omega) (by omega)
  refine jT_xlmul (x := 0) (y := 68719476736) (z := 0) (pcN := 24) jIQ_41_23 rfl (by decide) rfl ?_
  refine jT_xladd (x := 0) (y := 0) (z := 0) (pcN := 25) jIQ_41_24 rfl (by decide) rfl ?_
  refine jT_xlstore_n (v := (1, 0)) (LN := [(2, (1, 0)), (4, (0, 0)), (0, (4, 0)), (1, (4, 1))]) (pcN := 26) jIQ_41_25 rfl rfl rfl rfl ?_
  refine jT_xiinc (x := 0) (z := 1) (LN := [(4, (0, 1)), (2, (1, 0)), (0, (4, 0)), (1, (4, 1))]) (pcN := 29) jIQ_41_26 rfl rfl (by decide) rfl rfl ?_
  refine jT_xgoto (pcN := 5) jIQ_41_29 rfl ?_
  refine jT_xiload (v := (0, 1)) (pcN := 7) jIQ_41_5 rfl rfl rfl ?_
  refine jT_xbipush (k := 6) (pcN := 9) jIQ_41_7 (by decide) rfl ?_
  refine jT_xicF (t := 32) (pcN := 12) jIQ_41_9 rfl (by decide +kernel) rfl rfl ?_
  refine jT_xlload_n (v := (1, 0)) (pcN := 13) jIQ_41_12 rfl rfl rfl ?_
  refine jT_xaload_n (v := (4, 1)) (pcN := 14) jIQ_41_13 rfl rfl rfl ?_
  refine jT_xiload (v := (0, 1)) (pcN := 16) jIQ_41_14 rfl rfl rfl ?_
  refine jT_lald (x := r7) (a := 1) (j := 1) (fs := []) (X := [0, r7, r8, 0, 0, 0]) jIQ_41_16 rfl rfl rfl rfl ?_
  refine jT_eq (LN := [(4, (0, 1)), (2, (1, 0)), (0, (4, 0)), (1, (4, 1))]) (stN := [(1, r7), (1, 0)]) (hsN := [jgh, (101, [], [0, r7, r8, 0, 0, 0])]) rfl rfl rfl ?_
  refine jT_adv 1 (pcN := 20) (LN := [(4, (0, 1)), (2, (1, 0)), (0, (4, 0)), (1, (4, 1))]) (stN := [(5, 0), (1, r7), (1, 0)]) (hsN := [jgh, (101, [], [0, r7, r8, 0, 0, 0])]) (c1 := 0) (s1 := 0) (c2 := 0) (s2 := 0) (by exact rfl) ?_ (by omega) (by omega)
  refine jT_xiload (v := (0, 1)) (pcN := 22) jIQ_41_20 rfl rfl rfl ?_
  refine jT_adv 1 (pcN := 23) (LN := [(4, (0, 1)), (2, (1, 0)), (0, (4, 0)), (1, (4, 1))]) (stN := [(1, 108917793695), (1, r7), (1, 0)]) (hsN := [jgh, (101, [], [0, r7, r8, 0, 0, 0])]) (c1 := 0) (s1 := 0) (c2 := 0) (s2 := 0) (by exact rfl) ?_ (by omega) (by omega)
  refine jT_xlmul (x := r7) (y := 108917793695) (z := 108917793695 * r7) (pcN := 24) jIQ_41_23 rfl (by omega) rfl ?_
  refine jT_xladd (x := 0) (y := 108917793695 * r7) (z := 108917793695 * r7) (pcN := 25) jIQ_41_24 rfl (by omega) rfl ?_
  refine jT_xlstore_n (v := (1, 108917793695 * r7)) (LN := [(2, (1, 108917793695 * r7)), (4, (0, 1)), (0, (4, 0)), (1, (4, 1))]) (pcN := 26) jIQ_41_25 rfl rfl rfl rfl ?_
  refine jT_xiinc (x := 1) (z := 2) (LN := [(4, (0, 2)), (2, (1, 108917793695 * r7)), (0, (4, 0)), (1, (4, 1))]) (pcN := 29) jIQ_41_26 rfl rfl (by decide) rfl rfl ?_
  refine jT_xgoto (pcN := 5) jIQ_41_29 rfl ?_
  refine jT_xiload (v := (0, 2)) (pcN := 7) jIQ_41_5 rfl rfl rfl ?_
  refine jT_xbipush (k := 6) (pcN := 9) jIQ_41_7 (by decide) rfl ?_
  refine jT_xicF (t := 32) (pcN := 12) jIQ_41_9 rfl (by decide +kernel) rfl rfl ?_
  refine jT_xlload_n (v := (1, 108917793695 * r7)) (pcN := 13) jIQ_41_12 rfl rfl rfl ?_
  refine jT_xaload_n (v := (4, 1)) (pcN := 14) jIQ_41_13 rfl rfl rfl ?_
  refine jT_xiload (v := (0, 2)) (pcN := 16) jIQ_41_14 rfl rfl rfl ?_
  refine jT_lald (x := r8) (a := 1) (j := 2) (fs := []) (X := [0, r7, r8, 0, 0, 0]) jIQ_41_16 rfl rfl rfl rfl ?_
  refine jT_eq (LN := [(4, (0, 2)), (2, (1, 108917793695 * r7)), (0, (4, 0)), (1, (4, 1))]) (stN := [(1, r8), (1, 108917793695 * r7)]) (hsN := [jgh, (101, [], [0, r7, r8, 0, 0, 0])]) rfl rfl rfl ?_
  refine jT_adv 1 (pcN := 20) (LN := [(4, (0, 2)), (2, (1, 108917793695 * r7)), (0, (4, 0)), (1, (4, 1))]) (stN := [(5, 0), (1, r8), (1, 108917793695 * r7)]) (hsN := [jgh, (101, [], [0, r7, r8, 0, 0, 0])]) (c1 := 0) (s1 := 0) (c2 := 0) (s2 := 0) (by exact rfl) ?_ (by omega) (by omega)
  refine jT_xiload (v := (0, 2)) (pcN := 22) jIQ_41_20 rfl rfl rfl ?_
  refine jT_adv 1 (pcN := 23) (LN := [(4, (0, 2)), (2, (1, 108917793695 * r7)), (0, (4, 0)), (1, (4, 1))]) (stN := [(1, 159561683699), (1, r8), (1, 108917793695 * r7)]) (hsN := [jgh, (101, [], [0, r7, r8, 0, 0, 0])]) (c1 := 0) (s1 := 0) (c2 := 0) (s2 := 0) (by exact rfl) ?_ (by omega) (by omega)
  refine jT_xlmul (x := r8) (y := 159561683699) (z := 159561683699 * r8) (pcN := 24) jIQ_41_23 rfl (by omega) rfl ?_
  refine jT_xladd (x := 108917793695 * r7) (y := 159561683699 * r8) (z := 108917793695 * r7 + 159561683699 * r8) (pcN := 25) jIQ_41_24 rfl (by omega) rfl ?_
  refine jT_xlstore_n (v := (1, 108917793695 * r7 + 159561683699 * r8)) (LN := [(2, (1, 108917793695 * r7 + 159561683699 * r8)), (4, (0, 2)), (0, (4, 0)), (1, (4, 1))]) (pcN := 26) jIQ_41_25 rfl rfl rfl rfl ?_
  refine jT_xiinc (x := 2) (z := 3) (LN := [(4, (0, 3)), (2, (1, 108917793695 * r7 + 159561683699 * r8)), (0, (4, 0)), (1, (4, 1))]) (pcN := 29) jIQ_41_26 rfl rfl (by decide) rfl rfl ?_
  refine jT_xgoto (pcN := 5) jIQ_41_29 rfl ?_
  refine jT_xiload (v := (0, 3)) (pcN := 7) jIQ_41_5 rfl rfl rfl ?_
  refine jT_xbipush (k := 6) (pcN := 9) jIQ_41_7 (by decide) rfl ?_
  refine jT_xicF (t := 32) (pcN := 12) jIQ_41_9 rfl (by decide +kernel) rfl rfl ?_
  refine jT_xlload_n (v := (1, 108917793695 * r7 + 159561683699 * r8)) (pcN := 13) jIQ_41_12 rfl rfl rfl ?_
  refine jT_xaload_n (v := (4, 1)) (pcN := 14) jIQ_41_13 rfl rfl rfl ?_
  refine jT_xiload (v := (0, 3)) (pcN := 16) jIQ_41_14 rfl rfl rfl ?_
  refine jT_lald (x := 0) (a := 1) (j := 3) (fs := []) (X := [0, r7, r8, 0, 0, 0]) jIQ_41_16 rfl rfl rfl rfl ?_
  refine jT_eq (LN := [(4, (0, 3)), (2, (1, 108917793695 * r7 + 159561683699 * r8)), (0, (4, 0)), (1, (4, 1))]) (stN := [(1, 0), (1, 108917793695 * r7 + 159561683699 * r8)]) (hsN := [jgh, (101, [], [0, r7, r8, 0, 0, 0])]) rfl rfl rfl ?_
  refine jT_adv 1 (pcN := 20) (LN := [(4, (0, 3)), (2, (1, 108917793695 * r7 + 159561683699 * r8)), (0, (4, 0)), (1, (4, 1))]) (stN := [(5, 0), (1, 0), (1, 108917793695 * r7 + 159561683699 * r8)]) (hsN := [jgh, (101, [], [0, r7, r8, 0, 0, 0])]) (c1 := 0) (s1 := 0) (c2 := 0) (s2 := 0) (by exact rfl) ?_ (by omega) (by omega)
  refine jT_xiload (v := (0, 3)) (pcN := 22) jIQ_41_20 rfl rfl rfl ?_
  refine jT_adv 1 (pcN := 23) (LN := [(4, (0, 3)), (2, (1, 108917793695 * r7 + 159561683699 * r8)), (0, (4, 0)), (1, (4, 1))]) (stN := [(1, 192919961256), (1, 0), (1, 108917793695 * r7 + 159561683699 * r8)]) (hsN := [jgh, (101, [], [0, r7, r8, 0, 0, 0])]) (c1 := 0) (s1 := 0) (c2 := 0) (s2 := 0) (by exact rfl) ?_ (by omega) (by omega)
  refine jT_xlmul (x := 0) (y := 192919961256) (z := 0) (pcN := 24) jIQ_41_23 rfl (by decide) rfl ?_
  refine jT_xladd (x := 108917793695 * r7 + 159561683699 * r8) (y := 0) (z := 108917793695 * r7 + 159561683699 * r8) (pcN := 25) jIQ_41_24 rfl (by omega) rfl ?_
  refine jT_xlstore_n (v := (1, 108917793695 * r7 + 159561683699 * r8)) (LN := [(2, (1, 108917793695 * r7 + 159561683699 * r8)), (4, (0, 3)), (0, (4, 0)), (1, (4, 1))]) (pcN := 26) jIQ_41_25 rfl rfl rfl rfl ?_
  refine jT_xiinc (x := 3) (z := 4) (LN := [(4, (0, 4)), (2, (1, 108917793695 * r7 + 159561683699 * r8)), (0, (4, 0)), (1, (4, 1))]) (pcN := 29) jIQ_41_26 rfl rfl (by decide) rfl rfl ?_
  refine jT_xgoto (pcN := 5) jIQ_41_29 rfl ?_
  refine jT_xiload (v := (0, 4)) (pcN := 7) jIQ_41_5 rfl rfl rfl ?_
  refine jT_xbipush (k := 6) (pcN := 9) jIQ_41_7 (by decide) rfl ?_
  refine jT_xicF (t := 32) (pcN := 12) jIQ_41_9 rfl (by decide +kernel) rfl rfl ?_
  refine jT_xlload_n (v := (1, 108917793695 * r7 + 159561683699 * r8)) (pcN := 13) jIQ_41_12 rfl rfl rfl ?_
  refine jT_xaload_n (v := (4, 1)) (pcN := 14) jIQ_41_13 rfl rfl rfl ?_
  refine jT_xiload (v := (0, 4)) (pcN := 16) jIQ_41_14 rfl rfl rfl ?_
  refine jT_lald (x := 0) (a := 1) (j := 4) (fs := []) (X := [0, r7, r8, 0, 0, 0]) jIQ_41_16 rfl rfl rfl rfl ?_
  refine jT_eq (LN := [(4, (0, 4)), (2, (1, 108917793695 * r7 + 159561683699 * r8)), (0, (4, 0)), (1, (4, 1))]) (stN := [(1, 0), (1, 108917793695 * r7 + 159561683699 * r8)]) (hsN := [jgh, (101, [], [0, r7, r8, 0, 0, 0])]) rfl rfl rfl ?_
  refine jT_adv 1 (pcN := 20) (LN := [(4, (0, 4)), (2, (1, 108917793695 * r7 + 159561683699 * r8)), (0, (4, 0)), (1, (4, 1))]) (stN := [(5, 0), (1, 0), (1, 108917793695 * r7 + 159561683699 * r8)]) (hsN := [jgh, (101, [], [0, r7, r8, 0, 0, 0])]) (c1 := 0) (s1 := 0) (c2 := 0) (s2 := 0) (by exact rfl) ?_ (by omega) (by omega)
  refine jT_xiload (v := (0, 4)) (pcN := 22) jIQ_41_20 rfl rfl rfl ?_
  refine jT_adv 1 (pcN := 23) (LN := [(4, (0, 4)), (2, (1, 108917793695 * r7 + 159561683699 * r8)), (0, (4, 0)), (1, (4, 1))]) (stN := [(1, 237730330636), (1, 0), (1, 108917793695 * r7 + 159561683699 * r8)]) (hsN := [jgh, (101, [], [0, r7, r8, 0, 0, 0])]) (c1 := 0) (s1 := 0) (c2 := 0) (s2 := 0) (by exact rfl) ?_ (by omega) (by omega)
  refine jT_xlmul (x := 0) (y := 237730330636) (z := 0) (pcN := 24) jIQ_41_23 rfl (by decide) rfl ?_
  refine jT_xladd (x := 108917793695 * r7 + 159561683699 * r8) (y := 0) (z := 108917793695 * r7 + 159561683699 * r8) (pcN := 25) jIQ_41_24 rfl (by omega) rfl ?_
  refine jT_xlstore_n (v := (1, 108917793695 * r7 + 159561683699 * r8)) (LN := [(2, (1, 108917793695 * r7 + 159561683699 * r8)), (4, (0, 4)), (0, (4, 0)), (1, (4, 1))]) (pcN := 26) jIQ_41_25 rfl rfl rfl rfl ?_
  refine jT_xiinc (x := 4) (z := 5) (LN := [(4, (0, 5)), (2, (1, 108917793695 * r7 + 159561683699 * r8)), (0, (4, 0)), (1, (4, 1))]) (pcN := 29) jIQ_41_26 rfl rfl (by decide) rfl rfl ?_
  refine jT_xgoto (pcN := 5) jIQ_41_29 rfl ?_
  refine jT_xiload (v := (0, 5)) (pcN := 7) jIQ_41_5 rfl rfl rfl ?_
  refine jT_xbipush (k := 6) (pcN := 9) jIQ_41_7 (by decide) rfl ?_
  refine jT_xicF (t := 32) (pcN := 12) jIQ_41_9 rfl (by decide +kernel) rfl rfl ?_
  refine jT_xlload_n (v := (1, 108917793695 * r7 + 159561683699 * r8)) (pcN := 13) jIQ_41_12 rfl rfl rfl ?_
  refine jT_xaload_n (v := (4, 1)) (pcN := 14) jIQ_41_13 rfl rfl rfl ?_
  refine jT_xiload (v := (0, 5)) (pcN := 16) jIQ_41_14 rfl rfl rfl ?_
  refine jT_lald (x := 0) (a := 1) (j := 5) (fs := []) (X := [0, r7, r8, 0, 0, 0]) jIQ_41_16 rfl rfl rfl rfl ?_
  refine jT_eq (LN := [(4, (0, 5)), (2, (1, 108917793695 * r7 + 159561683699 * r8)), (0, (4, 0)), (1, (4, 1))]) (stN := [(1, 0), (1, 108917793695 * r7 + 159561683699 * r8)]) (hsN := [jgh, (101, [], [0, r7, r8, 0, 0, 0])]) rfl rfl rfl ?_
  refine jT_adv 1 (pcN := 20) (LN := [(4, (0, 5)), (2, (1, 108917793695 * r7 + 159561683699 * r8)), (0, (4, 0)), (1, (4, 1))]) (stN := [(5, 0), (1, 0), (1, 108917793695 * r7 + 159561683699 * r8)]) (hsN := [jgh, (101, [], [0, r7, r8, 0, 0, 0])]) (c1 := 0) (s1 := 0) (c2 := 0) (s2 := 0) (by exact rfl) ?_ (by omega) (by omega)
  refine jT_xiload (v := (0, 5)) (pcN := 22) jIQ_41_20 rfl rfl rfl ?_
  refine jT_adv 1 (pcN := 23) (LN := [(4, (0, 5)), (2, (1, 108917793695 * r7 + 159561683699 * r8)), (0, (4, 0)), (1, (4, 1))]) (stN := [(1, 254292281123), (1, 0), (1, 108917793695 * r7 + 159561683699 * r8)]) (hsN := [jgh, (101, [], [0, r7, r8, 0, 0, 0])]) (c1 := 0) (s1 := 0) (c2 := 0) (s2 := 0) (by exact rfl) ?_ (by omega) (by omega)
  refine jT_xlmul (x := 0) (y := 254292281123) (z := 0) (pcN := 24) jIQ_41_23 rfl (by decide) rfl ?_
  refine jT_xladd (x := 108917793695 * r7 + 159561683699 * r8) (y := 0) (z := 108917793695 * r7 + 159561683699 * r8) (pcN := 25) jIQ_41_24 rfl (by omega) rfl ?_
  refine jT_xlstore_n (v := (1, 108917793695 * r7 + 159561683699 * r8)) (LN := [(2, (1, 108917793695 * r7 + 159561683699 * r8)), (4, (0, 5)), (0, (4, 0)), (1, (4, 1))]) (pcN := 26) jIQ_41_25 rfl rfl rfl rfl ?_
  refine jT_xiinc (x := 5) (z := 6) (LN := [(4, (0, 6)), (2, (1, 108917793695 * r7 + 159561683699 * r8)), (0, (4, 0)), (1, (4, 1))]) (pcN := 29) jIQ_41_26 rfl rfl (by decide) rfl rfl ?_
  refine jT_xgoto (pcN := 5) jIQ_41_29 rfl ?_
  refine jT_xiload (v := (0, 6)) (pcN := 7) jIQ_41_5 rfl rfl rfl ?_
  refine jT_xbipush (k := 6) (pcN := 9) jIQ_41_7 (by decide) rfl ?_
  refine jT_xicT (pcN := 32) jIQ_41_9 rfl (by decide +kernel) rfl ?_
  refine jT_xlload_n (v := (1, 108917793695 * r7 + 159561683699 * r8)) (pcN := 33) jIQ_41_32 rfl rfl rfl ?_
  exact jT_ret rfl (by decide) (by show 2 ≤ 2; omega) (by omega) (by omega) ⟨rfl, rfl, rfl⟩
theorem jQ_39_46 {xs : List Int} {d : Nat} {r7 r8 : Int} (h_r7 : (-20) ≤ r7 ∧ r7 ≤ 20) (h_r8 : (-10) ≤ r8 ∧ r8 ≤ 10) (g_0 : r7 < 0) (g_1 : r8 < 0) (g_2 : 0 ≤ 108917793695 * r7 + 159561683699 * r8) : jT xs d 39 2 0 [(0, (4, 0)), (1, (4, 1))] [] [jgh, (101, [], [0, r7, r8, 0, 0, 0])] 0 0 (fun k v hsN => k = 0 ∧ v = (1, -r7 - r8) ∧ hsN = [jgh, (101, [], [0, r7, r8, 0, 0, 0])] ++ []) := by
  refine jT_xlconst (z := 0) (pcN := 1) jIQ_39_0 rfl rfl ?_
  refine jT_xlstore_n (v := (1, 0)) (LN := [(2, (1, 0)), (0, (4, 0)), (1, (4, 1))]) (pcN := 2) jIQ_39_1 rfl rfl rfl rfl ?_
  refine jT_xiconst (k := 1) (pcN := 3) jIQ_39_2 rfl ?_
  refine jT_xistore (v := (0, 1)) (LN := [(4, (0, 1)), (2, (1, 0)), (0, (4, 0)), (1, (4, 1))]) (pcN := 5) jIQ_39_3 rfl rfl rfl rfl ?_
  refine jT_xiload (v := (0, 1)) (pcN := 7) jIQ_39_5 rfl rfl rfl ?_
  refine jT_xbipush (k := 6) (pcN := 9) jIQ_39_7 (by decide) rfl ?_
  refine jT_xicF (t := 28) (pcN := 12) jIQ_39_9 rfl (by decide +kernel) rfl rfl ?_
  refine jT_xlload_n (v := (1, 0)) (pcN := 13) jIQ_39_12 rfl rfl rfl ?_
  refine jT_xaload_n (v := (4, 1)) (pcN := 14) jIQ_39_13 rfl rfl rfl ?_
  refine jT_xiload (v := (0, 1)) (pcN := 16) jIQ_39_14 rfl rfl rfl ?_
  refine jT_lald (x := r7) (a := 1) (j := 1) (fs := []) (X := [0, r7, r8, 0, 0, 0]) jIQ_39_16 rfl rfl rfl rfl ?_
  refine jT_eq (LN := [(4, (0, 1)), (2, (1, 0)), (0, (4, 0)), (1, (4, 1))]) (stN := [(1, r7), (1, 0)]) (hsN := [jgh, (101, [], [0, r7, r8, 0, 0, 0])]) rfl rfl rfl ?_
  refine jT_labs (z := -r7) (by rfl) (by rfl) (by rfl) (by rfl) (by rw [show jwl (r7) = r7 from jwl_idd (by omega) (by omega), decide_eq_true (by omega)]; first | (simp only [cond_true, cond_false]; done) | (simp only [cond_true, cond_false]; omega) | rfl) ?_
  refine jT_xladd (x := 0) (y := -r7) (z := -r7) (pcN := 21) jIQ_39_20 rfl (by omega) rfl ?_
  refine jT_xlstore_n (v := (1, -r7)) (LN := [(2, (1, -r7)), (4, (0, 1)), (0, (4, 0)), (1, (4, 1))]) (pcN := 22) jIQ_39_21 rfl rfl rfl rfl ?_
  refine jT_xiinc (x := 1) (z := 2) (LN := [(4, (0, 2)), (2, (1, -r7)), (0, (4, 0)), (1, (4, 1))]) (pcN := 25) jIQ_39_22 rfl rfl (by decide) rfl rfl ?_
  refine jT_xgoto (pcN := 5) jIQ_39_25 rfl ?_
  refine jT_xiload (v := (0, 2)) (pcN := 7) jIQ_39_5 rfl rfl rfl ?_
  refine jT_xbipush (k := 6) (pcN := 9) jIQ_39_7 (by decide) rfl ?_
  refine jT_xicF (t := 28) (pcN := 12) jIQ_39_9 rfl (by decide +kernel) rfl rfl ?_
  refine jT_xlload_n (v := (1, -r7)) (pcN := 13) jIQ_39_12 rfl rfl rfl ?_
  refine jT_xaload_n (v := (4, 1)) (pcN := 14) jIQ_39_13 rfl rfl rfl ?_
  refine jT_xiload (v := (0, 2)) (pcN := 16) jIQ_39_14 rfl rfl rfl ?_
  refine jT_lald (x := r8) (a := 1) (j := 2) (fs := []) (X := [0, r7, r8, 0, 0, 0]) jIQ_39_16 rfl rfl rfl rfl ?_
  refine jT_eq (LN := [(4, (0, 2)), (2, (1, -r7)), (0, (4, 0)), (1, (4, 1))]) (stN := [(1, r8), (1, -r7)]) (hsN := [jgh, (101, [], [0, r7, r8, 0, 0, 0])]) rfl rfl rfl ?_
  refine jT_labs (z := -r8) (by rfl) (by rfl) (by rfl) (by rfl) (by rw [show jwl (r8) = r8 from jwl_idd (by omega) (by omega), decide_eq_true (by omega)]; first | (simp only [cond_true, cond_false]; done) | (simp only [cond_true, cond_false]; omega) | rfl) ?_
  refine jT_xladd (x := -r7) (y := -r8) (z := -r7 - r8) (pcN := 21) jIQ_39_20 rfl (by omega) rfl ?_
  refine jT_xlstore_n (v := (1, -r7 - r8)) (LN := [(2, (1, -r7 - r8)), (4, (0, 2)), (0, (4, 0)), (1, (4, 1))]) (pcN := 22) jIQ_39_21 rfl rfl rfl rfl ?_
  refine jT_xiinc (x := 2) (z := 3) (LN := [(4, (0, 3)), (2, (1, -r7 - r8)), (0, (4, 0)), (1, (4, 1))]) (pcN := 25) jIQ_39_22 rfl rfl (by decide) rfl rfl ?_
  refine jT_xgoto (pcN := 5) jIQ_39_25 rfl ?_
  refine jT_xiload (v := (0, 3)) (pcN := 7) jIQ_39_5 rfl rfl rfl ?_
  refine jT_xbipush (k := 6) (pcN := 9) jIQ_39_7 (by decide) rfl ?_
  refine jT_xicF (t := 28) (pcN := 12) jIQ_39_9 rfl (by decide +kernel) rfl rfl ?_
  refine jT_xlload_n (v := (1, -r7 - r8)) (pcN := 13) jIQ_39_12 rfl rfl rfl ?_
  refine jT_xaload_n (v := (4, 1)) (pcN := 14) jIQ_39_13 rfl rfl rfl ?_
  refine jT_xiload (v := (0, 3)) (pcN := 16) jIQ_39_14 rfl rfl rfl ?_
  refine jT_lald (x := 0) (a := 1) (j := 3) (fs := []) (X := [0, r7, r8, 0, 0, 0]) jIQ_39_16 rfl rfl rfl rfl ?_
  refine jT_eq (LN := [(4, (0, 3)), (2, (1, -r7 - r8)), (0, (4, 0)), (1, (4, 1))]) (stN := [(1, 0), (1, -r7 - r8)]) (hsN := [jgh, (101, [], [0, r7, r8, 0, 0, 0])]) rfl rfl rfl ?_
  refine jT_labs (z := 0) (by rfl) (by rfl) (by rfl) (by rfl) (by decide +kernel) ?_
  refine jT_xladd (x := -r7 - r8) (y := 0) (z := -r7 - r8) (pcN := 21) jIQ_39_20 rfl (by omega) rfl ?_
  refine jT_xlstore_n (v := (1, -r7 - r8)) (LN := [(2, (1, -r7 - r8)), (4, (0, 3)), (0, (4, 0)), (1, (4, 1))]) (pcN := 22) jIQ_39_21 rfl rfl rfl rfl ?_
  refine jT_xiinc (x := 3) (z := 4) (LN := [(4, (0, 4)), (2, (1, -r7 - r8)), (0, (4, 0)), (1, (4, 1))]) (pcN := 25) jIQ_39_22 rfl rfl (by decide) rfl rfl ?_
  refine jT_xgoto (pcN := 5) jIQ_39_25 rfl ?_
  refine jT_xiload (v := (0, 4)) (pcN := 7) jIQ_39_5 rfl rfl rfl ?_
  refine jT_xbipush (k := 6) (pcN := 9) jIQ_39_7 (by decide) rfl ?_
  refine jT_xicF (t := 28) (pcN := 12) jIQ_39_9 rfl (by decide +kernel) rfl rfl ?_
  refine jT_xlload_n (v := (1, -r7 - r8)) (pcN := 13) jIQ_39_12 rfl rfl rfl ?_
  refine jT_xaload_n (v := (4, 1)) (pcN := 14) jIQ_39_13 rfl rfl rfl ?_
  refine jT_xiload (v := (0, 4)) (pcN := 16) jIQ_39_14 rfl rfl rfl ?_
  refine jT_lald (x := 0) (a := 1) (j := 4) (fs := []) (X := [0, r7, r8, 0, 0, 0]) jIQ_39_16 rfl rfl rfl rfl ?_
  refine jT_eq (LN := [(4, (0, 4)), (2, (1, -r7 - r8)), (0, (4, 0)), (1, (4, 1))]) (stN := [(1, 0), (1, -r7 - r8)]) (hsN := [jgh, (101, [], [0, r7, r8, 0, 0, 0])]) rfl rfl rfl ?_
  refine jT_labs (z := 0) (by rfl) (by rfl) (by rfl) (by rfl) (by decide +kernel) ?_
  refine jT_xladd (x := -r7 - r8) (y := 0) (z := -r7 - r8) (pcN := 21) jIQ_39_20 rfl (by omega) rfl ?_
  refine jT_xlstore_n (v := (1, -r7 - r8)) (LN := [(2, (1, -r7 - r8)), (4, (0, 4)), (0, (4, 0)), (1, (4, 1))]) (pcN := 22) jIQ_39_21 rfl rfl rfl rfl ?_
  refine jT_xiinc (x := 4) (z := 5) (LN := [(4, (0, 5)), (2, (1, -r7 - r8)), (0, (4, 0)), (1, (4, 1))]) (pcN := 25) jIQ_39_22 rfl rfl (by decide) rfl rfl ?_
  refine jT_xgoto (pcN := 5) jIQ_39_25 rfl ?_
  refine jT_xiload (v := (0, 5)) (pcN := 7) jIQ_39_5 rfl rfl rfl ?_
  refine jT_xbipush (k := 6) (pcN := 9) jIQ_39_7 (by decide) rfl ?_
  refine jT_xicF (t := 28) (pcN := 12) jIQ_39_9 rfl (by decide +kernel) rfl rfl ?_
  refine jT_xlload_n (v := (1, -r7 - r8)) (pcN := 13) jIQ_39_12 rfl rfl rfl ?_
  refine jT_xaload_n (v := (4, 1)) (pcN := 14) jIQ_39_13 rfl rfl rfl ?_
  refine jT_xiload (v := (0, 5)) (pcN := 16) jIQ_39_14 rfl rfl rfl ?_
  refine jT_lald (x := 0) (a := 1) (j := 5) (fs := []) (X := [0, r7, r8, 0, 0, 0]) jIQ_39_16 rfl rfl rfl rfl ?_
  refine jT_eq (LN := [(4, (0, 5)), (2, (1, -r7 - r8)), (0, (4, 0)), (1, (4, 1))]) (stN := [(1, 0), (1, -r7 - r8)]) (hsN := [jgh, (101, [], [0, r7, r8, 0, 0, 0])]) rfl rfl rfl ?_
  refine jT_labs (z := 0) (by rfl) (by rfl) (by rfl) (by rfl) (by decide +kernel) ?_
  refine jT_xladd (x := -r7 - r8) (y := 0) (z := -r7 - r8) (pcN := 21) jIQ_39_20 rfl (by omega) rfl ?_
  refine jT_xlstore_n (v := (1, -r7 - r8)) (LN := [(2, (1, -r7 - r8)), (4, (0, 5)), (0, (4, 0)), (1, (4, 1))]) (pcN := 22) jIQ_39_21 rfl rfl rfl rfl ?_
  refine jT_xiinc (x := 5) (z := 6) (LN := [(4, (0, 6)), (2, (1, -r7 - r8)), (0, (4, 0)), (1, (4, 1))]) (pcN := 25) jIQ_39_22 rfl rfl (by decide) rfl rfl ?_
  refine jT_xgoto (pcN := 5) jIQ_39_25 rfl ?_
  refine jT_xiload (v := (0, 6)) (pcN := 7) jIQ_39_5 rfl rfl rfl ?_
  refine jT_xbipush (k := 6) (pcN := 9) jIQ_39_7 (by decide) rfl ?_
  refine jT_xicT (pcN := 28) jIQ_39_9 rfl (by decide +kernel) rfl ?_
  refine jT_xlload_n (v := (1, -r7 - r8)) (pcN := 29) jIQ_39_28 rfl rfl rfl ?_
  exact jT_ret rfl (by decide) (by show 2 ≤ 2; omega) (by omega) (by omega) ⟨rfl, rfl, rfl⟩
theorem jQ_40_47 {xs : List Int} {d : Nat} {r7 r8 : Int} (h_r7 : (-20) ≤ r7 ∧ r7 ≤ 20) (h_r8 : (-10) ≤ r8 ∧ r8 ≤ 10) (g_0 : r7 < 0) (g_1 : r8 < 0) (g_2 : 0 ≤ 108917793695 * r7 + 159561683699 * r8) : jT xs d 40 2 0 [(0, (4, 0)), (1, (4, 1)), (2, (1, -r7 - r8))] [] [jgh, (101, [], [0, r7, r8, 0, 0, 0])] 0 0 (fun k v hsN => k = 0 ∧ v = (0, 1) ∧ hsN = [jgh, (101, [], [0, r7, r8, 0, 0, 0])] ++ []) := by
  refine jT_xlload_n (v := (1, -r7 - r8)) (pcN := 1) jIQ_40_0 rfl rfl rfl ?_
  refine jT_adv 1 (pcN := 4) (LN := [(0, (4, 0)), (1, (4, 1)), (2, (1, -r7 - r8))]) (stN := [(1, 16777216), (1, -r7 - r8)]) (hsN := [jgh, (101, [], [0, r7, r8, 0, 0, 0])]) (c1 := 0) (s1 := 0) (c2 := 0) (s2 := 0) (by exact rfl) ?_ (by omega) (by omega)
  refine jT_lcmp (a := -r7 - r8) (b := 16777216) (z := (-1)) (by rfl) (by rfl) (jwl_idd (by omega) (by omega)) (jwl_idd (by omega) (by omega)) (by rw [decide_eq_false (show ¬ ((16777216 : Int) < -r7 - r8) by omega), decide_eq_false (show ¬ ((-r7 - r8 : Int) = 16777216) by omega)]; rfl) ?_
  refine jT_xifF (t := 25) (pcN := 8) jIQ_40_5 rfl (by decide +kernel) rfl rfl ?_
  refine jT_xaload_n (v := (4, 1)) (pcN := 9) jIQ_40_8 rfl rfl rfl ?_
  refine jT_xiconst (k := 0) (pcN := 10) jIQ_40_9 rfl ?_
  refine jT_lald (x := 0) (a := 1) (j := 0) (fs := []) (X := [0, r7, r8, 0, 0, 0]) jIQ_40_10 rfl rfl rfl rfl ?_
  refine jT_eq (LN := [(0, (4, 0)), (1, (4, 1)), (2, (1, -r7 - r8))]) (stN := [(1, 0)]) (hsN := [jgh, (101, [], [0, r7, r8, 0, 0, 0])]) rfl rfl rfl ?_
  refine jT_labs (z := 0) (by rfl) (by rfl) (by rfl) (by rfl) (by decide +kernel) ?_
  refine jT_adv 1 (pcN := 17) (LN := [(0, (4, 0)), (1, (4, 1)), (2, (1, -r7 - r8))]) (stN := [(1, 16777216), (1, 0)]) (hsN := [jgh, (101, [], [0, r7, r8, 0, 0, 0])]) (c1 := 0) (s1 := 0) (c2 := 0) (s2 := 0) (by exact rfl) ?_ (by omega) (by omega)
  refine jT_lcmp (a := 0) (b := 16777216) (z := (-1)) (by rfl) (by rfl) (by decide +kernel) (by decide +kernel) (by decide) ?_
  refine jT_xifF (t := 25) (pcN := 21) jIQ_40_18 rfl (by decide +kernel) rfl rfl ?_
  refine jT_xiconst (k := 1) (pcN := 22) jIQ_40_21 rfl ?_
  refine jT_xgoto (pcN := 26) jIQ_40_22 rfl ?_
  exact jT_ret rfl (by decide) (by show 2 ≤ 2; omega) (by omega) (by omega) ⟨rfl, rfl, rfl⟩
theorem jQ_41_48 {xs : List Int} {d : Nat} {r7 r8 : Int} (h_r7 : (-20) ≤ r7 ∧ r7 ≤ 20) (h_r8 : (-10) ≤ r8 ∧ r8 ≤ 10) (g_0 : r7 < 0) (g_1 : r8 < 0) (g_2 : 0 ≤ 108917793695 * r7 + 159561683699 * r8) : jT xs d 41 2 0 [(0, (4, 0)), (1, (4, 1))] [] [jgh, (101, [], [0, r7, r8, 0, 0, 0])] 0 0 (fun k v hsN => k = 0 ∧ v = (1, 108917793695 * r7 + 159561683699 * r8) ∧ hsN = [jgh, (101, [], [0, r7, r8, 0, 0, 0])] ++ []) := by
  refine jT_xlconst (z := 0) (pcN := 1) jIQ_41_0 rfl rfl ?_
  refine jT_xlstore_n (v := (1, 0)) (LN := [(2, (1, 0)), (0, (4, 0)), (1, (4, 1))]) (pcN := 2) jIQ_41_1 rfl rfl rfl rfl ?_
  refine jT_xiconst (k := 0) (pcN := 3) jIQ_41_2 rfl ?_
  refine jT_xistore (v := (0, 0)) (LN := [(4, (0, 0)), (2, (1, 0)), (0, (4, 0)), (1, (4, 1))]) (pcN := 5) jIQ_41_3 rfl rfl rfl rfl ?_
  refine jT_xiload (v := (0, 0)) (pcN := 7) jIQ_41_5 rfl rfl rfl ?_
  refine jT_xbipush (k := 6) (pcN := 9) jIQ_41_7 (by decide) rfl ?_
  refine jT_xicF (t := 32) (pcN := 12) jIQ_41_9 rfl (by decide +kernel) rfl rfl ?_
  refine jT_xlload_n (v := (1, 0)) (pcN := 13) jIQ_41_12 rfl rfl rfl ?_
  refine jT_xaload_n (v := (4, 1)) (pcN := 14) jIQ_41_13 rfl rfl rfl ?_
  refine jT_xiload (v := (0, 0)) (pcN := 16) jIQ_41_14 rfl rfl rfl ?_
  refine jT_lald (x := 0) (a := 1) (j := 0) (fs := []) (X := [0, r7, r8, 0, 0, 0]) jIQ_41_16 rfl rfl rfl rfl ?_
  refine jT_eq (LN := [(4, (0, 0)), (2, (1, 0)), (0, (4, 0)), (1, (4, 1))]) (stN := [(1, 0), (1, 0)]) (hsN := [jgh, (101, [], [0, r7, r8, 0, 0, 0])]) rfl rfl rfl ?_
  refine jT_adv 1 (pcN := 20) (LN := [(4, (0, 0)), (2, (1, 0)), (0, (4, 0)), (1, (4, 1))]) (stN := [(5, 0), (1, 0), (1, 0)]) (hsN := [jgh, (101, [], [0, r7, r8, 0, 0, 0])]) (c1 := 0) (s1 := 0) (c2 := 0) (s2 := 0) (by exact rfl) ?_ (by omega) (by omega)
  refine jT_xiload (v := (0, 0)) (pcN := 22) jIQ_41_20 rfl rfl rfl ?_
  refine jT_adv 1 (pcN := 23) (LN := [(4, (0, 0)), (2, (1, 0)), (0, (4, 0)), (1, (4, 1))]) (stN := [(1, 68719476736), (1, 0), (1, 0)]) (hsN := [jgh, (101, [], [0, r7, r8, 0, 0, 0])]) (c1 := 0) (s1 := 0) (c2 := 0) (s2 := 0) (by exact rfl) ?_ (by omega) (by omega)
  refine jT_xlmul (x := 0) (y := 68719476736) (z := 0) (pcN := 24) jIQ_41_23 rfl (by decide) rfl ?_
  refine jT_xladd (x := 0) (y := 0) (z := 0) (pcN := 25) jIQ_41_24 rfl (by decide) rfl ?_
  refine jT_xlstore_n (v := (1, 0)) (LN := [(2, (1, 0)), (4, (0, 0)), (0, (4, 0)), (1, (4, 1))]) (pcN := 26) jIQ_41_25 rfl rfl rfl rfl ?_
  refine jT_xiinc (x := 0) (z := 1) (LN := [(4, (0, 1)), (2, (1, 0)), (0, (4, 0)), (1, (4, 1))]) (pcN := 29) jIQ_41_26 rfl rfl (by decide) rfl rfl ?_
  refine jT_xgoto (pcN := 5) jIQ_41_29 rfl ?_
  refine jT_xiload (v := (0, 1)) (pcN := 7) jIQ_41_5 rfl rfl rfl ?_
  refine jT_xbipush (k := 6) (pcN := 9) jIQ_41_7 (by decide) rfl ?_
  refine jT_xicF (t := 32) (pcN := 12) jIQ_41_9 rfl (by decide +kernel) rfl rfl ?_
  refine jT_xlload_n (v := (1, 0)) (pcN := 13) jIQ_41_12 rfl rfl rfl ?_
  refine jT_xaload_n (v := (4, 1)) (pcN := 14) jIQ_41_13 rfl rfl rfl ?_
  refine jT_xiload (v := (0, 1)) (pcN := 16) jIQ_41_14 rfl rfl rfl ?_
  refine jT_lald (x := r7) (a := 1) (j := 1) (fs := []) (X := [0, r7, r8, 0, 0, 0]) jIQ_41_16 rfl rfl rfl rfl ?_
  refine jT_eq (LN := [(4, (0, 1)), (2, (1, 0)), (0, (4, 0)), (1, (4, 1))]) (stN := [(1, r7), (1, 0)]) (hsN := [jgh, (101, [], [0, r7, r8, 0, 0, 0])]) rfl rfl rfl ?_
  refine jT_adv 1 (pcN := 20) (LN := [(4, (0, 1)), (2, (1, 0)), (0, (4, 0)), (1, (4, 1))]) (stN := [(5, 0), (1, r7), (1, 0)]) (hsN := [jgh, (101, [], [0, r7, r8, 0, 0, 0])]) (c1 := 0) (s1 := 0) (c2 := 0) (s2 := 0) (by exact rfl) ?_ (by omega) (by omega)
  refine jT_xiload (v := (0, 1)) (pcN := 22) jIQ_41_20 rfl rfl rfl ?_
  refine jT_adv 1 (pcN := 23) (LN := [(4, (0, 1)), (2, (1, 0)), (0, (4, 0)), (1, (4, 1))]) (stN := [(1, 108917793695), (1, r7), (1, 0)]) (hsN := [jgh, (101, [], [0, r7, r8, 0, 0, 0])]) (c1 := 0) (s1 := 0) (c2 := 0) (s2 := 0) (by exact rfl) ?_ (by omega) (by omega)
  refine jT_xlmul (x := r7) (y := 108917793695) (z := 108917793695 * r7) (pcN := 24) jIQ_41_23 rfl (by omega) rfl ?_
  refine jT_xladd (x := 0) (y := 108917793695 * r7) (z := 108917793695 * r7) (pcN := 25) jIQ_41_24 rfl (by omega) rfl ?_
  refine jT_xlstore_n (v := (1, 108917793695 * r7)) (LN := [(2, (1, 108917793695 * r7)), (4, (0, 1)), (0, (4, 0)), (1, (4, 1))]) (pcN := 26) jIQ_41_25 rfl rfl rfl rfl ?_
  refine jT_xiinc (x := 1) (z := 2) (LN := [(4, (0, 2)), (2, (1, 108917793695 * r7)), (0, (4, 0)), (1, (4, 1))]) (pcN := 29) jIQ_41_26 rfl rfl (by decide) rfl rfl ?_
  refine jT_xgoto (pcN := 5) jIQ_41_29 rfl ?_
  refine jT_xiload (v := (0, 2)) (pcN := 7) jIQ_41_5 rfl rfl rfl ?_
  refine jT_xbipush (k := 6) (pcN := 9) jIQ_41_7 (by decide) rfl ?_
  refine jT_xicF (t := 32) (pcN := 12) jIQ_41_9 rfl (by decide +kernel) rfl rfl ?_
  refine jT_xlload_n (v := (1, 108917793695 * r7)) (pcN := 13) jIQ_41_12 rfl rfl rfl ?_
  refine jT_xaload_n (v := (4, 1)) (pcN := 14) jIQ_41_13 rfl rfl rfl ?_
  refine jT_xiload (v := (0, 2)) (pcN := 16) jIQ_41_14 rfl rfl rfl ?_
  refine jT_lald (x := r8) (a := 1) (j := 2) (fs := []) (X := [0, r7, r8, 0, 0, 0]) jIQ_41_16 rfl rfl rfl rfl ?_
  refine jT_eq (LN := [(4, (0, 2)), (2, (1, 108917793695 * r7)), (0, (4, 0)), (1, (4, 1))]) (stN := [(1, r8), (1, 108917793695 * r7)]) (hsN := [jgh, (101, [], [0, r7, r8, 0, 0, 0])]) rfl rfl rfl ?_
  refine jT_adv 1 (pcN := 20) (LN := [(4, (0, 2)), (2, (1, 108917793695 * r7)), (0, (4, 0)), (1, (4, 1))]) (stN := [(5, 0), (1, r8), (1, 108917793695 * r7)]) (hsN := [jgh, (101, [], [0, r7, r8, 0, 0, 0])]) (c1 := 0) (s1 := 0) (c2 := 0) (s2 := 0) (by exact rfl) ?_ (by omega) (by omega)
  refine jT_xiload (v := (0, 2)) (pcN := 22) jIQ_41_20 rfl rfl rfl ?_
  refine jT_adv 1 (pcN := 23) (LN := [(4, (0, 2)), (2, (1, 108917793695 * r7)), (0, (4, 0)), (1, (4, 1))]) (stN := [(1, 159561683699), (1, r8), (1, 108917793695 * r7)]) (hsN := [jgh, (101, [], [0, r7, r8, 0, 0, 0])]) (c1 := 0) (s1 := 0) (c2 := 0) (s2 := 0) (by exact rfl) ?_ (by omega) (by omega)
  refine jT_xlmul (x := r8) (y := 159561683699) (z := 159561683699 * r8) (pcN := 24) jIQ_41_23 rfl (by omega) rfl ?_
  refine jT_xladd (x := 108917793695 * r7) (y := 159561683699 * r8) (z := 108917793695 * r7 + 159561683699 * r8) (pcN := 25) jIQ_41_24 rfl (by omega) rfl ?_
  refine jT_xlstore_n (v := (1, 108917793695 * r7 + 159561683699 * r8)) (LN := [(2, (1, 108917793695 * r7 + 159561683699 * r8)), (4, (0, 2)), (0, (4, 0)), (1, (4, 1))]) (pcN := 26) jIQ_41_25 rfl rfl rfl rfl ?_
  refine jT_xiinc (x := 2) (z := 3) (LN := [(4, (0, 3)), (2, (1, 108917793695 * r7 + 159561683699 * r8)), (0, (4, 0)), (1, (4, 1))]) (pcN := 29) jIQ_41_26 rfl rfl (by decide) rfl rfl ?_
  refine jT_xgoto (pcN := 5) jIQ_41_29 rfl ?_
  refine jT_xiload (v := (0, 3)) (pcN := 7) jIQ_41_5 rfl rfl rfl ?_
  refine jT_xbipush (k := 6) (pcN := 9) jIQ_41_7 (by decide) rfl ?_
  refine jT_xicF (t := 32) (pcN := 12) jIQ_41_9 rfl (by decide +kernel) rfl rfl ?_
  refine jT_xlload_n (v := (1, 108917793695 * r7 + 159561683699 * r8)) (pcN := 13) jIQ_41_12 rfl rfl rfl ?_
  refine jT_xaload_n (v := (4, 1)) (pcN := 14) jIQ_41_13 rfl rfl rfl ?_
  refine jT_xiload (v := (0, 3)) (pcN := 16) jIQ_41_14 rfl rfl rfl ?_
  refine jT_lald (x := 0) (a := 1) (j := 3) (fs := []) (X := [0, r7, r8, 0, 0, 0]) jIQ_41_16 rfl rfl rfl rfl ?_
  refine jT_eq (LN := [(4, (0, 3)), (2, (1, 108917793695 * r7 + 159561683699 * r8)), (0, (4, 0)), (1, (4, 1))]) (stN := [(1, 0), (1, 108917793695 * r7 + 159561683699 * r8)]) (hsN := [jgh, (101, [], [0, r7, r8, 0, 0, 0])]) rfl rfl rfl ?_
  refine jT_adv 1 (pcN := 20) (LN := [(4, (0, 3)), (2, (1, 108917793695 * r7 + 159561683699 * r8)), (0, (4, 0)), (1, (4, 1))]) (stN := [(5, 0), (1, 0), (1, 108917793695 * r7 + 159561683699 * r8)]) (hsN := [jgh, (101, [], [0, r7, r8, 0, 0, 0])]) (c1 := 0) (s1 := 0) (c2 := 0) (s2 := 0) (by exact rfl) ?_ (by omega) (by omega)
  refine jT_xiload (v := (0, 3)) (pcN := 22) jIQ_41_20 rfl rfl rfl ?_
  refine jT_adv 1 (pcN := 23) (LN := [(4, (0, 3)), (2, (1, 108917793695 * r7 + 159561683699 * r8)), (0, (4, 0)), (1, (4, 1))]) (stN := [(1, 192919961256), (1, 0), (1, 108917793695 * r7 + 159561683699 * r8)]) (hsN := [jgh, (101, [], [0, r7, r8, 0, 0, 0])]) (c1 := 0) (s1 := 0) (c2 := 0) (s2 := 0) (by exact rfl) ?_ (by omega) (by omega)
  refine jT_xlmul (x := 0) (y := 192919961256) (z := 0) (pcN := 24) jIQ_41_23 rfl (by decide) rfl ?_
  refine jT_xladd (x := 108917793695 * r7 + 159561683699 * r8) (y := 0) (z := 108917793695 * r7 + 159561683699 * r8) (pcN := 25) jIQ_41_24 rfl (by omega) rfl ?_
  refine jT_xlstore_n (v := (1, 108917793695 * r7 + 159561683699 * r8)) (LN := [(2, (1, 108917793695 * r7 + 159561683699 * r8)), (4, (0, 3)), (0, (4, 0)), (1, (4, 1))]) (pcN := 26) jIQ_41_25 rfl rfl rfl rfl ?_
  refine jT_xiinc (x := 3) (z := 4) (LN := [(4, (0, 4)), (2, (1, 108917793695 * r7 + 159561683699 * r8)), (0, (4, 0)), (1, (4, 1))]) (pcN := 29) jIQ_41_26 rfl rfl (by decide) rfl rfl ?_
  refine jT_xgoto (pcN := 5) jIQ_41_29 rfl ?_
  refine jT_xiload (v := (0, 4)) (pcN := 7) jIQ_41_5 rfl rfl rfl ?_
  refine jT_xbipush (k := 6) (pcN := 9) jIQ_41_7 (by decide) rfl ?_
  refine jT_xicF (t := 32) (pcN := 12) jIQ_41_9 rfl (by decide +kernel) rfl rfl ?_
  refine jT_xlload_n (v := (1, 108917793695 * r7 + 159561683699 * r8)) (pcN := 13) jIQ_41_12 rfl rfl rfl ?_
  refine jT_xaload_n (v := (4, 1)) (pcN := 14) jIQ_41_13 rfl rfl rfl ?_
  refine jT_xiload (v := (0, 4)) (pcN := 16) jIQ_41_14 rfl rfl rfl ?_
  refine jT_lald (x := 0) (a := 1) (j := 4) (fs := []) (X := [0, r7, r8, 0, 0, 0]) jIQ_41_16 rfl rfl rfl rfl ?_
  refine jT_eq (LN := [(4, (0, 4)), (2, (1, 108917793695 * r7 + 159561683699 * r8)), (0, (4, 0)), (1, (4, 1))]) (stN := [(1, 0), (1, 108917793695 * r7 + 159561683699 * r8)]) (hsN := [jgh, (101, [], [0, r7, r8, 0, 0, 0])]) rfl rfl rfl ?_
  refine jT_adv 1 (pcN := 20) (LN := [(4, (0, 4)), (2, (1, 108917793695 * r7 + 159561683699 * r8)), (0, (4, 0)), (1, (4, 1))]) (stN := [(5, 0), (1, 0), (1, 108917793695 * r7 + 159561683699 * r8)]) (hsN := [jgh, (101, [], [0, r7, r8, 0, 0, 0])]) (c1 := 0) (s1 := 0) (c2 := 0) (s2 := 0) (by exact rfl) ?_ (by omega) (by omega)
  refine jT_xiload (v := (0, 4)) (pcN := 22) jIQ_41_20 rfl rfl rfl ?_
  refine jT_adv 1 (pcN := 23) (LN := [(4, (0, 4)), (2, (1, 108917793695 * r7 + 159561683699 * r8)), (0, (4, 0)), (1, (4, 1))]) (stN := [(1, 237730330636), (1, 0), (1, 108917793695 * r7 + 159561683699 * r8)]) (hsN := [jgh, (101, [], [0, r7, r8, 0, 0, 0])]) (c1 := 0) (s1 := 0) (c2 := 0) (s2 := 0) (by exact rfl) ?_ (by omega) (by omega)
  refine jT_xlmul (x := 0) (y := 237730330636) (z := 0) (pcN := 24) jIQ_41_23 rfl (by decide) rfl ?_
  refine jT_xladd (x := 108917793695 * r7 + 159561683699 * r8) (y := 0) (z := 108917793695 * r7 + 159561683699 * r8) (pcN := 25) jIQ_41_24 rfl (by omega) rfl ?_
  refine jT_xlstore_n (v := (1, 108917793695 * r7 + 159561683699 * r8)) (LN := [(2, (1, 108917793695 * r7 + 159561683699 * r8)), (4, (0, 4)), (0, (4, 0)), (1, (4, 1))]) (pcN := 26) jIQ_41_25 rfl rfl rfl rfl ?_
  refine jT_xiinc (x := 4) (z := 5) (LN := [(4, (0, 5)), (2, (1, 108917793695 * r7 + 159561683699 * r8)), (0, (4, 0)), (1, (4, 1))]) (pcN := 29) jIQ_41_26 rfl rfl (by decide) rfl rfl ?_
  refine jT_xgoto (pcN := 5) jIQ_41_29 rfl ?_
  refine jT_xiload (v := (0, 5)) (pcN := 7) jIQ_41_5 rfl rfl rfl ?_
  refine jT_xbipush (k := 6) (pcN := 9) jIQ_41_7 (by decide) rfl ?_
  refine jT_xicF (t := 32) (pcN := 12) jIQ_41_9 rfl (by decide +kernel) rfl rfl ?_
  refine jT_xlload_n (v := (1, 108917793695 * r7 + 159561683699 * r8)) (pcN := 13) jIQ_41_12 rfl rfl rfl ?_
  refine jT_xaload_n (v := (4, 1)) (pcN := 14) jIQ_41_13 rfl rfl rfl ?_
  refine jT_xiload (v := (0, 5)) (pcN := 16) jIQ_41_14 rfl rfl rfl ?_
  refine jT_lald (x := 0) (a := 1) (j := 5) (fs := []) (X := [0, r7, r8, 0, 0, 0]) jIQ_41_16 rfl rfl rfl rfl ?_
  refine jT_eq (LN := [(4, (0, 5)), (2, (1, 108917793695 * r7 + 159561683699 * r8)), (0, (4, 0)), (1, (4, 1))]) (stN := [(1, 0), (1, 108917793695 * r7 + 159561683699 * r8)]) (hsN := [jgh, (101, [], [0, r7, r8, 0, 0, 0])]) rfl rfl rfl ?_
  refine jT_adv 1 (pcN := 20) (LN := [(4, (0, 5)), (2, (1, 108917793695 * r7 + 159561683699 * r8)), (0, (4, 0)), (1, (4, 1))]) (stN := [(5, 0), (1, 0), (1, 108917793695 * r7 + 159561683699 * r8)]) (hsN := [jgh, (101, [], [0, r7, r8, 0, 0, 0])]) (c1 := 0) (s1 := 0) (c2 := 0) (s2 := 0) (by exact rfl) ?_ (by omega) (by omega)
  refine jT_xiload (v := (0, 5)) (pcN := 22) jIQ_41_20 rfl rfl rfl ?_
  refine jT_adv 1 (pcN := 23) (LN := [(4, (0, 5)), (2, (1, 108917793695 * r7 + 159561683699 * r8)), (0, (4, 0)), (1, (4, 1))]) (stN := [(1, 254292281123), (1, 0), (1, 108917793695 * r7 + 159561683699 * r8)]) (hsN := [jgh, (101, [], [0, r7, r8, 0, 0, 0])]) (c1 := 0) (s1 := 0) (c2 := 0) (s2 := 0) (by exact rfl) ?_ (by omega) (by omega)
  refine jT_xlmul (x := 0) (y := 254292281123) (z := 0) (pcN := 24) jIQ_41_23 rfl (by decide) rfl ?_
  refine jT_xladd (x := 108917793695 * r7 + 159561683699 * r8) (y := 0) (z := 108917793695 * r7 + 159561683699 * r8) (pcN := 25) jIQ_41_24 rfl (by omega) rfl ?_
  refine jT_xlstore_n (v := (1, 108917793695 * r7 + 159561683699 * r8)) (LN := [(2, (1, 108917793695 * r7 + 159561683699 * r8)), (4, (0, 5)), (0, (4, 0)), (1, (4, 1))]) (pcN := 26) jIQ_41_25 rfl rfl rfl rfl ?_
  refine jT_xiinc (x := 5) (z := 6) (LN := [(4, (0, 6)), (2, (1, 108917793695 * r7 + 159561683699 * r8)), (0, (4, 0)), (1, (4, 1))]) (pcN := 29) jIQ_41_26 rfl rfl (by decide) rfl rfl ?_
  refine jT_xgoto (pcN := 5) jIQ_41_29 rfl ?_
  refine jT_xiload (v := (0, 6)) (pcN := 7) jIQ_41_5 rfl rfl rfl ?_
  refine jT_xbipush (k := 6) (pcN := 9) jIQ_41_7 (by decide) rfl ?_
  refine jT_xicT (pcN := 32) jIQ_41_9 rfl (by decide +kernel) rfl ?_
  refine jT_xlload_n (v := (1, 108917793695 * r7 + 159561683699 * r8)) (pcN := 33) jIQ_41_32 rfl rfl rfl ?_
  exact jT_ret rfl (by decide) (by show 2 ≤ 2; omega) (by omega) (by omega) ⟨rfl, rfl, rfl⟩
theorem jQ_39_49 {xs : List Int} {d : Nat} {r7 r8 : Int} (h_r7 : (-20) ≤ r7 ∧ r7 ≤ 20) (h_r8 : (-10) ≤ r8 ∧ r8 ≤ 10) (g_0 : r7 < 0) (g_1 : 0 ≤ r8) : jT xs d 39 2 0 [(0, (4, 0)), (1, (4, 1))] [] [jgh, (101, [], [0, r7, r8, 0, 0, 0])] 0 0 (fun k v hsN => k = 0 ∧ v = (1, -r7 + r8) ∧ hsN = [jgh, (101, [], [0, r7, r8, 0, 0, 0])] ++ []) := by
  refine jT_xlconst (z := 0) (pcN := 1) jIQ_39_0 rfl rfl ?_
  refine jT_xlstore_n (v := (1, 0)) (LN := [(2, (1, 0)), (0, (4, 0)), (1, (4, 1))]) (pcN := 2) jIQ_39_1 rfl rfl rfl rfl ?_
  refine jT_xiconst (k := 1) (pcN := 3) jIQ_39_2 rfl ?_
  refine jT_xistore (v := (0, 1)) (LN := [(4, (0, 1)), (2, (1, 0)), (0, (4, 0)), (1, (4, 1))]) (pcN := 5) jIQ_39_3 rfl rfl rfl rfl ?_
  refine jT_xiload (v := (0, 1)) (pcN := 7) jIQ_39_5 rfl rfl rfl ?_
  refine jT_xbipush (k := 6) (pcN := 9) jIQ_39_7 (by decide) rfl ?_
  refine jT_xicF (t := 28) (pcN := 12) jIQ_39_9 rfl (by decide +kernel) rfl rfl ?_
  refine jT_xlload_n (v := (1, 0)) (pcN := 13) jIQ_39_12 rfl rfl rfl ?_
  refine jT_xaload_n (v := (4, 1)) (pcN := 14) jIQ_39_13 rfl rfl rfl ?_
  refine jT_xiload (v := (0, 1)) (pcN := 16) jIQ_39_14 rfl rfl rfl ?_
  refine jT_lald (x := r7) (a := 1) (j := 1) (fs := []) (X := [0, r7, r8, 0, 0, 0]) jIQ_39_16 rfl rfl rfl rfl ?_
  refine jT_eq (LN := [(4, (0, 1)), (2, (1, 0)), (0, (4, 0)), (1, (4, 1))]) (stN := [(1, r7), (1, 0)]) (hsN := [jgh, (101, [], [0, r7, r8, 0, 0, 0])]) rfl rfl rfl ?_
  refine jT_labs (z := -r7) (by rfl) (by rfl) (by rfl) (by rfl) (by rw [show jwl (r7) = r7 from jwl_idd (by omega) (by omega), decide_eq_true (by omega)]; first | (simp only [cond_true, cond_false]; done) | (simp only [cond_true, cond_false]; omega) | rfl) ?_
  refine jT_xladd (x := 0) (y := -r7) (z := -r7) (pcN := 21) jIQ_39_20 rfl (by omega) rfl ?_
  refine jT_xlstore_n (v := (1, -r7)) (LN := [(2, (1, -r7)), (4, (0, 1)), (0, (4, 0)), (1, (4, 1))]) (pcN := 22) jIQ_39_21 rfl rfl rfl rfl ?_
  refine jT_xiinc (x := 1) (z := 2) (LN := [(4, (0, 2)), (2, (1, -r7)), (0, (4, 0)), (1, (4, 1))]) (pcN := 25) jIQ_39_22 rfl rfl (by decide) rfl rfl ?_
  refine jT_xgoto (pcN := 5) jIQ_39_25 rfl ?_
  refine jT_xiload (v := (0, 2)) (pcN := 7) jIQ_39_5 rfl rfl rfl ?_
  refine jT_xbipush (k := 6) (pcN := 9) jIQ_39_7 (by decide) rfl ?_
  refine jT_xicF (t := 28) (pcN := 12) jIQ_39_9 rfl (by decide +kernel) rfl rfl ?_
  refine jT_xlload_n (v := (1, -r7)) (pcN := 13) jIQ_39_12 rfl rfl rfl ?_
  refine jT_xaload_n (v := (4, 1)) (pcN := 14) jIQ_39_13 rfl rfl rfl ?_
  refine jT_xiload (v := (0, 2)) (pcN := 16) jIQ_39_14 rfl rfl rfl ?_
  refine jT_lald (x := r8) (a := 1) (j := 2) (fs := []) (X := [0, r7, r8, 0, 0, 0]) jIQ_39_16 rfl rfl rfl rfl ?_
  refine jT_eq (LN := [(4, (0, 2)), (2, (1, -r7)), (0, (4, 0)), (1, (4, 1))]) (stN := [(1, r8), (1, -r7)]) (hsN := [jgh, (101, [], [0, r7, r8, 0, 0, 0])]) rfl rfl rfl ?_
  refine jT_labs (z := r8) (by rfl) (by rfl) (by rfl) (by rfl) (by rw [show jwl (r8) = r8 from jwl_idd (by omega) (by omega), decide_eq_false (by omega)]; first | (simp only [cond_true, cond_false]; done) | (simp only [cond_true, cond_false]; omega) | rfl) ?_
  refine jT_xladd (x := -r7) (y := r8) (z := -r7 + r8) (pcN := 21) jIQ_39_20 rfl (by omega) rfl ?_
  refine jT_xlstore_n (v := (1, -r7 + r8)) (LN := [(2, (1, -r7 + r8)), (4, (0, 2)), (0, (4, 0)), (1, (4, 1))]) (pcN := 22) jIQ_39_21 rfl rfl rfl rfl ?_
  refine jT_xiinc (x := 2) (z := 3) (LN := [(4, (0, 3)), (2, (1, -r7 + r8)), (0, (4, 0)), (1, (4, 1))]) (pcN := 25) jIQ_39_22 rfl rfl (by decide) rfl rfl ?_
  refine jT_xgoto (pcN := 5) jIQ_39_25 rfl ?_
  refine jT_xiload (v := (0, 3)) (pcN := 7) jIQ_39_5 rfl rfl rfl ?_
  refine jT_xbipush (k := 6) (pcN := 9) jIQ_39_7 (by decide) rfl ?_
  refine jT_xicF (t := 28) (pcN := 12) jIQ_39_9 rfl (by decide +kernel) rfl rfl ?_
  refine jT_xlload_n (v := (1, -r7 + r8)) (pcN := 13) jIQ_39_12 rfl rfl rfl ?_
  refine jT_xaload_n (v := (4, 1)) (pcN := 14) jIQ_39_13 rfl rfl rfl ?_
  refine jT_xiload (v := (0, 3)) (pcN := 16) jIQ_39_14 rfl rfl rfl ?_
  refine jT_lald (x := 0) (a := 1) (j := 3) (fs := []) (X := [0, r7, r8, 0, 0, 0]) jIQ_39_16 rfl rfl rfl rfl ?_
  refine jT_eq (LN := [(4, (0, 3)), (2, (1, -r7 + r8)), (0, (4, 0)), (1, (4, 1))]) (stN := [(1, 0), (1, -r7 + r8)]) (hsN := [jgh, (101, [], [0, r7, r8, 0, 0, 0])]) rfl rfl rfl ?_
  refine jT_labs (z := 0) (by rfl) (by rfl) (by rfl) (by rfl) (by decide +kernel) ?_
  refine jT_xladd (x := -r7 + r8) (y := 0) (z := -r7 + r8) (pcN := 21) jIQ_39_20 rfl (by omega) rfl ?_
  refine jT_xlstore_n (v := (1, -r7 + r8)) (LN := [(2, (1, -r7 + r8)), (4, (0, 3)), (0, (4, 0)), (1, (4, 1))]) (pcN := 22) jIQ_39_21 rfl rfl rfl rfl ?_
  refine jT_xiinc (x := 3) (z := 4) (LN := [(4, (0, 4)), (2, (1, -r7 + r8)), (0, (4, 0)), (1, (4, 1))]) (pcN := 25) jIQ_39_22 rfl rfl (by decide) rfl rfl ?_
  refine jT_xgoto (pcN := 5) jIQ_39_25 rfl ?_
  refine jT_xiload (v := (0, 4)) (pcN := 7) jIQ_39_5 rfl rfl rfl ?_
  refine jT_xbipush (k := 6) (pcN := 9) jIQ_39_7 (by decide) rfl ?_
  refine jT_xicF (t := 28) (pcN := 12) jIQ_39_9 rfl (by decide +kernel) rfl rfl ?_
  refine jT_xlload_n (v := (1, -r7 + r8)) (pcN := 13) jIQ_39_12 rfl rfl rfl ?_
  refine jT_xaload_n (v := (4, 1)) (pcN := 14) jIQ_39_13 rfl rfl rfl ?_
  refine jT_xiload (v := (0, 4)) (pcN := 16) jIQ_39_14 rfl rfl rfl ?_
  refine jT_lald (x := 0) (a := 1) (j := 4) (fs := []) (X := [0, r7, r8, 0, 0, 0]) jIQ_39_16 rfl rfl rfl rfl ?_
  refine jT_eq (LN := [(4, (0, 4)), (2, (1, -r7 + r8)), (0, (4, 0)), (1, (4, 1))]) (stN := [(1, 0), (1, -r7 + r8)]) (hsN := [jgh, (101, [], [0, r7, r8, 0, 0, 0])]) rfl rfl rfl ?_
  refine jT_labs (z := 0) (by rfl) (by rfl) (by rfl) (by rfl) (by decide +kernel) ?_
  refine jT_xladd (x := -r7 + r8) (y := 0) (z := -r7 + r8) (pcN := 21) jIQ_39_20 rfl (by omega) rfl ?_
  refine jT_xlstore_n (v := (1, -r7 + r8)) (LN := [(2, (1, -r7 + r8)), (4, (0, 4)), (0, (4, 0)), (1, (4, 1))]) (pcN := 22) jIQ_39_21 rfl rfl rfl rfl ?_
  refine jT_xiinc (x := 4) (z := 5) (LN := [(4, (0, 5)), (2, (1, -r7 + r8)), (0, (4, 0)), (1, (4, 1))]) (pcN := 25) jIQ_39_22 rfl rfl (by decide) rfl rfl ?_
  refine jT_xgoto (pcN := 5) jIQ_39_25 rfl ?_
  refine jT_xiload (v := (0, 5)) (pcN := 7) jIQ_39_5 rfl rfl rfl ?_
  refine jT_xbipush (k := 6) (pcN := 9) jIQ_39_7 (by decide) rfl ?_
  refine jT_xicF (t := 28) (pcN := 12) jIQ_39_9 rfl (by decide +kernel) rfl rfl ?_
  refine jT_xlload_n (v := (1, -r7 + r8)) (pcN := 13) jIQ_39_12 rfl rfl rfl ?_
  refine jT_xaload_n (v := (4, 1)) (pcN := 14) jIQ_39_13 rfl rfl rfl ?_
  refine jT_xiload (v := (0, 5)) (pcN := 16) jIQ_39_14 rfl rfl rfl ?_
  refine jT_lald (x := 0) (a := 1) (j := 5) (fs := []) (X := [0, r7, r8, 0, 0, 0]) jIQ_39_16 rfl rfl rfl rfl ?_
  refine jT_eq (LN := [(4, (0, 5)), (2, (1, -r7 + r8)), (0, (4, 0)), (1, (4, 1))]) (stN := [(1, 0), (1, -r7 + r8)]) (hsN := [jgh, (101, [], [0, r7, r8, 0, 0, 0])]) rfl rfl rfl ?_
  refine jT_labs (z := 0) (by rfl) (by rfl) (by rfl) (by rfl) (by decide +kernel) ?_
  refine jT_xladd (x := -r7 + r8) (y := 0) (z := -r7 + r8) (pcN := 21) jIQ_39_20 rfl (by omega) rfl ?_
  refine jT_xlstore_n (v := (1, -r7 + r8)) (LN := [(2, (1, -r7 + r8)), (4, (0, 5)), (0, (4, 0)), (1, (4, 1))]) (pcN := 22) jIQ_39_21 rfl rfl rfl rfl ?_
  refine jT_xiinc (x := 5) (z := 6) (LN := [(4, (0, 6)), (2, (1, -r7 + r8)), (0, (4, 0)), (1, (4, 1))]) (pcN := 25) jIQ_39_22 rfl rfl (by decide) rfl rfl ?_
  refine jT_xgoto (pcN := 5) jIQ_39_25 rfl ?_
  refine jT_xiload (v := (0, 6)) (pcN := 7) jIQ_39_5 rfl rfl rfl ?_
  refine jT_xbipush (k := 6) (pcN := 9) jIQ_39_7 (by decide) rfl ?_
  refine jT_xicT (pcN := 28) jIQ_39_9 rfl (by decide +kernel) rfl ?_
  refine jT_xlload_n (v := (1, -r7 + r8)) (pcN := 29) jIQ_39_28 rfl rfl rfl ?_
  exact jT_ret rfl (by decide) (by show 2 ≤ 2; omega) (by omega) (by omega) ⟨rfl, rfl, rfl⟩
theorem jQ_40_50 {xs : List Int} {d : Nat} {r7 r8 : Int} (h_r7 : (-20) ≤ r7 ∧ r7 ≤ 20) (h_r8 : (-10) ≤ r8 ∧ r8 ≤ 10) (g_0 : r7 < 0) (g_1 : 0 ≤ r8) : jT xs d 40 2 0 [(0, (4, 0)), (1, (4, 1)), (2, (1, -r7 + r8))] [] [jgh, (101, [], [0, r7, r8, 0, 0, 0])] 0 0 (fun k v hsN => k = 0 ∧ v = (0, 1) ∧ hsN = [jgh, (101, [], [0, r7, r8, 0, 0, 0])] ++ []) := by
  refine jT_xlload_n (v := (1, -r7 + r8)) (pcN := 1) jIQ_40_0 rfl rfl rfl ?_
  refine jT_adv 1 (pcN := 4) (LN := [(0, (4, 0)), (1, (4, 1)), (2, (1, -r7 + r8))]) (stN := [(1, 16777216), (1, -r7 + r8)]) (hsN := [jgh, (101, [], [0, r7, r8, 0, 0, 0])]) (c1 := 0) (s1 := 0) (c2 := 0) (s2 := 0) (by exact rfl) ?_ (by omega) (by omega)
  refine jT_lcmp (a := -r7 + r8) (b := 16777216) (z := (-1)) (by rfl) (by rfl) (jwl_idd (by omega) (by omega)) (jwl_idd (by omega) (by omega)) (by rw [decide_eq_false (show ¬ ((16777216 : Int) < -r7 + r8) by omega), decide_eq_false (show ¬ ((-r7 + r8 : Int) = 16777216) by omega)]; rfl) ?_
  refine jT_xifF (t := 25) (pcN := 8) jIQ_40_5 rfl (by decide +kernel) rfl rfl ?_
  refine jT_xaload_n (v := (4, 1)) (pcN := 9) jIQ_40_8 rfl rfl rfl ?_
  refine jT_xiconst (k := 0) (pcN := 10) jIQ_40_9 rfl ?_
  refine jT_lald (x := 0) (a := 1) (j := 0) (fs := []) (X := [0, r7, r8, 0, 0, 0]) jIQ_40_10 rfl rfl rfl rfl ?_
  refine jT_eq (LN := [(0, (4, 0)), (1, (4, 1)), (2, (1, -r7 + r8))]) (stN := [(1, 0)]) (hsN := [jgh, (101, [], [0, r7, r8, 0, 0, 0])]) rfl rfl rfl ?_
  refine jT_labs (z := 0) (by rfl) (by rfl) (by rfl) (by rfl) (by decide +kernel) ?_
  refine jT_adv 1 (pcN := 17) (LN := [(0, (4, 0)), (1, (4, 1)), (2, (1, -r7 + r8))]) (stN := [(1, 16777216), (1, 0)]) (hsN := [jgh, (101, [], [0, r7, r8, 0, 0, 0])]) (c1 := 0) (s1 := 0) (c2 := 0) (s2 := 0) (by exact rfl) ?_ (by omega) (by omega)
  refine jT_lcmp (a := 0) (b := 16777216) (z := (-1)) (by rfl) (by rfl) (by decide +kernel) (by decide +kernel) (by decide) ?_
  refine jT_xifF (t := 25) (pcN := 21) jIQ_40_18 rfl (by decide +kernel) rfl rfl ?_
  refine jT_xiconst (k := 1) (pcN := 22) jIQ_40_21 rfl ?_
  refine jT_xgoto (pcN := 26) jIQ_40_22 rfl ?_
  exact jT_ret rfl (by decide) (by show 2 ≤ 2; omega) (by omega) (by omega) ⟨rfl, rfl, rfl⟩
theorem jQ_41_51 {xs : List Int} {d : Nat} {r7 r8 : Int} (h_r7 : (-20) ≤ r7 ∧ r7 ≤ 20) (h_r8 : (-10) ≤ r8 ∧ r8 ≤ 10) (g_0 : r7 < 0) (g_1 : 0 ≤ r8) : jT xs d 41 2 0 [(0, (4, 0)), (1, (4, 1))] [] [jgh, (101, [], [0, r7, r8, 0, 0, 0])] 0 0 (fun k v hsN => k = 0 ∧ v = (1, 108917793695 * r7 + 159561683699 * r8) ∧ hsN = [jgh, (101, [], [0, r7, r8, 0, 0, 0])] ++ []) := by
  refine jT_xlconst (z := 0) (pcN := 1) jIQ_41_0 rfl rfl ?_
  refine jT_xlstore_n (v := (1, 0)) (LN := [(2, (1, 0)), (0, (4, 0)), (1, (4, 1))]) (pcN := 2) jIQ_41_1 rfl rfl rfl rfl ?_
  refine jT_xiconst (k := 0) (pcN := 3) jIQ_41_2 rfl ?_
  refine jT_xistore (v := (0, 0)) (LN := [(4, (0, 0)), (2, (1, 0)), (0, (4, 0)), (1, (4, 1))]) (pcN := 5) jIQ_41_3 rfl rfl rfl rfl ?_
  refine jT_xiload (v := (0, 0)) (pcN := 7) jIQ_41_5 rfl rfl rfl ?_
  refine jT_xbipush (k := 6) (pcN := 9) jIQ_41_7 (by decide) rfl ?_
  refine jT_xicF (t := 32) (pcN := 12) jIQ_41_9 rfl (by decide +kernel) rfl rfl ?_
  refine jT_xlload_n (v := (1, 0)) (pcN := 13) jIQ_41_12 rfl rfl rfl ?_
  refine jT_xaload_n (v := (4, 1)) (pcN := 14) jIQ_41_13 rfl rfl rfl ?_
  refine jT_xiload (v := (0, 0)) (pcN := 16) jIQ_41_14 rfl rfl rfl ?_
  refine jT_lald (x := 0) (a := 1) (j := 0) (fs := []) (X := [0, r7, r8, 0, 0, 0]) jIQ_41_16 rfl rfl rfl rfl ?_
  refine jT_eq (LN := [(4, (0, 0)), (2, (1, 0)), (0, (4, 0)), (1, (4, 1))]) (stN := [(1, 0), (1, 0)]) (hsN := [jgh, (101, [], [0, r7, r8, 0, 0, 0])]) rfl rfl rfl ?_
  refine jT_adv 1 (pcN := 20) (LN := [(4, (0, 0)), (2, (1, 0)), (0, (4, 0)), (1, (4, 1))]) (stN := [(5, 0), (1, 0), (1, 0)]) (hsN := [jgh, (101, [], [0, r7, r8, 0, 0, 0])]) (c1 := 0) (s1 := 0) (c2 := 0) (s2 := 0) (by exact rfl) ?_ (by omega) (by omega)
  refine jT_xiload (v := (0, 0)) (pcN := 22) jIQ_41_20 rfl rfl rfl ?_
  refine jT_adv 1 (pcN := 23) (LN := [(4, (0, 0)), (2, (1, 0)), (0, (4, 0)), (1, (4, 1))]) (stN := [(1, 68719476736), (1, 0), (1, 0)]) (hsN := [jgh, (101, [], [0, r7, r8, 0, 0, 0])]) (c1 := 0) (s1 := 0) (c2 := 0) (s2 := 0) (by exact rfl) ?_ (by omega) (by omega)
  refine jT_xlmul (x := 0) (y := 68719476736) (z := 0) (pcN := 24) jIQ_41_23 rfl (by decide) rfl ?_
  refine jT_xladd (x := 0) (y := 0) (z := 0) (pcN := 25) jIQ_41_24 rfl (by decide) rfl ?_
  refine jT_xlstore_n (v := (1, 0)) (LN := [(2, (1, 0)), (4, (0, 0)), (0, (4, 0)), (1, (4, 1))]) (pcN := 26) jIQ_41_25 rfl rfl rfl rfl ?_
  refine jT_xiinc (x := 0) (z := 1) (LN := [(4, (0, 1)), (2, (1, 0)), (0, (4, 0)), (1, (4, 1))]) (pcN := 29) jIQ_41_26 rfl rfl (by decide) rfl rfl ?_
  refine jT_xgoto (pcN := 5) jIQ_41_29 rfl ?_
  refine jT_xiload (v := (0, 1)) (pcN := 7) jIQ_41_5 rfl rfl rfl ?_
  refine jT_xbipush (k := 6) (pcN := 9) jIQ_41_7 (by decide) rfl ?_
  refine jT_xicF (t := 32) (pcN := 12) jIQ_41_9 rfl (by decide +kernel) rfl rfl ?_
  refine jT_xlload_n (v := (1, 0)) (pcN := 13) jIQ_41_12 rfl rfl rfl ?_
  refine jT_xaload_n (v := (4, 1)) (pcN := 14) jIQ_41_13 rfl rfl rfl ?_
  refine jT_xiload (v := (0, 1)) (pcN := 16) jIQ_41_14 rfl rfl rfl ?_
  refine jT_lald (x := r7) (a := 1) (j := 1) (fs := []) (X := [0, r7, r8, 0, 0, 0]) jIQ_41_16 rfl rfl rfl rfl ?_
  refine jT_eq (LN := [(4, (0, 1)), (2, (1, 0)), (0, (4, 0)), (1, (4, 1))]) (stN := [(1, r7), (1, 0)]) (hsN := [jgh, (101, [], [0, r7, r8, 0, 0, 0])]) rfl rfl rfl ?_
  refine jT_adv 1 (pcN := 20) (LN := [(4, (0, 1)), (2, (1, 0)), (0, (4, 0)), (1, (4, 1))]) (stN := [(5, 0), (1, r7), (1, 0)]) (hsN := [jgh, (101, [], [0, r7, r8, 0, 0, 0])]) (c1 := 0) (s1 := 0) (c2 := 0) (s2 := 0) (by exact rfl) ?_ (by omega) (by omega)
  refine jT_xiload (v := (0, 1)) (pcN := 22) jIQ_41_20 rfl rfl rfl ?_
  refine jT_adv 1 (pcN := 23) (LN := [(4, (0, 1)), (2, (1, 0)), (0, (4, 0)), (1, (4, 1))]) (stN := [(1, 108917793695), (1, r7), (1, 0)]) (hsN := [jgh, (101, [], [0, r7, r8, 0, 0, 0])]) (c1 := 0) (s1 := 0) (c2 := 0) (s2 := 0) (by exact rfl) ?_ (by omega) (by omega)
  refine jT_xlmul (x := r7) (y := 108917793695) (z := 108917793695 * r7) (pcN := 24) jIQ_41_23 rfl (by omega) rfl ?_
  refine jT_xladd (x := 0) (y := 108917793695 * r7) (z := 108917793695 * r7) (pcN := 25) jIQ_41_24 rfl (by omega) rfl ?_
  refine jT_xlstore_n (v := (1, 108917793695 * r7)) (LN := [(2, (1, 108917793695 * r7)), (4, (0, 1)), (0, (4, 0)), (1, (4, 1))]) (pcN := 26) jIQ_41_25 rfl rfl rfl rfl ?_
  refine jT_xiinc (x := 1) (z := 2) (LN := [(4, (0, 2)), (2, (1, 108917793695 * r7)), (0, (4, 0)), (1, (4, 1))]) (pcN := 29) jIQ_41_26 rfl rfl (by decide) rfl rfl ?_
  refine jT_xgoto (pcN := 5) jIQ_41_29 rfl ?_
  refine jT_xiload (v := (0, 2)) (pcN := 7) jIQ_41_5 rfl rfl rfl ?_
  refine jT_xbipush (k := 6) (pcN := 9) jIQ_41_7 (by decide) rfl ?_
  refine jT_xicF (t := 32) (pcN := 12) jIQ_41_9 rfl (by decide +kernel) rfl rfl ?_
  refine jT_xlload_n (v := (1, 108917793695 * r7)) (pcN := 13) jIQ_41_12 rfl rfl rfl ?_
  refine jT_xaload_n (v := (4, 1)) (pcN := 14) jIQ_41_13 rfl rfl rfl ?_
  refine jT_xiload (v := (0, 2)) (pcN := 16) jIQ_41_14 rfl rfl rfl ?_
  refine jT_lald (x := r8) (a := 1) (j := 2) (fs := []) (X := [0, r7, r8, 0, 0, 0]) jIQ_41_16 rfl rfl rfl rfl ?_
  refine jT_eq (LN := [(4, (0, 2)), (2, (1, 108917793695 * r7)), (0, (4, 0)), (1, (4, 1))]) (stN := [(1, r8), (1, 108917793695 * r7)]) (hsN := [jgh, (101, [], [0, r7, r8, 0, 0, 0])]) rfl rfl rfl ?_
  refine jT_adv 1 (pcN := 20) (LN := [(4, (0, 2)), (2, (1, 108917793695 * r7)), (0, (4, 0)), (1, (4, 1))]) (stN := [(5, 0), (1, r8), (1, 108917793695 * r7)]) (hsN := [jgh, (101, [], [0, r7, r8, 0, 0, 0])]) (c1 := 0) (s1 := 0) (c2 := 0) (s2 := 0) (by exact rfl) ?_ (by omega) (by omega)
  refine jT_xiload (v := (0, 2)) (pcN := 22) jIQ_41_20 rfl rfl rfl ?_
  refine jT_adv 1 (pcN := 23) (LN := [(4, (0, 2)), (2, (1, 108917793695 * r7)), (0, (4, 0)), (1, (4, 1))]) (stN := [(1, 159561683699), (1, r8), (1, 108917793695 * r7)]) (hsN := [jgh, (101, [], [0, r7, r8, 0, 0, 0])]) (c1 := 0) (s1 := 0) (c2 := 0) (s2 := 0) (by exact rfl) ?_ (by omega) (by omega)
  refine jT_xlmul (x := r8) (y := 159561683699) (z := 159561683699 * r8) (pcN := 24) jIQ_41_23 rfl (by omega) rfl ?_
  refine jT_xladd (x := 108917793695 * r7) (y := 159561683699 * r8) (z := 108917793695 * r7 + 159561683699 * r8) (pcN := 25) jIQ_41_24 rfl (by omega) rfl ?_
  refine jT_xlstore_n (v := (1, 108917793695 * r7 + 159561683699 * r8)) (LN := [(2, (1, 108917793695 * r7 + 159561683699 * r8)), (4, (0, 2)), (0, (4, 0)), (1, (4, 1))]) (pcN := 26) jIQ_41_25 rfl rfl rfl rfl ?_
  refine jT_xiinc (x := 2) (z := 3) (LN := [(4, (0, 3)), (2, (1, 108917793695 * r7 + 159561683699 * r8)), (0, (4, 0)), (1, (4, 1))]) (pcN := 29) jIQ_41_26 rfl rfl (by decide) rfl rfl ?_
  refine jT_xgoto (pcN := 5) jIQ_41_29 rfl ?_
  refine jT_xiload (v := (0, 3)) (pcN := 7) jIQ_41_5 rfl rfl rfl ?_
  refine jT_xbipush (k := 6) (pcN := 9) jIQ_41_7 (by decide) rfl ?_
  refine jT_xicF (t := 32) (pcN := 12) jIQ_41_9 rfl (by decide +kernel) rfl rfl ?_
  refine jT_xlload_n (v := (1, 108917793695 * r7 + 159561683699 * r8)) (pcN := 13) jIQ_41_12 rfl rfl rfl ?_
  refine jT_xaload_n (v := (4, 1)) (pcN := 14) jIQ_41_13 rfl rfl rfl ?_
  refine jT_xiload (v := (0, 3)) (pcN := 16) jIQ_41_14 rfl rfl rfl ?_
  refine jT_lald (x := 0) (a := 1) (j := 3) (fs := []) (X := [0, r7, r8, 0, 0, 0]) jIQ_41_16 rfl rfl rfl rfl ?_
  refine jT_eq (LN := [(4, (0, 3)), (2, (1, 108917793695 * r7 + 159561683699 * r8)), (0, (4, 0)), (1, (4, 1))]) (stN := [(1, 0), (1, 108917793695 * r7 + 159561683699 * r8)]) (hsN := [jgh, (101, [], [0, r7, r8, 0, 0, 0])]) rfl rfl rfl ?_
  refine jT_adv 1 (pcN := 20) (LN := [(4, (0, 3)), (2, (1, 108917793695 * r7 + 159561683699 * r8)), (0, (4, 0)), (1, (4, 1))]) (stN := [(5, 0), (1, 0), (1, 108917793695 * r7 + 159561683699 * r8)]) (hsN := [jgh, (101, [], [0, r7, r8, 0, 0, 0])]) (c1 := 0) (s1 := 0) (c2 := 0) (s2 := 0) (by exact rfl) ?_ (by omega) (by omega)
  refine jT_xiload (v := (0, 3)) (pcN := 22) jIQ_41_20 rfl rfl rfl ?_
  refine jT_adv 1 (pcN := 23) (LN := [(4, (0, 3)), (2, (1, 108917793695 * r7 + 159561683699 * r8)), (0, (4, 0)), (1, (4, 1))]) (stN := [(1, 192919961256), (1, 0), (1, 108917793695 * r7 + 159561683699 * r8)]) (hsN := [jgh, (101, [], [0, r7, r8, 0, 0, 0])]) (c1 := 0) (s1 := 0) (c2 := 0) (s2 := 0) (by exact rfl) ?_ (by omega) (by omega)
  refine jT_xlmul (x := 0) (y := 192919961256) (z := 0) (pcN := 24) jIQ_41_23 rfl (by decide) rfl ?_
  refine jT_xladd (x := 108917793695 * r7 + 159561683699 * r8) (y := 0) (z := 108917793695 * r7 + 159561683699 * r8) (pcN := 25) jIQ_41_24 rfl (by omega) rfl ?_
  refine jT_xlstore_n (v := (1, 108917793695 * r7 + 159561683699 * r8)) (LN := [(2, (1, 108917793695 * r7 + 159561683699 * r8)), (4, (0, 3)), (0, (4, 0)), (1, (4, 1))]) (pcN := 26) jIQ_41_25 rfl rfl rfl rfl ?_
  refine jT_xiinc (x := 3) (z := 4) (LN := [(4, (0, 4)), (2, (1, 108917793695 * r7 + 159561683699 * r8)), (0, (4, 0)), (1, (4, 1))]) (pcN := 29) jIQ_41_26 rfl rfl (by decide) rfl rfl ?_
  refine jT_xgoto (pcN := 5) jIQ_41_29 rfl ?_
  refine jT_xiload (v := (0, 4)) (pcN := 7) jIQ_41_5 rfl rfl rfl ?_
  refine jT_xbipush (k := 6) (pcN := 9) jIQ_41_7 (by decide) rfl ?_
  refine jT_xicF (t := 32) (pcN := 12) jIQ_41_9 rfl (by decide +kernel) rfl rfl ?_
  refine jT_xlload_n (v := (1, 108917793695 * r7 + 159561683699 * r8)) (pcN := 13) jIQ_41_12 rfl rfl rfl ?_
  refine jT_xaload_n (v := (4, 1)) (pcN := 14) jIQ_41_13 rfl rfl rfl ?_
  refine jT_xiload (v := (0, 4)) (pcN := 16) jIQ_41_14 rfl rfl rfl ?_
  refine jT_lald (x := 0) (a := 1) (j := 4) (fs := []) (X := [0, r7, r8, 0, 0, 0]) jIQ_41_16 rfl rfl rfl rfl ?_
  refine jT_eq (LN := [(4, (0, 4)), (2, (1, 108917793695 * r7 + 159561683699 * r8)), (0, (4, 0)), (1, (4, 1))]) (stN := [(1, 0), (1, 108917793695 * r7 + 159561683699 * r8)]) (hsN := [jgh, (101, [], [0, r7, r8, 0, 0, 0])]) rfl rfl rfl ?_
  refine jT_adv 1 (pcN := 20) (LN := [(4, (0, 4)), (2, (1, 108917793695 * r7 + 159561683699 * r8)), (0, (4, 0)), (1, (4, 1))]) (stN := [(5, 0), (1, 0), (1, 108917793695 * r7 + 159561683699 * r8)]) (hsN := [jgh, (101, [], [0, r7, r8, 0, 0, 0])]) (c1 := 0) (s1 := 0) (c2 := 0) (s2 := 0) (by exact rfl) ?_ (by omega) (by omega)
  refine jT_xiload (v := (0, 4)) (pcN := 22) jIQ_41_20 rfl rfl rfl ?_
  refine jT_adv 1 (pcN := 23) (LN := [(4, (0, 4)), (2, (1, 108917793695 * r7 + 159561683699 * r8)), (0, (4, 0)), (1, (4, 1))]) (stN := [(1, 237730330636), (1, 0), (1, 108917793695 * r7 + 159561683699 * r8)]) (hsN := [jgh, (101, [], [0, r7, r8, 0, 0, 0])]) (c1 := 0) (s1 := 0) (c2 := 0) (s2 := 0) (by exact rfl) ?_ (by omega) (by omega)
  refine jT_xlmul (x := 0) (y := 237730330636) (z := 0) (pcN := 24) jIQ_41_23 rfl (by decide) rfl ?_
  refine jT_xladd (x := 108917793695 * r7 + 159561683699 * r8) (y := 0) (z := 108917793695 * r7 + 159561683699 * r8) (pcN := 25) jIQ_41_24 rfl (by omega) rfl ?_
  refine jT_xlstore_n (v := (1, 108917793695 * r7 + 159561683699 * r8)) (LN := [(2, (1, 108917793695 * r7 + 159561683699 * r8)), (4, (0, 4)), (0, (4, 0)), (1, (4, 1))]) (pcN := 26) jIQ_41_25 rfl rfl rfl rfl ?_
  refine jT_xiinc (x := 4) (z := 5) (LN := [(4, (0, 5)), (2, (1, 108917793695 * r7 + 159561683699 * r8)), (0, (4, 0)), (1, (4, 1))]) (pcN := 29) jIQ_41_26 rfl rfl (by decide) rfl rfl ?_
  refine jT_xgoto (pcN := 5) jIQ_41_29 rfl ?_
  refine jT_xiload (v := (0, 5)) (pcN := 7) jIQ_41_5 rfl rfl rfl ?_
  refine jT_xbipush (k := 6) (pcN := 9) jIQ_41_7 (by decide) rfl ?_
  refine jT_xicF (t := 32) (pcN := 12) jIQ_41_9 rfl (by decide +kernel) rfl rfl ?_
  refine jT_xlload_n (v := (1, 108917793695 * r7 + 159561683699 * r8)) (pcN := 13) jIQ_41_12 rfl rfl rfl ?_
  refine jT_xaload_n (v := (4, 1)) (pcN := 14) jIQ_41_13 rfl rfl rfl ?_
  refine jT_xiload (v := (0, 5)) (pcN := 16) jIQ_41_14 rfl rfl rfl ?_
  refine jT_lald (x := 0) (a := 1) (j := 5) (fs := []) (X := [0, r7, r8, 0, 0, 0]) jIQ_41_16 rfl rfl rfl rfl ?_
  refine jT_eq (LN := [(4, (0, 5)), (2, (1, 108917793695 * r7 + 159561683699 * r8)), (0, (4, 0)), (1, (4, 1))]) (stN := [(1, 0), (1, 108917793695 * r7 + 159561683699 * r8)]) (hsN := [jgh, (101, [], [0, r7, r8, 0, 0, 0])]) rfl rfl rfl ?_
  refine jT_adv 1 (pcN := 20) (LN := [(4, (0, 5)), (2, (1, 108917793695 * r7 + 159561683699 * r8)), (0, (4, 0)), (1, (4, 1))]) (stN := [(5, 0), (1, 0), (1, 108917793695 * r7 + 159561683699 * r8)]) (hsN := [jgh, (101, [], [0, r7, r8, 0, 0, 0])]) (c1 := 0) (s1 := 0) (c2 := 0) (s2 := 0) (by exact rfl) ?_ (by omega) (by omega)
  refine jT_xiload (v := (0, 5)) (pcN := 22) jIQ_41_20 rfl rfl rfl ?_
  refine jT_adv 1 (pcN := 23) (LN := [(4, (0, 5)), (2, (1, 108917793695 * r7 + 159561683699 * r8)), (0, (4, 0)), (1, (4, 1))]) (stN := [(1, 254292281123), (1, 0), (1, 108917793695 * r7 + 159561683699 * r8)]) (hsN := [jgh, (101, [], [0, r7, r8, 0, 0, 0])]) (c1 := 0) (s1 := 0) (c2 := 0) (s2 := 0) (by exact rfl) ?_ (by omega) (by omega)
  refine jT_xlmul (x := 0) (y := 254292281123) (z := 0) (pcN := 24) jIQ_41_23 rfl (by decide) rfl ?_
  refine jT_xladd (x := 108917793695 * r7 + 159561683699 * r8) (y := 0) (z := 108917793695 * r7 + 159561683699 * r8) (pcN := 25) jIQ_41_24 rfl (by omega) rfl ?_
  refine jT_xlstore_n (v := (1, 108917793695 * r7 + 159561683699 * r8)) (LN := [(2, (1, 108917793695 * r7 + 159561683699 * r8)), (4, (0, 5)), (0, (4, 0)), (1, (4, 1))]) (pcN := 26) jIQ_41_25 rfl rfl rfl rfl ?_
  refine jT_xiinc (x := 5) (z := 6) (LN := [(4, (0, 6)), (2, (1, 108917793695 * r7 + 159561683699 * r8)), (0, (4, 0)), (1, (4, 1))]) (pcN := 29) jIQ_41_26 rfl rfl (by decide) rfl rfl ?_
  refine jT_xgoto (pcN := 5) jIQ_41_29 rfl ?_
  refine jT_xiload (v := (0, 6)) (pcN := 7) jIQ_41_5 rfl rfl rfl ?_
  refine jT_xbipush (k := 6) (pcN := 9) jIQ_41_7 (by decide) rfl ?_
  refine jT_xicT (pcN := 32) jIQ_41_9 rfl (by decide +kernel) rfl ?_
  refine jT_xlload_n (v := (1, 108917793695 * r7 + 159561683699 * r8)) (pcN := 33) jIQ_41_32 rfl rfl rfl ?_
  exact jT_ret rfl (by decide) (by show 2 ≤ 2; omega) (by omega) (by omega) ⟨rfl, rfl, rfl⟩
theorem jQ_39_52 {xs : List Int} {d : Nat} {r7 r8 : Int} (h_r7 : (-20) ≤ r7 ∧ r7 ≤ 20) (h_r8 : (-10) ≤ r8 ∧ r8 ≤ 10) (g_0 : r7 < 0) (g_1 : 0 ≤ r8) (g_2 : 108917793695 * r7 + 159561683699 * r8 < 0) : jT xs d 39 2 0 [(0, (4, 0)), (1, (4, 1))] [] [jgh, (101, [], [0, r7, r8, 0, 0, 0])] 0 0 (fun k v hsN => k = 0 ∧ v = (1, -r7 + r8) ∧ hsN = [jgh, (101, [], [0, r7, r8, 0, 0, 0])] ++ []) := by
  refine jT_xlconst (z := 0) (pcN := 1) jIQ_39_0 rfl rfl ?_
  refine jT_xlstore_n (v := (1, 0)) (LN := [(2, (1, 0)), (0, (4, 0)), (1, (4, 1))]) (pcN := 2) jIQ_39_1 rfl rfl rfl rfl ?_
  refine jT_xiconst (k := 1) (pcN := 3) jIQ_39_2 rfl ?_
  refine jT_xistore (v := (0, 1)) (LN := [(4, (0, 1)), (2, (1, 0)), (0, (4, 0)), (1, (4, 1))]) (pcN := 5) jIQ_39_3 rfl rfl rfl rfl ?_
  refine jT_xiload (v := (0, 1)) (pcN := 7) jIQ_39_5 rfl rfl rfl ?_
  refine jT_xbipush (k := 6) (pcN := 9) jIQ_39_7 (by decide) rfl ?_
  refine jT_xicF (t := 28) (pcN := 12) jIQ_39_9 rfl (by decide +kernel) rfl rfl ?_
  refine jT_xlload_n (v := (1, 0)) (pcN := 13) jIQ_39_12 rfl rfl rfl ?_
  refine jT_xaload_n (v := (4, 1)) (pcN := 14) jIQ_39_13 rfl rfl rfl ?_
  refine jT_xiload (v := (0, 1)) (pcN := 16) jIQ_39_14 rfl rfl rfl ?_
  refine jT_lald (x := r7) (a := 1) (j := 1) (fs := []) (X := [0, r7, r8, 0, 0, 0]) jIQ_39_16 rfl rfl rfl rfl ?_
  refine jT_eq (LN := [(4, (0, 1)), (2, (1, 0)), (0, (4, 0)), (1, (4, 1))]) (stN := [(1, r7), (1, 0)]) (hsN := [jgh, (101, [], [0, r7, r8, 0, 0, 0])]) rfl rfl rfl ?_
  refine jT_labs (z := -r7) (by rfl) (by rfl) (by rfl) (by rfl) (by rw [show jwl (r7) = r7 from jwl_idd (by omega) (by omega), decide_eq_true (by omega)]; first | (simp only [cond_true, cond_false]; done) | (simp only [cond_true, cond_false]; omega) | rfl) ?_
  refine jT_xladd (x := 0) (y := -r7) (z := -r7) (pcN := 21) jIQ_39_20 rfl (by omega) rfl ?_
  refine jT_xlstore_n (v := (1, -r7)) (LN := [(2, (1, -r7)), (4, (0, 1)), (0, (4, 0)), (1, (4, 1))]) (pcN := 22) jIQ_39_21 rfl rfl rfl rfl ?_
  refine jT_xiinc (x := 1) (z := 2) (LN := [(4, (0, 2)), (2, (1, -r7)), (0, (4, 0)), (1, (4, 1))]) (pcN := 25) jIQ_39_22 rfl rfl (by decide) rfl rfl ?_
  refine jT_xgoto (pcN := 5) jIQ_39_25 rfl ?_
  refine jT_xiload (v := (0, 2)) (pcN := 7) jIQ_39_5 rfl rfl rfl ?_
  refine jT_xbipush (k := 6) (pcN := 9) jIQ_39_7 (by decide) rfl ?_
  refine jT_xicF (t := 28) (pcN := 12) jIQ_39_9 rfl (by decide +kernel) rfl rfl ?_
  refine jT_xlload_n (v := (1, -r7)) (pcN := 13) jIQ_39_12 rfl rfl rfl ?_
  refine jT_xaload_n (v := (4, 1)) (pcN := 14) jIQ_39_13 rfl rfl rfl ?_
  refine jT_xiload (v := (0, 2)) (pcN := 16) jIQ_39_14 rfl rfl rfl ?_
  refine jT_lald (x := r8) (a := 1) (j := 2) (fs := []) (X := [0, r7, r8, 0, 0, 0]) jIQ_39_16 rfl rfl rfl rfl ?_
  refine jT_eq (LN := [(4, (0, 2)), (2, (1, -r7)), (0, (4, 0)), (1, (4, 1))]) (stN := [(1, r8), (1, -r7)]) (hsN := [jgh, (101, [], [0, r7, r8, 0, 0, 0])]) rfl rfl rfl ?_
  refine jT_labs (z := r8) (by rfl) (by rfl) (by rfl) (by rfl) (by rw [show jwl (r8) = r8 from jwl_idd (by omega) (by omega), decide_eq_false (by omega)]; first | (simp only [cond_true, cond_false]; done) | (simp only [cond_true, cond_false]; omega) | rfl) ?_
  refine jT_xladd (x := -r7) (y := r8) (z := -r7 + r8) (pcN := 21) jIQ_39_20 rfl (by omega) rfl ?_
  refine jT_xlstore_n (v := (1, -r7 + r8)) (LN := [(2, (1, -r7 + r8)), (4, (0, 2)), (0, (4, 0)), (1, (4, 1))]) (pcN := 22) jIQ_39_21 rfl rfl rfl rfl ?_
  refine jT_xiinc (x := 2) (z := 3) (LN := [(4, (0, 3)), (2, (1, -r7 + r8)), (0, (4, 0)), (1, (4, 1))]) (pcN := 25) jIQ_39_22 rfl rfl (by decide) rfl rfl ?_
  refine jT_xgoto (pcN := 5) jIQ_39_25 rfl ?_
  refine jT_xiload (v := (0, 3)) (pcN := 7) jIQ_39_5 rfl rfl rfl ?_
  refine jT_xbipush (k := 6) (pcN := 9) jIQ_39_7 (by decide) rfl ?_
  refine jT_xicF (t := 28) (pcN := 12) jIQ_39_9 rfl (by decide +kernel) rfl rfl ?_
  refine jT_xlload_n (v := (1, -r7 + r8)) (pcN := 13) jIQ_39_12 rfl rfl rfl ?_
  refine jT_xaload_n (v := (4, 1)) (pcN := 14) jIQ_39_13 rfl rfl rfl ?_
  refine jT_xiload (v := (0, 3)) (pcN := 16) jIQ_39_14 rfl rfl rfl ?_
  refine jT_lald (x := 0) (a := 1) (j := 3) (fs := []) (X := [0, r7, r8, 0, 0, 0]) jIQ_39_16 rfl rfl rfl rfl ?_
  refine jT_eq (LN := [(4, (0, 3)), (2, (1, -r7 + r8)), (0, (4, 0)), (1, (4, 1))]) (stN := [(1, 0), (1, -r7 + r8)]) (hsN := [jgh, (101, [], [0, r7, r8, 0, 0, 0])]) rfl rfl rfl ?_
  refine jT_labs (z := 0) (by rfl) (by rfl) (by rfl) (by rfl) (by decide +kernel) ?_
  refine jT_xladd (x := -r7 + r8) (y := 0) (z := -r7 + r8) (pcN := 21) jIQ_39_20 rfl (by omega) rfl ?_
  refine jT_xlstore_n (v := (1, -r7 + r8)) (LN := [(2, (1, -r7 + r8)), (4, (0, 3)), (0, (4, 0)), (1, (4, 1))]) (pcN := 22) jIQ_39_21 rfl rfl rfl rfl ?_
  refine jT_xiinc (x := 3) (z := 4) (LN := [(4, (0, 4)), (2, (1, -r7 + r8)), (0, (4, 0)), (1, (4, 1))]) (pcN := 25) jIQ_39_22 rfl rfl (by decide) rfl rfl ?_
  refine jT_xgoto (pcN := 5) jIQ_39_25 rfl ?_
  refine jT_xiload (v := (0, 4)) (pcN := 7) jIQ_39_5 rfl rfl rfl ?_
  refine jT_xbipush (k := 6) (pcN := 9) jIQ_39_7 (by decide) rfl ?_
  refine jT_xicF (t := 28) (pcN := 12) jIQ_39_9 rfl (by decide +kernel) rfl rfl ?_
  refine jT_xlload_n (v := (1, -r7 + r8)) (pcN := 13) jIQ_39_12 rfl rfl rfl ?_
  refine jT_xaload_n (v := (4, 1)) (pcN := 14) jIQ_39_13 rfl rfl rfl ?_
  refine jT_xiload (v := (0, 4)) (pcN := 16) jIQ_39_14 rfl rfl rfl ?_
  refine jT_lald (x := 0) (a := 1) (j := 4) (fs := []) (X := [0, r7, r8, 0, 0, 0]) jIQ_39_16 rfl rfl rfl rfl ?_
  refine jT_eq (LN := [(4, (0, 4)), (2, (1, -r7 + r8)), (0, (4, 0)), (1, (4, 1))]) (stN := [(1, 0), (1, -r7 + r8)]) (hsN := [jgh, (101, [], [0, r7, r8, 0, 0, 0])]) rfl rfl rfl ?_
  refine jT_labs (z := 0) (by rfl) (by rfl) (by rfl) (by rfl) (by decide +kernel) ?_
  refine jT_xladd (x := -r7 + r8) (y := 0) (z := -r7 + r8) (pcN := 21) jIQ_39_20 rfl (by omega) rfl ?_
  refine jT_xlstore_n (v := (1, -r7 + r8)) (LN := [(2, (1, -r7 + r8)), (4, (0, 4)), (0, (4, 0)), (1, (4, 1))]) (pcN := 22) jIQ_39_21 rfl rfl rfl rfl ?_
  refine jT_xiinc (x := 4) (z := 5) (LN := [(4, (0, 5)), (2, (1, -r7 + r8)), (0, (4, 0)), (1, (4, 1))]) (pcN := 25) jIQ_39_22 rfl rfl (by decide) rfl rfl ?_
  refine jT_xgoto (pcN := 5) jIQ_39_25 rfl ?_
  refine jT_xiload (v := (0, 5)) (pcN := 7) jIQ_39_5 rfl rfl rfl ?_
  refine jT_xbipush (k := 6) (pcN := 9) jIQ_39_7 (by decide) rfl ?_
  refine jT_xicF (t := 28) (pcN := 12) jIQ_39_9 rfl (by decide +kernel) rfl rfl ?_
  refine jT_xlload_n (v := (1, -r7 + r8)) (pcN := 13) jIQ_39_12 rfl rfl rfl ?_
  refine jT_xaload_n (v := (4, 1)) (pcN := 14) jIQ_39_13 rfl rfl rfl ?_
  refine jT_xiload (v := (0, 5)) (pcN := 16) jIQ_39_14 rfl rfl rfl ?_
  refine jT_lald (x := 0) (a := 1) (j := 5) (fs := []) (X := [0, r7, r8, 0, 0, 0]) jIQ_39_16 rfl rfl rfl rfl ?_
  refine jT_eq (LN := [(4, (0, 5)), (2, (1, -r7 + r8)), (0, (4, 0)), (1, (4, 1))]) (stN := [(1, 0), (1, -r7 + r8)]) (hsN := [jgh, (101, [], [0, r7, r8, 0, 0, 0])]) rfl rfl rfl ?_
  refine jT_labs (z := 0) (by rfl) (by rfl) (by rfl) (by rfl) (by decide +kernel) ?_
  refine jT_xladd (x := -r7 + r8) (y := 0) (z := -r7 + r8) (pcN := 21) jIQ_39_20 rfl (by omega) rfl ?_
  refine jT_xlstore_n (v := (1, -r7 + r8)) (LN := [(2, (1, -r7 + r8)), (4, (0, 5)), (0, (4, 0)), (1, (4, 1))]) (pcN := 22) jIQ_39_21 rfl rfl rfl rfl ?_
  refine jT_xiinc (x := 5) (z := 6) (LN := [(4, (0, 6)), (2, (1, -r7 + r8)), (0, (4, 0)), (1, (4, 1))]) (pcN := 25) jIQ_39_22 rfl rfl (by decide) rfl rfl ?_
  refine jT_xgoto (pcN := 5) jIQ_39_25 rfl ?_
  refine jT_xiload (v := (0, 6)) (pcN := 7) jIQ_39_5 rfl rfl rfl ?_
  refine jT_xbipush (k := 6) (pcN := 9) jIQ_39_7 (by decide) rfl ?_
  refine jT_xicT (pcN := 28) jIQ_39_9 rfl (by decide +kernel) rfl ?_
  refine jT_xlload_n (v := (1, -r7 + r8)) (pcN := 29) jIQ_39_28 rfl rfl rfl ?_
  exact jT_ret rfl (by decide) (by show 2 ≤ 2; omega) (by omega) (by omega) ⟨rfl, rfl, rfl⟩
theorem jQ_40_53 {xs : List Int} {d : Nat} {r7 r8 : Int} (h_r7 : (-20) ≤ r7 ∧ r7 ≤ 20) (h_r8 : (-10) ≤ r8 ∧ r8 ≤ 10) (g_0 : r7 < 0) (g_1 : 0 ≤ r8) (g_2 : 108917793695 * r7 + 159561683699 * r8 < 0) : jT xs d 40 2 0 [(0, (4, 0)), (1, (4, 1)), (2, (1, -r7 + r8))] [] [jgh, (101, [], [0, r7, r8, 0, 0, 0])] 0 0 (fun k v hsN => k = 0 ∧ v = (0, 1) ∧ hsN = [jgh, (101, [], [0, r7, r8, 0, 0, 0])] ++ []) := by
  refine jT_xlload_n (v := (1, -r7 + r8)) (pcN := 1) jIQ_40_0 rfl rfl rfl ?_
  refine jT_adv 1 (pcN := 4) (LN := [(0, (4, 0)), (1, (4, 1)), (2, (1, -r7 + r8))]) (stN := [(1, 16777216), (1, -r7 + r8)]) (hsN := [jgh, (101, [], [0, r7, r8, 0, 0, 0])]) (c1 := 0) (s1 := 0) (c2 := 0) (s2 := 0) (by exact rfl) ?_ (by omega) (by omega)
  refine jT_lcmp (a := -r7 + r8) (b := 16777216) (z := (-1)) (by rfl) (by rfl) (jwl_idd (by omega) (by omega)) (jwl_idd (by omega) (by omega)) (by rw [decide_eq_false (show ¬ ((16777216 : Int) < -r7 + r8) by omega), decide_eq_false (show ¬ ((-r7 + r8 : Int) = 16777216) by omega)]; rfl) ?_
  refine jT_xifF (t := 25) (pcN := 8) jIQ_40_5 rfl (by decide +kernel) rfl rfl ?_
  refine jT_xaload_n (v := (4, 1)) (pcN := 9) jIQ_40_8 rfl rfl rfl ?_
  refine jT_xiconst (k := 0) (pcN := 10) jIQ_40_9 rfl ?_
  refine jT_lald (x := 0) (a := 1) (j := 0) (fs := []) (X := [0, r7, r8, 0, 0, 0]) jIQ_40_10 rfl rfl rfl rfl ?_
  refine jT_eq (LN := [(0, (4, 0)), (1, (4, 1)), (2, (1, -r7 + r8))]) (stN := [(1, 0)]) (hsN := [jgh, (101, [], [0, r7, r8, 0, 0, 0])]) rfl rfl rfl ?_
  refine jT_labs (z := 0) (by rfl) (by rfl) (by rfl) (by rfl) (by decide +kernel) ?_
  refine jT_adv 1 (pcN := 17) (LN := [(0, (4, 0)), (1, (4, 1)), (2, (1, -r7 + r8))]) (stN := [(1, 16777216), (1, 0)]) (hsN := [jgh, (101, [], [0, r7, r8, 0, 0, 0])]) (c1 := 0) (s1 := 0) (c2 := 0) (s2 := 0) (by exact rfl) ?_ (by omega) (by omega)
  refine jT_lcmp (a := 0) (b := 16777216) (z := (-1)) (by rfl) (by rfl) (by decide +kernel) (by decide +kernel) (by decide) ?_
  refine jT_xifF (t := 25) (pcN := 21) jIQ_40_18 rfl (by decide +kernel) rfl rfl ?_
  refine jT_xiconst (k := 1) (pcN := 22) jIQ_40_21 rfl ?_
  refine jT_xgoto (pcN := 26) jIQ_40_22 rfl ?_
  exact jT_ret rfl (by decide) (by show 2 ≤ 2; omega) (by omega) (by omega) ⟨rfl, rfl, rfl⟩
theorem jQ_41_54 {xs : List Int} {d : Nat} {r7 r8 : Int} (h_r7 : (-20) ≤ r7 ∧ r7 ≤ 20) (h_r8 : (-10) ≤ r8 ∧ r8 ≤ 10) (g_0 : r7 < 0) (g_1 : 0 ≤ r8) (g_2 : 108917793695 * r7 + 159561683699 * r8 < 0) : jT xs d 41 2 0 [(0, (4, 0)), (1, (4, 1))] [] [jgh, (101, [], [0, r7, r8, 0, 0, 0])] 0 0 (fun k v hsN => k = 0 ∧ v = (1, 108917793695 * r7 + 159561683699 * r8) ∧ hsN = [jgh, (101, [], [0, r7, r8, 0, 0, 0])] ++ []) := by
  refine jT_xlconst (z := 0) (pcN := 1) jIQ_41_0 rfl rfl ?_
  refine jT_xlstore_n (v := (1, 0)) (LN := [(2, (1, 0)), (0, (4, 0)), (1, (4, 1))]) (pcN := 2) jIQ_41_1 rfl rfl rfl rfl ?_
  refine jT_xiconst (k := 0) (pcN := 3) jIQ_41_2 rfl ?_
  refine jT_xistore (v := (0, 0)) (LN := [(4, (0, 0)), (2, (1, 0)), (0, (4, 0)), (1, (4, 1))]) (pcN := 5) jIQ_41_3 rfl rfl rfl rfl ?_
  refine jT_xiload (v := (0, 0)) (pcN := 7) jIQ_41_5 rfl rfl rfl ?_
  refine jT_xbipush (k := 6) (pcN := 9) jIQ_41_7 (by decide) rfl ?_
  refine jT_xicF (t := 32) (pcN := 12) jIQ_41_9 rfl (by decide +kernel) rfl rfl ?_
  refine jT_xlload_n (v := (1, 0)) (pcN := 13) jIQ_41_12 rfl rfl rfl ?_
  refine jT_xaload_n (v := (4, 1)) (pcN := 14) jIQ_41_13 rfl rfl rfl ?_
  refine jT_xiload (v := (0, 0)) (pcN := 16) jIQ_41_14 rfl rfl rfl ?_
  refine jT_lald (x := 0) (a := 1) (j := 0) (fs := []) (X := [0, r7, r8, 0, 0, 0]) jIQ_41_16 rfl rfl rfl rfl ?_
  refine jT_eq (LN := [(4, (0, 0)), (2, (1, 0)), (0, (4, 0)), (1, (4, 1))]) (stN := [(1, 0), (1, 0)]) (hsN := [jgh, (101, [], [0, r7, r8, 0, 0, 0])]) rfl rfl rfl ?_
  refine jT_adv 1 (pcN := 20) (LN := [(4, (0, 0)), (2, (1, 0)), (0, (4, 0)), (1, (4, 1))]) (stN := [(5, 0), (1, 0), (1, 0)]) (hsN := [jgh, (101, [], [0, r7, r8, 0, 0, 0])]) (c1 := 0) (s1 := 0) (c2 := 0) (s2 := 0) (by exact rfl) ?_ (by omega) (by omega)
  refine jT_xiload (v := (0, 0)) (pcN := 22) jIQ_41_20 rfl rfl rfl ?_
  refine jT_adv 1 (pcN := 23) (LN := [(4, (0, 0)), (2, (1, 0)), (0, (4, 0)), (1, (4, 1))]) (stN := [(1, 68719476736), (1, 0), (1, 0)]) (hsN := [jgh, (101, [], [0, r7, r8, 0, 0, 0])]) (c1 := 0) (s1 := 0) (c2 := 0) (s2 := 0) (by exact rfl) ?_ (by omega) (by omega)
  refine jT_xlmul (x := 0) (y := 68719476736) (z := 0) (pcN := 24) jIQ_41_23 rfl (by decide) rfl ?_
  refine jT_xladd (x := 0) (y := 0) (z := 0) (pcN := 25) jIQ_41_24 rfl (by decide) rfl ?_
  refine jT_xlstore_n (v := (1, 0)) (LN := [(2, (1, 0)), (4, (0, 0)), (0, (4, 0)), (1, (4, 1))]) (pcN := 26) jIQ_41_25 rfl rfl rfl rfl ?_
  refine jT_xiinc (x := 0) (z := 1) (LN := [(4, (0, 1)), (2, (1, 0)), (0, (4, 0)), (1, (4, 1))]) (pcN := 29) jIQ_41_26 rfl rfl (by decide) rfl rfl ?_
  refine jT_xgoto (pcN := 5) jIQ_41_29 rfl ?_
  refine jT_xiload (v := (0, 1)) (pcN := 7) jIQ_41_5 rfl rfl rfl ?_
  refine jT_xbipush (k := 6) (pcN := 9) jIQ_41_7 (by decide) rfl ?_
  refine jT_xicF (t := 32) (pcN := 12) jIQ_41_9 rfl (by decide +kernel) rfl rfl ?_
  refine jT_xlload_n (v := (1, 0)) (pcN := 13) jIQ_41_12 rfl rfl rfl ?_
  refine jT_xaload_n (v := (4, 1)) (pcN := 14) jIQ_41_13 rfl rfl rfl ?_
  refine jT_xiload (v := (0, 1)) (pcN := 16) jIQ_41_14 rfl rfl rfl ?_
  refine jT_lald (x := r7) (a := 1) (j := 1) (fs := []) (X := [0, r7, r8, 0, 0, 0]) jIQ_41_16 rfl rfl rfl rfl ?_
  refine jT_eq (LN := [(4, (0, 1)), (2, (1, 0)), (0, (4, 0)), (1, (4, 1))]) (stN := [(1, r7), (1, 0)]) (hsN := [jgh, (101, [], [0, r7, r8, 0, 0, 0])]) rfl rfl rfl ?_
  refine jT_adv 1 (pcN := 20) (LN := [(4, (0, 1)), (2, (1, 0)), (0, (4, 0)), (1, (4, 1))]) (stN := [(5, 0), (1, r7), (1, 0)]) (hsN := [jgh, (101, [], [0, r7, r8, 0, 0, 0])]) (c1 := 0) (s1 := 0) (c2 := 0) (s2 := 0) (by exact rfl) ?_ (by omega) (by omega)
  refine jT_xiload (v := (0, 1)) (pcN := 22) jIQ_41_20 rfl rfl rfl ?_
  refine jT_adv 1 (pcN := 23) (LN := [(4, (0, 1)), (2, (1, 0)), (0, (4, 0)), (1, (4, 1))]) (stN := [(1, 108917793695), (1, r7), (1, 0)]) (hsN := [jgh, (101, [], [0, r7, r8, 0, 0, 0])]) (c1 := 0) (s1 := 0) (c2 := 0) (s2 := 0) (by exact rfl) ?_ (by omega) (by omega)
  refine jT_xlmul (x := r7) (y := 108917793695) (z := 108917793695 * r7) (pcN := 24) jIQ_41_23 rfl (by omega) rfl ?_
  refine jT_xladd (x := 0) (y := 108917793695 * r7) (z := 108917793695 * r7) (pcN := 25) jIQ_41_24 rfl (by omega) rfl ?_
  refine jT_xlstore_n (v := (1, 108917793695 * r7)) (LN := [(2, (1, 108917793695 * r7)), (4, (0, 1)), (0, (4, 0)), (1, (4, 1))]) (pcN := 26) jIQ_41_25 rfl rfl rfl rfl ?_
  refine jT_xiinc (x := 1) (z := 2) (LN := [(4, (0, 2)), (2, (1, 108917793695 * r7)), (0, (4, 0)), (1, (4, 1))]) (pcN := 29) jIQ_41_26 rfl rfl (by decide) rfl rfl ?_
  refine jT_xgoto (pcN := 5) jIQ_41_29 rfl ?_
  refine jT_xiload (v := (0, 2)) (pcN := 7) jIQ_41_5 rfl rfl rfl ?_
  refine jT_xbipush (k := 6) (pcN := 9) jIQ_41_7 (by decide) rfl ?_
  refine jT_xicF (t := 32) (pcN := 12) jIQ_41_9 rfl (by decide +kernel) rfl rfl ?_
  refine jT_xlload_n (v := (1, 108917793695 * r7)) (pcN := 13) jIQ_41_12 rfl rfl rfl ?_
  refine jT_xaload_n (v := (4, 1)) (pcN := 14) jIQ_41_13 rfl rfl rfl ?_
  refine jT_xiload (v := (0, 2)) (pcN := 16) jIQ_41_14 rfl rfl rfl ?_
  refine jT_lald (x := r8) (a := 1) (j := 2) (fs := []) (X := [0, r7, r8, 0, 0, 0]) jIQ_41_16 rfl rfl rfl rfl ?_
  refine jT_eq (LN := [(4, (0, 2)), (2, (1, 108917793695 * r7)), (0, (4, 0)), (1, (4, 1))]) (stN := [(1, r8), (1, 108917793695 * r7)]) (hsN := [jgh, (101, [], [0, r7, r8, 0, 0, 0])]) rfl rfl rfl ?_
  refine jT_adv 1 (pcN := 20) (LN := [(4, (0, 2)), (2, (1, 108917793695 * r7)), (0, (4, 0)), (1, (4, 1))]) (stN := [(5, 0), (1, r8), (1, 108917793695 * r7)]) (hsN := [jgh, (101, [], [0, r7, r8, 0, 0, 0])]) (c1 := 0) (s1 := 0) (c2 := 0) (s2 := 0) (by exact rfl) ?_ (by omega) (by omega)
  refine jT_xiload (v := (0, 2)) (pcN := 22) jIQ_41_20 rfl rfl rfl ?_
  refine jT_adv 1 (pcN := 23) (LN := [(4, (0, 2)), (2, (1, 108917793695 * r7)), (0, (4, 0)), (1, (4, 1))]) (stN := [(1, 159561683699), (1, r8), (1, 108917793695 * r7)]) (hsN := [jgh, (101, [], [0, r7, r8, 0, 0, 0])]) (c1 := 0) (s1 := 0) (c2 := 0) (s2 := 0) (by exact rfl) ?_ (by omega) (by omega)
  refine jT_xlmul (x := r8) (y := 159561683699) (z := 159561683699 * r8) (pcN := 24) jIQ_41_23 rfl (by omega) rfl ?_
  refine jT_xladd (x := 108917793695 * r7) (y := 159561683699 * r8) (z := 108917793695 * r7 + 159561683699 * r8) (pcN := 25) jIQ_41_24 rfl (by omega) rfl ?_
  refine jT_xlstore_n (v := (1, 108917793695 * r7 + 159561683699 * r8)) (LN := [(2, (1, 108917793695 * r7 + 159561683699 * r8)), (4, (0, 2)), (0, (4, 0)), (1, (4, 1))]) (pcN := 26) jIQ_41_25 rfl rfl rfl rfl ?_
  refine jT_xiinc (x := 2) (z := 3) (LN := [(4, (0, 3)), (2, (1, 108917793695 * r7 + 159561683699 * r8)), (0, (4, 0)), (1, (4, 1))]) (pcN := 29) jIQ_41_26 rfl rfl (by decide) rfl rfl ?_
  refine jT_xgoto (pcN := 5) jIQ_41_29 rfl ?_
  refine jT_xiload (v := (0, 3)) (pcN := 7) jIQ_41_5 rfl rfl rfl ?_
  refine jT_xbipush (k := 6) (pcN := 9) jIQ_41_7 (by decide) rfl ?_
  refine jT_xicF (t := 32) (pcN := 12) jIQ_41_9 rfl (by decide +kernel) rfl rfl ?_
  refine jT_xlload_n (v := (1, 108917793695 * r7 + 159561683699 * r8)) (pcN := 13) jIQ_41_12 rfl rfl rfl ?_
  refine jT_xaload_n (v := (4, 1)) (pcN := 14) jIQ_41_13 rfl rfl rfl ?_
  refine jT_xiload (v := (0, 3)) (pcN := 16) jIQ_41_14 rfl rfl rfl ?_
  refine jT_lald (x := 0) (a := 1) (j := 3) (fs := []) (X := [0, r7, r8, 0, 0, 0]) jIQ_41_16 rfl rfl rfl rfl ?_
  refine jT_eq (LN := [(4, (0, 3)), (2, (1, 108917793695 * r7 + 159561683699 * r8)), (0, (4, 0)), (1, (4, 1))]) (stN := [(1, 0), (1, 108917793695 * r7 + 159561683699 * r8)]) (hsN := [jgh, (101, [], [0, r7, r8, 0, 0, 0])]) rfl rfl rfl ?_
  refine jT_adv 1 (pcN := 20) (LN := [(4, (0, 3)), (2, (1, 108917793695 * r7 + 159561683699 * r8)), (0, (4, 0)), (1, (4, 1))]) (stN := [(5, 0), (1, 0), (1, 108917793695 * r7 + 159561683699 * r8)]) (hsN := [jgh, (101, [], [0, r7, r8, 0, 0, 0])]) (c1 := 0) (s1 := 0) (c2 := 0) (s2 := 0) (by exact rfl) ?_ (by omega) (by omega)
  refine jT_xiload (v := (0, 3)) (pcN := 22) jIQ_41_20 rfl rfl rfl ?_
  refine jT_adv 1 (pcN := 23) (LN := [(4, (0, 3)), (2, (1, 108917793695 * r7 + 159561683699 * r8)), (0, (4, 0)), (1, (4, 1))]) (stN := [(1, 192919961256), (1, 0), (1, 108917793695 * r7 + 159561683699 * r8)]) (hsN := [jgh, (101, [], [0, r7, r8, 0, 0, 0])]) (c1 := 0) (s1 := 0) (c2 := 0) (s2 := 0) (by exact rfl) ?_ (by omega) (by omega)
  refine jT_xlmul (x := 0) (y := 192919961256) (z := 0) (pcN := 24) jIQ_41_23 rfl (by decide) rfl ?_
  refine jT_xladd (x := 108917793695 * r7 + 159561683699 * r8) (y := 0) (z := 108917793695 * r7 + 159561683699 * r8) (pcN := 25) jIQ_41_24 rfl (by omega) rfl ?_
  refine jT_xlstore_n (v := (1, 108917793695 * r7 + 159561683699 * r8)) (LN := [(2, (1, 108917793695 * r7 + 159561683699 * r8)), (4, (0, 3)), (0, (4, 0)), (1, (4, 1))]) (pcN := 26) jIQ_41_25 rfl rfl rfl rfl ?_
  refine jT_xiinc (x := 3) (z := 4) (LN := [(4, (0, 4)), (2, (1, 108917793695 * r7 + 159561683699 * r8)), (0, (4, 0)), (1, (4, 1))]) (pcN := 29) jIQ_41_26 rfl rfl (by decide) rfl rfl ?_
  refine jT_xgoto (pcN := 5) jIQ_41_29 rfl ?_
  refine jT_xiload (v := (0, 4)) (pcN := 7) jIQ_41_5 rfl rfl rfl ?_
  refine jT_xbipush (k := 6) (pcN := 9) jIQ_41_7 (by decide) rfl ?_
  refine jT_xicF (t := 32) (pcN := 12) jIQ_41_9 rfl (by decide +kernel) rfl rfl ?_
  refine jT_xlload_n (v := (1, 108917793695 * r7 + 159561683699 * r8)) (pcN := 13) jIQ_41_12 rfl rfl rfl ?_
  refine jT_xaload_n (v := (4, 1)) (pcN := 14) jIQ_41_13 rfl rfl rfl ?_
  refine jT_xiload (v := (0, 4)) (pcN := 16) jIQ_41_14 rfl rfl rfl ?_
  refine jT_lald (x := 0) (a := 1) (j := 4) (fs := []) (X := [0, r7, r8, 0, 0, 0]) jIQ_41_16 rfl rfl rfl rfl ?_
  refine jT_eq (LN := [(4, (0, 4)), (2, (1, 108917793695 * r7 + 159561683699 * r8)), (0, (4, 0)), (1, (4, 1))]) (stN := [(1, 0), (1, 108917793695 * r7 + 159561683699 * r8)]) (hsN := [jgh, (101, [], [0, r7, r8, 0, 0, 0])]) rfl rfl rfl ?_
  refine jT_adv 1 (pcN := 20) (LN := [(4, (0, 4)), (2, (1, 108917793695 * r7 + 159561683699 * r8)), (0, (4, 0)), (1, (4, 1))]) (stN := [(5, 0), (1, 0), (1, 108917793695 * r7 + 159561683699 * r8)]) (hsN := [jgh, (101, [], [0, r7, r8, 0, 0, 0])]) (c1 := 0) (s1 := 0) (c2 := 0) (s2 := 0) (by exact rfl) ?_ (by omega) (by omega)
  refine jT_xiload (v := (0, 4)) (pcN := 22) jIQ_41_20 rfl rfl rfl ?_
  refine jT_adv 1 (pcN := 23) (LN := [(4, (0, 4)), (2, (1, 108917793695 * r7 + 159561683699 * r8)), (0, (4, 0)), (1, (4, 1))]) (stN := [(1, 237730330636), (1, 0), (1, 108917793695 * r7 + 159561683699 * r8)]) (hsN := [jgh, (101, [], [0, r7, r8, 0, 0, 0])]) (c1 := 0) (s1 := 0) (c2 := 0) (s2 := 0) (by exact rfl) ?_ (by omega) (by omega)
  refine jT_xlmul (x := 0) (y := 237730330636) (z := 0) (pcN := 24) jIQ_41_23 rfl (by decide) rfl ?_
  refine jT_xladd (x := 108917793695 * r7 + 159561683699 * r8) (y := 0) (z := 108917793695 * r7 + 159561683699 * r8) (pcN := 25) jIQ_41_24 rfl (by omega) rfl ?_
  refine jT_xlstore_n (v := (1, 108917793695 * r7 + 159561683699 * r8)) (LN := [(2, (1, 108917793695 * r7 + 159561683699 * r8)), (4, (0, 4)), (0, (4, 0)), (1, (4, 1))]) (pcN := 26) jIQ_41_25 rfl rfl rfl rfl ?_
  refine jT_xiinc (x := 4) (z := 5) (LN := [(4, (0, 5)), (2, (1, 108917793695 * r7 + 159561683699 * r8)), (0, (4, 0)), (1, (4, 1))]) (pcN := 29) jIQ_41_26 rfl rfl (by decide) rfl rfl ?_
  refine jT_xgoto (pcN := 5) jIQ_41_29 rfl ?_
  refine jT_xiload (v := (0, 5)) (pcN := 7) jIQ_41_5 rfl rfl rfl ?_
  refine jT_xbipush (k := 6) (pcN := 9) jIQ_41_7 (by decide) rfl ?_
  refine jT_xicF (t := 32) (pcN := 12) jIQ_41_9 rfl (by decide +kernel) rfl rfl ?_
  refine jT_xlload_n (v := (1, 108917793695 * r7 + 159561683699 * r8)) (pcN := 13) jIQ_41_12 rfl rfl rfl ?_
  refine jT_xaload_n (v := (4, 1)) (pcN := 14) jIQ_41_13 rfl rfl rfl ?_
  refine jT_xiload (v := (0, 5)) (pcN := 16) jIQ_41_14 rfl rfl rfl ?_
  refine jT_lald (x := 0) (a := 1) (j := 5) (fs := []) (X := [0, r7, r8, 0, 0, 0]) jIQ_41_16 rfl rfl rfl rfl ?_
  refine jT_eq (LN := [(4, (0, 5)), (2, (1, 108917793695 * r7 + 159561683699 * r8)), (0, (4, 0)), (1, (4, 1))]) (stN := [(1, 0), (1, 108917793695 * r7 + 159561683699 * r8)]) (hsN := [jgh, (101, [], [0, r7, r8, 0, 0, 0])]) rfl rfl rfl ?_
  refine jT_adv 1 (pcN := 20) (LN := [(4, (0, 5)), (2, (1, 108917793695 * r7 + 159561683699 * r8)), (0, (4, 0)), (1, (4, 1))]) (stN := [(5, 0), (1, 0), (1, 108917793695 * r7 + 159561683699 * r8)]) (hsN := [jgh, (101, [], [0, r7, r8, 0, 0, 0])]) (c1 := 0) (s1 := 0) (c2 := 0) (s2 := 0) (by exact rfl) ?_ (by omega) (by omega)
  refine jT_xiload (v := (0, 5)) (pcN := 22) jIQ_41_20 rfl rfl rfl ?_
  refine jT_adv 1 (pcN := 23) (LN := [(4, (0, 5)), (2, (1, 108917793695 * r7 + 159561683699 * r8)), (0, (4, 0)), (1, (4, 1))]) (stN := [(1, 254292281123), (1, 0), (1, 108917793695 * r7 + 159561683699 * r8)]) (hsN := [jgh, (101, [], [0, r7, r8, 0, 0, 0])]) (c1 := 0) (s1 := 0) (c2 := 0) (s2 := 0) (by exact rfl) ?_ (by omega) (by omega)
  refine jT_xlmul (x := 0) (y := 254292281123) (z := 0) (pcN := 24) jIQ_41_23 rfl (by decide) rfl ?_
  refine jT_xladd (x := 108917793695 * r7 + 159561683699 * r8) (y := 0) (z := 108917793695 * r7 + 159561683699 * r8) (pcN := 25) jIQ_41_24 rfl (by omega) rfl ?_
  refine jT_xlstore_n (v := (1, 108917793695 * r7 + 159561683699 * r8)) (LN := [(2, (1, 108917793695 * r7 + 159561683699 * r8)), (4, (0, 5)), (0, (4, 0)), (1, (4, 1))]) (pcN := 26) jIQ_41_25 rfl rfl rfl rfl ?_
  refine jT_xiinc (x := 5) (z := 6) (LN := [(4, (0, 6)), (2, (1, 108917793695 * r7 + 159561683699 * r8)), (0, (4, 0)), (1, (4, 1))]) (pcN := 29) jIQ_41_26 rfl rfl (by decide) rfl rfl ?_
  refine jT_xgoto (pcN := 5) jIQ_41_29 rfl ?_
  refine jT_xiload (v := (0, 6)) (pcN := 7) jIQ_41_5 rfl rfl rfl ?_
  refine jT_xbipush (k := 6) (pcN := 9) jIQ_41_7 (by decide) rfl ?_
  refine jT_xicT (pcN := 32) jIQ_41_9 rfl (by decide +kernel) rfl ?_
  refine jT_xlload_n (v := (1, 108917793695 * r7 + 159561683699 * r8)) (pcN := 33) jIQ_41_32 rfl rfl rfl ?_
  exact jT_ret rfl (by decide) (by show 2 ≤ 2; omega) (by omega) (by omega) ⟨rfl, rfl, rfl⟩
theorem jQ_39_55 {xs : List Int} {d : Nat} {r7 r8 : Int} (h_r7 : (-20) ≤ r7 ∧ r7 ≤ 20) (h_r8 : (-10) ≤ r8 ∧ r8 ≤ 10) (g_0 : r7 < 0) (g_1 : 0 ≤ r8) (g_2 : 0 ≤ 108917793695 * r7 + 159561683699 * r8) : jT xs d 39 2 0 [(0, (4, 0)), (1, (4, 1))] [] [jgh, (101, [], [0, r7, r8, 0, 0, 0])] 0 0 (fun k v hsN => k = 0 ∧ v = (1, -r7 + r8) ∧ hsN = [jgh, (101, [], [0, r7, r8, 0, 0, 0])] ++ []) := by
  refine jT_xlconst (z := 0) (pcN := 1) jIQ_39_0 rfl rfl ?_
  refine jT_xlstore_n (v := (1, 0)) (LN := [(2, (1, 0)), (0, (4, 0)), (1, (4, 1))]) (pcN := 2) jIQ_39_1 rfl rfl rfl rfl ?_
  refine jT_xiconst (k := 1) (pcN := 3) jIQ_39_2 rfl ?_
  refine jT_xistore (v := (0, 1)) (LN := [(4, (0, 1)), (2, (1, 0)), (0, (4, 0)), (1, (4, 1))]) (pcN := 5) jIQ_39_3 rfl rfl rfl rfl ?_
  refine jT_xiload (v := (0, 1)) (pcN := 7) jIQ_39_5 rfl rfl rfl ?_
  refine jT_xbipush (k := 6) (pcN := 9) jIQ_39_7 (by decide) rfl ?_
  refine jT_xicF (t := 28) (pcN := 12) jIQ_39_9 rfl (by decide +kernel) rfl rfl ?_
  refine jT_xlload_n (v := (1, 0)) (pcN := 13) jIQ_39_12 rfl rfl rfl ?_
  refine jT_xaload_n (v := (4, 1)) (pcN := 14) jIQ_39_13 rfl rfl rfl ?_
  refine jT_xiload (v := (0, 1)) (pcN := 16) jIQ_39_14 rfl rfl rfl ?_
  refine jT_lald (x := r7) (a := 1) (j := 1) (fs := []) (X := [0, r7, r8, 0, 0, 0]) jIQ_39_16 rfl rfl rfl rfl ?_
  refine jT_eq (LN := [(4, (0, 1)), (2, (1, 0)), (0, (4, 0)), (1, (4, 1))]) (stN := [(1, r7), (1, 0)]) (hsN := [jgh, (101, [], [0, r7, r8, 0, 0, 0])]) rfl rfl rfl ?_
  refine jT_labs (z := -r7) (by rfl) (by rfl) (by rfl) (by rfl) (by rw [show jwl (r7) = r7 from jwl_idd (by omega) (by omega), decide_eq_true (by omega)]; first | (simp only [cond_true, cond_false]; done) | (simp only [cond_true, cond_false]; omega) | rfl) ?_
  refine jT_xladd (x := 0) (y := -r7) (z := -r7) (pcN := 21) jIQ_39_20 rfl (by omega) rfl ?_
  refine jT_xlstore_n (v := (1, -r7)) (LN := [(2, (1, -r7)), (4, (0, 1)), (0, (4, 0)), (1, (4, 1))]) (pcN := 22) jIQ_39_21 rfl rfl rfl rfl ?_
  refine jT_xiinc (x := 1) (z := 2) (LN := [(4, (0, 2)), (2, (1, -r7)), (0, (4, 0)), (1, (4, 1))]) (pcN := 25) jIQ_39_22 rfl rfl (by decide) rfl rfl ?_
  refine jT_xgoto (pcN := 5) jIQ_39_25 rfl ?_
  refine jT_xiload (v := (0, 2)) (pcN := 7) jIQ_39_5 rfl rfl rfl ?_
  refine jT_xbipush (k := 6) (pcN := 9) jIQ_39_7 (by decide) rfl ?_
  refine jT_xicF (t := 28) (pcN := 12) jIQ_39_9 rfl (by decide +kernel) rfl rfl ?_
  refine jT_xlload_n (v := (1, -r7)) (pcN := 13) jIQ_39_12 rfl rfl rfl ?_
  refine jT_xaload_n (v := (4, 1)) (pcN := 14) jIQ_39_13 rfl rfl rfl ?_
  refine jT_xiload (v := (0, 2)) (pcN := 16) jIQ_39_14 rfl rfl rfl ?_
  refine jT_lald (x := r8) (a := 1) (j := 2) (fs := []) (X := [0, r7, r8, 0, 0, 0]) jIQ_39_16 rfl rfl rfl rfl ?_
  refine jT_eq (LN := [(4, (0, 2)), (2, (1, -r7)), (0, (4, 0)), (1, (4, 1))]) (stN := [(1, r8), (1, -r7)]) (hsN := [jgh, (101, [], [0, r7, r8, 0, 0, 0])]) rfl rfl rfl ?_
  refine jT_labs (z := r8) (by rfl) (by rfl) (by rfl) (by rfl) (by rw [show jwl (r8) = r8 from jwl_idd (by omega) (by omega), decide_eq_false (by omega)]; first | (simp only [cond_true, cond_false]; done) | (simp only [cond_true, cond_false]; omega) | rfl) ?_
  refine jT_xladd (x := -r7) (y := r8) (z := -r7 + r8) (pcN := 21) jIQ_39_20 rfl (by omega) rfl ?_
  refine jT_xlstore_n (v := (1, -r7 + r8)) (LN := [(2, (1, -r7 + r8)), (4, (0, 2)), (0, (4, 0)), (1, (4, 1))]) (pcN := 22) jIQ_39_21 rfl rfl rfl rfl ?_
  refine jT_xiinc (x := 2) (z := 3) (LN := [(4, (0, 3)), (2, (1, -r7 + r8)), (0, (4, 0)), (1, (4, 1))]) (pcN := 25) jIQ_39_22 rfl rfl (by decide) rfl rfl ?_
  refine jT_xgoto (pcN := 5) jIQ_39_25 rfl ?_
  refine jT_xiload (v := (0, 3)) (pcN := 7) jIQ_39_5 rfl rfl rfl ?_
  refine jT_xbipush (k := 6) (pcN := 9) jIQ_39_7 (by decide) rfl ?_
  refine jT_xicF (t := 28) (pcN := 12) jIQ_39_9 rfl (by decide +kernel) rfl rfl ?_
  refine jT_xlload_n (v := (1, -r7 + r8)) (pcN := 13) jIQ_39_12 rfl rfl rfl ?_
  refine jT_xaload_n (v := (4, 1)) (pcN := 14) jIQ_39_13 rfl rfl rfl ?_
  refine jT_xiload (v := (0, 3)) (pcN := 16) jIQ_39_14 rfl rfl rfl ?_
  refine jT_lald (x := 0) (a := 1) (j := 3) (fs := []) (X := [0, r7, r8, 0, 0, 0]) jIQ_39_16 rfl rfl rfl rfl ?_
  refine jT_eq (LN := [(4, (0, 3)), (2, (1, -r7 + r8)), (0, (4, 0)), (1, (4, 1))]) (stN := [(1, 0), (1, -r7 + r8)]) (hsN := [jgh, (101, [], [0, r7, r8, 0, 0, 0])]) rfl rfl rfl ?_
  refine jT_labs (z := 0) (by rfl) (by rfl) (by rfl) (by rfl) (by decide +kernel) ?_
  refine jT_xladd (x := -r7 + r8) (y := 0) (z := -r7 + r8) (pcN := 21) jIQ_39_20 rfl (by omega) rfl ?_
  refine jT_xlstore_n (v := (1, -r7 + r8)) (LN := [(2, (1, -r7 + r8)), (4, (0, 3)), (0, (4, 0)), (1, (4, 1))]) (pcN := 22) jIQ_39_21 rfl rfl rfl rfl ?_
  refine jT_xiinc (x := 3) (z := 4) (LN := [(4, (0, 4)), (2, (1, -r7 + r8)), (0, (4, 0)), (1, (4, 1))]) (pcN := 25) jIQ_39_22 rfl rfl (by decide) rfl rfl ?_
  refine jT_xgoto (pcN := 5) jIQ_39_25 rfl ?_
  refine jT_xiload (v := (0, 4)) (pcN := 7) jIQ_39_5 rfl rfl rfl ?_
  refine jT_xbipush (k := 6) (pcN := 9) jIQ_39_7 (by decide) rfl ?_
  refine jT_xicF (t := 28) (pcN := 12) jIQ_39_9 rfl (by decide +kernel) rfl rfl ?_
  refine jT_xlload_n (v := (1, -r7 + r8)) (pcN := 13) jIQ_39_12 rfl rfl rfl ?_
  refine jT_xaload_n (v := (4, 1)) (pcN := 14) jIQ_39_13 rfl rfl rfl ?_
  refine jT_xiload (v := (0, 4)) (pcN := 16) jIQ_39_14 rfl rfl rfl ?_
  refine jT_lald (x := 0) (a := 1) (j := 4) (fs := []) (X := [0, r7, r8, 0, 0, 0]) jIQ_39_16 rfl rfl rfl rfl ?_
  refine jT_eq (LN := [(4, (0, 4)), (2, (1, -r7 + r8)), (0, (4, 0)), (1, (4, 1))]) (stN := [(1, 0), (1, -r7 + r8)]) (hsN := [jgh, (101, [], [0, r7, r8, 0, 0, 0])]) rfl rfl rfl ?_
  refine jT_labs (z := 0) (by rfl) (by rfl) (by rfl) (by rfl) (by decide +kernel) ?_
  refine jT_xladd (x := -r7 + r8) (y := 0) (z := -r7 + r8) (pcN := 21) jIQ_39_20 rfl (by omega) rfl ?_
  refine jT_xlstore_n (v := (1, -r7 + r8)) (LN := [(2, (1, -r7 + r8)), (4, (0, 4)), (0, (4, 0)), (1, (4, 1))]) (pcN := 22) jIQ_39_21 rfl rfl rfl rfl ?_
  refine jT_xiinc (x := 4) (z := 5) (LN := [(4, (0, 5)), (2, (1, -r7 + r8)), (0, (4, 0)), (1, (4, 1))]) (pcN := 25) jIQ_39_22 rfl rfl (by decide) rfl rfl ?_
  refine jT_xgoto (pcN := 5) jIQ_39_25 rfl ?_
  refine jT_xiload (v := (0, 5)) (pcN := 7) jIQ_39_5 rfl rfl rfl ?_
  refine jT_xbipush (k := 6) (pcN := 9) jIQ_39_7 (by decide) rfl ?_
  refine jT_xicF (t := 28) (pcN := 12) jIQ_39_9 rfl (by decide +kernel) rfl rfl ?_
  refine jT_xlload_n (v := (1, -r7 + r8)) (pcN := 13) jIQ_39_12 rfl rfl rfl ?_
  refine jT_xaload_n (v := (4, 1)) (pcN := 14) jIQ_39_13 rfl rfl rfl ?_
  refine jT_xiload (v := (0, 5)) (pcN := 16) jIQ_39_14 rfl rfl rfl ?_
  refine jT_lald (x := 0) (a := 1) (j := 5) (fs := []) (X := [0, r7, r8, 0, 0, 0]) jIQ_39_16 rfl rfl rfl rfl ?_
  refine jT_eq (LN := [(4, (0, 5)), (2, (1, -r7 + r8)), (0, (4, 0)), (1, (4, 1))]) (stN := [(1, 0), (1, -r7 + r8)]) (hsN := [jgh, (101, [], [0, r7, r8, 0, 0, 0])]) rfl rfl rfl ?_
  refine jT_labs (z := 0) (by rfl) (by rfl) (by rfl) (by rfl) (by decide +kernel) ?_
  refine jT_xladd (x := -r7 + r8) (y := 0) (z := -r7 + r8) (pcN := 21) jIQ_39_20 rfl (by omega) rfl ?_
  refine jT_xlstore_n (v := (1, -r7 + r8)) (LN := [(2, (1, -r7 + r8)), (4, (0, 5)), (0, (4, 0)), (1, (4, 1))]) (pcN := 22) jIQ_39_21 rfl rfl rfl rfl ?_
  refine jT_xiinc (x := 5) (z := 6) (LN := [(4, (0, 6)), (2, (1, -r7 + r8)), (0, (4, 0)), (1, (4, 1))]) (pcN := 25) jIQ_39_22 rfl rfl (by decide) rfl rfl ?_
  refine jT_xgoto (pcN := 5) jIQ_39_25 rfl ?_
  refine jT_xiload (v := (0, 6)) (pcN := 7) jIQ_39_5 rfl rfl rfl ?_
  refine jT_xbipush (k := 6) (pcN := 9) jIQ_39_7 (by decide) rfl ?_
  refine jT_xicT (pcN := 28) jIQ_39_9 rfl (by decide +kernel) rfl ?_
  refine jT_xlload_n (v := (1, -r7 + r8)) (pcN := 29) jIQ_39_28 rfl rfl rfl ?_
  exact jT_ret rfl (by decide) (by show 2 ≤ 2; omega) (by omega) (by omega) ⟨rfl, rfl, rfl⟩
theorem jQ_40_56 {xs : List Int} {d : Nat} {r7 r8 : Int} (h_r7 : (-20) ≤ r7 ∧ r7 ≤ 20) (h_r8 : (-10) ≤ r8 ∧ r8 ≤ 10) (g_0 : r7 < 0) (g_1 : 0 ≤ r8) (g_2 : 0 ≤ 108917793695 * r7 + 159561683699 * r8) : jT xs d 40 2 0 [(0, (4, 0)), (1, (4, 1)), (2, (1, -r7 + r8))] [] [jgh, (101, [], [0, r7, r8, 0, 0, 0])] 0 0 (fun k v hsN => k = 0 ∧ v = (0, 1) ∧ hsN = [jgh, (101, [], [0, r7, r8, 0, 0, 0])] ++ []) := by
  refine jT_xlload_n (v := (1, -r7 + r8)) (pcN := 1) jIQ_40_0 rfl rfl rfl ?_
  refine jT_adv 1 (pcN := 4) (LN := [(0, (4, 0)), (1, (4, 1)), (2, (1, -r7 + r8))]) (stN := [(1, 16777216), (1, -r7 + r8)]) (hsN := [jgh, (101, [], [0, r7, r8, 0, 0, 0])]) (c1 := 0) (s1 := 0) (c2 := 0) (s2 := 0) (by exact rfl) ?_ (by omega) (by omega)
  refine jT_lcmp (a := -r7 + r8) (b := 16777216) (z := (-1)) (by rfl) (by rfl) (jwl_idd (by omega) (by omega)) (jwl_idd (by omega) (by omega)) (by rw [decide_eq_false (show ¬ ((16777216 : Int) < -r7 + r8) by omega), decide_eq_false (show ¬ ((-r7 + r8 : Int) = 16777216) by omega)]; rfl) ?_
  refine jT_xifF (t := 25) (pcN := 8) jIQ_40_5 rfl (by decide +kernel) rfl rfl ?_
  refine jT_xaload_n (v := (4, 1)) (pcN := 9) jIQ_40_8 rfl rfl rfl ?_
  refine jT_xiconst (k := 0) (pcN := 10) jIQ_40_9 rfl ?_
  refine jT_lald (x := 0) (a := 1) (j := 0) (fs := []) (X := [0, r7, r8, 0, 0, 0]) jIQ_40_10 rfl rfl rfl rfl ?_
  refine jT_eq (LN := [(0, (4, 0)), (1, (4, 1)), (2, (1, -r7 + r8))]) (stN := [(1, 0)]) (hsN := [jgh, (101, [], [0, r7, r8, 0, 0, 0])]) rfl rfl rfl ?_
  refine jT_labs (z := 0) (by rfl) (by rfl) (by rfl) (by rfl) (by decide +kernel) ?_
  refine jT_adv 1 (pcN := 17) (LN := [(0, (4, 0)), (1, (4, 1)), (2, (1, -r7 + r8))]) (stN := [(1, 16777216), (1, 0)]) (hsN := [jgh, (101, [], [0, r7, r8, 0, 0, 0])]) (c1 := 0) (s1 := 0) (c2 := 0) (s2 := 0) (by exact rfl) ?_ (by omega) (by omega)
  refine jT_lcmp (a := 0) (b := 16777216) (z := (-1)) (by rfl) (by rfl) (by decide +kernel) (by decide +kernel) (by decide) ?_
  refine jT_xifF (t := 25) (pcN := 21) jIQ_40_18 rfl (by decide +kernel) rfl rfl ?_
  refine jT_xiconst (k := 1) (pcN := 22) jIQ_40_21 rfl ?_
  refine jT_xgoto (pcN := 26) jIQ_40_22 rfl ?_
  exact jT_ret rfl (by decide) (by show 2 ≤ 2; omega) (by omega) (by omega) ⟨rfl, rfl, rfl⟩
theorem jQ_41_57 {xs : List Int} {d : Nat} {r7 r8 : Int} (h_r7 : (-20) ≤ r7 ∧ r7 ≤ 20) (h_r8 : (-10) ≤ r8 ∧ r8 ≤ 10) (g_0 : r7 < 0) (g_1 : 0 ≤ r8) (g_2 : 0 ≤ 108917793695 * r7 + 159561683699 * r8) : jT xs d 41 2 0 [(0, (4, 0)), (1, (4, 1))] [] [jgh, (101, [], [0, r7, r8, 0, 0, 0])] 0 0 (fun k v hsN => k = 0 ∧ v = (1, 108917793695 * r7 + 159561683699 * r8) ∧ hsN = [jgh, (101, [], [0, r7, r8, 0, 0, 0])] ++ []) := by
  refine jT_xlconst (z := 0) (pcN := 1) jIQ_41_0 rfl rfl ?_
  refine jT_xlstore_n (v := (1, 0)) (LN := [(2, (1, 0)), (0, (4, 0)), (1, (4, 1))]) (pcN := 2) jIQ_41_1 rfl rfl rfl rfl ?_
  refine jT_xiconst (k := 0) (pcN := 3) jIQ_41_2 rfl ?_
  refine jT_xistore (v := (0, 0)) (LN := [(4, (0, 0)), (2, (1, 0)), (0, (4, 0)), (1, (4, 1))]) (pcN := 5) jIQ_41_3 rfl rfl rfl rfl ?_
  refine jT_xiload (v := (0, 0)) (pcN := 7) jIQ_41_5 rfl rfl rfl ?_
  refine jT_xbipush (k := 6) (pcN := 9) jIQ_41_7 (by decide) rfl ?_
  refine jT_xicF (t := 32) (pcN := 12) jIQ_41_9 rfl (by decide +kernel) rfl rfl ?_
  refine jT_xlload_n (v := (1, 0)) (pcN := 13) jIQ_41_12 rfl rfl rfl ?_
  refine jT_xaload_n (v := (4, 1)) (pcN := 14) jIQ_41_13 rfl rfl rfl ?_
  refine jT_xiload (v := (0, 0)) (pcN := 16) jIQ_41_14 rfl rfl rfl ?_
  refine jT_lald (x := 0) (a := 1) (j := 0) (fs := []) (X := [0, r7, r8, 0, 0, 0]) jIQ_41_16 rfl rfl rfl rfl ?_
  refine jT_eq (LN := [(4, (0, 0)), (2, (1, 0)), (0, (4, 0)), (1, (4, 1))]) (stN := [(1, 0), (1, 0)]) (hsN := [jgh, (101, [], [0, r7, r8, 0, 0, 0])]) rfl rfl rfl ?_
  refine jT_adv 1 (pcN := 20) (LN := [(4, (0, 0)), (2, (1, 0)), (0, (4, 0)), (1, (4, 1))]) (stN := [(5, 0), (1, 0), (1, 0)]) (hsN := [jgh, (101, [], [0, r7, r8, 0, 0, 0])]) (c1 := 0) (s1 := 0) (c2 := 0) (s2 := 0) (by exact rfl) ?_ (by omega) (by omega)
  refine jT_xiload (v := (0, 0)) (pcN := 22) jIQ_41_20 rfl rfl rfl ?_
  refine jT_adv 1 (pcN := 23) (LN := [(4, (0, 0)), (2, (1, 0)), (0, (4, 0)), (1, (4, 1))]) (stN := [(1, 68719476736), (1, 0), (1, 0)]) (hsN := [jgh, (101, [], [0, r7, r8, 0, 0, 0])]) (c1 := 0) (s1 := 0) (c2 := 0) (s2 := 0) (by exact rfl) ?_ (by omega) (by omega)
  refine jT_xlmul (x := 0) (y := 68719476736) (z := 0) (pcN := 24) jIQ_41_23 rfl (by decide) rfl ?_
  refine jT_xladd (x := 0) (y := 0) (z := 0) (pcN := 25) jIQ_41_24 rfl (by decide) rfl ?_
  refine jT_xlstore_n (v := (1, 0)) (LN := [(2, (1, 0)), (4, (0, 0)), (0, (4, 0)), (1, (4, 1))]) (pcN := 26) jIQ_41_25 rfl rfl rfl rfl ?_
  refine jT_xiinc (x := 0) (z := 1) (LN := [(4, (0, 1)), (2, (1, 0)), (0, (4, 0)), (1, (4, 1))]) (pcN := 29) jIQ_41_26 rfl rfl (by decide) rfl rfl ?_
  refine jT_xgoto (pcN := 5) jIQ_41_29 rfl ?_
  refine jT_xiload (v := (0, 1)) (pcN := 7) jIQ_41_5 rfl rfl rfl ?_
  refine jT_xbipush (k := 6) (pcN := 9) jIQ_41_7 (by decide) rfl ?_
  refine jT_xicF (t := 32) (pcN := 12) jIQ_41_9 rfl (by decide +kernel) rfl rfl ?_
  refine jT_xlload_n (v := (1, 0)) (pcN := 13) jIQ_41_12 rfl rfl rfl ?_
  refine jT_xaload_n (v := (4, 1)) (pcN := 14) jIQ_41_13 rfl rfl rfl ?_
  refine jT_xiload (v := (0, 1)) (pcN := 16) jIQ_41_14 rfl rfl rfl ?_
  refine jT_lald (x := r7) (a := 1) (j := 1) (fs := []) (X := [0, r7, r8, 0, 0, 0]) jIQ_41_16 rfl rfl rfl rfl ?_
  refine jT_eq (LN := [(4, (0, 1)), (2, (1, 0)), (0, (4, 0)), (1, (4, 1))]) (stN := [(1, r7), (1, 0)]) (hsN := [jgh, (101, [], [0, r7, r8, 0, 0, 0])]) rfl rfl rfl ?_
  refine jT_adv 1 (pcN := 20) (LN := [(4, (0, 1)), (2, (1, 0)), (0, (4, 0)), (1, (4, 1))]) (stN := [(5, 0), (1, r7), (1, 0)]) (hsN := [jgh, (101, [], [0, r7, r8, 0, 0, 0])]) (c1 := 0) (s1 := 0) (c2 := 0) (s2 := 0) (by exact rfl) ?_ (by omega) (by omega)
  refine jT_xiload (v := (0, 1)) (pcN := 22) jIQ_41_20 rfl rfl rfl ?_
  refine jT_adv 1 (pcN := 23) (LN := [(4, (0, 1)), (2, (1, 0)), (0, (4, 0)), (1, (4, 1))]) (stN := [(1, 108917793695), (1, r7), (1, 0)]) (hsN := [jgh, (101, [], [0, r7, r8, 0, 0, 0])]) (c1 := 0) (s1 := 0) (c2 := 0) (s2 := 0) (by exact rfl) ?_ (by omega) (by omega)
  refine jT_xlmul (x := r7) (y := 108917793695) (z := 108917793695 * r7) (pcN := 24) jIQ_41_23 rfl (by omega) rfl ?_
  refine jT_xladd (x := 0) (y := 108917793695 * r7) (z := 108917793695 * r7) (pcN := 25) jIQ_41_24 rfl (by omega) rfl ?_
  refine jT_xlstore_n (v := (1, 108917793695 * r7)) (LN := [(2, (1, 108917793695 * r7)), (4, (0, 1)), (0, (4, 0)), (1, (4, 1))]) (pcN := 26) jIQ_41_25 rfl rfl rfl rfl ?_
  refine jT_xiinc (x := 1) (z := 2) (LN := [(4, (0, 2)), (2, (1, 108917793695 * r7)), (0, (4, 0)), (1, (4, 1))]) (pcN := 29) jIQ_41_26 rfl rfl (by decide) rfl rfl ?_
  refine jT_xgoto (pcN := 5) jIQ_41_29 rfl ?_
  refine jT_xiload (v := (0, 2)) (pcN := 7) jIQ_41_5 rfl rfl rfl ?_
  refine jT_xbipush (k := 6) (pcN := 9) jIQ_41_7 (by decide) rfl ?_
  refine jT_xicF (t := 32) (pcN := 12) jIQ_41_9 rfl (by decide +kernel) rfl rfl ?_
  refine jT_xlload_n (v := (1, 108917793695 * r7)) (pcN := 13) jIQ_41_12 rfl rfl rfl ?_
  refine jT_xaload_n (v := (4, 1)) (pcN := 14) jIQ_41_13 rfl rfl rfl ?_
  refine jT_xiload (v := (0, 2)) (pcN := 16) jIQ_41_14 rfl rfl rfl ?_
  refine jT_lald (x := r8) (a := 1) (j := 2) (fs := []) (X := [0, r7, r8, 0, 0, 0]) jIQ_41_16 rfl rfl rfl rfl ?_
  refine jT_eq (LN := [(4, (0, 2)), (2, (1, 108917793695 * r7)), (0, (4, 0)), (1, (4, 1))]) (stN := [(1, r8), (1, 108917793695 * r7)]) (hsN := [jgh, (101, [], [0, r7, r8, 0, 0, 0])]) rfl rfl rfl ?_
  refine jT_adv 1 (pcN := 20) (LN := [(4, (0, 2)), (2, (1, 108917793695 * r7)), (0, (4, 0)), (1, (4, 1))]) (stN := [(5, 0), (1, r8), (1, 108917793695 * r7)]) (hsN := [jgh, (101, [], [0, r7, r8, 0, 0, 0])]) (c1 := 0) (s1 := 0) (c2 := 0) (s2 := 0) (by exact rfl) ?_ (by omega) (by omega)
  refine jT_xiload (v := (0, 2)) (pcN := 22) jIQ_41_20 rfl rfl rfl ?_
  refine jT_adv 1 (pcN := 23) (LN := [(4, (0, 2)), (2, (1, 108917793695 * r7)), (0, (4, 0)), (1, (4, 1))]) (stN := [(1, 159561683699), (1, r8), (1, 108917793695 * r7)]) (hsN := [jgh, (101, [], [0, r7, r8, 0, 0, 0])]) (c1 := 0) (s1 := 0) (c2 := 0) (s2 := 0) (by exact rfl) ?_ (by omega) (by omega)
  refine jT_xlmul (x := r8) (y := 159561683699) (z := 159561683699 * r8) (pcN := 24) jIQ_41_23 rfl (by omega) rfl ?_
  refine jT_xladd (x := 108917793695 * r7) (y := 159561683699 * r8) (z := 108917793695 * r7 + 159561683699 * r8) (pcN := 25) jIQ_41_24 rfl (by omega) rfl ?_
  refine jT_xlstore_n (v := (1, 108917793695 * r7 + 159561683699 * r8)) (LN := [(2, (1, 108917793695 * r7 + 159561683699 * r8)), (4, (0, 2)), (0, (4, 0)), (1, (4, 1))]) (pcN := 26) jIQ_41_25 rfl rfl rfl rfl ?_
  refine jT_xiinc (x := 2) (z := 3) (LN := [(4, (0, 3)), (2, (1, 108917793695 * r7 + 159561683699 * r8)), (0, (4, 0)), (1, (4, 1))]) (pcN := 29) jIQ_41_26 rfl rfl (by decide) rfl rfl ?_
  refine jT_xgoto (pcN := 5) jIQ_41_29 rfl ?_
  refine jT_xiload (v := (0, 3)) (pcN := 7) jIQ_41_5 rfl rfl rfl ?_
  refine jT_xbipush (k := 6) (pcN := 9) jIQ_41_7 (by decide) rfl ?_
  refine jT_xicF (t := 32) (pcN := 12) jIQ_41_9 rfl (by decide +kernel) rfl rfl ?_
  refine jT_xlload_n (v := (1, 108917793695 * r7 + 159561683699 * r8)) (pcN := 13) jIQ_41_12 rfl rfl rfl ?_
  refine jT_xaload_n (v := (4, 1)) (pcN := 14) jIQ_41_13 rfl rfl rfl ?_
  refine jT_xiload (v := (0, 3)) (pcN := 16) jIQ_41_14 rfl rfl rfl ?_
  refine jT_lald (x := 0) (a := 1) (j := 3) (fs := []) (X := [0, r7, r8, 0, 0, 0]) jIQ_41_16 rfl rfl rfl rfl ?_
  refine jT_eq (LN := [(4, (0, 3)), (2, (1, 108917793695 * r7 + 159561683699 * r8)), (0, (4, 0)), (1, (4, 1))]) (stN := [(1, 0), (1, 108917793695 * r7 + 159561683699 * r8)]) (hsN := [jgh, (101, [], [0, r7, r8, 0, 0, 0])]) rfl rfl rfl ?_
  refine jT_adv 1 (pcN := 20) (LN := [(4, (0, 3)), (2, (1, 108917793695 * r7 + 159561683699 * r8)), (0, (4, 0)), (1, (4, 1))]) (stN := [(5, 0), (1, 0), (1, 108917793695 * r7 + 159561683699 * r8)]) (hsN := [jgh, (101, [], [0, r7, r8, 0, 0, 0])]) (c1 := 0) (s1 := 0) (c2 := 0) (s2 := 0) (by exact rfl) ?_ (by omega) (by omega)
  refine jT_xiload (v := (0, 3)) (pcN := 22) jIQ_41_20 rfl rfl rfl ?_
  refine jT_adv 1 (pcN := 23) (LN := [(4, (0, 3)), (2, (1, 108917793695 * r7 + 159561683699 * r8)), (0, (4, 0)), (1, (4, 1))]) (stN := [(1, 192919961256), (1, 0), (1, 108917793695 * r7 + 159561683699 * r8)]) (hsN := [jgh, (101, [], [0, r7, r8, 0, 0, 0])]) (c1 := 0) (s1 := 0) (c2 := 0) (s2 := 0) (by exact rfl) ?_ (by omega) (by omega)
  refine jT_xlmul (x := 0) (y := 192919961256) (z := 0) (pcN := 24) jIQ_41_23 rfl (by decide) rfl ?_
  refine jT_xladd (x := 108917793695 * r7 + 159561683699 * r8) (y := 0) (z := 108917793695 * r7 + 159561683699 * r8) (pcN := 25) jIQ_41_24 rfl (by omega) rfl ?_
  refine jT_xlstore_n (v := (1, 108917793695 * r7 + 159561683699 * r8)) (LN := [(2, (1, 108917793695 * r7 + 159561683699 * r8)), (4, (0, 3)), (0, (4, 0)), (1, (4, 1))]) (pcN := 26) jIQ_41_25 rfl rfl rfl rfl ?_
  refine jT_xiinc (x := 3) (z := 4) (LN := [(4, (0, 4)), (2, (1, 108917793695 * r7 + 159561683699 * r8)), (0, (4, 0)), (1, (4, 1))]) (pcN := 29) jIQ_41_26 rfl rfl (by decide) rfl rfl ?_
  refine jT_xgoto (pcN := 5) jIQ_41_29 rfl ?_
  refine jT_xiload (v := (0, 4)) (pcN := 7) jIQ_41_5 rfl rfl rfl ?_
  refine jT_xbipush (k := 6) (pcN := 9) jIQ_41_7 (by decide) rfl ?_
  refine jT_xicF (t := 32) (pcN := 12) jIQ_41_9 rfl (by decide +kernel) rfl rfl ?_
  refine jT_xlload_n (v := (1, 108917793695 * r7 + 159561683699 * r8)) (pcN := 13) jIQ_41_12 rfl rfl rfl ?_
  refine jT_xaload_n (v := (4, 1)) (pcN := 14) jIQ_41_13 rfl rfl rfl ?_
  refine jT_xiload (v := (0, 4)) (pcN := 16) jIQ_41_14 rfl rfl rfl ?_
  refine jT_lald (x := 0) (a := 1) (j := 4) (fs := []) (X := [0, r7, r8, 0, 0, 0]) jIQ_41_16 rfl rfl rfl rfl ?_
  refine jT_eq (LN := [(4, (0, 4)), (2, (1, 108917793695 * r7 + 159561683699 * r8)), (0, (4, 0)), (1, (4, 1))]) (stN := [(1, 0), (1, 108917793695 * r7 + 159561683699 * r8)]) (hsN := [jgh, (101, [], [0, r7, r8, 0, 0, 0])]) rfl rfl rfl ?_
  refine jT_adv 1 (pcN := 20) (LN := [(4, (0, 4)), (2, (1, 108917793695 * r7 + 159561683699 * r8)), (0, (4, 0)), (1, (4, 1))]) (stN := [(5, 0), (1, 0), (1, 108917793695 * r7 + 159561683699 * r8)]) (hsN := [jgh, (101, [], [0, r7, r8, 0, 0, 0])]) (c1 := 0) (s1 := 0) (c2 := 0) (s2 := 0) (by exact rfl) ?_ (by omega) (by omega)
  refine jT_xiload (v := (0, 4)) (pcN := 22) jIQ_41_20 rfl rfl rfl ?_
  refine jT_adv 1 (pcN := 23) (LN := [(4, (0, 4)), (2, (1, 108917793695 * r7 + 159561683699 * r8)), (0, (4, 0)), (1, (4, 1))]) (stN := [(1, 237730330636), (1, 0), (1, 108917793695 * r7 + 159561683699 * r8)]) (hsN := [jgh, (101, [], [0, r7, r8, 0, 0, 0])]) (c1 := 0) (s1 := 0) (c2 := 0) (s2 := 0) (by exact rfl) ?_ (by omega) (by omega)
  refine jT_xlmul (x := 0) (y := 237730330636) (z := 0) (pcN := 24) jIQ_41_23 rfl (by decide) rfl ?_
  refine jT_xladd (x := 108917793695 * r7 + 159561683699 * r8) (y := 0) (z := 108917793695 * r7 + 159561683699 * r8) (pcN := 25) jIQ_41_24 rfl (by omega) rfl ?_
  refine jT_xlstore_n (v := (1, 108917793695 * r7 + 159561683699 * r8)) (LN := [(2, (1, 108917793695 * r7 + 159561683699 * r8)), (4, (0, 4)), (0, (4, 0)), (1, (4, 1))]) (pcN := 26) jIQ_41_25 rfl rfl rfl rfl ?_
  refine jT_xiinc (x := 4) (z := 5) (LN := [(4, (0, 5)), (2, (1, 108917793695 * r7 + 159561683699 * r8)), (0, (4, 0)), (1, (4, 1))]) (pcN := 29) jIQ_41_26 rfl rfl (by decide) rfl rfl ?_
  refine jT_xgoto (pcN := 5) jIQ_41_29 rfl ?_
  refine jT_xiload (v := (0, 5)) (pcN := 7) jIQ_41_5 rfl rfl rfl ?_
  refine jT_xbipush (k := 6) (pcN := 9) jIQ_41_7 (by decide) rfl ?_
  refine jT_xicF (t := 32) (pcN := 12) jIQ_41_9 rfl (by decide +kernel) rfl rfl ?_
  refine jT_xlload_n (v := (1, 108917793695 * r7 + 159561683699 * r8)) (pcN := 13) jIQ_41_12 rfl rfl rfl ?_
  refine jT_xaload_n (v := (4, 1)) (pcN := 14) jIQ_41_13 rfl rfl rfl ?_
  refine jT_xiload (v := (0, 5)) (pcN := 16) jIQ_41_14 rfl rfl rfl ?_
  refine jT_lald (x := 0) (a := 1) (j := 5) (fs := []) (X := [0, r7, r8, 0, 0, 0]) jIQ_41_16 rfl rfl rfl rfl ?_
  refine jT_eq (LN := [(4, (0, 5)), (2, (1, 108917793695 * r7 + 159561683699 * r8)), (0, (4, 0)), (1, (4, 1))]) (stN := [(1, 0), (1, 108917793695 * r7 + 159561683699 * r8)]) (hsN := [jgh, (101, [], [0, r7, r8, 0, 0, 0])]) rfl rfl rfl ?_
  refine jT_adv 1 (pcN := 20) (LN := [(4, (0, 5)), (2, (1, 108917793695 * r7 + 159561683699 * r8)), (0, (4, 0)), (1, (4, 1))]) (stN := [(5, 0), (1, 0), (1, 108917793695 * r7 + 159561683699 * r8)]) (hsN := [jgh, (101, [], [0, r7, r8, 0, 0, 0])]) (c1 := 0) (s1 := 0) (c2 := 0) (s2 := 0) (by exact rfl) ?_ (by omega) (by omega)
  refine jT_xiload (v := (0, 5)) (pcN := 22) jIQ_41_20 rfl rfl rfl ?_
  refine jT_adv 1 (pcN := 23) (LN := [(4, (0, 5)), (2, (1, 108917793695 * r7 + 159561683699 * r8)), (0, (4, 0)), (1, (4, 1))]) (stN := [(1, 254292281123), (1, 0), (1, 108917793695 * r7 + 159561683699 * r8)]) (hsN := [jgh, (101, [], [0, r7, r8, 0, 0, 0])]) (c1 := 0) (s1 := 0) (c2 := 0) (s2 := 0) (by exact rfl) ?_ (by omega) (by omega)
  refine jT_xlmul (x := 0) (y := 254292281123) (z := 0) (pcN := 24) jIQ_41_23 rfl (by decide) rfl ?_
  refine jT_xladd (x := 108917793695 * r7 + 159561683699 * r8) (y := 0) (z := 108917793695 * r7 + 159561683699 * r8) (pcN := 25) jIQ_41_24 rfl (by omega) rfl ?_
  refine jT_xlstore_n (v := (1, 108917793695 * r7 + 159561683699 * r8)) (LN := [(2, (1, 108917793695 * r7 + 159561683699 * r8)), (4, (0, 5)), (0, (4, 0)), (1, (4, 1))]) (pcN := 26) jIQ_41_25 rfl rfl rfl rfl ?_
  refine jT_xiinc (x := 5) (z := 6) (LN := [(4, (0, 6)), (2, (1, 108917793695 * r7 + 159561683699 * r8)), (0, (4, 0)), (1, (4, 1))]) (pcN := 29) jIQ_41_26 rfl rfl (by decide) rfl rfl ?_
  refine jT_xgoto (pcN := 5) jIQ_41_29 rfl ?_
  refine jT_xiload (v := (0, 6)) (pcN := 7) jIQ_41_5 rfl rfl rfl ?_
  refine jT_xbipush (k := 6) (pcN := 9) jIQ_41_7 (by decide) rfl ?_
  refine jT_xicT (pcN := 32) jIQ_41_9 rfl (by decide +kernel) rfl ?_
  refine jT_xlload_n (v := (1, 108917793695 * r7 + 159561683699 * r8)) (pcN := 33) jIQ_41_32 rfl rfl rfl ?_
  exact jT_ret rfl (by decide) (by show 2 ≤ 2; omega) (by omega) (by omega) ⟨rfl, rfl, rfl⟩
theorem jQ_39_58 {xs : List Int} {d : Nat} {r7 r8 : Int} (h_r7 : (-20) ≤ r7 ∧ r7 ≤ 20) (h_r8 : (-10) ≤ r8 ∧ r8 ≤ 10) (g_0 : 0 ≤ r7) (g_1 : r8 < 0) : jT xs d 39 2 0 [(0, (4, 0)), (1, (4, 1))] [] [jgh, (101, [], [0, r7, r8, 0, 0, 0])] 0 0 (fun k v hsN => k = 0 ∧ v = (1, r7 - r8) ∧ hsN = [jgh, (101, [], [0, r7, r8, 0, 0, 0])] ++ []) := by
  refine jT_xlconst (z := 0) (pcN := 1) jIQ_39_0 rfl rfl ?_
  refine jT_xlstore_n (v := (1, 0)) (LN := [(2, (1, 0)), (0, (4, 0)), (1, (4, 1))]) (pcN := 2) jIQ_39_1 rfl rfl rfl rfl ?_
  refine jT_xiconst (k := 1) (pcN := 3) jIQ_39_2 rfl ?_
  refine jT_xistore (v := (0, 1)) (LN := [(4, (0, 1)), (2, (1, 0)), (0, (4, 0)), (1, (4, 1))]) (pcN := 5) jIQ_39_3 rfl rfl rfl rfl ?_
  refine jT_xiload (v := (0, 1)) (pcN := 7) jIQ_39_5 rfl rfl rfl ?_
  refine jT_xbipush (k := 6) (pcN := 9) jIQ_39_7 (by decide) rfl ?_
  refine jT_xicF (t := 28) (pcN := 12) jIQ_39_9 rfl (by decide +kernel) rfl rfl ?_
  refine jT_xlload_n (v := (1, 0)) (pcN := 13) jIQ_39_12 rfl rfl rfl ?_
  refine jT_xaload_n (v := (4, 1)) (pcN := 14) jIQ_39_13 rfl rfl rfl ?_
  refine jT_xiload (v := (0, 1)) (pcN := 16) jIQ_39_14 rfl rfl rfl ?_
  refine jT_lald (x := r7) (a := 1) (j := 1) (fs := []) (X := [0, r7, r8, 0, 0, 0]) jIQ_39_16 rfl rfl rfl rfl ?_
  refine jT_eq (LN := [(4, (0, 1)), (2, (1, 0)), (0, (4, 0)), (1, (4, 1))]) (stN := [(1, r7), (1, 0)]) (hsN := [jgh, (101, [], [0, r7, r8, 0, 0, 0])]) rfl rfl rfl ?_
  refine jT_labs (z := r7) (by rfl) (by rfl) (by rfl) (by rfl) (by rw [show jwl (r7) = r7 from jwl_idd (by omega) (by omega), decide_eq_false (by omega)]; first | (simp only [cond_true, cond_false]; done) | (simp only [cond_true, cond_false]; omega) | rfl) ?_
  refine jT_xladd (x := 0) (y := r7) (z := r7) (pcN := 21) jIQ_39_20 rfl (by omega) rfl ?_
  refine jT_xlstore_n (v := (1, r7)) (LN := [(2, (1, r7)), (4, (0, 1)), (0, (4, 0)), (1, (4, 1))]) (pcN := 22) jIQ_39_21 rfl rfl rfl rfl ?_
  refine jT_xiinc (x := 1) (z := 2) (LN := [(4, (0, 2)), (2, (1, r7)), (0, (4, 0)), (1, (4, 1))]) (pcN := 25) jIQ_39_22 rfl rfl (by decide) rfl rfl ?_
  refine jT_xgoto (pcN := 5) jIQ_39_25 rfl ?_
  refine jT_xiload (v := (0, 2)) (pcN := 7) jIQ_39_5 rfl rfl rfl ?_
  refine jT_xbipush (k := 6) (pcN := 9) jIQ_39_7 (by decide) rfl ?_
  refine jT_xicF (t := 28) (pcN := 12) jIQ_39_9 rfl (by decide +kernel) rfl rfl ?_
  refine jT_xlload_n (v := (1, r7)) (pcN := 13) jIQ_39_12 rfl rfl rfl ?_
  refine jT_xaload_n (v := (4, 1)) (pcN := 14) jIQ_39_13 rfl rfl rfl ?_
  refine jT_xiload (v := (0, 2)) (pcN := 16) jIQ_39_14 rfl rfl rfl ?_
  refine jT_lald (x := r8) (a := 1) (j := 2) (fs := []) (X := [0, r7, r8, 0, 0, 0]) jIQ_39_16 rfl rfl rfl rfl ?_
  refine jT_eq (LN := [(4, (0, 2)), (2, (1, r7)), (0, (4, 0)), (1, (4, 1))]) (stN := [(1, r8), (1, r7)]) (hsN := [jgh, (101, [], [0, r7, r8, 0, 0, 0])]) rfl rfl rfl ?_
  refine jT_labs (z := -r8) (by rfl) (by rfl) (by rfl) (by rfl) (by rw [show jwl (r8) = r8 from jwl_idd (by omega) (by omega), decide_eq_true (by omega)]; first | (simp only [cond_true, cond_false]; done) | (simp only [cond_true, cond_false]; omega) | rfl) ?_
  refine jT_xladd (x := r7) (y := -r8) (z := r7 - r8) (pcN := 21) jIQ_39_20 rfl (by omega) rfl ?_
  refine jT_xlstore_n (v := (1, r7 - r8)) (LN := [(2, (1, r7 - r8)), (4, (0, 2)), (0, (4, 0)), (1, (4, 1))]) (pcN := 22) jIQ_39_21 rfl rfl rfl rfl ?_
  refine jT_xiinc (x := 2) (z := 3) (LN := [(4, (0, 3)), (2, (1, r7 - r8)), (0, (4, 0)), (1, (4, 1))]) (pcN := 25) jIQ_39_22 rfl rfl (by decide) rfl rfl ?_
  refine jT_xgoto (pcN := 5) jIQ_39_25 rfl ?_
  refine jT_xiload (v := (0, 3)) (pcN := 7) jIQ_39_5 rfl rfl rfl ?_
  refine jT_xbipush (k := 6) (pcN := 9) jIQ_39_7 (by decide) rfl ?_
  refine jT_xicF (t := 28) (pcN := 12) jIQ_39_9 rfl (by decide +kernel) rfl rfl ?_
  refine jT_xlload_n (v := (1, r7 - r8)) (pcN := 13) jIQ_39_12 rfl rfl rfl ?_
  refine jT_xaload_n (v := (4, 1)) (pcN := 14) jIQ_39_13 rfl rfl rfl ?_
  refine jT_xiload (v := (0, 3)) (pcN := 16) jIQ_39_14 rfl rfl rfl ?_
  refine jT_lald (x := 0) (a := 1) (j := 3) (fs := []) (X := [0, r7, r8, 0, 0, 0]) jIQ_39_16 rfl rfl rfl rfl ?_
  refine jT_eq (LN := [(4, (0, 3)), (2, (1, r7 - r8)), (0, (4, 0)), (1, (4, 1))]) (stN := [(1, 0), (1, r7 - r8)]) (hsN := [jgh, (101, [], [0, r7, r8, 0, 0, 0])]) rfl rfl rfl ?_
  refine jT_labs (z := 0) (by rfl) (by rfl) (by rfl) (by rfl) (by decide +kernel) ?_
  refine jT_xladd (x := r7 - r8) (y := 0) (z := r7 - r8) (pcN := 21) jIQ_39_20 rfl (by omega) rfl ?_
  refine jT_xlstore_n (v := (1, r7 - r8)) (LN := [(2, (1, r7 - r8)), (4, (0, 3)), (0, (4, 0)), (1, (4, 1))]) (pcN := 22) jIQ_39_21 rfl rfl rfl rfl ?_
  refine jT_xiinc (x := 3) (z := 4) (LN := [(4, (0, 4)), (2, (1, r7 - r8)), (0, (4, 0)), (1, (4, 1))]) (pcN := 25) jIQ_39_22 rfl rfl (by decide) rfl rfl ?_
  refine jT_xgoto (pcN := 5) jIQ_39_25 rfl ?_
  refine jT_xiload (v := (0, 4)) (pcN := 7) jIQ_39_5 rfl rfl rfl ?_
  refine jT_xbipush (k := 6) (pcN := 9) jIQ_39_7 (by decide) rfl ?_
  refine jT_xicF (t := 28) (pcN := 12) jIQ_39_9 rfl (by decide +kernel) rfl rfl ?_
  refine jT_xlload_n (v := (1, r7 - r8)) (pcN := 13) jIQ_39_12 rfl rfl rfl ?_
  refine jT_xaload_n (v := (4, 1)) (pcN := 14) jIQ_39_13 rfl rfl rfl ?_
  refine jT_xiload (v := (0, 4)) (pcN := 16) jIQ_39_14 rfl rfl rfl ?_
  refine jT_lald (x := 0) (a := 1) (j := 4) (fs := []) (X := [0, r7, r8, 0, 0, 0]) jIQ_39_16 rfl rfl rfl rfl ?_
  refine jT_eq (LN := [(4, (0, 4)), (2, (1, r7 - r8)), (0, (4, 0)), (1, (4, 1))]) (stN := [(1, 0), (1, r7 - r8)]) (hsN := [jgh, (101, [], [0, r7, r8, 0, 0, 0])]) rfl rfl rfl ?_
  refine jT_labs (z := 0) (by rfl) (by rfl) (by rfl) (by rfl) (by decide +kernel) ?_
  refine jT_xladd (x := r7 - r8) (y := 0) (z := r7 - r8) (pcN := 21) jIQ_39_20 rfl (by omega) rfl ?_
  refine jT_xlstore_n (v := (1, r7 - r8)) (LN := [(2, (1, r7 - r8)), (4, (0, 4)), (0, (4, 0)), (1, (4, 1))]) (pcN := 22) jIQ_39_21 rfl rfl rfl rfl ?_
  refine jT_xiinc (x := 4) (z := 5) (LN := [(4, (0, 5)), (2, (1, r7 - r8)), (0, (4, 0)), (1, (4, 1))]) (pcN := 25) jIQ_39_22 rfl rfl (by decide) rfl rfl ?_
  refine jT_xgoto (pcN := 5) jIQ_39_25 rfl ?_
  refine jT_xiload (v := (0, 5)) (pcN := 7) jIQ_39_5 rfl rfl rfl ?_
  refine jT_xbipush (k := 6) (pcN := 9) jIQ_39_7 (by decide) rfl ?_
  refine jT_xicF (t := 28) (pcN := 12) jIQ_39_9 rfl (by decide +kernel) rfl rfl ?_
  refine jT_xlload_n (v := (1, r7 - r8)) (pcN := 13) jIQ_39_12 rfl rfl rfl ?_
  refine jT_xaload_n (v := (4, 1)) (pcN := 14) jIQ_39_13 rfl rfl rfl ?_
  refine jT_xiload (v := (0, 5)) (pcN := 16) jIQ_39_14 rfl rfl rfl ?_
  refine jT_lald (x := 0) (a := 1) (j := 5) (fs := []) (X := [0, r7, r8, 0, 0, 0]) jIQ_39_16 rfl rfl rfl rfl ?_
  refine jT_eq (LN := [(4, (0, 5)), (2, (1, r7 - r8)), (0, (4, 0)), (1, (4, 1))]) (stN := [(1, 0), (1, r7 - r8)]) (hsN := [jgh, (101, [], [0, r7, r8, 0, 0, 0])]) rfl rfl rfl ?_
  refine jT_labs (z := 0) (by rfl) (by rfl) (by rfl) (by rfl) (by decide +kernel) ?_
  refine jT_xladd (x := r7 - r8) (y := 0) (z := r7 - r8) (pcN := 21) jIQ_39_20 rfl (by omega) rfl ?_
  refine jT_xlstore_n (v := (1, r7 - r8)) (LN := [(2, (1, r7 - r8)), (4, (0, 5)), (0, (4, 0)), (1, (4, 1))]) (pcN := 22) jIQ_39_21 rfl rfl rfl rfl ?_
  refine jT_xiinc (x := 5) (z := 6) (LN := [(4, (0, 6)), (2, (1, r7 - r8)), (0, (4, 0)), (1, (4, 1))]) (pcN := 25) jIQ_39_22 rfl rfl (by decide) rfl rfl ?_
  refine jT_xgoto (pcN := 5) jIQ_39_25 rfl ?_
  refine jT_xiload (v := (0, 6)) (pcN := 7) jIQ_39_5 rfl rfl rfl ?_
  refine jT_xbipush (k := 6) (pcN := 9) jIQ_39_7 (by decide) rfl ?_
  refine jT_xicT (pcN := 28) jIQ_39_9 rfl (by decide +kernel) rfl ?_
  refine jT_xlload_n (v := (1, r7 - r8)) (pcN := 29) jIQ_39_28 rfl rfl rfl ?_
  exact jT_ret rfl (by decide) (by show 2 ≤ 2; omega) (by omega) (by omega) ⟨rfl, rfl, rfl⟩
theorem jQ_40_59 {xs : List Int} {d : Nat} {r7 r8 : Int} (h_r7 : (-20) ≤ r7 ∧ r7 ≤ 20) (h_r8 : (-10) ≤ r8 ∧ r8 ≤ 10) (g_0 : 0 ≤ r7) (g_1 : r8 < 0) : jT xs d 40 2 0 [(0, (4, 0)), (1, (4, 1)), (2, (1, r7 - r8))] [] [jgh, (101, [], [0, r7, r8, 0, 0, 0])] 0 0 (fun k v hsN => k = 0 ∧ v = (0, 1) ∧ hsN = [jgh, (101, [], [0, r7, r8, 0, 0, 0])] ++ []) := by
  refine jT_xlload_n (v := (1, r7 - r8)) (pcN := 1) jIQ_40_0 rfl rfl rfl ?_
  refine jT_adv 1 (pcN := 4) (LN := [(0, (4, 0)), (1, (4, 1)), (2, (1, r7 - r8))]) (stN := [(1, 16777216), (1, r7 - r8)]) (hsN := [jgh, (101, [], [0, r7, r8, 0, 0, 0])]) (c1 := 0) (s1 := 0) (c2 := 0) (s2 := 0) (by exact rfl) ?_ (by omega) (by omega)
  refine jT_lcmp (a := r7 - r8) (b := 16777216) (z := (-1)) (by rfl) (by rfl) (jwl_idd (by omega) (by omega)) (jwl_idd (by omega) (by omega)) (by rw [decide_eq_false (show ¬ ((16777216 : Int) < r7 - r8) by omega), decide_eq_false (show ¬ ((r7 - r8 : Int) = 16777216) by omega)]; rfl) ?_
  refine jT_xifF (t := 25) (pcN := 8) jIQ_40_5 rfl (by decide +kernel) rfl rfl ?_
  refine jT_xaload_n (v := (4, 1)) (pcN := 9) jIQ_40_8 rfl rfl rfl ?_
  refine jT_xiconst (k := 0) (pcN := 10) jIQ_40_9 rfl ?_
  refine jT_lald (x := 0) (a := 1) (j := 0) (fs := []) (X := [0, r7, r8, 0, 0, 0]) jIQ_40_10 rfl rfl rfl rfl ?_
  refine jT_eq (LN := [(0, (4, 0)), (1, (4, 1)), (2, (1, r7 - r8))]) (stN := [(1, 0)]) (hsN := [jgh, (101, [], [0, r7, r8, 0, 0, 0])]) rfl rfl rfl ?_
  refine jT_labs (z := 0) (by rfl) (by rfl) (by rfl) (by rfl) (by decide +kernel) ?_
  refine jT_adv 1 (pcN := 17) (LN := [(0, (4, 0)), (1, (4, 1)), (2, (1, r7 - r8))]) (stN := [(1, 16777216), (1, 0)]) (hsN := [jgh, (101, [], [0, r7, r8, 0, 0, 0])]) (c1 := 0) (s1 := 0) (c2 := 0) (s2 := 0) (by exact rfl) ?_ (by omega) (by omega)
  refine jT_lcmp (a := 0) (b := 16777216) (z := (-1)) (by rfl) (by rfl) (by decide +kernel) (by decide +kernel) (by decide) ?_
  refine jT_xifF (t := 25) (pcN := 21) jIQ_40_18 rfl (by decide +kernel) rfl rfl ?_
  refine jT_xiconst (k := 1) (pcN := 22) jIQ_40_21 rfl ?_
  refine jT_xgoto (pcN := 26) jIQ_40_22 rfl ?_
  exact jT_ret rfl (by decide) (by show 2 ≤ 2; omega) (by omega) (by omega) ⟨rfl, rfl, rfl⟩
theorem jQ_41_60 {xs : List Int} {d : Nat} {r7 r8 : Int} (h_r7 : (-20) ≤ r7 ∧ r7 ≤ 20) (h_r8 : (-10) ≤ r8 ∧ r8 ≤ 10) (g_0 : 0 ≤ r7) (g_1 : r8 < 0) : jT xs d 41 2 0 [(0, (4, 0)), (1, (4, 1))] [] [jgh, (101, [], [0, r7, r8, 0, 0, 0])] 0 0 (fun k v hsN => k = 0 ∧ v = (1, 108917793695 * r7 + 159561683699 * r8) ∧ hsN = [jgh, (101, [], [0, r7, r8, 0, 0, 0])] ++ []) := by
  refine jT_xlconst (z := 0) (pcN := 1) jIQ_41_0 rfl rfl ?_
  refine jT_xlstore_n (v := (1, 0)) (LN := [(2, (1, 0)), (0, (4, 0)), (1, (4, 1))]) (pcN := 2) jIQ_41_1 rfl rfl rfl rfl ?_
  refine jT_xiconst (k := 0) (pcN := 3) jIQ_41_2 rfl ?_
  refine jT_xistore (v := (0, 0)) (LN := [(4, (0, 0)), (2, (1, 0)), (0, (4, 0)), (1, (4, 1))]) (pcN := 5) jIQ_41_3 rfl rfl rfl rfl ?_
  refine jT_xiload (v := (0, 0)) (pcN := 7) jIQ_41_5 rfl rfl rfl ?_
  refine jT_xbipush (k := 6) (pcN := 9) jIQ_41_7 (by decide) rfl ?_
  refine jT_xicF (t := 32) (pcN := 12) jIQ_41_9 rfl (by decide +kernel) rfl rfl ?_
  refine jT_xlload_n (v := (1, 0)) (pcN := 13) jIQ_41_12 rfl rfl rfl ?_
  refine jT_xaload_n (v := (4, 1)) (pcN := 14) jIQ_41_13 rfl rfl rfl ?_
  refine jT_xiload (v := (0, 0)) (pcN := 16) jIQ_41_14 rfl rfl rfl ?_
  refine jT_lald (x := 0) (a := 1) (j := 0) (fs := []) (X := [0, r7, r8, 0, 0, 0]) jIQ_41_16 rfl rfl rfl rfl ?_
  refine jT_eq (LN := [(4, (0, 0)), (2, (1, 0)), (0, (4, 0)), (1, (4, 1))]) (stN := [(1, 0), (1, 0)]) (hsN := [jgh, (101, [], [0, r7, r8, 0, 0, 0])]) rfl rfl rfl ?_
  refine jT_adv 1 (pcN := 20) (LN := [(4, (0, 0)), (2, (1, 0)), (0, (4, 0)), (1, (4, 1))]) (stN := [(5, 0), (1, 0), (1, 0)]) (hsN := [jgh, (101, [], [0, r7, r8, 0, 0, 0])]) (c1 := 0) (s1 := 0) (c2 := 0) (s2 := 0) (by exact rfl) ?_ (by omega) (by omega)
  refine jT_xiload (v := (0, 0)) (pcN := 22) jIQ_41_20 rfl rfl rfl ?_
  refine jT_adv 1 (pcN := 23) (LN := [(4, (0, 0)), (2, (1, 0)), (0, (4, 0)), (1, (4, 1))]) (stN := [(1, 68719476736), (1, 0), (1, 0)]) (hsN := [jgh, (101, [], [0, r7, r8, 0, 0, 0])]) (c1 := 0) (s1 := 0) (c2 := 0) (s2 := 0) (by exact rfl) ?_ (by omega) (by omega)
  refine jT_xlmul (x := 0) (y := 68719476736) (z := 0) (pcN := 24) jIQ_41_23 rfl (by decide) rfl ?_
  refine jT_xladd (x := 0) (y := 0) (z := 0) (pcN := 25) jIQ_41_24 rfl (by decide) rfl ?_
  refine jT_xlstore_n (v := (1, 0)) (LN := [(2, (1, 0)), (4, (0, 0)), (0, (4, 0)), (1, (4, 1))]) (pcN := 26) jIQ_41_25 rfl rfl rfl rfl ?_
  refine jT_xiinc (x := 0) (z := 1) (LN := [(4, (0, 1)), (2, (1, 0)), (0, (4, 0)), (1, (4, 1))]) (pcN := 29) jIQ_41_26 rfl rfl (by decide) rfl rfl ?_
  refine jT_xgoto (pcN := 5) jIQ_41_29 rfl ?_
  refine jT_xiload (v := (0, 1)) (pcN := 7) jIQ_41_5 rfl rfl rfl ?_
  refine jT_xbipush (k := 6) (pcN := 9) jIQ_41_7 (by decide) rfl ?_
  refine jT_xicF (t := 32) (pcN := 12) jIQ_41_9 rfl (by decide +kernel) rfl rfl ?_
  refine jT_xlload_n (v := (1, 0)) (pcN := 13) jIQ_41_12 rfl rfl rfl ?_
  refine jT_xaload_n (v := (4, 1)) (pcN := 14) jIQ_41_13 rfl rfl rfl ?_
  refine jT_xiload (v := (0, 1)) (pcN := 16) jIQ_41_14 rfl rfl rfl ?_
  refine jT_lald (x := r7) (a := 1) (j := 1) (fs := []) (X := [0, r7, r8, 0, 0, 0]) jIQ_41_16 rfl rfl rfl rfl ?_
  refine jT_eq (LN := [(4, (0, 1)), (2, (1, 0)), (0, (4, 0)), (1, (4, 1))]) (stN := [(1, r7), (1, 0)]) (hsN := [jgh, (101, [], [0, r7, r8, 0, 0, 0])]) rfl rfl rfl ?_
  refine jT_adv 1 (pcN := 20) (LN := [(4, (0, 1)), (2, (1, 0)), (0, (4, 0)), (1, (4, 1))]) (stN := [(5, 0), (1, r7), (1, 0)]) (hsN := [jgh, (101, [], [0, r7, r8, 0, 0, 0])]) (c1 := 0) (s1 := 0) (c2 := 0) (s2 := 0) (by exact rfl) ?_ (by omega) (by omega)
  refine jT_xiload (v := (0, 1)) (pcN := 22) jIQ_41_20 rfl rfl rfl ?_
  refine jT_adv 1 (pcN := 23) (LN := [(4, (0, 1)), (2, (1, 0)), (0, (4, 0)), (1, (4, 1))]) (stN := [(1, 108917793695), (1, r7), (1, 0)]) (hsN := [jgh, (101, [], [0, r7, r8, 0, 0, 0])]) (c1 := 0) (s1 := 0) (c2 := 0) (s2 := 0) (by exact rfl) ?_ (by omega) (by omega)
  refine jT_xlmul (x := r7) (y := 108917793695) (z := 108917793695 * r7) (pcN := 24) jIQ_41_23 rfl (by omega) rfl ?_
  refine jT_xladd (x := 0) (y := 108917793695 * r7) (z := 108917793695 * r7) (pcN := 25) jIQ_41_24 rfl (by omega) rfl ?_
  refine jT_xlstore_n (v := (1, 108917793695 * r7)) (LN := [(2, (1, 108917793695 * r7)), (4, (0, 1)), (0, (4, 0)), (1, (4, 1))]) (pcN := 26) jIQ_41_25 rfl rfl rfl rfl ?_
  refine jT_xiinc (x := 1) (z := 2) (LN := [(4, (0, 2)), (2, (1, 108917793695 * r7)), (0, (4, 0)), (1, (4, 1))]) (pcN := 29) jIQ_41_26 rfl rfl (by decide) rfl rfl ?_
  refine jT_xgoto (pcN := 5) jIQ_41_29 rfl ?_
  refine jT_xiload (v := (0, 2)) (pcN := 7) jIQ_41_5 rfl rfl rfl ?_
  refine jT_xbipush (k := 6) (pcN := 9) jIQ_41_7 (by decide) rfl ?_
  refine jT_xicF (t := 32) (pcN := 12) jIQ_41_9 rfl (by decide +kernel) rfl rfl ?_
  refine jT_xlload_n (v := (1, 108917793695 * r7)) (pcN := 13) jIQ_41_12 rfl rfl rfl ?_
  refine jT_xaload_n (v := (4, 1)) (pcN := 14) jIQ_41_13 rfl rfl rfl ?_
  refine jT_xiload (v := (0, 2)) (pcN := 16) jIQ_41_14 rfl rfl rfl ?_
  refine jT_lald (x := r8) (a := 1) (j := 2) (fs := []) (X := [0, r7, r8, 0, 0, 0]) jIQ_41_16 rfl rfl rfl rfl ?_
  refine jT_eq (LN := [(4, (0, 2)), (2, (1, 108917793695 * r7)), (0, (4, 0)), (1, (4, 1))]) (stN := [(1, r8), (1, 108917793695 * r7)]) (hsN := [jgh, (101, [], [0, r7, r8, 0, 0, 0])]) rfl rfl rfl ?_
  refine jT_adv 1 (pcN := 20) (LN := [(4, (0, 2)), (2, (1, 108917793695 * r7)), (0, (4, 0)), (1, (4, 1))]) (stN := [(5, 0), (1, r8), (1, 108917793695 * r7)]) (hsN := [jgh, (101, [], [0, r7, r8, 0, 0, 0])]) (c1 := 0) (s1 := 0) (c2 := 0) (s2 := 0) (by exact rfl) ?_ (by omega) (by omega)
  refine jT_xiload (v := (0, 2)) (pcN := 22) jIQ_41_20 rfl rfl rfl ?_
  refine jT_adv 1 (pcN := 23) (LN := [(4, (0, 2)), (2, (1, 108917793695 * r7)), (0, (4, 0)), (1, (4, 1))]) (stN := [(1, 159561683699), (1, r8), (1, 108917793695 * r7)]) (hsN := [jgh, (101, [], [0, r7, r8, 0, 0, 0])]) (c1 := 0) (s1 := 0) (c2 := 0) (s2 := 0) (by exact rfl) ?_ (by omega) (by omega)
  refine jT_xlmul (x := r8) (y := 159561683699) (z := 159561683699 * r8) (pcN := 24) jIQ_41_23 rfl (by omega) rfl ?_
  refine jT_xladd (x := 108917793695 * r7) (y := 159561683699 * r8) (z := 108917793695 * r7 + 159561683699 * r8) (pcN := 25) jIQ_41_24 rfl (by omega) rfl ?_
  refine jT_xlstore_n (v := (1, 108917793695 * r7 + 159561683699 * r8)) (LN := [(2, (1, 108917793695 * r7 + 159561683699 * r8)), (4, (0, 2)), (0, (4, 0)), (1, (4, 1))]) (pcN := 26) jIQ_41_25 rfl rfl rfl rfl ?_
  refine jT_xiinc (x := 2) (z := 3) (LN := [(4, (0, 3)), (2, (1, 108917793695 * r7 + 159561683699 * r8)), (0, (4, 0)), (1, (4, 1))]) (pcN := 29) jIQ_41_26 rfl rfl (by decide) rfl rfl ?_
  refine jT_xgoto (pcN := 5) jIQ_41_29 rfl ?_
  refine jT_xiload (v := (0, 3)) (pcN := 7) jIQ_41_5 rfl rfl rfl ?_
  refine jT_xbipush (k := 6) (pcN := 9) jIQ_41_7 (by decide) rfl ?_
  refine jT_xicF (t := 32) (pcN := 12) jIQ_41_9 rfl (by decide +kernel) rfl rfl ?_
  refine jT_xlload_n (v := (1, 108917793695 * r7 + 159561683699 * r8)) (pcN := 13) jIQ_41_12 rfl rfl rfl ?_
  refine jT_xaload_n (v := (4, 1)) (pcN := 14) jIQ_41_13 rfl rfl rfl ?_
  refine jT_xiload (v := (0, 3)) (pcN := 16) jIQ_41_14 rfl rfl rfl ?_
  refine jT_lald (x := 0) (a := 1) (j := 3) (fs := []) (X := [0, r7, r8, 0, 0, 0]) jIQ_41_16 rfl rfl rfl rfl ?_
  refine jT_eq (LN := [(4, (0, 3)), (2, (1, 108917793695 * r7 + 159561683699 * r8)), (0, (4, 0)), (1, (4, 1))]) (stN := [(1, 0), (1, 108917793695 * r7 + 159561683699 * r8)]) (hsN := [jgh, (101, [], [0, r7, r8, 0, 0, 0])]) rfl rfl rfl ?_
  refine jT_adv 1 (pcN := 20) (LN := [(4, (0, 3)), (2, (1, 108917793695 * r7 + 159561683699 * r8)), (0, (4, 0)), (1, (4, 1))]) (stN := [(5, 0), (1, 0), (1, 108917793695 * r7 + 159561683699 * r8)]) (hsN := [jgh, (101, [], [0, r7, r8, 0, 0, 0])]) (c1 := 0) (s1 := 0) (c2 := 0) (s2 := 0) (by exact rfl) ?_ (by omega) (by omega)
  refine jT_xiload (v := (0, 3)) (pcN := 22) jIQ_41_20 rfl rfl rfl ?_
  refine jT_adv 1 (pcN := 23) (LN := [(4, (0, 3)), (2, (1, 108917793695 * r7 + 159561683699 * r8)), (0, (4, 0)), (1, (4, 1))]) (stN := [(1, 192919961256), (1, 0), (1, 108917793695 * r7 + 159561683699 * r8)]) (hsN := [jgh, (101, [], [0, r7, r8, 0, 0, 0])]) (c1 := 0) (s1 := 0) (c2 := 0) (s2 := 0) (by exact rfl) ?_ (by omega) (by omega)
  refine jT_xlmul (x := 0) (y := 192919961256) (z := 0) (pcN := 24) jIQ_41_23 rfl (by decide) rfl ?_
  refine jT_xladd (x := 108917793695 * r7 + 159561683699 * r8) (y := 0) (z := 108917793695 * r7 + 159561683699 * r8) (pcN := 25) jIQ_41_24 rfl (by omega) rfl ?_
  refine jT_xlstore_n (v := (1, 108917793695 * r7 + 159561683699 * r8)) (LN := [(2, (1, 108917793695 * r7 + 159561683699 * r8)), (4, (0, 3)), (0, (4, 0)), (1, (4, 1))]) (pcN := 26) jIQ_41_25 rfl rfl rfl rfl ?_
  refine jT_xiinc (x := 3) (z := 4) (LN := [(4, (0, 4)), (2, (1, 108917793695 * r7 + 159561683699 * r8)), (0, (4, 0)), (1, (4, 1))]) (pcN := 29) jIQ_41_26 rfl rfl (by decide) rfl rfl ?_
  refine jT_xgoto (pcN := 5) jIQ_41_29 rfl ?_
  refine jT_xiload (v := (0, 4)) (pcN := 7) jIQ_41_5 rfl rfl rfl ?_
  refine jT_xbipush (k := 6) (pcN := 9) jIQ_41_7 (by decide) rfl ?_
  refine jT_xicF (t := 32) (pcN := 12) jIQ_41_9 rfl (by decide +kernel) rfl rfl ?_
  refine jT_xlload_n (v := (1, 108917793695 * r7 + 159561683699 * r8)) (pcN := 13) jIQ_41_12 rfl rfl rfl ?_
  refine jT_xaload_n (v := (4, 1)) (pcN := 14) jIQ_41_13 rfl rfl rfl ?_
  refine jT_xiload (v := (0, 4)) (pcN := 16) jIQ_41_14 rfl rfl rfl ?_
  refine jT_lald (x := 0) (a := 1) (j := 4) (fs := []) (X := [0, r7, r8, 0, 0, 0]) jIQ_41_16 rfl rfl rfl rfl ?_
  refine jT_eq (LN := [(4, (0, 4)), (2, (1, 108917793695 * r7 + 159561683699 * r8)), (0, (4, 0)), (1, (4, 1))]) (stN := [(1, 0), (1, 108917793695 * r7 + 159561683699 * r8)]) (hsN := [jgh, (101, [], [0, r7, r8, 0, 0, 0])]) rfl rfl rfl ?_
  refine jT_adv 1 (pcN := 20) (LN := [(4, (0, 4)), (2, (1, 108917793695 * r7 + 159561683699 * r8)), (0, (4, 0)), (1, (4, 1))]) (stN := [(5, 0), (1, 0), (1, 108917793695 * r7 + 159561683699 * r8)]) (hsN := [jgh, (101, [], [0, r7, r8, 0, 0, 0])]) (c1 := 0) (s1 := 0) (c2 := 0) (s2 := 0) (by exact rfl) ?_ (by omega) (by omega)
  refine jT_xiload (v := (0, 4)) (pcN := 22) jIQ_41_20 rfl rfl rfl ?_
  refine jT_adv 1 (pcN := 23) (LN := [(4, (0, 4)), (2, (1, 108917793695 * r7 + 159561683699 * r8)), (0, (4, 0)), (1, (4, 1))]) (stN := [(1, 237730330636), (1, 0), (1, 108917793695 * r7 + 159561683699 * r8)]) (hsN := [jgh, (101, [], [0, r7, r8, 0, 0, 0])]) (c1 := 0) (s1 := 0) (c2 := 0) (s2 := 0) (by exact rfl) ?_ (by omega) (by omega)
  refine jT_xlmul (x := 0) (y := 237730330636) (z := 0) (pcN := 24) jIQ_41_23 rfl (by decide) rfl ?_
  refine jT_xladd (x := 108917793695 * r7 + 159561683699 * r8) (y := 0) (z := 108917793695 * r7 + 159561683699 * r8) (pcN := 25) jIQ_41_24 rfl (by omega) rfl ?_
  refine jT_xlstore_n (v := (1, 108917793695 * r7 + 159561683699 * r8)) (LN := [(2, (1, 108917793695 * r7 + 159561683699 * r8)), (4, (0, 4)), (0, (4, 0)), (1, (4, 1))]) (pcN := 26) jIQ_41_25 rfl rfl rfl rfl ?_
  refine jT_xiinc (x := 4) (z := 5) (LN := [(4, (0, 5)), (2, (1, 108917793695 * r7 + 159561683699 * r8)), (0, (4, 0)), (1, (4, 1))]) (pcN := 29) jIQ_41_26 rfl rfl (by decide) rfl rfl ?_
  refine jT_xgoto (pcN := 5) jIQ_41_29 rfl ?_
  refine jT_xiload (v := (0, 5)) (pcN := 7) jIQ_41_5 rfl rfl rfl ?_
  refine jT_xbipush (k := 6) (pcN := 9) jIQ_41_7 (by decide) rfl ?_
  refine jT_xicF (t := 32) (pcN := 12) jIQ_41_9 rfl (by decide +kernel) rfl rfl ?_
  refine jT_xlload_n (v := (1, 108917793695 * r7 + 159561683699 * r8)) (pcN := 13) jIQ_41_12 rfl rfl rfl ?_
  refine jT_xaload_n (v := (4, 1)) (pcN := 14) jIQ_41_13 rfl rfl rfl ?_
  refine jT_xiload (v := (0, 5)) (pcN := 16) jIQ_41_14 rfl rfl rfl ?_
  refine jT_lald (x := 0) (a := 1) (j := 5) (fs := []) (X := [0, r7, r8, 0, 0, 0]) jIQ_41_16 rfl rfl rfl rfl ?_
  refine jT_eq (LN := [(4, (0, 5)), (2, (1, 108917793695 * r7 + 159561683699 * r8)), (0, (4, 0)), (1, (4, 1))]) (stN := [(1, 0), (1, 108917793695 * r7 + 159561683699 * r8)]) (hsN := [jgh, (101, [], [0, r7, r8, 0, 0, 0])]) rfl rfl rfl ?_
  refine jT_adv 1 (pcN := 20) (LN := [(4, (0, 5)), (2, (1, 108917793695 * r7 + 159561683699 * r8)), (0, (4, 0)), (1, (4, 1))]) (stN := [(5, 0), (1, 0), (1, 108917793695 * r7 + 159561683699 * r8)]) (hsN := [jgh, (101, [], [0, r7, r8, 0, 0, 0])]) (c1 := 0) (s1 := 0) (c2 := 0) (s2 := 0) (by exact rfl) ?_ (by omega) (by omega)
  refine jT_xiload (v := (0, 5)) (pcN := 22) jIQ_41_20 rfl rfl rfl ?_
  refine jT_adv 1 (pcN := 23) (LN := [(4, (0, 5)), (2, (1, 108917793695 * r7 + 159561683699 * r8)), (0, (4, 0)), (1, (4, 1))]) (stN := [(1, 254292281123), (1, 0), (1, 108917793695 * r7 + 159561683699 * r8)]) (hsN := [jgh, (101, [], [0, r7, r8, 0, 0, 0])]) (c1 := 0) (s1 := 0) (c2 := 0) (s2 := 0) (by exact rfl) ?_ (by omega) (by omega)
  refine jT_xlmul (x := 0) (y := 254292281123) (z := 0) (pcN := 24) jIQ_41_23 rfl (by decide) rfl ?_
  refine jT_xladd (x := 108917793695 * r7 + 159561683699 * r8) (y := 0) (z := 108917793695 * r7 + 159561683699 * r8) (pcN := 25) jIQ_41_24 rfl (by omega) rfl ?_
  refine jT_xlstore_n (v := (1, 108917793695 * r7 + 159561683699 * r8)) (LN := [(2, (1, 108917793695 * r7 + 159561683699 * r8)), (4, (0, 5)), (0, (4, 0)), (1, (4, 1))]) (pcN := 26) jIQ_41_25 rfl rfl rfl rfl ?_
  refine jT_xiinc (x := 5) (z := 6) (LN := [(4, (0, 6)), (2, (1, 108917793695 * r7 + 159561683699 * r8)), (0, (4, 0)), (1, (4, 1))]) (pcN := 29) jIQ_41_26 rfl rfl (by decide) rfl rfl ?_
  refine jT_xgoto (pcN := 5) jIQ_41_29 rfl ?_
  refine jT_xiload (v := (0, 6)) (pcN := 7) jIQ_41_5 rfl rfl rfl ?_
  refine jT_xbipush (k := 6) (pcN := 9) jIQ_41_7 (by decide) rfl ?_
  refine jT_xicT (pcN := 32) jIQ_41_9 rfl (by decide +kernel) rfl ?_
  refine jT_xlload_n (v := (1, 108917793695 * r7 + 159561683699 * r8)) (pcN := 33) jIQ_41_32 rfl rfl rfl ?_
  exact jT_ret rfl (by decide) (by show 2 ≤ 2; omega) (by omega) (by omega) ⟨rfl, rfl, rfl⟩
theorem jQ_39_61 {xs : List Int} {d : Nat} {r7 r8 : Int} (h_r7 : (-20) ≤ r7 ∧ r7 ≤ 20) (h_r8 : (-10) ≤ r8 ∧ r8 ≤ 10) (g_0 : 0 ≤ r7) (g_1 : r8 < 0) (g_2 : 108917793695 * r7 + 159561683699 * r8 < 0) : jT xs d 39 2 0 [(0, (4, 0)), (1, (4, 1))] [] [jgh, (101, [], [0, r7, r8, 0, 0, 0])] 0 0 (fun k v hsN => k = 0 ∧ v = (1, r7 - r8) ∧ hsN = [jgh, (101, [], [0, r7, r8, 0, 0, 0])] ++ []) := by
  refine jT_xlconst (z := 0) (pcN := 1) jIQ_39_0 rfl rfl ?_
  refine jT_xlstore_n (v := (1, 0)) (LN := [(2, (1, 0)), (0, (4, 0)), (1, (4, 1))]) (pcN := 2) jIQ_39_1 rfl rfl rfl rfl ?_
  refine jT_xiconst (k := 1) (pcN := 3) jIQ_39_2 rfl ?_
  refine jT_xistore (v := (0, 1)) (LN := [(4, (0, 1)), (2, (1, 0)), (0, (4, 0)), (1, (4, 1))]) (pcN := 5) jIQ_39_3 rfl rfl rfl rfl ?_
  refine jT_xiload (v := (0, 1)) (pcN := 7) jIQ_39_5 rfl rfl rfl ?_
  refine jT_xbipush (k := 6) (pcN := 9) jIQ_39_7 (by decide) rfl ?_
  refine jT_xicF (t := 28) (pcN := 12) jIQ_39_9 rfl (by decide +kernel) rfl rfl ?_
  refine jT_xlload_n (v := (1, 0)) (pcN := 13) jIQ_39_12 rfl rfl rfl ?_
  refine jT_xaload_n (v := (4, 1)) (pcN := 14) jIQ_39_13 rfl rfl rfl ?_
  refine jT_xiload (v := (0, 1)) (pcN := 16) jIQ_39_14 rfl rfl rfl ?_
  refine jT_lald (x := r7) (a := 1) (j := 1) (fs := []) (X := [0, r7, r8, 0, 0, 0]) jIQ_39_16 rfl rfl rfl rfl ?_
  refine jT_eq (LN := [(4, (0, 1)), (2, (1, 0)), (0, (4, 0)), (1, (4, 1))]) (stN := [(1, r7), (1, 0)]) (hsN := [jgh, (101, [], [0, r7, r8, 0, 0, 0])]) rfl rfl rfl ?_
  refine jT_labs (z := r7) (by rfl) (by rfl) (by rfl) (by rfl) (by rw [show jwl (r7) = r7 from jwl_idd (by omega) (by omega), decide_eq_false (by omega)]; first | (simp only [cond_true, cond_false]; done) | (simp only [cond_true, cond_false]; omega) | rfl) ?_
  refine jT_xladd (x := 0) (y := r7) (z := r7) (pcN := 21) jIQ_39_20 rfl (by omega) rfl ?_
  refine jT_xlstore_n (v := (1, r7)) (LN := [(2, (1, r7)), (4, (0, 1)), (0, (4, 0)), (1, (4, 1))]) (pcN := 22) jIQ_39_21 rfl rfl rfl rfl ?_
  refine jT_xiinc (x := 1) (z := 2) (LN := [(4, (0, 2)), (2, (1, r7)), (0, (4, 0)), (1, (4, 1))]) (pcN := 25) jIQ_39_22 rfl rfl (by decide) rfl rfl ?_
  refine jT_xgoto (pcN := 5) jIQ_39_25 rfl ?_
  refine jT_xiload (v := (0, 2)) (pcN := 7) jIQ_39_5 rfl rfl rfl ?_
  refine jT_xbipush (k := 6) (pcN := 9) jIQ_39_7 (by decide) rfl ?_
  refine jT_xicF (t := 28) (pcN := 12) jIQ_39_9 rfl (by decide +kernel) rfl rfl ?_
  refine jT_xlload_n (v := (1, r7)) (pcN := 13) jIQ_39_12 rfl rfl rfl ?_
  refine jT_xaload_n (v := (4, 1)) (pcN := 14) jIQ_39_13 rfl rfl rfl ?_
  refine jT_xiload (v := (0, 2)) (pcN := 16) jIQ_39_14 rfl rfl rfl ?_
  refine jT_lald (x := r8) (a := 1) (j := 2) (fs := []) (X := [0, r7, r8, 0, 0, 0]) jIQ_39_16 rfl rfl rfl rfl ?_
  refine jT_eq (LN := [(4, (0, 2)), (2, (1, r7)), (0, (4, 0)), (1, (4, 1))]) (stN := [(1, r8), (1, r7)]) (hsN := [jgh, (101, [], [0, r7, r8, 0, 0, 0])]) rfl rfl rfl ?_
  refine jT_labs (z := -r8) (by rfl) (by rfl) (by rfl) (by rfl) (by rw [show jwl (r8) = r8 from jwl_idd (by omega) (by omega), decide_eq_true (by omega)]; first | (simp only [cond_true, cond_false]; done) | (simp only [cond_true, cond_false]; omega) | rfl) ?_
  refine jT_xladd (x := r7) (y := -r8) (z := r7 - r8) (pcN := 21) jIQ_39_20 rfl (by omega) rfl ?_
  refine jT_xlstore_n (v := (1, r7 - r8)) (LN := [(2, (1, r7 - r8)), (4, (0, 2)), (0, (4, 0)), (1, (4, 1))]) (pcN := 22) jIQ_39_21 rfl rfl rfl rfl ?_
  refine jT_xiinc (x := 2) (z := 3) (LN := [(4, (0, 3)), (2, (1, r7 - r8)), (0, (4, 0)), (1, (4, 1))]) (pcN := 25) jIQ_39_22 rfl rfl (by decide) rfl rfl ?_
  refine jT_xgoto (pcN := 5) jIQ_39_25 rfl ?_
  refine jT_xiload (v := (0, 3)) (pcN := 7) jIQ_39_5 rfl rfl rfl ?_
  refine jT_xbipush (k := 6) (pcN := 9) jIQ_39_7 (by decide) rfl ?_
  refine jT_xicF (t := 28) (pcN := 12) jIQ_39_9 rfl (by decide +kernel) rfl rfl ?_
  refine jT_xlload_n (v := (1, r7 - r8)) (pcN := 13) jIQ_39_12 rfl rfl rfl ?_
  refine jT_xaload_n (v := (4, 1)) (pcN := 14) jIQ_39_13 rfl rfl rfl ?_
  refine jT_xiload (v := (0, 3)) (pcN := 16) jIQ_39_14 rfl rfl rfl ?_
  refine jT_lald (x := 0) (a := 1) (j := 3) (fs := []) (X := [0, r7, r8, 0, 0, 0]) jIQ_39_16 rfl rfl rfl rfl ?_
  refine jT_eq (LN := [(4, (0, 3)), (2, (1, r7 - r8)), (0, (4, 0)), (1, (4, 1))]) (stN := [(1, 0), (1, r7 - r8)]) (hsN := [jgh, (101, [], [0, r7, r8, 0, 0, 0])]) rfl rfl rfl ?_
  refine jT_labs (z := 0) (by rfl) (by rfl) (by rfl) (by rfl) (by decide +kernel) ?_
  refine jT_xladd (x := r7 - r8) (y := 0) (z := r7 - r8) (pcN := 21) jIQ_39_20 rfl (by omega) rfl ?_
  refine jT_xlstore_n (v := (1, r7 - r8)) (LN := [(2, (1, r7 - r8)), (4, (0, 3)), (0, (4, 0)), (1, (4, 1))]) (pcN := 22) jIQ_39_21 rfl rfl rfl rfl ?_
  refine jT_xiinc (x := 3) (z := 4) (LN := [(4, (0, 4)), (2, (1, r7 - r8)), (0, (4, 0)), (1, (4, 1))]) (pcN := 25) jIQ_39_22 rfl rfl (by decide) rfl rfl ?_
  refine jT_xgoto (pcN := 5) jIQ_39_25 rfl ?_
  refine jT_xiload (v := (0, 4)) (pcN := 7) jIQ_39_5 rfl rfl rfl ?_
  refine jT_xbipush (k := 6) (pcN := 9) jIQ_39_7 (by decide) rfl ?_
  refine jT_xicF (t := 28) (pcN := 12) jIQ_39_9 rfl (by decide +kernel) rfl rfl ?_
  refine jT_xlload_n (v := (1, r7 - r8)) (pcN := 13) jIQ_39_12 rfl rfl rfl ?_
  refine jT_xaload_n (v := (4, 1)) (pcN := 14) jIQ_39_13 rfl rfl rfl ?_
  refine jT_xiload (v := (0, 4)) (pcN := 16) jIQ_39_14 rfl rfl rfl ?_
  refine jT_lald (x := 0) (a := 1) (j := 4) (fs := []) (X := [0, r7, r8, 0, 0, 0]) jIQ_39_16 rfl rfl rfl rfl ?_
  refine jT_eq (LN := [(4, (0, 4)), (2, (1, r7 - r8)), (0, (4, 0)), (1, (4, 1))]) (stN := [(1, 0), (1, r7 - r8)]) (hsN := [jgh, (101, [], [0, r7, r8, 0, 0, 0])]) rfl rfl rfl ?_
  refine jT_labs (z := 0) (by rfl) (by rfl) (by rfl) (by rfl) (by decide +kernel) ?_
  refine jT_xladd (x := r7 - r8) (y := 0) (z := r7 - r8) (pcN := 21) jIQ_39_20 rfl (by omega) rfl ?_
  refine jT_xlstore_n (v := (1, r7 - r8)) (LN := [(2, (1, r7 - r8)), (4, (0, 4)), (0, (4, 0)), (1, (4, 1))]) (pcN := 22) jIQ_39_21 rfl rfl rfl rfl ?_
  refine jT_xiinc (x := 4) (z := 5) (LN := [(4, (0, 5)), (2, (1, r7 - r8)), (0, (4, 0)), (1, (4, 1))]) (pcN := 25) jIQ_39_22 rfl rfl (by decide) rfl rfl ?_
  refine jT_xgoto (pcN := 5) jIQ_39_25 rfl ?_
  refine jT_xiload (v := (0, 5)) (pcN := 7) jIQ_39_5 rfl rfl rfl ?_
  refine jT_xbipush (k := 6) (pcN := 9) jIQ_39_7 (by decide) rfl ?_
  refine jT_xicF (t := 28) (pcN := 12) jIQ_39_9 rfl (by decide +kernel) rfl rfl ?_
  refine jT_xlload_n (v := (1, r7 - r8)) (pcN := 13) jIQ_39_12 rfl rfl rfl ?_
  refine jT_xaload_n (v := (4, 1)) (pcN := 14) jIQ_39_13 rfl rfl rfl ?_
  refine jT_xiload (v := (0, 5)) (pcN := 16) jIQ_39_14 rfl rfl rfl ?_
  refine jT_lald (x := 0) (a := 1) (j := 5) (fs := []) (X := [0, r7, r8, 0, 0, 0]) jIQ_39_16 rfl rfl rfl rfl ?_
  refine jT_eq (LN := [(4, (0, 5)), (2, (1, r7 - r8)), (0, (4, 0)), (1, (4, 1))]) (stN := [(1, 0), (1, r7 - r8)]) (hsN := [jgh, (101, [], [0, r7, r8, 0, 0, 0])]) rfl rfl rfl ?_
  refine jT_labs (z := 0) (by rfl) (by rfl) (by rfl) (by rfl) (by decide +kernel) ?_
  refine jT_xladd (x := r7 - r8) (y := 0) (z := r7 - r8) (pcN := 21) jIQ_39_20 rfl (by omega) rfl ?_
  refine jT_xlstore_n (v := (1, r7 - r8)) (LN := [(2, (1, r7 - r8)), (4, (0, 5)), (0, (4, 0)), (1, (4, 1))]) (pcN := 22) jIQ_39_21 rfl rfl rfl rfl ?_
  refine jT_xiinc (x := 5) (z := 6) (LN := [(4, (0, 6)), (2, (1, r7 - r8)), (0, (4, 0)), (1, (4, 1))]) (pcN := 25) jIQ_39_22 rfl rfl (by decide) rfl rfl ?_
  refine jT_xgoto (pcN := 5) jIQ_39_25 rfl ?_
  refine jT_xiload (v := (0, 6)) (pcN := 7) jIQ_39_5 rfl rfl rfl ?_
  refine jT_xbipush (k := 6) (pcN := 9) jIQ_39_7 (by decide) rfl ?_
  refine jT_xicT (pcN := 28) jIQ_39_9 rfl (by decide +kernel) rfl ?_
  refine jT_xlload_n (v := (1, r7 - r8)) (pcN := 29) jIQ_39_28 rfl rfl rfl ?_
  exact jT_ret rfl (by decide) (by show 2 ≤ 2; omega) (by omega) (by omega) ⟨rfl, rfl, rfl⟩
theorem jQ_40_62 {xs : List Int} {d : Nat} {r7 r8 : Int} (h_r7 : (-20) ≤ r7 ∧ r7 ≤ 20) (h_r8 : (-10) ≤ r8 ∧ r8 ≤ 10) (g_0 : 0 ≤ r7) (g_1 : r8 < 0) (g_2 : 108917793695 * r7 + 159561683699 * r8 < 0) : jT xs d 40 2 0 [(0, (4, 0)), (1, (4, 1)), (2, (1, r7 - r8))] [] [jgh, (101, [], [0, r7, r8, 0, 0, 0])] 0 0 (fun k v hsN => k = 0 ∧ v = (0, 1) ∧ hsN = [jgh, (101, [], [0, r7, r8, 0, 0, 0])] ++ []) := by
  refine jT_xlload_n (v := (1, r7 - r8)) (pcN := 1) jIQ_40_0 rfl rfl rfl ?_
  refine jT_adv 1 (pcN := 4) (LN := [(0, (4, 0)), (1, (4, 1)), (2, (1, r7 - r8))]) (stN := [(1, 16777216), (1, r7 - r8)]) (hsN := [jgh, (101, [], [0, r7, r8, 0, 0, 0])]) (c1 := 0) (s1 := 0) (c2 := 0) (s2 := 0) (by exact rfl) ?_ (by omega) (by omega)
  refine jT_lcmp (a := r7 - r8) (b := 16777216) (z := (-1)) (by rfl) (by rfl) (jwl_idd (by omega) (by omega)) (jwl_idd (by omega) (by omega)) (by rw [decide_eq_false (show ¬ ((16777216 : Int) < r7 - r8) by omega), decide_eq_false (show ¬ ((r7 - r8 : Int) = 16777216) by omega)]; rfl) ?_
  refine jT_xifF (t := 25) (pcN := 8) jIQ_40_5 rfl (by decide +kernel) rfl rfl ?_
  refine jT_xaload_n (v := (4, 1)) (pcN := 9) jIQ_40_8 rfl rfl rfl ?_
  refine jT_xiconst (k := 0) (pcN := 10) jIQ_40_9 rfl ?_
  refine jT_lald (x := 0) (a := 1) (j := 0) (fs := []) (X := [0, r7, r8, 0, 0, 0]) jIQ_40_10 rfl rfl rfl rfl ?_
  refine jT_eq (LN := [(0, (4, 0)), (1, (4, 1)), (2, (1, r7 - r8))]) (stN := [(1, 0)]) (hsN := [jgh, (101, [], [0, r7, r8, 0, 0, 0])]) rfl rfl rfl ?_
  refine jT_labs (z := 0) (by rfl) (by rfl) (by rfl) (by rfl) (by decide +kernel) ?_
  refine jT_adv 1 (pcN := 17) (LN := [(0, (4, 0)), (1, (4, 1)), (2, (1, r7 - r8))]) (stN := [(1, 16777216), (1, 0)]) (hsN := [jgh, (101, [], [0, r7, r8, 0, 0, 0])]) (c1 := 0) (s1 := 0) (c2 := 0) (s2 := 0) (by exact rfl) ?_ (by omega) (by omega)
  refine jT_lcmp (a := 0) (b := 16777216) (z := (-1)) (by rfl) (by rfl) (by decide +kernel) (by decide +kernel) (by decide) ?_
  refine jT_xifF (t := 25) (pcN := 21) jIQ_40_18 rfl (by decide +kernel) rfl rfl ?_
  refine jT_xiconst (k := 1) (pcN := 22) jIQ_40_21 rfl ?_
  refine jT_xgoto (pcN := 26) jIQ_40_22 rfl ?_
  exact jT_ret rfl (by decide) (by show 2 ≤ 2; omega) (by omega) (by omega) ⟨rfl, rfl, rfl⟩
theorem jQ_41_63 {xs : List Int} {d : Nat} {r7 r8 : Int} (h_r7 : (-20) ≤ r7 ∧ r7 ≤ 20) (h_r8 : (-10) ≤ r8 ∧ r8 ≤ 10) (g_0 : 0 ≤ r7) (g_1 : r8 < 0) (g_2 : 108917793695 * r7 + 159561683699 * r8 < 0) : jT xs d 41 2 0 [(0, (4, 0)), (1, (4, 1))] [] [jgh, (101, [], [0, r7, r8, 0, 0, 0])] 0 0 (fun k v hsN => k = 0 ∧ v = (1, 108917793695 * r7 + 159561683699 * r8) ∧ hsN = [jgh, (101, [], [0, r7, r8, 0, 0, 0])] ++ []) := by
  refine jT_xlconst (z := 0) (pcN := 1) jIQ_41_0 rfl rfl ?_
  refine jT_xlstore_n (v := (1, 0)) (LN := [(2, (1, 0)), (0, (4, 0)), (1, (4, 1))]) (pcN := 2) jIQ_41_1 rfl rfl rfl rfl ?_
  refine jT_xiconst (k := 0) (pcN := 3) jIQ_41_2 rfl ?_
  refine jT_xistore (v := (0, 0)) (LN := [(4, (0, 0)), (2, (1, 0)), (0, (4, 0)), (1, (4, 1))]) (pcN := 5) jIQ_41_3 rfl rfl rfl rfl ?_
  refine jT_xiload (v := (0, 0)) (pcN := 7) jIQ_41_5 rfl rfl rfl ?_
  refine jT_xbipush (k := 6) (pcN := 9) jIQ_41_7 (by decide) rfl ?_
  refine jT_xicF (t := 32) (pcN := 12) jIQ_41_9 rfl (by decide +kernel) rfl rfl ?_
  refine jT_xlload_n (v := (1, 0)) (pcN := 13) jIQ_41_12 rfl rfl rfl ?_
  refine jT_xaload_n (v := (4, 1)) (pcN := 14) jIQ_41_13 rfl rfl rfl ?_
  refine jT_xiload (v := (0, 0)) (pcN := 16) jIQ_41_14 rfl rfl rfl ?_
  refine jT_lald (x := 0) (a := 1) (j := 0) (fs := []) (X := [0, r7, r8, 0, 0, 0]) jIQ_41_16 rfl rfl rfl rfl ?_
  refine jT_eq (LN := [(4, (0, 0)), (2, (1, 0)), (0, (4, 0)), (1, (4, 1))]) (stN := [(1, 0), (1, 0)]) (hsN := [jgh, (101, [], [0, r7, r8, 0, 0, 0])]) rfl rfl rfl ?_
  refine jT_adv 1 (pcN := 20) (LN := [(4, (0, 0)), (2, (1, 0)), (0, (4, 0)), (1, (4, 1))]) (stN := [(5, 0), (1, 0), (1, 0)]) (hsN := [jgh, (101, [], [0, r7, r8, 0, 0, 0])]) (c1 := 0) (s1 := 0) (c2 := 0) (s2 := 0) (by exact rfl) ?_ (by omega) (by omega)
  refine jT_xiload (v := (0, 0)) (pcN := 22) jIQ_41_20 rfl rfl rfl ?_
  refine jT_adv 1 (pcN := 23) (LN := [(4, (0, 0)), (2, (1, 0)), (0, (4, 0)), (1, (4, 1))]) (stN := [(1, 68719476736), (1, 0), (1, 0)]) (hsN := [jgh, (101, [], [0, r7, r8, 0, 0, 0])]) (c1 := 0) (s1 := 0) (c2 := 0) (s2 := 0) (by exact rfl) ?_ (by omega) (by omega)
  refine jT_xlmul (x := 0) (y := 68719476736) (z := 0) (pcN := 24) jIQ_41_23 rfl (by decide) rfl ?_
  refine jT_xladd (x := 0) (y := 0) (z := 0) (pcN := 25) jIQ_41_24 rfl (by decide) rfl ?_
  refine jT_xlstore_n (v := (1, 0)) (LN := [(2, (1, 0)), (4, (0, 0)), (0, (4, 0)), (1, (4, 1))]) (pcN := 26) jIQ_41_25 rfl rfl rfl rfl ?_
  refine jT_xiinc (x := 0) (z := 1) (LN := [(4, (0, 1)), (2, (1, 0)), (0, (4, 0)), (1, (4, 1))]) (pcN := 29) jIQ_41_26 rfl rfl (by decide) rfl rfl ?_
  refine jT_xgoto (pcN := 5) jIQ_41_29 rfl ?_
  refine jT_xiload (v := (0, 1)) (pcN := 7) jIQ_41_5 rfl rfl rfl ?_
  refine jT_xbipush (k := 6) (pcN := 9) jIQ_41_7 (by decide) rfl ?_
  refine jT_xicF (t := 32) (pcN := 12) jIQ_41_9 rfl (by decide +kernel) rfl rfl ?_
  refine jT_xlload_n (v := (1, 0)) (pcN := 13) jIQ_41_12 rfl rfl rfl ?_
  refine jT_xaload_n (v := (4, 1)) (pcN := 14) jIQ_41_13 rfl rfl rfl ?_
  refine jT_xiload (v := (0, 1)) (pcN := 16) jIQ_41_14 rfl rfl rfl ?_
  refine jT_lald (x := r7) (a := 1) (j := 1) (fs := []) (X := [0, r7, r8, 0, 0, 0]) jIQ_41_16 rfl rfl rfl rfl ?_
  refine jT_eq (LN := [(4, (0, 1)), (2, (1, 0)), (0, (4, 0)), (1, (4, 1))]) (stN := [(1, r7), (1, 0)]) (hsN := [jgh, (101, [], [0, r7, r8, 0, 0, 0])]) rfl rfl rfl ?_
  refine jT_adv 1 (pcN := 20) (LN := [(4, (0, 1)), (2, (1, 0)), (0, (4, 0)), (1, (4, 1))]) (stN := [(5, 0), (1, r7), (1, 0)]) (hsN := [jgh, (101, [], [0, r7, r8, 0, 0, 0])]) (c1 := 0) (s1 := 0) (c2 := 0) (s2 := 0) (by exact rfl) ?_ (by omega) (by omega)
  refine jT_xiload (v := (0, 1)) (pcN := 22) jIQ_41_20 rfl rfl rfl ?_
  refine jT_adv 1 (pcN := 23) (LN := [(4, (0, 1)), (2, (1, 0)), (0, (4, 0)), (1, (4, 1))]) (stN := [(1, 108917793695), (1, r7), (1, 0)]) (hsN := [jgh, (101, [], [0, r7, r8, 0, 0, 0])]) (c1 := 0) (s1 := 0) (c2 := 0) (s2 := 0) (by exact rfl) ?_ (by omega) (by omega)
  refine jT_xlmul (x := r7) (y := 108917793695) (z := 108917793695 * r7) (pcN := 24) jIQ_41_23 rfl (by omega) rfl ?_
  refine jT_xladd (x := 0) (y := 108917793695 * r7) (z := 108917793695 * r7) (pcN := 25) jIQ_41_24 rfl (by omega) rfl ?_
  refine jT_xlstore_n (v := (1, 108917793695 * r7)) (LN := [(2, (1, 108917793695 * r7)), (4, (0, 1)), (0, (4, 0)), (1, (4, 1))]) (pcN := 26) jIQ_41_25 rfl rfl rfl rfl ?_
  refine jT_xiinc (x := 1) (z := 2) (LN := [(4, (0, 2)), (2, (1, 108917793695 * r7)), (0, (4, 0)), (1, (4, 1))]) (pcN := 29) jIQ_41_26 rfl rfl (by decide) rfl rfl ?_
  refine jT_xgoto (pcN := 5) jIQ_41_29 rfl ?_
  refine jT_xiload (v := (0, 2)) (pcN := 7) jIQ_41_5 rfl rfl rfl ?_
  refine jT_xbipush (k := 6) (pcN := 9) jIQ_41_7 (by decide) rfl ?_
  refine jT_xicF (t := 32) (pcN := 12) jIQ_41_9 rfl (by decide +kernel) rfl rfl ?_
  refine jT_xlload_n (v := (1, 108917793695 * r7)) (pcN := 13) jIQ_41_12 rfl rfl rfl ?_
  refine jT_xaload_n (v := (4, 1)) (pcN := 14) jIQ_41_13 rfl rfl rfl ?_
  refine jT_xiload (v := (0, 2)) (pcN := 16) jIQ_41_14 rfl rfl rfl ?_
  refine jT_lald (x := r8) (a := 1) (j := 2) (fs := []) (X := [0, r7, r8, 0, 0, 0]) jIQ_41_16 rfl rfl rfl rfl ?_
  refine jT_eq (LN := [(4, (0, 2)), (2, (1, 108917793695 * r7)), (0, (4, 0)), (1, (4, 1))]) (stN := [(1, r8), (1, 108917793695 * r7)]) (hsN := [jgh, (101, [], [0, r7, r8, 0, 0, 0])]) rfl rfl rfl ?_
  refine jT_adv 1 (pcN := 20) (LN := [(4, (0, 2)), (2, (1, 108917793695 * r7)), (0, (4, 0)), (1, (4, 1))]) (stN := [(5, 0), (1, r8), (1, 108917793695 * r7)]) (hsN := [jgh, (101, [], [0, r7, r8, 0, 0, 0])]) (c1 := 0) (s1 := 0) (c2 := 0) (s2 := 0) (by exact rfl) ?_ (by omega) (by omega)
  refine jT_xiload (v := (0, 2)) (pcN := 22) jIQ_41_20 rfl rfl rfl ?_
  refine jT_adv 1 (pcN := 23) (LN := [(4, (0, 2)), (2, (1, 108917793695 * r7)), (0, (4, 0)), (1, (4, 1))]) (stN := [(1, 159561683699), (1, r8), (1, 108917793695 * r7)]) (hsN := [jgh, (101, [], [0, r7, r8, 0, 0, 0])]) (c1 := 0) (s1 := 0) (c2 := 0) (s2 := 0) (by exact rfl) ?_ (by omega) (by omega)
  refine jT_xlmul (x := r8) (y := 159561683699) (z := 159561683699 * r8) (pcN := 24) jIQ_41_23 rfl (by omega) rfl ?_
  refine jT_xladd (x := 108917793695 * r7) (y := 159561683699 * r8) (z := 108917793695 * r7 + 159561683699 * r8) (pcN := 25) jIQ_41_24 rfl (by omega) rfl ?_
  refine jT_xlstore_n (v := (1, 108917793695 * r7 + 159561683699 * r8)) (LN := [(2, (1, 108917793695 * r7 + 159561683699 * r8)), (4, (0, 2)), (0, (4, 0)), (1, (4, 1))]) (pcN := 26) jIQ_41_25 rfl rfl rfl rfl ?_
  refine jT_xiinc (x := 2) (z := 3) (LN := [(4, (0, 3)), (2, (1, 108917793695 * r7 + 159561683699 * r8)), (0, (4, 0)), (1, (4, 1))]) (pcN := 29) jIQ_41_26 rfl rfl (by decide) rfl rfl ?_
  refine jT_xgoto (pcN := 5) jIQ_41_29 rfl ?_
  refine jT_xiload (v := (0, 3)) (pcN := 7) jIQ_41_5 rfl rfl rfl ?_
  refine jT_xbipush (k := 6) (pcN := 9) jIQ_41_7 (by decide) rfl ?_
  refine jT_xicF (t := 32) (pcN := 12) jIQ_41_9 rfl (by decide +kernel) rfl rfl ?_
  refine jT_xlload_n (v := (1, 108917793695 * r7 + 159561683699 * r8)) (pcN := 13) jIQ_41_12 rfl rfl rfl ?_
  refine jT_xaload_n (v := (4, 1)) (pcN := 14) jIQ_41_13 rfl rfl rfl ?_
  refine jT_xiload (v := (0, 3)) (pcN := 16) jIQ_41_14 rfl rfl rfl ?_
  refine jT_lald (x := 0) (a := 1) (j := 3) (fs := []) (X := [0, r7, r8, 0, 0, 0]) jIQ_41_16 rfl rfl rfl rfl ?_
  refine jT_eq (LN := [(4, (0, 3)), (2, (1, 108917793695 * r7 + 159561683699 * r8)), (0, (4, 0)), (1, (4, 1))]) (stN := [(1, 0), (1, 108917793695 * r7 + 159561683699 * r8)]) (hsN := [jgh, (101, [], [0, r7, r8, 0, 0, 0])]) rfl rfl rfl ?_
  refine jT_adv 1 (pcN := 20) (LN := [(4, (0, 3)), (2, (1, 108917793695 * r7 + 159561683699 * r8)), (0, (4, 0)), (1, (4, 1))]) (stN := [(5, 0), (1, 0), (1, 108917793695 * r7 + 159561683699 * r8)]) (hsN := [jgh, (101, [], [0, r7, r8, 0, 0, 0])]) (c1 := 0) (s1 := 0) (c2 := 0) (s2 := 0) (by exact rfl) ?_ (by omega) (by omega)
  refine jT_xiload (v := (0, 3)) (pcN := 22) jIQ_41_20 rfl rfl rfl ?_
  refine jT_adv 1 (pcN := 23) (LN := [(4, (0, 3)), (2, (1, 108917793695 * r7 + 159561683699 * r8)), (0, (4, 0)), (1, (4, 1))]) (stN := [(1, 192919961256), (1, 0), (1, 108917793695 * r7 + 159561683699 * r8)]) (hsN := [jgh, (101, [], [0, r7, r8, 0, 0, 0])]) (c1 := 0) (s1 := 0) (c2 := 0) (s2 := 0) (by exact rfl) ?_ (by omega) (by omega)
  refine jT_xlmul (x := 0) (y := 192919961256) (z := 0) (pcN := 24) jIQ_41_23 rfl (by decide) rfl ?_
  refine jT_xladd (x := 108917793695 * r7 + 159561683699 * r8) (y := 0) (z := 108917793695 * r7 + 159561683699 * r8) (pcN := 25) jIQ_41_24 rfl (by omega) rfl ?_
  refine jT_xlstore_n (v := (1, 108917793695 * r7 + 159561683699 * r8)) (LN := [(2, (1, 108917793695 * r7 + 159561683699 * r8)), (4, (0, 3)), (0, (4, 0)), (1, (4, 1))]) (pcN := 26) jIQ_41_25 rfl rfl rfl rfl ?_
  refine jT_xiinc (x := 3) (z := 4) (LN := [(4, (0, 4)), (2, (1, 108917793695 * r7 + 159561683699 * r8)), (0, (4, 0)), (1, (4, 1))]) (pcN := 29) jIQ_41_26 rfl rfl (by decide) rfl rfl ?_
  refine jT_xgoto (pcN := 5) jIQ_41_29 rfl ?_
  refine jT_xiload (v := (0, 4)) (pcN := 7) jIQ_41_5 rfl rfl rfl ?_
  refine jT_xbipush (k := 6) (pcN := 9) jIQ_41_7 (by decide) rfl ?_
  refine jT_xicF (t := 32) (pcN := 12) jIQ_41_9 rfl (by decide +kernel) rfl rfl ?_
  refine jT_xlload_n (v := (1, 108917793695 * r7 + 159561683699 * r8)) (pcN := 13) jIQ_41_12 rfl rfl rfl ?_
  refine jT_xaload_n (v := (4, 1)) (pcN := 14) jIQ_41_13 rfl rfl rfl ?_
  refine jT_xiload (v := (0, 4)) (pcN := 16) jIQ_41_14 rfl rfl rfl ?_
  refine jT_lald (x := 0) (a := 1) (j := 4) (fs := []) (X := [0, r7, r8, 0, 0, 0]) jIQ_41_16 rfl rfl rfl rfl ?_
  refine jT_eq (LN := [(4, (0, 4)), (2, (1, 108917793695 * r7 + 159561683699 * r8)), (0, (4, 0)), (1, (4, 1))]) (stN := [(1, 0), (1, 108917793695 * r7 + 159561683699 * r8)]) (hsN := [jgh, (101, [], [0, r7, r8, 0, 0, 0])]) rfl rfl rfl ?_
  refine jT_adv 1 (pcN := 20) (LN := [(4, (0, 4)), (2, (1, 108917793695 * r7 + 159561683699 * r8)), (0, (4, 0)), (1, (4, 1))]) (stN := [(5, 0), (1, 0), (1, 108917793695 * r7 + 159561683699 * r8)]) (hsN := [jgh, (101, [], [0, r7, r8, 0, 0, 0])]) (c1 := 0) (s1 := 0) (c2 := 0) (s2 := 0) (by exact rfl) ?_ (by omega) (by omega)
  refine jT_xiload (v := (0, 4)) (pcN := 22) jIQ_41_20 rfl rfl rfl ?_
  refine jT_adv 1 (pcN := 23) (LN := [(4, (0, 4)), (2, (1, 108917793695 * r7 + 159561683699 * r8)), (0, (4, 0)), (1, (4, 1))]) (stN := [(1, 237730330636), (1, 0), (1, 108917793695 * r7 + 159561683699 * r8)]) (hsN := [jgh, (101, [], [0, r7, r8, 0, 0, 0])]) (c1 := 0) (s1 := 0) (c2 := 0) (s2 := 0) (by exact rfl) ?_ (by omega) (by omega)
  refine jT_xlmul (x := 0) (y := 237730330636) (z := 0) (pcN := 24) jIQ_41_23 rfl (by decide) rfl ?_
  refine jT_xladd (x := 108917793695 * r7 + 159561683699 * r8) (y := 0) (z := 108917793695 * r7 + 159561683699 * r8) (pcN := 25) jIQ_41_24 rfl (by omega) rfl ?_
  refine jT_xlstore_n (v := (1, 108917793695 * r7 + 159561683699 * r8)) (LN := [(2, (1, 108917793695 * r7 + 159561683699 * r8)), (4, (0, 4)), (0, (4, 0)), (1, (4, 1))]) (pcN := 26) jIQ_41_25 rfl rfl rfl rfl ?_
  refine jT_xiinc (x := 4) (z := 5) (LN := [(4, (0, 5)), (2, (1, 108917793695 * r7 + 159561683699 * r8)), (0, (4, 0)), (1, (4, 1))]) (pcN := 29) jIQ_41_26 rfl rfl (by decide) rfl rfl ?_
  refine jT_xgoto (pcN := 5) jIQ_41_29 rfl ?_
  refine jT_xiload (v := (0, 5)) (pcN := 7) jIQ_41_5 rfl rfl rfl ?_
  refine jT_xbipush (k := 6) (pcN := 9) jIQ_41_7 (by decide) rfl ?_
  refine jT_xicF (t := 32) (pcN := 12) jIQ_41_9 rfl (by decide +kernel) rfl rfl ?_
  refine jT_xlload_n (v := (1, 108917793695 * r7 + 159561683699 * r8)) (pcN := 13) jIQ_41_12 rfl rfl rfl ?_
  refine jT_xaload_n (v := (4, 1)) (pcN := 14) jIQ_41_13 rfl rfl rfl ?_
  refine jT_xiload (v := (0, 5)) (pcN := 16) jIQ_41_14 rfl rfl rfl ?_
  refine jT_lald (x := 0) (a := 1) (j := 5) (fs := []) (X := [0, r7, r8, 0, 0, 0]) jIQ_41_16 rfl rfl rfl rfl ?_
  refine jT_eq (LN := [(4, (0, 5)), (2, (1, 108917793695 * r7 + 159561683699 * r8)), (0, (4, 0)), (1, (4, 1))]) (stN := [(1, 0), (1, 108917793695 * r7 + 159561683699 * r8)]) (hsN := [jgh, (101, [], [0, r7, r8, 0, 0, 0])]) rfl rfl rfl ?_
  refine jT_adv 1 (pcN := 20) (LN := [(4, (0, 5)), (2, (1, 108917793695 * r7 + 159561683699 * r8)), (0, (4, 0)), (1, (4, 1))]) (stN := [(5, 0), (1, 0), (1, 108917793695 * r7 + 159561683699 * r8)]) (hsN := [jgh, (101, [], [0, r7, r8, 0, 0, 0])]) (c1 := 0) (s1 := 0) (c2 := 0) (s2 := 0) (by exact rfl) ?_ (by omega) (by omega)
  refine jT_xiload (v := (0, 5)) (pcN := 22) jIQ_41_20 rfl rfl rfl ?_
  refine jT_adv 1 (pcN := 23) (LN := [(4, (0, 5)), (2, (1, 108917793695 * r7 + 159561683699 * r8)), (0, (4, 0)), (1, (4, 1))]) (stN := [(1, 254292281123), (1, 0), (1, 108917793695 * r7 + 159561683699 * r8)]) (hsN := [jgh, (101, [], [0, r7, r8, 0, 0, 0])]) (c1 := 0) (s1 := 0) (c2 := 0) (s2 := 0) (by exact rfl) ?_ (by omega) (by omega)
  refine jT_xlmul (x := 0) (y := 254292281123) (z := 0) (pcN := 24) jIQ_41_23 rfl (by decide) rfl ?_
  refine jT_xladd (x := 108917793695 * r7 + 159561683699 * r8) (y := 0) (z := 108917793695 * r7 + 159561683699 * r8) (pcN := 25) jIQ_41_24 rfl (by omega) rfl ?_
  refine jT_xlstore_n (v := (1, 108917793695 * r7 + 159561683699 * r8)) (LN := [(2, (1, 108917793695 * r7 + 159561683699 * r8)), (4, (0, 5)), (0, (4, 0)), (1, (4, 1))]) (pcN := 26) jIQ_41_25 rfl rfl rfl rfl ?_
  refine jT_xiinc (x := 5) (z := 6) (LN := [(4, (0, 6)), (2, (1, 108917793695 * r7 + 159561683699 * r8)), (0, (4, 0)), (1, (4, 1))]) (pcN := 29) jIQ_41_26 rfl rfl (by decide) rfl rfl ?_
  refine jT_xgoto (pcN := 5) jIQ_41_29 rfl ?_
  refine jT_xiload (v := (0, 6)) (pcN := 7) jIQ_41_5 rfl rfl rfl ?_
  refine jT_xbipush (k := 6) (pcN := 9) jIQ_41_7 (by decide) rfl ?_
  refine jT_xicT (pcN := 32) jIQ_41_9 rfl (by decide +kernel) rfl ?_
  refine jT_xlload_n (v := (1, 108917793695 * r7 + 159561683699 * r8)) (pcN := 33) jIQ_41_32 rfl rfl rfl ?_
  exact jT_ret rfl (by decide) (by show 2 ≤ 2; omega) (by omega) (by omega) ⟨rfl, rfl, rfl⟩
theorem jQ_39_64 {xs : List Int} {d : Nat} {r7 r8 : Int} (h_r7 : (-20) ≤ r7 ∧ r7 ≤ 20) (h_r8 : (-10) ≤ r8 ∧ r8 ≤ 10) (g_0 : 0 ≤ r7) (g_1 : r8 < 0) (g_2 : 0 ≤ 108917793695 * r7 + 159561683699 * r8) : jT xs d 39 2 0 [(0, (4, 0)), (1, (4, 1))] [] [jgh, (101, [], [0, r7, r8, 0, 0, 0])] 0 0 (fun k v hsN => k = 0 ∧ v = (1, r7 - r8) ∧ hsN = [jgh, (101, [], [0, r7, r8, 0, 0, 0])] ++ []) := by
  refine jT_xlconst (z := 0) (pcN := 1) jIQ_39_0 rfl rfl ?_
  refine jT_xlstore_n (v := (1, 0)) (LN := [(2, (1, 0)), (0, (4, 0)), (1, (4, 1))]) (pcN := 2) jIQ_39_1 rfl rfl rfl rfl ?_
  refine jT_xiconst (k := 1) (pcN := 3) jIQ_39_2 rfl ?_
  refine jT_xistore (v := (0, 1)) (LN := [(4, (0, 1)), (2, (1, 0)), (0, (4, 0)), (1, (4, 1))]) (pcN := 5) jIQ_39_3 rfl rfl rfl rfl ?_
  refine jT_xiload (v := (0, 1)) (pcN := 7) jIQ_39_5 rfl rfl rfl ?_
  refine jT_xbipush (k := 6) (pcN := 9) jIQ_39_7 (by decide) rfl ?_
  refine jT_xicF (t := 28) (pcN := 12) jIQ_39_9 rfl (by decide +kernel) rfl rfl ?_
  refine jT_xlload_n (v := (1, 0)) (pcN := 13) jIQ_39_12 rfl rfl rfl ?_
  refine jT_xaload_n (v := (4, 1)) (pcN := 14) jIQ_39_13 rfl rfl rfl ?_
  refine jT_xiload (v := (0, 1)) (pcN := 16) jIQ_39_14 rfl rfl rfl ?_
  refine jT_lald (x := r7) (a := 1) (j := 1) (fs := []) (X := [0, r7, r8, 0, 0, 0]) jIQ_39_16 rfl rfl rfl rfl ?_
  refine jT_eq (LN := [(4, (0, 1)), (2, (1, 0)), (0, (4, 0)), (1, (4, 1))]) (stN := [(1, r7), (1, 0)]) (hsN := [jgh, (101, [], [0, r7, r8, 0, 0, 0])]) rfl rfl rfl ?_
  refine jT_labs (z := r7) (by rfl) (by rfl) (by rfl) (by rfl) (by rw [show jwl (r7) = r7 from jwl_idd (by omega) (by omega), decide_eq_false (by omega)]; first | (simp only [cond_true, cond_false]; done) | (simp only [cond_true, cond_false]; omega) | rfl) ?_
  refine jT_xladd (x := 0) (y := r7) (z := r7) (pcN := 21) jIQ_39_20 rfl (by omega) rfl ?_
  refine jT_xlstore_n (v := (1, r7)) (LN := [(2, (1, r7)), (4, (0, 1)), (0, (4, 0)), (1, (4, 1))]) (pcN := 22) jIQ_39_21 rfl rfl rfl rfl ?_
  refine jT_xiinc (x := 1) (z := 2) (LN := [(4, (0, 2)), (2, (1, r7)), (0, (4, 0)), (1, (4, 1))]) (pcN := 25) jIQ_39_22 rfl rfl (by decide) rfl rfl ?_
  refine jT_xgoto (pcN := 5) jIQ_39_25 rfl ?_
  refine jT_xiload (v := (0, 2)) (pcN := 7) jIQ_39_5 rfl rfl rfl ?_
  refine jT_xbipush (k := 6) (pcN := 9) jIQ_39_7 (by decide) rfl ?_
  refine jT_xicF (t := 28) (pcN := 12) jIQ_39_9 rfl (by decide +kernel) rfl rfl ?_
  refine jT_xlload_n (v := (1, r7)) (pcN := 13) jIQ_39_12 rfl rfl rfl ?_
  refine jT_xaload_n (v := (4, 1)) (pcN := 14) jIQ_39_13 rfl rfl rfl ?_
  refine jT_xiload (v := (0, 2)) (pcN := 16) jIQ_39_14 rfl rfl rfl ?_
  refine jT_lald (x := r8) (a := 1) (j := 2) (fs := []) (X := [0, r7, r8, 0, 0, 0]) jIQ_39_16 rfl rfl rfl rfl ?_
  refine jT_eq (LN := [(4, (0, 2)), (2, (1, r7)), (0, (4, 0)), (1, (4, 1))]) (stN := [(1, r8), (1, r7)]) (hsN := [jgh, (101, [], [0, r7, r8, 0, 0, 0])]) rfl rfl rfl ?_
  refine jT_labs (z := -r8) (by rfl) (by rfl) (by rfl) (by rfl) (by rw [show jwl (r8) = r8 from jwl_idd (by omega) (by omega), decide_eq_true (by omega)]; first | (simp only [cond_true, cond_false]; done) | (simp only [cond_true, cond_false]; omega) | rfl) ?_
  refine jT_xladd (x := r7) (y := -r8) (z := r7 - r8) (pcN := 21) jIQ_39_20 rfl (by omega) rfl ?_
  refine jT_xlstore_n (v := (1, r7 - r8)) (LN := [(2, (1, r7 - r8)), (4, (0, 2)), (0, (4, 0)), (1, (4, 1))]) (pcN := 22) jIQ_39_21 rfl rfl rfl rfl ?_
  refine jT_xiinc (x := 2) (z := 3) (LN := [(4, (0, 3)), (2, (1, r7 - r8)), (0, (4, 0)), (1, (4, 1))]) (pcN := 25) jIQ_39_22 rfl rfl (by decide) rfl rfl ?_
  refine jT_xgoto (pcN := 5) jIQ_39_25 rfl ?_
  refine jT_xiload (v := (0, 3)) (pcN := 7) jIQ_39_5 rfl rfl rfl ?_
  refine jT_xbipush (k := 6) (pcN := 9) jIQ_39_7 (by decide) rfl ?_
  refine jT_xicF (t := 28) (pcN := 12) jIQ_39_9 rfl (by decide +kernel) rfl rfl ?_
  refine jT_xlload_n (v := (1, r7 - r8)) (pcN := 13) jIQ_39_12 rfl rfl rfl ?_
  refine jT_xaload_n (v := (4, 1)) (pcN := 14) jIQ_39_13 rfl rfl rfl ?_
  refine jT_xiload (v := (0, 3)) (pcN := 16) jIQ_39_14 rfl rfl rfl ?_
  refine jT_lald (x := 0) (a := 1) (j := 3) (fs := []) (X := [0, r7, r8, 0, 0, 0]) jIQ_39_16 rfl rfl rfl rfl ?_
  refine jT_eq (LN := [(4, (0, 3)), (2, (1, r7 - r8)), (0, (4, 0)), (1, (4, 1))]) (stN := [(1, 0), (1, r7 - r8)]) (hsN := [jgh, (101, [], [0, r7, r8, 0, 0, 0])]) rfl rfl rfl ?_
  refine jT_labs (z := 0) (by rfl) (by rfl) (by rfl) (by rfl) (by decide +kernel) ?_
  refine jT_xladd (x := r7 - r8) (y := 0) (z := r7 - r8) (pcN := 21) jIQ_39_20 rfl (by omega) rfl ?_
  refine jT_xlstore_n (v := (1, r7 - r8)) (LN := [(2, (1, r7 - r8)), (4, (0, 3)), (0, (4, 0)), (1, (4, 1))]) (pcN := 22) jIQ_39_21 rfl rfl rfl rfl ?_
  refine jT_xiinc (x := 3) (z := 4) (LN := [(4, (0, 4)), (2, (1, r7 - r8)), (0, (4, 0)), (1, (4, 1))]) (pcN := 25) jIQ_39_22 rfl rfl (by decide) rfl rfl ?_
  refine jT_xgoto (pcN := 5) jIQ_39_25 rfl ?_
  refine jT_xiload (v := (0, 4)) (pcN := 7) jIQ_39_5 rfl rfl rfl ?_
  refine jT_xbipush (k := 6) (pcN := 9) jIQ_39_7 (by decide) rfl ?_
  refine jT_xicF (t := 28) (pcN := 12) jIQ_39_9 rfl (by decide +kernel) rfl rfl ?_
  refine jT_xlload_n (v := (1, r7 - r8)) (pcN := 13) jIQ_39_12 rfl rfl rfl ?_
  refine jT_xaload_n (v := (4, 1)) (pcN := 14) jIQ_39_13 rfl rfl rfl ?_
  refine jT_xiload (v := (0, 4)) (pcN := 16) jIQ_39_14 rfl rfl rfl ?_
  refine jT_lald (x := 0) (a := 1) (j := 4) (fs := []) (X := [0, r7, r8, 0, 0, 0]) jIQ_39_16 rfl rfl rfl rfl ?_
  refine jT_eq (LN := [(4, (0, 4)), (2, (1, r7 - r8)), (0, (4, 0)), (1, (4, 1))]) (stN := [(1, 0), (1, r7 - r8)]) (hsN := [jgh, (101, [], [0, r7, r8, 0, 0, 0])]) rfl rfl rfl ?_
  refine jT_labs (z := 0) (by rfl) (by rfl) (by rfl) (by rfl) (by decide +kernel) ?_
  refine jT_xladd (x := r7 - r8) (y := 0) (z := r7 - r8) (pcN := 21) jIQ_39_20 rfl (by omega) rfl ?_
  refine jT_xlstore_n (v := (1, r7 - r8)) (LN := [(2, (1, r7 - r8)), (4, (0, 4)), (0, (4, 0)), (1, (4, 1))]) (pcN := 22) jIQ_39_21 rfl rfl rfl rfl ?_
  refine jT_xiinc (x := 4) (z := 5) (LN := [(4, (0, 5)), (2, (1, r7 - r8)), (0, (4, 0)), (1, (4, 1))]) (pcN := 25) jIQ_39_22 rfl rfl (by decide) rfl rfl ?_
  refine jT_xgoto (pcN := 5) jIQ_39_25 rfl ?_
  refine jT_xiload (v := (0, 5)) (pcN := 7) jIQ_39_5 rfl rfl rfl ?_
  refine jT_xbipush (k := 6) (pcN := 9) jIQ_39_7 (by decide) rfl ?_
  refine jT_xicF (t := 28) (pcN := 12) jIQ_39_9 rfl (by decide +kernel) rfl rfl ?_
  refine jT_xlload_n (v := (1, r7 - r8)) (pcN := 13) jIQ_39_12 rfl rfl rfl ?_
  refine jT_xaload_n (v := (4, 1)) (pcN := 14) jIQ_39_13 rfl rfl rfl ?_
  refine jT_xiload (v := (0, 5)) (pcN := 16) jIQ_39_14 rfl rfl rfl ?_
  refine jT_lald (x := 0) (a := 1) (j := 5) (fs := []) (X := [0, r7, r8, 0, 0, 0]) jIQ_39_16 rfl rfl rfl rfl ?_
  refine jT_eq (LN := [(4, (0, 5)), (2, (1, r7 - r8)), (0, (4, 0)), (1, (4, 1))]) (stN := [(1, 0), (1, r7 - r8)]) (hsN := [jgh, (101, [], [0, r7, r8, 0, 0, 0])]) rfl rfl rfl ?_
  refine jT_labs (z := 0) (by rfl) (by rfl) (by rfl) (by rfl) (by decide +kernel) ?_
  refine jT_xladd (x := r7 - r8) (y := 0) (z := r7 - r8) (pcN := 21) jIQ_39_20 rfl (by omega) rfl ?_
  refine jT_xlstore_n (v := (1, r7 - r8)) (LN := [(2, (1, r7 - r8)), (4, (0, 5)), (0, (4, 0)), (1, (4, 1))]) (pcN := 22) jIQ_39_21 rfl rfl rfl rfl ?_
  refine jT_xiinc (x := 5) (z := 6) (LN := [(4, (0, 6)), (2, (1, r7 - r8)), (0, (4, 0)), (1, (4, 1))]) (pcN := 25) jIQ_39_22 rfl rfl (by decide) rfl rfl ?_
  refine jT_xgoto (pcN := 5) jIQ_39_25 rfl ?_
  refine jT_xiload (v := (0, 6)) (pcN := 7) jIQ_39_5 rfl rfl rfl ?_
  refine jT_xbipush (k := 6) (pcN := 9) jIQ_39_7 (by decide) rfl ?_
  refine jT_xicT (pcN := 28) jIQ_39_9 rfl (by decide +kernel) rfl ?_
  refine jT_xlload_n (v := (1, r7 - r8)) (pcN := 29) jIQ_39_28 rfl rfl rfl ?_
  exact jT_ret rfl (by decide) (by show 2 ≤ 2; omega) (by omega) (by omega) ⟨rfl, rfl, rfl⟩
theorem jQ_40_65 {xs : List Int} {d : Nat} {r7 r8 : Int} (h_r7 : (-20) ≤ r7 ∧ r7 ≤ 20) (h_r8 : (-10) ≤ r8 ∧ r8 ≤ 10) (g_0 : 0 ≤ r7) (g_1 : r8 < 0) (g_2 : 0 ≤ 108917793695 * r7 + 159561683699 * r8) : jT xs d 40 2 0 [(0, (4, 0)), (1, (4, 1)), (2, (1, r7 - r8))] [] [jgh, (101, [], [0, r7, r8, 0, 0, 0])] 0 0 (fun k v hsN => k = 0 ∧ v = (0, 1) ∧ hsN = [jgh, (101, [], [0, r7, r8, 0, 0, 0])] ++ []) := by
  refine jT_xlload_n (v := (1, r7 - r8)) (pcN := 1) jIQ_40_0 rfl rfl rfl ?_
  refine jT_adv 1 (pcN := 4) (LN := [(0, (4, 0)), (1, (4, 1)), (2, (1, r7 - r8))]) (stN := [(1, 16777216), (1, r7 - r8)]) (hsN := [jgh, (101, [], [0, r7, r8, 0, 0, 0])]) (c1 := 0) (s1 := 0) (c2 := 0) (s2 := 0) (by exact rfl) ?_ (by omega) (by omega)
  refine jT_lcmp (a := r7 - r8) (b := 16777216) (z := (-1)) (by rfl) (by rfl) (jwl_idd (by omega) (by omega)) (jwl_idd (by omega) (by omega)) (by rw [decide_eq_false (show ¬ ((16777216 : Int) < r7 - r8) by omega), decide_eq_false (show ¬ ((r7 - r8 : Int) = 16777216) by omega)]; rfl) ?_
  refine jT_xifF (t := 25) (pcN := 8) jIQ_40_5 rfl (by decide +kernel) rfl rfl ?_
  refine jT_xaload_n (v := (4, 1)) (pcN := 9) jIQ_40_8 rfl rfl rfl ?_
  refine jT_xiconst (k := 0) (pcN := 10) jIQ_40_9 rfl ?_
  refine jT_lald (x := 0) (a := 1) (j := 0) (fs := []) (X := [0, r7, r8, 0, 0, 0]) jIQ_40_10 rfl rfl rfl rfl ?_
  refine jT_eq (LN := [(0, (4, 0)), (1, (4, 1)), (2, (1, r7 - r8))]) (stN := [(1, 0)]) (hsN := [jgh, (101, [], [0, r7, r8, 0, 0, 0])]) rfl rfl rfl ?_
  refine jT_labs (z := 0) (by rfl) (by rfl) (by rfl) (by rfl) (by decide +kernel) ?_
  refine jT_adv 1 (pcN := 17) (LN := [(0, (4, 0)), (1, (4, 1)), (2, (1, r7 - r8))]) (stN := [(1, 16777216), (1, 0)]) (hsN := [jgh, (101, [], [0, r7, r8, 0, 0, 0])]) (c1 := 0) (s1 := 0) (c2 := 0) (s2 := 0) (by exact rfl) ?_ (by omega) (by omega)
  refine jT_lcmp (a := 0) (b := 16777216) (z := (-1)) (by rfl) (by rfl) (by decide +kernel) (by decide +kernel) (by decide) ?_
  refine jT_xifF (t := 25) (pcN := 21) jIQ_40_18 rfl (by decide +kernel) rfl rfl ?_
  refine jT_xiconst (k := 1) (pcN := 22) jIQ_40_21 rfl ?_
  refine jT_xgoto (pcN := 26) jIQ_40_22 rfl ?_
  exact jT_ret rfl (by decide) (by show 2 ≤ 2; omega) (by omega) (by omega) ⟨rfl, rfl, rfl⟩
theorem jQ_41_66 {xs : List Int} {d : Nat} {r7 r8 : Int} (h_r7 : (-20) ≤ r7 ∧ r7 ≤ 20) (h_r8 : (-10) ≤ r8 ∧ r8 ≤ 10) (g_0 : 0 ≤ r7) (g_1 : r8 < 0) (g_2 : 0 ≤ 108917793695 * r7 + 159561683699 * r8) : jT xs d 41 2 0 [(0, (4, 0)), (1, (4, 1))] [] [jgh, (101, [], [0, r7, r8, 0, 0, 0])] 0 0 (fun k v hsN => k = 0 ∧ v = (1, 108917793695 * r7 + 159561683699 * r8) ∧ hsN = [jgh, (101, [], [0, r7, r8, 0, 0, 0])] ++ []) := by
  refine jT_xlconst (z := 0) (pcN := 1) jIQ_41_0 rfl rfl ?_
  refine jT_xlstore_n (v := (1, 0)) (LN := [(2, (1, 0)), (0, (4, 0)), (1, (4, 1))]) (pcN := 2) jIQ_41_1 rfl rfl rfl rfl ?_
  refine jT_xiconst (k := 0) (pcN := 3) jIQ_41_2 rfl ?_
  refine jT_xistore (v := (0, 0)) (LN := [(4, (0, 0)), (2, (1, 0)), (0, (4, 0)), (1, (4, 1))]) (pcN := 5) jIQ_41_3 rfl rfl rfl rfl ?_
  refine jT_xiload (v := (0, 0)) (pcN := 7) jIQ_41_5 rfl rfl rfl ?_
  refine jT_xbipush (k := 6) (pcN := 9) jIQ_41_7 (by decide) rfl ?_
  refine jT_xicF (t := 32) (pcN := 12) jIQ_41_9 rfl (by decide +kernel) rfl rfl ?_
  refine jT_xlload_n (v := (1, 0)) (pcN := 13) jIQ_41_12 rfl rfl rfl ?_
  refine jT_xaload_n (v := (4, 1)) (pcN := 14) jIQ_41_13 rfl rfl rfl ?_
  refine jT_xiload (v := (0, 0)) (pcN := 16) jIQ_41_14 rfl rfl rfl ?_
  refine jT_lald (x := 0) (a := 1) (j := 0) (fs := []) (X := [0, r7, r8, 0, 0, 0]) jIQ_41_16 rfl rfl rfl rfl ?_
  refine jT_eq (LN := [(4, (0, 0)), (2, (1, 0)), (0, (4, 0)), (1, (4, 1))]) (stN := [(1, 0), (1, 0)]) (hsN := [jgh, (101, [], [0, r7, r8, 0, 0, 0])]) rfl rfl rfl ?_
  refine jT_adv 1 (pcN := 20) (LN := [(4, (0, 0)), (2, (1, 0)), (0, (4, 0)), (1, (4, 1))]) (stN := [(5, 0), (1, 0), (1, 0)]) (hsN := [jgh, (101, [], [0, r7, r8, 0, 0, 0])]) (c1 := 0) (s1 := 0) (c2 := 0) (s2 := 0) (by exact rfl) ?_ (by omega) (by omega)
  refine jT_xiload (v := (0, 0)) (pcN := 22) jIQ_41_20 rfl rfl rfl ?_
  refine jT_adv 1 (pcN := 23) (LN := [(4, (0, 0)), (2, (1, 0)), (0, (4, 0)), (1, (4, 1))]) (stN := [(1, 68719476736), (1, 0), (1, 0)]) (hsN := [jgh, (101, [], [0, r7, r8, 0, 0, 0])]) (c1 := 0) (s1 := 0) (c2 := 0) (s2 := 0) (by exact rfl) ?_ (by omega) (by omega)
  refine jT_xlmul (x := 0) (y := 68719476736) (z := 0) (pcN := 24) jIQ_41_23 rfl (by decide) rfl ?_
  refine jT_xladd (x := 0) (y := 0) (z := 0) (pcN := 25) jIQ_41_24 rfl (by decide) rfl ?_
  refine jT_xlstore_n (v := (1, 0)) (LN := [(2, (1, 0)), (4, (0, 0)), (0, (4, 0)), (1, (4, 1))]) (pcN := 26) jIQ_41_25 rfl rfl rfl rfl ?_
  refine jT_xiinc (x := 0) (z := 1) (LN := [(4, (0, 1)), (2, (1, 0)), (0, (4, 0)), (1, (4, 1))]) (pcN := 29) jIQ_41_26 rfl rfl (by decide) rfl rfl ?_
  refine jT_xgoto (pcN := 5) jIQ_41_29 rfl ?_
  refine jT_xiload (v := (0, 1)) (pcN := 7) jIQ_41_5 rfl rfl rfl ?_
  refine jT_xbipush (k := 6) (pcN := 9) jIQ_41_7 (by decide) rfl ?_
  refine jT_xicF (t := 32) (pcN := 12) jIQ_41_9 rfl (by decide +kernel) rfl rfl ?_
  refine jT_xlload_n (v := (1, 0)) (pcN := 13) jIQ_41_12 rfl rfl rfl ?_
  refine jT_xaload_n (v := (4, 1)) (pcN := 14) jIQ_41_13 rfl rfl rfl ?_
  refine jT_xiload (v := (0, 1)) (pcN := 16) jIQ_41_14 rfl rfl rfl ?_
  refine jT_lald (x := r7) (a := 1) (j := 1) (fs := []) (X := [0, r7, r8, 0, 0, 0]) jIQ_41_16 rfl rfl rfl rfl ?_
  refine jT_eq (LN := [(4, (0, 1)), (2, (1, 0)), (0, (4, 0)), (1, (4, 1))]) (stN := [(1, r7), (1, 0)]) (hsN := [jgh, (101, [], [0, r7, r8, 0, 0, 0])]) rfl rfl rfl ?_
  refine jT_adv 1 (pcN := 20) (LN := [(4, (0, 1)), (2, (1, 0)), (0, (4, 0)), (1, (4, 1))]) (stN := [(5, 0), (1, r7), (1, 0)]) (hsN := [jgh, (101, [], [0, r7, r8, 0, 0, 0])]) (c1 := 0) (s1 := 0) (c2 := 0) (s2 := 0) (by exact rfl) ?_ (by omega) (by omega)
  refine jT_xiload (v := (0, 1)) (pcN := 22) jIQ_41_20 rfl rfl rfl ?_
  refine jT_adv 1 (pcN := 23) (LN := [(4, (0, 1)), (2, (1, 0)), (0, (4, 0)), (1, (4, 1))]) (stN := [(1, 108917793695), (1, r7), (1, 0)]) (hsN := [jgh, (101, [], [0, r7, r8, 0, 0, 0])]) (c1 := 0) (s1 := 0) (c2 := 0) (s2 := 0) (by exact rfl) ?_ (by omega) (by omega)
  refine jT_xlmul (x := r7) (y := 108917793695) (z := 108917793695 * r7) (pcN := 24) jIQ_41_23 rfl (by omega) rfl ?_
  refine jT_xladd (x := 0) (y := 108917793695 * r7) (z := 108917793695 * r7) (pcN := 25) jIQ_41_24 rfl (by omega) rfl ?_
  refine jT_xlstore_n (v := (1, 108917793695 * r7)) (LN := [(2, (1, 108917793695 * r7)), (4, (0, 1)), (0, (4, 0)), (1, (4, 1))]) (pcN := 26) jIQ_41_25 rfl rfl rfl rfl ?_
  refine jT_xiinc (x := 1) (z := 2) (LN := [(4, (0, 2)), (2, (1, 108917793695 * r7)), (0, (4, 0)), (1, (4, 1))]) (pcN := 29) jIQ_41_26 rfl rfl (by decide) rfl rfl ?_
  refine jT_xgoto (pcN := 5) jIQ_41_29 rfl ?_
  refine jT_xiload (v := (0, 2)) (pcN := 7) jIQ_41_5 rfl rfl rfl ?_
  refine jT_xbipush (k := 6) (pcN := 9) jIQ_41_7 (by decide) rfl ?_
  refine jT_xicF (t := 32) (pcN := 12) jIQ_41_9 rfl (by decide +kernel) rfl rfl ?_
  refine jT_xlload_n (v := (1, 108917793695 * r7)) (pcN := 13) jIQ_41_12 rfl rfl rfl ?_
  refine jT_xaload_n (v := (4, 1)) (pcN := 14) jIQ_41_13 rfl rfl rfl ?_
  refine jT_xiload (v := (0, 2)) (pcN := 16) jIQ_41_14 rfl rfl rfl ?_
  refine jT_lald (x := r8) (a := 1) (j := 2) (fs := []) (X := [0, r7, r8, 0, 0, 0]) jIQ_41_16 rfl rfl rfl rfl ?_
  refine jT_eq (LN := [(4, (0, 2)), (2, (1, 108917793695 * r7)), (0, (4, 0)), (1, (4, 1))]) (stN := [(1, r8), (1, 108917793695 * r7)]) (hsN := [jgh, (101, [], [0, r7, r8, 0, 0, 0])]) rfl rfl rfl ?_
  refine jT_adv 1 (pcN := 20) (LN := [(4, (0, 2)), (2, (1, 108917793695 * r7)), (0, (4, 0)), (1, (4, 1))]) (stN := [(5, 0), (1, r8), (1, 108917793695 * r7)]) (hsN := [jgh, (101, [], [0, r7, r8, 0, 0, 0])]) (c1 := 0) (s1 := 0) (c2 := 0) (s2 := 0) (by exact rfl) ?_ (by omega) (by omega)
  refine jT_xiload (v := (0, 2)) (pcN := 22) jIQ_41_20 rfl rfl rfl ?_
  refine jT_adv 1 (pcN := 23) (LN := [(4, (0, 2)), (2, (1, 108917793695 * r7)), (0, (4, 0)), (1, (4, 1))]) (stN := [(1, 159561683699), (1, r8), (1, 108917793695 * r7)]) (hsN := [jgh, (101, [], [0, r7, r8, 0, 0, 0])]) (c1 := 0) (s1 := 0) (c2 := 0) (s2 := 0) (by exact rfl) ?_ (by omega) (by omega)
  refine jT_xlmul (x := r8) (y := 159561683699) (z := 159561683699 * r8) (pcN := 24) jIQ_41_23 rfl (by omega) rfl ?_
  refine jT_xladd (x := 108917793695 * r7) (y := 159561683699 * r8) (z := 108917793695 * r7 + 159561683699 * r8) (pcN := 25) jIQ_41_24 rfl (by omega) rfl ?_
  refine jT_xlstore_n (v := (1, 108917793695 * r7 + 159561683699 * r8)) (LN := [(2, (1, 108917793695 * r7 + 159561683699 * r8)), (4, (0, 2)), (0, (4, 0)), (1, (4, 1))]) (pcN := 26) jIQ_41_25 rfl rfl rfl rfl ?_
  refine jT_xiinc (x := 2) (z := 3) (LN := [(4, (0, 3)), (2, (1, 108917793695 * r7 + 159561683699 * r8)), (0, (4, 0)), (1, (4, 1))]) (pcN := 29) jIQ_41_26 rfl rfl (by decide) rfl rfl ?_
  refine jT_xgoto (pcN := 5) jIQ_41_29 rfl ?_
  refine jT_xiload (v := (0, 3)) (pcN := 7) jIQ_41_5 rfl rfl rfl ?_
  refine jT_xbipush (k := 6) (pcN := 9) jIQ_41_7 (by decide) rfl ?_
  refine jT_xicF (t := 32) (pcN := 12) jIQ_41_9 rfl (by decide +kernel) rfl rfl ?_
  refine jT_xlload_n (v := (1, 108917793695 * r7 + 159561683699 * r8)) (pcN := 13) jIQ_41_12 rfl rfl rfl ?_
  refine jT_xaload_n (v := (4, 1)) (pcN := 14) jIQ_41_13 rfl rfl rfl ?_
  refine jT_xiload (v := (0, 3)) (pcN := 16) jIQ_41_14 rfl rfl rfl ?_
  refine jT_lald (x := 0) (a := 1) (j := 3) (fs := []) (X := [0, r7, r8, 0, 0, 0]) jIQ_41_16 rfl rfl rfl rfl ?_
  refine jT_eq (LN := [(4, (0, 3)), (2, (1, 108917793695 * r7 + 159561683699 * r8)), (0, (4, 0)), (1, (4, 1))]) (stN := [(1, 0), (1, 108917793695 * r7 + 159561683699 * r8)]) (hsN := [jgh, (101, [], [0, r7, r8, 0, 0, 0])]) rfl rfl rfl ?_
  refine jT_adv 1 (pcN := 20) (LN := [(4, (0, 3)), (2, (1, 108917793695 * r7 + 159561683699 * r8)), (0, (4, 0)), (1, (4, 1))]) (stN := [(5, 0), (1, 0), (1, 108917793695 * r7 + 159561683699 * r8)]) (hsN := [jgh, (101, [], [0, r7, r8, 0, 0, 0])]) (c1 := 0) (s1 := 0) (c2 := 0) (s2 := 0) (by exact rfl) ?_ (by omega) (by omega)
  refine jT_xiload (v := (0, 3)) (pcN := 22) jIQ_41_20 rfl rfl rfl ?_
  refine jT_adv 1 (pcN := 23) (LN := [(4, (0, 3)), (2, (1, 108917793695 * r7 + 159561683699 * r8)), (0, (4, 0)), (1, (4, 1))]) (stN := [(1, 192919961256), (1, 0), (1, 108917793695 * r7 + 159561683699 * r8)]) (hsN := [jgh, (101, [], [0, r7, r8, 0, 0, 0])]) (c1 := 0) (s1 := 0) (c2 := 0) (s2 := 0) (by exact rfl) ?_ (by omega) (by omega)
  refine jT_xlmul (x := 0) (y := 192919961256) (z := 0) (pcN := 24) jIQ_41_23 rfl (by decide) rfl ?_
  refine jT_xladd (x := 108917793695 * r7 + 159561683699 * r8) (y := 0) (z := 108917793695 * r7 + 159561683699 * r8) (pcN := 25) jIQ_41_24 rfl (by omega) rfl ?_
  refine jT_xlstore_n (v := (1, 108917793695 * r7 + 159561683699 * r8)) (LN := [(2, (1, 108917793695 * r7 + 159561683699 * r8)), (4, (0, 3)), (0, (4, 0)), (1, (4, 1))]) (pcN := 26) jIQ_41_25 rfl rfl rfl rfl ?_
  refine jT_xiinc (x := 3) (z := 4) (LN := [(4, (0, 4)), (2, (1, 108917793695 * r7 + 159561683699 * r8)), (0, (4, 0)), (1, (4, 1))]) (pcN := 29) jIQ_41_26 rfl rfl (by decide) rfl rfl ?_
  refine jT_xgoto (pcN := 5) jIQ_41_29 rfl ?_
  refine jT_xiload (v := (0, 4)) (pcN := 7) jIQ_41_5 rfl rfl rfl ?_
  refine jT_xbipush (k := 6) (pcN := 9) jIQ_41_7 (by decide) rfl ?_
  refine jT_xicF (t := 32) (pcN := 12) jIQ_41_9 rfl (by decide +kernel) rfl rfl ?_
  refine jT_xlload_n (v := (1, 108917793695 * r7 + 159561683699 * r8)) (pcN := 13) jIQ_41_12 rfl rfl rfl ?_
  refine jT_xaload_n (v := (4, 1)) (pcN := 14) jIQ_41_13 rfl rfl rfl ?_
  refine jT_xiload (v := (0, 4)) (pcN := 16) jIQ_41_14 rfl rfl rfl ?_
  refine jT_lald (x := 0) (a := 1) (j := 4) (fs := []) (X := [0, r7, r8, 0, 0, 0]) jIQ_41_16 rfl rfl rfl rfl ?_
  refine jT_eq (LN := [(4, (0, 4)), (2, (1, 108917793695 * r7 + 159561683699 * r8)), (0, (4, 0)), (1, (4, 1))]) (stN := [(1, 0), (1, 108917793695 * r7 + 159561683699 * r8)]) (hsN := [jgh, (101, [], [0, r7, r8, 0, 0, 0])]) rfl rfl rfl ?_
  refine jT_adv 1 (pcN := 20) (LN := [(4, (0, 4)), (2, (1, 108917793695 * r7 + 159561683699 * r8)), (0, (4, 0)), (1, (4, 1))]) (stN := [(5, 0), (1, 0), (1, 108917793695 * r7 + 159561683699 * r8)]) (hsN := [jgh, (101, [], [0, r7, r8, 0, 0, 0])]) (c1 := 0) (s1 := 0) (c2 := 0) (s2 := 0) (by exact rfl) ?_ (by omega) (by omega)
  refine jT_xiload (v := (0, 4)) (pcN := 22) jIQ_41_20 rfl rfl rfl ?_
  refine jT_adv 1 (pcN := 23) (LN := [(4, (0, 4)), (2, (1, 108917793695 * r7 + 159561683699 * r8)), (0, (4, 0)), (1, (4, 1))]) (stN := [(1, 237730330636), (1, 0), (1, 108917793695 * r7 + 159561683699 * r8)]) (hsN := [jgh, (101, [], [0, r7, r8, 0, 0, 0])]) (c1 := 0) (s1 := 0) (c2 := 0) (s2 := 0) (by exact rfl) ?_ (by omega) (by omega)
  refine jT_xlmul (x := 0) (y := 237730330636) (z := 0) (pcN := 24) jIQ_41_23 rfl (by decide) rfl ?_
  refine jT_xladd (x := 108917793695 * r7 + 159561683699 * r8) (y := 0) (z := 108917793695 * r7 + 159561683699 * r8) (pcN := 25) jIQ_41_24 rfl (by omega) rfl ?_
  refine jT_xlstore_n (v := (1, 108917793695 * r7 + 159561683699 * r8)) (LN := [(2, (1, 108917793695 * r7 + 159561683699 * r8)), (4, (0, 4)), (0, (4, 0)), (1, (4, 1))]) (pcN := 26) jIQ_41_25 rfl rfl rfl rfl ?_
  refine jT_xiinc (x := 4) (z := 5) (LN := [(4, (0, 5)), (2, (1, 108917793695 * r7 + 159561683699 * r8)), (0, (4, 0)), (1, (4, 1))]) (pcN := 29) jIQ_41_26 rfl rfl (by decide) rfl rfl ?_
  refine jT_xgoto (pcN := 5) jIQ_41_29 rfl ?_
  refine jT_xiload (v := (0, 5)) (pcN := 7) jIQ_41_5 rfl rfl rfl ?_
  refine jT_xbipush (k := 6) (pcN := 9) jIQ_41_7 (by decide) rfl ?_
  refine jT_xicF (t := 32) (pcN := 12) jIQ_41_9 rfl (by decide +kernel) rfl rfl ?_
  refine jT_xlload_n (v := (1, 108917793695 * r7 + 159561683699 * r8)) (pcN := 13) jIQ_41_12 rfl rfl rfl ?_
  refine jT_xaload_n (v := (4, 1)) (pcN := 14) jIQ_41_13 rfl rfl rfl ?_
  refine jT_xiload (v := (0, 5)) (pcN := 16) jIQ_41_14 rfl rfl rfl ?_
  refine jT_lald (x := 0) (a := 1) (j := 5) (fs := []) (X := [0, r7, r8, 0, 0, 0]) jIQ_41_16 rfl rfl rfl rfl ?_
  refine jT_eq (LN := [(4, (0, 5)), (2, (1, 108917793695 * r7 + 159561683699 * r8)), (0, (4, 0)), (1, (4, 1))]) (stN := [(1, 0), (1, 108917793695 * r7 + 159561683699 * r8)]) (hsN := [jgh, (101, [], [0, r7, r8, 0, 0, 0])]) rfl rfl rfl ?_
  refine jT_adv 1 (pcN := 20) (LN := [(4, (0, 5)), (2, (1, 108917793695 * r7 + 159561683699 * r8)), (0, (4, 0)), (1, (4, 1))]) (stN := [(5, 0), (1, 0), (1, 108917793695 * r7 + 159561683699 * r8)]) (hsN := [jgh, (101, [], [0, r7, r8, 0, 0, 0])]) (c1 := 0) (s1 := 0) (c2 := 0) (s2 := 0) (by exact rfl) ?_ (by omega) (by omega)
  refine jT_xiload (v := (0, 5)) (pcN := 22) jIQ_41_20 rfl rfl rfl ?_
  refine jT_adv 1 (pcN := 23) (LN := [(4, (0, 5)), (2, (1, 108917793695 * r7 + 159561683699 * r8)), (0, (4, 0)), (1, (4, 1))]) (stN := [(1, 254292281123), (1, 0), (1, 108917793695 * r7 + 159561683699 * r8)]) (hsN := [jgh, (101, [], [0, r7, r8, 0, 0, 0])]) (c1 := 0) (s1 := 0) (c2 := 0) (s2 := 0) (by exact rfl) ?_ (by omega) (by omega)
  refine jT_xlmul (x := 0) (y := 254292281123) (z := 0) (pcN := 24) jIQ_41_23 rfl (by decide) rfl ?_
  refine jT_xladd (x := 108917793695 * r7 + 159561683699 * r8) (y := 0) (z := 108917793695 * r7 + 159561683699 * r8) (pcN := 25) jIQ_41_24 rfl (by omega) rfl ?_
  refine jT_xlstore_n (v := (1, 108917793695 * r7 + 159561683699 * r8)) (LN := [(2, (1, 108917793695 * r7 + 159561683699 * r8)), (4, (0, 5)), (0, (4, 0)), (1, (4, 1))]) (pcN := 26) jIQ_41_25 rfl rfl rfl rfl ?_
  refine jT_xiinc (x := 5) (z := 6) (LN := [(4, (0, 6)), (2, (1, 108917793695 * r7 + 159561683699 * r8)), (0, (4, 0)), (1, (4, 1))]) (pcN := 29) jIQ_41_26 rfl rfl (by decide) rfl rfl ?_
  refine jT_xgoto (pcN := 5) jIQ_41_29 rfl ?_
  refine jT_xiload (v := (0, 6)) (pcN := 7) jIQ_41_5 rfl rfl rfl ?_
  refine jT_xbipush (k := 6) (pcN := 9) jIQ_41_7 (by decide) rfl ?_
  refine jT_xicT (pcN := 32) jIQ_41_9 rfl (by decide +kernel) rfl ?_
  refine jT_xlload_n (v := (1, 108917793695 * r7 + 159561683699 * r8)) (pcN := 33) jIQ_41_32 rfl rfl rfl ?_
  exact jT_ret rfl (by decide) (by show 2 ≤ 2; omega) (by omega) (by omega) ⟨rfl, rfl, rfl⟩
theorem jQ_39_67 {xs : List Int} {d : Nat} {r7 r8 : Int} (h_r7 : (-20) ≤ r7 ∧ r7 ≤ 20) (h_r8 : (-10) ≤ r8 ∧ r8 ≤ 10) (g_0 : 0 ≤ r7) (g_1 : 0 ≤ r8) : jT xs d 39 2 0 [(0, (4, 0)), (1, (4, 1))] [] [jgh, (101, [], [0, r7, r8, 0, 0, 0])] 0 0 (fun k v hsN => k = 0 ∧ v = (1, r7 + r8) ∧ hsN = [jgh, (101, [], [0, r7, r8, 0, 0, 0])] ++ []) := by
  refine jT_xlconst (z := 0) (pcN := 1) jIQ_39_0 rfl rfl ?_
  refine jT_xlstore_n (v := (1, 0)) (LN := [(2, (1, 0)), (0, (4, 0)), (1, (4, 1))]) (pcN := 2) jIQ_39_1 rfl rfl rfl rfl ?_
  refine jT_xiconst (k := 1) (pcN := 3) jIQ_39_2 rfl ?_
  refine jT_xistore (v := (0, 1)) (LN := [(4, (0, 1)), (2, (1, 0)), (0, (4, 0)), (1, (4, 1))]) (pcN := 5) jIQ_39_3 rfl rfl rfl rfl ?_
  refine jT_xiload (v := (0, 1)) (pcN := 7) jIQ_39_5 rfl rfl rfl ?_
  refine jT_xbipush (k := 6) (pcN := 9) jIQ_39_7 (by decide) rfl ?_
  refine jT_xicF (t := 28) (pcN := 12) jIQ_39_9 rfl (by decide +kernel) rfl rfl ?_
  refine jT_xlload_n (v := (1, 0)) (pcN := 13) jIQ_39_12 rfl rfl rfl ?_
  refine jT_xaload_n (v := (4, 1)) (pcN := 14) jIQ_39_13 rfl rfl rfl ?_
  refine jT_xiload (v := (0, 1)) (pcN := 16) jIQ_39_14 rfl rfl rfl ?_
  refine jT_lald (x := r7) (a := 1) (j := 1) (fs := []) (X := [0, r7, r8, 0, 0, 0]) jIQ_39_16 rfl rfl rfl rfl ?_
  refine jT_eq (LN := [(4, (0, 1)), (2, (1, 0)), (0, (4, 0)), (1, (4, 1))]) (stN := [(1, r7), (1, 0)]) (hsN := [jgh, (101, [], [0, r7, r8, 0, 0, 0])]) rfl rfl rfl ?_
  refine jT_labs (z := r7) (by rfl) (by rfl) (by rfl) (by rfl) (by rw [show jwl (r7) = r7 from jwl_idd (by omega) (by omega), decide_eq_false (by omega)]; first | (simp only [cond_true, cond_false]; done) | (simp only [cond_true, cond_false]; omega) | rfl) ?_
  refine jT_xladd (x := 0) (y := r7) (z := r7) (pcN := 21) jIQ_39_20 rfl (by omega) rfl ?_
  refine jT_xlstore_n (v := (1, r7)) (LN := [(2, (1, r7)), (4, (0, 1)), (0, (4, 0)), (1, (4, 1))]) (pcN := 22) jIQ_39_21 rfl rfl rfl rfl ?_
  refine jT_xiinc (x := 1) (z := 2) (LN := [(4, (0, 2)), (2, (1, r7)), (0, (4, 0)), (1, (4, 1))]) (pcN := 25) jIQ_39_22 rfl rfl (by decide) rfl rfl ?_
  refine jT_xgoto (pcN := 5) jIQ_39_25 rfl ?_
  refine jT_xiload (v := (0, 2)) (pcN := 7) jIQ_39_5 rfl rfl rfl ?_
  refine jT_xbipush (k := 6) (pcN := 9) jIQ_39_7 (by decide) rfl ?_
  refine jT_xicF (t := 28) (pcN := 12) jIQ_39_9 rfl (by decide +kernel) rfl rfl ?_
  refine jT_xlload_n (v := (1, r7)) (pcN := 13) jIQ_39_12 rfl rfl rfl ?_
  refine jT_xaload_n (v := (4, 1)) (pcN := 14) jIQ_39_13 rfl rfl rfl ?_
  refine jT_xiload (v := (0, 2)) (pcN := 16) jIQ_39_14 rfl rfl rfl ?_
  refine jT_lald (x := r8) (a := 1) (j := 2) (fs := []) (X := [0, r7, r8, 0, 0, 0]) jIQ_39_16 rfl rfl rfl rfl ?_
  refine jT_eq (LN := [(4, (0, 2)), (2, (1, r7)), (0, (4, 0)), (1, (4, 1))]) (stN := [(1, r8), (1, r7)]) (hsN := [jgh, (101, [], [0, r7, r8, 0, 0, 0])]) rfl rfl rfl ?_
  refine jT_labs (z := r8) (by rfl) (by rfl) (by rfl) (by rfl) (by rw [show jwl (r8) = r8 from jwl_idd (by omega) (by omega), decide_eq_false (by omega)]; first | (simp only [cond_true, cond_false]; done) | (simp only [cond_true, cond_false]; omega) | rfl) ?_
  refine jT_xladd (x := r7) (y := r8) (z := r7 + r8) (pcN := 21) jIQ_39_20 rfl (rfl) rfl ?_
  refine jT_xlstore_n (v := (1, r7 + r8)) (LN := [(2, (1, r7 + r8)), (4, (0, 2)), (0, (4, 0)), (1, (4, 1))]) (pcN := 22) jIQ_39_21 rfl rfl rfl rfl ?_
  refine jT_xiinc (x := 2) (z := 3) (LN := [(4, (0, 3)), (2, (1, r7 + r8)), (0, (4, 0)), (1, (4, 1))]) (pcN := 25) jIQ_39_22 rfl rfl (by decide) rfl rfl ?_
  refine jT_xgoto (pcN := 5) jIQ_39_25 rfl ?_
  refine jT_xiload (v := (0, 3)) (pcN := 7) jIQ_39_5 rfl rfl rfl ?_
  refine jT_xbipush (k := 6) (pcN := 9) jIQ_39_7 (by decide) rfl ?_
  refine jT_xicF (t := 28) (pcN := 12) jIQ_39_9 rfl (by decide +kernel) rfl rfl ?_
  refine jT_xlload_n (v := (1, r7 + r8)) (pcN := 13) jIQ_39_12 rfl rfl rfl ?_
  refine jT_xaload_n (v := (4, 1)) (pcN := 14) jIQ_39_13 rfl rfl rfl ?_
  refine jT_xiload (v := (0, 3)) (pcN := 16) jIQ_39_14 rfl rfl rfl ?_
  refine jT_lald (x := 0) (a := 1) (j := 3) (fs := []) (X := [0, r7, r8, 0, 0, 0]) jIQ_39_16 rfl rfl rfl rfl ?_
  refine jT_eq (LN := [(4, (0, 3)), (2, (1, r7 + r8)), (0, (4, 0)), (1, (4, 1))]) (stN := [(1, 0), (1, r7 + r8)]) (hsN := [jgh, (101, [], [0, r7, r8, 0, 0, 0])]) rfl rfl rfl ?_
  refine jT_labs (z := 0) (by rfl) (by rfl) (by rfl) (by rfl) (by decide +kernel) ?_
  refine jT_xladd (x := r7 + r8) (y := 0) (z := r7 + r8) (pcN := 21) jIQ_39_20 rfl (by omega) rfl ?_
  refine jT_xlstore_n (v := (1, r7 + r8)) (LN := [(2, (1, r7 + r8)), (4, (0, 3)), (0, (4, 0)), (1, (4, 1))]) (pcN := 22) jIQ_39_21 rfl rfl rfl rfl ?_
  refine jT_xiinc (x := 3) (z := 4) (LN := [(4, (0, 4)), (2, (1, r7 + r8)), (0, (4, 0)), (1, (4, 1))]) (pcN := 25) jIQ_39_22 rfl rfl (by decide) rfl rfl ?_
  refine jT_xgoto (pcN := 5) jIQ_39_25 rfl ?_
  refine jT_xiload (v := (0, 4)) (pcN := 7) jIQ_39_5 rfl rfl rfl ?_
  refine jT_xbipush (k := 6) (pcN := 9) jIQ_39_7 (by decide) rfl ?_
  refine jT_xicF (t := 28) (pcN := 12) jIQ_39_9 rfl (by decide +kernel) rfl rfl ?_
  refine jT_xlload_n (v := (1, r7 + r8)) (pcN := 13) jIQ_39_12 rfl rfl rfl ?_
  refine jT_xaload_n (v := (4, 1)) (pcN := 14) jIQ_39_13 rfl rfl rfl ?_
  refine jT_xiload (v := (0, 4)) (pcN := 16) jIQ_39_14 rfl rfl rfl ?_
  refine jT_lald (x := 0) (a := 1) (j := 4) (fs := []) (X := [0, r7, r8, 0, 0, 0]) jIQ_39_16 rfl rfl rfl rfl ?_
  refine jT_eq (LN := [(4, (0, 4)), (2, (1, r7 + r8)), (0, (4, 0)), (1, (4, 1))]) (stN := [(1, 0), (1, r7 + r8)]) (hsN := [jgh, (101, [], [0, r7, r8, 0, 0, 0])]) rfl rfl rfl ?_
  refine jT_labs (z := 0) (by rfl) (by rfl) (by rfl) (by rfl) (by decide +kernel) ?_
  refine jT_xladd (x := r7 + r8) (y := 0) (z := r7 + r8) (pcN := 21) jIQ_39_20 rfl (by omega) rfl ?_
  refine jT_xlstore_n (v := (1, r7 + r8)) (LN := [(2, (1, r7 + r8)), (4, (0, 4)), (0, (4, 0)), (1, (4, 1))]) (pcN := 22) jIQ_39_21 rfl rfl rfl rfl ?_
  refine jT_xiinc (x := 4) (z := 5) (LN := [(4, (0, 5)), (2, (1, r7 + r8)), (0, (4, 0)), (1, (4, 1))]) (pcN := 25) jIQ_39_22 rfl rfl (by decide) rfl rfl ?_
  refine jT_xgoto (pcN := 5) jIQ_39_25 rfl ?_
  refine jT_xiload (v := (0, 5)) (pcN := 7) jIQ_39_5 rfl rfl rfl ?_
  refine jT_xbipush (k := 6) (pcN := 9) jIQ_39_7 (by decide) rfl ?_
  refine jT_xicF (t := 28) (pcN := 12) jIQ_39_9 rfl (by decide +kernel) rfl rfl ?_
  refine jT_xlload_n (v := (1, r7 + r8)) (pcN := 13) jIQ_39_12 rfl rfl rfl ?_
  refine jT_xaload_n (v := (4, 1)) (pcN := 14) jIQ_39_13 rfl rfl rfl ?_
  refine jT_xiload (v := (0, 5)) (pcN := 16) jIQ_39_14 rfl rfl rfl ?_
  refine jT_lald (x := 0) (a := 1) (j := 5) (fs := []) (X := [0, r7, r8, 0, 0, 0]) jIQ_39_16 rfl rfl rfl rfl ?_
  refine jT_eq (LN := [(4, (0, 5)), (2, (1, r7 + r8)), (0, (4, 0)), (1, (4, 1))]) (stN := [(1, 0), (1, r7 + r8)]) (hsN := [jgh, (101, [], [0, r7, r8, 0, 0, 0])]) rfl rfl rfl ?_
  refine jT_labs (z := 0) (by rfl) (by rfl) (by rfl) (by rfl) (by decide +kernel) ?_
  refine jT_xladd (x := r7 + r8) (y := 0) (z := r7 + r8) (pcN := 21) jIQ_39_20 rfl (by omega) rfl ?_
  refine jT_xlstore_n (v := (1, r7 + r8)) (LN := [(2, (1, r7 + r8)), (4, (0, 5)), (0, (4, 0)), (1, (4, 1))]) (pcN := 22) jIQ_39_21 rfl rfl rfl rfl ?_
  refine jT_xiinc (x := 5) (z := 6) (LN := [(4, (0, 6)), (2, (1, r7 + r8)), (0, (4, 0)), (1, (4, 1))]) (pcN := 25) jIQ_39_22 rfl rfl (by decide) rfl rfl ?_
  refine jT_xgoto (pcN := 5) jIQ_39_25 rfl ?_
  refine jT_xiload (v := (0, 6)) (pcN := 7) jIQ_39_5 rfl rfl rfl ?_
  refine jT_xbipush (k := 6) (pcN := 9) jIQ_39_7 (by decide) rfl ?_
  refine jT_xicT (pcN := 28) jIQ_39_9 rfl (by decide +kernel) rfl ?_
  refine jT_xlload_n (v := (1, r7 + r8)) (pcN := 29) jIQ_39_28 rfl rfl rfl ?_
  exact jT_ret rfl (by decide) (by show 2 ≤ 2; omega) (by omega) (by omega) ⟨rfl, rfl, rfl⟩
theorem jQ_39_68 {xs : List Int} {d : Nat} {r7 r8 : Int} (h_r7 : (-20) ≤ r7 ∧ r7 ≤ 20) (h_r8 : (-10) ≤ r8 ∧ r8 ≤ 10) (g_0 : 0 ≤ r7) (g_1 : 0 ≤ r8) (g_2 : r7 + r8 - 1 < 0) : jT xs d 39 2 0 [(0, (4, 0)), (1, (4, 1))] [] [jgh, (101, [], [0, r7, r8, 0, 0, 0])] 0 0 (fun k v hsN => k = 0 ∧ v = (1, r7 + r8) ∧ hsN = [jgh, (101, [], [0, r7, r8, 0, 0, 0])] ++ []) := by
  refine jT_xlconst (z := 0) (pcN := 1) jIQ_39_0 rfl rfl ?_
  refine jT_xlstore_n (v := (1, 0)) (LN := [(2, (1, 0)), (0, (4, 0)), (1, (4, 1))]) (pcN := 2) jIQ_39_1 rfl rfl rfl rfl ?_
  refine jT_xiconst (k := 1) (pcN := 3) jIQ_39_2 rfl ?_
  refine jT_xistore (v := (0, 1)) (LN := [(4, (0, 1)), (2, (1, 0)), (0, (4, 0)), (1, (4, 1))]) (pcN := 5) jIQ_39_3 rfl rfl rfl rfl ?_
  refine jT_xiload (v := (0, 1)) (pcN := 7) jIQ_39_5 rfl rfl rfl ?_
  refine jT_xbipush (k := 6) (pcN := 9) jIQ_39_7 (by decide) rfl ?_
  refine jT_xicF (t := 28) (pcN := 12) jIQ_39_9 rfl (by decide +kernel) rfl rfl ?_
  refine jT_xlload_n (v := (1, 0)) (pcN := 13) jIQ_39_12 rfl rfl rfl ?_
  refine jT_xaload_n (v := (4, 1)) (pcN := 14) jIQ_39_13 rfl rfl rfl ?_
  refine jT_xiload (v := (0, 1)) (pcN := 16) jIQ_39_14 rfl rfl rfl ?_
  refine jT_lald (x := r7) (a := 1) (j := 1) (fs := []) (X := [0, r7, r8, 0, 0, 0]) jIQ_39_16 rfl rfl rfl rfl ?_
  refine jT_eq (LN := [(4, (0, 1)), (2, (1, 0)), (0, (4, 0)), (1, (4, 1))]) (stN := [(1, r7), (1, 0)]) (hsN := [jgh, (101, [], [0, r7, r8, 0, 0, 0])]) rfl rfl rfl ?_
  refine jT_labs (z := r7) (by rfl) (by rfl) (by rfl) (by rfl) (by rw [show jwl (r7) = r7 from jwl_idd (by omega) (by omega), decide_eq_false (by omega)]; first | (simp only [cond_true, cond_false]; done) | (simp only [cond_true, cond_false]; omega) | rfl) ?_
  refine jT_xladd (x := 0) (y := r7) (z := r7) (pcN := 21) jIQ_39_20 rfl (by omega) rfl ?_
  refine jT_xlstore_n (v := (1, r7)) (LN := [(2, (1, r7)), (4, (0, 1)), (0, (4, 0)), (1, (4, 1))]) (pcN := 22) jIQ_39_21 rfl rfl rfl rfl ?_
  refine jT_xiinc (x := 1) (z := 2) (LN := [(4, (0, 2)), (2, (1, r7)), (0, (4, 0)), (1, (4, 1))]) (pcN := 25) jIQ_39_22 rfl rfl (by decide) rfl rfl ?_
  refine jT_xgoto (pcN := 5) jIQ_39_25 rfl ?_
  refine jT_xiload (v := (0, 2)) (pcN := 7) jIQ_39_5 rfl rfl rfl ?_
  refine jT_xbipush (k := 6) (pcN := 9) jIQ_39_7 (by decide) rfl ?_
  refine jT_xicF (t := 28) (pcN := 12) jIQ_39_9 rfl (by decide +kernel) rfl rfl ?_
  refine jT_xlload_n (v := (1, r7)) (pcN := 13) jIQ_39_12 rfl rfl rfl ?_
  refine jT_xaload_n (v := (4, 1)) (pcN := 14) jIQ_39_13 rfl rfl rfl ?_
  refine jT_xiload (v := (0, 2)) (pcN := 16) jIQ_39_14 rfl rfl rfl ?_
  refine jT_lald (x := r8) (a := 1) (j := 2) (fs := []) (X := [0, r7, r8, 0, 0, 0]) jIQ_39_16 rfl rfl rfl rfl ?_
  refine jT_eq (LN := [(4, (0, 2)), (2, (1, r7)), (0, (4, 0)), (1, (4, 1))]) (stN := [(1, r8), (1, r7)]) (hsN := [jgh, (101, [], [0, r7, r8, 0, 0, 0])]) rfl rfl rfl ?_
  refine jT_labs (z := r8) (by rfl) (by rfl) (by rfl) (by rfl) (by rw [show jwl (r8) = r8 from jwl_idd (by omega) (by omega), decide_eq_false (by omega)]; first | (simp only [cond_true, cond_false]; done) | (simp only [cond_true, cond_false]; omega) | rfl) ?_
  refine jT_xladd (x := r7) (y := r8) (z := r7 + r8) (pcN := 21) jIQ_39_20 rfl (rfl) rfl ?_
  refine jT_xlstore_n (v := (1, r7 + r8)) (LN := [(2, (1, r7 + r8)), (4, (0, 2)), (0, (4, 0)), (1, (4, 1))]) (pcN := 22) jIQ_39_21 rfl rfl rfl rfl ?_
  refine jT_xiinc (x := 2) (z := 3) (LN := [(4, (0, 3)), (2, (1, r7 + r8)), (0, (4, 0)), (1, (4, 1))]) (pcN := 25) jIQ_39_22 rfl rfl (by decide) rfl rfl ?_
  refine jT_xgoto (pcN := 5) jIQ_39_25 rfl ?_
  refine jT_xiload (v := (0, 3)) (pcN := 7) jIQ_39_5 rfl rfl rfl ?_
  refine jT_xbipush (k := 6) (pcN := 9) jIQ_39_7 (by decide) rfl ?_
  refine jT_xicF (t := 28) (pcN := 12) jIQ_39_9 rfl (by decide +kernel) rfl rfl ?_
  refine jT_xlload_n (v := (1, r7 + r8)) (pcN := 13) jIQ_39_12 rfl rfl rfl ?_
  refine jT_xaload_n (v := (4, 1)) (pcN := 14) jIQ_39_13 rfl rfl rfl ?_
  refine jT_xiload (v := (0, 3)) (pcN := 16) jIQ_39_14 rfl rfl rfl ?_
  refine jT_lald (x := 0) (a := 1) (j := 3) (fs := []) (X := [0, r7, r8, 0, 0, 0]) jIQ_39_16 rfl rfl rfl rfl ?_
  refine jT_eq (LN := [(4, (0, 3)), (2, (1, r7 + r8)), (0, (4, 0)), (1, (4, 1))]) (stN := [(1, 0), (1, r7 + r8)]) (hsN := [jgh, (101, [], [0, r7, r8, 0, 0, 0])]) rfl rfl rfl ?_
  refine jT_labs (z := 0) (by rfl) (by rfl) (by rfl) (by rfl) (by decide +kernel) ?_
  refine jT_xladd (x := r7 + r8) (y := 0) (z := r7 + r8) (pcN := 21) jIQ_39_20 rfl (by omega) rfl ?_
  refine jT_xlstore_n (v := (1, r7 + r8)) (LN := [(2, (1, r7 + r8)), (4, (0, 3)), (0, (4, 0)), (1, (4, 1))]) (pcN := 22) jIQ_39_21 rfl rfl rfl rfl ?_
  refine jT_xiinc (x := 3) (z := 4) (LN := [(4, (0, 4)), (2, (1, r7 + r8)), (0, (4, 0)), (1, (4, 1))]) (pcN := 25) jIQ_39_22 rfl rfl (by decide) rfl rfl ?_
  refine jT_xgoto (pcN := 5) jIQ_39_25 rfl ?_
  refine jT_xiload (v := (0, 4)) (pcN := 7) jIQ_39_5 rfl rfl rfl ?_
  refine jT_xbipush (k := 6) (pcN := 9) jIQ_39_7 (by decide) rfl ?_
  refine jT_xicF (t := 28) (pcN := 12) jIQ_39_9 rfl (by decide +kernel) rfl rfl ?_
  refine jT_xlload_n (v := (1, r7 + r8)) (pcN := 13) jIQ_39_12 rfl rfl rfl ?_
  refine jT_xaload_n (v := (4, 1)) (pcN := 14) jIQ_39_13 rfl rfl rfl ?_
  refine jT_xiload (v := (0, 4)) (pcN := 16) jIQ_39_14 rfl rfl rfl ?_
  refine jT_lald (x := 0) (a := 1) (j := 4) (fs := []) (X := [0, r7, r8, 0, 0, 0]) jIQ_39_16 rfl rfl rfl rfl ?_
  refine jT_eq (LN := [(4, (0, 4)), (2, (1, r7 + r8)), (0, (4, 0)), (1, (4, 1))]) (stN := [(1, 0), (1, r7 + r8)]) (hsN := [jgh, (101, [], [0, r7, r8, 0, 0, 0])]) rfl rfl rfl ?_
  refine jT_labs (z := 0) (by rfl) (by rfl) (by rfl) (by rfl) (by decide +kernel) ?_
  refine jT_xladd (x := r7 + r8) (y := 0) (z := r7 + r8) (pcN := 21) jIQ_39_20 rfl (by omega) rfl ?_
  refine jT_xlstore_n (v := (1, r7 + r8)) (LN := [(2, (1, r7 + r8)), (4, (0, 4)), (0, (4, 0)), (1, (4, 1))]) (pcN := 22) jIQ_39_21 rfl rfl rfl rfl ?_
  refine jT_xiinc (x := 4) (z := 5) (LN := [(4, (0, 5)), (2, (1, r7 + r8)), (0, (4, 0)), (1, (4, 1))]) (pcN := 25) jIQ_39_22 rfl rfl (by decide) rfl rfl ?_
  refine jT_xgoto (pcN := 5) jIQ_39_25 rfl ?_
  refine jT_xiload (v := (0, 5)) (pcN := 7) jIQ_39_5 rfl rfl rfl ?_
  refine jT_xbipush (k := 6) (pcN := 9) jIQ_39_7 (by decide) rfl ?_
  refine jT_xicF (t := 28) (pcN := 12) jIQ_39_9 rfl (by decide +kernel) rfl rfl ?_
  refine jT_xlload_n (v := (1, r7 + r8)) (pcN := 13) jIQ_39_12 rfl rfl rfl ?_
  refine jT_xaload_n (v := (4, 1)) (pcN := 14) jIQ_39_13 rfl rfl rfl ?_
  refine jT_xiload (v := (0, 5)) (pcN := 16) jIQ_39_14 rfl rfl rfl ?_
  refine jT_lald (x := 0) (a := 1) (j := 5) (fs := []) (X := [0, r7, r8, 0, 0, 0]) jIQ_39_16 rfl rfl rfl rfl ?_
  refine jT_eq (LN := [(4, (0, 5)), (2, (1, r7 + r8)), (0, (4, 0)), (1, (4, 1))]) (stN := [(1, 0), (1, r7 + r8)]) (hsN := [jgh, (101, [], [0, r7, r8, 0, 0, 0])]) rfl rfl rfl ?_
  refine jT_labs (z := 0) (by rfl) (by rfl) (by rfl) (by rfl) (by decide +kernel) ?_
  refine jT_xladd (x := r7 + r8) (y := 0) (z := r7 + r8) (pcN := 21) jIQ_39_20 rfl (by omega) rfl ?_
  refine jT_xlstore_n (v := (1, r7 + r8)) (LN := [(2, (1, r7 + r8)), (4, (0, 5)), (0, (4, 0)), (1, (4, 1))]) (pcN := 22) jIQ_39_21 rfl rfl rfl rfl ?_
  refine jT_xiinc (x := 5) (z := 6) (LN := [(4, (0, 6)), (2, (1, r7 + r8)), (0, (4, 0)), (1, (4, 1))]) (pcN := 25) jIQ_39_22 rfl rfl (by decide) rfl rfl ?_
  refine jT_xgoto (pcN := 5) jIQ_39_25 rfl ?_
  refine jT_xiload (v := (0, 6)) (pcN := 7) jIQ_39_5 rfl rfl rfl ?_
  refine jT_xbipush (k := 6) (pcN := 9) jIQ_39_7 (by decide) rfl ?_
  refine jT_xicT (pcN := 28) jIQ_39_9 rfl (by decide +kernel) rfl ?_
  refine jT_xlload_n (v := (1, r7 + r8)) (pcN := 29) jIQ_39_28 rfl rfl rfl ?_
  exact jT_ret rfl (by decide) (by show 2 ≤ 2; omega) (by omega) (by omega) ⟨rfl, rfl, rfl⟩
theorem jQ_373_69 {xs : List Int} {d : Nat} : jT xs d 373 0 0 [(0, (1, 0)), (2, (1, 1))] [] [] 0 0 (fun k v hsN => k = 0 ∧ v = (1, 0) ∧ hsN = [] ++ []) := by
  refine jT_advK 11 (pcN := 29) (LN := [(4, (1, 0)), (0, (1, 0)), (2, (1, 1))]) (stN := [(1, 0)]) (hsN := []) (c1 := 0) (s1 := 0) (c2 := 0) (s2 := 0) (by decide +kernel) ?_ (by omega) (by omega)
  exact jT_ret rfl (by decide) (by show 0 ≤ 0; omega) (by omega) (by omega) ⟨rfl, rfl, rfl⟩
theorem jQ_39_70 {xs : List Int} {d : Nat} {r7 r8 : Int} (h_r7 : (-20) ≤ r7 ∧ r7 ≤ 20) (h_r8 : (-10) ≤ r8 ∧ r8 ≤ 10) (g_0 : 0 ≤ r7) (g_1 : 0 ≤ r8) (g_2 : 0 ≤ r7 + r8 - 1) : jT xs d 39 2 0 [(0, (4, 0)), (1, (4, 1))] [] [jgh, (101, [], [0, r7, r8, 0, 0, 0])] 0 0 (fun k v hsN => k = 0 ∧ v = (1, r7 + r8) ∧ hsN = [jgh, (101, [], [0, r7, r8, 0, 0, 0])] ++ []) := by
  refine jT_xlconst (z := 0) (pcN := 1) jIQ_39_0 rfl rfl ?_
  refine jT_xlstore_n (v := (1, 0)) (LN := [(2, (1, 0)), (0, (4, 0)), (1, (4, 1))]) (pcN := 2) jIQ_39_1 rfl rfl rfl rfl ?_
  refine jT_xiconst (k := 1) (pcN := 3) jIQ_39_2 rfl ?_
  refine jT_xistore (v := (0, 1)) (LN := [(4, (0, 1)), (2, (1, 0)), (0, (4, 0)), (1, (4, 1))]) (pcN := 5) jIQ_39_3 rfl rfl rfl rfl ?_
  refine jT_xiload (v := (0, 1)) (pcN := 7) jIQ_39_5 rfl rfl rfl ?_
  refine jT_xbipush (k := 6) (pcN := 9) jIQ_39_7 (by decide) rfl ?_
  refine jT_xicF (t := 28) (pcN := 12) jIQ_39_9 rfl (by decide +kernel) rfl rfl ?_
  refine jT_xlload_n (v := (1, 0)) (pcN := 13) jIQ_39_12 rfl rfl rfl ?_
  refine jT_xaload_n (v := (4, 1)) (pcN := 14) jIQ_39_13 rfl rfl rfl ?_
  refine jT_xiload (v := (0, 1)) (pcN := 16) jIQ_39_14 rfl rfl rfl ?_
  refine jT_lald (x := r7) (a := 1) (j := 1) (fs := []) (X := [0, r7, r8, 0, 0, 0]) jIQ_39_16 rfl rfl rfl rfl ?_
  refine jT_eq (LN := [(4, (0, 1)), (2, (1, 0)), (0, (4, 0)), (1, (4, 1))]) (stN := [(1, r7), (1, 0)]) (hsN := [jgh, (101, [], [0, r7, r8, 0, 0, 0])]) rfl rfl rfl ?_
  refine jT_labs (z := r7) (by rfl) (by rfl) (by rfl) (by rfl) (by rw [show jwl (r7) = r7 from jwl_idd (by omega) (by omega), decide_eq_false (by omega)]; first | (simp only [cond_true, cond_false]; done) | (simp only [cond_true, cond_false]; omega) | rfl) ?_
  refine jT_xladd (x := 0) (y := r7) (z := r7) (pcN := 21) jIQ_39_20 rfl (by omega) rfl ?_
  refine jT_xlstore_n (v := (1, r7)) (LN := [(2, (1, r7)), (4, (0, 1)), (0, (4, 0)), (1, (4, 1))]) (pcN := 22) jIQ_39_21 rfl rfl rfl rfl ?_
  refine jT_xiinc (x := 1) (z := 2) (LN := [(4, (0, 2)), (2, (1, r7)), (0, (4, 0)), (1, (4, 1))]) (pcN := 25) jIQ_39_22 rfl rfl (by decide) rfl rfl ?_
  refine jT_xgoto (pcN := 5) jIQ_39_25 rfl ?_
  refine jT_xiload (v := (0, 2)) (pcN := 7) jIQ_39_5 rfl rfl rfl ?_
  refine jT_xbipush (k := 6) (pcN := 9) jIQ_39_7 (by decide) rfl ?_
  refine jT_xicF (t := 28) (pcN := 12) jIQ_39_9 rfl (by decide +kernel) rfl rfl ?_
  refine jT_xlload_n (v := (1, r7)) (pcN := 13) jIQ_39_12 rfl rfl rfl ?_
  refine jT_xaload_n (v := (4, 1)) (pcN := 14) jIQ_39_13 rfl rfl rfl ?_
  refine jT_xiload (v := (0, 2)) (pcN := 16) jIQ_39_14 rfl rfl rfl ?_
  refine jT_lald (x := r8) (a := 1) (j := 2) (fs := []) (X := [0, r7, r8, 0, 0, 0]) jIQ_39_16 rfl rfl rfl rfl ?_
  refine jT_eq (LN := [(4, (0, 2)), (2, (1, r7)), (0, (4, 0)), (1, (4, 1))]) (stN := [(1, r8), (1, r7)]) (hsN := [jgh, (101, [], [0, r7, r8, 0, 0, 0])]) rfl rfl rfl ?_
  refine jT_labs (z := r8) (by rfl) (by rfl) (by rfl) (by rfl) (by rw [show jwl (r8) = r8 from jwl_idd (by omega) (by omega), decide_eq_false (by omega)]; first | (simp only [cond_true, cond_false]; done) | (simp only [cond_true, cond_false]; omega) | rfl) ?_
  refine jT_xladd (x := r7) (y := r8) (z := r7 + r8) (pcN := 21) jIQ_39_20 rfl (rfl) rfl ?_
  refine jT_xlstore_n (v := (1, r7 + r8)) (LN := [(2, (1, r7 + r8)), (4, (0, 2)), (0, (4, 0)), (1, (4, 1))]) (pcN := 22) jIQ_39_21 rfl rfl rfl rfl ?_
  refine jT_xiinc (x := 2) (z := 3) (LN := [(4, (0, 3)), (2, (1, r7 + r8)), (0, (4, 0)), (1, (4, 1))]) (pcN := 25) jIQ_39_22 rfl rfl (by decide) rfl rfl ?_
  refine jT_xgoto (pcN := 5) jIQ_39_25 rfl ?_
  refine jT_xiload (v := (0, 3)) (pcN := 7) jIQ_39_5 rfl rfl rfl ?_
  refine jT_xbipush (k := 6) (pcN := 9) jIQ_39_7 (by decide) rfl ?_
  refine jT_xicF (t := 28) (pcN := 12) jIQ_39_9 rfl (by decide +kernel) rfl rfl ?_
  refine jT_xlload_n (v := (1, r7 + r8)) (pcN := 13) jIQ_39_12 rfl rfl rfl ?_
  refine jT_xaload_n (v := (4, 1)) (pcN := 14) jIQ_39_13 rfl rfl rfl ?_
  refine jT_xiload (v := (0, 3)) (pcN := 16) jIQ_39_14 rfl rfl rfl ?_
  refine jT_lald (x := 0) (a := 1) (j := 3) (fs := []) (X := [0, r7, r8, 0, 0, 0]) jIQ_39_16 rfl rfl rfl rfl ?_
  refine jT_eq (LN := [(4, (0, 3)), (2, (1, r7 + r8)), (0, (4, 0)), (1, (4, 1))]) (stN := [(1, 0), (1, r7 + r8)]) (hsN := [jgh, (101, [], [0, r7, r8, 0, 0, 0])]) rfl rfl rfl ?_
  refine jT_labs (z := 0) (by rfl) (by rfl) (by rfl) (by rfl) (by decide +kernel) ?_
  refine jT_xladd (x := r7 + r8) (y := 0) (z := r7 + r8) (pcN := 21) jIQ_39_20 rfl (by omega) rfl ?_
  refine jT_xlstore_n (v := (1, r7 + r8)) (LN := [(2, (1, r7 + r8)), (4, (0, 3)), (0, (4, 0)), (1, (4, 1))]) (pcN := 22) jIQ_39_21 rfl rfl rfl rfl ?_
  refine jT_xiinc (x := 3) (z := 4) (LN := [(4, (0, 4)), (2, (1, r7 + r8)), (0, (4, 0)), (1, (4, 1))]) (pcN := 25) jIQ_39_22 rfl rfl (by decide) rfl rfl ?_
  refine jT_xgoto (pcN := 5) jIQ_39_25 rfl ?_
  refine jT_xiload (v := (0, 4)) (pcN := 7) jIQ_39_5 rfl rfl rfl ?_
  refine jT_xbipush (k := 6) (pcN := 9) jIQ_39_7 (by decide) rfl ?_
  refine jT_xicF (t := 28) (pcN := 12) jIQ_39_9 rfl (by decide +kernel) rfl rfl ?_
  refine jT_xlload_n (v := (1, r7 + r8)) (pcN := 13) jIQ_39_12 rfl rfl rfl ?_
  refine jT_xaload_n (v := (4, 1)) (pcN := 14) jIQ_39_13 rfl rfl rfl ?_
  refine jT_xiload (v := (0, 4)) (pcN := 16) jIQ_39_14 rfl rfl rfl ?_
  refine jT_lald (x := 0) (a := 1) (j := 4) (fs := []) (X := [0, r7, r8, 0, 0, 0]) jIQ_39_16 rfl rfl rfl rfl ?_
  refine jT_eq (LN := [(4, (0, 4)), (2, (1, r7 + r8)), (0, (4, 0)), (1, (4, 1))]) (stN := [(1, 0), (1, r7 + r8)]) (hsN := [jgh, (101, [], [0, r7, r8, 0, 0, 0])]) rfl rfl rfl ?_
  refine jT_labs (z := 0) (by rfl) (by rfl) (by rfl) (by rfl) (by decide +kernel) ?_
  refine jT_xladd (x := r7 + r8) (y := 0) (z := r7 + r8) (pcN := 21) jIQ_39_20 rfl (by omega) rfl ?_
  refine jT_xlstore_n (v := (1, r7 + r8)) (LN := [(2, (1, r7 + r8)), (4, (0, 4)), (0, (4, 0)), (1, (4, 1))]) (pcN := 22) jIQ_39_21 rfl rfl rfl rfl ?_
  refine jT_xiinc (x := 4) (z := 5) (LN := [(4, (0, 5)), (2, (1, r7 + r8)), (0, (4, 0)), (1, (4, 1))]) (pcN := 25) jIQ_39_22 rfl rfl (by decide) rfl rfl ?_
  refine jT_xgoto (pcN := 5) jIQ_39_25 rfl ?_
  refine jT_xiload (v := (0, 5)) (pcN := 7) jIQ_39_5 rfl rfl rfl ?_
  refine jT_xbipush (k := 6) (pcN := 9) jIQ_39_7 (by decide) rfl ?_
  refine jT_xicF (t := 28) (pcN := 12) jIQ_39_9 rfl (by decide +kernel) rfl rfl ?_
  refine jT_xlload_n (v := (1, r7 + r8)) (pcN := 13) jIQ_39_12 rfl rfl rfl ?_
  refine jT_xaload_n (v := (4, 1)) (pcN := 14) jIQ_39_13 rfl rfl rfl ?_
  refine jT_xiload (v := (0, 5)) (pcN := 16) jIQ_39_14 rfl rfl rfl ?_
  refine jT_lald (x := 0) (a := 1) (j := 5) (fs := []) (X := [0, r7, r8, 0, 0, 0]) jIQ_39_16 rfl rfl rfl rfl ?_
  refine jT_eq (LN := [(4, (0, 5)), (2, (1, r7 + r8)), (0, (4, 0)), (1, (4, 1))]) (stN := [(1, 0), (1, r7 + r8)]) (hsN := [jgh, (101, [], [0, r7, r8, 0, 0, 0])]) rfl rfl rfl ?_
  refine jT_labs (z := 0) (by rfl) (by rfl) (by rfl) (by rfl) (by decide +kernel) ?_
  refine jT_xladd (x := r7 + r8) (y := 0) (z := r7 + r8) (pcN := 21) jIQ_39_20 rfl (by omega) rfl ?_
  refine jT_xlstore_n (v := (1, r7 + r8)) (LN := [(2, (1, r7 + r8)), (4, (0, 5)), (0, (4, 0)), (1, (4, 1))]) (pcN := 22) jIQ_39_21 rfl rfl rfl rfl ?_
  refine jT_xiinc (x := 5) (z := 6) (LN := [(4, (0, 6)), (2, (1, r7 + r8)), (0, (4, 0)), (1, (4, 1))]) (pcN := 25) jIQ_39_22 rfl rfl (by decide) rfl rfl ?_
  refine jT_xgoto (pcN := 5) jIQ_39_25 rfl ?_
  refine jT_xiload (v := (0, 6)) (pcN := 7) jIQ_39_5 rfl rfl rfl ?_
  refine jT_xbipush (k := 6) (pcN := 9) jIQ_39_7 (by decide) rfl ?_
  refine jT_xicT (pcN := 28) jIQ_39_9 rfl (by decide +kernel) rfl ?_
  refine jT_xlload_n (v := (1, r7 + r8)) (pcN := 29) jIQ_39_28 rfl rfl rfl ?_
  exact jT_ret rfl (by decide) (by show 2 ≤ 2; omega) (by omega) (by omega) ⟨rfl, rfl, rfl⟩
theorem jQ_40_71 {xs : List Int} {d : Nat} {r7 r8 : Int} (h_r7 : (-20) ≤ r7 ∧ r7 ≤ 20) (h_r8 : (-10) ≤ r8 ∧ r8 ≤ 10) (g_0 : 0 ≤ r7) (g_1 : 0 ≤ r8) (g_2 : 0 ≤ r7 + r8 - 1) : jT xs d 40 2 0 [(0, (4, 0)), (1, (4, 1)), (2, (1, r7 + r8))] [] [jgh, (101, [], [0, r7, r8, 0, 0, 0])] 0 0 (fun k v hsN => k = 0 ∧ v = (0, 1) ∧ hsN = [jgh, (101, [], [0, r7, r8, 0, 0, 0])] ++ []) := by
  refine jT_xlload_n (v := (1, r7 + r8)) (pcN := 1) jIQ_40_0 rfl rfl rfl ?_
  refine jT_adv 1 (pcN := 4) (LN := [(0, (4, 0)), (1, (4, 1)), (2, (1, r7 + r8))]) (stN := [(1, 16777216), (1, r7 + r8)]) (hsN := [jgh, (101, [], [0, r7, r8, 0, 0, 0])]) (c1 := 0) (s1 := 0) (c2 := 0) (s2 := 0) (by exact rfl) ?_ (by omega) (by omega)
  refine jT_lcmp (a := r7 + r8) (b := 16777216) (z := (-1)) (by rfl) (by rfl) (jwl_idd (by omega) (by omega)) (jwl_idd (by omega) (by omega)) (by rw [decide_eq_false (show ¬ ((16777216 : Int) < r7 + r8) by omega), decide_eq_false (show ¬ ((r7 + r8 : Int) = 16777216) by omega)]; rfl) ?_
  refine jT_xifF (t := 25) (pcN := 8) jIQ_40_5 rfl (by decide +kernel) rfl rfl ?_
  refine jT_xaload_n (v := (4, 1)) (pcN := 9) jIQ_40_8 rfl rfl rfl ?_
  refine jT_xiconst (k := 0) (pcN := 10) jIQ_40_9 rfl ?_
  refine jT_lald (x := 0) (a := 1) (j := 0) (fs := []) (X := [0, r7, r8, 0, 0, 0]) jIQ_40_10 rfl rfl rfl rfl ?_
  refine jT_eq (LN := [(0, (4, 0)), (1, (4, 1)), (2, (1, r7 + r8))]) (stN := [(1, 0)]) (hsN := [jgh, (101, [], [0, r7, r8, 0, 0, 0])]) rfl rfl rfl ?_
  refine jT_labs (z := 0) (by rfl) (by rfl) (by rfl) (by rfl) (by decide +kernel) ?_
  refine jT_adv 1 (pcN := 17) (LN := [(0, (4, 0)), (1, (4, 1)), (2, (1, r7 + r8))]) (stN := [(1, 16777216), (1, 0)]) (hsN := [jgh, (101, [], [0, r7, r8, 0, 0, 0])]) (c1 := 0) (s1 := 0) (c2 := 0) (s2 := 0) (by exact rfl) ?_ (by omega) (by omega)
  refine jT_lcmp (a := 0) (b := 16777216) (z := (-1)) (by rfl) (by rfl) (by decide +kernel) (by decide +kernel) (by decide) ?_
  refine jT_xifF (t := 25) (pcN := 21) jIQ_40_18 rfl (by decide +kernel) rfl rfl ?_
  refine jT_xiconst (k := 1) (pcN := 22) jIQ_40_21 rfl ?_
  refine jT_xgoto (pcN := 26) jIQ_40_22 rfl ?_
  exact jT_ret rfl (by decide) (by show 2 ≤ 2; omega) (by omega) (by omega) ⟨rfl, rfl, rfl⟩
theorem jQ_41_72 {xs : List Int} {d : Nat} {r7 r8 : Int} (h_r7 : (-20) ≤ r7 ∧ r7 ≤ 20) (h_r8 : (-10) ≤ r8 ∧ r8 ≤ 10) (g_0 : 0 ≤ r7) (g_1 : 0 ≤ r8) (g_2 : 0 ≤ r7 + r8 - 1) : jT xs d 41 2 0 [(0, (4, 0)), (1, (4, 1))] [] [jgh, (101, [], [0, r7, r8, 0, 0, 0])] 0 0 (fun k v hsN => k = 0 ∧ v = (1, 108917793695 * r7 + 159561683699 * r8) ∧ hsN = [jgh, (101, [], [0, r7, r8, 0, 0, 0])] ++ []) := by
  refine jT_xlconst (z := 0) (pcN := 1) jIQ_41_0 rfl rfl ?_
  refine jT_xlstore_n (v := (1, 0)) (LN := [(2, (1, 0)), (0, (4, 0)), (1, (4, 1))]) (pcN := 2) jIQ_41_1 rfl rfl rfl rfl ?_
  refine jT_xiconst (k := 0) (pcN := 3) jIQ_41_2 rfl ?_
  refine jT_xistore (v := (0, 0)) (LN := [(4, (0, 0)), (2, (1, 0)), (0, (4, 0)), (1, (4, 1))]) (pcN := 5) jIQ_41_3 rfl rfl rfl rfl ?_
  refine jT_xiload (v := (0, 0)) (pcN := 7) jIQ_41_5 rfl rfl rfl ?_
  refine jT_xbipush (k := 6) (pcN := 9) jIQ_41_7 (by decide) rfl ?_
  refine jT_xicF (t := 32) (pcN := 12) jIQ_41_9 rfl (by decide +kernel) rfl rfl ?_
  refine jT_xlload_n (v := (1, 0)) (pcN := 13) jIQ_41_12 rfl rfl rfl ?_
  refine jT_xaload_n (v := (4, 1)) (pcN := 14) jIQ_41_13 rfl rfl rfl ?_
  refine jT_xiload (v := (0, 0)) (pcN := 16) jIQ_41_14 rfl rfl rfl ?_
  refine jT_lald (x := 0) (a := 1) (j := 0) (fs := []) (X := [0, r7, r8, 0, 0, 0]) jIQ_41_16 rfl rfl rfl rfl ?_
  refine jT_eq (LN := [(4, (0, 0)), (2, (1, 0)), (0, (4, 0)), (1, (4, 1))]) (stN := [(1, 0), (1, 0)]) (hsN := [jgh, (101, [], [0, r7, r8, 0, 0, 0])]) rfl rfl rfl ?_
  refine jT_adv 1 (pcN := 20) (LN := [(4, (0, 0)), (2, (1, 0)), (0, (4, 0)), (1, (4, 1))]) (stN := [(5, 0), (1, 0), (1, 0)]) (hsN := [jgh, (101, [], [0, r7, r8, 0, 0, 0])]) (c1 := 0) (s1 := 0) (c2 := 0) (s2 := 0) (by exact rfl) ?_ (by omega) (by omega)
  refine jT_xiload (v := (0, 0)) (pcN := 22) jIQ_41_20 rfl rfl rfl ?_
  refine jT_adv 1 (pcN := 23) (LN := [(4, (0, 0)), (2, (1, 0)), (0, (4, 0)), (1, (4, 1))]) (stN := [(1, 68719476736), (1, 0), (1, 0)]) (hsN := [jgh, (101, [], [0, r7, r8, 0, 0, 0])]) (c1 := 0) (s1 := 0) (c2 := 0) (s2 := 0) (by exact rfl) ?_ (by omega) (by omega)
  refine jT_xlmul (x := 0) (y := 68719476736) (z := 0) (pcN := 24) jIQ_41_23 rfl (by decide) rfl ?_
  refine jT_xladd (x := 0) (y := 0) (z := 0) (pcN := 25) jIQ_41_24 rfl (by decide) rfl ?_
  refine jT_xlstore_n (v := (1, 0)) (LN := [(2, (1, 0)), (4, (0, 0)), (0, (4, 0)), (1, (4, 1))]) (pcN := 26) jIQ_41_25 rfl rfl rfl rfl ?_
  refine jT_xiinc (x := 0) (z := 1) (LN := [(4, (0, 1)), (2, (1, 0)), (0, (4, 0)), (1, (4, 1))]) (pcN := 29) jIQ_41_26 rfl rfl (by decide) rfl rfl ?_
  refine jT_xgoto (pcN := 5) jIQ_41_29 rfl ?_
  refine jT_xiload (v := (0, 1)) (pcN := 7) jIQ_41_5 rfl rfl rfl ?_
  refine jT_xbipush (k := 6) (pcN := 9) jIQ_41_7 (by decide) rfl ?_
  refine jT_xicF (t := 32) (pcN := 12) jIQ_41_9 rfl (by decide +kernel) rfl rfl ?_
  refine jT_xlload_n (v := (1, 0)) (pcN := 13) jIQ_41_12 rfl rfl rfl ?_
  refine jT_xaload_n (v := (4, 1)) (pcN := 14) jIQ_41_13 rfl rfl rfl ?_
  refine jT_xiload (v := (0, 1)) (pcN := 16) jIQ_41_14 rfl rfl rfl ?_
  refine jT_lald (x := r7) (a := 1) (j := 1) (fs := []) (X := [0, r7, r8, 0, 0, 0]) jIQ_41_16 rfl rfl rfl rfl ?_
  refine jT_eq (LN := [(4, (0, 1)), (2, (1, 0)), (0, (4, 0)), (1, (4, 1))]) (stN := [(1, r7), (1, 0)]) (hsN := [jgh, (101, [], [0, r7, r8, 0, 0, 0])]) rfl rfl rfl ?_
  refine jT_adv 1 (pcN := 20) (LN := [(4, (0, 1)), (2, (1, 0)), (0, (4, 0)), (1, (4, 1))]) (stN := [(5, 0), (1, r7), (1, 0)]) (hsN := [jgh, (101, [], [0, r7, r8, 0, 0, 0])]) (c1 := 0) (s1 := 0) (c2 := 0) (s2 := 0) (by exact rfl) ?_ (by omega) (by omega)
  refine jT_xiload (v := (0, 1)) (pcN := 22) jIQ_41_20 rfl rfl rfl ?_
  refine jT_adv 1 (pcN := 23) (LN := [(4, (0, 1)), (2, (1, 0)), (0, (4, 0)), (1, (4, 1))]) (stN := [(1, 108917793695), (1, r7), (1, 0)]) (hsN := [jgh, (101, [], [0, r7, r8, 0, 0, 0])]) (c1 := 0) (s1 := 0) (c2 := 0) (s2 := 0) (by exact rfl) ?_ (by omega) (by omega)
  refine jT_xlmul (x := r7) (y := 108917793695) (z := 108917793695 * r7) (pcN := 24) jIQ_41_23 rfl (by omega) rfl ?_
  refine jT_xladd (x := 0) (y := 108917793695 * r7) (z := 108917793695 * r7) (pcN := 25) jIQ_41_24 rfl (by omega) rfl ?_
  refine jT_xlstore_n (v := (1, 108917793695 * r7)) (LN := [(2, (1, 108917793695 * r7)), (4, (0, 1)), (0, (4, 0)), (1, (4, 1))]) (pcN := 26) jIQ_41_25 rfl rfl rfl rfl ?_
  refine jT_xiinc (x := 1) (z := 2) (LN := [(4, (0, 2)), (2, (1, 108917793695 * r7)), (0, (4, 0)), (1, (4, 1))]) (pcN := 29) jIQ_41_26 rfl rfl (by decide) rfl rfl ?_
  refine jT_xgoto (pcN := 5) jIQ_41_29 rfl ?_
  refine jT_xiload (v := (0, 2)) (pcN := 7) jIQ_41_5 rfl rfl rfl ?_
  refine jT_xbipush (k := 6) (pcN := 9) jIQ_41_7 (by decide) rfl ?_
  refine jT_xicF (t := 32) (pcN := 12) jIQ_41_9 rfl (by decide +kernel) rfl rfl ?_
  refine jT_xlload_n (v := (1, 108917793695 * r7)) (pcN := 13) jIQ_41_12 rfl rfl rfl ?_
  refine jT_xaload_n (v := (4, 1)) (pcN := 14) jIQ_41_13 rfl rfl rfl ?_
  refine jT_xiload (v := (0, 2)) (pcN := 16) jIQ_41_14 rfl rfl rfl ?_
  refine jT_lald (x := r8) (a := 1) (j := 2) (fs := []) (X := [0, r7, r8, 0, 0, 0]) jIQ_41_16 rfl rfl rfl rfl ?_
  refine jT_eq (LN := [(4, (0, 2)), (2, (1, 108917793695 * r7)), (0, (4, 0)), (1, (4, 1))]) (stN := [(1, r8), (1, 108917793695 * r7)]) (hsN := [jgh, (101, [], [0, r7, r8, 0, 0, 0])]) rfl rfl rfl ?_
  refine jT_adv 1 (pcN := 20) (LN := [(4, (0, 2)), (2, (1, 108917793695 * r7)), (0, (4, 0)), (1, (4, 1))]) (stN := [(5, 0), (1, r8), (1, 108917793695 * r7)]) (hsN := [jgh, (101, [], [0, r7, r8, 0, 0, 0])]) (c1 := 0) (s1 := 0) (c2 := 0) (s2 := 0) (by exact rfl) ?_ (by omega) (by omega)
  refine jT_xiload (v := (0, 2)) (pcN := 22) jIQ_41_20 rfl rfl rfl ?_
  refine jT_adv 1 (pcN := 23) (LN := [(4, (0, 2)), (2, (1, 108917793695 * r7)), (0, (4, 0)), (1, (4, 1))]) (stN := [(1, 159561683699), (1, r8), (1, 108917793695 * r7)]) (hsN := [jgh, (101, [], [0, r7, r8, 0, 0, 0])]) (c1 := 0) (s1 := 0) (c2 := 0) (s2 := 0) (by exact rfl) ?_ (by omega) (by omega)
  refine jT_xlmul (x := r8) (y := 159561683699) (z := 159561683699 * r8) (pcN := 24) jIQ_41_23 rfl (by omega) rfl ?_
  refine jT_xladd (x := 108917793695 * r7) (y := 159561683699 * r8) (z := 108917793695 * r7 + 159561683699 * r8) (pcN := 25) jIQ_41_24 rfl (by omega) rfl ?_
  refine jT_xlstore_n (v := (1, 108917793695 * r7 + 159561683699 * r8)) (LN := [(2, (1, 108917793695 * r7 + 159561683699 * r8)), (4, (0, 2)), (0, (4, 0)), (1, (4, 1))]) (pcN := 26) jIQ_41_25 rfl rfl rfl rfl ?_
  refine jT_xiinc (x := 2) (z := 3) (LN := [(4, (0, 3)), (2, (1, 108917793695 * r7 + 159561683699 * r8)), (0, (4, 0)), (1, (4, 1))]) (pcN := 29) jIQ_41_26 rfl rfl (by decide) rfl rfl ?_
  refine jT_xgoto (pcN := 5) jIQ_41_29 rfl ?_
  refine jT_xiload (v := (0, 3)) (pcN := 7) jIQ_41_5 rfl rfl rfl ?_
  refine jT_xbipush (k := 6) (pcN := 9) jIQ_41_7 (by decide) rfl ?_
  refine jT_xicF (t := 32) (pcN := 12) jIQ_41_9 rfl (by decide +kernel) rfl rfl ?_
  refine jT_xlload_n (v := (1, 108917793695 * r7 + 159561683699 * r8)) (pcN := 13) jIQ_41_12 rfl rfl rfl ?_
  refine jT_xaload_n (v := (4, 1)) (pcN := 14) jIQ_41_13 rfl rfl rfl ?_
  refine jT_xiload (v := (0, 3)) (pcN := 16) jIQ_41_14 rfl rfl rfl ?_
  refine jT_lald (x := 0) (a := 1) (j := 3) (fs := []) (X := [0, r7, r8, 0, 0, 0]) jIQ_41_16 rfl rfl rfl rfl ?_
  refine jT_eq (LN := [(4, (0, 3)), (2, (1, 108917793695 * r7 + 159561683699 * r8)), (0, (4, 0)), (1, (4, 1))]) (stN := [(1, 0), (1, 108917793695 * r7 + 159561683699 * r8)]) (hsN := [jgh, (101, [], [0, r7, r8, 0, 0, 0])]) rfl rfl rfl ?_
  refine jT_adv 1 (pcN := 20) (LN := [(4, (0, 3)), (2, (1, 108917793695 * r7 + 159561683699 * r8)), (0, (4, 0)), (1, (4, 1))]) (stN := [(5, 0), (1, 0), (1, 108917793695 * r7 + 159561683699 * r8)]) (hsN := [jgh, (101, [], [0, r7, r8, 0, 0, 0])]) (c1 := 0) (s1 := 0) (c2 := 0) (s2 := 0) (by exact rfl) ?_ (by omega) (by omega)
  refine jT_xiload (v := (0, 3)) (pcN := 22) jIQ_41_20 rfl rfl rfl ?_
  refine jT_adv 1 (pcN := 23) (LN := [(4, (0, 3)), (2, (1, 108917793695 * r7 + 159561683699 * r8)), (0, (4, 0)), (1, (4, 1))]) (stN := [(1, 192919961256), (1, 0), (1, 108917793695 * r7 + 159561683699 * r8)]) (hsN := [jgh, (101, [], [0, r7, r8, 0, 0, 0])]) (c1 := 0) (s1 := 0) (c2 := 0) (s2 := 0) (by exact rfl) ?_ (by omega) (by omega)
  refine jT_xlmul (x := 0) (y := 192919961256) (z := 0) (pcN := 24) jIQ_41_23 rfl (by decide) rfl ?_
  refine jT_xladd (x := 108917793695 * r7 + 159561683699 * r8) (y := 0) (z := 108917793695 * r7 + 159561683699 * r8) (pcN := 25) jIQ_41_24 rfl (by omega) rfl ?_
  refine jT_xlstore_n (v := (1, 108917793695 * r7 + 159561683699 * r8)) (LN := [(2, (1, 108917793695 * r7 + 159561683699 * r8)), (4, (0, 3)), (0, (4, 0)), (1, (4, 1))]) (pcN := 26) jIQ_41_25 rfl rfl rfl rfl ?_
  refine jT_xiinc (x := 3) (z := 4) (LN := [(4, (0, 4)), (2, (1, 108917793695 * r7 + 159561683699 * r8)), (0, (4, 0)), (1, (4, 1))]) (pcN := 29) jIQ_41_26 rfl rfl (by decide) rfl rfl ?_
  refine jT_xgoto (pcN := 5) jIQ_41_29 rfl ?_
  refine jT_xiload (v := (0, 4)) (pcN := 7) jIQ_41_5 rfl rfl rfl ?_
  refine jT_xbipush (k := 6) (pcN := 9) jIQ_41_7 (by decide) rfl ?_
  refine jT_xicF (t := 32) (pcN := 12) jIQ_41_9 rfl (by decide +kernel) rfl rfl ?_
  refine jT_xlload_n (v := (1, 108917793695 * r7 + 159561683699 * r8)) (pcN := 13) jIQ_41_12 rfl rfl rfl ?_
  refine jT_xaload_n (v := (4, 1)) (pcN := 14) jIQ_41_13 rfl rfl rfl ?_
  refine jT_xiload (v := (0, 4)) (pcN := 16) jIQ_41_14 rfl rfl rfl ?_
  refine jT_lald (x := 0) (a := 1) (j := 4) (fs := []) (X := [0, r7, r8, 0, 0, 0]) jIQ_41_16 rfl rfl rfl rfl ?_
  refine jT_eq (LN := [(4, (0, 4)), (2, (1, 108917793695 * r7 + 159561683699 * r8)), (0, (4, 0)), (1, (4, 1))]) (stN := [(1, 0), (1, 108917793695 * r7 + 159561683699 * r8)]) (hsN := [jgh, (101, [], [0, r7, r8, 0, 0, 0])]) rfl rfl rfl ?_
  refine jT_adv 1 (pcN := 20) (LN := [(4, (0, 4)), (2, (1, 108917793695 * r7 + 159561683699 * r8)), (0, (4, 0)), (1, (4, 1))]) (stN := [(5, 0), (1, 0), (1, 108917793695 * r7 + 159561683699 * r8)]) (hsN := [jgh, (101, [], [0, r7, r8, 0, 0, 0])]) (c1 := 0) (s1 := 0) (c2 := 0) (s2 := 0) (by exact rfl) ?_ (by omega) (by omega)
  refine jT_xiload (v := (0, 4)) (pcN := 22) jIQ_41_20 rfl rfl rfl ?_
  refine jT_adv 1 (pcN := 23) (LN := [(4, (0, 4)), (2, (1, 108917793695 * r7 + 159561683699 * r8)), (0, (4, 0)), (1, (4, 1))]) (stN := [(1, 237730330636), (1, 0), (1, 108917793695 * r7 + 159561683699 * r8)]) (hsN := [jgh, (101, [], [0, r7, r8, 0, 0, 0])]) (c1 := 0) (s1 := 0) (c2 := 0) (s2 := 0) (by exact rfl) ?_ (by omega) (by omega)
  refine jT_xlmul (x := 0) (y := 237730330636) (z := 0) (pcN := 24) jIQ_41_23 rfl (by decide) rfl ?_
  refine jT_xladd (x := 108917793695 * r7 + 159561683699 * r8) (y := 0) (z := 108917793695 * r7 + 159561683699 * r8) (pcN := 25) jIQ_41_24 rfl (by omega) rfl ?_
  refine jT_xlstore_n (v := (1, 108917793695 * r7 + 159561683699 * r8)) (LN := [(2, (1, 108917793695 * r7 + 159561683699 * r8)), (4, (0, 4)), (0, (4, 0)), (1, (4, 1))]) (pcN := 26) jIQ_41_25 rfl rfl rfl rfl ?_
  refine jT_xiinc (x := 4) (z := 5) (LN := [(4, (0, 5)), (2, (1, 108917793695 * r7 + 159561683699 * r8)), (0, (4, 0)), (1, (4, 1))]) (pcN := 29) jIQ_41_26 rfl rfl (by decide) rfl rfl ?_
  refine jT_xgoto (pcN := 5) jIQ_41_29 rfl ?_
  refine jT_xiload (v := (0, 5)) (pcN := 7) jIQ_41_5 rfl rfl rfl ?_
  refine jT_xbipush (k := 6) (pcN := 9) jIQ_41_7 (by decide) rfl ?_
  refine jT_xicF (t := 32) (pcN := 12) jIQ_41_9 rfl (by decide +kernel) rfl rfl ?_
  refine jT_xlload_n (v := (1, 108917793695 * r7 + 159561683699 * r8)) (pcN := 13) jIQ_41_12 rfl rfl rfl ?_
  refine jT_xaload_n (v := (4, 1)) (pcN := 14) jIQ_41_13 rfl rfl rfl ?_
  refine jT_xiload (v := (0, 5)) (pcN := 16) jIQ_41_14 rfl rfl rfl ?_
  refine jT_lald (x := 0) (a := 1) (j := 5) (fs := []) (X := [0, r7, r8, 0, 0, 0]) jIQ_41_16 rfl rfl rfl rfl ?_
  refine jT_eq (LN := [(4, (0, 5)), (2, (1, 108917793695 * r7 + 159561683699 * r8)), (0, (4, 0)), (1, (4, 1))]) (stN := [(1, 0), (1, 108917793695 * r7 + 159561683699 * r8)]) (hsN := [jgh, (101, [], [0, r7, r8, 0, 0, 0])]) rfl rfl rfl ?_
  refine jT_adv 1 (pcN := 20) (LN := [(4, (0, 5)), (2, (1, 108917793695 * r7 + 159561683699 * r8)), (0, (4, 0)), (1, (4, 1))]) (stN := [(5, 0), (1, 0), (1, 108917793695 * r7 + 159561683699 * r8)]) (hsN := [jgh, (101, [], [0, r7, r8, 0, 0, 0])]) (c1 := 0) (s1 := 0) (c2 := 0) (s2 := 0) (by exact rfl) ?_ (by omega) (by omega)
  refine jT_xiload (v := (0, 5)) (pcN := 22) jIQ_41_20 rfl rfl rfl ?_
  refine jT_adv 1 (pcN := 23) (LN := [(4, (0, 5)), (2, (1, 108917793695 * r7 + 159561683699 * r8)), (0, (4, 0)), (1, (4, 1))]) (stN := [(1, 254292281123), (1, 0), (1, 108917793695 * r7 + 159561683699 * r8)]) (hsN := [jgh, (101, [], [0, r7, r8, 0, 0, 0])]) (c1 := 0) (s1 := 0) (c2 := 0) (s2 := 0) (by exact rfl) ?_ (by omega) (by omega)
  refine jT_xlmul (x := 0) (y := 254292281123) (z := 0) (pcN := 24) jIQ_41_23 rfl (by decide) rfl ?_
  refine jT_xladd (x := 108917793695 * r7 + 159561683699 * r8) (y := 0) (z := 108917793695 * r7 + 159561683699 * r8) (pcN := 25) jIQ_41_24 rfl (by omega) rfl ?_
  refine jT_xlstore_n (v := (1, 108917793695 * r7 + 159561683699 * r8)) (LN := [(2, (1, 108917793695 * r7 + 159561683699 * r8)), (4, (0, 5)), (0, (4, 0)), (1, (4, 1))]) (pcN := 26) jIQ_41_25 rfl rfl rfl rfl ?_
  refine jT_xiinc (x := 5) (z := 6) (LN := [(4, (0, 6)), (2, (1, 108917793695 * r7 + 159561683699 * r8)), (0, (4, 0)), (1, (4, 1))]) (pcN := 29) jIQ_41_26 rfl rfl (by decide) rfl rfl ?_
  refine jT_xgoto (pcN := 5) jIQ_41_29 rfl ?_
  refine jT_xiload (v := (0, 6)) (pcN := 7) jIQ_41_5 rfl rfl rfl ?_
  refine jT_xbipush (k := 6) (pcN := 9) jIQ_41_7 (by decide) rfl ?_
  refine jT_xicT (pcN := 32) jIQ_41_9 rfl (by decide +kernel) rfl ?_
  refine jT_xlload_n (v := (1, 108917793695 * r7 + 159561683699 * r8)) (pcN := 33) jIQ_41_32 rfl rfl rfl ?_
  exact jT_ret rfl (by decide) (by show 2 ≤ 2; omega) (by omega) (by omega) ⟨rfl, rfl, rfl⟩
theorem jQ_39_73 {xs : List Int} {d : Nat} {r7 r8 : Int} (h_r7 : (-20) ≤ r7 ∧ r7 ≤ 20) (h_r8 : (-10) ≤ r8 ∧ r8 ≤ 10) (g_0 : 0 ≤ r7) (g_1 : 0 ≤ r8) (g_2 : 0 ≤ r7 + r8 - 1) (g_3 : 108917793695 * r7 + 159561683699 * r8 < 0) : jT xs d 39 2 0 [(0, (4, 0)), (1, (4, 1))] [] [jgh, (101, [], [0, r7, r8, 0, 0, 0])] 0 0 (fun k v hsN => k = 0 ∧ v = (1, r7 + r8) ∧ hsN = [jgh, (101, [], [0, r7, r8, 0, 0, 0])] ++ []) := by
  refine jT_xlconst (z := 0) (pcN := 1) jIQ_39_0 rfl rfl ?_
  refine jT_xlstore_n (v := (1, 0)) (LN := [(2, (1, 0)), (0, (4, 0)), (1, (4, 1))]) (pcN := 2) jIQ_39_1 rfl rfl rfl rfl ?_
  refine jT_xiconst (k := 1) (pcN := 3) jIQ_39_2 rfl ?_
  refine jT_xistore (v := (0, 1)) (LN := [(4, (0, 1)), (2, (1, 0)), (0, (4, 0)), (1, (4, 1))]) (pcN := 5) jIQ_39_3 rfl rfl rfl rfl ?_
  refine jT_xiload (v := (0, 1)) (pcN := 7) jIQ_39_5 rfl rfl rfl ?_
  refine jT_xbipush (k := 6) (pcN := 9) jIQ_39_7 (by decide) rfl ?_
  refine jT_xicF (t := 28) (pcN := 12) jIQ_39_9 rfl (by decide +kernel) rfl rfl ?_
  refine jT_xlload_n (v := (1, 0)) (pcN := 13) jIQ_39_12 rfl rfl rfl ?_
  refine jT_xaload_n (v := (4, 1)) (pcN := 14) jIQ_39_13 rfl rfl rfl ?_
  refine jT_xiload (v := (0, 1)) (pcN := 16) jIQ_39_14 rfl rfl rfl ?_
  refine jT_lald (x := r7) (a := 1) (j := 1) (fs := []) (X := [0, r7, r8, 0, 0, 0]) jIQ_39_16 rfl rfl rfl rfl ?_
  refine jT_eq (LN := [(4, (0, 1)), (2, (1, 0)), (0, (4, 0)), (1, (4, 1))]) (stN := [(1, r7), (1, 0)]) (hsN := [jgh, (101, [], [0, r7, r8, 0, 0, 0])]) rfl rfl rfl ?_
  refine jT_labs (z := r7) (by rfl) (by rfl) (by rfl) (by rfl) (by rw [show jwl (r7) = r7 from jwl_idd (by omega) (by omega), decide_eq_false (by omega)]; first | (simp only [cond_true, cond_false]; done) | (simp only [cond_true, cond_false]; omega) | rfl) ?_
  refine jT_xladd (x := 0) (y := r7) (z := r7) (pcN := 21) jIQ_39_20 rfl (by omega) rfl ?_
  refine jT_xlstore_n (v := (1, r7)) (LN := [(2, (1, r7)), (4, (0, 1)), (0, (4, 0)), (1, (4, 1))]) (pcN := 22) jIQ_39_21 rfl rfl rfl rfl ?_
  refine jT_xiinc (x := 1) (z := 2) (LN := [(4, (0, 2)), (2, (1, r7)), (0, (4, 0)), (1, (4, 1))]) (pcN := 25) jIQ_39_22 rfl rfl (by decide) rfl rfl ?_
  refine jT_xgoto (pcN := 5) jIQ_39_25 rfl ?_
  refine jT_xiload (v := (0, 2)) (pcN := 7) jIQ_39_5 rfl rfl rfl ?_
  refine jT_xbipush (k := 6) (pcN := 9) jIQ_39_7 (by decide) rfl ?_
  refine jT_xicF (t := 28) (pcN := 12) jIQ_39_9 rfl (by decide +kernel) rfl rfl ?_
  refine jT_xlload_n (v := (1, r7)) (pcN := 13) jIQ_39_12 rfl rfl rfl ?_
  refine jT_xaload_n (v := (4, 1)) (pcN := 14) jIQ_39_13 rfl rfl rfl ?_
  refine jT_xiload (v := (0, 2)) (pcN := 16) jIQ_39_14 rfl rfl rfl ?_
  refine jT_lald (x := r8) (a := 1) (j := 2) (fs := []) (X := [0, r7, r8, 0, 0, 0]) jIQ_39_16 rfl rfl rfl rfl ?_
  refine jT_eq (LN := [(4, (0, 2)), (2, (1, r7)), (0, (4, 0)), (1, (4, 1))]) (stN := [(1, r8), (1, r7)]) (hsN := [jgh, (101, [], [0, r7, r8, 0, 0, 0])]) rfl rfl rfl ?_
  refine jT_labs (z := r8) (by rfl) (by rfl) (by rfl) (by rfl) (by rw [show jwl (r8) = r8 from jwl_idd (by omega) (by omega), decide_eq_false (by omega)]; first | (simp only [cond_true, cond_false]; done) | (simp only [cond_true, cond_false]; omega) | rfl) ?_
  refine jT_xladd (x := r7) (y := r8) (z := r7 + r8) (pcN := 21) jIQ_39_20 rfl (rfl) rfl ?_
  refine jT_xlstore_n (v := (1, r7 + r8)) (LN := [(2, (1, r7 + r8)), (4, (0, 2)), (0, (4, 0)), (1, (4, 1))]) (pcN := 22) jIQ_39_21 rfl rfl rfl rfl ?_
  refine jT_xiinc (x := 2) (z := 3) (LN := [(4, (0, 3)), (2, (1, r7 + r8)), (0, (4, 0)), (1, (4, 1))]) (pcN := 25) jIQ_39_22 rfl rfl (by decide) rfl rfl ?_
  refine jT_xgoto (pcN := 5) jIQ_39_25 rfl ?_
  refine jT_xiload (v := (0, 3)) (pcN := 7) jIQ_39_5 rfl rfl rfl ?_
  refine jT_xbipush (k := 6) (pcN := 9) jIQ_39_7 (by decide) rfl ?_
  refine jT_xicF (t := 28) (pcN := 12) jIQ_39_9 rfl (by decide +kernel) rfl rfl ?_
  refine jT_xlload_n (v := (1, r7 + r8)) (pcN := 13) jIQ_39_12 rfl rfl rfl ?_
  refine jT_xaload_n (v := (4, 1)) (pcN := 14) jIQ_39_13 rfl rfl rfl ?_
  refine jT_xiload (v := (0, 3)) (pcN := 16) jIQ_39_14 rfl rfl rfl ?_
  refine jT_lald (x := 0) (a := 1) (j := 3) (fs := []) (X := [0, r7, r8, 0, 0, 0]) jIQ_39_16 rfl rfl rfl rfl ?_
  refine jT_eq (LN := [(4, (0, 3)), (2, (1, r7 + r8)), (0, (4, 0)), (1, (4, 1))]) (stN := [(1, 0), (1, r7 + r8)]) (hsN := [jgh, (101, [], [0, r7, r8, 0, 0, 0])]) rfl rfl rfl ?_
  refine jT_labs (z := 0) (by rfl) (by rfl) (by rfl) (by rfl) (by decide +kernel) ?_
  refine jT_xladd (x := r7 + r8) (y := 0) (z := r7 + r8) (pcN := 21) jIQ_39_20 rfl (by omega) rfl ?_
  refine jT_xlstore_n (v := (1, r7 + r8)) (LN := [(2, (1, r7 + r8)), (4, (0, 3)), (0, (4, 0)), (1, (4, 1))]) (pcN := 22) jIQ_39_21 rfl rfl rfl rfl ?_
  refine jT_xiinc (x := 3) (z := 4) (LN := [(4, (0, 4)), (2, (1, r7 + r8)), (0, (4, 0)), (1, (4, 1))]) (pcN := 25) jIQ_39_22 rfl rfl (by decide) rfl rfl ?_
  refine jT_xgoto (pcN := 5) jIQ_39_25 rfl ?_
  refine jT_xiload (v := (0, 4)) (pcN := 7) jIQ_39_5 rfl rfl rfl ?_
  refine jT_xbipush (k := 6) (pcN := 9) jIQ_39_7 (by decide) rfl ?_
  refine jT_xicF (t := 28) (pcN := 12) jIQ_39_9 rfl (by decide +kernel) rfl rfl ?_
  refine jT_xlload_n (v := (1, r7 + r8)) (pcN := 13) jIQ_39_12 rfl rfl rfl ?_
  refine jT_xaload_n (v := (4, 1)) (pcN := 14) jIQ_39_13 rfl rfl rfl ?_
  refine jT_xiload (v := (0, 4)) (pcN := 16) jIQ_39_14 rfl rfl rfl ?_
  refine jT_lald (x := 0) (a := 1) (j := 4) (fs := []) (X := [0, r7, r8, 0, 0, 0]) jIQ_39_16 rfl rfl rfl rfl ?_
  refine jT_eq (LN := [(4, (0, 4)), (2, (1, r7 + r8)), (0, (4, 0)), (1, (4, 1))]) (stN := [(1, 0), (1, r7 + r8)]) (hsN := [jgh, (101, [], [0, r7, r8, 0, 0, 0])]) rfl rfl rfl ?_
  refine jT_labs (z := 0) (by rfl) (by rfl) (by rfl) (by rfl) (by decide +kernel) ?_
  refine jT_xladd (x := r7 + r8) (y := 0) (z := r7 + r8) (pcN := 21) jIQ_39_20 rfl (by omega) rfl ?_
  refine jT_xlstore_n (v := (1, r7 + r8)) (LN := [(2, (1, r7 + r8)), (4, (0, 4)), (0, (4, 0)), (1, (4, 1))]) (pcN := 22) jIQ_39_21 rfl rfl rfl rfl ?_
  refine jT_xiinc (x := 4) (z := 5) (LN := [(4, (0, 5)), (2, (1, r7 + r8)), (0, (4, 0)), (1, (4, 1))]) (pcN := 25) jIQ_39_22 rfl rfl (by decide) rfl rfl ?_
  refine jT_xgoto (pcN := 5) jIQ_39_25 rfl ?_
  refine jT_xiload (v := (0, 5)) (pcN := 7) jIQ_39_5 rfl rfl rfl ?_
  refine jT_xbipush (k := 6) (pcN := 9) jIQ_39_7 (by decide) rfl ?_
  refine jT_xicF (t := 28) (pcN := 12) jIQ_39_9 rfl (by decide +kernel) rfl rfl ?_
  refine jT_xlload_n (v := (1, r7 + r8)) (pcN := 13) jIQ_39_12 rfl rfl rfl ?_
  refine jT_xaload_n (v := (4, 1)) (pcN := 14) jIQ_39_13 rfl rfl rfl ?_
  refine jT_xiload (v := (0, 5)) (pcN := 16) jIQ_39_14 rfl rfl rfl ?_
  refine jT_lald (x := 0) (a := 1) (j := 5) (fs := []) (X := [0, r7, r8, 0, 0, 0]) jIQ_39_16 rfl rfl rfl rfl ?_
  refine jT_eq (LN := [(4, (0, 5)), (2, (1, r7 + r8)), (0, (4, 0)), (1, (4, 1))]) (stN := [(1, 0), (1, r7 + r8)]) (hsN := [jgh, (101, [], [0, r7, r8, 0, 0, 0])]) rfl rfl rfl ?_
  refine jT_labs (z := 0) (by rfl) (by rfl) (by rfl) (by rfl) (by decide +kernel) ?_
  refine jT_xladd (x := r7 + r8) (y := 0) (z := r7 + r8) (pcN := 21) jIQ_39_20 rfl (by omega) rfl ?_
  refine jT_xlstore_n (v := (1, r7 + r8)) (LN := [(2, (1, r7 + r8)), (4, (0, 5)), (0, (4, 0)), (1, (4, 1))]) (pcN := 22) jIQ_39_21 rfl rfl rfl rfl ?_
  refine jT_xiinc (x := 5) (z := 6) (LN := [(4, (0, 6)), (2, (1, r7 + r8)), (0, (4, 0)), (1, (4, 1))]) (pcN := 25) jIQ_39_22 rfl rfl (by decide) rfl rfl ?_
  refine jT_xgoto (pcN := 5) jIQ_39_25 rfl ?_
  refine jT_xiload (v := (0, 6)) (pcN := 7) jIQ_39_5 rfl rfl rfl ?_
  refine jT_xbipush (k := 6) (pcN := 9) jIQ_39_7 (by decide) rfl ?_
  refine jT_xicT (pcN := 28) jIQ_39_9 rfl (by decide +kernel) rfl ?_
  refine jT_xlload_n (v := (1, r7 + r8)) (pcN := 29) jIQ_39_28 rfl rfl rfl ?_
  exact jT_ret rfl (by decide) (by show 2 ≤ 2; omega) (by omega) (by omega) ⟨rfl, rfl, rfl⟩
theorem jQ_40_74 {xs : List Int} {d : Nat} {r7 r8 : Int} (h_r7 : (-20) ≤ r7 ∧ r7 ≤ 20) (h_r8 : (-10) ≤ r8 ∧ r8 ≤ 10) (g_0 : 0 ≤ r7) (g_1 : 0 ≤ r8) (g_2 : 0 ≤ r7 + r8 - 1) (g_3 : 108917793695 * r7 + 159561683699 * r8 < 0) : jT xs d 40 2 0 [(0, (4, 0)), (1, (4, 1)), (2, (1, r7 + r8))] [] [jgh, (101, [], [0, r7, r8, 0, 0, 0])] 0 0 (fun k v hsN => k = 0 ∧ v = (0, 1) ∧ hsN = [jgh, (101, [], [0, r7, r8, 0, 0, 0])] ++ []) := by
  refine jT_xlload_n (v := (1, r7 + r8)) (pcN := 1) jIQ_40_0 rfl rfl rfl ?_
  refine jT_adv 1 (pcN := 4) (LN := [(0, (4, 0)), (1, (4, 1)), (2, (1, r7 + r8))]) (stN := [(1, 16777216), (1, r7 + r8)]) (hsN := [jgh, (101, [], [0, r7, r8, 0, 0, 0])]) (c1 := 0) (s1 := 0) (c2 := 0) (s2 := 0) (by exact rfl) ?_ (by omega) (by omega)
  refine jT_lcmp (a := r7 + r8) (b := 16777216) (z := (-1)) (by rfl) (by rfl) (jwl_idd (by omega) (by omega)) (jwl_idd (by omega) (by omega)) (by rw [decide_eq_false (show ¬ ((16777216 : Int) < r7 + r8) by omega), decide_eq_false (show ¬ ((r7 + r8 : Int) = 16777216) by omega)]; rfl) ?_
  refine jT_xifF (t := 25) (pcN := 8) jIQ_40_5 rfl (by decide +kernel) rfl rfl ?_
  refine jT_xaload_n (v := (4, 1)) (pcN := 9) jIQ_40_8 rfl rfl rfl ?_
  refine jT_xiconst (k := 0) (pcN := 10) jIQ_40_9 rfl ?_
  refine jT_lald (x := 0) (a := 1) (j := 0) (fs := []) (X := [0, r7, r8, 0, 0, 0]) jIQ_40_10 rfl rfl rfl rfl ?_
  refine jT_eq (LN := [(0, (4, 0)), (1, (4, 1)), (2, (1, r7 + r8))]) (stN := [(1, 0)]) (hsN := [jgh, (101, [], [0, r7, r8, 0, 0, 0])]) rfl rfl rfl ?_
  refine jT_labs (z := 0) (by rfl) (by rfl) (by rfl) (by rfl) (by decide +kernel) ?_
  refine jT_adv 1 (pcN := 17) (LN := [(0, (4, 0)), (1, (4, 1)), (2, (1, r7 + r8))]) (stN := [(1, 16777216), (1, 0)]) (hsN := [jgh, (101, [], [0, r7, r8, 0, 0, 0])]) (c1 := 0) (s1 := 0) (c2 := 0) (s2 := 0) (by exact rfl) ?_ (by omega) (by omega)
  refine jT_lcmp (a := 0) (b := 16777216) (z := (-1)) (by rfl) (by rfl) (by decide +kernel) (by decide +kernel) (by decide) ?_
  refine jT_xifF (t := 25) (pcN := 21) jIQ_40_18 rfl (by decide +kernel) rfl rfl ?_
  refine jT_xiconst (k := 1) (pcN := 22) jIQ_40_21 rfl ?_
  refine jT_xgoto (pcN := 26) jIQ_40_22 rfl ?_
  exact jT_ret rfl (by decide) (by show 2 ≤ 2; omega) (by omega) (by omega) ⟨rfl, rfl, rfl⟩
theorem jQ_41_75 {xs : List Int} {d : Nat} {r7 r8 : Int} (h_r7 : (-20) ≤ r7 ∧ r7 ≤ 20) (h_r8 : (-10) ≤ r8 ∧ r8 ≤ 10) (g_0 : 0 ≤ r7) (g_1 : 0 ≤ r8) (g_2 : 0 ≤ r7 + r8 - 1) (g_3 : 108917793695 * r7 + 159561683699 * r8 < 0) : jT xs d 41 2 0 [(0, (4, 0)), (1, (4, 1))] [] [jgh, (101, [], [0, r7, r8, 0, 0, 0])] 0 0 (fun k v hsN => k = 0 ∧ v = (1, 108917793695 * r7 + 159561683699 * r8) ∧ hsN = [jgh, (101, [], [0, r7, r8, 0, 0, 0])] ++ []) := by
  refine jT_xlconst (z := 0) (pcN := 1) jIQ_41_0 rfl rfl ?_
  refine jT_xlstore_n (v := (1, 0)) (LN := [(2, (1, 0)), (0, (4, 0)), (1, (4, 1))]) (pcN := 2) jIQ_41_1 rfl rfl rfl rfl ?_
  refine jT_xiconst (k := 0) (pcN := 3) jIQ_41_2 rfl ?_
  refine jT_xistore (v := (0, 0)) (LN := [(4, (0, 0)), (2, (1, 0)), (0, (4, 0)), (1, (4, 1))]) (pcN := 5) jIQ_41_3 rfl rfl rfl rfl ?_
  refine jT_xiload (v := (0, 0)) (pcN := 7) jIQ_41_5 rfl rfl rfl ?_
  refine jT_xbipush (k := 6) (pcN := 9) jIQ_41_7 (by decide) rfl ?_
  refine jT_xicF (t := 32) (pcN := 12) jIQ_41_9 rfl (by decide +kernel) rfl rfl ?_
  refine jT_xlload_n (v := (1, 0)) (pcN := 13) jIQ_41_12 rfl rfl rfl ?_
  refine jT_xaload_n (v := (4, 1)) (pcN := 14) jIQ_41_13 rfl rfl rfl ?_
  refine jT_xiload (v := (0, 0)) (pcN := 16) jIQ_41_14 rfl rfl rfl ?_
  refine jT_lald (x := 0) (a := 1) (j := 0) (fs := []) (X := [0, r7, r8, 0, 0, 0]) jIQ_41_16 rfl rfl rfl rfl ?_
  refine jT_eq (LN := [(4, (0, 0)), (2, (1, 0)), (0, (4, 0)), (1, (4, 1))]) (stN := [(1, 0), (1, 0)]) (hsN := [jgh, (101, [], [0, r7, r8, 0, 0, 0])]) rfl rfl rfl ?_
  refine jT_adv 1 (pcN := 20) (LN := [(4, (0, 0)), (2, (1, 0)), (0, (4, 0)), (1, (4, 1))]) (stN := [(5, 0), (1, 0), (1, 0)]) (hsN := [jgh, (101, [], [0, r7, r8, 0, 0, 0])]) (c1 := 0) (s1 := 0) (c2 := 0) (s2 := 0) (by exact rfl) ?_ (by omega) (by omega)
  refine jT_xiload (v := (0, 0)) (pcN := 22) jIQ_41_20 rfl rfl rfl ?_
  refine jT_adv 1 (pcN := 23) (LN := [(4, (0, 0)), (2, (1, 0)), (0, (4, 0)), (1, (4, 1))]) (stN := [(1, 68719476736), (1, 0), (1, 0)]) (hsN := [jgh, (101, [], [0, r7, r8, 0, 0, 0])]) (c1 := 0) (s1 := 0) (c2 := 0) (s2 := 0) (by exact rfl) ?_ (by omega) (by omega)
  refine jT_xlmul (x := 0) (y := 68719476736) (z := 0) (pcN := 24) jIQ_41_23 rfl (by decide) rfl ?_
  refine jT_xladd (x := 0) (y := 0) (z := 0) (pcN := 25) jIQ_41_24 rfl (by decide) rfl ?_
  refine jT_xlstore_n (v := (1, 0)) (LN := [(2, (1, 0)), (4, (0, 0)), (0, (4, 0)), (1, (4, 1))]) (pcN := 26) jIQ_41_25 rfl rfl rfl rfl ?_
  refine jT_xiinc (x := 0) (z := 1) (LN := [(4, (0, 1)), (2, (1, 0)), (0, (4, 0)), (1, (4, 1))]) (pcN := 29) jIQ_41_26 rfl rfl (by decide) rfl rfl ?_
  refine jT_xgoto (pcN := 5) jIQ_41_29 rfl ?_
  refine jT_xiload (v := (0, 1)) (pcN := 7) jIQ_41_5 rfl rfl rfl ?_
  refine jT_xbipush (k := 6) (pcN := 9) jIQ_41_7 (by decide) rfl ?_
  refine jT_xicF (t := 32) (pcN := 12) jIQ_41_9 rfl (by decide +kernel) rfl rfl ?_
  refine jT_xlload_n (v := (1, 0)) (pcN := 13) jIQ_41_12 rfl rfl rfl ?_
  refine jT_xaload_n (v := (4, 1)) (pcN := 14) jIQ_41_13 rfl rfl rfl ?_
  refine jT_xiload (v := (0, 1)) (pcN := 16) jIQ_41_14 rfl rfl rfl ?_
  refine jT_lald (x := r7) (a := 1) (j := 1) (fs := []) (X := [0, r7, r8, 0, 0, 0]) jIQ_41_16 rfl rfl rfl rfl ?_
  refine jT_eq (LN := [(4, (0, 1)), (2, (1, 0)), (0, (4, 0)), (1, (4, 1))]) (stN := [(1, r7), (1, 0)]) (hsN := [jgh, (101, [], [0, r7, r8, 0, 0, 0])]) rfl rfl rfl ?_
  refine jT_adv 1 (pcN := 20) (LN := [(4, (0, 1)), (2, (1, 0)), (0, (4, 0)), (1, (4, 1))]) (stN := [(5, 0), (1, r7), (1, 0)]) (hsN := [jgh, (101, [], [0, r7, r8, 0, 0, 0])]) (c1 := 0) (s1 := 0) (c2 := 0) (s2 := 0) (by exact rfl) ?_ (by omega) (by omega)
  refine jT_xiload (v := (0, 1)) (pcN := 22) jIQ_41_20 rfl rfl rfl ?_
  refine jT_adv 1 (pcN := 23) (LN := [(4, (0, 1)), (2, (1, 0)), (0, (4, 0)), (1, (4, 1))]) (stN := [(1, 108917793695), (1, r7), (1, 0)]) (hsN := [jgh, (101, [], [0, r7, r8, 0, 0, 0])]) (c1 := 0) (s1 := 0) (c2 := 0) (s2 := 0) (by exact rfl) ?_ (by omega) (by omega)
  refine jT_xlmul (x := r7) (y := 108917793695) (z := 108917793695 * r7) (pcN := 24) jIQ_41_23 rfl (by omega) rfl ?_
  refine jT_xladd (x := 0) (y := 108917793695 * r7) (z := 108917793695 * r7) (pcN := 25) jIQ_41_24 rfl (by omega) rfl ?_
  refine jT_xlstore_n (v := (1, 108917793695 * r7)) (LN := [(2, (1, 108917793695 * r7)), (4, (0, 1)), (0, (4, 0)), (1, (4, 1))]) (pcN := 26) jIQ_41_25 rfl rfl rfl rfl ?_
  refine jT_xiinc (x := 1) (z := 2) (LN := [(4, (0, 2)), (2, (1, 108917793695 * r7)), (0, (4, 0)), (1, (4, 1))]) (pcN := 29) jIQ_41_26 rfl rfl (by decide) rfl rfl ?_
  refine jT_xgoto (pcN := 5) jIQ_41_29 rfl ?_
  refine jT_xiload (v := (0, 2)) (pcN := 7) jIQ_41_5 rfl rfl rfl ?_
  refine jT_xbipush (k := 6) (pcN := 9) jIQ_41_7 (by decide) rfl ?_
  refine jT_xicF (t := 32) (pcN := 12) jIQ_41_9 rfl (by decide +kernel) rfl rfl ?_
  refine jT_xlload_n (v := (1, 108917793695 * r7)) (pcN := 13) jIQ_41_12 rfl rfl rfl ?_
  refine jT_xaload_n (v := (4, 1)) (pcN := 14) jIQ_41_13 rfl rfl rfl ?_
  refine jT_xiload (v := (0, 2)) (pcN := 16) jIQ_41_14 rfl rfl rfl ?_
  refine jT_lald (x := r8) (a := 1) (j := 2) (fs := []) (X := [0, r7, r8, 0, 0, 0]) jIQ_41_16 rfl rfl rfl rfl ?_
  refine jT_eq (LN := [(4, (0, 2)), (2, (1, 108917793695 * r7)), (0, (4, 0)), (1, (4, 1))]) (stN := [(1, r8), (1, 108917793695 * r7)]) (hsN := [jgh, (101, [], [0, r7, r8, 0, 0, 0])]) rfl rfl rfl ?_
  refine jT_adv 1 (pcN := 20) (LN := [(4, (0, 2)), (2, (1, 108917793695 * r7)), (0, (4, 0)), (1, (4, 1))]) (stN := [(5, 0), (1, r8), (1, 108917793695 * r7)]) (hsN := [jgh, (101, [], [0, r7, r8, 0, 0, 0])]) (c1 := 0) (s1 := 0) (c2 := 0) (s2 := 0) (by exact rfl) ?_ (by omega) (by omega)
  refine jT_xiload (v := (0, 2)) (pcN := 22) jIQ_41_20 rfl rfl rfl ?_
  refine jT_adv 1 (pcN := 23) (LN := [(4, (0, 2)), (2, (1, 108917793695 * r7)), (0, (4, 0)), (1, (4, 1))]) (stN := [(1, 159561683699), (1, r8), (1, 108917793695 * r7)]) (hsN := [jgh, (101, [], [0, r7, r8, 0, 0, 0])]) (c1 := 0) (s1 := 0) (c2 := 0) (s2 := 0) (by exact rfl) ?_ (by omega) (by omega)
  refine jT_xlmul (x := r8) (y := 159561683699) (z := 159561683699 * r8) (pcN := 24) jIQ_41_23 rfl (by omega) rfl ?_
  refine jT_xladd (x := 108917793695 * r7) (y := 159561683699 * r8) (z := 108917793695 * r7 + 159561683699 * r8) (pcN := 25) jIQ_41_24 rfl (by omega) rfl ?_
  refine jT_xlstore_n (v := (1, 108917793695 * r7 + 159561683699 * r8)) (LN := [(2, (1, 108917793695 * r7 + 159561683699 * r8)), (4, (0, 2)), (0, (4, 0)), (1, (4, 1))]) (pcN := 26) jIQ_41_25 rfl rfl rfl rfl ?_
  refine jT_xiinc (x := 2) (z := 3) (LN := [(4, (0, 3)), (2, (1, 108917793695 * r7 + 159561683699 * r8)), (0, (4, 0)), (1, (4, 1))]) (pcN := 29) jIQ_41_26 rfl rfl (by decide) rfl rfl ?_
  refine jT_xgoto (pcN := 5) jIQ_41_29 rfl ?_
  refine jT_xiload (v := (0, 3)) (pcN := 7) jIQ_41_5 rfl rfl rfl ?_
  refine jT_xbipush (k := 6) (pcN := 9) jIQ_41_7 (by decide) rfl ?_
  refine jT_xicF (t := 32) (pcN := 12) jIQ_41_9 rfl (by decide +kernel) rfl rfl ?_
  refine jT_xlload_n (v := (1, 108917793695 * r7 + 159561683699 * r8)) (pcN := 13) jIQ_41_12 rfl rfl rfl ?_
  refine jT_xaload_n (v := (4, 1)) (pcN := 14) jIQ_41_13 rfl rfl rfl ?_
  refine jT_xiload (v := (0, 3)) (pcN := 16) jIQ_41_14 rfl rfl rfl ?_
  refine jT_lald (x := 0) (a := 1) (j := 3) (fs := []) (X := [0, r7, r8, 0, 0, 0]) jIQ_41_16 rfl rfl rfl rfl ?_
  refine jT_eq (LN := [(4, (0, 3)), (2, (1, 108917793695 * r7 + 159561683699 * r8)), (0, (4, 0)), (1, (4, 1))]) (stN := [(1, 0), (1, 108917793695 * r7 + 159561683699 * r8)]) (hsN := [jgh, (101, [], [0, r7, r8, 0, 0, 0])]) rfl rfl rfl ?_
  refine jT_adv 1 (pcN := 20) (LN := [(4, (0, 3)), (2, (1, 108917793695 * r7 + 159561683699 * r8)), (0, (4, 0)), (1, (4, 1))]) (stN := [(5, 0), (1, 0), (1, 108917793695 * r7 + 159561683699 * r8)]) (hsN := [jgh, (101, [], [0, r7, r8, 0, 0, 0])]) (c1 := 0) (s1 := 0) (c2 := 0) (s2 := 0) (by exact rfl) ?_ (by omega) (by omega)
  refine jT_xiload (v := (0, 3)) (pcN := 22) jIQ_41_20 rfl rfl rfl ?_
  refine jT_adv 1 (pcN := 23) (LN := [(4, (0, 3)), (2, (1, 108917793695 * r7 + 159561683699 * r8)), (0, (4, 0)), (1, (4, 1))]) (stN := [(1, 192919961256), (1, 0), (1, 108917793695 * r7 + 159561683699 * r8)]) (hsN := [jgh, (101, [], [0, r7, r8, 0, 0, 0])]) (c1 := 0) (s1 := 0) (c2 := 0) (s2 := 0) (by exact rfl) ?_ (by omega) (by omega)
  refine jT_xlmul (x := 0) (y := 192919961256) (z := 0) (pcN := 24) jIQ_41_23 rfl (by decide) rfl ?_
  refine jT_xladd (x := 108917793695 * r7 + 159561683699 * r8) (y := 0) (z := 108917793695 * r7 + 159561683699 * r8) (pcN := 25) jIQ_41_24 rfl (by omega) rfl ?_
  refine jT_xlstore_n (v := (1, 108917793695 * r7 + 159561683699 * r8)) (LN := [(2, (1, 108917793695 * r7 + 159561683699 * r8)), (4, (0, 3)), (0, (4, 0)), (1, (4, 1))]) (pcN := 26) jIQ_41_25 rfl rfl rfl rfl ?_
  refine jT_xiinc (x := 3) (z := 4) (LN := [(4, (0, 4)), (2, (1, 108917793695 * r7 + 159561683699 * r8)), (0, (4, 0)), (1, (4, 1))]) (pcN := 29) jIQ_41_26 rfl rfl (by decide) rfl rfl ?_
  refine jT_xgoto (pcN := 5) jIQ_41_29 rfl ?_
  refine jT_xiload (v := (0, 4)) (pcN := 7) jIQ_41_5 rfl rfl rfl ?_
  refine jT_xbipush (k := 6) (pcN := 9) jIQ_41_7 (by decide) rfl ?_
  refine jT_xicF (t := 32) (pcN := 12) jIQ_41_9 rfl (by decide +kernel) rfl rfl ?_
  refine jT_xlload_n (v := (1, 108917793695 * r7 + 159561683699 * r8)) (pcN := 13) jIQ_41_12 rfl rfl rfl ?_
  refine jT_xaload_n (v := (4, 1)) (pcN := 14) jIQ_41_13 rfl rfl rfl ?_
  refine jT_xiload (v := (0, 4)) (pcN := 16) jIQ_41_14 rfl rfl rfl ?_
  refine jT_lald (x := 0) (a := 1) (j := 4) (fs := []) (X := [0, r7, r8, 0, 0, 0]) jIQ_41_16 rfl rfl rfl rfl ?_
  refine jT_eq (LN := [(4, (0, 4)), (2, (1, 108917793695 * r7 + 159561683699 * r8)), (0, (4, 0)), (1, (4, 1))]) (stN := [(1, 0), (1, 108917793695 * r7 + 159561683699 * r8)]) (hsN := [jgh, (101, [], [0, r7, r8, 0, 0, 0])]) rfl rfl rfl ?_
  refine jT_adv 1 (pcN := 20) (LN := [(4, (0, 4)), (2, (1, 108917793695 * r7 + 159561683699 * r8)), (0, (4, 0)), (1, (4, 1))]) (stN := [(5, 0), (1, 0), (1, 108917793695 * r7 + 159561683699 * r8)]) (hsN := [jgh, (101, [], [0, r7, r8, 0, 0, 0])]) (c1 := 0) (s1 := 0) (c2 := 0) (s2 := 0) (by exact rfl) ?_ (by omega) (by omega)
  refine jT_xiload (v := (0, 4)) (pcN := 22) jIQ_41_20 rfl rfl rfl ?_
  refine jT_adv 1 (pcN := 23) (LN := [(4, (0, 4)), (2, (1, 108917793695 * r7 + 159561683699 * r8)), (0, (4, 0)), (1, (4, 1))]) (stN := [(1, 237730330636), (1, 0), (1, 108917793695 * r7 + 159561683699 * r8)]) (hsN := [jgh, (101, [], [0, r7, r8, 0, 0, 0])]) (c1 := 0) (s1 := 0) (c2 := 0) (s2 := 0) (by exact rfl) ?_ (by omega) (by omega)
  refine jT_xlmul (x := 0) (y := 237730330636) (z := 0) (pcN := 24) jIQ_41_23 rfl (by decide) rfl ?_
  refine jT_xladd (x := 108917793695 * r7 + 159561683699 * r8) (y := 0) (z := 108917793695 * r7 + 159561683699 * r8) (pcN := 25) jIQ_41_24 rfl (by omega) rfl ?_
  refine jT_xlstore_n (v := (1, 108917793695 * r7 + 159561683699 * r8)) (LN := [(2, (1, 108917793695 * r7 + 159561683699 * r8)), (4, (0, 4)), (0, (4, 0)), (1, (4, 1))]) (pcN := 26) jIQ_41_25 rfl rfl rfl rfl ?_
  refine jT_xiinc (x := 4) (z := 5) (LN := [(4, (0, 5)), (2, (1, 108917793695 * r7 + 159561683699 * r8)), (0, (4, 0)), (1, (4, 1))]) (pcN := 29) jIQ_41_26 rfl rfl (by decide) rfl rfl ?_
  refine jT_xgoto (pcN := 5) jIQ_41_29 rfl ?_
  refine jT_xiload (v := (0, 5)) (pcN := 7) jIQ_41_5 rfl rfl rfl ?_
  refine jT_xbipush (k := 6) (pcN := 9) jIQ_41_7 (by decide) rfl ?_
  refine jT_xicF (t := 32) (pcN := 12) jIQ_41_9 rfl (by decide +kernel) rfl rfl ?_
  refine jT_xlload_n (v := (1, 108917793695 * r7 + 159561683699 * r8)) (pcN := 13) jIQ_41_12 rfl rfl rfl ?_
  refine jT_xaload_n (v := (4, 1)) (pcN := 14) jIQ_41_13 rfl rfl rfl ?_
  refine jT_xiload (v := (0, 5)) (pcN := 16) jIQ_41_14 rfl rfl rfl ?_
  refine jT_lald (x := 0) (a := 1) (j := 5) (fs := []) (X := [0, r7, r8, 0, 0, 0]) jIQ_41_16 rfl rfl rfl rfl ?_
  refine jT_eq (LN := [(4, (0, 5)), (2, (1, 108917793695 * r7 + 159561683699 * r8)), (0, (4, 0)), (1, (4, 1))]) (stN := [(1, 0), (1, 108917793695 * r7 + 159561683699 * r8)]) (hsN := [jgh, (101, [], [0, r7, r8, 0, 0, 0])]) rfl rfl rfl ?_
  refine jT_adv 1 (pcN := 20) (LN := [(4, (0, 5)), (2, (1, 108917793695 * r7 + 159561683699 * r8)), (0, (4, 0)), (1, (4, 1))]) (stN := [(5, 0), (1, 0), (1, 108917793695 * r7 + 159561683699 * r8)]) (hsN := [jgh, (101, [], [0, r7, r8, 0, 0, 0])]) (c1 := 0) (s1 := 0) (c2 := 0) (s2 := 0) (by exact rfl) ?_ (by omega) (by omega)
  refine jT_xiload (v := (0, 5)) (pcN := 22) jIQ_41_20 rfl rfl rfl ?_
  refine jT_adv 1 (pcN := 23) (LN := [(4, (0, 5)), (2, (1, 108917793695 * r7 + 159561683699 * r8)), (0, (4, 0)), (1, (4, 1))]) (stN := [(1, 254292281123), (1, 0), (1, 108917793695 * r7 + 159561683699 * r8)]) (hsN := [jgh, (101, [], [0, r7, r8, 0, 0, 0])]) (c1 := 0) (s1 := 0) (c2 := 0) (s2 := 0) (by exact rfl) ?_ (by omega) (by omega)
  refine jT_xlmul (x := 0) (y := 254292281123) (z := 0) (pcN := 24) jIQ_41_23 rfl (by decide) rfl ?_
  refine jT_xladd (x := 108917793695 * r7 + 159561683699 * r8) (y := 0) (z := 108917793695 * r7 + 159561683699 * r8) (pcN := 25) jIQ_41_24 rfl (by omega) rfl ?_
  refine jT_xlstore_n (v := (1, 108917793695 * r7 + 159561683699 * r8)) (LN := [(2, (1, 108917793695 * r7 + 159561683699 * r8)), (4, (0, 5)), (0, (4, 0)), (1, (4, 1))]) (pcN := 26) jIQ_41_25 rfl rfl rfl rfl ?_
  refine jT_xiinc (x := 5) (z := 6) (LN := [(4, (0, 6)), (2, (1, 108917793695 * r7 + 159561683699 * r8)), (0, (4, 0)), (1, (4, 1))]) (pcN := 29) jIQ_41_26 rfl rfl (by decide) rfl rfl ?_
  refine jT_xgoto (pcN := 5) jIQ_41_29 rfl ?_
  refine jT_xiload (v := (0, 6)) (pcN := 7) jIQ_41_5 rfl rfl rfl ?_
  refine jT_xbipush (k := 6) (pcN := 9) jIQ_41_7 (by decide) rfl ?_
  refine jT_xicT (pcN := 32) jIQ_41_9 rfl (by decide +kernel) rfl ?_
  refine jT_xlload_n (v := (1, 108917793695 * r7 + 159561683699 * r8)) (pcN := 33) jIQ_41_32 rfl rfl rfl ?_
  exact jT_ret rfl (by decide) (by show 2 ≤ 2; omega) (by omega) (by omega) ⟨rfl, rfl, rfl⟩
theorem jQ_39_76 {xs : List Int} {d : Nat} {r7 r8 : Int} (h_r7 : (-20) ≤ r7 ∧ r7 ≤ 20) (h_r8 : (-10) ≤ r8 ∧ r8 ≤ 10) (g_0 : 0 ≤ r7) (g_1 : 0 ≤ r8) (g_2 : 0 ≤ r7 + r8 - 1) (g_3 : 0 ≤ 108917793695 * r7 + 159561683699 * r8) : jT xs d 39 2 0 [(0, (4, 0)), (1, (4, 1))] [] [jgh, (101, [], [0, r7, r8, 0, 0, 0])] 0 0 (fun k v hsN => k = 0 ∧ v = (1, r7 + r8) ∧ hsN = [jgh, (101, [], [0, r7, r8, 0, 0, 0])] ++ []) := by
  refine jT_xlconst (z := 0) (pcN := 1) jIQ_39_0 rfl rfl ?_
  refine jT_xlstore_n (v := (1, 0)) (LN := [(2, (1, 0)), (0, (4, 0)), (1, (4, 1))]) (pcN := 2) jIQ_39_1 rfl rfl rfl rfl ?_
  refine jT_xiconst (k := 1) (pcN := 3) jIQ_39_2 rfl ?_
  refine jT_xistore (v := (0, 1)) (LN := [(4, (0, 1)), (2, (1, 0)), (0, (4, 0)), (1, (4, 1))]) (pcN := 5) jIQ_39_3 rfl rfl rfl rfl ?_
  refine jT_xiload (v := (0, 1)) (pcN := 7) jIQ_39_5 rfl rfl rfl ?_
  refine jT_xbipush (k := 6) (pcN := 9) jIQ_39_7 (by decide) rfl ?_
  refine jT_xicF (t := 28) (pcN := 12) jIQ_39_9 rfl (by decide +kernel) rfl rfl ?_
  refine jT_xlload_n (v := (1, 0)) (pcN := 13) jIQ_39_12 rfl rfl rfl ?_
  refine jT_xaload_n (v := (4, 1)) (pcN := 14) jIQ_39_13 rfl rfl rfl ?_
  refine jT_xiload (v := (0, 1)) (pcN := 16) jIQ_39_14 rfl rfl rfl ?_
  refine jT_lald (x := r7) (a := 1) (j := 1) (fs := []) (X := [0, r7, r8, 0, 0, 0]) jIQ_39_16 rfl rfl rfl rfl ?_
  refine jT_eq (LN := [(4, (0, 1)), (2, (1, 0)), (0, (4, 0)), (1, (4, 1))]) (stN := [(1, r7), (1, 0)]) (hsN := [jgh, (101, [], [0, r7, r8, 0, 0, 0])]) rfl rfl rfl ?_
  refine jT_labs (z := r7) (by rfl) (by rfl) (by rfl) (by rfl) (by rw [show jwl (r7) = r7 from jwl_idd (by omega) (by omega), decide_eq_false (by omega)]; first | (simp only [cond_true, cond_false]; done) | (simp only [cond_true, cond_false]; omega) | rfl) ?_
  refine jT_xladd (x := 0) (y := r7) (z := r7) (pcN := 21) jIQ_39_20 rfl (by omega) rfl ?_
  refine jT_xlstore_n (v := (1, r7)) (LN := [(2, (1, r7)), (4, (0, 1)), (0, (4, 0)), (1, (4, 1))]) (pcN := 22) jIQ_39_21 rfl rfl rfl rfl ?_
  refine jT_xiinc (x := 1) (z := 2) (LN := [(4, (0, 2)), (2, (1, r7)), (0, (4, 0)), (1, (4, 1))]) (pcN := 25) jIQ_39_22 rfl rfl (by decide) rfl rfl ?_
  refine jT_xgoto (pcN := 5) jIQ_39_25 rfl ?_
  refine jT_xiload (v := (0, 2)) (pcN := 7) jIQ_39_5 rfl rfl rfl ?_
  refine jT_xbipush (k := 6) (pcN := 9) jIQ_39_7 (by decide) rfl ?_
  refine jT_xicF (t := 28) (pcN := 12) jIQ_39_9 rfl (by decide +kernel) rfl rfl ?_
  refine jT_xlload_n (v := (1, r7)) (pcN := 13) jIQ_39_12 rfl rfl rfl ?_
  refine jT_xaload_n (v := (4, 1)) (pcN := 14) jIQ_39_13 rfl rfl rfl ?_
  refine jT_xiload (v := (0, 2)) (pcN := 16) jIQ_39_14 rfl rfl rfl ?_
  refine jT_lald (x := r8) (a := 1) (j := 2) (fs := []) (X := [0, r7, r8, 0, 0, 0]) jIQ_39_16 rfl rfl rfl rfl ?_
  refine jT_eq (LN := [(4, (0, 2)), (2, (1, r7)), (0, (4, 0)), (1, (4, 1))]) (stN := [(1, r8), (1, r7)]) (hsN := [jgh, (101, [], [0, r7, r8, 0, 0, 0])]) rfl rfl rfl ?_
  refine jT_labs (z := r8) (by rfl) (by rfl) (by rfl) (by rfl) (by rw [show jwl (r8) = r8 from jwl_idd (by omega) (by omega), decide_eq_false (by omega)]; first | (simp only [cond_true, cond_false]; done) | (simp only [cond_true, cond_false]; omega) | rfl) ?_
  refine jT_xladd (x := r7) (y := r8) (z := r7 + r8) (pcN := 21) jIQ_39_20 rfl (rfl) rfl ?_
  refine jT_xlstore_n (v := (1, r7 + r8)) (LN := [(2, (1, r7 + r8)), (4, (0, 2)), (0, (4, 0)), (1, (4, 1))]) (pcN := 22) jIQ_39_21 rfl rfl rfl rfl ?_
  refine jT_xiinc (x := 2) (z := 3) (LN := [(4, (0, 3)), (2, (1, r7 + r8)), (0, (4, 0)), (1, (4, 1))]) (pcN := 25) jIQ_39_22 rfl rfl (by decide) rfl rfl ?_
  refine jT_xgoto (pcN := 5) jIQ_39_25 rfl ?_
  refine jT_xiload (v := (0, 3)) (pcN := 7) jIQ_39_5 rfl rfl rfl ?_
  refine jT_xbipush (k := 6) (pcN := 9) jIQ_39_7 (by decide) rfl ?_
  refine jT_xicF (t := 28) (pcN := 12) jIQ_39_9 rfl (by decide +kernel) rfl rfl ?_
  refine jT_xlload_n (v := (1, r7 + r8)) (pcN := 13) jIQ_39_12 rfl rfl rfl ?_
  refine jT_xaload_n (v := (4, 1)) (pcN := 14) jIQ_39_13 rfl rfl rfl ?_
  refine jT_xiload (v := (0, 3)) (pcN := 16) jIQ_39_14 rfl rfl rfl ?_
  refine jT_lald (x := 0) (a := 1) (j := 3) (fs := []) (X := [0, r7, r8, 0, 0, 0]) jIQ_39_16 rfl rfl rfl rfl ?_
  refine jT_eq (LN := [(4, (0, 3)), (2, (1, r7 + r8)), (0, (4, 0)), (1, (4, 1))]) (stN := [(1, 0), (1, r7 + r8)]) (hsN := [jgh, (101, [], [0, r7, r8, 0, 0, 0])]) rfl rfl rfl ?_
  refine jT_labs (z := 0) (by rfl) (by rfl) (by rfl) (by rfl) (by decide +kernel) ?_
  refine jT_xladd (x := r7 + r8) (y := 0) (z := r7 + r8) (pcN := 21) jIQ_39_20 rfl (by omega) rfl ?_
  refine jT_xlstore_n (v := (1, r7 + r8)) (LN := [(2, (1, r7 + r8)), (4, (0, 3)), (0, (4, 0)), (1, (4, 1))]) (pcN := 22) jIQ_39_21 rfl rfl rfl rfl ?_
  refine jT_xiinc (x := 3) (z := 4) (LN := [(4, (0, 4)), (2, (1, r7 + r8)), (0, (4, 0)), (1, (4, 1))]) (pcN := 25) jIQ_39_22 rfl rfl (by decide) rfl rfl ?_
  refine jT_xgoto (pcN := 5) jIQ_39_25 rfl ?_
  refine jT_xiload (v := (0, 4)) (pcN := 7) jIQ_39_5 rfl rfl rfl ?_
  refine jT_xbipush (k := 6) (pcN := 9) jIQ_39_7 (by decide) rfl ?_
  refine jT_xicF (t := 28) (pcN := 12) jIQ_39_9 rfl (by decide +kernel) rfl rfl ?_
  refine jT_xlload_n (v := (1, r7 + r8)) (pcN := 13) jIQ_39_12 rfl rfl rfl ?_
  refine jT_xaload_n (v := (4, 1)) (pcN := 14) jIQ_39_13 rfl rfl rfl ?_
  refine jT_xiload (v := (0, 4)) (pcN := 16) jIQ_39_14 rfl rfl rfl ?_
  refine jT_lald (x := 0) (a := 1) (j := 4) (fs := []) (X := [0, r7, r8, 0, 0, 0]) jIQ_39_16 rfl rfl rfl rfl ?_
  refine jT_eq (LN := [(4, (0, 4)), (2, (1, r7 + r8)), (0, (4, 0)), (1, (4, 1))]) (stN := [(1, 0), (1, r7 + r8)]) (hsN := [jgh, (101, [], [0, r7, r8, 0, 0, 0])]) rfl rfl rfl ?_
  refine jT_labs (z := 0) (by rfl) (by rfl) (by rfl) (by rfl) (by decide +kernel) ?_
  refine jT_xladd (x := r7 + r8) (y := 0) (z := r7 + r8) (pcN := 21) jIQ_39_20 rfl (by omega) rfl ?_
  refine jT_xlstore_n (v := (1, r7 + r8)) (LN := [(2, (1, r7 + r8)), (4, (0, 4)), (0, (4, 0)), (1, (4, 1))]) (pcN := 22) jIQ_39_21 rfl rfl rfl rfl ?_
  refine jT_xiinc (x := 4) (z := 5) (LN := [(4, (0, 5)), (2, (1, r7 + r8)), (0, (4, 0)), (1, (4, 1))]) (pcN := 25) jIQ_39_22 rfl rfl (by decide) rfl rfl ?_
  refine jT_xgoto (pcN := 5) jIQ_39_25 rfl ?_
  refine jT_xiload (v := (0, 5)) (pcN := 7) jIQ_39_5 rfl rfl rfl ?_
  refine jT_xbipush (k := 6) (pcN := 9) jIQ_39_7 (by decide) rfl ?_
  refine jT_xicF (t := 28) (pcN := 12) jIQ_39_9 rfl (by decide +kernel) rfl rfl ?_
  refine jT_xlload_n (v := (1, r7 + r8)) (pcN := 13) jIQ_39_12 rfl rfl rfl ?_
  refine jT_xaload_n (v := (4, 1)) (pcN := 14) jIQ_39_13 rfl rfl rfl ?_
  refine jT_xiload (v := (0, 5)) (pcN := 16) jIQ_39_14 rfl rfl rfl ?_
  refine jT_lald (x := 0) (a := 1) (j := 5) (fs := []) (X := [0, r7, r8, 0, 0, 0]) jIQ_39_16 rfl rfl rfl rfl ?_
  refine jT_eq (LN := [(4, (0, 5)), (2, (1, r7 + r8)), (0, (4, 0)), (1, (4, 1))]) (stN := [(1, 0), (1, r7 + r8)]) (hsN := [jgh, (101, [], [0, r7, r8, 0, 0, 0])]) rfl rfl rfl ?_
  refine jT_labs (z := 0) (by rfl) (by rfl) (by rfl) (by rfl) (by decide +kernel) ?_
  refine jT_xladd (x := r7 + r8) (y := 0) (z := r7 + r8) (pcN := 21) jIQ_39_20 rfl (by omega) rfl ?_
  refine jT_xlstore_n (v := (1, r7 + r8)) (LN := [(2, (1, r7 + r8)), (4, (0, 5)), (0, (4, 0)), (1, (4, 1))]) (pcN := 22) jIQ_39_21 rfl rfl rfl rfl ?_
  refine jT_xiinc (x := 5) (z := 6) (LN := [(4, (0, 6)), (2, (1, r7 + r8)), (0, (4, 0)), (1, (4, 1))]) (pcN := 25) jIQ_39_22 rfl rfl (by decide) rfl rfl ?_
  refine jT_xgoto (pcN := 5) jIQ_39_25 rfl ?_
  refine jT_xiload (v := (0, 6)) (pcN := 7) jIQ_39_5 rfl rfl rfl ?_
  refine jT_xbipush (k := 6) (pcN := 9) jIQ_39_7 (by decide) rfl ?_
  refine jT_xicT (pcN := 28) jIQ_39_9 rfl (by decide +kernel) rfl ?_
  refine jT_xlload_n (v := (1, r7 + r8)) (pcN := 29) jIQ_39_28 rfl rfl rfl ?_
  exact jT_ret rfl (by decide) (by show 2 ≤ 2; omega) (by omega) (by omega) ⟨rfl, rfl, rfl⟩
theorem jQ_40_77 {xs : List Int} {d : Nat} {r7 r8 : Int} (h_r7 : (-20) ≤ r7 ∧ r7 ≤ 20) (h_r8 : (-10) ≤ r8 ∧ r8 ≤ 10) (g_0 : 0 ≤ r7) (g_1 : 0 ≤ r8) (g_2 : 0 ≤ r7 + r8 - 1) (g_3 : 0 ≤ 108917793695 * r7 + 159561683699 * r8) : jT xs d 40 2 0 [(0, (4, 0)), (1, (4, 1)), (2, (1, r7 + r8))] [] [jgh, (101, [], [0, r7, r8, 0, 0, 0])] 0 0 (fun k v hsN => k = 0 ∧ v = (0, 1) ∧ hsN = [jgh, (101, [], [0, r7, r8, 0, 0, 0])] ++ []) := by
  refine jT_xlload_n (v := (1, r7 + r8)) (pcN := 1) jIQ_40_0 rfl rfl rfl ?_
  refine jT_adv 1 (pcN := 4) (LN := [(0, (4, 0)), (1, (4, 1)), (2, (1, r7 + r8))]) (stN := [(1, 16777216), (1, r7 + r8)]) (hsN := [jgh, (101, [], [0, r7, r8, 0, 0, 0])]) (c1 := 0) (s1 := 0) (c2 := 0) (s2 := 0) (by exact rfl) ?_ (by omega) (by omega)
  refine jT_lcmp (a := r7 + r8) (b := 16777216) (z := (-1)) (by rfl) (by rfl) (jwl_idd (by omega) (by omega)) (jwl_idd (by omega) (by omega)) (by rw [decide_eq_false (show ¬ ((16777216 : Int) < r7 + r8) by omega), decide_eq_false (show ¬ ((r7 + r8 : Int) = 16777216) by omega)]; rfl) ?_
  refine jT_xifF (t := 25) (pcN := 8) jIQ_40_5 rfl (by decide +kernel) rfl rfl ?_
  refine jT_xaload_n (v := (4, 1)) (pcN := 9) jIQ_40_8 rfl rfl rfl ?_
  refine jT_xiconst (k := 0) (pcN := 10) jIQ_40_9 rfl ?_
  refine jT_lald (x := 0) (a := 1) (j := 0) (fs := []) (X := [0, r7, r8, 0, 0, 0]) jIQ_40_10 rfl rfl rfl rfl ?_
  refine jT_eq (LN := [(0, (4, 0)), (1, (4, 1)), (2, (1, r7 + r8))]) (stN := [(1, 0)]) (hsN := [jgh, (101, [], [0, r7, r8, 0, 0, 0])]) rfl rfl rfl ?_
  refine jT_labs (z := 0) (by rfl) (by rfl) (by rfl) (by rfl) (by decide +kernel) ?_
  refine jT_adv 1 (pcN := 17) (LN := [(0, (4, 0)), (1, (4, 1)), (2, (1, r7 + r8))]) (stN := [(1, 16777216), (1, 0)]) (hsN := [jgh, (101, [], [0, r7, r8, 0, 0, 0])]) (c1 := 0) (s1 := 0) (c2 := 0) (s2 := 0) (by exact rfl) ?_ (by omega) (by omega)
  refine jT_lcmp (a := 0) (b := 16777216) (z := (-1)) (by rfl) (by rfl) (by decide +kernel) (by decide +kernel) (by decide) ?_
  refine jT_xifF (t := 25) (pcN := 21) jIQ_40_18 rfl (by decide +kernel) rfl rfl ?_
  refine jT_xiconst (k := 1) (pcN := 22) jIQ_40_21 rfl ?_
  refine jT_xgoto (pcN := 26) jIQ_40_22 rfl ?_
  exact jT_ret rfl (by decide) (by show 2 ≤ 2; omega) (by omega) (by omega) ⟨rfl, rfl, rfl⟩
theorem jQ_41_78 {xs : List Int} {d : Nat} {r7 r8 : Int} (h_r7 : (-20) ≤ r7 ∧ r7 ≤ 20) (h_r8 : (-10) ≤ r8 ∧ r8 ≤ 10) (g_0 : 0 ≤ r7) (g_1 : 0 ≤ r8) (g_2 : 0 ≤ r7 + r8 - 1) (g_3 : 0 ≤ 108917793695 * r7 + 159561683699 * r8) : jT xs d 41 2 0 [(0, (4, 0)), (1, (4, 1))] [] [jgh, (101, [], [0, r7, r8, 0, 0, 0])] 0 0 (fun k v hsN => k = 0 ∧ v = (1, 108917793695 * r7 + 159561683699 * r8) ∧ hsN = [jgh, (101, [], [0, r7, r8, 0, 0, 0])] ++ []) := by
  refine jT_xlconst (z := 0) (pcN := 1) jIQ_41_0 rfl rfl ?_
  refine jT_xlstore_n (v := (1, 0)) (LN := [(2, (1, 0)), (0, (4, 0)), (1, (4, 1))]) (pcN := 2) jIQ_41_1 rfl rfl rfl rfl ?_
  refine jT_xiconst (k := 0) (pcN := 3) jIQ_41_2 rfl ?_
  refine jT_xistore (v := (0, 0)) (LN := [(4, (0, 0)), (2, (1, 0)), (0, (4, 0)), (1, (4, 1))]) (pcN := 5) jIQ_41_3 rfl rfl rfl rfl ?_
  refine jT_xiload (v := (0, 0)) (pcN := 7) jIQ_41_5 rfl rfl rfl ?_
  refine jT_xbipush (k := 6) (pcN := 9) jIQ_41_7 (by decide) rfl ?_
  refine jT_xicF (t := 32) (pcN := 12) jIQ_41_9 rfl (by decide +kernel) rfl rfl ?_
  refine jT_xlload_n (v := (1, 0)) (pcN := 13) jIQ_41_12 rfl rfl rfl ?_
  refine jT_xaload_n (v := (4, 1)) (pcN := 14) jIQ_41_13 rfl rfl rfl ?_
  refine jT_xiload (v := (0, 0)) (pcN := 16) jIQ_41_14 rfl rfl rfl ?_
  refine jT_lald (x := 0) (a := 1) (j := 0) (fs := []) (X := [0, r7, r8, 0, 0, 0]) jIQ_41_16 rfl rfl rfl rfl ?_
  refine jT_eq (LN := [(4, (0, 0)), (2, (1, 0)), (0, (4, 0)), (1, (4, 1))]) (stN := [(1, 0), (1, 0)]) (hsN := [jgh, (101, [], [0, r7, r8, 0, 0, 0])]) rfl rfl rfl ?_
  refine jT_adv 1 (pcN := 20) (LN := [(4, (0, 0)), (2, (1, 0)), (0, (4, 0)), (1, (4, 1))]) (stN := [(5, 0), (1, 0), (1, 0)]) (hsN := [jgh, (101, [], [0, r7, r8, 0, 0, 0])]) (c1 := 0) (s1 := 0) (c2 := 0) (s2 := 0) (by exact rfl) ?_ (by omega) (by omega)
  refine jT_xiload (v := (0, 0)) (pcN := 22) jIQ_41_20 rfl rfl rfl ?_
  refine jT_adv 1 (pcN := 23) (LN := [(4, (0, 0)), (2, (1, 0)), (0, (4, 0)), (1, (4, 1))]) (stN := [(1, 68719476736), (1, 0), (1, 0)]) (hsN := [jgh, (101, [], [0, r7, r8, 0, 0, 0])]) (c1 := 0) (s1 := 0) (c2 := 0) (s2 := 0) (by exact rfl) ?_ (by omega) (by omega)
  refine jT_xlmul (x := 0) (y := 68719476736) (z := 0) (pcN := 24) jIQ_41_23 rfl (by decide) rfl ?_
  refine jT_xladd (x := 0) (y := 0) (z := 0) (pcN := 25) jIQ_41_24 rfl (by decide) rfl ?_
  refine jT_xlstore_n (v := (1, 0)) (LN := [(2, (1, 0)), (4, (0, 0)), (0, (4, 0)), (1, (4, 1))]) (pcN := 26) jIQ_41_25 rfl rfl rfl rfl ?_
  refine jT_xiinc (x := 0) (z := 1) (LN := [(4, (0, 1)), (2, (1, 0)), (0, (4, 0)), (1, (4, 1))]) (pcN := 29) jIQ_41_26 rfl rfl (by decide) rfl rfl ?_
  refine jT_xgoto (pcN := 5) jIQ_41_29 rfl ?_
  refine jT_xiload (v := (0, 1)) (pcN := 7) jIQ_41_5 rfl rfl rfl ?_
  refine jT_xbipush (k := 6) (pcN := 9) jIQ_41_7 (by decide) rfl ?_
  refine jT_xicF (t := 32) (pcN := 12) jIQ_41_9 rfl (by decide +kernel) rfl rfl ?_
  refine jT_xlload_n (v := (1, 0)) (pcN := 13) jIQ_41_12 rfl rfl rfl ?_
  refine jT_xaload_n (v := (4, 1)) (pcN := 14) jIQ_41_13 rfl rfl rfl ?_
  refine jT_xiload (v := (0, 1)) (pcN := 16) jIQ_41_14 rfl rfl rfl ?_
  refine jT_lald (x := r7) (a := 1) (j := 1) (fs := []) (X := [0, r7, r8, 0, 0, 0]) jIQ_41_16 rfl rfl rfl rfl ?_
  refine jT_eq (LN := [(4, (0, 1)), (2, (1, 0)), (0, (4, 0)), (1, (4, 1))]) (stN := [(1, r7), (1, 0)]) (hsN := [jgh, (101, [], [0, r7, r8, 0, 0, 0])]) rfl rfl rfl ?_
  refine jT_adv 1 (pcN := 20) (LN := [(4, (0, 1)), (2, (1, 0)), (0, (4, 0)), (1, (4, 1))]) (stN := [(5, 0), (1, r7), (1, 0)]) (hsN := [jgh, (101, [], [0, r7, r8, 0, 0, 0])]) (c1 := 0) (s1 := 0) (c2 := 0) (s2 := 0) (by exact rfl) ?_ (by omega) (by omega)
  refine jT_xiload (v := (0, 1)) (pcN := 22) jIQ_41_20 rfl rfl rfl ?_
  refine jT_adv 1 (pcN := 23) (LN := [(4, (0, 1)), (2, (1, 0)), (0, (4, 0)), (1, (4, 1))]) (stN := [(1, 108917793695), (1, r7), (1, 0)]) (hsN := [jgh, (101, [], [0, r7, r8, 0, 0, 0])]) (c1 := 0) (s1 := 0) (c2 := 0) (s2 := 0) (by exact rfl) ?_ (by omega) (by omega)
  refine jT_xlmul (x := r7) (y := 108917793695) (z := 108917793695 * r7) (pcN := 24) jIQ_41_23 rfl (by omega) rfl ?_
  refine jT_xladd (x := 0) (y := 108917793695 * r7) (z := 108917793695 * r7) (pcN := 25) jIQ_41_24 rfl (by omega) rfl ?_
  refine jT_xlstore_n (v := (1, 108917793695 * r7)) (LN := [(2, (1, 108917793695 * r7)), (4, (0, 1)), (0, (4, 0)), (1, (4, 1))]) (pcN := 26) jIQ_41_25 rfl rfl rfl rfl ?_
  refine jT_xiinc (x := 1) (z := 2) (LN := [(4, (0, 2)), (2, (1, 108917793695 * r7)), (0, (4, 0)), (1, (4, 1))]) (pcN := 29) jIQ_41_26 rfl rfl (by decide) rfl rfl ?_
  refine jT_xgoto (pcN := 5) jIQ_41_29 rfl ?_
  refine jT_xiload (v := (0, 2)) (pcN := 7) jIQ_41_5 rfl rfl rfl ?_
  refine jT_xbipush (k := 6) (pcN := 9) jIQ_41_7 (by decide) rfl ?_
  refine jT_xicF (t := 32) (pcN := 12) jIQ_41_9 rfl (by decide +kernel) rfl rfl ?_
  refine jT_xlload_n (v := (1, 108917793695 * r7)) (pcN := 13) jIQ_41_12 rfl rfl rfl ?_
  refine jT_xaload_n (v := (4, 1)) (pcN := 14) jIQ_41_13 rfl rfl rfl ?_
  refine jT_xiload (v := (0, 2)) (pcN := 16) jIQ_41_14 rfl rfl rfl ?_
  refine jT_lald (x := r8) (a := 1) (j := 2) (fs := []) (X := [0, r7, r8, 0, 0, 0]) jIQ_41_16 rfl rfl rfl rfl ?_
  refine jT_eq (LN := [(4, (0, 2)), (2, (1, 108917793695 * r7)), (0, (4, 0)), (1, (4, 1))]) (stN := [(1, r8), (1, 108917793695 * r7)]) (hsN := [jgh, (101, [], [0, r7, r8, 0, 0, 0])]) rfl rfl rfl ?_
  refine jT_adv 1 (pcN := 20) (LN := [(4, (0, 2)), (2, (1, 108917793695 * r7)), (0, (4, 0)), (1, (4, 1))]) (stN := [(5, 0), (1, r8), (1, 108917793695 * r7)]) (hsN := [jgh, (101, [], [0, r7, r8, 0, 0, 0])]) (c1 := 0) (s1 := 0) (c2 := 0) (s2 := 0) (by exact rfl) ?_ (by omega) (by omega)
  refine jT_xiload (v := (0, 2)) (pcN := 22) jIQ_41_20 rfl rfl rfl ?_
  refine jT_adv 1 (pcN := 23) (LN := [(4, (0, 2)), (2, (1, 108917793695 * r7)), (0, (4, 0)), (1, (4, 1))]) (stN := [(1, 159561683699), (1, r8), (1, 108917793695 * r7)]) (hsN := [jgh, (101, [], [0, r7, r8, 0, 0, 0])]) (c1 := 0) (s1 := 0) (c2 := 0) (s2 := 0) (by exact rfl) ?_ (by omega) (by omega)
  refine jT_xlmul (x := r8) (y := 159561683699) (z := 159561683699 * r8) (pcN := 24) jIQ_41_23 rfl (by omega) rfl ?_
  refine jT_xladd (x := 108917793695 * r7) (y := 159561683699 * r8) (z := 108917793695 * r7 + 159561683699 * r8) (pcN := 25) jIQ_41_24 rfl (by omega) rfl ?_
  refine jT_xlstore_n (v := (1, 108917793695 * r7 + 159561683699 * r8)) (LN := [(2, (1, 108917793695 * r7 + 159561683699 * r8)), (4, (0, 2)), (0, (4, 0)), (1, (4, 1))]) (pcN := 26) jIQ_41_25 rfl rfl rfl rfl ?_
  refine jT_xiinc (x := 2) (z := 3) (LN := [(4, (0, 3)), (2, (1, 108917793695 * r7 + 159561683699 * r8)), (0, (4, 0)), (1, (4, 1))]) (pcN := 29) jIQ_41_26 rfl rfl (by decide) rfl rfl ?_
  refine jT_xgoto (pcN := 5) jIQ_41_29 rfl ?_
  refine jT_xiload (v := (0, 3)) (pcN := 7) jIQ_41_5 rfl rfl rfl ?_
  refine jT_xbipush (k := 6) (pcN := 9) jIQ_41_7 (by decide) rfl ?_
  refine jT_xicF (t := 32) (pcN := 12) jIQ_41_9 rfl (by decide +kernel) rfl rfl ?_
  refine jT_xlload_n (v := (1, 108917793695 * r7 + 159561683699 * r8)) (pcN := 13) jIQ_41_12 rfl rfl rfl ?_
  refine jT_xaload_n (v := (4, 1)) (pcN := 14) jIQ_41_13 rfl rfl rfl ?_
  refine jT_xiload (v := (0, 3)) (pcN := 16) jIQ_41_14 rfl rfl rfl ?_
  refine jT_lald (x := 0) (a := 1) (j := 3) (fs := []) (X := [0, r7, r8, 0, 0, 0]) jIQ_41_16 rfl rfl rfl rfl ?_
  refine jT_eq (LN := [(4, (0, 3)), (2, (1, 108917793695 * r7 + 159561683699 * r8)), (0, (4, 0)), (1, (4, 1))]) (stN := [(1, 0), (1, 108917793695 * r7 + 159561683699 * r8)]) (hsN := [jgh, (101, [], [0, r7, r8, 0, 0, 0])]) rfl rfl rfl ?_
  refine jT_adv 1 (pcN := 20) (LN := [(4, (0, 3)), (2, (1, 108917793695 * r7 + 159561683699 * r8)), (0, (4, 0)), (1, (4, 1))]) (stN := [(5, 0), (1, 0), (1, 108917793695 * r7 + 159561683699 * r8)]) (hsN := [jgh, (101, [], [0, r7, r8, 0, 0, 0])]) (c1 := 0) (s1 := 0) (c2 := 0) (s2 := 0) (by exact rfl) ?_ (by omega) (by omega)
  refine jT_xiload (v := (0, 3)) (pcN := 22) jIQ_41_20 rfl rfl rfl ?_
  refine jT_adv 1 (pcN := 23) (LN := [(4, (0, 3)), (2, (1, 108917793695 * r7 + 159561683699 * r8)), (0, (4, 0)), (1, (4, 1))]) (stN := [(1, 192919961256), (1, 0), (1, 108917793695 * r7 + 159561683699 * r8)]) (hsN := [jgh, (101, [], [0, r7, r8, 0, 0, 0])]) (c1 := 0) (s1 := 0) (c2 := 0) (s2 := 0) (by exact rfl) ?_ (by omega) (by omega)
  refine jT_xlmul (x := 0) (y := 192919961256) (z := 0) (pcN := 24) jIQ_41_23 rfl (by decide) rfl ?_
  refine jT_xladd (x := 108917793695 * r7 + 159561683699 * r8) (y := 0) (z := 108917793695 * r7 + 159561683699 * r8) (pcN := 25) jIQ_41_24 rfl (by omega) rfl ?_
  refine jT_xlstore_n (v := (1, 108917793695 * r7 + 159561683699 * r8)) (LN := [(2, (1, 108917793695 * r7 + 159561683699 * r8)), (4, (0, 3)), (0, (4, 0)), (1, (4, 1))]) (pcN := 26) jIQ_41_25 rfl rfl rfl rfl ?_
  refine jT_xiinc (x := 3) (z := 4) (LN := [(4, (0, 4)), (2, (1, 108917793695 * r7 + 159561683699 * r8)), (0, (4, 0)), (1, (4, 1))]) (pcN := 29) jIQ_41_26 rfl rfl (by decide) rfl rfl ?_
  refine jT_xgoto (pcN := 5) jIQ_41_29 rfl ?_
  refine jT_xiload (v := (0, 4)) (pcN := 7) jIQ_41_5 rfl rfl rfl ?_
  refine jT_xbipush (k := 6) (pcN := 9) jIQ_41_7 (by decide) rfl ?_
  refine jT_xicF (t := 32) (pcN := 12) jIQ_41_9 rfl (by decide +kernel) rfl rfl ?_
  refine jT_xlload_n (v := (1, 108917793695 * r7 + 159561683699 * r8)) (pcN := 13) jIQ_41_12 rfl rfl rfl ?_
  refine jT_xaload_n (v := (4, 1)) (pcN := 14) jIQ_41_13 rfl rfl rfl ?_
  refine jT_xiload (v := (0, 4)) (pcN := 16) jIQ_41_14 rfl rfl rfl ?_
  refine jT_lald (x := 0) (a := 1) (j := 4) (fs := []) (X := [0, r7, r8, 0, 0, 0]) jIQ_41_16 rfl rfl rfl rfl ?_
  refine jT_eq (LN := [(4, (0, 4)), (2, (1, 108917793695 * r7 + 159561683699 * r8)), (0, (4, 0)), (1, (4, 1))]) (stN := [(1, 0), (1, 108917793695 * r7 + 159561683699 * r8)]) (hsN := [jgh, (101, [], [0, r7, r8, 0, 0, 0])]) rfl rfl rfl ?_
  refine jT_adv 1 (pcN := 20) (LN := [(4, (0, 4)), (2, (1, 108917793695 * r7 + 159561683699 * r8)), (0, (4, 0)), (1, (4, 1))]) (stN := [(5, 0), (1, 0), (1, 108917793695 * r7 + 159561683699 * r8)]) (hsN := [jgh, (101, [], [0, r7, r8, 0, 0, 0])]) (c1 := 0) (s1 := 0) (c2 := 0) (s2 := 0) (by exact rfl) ?_ (by omega) (by omega)
  refine jT_xiload (v := (0, 4)) (pcN := 22) jIQ_41_20 rfl rfl rfl ?_
  refine jT_adv 1 (pcN := 23) (LN := [(4, (0, 4)), (2, (1, 108917793695 * r7 + 159561683699 * r8)), (0, (4, 0)), (1, (4, 1))]) (stN := [(1, 237730330636), (1, 0), (1, 108917793695 * r7 + 159561683699 * r8)]) (hsN := [jgh, (101, [], [0, r7, r8, 0, 0, 0])]) (c1 := 0) (s1 := 0) (c2 := 0) (s2 := 0) (by exact rfl) ?_ (by omega) (by omega)
  refine jT_xlmul (x := 0) (y := 237730330636) (z := 0) (pcN := 24) jIQ_41_23 rfl (by decide) rfl ?_
  refine jT_xladd (x := 108917793695 * r7 + 159561683699 * r8) (y := 0) (z := 108917793695 * r7 + 159561683699 * r8) (pcN := 25) jIQ_41_24 rfl (by omega) rfl ?_
  refine jT_xlstore_n (v := (1, 108917793695 * r7 + 159561683699 * r8)) (LN := [(2, (1, 108917793695 * r7 + 159561683699 * r8)), (4, (0, 4)), (0, (4, 0)), (1, (4, 1))]) (pcN := 26) jIQ_41_25 rfl rfl rfl rfl ?_
  refine jT_xiinc (x := 4) (z := 5) (LN := [(4, (0, 5)), (2, (1, 108917793695 * r7 + 159561683699 * r8)), (0, (4, 0)), (1, (4, 1))]) (pcN := 29) jIQ_41_26 rfl rfl (by decide) rfl rfl ?_
  refine jT_xgoto (pcN := 5) jIQ_41_29 rfl ?_
  refine jT_xiload (v := (0, 5)) (pcN := 7) jIQ_41_5 rfl rfl rfl ?_
  refine jT_xbipush (k := 6) (pcN := 9) jIQ_41_7 (by decide) rfl ?_
  refine jT_xicF (t := 32) (pcN := 12) jIQ_41_9 rfl (by decide +kernel) rfl rfl ?_
  refine jT_xlload_n (v := (1, 108917793695 * r7 + 159561683699 * r8)) (pcN := 13) jIQ_41_12 rfl rfl rfl ?_
  refine jT_xaload_n (v := (4, 1)) (pcN := 14) jIQ_41_13 rfl rfl rfl ?_
  refine jT_xiload (v := (0, 5)) (pcN := 16) jIQ_41_14 rfl rfl rfl ?_
  refine jT_lald (x := 0) (a := 1) (j := 5) (fs := []) (X := [0, r7, r8, 0, 0, 0]) jIQ_41_16 rfl rfl rfl rfl ?_
  refine jT_eq (LN := [(4, (0, 5)), (2, (1, 108917793695 * r7 + 159561683699 * r8)), (0, (4, 0)), (1, (4, 1))]) (stN := [(1, 0), (1, 108917793695 * r7 + 159561683699 * r8)]) (hsN := [jgh, (101, [], [0, r7, r8, 0, 0, 0])]) rfl rfl rfl ?_
  refine jT_adv 1 (pcN := 20) (LN := [(4, (0, 5)), (2, (1, 108917793695 * r7 + 159561683699 * r8)), (0, (4, 0)), (1, (4, 1))]) (stN := [(5, 0), (1, 0), (1, 108917793695 * r7 + 159561683699 * r8)]) (hsN := [jgh, (101, [], [0, r7, r8, 0, 0, 0])]) (c1 := 0) (s1 := 0) (c2 := 0) (s2 := 0) (by exact rfl) ?_ (by omega) (by omega)
  refine jT_xiload (v := (0, 5)) (pcN := 22) jIQ_41_20 rfl rfl rfl ?_
  refine jT_adv 1 (pcN := 23) (LN := [(4, (0, 5)), (2, (1, 108917793695 * r7 + 159561683699 * r8)), (0, (4, 0)), (1, (4, 1))]) (stN := [(1, 254292281123), (1, 0), (1, 108917793695 * r7 + 159561683699 * r8)]) (hsN := [jgh, (101, [], [0, r7, r8, 0, 0, 0])]) (c1 := 0) (s1 := 0) (c2 := 0) (s2 := 0) (by exact rfl) ?_ (by omega) (by omega)
  refine jT_xlmul (x := 0) (y := 254292281123) (z := 0) (pcN := 24) jIQ_41_23 rfl (by decide) rfl ?_
  refine jT_xladd (x := 108917793695 * r7 + 159561683699 * r8) (y := 0) (z := 108917793695 * r7 + 159561683699 * r8) (pcN := 25) jIQ_41_24 rfl (by omega) rfl ?_
  refine jT_xlstore_n (v := (1, 108917793695 * r7 + 159561683699 * r8)) (LN := [(2, (1, 108917793695 * r7 + 159561683699 * r8)), (4, (0, 5)), (0, (4, 0)), (1, (4, 1))]) (pcN := 26) jIQ_41_25 rfl rfl rfl rfl ?_
  refine jT_xiinc (x := 5) (z := 6) (LN := [(4, (0, 6)), (2, (1, 108917793695 * r7 + 159561683699 * r8)), (0, (4, 0)), (1, (4, 1))]) (pcN := 29) jIQ_41_26 rfl rfl (by decide) rfl rfl ?_
  refine jT_xgoto (pcN := 5) jIQ_41_29 rfl ?_
  refine jT_xiload (v := (0, 6)) (pcN := 7) jIQ_41_5 rfl rfl rfl ?_
  refine jT_xbipush (k := 6) (pcN := 9) jIQ_41_7 (by decide) rfl ?_
  refine jT_xicT (pcN := 32) jIQ_41_9 rfl (by decide +kernel) rfl ?_
  refine jT_xlload_n (v := (1, 108917793695 * r7 + 159561683699 * r8)) (pcN := 33) jIQ_41_32 rfl rfl rfl ?_
  exact jT_ret rfl (by decide) (by show 2 ≤ 2; omega) (by omega) (by omega) ⟨rfl, rfl, rfl⟩
theorem jQ_39_79 {xs : List Int} {d : Nat} {p7 p8 q1 : Int} (h_p7 : (-20) ≤ p7 ∧ p7 ≤ 20) (h_p8 : (-10) ≤ p8 ∧ p8 ≤ 10) (h_q1 : (-60) ≤ q1 ∧ q1 ≤ 60) (g_0 : 0 ≤ (-108917793694) * p7 - 159561683698 * p8 - 68719476736 * q1 - 1) (g_1 : 0 ≤ (-108917793694) * p7 - 159561683700 * p8 - 68719476736 * q1 - 1) (g_2 : 0 ≤ (-108917793696) * p7 - 159561683698 * p8 - 68719476736 * q1 - 1) (g_3 : 0 ≤ (-108917793696) * p7 - 159561683700 * p8 - 68719476736 * q1 - 1) (g_4 : p7 < 0) (g_5 : p8 < 0) : jT xs d 39 2 0 [(0, (4, 0)), (1, (4, 1))] [] [jgh, (101, [], [q1, p7, p8, 0, 0, 0])] 0 0 (fun k v hsN => k = 0 ∧ v = (1, -p7 - p8) ∧ hsN = [jgh, (101, [], [q1, p7, p8, 0, 0, 0])] ++ []) := by
  refine jT_xlconst (z := 0) (pcN := 1) jIQ_39_0 rfl rfl ?_
  refine jT_xlstore_n (v := (1, 0)) (LN := [(2, (1, 0)), (0, (4, 0)), (1, (4, 1))]) (pcN := 2) jIQ_39_1 rfl rfl rfl rfl ?_
  refine jT_xiconst (k := 1) (pcN := 3) jIQ_39_2 rfl ?_
  refine jT_xistore (v := (0, 1)) (LN := [(4, (0, 1)), (2, (1, 0)), (0, (4, 0)), (1, (4, 1))]) (pcN := 5) jIQ_39_3 rfl rfl rfl rfl ?_
  refine jT_xiload (v := (0, 1)) (pcN := 7) jIQ_39_5 rfl rfl rfl ?_
  refine jT_xbipush (k := 6) (pcN := 9) jIQ_39_7 (by decide) rfl ?_
  refine jT_xicF (t := 28) (pcN := 12) jIQ_39_9 rfl (by decide +kernel) rfl rfl ?_
  refine jT_xlload_n (v := (1, 0)) (pcN := 13) jIQ_39_12 rfl rfl rfl ?_
  refine jT_xaload_n (v := (4, 1)) (pcN := 14) jIQ_39_13 rfl rfl rfl ?_
  refine jT_xiload (v := (0, 1)) (pcN := 16) jIQ_39_14 rfl rfl rfl ?_
  refine jT_lald (x := p7) (a := 1) (j := 1) (fs := []) (X := [q1, p7, p8, 0, 0, 0]) jIQ_39_16 rfl rfl rfl rfl ?_
  refine jT_eq (LN := [(4, (0, 1)), (2, (1, 0)), (0, (4, 0)), (1, (4, 1))]) (stN := [(1, p7), (1, 0)]) (hsN := [jgh, (101, [], [q1, p7, p8, 0, 0, 0])]) rfl rfl rfl ?_
  refine jT_labs (z := -p7) (by rfl) (by rfl) (by rfl) (by rfl) (by rw [show jwl (p7) = p7 from jwl_idd (by omega) (by omega), decide_eq_true (by omega)]; first | (simp only [cond_true, cond_false]; done) | (simp only [cond_true, cond_false]; omega) | rfl) ?_
  refine jT_xladd (x := 0) (y := -p7) (z := -p7) (pcN := 21) jIQ_39_20 rfl (by omega) rfl ?_
  refine jT_xlstore_n (v := (1, -p7)) (LN := [(2, (1, -p7)), (4, (0, 1)), (0, (4, 0)), (1, (4, 1))]) (pcN := 22) jIQ_39_21 rfl rfl rfl rfl ?_
  refine jT_xiinc (x := 1) (z := 2) (LN := [(4, (0, 2)), (2, (1, -p7)), (0, (4, 0)), (1, (4, 1))]) (pcN := 25) jIQ_39_22 rfl rfl (by decide) rfl rfl ?_
  refine jT_xgoto (pcN := 5) jIQ_39_25 rfl ?_
  refine jT_xiload (v := (0, 2)) (pcN := 7) jIQ_39_5 rfl rfl rfl ?_
  refine jT_xbipush (k := 6) (pcN := 9) jIQ_39_7 (by decide) rfl ?_
  refine jT_xicF (t := 28) (pcN := 12) jIQ_39_9 rfl (by decide +kernel) rfl rfl ?_
  refine jT_xlload_n (v := (1, -p7)) (pcN := 13) jIQ_39_12 rfl rfl rfl ?_
  refine jT_xaload_n (v := (4, 1)) (pcN := 14) jIQ_39_13 rfl rfl rfl ?_
  refine jT_xiload (v := (0, 2)) (pcN := 16) jIQ_39_14 rfl rfl rfl ?_
  refine jT_lald (x := p8) (a := 1) (j := 2) (fs := []) (X := [q1, p7, p8, 0, 0, 0]) jIQ_39_16 rfl rfl rfl rfl ?_
  refine jT_eq (LN := [(4, (0, 2)), (2, (1, -p7)), (0, (4, 0)), (1, (4, 1))]) (stN := [(1, p8), (1, -p7)]) (hsN := [jgh, (101, [], [q1, p7, p8, 0, 0, 0])]) rfl rfl rfl ?_
  refine jT_labs (z := -p8) (by rfl) (by rfl) (by rfl) (by rfl) (by rw [show jwl (p8) = p8 from jwl_idd (by omega) (by omega), decide_eq_true (by omega)]; first | (simp only [cond_true, cond_false]; done) | (simp only [cond_true, cond_false]; omega) | rfl) ?_
  refine jT_xladd (x := -p7) (y := -p8) (z := -p7 - p8) (pcN := 21) jIQ_39_20 rfl (by omega) rfl ?_
  refine jT_xlstore_n (v := (1, -p7 - p8)) (LN := [(2, (1, -p7 - p8)), (4, (0, 2)), (0, (4, 0)), (1, (4, 1))]) (pcN := 22) jIQ_39_21 rfl rfl rfl rfl ?_
  refine jT_xiinc (x := 2) (z := 3) (LN := [(4, (0, 3)), (2, (1, -p7 - p8)), (0, (4, 0)), (1, (4, 1))]) (pcN := 25) jIQ_39_22 rfl rfl (by decide) rfl rfl ?_
  refine jT_xgoto (pcN := 5) jIQ_39_25 rfl ?_
  refine jT_xiload (v := (0, 3)) (pcN := 7) jIQ_39_5 rfl rfl rfl ?_
  refine jT_xbipush (k := 6) (pcN := 9) jIQ_39_7 (by decide) rfl ?_
  refine jT_xicF (t := 28) (pcN := 12) jIQ_39_9 rfl (by decide +kernel) rfl rfl ?_
  refine jT_xlload_n (v := (1, -p7 - p8)) (pcN := 13) jIQ_39_12 rfl rfl rfl ?_
  refine jT_xaload_n (v := (4, 1)) (pcN := 14) jIQ_39_13 rfl rfl rfl ?_
  refine jT_xiload (v := (0, 3)) (pcN := 16) jIQ_39_14 rfl rfl rfl ?_
  refine jT_lald (x := 0) (a := 1) (j := 3) (fs := []) (X := [q1, p7, p8, 0, 0, 0]) jIQ_39_16 rfl rfl rfl rfl ?_
  refine jT_eq (LN := [(4, (0, 3)), (2, (1, -p7 - p8)), (0, (4, 0)), (1, (4, 1))]) (stN := [(1, 0), (1, -p7 - p8)]) (hsN := [jgh, (101, [], [q1, p7, p8, 0, 0, 0])]) rfl rfl rfl ?_
  refine jT_labs (z := 0) (by rfl) (by rfl) (by rfl) (by rfl) (by decide +kernel) ?_
  refine jT_xladd (x := -p7 - p8) (y := 0) (z := -p7 - p8) (pcN := 21) jIQ_39_20 rfl (by omega) rfl ?_
  refine jT_xlstore_n (v := (1, -p7 - p8)) (LN := [(2, (1, -p7 - p8)), (4, (0, 3)), (0, (4, 0)), (1, (4, 1))]) (pcN := 22) jIQ_39_21 rfl rfl rfl rfl ?_
  refine jT_xiinc (x := 3) (z := 4) (LN := [(4, (0, 4)), (2, (1, -p7 - p8)), (0, (4, 0)), (1, (4, 1))]) (pcN := 25) jIQ_39_22 rfl rfl (by decide) rfl rfl ?_
  refine jT_xgoto (pcN := 5) jIQ_39_25 rfl ?_
  refine jT_xiload (v := (0, 4)) (pcN := 7) jIQ_39_5 rfl rfl rfl ?_
  refine jT_xbipush (k := 6) (pcN := 9) jIQ_39_7 (by decide) rfl ?_
  refine jT_xicF (t := 28) (pcN := 12) jIQ_39_9 rfl (by decide +kernel) rfl rfl ?_
  refine jT_xlload_n (v := (1, -p7 - p8)) (pcN := 13) jIQ_39_12 rfl rfl rfl ?_
  refine jT_xaload_n (v := (4, 1)) (pcN := 14) jIQ_39_13 rfl rfl rfl ?_
  refine jT_xiload (v := (0, 4)) (pcN := 16) jIQ_39_14 rfl rfl rfl ?_
  refine jT_lald (x := 0) (a := 1) (j := 4) (fs := []) (X := [q1, p7, p8, 0, 0, 0]) jIQ_39_16 rfl rfl rfl rfl ?_
  refine jT_eq (LN := [(4, (0, 4)), (2, (1, -p7 - p8)), (0, (4, 0)), (1, (4, 1))]) (stN := [(1, 0), (1, -p7 - p8)]) (hsN := [jgh, (101, [], [q1, p7, p8, 0, 0, 0])]) rfl rfl rfl ?_
  refine jT_labs (z := 0) (by rfl) (by rfl) (by rfl) (by rfl) (by decide +kernel) ?_
  refine jT_xladd (x := -p7 - p8) (y := 0) (z := -p7 - p8) (pcN := 21) jIQ_39_20 rfl (by omega) rfl ?_
  refine jT_xlstore_n (v := (1, -p7 - p8)) (LN := [(2, (1, -p7 - p8)), (4, (0, 4)), (0, (4, 0)), (1, (4, 1))]) (pcN := 22) jIQ_39_21 rfl rfl rfl rfl ?_
  refine jT_xiinc (x := 4) (z := 5) (LN := [(4, (0, 5)), (2, (1, -p7 - p8)), (0, (4, 0)), (1, (4, 1))]) (pcN := 25) jIQ_39_22 rfl rfl (by decide) rfl rfl ?_
  refine jT_xgoto (pcN := 5) jIQ_39_25 rfl ?_
  refine jT_xiload (v := (0, 5)) (pcN := 7) jIQ_39_5 rfl rfl rfl ?_
  refine jT_xbipush (k := 6) (pcN := 9) jIQ_39_7 (by decide) rfl ?_
  refine jT_xicF (t := 28) (pcN := 12) jIQ_39_9 rfl (by decide +kernel) rfl rfl ?_
  refine jT_xlload_n (v := (1, -p7 - p8)) (pcN := 13) jIQ_39_12 rfl rfl rfl ?_
  refine jT_xaload_n (v := (4, 1)) (pcN := 14) jIQ_39_13 rfl rfl rfl ?_
  refine jT_xiload (v := (0, 5)) (pcN := 16) jIQ_39_14 rfl rfl rfl ?_
  refine jT_lald (x := 0) (a := 1) (j := 5) (fs := []) (X := [q1, p7, p8, 0, 0, 0]) jIQ_39_16 rfl rfl rfl rfl ?_
  refine jT_eq (LN := [(4, (0, 5)), (2, (1, -p7 - p8)), (0, (4, 0)), (1, (4, 1))]) (stN := [(1, 0), (1, -p7 - p8)]) (hsN := [jgh, (101, [], [q1, p7, p8, 0, 0, 0])]) rfl rfl rfl ?_
  refine jT_labs (z := 0) (by rfl) (by rfl) (by rfl) (by rfl) (by decide +kernel) ?_
  refine jT_xladd (x := -p7 - p8) (y := 0) (z := -p7 - p8) (pcN := 21) jIQ_39_20 rfl (by omega) rfl ?_
  refine jT_xlstore_n (v := (1, -p7 - p8)) (LN := [(2, (1, -p7 - p8)), (4, (0, 5)), (0, (4, 0)), (1, (4, 1))]) (pcN := 22) jIQ_39_21 rfl rfl rfl rfl ?_
  refine jT_xiinc (x := 5) (z := 6) (LN := [(4, (0, 6)), (2, (1, -p7 - p8)), (0, (4, 0)), (1, (4, 1))]) (pcN := 25) jIQ_39_22 rfl rfl (by decide) rfl rfl ?_
  refine jT_xgoto (pcN := 5) jIQ_39_25 rfl ?_
  refine jT_xiload (v := (0, 6)) (pcN := 7) jIQ_39_5 rfl rfl rfl ?_
  refine jT_xbipush (k := 6) (pcN := 9) jIQ_39_7 (by decide) rfl ?_
  refine jT_xicT (pcN := 28) jIQ_39_9 rfl (by decide +kernel) rfl ?_
  refine jT_xlload_n (v := (1, -p7 - p8)) (pcN := 29) jIQ_39_28 rfl rfl rfl ?_
  exact jT_ret rfl (by decide) (by show 2 ≤ 2; omega) (by omega) (by omega) ⟨rfl, rfl, rfl⟩
theorem jQ_39_80 {xs : List Int} {d : Nat} {p7 p8 q1 : Int} (h_p7 : (-20) ≤ p7 ∧ p7 ≤ 20) (h_p8 : (-10) ≤ p8 ∧ p8 ≤ 10) (h_q1 : (-60) ≤ q1 ∧ q1 ≤ 60) (g_0 : 0 ≤ (-108917793694) * p7 - 159561683698 * p8 - 68719476736 * q1 - 1) (g_1 : 0 ≤ (-108917793694) * p7 - 159561683700 * p8 - 68719476736 * q1 - 1) (g_2 : 0 ≤ (-108917793696) * p7 - 159561683698 * p8 - 68719476736 * q1 - 1) (g_3 : 0 ≤ (-108917793696) * p7 - 159561683700 * p8 - 68719476736 * q1 - 1) (g_4 : p7 < 0) (g_5 : p8 < 0) (g_6 : q1 < 0) : jT xs d 39 2 0 [(0, (4, 0)), (1, (4, 1))] [] [jgh, (101, [], [q1, p7, p8, 0, 0, 0])] 0 0 (fun k v hsN => k = 0 ∧ v = (1, -p7 - p8) ∧ hsN = [jgh, (101, [], [q1, p7, p8, 0, 0, 0])] ++ []) := by
  refine jT_xlconst (z := 0) (pcN := 1) jIQ_39_0 rfl rfl ?_
  refine jT_xlstore_n (v := (1, 0)) (LN := [(2, (1, 0)), (0, (4, 0)), (1, (4, 1))]) (pcN := 2) jIQ_39_1 rfl rfl rfl rfl ?_
  refine jT_xiconst (k := 1) (pcN := 3) jIQ_39_2 rfl ?_
  refine jT_xistore (v := (0, 1)) (LN := [(4, (0, 1)), (2, (1, 0)), (0, (4, 0)), (1, (4, 1))]) (pcN := 5) jIQ_39_3 rfl rfl rfl rfl ?_
  refine jT_xiload (v := (0, 1)) (pcN := 7) jIQ_39_5 rfl rfl rfl ?_
  refine jT_xbipush (k := 6) (pcN := 9) jIQ_39_7 (by decide) rfl ?_
  refine jT_xicF (t := 28) (pcN := 12) jIQ_39_9 rfl (by decide +kernel) rfl rfl ?_
  refine jT_xlload_n (v := (1, 0)) (pcN := 13) jIQ_39_12 rfl rfl rfl ?_
  refine jT_xaload_n (v := (4, 1)) (pcN := 14) jIQ_39_13 rfl rfl rfl ?_
  refine jT_xiload (v := (0, 1)) (pcN := 16) jIQ_39_14 rfl rfl rfl ?_
  refine jT_lald (x := p7) (a := 1) (j := 1) (fs := []) (X := [q1, p7, p8, 0, 0, 0]) jIQ_39_16 rfl rfl rfl rfl ?_
  refine jT_eq (LN := [(4, (0, 1)), (2, (1, 0)), (0, (4, 0)), (1, (4, 1))]) (stN := [(1, p7), (1, 0)]) (hsN := [jgh, (101, [], [q1, p7, p8, 0, 0, 0])]) rfl rfl rfl ?_
  refine jT_labs (z := -p7) (by rfl) (by rfl) (by rfl) (by rfl) (by rw [show jwl (p7) = p7 from jwl_idd (by omega) (by omega), decide_eq_true (by omega)]; first | (simp only [cond_true, cond_false]; done) | (simp only [cond_true, cond_false]; omega) | rfl) ?_
  refine jT_xladd (x := 0) (y := -p7) (z := -p7) (pcN := 21) jIQ_39_20 rfl (by omega) rfl ?_
  refine jT_xlstore_n (v := (1, -p7)) (LN := [(2, (1, -p7)), (4, (0, 1)), (0, (4, 0)), (1, (4, 1))]) (pcN := 22) jIQ_39_21 rfl rfl rfl rfl ?_
  refine jT_xiinc (x := 1) (z := 2) (LN := [(4, (0, 2)), (2, (1, -p7)), (0, (4, 0)), (1, (4, 1))]) (pcN := 25) jIQ_39_22 rfl rfl (by decide) rfl rfl ?_
  refine jT_xgoto (pcN := 5) jIQ_39_25 rfl ?_
  refine jT_xiload (v := (0, 2)) (pcN := 7) jIQ_39_5 rfl rfl rfl ?_
  refine jT_xbipush (k := 6) (pcN := 9) jIQ_39_7 (by decide) rfl ?_
  refine jT_xicF (t := 28) (pcN := 12) jIQ_39_9 rfl (by decide +kernel) rfl rfl ?_
  refine jT_xlload_n (v := (1, -p7)) (pcN := 13) jIQ_39_12 rfl rfl rfl ?_
  refine jT_xaload_n (v := (4, 1)) (pcN := 14) jIQ_39_13 rfl rfl rfl ?_
  refine jT_xiload (v := (0, 2)) (pcN := 16) jIQ_39_14 rfl rfl rfl ?_
  refine jT_lald (x := p8) (a := 1) (j := 2) (fs := []) (X := [q1, p7, p8, 0, 0, 0]) jIQ_39_16 rfl rfl rfl rfl ?_
  refine jT_eq (LN := [(4, (0, 2)), (2, (1, -p7)), (0, (4, 0)), (1, (4, 1))]) (stN := [(1, p8), (1, -p7)]) (hsN := [jgh, (101, [], [q1, p7, p8, 0, 0, 0])]) rfl rfl rfl ?_
  refine jT_labs (z := -p8) (by rfl) (by rfl) (by rfl) (by rfl) (by rw [show jwl (p8) = p8 from jwl_idd (by omega) (by omega), decide_eq_true (by omega)]; first | (simp only [cond_true, cond_false]; done) | (simp only [cond_true, cond_false]; omega) | rfl) ?_
  refine jT_xladd (x := -p7) (y := -p8) (z := -p7 - p8) (pcN := 21) jIQ_39_20 rfl (by omega) rfl ?_
  refine jT_xlstore_n (v := (1, -p7 - p8)) (LN := [(2, (1, -p7 - p8)), (4, (0, 2)), (0, (4, 0)), (1, (4, 1))]) (pcN := 22) jIQ_39_21 rfl rfl rfl rfl ?_
  refine jT_xiinc (x := 2) (z := 3) (LN := [(4, (0, 3)), (2, (1, -p7 - p8)), (0, (4, 0)), (1, (4, 1))]) (pcN := 25) jIQ_39_22 rfl rfl (by decide) rfl rfl ?_
  refine jT_xgoto (pcN := 5) jIQ_39_25 rfl ?_
  refine jT_xiload (v := (0, 3)) (pcN := 7) jIQ_39_5 rfl rfl rfl ?_
  refine jT_xbipush (k := 6) (pcN := 9) jIQ_39_7 (by decide) rfl ?_
  refine jT_xicF (t := 28) (pcN := 12) jIQ_39_9 rfl (by decide +kernel) rfl rfl ?_
  refine jT_xlload_n (v := (1, -p7 - p8)) (pcN := 13) jIQ_39_12 rfl rfl rfl ?_
  refine jT_xaload_n (v := (4, 1)) (pcN := 14) jIQ_39_13 rfl rfl rfl ?_
  refine jT_xiload (v := (0, 3)) (pcN := 16) jIQ_39_14 rfl rfl rfl ?_
  refine jT_lald (x := 0) (a := 1) (j := 3) (fs := []) (X := [q1, p7, p8, 0, 0, 0]) jIQ_39_16 rfl rfl rfl rfl ?_
  refine jT_eq (LN := [(4, (0, 3)), (2, (1, -p7 - p8)), (0, (4, 0)), (1, (4, 1))]) (stN := [(1, 0), (1, -p7 - p8)]) (hsN := [jgh, (101, [], [q1, p7, p8, 0, 0, 0])]) rfl rfl rfl ?_
  refine jT_labs (z := 0) (by rfl) (by rfl) (by rfl) (by rfl) (by decide +kernel) ?_
  refine jT_xladd (x := -p7 - p8) (y := 0) (z := -p7 - p8) (pcN := 21) jIQ_39_20 rfl (by omega) rfl ?_
  refine jT_xlstore_n (v := (1, -p7 - p8)) (LN := [(2, (1, -p7 - p8)), (4, (0, 3)), (0, (4, 0)), (1, (4, 1))]) (pcN := 22) jIQ_39_21 rfl rfl rfl rfl ?_
  refine jT_xiinc (x := 3) (z := 4) (LN := [(4, (0, 4)), (2, (1, -p7 - p8)), (0, (4, 0)), (1, (4, 1))]) (pcN := 25) jIQ_39_22 rfl rfl (by decide) rfl rfl ?_
  refine jT_xgoto (pcN := 5) jIQ_39_25 rfl ?_
  refine jT_xiload (v := (0, 4)) (pcN := 7) jIQ_39_5 rfl rfl rfl ?_
  refine jT_xbipush (k := 6) (pcN := 9) jIQ_39_7 (by decide) rfl ?_
  refine jT_xicF (t := 28) (pcN := 12) jIQ_39_9 rfl (by decide +kernel) rfl rfl ?_
  refine jT_xlload_n (v := (1, -p7 - p8)) (pcN := 13) jIQ_39_12 rfl rfl rfl ?_
  refine jT_xaload_n (v := (4, 1)) (pcN := 14) jIQ_39_13 rfl rfl rfl ?_
  refine jT_xiload (v := (0, 4)) (pcN := 16) jIQ_39_14 rfl rfl rfl ?_
  refine jT_lald (x := 0) (a := 1) (j := 4) (fs := []) (X := [q1, p7, p8, 0, 0, 0]) jIQ_39_16 rfl rfl rfl rfl ?_
  refine jT_eq (LN := [(4, (0, 4)), (2, (1, -p7 - p8)), (0, (4, 0)), (1, (4, 1))]) (stN := [(1, 0), (1, -p7 - p8)]) (hsN := [jgh, (101, [], [q1, p7, p8, 0, 0, 0])]) rfl rfl rfl ?_
  refine jT_labs (z := 0) (by rfl) (by rfl) (by rfl) (by rfl) (by decide +kernel) ?_
  refine jT_xladd (x := -p7 - p8) (y := 0) (z := -p7 - p8) (pcN := 21) jIQ_39_20 rfl (by omega) rfl ?_
  refine jT_xlstore_n (v := (1, -p7 - p8)) (LN := [(2, (1, -p7 - p8)), (4, (0, 4)), (0, (4, 0)), (1, (4, 1))]) (pcN := 22) jIQ_39_21 rfl rfl rfl rfl ?_
  refine jT_xiinc (x := 4) (z := 5) (LN := [(4, (0, 5)), (2, (1, -p7 - p8)), (0, (4, 0)), (1, (4, 1))]) (pcN := 25) jIQ_39_22 rfl rfl (by decide) rfl rfl ?_
  refine jT_xgoto (pcN := 5) jIQ_39_25 rfl ?_
  refine jT_xiload (v := (0, 5)) (pcN := 7) jIQ_39_5 rfl rfl rfl ?_
  refine jT_xbipush (k := 6) (pcN := 9) jIQ_39_7 (by decide) rfl ?_
  refine jT_xicF (t := 28) (pcN := 12) jIQ_39_9 rfl (by decide +kernel) rfl rfl ?_
  refine jT_xlload_n (v := (1, -p7 - p8)) (pcN := 13) jIQ_39_12 rfl rfl rfl ?_
  refine jT_xaload_n (v := (4, 1)) (pcN := 14) jIQ_39_13 rfl rfl rfl ?_
  refine jT_xiload (v := (0, 5)) (pcN := 16) jIQ_39_14 rfl rfl rfl ?_
  refine jT_lald (x := 0) (a := 1) (j := 5) (fs := []) (X := [q1, p7, p8, 0, 0, 0]) jIQ_39_16 rfl rfl rfl rfl ?_
  refine jT_eq (LN := [(4, (0, 5)), (2, (1, -p7 - p8)), (0, (4, 0)), (1, (4, 1))]) (stN := [(1, 0), (1, -p7 - p8)]) (hsN := [jgh, (101, [], [q1, p7, p8, 0, 0, 0])]) rfl rfl rfl ?_
  refine jT_labs (z := 0) (by rfl) (by rfl) (by rfl) (by rfl) (by decide +kernel) ?_
  refine jT_xladd (x := -p7 - p8) (y := 0) (z := -p7 - p8) (pcN := 21) jIQ_39_20 rfl (by omega) rfl ?_
  refine jT_xlstore_n (v := (1, -p7 - p8)) (LN := [(2, (1, -p7 - p8)), (4, (0, 5)), (0, (4, 0)), (1, (4, 1))]) (pcN := 22) jIQ_39_21 rfl rfl rfl rfl ?_
  refine jT_xiinc (x := 5) (z := 6) (LN := [(4, (0, 6)), (2, (1, -p7 - p8)), (0, (4, 0)), (1, (4, 1))]) (pcN := 25) jIQ_39_22 rfl rfl (by decide) rfl rfl ?_
  refine jT_xgoto (pcN := 5) jIQ_39_25 rfl ?_
  refine jT_xiload (v := (0, 6)) (pcN := 7) jIQ_39_5 rfl rfl rfl ?_
  refine jT_xbipush (k := 6) (pcN := 9) jIQ_39_7 (by decide) rfl ?_
  refine jT_xicT (pcN := 28) jIQ_39_9 rfl (by decide +kernel) rfl ?_
  refine jT_xlload_n (v := (1, -p7 - p8)) (pcN := 29) jIQ_39_28 rfl rfl rfl ?_
  exact jT_ret rfl (by decide) (by show 2 ≤ 2; omega) (by omega) (by omega) ⟨rfl, rfl, rfl⟩
theorem jQ_40_81 {xs : List Int} {d : Nat} {p7 p8 q1 : Int} (h_p7 : (-20) ≤ p7 ∧ p7 ≤ 20) (h_p8 : (-10) ≤ p8 ∧ p8 ≤ 10) (h_q1 : (-60) ≤ q1 ∧ q1 ≤ 60) (g_0 : 0 ≤ (-108917793694) * p7 - 159561683698 * p8 - 68719476736 * q1 - 1) (g_1 : 0 ≤ (-108917793694) * p7 - 159561683700 * p8 - 68719476736 * q1 - 1) (g_2 : 0 ≤ (-108917793696) * p7 - 159561683698 * p8 - 68719476736 * q1 - 1) (g_3 : 0 ≤ (-108917793696) * p7 - 159561683700 * p8 - 68719476736 * q1 - 1) (g_4 : p7 < 0) (g_5 : p8 < 0) (g_6 : q1 < 0) : jT xs d 40 2 0 [(0, (4, 0)), (1, (4, 1)), (2, (1, -p7 - p8))] [] [jgh, (101, [], [q1, p7, p8, 0, 0, 0])] 0 0 (fun k v hsN => k = 0 ∧ v = (0, 1) ∧ hsN = [jgh, (101, [], [q1, p7, p8, 0, 0, 0])] ++ []) := by
  refine jT_xlload_n (v := (1, -p7 - p8)) (pcN := 1) jIQ_40_0 rfl rfl rfl ?_
  refine jT_adv 1 (pcN := 4) (LN := [(0, (4, 0)), (1, (4, 1)), (2, (1, -p7 - p8))]) (stN := [(1, 16777216), (1, -p7 - p8)]) (hsN := [jgh, (101, [], [q1, p7, p8, 0, 0, 0])]) (c1 := 0) (s1 := 0) (c2 := 0) (s2 := 0) (by exact rfl) ?_ (by omega) (by omega)
  refine jT_lcmp (a := -p7 - p8) (b := 16777216) (z := (-1)) (by rfl) (by rfl) (jwl_idd (by omega) (by omega)) (jwl_idd (by omega) (by omega)) (by rw [decide_eq_false (show ¬ ((16777216 : Int) < -p7 - p8) by omega), decide_eq_false (show ¬ ((-p7 - p8 : Int) = 16777216) by omega)]; rfl) ?_
  refine jT_xifF (t := 25) (pcN := 8) jIQ_40_5 rfl (by decide +kernel) rfl rfl ?_
  refine jT_xaload_n (v := (4, 1)) (pcN := 9) jIQ_40_8 rfl rfl rfl ?_
  refine jT_xiconst (k := 0) (pcN := 10) jIQ_40_9 rfl ?_
  refine jT_lald (x := q1) (a := 1) (j := 0) (fs := []) (X := [q1, p7, p8, 0, 0, 0]) jIQ_40_10 rfl rfl rfl rfl ?_
  refine jT_eq (LN := [(0, (4, 0)), (1, (4, 1)), (2, (1, -p7 - p8))]) (stN := [(1, q1)]) (hsN := [jgh, (101, [], [q1, p7, p8, 0, 0, 0])]) rfl rfl rfl ?_
  refine jT_labs (z := -q1) (by rfl) (by rfl) (by rfl) (by rfl) (by rw [show jwl (q1) = q1 from jwl_idd (by omega) (by omega), decide_eq_true (by omega)]; first | (simp only [cond_true, cond_false]; done) | (simp only [cond_true, cond_false]; omega) | rfl) ?_
  refine jT_adv 1 (pcN := 17) (LN := [(0, (4, 0)), (1, (4, 1)), (2, (1, -p7 - p8))]) (stN := [(1, 16777216), (1, -q1)]) (hsN := [jgh, (101, [], [q1, p7, p8, 0, 0, 0])]) (c1 := 0) (s1 := 0) (c2 := 0) (s2 := 0) (by exact rfl) ?_ (by omega) (by omega)
  refine jT_lcmp (a := -q1) (b := 16777216) (z := (-1)) (by rfl) (by rfl) (jwl_idd (by omega) (by omega)) (jwl_idd (by omega) (by omega)) (by rw [decide_eq_false (show ¬ ((16777216 : Int) < -q1) by omega), decide_eq_false (show ¬ ((-q1 : Int) = 16777216) by omega)]; rfl) ?_
  refine jT_xifF (t := 25) (pcN := 21) jIQ_40_18 rfl (by decide +kernel) rfl rfl ?_
  refine jT_xiconst (k := 1) (pcN := 22) jIQ_40_21 rfl ?_
  refine jT_xgoto (pcN := 26) jIQ_40_22 rfl ?_
  exact jT_ret rfl (by decide) (by show 2 ≤ 2; omega) (by omega) (by omega) ⟨rfl, rfl, rfl⟩
theorem jQ_41_82 {xs : List Int} {d : Nat} {p7 p8 q1 : Int} (h_p7 : (-20) ≤ p7 ∧ p7 ≤ 20) (h_p8 : (-10) ≤ p8 ∧ p8 ≤ 10) (h_q1 : (-60) ≤ q1 ∧ q1 ≤ 60) (g_0 : 0 ≤ (-108917793694) * p7 - 159561683698 * p8 - 68719476736 * q1 - 1) (g_1 : 0 ≤ (-108917793694) * p7 - 159561683700 * p8 - 68719476736 * q1 - 1) (g_2 : 0 ≤ (-108917793696) * p7 - 159561683698 * p8 - 68719476736 * q1 - 1) (g_3 : 0 ≤ (-108917793696) * p7 - 159561683700 * p8 - 68719476736 * q1 - 1) (g_4 : p7 < 0) (g_5 : p8 < 0) (g_6 : q1 < 0) : jT xs d 41 2 0 [(0, (4, 0)), (1, (4, 1))] [] [jgh, (101, [], [q1, p7, p8, 0, 0, 0])] 0 0 (fun k v hsN => k = 0 ∧ v = (1, 108917793695 * p7 + 159561683699 * p8 + 68719476736 * q1) ∧ hsN = [jgh, (101, [], [q1, p7, p8, 0, 0, 0])] ++ []) := by
  refine jT_xlconst (z := 0) (pcN := 1) jIQ_41_0 rfl rfl ?_
  refine jT_xlstore_n (v := (1, 0)) (LN := [(2, (1, 0)), (0, (4, 0)), (1, (4, 1))]) (pcN := 2) jIQ_41_1 rfl rfl rfl rfl ?_
  refine jT_xiconst (k := 0) (pcN := 3) jIQ_41_2 rfl ?_
  refine jT_xistore (v := (0, 0)) (LN := [(4, (0, 0)), (2, (1, 0)), (0, (4, 0)), (1, (4, 1))]) (pcN := 5) jIQ_41_3 rfl rfl rfl rfl ?_
  refine jT_xiload (v := (0, 0)) (pcN := 7) jIQ_41_5 rfl rfl rfl ?_
  refine jT_xbipush (k := 6) (pcN := 9) jIQ_41_7 (by decide) rfl ?_
  refine jT_xicF (t := 32) (pcN := 12) jIQ_41_9 rfl (by decide +kernel) rfl rfl ?_
  refine jT_xlload_n (v := (1, 0)) (pcN := 13) jIQ_41_12 rfl rfl rfl ?_
  refine jT_xaload_n (v := (4, 1)) (pcN := 14) jIQ_41_13 rfl rfl rfl ?_
  refine jT_xiload (v := (0, 0)) (pcN := 16) jIQ_41_14 rfl rfl rfl ?_
  refine jT_lald (x := q1) (a := 1) (j := 0) (fs := []) (X := [q1, p7, p8, 0, 0, 0]) jIQ_41_16 rfl rfl rfl rfl ?_
  refine jT_eq (LN := [(4, (0, 0)), (2, (1, 0)), (0, (4, 0)), (1, (4, 1))]) (stN := [(1, q1), (1, 0)]) (hsN := [jgh, (101, [], [q1, p7, p8, 0, 0, 0])]) rfl rfl rfl ?_
  refine jT_adv 1 (pcN := 20) (LN := [(4, (0, 0)), (2, (1, 0)), (0, (4, 0)), (1, (4, 1))]) (stN := [(5, 0), (1, q1), (1, 0)]) (hsN := [jgh, (101, [], [q1, p7, p8, 0, 0, 0])]) (c1 := 0) (s1 := 0) (c2 := 0) (s2 := 0) (by exact rfl) ?_ (by omega) (by omega)
  refine jT_xiload (v := (0, 0)) (pcN := 22) jIQ_41_20 rfl rfl rfl ?_
  refine jT_adv 1 (pcN := 23) (LN := [(4, (0, 0)), (2, (1, 0)), (0, (4, 0)), (1, (4, 1))]) (stN := [(1, 68719476736), (1, q1), (1, 0)]) (hsN := [jgh, (101, [], [q1, p7, p8, 0, 0, 0])]) (c1 := 0) (s1 := 0) (c2 := 0) (s2 := 0) (by exact rfl) ?_ (by omega) (by omega)
  refine jT_xlmul (x := q1) (y := 68719476736) (z := 68719476736 * q1) (pcN := 24) jIQ_41_23 rfl (by omega) rfl ?_
  refine jT_xladd (x := 0) (y := 68719476736 * q1) (z := 68719476736 * q1) (pcN := 25) jIQ_41_24 rfl (by omega) rfl ?_
  refine jT_xlstore_n (v := (1, 68719476736 * q1)) (LN := [(2, (1, 68719476736 * q1)), (4, (0, 0)), (0, (4, 0)), (1, (4, 1))]) (pcN := 26) jIQ_41_25 rfl rfl rfl rfl ?_
  refine jT_xiinc (x := 0) (z := 1) (LN := [(4, (0, 1)), (2, (1, 68719476736 * q1)), (0, (4, 0)), (1, (4, 1))]) (pcN := 29) jIQ_41_26 rfl rfl (by decide) rfl rfl ?_
  refine jT_xgoto (pcN := 5) jIQ_41_29 rfl ?_
  refine jT_xiload (v := (0, 1)) (pcN := 7) jIQ_41_5 rfl rfl rfl ?_
  refine jT_xbipush (k := 6) (pcN := 9) jIQ_41_7 (by decide) rfl ?_
  refine jT_xicF (t := 32) (pcN := 12) jIQ_41_9 rfl (by decide +kernel) rfl rfl ?_
  refine jT_xlload_n (v := (1, 68719476736 * q1)) (pcN := 13) jIQ_41_12 rfl rfl rfl ?_
  refine jT_xaload_n (v := (4, 1)) (pcN := 14) jIQ_41_13 rfl rfl rfl ?_
  refine jT_xiload (v := (0, 1)) (pcN := 16) jIQ_41_14 rfl rfl rfl ?_
  refine jT_lald (x := p7) (a := 1) (j := 1) (fs := []) (X := [q1, p7, p8, 0, 0, 0]) jIQ_41_16 rfl rfl rfl rfl ?_
  refine jT_eq (LN := [(4, (0, 1)), (2, (1, 68719476736 * q1)), (0, (4, 0)), (1, (4, 1))]) (stN := [(1, p7), (1, 68719476736 * q1)]) (hsN := [jgh, (101, [], [q1, p7, p8, 0, 0, 0])]) rfl rfl rfl ?_
  refine jT_adv 1 (pcN := 20) (LN := [(4, (0, 1)), (2, (1, 68719476736 * q1)), (0, (4, 0)), (1, (4, 1))]) (stN := [(5, 0), (1, p7), (1, 68719476736 * q1)]) (hsN := [jgh, (101, [], [q1, p7, p8, 0, 0, 0])]) (c1 := 0) (s1 := 0) (c2 := 0) (s2 := 0) (by exact rfl) ?_ (by omega) (by omega)
  refine jT_xiload (v := (0, 1)) (pcN := 22) jIQ_41_20 rfl rfl rfl ?_
  refine jT_adv 1 (pcN := 23) (LN := [(4, (0, 1)), (2, (1, 68719476736 * q1)), (0, (4, 0)), (1, (4, 1))]) (stN := [(1, 108917793695), (1, p7), (1, 68719476736 * q1)]) (hsN := [jgh, (101, [], [q1, p7, p8, 0, 0, 0])]) (c1 := 0) (s1 := 0) (c2 := 0) (s2 := 0) (by exact rfl) ?_ (by omega) (by omega)
  refine jT_xlmul (x := p7) (y := 108917793695) (z := 108917793695 * p7) (pcN := 24) jIQ_41_23 rfl (by omega) rfl ?_
  refine jT_xladd (x := 68719476736 * q1) (y := 108917793695 * p7) (z := 108917793695 * p7 + 68719476736 * q1) (pcN := 25) jIQ_41_24 rfl (by omega) rfl ?_
  refine jT_xlstore_n (v := (1, 108917793695 * p7 + 68719476736 * q1)) (LN := [(2, (1, 108917793695 * p7 + 68719476736 * q1)), (4, (0, 1)), (0, (4, 0)), (1, (4, 1))]) (pcN := 26) jIQ_41_25 rfl rfl rfl rfl ?_
  refine jT_xiinc (x := 1) (z := 2) (LN := [(4, (0, 2)), (2, (1, 108917793695 * p7 + 68719476736 * q1)), (0, (4, 0)), (1, (4, 1))]) (pcN := 29) jIQ_41_26 rfl rfl (by decide) rfl rfl ?_
  refine jT_xgoto (pcN := 5) jIQ_41_29 rfl ?_
  refine jT_xiload (v := (0, 2)) (pcN := 7) jIQ_41_5 rfl rfl rfl ?_
  refine jT_xbipush (k := 6) (pcN := 9) jIQ_41_7 (by decide) rfl ?_
  refine jT_xicF (t := 32) (pcN := 12) jIQ_41_9 rfl (by decide +kernel) rfl rfl ?_
  refine jT_xlload_n (v := (1, 108917793695 * p7 + 68719476736 * q1)) (pcN := 13) jIQ_41_12 rfl rfl rfl ?_
  refine jT_xaload_n (v := (4, 1)) (pcN := 14) jIQ_41_13 rfl rfl rfl ?_
  refine jT_xiload (v := (0, 2)) (pcN := 16) jIQ_41_14 rfl rfl rfl ?_
  refine jT_lald (x := p8) (a := 1) (j := 2) (fs := []) (X := [q1, p7, p8, 0, 0, 0]) jIQ_41_16 rfl rfl rfl rfl ?_
  refine jT_eq (LN := [(4, (0, 2)), (2, (1, 108917793695 * p7 + 68719476736 * q1)), (0, (4, 0)), (1, (4, 1))]) (stN := [(1, p8), (1, 108917793695 * p7 + 68719476736 * q1)]) (hsN := [jgh, (101, [], [q1, p7, p8, 0, 0, 0])]) rfl rfl rfl ?_
  refine jT_adv 1 (pcN := 20) (LN := [(4, (0, 2)), (2, (1, 108917793695 * p7 + 68719476736 * q1)), (0, (4, 0)), (1, (4, 1))]) (stN := [(5, 0), (1, p8), (1, 108917793695 * p7 + 68719476736 * q1)]) (hsN := [jgh, (101, [], [q1, p7, p8, 0, 0, 0])]) (c1 := 0) (s1 := 0) (c2 := 0) (s2 := 0) (by exact rfl) ?_ (by omega) (by omega)
  refine jT_xiload (v := (0, 2)) (pcN := 22) jIQ_41_20 rfl rfl rfl ?_
  refine jT_adv 1 (pcN := 23) (LN := [(4, (0, 2)), (2, (1, 108917793695 * p7 + 68719476736 * q1)), (0, (4, 0)), (1, (4, 1))]) (stN := [(1, 159561683699), (1, p8), (1, 108917793695 * p7 + 68719476736 * q1)]) (hsN := [jgh, (101, [], [q1, p7, p8, 0, 0, 0])]) (c1 := 0) (s1 := 0) (c2 := 0) (s2 := 0) (by exact rfl) ?_ (by omega) (by omega)
  refine jT_xlmul (x := p8) (y := 159561683699) (z := 159561683699 * p8) (pcN := 24) jIQ_41_23 rfl (by omega) rfl ?_
  refine jT_xladd (x := 108917793695 * p7 + 68719476736 * q1) (y := 159561683699 * p8) (z := 108917793695 * p7 + 159561683699 * p8 + 68719476736 * q1) (pcN := 25) jIQ_41_24 rfl (by omega) rfl ?_
  refine jT_xlstore_n (v := (1, 108917793695 * p7 + 159561683699 * p8 + 68719476736 * q1)) (LN := [(2, (1, 108917793695 * p7 + 159561683699 * p8 + 68719476736 * q1)), (4, (0, 2)), (0, (4, 0)), (1, (4, 1))]) (pcN := 26) jIQ_41_25 rfl rfl rfl rfl ?_
  refine jT_xiinc (x := 2) (z := 3) (LN := [(4, (0, 3)), (2, (1, 108917793695 * p7 + 159561683699 * p8 + 68719476736 * q1)), (0, (4, 0)), (1, (4, 1))]) (pcN := 29) jIQ_41_26 rfl rfl (by decide) rfl rfl ?_
  refine jT_xgoto (pcN := 5) jIQ_41_29 rfl ?_
  refine jT_xiload (v := (0, 3)) (pcN := 7) jIQ_41_5 rfl rfl rfl ?_
  refine jT_xbipush (k := 6) (pcN := 9) jIQ_41_7 (by decide) rfl ?_
  refine jT_xicF (t := 32) (pcN := 12) jIQ_41_9 rfl (by decide +kernel) rfl rfl ?_
  refine jT_xlload_n (v := (1, 108917793695 * p7 + 159561683699 * p8 + 68719476736 * q1)) (pcN := 13) jIQ_41_12 rfl rfl rfl ?_
  refine jT_xaload_n (v := (4, 1)) (pcN := 14) jIQ_41_13 rfl rfl rfl ?_
  refine jT_xiload (v := (0, 3)) (pcN := 16) jIQ_41_14 rfl rfl rfl ?_
  refine jT_lald (x := 0) (a := 1) (j := 3) (fs := []) (X := [q1, p7, p8, 0, 0, 0]) jIQ_41_16 rfl rfl rfl rfl ?_
  refine jT_eq (LN := [(4, (0, 3)), (2, (1, 108917793695 * p7 + 159561683699 * p8 + 68719476736 * q1)), (0, (4, 0)), (1, (4, 1))]) (stN := [(1, 0), (1, 108917793695 * p7 + 159561683699 * p8 + 68719476736 * q1)]) (hsN := [jgh, (101, [], [q1, p7, p8, 0, 0, 0])]) rfl rfl rfl ?_
  refine jT_adv 1 (pcN := 20) (LN := [(4, (0, 3)), (2, (1, 108917793695 * p7 + 159561683699 * p8 + 68719476736 * q1)), (0, (4, 0)), (1, (4, 1))]) (stN := [(5, 0), (1, 0), (1, 108917793695 * p7 + 159561683699 * p8 + 68719476736 * q1)]) (hsN := [jgh, (101, [], [q1, p7, p8, 0, 0, 0])]) (c1 := 0) (s1 := 0) (c2 := 0) (s2 := 0) (by exact rfl) ?_ (by omega) (by omega)
  refine jT_xiload (v := (0, 3)) (pcN := 22) jIQ_41_20 rfl rfl rfl ?_
  refine jT_adv 1 (pcN := 23) (LN := [(4, (0, 3)), (2, (1, 108917793695 * p7 + 159561683699 * p8 + 68719476736 * q1)), (0, (4, 0)), (1, (4, 1))]) (stN := [(1, 192919961256), (1, 0), (1, 108917793695 * p7 + 159561683699 * p8 + 68719476736 * q1)]) (hsN := [jgh, (101, [], [q1, p7, p8, 0, 0, 0])]) (c1 := 0) (s1 := 0) (c2 := 0) (s2 := 0) (by exact rfl) ?_ (by omega) (by omega)
  refine jT_xlmul (x := 0) (y := 192919961256) (z := 0) (pcN := 24) jIQ_41_23 rfl (by decide) rfl ?_
  refine jT_xladd (x := 108917793695 * p7 + 159561683699 * p8 + 68719476736 * q1) (y := 0) (z := 108917793695 * p7 + 159561683699 * p8 + 68719476736 * q1) (pcN := 25) jIQ_41_24 rfl (by omega) rfl ?_
  refine jT_xlstore_n (v := (1, 108917793695 * p7 + 159561683699 * p8 + 68719476736 * q1)) (LN := [(2, (1, 108917793695 * p7 + 159561683699 * p8 + 68719476736 * q1)), (4, (0, 3)), (0, (4, 0)), (1, (4, 1))]) (pcN := 26) jIQ_41_25 rfl rfl rfl rfl ?_
  refine jT_xiinc (x := 3) (z := 4) (LN := [(4, (0, 4)), (2, (1, 108917793695 * p7 + 159561683699 * p8 + 68719476736 * q1)), (0, (4, 0)), (1, (4, 1))]) (pcN := 29) jIQ_41_26 rfl rfl (by decide) rfl rfl ?_
  refine jT_xgoto (pcN := 5) jIQ_41_29 rfl ?_
  refine jT_xiload (v := (0, 4)) (pcN := 7) jIQ_41_5 rfl rfl rfl ?_
  refine jT_xbipush (k := 6) (pcN := 9) jIQ_41_7 (by decide) rfl ?_
  refine jT_xicF (t := 32) (pcN := 12) jIQ_41_9 rfl (by decide +kernel) rfl rfl ?_
  refine jT_xlload_n (v := (1, 108917793695 * p7 + 159561683699 * p8 + 68719476736 * q1)) (pcN := 13) jIQ_41_12 rfl rfl rfl ?_
  refine jT_xaload_n (v := (4, 1)) (pcN := 14) jIQ_41_13 rfl rfl rfl ?_
  refine jT_xiload (v := (0, 4)) (pcN := 16) jIQ_41_14 rfl rfl rfl ?_
  refine jT_lald (x := 0) (a := 1) (j := 4) (fs := []) (X := [q1, p7, p8, 0, 0, 0]) jIQ_41_16 rfl rfl rfl rfl ?_
  refine jT_eq (LN := [(4, (0, 4)), (2, (1, 108917793695 * p7 + 159561683699 * p8 + 68719476736 * q1)), (0, (4, 0)), (1, (4, 1))]) (stN := [(1, 0), (1, 108917793695 * p7 + 159561683699 * p8 + 68719476736 * q1)]) (hsN := [jgh, (101, [], [q1, p7, p8, 0, 0, 0])]) rfl rfl rfl ?_
  refine jT_adv 1 (pcN := 20) (LN := [(4, (0, 4)), (2, (1, 108917793695 * p7 + 159561683699 * p8 + 68719476736 * q1)), (0, (4, 0)), (1, (4, 1))]) (stN := [(5, 0), (1, 0), (1, 108917793695 * p7 + 159561683699 * p8 + 68719476736 * q1)]) (hsN := [jgh, (101, [], [q1, p7, p8, 0, 0, 0])]) (c1 := 0) (s1 := 0) (c2 := 0) (s2 := 0) (by exact rfl) ?_ (by omega) (by omega)
  refine jT_xiload (v := (0, 4)) (pcN := 22) jIQ_41_20 rfl rfl rfl ?_
  refine jT_adv 1 (pcN := 23) (LN := [(4, (0, 4)), (2, (1, 108917793695 * p7 + 159561683699 * p8 + 68719476736 * q1)), (0, (4, 0)), (1, (4, 1))]) (stN := [(1, 237730330636), (1, 0), (1, 108917793695 * p7 + 159561683699 * p8 + 68719476736 * q1)]) (hsN := [jgh, (101, [], [q1, p7, p8, 0, 0, 0])]) (c1 := 0) (s1 := 0) (c2 := 0) (s2 := 0) (by exact rfl) ?_ (by omega) (by omega)
  refine jT_xlmul (x := 0) (y := 237730330636) (z := 0) (pcN := 24) jIQ_41_23 rfl (by decide) rfl ?_
  refine jT_xladd (x := 108917793695 * p7 + 159561683699 * p8 + 68719476736 * q1) (y := 0) (z := 108917793695 * p7 + 159561683699 * p8 + 68719476736 * q1) (pcN := 25) jIQ_41_24 rfl (by omega) rfl ?_
  refine jT_xlstore_n (v := (1, 108917793695 * p7 + 159561683699 * p8 + 68719476736 * q1)) (LN := [(2, (1, 108917793695 * p7 + 159561683699 * p8 + 68719476736 * q1)), (4, (0, 4)), (0, (4, 0)), (1, (4, 1))]) (pcN := 26) jIQ_41_25 rfl rfl rfl rfl ?_
  refine jT_xiinc (x := 4) (z := 5) (LN := [(4, (0, 5)), (2, (1, 108917793695 * p7 + 159561683699 * p8 + 68719476736 * q1)), (0, (4, 0)), (1, (4, 1))]) (pcN := 29) jIQ_41_26 rfl rfl (by decide) rfl rfl ?_
  refine jT_xgoto (pcN := 5) jIQ_41_29 rfl ?_
  refine jT_xiload (v := (0, 5)) (pcN := 7) jIQ_41_5 rfl rfl rfl ?_
  refine jT_xbipush (k := 6) (pcN := 9) jIQ_41_7 (by decide) rfl ?_
  refine jT_xicF (t := 32) (pcN := 12) jIQ_41_9 rfl (by decide +kernel) rfl rfl ?_
  refine jT_xlload_n (v := (1, 108917793695 * p7 + 159561683699 * p8 + 68719476736 * q1)) (pcN := 13) jIQ_41_12 rfl rfl rfl ?_
  refine jT_xaload_n (v := (4, 1)) (pcN := 14) jIQ_41_13 rfl rfl rfl ?_
  refine jT_xiload (v := (0, 5)) (pcN := 16) jIQ_41_14 rfl rfl rfl ?_
  refine jT_lald (x := 0) (a := 1) (j := 5) (fs := []) (X := [q1, p7, p8, 0, 0, 0]) jIQ_41_16 rfl rfl rfl rfl ?_
  refine jT_eq (LN := [(4, (0, 5)), (2, (1, 108917793695 * p7 + 159561683699 * p8 + 68719476736 * q1)), (0, (4, 0)), (1, (4, 1))]) (stN := [(1, 0), (1, 108917793695 * p7 + 159561683699 * p8 + 68719476736 * q1)]) (hsN := [jgh, (101, [], [q1, p7, p8, 0, 0, 0])]) rfl rfl rfl ?_
  refine jT_adv 1 (pcN := 20) (LN := [(4, (0, 5)), (2, (1, 108917793695 * p7 + 159561683699 * p8 + 68719476736 * q1)), (0, (4, 0)), (1, (4, 1))]) (stN := [(5, 0), (1, 0), (1, 108917793695 * p7 + 159561683699 * p8 + 68719476736 * q1)]) (hsN := [jgh, (101, [], [q1, p7, p8, 0, 0, 0])]) (c1 := 0) (s1 := 0) (c2 := 0) (s2 := 0) (by exact rfl) ?_ (by omega) (by omega)
  refine jT_xiload (v := (0, 5)) (pcN := 22) jIQ_41_20 rfl rfl rfl ?_
  refine jT_adv 1 (pcN := 23) (LN := [(4, (0, 5)), (2, (1, 108917793695 * p7 + 159561683699 * p8 + 68719476736 * q1)), (0, (4, 0)), (1, (4, 1))]) (stN := [(1, 254292281123), (1, 0), (1, 108917793695 * p7 + 159561683699 * p8 + 68719476736 * q1)]) (hsN := [jgh, (101, [], [q1, p7, p8, 0, 0, 0])]) (c1 := 0) (s1 := 0) (c2 := 0) (s2 := 0) (by exact rfl) ?_ (by omega) (by omega)
  refine jT_xlmul (x := 0) (y := 254292281123) (z := 0) (pcN := 24) jIQ_41_23 rfl (by decide) rfl ?_
  refine jT_xladd (x := 108917793695 * p7 + 159561683699 * p8 + 68719476736 * q1) (y := 0) (z := 108917793695 * p7 + 159561683699 * p8 + 68719476736 * q1) (pcN := 25) jIQ_41_24 rfl (by omega) rfl ?_
  refine jT_xlstore_n (v := (1, 108917793695 * p7 + 159561683699 * p8 + 68719476736 * q1)) (LN := [(2, (1, 108917793695 * p7 + 159561683699 * p8 + 68719476736 * q1)), (4, (0, 5)), (0, (4, 0)), (1, (4, 1))]) (pcN := 26) jIQ_41_25 rfl rfl rfl rfl ?_
  refine jT_xiinc (x := 5) (z := 6) (LN := [(4, (0, 6)), (2, (1, 108917793695 * p7 + 159561683699 * p8 + 68719476736 * q1)), (0, (4, 0)), (1, (4, 1))]) (pcN := 29) jIQ_41_26 rfl rfl (by decide) rfl rfl ?_
  refine jT_xgoto (pcN := 5) jIQ_41_29 rfl ?_
  refine jT_xiload (v := (0, 6)) (pcN := 7) jIQ_41_5 rfl rfl rfl ?_
  refine jT_xbipush (k := 6) (pcN := 9) jIQ_41_7 (by decide) rfl ?_
  refine jT_xicT (pcN := 32) jIQ_41_9 rfl (by decide +kernel) rfl ?_
  refine jT_xlload_n (v := (1, 108917793695 * p7 + 159561683699 * p8 + 68719476736 * q1)) (pcN := 33) jIQ_41_32 rfl rfl rfl ?_
  exact jT_ret rfl (by decide) (by show 2 ≤ 2; omega) (by omega) (by omega) ⟨rfl, rfl, rfl⟩
theorem jQ_39_83 {xs : List Int} {d : Nat} {p7 p8 q1 : Int} (h_p7 : (-20) ≤ p7 ∧ p7 ≤ 20) (h_p8 : (-10) ≤ p8 ∧ p8 ≤ 10) (h_q1 : (-60) ≤ q1 ∧ q1 ≤ 60) (g_0 : 0 ≤ (-108917793694) * p7 - 159561683698 * p8 - 68719476736 * q1 - 1) (g_1 : 0 ≤ (-108917793694) * p7 - 159561683700 * p8 - 68719476736 * q1 - 1) (g_2 : 0 ≤ (-108917793696) * p7 - 159561683698 * p8 - 68719476736 * q1 - 1) (g_3 : 0 ≤ (-108917793696) * p7 - 159561683700 * p8 - 68719476736 * q1 - 1) (g_4 : p7 < 0) (g_5 : p8 < 0) (g_6 : 0 ≤ q1) : jT xs d 39 2 0 [(0, (4, 0)), (1, (4, 1))] [] [jgh, (101, [], [q1, p7, p8, 0, 0, 0])] 0 0 (fun k v hsN => k = 0 ∧ v = (1, -p7 - p8) ∧ hsN = [jgh, (101, [], [q1, p7, p8, 0, 0, 0])] ++ []) := by
  refine jT_xlconst (z := 0) (pcN := 1) jIQ_39_0 rfl rfl ?_
  refine jT_xlstore_n (v := (1, 0)) (LN := [(2, (1, 0)), (0, (4, 0)), (1, (4, 1))]) (pcN := 2) jIQ_39_1 rfl rfl rfl rfl ?_
  refine jT_xiconst (k := 1) (pcN := 3) jIQ_39_2 rfl ?_
  refine jT_xistore (v := (0, 1)) (LN := [(4, (0, 1)), (2, (1, 0)), (0, (4, 0)), (1, (4, 1))]) (pcN := 5) jIQ_39_3 rfl rfl rfl rfl ?_
  refine jT_xiload (v := (0, 1)) (pcN := 7) jIQ_39_5 rfl rfl rfl ?_
  refine jT_xbipush (k := 6) (pcN := 9) jIQ_39_7 (by decide) rfl ?_
  refine jT_xicF (t := 28) (pcN := 12) jIQ_39_9 rfl (by decide +kernel) rfl rfl ?_
  refine jT_xlload_n (v := (1, 0)) (pcN := 13) jIQ_39_12 rfl rfl rfl ?_
  refine jT_xaload_n (v := (4, 1)) (pcN := 14) jIQ_39_13 rfl rfl rfl ?_
  refine jT_xiload (v := (0, 1)) (pcN := 16) jIQ_39_14 rfl rfl rfl ?_
  refine jT_lald (x := p7) (a := 1) (j := 1) (fs := []) (X := [q1, p7, p8, 0, 0, 0]) jIQ_39_16 rfl rfl rfl rfl ?_
  refine jT_eq (LN := [(4, (0, 1)), (2, (1, 0)), (0, (4, 0)), (1, (4, 1))]) (stN := [(1, p7), (1, 0)]) (hsN := [jgh, (101, [], [q1, p7, p8, 0, 0, 0])]) rfl rfl rfl ?_
  refine jT_labs (z := -p7) (by rfl) (by rfl) (by rfl) (by rfl) (by rw [show jwl (p7) = p7 from jwl_idd (by omega) (by omega), decide_eq_true (by omega)]; first | (simp only [cond_true, cond_false]; done) | (simp only [cond_true, cond_false]; omega) | rfl) ?_
  refine jT_xladd (x := 0) (y := -p7) (z := -p7) (pcN := 21) jIQ_39_20 rfl (by omega) rfl ?_
  refine jT_xlstore_n (v := (1, -p7)) (LN := [(2, (1, -p7)), (4, (0, 1)), (0, (4, 0)), (1, (4, 1))]) (pcN := 22) jIQ_39_21 rfl rfl rfl rfl ?_
  refine jT_xiinc (x := 1) (z := 2) (LN := [(4, (0, 2)), (2, (1, -p7)), (0, (4, 0)), (1, (4, 1))]) (pcN := 25) jIQ_39_22 rfl rfl (by decide) rfl rfl ?_
  refine jT_xgoto (pcN := 5) jIQ_39_25 rfl ?_
  refine jT_xiload (v := (0, 2)) (pcN := 7) jIQ_39_5 rfl rfl rfl ?_
  refine jT_xbipush (k := 6) (pcN := 9) jIQ_39_7 (by decide) rfl ?_
  refine jT_xicF (t := 28) (pcN := 12) jIQ_39_9 rfl (by decide +kernel) rfl rfl ?_
  refine jT_xlload_n (v := (1, -p7)) (pcN := 13) jIQ_39_12 rfl rfl rfl ?_
  refine jT_xaload_n (v := (4, 1)) (pcN := 14) jIQ_39_13 rfl rfl rfl ?_
  refine jT_xiload (v := (0, 2)) (pcN := 16) jIQ_39_14 rfl rfl rfl ?_
  refine jT_lald (x := p8) (a := 1) (j := 2) (fs := []) (X := [q1, p7, p8, 0, 0, 0]) jIQ_39_16 rfl rfl rfl rfl ?_
  refine jT_eq (LN := [(4, (0, 2)), (2, (1, -p7)), (0, (4, 0)), (1, (4, 1))]) (stN := [(1, p8), (1, -p7)]) (hsN := [jgh, (101, [], [q1, p7, p8, 0, 0, 0])]) rfl rfl rfl ?_
  refine jT_labs (z := -p8) (by rfl) (by rfl) (by rfl) (by rfl) (by rw [show jwl (p8) = p8 from jwl_idd (by omega) (by omega), decide_eq_true (by omega)]; first | (simp only [cond_true, cond_false]; done) | (simp only [cond_true, cond_false]; omega) | rfl) ?_
  refine jT_xladd (x := -p7) (y := -p8) (z := -p7 - p8) (pcN := 21) jIQ_39_20 rfl (by omega) rfl ?_
  refine jT_xlstore_n (v := (1, -p7 - p8)) (LN := [(2, (1, -p7 - p8)), (4, (0, 2)), (0, (4, 0)), (1, (4, 1))]) (pcN := 22) jIQ_39_21 rfl rfl rfl rfl ?_
  refine jT_xiinc (x := 2) (z := 3) (LN := [(4, (0, 3)), (2, (1, -p7 - p8)), (0, (4, 0)), (1, (4, 1))]) (pcN := 25) jIQ_39_22 rfl rfl (by decide) rfl rfl ?_
  refine jT_xgoto (pcN := 5) jIQ_39_25 rfl ?_
  refine jT_xiload (v := (0, 3)) (pcN := 7) jIQ_39_5 rfl rfl rfl ?_
  refine jT_xbipush (k := 6) (pcN := 9) jIQ_39_7 (by decide) rfl ?_
  refine jT_xicF (t := 28) (pcN := 12) jIQ_39_9 rfl (by decide +kernel) rfl rfl ?_
  refine jT_xlload_n (v := (1, -p7 - p8)) (pcN := 13) jIQ_39_12 rfl rfl rfl ?_
  refine jT_xaload_n (v := (4, 1)) (pcN := 14) jIQ_39_13 rfl rfl rfl ?_
  refine jT_xiload (v := (0, 3)) (pcN := 16) jIQ_39_14 rfl rfl rfl ?_
  refine jT_lald (x := 0) (a := 1) (j := 3) (fs := []) (X := [q1, p7, p8, 0, 0, 0]) jIQ_39_16 rfl rfl rfl rfl ?_
  refine jT_eq (LN := [(4, (0, 3)), (2, (1, -p7 - p8)), (0, (4, 0)), (1, (4, 1))]) (stN := [(1, 0), (1, -p7 - p8)]) (hsN := [jgh, (101, [], [q1, p7, p8, 0, 0, 0])]) rfl rfl rfl ?_
  refine jT_labs (z := 0) (by rfl) (by rfl) (by rfl) (by rfl) (by decide +kernel) ?_
  refine jT_xladd (x := -p7 - p8) (y := 0) (z := -p7 - p8) (pcN := 21) jIQ_39_20 rfl (by omega) rfl ?_
  refine jT_xlstore_n (v := (1, -p7 - p8)) (LN := [(2, (1, -p7 - p8)), (4, (0, 3)), (0, (4, 0)), (1, (4, 1))]) (pcN := 22) jIQ_39_21 rfl rfl rfl rfl ?_
  refine jT_xiinc (x := 3) (z := 4) (LN := [(4, (0, 4)), (2, (1, -p7 - p8)), (0, (4, 0)), (1, (4, 1))]) (pcN := 25) jIQ_39_22 rfl rfl (by decide) rfl rfl ?_
  refine jT_xgoto (pcN := 5) jIQ_39_25 rfl ?_
  refine jT_xiload (v := (0, 4)) (pcN := 7) jIQ_39_5 rfl rfl rfl ?_
  refine jT_xbipush (k := 6) (pcN := 9) jIQ_39_7 (by decide) rfl ?_
  refine jT_xicF (t := 28) (pcN := 12) jIQ_39_9 rfl (by decide +kernel) rfl rfl ?_
  refine jT_xlload_n (v := (1, -p7 - p8)) (pcN := 13) jIQ_39_12 rfl rfl rfl ?_
  refine jT_xaload_n (v := (4, 1)) (pcN := 14) jIQ_39_13 rfl rfl rfl ?_
  refine jT_xiload (v := (0, 4)) (pcN := 16) jIQ_39_14 rfl rfl rfl ?_
  refine jT_lald (x := 0) (a := 1) (j := 4) (fs := []) (X := [q1, p7, p8, 0, 0, 0]) jIQ_39_16 rfl rfl rfl rfl ?_
  refine jT_eq (LN := [(4, (0, 4)), (2, (1, -p7 - p8)), (0, (4, 0)), (1, (4, 1))]) (stN := [(1, 0), (1, -p7 - p8)]) (hsN := [jgh, (101, [], [q1, p7, p8, 0, 0, 0])]) rfl rfl rfl ?_
  refine jT_labs (z := 0) (by rfl) (by rfl) (by rfl) (by rfl) (by decide +kernel) ?_
  refine jT_xladd (x := -p7 - p8) (y := 0) (z := -p7 - p8) (pcN := 21) jIQ_39_20 rfl (by omega) rfl ?_
  refine jT_xlstore_n (v := (1, -p7 - p8)) (LN := [(2, (1, -p7 - p8)), (4, (0, 4)), (0, (4, 0)), (1, (4, 1))]) (pcN := 22) jIQ_39_21 rfl rfl rfl rfl ?_
  refine jT_xiinc (x := 4) (z := 5) (LN := [(4, (0, 5)), (2, (1, -p7 - p8)), (0, (4, 0)), (1, (4, 1))]) (pcN := 25) jIQ_39_22 rfl rfl (by decide) rfl rfl ?_
  refine jT_xgoto (pcN := 5) jIQ_39_25 rfl ?_
  refine jT_xiload (v := (0, 5)) (pcN := 7) jIQ_39_5 rfl rfl rfl ?_
  refine jT_xbipush (k := 6) (pcN := 9) jIQ_39_7 (by decide) rfl ?_
  refine jT_xicF (t := 28) (pcN := 12) jIQ_39_9 rfl (by decide +kernel) rfl rfl ?_
  refine jT_xlload_n (v := (1, -p7 - p8)) (pcN := 13) jIQ_39_12 rfl rfl rfl ?_
  refine jT_xaload_n (v := (4, 1)) (pcN := 14) jIQ_39_13 rfl rfl rfl ?_
  refine jT_xiload (v := (0, 5)) (pcN := 16) jIQ_39_14 rfl rfl rfl ?_
  refine jT_lald (x := 0) (a := 1) (j := 5) (fs := []) (X := [q1, p7, p8, 0, 0, 0]) jIQ_39_16 rfl rfl rfl rfl ?_
  refine jT_eq (LN := [(4, (0, 5)), (2, (1, -p7 - p8)), (0, (4, 0)), (1, (4, 1))]) (stN := [(1, 0), (1, -p7 - p8)]) (hsN := [jgh, (101, [], [q1, p7, p8, 0, 0, 0])]) rfl rfl rfl ?_
  refine jT_labs (z := 0) (by rfl) (by rfl) (by rfl) (by rfl) (by decide +kernel) ?_
  refine jT_xladd (x := -p7 - p8) (y := 0) (z := -p7 - p8) (pcN := 21) jIQ_39_20 rfl (by omega) rfl ?_
  refine jT_xlstore_n (v := (1, -p7 - p8)) (LN := [(2, (1, -p7 - p8)), (4, (0, 5)), (0, (4, 0)), (1, (4, 1))]) (pcN := 22) jIQ_39_21 rfl rfl rfl rfl ?_
  refine jT_xiinc (x := 5) (z := 6) (LN := [(4, (0, 6)), (2, (1, -p7 - p8)), (0, (4, 0)), (1, (4, 1))]) (pcN := 25) jIQ_39_22 rfl rfl (by decide) rfl rfl ?_
  refine jT_xgoto (pcN := 5) jIQ_39_25 rfl ?_
  refine jT_xiload (v := (0, 6)) (pcN := 7) jIQ_39_5 rfl rfl rfl ?_
  refine jT_xbipush (k := 6) (pcN := 9) jIQ_39_7 (by decide) rfl ?_
  refine jT_xicT (pcN := 28) jIQ_39_9 rfl (by decide +kernel) rfl ?_
  refine jT_xlload_n (v := (1, -p7 - p8)) (pcN := 29) jIQ_39_28 rfl rfl rfl ?_
  exact jT_ret rfl (by decide) (by show 2 ≤ 2; omega) (by omega) (by omega) ⟨rfl, rfl, rfl⟩
theorem jQ_40_84 {xs : List Int} {d : Nat} {p7 p8 q1 : Int} (h_p7 : (-20) ≤ p7 ∧ p7 ≤ 20) (h_p8 : (-10) ≤ p8 ∧ p8 ≤ 10) (h_q1 : (-60) ≤ q1 ∧ q1 ≤ 60) (g_0 : 0 ≤ (-108917793694) * p7 - 159561683698 * p8 - 68719476736 * q1 - 1) (g_1 : 0 ≤ (-108917793694) * p7 - 159561683700 * p8 - 68719476736 * q1 - 1) (g_2 : 0 ≤ (-108917793696) * p7 - 159561683698 * p8 - 68719476736 * q1 - 1) (g_3 : 0 ≤ (-108917793696) * p7 - 159561683700 * p8 - 68719476736 * q1 - 1) (g_4 : p7 < 0) (g_5 : p8 < 0) (g_6 : 0 ≤ q1) : jT xs d 40 2 0 [(0, (4, 0)), (1, (4, 1)), (2, (1, -p7 - p8))] [] [jgh, (101, [], [q1, p7, p8, 0, 0, 0])] 0 0 (fun k v hsN => k = 0 ∧ v = (0, 1) ∧ hsN = [jgh, (101, [], [q1, p7, p8, 0, 0, 0])] ++ []) := by
  refine jT_xlload_n (v := (1, -p7 - p8)) (pcN := 1) jIQ_40_0 rfl rfl rfl ?_
  refine jT_adv 1 (pcN := 4) (LN := [(0, (4, 0)), (1, (4, 1)), (2, (1, -p7 - p8))]) (stN := [(1, 16777216), (1, -p7 - p8)]) (hsN := [jgh, (101, [], [q1, p7, p8, 0, 0, 0])]) (c1 := 0) (s1 := 0) (c2 := 0) (s2 := 0) (by exact rfl) ?_ (by omega) (by omega)
  refine jT_lcmp (a := -p7 - p8) (b := 16777216) (z := (-1)) (by rfl) (by rfl) (jwl_idd (by omega) (by omega)) (jwl_idd (by omega) (by omega)) (by rw [decide_eq_false (show ¬ ((16777216 : Int) < -p7 - p8) by omega), decide_eq_false (show ¬ ((-p7 - p8 : Int) = 16777216) by omega)]; rfl) ?_
  refine jT_xifF (t := 25) (pcN := 8) jIQ_40_5 rfl (by decide +kernel) rfl rfl ?_
  refine jT_xaload_n (v := (4, 1)) (pcN := 9) jIQ_40_8 rfl rfl rfl ?_
  refine jT_xiconst (k := 0) (pcN := 10) jIQ_40_9 rfl ?_
  refine jT_lald (x := q1) (a := 1) (j := 0) (fs := []) (X := [q1, p7, p8, 0, 0, 0]) jIQ_40_10 rfl rfl rfl rfl ?_
  refine jT_eq (LN := [(0, (4, 0)), (1, (4, 1)), (2, (1, -p7 - p8))]) (stN := [(1, q1)]) (hsN := [jgh, (101, [], [q1, p7, p8, 0, 0, 0])]) rfl rfl rfl ?_
  refine jT_labs (z := q1) (by rfl) (by rfl) (by rfl) (by rfl) (by rw [show jwl (q1) = q1 from jwl_idd (by omega) (by omega), decide_eq_false (by omega)]; first | (simp only [cond_true, cond_false]; done) | (simp only [cond_true, cond_false]; omega) | rfl) ?_
  refine jT_adv 1 (pcN := 17) (LN := [(0, (4, 0)), (1, (4, 1)), (2, (1, -p7 - p8))]) (stN := [(1, 16777216), (1, q1)]) (hsN := [jgh, (101, [], [q1, p7, p8, 0, 0, 0])]) (c1 := 0) (s1 := 0) (c2 := 0) (s2 := 0) (by exact rfl) ?_ (by omega) (by omega)
  refine jT_lcmp (a := q1) (b := 16777216) (z := (-1)) (by rfl) (by rfl) (jwl_idd (by omega) (by omega)) (jwl_idd (by omega) (by omega)) (by rw [decide_eq_false (show ¬ ((16777216 : Int) < q1) by omega), decide_eq_false (show ¬ ((q1 : Int) = 16777216) by omega)]; rfl) ?_
  refine jT_xifF (t := 25) (pcN := 21) jIQ_40_18 rfl (by decide +kernel) rfl rfl ?_
  refine jT_xiconst (k := 1) (pcN := 22) jIQ_40_21 rfl ?_
  refine jT_xgoto (pcN := 26) jIQ_40_22 rfl ?_
  exact jT_ret rfl (by decide) (by show 2 ≤ 2; omega) (by omega) (by omega) ⟨rfl, rfl, rfl⟩
theorem jQ_41_85 {xs : List Int} {d : Nat} {p7 p8 q1 : Int} (h_p7 : (-20) ≤ p7 ∧ p7 ≤ 20) (h_p8 : (-10) ≤ p8 ∧ p8 ≤ 10) (h_q1 : (-60) ≤ q1 ∧ q1 ≤ 60) (g_0 : 0 ≤ (-108917793694) * p7 - 159561683698 * p8 - 68719476736 * q1 - 1) (g_1 : 0 ≤ (-108917793694) * p7 - 159561683700 * p8 - 68719476736 * q1 - 1) (g_2 : 0 ≤ (-108917793696) * p7 - 159561683698 * p8 - 68719476736 * q1 - 1) (g_3 : 0 ≤ (-108917793696) * p7 - 159561683700 * p8 - 68719476736 * q1 - 1) (g_4 : p7 < 0) (g_5 : p8 < 0) (g_6 : 0 ≤ q1) : jT xs d 41 2 0 [(0, (4, 0)), (1, (4, 1))] [] [jgh, (101, [], [q1, p7, p8, 0, 0, 0])] 0 0 (fun k v hsN => k = 0 ∧ v = (1, 108917793695 * p7 + 159561683699 * p8 + 68719476736 * q1) ∧ hsN = [jgh, (101, [], [q1, p7, p8, 0, 0, 0])] ++ []) := by
  refine jT_xlconst (z := 0) (pcN := 1) jIQ_41_0 rfl rfl ?_
  refine jT_xlstore_n (v := (1, 0)) (LN := [(2, (1, 0)), (0, (4, 0)), (1, (4, 1))]) (pcN := 2) jIQ_41_1 rfl rfl rfl rfl ?_
  refine jT_xiconst (k := 0) (pcN := 3) jIQ_41_2 rfl ?_
  refine jT_xistore (v := (0, 0)) (LN := [(4, (0, 0)), (2, (1, 0)), (0, (4, 0)), (1, (4, 1))]) (pcN := 5) jIQ_41_3 rfl rfl rfl rfl ?_
  refine jT_xiload (v := (0, 0)) (pcN := 7) jIQ_41_5 rfl rfl rfl ?_
  refine jT_xbipush (k := 6) (pcN := 9) jIQ_41_7 (by decide) rfl ?_
  refine jT_xicF (t := 32) (pcN := 12) jIQ_41_9 rfl (by decide +kernel) rfl rfl ?_
  refine jT_xlload_n (v := (1, 0)) (pcN := 13) jIQ_41_12 rfl rfl rfl ?_
  refine jT_xaload_n (v := (4, 1)) (pcN := 14) jIQ_41_13 rfl rfl rfl ?_
  refine jT_xiload (v := (0, 0)) (pcN := 16) jIQ_41_14 rfl rfl rfl ?_
  refine jT_lald (x := q1) (a := 1) (j := 0) (fs := []) (X := [q1, p7, p8, 0, 0, 0]) jIQ_41_16 rfl rfl rfl rfl ?_
  refine jT_eq (LN := [(4, (0, 0)), (2, (1, 0)), (0, (4, 0)), (1, (4, 1))]) (stN := [(1, q1), (1, 0)]) (hsN := [jgh, (101, [], [q1, p7, p8, 0, 0, 0])]) rfl rfl rfl ?_
  refine jT_adv 1 (pcN := 20) (LN := [(4, (0, 0)), (2, (1, 0)), (0, (4, 0)), (1, (4, 1))]) (stN := [(5, 0), (1, q1), (1, 0)]) (hsN := [jgh, (101, [], [q1, p7, p8, 0, 0, 0])]) (c1 := 0) (s1 := 0) (c2 := 0) (s2 := 0) (by exact rfl) ?_ (by omega) (by omega)
  refine jT_xiload (v := (0, 0)) (pcN := 22) jIQ_41_20 rfl rfl rfl ?_
  refine jT_adv 1 (pcN := 23) (LN := [(4, (0, 0)), (2, (1, 0)), (0, (4, 0)), (1, (4, 1))]) (stN := [(1, 68719476736), (1, q1), (1, 0)]) (hsN := [jgh, (101, [], [q1, p7, p8, 0, 0, 0])]) (c1 := 0) (s1 := 0) (c2 := 0) (s2 := 0) (by exact rfl) ?_ (by omega) (by omega)
  refine jT_xlmul (x := q1) (y := 68719476736) (z := 68719476736 * q1) (pcN := 24) jIQ_41_23 rfl (by omega) rfl ?_
  refine jT_xladd (x := 0) (y := 68719476736 * q1) (z := 68719476736 * q1) (pcN := 25) jIQ_41_24 rfl (by omega) rfl ?_
  refine jT_xlstore_n (v := (1, 68719476736 * q1)) (LN := [(2, (1, 68719476736 * q1)), (4, (0, 0)), (0, (4, 0)), (1, (4, 1))]) (pcN := 26) jIQ_41_25 rfl rfl rfl rfl ?_
  refine jT_xiinc (x := 0) (z := 1) (LN := [(4, (0, 1)), (2, (1, 68719476736 * q1)), (0, (4, 0)), (1, (4, 1))]) (pcN := 29) jIQ_41_26 rfl rfl (by decide) rfl rfl ?_
  refine jT_xgoto (pcN := 5) jIQ_41_29 rfl ?_
  refine jT_xiload (v := (0, 1)) (pcN := 7) jIQ_41_5 rfl rfl rfl ?_
  refine jT_xbipush (k := 6) (pcN := 9) jIQ_41_7 (by decide) rfl ?_
  refine jT_xicF (t := 32) (pcN := 12) jIQ_41_9 rfl (by decide +kernel) rfl rfl ?_
  refine jT_xlload_n (v := (1, 68719476736 * q1)) (pcN := 13) jIQ_41_12 rfl rfl rfl ?_
  refine jT_xaload_n (v := (4, 1)) (pcN := 14) jIQ_41_13 rfl rfl rfl ?_
  refine jT_xiload (v := (0, 1)) (pcN := 16) jIQ_41_14 rfl rfl rfl ?_
  refine jT_lald (x := p7) (a := 1) (j := 1) (fs := []) (X := [q1, p7, p8, 0, 0, 0]) jIQ_41_16 rfl rfl rfl rfl ?_
  refine jT_eq (LN := [(4, (0, 1)), (2, (1, 68719476736 * q1)), (0, (4, 0)), (1, (4, 1))]) (stN := [(1, p7), (1, 68719476736 * q1)]) (hsN := [jgh, (101, [], [q1, p7, p8, 0, 0, 0])]) rfl rfl rfl ?_
  refine jT_adv 1 (pcN := 20) (LN := [(4, (0, 1)), (2, (1, 68719476736 * q1)), (0, (4, 0)), (1, (4, 1))]) (stN := [(5, 0), (1, p7), (1, 68719476736 * q1)]) (hsN := [jgh, (101, [], [q1, p7, p8, 0, 0, 0])]) (c1 := 0) (s1 := 0) (c2 := 0) (s2 := 0) (by exact rfl) ?_ (by omega) (by omega)
  refine jT_xiload (v := (0, 1)) (pcN := 22) jIQ_41_20 rfl rfl rfl ?_
  refine jT_adv 1 (pcN := 23) (LN := [(4, (0, 1)), (2, (1, 68719476736 * q1)), (0, (4, 0)), (1, (4, 1))]) (stN := [(1, 108917793695), (1, p7), (1, 68719476736 * q1)]) (hsN := [jgh, (101, [], [q1, p7, p8, 0, 0, 0])]) (c1 := 0) (s1 := 0) (c2 := 0) (s2 := 0) (by exact rfl) ?_ (by omega) (by omega)
  refine jT_xlmul (x := p7) (y := 108917793695) (z := 108917793695 * p7) (pcN := 24) jIQ_41_23 rfl (by omega) rfl ?_
  refine jT_xladd (x := 68719476736 * q1) (y := 108917793695 * p7) (z := 108917793695 * p7 + 68719476736 * q1) (pcN := 25) jIQ_41_24 rfl (by omega) rfl ?_
  refine jT_xlstore_n (v := (1, 108917793695 * p7 + 68719476736 * q1)) (LN := [(2, (1, 108917793695 * p7 + 68719476736 * q1)), (4, (0, 1)), (0, (4, 0)), (1, (4, 1))]) (pcN := 26) jIQ_41_25 rfl rfl rfl rfl ?_
  refine jT_xiinc (x := 1) (z := 2) (LN := [(4, (0, 2)), (2, (1, 108917793695 * p7 + 68719476736 * q1)), (0, (4, 0)), (1, (4, 1))]) (pcN := 29) jIQ_41_26 rfl rfl (by decide) rfl rfl ?_
  refine jT_xgoto (pcN := 5) jIQ_41_29 rfl ?_
  refine jT_xiload (v := (0, 2)) (pcN := 7) jIQ_41_5 rfl rfl rfl ?_
  refine jT_xbipush (k := 6) (pcN := 9) jIQ_41_7 (by decide) rfl ?_
  refine jT_xicF (t := 32) (pcN := 12) jIQ_41_9 rfl (by decide +kernel) rfl rfl ?_
  refine jT_xlload_n (v := (1, 108917793695 * p7 + 68719476736 * q1)) (pcN := 13) jIQ_41_12 rfl rfl rfl ?_
  refine jT_xaload_n (v := (4, 1)) (pcN := 14) jIQ_41_13 rfl rfl rfl ?_
  refine jT_xiload (v := (0, 2)) (pcN := 16) jIQ_41_14 rfl rfl rfl ?_
  refine jT_lald (x := p8) (a := 1) (j := 2) (fs := []) (X := [q1, p7, p8, 0, 0, 0]) jIQ_41_16 rfl rfl rfl rfl ?_
  refine jT_eq (LN := [(4, (0, 2)), (2, (1, 108917793695 * p7 + 68719476736 * q1)), (0, (4, 0)), (1, (4, 1))]) (stN := [(1, p8), (1, 108917793695 * p7 + 68719476736 * q1)]) (hsN := [jgh, (101, [], [q1, p7, p8, 0, 0, 0])]) rfl rfl rfl ?_
  refine jT_adv 1 (pcN := 20) (LN := [(4, (0, 2)), (2, (1, 108917793695 * p7 + 68719476736 * q1)), (0, (4, 0)), (1, (4, 1))]) (stN := [(5, 0), (1, p8), (1, 108917793695 * p7 + 68719476736 * q1)]) (hsN := [jgh, (101, [], [q1, p7, p8, 0, 0, 0])]) (c1 := 0) (s1 := 0) (c2 := 0) (s2 := 0) (by exact rfl) ?_ (by omega) (by omega)
  refine jT_xiload (v := (0, 2)) (pcN := 22) jIQ_41_20 rfl rfl rfl ?_
  refine jT_adv 1 (pcN := 23) (LN := [(4, (0, 2)), (2, (1, 108917793695 * p7 + 68719476736 * q1)), (0, (4, 0)), (1, (4, 1))]) (stN := [(1, 159561683699), (1, p8), (1, 108917793695 * p7 + 68719476736 * q1)]) (hsN := [jgh, (101, [], [q1, p7, p8, 0, 0, 0])]) (c1 := 0) (s1 := 0) (c2 := 0) (s2 := 0) (by exact rfl) ?_ (by omega) (by omega)
  refine jT_xlmul (x := p8) (y := 159561683699) (z := 159561683699 * p8) (pcN := 24) jIQ_41_23 rfl (by omega) rfl ?_
  refine jT_xladd (x := 108917793695 * p7 + 68719476736 * q1) (y := 159561683699 * p8) (z := 108917793695 * p7 + 159561683699 * p8 + 68719476736 * q1) (pcN := 25) jIQ_41_24 rfl (by omega) rfl ?_
  refine jT_xlstore_n (v := (1, 108917793695 * p7 + 159561683699 * p8 + 68719476736 * q1)) (LN := [(2, (1, 108917793695 * p7 + 159561683699 * p8 + 68719476736 * q1)), (4, (0, 2)), (0, (4, 0)), (1, (4, 1))]) (pcN := 26) jIQ_41_25 rfl rfl rfl rfl ?_
  refine jT_xiinc (x := 2) (z := 3) (LN := [(4, (0, 3)), (2, (1, 108917793695 * p7 + 159561683699 * p8 + 68719476736 * q1)), (0, (4, 0)), (1, (4, 1))]) (pcN := 29) jIQ_41_26 rfl rfl (by decide) rfl rfl ?_
  refine jT_xgoto (pcN := 5) jIQ_41_29 rfl ?_
  refine jT_xiload (v := (0, 3)) (pcN := 7) jIQ_41_5 rfl rfl rfl ?_
  refine jT_xbipush (k := 6) (pcN := 9) jIQ_41_7 (by decide) rfl ?_
  refine jT_xicF (t := 32) (pcN := 12) jIQ_41_9 rfl (by decide +kernel) rfl rfl ?_
  refine jT_xlload_n (v := (1, 108917793695 * p7 + 159561683699 * p8 + 68719476736 * q1)) (pcN := 13) jIQ_41_12 rfl rfl rfl ?_
  refine jT_xaload_n (v := (4, 1)) (pcN := 14) jIQ_41_13 rfl rfl rfl ?_
  refine jT_xiload (v := (0, 3)) (pcN := 16) jIQ_41_14 rfl rfl rfl ?_
  refine jT_lald (x := 0) (a := 1) (j := 3) (fs := []) (X := [q1, p7, p8, 0, 0, 0]) jIQ_41_16 rfl rfl rfl rfl ?_
  refine jT_eq (LN := [(4, (0, 3)), (2, (1, 108917793695 * p7 + 159561683699 * p8 + 68719476736 * q1)), (0, (4, 0)), (1, (4, 1))]) (stN := [(1, 0), (1, 108917793695 * p7 + 159561683699 * p8 + 68719476736 * q1)]) (hsN := [jgh, (101, [], [q1, p7, p8, 0, 0, 0])]) rfl rfl rfl ?_
  refine jT_adv 1 (pcN := 20) (LN := [(4, (0, 3)), (2, (1, 108917793695 * p7 + 159561683699 * p8 + 68719476736 * q1)), (0, (4, 0)), (1, (4, 1))]) (stN := [(5, 0), (1, 0), (1, 108917793695 * p7 + 159561683699 * p8 + 68719476736 * q1)]) (hsN := [jgh, (101, [], [q1, p7, p8, 0, 0, 0])]) (c1 := 0) (s1 := 0) (c2 := 0) (s2 := 0) (by exact rfl) ?_ (by omega) (by omega)
  refine jT_xiload (v := (0, 3)) (pcN := 22) jIQ_41_20 rfl rfl rfl ?_
  refine jT_adv 1 (pcN := 23) (LN := [(4, (0, 3)), (2, (1, 108917793695 * p7 + 159561683699 * p8 + 68719476736 * q1)), (0, (4, 0)), (1, (4, 1))]) (stN := [(1, 192919961256), (1, 0), (1, 108917793695 * p7 + 159561683699 * p8 + 68719476736 * q1)]) (hsN := [jgh, (101, [], [q1, p7, p8, 0, 0, 0])]) (c1 := 0) (s1 := 0) (c2 := 0) (s2 := 0) (by exact rfl) ?_ (by omega) (by omega)
  refine jT_xlmul (x := 0) (y := 192919961256) (z := 0) (pcN := 24) jIQ_41_23 rfl (by decide) rfl ?_
  refine jT_xladd (x := 108917793695 * p7 + 159561683699 * p8 + 68719476736 * q1) (y := 0) (z := 108917793695 * p7 + 159561683699 * p8 + 68719476736 * q1) (pcN := 25) jIQ_41_24 rfl (by omega) rfl ?_
  refine jT_xlstore_n (v := (1, 108917793695 * p7 + 159561683699 * p8 + 68719476736 * q1)) (LN := [(2, (1, 108917793695 * p7 + 159561683699 * p8 + 68719476736 * q1)), (4, (0, 3)), (0, (4, 0)), (1, (4, 1))]) (pcN := 26) jIQ_41_25 rfl rfl rfl rfl ?_
  refine jT_xiinc (x := 3) (z := 4) (LN := [(4, (0, 4)), (2, (1, 108917793695 * p7 + 159561683699 * p8 + 68719476736 * q1)), (0, (4, 0)), (1, (4, 1))]) (pcN := 29) jIQ_41_26 rfl rfl (by decide) rfl rfl ?_
  refine jT_xgoto (pcN := 5) jIQ_41_29 rfl ?_
  refine jT_xiload (v := (0, 4)) (pcN := 7) jIQ_41_5 rfl rfl rfl ?_
  refine jT_xbipush (k := 6) (pcN := 9) jIQ_41_7 (by decide) rfl ?_
  refine jT_xicF (t := 32) (pcN := 12) jIQ_41_9 rfl (by decide +kernel) rfl rfl ?_
  refine jT_xlload_n (v := (1, 108917793695 * p7 + 159561683699 * p8 + 68719476736 * q1)) (pcN := 13) jIQ_41_12 rfl rfl rfl ?_
  refine jT_xaload_n (v := (4, 1)) (pcN := 14) jIQ_41_13 rfl rfl rfl ?_
  refine jT_xiload (v := (0, 4)) (pcN := 16) jIQ_41_14 rfl rfl rfl ?_
  refine jT_lald (x := 0) (a := 1) (j := 4) (fs := []) (X := [q1, p7, p8, 0, 0, 0]) jIQ_41_16 rfl rfl rfl rfl ?_
  refine jT_eq (LN := [(4, (0, 4)), (2, (1, 108917793695 * p7 + 159561683699 * p8 + 68719476736 * q1)), (0, (4, 0)), (1, (4, 1))]) (stN := [(1, 0), (1, 108917793695 * p7 + 159561683699 * p8 + 68719476736 * q1)]) (hsN := [jgh, (101, [], [q1, p7, p8, 0, 0, 0])]) rfl rfl rfl ?_
  refine jT_adv 1 (pcN := 20) (LN := [(4, (0, 4)), (2, (1, 108917793695 * p7 + 159561683699 * p8 + 68719476736 * q1)), (0, (4, 0)), (1, (4, 1))]) (stN := [(5, 0), (1, 0), (1, 108917793695 * p7 + 159561683699 * p8 + 68719476736 * q1)]) (hsN := [jgh, (101, [], [q1, p7, p8, 0, 0, 0])]) (c1 := 0) (s1 := 0) (c2 := 0) (s2 := 0) (by exact rfl) ?_ (by omega) (by omega)
  refine jT_xiload (v := (0, 4)) (pcN := 22) jIQ_41_20 rfl rfl rfl ?_
  refine jT_adv 1 (pcN := 23) (LN := [(4, (0, 4)), (2, (1, 108917793695 * p7 + 159561683699 * p8 + 68719476736 * q1)), (0, (4, 0)), (1, (4, 1))]) (stN := [(1, 237730330636), (1, 0), (1, 108917793695 * p7 + 159561683699 * p8 + 68719476736 * q1)]) (hsN := [jgh, (101, [], [q1, p7, p8, 0, 0, 0])]) (c1 := 0) (s1 := 0) (c2 := 0) (s2 := 0) (by exact rfl) ?_ (by omega) (by omega)
  refine jT_xlmul (x := 0) (y := 237730330636) (z := 0) (pcN := 24) jIQ_41_23 rfl (by decide) rfl ?_
  refine jT_xladd (x := 108917793695 * p7 + 159561683699 * p8 + 68719476736 * q1) (y := 0) (z := 108917793695 * p7 + 159561683699 * p8 + 68719476736 * q1) (pcN := 25) jIQ_41_24 rfl (by omega) rfl ?_
  refine jT_xlstore_n (v := (1, 108917793695 * p7 + 159561683699 * p8 + 68719476736 * q1)) (LN := [(2, (1, 108917793695 * p7 + 159561683699 * p8 + 68719476736 * q1)), (4, (0, 4)), (0, (4, 0)), (1, (4, 1))]) (pcN := 26) jIQ_41_25 rfl rfl rfl rfl ?_
  refine jT_xiinc (x := 4) (z := 5) (LN := [(4, (0, 5)), (2, (1, 108917793695 * p7 + 159561683699 * p8 + 68719476736 * q1)), (0, (4, 0)), (1, (4, 1))]) (pcN := 29) jIQ_41_26 rfl rfl (by decide) rfl rfl ?_
  refine jT_xgoto (pcN := 5) jIQ_41_29 rfl ?_
  refine jT_xiload (v := (0, 5)) (pcN := 7) jIQ_41_5 rfl rfl rfl ?_
  refine jT_xbipush (k := 6) (pcN := 9) jIQ_41_7 (by decide) rfl ?_
  refine jT_xicF (t := 32) (pcN := 12) jIQ_41_9 rfl (by decide +kernel) rfl rfl ?_
  refine jT_xlload_n (v := (1, 108917793695 * p7 + 159561683699 * p8 + 68719476736 * q1)) (pcN := 13) jIQ_41_12 rfl rfl rfl ?_
  refine jT_xaload_n (v := (4, 1)) (pcN := 14) jIQ_41_13 rfl rfl rfl ?_
  refine jT_xiload (v := (0, 5)) (pcN := 16) jIQ_41_14 rfl rfl rfl ?_
  refine jT_lald (x := 0) (a := 1) (j := 5) (fs := []) (X := [q1, p7, p8, 0, 0, 0]) jIQ_41_16 rfl rfl rfl rfl ?_
  refine jT_eq (LN := [(4, (0, 5)), (2, (1, 108917793695 * p7 + 159561683699 * p8 + 68719476736 * q1)), (0, (4, 0)), (1, (4, 1))]) (stN := [(1, 0), (1, 108917793695 * p7 + 159561683699 * p8 + 68719476736 * q1)]) (hsN := [jgh, (101, [], [q1, p7, p8, 0, 0, 0])]) rfl rfl rfl ?_
  refine jT_adv 1 (pcN := 20) (LN := [(4, (0, 5)), (2, (1, 108917793695 * p7 + 159561683699 * p8 + 68719476736 * q1)), (0, (4, 0)), (1, (4, 1))]) (stN := [(5, 0), (1, 0), (1, 108917793695 * p7 + 159561683699 * p8 + 68719476736 * q1)]) (hsN := [jgh, (101, [], [q1, p7, p8, 0, 0, 0])]) (c1 := 0) (s1 := 0) (c2 := 0) (s2 := 0) (by exact rfl) ?_ (by omega) (by omega)
  refine jT_xiload (v := (0, 5)) (pcN := 22) jIQ_41_20 rfl rfl rfl ?_
  refine jT_adv 1 (pcN := 23) (LN := [(4, (0, 5)), (2, (1, 108917793695 * p7 + 159561683699 * p8 + 68719476736 * q1)), (0, (4, 0)), (1, (4, 1))]) (stN := [(1, 254292281123), (1, 0), (1, 108917793695 * p7 + 159561683699 * p8 + 68719476736 * q1)]) (hsN := [jgh, (101, [], [q1, p7, p8, 0, 0, 0])]) (c1 := 0) (s1 := 0) (c2 := 0) (s2 := 0) (by exact rfl) ?_ (by omega) (by omega)
  refine jT_xlmul (x := 0) (y := 254292281123) (z := 0) (pcN := 24) jIQ_41_23 rfl (by decide) rfl ?_
  refine jT_xladd (x := 108917793695 * p7 + 159561683699 * p8 + 68719476736 * q1) (y := 0) (z := 108917793695 * p7 + 159561683699 * p8 + 68719476736 * q1) (pcN := 25) jIQ_41_24 rfl (by omega) rfl ?_
  refine jT_xlstore_n (v := (1, 108917793695 * p7 + 159561683699 * p8 + 68719476736 * q1)) (LN := [(2, (1, 108917793695 * p7 + 159561683699 * p8 + 68719476736 * q1)), (4, (0, 5)), (0, (4, 0)), (1, (4, 1))]) (pcN := 26) jIQ_41_25 rfl rfl rfl rfl ?_
  refine jT_xiinc (x := 5) (z := 6) (LN := [(4, (0, 6)), (2, (1, 108917793695 * p7 + 159561683699 * p8 + 68719476736 * q1)), (0, (4, 0)), (1, (4, 1))]) (pcN := 29) jIQ_41_26 rfl rfl (by decide) rfl rfl ?_
  refine jT_xgoto (pcN := 5) jIQ_41_29 rfl ?_
  refine jT_xiload (v := (0, 6)) (pcN := 7) jIQ_41_5 rfl rfl rfl ?_
  refine jT_xbipush (k := 6) (pcN := 9) jIQ_41_7 (by decide) rfl ?_
  refine jT_xicT (pcN := 32) jIQ_41_9 rfl (by decide +kernel) rfl ?_
  refine jT_xlload_n (v := (1, 108917793695 * p7 + 159561683699 * p8 + 68719476736 * q1)) (pcN := 33) jIQ_41_32 rfl rfl rfl ?_
  exact jT_ret rfl (by decide) (by show 2 ≤ 2; omega) (by omega) (by omega) ⟨rfl, rfl, rfl⟩
theorem jQ_39_86 {xs : List Int} {d : Nat} {p7 p8 q1 : Int} (h_p7 : (-20) ≤ p7 ∧ p7 ≤ 20) (h_p8 : (-10) ≤ p8 ∧ p8 ≤ 10) (h_q1 : (-60) ≤ q1 ∧ q1 ≤ 60) (g_0 : 0 ≤ (-108917793694) * p7 - 159561683698 * p8 - 68719476736 * q1 - 1) (g_1 : 0 ≤ (-108917793694) * p7 - 159561683700 * p8 - 68719476736 * q1 - 1) (g_2 : 0 ≤ (-108917793696) * p7 - 159561683698 * p8 - 68719476736 * q1 - 1) (g_3 : 0 ≤ (-108917793696) * p7 - 159561683700 * p8 - 68719476736 * q1 - 1) (g_4 : p7 < 0) (g_5 : 0 ≤ p8) : jT xs d 39 2 0 [(0, (4, 0)), (1, (4, 1))] [] [jgh, (101, [], [q1, p7, p8, 0, 0, 0])] 0 0 (fun k v hsN => k = 0 ∧ v = (1, -p7 + p8) ∧ hsN = [jgh, (101, [], [q1, p7, p8, 0, 0, 0])] ++ []) := by
  refine jT_xlconst (z := 0) (pcN := 1) jIQ_39_0 rfl rfl ?_
  refine jT_xlstore_n (v := (1, 0)) (LN := [(2, (1, 0)), (0, (4, 0)), (1, (4, 1))]) (pcN := 2) jIQ_39_1 rfl rfl rfl rfl ?_
  refine jT_xiconst (k := 1) (pcN := 3) jIQ_39_2 rfl ?_
  refine jT_xistore (v := (0, 1)) (LN := [(4, (0, 1)), (2, (1, 0)), (0, (4, 0)), (1, (4, 1))]) (pcN := 5) jIQ_39_3 rfl rfl rfl rfl ?_
  refine jT_xiload (v := (0, 1)) (pcN := 7) jIQ_39_5 rfl rfl rfl ?_
  refine jT_xbipush (k := 6) (pcN := 9) jIQ_39_7 (by decide) rfl ?_
  refine jT_xicF (t := 28) (pcN := 12) jIQ_39_9 rfl (by decide +kernel) rfl rfl ?_
  refine jT_xlload_n (v := (1, 0)) (pcN := 13) jIQ_39_12 rfl rfl rfl ?_
  refine jT_xaload_n (v := (4, 1)) (pcN := 14) jIQ_39_13 rfl rfl rfl ?_
  refine jT_xiload (v := (0, 1)) (pcN := 16) jIQ_39_14 rfl rfl rfl ?_
  refine jT_lald (x := p7) (a := 1) (j := 1) (fs := []) (X := [q1, p7, p8, 0, 0, 0]) jIQ_39_16 rfl rfl rfl rfl ?_
  refine jT_eq (LN := [(4, (0, 1)), (2, (1, 0)), (0, (4, 0)), (1, (4, 1))]) (stN := [(1, p7), (1, 0)]) (hsN := [jgh, (101, [], [q1, p7, p8, 0, 0, 0])]) rfl rfl rfl ?_
  refine jT_labs (z := -p7) (by rfl) (by rfl) (by rfl) (by rfl) (by rw [show jwl (p7) = p7 from jwl_idd (by omega) (by omega), decide_eq_true (by omega)]; first | (simp only [cond_true, cond_false]; done) | (simp only [cond_true, cond_false]; omega) | rfl) ?_
  refine jT_xladd (x := 0) (y := -p7) (z := -p7) (pcN := 21) jIQ_39_20 rfl (by omega) rfl ?_
  refine jT_xlstore_n (v := (1, -p7)) (LN := [(2, (1, -p7)), (4, (0, 1)), (0, (4, 0)), (1, (4, 1))]) (pcN := 22) jIQ_39_21 rfl rfl rfl rfl ?_
  refine jT_xiinc (x := 1) (z := 2) (LN := [(4, (0, 2)), (2, (1, -p7)), (0, (4, 0)), (1, (4, 1))]) (pcN := 25) jIQ_39_22 rfl rfl (by decide) rfl rfl ?_
  refine jT_xgoto (pcN := 5) jIQ_39_25 rfl ?_
  refine jT_xiload (v := (0, 2)) (pcN := 7) jIQ_39_5 rfl rfl rfl ?_
  refine jT_xbipush (k := 6) (pcN := 9) jIQ_39_7 (by decide) rfl ?_
  refine jT_xicF (t := 28) (pcN := 12) jIQ_39_9 rfl (by decide +kernel) rfl rfl ?_
  refine jT_xlload_n (v := (1, -p7)) (pcN := 13) jIQ_39_12 rfl rfl rfl ?_
  refine jT_xaload_n (v := (4, 1)) (pcN := 14) jIQ_39_13 rfl rfl rfl ?_
  refine jT_xiload (v := (0, 2)) (pcN := 16) jIQ_39_14 rfl rfl rfl ?_
  refine jT_lald (x := p8) (a := 1) (j := 2) (fs := []) (X := [q1, p7, p8, 0, 0, 0]) jIQ_39_16 rfl rfl rfl rfl ?_
  refine jT_eq (LN := [(4, (0, 2)), (2, (1, -p7)), (0, (4, 0)), (1, (4, 1))]) (stN := [(1, p8), (1, -p7)]) (hsN := [jgh, (101, [], [q1, p7, p8, 0, 0, 0])]) rfl rfl rfl ?_
  refine jT_labs (z := p8) (by rfl) (by rfl) (by rfl) (by rfl) (by rw [show jwl (p8) = p8 from jwl_idd (by omega) (by omega), decide_eq_false (by omega)]; first | (simp only [cond_true, cond_false]; done) | (simp only [cond_true, cond_false]; omega) | rfl) ?_
  refine jT_xladd (x := -p7) (y := p8) (z := -p7 + p8) (pcN := 21) jIQ_39_20 rfl (by omega) rfl ?_
  refine jT_xlstore_n (v := (1, -p7 + p8)) (LN := [(2, (1, -p7 + p8)), (4, (0, 2)), (0, (4, 0)), (1, (4, 1))]) (pcN := 22) jIQ_39_21 rfl rfl rfl rfl ?_
  refine jT_xiinc (x := 2) (z := 3) (LN := [(4, (0, 3)), (2, (1, -p7 + p8)), (0, (4, 0)), (1, (4, 1))]) (pcN := 25) jIQ_39_22 rfl rfl (by decide) rfl rfl ?_
  refine jT_xgoto (pcN := 5) jIQ_39_25 rfl ?_
  refine jT_xiload (v := (0, 3)) (pcN := 7) jIQ_39_5 rfl rfl rfl ?_
  refine jT_xbipush (k := 6) (pcN := 9) jIQ_39_7 (by decide) rfl ?_
  refine jT_xicF (t := 28) (pcN := 12) jIQ_39_9 rfl (by decide +kernel) rfl rfl ?_
  refine jT_xlload_n (v := (1, -p7 + p8)) (pcN := 13) jIQ_39_12 rfl rfl rfl ?_
  refine jT_xaload_n (v := (4, 1)) (pcN := 14) jIQ_39_13 rfl rfl rfl ?_
  refine jT_xiload (v := (0, 3)) (pcN := 16) jIQ_39_14 rfl rfl rfl ?_
  refine jT_lald (x := 0) (a := 1) (j := 3) (fs := []) (X := [q1, p7, p8, 0, 0, 0]) jIQ_39_16 rfl rfl rfl rfl ?_
  refine jT_eq (LN := [(4, (0, 3)), (2, (1, -p7 + p8)), (0, (4, 0)), (1, (4, 1))]) (stN := [(1, 0), (1, -p7 + p8)]) (hsN := [jgh, (101, [], [q1, p7, p8, 0, 0, 0])]) rfl rfl rfl ?_
  refine jT_labs (z := 0) (by rfl) (by rfl) (by rfl) (by rfl) (by decide +kernel) ?_
  refine jT_xladd (x := -p7 + p8) (y := 0) (z := -p7 + p8) (pcN := 21) jIQ_39_20 rfl (by omega) rfl ?_
  refine jT_xlstore_n (v := (1, -p7 + p8)) (LN := [(2, (1, -p7 + p8)), (4, (0, 3)), (0, (4, 0)), (1, (4, 1))]) (pcN := 22) jIQ_39_21 rfl rfl rfl rfl ?_
  refine jT_xiinc (x := 3) (z := 4) (LN := [(4, (0, 4)), (2, (1, -p7 + p8)), (0, (4, 0)), (1, (4, 1))]) (pcN := 25) jIQ_39_22 rfl rfl (by decide) rfl rfl ?_
  refine jT_xgoto (pcN := 5) jIQ_39_25 rfl ?_
  refine jT_xiload (v := (0, 4)) (pcN := 7) jIQ_39_5 rfl rfl rfl ?_
  refine jT_xbipush (k := 6) (pcN := 9) jIQ_39_7 (by decide) rfl ?_
  refine jT_xicF (t := 28) (pcN := 12) jIQ_39_9 rfl (by decide +kernel) rfl rfl ?_
  refine jT_xlload_n (v := (1, -p7 + p8)) (pcN := 13) jIQ_39_12 rfl rfl rfl ?_
  refine jT_xaload_n (v := (4, 1)) (pcN := 14) jIQ_39_13 rfl rfl rfl ?_
  refine jT_xiload (v := (0, 4)) (pcN := 16) jIQ_39_14 rfl rfl rfl ?_
  refine jT_lald (x := 0) (a := 1) (j := 4) (fs := []) (X := [q1, p7, p8, 0, 0, 0]) jIQ_39_16 rfl rfl rfl rfl ?_
  refine jT_eq (LN := [(4, (0, 4)), (2, (1, -p7 + p8)), (0, (4, 0)), (1, (4, 1))]) (stN := [(1, 0), (1, -p7 + p8)]) (hsN := [jgh, (101, [], [q1, p7, p8, 0, 0, 0])]) rfl rfl rfl ?_
  refine jT_labs (z := 0) (by rfl) (by rfl) (by rfl) (by rfl) (by decide +kernel) ?_
  refine jT_xladd (x := -p7 + p8) (y := 0) (z := -p7 + p8) (pcN := 21) jIQ_39_20 rfl (by omega) rfl ?_
  refine jT_xlstore_n (v := (1, -p7 + p8)) (LN := [(2, (1, -p7 + p8)), (4, (0, 4)), (0, (4, 0)), (1, (4, 1))]) (pcN := 22) jIQ_39_21 rfl rfl rfl rfl ?_
  refine jT_xiinc (x := 4) (z := 5) (LN := [(4, (0, 5)), (2, (1, -p7 + p8)), (0, (4, 0)), (1, (4, 1))]) (pcN := 25) jIQ_39_22 rfl rfl (by decide) rfl rfl ?_
  refine jT_xgoto (pcN := 5) jIQ_39_25 rfl ?_
  refine jT_xiload (v := (0, 5)) (pcN := 7) jIQ_39_5 rfl rfl rfl ?_
  refine jT_xbipush (k := 6) (pcN := 9) jIQ_39_7 (by decide) rfl ?_
  refine jT_xicF (t := 28) (pcN := 12) jIQ_39_9 rfl (by decide +kernel) rfl rfl ?_
  refine jT_xlload_n (v := (1, -p7 + p8)) (pcN := 13) jIQ_39_12 rfl rfl rfl ?_
  refine jT_xaload_n (v := (4, 1)) (pcN := 14) jIQ_39_13 rfl rfl rfl ?_
  refine jT_xiload (v := (0, 5)) (pcN := 16) jIQ_39_14 rfl rfl rfl ?_
  refine jT_lald (x := 0) (a := 1) (j := 5) (fs := []) (X := [q1, p7, p8, 0, 0, 0]) jIQ_39_16 rfl rfl rfl rfl ?_
  refine jT_eq (LN := [(4, (0, 5)), (2, (1, -p7 + p8)), (0, (4, 0)), (1, (4, 1))]) (stN := [(1, 0), (1, -p7 + p8)]) (hsN := [jgh, (101, [], [q1, p7, p8, 0, 0, 0])]) rfl rfl rfl ?_
  refine jT_labs (z := 0) (by rfl) (by rfl) (by rfl) (by rfl) (by decide +kernel) ?_
  refine jT_xladd (x := -p7 + p8) (y := 0) (z := -p7 + p8) (pcN := 21) jIQ_39_20 rfl (by omega) rfl ?_
  refine jT_xlstore_n (v := (1, -p7 + p8)) (LN := [(2, (1, -p7 + p8)), (4, (0, 5)), (0, (4, 0)), (1, (4, 1))]) (pcN := 22) jIQ_39_21 rfl rfl rfl rfl ?_
  refine jT_xiinc (x := 5) (z := 6) (LN := [(4, (0, 6)), (2, (1, -p7 + p8)), (0, (4, 0)), (1, (4, 1))]) (pcN := 25) jIQ_39_22 rfl rfl (by decide) rfl rfl ?_
  refine jT_xgoto (pcN := 5) jIQ_39_25 rfl ?_
  refine jT_xiload (v := (0, 6)) (pcN := 7) jIQ_39_5 rfl rfl rfl ?_
  refine jT_xbipush (k := 6) (pcN := 9) jIQ_39_7 (by decide) rfl ?_
  refine jT_xicT (pcN := 28) jIQ_39_9 rfl (by decide +kernel) rfl ?_
  refine jT_xlload_n (v := (1, -p7 + p8)) (pcN := 29) jIQ_39_28 rfl rfl rfl ?_
  exact jT_ret rfl (by decide) (by show 2 ≤ 2; omega) (by omega) (by omega) ⟨rfl, rfl, rfl⟩
theorem jQ_39_87 {xs : List Int} {d : Nat} {p7 p8 q1 : Int} (h_p7 : (-20) ≤ p7 ∧ p7 ≤ 20) (h_p8 : (-10) ≤ p8 ∧ p8 ≤ 10) (h_q1 : (-60) ≤ q1 ∧ q1 ≤ 60) (g_0 : 0 ≤ (-108917793694) * p7 - 159561683698 * p8 - 68719476736 * q1 - 1) (g_1 : 0 ≤ (-108917793694) * p7 - 159561683700 * p8 - 68719476736 * q1 - 1) (g_2 : 0 ≤ (-108917793696) * p7 - 159561683698 * p8 - 68719476736 * q1 - 1) (g_3 : 0 ≤ (-108917793696) * p7 - 159561683700 * p8 - 68719476736 * q1 - 1) (g_4 : p7 < 0) (g_5 : 0 ≤ p8) (g_6 : q1 < 0) : jT xs d 39 2 0 [(0, (4, 0)), (1, (4, 1))] [] [jgh, (101, [], [q1, p7, p8, 0, 0, 0])] 0 0 (fun k v hsN => k = 0 ∧ v = (1, -p7 + p8) ∧ hsN = [jgh, (101, [], [q1, p7, p8, 0, 0, 0])] ++ []) := by
  refine jT_xlconst (z := 0) (pcN := 1) jIQ_39_0 rfl rfl ?_
  refine jT_xlstore_n (v := (1, 0)) (LN := [(2, (1, 0)), (0, (4, 0)), (1, (4, 1))]) (pcN := 2) jIQ_39_1 rfl rfl rfl rfl ?_
  refine jT_xiconst (k := 1) (pcN := 3) jIQ_39_2 rfl ?_
  refine jT_xistore (v := (0, 1)) (LN := [(4, (0, 1)), (2, (1, 0)), (0, (4, 0)), (1, (4, 1))]) (pcN := 5) jIQ_39_3 rfl rfl rfl rfl ?_
  refine jT_xiload (v := (0, 1)) (pcN := 7) jIQ_39_5 rfl rfl rfl ?_
  refine jT_xbipush (k := 6) (pcN := 9) jIQ_39_7 (by decide) rfl ?_
  refine jT_xicF (t := 28) (pcN := 12) jIQ_39_9 rfl (by decide +kernel) rfl rfl ?_
  refine jT_xlload_n (v := (1, 0)) (pcN := 13) jIQ_39_12 rfl rfl rfl ?_
  refine jT_xaload_n (v := (4, 1)) (pcN := 14) jIQ_39_13 rfl rfl rfl ?_
  refine jT_xiload (v := (0, 1)) (pcN := 16) jIQ_39_14 rfl rfl rfl ?_
  refine jT_lald (x := p7) (a := 1) (j := 1) (fs := []) (X := [q1, p7, p8, 0, 0, 0]) jIQ_39_16 rfl rfl rfl rfl ?_
  refine jT_eq (LN := [(4, (0, 1)), (2, (1, 0)), (0, (4, 0)), (1, (4, 1))]) (stN := [(1, p7), (1, 0)]) (hsN := [jgh, (101, [], [q1, p7, p8, 0, 0, 0])]) rfl rfl rfl ?_
  refine jT_labs (z := -p7) (by rfl) (by rfl) (by rfl) (by rfl) (by rw [show jwl (p7) = p7 from jwl_idd (by omega) (by omega), decide_eq_true (by omega)]; first | (simp only [cond_true, cond_false]; done) | (simp only [cond_true, cond_false]; omega) | rfl) ?_
  refine jT_xladd (x := 0) (y := -p7) (z := -p7) (pcN := 21) jIQ_39_20 rfl (by omega) rfl ?_
  refine jT_xlstore_n (v := (1, -p7)) (LN := [(2, (1, -p7)), (4, (0, 1)), (0, (4, 0)), (1, (4, 1))]) (pcN := 22) jIQ_39_21 rfl rfl rfl rfl ?_
  refine jT_xiinc (x := 1) (z := 2) (LN := [(4, (0, 2)), (2, (1, -p7)), (0, (4, 0)), (1, (4, 1))]) (pcN := 25) jIQ_39_22 rfl rfl (by decide) rfl rfl ?_
  refine jT_xgoto (pcN := 5) jIQ_39_25 rfl ?_
  refine jT_xiload (v := (0, 2)) (pcN := 7) jIQ_39_5 rfl rfl rfl ?_
  refine jT_xbipush (k := 6) (pcN := 9) jIQ_39_7 (by decide) rfl ?_
  refine jT_xicF (t := 28) (pcN := 12) jIQ_39_9 rfl (by decide +kernel) rfl rfl ?_
  refine jT_xlload_n (v := (1, -p7)) (pcN := 13) jIQ_39_12 rfl rfl rfl ?_
  refine jT_xaload_n (v := (4, 1)) (pcN := 14) jIQ_39_13 rfl rfl rfl ?_
  refine jT_xiload (v := (0, 2)) (pcN := 16) jIQ_39_14 rfl rfl rfl ?_
  refine jT_lald (x := p8) (a := 1) (j := 2) (fs := []) (X := [q1, p7, p8, 0, 0, 0]) jIQ_39_16 rfl rfl rfl rfl ?_
  refine jT_eq (LN := [(4, (0, 2)), (2, (1, -p7)), (0, (4, 0)), (1, (4, 1))]) (stN := [(1, p8), (1, -p7)]) (hsN := [jgh, (101, [], [q1, p7, p8, 0, 0, 0])]) rfl rfl rfl ?_
  refine jT_labs (z := p8) (by rfl) (by rfl) (by rfl) (by rfl) (by rw [show jwl (p8) = p8 from jwl_idd (by omega) (by omega), decide_eq_false (by omega)]; first | (simp only [cond_true, cond_false]; done) | (simp only [cond_true, cond_false]; omega) | rfl) ?_
  refine jT_xladd (x := -p7) (y := p8) (z := -p7 + p8) (pcN := 21) jIQ_39_20 rfl (by omega) rfl ?_
  refine jT_xlstore_n (v := (1, -p7 + p8)) (LN := [(2, (1, -p7 + p8)), (4, (0, 2)), (0, (4, 0)), (1, (4, 1))]) (pcN := 22) jIQ_39_21 rfl rfl rfl rfl ?_
  refine jT_xiinc (x := 2) (z := 3) (LN := [(4, (0, 3)), (2, (1, -p7 + p8)), (0, (4, 0)), (1, (4, 1))]) (pcN := 25) jIQ_39_22 rfl rfl (by decide) rfl rfl ?_
  refine jT_xgoto (pcN := 5) jIQ_39_25 rfl ?_
  refine jT_xiload (v := (0, 3)) (pcN := 7) jIQ_39_5 rfl rfl rfl ?_
  refine jT_xbipush (k := 6) (pcN := 9) jIQ_39_7 (by decide) rfl ?_
  refine jT_xicF (t := 28) (pcN := 12) jIQ_39_9 rfl (by decide +kernel) rfl rfl ?_
  refine jT_xlload_n (v := (1, -p7 + p8)) (pcN := 13) jIQ_39_12 rfl rfl rfl ?_
  refine jT_xaload_n (v := (4, 1)) (pcN := 14) jIQ_39_13 rfl rfl rfl ?_
  refine jT_xiload (v := (0, 3)) (pcN := 16) jIQ_39_14 rfl rfl rfl ?_
  refine jT_lald (x := 0) (a := 1) (j := 3) (fs := []) (X := [q1, p7, p8, 0, 0, 0]) jIQ_39_16 rfl rfl rfl rfl ?_
  refine jT_eq (LN := [(4, (0, 3)), (2, (1, -p7 + p8)), (0, (4, 0)), (1, (4, 1))]) (stN := [(1, 0), (1, -p7 + p8)]) (hsN := [jgh, (101, [], [q1, p7, p8, 0, 0, 0])]) rfl rfl rfl ?_
  refine jT_labs (z := 0) (by rfl) (by rfl) (by rfl) (by rfl) (by decide +kernel) ?_
  refine jT_xladd (x := -p7 + p8) (y := 0) (z := -p7 + p8) (pcN := 21) jIQ_39_20 rfl (by omega) rfl ?_
  refine jT_xlstore_n (v := (1, -p7 + p8)) (LN := [(2, (1, -p7 + p8)), (4, (0, 3)), (0, (4, 0)), (1, (4, 1))]) (pcN := 22) jIQ_39_21 rfl rfl rfl rfl ?_
  refine jT_xiinc (x := 3) (z := 4) (LN := [(4, (0, 4)), (2, (1, -p7 + p8)), (0, (4, 0)), (1, (4, 1))]) (pcN := 25) jIQ_39_22 rfl rfl (by decide) rfl rfl ?_
  refine jT_xgoto (pcN := 5) jIQ_39_25 rfl ?_
  refine jT_xiload (v := (0, 4)) (pcN := 7) jIQ_39_5 rfl rfl rfl ?_
  refine jT_xbipush (k := 6) (pcN := 9) jIQ_39_7 (by decide) rfl ?_
  refine jT_xicF (t := 28) (pcN := 12) jIQ_39_9 rfl (by decide +kernel) rfl rfl ?_
  refine jT_xlload_n (v := (1, -p7 + p8)) (pcN := 13) jIQ_39_12 rfl rfl rfl ?_
  refine jT_xaload_n (v := (4, 1)) (pcN := 14) jIQ_39_13 rfl rfl rfl ?_
  refine jT_xiload (v := (0, 4)) (pcN := 16) jIQ_39_14 rfl rfl rfl ?_
  refine jT_lald (x := 0) (a := 1) (j := 4) (fs := []) (X := [q1, p7, p8, 0, 0, 0]) jIQ_39_16 rfl rfl rfl rfl ?_
  refine jT_eq (LN := [(4, (0, 4)), (2, (1, -p7 + p8)), (0, (4, 0)), (1, (4, 1))]) (stN := [(1, 0), (1, -p7 + p8)]) (hsN := [jgh, (101, [], [q1, p7, p8, 0, 0, 0])]) rfl rfl rfl ?_
  refine jT_labs (z := 0) (by rfl) (by rfl) (by rfl) (by rfl) (by decide +kernel) ?_
  refine jT_xladd (x := -p7 + p8) (y := 0) (z := -p7 + p8) (pcN := 21) jIQ_39_20 rfl (by omega) rfl ?_
  refine jT_xlstore_n (v := (1, -p7 + p8)) (LN := [(2, (1, -p7 + p8)), (4, (0, 4)), (0, (4, 0)), (1, (4, 1))]) (pcN := 22) jIQ_39_21 rfl rfl rfl rfl ?_
  refine jT_xiinc (x := 4) (z := 5) (LN := [(4, (0, 5)), (2, (1, -p7 + p8)), (0, (4, 0)), (1, (4, 1))]) (pcN := 25) jIQ_39_22 rfl rfl (by decide) rfl rfl ?_
  refine jT_xgoto (pcN := 5) jIQ_39_25 rfl ?_
  refine jT_xiload (v := (0, 5)) (pcN := 7) jIQ_39_5 rfl rfl rfl ?_
  refine jT_xbipush (k := 6) (pcN := 9) jIQ_39_7 (by decide) rfl ?_
  refine jT_xicF (t := 28) (pcN := 12) jIQ_39_9 rfl (by decide +kernel) rfl rfl ?_
  refine jT_xlload_n (v := (1, -p7 + p8)) (pcN := 13) jIQ_39_12 rfl rfl rfl ?_
  refine jT_xaload_n (v := (4, 1)) (pcN := 14) jIQ_39_13 rfl rfl rfl ?_
  refine jT_xiload (v := (0, 5)) (pcN := 16) jIQ_39_14 rfl rfl rfl ?_
  refine jT_lald (x := 0) (a := 1) (j := 5) (fs := []) (X := [q1, p7, p8, 0, 0, 0]) jIQ_39_16 rfl rfl rfl rfl ?_
  refine jT_eq (LN := [(4, (0, 5)), (2, (1, -p7 + p8)), (0, (4, 0)), (1, (4, 1))]) (stN := [(1, 0), (1, -p7 + p8)]) (hsN := [jgh, (101, [], [q1, p7, p8, 0, 0, 0])]) rfl rfl rfl ?_
  refine jT_labs (z := 0) (by rfl) (by rfl) (by rfl) (by rfl) (by decide +kernel) ?_
  refine jT_xladd (x := -p7 + p8) (y := 0) (z := -p7 + p8) (pcN := 21) jIQ_39_20 rfl (by omega) rfl ?_
  refine jT_xlstore_n (v := (1, -p7 + p8)) (LN := [(2, (1, -p7 + p8)), (4, (0, 5)), (0, (4, 0)), (1, (4, 1))]) (pcN := 22) jIQ_39_21 rfl rfl rfl rfl ?_
  refine jT_xiinc (x := 5) (z := 6) (LN := [(4, (0, 6)), (2, (1, -p7 + p8)), (0, (4, 0)), (1, (4, 1))]) (pcN := 25) jIQ_39_22 rfl rfl (by decide) rfl rfl ?_
  refine jT_xgoto (pcN := 5) jIQ_39_25 rfl ?_
  refine jT_xiload (v := (0, 6)) (pcN := 7) jIQ_39_5 rfl rfl rfl ?_
  refine jT_xbipush (k := 6) (pcN := 9) jIQ_39_7 (by decide) rfl ?_
  refine jT_xicT (pcN := 28) jIQ_39_9 rfl (by decide +kernel) rfl ?_
  refine jT_xlload_n (v := (1, -p7 + p8)) (pcN := 29) jIQ_39_28 rfl rfl rfl ?_
  exact jT_ret rfl (by decide) (by show 2 ≤ 2; omega) (by omega) (by omega) ⟨rfl, rfl, rfl⟩
theorem jQ_40_88 {xs : List Int} {d : Nat} {p7 p8 q1 : Int} (h_p7 : (-20) ≤ p7 ∧ p7 ≤ 20) (h_p8 : (-10) ≤ p8 ∧ p8 ≤ 10) (h_q1 : (-60) ≤ q1 ∧ q1 ≤ 60) (g_0 : 0 ≤ (-108917793694) * p7 - 159561683698 * p8 - 68719476736 * q1 - 1) (g_1 : 0 ≤ (-108917793694) * p7 - 159561683700 * p8 - 68719476736 * q1 - 1) (g_2 : 0 ≤ (-108917793696) * p7 - 159561683698 * p8 - 68719476736 * q1 - 1) (g_3 : 0 ≤ (-108917793696) * p7 - 159561683700 * p8 - 68719476736 * q1 - 1) (g_4 : p7 < 0) (g_5 : 0 ≤ p8) (g_6 : q1 < 0) : jT xs d 40 2 0 [(0, (4, 0)), (1, (4, 1)), (2, (1, -p7 + p8))] [] [jgh, (101, [], [q1, p7, p8, 0, 0, 0])] 0 0 (fun k v hsN => k = 0 ∧ v = (0, 1) ∧ hsN = [jgh, (101, [], [q1, p7, p8, 0, 0, 0])] ++ []) := by
  refine jT_xlload_n (v := (1, -p7 + p8)) (pcN := 1) jIQ_40_0 rfl rfl rfl ?_
  refine jT_adv 1 (pcN := 4) (LN := [(0, (4, 0)), (1, (4, 1)), (2, (1, -p7 + p8))]) (stN := [(1, 16777216), (1, -p7 + p8)]) (hsN := [jgh, (101, [], [q1, p7, p8, 0, 0, 0])]) (c1 := 0) (s1 := 0) (c2 := 0) (s2 := 0) (by exact rfl) ?_ (by omega) (by omega)
  refine jT_lcmp (a := -p7 + p8) (b := 16777216) (z := (-1)) (by rfl) (by rfl) (jwl_idd (by omega) (by omega)) (jwl_idd (by omega) (by omega)) (by rw [decide_eq_false (show ¬ ((16777216 : Int) < -p7 + p8) by omega), decide_eq_false (show ¬ ((-p7 + p8 : Int) = 16777216) by omega)]; rfl) ?_
  refine jT_xifF (t := 25) (pcN := 8) jIQ_40_5 rfl (by decide +kernel) rfl rfl ?_
  refine jT_xaload_n (v := (4, 1)) (pcN := 9) jIQ_40_8 rfl rfl rfl ?_
  refine jT_xiconst (k := 0) (pcN := 10) jIQ_40_9 rfl ?_
  refine jT_lald (x := q1) (a := 1) (j := 0) (fs := []) (X := [q1, p7, p8, 0, 0, 0]) jIQ_40_10 rfl rfl rfl rfl ?_
  refine jT_eq (LN := [(0, (4, 0)), (1, (4, 1)), (2, (1, -p7 + p8))]) (stN := [(1, q1)]) (hsN := [jgh, (101, [], [q1, p7, p8, 0, 0, 0])]) rfl rfl rfl ?_
  refine jT_labs (z := -q1) (by rfl) (by rfl) (by rfl) (by rfl) (by rw [show jwl (q1) = q1 from jwl_idd (by omega) (by omega), decide_eq_true (by omega)]; first | (simp only [cond_true, cond_false]; done) | (simp only [cond_true, cond_false]; omega) | rfl) ?_
  refine jT_adv 1 (pcN := 17) (LN := [(0, (4, 0)), (1, (4, 1)), (2, (1, -p7 + p8))]) (stN := [(1, 16777216), (1, -q1)]) (hsN := [jgh, (101, [], [q1, p7, p8, 0, 0, 0])]) (c1 := 0) (s1 := 0) (c2 := 0) (s2 := 0) (by exact rfl) ?_ (by omega) (by omega)
  refine jT_lcmp (a := -q1) (b := 16777216) (z := (-1)) (by rfl) (by rfl) (jwl_idd (by omega) (by omega)) (jwl_idd (by omega) (by omega)) (by rw [decide_eq_false (show ¬ ((16777216 : Int) < -q1) by omega), decide_eq_false (show ¬ ((-q1 : Int) = 16777216) by omega)]; rfl) ?_
  refine jT_xifF (t := 25) (pcN := 21) jIQ_40_18 rfl (by decide +kernel) rfl rfl ?_
  refine jT_xiconst (k := 1) (pcN := 22) jIQ_40_21 rfl ?_
  refine jT_xgoto (pcN := 26) jIQ_40_22 rfl ?_
  exact jT_ret rfl (by decide) (by show 2 ≤ 2; omega) (by omega) (by omega) ⟨rfl, rfl, rfl⟩
theorem jQ_41_89 {xs : List Int} {d : Nat} {p7 p8 q1 : Int} (h_p7 : (-20) ≤ p7 ∧ p7 ≤ 20) (h_p8 : (-10) ≤ p8 ∧ p8 ≤ 10) (h_q1 : (-60) ≤ q1 ∧ q1 ≤ 60) (g_0 : 0 ≤ (-108917793694) * p7 - 159561683698 * p8 - 68719476736 * q1 - 1) (g_1 : 0 ≤ (-108917793694) * p7 - 159561683700 * p8 - 68719476736 * q1 - 1) (g_2 : 0 ≤ (-108917793696) * p7 - 159561683698 * p8 - 68719476736 * q1 - 1) (g_3 : 0 ≤ (-108917793696) * p7 - 159561683700 * p8 - 68719476736 * q1 - 1) (g_4 : p7 < 0) (g_5 : 0 ≤ p8) (g_6 : q1 < 0) : jT xs d 41 2 0 [(0, (4, 0)), (1, (4, 1))] [] [jgh, (101, [], [q1, p7, p8, 0, 0, 0])] 0 0 (fun k v hsN => k = 0 ∧ v = (1, 108917793695 * p7 + 159561683699 * p8 + 68719476736 * q1) ∧ hsN = [jgh, (101, [], [q1, p7, p8, 0, 0, 0])] ++ []) := by
  refine jT_xlconst (z := 0) (pcN := 1) jIQ_41_0 rfl rfl ?_
  refine jT_xlstore_n (v := (1, 0)) (LN := [(2, (1, 0)), (0, (4, 0)), (1, (4, 1))]) (pcN := 2) jIQ_41_1 rfl rfl rfl rfl ?_
  refine jT_xiconst (k := 0) (pcN := 3) jIQ_41_2 rfl ?_
  refine jT_xistore (v := (0, 0)) (LN := [(4, (0, 0)), (2, (1, 0)), (0, (4, 0)), (1, (4, 1))]) (pcN := 5) jIQ_41_3 rfl rfl rfl rfl ?_
  refine jT_xiload (v := (0, 0)) (pcN := 7) jIQ_41_5 rfl rfl rfl ?_
  refine jT_xbipush (k := 6) (pcN := 9) jIQ_41_7 (by decide) rfl ?_
  refine jT_xicF (t := 32) (pcN := 12) jIQ_41_9 rfl (by decide +kernel) rfl rfl ?_
  refine jT_xlload_n (v := (1, 0)) (pcN := 13) jIQ_41_12 rfl rfl rfl ?_
  refine jT_xaload_n (v := (4, 1)) (pcN := 14) jIQ_41_13 rfl rfl rfl ?_
  refine jT_xiload (v := (0, 0)) (pcN := 16) jIQ_41_14 rfl rfl rfl ?_
  refine jT_lald (x := q1) (a := 1) (j := 0) (fs := []) (X := [q1, p7, p8, 0, 0, 0]) jIQ_41_16 rfl rfl rfl rfl ?_
  refine jT_eq (LN := [(4, (0, 0)), (2, (1, 0)), (0, (4, 0)), (1, (4, 1))]) (stN := [(1, q1), (1, 0)]) (hsN := [jgh, (101, [], [q1, p7, p8, 0, 0, 0])]) rfl rfl rfl ?_
  refine jT_adv 1 (pcN := 20) (LN := [(4, (0, 0)), (2, (1, 0)), (0, (4, 0)), (1, (4, 1))]) (stN := [(5, 0), (1, q1), (1, 0)]) (hsN := [jgh, (101, [], [q1, p7, p8, 0, 0, 0])]) (c1 := 0) (s1 := 0) (c2 := 0) (s2 := 0) (by exact rfl) ?_ (by omega) (by omega)
  refine jT_xiload (v := (0, 0)) (pcN := 22) jIQ_41_20 rfl rfl rfl ?_
  refine jT_adv 1 (pcN := 23) (LN := [(4, (0, 0)), (2, (1, 0)), (0, (4, 0)), (1, (4, 1))]) (stN := [(1, 68719476736), (1, q1), (1, 0)]) (hsN := [jgh, (101, [], [q1, p7, p8, 0, 0, 0])]) (c1 := 0) (s1 := 0) (c2 := 0) (s2 := 0) (by exact rfl) ?_ (by omega) (by omega)
  refine jT_xlmul (x := q1) (y := 68719476736) (z := 68719476736 * q1) (pcN := 24) jIQ_41_23 rfl (by omega) rfl ?_
  refine jT_xladd (x := 0) (y := 68719476736 * q1) (z := 68719476736 * q1) (pcN := 25) jIQ_41_24 rfl (by omega) rfl ?_
  refine jT_xlstore_n (v := (1, 68719476736 * q1)) (LN := [(2, (1, 68719476736 * q1)), (4, (0, 0)), (0, (4, 0)), (1, (4, 1))]) (pcN := 26) jIQ_41_25 rfl rfl rfl rfl ?_
  refine jT_xiinc (x := 0) (z := 1) (LN := [(4, (0, 1)), (2, (1, 68719476736 * q1)), (0, (4, 0)), (1, (4, 1))]) (pcN := 29) jIQ_41_26 rfl rfl (by decide) rfl rfl ?_
  refine jT_xgoto (pcN := 5) jIQ_41_29 rfl ?_
  refine jT_xiload (v := (0, 1)) (pcN := 7) jIQ_41_5 rfl rfl rfl ?_
  refine jT_xbipush (k := 6) (pcN := 9) jIQ_41_7 (by decide) rfl ?_
  refine jT_xicF (t := 32) (pcN := 12) jIQ_41_9 rfl (by decide +kernel) rfl rfl ?_
  refine jT_xlload_n (v := (1, 68719476736 * q1)) (pcN := 13) jIQ_41_12 rfl rfl rfl ?_
  refine jT_xaload_n (v := (4, 1)) (pcN := 14) jIQ_41_13 rfl rfl rfl ?_
  refine jT_xiload (v := (0, 1)) (pcN := 16) jIQ_41_14 rfl rfl rfl ?_
  refine jT_lald (x := p7) (a := 1) (j := 1) (fs := []) (X := [q1, p7, p8, 0, 0, 0]) jIQ_41_16 rfl rfl rfl rfl ?_
  refine jT_eq (LN := [(4, (0, 1)), (2, (1, 68719476736 * q1)), (0, (4, 0)), (1, (4, 1))]) (stN := [(1, p7), (1, 68719476736 * q1)]) (hsN := [jgh, (101, [], [q1, p7, p8, 0, 0, 0])]) rfl rfl rfl ?_
  refine jT_adv 1 (pcN := 20) (LN := [(4, (0, 1)), (2, (1, 68719476736 * q1)), (0, (4, 0)), (1, (4, 1))]) (stN := [(5, 0), (1, p7), (1, 68719476736 * q1)]) (hsN := [jgh, (101, [], [q1, p7, p8, 0, 0, 0])]) (c1 := 0) (s1 := 0) (c2 := 0) (s2 := 0) (by exact rfl) ?_ (by omega) (by omega)
  refine jT_xiload (v := (0, 1)) (pcN := 22) jIQ_41_20 rfl rfl rfl ?_
  refine jT_adv 1 (pcN := 23) (LN := [(4, (0, 1)), (2, (1, 68719476736 * q1)), (0, (4, 0)), (1, (4, 1))]) (stN := [(1, 108917793695), (1, p7), (1, 68719476736 * q1)]) (hsN := [jgh, (101, [], [q1, p7, p8, 0, 0, 0])]) (c1 := 0) (s1 := 0) (c2 := 0) (s2 := 0) (by exact rfl) ?_ (by omega) (by omega)
  refine jT_xlmul (x := p7) (y := 108917793695) (z := 108917793695 * p7) (pcN := 24) jIQ_41_23 rfl (by omega) rfl ?_
  refine jT_xladd (x := 68719476736 * q1) (y := 108917793695 * p7) (z := 108917793695 * p7 + 68719476736 * q1) (pcN := 25) jIQ_41_24 rfl (by omega) rfl ?_
  refine jT_xlstore_n (v := (1, 108917793695 * p7 + 68719476736 * q1)) (LN := [(2, (1, 108917793695 * p7 + 68719476736 * q1)), (4, (0, 1)), (0, (4, 0)), (1, (4, 1))]) (pcN := 26) jIQ_41_25 rfl rfl rfl rfl ?_
  refine jT_xiinc (x := 1) (z := 2) (LN := [(4, (0, 2)), (2, (1, 108917793695 * p7 + 68719476736 * q1)), (0, (4, 0)), (1, (4, 1))]) (pcN := 29) jIQ_41_26 rfl rfl (by decide) rfl rfl ?_
  refine jT_xgoto (pcN := 5) jIQ_41_29 rfl ?_
  refine jT_xiload (v := (0, 2)) (pcN := 7) jIQ_41_5 rfl rfl rfl ?_
  refine jT_xbipush (k := 6) (pcN := 9) jIQ_41_7 (by decide) rfl ?_
  refine jT_xicF (t := 32) (pcN := 12) jIQ_41_9 rfl (by decide +kernel) rfl rfl ?_
  refine jT_xlload_n (v := (1, 108917793695 * p7 + 68719476736 * q1)) (pcN := 13) jIQ_41_12 rfl rfl rfl ?_
  refine jT_xaload_n (v := (4, 1)) (pcN := 14) jIQ_41_13 rfl rfl rfl ?_
  refine jT_xiload (v := (0, 2)) (pcN := 16) jIQ_41_14 rfl rfl rfl ?_
  refine jT_lald (x := p8) (a := 1) (j := 2) (fs := []) (X := [q1, p7, p8, 0, 0, 0]) jIQ_41_16 rfl rfl rfl rfl ?_
  refine jT_eq (LN := [(4, (0, 2)), (2, (1, 108917793695 * p7 + 68719476736 * q1)), (0, (4, 0)), (1, (4, 1))]) (stN := [(1, p8), (1, 108917793695 * p7 + 68719476736 * q1)]) (hsN := [jgh, (101, [], [q1, p7, p8, 0, 0, 0])]) rfl rfl rfl ?_
  refine jT_adv 1 (pcN := 20) (LN := [(4, (0, 2)), (2, (1, 108917793695 * p7 + 68719476736 * q1)), (0, (4, 0)), (1, (4, 1))]) (stN := [(5, 0), (1, p8), (1, 108917793695 * p7 + 68719476736 * q1)]) (hsN := [jgh, (101, [], [q1, p7, p8, 0, 0, 0])]) (c1 := 0) (s1 := 0) (c2 := 0) (s2 := 0) (by exact rfl) ?_ (by omega) (by omega)
  refine jT_xiload (v := (0, 2)) (pcN := 22) jIQ_41_20 rfl rfl rfl ?_
  refine jT_adv 1 (pcN := 23) (LN := [(4, (0, 2)), (2, (1, 108917793695 * p7 + 68719476736 * q1)), (0, (4, 0)), (1, (4, 1))]) (stN := [(1, 159561683699), (1, p8), (1, 108917793695 * p7 + 68719476736 * q1)]) (hsN := [jgh, (101, [], [q1, p7, p8, 0, 0, 0])]) (c1 := 0) (s1 := 0) (c2 := 0) (s2 := 0) (by exact rfl) ?_ (by omega) (by omega)
  refine jT_xlmul (x := p8) (y := 159561683699) (z := 159561683699 * p8) (pcN := 24) jIQ_41_23 rfl (by omega) rfl ?_
  refine jT_xladd (x := 108917793695 * p7 + 68719476736 * q1) (y := 159561683699 * p8) (z := 108917793695 * p7 + 159561683699 * p8 + 68719476736 * q1) (pcN := 25) jIQ_41_24 rfl (by omega) rfl ?_
  refine jT_xlstore_n (v := (1, 108917793695 * p7 + 159561683699 * p8 + 68719476736 * q1)) (LN := [(2, (1, 108917793695 * p7 + 159561683699 * p8 + 68719476736 * q1)), (4, (0, 2)), (0, (4, 0)), (1, (4, 1))]) (pcN := 26) jIQ_41_25 rfl rfl rfl rfl ?_
  refine jT_xiinc (x := 2) (z := 3) (LN := [(4, (0, 3)), (2, (1, 108917793695 * p7 + 159561683699 * p8 + 68719476736 * q1)), (0, (4, 0)), (1, (4, 1))]) (pcN := 29) jIQ_41_26 rfl rfl (by decide) rfl rfl ?_
  refine jT_xgoto (pcN := 5) jIQ_41_29 rfl ?_
  refine jT_xiload (v := (0, 3)) (pcN := 7) jIQ_41_5 rfl rfl rfl ?_
  refine jT_xbipush (k := 6) (pcN := 9) jIQ_41_7 (by decide) rfl ?_
  refine jT_xicF (t := 32) (pcN := 12) jIQ_41_9 rfl (by decide +kernel) rfl rfl ?_
  refine jT_xlload_n (v := (1, 108917793695 * p7 + 159561683699 * p8 + 68719476736 * q1)) (pcN := 13) jIQ_41_12 rfl rfl rfl ?_
  refine jT_xaload_n (v := (4, 1)) (pcN := 14) jIQ_41_13 rfl rfl rfl ?_
  refine jT_xiload (v := (0, 3)) (pcN := 16) jIQ_41_14 rfl rfl rfl ?_
  refine jT_lald (x := 0) (a := 1) (j := 3) (fs := []) (X := [q1, p7, p8, 0, 0, 0]) jIQ_41_16 rfl rfl rfl rfl ?_
  refine jT_eq (LN := [(4, (0, 3)), (2, (1, 108917793695 * p7 + 159561683699 * p8 + 68719476736 * q1)), (0, (4, 0)), (1, (4, 1))]) (stN := [(1, 0), (1, 108917793695 * p7 + 159561683699 * p8 + 68719476736 * q1)]) (hsN := [jgh, (101, [], [q1, p7, p8, 0, 0, 0])]) rfl rfl rfl ?_
  refine jT_adv 1 (pcN := 20) (LN := [(4, (0, 3)), (2, (1, 108917793695 * p7 + 159561683699 * p8 + 68719476736 * q1)), (0, (4, 0)), (1, (4, 1))]) (stN := [(5, 0), (1, 0), (1, 108917793695 * p7 + 159561683699 * p8 + 68719476736 * q1)]) (hsN := [jgh, (101, [], [q1, p7, p8, 0, 0, 0])]) (c1 := 0) (s1 := 0) (c2 := 0) (s2 := 0) (by exact rfl) ?_ (by omega) (by omega)
  refine jT_xiload (v := (0, 3)) (pcN := 22) jIQ_41_20 rfl rfl rfl ?_
  refine jT_adv 1 (pcN := 23) (LN := [(4, (0, 3)), (2, (1, 108917793695 * p7 + 159561683699 * p8 + 68719476736 * q1)), (0, (4, 0)), (1, (4, 1))]) (stN := [(1, 192919961256), (1, 0), (1, 108917793695 * p7 + 159561683699 * p8 + 68719476736 * q1)]) (hsN := [jgh, (101, [], [q1, p7, p8, 0, 0, 0])]) (c1 := 0) (s1 := 0) (c2 := 0) (s2 := 0) (by exact rfl) ?_ (by omega) (by omega)
  refine jT_xlmul (x := 0) (y := 192919961256) (z := 0) (pcN := 24) jIQ_41_23 rfl (by decide) rfl ?_
  refine jT_xladd (x := 108917793695 * p7 + 159561683699 * p8 + 68719476736 * q1) (y := 0) (z := 108917793695 * p7 + 159561683699 * p8 + 68719476736 * q1) (pcN := 25) jIQ_41_24 rfl (by omega) rfl ?_
  refine jT_xlstore_n (v := (1, 108917793695 * p7 + 159561683699 * p8 + 68719476736 * q1)) (LN := [(2, (1, 108917793695 * p7 + 159561683699 * p8 + 68719476736 * q1)), (4, (0, 3)), (0, (4, 0)), (1, (4, 1))]) (pcN := 26) jIQ_41_25 rfl rfl rfl rfl ?_
  refine jT_xiinc (x := 3) (z := 4) (LN := [(4, (0, 4)), (2, (1, 108917793695 * p7 + 159561683699 * p8 + 68719476736 * q1)), (0, (4, 0)), (1, (4, 1))]) (pcN := 29) jIQ_41_26 rfl rfl (by decide) rfl rfl ?_
  refine jT_xgoto (pcN := 5) jIQ_41_29 rfl ?_
  refine jT_xiload (v := (0, 4)) (pcN := 7) jIQ_41_5 rfl rfl rfl ?_
  refine jT_xbipush (k := 6) (pcN := 9) jIQ_41_7 (by decide) rfl ?_
  refine jT_xicF (t := 32) (pcN := 12) jIQ_41_9 rfl (by decide +kernel) rfl rfl ?_
  refine jT_xlload_n (v := (1, 108917793695 * p7 + 159561683699 * p8 + 68719476736 * q1)) (pcN := 13) jIQ_41_12 rfl rfl rfl ?_
  refine jT_xaload_n (v := (4, 1)) (pcN := 14) jIQ_41_13 rfl rfl rfl ?_
  refine jT_xiload (v := (0, 4)) (pcN := 16) jIQ_41_14 rfl rfl rfl ?_
  refine jT_lald (x := 0) (a := 1) (j := 4) (fs := []) (X := [q1, p7, p8, 0, 0, 0]) jIQ_41_16 rfl rfl rfl rfl ?_
  refine jT_eq (LN := [(4, (0, 4)), (2, (1, 108917793695 * p7 + 159561683699 * p8 + 68719476736 * q1)), (0, (4, 0)), (1, (4, 1))]) (stN := [(1, 0), (1, 108917793695 * p7 + 159561683699 * p8 + 68719476736 * q1)]) (hsN := [jgh, (101, [], [q1, p7, p8, 0, 0, 0])]) rfl rfl rfl ?_
  refine jT_adv 1 (pcN := 20) (LN := [(4, (0, 4)), (2, (1, 108917793695 * p7 + 159561683699 * p8 + 68719476736 * q1)), (0, (4, 0)), (1, (4, 1))]) (stN := [(5, 0), (1, 0), (1, 108917793695 * p7 + 159561683699 * p8 + 68719476736 * q1)]) (hsN := [jgh, (101, [], [q1, p7, p8, 0, 0, 0])]) (c1 := 0) (s1 := 0) (c2 := 0) (s2 := 0) (by exact rfl) ?_ (by omega) (by omega)
  refine jT_xiload (v := (0, 4)) (pcN := 22) jIQ_41_20 rfl rfl rfl ?_
  refine jT_adv 1 (pcN := 23) (LN := [(4, (0, 4)), (2, (1, 108917793695 * p7 + 159561683699 * p8 + 68719476736 * q1)), (0, (4, 0)), (1, (4, 1))]) (stN := [(1, 237730330636), (1, 0), (1, 108917793695 * p7 + 159561683699 * p8 + 68719476736 * q1)]) (hsN := [jgh, (101, [], [q1, p7, p8, 0, 0, 0])]) (c1 := 0) (s1 := 0) (c2 := 0) (s2 := 0) (by exact rfl) ?_ (by omega) (by omega)
  refine jT_xlmul (x := 0) (y := 237730330636) (z := 0) (pcN := 24) jIQ_41_23 rfl (by decide) rfl ?_
  refine jT_xladd (x := 108917793695 * p7 + 159561683699 * p8 + 68719476736 * q1) (y := 0) (z := 108917793695 * p7 + 159561683699 * p8 + 68719476736 * q1) (pcN := 25) jIQ_41_24 rfl (by omega) rfl ?_
  refine jT_xlstore_n (v := (1, 108917793695 * p7 + 159561683699 * p8 + 68719476736 * q1)) (LN := [(2, (1, 108917793695 * p7 + 159561683699 * p8 + 68719476736 * q1)), (4, (0, 4)), (0, (4, 0)), (1, (4, 1))]) (pcN := 26) jIQ_41_25 rfl rfl rfl rfl ?_
  refine jT_xiinc (x := 4) (z := 5) (LN := [(4, (0, 5)), (2, (1, 108917793695 * p7 + 159561683699 * p8 + 68719476736 * q1)), (0, (4, 0)), (1, (4, 1))]) (pcN := 29) jIQ_41_26 rfl rfl (by decide) rfl rfl ?_
  refine jT_xgoto (pcN := 5) jIQ_41_29 rfl ?_
  refine jT_xiload (v := (0, 5)) (pcN := 7) jIQ_41_5 rfl rfl rfl ?_
  refine jT_xbipush (k := 6) (pcN := 9) jIQ_41_7 (by decide) rfl ?_
  refine jT_xicF (t := 32) (pcN := 12) jIQ_41_9 rfl (by decide +kernel) rfl rfl ?_
  refine jT_xlload_n (v := (1, 108917793695 * p7 + 159561683699 * p8 + 68719476736 * q1)) (pcN := 13) jIQ_41_12 rfl rfl rfl ?_
  refine jT_xaload_n (v := (4, 1)) (pcN := 14) jIQ_41_13 rfl rfl rfl ?_
  refine jT_xiload (v := (0, 5)) (pcN := 16) jIQ_41_14 rfl rfl rfl ?_
  refine jT_lald (x := 0) (a := 1) (j := 5) (fs := []) (X := [q1, p7, p8, 0, 0, 0]) jIQ_41_16 rfl rfl rfl rfl ?_
  refine jT_eq (LN := [(4, (0, 5)), (2, (1, 108917793695 * p7 + 159561683699 * p8 + 68719476736 * q1)), (0, (4, 0)), (1, (4, 1))]) (stN := [(1, 0), (1, 108917793695 * p7 + 159561683699 * p8 + 68719476736 * q1)]) (hsN := [jgh, (101, [], [q1, p7, p8, 0, 0, 0])]) rfl rfl rfl ?_
  refine jT_adv 1 (pcN := 20) (LN := [(4, (0, 5)), (2, (1, 108917793695 * p7 + 159561683699 * p8 + 68719476736 * q1)), (0, (4, 0)), (1, (4, 1))]) (stN := [(5, 0), (1, 0), (1, 108917793695 * p7 + 159561683699 * p8 + 68719476736 * q1)]) (hsN := [jgh, (101, [], [q1, p7, p8, 0, 0, 0])]) (c1 := 0) (s1 := 0) (c2 := 0) (s2 := 0) (by exact rfl) ?_ (by omega) (by omega)
  refine jT_xiload (v := (0, 5)) (pcN := 22) jIQ_41_20 rfl rfl rfl ?_
  refine jT_adv 1 (pcN := 23) (LN := [(4, (0, 5)), (2, (1, 108917793695 * p7 + 159561683699 * p8 + 68719476736 * q1)), (0, (4, 0)), (1, (4, 1))]) (stN := [(1, 254292281123), (1, 0), (1, 108917793695 * p7 + 159561683699 * p8 + 68719476736 * q1)]) (hsN := [jgh, (101, [], [q1, p7, p8, 0, 0, 0])]) (c1 := 0) (s1 := 0) (c2 := 0) (s2 := 0) (by exact rfl) ?_ (by omega) (by omega)
  refine jT_xlmul (x := 0) (y := 254292281123) (z := 0) (pcN := 24) jIQ_41_23 rfl (by decide) rfl ?_
  refine jT_xladd (x := 108917793695 * p7 + 159561683699 * p8 + 68719476736 * q1) (y := 0) (z := 108917793695 * p7 + 159561683699 * p8 + 68719476736 * q1) (pcN := 25) jIQ_41_24 rfl (by omega) rfl ?_
  refine jT_xlstore_n (v := (1, 108917793695 * p7 + 159561683699 * p8 + 68719476736 * q1)) (LN := [(2, (1, 108917793695 * p7 + 159561683699 * p8 + 68719476736 * q1)), (4, (0, 5)), (0, (4, 0)), (1, (4, 1))]) (pcN := 26) jIQ_41_25 rfl rfl rfl rfl ?_
  refine jT_xiinc (x := 5) (z := 6) (LN := [(4, (0, 6)), (2, (1, 108917793695 * p7 + 159561683699 * p8 + 68719476736 * q1)), (0, (4, 0)), (1, (4, 1))]) (pcN := 29) jIQ_41_26 rfl rfl (by decide) rfl rfl ?_
  refine jT_xgoto (pcN := 5) jIQ_41_29 rfl ?_
  refine jT_xiload (v := (0, 6)) (pcN := 7) jIQ_41_5 rfl rfl rfl ?_
  refine jT_xbipush (k := 6) (pcN := 9) jIQ_41_7 (by decide) rfl ?_
  refine jT_xicT (pcN := 32) jIQ_41_9 rfl (by decide +kernel) rfl ?_
  refine jT_xlload_n (v := (1, 108917793695 * p7 + 159561683699 * p8 + 68719476736 * q1)) (pcN := 33) jIQ_41_32 rfl rfl rfl ?_
  exact jT_ret rfl (by decide) (by show 2 ≤ 2; omega) (by omega) (by omega) ⟨rfl, rfl, rfl⟩
theorem jQ_39_90 {xs : List Int} {d : Nat} {p7 p8 q1 : Int} (h_p7 : (-20) ≤ p7 ∧ p7 ≤ 20) (h_p8 : (-10) ≤ p8 ∧ p8 ≤ 10) (h_q1 : (-60) ≤ q1 ∧ q1 ≤ 60) (g_0 : 0 ≤ (-108917793694) * p7 - 159561683698 * p8 - 68719476736 * q1 - 1) (g_1 : 0 ≤ (-108917793694) * p7 - 159561683700 * p8 - 68719476736 * q1 - 1) (g_2 : 0 ≤ (-108917793696) * p7 - 159561683698 * p8 - 68719476736 * q1 - 1) (g_3 : 0 ≤ (-108917793696) * p7 - 159561683700 * p8 - 68719476736 * q1 - 1) (g_4 : p7 < 0) (g_5 : 0 ≤ p8) (g_6 : 0 ≤ q1) : jT xs d 39 2 0 [(0, (4, 0)), (1, (4, 1))] [] [jgh, (101, [], [q1, p7, p8, 0, 0, 0])] 0 0 (fun k v hsN => k = 0 ∧ v = (1, -p7 + p8) ∧ hsN = [jgh, (101, [], [q1, p7, p8, 0, 0, 0])] ++ []) := by
  refine jT_xlconst (z := 0) (pcN := 1) jIQ_39_0 rfl rfl ?_
  refine jT_xlstore_n (v := (1, 0)) (LN := [(2, (1, 0)), (0, (4, 0)), (1, (4, 1))]) (pcN := 2) jIQ_39_1 rfl rfl rfl rfl ?_
  refine jT_xiconst (k := 1) (pcN := 3) jIQ_39_2 rfl ?_
  refine jT_xistore (v := (0, 1)) (LN := [(4, (0, 1)), (2, (1, 0)), (0, (4, 0)), (1, (4, 1))]) (pcN := 5) jIQ_39_3 rfl rfl rfl rfl ?_
  refine jT_xiload (v := (0, 1)) (pcN := 7) jIQ_39_5 rfl rfl rfl ?_
  refine jT_xbipush (k := 6) (pcN := 9) jIQ_39_7 (by decide) rfl ?_
  refine jT_xicF (t := 28) (pcN := 12) jIQ_39_9 rfl (by decide +kernel) rfl rfl ?_
  refine jT_xlload_n (v := (1, 0)) (pcN := 13) jIQ_39_12 rfl rfl rfl ?_
  refine jT_xaload_n (v := (4, 1)) (pcN := 14) jIQ_39_13 rfl rfl rfl ?_
  refine jT_xiload (v := (0, 1)) (pcN := 16) jIQ_39_14 rfl rfl rfl ?_
  refine jT_lald (x := p7) (a := 1) (j := 1) (fs := []) (X := [q1, p7, p8, 0, 0, 0]) jIQ_39_16 rfl rfl rfl rfl ?_
  refine jT_eq (LN := [(4, (0, 1)), (2, (1, 0)), (0, (4, 0)), (1, (4, 1))]) (stN := [(1, p7), (1, 0)]) (hsN := [jgh, (101, [], [q1, p7, p8, 0, 0, 0])]) rfl rfl rfl ?_
  refine jT_labs (z := -p7) (by rfl) (by rfl) (by rfl) (by rfl) (by rw [show jwl (p7) = p7 from jwl_idd (by omega) (by omega), decide_eq_true (by omega)]; first | (simp only [cond_true, cond_false]; done) | (simp only [cond_true, cond_false]; omega) | rfl) ?_
  refine jT_xladd (x := 0) (y := -p7) (z := -p7) (pcN := 21) jIQ_39_20 rfl (by omega) rfl ?_
  refine jT_xlstore_n (v := (1, -p7)) (LN := [(2, (1, -p7)), (4, (0, 1)), (0, (4, 0)), (1, (4, 1))]) (pcN := 22) jIQ_39_21 rfl rfl rfl rfl ?_
  refine jT_xiinc (x := 1) (z := 2) (LN := [(4, (0, 2)), (2, (1, -p7)), (0, (4, 0)), (1, (4, 1))]) (pcN := 25) jIQ_39_22 rfl rfl (by decide) rfl rfl ?_
  refine jT_xgoto (pcN := 5) jIQ_39_25 rfl ?_
  refine jT_xiload (v := (0, 2)) (pcN := 7) jIQ_39_5 rfl rfl rfl ?_
  refine jT_xbipush (k := 6) (pcN := 9) jIQ_39_7 (by decide) rfl ?_
  refine jT_xicF (t := 28) (pcN := 12) jIQ_39_9 rfl (by decide +kernel) rfl rfl ?_
  refine jT_xlload_n (v := (1, -p7)) (pcN := 13) jIQ_39_12 rfl rfl rfl ?_
  refine jT_xaload_n (v := (4, 1)) (pcN := 14) jIQ_39_13 rfl rfl rfl ?_
  refine jT_xiload (v := (0, 2)) (pcN := 16) jIQ_39_14 rfl rfl rfl ?_
  refine jT_lald (x := p8) (a := 1) (j := 2) (fs := []) (X := [q1, p7, p8, 0, 0, 0]) jIQ_39_16 rfl rfl rfl rfl ?_
  refine jT_eq (LN := [(4, (0, 2)), (2, (1, -p7)), (0, (4, 0)), (1, (4, 1))]) (stN := [(1, p8), (1, -p7)]) (hsN := [jgh, (101, [], [q1, p7, p8, 0, 0, 0])]) rfl rfl rfl ?_
  refine jT_labs (z := p8) (by rfl) (by rfl) (by rfl) (by rfl) (by rw [show jwl (p8) = p8 from jwl_idd (by omega) (by omega), decide_eq_false (by omega)]; first | (simp only [cond_true, cond_false]; done) | (simp only [cond_true, cond_false]; omega) | rfl) ?_
  refine jT_xladd (x := -p7) (y := p8) (z := -p7 + p8) (pcN := 21) jIQ_39_20 rfl (by omega) rfl ?_
  refine jT_xlstore_n (v := (1, -p7 + p8)) (LN := [(2, (1, -p7 + p8)), (4, (0, 2)), (0, (4, 0)), (1, (4, 1))]) (pcN := 22) jIQ_39_21 rfl rfl rfl rfl ?_
  refine jT_xiinc (x := 2) (z := 3) (LN := [(4, (0, 3)), (2, (1, -p7 + p8)), (0, (4, 0)), (1, (4, 1))]) (pcN := 25) jIQ_39_22 rfl rfl (by decide) rfl rfl ?_
  refine jT_xgoto (pcN := 5) jIQ_39_25 rfl ?_
  refine jT_xiload (v := (0, 3)) (pcN := 7) jIQ_39_5 rfl rfl rfl ?_
  refine jT_xbipush (k := 6) (pcN := 9) jIQ_39_7 (by decide) rfl ?_
  refine jT_xicF (t := 28) (pcN := 12) jIQ_39_9 rfl (by decide +kernel) rfl rfl ?_
  refine jT_xlload_n (v := (1, -p7 + p8)) (pcN := 13) jIQ_39_12 rfl rfl rfl ?_
  refine jT_xaload_n (v := (4, 1)) (pcN := 14) jIQ_39_13 rfl rfl rfl ?_
  refine jT_xiload (v := (0, 3)) (pcN := 16) jIQ_39_14 rfl rfl rfl ?_
  refine jT_lald (x := 0) (a := 1) (j := 3) (fs := []) (X := [q1, p7, p8, 0, 0, 0]) jIQ_39_16 rfl rfl rfl rfl ?_
  refine jT_eq (LN := [(4, (0, 3)), (2, (1, -p7 + p8)), (0, (4, 0)), (1, (4, 1))]) (stN := [(1, 0), (1, -p7 + p8)]) (hsN := [jgh, (101, [], [q1, p7, p8, 0, 0, 0])]) rfl rfl rfl ?_
  refine jT_labs (z := 0) (by rfl) (by rfl) (by rfl) (by rfl) (by decide +kernel) ?_
  refine jT_xladd (x := -p7 + p8) (y := 0) (z := -p7 + p8) (pcN := 21) jIQ_39_20 rfl (by omega) rfl ?_
  refine jT_xlstore_n (v := (1, -p7 + p8)) (LN := [(2, (1, -p7 + p8)), (4, (0, 3)), (0, (4, 0)), (1, (4, 1))]) (pcN := 22) jIQ_39_21 rfl rfl rfl rfl ?_
  refine jT_xiinc (x := 3) (z := 4) (LN := [(4, (0, 4)), (2, (1, -p7 + p8)), (0, (4, 0)), (1, (4, 1))]) (pcN := 25) jIQ_39_22 rfl rfl (by decide) rfl rfl ?_
  refine jT_xgoto (pcN := 5) jIQ_39_25 rfl ?_
  refine jT_xiload (v := (0, 4)) (pcN := 7) jIQ_39_5 rfl rfl rfl ?_
  refine jT_xbipush (k := 6) (pcN := 9) jIQ_39_7 (by decide) rfl ?_
  refine jT_xicF (t := 28) (pcN := 12) jIQ_39_9 rfl (by decide +kernel) rfl rfl ?_
  refine jT_xlload_n (v := (1, -p7 + p8)) (pcN := 13) jIQ_39_12 rfl rfl rfl ?_
  refine jT_xaload_n (v := (4, 1)) (pcN := 14) jIQ_39_13 rfl rfl rfl ?_
  refine jT_xiload (v := (0, 4)) (pcN := 16) jIQ_39_14 rfl rfl rfl ?_
  refine jT_lald (x := 0) (a := 1) (j := 4) (fs := []) (X := [q1, p7, p8, 0, 0, 0]) jIQ_39_16 rfl rfl rfl rfl ?_
  refine jT_eq (LN := [(4, (0, 4)), (2, (1, -p7 + p8)), (0, (4, 0)), (1, (4, 1))]) (stN := [(1, 0), (1, -p7 + p8)]) (hsN := [jgh, (101, [], [q1, p7, p8, 0, 0, 0])]) rfl rfl rfl ?_
  refine jT_labs (z := 0) (by rfl) (by rfl) (by rfl) (by rfl) (by decide +kernel) ?_
  refine jT_xladd (x := -p7 + p8) (y := 0) (z := -p7 + p8) (pcN := 21) jIQ_39_20 rfl (by omega) rfl ?_
  refine jT_xlstore_n (v := (1, -p7 + p8)) (LN := [(2, (1, -p7 + p8)), (4, (0, 4)), (0, (4, 0)), (1, (4, 1))]) (pcN := 22) jIQ_39_21 rfl rfl rfl rfl ?_
  refine jT_xiinc (x := 4) (z := 5) (LN := [(4, (0, 5)), (2, (1, -p7 + p8)), (0, (4, 0)), (1, (4, 1))]) (pcN := 25) jIQ_39_22 rfl rfl (by decide) rfl rfl ?_
  refine jT_xgoto (pcN := 5) jIQ_39_25 rfl ?_
  refine jT_xiload (v := (0, 5)) (pcN := 7) jIQ_39_5 rfl rfl rfl ?_
  refine jT_xbipush (k := 6) (pcN := 9) jIQ_39_7 (by decide) rfl ?_
  refine jT_xicF (t := 28) (pcN := 12) jIQ_39_9 rfl (by decide +kernel) rfl rfl ?_
  refine jT_xlload_n (v := (1, -p7 + p8)) (pcN := 13) jIQ_39_12 rfl rfl rfl ?_
  refine jT_xaload_n (v := (4, 1)) (pcN := 14) jIQ_39_13 rfl rfl rfl ?_
  refine jT_xiload (v := (0, 5)) (pcN := 16) jIQ_39_14 rfl rfl rfl ?_
  refine jT_lald (x := 0) (a := 1) (j := 5) (fs := []) (X := [q1, p7, p8, 0, 0, 0]) jIQ_39_16 rfl rfl rfl rfl ?_
  refine jT_eq (LN := [(4, (0, 5)), (2, (1, -p7 + p8)), (0, (4, 0)), (1, (4, 1))]) (stN := [(1, 0), (1, -p7 + p8)]) (hsN := [jgh, (101, [], [q1, p7, p8, 0, 0, 0])]) rfl rfl rfl ?_
  refine jT_labs (z := 0) (by rfl) (by rfl) (by rfl) (by rfl) (by decide +kernel) ?_
  refine jT_xladd (x := -p7 + p8) (y := 0) (z := -p7 + p8) (pcN := 21) jIQ_39_20 rfl (by omega) rfl ?_
  refine jT_xlstore_n (v := (1, -p7 + p8)) (LN := [(2, (1, -p7 + p8)), (4, (0, 5)), (0, (4, 0)), (1, (4, 1))]) (pcN := 22) jIQ_39_21 rfl rfl rfl rfl ?_
  refine jT_xiinc (x := 5) (z := 6) (LN := [(4, (0, 6)), (2, (1, -p7 + p8)), (0, (4, 0)), (1, (4, 1))]) (pcN := 25) jIQ_39_22 rfl rfl (by decide) rfl rfl ?_
  refine jT_xgoto (pcN := 5) jIQ_39_25 rfl ?_
  refine jT_xiload (v := (0, 6)) (pcN := 7) jIQ_39_5 rfl rfl rfl ?_
  refine jT_xbipush (k := 6) (pcN := 9) jIQ_39_7 (by decide) rfl ?_
  refine jT_xicT (pcN := 28) jIQ_39_9 rfl (by decide +kernel) rfl ?_
  refine jT_xlload_n (v := (1, -p7 + p8)) (pcN := 29) jIQ_39_28 rfl rfl rfl ?_
  exact jT_ret rfl (by decide) (by show 2 ≤ 2; omega) (by omega) (by omega) ⟨rfl, rfl, rfl⟩
theorem jQ_40_91 {xs : List Int} {d : Nat} {p7 p8 q1 : Int} (h_p7 : (-20) ≤ p7 ∧ p7 ≤ 20) (h_p8 : (-10) ≤ p8 ∧ p8 ≤ 10) (h_q1 : (-60) ≤ q1 ∧ q1 ≤ 60) (g_0 : 0 ≤ (-108917793694) * p7 - 159561683698 * p8 - 68719476736 * q1 - 1) (g_1 : 0 ≤ (-108917793694) * p7 - 159561683700 * p8 - 68719476736 * q1 - 1) (g_2 : 0 ≤ (-108917793696) * p7 - 159561683698 * p8 - 68719476736 * q1 - 1) (g_3 : 0 ≤ (-108917793696) * p7 - 159561683700 * p8 - 68719476736 * q1 - 1) (g_4 : p7 < 0) (g_5 : 0 ≤ p8) (g_6 : 0 ≤ q1) : jT xs d 40 2 0 [(0, (4, 0)), (1, (4, 1)), (2, (1, -p7 + p8))] [] [jgh, (101, [], [q1, p7, p8, 0, 0, 0])] 0 0 (fun k v hsN => k = 0 ∧ v = (0, 1) ∧ hsN = [jgh, (101, [], [q1, p7, p8, 0, 0, 0])] ++ []) := by
  refine jT_xlload_n (v := (1, -p7 + p8)) (pcN := 1) jIQ_40_0 rfl rfl rfl ?_
  refine jT_adv 1 (pcN := 4) (LN := [(0, (4, 0)), (1, (4, 1)), (2, (1, -p7 + p8))]) (stN := [(1, 16777216), (1, -p7 + p8)]) (hsN := [jgh, (101, [], [q1, p7, p8, 0, 0, 0])]) (c1 := 0) (s1 := 0) (c2 := 0) (s2 := 0) (by exact rfl) ?_ (by omega) (by omega)
  refine jT_lcmp (a := -p7 + p8) (b := 16777216) (z := (-1)) (by rfl) (by rfl) (jwl_idd (by omega) (by omega)) (jwl_idd (by omega) (by omega)) (by rw [decide_eq_false (show ¬ ((16777216 : Int) < -p7 + p8) by omega), decide_eq_false (show ¬ ((-p7 + p8 : Int) = 16777216) by omega)]; rfl) ?_
  refine jT_xifF (t := 25) (pcN := 8) jIQ_40_5 rfl (by decide +kernel) rfl rfl ?_
  refine jT_xaload_n (v := (4, 1)) (pcN := 9) jIQ_40_8 rfl rfl rfl ?_
  refine jT_xiconst (k := 0) (pcN := 10) jIQ_40_9 rfl ?_
  refine jT_lald (x := q1) (a := 1) (j := 0) (fs := []) (X := [q1, p7, p8, 0, 0, 0]) jIQ_40_10 rfl rfl rfl rfl ?_
  refine jT_eq (LN := [(0, (4, 0)), (1, (4, 1)), (2, (1, -p7 + p8))]) (stN := [(1, q1)]) (hsN := [jgh, (101, [], [q1, p7, p8, 0, 0, 0])]) rfl rfl rfl ?_
  refine jT_labs (z := q1) (by rfl) (by rfl) (by rfl) (by rfl) (by rw [show jwl (q1) = q1 from jwl_idd (by omega) (by omega), decide_eq_false (by omega)]; first | (simp only [cond_true, cond_false]; done) | (simp only [cond_true, cond_false]; omega) | rfl) ?_
  refine jT_adv 1 (pcN := 17) (LN := [(0, (4, 0)), (1, (4, 1)), (2, (1, -p7 + p8))]) (stN := [(1, 16777216), (1, q1)]) (hsN := [jgh, (101, [], [q1, p7, p8, 0, 0, 0])]) (c1 := 0) (s1 := 0) (c2 := 0) (s2 := 0) (by exact rfl) ?_ (by omega) (by omega)
  refine jT_lcmp (a := q1) (b := 16777216) (z := (-1)) (by rfl) (by rfl) (jwl_idd (by omega) (by omega)) (jwl_idd (by omega) (by omega)) (by rw [decide_eq_false (show ¬ ((16777216 : Int) < q1) by omega), decide_eq_false (show ¬ ((q1 : Int) = 16777216) by omega)]; rfl) ?_
  refine jT_xifF (t := 25) (pcN := 21) jIQ_40_18 rfl (by decide +kernel) rfl rfl ?_
  refine jT_xiconst (k := 1) (pcN := 22) jIQ_40_21 rfl ?_
  refine jT_xgoto (pcN := 26) jIQ_40_22 rfl ?_
  exact jT_ret rfl (by decide) (by show 2 ≤ 2; omega) (by omega) (by omega) ⟨rfl, rfl, rfl⟩
theorem jQ_41_92 {xs : List Int} {d : Nat} {p7 p8 q1 : Int} (h_p7 : (-20) ≤ p7 ∧ p7 ≤ 20) (h_p8 : (-10) ≤ p8 ∧ p8 ≤ 10) (h_q1 : (-60) ≤ q1 ∧ q1 ≤ 60) (g_0 : 0 ≤ (-108917793694) * p7 - 159561683698 * p8 - 68719476736 * q1 - 1) (g_1 : 0 ≤ (-108917793694) * p7 - 159561683700 * p8 - 68719476736 * q1 - 1) (g_2 : 0 ≤ (-108917793696) * p7 - 159561683698 * p8 - 68719476736 * q1 - 1) (g_3 : 0 ≤ (-108917793696) * p7 - 159561683700 * p8 - 68719476736 * q1 - 1) (g_4 : p7 < 0) (g_5 : 0 ≤ p8) (g_6 : 0 ≤ q1) : jT xs d 41 2 0 [(0, (4, 0)), (1, (4, 1))] [] [jgh, (101, [], [q1, p7, p8, 0, 0, 0])] 0 0 (fun k v hsN => k = 0 ∧ v = (1, 108917793695 * p7 + 159561683699 * p8 + 68719476736 * q1) ∧ hsN = [jgh, (101, [], [q1, p7, p8, 0, 0, 0])] ++ []) := by
  refine jT_xlconst (z := 0) (pcN := 1) jIQ_41_0 rfl rfl ?_
  refine jT_xlstore_n (v := (1, 0)) (LN := [(2, (1, 0)), (0, (4, 0)), (1, (4, 1))]) (pcN := 2) jIQ_41_1 rfl rfl rfl rfl ?_
  refine jT_xiconst (k := 0) (pcN := 3) jIQ_41_2 rfl ?_
  refine jT_xistore (v := (0, 0)) (LN := [(4, (0, 0)), (2, (1, 0)), (0, (4, 0)), (1, (4, 1))]) (pcN := 5) jIQ_41_3 rfl rfl rfl rfl ?_
  refine jT_xiload (v := (0, 0)) (pcN := 7) jIQ_41_5 rfl rfl rfl ?_
  refine jT_xbipush (k := 6) (pcN := 9) jIQ_41_7 (by decide) rfl ?_
  refine jT_xicF (t := 32) (pcN := 12) jIQ_41_9 rfl (by decide +kernel) rfl rfl ?_
  refine jT_xlload_n (v := (1, 0)) (pcN := 13) jIQ_41_12 rfl rfl rfl ?_
  refine jT_xaload_n (v := (4, 1)) (pcN := 14) jIQ_41_13 rfl rfl rfl ?_
  refine jT_xiload (v := (0, 0)) (pcN := 16) jIQ_41_14 rfl rfl rfl ?_
  refine jT_lald (x := q1) (a := 1) (j := 0) (fs := []) (X := [q1, p7, p8, 0, 0, 0]) jIQ_41_16 rfl rfl rfl rfl ?_
  refine jT_eq (LN := [(4, (0, 0)), (2, (1, 0)), (0, (4, 0)), (1, (4, 1))]) (stN := [(1, q1), (1, 0)]) (hsN := [jgh, (101, [], [q1, p7, p8, 0, 0, 0])]) rfl rfl rfl ?_
  refine jT_adv 1 (pcN := 20) (LN := [(4, (0, 0)), (2, (1, 0)), (0, (4, 0)), (1, (4, 1))]) (stN := [(5, 0), (1, q1), (1, 0)]) (hsN := [jgh, (101, [], [q1, p7, p8, 0, 0, 0])]) (c1 := 0) (s1 := 0) (c2 := 0) (s2 := 0) (by exact rfl) ?_ (by omega) (by omega)
  refine jT_xiload (v := (0, 0)) (pcN := 22) jIQ_41_20 rfl rfl rfl ?_
  refine jT_adv 1 (pcN := 23) (LN := [(4, (0, 0)), (2, (1, 0)), (0, (4, 0)), (1, (4, 1))]) (stN := [(1, 68719476736), (1, q1), (1, 0)]) (hsN := [jgh, (101, [], [q1, p7, p8, 0, 0, 0])]) (c1 := 0) (s1 := 0) (c2 := 0) (s2 := 0) (by exact rfl) ?_ (by omega) (by omega)
  refine jT_xlmul (x := q1) (y := 68719476736) (z := 68719476736 * q1) (pcN := 24) jIQ_41_23 rfl (by omega) rfl ?_
  refine jT_xladd (x := 0) (y := 68719476736 * q1) (z := 68719476736 * q1) (pcN := 25) jIQ_41_24 rfl (by omega) rfl ?_
  refine jT_xlstore_n (v := (1, 68719476736 * q1)) (LN := [(2, (1, 68719476736 * q1)), (4, (0, 0)), (0, (4, 0)), (1, (4, 1))]) (pcN := 26) jIQ_41_25 rfl rfl rfl rfl ?_
  refine jT_xiinc (x := 0) (z := 1) (LN := [(4, (0, 1)), (2, (1, 68719476736 * q1)), (0, (4, 0)), (1, (4, 1))]) (pcN := 29) jIQ_41_26 rfl rfl (by decide) rfl rfl ?_
  refine jT_xgoto (pcN := 5) jIQ_41_29 rfl ?_
  refine jT_xiload (v := (0, 1)) (pcN := 7) jIQ_41_5 rfl rfl rfl ?_
  refine jT_xbipush (k := 6) (pcN := 9) jIQ_41_7 (by decide) rfl ?_
  refine jT_xicF (t := 32) (pcN := 12) jIQ_41_9 rfl (by decide +kernel) rfl rfl ?_
  refine jT_xlload_n (v := (1, 68719476736 * q1)) (pcN := 13) jIQ_41_12 rfl rfl rfl ?_
  refine jT_xaload_n (v := (4, 1)) (pcN := 14) jIQ_41_13 rfl rfl rfl ?_
  refine jT_xiload (v := (0, 1)) (pcN := 16) jIQ_41_14 rfl rfl rfl ?_
  refine jT_lald (x := p7) (a := 1) (j := 1) (fs := []) (X := [q1, p7, p8, 0, 0, 0]) jIQ_41_16 rfl rfl rfl rfl ?_
  refine jT_eq (LN := [(4, (0, 1)), (2, (1, 68719476736 * q1)), (0, (4, 0)), (1, (4, 1))]) (stN := [(1, p7), (1, 68719476736 * q1)]) (hsN := [jgh, (101, [], [q1, p7, p8, 0, 0, 0])]) rfl rfl rfl ?_
  refine jT_adv 1 (pcN := 20) (LN := [(4, (0, 1)), (2, (1, 68719476736 * q1)), (0, (4, 0)), (1, (4, 1))]) (stN := [(5, 0), (1, p7), (1, 68719476736 * q1)]) (hsN := [jgh, (101, [], [q1, p7, p8, 0, 0, 0])]) (c1 := 0) (s1 := 0) (c2 := 0) (s2 := 0) (by exact rfl) ?_ (by omega) (by omega)
  refine jT_xiload (v := (0, 1)) (pcN := 22) jIQ_41_20 rfl rfl rfl ?_
  refine jT_adv 1 (pcN := 23) (LN := [(4, (0, 1)), (2, (1, 68719476736 * q1)), (0, (4, 0)), (1, (4, 1))]) (stN := [(1, 108917793695), (1, p7), (1, 68719476736 * q1)]) (hsN := [jgh, (101, [], [q1, p7, p8, 0, 0, 0])]) (c1 := 0) (s1 := 0) (c2 := 0) (s2 := 0) (by exact rfl) ?_ (by omega) (by omega)
  refine jT_xlmul (x := p7) (y := 108917793695) (z := 108917793695 * p7) (pcN := 24) jIQ_41_23 rfl (by omega) rfl ?_
  refine jT_xladd (x := 68719476736 * q1) (y := 108917793695 * p7) (z := 108917793695 * p7 + 68719476736 * q1) (pcN := 25) jIQ_41_24 rfl (by omega) rfl ?_
  refine jT_xlstore_n (v := (1, 108917793695 * p7 + 68719476736 * q1)) (LN := [(2, (1, 108917793695 * p7 + 68719476736 * q1)), (4, (0, 1)), (0, (4, 0)), (1, (4, 1))]) (pcN := 26) jIQ_41_25 rfl rfl rfl rfl ?_
  refine jT_xiinc (x := 1) (z := 2) (LN := [(4, (0, 2)), (2, (1, 108917793695 * p7 + 68719476736 * q1)), (0, (4, 0)), (1, (4, 1))]) (pcN := 29) jIQ_41_26 rfl rfl (by decide) rfl rfl ?_
  refine jT_xgoto (pcN := 5) jIQ_41_29 rfl ?_
  refine jT_xiload (v := (0, 2)) (pcN := 7) jIQ_41_5 rfl rfl rfl ?_
  refine jT_xbipush (k := 6) (pcN := 9) jIQ_41_7 (by decide) rfl ?_
  refine jT_xicF (t := 32) (pcN := 12) jIQ_41_9 rfl (by decide +kernel) rfl rfl ?_
  refine jT_xlload_n (v := (1, 108917793695 * p7 + 68719476736 * q1)) (pcN := 13) jIQ_41_12 rfl rfl rfl ?_
  refine jT_xaload_n (v := (4, 1)) (pcN := 14) jIQ_41_13 rfl rfl rfl ?_
  refine jT_xiload (v := (0, 2)) (pcN := 16) jIQ_41_14 rfl rfl rfl ?_
  refine jT_lald (x := p8) (a := 1) (j := 2) (fs := []) (X := [q1, p7, p8, 0, 0, 0]) jIQ_41_16 rfl rfl rfl rfl ?_
  refine jT_eq (LN := [(4, (0, 2)), (2, (1, 108917793695 * p7 + 68719476736 * q1)), (0, (4, 0)), (1, (4, 1))]) (stN := [(1, p8), (1, 108917793695 * p7 + 68719476736 * q1)]) (hsN := [jgh, (101, [], [q1, p7, p8, 0, 0, 0])]) rfl rfl rfl ?_
  refine jT_adv 1 (pcN := 20) (LN := [(4, (0, 2)), (2, (1, 108917793695 * p7 + 68719476736 * q1)), (0, (4, 0)), (1, (4, 1))]) (stN := [(5, 0), (1, p8), (1, 108917793695 * p7 + 68719476736 * q1)]) (hsN := [jgh, (101, [], [q1, p7, p8, 0, 0, 0])]) (c1 := 0) (s1 := 0) (c2 := 0) (s2 := 0) (by exact rfl) ?_ (by omega) (by omega)
  refine jT_xiload (v := (0, 2)) (pcN := 22) jIQ_41_20 rfl rfl rfl ?_
  refine jT_adv 1 (pcN := 23) (LN := [(4, (0, 2)), (2, (1, 108917793695 * p7 + 68719476736 * q1)), (0, (4, 0)), (1, (4, 1))]) (stN := [(1, 159561683699), (1, p8), (1, 108917793695 * p7 + 68719476736 * q1)]) (hsN := [jgh, (101, [], [q1, p7, p8, 0, 0, 0])]) (c1 := 0) (s1 := 0) (c2 := 0) (s2 := 0) (by exact rfl) ?_ (by omega) (by omega)
  refine jT_xlmul (x := p8) (y := 159561683699) (z := 159561683699 * p8) (pcN := 24) jIQ_41_23 rfl (by omega) rfl ?_
  refine jT_xladd (x := 108917793695 * p7 + 68719476736 * q1) (y := 159561683699 * p8) (z := 108917793695 * p7 + 159561683699 * p8 + 68719476736 * q1) (pcN := 25) jIQ_41_24 rfl (by omega) rfl ?_
  refine jT_xlstore_n (v := (1, 108917793695 * p7 + 159561683699 * p8 + 68719476736 * q1)) (LN := [(2, (1, 108917793695 * p7 + 159561683699 * p8 + 68719476736 * q1)), (4, (0, 2)), (0, (4, 0)), (1, (4, 1))]) (pcN := 26) jIQ_41_25 rfl rfl rfl rfl ?_
  refine jT_xiinc (x := 2) (z := 3) (LN := [(4, (0, 3)), (2, (1, 108917793695 * p7 + 159561683699 * p8 + 68719476736 * q1)), (0, (4, 0)), (1, (4, 1))]) (pcN := 29) jIQ_41_26 rfl rfl (by decide) rfl rfl ?_
  refine jT_xgoto (pcN := 5) jIQ_41_29 rfl ?_
  refine jT_xiload (v := (0, 3)) (pcN := 7) jIQ_41_5 rfl rfl rfl ?_
  refine jT_xbipush (k := 6) (pcN := 9) jIQ_41_7 (by decide) rfl ?_
  refine jT_xicF (t := 32) (pcN := 12) jIQ_41_9 rfl (by decide +kernel) rfl rfl ?_
  refine jT_xlload_n (v := (1, 108917793695 * p7 + 159561683699 * p8 + 68719476736 * q1)) (pcN := 13) jIQ_41_12 rfl rfl rfl ?_
  refine jT_xaload_n (v := (4, 1)) (pcN := 14) jIQ_41_13 rfl rfl rfl ?_
  refine jT_xiload (v := (0, 3)) (pcN := 16) jIQ_41_14 rfl rfl rfl ?_
  refine jT_lald (x := 0) (a := 1) (j := 3) (fs := []) (X := [q1, p7, p8, 0, 0, 0]) jIQ_41_16 rfl rfl rfl rfl ?_
  refine jT_eq (LN := [(4, (0, 3)), (2, (1, 108917793695 * p7 + 159561683699 * p8 + 68719476736 * q1)), (0, (4, 0)), (1, (4, 1))]) (stN := [(1, 0), (1, 108917793695 * p7 + 159561683699 * p8 + 68719476736 * q1)]) (hsN := [jgh, (101, [], [q1, p7, p8, 0, 0, 0])]) rfl rfl rfl ?_
  refine jT_adv 1 (pcN := 20) (LN := [(4, (0, 3)), (2, (1, 108917793695 * p7 + 159561683699 * p8 + 68719476736 * q1)), (0, (4, 0)), (1, (4, 1))]) (stN := [(5, 0), (1, 0), (1, 108917793695 * p7 + 159561683699 * p8 + 68719476736 * q1)]) (hsN := [jgh, (101, [], [q1, p7, p8, 0, 0, 0])]) (c1 := 0) (s1 := 0) (c2 := 0) (s2 := 0) (by exact rfl) ?_ (by omega) (by omega)
  refine jT_xiload (v := (0, 3)) (pcN := 22) jIQ_41_20 rfl rfl rfl ?_
  refine jT_adv 1 (pcN := 23) (LN := [(4, (0, 3)), (2, (1, 108917793695 * p7 + 159561683699 * p8 + 68719476736 * q1)), (0, (4, 0)), (1, (4, 1))]) (stN := [(1, 192919961256), (1, 0), (1, 108917793695 * p7 + 159561683699 * p8 + 68719476736 * q1)]) (hsN := [jgh, (101, [], [q1, p7, p8, 0, 0, 0])]) (c1 := 0) (s1 := 0) (c2 := 0) (s2 := 0) (by exact rfl) ?_ (by omega) (by omega)
  refine jT_xlmul (x := 0) (y := 192919961256) (z := 0) (pcN := 24) jIQ_41_23 rfl (by decide) rfl ?_
  refine jT_xladd (x := 108917793695 * p7 + 159561683699 * p8 + 68719476736 * q1) (y := 0) (z := 108917793695 * p7 + 159561683699 * p8 + 68719476736 * q1) (pcN := 25) jIQ_41_24 rfl (by omega) rfl ?_
  refine jT_xlstore_n (v := (1, 108917793695 * p7 + 159561683699 * p8 + 68719476736 * q1)) (LN := [(2, (1, 108917793695 * p7 + 159561683699 * p8 + 68719476736 * q1)), (4, (0, 3)), (0, (4, 0)), (1, (4, 1))]) (pcN := 26) jIQ_41_25 rfl rfl rfl rfl ?_
  refine jT_xiinc (x := 3) (z := 4) (LN := [(4, (0, 4)), (2, (1, 108917793695 * p7 + 159561683699 * p8 + 68719476736 * q1)), (0, (4, 0)), (1, (4, 1))]) (pcN := 29) jIQ_41_26 rfl rfl (by decide) rfl rfl ?_
  refine jT_xgoto (pcN := 5) jIQ_41_29 rfl ?_
  refine jT_xiload (v := (0, 4)) (pcN := 7) jIQ_41_5 rfl rfl rfl ?_
  refine jT_xbipush (k := 6) (pcN := 9) jIQ_41_7 (by decide) rfl ?_
  refine jT_xicF (t := 32) (pcN := 12) jIQ_41_9 rfl (by decide +kernel) rfl rfl ?_
  refine jT_xlload_n (v := (1, 108917793695 * p7 + 159561683699 * p8 + 68719476736 * q1)) (pcN := 13) jIQ_41_12 rfl rfl rfl ?_
  refine jT_xaload_n (v := (4, 1)) (pcN := 14) jIQ_41_13 rfl rfl rfl ?_
  refine jT_xiload (v := (0, 4)) (pcN := 16) jIQ_41_14 rfl rfl rfl ?_
  refine jT_lald (x := 0) (a := 1) (j := 4) (fs := []) (X := [q1, p7, p8, 0, 0, 0]) jIQ_41_16 rfl rfl rfl rfl ?_
  refine jT_eq (LN := [(4, (0, 4)), (2, (1, 108917793695 * p7 + 159561683699 * p8 + 68719476736 * q1)), (0, (4, 0)), (1, (4, 1))]) (stN := [(1, 0), (1, 108917793695 * p7 + 159561683699 * p8 + 68719476736 * q1)]) (hsN := [jgh, (101, [], [q1, p7, p8, 0, 0, 0])]) rfl rfl rfl ?_
  refine jT_adv 1 (pcN := 20) (LN := [(4, (0, 4)), (2, (1, 108917793695 * p7 + 159561683699 * p8 + 68719476736 * q1)), (0, (4, 0)), (1, (4, 1))]) (stN := [(5, 0), (1, 0), (1, 108917793695 * p7 + 159561683699 * p8 + 68719476736 * q1)]) (hsN := [jgh, (101, [], [q1, p7, p8, 0, 0, 0])]) (c1 := 0) (s1 := 0) (c2 := 0) (s2 := 0) (by exact rfl) ?_ (by omega) (by omega)
  refine jT_xiload (v := (0, 4)) (pcN := 22) jIQ_41_20 rfl rfl rfl ?_
  refine jT_adv 1 (pcN := 23) (LN := [(4, (0, 4)), (2, (1, 108917793695 * p7 + 159561683699 * p8 + 68719476736 * q1)), (0, (4, 0)), (1, (4, 1))]) (stN := [(1, 237730330636), (1, 0), (1, 108917793695 * p7 + 159561683699 * p8 + 68719476736 * q1)]) (hsN := [jgh, (101, [], [q1, p7, p8, 0, 0, 0])]) (c1 := 0) (s1 := 0) (c2 := 0) (s2 := 0) (by exact rfl) ?_ (by omega) (by omega)
  refine jT_xlmul (x := 0) (y := 237730330636) (z := 0) (pcN := 24) jIQ_41_23 rfl (by decide) rfl ?_
  refine jT_xladd (x := 108917793695 * p7 + 159561683699 * p8 + 68719476736 * q1) (y := 0) (z := 108917793695 * p7 + 159561683699 * p8 + 68719476736 * q1) (pcN := 25) jIQ_41_24 rfl (by omega) rfl ?_
  refine jT_xlstore_n (v := (1, 108917793695 * p7 + 159561683699 * p8 + 68719476736 * q1)) (LN := [(2, (1, 108917793695 * p7 + 159561683699 * p8 + 68719476736 * q1)), (4, (0, 4)), (0, (4, 0)), (1, (4, 1))]) (pcN := 26) jIQ_41_25 rfl rfl rfl rfl ?_
  refine jT_xiinc (x := 4) (z := 5) (LN := [(4, (0, 5)), (2, (1, 108917793695 * p7 + 159561683699 * p8 + 68719476736 * q1)), (0, (4, 0)), (1, (4, 1))]) (pcN := 29) jIQ_41_26 rfl rfl (by decide) rfl rfl ?_
  refine jT_xgoto (pcN := 5) jIQ_41_29 rfl ?_
  refine jT_xiload (v := (0, 5)) (pcN := 7) jIQ_41_5 rfl rfl rfl ?_
  refine jT_xbipush (k := 6) (pcN := 9) jIQ_41_7 (by decide) rfl ?_
  refine jT_xicF (t := 32) (pcN := 12) jIQ_41_9 rfl (by decide +kernel) rfl rfl ?_
  refine jT_xlload_n (v := (1, 108917793695 * p7 + 159561683699 * p8 + 68719476736 * q1)) (pcN := 13) jIQ_41_12 rfl rfl rfl ?_
  refine jT_xaload_n (v := (4, 1)) (pcN := 14) jIQ_41_13 rfl rfl rfl ?_
  refine jT_xiload (v := (0, 5)) (pcN := 16) jIQ_41_14 rfl rfl rfl ?_
  refine jT_lald (x := 0) (a := 1) (j := 5) (fs := []) (X := [q1, p7, p8, 0, 0, 0]) jIQ_41_16 rfl rfl rfl rfl ?_
  refine jT_eq (LN := [(4, (0, 5)), (2, (1, 108917793695 * p7 + 159561683699 * p8 + 68719476736 * q1)), (0, (4, 0)), (1, (4, 1))]) (stN := [(1, 0), (1, 108917793695 * p7 + 159561683699 * p8 + 68719476736 * q1)]) (hsN := [jgh, (101, [], [q1, p7, p8, 0, 0, 0])]) rfl rfl rfl ?_
  refine jT_adv 1 (pcN := 20) (LN := [(4, (0, 5)), (2, (1, 108917793695 * p7 + 159561683699 * p8 + 68719476736 * q1)), (0, (4, 0)), (1, (4, 1))]) (stN := [(5, 0), (1, 0), (1, 108917793695 * p7 + 159561683699 * p8 + 68719476736 * q1)]) (hsN := [jgh, (101, [], [q1, p7, p8, 0, 0, 0])]) (c1 := 0) (s1 := 0) (c2 := 0) (s2 := 0) (by exact rfl) ?_ (by omega) (by omega)
  refine jT_xiload (v := (0, 5)) (pcN := 22) jIQ_41_20 rfl rfl rfl ?_
  refine jT_adv 1 (pcN := 23) (LN := [(4, (0, 5)), (2, (1, 108917793695 * p7 + 159561683699 * p8 + 68719476736 * q1)), (0, (4, 0)), (1, (4, 1))]) (stN := [(1, 254292281123), (1, 0), (1, 108917793695 * p7 + 159561683699 * p8 + 68719476736 * q1)]) (hsN := [jgh, (101, [], [q1, p7, p8, 0, 0, 0])]) (c1 := 0) (s1 := 0) (c2 := 0) (s2 := 0) (by exact rfl) ?_ (by omega) (by omega)
  refine jT_xlmul (x := 0) (y := 254292281123) (z := 0) (pcN := 24) jIQ_41_23 rfl (by decide) rfl ?_
  refine jT_xladd (x := 108917793695 * p7 + 159561683699 * p8 + 68719476736 * q1) (y := 0) (z := 108917793695 * p7 + 159561683699 * p8 + 68719476736 * q1) (pcN := 25) jIQ_41_24 rfl (by omega) rfl ?_
  refine jT_xlstore_n (v := (1, 108917793695 * p7 + 159561683699 * p8 + 68719476736 * q1)) (LN := [(2, (1, 108917793695 * p7 + 159561683699 * p8 + 68719476736 * q1)), (4, (0, 5)), (0, (4, 0)), (1, (4, 1))]) (pcN := 26) jIQ_41_25 rfl rfl rfl rfl ?_
  refine jT_xiinc (x := 5) (z := 6) (LN := [(4, (0, 6)), (2, (1, 108917793695 * p7 + 159561683699 * p8 + 68719476736 * q1)), (0, (4, 0)), (1, (4, 1))]) (pcN := 29) jIQ_41_26 rfl rfl (by decide) rfl rfl ?_
  refine jT_xgoto (pcN := 5) jIQ_41_29 rfl ?_
  refine jT_xiload (v := (0, 6)) (pcN := 7) jIQ_41_5 rfl rfl rfl ?_
  refine jT_xbipush (k := 6) (pcN := 9) jIQ_41_7 (by decide) rfl ?_
  refine jT_xicT (pcN := 32) jIQ_41_9 rfl (by decide +kernel) rfl ?_
  refine jT_xlload_n (v := (1, 108917793695 * p7 + 159561683699 * p8 + 68719476736 * q1)) (pcN := 33) jIQ_41_32 rfl rfl rfl ?_
  exact jT_ret rfl (by decide) (by show 2 ≤ 2; omega) (by omega) (by omega) ⟨rfl, rfl, rfl⟩
theorem jQ_39_93 {xs : List Int} {d : Nat} {p7 p8 q1 : Int} (h_p7 : (-20) ≤ p7 ∧ p7 ≤ 20) (h_p8 : (-10) ≤ p8 ∧ p8 ≤ 10) (h_q1 : (-60) ≤ q1 ∧ q1 ≤ 60) (g_0 : 0 ≤ (-108917793694) * p7 - 159561683698 * p8 - 68719476736 * q1 - 1) (g_1 : 0 ≤ (-108917793694) * p7 - 159561683700 * p8 - 68719476736 * q1 - 1) (g_2 : 0 ≤ (-108917793696) * p7 - 159561683698 * p8 - 68719476736 * q1 - 1) (g_3 : 0 ≤ (-108917793696) * p7 - 159561683700 * p8 - 68719476736 * q1 - 1) (g_4 : 0 ≤ p7) (g_5 : p8 < 0) : jT xs d 39 2 0 [(0, (4, 0)), (1, (4, 1))] [] [jgh, (101, [], [q1, p7, p8, 0, 0, 0])] 0 0 (fun k v hsN => k = 0 ∧ v = (1, p7 - p8) ∧ hsN = [jgh, (101, [], [q1, p7, p8, 0, 0, 0])] ++ []) := by
  refine jT_xlconst (z := 0) (pcN := 1) jIQ_39_0 rfl rfl ?_
  refine jT_xlstore_n (v := (1, 0)) (LN := [(2, (1, 0)), (0, (4, 0)), (1, (4, 1))]) (pcN := 2) jIQ_39_1 rfl rfl rfl rfl ?_
  refine jT_xiconst (k := 1) (pcN := 3) jIQ_39_2 rfl ?_
  refine jT_xistore (v := (0, 1)) (LN := [(4, (0, 1)), (2, (1, 0)), (0, (4, 0)), (1, (4, 1))]) (pcN := 5) jIQ_39_3 rfl rfl rfl rfl ?_
  refine jT_xiload (v := (0, 1)) (pcN := 7) jIQ_39_5 rfl rfl rfl ?_
  refine jT_xbipush (k := 6) (pcN := 9) jIQ_39_7 (by decide) rfl ?_
  refine jT_xicF (t := 28) (pcN := 12) jIQ_39_9 rfl (by decide +kernel) rfl rfl ?_
  refine jT_xlload_n (v := (1, 0)) (pcN := 13) jIQ_39_12 rfl rfl rfl ?_
  refine jT_xaload_n (v := (4, 1)) (pcN := 14) jIQ_39_13 rfl rfl rfl ?_
  refine jT_xiload (v := (0, 1)) (pcN := 16) jIQ_39_14 rfl rfl rfl ?_
  refine jT_lald (x := p7) (a := 1) (j := 1) (fs := []) (X := [q1, p7, p8, 0, 0, 0]) jIQ_39_16 rfl rfl rfl rfl ?_
  refine jT_eq (LN := [(4, (0, 1)), (2, (1, 0)), (0, (4, 0)), (1, (4, 1))]) (stN := [(1, p7), (1, 0)]) (hsN := [jgh, (101, [], [q1, p7, p8, 0, 0, 0])]) rfl rfl rfl ?_
  refine jT_labs (z := p7) (by rfl) (by rfl) (by rfl) (by rfl) (by rw [show jwl (p7) = p7 from jwl_idd (by omega) (by omega), decide_eq_false (by omega)]; first | (simp only [cond_true, cond_false]; done) | (simp only [cond_true, cond_false]; omega) | rfl) ?_
  refine jT_xladd (x := 0) (y := p7) (z := p7) (pcN := 21) jIQ_39_20 rfl (by omega) rfl ?_
  refine jT_xlstore_n (v := (1, p7)) (LN := [(2, (1, p7)), (4, (0, 1)), (0, (4, 0)), (1, (4, 1))]) (pcN := 22) jIQ_39_21 rfl rfl rfl rfl ?_
  refine jT_xiinc (x := 1) (z := 2) (LN := [(4, (0, 2)), (2, (1, p7)), (0, (4, 0)), (1, (4, 1))]) (pcN := 25) jIQ_39_22 rfl rfl (by decide) rfl rfl ?_
  refine jT_xgoto (pcN := 5) jIQ_39_25 rfl ?_
  refine jT_xiload (v := (0, 2)) (pcN := 7) jIQ_39_5 rfl rfl rfl ?_
  refine jT_xbipush (k := 6) (pcN := 9) jIQ_39_7 (by decide) rfl ?_
  refine jT_xicF (t := 28) (pcN := 12) jIQ_39_9 rfl (by decide +kernel) rfl rfl ?_
  refine jT_xlload_n (v := (1, p7)) (pcN := 13) jIQ_39_12 rfl rfl rfl ?_
  refine jT_xaload_n (v := (4, 1)) (pcN := 14) jIQ_39_13 rfl rfl rfl ?_
  refine jT_xiload (v := (0, 2)) (pcN := 16) jIQ_39_14 rfl rfl rfl ?_
  refine jT_lald (x := p8) (a := 1) (j := 2) (fs := []) (X := [q1, p7, p8, 0, 0, 0]) jIQ_39_16 rfl rfl rfl rfl ?_
  refine jT_eq (LN := [(4, (0, 2)), (2, (1, p7)), (0, (4, 0)), (1, (4, 1))]) (stN := [(1, p8), (1, p7)]) (hsN := [jgh, (101, [], [q1, p7, p8, 0, 0, 0])]) rfl rfl rfl ?_
  refine jT_labs (z := -p8) (by rfl) (by rfl) (by rfl) (by rfl) (by rw [show jwl (p8) = p8 from jwl_idd (by omega) (by omega), decide_eq_true (by omega)]; first | (simp only [cond_true, cond_false]; done) | (simp only [cond_true, cond_false]; omega) | rfl) ?_
  refine jT_xladd (x := p7) (y := -p8) (z := p7 - p8) (pcN := 21) jIQ_39_20 rfl (by omega) rfl ?_
  refine jT_xlstore_n (v := (1, p7 - p8)) (LN := [(2, (1, p7 - p8)), (4, (0, 2)), (0, (4, 0)), (1, (4, 1))]) (pcN := 22) jIQ_39_21 rfl rfl rfl rfl ?_
  refine jT_xiinc (x := 2) (z := 3) (LN := [(4, (0, 3)), (2, (1, p7 - p8)), (0, (4, 0)), (1, (4, 1))]) (pcN := 25) jIQ_39_22 rfl rfl (by decide) rfl rfl ?_
  refine jT_xgoto (pcN := 5) jIQ_39_25 rfl ?_
  refine jT_xiload (v := (0, 3)) (pcN := 7) jIQ_39_5 rfl rfl rfl ?_
  refine jT_xbipush (k := 6) (pcN := 9) jIQ_39_7 (by decide) rfl ?_
  refine jT_xicF (t := 28) (pcN := 12) jIQ_39_9 rfl (by decide +kernel) rfl rfl ?_
  refine jT_xlload_n (v := (1, p7 - p8)) (pcN := 13) jIQ_39_12 rfl rfl rfl ?_
  refine jT_xaload_n (v := (4, 1)) (pcN := 14) jIQ_39_13 rfl rfl rfl ?_
  refine jT_xiload (v := (0, 3)) (pcN := 16) jIQ_39_14 rfl rfl rfl ?_
  refine jT_lald (x := 0) (a := 1) (j := 3) (fs := []) (X := [q1, p7, p8, 0, 0, 0]) jIQ_39_16 rfl rfl rfl rfl ?_
  refine jT_eq (LN := [(4, (0, 3)), (2, (1, p7 - p8)), (0, (4, 0)), (1, (4, 1))]) (stN := [(1, 0), (1, p7 - p8)]) (hsN := [jgh, (101, [], [q1, p7, p8, 0, 0, 0])]) rfl rfl rfl ?_
  refine jT_labs (z := 0) (by rfl) (by rfl) (by rfl) (by rfl) (by decide +kernel) ?_
  refine jT_xladd (x := p7 - p8) (y := 0) (z := p7 - p8) (pcN := 21) jIQ_39_20 rfl (by omega) rfl ?_
  refine jT_xlstore_n (v := (1, p7 - p8)) (LN := [(2, (1, p7 - p8)), (4, (0, 3)), (0, (4, 0)), (1, (4, 1))]) (pcN := 22) jIQ_39_21 rfl rfl rfl rfl ?_
  refine jT_xiinc (x := 3) (z := 4) (LN := [(4, (0, 4)), (2, (1, p7 - p8)), (0, (4, 0)), (1, (4, 1))]) (pcN := 25) jIQ_39_22 rfl rfl (by decide) rfl rfl ?_
  refine jT_xgoto (pcN := 5) jIQ_39_25 rfl ?_
  refine jT_xiload (v := (0, 4)) (pcN := 7) jIQ_39_5 rfl rfl rfl ?_
  refine jT_xbipush (k := 6) (pcN := 9) jIQ_39_7 (by decide) rfl ?_
  refine jT_xicF (t := 28) (pcN := 12) jIQ_39_9 rfl (by decide +kernel) rfl rfl ?_
  refine jT_xlload_n (v := (1, p7 - p8)) (pcN := 13) jIQ_39_12 rfl rfl rfl ?_
  refine jT_xaload_n (v := (4, 1)) (pcN := 14) jIQ_39_13 rfl rfl rfl ?_
  refine jT_xiload (v := (0, 4)) (pcN := 16) jIQ_39_14 rfl rfl rfl ?_
  refine jT_lald (x := 0) (a := 1) (j := 4) (fs := []) (X := [q1, p7, p8, 0, 0, 0]) jIQ_39_16 rfl rfl rfl rfl ?_
  refine jT_eq (LN := [(4, (0, 4)), (2, (1, p7 - p8)), (0, (4, 0)), (1, (4, 1))]) (stN := [(1, 0), (1, p7 - p8)]) (hsN := [jgh, (101, [], [q1, p7, p8, 0, 0, 0])]) rfl rfl rfl ?_
  refine jT_labs (z := 0) (by rfl) (by rfl) (by rfl) (by rfl) (by decide +kernel) ?_
  refine jT_xladd (x := p7 - p8) (y := 0) (z := p7 - p8) (pcN := 21) jIQ_39_20 rfl (by omega) rfl ?_
  refine jT_xlstore_n (v := (1, p7 - p8)) (LN := [(2, (1, p7 - p8)), (4, (0, 4)), (0, (4, 0)), (1, (4, 1))]) (pcN := 22) jIQ_39_21 rfl rfl rfl rfl ?_
  refine jT_xiinc (x := 4) (z := 5) (LN := [(4, (0, 5)), (2, (1, p7 - p8)), (0, (4, 0)), (1, (4, 1))]) (pcN := 25) jIQ_39_22 rfl rfl (by decide) rfl rfl ?_
  refine jT_xgoto (pcN := 5) jIQ_39_25 rfl ?_
  refine jT_xiload (v := (0, 5)) (pcN := 7) jIQ_39_5 rfl rfl rfl ?_
  refine jT_xbipush (k := 6) (pcN := 9) jIQ_39_7 (by decide) rfl ?_
  refine jT_xicF (t := 28) (pcN := 12) jIQ_39_9 rfl (by decide +kernel) rfl rfl ?_
  refine jT_xlload_n (v := (1, p7 - p8)) (pcN := 13) jIQ_39_12 rfl rfl rfl ?_
  refine jT_xaload_n (v := (4, 1)) (pcN := 14) jIQ_39_13 rfl rfl rfl ?_
  refine jT_xiload (v := (0, 5)) (pcN := 16) jIQ_39_14 rfl rfl rfl ?_
  refine jT_lald (x := 0) (a := 1) (j := 5) (fs := []) (X := [q1, p7, p8, 0, 0, 0]) jIQ_39_16 rfl rfl rfl rfl ?_
  refine jT_eq (LN := [(4, (0, 5)), (2, (1, p7 - p8)), (0, (4, 0)), (1, (4, 1))]) (stN := [(1, 0), (1, p7 - p8)]) (hsN := [jgh, (101, [], [q1, p7, p8, 0, 0, 0])]) rfl rfl rfl ?_
  refine jT_labs (z := 0) (by rfl) (by rfl) (by rfl) (by rfl) (by decide +kernel) ?_
  refine jT_xladd (x := p7 - p8) (y := 0) (z := p7 - p8) (pcN := 21) jIQ_39_20 rfl (by omega) rfl ?_
  refine jT_xlstore_n (v := (1, p7 - p8)) (LN := [(2, (1, p7 - p8)), (4, (0, 5)), (0, (4, 0)), (1, (4, 1))]) (pcN := 22) jIQ_39_21 rfl rfl rfl rfl ?_
  refine jT_xiinc (x := 5) (z := 6) (LN := [(4, (0, 6)), (2, (1, p7 - p8)), (0, (4, 0)), (1, (4, 1))]) (pcN := 25) jIQ_39_22 rfl rfl (by decide) rfl rfl ?_
  refine jT_xgoto (pcN := 5) jIQ_39_25 rfl ?_
  refine jT_xiload (v := (0, 6)) (pcN := 7) jIQ_39_5 rfl rfl rfl ?_
  refine jT_xbipush (k := 6) (pcN := 9) jIQ_39_7 (by decide) rfl ?_
  refine jT_xicT (pcN := 28) jIQ_39_9 rfl (by decide +kernel) rfl ?_
  refine jT_xlload_n (v := (1, p7 - p8)) (pcN := 29) jIQ_39_28 rfl rfl rfl ?_
  exact jT_ret rfl (by decide) (by show 2 ≤ 2; omega) (by omega) (by omega) ⟨rfl, rfl, rfl⟩
theorem jQ_39_94 {xs : List Int} {d : Nat} {p7 p8 q1 : Int} (h_p7 : (-20) ≤ p7 ∧ p7 ≤ 20) (h_p8 : (-10) ≤ p8 ∧ p8 ≤ 10) (h_q1 : (-60) ≤ q1 ∧ q1 ≤ 60) (g_0 : 0 ≤ (-108917793694) * p7 - 159561683698 * p8 - 68719476736 * q1 - 1) (g_1 : 0 ≤ (-108917793694) * p7 - 159561683700 * p8 - 68719476736 * q1 - 1) (g_2 : 0 ≤ (-108917793696) * p7 - 159561683698 * p8 - 68719476736 * q1 - 1) (g_3 : 0 ≤ (-108917793696) * p7 - 159561683700 * p8 - 68719476736 * q1 - 1) (g_4 : 0 ≤ p7) (g_5 : p8 < 0) (g_6 : q1 < 0) : jT xs d 39 2 0 [(0, (4, 0)), (1, (4, 1))] [] [jgh, (101, [], [q1, p7, p8, 0, 0, 0])] 0 0 (fun k v hsN => k = 0 ∧ v = (1, p7 - p8) ∧ hsN = [jgh, (101, [], [q1, p7, p8, 0, 0, 0])] ++ []) := by
  refine jT_xlconst (z := 0) (pcN := 1) jIQ_39_0 rfl rfl ?_
  refine jT_xlstore_n (v := (1, 0)) (LN := [(2, (1, 0)), (0, (4, 0)), (1, (4, 1))]) (pcN := 2) jIQ_39_1 rfl rfl rfl rfl ?_
  refine jT_xiconst (k := 1) (pcN := 3) jIQ_39_2 rfl ?_
  refine jT_xistore (v := (0, 1)) (LN := [(4, (0, 1)), (2, (1, 0)), (0, (4, 0)), (1, (4, 1))]) (pcN := 5) jIQ_39_3 rfl rfl rfl rfl ?_
  refine jT_xiload (v := (0, 1)) (pcN := 7) jIQ_39_5 rfl rfl rfl ?_
  refine jT_xbipush (k := 6) (pcN := 9) jIQ_39_7 (by decide) rfl ?_
  refine jT_xicF (t := 28) (pcN := 12) jIQ_39_9 rfl (by decide +kernel) rfl rfl ?_
  refine jT_xlload_n (v := (1, 0)) (pcN := 13) jIQ_39_12 rfl rfl rfl ?_
  refine jT_xaload_n (v := (4, 1)) (pcN := 14) jIQ_39_13 rfl rfl rfl ?_
  refine jT_xiload (v := (0, 1)) (pcN := 16) jIQ_39_14 rfl rfl rfl ?_
  refine jT_lald (x := p7) (a := 1) (j := 1) (fs := []) (X := [q1, p7, p8, 0, 0, 0]) jIQ_39_16 rfl rfl rfl rfl ?_
  refine jT_eq (LN := [(4, (0, 1)), (2, (1, 0)), (0, (4, 0)), (1, (4, 1))]) (stN := [(1, p7), (1, 0)]) (hsN := [jgh, (101, [], [q1, p7, p8, 0, 0, 0])]) rfl rfl rfl ?_
  refine jT_labs (z := p7) (by rfl) (by rfl) (by rfl) (by rfl) (by rw [show jwl (p7) = p7 from jwl_idd (by omega) (by omega), decide_eq_false (by omega)]; first | (simp only [cond_true, cond_false]; done) | (simp only [cond_true, cond_false]; omega) | rfl) ?_
  refine jT_xladd (x := 0) (y := p7) (z := p7) (pcN := 21) jIQ_39_20 rfl (by omega) rfl ?_
  refine jT_xlstore_n (v := (1, p7)) (LN := [(2, (1, p7)), (4, (0, 1)), (0, (4, 0)), (1, (4, 1))]) (pcN := 22) jIQ_39_21 rfl rfl rfl rfl ?_
  refine jT_xiinc (x := 1) (z := 2) (LN := [(4, (0, 2)), (2, (1, p7)), (0, (4, 0)), (1, (4, 1))]) (pcN := 25) jIQ_39_22 rfl rfl (by decide) rfl rfl ?_
  refine jT_xgoto (pcN := 5) jIQ_39_25 rfl ?_
  refine jT_xiload (v := (0, 2)) (pcN := 7) jIQ_39_5 rfl rfl rfl ?_
  refine jT_xbipush (k := 6) (pcN := 9) jIQ_39_7 (by decide) rfl ?_
  refine jT_xicF (t := 28) (pcN := 12) jIQ_39_9 rfl (by decide +kernel) rfl rfl ?_
  refine jT_xlload_n (v := (1, p7)) (pcN := 13) jIQ_39_12 rfl rfl rfl ?_
  refine jT_xaload_n (v := (4, 1)) (pcN := 14) jIQ_39_13 rfl rfl rfl ?_
  refine jT_xiload (v := (0, 2)) (pcN := 16) jIQ_39_14 rfl rfl rfl ?_
  refine jT_lald (x := p8) (a := 1) (j := 2) (fs := []) (X := [q1, p7, p8, 0, 0, 0]) jIQ_39_16 rfl rfl rfl rfl ?_
  refine jT_eq (LN := [(4, (0, 2)), (2, (1, p7)), (0, (4, 0)), (1, (4, 1))]) (stN := [(1, p8), (1, p7)]) (hsN := [jgh, (101, [], [q1, p7, p8, 0, 0, 0])]) rfl rfl rfl ?_
  refine jT_labs (z := -p8) (by rfl) (by rfl) (by rfl) (by rfl) (by rw [show jwl (p8) = p8 from jwl_idd (by omega) (by omega), decide_eq_true (by omega)]; first | (simp only [cond_true, cond_false]; done) | (simp only [cond_true, cond_false]; omega) | rfl) ?_
  refine jT_xladd (x := p7) (y := -p8) (z := p7 - p8) (pcN := 21) jIQ_39_20 rfl (by omega) rfl ?_
  refine jT_xlstore_n (v := (1, p7 - p8)) (LN := [(2, (1, p7 - p8)), (4, (0, 2)), (0, (4, 0)), (1, (4, 1))]) (pcN := 22) jIQ_39_21 rfl rfl rfl rfl ?_
  refine jT_xiinc (x := 2) (z := 3) (LN := [(4, (0, 3)), (2, (1, p7 - p8)), (0, (4, 0)), (1, (4, 1))]) (pcN := 25) jIQ_39_22 rfl rfl (by decide) rfl rfl ?_
  refine jT_xgoto (pcN := 5) jIQ_39_25 rfl ?_
  refine jT_xiload (v := (0, 3)) (pcN := 7) jIQ_39_5 rfl rfl rfl ?_
  refine jT_xbipush (k := 6) (pcN := 9) jIQ_39_7 (by decide) rfl ?_
  refine jT_xicF (t := 28) (pcN := 12) jIQ_39_9 rfl (by decide +kernel) rfl rfl ?_
  refine jT_xlload_n (v := (1, p7 - p8)) (pcN := 13) jIQ_39_12 rfl rfl rfl ?_
  refine jT_xaload_n (v := (4, 1)) (pcN := 14) jIQ_39_13 rfl rfl rfl ?_
  refine jT_xiload (v := (0, 3)) (pcN := 16) jIQ_39_14 rfl rfl rfl ?_
  refine jT_lald (x := 0) (a := 1) (j := 3) (fs := []) (X := [q1, p7, p8, 0, 0, 0]) jIQ_39_16 rfl rfl rfl rfl ?_
  refine jT_eq (LN := [(4, (0, 3)), (2, (1, p7 - p8)), (0, (4, 0)), (1, (4, 1))]) (stN := [(1, 0), (1, p7 - p8)]) (hsN := [jgh, (101, [], [q1, p7, p8, 0, 0, 0])]) rfl rfl rfl ?_
  refine jT_labs (z := 0) (by rfl) (by rfl) (by rfl) (by rfl) (by decide +kernel) ?_
  refine jT_xladd (x := p7 - p8) (y := 0) (z := p7 - p8) (pcN := 21) jIQ_39_20 rfl (by omega) rfl ?_
  refine jT_xlstore_n (v := (1, p7 - p8)) (LN := [(2, (1, p7 - p8)), (4, (0, 3)), (0, (4, 0)), (1, (4, 1))]) (pcN := 22) jIQ_39_21 rfl rfl rfl rfl ?_
  refine jT_xiinc (x := 3) (z := 4) (LN := [(4, (0, 4)), (2, (1, p7 - p8)), (0, (4, 0)), (1, (4, 1))]) (pcN := 25) jIQ_39_22 rfl rfl (by decide) rfl rfl ?_
  refine jT_xgoto (pcN := 5) jIQ_39_25 rfl ?_
  refine jT_xiload (v := (0, 4)) (pcN := 7) jIQ_39_5 rfl rfl rfl ?_
  refine jT_xbipush (k := 6) (pcN := 9) jIQ_39_7 (by decide) rfl ?_
  refine jT_xicF (t := 28) (pcN := 12) jIQ_39_9 rfl (by decide +kernel) rfl rfl ?_
  refine jT_xlload_n (v := (1, p7 - p8)) (pcN := 13) jIQ_39_12 rfl rfl rfl ?_
  refine jT_xaload_n (v := (4, 1)) (pcN := 14) jIQ_39_13 rfl rfl rfl ?_
  refine jT_xiload (v := (0, 4)) (pcN := 16) jIQ_39_14 rfl rfl rfl ?_
  refine jT_lald (x := 0) (a := 1) (j := 4) (fs := []) (X := [q1, p7, p8, 0, 0, 0]) jIQ_39_16 rfl rfl rfl rfl ?_
  refine jT_eq (LN := [(4, (0, 4)), (2, (1, p7 - p8)), (0, (4, 0)), (1, (4, 1))]) (stN := [(1, 0), (1, p7 - p8)]) (hsN := [jgh, (101, [], [q1, p7, p8, 0, 0, 0])]) rfl rfl rfl ?_
  refine jT_labs (z := 0) (by rfl) (by rfl) (by rfl) (by rfl) (by decide +kernel) ?_
  refine jT_xladd (x := p7 - p8) (y := 0) (z := p7 - p8) (pcN := 21) jIQ_39_20 rfl (by omega) rfl ?_
  refine jT_xlstore_n (v := (1, p7 - p8)) (LN := [(2, (1, p7 - p8)), (4, (0, 4)), (0, (4, 0)), (1, (4, 1))]) (pcN := 22) jIQ_39_21 rfl rfl rfl rfl ?_
  refine jT_xiinc (x := 4) (z := 5) (LN := [(4, (0, 5)), (2, (1, p7 - p8)), (0, (4, 0)), (1, (4, 1))]) (pcN := 25) jIQ_39_22 rfl rfl (by decide) rfl rfl ?_
  refine jT_xgoto (pcN := 5) jIQ_39_25 rfl ?_
  refine jT_xiload (v := (0, 5)) (pcN := 7) jIQ_39_5 rfl rfl rfl ?_
  refine jT_xbipush (k := 6) (pcN := 9) jIQ_39_7 (by decide) rfl ?_
  refine jT_xicF (t := 28) (pcN := 12) jIQ_39_9 rfl (by decide +kernel) rfl rfl ?_
  refine jT_xlload_n (v := (1, p7 - p8)) (pcN := 13) jIQ_39_12 rfl rfl rfl ?_
  refine jT_xaload_n (v := (4, 1)) (pcN := 14) jIQ_39_13 rfl rfl rfl ?_
  refine jT_xiload (v := (0, 5)) (pcN := 16) jIQ_39_14 rfl rfl rfl ?_
  refine jT_lald (x := 0) (a := 1) (j := 5) (fs := []) (X := [q1, p7, p8, 0, 0, 0]) jIQ_39_16 rfl rfl rfl rfl ?_
  refine jT_eq (LN := [(4, (0, 5)), (2, (1, p7 - p8)), (0, (4, 0)), (1, (4, 1))]) (stN := [(1, 0), (1, p7 - p8)]) (hsN := [jgh, (101, [], [q1, p7, p8, 0, 0, 0])]) rfl rfl rfl ?_
  refine jT_labs (z := 0) (by rfl) (by rfl) (by rfl) (by rfl) (by decide +kernel) ?_
  refine jT_xladd (x := p7 - p8) (y := 0) (z := p7 - p8) (pcN := 21) jIQ_39_20 rfl (by omega) rfl ?_
  refine jT_xlstore_n (v := (1, p7 - p8)) (LN := [(2, (1, p7 - p8)), (4, (0, 5)), (0, (4, 0)), (1, (4, 1))]) (pcN := 22) jIQ_39_21 rfl rfl rfl rfl ?_
  refine jT_xiinc (x := 5) (z := 6) (LN := [(4, (0, 6)), (2, (1, p7 - p8)), (0, (4, 0)), (1, (4, 1))]) (pcN := 25) jIQ_39_22 rfl rfl (by decide) rfl rfl ?_
  refine jT_xgoto (pcN := 5) jIQ_39_25 rfl ?_
  refine jT_xiload (v := (0, 6)) (pcN := 7) jIQ_39_5 rfl rfl rfl ?_
  refine jT_xbipush (k := 6) (pcN := 9) jIQ_39_7 (by decide) rfl ?_
  refine jT_xicT (pcN := 28) jIQ_39_9 rfl (by decide +kernel) rfl ?_
  refine jT_xlload_n (v := (1, p7 - p8)) (pcN := 29) jIQ_39_28 rfl rfl rfl ?_
  exact jT_ret rfl (by decide) (by show 2 ≤ 2; omega) (by omega) (by omega) ⟨rfl, rfl, rfl⟩
theorem jQ_40_95 {xs : List Int} {d : Nat} {p7 p8 q1 : Int} (h_p7 : (-20) ≤ p7 ∧ p7 ≤ 20) (h_p8 : (-10) ≤ p8 ∧ p8 ≤ 10) (h_q1 : (-60) ≤ q1 ∧ q1 ≤ 60) (g_0 : 0 ≤ (-108917793694) * p7 - 159561683698 * p8 - 68719476736 * q1 - 1) (g_1 : 0 ≤ (-108917793694) * p7 - 159561683700 * p8 - 68719476736 * q1 - 1) (g_2 : 0 ≤ (-108917793696) * p7 - 159561683698 * p8 - 68719476736 * q1 - 1) (g_3 : 0 ≤ (-108917793696) * p7 - 159561683700 * p8 - 68719476736 * q1 - 1) (g_4 : 0 ≤ p7) (g_5 : p8 < 0) (g_6 : q1 < 0) : jT xs d 40 2 0 [(0, (4, 0)), (1, (4, 1)), (2, (1, p7 - p8))] [] [jgh, (101, [], [q1, p7, p8, 0, 0, 0])] 0 0 (fun k v hsN => k = 0 ∧ v = (0, 1) ∧ hsN = [jgh, (101, [], [q1, p7, p8, 0, 0, 0])] ++ []) := by
  refine jT_xlload_n (v := (1, p7 - p8)) (pcN := 1) jIQ_40_0 rfl rfl rfl ?_
  refine jT_adv 1 (pcN := 4) (LN := [(0, (4, 0)), (1, (4, 1)), (2, (1, p7 - p8))]) (stN := [(1, 16777216), (1, p7 - p8)]) (hsN := [jgh, (101, [], [q1, p7, p8, 0, 0, 0])]) (c1 := 0) (s1 := 0) (c2 := 0) (s2 := 0) (by exact rfl) ?_ (by omega) (by omega)
  refine jT_lcmp (a := p7 - p8) (b := 16777216) (z := (-1)) (by rfl) (by rfl) (jwl_idd (by omega) (by omega)) (jwl_idd (by omega) (by omega)) (by rw [decide_eq_false (show ¬ ((16777216 : Int) < p7 - p8) by omega), decide_eq_false (show ¬ ((p7 - p8 : Int) = 16777216) by omega)]; rfl) ?_
  refine jT_xifF (t := 25) (pcN := 8) jIQ_40_5 rfl (by decide +kernel) rfl rfl ?_
  refine jT_xaload_n (v := (4, 1)) (pcN := 9) jIQ_40_8 rfl rfl rfl ?_
  refine jT_xiconst (k := 0) (pcN := 10) jIQ_40_9 rfl ?_
  refine jT_lald (x := q1) (a := 1) (j := 0) (fs := []) (X := [q1, p7, p8, 0, 0, 0]) jIQ_40_10 rfl rfl rfl rfl ?_
  refine jT_eq (LN := [(0, (4, 0)), (1, (4, 1)), (2, (1, p7 - p8))]) (stN := [(1, q1)]) (hsN := [jgh, (101, [], [q1, p7, p8, 0, 0, 0])]) rfl rfl rfl ?_
  refine jT_labs (z := -q1) (by rfl) (by rfl) (by rfl) (by rfl) (by rw [show jwl (q1) = q1 from jwl_idd (by omega) (by omega), decide_eq_true (by omega)]; first | (simp only [cond_true, cond_false]; done) | (simp only [cond_true, cond_false]; omega) | rfl) ?_
  refine jT_adv 1 (pcN := 17) (LN := [(0, (4, 0)), (1, (4, 1)), (2, (1, p7 - p8))]) (stN := [(1, 16777216), (1, -q1)]) (hsN := [jgh, (101, [], [q1, p7, p8, 0, 0, 0])]) (c1 := 0) (s1 := 0) (c2 := 0) (s2 := 0) (by exact rfl) ?_ (by omega) (by omega)
  refine jT_lcmp (a := -q1) (b := 16777216) (z := (-1)) (by rfl) (by rfl) (jwl_idd (by omega) (by omega)) (jwl_idd (by omega) (by omega)) (by rw [decide_eq_false (show ¬ ((16777216 : Int) < -q1) by omega), decide_eq_false (show ¬ ((-q1 : Int) = 16777216) by omega)]; rfl) ?_
  refine jT_xifF (t := 25) (pcN := 21) jIQ_40_18 rfl (by decide +kernel) rfl rfl ?_
  refine jT_xiconst (k := 1) (pcN := 22) jIQ_40_21 rfl ?_
  refine jT_xgoto (pcN := 26) jIQ_40_22 rfl ?_
  exact jT_ret rfl (by decide) (by show 2 ≤ 2; omega) (by omega) (by omega) ⟨rfl, rfl, rfl⟩
theorem jQ_41_96 {xs : List Int} {d : Nat} {p7 p8 q1 : Int} (h_p7 : (-20) ≤ p7 ∧ p7 ≤ 20) (h_p8 : (-10) ≤ p8 ∧ p8 ≤ 10) (h_q1 : (-60) ≤ q1 ∧ q1 ≤ 60) (g_0 : 0 ≤ (-108917793694) * p7 - 159561683698 * p8 - 68719476736 * q1 - 1) (g_1 : 0 ≤ (-108917793694) * p7 - 159561683700 * p8 - 68719476736 * q1 - 1) (g_2 : 0 ≤ (-108917793696) * p7 - 159561683698 * p8 - 68719476736 * q1 - 1) (g_3 : 0 ≤ (-108917793696) * p7 - 159561683700 * p8 - 68719476736 * q1 - 1) (g_4 : 0 ≤ p7) (g_5 : p8 < 0) (g_6 : q1 < 0) : jT xs d 41 2 0 [(0, (4, 0)), (1, (4, 1))] [] [jgh, (101, [], [q1, p7, p8, 0, 0, 0])] 0 0 (fun k v hsN => k = 0 ∧ v = (1, 108917793695 * p7 + 159561683699 * p8 + 68719476736 * q1) ∧ hsN = [jgh, (101, [], [q1, p7, p8, 0, 0, 0])] ++ []) := by
  refine jT_xlconst (z := 0) (pcN := 1) jIQ_41_0 rfl rfl ?_
  refine jT_xlstore_n (v := (1, 0)) (LN := [(2, (1, 0)), (0, (4, 0)), (1, (4, 1))]) (pcN := 2) jIQ_41_1 rfl rfl rfl rfl ?_
  refine jT_xiconst (k := 0) (pcN := 3) jIQ_41_2 rfl ?_
  refine jT_xistore (v := (0, 0)) (LN := [(4, (0, 0)), (2, (1, 0)), (0, (4, 0)), (1, (4, 1))]) (pcN := 5) jIQ_41_3 rfl rfl rfl rfl ?_
  refine jT_xiload (v := (0, 0)) (pcN := 7) jIQ_41_5 rfl rfl rfl ?_
  refine jT_xbipush (k := 6) (pcN := 9) jIQ_41_7 (by decide) rfl ?_
  refine jT_xicF (t := 32) (pcN := 12) jIQ_41_9 rfl (by decide +kernel) rfl rfl ?_
  refine jT_xlload_n (v := (1, 0)) (pcN := 13) jIQ_41_12 rfl rfl rfl ?_
  refine jT_xaload_n (v := (4, 1)) (pcN := 14) jIQ_41_13 rfl rfl rfl ?_
  refine jT_xiload (v := (0, 0)) (pcN := 16) jIQ_41_14 rfl rfl rfl ?_
  refine jT_lald (x := q1) (a := 1) (j := 0) (fs := []) (X := [q1, p7, p8, 0, 0, 0]) jIQ_41_16 rfl rfl rfl rfl ?_
  refine jT_eq (LN := [(4, (0, 0)), (2, (1, 0)), (0, (4, 0)), (1, (4, 1))]) (stN := [(1, q1), (1, 0)]) (hsN := [jgh, (101, [], [q1, p7, p8, 0, 0, 0])]) rfl rfl rfl ?_
  refine jT_adv 1 (pcN := 20) (LN := [(4, (0, 0)), (2, (1, 0)), (0, (4, 0)), (1, (4, 1))]) (stN := [(5, 0), (1, q1), (1, 0)]) (hsN := [jgh, (101, [], [q1, p7, p8, 0, 0, 0])]) (c1 := 0) (s1 := 0) (c2 := 0) (s2 := 0) (by exact rfl) ?_ (by omega) (by omega)
  refine jT_xiload (v := (0, 0)) (pcN := 22) jIQ_41_20 rfl rfl rfl ?_
  refine jT_adv 1 (pcN := 23) (LN := [(4, (0, 0)), (2, (1, 0)), (0, (4, 0)), (1, (4, 1))]) (stN := [(1, 68719476736), (1, q1), (1, 0)]) (hsN := [jgh, (101, [], [q1, p7, p8, 0, 0, 0])]) (c1 := 0) (s1 := 0) (c2 := 0) (s2 := 0) (by exact rfl) ?_ (by omega) (by omega)
  refine jT_xlmul (x := q1) (y := 68719476736) (z := 68719476736 * q1) (pcN := 24) jIQ_41_23 rfl (by omega) rfl ?_
  refine jT_xladd (x := 0) (y := 68719476736 * q1) (z := 68719476736 * q1) (pcN := 25) jIQ_41_24 rfl (by omega) rfl ?_
  refine jT_xlstore_n (v := (1, 68719476736 * q1)) (LN := [(2, (1, 68719476736 * q1)), (4, (0, 0)), (0, (4, 0)), (1, (4, 1))]) (pcN := 26) jIQ_41_25 rfl rfl rfl rfl ?_
  refine jT_xiinc (x := 0) (z := 1) (LN := [(4, (0, 1)), (2, (1, 68719476736 * q1)), (0, (4, 0)), (1, (4, 1))]) (pcN := 29) jIQ_41_26 rfl rfl (by decide) rfl rfl ?_
  refine jT_xgoto (pcN := 5) jIQ_41_29 rfl ?_
  refine jT_xiload (v := (0, 1)) (pcN := 7) jIQ_41_5 rfl rfl rfl ?_
  refine jT_xbipush (k := 6) (pcN := 9) jIQ_41_7 (by decide) rfl ?_
  refine jT_xicF (t := 32) (pcN := 12) jIQ_41_9 rfl (by decide +kernel) rfl rfl ?_
  refine jT_xlload_n (v := (1, 68719476736 * q1)) (pcN := 13) jIQ_41_12 rfl rfl rfl ?_
  refine jT_xaload_n (v := (4, 1)) (pcN := 14) jIQ_41_13 rfl rfl rfl ?_
  refine jT_xiload (v := (0, 1)) (pcN := 16) jIQ_41_14 rfl rfl rfl ?_
  refine jT_lald (x := p7) (a := 1) (j := 1) (fs := []) (X := [q1, p7, p8, 0, 0, 0]) jIQ_41_16 rfl rfl rfl rfl ?_
  refine jT_eq (LN := [(4, (0, 1)), (2, (1, 68719476736 * q1)), (0, (4, 0)), (1, (4, 1))]) (stN := [(1, p7), (1, 68719476736 * q1)]) (hsN := [jgh, (101, [], [q1, p7, p8, 0, 0, 0])]) rfl rfl rfl ?_
  refine jT_adv 1 (pcN := 20) (LN := [(4, (0, 1)), (2, (1, 68719476736 * q1)), (0, (4, 0)), (1, (4, 1))]) (stN := [(5, 0), (1, p7), (1, 68719476736 * q1)]) (hsN := [jgh, (101, [], [q1, p7, p8, 0, 0, 0])]) (c1 := 0) (s1 := 0) (c2 := 0) (s2 := 0) (by exact rfl) ?_ (by omega) (by omega)
  refine jT_xiload (v := (0, 1)) (pcN := 22) jIQ_41_20 rfl rfl rfl ?_
  refine jT_adv 1 (pcN := 23) (LN := [(4, (0, 1)), (2, (1, 68719476736 * q1)), (0, (4, 0)), (1, (4, 1))]) (stN := [(1, 108917793695), (1, p7), (1, 68719476736 * q1)]) (hsN := [jgh, (101, [], [q1, p7, p8, 0, 0, 0])]) (c1 := 0) (s1 := 0) (c2 := 0) (s2 := 0) (by exact rfl) ?_ (by omega) (by omega)
  refine jT_xlmul (x := p7) (y := 108917793695) (z := 108917793695 * p7) (pcN := 24) jIQ_41_23 rfl (by omega) rfl ?_
  refine jT_xladd (x := 68719476736 * q1) (y := 108917793695 * p7) (z := 108917793695 * p7 + 68719476736 * q1) (pcN := 25) jIQ_41_24 rfl (by omega) rfl ?_
  refine jT_xlstore_n (v := (1, 108917793695 * p7 + 68719476736 * q1)) (LN := [(2, (1, 108917793695 * p7 + 68719476736 * q1)), (4, (0, 1)), (0, (4, 0)), (1, (4, 1))]) (pcN := 26) jIQ_41_25 rfl rfl rfl rfl ?_
  refine jT_xiinc (x := 1) (z := 2) (LN := [(4, (0, 2)), (2, (1, 108917793695 * p7 + 68719476736 * q1)), (0, (4, 0)), (1, (4, 1))]) (pcN := 29) jIQ_41_26 rfl rfl (by decide) rfl rfl ?_
  refine jT_xgoto (pcN := 5) jIQ_41_29 rfl ?_
  refine jT_xiload (v := (0, 2)) (pcN := 7) jIQ_41_5 rfl rfl rfl ?_
  refine jT_xbipush (k := 6) (pcN := 9) jIQ_41_7 (by decide) rfl ?_
  refine jT_xicF (t := 32) (pcN := 12) jIQ_41_9 rfl (by decide +kernel) rfl rfl ?_
  refine jT_xlload_n (v := (1, 108917793695 * p7 + 68719476736 * q1)) (pcN := 13) jIQ_41_12 rfl rfl rfl ?_
  refine jT_xaload_n (v := (4, 1)) (pcN := 14) jIQ_41_13 rfl rfl rfl ?_
  refine jT_xiload (v := (0, 2)) (pcN := 16) jIQ_41_14 rfl rfl rfl ?_
  refine jT_lald (x := p8) (a := 1) (j := 2) (fs := []) (X := [q1, p7, p8, 0, 0, 0]) jIQ_41_16 rfl rfl rfl rfl ?_
  refine jT_eq (LN := [(4, (0, 2)), (2, (1, 108917793695 * p7 + 68719476736 * q1)), (0, (4, 0)), (1, (4, 1))]) (stN := [(1, p8), (1, 108917793695 * p7 + 68719476736 * q1)]) (hsN := [jgh, (101, [], [q1, p7, p8, 0, 0, 0])]) rfl rfl rfl ?_
  refine jT_adv 1 (pcN := 20) (LN := [(4, (0, 2)), (2, (1, 108917793695 * p7 + 68719476736 * q1)), (0, (4, 0)), (1, (4, 1))]) (stN := [(5, 0), (1, p8), (1, 108917793695 * p7 + 68719476736 * q1)]) (hsN := [jgh, (101, [], [q1, p7, p8, 0, 0, 0])]) (c1 := 0) (s1 := 0) (c2 := 0) (s2 := 0) (by exact rfl) ?_ (by omega) (by omega)
  refine jT_xiload (v := (0, 2)) (pcN := 22) jIQ_41_20 rfl rfl rfl ?_
  refine jT_adv 1 (pcN := 23) (LN := [(4, (0, 2)), (2, (1, 108917793695 * p7 + 68719476736 * q1)), (0, (4, 0)), (1, (4, 1))]) (stN := [(1, 159561683699), (1, p8), (1, 108917793695 * p7 + 68719476736 * q1)]) (hsN := [jgh, (101, [], [q1, p7, p8, 0, 0, 0])]) (c1 := 0) (s1 := 0) (c2 := 0) (s2 := 0) (by exact rfl) ?_ (by omega) (by omega)
  refine jT_xlmul (x := p8) (y := 159561683699) (z := 159561683699 * p8) (pcN := 24) jIQ_41_23 rfl (by omega) rfl ?_
  refine jT_xladd (x := 108917793695 * p7 + 68719476736 * q1) (y := 159561683699 * p8) (z := 108917793695 * p7 + 159561683699 * p8 + 68719476736 * q1) (pcN := 25) jIQ_41_24 rfl (by omega) rfl ?_
  refine jT_xlstore_n (v := (1, 108917793695 * p7 + 159561683699 * p8 + 68719476736 * q1)) (LN := [(2, (1, 108917793695 * p7 + 159561683699 * p8 + 68719476736 * q1)), (4, (0, 2)), (0, (4, 0)), (1, (4, 1))]) (pcN := 26) jIQ_41_25 rfl rfl rfl rfl ?_
  refine jT_xiinc (x := 2) (z := 3) (LN := [(4, (0, 3)), (2, (1, 108917793695 * p7 + 159561683699 * p8 + 68719476736 * q1)), (0, (4, 0)), (1, (4, 1))]) (pcN := 29) jIQ_41_26 rfl rfl (by decide) rfl rfl ?_
  refine jT_xgoto (pcN := 5) jIQ_41_29 rfl ?_
  refine jT_xiload (v := (0, 3)) (pcN := 7) jIQ_41_5 rfl rfl rfl ?_
  refine jT_xbipush (k := 6) (pcN := 9) jIQ_41_7 (by decide) rfl ?_
  refine jT_xicF (t := 32) (pcN := 12) jIQ_41_9 rfl (by decide +kernel) rfl rfl ?_
  refine jT_xlload_n (v := (1, 108917793695 * p7 + 159561683699 * p8 + 68719476736 * q1)) (pcN := 13) jIQ_41_12 rfl rfl rfl ?_
  refine jT_xaload_n (v := (4, 1)) (pcN := 14) jIQ_41_13 rfl rfl rfl ?_
  refine jT_xiload (v := (0, 3)) (pcN := 16) jIQ_41_14 rfl rfl rfl ?_
  refine jT_lald (x := 0) (a := 1) (j := 3) (fs := []) (X := [q1, p7, p8, 0, 0, 0]) jIQ_41_16 rfl rfl rfl rfl ?_
  refine jT_eq (LN := [(4, (0, 3)), (2, (1, 108917793695 * p7 + 159561683699 * p8 + 68719476736 * q1)), (0, (4, 0)), (1, (4, 1))]) (stN := [(1, 0), (1, 108917793695 * p7 + 159561683699 * p8 + 68719476736 * q1)]) (hsN := [jgh, (101, [], [q1, p7, p8, 0, 0, 0])]) rfl rfl rfl ?_
  refine jT_adv 1 (pcN := 20) (LN := [(4, (0, 3)), (2, (1, 108917793695 * p7 + 159561683699 * p8 + 68719476736 * q1)), (0, (4, 0)), (1, (4, 1))]) (stN := [(5, 0), (1, 0), (1, 108917793695 * p7 + 159561683699 * p8 + 68719476736 * q1)]) (hsN := [jgh, (101, [], [q1, p7, p8, 0, 0, 0])]) (c1 := 0) (s1 := 0) (c2 := 0) (s2 := 0) (by exact rfl) ?_ (by omega) (by omega)
  refine jT_xiload (v := (0, 3)) (pcN := 22) jIQ_41_20 rfl rfl rfl ?_
  refine jT_adv 1 (pcN := 23) (LN := [(4, (0, 3)), (2, (1, 108917793695 * p7 + 159561683699 * p8 + 68719476736 * q1)), (0, (4, 0)), (1, (4, 1))]) (stN := [(1, 192919961256), (1, 0), (1, 108917793695 * p7 + 159561683699 * p8 + 68719476736 * q1)]) (hsN := [jgh, (101, [], [q1, p7, p8, 0, 0, 0])]) (c1 := 0) (s1 := 0) (c2 := 0) (s2 := 0) (by exact rfl) ?_ (by omega) (by omega)
  refine jT_xlmul (x := 0) (y := 192919961256) (z := 0) (pcN := 24) jIQ_41_23 rfl (by decide) rfl ?_
  refine jT_xladd (x := 108917793695 * p7 + 159561683699 * p8 + 68719476736 * q1) (y := 0) (z := 108917793695 * p7 + 159561683699 * p8 + 68719476736 * q1) (pcN := 25) jIQ_41_24 rfl (by omega) rfl ?_
  refine jT_xlstore_n (v := (1, 108917793695 * p7 + 159561683699 * p8 + 68719476736 * q1)) (LN := [(2, (1, 108917793695 * p7 + 159561683699 * p8 + 68719476736 * q1)), (4, (0, 3)), (0, (4, 0)), (1, (4, 1))]) (pcN := 26) jIQ_41_25 rfl rfl rfl rfl ?_
  refine jT_xiinc (x := 3) (z := 4) (LN := [(4, (0, 4)), (2, (1, 108917793695 * p7 + 159561683699 * p8 + 68719476736 * q1)), (0, (4, 0)), (1, (4, 1))]) (pcN := 29) jIQ_41_26 rfl rfl (by decide) rfl rfl ?_
  refine jT_xgoto (pcN := 5) jIQ_41_29 rfl ?_
  refine jT_xiload (v := (0, 4)) (pcN := 7) jIQ_41_5 rfl rfl rfl ?_
  refine jT_xbipush (k := 6) (pcN := 9) jIQ_41_7 (by decide) rfl ?_
  refine jT_xicF (t := 32) (pcN := 12) jIQ_41_9 rfl (by decide +kernel) rfl rfl ?_
  refine jT_xlload_n (v := (1, 108917793695 * p7 + 159561683699 * p8 + 68719476736 * q1)) (pcN := 13) jIQ_41_12 rfl rfl rfl ?_
  refine jT_xaload_n (v := (4, 1)) (pcN := 14) jIQ_41_13 rfl rfl rfl ?_
  refine jT_xiload (v := (0, 4)) (pcN := 16) jIQ_41_14 rfl rfl rfl ?_
  refine jT_lald (x := 0) (a := 1) (j := 4) (fs := []) (X := [q1, p7, p8, 0, 0, 0]) jIQ_41_16 rfl rfl rfl rfl ?_
  refine jT_eq (LN := [(4, (0, 4)), (2, (1, 108917793695 * p7 + 159561683699 * p8 + 68719476736 * q1)), (0, (4, 0)), (1, (4, 1))]) (stN := [(1, 0), (1, 108917793695 * p7 + 159561683699 * p8 + 68719476736 * q1)]) (hsN := [jgh, (101, [], [q1, p7, p8, 0, 0, 0])]) rfl rfl rfl ?_
  refine jT_adv 1 (pcN := 20) (LN := [(4, (0, 4)), (2, (1, 108917793695 * p7 + 159561683699 * p8 + 68719476736 * q1)), (0, (4, 0)), (1, (4, 1))]) (stN := [(5, 0), (1, 0), (1, 108917793695 * p7 + 159561683699 * p8 + 68719476736 * q1)]) (hsN := [jgh, (101, [], [q1, p7, p8, 0, 0, 0])]) (c1 := 0) (s1 := 0) (c2 := 0) (s2 := 0) (by exact rfl) ?_ (by omega) (by omega)
  refine jT_xiload (v := (0, 4)) (pcN := 22) jIQ_41_20 rfl rfl rfl ?_
  refine jT_adv 1 (pcN := 23) (LN := [(4, (0, 4)), (2, (1, 108917793695 * p7 + 159561683699 * p8 + 68719476736 * q1)), (0, (4, 0)), (1, (4, 1))]) (stN := [(1, 237730330636), (1, 0), (1, 108917793695 * p7 + 159561683699 * p8 + 68719476736 * q1)]) (hsN := [jgh, (101, [], [q1, p7, p8, 0, 0, 0])]) (c1 := 0) (s1 := 0) (c2 := 0) (s2 := 0) (by exact rfl) ?_ (by omega) (by omega)
  refine jT_xlmul (x := 0) (y := 237730330636) (z := 0) (pcN := 24) jIQ_41_23 rfl (by decide) rfl ?_
  refine jT_xladd (x := 108917793695 * p7 + 159561683699 * p8 + 68719476736 * q1) (y := 0) (z := 108917793695 * p7 + 159561683699 * p8 + 68719476736 * q1) (pcN := 25) jIQ_41_24 rfl (by omega) rfl ?_
  refine jT_xlstore_n (v := (1, 108917793695 * p7 + 159561683699 * p8 + 68719476736 * q1)) (LN := [(2, (1, 108917793695 * p7 + 159561683699 * p8 + 68719476736 * q1)), (4, (0, 4)), (0, (4, 0)), (1, (4, 1))]) (pcN := 26) jIQ_41_25 rfl rfl rfl rfl ?_
  refine jT_xiinc (x := 4) (z := 5) (LN := [(4, (0, 5)), (2, (1, 108917793695 * p7 + 159561683699 * p8 + 68719476736 * q1)), (0, (4, 0)), (1, (4, 1))]) (pcN := 29) jIQ_41_26 rfl rfl (by decide) rfl rfl ?_
  refine jT_xgoto (pcN := 5) jIQ_41_29 rfl ?_
  refine jT_xiload (v := (0, 5)) (pcN := 7) jIQ_41_5 rfl rfl rfl ?_
  refine jT_xbipush (k := 6) (pcN := 9) jIQ_41_7 (by decide) rfl ?_
  refine jT_xicF (t := 32) (pcN := 12) jIQ_41_9 rfl (by decide +kernel) rfl rfl ?_
  refine jT_xlload_n (v := (1, 108917793695 * p7 + 159561683699 * p8 + 68719476736 * q1)) (pcN := 13) jIQ_41_12 rfl rfl rfl ?_
  refine jT_xaload_n (v := (4, 1)) (pcN := 14) jIQ_41_13 rfl rfl rfl ?_
  refine jT_xiload (v := (0, 5)) (pcN := 16) jIQ_41_14 rfl rfl rfl ?_
  refine jT_lald (x := 0) (a := 1) (j := 5) (fs := []) (X := [q1, p7, p8, 0, 0, 0]) jIQ_41_16 rfl rfl rfl rfl ?_
  refine jT_eq (LN := [(4, (0, 5)), (2, (1, 108917793695 * p7 + 159561683699 * p8 + 68719476736 * q1)), (0, (4, 0)), (1, (4, 1))]) (stN := [(1, 0), (1, 108917793695 * p7 + 159561683699 * p8 + 68719476736 * q1)]) (hsN := [jgh, (101, [], [q1, p7, p8, 0, 0, 0])]) rfl rfl rfl ?_
  refine jT_adv 1 (pcN := 20) (LN := [(4, (0, 5)), (2, (1, 108917793695 * p7 + 159561683699 * p8 + 68719476736 * q1)), (0, (4, 0)), (1, (4, 1))]) (stN := [(5, 0), (1, 0), (1, 108917793695 * p7 + 159561683699 * p8 + 68719476736 * q1)]) (hsN := [jgh, (101, [], [q1, p7, p8, 0, 0, 0])]) (c1 := 0) (s1 := 0) (c2 := 0) (s2 := 0) (by exact rfl) ?_ (by omega) (by omega)
  refine jT_xiload (v := (0, 5)) (pcN := 22) jIQ_41_20 rfl rfl rfl ?_
  refine jT_adv 1 (pcN := 23) (LN := [(4, (0, 5)), (2, (1, 108917793695 * p7 + 159561683699 * p8 + 68719476736 * q1)), (0, (4, 0)), (1, (4, 1))]) (stN := [(1, 254292281123), (1, 0), (1, 108917793695 * p7 + 159561683699 * p8 + 68719476736 * q1)]) (hsN := [jgh, (101, [], [q1, p7, p8, 0, 0, 0])]) (c1 := 0) (s1 := 0) (c2 := 0) (s2 := 0) (by exact rfl) ?_ (by omega) (by omega)
  refine jT_xlmul (x := 0) (y := 254292281123) (z := 0) (pcN := 24) jIQ_41_23 rfl (by decide) rfl ?_
  refine jT_xladd (x := 108917793695 * p7 + 159561683699 * p8 + 68719476736 * q1) (y := 0) (z := 108917793695 * p7 + 159561683699 * p8 + 68719476736 * q1) (pcN := 25) jIQ_41_24 rfl (by omega) rfl ?_
  refine jT_xlstore_n (v := (1, 108917793695 * p7 + 159561683699 * p8 + 68719476736 * q1)) (LN := [(2, (1, 108917793695 * p7 + 159561683699 * p8 + 68719476736 * q1)), (4, (0, 5)), (0, (4, 0)), (1, (4, 1))]) (pcN := 26) jIQ_41_25 rfl rfl rfl rfl ?_
  refine jT_xiinc (x := 5) (z := 6) (LN := [(4, (0, 6)), (2, (1, 108917793695 * p7 + 159561683699 * p8 + 68719476736 * q1)), (0, (4, 0)), (1, (4, 1))]) (pcN := 29) jIQ_41_26 rfl rfl (by decide) rfl rfl ?_
  refine jT_xgoto (pcN := 5) jIQ_41_29 rfl ?_
  refine jT_xiload (v := (0, 6)) (pcN := 7) jIQ_41_5 rfl rfl rfl ?_
  refine jT_xbipush (k := 6) (pcN := 9) jIQ_41_7 (by decide) rfl ?_
  refine jT_xicT (pcN := 32) jIQ_41_9 rfl (by decide +kernel) rfl ?_
  refine jT_xlload_n (v := (1, 108917793695 * p7 + 159561683699 * p8 + 68719476736 * q1)) (pcN := 33) jIQ_41_32 rfl rfl rfl ?_
  exact jT_ret rfl (by decide) (by show 2 ≤ 2; omega) (by omega) (by omega) ⟨rfl, rfl, rfl⟩
theorem jQ_39_97 {xs : List Int} {d : Nat} {p7 p8 q1 : Int} (h_p7 : (-20) ≤ p7 ∧ p7 ≤ 20) (h_p8 : (-10) ≤ p8 ∧ p8 ≤ 10) (h_q1 : (-60) ≤ q1 ∧ q1 ≤ 60) (g_0 : 0 ≤ (-108917793694) * p7 - 159561683698 * p8 - 68719476736 * q1 - 1) (g_1 : 0 ≤ (-108917793694) * p7 - 159561683700 * p8 - 68719476736 * q1 - 1) (g_2 : 0 ≤ (-108917793696) * p7 - 159561683698 * p8 - 68719476736 * q1 - 1) (g_3 : 0 ≤ (-108917793696) * p7 - 159561683700 * p8 - 68719476736 * q1 - 1) (g_4 : 0 ≤ p7) (g_5 : p8 < 0) (g_6 : 0 ≤ q1) : jT xs d 39 2 0 [(0, (4, 0)), (1, (4, 1))] [] [jgh, (101, [], [q1, p7, p8, 0, 0, 0])] 0 0 (fun k v hsN => k = 0 ∧ v = (1, p7 - p8) ∧ hsN = [jgh, (101, [], [q1, p7, p8, 0, 0, 0])] ++ []) := by
  refine jT_xlconst (z := 0) (pcN := 1) jIQ_39_0 rfl rfl ?_
  refine jT_xlstore_n (v := (1, 0)) (LN := [(2, (1, 0)), (0, (4, 0)), (1, (4, 1))]) (pcN := 2) jIQ_39_1 rfl rfl rfl rfl ?_
  refine jT_xiconst (k := 1) (pcN := 3) jIQ_39_2 rfl ?_
  refine jT_xistore (v := (0, 1)) (LN := [(4, (0, 1)), (2, (1, 0)), (0, (4, 0)), (1, (4, 1))]) (pcN := 5) jIQ_39_3 rfl rfl rfl rfl ?_
  refine jT_xiload (v := (0, 1)) (pcN := 7) jIQ_39_5 rfl rfl rfl ?_
  refine jT_xbipush (k := 6) (pcN := 9) jIQ_39_7 (by decide) rfl ?_
  refine jT_xicF (t := 28) (pcN := 12) jIQ_39_9 rfl (by decide +kernel) rfl rfl ?_
  refine jT_xlload_n (v := (1, 0)) (pcN := 13) jIQ_39_12 rfl rfl rfl ?_
  refine jT_xaload_n (v := (4, 1)) (pcN := 14) jIQ_39_13 rfl rfl rfl ?_
  refine jT_xiload (v := (0, 1)) (pcN := 16) jIQ_39_14 rfl rfl rfl ?_
  refine jT_lald (x := p7) (a := 1) (j := 1) (fs := []) (X := [q1, p7, p8, 0, 0, 0]) jIQ_39_16 rfl rfl rfl rfl ?_
  refine jT_eq (LN := [(4, (0, 1)), (2, (1, 0)), (0, (4, 0)), (1, (4, 1))]) (stN := [(1, p7), (1, 0)]) (hsN := [jgh, (101, [], [q1, p7, p8, 0, 0, 0])]) rfl rfl rfl ?_
  refine jT_labs (z := p7) (by rfl) (by rfl) (by rfl) (by rfl) (by rw [show jwl (p7) = p7 from jwl_idd (by omega) (by omega), decide_eq_false (by omega)]; first | (simp only [cond_true, cond_false]; done) | (simp only [cond_true, cond_false]; omega) | rfl) ?_
  refine jT_xladd (x := 0) (y := p7) (z := p7) (pcN := 21) jIQ_39_20 rfl (by omega) rfl ?_
  refine jT_xlstore_n (v := (1, p7)) (LN := [(2, (1, p7)), (4, (0, 1)), (0, (4, 0)), (1, (4, 1))]) (pcN := 22) jIQ_39_21 rfl rfl rfl rfl ?_
  refine jT_xiinc (x := 1) (z := 2) (LN := [(4, (0, 2)), (2, (1, p7)), (0, (4, 0)), (1, (4, 1))]) (pcN := 25) jIQ_39_22 rfl rfl (by decide) rfl rfl ?_
  refine jT_xgoto (pcN := 5) jIQ_39_25 rfl ?_
  refine jT_xiload (v := (0, 2)) (pcN := 7) jIQ_39_5 rfl rfl rfl ?_
  refine jT_xbipush (k := 6) (pcN := 9) jIQ_39_7 (by decide) rfl ?_
  refine jT_xicF (t := 28) (pcN := 12) jIQ_39_9 rfl (by decide +kernel) rfl rfl ?_
  refine jT_xlload_n (v := (1, p7)) (pcN := 13) jIQ_39_12 rfl rfl rfl ?_
  refine jT_xaload_n (v := (4, 1)) (pcN := 14) jIQ_39_13 rfl rfl rfl ?_
  refine jT_xiload (v := (0, 2)) (pcN := 16) jIQ_39_14 rfl rfl rfl ?_
  refine jT_lald (x := p8) (a := 1) (j := 2) (fs := []) (X := [q1, p7, p8, 0, 0, 0]) jIQ_39_16 rfl rfl rfl rfl ?_
  refine jT_eq (LN := [(4, (0, 2)), (2, (1, p7)), (0, (4, 0)), (1, (4, 1))]) (stN := [(1, p8), (1, p7)]) (hsN := [jgh, (101, [], [q1, p7, p8, 0, 0, 0])]) rfl rfl rfl ?_
  refine jT_labs (z := -p8) (by rfl) (by rfl) (by rfl) (by rfl) (by rw [show jwl (p8) = p8 from jwl_idd (by omega) (by omega), decide_eq_true (by omega)]; first | (simp only [cond_true, cond_false]; done) | (simp only [cond_true, cond_false]; omega) | rfl) ?_
  refine jT_xladd (x := p7) (y := -p8) (z := p7 - p8) (pcN := 21) jIQ_39_20 rfl (by omega) rfl ?_
  refine jT_xlstore_n (v := (1, p7 - p8)) (LN := [(2, (1, p7 - p8)), (4, (0, 2)), (0, (4, 0)), (1, (4, 1))]) (pcN := 22) jIQ_39_21 rfl rfl rfl rfl ?_
  refine jT_xiinc (x := 2) (z := 3) (LN := [(4, (0, 3)), (2, (1, p7 - p8)), (0, (4, 0)), (1, (4, 1))]) (pcN := 25) jIQ_39_22 rfl rfl (by decide) rfl rfl ?_
  refine jT_xgoto (pcN := 5) jIQ_39_25 rfl ?_
  refine jT_xiload (v := (0, 3)) (pcN := 7) jIQ_39_5 rfl rfl rfl ?_
  refine jT_xbipush (k := 6) (pcN := 9) jIQ_39_7 (by decide) rfl ?_
  refine jT_xicF (t := 28) (pcN := 12) jIQ_39_9 rfl (by decide +kernel) rfl rfl ?_
  refine jT_xlload_n (v := (1, p7 - p8)) (pcN := 13) jIQ_39_12 rfl rfl rfl ?_
  refine jT_xaload_n (v := (4, 1)) (pcN := 14) jIQ_39_13 rfl rfl rfl ?_
  refine jT_xiload (v := (0, 3)) (pcN := 16) jIQ_39_14 rfl rfl rfl ?_
  refine jT_lald (x := 0) (a := 1) (j := 3) (fs := []) (X := [q1, p7, p8, 0, 0, 0]) jIQ_39_16 rfl rfl rfl rfl ?_
  refine jT_eq (LN := [(4, (0, 3)), (2, (1, p7 - p8)), (0, (4, 0)), (1, (4, 1))]) (stN := [(1, 0), (1, p7 - p8)]) (hsN := [jgh, (101, [], [q1, p7, p8, 0, 0, 0])]) rfl rfl rfl ?_
  refine jT_labs (z := 0) (by rfl) (by rfl) (by rfl) (by rfl) (by decide +kernel) ?_
  refine jT_xladd (x := p7 - p8) (y := 0) (z := p7 - p8) (pcN := 21) jIQ_39_20 rfl (by omega) rfl ?_
  refine jT_xlstore_n (v := (1, p7 - p8)) (LN := [(2, (1, p7 - p8)), (4, (0, 3)), (0, (4, 0)), (1, (4, 1))]) (pcN := 22) jIQ_39_21 rfl rfl rfl rfl ?_
  refine jT_xiinc (x := 3) (z := 4) (LN := [(4, (0, 4)), (2, (1, p7 - p8)), (0, (4, 0)), (1, (4, 1))]) (pcN := 25) jIQ_39_22 rfl rfl (by decide) rfl rfl ?_
  refine jT_xgoto (pcN := 5) jIQ_39_25 rfl ?_
  refine jT_xiload (v := (0, 4)) (pcN := 7) jIQ_39_5 rfl rfl rfl ?_
  refine jT_xbipush (k := 6) (pcN := 9) jIQ_39_7 (by decide) rfl ?_
  refine jT_xicF (t := 28) (pcN := 12) jIQ_39_9 rfl (by decide +kernel) rfl rfl ?_
  refine jT_xlload_n (v := (1, p7 - p8)) (pcN := 13) jIQ_39_12 rfl rfl rfl ?_
  refine jT_xaload_n (v := (4, 1)) (pcN := 14) jIQ_39_13 rfl rfl rfl ?_
  refine jT_xiload (v := (0, 4)) (pcN := 16) jIQ_39_14 rfl rfl rfl ?_
  refine jT_lald (x := 0) (a := 1) (j := 4) (fs := []) (X := [q1, p7, p8, 0, 0, 0]) jIQ_39_16 rfl rfl rfl rfl ?_
  refine jT_eq (LN := [(4, (0, 4)), (2, (1, p7 - p8)), (0, (4, 0)), (1, (4, 1))]) (stN := [(1, 0), (1, p7 - p8)]) (hsN := [jgh, (101, [], [q1, p7, p8, 0, 0, 0])]) rfl rfl rfl ?_
  refine jT_labs (z := 0) (by rfl) (by rfl) (by rfl) (by rfl) (by decide +kernel) ?_
  refine jT_xladd (x := p7 - p8) (y := 0) (z := p7 - p8) (pcN := 21) jIQ_39_20 rfl (by omega) rfl ?_
  refine jT_xlstore_n (v := (1, p7 - p8)) (LN := [(2, (1, p7 - p8)), (4, (0, 4)), (0, (4, 0)), (1, (4, 1))]) (pcN := 22) jIQ_39_21 rfl rfl rfl rfl ?_
  refine jT_xiinc (x := 4) (z := 5) (LN := [(4, (0, 5)), (2, (1, p7 - p8)), (0, (4, 0)), (1, (4, 1))]) (pcN := 25) jIQ_39_22 rfl rfl (by decide) rfl rfl ?_
  refine jT_xgoto (pcN := 5) jIQ_39_25 rfl ?_
  refine jT_xiload (v := (0, 5)) (pcN := 7) jIQ_39_5 rfl rfl rfl ?_
  refine jT_xbipush (k := 6) (pcN := 9) jIQ_39_7 (by decide) rfl ?_
  refine jT_xicF (t := 28) (pcN := 12) jIQ_39_9 rfl (by decide +kernel) rfl rfl ?_
  refine jT_xlload_n (v := (1, p7 - p8)) (pcN := 13) jIQ_39_12 rfl rfl rfl ?_
  refine jT_xaload_n (v := (4, 1)) (pcN := 14) jIQ_39_13 rfl rfl rfl ?_
  refine jT_xiload (v := (0, 5)) (pcN := 16) jIQ_39_14 rfl rfl rfl ?_
  refine jT_lald (x := 0) (a := 1) (j := 5) (fs := []) (X := [q1, p7, p8, 0, 0, 0]) jIQ_39_16 rfl rfl rfl rfl ?_
  refine jT_eq (LN := [(4, (0, 5)), (2, (1, p7 - p8)), (0, (4, 0)), (1, (4, 1))]) (stN := [(1, 0), (1, p7 - p8)]) (hsN := [jgh, (101, [], [q1, p7, p8, 0, 0, 0])]) rfl rfl rfl ?_
  refine jT_labs (z := 0) (by rfl) (by rfl) (by rfl) (by rfl) (by decide +kernel) ?_
  refine jT_xladd (x := p7 - p8) (y := 0) (z := p7 - p8) (pcN := 21) jIQ_39_20 rfl (by omega) rfl ?_
  refine jT_xlstore_n (v := (1, p7 - p8)) (LN := [(2, (1, p7 - p8)), (4, (0, 5)), (0, (4, 0)), (1, (4, 1))]) (pcN := 22) jIQ_39_21 rfl rfl rfl rfl ?_
  refine jT_xiinc (x := 5) (z := 6) (LN := [(4, (0, 6)), (2, (1, p7 - p8)), (0, (4, 0)), (1, (4, 1))]) (pcN := 25) jIQ_39_22 rfl rfl (by decide) rfl rfl ?_
  refine jT_xgoto (pcN := 5) jIQ_39_25 rfl ?_
  refine jT_xiload (v := (0, 6)) (pcN := 7) jIQ_39_5 rfl rfl rfl ?_
  refine jT_xbipush (k := 6) (pcN := 9) jIQ_39_7 (by decide) rfl ?_
  refine jT_xicT (pcN := 28) jIQ_39_9 rfl (by decide +kernel) rfl ?_
  refine jT_xlload_n (v := (1, p7 - p8)) (pcN := 29) jIQ_39_28 rfl rfl rfl ?_
  exact jT_ret rfl (by decide) (by show 2 ≤ 2; omega) (by omega) (by omega) ⟨rfl, rfl, rfl⟩
theorem jQ_40_98 {xs : List Int} {d : Nat} {p7 p8 q1 : Int} (h_p7 : (-20) ≤ p7 ∧ p7 ≤ 20) (h_p8 : (-10) ≤ p8 ∧ p8 ≤ 10) (h_q1 : (-60) ≤ q1 ∧ q1 ≤ 60) (g_0 : 0 ≤ (-108917793694) * p7 - 159561683698 * p8 - 68719476736 * q1 - 1) (g_1 : 0 ≤ (-108917793694) * p7 - 159561683700 * p8 - 68719476736 * q1 - 1) (g_2 : 0 ≤ (-108917793696) * p7 - 159561683698 * p8 - 68719476736 * q1 - 1) (g_3 : 0 ≤ (-108917793696) * p7 - 159561683700 * p8 - 68719476736 * q1 - 1) (g_4 : 0 ≤ p7) (g_5 : p8 < 0) (g_6 : 0 ≤ q1) : jT xs d 40 2 0 [(0, (4, 0)), (1, (4, 1)), (2, (1, p7 - p8))] [] [jgh, (101, [], [q1, p7, p8, 0, 0, 0])] 0 0 (fun k v hsN => k = 0 ∧ v = (0, 1) ∧ hsN = [jgh, (101, [], [q1, p7, p8, 0, 0, 0])] ++ []) := by
  refine jT_xlload_n (v := (1, p7 - p8)) (pcN := 1) jIQ_40_0 rfl rfl rfl ?_
  refine jT_adv 1 (pcN := 4) (LN := [(0, (4, 0)), (1, (4, 1)), (2, (1, p7 - p8))]) (stN := [(1, 16777216), (1, p7 - p8)]) (hsN := [jgh, (101, [], [q1, p7, p8, 0, 0, 0])]) (c1 := 0) (s1 := 0) (c2 := 0) (s2 := 0) (by exact rfl) ?_ (by omega) (by omega)
  refine jT_lcmp (a := p7 - p8) (b := 16777216) (z := (-1)) (by rfl) (by rfl) (jwl_idd (by omega) (by omega)) (jwl_idd (by omega) (by omega)) (by rw [decide_eq_false (show ¬ ((16777216 : Int) < p7 - p8) by omega), decide_eq_false (show ¬ ((p7 - p8 : Int) = 16777216) by omega)]; rfl) ?_
  refine jT_xifF (t := 25) (pcN := 8) jIQ_40_5 rfl (by decide +kernel) rfl rfl ?_
  refine jT_xaload_n (v := (4, 1)) (pcN := 9) jIQ_40_8 rfl rfl rfl ?_
  refine jT_xiconst (k := 0) (pcN := 10) jIQ_40_9 rfl ?_
  refine jT_lald (x := q1) (a := 1) (j := 0) (fs := []) (X := [q1, p7, p8, 0, 0, 0]) jIQ_40_10 rfl rfl rfl rfl ?_
  refine jT_eq (LN := [(0, (4, 0)), (1, (4, 1)), (2, (1, p7 - p8))]) (stN := [(1, q1)]) (hsN := [jgh, (101, [], [q1, p7, p8, 0, 0, 0])]) rfl rfl rfl ?_
  refine jT_labs (z := q1) (by rfl) (by rfl) (by rfl) (by rfl) (by rw [show jwl (q1) = q1 from jwl_idd (by omega) (by omega), decide_eq_false (by omega)]; first | (simp only [cond_true, cond_false]; done) | (simp only [cond_true, cond_false]; omega) | rfl) ?_
  refine jT_adv 1 (pcN := 17) (LN := [(0, (4, 0)), (1, (4, 1)), (2, (1, p7 - p8))]) (stN := [(1, 16777216), (1, q1)]) (hsN := [jgh, (101, [], [q1, p7, p8, 0, 0, 0])]) (c1 := 0) (s1 := 0) (c2 := 0) (s2 := 0) (by exact rfl) ?_ (by omega) (by omega)
  refine jT_lcmp (a := q1) (b := 16777216) (z := (-1)) (by rfl) (by rfl) (jwl_idd (by omega) (by omega)) (jwl_idd (by omega) (by omega)) (by rw [decide_eq_false (show ¬ ((16777216 : Int) < q1) by omega), decide_eq_false (show ¬ ((q1 : Int) = 16777216) by omega)]; rfl) ?_
  refine jT_xifF (t := 25) (pcN := 21) jIQ_40_18 rfl (by decide +kernel) rfl rfl ?_
  refine jT_xiconst (k := 1) (pcN := 22) jIQ_40_21 rfl ?_
  refine jT_xgoto (pcN := 26) jIQ_40_22 rfl ?_
  exact jT_ret rfl (by decide) (by show 2 ≤ 2; omega) (by omega) (by omega) ⟨rfl, rfl, rfl⟩
theorem jQ_41_99 {xs : List Int} {d : Nat} {p7 p8 q1 : Int} (h_p7 : (-20) ≤ p7 ∧ p7 ≤ 20) (h_p8 : (-10) ≤ p8 ∧ p8 ≤ 10) (h_q1 : (-60) ≤ q1 ∧ q1 ≤ 60) (g_0 : 0 ≤ (-108917793694) * p7 - 159561683698 * p8 - 68719476736 * q1 - 1) (g_1 : 0 ≤ (-108917793694) * p7 - 159561683700 * p8 - 68719476736 * q1 - 1) (g_2 : 0 ≤ (-108917793696) * p7 - 159561683698 * p8 - 68719476736 * q1 - 1) (g_3 : 0 ≤ (-108917793696) * p7 - 159561683700 * p8 - 68719476736 * q1 - 1) (g_4 : 0 ≤ p7) (g_5 : p8 < 0) (g_6 : 0 ≤ q1) : jT xs d 41 2 0 [(0, (4, 0)), (1, (4, 1))] [] [jgh, (101, [], [q1, p7, p8, 0, 0, 0])] 0 0 (fun k v hsN => k = 0 ∧ v = (1, 108917793695 * p7 + 159561683699 * p8 + 68719476736 * q1) ∧ hsN = [jgh, (101, [], [q1, p7, p8, 0, 0, 0])] ++ []) := by
  refine jT_xlconst (z := 0) (pcN := 1) jIQ_41_0 rfl rfl ?_
  refine jT_xlstore_n (v := (1, 0)) (LN := [(2, (1, 0)), (0, (4, 0)), (1, (4, 1))]) (pcN := 2) jIQ_41_1 rfl rfl rfl rfl ?_
  refine jT_xiconst (k := 0) (pcN := 3) jIQ_41_2 rfl ?_
  refine jT_xistore (v := (0, 0)) (LN := [(4, (0, 0)), (2, (1, 0)), (0, (4, 0)), (1, (4, 1))]) (pcN := 5) jIQ_41_3 rfl rfl rfl rfl ?_
  refine jT_xiload (v := (0, 0)) (pcN := 7) jIQ_41_5 rfl rfl rfl ?_
  refine jT_xbipush (k := 6) (pcN := 9) jIQ_41_7 (by decide) rfl ?_
  refine jT_xicF (t := 32) (pcN := 12) jIQ_41_9 rfl (by decide +kernel) rfl rfl ?_
  refine jT_xlload_n (v := (1, 0)) (pcN := 13) jIQ_41_12 rfl rfl rfl ?_
  refine jT_xaload_n (v := (4, 1)) (pcN := 14) jIQ_41_13 rfl rfl rfl ?_
  refine jT_xiload (v := (0, 0)) (pcN := 16) jIQ_41_14 rfl rfl rfl ?_
  refine jT_lald (x := q1) (a := 1) (j := 0) (fs := []) (X := [q1, p7, p8, 0, 0, 0]) jIQ_41_16 rfl rfl rfl rfl ?_
  refine jT_eq (LN := [(4, (0, 0)), (2, (1, 0)), (0, (4, 0)), (1, (4, 1))]) (stN := [(1, q1), (1, 0)]) (hsN := [jgh, (101, [], [q1, p7, p8, 0, 0, 0])]) rfl rfl rfl ?_
  refine jT_adv 1 (pcN := 20) (LN := [(4, (0, 0)), (2, (1, 0)), (0, (4, 0)), (1, (4, 1))]) (stN := [(5, 0), (1, q1), (1, 0)]) (hsN := [jgh, (101, [], [q1, p7, p8, 0, 0, 0])]) (c1 := 0) (s1 := 0) (c2 := 0) (s2 := 0) (by exact rfl) ?_ (by omega) (by omega)
  refine jT_xiload (v := (0, 0)) (pcN := 22) jIQ_41_20 rfl rfl rfl ?_
  refine jT_adv 1 (pcN := 23) (LN := [(4, (0, 0)), (2, (1, 0)), (0, (4, 0)), (1, (4, 1))]) (stN := [(1, 68719476736), (1, q1), (1, 0)]) (hsN := [jgh, (101, [], [q1, p7, p8, 0, 0, 0])]) (c1 := 0) (s1 := 0) (c2 := 0) (s2 := 0) (by exact rfl) ?_ (by omega) (by omega)
  refine jT_xlmul (x := q1) (y := 68719476736) (z := 68719476736 * q1) (pcN := 24) jIQ_41_23 rfl (by omega) rfl ?_
  refine jT_xladd (x := 0) (y := 68719476736 * q1) (z := 68719476736 * q1) (pcN := 25) jIQ_41_24 rfl (by omega) rfl ?_
  refine jT_xlstore_n (v := (1, 68719476736 * q1)) (LN := [(2, (1, 68719476736 * q1)), (4, (0, 0)), (0, (4, 0)), (1, (4, 1))]) (pcN := 26) jIQ_41_25 rfl rfl rfl rfl ?_
  refine jT_xiinc (x := 0) (z := 1) (LN := [(4, (0, 1)), (2, (1, 68719476736 * q1)), (0, (4, 0)), (1, (4, 1))]) (pcN := 29) jIQ_41_26 rfl rfl (by decide) rfl rfl ?_
  refine jT_xgoto (pcN := 5) jIQ_41_29 rfl ?_
  refine jT_xiload (v := (0, 1)) (pcN := 7) jIQ_41_5 rfl rfl rfl ?_
  refine jT_xbipush (k := 6) (pcN := 9) jIQ_41_7 (by decide) rfl ?_
  refine jT_xicF (t := 32) (pcN := 12) jIQ_41_9 rfl (by decide +kernel) rfl rfl ?_
  refine jT_xlload_n (v := (1, 68719476736 * q1)) (pcN := 13) jIQ_41_12 rfl rfl rfl ?_
  refine jT_xaload_n (v := (4, 1)) (pcN := 14) jIQ_41_13 rfl rfl rfl ?_
  refine jT_xiload (v := (0, 1)) (pcN := 16) jIQ_41_14 rfl rfl rfl ?_
  refine jT_lald (x := p7) (a := 1) (j := 1) (fs := []) (X := [q1, p7, p8, 0, 0, 0]) jIQ_41_16 rfl rfl rfl rfl ?_
  refine jT_eq (LN := [(4, (0, 1)), (2, (1, 68719476736 * q1)), (0, (4, 0)), (1, (4, 1))]) (stN := [(1, p7), (1, 68719476736 * q1)]) (hsN := [jgh, (101, [], [q1, p7, p8, 0, 0, 0])]) rfl rfl rfl ?_
  refine jT_adv 1 (pcN := 20) (LN := [(4, (0, 1)), (2, (1, 68719476736 * q1)), (0, (4, 0)), (1, (4, 1))]) (stN := [(5, 0), (1, p7), (1, 68719476736 * q1)]) (hsN := [jgh, (101, [], [q1, p7, p8, 0, 0, 0])]) (c1 := 0) (s1 := 0) (c2 := 0) (s2 := 0) (by exact rfl) ?_ (by omega) (by omega)
  refine jT_xiload (v := (0, 1)) (pcN := 22) jIQ_41_20 rfl rfl rfl ?_
  refine jT_adv 1 (pcN := 23) (LN := [(4, (0, 1)), (2, (1, 68719476736 * q1)), (0, (4, 0)), (1, (4, 1))]) (stN := [(1, 108917793695), (1, p7), (1, 68719476736 * q1)]) (hsN := [jgh, (101, [], [q1, p7, p8, 0, 0, 0])]) (c1 := 0) (s1 := 0) (c2 := 0) (s2 := 0) (by exact rfl) ?_ (by omega) (by omega)
  refine jT_xlmul (x := p7) (y := 108917793695) (z := 108917793695 * p7) (pcN := 24) jIQ_41_23 rfl (by omega) rfl ?_
  refine jT_xladd (x := 68719476736 * q1) (y := 108917793695 * p7) (z := 108917793695 * p7 + 68719476736 * q1) (pcN := 25) jIQ_41_24 rfl (by omega) rfl ?_
  refine jT_xlstore_n (v := (1, 108917793695 * p7 + 68719476736 * q1)) (LN := [(2, (1, 108917793695 * p7 + 68719476736 * q1)), (4, (0, 1)), (0, (4, 0)), (1, (4, 1))]) (pcN := 26) jIQ_41_25 rfl rfl rfl rfl ?_
  refine jT_xiinc (x := 1) (z := 2) (LN := [(4, (0, 2)), (2, (1, 108917793695 * p7 + 68719476736 * q1)), (0, (4, 0)), (1, (4, 1))]) (pcN := 29) jIQ_41_26 rfl rfl (by decide) rfl rfl ?_
  refine jT_xgoto (pcN := 5) jIQ_41_29 rfl ?_
  refine jT_xiload (v := (0, 2)) (pcN := 7) jIQ_41_5 rfl rfl rfl ?_
  refine jT_xbipush (k := 6) (pcN := 9) jIQ_41_7 (by decide) rfl ?_
  refine jT_xicF (t := 32) (pcN := 12) jIQ_41_9 rfl (by decide +kernel) rfl rfl ?_
  refine jT_xlload_n (v := (1, 108917793695 * p7 + 68719476736 * q1)) (pcN := 13) jIQ_41_12 rfl rfl rfl ?_
  refine jT_xaload_n (v := (4, 1)) (pcN := 14) jIQ_41_13 rfl rfl rfl ?_
  refine jT_xiload (v := (0, 2)) (pcN := 16) jIQ_41_14 rfl rfl rfl ?_
  refine jT_lald (x := p8) (a := 1) (j := 2) (fs := []) (X := [q1, p7, p8, 0, 0, 0]) jIQ_41_16 rfl rfl rfl rfl ?_
  refine jT_eq (LN := [(4, (0, 2)), (2, (1, 108917793695 * p7 + 68719476736 * q1)), (0, (4, 0)), (1, (4, 1))]) (stN := [(1, p8), (1, 108917793695 * p7 + 68719476736 * q1)]) (hsN := [jgh, (101, [], [q1, p7, p8, 0, 0, 0])]) rfl rfl rfl ?_
  refine jT_adv 1 (pcN := 20) (LN := [(4, (0, 2)), (2, (1, 108917793695 * p7 + 68719476736 * q1)), (0, (4, 0)), (1, (4, 1))]) (stN := [(5, 0), (1, p8), (1, 108917793695 * p7 + 68719476736 * q1)]) (hsN := [jgh, (101, [], [q1, p7, p8, 0, 0, 0])]) (c1 := 0) (s1 := 0) (c2 := 0) (s2 := 0) (by exact rfl) ?_ (by omega) (by omega)
  refine jT_xiload (v := (0, 2)) (pcN := 22) jIQ_41_20 rfl rfl rfl ?_
  refine jT_adv 1 (pcN := 23) (LN := [(4, (0, 2)), (2, (1, 108917793695 * p7 + 68719476736 * q1)), (0, (4, 0)), (1, (4, 1))]) (stN := [(1, 159561683699), (1, p8), (1, 108917793695 * p7 + 68719476736 * q1)]) (hsN := [jgh, (101, [], [q1, p7, p8, 0, 0, 0])]) (c1 := 0) (s1 := 0) (c2 := 0) (s2 := 0) (by exact rfl) ?_ (by omega) (by omega)
  refine jT_xlmul (x := p8) (y := 159561683699) (z := 159561683699 * p8) (pcN := 24) jIQ_41_23 rfl (by omega) rfl ?_
  refine jT_xladd (x := 108917793695 * p7 + 68719476736 * q1) (y := 159561683699 * p8) (z := 108917793695 * p7 + 159561683699 * p8 + 68719476736 * q1) (pcN := 25) jIQ_41_24 rfl (by omega) rfl ?_
  refine jT_xlstore_n (v := (1, 108917793695 * p7 + 159561683699 * p8 + 68719476736 * q1)) (LN := [(2, (1, 108917793695 * p7 + 159561683699 * p8 + 68719476736 * q1)), (4, (0, 2)), (0, (4, 0)), (1, (4, 1))]) (pcN := 26) jIQ_41_25 rfl rfl rfl rfl ?_
  refine jT_xiinc (x := 2) (z := 3) (LN := [(4, (0, 3)), (2, (1, 108917793695 * p7 + 159561683699 * p8 + 68719476736 * q1)), (0, (4, 0)), (1, (4, 1))]) (pcN := 29) jIQ_41_26 rfl rfl (by decide) rfl rfl ?_
  refine jT_xgoto (pcN := 5) jIQ_41_29 rfl ?_
  refine jT_xiload (v := (0, 3)) (pcN := 7) jIQ_41_5 rfl rfl rfl ?_
  refine jT_xbipush (k := 6) (pcN := 9) jIQ_41_7 (by decide) rfl ?_
  refine jT_xicF (t := 32) (pcN := 12) jIQ_41_9 rfl (by decide +kernel) rfl rfl ?_
  refine jT_xlload_n (v := (1, 108917793695 * p7 + 159561683699 * p8 + 68719476736 * q1)) (pcN := 13) jIQ_41_12 rfl rfl rfl ?_
  refine jT_xaload_n (v := (4, 1)) (pcN := 14) jIQ_41_13 rfl rfl rfl ?_
  refine jT_xiload (v := (0, 3)) (pcN := 16) jIQ_41_14 rfl rfl rfl ?_
  refine jT_lald (x := 0) (a := 1) (j := 3) (fs := []) (X := [q1, p7, p8, 0, 0, 0]) jIQ_41_16 rfl rfl rfl rfl ?_
  refine jT_eq (LN := [(4, (0, 3)), (2, (1, 108917793695 * p7 + 159561683699 * p8 + 68719476736 * q1)), (0, (4, 0)), (1, (4, 1))]) (stN := [(1, 0), (1, 108917793695 * p7 + 159561683699 * p8 + 68719476736 * q1)]) (hsN := [jgh, (101, [], [q1, p7, p8, 0, 0, 0])]) rfl rfl rfl ?_
  refine jT_adv 1 (pcN := 20) (LN := [(4, (0, 3)), (2, (1, 108917793695 * p7 + 159561683699 * p8 + 68719476736 * q1)), (0, (4, 0)), (1, (4, 1))]) (stN := [(5, 0), (1, 0), (1, 108917793695 * p7 + 159561683699 * p8 + 68719476736 * q1)]) (hsN := [jgh, (101, [], [q1, p7, p8, 0, 0, 0])]) (c1 := 0) (s1 := 0) (c2 := 0) (s2 := 0) (by exact rfl) ?_ (by omega) (by omega)
  refine jT_xiload (v := (0, 3)) (pcN := 22) jIQ_41_20 rfl rfl rfl ?_
  refine jT_adv 1 (pcN := 23) (LN := [(4, (0, 3)), (2, (1, 108917793695 * p7 + 159561683699 * p8 + 68719476736 * q1)), (0, (4, 0)), (1, (4, 1))]) (stN := [(1, 192919961256), (1, 0), (1, 108917793695 * p7 + 159561683699 * p8 + 68719476736 * q1)]) (hsN := [jgh, (101, [], [q1, p7, p8, 0, 0, 0])]) (c1 := 0) (s1 := 0) (c2 := 0) (s2 := 0) (by exact rfl) ?_ (by omega) (by omega)
  refine jT_xlmul (x := 0) (y := 192919961256) (z := 0) (pcN := 24) jIQ_41_23 rfl (by decide) rfl ?_
  refine jT_xladd (x := 108917793695 * p7 + 159561683699 * p8 + 68719476736 * q1) (y := 0) (z := 108917793695 * p7 + 159561683699 * p8 + 68719476736 * q1) (pcN := 25) jIQ_41_24 rfl (by omega) rfl ?_
  refine jT_xlstore_n (v := (1, 108917793695 * p7 + 159561683699 * p8 + 68719476736 * q1)) (LN := [(2, (1, 108917793695 * p7 + 159561683699 * p8 + 68719476736 * q1)), (4, (0, 3)), (0, (4, 0)), (1, (4, 1))]) (pcN := 26) jIQ_41_25 rfl rfl rfl rfl ?_
  refine jT_xiinc (x := 3) (z := 4) (LN := [(4, (0, 4)), (2, (1, 108917793695 * p7 + 159561683699 * p8 + 68719476736 * q1)), (0, (4, 0)), (1, (4, 1))]) (pcN := 29) jIQ_41_26 rfl rfl (by decide) rfl rfl ?_
  refine jT_xgoto (pcN := 5) jIQ_41_29 rfl ?_
  refine jT_xiload (v := (0, 4)) (pcN := 7) jIQ_41_5 rfl rfl rfl ?_
  refine jT_xbipush (k := 6) (pcN := 9) jIQ_41_7 (by decide) rfl ?_
  refine jT_xicF (t := 32) (pcN := 12) jIQ_41_9 rfl (by decide +kernel) rfl rfl ?_
  refine jT_xlload_n (v := (1, 108917793695 * p7 + 159561683699 * p8 + 68719476736 * q1)) (pcN := 13) jIQ_41_12 rfl rfl rfl ?_
  refine jT_xaload_n (v := (4, 1)) (pcN := 14) jIQ_41_13 rfl rfl rfl ?_
  refine jT_xiload (v := (0, 4)) (pcN := 16) jIQ_41_14 rfl rfl rfl ?_
  refine jT_lald (x := 0) (a := 1) (j := 4) (fs := []) (X := [q1, p7, p8, 0, 0, 0]) jIQ_41_16 rfl rfl rfl rfl ?_
  refine jT_eq (LN := [(4, (0, 4)), (2, (1, 108917793695 * p7 + 159561683699 * p8 + 68719476736 * q1)), (0, (4, 0)), (1, (4, 1))]) (stN := [(1, 0), (1, 108917793695 * p7 + 159561683699 * p8 + 68719476736 * q1)]) (hsN := [jgh, (101, [], [q1, p7, p8, 0, 0, 0])]) rfl rfl rfl ?_
  refine jT_adv 1 (pcN := 20) (LN := [(4, (0, 4)), (2, (1, 108917793695 * p7 + 159561683699 * p8 + 68719476736 * q1)), (0, (4, 0)), (1, (4, 1))]) (stN := [(5, 0), (1, 0), (1, 108917793695 * p7 + 159561683699 * p8 + 68719476736 * q1)]) (hsN := [jgh, (101, [], [q1, p7, p8, 0, 0, 0])]) (c1 := 0) (s1 := 0) (c2 := 0) (s2 := 0) (by exact rfl) ?_ (by omega) (by omega)
  refine jT_xiload (v := (0, 4)) (pcN := 22) jIQ_41_20 rfl rfl rfl ?_
  refine jT_adv 1 (pcN := 23) (LN := [(4, (0, 4)), (2, (1, 108917793695 * p7 + 159561683699 * p8 + 68719476736 * q1)), (0, (4, 0)), (1, (4, 1))]) (stN := [(1, 237730330636), (1, 0), (1, 108917793695 * p7 + 159561683699 * p8 + 68719476736 * q1)]) (hsN := [jgh, (101, [], [q1, p7, p8, 0, 0, 0])]) (c1 := 0) (s1 := 0) (c2 := 0) (s2 := 0) (by exact rfl) ?_ (by omega) (by omega)
  refine jT_xlmul (x := 0) (y := 237730330636) (z := 0) (pcN := 24) jIQ_41_23 rfl (by decide) rfl ?_
  refine jT_xladd (x := 108917793695 * p7 + 159561683699 * p8 + 68719476736 * q1) (y := 0) (z := 108917793695 * p7 + 159561683699 * p8 + 68719476736 * q1) (pcN := 25) jIQ_41_24 rfl (by omega) rfl ?_
  refine jT_xlstore_n (v := (1, 108917793695 * p7 + 159561683699 * p8 + 68719476736 * q1)) (LN := [(2, (1, 108917793695 * p7 + 159561683699 * p8 + 68719476736 * q1)), (4, (0, 4)), (0, (4, 0)), (1, (4, 1))]) (pcN := 26) jIQ_41_25 rfl rfl rfl rfl ?_
  refine jT_xiinc (x := 4) (z := 5) (LN := [(4, (0, 5)), (2, (1, 108917793695 * p7 + 159561683699 * p8 + 68719476736 * q1)), (0, (4, 0)), (1, (4, 1))]) (pcN := 29) jIQ_41_26 rfl rfl (by decide) rfl rfl ?_
  refine jT_xgoto (pcN := 5) jIQ_41_29 rfl ?_
  refine jT_xiload (v := (0, 5)) (pcN := 7) jIQ_41_5 rfl rfl rfl ?_
  refine jT_xbipush (k := 6) (pcN := 9) jIQ_41_7 (by decide) rfl ?_
  refine jT_xicF (t := 32) (pcN := 12) jIQ_41_9 rfl (by decide +kernel) rfl rfl ?_
  refine jT_xlload_n (v := (1, 108917793695 * p7 + 159561683699 * p8 + 68719476736 * q1)) (pcN := 13) jIQ_41_12 rfl rfl rfl ?_
  refine jT_xaload_n (v := (4, 1)) (pcN := 14) jIQ_41_13 rfl rfl rfl ?_
  refine jT_xiload (v := (0, 5)) (pcN := 16) jIQ_41_14 rfl rfl rfl ?_
  refine jT_lald (x := 0) (a := 1) (j := 5) (fs := []) (X := [q1, p7, p8, 0, 0, 0]) jIQ_41_16 rfl rfl rfl rfl ?_
  refine jT_eq (LN := [(4, (0, 5)), (2, (1, 108917793695 * p7 + 159561683699 * p8 + 68719476736 * q1)), (0, (4, 0)), (1, (4, 1))]) (stN := [(1, 0), (1, 108917793695 * p7 + 159561683699 * p8 + 68719476736 * q1)]) (hsN := [jgh, (101, [], [q1, p7, p8, 0, 0, 0])]) rfl rfl rfl ?_
  refine jT_adv 1 (pcN := 20) (LN := [(4, (0, 5)), (2, (1, 108917793695 * p7 + 159561683699 * p8 + 68719476736 * q1)), (0, (4, 0)), (1, (4, 1))]) (stN := [(5, 0), (1, 0), (1, 108917793695 * p7 + 159561683699 * p8 + 68719476736 * q1)]) (hsN := [jgh, (101, [], [q1, p7, p8, 0, 0, 0])]) (c1 := 0) (s1 := 0) (c2 := 0) (s2 := 0) (by exact rfl) ?_ (by omega) (by omega)
  refine jT_xiload (v := (0, 5)) (pcN := 22) jIQ_41_20 rfl rfl rfl ?_
  refine jT_adv 1 (pcN := 23) (LN := [(4, (0, 5)), (2, (1, 108917793695 * p7 + 159561683699 * p8 + 68719476736 * q1)), (0, (4, 0)), (1, (4, 1))]) (stN := [(1, 254292281123), (1, 0), (1, 108917793695 * p7 + 159561683699 * p8 + 68719476736 * q1)]) (hsN := [jgh, (101, [], [q1, p7, p8, 0, 0, 0])]) (c1 := 0) (s1 := 0) (c2 := 0) (s2 := 0) (by exact rfl) ?_ (by omega) (by omega)
  refine jT_xlmul (x := 0) (y := 254292281123) (z := 0) (pcN := 24) jIQ_41_23 rfl (by decide) rfl ?_
  refine jT_xladd (x := 108917793695 * p7 + 159561683699 * p8 + 68719476736 * q1) (y := 0) (z := 108917793695 * p7 + 159561683699 * p8 + 68719476736 * q1) (pcN := 25) jIQ_41_24 rfl (by omega) rfl ?_
  refine jT_xlstore_n (v := (1, 108917793695 * p7 + 159561683699 * p8 + 68719476736 * q1)) (LN := [(2, (1, 108917793695 * p7 + 159561683699 * p8 + 68719476736 * q1)), (4, (0, 5)), (0, (4, 0)), (1, (4, 1))]) (pcN := 26) jIQ_41_25 rfl rfl rfl rfl ?_
  refine jT_xiinc (x := 5) (z := 6) (LN := [(4, (0, 6)), (2, (1, 108917793695 * p7 + 159561683699 * p8 + 68719476736 * q1)), (0, (4, 0)), (1, (4, 1))]) (pcN := 29) jIQ_41_26 rfl rfl (by decide) rfl rfl ?_
  refine jT_xgoto (pcN := 5) jIQ_41_29 rfl ?_
  refine jT_xiload (v := (0, 6)) (pcN := 7) jIQ_41_5 rfl rfl rfl ?_
  refine jT_xbipush (k := 6) (pcN := 9) jIQ_41_7 (by decide) rfl ?_
  refine jT_xicT (pcN := 32) jIQ_41_9 rfl (by decide +kernel) rfl ?_
  refine jT_xlload_n (v := (1, 108917793695 * p7 + 159561683699 * p8 + 68719476736 * q1)) (pcN := 33) jIQ_41_32 rfl rfl rfl ?_
  exact jT_ret rfl (by decide) (by show 2 ≤ 2; omega) (by omega) (by omega) ⟨rfl, rfl, rfl⟩
theorem jQ_39_100 {xs : List Int} {d : Nat} {p7 p8 q1 : Int} (h_p7 : (-20) ≤ p7 ∧ p7 ≤ 20) (h_p8 : (-10) ≤ p8 ∧ p8 ≤ 10) (h_q1 : (-60) ≤ q1 ∧ q1 ≤ 60) (g_0 : 0 ≤ (-108917793694) * p7 - 159561683698 * p8 - 68719476736 * q1 - 1) (g_1 : 0 ≤ (-108917793694) * p7 - 159561683700 * p8 - 68719476736 * q1 - 1) (g_2 : 0 ≤ (-108917793696) * p7 - 159561683698 * p8 - 68719476736 * q1 - 1) (g_3 : 0 ≤ (-108917793696) * p7 - 159561683700 * p8 - 68719476736 * q1 - 1) (g_4 : 0 ≤ p7) (g_5 : 0 ≤ p8) : jT xs d 39 2 0 [(0, (4, 0)), (1, (4, 1))] [] [jgh, (101, [], [q1, p7, p8, 0, 0, 0])] 0 0 (fun k v hsN => k = 0 ∧ v = (1, p7 + p8) ∧ hsN = [jgh, (101, [], [q1, p7, p8, 0, 0, 0])] ++ []) := by
  refine jT_xlconst (z := 0) (pcN := 1) jIQ_39_0 rfl rfl ?_
  refine jT_xlstore_n (v := (1, 0)) (LN := [(2, (1, 0)), (0, (4, 0)), (1, (4, 1))]) (pcN := 2) jIQ_39_1 rfl rfl rfl rfl ?_
  refine jT_xiconst (k := 1) (pcN := 3) jIQ_39_2 rfl ?_
  refine jT_xistore (v := (0, 1)) (LN := [(4, (0, 1)), (2, (1, 0)), (0, (4, 0)), (1, (4, 1))]) (pcN := 5) jIQ_39_3 rfl rfl rfl rfl ?_
  refine jT_xiload (v := (0, 1)) (pcN := 7) jIQ_39_5 rfl rfl rfl ?_
  refine jT_xbipush (k := 6) (pcN := 9) jIQ_39_7 (by decide) rfl ?_
  refine jT_xicF (t := 28) (pcN := 12) jIQ_39_9 rfl (by decide +kernel) rfl rfl ?_
  refine jT_xlload_n (v := (1, 0)) (pcN := 13) jIQ_39_12 rfl rfl rfl ?_
  refine jT_xaload_n (v := (4, 1)) (pcN := 14) jIQ_39_13 rfl rfl rfl ?_
  refine jT_xiload (v := (0, 1)) (pcN := 16) jIQ_39_14 rfl rfl rfl ?_
  refine jT_lald (x := p7) (a := 1) (j := 1) (fs := []) (X := [q1, p7, p8, 0, 0, 0]) jIQ_39_16 rfl rfl rfl rfl ?_
  refine jT_eq (LN := [(4, (0, 1)), (2, (1, 0)), (0, (4, 0)), (1, (4, 1))]) (stN := [(1, p7), (1, 0)]) (hsN := [jgh, (101, [], [q1, p7, p8, 0, 0, 0])]) rfl rfl rfl ?_
  refine jT_labs (z := p7) (by rfl) (by rfl) (by rfl) (by rfl) (by rw [show jwl (p7) = p7 from jwl_idd (by omega) (by omega), decide_eq_false (by omega)]; first | (simp only [cond_true, cond_false]; done) | (simp only [cond_true, cond_false]; omega) | rfl) ?_
  refine jT_xladd (x := 0) (y := p7) (z := p7) (pcN := 21) jIQ_39_20 rfl (by omega) rfl ?_
  refine jT_xlstore_n (v := (1, p7)) (LN := [(2, (1, p7)), (4, (0, 1)), (0, (4, 0)), (1, (4, 1))]) (pcN := 22) jIQ_39_21 rfl rfl rfl rfl ?_
  refine jT_xiinc (x := 1) (z := 2) (LN := [(4, (0, 2)), (2, (1, p7)), (0, (4, 0)), (1, (4, 1))]) (pcN := 25) jIQ_39_22 rfl rfl (by decide) rfl rfl ?_
  refine jT_xgoto (pcN := 5) jIQ_39_25 rfl ?_
  refine jT_xiload (v := (0, 2)) (pcN := 7) jIQ_39_5 rfl rfl rfl ?_
  refine jT_xbipush (k := 6) (pcN := 9) jIQ_39_7 (by decide) rfl ?_
  refine jT_xicF (t := 28) (pcN := 12) jIQ_39_9 rfl (by decide +kernel) rfl rfl ?_
  refine jT_xlload_n (v := (1, p7)) (pcN := 13) jIQ_39_12 rfl rfl rfl ?_
  refine jT_xaload_n (v := (4, 1)) (pcN := 14) jIQ_39_13 rfl rfl rfl ?_
  refine jT_xiload (v := (0, 2)) (pcN := 16) jIQ_39_14 rfl rfl rfl ?_
  refine jT_lald (x := p8) (a := 1) (j := 2) (fs := []) (X := [q1, p7, p8, 0, 0, 0]) jIQ_39_16 rfl rfl rfl rfl ?_
  refine jT_eq (LN := [(4, (0, 2)), (2, (1, p7)), (0, (4, 0)), (1, (4, 1))]) (stN := [(1, p8), (1, p7)]) (hsN := [jgh, (101, [], [q1, p7, p8, 0, 0, 0])]) rfl rfl rfl ?_
  refine jT_labs (z := p8) (by rfl) (by rfl) (by rfl) (by rfl) (by rw [show jwl (p8) = p8 from jwl_idd (by omega) (by omega), decide_eq_false (by omega)]; first | (simp only [cond_true, cond_false]; done) | (simp only [cond_true, cond_false]; omega) | rfl) ?_
  refine jT_xladd (x := p7) (y := p8) (z := p7 + p8) (pcN := 21) jIQ_39_20 rfl (rfl) rfl ?_
  refine jT_xlstore_n (v := (1, p7 + p8)) (LN := [(2, (1, p7 + p8)), (4, (0, 2)), (0, (4, 0)), (1, (4, 1))]) (pcN := 22) jIQ_39_21 rfl rfl rfl rfl ?_
  refine jT_xiinc (x := 2) (z := 3) (LN := [(4, (0, 3)), (2, (1, p7 + p8)), (0, (4, 0)), (1, (4, 1))]) (pcN := 25) jIQ_39_22 rfl rfl (by decide) rfl rfl ?_
  refine jT_xgoto (pcN := 5) jIQ_39_25 rfl ?_
  refine jT_xiload (v := (0, 3)) (pcN := 7) jIQ_39_5 rfl rfl rfl ?_
  refine jT_xbipush (k := 6) (pcN := 9) jIQ_39_7 (by decide) rfl ?_
  refine jT_xicF (t := 28) (pcN := 12) jIQ_39_9 rfl (by decide +kernel) rfl rfl ?_
  refine jT_xlload_n (v := (1, p7 + p8)) (pcN := 13) jIQ_39_12 rfl rfl rfl ?_
  refine jT_xaload_n (v := (4, 1)) (pcN := 14) jIQ_39_13 rfl rfl rfl ?_
  refine jT_xiload (v := (0, 3)) (pcN := 16) jIQ_39_14 rfl rfl rfl ?_
  refine jT_lald (x := 0) (a := 1) (j := 3) (fs := []) (X := [q1, p7, p8, 0, 0, 0]) jIQ_39_16 rfl rfl rfl rfl ?_
  refine jT_eq (LN := [(4, (0, 3)), (2, (1, p7 + p8)), (0, (4, 0)), (1, (4, 1))]) (stN := [(1, 0), (1, p7 + p8)]) (hsN := [jgh, (101, [], [q1, p7, p8, 0, 0, 0])]) rfl rfl rfl ?_
  refine jT_labs (z := 0) (by rfl) (by rfl) (by rfl) (by rfl) (by decide +kernel) ?_
  refine jT_xladd (x := p7 + p8) (y := 0) (z := p7 + p8) (pcN := 21) jIQ_39_20 rfl (by omega) rfl ?_
  refine jT_xlstore_n (v := (1, p7 + p8)) (LN := [(2, (1, p7 + p8)), (4, (0, 3)), (0, (4, 0)), (1, (4, 1))]) (pcN := 22) jIQ_39_21 rfl rfl rfl rfl ?_
  refine jT_xiinc (x := 3) (z := 4) (LN := [(4, (0, 4)), (2, (1, p7 + p8)), (0, (4, 0)), (1, (4, 1))]) (pcN := 25) jIQ_39_22 rfl rfl (by decide) rfl rfl ?_
  refine jT_xgoto (pcN := 5) jIQ_39_25 rfl ?_
  refine jT_xiload (v := (0, 4)) (pcN := 7) jIQ_39_5 rfl rfl rfl ?_
  refine jT_xbipush (k := 6) (pcN := 9) jIQ_39_7 (by decide) rfl ?_
  refine jT_xicF (t := 28) (pcN := 12) jIQ_39_9 rfl (by decide +kernel) rfl rfl ?_
  refine jT_xlload_n (v := (1, p7 + p8)) (pcN := 13) jIQ_39_12 rfl rfl rfl ?_
  refine jT_xaload_n (v := (4, 1)) (pcN := 14) jIQ_39_13 rfl rfl rfl ?_
  refine jT_xiload (v := (0, 4)) (pcN := 16) jIQ_39_14 rfl rfl rfl ?_
  refine jT_lald (x := 0) (a := 1) (j := 4) (fs := []) (X := [q1, p7, p8, 0, 0, 0]) jIQ_39_16 rfl rfl rfl rfl ?_
  refine jT_eq (LN := [(4, (0, 4)), (2, (1, p7 + p8)), (0, (4, 0)), (1, (4, 1))]) (stN := [(1, 0), (1, p7 + p8)]) (hsN := [jgh, (101, [], [q1, p7, p8, 0, 0, 0])]) rfl rfl rfl ?_
  refine jT_labs (z := 0) (by rfl) (by rfl) (by rfl) (by rfl) (by decide +kernel) ?_
  refine jT_xladd (x := p7 + p8) (y := 0) (z := p7 + p8) (pcN := 21) jIQ_39_20 rfl (by omega) rfl ?_
  refine jT_xlstore_n (v := (1, p7 + p8)) (LN := [(2, (1, p7 + p8)), (4, (0, 4)), (0, (4, 0)), (1, (4, 1))]) (pcN := 22) jIQ_39_21 rfl rfl rfl rfl ?_
  refine jT_xiinc (x := 4) (z := 5) (LN := [(4, (0, 5)), (2, (1, p7 + p8)), (0, (4, 0)), (1, (4, 1))]) (pcN := 25) jIQ_39_22 rfl rfl (by decide) rfl rfl ?_
  refine jT_xgoto (pcN := 5) jIQ_39_25 rfl ?_
  refine jT_xiload (v := (0, 5)) (pcN := 7) jIQ_39_5 rfl rfl rfl ?_
  refine jT_xbipush (k := 6) (pcN := 9) jIQ_39_7 (by decide) rfl ?_
  refine jT_xicF (t := 28) (pcN := 12) jIQ_39_9 rfl (by decide +kernel) rfl rfl ?_
  refine jT_xlload_n (v := (1, p7 + p8)) (pcN := 13) jIQ_39_12 rfl rfl rfl ?_
  refine jT_xaload_n (v := (4, 1)) (pcN := 14) jIQ_39_13 rfl rfl rfl ?_
  refine jT_xiload (v := (0, 5)) (pcN := 16) jIQ_39_14 rfl rfl rfl ?_
  refine jT_lald (x := 0) (a := 1) (j := 5) (fs := []) (X := [q1, p7, p8, 0, 0, 0]) jIQ_39_16 rfl rfl rfl rfl ?_
  refine jT_eq (LN := [(4, (0, 5)), (2, (1, p7 + p8)), (0, (4, 0)), (1, (4, 1))]) (stN := [(1, 0), (1, p7 + p8)]) (hsN := [jgh, (101, [], [q1, p7, p8, 0, 0, 0])]) rfl rfl rfl ?_
  refine jT_labs (z := 0) (by rfl) (by rfl) (by rfl) (by rfl) (by decide +kernel) ?_
  refine jT_xladd (x := p7 + p8) (y := 0) (z := p7 + p8) (pcN := 21) jIQ_39_20 rfl (by omega) rfl ?_
  refine jT_xlstore_n (v := (1, p7 + p8)) (LN := [(2, (1, p7 + p8)), (4, (0, 5)), (0, (4, 0)), (1, (4, 1))]) (pcN := 22) jIQ_39_21 rfl rfl rfl rfl ?_
  refine jT_xiinc (x := 5) (z := 6) (LN := [(4, (0, 6)), (2, (1, p7 + p8)), (0, (4, 0)), (1, (4, 1))]) (pcN := 25) jIQ_39_22 rfl rfl (by decide) rfl rfl ?_
  refine jT_xgoto (pcN := 5) jIQ_39_25 rfl ?_
  refine jT_xiload (v := (0, 6)) (pcN := 7) jIQ_39_5 rfl rfl rfl ?_
  refine jT_xbipush (k := 6) (pcN := 9) jIQ_39_7 (by decide) rfl ?_
  refine jT_xicT (pcN := 28) jIQ_39_9 rfl (by decide +kernel) rfl ?_
  refine jT_xlload_n (v := (1, p7 + p8)) (pcN := 29) jIQ_39_28 rfl rfl rfl ?_
  exact jT_ret rfl (by decide) (by show 2 ≤ 2; omega) (by omega) (by omega) ⟨rfl, rfl, rfl⟩
theorem jQ_39_101 {xs : List Int} {d : Nat} {p7 p8 q1 : Int} (h_p7 : (-20) ≤ p7 ∧ p7 ≤ 20) (h_p8 : (-10) ≤ p8 ∧ p8 ≤ 10) (h_q1 : (-60) ≤ q1 ∧ q1 ≤ 60) (g_0 : 0 ≤ (-108917793694) * p7 - 159561683698 * p8 - 68719476736 * q1 - 1) (g_1 : 0 ≤ (-108917793694) * p7 - 159561683700 * p8 - 68719476736 * q1 - 1) (g_2 : 0 ≤ (-108917793696) * p7 - 159561683698 * p8 - 68719476736 * q1 - 1) (g_3 : 0 ≤ (-108917793696) * p7 - 159561683700 * p8 - 68719476736 * q1 - 1) (g_4 : 0 ≤ p7) (g_5 : 0 ≤ p8) (g_6 : p7 + p8 - 1 < 0) : jT xs d 39 2 0 [(0, (4, 0)), (1, (4, 1))] [] [jgh, (101, [], [q1, p7, p8, 0, 0, 0])] 0 0 (fun k v hsN => k = 0 ∧ v = (1, p7 + p8) ∧ hsN = [jgh, (101, [], [q1, p7, p8, 0, 0, 0])] ++ []) := by
  refine jT_xlconst (z := 0) (pcN := 1) jIQ_39_0 rfl rfl ?_
  refine jT_xlstore_n (v := (1, 0)) (LN := [(2, (1, 0)), (0, (4, 0)), (1, (4, 1))]) (pcN := 2) jIQ_39_1 rfl rfl rfl rfl ?_
  refine jT_xiconst (k := 1) (pcN := 3) jIQ_39_2 rfl ?_
  refine jT_xistore (v := (0, 1)) (LN := [(4, (0, 1)), (2, (1, 0)), (0, (4, 0)), (1, (4, 1))]) (pcN := 5) jIQ_39_3 rfl rfl rfl rfl ?_
  refine jT_xiload (v := (0, 1)) (pcN := 7) jIQ_39_5 rfl rfl rfl ?_
  refine jT_xbipush (k := 6) (pcN := 9) jIQ_39_7 (by decide) rfl ?_
  refine jT_xicF (t := 28) (pcN := 12) jIQ_39_9 rfl (by decide +kernel) rfl rfl ?_
  refine jT_xlload_n (v := (1, 0)) (pcN := 13) jIQ_39_12 rfl rfl rfl ?_
  refine jT_xaload_n (v := (4, 1)) (pcN := 14) jIQ_39_13 rfl rfl rfl ?_
  refine jT_xiload (v := (0, 1)) (pcN := 16) jIQ_39_14 rfl rfl rfl ?_
  refine jT_lald (x := p7) (a := 1) (j := 1) (fs := []) (X := [q1, p7, p8, 0, 0, 0]) jIQ_39_16 rfl rfl rfl rfl ?_
  refine jT_eq (LN := [(4, (0, 1)), (2, (1, 0)), (0, (4, 0)), (1, (4, 1))]) (stN := [(1, p7), (1, 0)]) (hsN := [jgh, (101, [], [q1, p7, p8, 0, 0, 0])]) rfl rfl rfl ?_
  refine jT_labs (z := p7) (by rfl) (by rfl) (by rfl) (by rfl) (by rw [show jwl (p7) = p7 from jwl_idd (by omega) (by omega), decide_eq_false (by omega)]; first | (simp only [cond_true, cond_false]; done) | (simp only [cond_true, cond_false]; omega) | rfl) ?_
  refine jT_xladd (x := 0) (y := p7) (z := p7) (pcN := 21) jIQ_39_20 rfl (by omega) rfl ?_
  refine jT_xlstore_n (v := (1, p7)) (LN := [(2, (1, p7)), (4, (0, 1)), (0, (4, 0)), (1, (4, 1))]) (pcN := 22) jIQ_39_21 rfl rfl rfl rfl ?_
  refine jT_xiinc (x := 1) (z := 2) (LN := [(4, (0, 2)), (2, (1, p7)), (0, (4, 0)), (1, (4, 1))]) (pcN := 25) jIQ_39_22 rfl rfl (by decide) rfl rfl ?_
  refine jT_xgoto (pcN := 5) jIQ_39_25 rfl ?_
  refine jT_xiload (v := (0, 2)) (pcN := 7) jIQ_39_5 rfl rfl rfl ?_
  refine jT_xbipush (k := 6) (pcN := 9) jIQ_39_7 (by decide) rfl ?_
  refine jT_xicF (t := 28) (pcN := 12) jIQ_39_9 rfl (by decide +kernel) rfl rfl ?_
  refine jT_xlload_n (v := (1, p7)) (pcN := 13) jIQ_39_12 rfl rfl rfl ?_
  refine jT_xaload_n (v := (4, 1)) (pcN := 14) jIQ_39_13 rfl rfl rfl ?_
  refine jT_xiload (v := (0, 2)) (pcN := 16) jIQ_39_14 rfl rfl rfl ?_
  refine jT_lald (x := p8) (a := 1) (j := 2) (fs := []) (X := [q1, p7, p8, 0, 0, 0]) jIQ_39_16 rfl rfl rfl rfl ?_
  refine jT_eq (LN := [(4, (0, 2)), (2, (1, p7)), (0, (4, 0)), (1, (4, 1))]) (stN := [(1, p8), (1, p7)]) (hsN := [jgh, (101, [], [q1, p7, p8, 0, 0, 0])]) rfl rfl rfl ?_
  refine jT_labs (z := p8) (by rfl) (by rfl) (by rfl) (by rfl) (by rw [show jwl (p8) = p8 from jwl_idd (by omega) (by omega), decide_eq_false (by omega)]; first | (simp only [cond_true, cond_false]; done) | (simp only [cond_true, cond_false]; omega) | rfl) ?_
  refine jT_xladd (x := p7) (y := p8) (z := p7 + p8) (pcN := 21) jIQ_39_20 rfl (rfl) rfl ?_
  refine jT_xlstore_n (v := (1, p7 + p8)) (LN := [(2, (1, p7 + p8)), (4, (0, 2)), (0, (4, 0)), (1, (4, 1))]) (pcN := 22) jIQ_39_21 rfl rfl rfl rfl ?_
  refine jT_xiinc (x := 2) (z := 3) (LN := [(4, (0, 3)), (2, (1, p7 + p8)), (0, (4, 0)), (1, (4, 1))]) (pcN := 25) jIQ_39_22 rfl rfl (by decide) rfl rfl ?_
  refine jT_xgoto (pcN := 5) jIQ_39_25 rfl ?_
  refine jT_xiload (v := (0, 3)) (pcN := 7) jIQ_39_5 rfl rfl rfl ?_
  refine jT_xbipush (k := 6) (pcN := 9) jIQ_39_7 (by decide) rfl ?_
  refine jT_xicF (t := 28) (pcN := 12) jIQ_39_9 rfl (by decide +kernel) rfl rfl ?_
  refine jT_xlload_n (v := (1, p7 + p8)) (pcN := 13) jIQ_39_12 rfl rfl rfl ?_
  refine jT_xaload_n (v := (4, 1)) (pcN := 14) jIQ_39_13 rfl rfl rfl ?_
  refine jT_xiload (v := (0, 3)) (pcN := 16) jIQ_39_14 rfl rfl rfl ?_
  refine jT_lald (x := 0) (a := 1) (j := 3) (fs := []) (X := [q1, p7, p8, 0, 0, 0]) jIQ_39_16 rfl rfl rfl rfl ?_
  refine jT_eq (LN := [(4, (0, 3)), (2, (1, p7 + p8)), (0, (4, 0)), (1, (4, 1))]) (stN := [(1, 0), (1, p7 + p8)]) (hsN := [jgh, (101, [], [q1, p7, p8, 0, 0, 0])]) rfl rfl rfl ?_
  refine jT_labs (z := 0) (by rfl) (by rfl) (by rfl) (by rfl) (by decide +kernel) ?_
  refine jT_xladd (x := p7 + p8) (y := 0) (z := p7 + p8) (pcN := 21) jIQ_39_20 rfl (by omega) rfl ?_
  refine jT_xlstore_n (v := (1, p7 + p8)) (LN := [(2, (1, p7 + p8)), (4, (0, 3)), (0, (4, 0)), (1, (4, 1))]) (pcN := 22) jIQ_39_21 rfl rfl rfl rfl ?_
  refine jT_xiinc (x := 3) (z := 4) (LN := [(4, (0, 4)), (2, (1, p7 + p8)), (0, (4, 0)), (1, (4, 1))]) (pcN := 25) jIQ_39_22 rfl rfl (by decide) rfl rfl ?_
  refine jT_xgoto (pcN := 5) jIQ_39_25 rfl ?_
  refine jT_xiload (v := (0, 4)) (pcN := 7) jIQ_39_5 rfl rfl rfl ?_
  refine jT_xbipush (k := 6) (pcN := 9) jIQ_39_7 (by decide) rfl ?_
  refine jT_xicF (t := 28) (pcN := 12) jIQ_39_9 rfl (by decide +kernel) rfl rfl ?_
  refine jT_xlload_n (v := (1, p7 + p8)) (pcN := 13) jIQ_39_12 rfl rfl rfl ?_
  refine jT_xaload_n (v := (4, 1)) (pcN := 14) jIQ_39_13 rfl rfl rfl ?_
  refine jT_xiload (v := (0, 4)) (pcN := 16) jIQ_39_14 rfl rfl rfl ?_
  refine jT_lald (x := 0) (a := 1) (j := 4) (fs := []) (X := [q1, p7, p8, 0, 0, 0]) jIQ_39_16 rfl rfl rfl rfl ?_
  refine jT_eq (LN := [(4, (0, 4)), (2, (1, p7 + p8)), (0, (4, 0)), (1, (4, 1))]) (stN := [(1, 0), (1, p7 + p8)]) (hsN := [jgh, (101, [], [q1, p7, p8, 0, 0, 0])]) rfl rfl rfl ?_
  refine jT_labs (z := 0) (by rfl) (by rfl) (by rfl) (by rfl) (by decide +kernel) ?_
  refine jT_xladd (x := p7 + p8) (y := 0) (z := p7 + p8) (pcN := 21) jIQ_39_20 rfl (by omega) rfl ?_
  refine jT_xlstore_n (v := (1, p7 + p8)) (LN := [(2, (1, p7 + p8)), (4, (0, 4)), (0, (4, 0)), (1, (4, 1))]) (pcN := 22) jIQ_39_21 rfl rfl rfl rfl ?_
  refine jT_xiinc (x := 4) (z := 5) (LN := [(4, (0, 5)), (2, (1, p7 + p8)), (0, (4, 0)), (1, (4, 1))]) (pcN := 25) jIQ_39_22 rfl rfl (by decide) rfl rfl ?_
  refine jT_xgoto (pcN := 5) jIQ_39_25 rfl ?_
  refine jT_xiload (v := (0, 5)) (pcN := 7) jIQ_39_5 rfl rfl rfl ?_
  refine jT_xbipush (k := 6) (pcN := 9) jIQ_39_7 (by decide) rfl ?_
  refine jT_xicF (t := 28) (pcN := 12) jIQ_39_9 rfl (by decide +kernel) rfl rfl ?_
  refine jT_xlload_n (v := (1, p7 + p8)) (pcN := 13) jIQ_39_12 rfl rfl rfl ?_
  refine jT_xaload_n (v := (4, 1)) (pcN := 14) jIQ_39_13 rfl rfl rfl ?_
  refine jT_xiload (v := (0, 5)) (pcN := 16) jIQ_39_14 rfl rfl rfl ?_
  refine jT_lald (x := 0) (a := 1) (j := 5) (fs := []) (X := [q1, p7, p8, 0, 0, 0]) jIQ_39_16 rfl rfl rfl rfl ?_
  refine jT_eq (LN := [(4, (0, 5)), (2, (1, p7 + p8)), (0, (4, 0)), (1, (4, 1))]) (stN := [(1, 0), (1, p7 + p8)]) (hsN := [jgh, (101, [], [q1, p7, p8, 0, 0, 0])]) rfl rfl rfl ?_
  refine jT_labs (z := 0) (by rfl) (by rfl) (by rfl) (by rfl) (by decide +kernel) ?_
  refine jT_xladd (x := p7 + p8) (y := 0) (z := p7 + p8) (pcN := 21) jIQ_39_20 rfl (by omega) rfl ?_
  refine jT_xlstore_n (v := (1, p7 + p8)) (LN := [(2, (1, p7 + p8)), (4, (0, 5)), (0, (4, 0)), (1, (4, 1))]) (pcN := 22) jIQ_39_21 rfl rfl rfl rfl ?_
  refine jT_xiinc (x := 5) (z := 6) (LN := [(4, (0, 6)), (2, (1, p7 + p8)), (0, (4, 0)), (1, (4, 1))]) (pcN := 25) jIQ_39_22 rfl rfl (by decide) rfl rfl ?_
  refine jT_xgoto (pcN := 5) jIQ_39_25 rfl ?_
  refine jT_xiload (v := (0, 6)) (pcN := 7) jIQ_39_5 rfl rfl rfl ?_
  refine jT_xbipush (k := 6) (pcN := 9) jIQ_39_7 (by decide) rfl ?_
  refine jT_xicT (pcN := 28) jIQ_39_9 rfl (by decide +kernel) rfl ?_
  refine jT_xlload_n (v := (1, p7 + p8)) (pcN := 29) jIQ_39_28 rfl rfl rfl ?_
  exact jT_ret rfl (by decide) (by show 2 ≤ 2; omega) (by omega) (by omega) ⟨rfl, rfl, rfl⟩
theorem jQ_39_102 {xs : List Int} {d : Nat} {p7 p8 q1 : Int} (h_p7 : (-20) ≤ p7 ∧ p7 ≤ 20) (h_p8 : (-10) ≤ p8 ∧ p8 ≤ 10) (h_q1 : (-60) ≤ q1 ∧ q1 ≤ 60) (g_0 : 0 ≤ (-108917793694) * p7 - 159561683698 * p8 - 68719476736 * q1 - 1) (g_1 : 0 ≤ (-108917793694) * p7 - 159561683700 * p8 - 68719476736 * q1 - 1) (g_2 : 0 ≤ (-108917793696) * p7 - 159561683698 * p8 - 68719476736 * q1 - 1) (g_3 : 0 ≤ (-108917793696) * p7 - 159561683700 * p8 - 68719476736 * q1 - 1) (g_4 : 0 ≤ p7) (g_5 : 0 ≤ p8) (g_6 : p7 + p8 - 1 < 0) (g_7 : q1 - 1 < 0) : jT xs d 39 2 0 [(0, (4, 0)), (1, (4, 1))] [] [jgh, (101, [], [q1, p7, p8, 0, 0, 0])] 0 0 (fun k v hsN => k = 0 ∧ v = (1, p7 + p8) ∧ hsN = [jgh, (101, [], [q1, p7, p8, 0, 0, 0])] ++ []) := by
  refine jT_xlconst (z := 0) (pcN := 1) jIQ_39_0 rfl rfl ?_
  refine jT_xlstore_n (v := (1, 0)) (LN := [(2, (1, 0)), (0, (4, 0)), (1, (4, 1))]) (pcN := 2) jIQ_39_1 rfl rfl rfl rfl ?_
  refine jT_xiconst (k := 1) (pcN := 3) jIQ_39_2 rfl ?_
  refine jT_xistore (v := (0, 1)) (LN := [(4, (0, 1)), (2, (1, 0)), (0, (4, 0)), (1, (4, 1))]) (pcN := 5) jIQ_39_3 rfl rfl rfl rfl ?_
  refine jT_xiload (v := (0, 1)) (pcN := 7) jIQ_39_5 rfl rfl rfl ?_
  refine jT_xbipush (k := 6) (pcN := 9) jIQ_39_7 (by decide) rfl ?_
  refine jT_xicF (t := 28) (pcN := 12) jIQ_39_9 rfl (by decide +kernel) rfl rfl ?_
  refine jT_xlload_n (v := (1, 0)) (pcN := 13) jIQ_39_12 rfl rfl rfl ?_
  refine jT_xaload_n (v := (4, 1)) (pcN := 14) jIQ_39_13 rfl rfl rfl ?_
  refine jT_xiload (v := (0, 1)) (pcN := 16) jIQ_39_14 rfl rfl rfl ?_
  refine jT_lald (x := p7) (a := 1) (j := 1) (fs := []) (X := [q1, p7, p8, 0, 0, 0]) jIQ_39_16 rfl rfl rfl rfl ?_
  refine jT_eq (LN := [(4, (0, 1)), (2, (1, 0)), (0, (4, 0)), (1, (4, 1))]) (stN := [(1, p7), (1, 0)]) (hsN := [jgh, (101, [], [q1, p7, p8, 0, 0, 0])]) rfl rfl rfl ?_
  refine jT_labs (z := p7) (by rfl) (by rfl) (by rfl) (by rfl) (by rw [show jwl (p7) = p7 from jwl_idd (by omega) (by omega), decide_eq_false (by omega)]; first | (simp only [cond_true, cond_false]; done) | (simp only [cond_true, cond_false]; omega) | rfl) ?_
  refine jT_xladd (x := 0) (y := p7) (z := p7) (pcN := 21) jIQ_39_20 rfl (by omega) rfl ?_
  refine jT_xlstore_n (v := (1, p7)) (LN := [(2, (1, p7)), (4, (0, 1)), (0, (4, 0)), (1, (4, 1))]) (pcN := 22) jIQ_39_21 rfl rfl rfl rfl ?_
  refine jT_xiinc (x := 1) (z := 2) (LN := [(4, (0, 2)), (2, (1, p7)), (0, (4, 0)), (1, (4, 1))]) (pcN := 25) jIQ_39_22 rfl rfl (by decide) rfl rfl ?_
  refine jT_xgoto (pcN := 5) jIQ_39_25 rfl ?_
  refine jT_xiload (v := (0, 2)) (pcN := 7) jIQ_39_5 rfl rfl rfl ?_
  refine jT_xbipush (k := 6) (pcN := 9) jIQ_39_7 (by decide) rfl ?_
  refine jT_xicF (t := 28) (pcN := 12) jIQ_39_9 rfl (by decide +kernel) rfl rfl ?_
  refine jT_xlload_n (v := (1, p7)) (pcN := 13) jIQ_39_12 rfl rfl rfl ?_
  refine jT_xaload_n (v := (4, 1)) (pcN := 14) jIQ_39_13 rfl rfl rfl ?_
  refine jT_xiload (v := (0, 2)) (pcN := 16) jIQ_39_14 rfl rfl rfl ?_
  refine jT_lald (x := p8) (a := 1) (j := 2) (fs := []) (X := [q1, p7, p8, 0, 0, 0]) jIQ_39_16 rfl rfl rfl rfl ?_
  refine jT_eq (LN := [(4, (0, 2)), (2, (1, p7)), (0, (4, 0)), (1, (4, 1))]) (stN := [(1, p8), (1, p7)]) (hsN := [jgh, (101, [], [q1, p7, p8, 0, 0, 0])]) rfl rfl rfl ?_
  refine jT_labs (z := p8) (by rfl) (by rfl) (by rfl) (by rfl) (by rw [show jwl (p8) = p8 from jwl_idd (by omega) (by omega), decide_eq_false (by omega)]; first | (simp only [cond_true, cond_false]; done) | (simp only [cond_true, cond_false]; omega) | rfl) ?_
  refine jT_xladd (x := p7) (y := p8) (z := p7 + p8) (pcN := 21) jIQ_39_20 rfl (rfl) rfl ?_
  refine jT_xlstore_n (v := (1, p7 + p8)) (LN := [(2, (1, p7 + p8)), (4, (0, 2)), (0, (4, 0)), (1, (4, 1))]) (pcN := 22) jIQ_39_21 rfl rfl rfl rfl ?_
  refine jT_xiinc (x := 2) (z := 3) (LN := [(4, (0, 3)), (2, (1, p7 + p8)), (0, (4, 0)), (1, (4, 1))]) (pcN := 25) jIQ_39_22 rfl rfl (by decide) rfl rfl ?_
  refine jT_xgoto (pcN := 5) jIQ_39_25 rfl ?_
  refine jT_xiload (v := (0, 3)) (pcN := 7) jIQ_39_5 rfl rfl rfl ?_
  refine jT_xbipush (k := 6) (pcN := 9) jIQ_39_7 (by decide) rfl ?_
  refine jT_xicF (t := 28) (pcN := 12) jIQ_39_9 rfl (by decide +kernel) rfl rfl ?_
  refine jT_xlload_n (v := (1, p7 + p8)) (pcN := 13) jIQ_39_12 rfl rfl rfl ?_
  refine jT_xaload_n (v := (4, 1)) (pcN := 14) jIQ_39_13 rfl rfl rfl ?_
  refine jT_xiload (v := (0, 3)) (pcN := 16) jIQ_39_14 rfl rfl rfl ?_
  refine jT_lald (x := 0) (a := 1) (j := 3) (fs := []) (X := [q1, p7, p8, 0, 0, 0]) jIQ_39_16 rfl rfl rfl rfl ?_
  refine jT_eq (LN := [(4, (0, 3)), (2, (1, p7 + p8)), (0, (4, 0)), (1, (4, 1))]) (stN := [(1, 0), (1, p7 + p8)]) (hsN := [jgh, (101, [], [q1, p7, p8, 0, 0, 0])]) rfl rfl rfl ?_
  refine jT_labs (z := 0) (by rfl) (by rfl) (by rfl) (by rfl) (by decide +kernel) ?_
  refine jT_xladd (x := p7 + p8) (y := 0) (z := p7 + p8) (pcN := 21) jIQ_39_20 rfl (by omega) rfl ?_
  refine jT_xlstore_n (v := (1, p7 + p8)) (LN := [(2, (1, p7 + p8)), (4, (0, 3)), (0, (4, 0)), (1, (4, 1))]) (pcN := 22) jIQ_39_21 rfl rfl rfl rfl ?_
  refine jT_xiinc (x := 3) (z := 4) (LN := [(4, (0, 4)), (2, (1, p7 + p8)), (0, (4, 0)), (1, (4, 1))]) (pcN := 25) jIQ_39_22 rfl rfl (by decide) rfl rfl ?_
  refine jT_xgoto (pcN := 5) jIQ_39_25 rfl ?_
  refine jT_xiload (v := (0, 4)) (pcN := 7) jIQ_39_5 rfl rfl rfl ?_
  refine jT_xbipush (k := 6) (pcN := 9) jIQ_39_7 (by decide) rfl ?_
  refine jT_xicF (t := 28) (pcN := 12) jIQ_39_9 rfl (by decide +kernel) rfl rfl ?_
  refine jT_xlload_n (v := (1, p7 + p8)) (pcN := 13) jIQ_39_12 rfl rfl rfl ?_
  refine jT_xaload_n (v := (4, 1)) (pcN := 14) jIQ_39_13 rfl rfl rfl ?_
  refine jT_xiload (v := (0, 4)) (pcN := 16) jIQ_39_14 rfl rfl rfl ?_
  refine jT_lald (x := 0) (a := 1) (j := 4) (fs := []) (X := [q1, p7, p8, 0, 0, 0]) jIQ_39_16 rfl rfl rfl rfl ?_
  refine jT_eq (LN := [(4, (0, 4)), (2, (1, p7 + p8)), (0, (4, 0)), (1, (4, 1))]) (stN := [(1, 0), (1, p7 + p8)]) (hsN := [jgh, (101, [], [q1, p7, p8, 0, 0, 0])]) rfl rfl rfl ?_
  refine jT_labs (z := 0) (by rfl) (by rfl) (by rfl) (by rfl) (by decide +kernel) ?_
  refine jT_xladd (x := p7 + p8) (y := 0) (z := p7 + p8) (pcN := 21) jIQ_39_20 rfl (by omega) rfl ?_
  refine jT_xlstore_n (v := (1, p7 + p8)) (LN := [(2, (1, p7 + p8)), (4, (0, 4)), (0, (4, 0)), (1, (4, 1))]) (pcN := 22) jIQ_39_21 rfl rfl rfl rfl ?_
  refine jT_xiinc (x := 4) (z := 5) (LN := [(4, (0, 5)), (2, (1, p7 + p8)), (0, (4, 0)), (1, (4, 1))]) (pcN := 25) jIQ_39_22 rfl rfl (by decide) rfl rfl ?_
  refine jT_xgoto (pcN := 5) jIQ_39_25 rfl ?_
  refine jT_xiload (v := (0, 5)) (pcN := 7) jIQ_39_5 rfl rfl rfl ?_
  refine jT_xbipush (k := 6) (pcN := 9) jIQ_39_7 (by decide) rfl ?_
  refine jT_xicF (t := 28) (pcN := 12) jIQ_39_9 rfl (by decide +kernel) rfl rfl ?_
  refine jT_xlload_n (v := (1, p7 + p8)) (pcN := 13) jIQ_39_12 rfl rfl rfl ?_
  refine jT_xaload_n (v := (4, 1)) (pcN := 14) jIQ_39_13 rfl rfl rfl ?_
  refine jT_xiload (v := (0, 5)) (pcN := 16) jIQ_39_14 rfl rfl rfl ?_
  refine jT_lald (x := 0) (a := 1) (j := 5) (fs := []) (X := [q1, p7, p8, 0, 0, 0]) jIQ_39_16 rfl rfl rfl rfl ?_
  refine jT_eq (LN := [(4, (0, 5)), (2, (1, p7 + p8)), (0, (4, 0)), (1, (4, 1))]) (stN := [(1, 0), (1, p7 + p8)]) (hsN := [jgh, (101, [], [q1, p7, p8, 0, 0, 0])]) rfl rfl rfl ?_
  refine jT_labs (z := 0) (by rfl) (by rfl) (by rfl) (by rfl) (by decide +kernel) ?_
  refine jT_xladd (x := p7 + p8) (y := 0) (z := p7 + p8) (pcN := 21) jIQ_39_20 rfl (by omega) rfl ?_
  refine jT_xlstore_n (v := (1, p7 + p8)) (LN := [(2, (1, p7 + p8)), (4, (0, 5)), (0, (4, 0)), (1, (4, 1))]) (pcN := 22) jIQ_39_21 rfl rfl rfl rfl ?_
  refine jT_xiinc (x := 5) (z := 6) (LN := [(4, (0, 6)), (2, (1, p7 + p8)), (0, (4, 0)), (1, (4, 1))]) (pcN := 25) jIQ_39_22 rfl rfl (by decide) rfl rfl ?_
  refine jT_xgoto (pcN := 5) jIQ_39_25 rfl ?_
  refine jT_xiload (v := (0, 6)) (pcN := 7) jIQ_39_5 rfl rfl rfl ?_
  refine jT_xbipush (k := 6) (pcN := 9) jIQ_39_7 (by decide) rfl ?_
  refine jT_xicT (pcN := 28) jIQ_39_9 rfl (by decide +kernel) rfl ?_
  refine jT_xlload_n (v := (1, p7 + p8)) (pcN := 29) jIQ_39_28 rfl rfl rfl ?_
  exact jT_ret rfl (by decide) (by show 2 ≤ 2; omega) (by omega) (by omega) ⟨rfl, rfl, rfl⟩
theorem jQ_39_103 {xs : List Int} {d : Nat} {p7 p8 q1 : Int} (h_p7 : (-20) ≤ p7 ∧ p7 ≤ 20) (h_p8 : (-10) ≤ p8 ∧ p8 ≤ 10) (h_q1 : (-60) ≤ q1 ∧ q1 ≤ 60) (g_0 : 0 ≤ (-108917793694) * p7 - 159561683698 * p8 - 68719476736 * q1 - 1) (g_1 : 0 ≤ (-108917793694) * p7 - 159561683700 * p8 - 68719476736 * q1 - 1) (g_2 : 0 ≤ (-108917793696) * p7 - 159561683698 * p8 - 68719476736 * q1 - 1) (g_3 : 0 ≤ (-108917793696) * p7 - 159561683700 * p8 - 68719476736 * q1 - 1) (g_4 : 0 ≤ p7) (g_5 : 0 ≤ p8) (g_6 : p7 + p8 - 1 < 0) (g_7 : q1 - 1 < 0) (g_8 : q1 < 0) : jT xs d 39 2 0 [(0, (4, 0)), (1, (4, 1))] [] [jgh, (101, [], [q1, p7, p8, 0, 0, 0])] 0 0 (fun k v hsN => k = 0 ∧ v = (1, p7 + p8) ∧ hsN = [jgh, (101, [], [q1, p7, p8, 0, 0, 0])] ++ []) := by
  refine jT_xlconst (z := 0) (pcN := 1) jIQ_39_0 rfl rfl ?_
  refine jT_xlstore_n (v := (1, 0)) (LN := [(2, (1, 0)), (0, (4, 0)), (1, (4, 1))]) (pcN := 2) jIQ_39_1 rfl rfl rfl rfl ?_
  refine jT_xiconst (k := 1) (pcN := 3) jIQ_39_2 rfl ?_
  refine jT_xistore (v := (0, 1)) (LN := [(4, (0, 1)), (2, (1, 0)), (0, (4, 0)), (1, (4, 1))]) (pcN := 5) jIQ_39_3 rfl rfl rfl rfl ?_
  refine jT_xiload (v := (0, 1)) (pcN := 7) jIQ_39_5 rfl rfl rfl ?_
  refine jT_xbipush (k := 6) (pcN := 9) jIQ_39_7 (by decide) rfl ?_
  refine jT_xicF (t := 28) (pcN := 12) jIQ_39_9 rfl (by decide +kernel) rfl rfl ?_
  refine jT_xlload_n (v := (1, 0)) (pcN := 13) jIQ_39_12 rfl rfl rfl ?_
  refine jT_xaload_n (v := (4, 1)) (pcN := 14) jIQ_39_13 rfl rfl rfl ?_
  refine jT_xiload (v := (0, 1)) (pcN := 16) jIQ_39_14 rfl rfl rfl ?_
  refine jT_lald (x := p7) (a := 1) (j := 1) (fs := []) (X := [q1, p7, p8, 0, 0, 0]) jIQ_39_16 rfl rfl rfl rfl ?_
  refine jT_eq (LN := [(4, (0, 1)), (2, (1, 0)), (0, (4, 0)), (1, (4, 1))]) (stN := [(1, p7), (1, 0)]) (hsN := [jgh, (101, [], [q1, p7, p8, 0, 0, 0])]) rfl rfl rfl ?_
  refine jT_labs (z := p7) (by rfl) (by rfl) (by rfl) (by rfl) (by rw [show jwl (p7) = p7 from jwl_idd (by omega) (by omega), decide_eq_false (by omega)]; first | (simp only [cond_true, cond_false]; done) | (simp only [cond_true, cond_false]; omega) | rfl) ?_
  refine jT_xladd (x := 0) (y := p7) (z := p7) (pcN := 21) jIQ_39_20 rfl (by omega) rfl ?_
  refine jT_xlstore_n (v := (1, p7)) (LN := [(2, (1, p7)), (4, (0, 1)), (0, (4, 0)), (1, (4, 1))]) (pcN := 22) jIQ_39_21 rfl rfl rfl rfl ?_
  refine jT_xiinc (x := 1) (z := 2) (LN := [(4, (0, 2)), (2, (1, p7)), (0, (4, 0)), (1, (4, 1))]) (pcN := 25) jIQ_39_22 rfl rfl (by decide) rfl rfl ?_
  refine jT_xgoto (pcN := 5) jIQ_39_25 rfl ?_
  refine jT_xiload (v := (0, 2)) (pcN := 7) jIQ_39_5 rfl rfl rfl ?_
  refine jT_xbipush (k := 6) (pcN := 9) jIQ_39_7 (by decide) rfl ?_
  refine jT_xicF (t := 28) (pcN := 12) jIQ_39_9 rfl (by decide +kernel) rfl rfl ?_
  refine jT_xlload_n (v := (1, p7)) (pcN := 13) jIQ_39_12 rfl rfl rfl ?_
  refine jT_xaload_n (v := (4, 1)) (pcN := 14) jIQ_39_13 rfl rfl rfl ?_
  refine jT_xiload (v := (0, 2)) (pcN := 16) jIQ_39_14 rfl rfl rfl ?_
  refine jT_lald (x := p8) (a := 1) (j := 2) (fs := []) (X := [q1, p7, p8, 0, 0, 0]) jIQ_39_16 rfl rfl rfl rfl ?_
  refine jT_eq (LN := [(4, (0, 2)), (2, (1, p7)), (0, (4, 0)), (1, (4, 1))]) (stN := [(1, p8), (1, p7)]) (hsN := [jgh, (101, [], [q1, p7, p8, 0, 0, 0])]) rfl rfl rfl ?_
  refine jT_labs (z := p8) (by rfl) (by rfl) (by rfl) (by rfl) (by rw [show jwl (p8) = p8 from jwl_idd (by omega) (by omega), decide_eq_false (by omega)]; first | (simp only [cond_true, cond_false]; done) | (simp only [cond_true, cond_false]; omega) | rfl) ?_
  refine jT_xladd (x := p7) (y := p8) (z := p7 + p8) (pcN := 21) jIQ_39_20 rfl (rfl) rfl ?_
  refine jT_xlstore_n (v := (1, p7 + p8)) (LN := [(2, (1, p7 + p8)), (4, (0, 2)), (0, (4, 0)), (1, (4, 1))]) (pcN := 22) jIQ_39_21 rfl rfl rfl rfl ?_
  refine jT_xiinc (x := 2) (z := 3) (LN := [(4, (0, 3)), (2, (1, p7 + p8)), (0, (4, 0)), (1, (4, 1))]) (pcN := 25) jIQ_39_22 rfl rfl (by decide) rfl rfl ?_
  refine jT_xgoto (pcN := 5) jIQ_39_25 rfl ?_
  refine jT_xiload (v := (0, 3)) (pcN := 7) jIQ_39_5 rfl rfl rfl ?_
  refine jT_xbipush (k := 6) (pcN := 9) jIQ_39_7 (by decide) rfl ?_
  refine jT_xicF (t := 28) (pcN := 12) jIQ_39_9 rfl (by decide +kernel) rfl rfl ?_
  refine jT_xlload_n (v := (1, p7 + p8)) (pcN := 13) jIQ_39_12 rfl rfl rfl ?_
  refine jT_xaload_n (v := (4, 1)) (pcN := 14) jIQ_39_13 rfl rfl rfl ?_
  refine jT_xiload (v := (0, 3)) (pcN := 16) jIQ_39_14 rfl rfl rfl ?_
  refine jT_lald (x := 0) (a := 1) (j := 3) (fs := []) (X := [q1, p7, p8, 0, 0, 0]) jIQ_39_16 rfl rfl rfl rfl ?_
  refine jT_eq (LN := [(4, (0, 3)), (2, (1, p7 + p8)), (0, (4, 0)), (1, (4, 1))]) (stN := [(1, 0), (1, p7 + p8)]) (hsN := [jgh, (101, [], [q1, p7, p8, 0, 0, 0])]) rfl rfl rfl ?_
  refine jT_labs (z := 0) (by rfl) (by rfl) (by rfl) (by rfl) (by decide +kernel) ?_
  refine jT_xladd (x := p7 + p8) (y := 0) (z := p7 + p8) (pcN := 21) jIQ_39_20 rfl (by omega) rfl ?_
  refine jT_xlstore_n (v := (1, p7 + p8)) (LN := [(2, (1, p7 + p8)), (4, (0, 3)), (0, (4, 0)), (1, (4, 1))]) (pcN := 22) jIQ_39_21 rfl rfl rfl rfl ?_
  refine jT_xiinc (x := 3) (z := 4) (LN := [(4, (0, 4)), (2, (1, p7 + p8)), (0, (4, 0)), (1, (4, 1))]) (pcN := 25) jIQ_39_22 rfl rfl (by decide) rfl rfl ?_
  refine jT_xgoto (pcN := 5) jIQ_39_25 rfl ?_
  refine jT_xiload (v := (0, 4)) (pcN := 7) jIQ_39_5 rfl rfl rfl ?_
  refine jT_xbipush (k := 6) (pcN := 9) jIQ_39_7 (by decide) rfl ?_
  refine jT_xicF (t := 28) (pcN := 12) jIQ_39_9 rfl (by decide +kernel) rfl rfl ?_
  refine jT_xlload_n (v := (1, p7 + p8)) (pcN := 13) jIQ_39_12 rfl rfl rfl ?_
  refine jT_xaload_n (v := (4, 1)) (pcN := 14) jIQ_39_13 rfl rfl rfl ?_
  refine jT_xiload (v := (0, 4)) (pcN := 16) jIQ_39_14 rfl rfl rfl ?_
  refine jT_lald (x := 0) (a := 1) (j := 4) (fs := []) (X := [q1, p7, p8, 0, 0, 0]) jIQ_39_16 rfl rfl rfl rfl ?_
  refine jT_eq (LN := [(4, (0, 4)), (2, (1, p7 + p8)), (0, (4, 0)), (1, (4, 1))]) (stN := [(1, 0), (1, p7 + p8)]) (hsN := [jgh, (101, [], [q1, p7, p8, 0, 0, 0])]) rfl rfl rfl ?_
  refine jT_labs (z := 0) (by rfl) (by rfl) (by rfl) (by rfl) (by decide +kernel) ?_
  refine jT_xladd (x := p7 + p8) (y := 0) (z := p7 + p8) (pcN := 21) jIQ_39_20 rfl (by omega) rfl ?_
  refine jT_xlstore_n (v := (1, p7 + p8)) (LN := [(2, (1, p7 + p8)), (4, (0, 4)), (0, (4, 0)), (1, (4, 1))]) (pcN := 22) jIQ_39_21 rfl rfl rfl rfl ?_
  refine jT_xiinc (x := 4) (z := 5) (LN := [(4, (0, 5)), (2, (1, p7 + p8)), (0, (4, 0)), (1, (4, 1))]) (pcN := 25) jIQ_39_22 rfl rfl (by decide) rfl rfl ?_
  refine jT_xgoto (pcN := 5) jIQ_39_25 rfl ?_
  refine jT_xiload (v := (0, 5)) (pcN := 7) jIQ_39_5 rfl rfl rfl ?_
  refine jT_xbipush (k := 6) (pcN := 9) jIQ_39_7 (by decide) rfl ?_
  refine jT_xicF (t := 28) (pcN := 12) jIQ_39_9 rfl (by decide +kernel) rfl rfl ?_
  refine jT_xlload_n (v := (1, p7 + p8)) (pcN := 13) jIQ_39_12 rfl rfl rfl ?_
  refine jT_xaload_n (v := (4, 1)) (pcN := 14) jIQ_39_13 rfl rfl rfl ?_
  refine jT_xiload (v := (0, 5)) (pcN := 16) jIQ_39_14 rfl rfl rfl ?_
  refine jT_lald (x := 0) (a := 1) (j := 5) (fs := []) (X := [q1, p7, p8, 0, 0, 0]) jIQ_39_16 rfl rfl rfl rfl ?_
  refine jT_eq (LN := [(4, (0, 5)), (2, (1, p7 + p8)), (0, (4, 0)), (1, (4, 1))]) (stN := [(1, 0), (1, p7 + p8)]) (hsN := [jgh, (101, [], [q1, p7, p8, 0, 0, 0])]) rfl rfl rfl ?_
  refine jT_labs (z := 0) (by rfl) (by rfl) (by rfl) (by rfl) (by decide +kernel) ?_
  refine jT_xladd (x := p7 + p8) (y := 0) (z := p7 + p8) (pcN := 21) jIQ_39_20 rfl (by omega) rfl ?_
  refine jT_xlstore_n (v := (1, p7 + p8)) (LN := [(2, (1, p7 + p8)), (4, (0, 5)), (0, (4, 0)), (1, (4, 1))]) (pcN := 22) jIQ_39_21 rfl rfl rfl rfl ?_
  refine jT_xiinc (x := 5) (z := 6) (LN := [(4, (0, 6)), (2, (1, p7 + p8)), (0, (4, 0)), (1, (4, 1))]) (pcN := 25) jIQ_39_22 rfl rfl (by decide) rfl rfl ?_
  refine jT_xgoto (pcN := 5) jIQ_39_25 rfl ?_
  refine jT_xiload (v := (0, 6)) (pcN := 7) jIQ_39_5 rfl rfl rfl ?_
  refine jT_xbipush (k := 6) (pcN := 9) jIQ_39_7 (by decide) rfl ?_
  refine jT_xicT (pcN := 28) jIQ_39_9 rfl (by decide +kernel) rfl ?_
  refine jT_xlload_n (v := (1, p7 + p8)) (pcN := 29) jIQ_39_28 rfl rfl rfl ?_
  exact jT_ret rfl (by decide) (by show 2 ≤ 2; omega) (by omega) (by omega) ⟨rfl, rfl, rfl⟩
theorem jIQ_372_0 : jmI (jm 372) 0 = (.lload_n 0, 1) := by rfl
theorem jIQ_372_1 : jmI (jm 372) 1 = (.lload_n 2, 1) := by rfl
theorem jIQ_372_3 : jmI (jm 372) 3 = (.ifCond .ge 7, 3) := by rfl
theorem jIQ_372_6 : jmI (jm 372) 6 = (.iconst (-1), 1) := by rfl
theorem jIQ_372_7 : jmI (jm 372) 7 = (.goto 14, 3) := by rfl
theorem jQ_372_104 {xs : List Int} {d : Nat} {q1 : Int} (h_q1 : (-60) ≤ q1 ∧ q1 ≤ 60) (g_0 : q1 - 1 < 0) (g_1 : q1 < 0) : jT xs d 372 0 0 [(0, (1, q1)), (2, (1, 0))] [] [] 0 0 (fun k v hsN => k = 0 ∧ v = (0, (-1)) ∧ hsN = [] ++ []) := by
  refine jT_xlload_n (v := (1, q1)) (pcN := 1) jIQ_372_0 rfl rfl rfl ?_
  refine jT_xlload_n (v := (1, 0)) (pcN := 2) jIQ_372_1 rfl rfl rfl ?_
  refine jT_lcmp (a := q1) (b := 0) (z := (-1)) (by rfl) (by rfl) (jwl_idd (by omega) (by omega)) (jwl_idd (by omega) (by omega)) (by rw [decide_eq_false (show ¬ ((0 : Int) < q1) by omega), decide_eq_false (show ¬ ((q1 : Int) = 0) by omega)]; rfl) ?_
  refine jT_xifF (t := 10) (pcN := 6) jIQ_372_3 rfl (by decide +kernel) rfl rfl ?_
  refine jT_xiconst (k := (-1)) (pcN := 7) jIQ_372_6 rfl ?_
  refine jT_xgoto (pcN := 21) jIQ_372_7 rfl ?_
  exact jT_ret rfl (by decide) (by show 0 ≤ 0; omega) (by omega) (by omega) ⟨rfl, rfl, rfl⟩
theorem jQ_39_105 {xs : List Int} {d : Nat} {p7 p8 q1 : Int} (h_p7 : (-20) ≤ p7 ∧ p7 ≤ 20) (h_p8 : (-10) ≤ p8 ∧ p8 ≤ 10) (h_q1 : (-60) ≤ q1 ∧ q1 ≤ 60) (g_0 : 0 ≤ (-108917793694) * p7 - 159561683698 * p8 - 68719476736 * q1 - 1) (g_1 : 0 ≤ (-108917793694) * p7 - 159561683700 * p8 - 68719476736 * q1 - 1) (g_2 : 0 ≤ (-108917793696) * p7 - 159561683698 * p8 - 68719476736 * q1 - 1) (g_3 : 0 ≤ (-108917793696) * p7 - 159561683700 * p8 - 68719476736 * q1 - 1) (g_4 : 0 ≤ p7) (g_5 : 0 ≤ p8) (g_6 : p7 + p8 - 1 < 0) (g_7 : q1 - 1 < 0) (g_8 : 0 ≤ q1) : jT xs d 39 2 0 [(0, (4, 0)), (1, (4, 1))] [] [jgh, (101, [], [q1, p7, p8, 0, 0, 0])] 0 0 (fun k v hsN => k = 0 ∧ v = (1, p7 + p8) ∧ hsN = [jgh, (101, [], [q1, p7, p8, 0, 0, 0])] ++ []) := by
  refine jT_xlconst (z := 0) (pcN := 1) jIQ_39_0 rfl rfl ?_
  refine jT_xlstore_n (v := (1, 0)) (LN := [(2, (1, 0)), (0, (4, 0)), (1, (4, 1))]) (pcN := 2) jIQ_39_1 rfl rfl rfl rfl ?_
  refine jT_xiconst (k := 1) (pcN := 3) jIQ_39_2 rfl ?_
  refine jT_xistore (v := (0, 1)) (LN := [(4, (0, 1)), (2, (1, 0)), (0, (4, 0)), (1, (4, 1))]) (pcN := 5) jIQ_39_3 rfl rfl rfl rfl ?_
  refine jT_xiload (v := (0, 1)) (pcN := 7) jIQ_39_5 rfl rfl rfl ?_
  refine jT_xbipush (k := 6) (pcN := 9) jIQ_39_7 (by decide) rfl ?_
  refine jT_xicF (t := 28) (pcN := 12) jIQ_39_9 rfl (by decide +kernel) rfl rfl ?_
  refine jT_xlload_n (v := (1, 0)) (pcN := 13) jIQ_39_12 rfl rfl rfl ?_
  refine jT_xaload_n (v := (4, 1)) (pcN := 14) jIQ_39_13 rfl rfl rfl ?_
  refine jT_xiload (v := (0, 1)) (pcN := 16) jIQ_39_14 rfl rfl rfl ?_
  refine jT_lald (x := p7) (a := 1) (j := 1) (fs := []) (X := [q1, p7, p8, 0, 0, 0]) jIQ_39_16 rfl rfl rfl rfl ?_
  refine jT_eq (LN := [(4, (0, 1)), (2, (1, 0)), (0, (4, 0)), (1, (4, 1))]) (stN := [(1, p7), (1, 0)]) (hsN := [jgh, (101, [], [q1, p7, p8, 0, 0, 0])]) rfl rfl rfl ?_
  refine jT_labs (z := p7) (by rfl) (by rfl) (by rfl) (by rfl) (by rw [show jwl (p7) = p7 from jwl_idd (by omega) (by omega), decide_eq_false (by omega)]; first | (simp only [cond_true, cond_false]; done) | (simp only [cond_true, cond_false]; omega) | rfl) ?_
  refine jT_xladd (x := 0) (y := p7) (z := p7) (pcN := 21) jIQ_39_20 rfl (by omega) rfl ?_
  refine jT_xlstore_n (v := (1, p7)) (LN := [(2, (1, p7)), (4, (0, 1)), (0, (4, 0)), (1, (4, 1))]) (pcN := 22) jIQ_39_21 rfl rfl rfl rfl ?_
  refine jT_xiinc (x := 1) (z := 2) (LN := [(4, (0, 2)), (2, (1, p7)), (0, (4, 0)), (1, (4, 1))]) (pcN := 25) jIQ_39_22 rfl rfl (by decide) rfl rfl ?_
  refine jT_xgoto (pcN := 5) jIQ_39_25 rfl ?_
  refine jT_xiload (v := (0, 2)) (pcN := 7) jIQ_39_5 rfl rfl rfl ?_
  refine jT_xbipush (k := 6) (pcN := 9) jIQ_39_7 (by decide) rfl ?_
  refine jT_xicF (t := 28) (pcN := 12) jIQ_39_9 rfl (by decide +kernel) rfl rfl ?_
  refine jT_xlload_n (v := (1, p7)) (pcN := 13) jIQ_39_12 rfl rfl rfl ?_
  refine jT_xaload_n (v := (4, 1)) (pcN := 14) jIQ_39_13 rfl rfl rfl ?_
  refine jT_xiload (v := (0, 2)) (pcN := 16) jIQ_39_14 rfl rfl rfl ?_
  refine jT_lald (x := p8) (a := 1) (j := 2) (fs := []) (X := [q1, p7, p8, 0, 0, 0]) jIQ_39_16 rfl rfl rfl rfl ?_
  refine jT_eq (LN := [(4, (0, 2)), (2, (1, p7)), (0, (4, 0)), (1, (4, 1))]) (stN := [(1, p8), (1, p7)]) (hsN := [jgh, (101, [], [q1, p7, p8, 0, 0, 0])]) rfl rfl rfl ?_
  refine jT_labs (z := p8) (by rfl) (by rfl) (by rfl) (by rfl) (by rw [show jwl (p8) = p8 from jwl_idd (by omega) (by omega), decide_eq_false (by omega)]; first | (simp only [cond_true, cond_false]; done) | (simp only [cond_true, cond_false]; omega) | rfl) ?_
  refine jT_xladd (x := p7) (y := p8) (z := p7 + p8) (pcN := 21) jIQ_39_20 rfl (rfl) rfl ?_
  refine jT_xlstore_n (v := (1, p7 + p8)) (LN := [(2, (1, p7 + p8)), (4, (0, 2)), (0, (4, 0)), (1, (4, 1))]) (pcN := 22) jIQ_39_21 rfl rfl rfl rfl ?_
  refine jT_xiinc (x := 2) (z := 3) (LN := [(4, (0, 3)), (2, (1, p7 + p8)), (0, (4, 0)), (1, (4, 1))]) (pcN := 25) jIQ_39_22 rfl rfl (by decide) rfl rfl ?_
  refine jT_xgoto (pcN := 5) jIQ_39_25 rfl ?_
  refine jT_xiload (v := (0, 3)) (pcN := 7) jIQ_39_5 rfl rfl rfl ?_
  refine jT_xbipush (k := 6) (pcN := 9) jIQ_39_7 (by decide) rfl ?_
  refine jT_xicF (t := 28) (pcN := 12) jIQ_39_9 rfl (by decide +kernel) rfl rfl ?_
  refine jT_xlload_n (v := (1, p7 + p8)) (pcN := 13) jIQ_39_12 rfl rfl rfl ?_
  refine jT_xaload_n (v := (4, 1)) (pcN := 14) jIQ_39_13 rfl rfl rfl ?_
  refine jT_xiload (v := (0, 3)) (pcN := 16) jIQ_39_14 rfl rfl rfl ?_
  refine jT_lald (x := 0) (a := 1) (j := 3) (fs := []) (X := [q1, p7, p8, 0, 0, 0]) jIQ_39_16 rfl rfl rfl rfl ?_
  refine jT_eq (LN := [(4, (0, 3)), (2, (1, p7 + p8)), (0, (4, 0)), (1, (4, 1))]) (stN := [(1, 0), (1, p7 + p8)]) (hsN := [jgh, (101, [], [q1, p7, p8, 0, 0, 0])]) rfl rfl rfl ?_
  refine jT_labs (z := 0) (by rfl) (by rfl) (by rfl) (by rfl) (by decide +kernel) ?_
  refine jT_xladd (x := p7 + p8) (y := 0) (z := p7 + p8) (pcN := 21) jIQ_39_20 rfl (by omega) rfl ?_
  refine jT_xlstore_n (v := (1, p7 + p8)) (LN := [(2, (1, p7 + p8)), (4, (0, 3)), (0, (4, 0)), (1, (4, 1))]) (pcN := 22) jIQ_39_21 rfl rfl rfl rfl ?_
  refine jT_xiinc (x := 3) (z := 4) (LN := [(4, (0, 4)), (2, (1, p7 + p8)), (0, (4, 0)), (1, (4, 1))]) (pcN := 25) jIQ_39_22 rfl rfl (by decide) rfl rfl ?_
  refine jT_xgoto (pcN := 5) jIQ_39_25 rfl ?_
  refine jT_xiload (v := (0, 4)) (pcN := 7) jIQ_39_5 rfl rfl rfl ?_
  refine jT_xbipush (k := 6) (pcN := 9) jIQ_39_7 (by decide) rfl ?_
  refine jT_xicF (t := 28) (pcN := 12) jIQ_39_9 rfl (by decide +kernel) rfl rfl ?_
  refine jT_xlload_n (v := (1, p7 + p8)) (pcN := 13) jIQ_39_12 rfl rfl rfl ?_
  refine jT_xaload_n (v := (4, 1)) (pcN := 14) jIQ_39_13 rfl rfl rfl ?_
  refine jT_xiload (v := (0, 4)) (pcN := 16) jIQ_39_14 rfl rfl rfl ?_
  refine jT_lald (x := 0) (a := 1) (j := 4) (fs := []) (X := [q1, p7, p8, 0, 0, 0]) jIQ_39_16 rfl rfl rfl rfl ?_
  refine jT_eq (LN := [(4, (0, 4)), (2, (1, p7 + p8)), (0, (4, 0)), (1, (4, 1))]) (stN := [(1, 0), (1, p7 + p8)]) (hsN := [jgh, (101, [], [q1, p7, p8, 0, 0, 0])]) rfl rfl rfl ?_
  refine jT_labs (z := 0) (by rfl) (by rfl) (by rfl) (by rfl) (by decide +kernel) ?_
  refine jT_xladd (x := p7 + p8) (y := 0) (z := p7 + p8) (pcN := 21) jIQ_39_20 rfl (by omega) rfl ?_
  refine jT_xlstore_n (v := (1, p7 + p8)) (LN := [(2, (1, p7 + p8)), (4, (0, 4)), (0, (4, 0)), (1, (4, 1))]) (pcN := 22) jIQ_39_21 rfl rfl rfl rfl ?_
  refine jT_xiinc (x := 4) (z := 5) (LN := [(4, (0, 5)), (2, (1, p7 + p8)), (0, (4, 0)), (1, (4, 1))]) (pcN := 25) jIQ_39_22 rfl rfl (by decide) rfl rfl ?_
  refine jT_xgoto (pcN := 5) jIQ_39_25 rfl ?_
  refine jT_xiload (v := (0, 5)) (pcN := 7) jIQ_39_5 rfl rfl rfl ?_
  refine jT_xbipush (k := 6) (pcN := 9) jIQ_39_7 (by decide) rfl ?_
  refine jT_xicF (t := 28) (pcN := 12) jIQ_39_9 rfl (by decide +kernel) rfl rfl ?_
  refine jT_xlload_n (v := (1, p7 + p8)) (pcN := 13) jIQ_39_12 rfl rfl rfl ?_
  refine jT_xaload_n (v := (4, 1)) (pcN := 14) jIQ_39_13 rfl rfl rfl ?_
  refine jT_xiload (v := (0, 5)) (pcN := 16) jIQ_39_14 rfl rfl rfl ?_
  refine jT_lald (x := 0) (a := 1) (j := 5) (fs := []) (X := [q1, p7, p8, 0, 0, 0]) jIQ_39_16 rfl rfl rfl rfl ?_
  refine jT_eq (LN := [(4, (0, 5)), (2, (1, p7 + p8)), (0, (4, 0)), (1, (4, 1))]) (stN := [(1, 0), (1, p7 + p8)]) (hsN := [jgh, (101, [], [q1, p7, p8, 0, 0, 0])]) rfl rfl rfl ?_
  refine jT_labs (z := 0) (by rfl) (by rfl) (by rfl) (by rfl) (by decide +kernel) ?_
  refine jT_xladd (x := p7 + p8) (y := 0) (z := p7 + p8) (pcN := 21) jIQ_39_20 rfl (by omega) rfl ?_
  refine jT_xlstore_n (v := (1, p7 + p8)) (LN := [(2, (1, p7 + p8)), (4, (0, 5)), (0, (4, 0)), (1, (4, 1))]) (pcN := 22) jIQ_39_21 rfl rfl rfl rfl ?_
  refine jT_xiinc (x := 5) (z := 6) (LN := [(4, (0, 6)), (2, (1, p7 + p8)), (0, (4, 0)), (1, (4, 1))]) (pcN := 25) jIQ_39_22 rfl rfl (by decide) rfl rfl ?_
  refine jT_xgoto (pcN := 5) jIQ_39_25 rfl ?_
  refine jT_xiload (v := (0, 6)) (pcN := 7) jIQ_39_5 rfl rfl rfl ?_
  refine jT_xbipush (k := 6) (pcN := 9) jIQ_39_7 (by decide) rfl ?_
  refine jT_xicT (pcN := 28) jIQ_39_9 rfl (by decide +kernel) rfl ?_
  refine jT_xlload_n (v := (1, p7 + p8)) (pcN := 29) jIQ_39_28 rfl rfl rfl ?_
  exact jT_ret rfl (by decide) (by show 2 ≤ 2; omega) (by omega) (by omega) ⟨rfl, rfl, rfl⟩
theorem jIQ_372_10 : jmI (jm 372) 10 = (.lload_n 0, 1) := by rfl
theorem jIQ_372_11 : jmI (jm 372) 11 = (.lload_n 2, 1) := by rfl
theorem jIQ_372_13 : jmI (jm 372) 13 = (.ifCond .ne 7, 3) := by rfl
theorem jIQ_372_16 : jmI (jm 372) 16 = (.iconst 0, 1) := by rfl
theorem jIQ_372_17 : jmI (jm 372) 17 = (.goto 4, 3) := by rfl
theorem jQ_372_106 {xs : List Int} {d : Nat} {q1 : Int} (h_q1 : (-60) ≤ q1 ∧ q1 ≤ 60) (g_0 : q1 - 1 < 0) (g_1 : 0 ≤ q1) : jT xs d 372 0 0 [(0, (1, q1)), (2, (1, 0))] [] [] 0 0 (fun k v hsN => k = 0 ∧ v = (0, 0) ∧ hsN = [] ++ []) := by
  refine jT_xlload_n (v := (1, q1)) (pcN := 1) jIQ_372_0 rfl rfl rfl ?_
  refine jT_xlload_n (v := (1, 0)) (pcN := 2) jIQ_372_1 rfl rfl rfl ?_
  refine jT_lcmp (a := q1) (b := 0) (z := 0) (by rfl) (by rfl) (jwl_idd (by omega) (by omega)) (jwl_idd (by omega) (by omega)) (by rw [decide_eq_false (show ¬ ((0 : Int) < q1) by omega), decide_eq_true (show (q1 : Int) = 0 by omega)]; rfl) ?_
  refine jT_xifT (pcN := 10) jIQ_372_3 rfl (by decide +kernel) rfl ?_
  refine jT_xlload_n (v := (1, q1)) (pcN := 11) jIQ_372_10 rfl rfl rfl ?_
  refine jT_xlload_n (v := (1, 0)) (pcN := 12) jIQ_372_11 rfl rfl rfl ?_
  refine jT_lcmp (a := q1) (b := 0) (z := 0) (by rfl) (by rfl) (jwl_idd (by omega) (by omega)) (jwl_idd (by omega) (by omega)) (by rw [decide_eq_false (show ¬ ((0 : Int) < q1) by omega), decide_eq_true (show (q1 : Int) = 0 by omega)]; rfl) ?_
  refine jT_xifF (t := 20) (pcN := 16) jIQ_372_13 rfl (by decide +kernel) rfl rfl ?_
  refine jT_xiconst (k := 0) (pcN := 17) jIQ_372_16 rfl ?_
  refine jT_xgoto (pcN := 21) jIQ_372_17 rfl ?_
  exact jT_ret rfl (by decide) (by show 0 ≤ 0; omega) (by omega) (by omega) ⟨rfl, rfl, rfl⟩
theorem jQ_39_107 {xs : List Int} {d : Nat} {p7 p8 q1 : Int} (h_p7 : (-20) ≤ p7 ∧ p7 ≤ 20) (h_p8 : (-10) ≤ p8 ∧ p8 ≤ 10) (h_q1 : (-60) ≤ q1 ∧ q1 ≤ 60) (g_0 : 0 ≤ (-108917793694) * p7 - 159561683698 * p8 - 68719476736 * q1 - 1) (g_1 : 0 ≤ (-108917793694) * p7 - 159561683700 * p8 - 68719476736 * q1 - 1) (g_2 : 0 ≤ (-108917793696) * p7 - 159561683698 * p8 - 68719476736 * q1 - 1) (g_3 : 0 ≤ (-108917793696) * p7 - 159561683700 * p8 - 68719476736 * q1 - 1) (g_4 : 0 ≤ p7) (g_5 : 0 ≤ p8) (g_6 : p7 + p8 - 1 < 0) (g_7 : 0 ≤ q1 - 1) : jT xs d 39 2 0 [(0, (4, 0)), (1, (4, 1))] [] [jgh, (101, [], [q1, p7, p8, 0, 0, 0])] 0 0 (fun k v hsN => k = 0 ∧ v = (1, p7 + p8) ∧ hsN = [jgh, (101, [], [q1, p7, p8, 0, 0, 0])] ++ []) := by
  refine jT_xlconst (z := 0) (pcN := 1) jIQ_39_0 rfl rfl ?_
  refine jT_xlstore_n (v := (1, 0)) (LN := [(2, (1, 0)), (0, (4, 0)), (1, (4, 1))]) (pcN := 2) jIQ_39_1 rfl rfl rfl rfl ?_
  refine jT_xiconst (k := 1) (pcN := 3) jIQ_39_2 rfl ?_
  refine jT_xistore (v := (0, 1)) (LN := [(4, (0, 1)), (2, (1, 0)), (0, (4, 0)), (1, (4, 1))]) (pcN := 5) jIQ_39_3 rfl rfl rfl rfl ?_
  refine jT_xiload (v := (0, 1)) (pcN := 7) jIQ_39_5 rfl rfl rfl ?_
  refine jT_xbipush (k := 6) (pcN := 9) jIQ_39_7 (by decide) rfl ?_
  refine jT_xicF (t := 28) (pcN := 12) jIQ_39_9 rfl (by decide +kernel) rfl rfl ?_
  refine jT_xlload_n (v := (1, 0)) (pcN := 13) jIQ_39_12 rfl rfl rfl ?_
  refine jT_xaload_n (v := (4, 1)) (pcN := 14) jIQ_39_13 rfl rfl rfl ?_
  refine jT_xiload (v := (0, 1)) (pcN := 16) jIQ_39_14 rfl rfl rfl ?_
  refine jT_lald (x := p7) (a := 1) (j := 1) (fs := []) (X := [q1, p7, p8, 0, 0, 0]) jIQ_39_16 rfl rfl rfl rfl ?_
  refine jT_eq (LN := [(4, (0, 1)), (2, (1, 0)), (0, (4, 0)), (1, (4, 1))]) (stN := [(1, p7), (1, 0)]) (hsN := [jgh, (101, [], [q1, p7, p8, 0, 0, 0])]) rfl rfl rfl ?_
  refine jT_labs (z := p7) (by rfl) (by rfl) (by rfl) (by rfl) (by rw [show jwl (p7) = p7 from jwl_idd (by omega) (by omega), decide_eq_false (by omega)]; first | (simp only [cond_true, cond_false]; done) | (simp only [cond_true, cond_false]; omega) | rfl) ?_
  refine jT_xladd (x := 0) (y := p7) (z := p7) (pcN := 21) jIQ_39_20 rfl (by omega) rfl ?_
  refine jT_xlstore_n (v := (1, p7)) (LN := [(2, (1, p7)), (4, (0, 1)), (0, (4, 0)), (1, (4, 1))]) (pcN := 22) jIQ_39_21 rfl rfl rfl rfl ?_
  refine jT_xiinc (x := 1) (z := 2) (LN := [(4, (0, 2)), (2, (1, p7)), (0, (4, 0)), (1, (4, 1))]) (pcN := 25) jIQ_39_22 rfl rfl (by decide) rfl rfl ?_
  refine jT_xgoto (pcN := 5) jIQ_39_25 rfl ?_
  refine jT_xiload (v := (0, 2)) (pcN := 7) jIQ_39_5 rfl rfl rfl ?_
  refine jT_xbipush (k := 6) (pcN := 9) jIQ_39_7 (by decide) rfl ?_
  refine jT_xicF (t := 28) (pcN := 12) jIQ_39_9 rfl (by decide +kernel) rfl rfl ?_
  refine jT_xlload_n (v := (1, p7)) (pcN := 13) jIQ_39_12 rfl rfl rfl ?_
  refine jT_xaload_n (v := (4, 1)) (pcN := 14) jIQ_39_13 rfl rfl rfl ?_
  refine jT_xiload (v := (0, 2)) (pcN := 16) jIQ_39_14 rfl rfl rfl ?_
  refine jT_lald (x := p8) (a := 1) (j := 2) (fs := []) (X := [q1, p7, p8, 0, 0, 0]) jIQ_39_16 rfl rfl rfl rfl ?_
  refine jT_eq (LN := [(4, (0, 2)), (2, (1, p7)), (0, (4, 0)), (1, (4, 1))]) (stN := [(1, p8), (1, p7)]) (hsN := [jgh, (101, [], [q1, p7, p8, 0, 0, 0])]) rfl rfl rfl ?_
  refine jT_labs (z := p8) (by rfl) (by rfl) (by rfl) (by rfl) (by rw [show jwl (p8) = p8 from jwl_idd (by omega) (by omega), decide_eq_false (by omega)]; first | (simp only [cond_true, cond_false]; done) | (simp only [cond_true, cond_false]; omega) | rfl) ?_
  refine jT_xladd (x := p7) (y := p8) (z := p7 + p8) (pcN := 21) jIQ_39_20 rfl (rfl) rfl ?_
  refine jT_xlstore_n (v := (1, p7 + p8)) (LN := [(2, (1, p7 + p8)), (4, (0, 2)), (0, (4, 0)), (1, (4, 1))]) (pcN := 22) jIQ_39_21 rfl rfl rfl rfl ?_
  refine jT_xiinc (x := 2) (z := 3) (LN := [(4, (0, 3)), (2, (1, p7 + p8)), (0, (4, 0)), (1, (4, 1))]) (pcN := 25) jIQ_39_22 rfl rfl (by decide) rfl rfl ?_
  refine jT_xgoto (pcN := 5) jIQ_39_25 rfl ?_
  refine jT_xiload (v := (0, 3)) (pcN := 7) jIQ_39_5 rfl rfl rfl ?_
  refine jT_xbipush (k := 6) (pcN := 9) jIQ_39_7 (by decide) rfl ?_
  refine jT_xicF (t := 28) (pcN := 12) jIQ_39_9 rfl (by decide +kernel) rfl rfl ?_
  refine jT_xlload_n (v := (1, p7 + p8)) (pcN := 13) jIQ_39_12 rfl rfl rfl ?_
  refine jT_xaload_n (v := (4, 1)) (pcN := 14) jIQ_39_13 rfl rfl rfl ?_
  refine jT_xiload (v := (0, 3)) (pcN := 16) jIQ_39_14 rfl rfl rfl ?_
  refine jT_lald (x := 0) (a := 1) (j := 3) (fs := []) (X := [q1, p7, p8, 0, 0, 0]) jIQ_39_16 rfl rfl rfl rfl ?_
  refine jT_eq (LN := [(4, (0, 3)), (2, (1, p7 + p8)), (0, (4, 0)), (1, (4, 1))]) (stN := [(1, 0), (1, p7 + p8)]) (hsN := [jgh, (101, [], [q1, p7, p8, 0, 0, 0])]) rfl rfl rfl ?_
  refine jT_labs (z := 0) (by rfl) (by rfl) (by rfl) (by rfl) (by decide +kernel) ?_
  refine jT_xladd (x := p7 + p8) (y := 0) (z := p7 + p8) (pcN := 21) jIQ_39_20 rfl (by omega) rfl ?_
  refine jT_xlstore_n (v := (1, p7 + p8)) (LN := [(2, (1, p7 + p8)), (4, (0, 3)), (0, (4, 0)), (1, (4, 1))]) (pcN := 22) jIQ_39_21 rfl rfl rfl rfl ?_
  refine jT_xiinc (x := 3) (z := 4) (LN := [(4, (0, 4)), (2, (1, p7 + p8)), (0, (4, 0)), (1, (4, 1))]) (pcN := 25) jIQ_39_22 rfl rfl (by decide) rfl rfl ?_
  refine jT_xgoto (pcN := 5) jIQ_39_25 rfl ?_
  refine jT_xiload (v := (0, 4)) (pcN := 7) jIQ_39_5 rfl rfl rfl ?_
  refine jT_xbipush (k := 6) (pcN := 9) jIQ_39_7 (by decide) rfl ?_
  refine jT_xicF (t := 28) (pcN := 12) jIQ_39_9 rfl (by decide +kernel) rfl rfl ?_
  refine jT_xlload_n (v := (1, p7 + p8)) (pcN := 13) jIQ_39_12 rfl rfl rfl ?_
  refine jT_xaload_n (v := (4, 1)) (pcN := 14) jIQ_39_13 rfl rfl rfl ?_
  refine jT_xiload (v := (0, 4)) (pcN := 16) jIQ_39_14 rfl rfl rfl ?_
  refine jT_lald (x := 0) (a := 1) (j := 4) (fs := []) (X := [q1, p7, p8, 0, 0, 0]) jIQ_39_16 rfl rfl rfl rfl ?_
  refine jT_eq (LN := [(4, (0, 4)), (2, (1, p7 + p8)), (0, (4, 0)), (1, (4, 1))]) (stN := [(1, 0), (1, p7 + p8)]) (hsN := [jgh, (101, [], [q1, p7, p8, 0, 0, 0])]) rfl rfl rfl ?_
  refine jT_labs (z := 0) (by rfl) (by rfl) (by rfl) (by rfl) (by decide +kernel) ?_
  refine jT_xladd (x := p7 + p8) (y := 0) (z := p7 + p8) (pcN := 21) jIQ_39_20 rfl (by omega) rfl ?_
  refine jT_xlstore_n (v := (1, p7 + p8)) (LN := [(2, (1, p7 + p8)), (4, (0, 4)), (0, (4, 0)), (1, (4, 1))]) (pcN := 22) jIQ_39_21 rfl rfl rfl rfl ?_
  refine jT_xiinc (x := 4) (z := 5) (LN := [(4, (0, 5)), (2, (1, p7 + p8)), (0, (4, 0)), (1, (4, 1))]) (pcN := 25) jIQ_39_22 rfl rfl (by decide) rfl rfl ?_
  refine jT_xgoto (pcN := 5) jIQ_39_25 rfl ?_
  refine jT_xiload (v := (0, 5)) (pcN := 7) jIQ_39_5 rfl rfl rfl ?_
  refine jT_xbipush (k := 6) (pcN := 9) jIQ_39_7 (by decide) rfl ?_
  refine jT_xicF (t := 28) (pcN := 12) jIQ_39_9 rfl (by decide +kernel) rfl rfl ?_
  refine jT_xlload_n (v := (1, p7 + p8)) (pcN := 13) jIQ_39_12 rfl rfl rfl ?_
  refine jT_xaload_n (v := (4, 1)) (pcN := 14) jIQ_39_13 rfl rfl rfl ?_
  refine jT_xiload (v := (0, 5)) (pcN := 16) jIQ_39_14 rfl rfl rfl ?_
  refine jT_lald (x := 0) (a := 1) (j := 5) (fs := []) (X := [q1, p7, p8, 0, 0, 0]) jIQ_39_16 rfl rfl rfl rfl ?_
  refine jT_eq (LN := [(4, (0, 5)), (2, (1, p7 + p8)), (0, (4, 0)), (1, (4, 1))]) (stN := [(1, 0), (1, p7 + p8)]) (hsN := [jgh, (101, [], [q1, p7, p8, 0, 0, 0])]) rfl rfl rfl ?_
  refine jT_labs (z := 0) (by rfl) (by rfl) (by rfl) (by rfl) (by decide +kernel) ?_
  refine jT_xladd (x := p7 + p8) (y := 0) (z := p7 + p8) (pcN := 21) jIQ_39_20 rfl (by omega) rfl ?_
  refine jT_xlstore_n (v := (1, p7 + p8)) (LN := [(2, (1, p7 + p8)), (4, (0, 5)), (0, (4, 0)), (1, (4, 1))]) (pcN := 22) jIQ_39_21 rfl rfl rfl rfl ?_
  refine jT_xiinc (x := 5) (z := 6) (LN := [(4, (0, 6)), (2, (1, p7 + p8)), (0, (4, 0)), (1, (4, 1))]) (pcN := 25) jIQ_39_22 rfl rfl (by decide) rfl rfl ?_
  refine jT_xgoto (pcN := 5) jIQ_39_25 rfl ?_
  refine jT_xiload (v := (0, 6)) (pcN := 7) jIQ_39_5 rfl rfl rfl ?_
  refine jT_xbipush (k := 6) (pcN := 9) jIQ_39_7 (by decide) rfl ?_
  refine jT_xicT (pcN := 28) jIQ_39_9 rfl (by decide +kernel) rfl ?_
  refine jT_xlload_n (v := (1, p7 + p8)) (pcN := 29) jIQ_39_28 rfl rfl rfl ?_
  exact jT_ret rfl (by decide) (by show 2 ≤ 2; omega) (by omega) (by omega) ⟨rfl, rfl, rfl⟩
theorem jIQ_372_20 : jmI (jm 372) 20 = (.iconst 1, 1) := by rfl
theorem jQ_372_108 {xs : List Int} {d : Nat} {q1 : Int} (h_q1 : (-60) ≤ q1 ∧ q1 ≤ 60) (g_0 : 0 ≤ q1 - 1) : jT xs d 372 0 0 [(0, (1, q1)), (2, (1, 0))] [] [] 0 0 (fun k v hsN => k = 0 ∧ v = (0, 1) ∧ hsN = [] ++ []) := by
  refine jT_xlload_n (v := (1, q1)) (pcN := 1) jIQ_372_0 rfl rfl rfl ?_
  refine jT_xlload_n (v := (1, 0)) (pcN := 2) jIQ_372_1 rfl rfl rfl ?_
  refine jT_lcmp (a := q1) (b := 0) (z := 1) (by rfl) (by rfl) (jwl_idd (by omega) (by omega)) (jwl_idd (by omega) (by omega)) (by rw [decide_eq_true (show (0 : Int) < q1 by omega)]; rfl) ?_
  refine jT_xifT (pcN := 10) jIQ_372_3 rfl (by decide +kernel) rfl ?_
  refine jT_xlload_n (v := (1, q1)) (pcN := 11) jIQ_372_10 rfl rfl rfl ?_
  refine jT_xlload_n (v := (1, 0)) (pcN := 12) jIQ_372_11 rfl rfl rfl ?_
  refine jT_lcmp (a := q1) (b := 0) (z := 1) (by rfl) (by rfl) (jwl_idd (by omega) (by omega)) (jwl_idd (by omega) (by omega)) (by rw [decide_eq_true (show (0 : Int) < q1 by omega)]; rfl) ?_
  refine jT_xifT (pcN := 20) jIQ_372_13 rfl (by decide +kernel) rfl ?_
  refine jT_xiconst (k := 1) (pcN := 21) jIQ_372_20 rfl ?_
  exact jT_ret rfl (by decide) (by show 0 ≤ 0; omega) (by omega) (by omega) ⟨rfl, rfl, rfl⟩
theorem jQ_39_109 {xs : List Int} {d : Nat} {p7 p8 q1 : Int} (h_p7 : (-20) ≤ p7 ∧ p7 ≤ 20) (h_p8 : (-10) ≤ p8 ∧ p8 ≤ 10) (h_q1 : (-60) ≤ q1 ∧ q1 ≤ 60) (g_0 : 0 ≤ (-108917793694) * p7 - 159561683698 * p8 - 68719476736 * q1 - 1) (g_1 : 0 ≤ (-108917793694) * p7 - 159561683700 * p8 - 68719476736 * q1 - 1) (g_2 : 0 ≤ (-108917793696) * p7 - 159561683698 * p8 - 68719476736 * q1 - 1) (g_3 : 0 ≤ (-108917793696) * p7 - 159561683700 * p8 - 68719476736 * q1 - 1) (g_4 : 0 ≤ p7) (g_5 : 0 ≤ p8) (g_6 : 0 ≤ p7 + p8 - 1) : jT xs d 39 2 0 [(0, (4, 0)), (1, (4, 1))] [] [jgh, (101, [], [q1, p7, p8, 0, 0, 0])] 0 0 (fun k v hsN => k = 0 ∧ v = (1, p7 + p8) ∧ hsN = [jgh, (101, [], [q1, p7, p8, 0, 0, 0])] ++ []) := by
  refine jT_xlconst (z := 0) (pcN := 1) jIQ_39_0 rfl rfl ?_
  refine jT_xlstore_n (v := (1, 0)) (LN := [(2, (1, 0)), (0, (4, 0)), (1, (4, 1))]) (pcN := 2) jIQ_39_1 rfl rfl rfl rfl ?_
  refine jT_xiconst (k := 1) (pcN := 3) jIQ_39_2 rfl ?_
  refine jT_xistore (v := (0, 1)) (LN := [(4, (0, 1)), (2, (1, 0)), (0, (4, 0)), (1, (4, 1))]) (pcN := 5) jIQ_39_3 rfl rfl rfl rfl ?_
  refine jT_xiload (v := (0, 1)) (pcN := 7) jIQ_39_5 rfl rfl rfl ?_
  refine jT_xbipush (k := 6) (pcN := 9) jIQ_39_7 (by decide) rfl ?_
  refine jT_xicF (t := 28) (pcN := 12) jIQ_39_9 rfl (by decide +kernel) rfl rfl ?_
  refine jT_xlload_n (v := (1, 0)) (pcN := 13) jIQ_39_12 rfl rfl rfl ?_
  refine jT_xaload_n (v := (4, 1)) (pcN := 14) jIQ_39_13 rfl rfl rfl ?_
  refine jT_xiload (v := (0, 1)) (pcN := 16) jIQ_39_14 rfl rfl rfl ?_
  refine jT_lald (x := p7) (a := 1) (j := 1) (fs := []) (X := [q1, p7, p8, 0, 0, 0]) jIQ_39_16 rfl rfl rfl rfl ?_
  refine jT_eq (LN := [(4, (0, 1)), (2, (1, 0)), (0, (4, 0)), (1, (4, 1))]) (stN := [(1, p7), (1, 0)]) (hsN := [jgh, (101, [], [q1, p7, p8, 0, 0, 0])]) rfl rfl rfl ?_
  refine jT_labs (z := p7) (by rfl) (by rfl) (by rfl) (by rfl) (by rw [show jwl (p7) = p7 from jwl_idd (by omega) (by omega), decide_eq_false (by omega)]; first | (simp only [cond_true, cond_false]; done) | (simp only [cond_true, cond_false]; omega) | rfl) ?_
  refine jT_xladd (x := 0) (y := p7) (z := p7) (pcN := 21) jIQ_39_20 rfl (by omega) rfl ?_
  refine jT_xlstore_n (v := (1, p7)) (LN := [(2, (1, p7)), (4, (0, 1)), (0, (4, 0)), (1, (4, 1))]) (pcN := 22) jIQ_39_21 rfl rfl rfl rfl ?_
  refine jT_xiinc (x := 1) (z := 2) (LN := [(4, (0, 2)), (2, (1, p7)), (0, (4, 0)), (1, (4, 1))]) (pcN := 25) jIQ_39_22 rfl rfl (by decide) rfl rfl ?_
  refine jT_xgoto (pcN := 5) jIQ_39_25 rfl ?_
  refine jT_xiload (v := (0, 2)) (pcN := 7) jIQ_39_5 rfl rfl rfl ?_
  refine jT_xbipush (k := 6) (pcN := 9) jIQ_39_7 (by decide) rfl ?_
  refine jT_xicF (t := 28) (pcN := 12) jIQ_39_9 rfl (by decide +kernel) rfl rfl ?_
  refine jT_xlload_n (v := (1, p7)) (pcN := 13) jIQ_39_12 rfl rfl rfl ?_
  refine jT_xaload_n (v := (4, 1)) (pcN := 14) jIQ_39_13 rfl rfl rfl ?_
  refine jT_xiload (v := (0, 2)) (pcN := 16) jIQ_39_14 rfl rfl rfl ?_
  refine jT_lald (x := p8) (a := 1) (j := 2) (fs := []) (X := [q1, p7, p8, 0, 0, 0]) jIQ_39_16 rfl rfl rfl rfl ?_
  refine jT_eq (LN := [(4, (0, 2)), (2, (1, p7)), (0, (4, 0)), (1, (4, 1))]) (stN := [(1, p8), (1, p7)]) (hsN := [jgh, (101, [], [q1, p7, p8, 0, 0, 0])]) rfl rfl rfl ?_
  refine jT_labs (z := p8) (by rfl) (by rfl) (by rfl) (by rfl) (by rw [show jwl (p8) = p8 from jwl_idd (by omega) (by omega), decide_eq_false (by omega)]; first | (simp only [cond_true, cond_false]; done) | (simp only [cond_true, cond_false]; omega) | rfl) ?_
  refine jT_xladd (x := p7) (y := p8) (z := p7 + p8) (pcN := 21) jIQ_39_20 rfl (rfl) rfl ?_
  refine jT_xlstore_n (v := (1, p7 + p8)) (LN := [(2, (1, p7 + p8)), (4, (0, 2)), (0, (4, 0)), (1, (4, 1))]) (pcN := 22) jIQ_39_21 rfl rfl rfl rfl ?_
  refine jT_xiinc (x := 2) (z := 3) (LN := [(4, (0, 3)), (2, (1, p7 + p8)), (0, (4, 0)), (1, (4, 1))]) (pcN := 25) jIQ_39_22 rfl rfl (by decide) rfl rfl ?_
  refine jT_xgoto (pcN := 5) jIQ_39_25 rfl ?_
  refine jT_xiload (v := (0, 3)) (pcN := 7) jIQ_39_5 rfl rfl rfl ?_
  refine jT_xbipush (k := 6) (pcN := 9) jIQ_39_7 (by decide) rfl ?_
  refine jT_xicF (t := 28) (pcN := 12) jIQ_39_9 rfl (by decide +kernel) rfl rfl ?_
  refine jT_xlload_n (v := (1, p7 + p8)) (pcN := 13) jIQ_39_12 rfl rfl rfl ?_
  refine jT_xaload_n (v := (4, 1)) (pcN := 14) jIQ_39_13 rfl rfl rfl ?_
  refine jT_xiload (v := (0, 3)) (pcN := 16) jIQ_39_14 rfl rfl rfl ?_
  refine jT_lald (x := 0) (a := 1) (j := 3) (fs := []) (X := [q1, p7, p8, 0, 0, 0]) jIQ_39_16 rfl rfl rfl rfl ?_
  refine jT_eq (LN := [(4, (0, 3)), (2, (1, p7 + p8)), (0, (4, 0)), (1, (4, 1))]) (stN := [(1, 0), (1, p7 + p8)]) (hsN := [jgh, (101, [], [q1, p7, p8, 0, 0, 0])]) rfl rfl rfl ?_
  refine jT_labs (z := 0) (by rfl) (by rfl) (by rfl) (by rfl) (by decide +kernel) ?_
  refine jT_xladd (x := p7 + p8) (y := 0) (z := p7 + p8) (pcN := 21) jIQ_39_20 rfl (by omega) rfl ?_
  refine jT_xlstore_n (v := (1, p7 + p8)) (LN := [(2, (1, p7 + p8)), (4, (0, 3)), (0, (4, 0)), (1, (4, 1))]) (pcN := 22) jIQ_39_21 rfl rfl rfl rfl ?_
  refine jT_xiinc (x := 3) (z := 4) (LN := [(4, (0, 4)), (2, (1, p7 + p8)), (0, (4, 0)), (1, (4, 1))]) (pcN := 25) jIQ_39_22 rfl rfl (by decide) rfl rfl ?_
  refine jT_xgoto (pcN := 5) jIQ_39_25 rfl ?_
  refine jT_xiload (v := (0, 4)) (pcN := 7) jIQ_39_5 rfl rfl rfl ?_
  refine jT_xbipush (k := 6) (pcN := 9) jIQ_39_7 (by decide) rfl ?_
  refine jT_xicF (t := 28) (pcN := 12) jIQ_39_9 rfl (by decide +kernel) rfl rfl ?_
  refine jT_xlload_n (v := (1, p7 + p8)) (pcN := 13) jIQ_39_12 rfl rfl rfl ?_
  refine jT_xaload_n (v := (4, 1)) (pcN := 14) jIQ_39_13 rfl rfl rfl ?_
  refine jT_xiload (v := (0, 4)) (pcN := 16) jIQ_39_14 rfl rfl rfl ?_
  refine jT_lald (x := 0) (a := 1) (j := 4) (fs := []) (X := [q1, p7, p8, 0, 0, 0]) jIQ_39_16 rfl rfl rfl rfl ?_
  refine jT_eq (LN := [(4, (0, 4)), (2, (1, p7 + p8)), (0, (4, 0)), (1, (4, 1))]) (stN := [(1, 0), (1, p7 + p8)]) (hsN := [jgh, (101, [], [q1, p7, p8, 0, 0, 0])]) rfl rfl rfl ?_
  refine jT_labs (z := 0) (by rfl) (by rfl) (by rfl) (by rfl) (by decide +kernel) ?_
  refine jT_xladd (x := p7 + p8) (y := 0) (z := p7 + p8) (pcN := 21) jIQ_39_20 rfl (by omega) rfl ?_
  refine jT_xlstore_n (v := (1, p7 + p8)) (LN := [(2, (1, p7 + p8)), (4, (0, 4)), (0, (4, 0)), (1, (4, 1))]) (pcN := 22) jIQ_39_21 rfl rfl rfl rfl ?_
  refine jT_xiinc (x := 4) (z := 5) (LN := [(4, (0, 5)), (2, (1, p7 + p8)), (0, (4, 0)), (1, (4, 1))]) (pcN := 25) jIQ_39_22 rfl rfl (by decide) rfl rfl ?_
  refine jT_xgoto (pcN := 5) jIQ_39_25 rfl ?_
  refine jT_xiload (v := (0, 5)) (pcN := 7) jIQ_39_5 rfl rfl rfl ?_
  refine jT_xbipush (k := 6) (pcN := 9) jIQ_39_7 (by decide) rfl ?_
  refine jT_xicF (t := 28) (pcN := 12) jIQ_39_9 rfl (by decide +kernel) rfl rfl ?_
  refine jT_xlload_n (v := (1, p7 + p8)) (pcN := 13) jIQ_39_12 rfl rfl rfl ?_
  refine jT_xaload_n (v := (4, 1)) (pcN := 14) jIQ_39_13 rfl rfl rfl ?_
  refine jT_xiload (v := (0, 5)) (pcN := 16) jIQ_39_14 rfl rfl rfl ?_
  refine jT_lald (x := 0) (a := 1) (j := 5) (fs := []) (X := [q1, p7, p8, 0, 0, 0]) jIQ_39_16 rfl rfl rfl rfl ?_
  refine jT_eq (LN := [(4, (0, 5)), (2, (1, p7 + p8)), (0, (4, 0)), (1, (4, 1))]) (stN := [(1, 0), (1, p7 + p8)]) (hsN := [jgh, (101, [], [q1, p7, p8, 0, 0, 0])]) rfl rfl rfl ?_
  refine jT_labs (z := 0) (by rfl) (by rfl) (by rfl) (by rfl) (by decide +kernel) ?_
  refine jT_xladd (x := p7 + p8) (y := 0) (z := p7 + p8) (pcN := 21) jIQ_39_20 rfl (by omega) rfl ?_
  refine jT_xlstore_n (v := (1, p7 + p8)) (LN := [(2, (1, p7 + p8)), (4, (0, 5)), (0, (4, 0)), (1, (4, 1))]) (pcN := 22) jIQ_39_21 rfl rfl rfl rfl ?_
  refine jT_xiinc (x := 5) (z := 6) (LN := [(4, (0, 6)), (2, (1, p7 + p8)), (0, (4, 0)), (1, (4, 1))]) (pcN := 25) jIQ_39_22 rfl rfl (by decide) rfl rfl ?_
  refine jT_xgoto (pcN := 5) jIQ_39_25 rfl ?_
  refine jT_xiload (v := (0, 6)) (pcN := 7) jIQ_39_5 rfl rfl rfl ?_
  refine jT_xbipush (k := 6) (pcN := 9) jIQ_39_7 (by decide) rfl ?_
  refine jT_xicT (pcN := 28) jIQ_39_9 rfl (by decide +kernel) rfl ?_
  refine jT_xlload_n (v := (1, p7 + p8)) (pcN := 29) jIQ_39_28 rfl rfl rfl ?_
  exact jT_ret rfl (by decide) (by show 2 ≤ 2; omega) (by omega) (by omega) ⟨rfl, rfl, rfl⟩
theorem jQ_39_110 {xs : List Int} {d : Nat} {p7 p8 q1 : Int} (h_p7 : (-20) ≤ p7 ∧ p7 ≤ 20) (h_p8 : (-10) ≤ p8 ∧ p8 ≤ 10) (h_q1 : (-60) ≤ q1 ∧ q1 ≤ 60) (g_0 : 0 ≤ (-108917793694) * p7 - 159561683698 * p8 - 68719476736 * q1 - 1) (g_1 : 0 ≤ (-108917793694) * p7 - 159561683700 * p8 - 68719476736 * q1 - 1) (g_2 : 0 ≤ (-108917793696) * p7 - 159561683698 * p8 - 68719476736 * q1 - 1) (g_3 : 0 ≤ (-108917793696) * p7 - 159561683700 * p8 - 68719476736 * q1 - 1) (g_4 : 0 ≤ p7) (g_5 : 0 ≤ p8) (g_6 : 0 ≤ p7 + p8 - 1) (g_7 : q1 < 0) : jT xs d 39 2 0 [(0, (4, 0)), (1, (4, 1))] [] [jgh, (101, [], [q1, p7, p8, 0, 0, 0])] 0 0 (fun k v hsN => k = 0 ∧ v = (1, p7 + p8) ∧ hsN = [jgh, (101, [], [q1, p7, p8, 0, 0, 0])] ++ []) := by
  refine jT_xlconst (z := 0) (pcN := 1) jIQ_39_0 rfl rfl ?_
  refine jT_xlstore_n (v := (1, 0)) (LN := [(2, (1, 0)), (0, (4, 0)), (1, (4, 1))]) (pcN := 2) jIQ_39_1 rfl rfl rfl rfl ?_
  refine jT_xiconst (k := 1) (pcN := 3) jIQ_39_2 rfl ?_
  refine jT_xistore (v := (0, 1)) (LN := [(4, (0, 1)), (2, (1, 0)), (0, (4, 0)), (1, (4, 1))]) (pcN := 5) jIQ_39_3 rfl rfl rfl rfl ?_
  refine jT_xiload (v := (0, 1)) (pcN := 7) jIQ_39_5 rfl rfl rfl ?_
  refine jT_xbipush (k := 6) (pcN := 9) jIQ_39_7 (by decide) rfl ?_
  refine jT_xicF (t := 28) (pcN := 12) jIQ_39_9 rfl (by decide +kernel) rfl rfl ?_
  refine jT_xlload_n (v := (1, 0)) (pcN := 13) jIQ_39_12 rfl rfl rfl ?_
  refine jT_xaload_n (v := (4, 1)) (pcN := 14) jIQ_39_13 rfl rfl rfl ?_
  refine jT_xiload (v := (0, 1)) (pcN := 16) jIQ_39_14 rfl rfl rfl ?_
  refine jT_lald (x := p7) (a := 1) (j := 1) (fs := []) (X := [q1, p7, p8, 0, 0, 0]) jIQ_39_16 rfl rfl rfl rfl ?_
  refine jT_eq (LN := [(4, (0, 1)), (2, (1, 0)), (0, (4, 0)), (1, (4, 1))]) (stN := [(1, p7), (1, 0)]) (hsN := [jgh, (101, [], [q1, p7, p8, 0, 0, 0])]) rfl rfl rfl ?_
  refine jT_labs (z := p7) (by rfl) (by rfl) (by rfl) (by rfl) (by rw [show jwl (p7) = p7 from jwl_idd (by omega) (by omega), decide_eq_false (by omega)]; first | (simp only [cond_true, cond_false]; done) | (simp only [cond_true, cond_false]; omega) | rfl) ?_
  refine jT_xladd (x := 0) (y := p7) (z := p7) (pcN := 21) jIQ_39_20 rfl (by omega) rfl ?_
  refine jT_xlstore_n (v := (1, p7)) (LN := [(2, (1, p7)), (4, (0, 1)), (0, (4, 0)), (1, (4, 1))]) (pcN := 22) jIQ_39_21 rfl rfl rfl rfl ?_
  refine jT_xiinc (x := 1) (z := 2) (LN := [(4, (0, 2)), (2, (1, p7)), (0, (4, 0)), (1, (4, 1))]) (pcN := 25) jIQ_39_22 rfl rfl (by decide) rfl rfl ?_
  refine jT_xgoto (pcN := 5) jIQ_39_25 rfl ?_
  refine jT_xiload (v := (0, 2)) (pcN := 7) jIQ_39_5 rfl rfl rfl ?_
  refine jT_xbipush (k := 6) (pcN := 9) jIQ_39_7 (by decide) rfl ?_
  refine jT_xicF (t := 28) (pcN := 12) jIQ_39_9 rfl (by decide +kernel) rfl rfl ?_
  refine jT_xlload_n (v := (1, p7)) (pcN := 13) jIQ_39_12 rfl rfl rfl ?_
  refine jT_xaload_n (v := (4, 1)) (pcN := 14) jIQ_39_13 rfl rfl rfl ?_
  refine jT_xiload (v := (0, 2)) (pcN := 16) jIQ_39_14 rfl rfl rfl ?_
  refine jT_lald (x := p8) (a := 1) (j := 2) (fs := []) (X := [q1, p7, p8, 0, 0, 0]) jIQ_39_16 rfl rfl rfl rfl ?_
  refine jT_eq (LN := [(4, (0, 2)), (2, (1, p7)), (0, (4, 0)), (1, (4, 1))]) (stN := [(1, p8), (1, p7)]) (hsN := [jgh, (101, [], [q1, p7, p8, 0, 0, 0])]) rfl rfl rfl ?_
  refine jT_labs (z := p8) (by rfl) (by rfl) (by rfl) (by rfl) (by rw [show jwl (p8) = p8 from jwl_idd (by omega) (by omega), decide_eq_false (by omega)]; first | (simp only [cond_true, cond_false]; done) | (simp only [cond_true, cond_false]; omega) | rfl) ?_
  refine jT_xladd (x := p7) (y := p8) (z := p7 + p8) (pcN := 21) jIQ_39_20 rfl (rfl) rfl ?_
  refine jT_xlstore_n (v := (1, p7 + p8)) (LN := [(2, (1, p7 + p8)), (4, (0, 2)), (0, (4, 0)), (1, (4, 1))]) (pcN := 22) jIQ_39_21 rfl rfl rfl rfl ?_
  refine jT_xiinc (x := 2) (z := 3) (LN := [(4, (0, 3)), (2, (1, p7 + p8)), (0, (4, 0)), (1, (4, 1))]) (pcN := 25) jIQ_39_22 rfl rfl (by decide) rfl rfl ?_
  refine jT_xgoto (pcN := 5) jIQ_39_25 rfl ?_
  refine jT_xiload (v := (0, 3)) (pcN := 7) jIQ_39_5 rfl rfl rfl ?_
  refine jT_xbipush (k := 6) (pcN := 9) jIQ_39_7 (by decide) rfl ?_
  refine jT_xicF (t := 28) (pcN := 12) jIQ_39_9 rfl (by decide +kernel) rfl rfl ?_
  refine jT_xlload_n (v := (1, p7 + p8)) (pcN := 13) jIQ_39_12 rfl rfl rfl ?_
  refine jT_xaload_n (v := (4, 1)) (pcN := 14) jIQ_39_13 rfl rfl rfl ?_
  refine jT_xiload (v := (0, 3)) (pcN := 16) jIQ_39_14 rfl rfl rfl ?_
  refine jT_lald (x := 0) (a := 1) (j := 3) (fs := []) (X := [q1, p7, p8, 0, 0, 0]) jIQ_39_16 rfl rfl rfl rfl ?_
  refine jT_eq (LN := [(4, (0, 3)), (2, (1, p7 + p8)), (0, (4, 0)), (1, (4, 1))]) (stN := [(1, 0), (1, p7 + p8)]) (hsN := [jgh, (101, [], [q1, p7, p8, 0, 0, 0])]) rfl rfl rfl ?_
  refine jT_labs (z := 0) (by rfl) (by rfl) (by rfl) (by rfl) (by decide +kernel) ?_
  refine jT_xladd (x := p7 + p8) (y := 0) (z := p7 + p8) (pcN := 21) jIQ_39_20 rfl (by omega) rfl ?_
  refine jT_xlstore_n (v := (1, p7 + p8)) (LN := [(2, (1, p7 + p8)), (4, (0, 3)), (0, (4, 0)), (1, (4, 1))]) (pcN := 22) jIQ_39_21 rfl rfl rfl rfl ?_
  refine jT_xiinc (x := 3) (z := 4) (LN := [(4, (0, 4)), (2, (1, p7 + p8)), (0, (4, 0)), (1, (4, 1))]) (pcN := 25) jIQ_39_22 rfl rfl (by decide) rfl rfl ?_
  refine jT_xgoto (pcN := 5) jIQ_39_25 rfl ?_
  refine jT_xiload (v := (0, 4)) (pcN := 7) jIQ_39_5 rfl rfl rfl ?_
  refine jT_xbipush (k := 6) (pcN := 9) jIQ_39_7 (by decide) rfl ?_
  refine jT_xicF (t := 28) (pcN := 12) jIQ_39_9 rfl (by decide +kernel) rfl rfl ?_
  refine jT_xlload_n (v := (1, p7 + p8)) (pcN := 13) jIQ_39_12 rfl rfl rfl ?_
  refine jT_xaload_n (v := (4, 1)) (pcN := 14) jIQ_39_13 rfl rfl rfl ?_
  refine jT_xiload (v := (0, 4)) (pcN := 16) jIQ_39_14 rfl rfl rfl ?_
  refine jT_lald (x := 0) (a := 1) (j := 4) (fs := []) (X := [q1, p7, p8, 0, 0, 0]) jIQ_39_16 rfl rfl rfl rfl ?_
  refine jT_eq (LN := [(4, (0, 4)), (2, (1, p7 + p8)), (0, (4, 0)), (1, (4, 1))]) (stN := [(1, 0), (1, p7 + p8)]) (hsN := [jgh, (101, [], [q1, p7, p8, 0, 0, 0])]) rfl rfl rfl ?_
  refine jT_labs (z := 0) (by rfl) (by rfl) (by rfl) (by rfl) (by decide +kernel) ?_
  refine jT_xladd (x := p7 + p8) (y := 0) (z := p7 + p8) (pcN := 21) jIQ_39_20 rfl (by omega) rfl ?_
  refine jT_xlstore_n (v := (1, p7 + p8)) (LN := [(2, (1, p7 + p8)), (4, (0, 4)), (0, (4, 0)), (1, (4, 1))]) (pcN := 22) jIQ_39_21 rfl rfl rfl rfl ?_
  refine jT_xiinc (x := 4) (z := 5) (LN := [(4, (0, 5)), (2, (1, p7 + p8)), (0, (4, 0)), (1, (4, 1))]) (pcN := 25) jIQ_39_22 rfl rfl (by decide) rfl rfl ?_
  refine jT_xgoto (pcN := 5) jIQ_39_25 rfl ?_
  refine jT_xiload (v := (0, 5)) (pcN := 7) jIQ_39_5 rfl rfl rfl ?_
  refine jT_xbipush (k := 6) (pcN := 9) jIQ_39_7 (by decide) rfl ?_
  refine jT_xicF (t := 28) (pcN := 12) jIQ_39_9 rfl (by decide +kernel) rfl rfl ?_
  refine jT_xlload_n (v := (1, p7 + p8)) (pcN := 13) jIQ_39_12 rfl rfl rfl ?_
  refine jT_xaload_n (v := (4, 1)) (pcN := 14) jIQ_39_13 rfl rfl rfl ?_
  refine jT_xiload (v := (0, 5)) (pcN := 16) jIQ_39_14 rfl rfl rfl ?_
  refine jT_lald (x := 0) (a := 1) (j := 5) (fs := []) (X := [q1, p7, p8, 0, 0, 0]) jIQ_39_16 rfl rfl rfl rfl ?_
  refine jT_eq (LN := [(4, (0, 5)), (2, (1, p7 + p8)), (0, (4, 0)), (1, (4, 1))]) (stN := [(1, 0), (1, p7 + p8)]) (hsN := [jgh, (101, [], [q1, p7, p8, 0, 0, 0])]) rfl rfl rfl ?_
  refine jT_labs (z := 0) (by rfl) (by rfl) (by rfl) (by rfl) (by decide +kernel) ?_
  refine jT_xladd (x := p7 + p8) (y := 0) (z := p7 + p8) (pcN := 21) jIQ_39_20 rfl (by omega) rfl ?_
  refine jT_xlstore_n (v := (1, p7 + p8)) (LN := [(2, (1, p7 + p8)), (4, (0, 5)), (0, (4, 0)), (1, (4, 1))]) (pcN := 22) jIQ_39_21 rfl rfl rfl rfl ?_
  refine jT_xiinc (x := 5) (z := 6) (LN := [(4, (0, 6)), (2, (1, p7 + p8)), (0, (4, 0)), (1, (4, 1))]) (pcN := 25) jIQ_39_22 rfl rfl (by decide) rfl rfl ?_
  refine jT_xgoto (pcN := 5) jIQ_39_25 rfl ?_
  refine jT_xiload (v := (0, 6)) (pcN := 7) jIQ_39_5 rfl rfl rfl ?_
  refine jT_xbipush (k := 6) (pcN := 9) jIQ_39_7 (by decide) rfl ?_
  refine jT_xicT (pcN := 28) jIQ_39_9 rfl (by decide +kernel) rfl ?_
  refine jT_xlload_n (v := (1, p7 + p8)) (pcN := 29) jIQ_39_28 rfl rfl rfl ?_
  exact jT_ret rfl (by decide) (by show 2 ≤ 2; omega) (by omega) (by omega) ⟨rfl, rfl, rfl⟩
theorem jQ_40_111 {xs : List Int} {d : Nat} {p7 p8 q1 : Int} (h_p7 : (-20) ≤ p7 ∧ p7 ≤ 20) (h_p8 : (-10) ≤ p8 ∧ p8 ≤ 10) (h_q1 : (-60) ≤ q1 ∧ q1 ≤ 60) (g_0 : 0 ≤ (-108917793694) * p7 - 159561683698 * p8 - 68719476736 * q1 - 1) (g_1 : 0 ≤ (-108917793694) * p7 - 159561683700 * p8 - 68719476736 * q1 - 1) (g_2 : 0 ≤ (-108917793696) * p7 - 159561683698 * p8 - 68719476736 * q1 - 1) (g_3 : 0 ≤ (-108917793696) * p7 - 159561683700 * p8 - 68719476736 * q1 - 1) (g_4 : 0 ≤ p7) (g_5 : 0 ≤ p8) (g_6 : 0 ≤ p7 + p8 - 1) (g_7 : q1 < 0) : jT xs d 40 2 0 [(0, (4, 0)), (1, (4, 1)), (2, (1, p7 + p8))] [] [jgh, (101, [], [q1, p7, p8, 0, 0, 0])] 0 0 (fun k v hsN => k = 0 ∧ v = (0, 1) ∧ hsN = [jgh, (101, [], [q1, p7, p8, 0, 0, 0])] ++ []) := by
  refine jT_xlload_n (v := (1, p7 + p8)) (pcN := 1) jIQ_40_0 rfl rfl rfl ?_
  refine jT_adv 1 (pcN := 4) (LN := [(0, (4, 0)), (1, (4, 1)), (2, (1, p7 + p8))]) (stN := [(1, 16777216), (1, p7 + p8)]) (hsN := [jgh, (101, [], [q1, p7, p8, 0, 0, 0])]) (c1 := 0) (s1 := 0) (c2 := 0) (s2 := 0) (by exact rfl) ?_ (by omega) (by omega)
  refine jT_lcmp (a := p7 + p8) (b := 16777216) (z := (-1)) (by rfl) (by rfl) (jwl_idd (by omega) (by omega)) (jwl_idd (by omega) (by omega)) (by rw [decide_eq_false (show ¬ ((16777216 : Int) < p7 + p8) by omega), decide_eq_false (show ¬ ((p7 + p8 : Int) = 16777216) by omega)]; rfl) ?_
  refine jT_xifF (t := 25) (pcN := 8) jIQ_40_5 rfl (by decide +kernel) rfl rfl ?_
  refine jT_xaload_n (v := (4, 1)) (pcN := 9) jIQ_40_8 rfl rfl rfl ?_
  refine jT_xiconst (k := 0) (pcN := 10) jIQ_40_9 rfl ?_
  refine jT_lald (x := q1) (a := 1) (j := 0) (fs := []) (X := [q1, p7, p8, 0, 0, 0]) jIQ_40_10 rfl rfl rfl rfl ?_
  refine jT_eq (LN := [(0, (4, 0)), (1, (4, 1)), (2, (1, p7 + p8))]) (stN := [(1, q1)]) (hsN := [jgh, (101, [], [q1, p7, p8, 0, 0, 0])]) rfl rfl rfl ?_
  refine jT_labs (z := -q1) (by rfl) (by rfl) (by rfl) (by rfl) (by rw [show jwl (q1) = q1 from jwl_idd (by omega) (by omega), decide_eq_true (by omega)]; first | (simp only [cond_true, cond_false]; done) | (simp only [cond_true, cond_false]; omega) | rfl) ?_
  refine jT_adv 1 (pcN := 17) (LN := [(0, (4, 0)), (1, (4, 1)), (2, (1, p7 + p8))]) (stN := [(1, 16777216), (1, -q1)]) (hsN := [jgh, (101, [], [q1, p7, p8, 0, 0, 0])]) (c1 := 0) (s1 := 0) (c2 := 0) (s2 := 0) (by exact rfl) ?_ (by omega) (by omega)
  refine jT_lcmp (a := -q1) (b := 16777216) (z := (-1)) (by rfl) (by rfl) (jwl_idd (by omega) (by omega)) (jwl_idd (by omega) (by omega)) (by rw [decide_eq_false (show ¬ ((16777216 : Int) < -q1) by omega), decide_eq_false (show ¬ ((-q1 : Int) = 16777216) by omega)]; rfl) ?_
  refine jT_xifF (t := 25) (pcN := 21) jIQ_40_18 rfl (by decide +kernel) rfl rfl ?_
  refine jT_xiconst (k := 1) (pcN := 22) jIQ_40_21 rfl ?_
  refine jT_xgoto (pcN := 26) jIQ_40_22 rfl ?_
  exact jT_ret rfl (by decide) (by show 2 ≤ 2; omega) (by omega) (by omega) ⟨rfl, rfl, rfl⟩
theorem jQ_41_112 {xs : List Int} {d : Nat} {p7 p8 q1 : Int} (h_p7 : (-20) ≤ p7 ∧ p7 ≤ 20) (h_p8 : (-10) ≤ p8 ∧ p8 ≤ 10) (h_q1 : (-60) ≤ q1 ∧ q1 ≤ 60) (g_0 : 0 ≤ (-108917793694) * p7 - 159561683698 * p8 - 68719476736 * q1 - 1) (g_1 : 0 ≤ (-108917793694) * p7 - 159561683700 * p8 - 68719476736 * q1 - 1) (g_2 : 0 ≤ (-108917793696) * p7 - 159561683698 * p8 - 68719476736 * q1 - 1) (g_3 : 0 ≤ (-108917793696) * p7 - 159561683700 * p8 - 68719476736 * q1 - 1) (g_4 : 0 ≤ p7) (g_5 : 0 ≤ p8) (g_6 : 0 ≤ p7 + p8 - 1) (g_7 : q1 < 0) : jT xs d 41 2 0 [(0, (4, 0)), (1, (4, 1))] [] [jgh, (101, [], [q1, p7, p8, 0, 0, 0])] 0 0 (fun k v hsN => k = 0 ∧ v = (1, 108917793695 * p7 + 159561683699 * p8 + 68719476736 * q1) ∧ hsN = [jgh, (101, [], [q1, p7, p8, 0, 0, 0])] ++ []) := by
  refine jT_xlconst (z := 0) (pcN := 1) jIQ_41_0 rfl rfl ?_
  refine jT_xlstore_n (v := (1, 0)) (LN := [(2, (1, 0)), (0, (4, 0)), (1, (4, 1))]) (pcN := 2) jIQ_41_1 rfl rfl rfl rfl ?_
  refine jT_xiconst (k := 0) (pcN := 3) jIQ_41_2 rfl ?_
  refine jT_xistore (v := (0, 0)) (LN := [(4, (0, 0)), (2, (1, 0)), (0, (4, 0)), (1, (4, 1))]) (pcN := 5) jIQ_41_3 rfl rfl rfl rfl ?_
  refine jT_xiload (v := (0, 0)) (pcN := 7) jIQ_41_5 rfl rfl rfl ?_
  refine jT_xbipush (k := 6) (pcN := 9) jIQ_41_7 (by decide) rfl ?_
  refine jT_xicF (t := 32) (pcN := 12) jIQ_41_9 rfl (by decide +kernel) rfl rfl ?_
  refine jT_xlload_n (v := (1, 0)) (pcN := 13) jIQ_41_12 rfl rfl rfl ?_
  refine jT_xaload_n (v := (4, 1)) (pcN := 14) jIQ_41_13 rfl rfl rfl ?_
  refine jT_xiload (v := (0, 0)) (pcN := 16) jIQ_41_14 rfl rfl rfl ?_
  refine jT_lald (x := q1) (a := 1) (j := 0) (fs := []) (X := [q1, p7, p8, 0, 0, 0]) jIQ_41_16 rfl rfl rfl rfl ?_
  refine jT_eq (LN := [(4, (0, 0)), (2, (1, 0)), (0, (4, 0)), (1, (4, 1))]) (stN := [(1, q1), (1, 0)]) (hsN := [jgh, (101, [], [q1, p7, p8, 0, 0, 0])]) rfl rfl rfl ?_
  refine jT_adv 1 (pcN := 20) (LN := [(4, (0, 0)), (2, (1, 0)), (0, (4, 0)), (1, (4, 1))]) (stN := [(5, 0), (1, q1), (1, 0)]) (hsN := [jgh, (101, [], [q1, p7, p8, 0, 0, 0])]) (c1 := 0) (s1 := 0) (c2 := 0) (s2 := 0) (by exact rfl) ?_ (by omega) (by omega)
  refine jT_xiload (v := (0, 0)) (pcN := 22) jIQ_41_20 rfl rfl rfl ?_
  refine jT_adv 1 (pcN := 23) (LN := [(4, (0, 0)), (2, (1, 0)), (0, (4, 0)), (1, (4, 1))]) (stN := [(1, 68719476736), (1, q1), (1, 0)]) (hsN := [jgh, (101, [], [q1, p7, p8, 0, 0, 0])]) (c1 := 0) (s1 := 0) (c2 := 0) (s2 := 0) (by exact rfl) ?_ (by omega) (by omega)
  refine jT_xlmul (x := q1) (y := 68719476736) (z := 68719476736 * q1) (pcN := 24) jIQ_41_23 rfl (by omega) rfl ?_
  refine jT_xladd (x := 0) (y := 68719476736 * q1) (z := 68719476736 * q1) (pcN := 25) jIQ_41_24 rfl (by omega) rfl ?_
  refine jT_xlstore_n (v := (1, 68719476736 * q1)) (LN := [(2, (1, 68719476736 * q1)), (4, (0, 0)), (0, (4, 0)), (1, (4, 1))]) (pcN := 26) jIQ_41_25 rfl rfl rfl rfl ?_
  refine jT_xiinc (x := 0) (z := 1) (LN := [(4, (0, 1)), (2, (1, 68719476736 * q1)), (0, (4, 0)), (1, (4, 1))]) (pcN := 29) jIQ_41_26 rfl rfl (by decide) rfl rfl ?_
  refine jT_xgoto (pcN := 5) jIQ_41_29 rfl ?_
  refine jT_xiload (v := (0, 1)) (pcN := 7) jIQ_41_5 rfl rfl rfl ?_
  refine jT_xbipush (k := 6) (pcN := 9) jIQ_41_7 (by decide) rfl ?_
  refine jT_xicF (t := 32) (pcN := 12) jIQ_41_9 rfl (by decide +kernel) rfl rfl ?_
  refine jT_xlload_n (v := (1, 68719476736 * q1)) (pcN := 13) jIQ_41_12 rfl rfl rfl ?_
  refine jT_xaload_n (v := (4, 1)) (pcN := 14) jIQ_41_13 rfl rfl rfl ?_
  refine jT_xiload (v := (0, 1)) (pcN := 16) jIQ_41_14 rfl rfl rfl ?_
  refine jT_lald (x := p7) (a := 1) (j := 1) (fs := []) (X := [q1, p7, p8, 0, 0, 0]) jIQ_41_16 rfl rfl rfl rfl ?_
  refine jT_eq (LN := [(4, (0, 1)), (2, (1, 68719476736 * q1)), (0, (4, 0)), (1, (4, 1))]) (stN := [(1, p7), (1, 68719476736 * q1)]) (hsN := [jgh, (101, [], [q1, p7, p8, 0, 0, 0])]) rfl rfl rfl ?_
  refine jT_adv 1 (pcN := 20) (LN := [(4, (0, 1)), (2, (1, 68719476736 * q1)), (0, (4, 0)), (1, (4, 1))]) (stN := [(5, 0), (1, p7), (1, 68719476736 * q1)]) (hsN := [jgh, (101, [], [q1, p7, p8, 0, 0, 0])]) (c1 := 0) (s1 := 0) (c2 := 0) (s2 := 0) (by exact rfl) ?_ (by omega) (by omega)
  refine jT_xiload (v := (0, 1)) (pcN := 22) jIQ_41_20 rfl rfl rfl ?_
  refine jT_adv 1 (pcN := 23) (LN := [(4, (0, 1)), (2, (1, 68719476736 * q1)), (0, (4, 0)), (1, (4, 1))]) (stN := [(1, 108917793695), (1, p7), (1, 68719476736 * q1)]) (hsN := [jgh, (101, [], [q1, p7, p8, 0, 0, 0])]) (c1 := 0) (s1 := 0) (c2 := 0) (s2 := 0) (by exact rfl) ?_ (by omega) (by omega)
  refine jT_xlmul (x := p7) (y := 108917793695) (z := 108917793695 * p7) (pcN := 24) jIQ_41_23 rfl (by omega) rfl ?_
  refine jT_xladd (x := 68719476736 * q1) (y := 108917793695 * p7) (z := 108917793695 * p7 + 68719476736 * q1) (pcN := 25) jIQ_41_24 rfl (by omega) rfl ?_
  refine jT_xlstore_n (v := (1, 108917793695 * p7 + 68719476736 * q1)) (LN := [(2, (1, 108917793695 * p7 + 68719476736 * q1)), (4, (0, 1)), (0, (4, 0)), (1, (4, 1))]) (pcN := 26) jIQ_41_25 rfl rfl rfl rfl ?_
  refine jT_xiinc (x := 1) (z := 2) (LN := [(4, (0, 2)), (2, (1, 108917793695 * p7 + 68719476736 * q1)), (0, (4, 0)), (1, (4, 1))]) (pcN := 29) jIQ_41_26 rfl rfl (by decide) rfl rfl ?_
  refine jT_xgoto (pcN := 5) jIQ_41_29 rfl ?_
  refine jT_xiload (v := (0, 2)) (pcN := 7) jIQ_41_5 rfl rfl rfl ?_
  refine jT_xbipush (k := 6) (pcN := 9) jIQ_41_7 (by decide) rfl ?_
  refine jT_xicF (t := 32) (pcN := 12) jIQ_41_9 rfl (by decide +kernel) rfl rfl ?_
  refine jT_xlload_n (v := (1, 108917793695 * p7 + 68719476736 * q1)) (pcN := 13) jIQ_41_12 rfl rfl rfl ?_
  refine jT_xaload_n (v := (4, 1)) (pcN := 14) jIQ_41_13 rfl rfl rfl ?_
  refine jT_xiload (v := (0, 2)) (pcN := 16) jIQ_41_14 rfl rfl rfl ?_
  refine jT_lald (x := p8) (a := 1) (j := 2) (fs := []) (X := [q1, p7, p8, 0, 0, 0]) jIQ_41_16 rfl rfl rfl rfl ?_
  refine jT_eq (LN := [(4, (0, 2)), (2, (1, 108917793695 * p7 + 68719476736 * q1)), (0, (4, 0)), (1, (4, 1))]) (stN := [(1, p8), (1, 108917793695 * p7 + 68719476736 * q1)]) (hsN := [jgh, (101, [], [q1, p7, p8, 0, 0, 0])]) rfl rfl rfl ?_
  refine jT_adv 1 (pcN := 20) (LN := [(4, (0, 2)), (2, (1, 108917793695 * p7 + 68719476736 * q1)), (0, (4, 0)), (1, (4, 1))]) (stN := [(5, 0), (1, p8), (1, 108917793695 * p7 + 68719476736 * q1)]) (hsN := [jgh, (101, [], [q1, p7, p8, 0, 0, 0])]) (c1 := 0) (s1 := 0) (c2 := 0) (s2 := 0) (by exact rfl) ?_ (by omega) (by omega)
  refine jT_xiload (v := (0, 2)) (pcN := 22) jIQ_41_20 rfl rfl rfl ?_
  refine jT_adv 1 (pcN := 23) (LN := [(4, (0, 2)), (2, (1, 108917793695 * p7 + 68719476736 * q1)), (0, (4, 0)), (1, (4, 1))]) (stN := [(1, 159561683699), (1, p8), (1, 108917793695 * p7 + 68719476736 * q1)]) (hsN := [jgh, (101, [], [q1, p7, p8, 0, 0, 0])]) (c1 := 0) (s1 := 0) (c2 := 0) (s2 := 0) (by exact rfl) ?_ (by omega) (by omega)
  refine jT_xlmul (x := p8) (y := 159561683699) (z := 159561683699 * p8) (pcN := 24) jIQ_41_23 rfl (by omega) rfl ?_
  refine jT_xladd (x := 108917793695 * p7 + 68719476736 * q1) (y := 159561683699 * p8) (z := 108917793695 * p7 + 159561683699 * p8 + 68719476736 * q1) (pcN := 25) jIQ_41_24 rfl (by omega) rfl ?_
  refine jT_xlstore_n (v := (1, 108917793695 * p7 + 159561683699 * p8 + 68719476736 * q1)) (LN := [(2, (1, 108917793695 * p7 + 159561683699 * p8 + 68719476736 * q1)), (4, (0, 2)), (0, (4, 0)), (1, (4, 1))]) (pcN := 26) jIQ_41_25 rfl rfl rfl rfl ?_
  refine jT_xiinc (x := 2) (z := 3) (LN := [(4, (0, 3)), (2, (1, 108917793695 * p7 + 159561683699 * p8 + 68719476736 * q1)), (0, (4, 0)), (1, (4, 1))]) (pcN := 29) jIQ_41_26 rfl rfl (by decide) rfl rfl ?_
  refine jT_xgoto (pcN := 5) jIQ_41_29 rfl ?_
  refine jT_xiload (v := (0, 3)) (pcN := 7) jIQ_41_5 rfl rfl rfl ?_
  refine jT_xbipush (k := 6) (pcN := 9) jIQ_41_7 (by decide) rfl ?_
  refine jT_xicF (t := 32) (pcN := 12) jIQ_41_9 rfl (by decide +kernel) rfl rfl ?_
  refine jT_xlload_n (v := (1, 108917793695 * p7 + 159561683699 * p8 + 68719476736 * q1)) (pcN := 13) jIQ_41_12 rfl rfl rfl ?_
  refine jT_xaload_n (v := (4, 1)) (pcN := 14) jIQ_41_13 rfl rfl rfl ?_
  refine jT_xiload (v := (0, 3)) (pcN := 16) jIQ_41_14 rfl rfl rfl ?_
  refine jT_lald (x := 0) (a := 1) (j := 3) (fs := []) (X := [q1, p7, p8, 0, 0, 0]) jIQ_41_16 rfl rfl rfl rfl ?_
  refine jT_eq (LN := [(4, (0, 3)), (2, (1, 108917793695 * p7 + 159561683699 * p8 + 68719476736 * q1)), (0, (4, 0)), (1, (4, 1))]) (stN := [(1, 0), (1, 108917793695 * p7 + 159561683699 * p8 + 68719476736 * q1)]) (hsN := [jgh, (101, [], [q1, p7, p8, 0, 0, 0])]) rfl rfl rfl ?_
  refine jT_adv 1 (pcN := 20) (LN := [(4, (0, 3)), (2, (1, 108917793695 * p7 + 159561683699 * p8 + 68719476736 * q1)), (0, (4, 0)), (1, (4, 1))]) (stN := [(5, 0), (1, 0), (1, 108917793695 * p7 + 159561683699 * p8 + 68719476736 * q1)]) (hsN := [jgh, (101, [], [q1, p7, p8, 0, 0, 0])]) (c1 := 0) (s1 := 0) (c2 := 0) (s2 := 0) (by exact rfl) ?_ (by omega) (by omega)
  refine jT_xiload (v := (0, 3)) (pcN := 22) jIQ_41_20 rfl rfl rfl ?_
  refine jT_adv 1 (pcN := 23) (LN := [(4, (0, 3)), (2, (1, 108917793695 * p7 + 159561683699 * p8 + 68719476736 * q1)), (0, (4, 0)), (1, (4, 1))]) (stN := [(1, 192919961256), (1, 0), (1, 108917793695 * p7 + 159561683699 * p8 + 68719476736 * q1)]) (hsN := [jgh, (101, [], [q1, p7, p8, 0, 0, 0])]) (c1 := 0) (s1 := 0) (c2 := 0) (s2 := 0) (by exact rfl) ?_ (by omega) (by omega)
  refine jT_xlmul (x := 0) (y := 192919961256) (z := 0) (pcN := 24) jIQ_41_23 rfl (by decide) rfl ?_
  refine jT_xladd (x := 108917793695 * p7 + 159561683699 * p8 + 68719476736 * q1) (y := 0) (z := 108917793695 * p7 + 159561683699 * p8 + 68719476736 * q1) (pcN := 25) jIQ_41_24 rfl (by omega) rfl ?_
  refine jT_xlstore_n (v := (1, 108917793695 * p7 + 159561683699 * p8 + 68719476736 * q1)) (LN := [(2, (1, 108917793695 * p7 + 159561683699 * p8 + 68719476736 * q1)), (4, (0, 3)), (0, (4, 0)), (1, (4, 1))]) (pcN := 26) jIQ_41_25 rfl rfl rfl rfl ?_
  refine jT_xiinc (x := 3) (z := 4) (LN := [(4, (0, 4)), (2, (1, 108917793695 * p7 + 159561683699 * p8 + 68719476736 * q1)), (0, (4, 0)), (1, (4, 1))]) (pcN := 29) jIQ_41_26 rfl rfl (by decide) rfl rfl ?_
  refine jT_xgoto (pcN := 5) jIQ_41_29 rfl ?_
  refine jT_xiload (v := (0, 4)) (pcN := 7) jIQ_41_5 rfl rfl rfl ?_
  refine jT_xbipush (k := 6) (pcN := 9) jIQ_41_7 (by decide) rfl ?_
  refine jT_xicF (t := 32) (pcN := 12) jIQ_41_9 rfl (by decide +kernel) rfl rfl ?_
  refine jT_xlload_n (v := (1, 108917793695 * p7 + 159561683699 * p8 + 68719476736 * q1)) (pcN := 13) jIQ_41_12 rfl rfl rfl ?_
  refine jT_xaload_n (v := (4, 1)) (pcN := 14) jIQ_41_13 rfl rfl rfl ?_
  refine jT_xiload (v := (0, 4)) (pcN := 16) jIQ_41_14 rfl rfl rfl ?_
  refine jT_lald (x := 0) (a := 1) (j := 4) (fs := []) (X := [q1, p7, p8, 0, 0, 0]) jIQ_41_16 rfl rfl rfl rfl ?_
  refine jT_eq (LN := [(4, (0, 4)), (2, (1, 108917793695 * p7 + 159561683699 * p8 + 68719476736 * q1)), (0, (4, 0)), (1, (4, 1))]) (stN := [(1, 0), (1, 108917793695 * p7 + 159561683699 * p8 + 68719476736 * q1)]) (hsN := [jgh, (101, [], [q1, p7, p8, 0, 0, 0])]) rfl rfl rfl ?_
  refine jT_adv 1 (pcN := 20) (LN := [(4, (0, 4)), (2, (1, 108917793695 * p7 + 159561683699 * p8 + 68719476736 * q1)), (0, (4, 0)), (1, (4, 1))]) (stN := [(5, 0), (1, 0), (1, 108917793695 * p7 + 159561683699 * p8 + 68719476736 * q1)]) (hsN := [jgh, (101, [], [q1, p7, p8, 0, 0, 0])]) (c1 := 0) (s1 := 0) (c2 := 0) (s2 := 0) (by exact rfl) ?_ (by omega) (by omega)
  refine jT_xiload (v := (0, 4)) (pcN := 22) jIQ_41_20 rfl rfl rfl ?_
  refine jT_adv 1 (pcN := 23) (LN := [(4, (0, 4)), (2, (1, 108917793695 * p7 + 159561683699 * p8 + 68719476736 * q1)), (0, (4, 0)), (1, (4, 1))]) (stN := [(1, 237730330636), (1, 0), (1, 108917793695 * p7 + 159561683699 * p8 + 68719476736 * q1)]) (hsN := [jgh, (101, [], [q1, p7, p8, 0, 0, 0])]) (c1 := 0) (s1 := 0) (c2 := 0) (s2 := 0) (by exact rfl) ?_ (by omega) (by omega)
  refine jT_xlmul (x := 0) (y := 237730330636) (z := 0) (pcN := 24) jIQ_41_23 rfl (by decide) rfl ?_
  refine jT_xladd (x := 108917793695 * p7 + 159561683699 * p8 + 68719476736 * q1) (y := 0) (z := 108917793695 * p7 + 159561683699 * p8 + 68719476736 * q1) (pcN := 25) jIQ_41_24 rfl (by omega) rfl ?_
  refine jT_xlstore_n (v := (1, 108917793695 * p7 + 159561683699 * p8 + 68719476736 * q1)) (LN := [(2, (1, 108917793695 * p7 + 159561683699 * p8 + 68719476736 * q1)), (4, (0, 4)), (0, (4, 0)), (1, (4, 1))]) (pcN := 26) jIQ_41_25 rfl rfl rfl rfl ?_
  refine jT_xiinc (x := 4) (z := 5) (LN := [(4, (0, 5)), (2, (1, 108917793695 * p7 + 159561683699 * p8 + 68719476736 * q1)), (0, (4, 0)), (1, (4, 1))]) (pcN := 29) jIQ_41_26 rfl rfl (by decide) rfl rfl ?_
  refine jT_xgoto (pcN := 5) jIQ_41_29 rfl ?_
  refine jT_xiload (v := (0, 5)) (pcN := 7) jIQ_41_5 rfl rfl rfl ?_
  refine jT_xbipush (k := 6) (pcN := 9) jIQ_41_7 (by decide) rfl ?_
  refine jT_xicF (t := 32) (pcN := 12) jIQ_41_9 rfl (by decide +kernel) rfl rfl ?_
  refine jT_xlload_n (v := (1, 108917793695 * p7 + 159561683699 * p8 + 68719476736 * q1)) (pcN := 13) jIQ_41_12 rfl rfl rfl ?_
  refine jT_xaload_n (v := (4, 1)) (pcN := 14) jIQ_41_13 rfl rfl rfl ?_
  refine jT_xiload (v := (0, 5)) (pcN := 16) jIQ_41_14 rfl rfl rfl ?_
  refine jT_lald (x := 0) (a := 1) (j := 5) (fs := []) (X := [q1, p7, p8, 0, 0, 0]) jIQ_41_16 rfl rfl rfl rfl ?_
  refine jT_eq (LN := [(4, (0, 5)), (2, (1, 108917793695 * p7 + 159561683699 * p8 + 68719476736 * q1)), (0, (4, 0)), (1, (4, 1))]) (stN := [(1, 0), (1, 108917793695 * p7 + 159561683699 * p8 + 68719476736 * q1)]) (hsN := [jgh, (101, [], [q1, p7, p8, 0, 0, 0])]) rfl rfl rfl ?_
  refine jT_adv 1 (pcN := 20) (LN := [(4, (0, 5)), (2, (1, 108917793695 * p7 + 159561683699 * p8 + 68719476736 * q1)), (0, (4, 0)), (1, (4, 1))]) (stN := [(5, 0), (1, 0), (1, 108917793695 * p7 + 159561683699 * p8 + 68719476736 * q1)]) (hsN := [jgh, (101, [], [q1, p7, p8, 0, 0, 0])]) (c1 := 0) (s1 := 0) (c2 := 0) (s2 := 0) (by exact rfl) ?_ (by omega) (by omega)
  refine jT_xiload (v := (0, 5)) (pcN := 22) jIQ_41_20 rfl rfl rfl ?_
  refine jT_adv 1 (pcN := 23) (LN := [(4, (0, 5)), (2, (1, 108917793695 * p7 + 159561683699 * p8 + 68719476736 * q1)), (0, (4, 0)), (1, (4, 1))]) (stN := [(1, 254292281123), (1, 0), (1, 108917793695 * p7 + 159561683699 * p8 + 68719476736 * q1)]) (hsN := [jgh, (101, [], [q1, p7, p8, 0, 0, 0])]) (c1 := 0) (s1 := 0) (c2 := 0) (s2 := 0) (by exact rfl) ?_ (by omega) (by omega)
  refine jT_xlmul (x := 0) (y := 254292281123) (z := 0) (pcN := 24) jIQ_41_23 rfl (by decide) rfl ?_
  refine jT_xladd (x := 108917793695 * p7 + 159561683699 * p8 + 68719476736 * q1) (y := 0) (z := 108917793695 * p7 + 159561683699 * p8 + 68719476736 * q1) (pcN := 25) jIQ_41_24 rfl (by omega) rfl ?_
  refine jT_xlstore_n (v := (1, 108917793695 * p7 + 159561683699 * p8 + 68719476736 * q1)) (LN := [(2, (1, 108917793695 * p7 + 159561683699 * p8 + 68719476736 * q1)), (4, (0, 5)), (0, (4, 0)), (1, (4, 1))]) (pcN := 26) jIQ_41_25 rfl rfl rfl rfl ?_
  refine jT_xiinc (x := 5) (z := 6) (LN := [(4, (0, 6)), (2, (1, 108917793695 * p7 + 159561683699 * p8 + 68719476736 * q1)), (0, (4, 0)), (1, (4, 1))]) (pcN := 29) jIQ_41_26 rfl rfl (by decide) rfl rfl ?_
  refine jT_xgoto (pcN := 5) jIQ_41_29 rfl ?_
  refine jT_xiload (v := (0, 6)) (pcN := 7) jIQ_41_5 rfl rfl rfl ?_
  refine jT_xbipush (k := 6) (pcN := 9) jIQ_41_7 (by decide) rfl ?_
  refine jT_xicT (pcN := 32) jIQ_41_9 rfl (by decide +kernel) rfl ?_
  refine jT_xlload_n (v := (1, 108917793695 * p7 + 159561683699 * p8 + 68719476736 * q1)) (pcN := 33) jIQ_41_32 rfl rfl rfl ?_
  exact jT_ret rfl (by decide) (by show 2 ≤ 2; omega) (by omega) (by omega) ⟨rfl, rfl, rfl⟩
theorem jQ_39_113 {xs : List Int} {d : Nat} {p7 p8 q1 : Int} (h_p7 : (-20) ≤ p7 ∧ p7 ≤ 20) (h_p8 : (-10) ≤ p8 ∧ p8 ≤ 10) (h_q1 : (-60) ≤ q1 ∧ q1 ≤ 60) (g_0 : 0 ≤ (-108917793694) * p7 - 159561683698 * p8 - 68719476736 * q1 - 1) (g_1 : 0 ≤ (-108917793694) * p7 - 159561683700 * p8 - 68719476736 * q1 - 1) (g_2 : 0 ≤ (-108917793696) * p7 - 159561683698 * p8 - 68719476736 * q1 - 1) (g_3 : 0 ≤ (-108917793696) * p7 - 159561683700 * p8 - 68719476736 * q1 - 1) (g_4 : 0 ≤ p7) (g_5 : 0 ≤ p8) (g_6 : 0 ≤ p7 + p8 - 1) (g_7 : 0 ≤ q1) : jT xs d 39 2 0 [(0, (4, 0)), (1, (4, 1))] [] [jgh, (101, [], [q1, p7, p8, 0, 0, 0])] 0 0 (fun k v hsN => k = 0 ∧ v = (1, p7 + p8) ∧ hsN = [jgh, (101, [], [q1, p7, p8, 0, 0, 0])] ++ []) := by
  refine jT_xlconst (z := 0) (pcN := 1) jIQ_39_0 rfl rfl ?_
  refine jT_xlstore_n (v := (1, 0)) (LN := [(2, (1, 0)), (0, (4, 0)), (1, (4, 1))]) (pcN := 2) jIQ_39_1 rfl rfl rfl rfl ?_
  refine jT_xiconst (k := 1) (pcN := 3) jIQ_39_2 rfl ?_
  refine jT_xistore (v := (0, 1)) (LN := [(4, (0, 1)), (2, (1, 0)), (0, (4, 0)), (1, (4, 1))]) (pcN := 5) jIQ_39_3 rfl rfl rfl rfl ?_
  refine jT_xiload (v := (0, 1)) (pcN := 7) jIQ_39_5 rfl rfl rfl ?_
  refine jT_xbipush (k := 6) (pcN := 9) jIQ_39_7 (by decide) rfl ?_
  refine jT_xicF (t := 28) (pcN := 12) jIQ_39_9 rfl (by decide +kernel) rfl rfl ?_
  refine jT_xlload_n (v := (1, 0)) (pcN := 13) jIQ_39_12 rfl rfl rfl ?_
  refine jT_xaload_n (v := (4, 1)) (pcN := 14) jIQ_39_13 rfl rfl rfl ?_
  refine jT_xiload (v := (0, 1)) (pcN := 16) jIQ_39_14 rfl rfl rfl ?_
  refine jT_lald (x := p7) (a := 1) (j := 1) (fs := []) (X := [q1, p7, p8, 0, 0, 0]) jIQ_39_16 rfl rfl rfl rfl ?_
  refine jT_eq (LN := [(4, (0, 1)), (2, (1, 0)), (0, (4, 0)), (1, (4, 1))]) (stN := [(1, p7), (1, 0)]) (hsN := [jgh, (101, [], [q1, p7, p8, 0, 0, 0])]) rfl rfl rfl ?_
  refine jT_labs (z := p7) (by rfl) (by rfl) (by rfl) (by rfl) (by rw [show jwl (p7) = p7 from jwl_idd (by omega) (by omega), decide_eq_false (by omega)]; first | (simp only [cond_true, cond_false]; done) | (simp only [cond_true, cond_false]; omega) | rfl) ?_
  refine jT_xladd (x := 0) (y := p7) (z := p7) (pcN := 21) jIQ_39_20 rfl (by omega) rfl ?_
  refine jT_xlstore_n (v := (1, p7)) (LN := [(2, (1, p7)), (4, (0, 1)), (0, (4, 0)), (1, (4, 1))]) (pcN := 22) jIQ_39_21 rfl rfl rfl rfl ?_
  refine jT_xiinc (x := 1) (z := 2) (LN := [(4, (0, 2)), (2, (1, p7)), (0, (4, 0)), (1, (4, 1))]) (pcN := 25) jIQ_39_22 rfl rfl (by decide) rfl rfl ?_
  refine jT_xgoto (pcN := 5) jIQ_39_25 rfl ?_
  refine jT_xiload (v := (0, 2)) (pcN := 7) jIQ_39_5 rfl rfl rfl ?_
  refine jT_xbipush (k := 6) (pcN := 9) jIQ_39_7 (by decide) rfl ?_
  refine jT_xicF (t := 28) (pcN := 12) jIQ_39_9 rfl (by decide +kernel) rfl rfl ?_
  refine jT_xlload_n (v := (1, p7)) (pcN := 13) jIQ_39_12 rfl rfl rfl ?_
  refine jT_xaload_n (v := (4, 1)) (pcN := 14) jIQ_39_13 rfl rfl rfl ?_
  refine jT_xiload (v := (0, 2)) (pcN := 16) jIQ_39_14 rfl rfl rfl ?_
  refine jT_lald (x := p8) (a := 1) (j := 2) (fs := []) (X := [q1, p7, p8, 0, 0, 0]) jIQ_39_16 rfl rfl rfl rfl ?_
  refine jT_eq (LN := [(4, (0, 2)), (2, (1, p7)), (0, (4, 0)), (1, (4, 1))]) (stN := [(1, p8), (1, p7)]) (hsN := [jgh, (101, [], [q1, p7, p8, 0, 0, 0])]) rfl rfl rfl ?_
  refine jT_labs (z := p8) (by rfl) (by rfl) (by rfl) (by rfl) (by rw [show jwl (p8) = p8 from jwl_idd (by omega) (by omega), decide_eq_false (by omega)]; first | (simp only [cond_true, cond_false]; done) | (simp only [cond_true, cond_false]; omega) | rfl) ?_
  refine jT_xladd (x := p7) (y := p8) (z := p7 + p8) (pcN := 21) jIQ_39_20 rfl (rfl) rfl ?_
  refine jT_xlstore_n (v := (1, p7 + p8)) (LN := [(2, (1, p7 + p8)), (4, (0, 2)), (0, (4, 0)), (1, (4, 1))]) (pcN := 22) jIQ_39_21 rfl rfl rfl rfl ?_
  refine jT_xiinc (x := 2) (z := 3) (LN := [(4, (0, 3)), (2, (1, p7 + p8)), (0, (4, 0)), (1, (4, 1))]) (pcN := 25) jIQ_39_22 rfl rfl (by decide) rfl rfl ?_
  refine jT_xgoto (pcN := 5) jIQ_39_25 rfl ?_
  refine jT_xiload (v := (0, 3)) (pcN := 7) jIQ_39_5 rfl rfl rfl ?_
  refine jT_xbipush (k := 6) (pcN := 9) jIQ_39_7 (by decide) rfl ?_
  refine jT_xicF (t := 28) (pcN := 12) jIQ_39_9 rfl (by decide +kernel) rfl rfl ?_
  refine jT_xlload_n (v := (1, p7 + p8)) (pcN := 13) jIQ_39_12 rfl rfl rfl ?_
  refine jT_xaload_n (v := (4, 1)) (pcN := 14) jIQ_39_13 rfl rfl rfl ?_
  refine jT_xiload (v := (0, 3)) (pcN := 16) jIQ_39_14 rfl rfl rfl ?_
  refine jT_lald (x := 0) (a := 1) (j := 3) (fs := []) (X := [q1, p7, p8, 0, 0, 0]) jIQ_39_16 rfl rfl rfl rfl ?_
  refine jT_eq (LN := [(4, (0, 3)), (2, (1, p7 + p8)), (0, (4, 0)), (1, (4, 1))]) (stN := [(1, 0), (1, p7 + p8)]) (hsN := [jgh, (101, [], [q1, p7, p8, 0, 0, 0])]) rfl rfl rfl ?_
  refine jT_labs (z := 0) (by rfl) (by rfl) (by rfl) (by rfl) (by decide +kernel) ?_
  refine jT_xladd (x := p7 + p8) (y := 0) (z := p7 + p8) (pcN := 21) jIQ_39_20 rfl (by omega) rfl ?_
  refine jT_xlstore_n (v := (1, p7 + p8)) (LN := [(2, (1, p7 + p8)), (4, (0, 3)), (0, (4, 0)), (1, (4, 1))]) (pcN := 22) jIQ_39_21 rfl rfl rfl rfl ?_
  refine jT_xiinc (x := 3) (z := 4) (LN := [(4, (0, 4)), (2, (1, p7 + p8)), (0, (4, 0)), (1, (4, 1))]) (pcN := 25) jIQ_39_22 rfl rfl (by decide) rfl rfl ?_
  refine jT_xgoto (pcN := 5) jIQ_39_25 rfl ?_
  refine jT_xiload (v := (0, 4)) (pcN := 7) jIQ_39_5 rfl rfl rfl ?_
  refine jT_xbipush (k := 6) (pcN := 9) jIQ_39_7 (by decide) rfl ?_
  refine jT_xicF (t := 28) (pcN := 12) jIQ_39_9 rfl (by decide +kernel) rfl rfl ?_
  refine jT_xlload_n (v := (1, p7 + p8)) (pcN := 13) jIQ_39_12 rfl rfl rfl ?_
  refine jT_xaload_n (v := (4, 1)) (pcN := 14) jIQ_39_13 rfl rfl rfl ?_
  refine jT_xiload (v := (0, 4)) (pcN := 16) jIQ_39_14 rfl rfl rfl ?_
  refine jT_lald (x := 0) (a := 1) (j := 4) (fs := []) (X := [q1, p7, p8, 0, 0, 0]) jIQ_39_16 rfl rfl rfl rfl ?_
  refine jT_eq (LN := [(4, (0, 4)), (2, (1, p7 + p8)), (0, (4, 0)), (1, (4, 1))]) (stN := [(1, 0), (1, p7 + p8)]) (hsN := [jgh, (101, [], [q1, p7, p8, 0, 0, 0])]) rfl rfl rfl ?_
  refine jT_labs (z := 0) (by rfl) (by rfl) (by rfl) (by rfl) (by decide +kernel) ?_
  refine jT_xladd (x := p7 + p8) (y := 0) (z := p7 + p8) (pcN := 21) jIQ_39_20 rfl (by omega) rfl ?_
  refine jT_xlstore_n (v := (1, p7 + p8)) (LN := [(2, (1, p7 + p8)), (4, (0, 4)), (0, (4, 0)), (1, (4, 1))]) (pcN := 22) jIQ_39_21 rfl rfl rfl rfl ?_
  refine jT_xiinc (x := 4) (z := 5) (LN := [(4, (0, 5)), (2, (1, p7 + p8)), (0, (4, 0)), (1, (4, 1))]) (pcN := 25) jIQ_39_22 rfl rfl (by decide) rfl rfl ?_
  refine jT_xgoto (pcN := 5) jIQ_39_25 rfl ?_
  refine jT_xiload (v := (0, 5)) (pcN := 7) jIQ_39_5 rfl rfl rfl ?_
  refine jT_xbipush (k := 6) (pcN := 9) jIQ_39_7 (by decide) rfl ?_
  refine jT_xicF (t := 28) (pcN := 12) jIQ_39_9 rfl (by decide +kernel) rfl rfl ?_
  refine jT_xlload_n (v := (1, p7 + p8)) (pcN := 13) jIQ_39_12 rfl rfl rfl ?_
  refine jT_xaload_n (v := (4, 1)) (pcN := 14) jIQ_39_13 rfl rfl rfl ?_
  refine jT_xiload (v := (0, 5)) (pcN := 16) jIQ_39_14 rfl rfl rfl ?_
  refine jT_lald (x := 0) (a := 1) (j := 5) (fs := []) (X := [q1, p7, p8, 0, 0, 0]) jIQ_39_16 rfl rfl rfl rfl ?_
  refine jT_eq (LN := [(4, (0, 5)), (2, (1, p7 + p8)), (0, (4, 0)), (1, (4, 1))]) (stN := [(1, 0), (1, p7 + p8)]) (hsN := [jgh, (101, [], [q1, p7, p8, 0, 0, 0])]) rfl rfl rfl ?_
  refine jT_labs (z := 0) (by rfl) (by rfl) (by rfl) (by rfl) (by decide +kernel) ?_
  refine jT_xladd (x := p7 + p8) (y := 0) (z := p7 + p8) (pcN := 21) jIQ_39_20 rfl (by omega) rfl ?_
  refine jT_xlstore_n (v := (1, p7 + p8)) (LN := [(2, (1, p7 + p8)), (4, (0, 5)), (0, (4, 0)), (1, (4, 1))]) (pcN := 22) jIQ_39_21 rfl rfl rfl rfl ?_
  refine jT_xiinc (x := 5) (z := 6) (LN := [(4, (0, 6)), (2, (1, p7 + p8)), (0, (4, 0)), (1, (4, 1))]) (pcN := 25) jIQ_39_22 rfl rfl (by decide) rfl rfl ?_
  refine jT_xgoto (pcN := 5) jIQ_39_25 rfl ?_
  refine jT_xiload (v := (0, 6)) (pcN := 7) jIQ_39_5 rfl rfl rfl ?_
  refine jT_xbipush (k := 6) (pcN := 9) jIQ_39_7 (by decide) rfl ?_
  refine jT_xicT (pcN := 28) jIQ_39_9 rfl (by decide +kernel) rfl ?_
  refine jT_xlload_n (v := (1, p7 + p8)) (pcN := 29) jIQ_39_28 rfl rfl rfl ?_
  exact jT_ret rfl (by decide) (by show 2 ≤ 2; omega) (by omega) (by omega) ⟨rfl, rfl, rfl⟩
theorem jQ_40_114 {xs : List Int} {d : Nat} {p7 p8 q1 : Int} (h_p7 : (-20) ≤ p7 ∧ p7 ≤ 20) (h_p8 : (-10) ≤ p8 ∧ p8 ≤ 10) (h_q1 : (-60) ≤ q1 ∧ q1 ≤ 60) (g_0 : 0 ≤ (-108917793694) * p7 - 159561683698 * p8 - 68719476736 * q1 - 1) (g_1 : 0 ≤ (-108917793694) * p7 - 159561683700 * p8 - 68719476736 * q1 - 1) (g_2 : 0 ≤ (-108917793696) * p7 - 159561683698 * p8 - 68719476736 * q1 - 1) (g_3 : 0 ≤ (-108917793696) * p7 - 159561683700 * p8 - 68719476736 * q1 - 1) (g_4 : 0 ≤ p7) (g_5 : 0 ≤ p8) (g_6 : 0 ≤ p7 + p8 - 1) (g_7 : 0 ≤ q1) : jT xs d 40 2 0 [(0, (4, 0)), (1, (4, 1)), (2, (1, p7 + p8))] [] [jgh, (101, [], [q1, p7, p8, 0, 0, 0])] 0 0 (fun k v hsN => k = 0 ∧ v = (0, 1) ∧ hsN = [jgh, (101, [], [q1, p7, p8, 0, 0, 0])] ++ []) := by
  refine jT_xlload_n (v := (1, p7 + p8)) (pcN := 1) jIQ_40_0 rfl rfl rfl ?_
  refine jT_adv 1 (pcN := 4) (LN := [(0, (4, 0)), (1, (4, 1)), (2, (1, p7 + p8))]) (stN := [(1, 16777216), (1, p7 + p8)]) (hsN := [jgh, (101, [], [q1, p7, p8, 0, 0, 0])]) (c1 := 0) (s1 := 0) (c2 := 0) (s2 := 0) (by exact rfl) ?_ (by omega) (by omega)
  refine jT_lcmp (a := p7 + p8) (b := 16777216) (z := (-1)) (by rfl) (by rfl) (jwl_idd (by omega) (by omega)) (jwl_idd (by omega) (by omega)) (by rw [decide_eq_false (show ¬ ((16777216 : Int) < p7 + p8) by omega), decide_eq_false (show ¬ ((p7 + p8 : Int) = 16777216) by omega)]; rfl) ?_
  refine jT_xifF (t := 25) (pcN := 8) jIQ_40_5 rfl (by decide +kernel) rfl rfl ?_
  refine jT_xaload_n (v := (4, 1)) (pcN := 9) jIQ_40_8 rfl rfl rfl ?_
  refine jT_xiconst (k := 0) (pcN := 10) jIQ_40_9 rfl ?_
  refine jT_lald (x := q1) (a := 1) (j := 0) (fs := []) (X := [q1, p7, p8, 0, 0, 0]) jIQ_40_10 rfl rfl rfl rfl ?_
  refine jT_eq (LN := [(0, (4, 0)), (1, (4, 1)), (2, (1, p7 + p8))]) (stN := [(1, q1)]) (hsN := [jgh, (101, [], [q1, p7, p8, 0, 0, 0])]) rfl rfl rfl ?_
  refine jT_labs (z := q1) (by rfl) (by rfl) (by rfl) (by rfl) (by rw [show jwl (q1) = q1 from jwl_idd (by omega) (by omega), decide_eq_false (by omega)]; first | (simp only [cond_true, cond_false]; done) | (simp only [cond_true, cond_false]; omega) | rfl) ?_
  refine jT_adv 1 (pcN := 17) (LN := [(0, (4, 0)), (1, (4, 1)), (2, (1, p7 + p8))]) (stN := [(1, 16777216), (1, q1)]) (hsN := [jgh, (101, [], [q1, p7, p8, 0, 0, 0])]) (c1 := 0) (s1 := 0) (c2 := 0) (s2 := 0) (by exact rfl) ?_ (by omega) (by omega)
  refine jT_lcmp (a := q1) (b := 16777216) (z := (-1)) (by rfl) (by rfl) (jwl_idd (by omega) (by omega)) (jwl_idd (by omega) (by omega)) (by rw [decide_eq_false (show ¬ ((16777216 : Int) < q1) by omega), decide_eq_false (show ¬ ((q1 : Int) = 16777216) by omega)]; rfl) ?_
  refine jT_xifF (t := 25) (pcN := 21) jIQ_40_18 rfl (by decide +kernel) rfl rfl ?_
  refine jT_xiconst (k := 1) (pcN := 22) jIQ_40_21 rfl ?_
  refine jT_xgoto (pcN := 26) jIQ_40_22 rfl ?_
  exact jT_ret rfl (by decide) (by show 2 ≤ 2; omega) (by omega) (by omega) ⟨rfl, rfl, rfl⟩
theorem jQ_41_115 {xs : List Int} {d : Nat} {p7 p8 q1 : Int} (h_p7 : (-20) ≤ p7 ∧ p7 ≤ 20) (h_p8 : (-10) ≤ p8 ∧ p8 ≤ 10) (h_q1 : (-60) ≤ q1 ∧ q1 ≤ 60) (g_0 : 0 ≤ (-108917793694) * p7 - 159561683698 * p8 - 68719476736 * q1 - 1) (g_1 : 0 ≤ (-108917793694) * p7 - 159561683700 * p8 - 68719476736 * q1 - 1) (g_2 : 0 ≤ (-108917793696) * p7 - 159561683698 * p8 - 68719476736 * q1 - 1) (g_3 : 0 ≤ (-108917793696) * p7 - 159561683700 * p8 - 68719476736 * q1 - 1) (g_4 : 0 ≤ p7) (g_5 : 0 ≤ p8) (g_6 : 0 ≤ p7 + p8 - 1) (g_7 : 0 ≤ q1) : jT xs d 41 2 0 [(0, (4, 0)), (1, (4, 1))] [] [jgh, (101, [], [q1, p7, p8, 0, 0, 0])] 0 0 (fun k v hsN => k = 0 ∧ v = (1, 108917793695 * p7 + 159561683699 * p8 + 68719476736 * q1) ∧ hsN = [jgh, (101, [], [q1, p7, p8, 0, 0, 0])] ++ []) := by
  refine jT_xlconst (z := 0) (pcN := 1) jIQ_41_0 rfl rfl ?_
  refine jT_xlstore_n (v := (1, 0)) (LN := [(2, (1, 0)), (0, (4, 0)), (1, (4, 1))]) (pcN := 2) jIQ_41_1 rfl rfl rfl rfl ?_
  refine jT_xiconst (k := 0) (pcN := 3) jIQ_41_2 rfl ?_
  refine jT_xistore (v := (0, 0)) (LN := [(4, (0, 0)), (2, (1, 0)), (0, (4, 0)), (1, (4, 1))]) (pcN := 5) jIQ_41_3 rfl rfl rfl rfl ?_
  refine jT_xiload (v := (0, 0)) (pcN := 7) jIQ_41_5 rfl rfl rfl ?_
  refine jT_xbipush (k := 6) (pcN := 9) jIQ_41_7 (by decide) rfl ?_
  refine jT_xicF (t := 32) (pcN := 12) jIQ_41_9 rfl (by decide +kernel) rfl rfl ?_
  refine jT_xlload_n (v := (1, 0)) (pcN := 13) jIQ_41_12 rfl rfl rfl ?_
  refine jT_xaload_n (v := (4, 1)) (pcN := 14) jIQ_41_13 rfl rfl rfl ?_
  refine jT_xiload (v := (0, 0)) (pcN := 16) jIQ_41_14 rfl rfl rfl ?_
  refine jT_lald (x := q1) (a := 1) (j := 0) (fs := []) (X := [q1, p7, p8, 0, 0, 0]) jIQ_41_16 rfl rfl rfl rfl ?_
  refine jT_eq (LN := [(4, (0, 0)), (2, (1, 0)), (0, (4, 0)), (1, (4, 1))]) (stN := [(1, q1), (1, 0)]) (hsN := [jgh, (101, [], [q1, p7, p8, 0, 0, 0])]) rfl rfl rfl ?_
  refine jT_adv 1 (pcN := 20) (LN := [(4, (0, 0)), (2, (1, 0)), (0, (4, 0)), (1, (4, 1))]) (stN := [(5, 0), (1, q1), (1, 0)]) (hsN := [jgh, (101, [], [q1, p7, p8, 0, 0, 0])]) (c1 := 0) (s1 := 0) (c2 := 0) (s2 := 0) (by exact rfl) ?_ (by omega) (by omega)
  refine jT_xiload (v := (0, 0)) (pcN := 22) jIQ_41_20 rfl rfl rfl ?_
  refine jT_adv 1 (pcN := 23) (LN := [(4, (0, 0)), (2, (1, 0)), (0, (4, 0)), (1, (4, 1))]) (stN := [(1, 68719476736), (1, q1), (1, 0)]) (hsN := [jgh, (101, [], [q1, p7, p8, 0, 0, 0])]) (c1 := 0) (s1 := 0) (c2 := 0) (s2 := 0) (by exact rfl) ?_ (by omega) (by omega)
  refine jT_xlmul (x := q1) (y := 68719476736) (z := 68719476736 * q1) (pcN := 24) jIQ_41_23 rfl (by omega) rfl ?_
  refine jT_xladd (x := 0) (y := 68719476736 * q1) (z := 68719476736 * q1) (pcN := 25) jIQ_41_24 rfl (by omega) rfl ?_
  refine jT_xlstore_n (v := (1, 68719476736 * q1)) (LN := [(2, (1, 68719476736 * q1)), (4, (0, 0)), (0, (4, 0)), (1, (4, 1))]) (pcN := 26) jIQ_41_25 rfl rfl rfl rfl ?_
  refine jT_xiinc (x := 0) (z := 1) (LN := [(4, (0, 1)), (2, (1, 68719476736 * q1)), (0, (4, 0)), (1, (4, 1))]) (pcN := 29) jIQ_41_26 rfl rfl (by decide) rfl rfl ?_
  refine jT_xgoto (pcN := 5) jIQ_41_29 rfl ?_
  refine jT_xiload (v := (0, 1)) (pcN := 7) jIQ_41_5 rfl rfl rfl ?_
  refine jT_xbipush (k := 6) (pcN := 9) jIQ_41_7 (by decide) rfl ?_
  refine jT_xicF (t := 32) (pcN := 12) jIQ_41_9 rfl (by decide +kernel) rfl rfl ?_
  refine jT_xlload_n (v := (1, 68719476736 * q1)) (pcN := 13) jIQ_41_12 rfl rfl rfl ?_
  refine jT_xaload_n (v := (4, 1)) (pcN := 14) jIQ_41_13 rfl rfl rfl ?_
  refine jT_xiload (v := (0, 1)) (pcN := 16) jIQ_41_14 rfl rfl rfl ?_
  refine jT_lald (x := p7) (a := 1) (j := 1) (fs := []) (X := [q1, p7, p8, 0, 0, 0]) jIQ_41_16 rfl rfl rfl rfl ?_
  refine jT_eq (LN := [(4, (0, 1)), (2, (1, 68719476736 * q1)), (0, (4, 0)), (1, (4, 1))]) (stN := [(1, p7), (1, 68719476736 * q1)]) (hsN := [jgh, (101, [], [q1, p7, p8, 0, 0, 0])]) rfl rfl rfl ?_
  refine jT_adv 1 (pcN := 20) (LN := [(4, (0, 1)), (2, (1, 68719476736 * q1)), (0, (4, 0)), (1, (4, 1))]) (stN := [(5, 0), (1, p7), (1, 68719476736 * q1)]) (hsN := [jgh, (101, [], [q1, p7, p8, 0, 0, 0])]) (c1 := 0) (s1 := 0) (c2 := 0) (s2 := 0) (by exact rfl) ?_ (by omega) (by omega)
  refine jT_xiload (v := (0, 1)) (pcN := 22) jIQ_41_20 rfl rfl rfl ?_
  refine jT_adv 1 (pcN := 23) (LN := [(4, (0, 1)), (2, (1, 68719476736 * q1)), (0, (4, 0)), (1, (4, 1))]) (stN := [(1, 108917793695), (1, p7), (1, 68719476736 * q1)]) (hsN := [jgh, (101, [], [q1, p7, p8, 0, 0, 0])]) (c1 := 0) (s1 := 0) (c2 := 0) (s2 := 0) (by exact rfl) ?_ (by omega) (by omega)
  refine jT_xlmul (x := p7) (y := 108917793695) (z := 108917793695 * p7) (pcN := 24) jIQ_41_23 rfl (by omega) rfl ?_
  refine jT_xladd (x := 68719476736 * q1) (y := 108917793695 * p7) (z := 108917793695 * p7 + 68719476736 * q1) (pcN := 25) jIQ_41_24 rfl (by omega) rfl ?_
  refine jT_xlstore_n (v := (1, 108917793695 * p7 + 68719476736 * q1)) (LN := [(2, (1, 108917793695 * p7 + 68719476736 * q1)), (4, (0, 1)), (0, (4, 0)), (1, (4, 1))]) (pcN := 26) jIQ_41_25 rfl rfl rfl rfl ?_
  refine jT_xiinc (x := 1) (z := 2) (LN := [(4, (0, 2)), (2, (1, 108917793695 * p7 + 68719476736 * q1)), (0, (4, 0)), (1, (4, 1))]) (pcN := 29) jIQ_41_26 rfl rfl (by decide) rfl rfl ?_
  refine jT_xgoto (pcN := 5) jIQ_41_29 rfl ?_
  refine jT_xiload (v := (0, 2)) (pcN := 7) jIQ_41_5 rfl rfl rfl ?_
  refine jT_xbipush (k := 6) (pcN := 9) jIQ_41_7 (by decide) rfl ?_
  refine jT_xicF (t := 32) (pcN := 12) jIQ_41_9 rfl (by decide +kernel) rfl rfl ?_
  refine jT_xlload_n (v := (1, 108917793695 * p7 + 68719476736 * q1)) (pcN := 13) jIQ_41_12 rfl rfl rfl ?_
  refine jT_xaload_n (v := (4, 1)) (pcN := 14) jIQ_41_13 rfl rfl rfl ?_
  refine jT_xiload (v := (0, 2)) (pcN := 16) jIQ_41_14 rfl rfl rfl ?_
  refine jT_lald (x := p8) (a := 1) (j := 2) (fs := []) (X := [q1, p7, p8, 0, 0, 0]) jIQ_41_16 rfl rfl rfl rfl ?_
  refine jT_eq (LN := [(4, (0, 2)), (2, (1, 108917793695 * p7 + 68719476736 * q1)), (0, (4, 0)), (1, (4, 1))]) (stN := [(1, p8), (1, 108917793695 * p7 + 68719476736 * q1)]) (hsN := [jgh, (101, [], [q1, p7, p8, 0, 0, 0])]) rfl rfl rfl ?_
  refine jT_adv 1 (pcN := 20) (LN := [(4, (0, 2)), (2, (1, 108917793695 * p7 + 68719476736 * q1)), (0, (4, 0)), (1, (4, 1))]) (stN := [(5, 0), (1, p8), (1, 108917793695 * p7 + 68719476736 * q1)]) (hsN := [jgh, (101, [], [q1, p7, p8, 0, 0, 0])]) (c1 := 0) (s1 := 0) (c2 := 0) (s2 := 0) (by exact rfl) ?_ (by omega) (by omega)
  refine jT_xiload (v := (0, 2)) (pcN := 22) jIQ_41_20 rfl rfl rfl ?_
  refine jT_adv 1 (pcN := 23) (LN := [(4, (0, 2)), (2, (1, 108917793695 * p7 + 68719476736 * q1)), (0, (4, 0)), (1, (4, 1))]) (stN := [(1, 159561683699), (1, p8), (1, 108917793695 * p7 + 68719476736 * q1)]) (hsN := [jgh, (101, [], [q1, p7, p8, 0, 0, 0])]) (c1 := 0) (s1 := 0) (c2 := 0) (s2 := 0) (by exact rfl) ?_ (by omega) (by omega)
  refine jT_xlmul (x := p8) (y := 159561683699) (z := 159561683699 * p8) (pcN := 24) jIQ_41_23 rfl (by omega) rfl ?_
  refine jT_xladd (x := 108917793695 * p7 + 68719476736 * q1) (y := 159561683699 * p8) (z := 108917793695 * p7 + 159561683699 * p8 + 68719476736 * q1) (pcN := 25) jIQ_41_24 rfl (by omega) rfl ?_
  refine jT_xlstore_n (v := (1, 108917793695 * p7 + 159561683699 * p8 + 68719476736 * q1)) (LN := [(2, (1, 108917793695 * p7 + 159561683699 * p8 + 68719476736 * q1)), (4, (0, 2)), (0, (4, 0)), (1, (4, 1))]) (pcN := 26) jIQ_41_25 rfl rfl rfl rfl ?_
  refine jT_xiinc (x := 2) (z := 3) (LN := [(4, (0, 3)), (2, (1, 108917793695 * p7 + 159561683699 * p8 + 68719476736 * q1)), (0, (4, 0)), (1, (4, 1))]) (pcN := 29) jIQ_41_26 rfl rfl (by decide) rfl rfl ?_
  refine jT_xgoto (pcN := 5) jIQ_41_29 rfl ?_
  refine jT_xiload (v := (0, 3)) (pcN := 7) jIQ_41_5 rfl rfl rfl ?_
  refine jT_xbipush (k := 6) (pcN := 9) jIQ_41_7 (by decide) rfl ?_
  refine jT_xicF (t := 32) (pcN := 12) jIQ_41_9 rfl (by decide +kernel) rfl rfl ?_
  refine jT_xlload_n (v := (1, 108917793695 * p7 + 159561683699 * p8 + 68719476736 * q1)) (pcN := 13) jIQ_41_12 rfl rfl rfl ?_
  refine jT_xaload_n (v := (4, 1)) (pcN := 14) jIQ_41_13 rfl rfl rfl ?_
  refine jT_xiload (v := (0, 3)) (pcN := 16) jIQ_41_14 rfl rfl rfl ?_
  refine jT_lald (x := 0) (a := 1) (j := 3) (fs := []) (X := [q1, p7, p8, 0, 0, 0]) jIQ_41_16 rfl rfl rfl rfl ?_
  refine jT_eq (LN := [(4, (0, 3)), (2, (1, 108917793695 * p7 + 159561683699 * p8 + 68719476736 * q1)), (0, (4, 0)), (1, (4, 1))]) (stN := [(1, 0), (1, 108917793695 * p7 + 159561683699 * p8 + 68719476736 * q1)]) (hsN := [jgh, (101, [], [q1, p7, p8, 0, 0, 0])]) rfl rfl rfl ?_
  refine jT_adv 1 (pcN := 20) (LN := [(4, (0, 3)), (2, (1, 108917793695 * p7 + 159561683699 * p8 + 68719476736 * q1)), (0, (4, 0)), (1, (4, 1))]) (stN := [(5, 0), (1, 0), (1, 108917793695 * p7 + 159561683699 * p8 + 68719476736 * q1)]) (hsN := [jgh, (101, [], [q1, p7, p8, 0, 0, 0])]) (c1 := 0) (s1 := 0) (c2 := 0) (s2 := 0) (by exact rfl) ?_ (by omega) (by omega)
  refine jT_xiload (v := (0, 3)) (pcN := 22) jIQ_41_20 rfl rfl rfl ?_
  refine jT_adv 1 (pcN := 23) (LN := [(4, (0, 3)), (2, (1, 108917793695 * p7 + 159561683699 * p8 + 68719476736 * q1)), (0, (4, 0)), (1, (4, 1))]) (stN := [(1, 192919961256), (1, 0), (1, 108917793695 * p7 + 159561683699 * p8 + 68719476736 * q1)]) (hsN := [jgh, (101, [], [q1, p7, p8, 0, 0, 0])]) (c1 := 0) (s1 := 0) (c2 := 0) (s2 := 0) (by exact rfl) ?_ (by omega) (by omega)
  refine jT_xlmul (x := 0) (y := 192919961256) (z := 0) (pcN := 24) jIQ_41_23 rfl (by decide) rfl ?_
  refine jT_xladd (x := 108917793695 * p7 + 159561683699 * p8 + 68719476736 * q1) (y := 0) (z := 108917793695 * p7 + 159561683699 * p8 + 68719476736 * q1) (pcN := 25) jIQ_41_24 rfl (by omega) rfl ?_
  refine jT_xlstore_n (v := (1, 108917793695 * p7 + 159561683699 * p8 + 68719476736 * q1)) (LN := [(2, (1, 108917793695 * p7 + 159561683699 * p8 + 68719476736 * q1)), (4, (0, 3)), (0, (4, 0)), (1, (4, 1))]) (pcN := 26) jIQ_41_25 rfl rfl rfl rfl ?_
  refine jT_xiinc (x := 3) (z := 4) (LN := [(4, (0, 4)), (2, (1, 108917793695 * p7 + 159561683699 * p8 + 68719476736 * q1)), (0, (4, 0)), (1, (4, 1))]) (pcN := 29) jIQ_41_26 rfl rfl (by decide) rfl rfl ?_
  refine jT_xgoto (pcN := 5) jIQ_41_29 rfl ?_
  refine jT_xiload (v := (0, 4)) (pcN := 7) jIQ_41_5 rfl rfl rfl ?_
  refine jT_xbipush (k := 6) (pcN := 9) jIQ_41_7 (by decide) rfl ?_
  refine jT_xicF (t := 32) (pcN := 12) jIQ_41_9 rfl (by decide +kernel) rfl rfl ?_
  refine jT_xlload_n (v := (1, 108917793695 * p7 + 159561683699 * p8 + 68719476736 * q1)) (pcN := 13) jIQ_41_12 rfl rfl rfl ?_
  refine jT_xaload_n (v := (4, 1)) (pcN := 14) jIQ_41_13 rfl rfl rfl ?_
  refine jT_xiload (v := (0, 4)) (pcN := 16) jIQ_41_14 rfl rfl rfl ?_
  refine jT_lald (x := 0) (a := 1) (j := 4) (fs := []) (X := [q1, p7, p8, 0, 0, 0]) jIQ_41_16 rfl rfl rfl rfl ?_
  refine jT_eq (LN := [(4, (0, 4)), (2, (1, 108917793695 * p7 + 159561683699 * p8 + 68719476736 * q1)), (0, (4, 0)), (1, (4, 1))]) (stN := [(1, 0), (1, 108917793695 * p7 + 159561683699 * p8 + 68719476736 * q1)]) (hsN := [jgh, (101, [], [q1, p7, p8, 0, 0, 0])]) rfl rfl rfl ?_
  refine jT_adv 1 (pcN := 20) (LN := [(4, (0, 4)), (2, (1, 108917793695 * p7 + 159561683699 * p8 + 68719476736 * q1)), (0, (4, 0)), (1, (4, 1))]) (stN := [(5, 0), (1, 0), (1, 108917793695 * p7 + 159561683699 * p8 + 68719476736 * q1)]) (hsN := [jgh, (101, [], [q1, p7, p8, 0, 0, 0])]) (c1 := 0) (s1 := 0) (c2 := 0) (s2 := 0) (by exact rfl) ?_ (by omega) (by omega)
  refine jT_xiload (v := (0, 4)) (pcN := 22) jIQ_41_20 rfl rfl rfl ?_
  refine jT_adv 1 (pcN := 23) (LN := [(4, (0, 4)), (2, (1, 108917793695 * p7 + 159561683699 * p8 + 68719476736 * q1)), (0, (4, 0)), (1, (4, 1))]) (stN := [(1, 237730330636), (1, 0), (1, 108917793695 * p7 + 159561683699 * p8 + 68719476736 * q1)]) (hsN := [jgh, (101, [], [q1, p7, p8, 0, 0, 0])]) (c1 := 0) (s1 := 0) (c2 := 0) (s2 := 0) (by exact rfl) ?_ (by omega) (by omega)
  refine jT_xlmul (x := 0) (y := 237730330636) (z := 0) (pcN := 24) jIQ_41_23 rfl (by decide) rfl ?_
  refine jT_xladd (x := 108917793695 * p7 + 159561683699 * p8 + 68719476736 * q1) (y := 0) (z := 108917793695 * p7 + 159561683699 * p8 + 68719476736 * q1) (pcN := 25) jIQ_41_24 rfl (by omega) rfl ?_
  refine jT_xlstore_n (v := (1, 108917793695 * p7 + 159561683699 * p8 + 68719476736 * q1)) (LN := [(2, (1, 108917793695 * p7 + 159561683699 * p8 + 68719476736 * q1)), (4, (0, 4)), (0, (4, 0)), (1, (4, 1))]) (pcN := 26) jIQ_41_25 rfl rfl rfl rfl ?_
  refine jT_xiinc (x := 4) (z := 5) (LN := [(4, (0, 5)), (2, (1, 108917793695 * p7 + 159561683699 * p8 + 68719476736 * q1)), (0, (4, 0)), (1, (4, 1))]) (pcN := 29) jIQ_41_26 rfl rfl (by decide) rfl rfl ?_
  refine jT_xgoto (pcN := 5) jIQ_41_29 rfl ?_
  refine jT_xiload (v := (0, 5)) (pcN := 7) jIQ_41_5 rfl rfl rfl ?_
  refine jT_xbipush (k := 6) (pcN := 9) jIQ_41_7 (by decide) rfl ?_
  refine jT_xicF (t := 32) (pcN := 12) jIQ_41_9 rfl (by decide +kernel) rfl rfl ?_
  refine jT_xlload_n (v := (1, 108917793695 * p7 + 159561683699 * p8 + 68719476736 * q1)) (pcN := 13) jIQ_41_12 rfl rfl rfl ?_
  refine jT_xaload_n (v := (4, 1)) (pcN := 14) jIQ_41_13 rfl rfl rfl ?_
  refine jT_xiload (v := (0, 5)) (pcN := 16) jIQ_41_14 rfl rfl rfl ?_
  refine jT_lald (x := 0) (a := 1) (j := 5) (fs := []) (X := [q1, p7, p8, 0, 0, 0]) jIQ_41_16 rfl rfl rfl rfl ?_
  refine jT_eq (LN := [(4, (0, 5)), (2, (1, 108917793695 * p7 + 159561683699 * p8 + 68719476736 * q1)), (0, (4, 0)), (1, (4, 1))]) (stN := [(1, 0), (1, 108917793695 * p7 + 159561683699 * p8 + 68719476736 * q1)]) (hsN := [jgh, (101, [], [q1, p7, p8, 0, 0, 0])]) rfl rfl rfl ?_
  refine jT_adv 1 (pcN := 20) (LN := [(4, (0, 5)), (2, (1, 108917793695 * p7 + 159561683699 * p8 + 68719476736 * q1)), (0, (4, 0)), (1, (4, 1))]) (stN := [(5, 0), (1, 0), (1, 108917793695 * p7 + 159561683699 * p8 + 68719476736 * q1)]) (hsN := [jgh, (101, [], [q1, p7, p8, 0, 0, 0])]) (c1 := 0) (s1 := 0) (c2 := 0) (s2 := 0) (by exact rfl) ?_ (by omega) (by omega)
  refine jT_xiload (v := (0, 5)) (pcN := 22) jIQ_41_20 rfl rfl rfl ?_
  refine jT_adv 1 (pcN := 23) (LN := [(4, (0, 5)), (2, (1, 108917793695 * p7 + 159561683699 * p8 + 68719476736 * q1)), (0, (4, 0)), (1, (4, 1))]) (stN := [(1, 254292281123), (1, 0), (1, 108917793695 * p7 + 159561683699 * p8 + 68719476736 * q1)]) (hsN := [jgh, (101, [], [q1, p7, p8, 0, 0, 0])]) (c1 := 0) (s1 := 0) (c2 := 0) (s2 := 0) (by exact rfl) ?_ (by omega) (by omega)
  refine jT_xlmul (x := 0) (y := 254292281123) (z := 0) (pcN := 24) jIQ_41_23 rfl (by decide) rfl ?_
  refine jT_xladd (x := 108917793695 * p7 + 159561683699 * p8 + 68719476736 * q1) (y := 0) (z := 108917793695 * p7 + 159561683699 * p8 + 68719476736 * q1) (pcN := 25) jIQ_41_24 rfl (by omega) rfl ?_
  refine jT_xlstore_n (v := (1, 108917793695 * p7 + 159561683699 * p8 + 68719476736 * q1)) (LN := [(2, (1, 108917793695 * p7 + 159561683699 * p8 + 68719476736 * q1)), (4, (0, 5)), (0, (4, 0)), (1, (4, 1))]) (pcN := 26) jIQ_41_25 rfl rfl rfl rfl ?_
  refine jT_xiinc (x := 5) (z := 6) (LN := [(4, (0, 6)), (2, (1, 108917793695 * p7 + 159561683699 * p8 + 68719476736 * q1)), (0, (4, 0)), (1, (4, 1))]) (pcN := 29) jIQ_41_26 rfl rfl (by decide) rfl rfl ?_
  refine jT_xgoto (pcN := 5) jIQ_41_29 rfl ?_
  refine jT_xiload (v := (0, 6)) (pcN := 7) jIQ_41_5 rfl rfl rfl ?_
  refine jT_xbipush (k := 6) (pcN := 9) jIQ_41_7 (by decide) rfl ?_
  refine jT_xicT (pcN := 32) jIQ_41_9 rfl (by decide +kernel) rfl ?_
  refine jT_xlload_n (v := (1, 108917793695 * p7 + 159561683699 * p8 + 68719476736 * q1)) (pcN := 33) jIQ_41_32 rfl rfl rfl ?_
  exact jT_ret rfl (by decide) (by show 2 ≤ 2; omega) (by omega) (by omega) ⟨rfl, rfl, rfl⟩
theorem jIQ_161_0 : jmI (jm 161) 0 = (.iload_n 1, 1) := by rfl
theorem jIQ_161_1 : jmI (jm 161) 1 = (.ifCond .ne 9, 3) := by rfl
theorem jIQ_161_10 : jmI (jm 161) 10 = (.iconst 0, 1) := by rfl
theorem jIQ_161_11 : jmI (jm 161) 11 = (.istore 5, 2) := by rfl
theorem jIQ_161_13 : jmI (jm 161) 13 = (.iload 5, 2) := by rfl
theorem jIQ_161_15 : jmI (jm 161) 15 = (.bipush 6, 2) := by rfl
theorem jIQ_161_17 : jmI (jm 161) 17 = (.if_icmp .ge 39, 3) := by rfl
theorem jIQ_161_20 : jmI (jm 161) 20 = (.aload_n 0, 1) := by rfl
theorem jIQ_161_21 : jmI (jm 161) 21 = (.getfield 50, 3) := by rfl
theorem jIQ_161_24 : jmI (jm 161) 24 = (.iload 5, 2) := by rfl
theorem jIQ_161_26 : jmI (jm 161) 26 = (.iload 5, 2) := by rfl
theorem jIQ_161_28 : jmI (jm 161) 28 = (.iconst 1, 1) := by rfl
theorem jIQ_161_29 : jmI (jm 161) 29 = (.if_icmp .ne 8, 3) := by rfl
theorem jIQ_161_37 : jmI (jm 161) 37 = (.iload 5, 2) := by rfl
theorem jIQ_161_39 : jmI (jm 161) 39 = (.iconst 2, 1) := by rfl
theorem jIQ_161_40 : jmI (jm 161) 40 = (.if_icmp .ne 8, 3) := by rfl
theorem jIQ_161_48 : jmI (jm 161) 48 = (.lconst 0, 1) := by rfl
theorem jIQ_161_50 : jmI (jm 161) 50 = (.iinc 5 1, 3) := by rfl
theorem jIQ_161_53 : jmI (jm 161) 53 = (.goto (-40), 3) := by rfl
theorem jIQ_161_32 : jmI (jm 161) 32 = (.iload_n 1, 1) := by rfl
theorem jIQ_161_33 : jmI (jm 161) 33 = (.i2l, 1) := by rfl
theorem jIQ_161_34 : jmI (jm 161) 34 = (.goto 15, 3) := by rfl
theorem jIQ_161_43 : jmI (jm 161) 43 = (.iload_n 2, 1) := by rfl
theorem jIQ_161_44 : jmI (jm 161) 44 = (.i2l, 1) := by rfl
theorem jIQ_161_45 : jmI (jm 161) 45 = (.goto 4, 3) := by rfl
theorem jIQ_161_56 : jmI (jm 161) 56 = (.aload_n 0, 1) := by rfl
theorem jIQ_161_57 : jmI (jm 161) 57 = (.getfield 10, 3) := by rfl
theorem jIQ_161_60 : jmI (jm 161) 60 = (.aload_n 0, 1) := by rfl
theorem jIQ_161_61 : jmI (jm 161) 61 = (.getfield 50, 3) := by rfl
theorem jIQ_161_64 : jmI (jm 161) 64 = (.lconst 1, 1) := by rfl
theorem jIQ_161_65 : jmI (jm 161) 65 = (.lconst 1, 1) := by rfl
theorem jIQ_45_0 : jmI (jm 45) 0 = (.lload_n 2, 1) := by rfl
theorem jIQ_45_1 : jmI (jm 45) 1 = (.lconst 1, 1) := by rfl
theorem jIQ_45_3 : jmI (jm 45) 3 = (.ifCond .lt 10, 3) := by rfl
theorem jIQ_45_6 : jmI (jm 45) 6 = (.lload 4, 2) := by rfl
theorem jIQ_45_8 : jmI (jm 45) 8 = (.lconst 1, 1) := by rfl
theorem jIQ_45_10 : jmI (jm 45) 10 = (.ifCond .ge 5, 3) := by rfl
theorem jIQ_45_15 : jmI (jm 45) 15 = (.aload_n 0, 1) := by rfl
theorem jIQ_45_16 : jmI (jm 45) 16 = (.aload_n 1, 1) := by rfl
theorem jIQ_45_20 : jmI (jm 45) 20 = (.lstore 6, 2) := by rfl
theorem jIQ_45_22 : jmI (jm 45) 22 = (.lload 6, 2) := by rfl
theorem jIQ_45_24 : jmI (jm 45) 24 = (.lconst 0, 1) := by rfl
theorem jIQ_45_26 : jmI (jm 45) 26 = (.ifCond .ne 14, 3) := by rfl
theorem jIQ_45_40 : jmI (jm 45) 40 = (.aload_n 0, 1) := by rfl
theorem jIQ_45_41 : jmI (jm 45) 41 = (.aload_n 1, 1) := by rfl
theorem jIQ_45_42 : jmI (jm 45) 42 = (.lload 6, 2) := by rfl
theorem jIQ_45_47 : jmI (jm 45) 47 = (.ifCond .eq 73, 3) := by rfl
theorem jIQ_45_50 : jmI (jm 45) 50 = (.aload_n 0, 1) := by rfl
theorem jIQ_45_51 : jmI (jm 45) 51 = (.aload_n 1, 1) := by rfl
theorem jIQ_45_55 : jmI (jm 45) 55 = (.lstore 8, 2) := by rfl
theorem jIQ_45_57 : jmI (jm 45) 57 = (.lload 8, 2) := by rfl
theorem jIQ_45_62 : jmI (jm 45) 62 = (.lload 6, 2) := by rfl
theorem jIQ_45_64 : jmI (jm 45) 64 = (.ladd, 1) := by rfl
theorem jIQ_45_68 : jmI (jm 45) 68 = (.lload 4, 2) := by rfl
theorem jIQ_45_72 : jmI (jm 45) 72 = (.ifCond .gt 48, 3) := by rfl
theorem jIQ_45_75 : jmI (jm 45) 75 = (.lload 8, 2) := by rfl
theorem jIQ_45_77 : jmI (jm 45) 77 = (.lload 6, 2) := by rfl
theorem jIQ_45_79 : jmI (jm 45) 79 = (.lsub, 1) := by rfl
theorem jIQ_45_80 : jmI (jm 45) 80 = (.lload 4, 2) := by rfl
theorem jIQ_45_82 : jmI (jm 45) 82 = (.lmul, 1) := by rfl
theorem jIQ_45_83 : jmI (jm 45) 83 = (.lload_n 2, 1) := by rfl
theorem jIQ_45_84 : jmI (jm 45) 84 = (.bipush 36, 2) := by rfl
theorem jIQ_45_90 : jmI (jm 45) 90 = (.lstore 10, 2) := by rfl
theorem jIQ_45_92 : jmI (jm 45) 92 = (.lload 8, 2) := by rfl
theorem jIQ_45_94 : jmI (jm 45) 94 = (.lload 6, 2) := by rfl
theorem jIQ_45_96 : jmI (jm 45) 96 = (.ladd, 1) := by rfl
theorem jIQ_45_97 : jmI (jm 45) 97 = (.lload 4, 2) := by rfl
theorem jIQ_45_99 : jmI (jm 45) 99 = (.lmul, 1) := by rfl
theorem jIQ_45_100 : jmI (jm 45) 100 = (.lload_n 2, 1) := by rfl
theorem jIQ_45_101 : jmI (jm 45) 101 = (.bipush 36, 2) := by rfl
theorem jIQ_45_107 : jmI (jm 45) 107 = (.lstore 12, 2) := by rfl
theorem jIQ_45_109 : jmI (jm 45) 109 = (.lload 10, 2) := by rfl
theorem jIQ_45_111 : jmI (jm 45) 111 = (.lload 12, 2) := by rfl
theorem jIQ_45_114 : jmI (jm 45) 114 = (.ifCond .ne 6, 3) := by rfl
theorem jIQ_45_117 : jmI (jm 45) 117 = (.lload 10, 2) := by rfl
theorem jIQ_45_29 : jmI (jm 45) 29 = (.aload_n 1, 1) := by rfl
theorem jIQ_45_30 : jmI (jm 45) 30 = (.iconst 0, 1) := by rfl
theorem jIQ_45_31 : jmI (jm 45) 31 = (.laload, 1) := by rfl
theorem jIQ_45_32 : jmI (jm 45) 32 = (.lload 4, 2) := by rfl
theorem jIQ_45_34 : jmI (jm 45) 34 = (.lmul, 1) := by rfl
theorem jIQ_45_35 : jmI (jm 45) 35 = (.lload_n 2, 1) := by rfl
