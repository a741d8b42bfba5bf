/-! the law, case by case: 0 -/
theorem jIH_115_0 : jmI (jm 115) 0 = (.iload_n 1, 1) := by rfl
theorem jIH_115_1 : jmI (jm 115) 1 = (.ifCond .lt 8, 3) := by rfl
theorem jH_115_1 {xs : List Int} {d : Nat} {x1 : Int} (h_x1 : (-2147483648) ≤ x1 ∧ x1 ≤ (-1)) : jT xs d 115 1 0 [(0, (4, 0)), (1, (0, x1)), (2, (0, 8))] [] [jgh] 1 6 (fun k v hsN => k = 1 ∧ v = (0, 0) ∧ hsN = [jgh] ++ []) := by
  refine jT_xiload_n (v := (0, x1)) (pcN := 1) jIH_115_0 rfl rfl rfl ?_
  refine jT_ifT (a := x1) (t := 9) (by rfl) (by rfl) (by rfl) (jw_idd (by omega) (by omega)) (by simp only [jcP] <;> omega) ?_
  exact jT_ret (c1 := 1) (s1 := 6) rfl (by decide) (by show 1 ≤ 1; omega) (by omega) (by omega) ⟨rfl, rfl, rfl⟩
theorem jIH_114_0 : jmI (jm 114) 0 = (.aload_n 0, 1) := by rfl
theorem jIH_114_1 : jmI (jm 114) 1 = (.iload_n 1, 1) := by rfl
theorem jIH_114_2 : jmI (jm 114) 2 = (.bipush 8, 2) := by rfl
def jzH_5 : JC := (13, [(4, 1), (4, 2), (4, 3), (4, 4), (4, 5), (4, 6), (4, 7), (4, 8), (4, 9), (4, 10), (0, 0), (4, 11), (0, 0)], [])
def jpH_6 : List JC := [jzH_5, jgh, jgh, jgh, jgh, jgh, jgh, jgh, jgh, jgh, jgh, jgh]
theorem jH_114_2 {xs : List Int} {d : Nat} {x1 x2 x3 : Int} (h_x1 : (-2147483648) ≤ x1 ∧ x1 ≤ (-1)) (h_x2 : (-2147483648) ≤ x2 ∧ x2 ≤ 2147483647) (h_x3 : (-2147483648) ≤ x3 ∧ x3 ≤ 2147483647) : jT xs (d + 1) 114 12 0 [(0, (4, 0)), (1, (0, x1)), (2, (0, x2)), (3, (0, x3))] [] jpH_6 1 6 (fun k v hsN => k = 1 ∧ v = (0, 0) ∧ hsN = jpH_6 ++ []) := by
  refine jT_xaload_n (v := (4, 0)) (pcN := 1) jIH_114_0 rfl rfl rfl ?_
  refine jT_xiload_n (v := (0, x1)) (pcN := 2) jIH_114_1 rfl rfl rfl ?_
  refine jT_xbipush (k := 8) (pcN := 4) jIH_114_2 (by decide) rfl ?_
  exact jT_fX [0] 12 (y := 115) (pcN := 7) (dC := 0) (bc1 := 1) (bc2 := 6) (as := [(4, 0), (0, x1), (0, 8)]) (asC := [(4, 0), (0, x1), (0, 8)]) (LN := [(0, (4, 0)), (1, (0, x1)), (2, (0, x2)), (3, (0, x3))]) (stN := []) (hsC := [jgh]) (e := 0) (jH_115_1 (d := 0) (by omega)) (by rfl) (by rfl) (by decide +kernel) (by rfl) (by rfl) (by omega) (by omega) (by omega) (by omega) ⟨rfl, ⟨rfl, rfl, rfl⟩⟩
theorem jIH_326_0 : jmI (jm 326) 0 = (.aload 4, 2) := by rfl
theorem jIH_326_2 : jmI (jm 326) 2 = (.iconst 0, 1) := by rfl
theorem jIH_326_3 : jmI (jm 326) 3 = (.aload_n 0, 1) := by rfl
theorem jIH_326_4 : jmI (jm 326) 4 = (.iload_n 1, 1) := by rfl
theorem jIH_326_5 : jmI (jm 326) 5 = (.iload_n 2, 1) := by rfl
theorem jIH_326_6 : jmI (jm 326) 6 = (.iload_n 3, 1) := by rfl
def jzH_13 : JC := (13, [(4, 2), (4, 3), (4, 4), (4, 5), (4, 6), (4, 7), (4, 8), (4, 9), (4, 10), (4, 11), (0, 0), (4, 12), (0, 0)], [])
def jpH_14 : List JC := [jzH_13, jgh, jgh, jgh, jgh, jgh, jgh, jgh, jgh, jgh, jgh, jgh, jgh]
theorem jH_326_3 {xs : List Int} {d : Nat} {x1 x2 x3 : Int} (h_x1 : (-2147483648) ≤ x1 ∧ x1 ≤ (-1)) (h_x2 : (-2147483648) ≤ x2 ∧ x2 ≤ 2147483647) (h_x3 : (-2147483648) ≤ x3 ∧ x3 ≤ 2147483647) : jT xs (d + 2) 326 13 0 [(0, (4, 0)), (1, (0, x1)), (2, (0, x2)), (3, (0, x3)), (4, (4, 1))] [] jpH_14 1 6 (fun k v hsN => k = 0 ∧ v = (0, 1) ∧ hsN = jpH_14 ++ []) := by
  refine jT_xaload (v := (4, 1)) (pcN := 2) jIH_326_0 rfl rfl rfl ?_
  refine jT_xiconst (k := 0) (pcN := 3) jIH_326_2 rfl ?_
  refine jT_xaload_n (v := (4, 0)) (pcN := 4) jIH_326_3 rfl rfl rfl ?_
  refine jT_xiload_n (v := (0, x1)) (pcN := 5) jIH_326_4 rfl rfl rfl ?_
  refine jT_xiload_n (v := (0, x2)) (pcN := 6) jIH_326_5 rfl rfl rfl ?_
  refine jT_xiload_n (v := (0, x3)) (pcN := 7) jIH_326_6 rfl rfl rfl ?_
  exact jT_fX [0, 2, 3, 4, 5, 6, 7, 8, 9, 10, 11, 12] 13 (y := 114) (pcN := 10) (dC := 1) (bc1 := 1) (bc2 := 6) (as := [(4, 0), (0, x1), (0, x2), (0, x3)]) (asC := [(4, 0), (0, x1), (0, x2), (0, x3)]) (LN := [(0, (4, 0)), (1, (0, x1)), (2, (0, x2)), (3, (0, x3)), (4, (4, 1))]) (stN := [(0, 0), (4, 1)]) (hsC := jpH_6) (e := 0) (jH_114_2 (d := 0) (by omega) (by omega) (by omega)) (by rfl) (by rfl) (by decide +kernel) (by rfl) (by rfl) (by omega) (by omega) (by omega) (by omega) (show _ from ⟨rfl, rfl, rfl⟩)
theorem jIH_188_0 : jmI (jm 188) 0 = (.iload_n 0, 1) := by rfl
theorem jIH_188_1 : jmI (jm 188) 1 = (.i2l, 1) := by rfl
theorem jIH_188_2 : jmI (jm 188) 2 = (.lconst 0, 1) := by rfl
theorem jH_188_4 {xs : List Int} {d : Nat} {x1 : Int} (h_x1 : (-2147483648) ≤ x1 ∧ x1 ≤ (-1)) : jT xs (d + 1) 188 0 0 [(0, (0, x1))] [] [] 0 0 (fun k v hsN => k = 0 ∧ v = (0, 0) ∧ hsN = [] ++ []) := by
  refine jT_xiload_n (v := (0, x1)) (pcN := 1) jIH_188_0 rfl rfl rfl ?_
  refine jT_xi2l (x := x1) (z := x1) (pcN := 2) jIH_188_1 rfl (jw_idd (by omega) (by omega)) rfl ?_
  refine jT_xlconst (z := 0) (pcN := 3) jIH_188_2 rfl rfl ?_
  refine jT_adv 1 (pcN := 6) (LN := [(0, (0, x1))]) (stN := [(1, 7), (1, 0), (1, x1)]) (hsN := []) (c1 := 0) (s1 := 0) (c2 := 0) (s2 := 0) (by exact rfl) ?_ (by omega) (by omega)
  refine jT_fR [] 0 (y := 189) (pcN := 9) (dC := 0) (bc1 := 0) (bc2 := 0) (c1 := 0) (c2 := 0) (as := [(1, x1), (1, 0), (1, 7)]) (asC := [(1, x1), (1, 0), (1, 7)]) (LN := [(0, (0, x1))]) (stN := []) (hsC := []) (v := (0, 0)) (st2 := [(0, 0)]) (jT_in_lo (d := 0) (v := x1) (lo := 0) (hi := 7) (by omega) (by omega) (by omega) (by omega)) (by rfl) (by rfl) (by decide +kernel) (by rfl) (by rfl) (by omega) (by omega) (by omega) (by omega) rfl ?_
  exact jT_ret rfl (by decide) (by show 0 ≤ 0; omega) (by omega) (by omega) ⟨rfl, rfl, rfl⟩
def jzH_18 : JC := (14, [(0, 1), (4, 1), (4, 2), (4, 3), (4, 4), (0, 0), (4, 5), (0, 0), (4, 6), (4, 7), (1, 1), (4, 8), (0, 0), (4, 9), (0, 0), (0, 0), (0, 0), (0, 0), (0, 0), (0, 0), (0, 0), (4, 10), (4, 11), (4, 12), (4, 13), (4, 14), (4, 15), (0, 0)], [])
def jpH_19 : List JC := [jzH_18, jgh, jgh, jgh, jgh, jgh, jgh, jgh, jgh, jgh, jgh, jgh, jgh, jgh, jgh, jgh]
def jzH_20 : JC := (14, [(0, 0), (4, 1), (4, 2), (4, 3), (4, 4), (0, 0), (4, 5), (0, 0), (4, 6), (4, 7), (1, 1), (4, 8), (0, 0), (4, 9), (0, 0), (0, 0), (0, 0), (0, 0), (0, 0), (0, 0), (0, 0), (4, 10), (4, 11), (4, 12), (4, 13), (4, 14), (4, 15), (0, 0)], [])
def jpH_21 : List JC := [jzH_20, jgh, jgh, jgh, jgh, jgh, jgh, jgh, jgh, jgh, jgh, jgh, jgh, jgh, jgh, jgh]
theorem jH_191_5 {xs : List Int} {d : Nat} : jT xs d 191 16 0 [(0, (4, 0)), (1, (0, 0)), (2, (0, 1))] [] jpH_21 0 0 (fun k v hsN => k = 0 ∧ v = (0, 1) ∧ hsN = jpH_19) := by
  refine jT_advK 9 (pcN := 18) (LN := [(0, (4, 0)), (1, (0, 0)), (2, (0, 1))]) (stN := [(0, 1)]) (hsN := jpH_19) (c1 := 0) (s1 := 0) (c2 := 0) (s2 := 0) (by decide +kernel) ?_ (by omega) (by omega)
  exact jT_ret rfl (by decide) (by show 16 ≤ 16; omega) (by omega) (by omega) ⟨rfl, rfl, rfl⟩
theorem jH_190_6 {xs : List Int} {d : Nat} : jT xs (d + 1) 190 16 0 [(0, (4, 0)), (1, (0, 0))] [] jpH_21 0 0 (fun k v hsN => k = 0 ∧ v = (0, 1) ∧ hsN = jpH_19) := by
  refine jT_advK 6 (pcN := 8) (LN := [(0, (4, 0)), (1, (0, 0))]) (stN := [(0, 1), (0, 0), (4, 0)]) (hsN := jpH_21) (c1 := 0) (s1 := 0) (c2 := 0) (s2 := 0) (by decide +kernel) ?_ (by omega) (by omega)
  refine jT_fB [0, 1, 2, 3, 4, 5, 6, 7, 8, 9, 10, 11, 12, 13, 14, 15] 16 (y := 191) (pcN := 11) (dC := 0) (bc1 := 0) (bc2 := 0) (c1 := 0) (c2 := 0) (as := [(4, 0), (0, 0), (0, 1)]) (asC := [(4, 0), (0, 0), (0, 1)]) (LN := [(0, (4, 0)), (1, (0, 0))]) (stN := []) (hsC := jpH_21) (hsD := jpH_19) (v := (0, 1)) (st2 := [(0, 1)]) (hs2 := jpH_19) (jH_191_5 (d := 0)) (by rfl) (by rfl) (by decide +kernel) (by rfl) (by rfl) (by omega) (by omega) (by omega) (by omega) rfl (by decide +kernel) ?_
  exact jT_ret rfl (by decide) (by show 16 ≤ 16; omega) (by omega) (by omega) ⟨rfl, rfl, rfl⟩
theorem jIH_187_0 : jmI (jm 187) 0 = (.aload_n 0, 1) := by rfl
theorem jIH_187_1 : jmI (jm 187) 1 = (.iload_n 1, 1) := by rfl
theorem jIH_187_8 : jmI (jm 187) 8 = (.ifCond .ne 54, 3) := by rfl
theorem jIH_187_62 : jmI (jm 187) 62 = (.iconst 0, 1) := by rfl
theorem jH_187_7 {xs : List Int} {d : Nat} {x1 x2 x3 : Int} (h_x1 : (-2147483648) ≤ x1 ∧ x1 ≤ (-1)) (h_x2 : (-2147483648) ≤ x2 ∧ x2 ≤ 2147483647) (h_x3 : (-2147483648) ≤ x3 ∧ x3 ≤ 2147483647) : jT xs (d + 2) 187 16 0 [(0, (4, 0)), (1, (0, x1)), (2, (0, x2)), (3, (0, x3))] [] jpH_21 0 0 (fun k v hsN => k = 0 ∧ v = (0, 0) ∧ hsN = jpH_19) := by
  refine jT_xaload_n (v := (4, 0)) (pcN := 1) jIH_187_0 rfl rfl rfl ?_
  refine jT_xiload_n (v := (0, x1)) (pcN := 2) jIH_187_1 rfl rfl rfl ?_
  refine jT_fR [] 16 (y := 188) (pcN := 5) (dC := 1) (bc1 := 0) (bc2 := 0) (c1 := 0) (c2 := 0) (as := [(0, x1)]) (asC := [(0, x1)]) (LN := [(0, (4, 0)), (1, (0, x1)), (2, (0, x2)), (3, (0, x3))]) (stN := [(4, 0)]) (hsC := []) (v := (0, 0)) (st2 := [(0, 0), (4, 0)]) (jH_188_4 (d := 0) (by omega)) (by rfl) (by rfl) (by decide +kernel) (by rfl) (by rfl) (by omega) (by omega) (by omega) (by omega) rfl ?_
  refine jT_fB [0, 1, 2, 3, 4, 5, 6, 7, 8, 9, 10, 11, 12, 13, 14, 15] 16 (y := 190) (pcN := 8) (dC := 1) (bc1 := 0) (bc2 := 0) (c1 := 0) (c2 := 0) (as := [(4, 0), (0, 0)]) (asC := [(4, 0), (0, 0)]) (LN := [(0, (4, 0)), (1, (0, x1)), (2, (0, x2)), (3, (0, x3))]) (stN := []) (hsC := jpH_21) (hsD := jpH_19) (v := (0, 1)) (st2 := [(0, 1)]) (hs2 := jpH_19) (jH_190_6 (d := 0)) (by rfl) (by rfl) (by decide +kernel) (by rfl) (by rfl) (by omega) (by omega) (by omega) (by omega) rfl (by decide +kernel) ?_
  refine jT_xifT (pcN := 62) jIH_187_8 rfl (by decide +kernel) rfl ?_
  refine jT_xiconst (k := 0) (pcN := 63) jIH_187_62 rfl ?_
  exact jT_ret rfl (by decide) (by show 16 ≤ 16; omega) (by omega) (by omega) ⟨rfl, rfl, rfl⟩
theorem jH_186_8 {xs : List Int} {d : Nat} : jT xs d 186 16 0 [(0, (4, 0))] [] jpH_19 0 0 (fun k v hsN => k = 0 ∧ v = (0, 1) ∧ hsN = jpH_19 ++ []) := by
  refine jT_advK 2 (pcN := 4) (LN := [(0, (4, 0))]) (stN := [(0, 1)]) (hsN := jpH_19) (c1 := 0) (s1 := 0) (c2 := 0) (s2 := 0) (by decide +kernel) ?_ (by omega) (by omega)
  exact jT_ret rfl (by decide) (by show 16 ≤ 16; omega) (by omega) (by omega) ⟨rfl, rfl, rfl⟩
theorem jIH_115_4 : jmI (jm 115) 4 = (.iload_n 1, 1) := by rfl
theorem jIH_115_5 : jmI (jm 115) 5 = (.iload_n 2, 1) := by rfl
theorem jIH_115_6 : jmI (jm 115) 6 = (.if_icmp .lt 14, 3) := by rfl
theorem jH_115_9 {xs : List Int} {d : Nat} {x1 : Int} (h_x1 : 0 ≤ x1 ∧ x1 ≤ 7) : jT xs d 115 1 0 [(0, (4, 0)), (1, (0, x1)), (2, (0, 8))] [] [jgh] 0 0 (fun k v hsN => k = 0 ∧ v = (9, 0) ∧ hsN = [jgh] ++ []) := by
  refine jT_xiload_n (v := (0, x1)) (pcN := 1) jIH_115_0 rfl rfl rfl ?_
  refine jT_ifF (a := x1) (t := 9) (by rfl) (by rfl) (by rfl) (jw_idd (by omega) (by omega)) (by simp only [jcP] <;> omega) ?_
  refine jT_xiload_n (v := (0, x1)) (pcN := 5) jIH_115_4 rfl rfl rfl ?_
  refine jT_xiload_n (v := (0, 8)) (pcN := 6) jIH_115_5 rfl rfl rfl ?_
  refine jT_icT (a := x1) (b := 8) (t := 20) (by rfl) (by rfl) (by rfl) (jw_idd (by omega) (by omega)) (jw_idd (by omega) (by omega)) (by simp only [jcP] <;> omega) ?_
  exact jT_ret rfl (by decide) (by show 1 ≤ 1; omega) (by omega) (by omega) ⟨rfl, rfl, rfl⟩
theorem jIH_116_0 : jmI (jm 116) 0 = (.iload_n 1, 1) := by rfl
theorem jIH_116_1 : jmI (jm 116) 1 = (.iload_n 2, 1) := by rfl
theorem jIH_116_2 : jmI (jm 116) 2 = (.if_icmp .lt 8, 3) := by rfl
theorem jH_116_10 {xs : List Int} {d : Nat} {x2 : Int} (h_x2 : (-2147483648) ≤ x2 ∧ x2 ≤ 0) : jT xs d 116 1 0 [(0, (4, 0)), (1, (0, x2)), (2, (0, 1)), (3, (0, 1000000))] [] [jgh] 1 6 (fun k v hsN => k = 1 ∧ v = (0, 1) ∧ hsN = [jgh] ++ []) := by
  refine jT_xiload_n (v := (0, x2)) (pcN := 1) jIH_116_0 rfl rfl rfl ?_
  refine jT_xiload_n (v := (0, 1)) (pcN := 2) jIH_116_1 rfl rfl rfl ?_
  refine jT_icT (a := x2) (b := 1) (t := 10) (by rfl) (by rfl) (by rfl) (jw_idd (by omega) (by omega)) (jw_idd (by omega) (by omega)) (by simp only [jcP] <;> omega) ?_
  exact jT_ret (c1 := 1) (s1 := 6) rfl (by decide) (by show 1 ≤ 1; omega) (by omega) (by omega) ⟨rfl, rfl, rfl⟩
theorem jIH_114_7 : jmI (jm 114) 7 = (.aload_n 0, 1) := by rfl
theorem jIH_114_8 : jmI (jm 114) 8 = (.iload_n 2, 1) := by rfl
theorem jIH_114_9 : jmI (jm 114) 9 = (.iconst 1, 1) := by rfl
theorem jH_114_11 {xs : List Int} {d : Nat} {x1 x2 x3 : Int} (h_x1 : 0 ≤ x1 ∧ x1 ≤ 7) (h_x2 : (-2147483648) ≤ x2 ∧ x2 ≤ 0) (h_x3 : (-2147483648) ≤ x3 ∧ x3 ≤ 2147483647) : jT xs (d + 1) 114 12 0 [(0, (4, 0)), (1, (0, x1)), (2, (0, x2)), (3, (0, x3))] [] jpH_6 1 6 (fun k v hsN => k = 1 ∧ v = (0, 1) ∧ hsN = jpH_6 ++ []) := by
  refine jT_xaload_n (v := (4, 0)) (pcN := 1) jIH_114_0 rfl rfl rfl ?_
  refine jT_xiload_n (v := (0, x1)) (pcN := 2) jIH_114_1 rfl rfl rfl ?_
  refine jT_xbipush (k := 8) (pcN := 4) jIH_114_2 (by decide) rfl ?_
  refine jT_fR [0] 12 (y := 115) (pcN := 7) (dC := 0) (bc1 := 0) (bc2 := 0) (c1 := 1) (c2 := 6) (as := [(4, 0), (0, x1), (0, 8)]) (asC := [(4, 0), (0, x1), (0, 8)]) (LN := [(0, (4, 0)), (1, (0, x1)), (2, (0, x2)), (3, (0, x3))]) (stN := []) (hsC := [jgh]) (v := (9, 0)) (st2 := []) (jH_115_9 (d := 0) (by omega)) (by rfl) (by rfl) (by decide +kernel) (by rfl) (by rfl) (by omega) (by omega) (by omega) (by omega) rfl ?_
  refine jT_xaload_n (v := (4, 0)) (pcN := 8) jIH_114_7 rfl rfl rfl ?_
  refine jT_xiload_n (v := (0, x2)) (pcN := 9) jIH_114_8 rfl rfl rfl ?_
  refine jT_xiconst (k := 1) (pcN := 10) jIH_114_9 rfl ?_
  refine jT_adv 1 (pcN := 12) (LN := [(0, (4, 0)), (1, (0, x1)), (2, (0, x2)), (3, (0, x3))]) (stN := [(0, 1000000), (0, 1), (0, x2), (4, 0)]) (hsN := jpH_6) (c1 := 0) (s1 := 0) (c2 := 1) (s2 := 6) (by exact rfl) ?_ (by omega) (by omega)
  exact jT_fX [0] 12 (y := 116) (pcN := 15) (dC := 0) (bc1 := 1) (bc2 := 6) (as := [(4, 0), (0, x2), (0, 1), (0, 1000000)]) (asC := [(4, 0), (0, x2), (0, 1), (0, 1000000)]) (LN := [(0, (4, 0)), (1, (0, x1)), (2, (0, x2)), (3, (0, x3))]) (stN := []) (hsC := [jgh]) (e := 1) (jH_116_10 (d := 0) (by omega)) (by rfl) (by rfl) (by decide +kernel) (by rfl) (by rfl) (by omega) (by omega) (by omega) (by omega) ⟨rfl, ⟨rfl, rfl, rfl⟩⟩
theorem jH_326_12 {xs : List Int} {d : Nat} {x1 x2 x3 : Int} (h_x1 : 0 ≤ x1 ∧ x1 ≤ 7) (h_x2 : (-2147483648) ≤ x2 ∧ x2 ≤ 0) (h_x3 : (-2147483648) ≤ x3 ∧ x3 ≤ 2147483647) : jT xs (d + 2) 326 13 0 [(0, (4, 0)), (1, (0, x1)), (2, (0, x2)), (3, (0, x3)), (4, (4, 1))] [] jpH_14 1 6 (fun k v hsN => k = 0 ∧ v = (0, 2) ∧ hsN = jpH_14 ++ []) := by
  refine jT_xaload (v := (4, 1)) (pcN := 2) jIH_326_0 rfl rfl rfl ?_
  refine jT_xiconst (k := 0) (pcN := 3) jIH_326_2 rfl ?_
  refine jT_xaload_n (v := (4, 0)) (pcN := 4) jIH_326_3 rfl rfl rfl ?_
  refine jT_xiload_n (v := (0, x1)) (pcN := 5) jIH_326_4 rfl rfl rfl ?_
  refine jT_xiload_n (v := (0, x2)) (pcN := 6) jIH_326_5 rfl rfl rfl ?_
  refine jT_xiload_n (v := (0, x3)) (pcN := 7) jIH_326_6 rfl rfl rfl ?_
  exact jT_fX [0, 2, 3, 4, 5, 6, 7, 8, 9, 10, 11, 12] 13 (y := 114) (pcN := 10) (dC := 1) (bc1 := 1) (bc2 := 6) (as := [(4, 0), (0, x1), (0, x2), (0, x3)]) (asC := [(4, 0), (0, x1), (0, x2), (0, x3)]) (LN := [(0, (4, 0)), (1, (0, x1)), (2, (0, x2)), (3, (0, x3)), (4, (4, 1))]) (stN := [(0, 0), (4, 1)]) (hsC := jpH_6) (e := 1) (jH_114_11 (d := 0) (by omega) (by omega) (by omega)) (by rfl) (by rfl) (by decide +kernel) (by rfl) (by rfl) (by omega) (by omega) (by omega) (by omega) (show _ from ⟨rfl, rfl, rfl⟩)
theorem jH_188_13 {xs : List Int} {d : Nat} {x1 : Int} (h_x1 : 0 ≤ x1 ∧ x1 ≤ 7) : jT xs (d + 1) 188 0 0 [(0, (0, x1))] [] [] 0 0 (fun k v hsN => k = 0 ∧ v = (0, 1) ∧ hsN = [] ++ []) := by
  refine jT_xiload_n (v := (0, x1)) (pcN := 1) jIH_188_0 rfl rfl rfl ?_
  refine jT_xi2l (x := x1) (z := x1) (pcN := 2) jIH_188_1 rfl (jw_idd (by omega) (by omega)) rfl ?_
  refine jT_xlconst (z := 0) (pcN := 3) jIH_188_2 rfl rfl ?_
  refine jT_adv 1 (pcN := 6) (LN := [(0, (0, x1))]) (stN := [(1, 7), (1, 0), (1, x1)]) (hsN := []) (c1 := 0) (s1 := 0) (c2 := 0) (s2 := 0) (by exact rfl) ?_ (by omega) (by omega)
  refine jT_fR [] 0 (y := 189) (pcN := 9) (dC := 0) (bc1 := 0) (bc2 := 0) (c1 := 0) (c2 := 0) (as := [(1, x1), (1, 0), (1, 7)]) (asC := [(1, x1), (1, 0), (1, 7)]) (LN := [(0, (0, x1))]) (stN := []) (hsC := []) (v := (0, 1)) (st2 := [(0, 1)]) (jT_in_ok (d := 0) (v := x1) (lo := 0) (hi := 7) (by omega) (by omega) (by omega) (by omega) (by omega)) (by rfl) (by rfl) (by decide +kernel) (by rfl) (by rfl) (by omega) (by omega) (by omega) (by omega) rfl ?_
  exact jT_ret rfl (by decide) (by show 0 ≤ 0; omega) (by omega) (by omega) ⟨rfl, rfl, rfl⟩
theorem jH_191_14 {xs : List Int} {d : Nat} : jT xs d 191 1 0 [(0, (4, 0)), (1, (0, 1)), (2, (0, 1))] [] [jgh] 0 0 (fun k v hsN => k = 0 ∧ v = (0, 0) ∧ hsN = [jgh] ++ []) := by
  refine jT_advK 5 (pcN := 18) (LN := [(0, (4, 0)), (1, (0, 1)), (2, (0, 1))]) (stN := [(0, 0)]) (hsN := [jgh]) (c1 := 0) (s1 := 0) (c2 := 0) (s2 := 0) (by decide +kernel) ?_ (by omega) (by omega)
  exact jT_ret rfl (by decide) (by show 1 ≤ 1; omega) (by omega) (by omega) ⟨rfl, rfl, rfl⟩
theorem jH_190_15 {xs : List Int} {d : Nat} : jT xs (d + 1) 190 16 0 [(0, (4, 0)), (1, (0, 1))] [] jpH_21 0 0 (fun k v hsN => k = 0 ∧ v = (0, 0) ∧ hsN = jpH_21 ++ []) := by
  refine jT_advK 6 (pcN := 8) (LN := [(0, (4, 0)), (1, (0, 1))]) (stN := [(0, 1), (0, 1), (4, 0)]) (hsN := jpH_21) (c1 := 0) (s1 := 0) (c2 := 0) (s2 := 0) (by decide +kernel) ?_ (by omega) (by omega)
  refine jT_fR [0] 16 (y := 191) (pcN := 11) (dC := 0) (bc1 := 0) (bc2 := 0) (c1 := 0) (c2 := 0) (as := [(4, 0), (0, 1), (0, 1)]) (asC := [(4, 0), (0, 1), (0, 1)]) (LN := [(0, (4, 0)), (1, (0, 1))]) (stN := []) (hsC := [jgh]) (v := (0, 0)) (st2 := [(0, 0)]) (jH_191_14 (d := 0)) (by rfl) (by rfl) (by decide +kernel) (by rfl) (by rfl) (by omega) (by omega) (by omega) (by omega) rfl ?_
  exact jT_ret rfl (by decide) (by show 16 ≤ 16; omega) (by omega) (by omega) ⟨rfl, rfl, rfl⟩
def jzH_35 : JC := (14, [(0, 2), (4, 1), (4, 2), (4, 3), (4, 4), (0, 0), (4, 5), (0, 0), (4, 6), (4, 7), (1, 1), (4, 8), (0, 0), (4, 9), (0, 0), (0, 0), (0, 0), (0, 0), (0, 0), (0, 0), (0, 0), (4, 10), (4, 11), (4, 12), (4, 13), (4, 14), (4, 15), (0, 0)], [])
def jpH_36 : List JC := [jzH_35, jgh, jgh, jgh, jgh, jgh, jgh, jgh, jgh, jgh, jgh, jgh, jgh, jgh, jgh, jgh]
theorem jH_191_16 {xs : List Int} {d : Nat} : jT xs d 191 16 0 [(0, (4, 0)), (1, (0, 0)), (2, (0, 2))] [] jpH_21 0 0 (fun k v hsN => k = 0 ∧ v = (0, 1) ∧ hsN = jpH_36) := by
  refine jT_advK 9 (pcN := 18) (LN := [(0, (4, 0)), (1, (0, 0)), (2, (0, 2))]) (stN := [(0, 1)]) (hsN := jpH_36) (c1 := 0) (s1 := 0) (c2 := 0) (s2 := 0) (by decide +kernel) ?_ (by omega) (by omega)
  exact jT_ret rfl (by decide) (by show 16 ≤ 16; omega) (by omega) (by omega) ⟨rfl, rfl, rfl⟩
theorem jIH_187_11 : jmI (jm 187) 11 = (.aload_n 0, 1) := by rfl
theorem jIH_187_12 : jmI (jm 187) 12 = (.iload_n 2, 1) := by rfl
theorem jIH_187_13 : jmI (jm 187) 13 = (.i2l, 1) := by rfl
theorem jIH_187_14 : jmI (jm 187) 14 = (.lconst 1, 1) := by rfl
theorem jIH_187_21 : jmI (jm 187) 21 = (.ifCond .eq 19, 3) := by rfl
theorem jIH_187_40 : jmI (jm 187) 40 = (.iconst 0, 1) := by rfl
theorem jIH_187_41 : jmI (jm 187) 41 = (.iconst 2, 1) := by rfl
theorem jIH_187_45 : jmI (jm 187) 45 = (.ifCond .ne 17, 3) := by rfl
theorem jH_187_17 {xs : List Int} {d : Nat} {x1 x2 x3 : Int} (h_x1 : 0 ≤ x1 ∧ x1 ≤ 7) (h_x2 : (-2147483648) ≤ x2 ∧ x2 ≤ 0) (h_x3 : (-2147483648) ≤ x3 ∧ x3 ≤ 2147483647) : jT xs (d + 2) 187 16 0 [(0, (4, 0)), (1, (0, x1)), (2, (0, x2)), (3, (0, x3))] [] jpH_21 0 0 (fun k v hsN => k = 0 ∧ v = (0, 0) ∧ hsN = jpH_36) := by
  refine jT_xaload_n (v := (4, 0)) (pcN := 1) jIH_187_0 rfl rfl rfl ?_
  refine jT_xiload_n (v := (0, x1)) (pcN := 2) jIH_187_1 rfl rfl rfl ?_
  refine jT_fR [] 16 (y := 188) (pcN := 5) (dC := 1) (bc1 := 0) (bc2 := 0) (c1 := 0) (c2 := 0) (as := [(0, x1)]) (asC := [(0, x1)]) (LN := [(0, (4, 0)), (1, (0, x1)), (2, (0, x2)), (3, (0, x3))]) (stN := [(4, 0)]) (hsC := []) (v := (0, 1)) (st2 := [(0, 1), (4, 0)]) (jH_188_13 (d := 0) (by omega)) (by rfl) (by rfl) (by decide +kernel) (by rfl) (by rfl) (by omega) (by omega) (by omega) (by omega) rfl ?_
  refine jT_fR [0, 1, 2, 3, 4, 5, 6, 7, 8, 9, 10, 11, 12, 13, 14, 15] 16 (y := 190) (pcN := 8) (dC := 1) (bc1 := 0) (bc2 := 0) (c1 := 0) (c2 := 0) (as := [(4, 0), (0, 1)]) (asC := [(4, 0), (0, 1)]) (LN := [(0, (4, 0)), (1, (0, x1)), (2, (0, x2)), (3, (0, x3))]) (stN := []) (hsC := jpH_21) (v := (0, 0)) (st2 := [(0, 0)]) (jH_190_15 (d := 0)) (by rfl) (by rfl) (by decide +kernel) (by rfl) (by rfl) (by omega) (by omega) (by omega) (by omega) rfl ?_
  refine jT_xifF (t := 62) (pcN := 11) jIH_187_8 rfl (by decide +kernel) rfl rfl ?_
  refine jT_xaload_n (v := (4, 0)) (pcN := 12) jIH_187_11 rfl rfl rfl ?_
  refine jT_xiload_n (v := (0, x2)) (pcN := 13) jIH_187_12 rfl rfl rfl ?_
  refine jT_xi2l (x := x2) (z := x2) (pcN := 14) jIH_187_13 rfl (jw_idd (by omega) (by omega)) rfl ?_
  refine jT_xlconst (z := 1) (pcN := 15) jIH_187_14 rfl rfl ?_
  refine jT_adv 1 (pcN := 18) (LN := [(0, (4, 0)), (1, (0, x1)), (2, (0, x2)), (3, (0, x3))]) (stN := [(1, 1000000), (1, 1), (1, x2), (4, 0)]) (hsN := jpH_21) (c1 := 0) (s1 := 0) (c2 := 0) (s2 := 0) (by exact rfl) ?_ (by omega) (by omega)
  refine jT_fR [] 16 (y := 189) (pcN := 21) (dC := 0) (bc1 := 0) (bc2 := 0) (c1 := 0) (c2 := 0) (as := [(1, x2), (1, 1), (1, 1000000)]) (asC := [(1, x2), (1, 1), (1, 1000000)]) (LN := [(0, (4, 0)), (1, (0, x1)), (2, (0, x2)), (3, (0, x3))]) (stN := [(4, 0)]) (hsC := []) (v := (0, 0)) (st2 := [(0, 0), (4, 0)]) (jT_in_lo (d := 0) (v := x2) (lo := 1) (hi := 1000000) (by omega) (by omega) (by omega) (by omega)) (by rfl) (by rfl) (by decide +kernel) (by rfl) (by rfl) (by omega) (by omega) (by omega) (by omega) rfl ?_
  refine jT_xifT (pcN := 40) jIH_187_21 rfl (by decide +kernel) rfl ?_
  refine jT_xiconst (k := 0) (pcN := 41) jIH_187_40 rfl ?_
  refine jT_xiconst (k := 2) (pcN := 42) jIH_187_41 rfl ?_
  refine jT_fB [0, 1, 2, 3, 4, 5, 6, 7, 8, 9, 10, 11, 12, 13, 14, 15] 16 (y := 191) (pcN := 45) (dC := 0) (bc1 := 0) (bc2 := 0) (c1 := 0) (c2 := 0) (as := [(4, 0), (0, 0), (0, 2)]) (asC := [(4, 0), (0, 0), (0, 2)]) (LN := [(0, (4, 0)), (1, (0, x1)), (2, (0, x2)), (3, (0, x3))]) (stN := []) (hsC := jpH_21) (hsD := jpH_36) (v := (0, 1)) (st2 := [(0, 1)]) (hs2 := jpH_36) (jH_191_16 (d := 0)) (by rfl) (by rfl) (by decide +kernel) (by rfl) (by rfl) (by omega) (by omega) (by omega) (by omega) rfl (by decide +kernel) ?_
  refine jT_xifT (pcN := 62) jIH_187_45 rfl (by decide +kernel) rfl ?_
  refine jT_xiconst (k := 0) (pcN := 63) jIH_187_62 rfl ?_
  exact jT_ret rfl (by decide) (by show 16 ≤ 16; omega) (by omega) (by omega) ⟨rfl, rfl, rfl⟩
theorem jH_186_18 {xs : List Int} {d : Nat} : jT xs d 186 16 0 [(0, (4, 0))] [] jpH_36 0 0 (fun k v hsN => k = 0 ∧ v = (0, 2) ∧ hsN = jpH_36 ++ []) := by
  refine jT_advK 2 (pcN := 4) (LN := [(0, (4, 0))]) (stN := [(0, 2)]) (hsN := jpH_36) (c1 := 0) (s1 := 0) (c2 := 0) (s2 := 0) (by decide +kernel) ?_ (by omega) (by omega)
  exact jT_ret rfl (by decide) (by show 16 ≤ 16; omega) (by omega) (by omega) ⟨rfl, rfl, rfl⟩
theorem jIH_116_5 : jmI (jm 116) 5 = (.iload_n 1, 1) := by rfl
theorem jIH_116_6 : jmI (jm 116) 6 = (.iload_n 3, 1) := by rfl
theorem jIH_116_7 : jmI (jm 116) 7 = (.if_icmp .le 14, 3) := by rfl
theorem jH_116_19 {xs : List Int} {d : Nat} {x2 : Int} (h_x2 : 1 ≤ x2 ∧ x2 ≤ 1000000) : jT xs d 116 1 0 [(0, (4, 0)), (1, (0, x2)), (2, (0, 1)), (3, (0, 1000000))] [] [jgh] 0 0 (fun k v hsN => k = 0 ∧ v = (9, 0) ∧ hsN = [jgh] ++ []) := by
  refine jT_xiload_n (v := (0, x2)) (pcN := 1) jIH_116_0 rfl rfl rfl ?_
  refine jT_xiload_n (v := (0, 1)) (pcN := 2) jIH_116_1 rfl rfl rfl ?_
  refine jT_icF (a := x2) (b := 1) (t := 10) (by rfl) (by rfl) (by rfl) (jw_idd (by omega) (by omega)) (jw_idd (by omega) (by omega)) (by simp only [jcP] <;> omega) ?_
  refine jT_xiload_n (v := (0, x2)) (pcN := 6) jIH_116_5 rfl rfl rfl ?_
  refine jT_xiload_n (v := (0, 1000000)) (pcN := 7) jIH_116_6 rfl rfl rfl ?_
  refine jT_icT (a := x2) (b := 1000000) (t := 21) (by rfl) (by rfl) (by rfl) (jw_idd (by omega) (by omega)) (jw_idd (by omega) (by omega)) (by simp only [jcP] <;> omega) ?_
  exact jT_ret rfl (by decide) (by show 1 ≤ 1; omega) (by omega) (by omega) ⟨rfl, rfl, rfl⟩
theorem jH_116_20 {xs : List Int} {d : Nat} {x3 : Int} (h_x3 : (-2147483648) ≤ x3 ∧ x3 ≤ 0) : jT xs d 116 1 0 [(0, (4, 0)), (1, (0, x3)), (2, (0, 1)), (3, (0, 1000000))] [] [jgh] 1 6 (fun k v hsN => k = 1 ∧ v = (0, 1) ∧ hsN = [jgh] ++ []) := by
  refine jT_xiload_n (v := (0, x3)) (pcN := 1) jIH_116_0 rfl rfl rfl ?_
  refine jT_xiload_n (v := (0, 1)) (pcN := 2) jIH_116_1 rfl rfl rfl ?_
  refine jT_icT (a := x3) (b := 1) (t := 10) (by rfl) (by rfl) (by rfl) (jw_idd (by omega) (by omega)) (jw_idd (by omega) (by omega)) (by simp only [jcP] <;> omega) ?_
  exact jT_ret (c1 := 1) (s1 := 6) rfl (by decide) (by show 1 ≤ 1; omega) (by omega) (by omega) ⟨rfl, rfl, rfl⟩
theorem jIH_114_15 : jmI (jm 114) 15 = (.aload_n 0, 1) := by rfl
theorem jIH_114_16 : jmI (jm 114) 16 = (.iload_n 3, 1) := by rfl
theorem jIH_114_17 : jmI (jm 114) 17 = (.iconst 1, 1) := by rfl
theorem jH_114_21 {xs : List Int} {d : Nat} {x1 x2 x3 : Int} (h_x1 : 0 ≤ x1 ∧ x1 ≤ 7) (h_x2 : 1 ≤ x2 ∧ x2 ≤ 1000000) (h_x3 : (-2147483648) ≤ x3 ∧ x3 ≤ 0) : jT xs (d + 1) 114 12 0 [(0, (4, 0)), (1, (0, x1)), (2, (0, x2)), (3, (0, x3))] [] jpH_6 1 6 (fun k v hsN => k = 1 ∧ v = (0, 1) ∧ hsN = jpH_6 ++ []) := by
  refine jT_xaload_n (v := (4, 0)) (pcN := 1) jIH_114_0 rfl rfl rfl ?_
  refine jT_xiload_n (v := (0, x1)) (pcN := 2) jIH_114_1 rfl rfl rfl ?_
  refine jT_xbipush (k := 8) (pcN := 4) jIH_114_2 (by decide) rfl ?_
  refine jT_fR [0] 12 (y := 115) (pcN := 7) (dC := 0) (bc1 := 0) (bc2 := 0) (c1 := 1) (c2 := 6) (as := [(4, 0), (0, x1), (0, 8)]) (asC := [(4, 0), (0, x1), (0, 8)]) (LN := [(0, (4, 0)), (1, (0, x1)), (2, (0, x2)), (3, (0, x3))]) (stN := []) (hsC := [jgh]) (v := (9, 0)) (st2 := []) (jH_115_9 (d := 0) (by omega)) (by rfl) (by rfl) (by decide +kernel) (by rfl) (by rfl) (by omega) (by omega) (by omega) (by omega) rfl ?_
  refine jT_xaload_n (v := (4, 0)) (pcN := 8) jIH_114_7 rfl rfl rfl ?_
  refine jT_xiload_n (v := (0, x2)) (pcN := 9) jIH_114_8 rfl rfl rfl ?_
  refine jT_xiconst (k := 1) (pcN := 10) jIH_114_9 rfl ?_
  refine jT_adv 1 (pcN := 12) (LN := [(0, (4, 0)), (1, (0, x1)), (2, (0, x2)), (3, (0, x3))]) (stN := [(0, 1000000), (0, 1), (0, x2), (4, 0)]) (hsN := jpH_6) (c1 := 0) (s1 := 0) (c2 := 1) (s2 := 6) (by exact rfl) ?_ (by omega) (by omega)
  refine jT_fR [0] 12 (y := 116) (pcN := 15) (dC := 0) (bc1 := 0) (bc2 := 0) (c1 := 1) (c2 := 6) (as := [(4, 0), (0, x2), (0, 1), (0, 1000000)]) (asC := [(4, 0), (0, x2), (0, 1), (0, 1000000)]) (LN := [(0, (4, 0)), (1, (0, x1)), (2, (0, x2)), (3, (0, x3))]) (stN := []) (hsC := [jgh]) (v := (9, 0)) (st2 := []) (jH_116_19 (d := 0) (by omega)) (by rfl) (by rfl) (by decide +kernel) (by rfl) (by rfl) (by omega) (by omega) (by omega) (by omega) rfl ?_
  refine jT_xaload_n (v := (4, 0)) (pcN := 16) jIH_114_15 rfl rfl rfl ?_
  refine jT_xiload_n (v := (0, x3)) (pcN := 17) jIH_114_16 rfl rfl rfl ?_
  refine jT_xiconst (k := 1) (pcN := 18) jIH_114_17 rfl ?_
  refine jT_adv 1 (pcN := 20) (LN := [(0, (4, 0)), (1, (0, x1)), (2, (0, x2)), (3, (0, x3))]) (stN := [(0, 1000000), (0, 1), (0, x3), (4, 0)]) (hsN := jpH_6) (c1 := 0) (s1 := 0) (c2 := 1) (s2 := 6) (by exact rfl) ?_ (by omega) (by omega)
  exact jT_fX [0] 12 (y := 116) (pcN := 23) (dC := 0) (bc1 := 1) (bc2 := 6) (as := [(4, 0), (0, x3), (0, 1), (0, 1000000)]) (asC := [(4, 0), (0, x3), (0, 1), (0, 1000000)]) (LN := [(0, (4, 0)), (1, (0, x1)), (2, (0, x2)), (3, (0, x3))]) (stN := []) (hsC := [jgh]) (e := 1) (jH_116_20 (d := 0) (by omega)) (by rfl) (by rfl) (by decide +kernel) (by rfl) (by rfl) (by omega) (by omega) (by omega) (by omega) ⟨rfl, ⟨rfl, rfl, rfl⟩⟩
theorem jH_326_22 {xs : List Int} {d : Nat} {x1 x2 x3 : Int} (h_x1 : 0 ≤ x1 ∧ x1 ≤ 7) (h_x2 : 1 ≤ x2 ∧ x2 ≤ 1000000) (h_x3 : (-2147483648) ≤ x3 ∧ x3 ≤ 0) : jT xs (d + 2) 326 13 0 [(0, (4, 0)), (1, (0, x1)), (2, (0, x2)), (3, (0, x3)), (4, (4, 1))] [] jpH_14 1 6 (fun k v hsN => k = 0 ∧ v = (0, 2) ∧ hsN = jpH_14 ++ []) := by
  refine jT_xaload (v := (4, 1)) (pcN := 2) jIH_326_0 rfl rfl rfl ?_
  refine jT_xiconst (k := 0) (pcN := 3) jIH_326_2 rfl ?_
  refine jT_xaload_n (v := (4, 0)) (pcN := 4) jIH_326_3 rfl rfl rfl ?_
  refine jT_xiload_n (v := (0, x1)) (pcN := 5) jIH_326_4 rfl rfl rfl ?_
  refine jT_xiload_n (v := (0, x2)) (pcN := 6) jIH_326_5 rfl rfl rfl ?_
  refine jT_xiload_n (v := (0, x3)) (pcN := 7) jIH_326_6 rfl rfl rfl ?_
  exact jT_fX [0, 2, 3, 4, 5, 6, 7, 8, 9, 10, 11, 12] 13 (y := 114) (pcN := 10) (dC := 1) (bc1 := 1) (bc2 := 6) (as := [(4, 0), (0, x1), (0, x2), (0, x3)]) (asC := [(4, 0), (0, x1), (0, x2), (0, x3)]) (LN := [(0, (4, 0)), (1, (0, x1)), (2, (0, x2)), (3, (0, x3)), (4, (4, 1))]) (stN := [(0, 0), (4, 1)]) (hsC := jpH_6) (e := 1) (jH_114_21 (d := 0) (by omega) (by omega) (by omega)) (by rfl) (by rfl) (by decide +kernel) (by rfl) (by rfl) (by omega) (by omega) (by omega) (by omega) (show _ from ⟨rfl, rfl, rfl⟩)
theorem jIH_187_24 : jmI (jm 187) 24 = (.iload_n 3, 1) := by rfl
theorem jIH_187_25 : jmI (jm 187) 25 = (.i2l, 1) := by rfl
theorem jIH_187_26 : jmI (jm 187) 26 = (.lconst 1, 1) := by rfl
theorem jIH_187_33 : jmI (jm 187) 33 = (.ifCond .eq 7, 3) := by rfl
theorem jH_187_23 {xs : List Int} {d : Nat} {x1 x2 x3 : Int} (h_x1 : 0 ≤ x1 ∧ x1 ≤ 7) (h_x2 : 1 ≤ x2 ∧ x2 ≤ 1000000) (h_x3 : (-2147483648) ≤ x3 ∧ x3 ≤ 0) : jT xs (d + 2) 187 16 0 [(0, (4, 0)), (1, (0, x1)), (2, (0, x2)), (3, (0, x3))] [] jpH_21 0 0 (fun k v hsN => k = 0 ∧ v = (0, 0) ∧ hsN = jpH_36) := by
  refine jT_xaload_n (v := (4, 0)) (pcN := 1) jIH_187_0 rfl rfl rfl ?_
  refine jT_xiload_n (v := (0, x1)) (pcN := 2) jIH_187_1 rfl rfl rfl ?_
  refine jT_fR [] 16 (y := 188) (pcN := 5) (dC := 1) (bc1 := 0) (bc2 := 0) (c1 := 0) (c2 := 0) (as := [(0, x1)]) (asC := [(0, x1)]) (LN := [(0, (4, 0)), (1, (0, x1)), (2, (0, x2)), (3, (0, x3))]) (stN := [(4, 0)]) (hsC := []) (v := (0, 1)) (st2 := [(0, 1), (4, 0)]) (jH_188_13 (d := 0) (by omega)) (by rfl) (by rfl) (by decide +kernel) (by rfl) (by rfl) (by omega) (by omega) (by omega) (by omega) rfl ?_
  refine jT_fR [0, 1, 2, 3, 4, 5, 6, 7, 8, 9, 10, 11, 12, 13, 14, 15] 16 (y := 190) (pcN := 8) (dC := 1) (bc1 := 0) (bc2 := 0) (c1 := 0) (c2 := 0) (as := [(4, 0), (0, 1)]) (asC := [(4, 0), (0, 1)]) (LN := [(0, (4, 0)), (1, (0, x1)), (2, (0, x2)), (3, (0, x3))]) (stN := []) (hsC := jpH_21) (v := (0, 0)) (st2 := [(0, 0)]) (jH_190_15 (d := 0)) (by rfl) (by rfl) (by decide +kernel) (by rfl) (by rfl) (by omega) (by omega) (by omega) (by omega) rfl ?_
  refine jT_xifF (t := 62) (pcN := 11) jIH_187_8 rfl (by decide +kernel) rfl rfl ?_
  refine jT_xaload_n (v := (4, 0)) (pcN := 12) jIH_187_11 rfl rfl rfl ?_
  refine jT_xiload_n (v := (0, x2)) (pcN := 13) jIH_187_12 rfl rfl rfl ?_
  refine jT_xi2l (x := x2) (z := x2) (pcN := 14) jIH_187_13 rfl (jw_idd (by omega) (by omega)) rfl ?_
  refine jT_xlconst (z := 1) (pcN := 15) jIH_187_14 rfl rfl ?_
  refine jT_adv 1 (pcN := 18) (LN := [(0, (4, 0)), (1, (0, x1)), (2, (0, x2)), (3, (0, x3))]) (stN := [(1, 1000000), (1, 1), (1, x2), (4, 0)]) (hsN := jpH_21) (c1 := 0) (s1 := 0) (c2 := 0) (s2 := 0) (by exact rfl) ?_ (by omega) (by omega)
  refine jT_fR [] 16 (y := 189) (pcN := 21) (dC := 0) (bc1 := 0) (bc2 := 0) (c1 := 0) (c2 := 0) (as := [(1, x2), (1, 1), (1, 1000000)]) (asC := [(1, x2), (1, 1), (1, 1000000)]) (LN := [(0, (4, 0)), (1, (0, x1)), (2, (0, x2)), (3, (0, x3))]) (stN := [(4, 0)]) (hsC := []) (v := (0, 1)) (st2 := [(0, 1), (4, 0)]) (jT_in_ok (d := 0) (v := x2) (lo := 1) (hi := 1000000) (by omega) (by omega) (by omega) (by omega) (by omega)) (by rfl) (by rfl) (by decide +kernel) (by rfl) (by rfl) (by omega) (by omega) (by omega) (by omega) rfl ?_
  refine jT_xifF (t := 40) (pcN := 24) jIH_187_21 rfl (by decide +kernel) rfl rfl ?_
  refine jT_xiload_n (v := (0, x3)) (pcN := 25) jIH_187_24 rfl rfl rfl ?_
  refine jT_xi2l (x := x3) (z := x3) (pcN := 26) jIH_187_25 rfl (jw_idd (by omega) (by omega)) rfl ?_
  refine jT_xlconst (z := 1) (pcN := 27) jIH_187_26 rfl rfl ?_
  refine jT_adv 1 (pcN := 30) (LN := [(0, (4, 0)), (1, (0, x1)), (2, (0, x2)), (3, (0, x3))]) (stN := [(1, 1000000), (1, 1), (1, x3), (4, 0)]) (hsN := jpH_21) (c1 := 0) (s1 := 0) (c2 := 0) (s2 := 0) (by exact rfl) ?_ (by omega) (by omega)
  refine jT_fR [] 16 (y := 189) (pcN := 33) (dC := 0) (bc1 := 0) (bc2 := 0) (c1 := 0) (c2 := 0) (as := [(1, x3), (1, 1), (1, 1000000)]) (asC := [(1, x3), (1, 1), (1, 1000000)]) (LN := [(0, (4, 0)), (1, (0, x1)), (2, (0, x2)), (3, (0, x3))]) (stN := [(4, 0)]) (hsC := []) (v := (0, 0)) (st2 := [(0, 0), (4, 0)]) (jT_in_lo (d := 0) (v := x3) (lo := 1) (hi := 1000000) (by omega) (by omega) (by omega) (by omega)) (by rfl) (by rfl) (by decide +kernel) (by rfl) (by rfl) (by omega) (by omega) (by omega) (by omega) rfl ?_
  refine jT_xifT (pcN := 40) jIH_187_33 rfl (by decide +kernel) rfl ?_
  refine jT_xiconst (k := 0) (pcN := 41) jIH_187_40 rfl ?_
  refine jT_xiconst (k := 2) (pcN := 42) jIH_187_41 rfl ?_
  refine jT_fB [0, 1, 2, 3, 4, 5, 6, 7, 8, 9, 10, 11, 12, 13, 14, 15] 16 (y := 191) (pcN := 45) (dC := 0) (bc1 := 0) (bc2 := 0) (c1 := 0) (c2 := 0) (as := [(4, 0), (0, 0), (0, 2)]) (asC := [(4, 0), (0, 0), (0, 2)]) (LN := [(0, (4, 0)), (1, (0, x1)), (2, (0, x2)), (3, (0, x3))]) (stN := []) (hsC := jpH_21) (hsD := jpH_36) (v := (0, 1)) (st2 := [(0, 1)]) (hs2 := jpH_36) (jH_191_16 (d := 0)) (by rfl) (by rfl) (by decide +kernel) (by rfl) (by rfl) (by omega) (by omega) (by omega) (by omega) rfl (by decide +kernel) ?_
  refine jT_xifT (pcN := 62) jIH_187_45 rfl (by decide +kernel) rfl ?_
  refine jT_xiconst (k := 0) (pcN := 63) jIH_187_62 rfl ?_
  exact jT_ret rfl (by decide) (by show 16 ≤ 16; omega) (by omega) (by omega) ⟨rfl, rfl, rfl⟩
theorem jH_116_24 {xs : List Int} {d : Nat} {x3 : Int} (h_x3 : 1 ≤ x3 ∧ x3 ≤ 1000000) : jT xs d 116 1 0 [(0, (4, 0)), (1, (0, x3)), (2, (0, 1)), (3, (0, 1000000))] [] [jgh] 0 0 (fun k v hsN => k = 0 ∧ v = (9, 0) ∧ hsN = [jgh] ++ []) := by
  refine jT_xiload_n (v := (0, x3)) (pcN := 1) jIH_116_0 rfl rfl rfl ?_
  refine jT_xiload_n (v := (0, 1)) (pcN := 2) jIH_116_1 rfl rfl rfl ?_
  refine jT_icF (a := x3) (b := 1) (t := 10) (by rfl) (by rfl) (by rfl) (jw_idd (by omega) (by omega)) (jw_idd (by omega) (by omega)) (by simp only [jcP] <;> omega) ?_
  refine jT_xiload_n (v := (0, x3)) (pcN := 6) jIH_116_5 rfl rfl rfl ?_
  refine jT_xiload_n (v := (0, 1000000)) (pcN := 7) jIH_116_6 rfl rfl rfl ?_
  refine jT_icT (a := x3) (b := 1000000) (t := 21) (by rfl) (by rfl) (by rfl) (jw_idd (by omega) (by omega)) (jw_idd (by omega) (by omega)) (by simp only [jcP] <;> omega) ?_
  exact jT_ret rfl (by decide) (by show 1 ≤ 1; omega) (by omega) (by omega) ⟨rfl, rfl, rfl⟩
theorem jIH_14_0 : jmI (jm 14) 0 = (.lconst 1, 1) := by rfl
theorem jIH_14_1 : jmI (jm 14) 1 = (.iload_n 0, 1) := by rfl
theorem jIH_14_2 : jmI (jm 14) 2 = (.i2l, 1) := by rfl
theorem jIH_14_3 : jmI (jm 14) 3 = (.iload_n 1, 1) := by rfl
theorem jIH_14_4 : jmI (jm 14) 4 = (.i2l, 1) := by rfl
theorem jIH_14_11 : jmI (jm 14) 11 = (.lstore_n 2, 1) := by rfl
theorem jIH_14_12 : jmI (jm 14) 12 = (.iload_n 0, 1) := by rfl
theorem jIH_14_13 : jmI (jm 14) 13 = (.i2l, 1) := by rfl
theorem jIH_14_14 : jmI (jm 14) 14 = (.lload_n 2, 1) := by rfl
theorem jIH_14_16 : jmI (jm 14) 16 = (.lstore 4, 2) := by rfl
theorem jIH_14_18 : jmI (jm 14) 18 = (.iload_n 1, 1) := by rfl
theorem jIH_14_19 : jmI (jm 14) 19 = (.i2l, 1) := by rfl
theorem jIH_14_20 : jmI (jm 14) 20 = (.lload_n 2, 1) := by rfl
theorem jIH_14_22 : jmI (jm 14) 22 = (.lstore 6, 2) := by rfl
theorem jIH_14_24 : jmI (jm 14) 24 = (.bipush 6, 2) := by rfl
theorem jIH_14_28 : jmI (jm 14) 28 = (.astore 8, 2) := by rfl
theorem jIH_14_30 : jmI (jm 14) 30 = (.iconst 0, 1) := by rfl
theorem jIH_14_31 : jmI (jm 14) 31 = (.istore 9, 2) := by rfl
theorem jIH_14_33 : jmI (jm 14) 33 = (.iload 9, 2) := by rfl
theorem jIH_14_35 : jmI (jm 14) 35 = (.bipush 6, 2) := by rfl
theorem jIH_14_37 : jmI (jm 14) 37 = (.if_icmp .ge 127, 3) := by rfl
theorem jIH_14_40 : jmI (jm 14) 40 = (.iconst 0, 1) := by rfl
theorem jIH_14_41 : jmI (jm 14) 41 = (.istore 10, 2) := by rfl
theorem jIH_14_43 : jmI (jm 14) 43 = (.iload 10, 2) := by rfl
theorem jIH_14_45 : jmI (jm 14) 45 = (.bipush 32, 2) := by rfl
theorem jIH_14_47 : jmI (jm 14) 47 = (.if_icmp .ge 52, 3) := by rfl
theorem jIH_14_50 : jmI (jm 14) 50 = (.lload 4, 2) := by rfl
theorem jIH_14_52 : jmI (jm 14) 52 = (.lconst 0, 1) := by rfl
theorem jIH_14_54 : jmI (jm 14) 54 = (.ifCond .le 45, 3) := by rfl
theorem jIH_14_57 : jmI (jm 14) 57 = (.lload 4, 2) := by rfl
theorem jIH_14_62 : jmI (jm 14) 62 = (.iload 9, 2) := by rfl
theorem jIH_14_65 : jmI (jm 14) 65 = (.i2l, 1) := by rfl
theorem jIH_14_67 : jmI (jm 14) 67 = (.lconst 0, 1) := by rfl
theorem jIH_14_69 : jmI (jm 14) 69 = (.ifCond .ne 30, 3) := by rfl
theorem jIH_14_72 : jmI (jm 14) 72 = (.lload 4, 2) := by rfl
theorem jIH_14_77 : jmI (jm 14) 77 = (.iload 9, 2) := by rfl
theorem jIH_14_80 : jmI (jm 14) 80 = (.i2l, 1) := by rfl
theorem jIH_14_82 : jmI (jm 14) 82 = (.lstore 4, 2) := by rfl
theorem jIH_14_84 : jmI (jm 14) 84 = (.aload 8, 2) := by rfl
theorem jIH_14_86 : jmI (jm 14) 86 = (.iload 9, 2) := by rfl
theorem jIH_14_89 : jmI (jm 14) 89 = (.laload, 1) := by rfl
theorem jIH_14_90 : jmI (jm 14) 90 = (.lconst 1, 1) := by rfl
theorem jIH_14_91 : jmI (jm 14) 91 = (.ladd, 1) := by rfl
theorem jIH_14_93 : jmI (jm 14) 93 = (.iinc 10 1, 3) := by rfl
theorem jIH_14_96 : jmI (jm 14) 96 = (.goto (-53), 3) := by rfl
theorem jHl_fr_25 {xs : List Int} {d b1 b2 : Nat} {Q : Nat → JV → List JC → Prop} {y6 e1 e2 e3 e4 e5 : Int} : ∀ (n : Nat) (k u e0 : Int), 0 ≤ k → k + (n : Int) ≤ 32 → 1 ≤ u → u ≤ 1000000 → u < jp2 n → jT xs d 14 0 99 [(4, (1, jsu 2 n u)), (6, (1, y6)), (8, (4, 0)), (9, (0, 0))] [] [(101, [], [e0 + jsc 2 n u, e1, e2, e3, e4, e5])] b1 b2 Q → jT xs d 14 0 43 [(10, (0, k)), (4, (1, u)), (6, (1, y6)), (8, (4, 0)), (9, (0, 0))] [] [(101, [], [e0, e1, e2, e3, e4, e5])] b1 b2 Q := by
  intro n
  induction n with
  | zero =>
    intro k u e0 hk hkn h1 h2 hu h
    exact absurd (show u < 1 from hu) (by omega)
  | succ n ih =>
    intro k u e0 hk hkn h1 h2 hu h
    have h_u : 1 ≤ u ∧ u ≤ 1000000 := ⟨h1, h2⟩
    have h_k : 0 ≤ k ∧ k ≤ 31 := by omega
    rcases (show (0 ≤ (u.tmod 2) - 1) ∨ ((u.tmod 2) - 1 < 0) by omega) with g_0 | g_0
    · refine jT_xiload (v := (0, k)) (pcN := 45) jIH_14_43 rfl rfl rfl ?_
      refine jT_xbipush (k := 32) (pcN := 47) jIH_14_45 (by decide) rfl ?_
      refine jT_icF (a := k) (b := 32) (t := 99) (by rfl) (by rfl) (by rfl) (jw_idd (by omega) (by omega)) (jw_idd (by omega) (by omega)) (by simp only [jcP] <;> omega) ?_
      refine jT_xlload (v := (1, u)) (pcN := 52) jIH_14_50 rfl rfl rfl ?_
      refine jT_xlconst (z := 0) (pcN := 53) jIH_14_52 rfl rfl ?_
      refine jT_lcmp (a := u) (b := 0) (z := 1) (by rfl) (by rfl) (jwl_idd (by omega) (by omega)) (jwl_idd (by omega) (by omega)) (by rw [decide_eq_true (show (0 : Int) < u by omega)]; rfl) ?_
      refine jT_xifF (t := 99) (pcN := 57) jIH_14_54 rfl (by decide +kernel) rfl rfl ?_
      refine jT_xlload (v := (1, u)) (pcN := 59) jIH_14_57 rfl rfl rfl ?_
      refine jT_adv 1 (pcN := 62) (LN := [(10, (0, k)), (4, (1, u)), (6, (1, y6)), (8, (4, 0)), (9, (0, 0))]) (stN := [(5, 3), (1, u)]) (hsN := [(101, [], [e0, e1, e2, e3, e4, e5])]) (c1 := 0) (s1 := 0) (c2 := b1) (s2 := b2) (by exact rfl) ?_ (by omega) (by omega)
      refine jT_xiload (v := (0, 0)) (pcN := 64) jIH_14_62 rfl rfl rfl ?_
      refine jT_adv 1 (pcN := 65) (LN := [(10, (0, k)), (4, (1, u)), (6, (1, y6)), (8, (4, 0)), (9, (0, 0))]) (stN := [(0, 2), (1, u)]) (hsN := [(101, [], [e0, e1, e2, e3, e4, e5])]) (c1 := 0) (s1 := 0) (c2 := b1) (s2 := b2) (by exact rfl) ?_ (by omega) (by omega)
      refine jT_xi2l (x := 2) (z := 2) (pcN := 66) jIH_14_65 rfl (by decide +kernel) rfl ?_
      refine jT_lrem (a := u) (b := 2) (by rfl) (by rfl) (jwl_idd (by omega) (by omega)) (jwl_idd (by omega) (by omega)) (by omega) ?_
      have hb_q1 := jtm_b (x := u) (y := 2) (by omega) (by omega)
      have hb_q1 : 0 ≤ u.tmod 2 ∧ u.tmod 2 ≤ 1 := ⟨hb_q1.1, by omega⟩
      generalize hq_q1 : u.tmod 2 = q1 at hb_q1 g_0 ⊢
      refine jT_xlconst (z := 0) (pcN := 68) jIH_14_67 rfl rfl ?_
      refine jT_lcmp (a := q1) (b := 0) (z := 1) (by rfl) (by rfl) (jwl_idd (by omega) (by omega)) (jwl_idd (by omega) (by omega)) (by rw [decide_eq_true (show (0 : Int) < q1 by omega)]; rfl) ?_
      refine jT_xifT (pcN := 99) jIH_14_69 rfl (by decide +kernel) rfl ?_
      refine jT_loc (LN := [(4, (1, u)), (6, (1, y6)), (8, (4, 0)), (9, (0, 0))]) (by show List.Nodup [4, 6, 8, 9]; decide) (by intro q hq; simp only [List.mem_cons, List.not_mem_nil, or_false] at hq; rcases hq with rfl | rfl | rfl | rfl <;> rfl) ?_
      rw [jsu_0 (by omega), jsc_0 (by omega), Int.add_zero] at h
      exact h
    · refine jT_xiload (v := (0, k)) (pcN := 45) jIH_14_43 rfl rfl rfl ?_
      refine jT_xbipush (k := 32) (pcN := 47) jIH_14_45 (by decide) rfl ?_
      refine jT_icF (a := k) (b := 32) (t := 99) (by rfl) (by rfl) (by rfl) (jw_idd (by omega) (by omega)) (jw_idd (by omega) (by omega)) (by simp only [jcP] <;> omega) ?_
      refine jT_xlload (v := (1, u)) (pcN := 52) jIH_14_50 rfl rfl rfl ?_
      refine jT_xlconst (z := 0) (pcN := 53) jIH_14_52 rfl rfl ?_
      refine jT_lcmp (a := u) (b := 0) (z := 1) (by rfl) (by rfl) (jwl_idd (by omega) (by omega)) (jwl_idd (by omega) (by omega)) (by rw [decide_eq_true (show (0 : Int) < u by omega)]; rfl) ?_
      refine jT_xifF (t := 99) (pcN := 57) jIH_14_54 rfl (by decide +kernel) rfl rfl ?_
      refine jT_xlload (v := (1, u)) (pcN := 59) jIH_14_57 rfl rfl rfl ?_
      refine jT_adv 1 (pcN := 62) (LN := [(10, (0, k)), (4, (1, u)), (6, (1, y6)), (8, (4, 0)), (9, (0, 0))]) (stN := [(5, 3), (1, u)]) (hsN := [(101, [], [e0, e1, e2, e3, e4, e5])]) (c1 := 0) (s1 := 0) (c2 := b1) (s2 := b2) (by exact rfl) ?_ (by omega) (by omega)
      refine jT_xiload (v := (0, 0)) (pcN := 64) jIH_14_62 rfl rfl rfl ?_
      refine jT_adv 1 (pcN := 65) (LN := [(10, (0, k)), (4, (1, u)), (6, (1, y6)), (8, (4, 0)), (9, (0, 0))]) (stN := [(0, 2), (1, u)]) (hsN := [(101, [], [e0, e1, e2, e3, e4, e5])]) (c1 := 0) (s1 := 0) (c2 := b1) (s2 := b2) (by exact rfl) ?_ (by omega) (by omega)
      refine jT_xi2l (x := 2) (z := 2) (pcN := 66) jIH_14_65 rfl (by decide +kernel) rfl ?_
      refine jT_lrem (a := u) (b := 2) (by rfl) (by rfl) (jwl_idd (by omega) (by omega)) (jwl_idd (by omega) (by omega)) (by omega) ?_
      have hb_q1 := jtm_b (x := u) (y := 2) (by omega) (by omega)
      have hb_q1 : 0 ≤ u.tmod 2 ∧ u.tmod 2 ≤ 1 := ⟨hb_q1.1, by omega⟩
      generalize hq_q1 : u.tmod 2 = q1 at hb_q1 g_0 ⊢
      refine jT_xlconst (z := 0) (pcN := 68) jIH_14_67 rfl rfl ?_
      refine jT_lcmp (a := q1) (b := 0) (z := 0) (by rfl) (by rfl) (jwl_idd (by omega) (by omega)) (jwl_idd (by omega) (by omega)) (by rw [decide_eq_false (show ¬ ((0 : Int) < q1) by omega), decide_eq_true (show (q1 : Int) = 0 by omega)]; rfl) ?_
      refine jT_xifF (t := 99) (pcN := 72) jIH_14_69 rfl (by decide +kernel) rfl rfl ?_
      refine jT_xlload (v := (1, u)) (pcN := 74) jIH_14_72 rfl rfl rfl ?_
      refine jT_adv 1 (pcN := 77) (LN := [(10, (0, k)), (4, (1, u)), (6, (1, y6)), (8, (4, 0)), (9, (0, 0))]) (stN := [(5, 3), (1, u)]) (hsN := [(101, [], [e0, e1, e2, e3, e4, e5])]) (c1 := 0) (s1 := 0) (c2 := b1) (s2 := b2) (by exact rfl) ?_ (by omega) (by omega)
      refine jT_xiload (v := (0, 0)) (pcN := 79) jIH_14_77 rfl rfl rfl ?_
      refine jT_adv 1 (pcN := 80) (LN := [(10, (0, k)), (4, (1, u)), (6, (1, y6)), (8, (4, 0)), (9, (0, 0))]) (stN := [(0, 2), (1, u)]) (hsN := [(101, [], [e0, e1, e2, e3, e4, e5])]) (c1 := 0) (s1 := 0) (c2 := b1) (s2 := b2) (by exact rfl) ?_ (by omega) (by omega)
      refine jT_xi2l (x := 2) (z := 2) (pcN := 81) jIH_14_80 rfl (by decide +kernel) rfl ?_
      refine jT_ldiv (a := u) (b := 2) (by rfl) (by rfl) (jwl_idd (by omega) (by omega)) (jwl_idd (by omega) (by omega)) (by omega) ?_
      have hb_q2 := jtd_b0 (x := u) (y := 2) (by omega) (by omega)
      have hb_q2 : 0 ≤ u.tdiv 2 ∧ u.tdiv 2 ≤ 1000000 := ⟨hb_q2.1, by omega⟩
      generalize hq_q2 : u.tdiv 2 = q2 at hb_q2 ⊢
      refine jT_xlstore (v := (1, q2)) (LN := [(4, (1, q2)), (10, (0, k)), (6, (1, y6)), (8, (4, 0)), (9, (0, 0))]) (pcN := 84) jIH_14_82 rfl rfl rfl rfl ?_
      refine jT_xaload (v := (4, 0)) (pcN := 86) jIH_14_84 rfl rfl rfl ?_
      refine jT_xiload (v := (0, 0)) (pcN := 88) jIH_14_86 rfl rfl rfl ?_
      refine jT_adv 1 (pcN := 89) (LN := [(4, (1, q2)), (10, (0, k)), (6, (1, y6)), (8, (4, 0)), (9, (0, 0))]) (stN := [(0, 0), (4, 0), (0, 0), (4, 0)]) (hsN := [(101, [], [e0, e1, e2, e3, e4, e5])]) (c1 := 0) (s1 := 0) (c2 := b1) (s2 := b2) (by exact rfl) ?_ (by omega) (by omega)
      refine jT_lald (x := e0) (a := 0) (j := 0) (fs := []) (X := [e0, e1, e2, e3, e4, e5]) jIH_14_89 rfl rfl rfl rfl ?_
      refine jT_eq (LN := [(4, (1, q2)), (10, (0, k)), (6, (1, y6)), (8, (4, 0)), (9, (0, 0))]) (stN := [(1, e0), (0, 0), (4, 0)]) (hsN := [(101, [], [e0, e1, e2, e3, e4, e5])]) rfl rfl rfl ?_
      refine jT_xlconst (z := 1) (pcN := 91) jIH_14_90 rfl rfl ?_
      refine jT_xladd (x := e0) (y := 1) (z := e0 + 1) (pcN := 92) jIH_14_91 rfl (rfl) rfl ?_
      refine jT_adv 1 (pcN := 93) (LN := [(4, (1, q2)), (10, (0, k)), (6, (1, y6)), (8, (4, 0)), (9, (0, 0))]) (stN := []) (hsN := [(101, [], [e0 + 1, e1, e2, e3, e4, e5])]) (c1 := 0) (s1 := 0) (c2 := b1) (s2 := b2) (by exact rfl) ?_ (by omega) (by omega)
      refine jT_xiinc (x := k) (z := k + 1) (LN := [(10, (0, k + 1)), (4, (1, q2)), (6, (1, y6)), (8, (4, 0)), (9, (0, 0))]) (pcN := 96) jIH_14_93 rfl rfl (rfl) rfl rfl ?_
      refine jT_xgoto (pcN := 43) jIH_14_96 rfl ?_
      refine jT_loc (LN := [(10, (0, k + 1)), (4, (1, q2)), (6, (1, y6)), (8, (4, 0)), (9, (0, 0))]) (by show List.Nodup [10, 4, 6, 8, 9]; decide) (by intro q hq; simp only [List.mem_cons, List.not_mem_nil, or_false] at hq; rcases hq with rfl | rfl | rfl | rfl | rfl <;> rfl) ?_
      have hs := jst_s (P := 2) (u := u) (n := n) (by decide) h1 hu (by omega)
      rw [hq_q2] at hs
      rw [jsu_1 (by omega), jsc_1 (by omega), hq_q2, show e0 + (jsc 2 n q2 + 1) = e0 + 1 + jsc 2 n q2 by omega] at h
      exact ih (k + 1) q2 (e0 + 1) (by omega) (by omega) (by omega) (by omega) hs.2.1 h
theorem jIH_14_99 : jmI (jm 14) 99 = (.iconst 0, 1) := by rfl
theorem jIH_14_100 : jmI (jm 14) 100 = (.istore 10, 2) := by rfl
theorem jIH_14_102 : jmI (jm 14) 102 = (.iload 10, 2) := by rfl
theorem jIH_14_104 : jmI (jm 14) 104 = (.bipush 32, 2) := by rfl
theorem jIH_14_106 : jmI (jm 14) 106 = (.if_icmp .ge 52, 3) := by rfl
theorem jIH_14_109 : jmI (jm 14) 109 = (.lload 6, 2) := by rfl
theorem jIH_14_111 : jmI (jm 14) 111 = (.lconst 0, 1) := by rfl
theorem jIH_14_113 : jmI (jm 14) 113 = (.ifCond .le 45, 3) := by rfl
theorem jIH_14_116 : jmI (jm 14) 116 = (.lload 6, 2) := by rfl
theorem jIH_14_121 : jmI (jm 14) 121 = (.iload 9, 2) := by rfl
theorem jIH_14_124 : jmI (jm 14) 124 = (.i2l, 1) := by rfl
theorem jIH_14_126 : jmI (jm 14) 126 = (.lconst 0, 1) := by rfl
theorem jIH_14_128 : jmI (jm 14) 128 = (.ifCond .ne 30, 3) := by rfl
theorem jIH_14_131 : jmI (jm 14) 131 = (.lload 6, 2) := by rfl
theorem jIH_14_136 : jmI (jm 14) 136 = (.iload 9, 2) := by rfl
theorem jIH_14_139 : jmI (jm 14) 139 = (.i2l, 1) := by rfl
theorem jIH_14_141 : jmI (jm 14) 141 = (.lstore 6, 2) := by rfl
theorem jIH_14_143 : jmI (jm 14) 143 = (.aload 8, 2) := by rfl
theorem jIH_14_145 : jmI (jm 14) 145 = (.iload 9, 2) := by rfl
theorem jIH_14_148 : jmI (jm 14) 148 = (.laload, 1) := by rfl
theorem jIH_14_149 : jmI (jm 14) 149 = (.lconst 1, 1) := by rfl
theorem jIH_14_150 : jmI (jm 14) 150 = (.lsub, 1) := by rfl
theorem jIH_14_152 : jmI (jm 14) 152 = (.iinc 10 1, 3) := by rfl
theorem jIH_14_155 : jmI (jm 14) 155 = (.goto (-53), 3) := by rfl
theorem jHl_fr_26 {xs : List Int} {d b1 b2 : Nat} {Q : Nat → JV → List JC → Prop} {y4 e1 e2 e3 e4 e5 : Int} : ∀ (n : Nat) (k u e0 : Int), 0 ≤ k → k + (n : Int) ≤ 32 → 1 ≤ u → u ≤ 1000000 → u < jp2 n → jT xs d 14 0 158 [(6, (1, jsu 2 n u)), (4, (1, y4)), (8, (4, 0)), (9, (0, 0))] [] [(101, [], [e0 - jsc 2 n u, e1, e2, e3, e4, e5])] b1 b2 Q → jT xs d 14 0 102 [(10, (0, k)), (6, (1, u)), (4, (1, y4)), (8, (4, 0)), (9, (0, 0))] [] [(101, [], [e0, e1, e2, e3, e4, e5])] b1 b2 Q := by
  intro n
  induction n with
  | zero =>
    intro k u e0 hk hkn h1 h2 hu h
    exact absurd (show u < 1 from hu) (by omega)
  | succ n ih =>
    intro k u e0 hk hkn h1 h2 hu h
    have h_u : 1 ≤ u ∧ u ≤ 1000000 := ⟨h1, h2⟩
    have h_k : 0 ≤ k ∧ k ≤ 31 := by omega
    rcases (show (0 ≤ (u.tmod 2) - 1) ∨ ((u.tmod 2) - 1 < 0) by omega) with g_0 | g_0
    · refine jT_xiload (v := (0, k)) (pcN := 104) jIH_14_102 rfl rfl rfl ?_
      refine jT_xbipush (k := 32) (pcN := 106) jIH_14_104 (by decide) rfl ?_
      refine jT_icF (a := k) (b := 32) (t := 158) (by rfl) (by rfl) (by rfl) (jw_idd (by omega) (by omega)) (jw_idd (by omega) (by omega)) (by simp only [jcP] <;> omega) ?_
      refine jT_xlload (v := (1, u)) (pcN := 111) jIH_14_109 rfl rfl rfl ?_
      refine jT_xlconst (z := 0) (pcN := 112) jIH_14_111 rfl rfl ?_
      refine jT_lcmp (a := u) (b := 0) (z := 1) (by rfl) (by rfl) (jwl_idd (by omega) (by omega)) (jwl_idd (by omega) (by omega)) (by rw [decide_eq_true (show (0 : Int) < u by omega)]; rfl) ?_
      refine jT_xifF (t := 158) (pcN := 116) jIH_14_113 rfl (by decide +kernel) rfl rfl ?_
      refine jT_xlload (v := (1, u)) (pcN := 118) jIH_14_116 rfl rfl rfl ?_
      refine jT_adv 1 (pcN := 121) (LN := [(10, (0, k)), (6, (1, u)), (4, (1, y4)), (8, (4, 0)), (9, (0, 0))]) (stN := [(5, 3), (1, u)]) (hsN := [(101, [], [e0, e1, e2, e3, e4, e5])]) (c1 := 0) (s1 := 0) (c2 := b1) (s2 := b2) (by exact rfl) ?_ (by omega) (by omega)
      refine jT_xiload (v := (0, 0)) (pcN := 123) jIH_14_121 rfl rfl rfl ?_
      refine jT_adv 1 (pcN := 124) (LN := [(10, (0, k)), (6, (1, u)), (4, (1, y4)), (8, (4, 0)), (9, (0, 0))]) (stN := [(0, 2), (1, u)]) (hsN := [(101, [], [e0, e1, e2, e3, e4, e5])]) (c1 := 0) (s1 := 0) (c2 := b1) (s2 := b2) (by exact rfl) ?_ (by omega) (by omega)
      refine jT_xi2l (x := 2) (z := 2) (pcN := 125) jIH_14_124 rfl (by decide +kernel) rfl ?_
      refine jT_lrem (a := u) (b := 2) (by rfl) (by rfl) (jwl_idd (by omega) (by omega)) (jwl_idd (by omega) (by omega)) (by omega) ?_
      have hb_q1 := jtm_b (x := u) (y := 2) (by omega) (by omega)
      have hb_q1 : 0 ≤ u.tmod 2 ∧ u.tmod 2 ≤ 1 := ⟨hb_q1.1, by omega⟩
      generalize hq_q1 : u.tmod 2 = q1 at hb_q1 g_0 ⊢
      refine jT_xlconst (z := 0) (pcN := 127) jIH_14_126 rfl rfl ?_
      refine jT_lcmp (a := q1) (b := 0) (z := 1) (by rfl) (by rfl) (jwl_idd (by omega) (by omega)) (jwl_idd (by omega) (by omega)) (by rw [decide_eq_true (show (0 : Int) < q1 by omega)]; rfl) ?_
      refine jT_xifT (pcN := 158) jIH_14_128 rfl (by decide +kernel) rfl ?_
      refine jT_loc (LN := [(6, (1, u)), (4, (1, y4)), (8, (4, 0)), (9, (0, 0))]) (by show List.Nodup [6, 4, 8, 9]; decide) (by intro q hq; simp only [List.mem_cons, List.not_mem_nil, or_false] at hq; rcases hq with rfl | rfl | rfl | rfl <;> rfl) ?_
      rw [jsu_0 (by omega), jsc_0 (by omega), Int.sub_zero] at h
      exact h
    · refine jT_xiload (v := (0, k)) (pcN := 104) jIH_14_102 rfl rfl rfl ?_
      refine jT_xbipush (k := 32) (pcN := 106) jIH_14_104 (by decide) rfl ?_
      refine jT_icF (a := k) (b := 32) (t := 158) (by rfl) (by rfl) (by rfl) (jw_idd (by omega) (by omega)) (jw_idd (by omega) (by omega)) (by simp only [jcP] <;> omega) ?_
      refine jT_xlload (v := (1, u)) (pcN := 111) jIH_14_109 rfl rfl rfl ?_
      refine jT_xlconst (z := 0) (pcN := 112) jIH_14_111 rfl rfl ?_
      refine jT_lcmp (a := u) (b := 0) (z := 1) (by rfl) (by rfl) (jwl_idd (by omega) (by omega)) (jwl_idd (by omega) (by omega)) (by rw [decide_eq_true (show (0 : Int) < u by omega)]; rfl) ?_
      refine jT_xifF (t := 158) (pcN := 116) jIH_14_113 rfl (by decide +kernel) rfl rfl ?_
      refine jT_xlload (v := (1, u)) (pcN := 118) jIH_14_116 rfl rfl rfl ?_
      refine jT_adv 1 (pcN := 121) (LN := [(10, (0, k)), (6, (1, u)), (4, (1, y4)), (8, (4, 0)), (9, (0, 0))]) (stN := [(5, 3), (1, u)]) (hsN := [(101, [], [e0, e1, e2, e3, e4, e5])]) (c1 := 0) (s1 := 0) (c2 := b1) (s2 := b2) (by exact rfl) ?_ (by omega) (by omega)
      refine jT_xiload (v := (0, 0)) (pcN := 123) jIH_14_121 rfl rfl rfl ?_
      refine jT_adv 1 (pcN := 124) (LN := [(10, (0, k)), (6, (1, u)), (4, (1, y4)), (8, (4, 0)), (9, (0, 0))]) (stN := [(0, 2), (1, u)]) (hsN := [(101, [], [e0, e1, e2, e3, e4, e5])]) (c1 := 0) (s1 := 0) (c2 := b1) (s2 := b2) (by exact rfl) ?_ (by omega) (by omega)
      refine jT_xi2l (x := 2) (z := 2) (pcN := 125) jIH_14_124 rfl (by decide +kernel) rfl ?_
      refine jT_lrem (a := u) (b := 2) (by rfl) (by rfl) (jwl_idd (by omega) (by omega)) (jwl_idd (by omega) (by omega)) (by omega) ?_
      have hb_q1 := jtm_b (x := u) (y := 2) (by omega) (by omega)
      have hb_q1 : 0 ≤ u.tmod 2 ∧ u.tmod 2 ≤ 1 := ⟨hb_q1.1, by omega⟩
      generalize hq_q1 : u.tmod 2 = q1 at hb_q1 g_0 ⊢
      refine jT_xlconst (z := 0) (pcN := 127) jIH_14_126 rfl rfl ?_
      refine jT_lcmp (a := q1) (b := 0) (z := 0) (by rfl) (by rfl) (jwl_idd (by omega) (by omega)) (jwl_idd (by omega) (by omega)) (by rw [decide_eq_false (show ¬ ((0 : Int) < q1) by omega), decide_eq_true (show (q1 : Int) = 0 by omega)]; rfl) ?_
      refine jT_xifF (t := 158) (pcN := 131) jIH_14_128 rfl (by decide +kernel) rfl rfl ?_
      refine jT_xlload (v := (1, u)) (pcN := 133) jIH_14_131 rfl rfl rfl ?_
      refine jT_adv 1 (pcN := 136) (LN := [(10, (0, k)), (6, (1, u)), (4, (1, y4)), (8, (4, 0)), (9, (0, 0))]) (stN := [(5, 3), (1, u)]) (hsN := [(101, [], [e0, e1, e2, e3, e4, e5])]) (c1 := 0) (s1 := 0) (c2 := b1) (s2 := b2) (by exact rfl) ?_ (by omega) (by omega)
      refine jT_xiload (v := (0, 0)) (pcN := 138) jIH_14_136 rfl rfl rfl ?_
      refine jT_adv 1 (pcN := 139) (LN := [(10, (0, k)), (6, (1, u)), (4, (1, y4)), (8, (4, 0)), (9, (0, 0))]) (stN := [(0, 2), (1, u)]) (hsN := [(101, [], [e0, e1, e2, e3, e4, e5])]) (c1 := 0) (s1 := 0) (c2 := b1) (s2 := b2) (by exact rfl) ?_ (by omega) (by omega)
      refine jT_xi2l (x := 2) (z := 2) (pcN := 140) jIH_14_139 rfl (by decide +kernel) rfl ?_
      refine jT_ldiv (a := u) (b := 2) (by rfl) (by rfl) (jwl_idd (by omega) (by omega)) (jwl_idd (by omega) (by omega)) (by omega) ?_
      have hb_q2 := jtd_b0 (x := u) (y := 2) (by omega) (by omega)
      have hb_q2 : 0 ≤ u.tdiv 2 ∧ u.tdiv 2 ≤ 1000000 := ⟨hb_q2.1, by omega⟩
      generalize hq_q2 : u.tdiv 2 = q2 at hb_q2 ⊢
      refine jT_xlstore (v := (1, q2)) (LN := [(6, (1, q2)), (10, (0, k)), (4, (1, y4)), (8, (4, 0)), (9, (0, 0))]) (pcN := 143) jIH_14_141 rfl rfl rfl rfl ?_
      refine jT_xaload (v := (4, 0)) (pcN := 145) jIH_14_143 rfl rfl rfl ?_
      refine jT_xiload (v := (0, 0)) (pcN := 147) jIH_14_145 rfl rfl rfl ?_
      refine jT_adv 1 (pcN := 148) (LN := [(6, (1, q2)), (10, (0, k)), (4, (1, y4)), (8, (4, 0)), (9, (0, 0))]) (stN := [(0, 0), (4, 0), (0, 0), (4, 0)]) (hsN := [(101, [], [e0, e1, e2, e3, e4, e5])]) (c1 := 0) (s1 := 0) (c2 := b1) (s2 := b2) (by exact rfl) ?_ (by omega) (by omega)
      refine jT_lald (x := e0) (a := 0) (j := 0) (fs := []) (X := [e0, e1, e2, e3, e4, e5]) jIH_14_148 rfl rfl rfl rfl ?_
      refine jT_eq (LN := [(6, (1, q2)), (10, (0, k)), (4, (1, y4)), (8, (4, 0)), (9, (0, 0))]) (stN := [(1, e0), (0, 0), (4, 0)]) (hsN := [(101, [], [e0, e1, e2, e3, e4, e5])]) rfl rfl rfl ?_
      refine jT_xlconst (z := 1) (pcN := 150) jIH_14_149 rfl rfl ?_
      refine jT_xlsub (x := e0) (y := 1) (z := e0 - 1) (pcN := 151) jIH_14_150 rfl (rfl) rfl ?_
      refine jT_adv 1 (pcN := 152) (LN := [(6, (1, q2)), (10, (0, k)), (4, (1, y4)), (8, (4, 0)), (9, (0, 0))]) (stN := []) (hsN := [(101, [], [e0 - 1, e1, e2, e3, e4, e5])]) (c1 := 0) (s1 := 0) (c2 := b1) (s2 := b2) (by exact rfl) ?_ (by omega) (by omega)
      refine jT_xiinc (x := k) (z := k + 1) (LN := [(10, (0, k + 1)), (6, (1, q2)), (4, (1, y4)), (8, (4, 0)), (9, (0, 0))]) (pcN := 155) jIH_14_152 rfl rfl (rfl) rfl rfl ?_
      refine jT_xgoto (pcN := 102) jIH_14_155 rfl ?_
      refine jT_loc (LN := [(10, (0, k + 1)), (6, (1, q2)), (4, (1, y4)), (8, (4, 0)), (9, (0, 0))]) (by show List.Nodup [10, 6, 4, 8, 9]; decide) (by intro q hq; simp only [List.mem_cons, List.not_mem_nil, or_false] at hq; rcases hq with rfl | rfl | rfl | rfl | rfl <;> rfl) ?_
      have hs := jst_s (P := 2) (u := u) (n := n) (by decide) h1 hu (by omega)
      rw [hq_q2] at hs
      rw [jsu_1 (by omega), jsc_1 (by omega), hq_q2, show e0 - (jsc 2 n q2 + 1) = e0 - 1 - jsc 2 n q2 by omega] at h
      exact ih (k + 1) q2 (e0 - 1) (by omega) (by omega) (by omega) (by omega) hs.2.1 h
theorem jIH_14_158 : jmI (jm 14) 158 = (.iinc 9 1, 3) := by rfl
theorem jIH_14_161 : jmI (jm 14) 161 = (.goto (-128), 3) := by rfl
theorem jHl_fr_27 {xs : List Int} {d b1 b2 : Nat} {Q : Nat → JV → List JC → Prop} {y6 e0 e2 e3 e4 e5 : Int} : ∀ (n : Nat) (k u e1 : Int), 0 ≤ k → k + (n : Int) ≤ 32 → 1 ≤ u → u ≤ 1000000 → u < jp2 n → jT xs d 14 0 99 [(4, (1, jsu 3 n u)), (6, (1, y6)), (8, (4, 0)), (9, (0, 1))] [] [(101, [], [e0, e1 + jsc 3 n u, e2, e3, e4, e5])] b1 b2 Q → jT xs d 14 0 43 [(10, (0, k)), (4, (1, u)), (6, (1, y6)), (8, (4, 0)), (9, (0, 1))] [] [(101, [], [e0, e1, e2, e3, e4, e5])] b1 b2 Q := by
  intro n
  induction n with
  | zero =>
    intro k u e1 hk hkn h1 h2 hu h
    exact absurd (show u < 1 from hu) (by omega)
  | succ n ih =>
    intro k u e1 hk hkn h1 h2 hu h
    have h_u : 1 ≤ u ∧ u ≤ 1000000 := ⟨h1, h2⟩
    have h_k : 0 ≤ k ∧ k ≤ 31 := by omega
    rcases (show (0 ≤ (u.tmod 3) - 1) ∨ ((u.tmod 3) - 1 < 0) by omega) with g_0 | g_0
    · refine jT_xiload (v := (0, k)) (pcN := 45) jIH_14_43 rfl rfl rfl ?_
      refine jT_xbipush (k := 32) (pcN := 47) jIH_14_45 (by decide) rfl ?_
      refine jT_icF (a := k) (b := 32) (t := 99) (by rfl) (by rfl) (by rfl) (jw_idd (by omega) (by omega)) (jw_idd (by omega) (by omega)) (by simp only [jcP] <;> omega) ?_
      refine jT_xlload (v := (1, u)) (pcN := 52) jIH_14_50 rfl rfl rfl ?_
      refine jT_xlconst (z := 0) (pcN := 53) jIH_14_52 rfl rfl ?_
      refine jT_lcmp (a := u) (b := 0) (z := 1) (by rfl) (by rfl) (jwl_idd (by omega) (by omega)) (jwl_idd (by omega) (by omega)) (by rw [decide_eq_true (show (0 : Int) < u by omega)]; rfl) ?_
      refine jT_xifF (t := 99) (pcN := 57) jIH_14_54 rfl (by decide +kernel) rfl rfl ?_
      refine jT_xlload (v := (1, u)) (pcN := 59) jIH_14_57 rfl rfl rfl ?_
      refine jT_adv 1 (pcN := 62) (LN := [(10, (0, k)), (4, (1, u)), (6, (1, y6)), (8, (4, 0)), (9, (0, 1))]) (stN := [(5, 3), (1, u)]) (hsN := [(101, [], [e0, e1, e2, e3, e4, e5])]) (c1 := 0) (s1 := 0) (c2 := b1) (s2 := b2) (by exact rfl) ?_ (by omega) (by omega)
      refine jT_xiload (v := (0, 1)) (pcN := 64) jIH_14_62 rfl rfl rfl ?_
      refine jT_adv 1 (pcN := 65) (LN := [(10, (0, k)), (4, (1, u)), (6, (1, y6)), (8, (4, 0)), (9, (0, 1))]) (stN := [(0, 3), (1, u)]) (hsN := [(101, [], [e0, e1, e2, e3, e4, e5])]) (c1 := 0) (s1 := 0) (c2 := b1) (s2 := b2) (by exact rfl) ?_ (by omega) (by omega)
      refine jT_xi2l (x := 3) (z := 3) (pcN := 66) jIH_14_65 rfl (by decide +kernel) rfl ?_
      refine jT_lrem (a := u) (b := 3) (by rfl) (by rfl) (jwl_idd (by omega) (by omega)) (jwl_idd (by omega) (by omega)) (by omega) ?_
      have hb_q1 := jtm_b (x := u) (y := 3) (by omega) (by omega)
      have hb_q1 : 0 ≤ u.tmod 3 ∧ u.tmod 3 ≤ 2 := ⟨hb_q1.1, by omega⟩
      generalize hq_q1 : u.tmod 3 = q1 at hb_q1 g_0 ⊢
      refine jT_xlconst (z := 0) (pcN := 68) jIH_14_67 rfl rfl ?_
      refine jT_lcmp (a := q1) (b := 0) (z := 1) (by rfl) (by rfl) (jwl_idd (by omega) (by omega)) (jwl_idd (by omega) (by omega)) (by rw [decide_eq_true (show (0 : Int) < q1 by omega)]; rfl) ?_
      refine jT_xifT (pcN := 99) jIH_14_69 rfl (by decide +kernel) rfl ?_
      refine jT_loc (LN := [(4, (1, u)), (6, (1, y6)), (8, (4, 0)), (9, (0, 1))]) (by show List.Nodup [4, 6, 8, 9]; decide) (by intro q hq; simp only [List.mem_cons, List.not_mem_nil, or_false] at hq; rcases hq with rfl | rfl | rfl | rfl <;> rfl) ?_
      rw [jsu_0 (by omega), jsc_0 (by omega), Int.add_zero] at h
      exact h
    · refine jT_xiload (v := (0, k)) (pcN := 45) jIH_14_43 rfl rfl rfl ?_
      refine jT_xbipush (k := 32) (pcN := 47) jIH_14_45 (by decide) rfl ?_
      refine jT_icF (a := k) (b := 32) (t := 99) (by rfl) (by rfl) (by rfl) (jw_idd (by omega) (by omega)) (jw_idd (by omega) (by omega)) (by simp only [jcP] <;> omega) ?_
      refine jT_xlload (v := (1, u)) (pcN := 52) jIH_14_50 rfl rfl rfl ?_
      refine jT_xlconst (z := 0) (pcN := 53) jIH_14_52 rfl rfl ?_
      refine jT_lcmp (a := u) (b := 0) (z := 1) (by rfl) (by rfl) (jwl_idd (by omega) (by omega)) (jwl_idd (by omega) (by omega)) (by rw [decide_eq_true (show (0 : Int) < u by omega)]; rfl) ?_
      refine jT_xifF (t := 99) (pcN := 57) jIH_14_54 rfl (by decide +kernel) rfl rfl ?_
      refine jT_xlload (v := (1, u)) (pcN := 59) jIH_14_57 rfl rfl rfl ?_
      refine jT_adv 1 (pcN := 62) (LN := [(10, (0, k)), (4, (1, u)), (6, (1, y6)), (8, (4, 0)), (9, (0, 1))]) (stN := [(5, 3), (1, u)]) (hsN := [(101, [], [e0, e1, e2, e3, e4, e5])]) (c1 := 0) (s1 := 0) (c2 := b1) (s2 := b2) (by exact rfl) ?_ (by omega) (by omega)
      refine jT_xiload (v := (0, 1)) (pcN := 64) jIH_14_62 rfl rfl rfl ?_
      refine jT_adv 1 (pcN := 65) (LN := [(10, (0, k)), (4, (1, u)), (6, (1, y6)), (8, (4, 0)), (9, (0, 1))]) (stN := [(0, 3), (1, u)]) (hsN := [(101, [], [e0, e1, e2, e3, e4, e5])]) (c1 := 0) (s1 := 0) (c2 := b1) (s2 := b2) (by exact rfl) ?_ (by omega) (by omega)
      refine jT_xi2l (x := 3) (z := 3) (pcN := 66) jIH_14_65 rfl (by decide +kernel) rfl ?_
      refine jT_lrem (a := u) (b := 3) (by rfl) (by rfl) (jwl_idd (by omega) (by omega)) (jwl_idd (by omega) (by omega)) (by omega) ?_
      have hb_q1 := jtm_b (x := u) (y := 3) (by omega) (by omega)
      have hb_q1 : 0 ≤ u.tmod 3 ∧ u.tmod 3 ≤ 2 := ⟨hb_q1.1, by omega⟩
      generalize hq_q1 : u.tmod 3 = q1 at hb_q1 g_0 ⊢
      refine jT_xlconst (z := 0) (pcN := 68) jIH_14_67 rfl rfl ?_
      refine jT_lcmp (a := q1) (b := 0) (z := 0) (by rfl) (by rfl) (jwl_idd (by omega) (by omega)) (jwl_idd (by omega) (by omega)) (by rw [decide_eq_false (show ¬ ((0 : Int) < q1) by omega), decide_eq_true (show (q1 : Int) = 0 by omega)]; rfl) ?_
      refine jT_xifF (t := 99) (pcN := 72) jIH_14_69 rfl (by decide +kernel) rfl rfl ?_
      refine jT_xlload (v := (1, u)) (pcN := 74) jIH_14_72 rfl rfl rfl ?_
      refine jT_adv 1 (pcN := 77) (LN := [(10, (0, k)), (4, (1, u)), (6, (1, y6)), (8, (4, 0)), (9, (0, 1))]) (stN := [(5, 3), (1, u)]) (hsN := [(101, [], [e0, e1, e2, e3, e4, e5])]) (c1 := 0) (s1 := 0) (c2 := b1) (s2 := b2) (by exact rfl) ?_ (by omega) (by omega)
      refine jT_xiload (v := (0, 1)) (pcN := 79) jIH_14_77 rfl rfl rfl ?_
      refine jT_adv 1 (pcN := 80) (LN := [(10, (0, k)), (4, (1, u)), (6, (1, y6)), (8, (4, 0)), (9, (0, 1))]) (stN := [(0, 3), (1, u)]) (hsN := [(101, [], [e0, e1, e2, e3, e4, e5])]) (c1 := 0) (s1 := 0) (c2 := b1) (s2 := b2) (by exact rfl) ?_ (by omega) (by omega)
      refine jT_xi2l (x := 3) (z := 3) (pcN := 81) jIH_14_80 rfl (by decide +kernel) rfl ?_
      refine jT_ldiv (a := u) (b := 3) (by rfl) (by rfl) (jwl_idd (by omega) (by omega)) (jwl_idd (by omega) (by omega)) (by omega) ?_
      have hb_q2 := jtd_b0 (x := u) (y := 3) (by omega) (by omega)
      have hb_q2 : 0 ≤ u.tdiv 3 ∧ u.tdiv 3 ≤ 1000000 := ⟨hb_q2.1, by omega⟩
      generalize hq_q2 : u.tdiv 3 = q2 at hb_q2 ⊢
      refine jT_xlstore (v := (1, q2)) (LN := [(4, (1, q2)), (10, (0, k)), (6, (1, y6)), (8, (4, 0)), (9, (0, 1))]) (pcN := 84) jIH_14_82 rfl rfl rfl rfl ?_
      refine jT_xaload (v := (4, 0)) (pcN := 86) jIH_14_84 rfl rfl rfl ?_
      refine jT_xiload (v := (0, 1)) (pcN := 88) jIH_14_86 rfl rfl rfl ?_
      refine jT_adv 1 (pcN := 89) (LN := [(4, (1, q2)), (10, (0, k)), (6, (1, y6)), (8, (4, 0)), (9, (0, 1))]) (stN := [(0, 1), (4, 0), (0, 1), (4, 0)]) (hsN := [(101, [], [e0, e1, e2, e3, e4, e5])]) (c1 := 0) (s1 := 0) (c2 := b1) (s2 := b2) (by exact rfl) ?_ (by omega) (by omega)
      refine jT_lald (x := e1) (a := 0) (j := 1) (fs := []) (X := [e0, e1, e2, e3, e4, e5]) jIH_14_89 rfl rfl rfl rfl ?_
      refine jT_eq (LN := [(4, (1, q2)), (10, (0, k)), (6, (1, y6)), (8, (4, 0)), (9, (0, 1))]) (stN := [(1, e1), (0, 1), (4, 0)]) (hsN := [(101, [], [e0, e1, e2, e3, e4, e5])]) rfl rfl rfl ?_
      refine jT_xlconst (z := 1) (pcN := 91) jIH_14_90 rfl rfl ?_
      refine jT_xladd (x := e1) (y := 1) (z := e1 + 1) (pcN := 92) jIH_14_91 rfl (rfl) rfl ?_
      refine jT_adv 1 (pcN := 93) (LN := [(4, (1, q2)), (10, (0, k)), (6, (1, y6)), (8, (4, 0)), (9, (0, 1))]) (stN := []) (hsN := [(101, [], [e0, e1 + 1, e2, e3, e4, e5])]) (c1 := 0) (s1 := 0) (c2 := b1) (s2 := b2) (by exact rfl) ?_ (by omega) (by omega)
      refine jT_xiinc (x := k) (z := k + 1) (LN := [(10, (0, k + 1)), (4, (1, q2)), (6, (1, y6)), (8, (4, 0)), (9, (0, 1))]) (pcN := 96) jIH_14_93 rfl rfl (rfl) rfl rfl ?_
      refine jT_xgoto (pcN := 43) jIH_14_96 rfl ?_
      refine jT_loc (LN := [(10, (0, k + 1)), (4, (1, q2)), (6, (1, y6)), (8, (4, 0)), (9, (0, 1))]) (by show List.Nodup [10, 4, 6, 8, 9]; decide) (by intro q hq; simp only [List.mem_cons, List.not_mem_nil, or_false] at hq; rcases hq with rfl | rfl | rfl | rfl | rfl <;> rfl) ?_
      have hs := jst_s (P := 3) (u := u) (n := n) (by decide) h1 hu (by omega)
      rw [hq_q2] at hs
      rw [jsu_1 (by omega), jsc_1 (by omega), hq_q2, show e1 + (jsc 3 n q2 + 1) = e1 + 1 + jsc 3 n q2 by omega] at h
      exact ih (k + 1) q2 (e1 + 1) (by omega) (by omega) (by omega) (by omega) hs.2.1 h
theorem jHl_fr_28 {xs : List Int} {d b1 b2 : Nat} {Q : Nat → JV → List JC → Prop} {y4 e0 e2 e3 e4 e5 : Int} : ∀ (n : Nat) (k u e1 : Int), 0 ≤ k → k + (n : Int) ≤ 32 → 1 ≤ u → u ≤ 1000000 → u < jp2 n → jT xs d 14 0 158 [(6, (1, jsu 3 n u)), (4, (1, y4)), (8, (4, 0)), (9, (0, 1))] [] [(101, [], [e0, e1 - jsc 3 n u, e2, e3, e4, e5])] b1 b2 Q → jT xs d 14 0 102 [(10, (0, k)), (6, (1, u)), (4, (1, y4)), (8, (4, 0)), (9, (0, 1))] [] [(101, [], [e0, e1, e2, e3, e4, e5])] b1 b2 Q := by
  intro n
  induction n with
  | zero =>
    intro k u e1 hk hkn h1 h2 hu h
    exact absurd (show u < 1 from hu) (by omega)
  | succ n ih =>
    intro k u e1 hk hkn h1 h2 hu h
    have h_u : 1 ≤ u ∧ u ≤ 1000000 := ⟨h1, h2⟩
    have h_k : 0 ≤ k ∧ k ≤ 31 := by omega
    rcases (show (0 ≤ (u.tmod 3) - 1) ∨ ((u.tmod 3) - 1 < 0) by omega) with g_0 | g_0
    · refine jT_xiload (v := (0, k)) (pcN := 104) jIH_14_102 rfl rfl rfl ?_
      refine jT_xbipush (k := 32) (pcN := 106) jIH_14_104 (by decide) rfl ?_
      refine jT_icF (a := k) (b := 32) (t := 158) (by rfl) (by rfl) (by rfl) (jw_idd (by omega) (by omega)) (jw_idd (by omega) (by omega)) (by simp only [jcP] <;> omega) ?_
      refine jT_xlload (v := (1, u)) (pcN := 111) jIH_14_109 rfl rfl rfl ?_
      refine jT_xlconst (z := 0) (pcN := 112) jIH_14_111 rfl rfl ?_
      refine jT_lcmp (a := u) (b := 0) (z := 1) (by rfl) (by rfl) (jwl_idd (by omega) (by omega)) (jwl_idd (by omega) (by omega)) (by rw [decide_eq_true (show (0 : Int) < u by omega)]; rfl) ?_
      refine jT_xifF (t := 158) (pcN := 116) jIH_14_113 rfl (by decide +kernel) rfl rfl ?_
      refine jT_xlload (v := (1, u)) (pcN := 118) jIH_14_116 rfl rfl rfl ?_
      refine jT_adv 1 (pcN := 121) (LN := [(10, (0, k)), (6, (1, u)), (4, (1, y4)), (8, (4, 0)), (9, (0, 1))]) (stN := [(5, 3), (1, u)]) (hsN := [(101, [], [e0, e1, e2, e3, e4, e5])]) (c1 := 0) (s1 := 0) (c2 := b1) (s2 := b2) (by exact rfl) ?_ (by omega) (by omega)
      refine jT_xiload (v := (0, 1)) (pcN := 123) jIH_14_121 rfl rfl rfl ?_
      refine jT_adv 1 (pcN := 124) (LN := [(10, (0, k)), (6, (1, u)), (4, (1, y4)), (8, (4, 0)), (9, (0, 1))]) (stN := [(0, 3), (1, u)]) (hsN := [(101, [], [e0, e1, e2, e3, e4, e5])]) (c1 := 0) (s1 := 0) (c2 := b1) (s2 := b2) (by exact rfl) ?_ (by omega) (by omega)
      refine jT_xi2l (x := 3) (z := 3) (pcN := 125) jIH_14_124 rfl (by decide +kernel) rfl ?_
      refine jT_lrem (a := u) (b := 3) (by rfl) (by rfl) (jwl_idd (by omega) (by omega)) (jwl_idd (by omega) (by omega)) (by omega) ?_
      have hb_q1 := jtm_b (x := u) (y := 3) (by omega) (by omega)
      have hb_q1 : 0 ≤ u.tmod 3 ∧ u.tmod 3 ≤ 2 := ⟨hb_q1.1, by omega⟩
      generalize hq_q1 : u.tmod 3 = q1 at hb_q1 g_0 ⊢
      refine jT_xlconst (z := 0) (pcN := 127) jIH_14_126 rfl rfl ?_
      refine jT_lcmp (a := q1) (b := 0) (z := 1) (by rfl) (by rfl) (jwl_idd (by omega) (by omega)) (jwl_idd (by omega) (by omega)) (by rw [decide_eq_true (show (0 : Int) < q1 by omega)]; rfl) ?_
      refine jT_xifT (pcN := 158) jIH_14_128 rfl (by decide +kernel) rfl ?_
      refine jT_loc (LN := [(6, (1, u)), (4, (1, y4)), (8, (4, 0)), (9, (0, 1))]) (by show List.Nodup [6, 4, 8, 9]; decide) (by intro q hq; simp only [List.mem_cons, List.not_mem_nil, or_false] at hq; rcases hq with rfl | rfl | rfl | rfl <;> rfl) ?_
      rw [jsu_0 (by omega), jsc_0 (by omega), Int.sub_zero] at h
      exact h
    · refine jT_xiload (v := (0, k)) (pcN := 104) jIH_14_102 rfl rfl rfl ?_
      refine jT_xbipush (k := 32) (pcN := 106) jIH_14_104 (by decide) rfl ?_
      refine jT_icF (a := k) (b := 32) (t := 158) (by rfl) (by rfl) (by rfl) (jw_idd (by omega) (by omega)) (jw_idd (by omega) (by omega)) (by simp only [jcP] <;> omega) ?_
      refine jT_xlload (v := (1, u)) (pcN := 111) jIH_14_109 rfl rfl rfl ?_
      refine jT_xlconst (z := 0) (pcN := 112) jIH_14_111 rfl rfl ?_
      refine jT_lcmp (a := u) (b := 0) (z := 1) (by rfl) (by rfl) (jwl_idd (by omega) (by omega)) (jwl_idd (by omega) (by omega)) (by rw [decide_eq_true (show (0 : Int) < u by omega)]; rfl) ?_
      refine jT_xifF (t := 158) (pcN := 116) jIH_14_113 rfl (by decide +kernel) rfl rfl ?_
      refine jT_xlload (v := (1, u)) (pcN := 118) jIH_14_116 rfl rfl rfl ?_
      refine jT_adv 1 (pcN := 121) (LN := [(10, (0, k)), (6, (1, u)), (4, (1, y4)), (8, (4, 0)), (9, (0, 1))]) (stN := [(5, 3), (1, u)]) (hsN := [(101, [], [e0, e1, e2, e3, e4, e5])]) (c1 := 0) (s1 := 0) (c2 := b1) (s2 := b2) (by exact rfl) ?_ (by omega) (by omega)
      refine jT_xiload (v := (0, 1)) (pcN := 123) jIH_14_121 rfl rfl rfl ?_
      refine jT_adv 1 (pcN := 124) (LN := [(10, (0, k)), (6, (1, u)), (4, (1, y4)), (8, (4, 0)), (9, (0, 1))]) (stN := [(0, 3), (1, u)]) (hsN := [(101, [], [e0, e1, e2, e3, e4, e5])]) (c1 := 0) (s1 := 0) (c2 := b1) (s2 := b2) (by exact rfl) ?_ (by omega) (by omega)
      refine jT_xi2l (x := 3) (z := 3) (pcN := 125) jIH_14_124 rfl (by decide +kernel) rfl ?_
      refine jT_lrem (a := u) (b := 3) (by rfl) (by rfl) (jwl_idd (by omega) (by omega)) (jwl_idd (by omega) (by omega)) (by omega) ?_
      have hb_q1 := jtm_b (x := u) (y := 3) (by omega) (by omega)
      have hb_q1 : 0 ≤ u.tmod 3 ∧ u.tmod 3 ≤ 2 := ⟨hb_q1.1, by omega⟩
      generalize hq_q1 : u.tmod 3 = q1 at hb_q1 g_0 ⊢
      refine jT_xlconst (z := 0) (pcN := 127) jIH_14_126 rfl rfl ?_
      refine jT_lcmp (a := q1) (b := 0) (z := 0) (by rfl) (by rfl) (jwl_idd (by omega) (by omega)) (jwl_idd (by omega) (by omega)) (by rw [decide_eq_false (show ¬ ((0 : Int) < q1) by omega), decide_eq_true (show (q1 : Int) = 0 by omega)]; rfl) ?_
      refine jT_xifF (t := 158) (pcN := 131) jIH_14_128 rfl (by decide +kernel) rfl rfl ?_
      refine jT_xlload (v := (1, u)) (pcN := 133) jIH_14_131 rfl rfl rfl ?_
      refine jT_adv 1 (pcN := 136) (LN := [(10, (0, k)), (6, (1, u)), (4, (1, y4)), (8, (4, 0)), (9, (0, 1))]) (stN := [(5, 3), (1, u)]) (hsN := [(101, [], [e0, e1, e2, e3, e4, e5])]) (c1 := 0) (s1 := 0) (c2 := b1) (s2 := b2) (by exact rfl) ?_ (by omega) (by omega)
      refine jT_xiload (v := (0, 1)) (pcN := 138) jIH_14_136 rfl rfl rfl ?_
      refine jT_adv 1 (pcN := 139) (LN := [(10, (0, k)), (6, (1, u)), (4, (1, y4)), (8, (4, 0)), (9, (0, 1))]) (stN := [(0, 3), (1, u)]) (hsN := [(101, [], [e0, e1, e2, e3, e4, e5])]) (c1 := 0) (s1 := 0) (c2 := b1) (s2 := b2) (by exact rfl) ?_ (by omega) (by omega)
      refine jT_xi2l (x := 3) (z := 3) (pcN := 140) jIH_14_139 rfl (by decide +kernel) rfl ?_
      refine jT_ldiv (a := u) (b := 3) (by rfl) (by rfl) (jwl_idd (by omega) (by omega)) (jwl_idd (by omega) (by omega)) (by omega) ?_
      have hb_q2 := jtd_b0 (x := u) (y := 3) (by omega) (by omega)
      have hb_q2 : 0 ≤ u.tdiv 3 ∧ u.tdiv 3 ≤ 1000000 := ⟨hb_q2.1, by omega⟩
      generalize hq_q2 : u.tdiv 3 = q2 at hb_q2 ⊢
      refine jT_xlstore (v := (1, q2)) (LN := [(6, (1, q2)), (10, (0, k)), (4, (1, y4)), (8, (4, 0)), (9, (0, 1))]) (pcN := 143) jIH_14_141 rfl rfl rfl rfl ?_
      refine jT_xaload (v := (4, 0)) (pcN := 145) jIH_14_143 rfl rfl rfl ?_
      refine jT_xiload (v := (0, 1)) (pcN := 147) jIH_14_145 rfl rfl rfl ?_
      refine jT_adv 1 (pcN := 148) (LN := [(6, (1, q2)), (10, (0, k)), (4, (1, y4)), (8, (4, 0)), (9, (0, 1))]) (stN := [(0, 1), (4, 0), (0, 1), (4, 0)]) (hsN := [(101, [], [e0, e1, e2, e3, e4, e5])]) (c1 := 0) (s1 := 0) (c2 := b1) (s2 := b2) (by exact rfl) ?_ (by omega) (by omega)
      refine jT_lald (x := e1) (a := 0) (j := 1) (fs := []) (X := [e0, e1, e2, e3, e4, e5]) jIH_14_148 rfl rfl rfl rfl ?_
      refine jT_eq (LN := [(6, (1, q2)), (10, (0, k)), (4, (1, y4)), (8, (4, 0)), (9, (0, 1))]) (stN := [(1, e1), (0, 1), (4, 0)]) (hsN := [(101, [], [e0, e1, e2, e3, e4, e5])]) rfl rfl rfl ?_
      refine jT_xlconst (z := 1) (pcN := 150) jIH_14_149 rfl rfl ?_
      refine jT_xlsub (x := e1) (y := 1) (z := e1 - 1) (pcN := 151) jIH_14_150 rfl (rfl) rfl ?_
      refine jT_adv 1 (pcN := 152) (LN := [(6, (1, q2)), (10, (0, k)), (4, (1, y4)), (8, (4, 0)), (9, (0, 1))]) (stN := []) (hsN := [(101, [], [e0, e1 - 1, e2, e3, e4, e5])]) (c1 := 0) (s1 := 0) (c2 := b1) (s2 := b2) (by exact rfl) ?_ (by omega) (by omega)
      refine jT_xiinc (x := k) (z := k + 1) (LN := [(10, (0, k + 1)), (6, (1, q2)), (4, (1, y4)), (8, (4, 0)), (9, (0, 1))]) (pcN := 155) jIH_14_152 rfl rfl (rfl) rfl rfl ?_
      refine jT_xgoto (pcN := 102) jIH_14_155 rfl ?_
      refine jT_loc (LN := [(10, (0, k + 1)), (6, (1, q2)), (4, (1, y4)), (8, (4, 0)), (9, (0, 1))]) (by show List.Nodup [10, 6, 4, 8, 9]; decide) (by intro q hq; simp only [List.mem_cons, List.not_mem_nil, or_false] at hq; rcases hq with rfl | rfl | rfl | rfl | rfl <;> rfl) ?_
      have hs := jst_s (P := 3) (u := u) (n := n) (by decide) h1 hu (by omega)
      rw [hq_q2] at hs
      rw [jsu_1 (by omega), jsc_1 (by omega), hq_q2, show e1 - (jsc 3 n q2 + 1) = e1 - 1 - jsc 3 n q2 by omega] at h
      exact ih (k + 1) q2 (e1 - 1) (by omega) (by omega) (by omega) (by omega) hs.2.1 h
theorem jHl_fr_29 {xs : List Int} {d b1 b2 : Nat} {Q : Nat → JV → List JC → Prop} {y6 e0 e1 e3 e4 e5 : Int} : ∀ (n : Nat) (k u e2 : Int), 0 ≤ k → k + (n : Int) ≤ 32 → 1 ≤ u → u ≤ 1000000 → u < jp2 n → jT xs d 14 0 99 [(4, (1, jsu 5 n u)), (6, (1, y6)), (8, (4, 0)), (9, (0, 2))] [] [(101, [], [e0, e1, e2 + jsc 5 n u, e3, e4, e5])] b1 b2 Q → jT xs d 14 0 43 [(10, (0, k)), (4, (1, u)), (6, (1, y6)), (8, (4, 0)), (9, (0, 2))] [] [(101, [], [e0, e1, e2, e3, e4, e5])] b1 b2 Q := by
  intro n
  induction n with
  | zero =>
    intro k u e2 hk hkn h1 h2 hu h
    exact absurd (show u < 1 from hu) (by omega)
  | succ n ih =>
    intro k u e2 hk hkn h1 h2 hu h
    have h_u : 1 ≤ u ∧ u ≤ 1000000 := ⟨h1, h2⟩
    have h_k : 0 ≤ k ∧ k ≤ 31 := by omega
    rcases (show (0 ≤ (u.tmod 5) - 1) ∨ ((u.tmod 5) - 1 < 0) by omega) with g_0 | g_0
    · refine jT_xiload (v := (0, k)) (pcN := 45) jIH_14_43 rfl rfl rfl ?_
      refine jT_xbipush (k := 32) (pcN := 47) jIH_14_45 (by decide) rfl ?_
      refine jT_icF (a := k) (b := 32) (t := 99) (by rfl) (by rfl) (by rfl) (jw_idd (by omega) (by omega)) (jw_idd (by omega) (by omega)) (by simp only [jcP] <;> omega) ?_
      refine jT_xlload (v := (1, u)) (pcN := 52) jIH_14_50 rfl rfl rfl ?_
      refine jT_xlconst (z := 0) (pcN := 53) jIH_14_52 rfl rfl ?_
      refine jT_lcmp (a := u) (b := 0) (z := 1) (by rfl) (by rfl) (jwl_idd (by omega) (by omega)) (jwl_idd (by omega) (by omega)) (by rw [decide_eq_true (show (0 : Int) < u by omega)]; rfl) ?_
      refine jT_xifF (t := 99) (pcN := 57) jIH_14_54 rfl (by decide +kernel) rfl rfl ?_
      refine jT_xlload (v := (1, u)) (pcN := 59) jIH_14_57 rfl rfl rfl ?_
      refine jT_adv 1 (pcN := 62) (LN := [(10, (0, k)), (4, (1, u)), (6, (1, y6)), (8, (4, 0)), (9, (0, 2))]) (stN := [(5, 3), (1, u)]) (hsN := [(101, [], [e0, e1, e2, e3, e4, e5])]) (c1 := 0) (s1 := 0) (c2 := b1) (s2 := b2) (by exact rfl) ?_ (by omega) (by omega)
      refine jT_xiload (v := (0, 2)) (pcN := 64) jIH_14_62 rfl rfl rfl ?_
      refine jT_adv 1 (pcN := 65) (LN := [(10, (0, k)), (4, (1, u)), (6, (1, y6)), (8, (4, 0)), (9, (0, 2))]) (stN := [(0, 5), (1, u)]) (hsN := [(101, [], [e0, e1, e2, e3, e4, e5])]) (c1 := 0) (s1 := 0) (c2 := b1) (s2 := b2) (by exact rfl) ?_ (by omega) (by omega)
      refine jT_xi2l (x := 5) (z := 5) (pcN := 66) jIH_14_65 rfl (by decide +kernel) rfl ?_
      refine jT_lrem (a := u) (b := 5) (by rfl) (by rfl) (jwl_idd (by omega) (by omega)) (jwl_idd (by omega) (by omega)) (by omega) ?_
      have hb_q1 := jtm_b (x := u) (y := 5) (by omega) (by omega)
      have hb_q1 : 0 ≤ u.tmod 5 ∧ u.tmod 5 ≤ 4 := ⟨hb_q1.1, by omega⟩
      generalize hq_q1 : u.tmod 5 = q1 at hb_q1 g_0 ⊢
      refine jT_xlconst (z := 0) (pcN := 68) jIH_14_67 rfl rfl ?_
      refine jT_lcmp (a := q1) (b := 0) (z := 1) (by rfl) (by rfl) (jwl_idd (by omega) (by omega)) (jwl_idd (by omega) (by omega)) (by rw [decide_eq_true (show (0 : Int) < q1 by omega)]; rfl) ?_
      refine jT_xifT (pcN := 99) jIH_14_69 rfl (by decide +kernel) rfl ?_
      refine jT_loc (LN := [(4, (1, u)), (6, (1, y6)), (8, (4, 0)), (9, (0, 2))]) (by show List.Nodup [4, 6, 8, 9]; decide) (by intro q hq; simp only [List.mem_cons, List.not_mem_nil, or_false] at hq; rcases hq with rfl | rfl | rfl | rfl <;> rfl) ?_
      rw [jsu_0 (by omega), jsc_0 (by omega), Int.add_zero] at h
      exact h
    · refine jT_xiload (v := (0, k)) (pcN := 45) jIH_14_43 rfl rfl rfl ?_
      refine jT_xbipush (k := 32) (pcN := 47) jIH_14_45 (by decide) rfl ?_
      refine jT_icF (a := k) (b := 32) (t := 99) (by rfl) (by rfl) (by rfl) (jw_idd (by omega) (by omega)) (jw_idd (by omega) (by omega)) (by simp only [jcP] <;> omega) ?_
      refine jT_xlload (v := (1, u)) (pcN := 52) jIH_14_50 rfl rfl rfl ?_
      refine jT_xlconst (z := 0) (pcN := 53) jIH_14_52 rfl rfl ?_
      refine jT_lcmp (a := u) (b := 0) (z := 1) (by rfl) (by rfl) (jwl_idd (by omega) (by omega)) (jwl_idd (by omega) (by omega)) (by rw [decide_eq_true (show (0 : Int) < u by omega)]; rfl) ?_
      refine jT_xifF (t := 99) (pcN := 57) jIH_14_54 rfl (by decide +kernel) rfl rfl ?_
      refine jT_xlload (v := (1, u)) (pcN := 59) jIH_14_57 rfl rfl rfl ?_
      refine jT_adv 1 (pcN := 62) (LN := [(10, (0, k)), (4, (1, u)), (6, (1, y6)), (8, (4, 0)), (9, (0, 2))]) (stN := [(5, 3), (1, u)]) (hsN := [(101, [], [e0, e1, e2, e3, e4, e5])]) (c1 := 0) (s1 := 0) (c2 := b1) (s2 := b2) (by exact rfl) ?_ (by omega) (by omega)
      refine jT_xiload (v := (0, 2)) (pcN := 64) jIH_14_62 rfl rfl rfl ?_
      refine jT_adv 1 (pcN := 65) (LN := [(10, (0, k)), (4, (1, u)), (6, (1, y6)), (8, (4, 0)), (9, (0, 2))]) (stN := [(0, 5), (1, u)]) (hsN := [(101, [], [e0, e1, e2, e3, e4, e5])]) (c1 := 0) (s1 := 0) (c2 := b1) (s2 := b2) (by exact rfl) ?_ (by omega) (by omega)
      refine jT_xi2l (x := 5) (z := 5) (pcN := 66) jIH_14_65 rfl (by decide +kernel) rfl ?_
      refine jT_lrem (a := u) (b := 5) (by rfl) (by rfl) (jwl_idd (by omega) (by omega)) (jwl_idd (by omega) (by omega)) (by omega) ?_
      have hb_q1 := jtm_b (x := u) (y := 5) (by omega) (by omega)
      have hb_q1 : 0 ≤ u.tmod 5 ∧ u.tmod 5 ≤ 4 := ⟨hb_q1.1, by omega⟩
      generalize hq_q1 : u.tmod 5 = q1 at hb_q1 g_0 ⊢
      refine jT_xlconst (z := 0) (pcN := 68) jIH_14_67 rfl rfl ?_
      refine jT_lcmp (a := q1) (b := 0) (z := 0) (by rfl) (by rfl) (jwl_idd (by omega) (by omega)) (jwl_idd (by omega) (by omega)) (by rw [decide_eq_false (show ¬ ((0 : Int) < q1) by omega), decide_eq_true (show (q1 : Int) = 0 by omega)]; rfl) ?_
      refine jT_xifF (t := 99) (pcN := 72) jIH_14_69 rfl (by decide +kernel) rfl rfl ?_
      refine jT_xlload (v := (1, u)) (pcN := 74) jIH_14_72 rfl rfl rfl ?_
      refine jT_adv 1 (pcN := 77) (LN := [(10, (0, k)), (4, (1, u)), (6, (1, y6)), (8, (4, 0)), (9, (0, 2))]) (stN := [(5, 3), (1, u)]) (hsN := [(101, [], [e0, e1, e2, e3, e4, e5])]) (c1 := 0) (s1 := 0) (c2 := b1) (s2 := b2) (by exact rfl) ?_ (by omega) (by omega)
      refine jT_xiload (v := (0, 2)) (pcN := 79) jIH_14_77 rfl rfl rfl ?_
      refine jT_adv 1 (pcN := 80) (LN := [(10, (0, k)), (4, (1, u)), (6, (1, y6)), (8, (4, 0)), (9, (0, 2))]) (stN := [(0, 5), (1, u)]) (hsN := [(101, [], [e0, e1, e2, e3, e4, e5])]) (c1 := 0) (s1 := 0) (c2 := b1) (s2 := b2) (by exact rfl) ?_ (by omega) (by omega)
      refine jT_xi2l (x := 5) (z := 5) (pcN := 81) jIH_14_80 rfl (by decide +kernel) rfl ?_
      refine jT_ldiv (a := u) (b := 5) (by rfl) (by rfl) (jwl_idd (by omega) (by omega)) (jwl_idd (by omega) (by omega)) (by omega) ?_
      have hb_q2 := jtd_b0 (x := u) (y := 5) (by omega) (by omega)
      have hb_q2 : 0 ≤ u.tdiv 5 ∧ u.tdiv 5 ≤ 1000000 := ⟨hb_q2.1, by omega⟩
      generalize hq_q2 : u.tdiv 5 = q2 at hb_q2 ⊢
      refine jT_xlstore (v := (1, q2)) (LN := [(4, (1, q2)), (10, (0, k)), (6, (1, y6)), (8, (4, 0)), (9, (0, 2))]) (pcN := 84) jIH_14_82 rfl rfl rfl rfl ?_
      refine jT_xaload (v := (4, 0)) (pcN := 86) jIH_14_84 rfl rfl rfl ?_
      refine jT_xiload (v := (0, 2)) (pcN := 88) jIH_14_86 rfl rfl rfl ?_
      refine jT_adv 1 (pcN := 89) (LN := [(4, (1, q2)), (10, (0, k)), (6, (1, y6)), (8, (4, 0)), (9, (0, 2))]) (stN := [(0, 2), (4, 0), (0, 2), (4, 0)]) (hsN := [(101, [], [e0, e1, e2, e3, e4, e5])]) (c1 := 0) (s1 := 0) (c2 := b1) (s2 := b2) (by exact rfl) ?_ (by omega) (by omega)
      refine jT_lald (x := e2) (a := 0) (j := 2) (fs := []) (X := [e0, e1, e2, e3, e4, e5]) jIH_14_89 rfl rfl rfl rfl ?_
      refine jT_eq (LN := [(4, (1, q2)), (10, (0, k)), (6, (1, y6)), (8, (4, 0)), (9, (0, 2))]) (stN := [(1, e2), (0, 2), (4, 0)]) (hsN := [(101, [], [e0, e1, e2, e3, e4, e5])]) rfl rfl rfl ?_
      refine jT_xlconst (z := 1) (pcN := 91) jIH_14_90 rfl rfl ?_
      refine jT_xladd (x := e2) (y := 1) (z := e2 + 1) (pcN := 92) jIH_14_91 rfl (rfl) rfl ?_
      refine jT_adv 1 (pcN := 93) (LN := [(4, (1, q2)), (10, (0, k)), (6, (1, y6)), (8, (4, 0)), (9, (0, 2))]) (stN := []) (hsN := [(101, [], [e0, e1, e2 + 1, e3, e4, e5])]) (c1 := 0) (s1 := 0) (c2 := b1) (s2 := b2) (by exact rfl) ?_ (by omega) (by omega)
      refine jT_xiinc (x := k) (z := k + 1) (LN := [(10, (0, k + 1)), (4, (1, q2)), (6, (1, y6)), (8, (4, 0)), (9, (0, 2))]) (pcN := 96) jIH_14_93 rfl rfl (rfl) rfl rfl ?_
      refine jT_xgoto (pcN := 43) jIH_14_96 rfl ?_
      refine jT_loc (LN := [(10, (0, k + 1)), (4, (1, q2)), (6, (1, y6)), (8, (4, 0)), (9, (0, 2))]) (by show List.Nodup [10, 4, 6, 8, 9]; decide) (by intro q hq; simp only [List.mem_cons, List.not_mem_nil, or_false] at hq; rcases hq with rfl | rfl | rfl | rfl | rfl <;> rfl) ?_
      have hs := jst_s (P := 5) (u := u) (n := n) (by decide) h1 hu (by omega)
      rw [hq_q2] at hs
      rw [jsu_1 (by omega), jsc_1 (by omega), hq_q2, show e2 + (jsc 5 n q2 + 1) = e2 + 1 + jsc 5 n q2 by omega] at h
      exact ih (k + 1) q2 (e2 + 1) (by omega) (by omega) (by omega) (by omega) hs.2.1 h
theorem jHl_fr_30 {xs : List Int} {d b1 b2 : Nat} {Q : Nat → JV → List JC → Prop} {y4 e0 e1 e3 e4 e5 : Int} : ∀ (n : Nat) (k u e2 : Int), 0 ≤ k → k + (n : Int) ≤ 32 → 1 ≤ u → u ≤ 1000000 → u < jp2 n → jT xs d 14 0 158 [(6, (1, jsu 5 n u)), (4, (1, y4)), (8, (4, 0)), (9, (0, 2))] [] [(101, [], [e0, e1, e2 - jsc 5 n u, e3, e4, e5])] b1 b2 Q → jT xs d 14 0 102 [(10, (0, k)), (6, (1, u)), (4, (1, y4)), (8, (4, 0)), (9, (0, 2))] [] [(101, [], [e0, e1, e2, e3, e4, e5])] b1 b2 Q := by
  intro n
  induction n with
  | zero =>
    intro k u e2 hk hkn h1 h2 hu h
    exact absurd (show u < 1 from hu) (by omega)
  | succ n ih =>
    intro k u e2 hk hkn h1 h2 hu h
    have h_u : 1 ≤ u ∧ u ≤ 1000000 := ⟨h1, h2⟩
    have h_k : 0 ≤ k ∧ k ≤ 31 := by omega
    rcases (show (0 ≤ (u.tmod 5) - 1) ∨ ((u.tmod 5) - 1 < 0) by omega) with g_0 | g_0
    · refine jT_xiload (v := (0, k)) (pcN := 104) jIH_14_102 rfl rfl rfl ?_
      refine jT_xbipush (k := 32) (pcN := 106) jIH_14_104 (by decide) rfl ?_
      refine jT_icF (a := k) (b := 32) (t := 158) (by rfl) (by rfl) (by rfl) (jw_idd (by omega) (by omega)) (jw_idd (by omega) (by omega)) (by simp only [jcP] <;> omega) ?_
      refine jT_xlload (v := (1, u)) (pcN := 111) jIH_14_109 rfl rfl rfl ?_
      refine jT_xlconst (z := 0) (pcN := 112) jIH_14_111 rfl rfl ?_
      refine jT_lcmp (a := u) (b := 0) (z := 1) (by rfl) (by rfl) (jwl_idd (by omega) (by omega)) (jwl_idd (by omega) (by omega)) (by rw [decide_eq_true (show (0 : Int) < u by omega)]; rfl) ?_
      refine jT_xifF (t := 158) (pcN := 116) jIH_14_113 rfl (by decide +kernel) rfl rfl ?_
      refine jT_xlload (v := (1, u)) (pcN := 118) jIH_14_116 rfl rfl rfl ?_
      refine jT_adv 1 (pcN := 121) (LN := [(10, (0, k)), (6, (1, u)), (4, (1, y4)), (8, (4, 0)), (9, (0, 2))]) (stN := [(5, 3), (1, u)]) (hsN := [(101, [], [e0, e1, e2, e3, e4, e5])]) (c1 := 0) (s1 := 0) (c2 := b1) (s2 := b2) (by exact rfl) ?_ (by omega) (by omega)
      refine jT_xiload (v := (0, 2)) (pcN := 123) jIH_14_121 rfl rfl rfl ?_
      refine jT_adv 1 (pcN := 124) (LN := [(10, (0, k)), (6, (1, u)), (4, (1, y4)), (8, (4, 0)), (9, (0, 2))]) (stN := [(0, 5), (1, u)]) (hsN := [(101, [], [e0, e1, e2, e3, e4, e5])]) (c1 := 0) (s1 := 0) (c2 := b1) (s2 := b2) (by exact rfl) ?_ (by omega) (by omega)
      refine jT_xi2l (x := 5) (z := 5) (pcN := 125) jIH_14_124 rfl (by decide +kernel) rfl ?_
      refine jT_lrem (a := u) (b := 5) (by rfl) (by rfl) (jwl_idd (by omega) (by omega)) (jwl_idd (by omega) (by omega)) (by omega) ?_
      have hb_q1 := jtm_b (x := u) (y := 5) (by omega) (by omega)
      have hb_q1 : 0 ≤ u.tmod 5 ∧ u.tmod 5 ≤ 4 := ⟨hb_q1.1, by omega⟩
      generalize hq_q1 : u.tmod 5 = q1 at hb_q1 g_0 ⊢
      refine jT_xlconst (z := 0) (pcN := 127) jIH_14_126 rfl rfl ?_
      refine jT_lcmp (a := q1) (b := 0) (z := 1) (by rfl) (by rfl) (jwl_idd (by omega) (by omega)) (jwl_idd (by omega) (by omega)) (by rw [decide_eq_true (show (0 : Int) < q1 by omega)]; rfl) ?_
      refine jT_xifT (pcN := 158) jIH_14_128 rfl (by decide +kernel) rfl ?_
      refine jT_loc (LN := [(6, (1, u)), (4, (1, y4)), (8, (4, 0)), (9, (0, 2))]) (by show List.Nodup [6, 4, 8, 9]; decide) (by intro q hq; simp only [List.mem_cons, List.not_mem_nil, or_false] at hq; rcases hq with rfl | rfl | rfl | rfl <;> rfl) ?_
      rw [jsu_0 (by omega), jsc_0 (by omega), Int.sub_zero] at h
      exact h
    · refine jT_xiload (v := (0, k)) (pcN := 104) jIH_14_102 rfl rfl rfl ?_
      refine jT_xbipush (k := 32) (pcN := 106) jIH_14_104 (by decide) rfl ?_
      refine jT_icF (a := k) (b := 32) (t := 158) (by rfl) (by rfl) (by rfl) (jw_idd (by omega) (by omega)) (jw_idd (by omega) (by omega)) (by simp only [jcP] <;> omega) ?_
      refine jT_xlload (v := (1, u)) (pcN := 111) jIH_14_109 rfl rfl rfl ?_
      refine jT_xlconst (z := 0) (pcN := 112) jIH_14_111 rfl rfl ?_
      refine jT_lcmp (a := u) (b := 0) (z := 1) (by rfl) (by rfl) (jwl_idd (by omega) (by omega)) (jwl_idd (by omega) (by omega)) (by rw [decide_eq_true (show (0 : Int) < u by omega)]; rfl) ?_
      refine jT_xifF (t := 158) (pcN := 116) jIH_14_113 rfl (by decide +kernel) rfl rfl ?_
      refine jT_xlload (v := (1, u)) (pcN := 118) jIH_14_116 rfl rfl rfl ?_
      refine jT_adv 1 (pcN := 121) (LN := [(10, (0, k)), (6, (1, u)), (4, (1, y4)), (8, (4, 0)), (9, (0, 2))]) (stN := [(5, 3), (1, u)]) (hsN := [(101, [], [e0, e1, e2, e3, e4, e5])]) (c1 := 0) (s1 := 0) (c2 := b1) (s2 := b2) (by exact rfl) ?_ (by omega) (by omega)
      refine jT_xiload (v := (0, 2)) (pcN := 123) jIH_14_121 rfl rfl rfl ?_
      refine jT_adv 1 (pcN := 124) (LN := [(10, (0, k)), (6, (1, u)), (4, (1, y4)), (8, (4, 0)), (9, (0, 2))]) (stN := [(0, 5), (1, u)]) (hsN := [(101, [], [e0, e1, e2, e3, e4, e5])]) (c1 := 0) (s1 := 0) (c2 := b1) (s2 := b2) (by exact rfl) ?_ (by omega) (by omega)
      refine jT_xi2l (x := 5) (z := 5) (pcN := 125) jIH_14_124 rfl (by decide +kernel) rfl ?_
      refine jT_lrem (a := u) (b := 5) (by rfl) (by rfl) (jwl_idd (by omega) (by omega)) (jwl_idd (by omega) (by omega)) (by omega) ?_
      have hb_q1 := jtm_b (x := u) (y := 5) (by omega) (by omega)
      have hb_q1 : 0 ≤ u.tmod 5 ∧ u.tmod 5 ≤ 4 := ⟨hb_q1.1, by omega⟩
      generalize hq_q1 : u.tmod 5 = q1 at hb_q1 g_0 ⊢
      refine jT_xlconst (z := 0) (pcN := 127) jIH_14_126 rfl rfl ?_
      refine jT_lcmp (a := q1) (b := 0) (z := 0) (by rfl) (by rfl) (jwl_idd (by omega) (by omega)) (jwl_idd (by omega) (by omega)) (by rw [decide_eq_false (show ¬ ((0 : Int) < q1) by omega), decide_eq_true (show (q1 : Int) = 0 by omega)]; rfl) ?_
      refine jT_xifF (t := 158) (pcN := 131) jIH_14_128 rfl (by decide +kernel) rfl rfl ?_
      refine jT_xlload (v := (1, u)) (pcN := 133) jIH_14_131 rfl rfl rfl ?_
      refine jT_adv 1 (pcN := 136) (LN := [(10, (0, k)), (6, (1, u)), (4, (1, y4)), (8, (4, 0)), (9, (0, 2))]) (stN := [(5, 3), (1, u)]) (hsN := [(101, [], [e0, e1, e2, e3, e4, e5])]) (c1 := 0) (s1 := 0) (c2 := b1) (s2 := b2) (by exact rfl) ?_ (by omega) (by omega)
      refine jT_xiload (v := (0, 2)) (pcN := 138) jIH_14_136 rfl rfl rfl ?_
      refine jT_adv 1 (pcN := 139) (LN := [(10, (0, k)), (6, (1, u)), (4, (1, y4)), (8, (4, 0)), (9, (0, 2))]) (stN := [(0, 5), (1, u)]) (hsN := [(101, [], [e0, e1, e2, e3, e4, e5])]) (c1 := 0) (s1 := 0) (c2 := b1) (s2 := b2) (by exact rfl) ?_ (by omega) (by omega)
      refine jT_xi2l (x := 5) (z := 5) (pcN := 140) jIH_14_139 rfl (by decide +kernel) rfl ?_
      refine jT_ldiv (a := u) (b := 5) (by rfl) (by rfl) (jwl_idd (by omega) (by omega)) (jwl_idd (by omega) (by omega)) (by omega) ?_
      have hb_q2 := jtd_b0 (x := u) (y := 5) (by omega) (by omega)
      have hb_q2 : 0 ≤ u.tdiv 5 ∧ u.tdiv 5 ≤ 1000000 := ⟨hb_q2.1, by omega⟩
      generalize hq_q2 : u.tdiv 5 = q2 at hb_q2 ⊢
      refine jT_xlstore (v := (1, q2)) (LN := [(6, (1, q2)), (10, (0, k)), (4, (1, y4)), (8, (4, 0)), (9, (0, 2))]) (pcN := 143) jIH_14_141 rfl rfl rfl rfl ?_
      refine jT_xaload (v := (4, 0)) (pcN := 145) jIH_14_143 rfl rfl rfl ?_
      refine jT_xiload (v := (0, 2)) (pcN := 147) jIH_14_145 rfl rfl rfl ?_
      refine jT_adv 1 (pcN := 148) (LN := [(6, (1, q2)), (10, (0, k)), (4, (1, y4)), (8, (4, 0)), (9, (0, 2))]) (stN := [(0, 2), (4, 0), (0, 2), (4, 0)]) (hsN := [(101, [], [e0, e1, e2, e3, e4, e5])]) (c1 := 0) (s1 := 0) (c2 := b1) (s2 := b2) (by exact rfl) ?_ (by omega) (by omega)
      refine jT_lald (x := e2) (a := 0) (j := 2) (fs := []) (X := [e0, e1, e2, e3, e4, e5]) jIH_14_148 rfl rfl rfl rfl ?_
      refine jT_eq (LN := [(6, (1, q2)), (10, (0, k)), (4, (1, y4)), (8, (4, 0)), (9, (0, 2))]) (stN := [(1, e2), (0, 2), (4, 0)]) (hsN := [(101, [], [e0, e1, e2, e3, e4, e5])]) rfl rfl rfl ?_
      refine jT_xlconst (z := 1) (pcN := 150) jIH_14_149 rfl rfl ?_
      refine jT_xlsub (x := e2) (y := 1) (z := e2 - 1) (pcN := 151) jIH_14_150 rfl (rfl) rfl ?_
      refine jT_adv 1 (pcN := 152) (LN := [(6, (1, q2)), (10, (0, k)), (4, (1, y4)), (8, (4, 0)), (9, (0, 2))]) (stN := []) (hsN := [(101, [], [e0, e1, e2 - 1, e3, e4, e5])]) (c1 := 0) (s1 := 0) (c2 := b1) (s2 := b2) (by exact rfl) ?_ (by omega) (by omega)
      refine jT_xiinc (x := k) (z := k + 1) (LN := [(10, (0, k + 1)), (6, (1, q2)), (4, (1, y4)), (8, (4, 0)), (9, (0, 2))]) (pcN := 155) jIH_14_152 rfl rfl (rfl) rfl rfl ?_
      refine jT_xgoto (pcN := 102) jIH_14_155 rfl ?_
      refine jT_loc (LN := [(10, (0, k + 1)), (6, (1, q2)), (4, (1, y4)), (8, (4, 0)), (9, (0, 2))]) (by show List.Nodup [10, 6, 4, 8, 9]; decide) (by intro q hq; simp only [List.mem_cons, List.not_mem_nil, or_false] at hq; rcases hq with rfl | rfl | rfl | rfl | rfl <;> rfl) ?_
      have hs := jst_s (P := 5) (u := u) (n := n) (by decide) h1 hu (by omega)
      rw [hq_q2] at hs
      rw [jsu_1 (by omega), jsc_1 (by omega), hq_q2, show e2 - (jsc 5 n q2 + 1) = e2 - 1 - jsc 5 n q2 by omega] at h
      exact ih (k + 1) q2 (e2 - 1) (by omega) (by omega) (by omega) (by omega) hs.2.1 h
theorem jHl_fr_31 {xs : List Int} {d b1 b2 : Nat} {Q : Nat → JV → List JC → Prop} {y6 e0 e1 e2 e4 e5 : Int} : ∀ (n : Nat) (k u e3 : Int), 0 ≤ k → k + (n : Int) ≤ 32 → 1 ≤ u → u ≤ 1000000 → u < jp2 n → jT xs d 14 0 99 [(4, (1, jsu 7 n u)), (6, (1, y6)), (8, (4, 0)), (9, (0, 3))] [] [(101, [], [e0, e1, e2, e3 + jsc 7 n u, e4, e5])] b1 b2 Q → jT xs d 14 0 43 [(10, (0, k)), (4, (1, u)), (6, (1, y6)), (8, (4, 0)), (9, (0, 3))] [] [(101, [], [e0, e1, e2, e3, e4, e5])] b1 b2 Q := by
  intro n
  induction n with
  | zero =>
    intro k u e3 hk hkn h1 h2 hu h
    exact absurd (show u < 1 from hu) (by omega)
  | succ n ih =>
    intro k u e3 hk hkn h1 h2 hu h
    have h_u : 1 ≤ u ∧ u ≤ 1000000 := ⟨h1, h2⟩
    have h_k : 0 ≤ k ∧ k ≤ 31 := by omega
    rcases (show (0 ≤ (u.tmod 7) - 1) ∨ ((u.tmod 7) - 1 < 0) by omega) with g_0 | g_0
    · refine jT_xiload (v := (0, k)) (pcN := 45) jIH_14_43 rfl rfl rfl ?_
      refine jT_xbipush (k := 32) (pcN := 47) jIH_14_45 (by decide) rfl ?_
      refine jT_icF (a := k) (b := 32) (t := 99) (by rfl) (by rfl) (by rfl) (jw_idd (by omega) (by omega)) (jw_idd (by omega) (by omega)) (by simp only [jcP] <;> omega) ?_
      refine jT_xlload (v := (1, u)) (pcN := 52) jIH_14_50 rfl rfl rfl ?_
      refine jT_xlconst (z := 0) (pcN := 53) jIH_14_52 rfl rfl ?_
      refine jT_lcmp (a := u) (b := 0) (z := 1) (by rfl) (by rfl) (jwl_idd (by omega) (by omega)) (jwl_idd (by omega) (by omega)) (by rw [decide_eq_true (show (0 : Int) < u by omega)]; rfl) ?_
      refine jT_xifF (t := 99) (pcN := 57) jIH_14_54 rfl (by decide +kernel) rfl rfl ?_
      refine jT_xlload (v := (1, u)) (pcN := 59) jIH_14_57 rfl rfl rfl ?_
      refine jT_adv 1 (pcN := 62) (LN := [(10, (0, k)), (4, (1, u)), (6, (1, y6)), (8, (4, 0)), (9, (0, 3))]) (stN := [(5, 3), (1, u)]) (hsN := [(101, [], [e0, e1, e2, e3, e4, e5])]) (c1 := 0) (s1 := 0) (c2 := b1) (s2 := b2) (by exact rfl) ?_ (by omega) (by omega)
      refine jT_xiload (v := (0, 3)) (pcN := 64) jIH_14_62 rfl rfl rfl ?_
      refine jT_adv 1 (pcN := 65) (LN := [(10, (0, k)), (4, (1, u)), (6, (1, y6)), (8, (4, 0)), (9, (0, 3))]) (stN := [(0, 7), (1, u)]) (hsN := [(101, [], [e0, e1, e2, e3, e4, e5])]) (c1 := 0) (s1 := 0) (c2 := b1) (s2 := b2) (by exact rfl) ?_ (by omega) (by omega)
      refine jT_xi2l (x := 7) (z := 7) (pcN := 66) jIH_14_65 rfl (by decide +kernel) rfl ?_
      refine jT_lrem (a := u) (b := 7) (by rfl) (by rfl) (jwl_idd (by omega) (by omega)) (jwl_idd (by omega) (by omega)) (by omega) ?_
      have hb_q1 := jtm_b (x := u) (y := 7) (by omega) (by omega)
      have hb_q1 : 0 ≤ u.tmod 7 ∧ u.tmod 7 ≤ 6 := ⟨hb_q1.1, by omega⟩
      generalize hq_q1 : u.tmod 7 = q1 at hb_q1 g_0 ⊢
      refine jT_xlconst (z := 0) (pcN := 68) jIH_14_67 rfl rfl ?_
      refine jT_lcmp (a := q1) (b := 0) (z := 1) (by rfl) (by rfl) (jwl_idd (by omega) (by omega)) (jwl_idd (by omega) (by omega)) (by rw [decide_eq_true (show (0 : Int) < q1 by omega)]; rfl) ?_
      refine jT_xifT (pcN := 99) jIH_14_69 rfl (by decide +kernel) rfl ?_
      refine jT_loc (LN := [(4, (1, u)), (6, (1, y6)), (8, (4, 0)), (9, (0, 3))]) (by show List.Nodup [4, 6, 8, 9]; decide) (by intro q hq; simp only [List.mem_cons, List.not_mem_nil, or_false] at hq; rcases hq with rfl | rfl | rfl | rfl <;> rfl) ?_
      rw [jsu_0 (by omega), jsc_0 (by omega), Int.add_zero] at h
      exact h
    · refine jT_xiload (v := (0, k)) (pcN := 45) jIH_14_43 rfl rfl rfl ?_
      refine jT_xbipush (k := 32) (pcN := 47) jIH_14_45 (by decide) rfl ?_
      refine jT_icF (a := k) (b := 32) (t := 99) (by rfl) (by rfl) (by rfl) (jw_idd (by omega) (by omega)) (jw_idd (by omega) (by omega)) (by simp only [jcP] <;> omega) ?_
      refine jT_xlload (v := (1, u)) (pcN := 52) jIH_14_50 rfl rfl rfl ?_
      refine jT_xlconst (z := 0) (pcN := 53) jIH_14_52 rfl rfl ?_
      refine jT_lcmp (a := u) (b := 0) (z := 1) (by rfl) (by rfl) (jwl_idd (by omega) (by omega)) (jwl_idd (by omega) (by omega)) (by rw [decide_eq_true (show (0 : Int) < u by omega)]; rfl) ?_
      refine jT_xifF (t := 99) (pcN := 57) jIH_14_54 rfl (by decide +kernel) rfl rfl ?_
      refine jT_xlload (v := (1, u)) (pcN := 59) jIH_14_57 rfl rfl rfl ?_
      refine jT_adv 1 (pcN := 62) (LN := [(10, (0, k)), (4, (1, u)), (6, (1, y6)), (8, (4, 0)), (9, (0, 3))]) (stN := [(5, 3), (1, u)]) (hsN := [(101, [], [e0, e1, e2, e3, e4, e5])]) (c1 := 0) (s1 := 0) (c2 := b1) (s2 := b2) (by exact rfl) ?_ (by omega) (by omega)
      refine jT_xiload (v := (0, 3)) (pcN := 64) jIH_14_62 rfl rfl rfl ?_
      refine jT_adv 1 (pcN := 65) (LN := [(10, (0, k)), (4, (1, u)), (6, (1, y6)), (8, (4, 0)), (9, (0, 3))]) (stN := [(0, 7), (1, u)]) (hsN := [(101, [], [e0, e1, e2, e3, e4, e5])]) (c1 := 0) (s1 := 0) (c2 := b1) (s2 := b2) (by exact rfl) ?_ (by omega) (by omega)
      refine jT_xi2l (x := 7) (z := 7) (pcN := 66) jIH_14_65 rfl (by decide +kernel) rfl ?_
      refine jT_lrem (a := u) (b := 7) (by rfl) (by rfl) (jwl_idd (by omega) (by omega)) (jwl_idd (by omega) (by omega)) (by omega) ?_
      have hb_q1 := jtm_b (x := u) (y := 7) (by omega) (by omega)
      have hb_q1 : 0 ≤ u.tmod 7 ∧ u.tmod 7 ≤ 6 := ⟨hb_q1.1, by omega⟩
      generalize hq_q1 : u.tmod 7 = q1 at hb_q1 g_0 ⊢
      refine jT_xlconst (z := 0) (pcN := 68) jIH_14_67 rfl rfl ?_
      refine jT_lcmp (a := q1) (b := 0) (z := 0) (by rfl) (by rfl) (jwl_idd (by omega) (by omega)) (jwl_idd (by omega) (by omega)) (by rw [decide_eq_false (show ¬ ((0 : Int) < q1) by omega), decide_eq_true (show (q1 : Int) = 0 by omega)]; rfl) ?_
      refine jT_xifF (t := 99) (pcN := 72) jIH_14_69 rfl (by decide +kernel) rfl rfl ?_
      refine jT_xlload (v := (1, u)) (pcN := 74) jIH_14_72 rfl rfl rfl ?_
      refine jT_adv 1 (pcN := 77) (LN := [(10, (0, k)), (4, (1, u)), (6, (1, y6)), (8, (4, 0)), (9, (0, 3))]) (stN := [(5, 3), (1, u)]) (hsN := [(101, [], [e0, e1, e2, e3, e4, e5])]) (c1 := 0) (s1 := 0) (c2 := b1) (s2 := b2) (by exact rfl) ?_ (by omega) (by omega)
      refine jT_xiload (v := (0, 3)) (pcN := 79) jIH_14_77 rfl rfl rfl ?_
      refine jT_adv 1 (pcN := 80) (LN := [(10, (0, k)), (4, (1, u)), (6, (1, y6)), (8, (4, 0)), (9, (0, 3))]) (stN := [(0, 7), (1, u)]) (hsN := [(101, [], [e0, e1, e2, e3, e4, e5])]) (c1 := 0) (s1 := 0) (c2 := b1) (s2 := b2) (by exact rfl) ?_ (by omega) (by omega)
      refine jT_xi2l (x := 7) (z := 7) (pcN := 81) jIH_14_80 rfl (by decide +kernel) rfl ?_
      refine jT_ldiv (a := u) (b := 7) (by rfl) (by rfl) (jwl_idd (by omega) (by omega)) (jwl_idd (by omega) (by omega)) (by omega) ?_
      have hb_q2 := jtd_b0 (x := u) (y := 7) (by omega) (by omega)
      have hb_q2 : 0 ≤ u.tdiv 7 ∧ u.tdiv 7 ≤ 1000000 := ⟨hb_q2.1, by omega⟩
      generalize hq_q2 : u.tdiv 7 = q2 at hb_q2 ⊢
      refine jT_xlstore (v := (1, q2)) (LN := [(4, (1, q2)), (10, (0, k)), (6, (1, y6)), (8, (4, 0)), (9, (0, 3))]) (pcN := 84) jIH_14_82 rfl rfl rfl rfl ?_
      refine jT_xaload (v := (4, 0)) (pcN := 86) jIH_14_84 rfl rfl rfl ?_
      refine jT_xiload (v := (0, 3)) (pcN := 88) jIH_14_86 rfl rfl rfl ?_
      refine jT_adv 1 (pcN := 89) (LN := [(4, (1, q2)), (10, (0, k)), (6, (1, y6)), (8, (4, 0)), (9, (0, 3))]) (stN := [(0, 3), (4, 0), (0, 3), (4, 0)]) (hsN := [(101, [], [e0, e1, e2, e3, e4, e5])]) (c1 := 0) (s1 := 0) (c2 := b1) (s2 := b2) (by exact rfl) ?_ (by omega) (by omega)
      refine jT_lald (x := e3) (a := 0) (j := 3) (fs := []) (X := [e0, e1, e2, e3, e4, e5]) jIH_14_89 rfl rfl rfl rfl ?_
      refine jT_eq (LN := [(4, (1, q2)), (10, (0, k)), (6, (1, y6)), (8, (4, 0)), (9, (0, 3))]) (stN := [(1, e3), (0, 3), (4, 0)]) (hsN := [(101, [], [e0, e1, e2, e3, e4, e5])]) rfl rfl rfl ?_
      refine jT_xlconst (z := 1) (pcN := 91) jIH_14_90 rfl rfl ?_
      refine jT_xladd (x := e3) (y := 1) (z := e3 + 1) (pcN := 92) jIH_14_91 rfl (rfl) rfl ?_
      refine jT_adv 1 (pcN := 93) (LN := [(4, (1, q2)), (10, (0, k)), (6, (1, y6)), (8, (4, 0)), (9, (0, 3))]) (stN := []) (hsN := [(101, [], [e0, e1, e2, e3 + 1, e4, e5])]) (c1 := 0) (s1 := 0) (c2 := b1) (s2 := b2) (by exact rfl) ?_ (by omega) (by omega)
      refine jT_xiinc (x := k) (z := k + 1) (LN := [(10, (0, k + 1)), (4, (1, q2)), (6, (1, y6)), (8, (4, 0)), (9, (0, 3))]) (pcN := 96) jIH_14_93 rfl rfl (rfl) rfl rfl ?_
      refine jT_xgoto (pcN := 43) jIH_14_96 rfl ?_
      refine jT_loc (LN := [(10, (0, k + 1)), (4, (1, q2)), (6, (1, y6)), (8, (4, 0)), (9, (0, 3))]) (by show List.Nodup [10, 4, 6, 8, 9]; decide) (by intro q hq; simp only [List.mem_cons, List.not_mem_nil, or_false] at hq; rcases hq with rfl | rfl | rfl | rfl | rfl <;> rfl) ?_
      have hs := jst_s (P := 7) (u := u) (n := n) (by decide) h1 hu (by omega)
      rw [hq_q2] at hs
      rw [jsu_1 (by omega), jsc_1 (by omega), hq_q2, show e3 + (jsc 7 n q2 + 1) = e3 + 1 + jsc 7 n q2 by omega] at h
      exact ih (k + 1) q2 (e3 + 1) (by omega) (by omega) (by omega) (by omega) hs.2.1 h
theorem jHl_fr_32 {xs : List Int} {d b1 b2 : Nat} {Q : Nat → JV → List JC → Prop} {y4 e0 e1 e2 e4 e5 : Int} : ∀ (n : Nat) (k u e3 : Int), 0 ≤ k → k + (n : Int) ≤ 32 → 1 ≤ u → u ≤ 1000000 → u < jp2 n → jT xs d 14 0 158 [(6, (1, jsu 7 n u)), (4, (1, y4)), (8, (4, 0)), (9, (0, 3))] [] [(101, [], [e0, e1, e2, e3 - jsc 7 n u, e4, e5])] b1 b2 Q → jT xs d 14 0 102 [(10, (0, k)), (6, (1, u)), (4, (1, y4)), (8, (4, 0)), (9, (0, 3))] [] [(101, [], [e0, e1, e2, e3, e4, e5])] b1 b2 Q := by
  intro n
  induction n with
  | zero =>
    intro k u e3 hk hkn h1 h2 hu h
    exact absurd (show u < 1 from hu) (by omega)
  | succ n ih =>
    intro k u e3 hk hkn h1 h2 hu h
    have h_u : 1 ≤ u ∧ u ≤ 1000000 := ⟨h1, h2⟩
    have h_k : 0 ≤ k ∧ k ≤ 31 := by omega
    rcases (show (0 ≤ (u.tmod 7) - 1) ∨ ((u.tmod 7) - 1 < 0) by omega) with g_0 | g_0
    · refine jT_xiload (v := (0, k)) (pcN := 104) jIH_14_102 rfl rfl rfl ?_
      refine jT_xbipush (k := 32) (pcN := 106) jIH_14_104 (by decide) rfl ?_
      refine jT_icF (a := k) (b := 32) (t := 158) (by rfl) (by rfl) (by rfl) (jw_idd (by omega) (by omega)) (jw_idd (by omega) (by omega)) (by simp only [jcP] <;> omega) ?_
      refine jT_xlload (v := (1, u)) (pcN := 111) jIH_14_109 rfl rfl rfl ?_
      refine jT_xlconst (z := 0) (pcN := 112) jIH_14_111 rfl rfl ?_
      refine jT_lcmp (a := u) (b := 0) (z := 1) (by rfl) (by rfl) (jwl_idd (by omega) (by omega)) (jwl_idd (by omega) (by omega)) (by rw [decide_eq_true (show (0 : Int) < u by omega)]; rfl) ?_
      refine jT_xifF (t := 158) (pcN := 116) jIH_14_113 rfl (by decide +kernel) rfl rfl ?_
      refine jT_xlload (v := (1, u)) (pcN := 118) jIH_14_116 rfl rfl rfl ?_
      refine jT_adv 1 (pcN := 121) (LN := [(10, (0, k)), (6, (1, u)), (4, (1, y4)), (8, (4, 0)), (9, (0, 3))]) (stN := [(5, 3), (1, u)]) (hsN := [(101, [], [e0, e1, e2, e3, e4, e5])]) (c1 := 0) (s1 := 0) (c2 := b1) (s2 := b2) (by exact rfl) ?_ (by omega) (by omega)
      refine jT_xiload (v := (0, 3)) (pcN := 123) jIH_14_121 rfl rfl rfl ?_
      refine jT_adv 1 (pcN := 124) (LN := [(10, (0, k)), (6, (1, u)), (4, (1, y4)), (8, (4, 0)), (9, (0, 3))]) (stN := [(0, 7), (1, u)]) (hsN := [(101, [], [e0, e1, e2, e3, e4, e5])]) (c1 := 0) (s1 := 0) (c2 := b1) (s2 := b2) (by exact rfl) ?_ (by omega) (by omega)
      refine jT_xi2l (x := 7) (z := 7) (pcN := 125) jIH_14_124 rfl (by decide +kernel) rfl ?_
      refine jT_lrem (a := u) (b := 7) (by rfl) (by rfl) (jwl_idd (by omega) (by omega)) (jwl_idd (by omega) (by omega)) (by omega) ?_
      have hb_q1 := jtm_b (x := u) (y := 7) (by omega) (by omega)
      have hb_q1 : 0 ≤ u.tmod 7 ∧ u.tmod 7 ≤ 6 := ⟨hb_q1.1, by omega⟩
      generalize hq_q1 : u.tmod 7 = q1 at hb_q1 g_0 ⊢
      refine jT_xlconst (z := 0) (pcN := 127) jIH_14_126 rfl rfl ?_
      refine jT_lcmp (a := q1) (b := 0) (z := 1) (by rfl) (by rfl) (jwl_idd (by omega) (by omega)) (jwl_idd (by omega) (by omega)) (by rw [decide_eq_true (show (0 : Int) < q1 by omega)]; rfl) ?_
      refine jT_xifT (pcN := 158) jIH_14_128 rfl (by decide +kernel) rfl ?_
      refine jT_loc (LN := [(6, (1, u)), (4, (1, y4)), (8, (4, 0)), (9, (0, 3))]) (by show List.Nodup [6, 4, 8, 9]; decide) (by intro q hq; simp only [List.mem_cons, List.not_mem_nil, or_false] at hq; rcases hq with rfl | rfl | rfl | rfl <;> rfl) ?_
      rw [jsu_0 (by omega), jsc_0 (by omega), Int.sub_zero] at h
      exact h
    · refine jT_xiload (v := (0, k)) (pcN := 104) jIH_14_102 rfl rfl rfl ?_
      refine jT_xbipush (k := 32) (pcN := 106) jIH_14_104 (by decide) rfl ?_
      refine jT_icF (a := k) (b := 32) (t := 158) (by rfl) (by rfl) (by rfl) (jw_idd (by omega) (by omega)) (jw_idd (by omega) (by omega)) (by simp only [jcP] <;> omega) ?_
      refine jT_xlload (v := (1, u)) (pcN := 111) jIH_14_109 rfl rfl rfl ?_
      refine jT_xlconst (z := 0) (pcN := 112) jIH_14_111 rfl rfl ?_
      refine jT_lcmp (a := u) (b := 0) (z := 1) (by rfl) (by rfl) (jwl_idd (by omega) (by omega)) (jwl_idd (by omega) (by omega)) (by rw [decide_eq_true (show (0 : Int) < u by omega)]; rfl) ?_
      refine jT_xifF (t := 158) (pcN := 116) jIH_14_113 rfl (by decide +kernel) rfl rfl ?_
      refine jT_xlload (v := (1, u)) (pcN := 118) jIH_14_116 rfl rfl rfl ?_
      refine jT_adv 1 (pcN := 121) (LN := [(10, (0, k)), (6, (1, u)), (4, (1, y4)), (8, (4, 0)), (9, (0, 3))]) (stN := [(5, 3), (1, u)]) (hsN := [(101, [], [e0, e1, e2, e3, e4, e5])]) (c1 := 0) (s1 := 0) (c2 := b1) (s2 := b2) (by exact rfl) ?_ (by omega) (by omega)
      refine jT_xiload (v := (0, 3)) (pcN := 123) jIH_14_121 rfl rfl rfl ?_
      refine jT_adv 1 (pcN := 124) (LN := [(10, (0, k)), (6, (1, u)), (4, (1, y4)), (8, (4, 0)), (9, (0, 3))]) (stN := [(0, 7), (1, u)]) (hsN := [(101, [], [e0, e1, e2, e3, e4, e5])]) (c1 := 0) (s1 := 0) (c2 := b1) (s2 := b2) (by exact rfl) ?_ (by omega) (by omega)
      refine jT_xi2l (x := 7) (z := 7) (pcN := 125) jIH_14_124 rfl (by decide +kernel) rfl ?_
      refine jT_lrem (a := u) (b := 7) (by rfl) (by rfl) (jwl_idd (by omega) (by omega)) (jwl_idd (by omega) (by omega)) (by omega) ?_
      have hb_q1 := jtm_b (x := u) (y := 7) (by omega) (by omega)
      have hb_q1 : 0 ≤ u.tmod 7 ∧ u.tmod 7 ≤ 6 := ⟨hb_q1.1, by omega⟩
      generalize hq_q1 : u.tmod 7 = q1 at hb_q1 g_0 ⊢
      refine jT_xlconst (z := 0) (pcN := 127) jIH_14_126 rfl rfl ?_
      refine jT_lcmp (a := q1) (b := 0) (z := 0) (by rfl) (by rfl) (jwl_idd (by omega) (by omega)) (jwl_idd (by omega) (by omega)) (by rw [decide_eq_false (show ¬ ((0 : Int) < q1) by omega), decide_eq_true (show (q1 : Int) = 0 by omega)]; rfl) ?_
      refine jT_xifF (t := 158) (pcN := 131) jIH_14_128 rfl (by decide +kernel) rfl rfl ?_
      refine jT_xlload (v := (1, u)) (pcN := 133) jIH_14_131 rfl rfl rfl ?_
      refine jT_adv 1 (pcN := 136) (LN := [(10, (0, k)), (6, (1, u)), (4, (1, y4)), (8, (4, 0)), (9, (0, 3))]) (stN := [(5, 3), (1, u)]) (hsN := [(101, [], [e0, e1, e2, e3, e4, e5])]) (c1 := 0) (s1 := 0) (c2 := b1) (s2 := b2) (by exact rfl) ?_ (by omega) (by omega)
      refine jT_xiload (v := (0, 3)) (pcN := 138) jIH_14_136 rfl rfl rfl ?_
      refine jT_adv 1 (pcN := 139) (LN := [(10, (0, k)), (6, (1, u)), (4, (1, y4)), (8, (4, 0)), (9, (0, 3))]) (stN := [(0, 7), (1, u)]) (hsN := [(101, [], [e0, e1, e2, e3, e4, e5])]) (c1 := 0) (s1 := 0) (c2 := b1) (s2 := b2) (by exact rfl) ?_ (by omega) (by omega)
      refine jT_xi2l (x := 7) (z := 7) (pcN := 140) jIH_14_139 rfl (by decide +kernel) rfl ?_
      refine jT_ldiv (a := u) (b := 7) (by rfl) (by rfl) (jwl_idd (by omega) (by omega)) (jwl_idd (by omega) (by omega)) (by omega) ?_
      have hb_q2 := jtd_b0 (x := u) (y := 7) (by omega) (by omega)
      have hb_q2 : 0 ≤ u.tdiv 7 ∧ u.tdiv 7 ≤ 1000000 := ⟨hb_q2.1, by omega⟩
      generalize hq_q2 : u.tdiv 7 = q2 at hb_q2 ⊢
      refine jT_xlstore (v := (1, q2)) (LN := [(6, (1, q2)), (10, (0, k)), (4, (1, y4)), (8, (4, 0)), (9, (0, 3))]) (pcN := 143) jIH_14_141 rfl rfl rfl rfl ?_
      refine jT_xaload (v := (4, 0)) (pcN := 145) jIH_14_143 rfl rfl rfl ?_
      refine jT_xiload (v := (0, 3)) (pcN := 147) jIH_14_145 rfl rfl rfl ?_
      refine jT_adv 1 (pcN := 148) (LN := [(6, (1, q2)), (10, (0, k)), (4, (1, y4)), (8, (4, 0)), (9, (0, 3))]) (stN := [(0, 3), (4, 0), (0, 3), (4, 0)]) (hsN := [(101, [], [e0, e1, e2, e3, e4, e5])]) (c1 := 0) (s1 := 0) (c2 := b1) (s2 := b2) (by exact rfl) ?_ (by omega) (by omega)
      refine jT_lald (x := e3) (a := 0) (j := 3) (fs := []) (X := [e0, e1, e2, e3, e4, e5]) jIH_14_148 rfl rfl rfl rfl ?_
      refine jT_eq (LN := [(6, (1, q2)), (10, (0, k)), (4, (1, y4)), (8, (4, 0)), (9, (0, 3))]) (stN := [(1, e3), (0, 3), (4, 0)]) (hsN := [(101, [], [e0, e1, e2, e3, e4, e5])]) rfl rfl rfl ?_
      refine jT_xlconst (z := 1) (pcN := 150) jIH_14_149 rfl rfl ?_
      refine jT_xlsub (x := e3) (y := 1) (z := e3 - 1) (pcN := 151) jIH_14_150 rfl (rfl) rfl ?_
      refine jT_adv 1 (pcN := 152) (LN := [(6, (1, q2)), (10, (0, k)), (4, (1, y4)), (8, (4, 0)), (9, (0, 3))]) (stN := []) (hsN := [(101, [], [e0, e1, e2, e3 - 1, e4, e5])]) (c1 := 0) (s1 := 0) (c2 := b1) (s2 := b2) (by exact rfl) ?_ (by omega) (by omega)
      refine jT_xiinc (x := k) (z := k + 1) (LN := [(10, (0, k + 1)), (6, (1, q2)), (4, (1, y4)), (8, (4, 0)), (9, (0, 3))]) (pcN := 155) jIH_14_152 rfl rfl (rfl) rfl rfl ?_
      refine jT_xgoto (pcN := 102) jIH_14_155 rfl ?_
      refine jT_loc (LN := [(10, (0, k + 1)), (6, (1, q2)), (4, (1, y4)), (8, (4, 0)), (9, (0, 3))]) (by show List.Nodup [10, 6, 4, 8, 9]; decide) (by intro q hq; simp only [List.mem_cons, List.not_mem_nil, or_false] at hq; rcases hq with rfl | rfl | rfl | rfl | rfl <;> rfl) ?_
      have hs := jst_s (P := 7) (u := u) (n := n) (by decide) h1 hu (by omega)
      rw [hq_q2] at hs
      rw [jsu_1 (by omega), jsc_1 (by omega), hq_q2, show e3 - (jsc 7 n q2 + 1) = e3 - 1 - jsc 7 n q2 by omega] at h
      exact ih (k + 1) q2 (e3 - 1) (by omega) (by omega) (by omega) (by omega) hs.2.1 h
theorem jHl_fr_33 {xs : List Int} {d b1 b2 : Nat} {Q : Nat → JV → List JC → Prop} {y6 e0 e1 e2 e3 e5 : Int} : ∀ (n : Nat) (k u e4 : Int), 0 ≤ k → k + (n : Int) ≤ 32 → 1 ≤ u → u ≤ 1000000 → u < jp2 n → jT xs d 14 0 99 [(4, (1, jsu 11 n u)), (6, (1, y6)), (8, (4, 0)), (9, (0, 4))] [] [(101, [], [e0, e1, e2, e3, e4 + jsc 11 n u, e5])] b1 b2 Q → jT xs d 14 0 43 [(10, (0, k)), (4, (1, u)), (6, (1, y6)), (8, (4, 0)), (9, (0, 4))] [] [(101, [], [e0, e1, e2, e3, e4, e5])] b1 b2 Q := by
  intro n
  induction n with
  | zero =>
    intro k u e4 hk hkn h1 h2 hu h
    exact absurd (show u < 1 from hu) (by omega)
  | succ n ih =>
    intro k u e4 hk hkn h1 h2 hu h
    have h_u : 1 ≤ u ∧ u ≤ 1000000 := ⟨h1, h2⟩
    have h_k : 0 ≤ k ∧ k ≤ 31 := by omega
    rcases (show (0 ≤ (u.tmod 11) - 1) ∨ ((u.tmod 11) - 1 < 0) by omega) with g_0 | g_0
    · refine jT_xiload (v := (0, k)) (pcN := 45) jIH_14_43 rfl rfl rfl ?_
      refine jT_xbipush (k := 32) (pcN := 47) jIH_14_45 (by decide) rfl ?_
      refine jT_icF (a := k) (b := 32) (t := 99) (by rfl) (by rfl) (by rfl) (jw_idd (by omega) (by omega)) (jw_idd (by omega) (by omega)) (by simp only [jcP] <;> omega) ?_
      refine jT_xlload (v := (1, u)) (pcN := 52) jIH_14_50 rfl rfl rfl ?_
      refine jT_xlconst (z := 0) (pcN := 53) jIH_14_52 rfl rfl ?_
      refine jT_lcmp (a := u) (b := 0) (z := 1) (by rfl) (by rfl) (jwl_idd (by omega) (by omega)) (jwl_idd (by omega) (by omega)) (by rw [decide_eq_true (show (0 : Int) < u by omega)]; rfl) ?_
      refine jT_xifF (t := 99) (pcN := 57) jIH_14_54 rfl (by decide +kernel) rfl rfl ?_
      refine jT_xlload (v := (1, u)) (pcN := 59) jIH_14_57 rfl rfl rfl ?_
      refine jT_adv 1 (pcN := 62) (LN := [(10, (0, k)), (4, (1, u)), (6, (1, y6)), (8, (4, 0)), (9, (0, 4))]) (stN := [(5, 3), (1, u)]) (hsN := [(101, [], [e0, e1, e2, e3, e4, e5])]) (c1 := 0) (s1 := 0) (c2 := b1) (s2 := b2) (by exact rfl) ?_ (by omega) (by omega)
      refine jT_xiload (v := (0, 4)) (pcN := 64) jIH_14_62 rfl rfl rfl ?_
      refine jT_adv 1 (pcN := 65) (LN := [(10, (0, k)), (4, (1, u)), (6, (1, y6)), (8, (4, 0)), (9, (0, 4))]) (stN := [(0, 11), (1, u)]) (hsN := [(101, [], [e0, e1, e2, e3, e4, e5])]) (c1 := 0) (s1 := 0) (c2 := b1) (s2 := b2) (by exact rfl) ?_ (by omega) (by omega)
      refine jT_xi2l (x := 11) (z := 11) (pcN := 66) jIH_14_65 rfl (by decide +kernel) rfl ?_
      refine jT_lrem (a := u) (b := 11) (by rfl) (by rfl) (jwl_idd (by omega) (by omega)) (jwl_idd (by omega) (by omega)) (by omega) ?_
      have hb_q1 := jtm_b (x := u) (y := 11) (by omega) (by omega)
      have hb_q1 : 0 ≤ u.tmod 11 ∧ u.tmod 11 ≤ 10 := ⟨hb_q1.1, by omega⟩
      generalize hq_q1 : u.tmod 11 = q1 at hb_q1 g_0 ⊢
      refine jT_xlconst (z := 0) (pcN := 68) jIH_14_67 rfl rfl ?_
      refine jT_lcmp (a := q1) (b := 0) (z := 1) (by rfl) (by rfl) (jwl_idd (by omega) (by omega)) (jwl_idd (by omega) (by omega)) (by rw [decide_eq_true (show (0 : Int) < q1 by omega)]; rfl) ?_
      refine jT_xifT (pcN := 99) jIH_14_69 rfl (by decide +kernel) rfl ?_
      refine jT_loc (LN := [(4, (1, u)), (6, (1, y6)), (8, (4, 0)), (9, (0, 4))]) (by show List.Nodup [4, 6, 8, 9]; decide) (by intro q hq; simp only [List.mem_cons, List.not_mem_nil, or_false] at hq; rcases hq with rfl | rfl | rfl | rfl <;> rfl) ?_
      rw [jsu_0 (by omega), jsc_0 (by omega), Int.add_zero] at h
      exact h
    · refine jT_xiload (v := (0, k)) (pcN := 45) jIH_14_43 rfl rfl rfl ?_
      refine jT_xbipush (k := 32) (pcN := 47) jIH_14_45 (by decide) rfl ?_
      refine jT_icF (a := k) (b := 32) (t := 99) (by rfl) (by rfl) (by rfl) (jw_idd (by omega) (by omega)) (jw_idd (by omega) (by omega)) (by simp only [jcP] <;> omega) ?_
      refine jT_xlload (v := (1, u)) (pcN := 52) jIH_14_50 rfl rfl rfl ?_
      refine jT_xlconst (z := 0) (pcN := 53) jIH_14_52 rfl rfl ?_
      refine jT_lcmp (a := u) (b := 0) (z := 1) (by rfl) (by rfl) (jwl_idd (by omega) (by omega)) (jwl_idd (by omega) (by omega)) (by rw [decide_eq_true (show (0 : Int) < u by omega)]; rfl) ?_
      refine jT_xifF (t := 99) (pcN := 57) jIH_14_54 rfl (by decide +kernel) rfl rfl ?_
      refine jT_xlload (v := (1, u)) (pcN := 59) jIH_14_57 rfl rfl rfl ?_
      refine jT_adv 1 (pcN := 62) (LN := [(10, (0, k)), (4, (1, u)), (6, (1, y6)), (8, (4, 0)), (9, (0, 4))]) (stN := [(5, 3), (1, u)]) (hsN := [(101, [], [e0, e1, e2, e3, e4, e5])]) (c1 := 0) (s1 := 0) (c2 := b1) (s2 := b2) (by exact rfl) ?_ (by omega) (by omega)
      refine jT_xiload (v := (0, 4)) (pcN := 64) jIH_14_62 rfl rfl rfl ?_
      refine jT_adv 1 (pcN := 65) (LN := [(10, (0, k)), (4, (1, u)), (6, (1, y6)), (8, (4, 0)), (9, (0, 4))]) (stN := [(0, 11), (1, u)]) (hsN := [(101, [], [e0, e1, e2, e3, e4, e5])]) (c1 := 0) (s1 := 0) (c2 := b1) (s2 := b2) (by exact rfl) ?_ (by omega) (by omega)
      refine jT_xi2l (x := 11) (z := 11) (pcN := 66) jIH_14_65 rfl (by decide +kernel) rfl ?_
      refine jT_lrem (a := u) (b := 11) (by rfl) (by rfl) (jwl_idd (by omega) (by omega)) (jwl_idd (by omega) (by omega)) (by omega) ?_
      have hb_q1 := jtm_b (x := u) (y := 11) (by omega) (by omega)
      have hb_q1 : 0 ≤ u.tmod 11 ∧ u.tmod 11 ≤ 10 := ⟨hb_q1.1, by omega⟩
      generalize hq_q1 : u.tmod 11 = q1 at hb_q1 g_0 ⊢
      refine jT_xlconst (z := 0) (pcN := 68) jIH_14_67 rfl rfl ?_
      refine jT_lcmp (a := q1) (b := 0) (z := 0) (by rfl) (by rfl) (jwl_idd (by omega) (by omega)) (jwl_idd (by omega) (by omega)) (by rw [decide_eq_false (show ¬ ((0 : Int) < q1) by omega), decide_eq_true (show (q1 : Int) = 0 by omega)]; rfl) ?_
      refine jT_xifF (t := 99) (pcN := 72) jIH_14_69 rfl (by decide +kernel) rfl rfl ?_
      refine jT_xlload (v := (1, u)) (pcN := 74) jIH_14_72 rfl rfl rfl ?_
      refine jT_adv 1 (pcN := 77) (LN := [(10, (0, k)), (4, (1, u)), (6, (1, y6)), (8, (4, 0)), (9, (0, 4))]) (stN := [(5, 3), (1, u)]) (hsN := [(101, [], [e0, e1, e2, e3, e4, e5])]) (c1 := 0) (s1 := 0) (c2 := b1) (s2 := b2) (by exact rfl) ?_ (by omega) (by omega)
      refine jT_xiload (v := (0, 4)) (pcN := 79) jIH_14_77 rfl rfl rfl ?_
      refine jT_adv 1 (pcN := 80) (LN := [(10, (0, k)), (4, (1, u)), (6, (1, y6)), (8, (4, 0)), (9, (0, 4))]) (stN := [(0, 11), (1, u)]) (hsN := [(101, [], [e0, e1, e2, e3, e4, e5])]) (c1 := 0) (s1 := 0) (c2 := b1) (s2 := b2) (by exact rfl) ?_ (by omega) (by omega)
      refine jT_xi2l (x := 11) (z := 11) (pcN := 81) jIH_14_80 rfl (by decide +kernel) rfl ?_
      refine jT_ldiv (a := u) (b := 11) (by rfl) (by rfl) (jwl_idd (by omega) (by omega)) (jwl_idd (by omega) (by omega)) (by omega) ?_
      have hb_q2 := jtd_b0 (x := u) (y := 11) (by omega) (by omega)
      have hb_q2 : 0 ≤ u.tdiv 11 ∧ u.tdiv 11 ≤ 1000000 := ⟨hb_q2.1, by omega⟩
      generalize hq_q2 : u.tdiv 11 = q2 at hb_q2 ⊢
      refine jT_xlstore (v := (1, q2)) (LN := [(4, (1, q2)), (10, (0, k)), (6, (1, y6)), (8, (4, 0)), (9, (0, 4))]) (pcN := 84) jIH_14_82 rfl rfl rfl rfl ?_
      refine jT_xaload (v := (4, 0)) (pcN := 86) jIH_14_84 rfl rfl rfl ?_
      refine jT_xiload (v := (0, 4)) (pcN := 88) jIH_14_86 rfl rfl rfl ?_
      refine jT_adv 1 (pcN := 89) (LN := [(4, (1, q2)), (10, (0, k)), (6, (1, y6)), (8, (4, 0)), (9, (0, 4))]) (stN := [(0, 4), (4, 0), (0, 4), (4, 0)]) (hsN := [(101, [], [e0, e1, e2, e3, e4, e5])]) (c1 := 0) (s1 := 0) (c2 := b1) (s2 := b2) (by exact rfl) ?_ (by omega) (by omega)
      refine jT_lald (x := e4) (a := 0) (j := 4) (fs := []) (X := [e0, e1, e2, e3, e4, e5]) jIH_14_89 rfl rfl rfl rfl ?_
      refine jT_eq (LN := [(4, (1, q2)), (10, (0, k)), (6, (1, y6)), (8, (4, 0)), (9, (0, 4))]) (stN := [(1, e4), (0, 4), (4, 0)]) (hsN := [(101, [], [e0, e1, e2, e3, e4, e5])]) rfl rfl rfl ?_
      refine jT_xlconst (z := 1) (pcN := 91) jIH_14_90 rfl rfl ?_
      refine jT_xladd (x := e4) (y := 1) (z := e4 + 1) (pcN := 92) jIH_14_91 rfl (rfl) rfl ?_
      refine jT_adv 1 (pcN := 93) (LN := [(4, (1, q2)), (10, (0, k)), (6, (1, y6)), (8, (4, 0)), (9, (0, 4))]) (stN := []) (hsN := [(101, [], [e0, e1, e2, e3, e4 + 1, e5])]) (c1 := 0) (s1 := 0) (c2 := b1) (s2 := b2) (by exact rfl) ?_ (by omega) (by omega)
      refine jT_xiinc (x := k) (z := k + 1) (LN := [(10, (0, k + 1)), (4, (1, q2)), (6, (1, y6)), (8, (4, 0)), (9, (0, 4))]) (pcN := 96) jIH_14_93 rfl rfl (rfl) rfl rfl ?_
      refine jT_xgoto (pcN := 43) jIH_14_96 rfl ?_
      refine jT_loc (LN := [(10, (0, k + 1)), (4, (1, q2)), (6, (1, y6)), (8, (4, 0)), (9, (0, 4))]) (by show List.Nodup [10, 4, 6, 8, 9]; decide) (by intro q hq; simp only [List.mem_cons, List.not_mem_nil, or_false] at hq; rcases hq with rfl | rfl | rfl | rfl | rfl <;> rfl) ?_
      have hs := jst_s (P := 11) (u := u) (n := n) (by decide) h1 hu (by omega)
      rw [hq_q2] at hs
      rw [jsu_1 (by omega), jsc_1 (by omega), hq_q2, show e4 + (jsc 11 n q2 + 1) = e4 + 1 + jsc 11 n q2 by omega] at h
      exact ih (k + 1) q2 (e4 + 1) (by omega) (by omega) (by omega) (by omega) hs.2.1 h
theorem jHl_fr_34 {xs : List Int} {d b1 b2 : Nat} {Q : Nat → JV → List JC → Prop} {y4 e0 e1 e2 e3 e5 : Int} : ∀ (n : Nat) (k u e4 : Int), 0 ≤ k → k + (n : Int) ≤ 32 → 1 ≤ u → u ≤ 1000000 → u < jp2 n → jT xs d 14 0 158 [(6, (1, jsu 11 n u)), (4, (1, y4)), (8, (4, 0)), (9, (0, 4))] [] [(101, [], [e0, e1, e2, e3, e4 - jsc 11 n u, e5])] b1 b2 Q → jT xs d 14 0 102 [(10, (0, k)), (6, (1, u)), (4, (1, y4)), (8, (4, 0)), (9, (0, 4))] [] [(101, [], [e0, e1, e2, e3, e4, e5])] b1 b2 Q := by
  intro n
  induction n with
  | zero =>
    intro k u e4 hk hkn h1 h2 hu h
    exact absurd (show u < 1 from hu) (by omega)
  | succ n ih =>
    intro k u e4 hk hkn h1 h2 hu h
    have h_u : 1 ≤ u ∧ u ≤ 1000000 := ⟨h1, h2⟩
    have h_k : 0 ≤ k ∧ k ≤ 31 := by omega
    rcases (show (0 ≤ (u.tmod 11) - 1) ∨ ((u.tmod 11) - 1 < 0) by omega) with g_0 | g_0
    · refine jT_xiload (v := (0, k)) (pcN := 104) jIH_14_102 rfl rfl rfl ?_
      refine jT_xbipush (k := 32) (pcN := 106) jIH_14_104 (by decide) rfl ?_
      refine jT_icF (a := k) (b := 32) (t := 158) (by rfl) (by rfl) (by rfl) (jw_idd (by omega) (by omega)) (jw_idd (by omega) (by omega)) (by simp only [jcP] <;> omega) ?_
      refine jT_xlload (v := (1, u)) (pcN := 111) jIH_14_109 rfl rfl rfl ?_
      refine jT_xlconst (z := 0) (pcN := 112) jIH_14_111 rfl rfl ?_
      refine jT_lcmp (a := u) (b := 0) (z := 1) (by rfl) (by rfl) (jwl_idd (by omega) (by omega)) (jwl_idd (by omega) (by omega)) (by rw [decide_eq_true (show (0 : Int) < u by omega)]; rfl) ?_
      refine jT_xifF (t := 158) (pcN := 116) jIH_14_113 rfl (by decide +kernel) rfl rfl ?_
      refine jT_xlload (v := (1, u)) (pcN := 118) jIH_14_116 rfl rfl rfl ?_
      refine jT_adv 1 (pcN := 121) (LN := [(10, (0, k)), (6, (1, u)), (4, (1, y4)), (8, (4, 0)), (9, (0, 4))]) (stN := [(5, 3), (1, u)]) (hsN := [(101, [], [e0, e1, e2, e3, e4, e5])]) (c1 := 0) (s1 := 0) (c2 := b1) (s2 := b2) (by exact rfl) ?_ (by omega) (by omega)
      refine jT_xiload (v := (0, 4)) (pcN := 123) jIH_14_121 rfl rfl rfl ?_
      refine jT_adv 1 (pcN := 124) (LN := [(10, (0, k)), (6, (1, u)), (4, (1, y4)), (8, (4, 0)), (9, (0, 4))]) (stN := [(0, 11), (1, u)]) (hsN := [(101, [], [e0, e1, e2, e3, e4, e5])]) (c1 := 0) (s1 := 0) (c2 := b1) (s2 := b2) (by exact rfl) ?_ (by omega) (by omega)
      refine jT_xi2l (x := 11) (z := 11) (pcN := 125) jIH_14_124 rfl (by decide +kernel) rfl ?_
      refine jT_lrem (a := u) (b := 11) (by rfl) (by rfl) (jwl_idd (by omega) (by omega)) (jwl_idd (by omega) (by omega)) (by omega) ?_
      have hb_q1 := jtm_b (x := u) (y := 11) (by omega) (by omega)
      have hb_q1 : 0 ≤ u.tmod 11 ∧ u.tmod 11 ≤ 10 := ⟨hb_q1.1, by omega⟩
      generalize hq_q1 : u.tmod 11 = q1 at hb_q1 g_0 ⊢
      refine jT_xlconst (z := 0) (pcN := 127) jIH_14_126 rfl rfl ?_
      refine jT_lcmp (a := q1) (b := 0) (z := 1) (by rfl) (by rfl) (jwl_idd (by omega) (by omega)) (jwl_idd (by omega) (by omega)) (by rw [decide_eq_true (show (0 : Int) < q1 by omega)]; rfl) ?_
      refine jT_xifT (pcN := 158) jIH_14_128 rfl (by decide +kernel) rfl ?_
      refine jT_loc (LN := [(6, (1, u)), (4, (1, y4)), (8, (4, 0)), (9, (0, 4))]) (by show List.Nodup [6, 4, 8, 9]; decide) (by intro q hq; simp only [List.mem_cons, List.not_mem_nil, or_false] at hq; rcases hq with rfl | rfl | rfl | rfl <;> rfl) ?_
      rw [jsu_0 (by omega), jsc_0 (by omega), Int.sub_zero] at h
      exact h
    · refine jT_xiload (v := (0, k)) (pcN := 104) jIH_14_102 rfl rfl rfl ?_
      refine jT_xbipush (k := 32) (pcN := 106) jIH_14_104 (by decide) rfl ?_
      refine jT_icF (a := k) (b := 32) (t := 158) (by rfl) (by rfl) (by rfl) (jw_idd (by omega) (by omega)) (jw_idd (by omega) (by omega)) (by simp only [jcP] <;> omega) ?_
      refine jT_xlload (v := (1, u)) (pcN := 111) jIH_14_109 rfl rfl rfl ?_
      refine jT_xlconst (z := 0) (pcN := 112) jIH_14_111 rfl rfl ?_
      refine jT_lcmp (a := u) (b := 0) (z := 1) (by rfl) (by rfl) (jwl_idd (by omega) (by omega)) (jwl_idd (by omega) (by omega)) (by rw [decide_eq_true (show (0 : Int) < u by omega)]; rfl) ?_
      refine jT_xifF (t := 158) (pcN := 116) jIH_14_113 rfl (by decide +kernel) rfl rfl ?_
      refine jT_xlload (v := (1, u)) (pcN := 118) jIH_14_116 rfl rfl rfl ?_
      refine jT_adv 1 (pcN := 121) (LN := [(10, (0, k)), (6, (1, u)), (4, (1, y4)), (8, (4, 0)), (9, (0, 4))]) (stN := [(5, 3), (1, u)]) (hsN := [(101, [], [e0, e1, e2, e3, e4, e5])]) (c1 := 0) (s1 := 0) (c2 := b1) (s2 := b2) (by exact rfl) ?_ (by omega) (by omega)
      refine jT_xiload (v := (0, 4)) (pcN := 123) jIH_14_121 rfl rfl rfl ?_
      refine jT_adv 1 (pcN := 124) (LN := [(10, (0, k)), (6, (1, u)), (4, (1, y4)), (8, (4, 0)), (9, (0, 4))]) (stN := [(0, 11), (1, u)]) (hsN := [(101, [], [e0, e1, e2, e3, e4, e5])]) (c1 := 0) (s1 := 0) (c2 := b1) (s2 := b2) (by exact rfl) ?_ (by omega) (by omega)
      refine jT_xi2l (x := 11) (z := 11) (pcN := 125) jIH_14_124 rfl (by decide +kernel) rfl ?_
      refine jT_lrem (a := u) (b := 11) (by rfl) (by rfl) (jwl_idd (by omega) (by omega)) (jwl_idd (by omega) (by omega)) (by omega) ?_
      have hb_q1 := jtm_b (x := u) (y := 11) (by omega) (by omega)
      have hb_q1 : 0 ≤ u.tmod 11 ∧ u.tmod 11 ≤ 10 := ⟨hb_q1.1, by omega⟩
      generalize hq_q1 : u.tmod 11 = q1 at hb_q1 g_0 ⊢
      refine jT_xlconst (z := 0) (pcN := 127) jIH_14_126 rfl rfl ?_
      refine jT_lcmp (a := q1) (b := 0) (z := 0) (by rfl) (by rfl) (jwl_idd (by omega) (by omega)) (jwl_idd (by omega) (by omega)) (by rw [decide_eq_false (show ¬ ((0 : Int) < q1) by omega), decide_eq_true (show (q1 : Int) = 0 by omega)]; rfl) ?_
      refine jT_xifF (t := 158) (pcN := 131) jIH_14_128 rfl (by decide +kernel) rfl rfl ?_
      refine jT_xlload (v := (1, u)) (pcN := 133) jIH_14_131 rfl rfl rfl ?_
      refine jT_adv 1 (pcN := 136) (LN := [(10, (0, k)), (6, (1, u)), (4, (1, y4)), (8, (4, 0)), (9, (0, 4))]) (stN := [(5, 3), (1, u)]) (hsN := [(101, [], [e0, e1, e2, e3, e4, e5])]) (c1 := 0) (s1 := 0) (c2 := b1) (s2 := b2) (by exact rfl) ?_ (by omega) (by omega)
      refine jT_xiload (v := (0, 4)) (pcN := 138) jIH_14_136 rfl rfl rfl ?_
      refine jT_adv 1 (pcN := 139) (LN := [(10, (0, k)), (6, (1, u)), (4, (1, y4)), (8, (4, 0)), (9, (0, 4))]) (stN := [(0, 11), (1, u)]) (hsN := [(101, [], [e0, e1, e2, e3, e4, e5])]) (c1 := 0) (s1 := 0) (c2 := b1) (s2 := b2) (by exact rfl) ?_ (by omega) (by omega)
      refine jT_xi2l (x := 11) (z := 11) (pcN := 140) jIH_14_139 rfl (by decide +kernel) rfl ?_
      refine jT_ldiv (a := u) (b := 11) (by rfl) (by rfl) (jwl_idd (by omega) (by omega)) (jwl_idd (by omega) (by omega)) (by omega) ?_
      have hb_q2 := jtd_b0 (x := u) (y := 11) (by omega) (by omega)
      have hb_q2 : 0 ≤ u.tdiv 11 ∧ u.tdiv 11 ≤ 1000000 := ⟨hb_q2.1, by omega⟩
      generalize hq_q2 : u.tdiv 11 = q2 at hb_q2 ⊢
      refine jT_xlstore (v := (1, q2)) (LN := [(6, (1, q2)), (10, (0, k)), (4, (1, y4)), (8, (4, 0)), (9, (0, 4))]) (pcN := 143) jIH_14_141 rfl rfl rfl rfl ?_
      refine jT_xaload (v := (4, 0)) (pcN := 145) jIH_14_143 rfl rfl rfl ?_
      refine jT_xiload (v := (0, 4)) (pcN := 147) jIH_14_145 rfl rfl rfl ?_
      refine jT_adv 1 (pcN := 148) (LN := [(6, (1, q2)), (10, (0, k)), (4, (1, y4)), (8, (4, 0)), (9, (0, 4))]) (stN := [(0, 4), (4, 0), (0, 4), (4, 0)]) (hsN := [(101, [], [e0, e1, e2, e3, e4, e5])]) (c1 := 0) (s1 := 0) (c2 := b1) (s2 := b2) (by exact rfl) ?_ (by omega) (by omega)
      refine jT_lald (x := e4) (a := 0) (j := 4) (fs := []) (X := [e0, e1, e2, e3, e4, e5]) jIH_14_148 rfl rfl rfl rfl ?_
      refine jT_eq (LN := [(6, (1, q2)), (10, (0, k)), (4, (1, y4)), (8, (4, 0)), (9, (0, 4))]) (stN := [(1, e4), (0, 4), (4, 0)]) (hsN := [(101, [], [e0, e1, e2, e3, e4, e5])]) rfl rfl rfl ?_
      refine jT_xlconst (z := 1) (pcN := 150) jIH_14_149 rfl rfl ?_
      refine jT_xlsub (x := e4) (y := 1) (z := e4 - 1) (pcN := 151) jIH_14_150 rfl (rfl) rfl ?_
      refine jT_adv 1 (pcN := 152) (LN := [(6, (1, q2)), (10, (0, k)), (4, (1, y4)), (8, (4, 0)), (9, (0, 4))]) (stN := []) (hsN := [(101, [], [e0, e1, e2, e3, e4 - 1, e5])]) (c1 := 0) (s1 := 0) (c2 := b1) (s2 := b2) (by exact rfl) ?_ (by omega) (by omega)
      refine jT_xiinc (x := k) (z := k + 1) (LN := [(10, (0, k + 1)), (6, (1, q2)), (4, (1, y4)), (8, (4, 0)), (9, (0, 4))]) (pcN := 155) jIH_14_152 rfl rfl (rfl) rfl rfl ?_
      refine jT_xgoto (pcN := 102) jIH_14_155 rfl ?_
      refine jT_loc (LN := [(10, (0, k + 1)), (6, (1, q2)), (4, (1, y4)), (8, (4, 0)), (9, (0, 4))]) (by show List.Nodup [10, 6, 4, 8, 9]; decide) (by intro q hq; simp only [List.mem_cons, List.not_mem_nil, or_false] at hq; rcases hq with rfl | rfl | rfl | rfl | rfl <;> rfl) ?_
      have hs := jst_s (P := 11) (u := u) (n := n) (by decide) h1 hu (by omega)
      rw [hq_q2] at hs
      rw [jsu_1 (by omega), jsc_1 (by omega), hq_q2, show e4 - (jsc 11 n q2 + 1) = e4 - 1 - jsc 11 n q2 by omega] at h
      exact ih (k + 1) q2 (e4 - 1) (by omega) (by omega) (by omega) (by omega) hs.2.1 h
theorem jHl_fr_35 {xs : List Int} {d b1 b2 : Nat} {Q : Nat → JV → List JC → Prop} {y6 e0 e1 e2 e3 e4 : Int} : ∀ (n : Nat) (k u e5 : Int), 0 ≤ k → k + (n : Int) ≤ 32 → 1 ≤ u → u ≤ 1000000 → u < jp2 n → jT xs d 14 0 99 [(4, (1, jsu 13 n u)), (6, (1, y6)), (8, (4, 0)), (9, (0, 5))] [] [(101, [], [e0, e1, e2, e3, e4, e5 + jsc 13 n u])] b1 b2 Q → jT xs d 14 0 43 [(10, (0, k)), (4, (1, u)), (6, (1, y6)), (8, (4, 0)), (9, (0, 5))] [] [(101, [], [e0, e1, e2, e3, e4, e5])] b1 b2 Q := by
  intro n
  induction n with
  | zero =>
    intro k u e5 hk hkn h1 h2 hu h
    exact absurd (show u < 1 from hu) (by omega)
  | succ n ih =>
    intro k u e5 hk hkn h1 h2 hu h
    have h_u : 1 ≤ u ∧ u ≤ 1000000 := ⟨h1, h2⟩
    have h_k : 0 ≤ k ∧ k ≤ 31 := by omega
    rcases (show (0 ≤ (u.tmod 13) - 1) ∨ ((u.tmod 13) - 1 < 0) by omega) with g_0 | g_0
    · refine jT_xiload (v := (0, k)) (pcN := 45) jIH_14_43 rfl rfl rfl ?_
      refine jT_xbipush (k := 32) (pcN := 47) jIH_14_45 (by decide) rfl ?_
      refine jT_icF (a := k) (b := 32) (t := 99) (by rfl) (by rfl) (by rfl) (jw_idd (by omega) (by omega)) (jw_idd (by omega) (by omega)) (by simp only [jcP] <;> omega) ?_
      refine jT_xlload (v := (1, u)) (pcN := 52) jIH_14_50 rfl rfl rfl ?_
      refine jT_xlconst (z := 0) (pcN := 53) jIH_14_52 rfl rfl ?_
      refine jT_lcmp (a := u) (b := 0) (z := 1) (by rfl) (by rfl) (jwl_idd (by omega) (by omega)) (jwl_idd (by omega) (by omega)) (by rw [decide_eq_true (show (0 : Int) < u by omega)]; rfl) ?_
      refine jT_xifF (t := 99) (pcN := 57) jIH_14_54 rfl (by decide +kernel) rfl rfl ?_
      refine jT_xlload (v := (1, u)) (pcN := 59) jIH_14_57 rfl rfl rfl ?_
      refine jT_adv 1 (pcN := 62) (LN := [(10, (0, k)), (4, (1, u)), (6, (1, y6)), (8, (4, 0)), (9, (0, 5))]) (stN := [(5, 3), (1, u)]) (hsN := [(101, [], [e0, e1, e2, e3, e4, e5])]) (c1 := 0) (s1 := 0) (c2 := b1) (s2 := b2) (by exact rfl) ?_ (by omega) (by omega)
      refine jT_xiload (v := (0, 5)) (pcN := 64) jIH_14_62 rfl rfl rfl ?_
      refine jT_adv 1 (pcN := 65) (LN := [(10, (0, k)), (4, (1, u)), (6, (1, y6)), (8, (4, 0)), (9, (0, 5))]) (stN := [(0, 13), (1, u)]) (hsN := [(101, [], [e0, e1, e2, e3, e4, e5])]) (c1 := 0) (s1 := 0) (c2 := b1) (s2 := b2) (by exact rfl) ?_ (by omega) (by omega)
      refine jT_xi2l (x := 13) (z := 13) (pcN := 66) jIH_14_65 rfl (by decide +kernel) rfl ?_
      refine jT_lrem (a := u) (b := 13) (by rfl) (by rfl) (jwl_idd (by omega) (by omega)) (jwl_idd (by omega) (by omega)) (by omega) ?_
      have hb_q1 := jtm_b (x := u) (y := 13) (by omega) (by omega)
      have hb_q1 : 0 ≤ u.tmod 13 ∧ u.tmod 13 ≤ 12 := ⟨hb_q1.1, by omega⟩
      generalize hq_q1 : u.tmod 13 = q1 at hb_q1 g_0 ⊢
      refine jT_xlconst (z := 0) (pcN := 68) jIH_14_67 rfl rfl ?_
      refine jT_lcmp (a := q1) (b := 0) (z := 1) (by rfl) (by rfl) (jwl_idd (by omega) (by omega)) (jwl_idd (by omega) (by omega)) (by rw [decide_eq_true (show (0 : Int) < q1 by omega)]; rfl) ?_
      refine jT_xifT (pcN := 99) jIH_14_69 rfl (by decide +kernel) rfl ?_
      refine jT_loc (LN := [(4, (1, u)), (6, (1, y6)), (8, (4, 0)), (9, (0, 5))]) (by show List.Nodup [4, 6, 8, 9]; decide) (by intro q hq; simp only [List.mem_cons, List.not_mem_nil, or_false] at hq; rcases hq with rfl | rfl | rfl | rfl <;> rfl) ?_
      rw [jsu_0 (by omega), jsc_0 (by omega), Int.add_zero] at h
      exact h
    · refine jT_xiload (v := (0, k)) (pcN := 45) jIH_14_43 rfl rfl rfl ?_
      refine jT_xbipush (k := 32) (pcN := 47) jIH_14_45 (by decide) rfl ?_
      refine jT_icF (a := k) (b := 32) (t := 99) (by rfl) (by rfl) (by rfl) (jw_idd (by omega) (by omega)) (jw_idd (by omega) (by omega)) (by simp only [jcP] <;> omega) ?_
      refine jT_xlload (v := (1, u)) (pcN := 52) jIH_14_50 rfl rfl rfl ?_
      refine jT_xlconst (z := 0) (pcN := 53) jIH_14_52 rfl rfl ?_
      refine jT_lcmp (a := u) (b := 0) (z := 1) (by rfl) (by rfl) (jwl_idd (by omega) (by omega)) (jwl_idd (by omega) (by omega)) (by rw [decide_eq_true (show (0 : Int) < u by omega)]; rfl) ?_
      refine jT_xifF (t := 99) (pcN := 57) jIH_14_54 rfl (by decide +kernel) rfl rfl ?_
      refine jT_xlload (v := (1, u)) (pcN := 59) jIH_14_57 rfl rfl rfl ?_
      refine jT_adv 1 (pcN := 62) (LN := [(10, (0, k)), (4, (1, u)), (6, (1, y6)), (8, (4, 0)), (9, (0, 5))]) (stN := [(5, 3), (1, u)]) (hsN := [(101, [], [e0, e1, e2, e3, e4, e5])]) (c1 := 0) (s1 := 0) (c2 := b1) (s2 := b2) (by exact rfl) ?_ (by omega) (by omega)
      refine jT_xiload (v := (0, 5)) (pcN := 64) jIH_14_62 rfl rfl rfl ?_
      refine jT_adv 1 (pcN := 65) (LN := [(10, (0, k)), (4, (1, u)), (6, (1, y6)), (8, (4, 0)), (9, (0, 5))]) (stN := [(0, 13), (1, u)]) (hsN := [(101, [], [e0, e1, e2, e3, e4, e5])]) (c1 := 0) (s1 := 0) (c2 := b1) (s2 := b2) (by exact rfl) ?_ (by omega) (by omega)
      refine jT_xi2l (x := 13) (z := 13) (pcN := 66) jIH_14_65 rfl (by decide +kernel) rfl ?_
      refine jT_lrem (a := u) (b := 13) (by rfl) (by rfl) (jwl_idd (by omega) (by omega)) (jwl_idd (by omega) (by omega)) (by omega) ?_
      have hb_q1 := jtm_b (x := u) (y := 13) (by omega) (by omega)
      have hb_q1 : 0 ≤ u.tmod 13 ∧ u.tmod 13 ≤ 12 := ⟨hb_q1.1, by omega⟩
      generalize hq_q1 : u.tmod 13 = q1 at hb_q1 g_0 ⊢
      refine jT_xlconst (z := 0) (pcN := 68) jIH_14_67 rfl rfl ?_
      refine jT_lcmp (a := q1) (b := 0) (z := 0) (by rfl) (by rfl) (jwl_idd (by omega) (by omega)) (jwl_idd (by omega) (by omega)) (by rw [decide_eq_false (show ¬ ((0 : Int) < q1) by omega), decide_eq_true (show (q1 : Int) = 0 by omega)]; rfl) ?_
      refine jT_xifF (t := 99) (pcN := 72) jIH_14_69 rfl (by decide +kernel) rfl rfl ?_
      refine jT_xlload (v := (1, u)) (pcN := 74) jIH_14_72 rfl rfl rfl ?_
      refine jT_adv 1 (pcN := 77) (LN := [(10, (0, k)), (4, (1, u)), (6, (1, y6)), (8, (4, 0)), (9, (0, 5))]) (stN := [(5, 3), (1, u)]) (hsN := [(101, [], [e0, e1, e2, e3, e4, e5])]) (c1 := 0) (s1 := 0) (c2 := b1) (s2 := b2) (by exact rfl) ?_ (by omega) (by omega)
      refine jT_xiload (v := (0, 5)) (pcN := 79) jIH_14_77 rfl rfl rfl ?_
      refine jT_adv 1 (pcN := 80) (LN := [(10, (0, k)), (4, (1, u)), (6, (1, y6)), (8, (4, 0)), (9, (0, 5))]) (stN := [(0, 13), (1, u)]) (hsN := [(101, [], [e0, e1, e2, e3, e4, e5])]) (c1 := 0) (s1 := 0) (c2 := b1) (s2 := b2) (by exact rfl) ?_ (by omega) (by omega)
      refine jT_xi2l (x := 13) (z := 13) (pcN := 81) jIH_14_80 rfl (by decide +kernel) rfl ?_
      refine jT_ldiv (a := u) (b := 13) (by rfl) (by rfl) (jwl_idd (by omega) (by omega)) (jwl_idd (by omega) (by omega)) (by omega) ?_
      have hb_q2 := jtd_b0 (x := u) (y := 13) (by omega) (by omega)
      have hb_q2 : 0 ≤ u.tdiv 13 ∧ u.tdiv 13 ≤ 1000000 := ⟨hb_q2.1, by omega⟩
      generalize hq_q2 : u.tdiv 13 = q2 at hb_q2 ⊢
      refine jT_xlstore (v := (1, q2)) (LN := [(4, (1, q2)), (10, (0, k)), (6, (1, y6)), (8, (4, 0)), (9, (0, 5))]) (pcN := 84) jIH_14_82 rfl rfl rfl rfl ?_
      refine jT_xaload (v := (4, 0)) (pcN := 86) jIH_14_84 rfl rfl rfl ?_
      refine jT_xiload (v := (0, 5)) (pcN := 88) jIH_14_86 rfl rfl rfl ?_
      refine jT_adv 1 (pcN := 89) (LN := [(4, (1, q2)), (10, (0, k)), (6, (1, y6)), (8, (4, 0)), (9, (0, 5))]) (stN := [(0, 5), (4, 0), (0, 5), (4, 0)]) (hsN := [(101, [], [e0, e1, e2, e3, e4, e5])]) (c1 := 0) (s1 := 0) (c2 := b1) (s2 := b2) (by exact rfl) ?_ (by omega) (by omega)
      refine jT_lald (x := e5) (a := 0) (j := 5) (fs := []) (X := [e0, e1, e2, e3, e4, e5]) jIH_14_89 rfl rfl rfl rfl ?_
      refine jT_eq (LN := [(4, (1, q2)), (10, (0, k)), (6, (1, y6)), (8, (4, 0)), (9, (0, 5))]) (stN := [(1, e5), (0, 5), (4, 0)]) (hsN := [(101, [], [e0, e1, e2, e3, e4, e5])]) rfl rfl rfl ?_
      refine jT_xlconst (z := 1) (pcN := 91) jIH_14_90 rfl rfl ?_
      refine jT_xladd (x := e5) (y := 1) (z := e5 + 1) (pcN := 92) jIH_14_91 rfl (rfl) rfl ?_
      refine jT_adv 1 (pcN := 93) (LN := [(4, (1, q2)), (10, (0, k)), (6, (1, y6)), (8, (4, 0)), (9, (0, 5))]) (stN := []) (hsN := [(101, [], [e0, e1, e2, e3, e4, e5 + 1])]) (c1 := 0) (s1 := 0) (c2 := b1) (s2 := b2) (by exact rfl) ?_ (by omega) (by omega)
      refine jT_xiinc (x := k) (z := k + 1) (LN := [(10, (0, k + 1)), (4, (1, q2)), (6, (1, y6)), (8, (4, 0)), (9, (0, 5))]) (pcN := 96) jIH_14_93 rfl rfl (rfl) rfl rfl ?_
      refine jT_xgoto (pcN := 43) jIH_14_96 rfl ?_
      refine jT_loc (LN := [(10, (0, k + 1)), (4, (1, q2)), (6, (1, y6)), (8, (4, 0)), (9, (0, 5))]) (by show List.Nodup [10, 4, 6, 8, 9]; decide) (by intro q hq; simp only [List.mem_cons, List.not_mem_nil, or_false] at hq; rcases hq with rfl | rfl | rfl | rfl | rfl <;> rfl) ?_
      have hs := jst_s (P := 13) (u := u) (n := n) (by decide) h1 hu (by omega)
      rw [hq_q2] at hs
      rw [jsu_1 (by omega), jsc_1 (by omega), hq_q2, show e5 + (jsc 13 n q2 + 1) = e5 + 1 + jsc 13 n q2 by omega] at h
      exact ih (k + 1) q2 (e5 + 1) (by omega) (by omega) (by omega) (by omega) hs.2.1 h
theorem jHl_fr_36 {xs : List Int} {d b1 b2 : Nat} {Q : Nat → JV → List JC → Prop} {y4 e0 e1 e2 e3 e4 : Int} : ∀ (n : Nat) (k u e5 : Int), 0 ≤ k → k + (n : Int) ≤ 32 → 1 ≤ u → u ≤ 1000000 → u < jp2 n → jT xs d 14 0 158 [(6, (1, jsu 13 n u)), (4, (1, y4)), (8, (4, 0)), (9, (0, 5))] [] [(101, [], [e0, e1, e2, e3, e4, e5 - jsc 13 n u])] b1 b2 Q → jT xs d 14 0 102 [(10, (0, k)), (6, (1, u)), (4, (1, y4)), (8, (4, 0)), (9, (0, 5))] [] [(101, [], [e0, e1, e2, e3, e4, e5])] b1 b2 Q := by
  intro n
  induction n with
  | zero =>
    intro k u e5 hk hkn h1 h2 hu h
    exact absurd (show u < 1 from hu) (by omega)
  | succ n ih =>
    intro k u e5 hk hkn h1 h2 hu h
    have h_u : 1 ≤ u ∧ u ≤ 1000000 := ⟨h1, h2⟩
    have h_k : 0 ≤ k ∧ k ≤ 31 := by omega
    rcases (show (0 ≤ (u.tmod 13) - 1) ∨ ((u.tmod 13) - 1 < 0) by omega) with g_0 | g_0
    · refine jT_xiload (v := (0, k)) (pcN := 104) jIH_14_102 rfl rfl rfl ?_
      refine jT_xbipush (k := 32) (pcN := 106) jIH_14_104 (by decide) rfl ?_
      refine jT_icF (a := k) (b := 32) (t := 158) (by rfl) (by rfl) (by rfl) (jw_idd (by omega) (by omega)) (jw_idd (by omega) (by omega)) (by simp only [jcP] <;> omega) ?_
      refine jT_xlload (v := (1, u)) (pcN := 111) jIH_14_109 rfl rfl rfl ?_
      refine jT_xlconst (z := 0) (pcN := 112) jIH_14_111 rfl rfl ?_
      refine jT_lcmp (a := u) (b := 0) (z := 1) (by rfl) (by rfl) (jwl_idd (by omega) (by omega)) (jwl_idd (by omega) (by omega)) (by rw [decide_eq_true (show (0 : Int) < u by omega)]; rfl) ?_
      refine jT_xifF (t := 158) (pcN := 116) jIH_14_113 rfl (by decide +kernel) rfl rfl ?_
      refine jT_xlload (v := (1, u)) (pcN := 118) jIH_14_116 rfl rfl rfl ?_
      refine jT_adv 1 (pcN := 121) (LN := [(10, (0, k)), (6, (1, u)), (4, (1, y4)), (8, (4, 0)), (9, (0, 5))]) (stN := [(5, 3), (1, u)]) (hsN := [(101, [], [e0, e1, e2, e3, e4, e5])]) (c1 := 0) (s1 := 0) (c2 := b1) (s2 := b2) (by exact rfl) ?_ (by omega) (by omega)
      refine jT_xiload (v := (0, 5)) (pcN := 123) jIH_14_121 rfl rfl rfl ?_
      refine jT_adv 1 (pcN := 124) (LN := [(10, (0, k)), (6, (1, u)), (4, (1, y4)), (8, (4, 0)), (9, (0, 5))]) (stN := [(0, 13), (1, u)]) (hsN := [(101, [], [e0, e1, e2, e3, e4, e5])]) (c1 := 0) (s1 := 0) (c2 := b1) (s2 := b2) (by exact rfl) ?_ (by omega) (by omega)
      refine jT_xi2l (x := 13) (z := 13) (pcN := 125) jIH_14_124 rfl (by decide +kernel) rfl ?_
      refine jT_lrem (a := u) (b := 13) (by rfl) (by rfl) (jwl_idd (by omega) (by omega)) (jwl_idd (by omega) (by omega)) (by omega) ?_
      have hb_q1 := jtm_b (x := u) (y := 13) (by omega) (by omega)
      have hb_q1 : 0 ≤ u.tmod 13 ∧ u.tmod 13 ≤ 12 := ⟨hb_q1.1, by omega⟩
      generalize hq_q1 : u.tmod 13 = q1 at hb_q1 g_0 ⊢
      refine jT_xlconst (z := 0) (pcN := 127) jIH_14_126 rfl rfl ?_
      refine jT_lcmp (a := q1) (b := 0) (z := 1) (by rfl) (by rfl) (jwl_idd (by omega) (by omega)) (jwl_idd (by omega) (by omega)) (by rw [decide_eq_true (show (0 : Int) < q1 by omega)]; rfl) ?_
      refine jT_xifT (pcN := 158) jIH_14_128 rfl (by decide +kernel) rfl ?_
      refine jT_loc (LN := [(6, (1, u)), (4, (1, y4)), (8, (4, 0)), (9, (0, 5))]) (by show List.Nodup [6, 4, 8, 9]; decide) (by intro q hq; simp only [List.mem_cons, List.not_mem_nil, or_false] at hq; rcases hq with rfl | rfl | rfl | rfl <;> rfl) ?_
      rw [jsu_0 (by omega), jsc_0 (by omega), Int.sub_zero] at h
      exact h
    · refine jT_xiload (v := (0, k)) (pcN := 104) jIH_14_102 rfl rfl rfl ?_
      refine jT_xbipush (k := 32) (pcN := 106) jIH_14_104 (by decide) rfl ?_
      refine jT_icF (a := k) (b := 32) (t := 158) (by rfl) (by rfl) (by rfl) (jw_idd (by omega) (by omega)) (jw_idd (by omega) (by omega)) (by simp only [jcP] <;> omega) ?_
      refine jT_xlload (v := (1, u)) (pcN := 111) jIH_14_109 rfl rfl rfl ?_
      refine jT_xlconst (z := 0) (pcN := 112) jIH_14_111 rfl rfl ?_
      refine jT_lcmp (a := u) (b := 0) (z := 1) (by rfl) (by rfl) (jwl_idd (by omega) (by omega)) (jwl_idd (by omega) (by omega)) (by rw [decide_eq_true (show (0 : Int) < u by omega)]; rfl) ?_
      refine jT_xifF (t := 158) (pcN := 116) jIH_14_113 rfl (by decide +kernel) rfl rfl ?_
      refine jT_xlload (v := (1, u)) (pcN := 118) jIH_14_116 rfl rfl rfl ?_
      refine jT_adv 1 (pcN := 121) (LN := [(10, (0, k)), (6, (1, u)), (4, (1, y4)), (8, (4, 0)), (9, (0, 5))]) (stN := [(5, 3), (1, u)]) (hsN := [(101, [], [e0, e1, e2, e3, e4, e5])]) (c1 := 0) (s1 := 0) (c2 := b1) (s2 := b2) (by exact rfl) ?_ (by omega) (by omega)
      refine jT_xiload (v := (0, 5)) (pcN := 123) jIH_14_121 rfl rfl rfl ?_
      refine jT_adv 1 (pcN := 124) (LN := [(10, (0, k)), (6, (1, u)), (4, (1, y4)), (8, (4, 0)), (9, (0, 5))]) (stN := [(0, 13), (1, u)]) (hsN := [(101, [], [e0, e1, e2, e3, e4, e5])]) (c1 := 0) (s1 := 0) (c2 := b1) (s2 := b2) (by exact rfl) ?_ (by omega) (by omega)
      refine jT_xi2l (x := 13) (z := 13) (pcN := 125) jIH_14_124 rfl (by decide +kernel) rfl ?_
      refine jT_lrem (a := u) (b := 13) (by rfl) (by rfl) (jwl_idd (by omega) (by omega)) (jwl_idd (by omega) (by omega)) (by omega) ?_
      have hb_q1 := jtm_b (x := u) (y := 13) (by omega) (by omega)
      have hb_q1 : 0 ≤ u.tmod 13 ∧ u.tmod 13 ≤ 12 := ⟨hb_q1.1, by omega⟩
      generalize hq_q1 : u.tmod 13 = q1 at hb_q1 g_0 ⊢
      refine jT_xlconst (z := 0) (pcN := 127) jIH_14_126 rfl rfl ?_
      refine jT_lcmp (a := q1) (b := 0) (z := 0) (by rfl) (by rfl) (jwl_idd (by omega) (by omega)) (jwl_idd (by omega) (by omega)) (by rw [decide_eq_false (show ¬ ((0 : Int) < q1) by omega), decide_eq_true (show (q1 : Int) = 0 by omega)]; rfl) ?_
      refine jT_xifF (t := 158) (pcN := 131) jIH_14_128 rfl (by decide +kernel) rfl rfl ?_
      refine jT_xlload (v := (1, u)) (pcN := 133) jIH_14_131 rfl rfl rfl ?_
      refine jT_adv 1 (pcN := 136) (LN := [(10, (0, k)), (6, (1, u)), (4, (1, y4)), (8, (4, 0)), (9, (0, 5))]) (stN := [(5, 3), (1, u)]) (hsN := [(101, [], [e0, e1, e2, e3, e4, e5])]) (c1 := 0) (s1 := 0) (c2 := b1) (s2 := b2) (by exact rfl) ?_ (by omega) (by omega)
      refine jT_xiload (v := (0, 5)) (pcN := 138) jIH_14_136 rfl rfl rfl ?_
      refine jT_adv 1 (pcN := 139) (LN := [(10, (0, k)), (6, (1, u)), (4, (1, y4)), (8, (4, 0)), (9, (0, 5))]) (stN := [(0, 13), (1, u)]) (hsN := [(101, [], [e0, e1, e2, e3, e4, e5])]) (c1 := 0) (s1 := 0) (c2 := b1) (s2 := b2) (by exact rfl) ?_ (by omega) (by omega)
      refine jT_xi2l (x := 13) (z := 13) (pcN := 140) jIH_14_139 rfl (by decide +kernel) rfl ?_
      refine jT_ldiv (a := u) (b := 13) (by rfl) (by rfl) (jwl_idd (by omega) (by omega)) (jwl_idd (by omega) (by omega)) (by omega) ?_
      have hb_q2 := jtd_b0 (x := u) (y := 13) (by omega) (by omega)
      have hb_q2 : 0 ≤ u.tdiv 13 ∧ u.tdiv 13 ≤ 1000000 := ⟨hb_q2.1, by omega⟩
      generalize hq_q2 : u.tdiv 13 = q2 at hb_q2 ⊢
      refine jT_xlstore (v := (1, q2)) (LN := [(6, (1, q2)), (10, (0, k)), (4, (1, y4)), (8, (4, 0)), (9, (0, 5))]) (pcN := 143) jIH_14_141 rfl rfl rfl rfl ?_
      refine jT_xaload (v := (4, 0)) (pcN := 145) jIH_14_143 rfl rfl rfl ?_
      refine jT_xiload (v := (0, 5)) (pcN := 147) jIH_14_145 rfl rfl rfl ?_
      refine jT_adv 1 (pcN := 148) (LN := [(6, (1, q2)), (10, (0, k)), (4, (1, y4)), (8, (4, 0)), (9, (0, 5))]) (stN := [(0, 5), (4, 0), (0, 5), (4, 0)]) (hsN := [(101, [], [e0, e1, e2, e3, e4, e5])]) (c1 := 0) (s1 := 0) (c2 := b1) (s2 := b2) (by exact rfl) ?_ (by omega) (by omega)
      refine jT_lald (x := e5) (a := 0) (j := 5) (fs := []) (X := [e0, e1, e2, e3, e4, e5]) jIH_14_148 rfl rfl rfl rfl ?_
      refine jT_eq (LN := [(6, (1, q2)), (10, (0, k)), (4, (1, y4)), (8, (4, 0)), (9, (0, 5))]) (stN := [(1, e5), (0, 5), (4, 0)]) (hsN := [(101, [], [e0, e1, e2, e3, e4, e5])]) rfl rfl rfl ?_
      refine jT_xlconst (z := 1) (pcN := 150) jIH_14_149 rfl rfl ?_
      refine jT_xlsub (x := e5) (y := 1) (z := e5 - 1) (pcN := 151) jIH_14_150 rfl (rfl) rfl ?_
      refine jT_adv 1 (pcN := 152) (LN := [(6, (1, q2)), (10, (0, k)), (4, (1, y4)), (8, (4, 0)), (9, (0, 5))]) (stN := []) (hsN := [(101, [], [e0, e1, e2, e3, e4, e5 - 1])]) (c1 := 0) (s1 := 0) (c2 := b1) (s2 := b2) (by exact rfl) ?_ (by omega) (by omega)
      refine jT_xiinc (x := k) (z := k + 1) (LN := [(10, (0, k + 1)), (6, (1, q2)), (4, (1, y4)), (8, (4, 0)), (9, (0, 5))]) (pcN := 155) jIH_14_152 rfl rfl (rfl) rfl rfl ?_
      refine jT_xgoto (pcN := 102) jIH_14_155 rfl ?_
      refine jT_loc (LN := [(10, (0, k + 1)), (6, (1, q2)), (4, (1, y4)), (8, (4, 0)), (9, (0, 5))]) (by show List.Nodup [10, 6, 4, 8, 9]; decide) (by intro q hq; simp only [List.mem_cons, List.not_mem_nil, or_false] at hq; rcases hq with rfl | rfl | rfl | rfl | rfl <;> rfl) ?_
      have hs := jst_s (P := 13) (u := u) (n := n) (by decide) h1 hu (by omega)
      rw [hq_q2] at hs
      rw [jsu_1 (by omega), jsc_1 (by omega), hq_q2, show e5 - (jsc 13 n q2 + 1) = e5 - 1 - jsc 13 n q2 by omega] at h
      exact ih (k + 1) q2 (e5 - 1) (by omega) (by omega) (by omega) (by omega) hs.2.1 h
theorem jIH_14_164 : jmI (jm 14) 164 = (.lload 4, 2) := by rfl
theorem jIH_14_166 : jmI (jm 14) 166 = (.lconst 1, 1) := by rfl
theorem jIH_14_168 : jmI (jm 14) 168 = (.ifCond .ne 23, 3) := by rfl
theorem jH_14_37 {xs : List Int} {d : Nat} {x2 x3 : Int} (h_x2 : 1 ≤ x2 ∧ x2 ≤ 1000000) (h_x3 : 1 ≤ x3 ∧ x3 ≤ 1000000) (g_0 : 0 ≤ (jsu 13 20 (jsu 11 20 (jsu 7 20 (jsu 5 20 (jsu 3 20 (jsu 2 20 (x2.tdiv (((Nat.gcd (x2).natAbs (x3).natAbs : Nat) : Int))))))))) - 2) : jT xs (d + 1) 14 0 0 [(0, (0, x2)), (1, (0, x3))] [] [] 1 6 (fun k v hsN => k = 0 ∧ v = (4, (-1)) ∧ hsN = [] ++ [(101, [], [(jsc 2 20 (x2.tdiv (((Nat.gcd (x2).natAbs (x3).natAbs : Nat) : Int)))) - (jsc 2 20 (x3.tdiv (((Nat.gcd (x2).natAbs (x3).natAbs : Nat) : Int)))), -(jsc 3 20 (jsu 2 20 (x3.tdiv (((Nat.gcd (x2).natAbs (x3).natAbs : Nat) : Int))))) + (jsc 3 20 (jsu 2 20 (x2.tdiv (((Nat.gcd (x2).natAbs (x3).natAbs : Nat) : Int))))), (jsc 5 20 (jsu 3 20 (jsu 2 20 (x2.tdiv (((Nat.gcd (x2).natAbs (x3).natAbs : Nat) : Int)))))) - (jsc 5 20 (jsu 3 20 (jsu 2 20 (x3.tdiv (((Nat.gcd (x2).natAbs (x3).natAbs : Nat) : Int)))))), (jsc 7 20 (jsu 5 20 (jsu 3 20 (jsu 2 20 (x2.tdiv (((Nat.gcd (x2).natAbs (x3).natAbs : Nat) : Int))))))) - (jsc 7 20 (jsu 5 20 (jsu 3 20 (jsu 2 20 (x3.tdiv (((Nat.gcd (x2).natAbs (x3).natAbs : Nat) : Int))))))), (jsc 11 20 (jsu 7 20 (jsu 5 20 (jsu 3 20 (jsu 2 20 (x2.tdiv (((Nat.gcd (x2).natAbs (x3).natAbs : Nat) : Int)))))))) - (jsc 11 20 (jsu 7 20 (jsu 5 20 (jsu 3 20 (jsu 2 20 (x3.tdiv (((Nat.gcd (x2).natAbs (x3).natAbs : Nat) : Int)))))))), (jsc 13 20 (jsu 11 20 (jsu 7 20 (jsu 5 20 (jsu 3 20 (jsu 2 20 (x2.tdiv (((Nat.gcd (x2).natAbs (x3).natAbs : Nat) : Int))))))))) - (jsc 13 20 (jsu 11 20 (jsu 7 20 (jsu 5 20 (jsu 3 20 (jsu 2 20 (x3.tdiv (((Nat.gcd (x2).natAbs (x3).natAbs : Nat) : Int)))))))))])]) := by
  refine jT_xlconst (z := 1) (pcN := 1) jIH_14_0 rfl rfl ?_
  refine jT_xiload_n (v := (0, x2)) (pcN := 2) jIH_14_1 rfl rfl rfl ?_
  refine jT_xi2l (x := x2) (z := x2) (pcN := 3) jIH_14_2 rfl (jw_idd (by omega) (by omega)) rfl ?_
  refine jT_xiload_n (v := (0, x3)) (pcN := 4) jIH_14_3 rfl rfl rfl ?_
  refine jT_xi2l (x := x3) (z := x3) (pcN := 5) jIH_14_4 rfl (jw_idd (by omega) (by omega)) rfl ?_
  refine jT_fR [] 0 (y := 98) (pcN := 8) (dC := 0) (bc1 := 0) (bc2 := 0) (c1 := 1) (c2 := 6) (as := [(1, x2), (1, x3)]) (asC := [(1, x2), (1, x3)]) (LN := [(0, (0, x2)), (1, (0, x3))]) (stN := [(1, 1)]) (hsC := []) (v := (1, ((Nat.gcd (x2).natAbs (x3).natAbs : Nat) : Int))) (st2 := [(1, ((Nat.gcd (x2).natAbs (x3).natAbs : Nat) : Int)), (1, 1)]) (jT_div98 (d := 0) (x := x2) (y := x3) (by omega) (by omega)) (by rfl) (by rfl) (by decide +kernel) (by rfl) (by rfl) (by omega) (by omega) (by omega) (by omega) rfl ?_
  have hb_q1 := jgcd_l (x := x2) (y := x3) (by omega)
  have hb_q1 : 1 ≤ ((Nat.gcd (x2).natAbs (x3).natAbs : Nat) : Int) ∧ ((Nat.gcd (x2).natAbs (x3).natAbs : Nat) : Int) ≤ 1000000 := ⟨hb_q1.1, by omega⟩
  generalize hq_q1 : ((Nat.gcd (x2).natAbs (x3).natAbs : Nat) : Int) = q1 at hb_q1 g_0 ⊢
  refine jT_mm3 (x := 1) (y := q1) (z := q1) (by rfl) (by rfl) (by rfl) (by rfl) (jwl_idd (by omega) (by omega)) (jwl_idd (by omega) (by omega)) (by rw [decide_eq_false (show ¬ ((q1 : Int) < 1) by omega)]; rfl) ?_
  refine jT_xlstore_n (v := (1, q1)) (LN := [(2, (1, q1)), (0, (0, x2)), (1, (0, x3))]) (pcN := 12) jIH_14_11 rfl rfl rfl rfl ?_
  refine jT_xiload_n (v := (0, x2)) (pcN := 13) jIH_14_12 rfl rfl rfl ?_
  refine jT_xi2l (x := x2) (z := x2) (pcN := 14) jIH_14_13 rfl (jw_idd (by omega) (by omega)) rfl ?_
  refine jT_xlload_n (v := (1, q1)) (pcN := 15) jIH_14_14 rfl rfl rfl ?_
  refine jT_ldiv (a := x2) (b := q1) (by rfl) (by rfl) (jwl_idd (by omega) (by omega)) (jwl_idd (by omega) (by omega)) (by omega) ?_
  have hb_q2 := jfr_b hq_q1 (by omega) (by omega)
  generalize hq_q2 : x2.tdiv q1 = q2 at hb_q2 g_0 ⊢
  refine jT_xlstore (v := (1, q2)) (LN := [(4, (1, q2)), (2, (1, q1)), (0, (0, x2)), (1, (0, x3))]) (pcN := 18) jIH_14_16 rfl rfl rfl rfl ?_
  refine jT_xiload_n (v := (0, x3)) (pcN := 19) jIH_14_18 rfl rfl rfl ?_
  refine jT_xi2l (x := x3) (z := x3) (pcN := 20) jIH_14_19 rfl (jw_idd (by omega) (by omega)) rfl ?_
  refine jT_xlload_n (v := (1, q1)) (pcN := 21) jIH_14_20 rfl rfl rfl ?_
  refine jT_ldiv (a := x3) (b := q1) (by rfl) (by rfl) (jwl_idd (by omega) (by omega)) (jwl_idd (by omega) (by omega)) (by omega) ?_
  have hb_q3 := jfr_b2 hq_q1 (by omega) (by omega)
  generalize hq_q3 : x3.tdiv q1 = q3 at hb_q3 ⊢
  refine jT_xlstore (v := (1, q3)) (LN := [(6, (1, q3)), (4, (1, q2)), (2, (1, q1)), (0, (0, x2)), (1, (0, x3))]) (pcN := 24) jIH_14_22 rfl rfl rfl rfl ?_
  refine jT_xbipush (k := 6) (pcN := 26) jIH_14_24 (by decide) rfl ?_
  refine jT_adv 1 (pcN := 28) (LN := [(6, (1, q3)), (4, (1, q2)), (2, (1, q1)), (0, (0, x2)), (1, (0, x3))]) (stN := [(4, 0)]) (hsN := [(101, [], [0, 0, 0, 0, 0, 0])]) (c1 := 1) (s1 := 6) (c2 := 0) (s2 := 0) (by exact rfl) ?_ (by omega) (by omega)
  refine jT_xastore (v := (4, 0)) (LN := [(8, (4, 0)), (6, (1, q3)), (4, (1, q2)), (2, (1, q1)), (0, (0, x2)), (1, (0, x3))]) (pcN := 30) jIH_14_28 rfl rfl rfl rfl ?_
  refine jT_xiconst (k := 0) (pcN := 31) jIH_14_30 rfl ?_
  refine jT_xistore (v := (0, 0)) (LN := [(9, (0, 0)), (8, (4, 0)), (6, (1, q3)), (4, (1, q2)), (2, (1, q1)), (0, (0, x2)), (1, (0, x3))]) (pcN := 33) jIH_14_31 rfl rfl rfl rfl ?_
  refine jT_xiload (v := (0, 0)) (pcN := 35) jIH_14_33 rfl rfl rfl ?_
  refine jT_xbipush (k := 6) (pcN := 37) jIH_14_35 (by decide) rfl ?_
  refine jT_xicF (t := 164) (pcN := 40) jIH_14_37 rfl (by decide +kernel) rfl rfl ?_
  refine jT_xiconst (k := 0) (pcN := 41) jIH_14_40 rfl ?_
  refine jT_xistore (v := (0, 0)) (LN := [(10, (0, 0)), (9, (0, 0)), (8, (4, 0)), (6, (1, q3)), (4, (1, q2)), (2, (1, q1)), (0, (0, x2)), (1, (0, x3))]) (pcN := 43) jIH_14_41 rfl rfl rfl rfl ?_
  refine jT_loc (LN := [(10, (0, 0)), (4, (1, q2)), (6, (1, q3)), (8, (4, 0)), (9, (0, 0))]) (by show List.Nodup [10, 4, 6, 8, 9]; decide) (by intro q hq; simp only [List.mem_cons, List.not_mem_nil, or_false] at hq; rcases hq with rfl | rfl | rfl | rfl | rfl <;> rfl) ?_
  refine jHl_fr_25 (y6 := q3) (e1 := 0) (e2 := 0) (e3 := 0) (e4 := 0) (e5 := 0) 20 0 q2 0 (by omega) (by omega) (by omega) (by omega) (Int.lt_of_le_of_lt (show q2 ≤ (1000000 : Int) by omega) (by decide)) ?_
  have hb_q4 := jsu_b (P := 2) (by decide) (n := 20) (u := q2) (by omega) (by omega)
  generalize hq_q4 : jsu 2 20 q2 = q4 at hb_q4 g_0 ⊢
  have hb_q5 := jsc_b (P := 2) (n := 20) (u := q2)
  have hb_q5 : 0 ≤ jsc 2 20 q2 ∧ jsc 2 20 q2 ≤ 20 := ⟨hb_q5.1, by omega⟩
  generalize hq_q5 : jsc 2 20 q2 = q5 at hb_q5 ⊢
  refine jT_eq (LN := [(4, (1, q4)), (6, (1, q3)), (8, (4, 0)), (9, (0, 0))]) (stN := []) (hsN := [(101, [], [q5, 0, 0, 0, 0, 0])]) (rfl) (rfl) (by simp only [List.cons.injEq, Prod.mk.injEq, and_true, true_and] <;> ((try unfold jw); (try unfold jwl); omega)) ?_
  refine jT_xiconst (k := 0) (pcN := 100) jIH_14_99 rfl ?_
  refine jT_xistore (v := (0, 0)) (LN := [(10, (0, 0)), (4, (1, q4)), (6, (1, q3)), (8, (4, 0)), (9, (0, 0))]) (pcN := 102) jIH_14_100 rfl rfl rfl rfl ?_
  refine jT_loc (LN := [(10, (0, 0)), (6, (1, q3)), (4, (1, q4)), (8, (4, 0)), (9, (0, 0))]) (by show List.Nodup [10, 6, 4, 8, 9]; decide) (by intro q hq; simp only [List.mem_cons, List.not_mem_nil, or_false] at hq; rcases hq with rfl | rfl | rfl | rfl | rfl <;> rfl) ?_
  refine jHl_fr_26 (y4 := q4) (e1 := 0) (e2 := 0) (e3 := 0) (e4 := 0) (e5 := 0) 20 0 q3 q5 (by omega) (by omega) (by omega) (by omega) (Int.lt_of_le_of_lt (show q3 ≤ (1000000 : Int) by omega) (by decide)) ?_
  have hb_q6 := jsu_b (P := 2) (by decide) (n := 20) (u := q3) (by omega) (by omega)
  generalize hq_q6 : jsu 2 20 q3 = q6 at hb_q6 ⊢
  have hb_q7 := jsc_b (P := 2) (n := 20) (u := q3)
  have hb_q7 : 0 ≤ jsc 2 20 q3 ∧ jsc 2 20 q3 ≤ 20 := ⟨hb_q7.1, by omega⟩
  generalize hq_q7 : jsc 2 20 q3 = q7 at hb_q7 ⊢
  refine jT_xiinc (x := 0) (z := 1) (LN := [(9, (0, 1)), (6, (1, q6)), (4, (1, q4)), (8, (4, 0))]) (pcN := 161) jIH_14_158 rfl rfl (by decide) rfl rfl ?_
  refine jT_xgoto (pcN := 33) jIH_14_161 rfl ?_
  refine jT_xiload (v := (0, 1)) (pcN := 35) jIH_14_33 rfl rfl rfl ?_
  refine jT_xbipush (k := 6) (pcN := 37) jIH_14_35 (by decide) rfl ?_
  refine jT_xicF (t := 164) (pcN := 40) jIH_14_37 rfl (by decide +kernel) rfl rfl ?_
  refine jT_xiconst (k := 0) (pcN := 41) jIH_14_40 rfl ?_
  refine jT_xistore (v := (0, 0)) (LN := [(10, (0, 0)), (9, (0, 1)), (6, (1, q6)), (4, (1, q4)), (8, (4, 0))]) (pcN := 43) jIH_14_41 rfl rfl rfl rfl ?_
  refine jT_loc (LN := [(10, (0, 0)), (4, (1, q4)), (6, (1, q6)), (8, (4, 0)), (9, (0, 1))]) (by show List.Nodup [10, 4, 6, 8, 9]; decide) (by intro q hq; simp only [List.mem_cons, List.not_mem_nil, or_false] at hq; rcases hq with rfl | rfl | rfl | rfl | rfl <;> rfl) ?_
  refine jHl_fr_27 (y6 := q6) (e0 := q5 - q7) (e2 := 0) (e3 := 0) (e4 := 0) (e5 := 0) 20 0 q4 0 (by omega) (by omega) (by omega) (by omega) (Int.lt_of_le_of_lt (show q4 ≤ (1000000 : Int) by omega) (by decide)) ?_
  have hb_q8 := jsu_b (P := 3) (by decide) (n := 20) (u := q4) (by omega) (by omega)
  generalize hq_q8 : jsu 3 20 q4 = q8 at hb_q8 g_0 ⊢
  have hb_q9 := jsc_b (P := 3) (n := 20) (u := q4)
  have hb_q9 : 0 ≤ jsc 3 20 q4 ∧ jsc 3 20 q4 ≤ 20 := ⟨hb_q9.1, by omega⟩
  generalize hq_q9 : jsc 3 20 q4 = q9 at hb_q9 ⊢
  refine jT_eq (LN := [(4, (1, q8)), (6, (1, q6)), (8, (4, 0)), (9, (0, 1))]) (stN := []) (hsN := [(101, [], [q5 - q7, q9, 0, 0, 0, 0])]) (rfl) (rfl) (by simp only [List.cons.injEq, Prod.mk.injEq, and_true, true_and] <;> ((try unfold jw); (try unfold jwl); omega)) ?_
  refine jT_xiconst (k := 0) (pcN := 100) jIH_14_99 rfl ?_
  refine jT_xistore (v := (0, 0)) (LN := [(10, (0, 0)), (4, (1, q8)), (6, (1, q6)), (8, (4, 0)), (9, (0, 1))]) (pcN := 102) jIH_14_100 rfl rfl rfl rfl ?_
  refine jT_loc (LN := [(10, (0, 0)), (6, (1, q6)), (4, (1, q8)), (8, (4, 0)), (9, (0, 1))]) (by show List.Nodup [10, 6, 4, 8, 9]; decide) (by intro q hq; simp only [List.mem_cons, List.not_mem_nil, or_false] at hq; rcases hq with rfl | rfl | rfl | rfl | rfl <;> rfl) ?_
  refine jHl_fr_28 (y4 := q8) (e0 := q5 - q7) (e2 := 0) (e3 := 0) (e4 := 0) (e5 := 0) 20 0 q6 q9 (by omega) (by omega) (by omega) (by omega) (Int.lt_of_le_of_lt (show q6 ≤ (1000000 : Int) by omega) (by decide)) ?_
  have hb_q10 := jsu_b (P := 3) (by decide) (n := 20) (u := q6) (by omega) (by omega)
  generalize hq_q10 : jsu 3 20 q6 = q10 at hb_q10 ⊢
  have hb_q11 := jsc_b (P := 3) (n := 20) (u := q6)
  have hb_q11 : 0 ≤ jsc 3 20 q6 ∧ jsc 3 20 q6 ≤ 20 := ⟨hb_q11.1, by omega⟩
  generalize hq_q11 : jsc 3 20 q6 = q11 at hb_q11 ⊢
  refine jT_eq (LN := [(6, (1, q10)), (4, (1, q8)), (8, (4, 0)), (9, (0, 1))]) (stN := []) (hsN := [(101, [], [q5 - q7, -q11 + q9, 0, 0, 0, 0])]) (rfl) (rfl) (by simp only [List.cons.injEq, Prod.mk.injEq, and_true, true_and] <;> ((try unfold jw); (try unfold jwl); omega)) ?_
  refine jT_xiinc (x := 1) (z := 2) (LN := [(9, (0, 2)), (6, (1, q10)), (4, (1, q8)), (8, (4, 0))]) (pcN := 161) jIH_14_158 rfl rfl (by decide) rfl rfl ?_
  refine jT_xgoto (pcN := 33) jIH_14_161 rfl ?_
  refine jT_xiload (v := (0, 2)) (pcN := 35) jIH_14_33 rfl rfl rfl ?_
  refine jT_xbipush (k := 6) (pcN := 37) jIH_14_35 (by decide) rfl ?_
  refine jT_xicF (t := 164) (pcN := 40) jIH_14_37 rfl (by decide +kernel) rfl rfl ?_
  refine jT_xiconst (k := 0) (pcN := 41) jIH_14_40 rfl ?_
  refine jT_xistore (v := (0, 0)) (LN := [(10, (0, 0)), (9, (0, 2)), (6, (1, q10)), (4, (1, q8)), (8, (4, 0))]) (pcN := 43) jIH_14_41 rfl rfl rfl rfl ?_
  refine jT_loc (LN := [(10, (0, 0)), (4, (1, q8)), (6, (1, q10)), (8, (4, 0)), (9, (0, 2))]) (by show List.Nodup [10, 4, 6, 8, 9]; decide) (by intro q hq; simp only [List.mem_cons, List.not_mem_nil, or_false] at hq; rcases hq with rfl | rfl | rfl | rfl | rfl <;> rfl) ?_
  refine jHl_fr_29 (y6 := q10) (e0 := q5 - q7) (e1 := -q11 + q9) (e3 := 0) (e4 := 0) (e5 := 0) 20 0 q8 0 (by omega) (by omega) (by omega) (by omega) (Int.lt_of_le_of_lt (show q8 ≤ (1000000 : Int) by omega) (by decide)) ?_
  have hb_q12 := jsu_b (P := 5) (by decide) (n := 20) (u := q8) (by omega) (by omega)
  generalize hq_q12 : jsu 5 20 q8 = q12 at hb_q12 g_0 ⊢
  have hb_q13 := jsc_b (P := 5) (n := 20) (u := q8)
  have hb_q13 : 0 ≤ jsc 5 20 q8 ∧ jsc 5 20 q8 ≤ 20 := ⟨hb_q13.1, by omega⟩
  generalize hq_q13 : jsc 5 20 q8 = q13 at hb_q13 ⊢
  refine jT_eq (LN := [(4, (1, q12)), (6, (1, q10)), (8, (4, 0)), (9, (0, 2))]) (stN := []) (hsN := [(101, [], [q5 - q7, -q11 + q9, q13, 0, 0, 0])]) (rfl) (rfl) (by simp only [List.cons.injEq, Prod.mk.injEq, and_true, true_and] <;> ((try unfold jw); (try unfold jwl); omega)) ?_
  refine jT_xiconst (k := 0) (pcN := 100) jIH_14_99 rfl ?_
  refine jT_xistore (v := (0, 0)) (LN := [(10, (0, 0)), (4, (1, q12)), (6, (1, q10)), (8, (4, 0)), (9, (0, 2))]) (pcN := 102) jIH_14_100 rfl rfl rfl rfl ?_
  refine jT_loc (LN := [(10, (0, 0)), (6, (1, q10)), (4, (1, q12)), (8, (4, 0)), (9, (0, 2))]) (by show List.Nodup [10, 6, 4, 8, 9]; decide) (by intro q hq; simp only [List.mem_cons, List.not_mem_nil, or_false] at hq; rcases hq with rfl | rfl | rfl | rfl | rfl <;> rfl) ?_
  refine jHl_fr_30 (y4 := q12) (e0 := q5 - q7) (e1 := -q11 + q9) (e3 := 0) (e4 := 0) (e5 := 0) 20 0 q10 q13 (by omega) (by omega) (by omega) (by omega) (Int.lt_of_le_of_lt (show q10 ≤ (1000000 : Int) by omega) (by decide)) ?_
  have hb_q14 := jsu_b (P := 5) (by decide) (n := 20) (u := q10) (by omega) (by omega)
  generalize hq_q14 : jsu 5 20 q10 = q14 at hb_q14 ⊢
  have hb_q15 := jsc_b (P := 5) (n := 20) (u := q10)
  have hb_q15 : 0 ≤ jsc 5 20 q10 ∧ jsc 5 20 q10 ≤ 20 := ⟨hb_q15.1, by omega⟩
  generalize hq_q15 : jsc 5 20 q10 = q15 at hb_q15 ⊢
  refine jT_xiinc (x := 2) (z := 3) (LN := [(9, (0, 3)), (6, (1, q14)), (4, (1, q12)), (8, (4, 0))]) (pcN := 161) jIH_14_158 rfl rfl (by decide) rfl rfl ?_
  refine jT_xgoto (pcN := 33) jIH_14_161 rfl ?_
  refine jT_xiload (v := (0, 3)) (pcN := 35) jIH_14_33 rfl rfl rfl ?_
  refine jT_xbipush (k := 6) (pcN := 37) jIH_14_35 (by decide) rfl ?_
  refine jT_xicF (t := 164) (pcN := 40) jIH_14_37 rfl (by decide +kernel) rfl rfl ?_
  refine jT_xiconst (k := 0) (pcN := 41) jIH_14_40 rfl ?_
  refine jT_xistore (v := (0, 0)) (LN := [(10, (0, 0)), (9, (0, 3)), (6, (1, q14)), (4, (1, q12)), (8, (4, 0))]) (pcN := 43) jIH_14_41 rfl rfl rfl rfl ?_
  refine jT_loc (LN := [(10, (0, 0)), (4, (1, q12)), (6, (1, q14)), (8, (4, 0)), (9, (0, 3))]) (by show List.Nodup [10, 4, 6, 8, 9]; decide) (by intro q hq; simp only [List.mem_cons, List.not_mem_nil, or_false] at hq; rcases hq with rfl | rfl | rfl | rfl | rfl <;> rfl) ?_
  refine jHl_fr_31 (y6 := q14) (e0 := q5 - q7) (e1 := -q11 + q9) (e2 := q13 - q15) (e4 := 0) (e5 := 0) 20 0 q12 0 (by omega) (by omega) (by omega) (by omega) (Int.lt_of_le_of_lt (show q12 ≤ (1000000 : Int) by omega) (by decide)) ?_
  have hb_q16 := jsu_b (P := 7) (by decide) (n := 20) (u := q12) (by omega) (by omega)
  generalize hq_q16 : jsu 7 20 q12 = q16 at hb_q16 g_0 ⊢
  have hb_q17 := jsc_b (P := 7) (n := 20) (u := q12)
  have hb_q17 : 0 ≤ jsc 7 20 q12 ∧ jsc 7 20 q12 ≤ 20 := ⟨hb_q17.1, by omega⟩
  generalize hq_q17 : jsc 7 20 q12 = q17 at hb_q17 ⊢
  refine jT_eq (LN := [(4, (1, q16)), (6, (1, q14)), (8, (4, 0)), (9, (0, 3))]) (stN := []) (hsN := [(101, [], [q5 - q7, -q11 + q9, q13 - q15, q17, 0, 0])]) (rfl) (rfl) (by simp only [List.cons.injEq, Prod.mk.injEq, and_true, true_and] <;> ((try unfold jw); (try unfold jwl); omega)) ?_
  refine jT_xiconst (k := 0) (pcN := 100) jIH_14_99 rfl ?_
  refine jT_xistore (v := (0, 0)) (LN := [(10, (0, 0)), (4, (1, q16)), (6, (1, q14)), (8, (4, 0)), (9, (0, 3))]) (pcN := 102) jIH_14_100 rfl rfl rfl rfl ?_
  refine jT_loc (LN := [(10, (0, 0)), (6, (1, q14)), (4, (1, q16)), (8, (4, 0)), (9, (0, 3))]) (by show List.Nodup [10, 6, 4, 8, 9]; decide) (by intro q hq; simp only [List.mem_cons, List.not_mem_nil, or_false] at hq; rcases hq with rfl | rfl | rfl | rfl | rfl <;> rfl) ?_
  refine jHl_fr_32 (y4 := q16) (e0 := q5 - q7) (e1 := -q11 + q9) (e2 := q13 - q15) (e4 := 0) (e5 := 0) 20 0 q14 q17 (by omega) (by omega) (by omega) (by omega) (Int.lt_of_le_of_lt (show q14 ≤ (1000000 : Int) by omega) (by decide)) ?_
  have hb_q18 := jsu_b (P := 7) (by decide) (n := 20) (u := q14) (by omega) (by omega)
  generalize hq_q18 : jsu 7 20 q14 = q18 at hb_q18 ⊢
  have hb_q19 := jsc_b (P := 7) (n := 20) (u := q14)
  have hb_q19 : 0 ≤ jsc 7 20 q14 ∧ jsc 7 20 q14 ≤ 20 := ⟨hb_q19.1, by omega⟩
  generalize hq_q19 : jsc 7 20 q14 = q19 at hb_q19 ⊢
  refine jT_xiinc (x := 3) (z := 4) (LN := [(9, (0, 4)), (6, (1, q18)), (4, (1, q16)), (8, (4, 0))]) (pcN := 161) jIH_14_158 rfl rfl (by decide) rfl rfl ?_
  refine jT_xgoto (pcN := 33) jIH_14_161 rfl ?_
  refine jT_xiload (v := (0, 4)) (pcN := 35) jIH_14_33 rfl rfl rfl ?_
  refine jT_xbipush (k := 6) (pcN := 37) jIH_14_35 (by decide) rfl ?_
  refine jT_xicF (t := 164) (pcN := 40) jIH_14_37 rfl (by decide +kernel) rfl rfl ?_
  refine jT_xiconst (k := 0) (pcN := 41) jIH_14_40 rfl ?_
  refine jT_xistore (v := (0, 0)) (LN := [(10, (0, 0)), (9, (0, 4)), (6, (1, q18)), (4, (1, q16)), (8, (4, 0))]) (pcN := 43) jIH_14_41 rfl rfl rfl rfl ?_
  refine jT_loc (LN := [(10, (0, 0)), (4, (1, q16)), (6, (1, q18)), (8, (4, 0)), (9, (0, 4))]) (by show List.Nodup [10, 4, 6, 8, 9]; decide) (by intro q hq; simp only [List.mem_cons, List.not_mem_nil, or_false] at hq; rcases hq with rfl | rfl | rfl | rfl | rfl <;> rfl) ?_
  refine jHl_fr_33 (y6 := q18) (e0 := q5 - q7) (e1 := -q11 + q9) (e2 := q13 - q15) (e3 := q17 - q19) (e5 := 0) 20 0 q16 0 (by omega) (by omega) (by omega) (by omega) (Int.lt_of_le_of_lt (show q16 ≤ (1000000 : Int) by omega) (by decide)) ?_
  have hb_q20 := jsu_b (P := 11) (by decide) (n := 20) (u := q16) (by omega) (by omega)
  generalize hq_q20 : jsu 11 20 q16 = q20 at hb_q20 g_0 ⊢
  have hb_q21 := jsc_b (P := 11) (n := 20) (u := q16)
  have hb_q21 : 0 ≤ jsc 11 20 q16 ∧ jsc 11 20 q16 ≤ 20 := ⟨hb_q21.1, by omega⟩
  generalize hq_q21 : jsc 11 20 q16 = q21 at hb_q21 ⊢
  refine jT_eq (LN := [(4, (1, q20)), (6, (1, q18)), (8, (4, 0)), (9, (0, 4))]) (stN := []) (hsN := [(101, [], [q5 - q7, -q11 + q9, q13 - q15, q17 - q19, q21, 0])]) (rfl) (rfl) (by simp only [List.cons.injEq, Prod.mk.injEq, and_true, true_and] <;> ((try unfold jw); (try unfold jwl); omega)) ?_
  refine jT_xiconst (k := 0) (pcN := 100) jIH_14_99 rfl ?_
  refine jT_xistore (v := (0, 0)) (LN := [(10, (0, 0)), (4, (1, q20)), (6, (1, q18)), (8, (4, 0)), (9, (0, 4))]) (pcN := 102) jIH_14_100 rfl rfl rfl rfl ?_
  refine jT_loc (LN := [(10, (0, 0)), (6, (1, q18)), (4, (1, q20)), (8, (4, 0)), (9, (0, 4))]) (by show List.Nodup [10, 6, 4, 8, 9]; decide) (by intro q hq; simp only [List.mem_cons, List.not_mem_nil, or_false] at hq; rcases hq with rfl | rfl | rfl | rfl | rfl <;> rfl) ?_
  refine jHl_fr_34 (y4 := q20) (e0 := q5 - q7) (e1 := -q11 + q9) (e2 := q13 - q15) (e3 := q17 - q19) (e5 := 0) 20 0 q18 q21 (by omega) (by omega) (by omega) (by omega) (Int.lt_of_le_of_lt (show q18 ≤ (1000000 : Int) by omega) (by decide)) ?_
  have hb_q22 := jsu_b (P := 11) (by decide) (n := 20) (u := q18) (by omega) (by omega)
  generalize hq_q22 : jsu 11 20 q18 = q22 at hb_q22 ⊢
  have hb_q23 := jsc_b (P := 11) (n := 20) (u := q18)
  have hb_q23 : 0 ≤ jsc 11 20 q18 ∧ jsc 11 20 q18 ≤ 20 := ⟨hb_q23.1, by omega⟩
  generalize hq_q23 : jsc 11 20 q18 = q23 at hb_q23 ⊢
  refine jT_xiinc (x := 4) (z := 5) (LN := [(9, (0, 5)), (6, (1, q22)), (4, (1, q20)), (8, (4, 0))]) (pcN := 161) jIH_14_158 rfl rfl (by decide) rfl rfl ?_
  refine jT_xgoto (pcN := 33) jIH_14_161 rfl ?_
  refine jT_xiload (v := (0, 5)) (pcN := 35) jIH_14_33 rfl rfl rfl ?_
  refine jT_xbipush (k := 6) (pcN := 37) jIH_14_35 (by decide) rfl ?_
  refine jT_xicF (t := 164) (pcN := 40) jIH_14_37 rfl (by decide +kernel) rfl rfl ?_
  refine jT_xiconst (k := 0) (pcN := 41) jIH_14_40 rfl ?_
  refine jT_xistore (v := (0, 0)) (LN := [(10, (0, 0)), (9, (0, 5)), (6, (1, q22)), (4, (1, q20)), (8, (4, 0))]) (pcN := 43) jIH_14_41 rfl rfl rfl rfl ?_
  refine jT_loc (LN := [(10, (0, 0)), (4, (1, q20)), (6, (1, q22)), (8, (4, 0)), (9, (0, 5))]) (by show List.Nodup [10, 4, 6, 8, 9]; decide) (by intro q hq; simp only [List.mem_cons, List.not_mem_nil, or_false] at hq; rcases hq with rfl | rfl | rfl | rfl | rfl <;> rfl) ?_
  refine jHl_fr_35 (y6 := q22) (e0 := q5 - q7) (e1 := -q11 + q9) (e2 := q13 - q15) (e3 := q17 - q19) (e4 := q21 - q23) 20 0 q20 0 (by omega) (by omega) (by omega) (by omega) (Int.lt_of_le_of_lt (show q20 ≤ (1000000 : Int) by omega) (by decide)) ?_
  have hb_q24 := jsu_b (P := 13) (by decide) (n := 20) (u := q20) (by omega) (by omega)
  generalize hq_q24 : jsu 13 20 q20 = q24 at hb_q24 g_0 ⊢
  have hb_q25 := jsc_b (P := 13) (n := 20) (u := q20)
  have hb_q25 : 0 ≤ jsc 13 20 q20 ∧ jsc 13 20 q20 ≤ 20 := ⟨hb_q25.1, by omega⟩
  generalize hq_q25 : jsc 13 20 q20 = q25 at hb_q25 ⊢
  refine jT_eq (LN := [(4, (1, q24)), (6, (1, q22)), (8, (4, 0)), (9, (0, 5))]) (stN := []) (hsN := [(101, [], [q5 - q7, -q11 + q9, q13 - q15, q17 - q19, q21 - q23, q25])]) (rfl) (rfl) (by simp only [List.cons.injEq, Prod.mk.injEq, and_true, true_and] <;> ((try unfold jw); (try unfold jwl); omega)) ?_
  refine jT_xiconst (k := 0) (pcN := 100) jIH_14_99 rfl ?_
  refine jT_xistore (v := (0, 0)) (LN := [(10, (0, 0)), (4, (1, q24)), (6, (1, q22)), (8, (4, 0)), (9, (0, 5))]) (pcN := 102) jIH_14_100 rfl rfl rfl rfl ?_
  refine jT_loc (LN := [(10, (0, 0)), (6, (1, q22)), (4, (1, q24)), (8, (4, 0)), (9, (0, 5))]) (by show List.Nodup [10, 6, 4, 8, 9]; decide) (by intro q hq; simp only [List.mem_cons, List.not_mem_nil, or_false] at hq; rcases hq with rfl | rfl | rfl | rfl | rfl <;> rfl) ?_
  refine jHl_fr_36 (y4 := q24) (e0 := q5 - q7) (e1 := -q11 + q9) (e2 := q13 - q15) (e3 := q17 - q19) (e4 := q21 - q23) 20 0 q22 q25 (by omega) (by omega) (by omega) (by omega) (Int.lt_of_le_of_lt (show q22 ≤ (1000000 : Int) by omega) (by decide)) ?_
  have hb_q26 := jsu_b (P := 13) (by decide) (n := 20) (u := q22) (by omega) (by omega)
  generalize hq_q26 : jsu 13 20 q22 = q26 at hb_q26 ⊢
  have hb_q27 := jsc_b (P := 13) (n := 20) (u := q22)
  have hb_q27 : 0 ≤ jsc 13 20 q22 ∧ jsc 13 20 q22 ≤ 20 := ⟨hb_q27.1, by omega⟩
  generalize hq_q27 : jsc 13 20 q22 = q27 at hb_q27 ⊢
  refine jT_xiinc (x := 5) (z := 6) (LN := [(9, (0, 6)), (6, (1, q26)), (4, (1, q24)), (8, (4, 0))]) (pcN := 161) jIH_14_158 rfl rfl (by decide) rfl rfl ?_
  refine jT_xgoto (pcN := 33) jIH_14_161 rfl ?_
  refine jT_xiload (v := (0, 6)) (pcN := 35) jIH_14_33 rfl rfl rfl ?_
  refine jT_xbipush (k := 6) (pcN := 37) jIH_14_35 (by decide) rfl ?_
  refine jT_xicT (pcN := 164) jIH_14_37 rfl (by decide +kernel) rfl ?_
  refine jT_xlload (v := (1, q24)) (pcN := 166) jIH_14_164 rfl rfl rfl ?_
  refine jT_xlconst (z := 1) (pcN := 167) jIH_14_166 rfl rfl ?_
  refine jT_lcmp (a := q24) (b := 1) (z := 1) (by rfl) (by rfl) (jwl_idd (by omega) (by omega)) (jwl_idd (by omega) (by omega)) (by rw [decide_eq_true (show (1 : Int) < q24 by omega)]; rfl) ?_
  refine jT_xifT (pcN := 191) jIH_14_168 rfl (by decide +kernel) rfl ?_
  refine jT_adv 1 (pcN := 192) (LN := [(9, (0, 6)), (6, (1, q26)), (4, (1, q24)), (8, (4, 0))]) (stN := [(4, (-1))]) (hsN := [(101, [], [q5 - q7, -q11 + q9, q13 - q15, q17 - q19, q21 - q23, q25 - q27])]) (c1 := 0) (s1 := 0) (c2 := 0) (s2 := 0) (by exact rfl) ?_ (by omega) (by omega)
  subst hq_q27
  subst hq_q26
  subst hq_q25
  subst hq_q24
  subst hq_q23
  subst hq_q22
  subst hq_q21
  subst hq_q20
  subst hq_q19
  subst hq_q18
  subst hq_q17
  subst hq_q16
  subst hq_q15
  subst hq_q14
  subst hq_q13
  subst hq_q12
  subst hq_q11
  subst hq_q10
  subst hq_q9
  subst hq_q8
  subst hq_q7
  subst hq_q6
  subst hq_q5
  subst hq_q4
  subst hq_q3
  subst hq_q2
  subst hq_q1
  exact jT_ret rfl (by decide) (by show 0 ≤ 1; omega) (by omega) (by omega) ⟨rfl, rfl, rfl⟩
theorem jH_117_38 {xs : List Int} {d : Nat} : jT xs d 117 1 0 [(0, (4, 0)), (1, (4, (-1)))] [] [jgh] 1 6 (fun k v hsN => k = 1 ∧ v = (0, 2) ∧ hsN = [jgh] ++ []) := by
  refine jT_advK 2 (pcN := 11) (LN := [(0, (4, 0)), (1, (4, (-1)))]) (stN := []) (hsN := [jgh]) (c1 := 0) (s1 := 0) (c2 := 1) (s2 := 6) (by decide +kernel) ?_ (by omega) (by omega)
  exact jT_ret (c1 := 1) (s1 := 6) rfl (by decide) (by show 1 ≤ 1; omega) (by omega) (by omega) ⟨rfl, rfl, rfl⟩
theorem jIH_114_23 : jmI (jm 114) 23 = (.iload_n 2, 1) := by rfl
theorem jIH_114_24 : jmI (jm 114) 24 = (.iload_n 3, 1) := by rfl
theorem jIH_114_28 : jmI (jm 114) 28 = (.astore 4, 2) := by rfl
theorem jIH_114_30 : jmI (jm 114) 30 = (.aload_n 0, 1) := by rfl
theorem jIH_114_31 : jmI (jm 114) 31 = (.aload 4, 2) := by rfl
theorem jH_114_39 {xs : List Int} {d : Nat} {x1 x2 x3 : Int} (h_x1 : 0 ≤ x1 ∧ x1 ≤ 7) (h_x2 : 1 ≤ x2 ∧ x2 ≤ 1000000) (h_x3 : 1 ≤ x3 ∧ x3 ≤ 1000000) (g_0 : 0 ≤ (jsu 13 20 (jsu 11 20 (jsu 7 20 (jsu 5 20 (jsu 3 20 (jsu 2 20 (x2.tdiv (((Nat.gcd (x2).natAbs (x3).natAbs : Nat) : Int))))))))) - 2) : jT xs (d + 2) 114 12 0 [(0, (4, 0)), (1, (0, x1)), (2, (0, x2)), (3, (0, x3))] [] jpH_6 2 12 (fun k v hsN => k = 1 ∧ v = (0, 2) ∧ hsN = jpH_6 ++ [(101, [], [(jsc 2 20 (x2.tdiv (((Nat.gcd (x2).natAbs (x3).natAbs : Nat) : Int)))) - (jsc 2 20 (x3.tdiv (((Nat.gcd (x2).natAbs (x3).natAbs : Nat) : Int)))), (jsc 3 20 (jsu 2 20 (x2.tdiv (((Nat.gcd (x2).natAbs (x3).natAbs : Nat) : Int))))) - (jsc 3 20 (jsu 2 20 (x3.tdiv (((Nat.gcd (x2).natAbs (x3).natAbs : Nat) : Int))))), (jsc 5 20 (jsu 3 20 (jsu 2 20 (x2.tdiv (((Nat.gcd (x2).natAbs (x3).natAbs : Nat) : Int)))))) - (jsc 5 20 (jsu 3 20 (jsu 2 20 (x3.tdiv (((Nat.gcd (x2).natAbs (x3).natAbs : Nat) : Int)))))), (jsc 7 20 (jsu 5 20 (jsu 3 20 (jsu 2 20 (x2.tdiv (((Nat.gcd (x2).natAbs (x3).natAbs : Nat) : Int))))))) - (jsc 7 20 (jsu 5 20 (jsu 3 20 (jsu 2 20 (x3.tdiv (((Nat.gcd (x2).natAbs (x3).natAbs : Nat) : Int))))))), -(jsc 11 20 (jsu 7 20 (jsu 5 20 (jsu 3 20 (jsu 2 20 (x3.tdiv (((Nat.gcd (x2).natAbs (x3).natAbs : Nat) : Int)))))))) + (jsc 11 20 (jsu 7 20 (jsu 5 20 (jsu 3 20 (jsu 2 20 (x2.tdiv (((Nat.gcd (x2).natAbs (x3).natAbs : Nat) : Int)))))))), (jsc 13 20 (jsu 11 20 (jsu 7 20 (jsu 5 20 (jsu 3 20 (jsu 2 20 (x2.tdiv (((Nat.gcd (x2).natAbs (x3).natAbs : Nat) : Int))))))))) - (jsc 13 20 (jsu 11 20 (jsu 7 20 (jsu 5 20 (jsu 3 20 (jsu 2 20 (x3.tdiv (((Nat.gcd (x2).natAbs (x3).natAbs : Nat) : Int)))))))))])]) := by
  refine jT_xaload_n (v := (4, 0)) (pcN := 1) jIH_114_0 rfl rfl rfl ?_
  refine jT_xiload_n (v := (0, x1)) (pcN := 2) jIH_114_1 rfl rfl rfl ?_
  refine jT_xbipush (k := 8) (pcN := 4) jIH_114_2 (by decide) rfl ?_
  refine jT_fR [0] 12 (y := 115) (pcN := 7) (dC := 0) (bc1 := 0) (bc2 := 0) (c1 := 2) (c2 := 12) (as := [(4, 0), (0, x1), (0, 8)]) (asC := [(4, 0), (0, x1), (0, 8)]) (LN := [(0, (4, 0)), (1, (0, x1)), (2, (0, x2)), (3, (0, x3))]) (stN := []) (hsC := [jgh]) (v := (9, 0)) (st2 := []) (jH_115_9 (d := 0) (by omega)) (by rfl) (by rfl) (by decide +kernel) (by rfl) (by rfl) (by omega) (by omega) (by omega) (by omega) rfl ?_
  refine jT_xaload_n (v := (4, 0)) (pcN := 8) jIH_114_7 rfl rfl rfl ?_
  refine jT_xiload_n (v := (0, x2)) (pcN := 9) jIH_114_8 rfl rfl rfl ?_
  refine jT_xiconst (k := 1) (pcN := 10) jIH_114_9 rfl ?_
  refine jT_adv 1 (pcN := 12) (LN := [(0, (4, 0)), (1, (0, x1)), (2, (0, x2)), (3, (0, x3))]) (stN := [(0, 1000000), (0, 1), (0, x2), (4, 0)]) (hsN := jpH_6) (c1 := 0) (s1 := 0) (c2 := 2) (s2 := 12) (by exact rfl) ?_ (by omega) (by omega)
  refine jT_fR [0] 12 (y := 116) (pcN := 15) (dC := 0) (bc1 := 0) (bc2 := 0) (c1 := 2) (c2 := 12) (as := [(4, 0), (0, x2), (0, 1), (0, 1000000)]) (asC := [(4, 0), (0, x2), (0, 1), (0, 1000000)]) (LN := [(0, (4, 0)), (1, (0, x1)), (2, (0, x2)), (3, (0, x3))]) (stN := []) (hsC := [jgh]) (v := (9, 0)) (st2 := []) (jH_116_19 (d := 0) (by omega)) (by rfl) (by rfl) (by decide +kernel) (by rfl) (by rfl) (by omega) (by omega) (by omega) (by omega) rfl ?_
  refine jT_xaload_n (v := (4, 0)) (pcN := 16) jIH_114_15 rfl rfl rfl ?_
  refine jT_xiload_n (v := (0, x3)) (pcN := 17) jIH_114_16 rfl rfl rfl ?_
  refine jT_xiconst (k := 1) (pcN := 18) jIH_114_17 rfl ?_
  refine jT_adv 1 (pcN := 20) (LN := [(0, (4, 0)), (1, (0, x1)), (2, (0, x2)), (3, (0, x3))]) (stN := [(0, 1000000), (0, 1), (0, x3), (4, 0)]) (hsN := jpH_6) (c1 := 0) (s1 := 0) (c2 := 2) (s2 := 12) (by exact rfl) ?_ (by omega) (by omega)
  refine jT_fR [0] 12 (y := 116) (pcN := 23) (dC := 0) (bc1 := 0) (bc2 := 0) (c1 := 2) (c2 := 12) (as := [(4, 0), (0, x3), (0, 1), (0, 1000000)]) (asC := [(4, 0), (0, x3), (0, 1), (0, 1000000)]) (LN := [(0, (4, 0)), (1, (0, x1)), (2, (0, x2)), (3, (0, x3))]) (stN := []) (hsC := [jgh]) (v := (9, 0)) (st2 := []) (jH_116_24 (d := 0) (by omega)) (by rfl) (by rfl) (by decide +kernel) (by rfl) (by rfl) (by omega) (by omega) (by omega) (by omega) rfl ?_
  refine jT_xiload_n (v := (0, x2)) (pcN := 24) jIH_114_23 rfl rfl rfl ?_
  refine jT_xiload_n (v := (0, x3)) (pcN := 25) jIH_114_24 rfl rfl rfl ?_
  refine jT_fA [] 12 (y := 14) (pcN := 28) (dC := 1) (bc1 := 1) (bc2 := 6) (c1 := 1) (c2 := 6) (as := [(0, x2), (0, x3)]) (asC := [(0, x2), (0, x3)]) (LN := [(0, (4, 0)), (1, (0, x1)), (2, (0, x2)), (3, (0, x3))]) (stN := []) (hsC := []) (ex := [(101, [], [(jsc 2 20 (x2.tdiv (((Nat.gcd (x2).natAbs (x3).natAbs : Nat) : Int)))) - (jsc 2 20 (x3.tdiv (((Nat.gcd (x2).natAbs (x3).natAbs : Nat) : Int)))), -(jsc 3 20 (jsu 2 20 (x3.tdiv (((Nat.gcd (x2).natAbs (x3).natAbs : Nat) : Int))))) + (jsc 3 20 (jsu 2 20 (x2.tdiv (((Nat.gcd (x2).natAbs (x3).natAbs : Nat) : Int))))), (jsc 5 20 (jsu 3 20 (jsu 2 20 (x2.tdiv (((Nat.gcd (x2).natAbs (x3).natAbs : Nat) : Int)))))) - (jsc 5 20 (jsu 3 20 (jsu 2 20 (x3.tdiv (((Nat.gcd (x2).natAbs (x3).natAbs : Nat) : Int)))))), (jsc 7 20 (jsu 5 20 (jsu 3 20 (jsu 2 20 (x2.tdiv (((Nat.gcd (x2).natAbs (x3).natAbs : Nat) : Int))))))) - (jsc 7 20 (jsu 5 20 (jsu 3 20 (jsu 2 20 (x3.tdiv (((Nat.gcd (x2).natAbs (x3).natAbs : Nat) : Int))))))), (jsc 11 20 (jsu 7 20 (jsu 5 20 (jsu 3 20 (jsu 2 20 (x2.tdiv (((Nat.gcd (x2).natAbs (x3).natAbs : Nat) : Int)))))))) - (jsc 11 20 (jsu 7 20 (jsu 5 20 (jsu 3 20 (jsu 2 20 (x3.tdiv (((Nat.gcd (x2).natAbs (x3).natAbs : Nat) : Int)))))))), (jsc 13 20 (jsu 11 20 (jsu 7 20 (jsu 5 20 (jsu 3 20 (jsu 2 20 (x2.tdiv (((Nat.gcd (x2).natAbs (x3).natAbs : Nat) : Int))))))))) - (jsc 13 20 (jsu 11 20 (jsu 7 20 (jsu 5 20 (jsu 3 20 (jsu 2 20 (x3.tdiv (((Nat.gcd (x2).natAbs (x3).natAbs : Nat) : Int)))))))))])]) (v := (4, (-1))) (st2 := [(4, (-1))]) (hs2 := [jzH_5, jgh, jgh, jgh, jgh, jgh, jgh, jgh, jgh, jgh, jgh, jgh, (101, [], [(jsc 2 20 (x2.tdiv (((Nat.gcd (x2).natAbs (x3).natAbs : Nat) : Int)))) - (jsc 2 20 (x3.tdiv (((Nat.gcd (x2).natAbs (x3).natAbs : Nat) : Int)))), -(jsc 3 20 (jsu 2 20 (x3.tdiv (((Nat.gcd (x2).natAbs (x3).natAbs : Nat) : Int))))) + (jsc 3 20 (jsu 2 20 (x2.tdiv (((Nat.gcd (x2).natAbs (x3).natAbs : Nat) : Int))))), (jsc 5 20 (jsu 3 20 (jsu 2 20 (x2.tdiv (((Nat.gcd (x2).natAbs (x3).natAbs : Nat) : Int)))))) - (jsc 5 20 (jsu 3 20 (jsu 2 20 (x3.tdiv (((Nat.gcd (x2).natAbs (x3).natAbs : Nat) : Int)))))), (jsc 7 20 (jsu 5 20 (jsu 3 20 (jsu 2 20 (x2.tdiv (((Nat.gcd (x2).natAbs (x3).natAbs : Nat) : Int))))))) - (jsc 7 20 (jsu 5 20 (jsu 3 20 (jsu 2 20 (x3.tdiv (((Nat.gcd (x2).natAbs (x3).natAbs : Nat) : Int))))))), (jsc 11 20 (jsu 7 20 (jsu 5 20 (jsu 3 20 (jsu 2 20 (x2.tdiv (((Nat.gcd (x2).natAbs (x3).natAbs : Nat) : Int)))))))) - (jsc 11 20 (jsu 7 20 (jsu 5 20 (jsu 3 20 (jsu 2 20 (x3.tdiv (((Nat.gcd (x2).natAbs (x3).natAbs : Nat) : Int)))))))), (jsc 13 20 (jsu 11 20 (jsu 7 20 (jsu 5 20 (jsu 3 20 (jsu 2 20 (x2.tdiv (((Nat.gcd (x2).natAbs (x3).natAbs : Nat) : Int))))))))) - (jsc 13 20 (jsu 11 20 (jsu 7 20 (jsu 5 20 (jsu 3 20 (jsu 2 20 (x3.tdiv (((Nat.gcd (x2).natAbs (x3).natAbs : Nat) : Int)))))))))])]) (jH_14_37 (d := 0) (by omega) (by omega) (by omega)) (by rfl) (by rfl) (by decide +kernel) (by rfl) (by rfl) (by omega) (by omega) (by omega) (by omega) rfl rfl ?_
  have hb_q1 := jsc_b (P := 2) (n := 20) (u := (x2.tdiv (((Nat.gcd (x2).natAbs (x3).natAbs : Nat) : Int))))
  have hb_q1 : 0 ≤ jsc 2 20 (x2.tdiv (((Nat.gcd (x2).natAbs (x3).natAbs : Nat) : Int))) ∧ jsc 2 20 (x2.tdiv (((Nat.gcd (x2).natAbs (x3).natAbs : Nat) : Int))) ≤ 20 := ⟨hb_q1.1, by omega⟩
  generalize hq_q1 : jsc 2 20 (x2.tdiv (((Nat.gcd (x2).natAbs (x3).natAbs : Nat) : Int))) = q1 at hb_q1 ⊢
  have hb_q2 := jsc_b (P := 2) (n := 20) (u := (x3.tdiv (((Nat.gcd (x2).natAbs (x3).natAbs : Nat) : Int))))
  have hb_q2 : 0 ≤ jsc 2 20 (x3.tdiv (((Nat.gcd (x2).natAbs (x3).natAbs : Nat) : Int))) ∧ jsc 2 20 (x3.tdiv (((Nat.gcd (x2).natAbs (x3).natAbs : Nat) : Int))) ≤ 20 := ⟨hb_q2.1, by omega⟩
  generalize hq_q2 : jsc 2 20 (x3.tdiv (((Nat.gcd (x2).natAbs (x3).natAbs : Nat) : Int))) = q2 at hb_q2 ⊢
  have hb_q3 := jsc_b (P := 3) (n := 20) (u := (jsu 2 20 (x2.tdiv (((Nat.gcd (x2).natAbs (x3).natAbs : Nat) : Int)))))
  have hb_q3 : 0 ≤ jsc 3 20 (jsu 2 20 (x2.tdiv (((Nat.gcd (x2).natAbs (x3).natAbs : Nat) : Int)))) ∧ jsc 3 20 (jsu 2 20 (x2.tdiv (((Nat.gcd (x2).natAbs (x3).natAbs : Nat) : Int)))) ≤ 20 := ⟨hb_q3.1, by omega⟩
  generalize hq_q3 : jsc 3 20 (jsu 2 20 (x2.tdiv (((Nat.gcd (x2).natAbs (x3).natAbs : Nat) : Int)))) = q3 at hb_q3 ⊢
  have hb_q4 := jsc_b (P := 3) (n := 20) (u := (jsu 2 20 (x3.tdiv (((Nat.gcd (x2).natAbs (x3).natAbs : Nat) : Int)))))
  have hb_q4 : 0 ≤ jsc 3 20 (jsu 2 20 (x3.tdiv (((Nat.gcd (x2).natAbs (x3).natAbs : Nat) : Int)))) ∧ jsc 3 20 (jsu 2 20 (x3.tdiv (((Nat.gcd (x2).natAbs (x3).natAbs : Nat) : Int)))) ≤ 20 := ⟨hb_q4.1, by omega⟩
  generalize hq_q4 : jsc 3 20 (jsu 2 20 (x3.tdiv (((Nat.gcd (x2).natAbs (x3).natAbs : Nat) : Int)))) = q4 at hb_q4 ⊢
  have hb_q5 := jsc_b (P := 5) (n := 20) (u := (jsu 3 20 (jsu 2 20 (x2.tdiv (((Nat.gcd (x2).natAbs (x3).natAbs : Nat) : Int))))))
  have hb_q5 : 0 ≤ jsc 5 20 (jsu 3 20 (jsu 2 20 (x2.tdiv (((Nat.gcd (x2).natAbs (x3).natAbs : Nat) : Int))))) ∧ jsc 5 20 (jsu 3 20 (jsu 2 20 (x2.tdiv (((Nat.gcd (x2).natAbs (x3).natAbs : Nat) : Int))))) ≤ 20 := ⟨hb_q5.1, by omega⟩
  generalize hq_q5 : jsc 5 20 (jsu 3 20 (jsu 2 20 (x2.tdiv (((Nat.gcd (x2).natAbs (x3).natAbs : Nat) : Int))))) = q5 at hb_q5 ⊢
  have hb_q6 := jsc_b (P := 5) (n := 20) (u := (jsu 3 20 (jsu 2 20 (x3.tdiv (((Nat.gcd (x2).natAbs (x3).natAbs : Nat) : Int))))))
  have hb_q6 : 0 ≤ jsc 5 20 (jsu 3 20 (jsu 2 20 (x3.tdiv (((Nat.gcd (x2).natAbs (x3).natAbs : Nat) : Int))))) ∧ jsc 5 20 (jsu 3 20 (jsu 2 20 (x3.tdiv (((Nat.gcd (x2).natAbs (x3).natAbs : Nat) : Int))))) ≤ 20 := ⟨hb_q6.1, by omega⟩
  generalize hq_q6 : jsc 5 20 (jsu 3 20 (jsu 2 20 (x3.tdiv (((Nat.gcd (x2).natAbs (x3).natAbs : Nat) : Int))))) = q6 at hb_q6 ⊢
  have hb_q7 := jsc_b (P := 7) (n := 20) (u := (jsu 5 20 (jsu 3 20 (jsu 2 20 (x2.tdiv (((Nat.gcd (x2).natAbs (x3).natAbs : Nat) : Int)))))))
  have hb_q7 : 0 ≤ jsc 7 20 (jsu 5 20 (jsu 3 20 (jsu 2 20 (x2.tdiv (((Nat.gcd (x2).natAbs (x3).natAbs : Nat) : Int)))))) ∧ jsc 7 20 (jsu 5 20 (jsu 3 20 (jsu 2 20 (x2.tdiv (((Nat.gcd (x2).natAbs (x3).natAbs : Nat) : Int)))))) ≤ 20 := ⟨hb_q7.1, by omega⟩
  generalize hq_q7 : jsc 7 20 (jsu 5 20 (jsu 3 20 (jsu 2 20 (x2.tdiv (((Nat.gcd (x2).natAbs (x3).natAbs : Nat) : Int)))))) = q7 at hb_q7 ⊢
  have hb_q8 := jsc_b (P := 7) (n := 20) (u := (jsu 5 20 (jsu 3 20 (jsu 2 20 (x3.tdiv (((Nat.gcd (x2).natAbs (x3).natAbs : Nat) : Int)))))))
  have hb_q8 : 0 ≤ jsc 7 20 (jsu 5 20 (jsu 3 20 (jsu 2 20 (x3.tdiv (((Nat.gcd (x2).natAbs (x3).natAbs : Nat) : Int)))))) ∧ jsc 7 20 (jsu 5 20 (jsu 3 20 (jsu 2 20 (x3.tdiv (((Nat.gcd (x2).natAbs (x3).natAbs : Nat) : Int)))))) ≤ 20 := ⟨hb_q8.1, by omega⟩
  generalize hq_q8 : jsc 7 20 (jsu 5 20 (jsu 3 20 (jsu 2 20 (x3.tdiv (((Nat.gcd (x2).natAbs (x3).natAbs : Nat) : Int)))))) = q8 at hb_q8 ⊢
  have hb_q9 := jsc_b (P := 11) (n := 20) (u := (jsu 7 20 (jsu 5 20 (jsu 3 20 (jsu 2 20 (x2.tdiv (((Nat.gcd (x2).natAbs (x3).natAbs : Nat) : Int))))))))
  have hb_q9 : 0 ≤ jsc 11 20 (jsu 7 20 (jsu 5 20 (jsu 3 20 (jsu 2 20 (x2.tdiv (((Nat.gcd (x2).natAbs (x3).natAbs : Nat) : Int))))))) ∧ jsc 11 20 (jsu 7 20 (jsu 5 20 (jsu 3 20 (jsu 2 20 (x2.tdiv (((Nat.gcd (x2).natAbs (x3).natAbs : Nat) : Int))))))) ≤ 20 := ⟨hb_q9.1, by omega⟩
  generalize hq_q9 : jsc 11 20 (jsu 7 20 (jsu 5 20 (jsu 3 20 (jsu 2 20 (x2.tdiv (((Nat.gcd (x2).natAbs (x3).natAbs : Nat) : Int))))))) = q9 at hb_q9 ⊢
  have hb_q10 := jsc_b (P := 11) (n := 20) (u := (jsu 7 20 (jsu 5 20 (jsu 3 20 (jsu 2 20 (x3.tdiv (((Nat.gcd (x2).natAbs (x3).natAbs : Nat) : Int))))))))
  have hb_q10 : 0 ≤ jsc 11 20 (jsu 7 20 (jsu 5 20 (jsu 3 20 (jsu 2 20 (x3.tdiv (((Nat.gcd (x2).natAbs (x3).natAbs : Nat) : Int))))))) ∧ jsc 11 20 (jsu 7 20 (jsu 5 20 (jsu 3 20 (jsu 2 20 (x3.tdiv (((Nat.gcd (x2).natAbs (x3).natAbs : Nat) : Int))))))) ≤ 20 := ⟨hb_q10.1, by omega⟩
  generalize hq_q10 : jsc 11 20 (jsu 7 20 (jsu 5 20 (jsu 3 20 (jsu 2 20 (x3.tdiv (((Nat.gcd (x2).natAbs (x3).natAbs : Nat) : Int))))))) = q10 at hb_q10 ⊢
  have hb_q11 := jsc_b (P := 13) (n := 20) (u := (jsu 11 20 (jsu 7 20 (jsu 5 20 (jsu 3 20 (jsu 2 20 (x2.tdiv (((Nat.gcd (x2).natAbs (x3).natAbs : Nat) : Int)))))))))
  have hb_q11 : 0 ≤ jsc 13 20 (jsu 11 20 (jsu 7 20 (jsu 5 20 (jsu 3 20 (jsu 2 20 (x2.tdiv (((Nat.gcd (x2).natAbs (x3).natAbs : Nat) : Int)))))))) ∧ jsc 13 20 (jsu 11 20 (jsu 7 20 (jsu 5 20 (jsu 3 20 (jsu 2 20 (x2.tdiv (((Nat.gcd (x2).natAbs (x3).natAbs : Nat) : Int)))))))) ≤ 20 := ⟨hb_q11.1, by omega⟩
  generalize hq_q11 : jsc 13 20 (jsu 11 20 (jsu 7 20 (jsu 5 20 (jsu 3 20 (jsu 2 20 (x2.tdiv (((Nat.gcd (x2).natAbs (x3).natAbs : Nat) : Int)))))))) = q11 at hb_q11 ⊢
  have hb_q12 := jsc_b (P := 13) (n := 20) (u := (jsu 11 20 (jsu 7 20 (jsu 5 20 (jsu 3 20 (jsu 2 20 (x3.tdiv (((Nat.gcd (x2).natAbs (x3).natAbs : Nat) : Int)))))))))
  have hb_q12 : 0 ≤ jsc 13 20 (jsu 11 20 (jsu 7 20 (jsu 5 20 (jsu 3 20 (jsu 2 20 (x3.tdiv (((Nat.gcd (x2).natAbs (x3).natAbs : Nat) : Int)))))))) ∧ jsc 13 20 (jsu 11 20 (jsu 7 20 (jsu 5 20 (jsu 3 20 (jsu 2 20 (x3.tdiv (((Nat.gcd (x2).natAbs (x3).natAbs : Nat) : Int)))))))) ≤ 20 := ⟨hb_q12.1, by omega⟩
  generalize hq_q12 : jsc 13 20 (jsu 11 20 (jsu 7 20 (jsu 5 20 (jsu 3 20 (jsu 2 20 (x3.tdiv (((Nat.gcd (x2).natAbs (x3).natAbs : Nat) : Int)))))))) = q12 at hb_q12 ⊢
  refine jT_eq (LN := [(0, (4, 0)), (1, (0, x1)), (2, (0, x2)), (3, (0, x3))]) (stN := [(4, (-1))]) (hsN := [jzH_5, jgh, jgh, jgh, jgh, jgh, jgh, jgh, jgh, jgh, jgh, jgh, (101, [], [q1 - q2, q3 - q4, q5 - q6, q7 - q8, -q10 + q9, q11 - q12])]) (rfl) (rfl) (by simp only [List.cons.injEq, Prod.mk.injEq, and_true, true_and] <;> ((try unfold jw); (try unfold jwl); omega)) ?_
  refine jT_xastore (v := (4, (-1))) (LN := [(4, (4, (-1))), (0, (4, 0)), (1, (0, x1)), (2, (0, x2)), (3, (0, x3))]) (pcN := 30) jIH_114_28 rfl rfl rfl rfl ?_
  refine jT_xaload_n (v := (4, 0)) (pcN := 31) jIH_114_30 rfl rfl rfl ?_
  refine jT_xaload (v := (4, (-1))) (pcN := 33) jIH_114_31 rfl rfl rfl ?_
  subst hq_q12
  subst hq_q11
  subst hq_q10
  subst hq_q9
  subst hq_q8
  subst hq_q7
  subst hq_q6
  subst hq_q5
  subst hq_q4
  subst hq_q3
  subst hq_q2
  subst hq_q1
  exact jT_callX [0] (y := 117) (pcN := 36) (dC := 0) (bc1 := 1) (bc2 := 6) (as := [(4, 0), (4, (-1))]) (asC := [(4, 0), (4, (-1))]) (LN := [(4, (4, (-1))), (0, (4, 0)), (1, (0, x1)), (2, (0, x2)), (3, (0, x3))]) (stN := []) (hsC := [jgh]) (e := 2) (jH_117_38 (d := 0)) (by rfl) (by rfl) (by rfl) (by rfl) ⟨rfl, trivial⟩ (by rfl) (by rfl) (by omega) (by show 12 ≤ 13; omega) (by omega) (by omega) ⟨rfl, ⟨rfl, rfl, rfl⟩⟩
theorem jH_326_40 {xs : List Int} {d : Nat} {x1 x2 x3 : Int} (h_x1 : 0 ≤ x1 ∧ x1 ≤ 7) (h_x2 : 1 ≤ x2 ∧ x2 ≤ 1000000) (h_x3 : 1 ≤ x3 ∧ x3 ≤ 1000000) (g_0 : 0 ≤ (jsu 13 20 (jsu 11 20 (jsu 7 20 (jsu 5 20 (jsu 3 20 (jsu 2 20 (x2.tdiv (((Nat.gcd (x2).natAbs (x3).natAbs : Nat) : Int))))))))) - 2) : jT xs (d + 3) 326 13 0 [(0, (4, 0)), (1, (0, x1)), (2, (0, x2)), (3, (0, x3)), (4, (4, 1))] [] jpH_14 2 12 (fun k v hsN => k = 0 ∧ v = (0, 3) ∧ hsN = jpH_14 ++ [(101, [], [(jsc 2 20 (x2.tdiv (((Nat.gcd (x2).natAbs (x3).natAbs : Nat) : Int)))) - (jsc 2 20 (x3.tdiv (((Nat.gcd (x2).natAbs (x3).natAbs : Nat) : Int)))), (jsc 3 20 (jsu 2 20 (x2.tdiv (((Nat.gcd (x2).natAbs (x3).natAbs : Nat) : Int))))) - (jsc 3 20 (jsu 2 20 (x3.tdiv (((Nat.gcd (x2).natAbs (x3).natAbs : Nat) : Int))))), (jsc 5 20 (jsu 3 20 (jsu 2 20 (x2.tdiv (((Nat.gcd (x2).natAbs (x3).natAbs : Nat) : Int)))))) - (jsc 5 20 (jsu 3 20 (jsu 2 20 (x3.tdiv (((Nat.gcd (x2).natAbs (x3).natAbs : Nat) : Int)))))), (jsc 7 20 (jsu 5 20 (jsu 3 20 (jsu 2 20 (x2.tdiv (((Nat.gcd (x2).natAbs (x3).natAbs : Nat) : Int))))))) - (jsc 7 20 (jsu 5 20 (jsu 3 20 (jsu 2 20 (x3.tdiv (((Nat.gcd (x2).natAbs (x3).natAbs : Nat) : Int))))))), -(jsc 11 20 (jsu 7 20 (jsu 5 20 (jsu 3 20 (jsu 2 20 (x3.tdiv (((Nat.gcd (x2).natAbs (x3).natAbs : Nat) : Int)))))))) + (jsc 11 20 (jsu 7 20 (jsu 5 20 (jsu 3 20 (jsu 2 20 (x2.tdiv (((Nat.gcd (x2).natAbs (x3).natAbs : Nat) : Int)))))))), (jsc 13 20 (jsu 11 20 (jsu 7 20 (jsu 5 20 (jsu 3 20 (jsu 2 20 (x2.tdiv (((Nat.gcd (x2).natAbs (x3).natAbs : Nat) : Int))))))))) - (jsc 13 20 (jsu 11 20 (jsu 7 20 (jsu 5 20 (jsu 3 20 (jsu 2 20 (x3.tdiv (((Nat.gcd (x2).natAbs (x3).natAbs : Nat) : Int)))))))))])]) := by
  refine jT_xaload (v := (4, 1)) (pcN := 2) jIH_326_0 rfl rfl rfl ?_
  refine jT_xiconst (k := 0) (pcN := 3) jIH_326_2 rfl ?_
  refine jT_xaload_n (v := (4, 0)) (pcN := 4) jIH_326_3 rfl rfl rfl ?_
  refine jT_xiload_n (v := (0, x1)) (pcN := 5) jIH_326_4 rfl rfl rfl ?_
  refine jT_xiload_n (v := (0, x2)) (pcN := 6) jIH_326_5 rfl rfl rfl ?_
  refine jT_xiload_n (v := (0, x3)) (pcN := 7) jIH_326_6 rfl rfl rfl ?_
  exact jT_fY [0, 2, 3, 4, 5, 6, 7, 8, 9, 10, 11, 12] 13 (y := 114) (pcN := 10) (dC := 2) (bc1 := 2) (bc2 := 12) (as := [(4, 0), (0, x1), (0, x2), (0, x3)]) (asC := [(4, 0), (0, x1), (0, x2), (0, x3)]) (LN := [(0, (4, 0)), (1, (0, x1)), (2, (0, x2)), (3, (0, x3)), (4, (4, 1))]) (stN := [(0, 0), (4, 1)]) (hsC := jpH_6) (hsD := [jzH_5, jgh, jgh, jgh, jgh, jgh, jgh, jgh, jgh, jgh, jgh, jgh, (101, [], [(jsc 2 20 (x2.tdiv (((Nat.gcd (x2).natAbs (x3).natAbs : Nat) : Int)))) - (jsc 2 20 (x3.tdiv (((Nat.gcd (x2).natAbs (x3).natAbs : Nat) : Int)))), (jsc 3 20 (jsu 2 20 (x2.tdiv (((Nat.gcd (x2).natAbs (x3).natAbs : Nat) : Int))))) - (jsc 3 20 (jsu 2 20 (x3.tdiv (((Nat.gcd (x2).natAbs (x3).natAbs : Nat) : Int))))), (jsc 5 20 (jsu 3 20 (jsu 2 20 (x2.tdiv (((Nat.gcd (x2).natAbs (x3).natAbs : Nat) : Int)))))) - (jsc 5 20 (jsu 3 20 (jsu 2 20 (x3.tdiv (((Nat.gcd (x2).natAbs (x3).natAbs : Nat) : Int)))))), (jsc 7 20 (jsu 5 20 (jsu 3 20 (jsu 2 20 (x2.tdiv (((Nat.gcd (x2).natAbs (x3).natAbs : Nat) : Int))))))) - (jsc 7 20 (jsu 5 20 (jsu 3 20 (jsu 2 20 (x3.tdiv (((Nat.gcd (x2).natAbs (x3).natAbs : Nat) : Int))))))), -(jsc 11 20 (jsu 7 20 (jsu 5 20 (jsu 3 20 (jsu 2 20 (x3.tdiv (((Nat.gcd (x2).natAbs (x3).natAbs : Nat) : Int)))))))) + (jsc 11 20 (jsu 7 20 (jsu 5 20 (jsu 3 20 (jsu 2 20 (x2.tdiv (((Nat.gcd (x2).natAbs (x3).natAbs : Nat) : Int)))))))), (jsc 13 20 (jsu 11 20 (jsu 7 20 (jsu 5 20 (jsu 3 20 (jsu 2 20 (x2.tdiv (((Nat.gcd (x2).natAbs (x3).natAbs : Nat) : Int))))))))) - (jsc 13 20 (jsu 11 20 (jsu 7 20 (jsu 5 20 (jsu 3 20 (jsu 2 20 (x3.tdiv (((Nat.gcd (x2).natAbs (x3).natAbs : Nat) : Int)))))))))])]) (hs2 := [jzH_13, jgh, jgh, jgh, jgh, jgh, jgh, jgh, jgh, jgh, jgh, jgh, jgh, (101, [], [(jsc 2 20 (x2.tdiv (((Nat.gcd (x2).natAbs (x3).natAbs : Nat) : Int)))) - (jsc 2 20 (x3.tdiv (((Nat.gcd (x2).natAbs (x3).natAbs : Nat) : Int)))), (jsc 3 20 (jsu 2 20 (x2.tdiv (((Nat.gcd (x2).natAbs (x3).natAbs : Nat) : Int))))) - (jsc 3 20 (jsu 2 20 (x3.tdiv (((Nat.gcd (x2).natAbs (x3).natAbs : Nat) : Int))))), (jsc 5 20 (jsu 3 20 (jsu 2 20 (x2.tdiv (((Nat.gcd (x2).natAbs (x3).natAbs : Nat) : Int)))))) - (jsc 5 20 (jsu 3 20 (jsu 2 20 (x3.tdiv (((Nat.gcd (x2).natAbs (x3).natAbs : Nat) : Int)))))), (jsc 7 20 (jsu 5 20 (jsu 3 20 (jsu 2 20 (x2.tdiv (((Nat.gcd (x2).natAbs (x3).natAbs : Nat) : Int))))))) - (jsc 7 20 (jsu 5 20 (jsu 3 20 (jsu 2 20 (x3.tdiv (((Nat.gcd (x2).natAbs (x3).natAbs : Nat) : Int))))))), -(jsc 11 20 (jsu 7 20 (jsu 5 20 (jsu 3 20 (jsu 2 20 (x3.tdiv (((Nat.gcd (x2).natAbs (x3).natAbs : Nat) : Int)))))))) + (jsc 11 20 (jsu 7 20 (jsu 5 20 (jsu 3 20 (jsu 2 20 (x2.tdiv (((Nat.gcd (x2).natAbs (x3).natAbs : Nat) : Int)))))))), (jsc 13 20 (jsu 11 20 (jsu 7 20 (jsu 5 20 (jsu 3 20 (jsu 2 20 (x2.tdiv (((Nat.gcd (x2).natAbs (x3).natAbs : Nat) : Int))))))))) - (jsc 13 20 (jsu 11 20 (jsu 7 20 (jsu 5 20 (jsu 3 20 (jsu 2 20 (x3.tdiv (((Nat.gcd (x2).natAbs (x3).natAbs : Nat) : Int)))))))))])]) (e := 2) (jH_114_39 (d := 0) (by omega) (by omega) (by omega) (by omega)) (by rfl) (by rfl) (by decide +kernel) (by rfl) (by rfl) (by omega) (by omega) (by omega) (by omega) rfl (show _ from ⟨rfl, rfl, rfl⟩)
theorem jH_191_41 {xs : List Int} {d : Nat} : jT xs d 191 1 0 [(0, (4, 0)), (1, (0, 1)), (2, (0, 2))] [] [jgh] 0 0 (fun k v hsN => k = 0 ∧ v = (0, 0) ∧ hsN = [jgh] ++ []) := by
  refine jT_advK 5 (pcN := 18) (LN := [(0, (4, 0)), (1, (0, 1)), (2, (0, 2))]) (stN := [(0, 0)]) (hsN := [jgh]) (c1 := 0) (s1 := 0) (c2 := 0) (s2 := 0) (by decide +kernel) ?_ (by omega) (by omega)
  exact jT_ret rfl (by decide) (by show 1 ≤ 1; omega) (by omega) (by omega) ⟨rfl, rfl, rfl⟩
def jpH_134 : List JC := [jzH_20, jgh, jgh, jgh, jgh, jgh, jgh, (101, [], [0, 0, 0, 0, 0, 0]), jgh, jgh, jgh, jgh, jgh, jgh, jgh, jgh]
theorem jH_193_42 {xs : List Int} {d : Nat} : jT xs d 193 16 0 [(0, (4, 0))] [] jpH_134 0 0 (fun k v hsN => k = 0 ∧ v = (9, 0) ∧ hsN = jpH_134 ++ []) := by
  refine jT_advK 68 (pcN := 26) (LN := [(1, (0, 6)), (0, (4, 0))]) (stN := []) (hsN := jpH_134) (c1 := 0) (s1 := 0) (c2 := 0) (s2 := 0) (by decide +kernel) ?_ (by omega) (by omega)
  exact jT_ret rfl (by decide) (by show 16 ≤ 16; omega) (by omega) (by omega) ⟨rfl, rfl, rfl⟩
theorem jIH_192_0 : jmI (jm 192) 0 = (.aload_n 0, 1) := by rfl
theorem jIH_192_4 : jmI (jm 192) 4 = (.iload_n 1, 1) := by rfl
theorem jIH_192_5 : jmI (jm 192) 5 = (.i2l, 1) := by rfl
theorem jIH_192_6 : jmI (jm 192) 6 = (.iload_n 2, 1) := by rfl
theorem jIH_192_7 : jmI (jm 192) 7 = (.i2l, 1) := by rfl
theorem jIH_192_11 : jmI (jm 192) 11 = (.l2i, 1) := by rfl
theorem jIH_192_12 : jmI (jm 192) 12 = (.istore_n 3, 1) := by rfl
theorem jIH_192_13 : jmI (jm 192) 13 = (.iload_n 1, 1) := by rfl
theorem jIH_192_14 : jmI (jm 192) 14 = (.iload_n 3, 1) := by rfl
theorem jIH_192_16 : jmI (jm 192) 16 = (.istore 4, 2) := by rfl
theorem jIH_192_18 : jmI (jm 192) 18 = (.iload_n 2, 1) := by rfl
theorem jIH_192_19 : jmI (jm 192) 19 = (.iload_n 3, 1) := by rfl
theorem jIH_192_21 : jmI (jm 192) 21 = (.istore 5, 2) := by rfl
theorem jIH_192_23 : jmI (jm 192) 23 = (.iconst 0, 1) := by rfl
theorem jIH_192_24 : jmI (jm 192) 24 = (.istore 6, 2) := by rfl
theorem jIH_192_26 : jmI (jm 192) 26 = (.iload 6, 2) := by rfl
theorem jIH_192_28 : jmI (jm 192) 28 = (.bipush 6, 2) := by rfl
theorem jIH_192_30 : jmI (jm 192) 30 = (.if_icmp .ge 83, 3) := by rfl
theorem jIH_192_33 : jmI (jm 192) 33 = (.iload 4, 2) := by rfl
theorem jIH_192_38 : jmI (jm 192) 38 = (.iload 6, 2) := by rfl
theorem jIH_192_42 : jmI (jm 192) 42 = (.ifCond .ne 28, 3) := by rfl
theorem jIH_192_45 : jmI (jm 192) 45 = (.iload 4, 2) := by rfl
theorem jIH_192_50 : jmI (jm 192) 50 = (.iload 6, 2) := by rfl
theorem jIH_192_54 : jmI (jm 192) 54 = (.istore 4, 2) := by rfl
theorem jIH_192_56 : jmI (jm 192) 56 = (.aload_n 0, 1) := by rfl
theorem jIH_192_57 : jmI (jm 192) 57 = (.getfield 31, 3) := by rfl
theorem jIH_192_60 : jmI (jm 192) 60 = (.iload 6, 2) := by rfl
theorem jIH_192_63 : jmI (jm 192) 63 = (.laload, 1) := by rfl
theorem jIH_192_64 : jmI (jm 192) 64 = (.lconst 1, 1) := by rfl
theorem jIH_192_65 : jmI (jm 192) 65 = (.ladd, 1) := by rfl
theorem jIH_192_67 : jmI (jm 192) 67 = (.goto (-34), 3) := by rfl
theorem jHl_fr_43 {xs : List Int} {d b1 b2 : Nat} {Q : Nat → JV → List JC → Prop} {y5 e1 e2 e3 e4 e5 : Int} : ∀ (n : Nat) (u e0 : Int), 1 ≤ u → u ≤ 1000000 → u < jp2 n → jT xs d 192 16 70 [(4, (0, jsu 2 n u)), (5, (0, y5)), (0, (4, 0)), (6, (0, 0))] [] [jzH_20, jgh, jgh, jgh, jgh, jgh, jgh, (101, [], [e0 + jsc 2 n u, e1, e2, e3, e4, e5]), jgh, jgh, jgh, jgh, jgh, jgh, jgh, jgh] b1 b2 Q → jT xs d 192 16 33 [(4, (0, u)), (5, (0, y5)), (0, (4, 0)), (6, (0, 0))] [] [jzH_20, jgh, jgh, jgh, jgh, jgh, jgh, (101, [], [e0, e1, e2, e3, e4, e5]), jgh, jgh, jgh, jgh, jgh, jgh, jgh, jgh] b1 b2 Q := by
  intro n
  induction n with
  | zero =>
    intro u e0 h1 h2 hu h
    exact absurd (show u < 1 from hu) (by omega)
  | succ n ih =>
    intro u e0 h1 h2 hu h
    have h_u : 1 ≤ u ∧ u ≤ 1000000 := ⟨h1, h2⟩
    rcases (show (0 ≤ (u.tmod 2) - 1) ∨ ((u.tmod 2) - 1 < 0) by omega) with g_0 | g_0
    · refine jT_xiload (v := (0, u)) (pcN := 35) jIH_192_33 rfl rfl rfl ?_
      refine jT_adv 1 (pcN := 38) (LN := [(4, (0, u)), (5, (0, y5)), (0, (4, 0)), (6, (0, 0))]) (stN := [(5, 5), (0, u)]) (hsN := [jzH_20, jgh, jgh, jgh, jgh, jgh, jgh, (101, [], [e0, e1, e2, e3, e4, e5]), jgh, jgh, jgh, jgh, jgh, jgh, jgh, jgh]) (c1 := 0) (s1 := 0) (c2 := b1) (s2 := b2) (by exact rfl) ?_ (by omega) (by omega)
      refine jT_xiload (v := (0, 0)) (pcN := 40) jIH_192_38 rfl rfl rfl ?_
      refine jT_adv 1 (pcN := 41) (LN := [(4, (0, u)), (5, (0, y5)), (0, (4, 0)), (6, (0, 0))]) (stN := [(0, 2), (0, u)]) (hsN := [jzH_20, jgh, jgh, jgh, jgh, jgh, jgh, (101, [], [e0, e1, e2, e3, e4, e5]), jgh, jgh, jgh, jgh, jgh, jgh, jgh, jgh]) (c1 := 0) (s1 := 0) (c2 := b1) (s2 := b2) (by exact rfl) ?_ (by omega) (by omega)
      refine jT_irem (a := u) (b := 2) (by rfl) (by rfl) (jw_idd (by omega) (by omega)) (jw_idd (by omega) (by omega)) (by omega) ?_
      have hb_q1 := jtm_b (x := u) (y := 2) (by omega) (by omega)
      have hb_q1 : 0 ≤ u.tmod 2 ∧ u.tmod 2 ≤ 1 := ⟨hb_q1.1, by omega⟩
      generalize hq_q1 : u.tmod 2 = q1 at hb_q1 g_0 ⊢
      refine jT_ifT (a := q1) (t := 70) (by rfl) (by rfl) (by rfl) (jw_idd (by omega) (by omega)) (by simp only [jcP] <;> omega) ?_
      refine jT_loc (LN := [(4, (0, u)), (5, (0, y5)), (0, (4, 0)), (6, (0, 0))]) (by show List.Nodup [4, 5, 0, 6]; decide) (by intro q hq; simp only [List.mem_cons, List.not_mem_nil, or_false] at hq; rcases hq with rfl | rfl | rfl | rfl <;> rfl) ?_
      rw [jsu_0 (by omega), jsc_0 (by omega), Int.add_zero] at h
      exact h
    · refine jT_xiload (v := (0, u)) (pcN := 35) jIH_192_33 rfl rfl rfl ?_
      refine jT_adv 1 (pcN := 38) (LN := [(4, (0, u)), (5, (0, y5)), (0, (4, 0)), (6, (0, 0))]) (stN := [(5, 5), (0, u)]) (hsN := [jzH_20, jgh, jgh, jgh, jgh, jgh, jgh, (101, [], [e0, e1, e2, e3, e4, e5]), jgh, jgh, jgh, jgh, jgh, jgh, jgh, jgh]) (c1 := 0) (s1 := 0) (c2 := b1) (s2 := b2) (by exact rfl) ?_ (by omega) (by omega)
      refine jT_xiload (v := (0, 0)) (pcN := 40) jIH_192_38 rfl rfl rfl ?_
      refine jT_adv 1 (pcN := 41) (LN := [(4, (0, u)), (5, (0, y5)), (0, (4, 0)), (6, (0, 0))]) (stN := [(0, 2), (0, u)]) (hsN := [jzH_20, jgh, jgh, jgh, jgh, jgh, jgh, (101, [], [e0, e1, e2, e3, e4, e5]), jgh, jgh, jgh, jgh, jgh, jgh, jgh, jgh]) (c1 := 0) (s1 := 0) (c2 := b1) (s2 := b2) (by exact rfl) ?_ (by omega) (by omega)
      refine jT_irem (a := u) (b := 2) (by rfl) (by rfl) (jw_idd (by omega) (by omega)) (jw_idd (by omega) (by omega)) (by omega) ?_
      have hb_q1 := jtm_b (x := u) (y := 2) (by omega) (by omega)
      have hb_q1 : 0 ≤ u.tmod 2 ∧ u.tmod 2 ≤ 1 := ⟨hb_q1.1, by omega⟩
      generalize hq_q1 : u.tmod 2 = q1 at hb_q1 g_0 ⊢
      refine jT_ifF (a := q1) (t := 70) (by rfl) (by rfl) (by rfl) (jw_idd (by omega) (by omega)) (by simp only [jcP] <;> omega) ?_
      refine jT_xiload (v := (0, u)) (pcN := 47) jIH_192_45 rfl rfl rfl ?_
      refine jT_adv 1 (pcN := 50) (LN := [(4, (0, u)), (5, (0, y5)), (0, (4, 0)), (6, (0, 0))]) (stN := [(5, 5), (0, u)]) (hsN := [jzH_20, jgh, jgh, jgh, jgh, jgh, jgh, (101, [], [e0, e1, e2, e3, e4, e5]), jgh, jgh, jgh, jgh, jgh, jgh, jgh, jgh]) (c1 := 0) (s1 := 0) (c2 := b1) (s2 := b2) (by exact rfl) ?_ (by omega) (by omega)
      refine jT_xiload (v := (0, 0)) (pcN := 52) jIH_192_50 rfl rfl rfl ?_
      refine jT_adv 1 (pcN := 53) (LN := [(4, (0, u)), (5, (0, y5)), (0, (4, 0)), (6, (0, 0))]) (stN := [(0, 2), (0, u)]) (hsN := [jzH_20, jgh, jgh, jgh, jgh, jgh, jgh, (101, [], [e0, e1, e2, e3, e4, e5]), jgh, jgh, jgh, jgh, jgh, jgh, jgh, jgh]) (c1 := 0) (s1 := 0) (c2 := b1) (s2 := b2) (by exact rfl) ?_ (by omega) (by omega)
      refine jT_idiv (a := u) (b := 2) (by rfl) (by rfl) (jw_idd (by omega) (by omega)) (jw_idd (by omega) (by omega)) (by omega) ?_
      have hb_q2 := jtd_b0 (x := u) (y := 2) (by omega) (by omega)
      have hb_q2 : 0 ≤ u.tdiv 2 ∧ u.tdiv 2 ≤ 1000000 := ⟨hb_q2.1, by omega⟩
      generalize hq_q2 : u.tdiv 2 = q2 at hb_q2 ⊢
      refine jT_xistore (v := (0, q2)) (LN := [(4, (0, q2)), (5, (0, y5)), (0, (4, 0)), (6, (0, 0))]) (pcN := 56) jIH_192_54 rfl rfl rfl rfl ?_
      refine jT_xaload_n (v := (4, 0)) (pcN := 57) jIH_192_56 rfl rfl rfl ?_
      refine jT_xgetf (a := 0) (t := 1) (ci := 14) (fi := 9) (c := jzH_20) (v := (4, 7)) (pcN := 60) jIH_192_57 rfl rfl rfl rfl rfl rfl rfl ?_
      refine jT_xiload (v := (0, 0)) (pcN := 62) jIH_192_60 rfl rfl rfl ?_
      refine jT_adv 1 (pcN := 63) (LN := [(4, (0, q2)), (5, (0, y5)), (0, (4, 0)), (6, (0, 0))]) (stN := [(0, 0), (4, 7), (0, 0), (4, 7)]) (hsN := [jzH_20, jgh, jgh, jgh, jgh, jgh, jgh, (101, [], [e0, e1, e2, e3, e4, e5]), jgh, jgh, jgh, jgh, jgh, jgh, jgh, jgh]) (c1 := 0) (s1 := 0) (c2 := b1) (s2 := b2) (by exact rfl) ?_ (by omega) (by omega)
      refine jT_lald (x := e0) (a := 7) (j := 0) (fs := []) (X := [e0, e1, e2, e3, e4, e5]) jIH_192_63 rfl rfl rfl rfl ?_
      refine jT_eq (LN := [(4, (0, q2)), (5, (0, y5)), (0, (4, 0)), (6, (0, 0))]) (stN := [(1, e0), (0, 0), (4, 7)]) (hsN := [jzH_20, jgh, jgh, jgh, jgh, jgh, jgh, (101, [], [e0, e1, e2, e3, e4, e5]), jgh, jgh, jgh, jgh, jgh, jgh, jgh, jgh]) rfl rfl rfl ?_
      refine jT_xlconst (z := 1) (pcN := 65) jIH_192_64 rfl rfl ?_
      refine jT_xladd (x := e0) (y := 1) (z := e0 + 1) (pcN := 66) jIH_192_65 rfl (rfl) rfl ?_
      refine jT_adv 1 (pcN := 67) (LN := [(4, (0, q2)), (5, (0, y5)), (0, (4, 0)), (6, (0, 0))]) (stN := []) (hsN := [jzH_20, jgh, jgh, jgh, jgh, jgh, jgh, (101, [], [e0 + 1, e1, e2, e3, e4, e5]), jgh, jgh, jgh, jgh, jgh, jgh, jgh, jgh]) (c1 := 0) (s1 := 0) (c2 := b1) (s2 := b2) (by exact rfl) ?_ (by omega) (by omega)
      refine jT_xgoto (pcN := 33) jIH_192_67 rfl ?_
      refine jT_loc (LN := [(4, (0, q2)), (5, (0, y5)), (0, (4, 0)), (6, (0, 0))]) (by show List.Nodup [4, 5, 0, 6]; decide) (by intro q hq; simp only [List.mem_cons, List.not_mem_nil, or_false] at hq; rcases hq with rfl | rfl | rfl | rfl <;> rfl) ?_
      have hs := jst_s (P := 2) (u := u) (n := n) (by decide) h1 hu (by omega)
      rw [hq_q2] at hs
      rw [jsu_1 (by omega), jsc_1 (by omega), hq_q2, show e0 + (jsc 2 n q2 + 1) = e0 + 1 + jsc 2 n q2 by omega] at h
      exact ih q2 (e0 + 1) (by omega) (by omega) hs.2.1 h
theorem jIH_192_70 : jmI (jm 192) 70 = (.iload 5, 2) := by rfl
theorem jIH_192_75 : jmI (jm 192) 75 = (.iload 6, 2) := by rfl
theorem jIH_192_79 : jmI (jm 192) 79 = (.ifCond .ne 28, 3) := by rfl
theorem jIH_192_82 : jmI (jm 192) 82 = (.iload 5, 2) := by rfl
theorem jIH_192_87 : jmI (jm 192) 87 = (.iload 6, 2) := by rfl
theorem jIH_192_91 : jmI (jm 192) 91 = (.istore 5, 2) := by rfl
theorem jIH_192_93 : jmI (jm 192) 93 = (.aload_n 0, 1) := by rfl
theorem jIH_192_94 : jmI (jm 192) 94 = (.getfield 31, 3) := by rfl
theorem jIH_192_97 : jmI (jm 192) 97 = (.iload 6, 2) := by rfl
theorem jIH_192_100 : jmI (jm 192) 100 = (.laload, 1) := by rfl
theorem jIH_192_101 : jmI (jm 192) 101 = (.lconst 1, 1) := by rfl
theorem jIH_192_102 : jmI (jm 192) 102 = (.lsub, 1) := by rfl
theorem jIH_192_104 : jmI (jm 192) 104 = (.goto (-34), 3) := by rfl
theorem jHl_fr_44 {xs : List Int} {d b1 b2 : Nat} {Q : Nat → JV → List JC → Prop} {y4 e1 e2 e3 e4 e5 : Int} : ∀ (n : Nat) (u e0 : Int), 1 ≤ u → u ≤ 1000000 → u < jp2 n → jT xs d 192 16 107 [(5, (0, jsu 2 n u)), (4, (0, y4)), (0, (4, 0)), (6, (0, 0))] [] [jzH_20, jgh, jgh, jgh, jgh, jgh, jgh, (101, [], [e0 - jsc 2 n u, e1, e2, e3, e4, e5]), jgh, jgh, jgh, jgh, jgh, jgh, jgh, jgh] b1 b2 Q → jT xs d 192 16 70 [(5, (0, u)), (4, (0, y4)), (0, (4, 0)), (6, (0, 0))] [] [jzH_20, jgh, jgh, jgh, jgh, jgh, jgh, (101, [], [e0, e1, e2, e3, e4, e5]), jgh, jgh, jgh, jgh, jgh, jgh, jgh, jgh] b1 b2 Q := by
  intro n
  induction n with
  | zero =>
    intro u e0 h1 h2 hu h
    exact absurd (show u < 1 from hu) (by omega)
  | succ n ih =>
    intro u e0 h1 h2 hu h
    have h_u : 1 ≤ u ∧ u ≤ 1000000 := ⟨h1, h2⟩
    rcases (show (0 ≤ (u.tmod 2) - 1) ∨ ((u.tmod 2) - 1 < 0) by omega) with g_0 | g_0
    · refine jT_xiload (v := (0, u)) (pcN := 72) jIH_192_70 rfl rfl rfl ?_
      refine jT_adv 1 (pcN := 75) (LN := [(5, (0, u)), (4, (0, y4)), (0, (4, 0)), (6, (0, 0))]) (stN := [(5, 5), (0, u)]) (hsN := [jzH_20, jgh, jgh, jgh, jgh, jgh, jgh, (101, [], [e0, e1, e2, e3, e4, e5]), jgh, jgh, jgh, jgh, jgh, jgh, jgh, jgh]) (c1 := 0) (s1 := 0) (c2 := b1) (s2 := b2) (by exact rfl) ?_ (by omega) (by omega)
      refine jT_xiload (v := (0, 0)) (pcN := 77) jIH_192_75 rfl rfl rfl ?_
      refine jT_adv 1 (pcN := 78) (LN := [(5, (0, u)), (4, (0, y4)), (0, (4, 0)), (6, (0, 0))]) (stN := [(0, 2), (0, u)]) (hsN := [jzH_20, jgh, jgh, jgh, jgh, jgh, jgh, (101, [], [e0, e1, e2, e3, e4, e5]), jgh, jgh, jgh, jgh, jgh, jgh, jgh, jgh]) (c1 := 0) (s1 := 0) (c2 := b1) (s2 := b2) (by exact rfl) ?_ (by omega) (by omega)
      refine jT_irem (a := u) (b := 2) (by rfl) (by rfl) (jw_idd (by omega) (by omega)) (jw_idd (by omega) (by omega)) (by omega) ?_
      have hb_q1 := jtm_b (x := u) (y := 2) (by omega) (by omega)
      have hb_q1 : 0 ≤ u.tmod 2 ∧ u.tmod 2 ≤ 1 := ⟨hb_q1.1, by omega⟩
      generalize hq_q1 : u.tmod 2 = q1 at hb_q1 g_0 ⊢
      refine jT_ifT (a := q1) (t := 107) (by rfl) (by rfl) (by rfl) (jw_idd (by omega) (by omega)) (by simp only [jcP] <;> omega) ?_
      refine jT_loc (LN := [(5, (0, u)), (4, (0, y4)), (0, (4, 0)), (6, (0, 0))]) (by show List.Nodup [5, 4, 0, 6]; decide) (by intro q hq; simp only [List.mem_cons, List.not_mem_nil, or_false] at hq; rcases hq with rfl | rfl | rfl | rfl <;> rfl) ?_
      rw [jsu_0 (by omega), jsc_0 (by omega), Int.sub_zero] at h
      exact h
    · refine jT_xiload (v := (0, u)) (pcN := 72) jIH_192_70 rfl rfl rfl ?_
      refine jT_adv 1 (pcN := 75) (LN := [(5, (0, u)), (4, (0, y4)), (0, (4, 0)), (6, (0, 0))]) (stN := [(5, 5), (0, u)]) (hsN := [jzH_20, jgh, jgh, jgh, jgh, jgh, jgh, (101, [], [e0, e1, e2, e3, e4, e5]), jgh, jgh, jgh, jgh, jgh, jgh, jgh, jgh]) (c1 := 0) (s1 := 0) (c2 := b1) (s2 := b2) (by exact rfl) ?_ (by omega) (by omega)
      refine jT_xiload (v := (0, 0)) (pcN := 77) jIH_192_75 rfl rfl rfl ?_
      refine jT_adv 1 (pcN := 78) (LN := [(5, (0, u)), (4, (0, y4)), (0, (4, 0)), (6, (0, 0))]) (stN := [(0, 2), (0, u)]) (hsN := [jzH_20, jgh, jgh, jgh, jgh, jgh, jgh, (101, [], [e0, e1, e2, e3, e4, e5]), jgh, jgh, jgh, jgh, jgh, jgh, jgh, jgh]) (c1 := 0) (s1 := 0) (c2 := b1) (s2 := b2) (by exact rfl) ?_ (by omega) (by omega)
      refine jT_irem (a := u) (b := 2) (by rfl) (by rfl) (jw_idd (by omega) (by omega)) (jw_idd (by omega) (by omega)) (by omega) ?_
      have hb_q1 := jtm_b (x := u) (y := 2) (by omega) (by omega)
      have hb_q1 : 0 ≤ u.tmod 2 ∧ u.tmod 2 ≤ 1 := ⟨hb_q1.1, by omega⟩
      generalize hq_q1 : u.tmod 2 = q1 at hb_q1 g_0 ⊢
      refine jT_ifF (a := q1) (t := 107) (by rfl) (by rfl) (by rfl) (jw_idd (by omega) (by omega)) (by simp only [jcP] <;> omega) ?_
      refine jT_xiload (v := (0, u)) (pcN := 84) jIH_192_82 rfl rfl rfl ?_
      refine jT_adv 1 (pcN := 87) (LN := [(5, (0, u)), (4, (0, y4)), (0, (4, 0)), (6, (0, 0))]) (stN := [(5, 5), (0, u)]) (hsN := [jzH_20, jgh, jgh, jgh, jgh, jgh, jgh, (101, [], [e0, e1, e2, e3, e4, e5]), jgh, jgh, jgh, jgh, jgh, jgh, jgh, jgh]) (c1 := 0) (s1 := 0) (c2 := b1) (s2 := b2) (by exact rfl) ?_ (by omega) (by omega)
      refine jT_xiload (v := (0, 0)) (pcN := 89) jIH_192_87 rfl rfl rfl ?_
      refine jT_adv 1 (pcN := 90) (LN := [(5, (0, u)), (4, (0, y4)), (0, (4, 0)), (6, (0, 0))]) (stN := [(0, 2), (0, u)]) (hsN := [jzH_20, jgh, jgh, jgh, jgh, jgh, jgh, (101, [], [e0, e1, e2, e3, e4, e5]), jgh, jgh, jgh, jgh, jgh, jgh, jgh, jgh]) (c1 := 0) (s1 := 0) (c2 := b1) (s2 := b2) (by exact rfl) ?_ (by omega) (by omega)
      refine jT_idiv (a := u) (b := 2) (by rfl) (by rfl) (jw_idd (by omega) (by omega)) (jw_idd (by omega) (by omega)) (by omega) ?_
      have hb_q2 := jtd_b0 (x := u) (y := 2) (by omega) (by omega)
      have hb_q2 : 0 ≤ u.tdiv 2 ∧ u.tdiv 2 ≤ 1000000 := ⟨hb_q2.1, by omega⟩
      generalize hq_q2 : u.tdiv 2 = q2 at hb_q2 ⊢
      refine jT_xistore (v := (0, q2)) (LN := [(5, (0, q2)), (4, (0, y4)), (0, (4, 0)), (6, (0, 0))]) (pcN := 93) jIH_192_91 rfl rfl rfl rfl ?_
      refine jT_xaload_n (v := (4, 0)) (pcN := 94) jIH_192_93 rfl rfl rfl ?_
      refine jT_xgetf (a := 0) (t := 1) (ci := 14) (fi := 9) (c := jzH_20) (v := (4, 7)) (pcN := 97) jIH_192_94 rfl rfl rfl rfl rfl rfl rfl ?_
      refine jT_xiload (v := (0, 0)) (pcN := 99) jIH_192_97 rfl rfl rfl ?_
      refine jT_adv 1 (pcN := 100) (LN := [(5, (0, q2)), (4, (0, y4)), (0, (4, 0)), (6, (0, 0))]) (stN := [(0, 0), (4, 7), (0, 0), (4, 7)]) (hsN := [jzH_20, jgh, jgh, jgh, jgh, jgh, jgh, (101, [], [e0, e1, e2, e3, e4, e5]), jgh, jgh, jgh, jgh, jgh, jgh, jgh, jgh]) (c1 := 0) (s1 := 0) (c2 := b1) (s2 := b2) (by exact rfl) ?_ (by omega) (by omega)
      refine jT_lald (x := e0) (a := 7) (j := 0) (fs := []) (X := [e0, e1, e2, e3, e4, e5]) jIH_192_100 rfl rfl rfl rfl ?_
      refine jT_eq (LN := [(5, (0, q2)), (4, (0, y4)), (0, (4, 0)), (6, (0, 0))]) (stN := [(1, e0), (0, 0), (4, 7)]) (hsN := [jzH_20, jgh, jgh, jgh, jgh, jgh, jgh, (101, [], [e0, e1, e2, e3, e4, e5]), jgh, jgh, jgh, jgh, jgh, jgh, jgh, jgh]) rfl rfl rfl ?_
      refine jT_xlconst (z := 1) (pcN := 102) jIH_192_101 rfl rfl ?_
      refine jT_xlsub (x := e0) (y := 1) (z := e0 - 1) (pcN := 103) jIH_192_102 rfl (rfl) rfl ?_
      refine jT_adv 1 (pcN := 104) (LN := [(5, (0, q2)), (4, (0, y4)), (0, (4, 0)), (6, (0, 0))]) (stN := []) (hsN := [jzH_20, jgh, jgh, jgh, jgh, jgh, jgh, (101, [], [e0 - 1, e1, e2, e3, e4, e5]), jgh, jgh, jgh, jgh, jgh, jgh, jgh, jgh]) (c1 := 0) (s1 := 0) (c2 := b1) (s2 := b2) (by exact rfl) ?_ (by omega) (by omega)
      refine jT_xgoto (pcN := 70) jIH_192_104 rfl ?_
      refine jT_loc (LN := [(5, (0, q2)), (4, (0, y4)), (0, (4, 0)), (6, (0, 0))]) (by show List.Nodup [5, 4, 0, 6]; decide) (by intro q hq; simp only [List.mem_cons, List.not_mem_nil, or_false] at hq; rcases hq with rfl | rfl | rfl | rfl <;> rfl) ?_
      have hs := jst_s (P := 2) (u := u) (n := n) (by decide) h1 hu (by omega)
      rw [hq_q2] at hs
      rw [jsu_1 (by omega), jsc_1 (by omega), hq_q2, show e0 - (jsc 2 n q2 + 1) = e0 - 1 - jsc 2 n q2 by omega] at h
      exact ih q2 (e0 - 1) (by omega) (by omega) hs.2.1 h
theorem jIH_192_107 : jmI (jm 192) 107 = (.iinc 6 1, 3) := by rfl
theorem jIH_192_110 : jmI (jm 192) 110 = (.goto (-84), 3) := by rfl
theorem jHl_fr_45 {xs : List Int} {d b1 b2 : Nat} {Q : Nat → JV → List JC → Prop} {y5 e0 e2 e3 e4 e5 : Int} : ∀ (n : Nat) (u e1 : Int), 1 ≤ u → u ≤ 1000000 → u < jp2 n → jT xs d 192 16 70 [(4, (0, jsu 3 n u)), (5, (0, y5)), (0, (4, 0)), (6, (0, 1))] [] [jzH_20, jgh, jgh, jgh, jgh, jgh, jgh, (101, [], [e0, e1 + jsc 3 n u, e2, e3, e4, e5]), jgh, jgh, jgh, jgh, jgh, jgh, jgh, jgh] b1 b2 Q → jT xs d 192 16 33 [(4, (0, u)), (5, (0, y5)), (0, (4, 0)), (6, (0, 1))] [] [jzH_20, jgh, jgh, jgh, jgh, jgh, jgh, (101, [], [e0, e1, e2, e3, e4, e5]), jgh, jgh, jgh, jgh, jgh, jgh, jgh, jgh] b1 b2 Q := by
  intro n
  induction n with
  | zero =>
    intro u e1 h1 h2 hu h
    exact absurd (show u < 1 from hu) (by omega)
  | succ n ih =>
    intro u e1 h1 h2 hu h
    have h_u : 1 ≤ u ∧ u ≤ 1000000 := ⟨h1, h2⟩
    rcases (show (0 ≤ (u.tmod 3) - 1) ∨ ((u.tmod 3) - 1 < 0) by omega) with g_0 | g_0
    · refine jT_xiload (v := (0, u)) (pcN := 35) jIH_192_33 rfl rfl rfl ?_
      refine jT_adv 1 (pcN := 38) (LN := [(4, (0, u)), (5, (0, y5)), (0, (4, 0)), (6, (0, 1))]) (stN := [(5, 5), (0, u)]) (hsN := [jzH_20, jgh, jgh, jgh, jgh, jgh, jgh, (101, [], [e0, e1, e2, e3, e4, e5]), jgh, jgh, jgh, jgh, jgh, jgh, jgh, jgh]) (c1 := 0) (s1 := 0) (c2 := b1) (s2 := b2) (by exact rfl) ?_ (by omega) (by omega)
      refine jT_xiload (v := (0, 1)) (pcN := 40) jIH_192_38 rfl rfl rfl ?_
      refine jT_adv 1 (pcN := 41) (LN := [(4, (0, u)), (5, (0, y5)), (0, (4, 0)), (6, (0, 1))]) (stN := [(0, 3), (0, u)]) (hsN := [jzH_20, jgh, jgh, jgh, jgh, jgh, jgh, (101, [], [e0, e1, e2, e3, e4, e5]), jgh, jgh, jgh, jgh, jgh, jgh, jgh, jgh]) (c1 := 0) (s1 := 0) (c2 := b1) (s2 := b2) (by exact rfl) ?_ (by omega) (by omega)
      refine jT_irem (a := u) (b := 3) (by rfl) (by rfl) (jw_idd (by omega) (by omega)) (jw_idd (by omega) (by omega)) (by omega) ?_
      have hb_q1 := jtm_b (x := u) (y := 3) (by omega) (by omega)
      have hb_q1 : 0 ≤ u.tmod 3 ∧ u.tmod 3 ≤ 2 := ⟨hb_q1.1, by omega⟩
      generalize hq_q1 : u.tmod 3 = q1 at hb_q1 g_0 ⊢
      refine jT_ifT (a := q1) (t := 70) (by rfl) (by rfl) (by rfl) (jw_idd (by omega) (by omega)) (by simp only [jcP] <;> omega) ?_
      refine jT_loc (LN := [(4, (0, u)), (5, (0, y5)), (0, (4, 0)), (6, (0, 1))]) (by show List.Nodup [4, 5, 0, 6]; decide) (by intro q hq; simp only [List.mem_cons, List.not_mem_nil, or_false] at hq; rcases hq with rfl | rfl | rfl | rfl <;> rfl) ?_
      rw [jsu_0 (by omega), jsc_0 (by omega), Int.add_zero] at h
      exact h
    · refine jT_xiload (v := (0, u)) (pcN := 35) jIH_192_33 rfl rfl rfl ?_
      refine jT_adv 1 (pcN := 38) (LN := [(4, (0, u)), (5, (0, y5)), (0, (4, 0)), (6, (0, 1))]) (stN := [(5, 5), (0, u)]) (hsN := [jzH_20, jgh, jgh, jgh, jgh, jgh, jgh, (101, [], [e0, e1, e2, e3, e4, e5]), jgh, jgh, jgh, jgh, jgh, jgh, jgh, jgh]) (c1 := 0) (s1 := 0) (c2 := b1) (s2 := b2) (by exact rfl) ?_ (by omega) (by omega)
      refine jT_xiload (v := (0, 1)) (pcN := 40) jIH_192_38 rfl rfl rfl ?_
      refine jT_adv 1 (pcN := 41) (LN := [(4, (0, u)), (5, (0, y5)), (0, (4, 0)), (6, (0, 1))]) (stN := [(0, 3), (0, u)]) (hsN := [jzH_20, jgh, jgh, jgh, jgh, jgh, jgh, (101, [], [e0, e1, e2, e3, e4, e5]), jgh, jgh, jgh, jgh, jgh, jgh, jgh, jgh]) (c1 := 0) (s1 := 0) (c2 := b1) (s2 := b2) (by exact rfl) ?_ (by omega) (by omega)
      refine jT_irem (a := u) (b := 3) (by rfl) (by rfl) (jw_idd (by omega) (by omega)) (jw_idd (by omega) (by omega)) (by omega) ?_
      have hb_q1 := jtm_b (x := u) (y := 3) (by omega) (by omega)
      have hb_q1 : 0 ≤ u.tmod 3 ∧ u.tmod 3 ≤ 2 := ⟨hb_q1.1, by omega⟩
      generalize hq_q1 : u.tmod 3 = q1 at hb_q1 g_0 ⊢
      refine jT_ifF (a := q1) (t := 70) (by rfl) (by rfl) (by rfl) (jw_idd (by omega) (by omega)) (by simp only [jcP] <;> omega) ?_
      refine jT_xiload (v := (0, u)) (pcN := 47) jIH_192_45 rfl rfl rfl ?_
      refine jT_adv 1 (pcN := 50) (LN := [(4, (0, u)), (5, (0, y5)), (0, (4, 0)), (6, (0, 1))]) (stN := [(5, 5), (0, u)]) (hsN := [jzH_20, jgh, jgh, jgh, jgh, jgh, jgh, (101, [], [e0, e1, e2, e3, e4, e5]), jgh, jgh, jgh, jgh, jgh, jgh, jgh, jgh]) (c1 := 0) (s1 := 0) (c2 := b1) (s2 := b2) (by exact rfl) ?_ (by omega) (by omega)
      refine jT_xiload (v := (0, 1)) (pcN := 52) jIH_192_50 rfl rfl rfl ?_
      refine jT_adv 1 (pcN := 53) (LN := [(4, (0, u)), (5, (0, y5)), (0, (4, 0)), (6, (0, 1))]) (stN := [(0, 3), (0, u)]) (hsN := [jzH_20, jgh, jgh, jgh, jgh, jgh, jgh, (101, [], [e0, e1, e2, e3, e4, e5]), jgh, jgh, jgh, jgh, jgh, jgh, jgh, jgh]) (c1 := 0) (s1 := 0) (c2 := b1) (s2 := b2) (by exact rfl) ?_ (by omega) (by omega)
      refine jT_idiv (a := u) (b := 3) (by rfl) (by rfl) (jw_idd (by omega) (by omega)) (jw_idd (by omega) (by omega)) (by omega) ?_
      have hb_q2 := jtd_b0 (x := u) (y := 3) (by omega) (by omega)
      have hb_q2 : 0 ≤ u.tdiv 3 ∧ u.tdiv 3 ≤ 1000000 := ⟨hb_q2.1, by omega⟩
      generalize hq_q2 : u.tdiv 3 = q2 at hb_q2 ⊢
      refine jT_xistore (v := (0, q2)) (LN := [(4, (0, q2)), (5, (0, y5)), (0, (4, 0)), (6, (0, 1))]) (pcN := 56) jIH_192_54 rfl rfl rfl rfl ?_
      refine jT_xaload_n (v := (4, 0)) (pcN := 57) jIH_192_56 rfl rfl rfl ?_
      refine jT_xgetf (a := 0) (t := 1) (ci := 14) (fi := 9) (c := jzH_20) (v := (4, 7)) (pcN := 60) jIH_192_57 rfl rfl rfl rfl rfl rfl rfl ?_
      refine jT_xiload (v := (0, 1)) (pcN := 62) jIH_192_60 rfl rfl rfl ?_
      refine jT_adv 1 (pcN := 63) (LN := [(4, (0, q2)), (5, (0, y5)), (0, (4, 0)), (6, (0, 1))]) (stN := [(0, 1), (4, 7), (0, 1), (4, 7)]) (hsN := [jzH_20, jgh, jgh, jgh, jgh, jgh, jgh, (101, [], [e0, e1, e2, e3, e4, e5]), jgh, jgh, jgh, jgh, jgh, jgh, jgh, jgh]) (c1 := 0) (s1 := 0) (c2 := b1) (s2 := b2) (by exact rfl) ?_ (by omega) (by omega)
      refine jT_lald (x := e1) (a := 7) (j := 1) (fs := []) (X := [e0, e1, e2, e3, e4, e5]) jIH_192_63 rfl rfl rfl rfl ?_
      refine jT_eq (LN := [(4, (0, q2)), (5, (0, y5)), (0, (4, 0)), (6, (0, 1))]) (stN := [(1, e1), (0, 1), (4, 7)]) (hsN := [jzH_20, jgh, jgh, jgh, jgh, jgh, jgh, (101, [], [e0, e1, e2, e3, e4, e5]), jgh, jgh, jgh, jgh, jgh, jgh, jgh, jgh]) rfl rfl rfl ?_
      refine jT_xlconst (z := 1) (pcN := 65) jIH_192_64 rfl rfl ?_
      refine jT_xladd (x := e1) (y := 1) (z := e1 + 1) (pcN := 66) jIH_192_65 rfl (rfl) rfl ?_
      refine jT_adv 1 (pcN := 67) (LN := [(4, (0, q2)), (5, (0, y5)), (0, (4, 0)), (6, (0, 1))]) (stN := []) (hsN := [jzH_20, jgh, jgh, jgh, jgh, jgh, jgh, (101, [], [e0, e1 + 1, e2, e3, e4, e5]), jgh, jgh, jgh, jgh, jgh, jgh, jgh, jgh]) (c1 := 0) (s1 := 0) (c2 := b1) (s2 := b2) (by exact rfl) ?_ (by omega) (by omega)
      refine jT_xgoto (pcN := 33) jIH_192_67 rfl ?_
      refine jT_loc (LN := [(4, (0, q2)), (5, (0, y5)), (0, (4, 0)), (6, (0, 1))]) (by show List.Nodup [4, 5, 0, 6]; decide) (by intro q hq; simp only [List.mem_cons, List.not_mem_nil, or_false] at hq; rcases hq with rfl | rfl | rfl | rfl <;> rfl) ?_
      have hs := jst_s (P := 3) (u := u) (n := n) (by decide) h1 hu (by omega)
      rw [hq_q2] at hs
      rw [jsu_1 (by omega), jsc_1 (by omega), hq_q2, show e1 + (jsc 3 n q2 + 1) = e1 + 1 + jsc 3 n q2 by omega] at h
      exact ih q2 (e1 + 1) (by omega) (by omega) hs.2.1 h
theorem jHl_fr_46 {xs : List Int} {d b1 b2 : Nat} {Q : Nat → JV → List JC → Prop} {y4 e0 e2 e3 e4 e5 : Int} : ∀ (n : Nat) (u e1 : Int), 1 ≤ u → u ≤ 1000000 → u < jp2 n → jT xs d 192 16 107 [(5, (0, jsu 3 n u)), (4, (0, y4)), (0, (4, 0)), (6, (0, 1))] [] [jzH_20, jgh, jgh, jgh, jgh, jgh, jgh, (101, [], [e0, e1 - jsc 3 n u, e2, e3, e4, e5]), jgh, jgh, jgh, jgh, jgh, jgh, jgh, jgh] b1 b2 Q → jT xs d 192 16 70 [(5, (0, u)), (4, (0, y4)), (0, (4, 0)), (6, (0, 1))] [] [jzH_20, jgh, jgh, jgh, jgh, jgh, jgh, (101, [], [e0, e1, e2, e3, e4, e5]), jgh, jgh, jgh, jgh, jgh, jgh, jgh, jgh] b1 b2 Q := by
  intro n
  induction n with
  | zero =>
    intro u e1 h1 h2 hu h
    exact absurd (show u < 1 from hu) (by omega)
  | succ n ih =>
    intro u e1 h1 h2 hu h
    have h_u : 1 ≤ u ∧ u ≤ 1000000 := ⟨h1, h2⟩
    rcases (show (0 ≤ (u.tmod 3) - 1) ∨ ((u.tmod 3) - 1 < 0) by omega) with g_0 | g_0
    · refine jT_xiload (v := (0, u)) (pcN := 72) jIH_192_70 rfl rfl rfl ?_
      refine jT_adv 1 (pcN := 75) (LN := [(5, (0, u)), (4, (0, y4)), (0, (4, 0)), (6, (0, 1))]) (stN := [(5, 5), (0, u)]) (hsN := [jzH_20, jgh, jgh, jgh, jgh, jgh, jgh, (101, [], [e0, e1, e2, e3, e4, e5]), jgh, jgh, jgh, jgh, jgh, jgh, jgh, jgh]) (c1 := 0) (s1 := 0) (c2 := b1) (s2 := b2) (by exact rfl) ?_ (by omega) (by omega)
      refine jT_xiload (v := (0, 1)) (pcN := 77) jIH_192_75 rfl rfl rfl ?_
      refine jT_adv 1 (pcN := 78) (LN := [(5, (0, u)), (4, (0, y4)), (0, (4, 0)), (6, (0, 1))]) (stN := [(0, 3), (0, u)]) (hsN := [jzH_20, jgh, jgh, jgh, jgh, jgh, jgh, (101, [], [e0, e1, e2, e3, e4, e5]), jgh, jgh, jgh, jgh, jgh, jgh, jgh, jgh]) (c1 := 0) (s1 := 0) (c2 := b1) (s2 := b2) (by exact rfl) ?_ (by omega) (by omega)
      refine jT_irem (a := u) (b := 3) (by rfl) (by rfl) (jw_idd (by omega) (by omega)) (jw_idd (by omega) (by omega)) (by omega) ?_
      have hb_q1 := jtm_b (x := u) (y := 3) (by omega) (by omega)
      have hb_q1 : 0 ≤ u.tmod 3 ∧ u.tmod 3 ≤ 2 := ⟨hb_q1.1, by omega⟩
      generalize hq_q1 : u.tmod 3 = q1 at hb_q1 g_0 ⊢
      refine jT_ifT (a := q1) (t := 107) (by rfl) (by rfl) (by rfl) (jw_idd (by omega) (by omega)) (by simp only [jcP] <;> omega) ?_
      refine jT_loc (LN := [(5, (0, u)), (4, (0, y4)), (0, (4, 0)), (6, (0, 1))]) (by show List.Nodup [5, 4, 0, 6]; decide) (by intro q hq; simp only [List.mem_cons, List.not_mem_nil, or_false] at hq; rcases hq with rfl | rfl | rfl | rfl <;> rfl) ?_
      rw [jsu_0 (by omega), jsc_0 (by omega), Int.sub_zero] at h
      exact h
    · refine jT_xiload (v := (0, u)) (pcN := 72) jIH_192_70 rfl rfl rfl ?_
      refine jT_adv 1 (pcN := 75) (LN := [(5, (0, u)), (4, (0, y4)), (0, (4, 0)), (6, (0, 1))]) (stN := [(5, 5), (0, u)]) (hsN := [jzH_20, jgh, jgh, jgh, jgh, jgh, jgh, (101, [], [e0, e1, e2, e3, e4, e5]), jgh, jgh, jgh, jgh, jgh, jgh, jgh, jgh]) (c1 := 0) (s1 := 0) (c2 := b1) (s2 := b2) (by exact rfl) ?_ (by omega) (by omega)
      refine jT_xiload (v := (0, 1)) (pcN := 77) jIH_192_75 rfl rfl rfl ?_
      refine jT_adv 1 (pcN := 78) (LN := [(5, (0, u)), (4, (0, y4)), (0, (4, 0)), (6, (0, 1))]) (stN := [(0, 3), (0, u)]) (hsN := [jzH_20, jgh, jgh, jgh, jgh, jgh, jgh, (101, [], [e0, e1, e2, e3, e4, e5]), jgh, jgh, jgh, jgh, jgh, jgh, jgh, jgh]) (c1 := 0) (s1 := 0) (c2 := b1) (s2 := b2) (by exact rfl) ?_ (by omega) (by omega)
      refine jT_irem (a := u) (b := 3) (by rfl) (by rfl) (jw_idd (by omega) (by omega)) (jw_idd (by omega) (by omega)) (by omega) ?_
      have hb_q1 := jtm_b (x := u) (y := 3) (by omega) (by omega)
      have hb_q1 : 0 ≤ u.tmod 3 ∧ u.tmod 3 ≤ 2 := ⟨hb_q1.1, by omega⟩
      generalize hq_q1 : u.tmod 3 = q1 at hb_q1 g_0 ⊢
      refine jT_ifF (a := q1) (t := 107) (by rfl) (by rfl) (by rfl) (jw_idd (by omega) (by omega)) (by simp only [jcP] <;> omega) ?_
      refine jT_xiload (v := (0, u)) (pcN := 84) jIH_192_82 rfl rfl rfl ?_
      refine jT_adv 1 (pcN := 87) (LN := [(5, (0, u)), (4, (0, y4)), (0, (4, 0)), (6, (0, 1))]) (stN := [(5, 5), (0, u)]) (hsN := [jzH_20, jgh, jgh, jgh, jgh, jgh, jgh, (101, [], [e0, e1, e2, e3, e4, e5]), jgh, jgh, jgh, jgh, jgh, jgh, jgh, jgh]) (c1 := 0) (s1 := 0) (c2 := b1) (s2 := b2) (by exact rfl) ?_ (by omega) (by omega)
      refine jT_xiload (v := (0, 1)) (pcN := 89) jIH_192_87 rfl rfl rfl ?_
      refine jT_adv 1 (pcN := 90) (LN := [(5, (0, u)), (4, (0, y4)), (0, (4, 0)), (6, (0, 1))]) (stN := [(0, 3), (0, u)]) (hsN := [jzH_20, jgh, jgh, jgh, jgh, jgh, jgh, (101, [], [e0, e1, e2, e3, e4, e5]), jgh, jgh, jgh, jgh, jgh, jgh, jgh, jgh]) (c1 := 0) (s1 := 0) (c2 := b1) (s2 := b2) (by exact rfl) ?_ (by omega) (by omega)
      refine jT_idiv (a := u) (b := 3) (by rfl) (by rfl) (jw_idd (by omega) (by omega)) (jw_idd (by omega) (by omega)) (by omega) ?_
      have hb_q2 := jtd_b0 (x := u) (y := 3) (by omega) (by omega)
      have hb_q2 : 0 ≤ u.tdiv 3 ∧ u.tdiv 3 ≤ 1000000 := ⟨hb_q2.1, by omega⟩
      generalize hq_q2 : u.tdiv 3 = q2 at hb_q2 ⊢
      refine jT_xistore (v := (0, q2)) (LN := [(5, (0, q2)), (4, (0, y4)), (0, (4, 0)), (6, (0, 1))]) (pcN := 93) jIH_192_91 rfl rfl rfl rfl ?_
      refine jT_xaload_n (v := (4, 0)) (pcN := 94) jIH_192_93 rfl rfl rfl ?_
      refine jT_xgetf (a := 0) (t := 1) (ci := 14) (fi := 9) (c := jzH_20) (v := (4, 7)) (pcN := 97) jIH_192_94 rfl rfl rfl rfl rfl rfl rfl ?_
      refine jT_xiload (v := (0, 1)) (pcN := 99) jIH_192_97 rfl rfl rfl ?_
      refine jT_adv 1 (pcN := 100) (LN := [(5, (0, q2)), (4, (0, y4)), (0, (4, 0)), (6, (0, 1))]) (stN := [(0, 1), (4, 7), (0, 1), (4, 7)]) (hsN := [jzH_20, jgh, jgh, jgh, jgh, jgh, jgh, (101, [], [e0, e1, e2, e3, e4, e5]), jgh, jgh, jgh, jgh, jgh, jgh, jgh, jgh]) (c1 := 0) (s1 := 0) (c2 := b1) (s2 := b2) (by exact rfl) ?_ (by omega) (by omega)
      refine jT_lald (x := e1) (a := 7) (j := 1) (fs := []) (X := [e0, e1, e2, e3, e4, e5]) jIH_192_100 rfl rfl rfl rfl ?_
      refine jT_eq (LN := [(5, (0, q2)), (4, (0, y4)), (0, (4, 0)), (6, (0, 1))]) (stN := [(1, e1), (0, 1), (4, 7)]) (hsN := [jzH_20, jgh, jgh, jgh, jgh, jgh, jgh, (101, [], [e0, e1, e2, e3, e4, e5]), jgh, jgh, jgh, jgh, jgh, jgh, jgh, jgh]) rfl rfl rfl ?_
      refine jT_xlconst (z := 1) (pcN := 102) jIH_192_101 rfl rfl ?_
      refine jT_xlsub (x := e1) (y := 1) (z := e1 - 1) (pcN := 103) jIH_192_102 rfl (rfl) rfl ?_
      refine jT_adv 1 (pcN := 104) (LN := [(5, (0, q2)), (4, (0, y4)), (0, (4, 0)), (6, (0, 1))]) (stN := []) (hsN := [jzH_20, jgh, jgh, jgh, jgh, jgh, jgh, (101, [], [e0, e1 - 1, e2, e3, e4, e5]), jgh, jgh, jgh, jgh, jgh, jgh, jgh, jgh]) (c1 := 0) (s1 := 0) (c2 := b1) (s2 := b2) (by exact rfl) ?_ (by omega) (by omega)
      refine jT_xgoto (pcN := 70) jIH_192_104 rfl ?_
      refine jT_loc (LN := [(5, (0, q2)), (4, (0, y4)), (0, (4, 0)), (6, (0, 1))]) (by show List.Nodup [5, 4, 0, 6]; decide) (by intro q hq; simp only [List.mem_cons, List.not_mem_nil, or_false] at hq; rcases hq with rfl | rfl | rfl | rfl <;> rfl) ?_
      have hs := jst_s (P := 3) (u := u) (n := n) (by decide) h1 hu (by omega)
      rw [hq_q2] at hs
      rw [jsu_1 (by omega), jsc_1 (by omega), hq_q2, show e1 - (jsc 3 n q2 + 1) = e1 - 1 - jsc 3 n q2 by omega] at h
      exact ih q2 (e1 - 1) (by omega) (by omega) hs.2.1 h
theorem jHl_fr_47 {xs : List Int} {d b1 b2 : Nat} {Q : Nat → JV → List JC → Prop} {y5 e0 e1 e3 e4 e5 : Int} : ∀ (n : Nat) (u e2 : Int), 1 ≤ u → u ≤ 1000000 → u < jp2 n → jT xs d 192 16 70 [(4, (0, jsu 5 n u)), (5, (0, y5)), (0, (4, 0)), (6, (0, 2))] [] [jzH_20, jgh, jgh, jgh, jgh, jgh, jgh, (101, [], [e0, e1, e2 + jsc 5 n u, e3, e4, e5]), jgh, jgh, jgh, jgh, jgh, jgh, jgh, jgh] b1 b2 Q → jT xs d 192 16 33 [(4, (0, u)), (5, (0, y5)), (0, (4, 0)), (6, (0, 2))] [] [jzH_20, jgh, jgh, jgh, jgh, jgh, jgh, (101, [], [e0, e1, e2, e3, e4, e5]), jgh, jgh, jgh, jgh, jgh, jgh, jgh, jgh] b1 b2 Q := by
  intro n
  induction n with
  | zero =>
    intro u e2 h1 h2 hu h
    exact absurd (show u < 1 from hu) (by omega)
  | succ n ih =>
    intro u e2 h1 h2 hu h
    have h_u : 1 ≤ u ∧ u ≤ 1000000 := ⟨h1, h2⟩
    rcases (show (0 ≤ (u.tmod 5) - 1) ∨ ((u.tmod 5) - 1 < 0) by omega) with g_0 | g_0
    · refine jT_xiload (v := (0, u)) (pcN := 35) jIH_192_33 rfl rfl rfl ?_
      refine jT_adv 1 (pcN := 38) (LN := [(4, (0, u)), (5, (0, y5)), (0, (4, 0)), (6, (0, 2))]) (stN := [(5, 5), (0, u)]) (hsN := [jzH_20, jgh, jgh, jgh, jgh, jgh, jgh, (101, [], [e0, e1, e2, e3, e4, e5]), jgh, jgh, jgh, jgh, jgh, jgh, jgh, jgh]) (c1 := 0) (s1 := 0) (c2 := b1) (s2 := b2) (by exact rfl) ?_ (by omega) (by omega)
      refine jT_xiload (v := (0, 2)) (pcN := 40) jIH_192_38 rfl rfl rfl ?_
      refine jT_adv 1 (pcN := 41) (LN := [(4, (0, u)), (5, (0, y5)), (0, (4, 0)), (6, (0, 2))]) (stN := [(0, 5), (0, u)]) (hsN := [jzH_20, jgh, jgh, jgh, jgh, jgh, jgh, (101, [], [e0, e1, e2, e3, e4, e5]), jgh, jgh, jgh, jgh, jgh, jgh, jgh, jgh]) (c1 := 0) (s1 := 0) (c2 := b1) (s2 := b2) (by exact rfl) ?_ (by omega) (by omega)
      refine jT_irem (a := u) (b := 5) (by rfl) (by rfl) (jw_idd (by omega) (by omega)) (jw_idd (by omega) (by omega)) (by omega) ?_
      have hb_q1 := jtm_b (x := u) (y := 5) (by omega) (by omega)
      have hb_q1 : 0 ≤ u.tmod 5 ∧ u.tmod 5 ≤ 4 := ⟨hb_q1.1, by omega⟩
      generalize hq_q1 : u.tmod 5 = q1 at hb_q1 g_0 ⊢
      refine jT_ifT (a := q1) (t := 70) (by rfl) (by rfl) (by rfl) (jw_idd (by omega) (by omega)) (by simp only [jcP] <;> omega) ?_
      refine jT_loc (LN := [(4, (0, u)), (5, (0, y5)), (0, (4, 0)), (6, (0, 2))]) (by show List.Nodup [4, 5, 0, 6]; decide) (by intro q hq; simp only [List.mem_cons, List.not_mem_nil, or_false] at hq; rcases hq with rfl | rfl | rfl | rfl <;> rfl) ?_
      rw [jsu_0 (by omega), jsc_0 (by omega), Int.add_zero] at h
      exact h
    · refine jT_xiload (v := (0, u)) (pcN := 35) jIH_192_33 rfl rfl rfl ?_
      refine jT_adv 1 (pcN := 38) (LN := [(4, (0, u)), (5, (0, y5)), (0, (4, 0)), (6, (0, 2))]) (stN := [(5, 5), (0, u)]) (hsN := [jzH_20, jgh, jgh, jgh, jgh, jgh, jgh, (101, [], [e0, e1, e2, e3, e4, e5]), jgh, jgh, jgh, jgh, jgh, jgh, jgh, jgh]) (c1 := 0) (s1 := 0) (c2 := b1) (s2 := b2) (by exact rfl) ?_ (by omega) (by omega)
      refine jT_xiload (v := (0, 2)) (pcN := 40) jIH_192_38 rfl rfl rfl ?_
      refine jT_adv 1 (pcN := 41) (LN := [(4, (0, u)), (5, (0, y5)), (0, (4, 0)), (6, (0, 2))]) (stN := [(0, 5), (0, u)]) (hsN := [jzH_20, jgh, jgh, jgh, jgh, jgh, jgh, (101, [], [e0, e1, e2, e3, e4, e5]), jgh, jgh, jgh, jgh, jgh, jgh, jgh, jgh]) (c1 := 0) (s1 := 0) (c2 := b1) (s2 := b2) (by exact rfl) ?_ (by omega) (by omega)
      refine jT_irem (a := u) (b := 5) (by rfl) (by rfl) (jw_idd (by omega) (by omega)) (jw_idd (by omega) (by omega)) (by omega) ?_
      have hb_q1 := jtm_b (x := u) (y := 5) (by omega) (by omega)
      have hb_q1 : 0 ≤ u.tmod 5 ∧ u.tmod 5 ≤ 4 := ⟨hb_q1.1, by omega⟩
      generalize hq_q1 : u.tmod 5 = q1 at hb_q1 g_0 ⊢
      refine jT_ifF (a := q1) (t := 70) (by rfl) (by rfl) (by rfl) (jw_idd (by omega) (by omega)) (by simp only [jcP] <;> omega) ?_
      refine jT_xiload (v := (0, u)) (pcN := 47) jIH_192_45 rfl rfl rfl ?_
      refine jT_adv 1 (pcN := 50) (LN := [(4, (0, u)), (5, (0, y5)), (0, (4, 0)), (6, (0, 2))]) (stN := [(5, 5), (0, u)]) (hsN := [jzH_20, jgh, jgh, jgh, jgh, jgh, jgh, (101, [], [e0, e1, e2, e3, e4, e5]), jgh, jgh, jgh, jgh, jgh, jgh, jgh, jgh]) (c1 := 0) (s1 := 0) (c2 := b1) (s2 := b2) (by exact rfl) ?_ (by omega) (by omega)
      refine jT_xiload (v := (0, 2)) (pcN := 52) jIH_192_50 rfl rfl rfl ?_
      refine jT_adv 1 (pcN := 53) (LN := [(4, (0, u)), (5, (0, y5)), (0, (4, 0)), (6, (0, 2))]) (stN := [(0, 5), (0, u)]) (hsN := [jzH_20, jgh, jgh, jgh, jgh, jgh, jgh, (101, [], [e0, e1, e2, e3, e4, e5]), jgh, jgh, jgh, jgh, jgh, jgh, jgh, jgh]) (c1 := 0) (s1 := 0) (c2 := b1) (s2 := b2) (by exact rfl) ?_ (by omega) (by omega)
      refine jT_idiv (a := u) (b := 5) (by rfl) (by rfl) (jw_idd (by omega) (by omega)) (jw_idd (by omega) (by omega)) (by omega) ?_
      have hb_q2 := jtd_b0 (x := u) (y := 5) (by omega) (by omega)
      have hb_q2 : 0 ≤ u.tdiv 5 ∧ u.tdiv 5 ≤ 1000000 := ⟨hb_q2.1, by omega⟩
      generalize hq_q2 : u.tdiv 5 = q2 at hb_q2 ⊢
      refine jT_xistore (v := (0, q2)) (LN := [(4, (0, q2)), (5, (0, y5)), (0, (4, 0)), (6, (0, 2))]) (pcN := 56) jIH_192_54 rfl rfl rfl rfl ?_
      refine jT_xaload_n (v := (4, 0)) (pcN := 57) jIH_192_56 rfl rfl rfl ?_
      refine jT_xgetf (a := 0) (t := 1) (ci := 14) (fi := 9) (c := jzH_20) (v := (4, 7)) (pcN := 60) jIH_192_57 rfl rfl rfl rfl rfl rfl rfl ?_
      refine jT_xiload (v := (0, 2)) (pcN := 62) jIH_192_60 rfl rfl rfl ?_
      refine jT_adv 1 (pcN := 63) (LN := [(4, (0, q2)), (5, (0, y5)), (0, (4, 0)), (6, (0, 2))]) (stN := [(0, 2), (4, 7), (0, 2), (4, 7)]) (hsN := [jzH_20, jgh, jgh, jgh, jgh, jgh, jgh, (101, [], [e0, e1, e2, e3, e4, e5]), jgh, jgh, jgh, jgh, jgh, jgh, jgh, jgh]) (c1 := 0) (s1 := 0) (c2 := b1) (s2 := b2) (by exact rfl) ?_ (by omega) (by omega)
      refine jT_lald (x := e2) (a := 7) (j := 2) (fs := []) (X := [e0, e1, e2, e3, e4, e5]) jIH_192_63 rfl rfl rfl rfl ?_
      refine jT_eq (LN := [(4, (0, q2)), (5, (0, y5)), (0, (4, 0)), (6, (0, 2))]) (stN := [(1, e2), (0, 2), (4, 7)]) (hsN := [jzH_20, jgh, jgh, jgh, jgh, jgh, jgh, (101, [], [e0, e1, e2, e3, e4, e5]), jgh, jgh, jgh, jgh, jgh, jgh, jgh, jgh]) rfl rfl rfl ?_
      refine jT_xlconst (z := 1) (pcN := 65) jIH_192_64 rfl rfl ?_
      refine jT_xladd (x := e2) (y := 1) (z := e2 + 1) (pcN := 66) jIH_192_65 rfl (rfl) rfl ?_
      refine jT_adv 1 (pcN := 67) (LN := [(4, (0, q2)), (5, (0, y5)), (0, (4, 0)), (6, (0, 2))]) (stN := []) (hsN := [jzH_20, jgh, jgh, jgh, jgh, jgh, jgh, (101, [], [e0, e1, e2 + 1, e3, e4, e5]), jgh, jgh, jgh, jgh, jgh, jgh, jgh, jgh]) (c1 := 0) (s1 := 0) (c2 := b1) (s2 := b2) (by exact rfl) ?_ (by omega) (by omega)
      refine jT_xgoto (pcN := 33) jIH_192_67 rfl ?_
      refine jT_loc (LN := [(4, (0, q2)), (5, (0, y5)), (0, (4, 0)), (6, (0, 2))]) (by show List.Nodup [4, 5, 0, 6]; decide) (by intro q hq; simp only [List.mem_cons, List.not_mem_nil, or_false] at hq; rcases hq with rfl | rfl | rfl | rfl <;> rfl) ?_
      have hs := jst_s (P := 5) (u := u) (n := n) (by decide) h1 hu (by omega)
      rw [hq_q2] at hs
      rw [jsu_1 (by omega), jsc_1 (by omega), hq_q2, show e2 + (jsc 5 n q2 + 1) = e2 + 1 + jsc 5 n q2 by omega] at h
      exact ih q2 (e2 + 1) (by omega) (by omega) hs.2.1 h
theorem jHl_fr_48 {xs : List Int} {d b1 b2 : Nat} {Q : Nat → JV → List JC → Prop} {y4 e0 e1 e3 e4 e5 : Int} : ∀ (n : Nat) (u e2 : Int), 1 ≤ u → u ≤ 1000000 → u < jp2 n → jT xs d 192 16 107 [(5, (0, jsu 5 n u)), (4, (0, y4)), (0, (4, 0)), (6, (0, 2))] [] [jzH_20, jgh, jgh, jgh, jgh, jgh, jgh, (101, [], [e0, e1, e2 - jsc 5 n u, e3, e4, e5]), jgh, jgh, jgh, jgh, jgh, jgh, jgh, jgh] b1 b2 Q → jT xs d 192 16 70 [(5, (0, u)), (4, (0, y4)), (0, (4, 0)), (6, (0, 2))] [] [jzH_20, jgh, jgh, jgh, jgh, jgh, jgh, (101, [], [e0, e1, e2, e3, e4, e5]), jgh, jgh, jgh, jgh, jgh, jgh, jgh, jgh] b1 b2 Q := by
  intro n
  induction n with
  | zero =>
    intro u e2 h1 h2 hu h
    exact absurd (show u < 1 from hu) (by omega)
  | succ n ih =>
    intro u e2 h1 h2 hu h
    have h_u : 1 ≤ u ∧ u ≤ 1000000 := ⟨h1, h2⟩
    rcases (show (0 ≤ (u.tmod 5) - 1) ∨ ((u.tmod 5) - 1 < 0) by omega) with g_0 | g_0
    · refine jT_xiload (v := (0, u)) (pcN := 72) jIH_192_70 rfl rfl rfl ?_
      refine jT_adv 1 (pcN := 75) (LN := [(5, (0, u)), (4, (0, y4)), (0, (4, 0)), (6, (0, 2))]) (stN := [(5, 5), (0, u)]) (hsN := [jzH_20, jgh, jgh, jgh, jgh, jgh, jgh, (101, [], [e0, e1, e2, e3, e4, e5]), jgh, jgh, jgh, jgh, jgh, jgh, jgh, jgh]) (c1 := 0) (s1 := 0) (c2 := b1) (s2 := b2) (by exact rfl) ?_ (by omega) (by omega)
      refine jT_xiload (v := (0, 2)) (pcN := 77) jIH_192_75 rfl rfl rfl ?_
      refine jT_adv 1 (pcN := 78) (LN := [(5, (0, u)), (4, (0, y4)), (0, (4, 0)), (6, (0, 2))]) (stN := [(0, 5), (0, u)]) (hsN := [jzH_20, jgh, jgh, jgh, jgh, jgh, jgh, (101, [], [e0, e1, e2, e3, e4, e5]), jgh, jgh, jgh, jgh, jgh, jgh, jgh, jgh]) (c1 := 0) (s1 := 0) (c2 := b1) (s2 := b2) (by exact rfl) ?_ (by omega) (by omega)
      refine jT_irem (a := u) (b := 5) (by rfl) (by rfl) (jw_idd (by omega) (by omega)) (jw_idd (by omega) (by omega)) (by omega) ?_
      have hb_q1 := jtm_b (x := u) (y := 5) (by omega) (by omega)
      have hb_q1 : 0 ≤ u.tmod 5 ∧ u.tmod 5 ≤ 4 := ⟨hb_q1.1, by omega⟩
      generalize hq_q1 : u.tmod 5 = q1 at hb_q1 g_0 ⊢
      refine jT_ifT (a := q1) (t := 107) (by rfl) (by rfl) (by rfl) (jw_idd (by omega) (by omega)) (by simp only [jcP] <;> omega) ?_
      refine jT_loc (LN := [(5, (0, u)), (4, (0, y4)), (0, (4, 0)), (6, (0, 2))]) (by show List.Nodup [5, 4, 0, 6]; decide) (by intro q hq; simp only [List.mem_cons, List.not_mem_nil, or_false] at hq; rcases hq with rfl | rfl | rfl | rfl <;> rfl) ?_
      rw [jsu_0 (by omega), jsc_0 (by omega), Int.sub_zero] at h
      exact h
    · refine jT_xiload (v := (0, u)) (pcN := 72) jIH_192_70 rfl rfl rfl ?_
      refine jT_adv 1 (pcN := 75) (LN := [(5, (0, u)), (4, (0, y4)), (0, (4, 0)), (6, (0, 2))]) (stN := [(5, 5), (0, u)]) (hsN := [jzH_20, jgh, jgh, jgh, jgh, jgh, jgh, (101, [], [e0, e1, e2, e3, e4, e5]), jgh, jgh, jgh, jgh, jgh, jgh, jgh, jgh]) (c1 := 0) (s1 := 0) (c2 := b1) (s2 := b2) (by exact rfl) ?_ (by omega) (by omega)
      refine jT_xiload (v := (0, 2)) (pcN := 77) jIH_192_75 rfl rfl rfl ?_
      refine jT_adv 1 (pcN := 78) (LN := [(5, (0, u)), (4, (0, y4)), (0, (4, 0)), (6, (0, 2))]) (stN := [(0, 5), (0, u)]) (hsN := [jzH_20, jgh, jgh, jgh, jgh, jgh, jgh, (101, [], [e0, e1, e2, e3, e4, e5]), jgh, jgh, jgh, jgh, jgh, jgh, jgh, jgh]) (c1 := 0) (s1 := 0) (c2 := b1) (s2 := b2) (by exact rfl) ?_ (by omega) (by omega)
      refine jT_irem (a := u) (b := 5) (by rfl) (by rfl) (jw_idd (by omega) (by omega)) (jw_idd (by omega) (by omega)) (by omega) ?_
      have hb_q1 := jtm_b (x := u) (y := 5) (by omega) (by omega)
      have hb_q1 : 0 ≤ u.tmod 5 ∧ u.tmod 5 ≤ 4 := ⟨hb_q1.1, by omega⟩
      generalize hq_q1 : u.tmod 5 = q1 at hb_q1 g_0 ⊢
      refine jT_ifF (a := q1) (t := 107) (by rfl) (by rfl) (by rfl) (jw_idd (by omega) (by omega)) (by simp only [jcP] <;> omega) ?_
      refine jT_xiload (v := (0, u)) (pcN := 84) jIH_192_82 rfl rfl rfl ?_
      refine jT_adv 1 (pcN := 87) (LN := [(5, (0, u)), (4, (0, y4)), (0, (4, 0)), (6, (0, 2))]) (stN := [(5, 5), (0, u)]) (hsN := [jzH_20, jgh, jgh, jgh, jgh, jgh, jgh, (101, [], [e0, e1, e2, e3, e4, e5]), jgh, jgh, jgh, jgh, jgh, jgh, jgh, jgh]) (c1 := 0) (s1 := 0) (c2 := b1) (s2 := b2) (by exact rfl) ?_ (by omega) (by omega)
      refine jT_xiload (v := (0, 2)) (pcN := 89) jIH_192_87 rfl rfl rfl ?_
      refine jT_adv 1 (pcN := 90) (LN := [(5, (0, u)), (4, (0, y4)), (0, (4, 0)), (6, (0, 2))]) (stN := [(0, 5), (0, u)]) (hsN := [jzH_20, jgh, jgh, jgh, jgh, jgh, jgh, (101, [], [e0, e1, e2, e3, e4, e5]), jgh, jgh, jgh, jgh, jgh, jgh, jgh, jgh]) (c1 := 0) (s1 := 0) (c2 := b1) (s2 := b2) (by exact rfl) ?_ (by omega) (by omega)
      refine jT_idiv (a := u) (b := 5) (by rfl) (by rfl) (jw_idd (by omega) (by omega)) (jw_idd (by omega) (by omega)) (by omega) ?_
      have hb_q2 := jtd_b0 (x := u) (y := 5) (by omega) (by omega)
      have hb_q2 : 0 ≤ u.tdiv 5 ∧ u.tdiv 5 ≤ 1000000 := ⟨hb_q2.1, by omega⟩
      generalize hq_q2 : u.tdiv 5 = q2 at hb_q2 ⊢
      refine jT_xistore (v := (0, q2)) (LN := [(5, (0, q2)), (4, (0, y4)), (0, (4, 0)), (6, (0, 2))]) (pcN := 93) jIH_192_91 rfl rfl rfl rfl ?_
      refine jT_xaload_n (v := (4, 0)) (pcN := 94) jIH_192_93 rfl rfl rfl ?_
      refine jT_xgetf (a := 0) (t := 1) (ci := 14) (fi := 9) (c := jzH_20) (v := (4, 7)) (pcN := 97) jIH_192_94 rfl rfl rfl rfl rfl rfl rfl ?_
      refine jT_xiload (v := (0, 2)) (pcN := 99) jIH_192_97 rfl rfl rfl ?_
      refine jT_adv 1 (pcN := 100) (LN := [(5, (0, q2)), (4, (0, y4)), (0, (4, 0)), (6, (0, 2))]) (stN := [(0, 2), (4, 7), (0, 2), (4, 7)]) (hsN := [jzH_20, jgh, jgh, jgh, jgh, jgh, jgh, (101, [], [e0, e1, e2, e3, e4, e5]), jgh, jgh, jgh, jgh, jgh, jgh, jgh, jgh]) (c1 := 0) (s1 := 0) (c2 := b1) (s2 := b2) (by exact rfl) ?_ (by omega) (by omega)
      refine jT_lald (x := e2) (a := 7) (j := 2) (fs := []) (X := [e0, e1, e2, e3, e4, e5]) jIH_192_100 rfl rfl rfl rfl ?_
      refine jT_eq (LN := [(5, (0, q2)), (4, (0, y4)), (0, (4, 0)), (6, (0, 2))]) (stN := [(1, e2), (0, 2), (4, 7)]) (hsN := [jzH_20, jgh, jgh, jgh, jgh, jgh, jgh, (101, [], [e0, e1, e2, e3, e4, e5]), jgh, jgh, jgh, jgh, jgh, jgh, jgh, jgh]) rfl rfl rfl ?_
      refine jT_xlconst (z := 1) (pcN := 102) jIH_192_101 rfl rfl ?_
      refine jT_xlsub (x := e2) (y := 1) (z := e2 - 1) (pcN := 103) jIH_192_102 rfl (rfl) rfl ?_
      refine jT_adv 1 (pcN := 104) (LN := [(5, (0, q2)), (4, (0, y4)), (0, (4, 0)), (6, (0, 2))]) (stN := []) (hsN := [jzH_20, jgh, jgh, jgh, jgh, jgh, jgh, (101, [], [e0, e1, e2 - 1, e3, e4, e5]), jgh, jgh, jgh, jgh, jgh, jgh, jgh, jgh]) (c1 := 0) (s1 := 0) (c2 := b1) (s2 := b2) (by exact rfl) ?_ (by omega) (by omega)
      refine jT_xgoto (pcN := 70) jIH_192_104 rfl ?_
      refine jT_loc (LN := [(5, (0, q2)), (4, (0, y4)), (0, (4, 0)), (6, (0, 2))]) (by show List.Nodup [5, 4, 0, 6]; decide) (by intro q hq; simp only [List.mem_cons, List.not_mem_nil, or_false] at hq; rcases hq with rfl | rfl | rfl | rfl <;> rfl) ?_
      have hs := jst_s (P := 5) (u := u) (n := n) (by decide) h1 hu (by omega)
      rw [hq_q2] at hs
      rw [jsu_1 (by omega), jsc_1 (by omega), hq_q2, show e2 - (jsc 5 n q2 + 1) = e2 - 1 - jsc 5 n q2 by omega] at h
      exact ih q2 (e2 - 1) (by omega) (by omega) hs.2.1 h
theorem jHl_fr_49 {xs : List Int} {d b1 b2 : Nat} {Q : Nat → JV → List JC → Prop} {y5 e0 e1 e2 e4 e5 : Int} : ∀ (n : Nat) (u e3 : Int), 1 ≤ u → u ≤ 1000000 → u < jp2 n → jT xs d 192 16 70 [(4, (0, jsu 7 n u)), (5, (0, y5)), (0, (4, 0)), (6, (0, 3))] [] [jzH_20, jgh, jgh, jgh, jgh, jgh, jgh, (101, [], [e0, e1, e2, e3 + jsc 7 n u, e4, e5]), jgh, jgh, jgh, jgh, jgh, jgh, jgh, jgh] b1 b2 Q → jT xs d 192 16 33 [(4, (0, u)), (5, (0, y5)), (0, (4, 0)), (6, (0, 3))] [] [jzH_20, jgh, jgh, jgh, jgh, jgh, jgh, (101, [], [e0, e1, e2, e3, e4, e5]), jgh, jgh, jgh, jgh, jgh, jgh, jgh, jgh] b1 b2 Q := by
  intro n
  induction n with
  | zero =>
    intro u e3 h1 h2 hu h
    exact absurd (show u < 1 from hu) (by omega)
  | succ n ih =>
    intro u e3 h1 h2 hu h
    have h_u : 1 ≤ u ∧ u ≤ 1000000 := ⟨h1, h2⟩
    rcases (show (0 ≤ (u.tmod 7) - 1) ∨ ((u.tmod 7) - 1 < 0) by omega) with g_0 | g_0
    · refine jT_xiload (v := (0, u)) (pcN := 35) jIH_192_33 rfl rfl rfl ?_
      refine jT_adv 1 (pcN := 38) (LN := [(4, (0, u)), (5, (0, y5)), (0, (4, 0)), (6, (0, 3))]) (stN := [(5, 5), (0, u)]) (hsN := [jzH_20, jgh, jgh, jgh, jgh, jgh, jgh, (101, [], [e0, e1, e2, e3, e4, e5]), jgh, jgh, jgh, jgh, jgh, jgh, jgh, jgh]) (c1 := 0) (s1 := 0) (c2 := b1) (s2 := b2) (by exact rfl) ?_ (by omega) (by omega)
      refine jT_xiload (v := (0, 3)) (pcN := 40) jIH_192_38 rfl rfl rfl ?_
      refine jT_adv 1 (pcN := 41) (LN := [(4, (0, u)), (5, (0, y5)), (0, (4, 0)), (6, (0, 3))]) (stN := [(0, 7), (0, u)]) (hsN := [jzH_20, jgh, jgh, jgh, jgh, jgh, jgh, (101, [], [e0, e1, e2, e3, e4, e5]), jgh, jgh, jgh, jgh, jgh, jgh, jgh, jgh]) (c1 := 0) (s1 := 0) (c2 := b1) (s2 := b2) (by exact rfl) ?_ (by omega) (by omega)
      refine jT_irem (a := u) (b := 7) (by rfl) (by rfl) (jw_idd (by omega) (by omega)) (jw_idd (by omega) (by omega)) (by omega) ?_
      have hb_q1 := jtm_b (x := u) (y := 7) (by omega) (by omega)
      have hb_q1 : 0 ≤ u.tmod 7 ∧ u.tmod 7 ≤ 6 := ⟨hb_q1.1, by omega⟩
      generalize hq_q1 : u.tmod 7 = q1 at hb_q1 g_0 ⊢
      refine jT_ifT (a := q1) (t := 70) (by rfl) (by rfl) (by rfl) (jw_idd (by omega) (by omega)) (by simp only [jcP] <;> omega) ?_
      refine jT_loc (LN := [(4, (0, u)), (5, (0, y5)), (0, (4, 0)), (6, (0, 3))]) (by show List.Nodup [4, 5, 0, 6]; decide) (by intro q hq; simp only [List.mem_cons, List.not_mem_nil, or_false] at hq; rcases hq with rfl | rfl | rfl | rfl <;> rfl) ?_
      rw [jsu_0 (by omega), jsc_0 (by omega), Int.add_zero] at h
      exact h
    · refine jT_xiload (v := (0, u)) (pcN := 35) jIH_192_33 rfl rfl rfl ?_
      refine jT_adv 1 (pcN := 38) (LN := [(4, (0, u)), (5, (0, y5)), (0, (4, 0)), (6, (0, 3))]) (stN := [(5, 5), (0, u)]) (hsN := [jzH_20, jgh, jgh, jgh, jgh, jgh, jgh, (101, [], [e0, e1, e2, e3, e4, e5]), jgh, jgh, jgh, jgh, jgh, jgh, jgh, jgh]) (c1 := 0) (s1 := 0) (c2 := b1) (s2 := b2) (by exact rfl) ?_ (by omega) (by omega)
      refine jT_xiload (v := (0, 3)) (pcN := 40) jIH_192_38 rfl rfl rfl ?_
      refine jT_adv 1 (pcN := 41) (LN := [(4, (0, u)), (5, (0, y5)), (0, (4, 0)), (6, (0, 3))]) (stN := [(0, 7), (0, u)]) (hsN := [jzH_20, jgh, jgh, jgh, jgh, jgh, jgh, (101, [], [e0, e1, e2, e3, e4, e5]), jgh, jgh, jgh, jgh, jgh, jgh, jgh, jgh]) (c1 := 0) (s1 := 0) (c2 := b1) (s2 := b2) (by exact rfl) ?_ (by omega) (by omega)
      refine jT_irem (a := u) (b := 7) (by rfl) (by rfl) (jw_idd (by omega) (by omega)) (jw_idd (by omega) (by omega)) (by omega) ?_
      have hb_q1 := jtm_b (x := u) (y := 7) (by omega) (by omega)
      have hb_q1 : 0 ≤ u.tmod 7 ∧ u.tmod 7 ≤ 6 := ⟨hb_q1.1, by omega⟩
      generalize hq_q1 : u.tmod 7 = q1 at hb_q1 g_0 ⊢
      refine jT_ifF (a := q1) (t := 70) (by rfl) (by rfl) (by rfl) (jw_idd (by omega) (by omega)) (by simp only [jcP] <;> omega) ?_
      refine jT_xiload (v := (0, u)) (pcN := 47) jIH_192_45 rfl rfl rfl ?_
      refine jT_adv 1 (pcN := 50) (LN := [(4, (0, u)), (5, (0, y5)), (0, (4, 0)), (6, (0, 3))]) (stN := [(5, 5), (0, u)]) (hsN := [jzH_20, jgh, jgh, jgh, jgh, jgh, jgh, (101, [], [e0, e1, e2, e3, e4, e5]), jgh, jgh, jgh, jgh, jgh, jgh, jgh, jgh]) (c1 := 0) (s1 := 0) (c2 := b1) (s2 := b2) (by exact rfl) ?_ (by omega) (by omega)
      refine jT_xiload (v := (0, 3)) (pcN := 52) jIH_192_50 rfl rfl rfl ?_
      refine jT_adv 1 (pcN := 53) (LN := [(4, (0, u)), (5, (0, y5)), (0, (4, 0)), (6, (0, 3))]) (stN := [(0, 7), (0, u)]) (hsN := [jzH_20, jgh, jgh, jgh, jgh, jgh, jgh, (101, [], [e0, e1, e2, e3, e4, e5]), jgh, jgh, jgh, jgh, jgh, jgh, jgh, jgh]) (c1 := 0) (s1 := 0) (c2 := b1) (s2 := b2) (by exact rfl) ?_ (by omega) (by omega)
      refine jT_idiv (a := u) (b := 7) (by rfl) (by rfl) (jw_idd (by omega) (by omega)) (jw_idd (by omega) (by omega)) (by omega) ?_
      have hb_q2 := jtd_b0 (x := u) (y := 7) (by omega) (by omega)
      have hb_q2 : 0 ≤ u.tdiv 7 ∧ u.tdiv 7 ≤ 1000000 := ⟨hb_q2.1, by omega⟩
      generalize hq_q2 : u.tdiv 7 = q2 at hb_q2 ⊢
      refine jT_xistore (v := (0, q2)) (LN := [(4, (0, q2)), (5, (0, y5)), (0, (4, 0)), (6, (0, 3))]) (pcN := 56) jIH_192_54 rfl rfl rfl rfl ?_
      refine jT_xaload_n (v := (4, 0)) (pcN := 57) jIH_192_56 rfl rfl rfl ?_
      refine jT_xgetf (a := 0) (t := 1) (ci := 14) (fi := 9) (c := jzH_20) (v := (4, 7)) (pcN := 60) jIH_192_57 rfl rfl rfl rfl rfl rfl rfl ?_
      refine jT_xiload (v := (0, 3)) (pcN := 62) jIH_192_60 rfl rfl rfl ?_
      refine jT_adv 1 (pcN := 63) (LN := [(4, (0, q2)), (5, (0, y5)), (0, (4, 0)), (6, (0, 3))]) (stN := [(0, 3), (4, 7), (0, 3), (4, 7)]) (hsN := [jzH_20, jgh, jgh, jgh, jgh, jgh, jgh, (101, [], [e0, e1, e2, e3, e4, e5]), jgh, jgh, jgh, jgh, jgh, jgh, jgh, jgh]) (c1 := 0) (s1 := 0) (c2 := b1) (s2 := b2) (by exact rfl) ?_ (by omega) (by omega)
      refine jT_lald (x := e3) (a := 7) (j := 3) (fs := []) (X := [e0, e1, e2, e3, e4, e5]) jIH_192_63 rfl rfl rfl rfl ?_
      refine jT_eq (LN := [(4, (0, q2)), (5, (0, y5)), (0, (4, 0)), (6, (0, 3))]) (stN := [(1, e3), (0, 3), (4, 7)]) (hsN := [jzH_20, jgh, jgh, jgh, jgh, jgh, jgh, (101, [], [e0, e1, e2, e3, e4, e5]), jgh, jgh, jgh, jgh, jgh, jgh, jgh, jgh]) rfl rfl rfl ?_
      refine jT_xlconst (z := 1) (pcN := 65) jIH_192_64 rfl rfl ?_
      refine jT_xladd (x := e3) (y := 1) (z := e3 + 1) (pcN := 66) jIH_192_65 rfl (rfl) rfl ?_
      refine jT_adv 1 (pcN := 67) (LN := [(4, (0, q2)), (5, (0, y5)), (0, (4, 0)), (6, (0, 3))]) (stN := []) (hsN := [jzH_20, jgh, jgh, jgh, jgh, jgh, jgh, (101, [], [e0, e1, e2, e3 + 1, e4, e5]), jgh, jgh, jgh, jgh, jgh, jgh, jgh, jgh]) (c1 := 0) (s1 := 0) (c2 := b1) (s2 := b2) (by exact rfl) ?_ (by omega) (by omega)
      refine jT_xgoto (pcN := 33) jIH_192_67 rfl ?_
      refine jT_loc (LN := [(4, (0, q2)), (5, (0, y5)), (0, (4, 0)), (6, (0, 3))]) (by show List.Nodup [4, 5, 0, 6]; decide) (by intro q hq; simp only [List.mem_cons, List.not_mem_nil, or_false] at hq; rcases hq with rfl | rfl | rfl | rfl <;> rfl) ?_
      have hs := jst_s (P := 7) (u := u) (n := n) (by decide) h1 hu (by omega)
      rw [hq_q2] at hs
      rw [jsu_1 (by omega), jsc_1 (by omega), hq_q2, show e3 + (jsc 7 n q2 + 1) = e3 + 1 + jsc 7 n q2 by omega] at h
      exact ih q2 (e3 + 1) (by omega) (by omega) hs.2.1 h
theorem jHl_fr_50 {xs : List Int} {d b1 b2 : Nat} {Q : Nat → JV → List JC → Prop} {y4 e0 e1 e2 e4 e5 : Int} : ∀ (n : Nat) (u e3 : Int), 1 ≤ u → u ≤ 1000000 → u < jp2 n → jT xs d 192 16 107 [(5, (0, jsu 7 n u)), (4, (0, y4)), (0, (4, 0)), (6, (0, 3))] [] [jzH_20, jgh, jgh, jgh, jgh, jgh, jgh, (101, [], [e0, e1, e2, e3 - jsc 7 n u, e4, e5]), jgh, jgh, jgh, jgh, jgh, jgh, jgh, jgh] b1 b2 Q → jT xs d 192 16 70 [(5, (0, u)), (4, (0, y4)), (0, (4, 0)), (6, (0, 3))] [] [jzH_20, jgh, jgh, jgh, jgh, jgh, jgh, (101, [], [e0, e1, e2, e3, e4, e5]), jgh, jgh, jgh, jgh, jgh, jgh, jgh, jgh] b1 b2 Q := by
  intro n
  induction n with
  | zero =>
    intro u e3 h1 h2 hu h
    exact absurd (show u < 1 from hu) (by omega)
  | succ n ih =>
    intro u e3 h1 h2 hu h
    have h_u : 1 ≤ u ∧ u ≤ 1000000 := ⟨h1, h2⟩
    rcases (show (0 ≤ (u.tmod 7) - 1) ∨ ((u.tmod 7) - 1 < 0) by omega) with g_0 | g_0
    · refine jT_xiload (v := (0, u)) (pcN := 72) jIH_192_70 rfl rfl rfl ?_
      refine jT_adv 1 (pcN := 75) (LN := [(5, (0, u)), (4, (0, y4)), (0, (4, 0)), (6, (0, 3))]) (stN := [(5, 5), (0, u)]) (hsN := [jzH_20, jgh, jgh, jgh, jgh, jgh, jgh, (101, [], [e0, e1, e2, e3, e4, e5]), jgh, jgh, jgh, jgh, jgh, jgh, jgh, jgh]) (c1 := 0) (s1 := 0) (c2 := b1) (s2 := b2) (by exact rfl) ?_ (by omega) (by omega)
      refine jT_xiload (v := (0, 3)) (pcN := 77) jIH_192_75 rfl rfl rfl ?_
      refine jT_adv 1 (pcN := 78) (LN := [(5, (0, u)), (4, (0, y4)), (0, (4, 0)), (6, (0, 3))]) (stN := [(0, 7), (0, u)]) (hsN := [jzH_20, jgh, jgh, jgh, jgh, jgh, jgh, (101, [], [e0, e1, e2, e3, e4, e5]), jgh, jgh, jgh, jgh, jgh, jgh, jgh, jgh]) (c1 := 0) (s1 := 0) (c2 := b1) (s2 := b2) (by exact rfl) ?_ (by omega) (by omega)
      refine jT_irem (a := u) (b := 7) (by rfl) (by rfl) (jw_idd (by omega) (by omega)) (jw_idd (by omega) (by omega)) (by omega) ?_
      have hb_q1 := jtm_b (x := u) (y := 7) (by omega) (by omega)
      have hb_q1 : 0 ≤ u.tmod 7 ∧ u.tmod 7 ≤ 6 := ⟨hb_q1.1, by omega⟩
      generalize hq_q1 : u.tmod 7 = q1 at hb_q1 g_0 ⊢
      refine jT_ifT (a := q1) (t := 107) (by rfl) (by rfl) (by rfl) (jw_idd (by omega) (by omega)) (by simp only [jcP] <;> omega) ?_
      refine jT_loc (LN := [(5, (0, u)), (4, (0, y4)), (0, (4, 0)), (6, (0, 3))]) (by show List.Nodup [5, 4, 0, 6]; decide) (by intro q hq; simp only [List.mem_cons, List.not_mem_nil, or_false] at hq; rcases hq with rfl | rfl | rfl | rfl <;> rfl) ?_
      rw [jsu_0 (by omega), jsc_0 (by omega), Int.sub_zero] at h
      exact h
    · refine jT_xiload (v := (0, u)) (pcN := 72) jIH_192_70 rfl rfl rfl ?_
      refine jT_adv 1 (pcN := 75) (LN := [(5, (0, u)), (4, (0, y4)), (0, (4, 0)), (6, (0, 3))]) (stN := [(5, 5), (0, u)]) (hsN := [jzH_20, jgh, jgh, jgh, jgh, jgh, jgh, (101, [], [e0, e1, e2, e3, e4, e5]), jgh, jgh, jgh, jgh, jgh, jgh, jgh, jgh]) (c1 := 0) (s1 := 0) (c2 := b1) (s2 := b2) (by exact rfl) ?_ (by omega) (by omega)
      refine jT_xiload (v := (0, 3)) (pcN := 77) jIH_192_75 rfl rfl rfl ?_
      refine jT_adv 1 (pcN := 78) (LN := [(5, (0, u)), (4, (0, y4)), (0, (4, 0)), (6, (0, 3))]) (stN := [(0, 7), (0, u)]) (hsN := [jzH_20, jgh, jgh, jgh, jgh, jgh, jgh, (101, [], [e0, e1, e2, e3, e4, e5]), jgh, jgh, jgh, jgh, jgh, jgh, jgh, jgh]) (c1 := 0) (s1 := 0) (c2 := b1) (s2 := b2) (by exact rfl) ?_ (by omega) (by omega)
      refine jT_irem (a := u) (b := 7) (by rfl) (by rfl) (jw_idd (by omega) (by omega)) (jw_idd (by omega) (by omega)) (by omega) ?_
      have hb_q1 := jtm_b (x := u) (y := 7) (by omega) (by omega)
      have hb_q1 : 0 ≤ u.tmod 7 ∧ u.tmod 7 ≤ 6 := ⟨hb_q1.1, by omega⟩
      generalize hq_q1 : u.tmod 7 = q1 at hb_q1 g_0 ⊢
      refine jT_ifF (a := q1) (t := 107) (by rfl) (by rfl) (by rfl) (jw_idd (by omega) (by omega)) (by simp only [jcP] <;> omega) ?_
      refine jT_xiload (v := (0, u)) (pcN := 84) jIH_192_82 rfl rfl rfl ?_
      refine jT_adv 1 (pcN := 87) (LN := [(5, (0, u)), (4, (0, y4)), (0, (4, 0)), (6, (0, 3))]) (stN := [(5, 5), (0, u)]) (hsN := [jzH_20, jgh, jgh, jgh, jgh, jgh, jgh, (101, [], [e0, e1, e2, e3, e4, e5]), jgh, jgh, jgh, jgh, jgh, jgh, jgh, jgh]) (c1 := 0) (s1 := 0) (c2 := b1) (s2 := b2) (by exact rfl) ?_ (by omega) (by omega)
      refine jT_xiload (v := (0, 3)) (pcN := 89) jIH_192_87 rfl rfl rfl ?_
      refine jT_adv 1 (pcN := 90) (LN := [(5, (0, u)), (4, (0, y4)), (0, (4, 0)), (6, (0, 3))]) (stN := [(0, 7), (0, u)]) (hsN := [jzH_20, jgh, jgh, jgh, jgh, jgh, jgh, (101, [], [e0, e1, e2, e3, e4, e5]), jgh, jgh, jgh, jgh, jgh, jgh, jgh, jgh]) (c1 := 0) (s1 := 0) (c2 := b1) (s2 := b2) (by exact rfl) ?_ (by omega) (by omega)
      refine jT_idiv (a := u) (b := 7) (by rfl) (by rfl) (jw_idd (by omega) (by omega)) (jw_idd (by omega) (by omega)) (by omega) ?_
      have hb_q2 := jtd_b0 (x := u) (y := 7) (by omega) (by omega)
      have hb_q2 : 0 ≤ u.tdiv 7 ∧ u.tdiv 7 ≤ 1000000 := ⟨hb_q2.1, by omega⟩
      generalize hq_q2 : u.tdiv 7 = q2 at hb_q2 ⊢
      refine jT_xistore (v := (0, q2)) (LN := [(5, (0, q2)), (4, (0, y4)), (0, (4, 0)), (6, (0, 3))]) (pcN := 93) jIH_192_91 rfl rfl rfl rfl ?_
      refine jT_xaload_n (v := (4, 0)) (pcN := 94) jIH_192_93 rfl rfl rfl ?_
      refine jT_xgetf (a := 0) (t := 1) (ci := 14) (fi := 9) (c := jzH_20) (v := (4, 7)) (pcN := 97) jIH_192_94 rfl rfl rfl rfl rfl rfl rfl ?_
      refine jT_xiload (v := (0, 3)) (pcN := 99) jIH_192_97 rfl rfl rfl ?_
      refine jT_adv 1 (pcN := 100) (LN := [(5, (0, q2)), (4, (0, y4)), (0, (4, 0)), (6, (0, 3))]) (stN := [(0, 3), (4, 7), (0, 3), (4, 7)]) (hsN := [jzH_20, jgh, jgh, jgh, jgh, jgh, jgh, (101, [], [e0, e1, e2, e3, e4, e5]), jgh, jgh, jgh, jgh, jgh, jgh, jgh, jgh]) (c1 := 0) (s1 := 0) (c2 := b1) (s2 := b2) (by exact rfl) ?_ (by omega) (by omega)
      refine jT_lald (x := e3) (a := 7) (j := 3) (fs := []) (X := [e0, e1, e2, e3, e4, e5]) jIH_192_100 rfl rfl rfl rfl ?_
      refine jT_eq (LN := [(5, (0, q2)), (4, (0, y4)), (0, (4, 0)), (6, (0, 3))]) (stN := [(1, e3), (0, 3), (4, 7)]) (hsN := [jzH_20, jgh, jgh, jgh, jgh, jgh, jgh, (101, [], [e0, e1, e2, e3, e4, e5]), jgh, jgh, jgh, jgh, jgh, jgh, jgh, jgh]) rfl rfl rfl ?_
      refine jT_xlconst (z := 1) (pcN := 102) jIH_192_101 rfl rfl ?_
      refine jT_xlsub (x := e3) (y := 1) (z := e3 - 1) (pcN := 103) jIH_192_102 rfl (rfl) rfl ?_
      refine jT_adv 1 (pcN := 104) (LN := [(5, (0, q2)), (4, (0, y4)), (0, (4, 0)), (6, (0, 3))]) (stN := []) (hsN := [jzH_20, jgh, jgh, jgh, jgh, jgh, jgh, (101, [], [e0, e1, e2, e3 - 1, e4, e5]), jgh, jgh, jgh, jgh, jgh, jgh, jgh, jgh]) (c1 := 0) (s1 := 0) (c2 := b1) (s2 := b2) (by exact rfl) ?_ (by omega) (by omega)
      refine jT_xgoto (pcN := 70) jIH_192_104 rfl ?_
      refine jT_loc (LN := [(5, (0, q2)), (4, (0, y4)), (0, (4, 0)), (6, (0, 3))]) (by show List.Nodup [5, 4, 0, 6]; decide) (by intro q hq; simp only [List.mem_cons, List.not_mem_nil, or_false] at hq; rcases hq with rfl | rfl | rfl | rfl <;> rfl) ?_
      have hs := jst_s (P := 7) (u := u) (n := n) (by decide) h1 hu (by omega)
      rw [hq_q2] at hs
      rw [jsu_1 (by omega), jsc_1 (by omega), hq_q2, show e3 - (jsc 7 n q2 + 1) = e3 - 1 - jsc 7 n q2 by omega] at h
      exact ih q2 (e3 - 1) (by omega) (by omega) hs.2.1 h
theorem jHl_fr_51 {xs : List Int} {d b1 b2 : Nat} {Q : Nat → JV → List JC → Prop} {y5 e0 e1 e2 e3 e5 : Int} : ∀ (n : Nat) (u e4 : Int), 1 ≤ u → u ≤ 1000000 → u < jp2 n → jT xs d 192 16 70 [(4, (0, jsu 11 n u)), (5, (0, y5)), (0, (4, 0)), (6, (0, 4))] [] [jzH_20, jgh, jgh, jgh, jgh, jgh, jgh, (101, [], [e0, e1, e2, e3, e4 + jsc 11 n u, e5]), jgh, jgh, jgh, jgh, jgh, jgh, jgh, jgh] b1 b2 Q → jT xs d 192 16 33 [(4, (0, u)), (5, (0, y5)), (0, (4, 0)), (6, (0, 4))] [] [jzH_20, jgh, jgh, jgh, jgh, jgh, jgh, (101, [], [e0, e1, e2, e3, e4, e5]), jgh, jgh, jgh, jgh, jgh, jgh, jgh, jgh] b1 b2 Q := by
  intro n
  induction n with
  | zero =>
    intro u e4 h1 h2 hu h
    exact absurd (show u < 1 from hu) (by omega)
  | succ n ih =>
    intro u e4 h1 h2 hu h
    have h_u : 1 ≤ u ∧ u ≤ 1000000 := ⟨h1, h2⟩
    rcases (show (0 ≤ (u.tmod 11) - 1) ∨ ((u.tmod 11) - 1 < 0) by omega) with g_0 | g_0
    · refine jT_xiload (v := (0, u)) (pcN := 35) jIH_192_33 rfl rfl rfl ?_
      refine jT_adv 1 (pcN := 38) (LN := [(4, (0, u)), (5, (0, y5)), (0, (4, 0)), (6, (0, 4))]) (stN := [(5, 5), (0, u)]) (hsN := [jzH_20, jgh, jgh, jgh, jgh, jgh, jgh, (101, [], [e0, e1, e2, e3, e4, e5]), jgh, jgh, jgh, jgh, jgh, jgh, jgh, jgh]) (c1 := 0) (s1 := 0) (c2 := b1) (s2 := b2) (by exact rfl) ?_ (by omega) (by omega)
      refine jT_xiload (v := (0, 4)) (pcN := 40) jIH_192_38 rfl rfl rfl ?_
      refine jT_adv 1 (pcN := 41) (LN := [(4, (0, u)), (5, (0, y5)), (0, (4, 0)), (6, (0, 4))]) (stN := [(0, 11), (0, u)]) (hsN := [jzH_20, jgh, jgh, jgh, jgh, jgh, jgh, (101, [], [e0, e1, e2, e3, e4, e5]), jgh, jgh, jgh, jgh, jgh, jgh, jgh, jgh]) (c1 := 0) (s1 := 0) (c2 := b1) (s2 := b2) (by exact rfl) ?_ (by omega) (by omega)
      refine jT_irem (a := u) (b := 11) (by rfl) (by rfl) (jw_idd (by omega) (by omega)) (jw_idd (by omega) (by omega)) (by omega) ?_
      have hb_q1 := jtm_b (x := u) (y := 11) (by omega) (by omega)
      have hb_q1 : 0 ≤ u.tmod 11 ∧ u.tmod 11 ≤ 10 := ⟨hb_q1.1, by omega⟩
      generalize hq_q1 : u.tmod 11 = q1 at hb_q1 g_0 ⊢
      refine jT_ifT (a := q1) (t := 70) (by rfl) (by rfl) (by rfl) (jw_idd (by omega) (by omega)) (by simp only [jcP] <;> omega) ?_
      refine jT_loc (LN := [(4, (0, u)), (5, (0, y5)), (0, (4, 0)), (6, (0, 4))]) (by show List.Nodup [4, 5, 0, 6]; decide) (by intro q hq; simp only [List.mem_cons, List.not_mem_nil, or_false] at hq; rcases hq with rfl | rfl | rfl | rfl <;> rfl) ?_
      rw [jsu_0 (by omega), jsc_0 (by omega), Int.add_zero] at h
      exact h
    · refine jT_xiload (v := (0, u)) (pcN := 35) jIH_192_33 rfl rfl rfl ?_
      refine jT_adv 1 (pcN := 38) (LN := [(4, (0, u)), (5, (0, y5)), (0, (4, 0)), (6, (0, 4))]) (stN := [(5, 5), (0, u)]) (hsN := [jzH_20, jgh, jgh, jgh, jgh, jgh, jgh, (101, [], [e0, e1, e2, e3, e4, e5]), jgh, jgh, jgh, jgh, jgh, jgh, jgh, jgh]) (c1 := 0) (s1 := 0) (c2 := b1) (s2 := b2) (by exact rfl) ?_ (by omega) (by omega)
      refine jT_xiload (v := (0, 4)) (pcN := 40) jIH_192_38 rfl rfl rfl ?_
      refine jT_adv 1 (pcN := 41) (LN := [(4, (0, u)), (5, (0, y5)), (0, (4, 0)), (6, (0, 4))]) (stN := [(0, 11), (0, u)]) (hsN := [jzH_20, jgh, jgh, jgh, jgh, jgh, jgh, (101, [], [e0, e1, e2, e3, e4, e5]), jgh, jgh, jgh, jgh, jgh, jgh, jgh, jgh]) (c1 := 0) (s1 := 0) (c2 := b1) (s2 := b2) (by exact rfl) ?_ (by omega) (by omega)
      refine jT_irem (a := u) (b := 11) (by rfl) (by rfl) (jw_idd (by omega) (by omega)) (jw_idd (by omega) (by omega)) (by omega) ?_
      have hb_q1 := jtm_b (x := u) (y := 11) (by omega) (by omega)
      have hb_q1 : 0 ≤ u.tmod 11 ∧ u.tmod 11 ≤ 10 := ⟨hb_q1.1, by omega⟩
      generalize hq_q1 : u.tmod 11 = q1 at hb_q1 g_0 ⊢
      refine jT_ifF (a := q1) (t := 70) (by rfl) (by rfl) (by rfl) (jw_idd (by omega) (by omega)) (by simp only [jcP] <;> omega) ?_
      refine jT_xiload (v := (0, u)) (pcN := 47) jIH_192_45 rfl rfl rfl ?_
      refine jT_adv 1 (pcN := 50) (LN := [(4, (0, u)), (5, (0, y5)), (0, (4, 0)), (6, (0, 4))]) (stN := [(5, 5), (0, u)]) (hsN := [jzH_20, jgh, jgh, jgh, jgh, jgh, jgh, (101, [], [e0, e1, e2, e3, e4, e5]), jgh, jgh, jgh, jgh, jgh, jgh, jgh, jgh]) (c1 := 0) (s1 := 0) (c2 := b1) (s2 := b2) (by exact rfl) ?_ (by omega) (by omega)
      refine jT_xiload (v := (0, 4)) (pcN := 52) jIH_192_50 rfl rfl rfl ?_
      refine jT_adv 1 (pcN := 53) (LN := [(4, (0, u)), (5, (0, y5)), (0, (4, 0)), (6, (0, 4))]) (stN := [(0, 11), (0, u)]) (hsN := [jzH_20, jgh, jgh, jgh, jgh, jgh, jgh, (101, [], [e0, e1, e2, e3, e4, e5]), jgh, jgh, jgh, jgh, jgh, jgh, jgh, jgh]) (c1 := 0) (s1 := 0) (c2 := b1) (s2 := b2) (by exact rfl) ?_ (by omega) (by omega)
      refine jT_idiv (a := u) (b := 11) (by rfl) (by rfl) (jw_idd (by omega) (by omega)) (jw_idd (by omega) (by omega)) (by omega) ?_
      have hb_q2 := jtd_b0 (x := u) (y := 11) (by omega) (by omega)
      have hb_q2 : 0 ≤ u.tdiv 11 ∧ u.tdiv 11 ≤ 1000000 := ⟨hb_q2.1, by omega⟩
      generalize hq_q2 : u.tdiv 11 = q2 at hb_q2 ⊢
      refine jT_xistore (v := (0, q2)) (LN := [(4, (0, q2)), (5, (0, y5)), (0, (4, 0)), (6, (0, 4))]) (pcN := 56) jIH_192_54 rfl rfl rfl rfl ?_
      refine jT_xaload_n (v := (4, 0)) (pcN := 57) jIH_192_56 rfl rfl rfl ?_
      refine jT_xgetf (a := 0) (t := 1) (ci := 14) (fi := 9) (c := jzH_20) (v := (4, 7)) (pcN := 60) jIH_192_57 rfl rfl rfl rfl rfl rfl rfl ?_
      refine jT_xiload (v := (0, 4)) (pcN := 62) jIH_192_60 rfl rfl rfl ?_
      refine jT_adv 1 (pcN := 63) (LN := [(4, (0, q2)), (5, (0, y5)), (0, (4, 0)), (6, (0, 4))]) (stN := [(0, 4), (4, 7), (0, 4), (4, 7)]) (hsN := [jzH_20, jgh, jgh, jgh, jgh, jgh, jgh, (101, [], [e0, e1, e2, e3, e4, e5]), jgh, jgh, jgh, jgh, jgh, jgh, jgh, jgh]) (c1 := 0) (s1 := 0) (c2 := b1) (s2 := b2) (by exact rfl) ?_ (by omega) (by omega)
      refine jT_lald (x := e4) (a := 7) (j := 4) (fs := []) (X := [e0, e1, e2, e3, e4, e5]) jIH_192_63 rfl rfl rfl rfl ?_
      refine jT_eq (LN := [(4, (0, q2)), (5, (0, y5)), (0, (4, 0)), (6, (0, 4))]) (stN := [(1, e4), (0, 4), (4, 7)]) (hsN := [jzH_20, jgh, jgh, jgh, jgh, jgh, jgh, (101, [], [e0, e1, e2, e3, e4, e5]), jgh, jgh, jgh, jgh, jgh, jgh, jgh, jgh]) rfl rfl rfl ?_
      refine jT_xlconst (z := 1) (pcN := 65) jIH_192_64 rfl rfl ?_
      refine jT_xladd (x := e4) (y := 1) (z := e4 + 1) (pcN := 66) jIH_192_65 rfl (rfl) rfl ?_
      refine jT_adv 1 (pcN := 67) (LN := [(4, (0, q2)), (5, (0, y5)), (0, (4, 0)), (6, (0, 4))]) (stN := []) (hsN := [jzH_20, jgh, jgh, jgh, jgh, jgh, jgh, (101, [], [e0, e1, e2, e3, e4 + 1, e5]), jgh, jgh, jgh, jgh, jgh, jgh, jgh, jgh]) (c1 := 0) (s1 := 0) (c2 := b1) (s2 := b2) (by exact rfl) ?_ (by omega) (by omega)
      refine jT_xgoto (pcN := 33) jIH_192_67 rfl ?_
      refine jT_loc (LN := [(4, (0, q2)), (5, (0, y5)), (0, (4, 0)), (6, (0, 4))]) (by show List.Nodup [4, 5, 0, 6]; decide) (by intro q hq; simp only [List.mem_cons, List.not_mem_nil, or_false] at hq; rcases hq with rfl | rfl | rfl | rfl <;> rfl) ?_
      have hs := jst_s (P := 11) (u := u) (n := n) (by decide) h1 hu (by omega)
      rw [hq_q2] at hs
      rw [jsu_1 (by omega), jsc_1 (by omega), hq_q2, show e4 + (jsc 11 n q2 + 1) = e4 + 1 + jsc 11 n q2 by omega] at h
      exact ih q2 (e4 + 1) (by omega) (by omega) hs.2.1 h
theorem jHl_fr_52 {xs : List Int} {d b1 b2 : Nat} {Q : Nat → JV → List JC → Prop} {y4 e0 e1 e2 e3 e5 : Int} : ∀ (n : Nat) (u e4 : Int), 1 ≤ u → u ≤ 1000000 → u < jp2 n → jT xs d 192 16 107 [(5, (0, jsu 11 n u)), (4, (0, y4)), (0, (4, 0)), (6, (0, 4))] [] [jzH_20, jgh, jgh, jgh, jgh, jgh, jgh, (101, [], [e0, e1, e2, e3, e4 - jsc 11 n u, e5]), jgh, jgh, jgh, jgh, jgh, jgh, jgh, jgh] b1 b2 Q → jT xs d 192 16 70 [(5, (0, u)), (4, (0, y4)), (0, (4, 0)), (6, (0, 4))] [] [jzH_20, jgh, jgh, jgh, jgh, jgh, jgh, (101, [], [e0, e1, e2, e3, e4, e5]), jgh, jgh, jgh, jgh, jgh, jgh, jgh, jgh] b1 b2 Q := by
  intro n
  induction n with
  | zero =>
    intro u e4 h1 h2 hu h
    exact absurd (show u < 1 from hu) (by omega)
  | succ n ih =>
    intro u e4 h1 h2 hu h
    have h_u : 1 ≤ u ∧ u ≤ 1000000 := ⟨h1, h2⟩
    rcases (show (0 ≤ (u.tmod 11) - 1) ∨ ((u.tmod 11) - 1 < 0) by omega) with g_0 | g_0
    · refine jT_xiload (v := (0, u)) (pcN := 72) jIH_192_70 rfl rfl rfl ?_
      refine jT_adv 1 (pcN := 75) (LN := [(5, (0, u)), (4, (0, y4)), (0, (4, 0)), (6, (0, 4))]) (stN := [(5, 5), (0, u)]) (hsN := [jzH_20, jgh, jgh, jgh, jgh, jgh, jgh, (101, [], [e0, e1, e2, e3, e4, e5]), jgh, jgh, jgh, jgh, jgh, jgh, jgh, jgh]) (c1 := 0) (s1 := 0) (c2 := b1) (s2 := b2) (by exact rfl) ?_ (by omega) (by omega)
      refine jT_xiload (v := (0, 4)) (pcN := 77) jIH_192_75 rfl rfl rfl ?_
      refine jT_adv 1 (pcN := 78) (LN := [(5, (0, u)), (4, (0, y4)), (0, (4, 0)), (6, (0, 4))]) (stN := [(0, 11), (0, u)]) (hsN := [jzH_20, jgh, jgh, jgh, jgh, jgh, jgh, (101, [], [e0, e1, e2, e3, e4, e5]), jgh, jgh, jgh, jgh, jgh, jgh, jgh, jgh]) (c1 := 0) (s1 := 0) (c2 := b1) (s2 := b2) (by exact rfl) ?_ (by omega) (by omega)
      refine jT_irem (a := u) (b := 11) (by rfl) (by rfl) (jw_idd (by omega) (by omega)) (jw_idd (by omega) (by omega)) (by omega) ?_
      have hb_q1 := jtm_b (x := u) (y := 11) (by omega) (by omega)
      have hb_q1 : 0 ≤ u.tmod 11 ∧ u.tmod 11 ≤ 10 := ⟨hb_q1.1, by omega⟩
      generalize hq_q1 : u.tmod 11 = q1 at hb_q1 g_0 ⊢
      refine jT_ifT (a := q1) (t := 107) (by rfl) (by rfl) (by rfl) (jw_idd (by omega) (by omega)) (by simp only [jcP] <;> omega) ?_
      refine jT_loc (LN := [(5, (0, u)), (4, (0, y4)), (0, (4, 0)), (6, (0, 4))]) (by show List.Nodup [5, 4, 0, 6]; decide) (by intro q hq; simp only [List.mem_cons, List.not_mem_nil, or_false] at hq; rcases hq with rfl | rfl | rfl | rfl <;> rfl) ?_
      rw [jsu_0 (by omega), jsc_0 (by omega), Int.sub_zero] at h
      exact h
    · refine jT_xiload (v := (0, u)) (pcN := 72) jIH_192_70 rfl rfl rfl ?_
      refine jT_adv 1 (pcN := 75) (LN := [(5, (0, u)), (4, (0, y4)), (0, (4, 0)), (6, (0, 4))]) (stN := [(5, 5), (0, u)]) (hsN := [jzH_20, jgh, jgh, jgh, jgh, jgh, jgh, (101, [], [e0, e1, e2, e3, e4, e5]), jgh, jgh, jgh, jgh, jgh, jgh, jgh, jgh]) (c1 := 0) (s1 := 0) (c2 := b1) (s2 := b2) (by exact rfl) ?_ (by omega) (by omega)
      refine jT_xiload (v := (0, 4)) (pcN := 77) jIH_192_75 rfl rfl rfl ?_
      refine jT_adv 1 (pcN := 78) (LN := [(5, (0, u)), (4, (0, y4)), (0, (4, 0)), (6, (0, 4))]) (stN := [(0, 11), (0, u)]) (hsN := [jzH_20, jgh, jgh, jgh, jgh, jgh, jgh, (101, [], [e0, e1, e2, e3, e4, e5]), jgh, jgh, jgh, jgh, jgh, jgh, jgh, jgh]) (c1 := 0) (s1 := 0) (c2 := b1) (s2 := b2) (by exact rfl) ?_ (by omega) (by omega)
      refine jT_irem (a := u) (b := 11) (by rfl) (by rfl) (jw_idd (by omega) (by omega)) (jw_idd (by omega) (by omega)) (by omega) ?_
      have hb_q1 := jtm_b (x := u) (y := 11) (by omega) (by omega)
      have hb_q1 : 0 ≤ u.tmod 11 ∧ u.tmod 11 ≤ 10 := ⟨hb_q1.1, by omega⟩
      generalize hq_q1 : u.tmod 11 = q1 at hb_q1 g_0 ⊢
      refine jT_ifF (a := q1) (t := 107) (by rfl) (by rfl) (by rfl) (jw_idd (by omega) (by omega)) (by simp only [jcP] <;> omega) ?_
      refine jT_xiload (v := (0, u)) (pcN := 84) jIH_192_82 rfl rfl rfl ?_
      refine jT_adv 1 (pcN := 87) (LN := [(5, (0, u)), (4, (0, y4)), (0, (4, 0)), (6, (0, 4))]) (stN := [(5, 5), (0, u)]) (hsN := [jzH_20, jgh, jgh, jgh, jgh, jgh, jgh, (101, [], [e0, e1, e2, e3, e4, e5]), jgh, jgh, jgh, jgh, jgh, jgh, jgh, jgh]) (c1 := 0) (s1 := 0) (c2 := b1) (s2 := b2) (by exact rfl) ?_ (by omega) (by omega)
      refine jT_xiload (v := (0, 4)) (pcN := 89) jIH_192_87 rfl rfl rfl ?_
      refine jT_adv 1 (pcN := 90) (LN := [(5, (0, u)), (4, (0, y4)), (0, (4, 0)), (6, (0, 4))]) (stN := [(0, 11), (0, u)]) (hsN := [jzH_20, jgh, jgh, jgh, jgh, jgh, jgh, (101, [], [e0, e1, e2, e3, e4, e5]), jgh, jgh, jgh, jgh, jgh, jgh, jgh, jgh]) (c1 := 0) (s1 := 0) (c2 := b1) (s2 := b2) (by exact rfl) ?_ (by omega) (by omega)
      refine jT_idiv (a := u) (b := 11) (by rfl) (by rfl) (jw_idd (by omega) (by omega)) (jw_idd (by omega) (by omega)) (by omega) ?_
      have hb_q2 := jtd_b0 (x := u) (y := 11) (by omega) (by omega)
      have hb_q2 : 0 ≤ u.tdiv 11 ∧ u.tdiv 11 ≤ 1000000 := ⟨hb_q2.1, by omega⟩
      generalize hq_q2 : u.tdiv 11 = q2 at hb_q2 ⊢
      refine jT_xistore (v := (0, q2)) (LN := [(5, (0, q2)), (4, (0, y4)), (0, (4, 0)), (6, (0, 4))]) (pcN := 93) jIH_192_91 rfl rfl rfl rfl ?_
      refine jT_xaload_n (v := (4, 0)) (pcN := 94) jIH_192_93 rfl rfl rfl ?_
      refine jT_xgetf (a := 0) (t := 1) (ci := 14) (fi := 9) (c := jzH_20) (v := (4, 7)) (pcN := 97) jIH_192_94 rfl rfl rfl rfl rfl rfl rfl ?_
      refine jT_xiload (v := (0, 4)) (pcN := 99) jIH_192_97 rfl rfl rfl ?_
      refine jT_adv 1 (pcN := 100) (LN := [(5, (0, q2)), (4, (0, y4)), (0, (4, 0)), (6, (0, 4))]) (stN := [(0, 4), (4, 7), (0, 4), (4, 7)]) (hsN := [jzH_20, jgh, jgh, jgh, jgh, jgh, jgh, (101, [], [e0, e1, e2, e3, e4, e5]), jgh, jgh, jgh, jgh, jgh, jgh, jgh, jgh]) (c1 := 0) (s1 := 0) (c2 := b1) (s2 := b2) (by exact rfl) ?_ (by omega) (by omega)
      refine jT_lald (x := e4) (a := 7) (j := 4) (fs := []) (X := [e0, e1, e2, e3, e4, e5]) jIH_192_100 rfl rfl rfl rfl ?_
      refine jT_eq (LN := [(5, (0, q2)), (4, (0, y4)), (0, (4, 0)), (6, (0, 4))]) (stN := [(1, e4), (0, 4), (4, 7)]) (hsN := [jzH_20, jgh, jgh, jgh, jgh, jgh, jgh, (101, [], [e0, e1, e2, e3, e4, e5]), jgh, jgh, jgh, jgh, jgh, jgh, jgh, jgh]) rfl rfl rfl ?_
      refine jT_xlconst (z := 1) (pcN := 102) jIH_192_101 rfl rfl ?_
      refine jT_xlsub (x := e4) (y := 1) (z := e4 - 1) (pcN := 103) jIH_192_102 rfl (rfl) rfl ?_
      refine jT_adv 1 (pcN := 104) (LN := [(5, (0, q2)), (4, (0, y4)), (0, (4, 0)), (6, (0, 4))]) (stN := []) (hsN := [jzH_20, jgh, jgh, jgh, jgh, jgh, jgh, (101, [], [e0, e1, e2, e3, e4 - 1, e5]), jgh, jgh, jgh, jgh, jgh, jgh, jgh, jgh]) (c1 := 0) (s1 := 0) (c2 := b1) (s2 := b2) (by exact rfl) ?_ (by omega) (by omega)
      refine jT_xgoto (pcN := 70) jIH_192_104 rfl ?_
      refine jT_loc (LN := [(5, (0, q2)), (4, (0, y4)), (0, (4, 0)), (6, (0, 4))]) (by show List.Nodup [5, 4, 0, 6]; decide) (by intro q hq; simp only [List.mem_cons, List.not_mem_nil, or_false] at hq; rcases hq with rfl | rfl | rfl | rfl <;> rfl) ?_
      have hs := jst_s (P := 11) (u := u) (n := n) (by decide) h1 hu (by omega)
      rw [hq_q2] at hs
      rw [jsu_1 (by omega), jsc_1 (by omega), hq_q2, show e4 - (jsc 11 n q2 + 1) = e4 - 1 - jsc 11 n q2 by omega] at h
      exact ih q2 (e4 - 1) (by omega) (by omega) hs.2.1 h
theorem jHl_fr_53 {xs : List Int} {d b1 b2 : Nat} {Q : Nat → JV → List JC → Prop} {y5 e0 e1 e2 e3 e4 : Int} : ∀ (n : Nat) (u e5 : Int), 1 ≤ u → u ≤ 1000000 → u < jp2 n → jT xs d 192 16 70 [(4, (0, jsu 13 n u)), (5, (0, y5)), (0, (4, 0)), (6, (0, 5))] [] [jzH_20, jgh, jgh, jgh, jgh, jgh, jgh, (101, [], [e0, e1, e2, e3, e4, e5 + jsc 13 n u]), jgh, jgh, jgh, jgh, jgh, jgh, jgh, jgh] b1 b2 Q → jT xs d 192 16 33 [(4, (0, u)), (5, (0, y5)), (0, (4, 0)), (6, (0, 5))] [] [jzH_20, jgh, jgh, jgh, jgh, jgh, jgh, (101, [], [e0, e1, e2, e3, e4, e5]), jgh, jgh, jgh, jgh, jgh, jgh, jgh, jgh] b1 b2 Q := by
  intro n
  induction n with
  | zero =>
    intro u e5 h1 h2 hu h
    exact absurd (show u < 1 from hu) (by omega)
  | succ n ih =>
    intro u e5 h1 h2 hu h
    have h_u : 1 ≤ u ∧ u ≤ 1000000 := ⟨h1, h2⟩
    rcases (show (0 ≤ (u.tmod 13) - 1) ∨ ((u.tmod 13) - 1 < 0) by omega) with g_0 | g_0
    · refine jT_xiload (v := (0, u)) (pcN := 35) jIH_192_33 rfl rfl rfl ?_
      refine jT_adv 1 (pcN := 38) (LN := [(4, (0, u)), (5, (0, y5)), (0, (4, 0)), (6, (0, 5))]) (stN := [(5, 5), (0, u)]) (hsN := [jzH_20, jgh, jgh, jgh, jgh, jgh, jgh, (101, [], [e0, e1, e2, e3, e4, e5]), jgh, jgh, jgh, jgh, jgh, jgh, jgh, jgh]) (c1 := 0) (s1 := 0) (c2 := b1) (s2 := b2) (by exact rfl) ?_ (by omega) (by omega)
      refine jT_xiload (v := (0, 5)) (pcN := 40) jIH_192_38 rfl rfl rfl ?_
      refine jT_adv 1 (pcN := 41) (LN := [(4, (0, u)), (5, (0, y5)), (0, (4, 0)), (6, (0, 5))]) (stN := [(0, 13), (0, u)]) (hsN := [jzH_20, jgh, jgh, jgh, jgh, jgh, jgh, (101, [], [e0, e1, e2, e3, e4, e5]), jgh, jgh, jgh, jgh, jgh, jgh, jgh, jgh]) (c1 := 0) (s1 := 0) (c2 := b1) (s2 := b2) (by exact rfl) ?_ (by omega) (by omega)
      refine jT_irem (a := u) (b := 13) (by rfl) (by rfl) (jw_idd (by omega) (by omega)) (jw_idd (by omega) (by omega)) (by omega) ?_
      have hb_q1 := jtm_b (x := u) (y := 13) (by omega) (by omega)
      have hb_q1 : 0 ≤ u.tmod 13 ∧ u.tmod 13 ≤ 12 := ⟨hb_q1.1, by omega⟩
      generalize hq_q1 : u.tmod 13 = q1 at hb_q1 g_0 ⊢
      refine jT_ifT (a := q1) (t := 70) (by rfl) (by rfl) (by rfl) (jw_idd (by omega) (by omega)) (by simp only [jcP] <;> omega) ?_
      refine jT_loc (LN := [(4, (0, u)), (5, (0, y5)), (0, (4, 0)), (6, (0, 5))]) (by show List.Nodup [4, 5, 0, 6]; decide) (by intro q hq; simp only [List.mem_cons, List.not_mem_nil, or_false] at hq; rcases hq with rfl | rfl | rfl | rfl <;> rfl) ?_
      rw [jsu_0 (by omega), jsc_0 (by omega), Int.add_zero] at h
      exact h
    · refine jT_xiload (v := (0, u)) (pcN := 35) jIH_192_33 rfl rfl rfl ?_
      refine jT_adv 1 (pcN := 38) (LN := [(4, (0, u)), (5, (0, y5)), (0, (4, 0)), (6, (0, 5))]) (stN := [(5, 5), (0, u)]) (hsN := [jzH_20, jgh, jgh, jgh, jgh, jgh, jgh, (101, [], [e0, e1, e2, e3, e4, e5]), jgh, jgh, jgh, jgh, jgh, jgh, jgh, jgh]) (c1 := 0) (s1 := 0) (c2 := b1) (s2 := b2) (by exact rfl) ?_ (by omega) (by omega)
      refine jT_xiload (v := (0, 5)) (pcN := 40) jIH_192_38 rfl rfl rfl ?_
      refine jT_adv 1 (pcN := 41) (LN := [(4, (0, u)), (5, (0, y5)), (0, (4, 0)), (6, (0, 5))]) (stN := [(0, 13), (0, u)]) (hsN := [jzH_20, jgh, jgh, jgh, jgh, jgh, jgh, (101, [], [e0, e1, e2, e3, e4, e5]), jgh, jgh, jgh, jgh, jgh, jgh, jgh, jgh]) (c1 := 0) (s1 := 0) (c2 := b1) (s2 := b2) (by exact rfl) ?_ (by omega) (by omega)
      refine jT_irem (a := u) (b := 13) (by rfl) (by rfl) (jw_idd (by omega) (by omega)) (jw_idd (by omega) (by omega)) (by omega) ?_
      have hb_q1 := jtm_b (x := u) (y := 13) (by omega) (by omega)
      have hb_q1 : 0 ≤ u.tmod 13 ∧ u.tmod 13 ≤ 12 := ⟨hb_q1.1, by omega⟩
      generalize hq_q1 : u.tmod 13 = q1 at hb_q1 g_0 ⊢
      refine jT_ifF (a := q1) (t := 70) (by rfl) (by rfl) (by rfl) (jw_idd (by omega) (by omega)) (by simp only [jcP] <;> omega) ?_
      refine jT_xiload (v := (0, u)) (pcN := 47) jIH_192_45 rfl rfl rfl ?_
      refine jT_adv 1 (pcN := 50) (LN := [(4, (0, u)), (5, (0, y5)), (0, (4, 0)), (6, (0, 5))]) (stN := [(5, 5), (0, u)]) (hsN := [jzH_20, jgh, jgh, jgh, jgh, jgh, jgh, (101, [], [e0, e1, e2, e3, e4, e5]), jgh, jgh, jgh, jgh, jgh, jgh, jgh, jgh]) (c1 := 0) (s1 := 0) (c2 := b1) (s2 := b2) (by exact rfl) ?_ (by omega) (by omega)
      refine jT_xiload (v := (0, 5)) (pcN := 52) jIH_192_50 rfl rfl rfl ?_
      refine jT_adv 1 (pcN := 53) (LN := [(4, (0, u)), (5, (0, y5)), (0, (4, 0)), (6, (0, 5))]) (stN := [(0, 13), (0, u)]) (hsN := [jzH_20, jgh, jgh, jgh, jgh, jgh, jgh, (101, [], [e0, e1, e2, e3, e4, e5]), jgh, jgh, jgh, jgh, jgh, jgh, jgh, jgh]) (c1 := 0) (s1 := 0) (c2 := b1) (s2 := b2) (by exact rfl) ?_ (by omega) (by omega)
      refine jT_idiv (a := u) (b := 13) (by rfl) (by rfl) (jw_idd (by omega) (by omega)) (jw_idd (by omega) (by omega)) (by omega) ?_
      have hb_q2 := jtd_b0 (x := u) (y := 13) (by omega) (by omega)
      have hb_q2 : 0 ≤ u.tdiv 13 ∧ u.tdiv 13 ≤ 1000000 := ⟨hb_q2.1, by omega⟩
      generalize hq_q2 : u.tdiv 13 = q2 at hb_q2 ⊢
      refine jT_xistore (v := (0, q2)) (LN := [(4, (0, q2)), (5, (0, y5)), (0, (4, 0)), (6, (0, 5))]) (pcN := 56) jIH_192_54 rfl rfl rfl rfl ?_
      refine jT_xaload_n (v := (4, 0)) (pcN := 57) jIH_192_56 rfl rfl rfl ?_
      refine jT_xgetf (a := 0) (t := 1) (ci := 14) (fi := 9) (c := jzH_20) (v := (4, 7)) (pcN := 60) jIH_192_57 rfl rfl rfl rfl rfl rfl rfl ?_
      refine jT_xiload (v := (0, 5)) (pcN := 62) jIH_192_60 rfl rfl rfl ?_
      refine jT_adv 1 (pcN := 63) (LN := [(4, (0, q2)), (5, (0, y5)), (0, (4, 0)), (6, (0, 5))]) (stN := [(0, 5), (4, 7), (0, 5), (4, 7)]) (hsN := [jzH_20, jgh, jgh, jgh, jgh, jgh, jgh, (101, [], [e0, e1, e2, e3, e4, e5]), jgh, jgh, jgh, jgh, jgh, jgh, jgh, jgh]) (c1 := 0) (s1 := 0) (c2 := b1) (s2 := b2) (by exact rfl) ?_ (by omega) (by omega)
      refine jT_lald (x := e5) (a := 7) (j := 5) (fs := []) (X := [e0, e1, e2, e3, e4, e5]) jIH_192_63 rfl rfl rfl rfl ?_
      refine jT_eq (LN := [(4, (0, q2)), (5, (0, y5)), (0, (4, 0)), (6, (0, 5))]) (stN := [(1, e5), (0, 5), (4, 7)]) (hsN := [jzH_20, jgh, jgh, jgh, jgh, jgh, jgh, (101, [], [e0, e1, e2, e3, e4, e5]), jgh, jgh, jgh, jgh, jgh, jgh, jgh, jgh]) rfl rfl rfl ?_
      refine jT_xlconst (z := 1) (pcN := 65) jIH_192_64 rfl rfl ?_
      refine jT_xladd (x := e5) (y := 1) (z := e5 + 1) (pcN := 66) jIH_192_65 rfl (rfl) rfl ?_
      refine jT_adv 1 (pcN := 67) (LN := [(4, (0, q2)), (5, (0, y5)), (0, (4, 0)), (6, (0, 5))]) (stN := []) (hsN := [jzH_20, jgh, jgh, jgh, jgh, jgh, jgh, (101, [], [e0, e1, e2, e3, e4, e5 + 1]), jgh, jgh, jgh, jgh, jgh, jgh, jgh, jgh]) (c1 := 0) (s1 := 0) (c2 := b1) (s2 := b2) (by exact rfl) ?_ (by omega) (by omega)
      refine jT_xgoto (pcN := 33) jIH_192_67 rfl ?_
      refine jT_loc (LN := [(4, (0, q2)), (5, (0, y5)), (0, (4, 0)), (6, (0, 5))]) (by show List.Nodup [4, 5, 0, 6]; decide) (by intro q hq; simp only [List.mem_cons, List.not_mem_nil, or_false] at hq; rcases hq with rfl | rfl | rfl | rfl <;> rfl) ?_
      have hs := jst_s (P := 13) (u := u) (n := n) (by decide) h1 hu (by omega)
      rw [hq_q2] at hs
      rw [jsu_1 (by omega), jsc_1 (by omega), hq_q2, show e5 + (jsc 13 n q2 + 1) = e5 + 1 + jsc 13 n q2 by omega] at h
      exact ih q2 (e5 + 1) (by omega) (by omega) hs.2.1 h
theorem jHl_fr_54 {xs : List Int} {d b1 b2 : Nat} {Q : Nat → JV → List JC → Prop} {y4 e0 e1 e2 e3 e4 : Int} : ∀ (n : Nat) (u e5 : Int), 1 ≤ u → u ≤ 1000000 → u < jp2 n → jT xs d 192 16 107 [(5, (0, jsu 13 n u)), (4, (0, y4)), (0, (4, 0)), (6, (0, 5))] [] [jzH_20, jgh, jgh, jgh, jgh, jgh, jgh, (101, [], [e0, e1, e2, e3, e4, e5 - jsc 13 n u]), jgh, jgh, jgh, jgh, jgh, jgh, jgh, jgh] b1 b2 Q → jT xs d 192 16 70 [(5, (0, u)), (4, (0, y4)), (0, (4, 0)), (6, (0, 5))] [] [jzH_20, jgh, jgh, jgh, jgh, jgh, jgh, (101, [], [e0, e1, e2, e3, e4, e5]), jgh, jgh, jgh, jgh, jgh, jgh, jgh, jgh] b1 b2 Q := by
  intro n
  induction n with
  | zero =>
    intro u e5 h1 h2 hu h
    exact absurd (show u < 1 from hu) (by omega)
  | succ n ih =>
    intro u e5 h1 h2 hu h
    have h_u : 1 ≤ u ∧ u ≤ 1000000 := ⟨h1, h2⟩
    rcases (show (0 ≤ (u.tmod 13) - 1) ∨ ((u.tmod 13) - 1 < 0) by omega) with g_0 | g_0
    · refine jT_xiload (v := (0, u)) (pcN := 72) jIH_192_70 rfl rfl rfl ?_
      refine jT_adv 1 (pcN := 75) (LN := [(5, (0, u)), (4, (0, y4)), (0, (4, 0)), (6, (0, 5))]) (stN := [(5, 5), (0, u)]) (hsN := [jzH_20, jgh, jgh, jgh, jgh, jgh, jgh, (101, [], [e0, e1, e2, e3, e4, e5]), jgh, jgh, jgh, jgh, jgh, jgh, jgh, jgh]) (c1 := 0) (s1 := 0) (c2 := b1) (s2 := b2) (by exact rfl) ?_ (by omega) (by omega)
      refine jT_xiload (v := (0, 5)) (pcN := 77) jIH_192_75 rfl rfl rfl ?_
      refine jT_adv 1 (pcN := 78) (LN := [(5, (0, u)), (4, (0, y4)), (0, (4, 0)), (6, (0, 5))]) (stN := [(0, 13), (0, u)]) (hsN := [jzH_20, jgh, jgh, jgh, jgh, jgh, jgh, (101, [], [e0, e1, e2, e3, e4, e5]), jgh, jgh, jgh, jgh, jgh, jgh, jgh, jgh]) (c1 := 0) (s1 := 0) (c2 := b1) (s2 := b2) (by exact rfl) ?_ (by omega) (by omega)
      refine jT_irem (a := u) (b := 13) (by rfl) (by rfl) (jw_idd (by omega) (by omega)) (jw_idd (by omega) (by omega)) (by omega) ?_
      have hb_q1 := jtm_b (x := u) (y := 13) (by omega) (by omega)
      have hb_q1 : 0 ≤ u.tmod 13 ∧ u.tmod 13 ≤ 12 := ⟨hb_q1.1, by omega⟩
      generalize hq_q1 : u.tmod 13 = q1 at hb_q1 g_0 ⊢
      refine jT_ifT (a := q1) (t := 107) (by rfl) (by rfl) (by rfl) (jw_idd (by omega) (by omega)) (by simp only [jcP] <;> omega) ?_
      refine jT_loc (LN := [(5, (0, u)), (4, (0, y4)), (0, (4, 0)), (6, (0, 5))]) (by show List.Nodup [5, 4, 0, 6]; decide) (by intro q hq; simp only [List.mem_cons, List.not_mem_nil, or_false] at hq; rcases hq with rfl | rfl | rfl | rfl <;> rfl) ?_
      rw [jsu_0 (by omega), jsc_0 (by omega), Int.sub_zero] at h
      exact h
    · refine jT_xiload (v := (0, u)) (pcN := 72) jIH_192_70 rfl rfl rfl ?_
      refine jT_adv 1 (pcN := 75) (LN := [(5, (0, u)), (4, (0, y4)), (0, (4, 0)), (6, (0, 5))]) (stN := [(5, 5), (0, u)]) (hsN := [jzH_20, jgh, jgh, jgh, jgh, jgh, jgh, (101, [], [e0, e1, e2, e3, e4, e5]), jgh, jgh, jgh, jgh, jgh, jgh, jgh, jgh]) (c1 := 0) (s1 := 0) (c2 := b1) (s2 := b2) (by exact rfl) ?_ (by omega) (by omega)
      refine jT_xiload (v := (0, 5)) (pcN := 77) jIH_192_75 rfl rfl rfl ?_
      refine jT_adv 1 (pcN := 78) (LN := [(5, (0, u)), (4, (0, y4)), (0, (4, 0)), (6, (0, 5))]) (stN := [(0, 13), (0, u)]) (hsN := [jzH_20, jgh, jgh, jgh, jgh, jgh, jgh, (101, [], [e0, e1, e2, e3, e4, e5]), jgh, jgh, jgh, jgh, jgh, jgh, jgh, jgh]) (c1 := 0) (s1 := 0) (c2 := b1) (s2 := b2) (by exact rfl) ?_ (by omega) (by omega)
      refine jT_irem (a := u) (b := 13) (by rfl) (by rfl) (jw_idd (by omega) (by omega)) (jw_idd (by omega) (by omega)) (by omega) ?_
      have hb_q1 := jtm_b (x := u) (y := 13) (by omega) (by omega)
      have hb_q1 : 0 ≤ u.tmod 13 ∧ u.tmod 13 ≤ 12 := ⟨hb_q1.1, by omega⟩
      generalize hq_q1 : u.tmod 13 = q1 at hb_q1 g_0 ⊢
      refine jT_ifF (a := q1) (t := 107) (by rfl) (by rfl) (by rfl) (jw_idd (by omega) (by omega)) (by simp only [jcP] <;> omega) ?_
      refine jT_xiload (v := (0, u)) (pcN := 84) jIH_192_82 rfl rfl rfl ?_
      refine jT_adv 1 (pcN := 87) (LN := [(5, (0, u)), (4, (0, y4)), (0, (4, 0)), (6, (0, 5))]) (stN := [(5, 5), (0, u)]) (hsN := [jzH_20, jgh, jgh, jgh, jgh, jgh, jgh, (101, [], [e0, e1, e2, e3, e4, e5]), jgh, jgh, jgh, jgh, jgh, jgh, jgh, jgh]) (c1 := 0) (s1 := 0) (c2 := b1) (s2 := b2) (by exact rfl) ?_ (by omega) (by omega)
      refine jT_xiload (v := (0, 5)) (pcN := 89) jIH_192_87 rfl rfl rfl ?_
      refine jT_adv 1 (pcN := 90) (LN := [(5, (0, u)), (4, (0, y4)), (0, (4, 0)), (6, (0, 5))]) (stN := [(0, 13), (0, u)]) (hsN := [jzH_20, jgh, jgh, jgh, jgh, jgh, jgh, (101, [], [e0, e1, e2, e3, e4, e5]), jgh, jgh, jgh, jgh, jgh, jgh, jgh, jgh]) (c1 := 0) (s1 := 0) (c2 := b1) (s2 := b2) (by exact rfl) ?_ (by omega) (by omega)
      refine jT_idiv (a := u) (b := 13) (by rfl) (by rfl) (jw_idd (by omega) (by omega)) (jw_idd (by omega) (by omega)) (by omega) ?_
      have hb_q2 := jtd_b0 (x := u) (y := 13) (by omega) (by omega)
      have hb_q2 : 0 ≤ u.tdiv 13 ∧ u.tdiv 13 ≤ 1000000 := ⟨hb_q2.1, by omega⟩
      generalize hq_q2 : u.tdiv 13 = q2 at hb_q2 ⊢
      refine jT_xistore (v := (0, q2)) (LN := [(5, (0, q2)), (4, (0, y4)), (0, (4, 0)), (6, (0, 5))]) (pcN := 93) jIH_192_91 rfl rfl rfl rfl ?_
      refine jT_xaload_n (v := (4, 0)) (pcN := 94) jIH_192_93 rfl rfl rfl ?_
      refine jT_xgetf (a := 0) (t := 1) (ci := 14) (fi := 9) (c := jzH_20) (v := (4, 7)) (pcN := 97) jIH_192_94 rfl rfl rfl rfl rfl rfl rfl ?_
      refine jT_xiload (v := (0, 5)) (pcN := 99) jIH_192_97 rfl rfl rfl ?_
      refine jT_adv 1 (pcN := 100) (LN := [(5, (0, q2)), (4, (0, y4)), (0, (4, 0)), (6, (0, 5))]) (stN := [(0, 5), (4, 7), (0, 5), (4, 7)]) (hsN := [jzH_20, jgh, jgh, jgh, jgh, jgh, jgh, (101, [], [e0, e1, e2, e3, e4, e5]), jgh, jgh, jgh, jgh, jgh, jgh, jgh, jgh]) (c1 := 0) (s1 := 0) (c2 := b1) (s2 := b2) (by exact rfl) ?_ (by omega) (by omega)
      refine jT_lald (x := e5) (a := 7) (j := 5) (fs := []) (X := [e0, e1, e2, e3, e4, e5]) jIH_192_100 rfl rfl rfl rfl ?_
      refine jT_eq (LN := [(5, (0, q2)), (4, (0, y4)), (0, (4, 0)), (6, (0, 5))]) (stN := [(1, e5), (0, 5), (4, 7)]) (hsN := [jzH_20, jgh, jgh, jgh, jgh, jgh, jgh, (101, [], [e0, e1, e2, e3, e4, e5]), jgh, jgh, jgh, jgh, jgh, jgh, jgh, jgh]) rfl rfl rfl ?_
      refine jT_xlconst (z := 1) (pcN := 102) jIH_192_101 rfl rfl ?_
      refine jT_xlsub (x := e5) (y := 1) (z := e5 - 1) (pcN := 103) jIH_192_102 rfl (rfl) rfl ?_
      refine jT_adv 1 (pcN := 104) (LN := [(5, (0, q2)), (4, (0, y4)), (0, (4, 0)), (6, (0, 5))]) (stN := []) (hsN := [jzH_20, jgh, jgh, jgh, jgh, jgh, jgh, (101, [], [e0, e1, e2, e3, e4, e5 - 1]), jgh, jgh, jgh, jgh, jgh, jgh, jgh, jgh]) (c1 := 0) (s1 := 0) (c2 := b1) (s2 := b2) (by exact rfl) ?_ (by omega) (by omega)
      refine jT_xgoto (pcN := 70) jIH_192_104 rfl ?_
      refine jT_loc (LN := [(5, (0, q2)), (4, (0, y4)), (0, (4, 0)), (6, (0, 5))]) (by show List.Nodup [5, 4, 0, 6]; decide) (by intro q hq; simp only [List.mem_cons, List.not_mem_nil, or_false] at hq; rcases hq with rfl | rfl | rfl | rfl <;> rfl) ?_
      have hs := jst_s (P := 13) (u := u) (n := n) (by decide) h1 hu (by omega)
      rw [hq_q2] at hs
      rw [jsu_1 (by omega), jsc_1 (by omega), hq_q2, show e5 - (jsc 13 n q2 + 1) = e5 - 1 - jsc 13 n q2 by omega] at h
      exact ih q2 (e5 - 1) (by omega) (by omega) hs.2.1 h
theorem jIH_192_113 : jmI (jm 192) 113 = (.iload 4, 2) := by rfl
theorem jIH_192_115 : jmI (jm 192) 115 = (.iconst 1, 1) := by rfl
theorem jIH_192_116 : jmI (jm 192) 116 = (.if_icmp .ne 13, 3) := by rfl
theorem jIH_192_129 : jmI (jm 192) 129 = (.iconst 0, 1) := by rfl
theorem jH_192_55 {xs : List Int} {d : Nat} {x2 x3 : Int} (h_x2 : 1 ≤ x2 ∧ x2 ≤ 1000000) (h_x3 : 1 ≤ x3 ∧ x3 ≤ 1000000) (g_0 : 0 ≤ (jsu 13 20 (jsu 11 20 (jsu 7 20 (jsu 5 20 (jsu 3 20 (jsu 2 20 (x2.tdiv (((Nat.gcd (x2).natAbs (x3).natAbs : Nat) : Int))))))))) - 2) : jT xs (d + 42) 192 16 0 [(0, (4, 0)), (1, (0, x2)), (2, (0, x3))] [] jpH_134 0 0 (fun k v hsN => k = 0 ∧ v = (0, 0) ∧ hsN = [jzH_20, jgh, jgh, jgh, jgh, jgh, jgh, (101, [], [(jsc 2 20 (x2.tdiv (((Nat.gcd (x2).natAbs (x3).natAbs : Nat) : Int)))) - (jsc 2 20 (x3.tdiv (((Nat.gcd (x2).natAbs (x3).natAbs : Nat) : Int)))), -(jsc 3 20 (jsu 2 20 (x3.tdiv (((Nat.gcd (x2).natAbs (x3).natAbs : Nat) : Int))))) + (jsc 3 20 (jsu 2 20 (x2.tdiv (((Nat.gcd (x2).natAbs (x3).natAbs : Nat) : Int))))), (jsc 5 20 (jsu 3 20 (jsu 2 20 (x2.tdiv (((Nat.gcd (x2).natAbs (x3).natAbs : Nat) : Int)))))) - (jsc 5 20 (jsu 3 20 (jsu 2 20 (x3.tdiv (((Nat.gcd (x2).natAbs (x3).natAbs : Nat) : Int)))))), (jsc 7 20 (jsu 5 20 (jsu 3 20 (jsu 2 20 (x2.tdiv (((Nat.gcd (x2).natAbs (x3).natAbs : Nat) : Int))))))) - (jsc 7 20 (jsu 5 20 (jsu 3 20 (jsu 2 20 (x3.tdiv (((Nat.gcd (x2).natAbs (x3).natAbs : Nat) : Int))))))), (jsc 11 20 (jsu 7 20 (jsu 5 20 (jsu 3 20 (jsu 2 20 (x2.tdiv (((Nat.gcd (x2).natAbs (x3).natAbs : Nat) : Int)))))))) - (jsc 11 20 (jsu 7 20 (jsu 5 20 (jsu 3 20 (jsu 2 20 (x3.tdiv (((Nat.gcd (x2).natAbs (x3).natAbs : Nat) : Int)))))))), (jsc 13 20 (jsu 11 20 (jsu 7 20 (jsu 5 20 (jsu 3 20 (jsu 2 20 (x2.tdiv (((Nat.gcd (x2).natAbs (x3).natAbs : Nat) : Int))))))))) - (jsc 13 20 (jsu 11 20 (jsu 7 20 (jsu 5 20 (jsu 3 20 (jsu 2 20 (x3.tdiv (((Nat.gcd (x2).natAbs (x3).natAbs : Nat) : Int)))))))))]), jgh, jgh, jgh, jgh, jgh, jgh, jgh, jgh]) := by
  refine jT_xaload_n (v := (4, 0)) (pcN := 1) jIH_192_0 rfl rfl rfl ?_
  refine jT_fR [0, 1, 2, 3, 4, 5, 6, 7, 8, 9, 10, 11, 12, 13, 14, 15] 16 (y := 193) (pcN := 4) (dC := 0) (bc1 := 0) (bc2 := 0) (c1 := 0) (c2 := 0) (as := [(4, 0)]) (asC := [(4, 0)]) (LN := [(0, (4, 0)), (1, (0, x2)), (2, (0, x3))]) (stN := []) (hsC := jpH_134) (v := (9, 0)) (st2 := []) (jH_193_42 (d := 0)) (by rfl) (by rfl) (by decide +kernel) (by rfl) (by rfl) (by omega) (by omega) (by omega) (by omega) rfl ?_
  refine jT_xiload_n (v := (0, x2)) (pcN := 5) jIH_192_4 rfl rfl rfl ?_
  refine jT_xi2l (x := x2) (z := x2) (pcN := 6) jIH_192_5 rfl (jw_idd (by omega) (by omega)) rfl ?_
  refine jT_xiload_n (v := (0, x3)) (pcN := 7) jIH_192_6 rfl rfl rfl ?_
  refine jT_xi2l (x := x3) (z := x3) (pcN := 8) jIH_192_7 rfl (jw_idd (by omega) (by omega)) rfl ?_
  refine jT_fR [] 16 (y := 194) (pcN := 11) (dC := 41) (bc1 := 0) (bc2 := 0) (c1 := 0) (c2 := 0) (as := [(1, x2), (1, x3)]) (asC := [(1, x2), (1, x3)]) (LN := [(0, (4, 0)), (1, (0, x2)), (2, (0, x3))]) (stN := []) (hsC := []) (v := (1, ((Nat.gcd (x2).natAbs (x3).natAbs : Nat) : Int))) (st2 := [(1, ((Nat.gcd (x2).natAbs (x3).natAbs : Nat) : Int))]) (jT_gcd 20 0 (x2) (x3) (by omega) (by omega) (show (x3).natAbs < 1048576 by omega)) (by rfl) (by rfl) (by decide +kernel) (by rfl) (by rfl) (by omega) (by omega) (by omega) (by omega) rfl ?_
  have hb_q1 := jgcd_l (x := x2) (y := x3) (by omega)
  have hb_q1 : 1 ≤ ((Nat.gcd (x2).natAbs (x3).natAbs : Nat) : Int) ∧ ((Nat.gcd (x2).natAbs (x3).natAbs : Nat) : Int) ≤ 1000000 := ⟨hb_q1.1, by omega⟩
  generalize hq_q1 : ((Nat.gcd (x2).natAbs (x3).natAbs : Nat) : Int) = q1 at hb_q1 g_0 ⊢
  refine jT_xl2i (pcN := 12) jIH_192_11 rfl rfl ?_
  refine jT_xistore_n (v := (0, q1)) (LN := [(3, (0, q1)), (0, (4, 0)), (1, (0, x2)), (2, (0, x3))]) (pcN := 13) jIH_192_12 rfl rfl rfl rfl ?_
  refine jT_xiload_n (v := (0, x2)) (pcN := 14) jIH_192_13 rfl rfl rfl ?_
  refine jT_xiload_n (v := (0, q1)) (pcN := 15) jIH_192_14 rfl rfl rfl ?_
  refine jT_idiv (a := x2) (b := q1) (by rfl) (by rfl) (jw_idd (by omega) (by omega)) (jw_idd (by omega) (by omega)) (by omega) ?_
  have hb_q2 := jfr_b hq_q1 (by omega) (by omega)
  generalize hq_q2 : x2.tdiv q1 = q2 at hb_q2 g_0 ⊢
  refine jT_xistore (v := (0, q2)) (LN := [(4, (0, q2)), (3, (0, q1)), (0, (4, 0)), (1, (0, x2)), (2, (0, x3))]) (pcN := 18) jIH_192_16 rfl rfl rfl rfl ?_
  refine jT_xiload_n (v := (0, x3)) (pcN := 19) jIH_192_18 rfl rfl rfl ?_
  refine jT_xiload_n (v := (0, q1)) (pcN := 20) jIH_192_19 rfl rfl rfl ?_
  refine jT_idiv (a := x3) (b := q1) (by rfl) (by rfl) (jw_idd (by omega) (by omega)) (jw_idd (by omega) (by omega)) (by omega) ?_
  have hb_q3 := jfr_b2 hq_q1 (by omega) (by omega)
  generalize hq_q3 : x3.tdiv q1 = q3 at hb_q3 ⊢
  refine jT_xistore (v := (0, q3)) (LN := [(5, (0, q3)), (4, (0, q2)), (3, (0, q1)), (0, (4, 0)), (1, (0, x2)), (2, (0, x3))]) (pcN := 23) jIH_192_21 rfl rfl rfl rfl ?_
  refine jT_xiconst (k := 0) (pcN := 24) jIH_192_23 rfl ?_
  refine jT_xistore (v := (0, 0)) (LN := [(6, (0, 0)), (5, (0, q3)), (4, (0, q2)), (3, (0, q1)), (0, (4, 0)), (1, (0, x2)), (2, (0, x3))]) (pcN := 26) jIH_192_24 rfl rfl rfl rfl ?_
  refine jT_xiload (v := (0, 0)) (pcN := 28) jIH_192_26 rfl rfl rfl ?_
  refine jT_xbipush (k := 6) (pcN := 30) jIH_192_28 (by decide) rfl ?_
  refine jT_xicF (t := 113) (pcN := 33) jIH_192_30 rfl (by decide +kernel) rfl rfl ?_
  refine jT_loc (LN := [(4, (0, q2)), (5, (0, q3)), (0, (4, 0)), (6, (0, 0))]) (by show List.Nodup [4, 5, 0, 6]; decide) (by intro q hq; simp only [List.mem_cons, List.not_mem_nil, or_false] at hq; rcases hq with rfl | rfl | rfl | rfl <;> rfl) ?_
  refine jHl_fr_43 (y5 := q3) (e1 := 0) (e2 := 0) (e3 := 0) (e4 := 0) (e5 := 0) 20 q2 0 (by omega) (by omega) (Int.lt_of_le_of_lt (show q2 ≤ (1000000 : Int) by omega) (by decide)) ?_
  have hb_q4 := jsu_b (P := 2) (by decide) (n := 20) (u := q2) (by omega) (by omega)
  generalize hq_q4 : jsu 2 20 q2 = q4 at hb_q4 g_0 ⊢
  have hb_q5 := jsc_b (P := 2) (n := 20) (u := q2)
  have hb_q5 : 0 ≤ jsc 2 20 q2 ∧ jsc 2 20 q2 ≤ 20 := ⟨hb_q5.1, by omega⟩
  generalize hq_q5 : jsc 2 20 q2 = q5 at hb_q5 ⊢
  refine jT_eq (LN := [(4, (0, q4)), (5, (0, q3)), (0, (4, 0)), (6, (0, 0))]) (stN := []) (hsN := [jzH_20, jgh, jgh, jgh, jgh, jgh, jgh, (101, [], [q5, 0, 0, 0, 0, 0]), jgh, jgh, jgh, jgh, jgh, jgh, jgh, jgh]) (rfl) (rfl) (by simp only [List.cons.injEq, Prod.mk.injEq, and_true, true_and] <;> ((try unfold jw); (try unfold jwl); omega)) ?_
  refine jT_loc (LN := [(5, (0, q3)), (4, (0, q4)), (0, (4, 0)), (6, (0, 0))]) (by show List.Nodup [5, 4, 0, 6]; decide) (by intro q hq; simp only [List.mem_cons, List.not_mem_nil, or_false] at hq; rcases hq with rfl | rfl | rfl | rfl <;> rfl) ?_
  refine jHl_fr_44 (y4 := q4) (e1 := 0) (e2 := 0) (e3 := 0) (e4 := 0) (e5 := 0) 20 q3 q5 (by omega) (by omega) (Int.lt_of_le_of_lt (show q3 ≤ (1000000 : Int) by omega) (by decide)) ?_
  have hb_q6 := jsu_b (P := 2) (by decide) (n := 20) (u := q3) (by omega) (by omega)
  generalize hq_q6 : jsu 2 20 q3 = q6 at hb_q6 ⊢
  have hb_q7 := jsc_b (P := 2) (n := 20) (u := q3)
  have hb_q7 : 0 ≤ jsc 2 20 q3 ∧ jsc 2 20 q3 ≤ 20 := ⟨hb_q7.1, by omega⟩
  generalize hq_q7 : jsc 2 20 q3 = q7 at hb_q7 ⊢
  refine jT_xiinc (x := 0) (z := 1) (LN := [(6, (0, 1)), (5, (0, q6)), (4, (0, q4)), (0, (4, 0))]) (pcN := 110) jIH_192_107 rfl rfl (by decide) rfl rfl ?_
  refine jT_xgoto (pcN := 26) jIH_192_110 rfl ?_
  refine jT_xiload (v := (0, 1)) (pcN := 28) jIH_192_26 rfl rfl rfl ?_
  refine jT_xbipush (k := 6) (pcN := 30) jIH_192_28 (by decide) rfl ?_
  refine jT_xicF (t := 113) (pcN := 33) jIH_192_30 rfl (by decide +kernel) rfl rfl ?_
  refine jT_loc (LN := [(4, (0, q4)), (5, (0, q6)), (0, (4, 0)), (6, (0, 1))]) (by show List.Nodup [4, 5, 0, 6]; decide) (by intro q hq; simp only [List.mem_cons, List.not_mem_nil, or_false] at hq; rcases hq with rfl | rfl | rfl | rfl <;> rfl) ?_
  refine jHl_fr_45 (y5 := q6) (e0 := q5 - q7) (e2 := 0) (e3 := 0) (e4 := 0) (e5 := 0) 20 q4 0 (by omega) (by omega) (Int.lt_of_le_of_lt (show q4 ≤ (1000000 : Int) by omega) (by decide)) ?_
  have hb_q8 := jsu_b (P := 3) (by decide) (n := 20) (u := q4) (by omega) (by omega)
  generalize hq_q8 : jsu 3 20 q4 = q8 at hb_q8 g_0 ⊢
  have hb_q9 := jsc_b (P := 3) (n := 20) (u := q4)
  have hb_q9 : 0 ≤ jsc 3 20 q4 ∧ jsc 3 20 q4 ≤ 20 := ⟨hb_q9.1, by omega⟩
  generalize hq_q9 : jsc 3 20 q4 = q9 at hb_q9 ⊢
  refine jT_eq (LN := [(4, (0, q8)), (5, (0, q6)), (0, (4, 0)), (6, (0, 1))]) (stN := []) (hsN := [jzH_20, jgh, jgh, jgh, jgh, jgh, jgh, (101, [], [q5 - q7, q9, 0, 0, 0, 0]), jgh, jgh, jgh, jgh, jgh, jgh, jgh, jgh]) (rfl) (rfl) (by simp only [List.cons.injEq, Prod.mk.injEq, and_true, true_and] <;> ((try unfold jw); (try unfold jwl); omega)) ?_
  refine jT_loc (LN := [(5, (0, q6)), (4, (0, q8)), (0, (4, 0)), (6, (0, 1))]) (by show List.Nodup [5, 4, 0, 6]; decide) (by intro q hq; simp only [List.mem_cons, List.not_mem_nil, or_false] at hq; rcases hq with rfl | rfl | rfl | rfl <;> rfl) ?_
  refine jHl_fr_46 (y4 := q8) (e0 := q5 - q7) (e2 := 0) (e3 := 0) (e4 := 0) (e5 := 0) 20 q6 q9 (by omega) (by omega) (Int.lt_of_le_of_lt (show q6 ≤ (1000000 : Int) by omega) (by decide)) ?_
  have hb_q10 := jsu_b (P := 3) (by decide) (n := 20) (u := q6) (by omega) (by omega)
  generalize hq_q10 : jsu 3 20 q6 = q10 at hb_q10 ⊢
  have hb_q11 := jsc_b (P := 3) (n := 20) (u := q6)
  have hb_q11 : 0 ≤ jsc 3 20 q6 ∧ jsc 3 20 q6 ≤ 20 := ⟨hb_q11.1, by omega⟩
  generalize hq_q11 : jsc 3 20 q6 = q11 at hb_q11 ⊢
  refine jT_eq (LN := [(5, (0, q10)), (4, (0, q8)), (0, (4, 0)), (6, (0, 1))]) (stN := []) (hsN := [jzH_20, jgh, jgh, jgh, jgh, jgh, jgh, (101, [], [q5 - q7, -q11 + q9, 0, 0, 0, 0]), jgh, jgh, jgh, jgh, jgh, jgh, jgh, jgh]) (rfl) (rfl) (by simp only [List.cons.injEq, Prod.mk.injEq, and_true, true_and] <;> ((try unfold jw); (try unfold jwl); omega)) ?_
  refine jT_xiinc (x := 1) (z := 2) (LN := [(6, (0, 2)), (5, (0, q10)), (4, (0, q8)), (0, (4, 0))]) (pcN := 110) jIH_192_107 rfl rfl (by decide) rfl rfl ?_
  refine jT_xgoto (pcN := 26) jIH_192_110 rfl ?_
  refine jT_xiload (v := (0, 2)) (pcN := 28) jIH_192_26 rfl rfl rfl ?_
  refine jT_xbipush (k := 6) (pcN := 30) jIH_192_28 (by decide) rfl ?_
  refine jT_xicF (t := 113) (pcN := 33) jIH_192_30 rfl (by decide +kernel) rfl rfl ?_
  refine jT_loc (LN := [(4, (0, q8)), (5, (0, q10)), (0, (4, 0)), (6, (0, 2))]) (by show List.Nodup [4, 5, 0, 6]; decide) (by intro q hq; simp only [List.mem_cons, List.not_mem_nil, or_false] at hq; rcases hq with rfl | rfl | rfl | rfl <;> rfl) ?_
  refine jHl_fr_47 (y5 := q10) (e0 := q5 - q7) (e1 := -q11 + q9) (e3 := 0) (e4 := 0) (e5 := 0) 20 q8 0 (by omega) (by omega) (Int.lt_of_le_of_lt (show q8 ≤ (1000000 : Int) by omega) (by decide)) ?_
  have hb_q12 := jsu_b (P := 5) (by decide) (n := 20) (u := q8) (by omega) (by omega)
  generalize hq_q12 : jsu 5 20 q8 = q12 at hb_q12 g_0 ⊢
  have hb_q13 := jsc_b (P := 5) (n := 20) (u := q8)
  have hb_q13 : 0 ≤ jsc 5 20 q8 ∧ jsc 5 20 q8 ≤ 20 := ⟨hb_q13.1, by omega⟩
  generalize hq_q13 : jsc 5 20 q8 = q13 at hb_q13 ⊢
  refine jT_eq (LN := [(4, (0, q12)), (5, (0, q10)), (0, (4, 0)), (6, (0, 2))]) (stN := []) (hsN := [jzH_20, jgh, jgh, jgh, jgh, jgh, jgh, (101, [], [q5 - q7, -q11 + q9, q13, 0, 0, 0]), jgh, jgh, jgh, jgh, jgh, jgh, jgh, jgh]) (rfl) (rfl) (by simp only [List.cons.injEq, Prod.mk.injEq, and_true, true_and] <;> ((try unfold jw); (try unfold jwl); omega)) ?_
  refine jT_loc (LN := [(5, (0, q10)), (4, (0, q12)), (0, (4, 0)), (6, (0, 2))]) (by show List.Nodup [5, 4, 0, 6]; decide) (by intro q hq; simp only [List.mem_cons, List.not_mem_nil, or_false] at hq; rcases hq with rfl | rfl | rfl | rfl <;> rfl) ?_
  refine jHl_fr_48 (y4 := q12) (e0 := q5 - q7) (e1 := -q11 + q9) (e3 := 0) (e4 := 0) (e5 := 0) 20 q10 q13 (by omega) (by omega) (Int.lt_of_le_of_lt (show q10 ≤ (1000000 : Int) by omega) (by decide)) ?_
  have hb_q14 := jsu_b (P := 5) (by decide) (n := 20) (u := q10) (by omega) (by omega)
  generalize hq_q14 : jsu 5 20 q10 = q14 at hb_q14 ⊢
  have hb_q15 := jsc_b (P := 5) (n := 20) (u := q10)
  have hb_q15 : 0 ≤ jsc 5 20 q10 ∧ jsc 5 20 q10 ≤ 20 := ⟨hb_q15.1, by omega⟩
  generalize hq_q15 : jsc 5 20 q10 = q15 at hb_q15 ⊢
  refine jT_xiinc (x := 2) (z := 3) (LN := [(6, (0, 3)), (5, (0, q14)), (4, (0, q12)), (0, (4, 0))]) (pcN := 110) jIH_192_107 rfl rfl (by decide) rfl rfl ?_
  refine jT_xgoto (pcN := 26) jIH_192_110 rfl ?_
  refine jT_xiload (v := (0, 3)) (pcN := 28) jIH_192_26 rfl rfl rfl ?_
  refine jT_xbipush (k := 6) (pcN := 30) jIH_192_28 (by decide) rfl ?_
  refine jT_xicF (t := 113) (pcN := 33) jIH_192_30 rfl (by decide +kernel) rfl rfl ?_
  refine jT_loc (LN := [(4, (0, q12)), (5, (0, q14)), (0, (4, 0)), (6, (0, 3))]) (by show List.Nodup [4, 5, 0, 6]; decide) (by intro q hq; simp only [List.mem_cons, List.not_mem_nil, or_false] at hq; rcases hq with rfl | rfl | rfl | rfl <;> rfl) ?_
  refine jHl_fr_49 (y5 := q14) (e0 := q5 - q7) (e1 := -q11 + q9) (e2 := q13 - q15) (e4 := 0) (e5 := 0) 20 q12 0 (by omega) (by omega) (Int.lt_of_le_of_lt (show q12 ≤ (1000000 : Int) by omega) (by decide)) ?_
  have hb_q16 := jsu_b (P := 7) (by decide) (n := 20) (u := q12) (by omega) (by omega)
  generalize hq_q16 : jsu 7 20 q12 = q16 at hb_q16 g_0 ⊢
  have hb_q17 := jsc_b (P := 7) (n := 20) (u := q12)
  have hb_q17 : 0 ≤ jsc 7 20 q12 ∧ jsc 7 20 q12 ≤ 20 := ⟨hb_q17.1, by omega⟩
  generalize hq_q17 : jsc 7 20 q12 = q17 at hb_q17 ⊢
  refine jT_eq (LN := [(4, (0, q16)), (5, (0, q14)), (0, (4, 0)), (6, (0, 3))]) (stN := []) (hsN := [jzH_20, jgh, jgh, jgh, jgh, jgh, jgh, (101, [], [q5 - q7, -q11 + q9, q13 - q15, q17, 0, 0]), jgh, jgh, jgh, jgh, jgh, jgh, jgh, jgh]) (rfl) (rfl) (by simp only [List.cons.injEq, Prod.mk.injEq, and_true, true_and] <;> ((try unfold jw); (try unfold jwl); omega)) ?_
  refine jT_loc (LN := [(5, (0, q14)), (4, (0, q16)), (0, (4, 0)), (6, (0, 3))]) (by show List.Nodup [5, 4, 0, 6]; decide) (by intro q hq; simp only [List.mem_cons, List.not_mem_nil, or_false] at hq; rcases hq with rfl | rfl | rfl | rfl <;> rfl) ?_
  refine jHl_fr_50 (y4 := q16) (e0 := q5 - q7) (e1 := -q11 + q9) (e2 := q13 - q15) (e4 := 0) (e5 := 0) 20 q14 q17 (by omega) (by omega) (Int.lt_of_le_of_lt (show q14 ≤ (1000000 : Int) by omega) (by decide)) ?_
  have hb_q18 := jsu_b (P := 7) (by decide) (n := 20) (u := q14) (by omega) (by omega)
  generalize hq_q18 : jsu 7 20 q14 = q18 at hb_q18 ⊢
  have hb_q19 := jsc_b (P := 7) (n := 20) (u := q14)
  have hb_q19 : 0 ≤ jsc 7 20 q14 ∧ jsc 7 20 q14 ≤ 20 := ⟨hb_q19.1, by omega⟩
  generalize hq_q19 : jsc 7 20 q14 = q19 at hb_q19 ⊢
  refine jT_xiinc (x := 3) (z := 4) (LN := [(6, (0, 4)), (5, (0, q18)), (4, (0, q16)), (0, (4, 0))]) (pcN := 110) jIH_192_107 rfl rfl (by decide) rfl rfl ?_
  refine jT_xgoto (pcN := 26) jIH_192_110 rfl ?_
  refine jT_xiload (v := (0, 4)) (pcN := 28) jIH_192_26 rfl rfl rfl ?_
  refine jT_xbipush (k := 6) (pcN := 30) jIH_192_28 (by decide) rfl ?_
  refine jT_xicF (t := 113) (pcN := 33) jIH_192_30 rfl (by decide +kernel) rfl rfl ?_
  refine jT_loc (LN := [(4, (0, q16)), (5, (0, q18)), (0, (4, 0)), (6, (0, 4))]) (by show List.Nodup [4, 5, 0, 6]; decide) (by intro q hq; simp only [List.mem_cons, List.not_mem_nil, or_false] at hq; rcases hq with rfl | rfl | rfl | rfl <;> rfl) ?_
  refine jHl_fr_51 (y5 := q18) (e0 := q5 - q7) (e1 := -q11 + q9) (e2 := q13 - q15) (e3 := q17 - q19) (e5 := 0) 20 q16 0 (by omega) (by omega) (Int.lt_of_le_of_lt (show q16 ≤ (1000000 : Int) by omega) (by decide)) ?_
  have hb_q20 := jsu_b (P := 11) (by decide) (n := 20) (u := q16) (by omega) (by omega)
  generalize hq_q20 : jsu 11 20 q16 = q20 at hb_q20 g_0 ⊢
  have hb_q21 := jsc_b (P := 11) (n := 20) (u := q16)
  have hb_q21 : 0 ≤ jsc 11 20 q16 ∧ jsc 11 20 q16 ≤ 20 := ⟨hb_q21.1, by omega⟩
  generalize hq_q21 : jsc 11 20 q16 = q21 at hb_q21 ⊢
  refine jT_eq (LN := [(4, (0, q20)), (5, (0, q18)), (0, (4, 0)), (6, (0, 4))]) (stN := []) (hsN := [jzH_20, jgh, jgh, jgh, jgh, jgh, jgh, (101, [], [q5 - q7, -q11 + q9, q13 - q15, q17 - q19, q21, 0]), jgh, jgh, jgh, jgh, jgh, jgh, jgh, jgh]) (rfl) (rfl) (by simp only [List.cons.injEq, Prod.mk.injEq, and_true, true_and] <;> ((try unfold jw); (try unfold jwl); omega)) ?_
  refine jT_loc (LN := [(5, (0, q18)), (4, (0, q20)), (0, (4, 0)), (6, (0, 4))]) (by show List.Nodup [5, 4, 0, 6]; decide) (by intro q hq; simp only [List.mem_cons, List.not_mem_nil, or_false] at hq; rcases hq with rfl | rfl | rfl | rfl <;> rfl) ?_
  refine jHl_fr_52 (y4 := q20) (e0 := q5 - q7) (e1 := -q11 + q9) (e2 := q13 - q15) (e3 := q17 - q19) (e5 := 0) 20 q18 q21 (by omega) (by omega) (Int.lt_of_le_of_lt (show q18 ≤ (1000000 : Int) by omega) (by decide)) ?_
  have hb_q22 := jsu_b (P := 11) (by decide) (n := 20) (u := q18) (by omega) (by omega)
  generalize hq_q22 : jsu 11 20 q18 = q22 at hb_q22 ⊢
  have hb_q23 := jsc_b (P := 11) (n := 20) (u := q18)
  have hb_q23 : 0 ≤ jsc 11 20 q18 ∧ jsc 11 20 q18 ≤ 20 := ⟨hb_q23.1, by omega⟩
  generalize hq_q23 : jsc 11 20 q18 = q23 at hb_q23 ⊢
  refine jT_xiinc (x := 4) (z := 5) (LN := [(6, (0, 5)), (5, (0, q22)), (4, (0, q20)), (0, (4, 0))]) (pcN := 110) jIH_192_107 rfl rfl (by decide) rfl rfl ?_
  refine jT_xgoto (pcN := 26) jIH_192_110 rfl ?_
  refine jT_xiload (v := (0, 5)) (pcN := 28) jIH_192_26 rfl rfl rfl ?_
  refine jT_xbipush (k := 6) (pcN := 30) jIH_192_28 (by decide) rfl ?_
  refine jT_xicF (t := 113) (pcN := 33) jIH_192_30 rfl (by decide +kernel) rfl rfl ?_
  refine jT_loc (LN := [(4, (0, q20)), (5, (0, q22)), (0, (4, 0)), (6, (0, 5))]) (by show List.Nodup [4, 5, 0, 6]; decide) (by intro q hq; simp only [List.mem_cons, List.not_mem_nil, or_false] at hq; rcases hq with rfl | rfl | rfl | rfl <;> rfl) ?_
  refine jHl_fr_53 (y5 := q22) (e0 := q5 - q7) (e1 := -q11 + q9) (e2 := q13 - q15) (e3 := q17 - q19) (e4 := q21 - q23) 20 q20 0 (by omega) (by omega) (Int.lt_of_le_of_lt (show q20 ≤ (1000000 : Int) by omega) (by decide)) ?_
  have hb_q24 := jsu_b (P := 13) (by decide) (n := 20) (u := q20) (by omega) (by omega)
  generalize hq_q24 : jsu 13 20 q20 = q24 at hb_q24 g_0 ⊢
  have hb_q25 := jsc_b (P := 13) (n := 20) (u := q20)
  have hb_q25 : 0 ≤ jsc 13 20 q20 ∧ jsc 13 20 q20 ≤ 20 := ⟨hb_q25.1, by omega⟩
  generalize hq_q25 : jsc 13 20 q20 = q25 at hb_q25 ⊢
  refine jT_eq (LN := [(4, (0, q24)), (5, (0, q22)), (0, (4, 0)), (6, (0, 5))]) (stN := []) (hsN := [jzH_20, jgh, jgh, jgh, jgh, jgh, jgh, (101, [], [q5 - q7, -q11 + q9, q13 - q15, q17 - q19, q21 - q23, q25]), jgh, jgh, jgh, jgh, jgh, jgh, jgh, jgh]) (rfl) (rfl) (by simp only [List.cons.injEq, Prod.mk.injEq, and_true, true_and] <;> ((try unfold jw); (try unfold jwl); omega)) ?_
  refine jT_loc (LN := [(5, (0, q22)), (4, (0, q24)), (0, (4, 0)), (6, (0, 5))]) (by show List.Nodup [5, 4, 0, 6]; decide) (by intro q hq; simp only [List.mem_cons, List.not_mem_nil, or_false] at hq; rcases hq with rfl | rfl | rfl | rfl <;> rfl) ?_
  refine jHl_fr_54 (y4 := q24) (e0 := q5 - q7) (e1 := -q11 + q9) (e2 := q13 - q15) (e3 := q17 - q19) (e4 := q21 - q23) 20 q22 q25 (by omega) (by omega) (Int.lt_of_le_of_lt (show q22 ≤ (1000000 : Int) by omega) (by decide)) ?_
  have hb_q26 := jsu_b (P := 13) (by decide) (n := 20) (u := q22) (by omega) (by omega)
  generalize hq_q26 : jsu 13 20 q22 = q26 at hb_q26 ⊢
  have hb_q27 := jsc_b (P := 13) (n := 20) (u := q22)
  have hb_q27 : 0 ≤ jsc 13 20 q22 ∧ jsc 13 20 q22 ≤ 20 := ⟨hb_q27.1, by omega⟩
  generalize hq_q27 : jsc 13 20 q22 = q27 at hb_q27 ⊢
  refine jT_xiinc (x := 5) (z := 6) (LN := [(6, (0, 6)), (5, (0, q26)), (4, (0, q24)), (0, (4, 0))]) (pcN := 110) jIH_192_107 rfl rfl (by decide) rfl rfl ?_
  refine jT_xgoto (pcN := 26) jIH_192_110 rfl ?_
  refine jT_xiload (v := (0, 6)) (pcN := 28) jIH_192_26 rfl rfl rfl ?_
  refine jT_xbipush (k := 6) (pcN := 30) jIH_192_28 (by decide) rfl ?_
  refine jT_xicT (pcN := 113) jIH_192_30 rfl (by decide +kernel) rfl ?_
  refine jT_xiload (v := (0, q24)) (pcN := 115) jIH_192_113 rfl rfl rfl ?_
  refine jT_xiconst (k := 1) (pcN := 116) jIH_192_115 rfl ?_
  refine jT_icT (a := q24) (b := 1) (t := 129) (by rfl) (by rfl) (by rfl) (jw_idd (by omega) (by omega)) (jw_idd (by omega) (by omega)) (by simp only [jcP] <;> omega) ?_
  refine jT_xiconst (k := 0) (pcN := 130) jIH_192_129 rfl ?_
  subst hq_q27
  subst hq_q26
  subst hq_q25
  subst hq_q24
  subst hq_q23
  subst hq_q22
  subst hq_q21
  subst hq_q20
  subst hq_q19
  subst hq_q18
  subst hq_q17
  subst hq_q16
  subst hq_q15
  subst hq_q14
  subst hq_q13
  subst hq_q12
  subst hq_q11
  subst hq_q10
  subst hq_q9
  subst hq_q8
  subst hq_q7
  subst hq_q6
  subst hq_q5
  subst hq_q4
  subst hq_q3
  subst hq_q2
  subst hq_q1
  exact jT_ret rfl (by decide) (by show 16 ≤ 16; omega) (by omega) (by omega) ⟨rfl, rfl, rfl⟩
def jzH_185 : JC := (14, [(0, 3), (4, 1), (4, 2), (4, 3), (4, 4), (0, 0), (4, 5), (0, 0), (4, 6), (4, 7), (1, 1), (4, 8), (0, 0), (4, 9), (0, 0), (0, 0), (0, 0), (0, 0), (0, 0), (0, 0), (0, 0), (4, 10), (4, 11), (4, 12), (4, 13), (4, 14), (4, 15), (0, 0)], [])
def jpH_186 : List JC := [jzH_185, jgh, jgh, jgh, jgh, jgh, jgh, jgh, jgh, jgh, jgh, jgh, jgh, jgh, jgh, jgh]
theorem jH_191_56 {xs : List Int} {d : Nat} : jT xs d 191 16 0 [(0, (4, 0)), (1, (0, 0)), (2, (0, 3))] [] jpH_21 0 0 (fun k v hsN => k = 0 ∧ v = (0, 1) ∧ hsN = jpH_186) := by
  refine jT_advK 9 (pcN := 18) (LN := [(0, (4, 0)), (1, (0, 0)), (2, (0, 3))]) (stN := [(0, 1)]) (hsN := jpH_186) (c1 := 0) (s1 := 0) (c2 := 0) (s2 := 0) (by decide +kernel) ?_ (by omega) (by omega)
  exact jT_ret rfl (by decide) (by show 16 ≤ 16; omega) (by omega) (by omega) ⟨rfl, rfl, rfl⟩
theorem jIH_187_36 : jmI (jm 187) 36 = (.iconst 1, 1) := by rfl
theorem jIH_187_37 : jmI (jm 187) 37 = (.goto 4, 3) := by rfl
theorem jIH_187_48 : jmI (jm 187) 48 = (.aload_n 0, 1) := by rfl
theorem jIH_187_49 : jmI (jm 187) 49 = (.aload_n 0, 1) := by rfl
theorem jIH_187_50 : jmI (jm 187) 50 = (.iload_n 2, 1) := by rfl
theorem jIH_187_51 : jmI (jm 187) 51 = (.iload_n 3, 1) := by rfl
theorem jIH_187_55 : jmI (jm 187) 55 = (.iconst 3, 1) := by rfl
theorem jIH_187_59 : jmI (jm 187) 59 = (.ifCond .eq 5, 3) := by rfl
theorem jH_187_57 {xs : List Int} {d : Nat} {x1 x2 x3 : Int} (h_x1 : 0 ≤ x1 ∧ x1 ≤ 7) (h_x2 : 1 ≤ x2 ∧ x2 ≤ 1000000) (h_x3 : 1 ≤ x3 ∧ x3 ≤ 1000000) (g_0 : 0 ≤ (jsu 13 20 (jsu 11 20 (jsu 7 20 (jsu 5 20 (jsu 3 20 (jsu 2 20 (x2.tdiv (((Nat.gcd (x2).natAbs (x3).natAbs : Nat) : Int))))))))) - 2) : jT xs (d + 43) 187 16 0 [(0, (4, 0)), (1, (0, x1)), (2, (0, x2)), (3, (0, x3))] [] jpH_134 0 0 (fun k v hsN => k = 0 ∧ v = (0, 0) ∧ hsN = [jzH_185, jgh, jgh, jgh, jgh, jgh, jgh, (101, [], [(jsc 2 20 (x2.tdiv (((Nat.gcd (x2).natAbs (x3).natAbs : Nat) : Int)))) - (jsc 2 20 (x3.tdiv (((Nat.gcd (x2).natAbs (x3).natAbs : Nat) : Int)))), (jsc 3 20 (jsu 2 20 (x2.tdiv (((Nat.gcd (x2).natAbs (x3).natAbs : Nat) : Int))))) - (jsc 3 20 (jsu 2 20 (x3.tdiv (((Nat.gcd (x2).natAbs (x3).natAbs : Nat) : Int))))), (jsc 5 20 (jsu 3 20 (jsu 2 20 (x2.tdiv (((Nat.gcd (x2).natAbs (x3).natAbs : Nat) : Int)))))) - (jsc 5 20 (jsu 3 20 (jsu 2 20 (x3.tdiv (((Nat.gcd (x2).natAbs (x3).natAbs : Nat) : Int)))))), (jsc 7 20 (jsu 5 20 (jsu 3 20 (jsu 2 20 (x2.tdiv (((Nat.gcd (x2).natAbs (x3).natAbs : Nat) : Int))))))) - (jsc 7 20 (jsu 5 20 (jsu 3 20 (jsu 2 20 (x3.tdiv (((Nat.gcd (x2).natAbs (x3).natAbs : Nat) : Int))))))), -(jsc 11 20 (jsu 7 20 (jsu 5 20 (jsu 3 20 (jsu 2 20 (x3.tdiv (((Nat.gcd (x2).natAbs (x3).natAbs : Nat) : Int)))))))) + (jsc 11 20 (jsu 7 20 (jsu 5 20 (jsu 3 20 (jsu 2 20 (x2.tdiv (((Nat.gcd (x2).natAbs (x3).natAbs : Nat) : Int)))))))), (jsc 13 20 (jsu 11 20 (jsu 7 20 (jsu 5 20 (jsu 3 20 (jsu 2 20 (x2.tdiv (((Nat.gcd (x2).natAbs (x3).natAbs : Nat) : Int))))))))) - (jsc 13 20 (jsu 11 20 (jsu 7 20 (jsu 5 20 (jsu 3 20 (jsu 2 20 (x3.tdiv (((Nat.gcd (x2).natAbs (x3).natAbs : Nat) : Int)))))))))]), jgh, jgh, jgh, jgh, jgh, jgh, jgh, jgh]) := by
  refine jT_xaload_n (v := (4, 0)) (pcN := 1) jIH_187_0 rfl rfl rfl ?_
  refine jT_xiload_n (v := (0, x1)) (pcN := 2) jIH_187_1 rfl rfl rfl ?_
  refine jT_fR [] 16 (y := 188) (pcN := 5) (dC := 1) (bc1 := 0) (bc2 := 0) (c1 := 0) (c2 := 0) (as := [(0, x1)]) (asC := [(0, x1)]) (LN := [(0, (4, 0)), (1, (0, x1)), (2, (0, x2)), (3, (0, x3))]) (stN := [(4, 0)]) (hsC := []) (v := (0, 1)) (st2 := [(0, 1), (4, 0)]) (jH_188_13 (d := 0) (by omega)) (by rfl) (by rfl) (by decide +kernel) (by rfl) (by rfl) (by omega) (by omega) (by omega) (by omega) rfl ?_
  refine jT_fR [0, 1, 2, 3, 4, 5, 6, 7, 8, 9, 10, 11, 12, 13, 14, 15] 16 (y := 190) (pcN := 8) (dC := 1) (bc1 := 0) (bc2 := 0) (c1 := 0) (c2 := 0) (as := [(4, 0), (0, 1)]) (asC := [(4, 0), (0, 1)]) (LN := [(0, (4, 0)), (1, (0, x1)), (2, (0, x2)), (3, (0, x3))]) (stN := []) (hsC := jpH_21) (v := (0, 0)) (st2 := [(0, 0)]) (jH_190_15 (d := 0)) (by rfl) (by rfl) (by decide +kernel) (by rfl) (by rfl) (by omega) (by omega) (by omega) (by omega) rfl ?_
  refine jT_xifF (t := 62) (pcN := 11) jIH_187_8 rfl (by decide +kernel) rfl rfl ?_
  refine jT_xaload_n (v := (4, 0)) (pcN := 12) jIH_187_11 rfl rfl rfl ?_
  refine jT_xiload_n (v := (0, x2)) (pcN := 13) jIH_187_12 rfl rfl rfl ?_
  refine jT_xi2l (x := x2) (z := x2) (pcN := 14) jIH_187_13 rfl (jw_idd (by omega) (by omega)) rfl ?_
  refine jT_xlconst (z := 1) (pcN := 15) jIH_187_14 rfl rfl ?_
  refine jT_adv 1 (pcN := 18) (LN := [(0, (4, 0)), (1, (0, x1)), (2, (0, x2)), (3, (0, x3))]) (stN := [(1, 1000000), (1, 1), (1, x2), (4, 0)]) (hsN := jpH_134) (c1 := 0) (s1 := 0) (c2 := 0) (s2 := 0) (by exact rfl) ?_ (by omega) (by omega)
  refine jT_fR [] 16 (y := 189) (pcN := 21) (dC := 0) (bc1 := 0) (bc2 := 0) (c1 := 0) (c2 := 0) (as := [(1, x2), (1, 1), (1, 1000000)]) (asC := [(1, x2), (1, 1), (1, 1000000)]) (LN := [(0, (4, 0)), (1, (0, x1)), (2, (0, x2)), (3, (0, x3))]) (stN := [(4, 0)]) (hsC := []) (v := (0, 1)) (st2 := [(0, 1), (4, 0)]) (jT_in_ok (d := 0) (v := x2) (lo := 1) (hi := 1000000) (by omega) (by omega) (by omega) (by omega) (by omega)) (by rfl) (by rfl) (by decide +kernel) (by rfl) (by rfl) (by omega) (by omega) (by omega) (by omega) rfl ?_
  refine jT_xifF (t := 40) (pcN := 24) jIH_187_21 rfl (by decide +kernel) rfl rfl ?_
  refine jT_xiload_n (v := (0, x3)) (pcN := 25) jIH_187_24 rfl rfl rfl ?_
  refine jT_xi2l (x := x3) (z := x3) (pcN := 26) jIH_187_25 rfl (jw_idd (by omega) (by omega)) rfl ?_
  refine jT_xlconst (z := 1) (pcN := 27) jIH_187_26 rfl rfl ?_
  refine jT_adv 1 (pcN := 30) (LN := [(0, (4, 0)), (1, (0, x1)), (2, (0, x2)), (3, (0, x3))]) (stN := [(1, 1000000), (1, 1), (1, x3), (4, 0)]) (hsN := jpH_134) (c1 := 0) (s1 := 0) (c2 := 0) (s2 := 0) (by exact rfl) ?_ (by omega) (by omega)
  refine jT_fR [] 16 (y := 189) (pcN := 33) (dC := 0) (bc1 := 0) (bc2 := 0) (c1 := 0) (c2 := 0) (as := [(1, x3), (1, 1), (1, 1000000)]) (asC := [(1, x3), (1, 1), (1, 1000000)]) (LN := [(0, (4, 0)), (1, (0, x1)), (2, (0, x2)), (3, (0, x3))]) (stN := [(4, 0)]) (hsC := []) (v := (0, 1)) (st2 := [(0, 1), (4, 0)]) (jT_in_ok (d := 0) (v := x3) (lo := 1) (hi := 1000000) (by omega) (by omega) (by omega) (by omega) (by omega)) (by rfl) (by rfl) (by decide +kernel) (by rfl) (by rfl) (by omega) (by omega) (by omega) (by omega) rfl ?_
  refine jT_xifF (t := 40) (pcN := 36) jIH_187_33 rfl (by decide +kernel) rfl rfl ?_
  refine jT_xiconst (k := 1) (pcN := 37) jIH_187_36 rfl ?_
  refine jT_xgoto (pcN := 41) jIH_187_37 rfl ?_
  refine jT_xiconst (k := 2) (pcN := 42) jIH_187_41 rfl ?_
  refine jT_fR [0] 16 (y := 191) (pcN := 45) (dC := 0) (bc1 := 0) (bc2 := 0) (c1 := 0) (c2 := 0) (as := [(4, 0), (0, 1), (0, 2)]) (asC := [(4, 0), (0, 1), (0, 2)]) (LN := [(0, (4, 0)), (1, (0, x1)), (2, (0, x2)), (3, (0, x3))]) (stN := []) (hsC := [jgh]) (v := (0, 0)) (st2 := [(0, 0)]) (jH_191_41 (d := 0)) (by rfl) (by rfl) (by decide +kernel) (by rfl) (by rfl) (by omega) (by omega) (by omega) (by omega) rfl ?_
  refine jT_xifF (t := 62) (pcN := 48) jIH_187_45 rfl (by decide +kernel) rfl rfl ?_
  refine jT_xaload_n (v := (4, 0)) (pcN := 49) jIH_187_48 rfl rfl rfl ?_
  refine jT_xaload_n (v := (4, 0)) (pcN := 50) jIH_187_49 rfl rfl rfl ?_
  refine jT_xiload_n (v := (0, x2)) (pcN := 51) jIH_187_50 rfl rfl rfl ?_
  refine jT_xiload_n (v := (0, x3)) (pcN := 52) jIH_187_51 rfl rfl rfl ?_
  refine jT_fB [0, 1, 2, 3, 4, 5, 6, 7, 8, 9, 10, 11, 12, 13, 14, 15] 16 (y := 192) (pcN := 55) (dC := 42) (bc1 := 0) (bc2 := 0) (c1 := 0) (c2 := 0) (as := [(4, 0), (0, x2), (0, x3)]) (asC := [(4, 0), (0, x2), (0, x3)]) (LN := [(0, (4, 0)), (1, (0, x1)), (2, (0, x2)), (3, (0, x3))]) (stN := [(4, 0)]) (hsC := jpH_134) (hsD := [jzH_20, jgh, jgh, jgh, jgh, jgh, jgh, (101, [], [(jsc 2 20 (x2.tdiv (((Nat.gcd (x2).natAbs (x3).natAbs : Nat) : Int)))) - (jsc 2 20 (x3.tdiv (((Nat.gcd (x2).natAbs (x3).natAbs : Nat) : Int)))), -(jsc 3 20 (jsu 2 20 (x3.tdiv (((Nat.gcd (x2).natAbs (x3).natAbs : Nat) : Int))))) + (jsc 3 20 (jsu 2 20 (x2.tdiv (((Nat.gcd (x2).natAbs (x3).natAbs : Nat) : Int))))), (jsc 5 20 (jsu 3 20 (jsu 2 20 (x2.tdiv (((Nat.gcd (x2).natAbs (x3).natAbs : Nat) : Int)))))) - (jsc 5 20 (jsu 3 20 (jsu 2 20 (x3.tdiv (((Nat.gcd (x2).natAbs (x3).natAbs : Nat) : Int)))))), (jsc 7 20 (jsu 5 20 (jsu 3 20 (jsu 2 20 (x2.tdiv (((Nat.gcd (x2).natAbs (x3).natAbs : Nat) : Int))))))) - (jsc 7 20 (jsu 5 20 (jsu 3 20 (jsu 2 20 (x3.tdiv (((Nat.gcd (x2).natAbs (x3).natAbs : Nat) : Int))))))), (jsc 11 20 (jsu 7 20 (jsu 5 20 (jsu 3 20 (jsu 2 20 (x2.tdiv (((Nat.gcd (x2).natAbs (x3).natAbs : Nat) : Int)))))))) - (jsc 11 20 (jsu 7 20 (jsu 5 20 (jsu 3 20 (jsu 2 20 (x3.tdiv (((Nat.gcd (x2).natAbs (x3).natAbs : Nat) : Int)))))))), (jsc 13 20 (jsu 11 20 (jsu 7 20 (jsu 5 20 (jsu 3 20 (jsu 2 20 (x2.tdiv (((Nat.gcd (x2).natAbs (x3).natAbs : Nat) : Int))))))))) - (jsc 13 20 (jsu 11 20 (jsu 7 20 (jsu 5 20 (jsu 3 20 (jsu 2 20 (x3.tdiv (((Nat.gcd (x2).natAbs (x3).natAbs : Nat) : Int)))))))))]), jgh, jgh, jgh, jgh, jgh, jgh, jgh, jgh]) (v := (0, 0)) (st2 := [(0, 0), (4, 0)]) (hs2 := [jzH_20, jgh, jgh, jgh, jgh, jgh, jgh, (101, [], [(jsc 2 20 (x2.tdiv (((Nat.gcd (x2).natAbs (x3).natAbs : Nat) : Int)))) - (jsc 2 20 (x3.tdiv (((Nat.gcd (x2).natAbs (x3).natAbs : Nat) : Int)))), -(jsc 3 20 (jsu 2 20 (x3.tdiv (((Nat.gcd (x2).natAbs (x3).natAbs : Nat) : Int))))) + (jsc 3 20 (jsu 2 20 (x2.tdiv (((Nat.gcd (x2).natAbs (x3).natAbs : Nat) : Int))))), (jsc 5 20 (jsu 3 20 (jsu 2 20 (x2.tdiv (((Nat.gcd (x2).natAbs (x3).natAbs : Nat) : Int)))))) - (jsc 5 20 (jsu 3 20 (jsu 2 20 (x3.tdiv (((Nat.gcd (x2).natAbs (x3).natAbs : Nat) : Int)))))), (jsc 7 20 (jsu 5 20 (jsu 3 20 (jsu 2 20 (x2.tdiv (((Nat.gcd (x2).natAbs (x3).natAbs : Nat) : Int))))))) - (jsc 7 20 (jsu 5 20 (jsu 3 20 (jsu 2 20 (x3.tdiv (((Nat.gcd (x2).natAbs (x3).natAbs : Nat) : Int))))))), (jsc 11 20 (jsu 7 20 (jsu 5 20 (jsu 3 20 (jsu 2 20 (x2.tdiv (((Nat.gcd (x2).natAbs (x3).natAbs : Nat) : Int)))))))) - (jsc 11 20 (jsu 7 20 (jsu 5 20 (jsu 3 20 (jsu 2 20 (x3.tdiv (((Nat.gcd (x2).natAbs (x3).natAbs : Nat) : Int)))))))), (jsc 13 20 (jsu 11 20 (jsu 7 20 (jsu 5 20 (jsu 3 20 (jsu 2 20 (x2.tdiv (((Nat.gcd (x2).natAbs (x3).natAbs : Nat) : Int))))))))) - (jsc 13 20 (jsu 11 20 (jsu 7 20 (jsu 5 20 (jsu 3 20 (jsu 2 20 (x3.tdiv (((Nat.gcd (x2).natAbs (x3).natAbs : Nat) : Int)))))))))]), jgh, jgh, jgh, jgh, jgh, jgh, jgh, jgh]) (jH_192_55 (d := 0) (by omega) (by omega) (by omega)) (by rfl) (by rfl) (by decide +kernel) (by rfl) (by rfl) (by omega) (by omega) (by omega) (by omega) rfl rfl ?_
  have hb_q1 := jsc_b (P := 2) (n := 20) (u := (x2.tdiv (((Nat.gcd (x2).natAbs (x3).natAbs : Nat) : Int))))
  have hb_q1 : 0 ≤ jsc 2 20 (x2.tdiv (((Nat.gcd (x2).natAbs (x3).natAbs : Nat) : Int))) ∧ jsc 2 20 (x2.tdiv (((Nat.gcd (x2).natAbs (x3).natAbs : Nat) : Int))) ≤ 20 := ⟨hb_q1.1, by omega⟩
  generalize hq_q1 : jsc 2 20 (x2.tdiv (((Nat.gcd (x2).natAbs (x3).natAbs : Nat) : Int))) = q1 at hb_q1 ⊢
  have hb_q2 := jsc_b (P := 2) (n := 20) (u := (x3.tdiv (((Nat.gcd (x2).natAbs (x3).natAbs : Nat) : Int))))
  have hb_q2 : 0 ≤ jsc 2 20 (x3.tdiv (((Nat.gcd (x2).natAbs (x3).natAbs : Nat) : Int))) ∧ jsc 2 20 (x3.tdiv (((Nat.gcd (x2).natAbs (x3).natAbs : Nat) : Int))) ≤ 20 := ⟨hb_q2.1, by omega⟩
  generalize hq_q2 : jsc 2 20 (x3.tdiv (((Nat.gcd (x2).natAbs (x3).natAbs : Nat) : Int))) = q2 at hb_q2 ⊢
  have hb_q3 := jsc_b (P := 3) (n := 20) (u := (jsu 2 20 (x2.tdiv (((Nat.gcd (x2).natAbs (x3).natAbs : Nat) : Int)))))
  have hb_q3 : 0 ≤ jsc 3 20 (jsu 2 20 (x2.tdiv (((Nat.gcd (x2).natAbs (x3).natAbs : Nat) : Int)))) ∧ jsc 3 20 (jsu 2 20 (x2.tdiv (((Nat.gcd (x2).natAbs (x3).natAbs : Nat) : Int)))) ≤ 20 := ⟨hb_q3.1, by omega⟩
  generalize hq_q3 : jsc 3 20 (jsu 2 20 (x2.tdiv (((Nat.gcd (x2).natAbs (x3).natAbs : Nat) : Int)))) = q3 at hb_q3 ⊢
  have hb_q4 := jsc_b (P := 3) (n := 20) (u := (jsu 2 20 (x3.tdiv (((Nat.gcd (x2).natAbs (x3).natAbs : Nat) : Int)))))
  have hb_q4 : 0 ≤ jsc 3 20 (jsu 2 20 (x3.tdiv (((Nat.gcd (x2).natAbs (x3).natAbs : Nat) : Int)))) ∧ jsc 3 20 (jsu 2 20 (x3.tdiv (((Nat.gcd (x2).natAbs (x3).natAbs : Nat) : Int)))) ≤ 20 := ⟨hb_q4.1, by omega⟩
  generalize hq_q4 : jsc 3 20 (jsu 2 20 (x3.tdiv (((Nat.gcd (x2).natAbs (x3).natAbs : Nat) : Int)))) = q4 at hb_q4 ⊢
  have hb_q5 := jsc_b (P := 5) (n := 20) (u := (jsu 3 20 (jsu 2 20 (x2.tdiv (((Nat.gcd (x2).natAbs (x3).natAbs : Nat) : Int))))))
  have hb_q5 : 0 ≤ jsc 5 20 (jsu 3 20 (jsu 2 20 (x2.tdiv (((Nat.gcd (x2).natAbs (x3).natAbs : Nat) : Int))))) ∧ jsc 5 20 (jsu 3 20 (jsu 2 20 (x2.tdiv (((Nat.gcd (x2).natAbs (x3).natAbs : Nat) : Int))))) ≤ 20 := ⟨hb_q5.1, by omega⟩
  generalize hq_q5 : jsc 5 20 (jsu 3 20 (jsu 2 20 (x2.tdiv (((Nat.gcd (x2).natAbs (x3).natAbs : Nat) : Int))))) = q5 at hb_q5 ⊢
  have hb_q6 := jsc_b (P := 5) (n := 20) (u := (jsu 3 20 (jsu 2 20 (x3.tdiv (((Nat.gcd (x2).natAbs (x3).natAbs : Nat) : Int))))))
  have hb_q6 : 0 ≤ jsc 5 20 (jsu 3 20 (jsu 2 20 (x3.tdiv (((Nat.gcd (x2).natAbs (x3).natAbs : Nat) : Int))))) ∧ jsc 5 20 (jsu 3 20 (jsu 2 20 (x3.tdiv (((Nat.gcd (x2).natAbs (x3).natAbs : Nat) : Int))))) ≤ 20 := ⟨hb_q6.1, by omega⟩
  generalize hq_q6 : jsc 5 20 (jsu 3 20 (jsu 2 20 (x3.tdiv (((Nat.gcd (x2).natAbs (x3).natAbs : Nat) : Int))))) = q6 at hb_q6 ⊢
  have hb_q7 := jsc_b (P := 7) (n := 20) (u := (jsu 5 20 (jsu 3 20 (jsu 2 20 (x2.tdiv (((Nat.gcd (x2).natAbs (x3).natAbs : Nat) : Int)))))))
  have hb_q7 : 0 ≤ jsc 7 20 (jsu 5 20 (jsu 3 20 (jsu 2 20 (x2.tdiv (((Nat.gcd (x2).natAbs (x3).natAbs : Nat) : Int)))))) ∧ jsc 7 20 (jsu 5 20 (jsu 3 20 (jsu 2 20 (x2.tdiv (((Nat.gcd (x2).natAbs (x3).natAbs : Nat) : Int)))))) ≤ 20 := ⟨hb_q7.1, by omega⟩
  generalize hq_q7 : jsc 7 20 (jsu 5 20 (jsu 3 20 (jsu 2 20 (x2.tdiv (((Nat.gcd (x2).natAbs (x3).natAbs : Nat) : Int)))))) = q7 at hb_q7 ⊢
  have hb_q8 := jsc_b (P := 7) (n := 20) (u := (jsu 5 20 (jsu 3 20 (jsu 2 20 (x3.tdiv (((Nat.gcd (x2).natAbs (x3).natAbs : Nat) : Int)))))))
  have hb_q8 : 0 ≤ jsc 7 20 (jsu 5 20 (jsu 3 20 (jsu 2 20 (x3.tdiv (((Nat.gcd (x2).natAbs (x3).natAbs : Nat) : Int)))))) ∧ jsc 7 20 (jsu 5 20 (jsu 3 20 (jsu 2 20 (x3.tdiv (((Nat.gcd (x2).natAbs (x3).natAbs : Nat) : Int)))))) ≤ 20 := ⟨hb_q8.1, by omega⟩
  generalize hq_q8 : jsc 7 20 (jsu 5 20 (jsu 3 20 (jsu 2 20 (x3.tdiv (((Nat.gcd (x2).natAbs (x3).natAbs : Nat) : Int)))))) = q8 at hb_q8 ⊢
  have hb_q9 := jsc_b (P := 11) (n := 20) (u := (jsu 7 20 (jsu 5 20 (jsu 3 20 (jsu 2 20 (x2.tdiv (((Nat.gcd (x2).natAbs (x3).natAbs : Nat) : Int))))))))
  have hb_q9 : 0 ≤ jsc 11 20 (jsu 7 20 (jsu 5 20 (jsu 3 20 (jsu 2 20 (x2.tdiv (((Nat.gcd (x2).natAbs (x3).natAbs : Nat) : Int))))))) ∧ jsc 11 20 (jsu 7 20 (jsu 5 20 (jsu 3 20 (jsu 2 20 (x2.tdiv (((Nat.gcd (x2).natAbs (x3).natAbs : Nat) : Int))))))) ≤ 20 := ⟨hb_q9.1, by omega⟩
  generalize hq_q9 : jsc 11 20 (jsu 7 20 (jsu 5 20 (jsu 3 20 (jsu 2 20 (x2.tdiv (((Nat.gcd (x2).natAbs (x3).natAbs : Nat) : Int))))))) = q9 at hb_q9 ⊢
  have hb_q10 := jsc_b (P := 11) (n := 20) (u := (jsu 7 20 (jsu 5 20 (jsu 3 20 (jsu 2 20 (x3.tdiv (((Nat.gcd (x2).natAbs (x3).natAbs : Nat) : Int))))))))
  have hb_q10 : 0 ≤ jsc 11 20 (jsu 7 20 (jsu 5 20 (jsu 3 20 (jsu 2 20 (x3.tdiv (((Nat.gcd (x2).natAbs (x3).natAbs : Nat) : Int))))))) ∧ jsc 11 20 (jsu 7 20 (jsu 5 20 (jsu 3 20 (jsu 2 20 (x3.tdiv (((Nat.gcd (x2).natAbs (x3).natAbs : Nat) : Int))))))) ≤ 20 := ⟨hb_q10.1, by omega⟩
  generalize hq_q10 : jsc 11 20 (jsu 7 20 (jsu 5 20 (jsu 3 20 (jsu 2 20 (x3.tdiv (((Nat.gcd (x2).natAbs (x3).natAbs : Nat) : Int))))))) = q10 at hb_q10 ⊢
  have hb_q11 := jsc_b (P := 13) (n := 20) (u := (jsu 11 20 (jsu 7 20 (jsu 5 20 (jsu 3 20 (jsu 2 20 (x2.tdiv (((Nat.gcd (x2).natAbs (x3).natAbs : Nat) : Int)))))))))
  have hb_q11 : 0 ≤ jsc 13 20 (jsu 11 20 (jsu 7 20 (jsu 5 20 (jsu 3 20 (jsu 2 20 (x2.tdiv (((Nat.gcd (x2).natAbs (x3).natAbs : Nat) : Int)))))))) ∧ jsc 13 20 (jsu 11 20 (jsu 7 20 (jsu 5 20 (jsu 3 20 (jsu 2 20 (x2.tdiv (((Nat.gcd (x2).natAbs (x3).natAbs : Nat) : Int)))))))) ≤ 20 := ⟨hb_q11.1, by omega⟩
  generalize hq_q11 : jsc 13 20 (jsu 11 20 (jsu 7 20 (jsu 5 20 (jsu 3 20 (jsu 2 20 (x2.tdiv (((Nat.gcd (x2).natAbs (x3).natAbs : Nat) : Int)))))))) = q11 at hb_q11 ⊢
  have hb_q12 := jsc_b (P := 13) (n := 20) (u := (jsu 11 20 (jsu 7 20 (jsu 5 20 (jsu 3 20 (jsu 2 20 (x3.tdiv (((Nat.gcd (x2).natAbs (x3).natAbs : Nat) : Int)))))))))
  have hb_q12 : 0 ≤ jsc 13 20 (jsu 11 20 (jsu 7 20 (jsu 5 20 (jsu 3 20 (jsu 2 20 (x3.tdiv (((Nat.gcd (x2).natAbs (x3).natAbs : Nat) : Int)))))))) ∧ jsc 13 20 (jsu 11 20 (jsu 7 20 (jsu 5 20 (jsu 3 20 (jsu 2 20 (x3.tdiv (((Nat.gcd (x2).natAbs (x3).natAbs : Nat) : Int)))))))) ≤ 20 := ⟨hb_q12.1, by omega⟩
  generalize hq_q12 : jsc 13 20 (jsu 11 20 (jsu 7 20 (jsu 5 20 (jsu 3 20 (jsu 2 20 (x3.tdiv (((Nat.gcd (x2).natAbs (x3).natAbs : Nat) : Int)))))))) = q12 at hb_q12 ⊢
  refine jT_eq (LN := [(0, (4, 0)), (1, (0, x1)), (2, (0, x2)), (3, (0, x3))]) (stN := [(0, 0), (4, 0)]) (hsN := [jzH_20, jgh, jgh, jgh, jgh, jgh, jgh, (101, [], [q1 - q2, q3 - q4, q5 - q6, q7 - q8, -q10 + q9, q11 - q12]), jgh, jgh, jgh, jgh, jgh, jgh, jgh, jgh]) (rfl) (rfl) (by simp only [List.cons.injEq, Prod.mk.injEq, and_true, true_and] <;> ((try unfold jw); (try unfold jwl); omega)) ?_
  refine jT_xiconst (k := 3) (pcN := 56) jIH_187_55 rfl ?_
  refine jT_callB [0, 1, 2, 3, 4, 5, 6, 7, 8, 9, 10, 11, 12, 13, 14, 15] (y := 191) (pcN := 59) (dC := 0) (bc1 := 0) (bc2 := 0) (c1 := 0) (c2 := 0) (as := [(4, 0), (0, 0), (0, 3)]) (asC := [(4, 0), (0, 0), (0, 3)]) (LN := [(0, (4, 0)), (1, (0, x1)), (2, (0, x2)), (3, (0, x3))]) (stN := []) (hsC := jpH_21) (hsD := jpH_186) (v := (0, 1)) (st2 := [(0, 1)]) (hs2 := [jzH_185, jgh, jgh, jgh, jgh, jgh, jgh, (101, [], [q1 - q2, q3 - q4, q5 - q6, q7 - q8, -q10 + q9, q11 - q12]), jgh, jgh, jgh, jgh, jgh, jgh, jgh, jgh]) (jH_191_56 (d := 0)) (by rfl) (by rfl) (by rfl) (by rfl) ⟨rfl, rfl, rfl, rfl, rfl, rfl, rfl, rfl, rfl, rfl, rfl, rfl, rfl, rfl, rfl, rfl, trivial⟩ (by rfl) (by rfl) (by omega) (by show 16 ≤ 16; omega) (by omega) (by omega) rfl rfl ?_
  refine jT_xifF (t := 64) (pcN := 62) jIH_187_59 rfl (by decide +kernel) rfl rfl ?_
  refine jT_xiconst (k := 0) (pcN := 63) jIH_187_62 rfl ?_
  subst hq_q12
  subst hq_q11
  subst hq_q10
  subst hq_q9
  subst hq_q8
  subst hq_q7
  subst hq_q6
  subst hq_q5
  subst hq_q4
  subst hq_q3
  subst hq_q2
  subst hq_q1
  exact jT_ret rfl (by decide) (by show 16 ≤ 16; omega) (by omega) (by omega) ⟨rfl, rfl, rfl⟩
theorem jH_186_58 {xs : List Int} {d : Nat} : jT xs d 186 16 0 [(0, (4, 0))] [] jpH_186 0 0 (fun k v hsN => k = 0 ∧ v = (0, 3) ∧ hsN = jpH_186 ++ []) := by
  refine jT_advK 2 (pcN := 4) (LN := [(0, (4, 0))]) (stN := [(0, 3)]) (hsN := jpH_186) (c1 := 0) (s1 := 0) (c2 := 0) (s2 := 0) (by decide +kernel) ?_ (by omega) (by omega)
  exact jT_ret rfl (by decide) (by show 16 ≤ 16; omega) (by omega) (by omega) ⟨rfl, rfl, rfl⟩
theorem jIH_14_171 : jmI (jm 14) 171 = (.lload 6, 2) := by rfl
theorem jIH_14_173 : jmI (jm 14) 173 = (.lconst 1, 1) := by rfl
theorem jIH_14_175 : jmI (jm 14) 175 = (.ifCond .ne 16, 3) := by rfl
theorem jH_14_59 {xs : List Int} {d : Nat} {x2 x3 : Int} (h_x2 : 1 ≤ x2 ∧ x2 ≤ 1000000) (h_x3 : 1 ≤ x3 ∧ x3 ≤ 1000000) (g_0 : (jsu 13 20 (jsu 11 20 (jsu 7 20 (jsu 5 20 (jsu 3 20 (jsu 2 20 (x2.tdiv (((Nat.gcd (x2).natAbs (x3).natAbs : Nat) : Int))))))))) - 2 < 0) (g_1 : 0 ≤ (jsu 13 20 (jsu 11 20 (jsu 7 20 (jsu 5 20 (jsu 3 20 (jsu 2 20 (x3.tdiv (((Nat.gcd (x2).natAbs (x3).natAbs : Nat) : Int))))))))) - 2) : jT xs (d + 1) 14 0 0 [(0, (0, x2)), (1, (0, x3))] [] [] 1 6 (fun k v hsN => k = 0 ∧ v = (4, (-1)) ∧ hsN = [] ++ [(101, [], [(jsc 2 20 (x2.tdiv (((Nat.gcd (x2).natAbs (x3).natAbs : Nat) : Int)))) - (jsc 2 20 (x3.tdiv (((Nat.gcd (x2).natAbs (x3).natAbs : Nat) : Int)))), -(jsc 3 20 (jsu 2 20 (x3.tdiv (((Nat.gcd (x2).natAbs (x3).natAbs : Nat) : Int))))) + (jsc 3 20 (jsu 2 20 (x2.tdiv (((Nat.gcd (x2).natAbs (x3).natAbs : Nat) : Int))))), (jsc 5 20 (jsu 3 20 (jsu 2 20 (x2.tdiv (((Nat.gcd (x2).natAbs (x3).natAbs : Nat) : Int)))))) - (jsc 5 20 (jsu 3 20 (jsu 2 20 (x3.tdiv (((Nat.gcd (x2).natAbs (x3).natAbs : Nat) : Int)))))), (jsc 7 20 (jsu 5 20 (jsu 3 20 (jsu 2 20 (x2.tdiv (((Nat.gcd (x2).natAbs (x3).natAbs : Nat) : Int))))))) - (jsc 7 20 (jsu 5 20 (jsu 3 20 (jsu 2 20 (x3.tdiv (((Nat.gcd (x2).natAbs (x3).natAbs : Nat) : Int))))))), (jsc 11 20 (jsu 7 20 (jsu 5 20 (jsu 3 20 (jsu 2 20 (x2.tdiv (((Nat.gcd (x2).natAbs (x3).natAbs : Nat) : Int)))))))) - (jsc 11 20 (jsu 7 20 (jsu 5 20 (jsu 3 20 (jsu 2 20 (x3.tdiv (((Nat.gcd (x2).natAbs (x3).natAbs : Nat) : Int)))))))), (jsc 13 20 (jsu 11 20 (jsu 7 20 (jsu 5 20 (jsu 3 20 (jsu 2 20 (x2.tdiv (((Nat.gcd (x2).natAbs (x3).natAbs : Nat) : Int))))))))) - (jsc 13 20 (jsu 11 20 (jsu 7 20 (jsu 5 20 (jsu 3 20 (jsu 2 20 (x3.tdiv (((Nat.gcd (x2).natAbs (x3).natAbs : Nat) : Int)))))))))])]) := by
  refine jT_xlconst (z := 1) (pcN := 1) jIH_14_0 rfl rfl ?_
  refine jT_xiload_n (v := (0, x2)) (pcN := 2) jIH_14_1 rfl rfl rfl ?_
  refine jT_xi2l (x := x2) (z := x2) (pcN := 3) jIH_14_2 rfl (jw_idd (by omega) (by omega)) rfl ?_
  refine jT_xiload_n (v := (0, x3)) (pcN := 4) jIH_14_3 rfl rfl rfl ?_
  refine jT_xi2l (x := x3) (z := x3) (pcN := 5) jIH_14_4 rfl (jw_idd (by omega) (by omega)) rfl ?_
  refine jT_fR [] 0 (y := 98) (pcN := 8) (dC := 0) (bc1 := 0) (bc2 := 0) (c1 := 1) (c2 := 6) (as := [(1, x2), (1, x3)]) (asC := [(1, x2), (1, x3)]) (LN := [(0, (0, x2)), (1, (0, x3))]) (stN := [(1, 1)]) (hsC := []) (v := (1, ((Nat.gcd (x2).natAbs (x3).natAbs : Nat) : Int))) (st2 := [(1, ((Nat.gcd (x2).natAbs (x3).natAbs : Nat) : Int)), (1, 1)]) (jT_div98 (d := 0) (x := x2) (y := x3) (by omega) (by omega)) (by rfl) (by rfl) (by decide +kernel) (by rfl) (by rfl) (by omega) (by omega) (by omega) (by omega) rfl ?_
  have hb_q1 := jgcd_l (x := x2) (y := x3) (by omega)
  have hb_q1 : 1 ≤ ((Nat.gcd (x2).natAbs (x3).natAbs : Nat) : Int) ∧ ((Nat.gcd (x2).natAbs (x3).natAbs : Nat) : Int) ≤ 1000000 := ⟨hb_q1.1, by omega⟩
  generalize hq_q1 : ((Nat.gcd (x2).natAbs (x3).natAbs : Nat) : Int) = q1 at hb_q1 g_0 g_1 ⊢
  refine jT_mm3 (x := 1) (y := q1) (z := q1) (by rfl) (by rfl) (by rfl) (by rfl) (jwl_idd (by omega) (by omega)) (jwl_idd (by omega) (by omega)) (by rw [decide_eq_false (show ¬ ((q1 : Int) < 1) by omega)]; rfl) ?_
  refine jT_xlstore_n (v := (1, q1)) (LN := [(2, (1, q1)), (0, (0, x2)), (1, (0, x3))]) (pcN := 12) jIH_14_11 rfl rfl rfl rfl ?_
  refine jT_xiload_n (v := (0, x2)) (pcN := 13) jIH_14_12 rfl rfl rfl ?_
  refine jT_xi2l (x := x2) (z := x2) (pcN := 14) jIH_14_13 rfl (jw_idd (by omega) (by omega)) rfl ?_
  refine jT_xlload_n (v := (1, q1)) (pcN := 15) jIH_14_14 rfl rfl rfl ?_
  refine jT_ldiv (a := x2) (b := q1) (by rfl) (by rfl) (jwl_idd (by omega) (by omega)) (jwl_idd (by omega) (by omega)) (by omega) ?_
  have hb_q2 := jfr_b hq_q1 (by omega) (by omega)
  generalize hq_q2 : x2.tdiv q1 = q2 at hb_q2 g_0 ⊢
  refine jT_xlstore (v := (1, q2)) (LN := [(4, (1, q2)), (2, (1, q1)), (0, (0, x2)), (1, (0, x3))]) (pcN := 18) jIH_14_16 rfl rfl rfl rfl ?_
  refine jT_xiload_n (v := (0, x3)) (pcN := 19) jIH_14_18 rfl rfl rfl ?_
  refine jT_xi2l (x := x3) (z := x3) (pcN := 20) jIH_14_19 rfl (jw_idd (by omega) (by omega)) rfl ?_
  refine jT_xlload_n (v := (1, q1)) (pcN := 21) jIH_14_20 rfl rfl rfl ?_
  refine jT_ldiv (a := x3) (b := q1) (by rfl) (by rfl) (jwl_idd (by omega) (by omega)) (jwl_idd (by omega) (by omega)) (by omega) ?_
  have hb_q3 := jfr_b2 hq_q1 (by omega) (by omega)
  generalize hq_q3 : x3.tdiv q1 = q3 at hb_q3 g_1 ⊢
  refine jT_xlstore (v := (1, q3)) (LN := [(6, (1, q3)), (4, (1, q2)), (2, (1, q1)), (0, (0, x2)), (1, (0, x3))]) (pcN := 24) jIH_14_22 rfl rfl rfl rfl ?_
  refine jT_xbipush (k := 6) (pcN := 26) jIH_14_24 (by decide) rfl ?_
  refine jT_adv 1 (pcN := 28) (LN := [(6, (1, q3)), (4, (1, q2)), (2, (1, q1)), (0, (0, x2)), (1, (0, x3))]) (stN := [(4, 0)]) (hsN := [(101, [], [0, 0, 0, 0, 0, 0])]) (c1 := 1) (s1 := 6) (c2 := 0) (s2 := 0) (by exact rfl) ?_ (by omega) (by omega)
  refine jT_xastore (v := (4, 0)) (LN := [(8, (4, 0)), (6, (1, q3)), (4, (1, q2)), (2, (1, q1)), (0, (0, x2)), (1, (0, x3))]) (pcN := 30) jIH_14_28 rfl rfl rfl rfl ?_
  refine jT_xiconst (k := 0) (pcN := 31) jIH_14_30 rfl ?_
  refine jT_xistore (v := (0, 0)) (LN := [(9, (0, 0)), (8, (4, 0)), (6, (1, q3)), (4, (1, q2)), (2, (1, q1)), (0, (0, x2)), (1, (0, x3))]) (pcN := 33) jIH_14_31 rfl rfl rfl rfl ?_
  refine jT_xiload (v := (0, 0)) (pcN := 35) jIH_14_33 rfl rfl rfl ?_
  refine jT_xbipush (k := 6) (pcN := 37) jIH_14_35 (by decide) rfl ?_
  refine jT_xicF (t := 164) (pcN := 40) jIH_14_37 rfl (by decide +kernel) rfl rfl ?_
  refine jT_xiconst (k := 0) (pcN := 41) jIH_14_40 rfl ?_
  refine jT_xistore (v := (0, 0)) (LN := [(10, (0, 0)), (9, (0, 0)), (8, (4, 0)), (6, (1, q3)), (4, (1, q2)), (2, (1, q1)), (0, (0, x2)), (1, (0, x3))]) (pcN := 43) jIH_14_41 rfl rfl rfl rfl ?_
  refine jT_loc (LN := [(10, (0, 0)), (4, (1, q2)), (6, (1, q3)), (8, (4, 0)), (9, (0, 0))]) (by show List.Nodup [10, 4, 6, 8, 9]; decide) (by intro q hq; simp only [List.mem_cons, List.not_mem_nil, or_false] at hq; rcases hq with rfl | rfl | rfl | rfl | rfl <;> rfl) ?_
  refine jHl_fr_25 (y6 := q3) (e1 := 0) (e2 := 0) (e3 := 0) (e4 := 0) (e5 := 0) 20 0 q2 0 (by omega) (by omega) (by omega) (by omega) (Int.lt_of_le_of_lt (show q2 ≤ (1000000 : Int) by omega) (by decide)) ?_
  have hb_q4 := jsu_b (P := 2) (by decide) (n := 20) (u := q2) (by omega) (by omega)
  generalize hq_q4 : jsu 2 20 q2 = q4 at hb_q4 g_0 ⊢
  have hb_q5 := jsc_b (P := 2) (n := 20) (u := q2)
  have hb_q5 : 0 ≤ jsc 2 20 q2 ∧ jsc 2 20 q2 ≤ 20 := ⟨hb_q5.1, by omega⟩
  generalize hq_q5 : jsc 2 20 q2 = q5 at hb_q5 ⊢
  refine jT_eq (LN := [(4, (1, q4)), (6, (1, q3)), (8, (4, 0)), (9, (0, 0))]) (stN := []) (hsN := [(101, [], [q5, 0, 0, 0, 0, 0])]) (rfl) (rfl) (by simp only [List.cons.injEq, Prod.mk.injEq, and_true, true_and] <;> ((try unfold jw); (try unfold jwl); omega)) ?_
  refine jT_xiconst (k := 0) (pcN := 100) jIH_14_99 rfl ?_
  refine jT_xistore (v := (0, 0)) (LN := [(10, (0, 0)), (4, (1, q4)), (6, (1, q3)), (8, (4, 0)), (9, (0, 0))]) (pcN := 102) jIH_14_100 rfl rfl rfl rfl ?_
  refine jT_loc (LN := [(10, (0, 0)), (6, (1, q3)), (4, (1, q4)), (8, (4, 0)), (9, (0, 0))]) (by show List.Nodup [10, 6, 4, 8, 9]; decide) (by intro q hq; simp only [List.mem_cons, List.not_mem_nil, or_false] at hq; rcases hq with rfl | rfl | rfl | rfl | rfl <;> rfl) ?_
  refine jHl_fr_26 (y4 := q4) (e1 := 0) (e2 := 0) (e3 := 0) (e4 := 0) (e5 := 0) 20 0 q3 q5 (by omega) (by omega) (by omega) (by omega) (Int.lt_of_le_of_lt (show q3 ≤ (1000000 : Int) by omega) (by decide)) ?_
  have hb_q6 := jsu_b (P := 2) (by decide) (n := 20) (u := q3) (by omega) (by omega)
  generalize hq_q6 : jsu 2 20 q3 = q6 at hb_q6 g_1 ⊢
  have hb_q7 := jsc_b (P := 2) (n := 20) (u := q3)
  have hb_q7 : 0 ≤ jsc 2 20 q3 ∧ jsc 2 20 q3 ≤ 20 := ⟨hb_q7.1, by omega⟩
  generalize hq_q7 : jsc 2 20 q3 = q7 at hb_q7 ⊢
  refine jT_xiinc (x := 0) (z := 1) (LN := [(9, (0, 1)), (6, (1, q6)), (4, (1, q4)), (8, (4, 0))]) (pcN := 161) jIH_14_158 rfl rfl (by decide) rfl rfl ?_
  refine jT_xgoto (pcN := 33) jIH_14_161 rfl ?_
  refine jT_xiload (v := (0, 1)) (pcN := 35) jIH_14_33 rfl rfl rfl ?_
  refine jT_xbipush (k := 6) (pcN := 37) jIH_14_35 (by decide) rfl ?_
  refine jT_xicF (t := 164) (pcN := 40) jIH_14_37 rfl (by decide +kernel) rfl rfl ?_
  refine jT_xiconst (k := 0) (pcN := 41) jIH_14_40 rfl ?_
  refine jT_xistore (v := (0, 0)) (LN := [(10, (0, 0)), (9, (0, 1)), (6, (1, q6)), (4, (1, q4)), (8, (4, 0))]) (pcN := 43) jIH_14_41 rfl rfl rfl rfl ?_
  refine jT_loc (LN := [(10, (0, 0)), (4, (1, q4)), (6, (1, q6)), (8, (4, 0)), (9, (0, 1))]) (by show List.Nodup [10, 4, 6, 8, 9]; decide) (by intro q hq; simp only [List.mem_cons, List.not_mem_nil, or_false] at hq; rcases hq with rfl | rfl | rfl | rfl | rfl <;> rfl) ?_
  refine jHl_fr_27 (y6 := q6) (e0 := q5 - q7) (e2 := 0) (e3 := 0) (e4 := 0) (e5 := 0) 20 0 q4 0 (by omega) (by omega) (by omega) (by omega) (Int.lt_of_le_of_lt (show q4 ≤ (1000000 : Int) by omega) (by decide)) ?_
  have hb_q8 := jsu_b (P := 3) (by decide) (n := 20) (u := q4) (by omega) (by omega)
  generalize hq_q8 : jsu 3 20 q4 = q8 at hb_q8 g_0 ⊢
  have hb_q9 := jsc_b (P := 3) (n := 20) (u := q4)
  have hb_q9 : 0 ≤ jsc 3 20 q4 ∧ jsc 3 20 q4 ≤ 20 := ⟨hb_q9.1, by omega⟩
  generalize hq_q9 : jsc 3 20 q4 = q9 at hb_q9 ⊢
  refine jT_eq (LN := [(4, (1, q8)), (6, (1, q6)), (8, (4, 0)), (9, (0, 1))]) (stN := []) (hsN := [(101, [], [q5 - q7, q9, 0, 0, 0, 0])]) (rfl) (rfl) (by simp only [List.cons.injEq, Prod.mk.injEq, and_true, true_and] <;> ((try unfold jw); (try unfold jwl); omega)) ?_
  refine jT_xiconst (k := 0) (pcN := 100) jIH_14_99 rfl ?_
  refine jT_xistore (v := (0, 0)) (LN := [(10, (0, 0)), (4, (1, q8)), (6, (1, q6)), (8, (4, 0)), (9, (0, 1))]) (pcN := 102) jIH_14_100 rfl rfl rfl rfl ?_
  refine jT_loc (LN := [(10, (0, 0)), (6, (1, q6)), (4, (1, q8)), (8, (4, 0)), (9, (0, 1))]) (by show List.Nodup [10, 6, 4, 8, 9]; decide) (by intro q hq; simp only [List.mem_cons, List.not_mem_nil, or_false] at hq; rcases hq with rfl | rfl | rfl | rfl | rfl <;> rfl) ?_
  refine jHl_fr_28 (y4 := q8) (e0 := q5 - q7) (e2 := 0) (e3 := 0) (e4 := 0) (e5 := 0) 20 0 q6 q9 (by omega) (by omega) (by omega) (by omega) (Int.lt_of_le_of_lt (show q6 ≤ (1000000 : Int) by omega) (by decide)) ?_
  have hb_q10 := jsu_b (P := 3) (by decide) (n := 20) (u := q6) (by omega) (by omega)
  generalize hq_q10 : jsu 3 20 q6 = q10 at hb_q10 g_1 ⊢
  have hb_q11 := jsc_b (P := 3) (n := 20) (u := q6)
  have hb_q11 : 0 ≤ jsc 3 20 q6 ∧ jsc 3 20 q6 ≤ 20 := ⟨hb_q11.1, by omega⟩
  generalize hq_q11 : jsc 3 20 q6 = q11 at hb_q11 ⊢
  refine jT_eq (LN := [(6, (1, q10)), (4, (1, q8)), (8, (4, 0)), (9, (0, 1))]) (stN := []) (hsN := [(101, [], [q5 - q7, -q11 + q9, 0, 0, 0, 0])]) (rfl) (rfl) (by simp only [List.cons.injEq, Prod.mk.injEq, and_true, true_and] <;> ((try unfold jw); (try unfold jwl); omega)) ?_
  refine jT_xiinc (x := 1) (z := 2) (LN := [(9, (0, 2)), (6, (1, q10)), (4, (1, q8)), (8, (4, 0))]) (pcN := 161) jIH_14_158 rfl rfl (by decide) rfl rfl ?_
  refine jT_xgoto (pcN := 33) jIH_14_161 rfl ?_
  refine jT_xiload (v := (0, 2)) (pcN := 35) jIH_14_33 rfl rfl rfl ?_
  refine jT_xbipush (k := 6) (pcN := 37) jIH_14_35 (by decide) rfl ?_
  refine jT_xicF (t := 164) (pcN := 40) jIH_14_37 rfl (by decide +kernel) rfl rfl ?_
  refine jT_xiconst (k := 0) (pcN := 41) jIH_14_40 rfl ?_
  refine jT_xistore (v := (0, 0)) (LN := [(10, (0, 0)), (9, (0, 2)), (6, (1, q10)), (4, (1, q8)), (8, (4, 0))]) (pcN := 43) jIH_14_41 rfl rfl rfl rfl ?_
  refine jT_loc (LN := [(10, (0, 0)), (4, (1, q8)), (6, (1, q10)), (8, (4, 0)), (9, (0, 2))]) (by show List.Nodup [10, 4, 6, 8, 9]; decide) (by intro q hq; simp only [List.mem_cons, List.not_mem_nil, or_false] at hq; rcases hq with rfl | rfl | rfl | rfl | rfl <;> rfl) ?_
  refine jHl_fr_29 (y6 := q10) (e0 := q5 - q7) (e1 := -q11 + q9) (e3 := 0) (e4 := 0) (e5 := 0) 20 0 q8 0 (by omega) (by omega) (by omega) (by omega) (Int.lt_of_le_of_lt (show q8 ≤ (1000000 : Int) by omega) (by decide)) ?_
  have hb_q12 := jsu_b (P := 5) (by decide) (n := 20) (u := q8) (by omega) (by omega)
  generalize hq_q12 : jsu 5 20 q8 = q12 at hb_q12 g_0 ⊢
  have hb_q13 := jsc_b (P := 5) (n := 20) (u := q8)
  have hb_q13 : 0 ≤ jsc 5 20 q8 ∧ jsc 5 20 q8 ≤ 20 := ⟨hb_q13.1, by omega⟩
  generalize hq_q13 : jsc 5 20 q8 = q13 at hb_q13 ⊢
  refine jT_eq (LN := [(4, (1, q12)), (6, (1, q10)), (8, (4, 0)), (9, (0, 2))]) (stN := []) (hsN := [(101, [], [q5 - q7, -q11 + q9, q13, 0, 0, 0])]) (rfl) (rfl) (by simp only [List.cons.injEq, Prod.mk.injEq, and_true, true_and] <;> ((try unfold jw); (try unfold jwl); omega)) ?_
  refine jT_xiconst (k := 0) (pcN := 100) jIH_14_99 rfl ?_
  refine jT_xistore (v := (0, 0)) (LN := [(10, (0, 0)), (4, (1, q12)), (6, (1, q10)), (8, (4, 0)), (9, (0, 2))]) (pcN := 102) jIH_14_100 rfl rfl rfl rfl ?_
  refine jT_loc (LN := [(10, (0, 0)), (6, (1, q10)), (4, (1, q12)), (8, (4, 0)), (9, (0, 2))]) (by show List.Nodup [10, 6, 4, 8, 9]; decide) (by intro q hq; simp only [List.mem_cons, List.not_mem_nil, or_false] at hq; rcases hq with rfl | rfl | rfl | rfl | rfl <;> rfl) ?_
  refine jHl_fr_30 (y4 := q12) (e0 := q5 - q7) (e1 := -q11 + q9) (e3 := 0) (e4 := 0) (e5 := 0) 20 0 q10 q13 (by omega) (by omega) (by omega) (by omega) (Int.lt_of_le_of_lt (show q10 ≤ (1000000 : Int) by omega) (by decide)) ?_
  have hb_q14 := jsu_b (P := 5) (by decide) (n := 20) (u := q10) (by omega) (by omega)
  generalize hq_q14 : jsu 5 20 q10 = q14 at hb_q14 g_1 ⊢
  have hb_q15 := jsc_b (P := 5) (n := 20) (u := q10)
  have hb_q15 : 0 ≤ jsc 5 20 q10 ∧ jsc 5 20 q10 ≤ 20 := ⟨hb_q15.1, by omega⟩
  generalize hq_q15 : jsc 5 20 q10 = q15 at hb_q15 ⊢
  refine jT_xiinc (x := 2) (z := 3) (LN := [(9, (0, 3)), (6, (1, q14)), (4, (1, q12)), (8, (4, 0))]) (pcN := 161) jIH_14_158 rfl rfl (by decide) rfl rfl ?_
  refine jT_xgoto (pcN := 33) jIH_14_161 rfl ?_
  refine jT_xiload (v := (0, 3)) (pcN := 35) jIH_14_33 rfl rfl rfl ?_
  refine jT_xbipush (k := 6) (pcN := 37) jIH_14_35 (by decide) rfl ?_
  refine jT_xicF (t := 164) (pcN := 40) jIH_14_37 rfl (by decide +kernel) rfl rfl ?_
  refine jT_xiconst (k := 0) (pcN := 41) jIH_14_40 rfl ?_
  refine jT_xistore (v := (0, 0)) (LN := [(10, (0, 0)), (9, (0, 3)), (6, (1, q14)), (4, (1, q12)), (8, (4, 0))]) (pcN := 43) jIH_14_41 rfl rfl rfl rfl ?_
  refine jT_loc (LN := [(10, (0, 0)), (4, (1, q12)), (6, (1, q14)), (8, (4, 0)), (9, (0, 3))]) (by show List.Nodup [10, 4, 6, 8, 9]; decide) (by intro q hq; simp only [List.mem_cons, List.not_mem_nil, or_false] at hq; rcases hq with rfl | rfl | rfl | rfl | rfl <;> rfl) ?_
  refine jHl_fr_31 (y6 := q14) (e0 := q5 - q7) (e1 := -q11 + q9) (e2 := q13 - q15) (e4 := 0) (e5 := 0) 20 0 q12 0 (by omega) (by omega) (by omega) (by omega) (Int.lt_of_le_of_lt (show q12 ≤ (1000000 : Int) by omega) (by decide)) ?_
  have hb_q16 := jsu_b (P := 7) (by decide) (n := 20) (u := q12) (by omega) (by omega)
  generalize hq_q16 : jsu 7 20 q12 = q16 at hb_q16 g_0 ⊢
  have hb_q17 := jsc_b (P := 7) (n := 20) (u := q12)
  have hb_q17 : 0 ≤ jsc 7 20 q12 ∧ jsc 7 20 q12 ≤ 20 := ⟨hb_q17.1, by omega⟩
  generalize hq_q17 : jsc 7 20 q12 = q17 at hb_q17 ⊢
  refine jT_eq (LN := [(4, (1, q16)), (6, (1, q14)), (8, (4, 0)), (9, (0, 3))]) (stN := []) (hsN := [(101, [], [q5 - q7, -q11 + q9, q13 - q15, q17, 0, 0])]) (rfl) (rfl) (by simp only [List.cons.injEq, Prod.mk.injEq, and_true, true_and] <;> ((try unfold jw); (try unfold jwl); omega)) ?_
  refine jT_xiconst (k := 0) (pcN := 100) jIH_14_99 rfl ?_
  refine jT_xistore (v := (0, 0)) (LN := [(10, (0, 0)), (4, (1, q16)), (6, (1, q14)), (8, (4, 0)), (9, (0, 3))]) (pcN := 102) jIH_14_100 rfl rfl rfl rfl ?_
  refine jT_loc (LN := [(10, (0, 0)), (6, (1, q14)), (4, (1, q16)), (8, (4, 0)), (9, (0, 3))]) (by show List.Nodup [10, 6, 4, 8, 9]; decide) (by intro q hq; simp only [List.mem_cons, List.not_mem_nil, or_false] at hq; rcases hq with rfl | rfl | rfl | rfl | rfl <;> rfl) ?_
  refine jHl_fr_32 (y4 := q16) (e0 := q5 - q7) (e1 := -q11 + q9) (e2 := q13 - q15) (e4 := 0) (e5 := 0) 20 0 q14 q17 (by omega) (by omega) (by omega) (by omega) (Int.lt_of_le_of_lt (show q14 ≤ (1000000 : Int) by omega) (by decide)) ?_
  have hb_q18 := jsu_b (P := 7) (by decide) (n := 20) (u := q14) (by omega) (by omega)
  generalize hq_q18 : jsu 7 20 q14 = q18 at hb_q18 g_1 ⊢
  have hb_q19 := jsc_b (P := 7) (n := 20) (u := q14)
  have hb_q19 : 0 ≤ jsc 7 20 q14 ∧ jsc 7 20 q14 ≤ 20 := ⟨hb_q19.1, by omega⟩
  generalize hq_q19 : jsc 7 20 q14 = q19 at hb_q19 ⊢
  refine jT_xiinc (x := 3) (z := 4) (LN := [(9, (0, 4)), (6, (1, q18)), (4, (1, q16)), (8, (4, 0))]) (pcN := 161) jIH_14_158 rfl rfl (by decide) rfl rfl ?_
  refine jT_xgoto (pcN := 33) jIH_14_161 rfl ?_
  refine jT_xiload (v := (0, 4)) (pcN := 35) jIH_14_33 rfl rfl rfl ?_
  refine jT_xbipush (k := 6) (pcN := 37) jIH_14_35 (by decide) rfl ?_
  refine jT_xicF (t := 164) (pcN := 40) jIH_14_37 rfl (by decide +kernel) rfl rfl ?_
  refine jT_xiconst (k := 0) (pcN := 41) jIH_14_40 rfl ?_
  refine jT_xistore (v := (0, 0)) (LN := [(10, (0, 0)), (9, (0, 4)), (6, (1, q18)), (4, (1, q16)), (8, (4, 0))]) (pcN := 43) jIH_14_41 rfl rfl rfl rfl ?_
  refine jT_loc (LN := [(10, (0, 0)), (4, (1, q16)), (6, (1, q18)), (8, (4, 0)), (9, (0, 4))]) (by show List.Nodup [10, 4, 6, 8, 9]; decide) (by intro q hq; simp only [List.mem_cons, List.not_mem_nil, or_false] at hq; rcases hq with rfl | rfl | rfl | rfl | rfl <;> rfl) ?_
  refine jHl_fr_33 (y6 := q18) (e0 := q5 - q7) (e1 := -q11 + q9) (e2 := q13 - q15) (e3 := q17 - q19) (e5 := 0) 20 0 q16 0 (by omega) (by omega) (by omega) (by omega) (Int.lt_of_le_of_lt (show q16 ≤ (1000000 : Int) by omega) (by decide)) ?_
  have hb_q20 := jsu_b (P := 11) (by decide) (n := 20) (u := q16) (by omega) (by omega)
  generalize hq_q20 : jsu 11 20 q16 = q20 at hb_q20 g_0 ⊢
  have hb_q21 := jsc_b (P := 11) (n := 20) (u := q16)
  have hb_q21 : 0 ≤ jsc 11 20 q16 ∧ jsc 11 20 q16 ≤ 20 := ⟨hb_q21.1, by omega⟩
  generalize hq_q21 : jsc 11 20 q16 = q21 at hb_q21 ⊢
  refine jT_eq (LN := [(4, (1, q20)), (6, (1, q18)), (8, (4, 0)), (9, (0, 4))]) (stN := []) (hsN := [(101, [], [q5 - q7, -q11 + q9, q13 - q15, q17 - q19, q21, 0])]) (rfl) (rfl) (by simp only [List.cons.injEq, Prod.mk.injEq, and_true, true_and] <;> ((try unfold jw); (try unfold jwl); omega)) ?_
  refine jT_xiconst (k := 0) (pcN := 100) jIH_14_99 rfl ?_
  refine jT_xistore (v := (0, 0)) (LN := [(10, (0, 0)), (4, (1, q20)), (6, (1, q18)), (8, (4, 0)), (9, (0, 4))]) (pcN := 102) jIH_14_100 rfl rfl rfl rfl ?_
  refine jT_loc (LN := [(10, (0, 0)), (6, (1, q18)), (4, (1, q20)), (8, (4, 0)), (9, (0, 4))]) (by show List.Nodup [10, 6, 4, 8, 9]; decide) (by intro q hq; simp only [List.mem_cons, List.not_mem_nil, or_false] at hq; rcases hq with rfl | rfl | rfl | rfl | rfl <;> rfl) ?_
  refine jHl_fr_34 (y4 := q20) (e0 := q5 - q7) (e1 := -q11 + q9) (e2 := q13 - q15) (e3 := q17 - q19) (e5 := 0) 20 0 q18 q21 (by omega) (by omega) (by omega) (by omega) (Int.lt_of_le_of_lt (show q18 ≤ (1000000 : Int) by omega) (by decide)) ?_
  have hb_q22 := jsu_b (P := 11) (by decide) (n := 20) (u := q18) (by omega) (by omega)
  generalize hq_q22 : jsu 11 20 q18 = q22 at hb_q22 g_1 ⊢
  have hb_q23 := jsc_b (P := 11) (n := 20) (u := q18)
  have hb_q23 : 0 ≤ jsc 11 20 q18 ∧ jsc 11 20 q18 ≤ 20 := ⟨hb_q23.1, by omega⟩
  generalize hq_q23 : jsc 11 20 q18 = q23 at hb_q23 ⊢
  refine jT_xiinc (x := 4) (z := 5) (LN := [(9, (0, 5)), (6, (1, q22)), (4, (1, q20)), (8, (4, 0))]) (pcN := 161) jIH_14_158 rfl rfl (by decide) rfl rfl ?_
  refine jT_xgoto (pcN := 33) jIH_14_161 rfl ?_
  refine jT_xiload (v := (0, 5)) (pcN := 35) jIH_14_33 rfl rfl rfl ?_
  refine jT_xbipush (k := 6) (pcN := 37) jIH_14_35 (by decide) rfl ?_
  refine jT_xicF (t := 164) (pcN := 40) jIH_14_37 rfl (by decide +kernel) rfl rfl ?_
  refine jT_xiconst (k := 0) (pcN := 41) jIH_14_40 rfl ?_
  refine jT_xistore (v := (0, 0)) (LN := [(10, (0, 0)), (9, (0, 5)), (6, (1, q22)), (4, (1, q20)), (8, (4, 0))]) (pcN := 43) jIH_14_41 rfl rfl rfl rfl ?_
  refine jT_loc (LN := [(10, (0, 0)), (4, (1, q20)), (6, (1, q22)), (8, (4, 0)), (9, (0, 5))]) (by show List.Nodup [10, 4, 6, 8, 9]; decide) (by intro q hq; simp only [List.mem_cons, List.not_mem_nil, or_false] at hq; rcases hq with rfl | rfl | rfl | rfl | rfl <;> rfl) ?_
  refine jHl_fr_35 (y6 := q22) (e0 := q5 - q7) (e1 := -q11 + q9) (e2 := q13 - q15) (e3 := q17 - q19) (e4 := q21 - q23) 20 0 q20 0 (by omega) (by omega) (by omega) (by omega) (Int.lt_of_le_of_lt (show q20 ≤ (1000000 : Int) by omega) (by decide)) ?_
  have hb_q24 := jsu_b (P := 13) (by decide) (n := 20) (u := q20) (by omega) (by omega)
  generalize hq_q24 : jsu 13 20 q20 = q24 at hb_q24 g_0 ⊢
  have hb_q25 := jsc_b (P := 13) (n := 20) (u := q20)
  have hb_q25 : 0 ≤ jsc 13 20 q20 ∧ jsc 13 20 q20 ≤ 20 := ⟨hb_q25.1, by omega⟩
  generalize hq_q25 : jsc 13 20 q20 = q25 at hb_q25 ⊢
  refine jT_eq (LN := [(4, (1, q24)), (6, (1, q22)), (8, (4, 0)), (9, (0, 5))]) (stN := []) (hsN := [(101, [], [q5 - q7, -q11 + q9, q13 - q15, q17 - q19, q21 - q23, q25])]) (rfl) (rfl) (by simp only [List.cons.injEq, Prod.mk.injEq, and_true, true_and] <;> ((try unfold jw); (try unfold jwl); omega)) ?_
  refine jT_xiconst (k := 0) (pcN := 100) jIH_14_99 rfl ?_
  refine jT_xistore (v := (0, 0)) (LN := [(10, (0, 0)), (4, (1, q24)), (6, (1, q22)), (8, (4, 0)), (9, (0, 5))]) (pcN := 102) jIH_14_100 rfl rfl rfl rfl ?_
  refine jT_loc (LN := [(10, (0, 0)), (6, (1, q22)), (4, (1, q24)), (8, (4, 0)), (9, (0, 5))]) (by show List.Nodup [10, 6, 4, 8, 9]; decide) (by intro q hq; simp only [List.mem_cons, List.not_mem_nil, or_false] at hq; rcases hq with rfl | rfl | rfl | rfl | rfl <;> rfl) ?_
  refine jHl_fr_36 (y4 := q24) (e0 := q5 - q7) (e1 := -q11 + q9) (e2 := q13 - q15) (e3 := q17 - q19) (e4 := q21 - q23) 20 0 q22 q25 (by omega) (by omega) (by omega) (by omega) (Int.lt_of_le_of_lt (show q22 ≤ (1000000 : Int) by omega) (by decide)) ?_
  have hb_q26 := jsu_b (P := 13) (by decide) (n := 20) (u := q22) (by omega) (by omega)
  generalize hq_q26 : jsu 13 20 q22 = q26 at hb_q26 g_1 ⊢
  have hb_q27 := jsc_b (P := 13) (n := 20) (u := q22)
  have hb_q27 : 0 ≤ jsc 13 20 q22 ∧ jsc 13 20 q22 ≤ 20 := ⟨hb_q27.1, by omega⟩
  generalize hq_q27 : jsc 13 20 q22 = q27 at hb_q27 ⊢
  refine jT_xiinc (x := 5) (z := 6) (LN := [(9, (0, 6)), (6, (1, q26)), (4, (1, q24)), (8, (4, 0))]) (pcN := 161) jIH_14_158 rfl rfl (by decide) rfl rfl ?_
  refine jT_xgoto (pcN := 33) jIH_14_161 rfl ?_
  refine jT_xiload (v := (0, 6)) (pcN := 35) jIH_14_33 rfl rfl rfl ?_
  refine jT_xbipush (k := 6) (pcN := 37) jIH_14_35 (by decide) rfl ?_
  refine jT_xicT (pcN := 164) jIH_14_37 rfl (by decide +kernel) rfl ?_
  refine jT_xlload (v := (1, q24)) (pcN := 166) jIH_14_164 rfl rfl rfl ?_
  refine jT_xlconst (z := 1) (pcN := 167) jIH_14_166 rfl rfl ?_
  refine jT_lcmp (a := q24) (b := 1) (z := 0) (by rfl) (by rfl) (jwl_idd (by omega) (by omega)) (jwl_idd (by omega) (by omega)) (by rw [decide_eq_false (show ¬ ((1 : Int) < q24) by omega), decide_eq_true (show (q24 : Int) = 1 by omega)]; rfl) ?_
  refine jT_xifF (t := 191) (pcN := 171) jIH_14_168 rfl (by decide +kernel) rfl rfl ?_
  refine jT_xlload (v := (1, q26)) (pcN := 173) jIH_14_171 rfl rfl rfl ?_
  refine jT_xlconst (z := 1) (pcN := 174) jIH_14_173 rfl rfl ?_
  refine jT_lcmp (a := q26) (b := 1) (z := 1) (by rfl) (by rfl) (jwl_idd (by omega) (by omega)) (jwl_idd (by omega) (by omega)) (by rw [decide_eq_true (show (1 : Int) < q26 by omega)]; rfl) ?_
  refine jT_xifT (pcN := 191) jIH_14_175 rfl (by decide +kernel) rfl ?_
  refine jT_adv 1 (pcN := 192) (LN := [(9, (0, 6)), (6, (1, q26)), (4, (1, q24)), (8, (4, 0))]) (stN := [(4, (-1))]) (hsN := [(101, [], [q5 - q7, -q11 + q9, q13 - q15, q17 - q19, q21 - q23, q25 - q27])]) (c1 := 0) (s1 := 0) (c2 := 0) (s2 := 0) (by exact rfl) ?_ (by omega) (by omega)
  subst hq_q27
  subst hq_q26
  subst hq_q25
  subst hq_q24
  subst hq_q23
  subst hq_q22
  subst hq_q21
  subst hq_q20
  subst hq_q19
  subst hq_q18
  subst hq_q17
  subst hq_q16
  subst hq_q15
  subst hq_q14
  subst hq_q13
  subst hq_q12
  subst hq_q11
  subst hq_q10
  subst hq_q9
  subst hq_q8
  subst hq_q7
  subst hq_q6
  subst hq_q5
  subst hq_q4
  subst hq_q3
  subst hq_q2
  subst hq_q1
  exact jT_ret rfl (by decide) (by show 0 ≤ 1; omega) (by omega) (by omega) ⟨rfl, rfl, rfl⟩
theorem jH_114_60 {xs : List Int} {d : Nat} {x1 x2 x3 : Int} (h_x1 : 0 ≤ x1 ∧ x1 ≤ 7) (h_x2 : 1 ≤ x2 ∧ x2 ≤ 1000000) (h_x3 : 1 ≤ x3 ∧ x3 ≤ 1000000) (g_0 : (jsu 13 20 (jsu 11 20 (jsu 7 20 (jsu 5 20 (jsu 3 20 (jsu 2 20 (x2.tdiv (((Nat.gcd (x2).natAbs (x3).natAbs : Nat) : Int))))))))) - 2 < 0) (g_1 : 0 ≤ (jsu 13 20 (jsu 11 20 (jsu 7 20 (jsu 5 20 (jsu 3 20 (jsu 2 20 (x3.tdiv (((Nat.gcd (x2).natAbs (x3).natAbs : Nat) : Int))))))))) - 2) : jT xs (d + 2) 114 12 0 [(0, (4, 0)), (1, (0, x1)), (2, (0, x2)), (3, (0, x3))] [] jpH_6 2 12 (fun k v hsN => k = 1 ∧ v = (0, 2) ∧ hsN = jpH_6 ++ [(101, [], [(jsc 2 20 (x2.tdiv (((Nat.gcd (x2).natAbs (x3).natAbs : Nat) : Int)))) - (jsc 2 20 (x3.tdiv (((Nat.gcd (x2).natAbs (x3).natAbs : Nat) : Int)))), (jsc 3 20 (jsu 2 20 (x2.tdiv (((Nat.gcd (x2).natAbs (x3).natAbs : Nat) : Int))))) - (jsc 3 20 (jsu 2 20 (x3.tdiv (((Nat.gcd (x2).natAbs (x3).natAbs : Nat) : Int))))), (jsc 5 20 (jsu 3 20 (jsu 2 20 (x2.tdiv (((Nat.gcd (x2).natAbs (x3).natAbs : Nat) : Int)))))) - (jsc 5 20 (jsu 3 20 (jsu 2 20 (x3.tdiv (((Nat.gcd (x2).natAbs (x3).natAbs : Nat) : Int)))))), (jsc 7 20 (jsu 5 20 (jsu 3 20 (jsu 2 20 (x2.tdiv (((Nat.gcd (x2).natAbs (x3).natAbs : Nat) : Int))))))) - (jsc 7 20 (jsu 5 20 (jsu 3 20 (jsu 2 20 (x3.tdiv (((Nat.gcd (x2).natAbs (x3).natAbs : Nat) : Int))))))), -(jsc 11 20 (jsu 7 20 (jsu 5 20 (jsu 3 20 (jsu 2 20 (x3.tdiv (((Nat.gcd (x2).natAbs (x3).natAbs : Nat) : Int)))))))) + (jsc 11 20 (jsu 7 20 (jsu 5 20 (jsu 3 20 (jsu 2 20 (x2.tdiv (((Nat.gcd (x2).natAbs (x3).natAbs : Nat) : Int)))))))), (jsc 13 20 (jsu 11 20 (jsu 7 20 (jsu 5 20 (jsu 3 20 (jsu 2 20 (x2.tdiv (((Nat.gcd (x2).natAbs (x3).natAbs : Nat) : Int))))))))) - (jsc 13 20 (jsu 11 20 (jsu 7 20 (jsu 5 20 (jsu 3 20 (jsu 2 20 (x3.tdiv (((Nat.gcd (x2).natAbs (x3).natAbs : Nat) : Int)))))))))])]) := by
  refine jT_xaload_n (v := (4, 0)) (pcN := 1) jIH_114_0 rfl rfl rfl ?_
  refine jT_xiload_n (v := (0, x1)) (pcN := 2) jIH_114_1 rfl rfl rfl ?_
  refine jT_xbipush (k := 8) (pcN := 4) jIH_114_2 (by decide) rfl ?_
  refine jT_fR [0] 12 (y := 115) (pcN := 7) (dC := 0) (bc1 := 0) (bc2 := 0) (c1 := 2) (c2 := 12) (as := [(4, 0), (0, x1), (0, 8)]) (asC := [(4, 0), (0, x1), (0, 8)]) (LN := [(0, (4, 0)), (1, (0, x1)), (2, (0, x2)), (3, (0, x3))]) (stN := []) (hsC := [jgh]) (v := (9, 0)) (st2 := []) (jH_115_9 (d := 0) (by omega)) (by rfl) (by rfl) (by decide +kernel) (by rfl) (by rfl) (by omega) (by omega) (by omega) (by omega) rfl ?_
  refine jT_xaload_n (v := (4, 0)) (pcN := 8) jIH_114_7 rfl rfl rfl ?_
  refine jT_xiload_n (v := (0, x2)) (pcN := 9) jIH_114_8 rfl rfl rfl ?_
  refine jT_xiconst (k := 1) (pcN := 10) jIH_114_9 rfl ?_
  refine jT_adv 1 (pcN := 12) (LN := [(0, (4, 0)), (1, (0, x1)), (2, (0, x2)), (3, (0, x3))]) (stN := [(0, 1000000), (0, 1), (0, x2), (4, 0)]) (hsN := jpH_6) (c1 := 0) (s1 := 0) (c2 := 2) (s2 := 12) (by exact rfl) ?_ (by omega) (by omega)
  refine jT_fR [0] 12 (y := 116) (pcN := 15) (dC := 0) (bc1 := 0) (bc2 := 0) (c1 := 2) (c2 := 12) (as := [(4, 0), (0, x2), (0, 1), (0, 1000000)]) (asC := [(4, 0), (0, x2), (0, 1), (0, 1000000)]) (LN := [(0, (4, 0)), (1, (0, x1)), (2, (0, x2)), (3, (0, x3))]) (stN := []) (hsC := [jgh]) (v := (9, 0)) (st2 := []) (jH_116_19 (d := 0) (by omega)) (by rfl) (by rfl) (by decide +kernel) (by rfl) (by rfl) (by omega) (by omega) (by omega) (by omega) rfl ?_
  refine jT_xaload_n (v := (4, 0)) (pcN := 16) jIH_114_15 rfl rfl rfl ?_
  refine jT_xiload_n (v := (0, x3)) (pcN := 17) jIH_114_16 rfl rfl rfl ?_
  refine jT_xiconst (k := 1) (pcN := 18) jIH_114_17 rfl ?_
  refine jT_adv 1 (pcN := 20) (LN := [(0, (4, 0)), (1, (0, x1)), (2, (0, x2)), (3, (0, x3))]) (stN := [(0, 1000000), (0, 1), (0, x3), (4, 0)]) (hsN := jpH_6) (c1 := 0) (s1 := 0) (c2 := 2) (s2 := 12) (by exact rfl) ?_ (by omega) (by omega)
  refine jT_fR [0] 12 (y := 116) (pcN := 23) (dC := 0) (bc1 := 0) (bc2 := 0) (c1 := 2) (c2 := 12) (as := [(4, 0), (0, x3), (0, 1), (0, 1000000)]) (asC := [(4, 0), (0, x3), (0, 1), (0, 1000000)]) (LN := [(0, (4, 0)), (1, (0, x1)), (2, (0, x2)), (3, (0, x3))]) (stN := []) (hsC := [jgh]) (v := (9, 0)) (st2 := []) (jH_116_24 (d := 0) (by omega)) (by rfl) (by rfl) (by decide +kernel) (by rfl) (by rfl) (by omega) (by omega) (by omega) (by omega) rfl ?_
  refine jT_xiload_n (v := (0, x2)) (pcN := 24) jIH_114_23 rfl rfl rfl ?_
  refine jT_xiload_n (v := (0, x3)) (pcN := 25) jIH_114_24 rfl rfl rfl ?_
  refine jT_fA [] 12 (y := 14) (pcN := 28) (dC := 1) (bc1 := 1) (bc2 := 6) (c1 := 1) (c2 := 6) (as := [(0, x2), (0, x3)]) (asC := [(0, x2), (0, x3)]) (LN := [(0, (4, 0)), (1, (0, x1)), (2, (0, x2)), (3, (0, x3))]) (stN := []) (hsC := []) (ex := [(101, [], [(jsc 2 20 (x2.tdiv (((Nat.gcd (x2).natAbs (x3).natAbs : Nat) : Int)))) - (jsc 2 20 (x3.tdiv (((Nat.gcd (x2).natAbs (x3).natAbs : Nat) : Int)))), -(jsc 3 20 (jsu 2 20 (x3.tdiv (((Nat.gcd (x2).natAbs (x3).natAbs : Nat) : Int))))) + (jsc 3 20 (jsu 2 20 (x2.tdiv (((Nat.gcd (x2).natAbs (x3).natAbs : Nat) : Int))))), (jsc 5 20 (jsu 3 20 (jsu 2 20 (x2.tdiv (((Nat.gcd (x2).natAbs (x3).natAbs : Nat) : Int)))))) - (jsc 5 20 (jsu 3 20 (jsu 2 20 (x3.tdiv (((Nat.gcd (x2).natAbs (x3).natAbs : Nat) : Int)))))), (jsc 7 20 (jsu 5 20 (jsu 3 20 (jsu 2 20 (x2.tdiv (((Nat.gcd (x2).natAbs (x3).natAbs : Nat) : Int))))))) - (jsc 7 20 (jsu 5 20 (jsu 3 20 (jsu 2 20 (x3.tdiv (((Nat.gcd (x2).natAbs (x3).natAbs : Nat) : Int))))))), (jsc 11 20 (jsu 7 20 (jsu 5 20 (jsu 3 20 (jsu 2 20 (x2.tdiv (((Nat.gcd (x2).natAbs (x3).natAbs : Nat) : Int)))))))) - (jsc 11 20 (jsu 7 20 (jsu 5 20 (jsu 3 20 (jsu 2 20 (x3.tdiv (((Nat.gcd (x2).natAbs (x3).natAbs : Nat) : Int)))))))), (jsc 13 20 (jsu 11 20 (jsu 7 20 (jsu 5 20 (jsu 3 20 (jsu 2 20 (x2.tdiv (((Nat.gcd (x2).natAbs (x3).natAbs : Nat) : Int))))))))) - (jsc 13 20 (jsu 11 20 (jsu 7 20 (jsu 5 20 (jsu 3 20 (jsu 2 20 (x3.tdiv (((Nat.gcd (x2).natAbs (x3).natAbs : Nat) : Int)))))))))])]) (v := (4, (-1))) (st2 := [(4, (-1))]) (hs2 := [jzH_5, jgh, jgh, jgh, jgh, jgh, jgh, jgh, jgh, jgh, jgh, jgh, (101, [], [(jsc 2 20 (x2.tdiv (((Nat.gcd (x2).natAbs (x3).natAbs : Nat) : Int)))) - (jsc 2 20 (x3.tdiv (((Nat.gcd (x2).natAbs (x3).natAbs : Nat) : Int)))), -(jsc 3 20 (jsu 2 20 (x3.tdiv (((Nat.gcd (x2).natAbs (x3).natAbs : Nat) : Int))))) + (jsc 3 20 (jsu 2 20 (x2.tdiv (((Nat.gcd (x2).natAbs (x3).natAbs : Nat) : Int))))), (jsc 5 20 (jsu 3 20 (jsu 2 20 (x2.tdiv (((Nat.gcd (x2).natAbs (x3).natAbs : Nat) : Int)))))) - (jsc 5 20 (jsu 3 20 (jsu 2 20 (x3.tdiv (((Nat.gcd (x2).natAbs (x3).natAbs : Nat) : Int)))))), (jsc 7 20 (jsu 5 20 (jsu 3 20 (jsu 2 20 (x2.tdiv (((Nat.gcd (x2).natAbs (x3).natAbs : Nat) : Int))))))) - (jsc 7 20 (jsu 5 20 (jsu 3 20 (jsu 2 20 (x3.tdiv (((Nat.gcd (x2).natAbs (x3).natAbs : Nat) : Int))))))), (jsc 11 20 (jsu 7 20 (jsu 5 20 (jsu 3 20 (jsu 2 20 (x2.tdiv (((Nat.gcd (x2).natAbs (x3).natAbs : Nat) : Int)))))))) - (jsc 11 20 (jsu 7 20 (jsu 5 20 (jsu 3 20 (jsu 2 20 (x3.tdiv (((Nat.gcd (x2).natAbs (x3).natAbs : Nat) : Int)))))))), (jsc 13 20 (jsu 11 20 (jsu 7 20 (jsu 5 20 (jsu 3 20 (jsu 2 20 (x2.tdiv (((Nat.gcd (x2).natAbs (x3).natAbs : Nat) : Int))))))))) - (jsc 13 20 (jsu 11 20 (jsu 7 20 (jsu 5 20 (jsu 3 20 (jsu 2 20 (x3.tdiv (((Nat.gcd (x2).natAbs (x3).natAbs : Nat) : Int)))))))))])]) (jH_14_59 (d := 0) (by omega) (by omega) (by omega) (by omega)) (by rfl) (by rfl) (by decide +kernel) (by rfl) (by rfl) (by omega) (by omega) (by omega) (by omega) rfl rfl ?_
  have hb_q1 := jsc_b (P := 2) (n := 20) (u := (x2.tdiv (((Nat.gcd (x2).natAbs (x3).natAbs : Nat) : Int))))
  have hb_q1 : 0 ≤ jsc 2 20 (x2.tdiv (((Nat.gcd (x2).natAbs (x3).natAbs : Nat) : Int))) ∧ jsc 2 20 (x2.tdiv (((Nat.gcd (x2).natAbs (x3).natAbs : Nat) : Int))) ≤ 20 := ⟨hb_q1.1, by omega⟩
  generalize hq_q1 : jsc 2 20 (x2.tdiv (((Nat.gcd (x2).natAbs (x3).natAbs : Nat) : Int))) = q1 at hb_q1 ⊢
  have hb_q2 := jsc_b (P := 2) (n := 20) (u := (x3.tdiv (((Nat.gcd (x2).natAbs (x3).natAbs : Nat) : Int))))
  have hb_q2 : 0 ≤ jsc 2 20 (x3.tdiv (((Nat.gcd (x2).natAbs (x3).natAbs : Nat) : Int))) ∧ jsc 2 20 (x3.tdiv (((Nat.gcd (x2).natAbs (x3).natAbs : Nat) : Int))) ≤ 20 := ⟨hb_q2.1, by omega⟩
  generalize hq_q2 : jsc 2 20 (x3.tdiv (((Nat.gcd (x2).natAbs (x3).natAbs : Nat) : Int))) = q2 at hb_q2 ⊢
  have hb_q3 := jsc_b (P := 3) (n := 20) (u := (jsu 2 20 (x2.tdiv (((Nat.gcd (x2).natAbs (x3).natAbs : Nat) : Int)))))
  have hb_q3 : 0 ≤ jsc 3 20 (jsu 2 20 (x2.tdiv (((Nat.gcd (x2).natAbs (x3).natAbs : Nat) : Int)))) ∧ jsc 3 20 (jsu 2 20 (x2.tdiv (((Nat.gcd (x2).natAbs (x3).natAbs : Nat) : Int)))) ≤ 20 := ⟨hb_q3.1, by omega⟩
  generalize hq_q3 : jsc 3 20 (jsu 2 20 (x2.tdiv (((Nat.gcd (x2).natAbs (x3).natAbs : Nat) : Int)))) = q3 at hb_q3 ⊢
  have hb_q4 := jsc_b (P := 3) (n := 20) (u := (jsu 2 20 (x3.tdiv (((Nat.gcd (x2).natAbs (x3).natAbs : Nat) : Int)))))
  have hb_q4 : 0 ≤ jsc 3 20 (jsu 2 20 (x3.tdiv (((Nat.gcd (x2).natAbs (x3).natAbs : Nat) : Int)))) ∧ jsc 3 20 (jsu 2 20 (x3.tdiv (((Nat.gcd (x2).natAbs (x3).natAbs : Nat) : Int)))) ≤ 20 := ⟨hb_q4.1, by omega⟩
  generalize hq_q4 : jsc 3 20 (jsu 2 20 (x3.tdiv (((Nat.gcd (x2).natAbs (x3).natAbs : Nat) : Int)))) = q4 at hb_q4 ⊢
  have hb_q5 := jsc_b (P := 5) (n := 20) (u := (jsu 3 20 (jsu 2 20 (x2.tdiv (((Nat.gcd (x2).natAbs (x3).natAbs : Nat) : Int))))))
  have hb_q5 : 0 ≤ jsc 5 20 (jsu 3 20 (jsu 2 20 (x2.tdiv (((Nat.gcd (x2).natAbs (x3).natAbs : Nat) : Int))))) ∧ jsc 5 20 (jsu 3 20 (jsu 2 20 (x2.tdiv (((Nat.gcd (x2).natAbs (x3).natAbs : Nat) : Int))))) ≤ 20 := ⟨hb_q5.1, by omega⟩
  generalize hq_q5 : jsc 5 20 (jsu 3 20 (jsu 2 20 (x2.tdiv (((Nat.gcd (x2).natAbs (x3).natAbs : Nat) : Int))))) = q5 at hb_q5 ⊢
  have hb_q6 := jsc_b (P := 5) (n := 20) (u := (jsu 3 20 (jsu 2 20 (x3.tdiv (((Nat.gcd (x2).natAbs (x3).natAbs : Nat) : Int))))))
  have hb_q6 : 0 ≤ jsc 5 20 (jsu 3 20 (jsu 2 20 (x3.tdiv (((Nat.gcd (x2).natAbs (x3).natAbs : Nat) : Int))))) ∧ jsc 5 20 (jsu 3 20 (jsu 2 20 (x3.tdiv (((Nat.gcd (x2).natAbs (x3).natAbs : Nat) : Int))))) ≤ 20 := ⟨hb_q6.1, by omega⟩
  generalize hq_q6 : jsc 5 20 (jsu 3 20 (jsu 2 20 (x3.tdiv (((Nat.gcd (x2).natAbs (x3).natAbs : Nat) : Int))))) = q6 at hb_q6 ⊢
  have hb_q7 := jsc_b (P := 7) (n := 20) (u := (jsu 5 20 (jsu 3 20 (jsu 2 20 (x2.tdiv (((Nat.gcd (x2).natAbs (x3).natAbs : Nat) : Int)))))))
  have hb_q7 : 0 ≤ jsc 7 20 (jsu 5 20 (jsu 3 20 (jsu 2 20 (x2.tdiv (((Nat.gcd (x2).natAbs (x3).natAbs : Nat) : Int)))))) ∧ jsc 7 20 (jsu 5 20 (jsu 3 20 (jsu 2 20 (x2.tdiv (((Nat.gcd (x2).natAbs (x3).natAbs : Nat) : Int)))))) ≤ 20 := ⟨hb_q7.1, by omega⟩
  generalize hq_q7 : jsc 7 20 (jsu 5 20 (jsu 3 20 (jsu 2 20 (x2.tdiv (((Nat.gcd (x2).natAbs (x3).natAbs : Nat) : Int)))))) = q7 at hb_q7 ⊢
  have hb_q8 := jsc_b (P := 7) (n := 20) (u := (jsu 5 20 (jsu 3 20 (jsu 2 20 (x3.tdiv (((Nat.gcd (x2).natAbs (x3).natAbs : Nat) : Int)))))))
  have hb_q8 : 0 ≤ jsc 7 20 (jsu 5 20 (jsu 3 20 (jsu 2 20 (x3.tdiv (((Nat.gcd (x2).natAbs (x3).natAbs : Nat) : Int)))))) ∧ jsc 7 20 (jsu 5 20 (jsu 3 20 (jsu 2 20 (x3.tdiv (((Nat.gcd (x2).natAbs (x3).natAbs : Nat) : Int)))))) ≤ 20 := ⟨hb_q8.1, by omega⟩
  generalize hq_q8 : jsc 7 20 (jsu 5 20 (jsu 3 20 (jsu 2 20 (x3.tdiv (((Nat.gcd (x2).natAbs (x3).natAbs : Nat) : Int)))))) = q8 at hb_q8 ⊢
  have hb_q9 := jsc_b (P := 11) (n := 20) (u := (jsu 7 20 (jsu 5 20 (jsu 3 20 (jsu 2 20 (x2.tdiv (((Nat.gcd (x2).natAbs (x3).natAbs : Nat) : Int))))))))
  have hb_q9 : 0 ≤ jsc 11 20 (jsu 7 20 (jsu 5 20 (jsu 3 20 (jsu 2 20 (x2.tdiv (((Nat.gcd (x2).natAbs (x3).natAbs : Nat) : Int))))))) ∧ jsc 11 20 (jsu 7 20 (jsu 5 20 (jsu 3 20 (jsu 2 20 (x2.tdiv (((Nat.gcd (x2).natAbs (x3).natAbs : Nat) : Int))))))) ≤ 20 := ⟨hb_q9.1, by omega⟩
  generalize hq_q9 : jsc 11 20 (jsu 7 20 (jsu 5 20 (jsu 3 20 (jsu 2 20 (x2.tdiv (((Nat.gcd (x2).natAbs (x3).natAbs : Nat) : Int))))))) = q9 at hb_q9 ⊢
  have hb_q10 := jsc_b (P := 11) (n := 20) (u := (jsu 7 20 (jsu 5 20 (jsu 3 20 (jsu 2 20 (x3.tdiv (((Nat.gcd (x2).natAbs (x3).natAbs : Nat) : Int))))))))
  have hb_q10 : 0 ≤ jsc 11 20 (jsu 7 20 (jsu 5 20 (jsu 3 20 (jsu 2 20 (x3.tdiv (((Nat.gcd (x2).natAbs (x3).natAbs : Nat) : Int))))))) ∧ jsc 11 20 (jsu 7 20 (jsu 5 20 (jsu 3 20 (jsu 2 20 (x3.tdiv (((Nat.gcd (x2).natAbs (x3).natAbs : Nat) : Int))))))) ≤ 20 := ⟨hb_q10.1, by omega⟩
  generalize hq_q10 : jsc 11 20 (jsu 7 20 (jsu 5 20 (jsu 3 20 (jsu 2 20 (x3.tdiv (((Nat.gcd (x2).natAbs (x3).natAbs : Nat) : Int))))))) = q10 at hb_q10 ⊢
  have hb_q11 := jsc_b (P := 13) (n := 20) (u := (jsu 11 20 (jsu 7 20 (jsu 5 20 (jsu 3 20 (jsu 2 20 (x2.tdiv (((Nat.gcd (x2).natAbs (x3).natAbs : Nat) : Int)))))))))
  have hb_q11 : 0 ≤ jsc 13 20 (jsu 11 20 (jsu 7 20 (jsu 5 20 (jsu 3 20 (jsu 2 20 (x2.tdiv (((Nat.gcd (x2).natAbs (x3).natAbs : Nat) : Int)))))))) ∧ jsc 13 20 (jsu 11 20 (jsu 7 20 (jsu 5 20 (jsu 3 20 (jsu 2 20 (x2.tdiv (((Nat.gcd (x2).natAbs (x3).natAbs : Nat) : Int)))))))) ≤ 20 := ⟨hb_q11.1, by omega⟩
  generalize hq_q11 : jsc 13 20 (jsu 11 20 (jsu 7 20 (jsu 5 20 (jsu 3 20 (jsu 2 20 (x2.tdiv (((Nat.gcd (x2).natAbs (x3).natAbs : Nat) : Int)))))))) = q11 at hb_q11 ⊢
  have hb_q12 := jsc_b (P := 13) (n := 20) (u := (jsu 11 20 (jsu 7 20 (jsu 5 20 (jsu 3 20 (jsu 2 20 (x3.tdiv (((Nat.gcd (x2).natAbs (x3).natAbs : Nat) : Int)))))))))
  have hb_q12 : 0 ≤ jsc 13 20 (jsu 11 20 (jsu 7 20 (jsu 5 20 (jsu 3 20 (jsu 2 20 (x3.tdiv (((Nat.gcd (x2).natAbs (x3).natAbs : Nat) : Int)))))))) ∧ jsc 13 20 (jsu 11 20 (jsu 7 20 (jsu 5 20 (jsu 3 20 (jsu 2 20 (x3.tdiv (((Nat.gcd (x2).natAbs (x3).natAbs : Nat) : Int)))))))) ≤ 20 := ⟨hb_q12.1, by omega⟩
  generalize hq_q12 : jsc 13 20 (jsu 11 20 (jsu 7 20 (jsu 5 20 (jsu 3 20 (jsu 2 20 (x3.tdiv (((Nat.gcd (x2).natAbs (x3).natAbs : Nat) : Int)))))))) = q12 at hb_q12 ⊢
  refine jT_eq (LN := [(0, (4, 0)), (1, (0, x1)), (2, (0, x2)), (3, (0, x3))]) (stN := [(4, (-1))]) (hsN := [jzH_5, jgh, jgh, jgh, jgh, jgh, jgh, jgh, jgh, jgh, jgh, jgh, (101, [], [q1 - q2, q3 - q4, q5 - q6, q7 - q8, -q10 + q9, q11 - q12])]) (rfl) (rfl) (by simp only [List.cons.injEq, Prod.mk.injEq, and_true, true_and] <;> ((try unfold jw); (try unfold jwl); omega)) ?_
  refine jT_xastore (v := (4, (-1))) (LN := [(4, (4, (-1))), (0, (4, 0)), (1, (0, x1)), (2, (0, x2)), (3, (0, x3))]) (pcN := 30) jIH_114_28 rfl rfl rfl rfl ?_
  refine jT_xaload_n (v := (4, 0)) (pcN := 31) jIH_114_30 rfl rfl rfl ?_
  refine jT_xaload (v := (4, (-1))) (pcN := 33) jIH_114_31 rfl rfl rfl ?_
  subst hq_q12
  subst hq_q11
  subst hq_q10
  subst hq_q9
  subst hq_q8
  subst hq_q7
  subst hq_q6
  subst hq_q5
  subst hq_q4
  subst hq_q3
  subst hq_q2
  subst hq_q1
  exact jT_callX [0] (y := 117) (pcN := 36) (dC := 0) (bc1 := 1) (bc2 := 6) (as := [(4, 0), (4, (-1))]) (asC := [(4, 0), (4, (-1))]) (LN := [(4, (4, (-1))), (0, (4, 0)), (1, (0, x1)), (2, (0, x2)), (3, (0, x3))]) (stN := []) (hsC := [jgh]) (e := 2) (jH_117_38 (d := 0)) (by rfl) (by rfl) (by rfl) (by rfl) ⟨rfl, trivial⟩ (by rfl) (by rfl) (by omega) (by show 12 ≤ 13; omega) (by omega) (by omega) ⟨rfl, ⟨rfl, rfl, rfl⟩⟩
theorem jH_326_61 {xs : List Int} {d : Nat} {x1 x2 x3 : Int} (h_x1 : 0 ≤ x1 ∧ x1 ≤ 7) (h_x2 : 1 ≤ x2 ∧ x2 ≤ 1000000) (h_x3 : 1 ≤ x3 ∧ x3 ≤ 1000000) (g_0 : (jsu 13 20 (jsu 11 20 (jsu 7 20 (jsu 5 20 (jsu 3 20 (jsu 2 20 (x2.tdiv (((Nat.gcd (x2).natAbs (x3).natAbs : Nat) : Int))))))))) - 2 < 0) (g_1 : 0 ≤ (jsu 13 20 (jsu 11 20 (jsu 7 20 (jsu 5 20 (jsu 3 20 (jsu 2 20 (x3.tdiv (((Nat.gcd (x2).natAbs (x3).natAbs : Nat) : Int))))))))) - 2) : jT xs (d + 3) 326 13 0 [(0, (4, 0)), (1, (0, x1)), (2, (0, x2)), (3, (0, x3)), (4, (4, 1))] [] jpH_14 2 12 (fun k v hsN => k = 0 ∧ v = (0, 3) ∧ hsN = jpH_14 ++ [(101, [], [(jsc 2 20 (x2.tdiv (((Nat.gcd (x2).natAbs (x3).natAbs : Nat) : Int)))) - (jsc 2 20 (x3.tdiv (((Nat.gcd (x2).natAbs (x3).natAbs : Nat) : Int)))), (jsc 3 20 (jsu 2 20 (x2.tdiv (((Nat.gcd (x2).natAbs (x3).natAbs : Nat) : Int))))) - (jsc 3 20 (jsu 2 20 (x3.tdiv (((Nat.gcd (x2).natAbs (x3).natAbs : Nat) : Int))))), (jsc 5 20 (jsu 3 20 (jsu 2 20 (x2.tdiv (((Nat.gcd (x2).natAbs (x3).natAbs : Nat) : Int)))))) - (jsc 5 20 (jsu 3 20 (jsu 2 20 (x3.tdiv (((Nat.gcd (x2).natAbs (x3).natAbs : Nat) : Int)))))), (jsc 7 20 (jsu 5 20 (jsu 3 20 (jsu 2 20 (x2.tdiv (((Nat.gcd (x2).natAbs (x3).natAbs : Nat) : Int))))))) - (jsc 7 20 (jsu 5 20 (jsu 3 20 (jsu 2 20 (x3.tdiv (((Nat.gcd (x2).natAbs (x3).natAbs : Nat) : Int))))))), -(jsc 11 20 (jsu 7 20 (jsu 5 20 (jsu 3 20 (jsu 2 20 (x3.tdiv (((Nat.gcd (x2).natAbs (x3).natAbs : Nat) : Int)))))))) + (jsc 11 20 (jsu 7 20 (jsu 5 20 (jsu 3 20 (jsu 2 20 (x2.tdiv (((Nat.gcd (x2).natAbs (x3).natAbs : Nat) : Int)))))))), (jsc 13 20 (jsu 11 20 (jsu 7 20 (jsu 5 20 (jsu 3 20 (jsu 2 20 (x2.tdiv (((Nat.gcd (x2).natAbs (x3).natAbs : Nat) : Int))))))))) - (jsc 13 20 (jsu 11 20 (jsu 7 20 (jsu 5 20 (jsu 3 20 (jsu 2 20 (x3.tdiv (((Nat.gcd (x2).natAbs (x3).natAbs : Nat) : Int)))))))))])]) := by
  refine jT_xaload (v := (4, 1)) (pcN := 2) jIH_326_0 rfl rfl rfl ?_
  refine jT_xiconst (k := 0) (pcN := 3) jIH_326_2 rfl ?_
  refine jT_xaload_n (v := (4, 0)) (pcN := 4) jIH_326_3 rfl rfl rfl ?_
  refine jT_xiload_n (v := (0, x1)) (pcN := 5) jIH_326_4 rfl rfl rfl ?_
  refine jT_xiload_n (v := (0, x2)) (pcN := 6) jIH_326_5 rfl rfl rfl ?_
  refine jT_xiload_n (v := (0, x3)) (pcN := 7) jIH_326_6 rfl rfl rfl ?_
  exact jT_fY [0, 2, 3, 4, 5, 6, 7, 8, 9, 10, 11, 12] 13 (y := 114) (pcN := 10) (dC := 2) (bc1 := 2) (bc2 := 12) (as := [(4, 0), (0, x1), (0, x2), (0, x3)]) (asC := [(4, 0), (0, x1), (0, x2), (0, x3)]) (LN := [(0, (4, 0)), (1, (0, x1)), (2, (0, x2)), (3, (0, x3)), (4, (4, 1))]) (stN := [(0, 0), (4, 1)]) (hsC := jpH_6) (hsD := [jzH_5, jgh, jgh, jgh, jgh, jgh, jgh, jgh, jgh, jgh, jgh, jgh, (101, [], [(jsc 2 20 (x2.tdiv (((Nat.gcd (x2).natAbs (x3).natAbs : Nat) : Int)))) - (jsc 2 20 (x3.tdiv (((Nat.gcd (x2).natAbs (x3).natAbs : Nat) : Int)))), (jsc 3 20 (jsu 2 20 (x2.tdiv (((Nat.gcd (x2).natAbs (x3).natAbs : Nat) : Int))))) - (jsc 3 20 (jsu 2 20 (x3.tdiv (((Nat.gcd (x2).natAbs (x3).natAbs : Nat) : Int))))), (jsc 5 20 (jsu 3 20 (jsu 2 20 (x2.tdiv (((Nat.gcd (x2).natAbs (x3).natAbs : Nat) : Int)))))) - (jsc 5 20 (jsu 3 20 (jsu 2 20 (x3.tdiv (((Nat.gcd (x2).natAbs (x3).natAbs : Nat) : Int)))))), (jsc 7 20 (jsu 5 20 (jsu 3 20 (jsu 2 20 (x2.tdiv (((Nat.gcd (x2).natAbs (x3).natAbs : Nat) : Int))))))) - (jsc 7 20 (jsu 5 20 (jsu 3 20 (jsu 2 20 (x3.tdiv (((Nat.gcd (x2).natAbs (x3).natAbs : Nat) : Int))))))), -(jsc 11 20 (jsu 7 20 (jsu 5 20 (jsu 3 20 (jsu 2 20 (x3.tdiv (((Nat.gcd (x2).natAbs (x3).natAbs : Nat) : Int)))))))) + (jsc 11 20 (jsu 7 20 (jsu 5 20 (jsu 3 20 (jsu 2 20 (x2.tdiv (((Nat.gcd (x2).natAbs (x3).natAbs : Nat) : Int)))))))), (jsc 13 20 (jsu 11 20 (jsu 7 20 (jsu 5 20 (jsu 3 20 (jsu 2 20 (x2.tdiv (((Nat.gcd (x2).natAbs (x3).natAbs : Nat) : Int))))))))) - (jsc 13 20 (jsu 11 20 (jsu 7 20 (jsu 5 20 (jsu 3 20 (jsu 2 20 (x3.tdiv (((Nat.gcd (x2).natAbs (x3).natAbs : Nat) : Int)))))))))])]) (hs2 := [jzH_13, jgh, jgh, jgh, jgh, jgh, jgh, jgh, jgh, jgh, jgh, jgh, jgh, (101, [], [(jsc 2 20 (x2.tdiv (((Nat.gcd (x2).natAbs (x3).natAbs : Nat) : Int)))) - (jsc 2 20 (x3.tdiv (((Nat.gcd (x2).natAbs (x3).natAbs : Nat) : Int)))), (jsc 3 20 (jsu 2 20 (x2.tdiv (((Nat.gcd (x2).natAbs (x3).natAbs : Nat) : Int))))) - (jsc 3 20 (jsu 2 20 (x3.tdiv (((Nat.gcd (x2).natAbs (x3).natAbs : Nat) : Int))))), (jsc 5 20 (jsu 3 20 (jsu 2 20 (x2.tdiv (((Nat.gcd (x2).natAbs (x3).natAbs : Nat) : Int)))))) - (jsc 5 20 (jsu 3 20 (jsu 2 20 (x3.tdiv (((Nat.gcd (x2).natAbs (x3).natAbs : Nat) : Int)))))), (jsc 7 20 (jsu 5 20 (jsu 3 20 (jsu 2 20 (x2.tdiv (((Nat.gcd (x2).natAbs (x3).natAbs : Nat) : Int))))))) - (jsc 7 20 (jsu 5 20 (jsu 3 20 (jsu 2 20 (x3.tdiv (((Nat.gcd (x2).natAbs (x3).natAbs : Nat) : Int))))))), -(jsc 11 20 (jsu 7 20 (jsu 5 20 (jsu 3 20 (jsu 2 20 (x3.tdiv (((Nat.gcd (x2).natAbs (x3).natAbs : Nat) : Int)))))))) + (jsc 11 20 (jsu 7 20 (jsu 5 20 (jsu 3 20 (jsu 2 20 (x2.tdiv (((Nat.gcd (x2).natAbs (x3).natAbs : Nat) : Int)))))))), (jsc 13 20 (jsu 11 20 (jsu 7 20 (jsu 5 20 (jsu 3 20 (jsu 2 20 (x2.tdiv (((Nat.gcd (x2).natAbs (x3).natAbs : Nat) : Int))))))))) - (jsc 13 20 (jsu 11 20 (jsu 7 20 (jsu 5 20 (jsu 3 20 (jsu 2 20 (x3.tdiv (((Nat.gcd (x2).natAbs (x3).natAbs : Nat) : Int)))))))))])]) (e := 2) (jH_114_60 (d := 0) (by omega) (by omega) (by omega) (by omega) (by omega)) (by rfl) (by rfl) (by decide +kernel) (by rfl) (by rfl) (by omega) (by omega) (by omega) (by omega) rfl (show _ from ⟨rfl, rfl, rfl⟩)
theorem jIH_192_119 : jmI (jm 192) 119 = (.iload 5, 2) := by rfl
theorem jIH_192_121 : jmI (jm 192) 121 = (.iconst 1, 1) := by rfl
theorem jIH_192_122 : jmI (jm 192) 122 = (.if_icmp .ne 7, 3) := by rfl
theorem jH_192_62 {xs : List Int} {d : Nat} {x2 x3 : Int} (h_x2 : 1 ≤ x2 ∧ x2 ≤ 1000000) (h_x3 : 1 ≤ x3 ∧ x3 ≤ 1000000) (g_0 : (jsu 13 20 (jsu 11 20 (jsu 7 20 (jsu 5 20 (jsu 3 20 (jsu 2 20 (x2.tdiv (((Nat.gcd (x2).natAbs (x3).natAbs : Nat) : Int))))))))) - 2 < 0) (g_1 : 0 ≤ (jsu 13 20 (jsu 11 20 (jsu 7 20 (jsu 5 20 (jsu 3 20 (jsu 2 20 (x3.tdiv (((Nat.gcd (x2).natAbs (x3).natAbs : Nat) : Int))))))))) - 2) : jT xs (d + 42) 192 16 0 [(0, (4, 0)), (1, (0, x2)), (2, (0, x3))] [] jpH_134 0 0 (fun k v hsN => k = 0 ∧ v = (0, 0) ∧ hsN = [jzH_20, jgh, jgh, jgh, jgh, jgh, jgh, (101, [], [(jsc 2 20 (x2.tdiv (((Nat.gcd (x2).natAbs (x3).natAbs : Nat) : Int)))) - (jsc 2 20 (x3.tdiv (((Nat.gcd (x2).natAbs (x3).natAbs : Nat) : Int)))), -(jsc 3 20 (jsu 2 20 (x3.tdiv (((Nat.gcd (x2).natAbs (x3).natAbs : Nat) : Int))))) + (jsc 3 20 (jsu 2 20 (x2.tdiv (((Nat.gcd (x2).natAbs (x3).natAbs : Nat) : Int))))), (jsc 5 20 (jsu 3 20 (jsu 2 20 (x2.tdiv (((Nat.gcd (x2).natAbs (x3).natAbs : Nat) : Int)))))) - (jsc 5 20 (jsu 3 20 (jsu 2 20 (x3.tdiv (((Nat.gcd (x2).natAbs (x3).natAbs : Nat) : Int)))))), (jsc 7 20 (jsu 5 20 (jsu 3 20 (jsu 2 20 (x2.tdiv (((Nat.gcd (x2).natAbs (x3).natAbs : Nat) : Int))))))) - (jsc 7 20 (jsu 5 20 (jsu 3 20 (jsu 2 20 (x3.tdiv (((Nat.gcd (x2).natAbs (x3).natAbs : Nat) : Int))))))), (jsc 11 20 (jsu 7 20 (jsu 5 20 (jsu 3 20 (jsu 2 20 (x2.tdiv (((Nat.gcd (x2).natAbs (x3).natAbs : Nat) : Int)))))))) - (jsc 11 20 (jsu 7 20 (jsu 5 20 (jsu 3 20 (jsu 2 20 (x3.tdiv (((Nat.gcd (x2).natAbs (x3).natAbs : Nat) : Int)))))))), (jsc 13 20 (jsu 11 20 (jsu 7 20 (jsu 5 20 (jsu 3 20 (jsu 2 20 (x2.tdiv (((Nat.gcd (x2).natAbs (x3).natAbs : Nat) : Int))))))))) - (jsc 13 20 (jsu 11 20 (jsu 7 20 (jsu 5 20 (jsu 3 20 (jsu 2 20 (x3.tdiv (((Nat.gcd (x2).natAbs (x3).natAbs : Nat) : Int)))))))))]), jgh, jgh, jgh, jgh, jgh, jgh, jgh, jgh]) := by
  refine jT_xaload_n (v := (4, 0)) (pcN := 1) jIH_192_0 rfl rfl rfl ?_
  refine jT_fR [0, 1, 2, 3, 4, 5, 6, 7, 8, 9, 10, 11, 12, 13, 14, 15] 16 (y := 193) (pcN := 4) (dC := 0) (bc1 := 0) (bc2 := 0) (c1 := 0) (c2 := 0) (as := [(4, 0)]) (asC := [(4, 0)]) (LN := [(0, (4, 0)), (1, (0, x2)), (2, (0, x3))]) (stN := []) (hsC := jpH_134) (v := (9, 0)) (st2 := []) (jH_193_42 (d := 0)) (by rfl) (by rfl) (by decide +kernel) (by rfl) (by rfl) (by omega) (by omega) (by omega) (by omega) rfl ?_
  refine jT_xiload_n (v := (0, x2)) (pcN := 5) jIH_192_4 rfl rfl rfl ?_
  refine jT_xi2l (x := x2) (z := x2) (pcN := 6) jIH_192_5 rfl (jw_idd (by omega) (by omega)) rfl ?_
  refine jT_xiload_n (v := (0, x3)) (pcN := 7) jIH_192_6 rfl rfl rfl ?_
  refine jT_xi2l (x := x3) (z := x3) (pcN := 8) jIH_192_7 rfl (jw_idd (by omega) (by omega)) rfl ?_
  refine jT_fR [] 16 (y := 194) (pcN := 11) (dC := 41) (bc1 := 0) (bc2 := 0) (c1 := 0) (c2 := 0) (as := [(1, x2), (1, x3)]) (asC := [(1, x2), (1, x3)]) (LN := [(0, (4, 0)), (1, (0, x2)), (2, (0, x3))]) (stN := []) (hsC := []) (v := (1, ((Nat.gcd (x2).natAbs (x3).natAbs : Nat) : Int))) (st2 := [(1, ((Nat.gcd (x2).natAbs (x3).natAbs : Nat) : Int))]) (jT_gcd 20 0 (x2) (x3) (by omega) (by omega) (show (x3).natAbs < 1048576 by omega)) (by rfl) (by rfl) (by decide +kernel) (by rfl) (by rfl) (by omega) (by omega) (by omega) (by omega) rfl ?_
  have hb_q1 := jgcd_l (x := x2) (y := x3) (by omega)
  have hb_q1 : 1 ≤ ((Nat.gcd (x2).natAbs (x3).natAbs : Nat) : Int) ∧ ((Nat.gcd (x2).natAbs (x3).natAbs : Nat) : Int) ≤ 1000000 := ⟨hb_q1.1, by omega⟩
  generalize hq_q1 : ((Nat.gcd (x2).natAbs (x3).natAbs : Nat) : Int) = q1 at hb_q1 g_0 g_1 ⊢
  refine jT_xl2i (pcN := 12) jIH_192_11 rfl rfl ?_
  refine jT_xistore_n (v := (0, q1)) (LN := [(3, (0, q1)), (0, (4, 0)), (1, (0, x2)), (2, (0, x3))]) (pcN := 13) jIH_192_12 rfl rfl rfl rfl ?_
  refine jT_xiload_n (v := (0, x2)) (pcN := 14) jIH_192_13 rfl rfl rfl ?_
  refine jT_xiload_n (v := (0, q1)) (pcN := 15) jIH_192_14 rfl rfl rfl ?_
  refine jT_idiv (a := x2) (b := q1) (by rfl) (by rfl) (jw_idd (by omega) (by omega)) (jw_idd (by omega) (by omega)) (by omega) ?_
  have hb_q2 := jfr_b hq_q1 (by omega) (by omega)
  generalize hq_q2 : x2.tdiv q1 = q2 at hb_q2 g_0 ⊢
  refine jT_xistore (v := (0, q2)) (LN := [(4, (0, q2)), (3, (0, q1)), (0, (4, 0)), (1, (0, x2)), (2, (0, x3))]) (pcN := 18) jIH_192_16 rfl rfl rfl rfl ?_
  refine jT_xiload_n (v := (0, x3)) (pcN := 19) jIH_192_18 rfl rfl rfl ?_
  refine jT_xiload_n (v := (0, q1)) (pcN := 20) jIH_192_19 rfl rfl rfl ?_
  refine jT_idiv (a := x3) (b := q1) (by rfl) (by rfl) (jw_idd (by omega) (by omega)) (jw_idd (by omega) (by omega)) (by omega) ?_
  have hb_q3 := jfr_b2 hq_q1 (by omega) (by omega)
  generalize hq_q3 : x3.tdiv q1 = q3 at hb_q3 g_1 ⊢
  refine jT_xistore (v := (0, q3)) (LN := [(5, (0, q3)), (4, (0, q2)), (3, (0, q1)), (0, (4, 0)), (1, (0, x2)), (2, (0, x3))]) (pcN := 23) jIH_192_21 rfl rfl rfl rfl ?_
  refine jT_xiconst (k := 0) (pcN := 24) jIH_192_23 rfl ?_
  refine jT_xistore (v := (0, 0)) (LN := [(6, (0, 0)), (5, (0, q3)), (4, (0, q2)), (3, (0, q1)), (0, (4, 0)), (1, (0, x2)), (2, (0, x3))]) (pcN := 26) jIH_192_24 rfl rfl rfl rfl ?_
  refine jT_xiload (v := (0, 0)) (pcN := 28) jIH_192_26 rfl rfl rfl ?_
  refine jT_xbipush (k := 6) (pcN := 30) jIH_192_28 (by decide) rfl ?_
  refine jT_xicF (t := 113) (pcN := 33) jIH_192_30 rfl (by decide +kernel) rfl rfl ?_
  refine jT_loc (LN := [(4, (0, q2)), (5, (0, q3)), (0, (4, 0)), (6, (0, 0))]) (by show List.Nodup [4, 5, 0, 6]; decide) (by intro q hq; simp only [List.mem_cons, List.not_mem_nil, or_false] at hq; rcases hq with rfl | rfl | rfl | rfl <;> rfl) ?_
  refine jHl_fr_43 (y5 := q3) (e1 := 0) (e2 := 0) (e3 := 0) (e4 := 0) (e5 := 0) 20 q2 0 (by omega) (by omega) (Int.lt_of_le_of_lt (show q2 ≤ (1000000 : Int) by omega) (by decide)) ?_
  have hb_q4 := jsu_b (P := 2) (by decide) (n := 20) (u := q2) (by omega) (by omega)
  generalize hq_q4 : jsu 2 20 q2 = q4 at hb_q4 g_0 ⊢
  have hb_q5 := jsc_b (P := 2) (n := 20) (u := q2)
  have hb_q5 : 0 ≤ jsc 2 20 q2 ∧ jsc 2 20 q2 ≤ 20 := ⟨hb_q5.1, by omega⟩
  generalize hq_q5 : jsc 2 20 q2 = q5 at hb_q5 ⊢
  refine jT_eq (LN := [(4, (0, q4)), (5, (0, q3)), (0, (4, 0)), (6, (0, 0))]) (stN := []) (hsN := [jzH_20, jgh, jgh, jgh, jgh, jgh, jgh, (101, [], [q5, 0, 0, 0, 0, 0]), jgh, jgh, jgh, jgh, jgh, jgh, jgh, jgh]) (rfl) (rfl) (by simp only [List.cons.injEq, Prod.mk.injEq, and_true, true_and] <;> ((try unfold jw); (try unfold jwl); omega)) ?_
  refine jT_loc (LN := [(5, (0, q3)), (4, (0, q4)), (0, (4, 0)), (6, (0, 0))]) (by show List.Nodup [5, 4, 0, 6]; decide) (by intro q hq; simp only [List.mem_cons, List.not_mem_nil, or_false] at hq; rcases hq with rfl | rfl | rfl | rfl <;> rfl) ?_
  refine jHl_fr_44 (y4 := q4) (e1 := 0) (e2 := 0) (e3 := 0) (e4 := 0) (e5 := 0) 20 q3 q5 (by omega) (by omega) (Int.lt_of_le_of_lt (show q3 ≤ (1000000 : Int) by omega) (by decide)) ?_
  have hb_q6 := jsu_b (P := 2) (by decide) (n := 20) (u := q3) (by omega) (by omega)
  generalize hq_q6 : jsu 2 20 q3 = q6 at hb_q6 g_1 ⊢
  have hb_q7 := jsc_b (P := 2) (n := 20) (u := q3)
  have hb_q7 : 0 ≤ jsc 2 20 q3 ∧ jsc 2 20 q3 ≤ 20 := ⟨hb_q7.1, by omega⟩
  generalize hq_q7 : jsc 2 20 q3 = q7 at hb_q7 ⊢
  refine jT_xiinc (x := 0) (z := 1) (LN := [(6, (0, 1)), (5, (0, q6)), (4, (0, q4)), (0, (4, 0))]) (pcN := 110) jIH_192_107 rfl rfl (by decide) rfl rfl ?_
  refine jT_xgoto (pcN := 26) jIH_192_110 rfl ?_
  refine jT_xiload (v := (0, 1)) (pcN := 28) jIH_192_26 rfl rfl rfl ?_
  refine jT_xbipush (k := 6) (pcN := 30) jIH_192_28 (by decide) rfl ?_
  refine jT_xicF (t := 113) (pcN := 33) jIH_192_30 rfl (by decide +kernel) rfl rfl ?_
  refine jT_loc (LN := [(4, (0, q4)), (5, (0, q6)), (0, (4, 0)), (6, (0, 1))]) (by show List.Nodup [4, 5, 0, 6]; decide) (by intro q hq; simp only [List.mem_cons, List.not_mem_nil, or_false] at hq; rcases hq with rfl | rfl | rfl | rfl <;> rfl) ?_
  refine jHl_fr_45 (y5 := q6) (e0 := q5 - q7) (e2 := 0) (e3 := 0) (e4 := 0) (e5 := 0) 20 q4 0 (by omega) (by omega) (Int.lt_of_le_of_lt (show q4 ≤ (1000000 : Int) by omega) (by decide)) ?_
  have hb_q8 := jsu_b (P := 3) (by decide) (n := 20) (u := q4) (by omega) (by omega)
  generalize hq_q8 : jsu 3 20 q4 = q8 at hb_q8 g_0 ⊢
  have hb_q9 := jsc_b (P := 3) (n := 20) (u := q4)
  have hb_q9 : 0 ≤ jsc 3 20 q4 ∧ jsc 3 20 q4 ≤ 20 := ⟨hb_q9.1, by omega⟩
  generalize hq_q9 : jsc 3 20 q4 = q9 at hb_q9 ⊢
  refine jT_eq (LN := [(4, (0, q8)), (5, (0, q6)), (0, (4, 0)), (6, (0, 1))]) (stN := []) (hsN := [jzH_20, jgh, jgh, jgh, jgh, jgh, jgh, (101, [], [q5 - q7, q9, 0, 0, 0, 0]), jgh, jgh, jgh, jgh, jgh, jgh, jgh, jgh]) (rfl) (rfl) (by simp only [List.cons.injEq, Prod.mk.injEq, and_true, true_and] <;> ((try unfold jw); (try unfold jwl); omega)) ?_
  refine jT_loc (LN := [(5, (0, q6)), (4, (0, q8)), (0, (4, 0)), (6, (0, 1))]) (by show List.Nodup [5, 4, 0, 6]; decide) (by intro q hq; simp only [List.mem_cons, List.not_mem_nil, or_false] at hq; rcases hq with rfl | rfl | rfl | rfl <;> rfl) ?_
  refine jHl_fr_46 (y4 := q8) (e0 := q5 - q7) (e2 := 0) (e3 := 0) (e4 := 0) (e5 := 0) 20 q6 q9 (by omega) (by omega) (Int.lt_of_le_of_lt (show q6 ≤ (1000000 : Int) by omega) (by decide)) ?_
  have hb_q10 := jsu_b (P := 3) (by decide) (n := 20) (u := q6) (by omega) (by omega)
  generalize hq_q10 : jsu 3 20 q6 = q10 at hb_q10 g_1 ⊢
  have hb_q11 := jsc_b (P := 3) (n := 20) (u := q6)
  have hb_q11 : 0 ≤ jsc 3 20 q6 ∧ jsc 3 20 q6 ≤ 20 := ⟨hb_q11.1, by omega⟩
  generalize hq_q11 : jsc 3 20 q6 = q11 at hb_q11 ⊢
  refine jT_eq (LN := [(5, (0, q10)), (4, (0, q8)), (0, (4, 0)), (6, (0, 1))]) (stN := []) (hsN := [jzH_20, jgh, jgh, jgh, jgh, jgh, jgh, (101, [], [q5 - q7, -q11 + q9, 0, 0, 0, 0]), jgh, jgh, jgh, jgh, jgh, jgh, jgh, jgh]) (rfl) (rfl) (by simp only [List.cons.injEq, Prod.mk.injEq, and_true, true_and] <;> ((try unfold jw); (try unfold jwl); omega)) ?_
  refine jT_xiinc (x := 1) (z := 2) (LN := [(6, (0, 2)), (5, (0, q10)), (4, (0, q8)), (0, (4, 0))]) (pcN := 110) jIH_192_107 rfl rfl (by decide) rfl rfl ?_
  refine jT_xgoto (pcN := 26) jIH_192_110 rfl ?_
  refine jT_xiload (v := (0, 2)) (pcN := 28) jIH_192_26 rfl rfl rfl ?_
  refine jT_xbipush (k := 6) (pcN := 30) jIH_192_28 (by decide) rfl ?_
  refine jT_xicF (t := 113) (pcN := 33) jIH_192_30 rfl (by decide +kernel) rfl rfl ?_
  refine jT_loc (LN := [(4, (0, q8)), (5, (0, q10)), (0, (4, 0)), (6, (0, 2))]) (by show List.Nodup [4, 5, 0, 6]; decide) (by intro q hq; simp only [List.mem_cons, List.not_mem_nil, or_false] at hq; rcases hq with rfl | rfl | rfl | rfl <;> rfl) ?_
  refine jHl_fr_47 (y5 := q10) (e0 := q5 - q7) (e1 := -q11 + q9) (e3 := 0) (e4 := 0) (e5 := 0) 20 q8 0 (by omega) (by omega) (Int.lt_of_le_of_lt (show q8 ≤ (1000000 : Int) by omega) (by decide)) ?_
  have hb_q12 := jsu_b (P := 5) (by decide) (n := 20) (u := q8) (by omega) (by omega)
  generalize hq_q12 : jsu 5 20 q8 = q12 at hb_q12 g_0 ⊢
  have hb_q13 := jsc_b (P := 5) (n := 20) (u := q8)
  have hb_q13 : 0 ≤ jsc 5 20 q8 ∧ jsc 5 20 q8 ≤ 20 := ⟨hb_q13.1, by omega⟩
  generalize hq_q13 : jsc 5 20 q8 = q13 at hb_q13 ⊢
  refine jT_eq (LN := [(4, (0, q12)), (5, (0, q10)), (0, (4, 0)), (6, (0, 2))]) (stN := []) (hsN := [jzH_20, jgh, jgh, jgh, jgh, jgh, jgh, (101, [], [q5 - q7, -q11 + q9, q13, 0, 0, 0]), jgh, jgh, jgh, jgh, jgh, jgh, jgh, jgh]) (rfl) (rfl) (by simp only [List.cons.injEq, Prod.mk.injEq, and_true, true_and] <;> ((try unfold jw); (try unfold jwl); omega)) ?_
  refine jT_loc (LN := [(5, (0, q10)), (4, (0, q12)), (0, (4, 0)), (6, (0, 2))]) (by show List.Nodup [5, 4, 0, 6]; decide) (by intro q hq; simp only [List.mem_cons, List.not_mem_nil, or_false] at hq; rcases hq with rfl | rfl | rfl | rfl <;> rfl) ?_
  refine jHl_fr_48 (y4 := q12) (e0 := q5 - q7) (e1 := -q11 + q9) (e3 := 0) (e4 := 0) (e5 := 0) 20 q10 q13 (by omega) (by omega) (Int.lt_of_le_of_lt (show q10 ≤ (1000000 : Int) by omega) (by decide)) ?_
  have hb_q14 := jsu_b (P := 5) (by decide) (n := 20) (u := q10) (by omega) (by omega)
  generalize hq_q14 : jsu 5 20 q10 = q14 at hb_q14 g_1 ⊢
  have hb_q15 := jsc_b (P := 5) (n := 20) (u := q10)
  have hb_q15 : 0 ≤ jsc 5 20 q10 ∧ jsc 5 20 q10 ≤ 20 := ⟨hb_q15.1, by omega⟩
  generalize hq_q15 : jsc 5 20 q10 = q15 at hb_q15 ⊢
  refine jT_xiinc (x := 2) (z := 3) (LN := [(6, (0, 3)), (5, (0, q14)), (4, (0, q12)), (0, (4, 0))]) (pcN := 110) jIH_192_107 rfl rfl (by decide) rfl rfl ?_
  refine jT_xgoto (pcN := 26) jIH_192_110 rfl ?_
  refine jT_xiload (v := (0, 3)) (pcN := 28) jIH_192_26 rfl rfl rfl ?_
  refine jT_xbipush (k := 6) (pcN := 30) jIH_192_28 (by decide) rfl ?_
  refine jT_xicF (t := 113) (pcN := 33) jIH_192_30 rfl (by decide +kernel) rfl rfl ?_
  refine jT_loc (LN := [(4, (0, q12)), (5, (0, q14)), (0, (4, 0)), (6, (0, 3))]) (by show List.Nodup [4, 5, 0, 6]; decide) (by intro q hq; simp only [List.mem_cons, List.not_mem_nil, or_false] at hq; rcases hq with rfl | rfl | rfl | rfl <;> rfl) ?_
  refine jHl_fr_49 (y5 := q14) (e0 := q5 - q7) (e1 := -q11 + q9) (e2 := q13 - q15) (e4 := 0) (e5 := 0) 20 q12 0 (by omega) (by omega) (Int.lt_of_le_of_lt (show q12 ≤ (1000000 : Int) by omega) (by decide)) ?_
  have hb_q16 := jsu_b (P := 7) (by decide) (n := 20) (u := q12) (by omega) (by omega)
  generalize hq_q16 : jsu 7 20 q12 = q16 at hb_q16 g_0 ⊢
  have hb_q17 := jsc_b (P := 7) (n := 20) (u := q12)
  have hb_q17 : 0 ≤ jsc 7 20 q12 ∧ jsc 7 20 q12 ≤ 20 := ⟨hb_q17.1, by omega⟩
  generalize hq_q17 : jsc 7 20 q12 = q17 at hb_q17 ⊢
  refine jT_eq (LN := [(4, (0, q16)), (5, (0, q14)), (0, (4, 0)), (6, (0, 3))]) (stN := []) (hsN := [jzH_20, jgh, jgh, jgh, jgh, jgh, jgh, (101, [], [q5 - q7, -q11 + q9, q13 - q15, q17, 0, 0]), jgh, jgh, jgh, jgh, jgh, jgh, jgh, jgh]) (rfl) (rfl) (by simp only [List.cons.injEq, Prod.mk.injEq, and_true, true_and] <;> ((try unfold jw); (try unfold jwl); omega)) ?_
  refine jT_loc (LN := [(5, (0, q14)), (4, (0, q16)), (0, (4, 0)), (6, (0, 3))]) (by show List.Nodup [5, 4, 0, 6]; decide) (by intro q hq; simp only [List.mem_cons, List.not_mem_nil, or_false] at hq; rcases hq with rfl | rfl | rfl | rfl <;> rfl) ?_
  refine jHl_fr_50 (y4 := q16) (e0 := q5 - q7) (e1 := -q11 + q9) (e2 := q13 - q15) (e4 := 0) (e5 := 0) 20 q14 q17 (by omega) (by omega) (Int.lt_of_le_of_lt (show q14 ≤ (1000000 : Int) by omega) (by decide)) ?_
  have hb_q18 := jsu_b (P := 7) (by decide) (n := 20) (u := q14) (by omega) (by omega)
  generalize hq_q18 : jsu 7 20 q14 = q18 at hb_q18 g_1 ⊢
  have hb_q19 := jsc_b (P := 7) (n := 20) (u := q14)
  have hb_q19 : 0 ≤ jsc 7 20 q14 ∧ jsc 7 20 q14 ≤ 20 := ⟨hb_q19.1, by omega⟩
  generalize hq_q19 : jsc 7 20 q14 = q19 at hb_q19 ⊢
  refine jT_xiinc (x := 3) (z := 4) (LN := [(6, (0, 4)), (5, (0, q18)), (4, (0, q16)), (0, (4, 0))]) (pcN := 110) jIH_192_107 rfl rfl (by decide) rfl rfl ?_
  refine jT_xgoto (pcN := 26) jIH_192_110 rfl ?_
  refine jT_xiload (v := (0, 4)) (pcN := 28) jIH_192_26 rfl rfl rfl ?_
  refine jT_xbipush (k := 6) (pcN := 30) jIH_192_28 (by decide) rfl ?_
  refine jT_xicF (t := 113) (pcN := 33) jIH_192_30 rfl (by decide +kernel) rfl rfl ?_
  refine jT_loc (LN := [(4, (0, q16)), (5, (0, q18)), (0, (4, 0)), (6, (0, 4))]) (by show List.Nodup [4, 5, 0, 6]; decide) (by intro q hq; simp only [List.mem_cons, List.not_mem_nil, or_false] at hq; rcases hq with rfl | rfl | rfl | rfl <;> rfl) ?_
  refine jHl_fr_51 (y5 := q18) (e0 := q5 - q7) (e1 := -q11 + q9) (e2 := q13 - q15) (e3 := q17 - q19) (e5 := 0) 20 q16 0 (by omega) (by omega) (Int.lt_of_le_of_lt (show q16 ≤ (1000000 : Int) by omega) (by decide)) ?_
  have hb_q20 := jsu_b (P := 11) (by decide) (n := 20) (u := q16) (by omega) (by omega)
  generalize hq_q20 : jsu 11 20 q16 = q20 at hb_q20 g_0 ⊢
  have hb_q21 := jsc_b (P := 11) (n := 20) (u := q16)
  have hb_q21 : 0 ≤ jsc 11 20 q16 ∧ jsc 11 20 q16 ≤ 20 := ⟨hb_q21.1, by omega⟩
  generalize hq_q21 : jsc 11 20 q16 = q21 at hb_q21 ⊢
  refine jT_eq (LN := [(4, (0, q20)), (5, (0, q18)), (0, (4, 0)), (6, (0, 4))]) (stN := []) (hsN := [jzH_20, jgh, jgh, jgh, jgh, jgh, jgh, (101, [], [q5 - q7, -q11 + q9, q13 - q15, q17 - q19, q21, 0]), jgh, jgh, jgh, jgh, jgh, jgh, jgh, jgh]) (rfl) (rfl) (by simp only [List.cons.injEq, Prod.mk.injEq, and_true, true_and] <;> ((try unfold jw); (try unfold jwl); omega)) ?_
  refine jT_loc (LN := [(5, (0, q18)), (4, (0, q20)), (0, (4, 0)), (6, (0, 4))]) (by show List.Nodup [5, 4, 0, 6]; decide) (by intro q hq; simp only [List.mem_cons, List.not_mem_nil, or_false] at hq; rcases hq with rfl | rfl | rfl | rfl <;> rfl) ?_
  refine jHl_fr_52 (y4 := q20) (e0 := q5 - q7) (e1 := -q11 + q9) (e2 := q13 - q15) (e3 := q17 - q19) (e5 := 0) 20 q18 q21 (by omega) (by omega) (Int.lt_of_le_of_lt (show q18 ≤ (1000000 : Int) by omega) (by decide)) ?_
  have hb_q22 := jsu_b (P := 11) (by decide) (n := 20) (u := q18) (by omega) (by omega)
  generalize hq_q22 : jsu 11 20 q18 = q22 at hb_q22 g_1 ⊢
  have hb_q23 := jsc_b (P := 11) (n := 20) (u := q18)
  have hb_q23 : 0 ≤ jsc 11 20 q18 ∧ jsc 11 20 q18 ≤ 20 := ⟨hb_q23.1, by omega⟩
  generalize hq_q23 : jsc 11 20 q18 = q23 at hb_q23 ⊢
  refine jT_xiinc (x := 4) (z := 5) (LN := [(6, (0, 5)), (5, (0, q22)), (4, (0, q20)), (0, (4, 0))]) (pcN := 110) jIH_192_107 rfl rfl (by decide) rfl rfl ?_
  refine jT_xgoto (pcN := 26) jIH_192_110 rfl ?_
  refine jT_xiload (v := (0, 5)) (pcN := 28) jIH_192_26 rfl rfl rfl ?_
  refine jT_xbipush (k := 6) (pcN := 30) jIH_192_28 (by decide) rfl ?_
  refine jT_xicF (t := 113) (pcN := 33) jIH_192_30 rfl (by decide +kernel) rfl rfl ?_
  refine jT_loc (LN := [(4, (0, q20)), (5, (0, q22)), (0, (4, 0)), (6, (0, 5))]) (by show List.Nodup [4, 5, 0, 6]; decide) (by intro q hq; simp only [List.mem_cons, List.not_mem_nil, or_false] at hq; rcases hq with rfl | rfl | rfl | rfl <;> rfl) ?_
  refine jHl_fr_53 (y5 := q22) (e0 := q5 - q7) (e1 := -q11 + q9) (e2 := q13 - q15) (e3 := q17 - q19) (e4 := q21 - q23) 20 q20 0 (by omega) (by omega) (Int.lt_of_le_of_lt (show q20 ≤ (1000000 : Int) by omega) (by decide)) ?_
  have hb_q24 := jsu_b (P := 13) (by decide) (n := 20) (u := q20) (by omega) (by omega)
  generalize hq_q24 : jsu 13 20 q20 = q24 at hb_q24 g_0 ⊢
  have hb_q25 := jsc_b (P := 13) (n := 20) (u := q20)
  have hb_q25 : 0 ≤ jsc 13 20 q20 ∧ jsc 13 20 q20 ≤ 20 := ⟨hb_q25.1, by omega⟩
  generalize hq_q25 : jsc 13 20 q20 = q25 at hb_q25 ⊢
  refine jT_eq (LN := [(4, (0, q24)), (5, (0, q22)), (0, (4, 0)), (6, (0, 5))]) (stN := []) (hsN := [jzH_20, jgh, jgh, jgh, jgh, jgh, jgh, (101, [], [q5 - q7, -q11 + q9, q13 - q15, q17 - q19, q21 - q23, q25]), jgh, jgh, jgh, jgh, jgh, jgh, jgh, jgh]) (rfl) (rfl) (by simp only [List.cons.injEq, Prod.mk.injEq, and_true, true_and] <;> ((try unfold jw); (try unfold jwl); omega)) ?_
  refine jT_loc (LN := [(5, (0, q22)), (4, (0, q24)), (0, (4, 0)), (6, (0, 5))]) (by show List.Nodup [5, 4, 0, 6]; decide) (by intro q hq; simp only [List.mem_cons, List.not_mem_nil, or_false] at hq; rcases hq with rfl | rfl | rfl | rfl <;> rfl) ?_
  refine jHl_fr_54 (y4 := q24) (e0 := q5 - q7) (e1 := -q11 + q9) (e2 := q13 - q15) (e3 := q17 - q19) (e4 := q21 - q23) 20 q22 q25 (by omega) (by omega) (Int.lt_of_le_of_lt (show q22 ≤ (1000000 : Int) by omega) (by decide)) ?_
  have hb_q26 := jsu_b (P := 13) (by decide) (n := 20) (u := q22) (by omega) (by omega)
  generalize hq_q26 : jsu 13 20 q22 = q26 at hb_q26 g_1 ⊢
  have hb_q27 := jsc_b (P := 13) (n := 20) (u := q22)
  have hb_q27 : 0 ≤ jsc 13 20 q22 ∧ jsc 13 20 q22 ≤ 20 := ⟨hb_q27.1, by omega⟩
  generalize hq_q27 : jsc 13 20 q22 = q27 at hb_q27 ⊢
  refine jT_xiinc (x := 5) (z := 6) (LN := [(6, (0, 6)), (5, (0, q26)), (4, (0, q24)), (0, (4, 0))]) (pcN := 110) jIH_192_107 rfl rfl (by decide) rfl rfl ?_
  refine jT_xgoto (pcN := 26) jIH_192_110 rfl ?_
  refine jT_xiload (v := (0, 6)) (pcN := 28) jIH_192_26 rfl rfl rfl ?_
  refine jT_xbipush (k := 6) (pcN := 30) jIH_192_28 (by decide) rfl ?_
  refine jT_xicT (pcN := 113) jIH_192_30 rfl (by decide +kernel) rfl ?_
  refine jT_xiload (v := (0, q24)) (pcN := 115) jIH_192_113 rfl rfl rfl ?_
  refine jT_xiconst (k := 1) (pcN := 116) jIH_192_115 rfl ?_
  refine jT_icF (a := q24) (b := 1) (t := 129) (by rfl) (by rfl) (by rfl) (jw_idd (by omega) (by omega)) (jw_idd (by omega) (by omega)) (by simp only [jcP] <;> omega) ?_
  refine jT_xiload (v := (0, q26)) (pcN := 121) jIH_192_119 rfl rfl rfl ?_
  refine jT_xiconst (k := 1) (pcN := 122) jIH_192_121 rfl ?_
  refine jT_icT (a := q26) (b := 1) (t := 129) (by rfl) (by rfl) (by rfl) (jw_idd (by omega) (by omega)) (jw_idd (by omega) (by omega)) (by simp only [jcP] <;> omega) ?_
  refine jT_xiconst (k := 0) (pcN := 130) jIH_192_129 rfl ?_
  subst hq_q27
  subst hq_q26
  subst hq_q25
  subst hq_q24
  subst hq_q23
  subst hq_q22
  subst hq_q21
  subst hq_q20
  subst hq_q19
  subst hq_q18
  subst hq_q17
  subst hq_q16
  subst hq_q15
  subst hq_q14
  subst hq_q13
  subst hq_q12
  subst hq_q11
  subst hq_q10
  subst hq_q9
  subst hq_q8
  subst hq_q7
  subst hq_q6
  subst hq_q5
  subst hq_q4
  subst hq_q3
  subst hq_q2
  subst hq_q1
  exact jT_ret rfl (by decide) (by show 16 ≤ 16; omega) (by omega) (by omega) ⟨rfl, rfl, rfl⟩
theorem jH_187_63 {xs : List Int} {d : Nat} {x1 x2 x3 : Int} (h_x1 : 0 ≤ x1 ∧ x1 ≤ 7) (h_x2 : 1 ≤ x2 ∧ x2 ≤ 1000000) (h_x3 : 1 ≤ x3 ∧ x3 ≤ 1000000) (g_0 : (jsu 13 20 (jsu 11 20 (jsu 7 20 (jsu 5 20 (jsu 3 20 (jsu 2 20 (x2.tdiv (((Nat.gcd (x2).natAbs (x3).natAbs : Nat) : Int))))))))) - 2 < 0) (g_1 : 0 ≤ (jsu 13 20 (jsu 11 20 (jsu 7 20 (jsu 5 20 (jsu 3 20 (jsu 2 20 (x3.tdiv (((Nat.gcd (x2).natAbs (x3).natAbs : Nat) : Int))))))))) - 2) : jT xs (d + 43) 187 16 0 [(0, (4, 0)), (1, (0, x1)), (2, (0, x2)), (3, (0, x3))] [] jpH_134 0 0 (fun k v hsN => k = 0 ∧ v = (0, 0) ∧ hsN = [jzH_185, jgh, jgh, jgh, jgh, jgh, jgh, (101, [], [(jsc 2 20 (x2.tdiv (((Nat.gcd (x2).natAbs (x3).natAbs : Nat) : Int)))) - (jsc 2 20 (x3.tdiv (((Nat.gcd (x2).natAbs (x3).natAbs : Nat) : Int)))), (jsc 3 20 (jsu 2 20 (x2.tdiv (((Nat.gcd (x2).natAbs (x3).natAbs : Nat) : Int))))) - (jsc 3 20 (jsu 2 20 (x3.tdiv (((Nat.gcd (x2).natAbs (x3).natAbs : Nat) : Int))))), (jsc 5 20 (jsu 3 20 (jsu 2 20 (x2.tdiv (((Nat.gcd (x2).natAbs (x3).natAbs : Nat) : Int)))))) - (jsc 5 20 (jsu 3 20 (jsu 2 20 (x3.tdiv (((Nat.gcd (x2).natAbs (x3).natAbs : Nat) : Int)))))), (jsc 7 20 (jsu 5 20 (jsu 3 20 (jsu 2 20 (x2.tdiv (((Nat.gcd (x2).natAbs (x3).natAbs : Nat) : Int))))))) - (jsc 7 20 (jsu 5 20 (jsu 3 20 (jsu 2 20 (x3.tdiv (((Nat.gcd (x2).natAbs (x3).natAbs : Nat) : Int))))))), -(jsc 11 20 (jsu 7 20 (jsu 5 20 (jsu 3 20 (jsu 2 20 (x3.tdiv (((Nat.gcd (x2).natAbs (x3).natAbs : Nat) : Int)))))))) + (jsc 11 20 (jsu 7 20 (jsu 5 20 (jsu 3 20 (jsu 2 20 (x2.tdiv (((Nat.gcd (x2).natAbs (x3).natAbs : Nat) : Int)))))))), (jsc 13 20 (jsu 11 20 (jsu 7 20 (jsu 5 20 (jsu 3 20 (jsu 2 20 (x2.tdiv (((Nat.gcd (x2).natAbs (x3).natAbs : Nat) : Int))))))))) - (jsc 13 20 (jsu 11 20 (jsu 7 20 (jsu 5 20 (jsu 3 20 (jsu 2 20 (x3.tdiv (((Nat.gcd (x2).natAbs (x3).natAbs : Nat) : Int)))))))))]), jgh, jgh, jgh, jgh, jgh, jgh, jgh, jgh]) := by
  refine jT_xaload_n (v := (4, 0)) (pcN := 1) jIH_187_0 rfl rfl rfl ?_
  refine jT_xiload_n (v := (0, x1)) (pcN := 2) jIH_187_1 rfl rfl rfl ?_
  refine jT_fR [] 16 (y := 188) (pcN := 5) (dC := 1) (bc1 := 0) (bc2 := 0) (c1 := 0) (c2 := 0) (as := [(0, x1)]) (asC := [(0, x1)]) (LN := [(0, (4, 0)), (1, (0, x1)), (2, (0, x2)), (3, (0, x3))]) (stN := [(4, 0)]) (hsC := []) (v := (0, 1)) (st2 := [(0, 1), (4, 0)]) (jH_188_13 (d := 0) (by omega)) (by rfl) (by rfl) (by decide +kernel) (by rfl) (by rfl) (by omega) (by omega) (by omega) (by omega) rfl ?_
  refine jT_fR [0, 1, 2, 3, 4, 5, 6, 7, 8, 9, 10, 11, 12, 13, 14, 15] 16 (y := 190) (pcN := 8) (dC := 1) (bc1 := 0) (bc2 := 0) (c1 := 0) (c2 := 0) (as := [(4, 0), (0, 1)]) (asC := [(4, 0), (0, 1)]) (LN := [(0, (4, 0)), (1, (0, x1)), (2, (0, x2)), (3, (0, x3))]) (stN := []) (hsC := jpH_21) (v := (0, 0)) (st2 := [(0, 0)]) (jH_190_15 (d := 0)) (by rfl) (by rfl) (by decide +kernel) (by rfl) (by rfl) (by omega) (by omega) (by omega) (by omega) rfl ?_
  refine jT_xifF (t := 62) (pcN := 11) jIH_187_8 rfl (by decide +kernel) rfl rfl ?_
  refine jT_xaload_n (v := (4, 0)) (pcN := 12) jIH_187_11 rfl rfl rfl ?_
  refine jT_xiload_n (v := (0, x2)) (pcN := 13) jIH_187_12 rfl rfl rfl ?_
  refine jT_xi2l (x := x2) (z := x2) (pcN := 14) jIH_187_13 rfl (jw_idd (by omega) (by omega)) rfl ?_
  refine jT_xlconst (z := 1) (pcN := 15) jIH_187_14 rfl rfl ?_
  refine jT_adv 1 (pcN := 18) (LN := [(0, (4, 0)), (1, (0, x1)), (2, (0, x2)), (3, (0, x3))]) (stN := [(1, 1000000), (1, 1), (1, x2), (4, 0)]) (hsN := jpH_134) (c1 := 0) (s1 := 0) (c2 := 0) (s2 := 0) (by exact rfl) ?_ (by omega) (by omega)
  refine jT_fR [] 16 (y := 189) (pcN := 21) (dC := 0) (bc1 := 0) (bc2 := 0) (c1 := 0) (c2 := 0) (as := [(1, x2), (1, 1), (1, 1000000)]) (asC := [(1, x2), (1, 1), (1, 1000000)]) (LN := [(0, (4, 0)), (1, (0, x1)), (2, (0, x2)), (3, (0, x3))]) (stN := [(4, 0)]) (hsC := []) (v := (0, 1)) (st2 := [(0, 1), (4, 0)]) (jT_in_ok (d := 0) (v := x2) (lo := 1) (hi := 1000000) (by omega) (by omega) (by omega) (by omega) (by omega)) (by rfl) (by rfl) (by decide +kernel) (by rfl) (by rfl) (by omega) (by omega) (by omega) (by omega) rfl ?_
  refine jT_xifF (t := 40) (pcN := 24) jIH_187_21 rfl (by decide +kernel) rfl rfl ?_
  refine jT_xiload_n (v := (0, x3)) (pcN := 25) jIH_187_24 rfl rfl rfl ?_
  refine jT_xi2l (x := x3) (z := x3) (pcN := 26) jIH_187_25 rfl (jw_idd (by omega) (by omega)) rfl ?_
  refine jT_xlconst (z := 1) (pcN := 27) jIH_187_26 rfl rfl ?_
  refine jT_adv 1 (pcN := 30) (LN := [(0, (4, 0)), (1, (0, x1)), (2, (0, x2)), (3, (0, x3))]) (stN := [(1, 1000000), (1, 1), (1, x3), (4, 0)]) (hsN := jpH_134) (c1 := 0) (s1 := 0) (c2 := 0) (s2 := 0) (by exact rfl) ?_ (by omega) (by omega)
  refine jT_fR [] 16 (y := 189) (pcN := 33) (dC := 0) (bc1 := 0) (bc2 := 0) (c1 := 0) (c2 := 0) (as := [(1, x3), (1, 1), (1, 1000000)]) (asC := [(1, x3), (1, 1), (1, 1000000)]) (LN := [(0, (4, 0)), (1, (0, x1)), (2, (0, x2)), (3, (0, x3))]) (stN := [(4, 0)]) (hsC := []) (v := (0, 1)) (st2 := [(0, 1), (4, 0)]) (jT_in_ok (d := 0) (v := x3) (lo := 1) (hi := 1000000) (by omega) (by omega) (by omega) (by omega) (by omega)) (by rfl) (by rfl) (by decide +kernel) (by rfl) (by rfl) (by omega) (by omega) (by omega) (by omega) rfl ?_
  refine jT_xifF (t := 40) (pcN := 36) jIH_187_33 rfl (by decide +kernel) rfl rfl ?_
  refine jT_xiconst (k := 1) (pcN := 37) jIH_187_36 rfl ?_
  refine jT_xgoto (pcN := 41) jIH_187_37 rfl ?_
  refine jT_xiconst (k := 2) (pcN := 42) jIH_187_41 rfl ?_
  refine jT_fR [0] 16 (y := 191) (pcN := 45) (dC := 0) (bc1 := 0) (bc2 := 0) (c1 := 0) (c2 := 0) (as := [(4, 0), (0, 1), (0, 2)]) (asC := [(4, 0), (0, 1), (0, 2)]) (LN := [(0, (4, 0)), (1, (0, x1)), (2, (0, x2)), (3, (0, x3))]) (stN := []) (hsC := [jgh]) (v := (0, 0)) (st2 := [(0, 0)]) (jH_191_41 (d := 0)) (by rfl) (by rfl) (by decide +kernel) (by rfl) (by rfl) (by omega) (by omega) (by omega) (by omega) rfl ?_
  refine jT_xifF (t := 62) (pcN := 48) jIH_187_45 rfl (by decide +kernel) rfl rfl ?_
  refine jT_xaload_n (v := (4, 0)) (pcN := 49) jIH_187_48 rfl rfl rfl ?_
  refine jT_xaload_n (v := (4, 0)) (pcN := 50) jIH_187_49 rfl rfl rfl ?_
  refine jT_xiload_n (v := (0, x2)) (pcN := 51) jIH_187_50 rfl rfl rfl ?_
  refine jT_xiload_n (v := (0, x3)) (pcN := 52) jIH_187_51 rfl rfl rfl ?_
  refine jT_fB [0, 1, 2, 3, 4, 5, 6, 7, 8, 9, 10, 11, 12, 13, 14, 15] 16 (y := 192) (pcN := 55) (dC := 42) (bc1 := 0) (bc2 := 0) (c1 := 0) (c2 := 0) (as := [(4, 0), (0, x2), (0, x3)]) (asC := [(4, 0), (0, x2), (0, x3)]) (LN := [(0, (4, 0)), (1, (0, x1)), (2, (0, x2)), (3, (0, x3))]) (stN := [(4, 0)]) (hsC := jpH_134) (hsD := [jzH_20, jgh, jgh, jgh, jgh, jgh, jgh, (101, [], [(jsc 2 20 (x2.tdiv (((Nat.gcd (x2).natAbs (x3).natAbs : Nat) : Int)))) - (jsc 2 20 (x3.tdiv (((Nat.gcd (x2).natAbs (x3).natAbs : Nat) : Int)))), -(jsc 3 20 (jsu 2 20 (x3.tdiv (((Nat.gcd (x2).natAbs (x3).natAbs : Nat) : Int))))) + (jsc 3 20 (jsu 2 20 (x2.tdiv (((Nat.gcd (x2).natAbs (x3).natAbs : Nat) : Int))))), (jsc 5 20 (jsu 3 20 (jsu 2 20 (x2.tdiv (((Nat.gcd (x2).natAbs (x3).natAbs : Nat) : Int)))))) - (jsc 5 20 (jsu 3 20 (jsu 2 20 (x3.tdiv (((Nat.gcd (x2).natAbs (x3).natAbs : Nat) : Int)))))), (jsc 7 20 (jsu 5 20 (jsu 3 20 (jsu 2 20 (x2.tdiv (((Nat.gcd (x2).natAbs (x3).natAbs : Nat) : Int))))))) - (jsc 7 20 (jsu 5 20 (jsu 3 20 (jsu 2 20 (x3.tdiv (((Nat.gcd (x2).natAbs (x3).natAbs : Nat) : Int))))))), (jsc 11 20 (jsu 7 20 (jsu 5 20 (jsu 3 20 (jsu 2 20 (x2.tdiv (((Nat.gcd (x2).natAbs (x3).natAbs : Nat) : Int)))))))) - (jsc 11 20 (jsu 7 20 (jsu 5 20 (jsu 3 20 (jsu 2 20 (x3.tdiv (((Nat.gcd (x2).natAbs (x3).natAbs : Nat) : Int)))))))), (jsc 13 20 (jsu 11 20 (jsu 7 20 (jsu 5 20 (jsu 3 20 (jsu 2 20 (x2.tdiv (((Nat.gcd (x2).natAbs (x3).natAbs : Nat) : Int))))))))) - (jsc 13 20 (jsu 11 20 (jsu 7 20 (jsu 5 20 (jsu 3 20 (jsu 2 20 (x3.tdiv (((Nat.gcd (x2).natAbs (x3).natAbs : Nat) : Int)))))))))]), jgh, jgh, jgh, jgh, jgh, jgh, jgh, jgh]) (v := (0, 0)) (st2 := [(0, 0), (4, 0)]) (hs2 := [jzH_20, jgh, jgh, jgh, jgh, jgh, jgh, (101, [], [(jsc 2 20 (x2.tdiv (((Nat.gcd (x2).natAbs (x3).natAbs : Nat) : Int)))) - (jsc 2 20 (x3.tdiv (((Nat.gcd (x2).natAbs (x3).natAbs : Nat) : Int)))), -(jsc 3 20 (jsu 2 20 (x3.tdiv (((Nat.gcd (x2).natAbs (x3).natAbs : Nat) : Int))))) + (jsc 3 20 (jsu 2 20 (x2.tdiv (((Nat.gcd (x2).natAbs (x3).natAbs : Nat) : Int))))), (jsc 5 20 (jsu 3 20 (jsu 2 20 (x2.tdiv (((Nat.gcd (x2).natAbs (x3).natAbs : Nat) : Int)))))) - (jsc 5 20 (jsu 3 20 (jsu 2 20 (x3.tdiv (((Nat.gcd (x2).natAbs (x3).natAbs : Nat) : Int)))))), (jsc 7 20 (jsu 5 20 (jsu 3 20 (jsu 2 20 (x2.tdiv (((Nat.gcd (x2).natAbs (x3).natAbs : Nat) : Int))))))) - (jsc 7 20 (jsu 5 20 (jsu 3 20 (jsu 2 20 (x3.tdiv (((Nat.gcd (x2).natAbs (x3).natAbs : Nat) : Int))))))), (jsc 11 20 (jsu 7 20 (jsu 5 20 (jsu 3 20 (jsu 2 20 (x2.tdiv (((Nat.gcd (x2).natAbs (x3).natAbs : Nat) : Int)))))))) - (jsc 11 20 (jsu 7 20 (jsu 5 20 (jsu 3 20 (jsu 2 20 (x3.tdiv (((Nat.gcd (x2).natAbs (x3).natAbs : Nat) : Int)))))))), (jsc 13 20 (jsu 11 20 (jsu 7 20 (jsu 5 20 (jsu 3 20 (jsu 2 20 (x2.tdiv (((Nat.gcd (x2).natAbs (x3).natAbs : Nat) : Int))))))))) - (jsc 13 20 (jsu 11 20 (jsu 7 20 (jsu 5 20 (jsu 3 20 (jsu 2 20 (x3.tdiv (((Nat.gcd (x2).natAbs (x3).natAbs : Nat) : Int)))))))))]), jgh, jgh, jgh, jgh, jgh, jgh, jgh, jgh]) (jH_192_62 (d := 0) (by omega) (by omega) (by omega) (by omega)) (by rfl) (by rfl) (by decide +kernel) (by rfl) (by rfl) (by omega) (by omega) (by omega) (by omega) rfl rfl ?_
  have hb_q1 := jsc_b (P := 2) (n := 20) (u := (x2.tdiv (((Nat.gcd (x2).natAbs (x3).natAbs : Nat) : Int))))
  have hb_q1 : 0 ≤ jsc 2 20 (x2.tdiv (((Nat.gcd (x2).natAbs (x3).natAbs : Nat) : Int))) ∧ jsc 2 20 (x2.tdiv (((Nat.gcd (x2).natAbs (x3).natAbs : Nat) : Int))) ≤ 20 := ⟨hb_q1.1, by omega⟩
  generalize hq_q1 : jsc 2 20 (x2.tdiv (((Nat.gcd (x2).natAbs (x3).natAbs : Nat) : Int))) = q1 at hb_q1 ⊢
  have hb_q2 := jsc_b (P := 2) (n := 20) (u := (x3.tdiv (((Nat.gcd (x2).natAbs (x3).natAbs : Nat) : Int))))
  have hb_q2 : 0 ≤ jsc 2 20 (x3.tdiv (((Nat.gcd (x2).natAbs (x3).natAbs : Nat) : Int))) ∧ jsc 2 20 (x3.tdiv (((Nat.gcd (x2).natAbs (x3).natAbs : Nat) : Int))) ≤ 20 := ⟨hb_q2.1, by omega⟩
  generalize hq_q2 : jsc 2 20 (x3.tdiv (((Nat.gcd (x2).natAbs (x3).natAbs : Nat) : Int))) = q2 at hb_q2 ⊢
  have hb_q3 := jsc_b (P := 3) (n := 20) (u := (jsu 2 20 (x2.tdiv (((Nat.gcd (x2).natAbs (x3).natAbs : Nat) : Int)))))
  have hb_q3 : 0 ≤ jsc 3 20 (jsu 2 20 (x2.tdiv (((Nat.gcd (x2).natAbs (x3).natAbs : Nat) : Int)))) ∧ jsc 3 20 (jsu 2 20 (x2.tdiv (((Nat.gcd (x2).natAbs (x3).natAbs : Nat) : Int)))) ≤ 20 := ⟨hb_q3.1, by omega⟩
  generalize hq_q3 : jsc 3 20 (jsu 2 20 (x2.tdiv (((Nat.gcd (x2).natAbs (x3).natAbs : Nat) : Int)))) = q3 at hb_q3 ⊢
  have hb_q4 := jsc_b (P := 3) (n := 20) (u := (jsu 2 20 (x3.tdiv (((Nat.gcd (x2).natAbs (x3).natAbs : Nat) : Int)))))
  have hb_q4 : 0 ≤ jsc 3 20 (jsu 2 20 (x3.tdiv (((Nat.gcd (x2).natAbs (x3).natAbs : Nat) : Int)))) ∧ jsc 3 20 (jsu 2 20 (x3.tdiv (((Nat.gcd (x2).natAbs (x3).natAbs : Nat) : Int)))) ≤ 20 := ⟨hb_q4.1, by omega⟩
  generalize hq_q4 : jsc 3 20 (jsu 2 20 (x3.tdiv (((Nat.gcd (x2).natAbs (x3).natAbs : Nat) : Int)))) = q4 at hb_q4 ⊢
  have hb_q5 := jsc_b (P := 5) (n := 20) (u := (jsu 3 20 (jsu 2 20 (x2.tdiv (((Nat.gcd (x2).natAbs (x3).natAbs : Nat) : Int))))))
  have hb_q5 : 0 ≤ jsc 5 20 (jsu 3 20 (jsu 2 20 (x2.tdiv (((Nat.gcd (x2).natAbs (x3).natAbs : Nat) : Int))))) ∧ jsc 5 20 (jsu 3 20 (jsu 2 20 (x2.tdiv (((Nat.gcd (x2).natAbs (x3).natAbs : Nat) : Int))))) ≤ 20 := ⟨hb_q5.1, by omega⟩
  generalize hq_q5 : jsc 5 20 (jsu 3 20 (jsu 2 20 (x2.tdiv (((Nat.gcd (x2).natAbs (x3).natAbs : Nat) : Int))))) = q5 at hb_q5 ⊢
  have hb_q6 := jsc_b (P := 5) (n := 20) (u := (jsu 3 20 (jsu 2 20 (x3.tdiv (((Nat.gcd (x2).natAbs (x3).natAbs : Nat) : Int))))))
  have hb_q6 : 0 ≤ jsc 5 20 (jsu 3 20 (jsu 2 20 (x3.tdiv (((Nat.gcd (x2).natAbs (x3).natAbs : Nat) : Int))))) ∧ jsc 5 20 (jsu 3 20 (jsu 2 20 (x3.tdiv (((Nat.gcd (x2).natAbs (x3).natAbs : Nat) : Int))))) ≤ 20 := ⟨hb_q6.1, by omega⟩
  generalize hq_q6 : jsc 5 20 (jsu 3 20 (jsu 2 20 (x3.tdiv (((Nat.gcd (x2).natAbs (x3).natAbs : Nat) : Int))))) = q6 at hb_q6 ⊢
  have hb_q7 := jsc_b (P := 7) (n := 20) (u := (jsu 5 20 (jsu 3 20 (jsu 2 20 (x2.tdiv (((Nat.gcd (x2).natAbs (x3).natAbs : Nat) : Int)))))))
  have hb_q7 : 0 ≤ jsc 7 20 (jsu 5 20 (jsu 3 20 (jsu 2 20 (x2.tdiv (((Nat.gcd (x2).natAbs (x3).natAbs : Nat) : Int)))))) ∧ jsc 7 20 (jsu 5 20 (jsu 3 20 (jsu 2 20 (x2.tdiv (((Nat.gcd (x2).natAbs (x3).natAbs : Nat) : Int)))))) ≤ 20 := ⟨hb_q7.1, by omega⟩
  generalize hq_q7 : jsc 7 20 (jsu 5 20 (jsu 3 20 (jsu 2 20 (x2.tdiv (((Nat.gcd (x2).natAbs (x3).natAbs : Nat) : Int)))))) = q7 at hb_q7 ⊢
  have hb_q8 := jsc_b (P := 7) (n := 20) (u := (jsu 5 20 (jsu 3 20 (jsu 2 20 (x3.tdiv (((Nat.gcd (x2).natAbs (x3).natAbs : Nat) : Int)))))))
  have hb_q8 : 0 ≤ jsc 7 20 (jsu 5 20 (jsu 3 20 (jsu 2 20 (x3.tdiv (((Nat.gcd (x2).natAbs (x3).natAbs : Nat) : Int)))))) ∧ jsc 7 20 (jsu 5 20 (jsu 3 20 (jsu 2 20 (x3.tdiv (((Nat.gcd (x2).natAbs (x3).natAbs : Nat) : Int)))))) ≤ 20 := ⟨hb_q8.1, by omega⟩
  generalize hq_q8 : jsc 7 20 (jsu 5 20 (jsu 3 20 (jsu 2 20 (x3.tdiv (((Nat.gcd (x2).natAbs (x3).natAbs : Nat) : Int)))))) = q8 at hb_q8 ⊢
  have hb_q9 := jsc_b (P := 11) (n := 20) (u := (jsu 7 20 (jsu 5 20 (jsu 3 20 (jsu 2 20 (x2.tdiv (((Nat.gcd (x2).natAbs (x3).natAbs : Nat) : Int))))))))
  have hb_q9 : 0 ≤ jsc 11 20 (jsu 7 20 (jsu 5 20 (jsu 3 20 (jsu 2 20 (x2.tdiv (((Nat.gcd (x2).natAbs (x3).natAbs : Nat) : Int))))))) ∧ jsc 11 20 (jsu 7 20 (jsu 5 20 (jsu 3 20 (jsu 2 20 (x2.tdiv (((Nat.gcd (x2).natAbs (x3).natAbs : Nat) : Int))))))) ≤ 20 := ⟨hb_q9.1, by omega⟩
  generalize hq_q9 : jsc 11 20 (jsu 7 20 (jsu 5 20 (jsu 3 20 (jsu 2 20 (x2.tdiv (((Nat.gcd (x2).natAbs (x3).natAbs : Nat) : Int))))))) = q9 at hb_q9 ⊢
  have hb_q10 := jsc_b (P := 11) (n := 20) (u := (jsu 7 20 (jsu 5 20 (jsu 3 20 (jsu 2 20 (x3.tdiv (((Nat.gcd (x2).natAbs (x3).natAbs : Nat) : Int))))))))
  have hb_q10 : 0 ≤ jsc 11 20 (jsu 7 20 (jsu 5 20 (jsu 3 20 (jsu 2 20 (x3.tdiv (((Nat.gcd (x2).natAbs (x3).natAbs : Nat) : Int))))))) ∧ jsc 11 20 (jsu 7 20 (jsu 5 20 (jsu 3 20 (jsu 2 20 (x3.tdiv (((Nat.gcd (x2).natAbs (x3).natAbs : Nat) : Int))))))) ≤ 20 := ⟨hb_q10.1, by omega⟩
  generalize hq_q10 : jsc 11 20 (jsu 7 20 (jsu 5 20 (jsu 3 20 (jsu 2 20 (x3.tdiv (((Nat.gcd (x2).natAbs (x3).natAbs : Nat) : Int))))))) = q10 at hb_q10 ⊢
  have hb_q11 := jsc_b (P := 13) (n := 20) (u := (jsu 11 20 (jsu 7 20 (jsu 5 20 (jsu 3 20 (jsu 2 20 (x2.tdiv (((Nat.gcd (x2).natAbs (x3).natAbs : Nat) : Int)))))))))
  have hb_q11 : 0 ≤ jsc 13 20 (jsu 11 20 (jsu 7 20 (jsu 5 20 (jsu 3 20 (jsu 2 20 (x2.tdiv (((Nat.gcd (x2).natAbs (x3).natAbs : Nat) : Int)))))))) ∧ jsc 13 20 (jsu 11 20 (jsu 7 20 (jsu 5 20 (jsu 3 20 (jsu 2 20 (x2.tdiv (((Nat.gcd (x2).natAbs (x3).natAbs : Nat) : Int)))))))) ≤ 20 := ⟨hb_q11.1, by omega⟩
  generalize hq_q11 : jsc 13 20 (jsu 11 20 (jsu 7 20 (jsu 5 20 (jsu 3 20 (jsu 2 20 (x2.tdiv (((Nat.gcd (x2).natAbs (x3).natAbs : Nat) : Int)))))))) = q11 at hb_q11 ⊢
  have hb_q12 := jsc_b (P := 13) (n := 20) (u := (jsu 11 20 (jsu 7 20 (jsu 5 20 (jsu 3 20 (jsu 2 20 (x3.tdiv (((Nat.gcd (x2).natAbs (x3).natAbs : Nat) : Int)))))))))
  have hb_q12 : 0 ≤ jsc 13 20 (jsu 11 20 (jsu 7 20 (jsu 5 20 (jsu 3 20 (jsu 2 20 (x3.tdiv (((Nat.gcd (x2).natAbs (x3).natAbs : Nat) : Int)))))))) ∧ jsc 13 20 (jsu 11 20 (jsu 7 20 (jsu 5 20 (jsu 3 20 (jsu 2 20 (x3.tdiv (((Nat.gcd (x2).natAbs (x3).natAbs : Nat) : Int)))))))) ≤ 20 := ⟨hb_q12.1, by omega⟩
  generalize hq_q12 : jsc 13 20 (jsu 11 20 (jsu 7 20 (jsu 5 20 (jsu 3 20 (jsu 2 20 (x3.tdiv (((Nat.gcd (x2).natAbs (x3).natAbs : Nat) : Int)))))))) = q12 at hb_q12 ⊢
  refine jT_eq (LN := [(0, (4, 0)), (1, (0, x1)), (2, (0, x2)), (3, (0, x3))]) (stN := [(0, 0), (4, 0)]) (hsN := [jzH_20, jgh, jgh, jgh, jgh, jgh, jgh, (101, [], [q1 - q2, q3 - q4, q5 - q6, q7 - q8, -q10 + q9, q11 - q12]), jgh, jgh, jgh, jgh, jgh, jgh, jgh, jgh]) (rfl) (rfl) (by simp only [List.cons.injEq, Prod.mk.injEq, and_true, true_and] <;> ((try unfold jw); (try unfold jwl); omega)) ?_
  refine jT_xiconst (k := 3) (pcN := 56) jIH_187_55 rfl ?_
  refine jT_callB [0, 1, 2, 3, 4, 5, 6, 7, 8, 9, 10, 11, 12, 13, 14, 15] (y := 191) (pcN := 59) (dC := 0) (bc1 := 0) (bc2 := 0) (c1 := 0) (c2 := 0) (as := [(4, 0), (0, 0), (0, 3)]) (asC := [(4, 0), (0, 0), (0, 3)]) (LN := [(0, (4, 0)), (1, (0, x1)), (2, (0, x2)), (3, (0, x3))]) (stN := []) (hsC := jpH_21) (hsD := jpH_186) (v := (0, 1)) (st2 := [(0, 1)]) (hs2 := [jzH_185, jgh, jgh, jgh, jgh, jgh, jgh, (101, [], [q1 - q2, q3 - q4, q5 - q6, q7 - q8, -q10 + q9, q11 - q12]), jgh, jgh, jgh, jgh, jgh, jgh, jgh, jgh]) (jH_191_56 (d := 0)) (by rfl) (by rfl) (by rfl) (by rfl) ⟨rfl, rfl, rfl, rfl, rfl, rfl, rfl, rfl, rfl, rfl, rfl, rfl, rfl, rfl, rfl, rfl, trivial⟩ (by rfl) (by rfl) (by omega) (by show 16 ≤ 16; omega) (by omega) (by omega) rfl rfl ?_
  refine jT_xifF (t := 64) (pcN := 62) jIH_187_59 rfl (by decide +kernel) rfl rfl ?_
  refine jT_xiconst (k := 0) (pcN := 63) jIH_187_62 rfl ?_
  subst hq_q12
  subst hq_q11
  subst hq_q10
  subst hq_q9
  subst hq_q8
  subst hq_q7
  subst hq_q6
  subst hq_q5
  subst hq_q4
  subst hq_q3
  subst hq_q2
  subst hq_q1
  exact jT_ret rfl (by decide) (by show 16 ≤ 16; omega) (by omega) (by omega) ⟨rfl, rfl, rfl⟩
theorem jIH_97_0 : jmI (jm 97) 0 = (.lload_n 1, 1) := by rfl
theorem jIH_97_1 : jmI (jm 97) 1 = (.lconst 1, 1) := by rfl
theorem jIH_97_3 : jmI (jm 97) 3 = (.ifCond .ge 7, 3) := by rfl
theorem jIH_97_10 : jmI (jm 97) 10 = (.lload_n 1, 1) := by rfl
theorem jIH_97_11 : jmI (jm 97) 11 = (.lstore_n 3, 1) := by rfl
theorem jIH_97_12 : jmI (jm 97) 12 = (.iconst 0, 1) := by rfl
theorem jIH_97_13 : jmI (jm 97) 13 = (.istore 5, 2) := by rfl
theorem jIH_97_15 : jmI (jm 97) 15 = (.iload 5, 2) := by rfl
theorem jIH_97_17 : jmI (jm 97) 17 = (.aload_n 0, 1) := by rfl
theorem jIH_97_19 : jmI (jm 97) 19 = (.if_icmp .ge 24, 3) := by rfl
theorem jIH_97_22 : jmI (jm 97) 22 = (.lload_n 3, 1) := by rfl
theorem jIH_97_23 : jmI (jm 97) 23 = (.lconst 1, 1) := by rfl
theorem jIH_97_25 : jmI (jm 97) 25 = (.ifCond .le 18, 3) := by rfl
theorem jIH_97_43 : jmI (jm 97) 43 = (.lload_n 3, 1) := by rfl
theorem jIH_97_44 : jmI (jm 97) 44 = (.lconst 1, 1) := by rfl
theorem jIH_97_46 : jmI (jm 97) 46 = (.ifCond .gt 15, 3) := by rfl
theorem jIH_97_49 : jmI (jm 97) 49 = (.lload_n 1, 1) := by rfl
theorem jIH_97_50 : jmI (jm 97) 50 = (.lconst 1, 1) := by rfl
theorem jIH_97_52 : jmI (jm 97) 52 = (.ifCond .ge 7, 3) := by rfl
theorem jIH_97_59 : jmI (jm 97) 59 = (.lload_n 1, 1) := by rfl
theorem jH_97_64 {xs : List Int} {d : Nat} {q11 q13 q15 q17 q19 q21 q23 q25 q27 q5 q7 q9 : Int} (h_q11 : 0 ≤ q11 ∧ q11 ≤ 20) (h_q13 : 0 ≤ q13 ∧ q13 ≤ 20) (h_q15 : 0 ≤ q15 ∧ q15 ≤ 20) (h_q17 : 0 ≤ q17 ∧ q17 ≤ 20) (h_q19 : 0 ≤ q19 ∧ q19 ≤ 20) (h_q21 : 0 ≤ q21 ∧ q21 ≤ 20) (h_q23 : 0 ≤ q23 ∧ q23 ≤ 20) (h_q25 : 0 ≤ q25 ∧ q25 ≤ 20) (h_q27 : 0 ≤ q27 ∧ q27 ≤ 20) (h_q5 : 0 ≤ q5 ∧ q5 ≤ 20) (h_q7 : 0 ≤ q7 ∧ q7 ≤ 20) (h_q9 : 0 ≤ q9 ∧ q9 ≤ 20) : jT xs d 97 1 0 [(0, (4, 0)), (1, (1, 1))] [] [(101, [], [q5 - q7, -q11 + q9, q13 - q15, q17 - q19, q21 - q23, q25 - q27])] 0 0 (fun k v hsN => k = 0 ∧ v = (1, 1) ∧ hsN = [(101, [], [q5 - q7, -q11 + q9, q13 - q15, q17 - q19, q21 - q23, q25 - q27])] ++ []) := by
  refine jT_xlload_n (v := (1, 1)) (pcN := 1) jIH_97_0 rfl rfl rfl ?_
  refine jT_xlconst (z := 1) (pcN := 2) jIH_97_1 rfl rfl ?_
  refine jT_lcmp (a := 1) (b := 1) (z := 0) (by rfl) (by rfl) (by decide +kernel) (by decide +kernel) (by decide) ?_
  refine jT_xifT (pcN := 10) jIH_97_3 rfl (by decide +kernel) rfl ?_
  refine jT_xlload_n (v := (1, 1)) (pcN := 11) jIH_97_10 rfl rfl rfl ?_
  refine jT_xlstore_n (v := (1, 1)) (LN := [(3, (1, 1)), (0, (4, 0)), (1, (1, 1))]) (pcN := 12) jIH_97_11 rfl rfl rfl rfl ?_
  refine jT_xiconst (k := 0) (pcN := 13) jIH_97_12 rfl ?_
  refine jT_xistore (v := (0, 0)) (LN := [(5, (0, 0)), (3, (1, 1)), (0, (4, 0)), (1, (1, 1))]) (pcN := 15) jIH_97_13 rfl rfl rfl rfl ?_
  refine jT_xiload (v := (0, 0)) (pcN := 17) jIH_97_15 rfl rfl rfl ?_
  refine jT_xaload_n (v := (4, 0)) (pcN := 18) jIH_97_17 rfl rfl rfl ?_
  refine jT_adv 1 (pcN := 19) (LN := [(5, (0, 0)), (3, (1, 1)), (0, (4, 0)), (1, (1, 1))]) (stN := [(0, 6), (0, 0)]) (hsN := [(101, [], [q5 - q7, -q11 + q9, q13 - q15, q17 - q19, q21 - q23, q25 - q27])]) (c1 := 0) (s1 := 0) (c2 := 0) (s2 := 0) (by exact rfl) ?_ (by omega) (by omega)
  refine jT_xicF (t := 43) (pcN := 22) jIH_97_19 rfl (by decide +kernel) rfl rfl ?_
  refine jT_xlload_n (v := (1, 1)) (pcN := 23) jIH_97_22 rfl rfl rfl ?_
  refine jT_xlconst (z := 1) (pcN := 24) jIH_97_23 rfl rfl ?_
  refine jT_lcmp (a := 1) (b := 1) (z := 0) (by rfl) (by rfl) (by decide +kernel) (by decide +kernel) (by decide) ?_
  refine jT_xifT (pcN := 43) jIH_97_25 rfl (by decide +kernel) rfl ?_
  refine jT_xlload_n (v := (1, 1)) (pcN := 44) jIH_97_43 rfl rfl rfl ?_
  refine jT_xlconst (z := 1) (pcN := 45) jIH_97_44 rfl rfl ?_
  refine jT_lcmp (a := 1) (b := 1) (z := 0) (by rfl) (by rfl) (by decide +kernel) (by decide +kernel) (by decide) ?_
  refine jT_xifF (t := 61) (pcN := 49) jIH_97_46 rfl (by decide +kernel) rfl rfl ?_
  refine jT_xlload_n (v := (1, 1)) (pcN := 50) jIH_97_49 rfl rfl rfl ?_
  refine jT_xlconst (z := 1) (pcN := 51) jIH_97_50 rfl rfl ?_
  refine jT_lcmp (a := 1) (b := 1) (z := 0) (by rfl) (by rfl) (by decide +kernel) (by decide +kernel) (by decide) ?_
  refine jT_xifT (pcN := 59) jIH_97_52 rfl (by decide +kernel) rfl ?_
  refine jT_xlload_n (v := (1, 1)) (pcN := 60) jIH_97_59 rfl rfl rfl ?_
  exact jT_ret rfl (by decide) (by show 1 ≤ 1; omega) (by omega) (by omega) ⟨rfl, rfl, rfl⟩
theorem jIH_9_0 : jmI (jm 9) 0 = (.aload_n 0, 1) := by rfl
theorem jIH_9_4 : jmI (jm 9) 4 = (.aload_n 0, 1) := by rfl
theorem jIH_9_5 : jmI (jm 9) 5 = (.aload_n 1, 1) := by rfl
theorem jIH_9_9 : jmI (jm 9) 9 = (.aload_n 0, 1) := by rfl
theorem jIH_9_10 : jmI (jm 9) 10 = (.aload_n 1, 1) := by rfl
theorem jIH_9_11 : jmI (jm 9) 11 = (.lload_n 2, 1) := by rfl
theorem jH_9_65 {xs : List Int} {d : Nat} {q11 q13 q15 q17 q19 q21 q23 q25 q27 q5 q7 q9 : Int} (h_q11 : 0 ≤ q11 ∧ q11 ≤ 20) (h_q13 : 0 ≤ q13 ∧ q13 ≤ 20) (h_q15 : 0 ≤ q15 ∧ q15 ≤ 20) (h_q17 : 0 ≤ q17 ∧ q17 ≤ 20) (h_q19 : 0 ≤ q19 ∧ q19 ≤ 20) (h_q21 : 0 ≤ q21 ∧ q21 ≤ 20) (h_q23 : 0 ≤ q23 ∧ q23 ≤ 20) (h_q25 : 0 ≤ q25 ∧ q25 ≤ 20) (h_q27 : 0 ≤ q27 ∧ q27 ≤ 20) (h_q5 : 0 ≤ q5 ∧ q5 ≤ 20) (h_q7 : 0 ≤ q7 ∧ q7 ≤ 20) (h_q9 : 0 ≤ q9 ∧ q9 ≤ 20) : jT xs (d + 1) 9 2 0 [(0, (4, 0)), (1, (4, 1)), (2, (1, 1))] [] [(4, [(4, (-1)), (1, 0)], []), (101, [], [q5 - q7, -q11 + q9, q13 - q15, q17 - q19, q21 - q23, q25 - q27])] 0 0 (fun k v hsN => k = 0 ∧ v = (9, 0) ∧ hsN = [(4, [(4, 1), (1, 1)], []), (101, [], [q5 - q7, -q11 + q9, q13 - q15, q17 - q19, q21 - q23, q25 - q27])]) := by
  refine jT_xaload_n (v := (4, 0)) (pcN := 1) jIH_9_0 rfl rfl rfl ?_
  refine jT_adv 1 (pcN := 4) (LN := [(0, (4, 0)), (1, (4, 1)), (2, (1, 1))]) (stN := []) (hsN := [(4, [(4, (-1)), (1, 0)], []), (101, [], [q5 - q7, -q11 + q9, q13 - q15, q17 - q19, q21 - q23, q25 - q27])]) (c1 := 0) (s1 := 0) (c2 := 0) (s2 := 0) (by exact rfl) ?_ (by omega) (by omega)
  refine jT_xaload_n (v := (4, 0)) (pcN := 5) jIH_9_4 rfl rfl rfl ?_
  refine jT_xaload_n (v := (4, 1)) (pcN := 6) jIH_9_5 rfl rfl rfl ?_
  refine jT_adv 1 (pcN := 9) (LN := [(0, (4, 0)), (1, (4, 1)), (2, (1, 1))]) (stN := []) (hsN := [(4, [(4, 1), (1, 0)], []), (101, [], [q5 - q7, -q11 + q9, q13 - q15, q17 - q19, q21 - q23, q25 - q27])]) (c1 := 0) (s1 := 0) (c2 := 0) (s2 := 0) (by exact rfl) ?_ (by omega) (by omega)
  refine jT_xaload_n (v := (4, 0)) (pcN := 10) jIH_9_9 rfl rfl rfl ?_
  refine jT_xaload_n (v := (4, 1)) (pcN := 11) jIH_9_10 rfl rfl rfl ?_
  refine jT_xlload_n (v := (1, 1)) (pcN := 12) jIH_9_11 rfl rfl rfl ?_
  refine jT_callA [1] (y := 97) (pcN := 15) (dC := 0) (bc1 := 0) (bc2 := 0) (c1 := 0) (c2 := 0) (as := [(4, 1), (1, 1)]) (asC := [(4, 0), (1, 1)]) (LN := [(0, (4, 0)), (1, (4, 1)), (2, (1, 1))]) (stN := [(4, 0)]) (hsC := [(101, [], [q5 - q7, -q11 + q9, q13 - q15, q17 - q19, q21 - q23, q25 - q27])]) (ex := []) (v := (1, 1)) (st2 := [(1, 1), (4, 0)]) (hs2 := [(4, [(4, 1), (1, 0)], []), (101, [], [q5 - q7, -q11 + q9, q13 - q15, q17 - q19, q21 - q23, q25 - q27])]) (jH_97_64 (d := 0) (by omega) (by omega) (by omega) (by omega) (by omega) (by omega) (by omega) (by omega) (by omega) (by omega) (by omega) (by omega)) (by rfl) (by rfl) (by rfl) (by rfl) ⟨rfl, trivial⟩ (by rfl) (by rfl) (by omega) (by show 2 ≤ 2; omega) (by omega) (by omega) rfl rfl ?_
  refine jT_adv 1 (pcN := 18) (LN := [(0, (4, 0)), (1, (4, 1)), (2, (1, 1))]) (stN := []) (hsN := [(4, [(4, 1), (1, 1)], []), (101, [], [q5 - q7, -q11 + q9, q13 - q15, q17 - q19, q21 - q23, q25 - q27])]) (c1 := 0) (s1 := 0) (c2 := 0) (s2 := 0) (by exact rfl) ?_ (by omega) (by omega)
  exact jT_ret rfl (by decide) (by show 2 ≤ 2; omega) (by omega) (by omega) ⟨rfl, rfl, rfl⟩
theorem jIH_14_182 : jmI (jm 14) 182 = (.aload 8, 2) := by rfl
theorem jIH_14_184 : jmI (jm 14) 184 = (.lconst 1, 1) := by rfl
theorem jIH_14_188 : jmI (jm 14) 188 = (.goto 4, 3) := by rfl
theorem jH_14_66 {xs : List Int} {d : Nat} {x2 x3 : Int} (h_x2 : 1 ≤ x2 ∧ x2 ≤ 1000000) (h_x3 : 1 ≤ x3 ∧ x3 ≤ 1000000) (g_0 : (jsu 13 20 (jsu 11 20 (jsu 7 20 (jsu 5 20 (jsu 3 20 (jsu 2 20 (x2.tdiv (((Nat.gcd (x2).natAbs (x3).natAbs : Nat) : Int))))))))) - 2 < 0) (g_1 : (jsu 13 20 (jsu 11 20 (jsu 7 20 (jsu 5 20 (jsu 3 20 (jsu 2 20 (x3.tdiv (((Nat.gcd (x2).natAbs (x3).natAbs : Nat) : Int))))))))) - 2 < 0) : jT xs (d + 2) 14 0 0 [(0, (0, x2)), (1, (0, x3))] [] [] 2 8 (fun k v hsN => k = 0 ∧ v = (4, 1) ∧ hsN = [] ++ [(101, [], [(jsc 2 20 (x2.tdiv (((Nat.gcd (x2).natAbs (x3).natAbs : Nat) : Int)))) - (jsc 2 20 (x3.tdiv (((Nat.gcd (x2).natAbs (x3).natAbs : Nat) : Int)))), -(jsc 3 20 (jsu 2 20 (x3.tdiv (((Nat.gcd (x2).natAbs (x3).natAbs : Nat) : Int))))) + (jsc 3 20 (jsu 2 20 (x2.tdiv (((Nat.gcd (x2).natAbs (x3).natAbs : Nat) : Int))))), (jsc 5 20 (jsu 3 20 (jsu 2 20 (x2.tdiv (((Nat.gcd (x2).natAbs (x3).natAbs : Nat) : Int)))))) - (jsc 5 20 (jsu 3 20 (jsu 2 20 (x3.tdiv (((Nat.gcd (x2).natAbs (x3).natAbs : Nat) : Int)))))), (jsc 7 20 (jsu 5 20 (jsu 3 20 (jsu 2 20 (x2.tdiv (((Nat.gcd (x2).natAbs (x3).natAbs : Nat) : Int))))))) - (jsc 7 20 (jsu 5 20 (jsu 3 20 (jsu 2 20 (x3.tdiv (((Nat.gcd (x2).natAbs (x3).natAbs : Nat) : Int))))))), (jsc 11 20 (jsu 7 20 (jsu 5 20 (jsu 3 20 (jsu 2 20 (x2.tdiv (((Nat.gcd (x2).natAbs (x3).natAbs : Nat) : Int)))))))) - (jsc 11 20 (jsu 7 20 (jsu 5 20 (jsu 3 20 (jsu 2 20 (x3.tdiv (((Nat.gcd (x2).natAbs (x3).natAbs : Nat) : Int)))))))), (jsc 13 20 (jsu 11 20 (jsu 7 20 (jsu 5 20 (jsu 3 20 (jsu 2 20 (x2.tdiv (((Nat.gcd (x2).natAbs (x3).natAbs : Nat) : Int))))))))) - (jsc 13 20 (jsu 11 20 (jsu 7 20 (jsu 5 20 (jsu 3 20 (jsu 2 20 (x3.tdiv (((Nat.gcd (x2).natAbs (x3).natAbs : Nat) : Int)))))))))]), (4, [(4, 0), (1, 1)], [])]) := by
  refine jT_xlconst (z := 1) (pcN := 1) jIH_14_0 rfl rfl ?_
  refine jT_xiload_n (v := (0, x2)) (pcN := 2) jIH_14_1 rfl rfl rfl ?_
  refine jT_xi2l (x := x2) (z := x2) (pcN := 3) jIH_14_2 rfl (jw_idd (by omega) (by omega)) rfl ?_
  refine jT_xiload_n (v := (0, x3)) (pcN := 4) jIH_14_3 rfl rfl rfl ?_
  refine jT_xi2l (x := x3) (z := x3) (pcN := 5) jIH_14_4 rfl (jw_idd (by omega) (by omega)) rfl ?_
  refine jT_fR [] 0 (y := 98) (pcN := 8) (dC := 0) (bc1 := 0) (bc2 := 0) (c1 := 2) (c2 := 8) (as := [(1, x2), (1, x3)]) (asC := [(1, x2), (1, x3)]) (LN := [(0, (0, x2)), (1, (0, x3))]) (stN := [(1, 1)]) (hsC := []) (v := (1, ((Nat.gcd (x2).natAbs (x3).natAbs : Nat) : Int))) (st2 := [(1, ((Nat.gcd (x2).natAbs (x3).natAbs : Nat) : Int)), (1, 1)]) (jT_div98 (d := 0) (x := x2) (y := x3) (by omega) (by omega)) (by rfl) (by rfl) (by decide +kernel) (by rfl) (by rfl) (by omega) (by omega) (by omega) (by omega) rfl ?_
  have hb_q1 := jgcd_l (x := x2) (y := x3) (by omega)
  have hb_q1 : 1 ≤ ((Nat.gcd (x2).natAbs (x3).natAbs : Nat) : Int) ∧ ((Nat.gcd (x2).natAbs (x3).natAbs : Nat) : Int) ≤ 1000000 := ⟨hb_q1.1, by omega⟩
  generalize hq_q1 : ((Nat.gcd (x2).natAbs (x3).natAbs : Nat) : Int) = q1 at hb_q1 g_0 g_1 ⊢
  refine jT_mm3 (x := 1) (y := q1) (z := q1) (by rfl) (by rfl) (by rfl) (by rfl) (jwl_idd (by omega) (by omega)) (jwl_idd (by omega) (by omega)) (by rw [decide_eq_false (show ¬ ((q1 : Int) < 1) by omega)]; rfl) ?_
  refine jT_xlstore_n (v := (1, q1)) (LN := [(2, (1, q1)), (0, (0, x2)), (1, (0, x3))]) (pcN := 12) jIH_14_11 rfl rfl rfl rfl ?_
  refine jT_xiload_n (v := (0, x2)) (pcN := 13) jIH_14_12 rfl rfl rfl ?_
  refine jT_xi2l (x := x2) (z := x2) (pcN := 14) jIH_14_13 rfl (jw_idd (by omega) (by omega)) rfl ?_
  refine jT_xlload_n (v := (1, q1)) (pcN := 15) jIH_14_14 rfl rfl rfl ?_
  refine jT_ldiv (a := x2) (b := q1) (by rfl) (by rfl) (jwl_idd (by omega) (by omega)) (jwl_idd (by omega) (by omega)) (by omega) ?_
  have hb_q2 := jfr_b hq_q1 (by omega) (by omega)
  generalize hq_q2 : x2.tdiv q1 = q2 at hb_q2 g_0 ⊢
  refine jT_xlstore (v := (1, q2)) (LN := [(4, (1, q2)), (2, (1, q1)), (0, (0, x2)), (1, (0, x3))]) (pcN := 18) jIH_14_16 rfl rfl rfl rfl ?_
  refine jT_xiload_n (v := (0, x3)) (pcN := 19) jIH_14_18 rfl rfl rfl ?_
  refine jT_xi2l (x := x3) (z := x3) (pcN := 20) jIH_14_19 rfl (jw_idd (by omega) (by omega)) rfl ?_
  refine jT_xlload_n (v := (1, q1)) (pcN := 21) jIH_14_20 rfl rfl rfl ?_
  refine jT_ldiv (a := x3) (b := q1) (by rfl) (by rfl) (jwl_idd (by omega) (by omega)) (jwl_idd (by omega) (by omega)) (by omega) ?_
  have hb_q3 := jfr_b2 hq_q1 (by omega) (by omega)
  generalize hq_q3 : x3.tdiv q1 = q3 at hb_q3 g_1 ⊢
  refine jT_xlstore (v := (1, q3)) (LN := [(6, (1, q3)), (4, (1, q2)), (2, (1, q1)), (0, (0, x2)), (1, (0, x3))]) (pcN := 24) jIH_14_22 rfl rfl rfl rfl ?_
  refine jT_xbipush (k := 6) (pcN := 26) jIH_14_24 (by decide) rfl ?_
  refine jT_adv 1 (pcN := 28) (LN := [(6, (1, q3)), (4, (1, q2)), (2, (1, q1)), (0, (0, x2)), (1, (0, x3))]) (stN := [(4, 0)]) (hsN := [(101, [], [0, 0, 0, 0, 0, 0])]) (c1 := 1) (s1 := 6) (c2 := 1) (s2 := 2) (by exact rfl) ?_ (by omega) (by omega)
  refine jT_xastore (v := (4, 0)) (LN := [(8, (4, 0)), (6, (1, q3)), (4, (1, q2)), (2, (1, q1)), (0, (0, x2)), (1, (0, x3))]) (pcN := 30) jIH_14_28 rfl rfl rfl rfl ?_
  refine jT_xiconst (k := 0) (pcN := 31) jIH_14_30 rfl ?_
  refine jT_xistore (v := (0, 0)) (LN := [(9, (0, 0)), (8, (4, 0)), (6, (1, q3)), (4, (1, q2)), (2, (1, q1)), (0, (0, x2)), (1, (0, x3))]) (pcN := 33) jIH_14_31 rfl rfl rfl rfl ?_
  refine jT_xiload (v := (0, 0)) (pcN := 35) jIH_14_33 rfl rfl rfl ?_
  refine jT_xbipush (k := 6) (pcN := 37) jIH_14_35 (by decide) rfl ?_
  refine jT_xicF (t := 164) (pcN := 40) jIH_14_37 rfl (by decide +kernel) rfl rfl ?_
  refine jT_xiconst (k := 0) (pcN := 41) jIH_14_40 rfl ?_
  refine jT_xistore (v := (0, 0)) (LN := [(10, (0, 0)), (9, (0, 0)), (8, (4, 0)), (6, (1, q3)), (4, (1, q2)), (2, (1, q1)), (0, (0, x2)), (1, (0, x3))]) (pcN := 43) jIH_14_41 rfl rfl rfl rfl ?_
  refine jT_loc (LN := [(10, (0, 0)), (4, (1, q2)), (6, (1, q3)), (8, (4, 0)), (9, (0, 0))]) (by show List.Nodup [10, 4, 6, 8, 9]; decide) (by intro q hq; simp only [List.mem_cons, List.not_mem_nil, or_false] at hq; rcases hq with rfl | rfl | rfl | rfl | rfl <;> rfl) ?_
  refine jHl_fr_25 (y6 := q3) (e1 := 0) (e2 := 0) (e3 := 0) (e4 := 0) (e5 := 0) 20 0 q2 0 (by omega) (by omega) (by omega) (by omega) (Int.lt_of_le_of_lt (show q2 ≤ (1000000 : Int) by omega) (by decide)) ?_
  have hb_q4 := jsu_b (P := 2) (by decide) (n := 20) (u := q2) (by omega) (by omega)
  generalize hq_q4 : jsu 2 20 q2 = q4 at hb_q4 g_0 ⊢
  have hb_q5 := jsc_b (P := 2) (n := 20) (u := q2)
  have hb_q5 : 0 ≤ jsc 2 20 q2 ∧ jsc 2 20 q2 ≤ 20 := ⟨hb_q5.1, by omega⟩
  generalize hq_q5 : jsc 2 20 q2 = q5 at hb_q5 ⊢
  refine jT_eq (LN := [(4, (1, q4)), (6, (1, q3)), (8, (4, 0)), (9, (0, 0))]) (stN := []) (hsN := [(101, [], [q5, 0, 0, 0, 0, 0])]) (rfl) (rfl) (by simp only [List.cons.injEq, Prod.mk.injEq, and_true, true_and] <;> ((try unfold jw); (try unfold jwl); omega)) ?_
  refine jT_xiconst (k := 0) (pcN := 100) jIH_14_99 rfl ?_
  refine jT_xistore (v := (0, 0)) (LN := [(10, (0, 0)), (4, (1, q4)), (6, (1, q3)), (8, (4, 0)), (9, (0, 0))]) (pcN := 102) jIH_14_100 rfl rfl rfl rfl ?_
  refine jT_loc (LN := [(10, (0, 0)), (6, (1, q3)), (4, (1, q4)), (8, (4, 0)), (9, (0, 0))]) (by show List.Nodup [10, 6, 4, 8, 9]; decide) (by intro q hq; simp only [List.mem_cons, List.not_mem_nil, or_false] at hq; rcases hq with rfl | rfl | rfl | rfl | rfl <;> rfl) ?_
  refine jHl_fr_26 (y4 := q4) (e1 := 0) (e2 := 0) (e3 := 0) (e4 := 0) (e5 := 0) 20 0 q3 q5 (by omega) (by omega) (by omega) (by omega) (Int.lt_of_le_of_lt (show q3 ≤ (1000000 : Int) by omega) (by decide)) ?_
  have hb_q6 := jsu_b (P := 2) (by decide) (n := 20) (u := q3) (by omega) (by omega)
  generalize hq_q6 : jsu 2 20 q3 = q6 at hb_q6 g_1 ⊢
  have hb_q7 := jsc_b (P := 2) (n := 20) (u := q3)
  have hb_q7 : 0 ≤ jsc 2 20 q3 ∧ jsc 2 20 q3 ≤ 20 := ⟨hb_q7.1, by omega⟩
  generalize hq_q7 : jsc 2 20 q3 = q7 at hb_q7 ⊢
  refine jT_xiinc (x := 0) (z := 1) (LN := [(9, (0, 1)), (6, (1, q6)), (4, (1, q4)), (8, (4, 0))]) (pcN := 161) jIH_14_158 rfl rfl (by decide) rfl rfl ?_
  refine jT_xgoto (pcN := 33) jIH_14_161 rfl ?_
  refine jT_xiload (v := (0, 1)) (pcN := 35) jIH_14_33 rfl rfl rfl ?_
  refine jT_xbipush (k := 6) (pcN := 37) jIH_14_35 (by decide) rfl ?_
  refine jT_xicF (t := 164) (pcN := 40) jIH_14_37 rfl (by decide +kernel) rfl rfl ?_
  refine jT_xiconst (k := 0) (pcN := 41) jIH_14_40 rfl ?_
  refine jT_xistore (v := (0, 0)) (LN := [(10, (0, 0)), (9, (0, 1)), (6, (1, q6)), (4, (1, q4)), (8, (4, 0))]) (pcN := 43) jIH_14_41 rfl rfl rfl rfl ?_
  refine jT_loc (LN := [(10, (0, 0)), (4, (1, q4)), (6, (1, q6)), (8, (4, 0)), (9, (0, 1))]) (by show List.Nodup [10, 4, 6, 8, 9]; decide) (by intro q hq; simp only [List.mem_cons, List.not_mem_nil, or_false] at hq; rcases hq with rfl | rfl | rfl | rfl | rfl <;> rfl) ?_
  refine jHl_fr_27 (y6 := q6) (e0 := q5 - q7) (e2 := 0) (e3 := 0) (e4 := 0) (e5 := 0) 20 0 q4 0 (by omega) (by omega) (by omega) (by omega) (Int.lt_of_le_of_lt (show q4 ≤ (1000000 : Int) by omega) (by decide)) ?_
  have hb_q8 := jsu_b (P := 3) (by decide) (n := 20) (u := q4) (by omega) (by omega)
  generalize hq_q8 : jsu 3 20 q4 = q8 at hb_q8 g_0 ⊢
  have hb_q9 := jsc_b (P := 3) (n := 20) (u := q4)
  have hb_q9 : 0 ≤ jsc 3 20 q4 ∧ jsc 3 20 q4 ≤ 20 := ⟨hb_q9.1, by omega⟩
  generalize hq_q9 : jsc 3 20 q4 = q9 at hb_q9 ⊢
  refine jT_eq (LN := [(4, (1, q8)), (6, (1, q6)), (8, (4, 0)), (9, (0, 1))]) (stN := []) (hsN := [(101, [], [q5 - q7, q9, 0, 0, 0, 0])]) (rfl) (rfl) (by simp only [List.cons.injEq, Prod.mk.injEq, and_true, true_and] <;> ((try unfold jw); (try unfold jwl); omega)) ?_
  refine jT_xiconst (k := 0) (pcN := 100) jIH_14_99 rfl ?_
  refine jT_xistore (v := (0, 0)) (LN := [(10, (0, 0)), (4, (1, q8)), (6, (1, q6)), (8, (4, 0)), (9, (0, 1))]) (pcN := 102) jIH_14_100 rfl rfl rfl rfl ?_
  refine jT_loc (LN := [(10, (0, 0)), (6, (1, q6)), (4, (1, q8)), (8, (4, 0)), (9, (0, 1))]) (by show List.Nodup [10, 6, 4, 8, 9]; decide) (by intro q hq; simp only [List.mem_cons, List.not_mem_nil, or_false] at hq; rcases hq with rfl | rfl | rfl | rfl | rfl <;> rfl) ?_
  refine jHl_fr_28 (y4 := q8) (e0 := q5 - q7) (e2 := 0) (e3 := 0) (e4 := 0) (e5 := 0) 20 0 q6 q9 (by omega) (by omega) (by omega) (by omega) (Int.lt_of_le_of_lt (show q6 ≤ (1000000 : Int) by omega) (by decide)) ?_
  have hb_q10 := jsu_b (P := 3) (by decide) (n := 20) (u := q6) (by omega) (by omega)
  generalize hq_q10 : jsu 3 20 q6 = q10 at hb_q10 g_1 ⊢
  have hb_q11 := jsc_b (P := 3) (n := 20) (u := q6)
  have hb_q11 : 0 ≤ jsc 3 20 q6 ∧ jsc 3 20 q6 ≤ 20 := ⟨hb_q11.1, by omega⟩
  generalize hq_q11 : jsc 3 20 q6 = q11 at hb_q11 ⊢
  refine jT_eq (LN := [(6, (1, q10)), (4, (1, q8)), (8, (4, 0)), (9, (0, 1))]) (stN := []) (hsN := [(101, [], [q5 - q7, -q11 + q9, 0, 0, 0, 0])]) (rfl) (rfl) (by simp only [List.cons.injEq, Prod.mk.injEq, and_true, true_and] <;> ((try unfold jw); (try unfold jwl); omega)) ?_
  refine jT_xiinc (x := 1) (z := 2) (LN := [(9, (0, 2)), (6, (1, q10)), (4, (1, q8)), (8, (4, 0))]) (pcN := 161) jIH_14_158 rfl rfl (by decide) rfl rfl ?_
  refine jT_xgoto (pcN := 33) jIH_14_161 rfl ?_
  refine jT_xiload (v := (0, 2)) (pcN := 35) jIH_14_33 rfl rfl rfl ?_
  refine jT_xbipush (k := 6) (pcN := 37) jIH_14_35 (by decide) rfl ?_
  refine jT_xicF (t := 164) (pcN := 40) jIH_14_37 rfl (by decide +kernel) rfl rfl ?_
  refine jT_xiconst (k := 0) (pcN := 41) jIH_14_40 rfl ?_
  refine jT_xistore (v := (0, 0)) (LN := [(10, (0, 0)), (9, (0, 2)), (6, (1, q10)), (4, (1, q8)), (8, (4, 0))]) (pcN := 43) jIH_14_41 rfl rfl rfl rfl ?_
  refine jT_loc (LN := [(10, (0, 0)), (4, (1, q8)), (6, (1, q10)), (8, (4, 0)), (9, (0, 2))]) (by show List.Nodup [10, 4, 6, 8, 9]; decide) (by intro q hq; simp only [List.mem_cons, List.not_mem_nil, or_false] at hq; rcases hq with rfl | rfl | rfl | rfl | rfl <;> rfl) ?_
  refine jHl_fr_29 (y6 := q10) (e0 := q5 - q7) (e1 := -q11 + q9) (e3 := 0) (e4 := 0) (e5 := 0) 20 0 q8 0 (by omega) (by omega) (by omega) (by omega) (Int.lt_of_le_of_lt (show q8 ≤ (1000000 : Int) by omega) (by decide)) ?_
  have hb_q12 := jsu_b (P := 5) (by decide) (n := 20) (u := q8) (by omega) (by omega)
  generalize hq_q12 : jsu 5 20 q8 = q12 at hb_q12 g_0 ⊢
  have hb_q13 := jsc_b (P := 5) (n := 20) (u := q8)
  have hb_q13 : 0 ≤ jsc 5 20 q8 ∧ jsc 5 20 q8 ≤ 20 := ⟨hb_q13.1, by omega⟩
  generalize hq_q13 : jsc 5 20 q8 = q13 at hb_q13 ⊢
  refine jT_eq (LN := [(4, (1, q12)), (6, (1, q10)), (8, (4, 0)), (9, (0, 2))]) (stN := []) (hsN := [(101, [], [q5 - q7, -q11 + q9, q13, 0, 0, 0])]) (rfl) (rfl) (by simp only [List.cons.injEq, Prod.mk.injEq, and_true, true_and] <;> ((try unfold jw); (try unfold jwl); omega)) ?_
  refine jT_xiconst (k := 0) (pcN := 100) jIH_14_99 rfl ?_
  refine jT_xistore (v := (0, 0)) (LN := [(10, (0, 0)), (4, (1, q12)), (6, (1, q10)), (8, (4, 0)), (9, (0, 2))]) (pcN := 102) jIH_14_100 rfl rfl rfl rfl ?_
  refine jT_loc (LN := [(10, (0, 0)), (6, (1, q10)), (4, (1, q12)), (8, (4, 0)), (9, (0, 2))]) (by show List.Nodup [10, 6, 4, 8, 9]; decide) (by intro q hq; simp only [List.mem_cons, List.not_mem_nil, or_false] at hq; rcases hq with rfl | rfl | rfl | rfl | rfl <;> rfl) ?_
  refine jHl_fr_30 (y4 := q12) (e0 := q5 - q7) (e1 := -q11 + q9) (e3 := 0) (e4 := 0) (e5 := 0) 20 0 q10 q13 (by omega) (by omega) (by omega) (by omega) (Int.lt_of_le_of_lt (show q10 ≤ (1000000 : Int) by omega) (by decide)) ?_
  have hb_q14 := jsu_b (P := 5) (by decide) (n := 20) (u := q10) (by omega) (by omega)
  generalize hq_q14 : jsu 5 20 q10 = q14 at hb_q14 g_1 ⊢
  have hb_q15 := jsc_b (P := 5) (n := 20) (u := q10)
  have hb_q15 : 0 ≤ jsc 5 20 q10 ∧ jsc 5 20 q10 ≤ 20 := ⟨hb_q15.1, by omega⟩
  generalize hq_q15 : jsc 5 20 q10 = q15 at hb_q15 ⊢
  refine jT_xiinc (x := 2) (z := 3) (LN := [(9, (0, 3)), (6, (1, q14)), (4, (1, q12)), (8, (4, 0))]) (pcN := 161) jIH_14_158 rfl rfl (by decide) rfl rfl ?_
  refine jT_xgoto (pcN := 33) jIH_14_161 rfl ?_
  refine jT_xiload (v := (0, 3)) (pcN := 35) jIH_14_33 rfl rfl rfl ?_
  refine jT_xbipush (k := 6) (pcN := 37) jIH_14_35 (by decide) rfl ?_
  refine jT_xicF (t := 164) (pcN := 40) jIH_14_37 rfl (by decide +kernel) rfl rfl ?_
  refine jT_xiconst (k := 0) (pcN := 41) jIH_14_40 rfl ?_
  refine jT_xistore (v := (0, 0)) (LN := [(10, (0, 0)), (9, (0, 3)), (6, (1, q14)), (4, (1, q12)), (8, (4, 0))]) (pcN := 43) jIH_14_41 rfl rfl rfl rfl ?_
  refine jT_loc (LN := [(10, (0, 0)), (4, (1, q12)), (6, (1, q14)), (8, (4, 0)), (9, (0, 3))]) (by show List.Nodup [10, 4, 6, 8, 9]; decide) (by intro q hq; simp only [List.mem_cons, List.not_mem_nil, or_false] at hq; rcases hq with rfl | rfl | rfl | rfl | rfl <;> rfl) ?_
  refine jHl_fr_31 (y6 := q14) (e0 := q5 - q7) (e1 := -q11 + q9) (e2 := q13 - q15) (e4 := 0) (e5 := 0) 20 0 q12 0 (by omega) (by omega) (by omega) (by omega) (Int.lt_of_le_of_lt (show q12 ≤ (1000000 : Int) by omega) (by decide)) ?_
  have hb_q16 := jsu_b (P := 7) (by decide) (n := 20) (u := q12) (by omega) (by omega)
  generalize hq_q16 : jsu 7 20 q12 = q16 at hb_q16 g_0 ⊢
  have hb_q17 := jsc_b (P := 7) (n := 20) (u := q12)
  have hb_q17 : 0 ≤ jsc 7 20 q12 ∧ jsc 7 20 q12 ≤ 20 := ⟨hb_q17.1, by omega⟩
  generalize hq_q17 : jsc 7 20 q12 = q17 at hb_q17 ⊢
  refine jT_eq (LN := [(4, (1, q16)), (6, (1, q14)), (8, (4, 0)), (9, (0, 3))]) (stN := []) (hsN := [(101, [], [q5 - q7, -q11 + q9, q13 - q15, q17, 0, 0])]) (rfl) (rfl) (by simp only [List.cons.injEq, Prod.mk.injEq, and_true, true_and] <;> ((try unfold jw); (try unfold jwl); omega)) ?_
  refine jT_xiconst (k := 0) (pcN := 100) jIH_14_99 rfl ?_
  refine jT_xistore (v := (0, 0)) (LN := [(10, (0, 0)), (4, (1, q16)), (6, (1, q14)), (8, (4, 0)), (9, (0, 3))]) (pcN := 102) jIH_14_100 rfl rfl rfl rfl ?_
  refine jT_loc (LN := [(10, (0, 0)), (6, (1, q14)), (4, (1, q16)), (8, (4, 0)), (9, (0, 3))]) (by show List.Nodup [10, 6, 4, 8, 9]; decide) (by intro q hq; simp only [List.mem_cons, List.not_mem_nil, or_false] at hq; rcases hq with rfl | rfl | rfl | rfl | rfl <;> rfl) ?_
  refine jHl_fr_32 (y4 := q16) (e0 := q5 - q7) (e1 := -q11 + q9) (e2 := q13 - q15) (e4 := 0) (e5 := 0) 20 0 q14 q17 (by omega) (by omega) (by omega) (by omega) (Int.lt_of_le_of_lt (show q14 ≤ (1000000 : Int) by omega) (by decide)) ?_
  have hb_q18 := jsu_b (P := 7) (by decide) (n := 20) (u := q14) (by omega) (by omega)
  generalize hq_q18 : jsu 7 20 q14 = q18 at hb_q18 g_1 ⊢
  have hb_q19 := jsc_b (P := 7) (n := 20) (u := q14)
  have hb_q19 : 0 ≤ jsc 7 20 q14 ∧ jsc 7 20 q14 ≤ 20 := ⟨hb_q19.1, by omega⟩
  generalize hq_q19 : jsc 7 20 q14 = q19 at hb_q19 ⊢
  refine jT_xiinc (x := 3) (z := 4) (LN := [(9, (0, 4)), (6, (1, q18)), (4, (1, q16)), (8, (4, 0))]) (pcN := 161) jIH_14_158 rfl rfl (by decide) rfl rfl ?_
  refine jT_xgoto (pcN := 33) jIH_14_161 rfl ?_
  refine jT_xiload (v := (0, 4)) (pcN := 35) jIH_14_33 rfl rfl rfl ?_
  refine jT_xbipush (k := 6) (pcN := 37) jIH_14_35 (by decide) rfl ?_
  refine jT_xicF (t := 164) (pcN := 40) jIH_14_37 rfl (by decide +kernel) rfl rfl ?_
  refine jT_xiconst (k := 0) (pcN := 41) jIH_14_40 rfl ?_
  refine jT_xistore (v := (0, 0)) (LN := [(10, (0, 0)), (9, (0, 4)), (6, (1, q18)), (4, (1, q16)), (8, (4, 0))]) (pcN := 43) jIH_14_41 rfl rfl rfl rfl ?_
  refine jT_loc (LN := [(10, (0, 0)), (4, (1, q16)), (6, (1, q18)), (8, (4, 0)), (9, (0, 4))]) (by show List.Nodup [10, 4, 6, 8, 9]; decide) (by intro q hq; simp only [List.mem_cons, List.not_mem_nil, or_false] at hq; rcases hq with rfl | rfl | rfl | rfl | rfl <;> rfl) ?_
  refine jHl_fr_33 (y6 := q18) (e0 := q5 - q7) (e1 := -q11 + q9) (e2 := q13 - q15) (e3 := q17 - q19) (e5 := 0) 20 0 q16 0 (by omega) (by omega) (by omega) (by omega) (Int.lt_of_le_of_lt (show q16 ≤ (1000000 : Int) by omega) (by decide)) ?_
  have hb_q20 := jsu_b (P := 11) (by decide) (n := 20) (u := q16) (by omega) (by omega)
  generalize hq_q20 : jsu 11 20 q16 = q20 at hb_q20 g_0 ⊢
  have hb_q21 := jsc_b (P := 11) (n := 20) (u := q16)
  have hb_q21 : 0 ≤ jsc 11 20 q16 ∧ jsc 11 20 q16 ≤ 20 := ⟨hb_q21.1, by omega⟩
  generalize hq_q21 : jsc 11 20 q16 = q21 at hb_q21 ⊢
  refine jT_eq (LN := [(4, (1, q20)), (6, (1, q18)), (8, (4, 0)), (9, (0, 4))]) (stN := []) (hsN := [(101, [], [q5 - q7, -q11 + q9, q13 - q15, q17 - q19, q21, 0])]) (rfl) (rfl) (by simp only [List.cons.injEq, Prod.mk.injEq, and_true, true_and] <;> ((try unfold jw); (try unfold jwl); omega)) ?_
  refine jT_xiconst (k := 0) (pcN := 100) jIH_14_99 rfl ?_
  refine jT_xistore (v := (0, 0)) (LN := [(10, (0, 0)), (4, (1, q20)), (6, (1, q18)), (8, (4, 0)), (9, (0, 4))]) (pcN := 102) jIH_14_100 rfl rfl rfl rfl ?_
  refine jT_loc (LN := [(10, (0, 0)), (6, (1, q18)), (4, (1, q20)), (8, (4, 0)), (9, (0, 4))]) (by show List.Nodup [10, 6, 4, 8, 9]; decide) (by intro q hq; simp only [List.mem_cons, List.not_mem_nil, or_false] at hq; rcases hq with rfl | rfl | rfl | rfl | rfl <;> rfl) ?_
  refine jHl_fr_34 (y4 := q20) (e0 := q5 - q7) (e1 := -q11 + q9) (e2 := q13 - q15) (e3 := q17 - q19) (e5 := 0) 20 0 q18 q21 (by omega) (by omega) (by omega) (by omega) (Int.lt_of_le_of_lt (show q18 ≤ (1000000 : Int) by omega) (by decide)) ?_
  have hb_q22 := jsu_b (P := 11) (by decide) (n := 20) (u := q18) (by omega) (by omega)
  generalize hq_q22 : jsu 11 20 q18 = q22 at hb_q22 g_1 ⊢
  have hb_q23 := jsc_b (P := 11) (n := 20) (u := q18)
  have hb_q23 : 0 ≤ jsc 11 20 q18 ∧ jsc 11 20 q18 ≤ 20 := ⟨hb_q23.1, by omega⟩
  generalize hq_q23 : jsc 11 20 q18 = q23 at hb_q23 ⊢
  refine jT_xiinc (x := 4) (z := 5) (LN := [(9, (0, 5)), (6, (1, q22)), (4, (1, q20)), (8, (4, 0))]) (pcN := 161) jIH_14_158 rfl rfl (by decide) rfl rfl ?_
  refine jT_xgoto (pcN := 33) jIH_14_161 rfl ?_
  refine jT_xiload (v := (0, 5)) (pcN := 35) jIH_14_33 rfl rfl rfl ?_
  refine jT_xbipush (k := 6) (pcN := 37) jIH_14_35 (by decide) rfl ?_
  refine jT_xicF (t := 164) (pcN := 40) jIH_14_37 rfl (by decide +kernel) rfl rfl ?_
  refine jT_xiconst (k := 0) (pcN := 41) jIH_14_40 rfl ?_
  refine jT_xistore (v := (0, 0)) (LN := [(10, (0, 0)), (9, (0, 5)), (6, (1, q22)), (4, (1, q20)), (8, (4, 0))]) (pcN := 43) jIH_14_41 rfl rfl rfl rfl ?_
  refine jT_loc (LN := [(10, (0, 0)), (4, (1, q20)), (6, (1, q22)), (8, (4, 0)), (9, (0, 5))]) (by show List.Nodup [10, 4, 6, 8, 9]; decide) (by intro q hq; simp only [List.mem_cons, List.not_mem_nil, or_false] at hq; rcases hq with rfl | rfl | rfl | rfl | rfl <;> rfl) ?_
  refine jHl_fr_35 (y6 := q22) (e0 := q5 - q7) (e1 := -q11 + q9) (e2 := q13 - q15) (e3 := q17 - q19) (e4 := q21 - q23) 20 0 q20 0 (by omega) (by omega) (by omega) (by omega) (Int.lt_of_le_of_lt (show q20 ≤ (1000000 : Int) by omega) (by decide)) ?_
  have hb_q24 := jsu_b (P := 13) (by decide) (n := 20) (u := q20) (by omega) (by omega)
  generalize hq_q24 : jsu 13 20 q20 = q24 at hb_q24 g_0 ⊢
  have hb_q25 := jsc_b (P := 13) (n := 20) (u := q20)
  have hb_q25 : 0 ≤ jsc 13 20 q20 ∧ jsc 13 20 q20 ≤ 20 := ⟨hb_q25.1, by omega⟩
  generalize hq_q25 : jsc 13 20 q20 = q25 at hb_q25 ⊢
  refine jT_eq (LN := [(4, (1, q24)), (6, (1, q22)), (8, (4, 0)), (9, (0, 5))]) (stN := []) (hsN := [(101, [], [q5 - q7, -q11 + q9, q13 - q15, q17 - q19, q21 - q23, q25])]) (rfl) (rfl) (by simp only [List.cons.injEq, Prod.mk.injEq, and_true, true_and] <;> ((try unfold jw); (try unfold jwl); omega)) ?_
  refine jT_xiconst (k := 0) (pcN := 100) jIH_14_99 rfl ?_
  refine jT_xistore (v := (0, 0)) (LN := [(10, (0, 0)), (4, (1, q24)), (6, (1, q22)), (8, (4, 0)), (9, (0, 5))]) (pcN := 102) jIH_14_100 rfl rfl rfl rfl ?_
  refine jT_loc (LN := [(10, (0, 0)), (6, (1, q22)), (4, (1, q24)), (8, (4, 0)), (9, (0, 5))]) (by show List.Nodup [10, 6, 4, 8, 9]; decide) (by intro q hq; simp only [List.mem_cons, List.not_mem_nil, or_false] at hq; rcases hq with rfl | rfl | rfl | rfl | rfl <;> rfl) ?_
  refine jHl_fr_36 (y4 := q24) (e0 := q5 - q7) (e1 := -q11 + q9) (e2 := q13 - q15) (e3 := q17 - q19) (e4 := q21 - q23) 20 0 q22 q25 (by omega) (by omega) (by omega) (by omega) (Int.lt_of_le_of_lt (show q22 ≤ (1000000 : Int) by omega) (by decide)) ?_
  have hb_q26 := jsu_b (P := 13) (by decide) (n := 20) (u := q22) (by omega) (by omega)
  generalize hq_q26 : jsu 13 20 q22 = q26 at hb_q26 g_1 ⊢
  have hb_q27 := jsc_b (P := 13) (n := 20) (u := q22)
  have hb_q27 : 0 ≤ jsc 13 20 q22 ∧ jsc 13 20 q22 ≤ 20 := ⟨hb_q27.1, by omega⟩
  generalize hq_q27 : jsc 13 20 q22 = q27 at hb_q27 ⊢
  refine jT_xiinc (x := 5) (z := 6) (LN := [(9, (0, 6)), (6, (1, q26)), (4, (1, q24)), (8, (4, 0))]) (pcN := 161) jIH_14_158 rfl rfl (by decide) rfl rfl ?_
  refine jT_xgoto (pcN := 33) jIH_14_161 rfl ?_
  refine jT_xiload (v := (0, 6)) (pcN := 35) jIH_14_33 rfl rfl rfl ?_
  refine jT_xbipush (k := 6) (pcN := 37) jIH_14_35 (by decide) rfl ?_
  refine jT_xicT (pcN := 164) jIH_14_37 rfl (by decide +kernel) rfl ?_
  refine jT_xlload (v := (1, q24)) (pcN := 166) jIH_14_164 rfl rfl rfl ?_
  refine jT_xlconst (z := 1) (pcN := 167) jIH_14_166 rfl rfl ?_
  refine jT_lcmp (a := q24) (b := 1) (z := 0) (by rfl) (by rfl) (jwl_idd (by omega) (by omega)) (jwl_idd (by omega) (by omega)) (by rw [decide_eq_false (show ¬ ((1 : Int) < q24) by omega), decide_eq_true (show (q24 : Int) = 1 by omega)]; rfl) ?_
  refine jT_xifF (t := 191) (pcN := 171) jIH_14_168 rfl (by decide +kernel) rfl rfl ?_
  refine jT_xlload (v := (1, q26)) (pcN := 173) jIH_14_171 rfl rfl rfl ?_
  refine jT_xlconst (z := 1) (pcN := 174) jIH_14_173 rfl rfl ?_
  refine jT_lcmp (a := q26) (b := 1) (z := 0) (by rfl) (by rfl) (jwl_idd (by omega) (by omega)) (jwl_idd (by omega) (by omega)) (by rw [decide_eq_false (show ¬ ((1 : Int) < q26) by omega), decide_eq_true (show (q26 : Int) = 1 by omega)]; rfl) ?_
  refine jT_xifF (t := 191) (pcN := 178) jIH_14_175 rfl (by decide +kernel) rfl rfl ?_
  refine jT_adv 2 (pcN := 182) (LN := [(9, (0, 6)), (6, (1, q26)), (4, (1, q24)), (8, (4, 0))]) (stN := [(4, 1), (4, 1)]) (hsN := [(101, [], [q5 - q7, -q11 + q9, q13 - q15, q17 - q19, q21 - q23, q25 - q27]), (4, [(4, (-1)), (1, 0)], [])]) (c1 := 1) (s1 := 2) (c2 := 0) (s2 := 0) (by exact rfl) ?_ (by omega) (by omega)
  refine jT_xaload (v := (4, 0)) (pcN := 184) jIH_14_182 rfl rfl rfl ?_
  refine jT_xlconst (z := 1) (pcN := 185) jIH_14_184 rfl rfl ?_
  refine jT_callB [1, 0] (y := 9) (pcN := 188) (dC := 1) (bc1 := 0) (bc2 := 0) (c1 := 0) (c2 := 0) (as := [(4, 1), (4, 0), (1, 1)]) (asC := [(4, 0), (4, 1), (1, 1)]) (LN := [(9, (0, 6)), (6, (1, q26)), (4, (1, q24)), (8, (4, 0))]) (stN := [(4, 1)]) (hsC := [(4, [(4, (-1)), (1, 0)], []), (101, [], [q5 - q7, -q11 + q9, q13 - q15, q17 - q19, q21 - q23, q25 - q27])]) (hsD := [(4, [(4, 1), (1, 1)], []), (101, [], [q5 - q7, -q11 + q9, q13 - q15, q17 - q19, q21 - q23, q25 - q27])]) (v := (9, 0)) (st2 := [(4, 1)]) (hs2 := [(101, [], [q5 - q7, -q11 + q9, q13 - q15, q17 - q19, q21 - q23, q25 - q27]), (4, [(4, 0), (1, 1)], [])]) (jH_9_65 (d := 0) (by omega) (by omega) (by omega) (by omega) (by omega) (by omega) (by omega) (by omega) (by omega) (by omega) (by omega) (by omega)) (by rfl) (by rfl) (by rfl) (by rfl) ⟨rfl, rfl, trivial⟩ (by rfl) (by rfl) (by omega) (by show 0 ≤ 2; omega) (by omega) (by omega) rfl rfl ?_
  refine jT_xgoto (pcN := 192) jIH_14_188 rfl ?_
  subst hq_q27
  subst hq_q26
  subst hq_q25
  subst hq_q24
  subst hq_q23
  subst hq_q22
  subst hq_q21
  subst hq_q20
  subst hq_q19
  subst hq_q18
  subst hq_q17
  subst hq_q16
  subst hq_q15
  subst hq_q14
  subst hq_q13
  subst hq_q12
  subst hq_q11
  subst hq_q10
  subst hq_q9
  subst hq_q8
  subst hq_q7
  subst hq_q6
  subst hq_q5
  subst hq_q4
  subst hq_q3
  subst hq_q2
  subst hq_q1
  exact jT_ret rfl (by decide) (by show 0 ≤ 2; omega) (by omega) (by omega) ⟨rfl, rfl, rfl⟩
theorem jIH_16_0 : jmI (jm 16) 0 = (.lconst 0, 1) := by rfl
theorem jIH_16_1 : jmI (jm 16) 1 = (.lstore_n 1, 1) := by rfl
theorem jIH_16_2 : jmI (jm 16) 2 = (.iconst 0, 1) := by rfl
theorem jIH_16_3 : jmI (jm 16) 3 = (.istore_n 3, 1) := by rfl
theorem jIH_16_4 : jmI (jm 16) 4 = (.iload_n 3, 1) := by rfl
theorem jIH_16_5 : jmI (jm 16) 5 = (.bipush 6, 2) := by rfl
theorem jIH_16_7 : jmI (jm 16) 7 = (.if_icmp .ge 23, 3) := by rfl
theorem jIH_16_10 : jmI (jm 16) 10 = (.lload_n 1, 1) := by rfl
theorem jIH_16_11 : jmI (jm 16) 11 = (.aload_n 0, 1) := by rfl
theorem jIH_16_12 : jmI (jm 16) 12 = (.getfield 9, 3) := by rfl
theorem jIH_16_15 : jmI (jm 16) 15 = (.iload_n 3, 1) := by rfl
theorem jIH_16_16 : jmI (jm 16) 16 = (.laload, 1) := by rfl
theorem jIH_16_23 : jmI (jm 16) 23 = (.lstore_n 1, 1) := by rfl
theorem jIH_16_24 : jmI (jm 16) 24 = (.iinc 3 1, 3) := by rfl
theorem jIH_16_27 : jmI (jm 16) 27 = (.goto (-23), 3) := by rfl
theorem jIH_16_30 : jmI (jm 16) 30 = (.lload_n 1, 1) := by rfl
theorem jH_16_67 {xs : List Int} {d : Nat} {q1 q10 q11 q12 q2 q3 q4 q5 q6 q7 q8 q9 : Int} (h_q1 : 0 ≤ q1 ∧ q1 ≤ 20) (h_q10 : 0 ≤ q10 ∧ q10 ≤ 20) (h_q11 : 0 ≤ q11 ∧ q11 ≤ 20) (h_q12 : 0 ≤ q12 ∧ q12 ≤ 20) (h_q2 : 0 ≤ q2 ∧ q2 ≤ 20) (h_q3 : 0 ≤ q3 ∧ q3 ≤ 20) (h_q4 : 0 ≤ q4 ∧ q4 ≤ 20) (h_q5 : 0 ≤ q5 ∧ q5 ≤ 20) (h_q6 : 0 ≤ q6 ∧ q6 ≤ 20) (h_q7 : 0 ≤ q7 ∧ q7 ≤ 20) (h_q8 : 0 ≤ q8 ∧ q8 ≤ 20) (h_q9 : 0 ≤ q9 ∧ q9 ≤ 20) : jT xs d 16 2 0 [(0, (4, 0))] [] [(4, [(4, 1), (1, 1)], []), (101, [], [q1 - q2, q3 - q4, q5 - q6, q7 - q8, -q10 + q9, q11 - q12])] 0 0 (fun k v hsN => k = 0 ∧ v = (1, (max ((max ((max ((max ((max ((((q1 - q2).natAbs : Nat) : Int)) ((((q3 - q4).natAbs : Nat) : Int)))) ((((q5 - q6).natAbs : Nat) : Int)))) ((((q7 - q8).natAbs : Nat) : Int)))) ((((-q10 + q9).natAbs : Nat) : Int)))) ((((q11 - q12).natAbs : Nat) : Int)))) ∧ hsN = [(4, [(4, 1), (1, 1)], []), (101, [], [q1 - q2, q3 - q4, q5 - q6, q7 - q8, -q10 + q9, q11 - q12])] ++ []) := by
  refine jT_xlconst (z := 0) (pcN := 1) jIH_16_0 rfl rfl ?_
  refine jT_xlstore_n (v := (1, 0)) (LN := [(1, (1, 0)), (0, (4, 0))]) (pcN := 2) jIH_16_1 rfl rfl rfl rfl ?_
  refine jT_xiconst (k := 0) (pcN := 3) jIH_16_2 rfl ?_
  refine jT_xistore_n (v := (0, 0)) (LN := [(3, (0, 0)), (1, (1, 0)), (0, (4, 0))]) (pcN := 4) jIH_16_3 rfl rfl rfl rfl ?_
  refine jT_xiload_n (v := (0, 0)) (pcN := 5) jIH_16_4 rfl rfl rfl ?_
  refine jT_xbipush (k := 6) (pcN := 7) jIH_16_5 (by decide) rfl ?_
  refine jT_xicF (t := 30) (pcN := 10) jIH_16_7 rfl (by decide +kernel) rfl rfl ?_
  refine jT_xlload_n (v := (1, 0)) (pcN := 11) jIH_16_10 rfl rfl rfl ?_
  refine jT_xaload_n (v := (4, 0)) (pcN := 12) jIH_16_11 rfl rfl rfl ?_
  refine jT_xgetf (a := 0) (t := 1) (ci := 4) (fi := 0) (c := (4, [(4, 1), (1, 1)], [])) (v := (4, 1)) (pcN := 15) jIH_16_12 rfl rfl rfl rfl rfl rfl rfl ?_
  refine jT_xiload_n (v := (0, 0)) (pcN := 16) jIH_16_15 rfl rfl rfl ?_
  refine jT_lald (x := q1 - q2) (a := 1) (j := 0) (fs := []) (X := [q1 - q2, q3 - q4, q5 - q6, q7 - q8, -q10 + q9, q11 - q12]) jIH_16_16 rfl rfl rfl rfl ?_
  refine jT_eq (LN := [(3, (0, 0)), (1, (1, 0)), (0, (4, 0))]) (stN := [(1, q1 - q2), (1, 0)]) (hsN := [(4, [(4, 1), (1, 1)], []), (101, [], [q1 - q2, q3 - q4, q5 - q6, q7 - q8, -q10 + q9, q11 - q12])]) rfl rfl rfl ?_
  refine jT_labs (z := (((q1 - q2).natAbs : Nat) : Int)) (by rfl) (by rfl) (by rfl) (by rfl) (jabs_n (jwl_idd (by omega) (by omega))) ?_
  have hb_q13 : 0 ≤ (((q1 - q2).natAbs : Nat) : Int) ∧ (((q1 - q2).natAbs : Nat) : Int) ≤ 20 := ⟨by omega, by omega⟩
  generalize hq_q13 : (((q1 - q2).natAbs : Nat) : Int) = q13 at hb_q13 ⊢
  refine jT_mm3 (x := 0) (y := q13) (z := q13) (by rfl) (by rfl) (by rfl) (by rfl) (jwl_idd (by omega) (by omega)) (jwl_idd (by omega) (by omega)) (by rw [decide_eq_false (show ¬ ((q13 : Int) < 0) by omega)]; rfl) ?_
  refine jT_xlstore_n (v := (1, q13)) (LN := [(1, (1, q13)), (3, (0, 0)), (0, (4, 0))]) (pcN := 24) jIH_16_23 rfl rfl rfl rfl ?_
  refine jT_xiinc (x := 0) (z := 1) (LN := [(3, (0, 1)), (1, (1, q13)), (0, (4, 0))]) (pcN := 27) jIH_16_24 rfl rfl (by decide) rfl rfl ?_
  refine jT_xgoto (pcN := 4) jIH_16_27 rfl ?_
  refine jT_xiload_n (v := (0, 1)) (pcN := 5) jIH_16_4 rfl rfl rfl ?_
  refine jT_xbipush (k := 6) (pcN := 7) jIH_16_5 (by decide) rfl ?_
  refine jT_xicF (t := 30) (pcN := 10) jIH_16_7 rfl (by decide +kernel) rfl rfl ?_
  refine jT_xlload_n (v := (1, q13)) (pcN := 11) jIH_16_10 rfl rfl rfl ?_
  refine jT_xaload_n (v := (4, 0)) (pcN := 12) jIH_16_11 rfl rfl rfl ?_
  refine jT_xgetf (a := 0) (t := 1) (ci := 4) (fi := 0) (c := (4, [(4, 1), (1, 1)], [])) (v := (4, 1)) (pcN := 15) jIH_16_12 rfl rfl rfl rfl rfl rfl rfl ?_
  refine jT_xiload_n (v := (0, 1)) (pcN := 16) jIH_16_15 rfl rfl rfl ?_
  refine jT_lald (x := q3 - q4) (a := 1) (j := 1) (fs := []) (X := [q1 - q2, q3 - q4, q5 - q6, q7 - q8, -q10 + q9, q11 - q12]) jIH_16_16 rfl rfl rfl rfl ?_
  refine jT_eq (LN := [(3, (0, 1)), (1, (1, q13)), (0, (4, 0))]) (stN := [(1, q3 - q4), (1, q13)]) (hsN := [(4, [(4, 1), (1, 1)], []), (101, [], [q1 - q2, q3 - q4, q5 - q6, q7 - q8, -q10 + q9, q11 - q12])]) rfl rfl rfl ?_
  refine jT_labs (z := (((q3 - q4).natAbs : Nat) : Int)) (by rfl) (by rfl) (by rfl) (by rfl) (jabs_n (jwl_idd (by omega) (by omega))) ?_
  have hb_q14 : 0 ≤ (((q3 - q4).natAbs : Nat) : Int) ∧ (((q3 - q4).natAbs : Nat) : Int) ≤ 20 := ⟨by omega, by omega⟩
  generalize hq_q14 : (((q3 - q4).natAbs : Nat) : Int) = q14 at hb_q14 ⊢
  refine jT_mm3 (x := q13) (y := q14) (z := (max q13 q14)) (by rfl) (by rfl) (by rfl) (by rfl) (jwl_idd (by omega) (by omega)) (jwl_idd (by omega) (by omega)) jmax_c ?_
  have hb_q15 : 0 ≤ (max q13 q14) ∧ (max q13 q14) ≤ 20 := ⟨by omega, by omega⟩
  generalize hq_q15 : (max q13 q14) = q15 at hb_q15 ⊢
  refine jT_xlstore_n (v := (1, q15)) (LN := [(1, (1, q15)), (3, (0, 1)), (0, (4, 0))]) (pcN := 24) jIH_16_23 rfl rfl rfl rfl ?_
  refine jT_xiinc (x := 1) (z := 2) (LN := [(3, (0, 2)), (1, (1, q15)), (0, (4, 0))]) (pcN := 27) jIH_16_24 rfl rfl (by decide) rfl rfl ?_
  refine jT_xgoto (pcN := 4) jIH_16_27 rfl ?_
  refine jT_xiload_n (v := (0, 2)) (pcN := 5) jIH_16_4 rfl rfl rfl ?_
  refine jT_xbipush (k := 6) (pcN := 7) jIH_16_5 (by decide) rfl ?_
  refine jT_xicF (t := 30) (pcN := 10) jIH_16_7 rfl (by decide +kernel) rfl rfl ?_
  refine jT_xlload_n (v := (1, q15)) (pcN := 11) jIH_16_10 rfl rfl rfl ?_
  refine jT_xaload_n (v := (4, 0)) (pcN := 12) jIH_16_11 rfl rfl rfl ?_
  refine jT_xgetf (a := 0) (t := 1) (ci := 4) (fi := 0) (c := (4, [(4, 1), (1, 1)], [])) (v := (4, 1)) (pcN := 15) jIH_16_12 rfl rfl rfl rfl rfl rfl rfl ?_
  refine jT_xiload_n (v := (0, 2)) (pcN := 16) jIH_16_15 rfl rfl rfl ?_
  refine jT_lald (x := q5 - q6) (a := 1) (j := 2) (fs := []) (X := [q1 - q2, q3 - q4, q5 - q6, q7 - q8, -q10 + q9, q11 - q12]) jIH_16_16 rfl rfl rfl rfl ?_
  refine jT_eq (LN := [(3, (0, 2)), (1, (1, q15)), (0, (4, 0))]) (stN := [(1, q5 - q6), (1, q15)]) (hsN := [(4, [(4, 1), (1, 1)], []), (101, [], [q1 - q2, q3 - q4, q5 - q6, q7 - q8, -q10 + q9, q11 - q12])]) rfl rfl rfl ?_
  refine jT_labs (z := (((q5 - q6).natAbs : Nat) : Int)) (by rfl) (by rfl) (by rfl) (by rfl) (jabs_n (jwl_idd (by omega) (by omega))) ?_
  have hb_q16 : 0 ≤ (((q5 - q6).natAbs : Nat) : Int) ∧ (((q5 - q6).natAbs : Nat) : Int) ≤ 20 := ⟨by omega, by omega⟩
  generalize hq_q16 : (((q5 - q6).natAbs : Nat) : Int) = q16 at hb_q16 ⊢
  refine jT_mm3 (x := q15) (y := q16) (z := (max q15 q16)) (by rfl) (by rfl) (by rfl) (by rfl) (jwl_idd (by omega) (by omega)) (jwl_idd (by omega) (by omega)) jmax_c ?_
  have hb_q17 : 0 ≤ (max q15 q16) ∧ (max q15 q16) ≤ 20 := ⟨by omega, by omega⟩
  generalize hq_q17 : (max q15 q16) = q17 at hb_q17 ⊢
  refine jT_xlstore_n (v := (1, q17)) (LN := [(1, (1, q17)), (3, (0, 2)), (0, (4, 0))]) (pcN := 24) jIH_16_23 rfl rfl rfl rfl ?_
  refine jT_xiinc (x := 2) (z := 3) (LN := [(3, (0, 3)), (1, (1, q17)), (0, (4, 0))]) (pcN := 27) jIH_16_24 rfl rfl (by decide) rfl rfl ?_
  refine jT_xgoto (pcN := 4) jIH_16_27 rfl ?_
  refine jT_xiload_n (v := (0, 3)) (pcN := 5) jIH_16_4 rfl rfl rfl ?_
  refine jT_xbipush (k := 6) (pcN := 7) jIH_16_5 (by decide) rfl ?_
  refine jT_xicF (t := 30) (pcN := 10) jIH_16_7 rfl (by decide +kernel) rfl rfl ?_
  refine jT_xlload_n (v := (1, q17)) (pcN := 11) jIH_16_10 rfl rfl rfl ?_
  refine jT_xaload_n (v := (4, 0)) (pcN := 12) jIH_16_11 rfl rfl rfl ?_
  refine jT_xgetf (a := 0) (t := 1) (ci := 4) (fi := 0) (c := (4, [(4, 1), (1, 1)], [])) (v := (4, 1)) (pcN := 15) jIH_16_12 rfl rfl rfl rfl rfl rfl rfl ?_
  refine jT_xiload_n (v := (0, 3)) (pcN := 16) jIH_16_15 rfl rfl rfl ?_
  refine jT_lald (x := q7 - q8) (a := 1) (j := 3) (fs := []) (X := [q1 - q2, q3 - q4, q5 - q6, q7 - q8, -q10 + q9, q11 - q12]) jIH_16_16 rfl rfl rfl rfl ?_
  refine jT_eq (LN := [(3, (0, 3)), (1, (1, q17)), (0, (4, 0))]) (stN := [(1, q7 - q8), (1, q17)]) (hsN := [(4, [(4, 1), (1, 1)], []), (101, [], [q1 - q2, q3 - q4, q5 - q6, q7 - q8, -q10 + q9, q11 - q12])]) rfl rfl rfl ?_
  refine jT_labs (z := (((q7 - q8).natAbs : Nat) : Int)) (by rfl) (by rfl) (by rfl) (by rfl) (jabs_n (jwl_idd (by omega) (by omega))) ?_
  have hb_q18 : 0 ≤ (((q7 - q8).natAbs : Nat) : Int) ∧ (((q7 - q8).natAbs : Nat) : Int) ≤ 20 := ⟨by omega, by omega⟩
  generalize hq_q18 : (((q7 - q8).natAbs : Nat) : Int) = q18 at hb_q18 ⊢
  refine jT_mm3 (x := q17) (y := q18) (z := (max q17 q18)) (by rfl) (by rfl) (by rfl) (by rfl) (jwl_idd (by omega) (by omega)) (jwl_idd (by omega) (by omega)) jmax_c ?_
  have hb_q19 : 0 ≤ (max q17 q18) ∧ (max q17 q18) ≤ 20 := ⟨by omega, by omega⟩
  generalize hq_q19 : (max q17 q18) = q19 at hb_q19 ⊢
  refine jT_xlstore_n (v := (1, q19)) (LN := [(1, (1, q19)), (3, (0, 3)), (0, (4, 0))]) (pcN := 24) jIH_16_23 rfl rfl rfl rfl ?_
  refine jT_xiinc (x := 3) (z := 4) (LN := [(3, (0, 4)), (1, (1, q19)), (0, (4, 0))]) (pcN := 27) jIH_16_24 rfl rfl (by decide) rfl rfl ?_
  refine jT_xgoto (pcN := 4) jIH_16_27 rfl ?_
  refine jT_xiload_n (v := (0, 4)) (pcN := 5) jIH_16_4 rfl rfl rfl ?_
  refine jT_xbipush (k := 6) (pcN := 7) jIH_16_5 (by decide) rfl ?_
  refine jT_xicF (t := 30) (pcN := 10) jIH_16_7 rfl (by decide +kernel) rfl rfl ?_
  refine jT_xlload_n (v := (1, q19)) (pcN := 11) jIH_16_10 rfl rfl rfl ?_
  refine jT_xaload_n (v := (4, 0)) (pcN := 12) jIH_16_11 rfl rfl rfl ?_
  refine jT_xgetf (a := 0) (t := 1) (ci := 4) (fi := 0) (c := (4, [(4, 1), (1, 1)], [])) (v := (4, 1)) (pcN := 15) jIH_16_12 rfl rfl rfl rfl rfl rfl rfl ?_
  refine jT_xiload_n (v := (0, 4)) (pcN := 16) jIH_16_15 rfl rfl rfl ?_
  refine jT_lald (x := -q10 + q9) (a := 1) (j := 4) (fs := []) (X := [q1 - q2, q3 - q4, q5 - q6, q7 - q8, -q10 + q9, q11 - q12]) jIH_16_16 rfl rfl rfl rfl ?_
  refine jT_eq (LN := [(3, (0, 4)), (1, (1, q19)), (0, (4, 0))]) (stN := [(1, -q10 + q9), (1, q19)]) (hsN := [(4, [(4, 1), (1, 1)], []), (101, [], [q1 - q2, q3 - q4, q5 - q6, q7 - q8, -q10 + q9, q11 - q12])]) rfl rfl rfl ?_
  refine jT_labs (z := (((-q10 + q9).natAbs : Nat) : Int)) (by rfl) (by rfl) (by rfl) (by rfl) (jabs_n (jwl_idd (by omega) (by omega))) ?_
  have hb_q20 : 0 ≤ (((-q10 + q9).natAbs : Nat) : Int) ∧ (((-q10 + q9).natAbs : Nat) : Int) ≤ 20 := ⟨by omega, by omega⟩
  generalize hq_q20 : (((-q10 + q9).natAbs : Nat) : Int) = q20 at hb_q20 ⊢
  refine jT_mm3 (x := q19) (y := q20) (z := (max q19 q20)) (by rfl) (by rfl) (by rfl) (by rfl) (jwl_idd (by omega) (by omega)) (jwl_idd (by omega) (by omega)) jmax_c ?_
  have hb_q21 : 0 ≤ (max q19 q20) ∧ (max q19 q20) ≤ 20 := ⟨by omega, by omega⟩
  generalize hq_q21 : (max q19 q20) = q21 at hb_q21 ⊢
  refine jT_xlstore_n (v := (1, q21)) (LN := [(1, (1, q21)), (3, (0, 4)), (0, (4, 0))]) (pcN := 24) jIH_16_23 rfl rfl rfl rfl ?_
  refine jT_xiinc (x := 4) (z := 5) (LN := [(3, (0, 5)), (1, (1, q21)), (0, (4, 0))]) (pcN := 27) jIH_16_24 rfl rfl (by decide) rfl rfl ?_
  refine jT_xgoto (pcN := 4) jIH_16_27 rfl ?_
  refine jT_xiload_n (v := (0, 5)) (pcN := 5) jIH_16_4 rfl rfl rfl ?_
  refine jT_xbipush (k := 6) (pcN := 7) jIH_16_5 (by decide) rfl ?_
  refine jT_xicF (t := 30) (pcN := 10) jIH_16_7 rfl (by decide +kernel) rfl rfl ?_
  refine jT_xlload_n (v := (1, q21)) (pcN := 11) jIH_16_10 rfl rfl rfl ?_
  refine jT_xaload_n (v := (4, 0)) (pcN := 12) jIH_16_11 rfl rfl rfl ?_
  refine jT_xgetf (a := 0) (t := 1) (ci := 4) (fi := 0) (c := (4, [(4, 1), (1, 1)], [])) (v := (4, 1)) (pcN := 15) jIH_16_12 rfl rfl rfl rfl rfl rfl rfl ?_
  refine jT_xiload_n (v := (0, 5)) (pcN := 16) jIH_16_15 rfl rfl rfl ?_
  refine jT_lald (x := q11 - q12) (a := 1) (j := 5) (fs := []) (X := [q1 - q2, q3 - q4, q5 - q6, q7 - q8, -q10 + q9, q11 - q12]) jIH_16_16 rfl rfl rfl rfl ?_
  refine jT_eq (LN := [(3, (0, 5)), (1, (1, q21)), (0, (4, 0))]) (stN := [(1, q11 - q12), (1, q21)]) (hsN := [(4, [(4, 1), (1, 1)], []), (101, [], [q1 - q2, q3 - q4, q5 - q6, q7 - q8, -q10 + q9, q11 - q12])]) rfl rfl rfl ?_
  refine jT_labs (z := (((q11 - q12).natAbs : Nat) : Int)) (by rfl) (by rfl) (by rfl) (by rfl) (jabs_n (jwl_idd (by omega) (by omega))) ?_
  have hb_q22 : 0 ≤ (((q11 - q12).natAbs : Nat) : Int) ∧ (((q11 - q12).natAbs : Nat) : Int) ≤ 20 := ⟨by omega, by omega⟩
  generalize hq_q22 : (((q11 - q12).natAbs : Nat) : Int) = q22 at hb_q22 ⊢
  refine jT_mm3 (x := q21) (y := q22) (z := (max q21 q22)) (by rfl) (by rfl) (by rfl) (by rfl) (jwl_idd (by omega) (by omega)) (jwl_idd (by omega) (by omega)) jmax_c ?_
  have hb_q23 : 0 ≤ (max q21 q22) ∧ (max q21 q22) ≤ 20 := ⟨by omega, by omega⟩
  generalize hq_q23 : (max q21 q22) = q23 at hb_q23 ⊢
  refine jT_xlstore_n (v := (1, q23)) (LN := [(1, (1, q23)), (3, (0, 5)), (0, (4, 0))]) (pcN := 24) jIH_16_23 rfl rfl rfl rfl ?_
  refine jT_xiinc (x := 5) (z := 6) (LN := [(3, (0, 6)), (1, (1, q23)), (0, (4, 0))]) (pcN := 27) jIH_16_24 rfl rfl (by decide) rfl rfl ?_
  refine jT_xgoto (pcN := 4) jIH_16_27 rfl ?_
  refine jT_xiload_n (v := (0, 6)) (pcN := 5) jIH_16_4 rfl rfl rfl ?_
  refine jT_xbipush (k := 6) (pcN := 7) jIH_16_5 (by decide) rfl ?_
  refine jT_xicT (pcN := 30) jIH_16_7 rfl (by decide +kernel) rfl ?_
  refine jT_xlload_n (v := (1, q23)) (pcN := 31) jIH_16_30 rfl rfl rfl ?_
  subst hq_q23
  subst hq_q22
  subst hq_q21
  subst hq_q20
  subst hq_q19
  subst hq_q18
  subst hq_q17
  subst hq_q16
  subst hq_q15
  subst hq_q14
  subst hq_q13
  exact jT_ret rfl (by decide) (by show 2 ≤ 2; omega) (by omega) (by omega) ⟨rfl, rfl, rfl⟩
theorem jIH_15_0 : jmI (jm 15) 0 = (.aload_n 0, 1) := by rfl
theorem jIH_15_1 : jmI (jm 15) 1 = (.getfield 19, 3) := by rfl
theorem jIH_15_8 : jmI (jm 15) 8 = (.ifCond .gt 18, 3) := by rfl
theorem jIH_15_11 : jmI (jm 15) 11 = (.aload_n 0, 1) := by rfl
theorem jIH_15_19 : jmI (jm 15) 19 = (.ifCond .gt 7, 3) := by rfl
theorem jIH_15_22 : jmI (jm 15) 22 = (.iconst 1, 1) := by rfl
theorem jIH_15_23 : jmI (jm 15) 23 = (.goto 4, 3) := by rfl
theorem jH_15_68 {xs : List Int} {d : Nat} {q1 q10 q11 q12 q2 q3 q4 q5 q6 q7 q8 q9 : Int} (h_q1 : 0 ≤ q1 ∧ q1 ≤ 20) (h_q10 : 0 ≤ q10 ∧ q10 ≤ 20) (h_q11 : 0 ≤ q11 ∧ q11 ≤ 20) (h_q12 : 0 ≤ q12 ∧ q12 ≤ 20) (h_q2 : 0 ≤ q2 ∧ q2 ≤ 20) (h_q3 : 0 ≤ q3 ∧ q3 ≤ 20) (h_q4 : 0 ≤ q4 ∧ q4 ≤ 20) (h_q5 : 0 ≤ q5 ∧ q5 ≤ 20) (h_q6 : 0 ≤ q6 ∧ q6 ≤ 20) (h_q7 : 0 ≤ q7 ∧ q7 ≤ 20) (h_q8 : 0 ≤ q8 ∧ q8 ≤ 20) (h_q9 : 0 ≤ q9 ∧ q9 ≤ 20) : jT xs (d + 1) 15 2 0 [(0, (4, 0))] [] [(4, [(4, 1), (1, 1)], []), (101, [], [q1 - q2, q3 - q4, q5 - q6, q7 - q8, -q10 + q9, q11 - q12])] 0 0 (fun k v hsN => k = 0 ∧ v = (0, 1) ∧ hsN = [(4, [(4, 1), (1, 1)], []), (101, [], [q1 - q2, q3 - q4, q5 - q6, q7 - q8, -q10 + q9, q11 - q12])] ++ []) := by
  refine jT_xaload_n (v := (4, 0)) (pcN := 1) jIH_15_0 rfl rfl rfl ?_
  refine jT_xgetf (a := 0) (t := 1) (ci := 4) (fi := 1) (c := (4, [(4, 1), (1, 1)], [])) (v := (1, 1)) (pcN := 4) jIH_15_1 rfl rfl rfl rfl rfl rfl rfl ?_
  refine jT_adv 1 (pcN := 7) (LN := [(0, (4, 0))]) (stN := [(1, 360), (1, 1)]) (hsN := [(4, [(4, 1), (1, 1)], []), (101, [], [q1 - q2, q3 - q4, q5 - q6, q7 - q8, -q10 + q9, q11 - q12])]) (c1 := 0) (s1 := 0) (c2 := 0) (s2 := 0) (by exact rfl) ?_ (by omega) (by omega)
  refine jT_lcmp (a := 1) (b := 360) (z := (-1)) (by rfl) (by rfl) (by decide +kernel) (by decide +kernel) (by decide) ?_
  refine jT_xifF (t := 26) (pcN := 11) jIH_15_8 rfl (by decide +kernel) rfl rfl ?_
  refine jT_xaload_n (v := (4, 0)) (pcN := 12) jIH_15_11 rfl rfl rfl ?_
  refine jT_callA [0, 1] (y := 16) (pcN := 15) (dC := 0) (bc1 := 0) (bc2 := 0) (c1 := 0) (c2 := 0) (as := [(4, 0)]) (asC := [(4, 0)]) (LN := [(0, (4, 0))]) (stN := []) (hsC := [(4, [(4, 1), (1, 1)], []), (101, [], [q1 - q2, q3 - q4, q5 - q6, q7 - q8, -q10 + q9, q11 - q12])]) (ex := []) (v := (1, (max ((max ((max ((max ((max ((((q1 - q2).natAbs : Nat) : Int)) ((((q3 - q4).natAbs : Nat) : Int)))) ((((q5 - q6).natAbs : Nat) : Int)))) ((((q7 - q8).natAbs : Nat) : Int)))) ((((-q10 + q9).natAbs : Nat) : Int)))) ((((q11 - q12).natAbs : Nat) : Int))))) (st2 := [(1, (max ((max ((max ((max ((max ((((q1 - q2).natAbs : Nat) : Int)) ((((q3 - q4).natAbs : Nat) : Int)))) ((((q5 - q6).natAbs : Nat) : Int)))) ((((q7 - q8).natAbs : Nat) : Int)))) ((((-q10 + q9).natAbs : Nat) : Int)))) ((((q11 - q12).natAbs : Nat) : Int))))]) (hs2 := [(4, [(4, 1), (1, 1)], []), (101, [], [q1 - q2, q3 - q4, q5 - q6, q7 - q8, -q10 + q9, q11 - q12])]) (jH_16_67 (d := 0) (by omega) (by omega) (by omega) (by omega) (by omega) (by omega) (by omega) (by omega) (by omega) (by omega) (by omega) (by omega)) (by rfl) (by rfl) (by rfl) (by rfl) ⟨rfl, rfl, trivial⟩ (by rfl) (by rfl) (by omega) (by show 2 ≤ 2; omega) (by omega) (by omega) rfl rfl ?_
  have hb_q13 : 0 ≤ (max ((max ((max ((max ((max ((((q1 - q2).natAbs : Nat) : Int)) ((((q3 - q4).natAbs : Nat) : Int)))) ((((q5 - q6).natAbs : Nat) : Int)))) ((((q7 - q8).natAbs : Nat) : Int)))) ((((-q10 + q9).natAbs : Nat) : Int)))) ((((q11 - q12).natAbs : Nat) : Int))) ∧ (max ((max ((max ((max ((max ((((q1 - q2).natAbs : Nat) : Int)) ((((q3 - q4).natAbs : Nat) : Int)))) ((((q5 - q6).natAbs : Nat) : Int)))) ((((q7 - q8).natAbs : Nat) : Int)))) ((((-q10 + q9).natAbs : Nat) : Int)))) ((((q11 - q12).natAbs : Nat) : Int))) ≤ 20 := ⟨by omega, by omega⟩
  generalize hq_q13 : (max ((max ((max ((max ((max ((((q1 - q2).natAbs : Nat) : Int)) ((((q3 - q4).natAbs : Nat) : Int)))) ((((q5 - q6).natAbs : Nat) : Int)))) ((((q7 - q8).natAbs : Nat) : Int)))) ((((-q10 + q9).natAbs : Nat) : Int)))) ((((q11 - q12).natAbs : Nat) : Int))) = q13 at hb_q13 ⊢
  refine jT_adv 1 (pcN := 18) (LN := [(0, (4, 0))]) (stN := [(1, 5000), (1, q13)]) (hsN := [(4, [(4, 1), (1, 1)], []), (101, [], [q1 - q2, q3 - q4, q5 - q6, q7 - q8, -q10 + q9, q11 - q12])]) (c1 := 0) (s1 := 0) (c2 := 0) (s2 := 0) (by exact rfl) ?_ (by omega) (by omega)
  refine jT_lcmp (a := q13) (b := 5000) (z := (-1)) (by rfl) (by rfl) (jwl_idd (by omega) (by omega)) (jwl_idd (by omega) (by omega)) (by rw [decide_eq_false (show ¬ ((5000 : Int) < q13) by omega), decide_eq_false (show ¬ ((q13 : Int) = 5000) by omega)]; rfl) ?_
  refine jT_xifF (t := 26) (pcN := 22) jIH_15_19 rfl (by decide +kernel) rfl rfl ?_
  refine jT_xiconst (k := 1) (pcN := 23) jIH_15_22 rfl ?_
  refine jT_xgoto (pcN := 27) jIH_15_23 rfl ?_
  subst hq_q13
  exact jT_ret rfl (by decide) (by show 2 ≤ 2; omega) (by omega) (by omega) ⟨rfl, rfl, rfl⟩
theorem jIH_117_0 : jmI (jm 117) 0 = (.aload_n 1, 1) := by rfl
theorem jIH_117_4 : jmI (jm 117) 4 = (.aload_n 1, 1) := by rfl
theorem jIH_117_8 : jmI (jm 117) 8 = (.ifCond .ne 14, 3) := by rfl
theorem jH_117_69 {xs : List Int} {d : Nat} {q1 q10 q11 q12 q2 q3 q4 q5 q6 q7 q8 q9 : Int} (h_q1 : 0 ≤ q1 ∧ q1 ≤ 20) (h_q10 : 0 ≤ q10 ∧ q10 ≤ 20) (h_q11 : 0 ≤ q11 ∧ q11 ≤ 20) (h_q12 : 0 ≤ q12 ∧ q12 ≤ 20) (h_q2 : 0 ≤ q2 ∧ q2 ≤ 20) (h_q3 : 0 ≤ q3 ∧ q3 ≤ 20) (h_q4 : 0 ≤ q4 ∧ q4 ≤ 20) (h_q5 : 0 ≤ q5 ∧ q5 ≤ 20) (h_q6 : 0 ≤ q6 ∧ q6 ≤ 20) (h_q7 : 0 ≤ q7 ∧ q7 ≤ 20) (h_q8 : 0 ≤ q8 ∧ q8 ≤ 20) (h_q9 : 0 ≤ q9 ∧ q9 ≤ 20) : jT xs (d + 2) 117 3 0 [(0, (4, 0)), (1, (4, 1))] [] [jgh, (4, [(4, 2), (1, 1)], []), (101, [], [q1 - q2, q3 - q4, q5 - q6, q7 - q8, -q10 + q9, q11 - q12])] 0 0 (fun k v hsN => k = 0 ∧ v = (9, 0) ∧ hsN = [jgh, (4, [(4, 2), (1, 1)], []), (101, [], [q1 - q2, q3 - q4, q5 - q6, q7 - q8, -q10 + q9, q11 - q12])] ++ []) := by
  refine jT_xaload_n (v := (4, 1)) (pcN := 1) jIH_117_0 rfl rfl rfl ?_
  refine jT_adv 1 (pcN := 4) (LN := [(0, (4, 0)), (1, (4, 1))]) (stN := []) (hsN := [jgh, (4, [(4, 2), (1, 1)], []), (101, [], [q1 - q2, q3 - q4, q5 - q6, q7 - q8, -q10 + q9, q11 - q12])]) (c1 := 0) (s1 := 0) (c2 := 0) (s2 := 0) (by exact rfl) ?_ (by omega) (by omega)
  refine jT_xaload_n (v := (4, 1)) (pcN := 5) jIH_117_4 rfl rfl rfl ?_
  refine jT_callA [1, 2] (y := 15) (pcN := 8) (dC := 1) (bc1 := 0) (bc2 := 0) (c1 := 0) (c2 := 0) (as := [(4, 1)]) (asC := [(4, 0)]) (LN := [(0, (4, 0)), (1, (4, 1))]) (stN := []) (hsC := [(4, [(4, 1), (1, 1)], []), (101, [], [q1 - q2, q3 - q4, q5 - q6, q7 - q8, -q10 + q9, q11 - q12])]) (ex := []) (v := (0, 1)) (st2 := [(0, 1)]) (hs2 := [jgh, (4, [(4, 2), (1, 1)], []), (101, [], [q1 - q2, q3 - q4, q5 - q6, q7 - q8, -q10 + q9, q11 - q12])]) (jH_15_68 (d := 0) (by omega) (by omega) (by omega) (by omega) (by omega) (by omega) (by omega) (by omega) (by omega) (by omega) (by omega) (by omega)) (by rfl) (by rfl) (by rfl) (by rfl) ⟨rfl, rfl, trivial⟩ (by rfl) (by rfl) (by omega) (by show 3 ≤ 3; omega) (by omega) (by omega) rfl rfl ?_
  refine jT_xifT (pcN := 22) jIH_117_8 rfl (by decide +kernel) rfl ?_
  exact jT_ret rfl (by decide) (by show 3 ≤ 3; omega) (by omega) (by omega) ⟨rfl, rfl, rfl⟩
def jzH_256 : JC := (9, [(4, 1), (4, 2), (4, 3), (4, 4), (4, 5)], [])
def jpH_257 : List JC := [jzH_256, jgh, jgh, jgh, jgh, jgh]
def jzH_258 : JC := (9, [(4, (-1)), (4, (-1)), (4, (-1)), (4, (-1)), (4, (-1))], [])
def jpH_259 : List JC := [jzH_258, jgh, jgh, jgh, jgh, jgh]
theorem jH_53_70 {xs : List Int} {d : Nat} : jT xs d 53 6 0 [(0, (4, 0)), (1, (4, 1)), (2, (4, 2)), (3, (4, 3)), (4, (4, 4)), (5, (4, 5))] [] jpH_259 0 0 (fun k v hsN => k = 0 ∧ v = (9, 0) ∧ hsN = jpH_257) := by
  refine jT_advK 17 (pcN := 31) (LN := [(0, (4, 0)), (1, (4, 1)), (2, (4, 2)), (3, (4, 3)), (4, (4, 4)), (5, (4, 5))]) (stN := []) (hsN := jpH_257) (c1 := 0) (s1 := 0) (c2 := 0) (s2 := 0) (by decide +kernel) ?_ (by omega) (by omega)
  exact jT_ret rfl (by decide) (by show 6 ≤ 6; omega) (by omega) (by omega) ⟨rfl, rfl, rfl⟩
theorem jIH_58_0 : jmI (jm 58) 0 = (.aload_n 0, 1) := by rfl
theorem jIH_58_1 : jmI (jm 58) 1 = (.getfield 9, 3) := by rfl
def jzH_262 : JC := (9, [(4, 2), (4, 3), (4, 4), (4, 5), (4, 6)], [])
def jpH_263 : List JC := [jzH_262, (4, [(4, 7), (1, 1)], []), (114, [], [8, 8, 8, 8, 8, 8, 8, 8]), jgh, jgh, jgh, jgh, jgh, jgh, (114, [], [8, 8, 8, 8, 8, 8, 8, 8])]
theorem jIH_58_10 : jmI (jm 58) 10 = (.astore_n 3, 1) := by rfl
theorem jIH_58_11 : jmI (jm 58) 11 = (.aload_n 3, 1) := by rfl
theorem jIH_58_12 : jmI (jm 58) 12 = (.iload_n 1, 1) := by rfl
theorem jIH_58_13 : jmI (jm 58) 13 = (.aload_n 2, 1) := by rfl
def jpH_268 : List JC := [jzH_262, (4, [(4, 7), (1, 1)], []), (114, [], [8, 8, 8, 8, 8, 8, 8, 8]), jgh, jgh, jgh, jgh, jgh, jgh, jgh]
def jpH_269 : List JC := [jzH_262, (4, [(4, 7), (1, 1)], []), (114, [], [8, 8, 8, 8, 8, 8, 8, 8]), jgh, jgh, jgh, jgh, jgh, jgh, jgh, jzH_258]
theorem jIH_58_19 : jmI (jm 58) 19 = (.aload_n 3, 1) := by rfl
theorem jIH_58_20 : jmI (jm 58) 20 = (.aload_n 0, 1) := by rfl
theorem jIH_58_21 : jmI (jm 58) 21 = (.getfield 15, 3) := by rfl
theorem jIH_58_24 : jmI (jm 58) 24 = (.aload_n 0, 1) := by rfl
theorem jIH_58_25 : jmI (jm 58) 25 = (.getfield 19, 3) := by rfl
theorem jIH_58_28 : jmI (jm 58) 28 = (.aload_n 0, 1) := by rfl
theorem jIH_58_29 : jmI (jm 58) 29 = (.getfield 23, 3) := by rfl
theorem jIH_58_32 : jmI (jm 58) 32 = (.aload_n 0, 1) := by rfl
theorem jIH_58_33 : jmI (jm 58) 33 = (.getfield 27, 3) := by rfl
def jzH_279 : JC := (9, [(4, 9), (4, 3), (4, 4), (4, 5), (4, 6)], [])
def jpH_280 : List JC := [jzH_262, (4, [(4, 7), (1, 1)], []), (114, [], [8, 8, 8, 8, 8, 8, 8, 8]), jgh, jgh, jgh, jgh, jgh, jgh, jgh, jzH_279]
def jpH_281 : List JC := [jzH_262, (4, [(4, 7), (1, 1)], []), (114, [], [8, 8, 8, 8, 8, 8, 8, 8]), jgh, jgh, jgh, jgh, jgh, jgh]
theorem jH_58_71 {xs : List Int} {d : Nat} {x1 : Int} (h_x1 : 0 ≤ x1 ∧ x1 ≤ 7) : jT xs (d + 1) 58 9 0 [(0, (4, 0)), (1, (0, x1)), (2, (4, 1))] [] jpH_281 2 13 (fun k v hsN => k = 0 ∧ v = (4, 10) ∧ hsN = jpH_281 ++ [jgh, jzH_279]) := by
  refine jT_xaload_n (v := (4, 0)) (pcN := 1) jIH_58_0 rfl rfl rfl ?_
  refine jT_xgetf (a := 0) (t := 1) (ci := 9) (fi := 0) (c := jzH_262) (v := (4, 2)) (pcN := 4) jIH_58_1 rfl rfl rfl rfl rfl rfl rfl ?_
  refine jT_adv 2 (pcN := 10) (LN := [(0, (4, 0)), (1, (0, x1)), (2, (4, 1))]) (stN := [(4, 9)]) (hsN := jpH_263) (c1 := 1) (s1 := 8) (c2 := 1) (s2 := 5) (by exact rfl) ?_ (by omega) (by omega)
  refine jT_xastore_n (v := (4, 9)) (LN := [(3, (4, 9)), (0, (4, 0)), (1, (0, x1)), (2, (4, 1))]) (pcN := 11) jIH_58_10 rfl rfl rfl rfl ?_
  refine jT_xaload_n (v := (4, 9)) (pcN := 12) jIH_58_11 rfl rfl rfl ?_
  refine jT_xiload_n (v := (0, x1)) (pcN := 13) jIH_58_12 rfl rfl rfl ?_
  refine jT_xaload_n (v := (4, 1)) (pcN := 14) jIH_58_13 rfl rfl rfl ?_
  refine jT_aastG (kd := 114) (a := 9) (b := 1) (j := (x1).toNat) (fs := []) (X := [8, 8, 8, 8, 8, 8, 8, 8]) (e := (4, [(4, 7), (1, 1)], [])) (by rfl) (by rfl) (by rfl) (jw_nn (by omega) (by omega)) (by show (x1).toNat < 8; omega) (by rfl) (by rfl) (by rfl) ?_
  refine jT_eq (LN := [(3, (4, 9)), (0, (4, 0)), (1, (0, x1)), (2, (4, 1))]) (stN := []) (hsN := jpH_268) rfl rfl rfl ?_
  refine jT_adv 2 (pcN := 19) (LN := [(3, (4, 9)), (0, (4, 0)), (1, (0, x1)), (2, (4, 1))]) (stN := [(4, 10), (4, 10)]) (hsN := jpH_269) (c1 := 1) (s1 := 5) (c2 := 0) (s2 := 0) (by exact rfl) ?_ (by omega) (by omega)
  refine jT_xaload_n (v := (4, 9)) (pcN := 20) jIH_58_19 rfl rfl rfl ?_
  refine jT_xaload_n (v := (4, 0)) (pcN := 21) jIH_58_20 rfl rfl rfl ?_
  refine jT_xgetf (a := 0) (t := 1) (ci := 9) (fi := 1) (c := jzH_262) (v := (4, 3)) (pcN := 24) jIH_58_21 rfl rfl rfl rfl rfl rfl rfl ?_
  refine jT_xaload_n (v := (4, 0)) (pcN := 25) jIH_58_24 rfl rfl rfl ?_
  refine jT_xgetf (a := 0) (t := 1) (ci := 9) (fi := 2) (c := jzH_262) (v := (4, 4)) (pcN := 28) jIH_58_25 rfl rfl rfl rfl rfl rfl rfl ?_
  refine jT_xaload_n (v := (4, 0)) (pcN := 29) jIH_58_28 rfl rfl rfl ?_
  refine jT_xgetf (a := 0) (t := 1) (ci := 9) (fi := 3) (c := jzH_262) (v := (4, 5)) (pcN := 32) jIH_58_29 rfl rfl rfl rfl rfl rfl rfl ?_
  refine jT_xaload_n (v := (4, 0)) (pcN := 33) jIH_58_32 rfl rfl rfl ?_
  refine jT_xgetf (a := 0) (t := 1) (ci := 9) (fi := 4) (c := jzH_262) (v := (4, 6)) (pcN := 36) jIH_58_33 rfl rfl rfl rfl rfl rfl rfl ?_
  refine jT_fB [10, 9, 3, 4, 5, 6] 11 (y := 53) (pcN := 39) (dC := 0) (bc1 := 0) (bc2 := 0) (c1 := 0) (c2 := 0) (as := [(4, 10), (4, 9), (4, 3), (4, 4), (4, 5), (4, 6)]) (asC := [(4, 0), (4, 1), (4, 2), (4, 3), (4, 4), (4, 5)]) (LN := [(3, (4, 9)), (0, (4, 0)), (1, (0, x1)), (2, (4, 1))]) (stN := [(4, 10)]) (hsC := jpH_259) (hsD := jpH_257) (v := (9, 0)) (st2 := [(4, 10)]) (hs2 := jpH_280) (jH_53_70 (d := 0)) (by rfl) (by rfl) (by decide +kernel) (by rfl) (by rfl) (by omega) (by omega) (by omega) (by omega) rfl (by decide +kernel) ?_
  exact jT_ret rfl (by decide) (by show 9 ≤ 11; omega) (by omega) (by omega) ⟨rfl, rfl, rfl⟩
def jzH_282 : JC := (13, [(4, 2), (4, 3), (4, 4), (4, 5), (4, 6), (4, 7), (4, 8), (4, 9), (4, 10), (4, 11), (0, 1), (4, 1), (0, 0)], [])
def jzH_283 : JC := (119, [], [12, (-1), (-1), (-1), (-1), (-1), (-1), (-1)])
def jzH_284 : JC := (9, [(4, 13), (4, 14), (4, 15), (4, 16), (4, 17)], [])
def jpH_285 : List JC := [jzH_282, jgh, jgh, jgh, jgh, jgh, jgh, jgh, jgh, jgh, jgh, jzH_283, jzH_284, jgh, jgh, jgh, jgh, jgh]
def jzH_286 : JC := (119, [], [(-1), (-1), (-1), (-1), (-1), (-1), (-1), (-1)])
def jpH_287 : List JC := [jzH_13, jgh, jgh, jgh, jgh, jgh, jgh, jgh, jgh, jgh, jgh, jzH_286, jzH_284, jgh, jgh, jgh, jgh, jgh]
theorem jH_100_72 {xs : List Int} {d : Nat} : jT xs d 100 18 0 [(0, (4, 0)), (1, (4, 1))] [] jpH_287 0 0 (fun k v hsN => k = 0 ∧ v = (9, 0) ∧ hsN = jpH_285) := by
  refine jT_advK 22 (pcN := 82) (LN := [(0, (4, 0)), (1, (4, 1))]) (stN := []) (hsN := jpH_285) (c1 := 0) (s1 := 0) (c2 := 0) (s2 := 0) (by decide +kernel) ?_ (by omega) (by omega)
  exact jT_ret rfl (by decide) (by show 18 ≤ 18; omega) (by omega) (by omega) ⟨rfl, rfl, rfl⟩
theorem jH_14_73 {xs : List Int} {d : Nat} {x2 x3 : Int} (h_x2 : 1 ≤ x2 ∧ x2 ≤ 1000000) (h_x3 : 1 ≤ x3 ∧ x3 ≤ 1000000) (g_0 : (jsu 13 20 (jsu 11 20 (jsu 7 20 (jsu 5 20 (jsu 3 20 (jsu 2 20 (x2.tdiv (((Nat.gcd (x2).natAbs (x3).natAbs : Nat) : Int))))))))) - 2 < 0) (g_1 : (jsu 13 20 (jsu 11 20 (jsu 7 20 (jsu 5 20 (jsu 3 20 (jsu 2 20 (x3.tdiv (((Nat.gcd (x2).natAbs (x3).natAbs : Nat) : Int))))))))) - 2 < 0) (g_2 : 0 ≤ x2 - x3 - 1) : jT xs (d + 2) 14 0 0 [(0, (0, x2)), (1, (0, x3))] [] [] 2 8 (fun k v hsN => k = 0 ∧ v = (4, 1) ∧ hsN = [] ++ [(101, [], [(jsc 2 20 (x2.tdiv (((Nat.gcd (x2).natAbs (x3).natAbs : Nat) : Int)))) - (jsc 2 20 (x3.tdiv (((Nat.gcd (x2).natAbs (x3).natAbs : Nat) : Int)))), -(jsc 3 20 (jsu 2 20 (x3.tdiv (((Nat.gcd (x2).natAbs (x3).natAbs : Nat) : Int))))) + (jsc 3 20 (jsu 2 20 (x2.tdiv (((Nat.gcd (x2).natAbs (x3).natAbs : Nat) : Int))))), (jsc 5 20 (jsu 3 20 (jsu 2 20 (x2.tdiv (((Nat.gcd (x2).natAbs (x3).natAbs : Nat) : Int)))))) - (jsc 5 20 (jsu 3 20 (jsu 2 20 (x3.tdiv (((Nat.gcd (x2).natAbs (x3).natAbs : Nat) : Int)))))), (jsc 7 20 (jsu 5 20 (jsu 3 20 (jsu 2 20 (x2.tdiv (((Nat.gcd (x2).natAbs (x3).natAbs : Nat) : Int))))))) - (jsc 7 20 (jsu 5 20 (jsu 3 20 (jsu 2 20 (x3.tdiv (((Nat.gcd (x2).natAbs (x3).natAbs : Nat) : Int))))))), (jsc 11 20 (jsu 7 20 (jsu 5 20 (jsu 3 20 (jsu 2 20 (x2.tdiv (((Nat.gcd (x2).natAbs (x3).natAbs : Nat) : Int)))))))) - (jsc 11 20 (jsu 7 20 (jsu 5 20 (jsu 3 20 (jsu 2 20 (x3.tdiv (((Nat.gcd (x2).natAbs (x3).natAbs : Nat) : Int)))))))), (jsc 13 20 (jsu 11 20 (jsu 7 20 (jsu 5 20 (jsu 3 20 (jsu 2 20 (x2.tdiv (((Nat.gcd (x2).natAbs (x3).natAbs : Nat) : Int))))))))) - (jsc 13 20 (jsu 11 20 (jsu 7 20 (jsu 5 20 (jsu 3 20 (jsu 2 20 (x3.tdiv (((Nat.gcd (x2).natAbs (x3).natAbs : Nat) : Int)))))))))]), (4, [(4, 0), (1, 1)], [])]) := by
  refine jT_xlconst (z := 1) (pcN := 1) jIH_14_0 rfl rfl ?_
  refine jT_xiload_n (v := (0, x2)) (pcN := 2) jIH_14_1 rfl rfl rfl ?_
  refine jT_xi2l (x := x2) (z := x2) (pcN := 3) jIH_14_2 rfl (jw_idd (by omega) (by omega)) rfl ?_
  refine jT_xiload_n (v := (0, x3)) (pcN := 4) jIH_14_3 rfl rfl rfl ?_
  refine jT_xi2l (x := x3) (z := x3) (pcN := 5) jIH_14_4 rfl (jw_idd (by omega) (by omega)) rfl ?_
  refine jT_fR [] 0 (y := 98) (pcN := 8) (dC := 0) (bc1 := 0) (bc2 := 0) (c1 := 2) (c2 := 8) (as := [(1, x2), (1, x3)]) (asC := [(1, x2), (1, x3)]) (LN := [(0, (0, x2)), (1, (0, x3))]) (stN := [(1, 1)]) (hsC := []) (v := (1, ((Nat.gcd (x2).natAbs (x3).natAbs : Nat) : Int))) (st2 := [(1, ((Nat.gcd (x2).natAbs (x3).natAbs : Nat) : Int)), (1, 1)]) (jT_div98 (d := 0) (x := x2) (y := x3) (by omega) (by omega)) (by rfl) (by rfl) (by decide +kernel) (by rfl) (by rfl) (by omega) (by omega) (by omega) (by omega) rfl ?_
  have hb_q1 := jgcd_l (x := x2) (y := x3) (by omega)
  have hb_q1 : 1 ≤ ((Nat.gcd (x2).natAbs (x3).natAbs : Nat) : Int) ∧ ((Nat.gcd (x2).natAbs (x3).natAbs : Nat) : Int) ≤ 1000000 := ⟨hb_q1.1, by omega⟩
  generalize hq_q1 : ((Nat.gcd (x2).natAbs (x3).natAbs : Nat) : Int) = q1 at hb_q1 g_0 g_1 ⊢
  refine jT_mm3 (x := 1) (y := q1) (z := q1) (by rfl) (by rfl) (by rfl) (by rfl) (jwl_idd (by omega) (by omega)) (jwl_idd (by omega) (by omega)) (by rw [decide_eq_false (show ¬ ((q1 : Int) < 1) by omega)]; rfl) ?_
  refine jT_xlstore_n (v := (1, q1)) (LN := [(2, (1, q1)), (0, (0, x2)), (1, (0, x3))]) (pcN := 12) jIH_14_11 rfl rfl rfl rfl ?_
  refine jT_xiload_n (v := (0, x2)) (pcN := 13) jIH_14_12 rfl rfl rfl ?_
  refine jT_xi2l (x := x2) (z := x2) (pcN := 14) jIH_14_13 rfl (jw_idd (by omega) (by omega)) rfl ?_
  refine jT_xlload_n (v := (1, q1)) (pcN := 15) jIH_14_14 rfl rfl rfl ?_
  refine jT_ldiv (a := x2) (b := q1) (by rfl) (by rfl) (jwl_idd (by omega) (by omega)) (jwl_idd (by omega) (by omega)) (by omega) ?_
  have hb_q2 := jfr_b hq_q1 (by omega) (by omega)
  generalize hq_q2 : x2.tdiv q1 = q2 at hb_q2 g_0 ⊢
  refine jT_xlstore (v := (1, q2)) (LN := [(4, (1, q2)), (2, (1, q1)), (0, (0, x2)), (1, (0, x3))]) (pcN := 18) jIH_14_16 rfl rfl rfl rfl ?_
  refine jT_xiload_n (v := (0, x3)) (pcN := 19) jIH_14_18 rfl rfl rfl ?_
  refine jT_xi2l (x := x3) (z := x3) (pcN := 20) jIH_14_19 rfl (jw_idd (by omega) (by omega)) rfl ?_
  refine jT_xlload_n (v := (1, q1)) (pcN := 21) jIH_14_20 rfl rfl rfl ?_
  refine jT_ldiv (a := x3) (b := q1) (by rfl) (by rfl) (jwl_idd (by omega) (by omega)) (jwl_idd (by omega) (by omega)) (by omega) ?_
  have hb_q3 := jfr_b2 hq_q1 (by omega) (by omega)
  generalize hq_q3 : x3.tdiv q1 = q3 at hb_q3 g_1 ⊢
  refine jT_xlstore (v := (1, q3)) (LN := [(6, (1, q3)), (4, (1, q2)), (2, (1, q1)), (0, (0, x2)), (1, (0, x3))]) (pcN := 24) jIH_14_22 rfl rfl rfl rfl ?_
  refine jT_xbipush (k := 6) (pcN := 26) jIH_14_24 (by decide) rfl ?_
  refine jT_adv 1 (pcN := 28) (LN := [(6, (1, q3)), (4, (1, q2)), (2, (1, q1)), (0, (0, x2)), (1, (0, x3))]) (stN := [(4, 0)]) (hsN := [(101, [], [0, 0, 0, 0, 0, 0])]) (c1 := 1) (s1 := 6) (c2 := 1) (s2 := 2) (by exact rfl) ?_ (by omega) (by omega)
  refine jT_xastore (v := (4, 0)) (LN := [(8, (4, 0)), (6, (1, q3)), (4, (1, q2)), (2, (1, q1)), (0, (0, x2)), (1, (0, x3))]) (pcN := 30) jIH_14_28 rfl rfl rfl rfl ?_
  refine jT_xiconst (k := 0) (pcN := 31) jIH_14_30 rfl ?_
  refine jT_xistore (v := (0, 0)) (LN := [(9, (0, 0)), (8, (4, 0)), (6, (1, q3)), (4, (1, q2)), (2, (1, q1)), (0, (0, x2)), (1, (0, x3))]) (pcN := 33) jIH_14_31 rfl rfl rfl rfl ?_
  refine jT_xiload (v := (0, 0)) (pcN := 35) jIH_14_33 rfl rfl rfl ?_
  refine jT_xbipush (k := 6) (pcN := 37) jIH_14_35 (by decide) rfl ?_
  refine jT_xicF (t := 164) (pcN := 40) jIH_14_37 rfl (by decide +kernel) rfl rfl ?_
  refine jT_xiconst (k := 0) (pcN := 41) jIH_14_40 rfl ?_
  refine jT_xistore (v := (0, 0)) (LN := [(10, (0, 0)), (9, (0, 0)), (8, (4, 0)), (6, (1, q3)), (4, (1, q2)), (2, (1, q1)), (0, (0, x2)), (1, (0, x3))]) (pcN := 43) jIH_14_41 rfl rfl rfl rfl ?_
  refine jT_loc (LN := [(10, (0, 0)), (4, (1, q2)), (6, (1, q3)), (8, (4, 0)), (9, (0, 0))]) (by show List.Nodup [10, 4, 6, 8, 9]; decide) (by intro q hq; simp only [List.mem_cons, List.not_mem_nil, or_false] at hq; rcases hq with rfl | rfl | rfl | rfl | rfl <;> rfl) ?_
  refine jHl_fr_25 (y6 := q3) (e1 := 0) (e2 := 0) (e3 := 0) (e4 := 0) (e5 := 0) 20 0 q2 0 (by omega) (by omega) (by omega) (by omega) (Int.lt_of_le_of_lt (show q2 ≤ (1000000 : Int) by omega) (by decide)) ?_
  have hb_q4 := jsu_b (P := 2) (by decide) (n := 20) (u := q2) (by omega) (by omega)
  generalize hq_q4 : jsu 2 20 q2 = q4 at hb_q4 g_0 ⊢
  have hb_q5 := jsc_b (P := 2) (n := 20) (u := q2)
  have hb_q5 : 0 ≤ jsc 2 20 q2 ∧ jsc 2 20 q2 ≤ 20 := ⟨hb_q5.1, by omega⟩
  generalize hq_q5 : jsc 2 20 q2 = q5 at hb_q5 ⊢
  refine jT_eq (LN := [(4, (1, q4)), (6, (1, q3)), (8, (4, 0)), (9, (0, 0))]) (stN := []) (hsN := [(101, [], [q5, 0, 0, 0, 0, 0])]) (rfl) (rfl) (by simp only [List.cons.injEq, Prod.mk.injEq, and_true, true_and] <;> ((try unfold jw); (try unfold jwl); omega)) ?_
  refine jT_xiconst (k := 0) (pcN := 100) jIH_14_99 rfl ?_
  refine jT_xistore (v := (0, 0)) (LN := [(10, (0, 0)), (4, (1, q4)), (6, (1, q3)), (8, (4, 0)), (9, (0, 0))]) (pcN := 102) jIH_14_100 rfl rfl rfl rfl ?_
  refine jT_loc (LN := [(10, (0, 0)), (6, (1, q3)), (4, (1, q4)), (8, (4, 0)), (9, (0, 0))]) (by show List.Nodup [10, 6, 4, 8, 9]; decide) (by intro q hq; simp only [List.mem_cons, List.not_mem_nil, or_false] at hq; rcases hq with rfl | rfl | rfl | rfl | rfl <;> rfl) ?_
  refine jHl_fr_26 (y4 := q4) (e1 := 0) (e2 := 0) (e3 := 0) (e4 := 0) (e5 := 0) 20 0 q3 q5 (by omega) (by omega) (by omega) (by omega) (Int.lt_of_le_of_lt (show q3 ≤ (1000000 : Int) by omega) (by decide)) ?_
  have hb_q6 := jsu_b (P := 2) (by decide) (n := 20) (u := q3) (by omega) (by omega)
  generalize hq_q6 : jsu 2 20 q3 = q6 at hb_q6 g_1 ⊢
  have hb_q7 := jsc_b (P := 2) (n := 20) (u := q3)
  have hb_q7 : 0 ≤ jsc 2 20 q3 ∧ jsc 2 20 q3 ≤ 20 := ⟨hb_q7.1, by omega⟩
  generalize hq_q7 : jsc 2 20 q3 = q7 at hb_q7 ⊢
  refine jT_xiinc (x := 0) (z := 1) (LN := [(9, (0, 1)), (6, (1, q6)), (4, (1, q4)), (8, (4, 0))]) (pcN := 161) jIH_14_158 rfl rfl (by decide) rfl rfl ?_
  refine jT_xgoto (pcN := 33) jIH_14_161 rfl ?_
  refine jT_xiload (v := (0, 1)) (pcN := 35) jIH_14_33 rfl rfl rfl ?_
  refine jT_xbipush (k := 6) (pcN := 37) jIH_14_35 (by decide) rfl ?_
  refine jT_xicF (t := 164) (pcN := 40) jIH_14_37 rfl (by decide +kernel) rfl rfl ?_
  refine jT_xiconst (k := 0) (pcN := 41) jIH_14_40 rfl ?_
  refine jT_xistore (v := (0, 0)) (LN := [(10, (0, 0)), (9, (0, 1)), (6, (1, q6)), (4, (1, q4)), (8, (4, 0))]) (pcN := 43) jIH_14_41 rfl rfl rfl rfl ?_
  refine jT_loc (LN := [(10, (0, 0)), (4, (1, q4)), (6, (1, q6)), (8, (4, 0)), (9, (0, 1))]) (by show List.Nodup [10, 4, 6, 8, 9]; decide) (by intro q hq; simp only [List.mem_cons, List.not_mem_nil, or_false] at hq; rcases hq with rfl | rfl | rfl | rfl | rfl <;> rfl) ?_
  refine jHl_fr_27 (y6 := q6) (e0 := q5 - q7) (e2 := 0) (e3 := 0) (e4 := 0) (e5 := 0) 20 0 q4 0 (by omega) (by omega) (by omega) (by omega) (Int.lt_of_le_of_lt (show q4 ≤ (1000000 : Int) by omega) (by decide)) ?_
  have hb_q8 := jsu_b (P := 3) (by decide) (n := 20) (u := q4) (by omega) (by omega)
  generalize hq_q8 : jsu 3 20 q4 = q8 at hb_q8 g_0 ⊢
  have hb_q9 := jsc_b (P := 3) (n := 20) (u := q4)
  have hb_q9 : 0 ≤ jsc 3 20 q4 ∧ jsc 3 20 q4 ≤ 20 := ⟨hb_q9.1, by omega⟩
  generalize hq_q9 : jsc 3 20 q4 = q9 at hb_q9 ⊢
  refine jT_eq (LN := [(4, (1, q8)), (6, (1, q6)), (8, (4, 0)), (9, (0, 1))]) (stN := []) (hsN := [(101, [], [q5 - q7, q9, 0, 0, 0, 0])]) (rfl) (rfl) (by simp only [List.cons.injEq, Prod.mk.injEq, and_true, true_and] <;> ((try unfold jw); (try unfold jwl); omega)) ?_
  refine jT_xiconst (k := 0) (pcN := 100) jIH_14_99 rfl ?_
  refine jT_xistore (v := (0, 0)) (LN := [(10, (0, 0)), (4, (1, q8)), (6, (1, q6)), (8, (4, 0)), (9, (0, 1))]) (pcN := 102) jIH_14_100 rfl rfl rfl rfl ?_
  refine jT_loc (LN := [(10, (0, 0)), (6, (1, q6)), (4, (1, q8)), (8, (4, 0)), (9, (0, 1))]) (by show List.Nodup [10, 6, 4, 8, 9]; decide) (by intro q hq; simp only [List.mem_cons, List.not_mem_nil, or_false] at hq; rcases hq with rfl | rfl | rfl | rfl | rfl <;> rfl) ?_
  refine jHl_fr_28 (y4 := q8) (e0 := q5 - q7) (e2 := 0) (e3 := 0) (e4 := 0) (e5 := 0) 20 0 q6 q9 (by omega) (by omega) (by omega) (by omega) (Int.lt_of_le_of_lt (show q6 ≤ (1000000 : Int) by omega) (by decide)) ?_
  have hb_q10 := jsu_b (P := 3) (by decide) (n := 20) (u := q6) (by omega) (by omega)
  generalize hq_q10 : jsu 3 20 q6 = q10 at hb_q10 g_1 ⊢
  have hb_q11 := jsc_b (P := 3) (n := 20) (u := q6)
  have hb_q11 : 0 ≤ jsc 3 20 q6 ∧ jsc 3 20 q6 ≤ 20 := ⟨hb_q11.1, by omega⟩
  generalize hq_q11 : jsc 3 20 q6 = q11 at hb_q11 ⊢
  refine jT_eq (LN := [(6, (1, q10)), (4, (1, q8)), (8, (4, 0)), (9, (0, 1))]) (stN := []) (hsN := [(101, [], [q5 - q7, -q11 + q9, 0, 0, 0, 0])]) (rfl) (rfl) (by simp only [List.cons.injEq, Prod.mk.injEq, and_true, true_and] <;> ((try unfold jw); (try unfold jwl); omega)) ?_
  refine jT_xiinc (x := 1) (z := 2) (LN := [(9, (0, 2)), (6, (1, q10)), (4, (1, q8)), (8, (4, 0))]) (pcN := 161) jIH_14_158 rfl rfl (by decide) rfl rfl ?_
  refine jT_xgoto (pcN := 33) jIH_14_161 rfl ?_
  refine jT_xiload (v := (0, 2)) (pcN := 35) jIH_14_33 rfl rfl rfl ?_
  refine jT_xbipush (k := 6) (pcN := 37) jIH_14_35 (by decide) rfl ?_
  refine jT_xicF (t := 164) (pcN := 40) jIH_14_37 rfl (by decide +kernel) rfl rfl ?_
  refine jT_xiconst (k := 0) (pcN := 41) jIH_14_40 rfl ?_
  refine jT_xistore (v := (0, 0)) (LN := [(10, (0, 0)), (9, (0, 2)), (6, (1, q10)), (4, (1, q8)), (8, (4, 0))]) (pcN := 43) jIH_14_41 rfl rfl rfl rfl ?_
  refine jT_loc (LN := [(10, (0, 0)), (4, (1, q8)), (6, (1, q10)), (8, (4, 0)), (9, (0, 2))]) (by show List.Nodup [10, 4, 6, 8, 9]; decide) (by intro q hq; simp only [List.mem_cons, List.not_mem_nil, or_false] at hq; rcases hq with rfl | rfl | rfl | rfl | rfl <;> rfl) ?_
  refine jHl_fr_29 (y6 := q10) (e0 := q5 - q7) (e1 := -q11 + q9) (e3 := 0) (e4 := 0) (e5 := 0) 20 0 q8 0 (by omega) (by omega) (by omega) (by omega) (Int.lt_of_le_of_lt (show q8 ≤ (1000000 : Int) by omega) (by decide)) ?_
  have hb_q12 := jsu_b (P := 5) (by decide) (n := 20) (u := q8) (by omega) (by omega)
  generalize hq_q12 : jsu 5 20 q8 = q12 at hb_q12 g_0 ⊢
  have hb_q13 := jsc_b (P := 5) (n := 20) (u := q8)
  have hb_q13 : 0 ≤ jsc 5 20 q8 ∧ jsc 5 20 q8 ≤ 20 := ⟨hb_q13.1, by omega⟩
  generalize hq_q13 : jsc 5 20 q8 = q13 at hb_q13 ⊢
  refine jT_eq (LN := [(4, (1, q12)), (6, (1, q10)), (8, (4, 0)), (9, (0, 2))]) (stN := []) (hsN := [(101, [], [q5 - q7, -q11 + q9, q13, 0, 0, 0])]) (rfl) (rfl) (by simp only [List.cons.injEq, Prod.mk.injEq, and_true, true_and] <;> ((try unfold jw); (try unfold jwl); omega)) ?_
  refine jT_xiconst (k := 0) (pcN := 100) jIH_14_99 rfl ?_
  refine jT_xistore (v := (0, 0)) (LN := [(10, (0, 0)), (4, (1, q12)), (6, (1, q10)), (8, (4, 0)), (9, (0, 2))]) (pcN := 102) jIH_14_100 rfl rfl rfl rfl ?_
  refine jT_loc (LN := [(10, (0, 0)), (6, (1, q10)), (4, (1, q12)), (8, (4, 0)), (9, (0, 2))]) (by show List.Nodup [10, 6, 4, 8, 9]; decide) (by intro q hq; simp only [List.mem_cons, List.not_mem_nil, or_false] at hq; rcases hq with rfl | rfl | rfl | rfl | rfl <;> rfl) ?_
  refine jHl_fr_30 (y4 := q12) (e0 := q5 - q7) (e1 := -q11 + q9) (e3 := 0) (e4 := 0) (e5 := 0) 20 0 q10 q13 (by omega) (by omega) (by omega) (by omega) (Int.lt_of_le_of_lt (show q10 ≤ (1000000 : Int) by omega) (by decide)) ?_
  have hb_q14 := jsu_b (P := 5) (by decide) (n := 20) (u := q10) (by omega) (by omega)
  generalize hq_q14 : jsu 5 20 q10 = q14 at hb_q14 g_1 ⊢
  have hb_q15 := jsc_b (P := 5) (n := 20) (u := q10)
  have hb_q15 : 0 ≤ jsc 5 20 q10 ∧ jsc 5 20 q10 ≤ 20 := ⟨hb_q15.1, by omega⟩
  generalize hq_q15 : jsc 5 20 q10 = q15 at hb_q15 ⊢
  refine jT_xiinc (x := 2) (z := 3) (LN := [(9, (0, 3)), (6, (1, q14)), (4, (1, q12)), (8, (4, 0))]) (pcN := 161) jIH_14_158 rfl rfl (by decide) rfl rfl ?_
  refine jT_xgoto (pcN := 33) jIH_14_161 rfl ?_
  refine jT_xiload (v := (0, 3)) (pcN := 35) jIH_14_33 rfl rfl rfl ?_
  refine jT_xbipush (k := 6) (pcN := 37) jIH_14_35 (by decide) rfl ?_
  refine jT_xicF (t := 164) (pcN := 40) jIH_14_37 rfl (by decide +kernel) rfl rfl ?_
  refine jT_xiconst (k := 0) (pcN := 41) jIH_14_40 rfl ?_
  refine jT_xistore (v := (0, 0)) (LN := [(10, (0, 0)), (9, (0, 3)), (6, (1, q14)), (4, (1, q12)), (8, (4, 0))]) (pcN := 43) jIH_14_41 rfl rfl rfl rfl ?_
  refine jT_loc (LN := [(10, (0, 0)), (4, (1, q12)), (6, (1, q14)), (8, (4, 0)), (9, (0, 3))]) (by show List.Nodup [10, 4, 6, 8, 9]; decide) (by intro q hq; simp only [List.mem_cons, List.not_mem_nil, or_false] at hq; rcases hq with rfl | rfl | rfl | rfl | rfl <;> rfl) ?_
  refine jHl_fr_31 (y6 := q14) (e0 := q5 - q7) (e1 := -q11 + q9) (e2 := q13 - q15) (e4 := 0) (e5 := 0) 20 0 q12 0 (by omega) (by omega) (by omega) (by omega) (Int.lt_of_le_of_lt (show q12 ≤ (1000000 : Int) by omega) (by decide)) ?_
  have hb_q16 := jsu_b (P := 7) (by decide) (n := 20) (u := q12) (by omega) (by omega)
  generalize hq_q16 : jsu 7 20 q12 = q16 at hb_q16 g_0 ⊢
  have hb_q17 := jsc_b (P := 7) (n := 20) (u := q12)
  have hb_q17 : 0 ≤ jsc 7 20 q12 ∧ jsc 7 20 q12 ≤ 20 := ⟨hb_q17.1, by omega⟩
  generalize hq_q17 : jsc 7 20 q12 = q17 at hb_q17 ⊢
  refine jT_eq (LN := [(4, (1, q16)), (6, (1, q14)), (8, (4, 0)), (9, (0, 3))]) (stN := []) (hsN := [(101, [], [q5 - q7, -q11 + q9, q13 - q15, q17, 0, 0])]) (rfl) (rfl) (by simp only [List.cons.injEq, Prod.mk.injEq, and_true, true_and] <;> ((try unfold jw); (try unfold jwl); omega)) ?_
  refine jT_xiconst (k := 0) (pcN := 100) jIH_14_99 rfl ?_
  refine jT_xistore (v := (0, 0)) (LN := [(10, (0, 0)), (4, (1, q16)), (6, (1, q14)), (8, (4, 0)), (9, (0, 3))]) (pcN := 102) jIH_14_100 rfl rfl rfl rfl ?_
  refine jT_loc (LN := [(10, (0, 0)), (6, (1, q14)), (4, (1, q16)), (8, (4, 0)), (9, (0, 3))]) (by show List.Nodup [10, 6, 4, 8, 9]; decide) (by intro q hq; simp only [List.mem_cons, List.not_mem_nil, or_false] at hq; rcases hq with rfl | rfl | rfl | rfl | rfl <;> rfl) ?_
  refine jHl_fr_32 (y4 := q16) (e0 := q5 - q7) (e1 := -q11 + q9) (e2 := q13 - q15) (e4 := 0) (e5 := 0) 20 0 q14 q17 (by omega) (by omega) (by omega) (by omega) (Int.lt_of_le_of_lt (show q14 ≤ (1000000 : Int) by omega) (by decide)) ?_
  have hb_q18 := jsu_b (P := 7) (by decide) (n := 20) (u := q14) (by omega) (by omega)
  generalize hq_q18 : jsu 7 20 q14 = q18 at hb_q18 g_1 ⊢
  have hb_q19 := jsc_b (P := 7) (n := 20) (u := q14)
  have hb_q19 : 0 ≤ jsc 7 20 q14 ∧ jsc 7 20 q14 ≤ 20 := ⟨hb_q19.1, by omega⟩
  generalize hq_q19 : jsc 7 20 q14 = q19 at hb_q19 ⊢
  refine jT_xiinc (x := 3) (z := 4) (LN := [(9, (0, 4)), (6, (1, q18)), (4, (1, q16)), (8, (4, 0))]) (pcN := 161) jIH_14_158 rfl rfl (by decide) rfl rfl ?_
  refine jT_xgoto (pcN := 33) jIH_14_161 rfl ?_
  refine jT_xiload (v := (0, 4)) (pcN := 35) jIH_14_33 rfl rfl rfl ?_
  refine jT_xbipush (k := 6) (pcN := 37) jIH_14_35 (by decide) rfl ?_
  refine jT_xicF (t := 164) (pcN := 40) jIH_14_37 rfl (by decide +kernel) rfl rfl ?_
  refine jT_xiconst (k := 0) (pcN := 41) jIH_14_40 rfl ?_
  refine jT_xistore (v := (0, 0)) (LN := [(10, (0, 0)), (9, (0, 4)), (6, (1, q18)), (4, (1, q16)), (8, (4, 0))]) (pcN := 43) jIH_14_41 rfl rfl rfl rfl ?_
  refine jT_loc (LN := [(10, (0, 0)), (4, (1, q16)), (6, (1, q18)), (8, (4, 0)), (9, (0, 4))]) (by show List.Nodup [10, 4, 6, 8, 9]; decide) (by intro q hq; simp only [List.mem_cons, List.not_mem_nil, or_false] at hq; rcases hq with rfl | rfl | rfl | rfl | rfl <;> rfl) ?_
  refine jHl_fr_33 (y6 := q18) (e0 := q5 - q7) (e1 := -q11 + q9) (e2 := q13 - q15) (e3 := q17 - q19) (e5 := 0) 20 0 q16 0 (by omega) (by omega) (by omega) (by omega) (Int.lt_of_le_of_lt (show q16 ≤ (1000000 : Int) by omega) (by decide)) ?_
  have hb_q20 := jsu_b (P := 11) (by decide) (n := 20) (u := q16) (by omega) (by omega)
  generalize hq_q20 : jsu 11 20 q16 = q20 at hb_q20 g_0 ⊢
  have hb_q21 := jsc_b (P := 11) (n := 20) (u := q16)
  have hb_q21 : 0 ≤ jsc 11 20 q16 ∧ jsc 11 20 q16 ≤ 20 := ⟨hb_q21.1, by omega⟩
  generalize hq_q21 : jsc 11 20 q16 = q21 at hb_q21 ⊢
  refine jT_eq (LN := [(4, (1, q20)), (6, (1, q18)), (8, (4, 0)), (9, (0, 4))]) (stN := []) (hsN := [(101, [], [q5 - q7, -q11 + q9, q13 - q15, q17 - q19, q21, 0])]) (rfl) (rfl) (by simp only [List.cons.injEq, Prod.mk.injEq, and_true, true_and] <;> ((try unfold jw); (try unfold jwl); omega)) ?_
  refine jT_xiconst (k := 0) (pcN := 100) jIH_14_99 rfl ?_
  refine jT_xistore (v := (0, 0)) (LN := [(10, (0, 0)), (4, (1, q20)), (6, (1, q18)), (8, (4, 0)), (9, (0, 4))]) (pcN := 102) jIH_14_100 rfl rfl rfl rfl ?_
  refine jT_loc (LN := [(10, (0, 0)), (6, (1, q18)), (4, (1, q20)), (8, (4, 0)), (9, (0, 4))]) (by show List.Nodup [10, 6, 4, 8, 9]; decide) (by intro q hq; simp only [List.mem_cons, List.not_mem_nil, or_false] at hq; rcases hq with rfl | rfl | rfl | rfl | rfl <;> rfl) ?_
  refine jHl_fr_34 (y4 := q20) (e0 := q5 - q7) (e1 := -q11 + q9) (e2 := q13 - q15) (e3 := q17 - q19) (e5 := 0) 20 0 q18 q21 (by omega) (by omega) (by omega) (by omega) (Int.lt_of_le_of_lt (show q18 ≤ (1000000 : Int) by omega) (by decide)) ?_
  have hb_q22 := jsu_b (P := 11) (by decide) (n := 20) (u := q18) (by omega) (by omega)
  generalize hq_q22 : jsu 11 20 q18 = q22 at hb_q22 g_1 ⊢
  have hb_q23 := jsc_b (P := 11) (n := 20) (u := q18)
  have hb_q23 : 0 ≤ jsc 11 20 q18 ∧ jsc 11 20 q18 ≤ 20 := ⟨hb_q23.1, by omega⟩
  generalize hq_q23 : jsc 11 20 q18 = q23 at hb_q23 ⊢
  refine jT_xiinc (x := 4) (z := 5) (LN := [(9, (0, 5)), (6, (1, q22)), (4, (1, q20)), (8, (4, 0))]) (pcN := 161) jIH_14_158 rfl rfl (by decide) rfl rfl ?_
  refine jT_xgoto (pcN := 33) jIH_14_161 rfl ?_
  refine jT_xiload (v := (0, 5)) (pcN := 35) jIH_14_33 rfl rfl rfl ?_
  refine jT_xbipush (k := 6) (pcN := 37) jIH_14_35 (by decide) rfl ?_
  refine jT_xicF (t := 164) (pcN := 40) jIH_14_37 rfl (by decide +kernel) rfl rfl ?_
  refine jT_xiconst (k := 0) (pcN := 41) jIH_14_40 rfl ?_
  refine jT_xistore (v := (0, 0)) (LN := [(10, (0, 0)), (9, (0, 5)), (6, (1, q22)), (4, (1, q20)), (8, (4, 0))]) (pcN := 43) jIH_14_41 rfl rfl rfl rfl ?_
  refine jT_loc (LN := [(10, (0, 0)), (4, (1, q20)), (6, (1, q22)), (8, (4, 0)), (9, (0, 5))]) (by show List.Nodup [10, 4, 6, 8, 9]; decide) (by intro q hq; simp only [List.mem_cons, List.not_mem_nil, or_false] at hq; rcases hq with rfl | rfl | rfl | rfl | rfl <;> rfl) ?_
  refine jHl_fr_35 (y6 := q22) (e0 := q5 - q7) (e1 := -q11 + q9) (e2 := q13 - q15) (e3 := q17 - q19) (e4 := q21 - q23) 20 0 q20 0 (by omega) (by omega) (by omega) (by omega) (Int.lt_of_le_of_lt (show q20 ≤ (1000000 : Int) by omega) (by decide)) ?_
  have hb_q24 := jsu_b (P := 13) (by decide) (n := 20) (u := q20) (by omega) (by omega)
  generalize hq_q24 : jsu 13 20 q20 = q24 at hb_q24 g_0 ⊢
  have hb_q25 := jsc_b (P := 13) (n := 20) (u := q20)
  have hb_q25 : 0 ≤ jsc 13 20 q20 ∧ jsc 13 20 q20 ≤ 20 := ⟨hb_q25.1, by omega⟩
  generalize hq_q25 : jsc 13 20 q20 = q25 at hb_q25 ⊢
  refine jT_eq (LN := [(4, (1, q24)), (6, (1, q22)), (8, (4, 0)), (9, (0, 5))]) (stN := []) (hsN := [(101, [], [q5 - q7, -q11 + q9, q13 - q15, q17 - q19, q21 - q23, q25])]) (rfl) (rfl) (by simp only [List.cons.injEq, Prod.mk.injEq, and_true, true_and] <;> ((try unfold jw); (try unfold jwl); omega)) ?_
  refine jT_xiconst (k := 0) (pcN := 100) jIH_14_99 rfl ?_
  refine jT_xistore (v := (0, 0)) (LN := [(10, (0, 0)), (4, (1, q24)), (6, (1, q22)), (8, (4, 0)), (9, (0, 5))]) (pcN := 102) jIH_14_100 rfl rfl rfl rfl ?_
  refine jT_loc (LN := [(10, (0, 0)), (6, (1, q22)), (4, (1, q24)), (8, (4, 0)), (9, (0, 5))]) (by show List.Nodup [10, 6, 4, 8, 9]; decide) (by intro q hq; simp only [List.mem_cons, List.not_mem_nil, or_false] at hq; rcases hq with rfl | rfl | rfl | rfl | rfl <;> rfl) ?_
  refine jHl_fr_36 (y4 := q24) (e0 := q5 - q7) (e1 := -q11 + q9) (e2 := q13 - q15) (e3 := q17 - q19) (e4 := q21 - q23) 20 0 q22 q25 (by omega) (by omega) (by omega) (by omega) (Int.lt_of_le_of_lt (show q22 ≤ (1000000 : Int) by omega) (by decide)) ?_
  have hb_q26 := jsu_b (P := 13) (by decide) (n := 20) (u := q22) (by omega) (by omega)
  generalize hq_q26 : jsu 13 20 q22 = q26 at hb_q26 g_1 ⊢
  have hb_q27 := jsc_b (P := 13) (n := 20) (u := q22)
  have hb_q27 : 0 ≤ jsc 13 20 q22 ∧ jsc 13 20 q22 ≤ 20 := ⟨hb_q27.1, by omega⟩
  generalize hq_q27 : jsc 13 20 q22 = q27 at hb_q27 ⊢
  refine jT_xiinc (x := 5) (z := 6) (LN := [(9, (0, 6)), (6, (1, q26)), (4, (1, q24)), (8, (4, 0))]) (pcN := 161) jIH_14_158 rfl rfl (by decide) rfl rfl ?_
  refine jT_xgoto (pcN := 33) jIH_14_161 rfl ?_
  refine jT_xiload (v := (0, 6)) (pcN := 35) jIH_14_33 rfl rfl rfl ?_
  refine jT_xbipush (k := 6) (pcN := 37) jIH_14_35 (by decide) rfl ?_
  refine jT_xicT (pcN := 164) jIH_14_37 rfl (by decide +kernel) rfl ?_
  refine jT_xlload (v := (1, q24)) (pcN := 166) jIH_14_164 rfl rfl rfl ?_
  refine jT_xlconst (z := 1) (pcN := 167) jIH_14_166 rfl rfl ?_
  refine jT_lcmp (a := q24) (b := 1) (z := 0) (by rfl) (by rfl) (jwl_idd (by omega) (by omega)) (jwl_idd (by omega) (by omega)) (by rw [decide_eq_false (show ¬ ((1 : Int) < q24) by omega), decide_eq_true (show (q24 : Int) = 1 by omega)]; rfl) ?_
  refine jT_xifF (t := 191) (pcN := 171) jIH_14_168 rfl (by decide +kernel) rfl rfl ?_
  refine jT_xlload (v := (1, q26)) (pcN := 173) jIH_14_171 rfl rfl rfl ?_
  refine jT_xlconst (z := 1) (pcN := 174) jIH_14_173 rfl rfl ?_
  refine jT_lcmp (a := q26) (b := 1) (z := 0) (by rfl) (by rfl) (jwl_idd (by omega) (by omega)) (jwl_idd (by omega) (by omega)) (by rw [decide_eq_false (show ¬ ((1 : Int) < q26) by omega), decide_eq_true (show (q26 : Int) = 1 by omega)]; rfl) ?_
  refine jT_xifF (t := 191) (pcN := 178) jIH_14_175 rfl (by decide +kernel) rfl rfl ?_
  refine jT_adv 2 (pcN := 182) (LN := [(9, (0, 6)), (6, (1, q26)), (4, (1, q24)), (8, (4, 0))]) (stN := [(4, 1), (4, 1)]) (hsN := [(101, [], [q5 - q7, -q11 + q9, q13 - q15, q17 - q19, q21 - q23, q25 - q27]), (4, [(4, (-1)), (1, 0)], [])]) (c1 := 1) (s1 := 2) (c2 := 0) (s2 := 0) (by exact rfl) ?_ (by omega) (by omega)
  refine jT_xaload (v := (4, 0)) (pcN := 184) jIH_14_182 rfl rfl rfl ?_
  refine jT_xlconst (z := 1) (pcN := 185) jIH_14_184 rfl rfl ?_
  refine jT_callB [1, 0] (y := 9) (pcN := 188) (dC := 1) (bc1 := 0) (bc2 := 0) (c1 := 0) (c2 := 0) (as := [(4, 1), (4, 0), (1, 1)]) (asC := [(4, 0), (4, 1), (1, 1)]) (LN := [(9, (0, 6)), (6, (1, q26)), (4, (1, q24)), (8, (4, 0))]) (stN := [(4, 1)]) (hsC := [(4, [(4, (-1)), (1, 0)], []), (101, [], [q5 - q7, -q11 + q9, q13 - q15, q17 - q19, q21 - q23, q25 - q27])]) (hsD := [(4, [(4, 1), (1, 1)], []), (101, [], [q5 - q7, -q11 + q9, q13 - q15, q17 - q19, q21 - q23, q25 - q27])]) (v := (9, 0)) (st2 := [(4, 1)]) (hs2 := [(101, [], [q5 - q7, -q11 + q9, q13 - q15, q17 - q19, q21 - q23, q25 - q27]), (4, [(4, 0), (1, 1)], [])]) (jH_9_65 (d := 0) (by omega) (by omega) (by omega) (by omega) (by omega) (by omega) (by omega) (by omega) (by omega) (by omega) (by omega) (by omega)) (by rfl) (by rfl) (by rfl) (by rfl) ⟨rfl, rfl, trivial⟩ (by rfl) (by rfl) (by omega) (by show 0 ≤ 2; omega) (by omega) (by omega) rfl rfl ?_
  refine jT_xgoto (pcN := 192) jIH_14_188 rfl ?_
  subst hq_q27
  subst hq_q26
  subst hq_q25
  subst hq_q24
  subst hq_q23
  subst hq_q22
  subst hq_q21
  subst hq_q20
  subst hq_q19
  subst hq_q18
  subst hq_q17
  subst hq_q16
  subst hq_q15
  subst hq_q14
  subst hq_q13
  subst hq_q12
  subst hq_q11
  subst hq_q10
  subst hq_q9
  subst hq_q8
  subst hq_q7
  subst hq_q6
  subst hq_q5
  subst hq_q4
  subst hq_q3
  subst hq_q2
  subst hq_q1
  exact jT_ret rfl (by decide) (by show 0 ≤ 2; omega) (by omega) (by omega) ⟨rfl, rfl, rfl⟩
def jzH_288 : JC := (9, [(4, 12), (4, 13), (4, 14), (4, 15), (4, 16)], [])
def jzH_289 : JC := (114, [], [17, 17, 17, 17, 17, 17, 17, 17])
def jpH_290 : List JC := [jzH_5, jgh, jgh, jgh, jgh, jgh, jgh, jgh, jgh, jgh, jzH_286, jzH_288, jzH_289, jgh, jgh, jgh, jgh, jgh]
theorem jIH_114_36 : jmI (jm 114) 36 = (.aload_n 0, 1) := by rfl
theorem jIH_114_37 : jmI (jm 114) 37 = (.aload_n 0, 1) := by rfl
theorem jIH_114_38 : jmI (jm 114) 38 = (.getfield 67, 3) := by rfl
theorem jIH_114_41 : jmI (jm 114) 41 = (.iload_n 1, 1) := by rfl
theorem jIH_114_42 : jmI (jm 114) 42 = (.aload 4, 2) := by rfl
def jzH_296 : JC := (9, [(4, 20), (4, 13), (4, 14), (4, 15), (4, 16)], [])
def jzH_297 : JC := (13, [(4, 1), (4, 2), (4, 3), (4, 4), (4, 5), (4, 6), (4, 7), (4, 8), (4, 9), (4, 10), (0, 1), (4, 21), (0, 0)], [])
def jzH_298 : JC := (119, [], [11, (-1), (-1), (-1), (-1), (-1), (-1), (-1)])
theorem jIH_114_50 : jmI (jm 114) 50 = (.iload_n 2, 1) := by rfl
theorem jIH_114_51 : jmI (jm 114) 51 = (.iload_n 3, 1) := by rfl
theorem jIH_114_52 : jmI (jm 114) 52 = (.if_icmp .le 7, 3) := by rfl
theorem jIH_114_55 : jmI (jm 114) 55 = (.iconst 1, 1) := by rfl
theorem jIH_114_56 : jmI (jm 114) 56 = (.goto 4, 3) := by rfl
theorem jH_114_74 {xs : List Int} {d : Nat} {x1 x2 x3 : Int} (h_x1 : 0 ≤ x1 ∧ x1 ≤ 7) (h_x2 : 1 ≤ x2 ∧ x2 ≤ 1000000) (h_x3 : 1 ≤ x3 ∧ x3 ≤ 1000000) (g_0 : (jsu 13 20 (jsu 11 20 (jsu 7 20 (jsu 5 20 (jsu 3 20 (jsu 2 20 (x2.tdiv (((Nat.gcd (x2).natAbs (x3).natAbs : Nat) : Int))))))))) - 2 < 0) (g_1 : (jsu 13 20 (jsu 11 20 (jsu 7 20 (jsu 5 20 (jsu 3 20 (jsu 2 20 (x3.tdiv (((Nat.gcd (x2).natAbs (x3).natAbs : Nat) : Int))))))))) - 2 < 0) (g_2 : 0 ≤ x2 - x3 - 1) : jT xs (d + 3) 114 18 0 [(0, (4, 0)), (1, (0, x1)), (2, (0, x2)), (3, (0, x3))] [] jpH_290 4 21 (fun k v hsN => k = 0 ∧ v = (0, 1) ∧ hsN = [jzH_297, jgh, jgh, jgh, jgh, jgh, jgh, jgh, jgh, jgh, jzH_298, jzH_288, jzH_289, jgh, jgh, jgh, jgh, jgh, (101, [], [(jsc 2 20 (x2.tdiv (((Nat.gcd (x2).natAbs (x3).natAbs : Nat) : Int)))) - (jsc 2 20 (x3.tdiv (((Nat.gcd (x2).natAbs (x3).natAbs : Nat) : Int)))), (jsc 3 20 (jsu 2 20 (x2.tdiv (((Nat.gcd (x2).natAbs (x3).natAbs : Nat) : Int))))) - (jsc 3 20 (jsu 2 20 (x3.tdiv (((Nat.gcd (x2).natAbs (x3).natAbs : Nat) : Int))))), (jsc 5 20 (jsu 3 20 (jsu 2 20 (x2.tdiv (((Nat.gcd (x2).natAbs (x3).natAbs : Nat) : Int)))))) - (jsc 5 20 (jsu 3 20 (jsu 2 20 (x3.tdiv (((Nat.gcd (x2).natAbs (x3).natAbs : Nat) : Int)))))), (jsc 7 20 (jsu 5 20 (jsu 3 20 (jsu 2 20 (x2.tdiv (((Nat.gcd (x2).natAbs (x3).natAbs : Nat) : Int))))))) - (jsc 7 20 (jsu 5 20 (jsu 3 20 (jsu 2 20 (x3.tdiv (((Nat.gcd (x2).natAbs (x3).natAbs : Nat) : Int))))))), -(jsc 11 20 (jsu 7 20 (jsu 5 20 (jsu 3 20 (jsu 2 20 (x3.tdiv (((Nat.gcd (x2).natAbs (x3).natAbs : Nat) : Int)))))))) + (jsc 11 20 (jsu 7 20 (jsu 5 20 (jsu 3 20 (jsu 2 20 (x2.tdiv (((Nat.gcd (x2).natAbs (x3).natAbs : Nat) : Int)))))))), (jsc 13 20 (jsu 11 20 (jsu 7 20 (jsu 5 20 (jsu 3 20 (jsu 2 20 (x2.tdiv (((Nat.gcd (x2).natAbs (x3).natAbs : Nat) : Int))))))))) - (jsc 13 20 (jsu 11 20 (jsu 7 20 (jsu 5 20 (jsu 3 20 (jsu 2 20 (x3.tdiv (((Nat.gcd (x2).natAbs (x3).natAbs : Nat) : Int)))))))))]), (4, [(4, 18), (1, 1)], []), jgh, jzH_296]) := by
  refine jT_xaload_n (v := (4, 0)) (pcN := 1) jIH_114_0 rfl rfl rfl ?_
  refine jT_xiload_n (v := (0, x1)) (pcN := 2) jIH_114_1 rfl rfl rfl ?_
  refine jT_xbipush (k := 8) (pcN := 4) jIH_114_2 (by decide) rfl ?_
  refine jT_fR [0] 18 (y := 115) (pcN := 7) (dC := 0) (bc1 := 0) (bc2 := 0) (c1 := 4) (c2 := 21) (as := [(4, 0), (0, x1), (0, 8)]) (asC := [(4, 0), (0, x1), (0, 8)]) (LN := [(0, (4, 0)), (1, (0, x1)), (2, (0, x2)), (3, (0, x3))]) (stN := []) (hsC := [jgh]) (v := (9, 0)) (st2 := []) (jH_115_9 (d := 0) (by omega)) (by rfl) (by rfl) (by decide +kernel) (by rfl) (by rfl) (by omega) (by omega) (by omega) (by omega) rfl ?_
  refine jT_xaload_n (v := (4, 0)) (pcN := 8) jIH_114_7 rfl rfl rfl ?_
  refine jT_xiload_n (v := (0, x2)) (pcN := 9) jIH_114_8 rfl rfl rfl ?_
  refine jT_xiconst (k := 1) (pcN := 10) jIH_114_9 rfl ?_
  refine jT_adv 1 (pcN := 12) (LN := [(0, (4, 0)), (1, (0, x1)), (2, (0, x2)), (3, (0, x3))]) (stN := [(0, 1000000), (0, 1), (0, x2), (4, 0)]) (hsN := jpH_290) (c1 := 0) (s1 := 0) (c2 := 4) (s2 := 21) (by exact rfl) ?_ (by omega) (by omega)
  refine jT_fR [0] 18 (y := 116) (pcN := 15) (dC := 0) (bc1 := 0) (bc2 := 0) (c1 := 4) (c2 := 21) (as := [(4, 0), (0, x2), (0, 1), (0, 1000000)]) (asC := [(4, 0), (0, x2), (0, 1), (0, 1000000)]) (LN := [(0, (4, 0)), (1, (0, x1)), (2, (0, x2)), (3, (0, x3))]) (stN := []) (hsC := [jgh]) (v := (9, 0)) (st2 := []) (jH_116_19 (d := 0) (by omega)) (by rfl) (by rfl) (by decide +kernel) (by rfl) (by rfl) (by omega) (by omega) (by omega) (by omega) rfl ?_
  refine jT_xaload_n (v := (4, 0)) (pcN := 16) jIH_114_15 rfl rfl rfl ?_
  refine jT_xiload_n (v := (0, x3)) (pcN := 17) jIH_114_16 rfl rfl rfl ?_
  refine jT_xiconst (k := 1) (pcN := 18) jIH_114_17 rfl ?_
  refine jT_adv 1 (pcN := 20) (LN := [(0, (4, 0)), (1, (0, x1)), (2, (0, x2)), (3, (0, x3))]) (stN := [(0, 1000000), (0, 1), (0, x3), (4, 0)]) (hsN := jpH_290) (c1 := 0) (s1 := 0) (c2 := 4) (s2 := 21) (by exact rfl) ?_ (by omega) (by omega)
  refine jT_fR [0] 18 (y := 116) (pcN := 23) (dC := 0) (bc1 := 0) (bc2 := 0) (c1 := 4) (c2 := 21) (as := [(4, 0), (0, x3), (0, 1), (0, 1000000)]) (asC := [(4, 0), (0, x3), (0, 1), (0, 1000000)]) (LN := [(0, (4, 0)), (1, (0, x1)), (2, (0, x2)), (3, (0, x3))]) (stN := []) (hsC := [jgh]) (v := (9, 0)) (st2 := []) (jH_116_24 (d := 0) (by omega)) (by rfl) (by rfl) (by decide +kernel) (by rfl) (by rfl) (by omega) (by omega) (by omega) (by omega) rfl ?_
  refine jT_xiload_n (v := (0, x2)) (pcN := 24) jIH_114_23 rfl rfl rfl ?_
  refine jT_xiload_n (v := (0, x3)) (pcN := 25) jIH_114_24 rfl rfl rfl ?_
  refine jT_fA [] 18 (y := 14) (pcN := 28) (dC := 2) (bc1 := 2) (bc2 := 8) (c1 := 2) (c2 := 13) (as := [(0, x2), (0, x3)]) (asC := [(0, x2), (0, x3)]) (LN := [(0, (4, 0)), (1, (0, x1)), (2, (0, x2)), (3, (0, x3))]) (stN := []) (hsC := []) (ex := [(101, [], [(jsc 2 20 (x2.tdiv (((Nat.gcd (x2).natAbs (x3).natAbs : Nat) : Int)))) - (jsc 2 20 (x3.tdiv (((Nat.gcd (x2).natAbs (x3).natAbs : Nat) : Int)))), -(jsc 3 20 (jsu 2 20 (x3.tdiv (((Nat.gcd (x2).natAbs (x3).natAbs : Nat) : Int))))) + (jsc 3 20 (jsu 2 20 (x2.tdiv (((Nat.gcd (x2).natAbs (x3).natAbs : Nat) : Int))))), (jsc 5 20 (jsu 3 20 (jsu 2 20 (x2.tdiv (((Nat.gcd (x2).natAbs (x3).natAbs : Nat) : Int)))))) - (jsc 5 20 (jsu 3 20 (jsu 2 20 (x3.tdiv (((Nat.gcd (x2).natAbs (x3).natAbs : Nat) : Int)))))), (jsc 7 20 (jsu 5 20 (jsu 3 20 (jsu 2 20 (x2.tdiv (((Nat.gcd (x2).natAbs (x3).natAbs : Nat) : Int))))))) - (jsc 7 20 (jsu 5 20 (jsu 3 20 (jsu 2 20 (x3.tdiv (((Nat.gcd (x2).natAbs (x3).natAbs : Nat) : Int))))))), (jsc 11 20 (jsu 7 20 (jsu 5 20 (jsu 3 20 (jsu 2 20 (x2.tdiv (((Nat.gcd (x2).natAbs (x3).natAbs : Nat) : Int)))))))) - (jsc 11 20 (jsu 7 20 (jsu 5 20 (jsu 3 20 (jsu 2 20 (x3.tdiv (((Nat.gcd (x2).natAbs (x3).natAbs : Nat) : Int)))))))), (jsc 13 20 (jsu 11 20 (jsu 7 20 (jsu 5 20 (jsu 3 20 (jsu 2 20 (x2.tdiv (((Nat.gcd (x2).natAbs (x3).natAbs : Nat) : Int))))))))) - (jsc 13 20 (jsu 11 20 (jsu 7 20 (jsu 5 20 (jsu 3 20 (jsu 2 20 (x3.tdiv (((Nat.gcd (x2).natAbs (x3).natAbs : Nat) : Int)))))))))]), (4, [(4, 0), (1, 1)], [])]) (v := (4, 1)) (st2 := [(4, 19)]) (hs2 := [jzH_5, jgh, jgh, jgh, jgh, jgh, jgh, jgh, jgh, jgh, jzH_286, jzH_288, jzH_289, jgh, jgh, jgh, jgh, jgh, (101, [], [(jsc 2 20 (x2.tdiv (((Nat.gcd (x2).natAbs (x3).natAbs : Nat) : Int)))) - (jsc 2 20 (x3.tdiv (((Nat.gcd (x2).natAbs (x3).natAbs : Nat) : Int)))), -(jsc 3 20 (jsu 2 20 (x3.tdiv (((Nat.gcd (x2).natAbs (x3).natAbs : Nat) : Int))))) + (jsc 3 20 (jsu 2 20 (x2.tdiv (((Nat.gcd (x2).natAbs (x3).natAbs : Nat) : Int))))), (jsc 5 20 (jsu 3 20 (jsu 2 20 (x2.tdiv (((Nat.gcd (x2).natAbs (x3).natAbs : Nat) : Int)))))) - (jsc 5 20 (jsu 3 20 (jsu 2 20 (x3.tdiv (((Nat.gcd (x2).natAbs (x3).natAbs : Nat) : Int)))))), (jsc 7 20 (jsu 5 20 (jsu 3 20 (jsu 2 20 (x2.tdiv (((Nat.gcd (x2).natAbs (x3).natAbs : Nat) : Int))))))) - (jsc 7 20 (jsu 5 20 (jsu 3 20 (jsu 2 20 (x3.tdiv (((Nat.gcd (x2).natAbs (x3).natAbs : Nat) : Int))))))), (jsc 11 20 (jsu 7 20 (jsu 5 20 (jsu 3 20 (jsu 2 20 (x2.tdiv (((Nat.gcd (x2).natAbs (x3).natAbs : Nat) : Int)))))))) - (jsc 11 20 (jsu 7 20 (jsu 5 20 (jsu 3 20 (jsu 2 20 (x3.tdiv (((Nat.gcd (x2).natAbs (x3).natAbs : Nat) : Int)))))))), (jsc 13 20 (jsu 11 20 (jsu 7 20 (jsu 5 20 (jsu 3 20 (jsu 2 20 (x2.tdiv (((Nat.gcd (x2).natAbs (x3).natAbs : Nat) : Int))))))))) - (jsc 13 20 (jsu 11 20 (jsu 7 20 (jsu 5 20 (jsu 3 20 (jsu 2 20 (x3.tdiv (((Nat.gcd (x2).natAbs (x3).natAbs : Nat) : Int)))))))))]), (4, [(4, 18), (1, 1)], [])]) (jH_14_73 (d := 0) (by omega) (by omega) (by omega) (by omega) (by omega)) (by rfl) (by rfl) (by decide +kernel) (by rfl) (by rfl) (by omega) (by omega) (by omega) (by omega) rfl rfl ?_
  have hb_q1 := jsc_b (P := 2) (n := 20) (u := (x2.tdiv (((Nat.gcd (x2).natAbs (x3).natAbs : Nat) : Int))))
  have hb_q1 : 0 ≤ jsc 2 20 (x2.tdiv (((Nat.gcd (x2).natAbs (x3).natAbs : Nat) : Int))) ∧ jsc 2 20 (x2.tdiv (((Nat.gcd (x2).natAbs (x3).natAbs : Nat) : Int))) ≤ 20 := ⟨hb_q1.1, by omega⟩
  generalize hq_q1 : jsc 2 20 (x2.tdiv (((Nat.gcd (x2).natAbs (x3).natAbs : Nat) : Int))) = q1 at hb_q1 ⊢
  have hb_q2 := jsc_b (P := 2) (n := 20) (u := (x3.tdiv (((Nat.gcd (x2).natAbs (x3).natAbs : Nat) : Int))))
  have hb_q2 : 0 ≤ jsc 2 20 (x3.tdiv (((Nat.gcd (x2).natAbs (x3).natAbs : Nat) : Int))) ∧ jsc 2 20 (x3.tdiv (((Nat.gcd (x2).natAbs (x3).natAbs : Nat) : Int))) ≤ 20 := ⟨hb_q2.1, by omega⟩
  generalize hq_q2 : jsc 2 20 (x3.tdiv (((Nat.gcd (x2).natAbs (x3).natAbs : Nat) : Int))) = q2 at hb_q2 ⊢
  have hb_q3 := jsc_b (P := 3) (n := 20) (u := (jsu 2 20 (x2.tdiv (((Nat.gcd (x2).natAbs (x3).natAbs : Nat) : Int)))))
  have hb_q3 : 0 ≤ jsc 3 20 (jsu 2 20 (x2.tdiv (((Nat.gcd (x2).natAbs (x3).natAbs : Nat) : Int)))) ∧ jsc 3 20 (jsu 2 20 (x2.tdiv (((Nat.gcd (x2).natAbs (x3).natAbs : Nat) : Int)))) ≤ 20 := ⟨hb_q3.1, by omega⟩
  generalize hq_q3 : jsc 3 20 (jsu 2 20 (x2.tdiv (((Nat.gcd (x2).natAbs (x3).natAbs : Nat) : Int)))) = q3 at hb_q3 ⊢
  have hb_q4 := jsc_b (P := 3) (n := 20) (u := (jsu 2 20 (x3.tdiv (((Nat.gcd (x2).natAbs (x3).natAbs : Nat) : Int)))))
  have hb_q4 : 0 ≤ jsc 3 20 (jsu 2 20 (x3.tdiv (((Nat.gcd (x2).natAbs (x3).natAbs : Nat) : Int)))) ∧ jsc 3 20 (jsu 2 20 (x3.tdiv (((Nat.gcd (x2).natAbs (x3).natAbs : Nat) : Int)))) ≤ 20 := ⟨hb_q4.1, by omega⟩
  generalize hq_q4 : jsc 3 20 (jsu 2 20 (x3.tdiv (((Nat.gcd (x2).natAbs (x3).natAbs : Nat) : Int)))) = q4 at hb_q4 ⊢
  have hb_q5 := jsc_b (P := 5) (n := 20) (u := (jsu 3 20 (jsu 2 20 (x2.tdiv (((Nat.gcd (x2).natAbs (x3).natAbs : Nat) : Int))))))
  have hb_q5 : 0 ≤ jsc 5 20 (jsu 3 20 (jsu 2 20 (x2.tdiv (((Nat.gcd (x2).natAbs (x3).natAbs : Nat) : Int))))) ∧ jsc 5 20 (jsu 3 20 (jsu 2 20 (x2.tdiv (((Nat.gcd (x2).natAbs (x3).natAbs : Nat) : Int))))) ≤ 20 := ⟨hb_q5.1, by omega⟩
  generalize hq_q5 : jsc 5 20 (jsu 3 20 (jsu 2 20 (x2.tdiv (((Nat.gcd (x2).natAbs (x3).natAbs : Nat) : Int))))) = q5 at hb_q5 ⊢
  have hb_q6 := jsc_b (P := 5) (n := 20) (u := (jsu 3 20 (jsu 2 20 (x3.tdiv (((Nat.gcd (x2).natAbs (x3).natAbs : Nat) : Int))))))
  have hb_q6 : 0 ≤ jsc 5 20 (jsu 3 20 (jsu 2 20 (x3.tdiv (((Nat.gcd (x2).natAbs (x3).natAbs : Nat) : Int))))) ∧ jsc 5 20 (jsu 3 20 (jsu 2 20 (x3.tdiv (((Nat.gcd (x2).natAbs (x3).natAbs : Nat) : Int))))) ≤ 20 := ⟨hb_q6.1, by omega⟩
  generalize hq_q6 : jsc 5 20 (jsu 3 20 (jsu 2 20 (x3.tdiv (((Nat.gcd (x2).natAbs (x3).natAbs : Nat) : Int))))) = q6 at hb_q6 ⊢
  have hb_q7 := jsc_b (P := 7) (n := 20) (u := (jsu 5 20 (jsu 3 20 (jsu 2 20 (x2.tdiv (((Nat.gcd (x2).natAbs (x3).natAbs : Nat) : Int)))))))
  have hb_q7 : 0 ≤ jsc 7 20 (jsu 5 20 (jsu 3 20 (jsu 2 20 (x2.tdiv (((Nat.gcd (x2).natAbs (x3).natAbs : Nat) : Int)))))) ∧ jsc 7 20 (jsu 5 20 (jsu 3 20 (jsu 2 20 (x2.tdiv (((Nat.gcd (x2).natAbs (x3).natAbs : Nat) : Int)))))) ≤ 20 := ⟨hb_q7.1, by omega⟩
  generalize hq_q7 : jsc 7 20 (jsu 5 20 (jsu 3 20 (jsu 2 20 (x2.tdiv (((Nat.gcd (x2).natAbs (x3).natAbs : Nat) : Int)))))) = q7 at hb_q7 ⊢
  have hb_q8 := jsc_b (P := 7) (n := 20) (u := (jsu 5 20 (jsu 3 20 (jsu 2 20 (x3.tdiv (((Nat.gcd (x2).natAbs (x3).natAbs : Nat) : Int)))))))
  have hb_q8 : 0 ≤ jsc 7 20 (jsu 5 20 (jsu 3 20 (jsu 2 20 (x3.tdiv (((Nat.gcd (x2).natAbs (x3).natAbs : Nat) : Int)))))) ∧ jsc 7 20 (jsu 5 20 (jsu 3 20 (jsu 2 20 (x3.tdiv (((Nat.gcd (x2).natAbs (x3).natAbs : Nat) : Int)))))) ≤ 20 := ⟨hb_q8.1, by omega⟩
  generalize hq_q8 : jsc 7 20 (jsu 5 20 (jsu 3 20 (jsu 2 20 (x3.tdiv (((Nat.gcd (x2).natAbs (x3).natAbs : Nat) : Int)))))) = q8 at hb_q8 ⊢
  have hb_q9 := jsc_b (P := 11) (n := 20) (u := (jsu 7 20 (jsu 5 20 (jsu 3 20 (jsu 2 20 (x2.tdiv (((Nat.gcd (x2).natAbs (x3).natAbs : Nat) : Int))))))))
  have hb_q9 : 0 ≤ jsc 11 20 (jsu 7 20 (jsu 5 20 (jsu 3 20 (jsu 2 20 (x2.tdiv (((Nat.gcd (x2).natAbs (x3).natAbs : Nat) : Int))))))) ∧ jsc 11 20 (jsu 7 20 (jsu 5 20 (jsu 3 20 (jsu 2 20 (x2.tdiv (((Nat.gcd (x2).natAbs (x3).natAbs : Nat) : Int))))))) ≤ 20 := ⟨hb_q9.1, by omega⟩
  generalize hq_q9 : jsc 11 20 (jsu 7 20 (jsu 5 20 (jsu 3 20 (jsu 2 20 (x2.tdiv (((Nat.gcd (x2).natAbs (x3).natAbs : Nat) : Int))))))) = q9 at hb_q9 ⊢
  have hb_q10 := jsc_b (P := 11) (n := 20) (u := (jsu 7 20 (jsu 5 20 (jsu 3 20 (jsu 2 20 (x3.tdiv (((Nat.gcd (x2).natAbs (x3).natAbs : Nat) : Int))))))))
  have hb_q10 : 0 ≤ jsc 11 20 (jsu 7 20 (jsu 5 20 (jsu 3 20 (jsu 2 20 (x3.tdiv (((Nat.gcd (x2).natAbs (x3).natAbs : Nat) : Int))))))) ∧ jsc 11 20 (jsu 7 20 (jsu 5 20 (jsu 3 20 (jsu 2 20 (x3.tdiv (((Nat.gcd (x2).natAbs (x3).natAbs : Nat) : Int))))))) ≤ 20 := ⟨hb_q10.1, by omega⟩
  generalize hq_q10 : jsc 11 20 (jsu 7 20 (jsu 5 20 (jsu 3 20 (jsu 2 20 (x3.tdiv (((Nat.gcd (x2).natAbs (x3).natAbs : Nat) : Int))))))) = q10 at hb_q10 ⊢
  have hb_q11 := jsc_b (P := 13) (n := 20) (u := (jsu 11 20 (jsu 7 20 (jsu 5 20 (jsu 3 20 (jsu 2 20 (x2.tdiv (((Nat.gcd (x2).natAbs (x3).natAbs : Nat) : Int)))))))))
  have hb_q11 : 0 ≤ jsc 13 20 (jsu 11 20 (jsu 7 20 (jsu 5 20 (jsu 3 20 (jsu 2 20 (x2.tdiv (((Nat.gcd (x2).natAbs (x3).natAbs : Nat) : Int)))))))) ∧ jsc 13 20 (jsu 11 20 (jsu 7 20 (jsu 5 20 (jsu 3 20 (jsu 2 20 (x2.tdiv (((Nat.gcd (x2).natAbs (x3).natAbs : Nat) : Int)))))))) ≤ 20 := ⟨hb_q11.1, by omega⟩
  generalize hq_q11 : jsc 13 20 (jsu 11 20 (jsu 7 20 (jsu 5 20 (jsu 3 20 (jsu 2 20 (x2.tdiv (((Nat.gcd (x2).natAbs (x3).natAbs : Nat) : Int)))))))) = q11 at hb_q11 ⊢
  have hb_q12 := jsc_b (P := 13) (n := 20) (u := (jsu 11 20 (jsu 7 20 (jsu 5 20 (jsu 3 20 (jsu 2 20 (x3.tdiv (((Nat.gcd (x2).natAbs (x3).natAbs : Nat) : Int)))))))))
  have hb_q12 : 0 ≤ jsc 13 20 (jsu 11 20 (jsu 7 20 (jsu 5 20 (jsu 3 20 (jsu 2 20 (x3.tdiv (((Nat.gcd (x2).natAbs (x3).natAbs : Nat) : Int)))))))) ∧ jsc 13 20 (jsu 11 20 (jsu 7 20 (jsu 5 20 (jsu 3 20 (jsu 2 20 (x3.tdiv (((Nat.gcd (x2).natAbs (x3).natAbs : Nat) : Int)))))))) ≤ 20 := ⟨hb_q12.1, by omega⟩
  generalize hq_q12 : jsc 13 20 (jsu 11 20 (jsu 7 20 (jsu 5 20 (jsu 3 20 (jsu 2 20 (x3.tdiv (((Nat.gcd (x2).natAbs (x3).natAbs : Nat) : Int)))))))) = q12 at hb_q12 ⊢
  refine jT_eq (LN := [(0, (4, 0)), (1, (0, x1)), (2, (0, x2)), (3, (0, x3))]) (stN := [(4, 19)]) (hsN := [jzH_5, jgh, jgh, jgh, jgh, jgh, jgh, jgh, jgh, jgh, jzH_286, jzH_288, jzH_289, jgh, jgh, jgh, jgh, jgh, (101, [], [q1 - q2, q3 - q4, q5 - q6, q7 - q8, -q10 + q9, q11 - q12]), (4, [(4, 18), (1, 1)], [])]) (rfl) (rfl) (by simp only [List.cons.injEq, Prod.mk.injEq, and_true, true_and] <;> ((try unfold jw); (try unfold jwl); omega)) ?_
  refine jT_xastore (v := (4, 19)) (LN := [(4, (4, 19)), (0, (4, 0)), (1, (0, x1)), (2, (0, x2)), (3, (0, x3))]) (pcN := 30) jIH_114_28 rfl rfl rfl rfl ?_
  refine jT_xaload_n (v := (4, 0)) (pcN := 31) jIH_114_30 rfl rfl rfl ?_
  refine jT_xaload (v := (4, 19)) (pcN := 33) jIH_114_31 rfl rfl rfl ?_
  refine jT_callA [0, 19, 18] (y := 117) (pcN := 36) (dC := 2) (bc1 := 0) (bc2 := 0) (c1 := 2) (c2 := 13) (as := [(4, 0), (4, 19)]) (asC := [(4, 0), (4, 1)]) (LN := [(4, (4, 19)), (0, (4, 0)), (1, (0, x1)), (2, (0, x2)), (3, (0, x3))]) (stN := []) (hsC := [jgh, (4, [(4, 2), (1, 1)], []), (101, [], [q1 - q2, q3 - q4, q5 - q6, q7 - q8, -q10 + q9, q11 - q12])]) (ex := []) (v := (9, 0)) (st2 := []) (hs2 := [jzH_5, jgh, jgh, jgh, jgh, jgh, jgh, jgh, jgh, jgh, jzH_286, jzH_288, jzH_289, jgh, jgh, jgh, jgh, jgh, (101, [], [q1 - q2, q3 - q4, q5 - q6, q7 - q8, -q10 + q9, q11 - q12]), (4, [(4, 18), (1, 1)], [])]) (jH_117_69 (d := 0) (by omega) (by omega) (by omega) (by omega) (by omega) (by omega) (by omega) (by omega) (by omega) (by omega) (by omega) (by omega)) (by rfl) (by rfl) (by rfl) (by rfl) ⟨rfl, rfl, rfl, trivial⟩ (by rfl) (by rfl) (by omega) (by show 18 ≤ 20; omega) (by omega) (by omega) rfl rfl ?_
  refine jT_xaload_n (v := (4, 0)) (pcN := 37) jIH_114_36 rfl rfl rfl ?_
  refine jT_xaload_n (v := (4, 0)) (pcN := 38) jIH_114_37 rfl rfl rfl ?_
  refine jT_xgetf (a := 0) (t := 1) (ci := 13) (fi := 11) (c := jzH_5) (v := (4, 11)) (pcN := 41) jIH_114_38 rfl rfl rfl rfl rfl rfl rfl ?_
  refine jT_xiload_n (v := (0, x1)) (pcN := 42) jIH_114_41 rfl rfl rfl ?_
  refine jT_xaload (v := (4, 19)) (pcN := 44) jIH_114_42 rfl rfl rfl ?_
  refine jT_callA [11, 19, 12, 13, 14, 15, 16, 18, 17] (y := 58) (pcN := 47) (dC := 1) (bc1 := 2) (bc2 := 13) (c1 := 0) (c2 := 0) (as := [(4, 11), (0, x1), (4, 19)]) (asC := [(4, 0), (0, x1), (4, 1)]) (LN := [(4, (4, 19)), (0, (4, 0)), (1, (0, x1)), (2, (0, x2)), (3, (0, x3))]) (stN := [(4, 0)]) (hsC := jpH_281) (ex := [jgh, jzH_279]) (v := (4, 10)) (st2 := [(4, 21), (4, 0)]) (hs2 := [jzH_5, jgh, jgh, jgh, jgh, jgh, jgh, jgh, jgh, jgh, jzH_286, jzH_288, jzH_289, jgh, jgh, jgh, jgh, jgh, (101, [], [q1 - q2, q3 - q4, q5 - q6, q7 - q8, -q10 + q9, q11 - q12]), (4, [(4, 18), (1, 1)], []), jgh, jzH_296]) (jH_58_71 (d := 0) (by omega)) (by rfl) (by rfl) (by rfl) (by rfl) ⟨rfl, rfl, rfl, rfl, rfl, rfl, rfl, rfl, rfl, trivial⟩ (by rfl) (by rfl) (by omega) (by show 18 ≤ 20; omega) (by omega) (by omega) rfl rfl ?_
  refine jT_callB [0, 21, 1, 2, 3, 4, 5, 6, 7, 8, 9, 10, 11, 12, 13, 14, 15, 16] (y := 100) (pcN := 50) (dC := 0) (bc1 := 0) (bc2 := 0) (c1 := 0) (c2 := 0) (as := [(4, 0), (4, 21)]) (asC := [(4, 0), (4, 1)]) (LN := [(4, (4, 19)), (0, (4, 0)), (1, (0, x1)), (2, (0, x2)), (3, (0, x3))]) (stN := []) (hsC := jpH_287) (hsD := jpH_285) (v := (9, 0)) (st2 := []) (hs2 := [jzH_297, jgh, jgh, jgh, jgh, jgh, jgh, jgh, jgh, jgh, jzH_298, jzH_288, jzH_289, jgh, jgh, jgh, jgh, jgh, (101, [], [q1 - q2, q3 - q4, q5 - q6, q7 - q8, -q10 + q9, q11 - q12]), (4, [(4, 18), (1, 1)], []), jgh, jzH_296]) (jH_100_72 (d := 0)) (by rfl) (by rfl) (by rfl) (by rfl) ⟨rfl, rfl, rfl, rfl, rfl, rfl, rfl, rfl, rfl, rfl, rfl, rfl, rfl, rfl, rfl, rfl, rfl, rfl, trivial⟩ (by rfl) (by rfl) (by omega) (by show 18 ≤ 22; omega) (by omega) (by omega) rfl rfl ?_
  refine jT_xiload_n (v := (0, x2)) (pcN := 51) jIH_114_50 rfl rfl rfl ?_
  refine jT_xiload_n (v := (0, x3)) (pcN := 52) jIH_114_51 rfl rfl rfl ?_
  refine jT_icF (a := x2) (b := x3) (t := 59) (by rfl) (by rfl) (by rfl) (jw_idd (by omega) (by omega)) (jw_idd (by omega) (by omega)) (by simp only [jcP] <;> omega) ?_
  refine jT_xiconst (k := 1) (pcN := 56) jIH_114_55 rfl ?_
  refine jT_xgoto (pcN := 60) jIH_114_56 rfl ?_
  subst hq_q12
  subst hq_q11
  subst hq_q10
  subst hq_q9
  subst hq_q8
  subst hq_q7
  subst hq_q6
  subst hq_q5
  subst hq_q4
  subst hq_q3
  subst hq_q2
  subst hq_q1
  exact jT_ret rfl (by decide) (by show 18 ≤ 22; omega) (by omega) (by omega) ⟨rfl, rfl, rfl⟩
def jzH_304 : JC := (13, [(4, 2), (4, 3), (4, 4), (4, 5), (4, 6), (4, 7), (4, 8), (4, 9), (4, 10), (4, 11), (0, 1), (4, 22), (0, 0)], [])
def jzH_305 : JC := (114, [], [18, 18, 18, 18, 18, 18, 18, 18])
def jzH_306 : JC := (9, [(4, 21), (4, 14), (4, 15), (4, 16), (4, 17)], [])
theorem jIH_326_10 : jmI (jm 326) 10 = (.ifCond .eq 7, 3) := by rfl
theorem jIH_326_13 : jmI (jm 326) 13 = (.lconst 1, 1) := by rfl
theorem jIH_326_14 : jmI (jm 326) 14 = (.goto 4, 3) := by rfl
theorem jIH_326_19 : jmI (jm 326) 19 = (.goto 15, 3) := by rfl
theorem jIH_326_34 : jmI (jm 326) 34 = (.iconst 0, 1) := by rfl
def jpH_312 : List JC := [jzH_13, (101, [], [0]), jgh, jgh, jgh, jgh, jgh, jgh, jgh, jgh, jgh, jzH_286, jzH_284, jzH_305, jgh, jgh, jgh, jgh, jgh]
theorem jH_326_75 {xs : List Int} {d : Nat} {x1 x2 x3 : Int} (h_x1 : 0 ≤ x1 ∧ x1 ≤ 7) (h_x2 : 1 ≤ x2 ∧ x2 ≤ 1000000) (h_x3 : 1 ≤ x3 ∧ x3 ≤ 1000000) (g_0 : (jsu 13 20 (jsu 11 20 (jsu 7 20 (jsu 5 20 (jsu 3 20 (jsu 2 20 (x2.tdiv (((Nat.gcd (x2).natAbs (x3).natAbs : Nat) : Int))))))))) - 2 < 0) (g_1 : (jsu 13 20 (jsu 11 20 (jsu 7 20 (jsu 5 20 (jsu 3 20 (jsu 2 20 (x3.tdiv (((Nat.gcd (x2).natAbs (x3).natAbs : Nat) : Int))))))))) - 2 < 0) (g_2 : 0 ≤ x2 - x3 - 1) : jT xs (d + 4) 326 19 0 [(0, (4, 0)), (1, (0, x1)), (2, (0, x2)), (3, (0, x3)), (4, (4, 1))] [] jpH_312 4 21 (fun k v hsN => k = 0 ∧ v = (0, 0) ∧ hsN = [jzH_304, (101, [], [1]), jgh, jgh, jgh, jgh, jgh, jgh, jgh, jgh, jgh, jzH_283, jzH_284, jzH_305, jgh, jgh, jgh, jgh, jgh, (101, [], [(jsc 2 20 (x2.tdiv (((Nat.gcd (x2).natAbs (x3).natAbs : Nat) : Int)))) - (jsc 2 20 (x3.tdiv (((Nat.gcd (x2).natAbs (x3).natAbs : Nat) : Int)))), (jsc 3 20 (jsu 2 20 (x2.tdiv (((Nat.gcd (x2).natAbs (x3).natAbs : Nat) : Int))))) - (jsc 3 20 (jsu 2 20 (x3.tdiv (((Nat.gcd (x2).natAbs (x3).natAbs : Nat) : Int))))), (jsc 5 20 (jsu 3 20 (jsu 2 20 (x2.tdiv (((Nat.gcd (x2).natAbs (x3).natAbs : Nat) : Int)))))) - (jsc 5 20 (jsu 3 20 (jsu 2 20 (x3.tdiv (((Nat.gcd (x2).natAbs (x3).natAbs : Nat) : Int)))))), (jsc 7 20 (jsu 5 20 (jsu 3 20 (jsu 2 20 (x2.tdiv (((Nat.gcd (x2).natAbs (x3).natAbs : Nat) : Int))))))) - (jsc 7 20 (jsu 5 20 (jsu 3 20 (jsu 2 20 (x3.tdiv (((Nat.gcd (x2).natAbs (x3).natAbs : Nat) : Int))))))), -(jsc 11 20 (jsu 7 20 (jsu 5 20 (jsu 3 20 (jsu 2 20 (x3.tdiv (((Nat.gcd (x2).natAbs (x3).natAbs : Nat) : Int)))))))) + (jsc 11 20 (jsu 7 20 (jsu 5 20 (jsu 3 20 (jsu 2 20 (x2.tdiv (((Nat.gcd (x2).natAbs (x3).natAbs : Nat) : Int)))))))), (jsc 13 20 (jsu 11 20 (jsu 7 20 (jsu 5 20 (jsu 3 20 (jsu 2 20 (x2.tdiv (((Nat.gcd (x2).natAbs (x3).natAbs : Nat) : Int))))))))) - (jsc 13 20 (jsu 11 20 (jsu 7 20 (jsu 5 20 (jsu 3 20 (jsu 2 20 (x3.tdiv (((Nat.gcd (x2).natAbs (x3).natAbs : Nat) : Int)))))))))]), (4, [(4, 19), (1, 1)], []), jgh, jzH_306]) := by
  refine jT_xaload (v := (4, 1)) (pcN := 2) jIH_326_0 rfl rfl rfl ?_
  refine jT_xiconst (k := 0) (pcN := 3) jIH_326_2 rfl ?_
  refine jT_xaload_n (v := (4, 0)) (pcN := 4) jIH_326_3 rfl rfl rfl ?_
  refine jT_xiload_n (v := (0, x1)) (pcN := 5) jIH_326_4 rfl rfl rfl ?_
  refine jT_xiload_n (v := (0, x2)) (pcN := 6) jIH_326_5 rfl rfl rfl ?_
  refine jT_xiload_n (v := (0, x3)) (pcN := 7) jIH_326_6 rfl rfl rfl ?_
  refine jT_fB [0, 2, 3, 4, 5, 6, 7, 8, 9, 10, 11, 12, 13, 14, 15, 16, 17, 18] 19 (y := 114) (pcN := 10) (dC := 3) (bc1 := 4) (bc2 := 21) (c1 := 0) (c2 := 0) (as := [(4, 0), (0, x1), (0, x2), (0, x3)]) (asC := [(4, 0), (0, x1), (0, x2), (0, x3)]) (LN := [(0, (4, 0)), (1, (0, x1)), (2, (0, x2)), (3, (0, x3)), (4, (4, 1))]) (stN := [(0, 0), (4, 1)]) (hsC := jpH_290) (hsD := [jzH_297, jgh, jgh, jgh, jgh, jgh, jgh, jgh, jgh, jgh, jzH_298, jzH_288, jzH_289, jgh, jgh, jgh, jgh, jgh, (101, [], [(jsc 2 20 (x2.tdiv (((Nat.gcd (x2).natAbs (x3).natAbs : Nat) : Int)))) - (jsc 2 20 (x3.tdiv (((Nat.gcd (x2).natAbs (x3).natAbs : Nat) : Int)))), (jsc 3 20 (jsu 2 20 (x2.tdiv (((Nat.gcd (x2).natAbs (x3).natAbs : Nat) : Int))))) - (jsc 3 20 (jsu 2 20 (x3.tdiv (((Nat.gcd (x2).natAbs (x3).natAbs : Nat) : Int))))), (jsc 5 20 (jsu 3 20 (jsu 2 20 (x2.tdiv (((Nat.gcd (x2).natAbs (x3).natAbs : Nat) : Int)))))) - (jsc 5 20 (jsu 3 20 (jsu 2 20 (x3.tdiv (((Nat.gcd (x2).natAbs (x3).natAbs : Nat) : Int)))))), (jsc 7 20 (jsu 5 20 (jsu 3 20 (jsu 2 20 (x2.tdiv (((Nat.gcd (x2).natAbs (x3).natAbs : Nat) : Int))))))) - (jsc 7 20 (jsu 5 20 (jsu 3 20 (jsu 2 20 (x3.tdiv (((Nat.gcd (x2).natAbs (x3).natAbs : Nat) : Int))))))), -(jsc 11 20 (jsu 7 20 (jsu 5 20 (jsu 3 20 (jsu 2 20 (x3.tdiv (((Nat.gcd (x2).natAbs (x3).natAbs : Nat) : Int)))))))) + (jsc 11 20 (jsu 7 20 (jsu 5 20 (jsu 3 20 (jsu 2 20 (x2.tdiv (((Nat.gcd (x2).natAbs (x3).natAbs : Nat) : Int)))))))), (jsc 13 20 (jsu 11 20 (jsu 7 20 (jsu 5 20 (jsu 3 20 (jsu 2 20 (x2.tdiv (((Nat.gcd (x2).natAbs (x3).natAbs : Nat) : Int))))))))) - (jsc 13 20 (jsu 11 20 (jsu 7 20 (jsu 5 20 (jsu 3 20 (jsu 2 20 (x3.tdiv (((Nat.gcd (x2).natAbs (x3).natAbs : Nat) : Int)))))))))]), (4, [(4, 18), (1, 1)], []), jgh, jzH_296]) (v := (0, 1)) (st2 := [(0, 1), (0, 0), (4, 1)]) (hs2 := [jzH_304, (101, [], [0]), jgh, jgh, jgh, jgh, jgh, jgh, jgh, jgh, jgh, jzH_283, jzH_284, jzH_305, jgh, jgh, jgh, jgh, jgh, (101, [], [(jsc 2 20 (x2.tdiv (((Nat.gcd (x2).natAbs (x3).natAbs : Nat) : Int)))) - (jsc 2 20 (x3.tdiv (((Nat.gcd (x2).natAbs (x3).natAbs : Nat) : Int)))), (jsc 3 20 (jsu 2 20 (x2.tdiv (((Nat.gcd (x2).natAbs (x3).natAbs : Nat) : Int))))) - (jsc 3 20 (jsu 2 20 (x3.tdiv (((Nat.gcd (x2).natAbs (x3).natAbs : Nat) : Int))))), (jsc 5 20 (jsu 3 20 (jsu 2 20 (x2.tdiv (((Nat.gcd (x2).natAbs (x3).natAbs : Nat) : Int)))))) - (jsc 5 20 (jsu 3 20 (jsu 2 20 (x3.tdiv (((Nat.gcd (x2).natAbs (x3).natAbs : Nat) : Int)))))), (jsc 7 20 (jsu 5 20 (jsu 3 20 (jsu 2 20 (x2.tdiv (((Nat.gcd (x2).natAbs (x3).natAbs : Nat) : Int))))))) - (jsc 7 20 (jsu 5 20 (jsu 3 20 (jsu 2 20 (x3.tdiv (((Nat.gcd (x2).natAbs (x3).natAbs : Nat) : Int))))))), -(jsc 11 20 (jsu 7 20 (jsu 5 20 (jsu 3 20 (jsu 2 20 (x3.tdiv (((Nat.gcd (x2).natAbs (x3).natAbs : Nat) : Int)))))))) + (jsc 11 20 (jsu 7 20 (jsu 5 20 (jsu 3 20 (jsu 2 20 (x2.tdiv (((Nat.gcd (x2).natAbs (x3).natAbs : Nat) : Int)))))))), (jsc 13 20 (jsu 11 20 (jsu 7 20 (jsu 5 20 (jsu 3 20 (jsu 2 20 (x2.tdiv (((Nat.gcd (x2).natAbs (x3).natAbs : Nat) : Int))))))))) - (jsc 13 20 (jsu 11 20 (jsu 7 20 (jsu 5 20 (jsu 3 20 (jsu 2 20 (x3.tdiv (((Nat.gcd (x2).natAbs (x3).natAbs : Nat) : Int)))))))))]), (4, [(4, 19), (1, 1)], []), jgh, jzH_306]) (jH_114_74 (d := 0) (by omega) (by omega) (by omega) (by omega) (by omega) (by omega)) (by rfl) (by rfl) (by decide +kernel) (by rfl) (by rfl) (by omega) (by omega) (by omega) (by omega) rfl rfl ?_
  have hb_q1 := jsc_b (P := 2) (n := 20) (u := (x2.tdiv (((Nat.gcd (x2).natAbs (x3).natAbs : Nat) : Int))))
  have hb_q1 : 0 ≤ jsc 2 20 (x2.tdiv (((Nat.gcd (x2).natAbs (x3).natAbs : Nat) : Int))) ∧ jsc 2 20 (x2.tdiv (((Nat.gcd (x2).natAbs (x3).natAbs : Nat) : Int))) ≤ 20 := ⟨hb_q1.1, by omega⟩
  generalize hq_q1 : jsc 2 20 (x2.tdiv (((Nat.gcd (x2).natAbs (x3).natAbs : Nat) : Int))) = q1 at hb_q1 ⊢
  have hb_q2 := jsc_b (P := 2) (n := 20) (u := (x3.tdiv (((Nat.gcd (x2).natAbs (x3).natAbs : Nat) : Int))))
  have hb_q2 : 0 ≤ jsc 2 20 (x3.tdiv (((Nat.gcd (x2).natAbs (x3).natAbs : Nat) : Int))) ∧ jsc 2 20 (x3.tdiv (((Nat.gcd (x2).natAbs (x3).natAbs : Nat) : Int))) ≤ 20 := ⟨hb_q2.1, by omega⟩
  generalize hq_q2 : jsc 2 20 (x3.tdiv (((Nat.gcd (x2).natAbs (x3).natAbs : Nat) : Int))) = q2 at hb_q2 ⊢
  have hb_q3 := jsc_b (P := 3) (n := 20) (u := (jsu 2 20 (x2.tdiv (((Nat.gcd (x2).natAbs (x3).natAbs : Nat) : Int)))))
  have hb_q3 : 0 ≤ jsc 3 20 (jsu 2 20 (x2.tdiv (((Nat.gcd (x2).natAbs (x3).natAbs : Nat) : Int)))) ∧ jsc 3 20 (jsu 2 20 (x2.tdiv (((Nat.gcd (x2).natAbs (x3).natAbs : Nat) : Int)))) ≤ 20 := ⟨hb_q3.1, by omega⟩
  generalize hq_q3 : jsc 3 20 (jsu 2 20 (x2.tdiv (((Nat.gcd (x2).natAbs (x3).natAbs : Nat) : Int)))) = q3 at hb_q3 ⊢
  have hb_q4 := jsc_b (P := 3) (n := 20) (u := (jsu 2 20 (x3.tdiv (((Nat.gcd (x2).natAbs (x3).natAbs : Nat) : Int)))))
  have hb_q4 : 0 ≤ jsc 3 20 (jsu 2 20 (x3.tdiv (((Nat.gcd (x2).natAbs (x3).natAbs : Nat) : Int)))) ∧ jsc 3 20 (jsu 2 20 (x3.tdiv (((Nat.gcd (x2).natAbs (x3).natAbs : Nat) : Int)))) ≤ 20 := ⟨hb_q4.1, by omega⟩
  generalize hq_q4 : jsc 3 20 (jsu 2 20 (x3.tdiv (((Nat.gcd (x2).natAbs (x3).natAbs : Nat) : Int)))) = q4 at hb_q4 ⊢
  have hb_q5 := jsc_b (P := 5) (n := 20) (u := (jsu 3 20 (jsu 2 20 (x2.tdiv (((Nat.gcd (x2).natAbs (x3).natAbs : Nat) : Int))))))
  have hb_q5 : 0 ≤ jsc 5 20 (jsu 3 20 (jsu 2 20 (x2.tdiv (((Nat.gcd (x2).natAbs (x3).natAbs : Nat) : Int))))) ∧ jsc 5 20 (jsu 3 20 (jsu 2 20 (x2.tdiv (((Nat.gcd (x2).natAbs (x3).natAbs : Nat) : Int))))) ≤ 20 := ⟨hb_q5.1, by omega⟩
  generalize hq_q5 : jsc 5 20 (jsu 3 20 (jsu 2 20 (x2.tdiv (((Nat.gcd (x2).natAbs (x3).natAbs : Nat) : Int))))) = q5 at hb_q5 ⊢
  have hb_q6 := jsc_b (P := 5) (n := 20) (u := (jsu 3 20 (jsu 2 20 (x3.tdiv (((Nat.gcd (x2).natAbs (x3).natAbs : Nat) : Int))))))
  have hb_q6 : 0 ≤ jsc 5 20 (jsu 3 20 (jsu 2 20 (x3.tdiv (((Nat.gcd (x2).natAbs (x3).natAbs : Nat) : Int))))) ∧ jsc 5 20 (jsu 3 20 (jsu 2 20 (x3.tdiv (((Nat.gcd (x2).natAbs (x3).natAbs : Nat) : Int))))) ≤ 20 := ⟨hb_q6.1, by omega⟩
  generalize hq_q6 : jsc 5 20 (jsu 3 20 (jsu 2 20 (x3.tdiv (((Nat.gcd (x2).natAbs (x3).natAbs : Nat) : Int))))) = q6 at hb_q6 ⊢
  have hb_q7 := jsc_b (P := 7) (n := 20) (u := (jsu 5 20 (jsu 3 20 (jsu 2 20 (x2.tdiv (((Nat.gcd (x2).natAbs (x3).natAbs : Nat) : Int)))))))
  have hb_q7 : 0 ≤ jsc 7 20 (jsu 5 20 (jsu 3 20 (jsu 2 20 (x2.tdiv (((Nat.gcd (x2).natAbs (x3).natAbs : Nat) : Int)))))) ∧ jsc 7 20 (jsu 5 20 (jsu 3 20 (jsu 2 20 (x2.tdiv (((Nat.gcd (x2).natAbs (x3).natAbs : Nat) : Int)))))) ≤ 20 := ⟨hb_q7.1, by omega⟩
  generalize hq_q7 : jsc 7 20 (jsu 5 20 (jsu 3 20 (jsu 2 20 (x2.tdiv (((Nat.gcd (x2).natAbs (x3).natAbs : Nat) : Int)))))) = q7 at hb_q7 ⊢
  have hb_q8 := jsc_b (P := 7) (n := 20) (u := (jsu 5 20 (jsu 3 20 (jsu 2 20 (x3.tdiv (((Nat.gcd (x2).natAbs (x3).natAbs : Nat) : Int)))))))
  have hb_q8 : 0 ≤ jsc 7 20 (jsu 5 20 (jsu 3 20 (jsu 2 20 (x3.tdiv (((Nat.gcd (x2).natAbs (x3).natAbs : Nat) : Int)))))) ∧ jsc 7 20 (jsu 5 20 (jsu 3 20 (jsu 2 20 (x3.tdiv (((Nat.gcd (x2).natAbs (x3).natAbs : Nat) : Int)))))) ≤ 20 := ⟨hb_q8.1, by omega⟩
  generalize hq_q8 : jsc 7 20 (jsu 5 20 (jsu 3 20 (jsu 2 20 (x3.tdiv (((Nat.gcd (x2).natAbs (x3).natAbs : Nat) : Int)))))) = q8 at hb_q8 ⊢
  have hb_q9 := jsc_b (P := 11) (n := 20) (u := (jsu 7 20 (jsu 5 20 (jsu 3 20 (jsu 2 20 (x2.tdiv (((Nat.gcd (x2).natAbs (x3).natAbs : Nat) : Int))))))))
  have hb_q9 : 0 ≤ jsc 11 20 (jsu 7 20 (jsu 5 20 (jsu 3 20 (jsu 2 20 (x2.tdiv (((Nat.gcd (x2).natAbs (x3).natAbs : Nat) : Int))))))) ∧ jsc 11 20 (jsu 7 20 (jsu 5 20 (jsu 3 20 (jsu 2 20 (x2.tdiv (((Nat.gcd (x2).natAbs (x3).natAbs : Nat) : Int))))))) ≤ 20 := ⟨hb_q9.1, by omega⟩
  generalize hq_q9 : jsc 11 20 (jsu 7 20 (jsu 5 20 (jsu 3 20 (jsu 2 20 (x2.tdiv (((Nat.gcd (x2).natAbs (x3).natAbs : Nat) : Int))))))) = q9 at hb_q9 ⊢
  have hb_q10 := jsc_b (P := 11) (n := 20) (u := (jsu 7 20 (jsu 5 20 (jsu 3 20 (jsu 2 20 (x3.tdiv (((Nat.gcd (x2).natAbs (x3).natAbs : Nat) : Int))))))))
  have hb_q10 : 0 ≤ jsc 11 20 (jsu 7 20 (jsu 5 20 (jsu 3 20 (jsu 2 20 (x3.tdiv (((Nat.gcd (x2).natAbs (x3).natAbs : Nat) : Int))))))) ∧ jsc 11 20 (jsu 7 20 (jsu 5 20 (jsu 3 20 (jsu 2 20 (x3.tdiv (((Nat.gcd (x2).natAbs (x3).natAbs : Nat) : Int))))))) ≤ 20 := ⟨hb_q10.1, by omega⟩
  generalize hq_q10 : jsc 11 20 (jsu 7 20 (jsu 5 20 (jsu 3 20 (jsu 2 20 (x3.tdiv (((Nat.gcd (x2).natAbs (x3).natAbs : Nat) : Int))))))) = q10 at hb_q10 ⊢
  have hb_q11 := jsc_b (P := 13) (n := 20) (u := (jsu 11 20 (jsu 7 20 (jsu 5 20 (jsu 3 20 (jsu 2 20 (x2.tdiv (((Nat.gcd (x2).natAbs (x3).natAbs : Nat) : Int)))))))))
  have hb_q11 : 0 ≤ jsc 13 20 (jsu 11 20 (jsu 7 20 (jsu 5 20 (jsu 3 20 (jsu 2 20 (x2.tdiv (((Nat.gcd (x2).natAbs (x3).natAbs : Nat) : Int)))))))) ∧ jsc 13 20 (jsu 11 20 (jsu 7 20 (jsu 5 20 (jsu 3 20 (jsu 2 20 (x2.tdiv (((Nat.gcd (x2).natAbs (x3).natAbs : Nat) : Int)))))))) ≤ 20 := ⟨hb_q11.1, by omega⟩
  generalize hq_q11 : jsc 13 20 (jsu 11 20 (jsu 7 20 (jsu 5 20 (jsu 3 20 (jsu 2 20 (x2.tdiv (((Nat.gcd (x2).natAbs (x3).natAbs : Nat) : Int)))))))) = q11 at hb_q11 ⊢
  have hb_q12 := jsc_b (P := 13) (n := 20) (u := (jsu 11 20 (jsu 7 20 (jsu 5 20 (jsu 3 20 (jsu 2 20 (x3.tdiv (((Nat.gcd (x2).natAbs (x3).natAbs : Nat) : Int)))))))))
  have hb_q12 : 0 ≤ jsc 13 20 (jsu 11 20 (jsu 7 20 (jsu 5 20 (jsu 3 20 (jsu 2 20 (x3.tdiv (((Nat.gcd (x2).natAbs (x3).natAbs : Nat) : Int)))))))) ∧ jsc 13 20 (jsu 11 20 (jsu 7 20 (jsu 5 20 (jsu 3 20 (jsu 2 20 (x3.tdiv (((Nat.gcd (x2).natAbs (x3).natAbs : Nat) : Int)))))))) ≤ 20 := ⟨hb_q12.1, by omega⟩
  generalize hq_q12 : jsc 13 20 (jsu 11 20 (jsu 7 20 (jsu 5 20 (jsu 3 20 (jsu 2 20 (x3.tdiv (((Nat.gcd (x2).natAbs (x3).natAbs : Nat) : Int)))))))) = q12 at hb_q12 ⊢
  refine jT_eq (LN := [(0, (4, 0)), (1, (0, x1)), (2, (0, x2)), (3, (0, x3)), (4, (4, 1))]) (stN := [(0, 1), (0, 0), (4, 1)]) (hsN := [jzH_304, (101, [], [0]), jgh, jgh, jgh, jgh, jgh, jgh, jgh, jgh, jgh, jzH_283, jzH_284, jzH_305, jgh, jgh, jgh, jgh, jgh, (101, [], [q1 - q2, q3 - q4, q5 - q6, q7 - q8, -q10 + q9, q11 - q12]), (4, [(4, 19), (1, 1)], []), jgh, jzH_306]) (rfl) (rfl) (by simp only [List.cons.injEq, Prod.mk.injEq, and_true, true_and] <;> ((try unfold jw); (try unfold jwl); omega)) ?_
  refine jT_xifF (t := 17) (pcN := 13) jIH_326_10 rfl (by decide +kernel) rfl rfl ?_
  refine jT_xlconst (z := 1) (pcN := 14) jIH_326_13 rfl rfl ?_
  refine jT_xgoto (pcN := 18) jIH_326_14 rfl ?_
  refine jT_adv 1 (pcN := 19) (LN := [(0, (4, 0)), (1, (0, x1)), (2, (0, x2)), (3, (0, x3)), (4, (4, 1))]) (stN := []) (hsN := [jzH_304, (101, [], [1]), jgh, jgh, jgh, jgh, jgh, jgh, jgh, jgh, jgh, jzH_283, jzH_284, jzH_305, jgh, jgh, jgh, jgh, jgh, (101, [], [q1 - q2, q3 - q4, q5 - q6, q7 - q8, -q10 + q9, q11 - q12]), (4, [(4, 19), (1, 1)], []), jgh, jzH_306]) (c1 := 0) (s1 := 0) (c2 := 0) (s2 := 0) (by exact rfl) ?_ (by omega) (by omega)
  refine jT_xgoto (pcN := 34) jIH_326_19 rfl ?_
  refine jT_xiconst (k := 0) (pcN := 35) jIH_326_34 rfl ?_
  subst hq_q12
  subst hq_q11
  subst hq_q10
  subst hq_q9
  subst hq_q8
  subst hq_q7
  subst hq_q6
  subst hq_q5
  subst hq_q4
  subst hq_q3
  subst hq_q2
  subst hq_q1
  exact jT_ret rfl (by decide) (by show 19 ≤ 23; omega) (by omega) (by omega) ⟨rfl, rfl, rfl⟩
theorem jIH_192_125 : jmI (jm 192) 125 = (.iconst 1, 1) := by rfl
theorem jIH_192_126 : jmI (jm 192) 126 = (.goto 4, 3) := by rfl
theorem jH_192_76 {xs : List Int} {d : Nat} {x2 x3 : Int} (h_x2 : 1 ≤ x2 ∧ x2 ≤ 1000000) (h_x3 : 1 ≤ x3 ∧ x3 ≤ 1000000) (g_0 : (jsu 13 20 (jsu 11 20 (jsu 7 20 (jsu 5 20 (jsu 3 20 (jsu 2 20 (x2.tdiv (((Nat.gcd (x2).natAbs (x3).natAbs : Nat) : Int))))))))) - 2 < 0) (g_1 : (jsu 13 20 (jsu 11 20 (jsu 7 20 (jsu 5 20 (jsu 3 20 (jsu 2 20 (x3.tdiv (((Nat.gcd (x2).natAbs (x3).natAbs : Nat) : Int))))))))) - 2 < 0) (g_2 : 0 ≤ x2 - x3 - 1) : jT xs (d + 42) 192 16 0 [(0, (4, 0)), (1, (0, x2)), (2, (0, x3))] [] jpH_134 0 0 (fun k v hsN => k = 0 ∧ v = (0, 1) ∧ hsN = [jzH_20, jgh, jgh, jgh, jgh, jgh, jgh, (101, [], [(jsc 2 20 (x2.tdiv (((Nat.gcd (x2).natAbs (x3).natAbs : Nat) : Int)))) - (jsc 2 20 (x3.tdiv (((Nat.gcd (x2).natAbs (x3).natAbs : Nat) : Int)))), -(jsc 3 20 (jsu 2 20 (x3.tdiv (((Nat.gcd (x2).natAbs (x3).natAbs : Nat) : Int))))) + (jsc 3 20 (jsu 2 20 (x2.tdiv (((Nat.gcd (x2).natAbs (x3).natAbs : Nat) : Int))))), (jsc 5 20 (jsu 3 20 (jsu 2 20 (x2.tdiv (((Nat.gcd (x2).natAbs (x3).natAbs : Nat) : Int)))))) - (jsc 5 20 (jsu 3 20 (jsu 2 20 (x3.tdiv (((Nat.gcd (x2).natAbs (x3).natAbs : Nat) : Int)))))), (jsc 7 20 (jsu 5 20 (jsu 3 20 (jsu 2 20 (x2.tdiv (((Nat.gcd (x2).natAbs (x3).natAbs : Nat) : Int))))))) - (jsc 7 20 (jsu 5 20 (jsu 3 20 (jsu 2 20 (x3.tdiv (((Nat.gcd (x2).natAbs (x3).natAbs : Nat) : Int))))))), (jsc 11 20 (jsu 7 20 (jsu 5 20 (jsu 3 20 (jsu 2 20 (x2.tdiv (((Nat.gcd (x2).natAbs (x3).natAbs : Nat) : Int)))))))) - (jsc 11 20 (jsu 7 20 (jsu 5 20 (jsu 3 20 (jsu 2 20 (x3.tdiv (((Nat.gcd (x2).natAbs (x3).natAbs : Nat) : Int)))))))), (jsc 13 20 (jsu 11 20 (jsu 7 20 (jsu 5 20 (jsu 3 20 (jsu 2 20 (x2.tdiv (((Nat.gcd (x2).natAbs (x3).natAbs : Nat) : Int))))))))) - (jsc 13 20 (jsu 11 20 (jsu 7 20 (jsu 5 20 (jsu 3 20 (jsu 2 20 (x3.tdiv (((Nat.gcd (x2).natAbs (x3).natAbs : Nat) : Int)))))))))]), jgh, jgh, jgh, jgh, jgh, jgh, jgh, jgh]) := by
  refine jT_xaload_n (v := (4, 0)) (pcN := 1) jIH_192_0 rfl rfl rfl ?_
  refine jT_fR [0, 1, 2, 3, 4, 5, 6, 7, 8, 9, 10, 11, 12, 13, 14, 15] 16 (y := 193) (pcN := 4) (dC := 0) (bc1 := 0) (bc2 := 0) (c1 := 0) (c2 := 0) (as := [(4, 0)]) (asC := [(4, 0)]) (LN := [(0, (4, 0)), (1, (0, x2)), (2, (0, x3))]) (stN := []) (hsC := jpH_134) (v := (9, 0)) (st2 := []) (jH_193_42 (d := 0)) (by rfl) (by rfl) (by decide +kernel) (by rfl) (by rfl) (by omega) (by omega) (by omega) (by omega) rfl ?_
  refine jT_xiload_n (v := (0, x2)) (pcN := 5) jIH_192_4 rfl rfl rfl ?_
  refine jT_xi2l (x := x2) (z := x2) (pcN := 6) jIH_192_5 rfl (jw_idd (by omega) (by omega)) rfl ?_
  refine jT_xiload_n (v := (0, x3)) (pcN := 7) jIH_192_6 rfl rfl rfl ?_
  refine jT_xi2l (x := x3) (z := x3) (pcN := 8) jIH_192_7 rfl (jw_idd (by omega) (by omega)) rfl ?_
  refine jT_fR [] 16 (y := 194) (pcN := 11) (dC := 41) (bc1 := 0) (bc2 := 0) (c1 := 0) (c2 := 0) (as := [(1, x2), (1, x3)]) (asC := [(1, x2), (1, x3)]) (LN := [(0, (4, 0)), (1, (0, x2)), (2, (0, x3))]) (stN := []) (hsC := []) (v := (1, ((Nat.gcd (x2).natAbs (x3).natAbs : Nat) : Int))) (st2 := [(1, ((Nat.gcd (x2).natAbs (x3).natAbs : Nat) : Int))]) (jT_gcd 20 0 (x2) (x3) (by omega) (by omega) (show (x3).natAbs < 1048576 by omega)) (by rfl) (by rfl) (by decide +kernel) (by rfl) (by rfl) (by omega) (by omega) (by omega) (by omega) rfl ?_
  have hb_q1 := jgcd_l (x := x2) (y := x3) (by omega)
  have hb_q1 : 1 ≤ ((Nat.gcd (x2).natAbs (x3).natAbs : Nat) : Int) ∧ ((Nat.gcd (x2).natAbs (x3).natAbs : Nat) : Int) ≤ 1000000 := ⟨hb_q1.1, by omega⟩
  generalize hq_q1 : ((Nat.gcd (x2).natAbs (x3).natAbs : Nat) : Int) = q1 at hb_q1 g_0 g_1 ⊢
  refine jT_xl2i (pcN := 12) jIH_192_11 rfl rfl ?_
  refine jT_xistore_n (v := (0, q1)) (LN := [(3, (0, q1)), (0, (4, 0)), (1, (0, x2)), (2, (0, x3))]) (pcN := 13) jIH_192_12 rfl rfl rfl rfl ?_
  refine jT_xiload_n (v := (0, x2)) (pcN := 14) jIH_192_13 rfl rfl rfl ?_
  refine jT_xiload_n (v := (0, q1)) (pcN := 15) jIH_192_14 rfl rfl rfl ?_
  refine jT_idiv (a := x2) (b := q1) (by rfl) (by rfl) (jw_idd (by omega) (by omega)) (jw_idd (by omega) (by omega)) (by omega) ?_
  have hb_q2 := jfr_b hq_q1 (by omega) (by omega)
  generalize hq_q2 : x2.tdiv q1 = q2 at hb_q2 g_0 ⊢
  refine jT_xistore (v := (0, q2)) (LN := [(4, (0, q2)), (3, (0, q1)), (0, (4, 0)), (1, (0, x2)), (2, (0, x3))]) (pcN := 18) jIH_192_16 rfl rfl rfl rfl ?_
  refine jT_xiload_n (v := (0, x3)) (pcN := 19) jIH_192_18 rfl rfl rfl ?_
  refine jT_xiload_n (v := (0, q1)) (pcN := 20) jIH_192_19 rfl rfl rfl ?_
  refine jT_idiv (a := x3) (b := q1) (by rfl) (by rfl) (jw_idd (by omega) (by omega)) (jw_idd (by omega) (by omega)) (by omega) ?_
  have hb_q3 := jfr_b2 hq_q1 (by omega) (by omega)
  generalize hq_q3 : x3.tdiv q1 = q3 at hb_q3 g_1 ⊢
  refine jT_xistore (v := (0, q3)) (LN := [(5, (0, q3)), (4, (0, q2)), (3, (0, q1)), (0, (4, 0)), (1, (0, x2)), (2, (0, x3))]) (pcN := 23) jIH_192_21 rfl rfl rfl rfl ?_
  refine jT_xiconst (k := 0) (pcN := 24) jIH_192_23 rfl ?_
  refine jT_xistore (v := (0, 0)) (LN := [(6, (0, 0)), (5, (0, q3)), (4, (0, q2)), (3, (0, q1)), (0, (4, 0)), (1, (0, x2)), (2, (0, x3))]) (pcN := 26) jIH_192_24 rfl rfl rfl rfl ?_
  refine jT_xiload (v := (0, 0)) (pcN := 28) jIH_192_26 rfl rfl rfl ?_
  refine jT_xbipush (k := 6) (pcN := 30) jIH_192_28 (by decide) rfl ?_
  refine jT_xicF (t := 113) (pcN := 33) jIH_192_30 rfl (by decide +kernel) rfl rfl ?_
  refine jT_loc (LN := [(4, (0, q2)), (5, (0, q3)), (0, (4, 0)), (6, (0, 0))]) (by show List.Nodup [4, 5, 0, 6]; decide) (by intro q hq; simp only [List.mem_cons, List.not_mem_nil, or_false] at hq; rcases hq with rfl | rfl | rfl | rfl <;> rfl) ?_
  refine jHl_fr_43 (y5 := q3) (e1 := 0) (e2 := 0) (e3 := 0) (e4 := 0) (e5 := 0) 20 q2 0 (by omega) (by omega) (Int.lt_of_le_of_lt (show q2 ≤ (1000000 : Int) by omega) (by decide)) ?_
  have hb_q4 := jsu_b (P := 2) (by decide) (n := 20) (u := q2) (by omega) (by omega)
  generalize hq_q4 : jsu 2 20 q2 = q4 at hb_q4 g_0 ⊢
  have hb_q5 := jsc_b (P := 2) (n := 20) (u := q2)
  have hb_q5 : 0 ≤ jsc 2 20 q2 ∧ jsc 2 20 q2 ≤ 20 := ⟨hb_q5.1, by omega⟩
  generalize hq_q5 : jsc 2 20 q2 = q5 at hb_q5 ⊢
  refine jT_eq (LN := [(4, (0, q4)), (5, (0, q3)), (0, (4, 0)), (6, (0, 0))]) (stN := []) (hsN := [jzH_20, jgh, jgh, jgh, jgh, jgh, jgh, (101, [], [q5, 0, 0, 0, 0, 0]), jgh, jgh, jgh, jgh, jgh, jgh, jgh, jgh]) (rfl) (rfl) (by simp only [List.cons.injEq, Prod.mk.injEq, and_true, true_and] <;> ((try unfold jw); (try unfold jwl); omega)) ?_
  refine jT_loc (LN := [(5, (0, q3)), (4, (0, q4)), (0, (4, 0)), (6, (0, 0))]) (by show List.Nodup [5, 4, 0, 6]; decide) (by intro q hq; simp only [List.mem_cons, List.not_mem_nil, or_false] at hq; rcases hq with rfl | rfl | rfl | rfl <;> rfl) ?_
  refine jHl_fr_44 (y4 := q4) (e1 := 0) (e2 := 0) (e3 := 0) (e4 := 0) (e5 := 0) 20 q3 q5 (by omega) (by omega) (Int.lt_of_le_of_lt (show q3 ≤ (1000000 : Int) by omega) (by decide)) ?_
  have hb_q6 := jsu_b (P := 2) (by decide) (n := 20) (u := q3) (by omega) (by omega)
  generalize hq_q6 : jsu 2 20 q3 = q6 at hb_q6 g_1 ⊢
  have hb_q7 := jsc_b (P := 2) (n := 20) (u := q3)
  have hb_q7 : 0 ≤ jsc 2 20 q3 ∧ jsc 2 20 q3 ≤ 20 := ⟨hb_q7.1, by omega⟩
  generalize hq_q7 : jsc 2 20 q3 = q7 at hb_q7 ⊢
  refine jT_xiinc (x := 0) (z := 1) (LN := [(6, (0, 1)), (5, (0, q6)), (4, (0, q4)), (0, (4, 0))]) (pcN := 110) jIH_192_107 rfl rfl (by decide) rfl rfl ?_
  refine jT_xgoto (pcN := 26) jIH_192_110 rfl ?_
  refine jT_xiload (v := (0, 1)) (pcN := 28) jIH_192_26 rfl rfl rfl ?_
  refine jT_xbipush (k := 6) (pcN := 30) jIH_192_28 (by decide) rfl ?_
  refine jT_xicF (t := 113) (pcN := 33) jIH_192_30 rfl (by decide +kernel) rfl rfl ?_
  refine jT_loc (LN := [(4, (0, q4)), (5, (0, q6)), (0, (4, 0)), (6, (0, 1))]) (by show List.Nodup [4, 5, 0, 6]; decide) (by intro q hq; simp only [List.mem_cons, List.not_mem_nil, or_false] at hq; rcases hq with rfl | rfl | rfl | rfl <;> rfl) ?_
  refine jHl_fr_45 (y5 := q6) (e0 := q5 - q7) (e2 := 0) (e3 := 0) (e4 := 0) (e5 := 0) 20 q4 0 (by omega) (by omega) (Int.lt_of_le_of_lt (show q4 ≤ (1000000 : Int) by omega) (by decide)) ?_
  have hb_q8 := jsu_b (P := 3) (by decide) (n := 20) (u := q4) (by omega) (by omega)
  generalize hq_q8 : jsu 3 20 q4 = q8 at hb_q8 g_0 ⊢
  have hb_q9 := jsc_b (P := 3) (n := 20) (u := q4)
  have hb_q9 : 0 ≤ jsc 3 20 q4 ∧ jsc 3 20 q4 ≤ 20 := ⟨hb_q9.1, by omega⟩
  generalize hq_q9 : jsc 3 20 q4 = q9 at hb_q9 ⊢
  refine jT_eq (LN := [(4, (0, q8)), (5, (0, q6)), (0, (4, 0)), (6, (0, 1))]) (stN := []) (hsN := [jzH_20, jgh, jgh, jgh, jgh, jgh, jgh, (101, [], [q5 - q7, q9, 0, 0, 0, 0]), jgh, jgh, jgh, jgh, jgh, jgh, jgh, jgh]) (rfl) (rfl) (by simp only [List.cons.injEq, Prod.mk.injEq, and_true, true_and] <;> ((try unfold jw); (try unfold jwl); omega)) ?_
  refine jT_loc (LN := [(5, (0, q6)), (4, (0, q8)), (0, (4, 0)), (6, (0, 1))]) (by show List.Nodup [5, 4, 0, 6]; decide) (by intro q hq; simp only [List.mem_cons, List.not_mem_nil, or_false] at hq; rcases hq with rfl | rfl | rfl | rfl <;> rfl) ?_
  refine jHl_fr_46 (y4 := q8) (e0 := q5 - q7) (e2 := 0) (e3 := 0) (e4 := 0) (e5 := 0) 20 q6 q9 (by omega) (by omega) (Int.lt_of_le_of_lt (show q6 ≤ (1000000 : Int) by omega) (by decide)) ?_
  have hb_q10 := jsu_b (P := 3) (by decide) (n := 20) (u := q6) (by omega) (by omega)
  generalize hq_q10 : jsu 3 20 q6 = q10 at hb_q10 g_1 ⊢
  have hb_q11 := jsc_b (P := 3) (n := 20) (u := q6)
  have hb_q11 : 0 ≤ jsc 3 20 q6 ∧ jsc 3 20 q6 ≤ 20 := ⟨hb_q11.1, by omega⟩
  generalize hq_q11 : jsc 3 20 q6 = q11 at hb_q11 ⊢
  refine jT_eq (LN := [(5, (0, q10)), (4, (0, q8)), (0, (4, 0)), (6, (0, 1))]) (stN := []) (hsN := [jzH_20, jgh, jgh, jgh, jgh, jgh, jgh, (101, [], [q5 - q7, -q11 + q9, 0, 0, 0, 0]), jgh, jgh, jgh, jgh, jgh, jgh, jgh, jgh]) (rfl) (rfl) (by simp only [List.cons.injEq, Prod.mk.injEq, and_true, true_and] <;> ((try unfold jw); (try unfold jwl); omega)) ?_
  refine jT_xiinc (x := 1) (z := 2) (LN := [(6, (0, 2)), (5, (0, q10)), (4, (0, q8)), (0, (4, 0))]) (pcN := 110) jIH_192_107 rfl rfl (by decide) rfl rfl ?_
  refine jT_xgoto (pcN := 26) jIH_192_110 rfl ?_
  refine jT_xiload (v := (0, 2)) (pcN := 28) jIH_192_26 rfl rfl rfl ?_
  refine jT_xbipush (k := 6) (pcN := 30) jIH_192_28 (by decide) rfl ?_
  refine jT_xicF (t := 113) (pcN := 33) jIH_192_30 rfl (by decide +kernel) rfl rfl ?_
  refine jT_loc (LN := [(4, (0, q8)), (5, (0, q10)), (0, (4, 0)), (6, (0, 2))]) (by show List.Nodup [4, 5, 0, 6]; decide) (by intro q hq; simp only [List.mem_cons, List.not_mem_nil, or_false] at hq; rcases hq with rfl | rfl | rfl | rfl <;> rfl) ?_
  refine jHl_fr_47 (y5 := q10) (e0 := q5 - q7) (e1 := -q11 + q9) (e3 := 0) (e4 := 0) (e5 := 0) 20 q8 0 (by omega) (by omega) (Int.lt_of_le_of_lt (show q8 ≤ (1000000 : Int) by omega) (by decide)) ?_
  have hb_q12 := jsu_b (P := 5) (by decide) (n := 20) (u := q8) (by omega) (by omega)
  generalize hq_q12 : jsu 5 20 q8 = q12 at hb_q12 g_0 ⊢
  have hb_q13 := jsc_b (P := 5) (n := 20) (u := q8)
  have hb_q13 : 0 ≤ jsc 5 20 q8 ∧ jsc 5 20 q8 ≤ 20 := ⟨hb_q13.1, by omega⟩
  generalize hq_q13 : jsc 5 20 q8 = q13 at hb_q13 ⊢
  refine jT_eq (LN := [(4, (0, q12)), (5, (0, q10)), (0, (4, 0)), (6, (0, 2))]) (stN := []) (hsN := [jzH_20, jgh, jgh, jgh, jgh, jgh, jgh, (101, [], [q5 - q7, -q11 + q9, q13, 0, 0, 0]), jgh, jgh, jgh, jgh, jgh, jgh, jgh, jgh]) (rfl) (rfl) (by simp only [List.cons.injEq, Prod.mk.injEq, and_true, true_and] <;> ((try unfold jw); (try unfold jwl); omega)) ?_
  refine jT_loc (LN := [(5, (0, q10)), (4, (0, q12)), (0, (4, 0)), (6, (0, 2))]) (by show List.Nodup [5, 4, 0, 6]; decide) (by intro q hq; simp only [List.mem_cons, List.not_mem_nil, or_false] at hq; rcases hq with rfl | rfl | rfl | rfl <;> rfl) ?_
  refine jHl_fr_48 (y4 := q12) (e0 := q5 - q7) (e1 := -q11 + q9) (e3 := 0) (e4 := 0) (e5 := 0) 20 q10 q13 (by omega) (by omega) (Int.lt_of_le_of_lt (show q10 ≤ (1000000 : Int) by omega) (by decide)) ?_
  have hb_q14 := jsu_b (P := 5) (by decide) (n := 20) (u := q10) (by omega) (by omega)
  generalize hq_q14 : jsu 5 20 q10 = q14 at hb_q14 g_1 ⊢
  have hb_q15 := jsc_b (P := 5) (n := 20) (u := q10)
  have hb_q15 : 0 ≤ jsc 5 20 q10 ∧ jsc 5 20 q10 ≤ 20 := ⟨hb_q15.1, by omega⟩
  generalize hq_q15 : jsc 5 20 q10 = q15 at hb_q15 ⊢
  refine jT_xiinc (x := 2) (z := 3) (LN := [(6, (0, 3)), (5, (0, q14)), (4, (0, q12)), (0, (4, 0))]) (pcN := 110) jIH_192_107 rfl rfl (by decide) rfl rfl ?_
  refine jT_xgoto (pcN := 26) jIH_192_110 rfl ?_
  refine jT_xiload (v := (0, 3)) (pcN := 28) jIH_192_26 rfl rfl rfl ?_
  refine jT_xbipush (k := 6) (pcN := 30) jIH_192_28 (by decide) rfl ?_
  refine jT_xicF (t := 113) (pcN := 33) jIH_192_30 rfl (by decide +kernel) rfl rfl ?_
  refine jT_loc (LN := [(4, (0, q12)), (5, (0, q14)), (0, (4, 0)), (6, (0, 3))]) (by show List.Nodup [4, 5, 0, 6]; decide) (by intro q hq; simp only [List.mem_cons, List.not_mem_nil, or_false] at hq; rcases hq with rfl | rfl | rfl | rfl <;> rfl) ?_
  refine jHl_fr_49 (y5 := q14) (e0 := q5 - q7) (e1 := -q11 + q9) (e2 := q13 - q15) (e4 := 0) (e5 := 0) 20 q12 0 (by omega) (by omega) (Int.lt_of_le_of_lt (show q12 ≤ (1000000 : Int) by omega) (by decide)) ?_
  have hb_q16 := jsu_b (P := 7) (by decide) (n := 20) (u := q12) (by omega) (by omega)
  generalize hq_q16 : jsu 7 20 q12 = q16 at hb_q16 g_0 ⊢
  have hb_q17 := jsc_b (P := 7) (n := 20) (u := q12)
  have hb_q17 : 0 ≤ jsc 7 20 q12 ∧ jsc 7 20 q12 ≤ 20 := ⟨hb_q17.1, by omega⟩
  generalize hq_q17 : jsc 7 20 q12 = q17 at hb_q17 ⊢
  refine jT_eq (LN := [(4, (0, q16)), (5, (0, q14)), (0, (4, 0)), (6, (0, 3))]) (stN := []) (hsN := [jzH_20, jgh, jgh, jgh, jgh, jgh, jgh, (101, [], [q5 - q7, -q11 + q9, q13 - q15, q17, 0, 0]), jgh, jgh, jgh, jgh, jgh, jgh, jgh, jgh]) (rfl) (rfl) (by simp only [List.cons.injEq, Prod.mk.injEq, and_true, true_and] <;> ((try unfold jw); (try unfold jwl); omega)) ?_
  refine jT_loc (LN := [(5, (0, q14)), (4, (0, q16)), (0, (4, 0)), (6, (0, 3))]) (by show List.Nodup [5, 4, 0, 6]; decide) (by intro q hq; simp only [List.mem_cons, List.not_mem_nil, or_false] at hq; rcases hq with rfl | rfl | rfl | rfl <;> rfl) ?_
  refine jHl_fr_50 (y4 := q16) (e0 := q5 - q7) (e1 := -q11 + q9) (e2 := q13 - q15) (e4 := 0) (e5 := 0) 20 q14 q17 (by omega) (by omega) (Int.lt_of_le_of_lt (show q14 ≤ (1000000 : Int) by omega) (by decide)) ?_
  have hb_q18 := jsu_b (P := 7) (by decide) (n := 20) (u := q14) (by omega) (by omega)
  generalize hq_q18 : jsu 7 20 q14 = q18 at hb_q18 g_1 ⊢
  have hb_q19 := jsc_b (P := 7) (n := 20) (u := q14)
  have hb_q19 : 0 ≤ jsc 7 20 q14 ∧ jsc 7 20 q14 ≤ 20 := ⟨hb_q19.1, by omega⟩
  generalize hq_q19 : jsc 7 20 q14 = q19 at hb_q19 ⊢
  refine jT_xiinc (x := 3) (z := 4) (LN := [(6, (0, 4)), (5, (0, q18)), (4, (0, q16)), (0, (4, 0))]) (pcN := 110) jIH_192_107 rfl rfl (by decide) rfl rfl ?_
  refine jT_xgoto (pcN := 26) jIH_192_110 rfl ?_
  refine jT_xiload (v := (0, 4)) (pcN := 28) jIH_192_26 rfl rfl rfl ?_
  refine jT_xbipush (k := 6) (pcN := 30) jIH_192_28 (by decide) rfl ?_
  refine jT_xicF (t := 113) (pcN := 33) jIH_192_30 rfl (by decide +kernel) rfl rfl ?_
  refine jT_loc (LN := [(4, (0, q16)), (5, (0, q18)), (0, (4, 0)), (6, (0, 4))]) (by show List.Nodup [4, 5, 0, 6]; decide) (by intro q hq; simp only [List.mem_cons, List.not_mem_nil, or_false] at hq; rcases hq with rfl | rfl | rfl | rfl <;> rfl) ?_
  refine jHl_fr_51 (y5 := q18) (e0 := q5 - q7) (e1 := -q11 + q9) (e2 := q13 - q15) (e3 := q17 - q19) (e5 := 0) 20 q16 0 (by omega) (by omega) (Int.lt_of_le_of_lt (show q16 ≤ (1000000 : Int) by omega) (by decide)) ?_
  have hb_q20 := jsu_b (P := 11) (by decide) (n := 20) (u := q16) (by omega) (by omega)
  generalize hq_q20 : jsu 11 20 q16 = q20 at hb_q20 g_0 ⊢
  have hb_q21 := jsc_b (P := 11) (n := 20) (u := q16)
  have hb_q21 : 0 ≤ jsc 11 20 q16 ∧ jsc 11 20 q16 ≤ 20 := ⟨hb_q21.1, by omega⟩
  generalize hq_q21 : jsc 11 20 q16 = q21 at hb_q21 ⊢
  refine jT_eq (LN := [(4, (0, q20)), (5, (0, q18)), (0, (4, 0)), (6, (0, 4))]) (stN := []) (hsN := [jzH_20, jgh, jgh, jgh, jgh, jgh, jgh, (101, [], [q5 - q7, -q11 + q9, q13 - q15, q17 - q19, q21, 0]), jgh, jgh, jgh, jgh, jgh, jgh, jgh, jgh]) (rfl) (rfl) (by simp only [List.cons.injEq, Prod.mk.injEq, and_true, true_and] <;> ((try unfold jw); (try unfold jwl); omega)) ?_
  refine jT_loc (LN := [(5, (0, q18)), (4, (0, q20)), (0, (4, 0)), (6, (0, 4))]) (by show List.Nodup [5, 4, 0, 6]; decide) (by intro q hq; simp only [List.mem_cons, List.not_mem_nil, or_false] at hq; rcases hq with rfl | rfl | rfl | rfl <;> rfl) ?_
  refine jHl_fr_52 (y4 := q20) (e0 := q5 - q7) (e1 := -q11 + q9) (e2 := q13 - q15) (e3 := q17 - q19) (e5 := 0) 20 q18 q21 (by omega) (by omega) (Int.lt_of_le_of_lt (show q18 ≤ (1000000 : Int) by omega) (by decide)) ?_
  have hb_q22 := jsu_b (P := 11) (by decide) (n := 20) (u := q18) (by omega) (by omega)
  generalize hq_q22 : jsu 11 20 q18 = q22 at hb_q22 g_1 ⊢
  have hb_q23 := jsc_b (P := 11) (n := 20) (u := q18)
  have hb_q23 : 0 ≤ jsc 11 20 q18 ∧ jsc 11 20 q18 ≤ 20 := ⟨hb_q23.1, by omega⟩
  generalize hq_q23 : jsc 11 20 q18 = q23 at hb_q23 ⊢
  refine jT_xiinc (x := 4) (z := 5) (LN := [(6, (0, 5)), (5, (0, q22)), (4, (0, q20)), (0, (4, 0))]) (pcN := 110) jIH_192_107 rfl rfl (by decide) rfl rfl ?_
  refine jT_xgoto (pcN := 26) jIH_192_110 rfl ?_
  refine jT_xiload (v := (0, 5)) (pcN := 28) jIH_192_26 rfl rfl rfl ?_
  refine jT_xbipush (k := 6) (pcN := 30) jIH_192_28 (by decide) rfl ?_
  refine jT_xicF (t := 113) (pcN := 33) jIH_192_30 rfl (by decide +kernel) rfl rfl ?_
  refine jT_loc (LN := [(4, (0, q20)), (5, (0, q22)), (0, (4, 0)), (6, (0, 5))]) (by show List.Nodup [4, 5, 0, 6]; decide) (by intro q hq; simp only [List.mem_cons, List.not_mem_nil, or_false] at hq; rcases hq with rfl | rfl | rfl | rfl <;> rfl) ?_
  refine jHl_fr_53 (y5 := q22) (e0 := q5 - q7) (e1 := -q11 + q9) (e2 := q13 - q15) (e3 := q17 - q19) (e4 := q21 - q23) 20 q20 0 (by omega) (by omega) (Int.lt_of_le_of_lt (show q20 ≤ (1000000 : Int) by omega) (by decide)) ?_
  have hb_q24 := jsu_b (P := 13) (by decide) (n := 20) (u := q20) (by omega) (by omega)
  generalize hq_q24 : jsu 13 20 q20 = q24 at hb_q24 g_0 ⊢
  have hb_q25 := jsc_b (P := 13) (n := 20) (u := q20)
  have hb_q25 : 0 ≤ jsc 13 20 q20 ∧ jsc 13 20 q20 ≤ 20 := ⟨hb_q25.1, by omega⟩
  generalize hq_q25 : jsc 13 20 q20 = q25 at hb_q25 ⊢
  refine jT_eq (LN := [(4, (0, q24)), (5, (0, q22)), (0, (4, 0)), (6, (0, 5))]) (stN := []) (hsN := [jzH_20, jgh, jgh, jgh, jgh, jgh, jgh, (101, [], [q5 - q7, -q11 + q9, q13 - q15, q17 - q19, q21 - q23, q25]), jgh, jgh, jgh, jgh, jgh, jgh, jgh, jgh]) (rfl) (rfl) (by simp only [List.cons.injEq, Prod.mk.injEq, and_true, true_and] <;> ((try unfold jw); (try unfold jwl); omega)) ?_
  refine jT_loc (LN := [(5, (0, q22)), (4, (0, q24)), (0, (4, 0)), (6, (0, 5))]) (by show List.Nodup [5, 4, 0, 6]; decide) (by intro q hq; simp only [List.mem_cons, List.not_mem_nil, or_false] at hq; rcases hq with rfl | rfl | rfl | rfl <;> rfl) ?_
  refine jHl_fr_54 (y4 := q24) (e0 := q5 - q7) (e1 := -q11 + q9) (e2 := q13 - q15) (e3 := q17 - q19) (e4 := q21 - q23) 20 q22 q25 (by omega) (by omega) (Int.lt_of_le_of_lt (show q22 ≤ (1000000 : Int) by omega) (by decide)) ?_
  have hb_q26 := jsu_b (P := 13) (by decide) (n := 20) (u := q22) (by omega) (by omega)
  generalize hq_q26 : jsu 13 20 q22 = q26 at hb_q26 g_1 ⊢
  have hb_q27 := jsc_b (P := 13) (n := 20) (u := q22)
  have hb_q27 : 0 ≤ jsc 13 20 q22 ∧ jsc 13 20 q22 ≤ 20 := ⟨hb_q27.1, by omega⟩
  generalize hq_q27 : jsc 13 20 q22 = q27 at hb_q27 ⊢
  refine jT_xiinc (x := 5) (z := 6) (LN := [(6, (0, 6)), (5, (0, q26)), (4, (0, q24)), (0, (4, 0))]) (pcN := 110) jIH_192_107 rfl rfl (by decide) rfl rfl ?_
  refine jT_xgoto (pcN := 26) jIH_192_110 rfl ?_
  refine jT_xiload (v := (0, 6)) (pcN := 28) jIH_192_26 rfl rfl rfl ?_
  refine jT_xbipush (k := 6) (pcN := 30) jIH_192_28 (by decide) rfl ?_
  refine jT_xicT (pcN := 113) jIH_192_30 rfl (by decide +kernel) rfl ?_
  refine jT_xiload (v := (0, q24)) (pcN := 115) jIH_192_113 rfl rfl rfl ?_
  refine jT_xiconst (k := 1) (pcN := 116) jIH_192_115 rfl ?_
  refine jT_icF (a := q24) (b := 1) (t := 129) (by rfl) (by rfl) (by rfl) (jw_idd (by omega) (by omega)) (jw_idd (by omega) (by omega)) (by simp only [jcP] <;> omega) ?_
  refine jT_xiload (v := (0, q26)) (pcN := 121) jIH_192_119 rfl rfl rfl ?_
  refine jT_xiconst (k := 1) (pcN := 122) jIH_192_121 rfl ?_
  refine jT_icF (a := q26) (b := 1) (t := 129) (by rfl) (by rfl) (by rfl) (jw_idd (by omega) (by omega)) (jw_idd (by omega) (by omega)) (by simp only [jcP] <;> omega) ?_
  refine jT_xiconst (k := 1) (pcN := 126) jIH_192_125 rfl ?_
  refine jT_xgoto (pcN := 130) jIH_192_126 rfl ?_
  subst hq_q27
  subst hq_q26
  subst hq_q25
  subst hq_q24
  subst hq_q23
  subst hq_q22
  subst hq_q21
  subst hq_q20
  subst hq_q19
  subst hq_q18
  subst hq_q17
  subst hq_q16
  subst hq_q15
  subst hq_q14
  subst hq_q13
  subst hq_q12
  subst hq_q11
  subst hq_q10
  subst hq_q9
  subst hq_q8
  subst hq_q7
  subst hq_q6
  subst hq_q5
  subst hq_q4
  subst hq_q3
  subst hq_q2
  subst hq_q1
  exact jT_ret rfl (by decide) (by show 16 ≤ 16; omega) (by omega) (by omega) ⟨rfl, rfl, rfl⟩
theorem jH_191_77 {xs : List Int} {d : Nat} : jT xs d 191 1 0 [(0, (4, 0)), (1, (0, 1)), (2, (0, 3))] [] [jgh] 0 0 (fun k v hsN => k = 0 ∧ v = (0, 0) ∧ hsN = [jgh] ++ []) := by
  refine jT_advK 5 (pcN := 18) (LN := [(0, (4, 0)), (1, (0, 1)), (2, (0, 3))]) (stN := [(0, 0)]) (hsN := [jgh]) (c1 := 0) (s1 := 0) (c2 := 0) (s2 := 0) (by decide +kernel) ?_ (by omega) (by omega)
  exact jT_ret rfl (by decide) (by show 1 ≤ 1; omega) (by omega) (by omega) ⟨rfl, rfl, rfl⟩
def jzH_315 : JC := (130, [], [16, 17, 18, 19, 20, 21, 22, 23])
def jzH_316 : JC := (130, [], [(-1), (-1), (-1), (-1), (-1), (-1), (-1), (-1)])
def jpH_317 : List JC := [jzH_20, (100, [], jS0), (100, [], []), jzH_315, jzH_316, jgh, jgh, jgh, jgh, jgh, jgh, jgh, jgh, jgh, jgh, jgh, (100, [], (List.replicate 1613 0)), jgh, jgh, jgh, jgh, jgh, jgh, jgh]
def jpH_318 : List JC := [jzH_20, (100, [], jS0), (100, [], []), jzH_315, jzH_316, jgh, jgh, jgh, jgh, jgh, jgh, jgh, jgh, jgh, jgh, jgh, (100, [], jS0), jgh, jgh, jgh, jgh, jgh, jgh, jgh]
def jzH_319 : JC := (14, [(0, 0), (4, 1), (4, 2), (4, 3), (4, 4), (0, 1), (4, 5), (0, 0), (4, 6), (4, 7), (1, 1), (4, 8), (0, 0), (4, 9), (0, 0), (0, 0), (0, 0), (0, 0), (0, 0), (0, 0), (0, 0), (4, 10), (4, 11), (4, 12), (4, 13), (4, 14), (4, 15), (0, 0)], [])
def jzH_320 : JC := (130, [], [2, (-1), (-1), (-1), (-1), (-1), (-1), (-1)])
def jpH_321 : List JC := [jzH_319, (100, [], jS0), (100, [], []), jzH_315, jzH_320, jgh, jgh, jgh, jgh, jgh, jgh, jgh, jgh, jgh, jgh, jgh, (100, [], jS0), jgh, jgh, jgh, jgh, jgh, jgh, jgh]
theorem jH_195_78 {xs : List Int} {d : Nat} : jT xs d 195 24 0 [(0, (4, 0))] [] jpH_317 0 0 (fun k v hsN => k = 0 ∧ v = (9, 0) ∧ hsN = jpH_321) := by
  refine jT_advK 14 (pcN := 94) (LN := [(0, (4, 0))]) (stN := [(0, 1613), (0, 0), (4, 16), (0, 0), (4, 1)]) (hsN := jpH_317) (c1 := 0) (s1 := 0) (c2 := 0) (s2 := 0) (by decide +kernel) ?_ (by omega) (by omega)
  refine jT_cpy (a := 1) (b := 16) (s0 := 0) (d0 := 0) (n := 1613) (k := 100) (X := jS0) (Y := (List.replicate 1613 0)) (by rfl) (by rfl) (by rfl) (by rfl) (by rfl) (by rfl) (by rfl) (by decide) (by decide) (by decide) (by rw [show List.length (jS0 : List Int) = 1613 from jS0_len]; decide) (by rw [show List.length ((List.replicate 1613 0) : List Int) = 1613 from List.length_replicate]; omega) ?_
  refine jT_eq (LN := [(0, (4, 0))]) (stN := []) (hsN := jpH_318) rfl rfl (by rw [jcpy_all (X := jS0) (Y := (List.replicate 1613 0)) (n := 1613) (jS0_len) (List.length_replicate)]; rfl) ?_
  refine jT_advK 13 (pcN := 120) (LN := [(0, (4, 0))]) (stN := []) (hsN := jpH_321) (c1 := 0) (s1 := 0) (c2 := 0) (s2 := 0) (by decide +kernel) ?_ (by omega) (by omega)
  exact jT_ret rfl (by decide) (by show 24 ≤ 24; omega) (by omega) (by omega) ⟨rfl, rfl, rfl⟩
theorem jIH_197_0 : jmI (jm 197) 0 = (.iconst 0, 1) := by rfl
theorem jIH_197_1 : jmI (jm 197) 1 = (.istore_n 3, 1) := by rfl
theorem jIH_197_2 : jmI (jm 197) 2 = (.iload_n 3, 1) := by rfl
theorem jIH_197_3 : jmI (jm 197) 3 = (.bipush 6, 2) := by rfl
theorem jIH_197_5 : jmI (jm 197) 5 = (.if_icmp .ge 21, 3) := by rfl
theorem jIH_197_8 : jmI (jm 197) 8 = (.aload_n 1, 1) := by rfl
theorem jIH_197_9 : jmI (jm 197) 9 = (.iload_n 2, 1) := by rfl
theorem jIH_197_10 : jmI (jm 197) 10 = (.iload_n 3, 1) := by rfl
theorem jIH_197_11 : jmI (jm 197) 11 = (.iadd, 1) := by rfl
theorem jIH_197_12 : jmI (jm 197) 12 = (.aload_n 0, 1) := by rfl
theorem jIH_197_13 : jmI (jm 197) 13 = (.getfield 31, 3) := by rfl
theorem jIH_197_16 : jmI (jm 197) 16 = (.iload_n 3, 1) := by rfl
theorem jIH_197_17 : jmI (jm 197) 17 = (.laload, 1) := by rfl
theorem jIH_197_18 : jmI (jm 197) 18 = (.l2i, 1) := by rfl
theorem jIH_197_20 : jmI (jm 197) 20 = (.iinc 3 1, 3) := by rfl
theorem jIH_197_23 : jmI (jm 197) 23 = (.goto (-21), 3) := by rfl
theorem jIH_197_26 : jmI (jm 197) 26 = (.aload_n 1, 1) := by rfl
theorem jIH_197_27 : jmI (jm 197) 27 = (.iload_n 2, 1) := by rfl
theorem jIH_197_28 : jmI (jm 197) 28 = (.bipush 6, 2) := by rfl
theorem jIH_197_30 : jmI (jm 197) 30 = (.iadd, 1) := by rfl
theorem jIH_197_31 : jmI (jm 197) 31 = (.aload_n 0, 1) := by rfl
theorem jIH_197_32 : jmI (jm 197) 32 = (.getfield 35, 3) := by rfl
theorem jIH_197_35 : jmI (jm 197) 35 = (.l2i, 1) := by rfl
theorem jH_197_79 {xs : List Int} {d : Nat} {q13 q14 q15 q16 q17 q18 q19 q20 q21 q22 q23 q24 x1 : Int} (h_q13 : 0 ≤ q13 ∧ q13 ≤ 20) (h_q14 : 0 ≤ q14 ∧ q14 ≤ 20) (h_q15 : 0 ≤ q15 ∧ q15 ≤ 20) (h_q16 : 0 ≤ q16 ∧ q16 ≤ 20) (h_q17 : 0 ≤ q17 ∧ q17 ≤ 20) (h_q18 : 0 ≤ q18 ∧ q18 ≤ 20) (h_q19 : 0 ≤ q19 ∧ q19 ≤ 20) (h_q20 : 0 ≤ q20 ∧ q20 ≤ 20) (h_q21 : 0 ≤ q21 ∧ q21 ≤ 20) (h_q22 : 0 ≤ q22 ∧ q22 ≤ 20) (h_q23 : 0 ≤ q23 ∧ q23 ≤ 20) (h_q24 : 0 ≤ q24 ∧ q24 ≤ 20) (h_x1 : 0 ≤ x1 ∧ x1 ≤ 7) : jT xs d 197 16 0 [(0, (4, 0)), (1, (4, 1)), (2, (0, 7 * x1))] [] [jzH_319, (100, [], jS0), jgh, jgh, jgh, jgh, jgh, (101, [], [q13 - q14, q15 - q16, q17 - q18, q19 - q20, q21 - q22, q23 - q24]), jgh, jgh, jgh, jgh, jgh, jgh, jgh, jgh] 0 0 (fun k v hsN => k = 0 ∧ v = (9, 0) ∧ hsN = [jzH_319, (100, [], ((((((((((((((jS0).set ((7 * x1).toNat) (q13 - q14))).set ((7 * x1 + 1).toNat) (q15 - q16))).set ((7 * x1 + 2).toNat) (q17 - q18))).set ((7 * x1 + 3).toNat) (q19 - q20))).set ((7 * x1 + 4).toNat) (q21 - q22))).set ((7 * x1 + 5).toNat) (q23 - q24))).set ((7 * x1 + 6).toNat) 1)), jgh, jgh, jgh, jgh, jgh, (101, [], [q13 - q14, q15 - q16, q17 - q18, q19 - q20, q21 - q22, q23 - q24]), jgh, jgh, jgh, jgh, jgh, jgh, jgh, jgh]) := by
  refine jT_xiconst (k := 0) (pcN := 1) jIH_197_0 rfl ?_
  refine jT_xistore_n (v := (0, 0)) (LN := [(3, (0, 0)), (0, (4, 0)), (1, (4, 1)), (2, (0, 7 * x1))]) (pcN := 2) jIH_197_1 rfl rfl rfl rfl ?_
  refine jT_xiload_n (v := (0, 0)) (pcN := 3) jIH_197_2 rfl rfl rfl ?_
  refine jT_xbipush (k := 6) (pcN := 5) jIH_197_3 (by decide) rfl ?_
  refine jT_xicF (t := 26) (pcN := 8) jIH_197_5 rfl (by decide +kernel) rfl rfl ?_
  refine jT_xaload_n (v := (4, 1)) (pcN := 9) jIH_197_8 rfl rfl rfl ?_
  refine jT_xiload_n (v := (0, 7 * x1)) (pcN := 10) jIH_197_9 rfl rfl rfl ?_
  refine jT_xiload_n (v := (0, 0)) (pcN := 11) jIH_197_10 rfl rfl rfl ?_
  refine jT_xiadd (x := 7 * x1) (y := 0) (z := 7 * x1) (pcN := 12) jIH_197_11 rfl (by omega) rfl ?_
  refine jT_xaload_n (v := (4, 0)) (pcN := 13) jIH_197_12 rfl rfl rfl ?_
  refine jT_xgetf (a := 0) (t := 1) (ci := 14) (fi := 9) (c := jzH_319) (v := (4, 7)) (pcN := 16) jIH_197_13 rfl rfl rfl rfl rfl rfl rfl ?_
  refine jT_xiload_n (v := (0, 0)) (pcN := 17) jIH_197_16 rfl rfl rfl ?_
  refine jT_lald (x := q13 - q14) (a := 7) (j := 0) (fs := []) (X := [q13 - q14, q15 - q16, q17 - q18, q19 - q20, q21 - q22, q23 - q24]) jIH_197_17 rfl rfl rfl rfl ?_
  refine jT_eq (LN := [(3, (0, 0)), (0, (4, 0)), (1, (4, 1)), (2, (0, 7 * x1))]) (stN := [(1, q13 - q14), (0, 7 * x1), (4, 1)]) (hsN := [jzH_319, (100, [], jS0), jgh, jgh, jgh, jgh, jgh, (101, [], [q13 - q14, q15 - q16, q17 - q18, q19 - q20, q21 - q22, q23 - q24]), jgh, jgh, jgh, jgh, jgh, jgh, jgh, jgh]) rfl rfl rfl ?_
  refine jT_xl2i (pcN := 19) jIH_197_18 rfl rfl ?_
  refine jT_iast (x := q13 - q14) (a := 1) (j := (7 * x1).toNat) (fs := []) (X := jS0) (by rfl) (by rfl) (by rfl) (jw_nn (by omega) (by omega)) (by rw [show List.length (jS0 : List Int) = 1613 from jS0_len]; omega) ?_
  refine jT_eq (LN := [(3, (0, 0)), (0, (4, 0)), (1, (4, 1)), (2, (0, 7 * x1))]) (stN := []) (hsN := [jzH_319, (100, [], ((jS0).set ((7 * x1).toNat) (q13 - q14))), jgh, jgh, jgh, jgh, jgh, (101, [], [q13 - q14, q15 - q16, q17 - q18, q19 - q20, q21 - q22, q23 - q24]), jgh, jgh, jgh, jgh, jgh, jgh, jgh, jgh]) rfl rfl rfl ?_
  refine jT_xiinc (x := 0) (z := 1) (LN := [(3, (0, 1)), (0, (4, 0)), (1, (4, 1)), (2, (0, 7 * x1))]) (pcN := 23) jIH_197_20 rfl rfl (by decide) rfl rfl ?_
  refine jT_xgoto (pcN := 2) jIH_197_23 rfl ?_
  refine jT_xiload_n (v := (0, 1)) (pcN := 3) jIH_197_2 rfl rfl rfl ?_
  refine jT_xbipush (k := 6) (pcN := 5) jIH_197_3 (by decide) rfl ?_
  refine jT_xicF (t := 26) (pcN := 8) jIH_197_5 rfl (by decide +kernel) rfl rfl ?_
  refine jT_xaload_n (v := (4, 1)) (pcN := 9) jIH_197_8 rfl rfl rfl ?_
  refine jT_xiload_n (v := (0, 7 * x1)) (pcN := 10) jIH_197_9 rfl rfl rfl ?_
  refine jT_xiload_n (v := (0, 1)) (pcN := 11) jIH_197_10 rfl rfl rfl ?_
  refine jT_xiadd (x := 7 * x1) (y := 1) (z := 7 * x1 + 1) (pcN := 12) jIH_197_11 rfl (by omega) rfl ?_
  refine jT_xaload_n (v := (4, 0)) (pcN := 13) jIH_197_12 rfl rfl rfl ?_
  refine jT_xgetf (a := 0) (t := 1) (ci := 14) (fi := 9) (c := jzH_319) (v := (4, 7)) (pcN := 16) jIH_197_13 rfl rfl rfl rfl rfl rfl rfl ?_
  refine jT_xiload_n (v := (0, 1)) (pcN := 17) jIH_197_16 rfl rfl rfl ?_
  refine jT_lald (x := q15 - q16) (a := 7) (j := 1) (fs := []) (X := [q13 - q14, q15 - q16, q17 - q18, q19 - q20, q21 - q22, q23 - q24]) jIH_197_17 rfl rfl rfl rfl ?_
  refine jT_eq (LN := [(3, (0, 1)), (0, (4, 0)), (1, (4, 1)), (2, (0, 7 * x1))]) (stN := [(1, q15 - q16), (0, 7 * x1 + 1), (4, 1)]) (hsN := [jzH_319, (100, [], ((jS0).set ((7 * x1).toNat) (q13 - q14))), jgh, jgh, jgh, jgh, jgh, (101, [], [q13 - q14, q15 - q16, q17 - q18, q19 - q20, q21 - q22, q23 - q24]), jgh, jgh, jgh, jgh, jgh, jgh, jgh, jgh]) rfl rfl rfl ?_
  refine jT_xl2i (pcN := 19) jIH_197_18 rfl rfl ?_
  refine jT_iast (x := q15 - q16) (a := 1) (j := (7 * x1 + 1).toNat) (fs := []) (X := ((jS0).set ((7 * x1).toNat) (q13 - q14))) (by rfl) (by rfl) (by rfl) (jw_nn (by omega) (by omega)) (by rw [show List.length (((jS0).set ((7 * x1).toNat) (q13 - q14)) : List Int) = 1613 from by rw [List.length_set]; exact (jS0_len)]; omega) ?_
  refine jT_eq (LN := [(3, (0, 1)), (0, (4, 0)), (1, (4, 1)), (2, (0, 7 * x1))]) (stN := []) (hsN := [jzH_319, (100, [], ((((jS0).set ((7 * x1).toNat) (q13 - q14))).set ((7 * x1 + 1).toNat) (q15 - q16))), jgh, jgh, jgh, jgh, jgh, (101, [], [q13 - q14, q15 - q16, q17 - q18, q19 - q20, q21 - q22, q23 - q24]), jgh, jgh, jgh, jgh, jgh, jgh, jgh, jgh]) rfl rfl rfl ?_
  refine jT_xiinc (x := 1) (z := 2) (LN := [(3, (0, 2)), (0, (4, 0)), (1, (4, 1)), (2, (0, 7 * x1))]) (pcN := 23) jIH_197_20 rfl rfl (by decide) rfl rfl ?_
  refine jT_xgoto (pcN := 2) jIH_197_23 rfl ?_
  refine jT_xiload_n (v := (0, 2)) (pcN := 3) jIH_197_2 rfl rfl rfl ?_
  refine jT_xbipush (k := 6) (pcN := 5) jIH_197_3 (by decide) rfl ?_
  refine jT_xicF (t := 26) (pcN := 8) jIH_197_5 rfl (by decide +kernel) rfl rfl ?_
  refine jT_xaload_n (v := (4, 1)) (pcN := 9) jIH_197_8 rfl rfl rfl ?_
  refine jT_xiload_n (v := (0, 7 * x1)) (pcN := 10) jIH_197_9 rfl rfl rfl ?_
  refine jT_xiload_n (v := (0, 2)) (pcN := 11) jIH_197_10 rfl rfl rfl ?_
  refine jT_xiadd (x := 7 * x1) (y := 2) (z := 7 * x1 + 2) (pcN := 12) jIH_197_11 rfl (by omega) rfl ?_
  refine jT_xaload_n (v := (4, 0)) (pcN := 13) jIH_197_12 rfl rfl rfl ?_
  refine jT_xgetf (a := 0) (t := 1) (ci := 14) (fi := 9) (c := jzH_319) (v := (4, 7)) (pcN := 16) jIH_197_13 rfl rfl rfl rfl rfl rfl rfl ?_
  refine jT_xiload_n (v := (0, 2)) (pcN := 17) jIH_197_16 rfl rfl rfl ?_
  refine jT_lald (x := q17 - q18) (a := 7) (j := 2) (fs := []) (X := [q13 - q14, q15 - q16, q17 - q18, q19 - q20, q21 - q22, q23 - q24]) jIH_197_17 rfl rfl rfl rfl ?_
  refine jT_eq (LN := [(3, (0, 2)), (0, (4, 0)), (1, (4, 1)), (2, (0, 7 * x1))]) (stN := [(1, q17 - q18), (0, 7 * x1 + 2), (4, 1)]) (hsN := [jzH_319, (100, [], ((((jS0).set ((7 * x1).toNat) (q13 - q14))).set ((7 * x1 + 1).toNat) (q15 - q16))), jgh, jgh, jgh, jgh, jgh, (101, [], [q13 - q14, q15 - q16, q17 - q18, q19 - q20, q21 - q22, q23 - q24]), jgh, jgh, jgh, jgh, jgh, jgh, jgh, jgh]) rfl rfl rfl ?_
  refine jT_xl2i (pcN := 19) jIH_197_18 rfl rfl ?_
  refine jT_iast (x := q17 - q18) (a := 1) (j := (7 * x1 + 2).toNat) (fs := []) (X := ((((jS0).set ((7 * x1).toNat) (q13 - q14))).set ((7 * x1 + 1).toNat) (q15 - q16))) (by rfl) (by rfl) (by rfl) (jw_nn (by omega) (by omega)) (by rw [show List.length (((((jS0).set ((7 * x1).toNat) (q13 - q14))).set ((7 * x1 + 1).toNat) (q15 - q16)) : List Int) = 1613 from by rw [List.length_set, List.length_set]; exact (jS0_len)]; omega) ?_
  refine jT_eq (LN := [(3, (0, 2)), (0, (4, 0)), (1, (4, 1)), (2, (0, 7 * x1))]) (stN := []) (hsN := [jzH_319, (100, [], ((((((jS0).set ((7 * x1).toNat) (q13 - q14))).set ((7 * x1 + 1).toNat) (q15 - q16))).set ((7 * x1 + 2).toNat) (q17 - q18))), jgh, jgh, jgh, jgh, jgh, (101, [], [q13 - q14, q15 - q16, q17 - q18, q19 - q20, q21 - q22, q23 - q24]), jgh, jgh, jgh, jgh, jgh, jgh, jgh, jgh]) rfl rfl rfl ?_
  refine jT_xiinc (x := 2) (z := 3) (LN := [(3, (0, 3)), (0, (4, 0)), (1, (4, 1)), (2, (0, 7 * x1))]) (pcN := 23) jIH_197_20 rfl rfl (by decide) rfl rfl ?_
  refine jT_xgoto (pcN := 2) jIH_197_23 rfl ?_
  refine jT_xiload_n (v := (0, 3)) (pcN := 3) jIH_197_2 rfl rfl rfl ?_
  refine jT_xbipush (k := 6) (pcN := 5) jIH_197_3 (by decide) rfl ?_
  refine jT_xicF (t := 26) (pcN := 8) jIH_197_5 rfl (by decide +kernel) rfl rfl ?_
  refine jT_xaload_n (v := (4, 1)) (pcN := 9) jIH_197_8 rfl rfl rfl ?_
  refine jT_xiload_n (v := (0, 7 * x1)) (pcN := 10) jIH_197_9 rfl rfl rfl ?_
  refine jT_xiload_n (v := (0, 3)) (pcN := 11) jIH_197_10 rfl rfl rfl ?_
  refine jT_xiadd (x := 7 * x1) (y := 3) (z := 7 * x1 + 3) (pcN := 12) jIH_197_11 rfl (by omega) rfl ?_
  refine jT_xaload_n (v := (4, 0)) (pcN := 13) jIH_197_12 rfl rfl rfl ?_
  refine jT_xgetf (a := 0) (t := 1) (ci := 14) (fi := 9) (c := jzH_319) (v := (4, 7)) (pcN := 16) jIH_197_13 rfl rfl rfl rfl rfl rfl rfl ?_
  refine jT_xiload_n (v := (0, 3)) (pcN := 17) jIH_197_16 rfl rfl rfl ?_
  refine jT_lald (x := q19 - q20) (a := 7) (j := 3) (fs := []) (X := [q13 - q14, q15 - q16, q17 - q18, q19 - q20, q21 - q22, q23 - q24]) jIH_197_17 rfl rfl rfl rfl ?_
  refine jT_eq (LN := [(3, (0, 3)), (0, (4, 0)), (1, (4, 1)), (2, (0, 7 * x1))]) (stN := [(1, q19 - q20), (0, 7 * x1 + 3), (4, 1)]) (hsN := [jzH_319, (100, [], ((((((jS0).set ((7 * x1).toNat) (q13 - q14))).set ((7 * x1 + 1).toNat) (q15 - q16))).set ((7 * x1 + 2).toNat) (q17 - q18))), jgh, jgh, jgh, jgh, jgh, (101, [], [q13 - q14, q15 - q16, q17 - q18, q19 - q20, q21 - q22, q23 - q24]), jgh, jgh, jgh, jgh, jgh, jgh, jgh, jgh]) rfl rfl rfl ?_
  refine jT_xl2i (pcN := 19) jIH_197_18 rfl rfl ?_
  refine jT_iast (x := q19 - q20) (a := 1) (j := (7 * x1 + 3).toNat) (fs := []) (X := ((((((jS0).set ((7 * x1).toNat) (q13 - q14))).set ((7 * x1 + 1).toNat) (q15 - q16))).set ((7 * x1 + 2).toNat) (q17 - q18))) (by rfl) (by rfl) (by rfl) (jw_nn (by omega) (by omega)) (by rw [show List.length (((((((jS0).set ((7 * x1).toNat) (q13 - q14))).set ((7 * x1 + 1).toNat) (q15 - q16))).set ((7 * x1 + 2).toNat) (q17 - q18)) : List Int) = 1613 from by rw [List.length_set, List.length_set, List.length_set]; exact (jS0_len)]; omega) ?_
  refine jT_eq (LN := [(3, (0, 3)), (0, (4, 0)), (1, (4, 1)), (2, (0, 7 * x1))]) (stN := []) (hsN := [jzH_319, (100, [], ((((((((jS0).set ((7 * x1).toNat) (q13 - q14))).set ((7 * x1 + 1).toNat) (q15 - q16))).set ((7 * x1 + 2).toNat) (q17 - q18))).set ((7 * x1 + 3).toNat) (q19 - q20))), jgh, jgh, jgh, jgh, jgh, (101, [], [q13 - q14, q15 - q16, q17 - q18, q19 - q20, q21 - q22, q23 - q24]), jgh, jgh, jgh, jgh, jgh, jgh, jgh, jgh]) rfl rfl rfl ?_
  refine jT_xiinc (x := 3) (z := 4) (LN := [(3, (0, 4)), (0, (4, 0)), (1, (4, 1)), (2, (0, 7 * x1))]) (pcN := 23) jIH_197_20 rfl rfl (by decide) rfl rfl ?_
  refine jT_xgoto (pcN := 2) jIH_197_23 rfl ?_
  refine jT_xiload_n (v := (0, 4)) (pcN := 3) jIH_197_2 rfl rfl rfl ?_
  refine jT_xbipush (k := 6) (pcN := 5) jIH_197_3 (by decide) rfl ?_
  refine jT_xicF (t := 26) (pcN := 8) jIH_197_5 rfl (by decide +kernel) rfl rfl ?_
  refine jT_xaload_n (v := (4, 1)) (pcN := 9) jIH_197_8 rfl rfl rfl ?_
  refine jT_xiload_n (v := (0, 7 * x1)) (pcN := 10) jIH_197_9 rfl rfl rfl ?_
  refine jT_xiload_n (v := (0, 4)) (pcN := 11) jIH_197_10 rfl rfl rfl ?_
  refine jT_xiadd (x := 7 * x1) (y := 4) (z := 7 * x1 + 4) (pcN := 12) jIH_197_11 rfl (by omega) rfl ?_
  refine jT_xaload_n (v := (4, 0)) (pcN := 13) jIH_197_12 rfl rfl rfl ?_
  refine jT_xgetf (a := 0) (t := 1) (ci := 14) (fi := 9) (c := jzH_319) (v := (4, 7)) (pcN := 16) jIH_197_13 rfl rfl rfl rfl rfl rfl rfl ?_
  refine jT_xiload_n (v := (0, 4)) (pcN := 17) jIH_197_16 rfl rfl rfl ?_
  refine jT_lald (x := q21 - q22) (a := 7) (j := 4) (fs := []) (X := [q13 - q14, q15 - q16, q17 - q18, q19 - q20, q21 - q22, q23 - q24]) jIH_197_17 rfl rfl rfl rfl ?_
  refine jT_eq (LN := [(3, (0, 4)), (0, (4, 0)), (1, (4, 1)), (2, (0, 7 * x1))]) (stN := [(1, q21 - q22), (0, 7 * x1 + 4), (4, 1)]) (hsN := [jzH_319, (100, [], ((((((((jS0).set ((7 * x1).toNat) (q13 - q14))).set ((7 * x1 + 1).toNat) (q15 - q16))).set ((7 * x1 + 2).toNat) (q17 - q18))).set ((7 * x1 + 3).toNat) (q19 - q20))), jgh, jgh, jgh, jgh, jgh, (101, [], [q13 - q14, q15 - q16, q17 - q18, q19 - q20, q21 - q22, q23 - q24]), jgh, jgh, jgh, jgh, jgh, jgh, jgh, jgh]) rfl rfl rfl ?_
  refine jT_xl2i (pcN := 19) jIH_197_18 rfl rfl ?_
  refine jT_iast (x := q21 - q22) (a := 1) (j := (7 * x1 + 4).toNat) (fs := []) (X := ((((((((jS0).set ((7 * x1).toNat) (q13 - q14))).set ((7 * x1 + 1).toNat) (q15 - q16))).set ((7 * x1 + 2).toNat) (q17 - q18))).set ((7 * x1 + 3).toNat) (q19 - q20))) (by rfl) (by rfl) (by rfl) (jw_nn (by omega) (by omega)) (by rw [show List.length (((((((((jS0).set ((7 * x1).toNat) (q13 - q14))).set ((7 * x1 + 1).toNat) (q15 - q16))).set ((7 * x1 + 2).toNat) (q17 - q18))).set ((7 * x1 + 3).toNat) (q19 - q20)) : List Int) = 1613 from by rw [List.length_set, List.length_set, List.length_set, List.length_set]; exact (jS0_len)]; omega) ?_
  refine jT_eq (LN := [(3, (0, 4)), (0, (4, 0)), (1, (4, 1)), (2, (0, 7 * x1))]) (stN := []) (hsN := [jzH_319, (100, [], ((((((((((jS0).set ((7 * x1).toNat) (q13 - q14))).set ((7 * x1 + 1).toNat) (q15 - q16))).set ((7 * x1 + 2).toNat) (q17 - q18))).set ((7 * x1 + 3).toNat) (q19 - q20))).set ((7 * x1 + 4).toNat) (q21 - q22))), jgh, jgh, jgh, jgh, jgh, (101, [], [q13 - q14, q15 - q16, q17 - q18, q19 - q20, q21 - q22, q23 - q24]), jgh, jgh, jgh, jgh, jgh, jgh, jgh, jgh]) rfl rfl rfl ?_
  refine jT_xiinc (x := 4) (z := 5) (LN := [(3, (0, 5)), (0, (4, 0)), (1, (4, 1)), (2, (0, 7 * x1))]) (pcN := 23) jIH_197_20 rfl rfl (by decide) rfl rfl ?_
  refine jT_xgoto (pcN := 2) jIH_197_23 rfl ?_
  refine jT_xiload_n (v := (0, 5)) (pcN := 3) jIH_197_2 rfl rfl rfl ?_
  refine jT_xbipush (k := 6) (pcN := 5) jIH_197_3 (by decide) rfl ?_
  refine jT_xicF (t := 26) (pcN := 8) jIH_197_5 rfl (by decide +kernel) rfl rfl ?_
  refine jT_xaload_n (v := (4, 1)) (pcN := 9) jIH_197_8 rfl rfl rfl ?_
  refine jT_xiload_n (v := (0, 7 * x1)) (pcN := 10) jIH_197_9 rfl rfl rfl ?_
  refine jT_xiload_n (v := (0, 5)) (pcN := 11) jIH_197_10 rfl rfl rfl ?_
  refine jT_xiadd (x := 7 * x1) (y := 5) (z := 7 * x1 + 5) (pcN := 12) jIH_197_11 rfl (by omega) rfl ?_
  refine jT_xaload_n (v := (4, 0)) (pcN := 13) jIH_197_12 rfl rfl rfl ?_
  refine jT_xgetf (a := 0) (t := 1) (ci := 14) (fi := 9) (c := jzH_319) (v := (4, 7)) (pcN := 16) jIH_197_13 rfl rfl rfl rfl rfl rfl rfl ?_
  refine jT_xiload_n (v := (0, 5)) (pcN := 17) jIH_197_16 rfl rfl rfl ?_
  refine jT_lald (x := q23 - q24) (a := 7) (j := 5) (fs := []) (X := [q13 - q14, q15 - q16, q17 - q18, q19 - q20, q21 - q22, q23 - q24]) jIH_197_17 rfl rfl rfl rfl ?_
  refine jT_eq (LN := [(3, (0, 5)), (0, (4, 0)), (1, (4, 1)), (2, (0, 7 * x1))]) (stN := [(1, q23 - q24), (0, 7 * x1 + 5), (4, 1)]) (hsN := [jzH_319, (100, [], ((((((((((jS0).set ((7 * x1).toNat) (q13 - q14))).set ((7 * x1 + 1).toNat) (q15 - q16))).set ((7 * x1 + 2).toNat) (q17 - q18))).set ((7 * x1 + 3).toNat) (q19 - q20))).set ((7 * x1 + 4).toNat) (q21 - q22))), jgh, jgh, jgh, jgh, jgh, (101, [], [q13 - q14, q15 - q16, q17 - q18, q19 - q20, q21 - q22, q23 - q24]), jgh, jgh, jgh, jgh, jgh, jgh, jgh, jgh]) rfl rfl rfl ?_
  refine jT_xl2i (pcN := 19) jIH_197_18 rfl rfl ?_
  refine jT_iast (x := q23 - q24) (a := 1) (j := (7 * x1 + 5).toNat) (fs := []) (X := ((((((((((jS0).set ((7 * x1).toNat) (q13 - q14))).set ((7 * x1 + 1).toNat) (q15 - q16))).set ((7 * x1 + 2).toNat) (q17 - q18))).set ((7 * x1 + 3).toNat) (q19 - q20))).set ((7 * x1 + 4).toNat) (q21 - q22))) (by rfl) (by rfl) (by rfl) (jw_nn (by omega) (by omega)) (by rw [show List.length (((((((((((jS0).set ((7 * x1).toNat) (q13 - q14))).set ((7 * x1 + 1).toNat) (q15 - q16))).set ((7 * x1 + 2).toNat) (q17 - q18))).set ((7 * x1 + 3).toNat) (q19 - q20))).set ((7 * x1 + 4).toNat) (q21 - q22)) : List Int) = 1613 from by rw [List.length_set, List.length_set, List.length_set, List.length_set, List.length_set]; exact (jS0_len)]; omega) ?_
  refine jT_eq (LN := [(3, (0, 5)), (0, (4, 0)), (1, (4, 1)), (2, (0, 7 * x1))]) (stN := []) (hsN := [jzH_319, (100, [], ((((((((((((jS0).set ((7 * x1).toNat) (q13 - q14))).set ((7 * x1 + 1).toNat) (q15 - q16))).set ((7 * x1 + 2).toNat) (q17 - q18))).set ((7 * x1 + 3).toNat) (q19 - q20))).set ((7 * x1 + 4).toNat) (q21 - q22))).set ((7 * x1 + 5).toNat) (q23 - q24))), jgh, jgh, jgh, jgh, jgh, (101, [], [q13 - q14, q15 - q16, q17 - q18, q19 - q20, q21 - q22, q23 - q24]), jgh, jgh, jgh, jgh, jgh, jgh, jgh, jgh]) rfl rfl rfl ?_
  refine jT_xiinc (x := 5) (z := 6) (LN := [(3, (0, 6)), (0, (4, 0)), (1, (4, 1)), (2, (0, 7 * x1))]) (pcN := 23) jIH_197_20 rfl rfl (by decide) rfl rfl ?_
  refine jT_xgoto (pcN := 2) jIH_197_23 rfl ?_
  refine jT_xiload_n (v := (0, 6)) (pcN := 3) jIH_197_2 rfl rfl rfl ?_
  refine jT_xbipush (k := 6) (pcN := 5) jIH_197_3 (by decide) rfl ?_
  refine jT_xicT (pcN := 26) jIH_197_5 rfl (by decide +kernel) rfl ?_
  refine jT_xaload_n (v := (4, 1)) (pcN := 27) jIH_197_26 rfl rfl rfl ?_
  refine jT_xiload_n (v := (0, 7 * x1)) (pcN := 28) jIH_197_27 rfl rfl rfl ?_
  refine jT_xbipush (k := 6) (pcN := 30) jIH_197_28 (by decide) rfl ?_
  refine jT_xiadd (x := 7 * x1) (y := 6) (z := 7 * x1 + 6) (pcN := 31) jIH_197_30 rfl (by omega) rfl ?_
  refine jT_xaload_n (v := (4, 0)) (pcN := 32) jIH_197_31 rfl rfl rfl ?_
  refine jT_xgetf (a := 0) (t := 1) (ci := 14) (fi := 10) (c := jzH_319) (v := (1, 1)) (pcN := 35) jIH_197_32 rfl rfl rfl rfl rfl rfl rfl ?_
  refine jT_xl2i (pcN := 36) jIH_197_35 rfl rfl ?_
  refine jT_iast (x := 1) (a := 1) (j := (7 * x1 + 6).toNat) (fs := []) (X := ((((((((((((jS0).set ((7 * x1).toNat) (q13 - q14))).set ((7 * x1 + 1).toNat) (q15 - q16))).set ((7 * x1 + 2).toNat) (q17 - q18))).set ((7 * x1 + 3).toNat) (q19 - q20))).set ((7 * x1 + 4).toNat) (q21 - q22))).set ((7 * x1 + 5).toNat) (q23 - q24))) (by rfl) (by rfl) (by rfl) (jw_nn (by omega) (by omega)) (by rw [show List.length (((((((((((((jS0).set ((7 * x1).toNat) (q13 - q14))).set ((7 * x1 + 1).toNat) (q15 - q16))).set ((7 * x1 + 2).toNat) (q17 - q18))).set ((7 * x1 + 3).toNat) (q19 - q20))).set ((7 * x1 + 4).toNat) (q21 - q22))).set ((7 * x1 + 5).toNat) (q23 - q24)) : List Int) = 1613 from by rw [List.length_set, List.length_set, List.length_set, List.length_set, List.length_set, List.length_set]; exact (jS0_len)]; omega) ?_
  refine jT_eq (LN := [(3, (0, 6)), (0, (4, 0)), (1, (4, 1)), (2, (0, 7 * x1))]) (stN := []) (hsN := [jzH_319, (100, [], ((((((((((((((jS0).set ((7 * x1).toNat) (q13 - q14))).set ((7 * x1 + 1).toNat) (q15 - q16))).set ((7 * x1 + 2).toNat) (q17 - q18))).set ((7 * x1 + 3).toNat) (q19 - q20))).set ((7 * x1 + 4).toNat) (q21 - q22))).set ((7 * x1 + 5).toNat) (q23 - q24))).set ((7 * x1 + 6).toNat) 1)), jgh, jgh, jgh, jgh, jgh, (101, [], [q13 - q14, q15 - q16, q17 - q18, q19 - q20, q21 - q22, q23 - q24]), jgh, jgh, jgh, jgh, jgh, jgh, jgh, jgh]) rfl rfl rfl ?_
  exact jT_ret rfl (by decide) (by show 16 ≤ 16; omega) (by omega) (by omega) ⟨rfl, rfl, rfl⟩
theorem jIH_196_0 : jmI (jm 196) 0 = (.aload_n 0, 1) := by rfl
theorem jIH_196_1 : jmI (jm 196) 1 = (.aload_n 0, 1) := by rfl
theorem jIH_196_2 : jmI (jm 196) 2 = (.getfield 9, 3) := by rfl
theorem jIH_196_5 : jmI (jm 196) 5 = (.bipush 7, 2) := by rfl
theorem jIH_196_7 : jmI (jm 196) 7 = (.iload_n 1, 1) := by rfl
theorem jIH_196_8 : jmI (jm 196) 8 = (.imul, 1) := by rfl
theorem jIH_196_12 : jmI (jm 196) 12 = (.aload_n 0, 1) := by rfl
theorem jIH_196_13 : jmI (jm 196) 13 = (.getfield 35, 3) := by rfl
theorem jIH_196_16 : jmI (jm 196) 16 = (.l2i, 1) := by rfl
theorem jH_196_80 {xs : List Int} {d : Nat} {q13 q14 q15 q16 q17 q18 q19 q20 q21 q22 q23 q24 x1 : Int} (h_q13 : 0 ≤ q13 ∧ q13 ≤ 20) (h_q14 : 0 ≤ q14 ∧ q14 ≤ 20) (h_q15 : 0 ≤ q15 ∧ q15 ≤ 20) (h_q16 : 0 ≤ q16 ∧ q16 ≤ 20) (h_q17 : 0 ≤ q17 ∧ q17 ≤ 20) (h_q18 : 0 ≤ q18 ∧ q18 ≤ 20) (h_q19 : 0 ≤ q19 ∧ q19 ≤ 20) (h_q20 : 0 ≤ q20 ∧ q20 ≤ 20) (h_q21 : 0 ≤ q21 ∧ q21 ≤ 20) (h_q22 : 0 ≤ q22 ∧ q22 ≤ 20) (h_q23 : 0 ≤ q23 ∧ q23 ≤ 20) (h_q24 : 0 ≤ q24 ∧ q24 ≤ 20) (h_x1 : 0 ≤ x1 ∧ x1 ≤ 7) : jT xs (d + 1) 196 16 0 [(0, (4, 0)), (1, (0, x1))] [] [jzH_319, (100, [], jS0), jgh, jgh, jgh, jgh, jgh, (101, [], [q13 - q14, q15 - q16, q17 - q18, q19 - q20, q21 - q22, q23 - q24]), jgh, jgh, jgh, jgh, jgh, jgh, jgh, jgh] 0 0 (fun k v hsN => k = 0 ∧ v = (0, 1) ∧ hsN = [jzH_319, (100, [], ((((((((((((((jS0).set ((7 * x1).toNat) (q13 - q14))).set ((7 * x1 + 1).toNat) (q15 - q16))).set ((7 * x1 + 2).toNat) (q17 - q18))).set ((7 * x1 + 3).toNat) (q19 - q20))).set ((7 * x1 + 4).toNat) (q21 - q22))).set ((7 * x1 + 5).toNat) (q23 - q24))).set ((7 * x1 + 6).toNat) 1)), jgh, jgh, jgh, jgh, jgh, (101, [], [q13 - q14, q15 - q16, q17 - q18, q19 - q20, q21 - q22, q23 - q24]), jgh, jgh, jgh, jgh, jgh, jgh, jgh, jgh]) := by
  refine jT_xaload_n (v := (4, 0)) (pcN := 1) jIH_196_0 rfl rfl rfl ?_
  refine jT_xaload_n (v := (4, 0)) (pcN := 2) jIH_196_1 rfl rfl rfl ?_
  refine jT_xgetf (a := 0) (t := 1) (ci := 14) (fi := 1) (c := jzH_319) (v := (4, 1)) (pcN := 5) jIH_196_2 rfl rfl rfl rfl rfl rfl rfl ?_
  refine jT_xbipush (k := 7) (pcN := 7) jIH_196_5 (by decide) rfl ?_
  refine jT_xiload_n (v := (0, x1)) (pcN := 8) jIH_196_7 rfl rfl rfl ?_
  refine jT_ximul (x := 7) (y := x1) (z := 7 * x1) (pcN := 9) jIH_196_8 rfl (rfl) rfl ?_
  refine jT_callB [0, 1, 2, 3, 4, 5, 6, 7, 8, 9, 10, 11, 12, 13, 14, 15] (y := 197) (pcN := 12) (dC := 0) (bc1 := 0) (bc2 := 0) (c1 := 0) (c2 := 0) (as := [(4, 0), (4, 1), (0, 7 * x1)]) (asC := [(4, 0), (4, 1), (0, 7 * x1)]) (LN := [(0, (4, 0)), (1, (0, x1))]) (stN := []) (hsC := [jzH_319, (100, [], jS0), jgh, jgh, jgh, jgh, jgh, (101, [], [q13 - q14, q15 - q16, q17 - q18, q19 - q20, q21 - q22, q23 - q24]), jgh, jgh, jgh, jgh, jgh, jgh, jgh, jgh]) (hsD := [jzH_319, (100, [], ((((((((((((((jS0).set ((7 * x1).toNat) (q13 - q14))).set ((7 * x1 + 1).toNat) (q15 - q16))).set ((7 * x1 + 2).toNat) (q17 - q18))).set ((7 * x1 + 3).toNat) (q19 - q20))).set ((7 * x1 + 4).toNat) (q21 - q22))).set ((7 * x1 + 5).toNat) (q23 - q24))).set ((7 * x1 + 6).toNat) 1)), jgh, jgh, jgh, jgh, jgh, (101, [], [q13 - q14, q15 - q16, q17 - q18, q19 - q20, q21 - q22, q23 - q24]), jgh, jgh, jgh, jgh, jgh, jgh, jgh, jgh]) (v := (9, 0)) (st2 := []) (hs2 := [jzH_319, (100, [], ((((((((((((((jS0).set ((7 * x1).toNat) (q13 - q14))).set ((7 * x1 + 1).toNat) (q15 - q16))).set ((7 * x1 + 2).toNat) (q17 - q18))).set ((7 * x1 + 3).toNat) (q19 - q20))).set ((7 * x1 + 4).toNat) (q21 - q22))).set ((7 * x1 + 5).toNat) (q23 - q24))).set ((7 * x1 + 6).toNat) 1)), jgh, jgh, jgh, jgh, jgh, (101, [], [q13 - q14, q15 - q16, q17 - q18, q19 - q20, q21 - q22, q23 - q24]), jgh, jgh, jgh, jgh, jgh, jgh, jgh, jgh]) (jH_197_79 (d := 0) (by omega) (by omega) (by omega) (by omega) (by omega) (by omega) (by omega) (by omega) (by omega) (by omega) (by omega) (by omega) (by omega)) (by rfl) (by rfl) (by rfl) (by rfl) ⟨rfl, rfl, rfl, rfl, rfl, rfl, rfl, rfl, rfl, rfl, rfl, rfl, rfl, rfl, rfl, rfl, trivial⟩ (by rfl) (by rfl) (by omega) (by show 16 ≤ 16; omega) (by omega) (by omega) rfl rfl ?_
  refine jT_xaload_n (v := (4, 0)) (pcN := 13) jIH_196_12 rfl rfl rfl ?_
  refine jT_xgetf (a := 0) (t := 1) (ci := 14) (fi := 10) (c := jzH_319) (v := (1, 1)) (pcN := 16) jIH_196_13 rfl rfl rfl rfl rfl rfl rfl ?_
  refine jT_xl2i (pcN := 17) jIH_196_16 rfl rfl ?_
  exact jT_ret rfl (by decide) (by show 16 ≤ 16; omega) (by omega) (by omega) ⟨rfl, rfl, rfl⟩
theorem jH_197_81 {xs : List Int} {d : Nat} {q1 q10 q11 q12 q2 q3 q4 q5 q6 q7 q8 q9 x1 : Int} (h_q1 : 0 ≤ q1 ∧ q1 ≤ 20) (h_q10 : 0 ≤ q10 ∧ q10 ≤ 20) (h_q11 : 0 ≤ q11 ∧ q11 ≤ 20) (h_q12 : 0 ≤ q12 ∧ q12 ≤ 20) (h_q2 : 0 ≤ q2 ∧ q2 ≤ 20) (h_q3 : 0 ≤ q3 ∧ q3 ≤ 20) (h_q4 : 0 ≤ q4 ∧ q4 ≤ 20) (h_q5 : 0 ≤ q5 ∧ q5 ≤ 20) (h_q6 : 0 ≤ q6 ∧ q6 ≤ 20) (h_q7 : 0 ≤ q7 ∧ q7 ≤ 20) (h_q8 : 0 ≤ q8 ∧ q8 ≤ 20) (h_q9 : 0 ≤ q9 ∧ q9 ≤ 20) (h_x1 : 0 ≤ x1 ∧ x1 ≤ 7) : jT xs d 197 16 0 [(0, (4, 0)), (1, (4, 1)), (2, (0, 7 * x1))] [] [jzH_319, (100, [], jS0), jgh, jgh, jgh, jgh, jgh, (101, [], [q1 - q2, q3 - q4, q5 - q6, q7 - q8, -q10 + q9, q11 - q12]), jgh, jgh, jgh, jgh, jgh, jgh, jgh, jgh] 0 0 (fun k v hsN => k = 0 ∧ v = (9, 0) ∧ hsN = [jzH_319, (100, [], ((((((((((((((jS0).set ((7 * x1).toNat) (q1 - q2))).set ((7 * x1 + 1).toNat) (q3 - q4))).set ((7 * x1 + 2).toNat) (q5 - q6))).set ((7 * x1 + 3).toNat) (q7 - q8))).set ((7 * x1 + 4).toNat) (-q10 + q9))).set ((7 * x1 + 5).toNat) (q11 - q12))).set ((7 * x1 + 6).toNat) 1)), jgh, jgh, jgh, jgh, jgh, (101, [], [q1 - q2, q3 - q4, q5 - q6, q7 - q8, -q10 + q9, q11 - q12]), jgh, jgh, jgh, jgh, jgh, jgh, jgh, jgh]) := by
  refine jT_xiconst (k := 0) (pcN := 1) jIH_197_0 rfl ?_
  refine jT_xistore_n (v := (0, 0)) (LN := [(3, (0, 0)), (0, (4, 0)), (1, (4, 1)), (2, (0, 7 * x1))]) (pcN := 2) jIH_197_1 rfl rfl rfl rfl ?_
  refine jT_xiload_n (v := (0, 0)) (pcN := 3) jIH_197_2 rfl rfl rfl ?_
  refine jT_xbipush (k := 6) (pcN := 5) jIH_197_3 (by decide) rfl ?_
  refine jT_xicF (t := 26) (pcN := 8) jIH_197_5 rfl (by decide +kernel) rfl rfl ?_
  refine jT_xaload_n (v := (4, 1)) (pcN := 9) jIH_197_8 rfl rfl rfl ?_
  refine jT_xiload_n (v := (0, 7 * x1)) (pcN := 10) jIH_197_9 rfl rfl rfl ?_
  refine jT_xiload_n (v := (0, 0)) (pcN := 11) jIH_197_10 rfl rfl rfl ?_
  refine jT_xiadd (x := 7 * x1) (y := 0) (z := 7 * x1) (pcN := 12) jIH_197_11 rfl (by omega) rfl ?_
  refine jT_xaload_n (v := (4, 0)) (pcN := 13) jIH_197_12 rfl rfl rfl ?_
  refine jT_xgetf (a := 0) (t := 1) (ci := 14) (fi := 9) (c := jzH_319) (v := (4, 7)) (pcN := 16) jIH_197_13 rfl rfl rfl rfl rfl rfl rfl ?_
  refine jT_xiload_n (v := (0, 0)) (pcN := 17) jIH_197_16 rfl rfl rfl ?_
  refine jT_lald (x := q1 - q2) (a := 7) (j := 0) (fs := []) (X := [q1 - q2, q3 - q4, q5 - q6, q7 - q8, -q10 + q9, q11 - q12]) jIH_197_17 rfl rfl rfl rfl ?_
  refine jT_eq (LN := [(3, (0, 0)), (0, (4, 0)), (1, (4, 1)), (2, (0, 7 * x1))]) (stN := [(1, q1 - q2), (0, 7 * x1), (4, 1)]) (hsN := [jzH_319, (100, [], jS0), jgh, jgh, jgh, jgh, jgh, (101, [], [q1 - q2, q3 - q4, q5 - q6, q7 - q8, -q10 + q9, q11 - q12]), jgh, jgh, jgh, jgh, jgh, jgh, jgh, jgh]) rfl rfl rfl ?_
  refine jT_xl2i (pcN := 19) jIH_197_18 rfl rfl ?_
  refine jT_iast (x := q1 - q2) (a := 1) (j := (7 * x1).toNat) (fs := []) (X := jS0) (by rfl) (by rfl) (by rfl) (jw_nn (by omega) (by omega)) (by rw [show List.length (jS0 : List Int) = 1613 from jS0_len]; omega) ?_
  refine jT_eq (LN := [(3, (0, 0)), (0, (4, 0)), (1, (4, 1)), (2, (0, 7 * x1))]) (stN := []) (hsN := [jzH_319, (100, [], ((jS0).set ((7 * x1).toNat) (q1 - q2))), jgh, jgh, jgh, jgh, jgh, (101, [], [q1 - q2, q3 - q4, q5 - q6, q7 - q8, -q10 + q9, q11 - q12]), jgh, jgh, jgh, jgh, jgh, jgh, jgh, jgh]) rfl rfl rfl ?_
  refine jT_xiinc (x := 0) (z := 1) (LN := [(3, (0, 1)), (0, (4, 0)), (1, (4, 1)), (2, (0, 7 * x1))]) (pcN := 23) jIH_197_20 rfl rfl (by decide) rfl rfl ?_
  refine jT_xgoto (pcN := 2) jIH_197_23 rfl ?_
  refine jT_xiload_n (v := (0, 1)) (pcN := 3) jIH_197_2 rfl rfl rfl ?_
  refine jT_xbipush (k := 6) (pcN := 5) jIH_197_3 (by decide) rfl ?_
  refine jT_xicF (t := 26) (pcN := 8) jIH_197_5 rfl (by decide +kernel) rfl rfl ?_
  refine jT_xaload_n (v := (4, 1)) (pcN := 9) jIH_197_8 rfl rfl rfl ?_
  refine jT_xiload_n (v := (0, 7 * x1)) (pcN := 10) jIH_197_9 rfl rfl rfl ?_
  refine jT_xiload_n (v := (0, 1)) (pcN := 11) jIH_197_10 rfl rfl rfl ?_
  refine jT_xiadd (x := 7 * x1) (y := 1) (z := 7 * x1 + 1) (pcN := 12) jIH_197_11 rfl (by omega) rfl ?_
  refine jT_xaload_n (v := (4, 0)) (pcN := 13) jIH_197_12 rfl rfl rfl ?_
  refine jT_xgetf (a := 0) (t := 1) (ci := 14) (fi := 9) (c := jzH_319) (v := (4, 7)) (pcN := 16) jIH_197_13 rfl rfl rfl rfl rfl rfl rfl ?_
  refine jT_xiload_n (v := (0, 1)) (pcN := 17) jIH_197_16 rfl rfl rfl ?_
  refine jT_lald (x := q3 - q4) (a := 7) (j := 1) (fs := []) (X := [q1 - q2, q3 - q4, q5 - q6, q7 - q8, -q10 + q9, q11 - q12]) jIH_197_17 rfl rfl rfl rfl ?_
  refine jT_eq (LN := [(3, (0, 1)), (0, (4, 0)), (1, (4, 1)), (2, (0, 7 * x1))]) (stN := [(1, q3 - q4), (0, 7 * x1 + 1), (4, 1)]) (hsN := [jzH_319, (100, [], ((jS0).set ((7 * x1).toNat) (q1 - q2))), jgh, jgh, jgh, jgh, jgh, (101, [], [q1 - q2, q3 - q4, q5 - q6, q7 - q8, -q10 + q9, q11 - q12]), jgh, jgh, jgh, jgh, jgh, jgh, jgh, jgh]) rfl rfl rfl ?_
  refine jT_xl2i (pcN := 19) jIH_197_18 rfl rfl ?_
  refine jT_iast (x := q3 - q4) (a := 1) (j := (7 * x1 + 1).toNat) (fs := []) (X := ((jS0).set ((7 * x1).toNat) (q1 - q2))) (by rfl) (by rfl) (by rfl) (jw_nn (by omega) (by omega)) (by rw [show List.length (((jS0).set ((7 * x1).toNat) (q1 - q2)) : List Int) = 1613 from by rw [List.length_set]; exact (jS0_len)]; omega) ?_
  refine jT_eq (LN := [(3, (0, 1)), (0, (4, 0)), (1, (4, 1)), (2, (0, 7 * x1))]) (stN := []) (hsN := [jzH_319, (100, [], ((((jS0).set ((7 * x1).toNat) (q1 - q2))).set ((7 * x1 + 1).toNat) (q3 - q4))), jgh, jgh, jgh, jgh, jgh, (101, [], [q1 - q2, q3 - q4, q5 - q6, q7 - q8, -q10 + q9, q11 - q12]), jgh, jgh, jgh, jgh, jgh, jgh, jgh, jgh]) rfl rfl rfl ?_
  refine jT_xiinc (x := 1) (z := 2) (LN := [(3, (0, 2)), (0, (4, 0)), (1, (4, 1)), (2, (0, 7 * x1))]) (pcN := 23) jIH_197_20 rfl rfl (by decide) rfl rfl ?_
  refine jT_xgoto (pcN := 2) jIH_197_23 rfl ?_
  refine jT_xiload_n (v := (0, 2)) (pcN := 3) jIH_197_2 rfl rfl rfl ?_
  refine jT_xbipush (k := 6) (pcN := 5) jIH_197_3 (by decide) rfl ?_
  refine jT_xicF (t := 26) (pcN := 8) jIH_197_5 rfl (by decide +kernel) rfl rfl ?_
  refine jT_xaload_n (v := (4, 1)) (pcN := 9) jIH_197_8 rfl rfl rfl ?_
  refine jT_xiload_n (v := (0, 7 * x1)) (pcN := 10) jIH_197_9 rfl rfl rfl ?_
  refine jT_xiload_n (v := (0, 2)) (pcN := 11) jIH_197_10 rfl rfl rfl ?_
  refine jT_xiadd (x := 7 * x1) (y := 2) (z := 7 * x1 + 2) (pcN := 12) jIH_197_11 rfl (by omega) rfl ?_
  refine jT_xaload_n (v := (4, 0)) (pcN := 13) jIH_197_12 rfl rfl rfl ?_
  refine jT_xgetf (a := 0) (t := 1) (ci := 14) (fi := 9) (c := jzH_319) (v := (4, 7)) (pcN := 16) jIH_197_13 rfl rfl rfl rfl rfl rfl rfl ?_
  refine jT_xiload_n (v := (0, 2)) (pcN := 17) jIH_197_16 rfl rfl rfl ?_
  refine jT_lald (x := q5 - q6) (a := 7) (j := 2) (fs := []) (X := [q1 - q2, q3 - q4, q5 - q6, q7 - q8, -q10 + q9, q11 - q12]) jIH_197_17 rfl rfl rfl rfl ?_
  refine jT_eq (LN := [(3, (0, 2)), (0, (4, 0)), (1, (4, 1)), (2, (0, 7 * x1))]) (stN := [(1, q5 - q6), (0, 7 * x1 + 2), (4, 1)]) (hsN := [jzH_319, (100, [], ((((jS0).set ((7 * x1).toNat) (q1 - q2))).set ((7 * x1 + 1).toNat) (q3 - q4))), jgh, jgh, jgh, jgh, jgh, (101, [], [q1 - q2, q3 - q4, q5 - q6, q7 - q8, -q10 + q9, q11 - q12]), jgh, jgh, jgh, jgh, jgh, jgh, jgh, jgh]) rfl rfl rfl ?_
  refine jT_xl2i (pcN := 19) jIH_197_18 rfl rfl ?_
  refine jT_iast (x := q5 - q6) (a := 1) (j := (7 * x1 + 2).toNat) (fs := []) (X := ((((jS0).set ((7 * x1).toNat) (q1 - q2))).set ((7 * x1 + 1).toNat) (q3 - q4))) (by rfl) (by rfl) (by rfl) (jw_nn (by omega) (by omega)) (by rw [show List.length (((((jS0).set ((7 * x1).toNat) (q1 - q2))).set ((7 * x1 + 1).toNat) (q3 - q4)) : List Int) = 1613 from by rw [List.length_set, List.length_set]; exact (jS0_len)]; omega) ?_
  refine jT_eq (LN := [(3, (0, 2)), (0, (4, 0)), (1, (4, 1)), (2, (0, 7 * x1))]) (stN := []) (hsN := [jzH_319, (100, [], ((((((jS0).set ((7 * x1).toNat) (q1 - q2))).set ((7 * x1 + 1).toNat) (q3 - q4))).set ((7 * x1 + 2).toNat) (q5 - q6))), jgh, jgh, jgh, jgh, jgh, (101, [], [q1 - q2, q3 - q4, q5 - q6, q7 - q8, -q10 + q9, q11 - q12]), jgh, jgh, jgh, jgh, jgh, jgh, jgh, jgh]) rfl rfl rfl ?_
  refine jT_xiinc (x := 2) (z := 3) (LN := [(3, (0, 3)), (0, (4, 0)), (1, (4, 1)), (2, (0, 7 * x1))]) (pcN := 23) jIH_197_20 rfl rfl (by decide) rfl rfl ?_
  refine jT_xgoto (pcN := 2) jIH_197_23 rfl ?_
  refine jT_xiload_n (v := (0, 3)) (pcN := 3) jIH_197_2 rfl rfl rfl ?_
  refine jT_xbipush (k := 6) (pcN := 5) jIH_197_3 (by decide) rfl ?_
  refine jT_xicF (t := 26) (pcN := 8) jIH_197_5 rfl (by decide +kernel) rfl rfl ?_
  refine jT_xaload_n (v := (4, 1)) (pcN := 9) jIH_197_8 rfl rfl rfl ?_
  refine jT_xiload_n (v := (0, 7 * x1)) (pcN := 10) jIH_197_9 rfl rfl rfl ?_
  refine jT_xiload_n (v := (0, 3)) (pcN := 11) jIH_197_10 rfl rfl rfl ?_
  refine jT_xiadd (x := 7 * x1) (y := 3) (z := 7 * x1 + 3) (pcN := 12) jIH_197_11 rfl (by omega) rfl ?_
  refine jT_xaload_n (v := (4, 0)) (pcN := 13) jIH_197_12 rfl rfl rfl ?_
  refine jT_xgetf (a := 0) (t := 1) (ci := 14) (fi := 9) (c := jzH_319) (v := (4, 7)) (pcN := 16) jIH_197_13 rfl rfl rfl rfl rfl rfl rfl ?_
  refine jT_xiload_n (v := (0, 3)) (pcN := 17) jIH_197_16 rfl rfl rfl ?_
  refine jT_lald (x := q7 - q8) (a := 7) (j := 3) (fs := []) (X := [q1 - q2, q3 - q4, q5 - q6, q7 - q8, -q10 + q9, q11 - q12]) jIH_197_17 rfl rfl rfl rfl ?_
  refine jT_eq (LN := [(3, (0, 3)), (0, (4, 0)), (1, (4, 1)), (2, (0, 7 * x1))]) (stN := [(1, q7 - q8), (0, 7 * x1 + 3), (4, 1)]) (hsN := [jzH_319, (100, [], ((((((jS0).set ((7 * x1).toNat) (q1 - q2))).set ((7 * x1 + 1).toNat) (q3 - q4))).set ((7 * x1 + 2).toNat) (q5 - q6))), jgh, jgh, jgh, jgh, jgh, (101, [], [q1 - q2, q3 - q4, q5 - q6, q7 - q8, -q10 + q9, q11 - q12]), jgh, jgh, jgh, jgh, jgh, jgh, jgh, jgh]) rfl rfl rfl ?_
  refine jT_xl2i (pcN := 19) jIH_197_18 rfl rfl ?_
  refine jT_iast (x := q7 - q8) (a := 1) (j := (7 * x1 + 3).toNat) (fs := []) (X := ((((((jS0).set ((7 * x1).toNat) (q1 - q2))).set ((7 * x1 + 1).toNat) (q3 - q4))).set ((7 * x1 + 2).toNat) (q5 - q6))) (by rfl) (by rfl) (by rfl) (jw_nn (by omega) (by omega)) (by rw [show List.length (((((((jS0).set ((7 * x1).toNat) (q1 - q2))).set ((7 * x1 + 1).toNat) (q3 - q4))).set ((7 * x1 + 2).toNat) (q5 - q6)) : List Int) = 1613 from by rw [List.length_set, List.length_set, List.length_set]; exact (jS0_len)]; omega) ?_
  refine jT_eq (LN := [(3, (0, 3)), (0, (4, 0)), (1, (4, 1)), (2, (0, 7 * x1))]) (stN := []) (hsN := [jzH_319, (100, [], ((((((((jS0).set ((7 * x1).toNat) (q1 - q2))).set ((7 * x1 + 1).toNat) (q3 - q4))).set ((7 * x1 + 2).toNat) (q5 - q6))).set ((7 * x1 + 3).toNat) (q7 - q8))), jgh, jgh, jgh, jgh, jgh, (101, [], [q1 - q2, q3 - q4, q5 - q6, q7 - q8, -q10 + q9, q11 - q12]), jgh, jgh, jgh, jgh, jgh, jgh, jgh, jgh]) rfl rfl rfl ?_
  refine jT_xiinc (x := 3) (z := 4) (LN := [(3, (0, 4)), (0, (4, 0)), (1, (4, 1)), (2, (0, 7 * x1))]) (pcN := 23) jIH_197_20 rfl rfl (by decide) rfl rfl ?_
  refine jT_xgoto (pcN := 2) jIH_197_23 rfl ?_
  refine jT_xiload_n (v := (0, 4)) (pcN := 3) jIH_197_2 rfl rfl rfl ?_
  refine jT_xbipush (k := 6) (pcN := 5) jIH_197_3 (by decide) rfl ?_
  refine jT_xicF (t := 26) (pcN := 8) jIH_197_5 rfl (by decide +kernel) rfl rfl ?_
  refine jT_xaload_n (v := (4, 1)) (pcN := 9) jIH_197_8 rfl rfl rfl ?_
  refine jT_xiload_n (v := (0, 7 * x1)) (pcN := 10) jIH_197_9 rfl rfl rfl ?_
  refine jT_xiload_n (v := (0, 4)) (pcN := 11) jIH_197_10 rfl rfl rfl ?_
  refine jT_xiadd (x := 7 * x1) (y := 4) (z := 7 * x1 + 4) (pcN := 12) jIH_197_11 rfl (by omega) rfl ?_
  refine jT_xaload_n (v := (4, 0)) (pcN := 13) jIH_197_12 rfl rfl rfl ?_
  refine jT_xgetf (a := 0) (t := 1) (ci := 14) (fi := 9) (c := jzH_319) (v := (4, 7)) (pcN := 16) jIH_197_13 rfl rfl rfl rfl rfl rfl rfl ?_
  refine jT_xiload_n (v := (0, 4)) (pcN := 17) jIH_197_16 rfl rfl rfl ?_
  refine jT_lald (x := -q10 + q9) (a := 7) (j := 4) (fs := []) (X := [q1 - q2, q3 - q4, q5 - q6, q7 - q8, -q10 + q9, q11 - q12]) jIH_197_17 rfl rfl rfl rfl ?_
  refine jT_eq (LN := [(3, (0, 4)), (0, (4, 0)), (1, (4, 1)), (2, (0, 7 * x1))]) (stN := [(1, -q10 + q9), (0, 7 * x1 + 4), (4, 1)]) (hsN := [jzH_319, (100, [], ((((((((jS0).set ((7 * x1).toNat) (q1 - q2))).set ((7 * x1 + 1).toNat) (q3 - q4))).set ((7 * x1 + 2).toNat) (q5 - q6))).set ((7 * x1 + 3).toNat) (q7 - q8))), jgh, jgh, jgh, jgh, jgh, (101, [], [q1 - q2, q3 - q4, q5 - q6, q7 - q8, -q10 + q9, q11 - q12]), jgh, jgh, jgh, jgh, jgh, jgh, jgh, jgh]) rfl rfl rfl ?_
  refine jT_xl2i (pcN := 19) jIH_197_18 rfl rfl ?_
  refine jT_iast (x := -q10 + q9) (a := 1) (j := (7 * x1 + 4).toNat) (fs := []) (X := ((((((((jS0).set ((7 * x1).toNat) (q1 - q2))).set ((7 * x1 + 1).toNat) (q3 - q4))).set ((7 * x1 + 2).toNat) (q5 - q6))).set ((7 * x1 + 3).toNat) (q7 - q8))) (by rfl) (by rfl) (by rfl) (jw_nn (by omega) (by omega)) (by rw [show List.length (((((((((jS0).set ((7 * x1).toNat) (q1 - q2))).set ((7 * x1 + 1).toNat) (q3 - q4))).set ((7 * x1 + 2).toNat) (q5 - q6))).set ((7 * x1 + 3).toNat) (q7 - q8)) : List Int) = 1613 from by rw [List.length_set, List.length_set, List.length_set, List.length_set]; exact (jS0_len)]; omega) ?_
  refine jT_eq (LN := [(3, (0, 4)), (0, (4, 0)), (1, (4, 1)), (2, (0, 7 * x1))]) (stN := []) (hsN := [jzH_319, (100, [], ((((((((((jS0).set ((7 * x1).toNat) (q1 - q2))).set ((7 * x1 + 1).toNat) (q3 - q4))).set ((7 * x1 + 2).toNat) (q5 - q6))).set ((7 * x1 + 3).toNat) (q7 - q8))).set ((7 * x1 + 4).toNat) (-q10 + q9))), jgh, jgh, jgh, jgh, jgh, (101, [], [q1 - q2, q3 - q4, q5 - q6, q7 - q8, -q10 + q9, q11 - q12]), jgh, jgh, jgh, jgh, jgh, jgh, jgh, jgh]) rfl rfl rfl ?_
  refine jT_xiinc (x := 4) (z := 5) (LN := [(3, (0, 5)), (0, (4, 0)), (1, (4, 1)), (2, (0, 7 * x1))]) (pcN := 23) jIH_197_20 rfl rfl (by decide) rfl rfl ?_
  refine jT_xgoto (pcN := 2) jIH_197_23 rfl ?_
  refine jT_xiload_n (v := (0, 5)) (pcN := 3) jIH_197_2 rfl rfl rfl ?_
  refine jT_xbipush (k := 6) (pcN := 5) jIH_197_3 (by decide) rfl ?_
  refine jT_xicF (t := 26) (pcN := 8) jIH_197_5 rfl (by decide +kernel) rfl rfl ?_
  refine jT_xaload_n (v := (4, 1)) (pcN := 9) jIH_197_8 rfl rfl rfl ?_
  refine jT_xiload_n (v := (0, 7 * x1)) (pcN := 10) jIH_197_9 rfl rfl rfl ?_
  refine jT_xiload_n (v := (0, 5)) (pcN := 11) jIH_197_10 rfl rfl rfl ?_
  refine jT_xiadd (x := 7 * x1) (y := 5) (z := 7 * x1 + 5) (pcN := 12) jIH_197_11 rfl (by omega) rfl ?_
  refine jT_xaload_n (v := (4, 0)) (pcN := 13) jIH_197_12 rfl rfl rfl ?_
  refine jT_xgetf (a := 0) (t := 1) (ci := 14) (fi := 9) (c := jzH_319) (v := (4, 7)) (pcN := 16) jIH_197_13 rfl rfl rfl rfl rfl rfl rfl ?_
  refine jT_xiload_n (v := (0, 5)) (pcN := 17) jIH_197_16 rfl rfl rfl ?_
  refine jT_lald (x := q11 - q12) (a := 7) (j := 5) (fs := []) (X := [q1 - q2, q3 - q4, q5 - q6, q7 - q8, -q10 + q9, q11 - q12]) jIH_197_17 rfl rfl rfl rfl ?_
  refine jT_eq (LN := [(3, (0, 5)), (0, (4, 0)), (1, (4, 1)), (2, (0, 7 * x1))]) (stN := [(1, q11 - q12), (0, 7 * x1 + 5), (4, 1)]) (hsN := [jzH_319, (100, [], ((((((((((jS0).set ((7 * x1).toNat) (q1 - q2))).set ((7 * x1 + 1).toNat) (q3 - q4))).set ((7 * x1 + 2).toNat) (q5 - q6))).set ((7 * x1 + 3).toNat) (q7 - q8))).set ((7 * x1 + 4).toNat) (-q10 + q9))), jgh, jgh, jgh, jgh, jgh, (101, [], [q1 - q2, q3 - q4, q5 - q6, q7 - q8, -q10 + q9, q11 - q12]), jgh, jgh, jgh, jgh, jgh, jgh, jgh, jgh]) rfl rfl rfl ?_
  refine jT_xl2i (pcN := 19) jIH_197_18 rfl rfl ?_
  refine jT_iast (x := q11 - q12) (a := 1) (j := (7 * x1 + 5).toNat) (fs := []) (X := ((((((((((jS0).set ((7 * x1).toNat) (q1 - q2))).set ((7 * x1 + 1).toNat) (q3 - q4))).set ((7 * x1 + 2).toNat) (q5 - q6))).set ((7 * x1 + 3).toNat) (q7 - q8))).set ((7 * x1 + 4).toNat) (-q10 + q9))) (by rfl) (by rfl) (by rfl) (jw_nn (by omega) (by omega)) (by rw [show List.length (((((((((((jS0).set ((7 * x1).toNat) (q1 - q2))).set ((7 * x1 + 1).toNat) (q3 - q4))).set ((7 * x1 + 2).toNat) (q5 - q6))).set ((7 * x1 + 3).toNat) (q7 - q8))).set ((7 * x1 + 4).toNat) (-q10 + q9)) : List Int) = 1613 from by rw [List.length_set, List.length_set, List.length_set, List.length_set, List.length_set]; exact (jS0_len)]; omega) ?_
  refine jT_eq (LN := [(3, (0, 5)), (0, (4, 0)), (1, (4, 1)), (2, (0, 7 * x1))]) (stN := []) (hsN := [jzH_319, (100, [], ((((((((((((jS0).set ((7 * x1).toNat) (q1 - q2))).set ((7 * x1 + 1).toNat) (q3 - q4))).set ((7 * x1 + 2).toNat) (q5 - q6))).set ((7 * x1 + 3).toNat) (q7 - q8))).set ((7 * x1 + 4).toNat) (-q10 + q9))).set ((7 * x1 + 5).toNat) (q11 - q12))), jgh, jgh, jgh, jgh, jgh, (101, [], [q1 - q2, q3 - q4, q5 - q6, q7 - q8, -q10 + q9, q11 - q12]), jgh, jgh, jgh, jgh, jgh, jgh, jgh, jgh]) rfl rfl rfl ?_
  refine jT_xiinc (x := 5) (z := 6) (LN := [(3, (0, 6)), (0, (4, 0)), (1, (4, 1)), (2, (0, 7 * x1))]) (pcN := 23) jIH_197_20 rfl rfl (by decide) rfl rfl ?_
  refine jT_xgoto (pcN := 2) jIH_197_23 rfl ?_
  refine jT_xiload_n (v := (0, 6)) (pcN := 3) jIH_197_2 rfl rfl rfl ?_
  refine jT_xbipush (k := 6) (pcN := 5) jIH_197_3 (by decide) rfl ?_
  refine jT_xicT (pcN := 26) jIH_197_5 rfl (by decide +kernel) rfl ?_
  refine jT_xaload_n (v := (4, 1)) (pcN := 27) jIH_197_26 rfl rfl rfl ?_
  refine jT_xiload_n (v := (0, 7 * x1)) (pcN := 28) jIH_197_27 rfl rfl rfl ?_
  refine jT_xbipush (k := 6) (pcN := 30) jIH_197_28 (by decide) rfl ?_
  refine jT_xiadd (x := 7 * x1) (y := 6) (z := 7 * x1 + 6) (pcN := 31) jIH_197_30 rfl (by omega) rfl ?_
  refine jT_xaload_n (v := (4, 0)) (pcN := 32) jIH_197_31 rfl rfl rfl ?_
  refine jT_xgetf (a := 0) (t := 1) (ci := 14) (fi := 10) (c := jzH_319) (v := (1, 1)) (pcN := 35) jIH_197_32 rfl rfl rfl rfl rfl rfl rfl ?_
  refine jT_xl2i (pcN := 36) jIH_197_35 rfl rfl ?_
  refine jT_iast (x := 1) (a := 1) (j := (7 * x1 + 6).toNat) (fs := []) (X := ((((((((((((jS0).set ((7 * x1).toNat) (q1 - q2))).set ((7 * x1 + 1).toNat) (q3 - q4))).set ((7 * x1 + 2).toNat) (q5 - q6))).set ((7 * x1 + 3).toNat) (q7 - q8))).set ((7 * x1 + 4).toNat) (-q10 + q9))).set ((7 * x1 + 5).toNat) (q11 - q12))) (by rfl) (by rfl) (by rfl) (jw_nn (by omega) (by omega)) (by rw [show List.length (((((((((((((jS0).set ((7 * x1).toNat) (q1 - q2))).set ((7 * x1 + 1).toNat) (q3 - q4))).set ((7 * x1 + 2).toNat) (q5 - q6))).set ((7 * x1 + 3).toNat) (q7 - q8))).set ((7 * x1 + 4).toNat) (-q10 + q9))).set ((7 * x1 + 5).toNat) (q11 - q12)) : List Int) = 1613 from by rw [List.length_set, List.length_set, List.length_set, List.length_set, List.length_set, List.length_set]; exact (jS0_len)]; omega) ?_
  refine jT_eq (LN := [(3, (0, 6)), (0, (4, 0)), (1, (4, 1)), (2, (0, 7 * x1))]) (stN := []) (hsN := [jzH_319, (100, [], ((((((((((((((jS0).set ((7 * x1).toNat) (q1 - q2))).set ((7 * x1 + 1).toNat) (q3 - q4))).set ((7 * x1 + 2).toNat) (q5 - q6))).set ((7 * x1 + 3).toNat) (q7 - q8))).set ((7 * x1 + 4).toNat) (-q10 + q9))).set ((7 * x1 + 5).toNat) (q11 - q12))).set ((7 * x1 + 6).toNat) 1)), jgh, jgh, jgh, jgh, jgh, (101, [], [q1 - q2, q3 - q4, q5 - q6, q7 - q8, -q10 + q9, q11 - q12]), jgh, jgh, jgh, jgh, jgh, jgh, jgh, jgh]) rfl rfl rfl ?_
  exact jT_ret rfl (by decide) (by show 16 ≤ 16; omega) (by omega) (by omega) ⟨rfl, rfl, rfl⟩
theorem jH_196_82 {xs : List Int} {d : Nat} {q1 q10 q11 q12 q2 q3 q4 q5 q6 q7 q8 q9 x1 : Int} (h_q1 : 0 ≤ q1 ∧ q1 ≤ 20) (h_q10 : 0 ≤ q10 ∧ q10 ≤ 20) (h_q11 : 0 ≤ q11 ∧ q11 ≤ 20) (h_q12 : 0 ≤ q12 ∧ q12 ≤ 20) (h_q2 : 0 ≤ q2 ∧ q2 ≤ 20) (h_q3 : 0 ≤ q3 ∧ q3 ≤ 20) (h_q4 : 0 ≤ q4 ∧ q4 ≤ 20) (h_q5 : 0 ≤ q5 ∧ q5 ≤ 20) (h_q6 : 0 ≤ q6 ∧ q6 ≤ 20) (h_q7 : 0 ≤ q7 ∧ q7 ≤ 20) (h_q8 : 0 ≤ q8 ∧ q8 ≤ 20) (h_q9 : 0 ≤ q9 ∧ q9 ≤ 20) (h_x1 : 0 ≤ x1 ∧ x1 ≤ 7) : jT xs (d + 1) 196 16 0 [(0, (4, 0)), (1, (0, x1))] [] [jzH_319, (100, [], jS0), jgh, jgh, jgh, jgh, jgh, (101, [], [q1 - q2, q3 - q4, q5 - q6, q7 - q8, -q10 + q9, q11 - q12]), jgh, jgh, jgh, jgh, jgh, jgh, jgh, jgh] 0 0 (fun k v hsN => k = 0 ∧ v = (0, 1) ∧ hsN = [jzH_319, (100, [], ((((((((((((((jS0).set ((7 * x1).toNat) (q1 - q2))).set ((7 * x1 + 1).toNat) (q3 - q4))).set ((7 * x1 + 2).toNat) (q5 - q6))).set ((7 * x1 + 3).toNat) (q7 - q8))).set ((7 * x1 + 4).toNat) (-q10 + q9))).set ((7 * x1 + 5).toNat) (q11 - q12))).set ((7 * x1 + 6).toNat) 1)), jgh, jgh, jgh, jgh, jgh, (101, [], [q1 - q2, q3 - q4, q5 - q6, q7 - q8, -q10 + q9, q11 - q12]), jgh, jgh, jgh, jgh, jgh, jgh, jgh, jgh]) := by
  refine jT_xaload_n (v := (4, 0)) (pcN := 1) jIH_196_0 rfl rfl rfl ?_
  refine jT_xaload_n (v := (4, 0)) (pcN := 2) jIH_196_1 rfl rfl rfl ?_
  refine jT_xgetf (a := 0) (t := 1) (ci := 14) (fi := 1) (c := jzH_319) (v := (4, 1)) (pcN := 5) jIH_196_2 rfl rfl rfl rfl rfl rfl rfl ?_
  refine jT_xbipush (k := 7) (pcN := 7) jIH_196_5 (by decide) rfl ?_
  refine jT_xiload_n (v := (0, x1)) (pcN := 8) jIH_196_7 rfl rfl rfl ?_
  refine jT_ximul (x := 7) (y := x1) (z := 7 * x1) (pcN := 9) jIH_196_8 rfl (rfl) rfl ?_
  refine jT_callB [0, 1, 2, 3, 4, 5, 6, 7, 8, 9, 10, 11, 12, 13, 14, 15] (y := 197) (pcN := 12) (dC := 0) (bc1 := 0) (bc2 := 0) (c1 := 0) (c2 := 0) (as := [(4, 0), (4, 1), (0, 7 * x1)]) (asC := [(4, 0), (4, 1), (0, 7 * x1)]) (LN := [(0, (4, 0)), (1, (0, x1))]) (stN := []) (hsC := [jzH_319, (100, [], jS0), jgh, jgh, jgh, jgh, jgh, (101, [], [q1 - q2, q3 - q4, q5 - q6, q7 - q8, -q10 + q9, q11 - q12]), jgh, jgh, jgh, jgh, jgh, jgh, jgh, jgh]) (hsD := [jzH_319, (100, [], ((((((((((((((jS0).set ((7 * x1).toNat) (q1 - q2))).set ((7 * x1 + 1).toNat) (q3 - q4))).set ((7 * x1 + 2).toNat) (q5 - q6))).set ((7 * x1 + 3).toNat) (q7 - q8))).set ((7 * x1 + 4).toNat) (-q10 + q9))).set ((7 * x1 + 5).toNat) (q11 - q12))).set ((7 * x1 + 6).toNat) 1)), jgh, jgh, jgh, jgh, jgh, (101, [], [q1 - q2, q3 - q4, q5 - q6, q7 - q8, -q10 + q9, q11 - q12]), jgh, jgh, jgh, jgh, jgh, jgh, jgh, jgh]) (v := (9, 0)) (st2 := []) (hs2 := [jzH_319, (100, [], ((((((((((((((jS0).set ((7 * x1).toNat) (q1 - q2))).set ((7 * x1 + 1).toNat) (q3 - q4))).set ((7 * x1 + 2).toNat) (q5 - q6))).set ((7 * x1 + 3).toNat) (q7 - q8))).set ((7 * x1 + 4).toNat) (-q10 + q9))).set ((7 * x1 + 5).toNat) (q11 - q12))).set ((7 * x1 + 6).toNat) 1)), jgh, jgh, jgh, jgh, jgh, (101, [], [q1 - q2, q3 - q4, q5 - q6, q7 - q8, -q10 + q9, q11 - q12]), jgh, jgh, jgh, jgh, jgh, jgh, jgh, jgh]) (jH_197_81 (d := 0) (by omega) (by omega) (by omega) (by omega) (by omega) (by omega) (by omega) (by omega) (by omega) (by omega) (by omega) (by omega) (by omega)) (by rfl) (by rfl) (by rfl) (by rfl) ⟨rfl, rfl, rfl, rfl, rfl, rfl, rfl, rfl, rfl, rfl, rfl, rfl, rfl, rfl, rfl, rfl, trivial⟩ (by rfl) (by rfl) (by omega) (by show 16 ≤ 16; omega) (by omega) (by omega) rfl rfl ?_
  refine jT_xaload_n (v := (4, 0)) (pcN := 13) jIH_196_12 rfl rfl rfl ?_
  refine jT_xgetf (a := 0) (t := 1) (ci := 14) (fi := 10) (c := jzH_319) (v := (1, 1)) (pcN := 16) jIH_196_13 rfl rfl rfl rfl rfl rfl rfl ?_
  refine jT_xl2i (pcN := 17) jIH_196_16 rfl rfl ?_
  exact jT_ret rfl (by decide) (by show 16 ≤ 16; omega) (by omega) (by omega) ⟨rfl, rfl, rfl⟩
def jpH_354 : List JC := [jzH_20, (100, [], jS0), (100, [], []), jzH_315, jzH_316, jgh, jgh, (101, [], [0, 0, 0, 0, 0, 0]), jgh, jgh, jgh, jgh, jgh, jgh, jgh, jgh, (100, [], (List.replicate 1613 0)), jgh, jgh, jgh, jgh, jgh, jgh, jgh]
theorem jIH_187_64 : jmI (jm 187) 64 = (.aload_n 0, 1) := by rfl
theorem jIH_187_68 : jmI (jm 187) 68 = (.aload_n 0, 1) := by rfl
theorem jIH_187_69 : jmI (jm 187) 69 = (.iload_n 1, 1) := by rfl
theorem jIH_187_74 : jmI (jm 187) 74 = (.iload_n 2, 1) := by rfl
theorem jIH_187_75 : jmI (jm 187) 75 = (.iload_n 3, 1) := by rfl
theorem jIH_187_76 : jmI (jm 187) 76 = (.if_icmp .le 7, 3) := by rfl
theorem jIH_187_79 : jmI (jm 187) 79 = (.iconst 1, 1) := by rfl
theorem jIH_187_80 : jmI (jm 187) 80 = (.goto 4, 3) := by rfl
theorem jH_187_83 {xs : List Int} {d : Nat} {x1 x2 x3 : Int} (h_x1 : 0 ≤ x1 ∧ x1 ≤ 7) (h_x2 : 1 ≤ x2 ∧ x2 ≤ 1000000) (h_x3 : 1 ≤ x3 ∧ x3 ≤ 1000000) (g_0 : (jsu 13 20 (jsu 11 20 (jsu 7 20 (jsu 5 20 (jsu 3 20 (jsu 2 20 (x2.tdiv (((Nat.gcd (x2).natAbs (x3).natAbs : Nat) : Int))))))))) - 2 < 0) (g_1 : (jsu 13 20 (jsu 11 20 (jsu 7 20 (jsu 5 20 (jsu 3 20 (jsu 2 20 (x3.tdiv (((Nat.gcd (x2).natAbs (x3).natAbs : Nat) : Int))))))))) - 2 < 0) (g_2 : 0 ≤ x2 - x3 - 1) : jT xs (d + 43) 187 24 0 [(0, (4, 0)), (1, (0, x1)), (2, (0, x2)), (3, (0, x3))] [] jpH_354 0 0 (fun k v hsN => k = 0 ∧ v = (0, 1) ∧ hsN = [jzH_319, jgh, (100, [], []), jzH_315, jzH_320, jgh, jgh, (101, [], [(jsc 2 20 (x2.tdiv (((Nat.gcd (x2).natAbs (x3).natAbs : Nat) : Int)))) - (jsc 2 20 (x3.tdiv (((Nat.gcd (x2).natAbs (x3).natAbs : Nat) : Int)))), (jsc 3 20 (jsu 2 20 (x2.tdiv (((Nat.gcd (x2).natAbs (x3).natAbs : Nat) : Int))))) - (jsc 3 20 (jsu 2 20 (x3.tdiv (((Nat.gcd (x2).natAbs (x3).natAbs : Nat) : Int))))), (jsc 5 20 (jsu 3 20 (jsu 2 20 (x2.tdiv (((Nat.gcd (x2).natAbs (x3).natAbs : Nat) : Int)))))) - (jsc 5 20 (jsu 3 20 (jsu 2 20 (x3.tdiv (((Nat.gcd (x2).natAbs (x3).natAbs : Nat) : Int)))))), (jsc 7 20 (jsu 5 20 (jsu 3 20 (jsu 2 20 (x2.tdiv (((Nat.gcd (x2).natAbs (x3).natAbs : Nat) : Int))))))) - (jsc 7 20 (jsu 5 20 (jsu 3 20 (jsu 2 20 (x3.tdiv (((Nat.gcd (x2).natAbs (x3).natAbs : Nat) : Int))))))), -(jsc 11 20 (jsu 7 20 (jsu 5 20 (jsu 3 20 (jsu 2 20 (x3.tdiv (((Nat.gcd (x2).natAbs (x3).natAbs : Nat) : Int)))))))) + (jsc 11 20 (jsu 7 20 (jsu 5 20 (jsu 3 20 (jsu 2 20 (x2.tdiv (((Nat.gcd (x2).natAbs (x3).natAbs : Nat) : Int)))))))), (jsc 13 20 (jsu 11 20 (jsu 7 20 (jsu 5 20 (jsu 3 20 (jsu 2 20 (x2.tdiv (((Nat.gcd (x2).natAbs (x3).natAbs : Nat) : Int))))))))) - (jsc 13 20 (jsu 11 20 (jsu 7 20 (jsu 5 20 (jsu 3 20 (jsu 2 20 (x3.tdiv (((Nat.gcd (x2).natAbs (x3).natAbs : Nat) : Int)))))))))]), jgh, jgh, jgh, jgh, jgh, jgh, jgh, jgh, (100, [], jS0), jgh, jgh, jgh, jgh, jgh, jgh, jgh]) := by
  refine jT_xaload_n (v := (4, 0)) (pcN := 1) jIH_187_0 rfl rfl rfl ?_
  refine jT_xiload_n (v := (0, x1)) (pcN := 2) jIH_187_1 rfl rfl rfl ?_
  refine jT_fR [] 24 (y := 188) (pcN := 5) (dC := 1) (bc1 := 0) (bc2 := 0) (c1 := 0) (c2 := 0) (as := [(0, x1)]) (asC := [(0, x1)]) (LN := [(0, (4, 0)), (1, (0, x1)), (2, (0, x2)), (3, (0, x3))]) (stN := [(4, 0)]) (hsC := []) (v := (0, 1)) (st2 := [(0, 1), (4, 0)]) (jH_188_13 (d := 0) (by omega)) (by rfl) (by rfl) (by decide +kernel) (by rfl) (by rfl) (by omega) (by omega) (by omega) (by omega) rfl ?_
  refine jT_fR [0, 1, 2, 3, 4, 5, 6, 7, 8, 9, 10, 11, 12, 13, 14, 15] 24 (y := 190) (pcN := 8) (dC := 1) (bc1 := 0) (bc2 := 0) (c1 := 0) (c2 := 0) (as := [(4, 0), (0, 1)]) (asC := [(4, 0), (0, 1)]) (LN := [(0, (4, 0)), (1, (0, x1)), (2, (0, x2)), (3, (0, x3))]) (stN := []) (hsC := jpH_21) (v := (0, 0)) (st2 := [(0, 0)]) (jH_190_15 (d := 0)) (by rfl) (by rfl) (by decide +kernel) (by rfl) (by rfl) (by omega) (by omega) (by omega) (by omega) rfl ?_
  refine jT_xifF (t := 62) (pcN := 11) jIH_187_8 rfl (by decide +kernel) rfl rfl ?_
  refine jT_xaload_n (v := (4, 0)) (pcN := 12) jIH_187_11 rfl rfl rfl ?_
  refine jT_xiload_n (v := (0, x2)) (pcN := 13) jIH_187_12 rfl rfl rfl ?_
  refine jT_xi2l (x := x2) (z := x2) (pcN := 14) jIH_187_13 rfl (jw_idd (by omega) (by omega)) rfl ?_
  refine jT_xlconst (z := 1) (pcN := 15) jIH_187_14 rfl rfl ?_
  refine jT_adv 1 (pcN := 18) (LN := [(0, (4, 0)), (1, (0, x1)), (2, (0, x2)), (3, (0, x3))]) (stN := [(1, 1000000), (1, 1), (1, x2), (4, 0)]) (hsN := jpH_354) (c1 := 0) (s1 := 0) (c2 := 0) (s2 := 0) (by exact rfl) ?_ (by omega) (by omega)
  refine jT_fR [] 24 (y := 189) (pcN := 21) (dC := 0) (bc1 := 0) (bc2 := 0) (c1 := 0) (c2 := 0) (as := [(1, x2), (1, 1), (1, 1000000)]) (asC := [(1, x2), (1, 1), (1, 1000000)]) (LN := [(0, (4, 0)), (1, (0, x1)), (2, (0, x2)), (3, (0, x3))]) (stN := [(4, 0)]) (hsC := []) (v := (0, 1)) (st2 := [(0, 1), (4, 0)]) (jT_in_ok (d := 0) (v := x2) (lo := 1) (hi := 1000000) (by omega) (by omega) (by omega) (by omega) (by omega)) (by rfl) (by rfl) (by decide +kernel) (by rfl) (by rfl) (by omega) (by omega) (by omega) (by omega) rfl ?_
  refine jT_xifF (t := 40) (pcN := 24) jIH_187_21 rfl (by decide +kernel) rfl rfl ?_
  refine jT_xiload_n (v := (0, x3)) (pcN := 25) jIH_187_24 rfl rfl rfl ?_
  refine jT_xi2l (x := x3) (z := x3) (pcN := 26) jIH_187_25 rfl (jw_idd (by omega) (by omega)) rfl ?_
  refine jT_xlconst (z := 1) (pcN := 27) jIH_187_26 rfl rfl ?_
  refine jT_adv 1 (pcN := 30) (LN := [(0, (4, 0)), (1, (0, x1)), (2, (0, x2)), (3, (0, x3))]) (stN := [(1, 1000000), (1, 1), (1, x3), (4, 0)]) (hsN := jpH_354) (c1 := 0) (s1 := 0) (c2 := 0) (s2 := 0) (by exact rfl) ?_ (by omega) (by omega)
  refine jT_fR [] 24 (y := 189) (pcN := 33) (dC := 0) (bc1 := 0) (bc2 := 0) (c1 := 0) (c2 := 0) (as := [(1, x3), (1, 1), (1, 1000000)]) (asC := [(1, x3), (1, 1), (1, 1000000)]) (LN := [(0, (4, 0)), (1, (0, x1)), (2, (0, x2)), (3, (0, x3))]) (stN := [(4, 0)]) (hsC := []) (v := (0, 1)) (st2 := [(0, 1), (4, 0)]) (jT_in_ok (d := 0) (v := x3) (lo := 1) (hi := 1000000) (by omega) (by omega) (by omega) (by omega) (by omega)) (by rfl) (by rfl) (by decide +kernel) (by rfl) (by rfl) (by omega) (by omega) (by omega) (by omega) rfl ?_
  refine jT_xifF (t := 40) (pcN := 36) jIH_187_33 rfl (by decide +kernel) rfl rfl ?_
  refine jT_xiconst (k := 1) (pcN := 37) jIH_187_36 rfl ?_
  refine jT_xgoto (pcN := 41) jIH_187_37 rfl ?_
  refine jT_xiconst (k := 2) (pcN := 42) jIH_187_41 rfl ?_
  refine jT_fR [0] 24 (y := 191) (pcN := 45) (dC := 0) (bc1 := 0) (bc2 := 0) (c1 := 0) (c2 := 0) (as := [(4, 0), (0, 1), (0, 2)]) (asC := [(4, 0), (0, 1), (0, 2)]) (LN := [(0, (4, 0)), (1, (0, x1)), (2, (0, x2)), (3, (0, x3))]) (stN := []) (hsC := [jgh]) (v := (0, 0)) (st2 := [(0, 0)]) (jH_191_41 (d := 0)) (by rfl) (by rfl) (by decide +kernel) (by rfl) (by rfl) (by omega) (by omega) (by omega) (by omega) rfl ?_
  refine jT_xifF (t := 62) (pcN := 48) jIH_187_45 rfl (by decide +kernel) rfl rfl ?_
  refine jT_xaload_n (v := (4, 0)) (pcN := 49) jIH_187_48 rfl rfl rfl ?_
  refine jT_xaload_n (v := (4, 0)) (pcN := 50) jIH_187_49 rfl rfl rfl ?_
  refine jT_xiload_n (v := (0, x2)) (pcN := 51) jIH_187_50 rfl rfl rfl ?_
  refine jT_xiload_n (v := (0, x3)) (pcN := 52) jIH_187_51 rfl rfl rfl ?_
  refine jT_fB [0, 1, 2, 3, 4, 5, 6, 7, 8, 9, 10, 11, 12, 13, 14, 15] 24 (y := 192) (pcN := 55) (dC := 42) (bc1 := 0) (bc2 := 0) (c1 := 0) (c2 := 0) (as := [(4, 0), (0, x2), (0, x3)]) (asC := [(4, 0), (0, x2), (0, x3)]) (LN := [(0, (4, 0)), (1, (0, x1)), (2, (0, x2)), (3, (0, x3))]) (stN := [(4, 0)]) (hsC := jpH_134) (hsD := [jzH_20, jgh, jgh, jgh, jgh, jgh, jgh, (101, [], [(jsc 2 20 (x2.tdiv (((Nat.gcd (x2).natAbs (x3).natAbs : Nat) : Int)))) - (jsc 2 20 (x3.tdiv (((Nat.gcd (x2).natAbs (x3).natAbs : Nat) : Int)))), -(jsc 3 20 (jsu 2 20 (x3.tdiv (((Nat.gcd (x2).natAbs (x3).natAbs : Nat) : Int))))) + (jsc 3 20 (jsu 2 20 (x2.tdiv (((Nat.gcd (x2).natAbs (x3).natAbs : Nat) : Int))))), (jsc 5 20 (jsu 3 20 (jsu 2 20 (x2.tdiv (((Nat.gcd (x2).natAbs (x3).natAbs : Nat) : Int)))))) - (jsc 5 20 (jsu 3 20 (jsu 2 20 (x3.tdiv (((Nat.gcd (x2).natAbs (x3).natAbs : Nat) : Int)))))), (jsc 7 20 (jsu 5 20 (jsu 3 20 (jsu 2 20 (x2.tdiv (((Nat.gcd (x2).natAbs (x3).natAbs : Nat) : Int))))))) - (jsc 7 20 (jsu 5 20 (jsu 3 20 (jsu 2 20 (x3.tdiv (((Nat.gcd (x2).natAbs (x3).natAbs : Nat) : Int))))))), (jsc 11 20 (jsu 7 20 (jsu 5 20 (jsu 3 20 (jsu 2 20 (x2.tdiv (((Nat.gcd (x2).natAbs (x3).natAbs : Nat) : Int)))))))) - (jsc 11 20 (jsu 7 20 (jsu 5 20 (jsu 3 20 (jsu 2 20 (x3.tdiv (((Nat.gcd (x2).natAbs (x3).natAbs : Nat) : Int)))))))), (jsc 13 20 (jsu 11 20 (jsu 7 20 (jsu 5 20 (jsu 3 20 (jsu 2 20 (x2.tdiv (((Nat.gcd (x2).natAbs (x3).natAbs : Nat) : Int))))))))) - (jsc 13 20 (jsu 11 20 (jsu 7 20 (jsu 5 20 (jsu 3 20 (jsu 2 20 (x3.tdiv (((Nat.gcd (x2).natAbs (x3).natAbs : Nat) : Int)))))))))]), jgh, jgh, jgh, jgh, jgh, jgh, jgh, jgh]) (v := (0, 1)) (st2 := [(0, 1), (4, 0)]) (hs2 := [jzH_20, (100, [], jS0), (100, [], []), jzH_315, jzH_316, jgh, jgh, (101, [], [(jsc 2 20 (x2.tdiv (((Nat.gcd (x2).natAbs (x3).natAbs : Nat) : Int)))) - (jsc 2 20 (x3.tdiv (((Nat.gcd (x2).natAbs (x3).natAbs : Nat) : Int)))), -(jsc 3 20 (jsu 2 20 (x3.tdiv (((Nat.gcd (x2).natAbs (x3).natAbs : Nat) : Int))))) + (jsc 3 20 (jsu 2 20 (x2.tdiv (((Nat.gcd (x2).natAbs (x3).natAbs : Nat) : Int))))), (jsc 5 20 (jsu 3 20 (jsu 2 20 (x2.tdiv (((Nat.gcd (x2).natAbs (x3).natAbs : Nat) : Int)))))) - (jsc 5 20 (jsu 3 20 (jsu 2 20 (x3.tdiv (((Nat.gcd (x2).natAbs (x3).natAbs : Nat) : Int)))))), (jsc 7 20 (jsu 5 20 (jsu 3 20 (jsu 2 20 (x2.tdiv (((Nat.gcd (x2).natAbs (x3).natAbs : Nat) : Int))))))) - (jsc 7 20 (jsu 5 20 (jsu 3 20 (jsu 2 20 (x3.tdiv (((Nat.gcd (x2).natAbs (x3).natAbs : Nat) : Int))))))), (jsc 11 20 (jsu 7 20 (jsu 5 20 (jsu 3 20 (jsu 2 20 (x2.tdiv (((Nat.gcd (x2).natAbs (x3).natAbs : Nat) : Int)))))))) - (jsc 11 20 (jsu 7 20 (jsu 5 20 (jsu 3 20 (jsu 2 20 (x3.tdiv (((Nat.gcd (x2).natAbs (x3).natAbs : Nat) : Int)))))))), (jsc 13 20 (jsu 11 20 (jsu 7 20 (jsu 5 20 (jsu 3 20 (jsu 2 20 (x2.tdiv (((Nat.gcd (x2).natAbs (x3).natAbs : Nat) : Int))))))))) - (jsc 13 20 (jsu 11 20 (jsu 7 20 (jsu 5 20 (jsu 3 20 (jsu 2 20 (x3.tdiv (((Nat.gcd (x2).natAbs (x3).natAbs : Nat) : Int)))))))))]), jgh, jgh, jgh, jgh, jgh, jgh, jgh, jgh, (100, [], (List.replicate 1613 0)), jgh, jgh, jgh, jgh, jgh, jgh, jgh]) (jH_192_76 (d := 0) (by omega) (by omega) (by omega) (by omega) (by omega)) (by rfl) (by rfl) (by decide +kernel) (by rfl) (by rfl) (by omega) (by omega) (by omega) (by omega) rfl rfl ?_
  have hb_q1 := jsc_b (P := 2) (n := 20) (u := (x2.tdiv (((Nat.gcd (x2).natAbs (x3).natAbs : Nat) : Int))))
  have hb_q1 : 0 ≤ jsc 2 20 (x2.tdiv (((Nat.gcd (x2).natAbs (x3).natAbs : Nat) : Int))) ∧ jsc 2 20 (x2.tdiv (((Nat.gcd (x2).natAbs (x3).natAbs : Nat) : Int))) ≤ 20 := ⟨hb_q1.1, by omega⟩
  generalize hq_q1 : jsc 2 20 (x2.tdiv (((Nat.gcd (x2).natAbs (x3).natAbs : Nat) : Int))) = q1 at hb_q1 ⊢
  have hb_q2 := jsc_b (P := 2) (n := 20) (u := (x3.tdiv (((Nat.gcd (x2).natAbs (x3).natAbs : Nat) : Int))))
  have hb_q2 : 0 ≤ jsc 2 20 (x3.tdiv (((Nat.gcd (x2).natAbs (x3).natAbs : Nat) : Int))) ∧ jsc 2 20 (x3.tdiv (((Nat.gcd (x2).natAbs (x3).natAbs : Nat) : Int))) ≤ 20 := ⟨hb_q2.1, by omega⟩
  generalize hq_q2 : jsc 2 20 (x3.tdiv (((Nat.gcd (x2).natAbs (x3).natAbs : Nat) : Int))) = q2 at hb_q2 ⊢
  have hb_q3 := jsc_b (P := 3) (n := 20) (u := (jsu 2 20 (x2.tdiv (((Nat.gcd (x2).natAbs (x3).natAbs : Nat) : Int)))))
  have hb_q3 : 0 ≤ jsc 3 20 (jsu 2 20 (x2.tdiv (((Nat.gcd (x2).natAbs (x3).natAbs : Nat) : Int)))) ∧ jsc 3 20 (jsu 2 20 (x2.tdiv (((Nat.gcd (x2).natAbs (x3).natAbs : Nat) : Int)))) ≤ 20 := ⟨hb_q3.1, by omega⟩
  generalize hq_q3 : jsc 3 20 (jsu 2 20 (x2.tdiv (((Nat.gcd (x2).natAbs (x3).natAbs : Nat) : Int)))) = q3 at hb_q3 ⊢
  have hb_q4 := jsc_b (P := 3) (n := 20) (u := (jsu 2 20 (x3.tdiv (((Nat.gcd (x2).natAbs (x3).natAbs : Nat) : Int)))))
  have hb_q4 : 0 ≤ jsc 3 20 (jsu 2 20 (x3.tdiv (((Nat.gcd (x2).natAbs (x3).natAbs : Nat) : Int)))) ∧ jsc 3 20 (jsu 2 20 (x3.tdiv (((Nat.gcd (x2).natAbs (x3).natAbs : Nat) : Int)))) ≤ 20 := ⟨hb_q4.1, by omega⟩
  generalize hq_q4 : jsc 3 20 (jsu 2 20 (x3.tdiv (((Nat.gcd (x2).natAbs (x3).natAbs : Nat) : Int)))) = q4 at hb_q4 ⊢
  have hb_q5 := jsc_b (P := 5) (n := 20) (u := (jsu 3 20 (jsu 2 20 (x2.tdiv (((Nat.gcd (x2).natAbs (x3).natAbs : Nat) : Int))))))
  have hb_q5 : 0 ≤ jsc 5 20 (jsu 3 20 (jsu 2 20 (x2.tdiv (((Nat.gcd (x2).natAbs (x3).natAbs : Nat) : Int))))) ∧ jsc 5 20 (jsu 3 20 (jsu 2 20 (x2.tdiv (((Nat.gcd (x2).natAbs (x3).natAbs : Nat) : Int))))) ≤ 20 := ⟨hb_q5.1, by omega⟩
  generalize hq_q5 : jsc 5 20 (jsu 3 20 (jsu 2 20 (x2.tdiv (((Nat.gcd (x2).natAbs (x3).natAbs : Nat) : Int))))) = q5 at hb_q5 ⊢
  have hb_q6 := jsc_b (P := 5) (n := 20) (u := (jsu 3 20 (jsu 2 20 (x3.tdiv (((Nat.gcd (x2).natAbs (x3).natAbs : Nat) : Int))))))
  have hb_q6 : 0 ≤ jsc 5 20 (jsu 3 20 (jsu 2 20 (x3.tdiv (((Nat.gcd (x2).natAbs (x3).natAbs : Nat) : Int))))) ∧ jsc 5 20 (jsu 3 20 (jsu 2 20 (x3.tdiv (((Nat.gcd (x2).natAbs (x3).natAbs : Nat) : Int))))) ≤ 20 := ⟨hb_q6.1, by omega⟩
  generalize hq_q6 : jsc 5 20 (jsu 3 20 (jsu 2 20 (x3.tdiv (((Nat.gcd (x2).natAbs (x3).natAbs : Nat) : Int))))) = q6 at hb_q6 ⊢
  have hb_q7 := jsc_b (P := 7) (n := 20) (u := (jsu 5 20 (jsu 3 20 (jsu 2 20 (x2.tdiv (((Nat.gcd (x2).natAbs (x3).natAbs : Nat) : Int)))))))
  have hb_q7 : 0 ≤ jsc 7 20 (jsu 5 20 (jsu 3 20 (jsu 2 20 (x2.tdiv (((Nat.gcd (x2).natAbs (x3).natAbs : Nat) : Int)))))) ∧ jsc 7 20 (jsu 5 20 (jsu 3 20 (jsu 2 20 (x2.tdiv (((Nat.gcd (x2).natAbs (x3).natAbs : Nat) : Int)))))) ≤ 20 := ⟨hb_q7.1, by omega⟩
  generalize hq_q7 : jsc 7 20 (jsu 5 20 (jsu 3 20 (jsu 2 20 (x2.tdiv (((Nat.gcd (x2).natAbs (x3).natAbs : Nat) : Int)))))) = q7 at hb_q7 ⊢
  have hb_q8 := jsc_b (P := 7) (n := 20) (u := (jsu 5 20 (jsu 3 20 (jsu 2 20 (x3.tdiv (((Nat.gcd (x2).natAbs (x3).natAbs : Nat) : Int)))))))
  have hb_q8 : 0 ≤ jsc 7 20 (jsu 5 20 (jsu 3 20 (jsu 2 20 (x3.tdiv (((Nat.gcd (x2).natAbs (x3).natAbs : Nat) : Int)))))) ∧ jsc 7 20 (jsu 5 20 (jsu 3 20 (jsu 2 20 (x3.tdiv (((Nat.gcd (x2).natAbs (x3).natAbs : Nat) : Int)))))) ≤ 20 := ⟨hb_q8.1, by omega⟩
  generalize hq_q8 : jsc 7 20 (jsu 5 20 (jsu 3 20 (jsu 2 20 (x3.tdiv (((Nat.gcd (x2).natAbs (x3).natAbs : Nat) : Int)))))) = q8 at hb_q8 ⊢
  have hb_q9 := jsc_b (P := 11) (n := 20) (u := (jsu 7 20 (jsu 5 20 (jsu 3 20 (jsu 2 20 (x2.tdiv (((Nat.gcd (x2).natAbs (x3).natAbs : Nat) : Int))))))))
  have hb_q9 : 0 ≤ jsc 11 20 (jsu 7 20 (jsu 5 20 (jsu 3 20 (jsu 2 20 (x2.tdiv (((Nat.gcd (x2).natAbs (x3).natAbs : Nat) : Int))))))) ∧ jsc 11 20 (jsu 7 20 (jsu 5 20 (jsu 3 20 (jsu 2 20 (x2.tdiv (((Nat.gcd (x2).natAbs (x3).natAbs : Nat) : Int))))))) ≤ 20 := ⟨hb_q9.1, by omega⟩
  generalize hq_q9 : jsc 11 20 (jsu 7 20 (jsu 5 20 (jsu 3 20 (jsu 2 20 (x2.tdiv (((Nat.gcd (x2).natAbs (x3).natAbs : Nat) : Int))))))) = q9 at hb_q9 ⊢
  have hb_q10 := jsc_b (P := 11) (n := 20) (u := (jsu 7 20 (jsu 5 20 (jsu 3 20 (jsu 2 20 (x3.tdiv (((Nat.gcd (x2).natAbs (x3).natAbs : Nat) : Int))))))))
  have hb_q10 : 0 ≤ jsc 11 20 (jsu 7 20 (jsu 5 20 (jsu 3 20 (jsu 2 20 (x3.tdiv (((Nat.gcd (x2).natAbs (x3).natAbs : Nat) : Int))))))) ∧ jsc 11 20 (jsu 7 20 (jsu 5 20 (jsu 3 20 (jsu 2 20 (x3.tdiv (((Nat.gcd (x2).natAbs (x3).natAbs : Nat) : Int))))))) ≤ 20 := ⟨hb_q10.1, by omega⟩
  generalize hq_q10 : jsc 11 20 (jsu 7 20 (jsu 5 20 (jsu 3 20 (jsu 2 20 (x3.tdiv (((Nat.gcd (x2).natAbs (x3).natAbs : Nat) : Int))))))) = q10 at hb_q10 ⊢
  have hb_q11 := jsc_b (P := 13) (n := 20) (u := (jsu 11 20 (jsu 7 20 (jsu 5 20 (jsu 3 20 (jsu 2 20 (x2.tdiv (((Nat.gcd (x2).natAbs (x3).natAbs : Nat) : Int)))))))))
  have hb_q11 : 0 ≤ jsc 13 20 (jsu 11 20 (jsu 7 20 (jsu 5 20 (jsu 3 20 (jsu 2 20 (x2.tdiv (((Nat.gcd (x2).natAbs (x3).natAbs : Nat) : Int)))))))) ∧ jsc 13 20 (jsu 11 20 (jsu 7 20 (jsu 5 20 (jsu 3 20 (jsu 2 20 (x2.tdiv (((Nat.gcd (x2).natAbs (x3).natAbs : Nat) : Int)))))))) ≤ 20 := ⟨hb_q11.1, by omega⟩
  generalize hq_q11 : jsc 13 20 (jsu 11 20 (jsu 7 20 (jsu 5 20 (jsu 3 20 (jsu 2 20 (x2.tdiv (((Nat.gcd (x2).natAbs (x3).natAbs : Nat) : Int)))))))) = q11 at hb_q11 ⊢
  have hb_q12 := jsc_b (P := 13) (n := 20) (u := (jsu 11 20 (jsu 7 20 (jsu 5 20 (jsu 3 20 (jsu 2 20 (x3.tdiv (((Nat.gcd (x2).natAbs (x3).natAbs : Nat) : Int)))))))))
  have hb_q12 : 0 ≤ jsc 13 20 (jsu 11 20 (jsu 7 20 (jsu 5 20 (jsu 3 20 (jsu 2 20 (x3.tdiv (((Nat.gcd (x2).natAbs (x3).natAbs : Nat) : Int)))))))) ∧ jsc 13 20 (jsu 11 20 (jsu 7 20 (jsu 5 20 (jsu 3 20 (jsu 2 20 (x3.tdiv (((Nat.gcd (x2).natAbs (x3).natAbs : Nat) : Int)))))))) ≤ 20 := ⟨hb_q12.1, by omega⟩
  generalize hq_q12 : jsc 13 20 (jsu 11 20 (jsu 7 20 (jsu 5 20 (jsu 3 20 (jsu 2 20 (x3.tdiv (((Nat.gcd (x2).natAbs (x3).natAbs : Nat) : Int)))))))) = q12 at hb_q12 ⊢
  refine jT_eq (LN := [(0, (4, 0)), (1, (0, x1)), (2, (0, x2)), (3, (0, x3))]) (stN := [(0, 1), (4, 0)]) (hsN := [jzH_20, (100, [], jS0), (100, [], []), jzH_315, jzH_316, jgh, jgh, (101, [], [q1 - q2, q3 - q4, q5 - q6, q7 - q8, -q10 + q9, q11 - q12]), jgh, jgh, jgh, jgh, jgh, jgh, jgh, jgh, (100, [], (List.replicate 1613 0)), jgh, jgh, jgh, jgh, jgh, jgh, jgh]) (rfl) (rfl) (by simp only [List.cons.injEq, Prod.mk.injEq, and_true, true_and] <;> ((try unfold jw); (try unfold jwl); omega)) ?_
  refine jT_xiconst (k := 3) (pcN := 56) jIH_187_55 rfl ?_
  refine jT_callA [0] (y := 191) (pcN := 59) (dC := 0) (bc1 := 0) (bc2 := 0) (c1 := 0) (c2 := 0) (as := [(4, 0), (0, 1), (0, 3)]) (asC := [(4, 0), (0, 1), (0, 3)]) (LN := [(0, (4, 0)), (1, (0, x1)), (2, (0, x2)), (3, (0, x3))]) (stN := []) (hsC := [jgh]) (ex := []) (v := (0, 0)) (st2 := [(0, 0)]) (hs2 := [jzH_20, (100, [], jS0), (100, [], []), jzH_315, jzH_316, jgh, jgh, (101, [], [q1 - q2, q3 - q4, q5 - q6, q7 - q8, -q10 + q9, q11 - q12]), jgh, jgh, jgh, jgh, jgh, jgh, jgh, jgh, (100, [], (List.replicate 1613 0)), jgh, jgh, jgh, jgh, jgh, jgh, jgh]) (jH_191_77 (d := 0)) (by rfl) (by rfl) (by rfl) (by rfl) ⟨rfl, trivial⟩ (by rfl) (by rfl) (by omega) (by show 24 ≤ 24; omega) (by omega) (by omega) rfl rfl ?_
  refine jT_xifT (pcN := 64) jIH_187_59 rfl (by decide +kernel) rfl ?_
  refine jT_xaload_n (v := (4, 0)) (pcN := 65) jIH_187_64 rfl rfl rfl ?_
  refine jT_callB [0, 1, 2, 3, 4, 5, 6, 7, 8, 9, 10, 11, 12, 13, 14, 15, 16, 17, 18, 19, 20, 21, 22, 23] (y := 195) (pcN := 68) (dC := 0) (bc1 := 0) (bc2 := 0) (c1 := 0) (c2 := 0) (as := [(4, 0)]) (asC := [(4, 0)]) (LN := [(0, (4, 0)), (1, (0, x1)), (2, (0, x2)), (3, (0, x3))]) (stN := []) (hsC := jpH_317) (hsD := jpH_321) (v := (9, 0)) (st2 := []) (hs2 := [jzH_319, (100, [], jS0), (100, [], []), jzH_315, jzH_320, jgh, jgh, (101, [], [q1 - q2, q3 - q4, q5 - q6, q7 - q8, -q10 + q9, q11 - q12]), jgh, jgh, jgh, jgh, jgh, jgh, jgh, jgh, (100, [], jS0), jgh, jgh, jgh, jgh, jgh, jgh, jgh]) (jH_195_78 (d := 0)) (by rfl) (by rfl) (by rfl) (by rfl) ⟨rfl, rfl, rfl, rfl, rfl, rfl, rfl, rfl, rfl, rfl, rfl, rfl, rfl, rfl, rfl, rfl, rfl, rfl, rfl, rfl, rfl, rfl, rfl, rfl, trivial⟩ (by rfl) (by rfl) (by omega) (by show 24 ≤ 24; omega) (by omega) (by omega) rfl rfl ?_
  refine jT_xaload_n (v := (4, 0)) (pcN := 69) jIH_187_68 rfl rfl rfl ?_
  refine jT_xiload_n (v := (0, x1)) (pcN := 70) jIH_187_69 rfl rfl rfl ?_
  refine jT_callB [0, 1, 2, 3, 4, 5, 6, 7, 8, 9, 10, 11, 12, 13, 14, 15] (y := 196) (pcN := 73) (dC := 1) (bc1 := 0) (bc2 := 0) (c1 := 0) (c2 := 0) (as := [(4, 0), (0, x1)]) (asC := [(4, 0), (0, x1)]) (LN := [(0, (4, 0)), (1, (0, x1)), (2, (0, x2)), (3, (0, x3))]) (stN := []) (hsC := [jzH_319, (100, [], jS0), jgh, jgh, jgh, jgh, jgh, (101, [], [q1 - q2, q3 - q4, q5 - q6, q7 - q8, -q10 + q9, q11 - q12]), jgh, jgh, jgh, jgh, jgh, jgh, jgh, jgh]) (hsD := [jzH_319, (100, [], ((((((((((((((jS0).set ((7 * x1).toNat) (q1 - q2))).set ((7 * x1 + 1).toNat) (q3 - q4))).set ((7 * x1 + 2).toNat) (q5 - q6))).set ((7 * x1 + 3).toNat) (q7 - q8))).set ((7 * x1 + 4).toNat) (-q10 + q9))).set ((7 * x1 + 5).toNat) (q11 - q12))).set ((7 * x1 + 6).toNat) 1)), jgh, jgh, jgh, jgh, jgh, (101, [], [q1 - q2, q3 - q4, q5 - q6, q7 - q8, -q10 + q9, q11 - q12]), jgh, jgh, jgh, jgh, jgh, jgh, jgh, jgh]) (v := (0, 1)) (st2 := [(0, 1)]) (hs2 := [jzH_319, (100, [], ((((((((((((((jS0).set ((7 * x1).toNat) (q1 - q2))).set ((7 * x1 + 1).toNat) (q3 - q4))).set ((7 * x1 + 2).toNat) (q5 - q6))).set ((7 * x1 + 3).toNat) (q7 - q8))).set ((7 * x1 + 4).toNat) (-q10 + q9))).set ((7 * x1 + 5).toNat) (q11 - q12))).set ((7 * x1 + 6).toNat) 1)), (100, [], []), jzH_315, jzH_320, jgh, jgh, (101, [], [q1 - q2, q3 - q4, q5 - q6, q7 - q8, -q10 + q9, q11 - q12]), jgh, jgh, jgh, jgh, jgh, jgh, jgh, jgh, (100, [], jS0), jgh, jgh, jgh, jgh, jgh, jgh, jgh]) (jH_196_82 (d := 0) (by omega) (by omega) (by omega) (by omega) (by omega) (by omega) (by omega) (by omega) (by omega) (by omega) (by omega) (by omega) (by omega)) (by rfl) (by rfl) (by rfl) (by rfl) ⟨rfl, rfl, rfl, rfl, rfl, rfl, rfl, rfl, rfl, rfl, rfl, rfl, rfl, rfl, rfl, rfl, trivial⟩ (by rfl) (by rfl) (by omega) (by show 24 ≤ 24; omega) (by omega) (by omega) rfl rfl ?_
  refine jT_adv 1 (pcN := 74) (LN := [(0, (4, 0)), (1, (0, x1)), (2, (0, x2)), (3, (0, x3))]) (stN := []) (hsN := [jzH_319, (100, [], ((((((((((((((jS0).set ((7 * x1).toNat) (q1 - q2))).set ((7 * x1 + 1).toNat) (q3 - q4))).set ((7 * x1 + 2).toNat) (q5 - q6))).set ((7 * x1 + 3).toNat) (q7 - q8))).set ((7 * x1 + 4).toNat) (-q10 + q9))).set ((7 * x1 + 5).toNat) (q11 - q12))).set ((7 * x1 + 6).toNat) 1)), (100, [], []), jzH_315, jzH_320, jgh, jgh, (101, [], [q1 - q2, q3 - q4, q5 - q6, q7 - q8, -q10 + q9, q11 - q12]), jgh, jgh, jgh, jgh, jgh, jgh, jgh, jgh, (100, [], jS0), jgh, jgh, jgh, jgh, jgh, jgh, jgh]) (c1 := 0) (s1 := 0) (c2 := 0) (s2 := 0) (by exact rfl) ?_ (by omega) (by omega)
  refine jT_xiload_n (v := (0, x2)) (pcN := 75) jIH_187_74 rfl rfl rfl ?_
  refine jT_xiload_n (v := (0, x3)) (pcN := 76) jIH_187_75 rfl rfl rfl ?_
  refine jT_icF (a := x2) (b := x3) (t := 83) (by rfl) (by rfl) (by rfl) (jw_idd (by omega) (by omega)) (jw_idd (by omega) (by omega)) (by simp only [jcP] <;> omega) ?_
  refine jT_xiconst (k := 1) (pcN := 80) jIH_187_79 rfl ?_
  refine jT_xgoto (pcN := 84) jIH_187_80 rfl ?_
  refine jT_forget (a := 1) (c := (100, [], ((((((((((((((jS0).set ((7 * x1).toNat) (q1 - q2))).set ((7 * x1 + 1).toNat) (q3 - q4))).set ((7 * x1 + 2).toNat) (q5 - q6))).set ((7 * x1 + 3).toNat) (q7 - q8))).set ((7 * x1 + 4).toNat) (-q10 + q9))).set ((7 * x1 + 5).toNat) (q11 - q12))).set ((7 * x1 + 6).toNat) 1))) rfl rfl ?_
  refine jT_eq (LN := [(0, (4, 0)), (1, (0, x1)), (2, (0, x2)), (3, (0, x3))]) (stN := [(0, 1)]) (hsN := [jzH_319, jgh, (100, [], []), jzH_315, jzH_320, jgh, jgh, (101, [], [q1 - q2, q3 - q4, q5 - q6, q7 - q8, -q10 + q9, q11 - q12]), jgh, jgh, jgh, jgh, jgh, jgh, jgh, jgh, (100, [], jS0), jgh, jgh, jgh, jgh, jgh, jgh, jgh]) rfl rfl rfl ?_
  subst hq_q12
  subst hq_q11
  subst hq_q10
  subst hq_q9
  subst hq_q8
  subst hq_q7
  subst hq_q6
  subst hq_q5
  subst hq_q4
  subst hq_q3
  subst hq_q2
  subst hq_q1
  exact jT_ret rfl (by decide) (by show 24 ≤ 24; omega) (by omega) (by omega) ⟨rfl, rfl, rfl⟩
def jpH_363 : List JC := [jzH_319, jgh, jgh, jgh, jgh, jgh, jgh, jgh, jgh, jgh, jgh, jgh, jgh, jgh, jgh, jgh]
theorem jH_186_84 {xs : List Int} {d : Nat} : jT xs d 186 16 0 [(0, (4, 0))] [] jpH_363 0 0 (fun k v hsN => k = 0 ∧ v = (0, 0) ∧ hsN = jpH_363 ++ []) := by
  refine jT_advK 2 (pcN := 4) (LN := [(0, (4, 0))]) (stN := [(0, 0)]) (hsN := jpH_363) (c1 := 0) (s1 := 0) (c2 := 0) (s2 := 0) (by decide +kernel) ?_ (by omega) (by omega)
  exact jT_ret rfl (by decide) (by show 16 ≤ 16; omega) (by omega) (by omega) ⟨rfl, rfl, rfl⟩
theorem jH_14_85 {xs : List Int} {d : Nat} {x2 x3 : Int} (h_x2 : 1 ≤ x2 ∧ x2 ≤ 1000000) (h_x3 : 1 ≤ x3 ∧ x3 ≤ 1000000) (g_0 : (jsu 13 20 (jsu 11 20 (jsu 7 20 (jsu 5 20 (jsu 3 20 (jsu 2 20 (x2.tdiv (((Nat.gcd (x2).natAbs (x3).natAbs : Nat) : Int))))))))) - 2 < 0) (g_1 : (jsu 13 20 (jsu 11 20 (jsu 7 20 (jsu 5 20 (jsu 3 20 (jsu 2 20 (x3.tdiv (((Nat.gcd (x2).natAbs (x3).natAbs : Nat) : Int))))))))) - 2 < 0) (g_2 : x2 - x3 - 1 < 0) : jT xs (d + 2) 14 0 0 [(0, (0, x2)), (1, (0, x3))] [] [] 2 8 (fun k v hsN => k = 0 ∧ v = (4, 1) ∧ hsN = [] ++ [(101, [], [(jsc 2 20 (x2.tdiv (((Nat.gcd (x2).natAbs (x3).natAbs : Nat) : Int)))) - (jsc 2 20 (x3.tdiv (((Nat.gcd (x2).natAbs (x3).natAbs : Nat) : Int)))), -(jsc 3 20 (jsu 2 20 (x3.tdiv (((Nat.gcd (x2).natAbs (x3).natAbs : Nat) : Int))))) + (jsc 3 20 (jsu 2 20 (x2.tdiv (((Nat.gcd (x2).natAbs (x3).natAbs : Nat) : Int))))), (jsc 5 20 (jsu 3 20 (jsu 2 20 (x2.tdiv (((Nat.gcd (x2).natAbs (x3).natAbs : Nat) : Int)))))) - (jsc 5 20 (jsu 3 20 (jsu 2 20 (x3.tdiv (((Nat.gcd (x2).natAbs (x3).natAbs : Nat) : Int)))))), (jsc 7 20 (jsu 5 20 (jsu 3 20 (jsu 2 20 (x2.tdiv (((Nat.gcd (x2).natAbs (x3).natAbs : Nat) : Int))))))) - (jsc 7 20 (jsu 5 20 (jsu 3 20 (jsu 2 20 (x3.tdiv (((Nat.gcd (x2).natAbs (x3).natAbs : Nat) : Int))))))), (jsc 11 20 (jsu 7 20 (jsu 5 20 (jsu 3 20 (jsu 2 20 (x2.tdiv (((Nat.gcd (x2).natAbs (x3).natAbs : Nat) : Int)))))))) - (jsc 11 20 (jsu 7 20 (jsu 5 20 (jsu 3 20 (jsu 2 20 (x3.tdiv (((Nat.gcd (x2).natAbs (x3).natAbs : Nat) : Int)))))))), (jsc 13 20 (jsu 11 20 (jsu 7 20 (jsu 5 20 (jsu 3 20 (jsu 2 20 (x2.tdiv (((Nat.gcd (x2).natAbs (x3).natAbs : Nat) : Int))))))))) - (jsc 13 20 (jsu 11 20 (jsu 7 20 (jsu 5 20 (jsu 3 20 (jsu 2 20 (x3.tdiv (((Nat.gcd (x2).natAbs (x3).natAbs : Nat) : Int)))))))))]), (4, [(4, 0), (1, 1)], [])]) := by
  refine jT_xlconst (z := 1) (pcN := 1) jIH_14_0 rfl rfl ?_
  refine jT_xiload_n (v := (0, x2)) (pcN := 2) jIH_14_1 rfl rfl rfl ?_
  refine jT_xi2l (x := x2) (z := x2) (pcN := 3) jIH_14_2 rfl (jw_idd (by omega) (by omega)) rfl ?_
  refine jT_xiload_n (v := (0, x3)) (pcN := 4) jIH_14_3 rfl rfl rfl ?_
  refine jT_xi2l (x := x3) (z := x3) (pcN := 5) jIH_14_4 rfl (jw_idd (by omega) (by omega)) rfl ?_
  refine jT_fR [] 0 (y := 98) (pcN := 8) (dC := 0) (bc1 := 0) (bc2 := 0) (c1 := 2) (c2 := 8) (as := [(1, x2), (1, x3)]) (asC := [(1, x2), (1, x3)]) (LN := [(0, (0, x2)), (1, (0, x3))]) (stN := [(1, 1)]) (hsC := []) (v := (1, ((Nat.gcd (x2).natAbs (x3).natAbs : Nat) : Int))) (st2 := [(1, ((Nat.gcd (x2).natAbs (x3).natAbs : Nat) : Int)), (1, 1)]) (jT_div98 (d := 0) (x := x2) (y := x3) (by omega) (by omega)) (by rfl) (by rfl) (by decide +kernel) (by rfl) (by rfl) (by omega) (by omega) (by omega) (by omega) rfl ?_
  have hb_q1 := jgcd_l (x := x2) (y := x3) (by omega)
  have hb_q1 : 1 ≤ ((Nat.gcd (x2).natAbs (x3).natAbs : Nat) : Int) ∧ ((Nat.gcd (x2).natAbs (x3).natAbs : Nat) : Int) ≤ 1000000 := ⟨hb_q1.1, by omega⟩
  generalize hq_q1 : ((Nat.gcd (x2).natAbs (x3).natAbs : Nat) : Int) = q1 at hb_q1 g_0 g_1 ⊢
  refine jT_mm3 (x := 1) (y := q1) (z := q1) (by rfl) (by rfl) (by rfl) (by rfl) (jwl_idd (by omega) (by omega)) (jwl_idd (by omega) (by omega)) (by rw [decide_eq_false (show ¬ ((q1 : Int) < 1) by omega)]; rfl) ?_
  refine jT_xlstore_n (v := (1, q1)) (LN := [(2, (1, q1)), (0, (0, x2)), (1, (0, x3))]) (pcN := 12) jIH_14_11 rfl rfl rfl rfl ?_
  refine jT_xiload_n (v := (0, x2)) (pcN := 13) jIH_14_12 rfl rfl rfl ?_
  refine jT_xi2l (x := x2) (z := x2) (pcN := 14) jIH_14_13 rfl (jw_idd (by omega) (by omega)) rfl ?_
  refine jT_xlload_n (v := (1, q1)) (pcN := 15) jIH_14_14 rfl rfl rfl ?_
  refine jT_ldiv (a := x2) (b := q1) (by rfl) (by rfl) (jwl_idd (by omega) (by omega)) (jwl_idd (by omega) (by omega)) (by omega) ?_
  have hb_q2 := jfr_b hq_q1 (by omega) (by omega)
  generalize hq_q2 : x2.tdiv q1 = q2 at hb_q2 g_0 ⊢
  refine jT_xlstore (v := (1, q2)) (LN := [(4, (1, q2)), (2, (1, q1)), (0, (0, x2)), (1, (0, x3))]) (pcN := 18) jIH_14_16 rfl rfl rfl rfl ?_
  refine jT_xiload_n (v := (0, x3)) (pcN := 19) jIH_14_18 rfl rfl rfl ?_
  refine jT_xi2l (x := x3) (z := x3) (pcN := 20) jIH_14_19 rfl (jw_idd (by omega) (by omega)) rfl ?_
  refine jT_xlload_n (v := (1, q1)) (pcN := 21) jIH_14_20 rfl rfl rfl ?_
  refine jT_ldiv (a := x3) (b := q1) (by rfl) (by rfl) (jwl_idd (by omega) (by omega)) (jwl_idd (by omega) (by omega)) (by omega) ?_
  have hb_q3 := jfr_b2 hq_q1 (by omega) (by omega)
  generalize hq_q3 : x3.tdiv q1 = q3 at hb_q3 g_1 ⊢
  refine jT_xlstore (v := (1, q3)) (LN := [(6, (1, q3)), (4, (1, q2)), (2, (1, q1)), (0, (0, x2)), (1, (0, x3))]) (pcN := 24) jIH_14_22 rfl rfl rfl rfl ?_
  refine jT_xbipush (k := 6) (pcN := 26) jIH_14_24 (by decide) rfl ?_
  refine jT_adv 1 (pcN := 28) (LN := [(6, (1, q3)), (4, (1, q2)), (2, (1, q1)), (0, (0, x2)), (1, (0, x3))]) (stN := [(4, 0)]) (hsN := [(101, [], [0, 0, 0, 0, 0, 0])]) (c1 := 1) (s1 := 6) (c2 := 1) (s2 := 2) (by exact rfl) ?_ (by omega) (by omega)
  refine jT_xastore (v := (4, 0)) (LN := [(8, (4, 0)), (6, (1, q3)), (4, (1, q2)), (2, (1, q1)), (0, (0, x2)), (1, (0, x3))]) (pcN := 30) jIH_14_28 rfl rfl rfl rfl ?_
  refine jT_xiconst (k := 0) (pcN := 31) jIH_14_30 rfl ?_
  refine jT_xistore (v := (0, 0)) (LN := [(9, (0, 0)), (8, (4, 0)), (6, (1, q3)), (4, (1, q2)), (2, (1, q1)), (0, (0, x2)), (1, (0, x3))]) (pcN := 33) jIH_14_31 rfl rfl rfl rfl ?_
  refine jT_xiload (v := (0, 0)) (pcN := 35) jIH_14_33 rfl rfl rfl ?_
  refine jT_xbipush (k := 6) (pcN := 37) jIH_14_35 (by decide) rfl ?_
  refine jT_xicF (t := 164) (pcN := 40) jIH_14_37 rfl (by decide +kernel) rfl rfl ?_
  refine jT_xiconst (k := 0) (pcN := 41) jIH_14_40 rfl ?_
  refine jT_xistore (v := (0, 0)) (LN := [(10, (0, 0)), (9, (0, 0)), (8, (4, 0)), (6, (1, q3)), (4, (1, q2)), (2, (1, q1)), (0, (0, x2)), (1, (0, x3))]) (pcN := 43) jIH_14_41 rfl rfl rfl rfl ?_
  refine jT_loc (LN := [(10, (0, 0)), (4, (1, q2)), (6, (1, q3)), (8, (4, 0)), (9, (0, 0))]) (by show List.Nodup [10, 4, 6, 8, 9]; decide) (by intro q hq; simp only [List.mem_cons, List.not_mem_nil, or_false] at hq; rcases hq with rfl | rfl | rfl | rfl | rfl <;> rfl) ?_
  refine jHl_fr_25 (y6 := q3) (e1 := 0) (e2 := 0) (e3 := 0) (e4 := 0) (e5 := 0) 20 0 q2 0 (by omega) (by omega) (by omega) (by omega) (Int.lt_of_le_of_lt (show q2 ≤ (1000000 : Int) by omega) (by decide)) ?_
  have hb_q4 := jsu_b (P := 2) (by decide) (n := 20) (u := q2) (by omega) (by omega)
  generalize hq_q4 : jsu 2 20 q2 = q4 at hb_q4 g_0 ⊢
  have hb_q5 := jsc_b (P := 2) (n := 20) (u := q2)
  have hb_q5 : 0 ≤ jsc 2 20 q2 ∧ jsc 2 20 q2 ≤ 20 := ⟨hb_q5.1, by omega⟩
  generalize hq_q5 : jsc 2 20 q2 = q5 at hb_q5 ⊢
  refine jT_eq (LN := [(4, (1, q4)), (6, (1, q3)), (8, (4, 0)), (9, (0, 0))]) (stN := []) (hsN := [(101, [], [q5, 0, 0, 0, 0, 0])]) (rfl) (rfl) (by simp only [List.cons.injEq, Prod.mk.injEq, and_true, true_and] <;> ((try unfold jw); (try unfold jwl); omega)) ?_
  refine jT_xiconst (k := 0) (pcN := 100) jIH_14_99 rfl ?_
  refine jT_xistore (v := (0, 0)) (LN := [(10, (0, 0)), (4, (1, q4)), (6, (1, q3)), (8, (4, 0)), (9, (0, 0))]) (pcN := 102) jIH_14_100 rfl rfl rfl rfl ?_
  refine jT_loc (LN := [(10, (0, 0)), (6, (1, q3)), (4, (1, q4)), (8, (4, 0)), (9, (0, 0))]) (by show List.Nodup [10, 6, 4, 8, 9]; decide) (by intro q hq; simp only [List.mem_cons, List.not_mem_nil, or_false] at hq; rcases hq with rfl | rfl | rfl | rfl | rfl <;> rfl) ?_
  refine jHl_fr_26 (y4 := q4) (e1 := 0) (e2 := 0) (e3 := 0) (e4 := 0) (e5 := 0) 20 0 q3 q5 (by omega) (by omega) (by omega) (by omega) (Int.lt_of_le_of_lt (show q3 ≤ (1000000 : Int) by omega) (by decide)) ?_
  have hb_q6 := jsu_b (P := 2) (by decide) (n := 20) (u := q3) (by omega) (by omega)
  generalize hq_q6 : jsu 2 20 q3 = q6 at hb_q6 g_1 ⊢
  have hb_q7 := jsc_b (P := 2) (n := 20) (u := q3)
  have hb_q7 : 0 ≤ jsc 2 20 q3 ∧ jsc 2 20 q3 ≤ 20 := ⟨hb_q7.1, by omega⟩
  generalize hq_q7 : jsc 2 20 q3 = q7 at hb_q7 ⊢
  refine jT_xiinc (x := 0) (z := 1) (LN := [(9, (0, 1)), (6, (1, q6)), (4, (1, q4)), (8, (4, 0))]) (pcN := 161) jIH_14_158 rfl rfl (by decide) rfl rfl ?_
  refine jT_xgoto (pcN := 33) jIH_14_161 rfl ?_
  refine jT_xiload (v := (0, 1)) (pcN := 35) jIH_14_33 rfl rfl rfl ?_
  refine jT_xbipush (k := 6) (pcN := 37) jIH_14_35 (by decide) rfl ?_
  refine jT_xicF (t := 164) (pcN := 40) jIH_14_37 rfl (by decide +kernel) rfl rfl ?_
  refine jT_xiconst (k := 0) (pcN := 41) jIH_14_40 rfl ?_
  refine jT_xistore (v := (0, 0)) (LN := [(10, (0, 0)), (9, (0, 1)), (6, (1, q6)), (4, (1, q4)), (8, (4, 0))]) (pcN := 43) jIH_14_41 rfl rfl rfl rfl ?_
  refine jT_loc (LN := [(10, (0, 0)), (4, (1, q4)), (6, (1, q6)), (8, (4, 0)), (9, (0, 1))]) (by show List.Nodup [10, 4, 6, 8, 9]; decide) (by intro q hq; simp only [List.mem_cons, List.not_mem_nil, or_false] at hq; rcases hq with rfl | rfl | rfl | rfl | rfl <;> rfl) ?_
  refine jHl_fr_27 (y6 := q6) (e0 := q5 - q7) (e2 := 0) (e3 := 0) (e4 := 0) (e5 := 0) 20 0 q4 0 (by omega) (by omega) (by omega) (by omega) (Int.lt_of_le_of_lt (show q4 ≤ (1000000 : Int) by omega) (by decide)) ?_
  have hb_q8 := jsu_b (P := 3) (by decide) (n := 20) (u := q4) (by omega) (by omega)
  generalize hq_q8 : jsu 3 20 q4 = q8 at hb_q8 g_0 ⊢
  have hb_q9 := jsc_b (P := 3) (n := 20) (u := q4)
  have hb_q9 : 0 ≤ jsc 3 20 q4 ∧ jsc 3 20 q4 ≤ 20 := ⟨hb_q9.1, by omega⟩
  generalize hq_q9 : jsc 3 20 q4 = q9 at hb_q9 ⊢
  refine jT_eq (LN := [(4, (1, q8)), (6, (1, q6)), (8, (4, 0)), (9, (0, 1))]) (stN := []) (hsN := [(101, [], [q5 - q7, q9, 0, 0, 0, 0])]) (rfl) (rfl) (by simp only [List.cons.injEq, Prod.mk.injEq, and_true, true_and] <;> ((try unfold jw); (try unfold jwl); omega)) ?_
  refine jT_xiconst (k := 0) (pcN := 100) jIH_14_99 rfl ?_
  refine jT_xistore (v := (0, 0)) (LN := [(10, (0, 0)), (4, (1, q8)), (6, (1, q6)), (8, (4, 0)), (9, (0, 1))]) (pcN := 102) jIH_14_100 rfl rfl rfl rfl ?_
  refine jT_loc (LN := [(10, (0, 0)), (6, (1, q6)), (4, (1, q8)), (8, (4, 0)), (9, (0, 1))]) (by show List.Nodup [10, 6, 4, 8, 9]; decide) (by intro q hq; simp only [List.mem_cons, List.not_mem_nil, or_false] at hq; rcases hq with rfl | rfl | rfl | rfl | rfl <;> rfl) ?_
  refine jHl_fr_28 (y4 := q8) (e0 := q5 - q7) (e2 := 0) (e3 := 0) (e4 := 0) (e5 := 0) 20 0 q6 q9 (by omega) (by omega) (by omega) (by omega) (Int.lt_of_le_of_lt (show q6 ≤ (1000000 : Int) by omega) (by decide)) ?_
  have hb_q10 := jsu_b (P := 3) (by decide) (n := 20) (u := q6) (by omega) (by omega)
  generalize hq_q10 : jsu 3 20 q6 = q10 at hb_q10 g_1 ⊢
  have hb_q11 := jsc_b (P := 3) (n := 20) (u := q6)
  have hb_q11 : 0 ≤ jsc 3 20 q6 ∧ jsc 3 20 q6 ≤ 20 := ⟨hb_q11.1, by omega⟩
  generalize hq_q11 : jsc 3 20 q6 = q11 at hb_q11 ⊢
  refine jT_eq (LN := [(6, (1, q10)), (4, (1, q8)), (8, (4, 0)), (9, (0, 1))]) (stN := []) (hsN := [(101, [], [q5 - q7, -q11 + q9, 0, 0, 0, 0])]) (rfl) (rfl) (by simp only [List.cons.injEq, Prod.mk.injEq, and_true, true_and] <;> ((try unfold jw); (try unfold jwl); omega)) ?_
  refine jT_xiinc (x := 1) (z := 2) (LN := [(9, (0, 2)), (6, (1, q10)), (4, (1, q8)), (8, (4, 0))]) (pcN := 161) jIH_14_158 rfl rfl (by decide) rfl rfl ?_
  refine jT_xgoto (pcN := 33) jIH_14_161 rfl ?_
  refine jT_xiload (v := (0, 2)) (pcN := 35) jIH_14_33 rfl rfl rfl ?_
  refine jT_xbipush (k := 6) (pcN := 37) jIH_14_35 (by decide) rfl ?_
  refine jT_xicF (t := 164) (pcN := 40) jIH_14_37 rfl (by decide +kernel) rfl rfl ?_
  refine jT_xiconst (k := 0) (pcN := 41) jIH_14_40 rfl ?_
  refine jT_xistore (v := (0, 0)) (LN := [(10, (0, 0)), (9, (0, 2)), (6, (1, q10)), (4, (1, q8)), (8, (4, 0))]) (pcN := 43) jIH_14_41 rfl rfl rfl rfl ?_
  refine jT_loc (LN := [(10, (0, 0)), (4, (1, q8)), (6, (1, q10)), (8, (4, 0)), (9, (0, 2))]) (by show List.Nodup [10, 4, 6, 8, 9]; decide) (by intro q hq; simp only [List.mem_cons, List.not_mem_nil, or_false] at hq; rcases hq with rfl | rfl | rfl | rfl | rfl <;> rfl) ?_
  refine jHl_fr_29 (y6 := q10) (e0 := q5 - q7) (e1 := -q11 + q9) (e3 := 0) (e4 := 0) (e5 := 0) 20 0 q8 0 (by omega) (by omega) (by omega) (by omega) (Int.lt_of_le_of_lt (show q8 ≤ (1000000 : Int) by omega) (by decide)) ?_
  have hb_q12 := jsu_b (P := 5) (by decide) (n := 20) (u := q8) (by omega) (by omega)
  generalize hq_q12 : jsu 5 20 q8 = q12 at hb_q12 g_0 ⊢
  have hb_q13 := jsc_b (P := 5) (n := 20) (u := q8)
  have hb_q13 : 0 ≤ jsc 5 20 q8 ∧ jsc 5 20 q8 ≤ 20 := ⟨hb_q13.1, by omega⟩
  generalize hq_q13 : jsc 5 20 q8 = q13 at hb_q13 ⊢
  refine jT_eq (LN := [(4, (1, q12)), (6, (1, q10)), (8, (4, 0)), (9, (0, 2))]) (stN := []) (hsN := [(101, [], [q5 - q7, -q11 + q9, q13, 0, 0, 0])]) (rfl) (rfl) (by simp only [List.cons.injEq, Prod.mk.injEq, and_true, true_and] <;> ((try unfold jw); (try unfold jwl); omega)) ?_
  refine jT_xiconst (k := 0) (pcN := 100) jIH_14_99 rfl ?_
  refine jT_xistore (v := (0, 0)) (LN := [(10, (0, 0)), (4, (1, q12)), (6, (1, q10)), (8, (4, 0)), (9, (0, 2))]) (pcN := 102) jIH_14_100 rfl rfl rfl rfl ?_
  refine jT_loc (LN := [(10, (0, 0)), (6, (1, q10)), (4, (1, q12)), (8, (4, 0)), (9, (0, 2))]) (by show List.Nodup [10, 6, 4, 8, 9]; decide) (by intro q hq; simp only [List.mem_cons, List.not_mem_nil, or_false] at hq; rcases hq with rfl | rfl | rfl | rfl | rfl <;> rfl) ?_
  refine jHl_fr_30 (y4 := q12) (e0 := q5 - q7) (e1 := -q11 + q9) (e3 := 0) (e4 := 0) (e5 := 0) 20 0 q10 q13 (by omega) (by omega) (by omega) (by omega) (Int.lt_of_le_of_lt (show q10 ≤ (1000000 : Int) by omega) (by decide)) ?_
  have hb_q14 := jsu_b (P := 5) (by decide) (n := 20) (u := q10) (by omega) (by omega)
  generalize hq_q14 : jsu 5 20 q10 = q14 at hb_q14 g_1 ⊢
  have hb_q15 := jsc_b (P := 5) (n := 20) (u := q10)
  have hb_q15 : 0 ≤ jsc 5 20 q10 ∧ jsc 5 20 q10 ≤ 20 := ⟨hb_q15.1, by omega⟩
  generalize hq_q15 : jsc 5 20 q10 = q15 at hb_q15 ⊢
  refine jT_xiinc (x := 2) (z := 3) (LN := [(9, (0, 3)), (6, (1, q14)), (4, (1, q12)), (8, (4, 0))]) (pcN := 161) jIH_14_158 rfl rfl (by decide) rfl rfl ?_
  refine jT_xgoto (pcN := 33) jIH_14_161 rfl ?_
  refine jT_xiload (v := (0, 3)) (pcN := 35) jIH_14_33 rfl rfl rfl ?_
  refine jT_xbipush (k := 6) (pcN := 37) jIH_14_35 (by decide) rfl ?_
  refine jT_xicF (t := 164) (pcN := 40) jIH_14_37 rfl (by decide +kernel) rfl rfl ?_
  refine jT_xiconst (k := 0) (pcN := 41) jIH_14_40 rfl ?_
  refine jT_xistore (v := (0, 0)) (LN := [(10, (0, 0)), (9, (0, 3)), (6, (1, q14)), (4, (1, q12)), (8, (4, 0))]) (pcN := 43) jIH_14_41 rfl rfl rfl rfl ?_
  refine jT_loc (LN := [(10, (0, 0)), (4, (1, q12)), (6, (1, q14)), (8, (4, 0)), (9, (0, 3))]) (by show List.Nodup [10, 4, 6, 8, 9]; decide) (by intro q hq; simp only [List.mem_cons, List.not_mem_nil, or_false] at hq; rcases hq with rfl | rfl | rfl | rfl | rfl <;> rfl) ?_
  refine jHl_fr_31 (y6 := q14) (e0 := q5 - q7) (e1 := -q11 + q9) (e2 := q13 - q15) (e4 := 0) (e5 := 0) 20 0 q12 0 (by omega) (by omega) (by omega) (by omega) (Int.lt_of_le_of_lt (show q12 ≤ (1000000 : Int) by omega) (by decide)) ?_
  have hb_q16 := jsu_b (P := 7) (by decide) (n := 20) (u := q12) (by omega) (by omega)
  generalize hq_q16 : jsu 7 20 q12 = q16 at hb_q16 g_0 ⊢
  have hb_q17 := jsc_b (P := 7) (n := 20) (u := q12)
  have hb_q17 : 0 ≤ jsc 7 20 q12 ∧ jsc 7 20 q12 ≤ 20 := ⟨hb_q17.1, by omega⟩
  generalize hq_q17 : jsc 7 20 q12 = q17 at hb_q17 ⊢
  refine jT_eq (LN := [(4, (1, q16)), (6, (1, q14)), (8, (4, 0)), (9, (0, 3))]) (stN := []) (hsN := [(101, [], [q5 - q7, -q11 + q9, q13 - q15, q17, 0, 0])]) (rfl) (rfl) (by simp only [List.cons.injEq, Prod.mk.injEq, and_true, true_and] <;> ((try unfold jw); (try unfold jwl); omega)) ?_
  refine jT_xiconst (k := 0) (pcN := 100) jIH_14_99 rfl ?_
  refine jT_xistore (v := (0, 0)) (LN := [(10, (0, 0)), (4, (1, q16)), (6, (1, q14)), (8, (4, 0)), (9, (0, 3))]) (pcN := 102) jIH_14_100 rfl rfl rfl rfl ?_
  refine jT_loc (LN := [(10, (0, 0)), (6, (1, q14)), (4, (1, q16)), (8, (4, 0)), (9, (0, 3))]) (by show List.Nodup [10, 6, 4, 8, 9]; decide) (by intro q hq; simp only [List.mem_cons, List.not_mem_nil, or_false] at hq; rcases hq with rfl | rfl | rfl | rfl | rfl <;> rfl) ?_
  refine jHl_fr_32 (y4 := q16) (e0 := q5 - q7) (e1 := -q11 + q9) (e2 := q13 - q15) (e4 := 0) (e5 := 0) 20 0 q14 q17 (by omega) (by omega) (by omega) (by omega) (Int.lt_of_le_of_lt (show q14 ≤ (1000000 : Int) by omega) (by decide)) ?_
  have hb_q18 := jsu_b (P := 7) (by decide) (n := 20) (u := q14) (by omega) (by omega)
  generalize hq_q18 : jsu 7 20 q14 = q18 at hb_q18 g_1 ⊢
  have hb_q19 := jsc_b (P := 7) (n := 20) (u := q14)
  have hb_q19 : 0 ≤ jsc 7 20 q14 ∧ jsc 7 20 q14 ≤ 20 := ⟨hb_q19.1, by omega⟩
  generalize hq_q19 : jsc 7 20 q14 = q19 at hb_q19 ⊢
  refine jT_xiinc (x := 3) (z := 4) (LN := [(9, (0, 4)), (6, (1, q18)), (4, (1, q16)), (8, (4, 0))]) (pcN := 161) jIH_14_158 rfl rfl (by decide) rfl rfl ?_
  refine jT_xgoto (pcN := 33) jIH_14_161 rfl ?_
  refine jT_xiload (v := (0, 4)) (pcN := 35) jIH_14_33 rfl rfl rfl ?_
  refine jT_xbipush (k := 6) (pcN := 37) jIH_14_35 (by decide) rfl ?_
  refine jT_xicF (t := 164) (pcN := 40) jIH_14_37 rfl (by decide +kernel) rfl rfl ?_
  refine jT_xiconst (k := 0) (pcN := 41) jIH_14_40 rfl ?_
  refine jT_xistore (v := (0, 0)) (LN := [(10, (0, 0)), (9, (0, 4)), (6, (1, q18)), (4, (1, q16)), (8, (4, 0))]) (pcN := 43) jIH_14_41 rfl rfl rfl rfl ?_
  refine jT_loc (LN := [(10, (0, 0)), (4, (1, q16)), (6, (1, q18)), (8, (4, 0)), (9, (0, 4))]) (by show List.Nodup [10, 4, 6, 8, 9]; decide) (by intro q hq; simp only [List.mem_cons, List.not_mem_nil, or_false] at hq; rcases hq with rfl | rfl | rfl | rfl | rfl <;> rfl) ?_
  refine jHl_fr_33 (y6 := q18) (e0 := q5 - q7) (e1 := -q11 + q9) (e2 := q13 - q15) (e3 := q17 - q19) (e5 := 0) 20 0 q16 0 (by omega) (by omega) (by omega) (by omega) (Int.lt_of_le_of_lt (show q16 ≤ (1000000 : Int) by omega) (by decide)) ?_
  have hb_q20 := jsu_b (P := 11) (by decide) (n := 20) (u := q16) (by omega) (by omega)
  generalize hq_q20 : jsu 11 20 q16 = q20 at hb_q20 g_0 ⊢
  have hb_q21 := jsc_b (P := 11) (n := 20) (u := q16)
  have hb_q21 : 0 ≤ jsc 11 20 q16 ∧ jsc 11 20 q16 ≤ 20 := ⟨hb_q21.1, by omega⟩
  generalize hq_q21 : jsc 11 20 q16 = q21 at hb_q21 ⊢
  refine jT_eq (LN := [(4, (1, q20)), (6, (1, q18)), (8, (4, 0)), (9, (0, 4))]) (stN := []) (hsN := [(101, [], [q5 - q7, -q11 + q9, q13 - q15, q17 - q19, q21, 0])]) (rfl) (rfl) (by simp only [List.cons.injEq, Prod.mk.injEq, and_true, true_and] <;> ((try unfold jw); (try unfold jwl); omega)) ?_
  refine jT_xiconst (k := 0) (pcN := 100) jIH_14_99 rfl ?_
  refine jT_xistore (v := (0, 0)) (LN := [(10, (0, 0)), (4, (1, q20)), (6, (1, q18)), (8, (4, 0)), (9, (0, 4))]) (pcN := 102) jIH_14_100 rfl rfl rfl rfl ?_
  refine jT_loc (LN := [(10, (0, 0)), (6, (1, q18)), (4, (1, q20)), (8, (4, 0)), (9, (0, 4))]) (by show List.Nodup [10, 6, 4, 8, 9]; decide) (by intro q hq; simp only [List.mem_cons, List.not_mem_nil, or_false] at hq; rcases hq with rfl | rfl | rfl | rfl | rfl <;> rfl) ?_
  refine jHl_fr_34 (y4 := q20) (e0 := q5 - q7) (e1 := -q11 + q9) (e2 := q13 - q15) (e3 := q17 - q19) (e5 := 0) 20 0 q18 q21 (by omega) (by omega) (by omega) (by omega) (Int.lt_of_le_of_lt (show q18 ≤ (1000000 : Int) by omega) (by decide)) ?_
  have hb_q22 := jsu_b (P := 11) (by decide) (n := 20) (u := q18) (by omega) (by omega)
  generalize hq_q22 : jsu 11 20 q18 = q22 at hb_q22 g_1 ⊢
  have hb_q23 := jsc_b (P := 11) (n := 20) (u := q18)
  have hb_q23 : 0 ≤ jsc 11 20 q18 ∧ jsc 11 20 q18 ≤ 20 := ⟨hb_q23.1, by omega⟩
  generalize hq_q23 : jsc 11 20 q18 = q23 at hb_q23 ⊢
  refine jT_xiinc (x := 4) (z := 5) (LN := [(9, (0, 5)), (6, (1, q22)), (4, (1, q20)), (8, (4, 0))]) (pcN := 161) jIH_14_158 rfl rfl (by decide) rfl rfl ?_
  refine jT_xgoto (pcN := 33) jIH_14_161 rfl ?_
  refine jT_xiload (v := (0, 5)) (pcN := 35) jIH_14_33 rfl rfl rfl ?_
  refine jT_xbipush (k := 6) (pcN := 37) jIH_14_35 (by decide) rfl ?_
  refine jT_xicF (t := 164) (pcN := 40) jIH_14_37 rfl (by decide +kernel) rfl rfl ?_
  refine jT_xiconst (k := 0) (pcN := 41) jIH_14_40 rfl ?_
  refine jT_xistore (v := (0, 0)) (LN := [(10, (0, 0)), (9, (0, 5)), (6, (1, q22)), (4, (1, q20)), (8, (4, 0))]) (pcN := 43) jIH_14_41 rfl rfl rfl rfl ?_
  refine jT_loc (LN := [(10, (0, 0)), (4, (1, q20)), (6, (1, q22)), (8, (4, 0)), (9, (0, 5))]) (by show List.Nodup [10, 4, 6, 8, 9]; decide) (by intro q hq; simp only [List.mem_cons, List.not_mem_nil, or_false] at hq; rcases hq with rfl | rfl | rfl | rfl | rfl <;> rfl) ?_
  refine jHl_fr_35 (y6 := q22) (e0 := q5 - q7) (e1 := -q11 + q9) (e2 := q13 - q15) (e3 := q17 - q19) (e4 := q21 - q23) 20 0 q20 0 (by omega) (by omega) (by omega) (by omega) (Int.lt_of_le_of_lt (show q20 ≤ (1000000 : Int) by omega) (by decide)) ?_
  have hb_q24 := jsu_b (P := 13) (by decide) (n := 20) (u := q20) (by omega) (by omega)
  generalize hq_q24 : jsu 13 20 q20 = q24 at hb_q24 g_0 ⊢
  have hb_q25 := jsc_b (P := 13) (n := 20) (u := q20)
  have hb_q25 : 0 ≤ jsc 13 20 q20 ∧ jsc 13 20 q20 ≤ 20 := ⟨hb_q25.1, by omega⟩
  generalize hq_q25 : jsc 13 20 q20 = q25 at hb_q25 ⊢
  refine jT_eq (LN := [(4, (1, q24)), (6, (1, q22)), (8, (4, 0)), (9, (0, 5))]) (stN := []) (hsN := [(101, [], [q5 - q7, -q11 + q9, q13 - q15, q17 - q19, q21 - q23, q25])]) (rfl) (rfl) (by simp only [List.cons.injEq, Prod.mk.injEq, and_true, true_and] <;> ((try unfold jw); (try unfold jwl); omega)) ?_
  refine jT_xiconst (k := 0) (pcN := 100) jIH_14_99 rfl ?_
  refine jT_xistore (v := (0, 0)) (LN := [(10, (0, 0)), (4, (1, q24)), (6, (1, q22)), (8, (4, 0)), (9, (0, 5))]) (pcN := 102) jIH_14_100 rfl rfl rfl rfl ?_
  refine jT_loc (LN := [(10, (0, 0)), (6, (1, q22)), (4, (1, q24)), (8, (4, 0)), (9, (0, 5))]) (by show List.Nodup [10, 6, 4, 8, 9]; decide) (by intro q hq; simp only [List.mem_cons, List.not_mem_nil, or_false] at hq; rcases hq with rfl | rfl | rfl | rfl | rfl <;> rfl) ?_
  refine jHl_fr_36 (y4 := q24) (e0 := q5 - q7) (e1 := -q11 + q9) (e2 := q13 - q15) (e3 := q17 - q19) (e4 := q21 - q23) 20 0 q22 q25 (by omega) (by omega) (by omega) (by omega) (Int.lt_of_le_of_lt (show q22 ≤ (1000000 : Int) by omega) (by decide)) ?_
  have hb_q26 := jsu_b (P := 13) (by decide) (n := 20) (u := q22) (by omega) (by omega)
  generalize hq_q26 : jsu 13 20 q22 = q26 at hb_q26 g_1 ⊢
  have hb_q27 := jsc_b (P := 13) (n := 20) (u := q22)
  have hb_q27 : 0 ≤ jsc 13 20 q22 ∧ jsc 13 20 q22 ≤ 20 := ⟨hb_q27.1, by omega⟩
  generalize hq_q27 : jsc 13 20 q22 = q27 at hb_q27 ⊢
  refine jT_xiinc (x := 5) (z := 6) (LN := [(9, (0, 6)), (6, (1, q26)), (4, (1, q24)), (8, (4, 0))]) (pcN := 161) jIH_14_158 rfl rfl (by decide) rfl rfl ?_
  refine jT_xgoto (pcN := 33) jIH_14_161 rfl ?_
  refine jT_xiload (v := (0, 6)) (pcN := 35) jIH_14_33 rfl rfl rfl ?_
  refine jT_xbipush (k := 6) (pcN := 37) jIH_14_35 (by decide) rfl ?_
  refine jT_xicT (pcN := 164) jIH_14_37 rfl (by decide +kernel) rfl ?_
  refine jT_xlload (v := (1, q24)) (pcN := 166) jIH_14_164 rfl rfl rfl ?_
  refine jT_xlconst (z := 1) (pcN := 167) jIH_14_166 rfl rfl ?_
  refine jT_lcmp (a := q24) (b := 1) (z := 0) (by rfl) (by rfl) (jwl_idd (by omega) (by omega)) (jwl_idd (by omega) (by omega)) (by rw [decide_eq_false (show ¬ ((1 : Int) < q24) by omega), decide_eq_true (show (q24 : Int) = 1 by omega)]; rfl) ?_
  refine jT_xifF (t := 191) (pcN := 171) jIH_14_168 rfl (by decide +kernel) rfl rfl ?_
  refine jT_xlload (v := (1, q26)) (pcN := 173) jIH_14_171 rfl rfl rfl ?_
  refine jT_xlconst (z := 1) (pcN := 174) jIH_14_173 rfl rfl ?_
  refine jT_lcmp (a := q26) (b := 1) (z := 0) (by rfl) (by rfl) (jwl_idd (by omega) (by omega)) (jwl_idd (by omega) (by omega)) (by rw [decide_eq_false (show ¬ ((1 : Int) < q26) by omega), decide_eq_true (show (q26 : Int) = 1 by omega)]; rfl) ?_
  refine jT_xifF (t := 191) (pcN := 178) jIH_14_175 rfl (by decide +kernel) rfl rfl ?_
  refine jT_adv 2 (pcN := 182) (LN := [(9, (0, 6)), (6, (1, q26)), (4, (1, q24)), (8, (4, 0))]) (stN := [(4, 1), (4, 1)]) (hsN := [(101, [], [q5 - q7, -q11 + q9, q13 - q15, q17 - q19, q21 - q23, q25 - q27]), (4, [(4, (-1)), (1, 0)], [])]) (c1 := 1) (s1 := 2) (c2 := 0) (s2 := 0) (by exact rfl) ?_ (by omega) (by omega)
  refine jT_xaload (v := (4, 0)) (pcN := 184) jIH_14_182 rfl rfl rfl ?_
  refine jT_xlconst (z := 1) (pcN := 185) jIH_14_184 rfl rfl ?_
  refine jT_callB [1, 0] (y := 9) (pcN := 188) (dC := 1) (bc1 := 0) (bc2 := 0) (c1 := 0) (c2 := 0) (as := [(4, 1), (4, 0), (1, 1)]) (asC := [(4, 0), (4, 1), (1, 1)]) (LN := [(9, (0, 6)), (6, (1, q26)), (4, (1, q24)), (8, (4, 0))]) (stN := [(4, 1)]) (hsC := [(4, [(4, (-1)), (1, 0)], []), (101, [], [q5 - q7, -q11 + q9, q13 - q15, q17 - q19, q21 - q23, q25 - q27])]) (hsD := [(4, [(4, 1), (1, 1)], []), (101, [], [q5 - q7, -q11 + q9, q13 - q15, q17 - q19, q21 - q23, q25 - q27])]) (v := (9, 0)) (st2 := [(4, 1)]) (hs2 := [(101, [], [q5 - q7, -q11 + q9, q13 - q15, q17 - q19, q21 - q23, q25 - q27]), (4, [(4, 0), (1, 1)], [])]) (jH_9_65 (d := 0) (by omega) (by omega) (by omega) (by omega) (by omega) (by omega) (by omega) (by omega) (by omega) (by omega) (by omega) (by omega)) (by rfl) (by rfl) (by rfl) (by rfl) ⟨rfl, rfl, trivial⟩ (by rfl) (by rfl) (by omega) (by show 0 ≤ 2; omega) (by omega) (by omega) rfl rfl ?_
  refine jT_xgoto (pcN := 192) jIH_14_188 rfl ?_
  subst hq_q27
  subst hq_q26
  subst hq_q25
  subst hq_q24
  subst hq_q23
  subst hq_q22
  subst hq_q21
  subst hq_q20
  subst hq_q19
  subst hq_q18
  subst hq_q17
  subst hq_q16
  subst hq_q15
  subst hq_q14
  subst hq_q13
  subst hq_q12
  subst hq_q11
  subst hq_q10
  subst hq_q9
  subst hq_q8
  subst hq_q7
  subst hq_q6
  subst hq_q5
  subst hq_q4
  subst hq_q3
  subst hq_q2
  subst hq_q1
  exact jT_ret rfl (by decide) (by show 0 ≤ 2; omega) (by omega) (by omega) ⟨rfl, rfl, rfl⟩
theorem jIH_114_59 : jmI (jm 114) 59 = (.iconst 0, 1) := by rfl
theorem jH_114_86 {xs : List Int} {d : Nat} {x1 x2 x3 : Int} (h_x1 : 0 ≤ x1 ∧ x1 ≤ 7) (h_x2 : 1 ≤ x2 ∧ x2 ≤ 1000000) (h_x3 : 1 ≤ x3 ∧ x3 ≤ 1000000) (g_0 : (jsu 13 20 (jsu 11 20 (jsu 7 20 (jsu 5 20 (jsu 3 20 (jsu 2 20 (x2.tdiv (((Nat.gcd (x2).natAbs (x3).natAbs : Nat) : Int))))))))) - 2 < 0) (g_1 : (jsu 13 20 (jsu 11 20 (jsu 7 20 (jsu 5 20 (jsu 3 20 (jsu 2 20 (x3.tdiv (((Nat.gcd (x2).natAbs (x3).natAbs : Nat) : Int))))))))) - 2 < 0) (g_2 : x2 - x3 - 1 < 0) : jT xs (d + 3) 114 18 0 [(0, (4, 0)), (1, (0, x1)), (2, (0, x2)), (3, (0, x3))] [] jpH_290 4 21 (fun k v hsN => k = 0 ∧ v = (0, 0) ∧ hsN = [jzH_297, jgh, jgh, jgh, jgh, jgh, jgh, jgh, jgh, jgh, jzH_298, jzH_288, jzH_289, jgh, jgh, jgh, jgh, jgh, (101, [], [(jsc 2 20 (x2.tdiv (((Nat.gcd (x2).natAbs (x3).natAbs : Nat) : Int)))) - (jsc 2 20 (x3.tdiv (((Nat.gcd (x2).natAbs (x3).natAbs : Nat) : Int)))), (jsc 3 20 (jsu 2 20 (x2.tdiv (((Nat.gcd (x2).natAbs (x3).natAbs : Nat) : Int))))) - (jsc 3 20 (jsu 2 20 (x3.tdiv (((Nat.gcd (x2).natAbs (x3).natAbs : Nat) : Int))))), (jsc 5 20 (jsu 3 20 (jsu 2 20 (x2.tdiv (((Nat.gcd (x2).natAbs (x3).natAbs : Nat) : Int)))))) - (jsc 5 20 (jsu 3 20 (jsu 2 20 (x3.tdiv (((Nat.gcd (x2).natAbs (x3).natAbs : Nat) : Int)))))), (jsc 7 20 (jsu 5 20 (jsu 3 20 (jsu 2 20 (x2.tdiv (((Nat.gcd (x2).natAbs (x3).natAbs : Nat) : Int))))))) - (jsc 7 20 (jsu 5 20 (jsu 3 20 (jsu 2 20 (x3.tdiv (((Nat.gcd (x2).natAbs (x3).natAbs : Nat) : Int))))))), -(jsc 11 20 (jsu 7 20 (jsu 5 20 (jsu 3 20 (jsu 2 20 (x3.tdiv (((Nat.gcd (x2).natAbs (x3).natAbs : Nat) : Int)))))))) + (jsc 11 20 (jsu 7 20 (jsu 5 20 (jsu 3 20 (jsu 2 20 (x2.tdiv (((Nat.gcd (x2).natAbs (x3).natAbs : Nat) : Int)))))))), (jsc 13 20 (jsu 11 20 (jsu 7 20 (jsu 5 20 (jsu 3 20 (jsu 2 20 (x2.tdiv (((Nat.gcd (x2).natAbs (x3).natAbs : Nat) : Int))))))))) - (jsc 13 20 (jsu 11 20 (jsu 7 20 (jsu 5 20 (jsu 3 20 (jsu 2 20 (x3.tdiv (((Nat.gcd (x2).natAbs (x3).natAbs : Nat) : Int)))))))))]), (4, [(4, 18), (1, 1)], []), jgh, jzH_296]) := by
  refine jT_xaload_n (v := (4, 0)) (pcN := 1) jIH_114_0 rfl rfl rfl ?_
  refine jT_xiload_n (v := (0, x1)) (pcN := 2) jIH_114_1 rfl rfl rfl ?_
  refine jT_xbipush (k := 8) (pcN := 4) jIH_114_2 (by decide) rfl ?_
  refine jT_fR [0] 18 (y := 115) (pcN := 7) (dC := 0) (bc1 := 0) (bc2 := 0) (c1 := 4) (c2 := 21) (as := [(4, 0), (0, x1), (0, 8)]) (asC := [(4, 0), (0, x1), (0, 8)]) (LN := [(0, (4, 0)), (1, (0, x1)), (2, (0, x2)), (3, (0, x3))]) (stN := []) (hsC := [jgh]) (v := (9, 0)) (st2 := []) (jH_115_9 (d := 0) (by omega)) (by rfl) (by rfl) (by decide +kernel) (by rfl) (by rfl) (by omega) (by omega) (by omega) (by omega) rfl ?_
  refine jT_xaload_n (v := (4, 0)) (pcN := 8) jIH_114_7 rfl rfl rfl ?_
  refine jT_xiload_n (v := (0, x2)) (pcN := 9) jIH_114_8 rfl rfl rfl ?_
  refine jT_xiconst (k := 1) (pcN := 10) jIH_114_9 rfl ?_
  refine jT_adv 1 (pcN := 12) (LN := [(0, (4, 0)), (1, (0, x1)), (2, (0, x2)), (3, (0, x3))]) (stN := [(0, 1000000), (0, 1), (0, x2), (4, 0)]) (hsN := jpH_290) (c1 := 0) (s1 := 0) (c2 := 4) (s2 := 21) (by exact rfl) ?_ (by omega) (by omega)
  refine jT_fR [0] 18 (y := 116) (pcN := 15) (dC := 0) (bc1 := 0) (bc2 := 0) (c1 := 4) (c2 := 21) (as := [(4, 0), (0, x2), (0, 1), (0, 1000000)]) (asC := [(4, 0), (0, x2), (0, 1), (0, 1000000)]) (LN := [(0, (4, 0)), (1, (0, x1)), (2, (0, x2)), (3, (0, x3))]) (stN := []) (hsC := [jgh]) (v := (9, 0)) (st2 := []) (jH_116_19 (d := 0) (by omega)) (by rfl) (by rfl) (by decide +kernel) (by rfl) (by rfl) (by omega) (by omega) (by omega) (by omega) rfl ?_
  refine jT_xaload_n (v := (4, 0)) (pcN := 16) jIH_114_15 rfl rfl rfl ?_
  refine jT_xiload_n (v := (0, x3)) (pcN := 17) jIH_114_16 rfl rfl rfl ?_
  refine jT_xiconst (k := 1) (pcN := 18) jIH_114_17 rfl ?_
  refine jT_adv 1 (pcN := 20) (LN := [(0, (4, 0)), (1, (0, x1)), (2, (0, x2)), (3, (0, x3))]) (stN := [(0, 1000000), (0, 1), (0, x3), (4, 0)]) (hsN := jpH_290) (c1 := 0) (s1 := 0) (c2 := 4) (s2 := 21) (by exact rfl) ?_ (by omega) (by omega)
  refine jT_fR [0] 18 (y := 116) (pcN := 23) (dC := 0) (bc1 := 0) (bc2 := 0) (c1 := 4) (c2 := 21) (as := [(4, 0), (0, x3), (0, 1), (0, 1000000)]) (asC := [(4, 0), (0, x3), (0, 1), (0, 1000000)]) (LN := [(0, (4, 0)), (1, (0, x1)), (2, (0, x2)), (3, (0, x3))]) (stN := []) (hsC := [jgh]) (v := (9, 0)) (st2 := []) (jH_116_24 (d := 0) (by omega)) (by rfl) (by rfl) (by decide +kernel) (by rfl) (by rfl) (by omega) (by omega) (by omega) (by omega) rfl ?_
  refine jT_xiload_n (v := (0, x2)) (pcN := 24) jIH_114_23 rfl rfl rfl ?_
  refine jT_xiload_n (v := (0, x3)) (pcN := 25) jIH_114_24 rfl rfl rfl ?_
  refine jT_fA [] 18 (y := 14) (pcN := 28) (dC := 2) (bc1 := 2) (bc2 := 8) (c1 := 2) (c2 := 13) (as := [(0, x2), (0, x3)]) (asC := [(0, x2), (0, x3)]) (LN := [(0, (4, 0)), (1, (0, x1)), (2, (0, x2)), (3, (0, x3))]) (stN := []) (hsC := []) (ex := [(101, [], [(jsc 2 20 (x2.tdiv (((Nat.gcd (x2).natAbs (x3).natAbs : Nat) : Int)))) - (jsc 2 20 (x3.tdiv (((Nat.gcd (x2).natAbs (x3).natAbs : Nat) : Int)))), -(jsc 3 20 (jsu 2 20 (x3.tdiv (((Nat.gcd (x2).natAbs (x3).natAbs : Nat) : Int))))) + (jsc 3 20 (jsu 2 20 (x2.tdiv (((Nat.gcd (x2).natAbs (x3).natAbs : Nat) : Int))))), (jsc 5 20 (jsu 3 20 (jsu 2 20 (x2.tdiv (((Nat.gcd (x2).natAbs (x3).natAbs : Nat) : Int)))))) - (jsc 5 20 (jsu 3 20 (jsu 2 20 (x3.tdiv (((Nat.gcd (x2).natAbs (x3).natAbs : Nat) : Int)))))), (jsc 7 20 (jsu 5 20 (jsu 3 20 (jsu 2 20 (x2.tdiv (((Nat.gcd (x2).natAbs (x3).natAbs : Nat) : Int))))))) - (jsc 7 20 (jsu 5 20 (jsu 3 20 (jsu 2 20 (x3.tdiv (((Nat.gcd (x2).natAbs (x3).natAbs : Nat) : Int))))))), (jsc 11 20 (jsu 7 20 (jsu 5 20 (jsu 3 20 (jsu 2 20 (x2.tdiv (((Nat.gcd (x2).natAbs (x3).natAbs : Nat) : Int)))))))) - (jsc 11 20 (jsu 7 20 (jsu 5 20 (jsu 3 20 (jsu 2 20 (x3.tdiv (((Nat.gcd (x2).natAbs (x3).natAbs : Nat) : Int)))))))), (jsc 13 20 (jsu 11 20 (jsu 7 20 (jsu 5 20 (jsu 3 20 (jsu 2 20 (x2.tdiv (((Nat.gcd (x2).natAbs (x3).natAbs : Nat) : Int))))))))) - (jsc 13 20 (jsu 11 20 (jsu 7 20 (jsu 5 20 (jsu 3 20 (jsu 2 20 (x3.tdiv (((Nat.gcd (x2).natAbs (x3).natAbs : Nat) : Int)))))))))]), (4, [(4, 0), (1, 1)], [])]) (v := (4, 1)) (st2 := [(4, 19)]) (hs2 := [jzH_5, jgh, jgh, jgh, jgh, jgh, jgh, jgh, jgh, jgh, jzH_286, jzH_288, jzH_289, jgh, jgh, jgh, jgh, jgh, (101, [], [(jsc 2 20 (x2.tdiv (((Nat.gcd (x2).natAbs (x3).natAbs : Nat) : Int)))) - (jsc 2 20 (x3.tdiv (((Nat.gcd (x2).natAbs (x3).natAbs : Nat) : Int)))), -(jsc 3 20 (jsu 2 20 (x3.tdiv (((Nat.gcd (x2).natAbs (x3).natAbs : Nat) : Int))))) + (jsc 3 20 (jsu 2 20 (x2.tdiv (((Nat.gcd (x2).natAbs (x3).natAbs : Nat) : Int))))), (jsc 5 20 (jsu 3 20 (jsu 2 20 (x2.tdiv (((Nat.gcd (x2).natAbs (x3).natAbs : Nat) : Int)))))) - (jsc 5 20 (jsu 3 20 (jsu 2 20 (x3.tdiv (((Nat.gcd (x2).natAbs (x3).natAbs : Nat) : Int)))))), (jsc 7 20 (jsu 5 20 (jsu 3 20 (jsu 2 20 (x2.tdiv (((Nat.gcd (x2).natAbs (x3).natAbs : Nat) : Int))))))) - (jsc 7 20 (jsu 5 20 (jsu 3 20 (jsu 2 20 (x3.tdiv (((Nat.gcd (x2).natAbs (x3).natAbs : Nat) : Int))))))), (jsc 11 20 (jsu 7 20 (jsu 5 20 (jsu 3 20 (jsu 2 20 (x2.tdiv (((Nat.gcd (x2).natAbs (x3).natAbs : Nat) : Int)))))))) - (jsc 11 20 (jsu 7 20 (jsu 5 20 (jsu 3 20 (jsu 2 20 (x3.tdiv (((Nat.gcd (x2).natAbs (x3).natAbs : Nat) : Int)))))))), (jsc 13 20 (jsu 11 20 (jsu 7 20 (jsu 5 20 (jsu 3 20 (jsu 2 20 (x2.tdiv (((Nat.gcd (x2).natAbs (x3).natAbs : Nat) : Int))))))))) - (jsc 13 20 (jsu 11 20 (jsu 7 20 (jsu 5 20 (jsu 3 20 (jsu 2 20 (x3.tdiv (((Nat.gcd (x2).natAbs (x3).natAbs : Nat) : Int)))))))))]), (4, [(4, 18), (1, 1)], [])]) (jH_14_85 (d := 0) (by omega) (by omega) (by omega) (by omega) (by omega)) (by rfl) (by rfl) (by decide +kernel) (by rfl) (by rfl) (by omega) (by omega) (by omega) (by omega) rfl rfl ?_
  have hb_q1 := jsc_b (P := 2) (n := 20) (u := (x2.tdiv (((Nat.gcd (x2).natAbs (x3).natAbs : Nat) : Int))))
  have hb_q1 : 0 ≤ jsc 2 20 (x2.tdiv (((Nat.gcd (x2).natAbs (x3).natAbs : Nat) : Int))) ∧ jsc 2 20 (x2.tdiv (((Nat.gcd (x2).natAbs (x3).natAbs : Nat) : Int))) ≤ 20 := ⟨hb_q1.1, by omega⟩
  generalize hq_q1 : jsc 2 20 (x2.tdiv (((Nat.gcd (x2).natAbs (x3).natAbs : Nat) : Int))) = q1 at hb_q1 ⊢
  have hb_q2 := jsc_b (P := 2) (n := 20) (u := (x3.tdiv (((Nat.gcd (x2).natAbs (x3).natAbs : Nat) : Int))))
  have hb_q2 : 0 ≤ jsc 2 20 (x3.tdiv (((Nat.gcd (x2).natAbs (x3).natAbs : Nat) : Int))) ∧ jsc 2 20 (x3.tdiv (((Nat.gcd (x2).natAbs (x3).natAbs : Nat) : Int))) ≤ 20 := ⟨hb_q2.1, by omega⟩
  generalize hq_q2 : jsc 2 20 (x3.tdiv (((Nat.gcd (x2).natAbs (x3).natAbs : Nat) : Int))) = q2 at hb_q2 ⊢
  have hb_q3 := jsc_b (P := 3) (n := 20) (u := (jsu 2 20 (x2.tdiv (((Nat.gcd (x2).natAbs (x3).natAbs : Nat) : Int)))))
  have hb_q3 : 0 ≤ jsc 3 20 (jsu 2 20 (x2.tdiv (((Nat.gcd (x2).natAbs (x3).natAbs : Nat) : Int)))) ∧ jsc 3 20 (jsu 2 20 (x2.tdiv (((Nat.gcd (x2).natAbs (x3).natAbs : Nat) : Int)))) ≤ 20 := ⟨hb_q3.1, by omega⟩
  generalize hq_q3 : jsc 3 20 (jsu 2 20 (x2.tdiv (((Nat.gcd (x2).natAbs (x3).natAbs : Nat) : Int)))) = q3 at hb_q3 ⊢
  have hb_q4 := jsc_b (P := 3) (n := 20) (u := (jsu 2 20 (x3.tdiv (((Nat.gcd (x2).natAbs (x3).natAbs : Nat) : Int)))))
  have hb_q4 : 0 ≤ jsc 3 20 (jsu 2 20 (x3.tdiv (((Nat.gcd (x2).natAbs (x3).natAbs : Nat) : Int)))) ∧ jsc 3 20 (jsu 2 20 (x3.tdiv (((Nat.gcd (x2).natAbs (x3).natAbs : Nat) : Int)))) ≤ 20 := ⟨hb_q4.1, by omega⟩
  generalize hq_q4 : jsc 3 20 (jsu 2 20 (x3.tdiv (((Nat.gcd (x2).natAbs (x3).natAbs : Nat) : Int)))) = q4 at hb_q4 ⊢
  have hb_q5 := jsc_b (P := 5) (n := 20) (u := (jsu 3 20 (jsu 2 20 (x2.tdiv (((Nat.gcd (x2).natAbs (x3).natAbs : Nat) : Int))))))
  have hb_q5 : 0 ≤ jsc 5 20 (jsu 3 20 (jsu 2 20 (x2.tdiv (((Nat.gcd (x2).natAbs (x3).natAbs : Nat) : Int))))) ∧ jsc 5 20 (jsu 3 20 (jsu 2 20 (x2.tdiv (((Nat.gcd (x2).natAbs (x3).natAbs : Nat) : Int))))) ≤ 20 := ⟨hb_q5.1, by omega⟩
  generalize hq_q5 : jsc 5 20 (jsu 3 20 (jsu 2 20 (x2.tdiv (((Nat.gcd (x2).natAbs (x3).natAbs : Nat) : Int))))) = q5 at hb_q5 ⊢
  have hb_q6 := jsc_b (P := 5) (n := 20) (u := (jsu 3 20 (jsu 2 20 (x3.tdiv (((Nat.gcd (x2).natAbs (x3).natAbs : Nat) : Int))))))
  have hb_q6 : 0 ≤ jsc 5 20 (jsu 3 20 (jsu 2 20 (x3.tdiv (((Nat.gcd (x2).natAbs (x3).natAbs : Nat) : Int))))) ∧ jsc 5 20 (jsu 3 20 (jsu 2 20 (x3.tdiv (((Nat.gcd (x2).natAbs (x3).natAbs : Nat) : Int))))) ≤ 20 := ⟨hb_q6.1, by omega⟩
  generalize hq_q6 : jsc 5 20 (jsu 3 20 (jsu 2 20 (x3.tdiv (((Nat.gcd (x2).natAbs (x3).natAbs : Nat) : Int))))) = q6 at hb_q6 ⊢
  have hb_q7 := jsc_b (P := 7) (n := 20) (u := (jsu 5 20 (jsu 3 20 (jsu 2 20 (x2.tdiv (((Nat.gcd (x2).natAbs (x3).natAbs : Nat) : Int)))))))
  have hb_q7 : 0 ≤ jsc 7 20 (jsu 5 20 (jsu 3 20 (jsu 2 20 (x2.tdiv (((Nat.gcd (x2).natAbs (x3).natAbs : Nat) : Int)))))) ∧ jsc 7 20 (jsu 5 20 (jsu 3 20 (jsu 2 20 (x2.tdiv (((Nat.gcd (x2).natAbs (x3).natAbs : Nat) : Int)))))) ≤ 20 := ⟨hb_q7.1, by omega⟩
  generalize hq_q7 : jsc 7 20 (jsu 5 20 (jsu 3 20 (jsu 2 20 (x2.tdiv (((Nat.gcd (x2).natAbs (x3).natAbs : Nat) : Int)))))) = q7 at hb_q7 ⊢
  have hb_q8 := jsc_b (P := 7) (n := 20) (u := (jsu 5 20 (jsu 3 20 (jsu 2 20 (x3.tdiv (((Nat.gcd (x2).natAbs (x3).natAbs : Nat) : Int)))))))
  have hb_q8 : 0 ≤ jsc 7 20 (jsu 5 20 (jsu 3 20 (jsu 2 20 (x3.tdiv (((Nat.gcd (x2).natAbs (x3).natAbs : Nat) : Int)))))) ∧ jsc 7 20 (jsu 5 20 (jsu 3 20 (jsu 2 20 (x3.tdiv (((Nat.gcd (x2).natAbs (x3).natAbs : Nat) : Int)))))) ≤ 20 := ⟨hb_q8.1, by omega⟩
  generalize hq_q8 : jsc 7 20 (jsu 5 20 (jsu 3 20 (jsu 2 20 (x3.tdiv (((Nat.gcd (x2).natAbs (x3).natAbs : Nat) : Int)))))) = q8 at hb_q8 ⊢
  have hb_q9 := jsc_b (P := 11) (n := 20) (u := (jsu 7 20 (jsu 5 20 (jsu 3 20 (jsu 2 20 (x2.tdiv (((Nat.gcd (x2).natAbs (x3).natAbs : Nat) : Int))))))))
  have hb_q9 : 0 ≤ jsc 11 20 (jsu 7 20 (jsu 5 20 (jsu 3 20 (jsu 2 20 (x2.tdiv (((Nat.gcd (x2).natAbs (x3).natAbs : Nat) : Int))))))) ∧ jsc 11 20 (jsu 7 20 (jsu 5 20 (jsu 3 20 (jsu 2 20 (x2.tdiv (((Nat.gcd (x2).natAbs (x3).natAbs : Nat) : Int))))))) ≤ 20 := ⟨hb_q9.1, by omega⟩
  generalize hq_q9 : jsc 11 20 (jsu 7 20 (jsu 5 20 (jsu 3 20 (jsu 2 20 (x2.tdiv (((Nat.gcd (x2).natAbs (x3).natAbs : Nat) : Int))))))) = q9 at hb_q9 ⊢
  have hb_q10 := jsc_b (P := 11) (n := 20) (u := (jsu 7 20 (jsu 5 20 (jsu 3 20 (jsu 2 20 (x3.tdiv (((Nat.gcd (x2).natAbs (x3).natAbs : Nat) : Int))))))))
  have hb_q10 : 0 ≤ jsc 11 20 (jsu 7 20 (jsu 5 20 (jsu 3 20 (jsu 2 20 (x3.tdiv (((Nat.gcd (x2).natAbs (x3).natAbs : Nat) : Int))))))) ∧ jsc 11 20 (jsu 7 20 (jsu 5 20 (jsu 3 20 (jsu 2 20 (x3.tdiv (((Nat.gcd (x2).natAbs (x3).natAbs : Nat) : Int))))))) ≤ 20 := ⟨hb_q10.1, by omega⟩
  generalize hq_q10 : jsc 11 20 (jsu 7 20 (jsu 5 20 (jsu 3 20 (jsu 2 20 (x3.tdiv (((Nat.gcd (x2).natAbs (x3).natAbs : Nat) : Int))))))) = q10 at hb_q10 ⊢
  have hb_q11 := jsc_b (P := 13) (n := 20) (u := (jsu 11 20 (jsu 7 20 (jsu 5 20 (jsu 3 20 (jsu 2 20 (x2.tdiv (((Nat.gcd (x2).natAbs (x3).natAbs : Nat) : Int)))))))))
  have hb_q11 : 0 ≤ jsc 13 20 (jsu 11 20 (jsu 7 20 (jsu 5 20 (jsu 3 20 (jsu 2 20 (x2.tdiv (((Nat.gcd (x2).natAbs (x3).natAbs : Nat) : Int)))))))) ∧ jsc 13 20 (jsu 11 20 (jsu 7 20 (jsu 5 20 (jsu 3 20 (jsu 2 20 (x2.tdiv (((Nat.gcd (x2).natAbs (x3).natAbs : Nat) : Int)))))))) ≤ 20 := ⟨hb_q11.1, by omega⟩
  generalize hq_q11 : jsc 13 20 (jsu 11 20 (jsu 7 20 (jsu 5 20 (jsu 3 20 (jsu 2 20 (x2.tdiv (((Nat.gcd (x2).natAbs (x3).natAbs : Nat) : Int)))))))) = q11 at hb_q11 ⊢
  have hb_q12 := jsc_b (P := 13) (n := 20) (u := (jsu 11 20 (jsu 7 20 (jsu 5 20 (jsu 3 20 (jsu 2 20 (x3.tdiv (((Nat.gcd (x2).natAbs (x3).natAbs : Nat) : Int)))))))))
  have hb_q12 : 0 ≤ jsc 13 20 (jsu 11 20 (jsu 7 20 (jsu 5 20 (jsu 3 20 (jsu 2 20 (x3.tdiv (((Nat.gcd (x2).natAbs (x3).natAbs : Nat) : Int)))))))) ∧ jsc 13 20 (jsu 11 20 (jsu 7 20 (jsu 5 20 (jsu 3 20 (jsu 2 20 (x3.tdiv (((Nat.gcd (x2).natAbs (x3).natAbs : Nat) : Int)))))))) ≤ 20 := ⟨hb_q12.1, by omega⟩
  generalize hq_q12 : jsc 13 20 (jsu 11 20 (jsu 7 20 (jsu 5 20 (jsu 3 20 (jsu 2 20 (x3.tdiv (((Nat.gcd (x2).natAbs (x3).natAbs : Nat) : Int)))))))) = q12 at hb_q12 ⊢
  refine jT_eq (LN := [(0, (4, 0)), (1, (0, x1)), (2, (0, x2)), (3, (0, x3))]) (stN := [(4, 19)]) (hsN := [jzH_5, jgh, jgh, jgh, jgh, jgh, jgh, jgh, jgh, jgh, jzH_286, jzH_288, jzH_289, jgh, jgh, jgh, jgh, jgh, (101, [], [q1 - q2, q3 - q4, q5 - q6, q7 - q8, -q10 + q9, q11 - q12]), (4, [(4, 18), (1, 1)], [])]) (rfl) (rfl) (by simp only [List.cons.injEq, Prod.mk.injEq, and_true, true_and] <;> ((try unfold jw); (try unfold jwl); omega)) ?_
  refine jT_xastore (v := (4, 19)) (LN := [(4, (4, 19)), (0, (4, 0)), (1, (0, x1)), (2, (0, x2)), (3, (0, x3))]) (pcN := 30) jIH_114_28 rfl rfl rfl rfl ?_
  refine jT_xaload_n (v := (4, 0)) (pcN := 31) jIH_114_30 rfl rfl rfl ?_
  refine jT_xaload (v := (4, 19)) (pcN := 33) jIH_114_31 rfl rfl rfl ?_
  refine jT_callA [0, 19, 18] (y := 117) (pcN := 36) (dC := 2) (bc1 := 0) (bc2 := 0) (c1 := 2) (c2 := 13) (as := [(4, 0), (4, 19)]) (asC := [(4, 0), (4, 1)]) (LN := [(4, (4, 19)), (0, (4, 0)), (1, (0, x1)), (2, (0, x2)), (3, (0, x3))]) (stN := []) (hsC := [jgh, (4, [(4, 2), (1, 1)], []), (101, [], [q1 - q2, q3 - q4, q5 - q6, q7 - q8, -q10 + q9, q11 - q12])]) (ex := []) (v := (9, 0)) (st2 := []) (hs2 := [jzH_5, jgh, jgh, jgh, jgh, jgh, jgh, jgh, jgh, jgh, jzH_286, jzH_288, jzH_289, jgh, jgh, jgh, jgh, jgh, (101, [], [q1 - q2, q3 - q4, q5 - q6, q7 - q8, -q10 + q9, q11 - q12]), (4, [(4, 18), (1, 1)], [])]) (jH_117_69 (d := 0) (by omega) (by omega) (by omega) (by omega) (by omega) (by omega) (by omega) (by omega) (by omega) (by omega) (by omega) (by omega)) (by rfl) (by rfl) (by rfl) (by rfl) ⟨rfl, rfl, rfl, trivial⟩ (by rfl) (by rfl) (by omega) (by show 18 ≤ 20; omega) (by omega) (by omega) rfl rfl ?_
  refine jT_xaload_n (v := (4, 0)) (pcN := 37) jIH_114_36 rfl rfl rfl ?_
  refine jT_xaload_n (v := (4, 0)) (pcN := 38) jIH_114_37 rfl rfl rfl ?_
  refine jT_xgetf (a := 0) (t := 1) (ci := 13) (fi := 11) (c := jzH_5) (v := (4, 11)) (pcN := 41) jIH_114_38 rfl rfl rfl rfl rfl rfl rfl ?_
  refine jT_xiload_n (v := (0, x1)) (pcN := 42) jIH_114_41 rfl rfl rfl ?_
  refine jT_xaload (v := (4, 19)) (pcN := 44) jIH_114_42 rfl rfl rfl ?_
  refine jT_callA [11, 19, 12, 13, 14, 15, 16, 18, 17] (y := 58) (pcN := 47) (dC := 1) (bc1 := 2) (bc2 := 13) (c1 := 0) (c2 := 0) (as := [(4, 11), (0, x1), (4, 19)]) (asC := [(4, 0), (0, x1), (4, 1)]) (LN := [(4, (4, 19)), (0, (4, 0)), (1, (0, x1)), (2, (0, x2)), (3, (0, x3))]) (stN := [(4, 0)]) (hsC := jpH_281) (ex := [jgh, jzH_279]) (v := (4, 10)) (st2 := [(4, 21), (4, 0)]) (hs2 := [jzH_5, jgh, jgh, jgh, jgh, jgh, jgh, jgh, jgh, jgh, jzH_286, jzH_288, jzH_289, jgh, jgh, jgh, jgh, jgh, (101, [], [q1 - q2, q3 - q4, q5 - q6, q7 - q8, -q10 + q9, q11 - q12]), (4, [(4, 18), (1, 1)], []), jgh, jzH_296]) (jH_58_71 (d := 0) (by omega)) (by rfl) (by rfl) (by rfl) (by rfl) ⟨rfl, rfl, rfl, rfl, rfl, rfl, rfl, rfl, rfl, trivial⟩ (by rfl) (by rfl) (by omega) (by show 18 ≤ 20; omega) (by omega) (by omega) rfl rfl ?_
  refine jT_callB [0, 21, 1, 2, 3, 4, 5, 6, 7, 8, 9, 10, 11, 12, 13, 14, 15, 16] (y := 100) (pcN := 50) (dC := 0) (bc1 := 0) (bc2 := 0) (c1 := 0) (c2 := 0) (as := [(4, 0), (4, 21)]) (asC := [(4, 0), (4, 1)]) (LN := [(4, (4, 19)), (0, (4, 0)), (1, (0, x1)), (2, (0, x2)), (3, (0, x3))]) (stN := []) (hsC := jpH_287) (hsD := jpH_285) (v := (9, 0)) (st2 := []) (hs2 := [jzH_297, jgh, jgh, jgh, jgh, jgh, jgh, jgh, jgh, jgh, jzH_298, jzH_288, jzH_289, jgh, jgh, jgh, jgh, jgh, (101, [], [q1 - q2, q3 - q4, q5 - q6, q7 - q8, -q10 + q9, q11 - q12]), (4, [(4, 18), (1, 1)], []), jgh, jzH_296]) (jH_100_72 (d := 0)) (by rfl) (by rfl) (by rfl) (by rfl) ⟨rfl, rfl, rfl, rfl, rfl, rfl, rfl, rfl, rfl, rfl, rfl, rfl, rfl, rfl, rfl, rfl, rfl, rfl, trivial⟩ (by rfl) (by rfl) (by omega) (by show 18 ≤ 22; omega) (by omega) (by omega) rfl rfl ?_
  refine jT_xiload_n (v := (0, x2)) (pcN := 51) jIH_114_50 rfl rfl rfl ?_
  refine jT_xiload_n (v := (0, x3)) (pcN := 52) jIH_114_51 rfl rfl rfl ?_
  refine jT_icT (a := x2) (b := x3) (t := 59) (by rfl) (by rfl) (by rfl) (jw_idd (by omega) (by omega)) (jw_idd (by omega) (by omega)) (by simp only [jcP] <;> omega) ?_
  refine jT_xiconst (k := 0) (pcN := 60) jIH_114_59 rfl ?_
  subst hq_q12
  subst hq_q11
  subst hq_q10
  subst hq_q9
  subst hq_q8
  subst hq_q7
  subst hq_q6
  subst hq_q5
  subst hq_q4
  subst hq_q3
  subst hq_q2
  subst hq_q1
  exact jT_ret rfl (by decide) (by show 18 ≤ 22; omega) (by omega) (by omega) ⟨rfl, rfl, rfl⟩
theorem jIH_326_17 : jmI (jm 326) 17 = (.lconst 0, 1) := by rfl
theorem jH_326_87 {xs : List Int} {d : Nat} {x1 x2 x3 : Int} (h_x1 : 0 ≤ x1 ∧ x1 ≤ 7) (h_x2 : 1 ≤ x2 ∧ x2 ≤ 1000000) (h_x3 : 1 ≤ x3 ∧ x3 ≤ 1000000) (g_0 : (jsu 13 20 (jsu 11 20 (jsu 7 20 (jsu 5 20 (jsu 3 20 (jsu 2 20 (x2.tdiv (((Nat.gcd (x2).natAbs (x3).natAbs : Nat) : Int))))))))) - 2 < 0) (g_1 : (jsu 13 20 (jsu 11 20 (jsu 7 20 (jsu 5 20 (jsu 3 20 (jsu 2 20 (x3.tdiv (((Nat.gcd (x2).natAbs (x3).natAbs : Nat) : Int))))))))) - 2 < 0) (g_2 : x2 - x3 - 1 < 0) : jT xs (d + 4) 326 19 0 [(0, (4, 0)), (1, (0, x1)), (2, (0, x2)), (3, (0, x3)), (4, (4, 1))] [] jpH_312 4 21 (fun k v hsN => k = 0 ∧ v = (0, 0) ∧ hsN = [jzH_304, (101, [], [0]), jgh, jgh, jgh, jgh, jgh, jgh, jgh, jgh, jgh, jzH_283, jzH_284, jzH_305, jgh, jgh, jgh, jgh, jgh, (101, [], [(jsc 2 20 (x2.tdiv (((Nat.gcd (x2).natAbs (x3).natAbs : Nat) : Int)))) - (jsc 2 20 (x3.tdiv (((Nat.gcd (x2).natAbs (x3).natAbs : Nat) : Int)))), (jsc 3 20 (jsu 2 20 (x2.tdiv (((Nat.gcd (x2).natAbs (x3).natAbs : Nat) : Int))))) - (jsc 3 20 (jsu 2 20 (x3.tdiv (((Nat.gcd (x2).natAbs (x3).natAbs : Nat) : Int))))), (jsc 5 20 (jsu 3 20 (jsu 2 20 (x2.tdiv (((Nat.gcd (x2).natAbs (x3).natAbs : Nat) : Int)))))) - (jsc 5 20 (jsu 3 20 (jsu 2 20 (x3.tdiv (((Nat.gcd (x2).natAbs (x3).natAbs : Nat) : Int)))))), (jsc 7 20 (jsu 5 20 (jsu 3 20 (jsu 2 20 (x2.tdiv (((Nat.gcd (x2).natAbs (x3).natAbs : Nat) : Int))))))) - (jsc 7 20 (jsu 5 20 (jsu 3 20 (jsu 2 20 (x3.tdiv (((Nat.gcd (x2).natAbs (x3).natAbs : Nat) : Int))))))), -(jsc 11 20 (jsu 7 20 (jsu 5 20 (jsu 3 20 (jsu 2 20 (x3.tdiv (((Nat.gcd (x2).natAbs (x3).natAbs : Nat) : Int)))))))) + (jsc 11 20 (jsu 7 20 (jsu 5 20 (jsu 3 20 (jsu 2 20 (x2.tdiv (((Nat.gcd (x2).natAbs (x3).natAbs : Nat) : Int)))))))), (jsc 13 20 (jsu 11 20 (jsu 7 20 (jsu 5 20 (jsu 3 20 (jsu 2 20 (x2.tdiv (((Nat.gcd (x2).natAbs (x3).natAbs : Nat) : Int))))))))) - (jsc 13 20 (jsu 11 20 (jsu 7 20 (jsu 5 20 (jsu 3 20 (jsu 2 20 (x3.tdiv (((Nat.gcd (x2).natAbs (x3).natAbs : Nat) : Int)))))))))]), (4, [(4, 19), (1, 1)], []), jgh, jzH_306]) := by
  refine jT_xaload (v := (4, 1)) (pcN := 2) jIH_326_0 rfl rfl rfl ?_
  refine jT_xiconst (k := 0) (pcN := 3) jIH_326_2 rfl ?_
  refine jT_xaload_n (v := (4, 0)) (pcN := 4) jIH_326_3 rfl rfl rfl ?_
  refine jT_xiload_n (v := (0, x1)) (pcN := 5) jIH_326_4 rfl rfl rfl ?_
  refine jT_xiload_n (v := (0, x2)) (pcN := 6) jIH_326_5 rfl rfl rfl ?_
  refine jT_xiload_n (v := (0, x3)) (pcN := 7) jIH_326_6 rfl rfl rfl ?_
  refine jT_fB [0, 2, 3, 4, 5, 6, 7, 8, 9, 10, 11, 12, 13, 14, 15, 16, 17, 18] 19 (y := 114) (pcN := 10) (dC := 3) (bc1 := 4) (bc2 := 21) (c1 := 0) (c2 := 0) (as := [(4, 0), (0, x1), (0, x2), (0, x3)]) (asC := [(4, 0), (0, x1), (0, x2), (0, x3)]) (LN := [(0, (4, 0)), (1, (0, x1)), (2, (0, x2)), (3, (0, x3)), (4, (4, 1))]) (stN := [(0, 0), (4, 1)]) (hsC := jpH_290) (hsD := [jzH_297, jgh, jgh, jgh, jgh, jgh, jgh, jgh, jgh, jgh, jzH_298, jzH_288, jzH_289, jgh, jgh, jgh, jgh, jgh, (101, [], [(jsc 2 20 (x2.tdiv (((Nat.gcd (x2).natAbs (x3).natAbs : Nat) : Int)))) - (jsc 2 20 (x3.tdiv (((Nat.gcd (x2).natAbs (x3).natAbs : Nat) : Int)))), (jsc 3 20 (jsu 2 20 (x2.tdiv (((Nat.gcd (x2).natAbs (x3).natAbs : Nat) : Int))))) - (jsc 3 20 (jsu 2 20 (x3.tdiv (((Nat.gcd (x2).natAbs (x3).natAbs : Nat) : Int))))), (jsc 5 20 (jsu 3 20 (jsu 2 20 (x2.tdiv (((Nat.gcd (x2).natAbs (x3).natAbs : Nat) : Int)))))) - (jsc 5 20 (jsu 3 20 (jsu 2 20 (x3.tdiv (((Nat.gcd (x2).natAbs (x3).natAbs : Nat) : Int)))))), (jsc 7 20 (jsu 5 20 (jsu 3 20 (jsu 2 20 (x2.tdiv (((Nat.gcd (x2).natAbs (x3).natAbs : Nat) : Int))))))) - (jsc 7 20 (jsu 5 20 (jsu 3 20 (jsu 2 20 (x3.tdiv (((Nat.gcd (x2).natAbs (x3).natAbs : Nat) : Int))))))), -(jsc 11 20 (jsu 7 20 (jsu 5 20 (jsu 3 20 (jsu 2 20 (x3.tdiv (((Nat.gcd (x2).natAbs (x3).natAbs : Nat) : Int)))))))) + (jsc 11 20 (jsu 7 20 (jsu 5 20 (jsu 3 20 (jsu 2 20 (x2.tdiv (((Nat.gcd (x2).natAbs (x3).natAbs : Nat) : Int)))))))), (jsc 13 20 (jsu 11 20 (jsu 7 20 (jsu 5 20 (jsu 3 20 (jsu 2 20 (x2.tdiv (((Nat.gcd (x2).natAbs (x3).natAbs : Nat) : Int))))))))) - (jsc 13 20 (jsu 11 20 (jsu 7 20 (jsu 5 20 (jsu 3 20 (jsu 2 20 (x3.tdiv (((Nat.gcd (x2).natAbs (x3).natAbs : Nat) : Int)))))))))]), (4, [(4, 18), (1, 1)], []), jgh, jzH_296]) (v := (0, 0)) (st2 := [(0, 0), (0, 0), (4, 1)]) (hs2 := [jzH_304, (101, [], [0]), jgh, jgh, jgh, jgh, jgh, jgh, jgh, jgh, jgh, jzH_283, jzH_284, jzH_305, jgh, jgh, jgh, jgh, jgh, (101, [], [(jsc 2 20 (x2.tdiv (((Nat.gcd (x2).natAbs (x3).natAbs : Nat) : Int)))) - (jsc 2 20 (x3.tdiv (((Nat.gcd (x2).natAbs (x3).natAbs : Nat) : Int)))), (jsc 3 20 (jsu 2 20 (x2.tdiv (((Nat.gcd (x2).natAbs (x3).natAbs : Nat) : Int))))) - (jsc 3 20 (jsu 2 20 (x3.tdiv (((Nat.gcd (x2).natAbs (x3).natAbs : Nat) : Int))))), (jsc 5 20 (jsu 3 20 (jsu 2 20 (x2.tdiv (((Nat.gcd (x2).natAbs (x3).natAbs : Nat) : Int)))))) - (jsc 5 20 (jsu 3 20 (jsu 2 20 (x3.tdiv (((Nat.gcd (x2).natAbs (x3).natAbs : Nat) : Int)))))), (jsc 7 20 (jsu 5 20 (jsu 3 20 (jsu 2 20 (x2.tdiv (((Nat.gcd (x2).natAbs (x3).natAbs : Nat) : Int))))))) - (jsc 7 20 (jsu 5 20 (jsu 3 20 (jsu 2 20 (x3.tdiv (((Nat.gcd (x2).natAbs (x3).natAbs : Nat) : Int))))))), -(jsc 11 20 (jsu 7 20 (jsu 5 20 (jsu 3 20 (jsu 2 20 (x3.tdiv (((Nat.gcd (x2).natAbs (x3).natAbs : Nat) : Int)))))))) + (jsc 11 20 (jsu 7 20 (jsu 5 20 (jsu 3 20 (jsu 2 20 (x2.tdiv (((Nat.gcd (x2).natAbs (x3).natAbs : Nat) : Int)))))))), (jsc 13 20 (jsu 11 20 (jsu 7 20 (jsu 5 20 (jsu 3 20 (jsu 2 20 (x2.tdiv (((Nat.gcd (x2).natAbs (x3).natAbs : Nat) : Int))))))))) - (jsc 13 20 (jsu 11 20 (jsu 7 20 (jsu 5 20 (jsu 3 20 (jsu 2 20 (x3.tdiv (((Nat.gcd (x2).natAbs (x3).natAbs : Nat) : Int)))))))))]), (4, [(4, 19), (1, 1)], []), jgh, jzH_306]) (jH_114_86 (d := 0) (by omega) (by omega) (by omega) (by omega) (by omega) (by omega)) (by rfl) (by rfl) (by decide +kernel) (by rfl) (by rfl) (by omega) (by omega) (by omega) (by omega) rfl rfl ?_
  have hb_q1 := jsc_b (P := 2) (n := 20) (u := (x2.tdiv (((Nat.gcd (x2).natAbs (x3).natAbs : Nat) : Int))))
  have hb_q1 : 0 ≤ jsc 2 20 (x2.tdiv (((Nat.gcd (x2).natAbs (x3).natAbs : Nat) : Int))) ∧ jsc 2 20 (x2.tdiv (((Nat.gcd (x2).natAbs (x3).natAbs : Nat) : Int))) ≤ 20 := ⟨hb_q1.1, by omega⟩
  generalize hq_q1 : jsc 2 20 (x2.tdiv (((Nat.gcd (x2).natAbs (x3).natAbs : Nat) : Int))) = q1 at hb_q1 ⊢
  have hb_q2 := jsc_b (P := 2) (n := 20) (u := (x3.tdiv (((Nat.gcd (x2).natAbs (x3).natAbs : Nat) : Int))))
  have hb_q2 : 0 ≤ jsc 2 20 (x3.tdiv (((Nat.gcd (x2).natAbs (x3).natAbs : Nat) : Int))) ∧ jsc 2 20 (x3.tdiv (((Nat.gcd (x2).natAbs (x3).natAbs : Nat) : Int))) ≤ 20 := ⟨hb_q2.1, by omega⟩
  generalize hq_q2 : jsc 2 20 (x3.tdiv (((Nat.gcd (x2).natAbs (x3).natAbs : Nat) : Int))) = q2 at hb_q2 ⊢
  have hb_q3 := jsc_b (P := 3) (n := 20) (u := (jsu 2 20 (x2.tdiv (((Nat.gcd (x2).natAbs (x3).natAbs : Nat) : Int)))))
  have hb_q3 : 0 ≤ jsc 3 20 (jsu 2 20 (x2.tdiv (((Nat.gcd (x2).natAbs (x3).natAbs : Nat) : Int)))) ∧ jsc 3 20 (jsu 2 20 (x2.tdiv (((Nat.gcd (x2).natAbs (x3).natAbs : Nat) : Int)))) ≤ 20 := ⟨hb_q3.1, by omega⟩
  generalize hq_q3 : jsc 3 20 (jsu 2 20 (x2.tdiv (((Nat.gcd (x2).natAbs (x3).natAbs : Nat) : Int)))) = q3 at hb_q3 ⊢
  have hb_q4 := jsc_b (P := 3) (n := 20) (u := (jsu 2 20 (x3.tdiv (((Nat.gcd (x2).natAbs (x3).natAbs : Nat) : Int)))))
  have hb_q4 : 0 ≤ jsc 3 20 (jsu 2 20 (x3.tdiv (((Nat.gcd (x2).natAbs (x3).natAbs : Nat) : Int)))) ∧ jsc 3 20 (jsu 2 20 (x3.tdiv (((Nat.gcd (x2).natAbs (x3).natAbs : Nat) : Int)))) ≤ 20 := ⟨hb_q4.1, by omega⟩
  generalize hq_q4 : jsc 3 20 (jsu 2 20 (x3.tdiv (((Nat.gcd (x2).natAbs (x3).natAbs : Nat) : Int)))) = q4 at hb_q4 ⊢
  have hb_q5 := jsc_b (P := 5) (n := 20) (u := (jsu 3 20 (jsu 2 20 (x2.tdiv (((Nat.gcd (x2).natAbs (x3).natAbs : Nat) : Int))))))
  have hb_q5 : 0 ≤ jsc 5 20 (jsu 3 20 (jsu 2 20 (x2.tdiv (((Nat.gcd (x2).natAbs (x3).natAbs : Nat) : Int))))) ∧ jsc 5 20 (jsu 3 20 (jsu 2 20 (x2.tdiv (((Nat.gcd (x2).natAbs (x3).natAbs : Nat) : Int))))) ≤ 20 := ⟨hb_q5.1, by omega⟩
  generalize hq_q5 : jsc 5 20 (jsu 3 20 (jsu 2 20 (x2.tdiv (((Nat.gcd (x2).natAbs (x3).natAbs : Nat) : Int))))) = q5 at hb_q5 ⊢
  have hb_q6 := jsc_b (P := 5) (n := 20) (u := (jsu 3 20 (jsu 2 20 (x3.tdiv (((Nat.gcd (x2).natAbs (x3).natAbs : Nat) : Int))))))
  have hb_q6 : 0 ≤ jsc 5 20 (jsu 3 20 (jsu 2 20 (x3.tdiv (((Nat.gcd (x2).natAbs (x3).natAbs : Nat) : Int))))) ∧ jsc 5 20 (jsu 3 20 (jsu 2 20 (x3.tdiv (((Nat.gcd (x2).natAbs (x3).natAbs : Nat) : Int))))) ≤ 20 := ⟨hb_q6.1, by omega⟩
  generalize hq_q6 : jsc 5 20 (jsu 3 20 (jsu 2 20 (x3.tdiv (((Nat.gcd (x2).natAbs (x3).natAbs : Nat) : Int))))) = q6 at hb_q6 ⊢
  have hb_q7 := jsc_b (P := 7) (n := 20) (u := (jsu 5 20 (jsu 3 20 (jsu 2 20 (x2.tdiv (((Nat.gcd (x2).natAbs (x3).natAbs : Nat) : Int)))))))
  have hb_q7 : 0 ≤ jsc 7 20 (jsu 5 20 (jsu 3 20 (jsu 2 20 (x2.tdiv (((Nat.gcd (x2).natAbs (x3).natAbs : Nat) : Int)))))) ∧ jsc 7 20 (jsu 5 20 (jsu 3 20 (jsu 2 20 (x2.tdiv (((Nat.gcd (x2).natAbs (x3).natAbs : Nat) : Int)))))) ≤ 20 := ⟨hb_q7.1, by omega⟩
  generalize hq_q7 : jsc 7 20 (jsu 5 20 (jsu 3 20 (jsu 2 20 (x2.tdiv (((Nat.gcd (x2).natAbs (x3).natAbs : Nat) : Int)))))) = q7 at hb_q7 ⊢
  have hb_q8 := jsc_b (P := 7) (n := 20) (u := (jsu 5 20 (jsu 3 20 (jsu 2 20 (x3.tdiv (((Nat.gcd (x2).natAbs (x3).natAbs : Nat) : Int)))))))
  have hb_q8 : 0 ≤ jsc 7 20 (jsu 5 20 (jsu 3 20 (jsu 2 20 (x3.tdiv (((Nat.gcd (x2).natAbs (x3).natAbs : Nat) : Int)))))) ∧ jsc 7 20 (jsu 5 20 (jsu 3 20 (jsu 2 20 (x3.tdiv (((Nat.gcd (x2).natAbs (x3).natAbs : Nat) : Int)))))) ≤ 20 := ⟨hb_q8.1, by omega⟩
  generalize hq_q8 : jsc 7 20 (jsu 5 20 (jsu 3 20 (jsu 2 20 (x3.tdiv (((Nat.gcd (x2).natAbs (x3).natAbs : Nat) : Int)))))) = q8 at hb_q8 ⊢
  have hb_q9 := jsc_b (P := 11) (n := 20) (u := (jsu 7 20 (jsu 5 20 (jsu 3 20 (jsu 2 20 (x2.tdiv (((Nat.gcd (x2).natAbs (x3).natAbs : Nat) : Int))))))))
  have hb_q9 : 0 ≤ jsc 11 20 (jsu 7 20 (jsu 5 20 (jsu 3 20 (jsu 2 20 (x2.tdiv (((Nat.gcd (x2).natAbs (x3).natAbs : Nat) : Int))))))) ∧ jsc 11 20 (jsu 7 20 (jsu 5 20 (jsu 3 20 (jsu 2 20 (x2.tdiv (((Nat.gcd (x2).natAbs (x3).natAbs : Nat) : Int))))))) ≤ 20 := ⟨hb_q9.1, by omega⟩
  generalize hq_q9 : jsc 11 20 (jsu 7 20 (jsu 5 20 (jsu 3 20 (jsu 2 20 (x2.tdiv (((Nat.gcd (x2).natAbs (x3).natAbs : Nat) : Int))))))) = q9 at hb_q9 ⊢
  have hb_q10 := jsc_b (P := 11) (n := 20) (u := (jsu 7 20 (jsu 5 20 (jsu 3 20 (jsu 2 20 (x3.tdiv (((Nat.gcd (x2).natAbs (x3).natAbs : Nat) : Int))))))))
  have hb_q10 : 0 ≤ jsc 11 20 (jsu 7 20 (jsu 5 20 (jsu 3 20 (jsu 2 20 (x3.tdiv (((Nat.gcd (x2).natAbs (x3).natAbs : Nat) : Int))))))) ∧ jsc 11 20 (jsu 7 20 (jsu 5 20 (jsu 3 20 (jsu 2 20 (x3.tdiv (((Nat.gcd (x2).natAbs (x3).natAbs : Nat) : Int))))))) ≤ 20 := ⟨hb_q10.1, by omega⟩
  generalize hq_q10 : jsc 11 20 (jsu 7 20 (jsu 5 20 (jsu 3 20 (jsu 2 20 (x3.tdiv (((Nat.gcd (x2).natAbs (x3).natAbs : Nat) : Int))))))) = q10 at hb_q10 ⊢
  have hb_q11 := jsc_b (P := 13) (n := 20) (u := (jsu 11 20 (jsu 7 20 (jsu 5 20 (jsu 3 20 (jsu 2 20 (x2.tdiv (((Nat.gcd (x2).natAbs (x3).natAbs : Nat) : Int)))))))))
  have hb_q11 : 0 ≤ jsc 13 20 (jsu 11 20 (jsu 7 20 (jsu 5 20 (jsu 3 20 (jsu 2 20 (x2.tdiv (((Nat.gcd (x2).natAbs (x3).natAbs : Nat) : Int)))))))) ∧ jsc 13 20 (jsu 11 20 (jsu 7 20 (jsu 5 20 (jsu 3 20 (jsu 2 20 (x2.tdiv (((Nat.gcd (x2).natAbs (x3).natAbs : Nat) : Int)))))))) ≤ 20 := ⟨hb_q11.1, by omega⟩
  generalize hq_q11 : jsc 13 20 (jsu 11 20 (jsu 7 20 (jsu 5 20 (jsu 3 20 (jsu 2 20 (x2.tdiv (((Nat.gcd (x2).natAbs (x3).natAbs : Nat) : Int)))))))) = q11 at hb_q11 ⊢
  have hb_q12 := jsc_b (P := 13) (n := 20) (u := (jsu 11 20 (jsu 7 20 (jsu 5 20 (jsu 3 20 (jsu 2 20 (x3.tdiv (((Nat.gcd (x2).natAbs (x3).natAbs : Nat) : Int)))))))))
  have hb_q12 : 0 ≤ jsc 13 20 (jsu 11 20 (jsu 7 20 (jsu 5 20 (jsu 3 20 (jsu 2 20 (x3.tdiv (((Nat.gcd (x2).natAbs (x3).natAbs : Nat) : Int)))))))) ∧ jsc 13 20 (jsu 11 20 (jsu 7 20 (jsu 5 20 (jsu 3 20 (jsu 2 20 (x3.tdiv (((Nat.gcd (x2).natAbs (x3).natAbs : Nat) : Int)))))))) ≤ 20 := ⟨hb_q12.1, by omega⟩
  generalize hq_q12 : jsc 13 20 (jsu 11 20 (jsu 7 20 (jsu 5 20 (jsu 3 20 (jsu 2 20 (x3.tdiv (((Nat.gcd (x2).natAbs (x3).natAbs : Nat) : Int)))))))) = q12 at hb_q12 ⊢
  refine jT_eq (LN := [(0, (4, 0)), (1, (0, x1)), (2, (0, x2)), (3, (0, x3)), (4, (4, 1))]) (stN := [(0, 0), (0, 0), (4, 1)]) (hsN := [jzH_304, (101, [], [0]), jgh, jgh, jgh, jgh, jgh, jgh, jgh, jgh, jgh, jzH_283, jzH_284, jzH_305, jgh, jgh, jgh, jgh, jgh, (101, [], [q1 - q2, q3 - q4, q5 - q6, q7 - q8, -q10 + q9, q11 - q12]), (4, [(4, 19), (1, 1)], []), jgh, jzH_306]) (rfl) (rfl) (by simp only [List.cons.injEq, Prod.mk.injEq, and_true, true_and] <;> ((try unfold jw); (try unfold jwl); omega)) ?_
  refine jT_xifT (pcN := 17) jIH_326_10 rfl (by decide +kernel) rfl ?_
  refine jT_xlconst (z := 0) (pcN := 18) jIH_326_17 rfl rfl ?_
  refine jT_adv 1 (pcN := 19) (LN := [(0, (4, 0)), (1, (0, x1)), (2, (0, x2)), (3, (0, x3)), (4, (4, 1))]) (stN := []) (hsN := [jzH_304, (101, [], [0]), jgh, jgh, jgh, jgh, jgh, jgh, jgh, jgh, jgh, jzH_283, jzH_284, jzH_305, jgh, jgh, jgh, jgh, jgh, (101, [], [q1 - q2, q3 - q4, q5 - q6, q7 - q8, -q10 + q9, q11 - q12]), (4, [(4, 19), (1, 1)], []), jgh, jzH_306]) (c1 := 0) (s1 := 0) (c2 := 0) (s2 := 0) (by exact rfl) ?_ (by omega) (by omega)
  refine jT_xgoto (pcN := 34) jIH_326_19 rfl ?_
  refine jT_xiconst (k := 0) (pcN := 35) jIH_326_34 rfl ?_
  subst hq_q12
  subst hq_q11
  subst hq_q10
  subst hq_q9
  subst hq_q8
  subst hq_q7
  subst hq_q6
  subst hq_q5
  subst hq_q4
  subst hq_q3
  subst hq_q2
  subst hq_q1
  exact jT_ret rfl (by decide) (by show 19 ≤ 23; omega) (by omega) (by omega) ⟨rfl, rfl, rfl⟩
theorem jH_192_88 {xs : List Int} {d : Nat} {x2 x3 : Int} (h_x2 : 1 ≤ x2 ∧ x2 ≤ 1000000) (h_x3 : 1 ≤ x3 ∧ x3 ≤ 1000000) (g_0 : (jsu 13 20 (jsu 11 20 (jsu 7 20 (jsu 5 20 (jsu 3 20 (jsu 2 20 (x2.tdiv (((Nat.gcd (x2).natAbs (x3).natAbs : Nat) : Int))))))))) - 2 < 0) (g_1 : (jsu 13 20 (jsu 11 20 (jsu 7 20 (jsu 5 20 (jsu 3 20 (jsu 2 20 (x3.tdiv (((Nat.gcd (x2).natAbs (x3).natAbs : Nat) : Int))))))))) - 2 < 0) (g_2 : x2 - x3 - 1 < 0) : jT xs (d + 42) 192 16 0 [(0, (4, 0)), (1, (0, x2)), (2, (0, x3))] [] jpH_134 0 0 (fun k v hsN => k = 0 ∧ v = (0, 1) ∧ hsN = [jzH_20, jgh, jgh, jgh, jgh, jgh, jgh, (101, [], [(jsc 2 20 (x2.tdiv (((Nat.gcd (x2).natAbs (x3).natAbs : Nat) : Int)))) - (jsc 2 20 (x3.tdiv (((Nat.gcd (x2).natAbs (x3).natAbs : Nat) : Int)))), -(jsc 3 20 (jsu 2 20 (x3.tdiv (((Nat.gcd (x2).natAbs (x3).natAbs : Nat) : Int))))) + (jsc 3 20 (jsu 2 20 (x2.tdiv (((Nat.gcd (x2).natAbs (x3).natAbs : Nat) : Int))))), (jsc 5 20 (jsu 3 20 (jsu 2 20 (x2.tdiv (((Nat.gcd (x2).natAbs (x3).natAbs : Nat) : Int)))))) - (jsc 5 20 (jsu 3 20 (jsu 2 20 (x3.tdiv (((Nat.gcd (x2).natAbs (x3).natAbs : Nat) : Int)))))), (jsc 7 20 (jsu 5 20 (jsu 3 20 (jsu 2 20 (x2.tdiv (((Nat.gcd (x2).natAbs (x3).natAbs : Nat) : Int))))))) - (jsc 7 20 (jsu 5 20 (jsu 3 20 (jsu 2 20 (x3.tdiv (((Nat.gcd (x2).natAbs (x3).natAbs : Nat) : Int))))))), (jsc 11 20 (jsu 7 20 (jsu 5 20 (jsu 3 20 (jsu 2 20 (x2.tdiv (((Nat.gcd (x2).natAbs (x3).natAbs : Nat) : Int)))))))) - (jsc 11 20 (jsu 7 20 (jsu 5 20 (jsu 3 20 (jsu 2 20 (x3.tdiv (((Nat.gcd (x2).natAbs (x3).natAbs : Nat) : Int)))))))), (jsc 13 20 (jsu 11 20 (jsu 7 20 (jsu 5 20 (jsu 3 20 (jsu 2 20 (x2.tdiv (((Nat.gcd (x2).natAbs (x3).natAbs : Nat) : Int))))))))) - (jsc 13 20 (jsu 11 20 (jsu 7 20 (jsu 5 20 (jsu 3 20 (jsu 2 20 (x3.tdiv (((Nat.gcd (x2).natAbs (x3).natAbs : Nat) : Int)))))))))]), jgh, jgh, jgh, jgh, jgh, jgh, jgh, jgh]) := by
  refine jT_xaload_n (v := (4, 0)) (pcN := 1) jIH_192_0 rfl rfl rfl ?_
  refine jT_fR [0, 1, 2, 3, 4, 5, 6, 7, 8, 9, 10, 11, 12, 13, 14, 15] 16 (y := 193) (pcN := 4) (dC := 0) (bc1 := 0) (bc2 := 0) (c1 := 0) (c2 := 0) (as := [(4, 0)]) (asC := [(4, 0)]) (LN := [(0, (4, 0)), (1, (0, x2)), (2, (0, x3))]) (stN := []) (hsC := jpH_134) (v := (9, 0)) (st2 := []) (jH_193_42 (d := 0)) (by rfl) (by rfl) (by decide +kernel) (by rfl) (by rfl) (by omega) (by omega) (by omega) (by omega) rfl ?_
  refine jT_xiload_n (v := (0, x2)) (pcN := 5) jIH_192_4 rfl rfl rfl ?_
  refine jT_xi2l (x := x2) (z := x2) (pcN := 6) jIH_192_5 rfl (jw_idd (by omega) (by omega)) rfl ?_
  refine jT_xiload_n (v := (0, x3)) (pcN := 7) jIH_192_6 rfl rfl rfl ?_
  refine jT_xi2l (x := x3) (z := x3) (pcN := 8) jIH_192_7 rfl (jw_idd (by omega) (by omega)) rfl ?_
  refine jT_fR [] 16 (y := 194) (pcN := 11) (dC := 41) (bc1 := 0) (bc2 := 0) (c1 := 0) (c2 := 0) (as := [(1, x2), (1, x3)]) (asC := [(1, x2), (1, x3)]) (LN := [(0, (4, 0)), (1, (0, x2)), (2, (0, x3))]) (stN := []) (hsC := []) (v := (1, ((Nat.gcd (x2).natAbs (x3).natAbs : Nat) : Int))) (st2 := [(1, ((Nat.gcd (x2).natAbs (x3).natAbs : Nat) : Int))]) (jT_gcd 20 0 (x2) (x3) (by omega) (by omega) (show (x3).natAbs < 1048576 by omega)) (by rfl) (by rfl) (by decide +kernel) (by rfl) (by rfl) (by omega) (by omega) (by omega) (by omega) rfl ?_
  have hb_q1 := jgcd_l (x := x2) (y := x3) (by omega)
  have hb_q1 : 1 ≤ ((Nat.gcd (x2).natAbs (x3).natAbs : Nat) : Int) ∧ ((Nat.gcd (x2).natAbs (x3).natAbs : Nat) : Int) ≤ 1000000 := ⟨hb_q1.1, by omega⟩
  generalize hq_q1 : ((Nat.gcd (x2).natAbs (x3).natAbs : Nat) : Int) = q1 at hb_q1 g_0 g_1 ⊢
  refine jT_xl2i (pcN := 12) jIH_192_11 rfl rfl ?_
  refine jT_xistore_n (v := (0, q1)) (LN := [(3, (0, q1)), (0, (4, 0)), (1, (0, x2)), (2, (0, x3))]) (pcN := 13) jIH_192_12 rfl rfl rfl rfl ?_
  refine jT_xiload_n (v := (0, x2)) (pcN := 14) jIH_192_13 rfl rfl rfl ?_
  refine jT_xiload_n (v := (0, q1)) (pcN := 15) jIH_192_14 rfl rfl rfl ?_
  refine jT_idiv (a := x2) (b := q1) (by rfl) (by rfl) (jw_idd (by omega) (by omega)) (jw_idd (by omega) (by omega)) (by omega) ?_
  have hb_q2 := jfr_b hq_q1 (by omega) (by omega)
  generalize hq_q2 : x2.tdiv q1 = q2 at hb_q2 g_0 ⊢
  refine jT_xistore (v := (0, q2)) (LN := [(4, (0, q2)), (3, (0, q1)), (0, (4, 0)), (1, (0, x2)), (2, (0, x3))]) (pcN := 18) jIH_192_16 rfl rfl rfl rfl ?_
  refine jT_xiload_n (v := (0, x3)) (pcN := 19) jIH_192_18 rfl rfl rfl ?_
  refine jT_xiload_n (v := (0, q1)) (pcN := 20) jIH_192_19 rfl rfl rfl ?_
  refine jT_idiv (a := x3) (b := q1) (by rfl) (by rfl) (jw_idd (by omega) (by omega)) (jw_idd (by omega) (by omega)) (by omega) ?_
  have hb_q3 := jfr_b2 hq_q1 (by omega) (by omega)
  generalize hq_q3 : x3.tdiv q1 = q3 at hb_q3 g_1 ⊢
  refine jT_xistore (v := (0, q3)) (LN := [(5, (0, q3)), (4, (0, q2)), (3, (0, q1)), (0, (4, 0)), (1, (0, x2)), (2, (0, x3))]) (pcN := 23) jIH_192_21 rfl rfl rfl rfl ?_
  refine jT_xiconst (k := 0) (pcN := 24) jIH_192_23 rfl ?_
  refine jT_xistore (v := (0, 0)) (LN := [(6, (0, 0)), (5, (0, q3)), (4, (0, q2)), (3, (0, q1)), (0, (4, 0)), (1, (0, x2)), (2, (0, x3))]) (pcN := 26) jIH_192_24 rfl rfl rfl rfl ?_
  refine jT_xiload (v := (0, 0)) (pcN := 28) jIH_192_26 rfl rfl rfl ?_
  refine jT_xbipush (k := 6) (pcN := 30) jIH_192_28 (by decide) rfl ?_
  refine jT_xicF (t := 113) (pcN := 33) jIH_192_30 rfl (by decide +kernel) rfl rfl ?_
  refine jT_loc (LN := [(4, (0, q2)), (5, (0, q3)), (0, (4, 0)), (6, (0, 0))]) (by show List.Nodup [4, 5, 0, 6]; decide) (by intro q hq; simp only [List.mem_cons, List.not_mem_nil, or_false] at hq; rcases hq with rfl | rfl | rfl | rfl <;> rfl) ?_
  refine jHl_fr_43 (y5 := q3) (e1 := 0) (e2 := 0) (e3 := 0) (e4 := 0) (e5 := 0) 20 q2 0 (by omega) (by omega) (Int.lt_of_le_of_lt (show q2 ≤ (1000000 : Int) by omega) (by decide)) ?_
  have hb_q4 := jsu_b (P := 2) (by decide) (n := 20) (u := q2) (by omega) (by omega)
  generalize hq_q4 : jsu 2 20 q2 = q4 at hb_q4 g_0 ⊢
  have hb_q5 := jsc_b (P := 2) (n := 20) (u := q2)
  have hb_q5 : 0 ≤ jsc 2 20 q2 ∧ jsc 2 20 q2 ≤ 20 := ⟨hb_q5.1, by omega⟩
  generalize hq_q5 : jsc 2 20 q2 = q5 at hb_q5 ⊢
  refine jT_eq (LN := [(4, (0, q4)), (5, (0, q3)), (0, (4, 0)), (6, (0, 0))]) (stN := []) (hsN := [jzH_20, jgh, jgh, jgh, jgh, jgh, jgh, (101, [], [q5, 0, 0, 0, 0, 0]), jgh, jgh, jgh, jgh, jgh, jgh, jgh, jgh]) (rfl) (rfl) (by simp only [List.cons.injEq, Prod.mk.injEq, and_true, true_and] <;> ((try unfold jw); (try unfold jwl); omega)) ?_
  refine jT_loc (LN := [(5, (0, q3)), (4, (0, q4)), (0, (4, 0)), (6, (0, 0))]) (by show List.Nodup [5, 4, 0, 6]; decide) (by intro q hq; simp only [List.mem_cons, List.not_mem_nil, or_false] at hq; rcases hq with rfl | rfl | rfl | rfl <;> rfl) ?_
  refine jHl_fr_44 (y4 := q4) (e1 := 0) (e2 := 0) (e3 := 0) (e4 := 0) (e5 := 0) 20 q3 q5 (by omega) (by omega) (Int.lt_of_le_of_lt (show q3 ≤ (1000000 : Int) by omega) (by decide)) ?_
  have hb_q6 := jsu_b (P := 2) (by decide) (n := 20) (u := q3) (by omega) (by omega)
  generalize hq_q6 : jsu 2 20 q3 = q6 at hb_q6 g_1 ⊢
  have hb_q7 := jsc_b (P := 2) (n := 20) (u := q3)
  have hb_q7 : 0 ≤ jsc 2 20 q3 ∧ jsc 2 20 q3 ≤ 20 := ⟨hb_q7.1, by omega⟩
  generalize hq_q7 : jsc 2 20 q3 = q7 at hb_q7 ⊢
  refine jT_xiinc (x := 0) (z := 1) (LN := [(6, (0, 1)), (5, (0, q6)), (4, (0, q4)), (0, (4, 0))]) (pcN := 110) jIH_192_107 rfl rfl (by decide) rfl rfl ?_
  refine jT_xgoto (pcN := 26) jIH_192_110 rfl ?_
  refine jT_xiload (v := (0, 1)) (pcN := 28) jIH_192_26 rfl rfl rfl ?_
  refine jT_xbipush (k := 6) (pcN := 30) jIH_192_28 (by decide) rfl ?_
  refine jT_xicF (t := 113) (pcN := 33) jIH_192_30 rfl (by decide +kernel) rfl rfl ?_
  refine jT_loc (LN := [(4, (0, q4)), (5, (0, q6)), (0, (4, 0)), (6, (0, 1))]) (by show List.Nodup [4, 5, 0, 6]; decide) (by intro q hq; simp only [List.mem_cons, List.not_mem_nil, or_false] at hq; rcases hq with rfl | rfl | rfl | rfl <;> rfl) ?_
  refine jHl_fr_45 (y5 := q6) (e0 := q5 - q7) (e2 := 0) (e3 := 0) (e4 := 0) (e5 := 0) 20 q4 0 (by omega) (by omega) (Int.lt_of_le_of_lt (show q4 ≤ (1000000 : Int) by omega) (by decide)) ?_
  have hb_q8 := jsu_b (P := 3) (by decide) (n := 20) (u := q4) (by omega) (by omega)
  generalize hq_q8 : jsu 3 20 q4 = q8 at hb_q8 g_0 ⊢
  have hb_q9 := jsc_b (P := 3) (n := 20) (u := q4)
  have hb_q9 : 0 ≤ jsc 3 20 q4 ∧ jsc 3 20 q4 ≤ 20 := ⟨hb_q9.1, by omega⟩
  generalize hq_q9 : jsc 3 20 q4 = q9 at hb_q9 ⊢
  refine jT_eq (LN := [(4, (0, q8)), (5, (0, q6)), (0, (4, 0)), (6, (0, 1))]) (stN := []) (hsN := [jzH_20, jgh, jgh, jgh, jgh, jgh, jgh, (101, [], [q5 - q7, q9, 0, 0, 0, 0]), jgh, jgh, jgh, jgh, jgh, jgh, jgh, jgh]) (rfl) (rfl) (by simp only [List.cons.injEq, Prod.mk.injEq, and_true, true_and] <;> ((try unfold jw); (try unfold jwl); omega)) ?_
  refine jT_loc (LN := [(5, (0, q6)), (4, (0, q8)), (0, (4, 0)), (6, (0, 1))]) (by show List.Nodup [5, 4, 0, 6]; decide) (by intro q hq; simp only [List.mem_cons, List.not_mem_nil, or_false] at hq; rcases hq with rfl | rfl | rfl | rfl <;> rfl) ?_
  refine jHl_fr_46 (y4 := q8) (e0 := q5 - q7) (e2 := 0) (e3 := 0) (e4 := 0) (e5 := 0) 20 q6 q9 (by omega) (by omega) (Int.lt_of_le_of_lt (show q6 ≤ (1000000 : Int) by omega) (by decide)) ?_
  have hb_q10 := jsu_b (P := 3) (by decide) (n := 20) (u := q6) (by omega) (by omega)
  generalize hq_q10 : jsu 3 20 q6 = q10 at hb_q10 g_1 ⊢
  have hb_q11 := jsc_b (P := 3) (n := 20) (u := q6)
  have hb_q11 : 0 ≤ jsc 3 20 q6 ∧ jsc 3 20 q6 ≤ 20 := ⟨hb_q11.1, by omega⟩
  generalize hq_q11 : jsc 3 20 q6 = q11 at hb_q11 ⊢
  refine jT_eq (LN := [(5, (0, q10)), (4, (0, q8)), (0, (4, 0)), (6, (0, 1))]) (stN := []) (hsN := [jzH_20, jgh, jgh, jgh, jgh, jgh, jgh, (101, [], [q5 - q7, -q11 + q9, 0, 0, 0, 0]), jgh, jgh, jgh, jgh, jgh, jgh, jgh, jgh]) (rfl) (rfl) (by simp only [List.cons.injEq, Prod.mk.injEq, and_true, true_and] <;> ((try unfold jw); (try unfold jwl); omega)) ?_
  refine jT_xiinc (x := 1) (z := 2) (LN := [(6, (0, 2)), (5, (0, q10)), (4, (0, q8)), (0, (4, 0))]) (pcN := 110) jIH_192_107 rfl rfl (by decide) rfl rfl ?_
  refine jT_xgoto (pcN := 26) jIH_192_110 rfl ?_
  refine jT_xiload (v := (0, 2)) (pcN := 28) jIH_192_26 rfl rfl rfl ?_
  refine jT_xbipush (k := 6) (pcN := 30) jIH_192_28 (by decide) rfl ?_
  refine jT_xicF (t := 113) (pcN := 33) jIH_192_30 rfl (by decide +kernel) rfl rfl ?_
  refine jT_loc (LN := [(4, (0, q8)), (5, (0, q10)), (0, (4, 0)), (6, (0, 2))]) (by show List.Nodup [4, 5, 0, 6]; decide) (by intro q hq; simp only [List.mem_cons, List.not_mem_nil, or_false] at hq; rcases hq with rfl | rfl | rfl | rfl <;> rfl) ?_
  refine jHl_fr_47 (y5 := q10) (e0 := q5 - q7) (e1 := -q11 + q9) (e3 := 0) (e4 := 0) (e5 := 0) 20 q8 0 (by omega) (by omega) (Int.lt_of_le_of_lt (show q8 ≤ (1000000 : Int) by omega) (by decide)) ?_
  have hb_q12 := jsu_b (P := 5) (by decide) (n := 20) (u := q8) (by omega) (by omega)
  generalize hq_q12 : jsu 5 20 q8 = q12 at hb_q12 g_0 ⊢
  have hb_q13 := jsc_b (P := 5) (n := 20) (u := q8)
  have hb_q13 : 0 ≤ jsc 5 20 q8 ∧ jsc 5 20 q8 ≤ 20 := ⟨hb_q13.1, by omega⟩
  generalize hq_q13 : jsc 5 20 q8 = q13 at hb_q13 ⊢
  refine jT_eq (LN := [(4, (0, q12)), (5, (0, q10)), (0, (4, 0)), (6, (0, 2))]) (stN := []) (hsN := [jzH_20, jgh, jgh, jgh, jgh, jgh, jgh, (101, [], [q5 - q7, -q11 + q9, q13, 0, 0, 0]), jgh, jgh, jgh, jgh, jgh, jgh, jgh, jgh]) (rfl) (rfl) (by simp only [List.cons.injEq, Prod.mk.injEq, and_true, true_and] <;> ((try unfold jw); (try unfold jwl); omega)) ?_
  refine jT_loc (LN := [(5, (0, q10)), (4, (0, q12)), (0, (4, 0)), (6, (0, 2))]) (by show List.Nodup [5, 4, 0, 6]; decide) (by intro q hq; simp only [List.mem_cons, List.not_mem_nil, or_false] at hq; rcases hq with rfl | rfl | rfl | rfl <;> rfl) ?_
  refine jHl_fr_48 (y4 := q12) (e0 := q5 - q7) (e1 := -q11 + q9) (e3 := 0) (e4 := 0) (e5 := 0) 20 q10 q13 (by omega) (by omega) (Int.lt_of_le_of_lt (show q10 ≤ (1000000 : Int) by omega) (by decide)) ?_
  have hb_q14 := jsu_b (P := 5) (by decide) (n := 20) (u := q10) (by omega) (by omega)
  generalize hq_q14 : jsu 5 20 q10 = q14 at hb_q14 g_1 ⊢
  have hb_q15 := jsc_b (P := 5) (n := 20) (u := q10)
  have hb_q15 : 0 ≤ jsc 5 20 q10 ∧ jsc 5 20 q10 ≤ 20 := ⟨hb_q15.1, by omega⟩
  generalize hq_q15 : jsc 5 20 q10 = q15 at hb_q15 ⊢
  refine jT_xiinc (x := 2) (z := 3) (LN := [(6, (0, 3)), (5, (0, q14)), (4, (0, q12)), (0, (4, 0))]) (pcN := 110) jIH_192_107 rfl rfl (by decide) rfl rfl ?_
  refine jT_xgoto (pcN := 26) jIH_192_110 rfl ?_
  refine jT_xiload (v := (0, 3)) (pcN := 28) jIH_192_26 rfl rfl rfl ?_
  refine jT_xbipush (k := 6) (pcN := 30) jIH_192_28 (by decide) rfl ?_
  refine jT_xicF (t := 113) (pcN := 33) jIH_192_30 rfl (by decide +kernel) rfl rfl ?_
  refine jT_loc (LN := [(4, (0, q12)), (5, (0, q14)), (0, (4, 0)), (6, (0, 3))]) (by show List.Nodup [4, 5, 0, 6]; decide) (by intro q hq; simp only [List.mem_cons, List.not_mem_nil, or_false] at hq; rcases hq with rfl | rfl | rfl | rfl <;> rfl) ?_
  refine jHl_fr_49 (y5 := q14) (e0 := q5 - q7) (e1 := -q11 + q9) (e2 := q13 - q15) (e4 := 0) (e5 := 0) 20 q12 0 (by omega) (by omega) (Int.lt_of_le_of_lt (show q12 ≤ (1000000 : Int) by omega) (by decide)) ?_
  have hb_q16 := jsu_b (P := 7) (by decide) (n := 20) (u := q12) (by omega) (by omega)
  generalize hq_q16 : jsu 7 20 q12 = q16 at hb_q16 g_0 ⊢
  have hb_q17 := jsc_b (P := 7) (n := 20) (u := q12)
  have hb_q17 : 0 ≤ jsc 7 20 q12 ∧ jsc 7 20 q12 ≤ 20 := ⟨hb_q17.1, by omega⟩
  generalize hq_q17 : jsc 7 20 q12 = q17 at hb_q17 ⊢
  refine jT_eq (LN := [(4, (0, q16)), (5, (0, q14)), (0, (4, 0)), (6, (0, 3))]) (stN := []) (hsN := [jzH_20, jgh, jgh, jgh, jgh, jgh, jgh, (101, [], [q5 - q7, -q11 + q9, q13 - q15, q17, 0, 0]), jgh, jgh, jgh, jgh, jgh, jgh, jgh, jgh]) (rfl) (rfl) (by simp only [List.cons.injEq, Prod.mk.injEq, and_true, true_and] <;> ((try unfold jw); (try unfold jwl); omega)) ?_
  refine jT_loc (LN := [(5, (0, q14)), (4, (0, q16)), (0, (4, 0)), (6, (0, 3))]) (by show List.Nodup [5, 4, 0, 6]; decide) (by intro q hq; simp only [List.mem_cons, List.not_mem_nil, or_false] at hq; rcases hq with rfl | rfl | rfl | rfl <;> rfl) ?_
  refine jHl_fr_50 (y4 := q16) (e0 := q5 - q7) (e1 := -q11 + q9) (e2 := q13 - q15) (e4 := 0) (e5 := 0) 20 q14 q17 (by omega) (by omega) (Int.lt_of_le_of_lt (show q14 ≤ (1000000 : Int) by omega) (by decide)) ?_
  have hb_q18 := jsu_b (P := 7) (by decide) (n := 20) (u := q14) (by omega) (by omega)
  generalize hq_q18 : jsu 7 20 q14 = q18 at hb_q18 g_1 ⊢
  have hb_q19 := jsc_b (P := 7) (n := 20) (u := q14)
  have hb_q19 : 0 ≤ jsc 7 20 q14 ∧ jsc 7 20 q14 ≤ 20 := ⟨hb_q19.1, by omega⟩
  generalize hq_q19 : jsc 7 20 q14 = q19 at hb_q19 ⊢
  refine jT_xiinc (x := 3) (z := 4) (LN := [(6, (0, 4)), (5, (0, q18)), (4, (0, q16)), (0, (4, 0))]) (pcN := 110) jIH_192_107 rfl rfl (by decide) rfl rfl ?_
  refine jT_xgoto (pcN := 26) jIH_192_110 rfl ?_
  refine jT_xiload (v := (0, 4)) (pcN := 28) jIH_192_26 rfl rfl rfl ?_
  refine jT_xbipush (k := 6) (pcN := 30) jIH_192_28 (by decide) rfl ?_
  refine jT_xicF (t := 113) (pcN := 33) jIH_192_30 rfl (by decide +kernel) rfl rfl ?_
  refine jT_loc (LN := [(4, (0, q16)), (5, (0, q18)), (0, (4, 0)), (6, (0, 4))]) (by show List.Nodup [4, 5, 0, 6]; decide) (by intro q hq; simp only [List.mem_cons, List.not_mem_nil, or_false] at hq; rcases hq with rfl | rfl | rfl | rfl <;> rfl) ?_
  refine jHl_fr_51 (y5 := q18) (e0 := q5 - q7) (e1 := -q11 + q9) (e2 := q13 - q15) (e3 := q17 - q19) (e5 := 0) 20 q16 0 (by omega) (by omega) (Int.lt_of_le_of_lt (show q16 ≤ (1000000 : Int) by omega) (by decide)) ?_
  have hb_q20 := jsu_b (P := 11) (by decide) (n := 20) (u := q16) (by omega) (by omega)
  generalize hq_q20 : jsu 11 20 q16 = q20 at hb_q20 g_0 ⊢
  have hb_q21 := jsc_b (P := 11) (n := 20) (u := q16)
  have hb_q21 : 0 ≤ jsc 11 20 q16 ∧ jsc 11 20 q16 ≤ 20 := ⟨hb_q21.1, by omega⟩
  generalize hq_q21 : jsc 11 20 q16 = q21 at hb_q21 ⊢
  refine jT_eq (LN := [(4, (0, q20)), (5, (0, q18)), (0, (4, 0)), (6, (0, 4))]) (stN := []) (hsN := [jzH_20, jgh, jgh, jgh, jgh, jgh, jgh, (101, [], [q5 - q7, -q11 + q9, q13 - q15, q17 - q19, q21, 0]), jgh, jgh, jgh, jgh, jgh, jgh, jgh, jgh]) (rfl) (rfl) (by simp only [List.cons.injEq, Prod.mk.injEq, and_true, true_and] <;> ((try unfold jw); (try unfold jwl); omega)) ?_
  refine jT_loc (LN := [(5, (0, q18)), (4, (0, q20)), (0, (4, 0)), (6, (0, 4))]) (by show List.Nodup [5, 4, 0, 6]; decide) (by intro q hq; simp only [List.mem_cons, List.not_mem_nil, or_false] at hq; rcases hq with rfl | rfl | rfl | rfl <;> rfl) ?_
  refine jHl_fr_52 (y4 := q20) (e0 := q5 - q7) (e1 := -q11 + q9) (e2 := q13 - q15) (e3 := q17 - q19) (e5 := 0) 20 q18 q21 (by omega) (by omega) (Int.lt_of_le_of_lt (show q18 ≤ (1000000 : Int) by omega) (by decide)) ?_
  have hb_q22 := jsu_b (P := 11) (by decide) (n := 20) (u := q18) (by omega) (by omega)
  generalize hq_q22 : jsu 11 20 q18 = q22 at hb_q22 g_1 ⊢
  have hb_q23 := jsc_b (P := 11) (n := 20) (u := q18)
  have hb_q23 : 0 ≤ jsc 11 20 q18 ∧ jsc 11 20 q18 ≤ 20 := ⟨hb_q23.1, by omega⟩
  generalize hq_q23 : jsc 11 20 q18 = q23 at hb_q23 ⊢
  refine jT_xiinc (x := 4) (z := 5) (LN := [(6, (0, 5)), (5, (0, q22)), (4, (0, q20)), (0, (4, 0))]) (pcN := 110) jIH_192_107 rfl rfl (by decide) rfl rfl ?_
  refine jT_xgoto (pcN := 26) jIH_192_110 rfl ?_
  refine jT_xiload (v := (0, 5)) (pcN := 28) jIH_192_26 rfl rfl rfl ?_
  refine jT_xbipush (k := 6) (pcN := 30) jIH_192_28 (by decide) rfl ?_
  refine jT_xicF (t := 113) (pcN := 33) jIH_192_30 rfl (by decide +kernel) rfl rfl ?_
  refine jT_loc (LN := [(4, (0, q20)), (5, (0, q22)), (0, (4, 0)), (6, (0, 5))]) (by show List.Nodup [4, 5, 0, 6]; decide) (by intro q hq; simp only [List.mem_cons, List.not_mem_nil, or_false] at hq; rcases hq with rfl | rfl | rfl | rfl <;> rfl) ?_
  refine jHl_fr_53 (y5 := q22) (e0 := q5 - q7) (e1 := -q11 + q9) (e2 := q13 - q15) (e3 := q17 - q19) (e4 := q21 - q23) 20 q20 0 (by omega) (by omega) (Int.lt_of_le_of_lt (show q20 ≤ (1000000 : Int) by omega) (by decide)) ?_
  have hb_q24 := jsu_b (P := 13) (by decide) (n := 20) (u := q20) (by omega) (by omega)
  generalize hq_q24 : jsu 13 20 q20 = q24 at hb_q24 g_0 ⊢
  have hb_q25 := jsc_b (P := 13) (n := 20) (u := q20)
  have hb_q25 : 0 ≤ jsc 13 20 q20 ∧ jsc 13 20 q20 ≤ 20 := ⟨hb_q25.1, by omega⟩
  generalize hq_q25 : jsc 13 20 q20 = q25 at hb_q25 ⊢
  refine jT_eq (LN := [(4, (0, q24)), (5, (0, q22)), (0, (4, 0)), (6, (0, 5))]) (stN := []) (hsN := [jzH_20, jgh, jgh, jgh, jgh, jgh, jgh, (101, [], [q5 - q7, -q11 + q9, q13 - q15, q17 - q19, q21 - q23, q25]), jgh, jgh, jgh, jgh, jgh, jgh, jgh, jgh]) (rfl) (rfl) (by simp only [List.cons.injEq, Prod.mk.injEq, and_true, true_and] <;> ((try unfold jw); (try unfold jwl); omega)) ?_
  refine jT_loc (LN := [(5, (0, q22)), (4, (0, q24)), (0, (4, 0)), (6, (0, 5))]) (by show List.Nodup [5, 4, 0, 6]; decide) (by intro q hq; simp only [List.mem_cons, List.not_mem_nil, or_false] at hq; rcases hq with rfl | rfl | rfl | rfl <;> rfl) ?_
  refine jHl_fr_54 (y4 := q24) (e0 := q5 - q7) (e1 := -q11 + q9) (e2 := q13 - q15) (e3 := q17 - q19) (e4 := q21 - q23) 20 q22 q25 (by omega) (by omega) (Int.lt_of_le_of_lt (show q22 ≤ (1000000 : Int) by omega) (by decide)) ?_
  have hb_q26 := jsu_b (P := 13) (by decide) (n := 20) (u := q22) (by omega) (by omega)
  generalize hq_q26 : jsu 13 20 q22 = q26 at hb_q26 g_1 ⊢
  have hb_q27 := jsc_b (P := 13) (n := 20) (u := q22)
  have hb_q27 : 0 ≤ jsc 13 20 q22 ∧ jsc 13 20 q22 ≤ 20 := ⟨hb_q27.1, by omega⟩
  generalize hq_q27 : jsc 13 20 q22 = q27 at hb_q27 ⊢
  refine jT_xiinc (x := 5) (z := 6) (LN := [(6, (0, 6)), (5, (0, q26)), (4, (0, q24)), (0, (4, 0))]) (pcN := 110) jIH_192_107 rfl rfl (by decide) rfl rfl ?_
  refine jT_xgoto (pcN := 26) jIH_192_110 rfl ?_
  refine jT_xiload (v := (0, 6)) (pcN := 28) jIH_192_26 rfl rfl rfl ?_
  refine jT_xbipush (k := 6) (pcN := 30) jIH_192_28 (by decide) rfl ?_
  refine jT_xicT (pcN := 113) jIH_192_30 rfl (by decide +kernel) rfl ?_
  refine jT_xiload (v := (0, q24)) (pcN := 115) jIH_192_113 rfl rfl rfl ?_
  refine jT_xiconst (k := 1) (pcN := 116) jIH_192_115 rfl ?_
  refine jT_icF (a := q24) (b := 1) (t := 129) (by rfl) (by rfl) (by rfl) (jw_idd (by omega) (by omega)) (jw_idd (by omega) (by omega)) (by simp only [jcP] <;> omega) ?_
  refine jT_xiload (v := (0, q26)) (pcN := 121) jIH_192_119 rfl rfl rfl ?_
  refine jT_xiconst (k := 1) (pcN := 122) jIH_192_121 rfl ?_
  refine jT_icF (a := q26) (b := 1) (t := 129) (by rfl) (by rfl) (by rfl) (jw_idd (by omega) (by omega)) (jw_idd (by omega) (by omega)) (by simp only [jcP] <;> omega) ?_
  refine jT_xiconst (k := 1) (pcN := 126) jIH_192_125 rfl ?_
  refine jT_xgoto (pcN := 130) jIH_192_126 rfl ?_
  subst hq_q27
  subst hq_q26
  subst hq_q25
  subst hq_q24
  subst hq_q23
  subst hq_q22
  subst hq_q21
  subst hq_q20
  subst hq_q19
  subst hq_q18
  subst hq_q17
  subst hq_q16
  subst hq_q15
  subst hq_q14
  subst hq_q13
  subst hq_q12
  subst hq_q11
  subst hq_q10
  subst hq_q9
  subst hq_q8
  subst hq_q7
  subst hq_q6
  subst hq_q5
  subst hq_q4
  subst hq_q3
  subst hq_q2
  subst hq_q1
  exact jT_ret rfl (by decide) (by show 16 ≤ 16; omega) (by omega) (by omega) ⟨rfl, rfl, rfl⟩
theorem jIH_187_83 : jmI (jm 187) 83 = (.iconst 0, 1) := by rfl
theorem jH_187_89 {xs : List Int} {d : Nat} {x1 x2 x3 : Int} (h_x1 : 0 ≤ x1 ∧ x1 ≤ 7) (h_x2 : 1 ≤ x2 ∧ x2 ≤ 1000000) (h_x3 : 1 ≤ x3 ∧ x3 ≤ 1000000) (g_0 : (jsu 13 20 (jsu 11 20 (jsu 7 20 (jsu 5 20 (jsu 3 20 (jsu 2 20 (x2.tdiv (((Nat.gcd (x2).natAbs (x3).natAbs : Nat) : Int))))))))) - 2 < 0) (g_1 : (jsu 13 20 (jsu 11 20 (jsu 7 20 (jsu 5 20 (jsu 3 20 (jsu 2 20 (x3.tdiv (((Nat.gcd (x2).natAbs (x3).natAbs : Nat) : Int))))))))) - 2 < 0) (g_2 : x2 - x3 - 1 < 0) : jT xs (d + 43) 187 24 0 [(0, (4, 0)), (1, (0, x1)), (2, (0, x2)), (3, (0, x3))] [] jpH_354 0 0 (fun k v hsN => k = 0 ∧ v = (0, 0) ∧ hsN = [jzH_319, jgh, (100, [], []), jzH_315, jzH_320, jgh, jgh, (101, [], [(jsc 2 20 (x2.tdiv (((Nat.gcd (x2).natAbs (x3).natAbs : Nat) : Int)))) - (jsc 2 20 (x3.tdiv (((Nat.gcd (x2).natAbs (x3).natAbs : Nat) : Int)))), (jsc 3 20 (jsu 2 20 (x2.tdiv (((Nat.gcd (x2).natAbs (x3).natAbs : Nat) : Int))))) - (jsc 3 20 (jsu 2 20 (x3.tdiv (((Nat.gcd (x2).natAbs (x3).natAbs : Nat) : Int))))), (jsc 5 20 (jsu 3 20 (jsu 2 20 (x2.tdiv (((Nat.gcd (x2).natAbs (x3).natAbs : Nat) : Int)))))) - (jsc 5 20 (jsu 3 20 (jsu 2 20 (x3.tdiv (((Nat.gcd (x2).natAbs (x3).natAbs : Nat) : Int)))))), (jsc 7 20 (jsu 5 20 (jsu 3 20 (jsu 2 20 (x2.tdiv (((Nat.gcd (x2).natAbs (x3).natAbs : Nat) : Int))))))) - (jsc 7 20 (jsu 5 20 (jsu 3 20 (jsu 2 20 (x3.tdiv (((Nat.gcd (x2).natAbs (x3).natAbs : Nat) : Int))))))), -(jsc 11 20 (jsu 7 20 (jsu 5 20 (jsu 3 20 (jsu 2 20 (x3.tdiv (((Nat.gcd (x2).natAbs (x3).natAbs : Nat) : Int)))))))) + (jsc 11 20 (jsu 7 20 (jsu 5 20 (jsu 3 20 (jsu 2 20 (x2.tdiv (((Nat.gcd (x2).natAbs (x3).natAbs : Nat) : Int)))))))), (jsc 13 20 (jsu 11 20 (jsu 7 20 (jsu 5 20 (jsu 3 20 (jsu 2 20 (x2.tdiv (((Nat.gcd (x2).natAbs (x3).natAbs : Nat) : Int))))))))) - (jsc 13 20 (jsu 11 20 (jsu 7 20 (jsu 5 20 (jsu 3 20 (jsu 2 20 (x3.tdiv (((Nat.gcd (x2).natAbs (x3).natAbs : Nat) : Int)))))))))]), jgh, jgh, jgh, jgh, jgh, jgh, jgh, jgh, (100, [], jS0), jgh, jgh, jgh, jgh, jgh, jgh, jgh]) := by
  refine jT_xaload_n (v := (4, 0)) (pcN := 1) jIH_187_0 rfl rfl rfl ?_
  refine jT_xiload_n (v := (0, x1)) (pcN := 2) jIH_187_1 rfl rfl rfl ?_
  refine jT_fR [] 24 (y := 188) (pcN := 5) (dC := 1) (bc1 := 0) (bc2 := 0) (c1 := 0) (c2 := 0) (as := [(0, x1)]) (asC := [(0, x1)]) (LN := [(0, (4, 0)), (1, (0, x1)), (2, (0, x2)), (3, (0, x3))]) (stN := [(4, 0)]) (hsC := []) (v := (0, 1)) (st2 := [(0, 1), (4, 0)]) (jH_188_13 (d := 0) (by omega)) (by rfl) (by rfl) (by decide +kernel) (by rfl) (by rfl) (by omega) (by omega) (by omega) (by omega) rfl ?_
  refine jT_fR [0, 1, 2, 3, 4, 5, 6, 7, 8, 9, 10, 11, 12, 13, 14, 15] 24 (y := 190) (pcN := 8) (dC := 1) (bc1 := 0) (bc2 := 0) (c1 := 0) (c2 := 0) (as := [(4, 0), (0, 1)]) (asC := [(4, 0), (0, 1)]) (LN := [(0, (4, 0)), (1, (0, x1)), (2, (0, x2)), (3, (0, x3))]) (stN := []) (hsC := jpH_21) (v := (0, 0)) (st2 := [(0, 0)]) (jH_190_15 (d := 0)) (by rfl) (by rfl) (by decide +kernel) (by rfl) (by rfl) (by omega) (by omega) (by omega) (by omega) rfl ?_
  refine jT_xifF (t := 62) (pcN := 11) jIH_187_8 rfl (by decide +kernel) rfl rfl ?_
  refine jT_xaload_n (v := (4, 0)) (pcN := 12) jIH_187_11 rfl rfl rfl ?_
  refine jT_xiload_n (v := (0, x2)) (pcN := 13) jIH_187_12 rfl rfl rfl ?_
  refine jT_xi2l (x := x2) (z := x2) (pcN := 14) jIH_187_13 rfl (jw_idd (by omega) (by omega)) rfl ?_
  refine jT_xlconst (z := 1) (pcN := 15) jIH_187_14 rfl rfl ?_
  refine jT_adv 1 (pcN := 18) (LN := [(0, (4, 0)), (1, (0, x1)), (2, (0, x2)), (3, (0, x3))]) (stN := [(1, 1000000), (1, 1), (1, x2), (4, 0)]) (hsN := jpH_354) (c1 := 0) (s1 := 0) (c2 := 0) (s2 := 0) (by exact rfl) ?_ (by omega) (by omega)
  refine jT_fR [] 24 (y := 189) (pcN := 21) (dC := 0) (bc1 := 0) (bc2 := 0) (c1 := 0) (c2 := 0) (as := [(1, x2), (1, 1), (1, 1000000)]) (asC := [(1, x2), (1, 1), (1, 1000000)]) (LN := [(0, (4, 0)), (1, (0, x1)), (2, (0, x2)), (3, (0, x3))]) (stN := [(4, 0)]) (hsC := []) (v := (0, 1)) (st2 := [(0, 1), (4, 0)]) (jT_in_ok (d := 0) (v := x2) (lo := 1) (hi := 1000000) (by omega) (by omega) (by omega) (by omega) (by omega)) (by rfl) (by rfl) (by decide +kernel) (by rfl) (by rfl) (by omega) (by omega) (by omega) (by omega) rfl ?_
  refine jT_xifF (t := 40) (pcN := 24) jIH_187_21 rfl (by decide +kernel) rfl rfl ?_
  refine jT_xiload_n (v := (0, x3)) (pcN := 25) jIH_187_24 rfl rfl rfl ?_
  refine jT_xi2l (x := x3) (z := x3) (pcN := 26) jIH_187_25 rfl (jw_idd (by omega) (by omega)) rfl ?_
  refine jT_xlconst (z := 1) (pcN := 27) jIH_187_26 rfl rfl ?_
  refine jT_adv 1 (pcN := 30) (LN := [(0, (4, 0)), (1, (0, x1)), (2, (0, x2)), (3, (0, x3))]) (stN := [(1, 1000000), (1, 1), (1, x3), (4, 0)]) (hsN := jpH_354) (c1 := 0) (s1 := 0) (c2 := 0) (s2 := 0) (by exact rfl) ?_ (by omega) (by omega)
  refine jT_fR [] 24 (y := 189) (pcN := 33) (dC := 0) (bc1 := 0) (bc2 := 0) (c1 := 0) (c2 := 0) (as := [(1, x3), (1, 1), (1, 1000000)]) (asC := [(1, x3), (1, 1), (1, 1000000)]) (LN := [(0, (4, 0)), (1, (0, x1)), (2, (0, x2)), (3, (0, x3))]) (stN := [(4, 0)]) (hsC := []) (v := (0, 1)) (st2 := [(0, 1), (4, 0)]) (jT_in_ok (d := 0) (v := x3) (lo := 1) (hi := 1000000) (by omega) (by omega) (by omega) (by omega) (by omega)) (by rfl) (by rfl) (by decide +kernel) (by rfl) (by rfl) (by omega) (by omega) (by omega) (by omega) rfl ?_
  refine jT_xifF (t := 40) (pcN := 36) jIH_187_33 rfl (by decide +kernel) rfl rfl ?_
  refine jT_xiconst (k := 1) (pcN := 37) jIH_187_36 rfl ?_
  refine jT_xgoto (pcN := 41) jIH_187_37 rfl ?_
  refine jT_xiconst (k := 2) (pcN := 42) jIH_187_41 rfl ?_
  refine jT_fR [0] 24 (y := 191) (pcN := 45) (dC := 0) (bc1 := 0) (bc2 := 0) (c1 := 0) (c2 := 0) (as := [(4, 0), (0, 1), (0, 2)]) (asC := [(4, 0), (0, 1), (0, 2)]) (LN := [(0, (4, 0)), (1, (0, x1)), (2, (0, x2)), (3, (0, x3))]) (stN := []) (hsC := [jgh]) (v := (0, 0)) (st2 := [(0, 0)]) (jH_191_41 (d := 0)) (by rfl) (by rfl) (by decide +kernel) (by rfl) (by rfl) (by omega) (by omega) (by omega) (by omega) rfl ?_
  refine jT_xifF (t := 62) (pcN := 48) jIH_187_45 rfl (by decide +kernel) rfl rfl ?_
  refine jT_xaload_n (v := (4, 0)) (pcN := 49) jIH_187_48 rfl rfl rfl ?_
  refine jT_xaload_n (v := (4, 0)) (pcN := 50) jIH_187_49 rfl rfl rfl ?_
  refine jT_xiload_n (v := (0, x2)) (pcN := 51) jIH_187_50 rfl rfl rfl ?_
  refine jT_xiload_n (v := (0, x3)) (pcN := 52) jIH_187_51 rfl rfl rfl ?_
  refine jT_fB [0, 1, 2, 3, 4, 5, 6, 7, 8, 9, 10, 11, 12, 13, 14, 15] 24 (y := 192) (pcN := 55) (dC := 42) (bc1 := 0) (bc2 := 0) (c1 := 0) (c2 := 0) (as := [(4, 0), (0, x2), (0, x3)]) (asC := [(4, 0), (0, x2), (0, x3)]) (LN := [(0, (4, 0)), (1, (0, x1)), (2, (0, x2)), (3, (0, x3))]) (stN := [(4, 0)]) (hsC := jpH_134) (hsD := [jzH_20, jgh, jgh, jgh, jgh, jgh, jgh, (101, [], [(jsc 2 20 (x2.tdiv (((Nat.gcd (x2).natAbs (x3).natAbs : Nat) : Int)))) - (jsc 2 20 (x3.tdiv (((Nat.gcd (x2).natAbs (x3).natAbs : Nat) : Int)))), -(jsc 3 20 (jsu 2 20 (x3.tdiv (((Nat.gcd (x2).natAbs (x3).natAbs : Nat) : Int))))) + (jsc 3 20 (jsu 2 20 (x2.tdiv (((Nat.gcd (x2).natAbs (x3).natAbs : Nat) : Int))))), (jsc 5 20 (jsu 3 20 (jsu 2 20 (x2.tdiv (((Nat.gcd (x2).natAbs (x3).natAbs : Nat) : Int)))))) - (jsc 5 20 (jsu 3 20 (jsu 2 20 (x3.tdiv (((Nat.gcd (x2).natAbs (x3).natAbs : Nat) : Int)))))), (jsc 7 20 (jsu 5 20 (jsu 3 20 (jsu 2 20 (x2.tdiv (((Nat.gcd (x2).natAbs (x3).natAbs : Nat) : Int))))))) - (jsc 7 20 (jsu 5 20 (jsu 3 20 (jsu 2 20 (x3.tdiv (((Nat.gcd (x2).natAbs (x3).natAbs : Nat) : Int))))))), (jsc 11 20 (jsu 7 20 (jsu 5 20 (jsu 3 20 (jsu 2 20 (x2.tdiv (((Nat.gcd (x2).natAbs (x3).natAbs : Nat) : Int)))))))) - (jsc 11 20 (jsu 7 20 (jsu 5 20 (jsu 3 20 (jsu 2 20 (x3.tdiv (((Nat.gcd (x2).natAbs (x3).natAbs : Nat) : Int)))))))), (jsc 13 20 (jsu 11 20 (jsu 7 20 (jsu 5 20 (jsu 3 20 (jsu 2 20 (x2.tdiv (((Nat.gcd (x2).natAbs (x3).natAbs : Nat) : Int))))))))) - (jsc 13 20 (jsu 11 20 (jsu 7 20 (jsu 5 20 (jsu 3 20 (jsu 2 20 (x3.tdiv (((Nat.gcd (x2).natAbs (x3).natAbs : Nat) : Int)))))))))]), jgh, jgh, jgh, jgh, jgh, jgh, jgh, jgh]) (v := (0, 1)) (st2 := [(0, 1), (4, 0)]) (hs2 := [jzH_20, (100, [], jS0), (100, [], []), jzH_315, jzH_316, jgh, jgh, (101, [], [(jsc 2 20 (x2.tdiv (((Nat.gcd (x2).natAbs (x3).natAbs : Nat) : Int)))) - (jsc 2 20 (x3.tdiv (((Nat.gcd (x2).natAbs (x3).natAbs : Nat) : Int)))), -(jsc 3 20 (jsu 2 20 (x3.tdiv (((Nat.gcd (x2).natAbs (x3).natAbs : Nat) : Int))))) + (jsc 3 20 (jsu 2 20 (x2.tdiv (((Nat.gcd (x2).natAbs (x3).natAbs : Nat) : Int))))), (jsc 5 20 (jsu 3 20 (jsu 2 20 (x2.tdiv (((Nat.gcd (x2).natAbs (x3).natAbs : Nat) : Int)))))) - (jsc 5 20 (jsu 3 20 (jsu 2 20 (x3.tdiv (((Nat.gcd (x2).natAbs (x3).natAbs : Nat) : Int)))))), (jsc 7 20 (jsu 5 20 (jsu 3 20 (jsu 2 20 (x2.tdiv (((Nat.gcd (x2).natAbs (x3).natAbs : Nat) : Int))))))) - (jsc 7 20 (jsu 5 20 (jsu 3 20 (jsu 2 20 (x3.tdiv (((Nat.gcd (x2).natAbs (x3).natAbs : Nat) : Int))))))), (jsc 11 20 (jsu 7 20 (jsu 5 20 (jsu 3 20 (jsu 2 20 (x2.tdiv (((Nat.gcd (x2).natAbs (x3).natAbs : Nat) : Int)))))))) - (jsc 11 20 (jsu 7 20 (jsu 5 20 (jsu 3 20 (jsu 2 20 (x3.tdiv (((Nat.gcd (x2).natAbs (x3).natAbs : Nat) : Int)))))))), (jsc 13 20 (jsu 11 20 (jsu 7 20 (jsu 5 20 (jsu 3 20 (jsu 2 20 (x2.tdiv (((Nat.gcd (x2).natAbs (x3).natAbs : Nat) : Int))))))))) - (jsc 13 20 (jsu 11 20 (jsu 7 20 (jsu 5 20 (jsu 3 20 (jsu 2 20 (x3.tdiv (((Nat.gcd (x2).natAbs (x3).natAbs : Nat) : Int)))))))))]), jgh, jgh, jgh, jgh, jgh, jgh, jgh, jgh, (100, [], (List.replicate 1613 0)), jgh, jgh, jgh, jgh, jgh, jgh, jgh]) (jH_192_88 (d := 0) (by omega) (by omega) (by omega) (by omega) (by omega)) (by rfl) (by rfl) (by decide +kernel) (by rfl) (by rfl) (by omega) (by omega) (by omega) (by omega) rfl rfl ?_
  have hb_q1 := jsc_b (P := 2) (n := 20) (u := (x2.tdiv (((Nat.gcd (x2).natAbs (x3).natAbs : Nat) : Int))))
  have hb_q1 : 0 ≤ jsc 2 20 (x2.tdiv (((Nat.gcd (x2).natAbs (x3).natAbs : Nat) : Int))) ∧ jsc 2 20 (x2.tdiv (((Nat.gcd (x2).natAbs (x3).natAbs : Nat) : Int))) ≤ 20 := ⟨hb_q1.1, by omega⟩
  generalize hq_q1 : jsc 2 20 (x2.tdiv (((Nat.gcd (x2).natAbs (x3).natAbs : Nat) : Int))) = q1 at hb_q1 ⊢
  have hb_q2 := jsc_b (P := 2) (n := 20) (u := (x3.tdiv (((Nat.gcd (x2).natAbs (x3).natAbs : Nat) : Int))))
  have hb_q2 : 0 ≤ jsc 2 20 (x3.tdiv (((Nat.gcd (x2).natAbs (x3).natAbs : Nat) : Int))) ∧ jsc 2 20 (x3.tdiv (((Nat.gcd (x2).natAbs (x3).natAbs : Nat) : Int))) ≤ 20 := ⟨hb_q2.1, by omega⟩
  generalize hq_q2 : jsc 2 20 (x3.tdiv (((Nat.gcd (x2).natAbs (x3).natAbs : Nat) : Int))) = q2 at hb_q2 ⊢
  have hb_q3 := jsc_b (P := 3) (n := 20) (u := (jsu 2 20 (x2.tdiv (((Nat.gcd (x2).natAbs (x3).natAbs : Nat) : Int)))))
  have hb_q3 : 0 ≤ jsc 3 20 (jsu 2 20 (x2.tdiv (((Nat.gcd (x2).natAbs (x3).natAbs : Nat) : Int)))) ∧ jsc 3 20 (jsu 2 20 (x2.tdiv (((Nat.gcd (x2).natAbs (x3).natAbs : Nat) : Int)))) ≤ 20 := ⟨hb_q3.1, by omega⟩
  generalize hq_q3 : jsc 3 20 (jsu 2 20 (x2.tdiv (((Nat.gcd (x2).natAbs (x3).natAbs : Nat) : Int)))) = q3 at hb_q3 ⊢
  have hb_q4 := jsc_b (P := 3) (n := 20) (u := (jsu 2 20 (x3.tdiv (((Nat.gcd (x2).natAbs (x3).natAbs : Nat) : Int)))))
  have hb_q4 : 0 ≤ jsc 3 20 (jsu 2 20 (x3.tdiv (((Nat.gcd (x2).natAbs (x3).natAbs : Nat) : Int)))) ∧ jsc 3 20 (jsu 2 20 (x3.tdiv (((Nat.gcd (x2).natAbs (x3).natAbs : Nat) : Int)))) ≤ 20 := ⟨hb_q4.1, by omega⟩
  generalize hq_q4 : jsc 3 20 (jsu 2 20 (x3.tdiv (((Nat.gcd (x2).natAbs (x3).natAbs : Nat) : Int)))) = q4 at hb_q4 ⊢
  have hb_q5 := jsc_b (P := 5) (n := 20) (u := (jsu 3 20 (jsu 2 20 (x2.tdiv (((Nat.gcd (x2).natAbs (x3).natAbs : Nat) : Int))))))
  have hb_q5 : 0 ≤ jsc 5 20 (jsu 3 20 (jsu 2 20 (x2.tdiv (((Nat.gcd (x2).natAbs (x3).natAbs : Nat) : Int))))) ∧ jsc 5 20 (jsu 3 20 (jsu 2 20 (x2.tdiv (((Nat.gcd (x2).natAbs (x3).natAbs : Nat) : Int))))) ≤ 20 := ⟨hb_q5.1, by omega⟩
  generalize hq_q5 : jsc 5 20 (jsu 3 20 (jsu 2 20 (x2.tdiv (((Nat.gcd (x2).natAbs (x3).natAbs : Nat) : Int))))) = q5 at hb_q5 ⊢
  have hb_q6 := jsc_b (P := 5) (n := 20) (u := (jsu 3 20 (jsu 2 20 (x3.tdiv (((Nat.gcd (x2).natAbs (x3).natAbs : Nat) : Int))))))
  have hb_q6 : 0 ≤ jsc 5 20 (jsu 3 20 (jsu 2 20 (x3.tdiv (((Nat.gcd (x2).natAbs (x3).natAbs : Nat) : Int))))) ∧ jsc 5 20 (jsu 3 20 (jsu 2 20 (x3.tdiv (((Nat.gcd (x2).natAbs (x3).natAbs : Nat) : Int))))) ≤ 20 := ⟨hb_q6.1, by omega⟩
  generalize hq_q6 : jsc 5 20 (jsu 3 20 (jsu 2 20 (x3.tdiv (((Nat.gcd (x2).natAbs (x3).natAbs : Nat) : Int))))) = q6 at hb_q6 ⊢
  have hb_q7 := jsc_b (P := 7) (n := 20) (u := (jsu 5 20 (jsu 3 20 (jsu 2 20 (x2.tdiv (((Nat.gcd (x2).natAbs (x3).natAbs : Nat) : Int)))))))
  have hb_q7 : 0 ≤ jsc 7 20 (jsu 5 20 (jsu 3 20 (jsu 2 20 (x2.tdiv (((Nat.gcd (x2).natAbs (x3).natAbs : Nat) : Int)))))) ∧ jsc 7 20 (jsu 5 20 (jsu 3 20 (jsu 2 20 (x2.tdiv (((Nat.gcd (x2).natAbs (x3).natAbs : Nat) : Int)))))) ≤ 20 := ⟨hb_q7.1, by omega⟩
  generalize hq_q7 : jsc 7 20 (jsu 5 20 (jsu 3 20 (jsu 2 20 (x2.tdiv (((Nat.gcd (x2).natAbs (x3).natAbs : Nat) : Int)))))) = q7 at hb_q7 ⊢
  have hb_q8 := jsc_b (P := 7) (n := 20) (u := (jsu 5 20 (jsu 3 20 (jsu 2 20 (x3.tdiv (((Nat.gcd (x2).natAbs (x3).natAbs : Nat) : Int)))))))
  have hb_q8 : 0 ≤ jsc 7 20 (jsu 5 20 (jsu 3 20 (jsu 2 20 (x3.tdiv (((Nat.gcd (x2).natAbs (x3).natAbs : Nat) : Int)))))) ∧ jsc 7 20 (jsu 5 20 (jsu 3 20 (jsu 2 20 (x3.tdiv (((Nat.gcd (x2).natAbs (x3).natAbs : Nat) : Int)))))) ≤ 20 := ⟨hb_q8.1, by omega⟩
  generalize hq_q8 : jsc 7 20 (jsu 5 20 (jsu 3 20 (jsu 2 20 (x3.tdiv (((Nat.gcd (x2).natAbs (x3).natAbs : Nat) : Int)))))) = q8 at hb_q8 ⊢
  have hb_q9 := jsc_b (P := 11) (n := 20) (u := (jsu 7 20 (jsu 5 20 (jsu 3 20 (jsu 2 20 (x2.tdiv (((Nat.gcd (x2).natAbs (x3).natAbs : Nat) : Int))))))))
  have hb_q9 : 0 ≤ jsc 11 20 (jsu 7 20 (jsu 5 20 (jsu 3 20 (jsu 2 20 (x2.tdiv (((Nat.gcd (x2).natAbs (x3).natAbs : Nat) : Int))))))) ∧ jsc 11 20 (jsu 7 20 (jsu 5 20 (jsu 3 20 (jsu 2 20 (x2.tdiv (((Nat.gcd (x2).natAbs (x3).natAbs : Nat) : Int))))))) ≤ 20 := ⟨hb_q9.1, by omega⟩
  generalize hq_q9 : jsc 11 20 (jsu 7 20 (jsu 5 20 (jsu 3 20 (jsu 2 20 (x2.tdiv (((Nat.gcd (x2).natAbs (x3).natAbs : Nat) : Int))))))) = q9 at hb_q9 ⊢
  have hb_q10 := jsc_b (P := 11) (n := 20) (u := (jsu 7 20 (jsu 5 20 (jsu 3 20 (jsu 2 20 (x3.tdiv (((Nat.gcd (x2).natAbs (x3).natAbs : Nat) : Int))))))))
  have hb_q10 : 0 ≤ jsc 11 20 (jsu 7 20 (jsu 5 20 (jsu 3 20 (jsu 2 20 (x3.tdiv (((Nat.gcd (x2).natAbs (x3).natAbs : Nat) : Int))))))) ∧ jsc 11 20 (jsu 7 20 (jsu 5 20 (jsu 3 20 (jsu 2 20 (x3.tdiv (((Nat.gcd (x2).natAbs (x3).natAbs : Nat) : Int))))))) ≤ 20 := ⟨hb_q10.1, by omega⟩
  generalize hq_q10 : jsc 11 20 (jsu 7 20 (jsu 5 20 (jsu 3 20 (jsu 2 20 (x3.tdiv (((Nat.gcd (x2).natAbs (x3).natAbs : Nat) : Int))))))) = q10 at hb_q10 ⊢
  have hb_q11 := jsc_b (P := 13) (n := 20) (u := (jsu 11 20 (jsu 7 20 (jsu 5 20 (jsu 3 20 (jsu 2 20 (x2.tdiv (((Nat.gcd (x2).natAbs (x3).natAbs : Nat) : Int)))))))))
  have hb_q11 : 0 ≤ jsc 13 20 (jsu 11 20 (jsu 7 20 (jsu 5 20 (jsu 3 20 (jsu 2 20 (x2.tdiv (((Nat.gcd (x2).natAbs (x3).natAbs : Nat) : Int)))))))) ∧ jsc 13 20 (jsu 11 20 (jsu 7 20 (jsu 5 20 (jsu 3 20 (jsu 2 20 (x2.tdiv (((Nat.gcd (x2).natAbs (x3).natAbs : Nat) : Int)))))))) ≤ 20 := ⟨hb_q11.1, by omega⟩
  generalize hq_q11 : jsc 13 20 (jsu 11 20 (jsu 7 20 (jsu 5 20 (jsu 3 20 (jsu 2 20 (x2.tdiv (((Nat.gcd (x2).natAbs (x3).natAbs : Nat) : Int)))))))) = q11 at hb_q11 ⊢
  have hb_q12 := jsc_b (P := 13) (n := 20) (u := (jsu 11 20 (jsu 7 20 (jsu 5 20 (jsu 3 20 (jsu 2 20 (x3.tdiv (((Nat.gcd (x2).natAbs (x3).natAbs : Nat) : Int)))))))))
  have hb_q12 : 0 ≤ jsc 13 20 (jsu 11 20 (jsu 7 20 (jsu 5 20 (jsu 3 20 (jsu 2 20 (x3.tdiv (((Nat.gcd (x2).natAbs (x3).natAbs : Nat) : Int)))))))) ∧ jsc 13 20 (jsu 11 20 (jsu 7 20 (jsu 5 20 (jsu 3 20 (jsu 2 20 (x3.tdiv (((Nat.gcd (x2).natAbs (x3).natAbs : Nat) : Int)))))))) ≤ 20 := ⟨hb_q12.1, by omega⟩
  generalize hq_q12 : jsc 13 20 (jsu 11 20 (jsu 7 20 (jsu 5 20 (jsu 3 20 (jsu 2 20 (x3.tdiv (((Nat.gcd (x2).natAbs (x3).natAbs : Nat) : Int)))))))) = q12 at hb_q12 ⊢
  refine jT_eq (LN := [(0, (4, 0)), (1, (0, x1)), (2, (0, x2)), (3, (0, x3))]) (stN := [(0, 1), (4, 0)]) (hsN := [jzH_20, (100, [], jS0), (100, [], []), jzH_315, jzH_316, jgh, jgh, (101, [], [q1 - q2, q3 - q4, q5 - q6, q7 - q8, -q10 + q9, q11 - q12]), jgh, jgh, jgh, jgh, jgh, jgh, jgh, jgh, (100, [], (List.replicate 1613 0)), jgh, jgh, jgh, jgh, jgh, jgh, jgh]) (rfl) (rfl) (by simp only [List.cons.injEq, Prod.mk.injEq, and_true, true_and] <;> ((try unfold jw); (try unfold jwl); omega)) ?_
  refine jT_xiconst (k := 3) (pcN := 56) jIH_187_55 rfl ?_
  refine jT_callA [0] (y := 191) (pcN := 59) (dC := 0) (bc1 := 0) (bc2 := 0) (c1 := 0) (c2 := 0) (as := [(4, 0), (0, 1), (0, 3)]) (asC := [(4, 0), (0, 1), (0, 3)]) (LN := [(0, (4, 0)), (1, (0, x1)), (2, (0, x2)), (3, (0, x3))]) (stN := []) (hsC := [jgh]) (ex := []) (v := (0, 0)) (st2 := [(0, 0)]) (hs2 := [jzH_20, (100, [], jS0), (100, [], []), jzH_315, jzH_316, jgh, jgh, (101, [], [q1 - q2, q3 - q4, q5 - q6, q7 - q8, -q10 + q9, q11 - q12]), jgh, jgh, jgh, jgh, jgh, jgh, jgh, jgh, (100, [], (List.replicate 1613 0)), jgh, jgh, jgh, jgh, jgh, jgh, jgh]) (jH_191_77 (d := 0)) (by rfl) (by rfl) (by rfl) (by rfl) ⟨rfl, trivial⟩ (by rfl) (by rfl) (by omega) (by show 24 ≤ 24; omega) (by omega) (by omega) rfl rfl ?_
  refine jT_xifT (pcN := 64) jIH_187_59 rfl (by decide +kernel) rfl ?_
  refine jT_xaload_n (v := (4, 0)) (pcN := 65) jIH_187_64 rfl rfl rfl ?_
  refine jT_callB [0, 1, 2, 3, 4, 5, 6, 7, 8, 9, 10, 11, 12, 13, 14, 15, 16, 17, 18, 19, 20, 21, 22, 23] (y := 195) (pcN := 68) (dC := 0) (bc1 := 0) (bc2 := 0) (c1 := 0) (c2 := 0) (as := [(4, 0)]) (asC := [(4, 0)]) (LN := [(0, (4, 0)), (1, (0, x1)), (2, (0, x2)), (3, (0, x3))]) (stN := []) (hsC := jpH_317) (hsD := jpH_321) (v := (9, 0)) (st2 := []) (hs2 := [jzH_319, (100, [], jS0), (100, [], []), jzH_315, jzH_320, jgh, jgh, (101, [], [q1 - q2, q3 - q4, q5 - q6, q7 - q8, -q10 + q9, q11 - q12]), jgh, jgh, jgh, jgh, jgh, jgh, jgh, jgh, (100, [], jS0), jgh, jgh, jgh, jgh, jgh, jgh, jgh]) (jH_195_78 (d := 0)) (by rfl) (by rfl) (by rfl) (by rfl) ⟨rfl, rfl, rfl, rfl, rfl, rfl, rfl, rfl, rfl, rfl, rfl, rfl, rfl, rfl, rfl, rfl, rfl, rfl, rfl, rfl, rfl, rfl, rfl, rfl, trivial⟩ (by rfl) (by rfl) (by omega) (by show 24 ≤ 24; omega) (by omega) (by omega) rfl rfl ?_
  refine jT_xaload_n (v := (4, 0)) (pcN := 69) jIH_187_68 rfl rfl rfl ?_
  refine jT_xiload_n (v := (0, x1)) (pcN := 70) jIH_187_69 rfl rfl rfl ?_
  refine jT_callB [0, 1, 2, 3, 4, 5, 6, 7, 8, 9, 10, 11, 12, 13, 14, 15] (y := 196) (pcN := 73) (dC := 1) (bc1 := 0) (bc2 := 0) (c1 := 0) (c2 := 0) (as := [(4, 0), (0, x1)]) (asC := [(4, 0), (0, x1)]) (LN := [(0, (4, 0)), (1, (0, x1)), (2, (0, x2)), (3, (0, x3))]) (stN := []) (hsC := [jzH_319, (100, [], jS0), jgh, jgh, jgh, jgh, jgh, (101, [], [q1 - q2, q3 - q4, q5 - q6, q7 - q8, -q10 + q9, q11 - q12]), jgh, jgh, jgh, jgh, jgh, jgh, jgh, jgh]) (hsD := [jzH_319, (100, [], ((((((((((((((jS0).set ((7 * x1).toNat) (q1 - q2))).set ((7 * x1 + 1).toNat) (q3 - q4))).set ((7 * x1 + 2).toNat) (q5 - q6))).set ((7 * x1 + 3).toNat) (q7 - q8))).set ((7 * x1 + 4).toNat) (-q10 + q9))).set ((7 * x1 + 5).toNat) (q11 - q12))).set ((7 * x1 + 6).toNat) 1)), jgh, jgh, jgh, jgh, jgh, (101, [], [q1 - q2, q3 - q4, q5 - q6, q7 - q8, -q10 + q9, q11 - q12]), jgh, jgh, jgh, jgh, jgh, jgh, jgh, jgh]) (v := (0, 1)) (st2 := [(0, 1)]) (hs2 := [jzH_319, (100, [], ((((((((((((((jS0).set ((7 * x1).toNat) (q1 - q2))).set ((7 * x1 + 1).toNat) (q3 - q4))).set ((7 * x1 + 2).toNat) (q5 - q6))).set ((7 * x1 + 3).toNat) (q7 - q8))).set ((7 * x1 + 4).toNat) (-q10 + q9))).set ((7 * x1 + 5).toNat) (q11 - q12))).set ((7 * x1 + 6).toNat) 1)), (100, [], []), jzH_315, jzH_320, jgh, jgh, (101, [], [q1 - q2, q3 - q4, q5 - q6, q7 - q8, -q10 + q9, q11 - q12]), jgh, jgh, jgh, jgh, jgh, jgh, jgh, jgh, (100, [], jS0), jgh, jgh, jgh, jgh, jgh, jgh, jgh]) (jH_196_82 (d := 0) (by omega) (by omega) (by omega) (by omega) (by omega) (by omega) (by omega) (by omega) (by omega) (by omega) (by omega) (by omega) (by omega)) (by rfl) (by rfl) (by rfl) (by rfl) ⟨rfl, rfl, rfl, rfl, rfl, rfl, rfl, rfl, rfl, rfl, rfl, rfl, rfl, rfl, rfl, rfl, trivial⟩ (by rfl) (by rfl) (by omega) (by show 24 ≤ 24; omega) (by omega) (by omega) rfl rfl ?_
  refine jT_adv 1 (pcN := 74) (LN := [(0, (4, 0)), (1, (0, x1)), (2, (0, x2)), (3, (0, x3))]) (stN := []) (hsN := [jzH_319, (100, [], ((((((((((((((jS0).set ((7 * x1).toNat) (q1 - q2))).set ((7 * x1 + 1).toNat) (q3 - q4))).set ((7 * x1 + 2).toNat) (q5 - q6))).set ((7 * x1 + 3).toNat) (q7 - q8))).set ((7 * x1 + 4).toNat) (-q10 + q9))).set ((7 * x1 + 5).toNat) (q11 - q12))).set ((7 * x1 + 6).toNat) 1)), (100, [], []), jzH_315, jzH_320, jgh, jgh, (101, [], [q1 - q2, q3 - q4, q5 - q6, q7 - q8, -q10 + q9, q11 - q12]), jgh, jgh, jgh, jgh, jgh, jgh, jgh, jgh, (100, [], jS0), jgh, jgh, jgh, jgh, jgh, jgh, jgh]) (c1 := 0) (s1 := 0) (c2 := 0) (s2 := 0) (by exact rfl) ?_ (by omega) (by omega)
  refine jT_xiload_n (v := (0, x2)) (pcN := 75) jIH_187_74 rfl rfl rfl ?_
  refine jT_xiload_n (v := (0, x3)) (pcN := 76) jIH_187_75 rfl rfl rfl ?_
  refine jT_icT (a := x2) (b := x3) (t := 83) (by rfl) (by rfl) (by rfl) (jw_idd (by omega) (by omega)) (jw_idd (by omega) (by omega)) (by simp only [jcP] <;> omega) ?_
  refine jT_xiconst (k := 0) (pcN := 84) jIH_187_83 rfl ?_
  refine jT_forget (a := 1) (c := (100, [], ((((((((((((((jS0).set ((7 * x1).toNat) (q1 - q2))).set ((7 * x1 + 1).toNat) (q3 - q4))).set ((7 * x1 + 2).toNat) (q5 - q6))).set ((7 * x1 + 3).toNat) (q7 - q8))).set ((7 * x1 + 4).toNat) (-q10 + q9))).set ((7 * x1 + 5).toNat) (q11 - q12))).set ((7 * x1 + 6).toNat) 1))) rfl rfl ?_
  refine jT_eq (LN := [(0, (4, 0)), (1, (0, x1)), (2, (0, x2)), (3, (0, x3))]) (stN := [(0, 0)]) (hsN := [jzH_319, jgh, (100, [], []), jzH_315, jzH_320, jgh, jgh, (101, [], [q1 - q2, q3 - q4, q5 - q6, q7 - q8, -q10 + q9, q11 - q12]), jgh, jgh, jgh, jgh, jgh, jgh, jgh, jgh, (100, [], jS0), jgh, jgh, jgh, jgh, jgh, jgh, jgh]) rfl rfl rfl ?_
  subst hq_q12
  subst hq_q11
  subst hq_q10
  subst hq_q9
  subst hq_q8
  subst hq_q7
  subst hq_q6
  subst hq_q5
  subst hq_q4
  subst hq_q3
  subst hq_q2
  subst hq_q1
  exact jT_ret rfl (by decide) (by show 24 ≤ 24; omega) (by omega) (by omega) ⟨rfl, rfl, rfl⟩
theorem jH_116_90 {xs : List Int} {d : Nat} {x3 : Int} (h_x3 : 1000001 ≤ x3 ∧ x3 ≤ 2147483647) : jT xs d 116 1 0 [(0, (4, 0)), (1, (0, x3)), (2, (0, 1)), (3, (0, 1000000))] [] [jgh] 1 6 (fun k v hsN => k = 1 ∧ v = (0, 1) ∧ hsN = [jgh] ++ []) := by
  refine jT_xiload_n (v := (0, x3)) (pcN := 1) jIH_116_0 rfl rfl rfl ?_
  refine jT_xiload_n (v := (0, 1)) (pcN := 2) jIH_116_1 rfl rfl rfl ?_
  refine jT_icF (a := x3) (b := 1) (t := 10) (by rfl) (by rfl) (by rfl) (jw_idd (by omega) (by omega)) (jw_idd (by omega) (by omega)) (by simp only [jcP] <;> omega) ?_
  refine jT_xiload_n (v := (0, x3)) (pcN := 6) jIH_116_5 rfl rfl rfl ?_
  refine jT_xiload_n (v := (0, 1000000)) (pcN := 7) jIH_116_6 rfl rfl rfl ?_
  refine jT_icF (a := x3) (b := 1000000) (t := 21) (by rfl) (by rfl) (by rfl) (jw_idd (by omega) (by omega)) (jw_idd (by omega) (by omega)) (by simp only [jcP] <;> omega) ?_
  exact jT_ret (c1 := 1) (s1 := 6) rfl (by decide) (by show 1 ≤ 1; omega) (by omega) (by omega) ⟨rfl, rfl, rfl⟩
theorem jH_114_91 {xs : List Int} {d : Nat} {x1 x2 x3 : Int} (h_x1 : 0 ≤ x1 ∧ x1 ≤ 7) (h_x2 : 1 ≤ x2 ∧ x2 ≤ 1000000) (h_x3 : 1000001 ≤ x3 ∧ x3 ≤ 2147483647) : jT xs (d + 1) 114 12 0 [(0, (4, 0)), (1, (0, x1)), (2, (0, x2)), (3, (0, x3))] [] jpH_6 1 6 (fun k v hsN => k = 1 ∧ v = (0, 1) ∧ hsN = jpH_6 ++ []) := by
  refine jT_xaload_n (v := (4, 0)) (pcN := 1) jIH_114_0 rfl rfl rfl ?_
  refine jT_xiload_n (v := (0, x1)) (pcN := 2) jIH_114_1 rfl rfl rfl ?_
  refine jT_xbipush (k := 8) (pcN := 4) jIH_114_2 (by decide) rfl ?_
  refine jT_fR [0] 12 (y := 115) (pcN := 7) (dC := 0) (bc1 := 0) (bc2 := 0) (c1 := 1) (c2 := 6) (as := [(4, 0), (0, x1), (0, 8)]) (asC := [(4, 0), (0, x1), (0, 8)]) (LN := [(0, (4, 0)), (1, (0, x1)), (2, (0, x2)), (3, (0, x3))]) (stN := []) (hsC := [jgh]) (v := (9, 0)) (st2 := []) (jH_115_9 (d := 0) (by omega)) (by rfl) (by rfl) (by decide +kernel) (by rfl) (by rfl) (by omega) (by omega) (by omega) (by omega) rfl ?_
  refine jT_xaload_n (v := (4, 0)) (pcN := 8) jIH_114_7 rfl rfl rfl ?_
  refine jT_xiload_n (v := (0, x2)) (pcN := 9) jIH_114_8 rfl rfl rfl ?_
  refine jT_xiconst (k := 1) (pcN := 10) jIH_114_9 rfl ?_
  refine jT_adv 1 (pcN := 12) (LN := [(0, (4, 0)), (1, (0, x1)), (2, (0, x2)), (3, (0, x3))]) (stN := [(0, 1000000), (0, 1), (0, x2), (4, 0)]) (hsN := jpH_6) (c1 := 0) (s1 := 0) (c2 := 1) (s2 := 6) (by exact rfl) ?_ (by omega) (by omega)
  refine jT_fR [0] 12 (y := 116) (pcN := 15) (dC := 0) (bc1 := 0) (bc2 := 0) (c1 := 1) (c2 := 6) (as := [(4, 0), (0, x2), (0, 1), (0, 1000000)]) (asC := [(4, 0), (0, x2), (0, 1), (0, 1000000)]) (LN := [(0, (4, 0)), (1, (0, x1)), (2, (0, x2)), (3, (0, x3))]) (stN := []) (hsC := [jgh]) (v := (9, 0)) (st2 := []) (jH_116_19 (d := 0) (by omega)) (by rfl) (by rfl) (by decide +kernel) (by rfl) (by rfl) (by omega) (by omega) (by omega) (by omega) rfl ?_
  refine jT_xaload_n (v := (4, 0)) (pcN := 16) jIH_114_15 rfl rfl rfl ?_
  refine jT_xiload_n (v := (0, x3)) (pcN := 17) jIH_114_16 rfl rfl rfl ?_
  refine jT_xiconst (k := 1) (pcN := 18) jIH_114_17 rfl ?_
  refine jT_adv 1 (pcN := 20) (LN := [(0, (4, 0)), (1, (0, x1)), (2, (0, x2)), (3, (0, x3))]) (stN := [(0, 1000000), (0, 1), (0, x3), (4, 0)]) (hsN := jpH_6) (c1 := 0) (s1 := 0) (c2 := 1) (s2 := 6) (by exact rfl) ?_ (by omega) (by omega)
  exact jT_fX [0] 12 (y := 116) (pcN := 23) (dC := 0) (bc1 := 1) (bc2 := 6) (as := [(4, 0), (0, x3), (0, 1), (0, 1000000)]) (asC := [(4, 0), (0, x3), (0, 1), (0, 1000000)]) (LN := [(0, (4, 0)), (1, (0, x1)), (2, (0, x2)), (3, (0, x3))]) (stN := []) (hsC := [jgh]) (e := 1) (jH_116_90 (d := 0) (by omega)) (by rfl) (by rfl) (by decide +kernel) (by rfl) (by rfl) (by omega) (by omega) (by omega) (by omega) ⟨rfl, ⟨rfl, rfl, rfl⟩⟩
theorem jH_326_92 {xs : List Int} {d : Nat} {x1 x2 x3 : Int} (h_x1 : 0 ≤ x1 ∧ x1 ≤ 7) (h_x2 : 1 ≤ x2 ∧ x2 ≤ 1000000) (h_x3 : 1000001 ≤ x3 ∧ x3 ≤ 2147483647) : jT xs (d + 2) 326 13 0 [(0, (4, 0)), (1, (0, x1)), (2, (0, x2)), (3, (0, x3)), (4, (4, 1))] [] jpH_14 1 6 (fun k v hsN => k = 0 ∧ v = (0, 2) ∧ hsN = jpH_14 ++ []) := by
  refine jT_xaload (v := (4, 1)) (pcN := 2) jIH_326_0 rfl rfl rfl ?_
  refine jT_xiconst (k := 0) (pcN := 3) jIH_326_2 rfl ?_
  refine jT_xaload_n (v := (4, 0)) (pcN := 4) jIH_326_3 rfl rfl rfl ?_
  refine jT_xiload_n (v := (0, x1)) (pcN := 5) jIH_326_4 rfl rfl rfl ?_
  refine jT_xiload_n (v := (0, x2)) (pcN := 6) jIH_326_5 rfl rfl rfl ?_
  refine jT_xiload_n (v := (0, x3)) (pcN := 7) jIH_326_6 rfl rfl rfl ?_
  exact jT_fX [0, 2, 3, 4, 5, 6, 7, 8, 9, 10, 11, 12] 13 (y := 114) (pcN := 10) (dC := 1) (bc1 := 1) (bc2 := 6) (as := [(4, 0), (0, x1), (0, x2), (0, x3)]) (asC := [(4, 0), (0, x1), (0, x2), (0, x3)]) (LN := [(0, (4, 0)), (1, (0, x1)), (2, (0, x2)), (3, (0, x3)), (4, (4, 1))]) (stN := [(0, 0), (4, 1)]) (hsC := jpH_6) (e := 1) (jH_114_91 (d := 0) (by omega) (by omega) (by omega)) (by rfl) (by rfl) (by decide +kernel) (by rfl) (by rfl) (by omega) (by omega) (by omega) (by omega) (show _ from ⟨rfl, rfl, rfl⟩)
theorem jH_187_93 {xs : List Int} {d : Nat} {x1 x2 x3 : Int} (h_x1 : 0 ≤ x1 ∧ x1 ≤ 7) (h_x2 : 1 ≤ x2 ∧ x2 ≤ 1000000) (h_x3 : 1000001 ≤ x3 ∧ x3 ≤ 2147483647) : jT xs (d + 2) 187 16 0 [(0, (4, 0)), (1, (0, x1)), (2, (0, x2)), (3, (0, x3))] [] jpH_21 0 0 (fun k v hsN => k = 0 ∧ v = (0, 0) ∧ hsN = jpH_36) := by
  refine jT_xaload_n (v := (4, 0)) (pcN := 1) jIH_187_0 rfl rfl rfl ?_
  refine jT_xiload_n (v := (0, x1)) (pcN := 2) jIH_187_1 rfl rfl rfl ?_
  refine jT_fR [] 16 (y := 188) (pcN := 5) (dC := 1) (bc1 := 0) (bc2 := 0) (c1 := 0) (c2 := 0) (as := [(0, x1)]) (asC := [(0, x1)]) (LN := [(0, (4, 0)), (1, (0, x1)), (2, (0, x2)), (3, (0, x3))]) (stN := [(4, 0)]) (hsC := []) (v := (0, 1)) (st2 := [(0, 1), (4, 0)]) (jH_188_13 (d := 0) (by omega)) (by rfl) (by rfl) (by decide +kernel) (by rfl) (by rfl) (by omega) (by omega) (by omega) (by omega) rfl ?_
  refine jT_fR [0, 1, 2, 3, 4, 5, 6, 7, 8, 9, 10, 11, 12, 13, 14, 15] 16 (y := 190) (pcN := 8) (dC := 1) (bc1 := 0) (bc2 := 0) (c1 := 0) (c2 := 0) (as := [(4, 0), (0, 1)]) (asC := [(4, 0), (0, 1)]) (LN := [(0, (4, 0)), (1, (0, x1)), (2, (0, x2)), (3, (0, x3))]) (stN := []) (hsC := jpH_21) (v := (0, 0)) (st2 := [(0, 0)]) (jH_190_15 (d := 0)) (by rfl) (by rfl) (by decide +kernel) (by rfl) (by rfl) (by omega) (by omega) (by omega) (by omega) rfl ?_
  refine jT_xifF (t := 62) (pcN := 11) jIH_187_8 rfl (by decide +kernel) rfl rfl ?_
  refine jT_xaload_n (v := (4, 0)) (pcN := 12) jIH_187_11 rfl rfl rfl ?_
  refine jT_xiload_n (v := (0, x2)) (pcN := 13) jIH_187_12 rfl rfl rfl ?_
  refine jT_xi2l (x := x2) (z := x2) (pcN := 14) jIH_187_13 rfl (jw_idd (by omega) (by omega)) rfl ?_
  refine jT_xlconst (z := 1) (pcN := 15) jIH_187_14 rfl rfl ?_
  refine jT_adv 1 (pcN := 18) (LN := [(0, (4, 0)), (1, (0, x1)), (2, (0, x2)), (3, (0, x3))]) (stN := [(1, 1000000), (1, 1), (1, x2), (4, 0)]) (hsN := jpH_21) (c1 := 0) (s1 := 0) (c2 := 0) (s2 := 0) (by exact rfl) ?_ (by omega) (by omega)
  refine jT_fR [] 16 (y := 189) (pcN := 21) (dC := 0) (bc1 := 0) (bc2 := 0) (c1 := 0) (c2 := 0) (as := [(1, x2), (1, 1), (1, 1000000)]) (asC := [(1, x2), (1, 1), (1, 1000000)]) (LN := [(0, (4, 0)), (1, (0, x1)), (2, (0, x2)), (3, (0, x3))]) (stN := [(4, 0)]) (hsC := []) (v := (0, 1)) (st2 := [(0, 1), (4, 0)]) (jT_in_ok (d := 0) (v := x2) (lo := 1) (hi := 1000000) (by omega) (by omega) (by omega) (by omega) (by omega)) (by rfl) (by rfl) (by decide +kernel) (by rfl) (by rfl) (by omega) (by omega) (by omega) (by omega) rfl ?_
  refine jT_xifF (t := 40) (pcN := 24) jIH_187_21 rfl (by decide +kernel) rfl rfl ?_
  refine jT_xiload_n (v := (0, x3)) (pcN := 25) jIH_187_24 rfl rfl rfl ?_
  refine jT_xi2l (x := x3) (z := x3) (pcN := 26) jIH_187_25 rfl (jw_idd (by omega) (by omega)) rfl ?_
  refine jT_xlconst (z := 1) (pcN := 27) jIH_187_26 rfl rfl ?_
  refine jT_adv 1 (pcN := 30) (LN := [(0, (4, 0)), (1, (0, x1)), (2, (0, x2)), (3, (0, x3))]) (stN := [(1, 1000000), (1, 1), (1, x3), (4, 0)]) (hsN := jpH_21) (c1 := 0) (s1 := 0) (c2 := 0) (s2 := 0) (by exact rfl) ?_ (by omega) (by omega)
  refine jT_fR [] 16 (y := 189) (pcN := 33) (dC := 0) (bc1 := 0) (bc2 := 0) (c1 := 0) (c2 := 0) (as := [(1, x3), (1, 1), (1, 1000000)]) (asC := [(1, x3), (1, 1), (1, 1000000)]) (LN := [(0, (4, 0)), (1, (0, x1)), (2, (0, x2)), (3, (0, x3))]) (stN := [(4, 0)]) (hsC := []) (v := (0, 0)) (st2 := [(0, 0), (4, 0)]) (jT_in_hi (d := 0) (v := x3) (lo := 1) (hi := 1000000) (by omega) (by omega) (by omega) (by omega) (by omega)) (by rfl) (by rfl) (by decide +kernel) (by rfl) (by rfl) (by omega) (by omega) (by omega) (by omega) rfl ?_
  refine jT_xifT (pcN := 40) jIH_187_33 rfl (by decide +kernel) rfl ?_
  refine jT_xiconst (k := 0) (pcN := 41) jIH_187_40 rfl ?_
  refine jT_xiconst (k := 2) (pcN := 42) jIH_187_41 rfl ?_
  refine jT_fB [0, 1, 2, 3, 4, 5, 6, 7, 8, 9, 10, 11, 12, 13, 14, 15] 16 (y := 191) (pcN := 45) (dC := 0) (bc1 := 0) (bc2 := 0) (c1 := 0) (c2 := 0) (as := [(4, 0), (0, 0), (0, 2)]) (asC := [(4, 0), (0, 0), (0, 2)]) (LN := [(0, (4, 0)), (1, (0, x1)), (2, (0, x2)), (3, (0, x3))]) (stN := []) (hsC := jpH_21) (hsD := jpH_36) (v := (0, 1)) (st2 := [(0, 1)]) (hs2 := jpH_36) (jH_191_16 (d := 0)) (by rfl) (by rfl) (by decide +kernel) (by rfl) (by rfl) (by omega) (by omega) (by omega) (by omega) rfl (by decide +kernel) ?_
  refine jT_xifT (pcN := 62) jIH_187_45 rfl (by decide +kernel) rfl ?_
  refine jT_xiconst (k := 0) (pcN := 63) jIH_187_62 rfl ?_
  exact jT_ret rfl (by decide) (by show 16 ≤ 16; omega) (by omega) (by omega) ⟨rfl, rfl, rfl⟩
theorem jH_116_94 {xs : List Int} {d : Nat} {x2 : Int} (h_x2 : 1000001 ≤ x2 ∧ x2 ≤ 2147483647) : jT xs d 116 1 0 [(0, (4, 0)), (1, (0, x2)), (2, (0, 1)), (3, (0, 1000000))] [] [jgh] 1 6 (fun k v hsN => k = 1 ∧ v = (0, 1) ∧ hsN = [jgh] ++ []) := by
  refine jT_xiload_n (v := (0, x2)) (pcN := 1) jIH_116_0 rfl rfl rfl ?_
  refine jT_xiload_n (v := (0, 1)) (pcN := 2) jIH_116_1 rfl rfl rfl ?_
  refine jT_icF (a := x2) (b := 1) (t := 10) (by rfl) (by rfl) (by rfl) (jw_idd (by omega) (by omega)) (jw_idd (by omega) (by omega)) (by simp only [jcP] <;> omega) ?_
  refine jT_xiload_n (v := (0, x2)) (pcN := 6) jIH_116_5 rfl rfl rfl ?_
  refine jT_xiload_n (v := (0, 1000000)) (pcN := 7) jIH_116_6 rfl rfl rfl ?_
  refine jT_icF (a := x2) (b := 1000000) (t := 21) (by rfl) (by rfl) (by rfl) (jw_idd (by omega) (by omega)) (jw_idd (by omega) (by omega)) (by simp only [jcP] <;> omega) ?_
  exact jT_ret (c1 := 1) (s1 := 6) rfl (by decide) (by show 1 ≤ 1; omega) (by omega) (by omega) ⟨rfl, rfl, rfl⟩
theorem jH_114_95 {xs : List Int} {d : Nat} {x1 x2 x3 : Int} (h_x1 : 0 ≤ x1 ∧ x1 ≤ 7) (h_x2 : 1000001 ≤ x2 ∧ x2 ≤ 2147483647) (h_x3 : (-2147483648) ≤ x3 ∧ x3 ≤ 2147483647) : jT xs (d + 1) 114 12 0 [(0, (4, 0)), (1, (0, x1)), (2, (0, x2)), (3, (0, x3))] [] jpH_6 1 6 (fun k v hsN => k = 1 ∧ v = (0, 1) ∧ hsN = jpH_6 ++ []) := by
  refine jT_xaload_n (v := (4, 0)) (pcN := 1) jIH_114_0 rfl rfl rfl ?_
  refine jT_xiload_n (v := (0, x1)) (pcN := 2) jIH_114_1 rfl rfl rfl ?_
  refine jT_xbipush (k := 8) (pcN := 4) jIH_114_2 (by decide) rfl ?_
  refine jT_fR [0] 12 (y := 115) (pcN := 7) (dC := 0) (bc1 := 0) (bc2 := 0) (c1 := 1) (c2 := 6) (as := [(4, 0), (0, x1), (0, 8)]) (asC := [(4, 0), (0, x1), (0, 8)]) (LN := [(0, (4, 0)), (1, (0, x1)), (2, (0, x2)), (3, (0, x3))]) (stN := []) (hsC := [jgh]) (v := (9, 0)) (st2 := []) (jH_115_9 (d := 0) (by omega)) (by rfl) (by rfl) (by decide +kernel) (by rfl) (by rfl) (by omega) (by omega) (by omega) (by omega) rfl ?_
  refine jT_xaload_n (v := (4, 0)) (pcN := 8) jIH_114_7 rfl rfl rfl ?_
  refine jT_xiload_n (v := (0, x2)) (pcN := 9) jIH_114_8 rfl rfl rfl ?_
  refine jT_xiconst (k := 1) (pcN := 10) jIH_114_9 rfl ?_
  refine jT_adv 1 (pcN := 12) (LN := [(0, (4, 0)), (1, (0, x1)), (2, (0, x2)), (3, (0, x3))]) (stN := [(0, 1000000), (0, 1), (0, x2), (4, 0)]) (hsN := jpH_6) (c1 := 0) (s1 := 0) (c2 := 1) (s2 := 6) (by exact rfl) ?_ (by omega) (by omega)
  exact jT_fX [0] 12 (y := 116) (pcN := 15) (dC := 0) (bc1 := 1) (bc2 := 6) (as := [(4, 0), (0, x2), (0, 1), (0, 1000000)]) (asC := [(4, 0), (0, x2), (0, 1), (0, 1000000)]) (LN := [(0, (4, 0)), (1, (0, x1)), (2, (0, x2)), (3, (0, x3))]) (stN := []) (hsC := [jgh]) (e := 1) (jH_116_94 (d := 0) (by omega)) (by rfl) (by rfl) (by decide +kernel) (by rfl) (by rfl) (by omega) (by omega) (by omega) (by omega) ⟨rfl, ⟨rfl, rfl, rfl⟩⟩
theorem jH_326_96 {xs : List Int} {d : Nat} {x1 x2 x3 : Int} (h_x1 : 0 ≤ x1 ∧ x1 ≤ 7) (h_x2 : 1000001 ≤ x2 ∧ x2 ≤ 2147483647) (h_x3 : (-2147483648) ≤ x3 ∧ x3 ≤ 2147483647) : jT xs (d + 2) 326 13 0 [(0, (4, 0)), (1, (0, x1)), (2, (0, x2)), (3, (0, x3)), (4, (4, 1))] [] jpH_14 1 6 (fun k v hsN => k = 0 ∧ v = (0, 2) ∧ hsN = jpH_14 ++ []) := by
  refine jT_xaload (v := (4, 1)) (pcN := 2) jIH_326_0 rfl rfl rfl ?_
  refine jT_xiconst (k := 0) (pcN := 3) jIH_326_2 rfl ?_
  refine jT_xaload_n (v := (4, 0)) (pcN := 4) jIH_326_3 rfl rfl rfl ?_
  refine jT_xiload_n (v := (0, x1)) (pcN := 5) jIH_326_4 rfl rfl rfl ?_
  refine jT_xiload_n (v := (0, x2)) (pcN := 6) jIH_326_5 rfl rfl rfl ?_
  refine jT_xiload_n (v := (0, x3)) (pcN := 7) jIH_326_6 rfl rfl rfl ?_
  exact jT_fX [0, 2, 3, 4, 5, 6, 7, 8, 9, 10, 11, 12] 13 (y := 114) (pcN := 10) (dC := 1) (bc1 := 1) (bc2 := 6) (as := [(4, 0), (0, x1), (0, x2), (0, x3)]) (asC := [(4, 0), (0, x1), (0, x2), (0, x3)]) (LN := [(0, (4, 0)), (1, (0, x1)), (2, (0, x2)), (3, (0, x3)), (4, (4, 1))]) (stN := [(0, 0), (4, 1)]) (hsC := jpH_6) (e := 1) (jH_114_95 (d := 0) (by omega) (by omega) (by omega)) (by rfl) (by rfl) (by decide +kernel) (by rfl) (by rfl) (by omega) (by omega) (by omega) (by omega) (show _ from ⟨rfl, rfl, rfl⟩)
theorem jH_187_97 {xs : List Int} {d : Nat} {x1 x2 x3 : Int} (h_x1 : 0 ≤ x1 ∧ x1 ≤ 7) (h_x2 : 1000001 ≤ x2 ∧ x2 ≤ 2147483647) (h_x3 : (-2147483648) ≤ x3 ∧ x3 ≤ 2147483647) : jT xs (d + 2) 187 16 0 [(0, (4, 0)), (1, (0, x1)), (2, (0, x2)), (3, (0, x3))] [] jpH_21 0 0 (fun k v hsN => k = 0 ∧ v = (0, 0) ∧ hsN = jpH_36) := by
  refine jT_xaload_n (v := (4, 0)) (pcN := 1) jIH_187_0 rfl rfl rfl ?_
  refine jT_xiload_n (v := (0, x1)) (pcN := 2) jIH_187_1 rfl rfl rfl ?_
  refine jT_fR [] 16 (y := 188) (pcN := 5) (dC := 1) (bc1 := 0) (bc2 := 0) (c1 := 0) (c2 := 0) (as := [(0, x1)]) (asC := [(0, x1)]) (LN := [(0, (4, 0)), (1, (0, x1)), (2, (0, x2)), (3, (0, x3))]) (stN := [(4, 0)]) (hsC := []) (v := (0, 1)) (st2 := [(0, 1), (4, 0)]) (jH_188_13 (d := 0) (by omega)) (by rfl) (by rfl) (by decide +kernel) (by rfl) (by rfl) (by omega) (by omega) (by omega) (by omega) rfl ?_
  refine jT_fR [0, 1, 2, 3, 4, 5, 6, 7, 8, 9, 10, 11, 12, 13, 14, 15] 16 (y := 190) (pcN := 8) (dC := 1) (bc1 := 0) (bc2 := 0) (c1 := 0) (c2 := 0) (as := [(4, 0), (0, 1)]) (asC := [(4, 0), (0, 1)]) (LN := [(0, (4, 0)), (1, (0, x1)), (2, (0, x2)), (3, (0, x3))]) (stN := []) (hsC := jpH_21) (v := (0, 0)) (st2 := [(0, 0)]) (jH_190_15 (d := 0)) (by rfl) (by rfl) (by decide +kernel) (by rfl) (by rfl) (by omega) (by omega) (by omega) (by omega) rfl ?_
  refine jT_xifF (t := 62) (pcN := 11) jIH_187_8 rfl (by decide +kernel) rfl rfl ?_
  refine jT_xaload_n (v := (4, 0)) (pcN := 12) jIH_187_11 rfl rfl rfl ?_
  refine jT_xiload_n (v := (0, x2)) (pcN := 13) jIH_187_12 rfl rfl rfl ?_
  refine jT_xi2l (x := x2) (z := x2) (pcN := 14) jIH_187_13 rfl (jw_idd (by omega) (by omega)) rfl ?_
  refine jT_xlconst (z := 1) (pcN := 15) jIH_187_14 rfl rfl ?_
  refine jT_adv 1 (pcN := 18) (LN := [(0, (4, 0)), (1, (0, x1)), (2, (0, x2)), (3, (0, x3))]) (stN := [(1, 1000000), (1, 1), (1, x2), (4, 0)]) (hsN := jpH_21) (c1 := 0) (s1 := 0) (c2 := 0) (s2 := 0) (by exact rfl) ?_ (by omega) (by omega)
  refine jT_fR [] 16 (y := 189) (pcN := 21) (dC := 0) (bc1 := 0) (bc2 := 0) (c1 := 0) (c2 := 0) (as := [(1, x2), (1, 1), (1, 1000000)]) (asC := [(1, x2), (1, 1), (1, 1000000)]) (LN := [(0, (4, 0)), (1, (0, x1)), (2, (0, x2)), (3, (0, x3))]) (stN := [(4, 0)]) (hsC := []) (v := (0, 0)) (st2 := [(0, 0), (4, 0)]) (jT_in_hi (d := 0) (v := x2) (lo := 1) (hi := 1000000) (by omega) (by omega) (by omega) (by omega) (by omega)) (by rfl) (by rfl) (by decide +kernel) (by rfl) (by rfl) (by omega) (by omega) (by omega) (by omega) rfl ?_
  refine jT_xifT (pcN := 40) jIH_187_21 rfl (by decide +kernel) rfl ?_
  refine jT_xiconst (k := 0) (pcN := 41) jIH_187_40 rfl ?_
  refine jT_xiconst (k := 2) (pcN := 42) jIH_187_41 rfl ?_
  refine jT_fB [0, 1, 2, 3, 4, 5, 6, 7, 8, 9, 10, 11, 12, 13, 14, 15] 16 (y := 191) (pcN := 45) (dC := 0) (bc1 := 0) (bc2 := 0) (c1 := 0) (c2 := 0) (as := [(4, 0), (0, 0), (0, 2)]) (asC := [(4, 0), (0, 0), (0, 2)]) (LN := [(0, (4, 0)), (1, (0, x1)), (2, (0, x2)), (3, (0, x3))]) (stN := []) (hsC := jpH_21) (hsD := jpH_36) (v := (0, 1)) (st2 := [(0, 1)]) (hs2 := jpH_36) (jH_191_16 (d := 0)) (by rfl) (by rfl) (by decide +kernel) (by rfl) (by rfl) (by omega) (by omega) (by omega) (by omega) rfl (by decide +kernel) ?_
  refine jT_xifT (pcN := 62) jIH_187_45 rfl (by decide +kernel) rfl ?_
  refine jT_xiconst (k := 0) (pcN := 63) jIH_187_62 rfl ?_
  exact jT_ret rfl (by decide) (by show 16 ≤ 16; omega) (by omega) (by omega) ⟨rfl, rfl, rfl⟩
theorem jH_115_98 {xs : List Int} {d : Nat} {x1 : Int} (h_x1 : 8 ≤ x1 ∧ x1 ≤ 2147483647) : jT xs d 115 1 0 [(0, (4, 0)), (1, (0, x1)), (2, (0, 8))] [] [jgh] 1 6 (fun k v hsN => k = 1 ∧ v = (0, 0) ∧ hsN = [jgh] ++ []) := by
  refine jT_xiload_n (v := (0, x1)) (pcN := 1) jIH_115_0 rfl rfl rfl ?_
  refine jT_ifF (a := x1) (t := 9) (by rfl) (by rfl) (by rfl) (jw_idd (by omega) (by omega)) (by simp only [jcP] <;> omega) ?_
  refine jT_xiload_n (v := (0, x1)) (pcN := 5) jIH_115_4 rfl rfl rfl ?_
  refine jT_xiload_n (v := (0, 8)) (pcN := 6) jIH_115_5 rfl rfl rfl ?_
  refine jT_icF (a := x1) (b := 8) (t := 20) (by rfl) (by rfl) (by rfl) (jw_idd (by omega) (by omega)) (jw_idd (by omega) (by omega)) (by simp only [jcP] <;> omega) ?_
  exact jT_ret (c1 := 1) (s1 := 6) rfl (by decide) (by show 1 ≤ 1; omega) (by omega) (by omega) ⟨rfl, rfl, rfl⟩
theorem jH_114_99 {xs : List Int} {d : Nat} {x1 x2 x3 : Int} (h_x1 : 8 ≤ x1 ∧ x1 ≤ 2147483647) (h_x2 : (-2147483648) ≤ x2 ∧ x2 ≤ 2147483647) (h_x3 : (-2147483648) ≤ x3 ∧ x3 ≤ 2147483647) : jT xs (d + 1) 114 12 0 [(0, (4, 0)), (1, (0, x1)), (2, (0, x2)), (3, (0, x3))] [] jpH_6 1 6 (fun k v hsN => k = 1 ∧ v = (0, 0) ∧ hsN = jpH_6 ++ []) := by
  refine jT_xaload_n (v := (4, 0)) (pcN := 1) jIH_114_0 rfl rfl rfl ?_
  refine jT_xiload_n (v := (0, x1)) (pcN := 2) jIH_114_1 rfl rfl rfl ?_
  refine jT_xbipush (k := 8) (pcN := 4) jIH_114_2 (by decide) rfl ?_
  exact jT_fX [0] 12 (y := 115) (pcN := 7) (dC := 0) (bc1 := 1) (bc2 := 6) (as := [(4, 0), (0, x1), (0, 8)]) (asC := [(4, 0), (0, x1), (0, 8)]) (LN := [(0, (4, 0)), (1, (0, x1)), (2, (0, x2)), (3, (0, x3))]) (stN := []) (hsC := [jgh]) (e := 0) (jH_115_98 (d := 0) (by omega)) (by rfl) (by rfl) (by decide +kernel) (by rfl) (by rfl) (by omega) (by omega) (by omega) (by omega) ⟨rfl, ⟨rfl, rfl, rfl⟩⟩
theorem jH_326_100 {xs : List Int} {d : Nat} {x1 x2 x3 : Int} (h_x1 : 8 ≤ x1 ∧ x1 ≤ 2147483647) (h_x2 : (-2147483648) ≤ x2 ∧ x2 ≤ 2147483647) (h_x3 : (-2147483648) ≤ x3 ∧ x3 ≤ 2147483647) : jT xs (d + 2) 326 13 0 [(0, (4, 0)), (1, (0, x1)), (2, (0, x2)), (3, (0, x3)), (4, (4, 1))] [] jpH_14 1 6 (fun k v hsN => k = 0 ∧ v = (0, 1) ∧ hsN = jpH_14 ++ []) := by
  refine jT_xaload (v := (4, 1)) (pcN := 2) jIH_326_0 rfl rfl rfl ?_
  refine jT_xiconst (k := 0) (pcN := 3) jIH_326_2 rfl ?_
  refine jT_xaload_n (v := (4, 0)) (pcN := 4) jIH_326_3 rfl rfl rfl ?_
  refine jT_xiload_n (v := (0, x1)) (pcN := 5) jIH_326_4 rfl rfl rfl ?_
  refine jT_xiload_n (v := (0, x2)) (pcN := 6) jIH_326_5 rfl rfl rfl ?_
  refine jT_xiload_n (v := (0, x3)) (pcN := 7) jIH_326_6 rfl rfl rfl ?_
  exact jT_fX [0, 2, 3, 4, 5, 6, 7, 8, 9, 10, 11, 12] 13 (y := 114) (pcN := 10) (dC := 1) (bc1 := 1) (bc2 := 6) (as := [(4, 0), (0, x1), (0, x2), (0, x3)]) (asC := [(4, 0), (0, x1), (0, x2), (0, x3)]) (LN := [(0, (4, 0)), (1, (0, x1)), (2, (0, x2)), (3, (0, x3)), (4, (4, 1))]) (stN := [(0, 0), (4, 1)]) (hsC := jpH_6) (e := 0) (jH_114_99 (d := 0) (by omega) (by omega) (by omega)) (by rfl) (by rfl) (by decide +kernel) (by rfl) (by rfl) (by omega) (by omega) (by omega) (by omega) (show _ from ⟨rfl, rfl, rfl⟩)
theorem jH_188_101 {xs : List Int} {d : Nat} {x1 : Int} (h_x1 : 8 ≤ x1 ∧ x1 ≤ 2147483647) : jT xs (d + 1) 188 0 0 [(0, (0, x1))] [] [] 0 0 (fun k v hsN => k = 0 ∧ v = (0, 0) ∧ hsN = [] ++ []) := by
  refine jT_xiload_n (v := (0, x1)) (pcN := 1) jIH_188_0 rfl rfl rfl ?_
  refine jT_xi2l (x := x1) (z := x1) (pcN := 2) jIH_188_1 rfl (jw_idd (by omega) (by omega)) rfl ?_
  refine jT_xlconst (z := 0) (pcN := 3) jIH_188_2 rfl rfl ?_
  refine jT_adv 1 (pcN := 6) (LN := [(0, (0, x1))]) (stN := [(1, 7), (1, 0), (1, x1)]) (hsN := []) (c1 := 0) (s1 := 0) (c2 := 0) (s2 := 0) (by exact rfl) ?_ (by omega) (by omega)
  refine jT_fR [] 0 (y := 189) (pcN := 9) (dC := 0) (bc1 := 0) (bc2 := 0) (c1 := 0) (c2 := 0) (as := [(1, x1), (1, 0), (1, 7)]) (asC := [(1, x1), (1, 0), (1, 7)]) (LN := [(0, (0, x1))]) (stN := []) (hsC := []) (v := (0, 0)) (st2 := [(0, 0)]) (jT_in_hi (d := 0) (v := x1) (lo := 0) (hi := 7) (by omega) (by omega) (by omega) (by omega) (by omega)) (by rfl) (by rfl) (by decide +kernel) (by rfl) (by rfl) (by omega) (by omega) (by omega) (by omega) rfl ?_
  exact jT_ret rfl (by decide) (by show 0 ≤ 0; omega) (by omega) (by omega) ⟨rfl, rfl, rfl⟩
theorem jH_187_102 {xs : List Int} {d : Nat} {x1 x2 x3 : Int} (h_x1 : 8 ≤ x1 ∧ x1 ≤ 2147483647) (h_x2 : (-2147483648) ≤ x2 ∧ x2 ≤ 2147483647) (h_x3 : (-2147483648) ≤ x3 ∧ x3 ≤ 2147483647) : jT xs (d + 2) 187 16 0 [(0, (4, 0)), (1, (0, x1)), (2, (0, x2)), (3, (0, x3))] [] jpH_21 0 0 (fun k v hsN => k = 0 ∧ v = (0, 0) ∧ hsN = jpH_19) := by
  refine jT_xaload_n (v := (4, 0)) (pcN := 1) jIH_187_0 rfl rfl rfl ?_
  refine jT_xiload_n (v := (0, x1)) (pcN := 2) jIH_187_1 rfl rfl rfl ?_
  refine jT_fR [] 16 (y := 188) (pcN := 5) (dC := 1) (bc1 := 0) (bc2 := 0) (c1 := 0) (c2 := 0) (as := [(0, x1)]) (asC := [(0, x1)]) (LN := [(0, (4, 0)), (1, (0, x1)), (2, (0, x2)), (3, (0, x3))]) (stN := [(4, 0)]) (hsC := []) (v := (0, 0)) (st2 := [(0, 0), (4, 0)]) (jH_188_101 (d := 0) (by omega)) (by rfl) (by rfl) (by decide +kernel) (by rfl) (by rfl) (by omega) (by omega) (by omega) (by omega) rfl ?_
  refine jT_fB [0, 1, 2, 3, 4, 5, 6, 7, 8, 9, 10, 11, 12, 13, 14, 15] 16 (y := 190) (pcN := 8) (dC := 1) (bc1 := 0) (bc2 := 0) (c1 := 0) (c2 := 0) (as := [(4, 0), (0, 0)]) (asC := [(4, 0), (0, 0)]) (LN := [(0, (4, 0)), (1, (0, x1)), (2, (0, x2)), (3, (0, x3))]) (stN := []) (hsC := jpH_21) (hsD := jpH_19) (v := (0, 1)) (st2 := [(0, 1)]) (hs2 := jpH_19) (jH_190_6 (d := 0)) (by rfl) (by rfl) (by decide +kernel) (by rfl) (by rfl) (by omega) (by omega) (by omega) (by omega) rfl (by decide +kernel) ?_
  refine jT_xifT (pcN := 62) jIH_187_8 rfl (by decide +kernel) rfl ?_
  refine jT_xiconst (k := 0) (pcN := 63) jIH_187_62 rfl ?_
  exact jT_ret rfl (by decide) (by show 16 ≤ 16; omega) (by omega) (by omega) ⟨rfl, rfl, rfl⟩
theorem jIH_379_276 : jmI (jm 379) 276 = (.aload_n 1, 1) := by rfl
theorem jIH_379_277 : jmI (jm 379) 277 = (.aload_n 0, 1) := by rfl
theorem jIH_379_278 : jmI (jm 379) 278 = (.iload 5, 2) := by rfl
theorem jIH_379_280 : jmI (jm 379) 280 = (.iconst 1, 1) := by rfl
theorem jIH_379_281 : jmI (jm 379) 281 = (.iadd, 1) := by rfl
def jzH_372 : JC := (13, [(4, 4), (4, 5), (4, 6), (4, 7), (4, 8), (4, 9), (4, 10), (4, 11), (4, 12), (4, 13), (0, 0), (4, 14), (0, 0)], [])
def jzH_373 : JC := (14, [(0, 0), (4, 15), (4, 16), (4, 17), (4, 18), (0, 0), (4, 19), (0, 0), (4, 20), (4, 21), (1, 1), (4, 22), (0, 0), (4, 23), (0, 0), (0, 0), (0, 0), (0, 0), (0, 0), (0, 0), (0, 0), (4, 24), (4, 25), (4, 26), (4, 27), (4, 28), (4, 29), (0, 0)], [])
def jpH_374 : List JC := [jzH_372, jzH_373, jgh, jgh, jgh, jgh, jgh, jgh, jgh, jgh, jgh, jgh, jgh, jgh, jgh, jgh, jgh, jgh, jgh, jgh, jgh, jgh, jgh, jgh, jgh, jgh, jgh, jgh, jgh, jgh]
theorem jIH_379_283 : jmI (jm 379) 283 = (.aload_n 0, 1) := by rfl
theorem jIH_379_284 : jmI (jm 379) 284 = (.iload 5, 2) := by rfl
theorem jIH_379_286 : jmI (jm 379) 286 = (.iconst 2, 1) := by rfl
theorem jIH_379_287 : jmI (jm 379) 287 = (.iadd, 1) := by rfl
theorem jIH_379_289 : jmI (jm 379) 289 = (.aload_n 0, 1) := by rfl
theorem jIH_379_290 : jmI (jm 379) 290 = (.iload 5, 2) := by rfl
theorem jIH_379_292 : jmI (jm 379) 292 = (.iconst 3, 1) := by rfl
theorem jIH_379_293 : jmI (jm 379) 293 = (.iadd, 1) := by rfl
theorem jIH_379_295 : jmI (jm 379) 295 = (.aload_n 3, 1) := by rfl
theorem jIH_379_299 : jmI (jm 379) 299 = (.istore 6, 2) := by rfl
theorem jIH_379_301 : jmI (jm 379) 301 = (.aload_n 2, 1) := by rfl
theorem jIH_379_302 : jmI (jm 379) 302 = (.aload_n 0, 1) := by rfl
theorem jIH_379_303 : jmI (jm 379) 303 = (.iload 5, 2) := by rfl
theorem jIH_379_305 : jmI (jm 379) 305 = (.iconst 1, 1) := by rfl
theorem jIH_379_306 : jmI (jm 379) 306 = (.iadd, 1) := by rfl
theorem jIH_379_308 : jmI (jm 379) 308 = (.aload_n 0, 1) := by rfl
theorem jIH_379_309 : jmI (jm 379) 309 = (.iload 5, 2) := by rfl
theorem jIH_379_311 : jmI (jm 379) 311 = (.iconst 2, 1) := by rfl
theorem jIH_379_312 : jmI (jm 379) 312 = (.iadd, 1) := by rfl
theorem jIH_379_314 : jmI (jm 379) 314 = (.aload_n 0, 1) := by rfl
theorem jIH_379_315 : jmI (jm 379) 315 = (.iload 5, 2) := by rfl
theorem jIH_379_317 : jmI (jm 379) 317 = (.iconst 3, 1) := by rfl
theorem jIH_379_318 : jmI (jm 379) 318 = (.iadd, 1) := by rfl
def jzH_398 : JC := (14, [(0, 1), (4, 15), (4, 16), (4, 17), (4, 18), (0, 0), (4, 19), (0, 0), (4, 20), (4, 21), (1, 1), (4, 22), (0, 0), (4, 23), (0, 0), (0, 0), (0, 0), (0, 0), (0, 0), (0, 0), (0, 0), (4, 24), (4, 25), (4, 26), (4, 27), (4, 28), (4, 29), (0, 0)], [])
def jpH_399 : List JC := [jzH_372, jzH_398, jgh, jgh, jgh, jgh, jgh, jgh, jgh, jgh, jgh, jgh, jgh, jgh, jgh, jgh, jgh, jgh, jgh, jgh, jgh, jgh, jgh, jgh, jgh, jgh, jgh, jgh, jgh, jgh]
theorem jIH_379_323 : jmI (jm 379) 323 = (.istore 7, 2) := by rfl
theorem jIH_379_325 : jmI (jm 379) 325 = (.aload_n 2, 1) := by rfl
theorem jIH_379_329 : jmI (jm 379) 329 = (.iload 6, 2) := by rfl
theorem jIH_379_331 : jmI (jm 379) 331 = (.if_icmp .eq 5, 3) := by rfl
theorem jIH_379_336 : jmI (jm 379) 336 = (.iload 6, 2) := by rfl
theorem jIH_379_338 : jmI (jm 379) 338 = (.ifCond .ne 22, 3) := by rfl
theorem jIH_379_360 : jmI (jm 379) 360 = (.goto 3380, 3) := by rfl
theorem jIH_379_3740 : jmI (jm 379) 3740 = (.iinc 5 5, 3) := by rfl
theorem jIH_379_3743 : jmI (jm 379) 3743 = (.goto (-3715), 3) := by rfl
theorem jIH_379_28 : jmI (jm 379) 28 = (.iload 5, 2) := by rfl
theorem jIH_379_30 : jmI (jm 379) 30 = (.aload_n 0, 1) := by rfl
theorem jIH_379_32 : jmI (jm 379) 32 = (.iconst 5, 1) := by rfl
theorem jIH_379_33 : jmI (jm 379) 33 = (.isub, 1) := by rfl
theorem jIH_379_34 : jmI (jm 379) 34 = (.if_icmp .gt 3712, 3) := by rfl
theorem jIH_379_3746 : jmI (jm 379) 3746 = (.iconst 1, 1) := by rfl
set_option maxRecDepth 100000 in
theorem jL_0_0 {d : Nat} {x0 x1 x2 x3 x4 : Int} (h_x0 : (-2147483648) ≤ x0 ∧ x0 ≤ 2147483647) (h_x1 : (-2147483648) ≤ x1 ∧ x1 ≤ (-1)) (h_x2 : (-2147483648) ≤ x2 ∧ x2 ≤ 2147483647) (h_x3 : (-2147483648) ≤ x3 ∧ x3 ≤ 2147483647) (h_x4 : (-2147483648) ≤ x4 ∧ x4 ≤ 2147483647) : jT [x0, x1, x2, x3, x4] (d + 3) 379 30 276 [(5, (0, 0)), (4, (4, 3)), (3, (4, 2)), (2, (4, 1)), (1, (4, 0)), (0, (6, 0))] [] jpH_374 1 6 (fun k v hsN => k = 0 ∧ v = (0, 1)) := by
  refine jT_xaload_n (v := (4, 0)) (pcN := 277) jIH_379_276 rfl rfl rfl ?_
  refine jT_xaload_n (v := (6, 0)) (pcN := 278) jIH_379_277 rfl rfl rfl ?_
  refine jT_xiload (v := (0, 0)) (pcN := 280) jIH_379_278 rfl rfl rfl ?_
  refine jT_xiconst (k := 1) (pcN := 281) jIH_379_280 rfl ?_
  refine jT_xiadd (x := 0) (y := 1) (z := 1) (pcN := 282) jIH_379_281 rfl (by decide) rfl ?_
  refine jT_adv 1 (pcN := 283) (LN := [(5, (0, 0)), (4, (4, 3)), (3, (4, 2)), (2, (4, 1)), (1, (4, 0)), (0, (6, 0))]) (stN := [(0, x1), (4, 0)]) (hsN := jpH_374) (c1 := 0) (s1 := 0) (c2 := 1) (s2 := 6) (by exact rfl) ?_ (by omega) (by omega)
  refine jT_xaload_n (v := (6, 0)) (pcN := 284) jIH_379_283 rfl rfl rfl ?_
  refine jT_xiload (v := (0, 0)) (pcN := 286) jIH_379_284 rfl rfl rfl ?_
  refine jT_xiconst (k := 2) (pcN := 287) jIH_379_286 rfl ?_
  refine jT_xiadd (x := 0) (y := 2) (z := 2) (pcN := 288) jIH_379_287 rfl (by decide) rfl ?_
  refine jT_adv 1 (pcN := 289) (LN := [(5, (0, 0)), (4, (4, 3)), (3, (4, 2)), (2, (4, 1)), (1, (4, 0)), (0, (6, 0))]) (stN := [(0, x2), (0, x1), (4, 0)]) (hsN := jpH_374) (c1 := 0) (s1 := 0) (c2 := 1) (s2 := 6) (by exact rfl) ?_ (by omega) (by omega)
  refine jT_xaload_n (v := (6, 0)) (pcN := 290) jIH_379_289 rfl rfl rfl ?_
  refine jT_xiload (v := (0, 0)) (pcN := 292) jIH_379_290 rfl rfl rfl ?_
  refine jT_xiconst (k := 3) (pcN := 293) jIH_379_292 rfl ?_
  refine jT_xiadd (x := 0) (y := 3) (z := 3) (pcN := 294) jIH_379_293 rfl (by decide) rfl ?_
  refine jT_adv 1 (pcN := 295) (LN := [(5, (0, 0)), (4, (4, 3)), (3, (4, 2)), (2, (4, 1)), (1, (4, 0)), (0, (6, 0))]) (stN := [(0, x3), (0, x2), (0, x1), (4, 0)]) (hsN := jpH_374) (c1 := 0) (s1 := 0) (c2 := 1) (s2 := 6) (by exact rfl) ?_ (by omega) (by omega)
  refine jT_xaload_n (v := (4, 2)) (pcN := 296) jIH_379_295 rfl rfl rfl ?_
  refine jT_fR [0, 2, 4, 5, 6, 7, 8, 9, 10, 11, 12, 13, 14] 30 (y := 326) (pcN := 299) (dC := 2) (bc1 := 1) (bc2 := 6) (c1 := 0) (c2 := 0) (as := [(4, 0), (0, x1), (0, x2), (0, x3), (4, 2)]) (asC := [(4, 0), (0, x1), (0, x2), (0, x3), (4, 1)]) (LN := [(5, (0, 0)), (4, (4, 3)), (3, (4, 2)), (2, (4, 1)), (1, (4, 0)), (0, (6, 0))]) (stN := []) (hsC := jpH_14) (v := (0, 1)) (st2 := [(0, 1)]) (jH_326_3 (d := 0) (by omega) (by omega) (by omega)) (by rfl) (by rfl) (by decide +kernel) (by rfl) (by rfl) (by omega) (by omega) (by omega) (by omega) rfl ?_
  refine jT_xistore (v := (0, 1)) (LN := [(6, (0, 1)), (5, (0, 0)), (4, (4, 3)), (3, (4, 2)), (2, (4, 1)), (1, (4, 0)), (0, (6, 0))]) (pcN := 301) jIH_379_299 rfl rfl rfl rfl ?_
  refine jT_xaload_n (v := (4, 1)) (pcN := 302) jIH_379_301 rfl rfl rfl ?_
  refine jT_xaload_n (v := (6, 0)) (pcN := 303) jIH_379_302 rfl rfl rfl ?_
  refine jT_xiload (v := (0, 0)) (pcN := 305) jIH_379_303 rfl rfl rfl ?_
  refine jT_xiconst (k := 1) (pcN := 306) jIH_379_305 rfl ?_
  refine jT_xiadd (x := 0) (y := 1) (z := 1) (pcN := 307) jIH_379_306 rfl (by decide) rfl ?_
  refine jT_adv 1 (pcN := 308) (LN := [(6, (0, 1)), (5, (0, 0)), (4, (4, 3)), (3, (4, 2)), (2, (4, 1)), (1, (4, 0)), (0, (6, 0))]) (stN := [(0, x1), (4, 1)]) (hsN := jpH_374) (c1 := 0) (s1 := 0) (c2 := 0) (s2 := 0) (by exact rfl) ?_ (by omega) (by omega)
  refine jT_xaload_n (v := (6, 0)) (pcN := 309) jIH_379_308 rfl rfl rfl ?_
  refine jT_xiload (v := (0, 0)) (pcN := 311) jIH_379_309 rfl rfl rfl ?_
  refine jT_xiconst (k := 2) (pcN := 312) jIH_379_311 rfl ?_
  refine jT_xiadd (x := 0) (y := 2) (z := 2) (pcN := 313) jIH_379_312 rfl (by decide) rfl ?_
  refine jT_adv 1 (pcN := 314) (LN := [(6, (0, 1)), (5, (0, 0)), (4, (4, 3)), (3, (4, 2)), (2, (4, 1)), (1, (4, 0)), (0, (6, 0))]) (stN := [(0, x2), (0, x1), (4, 1)]) (hsN := jpH_374) (c1 := 0) (s1 := 0) (c2 := 0) (s2 := 0) (by exact rfl) ?_ (by omega) (by omega)
  refine jT_xaload_n (v := (6, 0)) (pcN := 315) jIH_379_314 rfl rfl rfl ?_
  refine jT_xiload (v := (0, 0)) (pcN := 317) jIH_379_315 rfl rfl rfl ?_
  refine jT_xiconst (k := 3) (pcN := 318) jIH_379_317 rfl ?_
  refine jT_xiadd (x := 0) (y := 3) (z := 3) (pcN := 319) jIH_379_318 rfl (by decide) rfl ?_
  refine jT_adv 1 (pcN := 320) (LN := [(6, (0, 1)), (5, (0, 0)), (4, (4, 3)), (3, (4, 2)), (2, (4, 1)), (1, (4, 0)), (0, (6, 0))]) (stN := [(0, x3), (0, x2), (0, x1), (4, 1)]) (hsN := jpH_374) (c1 := 0) (s1 := 0) (c2 := 0) (s2 := 0) (by exact rfl) ?_ (by omega) (by omega)
  refine jT_fB [1, 15, 16, 17, 18, 19, 20, 21, 22, 23, 24, 25, 26, 27, 28, 29] 30 (y := 187) (pcN := 323) (dC := 2) (bc1 := 0) (bc2 := 0) (c1 := 0) (c2 := 0) (as := [(4, 1), (0, x1), (0, x2), (0, x3)]) (asC := [(4, 0), (0, x1), (0, x2), (0, x3)]) (LN := [(6, (0, 1)), (5, (0, 0)), (4, (4, 3)), (3, (4, 2)), (2, (4, 1)), (1, (4, 0)), (0, (6, 0))]) (stN := []) (hsC := jpH_21) (hsD := jpH_19) (v := (0, 0)) (st2 := [(0, 0)]) (hs2 := jpH_399) (jH_187_7 (d := 0) (by omega) (by omega) (by omega)) (by rfl) (by rfl) (by decide +kernel) (by rfl) (by rfl) (by omega) (by omega) (by omega) (by omega) rfl (by decide +kernel) ?_
  refine jT_xistore (v := (0, 0)) (LN := [(7, (0, 0)), (6, (0, 1)), (5, (0, 0)), (4, (4, 3)), (3, (4, 2)), (2, (4, 1)), (1, (4, 0)), (0, (6, 0))]) (pcN := 325) jIH_379_323 rfl rfl rfl rfl ?_
  refine jT_xaload_n (v := (4, 1)) (pcN := 326) jIH_379_325 rfl rfl rfl ?_
  refine jT_fR [1, 15, 16, 17, 18, 19, 20, 21, 22, 23, 24, 25, 26, 27, 28, 29] 30 (y := 186) (pcN := 329) (dC := 0) (bc1 := 0) (bc2 := 0) (c1 := 0) (c2 := 0) (as := [(4, 1)]) (asC := [(4, 0)]) (LN := [(7, (0, 0)), (6, (0, 1)), (5, (0, 0)), (4, (4, 3)), (3, (4, 2)), (2, (4, 1)), (1, (4, 0)), (0, (6, 0))]) (stN := []) (hsC := jpH_19) (v := (0, 1)) (st2 := [(0, 1)]) (jH_186_8 (d := 0)) (by rfl) (by rfl) (by decide +kernel) (by rfl) (by rfl) (by omega) (by omega) (by omega) (by omega) rfl ?_
  refine jT_xiload (v := (0, 1)) (pcN := 331) jIH_379_329 rfl rfl rfl ?_
  refine jT_xicT (pcN := 336) jIH_379_331 rfl (by decide +kernel) rfl ?_
  refine jT_xiload (v := (0, 1)) (pcN := 338) jIH_379_336 rfl rfl rfl ?_
  refine jT_xifT (pcN := 360) jIH_379_338 rfl (by decide +kernel) rfl ?_
  refine jT_xgoto (pcN := 3740) jIH_379_360 rfl ?_
  refine jT_xiinc (x := 0) (z := 5) (LN := [(5, (0, 5)), (7, (0, 0)), (6, (0, 1)), (4, (4, 3)), (3, (4, 2)), (2, (4, 1)), (1, (4, 0)), (0, (6, 0))]) (pcN := 3743) jIH_379_3740 rfl rfl (by decide) rfl rfl ?_
  refine jT_xgoto (pcN := 28) jIH_379_3743 rfl ?_
  refine jT_xiload (v := (0, 5)) (pcN := 30) jIH_379_28 rfl rfl rfl ?_
  refine jT_xaload_n (v := (6, 0)) (pcN := 31) jIH_379_30 rfl rfl rfl ?_
  refine jT_adv 1 (pcN := 32) (LN := [(5, (0, 5)), (7, (0, 0)), (6, (0, 1)), (4, (4, 3)), (3, (4, 2)), (2, (4, 1)), (1, (4, 0)), (0, (6, 0))]) (stN := [(0, 5), (0, 5)]) (hsN := jpH_399) (c1 := 0) (s1 := 0) (c2 := 0) (s2 := 0) (by exact rfl) ?_ (by omega) (by omega)
  refine jT_xiconst (k := 5) (pcN := 33) jIH_379_32 rfl ?_
  refine jT_xisub (x := 5) (y := 5) (z := 0) (pcN := 34) jIH_379_33 rfl (by decide) rfl ?_
  refine jT_xicT (pcN := 3746) jIH_379_34 rfl (by decide +kernel) rfl ?_
  refine jT_xiconst (k := 1) (pcN := 3747) jIH_379_3746 rfl ?_
  exact jT_ret rfl (by decide) (by show 30 ≤ 30; decide) (by omega) (by omega) ⟨rfl, rfl⟩
def jzH_415 : JC := (14, [(0, 2), (4, 15), (4, 16), (4, 17), (4, 18), (0, 0), (4, 19), (0, 0), (4, 20), (4, 21), (1, 1), (4, 22), (0, 0), (4, 23), (0, 0), (0, 0), (0, 0), (0, 0), (0, 0), (0, 0), (0, 0), (4, 24), (4, 25), (4, 26), (4, 27), (4, 28), (4, 29), (0, 0)], [])
def jpH_416 : List JC := [jzH_372, jzH_415, jgh, jgh, jgh, jgh, jgh, jgh, jgh, jgh, jgh, jgh, jgh, jgh, jgh, jgh, jgh, jgh, jgh, jgh, jgh, jgh, jgh, jgh, jgh, jgh, jgh, jgh, jgh, jgh]
set_option maxRecDepth 100000 in
theorem jL_0_1 {d : Nat} {x0 x1 x2 x3 x4 : Int} (h_x0 : (-2147483648) ≤ x0 ∧ x0 ≤ 2147483647) (h_x1 : 0 ≤ x1 ∧ x1 ≤ 7) (h_x2 : (-2147483648) ≤ x2 ∧ x2 ≤ 0) (h_x3 : (-2147483648) ≤ x3 ∧ x3 ≤ 2147483647) (h_x4 : (-2147483648) ≤ x4 ∧ x4 ≤ 2147483647) : jT [x0, x1, x2, x3, x4] (d + 3) 379 30 276 [(5, (0, 0)), (4, (4, 3)), (3, (4, 2)), (2, (4, 1)), (1, (4, 0)), (0, (6, 0))] [] jpH_374 1 6 (fun k v hsN => k = 0 ∧ v = (0, 1)) := by
  refine jT_xaload_n (v := (4, 0)) (pcN := 277) jIH_379_276 rfl rfl rfl ?_
  refine jT_xaload_n (v := (6, 0)) (pcN := 278) jIH_379_277 rfl rfl rfl ?_
  refine jT_xiload (v := (0, 0)) (pcN := 280) jIH_379_278 rfl rfl rfl ?_
  refine jT_xiconst (k := 1) (pcN := 281) jIH_379_280 rfl ?_
  refine jT_xiadd (x := 0) (y := 1) (z := 1) (pcN := 282) jIH_379_281 rfl (by decide) rfl ?_
  refine jT_adv 1 (pcN := 283) (LN := [(5, (0, 0)), (4, (4, 3)), (3, (4, 2)), (2, (4, 1)), (1, (4, 0)), (0, (6, 0))]) (stN := [(0, x1), (4, 0)]) (hsN := jpH_374) (c1 := 0) (s1 := 0) (c2 := 1) (s2 := 6) (by exact rfl) ?_ (by omega) (by omega)
  refine jT_xaload_n (v := (6, 0)) (pcN := 284) jIH_379_283 rfl rfl rfl ?_
  refine jT_xiload (v := (0, 0)) (pcN := 286) jIH_379_284 rfl rfl rfl ?_
  refine jT_xiconst (k := 2) (pcN := 287) jIH_379_286 rfl ?_
  refine jT_xiadd (x := 0) (y := 2) (z := 2) (pcN := 288) jIH_379_287 rfl (by decide) rfl ?_
  refine jT_adv 1 (pcN := 289) (LN := [(5, (0, 0)), (4, (4, 3)), (3, (4, 2)), (2, (4, 1)), (1, (4, 0)), (0, (6, 0))]) (stN := [(0, x2), (0, x1), (4, 0)]) (hsN := jpH_374) (c1 := 0) (s1 := 0) (c2 := 1) (s2 := 6) (by exact rfl) ?_ (by omega) (by omega)
  refine jT_xaload_n (v := (6, 0)) (pcN := 290) jIH_379_289 rfl rfl rfl ?_
  refine jT_xiload (v := (0, 0)) (pcN := 292) jIH_379_290 rfl rfl rfl ?_
  refine jT_xiconst (k := 3) (pcN := 293) jIH_379_292 rfl ?_
  refine jT_xiadd (x := 0) (y := 3) (z := 3) (pcN := 294) jIH_379_293 rfl (by decide) rfl ?_
  refine jT_adv 1 (pcN := 295) (LN := [(5, (0, 0)), (4, (4, 3)), (3, (4, 2)), (2, (4, 1)), (1, (4, 0)), (0, (6, 0))]) (stN := [(0, x3), (0, x2), (0, x1), (4, 0)]) (hsN := jpH_374) (c1 := 0) (s1 := 0) (c2 := 1) (s2 := 6) (by exact rfl) ?_ (by omega) (by omega)
  refine jT_xaload_n (v := (4, 2)) (pcN := 296) jIH_379_295 rfl rfl rfl ?_
  refine jT_fR [0, 2, 4, 5, 6, 7, 8, 9, 10, 11, 12, 13, 14] 30 (y := 326) (pcN := 299) (dC := 2) (bc1 := 1) (bc2 := 6) (c1 := 0) (c2 := 0) (as := [(4, 0), (0, x1), (0, x2), (0, x3), (4, 2)]) (asC := [(4, 0), (0, x1), (0, x2), (0, x3), (4, 1)]) (LN := [(5, (0, 0)), (4, (4, 3)), (3, (4, 2)), (2, (4, 1)), (1, (4, 0)), (0, (6, 0))]) (stN := []) (hsC := jpH_14) (v := (0, 2)) (st2 := [(0, 2)]) (jH_326_12 (d := 0) (by omega) (by omega) (by omega)) (by rfl) (by rfl) (by decide +kernel) (by rfl) (by rfl) (by omega) (by omega) (by omega) (by omega) rfl ?_
  refine jT_xistore (v := (0, 2)) (LN := [(6, (0, 2)), (5, (0, 0)), (4, (4, 3)), (3, (4, 2)), (2, (4, 1)), (1, (4, 0)), (0, (6, 0))]) (pcN := 301) jIH_379_299 rfl rfl rfl rfl ?_
  refine jT_xaload_n (v := (4, 1)) (pcN := 302) jIH_379_301 rfl rfl rfl ?_
  refine jT_xaload_n (v := (6, 0)) (pcN := 303) jIH_379_302 rfl rfl rfl ?_
  refine jT_xiload (v := (0, 0)) (pcN := 305) jIH_379_303 rfl rfl rfl ?_
  refine jT_xiconst (k := 1) (pcN := 306) jIH_379_305 rfl ?_
  refine jT_xiadd (x := 0) (y := 1) (z := 1) (pcN := 307) jIH_379_306 rfl (by decide) rfl ?_
  refine jT_adv 1 (pcN := 308) (LN := [(6, (0, 2)), (5, (0, 0)), (4, (4, 3)), (3, (4, 2)), (2, (4, 1)), (1, (4, 0)), (0, (6, 0))]) (stN := [(0, x1), (4, 1)]) (hsN := jpH_374) (c1 := 0) (s1 := 0) (c2 := 0) (s2 := 0) (by exact rfl) ?_ (by omega) (by omega)
  refine jT_xaload_n (v := (6, 0)) (pcN := 309) jIH_379_308 rfl rfl rfl ?_
  refine jT_xiload (v := (0, 0)) (pcN := 311) jIH_379_309 rfl rfl rfl ?_
  refine jT_xiconst (k := 2) (pcN := 312) jIH_379_311 rfl ?_
  refine jT_xiadd (x := 0) (y := 2) (z := 2) (pcN := 313) jIH_379_312 rfl (by decide) rfl ?_
  refine jT_adv 1 (pcN := 314) (LN := [(6, (0, 2)), (5, (0, 0)), (4, (4, 3)), (3, (4, 2)), (2, (4, 1)), (1, (4, 0)), (0, (6, 0))]) (stN := [(0, x2), (0, x1), (4, 1)]) (hsN := jpH_374) (c1 := 0) (s1 := 0) (c2 := 0) (s2 := 0) (by exact rfl) ?_ (by omega) (by omega)
  refine jT_xaload_n (v := (6, 0)) (pcN := 315) jIH_379_314 rfl rfl rfl ?_
  refine jT_xiload (v := (0, 0)) (pcN := 317) jIH_379_315 rfl rfl rfl ?_
  refine jT_xiconst (k := 3) (pcN := 318) jIH_379_317 rfl ?_
  refine jT_xiadd (x := 0) (y := 3) (z := 3) (pcN := 319) jIH_379_318 rfl (by decide) rfl ?_
  refine jT_adv 1 (pcN := 320) (LN := [(6, (0, 2)), (5, (0, 0)), (4, (4, 3)), (3, (4, 2)), (2, (4, 1)), (1, (4, 0)), (0, (6, 0))]) (stN := [(0, x3), (0, x2), (0, x1), (4, 1)]) (hsN := jpH_374) (c1 := 0) (s1 := 0) (c2 := 0) (s2 := 0) (by exact rfl) ?_ (by omega) (by omega)
  refine jT_fB [1, 15, 16, 17, 18, 19, 20, 21, 22, 23, 24, 25, 26, 27, 28, 29] 30 (y := 187) (pcN := 323) (dC := 2) (bc1 := 0) (bc2 := 0) (c1 := 0) (c2 := 0) (as := [(4, 1), (0, x1), (0, x2), (0, x3)]) (asC := [(4, 0), (0, x1), (0, x2), (0, x3)]) (LN := [(6, (0, 2)), (5, (0, 0)), (4, (4, 3)), (3, (4, 2)), (2, (4, 1)), (1, (4, 0)), (0, (6, 0))]) (stN := []) (hsC := jpH_21) (hsD := jpH_36) (v := (0, 0)) (st2 := [(0, 0)]) (hs2 := jpH_416) (jH_187_17 (d := 0) (by omega) (by omega) (by omega)) (by rfl) (by rfl) (by decide +kernel) (by rfl) (by rfl) (by omega) (by omega) (by omega) (by omega) rfl (by decide +kernel) ?_
  refine jT_xistore (v := (0, 0)) (LN := [(7, (0, 0)), (6, (0, 2)), (5, (0, 0)), (4, (4, 3)), (3, (4, 2)), (2, (4, 1)), (1, (4, 0)), (0, (6, 0))]) (pcN := 325) jIH_379_323 rfl rfl rfl rfl ?_
  refine jT_xaload_n (v := (4, 1)) (pcN := 326) jIH_379_325 rfl rfl rfl ?_
  refine jT_fR [1, 15, 16, 17, 18, 19, 20, 21, 22, 23, 24, 25, 26, 27, 28, 29] 30 (y := 186) (pcN := 329) (dC := 0) (bc1 := 0) (bc2 := 0) (c1 := 0) (c2 := 0) (as := [(4, 1)]) (asC := [(4, 0)]) (LN := [(7, (0, 0)), (6, (0, 2)), (5, (0, 0)), (4, (4, 3)), (3, (4, 2)), (2, (4, 1)), (1, (4, 0)), (0, (6, 0))]) (stN := []) (hsC := jpH_36) (v := (0, 2)) (st2 := [(0, 2)]) (jH_186_18 (d := 0)) (by rfl) (by rfl) (by decide +kernel) (by rfl) (by rfl) (by omega) (by omega) (by omega) (by omega) rfl ?_
  refine jT_xiload (v := (0, 2)) (pcN := 331) jIH_379_329 rfl rfl rfl ?_
  refine jT_xicT (pcN := 336) jIH_379_331 rfl (by decide +kernel) rfl ?_
  refine jT_xiload (v := (0, 2)) (pcN := 338) jIH_379_336 rfl rfl rfl ?_
  refine jT_xifT (pcN := 360) jIH_379_338 rfl (by decide +kernel) rfl ?_
  refine jT_xgoto (pcN := 3740) jIH_379_360 rfl ?_
  refine jT_xiinc (x := 0) (z := 5) (LN := [(5, (0, 5)), (7, (0, 0)), (6, (0, 2)), (4, (4, 3)), (3, (4, 2)), (2, (4, 1)), (1, (4, 0)), (0, (6, 0))]) (pcN := 3743) jIH_379_3740 rfl rfl (by decide) rfl rfl ?_
  refine jT_xgoto (pcN := 28) jIH_379_3743 rfl ?_
  refine jT_xiload (v := (0, 5)) (pcN := 30) jIH_379_28 rfl rfl rfl ?_
  refine jT_xaload_n (v := (6, 0)) (pcN := 31) jIH_379_30 rfl rfl rfl ?_
  refine jT_adv 1 (pcN := 32) (LN := [(5, (0, 5)), (7, (0, 0)), (6, (0, 2)), (4, (4, 3)), (3, (4, 2)), (2, (4, 1)), (1, (4, 0)), (0, (6, 0))]) (stN := [(0, 5), (0, 5)]) (hsN := jpH_416) (c1 := 0) (s1 := 0) (c2 := 0) (s2 := 0) (by exact rfl) ?_ (by omega) (by omega)
  refine jT_xiconst (k := 5) (pcN := 33) jIH_379_32 rfl ?_
  refine jT_xisub (x := 5) (y := 5) (z := 0) (pcN := 34) jIH_379_33 rfl (by decide) rfl ?_
  refine jT_xicT (pcN := 3746) jIH_379_34 rfl (by decide +kernel) rfl ?_
  refine jT_xiconst (k := 1) (pcN := 3747) jIH_379_3746 rfl ?_
  exact jT_ret rfl (by decide) (by show 30 ≤ 30; decide) (by omega) (by omega) ⟨rfl, rfl⟩
set_option maxRecDepth 100000 in
theorem jL_0_2 {d : Nat} {x0 x1 x2 x3 x4 : Int} (h_x0 : (-2147483648) ≤ x0 ∧ x0 ≤ 2147483647) (h_x1 : 0 ≤ x1 ∧ x1 ≤ 7) (h_x2 : 1 ≤ x2 ∧ x2 ≤ 1000000) (h_x3 : (-2147483648) ≤ x3 ∧ x3 ≤ 0) (h_x4 : (-2147483648) ≤ x4 ∧ x4 ≤ 2147483647) : jT [x0, x1, x2, x3, x4] (d + 3) 379 30 276 [(5, (0, 0)), (4, (4, 3)), (3, (4, 2)), (2, (4, 1)), (1, (4, 0)), (0, (6, 0))] [] jpH_374 1 6 (fun k v hsN => k = 0 ∧ v = (0, 1)) := by
  refine jT_xaload_n (v := (4, 0)) (pcN := 277) jIH_379_276 rfl rfl rfl ?_
  refine jT_xaload_n (v := (6, 0)) (pcN := 278) jIH_379_277 rfl rfl rfl ?_
  refine jT_xiload (v := (0, 0)) (pcN := 280) jIH_379_278 rfl rfl rfl ?_
  refine jT_xiconst (k := 1) (pcN := 281) jIH_379_280 rfl ?_
  refine jT_xiadd (x := 0) (y := 1) (z := 1) (pcN := 282) jIH_379_281 rfl (by decide) rfl ?_
  refine jT_adv 1 (pcN := 283) (LN := [(5, (0, 0)), (4, (4, 3)), (3, (4, 2)), (2, (4, 1)), (1, (4, 0)), (0, (6, 0))]) (stN := [(0, x1), (4, 0)]) (hsN := jpH_374) (c1 := 0) (s1 := 0) (c2 := 1) (s2 := 6) (by exact rfl) ?_ (by omega) (by omega)
  refine jT_xaload_n (v := (6, 0)) (pcN := 284) jIH_379_283 rfl rfl rfl ?_
  refine jT_xiload (v := (0, 0)) (pcN := 286) jIH_379_284 rfl rfl rfl ?_
  refine jT_xiconst (k := 2) (pcN := 287) jIH_379_286 rfl ?_
  refine jT_xiadd (x := 0) (y := 2) (z := 2) (pcN := 288) jIH_379_287 rfl (by decide) rfl ?_
  refine jT_adv 1 (pcN := 289) (LN := [(5, (0, 0)), (4, (4, 3)), (3, (4, 2)), (2, (4, 1)), (1, (4, 0)), (0, (6, 0))]) (stN := [(0, x2), (0, x1), (4, 0)]) (hsN := jpH_374) (c1 := 0) (s1 := 0) (c2 := 1) (s2 := 6) (by exact rfl) ?_ (by omega) (by omega)
  refine jT_xaload_n (v := (6, 0)) (pcN := 290) jIH_379_289 rfl rfl rfl ?_
  refine jT_xiload (v := (0, 0)) (pcN := 292) jIH_379_290 rfl rfl rfl ?_
  refine jT_xiconst (k := 3) (pcN := 293) jIH_379_292 rfl ?_
  refine jT_xiadd (x := 0) (y := 3) (z := 3) (pcN := 294) jIH_379_293 rfl (by decide) rfl ?_
  refine jT_adv 1 (pcN := 295) (LN := [(5, (0, 0)), (4, (4, 3)), (3, (4, 2)), (2, (4, 1)), (1, (4, 0)), (0, (6, 0))]) (stN := [(0, x3), (0, x2), (0, x1), (4, 0)]) (hsN := jpH_374) (c1 := 0) (s1 := 0) (c2 := 1) (s2 := 6) (by exact rfl) ?_ (by omega) (by omega)
  refine jT_xaload_n (v := (4, 2)) (pcN := 296) jIH_379_295 rfl rfl rfl ?_
  refine jT_fR [0, 2, 4, 5, 6, 7, 8, 9, 10, 11, 12, 13, 14] 30 (y := 326) (pcN := 299) (dC := 2) (bc1 := 1) (bc2 := 6) (c1 := 0) (c2 := 0) (as := [(4, 0), (0, x1), (0, x2), (0, x3), (4, 2)]) (asC := [(4, 0), (0, x1), (0, x2), (0, x3), (4, 1)]) (LN := [(5, (0, 0)), (4, (4, 3)), (3, (4, 2)), (2, (4, 1)), (1, (4, 0)), (0, (6, 0))]) (stN := []) (hsC := jpH_14) (v := (0, 2)) (st2 := [(0, 2)]) (jH_326_22 (d := 0) (by omega) (by omega) (by omega)) (by rfl) (by rfl) (by decide +kernel) (by rfl) (by rfl) (by omega) (by omega) (by omega) (by omega) rfl ?_
  refine jT_xistore (v := (0, 2)) (LN := [(6, (0, 2)), (5, (0, 0)), (4, (4, 3)), (3, (4, 2)), (2, (4, 1)), (1, (4, 0)), (0, (6, 0))]) (pcN := 301) jIH_379_299 rfl rfl rfl rfl ?_
  refine jT_xaload_n (v := (4, 1)) (pcN := 302) jIH_379_301 rfl rfl rfl ?_
  refine jT_xaload_n (v := (6, 0)) (pcN := 303) jIH_379_302 rfl rfl rfl ?_
  refine jT_xiload (v := (0, 0)) (pcN := 305) jIH_379_303 rfl rfl rfl ?_
  refine jT_xiconst (k := 1) (pcN := 306) jIH_379_305 rfl ?_
  refine jT_xiadd (x := 0) (y := 1) (z := 1) (pcN := 307) jIH_379_306 rfl (by decide) rfl ?_
  refine jT_adv 1 (pcN := 308) (LN := [(6, (0, 2)), (5, (0, 0)), (4, (4, 3)), (3, (4, 2)), (2, (4, 1)), (1, (4, 0)), (0, (6, 0))]) (stN := [(0, x1), (4, 1)]) (hsN := jpH_374) (c1 := 0) (s1 := 0) (c2 := 0) (s2 := 0) (by exact rfl) ?_ (by omega) (by omega)
  refine jT_xaload_n (v := (6, 0)) (pcN := 309) jIH_379_308 rfl rfl rfl ?_
  refine jT_xiload (v := (0, 0)) (pcN := 311) jIH_379_309 rfl rfl rfl ?_
  refine jT_xiconst (k := 2) (pcN := 312) jIH_379_311 rfl ?_
  refine jT_xiadd (x := 0) (y := 2) (z := 2) (pcN := 313) jIH_379_312 rfl (by decide) rfl ?_
  refine jT_adv 1 (pcN := 314) (LN := [(6, (0, 2)), (5, (0, 0)), (4, (4, 3)), (3, (4, 2)), (2, (4, 1)), (1, (4, 0)), (0, (6, 0))]) (stN := [(0, x2), (0, x1), (4, 1)]) (hsN := jpH_374) (c1 := 0) (s1 := 0) (c2 := 0) (s2 := 0) (by exact rfl) ?_ (by omega) (by omega)
  refine jT_xaload_n (v := (6, 0)) (pcN := 315) jIH_379_314 rfl rfl rfl ?_
  refine jT_xiload (v := (0, 0)) (pcN := 317) jIH_379_315 rfl rfl rfl ?_
  refine jT_xiconst (k := 3) (pcN := 318) jIH_379_317 rfl ?_
  refine jT_xiadd (x := 0) (y := 3) (z := 3) (pcN := 319) jIH_379_318 rfl (by decide) rfl ?_
  refine jT_adv 1 (pcN := 320) (LN := [(6, (0, 2)), (5, (0, 0)), (4, (4, 3)), (3, (4, 2)), (2, (4, 1)), (1, (4, 0)), (0, (6, 0))]) (stN := [(0, x3), (0, x2), (0, x1), (4, 1)]) (hsN := jpH_374) (c1 := 0) (s1 := 0) (c2 := 0) (s2 := 0) (by exact rfl) ?_ (by omega) (by omega)
  refine jT_fB [1, 15, 16, 17, 18, 19, 20, 21, 22, 23, 24, 25, 26, 27, 28, 29] 30 (y := 187) (pcN := 323) (dC := 2) (bc1 := 0) (bc2 := 0) (c1 := 0) (c2 := 0) (as := [(4, 1), (0, x1), (0, x2), (0, x3)]) (asC := [(4, 0), (0, x1), (0, x2), (0, x3)]) (LN := [(6, (0, 2)), (5, (0, 0)), (4, (4, 3)), (3, (4, 2)), (2, (4, 1)), (1, (4, 0)), (0, (6, 0))]) (stN := []) (hsC := jpH_21) (hsD := jpH_36) (v := (0, 0)) (st2 := [(0, 0)]) (hs2 := jpH_416) (jH_187_23 (d := 0) (by omega) (by omega) (by omega)) (by rfl) (by rfl) (by decide +kernel) (by rfl) (by rfl) (by omega) (by omega) (by omega) (by omega) rfl (by decide +kernel) ?_
  refine jT_xistore (v := (0, 0)) (LN := [(7, (0, 0)), (6, (0, 2)), (5, (0, 0)), (4, (4, 3)), (3, (4, 2)), (2, (4, 1)), (1, (4, 0)), (0, (6, 0))]) (pcN := 325) jIH_379_323 rfl rfl rfl rfl ?_
  refine jT_xaload_n (v := (4, 1)) (pcN := 326) jIH_379_325 rfl rfl rfl ?_
  refine jT_fR [1, 15, 16, 17, 18, 19, 20, 21, 22, 23, 24, 25, 26, 27, 28, 29] 30 (y := 186) (pcN := 329) (dC := 0) (bc1 := 0) (bc2 := 0) (c1 := 0) (c2 := 0) (as := [(4, 1)]) (asC := [(4, 0)]) (LN := [(7, (0, 0)), (6, (0, 2)), (5, (0, 0)), (4, (4, 3)), (3, (4, 2)), (2, (4, 1)), (1, (4, 0)), (0, (6, 0))]) (stN := []) (hsC := jpH_36) (v := (0, 2)) (st2 := [(0, 2)]) (jH_186_18 (d := 0)) (by rfl) (by rfl) (by decide +kernel) (by rfl) (by rfl) (by omega) (by omega) (by omega) (by omega) rfl ?_
  refine jT_xiload (v := (0, 2)) (pcN := 331) jIH_379_329 rfl rfl rfl ?_
  refine jT_xicT (pcN := 336) jIH_379_331 rfl (by decide +kernel) rfl ?_
  refine jT_xiload (v := (0, 2)) (pcN := 338) jIH_379_336 rfl rfl rfl ?_
  refine jT_xifT (pcN := 360) jIH_379_338 rfl (by decide +kernel) rfl ?_
  refine jT_xgoto (pcN := 3740) jIH_379_360 rfl ?_
  refine jT_xiinc (x := 0) (z := 5) (LN := [(5, (0, 5)), (7, (0, 0)), (6, (0, 2)), (4, (4, 3)), (3, (4, 2)), (2, (4, 1)), (1, (4, 0)), (0, (6, 0))]) (pcN := 3743) jIH_379_3740 rfl rfl (by decide) rfl rfl ?_
  refine jT_xgoto (pcN := 28) jIH_379_3743 rfl ?_
  refine jT_xiload (v := (0, 5)) (pcN := 30) jIH_379_28 rfl rfl rfl ?_
  refine jT_xaload_n (v := (6, 0)) (pcN := 31) jIH_379_30 rfl rfl rfl ?_
  refine jT_adv 1 (pcN := 32) (LN := [(5, (0, 5)), (7, (0, 0)), (6, (0, 2)), (4, (4, 3)), (3, (4, 2)), (2, (4, 1)), (1, (4, 0)), (0, (6, 0))]) (stN := [(0, 5), (0, 5)]) (hsN := jpH_416) (c1 := 0) (s1 := 0) (c2 := 0) (s2 := 0) (by exact rfl) ?_ (by omega) (by omega)
  refine jT_xiconst (k := 5) (pcN := 33) jIH_379_32 rfl ?_
  refine jT_xisub (x := 5) (y := 5) (z := 0) (pcN := 34) jIH_379_33 rfl (by decide) rfl ?_
  refine jT_xicT (pcN := 3746) jIH_379_34 rfl (by decide +kernel) rfl ?_
  refine jT_xiconst (k := 1) (pcN := 3747) jIH_379_3746 rfl ?_
  exact jT_ret rfl (by decide) (by show 30 ≤ 30; decide) (by omega) (by omega) ⟨rfl, rfl⟩
def jpH_417 : List JC := [jzH_372, jzH_373, jgh, jgh, jgh, jgh, jgh, jgh, jgh, jgh, jgh, jgh, jgh, jgh, jgh, jgh, jgh, jgh, jgh, jgh, jgh, (101, [], [0, 0, 0, 0, 0, 0]), jgh, jgh, jgh, jgh, jgh, jgh, jgh, jgh]
def jzH_418 : JC := (14, [(0, 3), (4, 15), (4, 16), (4, 17), (4, 18), (0, 0), (4, 19), (0, 0), (4, 20), (4, 21), (1, 1), (4, 22), (0, 0), (4, 23), (0, 0), (0, 0), (0, 0), (0, 0), (0, 0), (0, 0), (0, 0), (4, 24), (4, 25), (4, 26), (4, 27), (4, 28), (4, 29), (0, 0)], [])
set_option maxRecDepth 100000 in
theorem jL_0_3 {d : Nat} {x0 x1 x2 x3 x4 : Int} (h_x0 : (-2147483648) ≤ x0 ∧ x0 ≤ 2147483647) (h_x1 : 0 ≤ x1 ∧ x1 ≤ 7) (h_x2 : 1 ≤ x2 ∧ x2 ≤ 1000000) (h_x3 : 1 ≤ x3 ∧ x3 ≤ 1000000) (h_x4 : (-2147483648) ≤ x4 ∧ x4 ≤ 2147483647) (g_0 : 0 ≤ (jsu 13 20 (jsu 11 20 (jsu 7 20 (jsu 5 20 (jsu 3 20 (jsu 2 20 (x2.tdiv (((Nat.gcd (x2).natAbs (x3).natAbs : Nat) : Int))))))))) - 2) : jT [x0, x1, x2, x3, x4] (d + 44) 379 30 276 [(5, (0, 0)), (4, (4, 3)), (3, (4, 2)), (2, (4, 1)), (1, (4, 0)), (0, (6, 0))] [] jpH_417 2 12 (fun k v hsN => k = 0 ∧ v = (0, 1)) := by
  refine jT_xaload_n (v := (4, 0)) (pcN := 277) jIH_379_276 rfl rfl rfl ?_
  refine jT_xaload_n (v := (6, 0)) (pcN := 278) jIH_379_277 rfl rfl rfl ?_
  refine jT_xiload (v := (0, 0)) (pcN := 280) jIH_379_278 rfl rfl rfl ?_
  refine jT_xiconst (k := 1) (pcN := 281) jIH_379_280 rfl ?_
  refine jT_xiadd (x := 0) (y := 1) (z := 1) (pcN := 282) jIH_379_281 rfl (by decide) rfl ?_
  refine jT_adv 1 (pcN := 283) (LN := [(5, (0, 0)), (4, (4, 3)), (3, (4, 2)), (2, (4, 1)), (1, (4, 0)), (0, (6, 0))]) (stN := [(0, x1), (4, 0)]) (hsN := jpH_417) (c1 := 0) (s1 := 0) (c2 := 2) (s2 := 12) (by exact rfl) ?_ (by omega) (by omega)
  refine jT_xaload_n (v := (6, 0)) (pcN := 284) jIH_379_283 rfl rfl rfl ?_
  refine jT_xiload (v := (0, 0)) (pcN := 286) jIH_379_284 rfl rfl rfl ?_
  refine jT_xiconst (k := 2) (pcN := 287) jIH_379_286 rfl ?_
  refine jT_xiadd (x := 0) (y := 2) (z := 2) (pcN := 288) jIH_379_287 rfl (by decide) rfl ?_
  refine jT_adv 1 (pcN := 289) (LN := [(5, (0, 0)), (4, (4, 3)), (3, (4, 2)), (2, (4, 1)), (1, (4, 0)), (0, (6, 0))]) (stN := [(0, x2), (0, x1), (4, 0)]) (hsN := jpH_417) (c1 := 0) (s1 := 0) (c2 := 2) (s2 := 12) (by exact rfl) ?_ (by omega) (by omega)
  refine jT_xaload_n (v := (6, 0)) (pcN := 290) jIH_379_289 rfl rfl rfl ?_
  refine jT_xiload (v := (0, 0)) (pcN := 292) jIH_379_290 rfl rfl rfl ?_
  refine jT_xiconst (k := 3) (pcN := 293) jIH_379_292 rfl ?_
  refine jT_xiadd (x := 0) (y := 3) (z := 3) (pcN := 294) jIH_379_293 rfl (by decide) rfl ?_
  refine jT_adv 1 (pcN := 295) (LN := [(5, (0, 0)), (4, (4, 3)), (3, (4, 2)), (2, (4, 1)), (1, (4, 0)), (0, (6, 0))]) (stN := [(0, x3), (0, x2), (0, x1), (4, 0)]) (hsN := jpH_417) (c1 := 0) (s1 := 0) (c2 := 2) (s2 := 12) (by exact rfl) ?_ (by omega) (by omega)
  refine jT_xaload_n (v := (4, 2)) (pcN := 296) jIH_379_295 rfl rfl rfl ?_
  refine jT_fA [0, 2, 4, 5, 6, 7, 8, 9, 10, 11, 12, 13, 14] 30 (y := 326) (pcN := 299) (dC := 3) (bc1 := 2) (bc2 := 12) (c1 := 0) (c2 := 0) (as := [(4, 0), (0, x1), (0, x2), (0, x3), (4, 2)]) (asC := [(4, 0), (0, x1), (0, x2), (0, x3), (4, 1)]) (LN := [(5, (0, 0)), (4, (4, 3)), (3, (4, 2)), (2, (4, 1)), (1, (4, 0)), (0, (6, 0))]) (stN := []) (hsC := jpH_14) (ex := [(101, [], [(jsc 2 20 (x2.tdiv (((Nat.gcd (x2).natAbs (x3).natAbs : Nat) : Int)))) - (jsc 2 20 (x3.tdiv (((Nat.gcd (x2).natAbs (x3).natAbs : Nat) : Int)))), (jsc 3 20 (jsu 2 20 (x2.tdiv (((Nat.gcd (x2).natAbs (x3).natAbs : Nat) : Int))))) - (jsc 3 20 (jsu 2 20 (x3.tdiv (((Nat.gcd (x2).natAbs (x3).natAbs : Nat) : Int))))), (jsc 5 20 (jsu 3 20 (jsu 2 20 (x2.tdiv (((Nat.gcd (x2).natAbs (x3).natAbs : Nat) : Int)))))) - (jsc 5 20 (jsu 3 20 (jsu 2 20 (x3.tdiv (((Nat.gcd (x2).natAbs (x3).natAbs : Nat) : Int)))))), (jsc 7 20 (jsu 5 20 (jsu 3 20 (jsu 2 20 (x2.tdiv (((Nat.gcd (x2).natAbs (x3).natAbs : Nat) : Int))))))) - (jsc 7 20 (jsu 5 20 (jsu 3 20 (jsu 2 20 (x3.tdiv (((Nat.gcd (x2).natAbs (x3).natAbs : Nat) : Int))))))), -(jsc 11 20 (jsu 7 20 (jsu 5 20 (jsu 3 20 (jsu 2 20 (x3.tdiv (((Nat.gcd (x2).natAbs (x3).natAbs : Nat) : Int)))))))) + (jsc 11 20 (jsu 7 20 (jsu 5 20 (jsu 3 20 (jsu 2 20 (x2.tdiv (((Nat.gcd (x2).natAbs (x3).natAbs : Nat) : Int)))))))), (jsc 13 20 (jsu 11 20 (jsu 7 20 (jsu 5 20 (jsu 3 20 (jsu 2 20 (x2.tdiv (((Nat.gcd (x2).natAbs (x3).natAbs : Nat) : Int))))))))) - (jsc 13 20 (jsu 11 20 (jsu 7 20 (jsu 5 20 (jsu 3 20 (jsu 2 20 (x3.tdiv (((Nat.gcd (x2).natAbs (x3).natAbs : Nat) : Int)))))))))])]) (v := (0, 3)) (st2 := [(0, 3)]) (hs2 := [jzH_372, jzH_373, jgh, jgh, jgh, jgh, jgh, jgh, jgh, jgh, jgh, jgh, jgh, jgh, jgh, jgh, jgh, jgh, jgh, jgh, jgh, (101, [], [0, 0, 0, 0, 0, 0]), jgh, jgh, jgh, jgh, jgh, jgh, jgh, jgh, (101, [], [(jsc 2 20 (x2.tdiv (((Nat.gcd (x2).natAbs (x3).natAbs : Nat) : Int)))) - (jsc 2 20 (x3.tdiv (((Nat.gcd (x2).natAbs (x3).natAbs : Nat) : Int)))), (jsc 3 20 (jsu 2 20 (x2.tdiv (((Nat.gcd (x2).natAbs (x3).natAbs : Nat) : Int))))) - (jsc 3 20 (jsu 2 20 (x3.tdiv (((Nat.gcd (x2).natAbs (x3).natAbs : Nat) : Int))))), (jsc 5 20 (jsu 3 20 (jsu 2 20 (x2.tdiv (((Nat.gcd (x2).natAbs (x3).natAbs : Nat) : Int)))))) - (jsc 5 20 (jsu 3 20 (jsu 2 20 (x3.tdiv (((Nat.gcd (x2).natAbs (x3).natAbs : Nat) : Int)))))), (jsc 7 20 (jsu 5 20 (jsu 3 20 (jsu 2 20 (x2.tdiv (((Nat.gcd (x2).natAbs (x3).natAbs : Nat) : Int))))))) - (jsc 7 20 (jsu 5 20 (jsu 3 20 (jsu 2 20 (x3.tdiv (((Nat.gcd (x2).natAbs (x3).natAbs : Nat) : Int))))))), -(jsc 11 20 (jsu 7 20 (jsu 5 20 (jsu 3 20 (jsu 2 20 (x3.tdiv (((Nat.gcd (x2).natAbs (x3).natAbs : Nat) : Int)))))))) + (jsc 11 20 (jsu 7 20 (jsu 5 20 (jsu 3 20 (jsu 2 20 (x2.tdiv (((Nat.gcd (x2).natAbs (x3).natAbs : Nat) : Int)))))))), (jsc 13 20 (jsu 11 20 (jsu 7 20 (jsu 5 20 (jsu 3 20 (jsu 2 20 (x2.tdiv (((Nat.gcd (x2).natAbs (x3).natAbs : Nat) : Int))))))))) - (jsc 13 20 (jsu 11 20 (jsu 7 20 (jsu 5 20 (jsu 3 20 (jsu 2 20 (x3.tdiv (((Nat.gcd (x2).natAbs (x3).natAbs : Nat) : Int)))))))))])]) (jH_326_40 (d := 0) (by omega) (by omega) (by omega) (by omega)) (by rfl) (by rfl) (by decide +kernel) (by rfl) (by rfl) (by omega) (by omega) (by omega) (by omega) rfl rfl ?_
  have hb_q1 := jsc_b (P := 2) (n := 20) (u := (x2.tdiv (((Nat.gcd (x2).natAbs (x3).natAbs : Nat) : Int))))
  have hb_q1 : 0 ≤ jsc 2 20 (x2.tdiv (((Nat.gcd (x2).natAbs (x3).natAbs : Nat) : Int))) ∧ jsc 2 20 (x2.tdiv (((Nat.gcd (x2).natAbs (x3).natAbs : Nat) : Int))) ≤ 20 := ⟨hb_q1.1, by omega⟩
  generalize hq_q1 : jsc 2 20 (x2.tdiv (((Nat.gcd (x2).natAbs (x3).natAbs : Nat) : Int))) = q1 at hb_q1 ⊢
  have hb_q2 := jsc_b (P := 2) (n := 20) (u := (x3.tdiv (((Nat.gcd (x2).natAbs (x3).natAbs : Nat) : Int))))
  have hb_q2 : 0 ≤ jsc 2 20 (x3.tdiv (((Nat.gcd (x2).natAbs (x3).natAbs : Nat) : Int))) ∧ jsc 2 20 (x3.tdiv (((Nat.gcd (x2).natAbs (x3).natAbs : Nat) : Int))) ≤ 20 := ⟨hb_q2.1, by omega⟩
  generalize hq_q2 : jsc 2 20 (x3.tdiv (((Nat.gcd (x2).natAbs (x3).natAbs : Nat) : Int))) = q2 at hb_q2 ⊢
  have hb_q3 := jsc_b (P := 3) (n := 20) (u := (jsu 2 20 (x2.tdiv (((Nat.gcd (x2).natAbs (x3).natAbs : Nat) : Int)))))
  have hb_q3 : 0 ≤ jsc 3 20 (jsu 2 20 (x2.tdiv (((Nat.gcd (x2).natAbs (x3).natAbs : Nat) : Int)))) ∧ jsc 3 20 (jsu 2 20 (x2.tdiv (((Nat.gcd (x2).natAbs (x3).natAbs : Nat) : Int)))) ≤ 20 := ⟨hb_q3.1, by omega⟩
  generalize hq_q3 : jsc 3 20 (jsu 2 20 (x2.tdiv (((Nat.gcd (x2).natAbs (x3).natAbs : Nat) : Int)))) = q3 at hb_q3 ⊢
  have hb_q4 := jsc_b (P := 3) (n := 20) (u := (jsu 2 20 (x3.tdiv (((Nat.gcd (x2).natAbs (x3).natAbs : Nat) : Int)))))
  have hb_q4 : 0 ≤ jsc 3 20 (jsu 2 20 (x3.tdiv (((Nat.gcd (x2).natAbs (x3).natAbs : Nat) : Int)))) ∧ jsc 3 20 (jsu 2 20 (x3.tdiv (((Nat.gcd (x2).natAbs (x3).natAbs : Nat) : Int)))) ≤ 20 := ⟨hb_q4.1, by omega⟩
  generalize hq_q4 : jsc 3 20 (jsu 2 20 (x3.tdiv (((Nat.gcd (x2).natAbs (x3).natAbs : Nat) : Int)))) = q4 at hb_q4 ⊢
  have hb_q5 := jsc_b (P := 5) (n := 20) (u := (jsu 3 20 (jsu 2 20 (x2.tdiv (((Nat.gcd (x2).natAbs (x3).natAbs : Nat) : Int))))))
  have hb_q5 : 0 ≤ jsc 5 20 (jsu 3 20 (jsu 2 20 (x2.tdiv (((Nat.gcd (x2).natAbs (x3).natAbs : Nat) : Int))))) ∧ jsc 5 20 (jsu 3 20 (jsu 2 20 (x2.tdiv (((Nat.gcd (x2).natAbs (x3).natAbs : Nat) : Int))))) ≤ 20 := ⟨hb_q5.1, by omega⟩
  generalize hq_q5 : jsc 5 20 (jsu 3 20 (jsu 2 20 (x2.tdiv (((Nat.gcd (x2).natAbs (x3).natAbs : Nat) : Int))))) = q5 at hb_q5 ⊢
  have hb_q6 := jsc_b (P := 5) (n := 20) (u := (jsu 3 20 (jsu 2 20 (x3.tdiv (((Nat.gcd (x2).natAbs (x3).natAbs : Nat) : Int))))))
  have hb_q6 : 0 ≤ jsc 5 20 (jsu 3 20 (jsu 2 20 (x3.tdiv (((Nat.gcd (x2).natAbs (x3).natAbs : Nat) : Int))))) ∧ jsc 5 20 (jsu 3 20 (jsu 2 20 (x3.tdiv (((Nat.gcd (x2).natAbs (x3).natAbs : Nat) : Int))))) ≤ 20 := ⟨hb_q6.1, by omega⟩
  generalize hq_q6 : jsc 5 20 (jsu 3 20 (jsu 2 20 (x3.tdiv (((Nat.gcd (x2).natAbs (x3).natAbs : Nat) : Int))))) = q6 at hb_q6 ⊢
  have hb_q7 := jsc_b (P := 7) (n := 20) (u := (jsu 5 20 (jsu 3 20 (jsu 2 20 (x2.tdiv (((Nat.gcd (x2).natAbs (x3).natAbs : Nat) : Int)))))))
  have hb_q7 : 0 ≤ jsc 7 20 (jsu 5 20 (jsu 3 20 (jsu 2 20 (x2.tdiv (((Nat.gcd (x2).natAbs (x3).natAbs : Nat) : Int)))))) ∧ jsc 7 20 (jsu 5 20 (jsu 3 20 (jsu 2 20 (x2.tdiv (((Nat.gcd (x2).natAbs (x3).natAbs : Nat) : Int)))))) ≤ 20 := ⟨hb_q7.1, by omega⟩
  generalize hq_q7 : jsc 7 20 (jsu 5 20 (jsu 3 20 (jsu 2 20 (x2.tdiv (((Nat.gcd (x2).natAbs (x3).natAbs : Nat) : Int)))))) = q7 at hb_q7 ⊢
  have hb_q8 := jsc_b (P := 7) (n := 20) (u := (jsu 5 20 (jsu 3 20 (jsu 2 20 (x3.tdiv (((Nat.gcd (x2).natAbs (x3).natAbs : Nat) : Int)))))))
  have hb_q8 : 0 ≤ jsc 7 20 (jsu 5 20 (jsu 3 20 (jsu 2 20 (x3.tdiv (((Nat.gcd (x2).natAbs (x3).natAbs : Nat) : Int)))))) ∧ jsc 7 20 (jsu 5 20 (jsu 3 20 (jsu 2 20 (x3.tdiv (((Nat.gcd (x2).natAbs (x3).natAbs : Nat) : Int)))))) ≤ 20 := ⟨hb_q8.1, by omega⟩
  generalize hq_q8 : jsc 7 20 (jsu 5 20 (jsu 3 20 (jsu 2 20 (x3.tdiv (((Nat.gcd (x2).natAbs (x3).natAbs : Nat) : Int)))))) = q8 at hb_q8 ⊢
  have hb_q9 := jsc_b (P := 11) (n := 20) (u := (jsu 7 20 (jsu 5 20 (jsu 3 20 (jsu 2 20 (x2.tdiv (((Nat.gcd (x2).natAbs (x3).natAbs : Nat) : Int))))))))
  have hb_q9 : 0 ≤ jsc 11 20 (jsu 7 20 (jsu 5 20 (jsu 3 20 (jsu 2 20 (x2.tdiv (((Nat.gcd (x2).natAbs (x3).natAbs : Nat) : Int))))))) ∧ jsc 11 20 (jsu 7 20 (jsu 5 20 (jsu 3 20 (jsu 2 20 (x2.tdiv (((Nat.gcd (x2).natAbs (x3).natAbs : Nat) : Int))))))) ≤ 20 := ⟨hb_q9.1, by omega⟩
  generalize hq_q9 : jsc 11 20 (jsu 7 20 (jsu 5 20 (jsu 3 20 (jsu 2 20 (x2.tdiv (((Nat.gcd (x2).natAbs (x3).natAbs : Nat) : Int))))))) = q9 at hb_q9 ⊢
  have hb_q10 := jsc_b (P := 11) (n := 20) (u := (jsu 7 20 (jsu 5 20 (jsu 3 20 (jsu 2 20 (x3.tdiv (((Nat.gcd (x2).natAbs (x3).natAbs : Nat) : Int))))))))
  have hb_q10 : 0 ≤ jsc 11 20 (jsu 7 20 (jsu 5 20 (jsu 3 20 (jsu 2 20 (x3.tdiv (((Nat.gcd (x2).natAbs (x3).natAbs : Nat) : Int))))))) ∧ jsc 11 20 (jsu 7 20 (jsu 5 20 (jsu 3 20 (jsu 2 20 (x3.tdiv (((Nat.gcd (x2).natAbs (x3).natAbs : Nat) : Int))))))) ≤ 20 := ⟨hb_q10.1, by omega⟩
  generalize hq_q10 : jsc 11 20 (jsu 7 20 (jsu 5 20 (jsu 3 20 (jsu 2 20 (x3.tdiv (((Nat.gcd (x2).natAbs (x3).natAbs : Nat) : Int))))))) = q10 at hb_q10 ⊢
  have hb_q11 := jsc_b (P := 13) (n := 20) (u := (jsu 11 20 (jsu 7 20 (jsu 5 20 (jsu 3 20 (jsu 2 20 (x2.tdiv (((Nat.gcd (x2).natAbs (x3).natAbs : Nat) : Int)))))))))
  have hb_q11 : 0 ≤ jsc 13 20 (jsu 11 20 (jsu 7 20 (jsu 5 20 (jsu 3 20 (jsu 2 20 (x2.tdiv (((Nat.gcd (x2).natAbs (x3).natAbs : Nat) : Int)))))))) ∧ jsc 13 20 (jsu 11 20 (jsu 7 20 (jsu 5 20 (jsu 3 20 (jsu 2 20 (x2.tdiv (((Nat.gcd (x2).natAbs (x3).natAbs : Nat) : Int)))))))) ≤ 20 := ⟨hb_q11.1, by omega⟩
  generalize hq_q11 : jsc 13 20 (jsu 11 20 (jsu 7 20 (jsu 5 20 (jsu 3 20 (jsu 2 20 (x2.tdiv (((Nat.gcd (x2).natAbs (x3).natAbs : Nat) : Int)))))))) = q11 at hb_q11 ⊢
  have hb_q12 := jsc_b (P := 13) (n := 20) (u := (jsu 11 20 (jsu 7 20 (jsu 5 20 (jsu 3 20 (jsu 2 20 (x3.tdiv (((Nat.gcd (x2).natAbs (x3).natAbs : Nat) : Int)))))))))
  have hb_q12 : 0 ≤ jsc 13 20 (jsu 11 20 (jsu 7 20 (jsu 5 20 (jsu 3 20 (jsu 2 20 (x3.tdiv (((Nat.gcd (x2).natAbs (x3).natAbs : Nat) : Int)))))))) ∧ jsc 13 20 (jsu 11 20 (jsu 7 20 (jsu 5 20 (jsu 3 20 (jsu 2 20 (x3.tdiv (((Nat.gcd (x2).natAbs (x3).natAbs : Nat) : Int)))))))) ≤ 20 := ⟨hb_q12.1, by omega⟩
  generalize hq_q12 : jsc 13 20 (jsu 11 20 (jsu 7 20 (jsu 5 20 (jsu 3 20 (jsu 2 20 (x3.tdiv (((Nat.gcd (x2).natAbs (x3).natAbs : Nat) : Int)))))))) = q12 at hb_q12 ⊢
  refine jT_eq (LN := [(5, (0, 0)), (4, (4, 3)), (3, (4, 2)), (2, (4, 1)), (1, (4, 0)), (0, (6, 0))]) (stN := [(0, 3)]) (hsN := [jzH_372, jzH_373, jgh, jgh, jgh, jgh, jgh, jgh, jgh, jgh, jgh, jgh, jgh, jgh, jgh, jgh, jgh, jgh, jgh, jgh, jgh, (101, [], [0, 0, 0, 0, 0, 0]), jgh, jgh, jgh, jgh, jgh, jgh, jgh, jgh, (101, [], [q1 - q2, q3 - q4, q5 - q6, q7 - q8, -q10 + q9, q11 - q12])]) (rfl) (rfl) (by simp only [List.cons.injEq, Prod.mk.injEq, and_true, true_and] <;> ((try unfold jw); (try unfold jwl); omega)) ?_
  refine jT_xistore (v := (0, 3)) (LN := [(6, (0, 3)), (5, (0, 0)), (4, (4, 3)), (3, (4, 2)), (2, (4, 1)), (1, (4, 0)), (0, (6, 0))]) (pcN := 301) jIH_379_299 rfl rfl rfl rfl ?_
  refine jT_xaload_n (v := (4, 1)) (pcN := 302) jIH_379_301 rfl rfl rfl ?_
  refine jT_xaload_n (v := (6, 0)) (pcN := 303) jIH_379_302 rfl rfl rfl ?_
  refine jT_xiload (v := (0, 0)) (pcN := 305) jIH_379_303 rfl rfl rfl ?_
  refine jT_xiconst (k := 1) (pcN := 306) jIH_379_305 rfl ?_
  refine jT_xiadd (x := 0) (y := 1) (z := 1) (pcN := 307) jIH_379_306 rfl (by decide) rfl ?_
  refine jT_adv 1 (pcN := 308) (LN := [(6, (0, 3)), (5, (0, 0)), (4, (4, 3)), (3, (4, 2)), (2, (4, 1)), (1, (4, 0)), (0, (6, 0))]) (stN := [(0, x1), (4, 1)]) (hsN := [jzH_372, jzH_373, jgh, jgh, jgh, jgh, jgh, jgh, jgh, jgh, jgh, jgh, jgh, jgh, jgh, jgh, jgh, jgh, jgh, jgh, jgh, (101, [], [0, 0, 0, 0, 0, 0]), jgh, jgh, jgh, jgh, jgh, jgh, jgh, jgh, (101, [], [q1 - q2, q3 - q4, q5 - q6, q7 - q8, -q10 + q9, q11 - q12])]) (c1 := 0) (s1 := 0) (c2 := 0) (s2 := 0) (by exact rfl) ?_ (by omega) (by omega)
  refine jT_xaload_n (v := (6, 0)) (pcN := 309) jIH_379_308 rfl rfl rfl ?_
  refine jT_xiload (v := (0, 0)) (pcN := 311) jIH_379_309 rfl rfl rfl ?_
  refine jT_xiconst (k := 2) (pcN := 312) jIH_379_311 rfl ?_
  refine jT_xiadd (x := 0) (y := 2) (z := 2) (pcN := 313) jIH_379_312 rfl (by decide) rfl ?_
  refine jT_adv 1 (pcN := 314) (LN := [(6, (0, 3)), (5, (0, 0)), (4, (4, 3)), (3, (4, 2)), (2, (4, 1)), (1, (4, 0)), (0, (6, 0))]) (stN := [(0, x2), (0, x1), (4, 1)]) (hsN := [jzH_372, jzH_373, jgh, jgh, jgh, jgh, jgh, jgh, jgh, jgh, jgh, jgh, jgh, jgh, jgh, jgh, jgh, jgh, jgh, jgh, jgh, (101, [], [0, 0, 0, 0, 0, 0]), jgh, jgh, jgh, jgh, jgh, jgh, jgh, jgh, (101, [], [q1 - q2, q3 - q4, q5 - q6, q7 - q8, -q10 + q9, q11 - q12])]) (c1 := 0) (s1 := 0) (c2 := 0) (s2 := 0) (by exact rfl) ?_ (by omega) (by omega)
  refine jT_xaload_n (v := (6, 0)) (pcN := 315) jIH_379_314 rfl rfl rfl ?_
  refine jT_xiload (v := (0, 0)) (pcN := 317) jIH_379_315 rfl rfl rfl ?_
  refine jT_xiconst (k := 3) (pcN := 318) jIH_379_317 rfl ?_
  refine jT_xiadd (x := 0) (y := 3) (z := 3) (pcN := 319) jIH_379_318 rfl (by decide) rfl ?_
  refine jT_adv 1 (pcN := 320) (LN := [(6, (0, 3)), (5, (0, 0)), (4, (4, 3)), (3, (4, 2)), (2, (4, 1)), (1, (4, 0)), (0, (6, 0))]) (stN := [(0, x3), (0, x2), (0, x1), (4, 1)]) (hsN := [jzH_372, jzH_373, jgh, jgh, jgh, jgh, jgh, jgh, jgh, jgh, jgh, jgh, jgh, jgh, jgh, jgh, jgh, jgh, jgh, jgh, jgh, (101, [], [0, 0, 0, 0, 0, 0]), jgh, jgh, jgh, jgh, jgh, jgh, jgh, jgh, (101, [], [q1 - q2, q3 - q4, q5 - q6, q7 - q8, -q10 + q9, q11 - q12])]) (c1 := 0) (s1 := 0) (c2 := 0) (s2 := 0) (by exact rfl) ?_ (by omega) (by omega)
  refine jT_callB [1, 15, 16, 17, 18, 19, 20, 21, 22, 23, 24, 25, 26, 27, 28, 29] (y := 187) (pcN := 323) (dC := 43) (bc1 := 0) (bc2 := 0) (c1 := 0) (c2 := 0) (as := [(4, 1), (0, x1), (0, x2), (0, x3)]) (asC := [(4, 0), (0, x1), (0, x2), (0, x3)]) (LN := [(6, (0, 3)), (5, (0, 0)), (4, (4, 3)), (3, (4, 2)), (2, (4, 1)), (1, (4, 0)), (0, (6, 0))]) (stN := []) (hsC := jpH_134) (hsD := [jzH_185, jgh, jgh, jgh, jgh, jgh, jgh, (101, [], [(jsc 2 20 (x2.tdiv (((Nat.gcd (x2).natAbs (x3).natAbs : Nat) : Int)))) - (jsc 2 20 (x3.tdiv (((Nat.gcd (x2).natAbs (x3).natAbs : Nat) : Int)))), (jsc 3 20 (jsu 2 20 (x2.tdiv (((Nat.gcd (x2).natAbs (x3).natAbs : Nat) : Int))))) - (jsc 3 20 (jsu 2 20 (x3.tdiv (((Nat.gcd (x2).natAbs (x3).natAbs : Nat) : Int))))), (jsc 5 20 (jsu 3 20 (jsu 2 20 (x2.tdiv (((Nat.gcd (x2).natAbs (x3).natAbs : Nat) : Int)))))) - (jsc 5 20 (jsu 3 20 (jsu 2 20 (x3.tdiv (((Nat.gcd (x2).natAbs (x3).natAbs : Nat) : Int)))))), (jsc 7 20 (jsu 5 20 (jsu 3 20 (jsu 2 20 (x2.tdiv (((Nat.gcd (x2).natAbs (x3).natAbs : Nat) : Int))))))) - (jsc 7 20 (jsu 5 20 (jsu 3 20 (jsu 2 20 (x3.tdiv (((Nat.gcd (x2).natAbs (x3).natAbs : Nat) : Int))))))), -(jsc 11 20 (jsu 7 20 (jsu 5 20 (jsu 3 20 (jsu 2 20 (x3.tdiv (((Nat.gcd (x2).natAbs (x3).natAbs : Nat) : Int)))))))) + (jsc 11 20 (jsu 7 20 (jsu 5 20 (jsu 3 20 (jsu 2 20 (x2.tdiv (((Nat.gcd (x2).natAbs (x3).natAbs : Nat) : Int)))))))), (jsc 13 20 (jsu 11 20 (jsu 7 20 (jsu 5 20 (jsu 3 20 (jsu 2 20 (x2.tdiv (((Nat.gcd (x2).natAbs (x3).natAbs : Nat) : Int))))))))) - (jsc 13 20 (jsu 11 20 (jsu 7 20 (jsu 5 20 (jsu 3 20 (jsu 2 20 (x3.tdiv (((Nat.gcd (x2).natAbs (x3).natAbs : Nat) : Int)))))))))]), jgh, jgh, jgh, jgh, jgh, jgh, jgh, jgh]) (v := (0, 0)) (st2 := [(0, 0)]) (hs2 := [jzH_372, jzH_418, jgh, jgh, jgh, jgh, jgh, jgh, jgh, jgh, jgh, jgh, jgh, jgh, jgh, jgh, jgh, jgh, jgh, jgh, jgh, (101, [], [(jsc 2 20 (x2.tdiv (((Nat.gcd (x2).natAbs (x3).natAbs : Nat) : Int)))) - (jsc 2 20 (x3.tdiv (((Nat.gcd (x2).natAbs (x3).natAbs : Nat) : Int)))), (jsc 3 20 (jsu 2 20 (x2.tdiv (((Nat.gcd (x2).natAbs (x3).natAbs : Nat) : Int))))) - (jsc 3 20 (jsu 2 20 (x3.tdiv (((Nat.gcd (x2).natAbs (x3).natAbs : Nat) : Int))))), (jsc 5 20 (jsu 3 20 (jsu 2 20 (x2.tdiv (((Nat.gcd (x2).natAbs (x3).natAbs : Nat) : Int)))))) - (jsc 5 20 (jsu 3 20 (jsu 2 20 (x3.tdiv (((Nat.gcd (x2).natAbs (x3).natAbs : Nat) : Int)))))), (jsc 7 20 (jsu 5 20 (jsu 3 20 (jsu 2 20 (x2.tdiv (((Nat.gcd (x2).natAbs (x3).natAbs : Nat) : Int))))))) - (jsc 7 20 (jsu 5 20 (jsu 3 20 (jsu 2 20 (x3.tdiv (((Nat.gcd (x2).natAbs (x3).natAbs : Nat) : Int))))))), -(jsc 11 20 (jsu 7 20 (jsu 5 20 (jsu 3 20 (jsu 2 20 (x3.tdiv (((Nat.gcd (x2).natAbs (x3).natAbs : Nat) : Int)))))))) + (jsc 11 20 (jsu 7 20 (jsu 5 20 (jsu 3 20 (jsu 2 20 (x2.tdiv (((Nat.gcd (x2).natAbs (x3).natAbs : Nat) : Int)))))))), (jsc 13 20 (jsu 11 20 (jsu 7 20 (jsu 5 20 (jsu 3 20 (jsu 2 20 (x2.tdiv (((Nat.gcd (x2).natAbs (x3).natAbs : Nat) : Int))))))))) - (jsc 13 20 (jsu 11 20 (jsu 7 20 (jsu 5 20 (jsu 3 20 (jsu 2 20 (x3.tdiv (((Nat.gcd (x2).natAbs (x3).natAbs : Nat) : Int)))))))))]), jgh, jgh, jgh, jgh, jgh, jgh, jgh, jgh, (101, [], [q1 - q2, q3 - q4, q5 - q6, q7 - q8, -q10 + q9, q11 - q12])]) (jH_187_57 (d := 0) (by omega) (by omega) (by omega) (by omega)) (by rfl) (by rfl) (by rfl) (by rfl) ⟨rfl, rfl, rfl, rfl, rfl, rfl, rfl, rfl, rfl, rfl, rfl, rfl, rfl, rfl, rfl, rfl, trivial⟩ (by rfl) (by rfl) (by omega) (by show 30 ≤ 31; omega) (by omega) (by omega) rfl rfl ?_
  rw [hq_q1]
  rw [hq_q2]
  rw [hq_q3]
  rw [hq_q4]
  rw [hq_q5]
  rw [hq_q6]
  rw [hq_q7]
  rw [hq_q8]
  rw [hq_q9]
  rw [hq_q10]
  rw [hq_q11]
  rw [hq_q12]
  refine jT_eq (LN := [(6, (0, 3)), (5, (0, 0)), (4, (4, 3)), (3, (4, 2)), (2, (4, 1)), (1, (4, 0)), (0, (6, 0))]) (stN := [(0, 0)]) (hsN := [jzH_372, jzH_418, jgh, jgh, jgh, jgh, jgh, jgh, jgh, jgh, jgh, jgh, jgh, jgh, jgh, jgh, jgh, jgh, jgh, jgh, jgh, (101, [], [q1 - q2, q3 - q4, q5 - q6, q7 - q8, -q10 + q9, q11 - q12]), jgh, jgh, jgh, jgh, jgh, jgh, jgh, jgh, (101, [], [q1 - q2, q3 - q4, q5 - q6, q7 - q8, -q10 + q9, q11 - q12])]) (rfl) (rfl) (by simp only [List.cons.injEq, Prod.mk.injEq, and_true, true_and] <;> ((try unfold jw); (try unfold jwl); omega)) ?_
  refine jT_xistore (v := (0, 0)) (LN := [(7, (0, 0)), (6, (0, 3)), (5, (0, 0)), (4, (4, 3)), (3, (4, 2)), (2, (4, 1)), (1, (4, 0)), (0, (6, 0))]) (pcN := 325) jIH_379_323 rfl rfl rfl rfl ?_
  refine jT_xaload_n (v := (4, 1)) (pcN := 326) jIH_379_325 rfl rfl rfl ?_
  refine jT_callA [1, 15, 16, 17, 18, 19, 20, 21, 22, 23, 24, 25, 26, 27, 28, 29] (y := 186) (pcN := 329) (dC := 0) (bc1 := 0) (bc2 := 0) (c1 := 0) (c2 := 0) (as := [(4, 1)]) (asC := [(4, 0)]) (LN := [(7, (0, 0)), (6, (0, 3)), (5, (0, 0)), (4, (4, 3)), (3, (4, 2)), (2, (4, 1)), (1, (4, 0)), (0, (6, 0))]) (stN := []) (hsC := jpH_186) (ex := []) (v := (0, 3)) (st2 := [(0, 3)]) (hs2 := [jzH_372, jzH_418, jgh, jgh, jgh, jgh, jgh, jgh, jgh, jgh, jgh, jgh, jgh, jgh, jgh, jgh, jgh, jgh, jgh, jgh, jgh, (101, [], [q1 - q2, q3 - q4, q5 - q6, q7 - q8, -q10 + q9, q11 - q12]), jgh, jgh, jgh, jgh, jgh, jgh, jgh, jgh, (101, [], [q1 - q2, q3 - q4, q5 - q6, q7 - q8, -q10 + q9, q11 - q12])]) (jH_186_58 (d := 0)) (by rfl) (by rfl) (by rfl) (by rfl) ⟨rfl, rfl, rfl, rfl, rfl, rfl, rfl, rfl, rfl, rfl, rfl, rfl, rfl, rfl, rfl, rfl, trivial⟩ (by rfl) (by rfl) (by omega) (by show 30 ≤ 31; omega) (by omega) (by omega) rfl rfl ?_
  refine jT_xiload (v := (0, 3)) (pcN := 331) jIH_379_329 rfl rfl rfl ?_
  refine jT_xicT (pcN := 336) jIH_379_331 rfl (by decide +kernel) rfl ?_
  refine jT_xiload (v := (0, 3)) (pcN := 338) jIH_379_336 rfl rfl rfl ?_
  refine jT_xifT (pcN := 360) jIH_379_338 rfl (by decide +kernel) rfl ?_
  refine jT_xgoto (pcN := 3740) jIH_379_360 rfl ?_
  refine jT_xiinc (x := 0) (z := 5) (LN := [(5, (0, 5)), (7, (0, 0)), (6, (0, 3)), (4, (4, 3)), (3, (4, 2)), (2, (4, 1)), (1, (4, 0)), (0, (6, 0))]) (pcN := 3743) jIH_379_3740 rfl rfl (by decide) rfl rfl ?_
  refine jT_xgoto (pcN := 28) jIH_379_3743 rfl ?_
  refine jT_xiload (v := (0, 5)) (pcN := 30) jIH_379_28 rfl rfl rfl ?_
  refine jT_xaload_n (v := (6, 0)) (pcN := 31) jIH_379_30 rfl rfl rfl ?_
  refine jT_adv 1 (pcN := 32) (LN := [(5, (0, 5)), (7, (0, 0)), (6, (0, 3)), (4, (4, 3)), (3, (4, 2)), (2, (4, 1)), (1, (4, 0)), (0, (6, 0))]) (stN := [(0, 5), (0, 5)]) (hsN := [jzH_372, jzH_418, jgh, jgh, jgh, jgh, jgh, jgh, jgh, jgh, jgh, jgh, jgh, jgh, jgh, jgh, jgh, jgh, jgh, jgh, jgh, (101, [], [q1 - q2, q3 - q4, q5 - q6, q7 - q8, -q10 + q9, q11 - q12]), jgh, jgh, jgh, jgh, jgh, jgh, jgh, jgh, (101, [], [q1 - q2, q3 - q4, q5 - q6, q7 - q8, -q10 + q9, q11 - q12])]) (c1 := 0) (s1 := 0) (c2 := 0) (s2 := 0) (by exact rfl) ?_ (by omega) (by omega)
  refine jT_xiconst (k := 5) (pcN := 33) jIH_379_32 rfl ?_
  refine jT_xisub (x := 5) (y := 5) (z := 0) (pcN := 34) jIH_379_33 rfl (by decide) rfl ?_
  refine jT_xicT (pcN := 3746) jIH_379_34 rfl (by decide +kernel) rfl ?_
  refine jT_xiconst (k := 1) (pcN := 3747) jIH_379_3746 rfl ?_
  exact jT_ret rfl (by decide) (by show 30 ≤ 31; decide) (by omega) (by omega) ⟨rfl, rfl⟩
set_option maxRecDepth 100000 in
theorem jL_0_4 {d : Nat} {x0 x1 x2 x3 x4 : Int} (h_x0 : (-2147483648) ≤ x0 ∧ x0 ≤ 2147483647) (h_x1 : 0 ≤ x1 ∧ x1 ≤ 7) (h_x2 : 1 ≤ x2 ∧ x2 ≤ 1000000) (h_x3 : 1 ≤ x3 ∧ x3 ≤ 1000000) (h_x4 : (-2147483648) ≤ x4 ∧ x4 ≤ 2147483647) (g_0 : (jsu 13 20 (jsu 11 20 (jsu 7 20 (jsu 5 20 (jsu 3 20 (jsu 2 20 (x2.tdiv (((Nat.gcd (x2).natAbs (x3).natAbs : Nat) : Int))))))))) - 2 < 0) (g_1 : 0 ≤ (jsu 13 20 (jsu 11 20 (jsu 7 20 (jsu 5 20 (jsu 3 20 (jsu 2 20 (x3.tdiv (((Nat.gcd (x2).natAbs (x3).natAbs : Nat) : Int))))))))) - 2) : jT [x0, x1, x2, x3, x4] (d + 44) 379 30 276 [(5, (0, 0)), (4, (4, 3)), (3, (4, 2)), (2, (4, 1)), (1, (4, 0)), (0, (6, 0))] [] jpH_417 2 12 (fun k v hsN => k = 0 ∧ v = (0, 1)) := by
  refine jT_xaload_n (v := (4, 0)) (pcN := 277) jIH_379_276 rfl rfl rfl ?_
  refine jT_xaload_n (v := (6, 0)) (pcN := 278) jIH_379_277 rfl rfl rfl ?_
  refine jT_xiload (v := (0, 0)) (pcN := 280) jIH_379_278 rfl rfl rfl ?_
  refine jT_xiconst (k := 1) (pcN := 281) jIH_379_280 rfl ?_
  refine jT_xiadd (x := 0) (y := 1) (z := 1) (pcN := 282) jIH_379_281 rfl (by decide) rfl ?_
  refine jT_adv 1 (pcN := 283) (LN := [(5, (0, 0)), (4, (4, 3)), (3, (4, 2)), (2, (4, 1)), (1, (4, 0)), (0, (6, 0))]) (stN := [(0, x1), (4, 0)]) (hsN := jpH_417) (c1 := 0) (s1 := 0) (c2 := 2) (s2 := 12) (by exact rfl) ?_ (by omega) (by omega)
  refine jT_xaload_n (v := (6, 0)) (pcN := 284) jIH_379_283 rfl rfl rfl ?_
  refine jT_xiload (v := (0, 0)) (pcN := 286) jIH_379_284 rfl rfl rfl ?_
  refine jT_xiconst (k := 2) (pcN := 287) jIH_379_286 rfl ?_
  refine jT_xiadd (x := 0) (y := 2) (z := 2) (pcN := 288) jIH_379_287 rfl (by decide) rfl ?_
  refine jT_adv 1 (pcN := 289) (LN := [(5, (0, 0)), (4, (4, 3)), (3, (4, 2)), (2, (4, 1)), (1, (4, 0)), (0, (6, 0))]) (stN := [(0, x2), (0, x1), (4, 0)]) (hsN := jpH_417) (c1 := 0) (s1 := 0) (c2 := 2) (s2 := 12) (by exact rfl) ?_ (by omega) (by omega)
  refine jT_xaload_n (v := (6, 0)) (pcN := 290) jIH_379_289 rfl rfl rfl ?_
  refine jT_xiload (v := (0, 0)) (pcN := 292) jIH_379_290 rfl rfl rfl ?_
  refine jT_xiconst (k := 3) (pcN := 293) jIH_379_292 rfl ?_
  refine jT_xiadd (x := 0) (y := 3) (z := 3) (pcN := 294) jIH_379_293 rfl (by decide) rfl ?_
  refine jT_adv 1 (pcN := 295) (LN := [(5, (0, 0)), (4, (4, 3)), (3, (4, 2)), (2, (4, 1)), (1, (4, 0)), (0, (6, 0))]) (stN := [(0, x3), (0, x2), (0, x1), (4, 0)]) (hsN := jpH_417) (c1 := 0) (s1 := 0) (c2 := 2) (s2 := 12) (by exact rfl) ?_ (by omega) (by omega)
  refine jT_xaload_n (v := (4, 2)) (pcN := 296) jIH_379_295 rfl rfl rfl ?_
  refine jT_fA [0, 2, 4, 5, 6, 7, 8, 9, 10, 11, 12, 13, 14] 30 (y := 326) (pcN := 299) (dC := 3) (bc1 := 2) (bc2 := 12) (c1 := 0) (c2 := 0) (as := [(4, 0), (0, x1), (0, x2), (0, x3), (4, 2)]) (asC := [(4, 0), (0, x1), (0, x2), (0, x3), (4, 1)]) (LN := [(5, (0, 0)), (4, (4, 3)), (3, (4, 2)), (2, (4, 1)), (1, (4, 0)), (0, (6, 0))]) (stN := []) (hsC := jpH_14) (ex := [(101, [], [(jsc 2 20 (x2.tdiv (((Nat.gcd (x2).natAbs (x3).natAbs : Nat) : Int)))) - (jsc 2 20 (x3.tdiv (((Nat.gcd (x2).natAbs (x3).natAbs : Nat) : Int)))), (jsc 3 20 (jsu 2 20 (x2.tdiv (((Nat.gcd (x2).natAbs (x3).natAbs : Nat) : Int))))) - (jsc 3 20 (jsu 2 20 (x3.tdiv (((Nat.gcd (x2).natAbs (x3).natAbs : Nat) : Int))))), (jsc 5 20 (jsu 3 20 (jsu 2 20 (x2.tdiv (((Nat.gcd (x2).natAbs (x3).natAbs : Nat) : Int)))))) - (jsc 5 20 (jsu 3 20 (jsu 2 20 (x3.tdiv (((Nat.gcd (x2).natAbs (x3).natAbs : Nat) : Int)))))), (jsc 7 20 (jsu 5 20 (jsu 3 20 (jsu 2 20 (x2.tdiv (((Nat.gcd (x2).natAbs (x3).natAbs : Nat) : Int))))))) - (jsc 7 20 (jsu 5 20 (jsu 3 20 (jsu 2 20 (x3.tdiv (((Nat.gcd (x2).natAbs (x3).natAbs : Nat) : Int))))))), -(jsc 11 20 (jsu 7 20 (jsu 5 20 (jsu 3 20 (jsu 2 20 (x3.tdiv (((Nat.gcd (x2).natAbs (x3).natAbs : Nat) : Int)))))))) + (jsc 11 20 (jsu 7 20 (jsu 5 20 (jsu 3 20 (jsu 2 20 (x2.tdiv (((Nat.gcd (x2).natAbs (x3).natAbs : Nat) : Int)))))))), (jsc 13 20 (jsu 11 20 (jsu 7 20 (jsu 5 20 (jsu 3 20 (jsu 2 20 (x2.tdiv (((Nat.gcd (x2).natAbs (x3).natAbs : Nat) : Int))))))))) - (jsc 13 20 (jsu 11 20 (jsu 7 20 (jsu 5 20 (jsu 3 20 (jsu 2 20 (x3.tdiv (((Nat.gcd (x2).natAbs (x3).natAbs : Nat) : Int)))))))))])]) (v := (0, 3)) (st2 := [(0, 3)]) (hs2 := [jzH_372, jzH_373, jgh, jgh, jgh, jgh, jgh, jgh, jgh, jgh, jgh, jgh, jgh, jgh, jgh, jgh, jgh, jgh, jgh, jgh, jgh, (101, [], [0, 0, 0, 0, 0, 0]), jgh, jgh, jgh, jgh, jgh, jgh, jgh, jgh, (101, [], [(jsc 2 20 (x2.tdiv (((Nat.gcd (x2).natAbs (x3).natAbs : Nat) : Int)))) - (jsc 2 20 (x3.tdiv (((Nat.gcd (x2).natAbs (x3).natAbs : Nat) : Int)))), (jsc 3 20 (jsu 2 20 (x2.tdiv (((Nat.gcd (x2).natAbs (x3).natAbs : Nat) : Int))))) - (jsc 3 20 (jsu 2 20 (x3.tdiv (((Nat.gcd (x2).natAbs (x3).natAbs : Nat) : Int))))), (jsc 5 20 (jsu 3 20 (jsu 2 20 (x2.tdiv (((Nat.gcd (x2).natAbs (x3).natAbs : Nat) : Int)))))) - (jsc 5 20 (jsu 3 20 (jsu 2 20 (x3.tdiv (((Nat.gcd (x2).natAbs (x3).natAbs : Nat) : Int)))))), (jsc 7 20 (jsu 5 20 (jsu 3 20 (jsu 2 20 (x2.tdiv (((Nat.gcd (x2).natAbs (x3).natAbs : Nat) : Int))))))) - (jsc 7 20 (jsu 5 20 (jsu 3 20 (jsu 2 20 (x3.tdiv (((Nat.gcd (x2).natAbs (x3).natAbs : Nat) : Int))))))), -(jsc 11 20 (jsu 7 20 (jsu 5 20 (jsu 3 20 (jsu 2 20 (x3.tdiv (((Nat.gcd (x2).natAbs (x3).natAbs : Nat) : Int)))))))) + (jsc 11 20 (jsu 7 20 (jsu 5 20 (jsu 3 20 (jsu 2 20 (x2.tdiv (((Nat.gcd (x2).natAbs (x3).natAbs : Nat) : Int)))))))), (jsc 13 20 (jsu 11 20 (jsu 7 20 (jsu 5 20 (jsu 3 20 (jsu 2 20 (x2.tdiv (((Nat.gcd (x2).natAbs (x3).natAbs : Nat) : Int))))))))) - (jsc 13 20 (jsu 11 20 (jsu 7 20 (jsu 5 20 (jsu 3 20 (jsu 2 20 (x3.tdiv (((Nat.gcd (x2).natAbs (x3).natAbs : Nat) : Int)))))))))])]) (jH_326_61 (d := 0) (by omega) (by omega) (by omega) (by omega) (by omega)) (by rfl) (by rfl) (by decide +kernel) (by rfl) (by rfl) (by omega) (by omega) (by omega) (by omega) rfl rfl ?_
  have hb_q1 := jsc_b (P := 2) (n := 20) (u := (x2.tdiv (((Nat.gcd (x2).natAbs (x3).natAbs : Nat) : Int))))
  have hb_q1 : 0 ≤ jsc 2 20 (x2.tdiv (((Nat.gcd (x2).natAbs (x3).natAbs : Nat) : Int))) ∧ jsc 2 20 (x2.tdiv (((Nat.gcd (x2).natAbs (x3).natAbs : Nat) : Int))) ≤ 20 := ⟨hb_q1.1, by omega⟩
  generalize hq_q1 : jsc 2 20 (x2.tdiv (((Nat.gcd (x2).natAbs (x3).natAbs : Nat) : Int))) = q1 at hb_q1 ⊢
  have hb_q2 := jsc_b (P := 2) (n := 20) (u := (x3.tdiv (((Nat.gcd (x2).natAbs (x3).natAbs : Nat) : Int))))
  have hb_q2 : 0 ≤ jsc 2 20 (x3.tdiv (((Nat.gcd (x2).natAbs (x3).natAbs : Nat) : Int))) ∧ jsc 2 20 (x3.tdiv (((Nat.gcd (x2).natAbs (x3).natAbs : Nat) : Int))) ≤ 20 := ⟨hb_q2.1, by omega⟩
  generalize hq_q2 : jsc 2 20 (x3.tdiv (((Nat.gcd (x2).natAbs (x3).natAbs : Nat) : Int))) = q2 at hb_q2 ⊢
  have hb_q3 := jsc_b (P := 3) (n := 20) (u := (jsu 2 20 (x2.tdiv (((Nat.gcd (x2).natAbs (x3).natAbs : Nat) : Int)))))
  have hb_q3 : 0 ≤ jsc 3 20 (jsu 2 20 (x2.tdiv (((Nat.gcd (x2).natAbs (x3).natAbs : Nat) : Int)))) ∧ jsc 3 20 (jsu 2 20 (x2.tdiv (((Nat.gcd (x2).natAbs (x3).natAbs : Nat) : Int)))) ≤ 20 := ⟨hb_q3.1, by omega⟩
  generalize hq_q3 : jsc 3 20 (jsu 2 20 (x2.tdiv (((Nat.gcd (x2).natAbs (x3).natAbs : Nat) : Int)))) = q3 at hb_q3 ⊢
  have hb_q4 := jsc_b (P := 3) (n := 20) (u := (jsu 2 20 (x3.tdiv (((Nat.gcd (x2).natAbs (x3).natAbs : Nat) : Int)))))
  have hb_q4 : 0 ≤ jsc 3 20 (jsu 2 20 (x3.tdiv (((Nat.gcd (x2).natAbs (x3).natAbs : Nat) : Int)))) ∧ jsc 3 20 (jsu 2 20 (x3.tdiv (((Nat.gcd (x2).natAbs (x3).natAbs : Nat) : Int)))) ≤ 20 := ⟨hb_q4.1, by omega⟩
  generalize hq_q4 : jsc 3 20 (jsu 2 20 (x3.tdiv (((Nat.gcd (x2).natAbs (x3).natAbs : Nat) : Int)))) = q4 at hb_q4 ⊢
  have hb_q5 := jsc_b (P := 5) (n := 20) (u := (jsu 3 20 (jsu 2 20 (x2.tdiv (((Nat.gcd (x2).natAbs (x3).natAbs : Nat) : Int))))))
  have hb_q5 : 0 ≤ jsc 5 20 (jsu 3 20 (jsu 2 20 (x2.tdiv (((Nat.gcd (x2).natAbs (x3).natAbs : Nat) : Int))))) ∧ jsc 5 20 (jsu 3 20 (jsu 2 20 (x2.tdiv (((Nat.gcd (x2).natAbs (x3).natAbs : Nat) : Int))))) ≤ 20 := ⟨hb_q5.1, by omega⟩
  generalize hq_q5 : jsc 5 20 (jsu 3 20 (jsu 2 20 (x2.tdiv (((Nat.gcd (x2).natAbs (x3).natAbs : Nat) : Int))))) = q5 at hb_q5 ⊢
  have hb_q6 := jsc_b (P := 5) (n := 20) (u := (jsu 3 20 (jsu 2 20 (x3.tdiv (((Nat.gcd (x2).natAbs (x3).natAbs : Nat) : Int))))))
  have hb_q6 : 0 ≤ jsc 5 20 (jsu 3 20 (jsu 2 20 (x3.tdiv (((Nat.gcd (x2).natAbs (x3).natAbs : Nat) : Int))))) ∧ jsc 5 20 (jsu 3 20 (jsu 2 20 (x3.tdiv (((Nat.gcd (x2).natAbs (x3).natAbs : Nat) : Int))))) ≤ 20 := ⟨hb_q6.1, by omega⟩
  generalize hq_q6 : jsc 5 20 (jsu 3 20 (jsu 2 20 (x3.tdiv (((Nat.gcd (x2).natAbs (x3).natAbs : Nat) : Int))))) = q6 at hb_q6 ⊢
  have hb_q7 := jsc_b (P := 7) (n := 20) (u := (jsu 5 20 (jsu 3 20 (jsu 2 20 (x2.tdiv (((Nat.gcd (x2).natAbs (x3).natAbs : Nat) : Int)))))))
  have hb_q7 : 0 ≤ jsc 7 20 (jsu 5 20 (jsu 3 20 (jsu 2 20 (x2.tdiv (((Nat.gcd (x2).natAbs (x3).natAbs : Nat) : Int)))))) ∧ jsc 7 20 (jsu 5 20 (jsu 3 20 (jsu 2 20 (x2.tdiv (((Nat.gcd (x2).natAbs (x3).natAbs : Nat) : Int)))))) ≤ 20 := ⟨hb_q7.1, by omega⟩
  generalize hq_q7 : jsc 7 20 (jsu 5 20 (jsu 3 20 (jsu 2 20 (x2.tdiv (((Nat.gcd (x2).natAbs (x3).natAbs : Nat) : Int)))))) = q7 at hb_q7 ⊢
  have hb_q8 := jsc_b (P := 7) (n := 20) (u := (jsu 5 20 (jsu 3 20 (jsu 2 20 (x3.tdiv (((Nat.gcd (x2).natAbs (x3).natAbs : Nat) : Int)))))))
  have hb_q8 : 0 ≤ jsc 7 20 (jsu 5 20 (jsu 3 20 (jsu 2 20 (x3.tdiv (((Nat.gcd (x2).natAbs (x3).natAbs : Nat) : Int)))))) ∧ jsc 7 20 (jsu 5 20 (jsu 3 20 (jsu 2 20 (x3.tdiv (((Nat.gcd (x2).natAbs (x3).natAbs : Nat) : Int)))))) ≤ 20 := ⟨hb_q8.1, by omega⟩
  generalize hq_q8 : jsc 7 20 (jsu 5 20 (jsu 3 20 (jsu 2 20 (x3.tdiv (((Nat.gcd (x2).natAbs (x3).natAbs : Nat) : Int)))))) = q8 at hb_q8 ⊢
  have hb_q9 := jsc_b (P := 11) (n := 20) (u := (jsu 7 20 (jsu 5 20 (jsu 3 20 (jsu 2 20 (x2.tdiv (((Nat.gcd (x2).natAbs (x3).natAbs : Nat) : Int))))))))
  have hb_q9 : 0 ≤ jsc 11 20 (jsu 7 20 (jsu 5 20 (jsu 3 20 (jsu 2 20 (x2.tdiv (((Nat.gcd (x2).natAbs (x3).natAbs : Nat) : Int))))))) ∧ jsc 11 20 (jsu 7 20 (jsu 5 20 (jsu 3 20 (jsu 2 20 (x2.tdiv (((Nat.gcd (x2).natAbs (x3).natAbs : Nat) : Int))))))) ≤ 20 := ⟨hb_q9.1, by omega⟩
  generalize hq_q9 : jsc 11 20 (jsu 7 20 (jsu 5 20 (jsu 3 20 (jsu 2 20 (x2.tdiv (((Nat.gcd (x2).natAbs (x3).natAbs : Nat) : Int))))))) = q9 at hb_q9 ⊢
  have hb_q10 := jsc_b (P := 11) (n := 20) (u := (jsu 7 20 (jsu 5 20 (jsu 3 20 (jsu 2 20 (x3.tdiv (((Nat.gcd (x2).natAbs (x3).natAbs : Nat) : Int))))))))
  have hb_q10 : 0 ≤ jsc 11 20 (jsu 7 20 (jsu 5 20 (jsu 3 20 (jsu 2 20 (x3.tdiv (((Nat.gcd (x2).natAbs (x3).natAbs : Nat) : Int))))))) ∧ jsc 11 20 (jsu 7 20 (jsu 5 20 (jsu 3 20 (jsu 2 20 (x3.tdiv (((Nat.gcd (x2).natAbs (x3).natAbs : Nat) : Int))))))) ≤ 20 := ⟨hb_q10.1, by omega⟩
  generalize hq_q10 : jsc 11 20 (jsu 7 20 (jsu 5 20 (jsu 3 20 (jsu 2 20 (x3.tdiv (((Nat.gcd (x2).natAbs (x3).natAbs : Nat) : Int))))))) = q10 at hb_q10 ⊢
  have hb_q11 := jsc_b (P := 13) (n := 20) (u := (jsu 11 20 (jsu 7 20 (jsu 5 20 (jsu 3 20 (jsu 2 20 (x2.tdiv (((Nat.gcd (x2).natAbs (x3).natAbs : Nat) : Int)))))))))
  have hb_q11 : 0 ≤ jsc 13 20 (jsu 11 20 (jsu 7 20 (jsu 5 20 (jsu 3 20 (jsu 2 20 (x2.tdiv (((Nat.gcd (x2).natAbs (x3).natAbs : Nat) : Int)))))))) ∧ jsc 13 20 (jsu 11 20 (jsu 7 20 (jsu 5 20 (jsu 3 20 (jsu 2 20 (x2.tdiv (((Nat.gcd (x2).natAbs (x3).natAbs : Nat) : Int)))))))) ≤ 20 := ⟨hb_q11.1, by omega⟩
  generalize hq_q11 : jsc 13 20 (jsu 11 20 (jsu 7 20 (jsu 5 20 (jsu 3 20 (jsu 2 20 (x2.tdiv (((Nat.gcd (x2).natAbs (x3).natAbs : Nat) : Int)))))))) = q11 at hb_q11 ⊢
  have hb_q12 := jsc_b (P := 13) (n := 20) (u := (jsu 11 20 (jsu 7 20 (jsu 5 20 (jsu 3 20 (jsu 2 20 (x3.tdiv (((Nat.gcd (x2).natAbs (x3).natAbs : Nat) : Int)))))))))
  have hb_q12 : 0 ≤ jsc 13 20 (jsu 11 20 (jsu 7 20 (jsu 5 20 (jsu 3 20 (jsu 2 20 (x3.tdiv (((Nat.gcd (x2).natAbs (x3).natAbs : Nat) : Int)))))))) ∧ jsc 13 20 (jsu 11 20 (jsu 7 20 (jsu 5 20 (jsu 3 20 (jsu 2 20 (x3.tdiv (((Nat.gcd (x2).natAbs (x3).natAbs : Nat) : Int)))))))) ≤ 20 := ⟨hb_q12.1, by omega⟩
  generalize hq_q12 : jsc 13 20 (jsu 11 20 (jsu 7 20 (jsu 5 20 (jsu 3 20 (jsu 2 20 (x3.tdiv (((Nat.gcd (x2).natAbs (x3).natAbs : Nat) : Int)))))))) = q12 at hb_q12 ⊢
  refine jT_eq (LN := [(5, (0, 0)), (4, (4, 3)), (3, (4, 2)), (2, (4, 1)), (1, (4, 0)), (0, (6, 0))]) (stN := [(0, 3)]) (hsN := [jzH_372, jzH_373, jgh, jgh, jgh, jgh, jgh, jgh, jgh, jgh, jgh, jgh, jgh, jgh, jgh, jgh, jgh, jgh, jgh, jgh, jgh, (101, [], [0, 0, 0, 0, 0, 0]), jgh, jgh, jgh, jgh, jgh, jgh, jgh, jgh, (101, [], [q1 - q2, q3 - q4, q5 - q6, q7 - q8, -q10 + q9, q11 - q12])]) (rfl) (rfl) (by simp only [List.cons.injEq, Prod.mk.injEq, and_true, true_and] <;> ((try unfold jw); (try unfold jwl); omega)) ?_
  refine jT_xistore (v := (0, 3)) (LN := [(6, (0, 3)), (5, (0, 0)), (4, (4, 3)), (3, (4, 2)), (2, (4, 1)), (1, (4, 0)), (0, (6, 0))]) (pcN := 301) jIH_379_299 rfl rfl rfl rfl ?_
  refine jT_xaload_n (v := (4, 1)) (pcN := 302) jIH_379_301 rfl rfl rfl ?_
  refine jT_xaload_n (v := (6, 0)) (pcN := 303) jIH_379_302 rfl rfl rfl ?_
  refine jT_xiload (v := (0, 0)) (pcN := 305) jIH_379_303 rfl rfl rfl ?_
  refine jT_xiconst (k := 1) (pcN := 306) jIH_379_305 rfl ?_
  refine jT_xiadd (x := 0) (y := 1) (z := 1) (pcN := 307) jIH_379_306 rfl (by decide) rfl ?_
  refine jT_adv 1 (pcN := 308) (LN := [(6, (0, 3)), (5, (0, 0)), (4, (4, 3)), (3, (4, 2)), (2, (4, 1)), (1, (4, 0)), (0, (6, 0))]) (stN := [(0, x1), (4, 1)]) (hsN := [jzH_372, jzH_373, jgh, jgh, jgh, jgh, jgh, jgh, jgh, jgh, jgh, jgh, jgh, jgh, jgh, jgh, jgh, jgh, jgh, jgh, jgh, (101, [], [0, 0, 0, 0, 0, 0]), jgh, jgh, jgh, jgh, jgh, jgh, jgh, jgh, (101, [], [q1 - q2, q3 - q4, q5 - q6, q7 - q8, -q10 + q9, q11 - q12])]) (c1 := 0) (s1 := 0) (c2 := 0) (s2 := 0) (by exact rfl) ?_ (by omega) (by omega)
  refine jT_xaload_n (v := (6, 0)) (pcN := 309) jIH_379_308 rfl rfl rfl ?_
  refine jT_xiload (v := (0, 0)) (pcN := 311) jIH_379_309 rfl rfl rfl ?_
  refine jT_xiconst (k := 2) (pcN := 312) jIH_379_311 rfl ?_
  refine jT_xiadd (x := 0) (y := 2) (z := 2) (pcN := 313) jIH_379_312 rfl (by decide) rfl ?_
  refine jT_adv 1 (pcN := 314) (LN := [(6, (0, 3)), (5, (0, 0)), (4, (4, 3)), (3, (4, 2)), (2, (4, 1)), (1, (4, 0)), (0, (6, 0))]) (stN := [(0, x2), (0, x1), (4, 1)]) (hsN := [jzH_372, jzH_373, jgh, jgh, jgh, jgh, jgh, jgh, jgh, jgh, jgh, jgh, jgh, jgh, jgh, jgh, jgh, jgh, jgh, jgh, jgh, (101, [], [0, 0, 0, 0, 0, 0]), jgh, jgh, jgh, jgh, jgh, jgh, jgh, jgh, (101, [], [q1 - q2, q3 - q4, q5 - q6, q7 - q8, -q10 + q9, q11 - q12])]) (c1 := 0) (s1 := 0) (c2 := 0) (s2 := 0) (by exact rfl) ?_ (by omega) (by omega)
  refine jT_xaload_n (v := (6, 0)) (pcN := 315) jIH_379_314 rfl rfl rfl ?_
  refine jT_xiload (v := (0, 0)) (pcN := 317) jIH_379_315 rfl rfl rfl ?_
  refine jT_xiconst (k := 3) (pcN := 318) jIH_379_317 rfl ?_
  refine jT_xiadd (x := 0) (y := 3) (z := 3) (pcN := 319) jIH_379_318 rfl (by decide) rfl ?_
  refine jT_adv 1 (pcN := 320) (LN := [(6, (0, 3)), (5, (0, 0)), (4, (4, 3)), (3, (4, 2)), (2, (4, 1)), (1, (4, 0)), (0, (6, 0))]) (stN := [(0, x3), (0, x2), (0, x1), (4, 1)]) (hsN := [jzH_372, jzH_373, jgh, jgh, jgh, jgh, jgh, jgh, jgh, jgh, jgh, jgh, jgh, jgh, jgh, jgh, jgh, jgh, jgh, jgh, jgh, (101, [], [0, 0, 0, 0, 0, 0]), jgh, jgh, jgh, jgh, jgh, jgh, jgh, jgh, (101, [], [q1 - q2, q3 - q4, q5 - q6, q7 - q8, -q10 + q9, q11 - q12])]) (c1 := 0) (s1 := 0) (c2 := 0) (s2 := 0) (by exact rfl) ?_ (by omega) (by omega)
  refine jT_callB [1, 15, 16, 17, 18, 19, 20, 21, 22, 23, 24, 25, 26, 27, 28, 29] (y := 187) (pcN := 323) (dC := 43) (bc1 := 0) (bc2 := 0) (c1 := 0) (c2 := 0) (as := [(4, 1), (0, x1), (0, x2), (0, x3)]) (asC := [(4, 0), (0, x1), (0, x2), (0, x3)]) (LN := [(6, (0, 3)), (5, (0, 0)), (4, (4, 3)), (3, (4, 2)), (2, (4, 1)), (1, (4, 0)), (0, (6, 0))]) (stN := []) (hsC := jpH_134) (hsD := [jzH_185, jgh, jgh, jgh, jgh, jgh, jgh, (101, [], [(jsc 2 20 (x2.tdiv (((Nat.gcd (x2).natAbs (x3).natAbs : Nat) : Int)))) - (jsc 2 20 (x3.tdiv (((Nat.gcd (x2).natAbs (x3).natAbs : Nat) : Int)))), (jsc 3 20 (jsu 2 20 (x2.tdiv (((Nat.gcd (x2).natAbs (x3).natAbs : Nat) : Int))))) - (jsc 3 20 (jsu 2 20 (x3.tdiv (((Nat.gcd (x2).natAbs (x3).natAbs : Nat) : Int))))), (jsc 5 20 (jsu 3 20 (jsu 2 20 (x2.tdiv (((Nat.gcd (x2).natAbs (x3).natAbs : Nat) : Int)))))) - (jsc 5 20 (jsu 3 20 (jsu 2 20 (x3.tdiv (((Nat.gcd (x2).natAbs (x3).natAbs : Nat) : Int)))))), (jsc 7 20 (jsu 5 20 (jsu 3 20 (jsu 2 20 (x2.tdiv (((Nat.gcd (x2).natAbs (x3).natAbs : Nat) : Int))))))) - (jsc 7 20 (jsu 5 20 (jsu 3 20 (jsu 2 20 (x3.tdiv (((Nat.gcd (x2).natAbs (x3).natAbs : Nat) : Int))))))), -(jsc 11 20 (jsu 7 20 (jsu 5 20 (jsu 3 20 (jsu 2 20 (x3.tdiv (((Nat.gcd (x2).natAbs (x3).natAbs : Nat) : Int)))))))) + (jsc 11 20 (jsu 7 20 (jsu 5 20 (jsu 3 20 (jsu 2 20 (x2.tdiv (((Nat.gcd (x2).natAbs (x3).natAbs : Nat) : Int)))))))), (jsc 13 20 (jsu 11 20 (jsu 7 20 (jsu 5 20 (jsu 3 20 (jsu 2 20 (x2.tdiv (((Nat.gcd (x2).natAbs (x3).natAbs : Nat) : Int))))))))) - (jsc 13 20 (jsu 11 20 (jsu 7 20 (jsu 5 20 (jsu 3 20 (jsu 2 20 (x3.tdiv (((Nat.gcd (x2).natAbs (x3).natAbs : Nat) : Int)))))))))]), jgh, jgh, jgh, jgh, jgh, jgh, jgh, jgh]) (v := (0, 0)) (st2 := [(0, 0)]) (hs2 := [jzH_372, jzH_418, jgh, jgh, jgh, jgh, jgh, jgh, jgh, jgh, jgh, jgh, jgh, jgh, jgh, jgh, jgh, jgh, jgh, jgh, jgh, (101, [], [(jsc 2 20 (x2.tdiv (((Nat.gcd (x2).natAbs (x3).natAbs : Nat) : Int)))) - (jsc 2 20 (x3.tdiv (((Nat.gcd (x2).natAbs (x3).natAbs : Nat) : Int)))), (jsc 3 20 (jsu 2 20 (x2.tdiv (((Nat.gcd (x2).natAbs (x3).natAbs : Nat) : Int))))) - (jsc 3 20 (jsu 2 20 (x3.tdiv (((Nat.gcd (x2).natAbs (x3).natAbs : Nat) : Int))))), (jsc 5 20 (jsu 3 20 (jsu 2 20 (x2.tdiv (((Nat.gcd (x2).natAbs (x3).natAbs : Nat) : Int)))))) - (jsc 5 20 (jsu 3 20 (jsu 2 20 (x3.tdiv (((Nat.gcd (x2).natAbs (x3).natAbs : Nat) : Int)))))), (jsc 7 20 (jsu 5 20 (jsu 3 20 (jsu 2 20 (x2.tdiv (((Nat.gcd (x2).natAbs (x3).natAbs : Nat) : Int))))))) - (jsc 7 20 (jsu 5 20 (jsu 3 20 (jsu 2 20 (x3.tdiv (((Nat.gcd (x2).natAbs (x3).natAbs : Nat) : Int))))))), -(jsc 11 20 (jsu 7 20 (jsu 5 20 (jsu 3 20 (jsu 2 20 (x3.tdiv (((Nat.gcd (x2).natAbs (x3).natAbs : Nat) : Int)))))))) + (jsc 11 20 (jsu 7 20 (jsu 5 20 (jsu 3 20 (jsu 2 20 (x2.tdiv (((Nat.gcd (x2).natAbs (x3).natAbs : Nat) : Int)))))))), (jsc 13 20 (jsu 11 20 (jsu 7 20 (jsu 5 20 (jsu 3 20 (jsu 2 20 (x2.tdiv (((Nat.gcd (x2).natAbs (x3).natAbs : Nat) : Int))))))))) - (jsc 13 20 (jsu 11 20 (jsu 7 20 (jsu 5 20 (jsu 3 20 (jsu 2 20 (x3.tdiv (((Nat.gcd (x2).natAbs (x3).natAbs : Nat) : Int)))))))))]), jgh, jgh, jgh, jgh, jgh, jgh, jgh, jgh, (101, [], [q1 - q2, q3 - q4, q5 - q6, q7 - q8, -q10 + q9, q11 - q12])]) (jH_187_63 (d := 0) (by omega) (by omega) (by omega) (by omega) (by omega)) (by rfl) (by rfl) (by rfl) (by rfl) ⟨rfl, rfl, rfl, rfl, rfl, rfl, rfl, rfl, rfl, rfl, rfl, rfl, rfl, rfl, rfl, rfl, trivial⟩ (by rfl) (by rfl) (by omega) (by show 30 ≤ 31; omega) (by omega) (by omega) rfl rfl ?_
  rw [hq_q1]
  rw [hq_q2]
  rw [hq_q3]
  rw [hq_q4]
  rw [hq_q5]
  rw [hq_q6]
  rw [hq_q7]
  rw [hq_q8]
  rw [hq_q9]
  rw [hq_q10]
  rw [hq_q11]
  rw [hq_q12]
  refine jT_eq (LN := [(6, (0, 3)), (5, (0, 0)), (4, (4, 3)), (3, (4, 2)), (2, (4, 1)), (1, (4, 0)), (0, (6, 0))]) (stN := [(0, 0)]) (hsN := [jzH_372, jzH_418, jgh, jgh, jgh, jgh, jgh, jgh, jgh, jgh, jgh, jgh, jgh, jgh, jgh, jgh, jgh, jgh, jgh, jgh, jgh, (101, [], [q1 - q2, q3 - q4, q5 - q6, q7 - q8, -q10 + q9, q11 - q12]), jgh, jgh, jgh, jgh, jgh, jgh, jgh, jgh, (101, [], [q1 - q2, q3 - q4, q5 - q6, q7 - q8, -q10 + q9, q11 - q12])]) (rfl) (rfl) (by simp only [List.cons.injEq, Prod.mk.injEq, and_true, true_and] <;> ((try unfold jw); (try unfold jwl); omega)) ?_
  refine jT_xistore (v := (0, 0)) (LN := [(7, (0, 0)), (6, (0, 3)), (5, (0, 0)), (4, (4, 3)), (3, (4, 2)), (2, (4, 1)), (1, (4, 0)), (0, (6, 0))]) (pcN := 325) jIH_379_323 rfl rfl rfl rfl ?_
  refine jT_xaload_n (v := (4, 1)) (pcN := 326) jIH_379_325 rfl rfl rfl ?_
  refine jT_callA [1, 15, 16, 17, 18, 19, 20, 21, 22, 23, 24, 25, 26, 27, 28, 29] (y := 186) (pcN := 329) (dC := 0) (bc1 := 0) (bc2 := 0) (c1 := 0) (c2 := 0) (as := [(4, 1)]) (asC := [(4, 0)]) (LN := [(7, (0, 0)), (6, (0, 3)), (5, (0, 0)), (4, (4, 3)), (3, (4, 2)), (2, (4, 1)), (1, (4, 0)), (0, (6, 0))]) (stN := []) (hsC := jpH_186) (ex := []) (v := (0, 3)) (st2 := [(0, 3)]) (hs2 := [jzH_372, jzH_418, jgh, jgh, jgh, jgh, jgh, jgh, jgh, jgh, jgh, jgh, jgh, jgh, jgh, jgh, jgh, jgh, jgh, jgh, jgh, (101, [], [q1 - q2, q3 - q4, q5 - q6, q7 - q8, -q10 + q9, q11 - q12]), jgh, jgh, jgh, jgh, jgh, jgh, jgh, jgh, (101, [], [q1 - q2, q3 - q4, q5 - q6, q7 - q8, -q10 + q9, q11 - q12])]) (jH_186_58 (d := 0)) (by rfl) (by rfl) (by rfl) (by rfl) ⟨rfl, rfl, rfl, rfl, rfl, rfl, rfl, rfl, rfl, rfl, rfl, rfl, rfl, rfl, rfl, rfl, trivial⟩ (by rfl) (by rfl) (by omega) (by show 30 ≤ 31; omega) (by omega) (by omega) rfl rfl ?_
  refine jT_xiload (v := (0, 3)) (pcN := 331) jIH_379_329 rfl rfl rfl ?_
  refine jT_xicT (pcN := 336) jIH_379_331 rfl (by decide +kernel) rfl ?_
  refine jT_xiload (v := (0, 3)) (pcN := 338) jIH_379_336 rfl rfl rfl ?_
  refine jT_xifT (pcN := 360) jIH_379_338 rfl (by decide +kernel) rfl ?_
  refine jT_xgoto (pcN := 3740) jIH_379_360 rfl ?_
  refine jT_xiinc (x := 0) (z := 5) (LN := [(5, (0, 5)), (7, (0, 0)), (6, (0, 3)), (4, (4, 3)), (3, (4, 2)), (2, (4, 1)), (1, (4, 0)), (0, (6, 0))]) (pcN := 3743) jIH_379_3740 rfl rfl (by decide) rfl rfl ?_
  refine jT_xgoto (pcN := 28) jIH_379_3743 rfl ?_
  refine jT_xiload (v := (0, 5)) (pcN := 30) jIH_379_28 rfl rfl rfl ?_
  refine jT_xaload_n (v := (6, 0)) (pcN := 31) jIH_379_30 rfl rfl rfl ?_
  refine jT_adv 1 (pcN := 32) (LN := [(5, (0, 5)), (7, (0, 0)), (6, (0, 3)), (4, (4, 3)), (3, (4, 2)), (2, (4, 1)), (1, (4, 0)), (0, (6, 0))]) (stN := [(0, 5), (0, 5)]) (hsN := [jzH_372, jzH_418, jgh, jgh, jgh, jgh, jgh, jgh, jgh, jgh, jgh, jgh, jgh, jgh, jgh, jgh, jgh, jgh, jgh, jgh, jgh, (101, [], [q1 - q2, q3 - q4, q5 - q6, q7 - q8, -q10 + q9, q11 - q12]), jgh, jgh, jgh, jgh, jgh, jgh, jgh, jgh, (101, [], [q1 - q2, q3 - q4, q5 - q6, q7 - q8, -q10 + q9, q11 - q12])]) (c1 := 0) (s1 := 0) (c2 := 0) (s2 := 0) (by exact rfl) ?_ (by omega) (by omega)
  refine jT_xiconst (k := 5) (pcN := 33) jIH_379_32 rfl ?_
  refine jT_xisub (x := 5) (y := 5) (z := 0) (pcN := 34) jIH_379_33 rfl (by decide) rfl ?_
  refine jT_xicT (pcN := 3746) jIH_379_34 rfl (by decide +kernel) rfl ?_
  refine jT_xiconst (k := 1) (pcN := 3747) jIH_379_3746 rfl ?_
  exact jT_ret rfl (by decide) (by show 30 ≤ 31; decide) (by omega) (by omega) ⟨rfl, rfl⟩
def jzH_419 : JC := (9, [(4, 30), (4, 31), (4, 32), (4, 33), (4, 34)], [])
def jzH_420 : JC := (130, [], [35, 36, 37, 38, 39, 40, 41, 42])
def jzH_421 : JC := (114, [], [43, 43, 43, 43, 43, 43, 43, 43])
def jpH_422 : List JC := [jzH_372, jzH_373, (101, [], [0]), jgh, jgh, jgh, jgh, jgh, jgh, jgh, jgh, jgh, jgh, jzH_286, jzH_419, (100, [], jS0), (100, [], []), jzH_420, jzH_316, jgh, jgh, (101, [], [0, 0, 0, 0, 0, 0]), jgh, jgh, jgh, jgh, jgh, jgh, jgh, jgh, jzH_421, jgh, jgh, jgh, jgh, (100, [], (List.replicate 1613 0)), jgh, jgh, jgh, jgh, jgh, jgh, jgh, jgh]
def jzH_423 : JC := (13, [(4, 4), (4, 5), (4, 6), (4, 7), (4, 8), (4, 9), (4, 10), (4, 11), (4, 12), (4, 13), (0, 1), (4, 47), (0, 0)], [])
def jzH_424 : JC := (119, [], [14, (-1), (-1), (-1), (-1), (-1), (-1), (-1)])
def jzH_425 : JC := (9, [(4, 46), (4, 31), (4, 32), (4, 33), (4, 34)], [])
def jzH_426 : JC := (14, [(0, 0), (4, 15), (4, 16), (4, 17), (4, 18), (0, 1), (4, 19), (0, 0), (4, 20), (4, 21), (1, 1), (4, 22), (0, 0), (4, 23), (0, 0), (0, 0), (0, 0), (0, 0), (0, 0), (0, 0), (0, 0), (4, 24), (4, 25), (4, 26), (4, 27), (4, 28), (4, 29), (0, 0)], [])
def jzH_427 : JC := (130, [], [16, (-1), (-1), (-1), (-1), (-1), (-1), (-1)])
theorem jIH_379_341 : jmI (jm 379) 341 = (.aload_n 3, 1) := by rfl
theorem jIH_379_342 : jmI (jm 379) 342 = (.iconst 0, 1) := by rfl
theorem jIH_379_343 : jmI (jm 379) 343 = (.laload, 1) := by rfl
theorem jIH_379_344 : jmI (jm 379) 344 = (.iload 7, 2) := by rfl
theorem jIH_379_346 : jmI (jm 379) 346 = (.ifCond .eq 7, 3) := by rfl
theorem jIH_379_349 : jmI (jm 379) 349 = (.lconst 1, 1) := by rfl
theorem jIH_379_350 : jmI (jm 379) 350 = (.goto 4, 3) := by rfl
theorem jIH_379_355 : jmI (jm 379) 355 = (.ifCond .eq 5, 3) := by rfl
set_option maxRecDepth 100000 in
theorem jL_0_5 {d : Nat} {x0 x1 x2 x3 x4 : Int} (h_x0 : (-2147483648) ≤ x0 ∧ x0 ≤ 2147483647) (h_x1 : 0 ≤ x1 ∧ x1 ≤ 7) (h_x2 : 1 ≤ x2 ∧ x2 ≤ 1000000) (h_x3 : 1 ≤ x3 ∧ x3 ≤ 1000000) (h_x4 : (-2147483648) ≤ x4 ∧ x4 ≤ 2147483647) (g_0 : (jsu 13 20 (jsu 11 20 (jsu 7 20 (jsu 5 20 (jsu 3 20 (jsu 2 20 (x2.tdiv (((Nat.gcd (x2).natAbs (x3).natAbs : Nat) : Int))))))))) - 2 < 0) (g_1 : (jsu 13 20 (jsu 11 20 (jsu 7 20 (jsu 5 20 (jsu 3 20 (jsu 2 20 (x3.tdiv (((Nat.gcd (x2).natAbs (x3).natAbs : Nat) : Int))))))))) - 2 < 0) (g_2 : 0 ≤ x2 - x3 - 1) : jT [x0, x1, x2, x3, x4] (d + 44) 379 44 276 [(5, (0, 0)), (4, (4, 3)), (3, (4, 2)), (2, (4, 1)), (1, (4, 0)), (0, (6, 0))] [] jpH_422 4 21 (fun k v hsN => k = 0 ∧ v = (0, 1)) := by
  refine jT_xaload_n (v := (4, 0)) (pcN := 277) jIH_379_276 rfl rfl rfl ?_
  refine jT_xaload_n (v := (6, 0)) (pcN := 278) jIH_379_277 rfl rfl rfl ?_
  refine jT_xiload (v := (0, 0)) (pcN := 280) jIH_379_278 rfl rfl rfl ?_
  refine jT_xiconst (k := 1) (pcN := 281) jIH_379_280 rfl ?_
  refine jT_xiadd (x := 0) (y := 1) (z := 1) (pcN := 282) jIH_379_281 rfl (by decide) rfl ?_
  refine jT_adv 1 (pcN := 283) (LN := [(5, (0, 0)), (4, (4, 3)), (3, (4, 2)), (2, (4, 1)), (1, (4, 0)), (0, (6, 0))]) (stN := [(0, x1), (4, 0)]) (hsN := jpH_422) (c1 := 0) (s1 := 0) (c2 := 4) (s2 := 21) (by exact rfl) ?_ (by omega) (by omega)
  refine jT_xaload_n (v := (6, 0)) (pcN := 284) jIH_379_283 rfl rfl rfl ?_
  refine jT_xiload (v := (0, 0)) (pcN := 286) jIH_379_284 rfl rfl rfl ?_
  refine jT_xiconst (k := 2) (pcN := 287) jIH_379_286 rfl ?_
  refine jT_xiadd (x := 0) (y := 2) (z := 2) (pcN := 288) jIH_379_287 rfl (by decide) rfl ?_
  refine jT_adv 1 (pcN := 289) (LN := [(5, (0, 0)), (4, (4, 3)), (3, (4, 2)), (2, (4, 1)), (1, (4, 0)), (0, (6, 0))]) (stN := [(0, x2), (0, x1), (4, 0)]) (hsN := jpH_422) (c1 := 0) (s1 := 0) (c2 := 4) (s2 := 21) (by exact rfl) ?_ (by omega) (by omega)
  refine jT_xaload_n (v := (6, 0)) (pcN := 290) jIH_379_289 rfl rfl rfl ?_
  refine jT_xiload (v := (0, 0)) (pcN := 292) jIH_379_290 rfl rfl rfl ?_
  refine jT_xiconst (k := 3) (pcN := 293) jIH_379_292 rfl ?_
  refine jT_xiadd (x := 0) (y := 3) (z := 3) (pcN := 294) jIH_379_293 rfl (by decide) rfl ?_
  refine jT_adv 1 (pcN := 295) (LN := [(5, (0, 0)), (4, (4, 3)), (3, (4, 2)), (2, (4, 1)), (1, (4, 0)), (0, (6, 0))]) (stN := [(0, x3), (0, x2), (0, x1), (4, 0)]) (hsN := jpH_422) (c1 := 0) (s1 := 0) (c2 := 4) (s2 := 21) (by exact rfl) ?_ (by omega) (by omega)
  refine jT_xaload_n (v := (4, 2)) (pcN := 296) jIH_379_295 rfl rfl rfl ?_
  refine jT_fB [0, 2, 4, 5, 6, 7, 8, 9, 10, 11, 12, 13, 14, 30, 31, 32, 33, 34, 43] 44 (y := 326) (pcN := 299) (dC := 4) (bc1 := 4) (bc2 := 21) (c1 := 0) (c2 := 0) (as := [(4, 0), (0, x1), (0, x2), (0, x3), (4, 2)]) (asC := [(4, 0), (0, x1), (0, x2), (0, x3), (4, 1)]) (LN := [(5, (0, 0)), (4, (4, 3)), (3, (4, 2)), (2, (4, 1)), (1, (4, 0)), (0, (6, 0))]) (stN := []) (hsC := jpH_312) (hsD := [jzH_304, (101, [], [1]), jgh, jgh, jgh, jgh, jgh, jgh, jgh, jgh, jgh, jzH_283, jzH_284, jzH_305, jgh, jgh, jgh, jgh, jgh, (101, [], [(jsc 2 20 (x2.tdiv (((Nat.gcd (x2).natAbs (x3).natAbs : Nat) : Int)))) - (jsc 2 20 (x3.tdiv (((Nat.gcd (x2).natAbs (x3).natAbs : Nat) : Int)))), (jsc 3 20 (jsu 2 20 (x2.tdiv (((Nat.gcd (x2).natAbs (x3).natAbs : Nat) : Int))))) - (jsc 3 20 (jsu 2 20 (x3.tdiv (((Nat.gcd (x2).natAbs (x3).natAbs : Nat) : Int))))), (jsc 5 20 (jsu 3 20 (jsu 2 20 (x2.tdiv (((Nat.gcd (x2).natAbs (x3).natAbs : Nat) : Int)))))) - (jsc 5 20 (jsu 3 20 (jsu 2 20 (x3.tdiv (((Nat.gcd (x2).natAbs (x3).natAbs : Nat) : Int)))))), (jsc 7 20 (jsu 5 20 (jsu 3 20 (jsu 2 20 (x2.tdiv (((Nat.gcd (x2).natAbs (x3).natAbs : Nat) : Int))))))) - (jsc 7 20 (jsu 5 20 (jsu 3 20 (jsu 2 20 (x3.tdiv (((Nat.gcd (x2).natAbs (x3).natAbs : Nat) : Int))))))), -(jsc 11 20 (jsu 7 20 (jsu 5 20 (jsu 3 20 (jsu 2 20 (x3.tdiv (((Nat.gcd (x2).natAbs (x3).natAbs : Nat) : Int)))))))) + (jsc 11 20 (jsu 7 20 (jsu 5 20 (jsu 3 20 (jsu 2 20 (x2.tdiv (((Nat.gcd (x2).natAbs (x3).natAbs : Nat) : Int)))))))), (jsc 13 20 (jsu 11 20 (jsu 7 20 (jsu 5 20 (jsu 3 20 (jsu 2 20 (x2.tdiv (((Nat.gcd (x2).natAbs (x3).natAbs : Nat) : Int))))))))) - (jsc 13 20 (jsu 11 20 (jsu 7 20 (jsu 5 20 (jsu 3 20 (jsu 2 20 (x3.tdiv (((Nat.gcd (x2).natAbs (x3).natAbs : Nat) : Int)))))))))]), (4, [(4, 19), (1, 1)], []), jgh, jzH_306]) (v := (0, 0)) (st2 := [(0, 0)]) (hs2 := [jzH_423, jzH_373, (101, [], [1]), jgh, jgh, jgh, jgh, jgh, jgh, jgh, jgh, jgh, jgh, jzH_424, jzH_419, (100, [], jS0), (100, [], []), jzH_420, jzH_316, jgh, jgh, (101, [], [0, 0, 0, 0, 0, 0]), jgh, jgh, jgh, jgh, jgh, jgh, jgh, jgh, jzH_421, jgh, jgh, jgh, jgh, (100, [], (List.replicate 1613 0)), jgh, jgh, jgh, jgh, jgh, jgh, jgh, jgh, (101, [], [(jsc 2 20 (x2.tdiv (((Nat.gcd (x2).natAbs (x3).natAbs : Nat) : Int)))) - (jsc 2 20 (x3.tdiv (((Nat.gcd (x2).natAbs (x3).natAbs : Nat) : Int)))), (jsc 3 20 (jsu 2 20 (x2.tdiv (((Nat.gcd (x2).natAbs (x3).natAbs : Nat) : Int))))) - (jsc 3 20 (jsu 2 20 (x3.tdiv (((Nat.gcd (x2).natAbs (x3).natAbs : Nat) : Int))))), (jsc 5 20 (jsu 3 20 (jsu 2 20 (x2.tdiv (((Nat.gcd (x2).natAbs (x3).natAbs : Nat) : Int)))))) - (jsc 5 20 (jsu 3 20 (jsu 2 20 (x3.tdiv (((Nat.gcd (x2).natAbs (x3).natAbs : Nat) : Int)))))), (jsc 7 20 (jsu 5 20 (jsu 3 20 (jsu 2 20 (x2.tdiv (((Nat.gcd (x2).natAbs (x3).natAbs : Nat) : Int))))))) - (jsc 7 20 (jsu 5 20 (jsu 3 20 (jsu 2 20 (x3.tdiv (((Nat.gcd (x2).natAbs (x3).natAbs : Nat) : Int))))))), -(jsc 11 20 (jsu 7 20 (jsu 5 20 (jsu 3 20 (jsu 2 20 (x3.tdiv (((Nat.gcd (x2).natAbs (x3).natAbs : Nat) : Int)))))))) + (jsc 11 20 (jsu 7 20 (jsu 5 20 (jsu 3 20 (jsu 2 20 (x2.tdiv (((Nat.gcd (x2).natAbs (x3).natAbs : Nat) : Int)))))))), (jsc 13 20 (jsu 11 20 (jsu 7 20 (jsu 5 20 (jsu 3 20 (jsu 2 20 (x2.tdiv (((Nat.gcd (x2).natAbs (x3).natAbs : Nat) : Int))))))))) - (jsc 13 20 (jsu 11 20 (jsu 7 20 (jsu 5 20 (jsu 3 20 (jsu 2 20 (x3.tdiv (((Nat.gcd (x2).natAbs (x3).natAbs : Nat) : Int)))))))))]), (4, [(4, 44), (1, 1)], []), jgh, jzH_425]) (jH_326_75 (d := 0) (by omega) (by omega) (by omega) (by omega) (by omega) (by omega)) (by rfl) (by rfl) (by decide +kernel) (by rfl) (by rfl) (by omega) (by omega) (by omega) (by omega) rfl rfl ?_
  have hb_q1 := jsc_b (P := 2) (n := 20) (u := (x2.tdiv (((Nat.gcd (x2).natAbs (x3).natAbs : Nat) : Int))))
  have hb_q1 : 0 ≤ jsc 2 20 (x2.tdiv (((Nat.gcd (x2).natAbs (x3).natAbs : Nat) : Int))) ∧ jsc 2 20 (x2.tdiv (((Nat.gcd (x2).natAbs (x3).natAbs : Nat) : Int))) ≤ 20 := ⟨hb_q1.1, by omega⟩
  generalize hq_q1 : jsc 2 20 (x2.tdiv (((Nat.gcd (x2).natAbs (x3).natAbs : Nat) : Int))) = q1 at hb_q1 ⊢
  have hb_q2 := jsc_b (P := 2) (n := 20) (u := (x3.tdiv (((Nat.gcd (x2).natAbs (x3).natAbs : Nat) : Int))))
  have hb_q2 : 0 ≤ jsc 2 20 (x3.tdiv (((Nat.gcd (x2).natAbs (x3).natAbs : Nat) : Int))) ∧ jsc 2 20 (x3.tdiv (((Nat.gcd (x2).natAbs (x3).natAbs : Nat) : Int))) ≤ 20 := ⟨hb_q2.1, by omega⟩
  generalize hq_q2 : jsc 2 20 (x3.tdiv (((Nat.gcd (x2).natAbs (x3).natAbs : Nat) : Int))) = q2 at hb_q2 ⊢
  have hb_q3 := jsc_b (P := 3) (n := 20) (u := (jsu 2 20 (x2.tdiv (((Nat.gcd (x2).natAbs (x3).natAbs : Nat) : Int)))))
  have hb_q3 : 0 ≤ jsc 3 20 (jsu 2 20 (x2.tdiv (((Nat.gcd (x2).natAbs (x3).natAbs : Nat) : Int)))) ∧ jsc 3 20 (jsu 2 20 (x2.tdiv (((Nat.gcd (x2).natAbs (x3).natAbs : Nat) : Int)))) ≤ 20 := ⟨hb_q3.1, by omega⟩
  generalize hq_q3 : jsc 3 20 (jsu 2 20 (x2.tdiv (((Nat.gcd (x2).natAbs (x3).natAbs : Nat) : Int)))) = q3 at hb_q3 ⊢
  have hb_q4 := jsc_b (P := 3) (n := 20) (u := (jsu 2 20 (x3.tdiv (((Nat.gcd (x2).natAbs (x3).natAbs : Nat) : Int)))))
  have hb_q4 : 0 ≤ jsc 3 20 (jsu 2 20 (x3.tdiv (((Nat.gcd (x2).natAbs (x3).natAbs : Nat) : Int)))) ∧ jsc 3 20 (jsu 2 20 (x3.tdiv (((Nat.gcd (x2).natAbs (x3).natAbs : Nat) : Int)))) ≤ 20 := ⟨hb_q4.1, by omega⟩
  generalize hq_q4 : jsc 3 20 (jsu 2 20 (x3.tdiv (((Nat.gcd (x2).natAbs (x3).natAbs : Nat) : Int)))) = q4 at hb_q4 ⊢
  have hb_q5 := jsc_b (P := 5) (n := 20) (u := (jsu 3 20 (jsu 2 20 (x2.tdiv (((Nat.gcd (x2).natAbs (x3).natAbs : Nat) : Int))))))
  have hb_q5 : 0 ≤ jsc 5 20 (jsu 3 20 (jsu 2 20 (x2.tdiv (((Nat.gcd (x2).natAbs (x3).natAbs : Nat) : Int))))) ∧ jsc 5 20 (jsu 3 20 (jsu 2 20 (x2.tdiv (((Nat.gcd (x2).natAbs (x3).natAbs : Nat) : Int))))) ≤ 20 := ⟨hb_q5.1, by omega⟩
  generalize hq_q5 : jsc 5 20 (jsu 3 20 (jsu 2 20 (x2.tdiv (((Nat.gcd (x2).natAbs (x3).natAbs : Nat) : Int))))) = q5 at hb_q5 ⊢
  have hb_q6 := jsc_b (P := 5) (n := 20) (u := (jsu 3 20 (jsu 2 20 (x3.tdiv (((Nat.gcd (x2).natAbs (x3).natAbs : Nat) : Int))))))
  have hb_q6 : 0 ≤ jsc 5 20 (jsu 3 20 (jsu 2 20 (x3.tdiv (((Nat.gcd (x2).natAbs (x3).natAbs : Nat) : Int))))) ∧ jsc 5 20 (jsu 3 20 (jsu 2 20 (x3.tdiv (((Nat.gcd (x2).natAbs (x3).natAbs : Nat) : Int))))) ≤ 20 := ⟨hb_q6.1, by omega⟩
  generalize hq_q6 : jsc 5 20 (jsu 3 20 (jsu 2 20 (x3.tdiv (((Nat.gcd (x2).natAbs (x3).natAbs : Nat) : Int))))) = q6 at hb_q6 ⊢
  have hb_q7 := jsc_b (P := 7) (n := 20) (u := (jsu 5 20 (jsu 3 20 (jsu 2 20 (x2.tdiv (((Nat.gcd (x2).natAbs (x3).natAbs : Nat) : Int)))))))
  have hb_q7 : 0 ≤ jsc 7 20 (jsu 5 20 (jsu 3 20 (jsu 2 20 (x2.tdiv (((Nat.gcd (x2).natAbs (x3).natAbs : Nat) : Int)))))) ∧ jsc 7 20 (jsu 5 20 (jsu 3 20 (jsu 2 20 (x2.tdiv (((Nat.gcd (x2).natAbs (x3).natAbs : Nat) : Int)))))) ≤ 20 := ⟨hb_q7.1, by omega⟩
  generalize hq_q7 : jsc 7 20 (jsu 5 20 (jsu 3 20 (jsu 2 20 (x2.tdiv (((Nat.gcd (x2).natAbs (x3).natAbs : Nat) : Int)))))) = q7 at hb_q7 ⊢
  have hb_q8 := jsc_b (P := 7) (n := 20) (u := (jsu 5 20 (jsu 3 20 (jsu 2 20 (x3.tdiv (((Nat.gcd (x2).natAbs (x3).natAbs : Nat) : Int)))))))
  have hb_q8 : 0 ≤ jsc 7 20 (jsu 5 20 (jsu 3 20 (jsu 2 20 (x3.tdiv (((Nat.gcd (x2).natAbs (x3).natAbs : Nat) : Int)))))) ∧ jsc 7 20 (jsu 5 20 (jsu 3 20 (jsu 2 20 (x3.tdiv (((Nat.gcd (x2).natAbs (x3).natAbs : Nat) : Int)))))) ≤ 20 := ⟨hb_q8.1, by omega⟩
  generalize hq_q8 : jsc 7 20 (jsu 5 20 (jsu 3 20 (jsu 2 20 (x3.tdiv (((Nat.gcd (x2).natAbs (x3).natAbs : Nat) : Int)))))) = q8 at hb_q8 ⊢
  have hb_q9 := jsc_b (P := 11) (n := 20) (u := (jsu 7 20 (jsu 5 20 (jsu 3 20 (jsu 2 20 (x2.tdiv (((Nat.gcd (x2).natAbs (x3).natAbs : Nat) : Int))))))))
  have hb_q9 : 0 ≤ jsc 11 20 (jsu 7 20 (jsu 5 20 (jsu 3 20 (jsu 2 20 (x2.tdiv (((Nat.gcd (x2).natAbs (x3).natAbs : Nat) : Int))))))) ∧ jsc 11 20 (jsu 7 20 (jsu 5 20 (jsu 3 20 (jsu 2 20 (x2.tdiv (((Nat.gcd (x2).natAbs (x3).natAbs : Nat) : Int))))))) ≤ 20 := ⟨hb_q9.1, by omega⟩
  generalize hq_q9 : jsc 11 20 (jsu 7 20 (jsu 5 20 (jsu 3 20 (jsu 2 20 (x2.tdiv (((Nat.gcd (x2).natAbs (x3).natAbs : Nat) : Int))))))) = q9 at hb_q9 ⊢
  have hb_q10 := jsc_b (P := 11) (n := 20) (u := (jsu 7 20 (jsu 5 20 (jsu 3 20 (jsu 2 20 (x3.tdiv (((Nat.gcd (x2).natAbs (x3).natAbs : Nat) : Int))))))))
  have hb_q10 : 0 ≤ jsc 11 20 (jsu 7 20 (jsu 5 20 (jsu 3 20 (jsu 2 20 (x3.tdiv (((Nat.gcd (x2).natAbs (x3).natAbs : Nat) : Int))))))) ∧ jsc 11 20 (jsu 7 20 (jsu 5 20 (jsu 3 20 (jsu 2 20 (x3.tdiv (((Nat.gcd (x2).natAbs (x3).natAbs : Nat) : Int))))))) ≤ 20 := ⟨hb_q10.1, by omega⟩
  generalize hq_q10 : jsc 11 20 (jsu 7 20 (jsu 5 20 (jsu 3 20 (jsu 2 20 (x3.tdiv (((Nat.gcd (x2).natAbs (x3).natAbs : Nat) : Int))))))) = q10 at hb_q10 ⊢
  have hb_q11 := jsc_b (P := 13) (n := 20) (u := (jsu 11 20 (jsu 7 20 (jsu 5 20 (jsu 3 20 (jsu 2 20 (x2.tdiv (((Nat.gcd (x2).natAbs (x3).natAbs : Nat) : Int)))))))))
  have hb_q11 : 0 ≤ jsc 13 20 (jsu 11 20 (jsu 7 20 (jsu 5 20 (jsu 3 20 (jsu 2 20 (x2.tdiv (((Nat.gcd (x2).natAbs (x3).natAbs : Nat) : Int)))))))) ∧ jsc 13 20 (jsu 11 20 (jsu 7 20 (jsu 5 20 (jsu 3 20 (jsu 2 20 (x2.tdiv (((Nat.gcd (x2).natAbs (x3).natAbs : Nat) : Int)))))))) ≤ 20 := ⟨hb_q11.1, by omega⟩
  generalize hq_q11 : jsc 13 20 (jsu 11 20 (jsu 7 20 (jsu 5 20 (jsu 3 20 (jsu 2 20 (x2.tdiv (((Nat.gcd (x2).natAbs (x3).natAbs : Nat) : Int)))))))) = q11 at hb_q11 ⊢
  have hb_q12 := jsc_b (P := 13) (n := 20) (u := (jsu 11 20 (jsu 7 20 (jsu 5 20 (jsu 3 20 (jsu 2 20 (x3.tdiv (((Nat.gcd (x2).natAbs (x3).natAbs : Nat) : Int)))))))))
  have hb_q12 : 0 ≤ jsc 13 20 (jsu 11 20 (jsu 7 20 (jsu 5 20 (jsu 3 20 (jsu 2 20 (x3.tdiv (((Nat.gcd (x2).natAbs (x3).natAbs : Nat) : Int)))))))) ∧ jsc 13 20 (jsu 11 20 (jsu 7 20 (jsu 5 20 (jsu 3 20 (jsu 2 20 (x3.tdiv (((Nat.gcd (x2).natAbs (x3).natAbs : Nat) : Int)))))))) ≤ 20 := ⟨hb_q12.1, by omega⟩
  generalize hq_q12 : jsc 13 20 (jsu 11 20 (jsu 7 20 (jsu 5 20 (jsu 3 20 (jsu 2 20 (x3.tdiv (((Nat.gcd (x2).natAbs (x3).natAbs : Nat) : Int)))))))) = q12 at hb_q12 ⊢
  refine jT_eq (LN := [(5, (0, 0)), (4, (4, 3)), (3, (4, 2)), (2, (4, 1)), (1, (4, 0)), (0, (6, 0))]) (stN := [(0, 0)]) (hsN := [jzH_423, jzH_373, (101, [], [1]), jgh, jgh, jgh, jgh, jgh, jgh, jgh, jgh, jgh, jgh, jzH_424, jzH_419, (100, [], jS0), (100, [], []), jzH_420, jzH_316, jgh, jgh, (101, [], [0, 0, 0, 0, 0, 0]), jgh, jgh, jgh, jgh, jgh, jgh, jgh, jgh, jzH_421, jgh, jgh, jgh, jgh, (100, [], (List.replicate 1613 0)), jgh, jgh, jgh, jgh, jgh, jgh, jgh, jgh, (101, [], [q1 - q2, q3 - q4, q5 - q6, q7 - q8, -q10 + q9, q11 - q12]), (4, [(4, 44), (1, 1)], []), jgh, jzH_425]) (rfl) (rfl) (by simp only [List.cons.injEq, Prod.mk.injEq, and_true, true_and] <;> ((try unfold jw); (try unfold jwl); omega)) ?_
  refine jT_xistore (v := (0, 0)) (LN := [(6, (0, 0)), (5, (0, 0)), (4, (4, 3)), (3, (4, 2)), (2, (4, 1)), (1, (4, 0)), (0, (6, 0))]) (pcN := 301) jIH_379_299 rfl rfl rfl rfl ?_
  refine jT_xaload_n (v := (4, 1)) (pcN := 302) jIH_379_301 rfl rfl rfl ?_
  refine jT_xaload_n (v := (6, 0)) (pcN := 303) jIH_379_302 rfl rfl rfl ?_
  refine jT_xiload (v := (0, 0)) (pcN := 305) jIH_379_303 rfl rfl rfl ?_
  refine jT_xiconst (k := 1) (pcN := 306) jIH_379_305 rfl ?_
  refine jT_xiadd (x := 0) (y := 1) (z := 1) (pcN := 307) jIH_379_306 rfl (by decide) rfl ?_
  refine jT_adv 1 (pcN := 308) (LN := [(6, (0, 0)), (5, (0, 0)), (4, (4, 3)), (3, (4, 2)), (2, (4, 1)), (1, (4, 0)), (0, (6, 0))]) (stN := [(0, x1), (4, 1)]) (hsN := [jzH_423, jzH_373, (101, [], [1]), jgh, jgh, jgh, jgh, jgh, jgh, jgh, jgh, jgh, jgh, jzH_424, jzH_419, (100, [], jS0), (100, [], []), jzH_420, jzH_316, jgh, jgh, (101, [], [0, 0, 0, 0, 0, 0]), jgh, jgh, jgh, jgh, jgh, jgh, jgh, jgh, jzH_421, jgh, jgh, jgh, jgh, (100, [], (List.replicate 1613 0)), jgh, jgh, jgh, jgh, jgh, jgh, jgh, jgh, (101, [], [q1 - q2, q3 - q4, q5 - q6, q7 - q8, -q10 + q9, q11 - q12]), (4, [(4, 44), (1, 1)], []), jgh, jzH_425]) (c1 := 0) (s1 := 0) (c2 := 0) (s2 := 0) (by exact rfl) ?_ (by omega) (by omega)
  refine jT_xaload_n (v := (6, 0)) (pcN := 309) jIH_379_308 rfl rfl rfl ?_
  refine jT_xiload (v := (0, 0)) (pcN := 311) jIH_379_309 rfl rfl rfl ?_
  refine jT_xiconst (k := 2) (pcN := 312) jIH_379_311 rfl ?_
  refine jT_xiadd (x := 0) (y := 2) (z := 2) (pcN := 313) jIH_379_312 rfl (by decide) rfl ?_
  refine jT_adv 1 (pcN := 314) (LN := [(6, (0, 0)), (5, (0, 0)), (4, (4, 3)), (3, (4, 2)), (2, (4, 1)), (1, (4, 0)), (0, (6, 0))]) (stN := [(0, x2), (0, x1), (4, 1)]) (hsN := [jzH_423, jzH_373, (101, [], [1]), jgh, jgh, jgh, jgh, jgh, jgh, jgh, jgh, jgh, jgh, jzH_424, jzH_419, (100, [], jS0), (100, [], []), jzH_420, jzH_316, jgh, jgh, (101, [], [0, 0, 0, 0, 0, 0]), jgh, jgh, jgh, jgh, jgh, jgh, jgh, jgh, jzH_421, jgh, jgh, jgh, jgh, (100, [], (List.replicate 1613 0)), jgh, jgh, jgh, jgh, jgh, jgh, jgh, jgh, (101, [], [q1 - q2, q3 - q4, q5 - q6, q7 - q8, -q10 + q9, q11 - q12]), (4, [(4, 44), (1, 1)], []), jgh, jzH_425]) (c1 := 0) (s1 := 0) (c2 := 0) (s2 := 0) (by exact rfl) ?_ (by omega) (by omega)
  refine jT_xaload_n (v := (6, 0)) (pcN := 315) jIH_379_314 rfl rfl rfl ?_
  refine jT_xiload (v := (0, 0)) (pcN := 317) jIH_379_315 rfl rfl rfl ?_
  refine jT_xiconst (k := 3) (pcN := 318) jIH_379_317 rfl ?_
  refine jT_xiadd (x := 0) (y := 3) (z := 3) (pcN := 319) jIH_379_318 rfl (by decide) rfl ?_
  refine jT_adv 1 (pcN := 320) (LN := [(6, (0, 0)), (5, (0, 0)), (4, (4, 3)), (3, (4, 2)), (2, (4, 1)), (1, (4, 0)), (0, (6, 0))]) (stN := [(0, x3), (0, x2), (0, x1), (4, 1)]) (hsN := [jzH_423, jzH_373, (101, [], [1]), jgh, jgh, jgh, jgh, jgh, jgh, jgh, jgh, jgh, jgh, jzH_424, jzH_419, (100, [], jS0), (100, [], []), jzH_420, jzH_316, jgh, jgh, (101, [], [0, 0, 0, 0, 0, 0]), jgh, jgh, jgh, jgh, jgh, jgh, jgh, jgh, jzH_421, jgh, jgh, jgh, jgh, (100, [], (List.replicate 1613 0)), jgh, jgh, jgh, jgh, jgh, jgh, jgh, jgh, (101, [], [q1 - q2, q3 - q4, q5 - q6, q7 - q8, -q10 + q9, q11 - q12]), (4, [(4, 44), (1, 1)], []), jgh, jzH_425]) (c1 := 0) (s1 := 0) (c2 := 0) (s2 := 0) (by exact rfl) ?_ (by omega) (by omega)
  refine jT_callB [1, 15, 16, 17, 18, 19, 20, 21, 22, 23, 24, 25, 26, 27, 28, 29, 35, 36, 37, 38, 39, 40, 41, 42] (y := 187) (pcN := 323) (dC := 43) (bc1 := 0) (bc2 := 0) (c1 := 0) (c2 := 0) (as := [(4, 1), (0, x1), (0, x2), (0, x3)]) (asC := [(4, 0), (0, x1), (0, x2), (0, x3)]) (LN := [(6, (0, 0)), (5, (0, 0)), (4, (4, 3)), (3, (4, 2)), (2, (4, 1)), (1, (4, 0)), (0, (6, 0))]) (stN := []) (hsC := jpH_354) (hsD := [jzH_319, jgh, (100, [], []), jzH_315, jzH_320, jgh, jgh, (101, [], [(jsc 2 20 (x2.tdiv (((Nat.gcd (x2).natAbs (x3).natAbs : Nat) : Int)))) - (jsc 2 20 (x3.tdiv (((Nat.gcd (x2).natAbs (x3).natAbs : Nat) : Int)))), (jsc 3 20 (jsu 2 20 (x2.tdiv (((Nat.gcd (x2).natAbs (x3).natAbs : Nat) : Int))))) - (jsc 3 20 (jsu 2 20 (x3.tdiv (((Nat.gcd (x2).natAbs (x3).natAbs : Nat) : Int))))), (jsc 5 20 (jsu 3 20 (jsu 2 20 (x2.tdiv (((Nat.gcd (x2).natAbs (x3).natAbs : Nat) : Int)))))) - (jsc 5 20 (jsu 3 20 (jsu 2 20 (x3.tdiv (((Nat.gcd (x2).natAbs (x3).natAbs : Nat) : Int)))))), (jsc 7 20 (jsu 5 20 (jsu 3 20 (jsu 2 20 (x2.tdiv (((Nat.gcd (x2).natAbs (x3).natAbs : Nat) : Int))))))) - (jsc 7 20 (jsu 5 20 (jsu 3 20 (jsu 2 20 (x3.tdiv (((Nat.gcd (x2).natAbs (x3).natAbs : Nat) : Int))))))), -(jsc 11 20 (jsu 7 20 (jsu 5 20 (jsu 3 20 (jsu 2 20 (x3.tdiv (((Nat.gcd (x2).natAbs (x3).natAbs : Nat) : Int)))))))) + (jsc 11 20 (jsu 7 20 (jsu 5 20 (jsu 3 20 (jsu 2 20 (x2.tdiv (((Nat.gcd (x2).natAbs (x3).natAbs : Nat) : Int)))))))), (jsc 13 20 (jsu 11 20 (jsu 7 20 (jsu 5 20 (jsu 3 20 (jsu 2 20 (x2.tdiv (((Nat.gcd (x2).natAbs (x3).natAbs : Nat) : Int))))))))) - (jsc 13 20 (jsu 11 20 (jsu 7 20 (jsu 5 20 (jsu 3 20 (jsu 2 20 (x3.tdiv (((Nat.gcd (x2).natAbs (x3).natAbs : Nat) : Int)))))))))]), jgh, jgh, jgh, jgh, jgh, jgh, jgh, jgh, (100, [], jS0), jgh, jgh, jgh, jgh, jgh, jgh, jgh]) (v := (0, 1)) (st2 := [(0, 1)]) (hs2 := [jzH_423, jzH_426, (101, [], [1]), jgh, jgh, jgh, jgh, jgh, jgh, jgh, jgh, jgh, jgh, jzH_424, jzH_419, jgh, (100, [], []), jzH_420, jzH_427, jgh, jgh, (101, [], [(jsc 2 20 (x2.tdiv (((Nat.gcd (x2).natAbs (x3).natAbs : Nat) : Int)))) - (jsc 2 20 (x3.tdiv (((Nat.gcd (x2).natAbs (x3).natAbs : Nat) : Int)))), (jsc 3 20 (jsu 2 20 (x2.tdiv (((Nat.gcd (x2).natAbs (x3).natAbs : Nat) : Int))))) - (jsc 3 20 (jsu 2 20 (x3.tdiv (((Nat.gcd (x2).natAbs (x3).natAbs : Nat) : Int))))), (jsc 5 20 (jsu 3 20 (jsu 2 20 (x2.tdiv (((Nat.gcd (x2).natAbs (x3).natAbs : Nat) : Int)))))) - (jsc 5 20 (jsu 3 20 (jsu 2 20 (x3.tdiv (((Nat.gcd (x2).natAbs (x3).natAbs : Nat) : Int)))))), (jsc 7 20 (jsu 5 20 (jsu 3 20 (jsu 2 20 (x2.tdiv (((Nat.gcd (x2).natAbs (x3).natAbs : Nat) : Int))))))) - (jsc 7 20 (jsu 5 20 (jsu 3 20 (jsu 2 20 (x3.tdiv (((Nat.gcd (x2).natAbs (x3).natAbs : Nat) : Int))))))), -(jsc 11 20 (jsu 7 20 (jsu 5 20 (jsu 3 20 (jsu 2 20 (x3.tdiv (((Nat.gcd (x2).natAbs (x3).natAbs : Nat) : Int)))))))) + (jsc 11 20 (jsu 7 20 (jsu 5 20 (jsu 3 20 (jsu 2 20 (x2.tdiv (((Nat.gcd (x2).natAbs (x3).natAbs : Nat) : Int)))))))), (jsc 13 20 (jsu 11 20 (jsu 7 20 (jsu 5 20 (jsu 3 20 (jsu 2 20 (x2.tdiv (((Nat.gcd (x2).natAbs (x3).natAbs : Nat) : Int))))))))) - (jsc 13 20 (jsu 11 20 (jsu 7 20 (jsu 5 20 (jsu 3 20 (jsu 2 20 (x3.tdiv (((Nat.gcd (x2).natAbs (x3).natAbs : Nat) : Int)))))))))]), jgh, jgh, jgh, jgh, jgh, jgh, jgh, jgh, jzH_421, jgh, jgh, jgh, jgh, (100, [], jS0), jgh, jgh, jgh, jgh, jgh, jgh, jgh, jgh, (101, [], [q1 - q2, q3 - q4, q5 - q6, q7 - q8, -q10 + q9, q11 - q12]), (4, [(4, 44), (1, 1)], []), jgh, jzH_425]) (jH_187_83 (d := 0) (by omega) (by omega) (by omega) (by omega) (by omega) (by omega)) (by rfl) (by rfl) (by rfl) (by rfl) ⟨rfl, rfl, rfl, rfl, rfl, rfl, rfl, rfl, rfl, rfl, rfl, rfl, rfl, rfl, rfl, rfl, rfl, rfl, rfl, rfl, rfl, rfl, rfl, rfl, trivial⟩ (by rfl) (by rfl) (by omega) (by show 44 ≤ 48; omega) (by omega) (by omega) rfl rfl ?_
  rw [hq_q1]
  rw [hq_q2]
  rw [hq_q3]
  rw [hq_q4]
  rw [hq_q5]
  rw [hq_q6]
  rw [hq_q7]
  rw [hq_q8]
  rw [hq_q9]
  rw [hq_q10]
  rw [hq_q11]
  rw [hq_q12]
  refine jT_eq (LN := [(6, (0, 0)), (5, (0, 0)), (4, (4, 3)), (3, (4, 2)), (2, (4, 1)), (1, (4, 0)), (0, (6, 0))]) (stN := [(0, 1)]) (hsN := [jzH_423, jzH_426, (101, [], [1]), jgh, jgh, jgh, jgh, jgh, jgh, jgh, jgh, jgh, jgh, jzH_424, jzH_419, jgh, (100, [], []), jzH_420, jzH_427, jgh, jgh, (101, [], [q1 - q2, q3 - q4, q5 - q6, q7 - q8, -q10 + q9, q11 - q12]), jgh, jgh, jgh, jgh, jgh, jgh, jgh, jgh, jzH_421, jgh, jgh, jgh, jgh, (100, [], jS0), jgh, jgh, jgh, jgh, jgh, jgh, jgh, jgh, (101, [], [q1 - q2, q3 - q4, q5 - q6, q7 - q8, -q10 + q9, q11 - q12]), (4, [(4, 44), (1, 1)], []), jgh, jzH_425]) (rfl) (rfl) (by simp only [List.cons.injEq, Prod.mk.injEq, and_true, true_and] <;> ((try unfold jw); (try unfold jwl); omega)) ?_
  refine jT_xistore (v := (0, 1)) (LN := [(7, (0, 1)), (6, (0, 0)), (5, (0, 0)), (4, (4, 3)), (3, (4, 2)), (2, (4, 1)), (1, (4, 0)), (0, (6, 0))]) (pcN := 325) jIH_379_323 rfl rfl rfl rfl ?_
  refine jT_xaload_n (v := (4, 1)) (pcN := 326) jIH_379_325 rfl rfl rfl ?_
  refine jT_callA [1, 15, 16, 17, 18, 19, 20, 21, 22, 23, 24, 25, 26, 27, 28, 29] (y := 186) (pcN := 329) (dC := 0) (bc1 := 0) (bc2 := 0) (c1 := 0) (c2 := 0) (as := [(4, 1)]) (asC := [(4, 0)]) (LN := [(7, (0, 1)), (6, (0, 0)), (5, (0, 0)), (4, (4, 3)), (3, (4, 2)), (2, (4, 1)), (1, (4, 0)), (0, (6, 0))]) (stN := []) (hsC := jpH_363) (ex := []) (v := (0, 0)) (st2 := [(0, 0)]) (hs2 := [jzH_423, jzH_426, (101, [], [1]), jgh, jgh, jgh, jgh, jgh, jgh, jgh, jgh, jgh, jgh, jzH_424, jzH_419, jgh, (100, [], []), jzH_420, jzH_427, jgh, jgh, (101, [], [q1 - q2, q3 - q4, q5 - q6, q7 - q8, -q10 + q9, q11 - q12]), jgh, jgh, jgh, jgh, jgh, jgh, jgh, jgh, jzH_421, jgh, jgh, jgh, jgh, (100, [], jS0), jgh, jgh, jgh, jgh, jgh, jgh, jgh, jgh, (101, [], [q1 - q2, q3 - q4, q5 - q6, q7 - q8, -q10 + q9, q11 - q12]), (4, [(4, 44), (1, 1)], []), jgh, jzH_425]) (jH_186_84 (d := 0)) (by rfl) (by rfl) (by rfl) (by rfl) ⟨rfl, rfl, rfl, rfl, rfl, rfl, rfl, rfl, rfl, rfl, rfl, rfl, rfl, rfl, rfl, rfl, trivial⟩ (by rfl) (by rfl) (by omega) (by show 44 ≤ 48; omega) (by omega) (by omega) rfl rfl ?_
  refine jT_xiload (v := (0, 0)) (pcN := 331) jIH_379_329 rfl rfl rfl ?_
  refine jT_xicT (pcN := 336) jIH_379_331 rfl (by decide +kernel) rfl ?_
  refine jT_xiload (v := (0, 0)) (pcN := 338) jIH_379_336 rfl rfl rfl ?_
  refine jT_xifF (t := 360) (pcN := 341) jIH_379_338 rfl (by decide +kernel) rfl rfl ?_
  refine jT_xaload_n (v := (4, 2)) (pcN := 342) jIH_379_341 rfl rfl rfl ?_
  refine jT_xiconst (k := 0) (pcN := 343) jIH_379_342 rfl ?_
  refine jT_lald (x := 1) (a := 2) (j := 0) (fs := []) (X := [1]) jIH_379_343 rfl rfl rfl rfl ?_
  refine jT_eq (LN := [(7, (0, 1)), (6, (0, 0)), (5, (0, 0)), (4, (4, 3)), (3, (4, 2)), (2, (4, 1)), (1, (4, 0)), (0, (6, 0))]) (stN := [(1, 1)]) (hsN := [jzH_423, jzH_426, (101, [], [1]), jgh, jgh, jgh, jgh, jgh, jgh, jgh, jgh, jgh, jgh, jzH_424, jzH_419, jgh, (100, [], []), jzH_420, jzH_427, jgh, jgh, (101, [], [q1 - q2, q3 - q4, q5 - q6, q7 - q8, -q10 + q9, q11 - q12]), jgh, jgh, jgh, jgh, jgh, jgh, jgh, jgh, jzH_421, jgh, jgh, jgh, jgh, (100, [], jS0), jgh, jgh, jgh, jgh, jgh, jgh, jgh, jgh, (101, [], [q1 - q2, q3 - q4, q5 - q6, q7 - q8, -q10 + q9, q11 - q12]), (4, [(4, 44), (1, 1)], []), jgh, jzH_425]) rfl rfl rfl ?_
  refine jT_xiload (v := (0, 1)) (pcN := 346) jIH_379_344 rfl rfl rfl ?_
  refine jT_xifF (t := 353) (pcN := 349) jIH_379_346 rfl (by decide +kernel) rfl rfl ?_
  refine jT_xlconst (z := 1) (pcN := 350) jIH_379_349 rfl rfl ?_
  refine jT_xgoto (pcN := 354) jIH_379_350 rfl ?_
  refine jT_lcmp (a := 1) (b := 1) (z := 0) (by rfl) (by rfl) (by decide +kernel) (by decide +kernel) (by decide) ?_
  refine jT_xifT (pcN := 360) jIH_379_355 rfl (by decide +kernel) rfl ?_
  refine jT_xgoto (pcN := 3740) jIH_379_360 rfl ?_
  refine jT_xiinc (x := 0) (z := 5) (LN := [(5, (0, 5)), (7, (0, 1)), (6, (0, 0)), (4, (4, 3)), (3, (4, 2)), (2, (4, 1)), (1, (4, 0)), (0, (6, 0))]) (pcN := 3743) jIH_379_3740 rfl rfl (by decide) rfl rfl ?_
  refine jT_xgoto (pcN := 28) jIH_379_3743 rfl ?_
  refine jT_xiload (v := (0, 5)) (pcN := 30) jIH_379_28 rfl rfl rfl ?_
  refine jT_xaload_n (v := (6, 0)) (pcN := 31) jIH_379_30 rfl rfl rfl ?_
  refine jT_adv 1 (pcN := 32) (LN := [(5, (0, 5)), (7, (0, 1)), (6, (0, 0)), (4, (4, 3)), (3, (4, 2)), (2, (4, 1)), (1, (4, 0)), (0, (6, 0))]) (stN := [(0, 5), (0, 5)]) (hsN := [jzH_423, jzH_426, (101, [], [1]), jgh, jgh, jgh, jgh, jgh, jgh, jgh, jgh, jgh, jgh, jzH_424, jzH_419, jgh, (100, [], []), jzH_420, jzH_427, jgh, jgh, (101, [], [q1 - q2, q3 - q4, q5 - q6, q7 - q8, -q10 + q9, q11 - q12]), jgh, jgh, jgh, jgh, jgh, jgh, jgh, jgh, jzH_421, jgh, jgh, jgh, jgh, (100, [], jS0), jgh, jgh, jgh, jgh, jgh, jgh, jgh, jgh, (101, [], [q1 - q2, q3 - q4, q5 - q6, q7 - q8, -q10 + q9, q11 - q12]), (4, [(4, 44), (1, 1)], []), jgh, jzH_425]) (c1 := 0) (s1 := 0) (c2 := 0) (s2 := 0) (by exact rfl) ?_ (by omega) (by omega)
  refine jT_xiconst (k := 5) (pcN := 33) jIH_379_32 rfl ?_
  refine jT_xisub (x := 5) (y := 5) (z := 0) (pcN := 34) jIH_379_33 rfl (by decide) rfl ?_
  refine jT_xicT (pcN := 3746) jIH_379_34 rfl (by decide +kernel) rfl ?_
  refine jT_xiconst (k := 1) (pcN := 3747) jIH_379_3746 rfl ?_
  exact jT_ret rfl (by decide) (by show 44 ≤ 48; decide) (by omega) (by omega) ⟨rfl, rfl⟩
theorem jIH_379_353 : jmI (jm 379) 353 = (.lconst 0, 1) := by rfl
set_option maxRecDepth 100000 in
theorem jL_0_6 {d : Nat} {x0 x1 x2 x3 x4 : Int} (h_x0 : (-2147483648) ≤ x0 ∧ x0 ≤ 2147483647) (h_x1 : 0 ≤ x1 ∧ x1 ≤ 7) (h_x2 : 1 ≤ x2 ∧ x2 ≤ 1000000) (h_x3 : 1 ≤ x3 ∧ x3 ≤ 1000000) (h_x4 : (-2147483648) ≤ x4 ∧ x4 ≤ 2147483647) (g_0 : (jsu 13 20 (jsu 11 20 (jsu 7 20 (jsu 5 20 (jsu 3 20 (jsu 2 20 (x2.tdiv (((Nat.gcd (x2).natAbs (x3).natAbs : Nat) : Int))))))))) - 2 < 0) (g_1 : (jsu 13 20 (jsu 11 20 (jsu 7 20 (jsu 5 20 (jsu 3 20 (jsu 2 20 (x3.tdiv (((Nat.gcd (x2).natAbs (x3).natAbs : Nat) : Int))))))))) - 2 < 0) (g_2 : x2 - x3 - 1 < 0) : jT [x0, x1, x2, x3, x4] (d + 44) 379 44 276 [(5, (0, 0)), (4, (4, 3)), (3, (4, 2)), (2, (4, 1)), (1, (4, 0)), (0, (6, 0))] [] jpH_422 4 21 (fun k v hsN => k = 0 ∧ v = (0, 1)) := by
  refine jT_xaload_n (v := (4, 0)) (pcN := 277) jIH_379_276 rfl rfl rfl ?_
  refine jT_xaload_n (v := (6, 0)) (pcN := 278) jIH_379_277 rfl rfl rfl ?_
  refine jT_xiload (v := (0, 0)) (pcN := 280) jIH_379_278 rfl rfl rfl ?_
  refine jT_xiconst (k := 1) (pcN := 281) jIH_379_280 rfl ?_
  refine jT_xiadd (x := 0) (y := 1) (z := 1) (pcN := 282) jIH_379_281 rfl (by decide) rfl ?_
  refine jT_adv 1 (pcN := 283) (LN := [(5, (0, 0)), (4, (4, 3)), (3, (4, 2)), (2, (4, 1)), (1, (4, 0)), (0, (6, 0))]) (stN := [(0, x1), (4, 0)]) (hsN := jpH_422) (c1 := 0) (s1 := 0) (c2 := 4) (s2 := 21) (by exact rfl) ?_ (by omega) (by omega)
  refine jT_xaload_n (v := (6, 0)) (pcN := 284) jIH_379_283 rfl rfl rfl ?_
  refine jT_xiload (v := (0, 0)) (pcN := 286) jIH_379_284 rfl rfl rfl ?_
  refine jT_xiconst (k := 2) (pcN := 287) jIH_379_286 rfl ?_
  refine jT_xiadd (x := 0) (y := 2) (z := 2) (pcN := 288) jIH_379_287 rfl (by decide) rfl ?_
  refine jT_adv 1 (pcN := 289) (LN := [(5, (0, 0)), (4, (4, 3)), (3, (4, 2)), (2, (4, 1)), (1, (4, 0)), (0, (6, 0))]) (stN := [(0, x2), (0, x1), (4, 0)]) (hsN := jpH_422) (c1 := 0) (s1 := 0) (c2 := 4) (s2 := 21) (by exact rfl) ?_ (by omega) (by omega)
  refine jT_xaload_n (v := (6, 0)) (pcN := 290) jIH_379_289 rfl rfl rfl ?_
  refine jT_xiload (v := (0, 0)) (pcN := 292) jIH_379_290 rfl rfl rfl ?_
  refine jT_xiconst (k := 3) (pcN := 293) jIH_379_292 rfl ?_
  refine jT_xiadd (x := 0) (y := 3) (z := 3) (pcN := 294) jIH_379_293 rfl (by decide) rfl ?_
  refine jT_adv 1 (pcN := 295) (LN := [(5, (0, 0)), (4, (4, 3)), (3, (4, 2)), (2, (4, 1)), (1, (4, 0)), (0, (6, 0))]) (stN := [(0, x3), (0, x2), (0, x1), (4, 0)]) (hsN := jpH_422) (c1 := 0) (s1 := 0) (c2 := 4) (s2 := 21) (by exact rfl) ?_ (by omega) (by omega)
  refine jT_xaload_n (v := (4, 2)) (pcN := 296) jIH_379_295 rfl rfl rfl ?_
  refine jT_fB [0, 2, 4, 5, 6, 7, 8, 9, 10, 11, 12, 13, 14, 30, 31, 32, 33, 34, 43] 44 (y := 326) (pcN := 299) (dC := 4) (bc1 := 4) (bc2 := 21) (c1 := 0) (c2 := 0) (as := [(4, 0), (0, x1), (0, x2), (0, x3), (4, 2)]) (asC := [(4, 0), (0, x1), (0, x2), (0, x3), (4, 1)]) (LN := [(5, (0, 0)), (4, (4, 3)), (3, (4, 2)), (2, (4, 1)), (1, (4, 0)), (0, (6, 0))]) (stN := []) (hsC := jpH_312) (hsD := [jzH_304, (101, [], [0]), jgh, jgh, jgh, jgh, jgh, jgh, jgh, jgh, jgh, jzH_283, jzH_284, jzH_305, jgh, jgh, jgh, jgh, jgh, (101, [], [(jsc 2 20 (x2.tdiv (((Nat.gcd (x2).natAbs (x3).natAbs : Nat) : Int)))) - (jsc 2 20 (x3.tdiv (((Nat.gcd (x2).natAbs (x3).natAbs : Nat) : Int)))), (jsc 3 20 (jsu 2 20 (x2.tdiv (((Nat.gcd (x2).natAbs (x3).natAbs : Nat) : Int))))) - (jsc 3 20 (jsu 2 20 (x3.tdiv (((Nat.gcd (x2).natAbs (x3).natAbs : Nat) : Int))))), (jsc 5 20 (jsu 3 20 (jsu 2 20 (x2.tdiv (((Nat.gcd (x2).natAbs (x3).natAbs : Nat) : Int)))))) - (jsc 5 20 (jsu 3 20 (jsu 2 20 (x3.tdiv (((Nat.gcd (x2).natAbs (x3).natAbs : Nat) : Int)))))), (jsc 7 20 (jsu 5 20 (jsu 3 20 (jsu 2 20 (x2.tdiv (((Nat.gcd (x2).natAbs (x3).natAbs : Nat) : Int))))))) - (jsc 7 20 (jsu 5 20 (jsu 3 20 (jsu 2 20 (x3.tdiv (((Nat.gcd (x2).natAbs (x3).natAbs : Nat) : Int))))))), -(jsc 11 20 (jsu 7 20 (jsu 5 20 (jsu 3 20 (jsu 2 20 (x3.tdiv (((Nat.gcd (x2).natAbs (x3).natAbs : Nat) : Int)))))))) + (jsc 11 20 (jsu 7 20 (jsu 5 20 (jsu 3 20 (jsu 2 20 (x2.tdiv (((Nat.gcd (x2).natAbs (x3).natAbs : Nat) : Int)))))))), (jsc 13 20 (jsu 11 20 (jsu 7 20 (jsu 5 20 (jsu 3 20 (jsu 2 20 (x2.tdiv (((Nat.gcd (x2).natAbs (x3).natAbs : Nat) : Int))))))))) - (jsc 13 20 (jsu 11 20 (jsu 7 20 (jsu 5 20 (jsu 3 20 (jsu 2 20 (x3.tdiv (((Nat.gcd (x2).natAbs (x3).natAbs : Nat) : Int)))))))))]), (4, [(4, 19), (1, 1)], []), jgh, jzH_306]) (v := (0, 0)) (st2 := [(0, 0)]) (hs2 := [jzH_423, jzH_373, (101, [], [0]), jgh, jgh, jgh, jgh, jgh, jgh, jgh, jgh, jgh, jgh, jzH_424, jzH_419, (100, [], jS0), (100, [], []), jzH_420, jzH_316, jgh, jgh, (101, [], [0, 0, 0, 0, 0, 0]), jgh, jgh, jgh, jgh, jgh, jgh, jgh, jgh, jzH_421, jgh, jgh, jgh, jgh, (100, [], (List.replicate 1613 0)), jgh, jgh, jgh, jgh, jgh, jgh, jgh, jgh, (101, [], [(jsc 2 20 (x2.tdiv (((Nat.gcd (x2).natAbs (x3).natAbs : Nat) : Int)))) - (jsc 2 20 (x3.tdiv (((Nat.gcd (x2).natAbs (x3).natAbs : Nat) : Int)))), (jsc 3 20 (jsu 2 20 (x2.tdiv (((Nat.gcd (x2).natAbs (x3).natAbs : Nat) : Int))))) - (jsc 3 20 (jsu 2 20 (x3.tdiv (((Nat.gcd (x2).natAbs (x3).natAbs : Nat) : Int))))), (jsc 5 20 (jsu 3 20 (jsu 2 20 (x2.tdiv (((Nat.gcd (x2).natAbs (x3).natAbs : Nat) : Int)))))) - (jsc 5 20 (jsu 3 20 (jsu 2 20 (x3.tdiv (((Nat.gcd (x2).natAbs (x3).natAbs : Nat) : Int)))))), (jsc 7 20 (jsu 5 20 (jsu 3 20 (jsu 2 20 (x2.tdiv (((Nat.gcd (x2).natAbs (x3).natAbs : Nat) : Int))))))) - (jsc 7 20 (jsu 5 20 (jsu 3 20 (jsu 2 20 (x3.tdiv (((Nat.gcd (x2).natAbs (x3).natAbs : Nat) : Int))))))), -(jsc 11 20 (jsu 7 20 (jsu 5 20 (jsu 3 20 (jsu 2 20 (x3.tdiv (((Nat.gcd (x2).natAbs (x3).natAbs : Nat) : Int)))))))) + (jsc 11 20 (jsu 7 20 (jsu 5 20 (jsu 3 20 (jsu 2 20 (x2.tdiv (((Nat.gcd (x2).natAbs (x3).natAbs : Nat) : Int)))))))), (jsc 13 20 (jsu 11 20 (jsu 7 20 (jsu 5 20 (jsu 3 20 (jsu 2 20 (x2.tdiv (((Nat.gcd (x2).natAbs (x3).natAbs : Nat) : Int))))))))) - (jsc 13 20 (jsu 11 20 (jsu 7 20 (jsu 5 20 (jsu 3 20 (jsu 2 20 (x3.tdiv (((Nat.gcd (x2).natAbs (x3).natAbs : Nat) : Int)))))))))]), (4, [(4, 44), (1, 1)], []), jgh, jzH_425]) (jH_326_87 (d := 0) (by omega) (by omega) (by omega) (by omega) (by omega) (by omega)) (by rfl) (by rfl) (by decide +kernel) (by rfl) (by rfl) (by omega) (by omega) (by omega) (by omega) rfl rfl ?_
  have hb_q1 := jsc_b (P := 2) (n := 20) (u := (x2.tdiv (((Nat.gcd (x2).natAbs (x3).natAbs : Nat) : Int))))
  have hb_q1 : 0 ≤ jsc 2 20 (x2.tdiv (((Nat.gcd (x2).natAbs (x3).natAbs : Nat) : Int))) ∧ jsc 2 20 (x2.tdiv (((Nat.gcd (x2).natAbs (x3).natAbs : Nat) : Int))) ≤ 20 := ⟨hb_q1.1, by omega⟩
  generalize hq_q1 : jsc 2 20 (x2.tdiv (((Nat.gcd (x2).natAbs (x3).natAbs : Nat) : Int))) = q1 at hb_q1 ⊢
  have hb_q2 := jsc_b (P := 2) (n := 20) (u := (x3.tdiv (((Nat.gcd (x2).natAbs (x3).natAbs : Nat) : Int))))
  have hb_q2 : 0 ≤ jsc 2 20 (x3.tdiv (((Nat.gcd (x2).natAbs (x3).natAbs : Nat) : Int))) ∧ jsc 2 20 (x3.tdiv (((Nat.gcd (x2).natAbs (x3).natAbs : Nat) : Int))) ≤ 20 := ⟨hb_q2.1, by omega⟩
  generalize hq_q2 : jsc 2 20 (x3.tdiv (((Nat.gcd (x2).natAbs (x3).natAbs : Nat) : Int))) = q2 at hb_q2 ⊢
  have hb_q3 := jsc_b (P := 3) (n := 20) (u := (jsu 2 20 (x2.tdiv (((Nat.gcd (x2).natAbs (x3).natAbs : Nat) : Int)))))
  have hb_q3 : 0 ≤ jsc 3 20 (jsu 2 20 (x2.tdiv (((Nat.gcd (x2).natAbs (x3).natAbs : Nat) : Int)))) ∧ jsc 3 20 (jsu 2 20 (x2.tdiv (((Nat.gcd (x2).natAbs (x3).natAbs : Nat) : Int)))) ≤ 20 := ⟨hb_q3.1, by omega⟩
  generalize hq_q3 : jsc 3 20 (jsu 2 20 (x2.tdiv (((Nat.gcd (x2).natAbs (x3).natAbs : Nat) : Int)))) = q3 at hb_q3 ⊢
  have hb_q4 := jsc_b (P := 3) (n := 20) (u := (jsu 2 20 (x3.tdiv (((Nat.gcd (x2).natAbs (x3).natAbs : Nat) : Int)))))
  have hb_q4 : 0 ≤ jsc 3 20 (jsu 2 20 (x3.tdiv (((Nat.gcd (x2).natAbs (x3).natAbs : Nat) : Int)))) ∧ jsc 3 20 (jsu 2 20 (x3.tdiv (((Nat.gcd (x2).natAbs (x3).natAbs : Nat) : Int)))) ≤ 20 := ⟨hb_q4.1, by omega⟩
  generalize hq_q4 : jsc 3 20 (jsu 2 20 (x3.tdiv (((Nat.gcd (x2).natAbs (x3).natAbs : Nat) : Int)))) = q4 at hb_q4 ⊢
  have hb_q5 := jsc_b (P := 5) (n := 20) (u := (jsu 3 20 (jsu 2 20 (x2.tdiv (((Nat.gcd (x2).natAbs (x3).natAbs : Nat) : Int))))))
  have hb_q5 : 0 ≤ jsc 5 20 (jsu 3 20 (jsu 2 20 (x2.tdiv (((Nat.gcd (x2).natAbs (x3).natAbs : Nat) : Int))))) ∧ jsc 5 20 (jsu 3 20 (jsu 2 20 (x2.tdiv (((Nat.gcd (x2).natAbs (x3).natAbs : Nat) : Int))))) ≤ 20 := ⟨hb_q5.1, by omega⟩
  generalize hq_q5 : jsc 5 20 (jsu 3 20 (jsu 2 20 (x2.tdiv (((Nat.gcd (x2).natAbs (x3).natAbs : Nat) : Int))))) = q5 at hb_q5 ⊢
  have hb_q6 := jsc_b (P := 5) (n := 20) (u := (jsu 3 20 (jsu 2 20 (x3.tdiv (((Nat.gcd (x2).natAbs (x3).natAbs : Nat) : Int))))))
  have hb_q6 : 0 ≤ jsc 5 20 (jsu 3 20 (jsu 2 20 (x3.tdiv (((Nat.gcd (x2).natAbs (x3).natAbs : Nat) : Int))))) ∧ jsc 5 20 (jsu 3 20 (jsu 2 20 (x3.tdiv (((Nat.gcd (x2).natAbs (x3).natAbs : Nat) : Int))))) ≤ 20 := ⟨hb_q6.1, by omega⟩
  generalize hq_q6 : jsc 5 20 (jsu 3 20 (jsu 2 20 (x3.tdiv (((Nat.gcd (x2).natAbs (x3).natAbs : Nat) : Int))))) = q6 at hb_q6 ⊢
  have hb_q7 := jsc_b (P := 7) (n := 20) (u := (jsu 5 20 (jsu 3 20 (jsu 2 20 (x2.tdiv (((Nat.gcd (x2).natAbs (x3).natAbs : Nat) : Int)))))))
  have hb_q7 : 0 ≤ jsc 7 20 (jsu 5 20 (jsu 3 20 (jsu 2 20 (x2.tdiv (((Nat.gcd (x2).natAbs (x3).natAbs : Nat) : Int)))))) ∧ jsc 7 20 (jsu 5 20 (jsu 3 20 (jsu 2 20 (x2.tdiv (((Nat.gcd (x2).natAbs (x3).natAbs : Nat) : Int)))))) ≤ 20 := ⟨hb_q7.1, by omega⟩
  generalize hq_q7 : jsc 7 20 (jsu 5 20 (jsu 3 20 (jsu 2 20 (x2.tdiv (((Nat.gcd (x2).natAbs (x3).natAbs : Nat) : Int)))))) = q7 at hb_q7 ⊢
  have hb_q8 := jsc_b (P := 7) (n := 20) (u := (jsu 5 20 (jsu 3 20 (jsu 2 20 (x3.tdiv (((Nat.gcd (x2).natAbs (x3).natAbs : Nat) : Int)))))))
  have hb_q8 : 0 ≤ jsc 7 20 (jsu 5 20 (jsu 3 20 (jsu 2 20 (x3.tdiv (((Nat.gcd (x2).natAbs (x3).natAbs : Nat) : Int)))))) ∧ jsc 7 20 (jsu 5 20 (jsu 3 20 (jsu 2 20 (x3.tdiv (((Nat.gcd (x2).natAbs (x3).natAbs : Nat) : Int)))))) ≤ 20 := ⟨hb_q8.1, by omega⟩
  generalize hq_q8 : jsc 7 20 (jsu 5 20 (jsu 3 20 (jsu 2 20 (x3.tdiv (((Nat.gcd (x2).natAbs (x3).natAbs : Nat) : Int)))))) = q8 at hb_q8 ⊢
  have hb_q9 := jsc_b (P := 11) (n := 20) (u := (jsu 7 20 (jsu 5 20 (jsu 3 20 (jsu 2 20 (x2.tdiv (((Nat.gcd (x2).natAbs (x3).natAbs : Nat) : Int))))))))
  have hb_q9 : 0 ≤ jsc 11 20 (jsu 7 20 (jsu 5 20 (jsu 3 20 (jsu 2 20 (x2.tdiv (((Nat.gcd (x2).natAbs (x3).natAbs : Nat) : Int))))))) ∧ jsc 11 20 (jsu 7 20 (jsu 5 20 (jsu 3 20 (jsu 2 20 (x2.tdiv (((Nat.gcd (x2).natAbs (x3).natAbs : Nat) : Int))))))) ≤ 20 := ⟨hb_q9.1, by omega⟩
  generalize hq_q9 : jsc 11 20 (jsu 7 20 (jsu 5 20 (jsu 3 20 (jsu 2 20 (x2.tdiv (((Nat.gcd (x2).natAbs (x3).natAbs : Nat) : Int))))))) = q9 at hb_q9 ⊢
  have hb_q10 := jsc_b (P := 11) (n := 20) (u := (jsu 7 20 (jsu 5 20 (jsu 3 20 (jsu 2 20 (x3.tdiv (((Nat.gcd (x2).natAbs (x3).natAbs : Nat) : Int))))))))
  have hb_q10 : 0 ≤ jsc 11 20 (jsu 7 20 (jsu 5 20 (jsu 3 20 (jsu 2 20 (x3.tdiv (((Nat.gcd (x2).natAbs (x3).natAbs : Nat) : Int))))))) ∧ jsc 11 20 (jsu 7 20 (jsu 5 20 (jsu 3 20 (jsu 2 20 (x3.tdiv (((Nat.gcd (x2).natAbs (x3).natAbs : Nat) : Int))))))) ≤ 20 := ⟨hb_q10.1, by omega⟩
  generalize hq_q10 : jsc 11 20 (jsu 7 20 (jsu 5 20 (jsu 3 20 (jsu 2 20 (x3.tdiv (((Nat.gcd (x2).natAbs (x3).natAbs : Nat) : Int))))))) = q10 at hb_q10 ⊢
  have hb_q11 := jsc_b (P := 13) (n := 20) (u := (jsu 11 20 (jsu 7 20 (jsu 5 20 (jsu 3 20 (jsu 2 20 (x2.tdiv (((Nat.gcd (x2).natAbs (x3).natAbs : Nat) : Int)))))))))
  have hb_q11 : 0 ≤ jsc 13 20 (jsu 11 20 (jsu 7 20 (jsu 5 20 (jsu 3 20 (jsu 2 20 (x2.tdiv (((Nat.gcd (x2).natAbs (x3).natAbs : Nat) : Int)))))))) ∧ jsc 13 20 (jsu 11 20 (jsu 7 20 (jsu 5 20 (jsu 3 20 (jsu 2 20 (x2.tdiv (((Nat.gcd (x2).natAbs (x3).natAbs : Nat) : Int)))))))) ≤ 20 := ⟨hb_q11.1, by omega⟩
  generalize hq_q11 : jsc 13 20 (jsu 11 20 (jsu 7 20 (jsu 5 20 (jsu 3 20 (jsu 2 20 (x2.tdiv (((Nat.gcd (x2).natAbs (x3).natAbs : Nat) : Int)))))))) = q11 at hb_q11 ⊢
  have hb_q12 := jsc_b (P := 13) (n := 20) (u := (jsu 11 20 (jsu 7 20 (jsu 5 20 (jsu 3 20 (jsu 2 20 (x3.tdiv (((Nat.gcd (x2).natAbs (x3).natAbs : Nat) : Int)))))))))
  have hb_q12 : 0 ≤ jsc 13 20 (jsu 11 20 (jsu 7 20 (jsu 5 20 (jsu 3 20 (jsu 2 20 (x3.tdiv (((Nat.gcd (x2).natAbs (x3).natAbs : Nat) : Int)))))))) ∧ jsc 13 20 (jsu 11 20 (jsu 7 20 (jsu 5 20 (jsu 3 20 (jsu 2 20 (x3.tdiv (((Nat.gcd (x2).natAbs (x3).natAbs : Nat) : Int)))))))) ≤ 20 := ⟨hb_q12.1, by omega⟩
  generalize hq_q12 : jsc 13 20 (jsu 11 20 (jsu 7 20 (jsu 5 20 (jsu 3 20 (jsu 2 20 (x3.tdiv (((Nat.gcd (x2).natAbs (x3).natAbs : Nat) : Int)))))))) = q12 at hb_q12 ⊢
  refine jT_eq (LN := [(5, (0, 0)), (4, (4, 3)), (3, (4, 2)), (2, (4, 1)), (1, (4, 0)), (0, (6, 0))]) (stN := [(0, 0)]) (hsN := [jzH_423, jzH_373, (101, [], [0]), jgh, jgh, jgh, jgh, jgh, jgh, jgh, jgh, jgh, jgh, jzH_424, jzH_419, (100, [], jS0), (100, [], []), jzH_420, jzH_316, jgh, jgh, (101, [], [0, 0, 0, 0, 0, 0]), jgh, jgh, jgh, jgh, jgh, jgh, jgh, jgh, jzH_421, jgh, jgh, jgh, jgh, (100, [], (List.replicate 1613 0)), jgh, jgh, jgh, jgh, jgh, jgh, jgh, jgh, (101, [], [q1 - q2, q3 - q4, q5 - q6, q7 - q8, -q10 + q9, q11 - q12]), (4, [(4, 44), (1, 1)], []), jgh, jzH_425]) (rfl) (rfl) (by simp only [List.cons.injEq, Prod.mk.injEq, and_true, true_and] <;> ((try unfold jw); (try unfold jwl); omega)) ?_
  refine jT_xistore (v := (0, 0)) (LN := [(6, (0, 0)), (5, (0, 0)), (4, (4, 3)), (3, (4, 2)), (2, (4, 1)), (1, (4, 0)), (0, (6, 0))]) (pcN := 301) jIH_379_299 rfl rfl rfl rfl ?_
  refine jT_xaload_n (v := (4, 1)) (pcN := 302) jIH_379_301 rfl rfl rfl ?_
  refine jT_xaload_n (v := (6, 0)) (pcN := 303) jIH_379_302 rfl rfl rfl ?_
  refine jT_xiload (v := (0, 0)) (pcN := 305) jIH_379_303 rfl rfl rfl ?_
  refine jT_xiconst (k := 1) (pcN := 306) jIH_379_305 rfl ?_
  refine jT_xiadd (x := 0) (y := 1) (z := 1) (pcN := 307) jIH_379_306 rfl (by decide) rfl ?_
  refine jT_adv 1 (pcN := 308) (LN := [(6, (0, 0)), (5, (0, 0)), (4, (4, 3)), (3, (4, 2)), (2, (4, 1)), (1, (4, 0)), (0, (6, 0))]) (stN := [(0, x1), (4, 1)]) (hsN := [jzH_423, jzH_373, (101, [], [0]), jgh, jgh, jgh, jgh, jgh, jgh, jgh, jgh, jgh, jgh, jzH_424, jzH_419, (100, [], jS0), (100, [], []), jzH_420, jzH_316, jgh, jgh, (101, [], [0, 0, 0, 0, 0, 0]), jgh, jgh, jgh, jgh, jgh, jgh, jgh, jgh, jzH_421, jgh, jgh, jgh, jgh, (100, [], (List.replicate 1613 0)), jgh, jgh, jgh, jgh, jgh, jgh, jgh, jgh, (101, [], [q1 - q2, q3 - q4, q5 - q6, q7 - q8, -q10 + q9, q11 - q12]), (4, [(4, 44), (1, 1)], []), jgh, jzH_425]) (c1 := 0) (s1 := 0) (c2 := 0) (s2 := 0) (by exact rfl) ?_ (by omega) (by omega)
  refine jT_xaload_n (v := (6, 0)) (pcN := 309) jIH_379_308 rfl rfl rfl ?_
  refine jT_xiload (v := (0, 0)) (pcN := 311) jIH_379_309 rfl rfl rfl ?_
  refine jT_xiconst (k := 2) (pcN := 312) jIH_379_311 rfl ?_
  refine jT_xiadd (x := 0) (y := 2) (z := 2) (pcN := 313) jIH_379_312 rfl (by decide) rfl ?_
  refine jT_adv 1 (pcN := 314) (LN := [(6, (0, 0)), (5, (0, 0)), (4, (4, 3)), (3, (4, 2)), (2, (4, 1)), (1, (4, 0)), (0, (6, 0))]) (stN := [(0, x2), (0, x1), (4, 1)]) (hsN := [jzH_423, jzH_373, (101, [], [0]), jgh, jgh, jgh, jgh, jgh, jgh, jgh, jgh, jgh, jgh, jzH_424, jzH_419, (100, [], jS0), (100, [], []), jzH_420, jzH_316, jgh, jgh, (101, [], [0, 0, 0, 0, 0, 0]), jgh, jgh, jgh, jgh, jgh, jgh, jgh, jgh, jzH_421, jgh, jgh, jgh, jgh, (100, [], (List.replicate 1613 0)), jgh, jgh, jgh, jgh, jgh, jgh, jgh, jgh, (101, [], [q1 - q2, q3 - q4, q5 - q6, q7 - q8, -q10 + q9, q11 - q12]), (4, [(4, 44), (1, 1)], []), jgh, jzH_425]) (c1 := 0) (s1 := 0) (c2 := 0) (s2 := 0) (by exact rfl) ?_ (by omega) (by omega)
  refine jT_xaload_n (v := (6, 0)) (pcN := 315) jIH_379_314 rfl rfl rfl ?_
  refine jT_xiload (v := (0, 0)) (pcN := 317) jIH_379_315 rfl rfl rfl ?_
  refine jT_xiconst (k := 3) (pcN := 318) jIH_379_317 rfl ?_
  refine jT_xiadd (x := 0) (y := 3) (z := 3) (pcN := 319) jIH_379_318 rfl (by decide) rfl ?_
  refine jT_adv 1 (pcN := 320) (LN := [(6, (0, 0)), (5, (0, 0)), (4, (4, 3)), (3, (4, 2)), (2, (4, 1)), (1, (4, 0)), (0, (6, 0))]) (stN := [(0, x3), (0, x2), (0, x1), (4, 1)]) (hsN := [jzH_423, jzH_373, (101, [], [0]), jgh, jgh, jgh, jgh, jgh, jgh, jgh, jgh, jgh, jgh, jzH_424, jzH_419, (100, [], jS0), (100, [], []), jzH_420, jzH_316, jgh, jgh, (101, [], [0, 0, 0, 0, 0, 0]), jgh, jgh, jgh, jgh, jgh, jgh, jgh, jgh, jzH_421, jgh, jgh, jgh, jgh, (100, [], (List.replicate 1613 0)), jgh, jgh, jgh, jgh, jgh, jgh, jgh, jgh, (101, [], [q1 - q2, q3 - q4, q5 - q6, q7 - q8, -q10 + q9, q11 - q12]), (4, [(4, 44), (1, 1)], []), jgh, jzH_425]) (c1 := 0) (s1 := 0) (c2 := 0) (s2 := 0) (by exact rfl) ?_ (by omega) (by omega)
  refine jT_callB [1, 15, 16, 17, 18, 19, 20, 21, 22, 23, 24, 25, 26, 27, 28, 29, 35, 36, 37, 38, 39, 40, 41, 42] (y := 187) (pcN := 323) (dC := 43) (bc1 := 0) (bc2 := 0) (c1 := 0) (c2 := 0) (as := [(4, 1), (0, x1), (0, x2), (0, x3)]) (asC := [(4, 0), (0, x1), (0, x2), (0, x3)]) (LN := [(6, (0, 0)), (5, (0, 0)), (4, (4, 3)), (3, (4, 2)), (2, (4, 1)), (1, (4, 0)), (0, (6, 0))]) (stN := []) (hsC := jpH_354) (hsD := [jzH_319, jgh, (100, [], []), jzH_315, jzH_320, jgh, jgh, (101, [], [(jsc 2 20 (x2.tdiv (((Nat.gcd (x2).natAbs (x3).natAbs : Nat) : Int)))) - (jsc 2 20 (x3.tdiv (((Nat.gcd (x2).natAbs (x3).natAbs : Nat) : Int)))), (jsc 3 20 (jsu 2 20 (x2.tdiv (((Nat.gcd (x2).natAbs (x3).natAbs : Nat) : Int))))) - (jsc 3 20 (jsu 2 20 (x3.tdiv (((Nat.gcd (x2).natAbs (x3).natAbs : Nat) : Int))))), (jsc 5 20 (jsu 3 20 (jsu 2 20 (x2.tdiv (((Nat.gcd (x2).natAbs (x3).natAbs : Nat) : Int)))))) - (jsc 5 20 (jsu 3 20 (jsu 2 20 (x3.tdiv (((Nat.gcd (x2).natAbs (x3).natAbs : Nat) : Int)))))), (jsc 7 20 (jsu 5 20 (jsu 3 20 (jsu 2 20 (x2.tdiv (((Nat.gcd (x2).natAbs (x3).natAbs : Nat) : Int))))))) - (jsc 7 20 (jsu 5 20 (jsu 3 20 (jsu 2 20 (x3.tdiv (((Nat.gcd (x2).natAbs (x3).natAbs : Nat) : Int))))))), -(jsc 11 20 (jsu 7 20 (jsu 5 20 (jsu 3 20 (jsu 2 20 (x3.tdiv (((Nat.gcd (x2).natAbs (x3).natAbs : Nat) : Int)))))))) + (jsc 11 20 (jsu 7 20 (jsu 5 20 (jsu 3 20 (jsu 2 20 (x2.tdiv (((Nat.gcd (x2).natAbs (x3).natAbs : Nat) : Int)))))))), (jsc 13 20 (jsu 11 20 (jsu 7 20 (jsu 5 20 (jsu 3 20 (jsu 2 20 (x2.tdiv (((Nat.gcd (x2).natAbs (x3).natAbs : Nat) : Int))))))))) - (jsc 13 20 (jsu 11 20 (jsu 7 20 (jsu 5 20 (jsu 3 20 (jsu 2 20 (x3.tdiv (((Nat.gcd (x2).natAbs (x3).natAbs : Nat) : Int)))))))))]), jgh, jgh, jgh, jgh, jgh, jgh, jgh, jgh, (100, [], jS0), jgh, jgh, jgh, jgh, jgh, jgh, jgh]) (v := (0, 0)) (st2 := [(0, 0)]) (hs2 := [jzH_423, jzH_426, (101, [], [0]), jgh, jgh, jgh, jgh, jgh, jgh, jgh, jgh, jgh, jgh, jzH_424, jzH_419, jgh, (100, [], []), jzH_420, jzH_427, jgh, jgh, (101, [], [(jsc 2 20 (x2.tdiv (((Nat.gcd (x2).natAbs (x3).natAbs : Nat) : Int)))) - (jsc 2 20 (x3.tdiv (((Nat.gcd (x2).natAbs (x3).natAbs : Nat) : Int)))), (jsc 3 20 (jsu 2 20 (x2.tdiv (((Nat.gcd (x2).natAbs (x3).natAbs : Nat) : Int))))) - (jsc 3 20 (jsu 2 20 (x3.tdiv (((Nat.gcd (x2).natAbs (x3).natAbs : Nat) : Int))))), (jsc 5 20 (jsu 3 20 (jsu 2 20 (x2.tdiv (((Nat.gcd (x2).natAbs (x3).natAbs : Nat) : Int)))))) - (jsc 5 20 (jsu 3 20 (jsu 2 20 (x3.tdiv (((Nat.gcd (x2).natAbs (x3).natAbs : Nat) : Int)))))), (jsc 7 20 (jsu 5 20 (jsu 3 20 (jsu 2 20 (x2.tdiv (((Nat.gcd (x2).natAbs (x3).natAbs : Nat) : Int))))))) - (jsc 7 20 (jsu 5 20 (jsu 3 20 (jsu 2 20 (x3.tdiv (((Nat.gcd (x2).natAbs (x3).natAbs : Nat) : Int))))))), -(jsc 11 20 (jsu 7 20 (jsu 5 20 (jsu 3 20 (jsu 2 20 (x3.tdiv (((Nat.gcd (x2).natAbs (x3).natAbs : Nat) : Int)))))))) + (jsc 11 20 (jsu 7 20 (jsu 5 20 (jsu 3 20 (jsu 2 20 (x2.tdiv (((Nat.gcd (x2).natAbs (x3).natAbs : Nat) : Int)))))))), (jsc 13 20 (jsu 11 20 (jsu 7 20 (jsu 5 20 (jsu 3 20 (jsu 2 20 (x2.tdiv (((Nat.gcd (x2).natAbs (x3).natAbs : Nat) : Int))))))))) - (jsc 13 20 (jsu 11 20 (jsu 7 20 (jsu 5 20 (jsu 3 20 (jsu 2 20 (x3.tdiv (((Nat.gcd (x2).natAbs (x3).natAbs : Nat) : Int)))))))))]), jgh, jgh, jgh, jgh, jgh, jgh, jgh, jgh, jzH_421, jgh, jgh, jgh, jgh, (100, [], jS0), jgh, jgh, jgh, jgh, jgh, jgh, jgh, jgh, (101, [], [q1 - q2, q3 - q4, q5 - q6, q7 - q8, -q10 + q9, q11 - q12]), (4, [(4, 44), (1, 1)], []), jgh, jzH_425]) (jH_187_89 (d := 0) (by omega) (by omega) (by omega) (by omega) (by omega) (by omega)) (by rfl) (by rfl) (by rfl) (by rfl) ⟨rfl, rfl, rfl, rfl, rfl, rfl, rfl, rfl, rfl, rfl, rfl, rfl, rfl, rfl, rfl, rfl, rfl, rfl, rfl, rfl, rfl, rfl, rfl, rfl, trivial⟩ (by rfl) (by rfl) (by omega) (by show 44 ≤ 48; omega) (by omega) (by omega) rfl rfl ?_
  rw [hq_q1]
  rw [hq_q2]
  rw [hq_q3]
  rw [hq_q4]
  rw [hq_q5]
  rw [hq_q6]
  rw [hq_q7]
  rw [hq_q8]
  rw [hq_q9]
  rw [hq_q10]
  rw [hq_q11]
  rw [hq_q12]
  refine jT_eq (LN := [(6, (0, 0)), (5, (0, 0)), (4, (4, 3)), (3, (4, 2)), (2, (4, 1)), (1, (4, 0)), (0, (6, 0))]) (stN := [(0, 0)]) (hsN := [jzH_423, jzH_426, (101, [], [0]), jgh, jgh, jgh, jgh, jgh, jgh, jgh, jgh, jgh, jgh, jzH_424, jzH_419, jgh, (100, [], []), jzH_420, jzH_427, jgh, jgh, (101, [], [q1 - q2, q3 - q4, q5 - q6, q7 - q8, -q10 + q9, q11 - q12]), jgh, jgh, jgh, jgh, jgh, jgh, jgh, jgh, jzH_421, jgh, jgh, jgh, jgh, (100, [], jS0), jgh, jgh, jgh, jgh, jgh, jgh, jgh, jgh, (101, [], [q1 - q2, q3 - q4, q5 - q6, q7 - q8, -q10 + q9, q11 - q12]), (4, [(4, 44), (1, 1)], []), jgh, jzH_425]) (rfl) (rfl) (by simp only [List.cons.injEq, Prod.mk.injEq, and_true, true_and] <;> ((try unfold jw); (try unfold jwl); omega)) ?_
  refine jT_xistore (v := (0, 0)) (LN := [(7, (0, 0)), (6, (0, 0)), (5, (0, 0)), (4, (4, 3)), (3, (4, 2)), (2, (4, 1)), (1, (4, 0)), (0, (6, 0))]) (pcN := 325) jIH_379_323 rfl rfl rfl rfl ?_
  refine jT_xaload_n (v := (4, 1)) (pcN := 326) jIH_379_325 rfl rfl rfl ?_
  refine jT_callA [1, 15, 16, 17, 18, 19, 20, 21, 22, 23, 24, 25, 26, 27, 28, 29] (y := 186) (pcN := 329) (dC := 0) (bc1 := 0) (bc2 := 0) (c1 := 0) (c2 := 0) (as := [(4, 1)]) (asC := [(4, 0)]) (LN := [(7, (0, 0)), (6, (0, 0)), (5, (0, 0)), (4, (4, 3)), (3, (4, 2)), (2, (4, 1)), (1, (4, 0)), (0, (6, 0))]) (stN := []) (hsC := jpH_363) (ex := []) (v := (0, 0)) (st2 := [(0, 0)]) (hs2 := [jzH_423, jzH_426, (101, [], [0]), jgh, jgh, jgh, jgh, jgh, jgh, jgh, jgh, jgh, jgh, jzH_424, jzH_419, jgh, (100, [], []), jzH_420, jzH_427, jgh, jgh, (101, [], [q1 - q2, q3 - q4, q5 - q6, q7 - q8, -q10 + q9, q11 - q12]), jgh, jgh, jgh, jgh, jgh, jgh, jgh, jgh, jzH_421, jgh, jgh, jgh, jgh, (100, [], jS0), jgh, jgh, jgh, jgh, jgh, jgh, jgh, jgh, (101, [], [q1 - q2, q3 - q4, q5 - q6, q7 - q8, -q10 + q9, q11 - q12]), (4, [(4, 44), (1, 1)], []), jgh, jzH_425]) (jH_186_84 (d := 0)) (by rfl) (by rfl) (by rfl) (by rfl) ⟨rfl, rfl, rfl, rfl, rfl, rfl, rfl, rfl, rfl, rfl, rfl, rfl, rfl, rfl, rfl, rfl, trivial⟩ (by rfl) (by rfl) (by omega) (by show 44 ≤ 48; omega) (by omega) (by omega) rfl rfl ?_
  refine jT_xiload (v := (0, 0)) (pcN := 331) jIH_379_329 rfl rfl rfl ?_
  refine jT_xicT (pcN := 336) jIH_379_331 rfl (by decide +kernel) rfl ?_
  refine jT_xiload (v := (0, 0)) (pcN := 338) jIH_379_336 rfl rfl rfl ?_
  refine jT_xifF (t := 360) (pcN := 341) jIH_379_338 rfl (by decide +kernel) rfl rfl ?_
  refine jT_xaload_n (v := (4, 2)) (pcN := 342) jIH_379_341 rfl rfl rfl ?_
  refine jT_xiconst (k := 0) (pcN := 343) jIH_379_342 rfl ?_
  refine jT_lald (x := 0) (a := 2) (j := 0) (fs := []) (X := [0]) jIH_379_343 rfl rfl rfl rfl ?_
  refine jT_eq (LN := [(7, (0, 0)), (6, (0, 0)), (5, (0, 0)), (4, (4, 3)), (3, (4, 2)), (2, (4, 1)), (1, (4, 0)), (0, (6, 0))]) (stN := [(1, 0)]) (hsN := [jzH_423, jzH_426, (101, [], [0]), jgh, jgh, jgh, jgh, jgh, jgh, jgh, jgh, jgh, jgh, jzH_424, jzH_419, jgh, (100, [], []), jzH_420, jzH_427, jgh, jgh, (101, [], [q1 - q2, q3 - q4, q5 - q6, q7 - q8, -q10 + q9, q11 - q12]), jgh, jgh, jgh, jgh, jgh, jgh, jgh, jgh, jzH_421, jgh, jgh, jgh, jgh, (100, [], jS0), jgh, jgh, jgh, jgh, jgh, jgh, jgh, jgh, (101, [], [q1 - q2, q3 - q4, q5 - q6, q7 - q8, -q10 + q9, q11 - q12]), (4, [(4, 44), (1, 1)], []), jgh, jzH_425]) rfl rfl rfl ?_
  refine jT_xiload (v := (0, 0)) (pcN := 346) jIH_379_344 rfl rfl rfl ?_
  refine jT_xifT (pcN := 353) jIH_379_346 rfl (by decide +kernel) rfl ?_
  refine jT_xlconst (z := 0) (pcN := 354) jIH_379_353 rfl rfl ?_
  refine jT_lcmp (a := 0) (b := 0) (z := 0) (by rfl) (by rfl) (by decide +kernel) (by decide +kernel) (by decide) ?_
  refine jT_xifT (pcN := 360) jIH_379_355 rfl (by decide +kernel) rfl ?_
  refine jT_xgoto (pcN := 3740) jIH_379_360 rfl ?_
  refine jT_xiinc (x := 0) (z := 5) (LN := [(5, (0, 5)), (7, (0, 0)), (6, (0, 0)), (4, (4, 3)), (3, (4, 2)), (2, (4, 1)), (1, (4, 0)), (0, (6, 0))]) (pcN := 3743) jIH_379_3740 rfl rfl (by decide) rfl rfl ?_
  refine jT_xgoto (pcN := 28) jIH_379_3743 rfl ?_
  refine jT_xiload (v := (0, 5)) (pcN := 30) jIH_379_28 rfl rfl rfl ?_
  refine jT_xaload_n (v := (6, 0)) (pcN := 31) jIH_379_30 rfl rfl rfl ?_
  refine jT_adv 1 (pcN := 32) (LN := [(5, (0, 5)), (7, (0, 0)), (6, (0, 0)), (4, (4, 3)), (3, (4, 2)), (2, (4, 1)), (1, (4, 0)), (0, (6, 0))]) (stN := [(0, 5), (0, 5)]) (hsN := [jzH_423, jzH_426, (101, [], [0]), jgh, jgh, jgh, jgh, jgh, jgh, jgh, jgh, jgh, jgh, jzH_424, jzH_419, jgh, (100, [], []), jzH_420, jzH_427, jgh, jgh, (101, [], [q1 - q2, q3 - q4, q5 - q6, q7 - q8, -q10 + q9, q11 - q12]), jgh, jgh, jgh, jgh, jgh, jgh, jgh, jgh, jzH_421, jgh, jgh, jgh, jgh, (100, [], jS0), jgh, jgh, jgh, jgh, jgh, jgh, jgh, jgh, (101, [], [q1 - q2, q3 - q4, q5 - q6, q7 - q8, -q10 + q9, q11 - q12]), (4, [(4, 44), (1, 1)], []), jgh, jzH_425]) (c1 := 0) (s1 := 0) (c2 := 0) (s2 := 0) (by exact rfl) ?_ (by omega) (by omega)
  refine jT_xiconst (k := 5) (pcN := 33) jIH_379_32 rfl ?_
  refine jT_xisub (x := 5) (y := 5) (z := 0) (pcN := 34) jIH_379_33 rfl (by decide) rfl ?_
  refine jT_xicT (pcN := 3746) jIH_379_34 rfl (by decide +kernel) rfl ?_
  refine jT_xiconst (k := 1) (pcN := 3747) jIH_379_3746 rfl ?_
  exact jT_ret rfl (by decide) (by show 44 ≤ 48; decide) (by omega) (by omega) ⟨rfl, rfl⟩
set_option maxRecDepth 100000 in
theorem jL_0_7 {d : Nat} {x0 x1 x2 x3 x4 : Int} (h_x0 : (-2147483648) ≤ x0 ∧ x0 ≤ 2147483647) (h_x1 : 0 ≤ x1 ∧ x1 ≤ 7) (h_x2 : 1 ≤ x2 ∧ x2 ≤ 1000000) (h_x3 : 1000001 ≤ x3 ∧ x3 ≤ 2147483647) (h_x4 : (-2147483648) ≤ x4 ∧ x4 ≤ 2147483647) : jT [x0, x1, x2, x3, x4] (d + 3) 379 30 276 [(5, (0, 0)), (4, (4, 3)), (3, (4, 2)), (2, (4, 1)), (1, (4, 0)), (0, (6, 0))] [] jpH_374 1 6 (fun k v hsN => k = 0 ∧ v = (0, 1)) := by
  refine jT_xaload_n (v := (4, 0)) (pcN := 277) jIH_379_276 rfl rfl rfl ?_
  refine jT_xaload_n (v := (6, 0)) (pcN := 278) jIH_379_277 rfl rfl rfl ?_
  refine jT_xiload (v := (0, 0)) (pcN := 280) jIH_379_278 rfl rfl rfl ?_
  refine jT_xiconst (k := 1) (pcN := 281) jIH_379_280 rfl ?_
  refine jT_xiadd (x := 0) (y := 1) (z := 1) (pcN := 282) jIH_379_281 rfl (by decide) rfl ?_
  refine jT_adv 1 (pcN := 283) (LN := [(5, (0, 0)), (4, (4, 3)), (3, (4, 2)), (2, (4, 1)), (1, (4, 0)), (0, (6, 0))]) (stN := [(0, x1), (4, 0)]) (hsN := jpH_374) (c1 := 0) (s1 := 0) (c2 := 1) (s2 := 6) (by exact rfl) ?_ (by omega) (by omega)
  refine jT_xaload_n (v := (6, 0)) (pcN := 284) jIH_379_283 rfl rfl rfl ?_
  refine jT_xiload (v := (0, 0)) (pcN := 286) jIH_379_284 rfl rfl rfl ?_
  refine jT_xiconst (k := 2) (pcN := 287) jIH_379_286 rfl ?_
  refine jT_xiadd (x := 0) (y := 2) (z := 2) (pcN := 288) jIH_379_287 rfl (by decide) rfl ?_
  refine jT_adv 1 (pcN := 289) (LN := [(5, (0, 0)), (4, (4, 3)), (3, (4, 2)), (2, (4, 1)), (1, (4, 0)), (0, (6, 0))]) (stN := [(0, x2), (0, x1), (4, 0)]) (hsN := jpH_374) (c1 := 0) (s1 := 0) (c2 := 1) (s2 := 6) (by exact rfl) ?_ (by omega) (by omega)
  refine jT_xaload_n (v := (6, 0)) (pcN := 290) jIH_379_289 rfl rfl rfl ?_
  refine jT_xiload (v := (0, 0)) (pcN := 292) jIH_379_290 rfl rfl rfl ?_
  refine jT_xiconst (k := 3) (pcN := 293) jIH_379_292 rfl ?_
  refine jT_xiadd (x := 0) (y := 3) (z := 3) (pcN := 294) jIH_379_293 rfl (by decide) rfl ?_
  refine jT_adv 1 (pcN := 295) (LN := [(5, (0, 0)), (4, (4, 3)), (3, (4, 2)), (2, (4, 1)), (1, (4, 0)), (0, (6, 0))]) (stN := [(0, x3), (0, x2), (0, x1), (4, 0)]) (hsN := jpH_374) (c1 := 0) (s1 := 0) (c2 := 1) (s2 := 6) (by exact rfl) ?_ (by omega) (by omega)
  refine jT_xaload_n (v := (4, 2)) (pcN := 296) jIH_379_295 rfl rfl rfl ?_
  refine jT_fR [0, 2, 4, 5, 6, 7, 8, 9, 10, 11, 12, 13, 14] 30 (y := 326) (pcN := 299) (dC := 2) (bc1 := 1) (bc2 := 6) (c1 := 0) (c2 := 0) (as := [(4, 0), (0, x1), (0, x2), (0, x3), (4, 2)]) (asC := [(4, 0), (0, x1), (0, x2), (0, x3), (4, 1)]) (LN := [(5, (0, 0)), (4, (4, 3)), (3, (4, 2)), (2, (4, 1)), (1, (4, 0)), (0, (6, 0))]) (stN := []) (hsC := jpH_14) (v := (0, 2)) (st2 := [(0, 2)]) (jH_326_92 (d := 0) (by omega) (by omega) (by omega)) (by rfl) (by rfl) (by decide +kernel) (by rfl) (by rfl) (by omega) (by omega) (by omega) (by omega) rfl ?_
  refine jT_xistore (v := (0, 2)) (LN := [(6, (0, 2)), (5, (0, 0)), (4, (4, 3)), (3, (4, 2)), (2, (4, 1)), (1, (4, 0)), (0, (6, 0))]) (pcN := 301) jIH_379_299 rfl rfl rfl rfl ?_
  refine jT_xaload_n (v := (4, 1)) (pcN := 302) jIH_379_301 rfl rfl rfl ?_
  refine jT_xaload_n (v := (6, 0)) (pcN := 303) jIH_379_302 rfl rfl rfl ?_
  refine jT_xiload (v := (0, 0)) (pcN := 305) jIH_379_303 rfl rfl rfl ?_
  refine jT_xiconst (k := 1) (pcN := 306) jIH_379_305 rfl ?_
  refine jT_xiadd (x := 0) (y := 1) (z := 1) (pcN := 307) jIH_379_306 rfl (by decide) rfl ?_
  refine jT_adv 1 (pcN := 308) (LN := [(6, (0, 2)), (5, (0, 0)), (4, (4, 3)), (3, (4, 2)), (2, (4, 1)), (1, (4, 0)), (0, (6, 0))]) (stN := [(0, x1), (4, 1)]) (hsN := jpH_374) (c1 := 0) (s1 := 0) (c2 := 0) (s2 := 0) (by exact rfl) ?_ (by omega) (by omega)
  refine jT_xaload_n (v := (6, 0)) (pcN := 309) jIH_379_308 rfl rfl rfl ?_
  refine jT_xiload (v := (0, 0)) (pcN := 311) jIH_379_309 rfl rfl rfl ?_
  refine jT_xiconst (k := 2) (pcN := 312) jIH_379_311 rfl ?_
  refine jT_xiadd (x := 0) (y := 2) (z := 2) (pcN := 313) jIH_379_312 rfl (by decide) rfl ?_
  refine jT_adv 1 (pcN := 314) (LN := [(6, (0, 2)), (5, (0, 0)), (4, (4, 3)), (3, (4, 2)), (2, (4, 1)), (1, (4, 0)), (0, (6, 0))]) (stN := [(0, x2), (0, x1), (4, 1)]) (hsN := jpH_374) (c1 := 0) (s1 := 0) (c2 := 0) (s2 := 0) (by exact rfl) ?_ (by omega) (by omega)
  refine jT_xaload_n (v := (6, 0)) (pcN := 315) jIH_379_314 rfl rfl rfl ?_
  refine jT_xiload (v := (0, 0)) (pcN := 317) jIH_379_315 rfl rfl rfl ?_
  refine jT_xiconst (k := 3) (pcN := 318) jIH_379_317 rfl ?_
  refine jT_xiadd (x := 0) (y := 3) (z := 3) (pcN := 319) jIH_379_318 rfl (by decide) rfl ?_
  refine jT_adv 1 (pcN := 320) (LN := [(6, (0, 2)), (5, (0, 0)), (4, (4, 3)), (3, (4, 2)), (2, (4, 1)), (1, (4, 0)), (0, (6, 0))]) (stN := [(0, x3), (0, x2), (0, x1), (4, 1)]) (hsN := jpH_374) (c1 := 0) (s1 := 0) (c2 := 0) (s2 := 0) (by exact rfl) ?_ (by omega) (by omega)
  refine jT_fB [1, 15, 16, 17, 18, 19, 20, 21, 22, 23, 24, 25, 26, 27, 28, 29] 30 (y := 187) (pcN := 323) (dC := 2) (bc1 := 0) (bc2 := 0) (c1 := 0) (c2 := 0) (as := [(4, 1), (0, x1), (0, x2), (0, x3)]) (asC := [(4, 0), (0, x1), (0, x2), (0, x3)]) (LN := [(6, (0, 2)), (5, (0, 0)), (4, (4, 3)), (3, (4, 2)), (2, (4, 1)), (1, (4, 0)), (0, (6, 0))]) (stN := []) (hsC := jpH_21) (hsD := jpH_36) (v := (0, 0)) (st2 := [(0, 0)]) (hs2 := jpH_416) (jH_187_93 (d := 0) (by omega) (by omega) (by omega)) (by rfl) (by rfl) (by decide +kernel) (by rfl) (by rfl) (by omega) (by omega) (by omega) (by omega) rfl (by decide +kernel) ?_
  refine jT_xistore (v := (0, 0)) (LN := [(7, (0, 0)), (6, (0, 2)), (5, (0, 0)), (4, (4, 3)), (3, (4, 2)), (2, (4, 1)), (1, (4, 0)), (0, (6, 0))]) (pcN := 325) jIH_379_323 rfl rfl rfl rfl ?_
  refine jT_xaload_n (v := (4, 1)) (pcN := 326) jIH_379_325 rfl rfl rfl ?_
  refine jT_fR [1, 15, 16, 17, 18, 19, 20, 21, 22, 23, 24, 25, 26, 27, 28, 29] 30 (y := 186) (pcN := 329) (dC := 0) (bc1 := 0) (bc2 := 0) (c1 := 0) (c2 := 0) (as := [(4, 1)]) (asC := [(4, 0)]) (LN := [(7, (0, 0)), (6, (0, 2)), (5, (0, 0)), (4, (4, 3)), (3, (4, 2)), (2, (4, 1)), (1, (4, 0)), (0, (6, 0))]) (stN := []) (hsC := jpH_36) (v := (0, 2)) (st2 := [(0, 2)]) (jH_186_18 (d := 0)) (by rfl) (by rfl) (by decide +kernel) (by rfl) (by rfl) (by omega) (by omega) (by omega) (by omega) rfl ?_
  refine jT_xiload (v := (0, 2)) (pcN := 331) jIH_379_329 rfl rfl rfl ?_
  refine jT_xicT (pcN := 336) jIH_379_331 rfl (by decide +kernel) rfl ?_
  refine jT_xiload (v := (0, 2)) (pcN := 338) jIH_379_336 rfl rfl rfl ?_
  refine jT_xifT (pcN := 360) jIH_379_338 rfl (by decide +kernel) rfl ?_
  refine jT_xgoto (pcN := 3740) jIH_379_360 rfl ?_
  refine jT_xiinc (x := 0) (z := 5) (LN := [(5, (0, 5)), (7, (0, 0)), (6, (0, 2)), (4, (4, 3)), (3, (4, 2)), (2, (4, 1)), (1, (4, 0)), (0, (6, 0))]) (pcN := 3743) jIH_379_3740 rfl rfl (by decide) rfl rfl ?_
  refine jT_xgoto (pcN := 28) jIH_379_3743 rfl ?_
  refine jT_xiload (v := (0, 5)) (pcN := 30) jIH_379_28 rfl rfl rfl ?_
  refine jT_xaload_n (v := (6, 0)) (pcN := 31) jIH_379_30 rfl rfl rfl ?_
  refine jT_adv 1 (pcN := 32) (LN := [(5, (0, 5)), (7, (0, 0)), (6, (0, 2)), (4, (4, 3)), (3, (4, 2)), (2, (4, 1)), (1, (4, 0)), (0, (6, 0))]) (stN := [(0, 5), (0, 5)]) (hsN := jpH_416) (c1 := 0) (s1 := 0) (c2 := 0) (s2 := 0) (by exact rfl) ?_ (by omega) (by omega)
  refine jT_xiconst (k := 5) (pcN := 33) jIH_379_32 rfl ?_
  refine jT_xisub (x := 5) (y := 5) (z := 0) (pcN := 34) jIH_379_33 rfl (by decide) rfl ?_
  refine jT_xicT (pcN := 3746) jIH_379_34 rfl (by decide +kernel) rfl ?_
  refine jT_xiconst (k := 1) (pcN := 3747) jIH_379_3746 rfl ?_
  exact jT_ret rfl (by decide) (by show 30 ≤ 30; decide) (by omega) (by omega) ⟨rfl, rfl⟩
set_option maxRecDepth 100000 in
theorem jL_0_8 {d : Nat} {x0 x1 x2 x3 x4 : Int} (h_x0 : (-2147483648) ≤ x0 ∧ x0 ≤ 2147483647) (h_x1 : 0 ≤ x1 ∧ x1 ≤ 7) (h_x2 : 1000001 ≤ x2 ∧ x2 ≤ 2147483647) (h_x3 : (-2147483648) ≤ x3 ∧ x3 ≤ 2147483647) (h_x4 : (-2147483648) ≤ x4 ∧ x4 ≤ 2147483647) : jT [x0, x1, x2, x3, x4] (d + 3) 379 30 276 [(5, (0, 0)), (4, (4, 3)), (3, (4, 2)), (2, (4, 1)), (1, (4, 0)), (0, (6, 0))] [] jpH_374 1 6 (fun k v hsN => k = 0 ∧ v = (0, 1)) := by
  refine jT_xaload_n (v := (4, 0)) (pcN := 277) jIH_379_276 rfl rfl rfl ?_
  refine jT_xaload_n (v := (6, 0)) (pcN := 278) jIH_379_277 rfl rfl rfl ?_
  refine jT_xiload (v := (0, 0)) (pcN := 280) jIH_379_278 rfl rfl rfl ?_
  refine jT_xiconst (k := 1) (pcN := 281) jIH_379_280 rfl ?_
  refine jT_xiadd (x := 0) (y := 1) (z := 1) (pcN := 282) jIH_379_281 rfl (by decide) rfl ?_
  refine jT_adv 1 (pcN := 283) (LN := [(5, (0, 0)), (4, (4, 3)), (3, (4, 2)), (2, (4, 1)), (1, (4, 0)), (0, (6, 0))]) (stN := [(0, x1), (4, 0)]) (hsN := jpH_374) (c1 := 0) (s1 := 0) (c2 := 1) (s2 := 6) (by exact rfl) ?_ (by omega) (by omega)
  refine jT_xaload_n (v := (6, 0)) (pcN := 284) jIH_379_283 rfl rfl rfl ?_
  refine jT_xiload (v := (0, 0)) (pcN := 286) jIH_379_284 rfl rfl rfl ?_
  refine jT_xiconst (k := 2) (pcN := 287) jIH_379_286 rfl ?_
  refine jT_xiadd (x := 0) (y := 2) (z := 2) (pcN := 288) jIH_379_287 rfl (by decide) rfl ?_
  refine jT_adv 1 (pcN := 289) (LN := [(5, (0, 0)), (4, (4, 3)), (3, (4, 2)), (2, (4, 1)), (1, (4, 0)), (0, (6, 0))]) (stN := [(0, x2), (0, x1), (4, 0)]) (hsN := jpH_374) (c1 := 0) (s1 := 0) (c2 := 1) (s2 := 6) (by exact rfl) ?_ (by omega) (by omega)
  refine jT_xaload_n (v := (6, 0)) (pcN := 290) jIH_379_289 rfl rfl rfl ?_
  refine jT_xiload (v := (0, 0)) (pcN := 292) jIH_379_290 rfl rfl rfl ?_
  refine jT_xiconst (k := 3) (pcN := 293) jIH_379_292 rfl ?_
  refine jT_xiadd (x := 0) (y := 3) (z := 3) (pcN := 294) jIH_379_293 rfl (by decide) rfl ?_
  refine jT_adv 1 (pcN := 295) (LN := [(5, (0, 0)), (4, (4, 3)), (3, (4, 2)), (2, (4, 1)), (1, (4, 0)), (0, (6, 0))]) (stN := [(0, x3), (0, x2), (0, x1), (4, 0)]) (hsN := jpH_374) (c1 := 0) (s1 := 0) (c2 := 1) (s2 := 6) (by exact rfl) ?_ (by omega) (by omega)
  refine jT_xaload_n (v := (4, 2)) (pcN := 296) jIH_379_295 rfl rfl rfl ?_
  refine jT_fR [0, 2, 4, 5, 6, 7, 8, 9, 10, 11, 12, 13, 14] 30 (y := 326) (pcN := 299) (dC := 2) (bc1 := 1) (bc2 := 6) (c1 := 0) (c2 := 0) (as := [(4, 0), (0, x1), (0, x2), (0, x3), (4, 2)]) (asC := [(4, 0), (0, x1), (0, x2), (0, x3), (4, 1)]) (LN := [(5, (0, 0)), (4, (4, 3)), (3, (4, 2)), (2, (4, 1)), (1, (4, 0)), (0, (6, 0))]) (stN := []) (hsC := jpH_14) (v := (0, 2)) (st2 := [(0, 2)]) (jH_326_96 (d := 0) (by omega) (by omega) (by omega)) (by rfl) (by rfl) (by decide +kernel) (by rfl) (by rfl) (by omega) (by omega) (by omega) (by omega) rfl ?_
  refine jT_xistore (v := (0, 2)) (LN := [(6, (0, 2)), (5, (0, 0)), (4, (4, 3)), (3, (4, 2)), (2, (4, 1)), (1, (4, 0)), (0, (6, 0))]) (pcN := 301) jIH_379_299 rfl rfl rfl rfl ?_
  refine jT_xaload_n (v := (4, 1)) (pcN := 302) jIH_379_301 rfl rfl rfl ?_
  refine jT_xaload_n (v := (6, 0)) (pcN := 303) jIH_379_302 rfl rfl rfl ?_
  refine jT_xiload (v := (0, 0)) (pcN := 305) jIH_379_303 rfl rfl rfl ?_
  refine jT_xiconst (k := 1) (pcN := 306) jIH_379_305 rfl ?_
  refine jT_xiadd (x := 0) (y := 1) (z := 1) (pcN := 307) jIH_379_306 rfl (by decide) rfl ?_
  refine jT_adv 1 (pcN := 308) (LN := [(6, (0, 2)), (5, (0, 0)), (4, (4, 3)), (3, (4, 2)), (2, (4, 1)), (1, (4, 0)), (0, (6, 0))]) (stN := [(0, x1), (4, 1)]) (hsN := jpH_374) (c1 := 0) (s1 := 0) (c2 := 0) (s2 := 0) (by exact rfl) ?_ (by omega) (by omega)
  refine jT_xaload_n (v := (6, 0)) (pcN := 309) jIH_379_308 rfl rfl rfl ?_
  refine jT_xiload (v := (0, 0)) (pcN := 311) jIH_379_309 rfl rfl rfl ?_
  refine jT_xiconst (k := 2) (pcN := 312) jIH_379_311 rfl ?_
  refine jT_xiadd (x := 0) (y := 2) (z := 2) (pcN := 313) jIH_379_312 rfl (by decide) rfl ?_
  refine jT_adv 1 (pcN := 314) (LN := [(6, (0, 2)), (5, (0, 0)), (4, (4, 3)), (3, (4, 2)), (2, (4, 1)), (1, (4, 0)), (0, (6, 0))]) (stN := [(0, x2), (0, x1), (4, 1)]) (hsN := jpH_374) (c1 := 0) (s1 := 0) (c2 := 0) (s2 := 0) (by exact rfl) ?_ (by omega) (by omega)
  refine jT_xaload_n (v := (6, 0)) (pcN := 315) jIH_379_314 rfl rfl rfl ?_
  refine jT_xiload (v := (0, 0)) (pcN := 317) jIH_379_315 rfl rfl rfl ?_
  refine jT_xiconst (k := 3) (pcN := 318) jIH_379_317 rfl ?_
  refine jT_xiadd (x := 0) (y := 3) (z := 3) (pcN := 319) jIH_379_318 rfl (by decide) rfl ?_
  refine jT_adv 1 (pcN := 320) (LN := [(6, (0, 2)), (5, (0, 0)), (4, (4, 3)), (3, (4, 2)), (2, (4, 1)), (1, (4, 0)), (0, (6, 0))]) (stN := [(0, x3), (0, x2), (0, x1), (4, 1)]) (hsN := jpH_374) (c1 := 0) (s1 := 0) (c2 := 0) (s2 := 0) (by exact rfl) ?_ (by omega) (by omega)
  refine jT_fB [1, 15, 16, 17, 18, 19, 20, 21, 22, 23, 24, 25, 26, 27, 28, 29] 30 (y := 187) (pcN := 323) (dC := 2) (bc1 := 0) (bc2 := 0) (c1 := 0) (c2 := 0) (as := [(4, 1), (0, x1), (0, x2), (0, x3)]) (asC := [(4, 0), (0, x1), (0, x2), (0, x3)]) (LN := [(6, (0, 2)), (5, (0, 0)), (4, (4, 3)), (3, (4, 2)), (2, (4, 1)), (1, (4, 0)), (0, (6, 0))]) (stN := []) (hsC := jpH_21) (hsD := jpH_36) (v := (0, 0)) (st2 := [(0, 0)]) (hs2 := jpH_416) (jH_187_97 (d := 0) (by omega) (by omega) (by omega)) (by rfl) (by rfl) (by decide +kernel) (by rfl) (by rfl) (by omega) (by omega) (by omega) (by omega) rfl (by decide +kernel) ?_
  refine jT_xistore (v := (0, 0)) (LN := [(7, (0, 0)), (6, (0, 2)), (5, (0, 0)), (4, (4, 3)), (3, (4, 2)), (2, (4, 1)), (1, (4, 0)), (0, (6, 0))]) (pcN := 325) jIH_379_323 rfl rfl rfl rfl ?_
  refine jT_xaload_n (v := (4, 1)) (pcN := 326) jIH_379_325 rfl rfl rfl ?_
  refine jT_fR [1, 15, 16, 17, 18, 19, 20, 21, 22, 23, 24, 25, 26, 27, 28, 29] 30 (y := 186) (pcN := 329) (dC := 0) (bc1 := 0) (bc2 := 0) (c1 := 0) (c2 := 0) (as := [(4, 1)]) (asC := [(4, 0)]) (LN := [(7, (0, 0)), (6, (0, 2)), (5, (0, 0)), (4, (4, 3)), (3, (4, 2)), (2, (4, 1)), (1, (4, 0)), (0, (6, 0))]) (stN := []) (hsC := jpH_36) (v := (0, 2)) (st2 := [(0, 2)]) (jH_186_18 (d := 0)) (by rfl) (by rfl) (by decide +kernel) (by rfl) (by rfl) (by omega) (by omega) (by omega) (by omega) rfl ?_
  refine jT_xiload (v := (0, 2)) (pcN := 331) jIH_379_329 rfl rfl rfl ?_
  refine jT_xicT (pcN := 336) jIH_379_331 rfl (by decide +kernel) rfl ?_
  refine jT_xiload (v := (0, 2)) (pcN := 338) jIH_379_336 rfl rfl rfl ?_
  refine jT_xifT (pcN := 360) jIH_379_338 rfl (by decide +kernel) rfl ?_
  refine jT_xgoto (pcN := 3740) jIH_379_360 rfl ?_
  refine jT_xiinc (x := 0) (z := 5) (LN := [(5, (0, 5)), (7, (0, 0)), (6, (0, 2)), (4, (4, 3)), (3, (4, 2)), (2, (4, 1)), (1, (4, 0)), (0, (6, 0))]) (pcN := 3743) jIH_379_3740 rfl rfl (by decide) rfl rfl ?_
  refine jT_xgoto (pcN := 28) jIH_379_3743 rfl ?_
  refine jT_xiload (v := (0, 5)) (pcN := 30) jIH_379_28 rfl rfl rfl ?_
  refine jT_xaload_n (v := (6, 0)) (pcN := 31) jIH_379_30 rfl rfl rfl ?_
  refine jT_adv 1 (pcN := 32) (LN := [(5, (0, 5)), (7, (0, 0)), (6, (0, 2)), (4, (4, 3)), (3, (4, 2)), (2, (4, 1)), (1, (4, 0)), (0, (6, 0))]) (stN := [(0, 5), (0, 5)]) (hsN := jpH_416) (c1 := 0) (s1 := 0) (c2 := 0) (s2 := 0) (by exact rfl) ?_ (by omega) (by omega)
  refine jT_xiconst (k := 5) (pcN := 33) jIH_379_32 rfl ?_
  refine jT_xisub (x := 5) (y := 5) (z := 0) (pcN := 34) jIH_379_33 rfl (by decide) rfl ?_
  refine jT_xicT (pcN := 3746) jIH_379_34 rfl (by decide +kernel) rfl ?_
  refine jT_xiconst (k := 1) (pcN := 3747) jIH_379_3746 rfl ?_
  exact jT_ret rfl (by decide) (by show 30 ≤ 30; decide) (by omega) (by omega) ⟨rfl, rfl⟩
set_option maxRecDepth 100000 in
theorem jL_0_9 {d : Nat} {x0 x1 x2 x3 x4 : Int} (h_x0 : (-2147483648) ≤ x0 ∧ x0 ≤ 2147483647) (h_x1 : 8 ≤ x1 ∧ x1 ≤ 2147483647) (h_x2 : (-2147483648) ≤ x2 ∧ x2 ≤ 2147483647) (h_x3 : (-2147483648) ≤ x3 ∧ x3 ≤ 2147483647) (h_x4 : (-2147483648) ≤ x4 ∧ x4 ≤ 2147483647) : jT [x0, x1, x2, x3, x4] (d + 3) 379 30 276 [(5, (0, 0)), (4, (4, 3)), (3, (4, 2)), (2, (4, 1)), (1, (4, 0)), (0, (6, 0))] [] jpH_374 1 6 (fun k v hsN => k = 0 ∧ v = (0, 1)) := by
  refine jT_xaload_n (v := (4, 0)) (pcN := 277) jIH_379_276 rfl rfl rfl ?_
  refine jT_xaload_n (v := (6, 0)) (pcN := 278) jIH_379_277 rfl rfl rfl ?_
  refine jT_xiload (v := (0, 0)) (pcN := 280) jIH_379_278 rfl rfl rfl ?_
  refine jT_xiconst (k := 1) (pcN := 281) jIH_379_280 rfl ?_
  refine jT_xiadd (x := 0) (y := 1) (z := 1) (pcN := 282) jIH_379_281 rfl (by decide) rfl ?_
  refine jT_adv 1 (pcN := 283) (LN := [(5, (0, 0)), (4, (4, 3)), (3, (4, 2)), (2, (4, 1)), (1, (4, 0)), (0, (6, 0))]) (stN := [(0, x1), (4, 0)]) (hsN := jpH_374) (c1 := 0) (s1 := 0) (c2 := 1) (s2 := 6) (by exact rfl) ?_ (by omega) (by omega)
  refine jT_xaload_n (v := (6, 0)) (pcN := 284) jIH_379_283 rfl rfl rfl ?_
  refine jT_xiload (v := (0, 0)) (pcN := 286) jIH_379_284 rfl rfl rfl ?_
  refine jT_xiconst (k := 2) (pcN := 287) jIH_379_286 rfl ?_
  refine jT_xiadd (x := 0) (y := 2) (z := 2) (pcN := 288) jIH_379_287 rfl (by decide) rfl ?_
  refine jT_adv 1 (pcN := 289) (LN := [(5, (0, 0)), (4, (4, 3)), (3, (4, 2)), (2, (4, 1)), (1, (4, 0)), (0, (6, 0))]) (stN := [(0, x2), (0, x1), (4, 0)]) (hsN := jpH_374) (c1 := 0) (s1 := 0) (c2 := 1) (s2 := 6) (by exact rfl) ?_ (by omega) (by omega)
  refine jT_xaload_n (v := (6, 0)) (pcN := 290) jIH_379_289 rfl rfl rfl ?_
  refine jT_xiload (v := (0, 0)) (pcN := 292) jIH_379_290 rfl rfl rfl ?_
  refine jT_xiconst (k := 3) (pcN := 293) jIH_379_292 rfl ?_
  refine jT_xiadd (x := 0) (y := 3) (z := 3) (pcN := 294) jIH_379_293 rfl (by decide) rfl ?_
  refine jT_adv 1 (pcN := 295) (LN := [(5, (0, 0)), (4, (4, 3)), (3, (4, 2)), (2, (4, 1)), (1, (4, 0)), (0, (6, 0))]) (stN := [(0, x3), (0, x2), (0, x1), (4, 0)]) (hsN := jpH_374) (c1 := 0) (s1 := 0) (c2 := 1) (s2 := 6) (by exact rfl) ?_ (by omega) (by omega)
  refine jT_xaload_n (v := (4, 2)) (pcN := 296) jIH_379_295 rfl rfl rfl ?_
  refine jT_fR [0, 2, 4, 5, 6, 7, 8, 9, 10, 11, 12, 13, 14] 30 (y := 326) (pcN := 299) (dC := 2) (bc1 := 1) (bc2 := 6) (c1 := 0) (c2 := 0) (as := [(4, 0), (0, x1), (0, x2), (0, x3), (4, 2)]) (asC := [(4, 0), (0, x1), (0, x2), (0, x3), (4, 1)]) (LN := [(5, (0, 0)), (4, (4, 3)), (3, (4, 2)), (2, (4, 1)), (1, (4, 0)), (0, (6, 0))]) (stN := []) (hsC := jpH_14) (v := (0, 1)) (st2 := [(0, 1)]) (jH_326_100 (d := 0) (by omega) (by omega) (by omega)) (by rfl) (by rfl) (by decide +kernel) (by rfl) (by rfl) (by omega) (by omega) (by omega) (by omega) rfl ?_
  refine jT_xistore (v := (0, 1)) (LN := [(6, (0, 1)), (5, (0, 0)), (4, (4, 3)), (3, (4, 2)), (2, (4, 1)), (1, (4, 0)), (0, (6, 0))]) (pcN := 301) jIH_379_299 rfl rfl rfl rfl ?_
  refine jT_xaload_n (v := (4, 1)) (pcN := 302) jIH_379_301 rfl rfl rfl ?_
  refine jT_xaload_n (v := (6, 0)) (pcN := 303) jIH_379_302 rfl rfl rfl ?_
  refine jT_xiload (v := (0, 0)) (pcN := 305) jIH_379_303 rfl rfl rfl ?_
  refine jT_xiconst (k := 1) (pcN := 306) jIH_379_305 rfl ?_
  refine jT_xiadd (x := 0) (y := 1) (z := 1) (pcN := 307) jIH_379_306 rfl (by decide) rfl ?_
  refine jT_adv 1 (pcN := 308) (LN := [(6, (0, 1)), (5, (0, 0)), (4, (4, 3)), (3, (4, 2)), (2, (4, 1)), (1, (4, 0)), (0, (6, 0))]) (stN := [(0, x1), (4, 1)]) (hsN := jpH_374) (c1 := 0) (s1 := 0) (c2 := 0) (s2 := 0) (by exact rfl) ?_ (by omega) (by omega)
  refine jT_xaload_n (v := (6, 0)) (pcN := 309) jIH_379_308 rfl rfl rfl ?_
  refine jT_xiload (v := (0, 0)) (pcN := 311) jIH_379_309 rfl rfl rfl ?_
  refine jT_xiconst (k := 2) (pcN := 312) jIH_379_311 rfl ?_
  refine jT_xiadd (x := 0) (y := 2) (z := 2) (pcN := 313) jIH_379_312 rfl (by decide) rfl ?_
  refine jT_adv 1 (pcN := 314) (LN := [(6, (0, 1)), (5, (0, 0)), (4, (4, 3)), (3, (4, 2)), (2, (4, 1)), (1, (4, 0)), (0, (6, 0))]) (stN := [(0, x2), (0, x1), (4, 1)]) (hsN := jpH_374) (c1 := 0) (s1 := 0) (c2 := 0) (s2 := 0) (by exact rfl) ?_ (by omega) (by omega)
  refine jT_xaload_n (v := (6, 0)) (pcN := 315) jIH_379_314 rfl rfl rfl ?_
  refine jT_xiload (v := (0, 0)) (pcN := 317) jIH_379_315 rfl rfl rfl ?_
  refine jT_xiconst (k := 3) (pcN := 318) jIH_379_317 rfl ?_
  refine jT_xiadd (x := 0) (y := 3) (z := 3) (pcN := 319) jIH_379_318 rfl (by decide) rfl ?_
  refine jT_adv 1 (pcN := 320) (LN := [(6, (0, 1)), (5, (0, 0)), (4, (4, 3)), (3, (4, 2)), (2, (4, 1)), (1, (4, 0)), (0, (6, 0))]) (stN := [(0, x3), (0, x2), (0, x1), (4, 1)]) (hsN := jpH_374) (c1 := 0) (s1 := 0) (c2 := 0) (s2 := 0) (by exact rfl) ?_ (by omega) (by omega)
  refine jT_fB [1, 15, 16, 17, 18, 19, 20, 21, 22, 23, 24, 25, 26, 27, 28, 29] 30 (y := 187) (pcN := 323) (dC := 2) (bc1 := 0) (bc2 := 0) (c1 := 0) (c2 := 0) (as := [(4, 1), (0, x1), (0, x2), (0, x3)]) (asC := [(4, 0), (0, x1), (0, x2), (0, x3)]) (LN := [(6, (0, 1)), (5, (0, 0)), (4, (4, 3)), (3, (4, 2)), (2, (4, 1)), (1, (4, 0)), (0, (6, 0))]) (stN := []) (hsC := jpH_21) (hsD := jpH_19) (v := (0, 0)) (st2 := [(0, 0)]) (hs2 := jpH_399) (jH_187_102 (d := 0) (by omega) (by omega) (by omega)) (by rfl) (by rfl) (by decide +kernel) (by rfl) (by rfl) (by omega) (by omega) (by omega) (by omega) rfl (by decide +kernel) ?_
  refine jT_xistore (v := (0, 0)) (LN := [(7, (0, 0)), (6, (0, 1)), (5, (0, 0)), (4, (4, 3)), (3, (4, 2)), (2, (4, 1)), (1, (4, 0)), (0, (6, 0))]) (pcN := 325) jIH_379_323 rfl rfl rfl rfl ?_
  refine jT_xaload_n (v := (4, 1)) (pcN := 326) jIH_379_325 rfl rfl rfl ?_
  refine jT_fR [1, 15, 16, 17, 18, 19, 20, 21, 22, 23, 24, 25, 26, 27, 28, 29] 30 (y := 186) (pcN := 329) (dC := 0) (bc1 := 0) (bc2 := 0) (c1 := 0) (c2 := 0) (as := [(4, 1)]) (asC := [(4, 0)]) (LN := [(7, (0, 0)), (6, (0, 1)), (5, (0, 0)), (4, (4, 3)), (3, (4, 2)), (2, (4, 1)), (1, (4, 0)), (0, (6, 0))]) (stN := []) (hsC := jpH_19) (v := (0, 1)) (st2 := [(0, 1)]) (jH_186_8 (d := 0)) (by rfl) (by rfl) (by decide +kernel) (by rfl) (by rfl) (by omega) (by omega) (by omega) (by omega) rfl ?_
  refine jT_xiload (v := (0, 1)) (pcN := 331) jIH_379_329 rfl rfl rfl ?_
  refine jT_xicT (pcN := 336) jIH_379_331 rfl (by decide +kernel) rfl ?_
  refine jT_xiload (v := (0, 1)) (pcN := 338) jIH_379_336 rfl rfl rfl ?_
  refine jT_xifT (pcN := 360) jIH_379_338 rfl (by decide +kernel) rfl ?_
  refine jT_xgoto (pcN := 3740) jIH_379_360 rfl ?_
  refine jT_xiinc (x := 0) (z := 5) (LN := [(5, (0, 5)), (7, (0, 0)), (6, (0, 1)), (4, (4, 3)), (3, (4, 2)), (2, (4, 1)), (1, (4, 0)), (0, (6, 0))]) (pcN := 3743) jIH_379_3740 rfl rfl (by decide) rfl rfl ?_
  refine jT_xgoto (pcN := 28) jIH_379_3743 rfl ?_
  refine jT_xiload (v := (0, 5)) (pcN := 30) jIH_379_28 rfl rfl rfl ?_
  refine jT_xaload_n (v := (6, 0)) (pcN := 31) jIH_379_30 rfl rfl rfl ?_
  refine jT_adv 1 (pcN := 32) (LN := [(5, (0, 5)), (7, (0, 0)), (6, (0, 1)), (4, (4, 3)), (3, (4, 2)), (2, (4, 1)), (1, (4, 0)), (0, (6, 0))]) (stN := [(0, 5), (0, 5)]) (hsN := jpH_399) (c1 := 0) (s1 := 0) (c2 := 0) (s2 := 0) (by exact rfl) ?_ (by omega) (by omega)
  refine jT_xiconst (k := 5) (pcN := 33) jIH_379_32 rfl ?_
  refine jT_xisub (x := 5) (y := 5) (z := 0) (pcN := 34) jIH_379_33 rfl (by decide) rfl ?_
  refine jT_xicT (pcN := 3746) jIH_379_34 rfl (by decide +kernel) rfl ?_
  refine jT_xiconst (k := 1) (pcN := 3747) jIH_379_3746 rfl ?_
  exact jT_ret rfl (by decide) (by show 30 ≤ 30; decide) (by omega) (by omega) ⟨rfl, rfl⟩
