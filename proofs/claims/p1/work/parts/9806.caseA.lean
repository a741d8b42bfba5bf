/-! the law, case by case: 14, 15, 16, 17, 18 -/
theorem jA_115_616 {xs : List Int} {d : Nat} {x1 : Int} (h_x1 : (-2147483648) ≤ x1 ∧ x1 ≤ (-1)) : jT xs d 115 1 0 [(0, (4, 0)), (1, (0, x1)), (2, (0, 12))] [] [jgh] 1 6 (fun k v hsN => k = 1 ∧ v = (0, 0) ∧ hsN = [jgh] ++ []) := by
  refine jT_xiload_n (v := (0, x1)) (pcN := 1) jI_115_0 rfl rfl rfl ?_
  refine jT_ifT (a := x1) (t := 9) (by rfl) (by rfl) (by rfl) (jw_idd (by omega) (by omega)) (by simp only [jcP] <;> omega) ?_
  exact jT_ret (c1 := 1) (s1 := 6) rfl (by decide) (by show 1 ≤ 1; decide) (by omega) (by omega) ⟨rfl, rfl, rfl⟩
theorem jI_133_0 : jmI (jm 133) 0 = (.aload_n 0, 1) := by rfl
theorem jI_133_1 : jmI (jm 133) 1 = (.iload_n 1, 1) := by rfl
theorem jI_133_2 : jmI (jm 133) 2 = (.bipush 12, 2) := by rfl
theorem jA_133_617 {xs : List Int} {d : Nat} {x1 x2 : Int} (h_x1 : (-2147483648) ≤ x1 ∧ x1 ≤ (-1)) (h_x2 : (-2147483648) ≤ x2 ∧ x2 ≤ 2147483647) : jT xs (d + 1) 133 12 0 [(0, (4, 0)), (1, (0, x1)), (2, (0, x2))] [] jpA_6 1 6 (fun k v hsN => k = 1 ∧ v = (0, 0) ∧ hsN = jpA_6 ++ []) := by
  refine jT_xaload_n (v := (4, 0)) (pcN := 1) jI_133_0 rfl rfl rfl ?_
  refine jT_xiload_n (v := (0, x1)) (pcN := 2) jI_133_1 rfl rfl rfl ?_
  refine jT_xbipush (k := 12) (pcN := 4) jI_133_2 (by decide) rfl ?_
  exact jT_fX [0] 12 (y := 115) (pcN := 7) (dC := 0) (bc1 := 1) (bc2 := 6) (as := [(4, 0), (0, x1), (0, 12)]) (asC := [(4, 0), (0, x1), (0, 12)]) (LN := [(0, (4, 0)), (1, (0, x1)), (2, (0, x2))]) (stN := []) (hsC := [jgh]) (e := 0) (jA_115_616 (d := 0) (by omega)) (by rfl) (by rfl) (by decide +kernel) (by rfl) (by rfl) (by omega) (by omega) (by omega) (by omega) ⟨rfl, ⟨rfl, rfl, rfl⟩⟩
theorem jI_340_0 : jmI (jm 340) 0 = (.aload_n 3, 1) := by rfl
theorem jI_340_1 : jmI (jm 340) 1 = (.iconst 0, 1) := by rfl
theorem jI_340_2 : jmI (jm 340) 2 = (.aload_n 0, 1) := by rfl
theorem jI_340_3 : jmI (jm 340) 3 = (.iload_n 1, 1) := by rfl
theorem jI_340_4 : jmI (jm 340) 4 = (.iload_n 2, 1) := by rfl
theorem jA_340_618 {xs : List Int} {d : Nat} {x1 x2 : Int} (h_x1 : (-2147483648) ≤ x1 ∧ x1 ≤ (-1)) (h_x2 : (-2147483648) ≤ x2 ∧ x2 ≤ 2147483647) : jT xs (d + 2) 340 13 0 [(0, (4, 0)), (1, (0, x1)), (2, (0, x2)), (3, (4, 1))] [] jpA_15 1 6 (fun k v hsN => k = 0 ∧ v = (0, 1) ∧ hsN = jpA_15 ++ []) := by
  refine jT_xaload_n (v := (4, 1)) (pcN := 1) jI_340_0 rfl rfl rfl ?_
  refine jT_xiconst (k := 0) (pcN := 2) jI_340_1 rfl ?_
  refine jT_xaload_n (v := (4, 0)) (pcN := 3) jI_340_2 rfl rfl rfl ?_
  refine jT_xiload_n (v := (0, x1)) (pcN := 4) jI_340_3 rfl rfl rfl ?_
  refine jT_xiload_n (v := (0, x2)) (pcN := 5) jI_340_4 rfl rfl rfl ?_
  exact jT_fX [0, 2, 3, 4, 5, 6, 7, 8, 9, 10, 11, 12] 13 (y := 133) (pcN := 8) (dC := 1) (bc1 := 1) (bc2 := 6) (as := [(4, 0), (0, x1), (0, x2)]) (asC := [(4, 0), (0, x1), (0, x2)]) (LN := [(0, (4, 0)), (1, (0, x1)), (2, (0, x2)), (3, (4, 1))]) (stN := [(0, 0), (4, 1)]) (hsC := jpA_6) (e := 0) (jA_133_617 (d := 0) (by omega) (by omega)) (by rfl) (by rfl) (by decide +kernel) (by rfl) (by rfl) (by omega) (by omega) (by omega) (by omega) (show _ from ⟨rfl, rfl, rfl⟩)
theorem jI_254_0 : jmI (jm 254) 0 = (.iload_n 0, 1) := by rfl
theorem jI_254_1 : jmI (jm 254) 1 = (.i2l, 1) := by rfl
theorem jI_254_2 : jmI (jm 254) 2 = (.lconst 0, 1) := by rfl
theorem jA_254_619 {xs : List Int} {d : Nat} {x1 : Int} (h_x1 : (-2147483648) ≤ x1 ∧ x1 ≤ (-1)) : jT xs (d + 1) 254 0 0 [(0, (0, x1))] [] [] 0 0 (fun k v hsN => k = 0 ∧ v = (0, 0) ∧ hsN = [] ++ []) := by
  refine jT_xiload_n (v := (0, x1)) (pcN := 1) jI_254_0 rfl rfl rfl ?_
  refine jT_xi2l (x := x1) (z := x1) (pcN := 2) jI_254_1 rfl (jw_idd (by omega) (by omega)) rfl ?_
  refine jT_xlconst (z := 0) (pcN := 3) jI_254_2 rfl rfl ?_
  refine jT_adv 1 (pcN := 6) (LN := [(0, (0, x1))]) (stN := [(1, 11), (1, 0), (1, x1)]) (hsN := []) (c1 := 0) (s1 := 0) (c2 := 0) (s2 := 0) (by exact rfl) ?_ (by omega) (by omega)
  refine jT_fR [] 0 (y := 189) (pcN := 9) (dC := 0) (bc1 := 0) (bc2 := 0) (c1 := 0) (c2 := 0) (as := [(1, x1), (1, 0), (1, 11)]) (asC := [(1, x1), (1, 0), (1, 11)]) (LN := [(0, (0, x1))]) (stN := []) (hsC := []) (v := (0, 0)) (st2 := [(0, 0)]) (jT_in_lo (d := 0) (v := x1) (lo := 0) (hi := 11) (by omega) (by omega) (by omega) (by omega)) (by rfl) (by rfl) (by decide +kernel) (by rfl) (by rfl) (by omega) (by omega) (by omega) (by omega) rfl ?_
  exact jT_ret rfl (by decide) (by show 0 ≤ 0; decide) (by omega) (by omega) ⟨rfl, rfl, rfl⟩
theorem jI_253_0 : jmI (jm 253) 0 = (.aload_n 0, 1) := by rfl
theorem jI_253_1 : jmI (jm 253) 1 = (.iload_n 1, 1) := by rfl
theorem jI_253_8 : jmI (jm 253) 8 = (.ifCond .ne 22, 3) := by rfl
theorem jI_253_30 : jmI (jm 253) 30 = (.iconst 0, 1) := by rfl
theorem jA_253_620 {xs : List Int} {d : Nat} {x1 x2 : Int} (h_x1 : (-2147483648) ≤ x1 ∧ x1 ≤ (-1)) (h_x2 : (-2147483648) ≤ x2 ∧ x2 ≤ 2147483647) : jT xs (d + 2) 253 16 0 [(0, (4, 0)), (1, (0, x1)), (2, (0, x2))] [] jpA_22 0 0 (fun k v hsN => k = 0 ∧ v = (0, 0) ∧ hsN = jpA_20) := by
  refine jT_xaload_n (v := (4, 0)) (pcN := 1) jI_253_0 rfl rfl rfl ?_
  refine jT_xiload_n (v := (0, x1)) (pcN := 2) jI_253_1 rfl rfl rfl ?_
  refine jT_fR [] 16 (y := 254) (pcN := 5) (dC := 1) (bc1 := 0) (bc2 := 0) (c1 := 0) (c2 := 0) (as := [(0, x1)]) (asC := [(0, x1)]) (LN := [(0, (4, 0)), (1, (0, x1)), (2, (0, x2))]) (stN := [(4, 0)]) (hsC := []) (v := (0, 0)) (st2 := [(0, 0), (4, 0)]) (jA_254_619 (d := 0) (by omega)) (by rfl) (by rfl) (by decide +kernel) (by rfl) (by rfl) (by omega) (by omega) (by omega) (by omega) rfl ?_
  refine jT_fB [0, 1, 2, 3, 4, 5, 6, 7, 8, 9, 10, 11, 12, 13, 14, 15] 16 (y := 190) (pcN := 8) (dC := 1) (bc1 := 0) (bc2 := 0) (c1 := 0) (c2 := 0) (as := [(4, 0), (0, 0)]) (asC := [(4, 0), (0, 0)]) (LN := [(0, (4, 0)), (1, (0, x1)), (2, (0, x2))]) (stN := []) (hsC := jpA_22) (hsD := jpA_20) (v := (0, 1)) (st2 := [(0, 1)]) (hs2 := jpA_20) (jA_190_6 (d := 0)) (by rfl) (by rfl) (by decide +kernel) (by rfl) (by rfl) (by omega) (by omega) (by omega) (by omega) rfl (by decide +kernel) ?_
  refine jT_xifT (pcN := 30) jI_253_8 rfl (by decide +kernel) rfl ?_
  refine jT_xiconst (k := 0) (pcN := 31) jI_253_30 rfl ?_
  exact jT_ret rfl (by decide) (by show 16 ≤ 16; decide) (by omega) (by omega) ⟨rfl, rfl, rfl⟩
theorem jA_115_621 {xs : List Int} {d : Nat} {x1 : Int} (h_x1 : 0 ≤ x1 ∧ x1 ≤ 11) : jT xs d 115 1 0 [(0, (4, 0)), (1, (0, x1)), (2, (0, 12))] [] [jgh] 0 0 (fun k v hsN => k = 0 ∧ v = (9, 0) ∧ hsN = [jgh] ++ []) := by
  refine jT_xiload_n (v := (0, x1)) (pcN := 1) jI_115_0 rfl rfl rfl ?_
  refine jT_ifF (a := x1) (t := 9) (by rfl) (by rfl) (by rfl) (jw_idd (by omega) (by omega)) (by simp only [jcP] <;> omega) ?_
  refine jT_xiload_n (v := (0, x1)) (pcN := 5) jI_115_4 rfl rfl rfl ?_
  refine jT_xiload_n (v := (0, 12)) (pcN := 6) jI_115_5 rfl rfl rfl ?_
  refine jT_icT (a := x1) (b := 12) (t := 20) (by rfl) (by rfl) (by rfl) (jw_idd (by omega) (by omega)) (jw_idd (by omega) (by omega)) (by simp only [jcP] <;> omega) ?_
  exact jT_ret rfl (by decide) (by show 1 ≤ 1; decide) (by omega) (by omega) ⟨rfl, rfl, rfl⟩
theorem jA_116_622 {xs : List Int} {d : Nat} {x2 : Int} (h_x2 : (-2147483648) ≤ x2 ∧ x2 ≤ (-25)) : jT xs d 116 1 0 [(0, (4, 0)), (1, (0, x2)), (2, (0, (-24))), (3, (0, 24))] [] [jgh] 1 6 (fun k v hsN => k = 1 ∧ v = (0, 1) ∧ hsN = [jgh] ++ []) := by
  refine jT_xiload_n (v := (0, x2)) (pcN := 1) jI_116_0 rfl rfl rfl ?_
  refine jT_xiload_n (v := (0, (-24))) (pcN := 2) jI_116_1 rfl rfl rfl ?_
  refine jT_icT (a := x2) (b := (-24)) (t := 10) (by rfl) (by rfl) (by rfl) (jw_idd (by omega) (by omega)) (jw_idd (by omega) (by omega)) (by simp only [jcP] <;> omega) ?_
  exact jT_ret (c1 := 1) (s1 := 6) rfl (by decide) (by show 1 ≤ 1; decide) (by omega) (by omega) ⟨rfl, rfl, rfl⟩
theorem jI_133_7 : jmI (jm 133) 7 = (.aload_n 0, 1) := by rfl
theorem jI_133_8 : jmI (jm 133) 8 = (.iload_n 2, 1) := by rfl
theorem jI_133_9 : jmI (jm 133) 9 = (.bipush (-24), 2) := by rfl
theorem jI_133_11 : jmI (jm 133) 11 = (.bipush 24, 2) := by rfl
theorem jA_133_623 {xs : List Int} {d : Nat} {x1 x2 : Int} (h_x1 : 0 ≤ x1 ∧ x1 ≤ 11) (h_x2 : (-2147483648) ≤ x2 ∧ x2 ≤ (-25)) : jT xs (d + 1) 133 12 0 [(0, (4, 0)), (1, (0, x1)), (2, (0, x2))] [] jpA_6 1 6 (fun k v hsN => k = 1 ∧ v = (0, 1) ∧ hsN = jpA_6 ++ []) := by
  refine jT_xaload_n (v := (4, 0)) (pcN := 1) jI_133_0 rfl rfl rfl ?_
  refine jT_xiload_n (v := (0, x1)) (pcN := 2) jI_133_1 rfl rfl rfl ?_
  refine jT_xbipush (k := 12) (pcN := 4) jI_133_2 (by decide) rfl ?_
  refine jT_fR [0] 12 (y := 115) (pcN := 7) (dC := 0) (bc1 := 0) (bc2 := 0) (c1 := 1) (c2 := 6) (as := [(4, 0), (0, x1), (0, 12)]) (asC := [(4, 0), (0, x1), (0, 12)]) (LN := [(0, (4, 0)), (1, (0, x1)), (2, (0, x2))]) (stN := []) (hsC := [jgh]) (v := (9, 0)) (st2 := []) (jA_115_621 (d := 0) (by omega)) (by rfl) (by rfl) (by decide +kernel) (by rfl) (by rfl) (by omega) (by omega) (by omega) (by omega) rfl ?_
  refine jT_xaload_n (v := (4, 0)) (pcN := 8) jI_133_7 rfl rfl rfl ?_
  refine jT_xiload_n (v := (0, x2)) (pcN := 9) jI_133_8 rfl rfl rfl ?_
  refine jT_xbipush (k := (-24)) (pcN := 11) jI_133_9 (by decide) rfl ?_
  refine jT_xbipush (k := 24) (pcN := 13) jI_133_11 (by decide) rfl ?_
  exact jT_fX [0] 12 (y := 116) (pcN := 16) (dC := 0) (bc1 := 1) (bc2 := 6) (as := [(4, 0), (0, x2), (0, (-24)), (0, 24)]) (asC := [(4, 0), (0, x2), (0, (-24)), (0, 24)]) (LN := [(0, (4, 0)), (1, (0, x1)), (2, (0, x2))]) (stN := []) (hsC := [jgh]) (e := 1) (jA_116_622 (d := 0) (by omega)) (by rfl) (by rfl) (by decide +kernel) (by rfl) (by rfl) (by omega) (by omega) (by omega) (by omega) ⟨rfl, ⟨rfl, rfl, rfl⟩⟩
theorem jA_340_624 {xs : List Int} {d : Nat} {x1 x2 : Int} (h_x1 : 0 ≤ x1 ∧ x1 ≤ 11) (h_x2 : (-2147483648) ≤ x2 ∧ x2 ≤ (-25)) : jT xs (d + 2) 340 13 0 [(0, (4, 0)), (1, (0, x1)), (2, (0, x2)), (3, (4, 1))] [] jpA_15 1 6 (fun k v hsN => k = 0 ∧ v = (0, 2) ∧ hsN = jpA_15 ++ []) := by
  refine jT_xaload_n (v := (4, 1)) (pcN := 1) jI_340_0 rfl rfl rfl ?_
  refine jT_xiconst (k := 0) (pcN := 2) jI_340_1 rfl ?_
  refine jT_xaload_n (v := (4, 0)) (pcN := 3) jI_340_2 rfl rfl rfl ?_
  refine jT_xiload_n (v := (0, x1)) (pcN := 4) jI_340_3 rfl rfl rfl ?_
  refine jT_xiload_n (v := (0, x2)) (pcN := 5) jI_340_4 rfl rfl rfl ?_
  exact jT_fX [0, 2, 3, 4, 5, 6, 7, 8, 9, 10, 11, 12] 13 (y := 133) (pcN := 8) (dC := 1) (bc1 := 1) (bc2 := 6) (as := [(4, 0), (0, x1), (0, x2)]) (asC := [(4, 0), (0, x1), (0, x2)]) (LN := [(0, (4, 0)), (1, (0, x1)), (2, (0, x2)), (3, (4, 1))]) (stN := [(0, 0), (4, 1)]) (hsC := jpA_6) (e := 1) (jA_133_623 (d := 0) (by omega) (by omega)) (by rfl) (by rfl) (by decide +kernel) (by rfl) (by rfl) (by omega) (by omega) (by omega) (by omega) (show _ from ⟨rfl, rfl, rfl⟩)
theorem jA_254_625 {xs : List Int} {d : Nat} {x1 : Int} (h_x1 : 0 ≤ x1 ∧ x1 ≤ 11) : jT xs (d + 1) 254 0 0 [(0, (0, x1))] [] [] 0 0 (fun k v hsN => k = 0 ∧ v = (0, 1) ∧ hsN = [] ++ []) := by
  refine jT_xiload_n (v := (0, x1)) (pcN := 1) jI_254_0 rfl rfl rfl ?_
  refine jT_xi2l (x := x1) (z := x1) (pcN := 2) jI_254_1 rfl (jw_idd (by omega) (by omega)) rfl ?_
  refine jT_xlconst (z := 0) (pcN := 3) jI_254_2 rfl rfl ?_
  refine jT_adv 1 (pcN := 6) (LN := [(0, (0, x1))]) (stN := [(1, 11), (1, 0), (1, x1)]) (hsN := []) (c1 := 0) (s1 := 0) (c2 := 0) (s2 := 0) (by exact rfl) ?_ (by omega) (by omega)
  refine jT_fR [] 0 (y := 189) (pcN := 9) (dC := 0) (bc1 := 0) (bc2 := 0) (c1 := 0) (c2 := 0) (as := [(1, x1), (1, 0), (1, 11)]) (asC := [(1, x1), (1, 0), (1, 11)]) (LN := [(0, (0, x1))]) (stN := []) (hsC := []) (v := (0, 1)) (st2 := [(0, 1)]) (jT_in_ok (d := 0) (v := x1) (lo := 0) (hi := 11) (by omega) (by omega) (by omega) (by omega) (by omega)) (by rfl) (by rfl) (by decide +kernel) (by rfl) (by rfl) (by omega) (by omega) (by omega) (by omega) rfl ?_
  exact jT_ret rfl (by decide) (by show 0 ≤ 0; decide) (by omega) (by omega) ⟨rfl, rfl, rfl⟩
theorem jI_253_11 : jmI (jm 253) 11 = (.aload_n 0, 1) := by rfl
theorem jI_253_12 : jmI (jm 253) 12 = (.iload_n 2, 1) := by rfl
theorem jI_253_13 : jmI (jm 253) 13 = (.i2l, 1) := by rfl
theorem jI_253_23 : jmI (jm 253) 23 = (.iconst 2, 1) := by rfl
theorem jI_253_27 : jmI (jm 253) 27 = (.ifCond .eq 5, 3) := by rfl
theorem jA_253_626 {xs : List Int} {d : Nat} {x1 x2 : Int} (h_x1 : 0 ≤ x1 ∧ x1 ≤ 11) (h_x2 : (-2147483648) ≤ x2 ∧ x2 ≤ (-25)) : jT xs (d + 2) 253 16 0 [(0, (4, 0)), (1, (0, x1)), (2, (0, x2))] [] jpA_22 0 0 (fun k v hsN => k = 0 ∧ v = (0, 0) ∧ hsN = jpA_361) := by
  refine jT_xaload_n (v := (4, 0)) (pcN := 1) jI_253_0 rfl rfl rfl ?_
  refine jT_xiload_n (v := (0, x1)) (pcN := 2) jI_253_1 rfl rfl rfl ?_
  refine jT_fR [] 16 (y := 254) (pcN := 5) (dC := 1) (bc1 := 0) (bc2 := 0) (c1 := 0) (c2 := 0) (as := [(0, x1)]) (asC := [(0, x1)]) (LN := [(0, (4, 0)), (1, (0, x1)), (2, (0, x2))]) (stN := [(4, 0)]) (hsC := []) (v := (0, 1)) (st2 := [(0, 1), (4, 0)]) (jA_254_625 (d := 0) (by omega)) (by rfl) (by rfl) (by decide +kernel) (by rfl) (by rfl) (by omega) (by omega) (by omega) (by omega) rfl ?_
  refine jT_fR [0, 1, 2, 3, 4, 5, 6, 7, 8, 9, 10, 11, 12, 13, 14, 15] 16 (y := 190) (pcN := 8) (dC := 1) (bc1 := 0) (bc2 := 0) (c1 := 0) (c2 := 0) (as := [(4, 0), (0, 1)]) (asC := [(4, 0), (0, 1)]) (LN := [(0, (4, 0)), (1, (0, x1)), (2, (0, x2))]) (stN := []) (hsC := jpA_22) (v := (0, 0)) (st2 := [(0, 0)]) (jA_190_39 (d := 0)) (by rfl) (by rfl) (by decide +kernel) (by rfl) (by rfl) (by omega) (by omega) (by omega) (by omega) rfl ?_
  refine jT_xifF (t := 30) (pcN := 11) jI_253_8 rfl (by decide +kernel) rfl rfl ?_
  refine jT_xaload_n (v := (4, 0)) (pcN := 12) jI_253_11 rfl rfl rfl ?_
  refine jT_xiload_n (v := (0, x2)) (pcN := 13) jI_253_12 rfl rfl rfl ?_
  refine jT_xi2l (x := x2) (z := x2) (pcN := 14) jI_253_13 rfl (jw_idd (by omega) (by omega)) rfl ?_
  refine jT_adv 2 (pcN := 20) (LN := [(0, (4, 0)), (1, (0, x1)), (2, (0, x2))]) (stN := [(1, 24), (1, (-24)), (1, x2), (4, 0)]) (hsN := jpA_22) (c1 := 0) (s1 := 0) (c2 := 0) (s2 := 0) (by exact rfl) ?_ (by omega) (by omega)
  refine jT_fR [] 16 (y := 189) (pcN := 23) (dC := 0) (bc1 := 0) (bc2 := 0) (c1 := 0) (c2 := 0) (as := [(1, x2), (1, (-24)), (1, 24)]) (asC := [(1, x2), (1, (-24)), (1, 24)]) (LN := [(0, (4, 0)), (1, (0, x1)), (2, (0, x2))]) (stN := [(4, 0)]) (hsC := []) (v := (0, 0)) (st2 := [(0, 0), (4, 0)]) (jT_in_lo (d := 0) (v := x2) (lo := (-24)) (hi := 24) (by omega) (by omega) (by omega) (by omega)) (by rfl) (by rfl) (by decide +kernel) (by rfl) (by rfl) (by omega) (by omega) (by omega) (by omega) rfl ?_
  refine jT_xiconst (k := 2) (pcN := 24) jI_253_23 rfl ?_
  refine jT_fB [0, 1, 2, 3, 4, 5, 6, 7, 8, 9, 10, 11, 12, 13, 14, 15] 16 (y := 191) (pcN := 27) (dC := 0) (bc1 := 0) (bc2 := 0) (c1 := 0) (c2 := 0) (as := [(4, 0), (0, 0), (0, 2)]) (asC := [(4, 0), (0, 0), (0, 2)]) (LN := [(0, (4, 0)), (1, (0, x1)), (2, (0, x2))]) (stN := []) (hsC := jpA_22) (hsD := jpA_361) (v := (0, 1)) (st2 := [(0, 1)]) (hs2 := jpA_361) (jA_191_99 (d := 0)) (by rfl) (by rfl) (by decide +kernel) (by rfl) (by rfl) (by omega) (by omega) (by omega) (by omega) rfl (by decide +kernel) ?_
  refine jT_xifF (t := 32) (pcN := 30) jI_253_27 rfl (by decide +kernel) rfl rfl ?_
  refine jT_xiconst (k := 0) (pcN := 31) jI_253_30 rfl ?_
  exact jT_ret rfl (by decide) (by show 16 ≤ 16; decide) (by omega) (by omega) ⟨rfl, rfl, rfl⟩
theorem jA_116_627 {xs : List Int} {d : Nat} {x2 : Int} (h_x2 : (-24) ≤ x2 ∧ x2 ≤ 24) : jT xs d 116 1 0 [(0, (4, 0)), (1, (0, x2)), (2, (0, (-24))), (3, (0, 24))] [] [jgh] 0 0 (fun k v hsN => k = 0 ∧ v = (9, 0) ∧ hsN = [jgh] ++ []) := by
  refine jT_xiload_n (v := (0, x2)) (pcN := 1) jI_116_0 rfl rfl rfl ?_
  refine jT_xiload_n (v := (0, (-24))) (pcN := 2) jI_116_1 rfl rfl rfl ?_
  refine jT_icF (a := x2) (b := (-24)) (t := 10) (by rfl) (by rfl) (by rfl) (jw_idd (by omega) (by omega)) (jw_idd (by omega) (by omega)) (by simp only [jcP] <;> omega) ?_
  refine jT_xiload_n (v := (0, x2)) (pcN := 6) jI_116_5 rfl rfl rfl ?_
  refine jT_xiload_n (v := (0, 24)) (pcN := 7) jI_116_6 rfl rfl rfl ?_
  refine jT_icT (a := x2) (b := 24) (t := 21) (by rfl) (by rfl) (by rfl) (jw_idd (by omega) (by omega)) (jw_idd (by omega) (by omega)) (by simp only [jcP] <;> omega) ?_
  exact jT_ret rfl (by decide) (by show 1 ≤ 1; decide) (by omega) (by omega) ⟨rfl, rfl, rfl⟩
theorem jI_55_0 : jmI (jm 55) 0 = (.aload_n 0, 1) := by rfl
theorem jI_55_1 : jmI (jm 55) 1 = (.getfield 23, 3) := by rfl
theorem jI_55_4 : jmI (jm 55) 4 = (.iload_n 1, 1) := by rfl
theorem jI_55_5 : jmI (jm 55) 5 = (.iaload, 1) := by rfl
def jzA_2380 : JC := (100, [], [0, 0, 0, 0, 0, 0, 0, 0, 0, 0, 0, 0])
def jpA_2381 : List JC := [jzA_44, jgh, jgh, jgh, jzA_2380, jgh]
theorem jA_55_628 {xs : List Int} {d : Nat} {x1 : Int} (h_x1 : 0 ≤ x1 ∧ x1 ≤ 11) : jT xs d 55 6 0 [(0, (4, 0)), (1, (0, x1))] [] jpA_2381 0 0 (fun k v hsN => k = 0 ∧ v = (0, 0) ∧ hsN = jpA_2381 ++ []) := by
  refine jT_xaload_n (v := (4, 0)) (pcN := 1) jI_55_0 rfl rfl rfl ?_
  refine jT_xgetf (a := 0) (t := 1) (ci := 9) (fi := 3) (c := jzA_44) (v := (4, 4)) (pcN := 4) jI_55_1 rfl rfl rfl rfl rfl rfl rfl ?_
  refine jT_xiload_n (v := (0, x1)) (pcN := 5) jI_55_4 rfl rfl rfl ?_
  refine jT_iald (x := 0) (a := 4) (j := (x1).toNat) (fs := []) (X := [0, 0, 0, 0, 0, 0, 0, 0, 0, 0, 0, 0]) (by rfl) (by rfl) (by rfl) (jw_nn (by omega) (by omega)) (jall_get 12 (by decide) (by omega)) ?_
  refine jT_eq (LN := [(0, (4, 0)), (1, (0, x1))]) (stN := [(0, 0)]) (hsN := jpA_2381) rfl rfl rfl ?_
  exact jT_ret rfl (by decide) (by show 6 ≤ 6; decide) (by omega) (by omega) ⟨rfl, rfl, rfl⟩
theorem jI_61_0 : jmI (jm 61) 0 = (.aload_n 0, 1) := by rfl
theorem jI_61_1 : jmI (jm 61) 1 = (.getfield 23, 3) := by rfl
def jpA_2384 : List JC := [jzA_44, jgh, jgh, jgh, jzA_2380, jgh, jzA_2380]
theorem jI_61_10 : jmI (jm 61) 10 = (.astore_n 3, 1) := by rfl
theorem jI_61_11 : jmI (jm 61) 11 = (.aload_n 3, 1) := by rfl
theorem jI_61_12 : jmI (jm 61) 12 = (.iload_n 1, 1) := by rfl
theorem jI_61_13 : jmI (jm 61) 13 = (.iload_n 2, 1) := by rfl
theorem jI_61_19 : jmI (jm 61) 19 = (.aload_n 0, 1) := by rfl
theorem jI_61_20 : jmI (jm 61) 20 = (.getfield 9, 3) := by rfl
theorem jI_61_23 : jmI (jm 61) 23 = (.aload_n 0, 1) := by rfl
theorem jI_61_24 : jmI (jm 61) 24 = (.getfield 15, 3) := by rfl
theorem jI_61_27 : jmI (jm 61) 27 = (.aload_n 0, 1) := by rfl
theorem jI_61_28 : jmI (jm 61) 28 = (.getfield 19, 3) := by rfl
theorem jI_61_31 : jmI (jm 61) 31 = (.aload_n 3, 1) := by rfl
theorem jI_61_32 : jmI (jm 61) 32 = (.aload_n 0, 1) := by rfl
theorem jI_61_33 : jmI (jm 61) 33 = (.getfield 27, 3) := by rfl
def jzA_2398 : JC := (9, [(4, 1), (4, 2), (4, 3), (4, 6), (4, 5)], [])
theorem jA_61_629 {xs : List Int} {d : Nat} {x1 x2 : Int} (h_x1 : 0 ≤ x1 ∧ x1 ≤ 11) (h_x2 : (-24) ≤ x2 ∧ x2 ≤ 24) : jT xs (d + 1) 61 6 0 [(0, (4, 0)), (1, (0, x1)), (2, (0, x2))] [] jpA_2381 2 17 (fun k v hsN => k = 0 ∧ v = (4, 7) ∧ hsN = jpA_2381 ++ [(100, [], (([0, 0, 0, 0, 0, 0, 0, 0, 0, 0, 0, 0]).set ((x1).toNat) x2)), jzA_2398]) := by
  refine jT_xaload_n (v := (4, 0)) (pcN := 1) jI_61_0 rfl rfl rfl ?_
  refine jT_xgetf (a := 0) (t := 1) (ci := 9) (fi := 3) (c := jzA_44) (v := (4, 4)) (pcN := 4) jI_61_1 rfl rfl rfl rfl rfl rfl rfl ?_
  refine jT_adv 2 (pcN := 10) (LN := [(0, (4, 0)), (1, (0, x1)), (2, (0, x2))]) (stN := [(4, 6)]) (hsN := jpA_2384) (c1 := 1) (s1 := 12) (c2 := 1) (s2 := 5) (by exact rfl) ?_ (by omega) (by omega)
  refine jT_xastore_n (v := (4, 6)) (LN := [(3, (4, 6)), (0, (4, 0)), (1, (0, x1)), (2, (0, x2))]) (pcN := 11) jI_61_10 rfl rfl rfl rfl ?_
  refine jT_xaload_n (v := (4, 6)) (pcN := 12) jI_61_11 rfl rfl rfl ?_
  refine jT_xiload_n (v := (0, x1)) (pcN := 13) jI_61_12 rfl rfl rfl ?_
  refine jT_xiload_n (v := (0, x2)) (pcN := 14) jI_61_13 rfl rfl rfl ?_
  refine jT_iast (x := x2) (a := 6) (j := (x1).toNat) (fs := []) (X := [0, 0, 0, 0, 0, 0, 0, 0, 0, 0, 0, 0]) (by rfl) (by rfl) (by rfl) (jw_nn (by omega) (by omega)) (by rw [show List.length ([0, 0, 0, 0, 0, 0, 0, 0, 0, 0, 0, 0] : List Int) = 12 from by rfl]; omega) ?_
  refine jT_eq (LN := [(3, (4, 6)), (0, (4, 0)), (1, (0, x1)), (2, (0, x2))]) (stN := []) (hsN := [jzA_44, jgh, jgh, jgh, jzA_2380, jgh, (100, [], (([0, 0, 0, 0, 0, 0, 0, 0, 0, 0, 0, 0]).set ((x1).toNat) x2))]) rfl rfl rfl ?_
  refine jT_adv 2 (pcN := 19) (LN := [(3, (4, 6)), (0, (4, 0)), (1, (0, x1)), (2, (0, x2))]) (stN := [(4, 7), (4, 7)]) (hsN := [jzA_44, jgh, jgh, jgh, jzA_2380, jgh, (100, [], (([0, 0, 0, 0, 0, 0, 0, 0, 0, 0, 0, 0]).set ((x1).toNat) x2)), jzA_51]) (c1 := 1) (s1 := 5) (c2 := 0) (s2 := 0) (by exact rfl) ?_ (by omega) (by omega)
  refine jT_xaload_n (v := (4, 0)) (pcN := 20) jI_61_19 rfl rfl rfl ?_
  refine jT_xgetf (a := 0) (t := 1) (ci := 9) (fi := 0) (c := jzA_44) (v := (4, 1)) (pcN := 23) jI_61_20 rfl rfl rfl rfl rfl rfl rfl ?_
  refine jT_xaload_n (v := (4, 0)) (pcN := 24) jI_61_23 rfl rfl rfl ?_
  refine jT_xgetf (a := 0) (t := 1) (ci := 9) (fi := 1) (c := jzA_44) (v := (4, 2)) (pcN := 27) jI_61_24 rfl rfl rfl rfl rfl rfl rfl ?_
  refine jT_xaload_n (v := (4, 0)) (pcN := 28) jI_61_27 rfl rfl rfl ?_
  refine jT_xgetf (a := 0) (t := 1) (ci := 9) (fi := 2) (c := jzA_44) (v := (4, 3)) (pcN := 31) jI_61_28 rfl rfl rfl rfl rfl rfl rfl ?_
  refine jT_xaload_n (v := (4, 6)) (pcN := 32) jI_61_31 rfl rfl rfl ?_
  refine jT_xaload_n (v := (4, 0)) (pcN := 33) jI_61_32 rfl rfl rfl ?_
  refine jT_xgetf (a := 0) (t := 1) (ci := 9) (fi := 4) (c := jzA_44) (v := (4, 5)) (pcN := 36) jI_61_33 rfl rfl rfl rfl rfl rfl rfl ?_
  refine jT_callB [7, 1, 2, 3, 6, 5] (y := 53) (pcN := 39) (dC := 0) (bc1 := 0) (bc2 := 0) (c1 := 0) (c2 := 0) (as := [(4, 7), (4, 1), (4, 2), (4, 3), (4, 6), (4, 5)]) (asC := [(4, 0), (4, 1), (4, 2), (4, 3), (4, 4), (4, 5)]) (LN := [(3, (4, 6)), (0, (4, 0)), (1, (0, x1)), (2, (0, x2))]) (stN := [(4, 7)]) (hsC := jpA_52) (hsD := jpA_50) (v := (9, 0)) (st2 := [(4, 7)]) (hs2 := [jzA_44, jgh, jgh, jgh, jzA_2380, jgh, (100, [], (([0, 0, 0, 0, 0, 0, 0, 0, 0, 0, 0, 0]).set ((x1).toNat) x2)), jzA_2398]) (jA_53_32 (d := 0)) (by rfl) (by rfl) (by rfl) (by rfl) ⟨rfl, rfl, rfl, rfl, rfl, rfl, trivial⟩ (by rfl) (by rfl) (by omega) (by show 6 ≤ 8; omega) (by omega) (by omega) rfl rfl ?_
  exact jT_ret rfl (by decide) (by show 6 ≤ 8; decide) (by omega) (by omega) ⟨rfl, rfl, rfl⟩
theorem jI_133_16 : jmI (jm 133) 16 = (.aload_n 0, 1) := by rfl
theorem jI_133_17 : jmI (jm 133) 17 = (.getfield 67, 3) := by rfl
theorem jI_133_20 : jmI (jm 133) 20 = (.iload_n 1, 1) := by rfl
theorem jI_133_24 : jmI (jm 133) 24 = (.istore_n 3, 1) := by rfl
theorem jI_133_25 : jmI (jm 133) 25 = (.aload_n 0, 1) := by rfl
theorem jI_133_26 : jmI (jm 133) 26 = (.aload_n 0, 1) := by rfl
theorem jI_133_27 : jmI (jm 133) 27 = (.getfield 67, 3) := by rfl
theorem jI_133_30 : jmI (jm 133) 30 = (.iload_n 1, 1) := by rfl
theorem jI_133_31 : jmI (jm 133) 31 = (.iload_n 2, 1) := by rfl
def jzA_2408 : JC := (9, [(4, 12), (4, 13), (4, 14), (4, 17), (4, 16)], [])
def jzA_2409 : JC := (13, [(4, 1), (4, 2), (4, 3), (4, 4), (4, 5), (4, 6), (4, 7), (4, 8), (4, 9), (4, 10), (0, 1), (4, 18), (0, 0)], [])
theorem jI_133_38 : jmI (jm 133) 38 = (.iload_n 3, 1) := by rfl
def jpA_2411 : List JC := [jzA_5, jgh, jgh, jgh, jgh, jgh, jgh, jgh, jgh, jgh, jzA_79, jzA_88, jgh, jgh, jgh, jzA_2380, jgh]
theorem jA_133_630 {xs : List Int} {d : Nat} {x1 x2 : Int} (h_x1 : 0 ≤ x1 ∧ x1 ≤ 11) (h_x2 : (-24) ≤ x2 ∧ x2 ≤ 24) : jT xs (d + 2) 133 17 0 [(0, (4, 0)), (1, (0, x1)), (2, (0, x2))] [] jpA_2411 2 17 (fun k v hsN => k = 0 ∧ v = (0, 0) ∧ hsN = [jzA_2409, jgh, jgh, jgh, jgh, jgh, jgh, jgh, jgh, jgh, jzA_102, jzA_88, jgh, jgh, jgh, jzA_2380, jgh, (100, [], (([0, 0, 0, 0, 0, 0, 0, 0, 0, 0, 0, 0]).set ((x1).toNat) x2)), jzA_2408]) := by
  refine jT_xaload_n (v := (4, 0)) (pcN := 1) jI_133_0 rfl rfl rfl ?_
  refine jT_xiload_n (v := (0, x1)) (pcN := 2) jI_133_1 rfl rfl rfl ?_
  refine jT_xbipush (k := 12) (pcN := 4) jI_133_2 (by decide) rfl ?_
  refine jT_fR [0] 17 (y := 115) (pcN := 7) (dC := 0) (bc1 := 0) (bc2 := 0) (c1 := 2) (c2 := 17) (as := [(4, 0), (0, x1), (0, 12)]) (asC := [(4, 0), (0, x1), (0, 12)]) (LN := [(0, (4, 0)), (1, (0, x1)), (2, (0, x2))]) (stN := []) (hsC := [jgh]) (v := (9, 0)) (st2 := []) (jA_115_621 (d := 0) (by omega)) (by rfl) (by rfl) (by decide +kernel) (by rfl) (by rfl) (by omega) (by omega) (by omega) (by omega) rfl ?_
  refine jT_xaload_n (v := (4, 0)) (pcN := 8) jI_133_7 rfl rfl rfl ?_
  refine jT_xiload_n (v := (0, x2)) (pcN := 9) jI_133_8 rfl rfl rfl ?_
  refine jT_xbipush (k := (-24)) (pcN := 11) jI_133_9 (by decide) rfl ?_
  refine jT_xbipush (k := 24) (pcN := 13) jI_133_11 (by decide) rfl ?_
  refine jT_fR [0] 17 (y := 116) (pcN := 16) (dC := 0) (bc1 := 0) (bc2 := 0) (c1 := 2) (c2 := 17) (as := [(4, 0), (0, x2), (0, (-24)), (0, 24)]) (asC := [(4, 0), (0, x2), (0, (-24)), (0, 24)]) (LN := [(0, (4, 0)), (1, (0, x1)), (2, (0, x2))]) (stN := []) (hsC := [jgh]) (v := (9, 0)) (st2 := []) (jA_116_627 (d := 0) (by omega)) (by rfl) (by rfl) (by decide +kernel) (by rfl) (by rfl) (by omega) (by omega) (by omega) (by omega) rfl ?_
  refine jT_xaload_n (v := (4, 0)) (pcN := 17) jI_133_16 rfl rfl rfl ?_
  refine jT_xgetf (a := 0) (t := 1) (ci := 13) (fi := 11) (c := jzA_5) (v := (4, 11)) (pcN := 20) jI_133_17 rfl rfl rfl rfl rfl rfl rfl ?_
  refine jT_xiload_n (v := (0, x1)) (pcN := 21) jI_133_20 rfl rfl rfl ?_
  refine jT_fR [11, 12, 13, 14, 15, 16] 17 (y := 55) (pcN := 24) (dC := 0) (bc1 := 0) (bc2 := 0) (c1 := 2) (c2 := 17) (as := [(4, 11), (0, x1)]) (asC := [(4, 0), (0, x1)]) (LN := [(0, (4, 0)), (1, (0, x1)), (2, (0, x2))]) (stN := []) (hsC := jpA_2381) (v := (0, 0)) (st2 := [(0, 0)]) (jA_55_628 (d := 0) (by omega)) (by rfl) (by rfl) (by decide +kernel) (by rfl) (by rfl) (by omega) (by omega) (by omega) (by omega) rfl ?_
  refine jT_xistore_n (v := (0, 0)) (LN := [(3, (0, 0)), (0, (4, 0)), (1, (0, x1)), (2, (0, x2))]) (pcN := 25) jI_133_24 rfl rfl rfl rfl ?_
  refine jT_xaload_n (v := (4, 0)) (pcN := 26) jI_133_25 rfl rfl rfl ?_
  refine jT_xaload_n (v := (4, 0)) (pcN := 27) jI_133_26 rfl rfl rfl ?_
  refine jT_xgetf (a := 0) (t := 1) (ci := 13) (fi := 11) (c := jzA_5) (v := (4, 11)) (pcN := 30) jI_133_27 rfl rfl rfl rfl rfl rfl rfl ?_
  refine jT_xiload_n (v := (0, x1)) (pcN := 31) jI_133_30 rfl rfl rfl ?_
  refine jT_xiload_n (v := (0, x2)) (pcN := 32) jI_133_31 rfl rfl rfl ?_
  refine jT_fA [11, 12, 13, 14, 15, 16] 17 (y := 61) (pcN := 35) (dC := 1) (bc1 := 2) (bc2 := 17) (c1 := 0) (c2 := 0) (as := [(4, 11), (0, x1), (0, x2)]) (asC := [(4, 0), (0, x1), (0, x2)]) (LN := [(3, (0, 0)), (0, (4, 0)), (1, (0, x1)), (2, (0, x2))]) (stN := [(4, 0)]) (hsC := jpA_2381) (ex := [(100, [], (([0, 0, 0, 0, 0, 0, 0, 0, 0, 0, 0, 0]).set ((x1).toNat) x2)), jzA_2398]) (v := (4, 7)) (st2 := [(4, 18), (4, 0)]) (hs2 := [jzA_5, jgh, jgh, jgh, jgh, jgh, jgh, jgh, jgh, jgh, jzA_79, jzA_88, jgh, jgh, jgh, jzA_2380, jgh, (100, [], (([0, 0, 0, 0, 0, 0, 0, 0, 0, 0, 0, 0]).set ((x1).toNat) x2)), jzA_2408]) (jA_61_629 (d := 0) (by omega) (by omega)) (by rfl) (by rfl) (by decide +kernel) (by rfl) (by rfl) (by omega) (by omega) (by omega) (by omega) rfl rfl ?_
  refine jT_callB [0, 18, 1, 2, 3, 4, 5, 6, 7, 8, 9, 10, 11, 12, 13, 14, 15, 16] (y := 100) (pcN := 38) (dC := 0) (bc1 := 0) (bc2 := 0) (c1 := 0) (c2 := 0) (as := [(4, 0), (4, 18)]) (asC := [(4, 0), (4, 1)]) (LN := [(3, (0, 0)), (0, (4, 0)), (1, (0, x1)), (2, (0, x2))]) (stN := []) (hsC := jpA_80) (hsD := jpA_78) (v := (9, 0)) (st2 := []) (hs2 := [jzA_2409, jgh, jgh, jgh, jgh, jgh, jgh, jgh, jgh, jgh, jzA_102, jzA_88, jgh, jgh, jgh, jzA_2380, jgh, (100, [], (([0, 0, 0, 0, 0, 0, 0, 0, 0, 0, 0, 0]).set ((x1).toNat) x2)), jzA_2408]) (jA_100_34 (d := 0)) (by rfl) (by rfl) (by rfl) (by rfl) ⟨rfl, rfl, rfl, rfl, rfl, rfl, rfl, rfl, rfl, rfl, rfl, rfl, rfl, rfl, rfl, rfl, rfl, rfl, trivial⟩ (by rfl) (by rfl) (by omega) (by show 17 ≤ 19; omega) (by omega) (by omega) rfl rfl ?_
  refine jT_xiload_n (v := (0, 0)) (pcN := 39) jI_133_38 rfl rfl rfl ?_
  exact jT_ret rfl (by decide) (by show 17 ≤ 19; decide) (by omega) (by omega) ⟨rfl, rfl, rfl⟩
def jzA_2412 : JC := (13, [(4, 2), (4, 3), (4, 4), (4, 5), (4, 6), (4, 7), (4, 8), (4, 9), (4, 10), (4, 11), (0, 1), (4, 19), (0, 0)], [])
def jzA_2413 : JC := (9, [(4, 13), (4, 14), (4, 15), (4, 18), (4, 17)], [])
theorem jI_340_8 : jmI (jm 340) 8 = (.i2l, 1) := by rfl
theorem jI_340_10 : jmI (jm 340) 10 = (.goto 11, 3) := by rfl
theorem jI_340_21 : jmI (jm 340) 21 = (.iconst 0, 1) := by rfl
def jpA_2417 : List JC := [jzA_14, (101, [], [0]), jgh, jgh, jgh, jgh, jgh, jgh, jgh, jgh, jgh, jzA_79, jzA_77, jgh, jgh, jgh, jzA_2380, jgh]
theorem jA_340_631 {xs : List Int} {d : Nat} {x1 x2 : Int} (h_x1 : 0 ≤ x1 ∧ x1 ≤ 11) (h_x2 : (-24) ≤ x2 ∧ x2 ≤ 24) : jT xs (d + 3) 340 18 0 [(0, (4, 0)), (1, (0, x1)), (2, (0, x2)), (3, (4, 1))] [] jpA_2417 2 17 (fun k v hsN => k = 0 ∧ v = (0, 0) ∧ hsN = [jzA_2412, (101, [], [0]), jgh, jgh, jgh, jgh, jgh, jgh, jgh, jgh, jgh, jzA_76, jzA_77, jgh, jgh, jgh, jzA_2380, jgh, (100, [], (([0, 0, 0, 0, 0, 0, 0, 0, 0, 0, 0, 0]).set ((x1).toNat) x2)), jzA_2413]) := by
  refine jT_xaload_n (v := (4, 1)) (pcN := 1) jI_340_0 rfl rfl rfl ?_
  refine jT_xiconst (k := 0) (pcN := 2) jI_340_1 rfl ?_
  refine jT_xaload_n (v := (4, 0)) (pcN := 3) jI_340_2 rfl rfl rfl ?_
  refine jT_xiload_n (v := (0, x1)) (pcN := 4) jI_340_3 rfl rfl rfl ?_
  refine jT_xiload_n (v := (0, x2)) (pcN := 5) jI_340_4 rfl rfl rfl ?_
  refine jT_fB [0, 2, 3, 4, 5, 6, 7, 8, 9, 10, 11, 12, 13, 14, 15, 16, 17] 18 (y := 133) (pcN := 8) (dC := 2) (bc1 := 2) (bc2 := 17) (c1 := 0) (c2 := 0) (as := [(4, 0), (0, x1), (0, x2)]) (asC := [(4, 0), (0, x1), (0, x2)]) (LN := [(0, (4, 0)), (1, (0, x1)), (2, (0, x2)), (3, (4, 1))]) (stN := [(0, 0), (4, 1)]) (hsC := jpA_2411) (hsD := [jzA_2409, jgh, jgh, jgh, jgh, jgh, jgh, jgh, jgh, jgh, jzA_102, jzA_88, jgh, jgh, jgh, jzA_2380, jgh, (100, [], (([0, 0, 0, 0, 0, 0, 0, 0, 0, 0, 0, 0]).set ((x1).toNat) x2)), jzA_2408]) (v := (0, 0)) (st2 := [(0, 0), (0, 0), (4, 1)]) (hs2 := [jzA_2412, (101, [], [0]), jgh, jgh, jgh, jgh, jgh, jgh, jgh, jgh, jgh, jzA_76, jzA_77, jgh, jgh, jgh, jzA_2380, jgh, (100, [], (([0, 0, 0, 0, 0, 0, 0, 0, 0, 0, 0, 0]).set ((x1).toNat) x2)), jzA_2413]) (jA_133_630 (d := 0) (by omega) (by omega)) (by rfl) (by rfl) (by decide +kernel) (by rfl) (by rfl) (by omega) (by omega) (by omega) (by omega) rfl rfl ?_
  refine jT_xi2l (x := 0) (z := 0) (pcN := 9) jI_340_8 rfl (by decide +kernel) rfl ?_
  refine jT_adv 1 (pcN := 10) (LN := [(0, (4, 0)), (1, (0, x1)), (2, (0, x2)), (3, (4, 1))]) (stN := []) (hsN := [jzA_2412, (101, [], [0]), jgh, jgh, jgh, jgh, jgh, jgh, jgh, jgh, jgh, jzA_76, jzA_77, jgh, jgh, jgh, jzA_2380, jgh, (100, [], (([0, 0, 0, 0, 0, 0, 0, 0, 0, 0, 0, 0]).set ((x1).toNat) x2)), jzA_2413]) (c1 := 0) (s1 := 0) (c2 := 0) (s2 := 0) (by exact rfl) ?_ (by omega) (by omega)
  refine jT_xgoto (pcN := 21) jI_340_10 rfl ?_
  refine jT_xiconst (k := 0) (pcN := 22) jI_340_21 rfl ?_
  exact jT_ret rfl (by decide) (by show 18 ≤ 20; decide) (by omega) (by omega) ⟨rfl, rfl, rfl⟩
theorem jI_253_32 : jmI (jm 253) 32 = (.aload_n 0, 1) := by rfl
theorem jI_253_36 : jmI (jm 253) 36 = (.aload_n 0, 1) := by rfl
theorem jI_253_37 : jmI (jm 253) 37 = (.getfield 9, 3) := by rfl
theorem jI_253_40 : jmI (jm 253) 40 = (.sipush 1180, 3) := by rfl
theorem jI_253_43 : jmI (jm 253) 43 = (.iload_n 1, 1) := by rfl
theorem jI_253_44 : jmI (jm 253) 44 = (.iadd, 1) := by rfl
theorem jI_253_45 : jmI (jm 253) 45 = (.iaload, 1) := by rfl
theorem jI_253_46 : jmI (jm 253) 46 = (.istore_n 3, 1) := by rfl
theorem jI_253_47 : jmI (jm 253) 47 = (.aload_n 0, 1) := by rfl
theorem jI_253_48 : jmI (jm 253) 48 = (.getfield 9, 3) := by rfl
theorem jI_253_51 : jmI (jm 253) 51 = (.sipush 1180, 3) := by rfl
theorem jI_253_54 : jmI (jm 253) 54 = (.iload_n 1, 1) := by rfl
theorem jI_253_55 : jmI (jm 253) 55 = (.iadd, 1) := by rfl
theorem jI_253_56 : jmI (jm 253) 56 = (.iload_n 2, 1) := by rfl
theorem jI_253_58 : jmI (jm 253) 58 = (.iload_n 3, 1) := by rfl
theorem jA_253_632 {xs : List Int} {d : Nat} {x1 x2 : Int} (h_x1 : 0 ≤ x1 ∧ x1 ≤ 11) (h_x2 : (-24) ≤ x2 ∧ x2 ≤ 24) : jT xs (d + 2) 253 24 0 [(0, (4, 0)), (1, (0, x1)), (2, (0, x2))] [] jpA_198 0 0 (fun k v hsN => k = 0 ∧ v = (0, 0) ∧ hsN = [jzA_200, (100, [], ((jS0).set ((x1 + 1180).toNat) x2)), (100, [], []), jzA_196, jzA_201, jgh, jgh, jgh, jgh, jgh, jgh, jgh, jgh, jgh, jgh, jgh, (100, [], jS0), jgh, jgh, jgh, jgh, jgh, jgh, jgh]) := by
  refine jT_xaload_n (v := (4, 0)) (pcN := 1) jI_253_0 rfl rfl rfl ?_
  refine jT_xiload_n (v := (0, x1)) (pcN := 2) jI_253_1 rfl rfl rfl ?_
  refine jT_fR [] 24 (y := 254) (pcN := 5) (dC := 1) (bc1 := 0) (bc2 := 0) (c1 := 0) (c2 := 0) (as := [(0, x1)]) (asC := [(0, x1)]) (LN := [(0, (4, 0)), (1, (0, x1)), (2, (0, x2))]) (stN := [(4, 0)]) (hsC := []) (v := (0, 1)) (st2 := [(0, 1), (4, 0)]) (jA_254_625 (d := 0) (by omega)) (by rfl) (by rfl) (by decide +kernel) (by rfl) (by rfl) (by omega) (by omega) (by omega) (by omega) rfl ?_
  refine jT_fR [0, 1, 2, 3, 4, 5, 6, 7, 8, 9, 10, 11, 12, 13, 14, 15] 24 (y := 190) (pcN := 8) (dC := 1) (bc1 := 0) (bc2 := 0) (c1 := 0) (c2 := 0) (as := [(4, 0), (0, 1)]) (asC := [(4, 0), (0, 1)]) (LN := [(0, (4, 0)), (1, (0, x1)), (2, (0, x2))]) (stN := []) (hsC := jpA_22) (v := (0, 0)) (st2 := [(0, 0)]) (jA_190_39 (d := 0)) (by rfl) (by rfl) (by decide +kernel) (by rfl) (by rfl) (by omega) (by omega) (by omega) (by omega) rfl ?_
  refine jT_xifF (t := 30) (pcN := 11) jI_253_8 rfl (by decide +kernel) rfl rfl ?_
  refine jT_xaload_n (v := (4, 0)) (pcN := 12) jI_253_11 rfl rfl rfl ?_
  refine jT_xiload_n (v := (0, x2)) (pcN := 13) jI_253_12 rfl rfl rfl ?_
  refine jT_xi2l (x := x2) (z := x2) (pcN := 14) jI_253_13 rfl (jw_idd (by omega) (by omega)) rfl ?_
  refine jT_adv 2 (pcN := 20) (LN := [(0, (4, 0)), (1, (0, x1)), (2, (0, x2))]) (stN := [(1, 24), (1, (-24)), (1, x2), (4, 0)]) (hsN := jpA_198) (c1 := 0) (s1 := 0) (c2 := 0) (s2 := 0) (by exact rfl) ?_ (by omega) (by omega)
  refine jT_fR [] 24 (y := 189) (pcN := 23) (dC := 0) (bc1 := 0) (bc2 := 0) (c1 := 0) (c2 := 0) (as := [(1, x2), (1, (-24)), (1, 24)]) (asC := [(1, x2), (1, (-24)), (1, 24)]) (LN := [(0, (4, 0)), (1, (0, x1)), (2, (0, x2))]) (stN := [(4, 0)]) (hsC := []) (v := (0, 1)) (st2 := [(0, 1), (4, 0)]) (jT_in_ok (d := 0) (v := x2) (lo := (-24)) (hi := 24) (by omega) (by omega) (by omega) (by omega) (by omega)) (by rfl) (by rfl) (by decide +kernel) (by rfl) (by rfl) (by omega) (by omega) (by omega) (by omega) rfl ?_
  refine jT_xiconst (k := 2) (pcN := 24) jI_253_23 rfl ?_
  refine jT_fR [0] 24 (y := 191) (pcN := 27) (dC := 0) (bc1 := 0) (bc2 := 0) (c1 := 0) (c2 := 0) (as := [(4, 0), (0, 1), (0, 2)]) (asC := [(4, 0), (0, 1), (0, 2)]) (LN := [(0, (4, 0)), (1, (0, x1)), (2, (0, x2))]) (stN := []) (hsC := [jgh]) (v := (0, 0)) (st2 := [(0, 0)]) (jA_191_49 (d := 0)) (by rfl) (by rfl) (by decide +kernel) (by rfl) (by rfl) (by omega) (by omega) (by omega) (by omega) rfl ?_
  refine jT_xifT (pcN := 32) jI_253_27 rfl (by decide +kernel) rfl ?_
  refine jT_xaload_n (v := (4, 0)) (pcN := 33) jI_253_32 rfl rfl rfl ?_
  refine jT_fB [0, 1, 2, 3, 4, 5, 6, 7, 8, 9, 10, 11, 12, 13, 14, 15, 16, 17, 18, 19, 20, 21, 22, 23] 24 (y := 195) (pcN := 36) (dC := 0) (bc1 := 0) (bc2 := 0) (c1 := 0) (c2 := 0) (as := [(4, 0)]) (asC := [(4, 0)]) (LN := [(0, (4, 0)), (1, (0, x1)), (2, (0, x2))]) (stN := []) (hsC := jpA_198) (hsD := jpA_202) (v := (9, 0)) (st2 := []) (hs2 := jpA_202) (jA_195_50 (d := 0)) (by rfl) (by rfl) (by decide +kernel) (by rfl) (by rfl) (by omega) (by omega) (by omega) (by omega) rfl (by decide +kernel) ?_
  refine jT_xaload_n (v := (4, 0)) (pcN := 37) jI_253_36 rfl rfl rfl ?_
  refine jT_xgetf (a := 0) (t := 1) (ci := 14) (fi := 1) (c := jzA_200) (v := (4, 1)) (pcN := 40) jI_253_37 rfl rfl rfl rfl rfl rfl rfl ?_
  refine jT_xsipush (k := 1180) (pcN := 43) jI_253_40 (by decide) rfl ?_
  refine jT_xiload_n (v := (0, x1)) (pcN := 44) jI_253_43 rfl rfl rfl ?_
  refine jT_xiadd (x := 1180) (y := x1) (z := x1 + 1180) (pcN := 45) jI_253_44 rfl (by omega) rfl ?_
  refine jT_iald (x := 0) (a := 1) (j := (x1 + 1180).toNat) (fs := []) (X := jS0) (by rfl) (by rfl) (by rfl) (jw_nn (by omega) (by omega)) (jS0_f (by omega) (by omega)) ?_
  refine jT_eq (LN := [(0, (4, 0)), (1, (0, x1)), (2, (0, x2))]) (stN := [(0, 0)]) (hsN := jpA_202) rfl rfl rfl ?_
  refine jT_xistore_n (v := (0, 0)) (LN := [(3, (0, 0)), (0, (4, 0)), (1, (0, x1)), (2, (0, x2))]) (pcN := 47) jI_253_46 rfl rfl rfl rfl ?_
  refine jT_xaload_n (v := (4, 0)) (pcN := 48) jI_253_47 rfl rfl rfl ?_
  refine jT_xgetf (a := 0) (t := 1) (ci := 14) (fi := 1) (c := jzA_200) (v := (4, 1)) (pcN := 51) jI_253_48 rfl rfl rfl rfl rfl rfl rfl ?_
  refine jT_xsipush (k := 1180) (pcN := 54) jI_253_51 (by decide) rfl ?_
  refine jT_xiload_n (v := (0, x1)) (pcN := 55) jI_253_54 rfl rfl rfl ?_
  refine jT_xiadd (x := 1180) (y := x1) (z := x1 + 1180) (pcN := 56) jI_253_55 rfl (by omega) rfl ?_
  refine jT_xiload_n (v := (0, x2)) (pcN := 57) jI_253_56 rfl rfl rfl ?_
  refine jT_iast (x := x2) (a := 1) (j := (x1 + 1180).toNat) (fs := []) (X := jS0) (by rfl) (by rfl) (by rfl) (jw_nn (by omega) (by omega)) (by rw [show List.length (jS0 : List Int) = 1613 from jS0_len]; omega) ?_
  refine jT_eq (LN := [(3, (0, 0)), (0, (4, 0)), (1, (0, x1)), (2, (0, x2))]) (stN := []) (hsN := [jzA_200, (100, [], ((jS0).set ((x1 + 1180).toNat) x2)), (100, [], []), jzA_196, jzA_201, jgh, jgh, jgh, jgh, jgh, jgh, jgh, jgh, jgh, jgh, jgh, (100, [], jS0), jgh, jgh, jgh, jgh, jgh, jgh, jgh]) rfl rfl rfl ?_
  refine jT_xiload_n (v := (0, 0)) (pcN := 59) jI_253_58 rfl rfl rfl ?_
  exact jT_ret rfl (by decide) (by show 24 ≤ 24; decide) (by omega) (by omega) ⟨rfl, rfl, rfl⟩
theorem jA_116_633 {xs : List Int} {d : Nat} {x2 : Int} (h_x2 : 25 ≤ x2 ∧ x2 ≤ 2147483647) : jT xs d 116 1 0 [(0, (4, 0)), (1, (0, x2)), (2, (0, (-24))), (3, (0, 24))] [] [jgh] 1 6 (fun k v hsN => k = 1 ∧ v = (0, 1) ∧ hsN = [jgh] ++ []) := by
  refine jT_xiload_n (v := (0, x2)) (pcN := 1) jI_116_0 rfl rfl rfl ?_
  refine jT_xiload_n (v := (0, (-24))) (pcN := 2) jI_116_1 rfl rfl rfl ?_
  refine jT_icF (a := x2) (b := (-24)) (t := 10) (by rfl) (by rfl) (by rfl) (jw_idd (by omega) (by omega)) (jw_idd (by omega) (by omega)) (by simp only [jcP] <;> omega) ?_
  refine jT_xiload_n (v := (0, x2)) (pcN := 6) jI_116_5 rfl rfl rfl ?_
  refine jT_xiload_n (v := (0, 24)) (pcN := 7) jI_116_6 rfl rfl rfl ?_
  refine jT_icF (a := x2) (b := 24) (t := 21) (by rfl) (by rfl) (by rfl) (jw_idd (by omega) (by omega)) (jw_idd (by omega) (by omega)) (by simp only [jcP] <;> omega) ?_
  exact jT_ret (c1 := 1) (s1 := 6) rfl (by decide) (by show 1 ≤ 1; decide) (by omega) (by omega) ⟨rfl, rfl, rfl⟩
theorem jA_133_634 {xs : List Int} {d : Nat} {x1 x2 : Int} (h_x1 : 0 ≤ x1 ∧ x1 ≤ 11) (h_x2 : 25 ≤ x2 ∧ x2 ≤ 2147483647) : jT xs (d + 1) 133 12 0 [(0, (4, 0)), (1, (0, x1)), (2, (0, x2))] [] jpA_6 1 6 (fun k v hsN => k = 1 ∧ v = (0, 1) ∧ hsN = jpA_6 ++ []) := by
  refine jT_xaload_n (v := (4, 0)) (pcN := 1) jI_133_0 rfl rfl rfl ?_
  refine jT_xiload_n (v := (0, x1)) (pcN := 2) jI_133_1 rfl rfl rfl ?_
  refine jT_xbipush (k := 12) (pcN := 4) jI_133_2 (by decide) rfl ?_
  refine jT_fR [0] 12 (y := 115) (pcN := 7) (dC := 0) (bc1 := 0) (bc2 := 0) (c1 := 1) (c2 := 6) (as := [(4, 0), (0, x1), (0, 12)]) (asC := [(4, 0), (0, x1), (0, 12)]) (LN := [(0, (4, 0)), (1, (0, x1)), (2, (0, x2))]) (stN := []) (hsC := [jgh]) (v := (9, 0)) (st2 := []) (jA_115_621 (d := 0) (by omega)) (by rfl) (by rfl) (by decide +kernel) (by rfl) (by rfl) (by omega) (by omega) (by omega) (by omega) rfl ?_
  refine jT_xaload_n (v := (4, 0)) (pcN := 8) jI_133_7 rfl rfl rfl ?_
  refine jT_xiload_n (v := (0, x2)) (pcN := 9) jI_133_8 rfl rfl rfl ?_
  refine jT_xbipush (k := (-24)) (pcN := 11) jI_133_9 (by decide) rfl ?_
  refine jT_xbipush (k := 24) (pcN := 13) jI_133_11 (by decide) rfl ?_
  exact jT_fX [0] 12 (y := 116) (pcN := 16) (dC := 0) (bc1 := 1) (bc2 := 6) (as := [(4, 0), (0, x2), (0, (-24)), (0, 24)]) (asC := [(4, 0), (0, x2), (0, (-24)), (0, 24)]) (LN := [(0, (4, 0)), (1, (0, x1)), (2, (0, x2))]) (stN := []) (hsC := [jgh]) (e := 1) (jA_116_633 (d := 0) (by omega)) (by rfl) (by rfl) (by decide +kernel) (by rfl) (by rfl) (by omega) (by omega) (by omega) (by omega) ⟨rfl, ⟨rfl, rfl, rfl⟩⟩
theorem jA_340_635 {xs : List Int} {d : Nat} {x1 x2 : Int} (h_x1 : 0 ≤ x1 ∧ x1 ≤ 11) (h_x2 : 25 ≤ x2 ∧ x2 ≤ 2147483647) : jT xs (d + 2) 340 13 0 [(0, (4, 0)), (1, (0, x1)), (2, (0, x2)), (3, (4, 1))] [] jpA_15 1 6 (fun k v hsN => k = 0 ∧ v = (0, 2) ∧ hsN = jpA_15 ++ []) := by
  refine jT_xaload_n (v := (4, 1)) (pcN := 1) jI_340_0 rfl rfl rfl ?_
  refine jT_xiconst (k := 0) (pcN := 2) jI_340_1 rfl ?_
  refine jT_xaload_n (v := (4, 0)) (pcN := 3) jI_340_2 rfl rfl rfl ?_
  refine jT_xiload_n (v := (0, x1)) (pcN := 4) jI_340_3 rfl rfl rfl ?_
  refine jT_xiload_n (v := (0, x2)) (pcN := 5) jI_340_4 rfl rfl rfl ?_
  exact jT_fX [0, 2, 3, 4, 5, 6, 7, 8, 9, 10, 11, 12] 13 (y := 133) (pcN := 8) (dC := 1) (bc1 := 1) (bc2 := 6) (as := [(4, 0), (0, x1), (0, x2)]) (asC := [(4, 0), (0, x1), (0, x2)]) (LN := [(0, (4, 0)), (1, (0, x1)), (2, (0, x2)), (3, (4, 1))]) (stN := [(0, 0), (4, 1)]) (hsC := jpA_6) (e := 1) (jA_133_634 (d := 0) (by omega) (by omega)) (by rfl) (by rfl) (by decide +kernel) (by rfl) (by rfl) (by omega) (by omega) (by omega) (by omega) (show _ from ⟨rfl, rfl, rfl⟩)
theorem jA_253_636 {xs : List Int} {d : Nat} {x1 x2 : Int} (h_x1 : 0 ≤ x1 ∧ x1 ≤ 11) (h_x2 : 25 ≤ x2 ∧ x2 ≤ 2147483647) : jT xs (d + 2) 253 16 0 [(0, (4, 0)), (1, (0, x1)), (2, (0, x2))] [] jpA_22 0 0 (fun k v hsN => k = 0 ∧ v = (0, 0) ∧ hsN = jpA_361) := by
  refine jT_xaload_n (v := (4, 0)) (pcN := 1) jI_253_0 rfl rfl rfl ?_
  refine jT_xiload_n (v := (0, x1)) (pcN := 2) jI_253_1 rfl rfl rfl ?_
  refine jT_fR [] 16 (y := 254) (pcN := 5) (dC := 1) (bc1 := 0) (bc2 := 0) (c1 := 0) (c2 := 0) (as := [(0, x1)]) (asC := [(0, x1)]) (LN := [(0, (4, 0)), (1, (0, x1)), (2, (0, x2))]) (stN := [(4, 0)]) (hsC := []) (v := (0, 1)) (st2 := [(0, 1), (4, 0)]) (jA_254_625 (d := 0) (by omega)) (by rfl) (by rfl) (by decide +kernel) (by rfl) (by rfl) (by omega) (by omega) (by omega) (by omega) rfl ?_
  refine jT_fR [0, 1, 2, 3, 4, 5, 6, 7, 8, 9, 10, 11, 12, 13, 14, 15] 16 (y := 190) (pcN := 8) (dC := 1) (bc1 := 0) (bc2 := 0) (c1 := 0) (c2 := 0) (as := [(4, 0), (0, 1)]) (asC := [(4, 0), (0, 1)]) (LN := [(0, (4, 0)), (1, (0, x1)), (2, (0, x2))]) (stN := []) (hsC := jpA_22) (v := (0, 0)) (st2 := [(0, 0)]) (jA_190_39 (d := 0)) (by rfl) (by rfl) (by decide +kernel) (by rfl) (by rfl) (by omega) (by omega) (by omega) (by omega) rfl ?_
  refine jT_xifF (t := 30) (pcN := 11) jI_253_8 rfl (by decide +kernel) rfl rfl ?_
  refine jT_xaload_n (v := (4, 0)) (pcN := 12) jI_253_11 rfl rfl rfl ?_
  refine jT_xiload_n (v := (0, x2)) (pcN := 13) jI_253_12 rfl rfl rfl ?_
  refine jT_xi2l (x := x2) (z := x2) (pcN := 14) jI_253_13 rfl (jw_idd (by omega) (by omega)) rfl ?_
  refine jT_adv 2 (pcN := 20) (LN := [(0, (4, 0)), (1, (0, x1)), (2, (0, x2))]) (stN := [(1, 24), (1, (-24)), (1, x2), (4, 0)]) (hsN := jpA_22) (c1 := 0) (s1 := 0) (c2 := 0) (s2 := 0) (by exact rfl) ?_ (by omega) (by omega)
  refine jT_fR [] 16 (y := 189) (pcN := 23) (dC := 0) (bc1 := 0) (bc2 := 0) (c1 := 0) (c2 := 0) (as := [(1, x2), (1, (-24)), (1, 24)]) (asC := [(1, x2), (1, (-24)), (1, 24)]) (LN := [(0, (4, 0)), (1, (0, x1)), (2, (0, x2))]) (stN := [(4, 0)]) (hsC := []) (v := (0, 0)) (st2 := [(0, 0), (4, 0)]) (jT_in_hi (d := 0) (v := x2) (lo := (-24)) (hi := 24) (by omega) (by omega) (by omega) (by omega) (by omega)) (by rfl) (by rfl) (by decide +kernel) (by rfl) (by rfl) (by omega) (by omega) (by omega) (by omega) rfl ?_
  refine jT_xiconst (k := 2) (pcN := 24) jI_253_23 rfl ?_
  refine jT_fB [0, 1, 2, 3, 4, 5, 6, 7, 8, 9, 10, 11, 12, 13, 14, 15] 16 (y := 191) (pcN := 27) (dC := 0) (bc1 := 0) (bc2 := 0) (c1 := 0) (c2 := 0) (as := [(4, 0), (0, 0), (0, 2)]) (asC := [(4, 0), (0, 0), (0, 2)]) (LN := [(0, (4, 0)), (1, (0, x1)), (2, (0, x2))]) (stN := []) (hsC := jpA_22) (hsD := jpA_361) (v := (0, 1)) (st2 := [(0, 1)]) (hs2 := jpA_361) (jA_191_99 (d := 0)) (by rfl) (by rfl) (by decide +kernel) (by rfl) (by rfl) (by omega) (by omega) (by omega) (by omega) rfl (by decide +kernel) ?_
  refine jT_xifF (t := 32) (pcN := 30) jI_253_27 rfl (by decide +kernel) rfl rfl ?_
  refine jT_xiconst (k := 0) (pcN := 31) jI_253_30 rfl ?_
  exact jT_ret rfl (by decide) (by show 16 ≤ 16; decide) (by omega) (by omega) ⟨rfl, rfl, rfl⟩
theorem jA_115_637 {xs : List Int} {d : Nat} {x1 : Int} (h_x1 : 12 ≤ x1 ∧ x1 ≤ 2147483647) : jT xs d 115 1 0 [(0, (4, 0)), (1, (0, x1)), (2, (0, 12))] [] [jgh] 1 6 (fun k v hsN => k = 1 ∧ v = (0, 0) ∧ hsN = [jgh] ++ []) := by
  refine jT_xiload_n (v := (0, x1)) (pcN := 1) jI_115_0 rfl rfl rfl ?_
  refine jT_ifF (a := x1) (t := 9) (by rfl) (by rfl) (by rfl) (jw_idd (by omega) (by omega)) (by simp only [jcP] <;> omega) ?_
  refine jT_xiload_n (v := (0, x1)) (pcN := 5) jI_115_4 rfl rfl rfl ?_
  refine jT_xiload_n (v := (0, 12)) (pcN := 6) jI_115_5 rfl rfl rfl ?_
  refine jT_icF (a := x1) (b := 12) (t := 20) (by rfl) (by rfl) (by rfl) (jw_idd (by omega) (by omega)) (jw_idd (by omega) (by omega)) (by simp only [jcP] <;> omega) ?_
  exact jT_ret (c1 := 1) (s1 := 6) rfl (by decide) (by show 1 ≤ 1; decide) (by omega) (by omega) ⟨rfl, rfl, rfl⟩
theorem jA_133_638 {xs : List Int} {d : Nat} {x1 x2 : Int} (h_x1 : 12 ≤ x1 ∧ x1 ≤ 2147483647) (h_x2 : (-2147483648) ≤ x2 ∧ x2 ≤ 2147483647) : jT xs (d + 1) 133 12 0 [(0, (4, 0)), (1, (0, x1)), (2, (0, x2))] [] jpA_6 1 6 (fun k v hsN => k = 1 ∧ v = (0, 0) ∧ hsN = jpA_6 ++ []) := by
  refine jT_xaload_n (v := (4, 0)) (pcN := 1) jI_133_0 rfl rfl rfl ?_
  refine jT_xiload_n (v := (0, x1)) (pcN := 2) jI_133_1 rfl rfl rfl ?_
  refine jT_xbipush (k := 12) (pcN := 4) jI_133_2 (by decide) rfl ?_
  exact jT_fX [0] 12 (y := 115) (pcN := 7) (dC := 0) (bc1 := 1) (bc2 := 6) (as := [(4, 0), (0, x1), (0, 12)]) (asC := [(4, 0), (0, x1), (0, 12)]) (LN := [(0, (4, 0)), (1, (0, x1)), (2, (0, x2))]) (stN := []) (hsC := [jgh]) (e := 0) (jA_115_637 (d := 0) (by omega)) (by rfl) (by rfl) (by decide +kernel) (by rfl) (by rfl) (by omega) (by omega) (by omega) (by omega) ⟨rfl, ⟨rfl, rfl, rfl⟩⟩
theorem jA_340_639 {xs : List Int} {d : Nat} {x1 x2 : Int} (h_x1 : 12 ≤ x1 ∧ x1 ≤ 2147483647) (h_x2 : (-2147483648) ≤ x2 ∧ x2 ≤ 2147483647) : jT xs (d + 2) 340 13 0 [(0, (4, 0)), (1, (0, x1)), (2, (0, x2)), (3, (4, 1))] [] jpA_15 1 6 (fun k v hsN => k = 0 ∧ v = (0, 1) ∧ hsN = jpA_15 ++ []) := by
  refine jT_xaload_n (v := (4, 1)) (pcN := 1) jI_340_0 rfl rfl rfl ?_
  refine jT_xiconst (k := 0) (pcN := 2) jI_340_1 rfl ?_
  refine jT_xaload_n (v := (4, 0)) (pcN := 3) jI_340_2 rfl rfl rfl ?_
  refine jT_xiload_n (v := (0, x1)) (pcN := 4) jI_340_3 rfl rfl rfl ?_
  refine jT_xiload_n (v := (0, x2)) (pcN := 5) jI_340_4 rfl rfl rfl ?_
  exact jT_fX [0, 2, 3, 4, 5, 6, 7, 8, 9, 10, 11, 12] 13 (y := 133) (pcN := 8) (dC := 1) (bc1 := 1) (bc2 := 6) (as := [(4, 0), (0, x1), (0, x2)]) (asC := [(4, 0), (0, x1), (0, x2)]) (LN := [(0, (4, 0)), (1, (0, x1)), (2, (0, x2)), (3, (4, 1))]) (stN := [(0, 0), (4, 1)]) (hsC := jpA_6) (e := 0) (jA_133_638 (d := 0) (by omega) (by omega)) (by rfl) (by rfl) (by decide +kernel) (by rfl) (by rfl) (by omega) (by omega) (by omega) (by omega) (show _ from ⟨rfl, rfl, rfl⟩)
theorem jA_254_640 {xs : List Int} {d : Nat} {x1 : Int} (h_x1 : 12 ≤ x1 ∧ x1 ≤ 2147483647) : jT xs (d + 1) 254 0 0 [(0, (0, x1))] [] [] 0 0 (fun k v hsN => k = 0 ∧ v = (0, 0) ∧ hsN = [] ++ []) := by
  refine jT_xiload_n (v := (0, x1)) (pcN := 1) jI_254_0 rfl rfl rfl ?_
  refine jT_xi2l (x := x1) (z := x1) (pcN := 2) jI_254_1 rfl (jw_idd (by omega) (by omega)) rfl ?_
  refine jT_xlconst (z := 0) (pcN := 3) jI_254_2 rfl rfl ?_
  refine jT_adv 1 (pcN := 6) (LN := [(0, (0, x1))]) (stN := [(1, 11), (1, 0), (1, x1)]) (hsN := []) (c1 := 0) (s1 := 0) (c2 := 0) (s2 := 0) (by exact rfl) ?_ (by omega) (by omega)
  refine jT_fR [] 0 (y := 189) (pcN := 9) (dC := 0) (bc1 := 0) (bc2 := 0) (c1 := 0) (c2 := 0) (as := [(1, x1), (1, 0), (1, 11)]) (asC := [(1, x1), (1, 0), (1, 11)]) (LN := [(0, (0, x1))]) (stN := []) (hsC := []) (v := (0, 0)) (st2 := [(0, 0)]) (jT_in_hi (d := 0) (v := x1) (lo := 0) (hi := 11) (by omega) (by omega) (by omega) (by omega) (by omega)) (by rfl) (by rfl) (by decide +kernel) (by rfl) (by rfl) (by omega) (by omega) (by omega) (by omega) rfl ?_
  exact jT_ret rfl (by decide) (by show 0 ≤ 0; decide) (by omega) (by omega) ⟨rfl, rfl, rfl⟩
theorem jA_253_641 {xs : List Int} {d : Nat} {x1 x2 : Int} (h_x1 : 12 ≤ x1 ∧ x1 ≤ 2147483647) (h_x2 : (-2147483648) ≤ x2 ∧ x2 ≤ 2147483647) : jT xs (d + 2) 253 16 0 [(0, (4, 0)), (1, (0, x1)), (2, (0, x2))] [] jpA_22 0 0 (fun k v hsN => k = 0 ∧ v = (0, 0) ∧ hsN = jpA_20) := by
  refine jT_xaload_n (v := (4, 0)) (pcN := 1) jI_253_0 rfl rfl rfl ?_
  refine jT_xiload_n (v := (0, x1)) (pcN := 2) jI_253_1 rfl rfl rfl ?_
  refine jT_fR [] 16 (y := 254) (pcN := 5) (dC := 1) (bc1 := 0) (bc2 := 0) (c1 := 0) (c2 := 0) (as := [(0, x1)]) (asC := [(0, x1)]) (LN := [(0, (4, 0)), (1, (0, x1)), (2, (0, x2))]) (stN := [(4, 0)]) (hsC := []) (v := (0, 0)) (st2 := [(0, 0), (4, 0)]) (jA_254_640 (d := 0) (by omega)) (by rfl) (by rfl) (by decide +kernel) (by rfl) (by rfl) (by omega) (by omega) (by omega) (by omega) rfl ?_
  refine jT_fB [0, 1, 2, 3, 4, 5, 6, 7, 8, 9, 10, 11, 12, 13, 14, 15] 16 (y := 190) (pcN := 8) (dC := 1) (bc1 := 0) (bc2 := 0) (c1 := 0) (c2 := 0) (as := [(4, 0), (0, 0)]) (asC := [(4, 0), (0, 0)]) (LN := [(0, (4, 0)), (1, (0, x1)), (2, (0, x2))]) (stN := []) (hsC := jpA_22) (hsD := jpA_20) (v := (0, 1)) (st2 := [(0, 1)]) (hs2 := jpA_20) (jA_190_6 (d := 0)) (by rfl) (by rfl) (by decide +kernel) (by rfl) (by rfl) (by omega) (by omega) (by omega) (by omega) rfl (by decide +kernel) ?_
  refine jT_xifT (pcN := 30) jI_253_8 rfl (by decide +kernel) rfl ?_
  refine jT_xiconst (k := 0) (pcN := 31) jI_253_30 rfl ?_
  exact jT_ret rfl (by decide) (by show 16 ≤ 16; decide) (by omega) (by omega) ⟨rfl, rfl, rfl⟩
theorem jI_379_1394 : jmI (jm 379) 1394 = (.aload_n 1, 1) := by rfl
theorem jI_379_1395 : jmI (jm 379) 1395 = (.aload_n 0, 1) := by rfl
theorem jI_379_1396 : jmI (jm 379) 1396 = (.iload 5, 2) := by rfl
theorem jI_379_1398 : jmI (jm 379) 1398 = (.iconst 1, 1) := by rfl
theorem jI_379_1399 : jmI (jm 379) 1399 = (.iadd, 1) := by rfl
theorem jI_379_1401 : jmI (jm 379) 1401 = (.aload_n 0, 1) := by rfl
theorem jI_379_1402 : jmI (jm 379) 1402 = (.iload 5, 2) := by rfl
theorem jI_379_1404 : jmI (jm 379) 1404 = (.iconst 2, 1) := by rfl
theorem jI_379_1405 : jmI (jm 379) 1405 = (.iadd, 1) := by rfl
theorem jI_379_1407 : jmI (jm 379) 1407 = (.aload_n 3, 1) := by rfl
theorem jI_379_1411 : jmI (jm 379) 1411 = (.istore 6, 2) := by rfl
theorem jI_379_1413 : jmI (jm 379) 1413 = (.aload_n 2, 1) := by rfl
theorem jI_379_1414 : jmI (jm 379) 1414 = (.aload_n 0, 1) := by rfl
theorem jI_379_1415 : jmI (jm 379) 1415 = (.iload 5, 2) := by rfl
theorem jI_379_1417 : jmI (jm 379) 1417 = (.iconst 1, 1) := by rfl
theorem jI_379_1418 : jmI (jm 379) 1418 = (.iadd, 1) := by rfl
theorem jI_379_1420 : jmI (jm 379) 1420 = (.aload_n 0, 1) := by rfl
theorem jI_379_1421 : jmI (jm 379) 1421 = (.iload 5, 2) := by rfl
theorem jI_379_1423 : jmI (jm 379) 1423 = (.iconst 2, 1) := by rfl
theorem jI_379_1424 : jmI (jm 379) 1424 = (.iadd, 1) := by rfl
theorem jI_379_1429 : jmI (jm 379) 1429 = (.istore 7, 2) := by rfl
theorem jI_379_1431 : jmI (jm 379) 1431 = (.aload_n 2, 1) := by rfl
theorem jI_379_1435 : jmI (jm 379) 1435 = (.iload 6, 2) := by rfl
theorem jI_379_1437 : jmI (jm 379) 1437 = (.if_icmp .eq 5, 3) := by rfl
theorem jI_379_1442 : jmI (jm 379) 1442 = (.iload 6, 2) := by rfl
theorem jI_379_1444 : jmI (jm 379) 1444 = (.ifCond .ne 15, 3) := by rfl
theorem jI_379_1459 : jmI (jm 379) 1459 = (.goto 2281, 3) := by rfl
set_option maxRecDepth 100000 in
theorem jL_14_0 {d : Nat} {x0 x1 x2 x3 x4 : Int} (h_x0 : (-2147483648) ≤ x0 ∧ x0 ≤ 2147483647) (h_x1 : (-2147483648) ≤ x1 ∧ x1 ≤ (-1)) (h_x2 : (-2147483648) ≤ x2 ∧ x2 ≤ 2147483647) (h_x3 : (-2147483648) ≤ x3 ∧ x3 ≤ 2147483647) (h_x4 : (-2147483648) ≤ x4 ∧ x4 ≤ 2147483647) : jT [x0, x1, x2, x3, x4] (d + 3) 379 30 1394 [(5, (0, 0)), (4, (4, 3)), (3, (4, 2)), (2, (4, 1)), (1, (4, 0)), (0, (6, 0))] [] jpA_267 1 6 (fun k v hsN => k = 0 ∧ v = (0, 1)) := by
  refine jT_xaload_n (v := (4, 0)) (pcN := 1395) jI_379_1394 rfl rfl rfl ?_
  refine jT_xaload_n (v := (6, 0)) (pcN := 1396) jI_379_1395 rfl rfl rfl ?_
  refine jT_xiload (v := (0, 0)) (pcN := 1398) jI_379_1396 rfl rfl rfl ?_
  refine jT_xiconst (k := 1) (pcN := 1399) jI_379_1398 rfl ?_
  refine jT_xiadd (x := 0) (y := 1) (z := 1) (pcN := 1400) jI_379_1399 rfl (by decide) rfl ?_
  refine jT_adv 1 (pcN := 1401) (LN := [(5, (0, 0)), (4, (4, 3)), (3, (4, 2)), (2, (4, 1)), (1, (4, 0)), (0, (6, 0))]) (stN := [(0, x1), (4, 0)]) (hsN := jpA_267) (c1 := 0) (s1 := 0) (c2 := 1) (s2 := 6) (by exact rfl) ?_ (by omega) (by omega)
  refine jT_xaload_n (v := (6, 0)) (pcN := 1402) jI_379_1401 rfl rfl rfl ?_
  refine jT_xiload (v := (0, 0)) (pcN := 1404) jI_379_1402 rfl rfl rfl ?_
  refine jT_xiconst (k := 2) (pcN := 1405) jI_379_1404 rfl ?_
  refine jT_xiadd (x := 0) (y := 2) (z := 2) (pcN := 1406) jI_379_1405 rfl (by decide) rfl ?_
  refine jT_adv 1 (pcN := 1407) (LN := [(5, (0, 0)), (4, (4, 3)), (3, (4, 2)), (2, (4, 1)), (1, (4, 0)), (0, (6, 0))]) (stN := [(0, x2), (0, x1), (4, 0)]) (hsN := jpA_267) (c1 := 0) (s1 := 0) (c2 := 1) (s2 := 6) (by exact rfl) ?_ (by omega) (by omega)
  refine jT_xaload_n (v := (4, 2)) (pcN := 1408) jI_379_1407 rfl rfl rfl ?_
  refine jT_fR [0, 2, 4, 5, 6, 7, 8, 9, 10, 11, 12, 13, 14] 30 (y := 340) (pcN := 1411) (dC := 2) (bc1 := 1) (bc2 := 6) (c1 := 0) (c2 := 0) (as := [(4, 0), (0, x1), (0, x2), (4, 2)]) (asC := [(4, 0), (0, x1), (0, x2), (4, 1)]) (LN := [(5, (0, 0)), (4, (4, 3)), (3, (4, 2)), (2, (4, 1)), (1, (4, 0)), (0, (6, 0))]) (stN := []) (hsC := jpA_15) (v := (0, 1)) (st2 := [(0, 1)]) (jA_340_618 (d := 0) (by omega) (by omega)) (by rfl) (by rfl) (by decide +kernel) (by rfl) (by rfl) (by omega) (by omega) (by omega) (by omega) rfl ?_
  refine jT_xistore (v := (0, 1)) (LN := [(6, (0, 1)), (5, (0, 0)), (4, (4, 3)), (3, (4, 2)), (2, (4, 1)), (1, (4, 0)), (0, (6, 0))]) (pcN := 1413) jI_379_1411 rfl rfl rfl rfl ?_
  refine jT_xaload_n (v := (4, 1)) (pcN := 1414) jI_379_1413 rfl rfl rfl ?_
  refine jT_xaload_n (v := (6, 0)) (pcN := 1415) jI_379_1414 rfl rfl rfl ?_
  refine jT_xiload (v := (0, 0)) (pcN := 1417) jI_379_1415 rfl rfl rfl ?_
  refine jT_xiconst (k := 1) (pcN := 1418) jI_379_1417 rfl ?_
  refine jT_xiadd (x := 0) (y := 1) (z := 1) (pcN := 1419) jI_379_1418 rfl (by decide) rfl ?_
  refine jT_adv 1 (pcN := 1420) (LN := [(6, (0, 1)), (5, (0, 0)), (4, (4, 3)), (3, (4, 2)), (2, (4, 1)), (1, (4, 0)), (0, (6, 0))]) (stN := [(0, x1), (4, 1)]) (hsN := jpA_267) (c1 := 0) (s1 := 0) (c2 := 0) (s2 := 0) (by exact rfl) ?_ (by omega) (by omega)
  refine jT_xaload_n (v := (6, 0)) (pcN := 1421) jI_379_1420 rfl rfl rfl ?_
  refine jT_xiload (v := (0, 0)) (pcN := 1423) jI_379_1421 rfl rfl rfl ?_
  refine jT_xiconst (k := 2) (pcN := 1424) jI_379_1423 rfl ?_
  refine jT_xiadd (x := 0) (y := 2) (z := 2) (pcN := 1425) jI_379_1424 rfl (by decide) rfl ?_
  refine jT_adv 1 (pcN := 1426) (LN := [(6, (0, 1)), (5, (0, 0)), (4, (4, 3)), (3, (4, 2)), (2, (4, 1)), (1, (4, 0)), (0, (6, 0))]) (stN := [(0, x2), (0, x1), (4, 1)]) (hsN := jpA_267) (c1 := 0) (s1 := 0) (c2 := 0) (s2 := 0) (by exact rfl) ?_ (by omega) (by omega)
  refine jT_fB [1, 15, 16, 17, 18, 19, 20, 21, 22, 23, 24, 25, 26, 27, 28, 29] 30 (y := 253) (pcN := 1429) (dC := 2) (bc1 := 0) (bc2 := 0) (c1 := 0) (c2 := 0) (as := [(4, 1), (0, x1), (0, x2)]) (asC := [(4, 0), (0, x1), (0, x2)]) (LN := [(6, (0, 1)), (5, (0, 0)), (4, (4, 3)), (3, (4, 2)), (2, (4, 1)), (1, (4, 0)), (0, (6, 0))]) (stN := []) (hsC := jpA_22) (hsD := jpA_20) (v := (0, 0)) (st2 := [(0, 0)]) (hs2 := jpA_306) (jA_253_620 (d := 0) (by omega) (by omega)) (by rfl) (by rfl) (by decide +kernel) (by rfl) (by rfl) (by omega) (by omega) (by omega) (by omega) rfl (by decide +kernel) ?_
  refine jT_xistore (v := (0, 0)) (LN := [(7, (0, 0)), (6, (0, 1)), (5, (0, 0)), (4, (4, 3)), (3, (4, 2)), (2, (4, 1)), (1, (4, 0)), (0, (6, 0))]) (pcN := 1431) jI_379_1429 rfl rfl rfl rfl ?_
  refine jT_xaload_n (v := (4, 1)) (pcN := 1432) jI_379_1431 rfl rfl rfl ?_
  refine jT_fR [1, 15, 16, 17, 18, 19, 20, 21, 22, 23, 24, 25, 26, 27, 28, 29] 30 (y := 186) (pcN := 1435) (dC := 0) (bc1 := 0) (bc2 := 0) (c1 := 0) (c2 := 0) (as := [(4, 1)]) (asC := [(4, 0)]) (LN := [(7, (0, 0)), (6, (0, 1)), (5, (0, 0)), (4, (4, 3)), (3, (4, 2)), (2, (4, 1)), (1, (4, 0)), (0, (6, 0))]) (stN := []) (hsC := jpA_20) (v := (0, 1)) (st2 := [(0, 1)]) (jA_186_8 (d := 0)) (by rfl) (by rfl) (by decide +kernel) (by rfl) (by rfl) (by omega) (by omega) (by omega) (by omega) rfl ?_
  refine jT_xiload (v := (0, 1)) (pcN := 1437) jI_379_1435 rfl rfl rfl ?_
  refine jT_xicT (pcN := 1442) jI_379_1437 rfl (by decide +kernel) rfl ?_
  refine jT_xiload (v := (0, 1)) (pcN := 1444) jI_379_1442 rfl rfl rfl ?_
  refine jT_xifT (pcN := 1459) jI_379_1444 rfl (by decide +kernel) rfl ?_
  refine jT_xgoto (pcN := 3740) jI_379_1459 rfl ?_
  refine jT_xiinc (x := 0) (z := 5) (LN := [(5, (0, 5)), (7, (0, 0)), (6, (0, 1)), (4, (4, 3)), (3, (4, 2)), (2, (4, 1)), (1, (4, 0)), (0, (6, 0))]) (pcN := 3743) jI_379_3740 rfl rfl (by decide) rfl rfl ?_
  refine jT_xgoto (pcN := 28) jI_379_3743 rfl ?_
  refine jT_xiload (v := (0, 5)) (pcN := 30) jI_379_28 rfl rfl rfl ?_
  refine jT_xaload_n (v := (6, 0)) (pcN := 31) jI_379_30 rfl rfl rfl ?_
  refine jT_adv 1 (pcN := 32) (LN := [(5, (0, 5)), (7, (0, 0)), (6, (0, 1)), (4, (4, 3)), (3, (4, 2)), (2, (4, 1)), (1, (4, 0)), (0, (6, 0))]) (stN := [(0, 5), (0, 5)]) (hsN := jpA_306) (c1 := 0) (s1 := 0) (c2 := 0) (s2 := 0) (by exact rfl) ?_ (by omega) (by omega)
  refine jT_xiconst (k := 5) (pcN := 33) jI_379_32 rfl ?_
  refine jT_xisub (x := 5) (y := 5) (z := 0) (pcN := 34) jI_379_33 rfl (by decide) rfl ?_
  refine jT_xicT (pcN := 3746) jI_379_34 rfl (by decide +kernel) rfl ?_
  refine jT_xiconst (k := 1) (pcN := 3747) jI_379_3746 rfl ?_
  exact jT_ret rfl (by decide) (by show 30 ≤ 30; decide) (by omega) (by omega) ⟨rfl, rfl⟩
set_option maxRecDepth 100000 in
theorem jL_14_1 {d : Nat} {x0 x1 x2 x3 x4 : Int} (h_x0 : (-2147483648) ≤ x0 ∧ x0 ≤ 2147483647) (h_x1 : 0 ≤ x1 ∧ x1 ≤ 11) (h_x2 : (-2147483648) ≤ x2 ∧ x2 ≤ (-25)) (h_x3 : (-2147483648) ≤ x3 ∧ x3 ≤ 2147483647) (h_x4 : (-2147483648) ≤ x4 ∧ x4 ≤ 2147483647) : jT [x0, x1, x2, x3, x4] (d + 3) 379 30 1394 [(5, (0, 0)), (4, (4, 3)), (3, (4, 2)), (2, (4, 1)), (1, (4, 0)), (0, (6, 0))] [] jpA_267 1 6 (fun k v hsN => k = 0 ∧ v = (0, 1)) := by
  refine jT_xaload_n (v := (4, 0)) (pcN := 1395) jI_379_1394 rfl rfl rfl ?_
  refine jT_xaload_n (v := (6, 0)) (pcN := 1396) jI_379_1395 rfl rfl rfl ?_
  refine jT_xiload (v := (0, 0)) (pcN := 1398) jI_379_1396 rfl rfl rfl ?_
  refine jT_xiconst (k := 1) (pcN := 1399) jI_379_1398 rfl ?_
  refine jT_xiadd (x := 0) (y := 1) (z := 1) (pcN := 1400) jI_379_1399 rfl (by decide) rfl ?_
  refine jT_adv 1 (pcN := 1401) (LN := [(5, (0, 0)), (4, (4, 3)), (3, (4, 2)), (2, (4, 1)), (1, (4, 0)), (0, (6, 0))]) (stN := [(0, x1), (4, 0)]) (hsN := jpA_267) (c1 := 0) (s1 := 0) (c2 := 1) (s2 := 6) (by exact rfl) ?_ (by omega) (by omega)
  refine jT_xaload_n (v := (6, 0)) (pcN := 1402) jI_379_1401 rfl rfl rfl ?_
  refine jT_xiload (v := (0, 0)) (pcN := 1404) jI_379_1402 rfl rfl rfl ?_
  refine jT_xiconst (k := 2) (pcN := 1405) jI_379_1404 rfl ?_
  refine jT_xiadd (x := 0) (y := 2) (z := 2) (pcN := 1406) jI_379_1405 rfl (by decide) rfl ?_
  refine jT_adv 1 (pcN := 1407) (LN := [(5, (0, 0)), (4, (4, 3)), (3, (4, 2)), (2, (4, 1)), (1, (4, 0)), (0, (6, 0))]) (stN := [(0, x2), (0, x1), (4, 0)]) (hsN := jpA_267) (c1 := 0) (s1 := 0) (c2 := 1) (s2 := 6) (by exact rfl) ?_ (by omega) (by omega)
  refine jT_xaload_n (v := (4, 2)) (pcN := 1408) jI_379_1407 rfl rfl rfl ?_
  refine jT_fR [0, 2, 4, 5, 6, 7, 8, 9, 10, 11, 12, 13, 14] 30 (y := 340) (pcN := 1411) (dC := 2) (bc1 := 1) (bc2 := 6) (c1 := 0) (c2 := 0) (as := [(4, 0), (0, x1), (0, x2), (4, 2)]) (asC := [(4, 0), (0, x1), (0, x2), (4, 1)]) (LN := [(5, (0, 0)), (4, (4, 3)), (3, (4, 2)), (2, (4, 1)), (1, (4, 0)), (0, (6, 0))]) (stN := []) (hsC := jpA_15) (v := (0, 2)) (st2 := [(0, 2)]) (jA_340_624 (d := 0) (by omega) (by omega)) (by rfl) (by rfl) (by decide +kernel) (by rfl) (by rfl) (by omega) (by omega) (by omega) (by omega) rfl ?_
  refine jT_xistore (v := (0, 2)) (LN := [(6, (0, 2)), (5, (0, 0)), (4, (4, 3)), (3, (4, 2)), (2, (4, 1)), (1, (4, 0)), (0, (6, 0))]) (pcN := 1413) jI_379_1411 rfl rfl rfl rfl ?_
  refine jT_xaload_n (v := (4, 1)) (pcN := 1414) jI_379_1413 rfl rfl rfl ?_
  refine jT_xaload_n (v := (6, 0)) (pcN := 1415) jI_379_1414 rfl rfl rfl ?_
  refine jT_xiload (v := (0, 0)) (pcN := 1417) jI_379_1415 rfl rfl rfl ?_
  refine jT_xiconst (k := 1) (pcN := 1418) jI_379_1417 rfl ?_
  refine jT_xiadd (x := 0) (y := 1) (z := 1) (pcN := 1419) jI_379_1418 rfl (by decide) rfl ?_
  refine jT_adv 1 (pcN := 1420) (LN := [(6, (0, 2)), (5, (0, 0)), (4, (4, 3)), (3, (4, 2)), (2, (4, 1)), (1, (4, 0)), (0, (6, 0))]) (stN := [(0, x1), (4, 1)]) (hsN := jpA_267) (c1 := 0) (s1 := 0) (c2 := 0) (s2 := 0) (by exact rfl) ?_ (by omega) (by omega)
  refine jT_xaload_n (v := (6, 0)) (pcN := 1421) jI_379_1420 rfl rfl rfl ?_
  refine jT_xiload (v := (0, 0)) (pcN := 1423) jI_379_1421 rfl rfl rfl ?_
  refine jT_xiconst (k := 2) (pcN := 1424) jI_379_1423 rfl ?_
  refine jT_xiadd (x := 0) (y := 2) (z := 2) (pcN := 1425) jI_379_1424 rfl (by decide) rfl ?_
  refine jT_adv 1 (pcN := 1426) (LN := [(6, (0, 2)), (5, (0, 0)), (4, (4, 3)), (3, (4, 2)), (2, (4, 1)), (1, (4, 0)), (0, (6, 0))]) (stN := [(0, x2), (0, x1), (4, 1)]) (hsN := jpA_267) (c1 := 0) (s1 := 0) (c2 := 0) (s2 := 0) (by exact rfl) ?_ (by omega) (by omega)
  refine jT_fB [1, 15, 16, 17, 18, 19, 20, 21, 22, 23, 24, 25, 26, 27, 28, 29] 30 (y := 253) (pcN := 1429) (dC := 2) (bc1 := 0) (bc2 := 0) (c1 := 0) (c2 := 0) (as := [(4, 1), (0, x1), (0, x2)]) (asC := [(4, 0), (0, x1), (0, x2)]) (LN := [(6, (0, 2)), (5, (0, 0)), (4, (4, 3)), (3, (4, 2)), (2, (4, 1)), (1, (4, 0)), (0, (6, 0))]) (stN := []) (hsC := jpA_22) (hsD := jpA_361) (v := (0, 0)) (st2 := [(0, 0)]) (hs2 := jpA_607) (jA_253_626 (d := 0) (by omega) (by omega)) (by rfl) (by rfl) (by decide +kernel) (by rfl) (by rfl) (by omega) (by omega) (by omega) (by omega) rfl (by decide +kernel) ?_
  refine jT_xistore (v := (0, 0)) (LN := [(7, (0, 0)), (6, (0, 2)), (5, (0, 0)), (4, (4, 3)), (3, (4, 2)), (2, (4, 1)), (1, (4, 0)), (0, (6, 0))]) (pcN := 1431) jI_379_1429 rfl rfl rfl rfl ?_
  refine jT_xaload_n (v := (4, 1)) (pcN := 1432) jI_379_1431 rfl rfl rfl ?_
  refine jT_fR [1, 15, 16, 17, 18, 19, 20, 21, 22, 23, 24, 25, 26, 27, 28, 29] 30 (y := 186) (pcN := 1435) (dC := 0) (bc1 := 0) (bc2 := 0) (c1 := 0) (c2 := 0) (as := [(4, 1)]) (asC := [(4, 0)]) (LN := [(7, (0, 0)), (6, (0, 2)), (5, (0, 0)), (4, (4, 3)), (3, (4, 2)), (2, (4, 1)), (1, (4, 0)), (0, (6, 0))]) (stN := []) (hsC := jpA_361) (v := (0, 2)) (st2 := [(0, 2)]) (jA_186_101 (d := 0)) (by rfl) (by rfl) (by decide +kernel) (by rfl) (by rfl) (by omega) (by omega) (by omega) (by omega) rfl ?_
  refine jT_xiload (v := (0, 2)) (pcN := 1437) jI_379_1435 rfl rfl rfl ?_
  refine jT_xicT (pcN := 1442) jI_379_1437 rfl (by decide +kernel) rfl ?_
  refine jT_xiload (v := (0, 2)) (pcN := 1444) jI_379_1442 rfl rfl rfl ?_
  refine jT_xifT (pcN := 1459) jI_379_1444 rfl (by decide +kernel) rfl ?_
  refine jT_xgoto (pcN := 3740) jI_379_1459 rfl ?_
  refine jT_xiinc (x := 0) (z := 5) (LN := [(5, (0, 5)), (7, (0, 0)), (6, (0, 2)), (4, (4, 3)), (3, (4, 2)), (2, (4, 1)), (1, (4, 0)), (0, (6, 0))]) (pcN := 3743) jI_379_3740 rfl rfl (by decide) rfl rfl ?_
  refine jT_xgoto (pcN := 28) jI_379_3743 rfl ?_
  refine jT_xiload (v := (0, 5)) (pcN := 30) jI_379_28 rfl rfl rfl ?_
  refine jT_xaload_n (v := (6, 0)) (pcN := 31) jI_379_30 rfl rfl rfl ?_
  refine jT_adv 1 (pcN := 32) (LN := [(5, (0, 5)), (7, (0, 0)), (6, (0, 2)), (4, (4, 3)), (3, (4, 2)), (2, (4, 1)), (1, (4, 0)), (0, (6, 0))]) (stN := [(0, 5), (0, 5)]) (hsN := jpA_607) (c1 := 0) (s1 := 0) (c2 := 0) (s2 := 0) (by exact rfl) ?_ (by omega) (by omega)
  refine jT_xiconst (k := 5) (pcN := 33) jI_379_32 rfl ?_
  refine jT_xisub (x := 5) (y := 5) (z := 0) (pcN := 34) jI_379_33 rfl (by decide) rfl ?_
  refine jT_xicT (pcN := 3746) jI_379_34 rfl (by decide +kernel) rfl ?_
  refine jT_xiconst (k := 1) (pcN := 3747) jI_379_3746 rfl ?_
  exact jT_ret rfl (by decide) (by show 30 ≤ 30; decide) (by omega) (by omega) ⟨rfl, rfl⟩
def jpA_2460 : List JC := [jzA_265, jzA_266, (101, [], [0]), jgh, jgh, jgh, jgh, jgh, jgh, jgh, jgh, jgh, jgh, jzA_79, jzA_322, (100, [], jS0), (100, [], []), jzA_323, jzA_197, jgh, jgh, jgh, jgh, jgh, jgh, jgh, jgh, jgh, jgh, jgh, jgh, jgh, jgh, jzA_2380, jgh, (100, [], (List.replicate 1613 0)), jgh, jgh, jgh, jgh, jgh, jgh, jgh]
def jzA_2461 : JC := (13, [(4, 4), (4, 5), (4, 6), (4, 7), (4, 8), (4, 9), (4, 10), (4, 11), (4, 12), (4, 13), (0, 1), (4, 44), (0, 0)], [])
def jzA_2462 : JC := (9, [(4, 30), (4, 31), (4, 32), (4, 43), (4, 34)], [])
theorem jI_379_1447 : jmI (jm 379) 1447 = (.aload_n 3, 1) := by rfl
theorem jI_379_1448 : jmI (jm 379) 1448 = (.iconst 0, 1) := by rfl
theorem jI_379_1449 : jmI (jm 379) 1449 = (.laload, 1) := by rfl
theorem jI_379_1450 : jmI (jm 379) 1450 = (.iload 7, 2) := by rfl
theorem jI_379_1452 : jmI (jm 379) 1452 = (.i2l, 1) := by rfl
theorem jI_379_1454 : jmI (jm 379) 1454 = (.ifCond .eq 5, 3) := by rfl
set_option maxRecDepth 100000 in
theorem jL_14_2 {d : Nat} {x0 x1 x2 x3 x4 : Int} (h_x0 : (-2147483648) ≤ x0 ∧ x0 ≤ 2147483647) (h_x1 : 0 ≤ x1 ∧ x1 ≤ 11) (h_x2 : (-24) ≤ x2 ∧ x2 ≤ 24) (h_x3 : (-2147483648) ≤ x3 ∧ x3 ≤ 2147483647) (h_x4 : (-2147483648) ≤ x4 ∧ x4 ≤ 2147483647) : jT [x0, x1, x2, x3, x4] (d + 4) 379 43 1394 [(5, (0, 0)), (4, (4, 3)), (3, (4, 2)), (2, (4, 1)), (1, (4, 0)), (0, (6, 0))] [] jpA_2460 2 17 (fun k v hsN => k = 0 ∧ v = (0, 1)) := by
  refine jT_xaload_n (v := (4, 0)) (pcN := 1395) jI_379_1394 rfl rfl rfl ?_
  refine jT_xaload_n (v := (6, 0)) (pcN := 1396) jI_379_1395 rfl rfl rfl ?_
  refine jT_xiload (v := (0, 0)) (pcN := 1398) jI_379_1396 rfl rfl rfl ?_
  refine jT_xiconst (k := 1) (pcN := 1399) jI_379_1398 rfl ?_
  refine jT_xiadd (x := 0) (y := 1) (z := 1) (pcN := 1400) jI_379_1399 rfl (by decide) rfl ?_
  refine jT_adv 1 (pcN := 1401) (LN := [(5, (0, 0)), (4, (4, 3)), (3, (4, 2)), (2, (4, 1)), (1, (4, 0)), (0, (6, 0))]) (stN := [(0, x1), (4, 0)]) (hsN := jpA_2460) (c1 := 0) (s1 := 0) (c2 := 2) (s2 := 17) (by exact rfl) ?_ (by omega) (by omega)
  refine jT_xaload_n (v := (6, 0)) (pcN := 1402) jI_379_1401 rfl rfl rfl ?_
  refine jT_xiload (v := (0, 0)) (pcN := 1404) jI_379_1402 rfl rfl rfl ?_
  refine jT_xiconst (k := 2) (pcN := 1405) jI_379_1404 rfl ?_
  refine jT_xiadd (x := 0) (y := 2) (z := 2) (pcN := 1406) jI_379_1405 rfl (by decide) rfl ?_
  refine jT_adv 1 (pcN := 1407) (LN := [(5, (0, 0)), (4, (4, 3)), (3, (4, 2)), (2, (4, 1)), (1, (4, 0)), (0, (6, 0))]) (stN := [(0, x2), (0, x1), (4, 0)]) (hsN := jpA_2460) (c1 := 0) (s1 := 0) (c2 := 2) (s2 := 17) (by exact rfl) ?_ (by omega) (by omega)
  refine jT_xaload_n (v := (4, 2)) (pcN := 1408) jI_379_1407 rfl rfl rfl ?_
  refine jT_fB [0, 2, 4, 5, 6, 7, 8, 9, 10, 11, 12, 13, 14, 30, 31, 32, 33, 34] 43 (y := 340) (pcN := 1411) (dC := 3) (bc1 := 2) (bc2 := 17) (c1 := 0) (c2 := 0) (as := [(4, 0), (0, x1), (0, x2), (4, 2)]) (asC := [(4, 0), (0, x1), (0, x2), (4, 1)]) (LN := [(5, (0, 0)), (4, (4, 3)), (3, (4, 2)), (2, (4, 1)), (1, (4, 0)), (0, (6, 0))]) (stN := []) (hsC := jpA_2417) (hsD := [jzA_2412, (101, [], [0]), jgh, jgh, jgh, jgh, jgh, jgh, jgh, jgh, jgh, jzA_76, jzA_77, jgh, jgh, jgh, jzA_2380, jgh, (100, [], (([0, 0, 0, 0, 0, 0, 0, 0, 0, 0, 0, 0]).set ((x1).toNat) x2)), jzA_2413]) (v := (0, 0)) (st2 := [(0, 0)]) (hs2 := [jzA_2461, jzA_266, (101, [], [0]), jgh, jgh, jgh, jgh, jgh, jgh, jgh, jgh, jgh, jgh, jzA_327, jzA_322, (100, [], jS0), (100, [], []), jzA_323, jzA_197, jgh, jgh, jgh, jgh, jgh, jgh, jgh, jgh, jgh, jgh, jgh, jgh, jgh, jgh, jzA_2380, jgh, (100, [], (List.replicate 1613 0)), jgh, jgh, jgh, jgh, jgh, jgh, jgh, (100, [], (([0, 0, 0, 0, 0, 0, 0, 0, 0, 0, 0, 0]).set ((x1).toNat) x2)), jzA_2462]) (jA_340_631 (d := 0) (by omega) (by omega)) (by rfl) (by rfl) (by decide +kernel) (by rfl) (by rfl) (by omega) (by omega) (by omega) (by omega) rfl rfl ?_
  refine jT_xistore (v := (0, 0)) (LN := [(6, (0, 0)), (5, (0, 0)), (4, (4, 3)), (3, (4, 2)), (2, (4, 1)), (1, (4, 0)), (0, (6, 0))]) (pcN := 1413) jI_379_1411 rfl rfl rfl rfl ?_
  refine jT_xaload_n (v := (4, 1)) (pcN := 1414) jI_379_1413 rfl rfl rfl ?_
  refine jT_xaload_n (v := (6, 0)) (pcN := 1415) jI_379_1414 rfl rfl rfl ?_
  refine jT_xiload (v := (0, 0)) (pcN := 1417) jI_379_1415 rfl rfl rfl ?_
  refine jT_xiconst (k := 1) (pcN := 1418) jI_379_1417 rfl ?_
  refine jT_xiadd (x := 0) (y := 1) (z := 1) (pcN := 1419) jI_379_1418 rfl (by decide) rfl ?_
  refine jT_adv 1 (pcN := 1420) (LN := [(6, (0, 0)), (5, (0, 0)), (4, (4, 3)), (3, (4, 2)), (2, (4, 1)), (1, (4, 0)), (0, (6, 0))]) (stN := [(0, x1), (4, 1)]) (hsN := [jzA_2461, jzA_266, (101, [], [0]), jgh, jgh, jgh, jgh, jgh, jgh, jgh, jgh, jgh, jgh, jzA_327, jzA_322, (100, [], jS0), (100, [], []), jzA_323, jzA_197, jgh, jgh, jgh, jgh, jgh, jgh, jgh, jgh, jgh, jgh, jgh, jgh, jgh, jgh, jzA_2380, jgh, (100, [], (List.replicate 1613 0)), jgh, jgh, jgh, jgh, jgh, jgh, jgh, (100, [], (([0, 0, 0, 0, 0, 0, 0, 0, 0, 0, 0, 0]).set ((x1).toNat) x2)), jzA_2462]) (c1 := 0) (s1 := 0) (c2 := 0) (s2 := 0) (by exact rfl) ?_ (by omega) (by omega)
  refine jT_xaload_n (v := (6, 0)) (pcN := 1421) jI_379_1420 rfl rfl rfl ?_
  refine jT_xiload (v := (0, 0)) (pcN := 1423) jI_379_1421 rfl rfl rfl ?_
  refine jT_xiconst (k := 2) (pcN := 1424) jI_379_1423 rfl ?_
  refine jT_xiadd (x := 0) (y := 2) (z := 2) (pcN := 1425) jI_379_1424 rfl (by decide) rfl ?_
  refine jT_adv 1 (pcN := 1426) (LN := [(6, (0, 0)), (5, (0, 0)), (4, (4, 3)), (3, (4, 2)), (2, (4, 1)), (1, (4, 0)), (0, (6, 0))]) (stN := [(0, x2), (0, x1), (4, 1)]) (hsN := [jzA_2461, jzA_266, (101, [], [0]), jgh, jgh, jgh, jgh, jgh, jgh, jgh, jgh, jgh, jgh, jzA_327, jzA_322, (100, [], jS0), (100, [], []), jzA_323, jzA_197, jgh, jgh, jgh, jgh, jgh, jgh, jgh, jgh, jgh, jgh, jgh, jgh, jgh, jgh, jzA_2380, jgh, (100, [], (List.replicate 1613 0)), jgh, jgh, jgh, jgh, jgh, jgh, jgh, (100, [], (([0, 0, 0, 0, 0, 0, 0, 0, 0, 0, 0, 0]).set ((x1).toNat) x2)), jzA_2462]) (c1 := 0) (s1 := 0) (c2 := 0) (s2 := 0) (by exact rfl) ?_ (by omega) (by omega)
  refine jT_callB [1, 15, 16, 17, 18, 19, 20, 21, 22, 23, 24, 25, 26, 27, 28, 29, 35, 36, 37, 38, 39, 40, 41, 42] (y := 253) (pcN := 1429) (dC := 2) (bc1 := 0) (bc2 := 0) (c1 := 0) (c2 := 0) (as := [(4, 1), (0, x1), (0, x2)]) (asC := [(4, 0), (0, x1), (0, x2)]) (LN := [(6, (0, 0)), (5, (0, 0)), (4, (4, 3)), (3, (4, 2)), (2, (4, 1)), (1, (4, 0)), (0, (6, 0))]) (stN := []) (hsC := jpA_198) (hsD := [jzA_200, (100, [], ((jS0).set ((x1 + 1180).toNat) x2)), (100, [], []), jzA_196, jzA_201, jgh, jgh, jgh, jgh, jgh, jgh, jgh, jgh, jgh, jgh, jgh, (100, [], jS0), jgh, jgh, jgh, jgh, jgh, jgh, jgh]) (v := (0, 0)) (st2 := [(0, 0)]) (hs2 := [jzA_2461, jzA_330, (101, [], [0]), jgh, jgh, jgh, jgh, jgh, jgh, jgh, jgh, jgh, jgh, jzA_327, jzA_322, (100, [], ((jS0).set ((x1 + 1180).toNat) x2)), (100, [], []), jzA_323, jzA_331, jgh, jgh, jgh, jgh, jgh, jgh, jgh, jgh, jgh, jgh, jgh, jgh, jgh, jgh, jzA_2380, jgh, (100, [], jS0), jgh, jgh, jgh, jgh, jgh, jgh, jgh, (100, [], (([0, 0, 0, 0, 0, 0, 0, 0, 0, 0, 0, 0]).set ((x1).toNat) x2)), jzA_2462]) (jA_253_632 (d := 0) (by omega) (by omega)) (by rfl) (by rfl) (by rfl) (by rfl) ⟨rfl, rfl, rfl, rfl, rfl, rfl, rfl, rfl, rfl, rfl, rfl, rfl, rfl, rfl, rfl, rfl, rfl, rfl, rfl, rfl, rfl, rfl, rfl, rfl, trivial⟩ (by rfl) (by rfl) (by omega) (by show 43 ≤ 45; omega) (by omega) (by omega) rfl rfl ?_
  refine jT_xistore (v := (0, 0)) (LN := [(7, (0, 0)), (6, (0, 0)), (5, (0, 0)), (4, (4, 3)), (3, (4, 2)), (2, (4, 1)), (1, (4, 0)), (0, (6, 0))]) (pcN := 1431) jI_379_1429 rfl rfl rfl rfl ?_
  refine jT_xaload_n (v := (4, 1)) (pcN := 1432) jI_379_1431 rfl rfl rfl ?_
  refine jT_callA [1, 15, 16, 17, 18, 19, 20, 21, 22, 23, 24, 25, 26, 27, 28, 29] (y := 186) (pcN := 1435) (dC := 0) (bc1 := 0) (bc2 := 0) (c1 := 0) (c2 := 0) (as := [(4, 1)]) (asC := [(4, 0)]) (LN := [(7, (0, 0)), (6, (0, 0)), (5, (0, 0)), (4, (4, 3)), (3, (4, 2)), (2, (4, 1)), (1, (4, 0)), (0, (6, 0))]) (stN := []) (hsC := jpA_258) (ex := []) (v := (0, 0)) (st2 := [(0, 0)]) (hs2 := [jzA_2461, jzA_330, (101, [], [0]), jgh, jgh, jgh, jgh, jgh, jgh, jgh, jgh, jgh, jgh, jzA_327, jzA_322, (100, [], ((jS0).set ((x1 + 1180).toNat) x2)), (100, [], []), jzA_323, jzA_331, jgh, jgh, jgh, jgh, jgh, jgh, jgh, jgh, jgh, jgh, jgh, jgh, jgh, jgh, jzA_2380, jgh, (100, [], jS0), jgh, jgh, jgh, jgh, jgh, jgh, jgh, (100, [], (([0, 0, 0, 0, 0, 0, 0, 0, 0, 0, 0, 0]).set ((x1).toNat) x2)), jzA_2462]) (jA_186_54 (d := 0)) (by rfl) (by rfl) (by rfl) (by rfl) ⟨rfl, rfl, rfl, rfl, rfl, rfl, rfl, rfl, rfl, rfl, rfl, rfl, rfl, rfl, rfl, rfl, trivial⟩ (by rfl) (by rfl) (by omega) (by show 43 ≤ 45; omega) (by omega) (by omega) rfl rfl ?_
  refine jT_xiload (v := (0, 0)) (pcN := 1437) jI_379_1435 rfl rfl rfl ?_
  refine jT_xicT (pcN := 1442) jI_379_1437 rfl (by decide +kernel) rfl ?_
  refine jT_xiload (v := (0, 0)) (pcN := 1444) jI_379_1442 rfl rfl rfl ?_
  refine jT_xifF (t := 1459) (pcN := 1447) jI_379_1444 rfl (by decide +kernel) rfl rfl ?_
  refine jT_xaload_n (v := (4, 2)) (pcN := 1448) jI_379_1447 rfl rfl rfl ?_
  refine jT_xiconst (k := 0) (pcN := 1449) jI_379_1448 rfl ?_
  refine jT_lald (x := 0) (a := 2) (j := 0) (fs := []) (X := [0]) jI_379_1449 rfl rfl rfl rfl ?_
  refine jT_eq (LN := [(7, (0, 0)), (6, (0, 0)), (5, (0, 0)), (4, (4, 3)), (3, (4, 2)), (2, (4, 1)), (1, (4, 0)), (0, (6, 0))]) (stN := [(1, 0)]) (hsN := [jzA_2461, jzA_330, (101, [], [0]), jgh, jgh, jgh, jgh, jgh, jgh, jgh, jgh, jgh, jgh, jzA_327, jzA_322, (100, [], ((jS0).set ((x1 + 1180).toNat) x2)), (100, [], []), jzA_323, jzA_331, jgh, jgh, jgh, jgh, jgh, jgh, jgh, jgh, jgh, jgh, jgh, jgh, jgh, jgh, jzA_2380, jgh, (100, [], jS0), jgh, jgh, jgh, jgh, jgh, jgh, jgh, (100, [], (([0, 0, 0, 0, 0, 0, 0, 0, 0, 0, 0, 0]).set ((x1).toNat) x2)), jzA_2462]) rfl rfl rfl ?_
  refine jT_xiload (v := (0, 0)) (pcN := 1452) jI_379_1450 rfl rfl rfl ?_
  refine jT_xi2l (x := 0) (z := 0) (pcN := 1453) jI_379_1452 rfl (by decide +kernel) rfl ?_
  refine jT_lcmp (a := 0) (b := 0) (z := 0) (by rfl) (by rfl) (by decide +kernel) (by decide +kernel) (by decide) ?_
  refine jT_xifT (pcN := 1459) jI_379_1454 rfl (by decide +kernel) rfl ?_
  refine jT_xgoto (pcN := 3740) jI_379_1459 rfl ?_
  refine jT_xiinc (x := 0) (z := 5) (LN := [(5, (0, 5)), (7, (0, 0)), (6, (0, 0)), (4, (4, 3)), (3, (4, 2)), (2, (4, 1)), (1, (4, 0)), (0, (6, 0))]) (pcN := 3743) jI_379_3740 rfl rfl (by decide) rfl rfl ?_
  refine jT_xgoto (pcN := 28) jI_379_3743 rfl ?_
  refine jT_xiload (v := (0, 5)) (pcN := 30) jI_379_28 rfl rfl rfl ?_
  refine jT_xaload_n (v := (6, 0)) (pcN := 31) jI_379_30 rfl rfl rfl ?_
  refine jT_adv 1 (pcN := 32) (LN := [(5, (0, 5)), (7, (0, 0)), (6, (0, 0)), (4, (4, 3)), (3, (4, 2)), (2, (4, 1)), (1, (4, 0)), (0, (6, 0))]) (stN := [(0, 5), (0, 5)]) (hsN := [jzA_2461, jzA_330, (101, [], [0]), jgh, jgh, jgh, jgh, jgh, jgh, jgh, jgh, jgh, jgh, jzA_327, jzA_322, (100, [], ((jS0).set ((x1 + 1180).toNat) x2)), (100, [], []), jzA_323, jzA_331, jgh, jgh, jgh, jgh, jgh, jgh, jgh, jgh, jgh, jgh, jgh, jgh, jgh, jgh, jzA_2380, jgh, (100, [], jS0), jgh, jgh, jgh, jgh, jgh, jgh, jgh, (100, [], (([0, 0, 0, 0, 0, 0, 0, 0, 0, 0, 0, 0]).set ((x1).toNat) x2)), jzA_2462]) (c1 := 0) (s1 := 0) (c2 := 0) (s2 := 0) (by exact rfl) ?_ (by omega) (by omega)
  refine jT_xiconst (k := 5) (pcN := 33) jI_379_32 rfl ?_
  refine jT_xisub (x := 5) (y := 5) (z := 0) (pcN := 34) jI_379_33 rfl (by decide) rfl ?_
  refine jT_xicT (pcN := 3746) jI_379_34 rfl (by decide +kernel) rfl ?_
  refine jT_xiconst (k := 1) (pcN := 3747) jI_379_3746 rfl ?_
  exact jT_ret rfl (by decide) (by show 43 ≤ 45; decide) (by omega) (by omega) ⟨rfl, rfl⟩
set_option maxRecDepth 100000 in
theorem jL_14_3 {d : Nat} {x0 x1 x2 x3 x4 : Int} (h_x0 : (-2147483648) ≤ x0 ∧ x0 ≤ 2147483647) (h_x1 : 0 ≤ x1 ∧ x1 ≤ 11) (h_x2 : 25 ≤ x2 ∧ x2 ≤ 2147483647) (h_x3 : (-2147483648) ≤ x3 ∧ x3 ≤ 2147483647) (h_x4 : (-2147483648) ≤ x4 ∧ x4 ≤ 2147483647) : jT [x0, x1, x2, x3, x4] (d + 3) 379 30 1394 [(5, (0, 0)), (4, (4, 3)), (3, (4, 2)), (2, (4, 1)), (1, (4, 0)), (0, (6, 0))] [] jpA_267 1 6 (fun k v hsN => k = 0 ∧ v = (0, 1)) := by
  refine jT_xaload_n (v := (4, 0)) (pcN := 1395) jI_379_1394 rfl rfl rfl ?_
  refine jT_xaload_n (v := (6, 0)) (pcN := 1396) jI_379_1395 rfl rfl rfl ?_
  refine jT_xiload (v := (0, 0)) (pcN := 1398) jI_379_1396 rfl rfl rfl ?_
  refine jT_xiconst (k := 1) (pcN := 1399) jI_379_1398 rfl ?_
  refine jT_xiadd (x := 0) (y := 1) (z := 1) (pcN := 1400) jI_379_1399 rfl (by decide) rfl ?_
  refine jT_adv 1 (pcN := 1401) (LN := [(5, (0, 0)), (4, (4, 3)), (3, (4, 2)), (2, (4, 1)), (1, (4, 0)), (0, (6, 0))]) (stN := [(0, x1), (4, 0)]) (hsN := jpA_267) (c1 := 0) (s1 := 0) (c2 := 1) (s2 := 6) (by exact rfl) ?_ (by omega) (by omega)
  refine jT_xaload_n (v := (6, 0)) (pcN := 1402) jI_379_1401 rfl rfl rfl ?_
  refine jT_xiload (v := (0, 0)) (pcN := 1404) jI_379_1402 rfl rfl rfl ?_
  refine jT_xiconst (k := 2) (pcN := 1405) jI_379_1404 rfl ?_
  refine jT_xiadd (x := 0) (y := 2) (z := 2) (pcN := 1406) jI_379_1405 rfl (by decide) rfl ?_
  refine jT_adv 1 (pcN := 1407) (LN := [(5, (0, 0)), (4, (4, 3)), (3, (4, 2)), (2, (4, 1)), (1, (4, 0)), (0, (6, 0))]) (stN := [(0, x2), (0, x1), (4, 0)]) (hsN := jpA_267) (c1 := 0) (s1 := 0) (c2 := 1) (s2 := 6) (by exact rfl) ?_ (by omega) (by omega)
  refine jT_xaload_n (v := (4, 2)) (pcN := 1408) jI_379_1407 rfl rfl rfl ?_
  refine jT_fR [0, 2, 4, 5, 6, 7, 8, 9, 10, 11, 12, 13, 14] 30 (y := 340) (pcN := 1411) (dC := 2) (bc1 := 1) (bc2 := 6) (c1 := 0) (c2 := 0) (as := [(4, 0), (0, x1), (0, x2), (4, 2)]) (asC := [(4, 0), (0, x1), (0, x2), (4, 1)]) (LN := [(5, (0, 0)), (4, (4, 3)), (3, (4, 2)), (2, (4, 1)), (1, (4, 0)), (0, (6, 0))]) (stN := []) (hsC := jpA_15) (v := (0, 2)) (st2 := [(0, 2)]) (jA_340_635 (d := 0) (by omega) (by omega)) (by rfl) (by rfl) (by decide +kernel) (by rfl) (by rfl) (by omega) (by omega) (by omega) (by omega) rfl ?_
  refine jT_xistore (v := (0, 2)) (LN := [(6, (0, 2)), (5, (0, 0)), (4, (4, 3)), (3, (4, 2)), (2, (4, 1)), (1, (4, 0)), (0, (6, 0))]) (pcN := 1413) jI_379_1411 rfl rfl rfl rfl ?_
  refine jT_xaload_n (v := (4, 1)) (pcN := 1414) jI_379_1413 rfl rfl rfl ?_
  refine jT_xaload_n (v := (6, 0)) (pcN := 1415) jI_379_1414 rfl rfl rfl ?_
  refine jT_xiload (v := (0, 0)) (pcN := 1417) jI_379_1415 rfl rfl rfl ?_
  refine jT_xiconst (k := 1) (pcN := 1418) jI_379_1417 rfl ?_
  refine jT_xiadd (x := 0) (y := 1) (z := 1) (pcN := 1419) jI_379_1418 rfl (by decide) rfl ?_
  refine jT_adv 1 (pcN := 1420) (LN := [(6, (0, 2)), (5, (0, 0)), (4, (4, 3)), (3, (4, 2)), (2, (4, 1)), (1, (4, 0)), (0, (6, 0))]) (stN := [(0, x1), (4, 1)]) (hsN := jpA_267) (c1 := 0) (s1 := 0) (c2 := 0) (s2 := 0) (by exact rfl) ?_ (by omega) (by omega)
  refine jT_xaload_n (v := (6, 0)) (pcN := 1421) jI_379_1420 rfl rfl rfl ?_
  refine jT_xiload (v := (0, 0)) (pcN := 1423) jI_379_1421 rfl rfl rfl ?_
  refine jT_xiconst (k := 2) (pcN := 1424) jI_379_1423 rfl ?_
  refine jT_xiadd (x := 0) (y := 2) (z := 2) (pcN := 1425) jI_379_1424 rfl (by decide) rfl ?_
  refine jT_adv 1 (pcN := 1426) (LN := [(6, (0, 2)), (5, (0, 0)), (4, (4, 3)), (3, (4, 2)), (2, (4, 1)), (1, (4, 0)), (0, (6, 0))]) (stN := [(0, x2), (0, x1), (4, 1)]) (hsN := jpA_267) (c1 := 0) (s1 := 0) (c2 := 0) (s2 := 0) (by exact rfl) ?_ (by omega) (by omega)
  refine jT_fB [1, 15, 16, 17, 18, 19, 20, 21, 22, 23, 24, 25, 26, 27, 28, 29] 30 (y := 253) (pcN := 1429) (dC := 2) (bc1 := 0) (bc2 := 0) (c1 := 0) (c2 := 0) (as := [(4, 1), (0, x1), (0, x2)]) (asC := [(4, 0), (0, x1), (0, x2)]) (LN := [(6, (0, 2)), (5, (0, 0)), (4, (4, 3)), (3, (4, 2)), (2, (4, 1)), (1, (4, 0)), (0, (6, 0))]) (stN := []) (hsC := jpA_22) (hsD := jpA_361) (v := (0, 0)) (st2 := [(0, 0)]) (hs2 := jpA_607) (jA_253_636 (d := 0) (by omega) (by omega)) (by rfl) (by rfl) (by decide +kernel) (by rfl) (by rfl) (by omega) (by omega) (by omega) (by omega) rfl (by decide +kernel) ?_
  refine jT_xistore (v := (0, 0)) (LN := [(7, (0, 0)), (6, (0, 2)), (5, (0, 0)), (4, (4, 3)), (3, (4, 2)), (2, (4, 1)), (1, (4, 0)), (0, (6, 0))]) (pcN := 1431) jI_379_1429 rfl rfl rfl rfl ?_
  refine jT_xaload_n (v := (4, 1)) (pcN := 1432) jI_379_1431 rfl rfl rfl ?_
  refine jT_fR [1, 15, 16, 17, 18, 19, 20, 21, 22, 23, 24, 25, 26, 27, 28, 29] 30 (y := 186) (pcN := 1435) (dC := 0) (bc1 := 0) (bc2 := 0) (c1 := 0) (c2 := 0) (as := [(4, 1)]) (asC := [(4, 0)]) (LN := [(7, (0, 0)), (6, (0, 2)), (5, (0, 0)), (4, (4, 3)), (3, (4, 2)), (2, (4, 1)), (1, (4, 0)), (0, (6, 0))]) (stN := []) (hsC := jpA_361) (v := (0, 2)) (st2 := [(0, 2)]) (jA_186_101 (d := 0)) (by rfl) (by rfl) (by decide +kernel) (by rfl) (by rfl) (by omega) (by omega) (by omega) (by omega) rfl ?_
  refine jT_xiload (v := (0, 2)) (pcN := 1437) jI_379_1435 rfl rfl rfl ?_
  refine jT_xicT (pcN := 1442) jI_379_1437 rfl (by decide +kernel) rfl ?_
  refine jT_xiload (v := (0, 2)) (pcN := 1444) jI_379_1442 rfl rfl rfl ?_
  refine jT_xifT (pcN := 1459) jI_379_1444 rfl (by decide +kernel) rfl ?_
  refine jT_xgoto (pcN := 3740) jI_379_1459 rfl ?_
  refine jT_xiinc (x := 0) (z := 5) (LN := [(5, (0, 5)), (7, (0, 0)), (6, (0, 2)), (4, (4, 3)), (3, (4, 2)), (2, (4, 1)), (1, (4, 0)), (0, (6, 0))]) (pcN := 3743) jI_379_3740 rfl rfl (by decide) rfl rfl ?_
  refine jT_xgoto (pcN := 28) jI_379_3743 rfl ?_
  refine jT_xiload (v := (0, 5)) (pcN := 30) jI_379_28 rfl rfl rfl ?_
  refine jT_xaload_n (v := (6, 0)) (pcN := 31) jI_379_30 rfl rfl rfl ?_
  refine jT_adv 1 (pcN := 32) (LN := [(5, (0, 5)), (7, (0, 0)), (6, (0, 2)), (4, (4, 3)), (3, (4, 2)), (2, (4, 1)), (1, (4, 0)), (0, (6, 0))]) (stN := [(0, 5), (0, 5)]) (hsN := jpA_607) (c1 := 0) (s1 := 0) (c2 := 0) (s2 := 0) (by exact rfl) ?_ (by omega) (by omega)
  refine jT_xiconst (k := 5) (pcN := 33) jI_379_32 rfl ?_
  refine jT_xisub (x := 5) (y := 5) (z := 0) (pcN := 34) jI_379_33 rfl (by decide) rfl ?_
  refine jT_xicT (pcN := 3746) jI_379_34 rfl (by decide +kernel) rfl ?_
  refine jT_xiconst (k := 1) (pcN := 3747) jI_379_3746 rfl ?_
  exact jT_ret rfl (by decide) (by show 30 ≤ 30; decide) (by omega) (by omega) ⟨rfl, rfl⟩
set_option maxRecDepth 100000 in
theorem jL_14_4 {d : Nat} {x0 x1 x2 x3 x4 : Int} (h_x0 : (-2147483648) ≤ x0 ∧ x0 ≤ 2147483647) (h_x1 : 12 ≤ x1 ∧ x1 ≤ 2147483647) (h_x2 : (-2147483648) ≤ x2 ∧ x2 ≤ 2147483647) (h_x3 : (-2147483648) ≤ x3 ∧ x3 ≤ 2147483647) (h_x4 : (-2147483648) ≤ x4 ∧ x4 ≤ 2147483647) : jT [x0, x1, x2, x3, x4] (d + 3) 379 30 1394 [(5, (0, 0)), (4, (4, 3)), (3, (4, 2)), (2, (4, 1)), (1, (4, 0)), (0, (6, 0))] [] jpA_267 1 6 (fun k v hsN => k = 0 ∧ v = (0, 1)) := by
  refine jT_xaload_n (v := (4, 0)) (pcN := 1395) jI_379_1394 rfl rfl rfl ?_
  refine jT_xaload_n (v := (6, 0)) (pcN := 1396) jI_379_1395 rfl rfl rfl ?_
  refine jT_xiload (v := (0, 0)) (pcN := 1398) jI_379_1396 rfl rfl rfl ?_
  refine jT_xiconst (k := 1) (pcN := 1399) jI_379_1398 rfl ?_
  refine jT_xiadd (x := 0) (y := 1) (z := 1) (pcN := 1400) jI_379_1399 rfl (by decide) rfl ?_
  refine jT_adv 1 (pcN := 1401) (LN := [(5, (0, 0)), (4, (4, 3)), (3, (4, 2)), (2, (4, 1)), (1, (4, 0)), (0, (6, 0))]) (stN := [(0, x1), (4, 0)]) (hsN := jpA_267) (c1 := 0) (s1 := 0) (c2 := 1) (s2 := 6) (by exact rfl) ?_ (by omega) (by omega)
  refine jT_xaload_n (v := (6, 0)) (pcN := 1402) jI_379_1401 rfl rfl rfl ?_
  refine jT_xiload (v := (0, 0)) (pcN := 1404) jI_379_1402 rfl rfl rfl ?_
  refine jT_xiconst (k := 2) (pcN := 1405) jI_379_1404 rfl ?_
  refine jT_xiadd (x := 0) (y := 2) (z := 2) (pcN := 1406) jI_379_1405 rfl (by decide) rfl ?_
  refine jT_adv 1 (pcN := 1407) (LN := [(5, (0, 0)), (4, (4, 3)), (3, (4, 2)), (2, (4, 1)), (1, (4, 0)), (0, (6, 0))]) (stN := [(0, x2), (0, x1), (4, 0)]) (hsN := jpA_267) (c1 := 0) (s1 := 0) (c2 := 1) (s2 := 6) (by exact rfl) ?_ (by omega) (by omega)
  refine jT_xaload_n (v := (4, 2)) (pcN := 1408) jI_379_1407 rfl rfl rfl ?_
  refine jT_fR [0, 2, 4, 5, 6, 7, 8, 9, 10, 11, 12, 13, 14] 30 (y := 340) (pcN := 1411) (dC := 2) (bc1 := 1) (bc2 := 6) (c1 := 0) (c2 := 0) (as := [(4, 0), (0, x1), (0, x2), (4, 2)]) (asC := [(4, 0), (0, x1), (0, x2), (4, 1)]) (LN := [(5, (0, 0)), (4, (4, 3)), (3, (4, 2)), (2, (4, 1)), (1, (4, 0)), (0, (6, 0))]) (stN := []) (hsC := jpA_15) (v := (0, 1)) (st2 := [(0, 1)]) (jA_340_639 (d := 0) (by omega) (by omega)) (by rfl) (by rfl) (by decide +kernel) (by rfl) (by rfl) (by omega) (by omega) (by omega) (by omega) rfl ?_
  refine jT_xistore (v := (0, 1)) (LN := [(6, (0, 1)), (5, (0, 0)), (4, (4, 3)), (3, (4, 2)), (2, (4, 1)), (1, (4, 0)), (0, (6, 0))]) (pcN := 1413) jI_379_1411 rfl rfl rfl rfl ?_
  refine jT_xaload_n (v := (4, 1)) (pcN := 1414) jI_379_1413 rfl rfl rfl ?_
  refine jT_xaload_n (v := (6, 0)) (pcN := 1415) jI_379_1414 rfl rfl rfl ?_
  refine jT_xiload (v := (0, 0)) (pcN := 1417) jI_379_1415 rfl rfl rfl ?_
  refine jT_xiconst (k := 1) (pcN := 1418) jI_379_1417 rfl ?_
  refine jT_xiadd (x := 0) (y := 1) (z := 1) (pcN := 1419) jI_379_1418 rfl (by decide) rfl ?_
  refine jT_adv 1 (pcN := 1420) (LN := [(6, (0, 1)), (5, (0, 0)), (4, (4, 3)), (3, (4, 2)), (2, (4, 1)), (1, (4, 0)), (0, (6, 0))]) (stN := [(0, x1), (4, 1)]) (hsN := jpA_267) (c1 := 0) (s1 := 0) (c2 := 0) (s2 := 0) (by exact rfl) ?_ (by omega) (by omega)
  refine jT_xaload_n (v := (6, 0)) (pcN := 1421) jI_379_1420 rfl rfl rfl ?_
  refine jT_xiload (v := (0, 0)) (pcN := 1423) jI_379_1421 rfl rfl rfl ?_
  refine jT_xiconst (k := 2) (pcN := 1424) jI_379_1423 rfl ?_
  refine jT_xiadd (x := 0) (y := 2) (z := 2) (pcN := 1425) jI_379_1424 rfl (by decide) rfl ?_
  refine jT_adv 1 (pcN := 1426) (LN := [(6, (0, 1)), (5, (0, 0)), (4, (4, 3)), (3, (4, 2)), (2, (4, 1)), (1, (4, 0)), (0, (6, 0))]) (stN := [(0, x2), (0, x1), (4, 1)]) (hsN := jpA_267) (c1 := 0) (s1 := 0) (c2 := 0) (s2 := 0) (by exact rfl) ?_ (by omega) (by omega)
  refine jT_fB [1, 15, 16, 17, 18, 19, 20, 21, 22, 23, 24, 25, 26, 27, 28, 29] 30 (y := 253) (pcN := 1429) (dC := 2) (bc1 := 0) (bc2 := 0) (c1 := 0) (c2 := 0) (as := [(4, 1), (0, x1), (0, x2)]) (asC := [(4, 0), (0, x1), (0, x2)]) (LN := [(6, (0, 1)), (5, (0, 0)), (4, (4, 3)), (3, (4, 2)), (2, (4, 1)), (1, (4, 0)), (0, (6, 0))]) (stN := []) (hsC := jpA_22) (hsD := jpA_20) (v := (0, 0)) (st2 := [(0, 0)]) (hs2 := jpA_306) (jA_253_641 (d := 0) (by omega) (by omega)) (by rfl) (by rfl) (by decide +kernel) (by rfl) (by rfl) (by omega) (by omega) (by omega) (by omega) rfl (by decide +kernel) ?_
  refine jT_xistore (v := (0, 0)) (LN := [(7, (0, 0)), (6, (0, 1)), (5, (0, 0)), (4, (4, 3)), (3, (4, 2)), (2, (4, 1)), (1, (4, 0)), (0, (6, 0))]) (pcN := 1431) jI_379_1429 rfl rfl rfl rfl ?_
  refine jT_xaload_n (v := (4, 1)) (pcN := 1432) jI_379_1431 rfl rfl rfl ?_
  refine jT_fR [1, 15, 16, 17, 18, 19, 20, 21, 22, 23, 24, 25, 26, 27, 28, 29] 30 (y := 186) (pcN := 1435) (dC := 0) (bc1 := 0) (bc2 := 0) (c1 := 0) (c2 := 0) (as := [(4, 1)]) (asC := [(4, 0)]) (LN := [(7, (0, 0)), (6, (0, 1)), (5, (0, 0)), (4, (4, 3)), (3, (4, 2)), (2, (4, 1)), (1, (4, 0)), (0, (6, 0))]) (stN := []) (hsC := jpA_20) (v := (0, 1)) (st2 := [(0, 1)]) (jA_186_8 (d := 0)) (by rfl) (by rfl) (by decide +kernel) (by rfl) (by rfl) (by omega) (by omega) (by omega) (by omega) rfl ?_
  refine jT_xiload (v := (0, 1)) (pcN := 1437) jI_379_1435 rfl rfl rfl ?_
  refine jT_xicT (pcN := 1442) jI_379_1437 rfl (by decide +kernel) rfl ?_
  refine jT_xiload (v := (0, 1)) (pcN := 1444) jI_379_1442 rfl rfl rfl ?_
  refine jT_xifT (pcN := 1459) jI_379_1444 rfl (by decide +kernel) rfl ?_
  refine jT_xgoto (pcN := 3740) jI_379_1459 rfl ?_
  refine jT_xiinc (x := 0) (z := 5) (LN := [(5, (0, 5)), (7, (0, 0)), (6, (0, 1)), (4, (4, 3)), (3, (4, 2)), (2, (4, 1)), (1, (4, 0)), (0, (6, 0))]) (pcN := 3743) jI_379_3740 rfl rfl (by decide) rfl rfl ?_
  refine jT_xgoto (pcN := 28) jI_379_3743 rfl ?_
  refine jT_xiload (v := (0, 5)) (pcN := 30) jI_379_28 rfl rfl rfl ?_
  refine jT_xaload_n (v := (6, 0)) (pcN := 31) jI_379_30 rfl rfl rfl ?_
  refine jT_adv 1 (pcN := 32) (LN := [(5, (0, 5)), (7, (0, 0)), (6, (0, 1)), (4, (4, 3)), (3, (4, 2)), (2, (4, 1)), (1, (4, 0)), (0, (6, 0))]) (stN := [(0, 5), (0, 5)]) (hsN := jpA_306) (c1 := 0) (s1 := 0) (c2 := 0) (s2 := 0) (by exact rfl) ?_ (by omega) (by omega)
  refine jT_xiconst (k := 5) (pcN := 33) jI_379_32 rfl ?_
  refine jT_xisub (x := 5) (y := 5) (z := 0) (pcN := 34) jI_379_33 rfl (by decide) rfl ?_
  refine jT_xicT (pcN := 3746) jI_379_34 rfl (by decide +kernel) rfl ?_
  refine jT_xiconst (k := 1) (pcN := 3747) jI_379_3746 rfl ?_
  exact jT_ret rfl (by decide) (by show 30 ≤ 30; decide) (by omega) (by omega) ⟨rfl, rfl⟩
theorem jI_134_0 : jmI (jm 134) 0 = (.aload_n 0, 1) := by rfl
theorem jI_134_1 : jmI (jm 134) 1 = (.iload_n 1, 1) := by rfl
theorem jI_134_2 : jmI (jm 134) 2 = (.bipush 8, 2) := by rfl
theorem jA_134_642 {xs : List Int} {d : Nat} {x1 : Int} (h_x1 : (-2147483648) ≤ x1 ∧ x1 ≤ (-1)) : jT xs (d + 1) 134 12 0 [(0, (4, 0)), (1, (0, x1)), (2, (0, 1))] [] jpA_6 1 6 (fun k v hsN => k = 1 ∧ v = (0, 0) ∧ hsN = jpA_6 ++ []) := by
  refine jT_xaload_n (v := (4, 0)) (pcN := 1) jI_134_0 rfl rfl rfl ?_
  refine jT_xiload_n (v := (0, x1)) (pcN := 2) jI_134_1 rfl rfl rfl ?_
  refine jT_xbipush (k := 8) (pcN := 4) jI_134_2 (by decide) rfl ?_
  exact jT_fX [0] 12 (y := 115) (pcN := 7) (dC := 0) (bc1 := 1) (bc2 := 6) (as := [(4, 0), (0, x1), (0, 8)]) (asC := [(4, 0), (0, x1), (0, 8)]) (LN := [(0, (4, 0)), (1, (0, x1)), (2, (0, 1))]) (stN := []) (hsC := [jgh]) (e := 0) (jA_115_1 (d := 0) (by omega)) (by rfl) (by rfl) (by decide +kernel) (by rfl) (by rfl) (by omega) (by omega) (by omega) (by omega) ⟨rfl, ⟨rfl, rfl, rfl⟩⟩
theorem jI_341_0 : jmI (jm 341) 0 = (.aload_n 3, 1) := by rfl
theorem jI_341_1 : jmI (jm 341) 1 = (.iconst 0, 1) := by rfl
theorem jI_341_2 : jmI (jm 341) 2 = (.aload_n 0, 1) := by rfl
theorem jI_341_3 : jmI (jm 341) 3 = (.iload_n 1, 1) := by rfl
theorem jI_341_4 : jmI (jm 341) 4 = (.iload_n 2, 1) := by rfl
theorem jA_341_643 {xs : List Int} {d : Nat} {x1 : Int} (h_x1 : (-2147483648) ≤ x1 ∧ x1 ≤ (-1)) : jT xs (d + 2) 341 13 0 [(0, (4, 0)), (1, (0, x1)), (2, (0, 1)), (3, (4, 1))] [] jpA_15 1 6 (fun k v hsN => k = 0 ∧ v = (0, 1) ∧ hsN = jpA_15 ++ []) := by
  refine jT_xaload_n (v := (4, 1)) (pcN := 1) jI_341_0 rfl rfl rfl ?_
  refine jT_xiconst (k := 0) (pcN := 2) jI_341_1 rfl ?_
  refine jT_xaload_n (v := (4, 0)) (pcN := 3) jI_341_2 rfl rfl rfl ?_
  refine jT_xiload_n (v := (0, x1)) (pcN := 4) jI_341_3 rfl rfl rfl ?_
  refine jT_xiload_n (v := (0, 1)) (pcN := 5) jI_341_4 rfl rfl rfl ?_
  exact jT_fX [0, 2, 3, 4, 5, 6, 7, 8, 9, 10, 11, 12] 13 (y := 134) (pcN := 8) (dC := 1) (bc1 := 1) (bc2 := 6) (as := [(4, 0), (0, x1), (0, 1)]) (asC := [(4, 0), (0, x1), (0, 1)]) (LN := [(0, (4, 0)), (1, (0, x1)), (2, (0, 1)), (3, (4, 1))]) (stN := [(0, 0), (4, 1)]) (hsC := jpA_6) (e := 0) (jA_134_642 (d := 0) (by omega)) (by rfl) (by rfl) (by decide +kernel) (by rfl) (by rfl) (by omega) (by omega) (by omega) (by omega) (show _ from ⟨rfl, rfl, rfl⟩)
theorem jI_255_0 : jmI (jm 255) 0 = (.aload_n 0, 1) := by rfl
theorem jI_255_1 : jmI (jm 255) 1 = (.iload_n 1, 1) := by rfl
theorem jI_255_8 : jmI (jm 255) 8 = (.ifCond .ne 29, 3) := by rfl
theorem jI_255_37 : jmI (jm 255) 37 = (.iconst 0, 1) := by rfl
theorem jA_255_644 {xs : List Int} {d : Nat} {x1 : Int} (h_x1 : (-2147483648) ≤ x1 ∧ x1 ≤ (-1)) : jT xs (d + 2) 255 16 0 [(0, (4, 0)), (1, (0, x1)), (2, (0, 1))] [] jpA_22 0 0 (fun k v hsN => k = 0 ∧ v = (0, 0) ∧ hsN = jpA_20) := by
  refine jT_xaload_n (v := (4, 0)) (pcN := 1) jI_255_0 rfl rfl rfl ?_
  refine jT_xiload_n (v := (0, x1)) (pcN := 2) jI_255_1 rfl rfl rfl ?_
  refine jT_fR [] 16 (y := 188) (pcN := 5) (dC := 1) (bc1 := 0) (bc2 := 0) (c1 := 0) (c2 := 0) (as := [(0, x1)]) (asC := [(0, x1)]) (LN := [(0, (4, 0)), (1, (0, x1)), (2, (0, 1))]) (stN := [(4, 0)]) (hsC := []) (v := (0, 0)) (st2 := [(0, 0), (4, 0)]) (jA_188_4 (d := 0) (by omega)) (by rfl) (by rfl) (by decide +kernel) (by rfl) (by rfl) (by omega) (by omega) (by omega) (by omega) rfl ?_
  refine jT_fB [0, 1, 2, 3, 4, 5, 6, 7, 8, 9, 10, 11, 12, 13, 14, 15] 16 (y := 190) (pcN := 8) (dC := 1) (bc1 := 0) (bc2 := 0) (c1 := 0) (c2 := 0) (as := [(4, 0), (0, 0)]) (asC := [(4, 0), (0, 0)]) (LN := [(0, (4, 0)), (1, (0, x1)), (2, (0, 1))]) (stN := []) (hsC := jpA_22) (hsD := jpA_20) (v := (0, 1)) (st2 := [(0, 1)]) (hs2 := jpA_20) (jA_190_6 (d := 0)) (by rfl) (by rfl) (by decide +kernel) (by rfl) (by rfl) (by omega) (by omega) (by omega) (by omega) rfl (by decide +kernel) ?_
  refine jT_xifT (pcN := 37) jI_255_8 rfl (by decide +kernel) rfl ?_
  refine jT_xiconst (k := 0) (pcN := 38) jI_255_37 rfl ?_
  exact jT_ret rfl (by decide) (by show 16 ≤ 16; decide) (by omega) (by omega) ⟨rfl, rfl, rfl⟩
theorem jA_62_645 {xs : List Int} {d : Nat} : jT xs (d + 3) 62 1 0 [(0, (4, 0)), (1, (0, 0))] [] [jgh] 2 8 (fun k v hsN => k = 0 ∧ v = (4, 2) ∧ hsN = [jgh] ++ [(101, [], [0, 0, 0, 0, 0, 0]), (4, [(4, 1), (1, 1)], [])]) := by
  refine jT_advK 4 (pcN := 26) (LN := [(0, (4, 0)), (1, (0, 0))]) (stN := [(1, 1), (1, 0)]) (hsN := [jgh]) (c1 := 0) (s1 := 0) (c2 := 2) (s2 := 8) (by decide +kernel) ?_ (by omega) (by omega)
  refine jT_fA [] 1 (y := 8) (pcN := 29) (dC := 2) (bc1 := 2) (bc2 := 8) (c1 := 0) (c2 := 0) (as := [(1, 0), (1, 1)]) (asC := [(1, 0), (1, 1)]) (LN := [(0, (4, 0)), (1, (0, 0))]) (stN := []) (hsC := []) (ex := [(101, [], [0, 0, 0, 0, 0, 0]), (4, [(4, 0), (1, 1)], [])]) (v := (4, 1)) (st2 := [(4, 2)]) (hs2 := [jgh, (101, [], [0, 0, 0, 0, 0, 0]), (4, [(4, 1), (1, 1)], [])]) (jA_8_223 (d := 0)) (by rfl) (by rfl) (by decide +kernel) (by rfl) (by rfl) (by omega) (by omega) (by omega) (by omega) rfl (by decide +kernel) ?_
  exact jT_ret rfl (by decide) (by show 1 ≤ 3; decide) (by omega) (by omega) ⟨rfl, rfl, rfl⟩
def jpA_2481 : List JC := [jzA_55, (4, [(4, 7), (1, 1)], []), jgh, jgh, jgh, jgh, (114, [], []), jgh, (114, [], [1]), jzA_51]
def jzA_2482 : JC := (9, [(4, 2), (4, 3), (4, 4), (4, 5), (4, 8)], [])
def jpA_2483 : List JC := [jzA_55, (4, [(4, 7), (1, 1)], []), jgh, jgh, jgh, jgh, (114, [], []), jgh, (114, [], [1]), jzA_2482]
def jpA_2484 : List JC := [jzA_55, (4, [(4, 7), (1, 1)], []), jgh, jgh, jgh, jgh, (114, [], []), jgh]
theorem jA_63_646 {xs : List Int} {d : Nat} : jT xs (d + 1) 63 8 0 [(0, (4, 0)), (1, (4, 1))] [] jpA_2484 2 6 (fun k v hsN => k = 0 ∧ v = (4, 9) ∧ hsN = jpA_2484 ++ [(114, [], [1]), jzA_2482]) := by
  refine jT_advK 31 (pcN := 66) (LN := [(3, (0, 0)), (2, (4, 8)), (0, (4, 0)), (1, (4, 1))]) (stN := [(4, 8), (4, 5), (4, 4), (4, 3), (4, 2), (4, 9), (4, 9)]) (hsN := jpA_2481) (c1 := 2) (s1 := 6) (c2 := 0) (s2 := 0) (by decide +kernel) ?_ (by omega) (by omega)
  refine jT_fB [9, 2, 3, 4, 5, 8] 10 (y := 53) (pcN := 69) (dC := 0) (bc1 := 0) (bc2 := 0) (c1 := 0) (c2 := 0) (as := [(4, 9), (4, 2), (4, 3), (4, 4), (4, 5), (4, 8)]) (asC := [(4, 0), (4, 1), (4, 2), (4, 3), (4, 4), (4, 5)]) (LN := [(3, (0, 0)), (2, (4, 8)), (0, (4, 0)), (1, (4, 1))]) (stN := [(4, 9)]) (hsC := jpA_52) (hsD := jpA_50) (v := (9, 0)) (st2 := [(4, 9)]) (hs2 := jpA_2483) (jA_53_32 (d := 0)) (by rfl) (by rfl) (by decide +kernel) (by rfl) (by rfl) (by omega) (by omega) (by omega) (by omega) rfl (by decide +kernel) ?_
  exact jT_ret rfl (by decide) (by show 8 ≤ 10; decide) (by omega) (by omega) ⟨rfl, rfl, rfl⟩
theorem jI_134_7 : jmI (jm 134) 7 = (.aload_n 0, 1) := by rfl
theorem jI_134_8 : jmI (jm 134) 8 = (.getfield 67, 3) := by rfl
theorem jI_134_11 : jmI (jm 134) 11 = (.getfield 247, 3) := by rfl
def jpA_2488 : List JC := [jzA_5, jgh, jgh, jgh, jgh, jgh, jgh, jgh, jgh, jgh, jzA_79, jzA_88, jzA_89, jgh, jgh, jgh, (114, [], []), (4, [(4, 18), (1, 1)], []), (101, [], [0, 0, 0, 0, 0, 0])]
theorem jI_134_15 : jmI (jm 134) 15 = (.istore_n 3, 1) := by rfl
theorem jI_134_16 : jmI (jm 134) 16 = (.iload_n 3, 1) := by rfl
theorem jI_134_17 : jmI (jm 134) 17 = (.bipush 60, 2) := by rfl
theorem jI_134_19 : jmI (jm 134) 19 = (.if_icmp .lt 13, 3) := by rfl
theorem jI_134_32 : jmI (jm 134) 32 = (.aload_n 0, 1) := by rfl
theorem jI_134_33 : jmI (jm 134) 33 = (.getfield 67, 3) := by rfl
theorem jI_134_36 : jmI (jm 134) 36 = (.iload_n 3, 1) := by rfl
def jpA_2496 : List JC := [jzA_5, jgh, jgh, jgh, jgh, jgh, jgh, jgh, jgh, jgh, jzA_79, jzA_88, jzA_89, jgh, jgh, jgh, (114, [], []), (4, [(4, 18), (1, 1)], []), (101, [], [0, 0, 0, 0, 0, 0]), (101, [], [0, 0, 0, 0, 0, 0]), (4, [(4, 19), (1, 1)], [])]
theorem jI_134_40 : jmI (jm 134) 40 = (.aload_n 0, 1) := by rfl
theorem jI_134_41 : jmI (jm 134) 41 = (.getfield 67, 3) := by rfl
theorem jI_134_44 : jmI (jm 134) 44 = (.iload_n 1, 1) := by rfl
theorem jI_134_48 : jmI (jm 134) 48 = (.iload_n 2, 1) := by rfl
def jpA_2501 : List JC := [jzA_5, jgh, jgh, jgh, jgh, jgh, jgh, jgh, jgh, jgh, jzA_79, jzA_88, jzA_89, jgh, jgh, jgh, (114, [], []), (4, [(4, 18), (1, 1)], []), (101, [], [0, 0, 0, 0, 0, 0]), (101, [], [0, 0, 0, 0, 0, 0]), (4, [(4, 19), (1, 1)], []), (101, [], [0, 0, 0, 0, 0, 0]), (4, [(4, 21), (1, 1)], [])]
theorem jI_134_52 : jmI (jm 134) 52 = (.astore 4, 2) := by rfl
theorem jI_134_54 : jmI (jm 134) 54 = (.aload_n 0, 1) := by rfl
theorem jI_134_55 : jmI (jm 134) 55 = (.aload 4, 2) := by rfl
theorem jI_134_60 : jmI (jm 134) 60 = (.aload_n 0, 1) := by rfl
theorem jI_134_61 : jmI (jm 134) 61 = (.aload_n 0, 1) := by rfl
theorem jI_134_62 : jmI (jm 134) 62 = (.getfield 67, 3) := by rfl
theorem jI_134_65 : jmI (jm 134) 65 = (.aload 4, 2) := by rfl
def jzA_2509 : JC := (9, [(4, 12), (4, 13), (4, 14), (4, 15), (4, 23)], [])
def jpA_2510 : List JC := [jzA_5, jgh, jgh, jgh, jgh, jgh, jgh, jgh, jgh, jgh, jzA_79, jzA_88, jzA_89, jgh, jgh, jgh, (114, [], []), (4, [(4, 18), (1, 1)], []), (101, [], [0, 0, 0, 0, 0, 0]), (101, [], [0, 0, 0, 0, 0, 0]), (4, [(4, 19), (1, 1)], []), (101, [], [0, 0, 0, 0, 0, 0]), (4, [(4, 21), (1, 1)], []), (114, [], [22]), jzA_2509]
def jpA_2511 : List JC := [jzA_654, jgh, jgh, jgh, jgh, jgh, jgh, jgh, jgh, jgh, jzA_102, jzA_88, jzA_89, jgh, jgh, jgh, (114, [], []), (4, [(4, 18), (1, 1)], []), (101, [], [0, 0, 0, 0, 0, 0]), (101, [], [0, 0, 0, 0, 0, 0]), (4, [(4, 19), (1, 1)], []), (101, [], [0, 0, 0, 0, 0, 0]), (4, [(4, 21), (1, 1)], []), (114, [], [22]), jzA_2509]
theorem jI_134_73 : jmI (jm 134) 73 = (.iload_n 3, 1) := by rfl
theorem jI_134_74 : jmI (jm 134) 74 = (.iconst 1, 1) := by rfl
theorem jI_134_75 : jmI (jm 134) 75 = (.iadd, 1) := by rfl
theorem jA_134_647 {xs : List Int} {d : Nat} {x1 : Int} (h_x1 : 0 ≤ x1 ∧ x1 ≤ 7) : jT xs (d + 4) 134 19 0 [(0, (4, 0)), (1, (0, x1)), (2, (0, 1))] [] jpA_2488 6 22 (fun k v hsN => k = 0 ∧ v = (0, 1) ∧ hsN = jpA_2511) := by
  refine jT_xaload_n (v := (4, 0)) (pcN := 1) jI_134_0 rfl rfl rfl ?_
  refine jT_xiload_n (v := (0, x1)) (pcN := 2) jI_134_1 rfl rfl rfl ?_
  refine jT_xbipush (k := 8) (pcN := 4) jI_134_2 (by decide) rfl ?_
  refine jT_fR [0] 19 (y := 115) (pcN := 7) (dC := 0) (bc1 := 0) (bc2 := 0) (c1 := 6) (c2 := 22) (as := [(4, 0), (0, x1), (0, 8)]) (asC := [(4, 0), (0, x1), (0, 8)]) (LN := [(0, (4, 0)), (1, (0, x1)), (2, (0, 1))]) (stN := []) (hsC := [jgh]) (v := (9, 0)) (st2 := []) (jA_115_9 (d := 0) (by omega)) (by rfl) (by rfl) (by decide +kernel) (by rfl) (by rfl) (by omega) (by omega) (by omega) (by omega) rfl ?_
  refine jT_xaload_n (v := (4, 0)) (pcN := 8) jI_134_7 rfl rfl rfl ?_
  refine jT_xgetf (a := 0) (t := 1) (ci := 13) (fi := 11) (c := jzA_5) (v := (4, 11)) (pcN := 11) jI_134_8 rfl rfl rfl rfl rfl rfl rfl ?_
  refine jT_xgetf (a := 11) (t := 2) (ci := 9) (fi := 4) (c := jzA_88) (v := (4, 16)) (pcN := 14) jI_134_11 rfl rfl rfl rfl rfl rfl rfl ?_
  refine jT_adv 1 (pcN := 15) (LN := [(0, (4, 0)), (1, (0, x1)), (2, (0, 1))]) (stN := [(0, 0)]) (hsN := jpA_2488) (c1 := 0) (s1 := 0) (c2 := 6) (s2 := 22) (by exact rfl) ?_ (by omega) (by omega)
  refine jT_xistore_n (v := (0, 0)) (LN := [(3, (0, 0)), (0, (4, 0)), (1, (0, x1)), (2, (0, 1))]) (pcN := 16) jI_134_15 rfl rfl rfl rfl ?_
  refine jT_xiload_n (v := (0, 0)) (pcN := 17) jI_134_16 rfl rfl rfl ?_
  refine jT_xbipush (k := 60) (pcN := 19) jI_134_17 (by decide) rfl ?_
  refine jT_xicT (pcN := 32) jI_134_19 rfl (by decide +kernel) rfl ?_
  refine jT_xaload_n (v := (4, 0)) (pcN := 33) jI_134_32 rfl rfl rfl ?_
  refine jT_xgetf (a := 0) (t := 1) (ci := 13) (fi := 11) (c := jzA_5) (v := (4, 11)) (pcN := 36) jI_134_33 rfl rfl rfl rfl rfl rfl rfl ?_
  refine jT_xiload_n (v := (0, 0)) (pcN := 37) jI_134_36 rfl rfl rfl ?_
  refine jT_fA [11] 19 (y := 62) (pcN := 40) (dC := 3) (bc1 := 2) (bc2 := 8) (c1 := 4) (c2 := 14) (as := [(4, 11), (0, 0)]) (asC := [(4, 0), (0, 0)]) (LN := [(3, (0, 0)), (0, (4, 0)), (1, (0, x1)), (2, (0, 1))]) (stN := []) (hsC := [jgh]) (ex := [(101, [], [0, 0, 0, 0, 0, 0]), (4, [(4, 1), (1, 1)], [])]) (v := (4, 2)) (st2 := [(4, 20)]) (hs2 := jpA_2496) (jA_62_645 (d := 0)) (by rfl) (by rfl) (by decide +kernel) (by rfl) (by rfl) (by omega) (by omega) (by omega) (by omega) rfl (by decide +kernel) ?_
  refine jT_xaload_n (v := (4, 0)) (pcN := 41) jI_134_40 rfl rfl rfl ?_
  refine jT_xgetf (a := 0) (t := 1) (ci := 13) (fi := 11) (c := jzA_5) (v := (4, 11)) (pcN := 44) jI_134_41 rfl rfl rfl rfl rfl rfl rfl ?_
  refine jT_xiload_n (v := (0, x1)) (pcN := 45) jI_134_44 rfl rfl rfl ?_
  refine jT_fR [11, 12, 13, 14, 15, 16, 17] 21 (y := 57) (pcN := 48) (dC := 0) (bc1 := 0) (bc2 := 0) (c1 := 4) (c2 := 14) (as := [(4, 11), (0, x1)]) (asC := [(4, 0), (0, x1)]) (LN := [(3, (0, 0)), (0, (4, 0)), (1, (0, x1)), (2, (0, 1))]) (stN := [(4, 20)]) (hsC := jpA_47) (v := (4, 6)) (st2 := [(4, 17), (4, 20)]) (jA_57_108 (d := 0) (by omega)) (by rfl) (by rfl) (by decide +kernel) (by rfl) (by rfl) (by omega) (by omega) (by omega) (by omega) rfl ?_
  refine jT_xiload_n (v := (0, 1)) (pcN := 49) jI_134_48 rfl rfl rfl ?_
  refine jT_fA [20, 17, 19, 18] 21 (y := 11) (pcN := 52) (dC := 2) (bc1 := 2) (bc2 := 8) (c1 := 2) (c2 := 6) (as := [(4, 20), (4, 17), (0, 1)]) (asC := [(4, 0), (4, 1), (0, 1)]) (LN := [(3, (0, 0)), (0, (4, 0)), (1, (0, x1)), (2, (0, 1))]) (stN := []) (hsC := jpA_947) (ex := [(101, [], [0, 0, 0, 0, 0, 0]), (4, [(4, 4), (1, 1)], [])]) (v := (4, 5)) (st2 := [(4, 22)]) (hs2 := jpA_2501) (jA_11_224 (d := 0)) (by rfl) (by rfl) (by decide +kernel) (by rfl) (by rfl) (by omega) (by omega) (by omega) (by omega) rfl (by decide +kernel) ?_
  refine jT_xastore (v := (4, 22)) (LN := [(4, (4, 22)), (3, (0, 0)), (0, (4, 0)), (1, (0, x1)), (2, (0, 1))]) (pcN := 54) jI_134_52 rfl rfl rfl rfl ?_
  refine jT_xaload_n (v := (4, 0)) (pcN := 55) jI_134_54 rfl rfl rfl ?_
  refine jT_xaload (v := (4, 22)) (pcN := 57) jI_134_55 rfl rfl rfl ?_
  refine jT_fR [0, 22, 21] 23 (y := 117) (pcN := 60) (dC := 2) (bc1 := 0) (bc2 := 0) (c1 := 2) (c2 := 6) (as := [(4, 0), (4, 22)]) (asC := [(4, 0), (4, 1)]) (LN := [(4, (4, 22)), (3, (0, 0)), (0, (4, 0)), (1, (0, x1)), (2, (0, 1))]) (stN := []) (hsC := [jgh, (4, [(4, 2), (1, 1)], []), (101, [], [0, 0, 0, 0, 0, 0])]) (v := (9, 0)) (st2 := []) (jA_117_31 (d := 0)) (by rfl) (by rfl) (by decide +kernel) (by rfl) (by rfl) (by omega) (by omega) (by omega) (by omega) rfl ?_
  refine jT_xaload_n (v := (4, 0)) (pcN := 61) jI_134_60 rfl rfl rfl ?_
  refine jT_xaload_n (v := (4, 0)) (pcN := 62) jI_134_61 rfl rfl rfl ?_
  refine jT_xgetf (a := 0) (t := 1) (ci := 13) (fi := 11) (c := jzA_5) (v := (4, 11)) (pcN := 65) jI_134_62 rfl rfl rfl rfl rfl rfl rfl ?_
  refine jT_xaload (v := (4, 22)) (pcN := 67) jI_134_65 rfl rfl rfl ?_
  refine jT_fA [11, 22, 12, 13, 14, 15, 16, 21] 23 (y := 63) (pcN := 70) (dC := 1) (bc1 := 2) (bc2 := 6) (c1 := 0) (c2 := 0) (as := [(4, 11), (4, 22)]) (asC := [(4, 0), (4, 1)]) (LN := [(4, (4, 22)), (3, (0, 0)), (0, (4, 0)), (1, (0, x1)), (2, (0, 1))]) (stN := [(4, 0)]) (hsC := jpA_2484) (ex := [(114, [], [1]), jzA_2482]) (v := (4, 9)) (st2 := [(4, 24), (4, 0)]) (hs2 := jpA_2510) (jA_63_646 (d := 0)) (by rfl) (by rfl) (by decide +kernel) (by rfl) (by rfl) (by omega) (by omega) (by omega) (by omega) rfl (by decide +kernel) ?_
  refine jT_fB [0, 24, 1, 2, 3, 4, 5, 6, 7, 8, 9, 10, 11, 12, 13, 14, 15, 16] 25 (y := 100) (pcN := 73) (dC := 0) (bc1 := 0) (bc2 := 0) (c1 := 0) (c2 := 0) (as := [(4, 0), (4, 24)]) (asC := [(4, 0), (4, 1)]) (LN := [(4, (4, 22)), (3, (0, 0)), (0, (4, 0)), (1, (0, x1)), (2, (0, 1))]) (stN := []) (hsC := jpA_80) (hsD := jpA_78) (v := (9, 0)) (st2 := []) (hs2 := jpA_2511) (jA_100_34 (d := 0)) (by rfl) (by rfl) (by decide +kernel) (by rfl) (by rfl) (by omega) (by omega) (by omega) (by omega) rfl (by decide +kernel) ?_
  refine jT_xiload_n (v := (0, 0)) (pcN := 74) jI_134_73 rfl rfl rfl ?_
  refine jT_xiconst (k := 1) (pcN := 75) jI_134_74 rfl ?_
  refine jT_xiadd (x := 0) (y := 1) (z := 1) (pcN := 76) jI_134_75 rfl (by decide) rfl ?_
  exact jT_ret rfl (by decide) (by show 19 ≤ 25; decide) (by omega) (by omega) ⟨rfl, rfl, rfl⟩
def jzA_2515 : JC := (9, [(4, 13), (4, 14), (4, 15), (4, 16), (4, 24)], [])
def jpA_2516 : List JC := [jzA_658, (101, [], [0]), jgh, jgh, jgh, jgh, jgh, jgh, jgh, jgh, jgh, jzA_76, jzA_77, jzA_109, jgh, jgh, jgh, (114, [], []), (4, [(4, 19), (1, 1)], []), (101, [], [0, 0, 0, 0, 0, 0]), (101, [], [0, 0, 0, 0, 0, 0]), (4, [(4, 20), (1, 1)], []), (101, [], [0, 0, 0, 0, 0, 0]), (4, [(4, 22), (1, 1)], []), (114, [], [23]), jzA_2515]
theorem jI_341_8 : jmI (jm 341) 8 = (.i2l, 1) := by rfl
def jpA_2518 : List JC := [jzA_658, (101, [], [1]), jgh, jgh, jgh, jgh, jgh, jgh, jgh, jgh, jgh, jzA_76, jzA_77, jzA_109, jgh, jgh, jgh, (114, [], []), (4, [(4, 19), (1, 1)], []), (101, [], [0, 0, 0, 0, 0, 0]), (101, [], [0, 0, 0, 0, 0, 0]), (4, [(4, 20), (1, 1)], []), (101, [], [0, 0, 0, 0, 0, 0]), (4, [(4, 22), (1, 1)], []), (114, [], [23]), jzA_2515]
theorem jI_341_10 : jmI (jm 341) 10 = (.goto 15, 3) := by rfl
theorem jI_341_25 : jmI (jm 341) 25 = (.iconst 0, 1) := by rfl
def jpA_2521 : List JC := [jzA_14, (101, [], [0]), jgh, jgh, jgh, jgh, jgh, jgh, jgh, jgh, jgh, jzA_79, jzA_77, jzA_109, jgh, jgh, jgh, (114, [], []), (4, [(4, 19), (1, 1)], []), (101, [], [0, 0, 0, 0, 0, 0])]
theorem jA_341_648 {xs : List Int} {d : Nat} {x1 : Int} (h_x1 : 0 ≤ x1 ∧ x1 ≤ 7) : jT xs (d + 5) 341 20 0 [(0, (4, 0)), (1, (0, x1)), (2, (0, 1)), (3, (4, 1))] [] jpA_2521 6 22 (fun k v hsN => k = 0 ∧ v = (0, 0) ∧ hsN = jpA_2518) := by
  refine jT_xaload_n (v := (4, 1)) (pcN := 1) jI_341_0 rfl rfl rfl ?_
  refine jT_xiconst (k := 0) (pcN := 2) jI_341_1 rfl ?_
  refine jT_xaload_n (v := (4, 0)) (pcN := 3) jI_341_2 rfl rfl rfl ?_
  refine jT_xiload_n (v := (0, x1)) (pcN := 4) jI_341_3 rfl rfl rfl ?_
  refine jT_xiload_n (v := (0, 1)) (pcN := 5) jI_341_4 rfl rfl rfl ?_
  refine jT_fB [0, 2, 3, 4, 5, 6, 7, 8, 9, 10, 11, 12, 13, 14, 15, 16, 17, 18, 19] 20 (y := 134) (pcN := 8) (dC := 4) (bc1 := 6) (bc2 := 22) (c1 := 0) (c2 := 0) (as := [(4, 0), (0, x1), (0, 1)]) (asC := [(4, 0), (0, x1), (0, 1)]) (LN := [(0, (4, 0)), (1, (0, x1)), (2, (0, 1)), (3, (4, 1))]) (stN := [(0, 0), (4, 1)]) (hsC := jpA_2488) (hsD := jpA_2511) (v := (0, 1)) (st2 := [(0, 1), (0, 0), (4, 1)]) (hs2 := jpA_2516) (jA_134_647 (d := 0) (by omega)) (by rfl) (by rfl) (by decide +kernel) (by rfl) (by rfl) (by omega) (by omega) (by omega) (by omega) rfl (by decide +kernel) ?_
  refine jT_xi2l (x := 1) (z := 1) (pcN := 9) jI_341_8 rfl (by decide +kernel) rfl ?_
  refine jT_adv 1 (pcN := 10) (LN := [(0, (4, 0)), (1, (0, x1)), (2, (0, 1)), (3, (4, 1))]) (stN := []) (hsN := jpA_2518) (c1 := 0) (s1 := 0) (c2 := 0) (s2 := 0) (by exact rfl) ?_ (by omega) (by omega)
  refine jT_xgoto (pcN := 25) jI_341_10 rfl ?_
  refine jT_xiconst (k := 0) (pcN := 26) jI_341_25 rfl ?_
  exact jT_ret rfl (by decide) (by show 20 ≤ 26; decide) (by omega) (by omega) ⟨rfl, rfl, rfl⟩
theorem jA_193_649 {xs : List Int} {d : Nat} : jT xs d 193 16 0 [(0, (4, 0))] [] jpA_147 0 0 (fun k v hsN => k = 0 ∧ v = (9, 0) ∧ hsN = jpA_147 ++ []) := by
  refine jT_advK 68 (pcN := 26) (LN := [(1, (0, 6)), (0, (4, 0))]) (stN := []) (hsN := jpA_147) (c1 := 0) (s1 := 0) (c2 := 0) (s2 := 0) (by decide +kernel) ?_ (by omega) (by omega)
  exact jT_ret rfl (by decide) (by show 16 ≤ 16; decide) (by omega) (by omega) ⟨rfl, rfl, rfl⟩
theorem jA_256_650 {xs : List Int} {d : Nat} : jT xs (d + 1) 256 16 0 [(0, (4, 0)), (1, (0, 0))] [] jpA_147 0 0 (fun k v hsN => k = 0 ∧ v = (9, 0) ∧ hsN = jpA_147 ++ []) := by
  refine jT_advK 1 (pcN := 1) (LN := [(0, (4, 0)), (1, (0, 0))]) (stN := [(4, 0)]) (hsN := jpA_147) (c1 := 0) (s1 := 0) (c2 := 0) (s2 := 0) (by decide +kernel) ?_ (by omega) (by omega)
  refine jT_fR [0, 1, 2, 3, 4, 5, 6, 7, 8, 9, 10, 11, 12, 13, 14, 15] 16 (y := 193) (pcN := 4) (dC := 0) (bc1 := 0) (bc2 := 0) (c1 := 0) (c2 := 0) (as := [(4, 0)]) (asC := [(4, 0)]) (LN := [(0, (4, 0)), (1, (0, 0))]) (stN := []) (hsC := jpA_147) (v := (9, 0)) (st2 := []) (jA_193_649 (d := 0)) (by rfl) (by rfl) (by decide +kernel) (by rfl) (by rfl) (by omega) (by omega) (by omega) (by omega) rfl ?_
  refine jT_advK 5 (pcN := 34) (LN := [(2, (0, 0)), (0, (4, 0)), (1, (0, 0))]) (stN := []) (hsN := jpA_147) (c1 := 0) (s1 := 0) (c2 := 0) (s2 := 0) (by decide +kernel) ?_ (by omega) (by omega)
  exact jT_ret rfl (by decide) (by show 16 ≤ 16; decide) (by omega) (by omega) ⟨rfl, rfl, rfl⟩
theorem jA_204_651 {xs : List Int} {d : Nat} {x1 : Int} (h_x1 : 0 ≤ x1 ∧ x1 ≤ 7) : jT xs (d + 2) 204 16 0 [(0, (4, 0)), (1, (4, 1)), (2, (0, 7 * x1)), (3, (1, (-1)))] [] jpA_130 0 0 (fun k v hsN => k = 0 ∧ v = (9, 0) ∧ hsN = jpA_130 ++ []) := by
  refine jT_xaload_n (v := (4, 1)) (pcN := 1) jI_204_0 rfl rfl rfl ?_
  refine jT_xiload_n (v := (0, 7 * x1)) (pcN := 2) jI_204_1 rfl rfl rfl ?_
  refine jT_xbipush (k := 6) (pcN := 4) jI_204_2 (by decide) rfl ?_
  refine jT_xiadd (x := 7 * x1) (y := 6) (z := 7 * x1 + 6) (pcN := 5) jI_204_4 rfl (by omega) rfl ?_
  refine jT_iald (x := 1) (a := 1) (j := (7 * x1 + 6).toNat) (fs := []) (X := jS0) (by rfl) (by rfl) (by rfl) (jw_nn (by omega) (by omega)) (jS0_r6 (by omega) (by omega)) ?_
  refine jT_eq (LN := [(0, (4, 0)), (1, (4, 1)), (2, (0, 7 * x1)), (3, (1, (-1)))]) (stN := [(0, 1)]) (hsN := jpA_130) rfl rfl rfl ?_
  refine jT_xi2l (x := 1) (z := 1) (pcN := 7) jI_204_6 rfl (by decide +kernel) rfl ?_
  refine jT_xlstore (v := (1, 1)) (LN := [(5, (1, 1)), (0, (4, 0)), (1, (4, 1)), (2, (0, 7 * x1)), (3, (1, (-1)))]) (pcN := 9) jI_204_7 rfl rfl rfl rfl ?_
  refine jT_xaload_n (v := (4, 0)) (pcN := 10) jI_204_9 rfl rfl rfl ?_
  refine jT_xgetf (a := 0) (t := 1) (ci := 14) (fi := 10) (c := jzA_21) (v := (1, 1)) (pcN := 13) jI_204_10 rfl rfl rfl rfl rfl rfl rfl ?_
  refine jT_xaload_n (v := (4, 0)) (pcN := 14) jI_204_13 rfl rfl rfl ?_
  refine jT_xgetf (a := 0) (t := 1) (ci := 14) (fi := 10) (c := jzA_21) (v := (1, 1)) (pcN := 17) jI_204_14 rfl rfl rfl rfl rfl rfl rfl ?_
  refine jT_xlload (v := (1, 1)) (pcN := 19) jI_204_17 rfl rfl rfl ?_
  refine jT_fR [] 16 (y := 194) (pcN := 22) (dC := 1) (bc1 := 0) (bc2 := 0) (c1 := 0) (c2 := 0) (as := [(1, 1), (1, 1)]) (asC := [(1, 1), (1, 1)]) (LN := [(5, (1, 1)), (0, (4, 0)), (1, (4, 1)), (2, (0, 7 * x1)), (3, (1, (-1)))]) (stN := [(1, 1)]) (hsC := []) (v := (1, 1)) (st2 := [(1, 1), (1, 1)]) (jA_194_43 (d := 0)) (by rfl) (by rfl) (by decide +kernel) (by rfl) (by rfl) (by omega) (by omega) (by omega) (by omega) rfl ?_
  refine jT_ldiv (a := 1) (b := 1) (by rfl) (by rfl) (by decide +kernel) (by decide +kernel) (by decide) ?_
  refine jT_eq (LN := [(5, (1, 1)), (0, (4, 0)), (1, (4, 1)), (2, (0, 7 * x1)), (3, (1, (-1)))]) (stN := [(1, 1)]) (hsN := jpA_130) rfl (by rw [show (1 : Int).tdiv 1 = 1 by decide +kernel]) rfl ?_
  refine jT_xlload (v := (1, 1)) (pcN := 25) jI_204_23 rfl rfl rfl ?_
  refine jT_xlmul (x := 1) (y := 1) (z := 1) (pcN := 26) jI_204_25 rfl (by decide) rfl ?_
  refine jT_xlstore (v := (1, 1)) (LN := [(7, (1, 1)), (5, (1, 1)), (0, (4, 0)), (1, (4, 1)), (2, (0, 7 * x1)), (3, (1, (-1)))]) (pcN := 28) jI_204_26 rfl rfl rfl rfl ?_
  refine jT_xiconst (k := 0) (pcN := 29) jI_204_28 rfl ?_
  refine jT_xistore (v := (0, 0)) (LN := [(9, (0, 0)), (7, (1, 1)), (5, (1, 1)), (0, (4, 0)), (1, (4, 1)), (2, (0, 7 * x1)), (3, (1, (-1)))]) (pcN := 31) jI_204_29 rfl rfl rfl rfl ?_
  refine jT_xiload (v := (0, 0)) (pcN := 33) jI_204_31 rfl rfl rfl ?_
  refine jT_xbipush (k := 6) (pcN := 35) jI_204_33 (by decide) rfl ?_
  refine jT_xicF (t := 82) (pcN := 38) jI_204_35 rfl (by decide +kernel) rfl rfl ?_
  refine jT_xaload_n (v := (4, 0)) (pcN := 39) jI_204_38 rfl rfl rfl ?_
  refine jT_xgetf (a := 0) (t := 1) (ci := 14) (fi := 9) (c := jzA_21) (v := (4, 7)) (pcN := 42) jI_204_39 rfl rfl rfl rfl rfl rfl rfl ?_
  refine jT_xiload (v := (0, 0)) (pcN := 44) jI_204_42 rfl rfl rfl ?_
  refine jT_xaload_n (v := (4, 0)) (pcN := 45) jI_204_44 rfl rfl rfl ?_
  refine jT_xgetf (a := 0) (t := 1) (ci := 14) (fi := 9) (c := jzA_21) (v := (4, 7)) (pcN := 48) jI_204_45 rfl rfl rfl rfl rfl rfl rfl ?_
  refine jT_xiload (v := (0, 0)) (pcN := 50) jI_204_48 rfl rfl rfl ?_
  refine jT_lald (x := 0) (a := 7) (j := 0) (fs := []) (X := [0, 0, 0, 0, 0, 0]) jI_204_50 rfl rfl rfl rfl ?_
  refine jT_eq (LN := [(9, (0, 0)), (7, (1, 1)), (5, (1, 1)), (0, (4, 0)), (1, (4, 1)), (2, (0, 7 * x1)), (3, (1, (-1)))]) (stN := [(1, 0), (0, 0), (4, 7)]) (hsN := jpA_130) rfl rfl rfl ?_
  refine jT_xlload (v := (1, 1)) (pcN := 53) jI_204_51 rfl rfl rfl ?_
  refine jT_xaload_n (v := (4, 0)) (pcN := 54) jI_204_53 rfl rfl rfl ?_
  refine jT_xgetf (a := 0) (t := 1) (ci := 14) (fi := 10) (c := jzA_21) (v := (1, 1)) (pcN := 57) jI_204_54 rfl rfl rfl rfl rfl rfl rfl ?_
  refine jT_ldiv (a := 1) (b := 1) (by rfl) (by rfl) (by decide +kernel) (by decide +kernel) (by decide) ?_
  refine jT_eq (LN := [(9, (0, 0)), (7, (1, 1)), (5, (1, 1)), (0, (4, 0)), (1, (4, 1)), (2, (0, 7 * x1)), (3, (1, (-1)))]) (stN := [(1, 1), (1, 0), (0, 0), (4, 7)]) (hsN := jpA_130) rfl (by rw [show (1 : Int).tdiv 1 = 1 by decide +kernel]) rfl ?_
  refine jT_xlmul (x := 0) (y := 1) (z := 0) (pcN := 59) jI_204_58 rfl (by decide) rfl ?_
  refine jT_xlload_n (v := (1, (-1))) (pcN := 60) jI_204_59 rfl rfl rfl ?_
  refine jT_xaload_n (v := (4, 1)) (pcN := 61) jI_204_60 rfl rfl rfl ?_
  refine jT_xiload_n (v := (0, 7 * x1)) (pcN := 62) jI_204_61 rfl rfl rfl ?_
  refine jT_xiload (v := (0, 0)) (pcN := 64) jI_204_62 rfl rfl rfl ?_
  refine jT_xiadd (x := 7 * x1) (y := 0) (z := 7 * x1) (pcN := 65) jI_204_64 rfl (by omega) rfl ?_
  refine jT_iald (x := 0) (a := 1) (j := (7 * x1).toNat) (fs := []) (X := jS0) (by rfl) (by rfl) (by rfl) (jw_nn (by omega) (by omega)) (jS0_r0 (by omega) (by omega)) ?_
  refine jT_eq (LN := [(9, (0, 0)), (7, (1, 1)), (5, (1, 1)), (0, (4, 0)), (1, (4, 1)), (2, (0, 7 * x1)), (3, (1, (-1)))]) (stN := [(0, 0), (1, (-1)), (1, 0), (0, 0), (4, 7)]) (hsN := jpA_130) rfl rfl rfl ?_
  refine jT_xi2l (x := 0) (z := 0) (pcN := 67) jI_204_66 rfl (by decide +kernel) rfl ?_
  refine jT_xlmul (x := (-1)) (y := 0) (z := 0) (pcN := 68) jI_204_67 rfl (by decide) rfl ?_
  refine jT_xlload (v := (1, 1)) (pcN := 70) jI_204_68 rfl rfl rfl ?_
  refine jT_xlload (v := (1, 1)) (pcN := 72) jI_204_70 rfl rfl rfl ?_
  refine jT_ldiv (a := 1) (b := 1) (by rfl) (by rfl) (by decide +kernel) (by decide +kernel) (by decide) ?_
  refine jT_eq (LN := [(9, (0, 0)), (7, (1, 1)), (5, (1, 1)), (0, (4, 0)), (1, (4, 1)), (2, (0, 7 * x1)), (3, (1, (-1)))]) (stN := [(1, 1), (1, 0), (1, 0), (0, 0), (4, 7)]) (hsN := jpA_130) rfl (by rw [show (1 : Int).tdiv 1 = 1 by decide +kernel]) rfl ?_
  refine jT_xlmul (x := 0) (y := 1) (z := 0) (pcN := 74) jI_204_73 rfl (by decide) rfl ?_
  refine jT_xladd (x := 0) (y := 0) (z := 0) (pcN := 75) jI_204_74 rfl (by decide) rfl ?_
  refine jT_adv 1 (pcN := 76) (LN := [(9, (0, 0)), (7, (1, 1)), (5, (1, 1)), (0, (4, 0)), (1, (4, 1)), (2, (0, 7 * x1)), (3, (1, (-1)))]) (stN := []) (hsN := jpA_130) (c1 := 0) (s1 := 0) (c2 := 0) (s2 := 0) (by exact rfl) ?_ (by omega) (by omega)
  refine jT_xiinc (x := 0) (z := 1) (LN := [(9, (0, 1)), (7, (1, 1)), (5, (1, 1)), (0, (4, 0)), (1, (4, 1)), (2, (0, 7 * x1)), (3, (1, (-1)))]) (pcN := 79) jI_204_76 rfl rfl (by decide) rfl rfl ?_
  refine jT_xgoto (pcN := 31) jI_204_79 rfl ?_
  refine jT_xiload (v := (0, 1)) (pcN := 33) jI_204_31 rfl rfl rfl ?_
  refine jT_xbipush (k := 6) (pcN := 35) jI_204_33 (by decide) rfl ?_
  refine jT_xicF (t := 82) (pcN := 38) jI_204_35 rfl (by decide +kernel) rfl rfl ?_
  refine jT_xaload_n (v := (4, 0)) (pcN := 39) jI_204_38 rfl rfl rfl ?_
  refine jT_xgetf (a := 0) (t := 1) (ci := 14) (fi := 9) (c := jzA_21) (v := (4, 7)) (pcN := 42) jI_204_39 rfl rfl rfl rfl rfl rfl rfl ?_
  refine jT_xiload (v := (0, 1)) (pcN := 44) jI_204_42 rfl rfl rfl ?_
  refine jT_xaload_n (v := (4, 0)) (pcN := 45) jI_204_44 rfl rfl rfl ?_
  refine jT_xgetf (a := 0) (t := 1) (ci := 14) (fi := 9) (c := jzA_21) (v := (4, 7)) (pcN := 48) jI_204_45 rfl rfl rfl rfl rfl rfl rfl ?_
  refine jT_xiload (v := (0, 1)) (pcN := 50) jI_204_48 rfl rfl rfl ?_
  refine jT_lald (x := 0) (a := 7) (j := 1) (fs := []) (X := [0, 0, 0, 0, 0, 0]) jI_204_50 rfl rfl rfl rfl ?_
  refine jT_eq (LN := [(9, (0, 1)), (7, (1, 1)), (5, (1, 1)), (0, (4, 0)), (1, (4, 1)), (2, (0, 7 * x1)), (3, (1, (-1)))]) (stN := [(1, 0), (0, 1), (4, 7)]) (hsN := jpA_130) rfl rfl rfl ?_
  refine jT_xlload (v := (1, 1)) (pcN := 53) jI_204_51 rfl rfl rfl ?_
  refine jT_xaload_n (v := (4, 0)) (pcN := 54) jI_204_53 rfl rfl rfl ?_
  refine jT_xgetf (a := 0) (t := 1) (ci := 14) (fi := 10) (c := jzA_21) (v := (1, 1)) (pcN := 57) jI_204_54 rfl rfl rfl rfl rfl rfl rfl ?_
  refine jT_ldiv (a := 1) (b := 1) (by rfl) (by rfl) (by decide +kernel) (by decide +kernel) (by decide) ?_
  refine jT_eq (LN := [(9, (0, 1)), (7, (1, 1)), (5, (1, 1)), (0, (4, 0)), (1, (4, 1)), (2, (0, 7 * x1)), (3, (1, (-1)))]) (stN := [(1, 1), (1, 0), (0, 1), (4, 7)]) (hsN := jpA_130) rfl (by rw [show (1 : Int).tdiv 1 = 1 by decide +kernel]) rfl ?_
  refine jT_xlmul (x := 0) (y := 1) (z := 0) (pcN := 59) jI_204_58 rfl (by decide) rfl ?_
  refine jT_xlload_n (v := (1, (-1))) (pcN := 60) jI_204_59 rfl rfl rfl ?_
  refine jT_xaload_n (v := (4, 1)) (pcN := 61) jI_204_60 rfl rfl rfl ?_
  refine jT_xiload_n (v := (0, 7 * x1)) (pcN := 62) jI_204_61 rfl rfl rfl ?_
  refine jT_xiload (v := (0, 1)) (pcN := 64) jI_204_62 rfl rfl rfl ?_
  refine jT_xiadd (x := 7 * x1) (y := 1) (z := 7 * x1 + 1) (pcN := 65) jI_204_64 rfl (by omega) rfl ?_
  refine jT_iald (x := 0) (a := 1) (j := (7 * x1 + 1).toNat) (fs := []) (X := jS0) (by rfl) (by rfl) (by rfl) (jw_nn (by omega) (by omega)) (jS0_r1 (by omega) (by omega)) ?_
  refine jT_eq (LN := [(9, (0, 1)), (7, (1, 1)), (5, (1, 1)), (0, (4, 0)), (1, (4, 1)), (2, (0, 7 * x1)), (3, (1, (-1)))]) (stN := [(0, 0), (1, (-1)), (1, 0), (0, 1), (4, 7)]) (hsN := jpA_130) rfl rfl rfl ?_
  refine jT_xi2l (x := 0) (z := 0) (pcN := 67) jI_204_66 rfl (by decide +kernel) rfl ?_
  refine jT_xlmul (x := (-1)) (y := 0) (z := 0) (pcN := 68) jI_204_67 rfl (by decide) rfl ?_
  refine jT_xlload (v := (1, 1)) (pcN := 70) jI_204_68 rfl rfl rfl ?_
  refine jT_xlload (v := (1, 1)) (pcN := 72) jI_204_70 rfl rfl rfl ?_
  refine jT_ldiv (a := 1) (b := 1) (by rfl) (by rfl) (by decide +kernel) (by decide +kernel) (by decide) ?_
  refine jT_eq (LN := [(9, (0, 1)), (7, (1, 1)), (5, (1, 1)), (0, (4, 0)), (1, (4, 1)), (2, (0, 7 * x1)), (3, (1, (-1)))]) (stN := [(1, 1), (1, 0), (1, 0), (0, 1), (4, 7)]) (hsN := jpA_130) rfl (by rw [show (1 : Int).tdiv 1 = 1 by decide +kernel]) rfl ?_
  refine jT_xlmul (x := 0) (y := 1) (z := 0) (pcN := 74) jI_204_73 rfl (by decide) rfl ?_
  refine jT_xladd (x := 0) (y := 0) (z := 0) (pcN := 75) jI_204_74 rfl (by decide) rfl ?_
  refine jT_adv 1 (pcN := 76) (LN := [(9, (0, 1)), (7, (1, 1)), (5, (1, 1)), (0, (4, 0)), (1, (4, 1)), (2, (0, 7 * x1)), (3, (1, (-1)))]) (stN := []) (hsN := jpA_130) (c1 := 0) (s1 := 0) (c2 := 0) (s2 := 0) (by exact rfl) ?_ (by omega) (by omega)
  refine jT_xiinc (x := 1) (z := 2) (LN := [(9, (0, 2)), (7, (1, 1)), (5, (1, 1)), (0, (4, 0)), (1, (4, 1)), (2, (0, 7 * x1)), (3, (1, (-1)))]) (pcN := 79) jI_204_76 rfl rfl (by decide) rfl rfl ?_
  refine jT_xgoto (pcN := 31) jI_204_79 rfl ?_
  refine jT_xiload (v := (0, 2)) (pcN := 33) jI_204_31 rfl rfl rfl ?_
  refine jT_xbipush (k := 6) (pcN := 35) jI_204_33 (by decide) rfl ?_
  refine jT_xicF (t := 82) (pcN := 38) jI_204_35 rfl (by decide +kernel) rfl rfl ?_
  refine jT_xaload_n (v := (4, 0)) (pcN := 39) jI_204_38 rfl rfl rfl ?_
  refine jT_xgetf (a := 0) (t := 1) (ci := 14) (fi := 9) (c := jzA_21) (v := (4, 7)) (pcN := 42) jI_204_39 rfl rfl rfl rfl rfl rfl rfl ?_
  refine jT_xiload (v := (0, 2)) (pcN := 44) jI_204_42 rfl rfl rfl ?_
  refine jT_xaload_n (v := (4, 0)) (pcN := 45) jI_204_44 rfl rfl rfl ?_
  refine jT_xgetf (a := 0) (t := 1) (ci := 14) (fi := 9) (c := jzA_21) (v := (4, 7)) (pcN := 48) jI_204_45 rfl rfl rfl rfl rfl rfl rfl ?_
  refine jT_xiload (v := (0, 2)) (pcN := 50) jI_204_48 rfl rfl rfl ?_
  refine jT_lald (x := 0) (a := 7) (j := 2) (fs := []) (X := [0, 0, 0, 0, 0, 0]) jI_204_50 rfl rfl rfl rfl ?_
  refine jT_eq (LN := [(9, (0, 2)), (7, (1, 1)), (5, (1, 1)), (0, (4, 0)), (1, (4, 1)), (2, (0, 7 * x1)), (3, (1, (-1)))]) (stN := [(1, 0), (0, 2), (4, 7)]) (hsN := jpA_130) rfl rfl rfl ?_
  refine jT_xlload (v := (1, 1)) (pcN := 53) jI_204_51 rfl rfl rfl ?_
  refine jT_xaload_n (v := (4, 0)) (pcN := 54) jI_204_53 rfl rfl rfl ?_
  refine jT_xgetf (a := 0) (t := 1) (ci := 14) (fi := 10) (c := jzA_21) (v := (1, 1)) (pcN := 57) jI_204_54 rfl rfl rfl rfl rfl rfl rfl ?_
  refine jT_ldiv (a := 1) (b := 1) (by rfl) (by rfl) (by decide +kernel) (by decide +kernel) (by decide) ?_
  refine jT_eq (LN := [(9, (0, 2)), (7, (1, 1)), (5, (1, 1)), (0, (4, 0)), (1, (4, 1)), (2, (0, 7 * x1)), (3, (1, (-1)))]) (stN := [(1, 1), (1, 0), (0, 2), (4, 7)]) (hsN := jpA_130) rfl (by rw [show (1 : Int).tdiv 1 = 1 by decide +kernel]) rfl ?_
  refine jT_xlmul (x := 0) (y := 1) (z := 0) (pcN := 59) jI_204_58 rfl (by decide) rfl ?_
  refine jT_xlload_n (v := (1, (-1))) (pcN := 60) jI_204_59 rfl rfl rfl ?_
  refine jT_xaload_n (v := (4, 1)) (pcN := 61) jI_204_60 rfl rfl rfl ?_
  refine jT_xiload_n (v := (0, 7 * x1)) (pcN := 62) jI_204_61 rfl rfl rfl ?_
  refine jT_xiload (v := (0, 2)) (pcN := 64) jI_204_62 rfl rfl rfl ?_
  refine jT_xiadd (x := 7 * x1) (y := 2) (z := 7 * x1 + 2) (pcN := 65) jI_204_64 rfl (by omega) rfl ?_
  refine jT_iald (x := 0) (a := 1) (j := (7 * x1 + 2).toNat) (fs := []) (X := jS0) (by rfl) (by rfl) (by rfl) (jw_nn (by omega) (by omega)) (jS0_r2 (by omega) (by omega)) ?_
  refine jT_eq (LN := [(9, (0, 2)), (7, (1, 1)), (5, (1, 1)), (0, (4, 0)), (1, (4, 1)), (2, (0, 7 * x1)), (3, (1, (-1)))]) (stN := [(0, 0), (1, (-1)), (1, 0), (0, 2), (4, 7)]) (hsN := jpA_130) rfl rfl rfl ?_
  refine jT_xi2l (x := 0) (z := 0) (pcN := 67) jI_204_66 rfl (by decide +kernel) rfl ?_
  refine jT_xlmul (x := (-1)) (y := 0) (z := 0) (pcN := 68) jI_204_67 rfl (by decide) rfl ?_
  refine jT_xlload (v := (1, 1)) (pcN := 70) jI_204_68 rfl rfl rfl ?_
  refine jT_xlload (v := (1, 1)) (pcN := 72) jI_204_70 rfl rfl rfl ?_
  refine jT_ldiv (a := 1) (b := 1) (by rfl) (by rfl) (by decide +kernel) (by decide +kernel) (by decide) ?_
  refine jT_eq (LN := [(9, (0, 2)), (7, (1, 1)), (5, (1, 1)), (0, (4, 0)), (1, (4, 1)), (2, (0, 7 * x1)), (3, (1, (-1)))]) (stN := [(1, 1), (1, 0), (1, 0), (0, 2), (4, 7)]) (hsN := jpA_130) rfl (by rw [show (1 : Int).tdiv 1 = 1 by decide +kernel]) rfl ?_
  refine jT_xlmul (x := 0) (y := 1) (z := 0) (pcN := 74) jI_204_73 rfl (by decide) rfl ?_
  refine jT_xladd (x := 0) (y := 0) (z := 0) (pcN := 75) jI_204_74 rfl (by decide) rfl ?_
  refine jT_adv 1 (pcN := 76) (LN := [(9, (0, 2)), (7, (1, 1)), (5, (1, 1)), (0, (4, 0)), (1, (4, 1)), (2, (0, 7 * x1)), (3, (1, (-1)))]) (stN := []) (hsN := jpA_130) (c1 := 0) (s1 := 0) (c2 := 0) (s2 := 0) (by exact rfl) ?_ (by omega) (by omega)
  refine jT_xiinc (x := 2) (z := 3) (LN := [(9, (0, 3)), (7, (1, 1)), (5, (1, 1)), (0, (4, 0)), (1, (4, 1)), (2, (0, 7 * x1)), (3, (1, (-1)))]) (pcN := 79) jI_204_76 rfl rfl (by decide) rfl rfl ?_
  refine jT_xgoto (pcN := 31) jI_204_79 rfl ?_
  refine jT_xiload (v := (0, 3)) (pcN := 33) jI_204_31 rfl rfl rfl ?_
  refine jT_xbipush (k := 6) (pcN := 35) jI_204_33 (by decide) rfl ?_
  refine jT_xicF (t := 82) (pcN := 38) jI_204_35 rfl (by decide +kernel) rfl rfl ?_
  refine jT_xaload_n (v := (4, 0)) (pcN := 39) jI_204_38 rfl rfl rfl ?_
  refine jT_xgetf (a := 0) (t := 1) (ci := 14) (fi := 9) (c := jzA_21) (v := (4, 7)) (pcN := 42) jI_204_39 rfl rfl rfl rfl rfl rfl rfl ?_
  refine jT_xiload (v := (0, 3)) (pcN := 44) jI_204_42 rfl rfl rfl ?_
  refine jT_xaload_n (v := (4, 0)) (pcN := 45) jI_204_44 rfl rfl rfl ?_
  refine jT_xgetf (a := 0) (t := 1) (ci := 14) (fi := 9) (c := jzA_21) (v := (4, 7)) (pcN := 48) jI_204_45 rfl rfl rfl rfl rfl rfl rfl ?_
  refine jT_xiload (v := (0, 3)) (pcN := 50) jI_204_48 rfl rfl rfl ?_
  refine jT_lald (x := 0) (a := 7) (j := 3) (fs := []) (X := [0, 0, 0, 0, 0, 0]) jI_204_50 rfl rfl rfl rfl ?_
  refine jT_eq (LN := [(9, (0, 3)), (7, (1, 1)), (5, (1, 1)), (0, (4, 0)), (1, (4, 1)), (2, (0, 7 * x1)), (3, (1, (-1)))]) (stN := [(1, 0), (0, 3), (4, 7)]) (hsN := jpA_130) rfl rfl rfl ?_
  refine jT_xlload (v := (1, 1)) (pcN := 53) jI_204_51 rfl rfl rfl ?_
  refine jT_xaload_n (v := (4, 0)) (pcN := 54) jI_204_53 rfl rfl rfl ?_
  refine jT_xgetf (a := 0) (t := 1) (ci := 14) (fi := 10) (c := jzA_21) (v := (1, 1)) (pcN := 57) jI_204_54 rfl rfl rfl rfl rfl rfl rfl ?_
  refine jT_ldiv (a := 1) (b := 1) (by rfl) (by rfl) (by decide +kernel) (by decide +kernel) (by decide) ?_
  refine jT_eq (LN := [(9, (0, 3)), (7, (1, 1)), (5, (1, 1)), (0, (4, 0)), (1, (4, 1)), (2, (0, 7 * x1)), (3, (1, (-1)))]) (stN := [(1, 1), (1, 0), (0, 3), (4, 7)]) (hsN := jpA_130) rfl (by rw [show (1 : Int).tdiv 1 = 1 by decide +kernel]) rfl ?_
  refine jT_xlmul (x := 0) (y := 1) (z := 0) (pcN := 59) jI_204_58 rfl (by decide) rfl ?_
  refine jT_xlload_n (v := (1, (-1))) (pcN := 60) jI_204_59 rfl rfl rfl ?_
  refine jT_xaload_n (v := (4, 1)) (pcN := 61) jI_204_60 rfl rfl rfl ?_
  refine jT_xiload_n (v := (0, 7 * x1)) (pcN := 62) jI_204_61 rfl rfl rfl ?_
  refine jT_xiload (v := (0, 3)) (pcN := 64) jI_204_62 rfl rfl rfl ?_
  refine jT_xiadd (x := 7 * x1) (y := 3) (z := 7 * x1 + 3) (pcN := 65) jI_204_64 rfl (by omega) rfl ?_
  refine jT_iald (x := 0) (a := 1) (j := (7 * x1 + 3).toNat) (fs := []) (X := jS0) (by rfl) (by rfl) (by rfl) (jw_nn (by omega) (by omega)) (jS0_r3 (by omega) (by omega)) ?_
  refine jT_eq (LN := [(9, (0, 3)), (7, (1, 1)), (5, (1, 1)), (0, (4, 0)), (1, (4, 1)), (2, (0, 7 * x1)), (3, (1, (-1)))]) (stN := [(0, 0), (1, (-1)), (1, 0), (0, 3), (4, 7)]) (hsN := jpA_130) rfl rfl rfl ?_
  refine jT_xi2l (x := 0) (z := 0) (pcN := 67) jI_204_66 rfl (by decide +kernel) rfl ?_
  refine jT_xlmul (x := (-1)) (y := 0) (z := 0) (pcN := 68) jI_204_67 rfl (by decide) rfl ?_
  refine jT_xlload (v := (1, 1)) (pcN := 70) jI_204_68 rfl rfl rfl ?_
  refine jT_xlload (v := (1, 1)) (pcN := 72) jI_204_70 rfl rfl rfl ?_
  refine jT_ldiv (a := 1) (b := 1) (by rfl) (by rfl) (by decide +kernel) (by decide +kernel) (by decide) ?_
  refine jT_eq (LN := [(9, (0, 3)), (7, (1, 1)), (5, (1, 1)), (0, (4, 0)), (1, (4, 1)), (2, (0, 7 * x1)), (3, (1, (-1)))]) (stN := [(1, 1), (1, 0), (1, 0), (0, 3), (4, 7)]) (hsN := jpA_130) rfl (by rw [show (1 : Int).tdiv 1 = 1 by decide +kernel]) rfl ?_
  refine jT_xlmul (x := 0) (y := 1) (z := 0) (pcN := 74) jI_204_73 rfl (by decide) rfl ?_
  refine jT_xladd (x := 0) (y := 0) (z := 0) (pcN := 75) jI_204_74 rfl (by decide) rfl ?_
  refine jT_adv 1 (pcN := 76) (LN := [(9, (0, 3)), (7, (1, 1)), (5, (1, 1)), (0, (4, 0)), (1, (4, 1)), (2, (0, 7 * x1)), (3, (1, (-1)))]) (stN := []) (hsN := jpA_130) (c1 := 0) (s1 := 0) (c2 := 0) (s2 := 0) (by exact rfl) ?_ (by omega) (by omega)
  refine jT_xiinc (x := 3) (z := 4) (LN := [(9, (0, 4)), (7, (1, 1)), (5, (1, 1)), (0, (4, 0)), (1, (4, 1)), (2, (0, 7 * x1)), (3, (1, (-1)))]) (pcN := 79) jI_204_76 rfl rfl (by decide) rfl rfl ?_
  refine jT_xgoto (pcN := 31) jI_204_79 rfl ?_
  refine jT_xiload (v := (0, 4)) (pcN := 33) jI_204_31 rfl rfl rfl ?_
  refine jT_xbipush (k := 6) (pcN := 35) jI_204_33 (by decide) rfl ?_
  refine jT_xicF (t := 82) (pcN := 38) jI_204_35 rfl (by decide +kernel) rfl rfl ?_
  refine jT_xaload_n (v := (4, 0)) (pcN := 39) jI_204_38 rfl rfl rfl ?_
  refine jT_xgetf (a := 0) (t := 1) (ci := 14) (fi := 9) (c := jzA_21) (v := (4, 7)) (pcN := 42) jI_204_39 rfl rfl rfl rfl rfl rfl rfl ?_
  refine jT_xiload (v := (0, 4)) (pcN := 44) jI_204_42 rfl rfl rfl ?_
  refine jT_xaload_n (v := (4, 0)) (pcN := 45) jI_204_44 rfl rfl rfl ?_
  refine jT_xgetf (a := 0) (t := 1) (ci := 14) (fi := 9) (c := jzA_21) (v := (4, 7)) (pcN := 48) jI_204_45 rfl rfl rfl rfl rfl rfl rfl ?_
  refine jT_xiload (v := (0, 4)) (pcN := 50) jI_204_48 rfl rfl rfl ?_
  refine jT_lald (x := 0) (a := 7) (j := 4) (fs := []) (X := [0, 0, 0, 0, 0, 0]) jI_204_50 rfl rfl rfl rfl ?_
  refine jT_eq (LN := [(9, (0, 4)), (7, (1, 1)), (5, (1, 1)), (0, (4, 0)), (1, (4, 1)), (2, (0, 7 * x1)), (3, (1, (-1)))]) (stN := [(1, 0), (0, 4), (4, 7)]) (hsN := jpA_130) rfl rfl rfl ?_
  refine jT_xlload (v := (1, 1)) (pcN := 53) jI_204_51 rfl rfl rfl ?_
  refine jT_xaload_n (v := (4, 0)) (pcN := 54) jI_204_53 rfl rfl rfl ?_
  refine jT_xgetf (a := 0) (t := 1) (ci := 14) (fi := 10) (c := jzA_21) (v := (1, 1)) (pcN := 57) jI_204_54 rfl rfl rfl rfl rfl rfl rfl ?_
  refine jT_ldiv (a := 1) (b := 1) (by rfl) (by rfl) (by decide +kernel) (by decide +kernel) (by decide) ?_
  refine jT_eq (LN := [(9, (0, 4)), (7, (1, 1)), (5, (1, 1)), (0, (4, 0)), (1, (4, 1)), (2, (0, 7 * x1)), (3, (1, (-1)))]) (stN := [(1, 1), (1, 0), (0, 4), (4, 7)]) (hsN := jpA_130) rfl (by rw [show (1 : Int).tdiv 1 = 1 by decide +kernel]) rfl ?_
  refine jT_xlmul (x := 0) (y := 1) (z := 0) (pcN := 59) jI_204_58 rfl (by decide) rfl ?_
  refine jT_xlload_n (v := (1, (-1))) (pcN := 60) jI_204_59 rfl rfl rfl ?_
  refine jT_xaload_n (v := (4, 1)) (pcN := 61) jI_204_60 rfl rfl rfl ?_
  refine jT_xiload_n (v := (0, 7 * x1)) (pcN := 62) jI_204_61 rfl rfl rfl ?_
  refine jT_xiload (v := (0, 4)) (pcN := 64) jI_204_62 rfl rfl rfl ?_
  refine jT_xiadd (x := 7 * x1) (y := 4) (z := 7 * x1 + 4) (pcN := 65) jI_204_64 rfl (by omega) rfl ?_
  refine jT_iald (x := 0) (a := 1) (j := (7 * x1 + 4).toNat) (fs := []) (X := jS0) (by rfl) (by rfl) (by rfl) (jw_nn (by omega) (by omega)) (jS0_r4 (by omega) (by omega)) ?_
  refine jT_eq (LN := [(9, (0, 4)), (7, (1, 1)), (5, (1, 1)), (0, (4, 0)), (1, (4, 1)), (2, (0, 7 * x1)), (3, (1, (-1)))]) (stN := [(0, 0), (1, (-1)), (1, 0), (0, 4), (4, 7)]) (hsN := jpA_130) rfl rfl rfl ?_
  refine jT_xi2l (x := 0) (z := 0) (pcN := 67) jI_204_66 rfl (by decide +kernel) rfl ?_
  refine jT_xlmul (x := (-1)) (y := 0) (z := 0) (pcN := 68) jI_204_67 rfl (by decide) rfl ?_
  refine jT_xlload (v := (1, 1)) (pcN := 70) jI_204_68 rfl rfl rfl ?_
  refine jT_xlload (v := (1, 1)) (pcN := 72) jI_204_70 rfl rfl rfl ?_
  refine jT_ldiv (a := 1) (b := 1) (by rfl) (by rfl) (by decide +kernel) (by decide +kernel) (by decide) ?_
  refine jT_eq (LN := [(9, (0, 4)), (7, (1, 1)), (5, (1, 1)), (0, (4, 0)), (1, (4, 1)), (2, (0, 7 * x1)), (3, (1, (-1)))]) (stN := [(1, 1), (1, 0), (1, 0), (0, 4), (4, 7)]) (hsN := jpA_130) rfl (by rw [show (1 : Int).tdiv 1 = 1 by decide +kernel]) rfl ?_
  refine jT_xlmul (x := 0) (y := 1) (z := 0) (pcN := 74) jI_204_73 rfl (by decide) rfl ?_
  refine jT_xladd (x := 0) (y := 0) (z := 0) (pcN := 75) jI_204_74 rfl (by decide) rfl ?_
  refine jT_adv 1 (pcN := 76) (LN := [(9, (0, 4)), (7, (1, 1)), (5, (1, 1)), (0, (4, 0)), (1, (4, 1)), (2, (0, 7 * x1)), (3, (1, (-1)))]) (stN := []) (hsN := jpA_130) (c1 := 0) (s1 := 0) (c2 := 0) (s2 := 0) (by exact rfl) ?_ (by omega) (by omega)
  refine jT_xiinc (x := 4) (z := 5) (LN := [(9, (0, 5)), (7, (1, 1)), (5, (1, 1)), (0, (4, 0)), (1, (4, 1)), (2, (0, 7 * x1)), (3, (1, (-1)))]) (pcN := 79) jI_204_76 rfl rfl (by decide) rfl rfl ?_
  refine jT_xgoto (pcN := 31) jI_204_79 rfl ?_
  refine jT_xiload (v := (0, 5)) (pcN := 33) jI_204_31 rfl rfl rfl ?_
  refine jT_xbipush (k := 6) (pcN := 35) jI_204_33 (by decide) rfl ?_
  refine jT_xicF (t := 82) (pcN := 38) jI_204_35 rfl (by decide +kernel) rfl rfl ?_
  refine jT_xaload_n (v := (4, 0)) (pcN := 39) jI_204_38 rfl rfl rfl ?_
  refine jT_xgetf (a := 0) (t := 1) (ci := 14) (fi := 9) (c := jzA_21) (v := (4, 7)) (pcN := 42) jI_204_39 rfl rfl rfl rfl rfl rfl rfl ?_
  refine jT_xiload (v := (0, 5)) (pcN := 44) jI_204_42 rfl rfl rfl ?_
  refine jT_xaload_n (v := (4, 0)) (pcN := 45) jI_204_44 rfl rfl rfl ?_
  refine jT_xgetf (a := 0) (t := 1) (ci := 14) (fi := 9) (c := jzA_21) (v := (4, 7)) (pcN := 48) jI_204_45 rfl rfl rfl rfl rfl rfl rfl ?_
  refine jT_xiload (v := (0, 5)) (pcN := 50) jI_204_48 rfl rfl rfl ?_
  refine jT_lald (x := 0) (a := 7) (j := 5) (fs := []) (X := [0, 0, 0, 0, 0, 0]) jI_204_50 rfl rfl rfl rfl ?_
  refine jT_eq (LN := [(9, (0, 5)), (7, (1, 1)), (5, (1, 1)), (0, (4, 0)), (1, (4, 1)), (2, (0, 7 * x1)), (3, (1, (-1)))]) (stN := [(1, 0), (0, 5), (4, 7)]) (hsN := jpA_130) rfl rfl rfl ?_
  refine jT_xlload (v := (1, 1)) (pcN := 53) jI_204_51 rfl rfl rfl ?_
  refine jT_xaload_n (v := (4, 0)) (pcN := 54) jI_204_53 rfl rfl rfl ?_
  refine jT_xgetf (a := 0) (t := 1) (ci := 14) (fi := 10) (c := jzA_21) (v := (1, 1)) (pcN := 57) jI_204_54 rfl rfl rfl rfl rfl rfl rfl ?_
  refine jT_ldiv (a := 1) (b := 1) (by rfl) (by rfl) (by decide +kernel) (by decide +kernel) (by decide) ?_
  refine jT_eq (LN := [(9, (0, 5)), (7, (1, 1)), (5, (1, 1)), (0, (4, 0)), (1, (4, 1)), (2, (0, 7 * x1)), (3, (1, (-1)))]) (stN := [(1, 1), (1, 0), (0, 5), (4, 7)]) (hsN := jpA_130) rfl (by rw [show (1 : Int).tdiv 1 = 1 by decide +kernel]) rfl ?_
  refine jT_xlmul (x := 0) (y := 1) (z := 0) (pcN := 59) jI_204_58 rfl (by decide) rfl ?_
  refine jT_xlload_n (v := (1, (-1))) (pcN := 60) jI_204_59 rfl rfl rfl ?_
  refine jT_xaload_n (v := (4, 1)) (pcN := 61) jI_204_60 rfl rfl rfl ?_
  refine jT_xiload_n (v := (0, 7 * x1)) (pcN := 62) jI_204_61 rfl rfl rfl ?_
  refine jT_xiload (v := (0, 5)) (pcN := 64) jI_204_62 rfl rfl rfl ?_
  refine jT_xiadd (x := 7 * x1) (y := 5) (z := 7 * x1 + 5) (pcN := 65) jI_204_64 rfl (by omega) rfl ?_
  refine jT_iald (x := 0) (a := 1) (j := (7 * x1 + 5).toNat) (fs := []) (X := jS0) (by rfl) (by rfl) (by rfl) (jw_nn (by omega) (by omega)) (jS0_r5 (by omega) (by omega)) ?_
  refine jT_eq (LN := [(9, (0, 5)), (7, (1, 1)), (5, (1, 1)), (0, (4, 0)), (1, (4, 1)), (2, (0, 7 * x1)), (3, (1, (-1)))]) (stN := [(0, 0), (1, (-1)), (1, 0), (0, 5), (4, 7)]) (hsN := jpA_130) rfl rfl rfl ?_
  refine jT_xi2l (x := 0) (z := 0) (pcN := 67) jI_204_66 rfl (by decide +kernel) rfl ?_
  refine jT_xlmul (x := (-1)) (y := 0) (z := 0) (pcN := 68) jI_204_67 rfl (by decide) rfl ?_
  refine jT_xlload (v := (1, 1)) (pcN := 70) jI_204_68 rfl rfl rfl ?_
  refine jT_xlload (v := (1, 1)) (pcN := 72) jI_204_70 rfl rfl rfl ?_
  refine jT_ldiv (a := 1) (b := 1) (by rfl) (by rfl) (by decide +kernel) (by decide +kernel) (by decide) ?_
  refine jT_eq (LN := [(9, (0, 5)), (7, (1, 1)), (5, (1, 1)), (0, (4, 0)), (1, (4, 1)), (2, (0, 7 * x1)), (3, (1, (-1)))]) (stN := [(1, 1), (1, 0), (1, 0), (0, 5), (4, 7)]) (hsN := jpA_130) rfl (by rw [show (1 : Int).tdiv 1 = 1 by decide +kernel]) rfl ?_
  refine jT_xlmul (x := 0) (y := 1) (z := 0) (pcN := 74) jI_204_73 rfl (by decide) rfl ?_
  refine jT_xladd (x := 0) (y := 0) (z := 0) (pcN := 75) jI_204_74 rfl (by decide) rfl ?_
  refine jT_adv 1 (pcN := 76) (LN := [(9, (0, 5)), (7, (1, 1)), (5, (1, 1)), (0, (4, 0)), (1, (4, 1)), (2, (0, 7 * x1)), (3, (1, (-1)))]) (stN := []) (hsN := jpA_130) (c1 := 0) (s1 := 0) (c2 := 0) (s2 := 0) (by exact rfl) ?_ (by omega) (by omega)
  refine jT_xiinc (x := 5) (z := 6) (LN := [(9, (0, 6)), (7, (1, 1)), (5, (1, 1)), (0, (4, 0)), (1, (4, 1)), (2, (0, 7 * x1)), (3, (1, (-1)))]) (pcN := 79) jI_204_76 rfl rfl (by decide) rfl rfl ?_
  refine jT_xgoto (pcN := 31) jI_204_79 rfl ?_
  refine jT_xiload (v := (0, 6)) (pcN := 33) jI_204_31 rfl rfl rfl ?_
  refine jT_xbipush (k := 6) (pcN := 35) jI_204_33 (by decide) rfl ?_
  refine jT_xicT (pcN := 82) jI_204_35 rfl (by decide +kernel) rfl ?_
  refine jT_xaload_n (v := (4, 0)) (pcN := 83) jI_204_82 rfl rfl rfl ?_
  refine jT_xlload (v := (1, 1)) (pcN := 85) jI_204_83 rfl rfl rfl ?_
  refine jT_adv 1 (pcN := 88) (LN := [(9, (0, 6)), (7, (1, 1)), (5, (1, 1)), (0, (4, 0)), (1, (4, 1)), (2, (0, 7 * x1)), (3, (1, (-1)))]) (stN := []) (hsN := jpA_130) (c1 := 0) (s1 := 0) (c2 := 0) (s2 := 0) (by exact rfl) ?_ (by omega) (by omega)
  refine jT_xaload_n (v := (4, 0)) (pcN := 89) jI_204_88 rfl rfl rfl ?_
  refine jT_fR [0, 1, 2, 3, 4, 5, 6, 7, 8, 9, 10, 11, 12, 13, 14, 15] 16 (y := 199) (pcN := 92) (dC := 1) (bc1 := 0) (bc2 := 0) (c1 := 0) (c2 := 0) (as := [(4, 0)]) (asC := [(4, 0)]) (LN := [(9, (0, 6)), (7, (1, 1)), (5, (1, 1)), (0, (4, 0)), (1, (4, 1)), (2, (0, 7 * x1)), (3, (1, (-1)))]) (stN := []) (hsC := jpA_147) (v := (9, 0)) (st2 := []) (jA_199_45 (d := 0)) (by rfl) (by rfl) (by decide +kernel) (by rfl) (by rfl) (by omega) (by omega) (by omega) (by omega) rfl ?_
  exact jT_ret rfl (by decide) (by show 16 ≤ 16; decide) (by omega) (by omega) ⟨rfl, rfl, rfl⟩
def jpA_2522 : List JC := [jzA_200, (100, [], ((jS0).set 1193 0)), jgh, jgh, jgh, jgh, jgh, (101, [], [0, 0, 0, 0, 0, 0]), jgh, jgh, jgh, jgh, jgh, jgh, jgh, jgh]
def jzA_2523 : JC := (100, [], ((((jS0).set 1193 0)).set 1194 0))
def jpA_2524 : List JC := [jzA_200, jzA_2523, jgh, jgh, jgh, jgh, jgh, (101, [], [0, 0, 0, 0, 0, 0]), jgh, jgh, jgh, jgh, jgh, jgh, jgh, jgh]
def jzA_2525 : JC := (100, [], ((((((jS0).set 1193 0)).set 1194 0)).set 1195 0))
def jpA_2526 : List JC := [jzA_200, jzA_2525, jgh, jgh, jgh, jgh, jgh, (101, [], [0, 0, 0, 0, 0, 0]), jgh, jgh, jgh, jgh, jgh, jgh, jgh, jgh]
def jzA_2527 : JC := (100, [], ((((((((jS0).set 1193 0)).set 1194 0)).set 1195 0)).set 1196 0))
def jpA_2528 : List JC := [jzA_200, jzA_2527, jgh, jgh, jgh, jgh, jgh, (101, [], [0, 0, 0, 0, 0, 0]), jgh, jgh, jgh, jgh, jgh, jgh, jgh, jgh]
def jzA_2529 : JC := (100, [], ((((((((((jS0).set 1193 0)).set 1194 0)).set 1195 0)).set 1196 0)).set 1197 0))
def jpA_2530 : List JC := [jzA_200, jzA_2529, jgh, jgh, jgh, jgh, jgh, (101, [], [0, 0, 0, 0, 0, 0]), jgh, jgh, jgh, jgh, jgh, jgh, jgh, jgh]
def jzA_2531 : JC := (100, [], ((((((((((((jS0).set 1193 0)).set 1194 0)).set 1195 0)).set 1196 0)).set 1197 0)).set 1198 0))
def jpA_2532 : List JC := [jzA_200, jzA_2531, jgh, jgh, jgh, jgh, jgh, (101, [], [0, 0, 0, 0, 0, 0]), jgh, jgh, jgh, jgh, jgh, jgh, jgh, jgh]
def jzA_2533 : JC := (100, [], ((((((((((((((jS0).set 1193 0)).set 1194 0)).set 1195 0)).set 1196 0)).set 1197 0)).set 1198 0)).set 1199 1))
def jpA_2534 : List JC := [jzA_200, jzA_2533, jgh, jgh, jgh, jgh, jgh, (101, [], [0, 0, 0, 0, 0, 0]), jgh, jgh, jgh, jgh, jgh, jgh, jgh, jgh]
theorem jA_197_652 {xs : List Int} {d : Nat} : jT xs d 197 16 0 [(0, (4, 0)), (1, (4, 1)), (2, (0, 1193))] [] jpA_216 0 0 (fun k v hsN => k = 0 ∧ v = (9, 0) ∧ hsN = jpA_2534) := by
  refine jT_advK 14 (pcN := 19) (LN := [(3, (0, 0)), (0, (4, 0)), (1, (4, 1)), (2, (0, 1193))]) (stN := [(0, 0), (0, 1193), (4, 1)]) (hsN := jpA_216) (c1 := 0) (s1 := 0) (c2 := 0) (s2 := 0) (by decide +kernel) ?_ (by omega) (by omega)
  refine jT_iast (x := 0) (a := 1) (j := 1193) (fs := []) (X := jS0) (by rfl) (by rfl) (by rfl) (by rfl) (by rw [show List.length (jS0 : List Int) = 1613 from jS0_len]; omega) ?_
  refine jT_eq (LN := [(3, (0, 0)), (0, (4, 0)), (1, (4, 1)), (2, (0, 1193))]) (stN := []) (hsN := jpA_2522) rfl rfl rfl ?_
  refine jT_advK 14 (pcN := 19) (LN := [(3, (0, 1)), (0, (4, 0)), (1, (4, 1)), (2, (0, 1193))]) (stN := [(0, 0), (0, 1194), (4, 1)]) (hsN := jpA_2522) (c1 := 0) (s1 := 0) (c2 := 0) (s2 := 0) (by decide +kernel) ?_ (by omega) (by omega)
  refine jT_iast (x := 0) (a := 1) (j := 1194) (fs := []) (X := ((jS0).set 1193 0)) (by rfl) (by rfl) (by rfl) (by rfl) (by rw [show List.length (((jS0).set 1193 0) : List Int) = 1613 from by rw [List.length_set]; exact (jS0_len)]; omega) ?_
  refine jT_eq (LN := [(3, (0, 1)), (0, (4, 0)), (1, (4, 1)), (2, (0, 1193))]) (stN := []) (hsN := jpA_2524) rfl rfl rfl ?_
  refine jT_advK 14 (pcN := 19) (LN := [(3, (0, 2)), (0, (4, 0)), (1, (4, 1)), (2, (0, 1193))]) (stN := [(0, 0), (0, 1195), (4, 1)]) (hsN := jpA_2524) (c1 := 0) (s1 := 0) (c2 := 0) (s2 := 0) (by decide +kernel) ?_ (by omega) (by omega)
  refine jT_iast (x := 0) (a := 1) (j := 1195) (fs := []) (X := ((((jS0).set 1193 0)).set 1194 0)) (by rfl) (by rfl) (by rfl) (by rfl) (by rw [show List.length (((((jS0).set 1193 0)).set 1194 0) : List Int) = 1613 from by rw [List.length_set, List.length_set]; exact (jS0_len)]; omega) ?_
  refine jT_eq (LN := [(3, (0, 2)), (0, (4, 0)), (1, (4, 1)), (2, (0, 1193))]) (stN := []) (hsN := jpA_2526) rfl rfl rfl ?_
  refine jT_advK 14 (pcN := 19) (LN := [(3, (0, 3)), (0, (4, 0)), (1, (4, 1)), (2, (0, 1193))]) (stN := [(0, 0), (0, 1196), (4, 1)]) (hsN := jpA_2526) (c1 := 0) (s1 := 0) (c2 := 0) (s2 := 0) (by decide +kernel) ?_ (by omega) (by omega)
  refine jT_iast (x := 0) (a := 1) (j := 1196) (fs := []) (X := ((((((jS0).set 1193 0)).set 1194 0)).set 1195 0)) (by rfl) (by rfl) (by rfl) (by rfl) (by rw [show List.length (((((((jS0).set 1193 0)).set 1194 0)).set 1195 0) : List Int) = 1613 from by rw [List.length_set, List.length_set, List.length_set]; exact (jS0_len)]; omega) ?_
  refine jT_eq (LN := [(3, (0, 3)), (0, (4, 0)), (1, (4, 1)), (2, (0, 1193))]) (stN := []) (hsN := jpA_2528) rfl rfl rfl ?_
  refine jT_advK 14 (pcN := 19) (LN := [(3, (0, 4)), (0, (4, 0)), (1, (4, 1)), (2, (0, 1193))]) (stN := [(0, 0), (0, 1197), (4, 1)]) (hsN := jpA_2528) (c1 := 0) (s1 := 0) (c2 := 0) (s2 := 0) (by decide +kernel) ?_ (by omega) (by omega)
  refine jT_iast (x := 0) (a := 1) (j := 1197) (fs := []) (X := ((((((((jS0).set 1193 0)).set 1194 0)).set 1195 0)).set 1196 0)) (by rfl) (by rfl) (by rfl) (by rfl) (by rw [show List.length (((((((((jS0).set 1193 0)).set 1194 0)).set 1195 0)).set 1196 0) : List Int) = 1613 from by rw [List.length_set, List.length_set, List.length_set, List.length_set]; exact (jS0_len)]; omega) ?_
  refine jT_eq (LN := [(3, (0, 4)), (0, (4, 0)), (1, (4, 1)), (2, (0, 1193))]) (stN := []) (hsN := jpA_2530) rfl rfl rfl ?_
  refine jT_advK 14 (pcN := 19) (LN := [(3, (0, 5)), (0, (4, 0)), (1, (4, 1)), (2, (0, 1193))]) (stN := [(0, 0), (0, 1198), (4, 1)]) (hsN := jpA_2530) (c1 := 0) (s1 := 0) (c2 := 0) (s2 := 0) (by decide +kernel) ?_ (by omega) (by omega)
  refine jT_iast (x := 0) (a := 1) (j := 1198) (fs := []) (X := ((((((((((jS0).set 1193 0)).set 1194 0)).set 1195 0)).set 1196 0)).set 1197 0)) (by rfl) (by rfl) (by rfl) (by rfl) (by rw [show List.length (((((((((((jS0).set 1193 0)).set 1194 0)).set 1195 0)).set 1196 0)).set 1197 0) : List Int) = 1613 from by rw [List.length_set, List.length_set, List.length_set, List.length_set, List.length_set]; exact (jS0_len)]; omega) ?_
  refine jT_eq (LN := [(3, (0, 5)), (0, (4, 0)), (1, (4, 1)), (2, (0, 1193))]) (stN := []) (hsN := jpA_2532) rfl rfl rfl ?_
  refine jT_advK 12 (pcN := 36) (LN := [(3, (0, 6)), (0, (4, 0)), (1, (4, 1)), (2, (0, 1193))]) (stN := [(0, 1), (0, 1199), (4, 1)]) (hsN := jpA_2532) (c1 := 0) (s1 := 0) (c2 := 0) (s2 := 0) (by decide +kernel) ?_ (by omega) (by omega)
  refine jT_iast (x := 1) (a := 1) (j := 1199) (fs := []) (X := ((((((((((((jS0).set 1193 0)).set 1194 0)).set 1195 0)).set 1196 0)).set 1197 0)).set 1198 0)) (by rfl) (by rfl) (by rfl) (by rfl) (by rw [show List.length (((((((((((((jS0).set 1193 0)).set 1194 0)).set 1195 0)).set 1196 0)).set 1197 0)).set 1198 0) : List Int) = 1613 from by rw [List.length_set, List.length_set, List.length_set, List.length_set, List.length_set, List.length_set]; exact (jS0_len)]; omega) ?_
  refine jT_eq (LN := [(3, (0, 6)), (0, (4, 0)), (1, (4, 1)), (2, (0, 1193))]) (stN := []) (hsN := jpA_2534) rfl rfl rfl ?_
  exact jT_ret rfl (by decide) (by show 16 ≤ 16; decide) (by omega) (by omega) ⟨rfl, rfl, rfl⟩
theorem jI_255_11 : jmI (jm 255) 11 = (.aload_n 0, 1) := by rfl
theorem jI_255_12 : jmI (jm 255) 12 = (.aload_n 0, 1) := by rfl
theorem jI_255_13 : jmI (jm 255) 13 = (.getfield 9, 3) := by rfl
theorem jI_255_16 : jmI (jm 255) 16 = (.sipush 1192, 3) := by rfl
theorem jI_255_19 : jmI (jm 255) 19 = (.iaload, 1) := by rfl
theorem jI_255_20 : jmI (jm 255) 20 = (.bipush 60, 2) := by rfl
theorem jI_255_22 : jmI (jm 255) 22 = (.if_icmp .ge 7, 3) := by rfl
theorem jI_255_25 : jmI (jm 255) 25 = (.iconst 1, 1) := by rfl
theorem jI_255_26 : jmI (jm 255) 26 = (.goto 4, 3) := by rfl
theorem jI_255_30 : jmI (jm 255) 30 = (.iconst 2, 1) := by rfl
theorem jI_255_34 : jmI (jm 255) 34 = (.ifCond .eq 5, 3) := by rfl
theorem jI_255_39 : jmI (jm 255) 39 = (.aload_n 0, 1) := by rfl
theorem jI_255_40 : jmI (jm 255) 40 = (.aload_n 0, 1) := by rfl
theorem jI_255_41 : jmI (jm 255) 41 = (.getfield 9, 3) := by rfl
theorem jI_255_44 : jmI (jm 255) 44 = (.sipush 1192, 3) := by rfl
theorem jI_255_47 : jmI (jm 255) 47 = (.iaload, 1) := by rfl
theorem jI_255_51 : jmI (jm 255) 51 = (.aload_n 0, 1) := by rfl
theorem jI_255_52 : jmI (jm 255) 52 = (.aload_n 0, 1) := by rfl
theorem jI_255_53 : jmI (jm 255) 53 = (.getfield 9, 3) := by rfl
theorem jI_255_56 : jmI (jm 255) 56 = (.bipush 7, 2) := by rfl
theorem jI_255_58 : jmI (jm 255) 58 = (.iload_n 1, 1) := by rfl
theorem jI_255_59 : jmI (jm 255) 59 = (.imul, 1) := by rfl
theorem jI_255_60 : jmI (jm 255) 60 = (.iload_n 2, 1) := by rfl
theorem jI_255_61 : jmI (jm 255) 61 = (.ifCond .eq 9, 3) := by rfl
theorem jI_255_67 : jmI (jm 255) 67 = (.goto 4, 3) := by rfl
theorem jI_255_74 : jmI (jm 255) 74 = (.aload_n 0, 1) := by rfl
theorem jI_255_75 : jmI (jm 255) 75 = (.aload_n 0, 1) := by rfl
theorem jI_255_79 : jmI (jm 255) 79 = (.iconst 3, 1) := by rfl
theorem jI_255_83 : jmI (jm 255) 83 = (.ifCond .eq 5, 3) := by rfl
theorem jI_255_88 : jmI (jm 255) 88 = (.aload_n 0, 1) := by rfl
theorem jI_255_92 : jmI (jm 255) 92 = (.aload_n 0, 1) := by rfl
theorem jI_255_93 : jmI (jm 255) 93 = (.iload_n 1, 1) := by rfl
theorem jI_255_97 : jmI (jm 255) 97 = (.iconst 0, 1) := by rfl
theorem jI_255_98 : jmI (jm 255) 98 = (.istore_n 3, 1) := by rfl
theorem jI_255_99 : jmI (jm 255) 99 = (.iload_n 3, 1) := by rfl
theorem jI_255_100 : jmI (jm 255) 100 = (.bipush 6, 2) := by rfl
theorem jI_255_102 : jmI (jm 255) 102 = (.if_icmp .ge 26, 3) := by rfl
theorem jI_255_105 : jmI (jm 255) 105 = (.iload_n 2, 1) := by rfl
theorem jI_255_106 : jmI (jm 255) 106 = (.ifCond .eq 22, 3) := by rfl
theorem jI_255_109 : jmI (jm 255) 109 = (.aload_n 0, 1) := by rfl
theorem jI_255_110 : jmI (jm 255) 110 = (.getfield 31, 3) := by rfl
theorem jI_255_113 : jmI (jm 255) 113 = (.iload_n 3, 1) := by rfl
theorem jI_255_114 : jmI (jm 255) 114 = (.aload_n 0, 1) := by rfl
theorem jI_255_115 : jmI (jm 255) 115 = (.getfield 31, 3) := by rfl
theorem jI_255_118 : jmI (jm 255) 118 = (.iload_n 3, 1) := by rfl
theorem jI_255_119 : jmI (jm 255) 119 = (.laload, 1) := by rfl
theorem jI_255_122 : jmI (jm 255) 122 = (.iinc 3 1, 3) := by rfl
theorem jI_255_125 : jmI (jm 255) 125 = (.goto (-26), 3) := by rfl
theorem jI_255_128 : jmI (jm 255) 128 = (.aload_n 0, 1) := by rfl
theorem jI_255_129 : jmI (jm 255) 129 = (.aload_n 0, 1) := by rfl
theorem jI_255_130 : jmI (jm 255) 130 = (.getfield 9, 3) := by rfl
theorem jI_255_133 : jmI (jm 255) 133 = (.sipush 1193, 3) := by rfl
theorem jI_255_136 : jmI (jm 255) 136 = (.bipush 7, 2) := by rfl
theorem jI_255_138 : jmI (jm 255) 138 = (.aload_n 0, 1) := by rfl
theorem jI_255_139 : jmI (jm 255) 139 = (.getfield 9, 3) := by rfl
theorem jI_255_142 : jmI (jm 255) 142 = (.sipush 1192, 3) := by rfl
theorem jI_255_145 : jmI (jm 255) 145 = (.iaload, 1) := by rfl
theorem jI_255_146 : jmI (jm 255) 146 = (.imul, 1) := by rfl
theorem jI_255_147 : jmI (jm 255) 147 = (.iadd, 1) := by rfl
def jpA_2594 : List JC := [jzA_200, jzA_2533, (100, [], []), jzA_196, jzA_201, jgh, jgh, (101, [], [0, 0, 0, 0, 0, 0]), jgh, jgh, jgh, jgh, jgh, jgh, jgh, jgh, (100, [], jS0), jgh, jgh, jgh, jgh, jgh, jgh, jgh]
theorem jI_255_151 : jmI (jm 255) 151 = (.aload_n 0, 1) := by rfl
theorem jI_255_152 : jmI (jm 255) 152 = (.getfield 9, 3) := by rfl
theorem jI_255_155 : jmI (jm 255) 155 = (.sipush 1192, 3) := by rfl
theorem jI_255_159 : jmI (jm 255) 159 = (.iaload, 1) := by rfl
theorem jI_255_160 : jmI (jm 255) 160 = (.iconst 1, 1) := by rfl
theorem jI_255_161 : jmI (jm 255) 161 = (.iadd, 1) := by rfl
def jzA_2601 : JC := (100, [], ((((((((((((((((jS0).set 1193 0)).set 1194 0)).set 1195 0)).set 1196 0)).set 1197 0)).set 1198 0)).set 1199 1)).set 1192 1))
def jpA_2602 : List JC := [jzA_200, jzA_2601, (100, [], []), jzA_196, jzA_201, jgh, jgh, (101, [], [0, 0, 0, 0, 0, 0]), jgh, jgh, jgh, jgh, jgh, jgh, jgh, jgh, (100, [], jS0), jgh, jgh, jgh, jgh, jgh, jgh, jgh]
theorem jI_255_163 : jmI (jm 255) 163 = (.aload_n 0, 1) := by rfl
theorem jI_255_164 : jmI (jm 255) 164 = (.getfield 9, 3) := by rfl
theorem jI_255_167 : jmI (jm 255) 167 = (.sipush 1192, 3) := by rfl
theorem jI_255_170 : jmI (jm 255) 170 = (.iaload, 1) := by rfl
theorem jA_255_653 {xs : List Int} {d : Nat} {x1 : Int} (h_x1 : 0 ≤ x1 ∧ x1 ≤ 7) : jT xs (d + 3) 255 24 0 [(0, (4, 0)), (1, (0, x1)), (2, (0, 1))] [] jpA_248 0 0 (fun k v hsN => k = 0 ∧ v = (0, 1) ∧ hsN = jpA_2602) := by
  refine jT_xaload_n (v := (4, 0)) (pcN := 1) jI_255_0 rfl rfl rfl ?_
  refine jT_xiload_n (v := (0, x1)) (pcN := 2) jI_255_1 rfl rfl rfl ?_
  refine jT_fR [] 24 (y := 188) (pcN := 5) (dC := 1) (bc1 := 0) (bc2 := 0) (c1 := 0) (c2 := 0) (as := [(0, x1)]) (asC := [(0, x1)]) (LN := [(0, (4, 0)), (1, (0, x1)), (2, (0, 1))]) (stN := [(4, 0)]) (hsC := []) (v := (0, 1)) (st2 := [(0, 1), (4, 0)]) (jA_188_13 (d := 0) (by omega)) (by rfl) (by rfl) (by decide +kernel) (by rfl) (by rfl) (by omega) (by omega) (by omega) (by omega) rfl ?_
  refine jT_fR [0, 1, 2, 3, 4, 5, 6, 7, 8, 9, 10, 11, 12, 13, 14, 15] 24 (y := 190) (pcN := 8) (dC := 1) (bc1 := 0) (bc2 := 0) (c1 := 0) (c2 := 0) (as := [(4, 0), (0, 1)]) (asC := [(4, 0), (0, 1)]) (LN := [(0, (4, 0)), (1, (0, x1)), (2, (0, 1))]) (stN := []) (hsC := jpA_22) (v := (0, 0)) (st2 := [(0, 0)]) (jA_190_39 (d := 0)) (by rfl) (by rfl) (by decide +kernel) (by rfl) (by rfl) (by omega) (by omega) (by omega) (by omega) rfl ?_
  refine jT_xifF (t := 37) (pcN := 11) jI_255_8 rfl (by decide +kernel) rfl rfl ?_
  refine jT_xaload_n (v := (4, 0)) (pcN := 12) jI_255_11 rfl rfl rfl ?_
  refine jT_xaload_n (v := (4, 0)) (pcN := 13) jI_255_12 rfl rfl rfl ?_
  refine jT_xgetf (a := 0) (t := 1) (ci := 14) (fi := 1) (c := jzA_21) (v := (4, 1)) (pcN := 16) jI_255_13 rfl rfl rfl rfl rfl rfl rfl ?_
  refine jT_xsipush (k := 1192) (pcN := 19) jI_255_16 (by decide) rfl ?_
  refine jT_iald (x := 0) (a := 1) (j := 1192) (fs := []) (X := jS0) (by rfl) (by rfl) (by rfl) (by rfl) (by decide +kernel) ?_
  refine jT_eq (LN := [(0, (4, 0)), (1, (0, x1)), (2, (0, 1))]) (stN := [(0, 0), (4, 0)]) (hsN := jpA_248) rfl rfl rfl ?_
  refine jT_xbipush (k := 60) (pcN := 22) jI_255_20 (by decide) rfl ?_
  refine jT_xicF (t := 29) (pcN := 25) jI_255_22 rfl (by decide +kernel) rfl rfl ?_
  refine jT_xiconst (k := 1) (pcN := 26) jI_255_25 rfl ?_
  refine jT_xgoto (pcN := 30) jI_255_26 rfl ?_
  refine jT_xiconst (k := 2) (pcN := 31) jI_255_30 rfl ?_
  refine jT_fR [0] 24 (y := 191) (pcN := 34) (dC := 0) (bc1 := 0) (bc2 := 0) (c1 := 0) (c2 := 0) (as := [(4, 0), (0, 1), (0, 2)]) (asC := [(4, 0), (0, 1), (0, 2)]) (LN := [(0, (4, 0)), (1, (0, x1)), (2, (0, 1))]) (stN := []) (hsC := [jgh]) (v := (0, 0)) (st2 := [(0, 0)]) (jA_191_49 (d := 0)) (by rfl) (by rfl) (by decide +kernel) (by rfl) (by rfl) (by omega) (by omega) (by omega) (by omega) rfl ?_
  refine jT_xifT (pcN := 39) jI_255_34 rfl (by decide +kernel) rfl ?_
  refine jT_xaload_n (v := (4, 0)) (pcN := 40) jI_255_39 rfl rfl rfl ?_
  refine jT_xaload_n (v := (4, 0)) (pcN := 41) jI_255_40 rfl rfl rfl ?_
  refine jT_xgetf (a := 0) (t := 1) (ci := 14) (fi := 1) (c := jzA_21) (v := (4, 1)) (pcN := 44) jI_255_41 rfl rfl rfl rfl rfl rfl rfl ?_
  refine jT_xsipush (k := 1192) (pcN := 47) jI_255_44 (by decide) rfl ?_
  refine jT_iald (x := 0) (a := 1) (j := 1192) (fs := []) (X := jS0) (by rfl) (by rfl) (by rfl) (by rfl) (by decide +kernel) ?_
  refine jT_eq (LN := [(0, (4, 0)), (1, (0, x1)), (2, (0, 1))]) (stN := [(0, 0), (4, 0)]) (hsN := jpA_248) rfl rfl rfl ?_
  refine jT_fR [0, 1, 2, 3, 4, 5, 6, 7, 8, 9, 10, 11, 12, 13, 14, 15] 24 (y := 256) (pcN := 51) (dC := 1) (bc1 := 0) (bc2 := 0) (c1 := 0) (c2 := 0) (as := [(4, 0), (0, 0)]) (asC := [(4, 0), (0, 0)]) (LN := [(0, (4, 0)), (1, (0, x1)), (2, (0, 1))]) (stN := []) (hsC := jpA_147) (v := (9, 0)) (st2 := []) (jA_256_650 (d := 0)) (by rfl) (by rfl) (by decide +kernel) (by rfl) (by rfl) (by omega) (by omega) (by omega) (by omega) rfl ?_
  refine jT_xaload_n (v := (4, 0)) (pcN := 52) jI_255_51 rfl rfl rfl ?_
  refine jT_xaload_n (v := (4, 0)) (pcN := 53) jI_255_52 rfl rfl rfl ?_
  refine jT_xgetf (a := 0) (t := 1) (ci := 14) (fi := 1) (c := jzA_21) (v := (4, 1)) (pcN := 56) jI_255_53 rfl rfl rfl rfl rfl rfl rfl ?_
  refine jT_xbipush (k := 7) (pcN := 58) jI_255_56 (by decide) rfl ?_
  refine jT_xiload_n (v := (0, x1)) (pcN := 59) jI_255_58 rfl rfl rfl ?_
  refine jT_ximul (x := 7) (y := x1) (z := 7 * x1) (pcN := 60) jI_255_59 rfl (rfl) rfl ?_
  refine jT_xiload_n (v := (0, 1)) (pcN := 61) jI_255_60 rfl rfl rfl ?_
  refine jT_xifF (t := 70) (pcN := 64) jI_255_61 rfl (by decide +kernel) rfl rfl ?_
  refine jT_adv 1 (pcN := 67) (LN := [(0, (4, 0)), (1, (0, x1)), (2, (0, 1))]) (stN := [(1, (-1)), (0, 7 * x1), (4, 1), (4, 0)]) (hsN := jpA_248) (c1 := 0) (s1 := 0) (c2 := 0) (s2 := 0) (by exact rfl) ?_ (by omega) (by omega)
  refine jT_xgoto (pcN := 71) jI_255_67 rfl ?_
  refine jT_fR [0, 1, 2, 3, 4, 5, 6, 7, 8, 9, 10, 11, 12, 13, 14, 15] 24 (y := 204) (pcN := 74) (dC := 2) (bc1 := 0) (bc2 := 0) (c1 := 0) (c2 := 0) (as := [(4, 0), (4, 1), (0, 7 * x1), (1, (-1))]) (asC := [(4, 0), (4, 1), (0, 7 * x1), (1, (-1))]) (LN := [(0, (4, 0)), (1, (0, x1)), (2, (0, 1))]) (stN := []) (hsC := jpA_130) (v := (9, 0)) (st2 := []) (jA_204_651 (d := 0) (by omega)) (by rfl) (by rfl) (by decide +kernel) (by rfl) (by rfl) (by omega) (by omega) (by omega) (by omega) rfl ?_
  refine jT_xaload_n (v := (4, 0)) (pcN := 75) jI_255_74 rfl rfl rfl ?_
  refine jT_xaload_n (v := (4, 0)) (pcN := 76) jI_255_75 rfl rfl rfl ?_
  refine jT_fR [0, 1, 2, 3, 4, 5, 6, 7, 8, 9, 10, 11, 12, 13, 14, 15] 24 (y := 205) (pcN := 79) (dC := 1) (bc1 := 0) (bc2 := 0) (c1 := 0) (c2 := 0) (as := [(4, 0)]) (asC := [(4, 0)]) (LN := [(0, (4, 0)), (1, (0, x1)), (2, (0, 1))]) (stN := [(4, 0)]) (hsC := jpA_147) (v := (0, 1)) (st2 := [(0, 1), (4, 0)]) (jA_205_48 (d := 0)) (by rfl) (by rfl) (by decide +kernel) (by rfl) (by rfl) (by omega) (by omega) (by omega) (by omega) rfl ?_
  refine jT_xiconst (k := 3) (pcN := 80) jI_255_79 rfl ?_
  refine jT_fR [0] 24 (y := 191) (pcN := 83) (dC := 0) (bc1 := 0) (bc2 := 0) (c1 := 0) (c2 := 0) (as := [(4, 0), (0, 1), (0, 3)]) (asC := [(4, 0), (0, 1), (0, 3)]) (LN := [(0, (4, 0)), (1, (0, x1)), (2, (0, 1))]) (stN := []) (hsC := [jgh]) (v := (0, 0)) (st2 := [(0, 0)]) (jA_191_117 (d := 0)) (by rfl) (by rfl) (by decide +kernel) (by rfl) (by rfl) (by omega) (by omega) (by omega) (by omega) rfl ?_
  refine jT_xifT (pcN := 88) jI_255_83 rfl (by decide +kernel) rfl ?_
  refine jT_xaload_n (v := (4, 0)) (pcN := 89) jI_255_88 rfl rfl rfl ?_
  refine jT_fB [0, 1, 2, 3, 4, 5, 6, 7, 8, 9, 10, 11, 12, 13, 14, 15, 16, 17, 18, 19, 20, 21, 22, 23] 24 (y := 195) (pcN := 92) (dC := 0) (bc1 := 0) (bc2 := 0) (c1 := 0) (c2 := 0) (as := [(4, 0)]) (asC := [(4, 0)]) (LN := [(0, (4, 0)), (1, (0, x1)), (2, (0, 1))]) (stN := []) (hsC := jpA_198) (hsD := jpA_202) (v := (9, 0)) (st2 := []) (hs2 := jpA_255) (jA_195_50 (d := 0)) (by rfl) (by rfl) (by decide +kernel) (by rfl) (by rfl) (by omega) (by omega) (by omega) (by omega) rfl (by decide +kernel) ?_
  refine jT_xaload_n (v := (4, 0)) (pcN := 93) jI_255_92 rfl rfl rfl ?_
  refine jT_xiload_n (v := (0, x1)) (pcN := 94) jI_255_93 rfl rfl rfl ?_
  refine jT_fR [0, 1, 2, 3, 4, 5, 6, 7, 8, 9, 10, 11, 12, 13, 14, 15] 24 (y := 202) (pcN := 97) (dC := 1) (bc1 := 0) (bc2 := 0) (c1 := 0) (c2 := 0) (as := [(4, 0), (0, x1)]) (asC := [(4, 0), (0, x1)]) (LN := [(0, (4, 0)), (1, (0, x1)), (2, (0, 1))]) (stN := []) (hsC := jpA_216) (v := (9, 0)) (st2 := []) (jA_202_299 (d := 0) (by omega)) (by rfl) (by rfl) (by decide +kernel) (by rfl) (by rfl) (by omega) (by omega) (by omega) (by omega) rfl ?_
  refine jT_xiconst (k := 0) (pcN := 98) jI_255_97 rfl ?_
  refine jT_xistore_n (v := (0, 0)) (LN := [(3, (0, 0)), (0, (4, 0)), (1, (0, x1)), (2, (0, 1))]) (pcN := 99) jI_255_98 rfl rfl rfl rfl ?_
  refine jT_xiload_n (v := (0, 0)) (pcN := 100) jI_255_99 rfl rfl rfl ?_
  refine jT_xbipush (k := 6) (pcN := 102) jI_255_100 (by decide) rfl ?_
  refine jT_xicF (t := 128) (pcN := 105) jI_255_102 rfl (by decide +kernel) rfl rfl ?_
  refine jT_xiload_n (v := (0, 1)) (pcN := 106) jI_255_105 rfl rfl rfl ?_
  refine jT_xifF (t := 128) (pcN := 109) jI_255_106 rfl (by decide +kernel) rfl rfl ?_
  refine jT_xaload_n (v := (4, 0)) (pcN := 110) jI_255_109 rfl rfl rfl ?_
  refine jT_xgetf (a := 0) (t := 1) (ci := 14) (fi := 9) (c := jzA_200) (v := (4, 7)) (pcN := 113) jI_255_110 rfl rfl rfl rfl rfl rfl rfl ?_
  refine jT_xiload_n (v := (0, 0)) (pcN := 114) jI_255_113 rfl rfl rfl ?_
  refine jT_xaload_n (v := (4, 0)) (pcN := 115) jI_255_114 rfl rfl rfl ?_
  refine jT_xgetf (a := 0) (t := 1) (ci := 14) (fi := 9) (c := jzA_200) (v := (4, 7)) (pcN := 118) jI_255_115 rfl rfl rfl rfl rfl rfl rfl ?_
  refine jT_xiload_n (v := (0, 0)) (pcN := 119) jI_255_118 rfl rfl rfl ?_
  refine jT_lald (x := 0) (a := 7) (j := 0) (fs := []) (X := [0, 0, 0, 0, 0, 0]) jI_255_119 rfl rfl rfl rfl ?_
  refine jT_eq (LN := [(3, (0, 0)), (0, (4, 0)), (1, (0, x1)), (2, (0, 1))]) (stN := [(1, 0), (0, 0), (4, 7)]) (hsN := jpA_255) rfl rfl rfl ?_
  refine jT_adv 2 (pcN := 122) (LN := [(3, (0, 0)), (0, (4, 0)), (1, (0, x1)), (2, (0, 1))]) (stN := []) (hsN := jpA_255) (c1 := 0) (s1 := 0) (c2 := 0) (s2 := 0) (by exact rfl) ?_ (by omega) (by omega)
  refine jT_xiinc (x := 0) (z := 1) (LN := [(3, (0, 1)), (0, (4, 0)), (1, (0, x1)), (2, (0, 1))]) (pcN := 125) jI_255_122 rfl rfl (by decide) rfl rfl ?_
  refine jT_xgoto (pcN := 99) jI_255_125 rfl ?_
  refine jT_xiload_n (v := (0, 1)) (pcN := 100) jI_255_99 rfl rfl rfl ?_
  refine jT_xbipush (k := 6) (pcN := 102) jI_255_100 (by decide) rfl ?_
  refine jT_xicF (t := 128) (pcN := 105) jI_255_102 rfl (by decide +kernel) rfl rfl ?_
  refine jT_xiload_n (v := (0, 1)) (pcN := 106) jI_255_105 rfl rfl rfl ?_
  refine jT_xifF (t := 128) (pcN := 109) jI_255_106 rfl (by decide +kernel) rfl rfl ?_
  refine jT_xaload_n (v := (4, 0)) (pcN := 110) jI_255_109 rfl rfl rfl ?_
  refine jT_xgetf (a := 0) (t := 1) (ci := 14) (fi := 9) (c := jzA_200) (v := (4, 7)) (pcN := 113) jI_255_110 rfl rfl rfl rfl rfl rfl rfl ?_
  refine jT_xiload_n (v := (0, 1)) (pcN := 114) jI_255_113 rfl rfl rfl ?_
  refine jT_xaload_n (v := (4, 0)) (pcN := 115) jI_255_114 rfl rfl rfl ?_
  refine jT_xgetf (a := 0) (t := 1) (ci := 14) (fi := 9) (c := jzA_200) (v := (4, 7)) (pcN := 118) jI_255_115 rfl rfl rfl rfl rfl rfl rfl ?_
  refine jT_xiload_n (v := (0, 1)) (pcN := 119) jI_255_118 rfl rfl rfl ?_
  refine jT_lald (x := 0) (a := 7) (j := 1) (fs := []) (X := [0, 0, 0, 0, 0, 0]) jI_255_119 rfl rfl rfl rfl ?_
  refine jT_eq (LN := [(3, (0, 1)), (0, (4, 0)), (1, (0, x1)), (2, (0, 1))]) (stN := [(1, 0), (0, 1), (4, 7)]) (hsN := jpA_255) rfl rfl rfl ?_
  refine jT_adv 2 (pcN := 122) (LN := [(3, (0, 1)), (0, (4, 0)), (1, (0, x1)), (2, (0, 1))]) (stN := []) (hsN := jpA_255) (c1 := 0) (s1 := 0) (c2 := 0) (s2 := 0) (by exact rfl) ?_ (by omega) (by omega)
  refine jT_xiinc (x := 1) (z := 2) (LN := [(3, (0, 2)), (0, (4, 0)), (1, (0, x1)), (2, (0, 1))]) (pcN := 125) jI_255_122 rfl rfl (by decide) rfl rfl ?_
  refine jT_xgoto (pcN := 99) jI_255_125 rfl ?_
  refine jT_xiload_n (v := (0, 2)) (pcN := 100) jI_255_99 rfl rfl rfl ?_
  refine jT_xbipush (k := 6) (pcN := 102) jI_255_100 (by decide) rfl ?_
  refine jT_xicF (t := 128) (pcN := 105) jI_255_102 rfl (by decide +kernel) rfl rfl ?_
  refine jT_xiload_n (v := (0, 1)) (pcN := 106) jI_255_105 rfl rfl rfl ?_
  refine jT_xifF (t := 128) (pcN := 109) jI_255_106 rfl (by decide +kernel) rfl rfl ?_
  refine jT_xaload_n (v := (4, 0)) (pcN := 110) jI_255_109 rfl rfl rfl ?_
  refine jT_xgetf (a := 0) (t := 1) (ci := 14) (fi := 9) (c := jzA_200) (v := (4, 7)) (pcN := 113) jI_255_110 rfl rfl rfl rfl rfl rfl rfl ?_
  refine jT_xiload_n (v := (0, 2)) (pcN := 114) jI_255_113 rfl rfl rfl ?_
  refine jT_xaload_n (v := (4, 0)) (pcN := 115) jI_255_114 rfl rfl rfl ?_
  refine jT_xgetf (a := 0) (t := 1) (ci := 14) (fi := 9) (c := jzA_200) (v := (4, 7)) (pcN := 118) jI_255_115 rfl rfl rfl rfl rfl rfl rfl ?_
  refine jT_xiload_n (v := (0, 2)) (pcN := 119) jI_255_118 rfl rfl rfl ?_
  refine jT_lald (x := 0) (a := 7) (j := 2) (fs := []) (X := [0, 0, 0, 0, 0, 0]) jI_255_119 rfl rfl rfl rfl ?_
  refine jT_eq (LN := [(3, (0, 2)), (0, (4, 0)), (1, (0, x1)), (2, (0, 1))]) (stN := [(1, 0), (0, 2), (4, 7)]) (hsN := jpA_255) rfl rfl rfl ?_
  refine jT_adv 2 (pcN := 122) (LN := [(3, (0, 2)), (0, (4, 0)), (1, (0, x1)), (2, (0, 1))]) (stN := []) (hsN := jpA_255) (c1 := 0) (s1 := 0) (c2 := 0) (s2 := 0) (by exact rfl) ?_ (by omega) (by omega)
  refine jT_xiinc (x := 2) (z := 3) (LN := [(3, (0, 3)), (0, (4, 0)), (1, (0, x1)), (2, (0, 1))]) (pcN := 125) jI_255_122 rfl rfl (by decide) rfl rfl ?_
  refine jT_xgoto (pcN := 99) jI_255_125 rfl ?_
  refine jT_xiload_n (v := (0, 3)) (pcN := 100) jI_255_99 rfl rfl rfl ?_
  refine jT_xbipush (k := 6) (pcN := 102) jI_255_100 (by decide) rfl ?_
  refine jT_xicF (t := 128) (pcN := 105) jI_255_102 rfl (by decide +kernel) rfl rfl ?_
  refine jT_xiload_n (v := (0, 1)) (pcN := 106) jI_255_105 rfl rfl rfl ?_
  refine jT_xifF (t := 128) (pcN := 109) jI_255_106 rfl (by decide +kernel) rfl rfl ?_
  refine jT_xaload_n (v := (4, 0)) (pcN := 110) jI_255_109 rfl rfl rfl ?_
  refine jT_xgetf (a := 0) (t := 1) (ci := 14) (fi := 9) (c := jzA_200) (v := (4, 7)) (pcN := 113) jI_255_110 rfl rfl rfl rfl rfl rfl rfl ?_
  refine jT_xiload_n (v := (0, 3)) (pcN := 114) jI_255_113 rfl rfl rfl ?_
  refine jT_xaload_n (v := (4, 0)) (pcN := 115) jI_255_114 rfl rfl rfl ?_
  refine jT_xgetf (a := 0) (t := 1) (ci := 14) (fi := 9) (c := jzA_200) (v := (4, 7)) (pcN := 118) jI_255_115 rfl rfl rfl rfl rfl rfl rfl ?_
  refine jT_xiload_n (v := (0, 3)) (pcN := 119) jI_255_118 rfl rfl rfl ?_
  refine jT_lald (x := 0) (a := 7) (j := 3) (fs := []) (X := [0, 0, 0, 0, 0, 0]) jI_255_119 rfl rfl rfl rfl ?_
  refine jT_eq (LN := [(3, (0, 3)), (0, (4, 0)), (1, (0, x1)), (2, (0, 1))]) (stN := [(1, 0), (0, 3), (4, 7)]) (hsN := jpA_255) rfl rfl rfl ?_
  refine jT_adv 2 (pcN := 122) (LN := [(3, (0, 3)), (0, (4, 0)), (1, (0, x1)), (2, (0, 1))]) (stN := []) (hsN := jpA_255) (c1 := 0) (s1 := 0) (c2 := 0) (s2 := 0) (by exact rfl) ?_ (by omega) (by omega)
  refine jT_xiinc (x := 3) (z := 4) (LN := [(3, (0, 4)), (0, (4, 0)), (1, (0, x1)), (2, (0, 1))]) (pcN := 125) jI_255_122 rfl rfl (by decide) rfl rfl ?_
  refine jT_xgoto (pcN := 99) jI_255_125 rfl ?_
  refine jT_xiload_n (v := (0, 4)) (pcN := 100) jI_255_99 rfl rfl rfl ?_
  refine jT_xbipush (k := 6) (pcN := 102) jI_255_100 (by decide) rfl ?_
  refine jT_xicF (t := 128) (pcN := 105) jI_255_102 rfl (by decide +kernel) rfl rfl ?_
  refine jT_xiload_n (v := (0, 1)) (pcN := 106) jI_255_105 rfl rfl rfl ?_
  refine jT_xifF (t := 128) (pcN := 109) jI_255_106 rfl (by decide +kernel) rfl rfl ?_
  refine jT_xaload_n (v := (4, 0)) (pcN := 110) jI_255_109 rfl rfl rfl ?_
  refine jT_xgetf (a := 0) (t := 1) (ci := 14) (fi := 9) (c := jzA_200) (v := (4, 7)) (pcN := 113) jI_255_110 rfl rfl rfl rfl rfl rfl rfl ?_
  refine jT_xiload_n (v := (0, 4)) (pcN := 114) jI_255_113 rfl rfl rfl ?_
  refine jT_xaload_n (v := (4, 0)) (pcN := 115) jI_255_114 rfl rfl rfl ?_
  refine jT_xgetf (a := 0) (t := 1) (ci := 14) (fi := 9) (c := jzA_200) (v := (4, 7)) (pcN := 118) jI_255_115 rfl rfl rfl rfl rfl rfl rfl ?_
  refine jT_xiload_n (v := (0, 4)) (pcN := 119) jI_255_118 rfl rfl rfl ?_
  refine jT_lald (x := 0) (a := 7) (j := 4) (fs := []) (X := [0, 0, 0, 0, 0, 0]) jI_255_119 rfl rfl rfl rfl ?_
  refine jT_eq (LN := [(3, (0, 4)), (0, (4, 0)), (1, (0, x1)), (2, (0, 1))]) (stN := [(1, 0), (0, 4), (4, 7)]) (hsN := jpA_255) rfl rfl rfl ?_
  refine jT_adv 2 (pcN := 122) (LN := [(3, (0, 4)), (0, (4, 0)), (1, (0, x1)), (2, (0, 1))]) (stN := []) (hsN := jpA_255) (c1 := 0) (s1 := 0) (c2 := 0) (s2 := 0) (by exact rfl) ?_ (by omega) (by omega)
  refine jT_xiinc (x := 4) (z := 5) (LN := [(3, (0, 5)), (0, (4, 0)), (1, (0, x1)), (2, (0, 1))]) (pcN := 125) jI_255_122 rfl rfl (by decide) rfl rfl ?_
  refine jT_xgoto (pcN := 99) jI_255_125 rfl ?_
  refine jT_xiload_n (v := (0, 5)) (pcN := 100) jI_255_99 rfl rfl rfl ?_
  refine jT_xbipush (k := 6) (pcN := 102) jI_255_100 (by decide) rfl ?_
  refine jT_xicF (t := 128) (pcN := 105) jI_255_102 rfl (by decide +kernel) rfl rfl ?_
  refine jT_xiload_n (v := (0, 1)) (pcN := 106) jI_255_105 rfl rfl rfl ?_
  refine jT_xifF (t := 128) (pcN := 109) jI_255_106 rfl (by decide +kernel) rfl rfl ?_
  refine jT_xaload_n (v := (4, 0)) (pcN := 110) jI_255_109 rfl rfl rfl ?_
  refine jT_xgetf (a := 0) (t := 1) (ci := 14) (fi := 9) (c := jzA_200) (v := (4, 7)) (pcN := 113) jI_255_110 rfl rfl rfl rfl rfl rfl rfl ?_
  refine jT_xiload_n (v := (0, 5)) (pcN := 114) jI_255_113 rfl rfl rfl ?_
  refine jT_xaload_n (v := (4, 0)) (pcN := 115) jI_255_114 rfl rfl rfl ?_
  refine jT_xgetf (a := 0) (t := 1) (ci := 14) (fi := 9) (c := jzA_200) (v := (4, 7)) (pcN := 118) jI_255_115 rfl rfl rfl rfl rfl rfl rfl ?_
  refine jT_xiload_n (v := (0, 5)) (pcN := 119) jI_255_118 rfl rfl rfl ?_
  refine jT_lald (x := 0) (a := 7) (j := 5) (fs := []) (X := [0, 0, 0, 0, 0, 0]) jI_255_119 rfl rfl rfl rfl ?_
  refine jT_eq (LN := [(3, (0, 5)), (0, (4, 0)), (1, (0, x1)), (2, (0, 1))]) (stN := [(1, 0), (0, 5), (4, 7)]) (hsN := jpA_255) rfl rfl rfl ?_
  refine jT_adv 2 (pcN := 122) (LN := [(3, (0, 5)), (0, (4, 0)), (1, (0, x1)), (2, (0, 1))]) (stN := []) (hsN := jpA_255) (c1 := 0) (s1 := 0) (c2 := 0) (s2 := 0) (by exact rfl) ?_ (by omega) (by omega)
  refine jT_xiinc (x := 5) (z := 6) (LN := [(3, (0, 6)), (0, (4, 0)), (1, (0, x1)), (2, (0, 1))]) (pcN := 125) jI_255_122 rfl rfl (by decide) rfl rfl ?_
  refine jT_xgoto (pcN := 99) jI_255_125 rfl ?_
  refine jT_xiload_n (v := (0, 6)) (pcN := 100) jI_255_99 rfl rfl rfl ?_
  refine jT_xbipush (k := 6) (pcN := 102) jI_255_100 (by decide) rfl ?_
  refine jT_xicT (pcN := 128) jI_255_102 rfl (by decide +kernel) rfl ?_
  refine jT_xaload_n (v := (4, 0)) (pcN := 129) jI_255_128 rfl rfl rfl ?_
  refine jT_xaload_n (v := (4, 0)) (pcN := 130) jI_255_129 rfl rfl rfl ?_
  refine jT_xgetf (a := 0) (t := 1) (ci := 14) (fi := 1) (c := jzA_200) (v := (4, 1)) (pcN := 133) jI_255_130 rfl rfl rfl rfl rfl rfl rfl ?_
  refine jT_xsipush (k := 1193) (pcN := 136) jI_255_133 (by decide) rfl ?_
  refine jT_xbipush (k := 7) (pcN := 138) jI_255_136 (by decide) rfl ?_
  refine jT_xaload_n (v := (4, 0)) (pcN := 139) jI_255_138 rfl rfl rfl ?_
  refine jT_xgetf (a := 0) (t := 1) (ci := 14) (fi := 1) (c := jzA_200) (v := (4, 1)) (pcN := 142) jI_255_139 rfl rfl rfl rfl rfl rfl rfl ?_
  refine jT_xsipush (k := 1192) (pcN := 145) jI_255_142 (by decide) rfl ?_
  refine jT_iald (x := 0) (a := 1) (j := 1192) (fs := []) (X := jS0) (by rfl) (by rfl) (by rfl) (by rfl) (by decide +kernel) ?_
  refine jT_eq (LN := [(3, (0, 6)), (0, (4, 0)), (1, (0, x1)), (2, (0, 1))]) (stN := [(0, 0), (0, 7), (0, 1193), (4, 1), (4, 0)]) (hsN := jpA_255) rfl rfl rfl ?_
  refine jT_ximul (x := 7) (y := 0) (z := 0) (pcN := 147) jI_255_146 rfl (by decide) rfl ?_
  refine jT_xiadd (x := 1193) (y := 0) (z := 1193) (pcN := 148) jI_255_147 rfl (by decide) rfl ?_
  refine jT_fB [0, 1, 2, 3, 4, 5, 6, 7, 8, 9, 10, 11, 12, 13, 14, 15] 24 (y := 197) (pcN := 151) (dC := 0) (bc1 := 0) (bc2 := 0) (c1 := 0) (c2 := 0) (as := [(4, 0), (4, 1), (0, 1193)]) (asC := [(4, 0), (4, 1), (0, 1193)]) (LN := [(3, (0, 6)), (0, (4, 0)), (1, (0, x1)), (2, (0, 1))]) (stN := []) (hsC := jpA_216) (hsD := jpA_2534) (v := (9, 0)) (st2 := []) (hs2 := jpA_2594) (jA_197_652 (d := 0)) (by rfl) (by rfl) (by decide +kernel) (by rfl) (by rfl) (by omega) (by omega) (by omega) (by omega) rfl (by decide +kernel) ?_
  refine jT_xaload_n (v := (4, 0)) (pcN := 152) jI_255_151 rfl rfl rfl ?_
  refine jT_xgetf (a := 0) (t := 1) (ci := 14) (fi := 1) (c := jzA_200) (v := (4, 1)) (pcN := 155) jI_255_152 rfl rfl rfl rfl rfl rfl rfl ?_
  refine jT_xsipush (k := 1192) (pcN := 158) jI_255_155 (by decide) rfl ?_
  refine jT_adv 1 (pcN := 159) (LN := [(3, (0, 6)), (0, (4, 0)), (1, (0, x1)), (2, (0, 1))]) (stN := [(0, 1192), (4, 1), (0, 1192), (4, 1)]) (hsN := jpA_2594) (c1 := 0) (s1 := 0) (c2 := 0) (s2 := 0) (by exact rfl) ?_ (by omega) (by omega)
  refine jT_iald (x := 0) (a := 1) (j := 1192) (fs := []) (X := ((((((((((((((jS0).set 1193 0)).set 1194 0)).set 1195 0)).set 1196 0)).set 1197 0)).set 1198 0)).set 1199 1)) (by rfl) (by rfl) (by rfl) (by rfl) (by rw [List.getElem?_set_ne (by omega), List.getElem?_set_ne (by omega), List.getElem?_set_ne (by omega), List.getElem?_set_ne (by omega), List.getElem?_set_ne (by omega), List.getElem?_set_ne (by omega), List.getElem?_set_ne (by omega)]; exact (by decide +kernel)) ?_
  refine jT_eq (LN := [(3, (0, 6)), (0, (4, 0)), (1, (0, x1)), (2, (0, 1))]) (stN := [(0, 0), (0, 1192), (4, 1)]) (hsN := jpA_2594) rfl rfl rfl ?_
  refine jT_xiconst (k := 1) (pcN := 161) jI_255_160 rfl ?_
  refine jT_xiadd (x := 0) (y := 1) (z := 1) (pcN := 162) jI_255_161 rfl (by decide) rfl ?_
  refine jT_iast (x := 1) (a := 1) (j := 1192) (fs := []) (X := ((((((((((((((jS0).set 1193 0)).set 1194 0)).set 1195 0)).set 1196 0)).set 1197 0)).set 1198 0)).set 1199 1)) (by rfl) (by rfl) (by rfl) (by rfl) (by rw [show List.length (((((((((((((((jS0).set 1193 0)).set 1194 0)).set 1195 0)).set 1196 0)).set 1197 0)).set 1198 0)).set 1199 1) : List Int) = 1613 from by rw [List.length_set, List.length_set, List.length_set, List.length_set, List.length_set, List.length_set, List.length_set]; exact (jS0_len)]; omega) ?_
  refine jT_eq (LN := [(3, (0, 6)), (0, (4, 0)), (1, (0, x1)), (2, (0, 1))]) (stN := []) (hsN := jpA_2602) rfl rfl rfl ?_
  refine jT_xaload_n (v := (4, 0)) (pcN := 164) jI_255_163 rfl rfl rfl ?_
  refine jT_xgetf (a := 0) (t := 1) (ci := 14) (fi := 1) (c := jzA_200) (v := (4, 1)) (pcN := 167) jI_255_164 rfl rfl rfl rfl rfl rfl rfl ?_
  refine jT_xsipush (k := 1192) (pcN := 170) jI_255_167 (by decide) rfl ?_
  refine jT_iald (x := 1) (a := 1) (j := 1192) (fs := []) (X := ((((((((((((((((jS0).set 1193 0)).set 1194 0)).set 1195 0)).set 1196 0)).set 1197 0)).set 1198 0)).set 1199 1)).set 1192 1)) (by rfl) (by rfl) (by rfl) (by rfl) (by rw [List.getElem?_set_self (by simp only [List.length_set, List.length_replicate, List.length_cons, List.length_nil, jS0_len]; omega)]) ?_
  refine jT_eq (LN := [(3, (0, 6)), (0, (4, 0)), (1, (0, x1)), (2, (0, 1))]) (stN := [(0, 1)]) (hsN := jpA_2602) rfl rfl rfl ?_
  exact jT_ret rfl (by decide) (by show 24 ≤ 24; decide) (by omega) (by omega) ⟨rfl, rfl, rfl⟩
theorem jA_134_654 {xs : List Int} {d : Nat} {x1 : Int} (h_x1 : 8 ≤ x1 ∧ x1 ≤ 2147483647) : jT xs (d + 1) 134 12 0 [(0, (4, 0)), (1, (0, x1)), (2, (0, 1))] [] jpA_6 1 6 (fun k v hsN => k = 1 ∧ v = (0, 0) ∧ hsN = jpA_6 ++ []) := by
  refine jT_xaload_n (v := (4, 0)) (pcN := 1) jI_134_0 rfl rfl rfl ?_
  refine jT_xiload_n (v := (0, x1)) (pcN := 2) jI_134_1 rfl rfl rfl ?_
  refine jT_xbipush (k := 8) (pcN := 4) jI_134_2 (by decide) rfl ?_
  exact jT_fX [0] 12 (y := 115) (pcN := 7) (dC := 0) (bc1 := 1) (bc2 := 6) (as := [(4, 0), (0, x1), (0, 8)]) (asC := [(4, 0), (0, x1), (0, 8)]) (LN := [(0, (4, 0)), (1, (0, x1)), (2, (0, 1))]) (stN := []) (hsC := [jgh]) (e := 0) (jA_115_65 (d := 0) (by omega)) (by rfl) (by rfl) (by decide +kernel) (by rfl) (by rfl) (by omega) (by omega) (by omega) (by omega) ⟨rfl, ⟨rfl, rfl, rfl⟩⟩
theorem jA_341_655 {xs : List Int} {d : Nat} {x1 : Int} (h_x1 : 8 ≤ x1 ∧ x1 ≤ 2147483647) : jT xs (d + 2) 341 13 0 [(0, (4, 0)), (1, (0, x1)), (2, (0, 1)), (3, (4, 1))] [] jpA_15 1 6 (fun k v hsN => k = 0 ∧ v = (0, 1) ∧ hsN = jpA_15 ++ []) := by
  refine jT_xaload_n (v := (4, 1)) (pcN := 1) jI_341_0 rfl rfl rfl ?_
  refine jT_xiconst (k := 0) (pcN := 2) jI_341_1 rfl ?_
  refine jT_xaload_n (v := (4, 0)) (pcN := 3) jI_341_2 rfl rfl rfl ?_
  refine jT_xiload_n (v := (0, x1)) (pcN := 4) jI_341_3 rfl rfl rfl ?_
  refine jT_xiload_n (v := (0, 1)) (pcN := 5) jI_341_4 rfl rfl rfl ?_
  exact jT_fX [0, 2, 3, 4, 5, 6, 7, 8, 9, 10, 11, 12] 13 (y := 134) (pcN := 8) (dC := 1) (bc1 := 1) (bc2 := 6) (as := [(4, 0), (0, x1), (0, 1)]) (asC := [(4, 0), (0, x1), (0, 1)]) (LN := [(0, (4, 0)), (1, (0, x1)), (2, (0, 1)), (3, (4, 1))]) (stN := [(0, 0), (4, 1)]) (hsC := jpA_6) (e := 0) (jA_134_654 (d := 0) (by omega)) (by rfl) (by rfl) (by decide +kernel) (by rfl) (by rfl) (by omega) (by omega) (by omega) (by omega) (show _ from ⟨rfl, rfl, rfl⟩)
theorem jA_255_656 {xs : List Int} {d : Nat} {x1 : Int} (h_x1 : 8 ≤ x1 ∧ x1 ≤ 2147483647) : jT xs (d + 2) 255 16 0 [(0, (4, 0)), (1, (0, x1)), (2, (0, 1))] [] jpA_22 0 0 (fun k v hsN => k = 0 ∧ v = (0, 0) ∧ hsN = jpA_20) := by
  refine jT_xaload_n (v := (4, 0)) (pcN := 1) jI_255_0 rfl rfl rfl ?_
  refine jT_xiload_n (v := (0, x1)) (pcN := 2) jI_255_1 rfl rfl rfl ?_
  refine jT_fR [] 16 (y := 188) (pcN := 5) (dC := 1) (bc1 := 0) (bc2 := 0) (c1 := 0) (c2 := 0) (as := [(0, x1)]) (asC := [(0, x1)]) (LN := [(0, (4, 0)), (1, (0, x1)), (2, (0, 1))]) (stN := [(4, 0)]) (hsC := []) (v := (0, 0)) (st2 := [(0, 0), (4, 0)]) (jA_188_68 (d := 0) (by omega)) (by rfl) (by rfl) (by decide +kernel) (by rfl) (by rfl) (by omega) (by omega) (by omega) (by omega) rfl ?_
  refine jT_fB [0, 1, 2, 3, 4, 5, 6, 7, 8, 9, 10, 11, 12, 13, 14, 15] 16 (y := 190) (pcN := 8) (dC := 1) (bc1 := 0) (bc2 := 0) (c1 := 0) (c2 := 0) (as := [(4, 0), (0, 0)]) (asC := [(4, 0), (0, 0)]) (LN := [(0, (4, 0)), (1, (0, x1)), (2, (0, 1))]) (stN := []) (hsC := jpA_22) (hsD := jpA_20) (v := (0, 1)) (st2 := [(0, 1)]) (hs2 := jpA_20) (jA_190_6 (d := 0)) (by rfl) (by rfl) (by decide +kernel) (by rfl) (by rfl) (by omega) (by omega) (by omega) (by omega) rfl (by decide +kernel) ?_
  refine jT_xifT (pcN := 37) jI_255_8 rfl (by decide +kernel) rfl ?_
  refine jT_xiconst (k := 0) (pcN := 38) jI_255_37 rfl ?_
  exact jT_ret rfl (by decide) (by show 16 ≤ 16; decide) (by omega) (by omega) ⟨rfl, rfl, rfl⟩
theorem jA_134_657 {xs : List Int} {d : Nat} {x1 : Int} (h_x1 : (-2147483648) ≤ x1 ∧ x1 ≤ (-1)) : jT xs (d + 1) 134 12 0 [(0, (4, 0)), (1, (0, x1)), (2, (0, 0))] [] jpA_6 1 6 (fun k v hsN => k = 1 ∧ v = (0, 0) ∧ hsN = jpA_6 ++ []) := by
  refine jT_xaload_n (v := (4, 0)) (pcN := 1) jI_134_0 rfl rfl rfl ?_
  refine jT_xiload_n (v := (0, x1)) (pcN := 2) jI_134_1 rfl rfl rfl ?_
  refine jT_xbipush (k := 8) (pcN := 4) jI_134_2 (by decide) rfl ?_
  exact jT_fX [0] 12 (y := 115) (pcN := 7) (dC := 0) (bc1 := 1) (bc2 := 6) (as := [(4, 0), (0, x1), (0, 8)]) (asC := [(4, 0), (0, x1), (0, 8)]) (LN := [(0, (4, 0)), (1, (0, x1)), (2, (0, 0))]) (stN := []) (hsC := [jgh]) (e := 0) (jA_115_1 (d := 0) (by omega)) (by rfl) (by rfl) (by decide +kernel) (by rfl) (by rfl) (by omega) (by omega) (by omega) (by omega) ⟨rfl, ⟨rfl, rfl, rfl⟩⟩
theorem jA_341_658 {xs : List Int} {d : Nat} {x1 : Int} (h_x1 : (-2147483648) ≤ x1 ∧ x1 ≤ (-1)) : jT xs (d + 2) 341 13 0 [(0, (4, 0)), (1, (0, x1)), (2, (0, 0)), (3, (4, 1))] [] jpA_15 1 6 (fun k v hsN => k = 0 ∧ v = (0, 1) ∧ hsN = jpA_15 ++ []) := by
  refine jT_xaload_n (v := (4, 1)) (pcN := 1) jI_341_0 rfl rfl rfl ?_
  refine jT_xiconst (k := 0) (pcN := 2) jI_341_1 rfl ?_
  refine jT_xaload_n (v := (4, 0)) (pcN := 3) jI_341_2 rfl rfl rfl ?_
  refine jT_xiload_n (v := (0, x1)) (pcN := 4) jI_341_3 rfl rfl rfl ?_
  refine jT_xiload_n (v := (0, 0)) (pcN := 5) jI_341_4 rfl rfl rfl ?_
  exact jT_fX [0, 2, 3, 4, 5, 6, 7, 8, 9, 10, 11, 12] 13 (y := 134) (pcN := 8) (dC := 1) (bc1 := 1) (bc2 := 6) (as := [(4, 0), (0, x1), (0, 0)]) (asC := [(4, 0), (0, x1), (0, 0)]) (LN := [(0, (4, 0)), (1, (0, x1)), (2, (0, 0)), (3, (4, 1))]) (stN := [(0, 0), (4, 1)]) (hsC := jpA_6) (e := 0) (jA_134_657 (d := 0) (by omega)) (by rfl) (by rfl) (by decide +kernel) (by rfl) (by rfl) (by omega) (by omega) (by omega) (by omega) (show _ from ⟨rfl, rfl, rfl⟩)
theorem jA_255_659 {xs : List Int} {d : Nat} {x1 : Int} (h_x1 : (-2147483648) ≤ x1 ∧ x1 ≤ (-1)) : jT xs (d + 2) 255 16 0 [(0, (4, 0)), (1, (0, x1)), (2, (0, 0))] [] jpA_22 0 0 (fun k v hsN => k = 0 ∧ v = (0, 0) ∧ hsN = jpA_20) := by
  refine jT_xaload_n (v := (4, 0)) (pcN := 1) jI_255_0 rfl rfl rfl ?_
  refine jT_xiload_n (v := (0, x1)) (pcN := 2) jI_255_1 rfl rfl rfl ?_
  refine jT_fR [] 16 (y := 188) (pcN := 5) (dC := 1) (bc1 := 0) (bc2 := 0) (c1 := 0) (c2 := 0) (as := [(0, x1)]) (asC := [(0, x1)]) (LN := [(0, (4, 0)), (1, (0, x1)), (2, (0, 0))]) (stN := [(4, 0)]) (hsC := []) (v := (0, 0)) (st2 := [(0, 0), (4, 0)]) (jA_188_4 (d := 0) (by omega)) (by rfl) (by rfl) (by decide +kernel) (by rfl) (by rfl) (by omega) (by omega) (by omega) (by omega) rfl ?_
  refine jT_fB [0, 1, 2, 3, 4, 5, 6, 7, 8, 9, 10, 11, 12, 13, 14, 15] 16 (y := 190) (pcN := 8) (dC := 1) (bc1 := 0) (bc2 := 0) (c1 := 0) (c2 := 0) (as := [(4, 0), (0, 0)]) (asC := [(4, 0), (0, 0)]) (LN := [(0, (4, 0)), (1, (0, x1)), (2, (0, 0))]) (stN := []) (hsC := jpA_22) (hsD := jpA_20) (v := (0, 1)) (st2 := [(0, 1)]) (hs2 := jpA_20) (jA_190_6 (d := 0)) (by rfl) (by rfl) (by decide +kernel) (by rfl) (by rfl) (by omega) (by omega) (by omega) (by omega) rfl (by decide +kernel) ?_
  refine jT_xifT (pcN := 37) jI_255_8 rfl (by decide +kernel) rfl ?_
  refine jT_xiconst (k := 0) (pcN := 38) jI_255_37 rfl ?_
  exact jT_ret rfl (by decide) (by show 16 ≤ 16; decide) (by omega) (by omega) ⟨rfl, rfl, rfl⟩
theorem jA_11_660 {xs : List Int} {d : Nat} : jT xs (d + 2) 11 4 0 [(0, (4, 0)), (1, (4, 1)), (2, (0, 0))] [] jpA_947 2 8 (fun k v hsN => k = 0 ∧ v = (4, 5) ∧ hsN = jpA_947 ++ [(101, [], [0, 0, 0, 0, 0, 0]), (4, [(4, 4), (1, 1)], [])]) := by
  refine jT_advK 178 (pcN := 78) (LN := [(4, (0, 6)), (5, (1, 0)), (3, (4, 4)), (0, (4, 0)), (1, (4, 1)), (2, (0, 0))]) (stN := [(1, 1), (4, 4), (4, 5), (4, 5)]) (hsN := jpA_945) (c1 := 2) (s1 := 8) (c2 := 0) (s2 := 0) (by decide +kernel) ?_ (by omega) (by omega)
  refine jT_fB [5, 4] 6 (y := 9) (pcN := 81) (dC := 1) (bc1 := 0) (bc2 := 0) (c1 := 0) (c2 := 0) (as := [(4, 5), (4, 4), (1, 1)]) (asC := [(4, 0), (4, 1), (1, 1)]) (LN := [(4, (0, 6)), (5, (1, 0)), (3, (4, 4)), (0, (4, 0)), (1, (4, 1)), (2, (0, 0))]) (stN := [(4, 5)]) (hsC := [(4, [(4, (-1)), (1, 0)], []), (101, [], [0, 0, 0, 0, 0, 0])]) (hsD := [(4, [(4, 1), (1, 1)], []), (101, [], [0, 0, 0, 0, 0, 0])]) (v := (9, 0)) (st2 := [(4, 5)]) (hs2 := jpA_946) (jA_9_27 (d := 0)) (by rfl) (by rfl) (by decide +kernel) (by rfl) (by rfl) (by omega) (by omega) (by omega) (by omega) rfl (by decide +kernel) ?_
  exact jT_ret rfl (by decide) (by show 4 ≤ 6; decide) (by omega) (by omega) ⟨rfl, rfl, rfl⟩
theorem jA_134_661 {xs : List Int} {d : Nat} {x1 : Int} (h_x1 : 0 ≤ x1 ∧ x1 ≤ 7) : jT xs (d + 4) 134 19 0 [(0, (4, 0)), (1, (0, x1)), (2, (0, 0))] [] jpA_2488 6 22 (fun k v hsN => k = 0 ∧ v = (0, 1) ∧ hsN = jpA_2511) := by
  refine jT_xaload_n (v := (4, 0)) (pcN := 1) jI_134_0 rfl rfl rfl ?_
  refine jT_xiload_n (v := (0, x1)) (pcN := 2) jI_134_1 rfl rfl rfl ?_
  refine jT_xbipush (k := 8) (pcN := 4) jI_134_2 (by decide) rfl ?_
  refine jT_fR [0] 19 (y := 115) (pcN := 7) (dC := 0) (bc1 := 0) (bc2 := 0) (c1 := 6) (c2 := 22) (as := [(4, 0), (0, x1), (0, 8)]) (asC := [(4, 0), (0, x1), (0, 8)]) (LN := [(0, (4, 0)), (1, (0, x1)), (2, (0, 0))]) (stN := []) (hsC := [jgh]) (v := (9, 0)) (st2 := []) (jA_115_9 (d := 0) (by omega)) (by rfl) (by rfl) (by decide +kernel) (by rfl) (by rfl) (by omega) (by omega) (by omega) (by omega) rfl ?_
  refine jT_xaload_n (v := (4, 0)) (pcN := 8) jI_134_7 rfl rfl rfl ?_
  refine jT_xgetf (a := 0) (t := 1) (ci := 13) (fi := 11) (c := jzA_5) (v := (4, 11)) (pcN := 11) jI_134_8 rfl rfl rfl rfl rfl rfl rfl ?_
  refine jT_xgetf (a := 11) (t := 2) (ci := 9) (fi := 4) (c := jzA_88) (v := (4, 16)) (pcN := 14) jI_134_11 rfl rfl rfl rfl rfl rfl rfl ?_
  refine jT_adv 1 (pcN := 15) (LN := [(0, (4, 0)), (1, (0, x1)), (2, (0, 0))]) (stN := [(0, 0)]) (hsN := jpA_2488) (c1 := 0) (s1 := 0) (c2 := 6) (s2 := 22) (by exact rfl) ?_ (by omega) (by omega)
  refine jT_xistore_n (v := (0, 0)) (LN := [(3, (0, 0)), (0, (4, 0)), (1, (0, x1)), (2, (0, 0))]) (pcN := 16) jI_134_15 rfl rfl rfl rfl ?_
  refine jT_xiload_n (v := (0, 0)) (pcN := 17) jI_134_16 rfl rfl rfl ?_
  refine jT_xbipush (k := 60) (pcN := 19) jI_134_17 (by decide) rfl ?_
  refine jT_xicT (pcN := 32) jI_134_19 rfl (by decide +kernel) rfl ?_
  refine jT_xaload_n (v := (4, 0)) (pcN := 33) jI_134_32 rfl rfl rfl ?_
  refine jT_xgetf (a := 0) (t := 1) (ci := 13) (fi := 11) (c := jzA_5) (v := (4, 11)) (pcN := 36) jI_134_33 rfl rfl rfl rfl rfl rfl rfl ?_
  refine jT_xiload_n (v := (0, 0)) (pcN := 37) jI_134_36 rfl rfl rfl ?_
  refine jT_fA [11] 19 (y := 62) (pcN := 40) (dC := 3) (bc1 := 2) (bc2 := 8) (c1 := 4) (c2 := 14) (as := [(4, 11), (0, 0)]) (asC := [(4, 0), (0, 0)]) (LN := [(3, (0, 0)), (0, (4, 0)), (1, (0, x1)), (2, (0, 0))]) (stN := []) (hsC := [jgh]) (ex := [(101, [], [0, 0, 0, 0, 0, 0]), (4, [(4, 1), (1, 1)], [])]) (v := (4, 2)) (st2 := [(4, 20)]) (hs2 := jpA_2496) (jA_62_645 (d := 0)) (by rfl) (by rfl) (by decide +kernel) (by rfl) (by rfl) (by omega) (by omega) (by omega) (by omega) rfl (by decide +kernel) ?_
  refine jT_xaload_n (v := (4, 0)) (pcN := 41) jI_134_40 rfl rfl rfl ?_
  refine jT_xgetf (a := 0) (t := 1) (ci := 13) (fi := 11) (c := jzA_5) (v := (4, 11)) (pcN := 44) jI_134_41 rfl rfl rfl rfl rfl rfl rfl ?_
  refine jT_xiload_n (v := (0, x1)) (pcN := 45) jI_134_44 rfl rfl rfl ?_
  refine jT_fR [11, 12, 13, 14, 15, 16, 17] 21 (y := 57) (pcN := 48) (dC := 0) (bc1 := 0) (bc2 := 0) (c1 := 4) (c2 := 14) (as := [(4, 11), (0, x1)]) (asC := [(4, 0), (0, x1)]) (LN := [(3, (0, 0)), (0, (4, 0)), (1, (0, x1)), (2, (0, 0))]) (stN := [(4, 20)]) (hsC := jpA_47) (v := (4, 6)) (st2 := [(4, 17), (4, 20)]) (jA_57_108 (d := 0) (by omega)) (by rfl) (by rfl) (by decide +kernel) (by rfl) (by rfl) (by omega) (by omega) (by omega) (by omega) rfl ?_
  refine jT_xiload_n (v := (0, 0)) (pcN := 49) jI_134_48 rfl rfl rfl ?_
  refine jT_fA [20, 17, 19, 18] 21 (y := 11) (pcN := 52) (dC := 2) (bc1 := 2) (bc2 := 8) (c1 := 2) (c2 := 6) (as := [(4, 20), (4, 17), (0, 0)]) (asC := [(4, 0), (4, 1), (0, 0)]) (LN := [(3, (0, 0)), (0, (4, 0)), (1, (0, x1)), (2, (0, 0))]) (stN := []) (hsC := jpA_947) (ex := [(101, [], [0, 0, 0, 0, 0, 0]), (4, [(4, 4), (1, 1)], [])]) (v := (4, 5)) (st2 := [(4, 22)]) (hs2 := jpA_2501) (jA_11_660 (d := 0)) (by rfl) (by rfl) (by decide +kernel) (by rfl) (by rfl) (by omega) (by omega) (by omega) (by omega) rfl (by decide +kernel) ?_
  refine jT_xastore (v := (4, 22)) (LN := [(4, (4, 22)), (3, (0, 0)), (0, (4, 0)), (1, (0, x1)), (2, (0, 0))]) (pcN := 54) jI_134_52 rfl rfl rfl rfl ?_
  refine jT_xaload_n (v := (4, 0)) (pcN := 55) jI_134_54 rfl rfl rfl ?_
  refine jT_xaload (v := (4, 22)) (pcN := 57) jI_134_55 rfl rfl rfl ?_
  refine jT_fR [0, 22, 21] 23 (y := 117) (pcN := 60) (dC := 2) (bc1 := 0) (bc2 := 0) (c1 := 2) (c2 := 6) (as := [(4, 0), (4, 22)]) (asC := [(4, 0), (4, 1)]) (LN := [(4, (4, 22)), (3, (0, 0)), (0, (4, 0)), (1, (0, x1)), (2, (0, 0))]) (stN := []) (hsC := [jgh, (4, [(4, 2), (1, 1)], []), (101, [], [0, 0, 0, 0, 0, 0])]) (v := (9, 0)) (st2 := []) (jA_117_31 (d := 0)) (by rfl) (by rfl) (by decide +kernel) (by rfl) (by rfl) (by omega) (by omega) (by omega) (by omega) rfl ?_
  refine jT_xaload_n (v := (4, 0)) (pcN := 61) jI_134_60 rfl rfl rfl ?_
  refine jT_xaload_n (v := (4, 0)) (pcN := 62) jI_134_61 rfl rfl rfl ?_
  refine jT_xgetf (a := 0) (t := 1) (ci := 13) (fi := 11) (c := jzA_5) (v := (4, 11)) (pcN := 65) jI_134_62 rfl rfl rfl rfl rfl rfl rfl ?_
  refine jT_xaload (v := (4, 22)) (pcN := 67) jI_134_65 rfl rfl rfl ?_
  refine jT_fA [11, 22, 12, 13, 14, 15, 16, 21] 23 (y := 63) (pcN := 70) (dC := 1) (bc1 := 2) (bc2 := 6) (c1 := 0) (c2 := 0) (as := [(4, 11), (4, 22)]) (asC := [(4, 0), (4, 1)]) (LN := [(4, (4, 22)), (3, (0, 0)), (0, (4, 0)), (1, (0, x1)), (2, (0, 0))]) (stN := [(4, 0)]) (hsC := jpA_2484) (ex := [(114, [], [1]), jzA_2482]) (v := (4, 9)) (st2 := [(4, 24), (4, 0)]) (hs2 := jpA_2510) (jA_63_646 (d := 0)) (by rfl) (by rfl) (by decide +kernel) (by rfl) (by rfl) (by omega) (by omega) (by omega) (by omega) rfl (by decide +kernel) ?_
  refine jT_fB [0, 24, 1, 2, 3, 4, 5, 6, 7, 8, 9, 10, 11, 12, 13, 14, 15, 16] 25 (y := 100) (pcN := 73) (dC := 0) (bc1 := 0) (bc2 := 0) (c1 := 0) (c2 := 0) (as := [(4, 0), (4, 24)]) (asC := [(4, 0), (4, 1)]) (LN := [(4, (4, 22)), (3, (0, 0)), (0, (4, 0)), (1, (0, x1)), (2, (0, 0))]) (stN := []) (hsC := jpA_80) (hsD := jpA_78) (v := (9, 0)) (st2 := []) (hs2 := jpA_2511) (jA_100_34 (d := 0)) (by rfl) (by rfl) (by decide +kernel) (by rfl) (by rfl) (by omega) (by omega) (by omega) (by omega) rfl (by decide +kernel) ?_
  refine jT_xiload_n (v := (0, 0)) (pcN := 74) jI_134_73 rfl rfl rfl ?_
  refine jT_xiconst (k := 1) (pcN := 75) jI_134_74 rfl ?_
  refine jT_xiadd (x := 0) (y := 1) (z := 1) (pcN := 76) jI_134_75 rfl (by decide) rfl ?_
  exact jT_ret rfl (by decide) (by show 19 ≤ 25; decide) (by omega) (by omega) ⟨rfl, rfl, rfl⟩
theorem jA_341_662 {xs : List Int} {d : Nat} {x1 : Int} (h_x1 : 0 ≤ x1 ∧ x1 ≤ 7) : jT xs (d + 5) 341 20 0 [(0, (4, 0)), (1, (0, x1)), (2, (0, 0)), (3, (4, 1))] [] jpA_2521 6 22 (fun k v hsN => k = 0 ∧ v = (0, 0) ∧ hsN = jpA_2518) := by
  refine jT_xaload_n (v := (4, 1)) (pcN := 1) jI_341_0 rfl rfl rfl ?_
  refine jT_xiconst (k := 0) (pcN := 2) jI_341_1 rfl ?_
  refine jT_xaload_n (v := (4, 0)) (pcN := 3) jI_341_2 rfl rfl rfl ?_
  refine jT_xiload_n (v := (0, x1)) (pcN := 4) jI_341_3 rfl rfl rfl ?_
  refine jT_xiload_n (v := (0, 0)) (pcN := 5) jI_341_4 rfl rfl rfl ?_
  refine jT_fB [0, 2, 3, 4, 5, 6, 7, 8, 9, 10, 11, 12, 13, 14, 15, 16, 17, 18, 19] 20 (y := 134) (pcN := 8) (dC := 4) (bc1 := 6) (bc2 := 22) (c1 := 0) (c2 := 0) (as := [(4, 0), (0, x1), (0, 0)]) (asC := [(4, 0), (0, x1), (0, 0)]) (LN := [(0, (4, 0)), (1, (0, x1)), (2, (0, 0)), (3, (4, 1))]) (stN := [(0, 0), (4, 1)]) (hsC := jpA_2488) (hsD := jpA_2511) (v := (0, 1)) (st2 := [(0, 1), (0, 0), (4, 1)]) (hs2 := jpA_2516) (jA_134_661 (d := 0) (by omega)) (by rfl) (by rfl) (by decide +kernel) (by rfl) (by rfl) (by omega) (by omega) (by omega) (by omega) rfl (by decide +kernel) ?_
  refine jT_xi2l (x := 1) (z := 1) (pcN := 9) jI_341_8 rfl (by decide +kernel) rfl ?_
  refine jT_adv 1 (pcN := 10) (LN := [(0, (4, 0)), (1, (0, x1)), (2, (0, 0)), (3, (4, 1))]) (stN := []) (hsN := jpA_2518) (c1 := 0) (s1 := 0) (c2 := 0) (s2 := 0) (by exact rfl) ?_ (by omega) (by omega)
  refine jT_xgoto (pcN := 25) jI_341_10 rfl ?_
  refine jT_xiconst (k := 0) (pcN := 26) jI_341_25 rfl ?_
  exact jT_ret rfl (by decide) (by show 20 ≤ 26; decide) (by omega) (by omega) ⟨rfl, rfl, rfl⟩
theorem jA_204_663 {xs : List Int} {d : Nat} {x1 : Int} (h_x1 : 0 ≤ x1 ∧ x1 ≤ 7) : jT xs (d + 2) 204 16 0 [(0, (4, 0)), (1, (4, 1)), (2, (0, 7 * x1)), (3, (1, 1))] [] jpA_130 0 0 (fun k v hsN => k = 0 ∧ v = (9, 0) ∧ hsN = jpA_130 ++ []) := by
  refine jT_xaload_n (v := (4, 1)) (pcN := 1) jI_204_0 rfl rfl rfl ?_
  refine jT_xiload_n (v := (0, 7 * x1)) (pcN := 2) jI_204_1 rfl rfl rfl ?_
  refine jT_xbipush (k := 6) (pcN := 4) jI_204_2 (by decide) rfl ?_
  refine jT_xiadd (x := 7 * x1) (y := 6) (z := 7 * x1 + 6) (pcN := 5) jI_204_4 rfl (by omega) rfl ?_
  refine jT_iald (x := 1) (a := 1) (j := (7 * x1 + 6).toNat) (fs := []) (X := jS0) (by rfl) (by rfl) (by rfl) (jw_nn (by omega) (by omega)) (jS0_r6 (by omega) (by omega)) ?_
  refine jT_eq (LN := [(0, (4, 0)), (1, (4, 1)), (2, (0, 7 * x1)), (3, (1, 1))]) (stN := [(0, 1)]) (hsN := jpA_130) rfl rfl rfl ?_
  refine jT_xi2l (x := 1) (z := 1) (pcN := 7) jI_204_6 rfl (by decide +kernel) rfl ?_
  refine jT_xlstore (v := (1, 1)) (LN := [(5, (1, 1)), (0, (4, 0)), (1, (4, 1)), (2, (0, 7 * x1)), (3, (1, 1))]) (pcN := 9) jI_204_7 rfl rfl rfl rfl ?_
  refine jT_xaload_n (v := (4, 0)) (pcN := 10) jI_204_9 rfl rfl rfl ?_
  refine jT_xgetf (a := 0) (t := 1) (ci := 14) (fi := 10) (c := jzA_21) (v := (1, 1)) (pcN := 13) jI_204_10 rfl rfl rfl rfl rfl rfl rfl ?_
  refine jT_xaload_n (v := (4, 0)) (pcN := 14) jI_204_13 rfl rfl rfl ?_
  refine jT_xgetf (a := 0) (t := 1) (ci := 14) (fi := 10) (c := jzA_21) (v := (1, 1)) (pcN := 17) jI_204_14 rfl rfl rfl rfl rfl rfl rfl ?_
  refine jT_xlload (v := (1, 1)) (pcN := 19) jI_204_17 rfl rfl rfl ?_
  refine jT_fR [] 16 (y := 194) (pcN := 22) (dC := 1) (bc1 := 0) (bc2 := 0) (c1 := 0) (c2 := 0) (as := [(1, 1), (1, 1)]) (asC := [(1, 1), (1, 1)]) (LN := [(5, (1, 1)), (0, (4, 0)), (1, (4, 1)), (2, (0, 7 * x1)), (3, (1, 1))]) (stN := [(1, 1)]) (hsC := []) (v := (1, 1)) (st2 := [(1, 1), (1, 1)]) (jA_194_43 (d := 0)) (by rfl) (by rfl) (by decide +kernel) (by rfl) (by rfl) (by omega) (by omega) (by omega) (by omega) rfl ?_
  refine jT_ldiv (a := 1) (b := 1) (by rfl) (by rfl) (by decide +kernel) (by decide +kernel) (by decide) ?_
  refine jT_eq (LN := [(5, (1, 1)), (0, (4, 0)), (1, (4, 1)), (2, (0, 7 * x1)), (3, (1, 1))]) (stN := [(1, 1)]) (hsN := jpA_130) rfl (by rw [show (1 : Int).tdiv 1 = 1 by decide +kernel]) rfl ?_
  refine jT_xlload (v := (1, 1)) (pcN := 25) jI_204_23 rfl rfl rfl ?_
  refine jT_xlmul (x := 1) (y := 1) (z := 1) (pcN := 26) jI_204_25 rfl (by decide) rfl ?_
  refine jT_xlstore (v := (1, 1)) (LN := [(7, (1, 1)), (5, (1, 1)), (0, (4, 0)), (1, (4, 1)), (2, (0, 7 * x1)), (3, (1, 1))]) (pcN := 28) jI_204_26 rfl rfl rfl rfl ?_
  refine jT_xiconst (k := 0) (pcN := 29) jI_204_28 rfl ?_
  refine jT_xistore (v := (0, 0)) (LN := [(9, (0, 0)), (7, (1, 1)), (5, (1, 1)), (0, (4, 0)), (1, (4, 1)), (2, (0, 7 * x1)), (3, (1, 1))]) (pcN := 31) jI_204_29 rfl rfl rfl rfl ?_
  refine jT_xiload (v := (0, 0)) (pcN := 33) jI_204_31 rfl rfl rfl ?_
  refine jT_xbipush (k := 6) (pcN := 35) jI_204_33 (by decide) rfl ?_
  refine jT_xicF (t := 82) (pcN := 38) jI_204_35 rfl (by decide +kernel) rfl rfl ?_
  refine jT_xaload_n (v := (4, 0)) (pcN := 39) jI_204_38 rfl rfl rfl ?_
  refine jT_xgetf (a := 0) (t := 1) (ci := 14) (fi := 9) (c := jzA_21) (v := (4, 7)) (pcN := 42) jI_204_39 rfl rfl rfl rfl rfl rfl rfl ?_
  refine jT_xiload (v := (0, 0)) (pcN := 44) jI_204_42 rfl rfl rfl ?_
  refine jT_xaload_n (v := (4, 0)) (pcN := 45) jI_204_44 rfl rfl rfl ?_
  refine jT_xgetf (a := 0) (t := 1) (ci := 14) (fi := 9) (c := jzA_21) (v := (4, 7)) (pcN := 48) jI_204_45 rfl rfl rfl rfl rfl rfl rfl ?_
  refine jT_xiload (v := (0, 0)) (pcN := 50) jI_204_48 rfl rfl rfl ?_
  refine jT_lald (x := 0) (a := 7) (j := 0) (fs := []) (X := [0, 0, 0, 0, 0, 0]) jI_204_50 rfl rfl rfl rfl ?_
  refine jT_eq (LN := [(9, (0, 0)), (7, (1, 1)), (5, (1, 1)), (0, (4, 0)), (1, (4, 1)), (2, (0, 7 * x1)), (3, (1, 1))]) (stN := [(1, 0), (0, 0), (4, 7)]) (hsN := jpA_130) rfl rfl rfl ?_
  refine jT_xlload (v := (1, 1)) (pcN := 53) jI_204_51 rfl rfl rfl ?_
  refine jT_xaload_n (v := (4, 0)) (pcN := 54) jI_204_53 rfl rfl rfl ?_
  refine jT_xgetf (a := 0) (t := 1) (ci := 14) (fi := 10) (c := jzA_21) (v := (1, 1)) (pcN := 57) jI_204_54 rfl rfl rfl rfl rfl rfl rfl ?_
  refine jT_ldiv (a := 1) (b := 1) (by rfl) (by rfl) (by decide +kernel) (by decide +kernel) (by decide) ?_
  refine jT_eq (LN := [(9, (0, 0)), (7, (1, 1)), (5, (1, 1)), (0, (4, 0)), (1, (4, 1)), (2, (0, 7 * x1)), (3, (1, 1))]) (stN := [(1, 1), (1, 0), (0, 0), (4, 7)]) (hsN := jpA_130) rfl (by rw [show (1 : Int).tdiv 1 = 1 by decide +kernel]) rfl ?_
  refine jT_xlmul (x := 0) (y := 1) (z := 0) (pcN := 59) jI_204_58 rfl (by decide) rfl ?_
  refine jT_xlload_n (v := (1, 1)) (pcN := 60) jI_204_59 rfl rfl rfl ?_
  refine jT_xaload_n (v := (4, 1)) (pcN := 61) jI_204_60 rfl rfl rfl ?_
  refine jT_xiload_n (v := (0, 7 * x1)) (pcN := 62) jI_204_61 rfl rfl rfl ?_
  refine jT_xiload (v := (0, 0)) (pcN := 64) jI_204_62 rfl rfl rfl ?_
  refine jT_xiadd (x := 7 * x1) (y := 0) (z := 7 * x1) (pcN := 65) jI_204_64 rfl (by omega) rfl ?_
  refine jT_iald (x := 0) (a := 1) (j := (7 * x1).toNat) (fs := []) (X := jS0) (by rfl) (by rfl) (by rfl) (jw_nn (by omega) (by omega)) (jS0_r0 (by omega) (by omega)) ?_
  refine jT_eq (LN := [(9, (0, 0)), (7, (1, 1)), (5, (1, 1)), (0, (4, 0)), (1, (4, 1)), (2, (0, 7 * x1)), (3, (1, 1))]) (stN := [(0, 0), (1, 1), (1, 0), (0, 0), (4, 7)]) (hsN := jpA_130) rfl rfl rfl ?_
  refine jT_xi2l (x := 0) (z := 0) (pcN := 67) jI_204_66 rfl (by decide +kernel) rfl ?_
  refine jT_xlmul (x := 1) (y := 0) (z := 0) (pcN := 68) jI_204_67 rfl (by decide) rfl ?_
  refine jT_xlload (v := (1, 1)) (pcN := 70) jI_204_68 rfl rfl rfl ?_
  refine jT_xlload (v := (1, 1)) (pcN := 72) jI_204_70 rfl rfl rfl ?_
  refine jT_ldiv (a := 1) (b := 1) (by rfl) (by rfl) (by decide +kernel) (by decide +kernel) (by decide) ?_
  refine jT_eq (LN := [(9, (0, 0)), (7, (1, 1)), (5, (1, 1)), (0, (4, 0)), (1, (4, 1)), (2, (0, 7 * x1)), (3, (1, 1))]) (stN := [(1, 1), (1, 0), (1, 0), (0, 0), (4, 7)]) (hsN := jpA_130) rfl (by rw [show (1 : Int).tdiv 1 = 1 by decide +kernel]) rfl ?_
  refine jT_xlmul (x := 0) (y := 1) (z := 0) (pcN := 74) jI_204_73 rfl (by decide) rfl ?_
  refine jT_xladd (x := 0) (y := 0) (z := 0) (pcN := 75) jI_204_74 rfl (by decide) rfl ?_
  refine jT_adv 1 (pcN := 76) (LN := [(9, (0, 0)), (7, (1, 1)), (5, (1, 1)), (0, (4, 0)), (1, (4, 1)), (2, (0, 7 * x1)), (3, (1, 1))]) (stN := []) (hsN := jpA_130) (c1 := 0) (s1 := 0) (c2 := 0) (s2 := 0) (by exact rfl) ?_ (by omega) (by omega)
  refine jT_xiinc (x := 0) (z := 1) (LN := [(9, (0, 1)), (7, (1, 1)), (5, (1, 1)), (0, (4, 0)), (1, (4, 1)), (2, (0, 7 * x1)), (3, (1, 1))]) (pcN := 79) jI_204_76 rfl rfl (by decide) rfl rfl ?_
  refine jT_xgoto (pcN := 31) jI_204_79 rfl ?_
  refine jT_xiload (v := (0, 1)) (pcN := 33) jI_204_31 rfl rfl rfl ?_
  refine jT_xbipush (k := 6) (pcN := 35) jI_204_33 (by decide) rfl ?_
  refine jT_xicF (t := 82) (pcN := 38) jI_204_35 rfl (by decide +kernel) rfl rfl ?_
  refine jT_xaload_n (v := (4, 0)) (pcN := 39) jI_204_38 rfl rfl rfl ?_
  refine jT_xgetf (a := 0) (t := 1) (ci := 14) (fi := 9) (c := jzA_21) (v := (4, 7)) (pcN := 42) jI_204_39 rfl rfl rfl rfl rfl rfl rfl ?_
  refine jT_xiload (v := (0, 1)) (pcN := 44) jI_204_42 rfl rfl rfl ?_
  refine jT_xaload_n (v := (4, 0)) (pcN := 45) jI_204_44 rfl rfl rfl ?_
  refine jT_xgetf (a := 0) (t := 1) (ci := 14) (fi := 9) (c := jzA_21) (v := (4, 7)) (pcN := 48) jI_204_45 rfl rfl rfl rfl rfl rfl rfl ?_
  refine jT_xiload (v := (0, 1)) (pcN := 50) jI_204_48 rfl rfl rfl ?_
  refine jT_lald (x := 0) (a := 7) (j := 1) (fs := []) (X := [0, 0, 0, 0, 0, 0]) jI_204_50 rfl rfl rfl rfl ?_
  refine jT_eq (LN := [(9, (0, 1)), (7, (1, 1)), (5, (1, 1)), (0, (4, 0)), (1, (4, 1)), (2, (0, 7 * x1)), (3, (1, 1))]) (stN := [(1, 0), (0, 1), (4, 7)]) (hsN := jpA_130) rfl rfl rfl ?_
  refine jT_xlload (v := (1, 1)) (pcN := 53) jI_204_51 rfl rfl rfl ?_
  refine jT_xaload_n (v := (4, 0)) (pcN := 54) jI_204_53 rfl rfl rfl ?_
  refine jT_xgetf (a := 0) (t := 1) (ci := 14) (fi := 10) (c := jzA_21) (v := (1, 1)) (pcN := 57) jI_204_54 rfl rfl rfl rfl rfl rfl rfl ?_
  refine jT_ldiv (a := 1) (b := 1) (by rfl) (by rfl) (by decide +kernel) (by decide +kernel) (by decide) ?_
  refine jT_eq (LN := [(9, (0, 1)), (7, (1, 1)), (5, (1, 1)), (0, (4, 0)), (1, (4, 1)), (2, (0, 7 * x1)), (3, (1, 1))]) (stN := [(1, 1), (1, 0), (0, 1), (4, 7)]) (hsN := jpA_130) rfl (by rw [show (1 : Int).tdiv 1 = 1 by decide +kernel]) rfl ?_
  refine jT_xlmul (x := 0) (y := 1) (z := 0) (pcN := 59) jI_204_58 rfl (by decide) rfl ?_
  refine jT_xlload_n (v := (1, 1)) (pcN := 60) jI_204_59 rfl rfl rfl ?_
  refine jT_xaload_n (v := (4, 1)) (pcN := 61) jI_204_60 rfl rfl rfl ?_
  refine jT_xiload_n (v := (0, 7 * x1)) (pcN := 62) jI_204_61 rfl rfl rfl ?_
  refine jT_xiload (v := (0, 1)) (pcN := 64) jI_204_62 rfl rfl rfl ?_
  refine jT_xiadd (x := 7 * x1) (y := 1) (z := 7 * x1 + 1) (pcN := 65) jI_204_64 rfl (by omega) rfl ?_
  refine jT_iald (x := 0) (a := 1) (j := (7 * x1 + 1).toNat) (fs := []) (X := jS0) (by rfl) (by rfl) (by rfl) (jw_nn (by omega) (by omega)) (jS0_r1 (by omega) (by omega)) ?_
  refine jT_eq (LN := [(9, (0, 1)), (7, (1, 1)), (5, (1, 1)), (0, (4, 0)), (1, (4, 1)), (2, (0, 7 * x1)), (3, (1, 1))]) (stN := [(0, 0), (1, 1), (1, 0), (0, 1), (4, 7)]) (hsN := jpA_130) rfl rfl rfl ?_
  refine jT_xi2l (x := 0) (z := 0) (pcN := 67) jI_204_66 rfl (by decide +kernel) rfl ?_
  refine jT_xlmul (x := 1) (y := 0) (z := 0) (pcN := 68) jI_204_67 rfl (by decide) rfl ?_
  refine jT_xlload (v := (1, 1)) (pcN := 70) jI_204_68 rfl rfl rfl ?_
  refine jT_xlload (v := (1, 1)) (pcN := 72) jI_204_70 rfl rfl rfl ?_
  refine jT_ldiv (a := 1) (b := 1) (by rfl) (by rfl) (by decide +kernel) (by decide +kernel) (by decide) ?_
  refine jT_eq (LN := [(9, (0, 1)), (7, (1, 1)), (5, (1, 1)), (0, (4, 0)), (1, (4, 1)), (2, (0, 7 * x1)), (3, (1, 1))]) (stN := [(1, 1), (1, 0), (1, 0), (0, 1), (4, 7)]) (hsN := jpA_130) rfl (by rw [show (1 : Int).tdiv 1 = 1 by decide +kernel]) rfl ?_
  refine jT_xlmul (x := 0) (y := 1) (z := 0) (pcN := 74) jI_204_73 rfl (by decide) rfl ?_
  refine jT_xladd (x := 0) (y := 0) (z := 0) (pcN := 75) jI_204_74 rfl (by decide) rfl ?_
  refine jT_adv 1 (pcN := 76) (LN := [(9, (0, 1)), (7, (1, 1)), (5, (1, 1)), (0, (4, 0)), (1, (4, 1)), (2, (0, 7 * x1)), (3, (1, 1))]) (stN := []) (hsN := jpA_130) (c1 := 0) (s1 := 0) (c2 := 0) (s2 := 0) (by exact rfl) ?_ (by omega) (by omega)
  refine jT_xiinc (x := 1) (z := 2) (LN := [(9, (0, 2)), (7, (1, 1)), (5, (1, 1)), (0, (4, 0)), (1, (4, 1)), (2, (0, 7 * x1)), (3, (1, 1))]) (pcN := 79) jI_204_76 rfl rfl (by decide) rfl rfl ?_
  refine jT_xgoto (pcN := 31) jI_204_79 rfl ?_
  refine jT_xiload (v := (0, 2)) (pcN := 33) jI_204_31 rfl rfl rfl ?_
  refine jT_xbipush (k := 6) (pcN := 35) jI_204_33 (by decide) rfl ?_
  refine jT_xicF (t := 82) (pcN := 38) jI_204_35 rfl (by decide +kernel) rfl rfl ?_
  refine jT_xaload_n (v := (4, 0)) (pcN := 39) jI_204_38 rfl rfl rfl ?_
  refine jT_xgetf (a := 0) (t := 1) (ci := 14) (fi := 9) (c := jzA_21) (v := (4, 7)) (pcN := 42) jI_204_39 rfl rfl rfl rfl rfl rfl rfl ?_
  refine jT_xiload (v := (0, 2)) (pcN := 44) jI_204_42 rfl rfl rfl ?_
  refine jT_xaload_n (v := (4, 0)) (pcN := 45) jI_204_44 rfl rfl rfl ?_
  refine jT_xgetf (a := 0) (t := 1) (ci := 14) (fi := 9) (c := jzA_21) (v := (4, 7)) (pcN := 48) jI_204_45 rfl rfl rfl rfl rfl rfl rfl ?_
  refine jT_xiload (v := (0, 2)) (pcN := 50) jI_204_48 rfl rfl rfl ?_
  refine jT_lald (x := 0) (a := 7) (j := 2) (fs := []) (X := [0, 0, 0, 0, 0, 0]) jI_204_50 rfl rfl rfl rfl ?_
  refine jT_eq (LN := [(9, (0, 2)), (7, (1, 1)), (5, (1, 1)), (0, (4, 0)), (1, (4, 1)), (2, (0, 7 * x1)), (3, (1, 1))]) (stN := [(1, 0), (0, 2), (4, 7)]) (hsN := jpA_130) rfl rfl rfl ?_
  refine jT_xlload (v := (1, 1)) (pcN := 53) jI_204_51 rfl rfl rfl ?_
  refine jT_xaload_n (v := (4, 0)) (pcN := 54) jI_204_53 rfl rfl rfl ?_
  refine jT_xgetf (a := 0) (t := 1) (ci := 14) (fi := 10) (c := jzA_21) (v := (1, 1)) (pcN := 57) jI_204_54 rfl rfl rfl rfl rfl rfl rfl ?_
  refine jT_ldiv (a := 1) (b := 1) (by rfl) (by rfl) (by decide +kernel) (by decide +kernel) (by decide) ?_
  refine jT_eq (LN := [(9, (0, 2)), (7, (1, 1)), (5, (1, 1)), (0, (4, 0)), (1, (4, 1)), (2, (0, 7 * x1)), (3, (1, 1))]) (stN := [(1, 1), (1, 0), (0, 2), (4, 7)]) (hsN := jpA_130) rfl (by rw [show (1 : Int).tdiv 1 = 1 by decide +kernel]) rfl ?_
  refine jT_xlmul (x := 0) (y := 1) (z := 0) (pcN := 59) jI_204_58 rfl (by decide) rfl ?_
  refine jT_xlload_n (v := (1, 1)) (pcN := 60) jI_204_59 rfl rfl rfl ?_
  refine jT_xaload_n (v := (4, 1)) (pcN := 61) jI_204_60 rfl rfl rfl ?_
  refine jT_xiload_n (v := (0, 7 * x1)) (pcN := 62) jI_204_61 rfl rfl rfl ?_
  refine jT_xiload (v := (0, 2)) (pcN := 64) jI_204_62 rfl rfl rfl ?_
  refine jT_xiadd (x := 7 * x1) (y := 2) (z := 7 * x1 + 2) (pcN := 65) jI_204_64 rfl (by omega) rfl ?_
  refine jT_iald (x := 0) (a := 1) (j := (7 * x1 + 2).toNat) (fs := []) (X := jS0) (by rfl) (by rfl) (by rfl) (jw_nn (by omega) (by omega)) (jS0_r2 (by omega) (by omega)) ?_
  refine jT_eq (LN := [(9, (0, 2)), (7, (1, 1)), (5, (1, 1)), (0, (4, 0)), (1, (4, 1)), (2, (0, 7 * x1)), (3, (1, 1))]) (stN := [(0, 0), (1, 1), (1, 0), (0, 2), (4, 7)]) (hsN := jpA_130) rfl rfl rfl ?_
  refine jT_xi2l (x := 0) (z := 0) (pcN := 67) jI_204_66 rfl (by decide +kernel) rfl ?_
  refine jT_xlmul (x := 1) (y := 0) (z := 0) (pcN := 68) jI_204_67 rfl (by decide) rfl ?_
  refine jT_xlload (v := (1, 1)) (pcN := 70) jI_204_68 rfl rfl rfl ?_
  refine jT_xlload (v := (1, 1)) (pcN := 72) jI_204_70 rfl rfl rfl ?_
  refine jT_ldiv (a := 1) (b := 1) (by rfl) (by rfl) (by decide +kernel) (by decide +kernel) (by decide) ?_
  refine jT_eq (LN := [(9, (0, 2)), (7, (1, 1)), (5, (1, 1)), (0, (4, 0)), (1, (4, 1)), (2, (0, 7 * x1)), (3, (1, 1))]) (stN := [(1, 1), (1, 0), (1, 0), (0, 2), (4, 7)]) (hsN := jpA_130) rfl (by rw [show (1 : Int).tdiv 1 = 1 by decide +kernel]) rfl ?_
  refine jT_xlmul (x := 0) (y := 1) (z := 0) (pcN := 74) jI_204_73 rfl (by decide) rfl ?_
  refine jT_xladd (x := 0) (y := 0) (z := 0) (pcN := 75) jI_204_74 rfl (by decide) rfl ?_
  refine jT_adv 1 (pcN := 76) (LN := [(9, (0, 2)), (7, (1, 1)), (5, (1, 1)), (0, (4, 0)), (1, (4, 1)), (2, (0, 7 * x1)), (3, (1, 1))]) (stN := []) (hsN := jpA_130) (c1 := 0) (s1 := 0) (c2 := 0) (s2 := 0) (by exact rfl) ?_ (by omega) (by omega)
  refine jT_xiinc (x := 2) (z := 3) (LN := [(9, (0, 3)), (7, (1, 1)), (5, (1, 1)), (0, (4, 0)), (1, (4, 1)), (2, (0, 7 * x1)), (3, (1, 1))]) (pcN := 79) jI_204_76 rfl rfl (by decide) rfl rfl ?_
  refine jT_xgoto (pcN := 31) jI_204_79 rfl ?_
  refine jT_xiload (v := (0, 3)) (pcN := 33) jI_204_31 rfl rfl rfl ?_
  refine jT_xbipush (k := 6) (pcN := 35) jI_204_33 (by decide) rfl ?_
  refine jT_xicF (t := 82) (pcN := 38) jI_204_35 rfl (by decide +kernel) rfl rfl ?_
  refine jT_xaload_n (v := (4, 0)) (pcN := 39) jI_204_38 rfl rfl rfl ?_
  refine jT_xgetf (a := 0) (t := 1) (ci := 14) (fi := 9) (c := jzA_21) (v := (4, 7)) (pcN := 42) jI_204_39 rfl rfl rfl rfl rfl rfl rfl ?_
  refine jT_xiload (v := (0, 3)) (pcN := 44) jI_204_42 rfl rfl rfl ?_
  refine jT_xaload_n (v := (4, 0)) (pcN := 45) jI_204_44 rfl rfl rfl ?_
  refine jT_xgetf (a := 0) (t := 1) (ci := 14) (fi := 9) (c := jzA_21) (v := (4, 7)) (pcN := 48) jI_204_45 rfl rfl rfl rfl rfl rfl rfl ?_
  refine jT_xiload (v := (0, 3)) (pcN := 50) jI_204_48 rfl rfl rfl ?_
  refine jT_lald (x := 0) (a := 7) (j := 3) (fs := []) (X := [0, 0, 0, 0, 0, 0]) jI_204_50 rfl rfl rfl rfl ?_
  refine jT_eq (LN := [(9, (0, 3)), (7, (1, 1)), (5, (1, 1)), (0, (4, 0)), (1, (4, 1)), (2, (0, 7 * x1)), (3, (1, 1))]) (stN := [(1, 0), (0, 3), (4, 7)]) (hsN := jpA_130) rfl rfl rfl ?_
  refine jT_xlload (v := (1, 1)) (pcN := 53) jI_204_51 rfl rfl rfl ?_
  refine jT_xaload_n (v := (4, 0)) (pcN := 54) jI_204_53 rfl rfl rfl ?_
  refine jT_xgetf (a := 0) (t := 1) (ci := 14) (fi := 10) (c := jzA_21) (v := (1, 1)) (pcN := 57) jI_204_54 rfl rfl rfl rfl rfl rfl rfl ?_
  refine jT_ldiv (a := 1) (b := 1) (by rfl) (by rfl) (by decide +kernel) (by decide +kernel) (by decide) ?_
  refine jT_eq (LN := [(9, (0, 3)), (7, (1, 1)), (5, (1, 1)), (0, (4, 0)), (1, (4, 1)), (2, (0, 7 * x1)), (3, (1, 1))]) (stN := [(1, 1), (1, 0), (0, 3), (4, 7)]) (hsN := jpA_130) rfl (by rw [show (1 : Int).tdiv 1 = 1 by decide +kernel]) rfl ?_
  refine jT_xlmul (x := 0) (y := 1) (z := 0) (pcN := 59) jI_204_58 rfl (by decide) rfl ?_
  refine jT_xlload_n (v := (1, 1)) (pcN := 60) jI_204_59 rfl rfl rfl ?_
  refine jT_xaload_n (v := (4, 1)) (pcN := 61) jI_204_60 rfl rfl rfl ?_
  refine jT_xiload_n (v := (0, 7 * x1)) (pcN := 62) jI_204_61 rfl rfl rfl ?_
  refine jT_xiload (v := (0, 3)) (pcN := 64) jI_204_62 rfl rfl rfl ?_
  refine jT_xiadd (x := 7 * x1) (y := 3) (z := 7 * x1 + 3) (pcN := 65) jI_204_64 rfl (by omega) rfl ?_
  refine jT_iald (x := 0) (a := 1) (j := (7 * x1 + 3).toNat) (fs := []) (X := jS0) (by rfl) (by rfl) (by rfl) (jw_nn (by omega) (by omega)) (jS0_r3 (by omega) (by omega)) ?_
  refine jT_eq (LN := [(9, (0, 3)), (7, (1, 1)), (5, (1, 1)), (0, (4, 0)), (1, (4, 1)), (2, (0, 7 * x1)), (3, (1, 1))]) (stN := [(0, 0), (1, 1), (1, 0), (0, 3), (4, 7)]) (hsN := jpA_130) rfl rfl rfl ?_
  refine jT_xi2l (x := 0) (z := 0) (pcN := 67) jI_204_66 rfl (by decide +kernel) rfl ?_
  refine jT_xlmul (x := 1) (y := 0) (z := 0) (pcN := 68) jI_204_67 rfl (by decide) rfl ?_
  refine jT_xlload (v := (1, 1)) (pcN := 70) jI_204_68 rfl rfl rfl ?_
  refine jT_xlload (v := (1, 1)) (pcN := 72) jI_204_70 rfl rfl rfl ?_
  refine jT_ldiv (a := 1) (b := 1) (by rfl) (by rfl) (by decide +kernel) (by decide +kernel) (by decide) ?_
  refine jT_eq (LN := [(9, (0, 3)), (7, (1, 1)), (5, (1, 1)), (0, (4, 0)), (1, (4, 1)), (2, (0, 7 * x1)), (3, (1, 1))]) (stN := [(1, 1), (1, 0), (1, 0), (0, 3), (4, 7)]) (hsN := jpA_130) rfl (by rw [show (1 : Int).tdiv 1 = 1 by decide +kernel]) rfl ?_
  refine jT_xlmul (x := 0) (y := 1) (z := 0) (pcN := 74) jI_204_73 rfl (by decide) rfl ?_
  refine jT_xladd (x := 0) (y := 0) (z := 0) (pcN := 75) jI_204_74 rfl (by decide) rfl ?_
  refine jT_adv 1 (pcN := 76) (LN := [(9, (0, 3)), (7, (1, 1)), (5, (1, 1)), (0, (4, 0)), (1, (4, 1)), (2, (0, 7 * x1)), (3, (1, 1))]) (stN := []) (hsN := jpA_130) (c1 := 0) (s1 := 0) (c2 := 0) (s2 := 0) (by exact rfl) ?_ (by omega) (by omega)
  refine jT_xiinc (x := 3) (z := 4) (LN := [(9, (0, 4)), (7, (1, 1)), (5, (1, 1)), (0, (4, 0)), (1, (4, 1)), (2, (0, 7 * x1)), (3, (1, 1))]) (pcN := 79) jI_204_76 rfl rfl (by decide) rfl rfl ?_
  refine jT_xgoto (pcN := 31) jI_204_79 rfl ?_
  refine jT_xiload (v := (0, 4)) (pcN := 33) jI_204_31 rfl rfl rfl ?_
  refine jT_xbipush (k := 6) (pcN := 35) jI_204_33 (by decide) rfl ?_
  refine jT_xicF (t := 82) (pcN := 38) jI_204_35 rfl (by decide +kernel) rfl rfl ?_
  refine jT_xaload_n (v := (4, 0)) (pcN := 39) jI_204_38 rfl rfl rfl ?_
  refine jT_xgetf (a := 0) (t := 1) (ci := 14) (fi := 9) (c := jzA_21) (v := (4, 7)) (pcN := 42) jI_204_39 rfl rfl rfl rfl rfl rfl rfl ?_
  refine jT_xiload (v := (0, 4)) (pcN := 44) jI_204_42 rfl rfl rfl ?_
  refine jT_xaload_n (v := (4, 0)) (pcN := 45) jI_204_44 rfl rfl rfl ?_
  refine jT_xgetf (a := 0) (t := 1) (ci := 14) (fi := 9) (c := jzA_21) (v := (4, 7)) (pcN := 48) jI_204_45 rfl rfl rfl rfl rfl rfl rfl ?_
  refine jT_xiload (v := (0, 4)) (pcN := 50) jI_204_48 rfl rfl rfl ?_
  refine jT_lald (x := 0) (a := 7) (j := 4) (fs := []) (X := [0, 0, 0, 0, 0, 0]) jI_204_50 rfl rfl rfl rfl ?_
  refine jT_eq (LN := [(9, (0, 4)), (7, (1, 1)), (5, (1, 1)), (0, (4, 0)), (1, (4, 1)), (2, (0, 7 * x1)), (3, (1, 1))]) (stN := [(1, 0), (0, 4), (4, 7)]) (hsN := jpA_130) rfl rfl rfl ?_
  refine jT_xlload (v := (1, 1)) (pcN := 53) jI_204_51 rfl rfl rfl ?_
  refine jT_xaload_n (v := (4, 0)) (pcN := 54) jI_204_53 rfl rfl rfl ?_
  refine jT_xgetf (a := 0) (t := 1) (ci := 14) (fi := 10) (c := jzA_21) (v := (1, 1)) (pcN := 57) jI_204_54 rfl rfl rfl rfl rfl rfl rfl ?_
  refine jT_ldiv (a := 1) (b := 1) (by rfl) (by rfl) (by decide +kernel) (by decide +kernel) (by decide) ?_
  refine jT_eq (LN := [(9, (0, 4)), (7, (1, 1)), (5, (1, 1)), (0, (4, 0)), (1, (4, 1)), (2, (0, 7 * x1)), (3, (1, 1))]) (stN := [(1, 1), (1, 0), (0, 4), (4, 7)]) (hsN := jpA_130) rfl (by rw [show (1 : Int).tdiv 1 = 1 by decide +kernel]) rfl ?_
  refine jT_xlmul (x := 0) (y := 1) (z := 0) (pcN := 59) jI_204_58 rfl (by decide) rfl ?_
  refine jT_xlload_n (v := (1, 1)) (pcN := 60) jI_204_59 rfl rfl rfl ?_
  refine jT_xaload_n (v := (4, 1)) (pcN := 61) jI_204_60 rfl rfl rfl ?_
  refine jT_xiload_n (v := (0, 7 * x1)) (pcN := 62) jI_204_61 rfl rfl rfl ?_
  refine jT_xiload (v := (0, 4)) (pcN := 64) jI_204_62 rfl rfl rfl ?_
  refine jT_xiadd (x := 7 * x1) (y := 4) (z := 7 * x1 + 4) (pcN := 65) jI_204_64 rfl (by omega) rfl ?_
  refine jT_iald (x := 0) (a := 1) (j := (7 * x1 + 4).toNat) (fs := []) (X := jS0) (by rfl) (by rfl) (by rfl) (jw_nn (by omega) (by omega)) (jS0_r4 (by omega) (by omega)) ?_
  refine jT_eq (LN := [(9, (0, 4)), (7, (1, 1)), (5, (1, 1)), (0, (4, 0)), (1, (4, 1)), (2, (0, 7 * x1)), (3, (1, 1))]) (stN := [(0, 0), (1, 1), (1, 0), (0, 4), (4, 7)]) (hsN := jpA_130) rfl rfl rfl ?_
  refine jT_xi2l (x := 0) (z := 0) (pcN := 67) jI_204_66 rfl (by decide +kernel) rfl ?_
  refine jT_xlmul (x := 1) (y := 0) (z := 0) (pcN := 68) jI_204_67 rfl (by decide) rfl ?_
  refine jT_xlload (v := (1, 1)) (pcN := 70) jI_204_68 rfl rfl rfl ?_
  refine jT_xlload (v := (1, 1)) (pcN := 72) jI_204_70 rfl rfl rfl ?_
  refine jT_ldiv (a := 1) (b := 1) (by rfl) (by rfl) (by decide +kernel) (by decide +kernel) (by decide) ?_
  refine jT_eq (LN := [(9, (0, 4)), (7, (1, 1)), (5, (1, 1)), (0, (4, 0)), (1, (4, 1)), (2, (0, 7 * x1)), (3, (1, 1))]) (stN := [(1, 1), (1, 0), (1, 0), (0, 4), (4, 7)]) (hsN := jpA_130) rfl (by rw [show (1 : Int).tdiv 1 = 1 by decide +kernel]) rfl ?_
  refine jT_xlmul (x := 0) (y := 1) (z := 0) (pcN := 74) jI_204_73 rfl (by decide) rfl ?_
  refine jT_xladd (x := 0) (y := 0) (z := 0) (pcN := 75) jI_204_74 rfl (by decide) rfl ?_
  refine jT_adv 1 (pcN := 76) (LN := [(9, (0, 4)), (7, (1, 1)), (5, (1, 1)), (0, (4, 0)), (1, (4, 1)), (2, (0, 7 * x1)), (3, (1, 1))]) (stN := []) (hsN := jpA_130) (c1 := 0) (s1 := 0) (c2 := 0) (s2 := 0) (by exact rfl) ?_ (by omega) (by omega)
  refine jT_xiinc (x := 4) (z := 5) (LN := [(9, (0, 5)), (7, (1, 1)), (5, (1, 1)), (0, (4, 0)), (1, (4, 1)), (2, (0, 7 * x1)), (3, (1, 1))]) (pcN := 79) jI_204_76 rfl rfl (by decide) rfl rfl ?_
  refine jT_xgoto (pcN := 31) jI_204_79 rfl ?_
  refine jT_xiload (v := (0, 5)) (pcN := 33) jI_204_31 rfl rfl rfl ?_
  refine jT_xbipush (k := 6) (pcN := 35) jI_204_33 (by decide) rfl ?_
  refine jT_xicF (t := 82) (pcN := 38) jI_204_35 rfl (by decide +kernel) rfl rfl ?_
  refine jT_xaload_n (v := (4, 0)) (pcN := 39) jI_204_38 rfl rfl rfl ?_
  refine jT_xgetf (a := 0) (t := 1) (ci := 14) (fi := 9) (c := jzA_21) (v := (4, 7)) (pcN := 42) jI_204_39 rfl rfl rfl rfl rfl rfl rfl ?_
  refine jT_xiload (v := (0, 5)) (pcN := 44) jI_204_42 rfl rfl rfl ?_
  refine jT_xaload_n (v := (4, 0)) (pcN := 45) jI_204_44 rfl rfl rfl ?_
  refine jT_xgetf (a := 0) (t := 1) (ci := 14) (fi := 9) (c := jzA_21) (v := (4, 7)) (pcN := 48) jI_204_45 rfl rfl rfl rfl rfl rfl rfl ?_
  refine jT_xiload (v := (0, 5)) (pcN := 50) jI_204_48 rfl rfl rfl ?_
  refine jT_lald (x := 0) (a := 7) (j := 5) (fs := []) (X := [0, 0, 0, 0, 0, 0]) jI_204_50 rfl rfl rfl rfl ?_
  refine jT_eq (LN := [(9, (0, 5)), (7, (1, 1)), (5, (1, 1)), (0, (4, 0)), (1, (4, 1)), (2, (0, 7 * x1)), (3, (1, 1))]) (stN := [(1, 0), (0, 5), (4, 7)]) (hsN := jpA_130) rfl rfl rfl ?_
  refine jT_xlload (v := (1, 1)) (pcN := 53) jI_204_51 rfl rfl rfl ?_
  refine jT_xaload_n (v := (4, 0)) (pcN := 54) jI_204_53 rfl rfl rfl ?_
  refine jT_xgetf (a := 0) (t := 1) (ci := 14) (fi := 10) (c := jzA_21) (v := (1, 1)) (pcN := 57) jI_204_54 rfl rfl rfl rfl rfl rfl rfl ?_
  refine jT_ldiv (a := 1) (b := 1) (by rfl) (by rfl) (by decide +kernel) (by decide +kernel) (by decide) ?_
  refine jT_eq (LN := [(9, (0, 5)), (7, (1, 1)), (5, (1, 1)), (0, (4, 0)), (1, (4, 1)), (2, (0, 7 * x1)), (3, (1, 1))]) (stN := [(1, 1), (1, 0), (0, 5), (4, 7)]) (hsN := jpA_130) rfl (by rw [show (1 : Int).tdiv 1 = 1 by decide +kernel]) rfl ?_
  refine jT_xlmul (x := 0) (y := 1) (z := 0) (pcN := 59) jI_204_58 rfl (by decide) rfl ?_
  refine jT_xlload_n (v := (1, 1)) (pcN := 60) jI_204_59 rfl rfl rfl ?_
  refine jT_xaload_n (v := (4, 1)) (pcN := 61) jI_204_60 rfl rfl rfl ?_
  refine jT_xiload_n (v := (0, 7 * x1)) (pcN := 62) jI_204_61 rfl rfl rfl ?_
  refine jT_xiload (v := (0, 5)) (pcN := 64) jI_204_62 rfl rfl rfl ?_
  refine jT_xiadd (x := 7 * x1) (y := 5) (z := 7 * x1 + 5) (pcN := 65) jI_204_64 rfl (by omega) rfl ?_
  refine jT_iald (x := 0) (a := 1) (j := (7 * x1 + 5).toNat) (fs := []) (X := jS0) (by rfl) (by rfl) (by rfl) (jw_nn (by omega) (by omega)) (jS0_r5 (by omega) (by omega)) ?_
  refine jT_eq (LN := [(9, (0, 5)), (7, (1, 1)), (5, (1, 1)), (0, (4, 0)), (1, (4, 1)), (2, (0, 7 * x1)), (3, (1, 1))]) (stN := [(0, 0), (1, 1), (1, 0), (0, 5), (4, 7)]) (hsN := jpA_130) rfl rfl rfl ?_
  refine jT_xi2l (x := 0) (z := 0) (pcN := 67) jI_204_66 rfl (by decide +kernel) rfl ?_
  refine jT_xlmul (x := 1) (y := 0) (z := 0) (pcN := 68) jI_204_67 rfl (by decide) rfl ?_
  refine jT_xlload (v := (1, 1)) (pcN := 70) jI_204_68 rfl rfl rfl ?_
  refine jT_xlload (v := (1, 1)) (pcN := 72) jI_204_70 rfl rfl rfl ?_
  refine jT_ldiv (a := 1) (b := 1) (by rfl) (by rfl) (by decide +kernel) (by decide +kernel) (by decide) ?_
  refine jT_eq (LN := [(9, (0, 5)), (7, (1, 1)), (5, (1, 1)), (0, (4, 0)), (1, (4, 1)), (2, (0, 7 * x1)), (3, (1, 1))]) (stN := [(1, 1), (1, 0), (1, 0), (0, 5), (4, 7)]) (hsN := jpA_130) rfl (by rw [show (1 : Int).tdiv 1 = 1 by decide +kernel]) rfl ?_
  refine jT_xlmul (x := 0) (y := 1) (z := 0) (pcN := 74) jI_204_73 rfl (by decide) rfl ?_
  refine jT_xladd (x := 0) (y := 0) (z := 0) (pcN := 75) jI_204_74 rfl (by decide) rfl ?_
  refine jT_adv 1 (pcN := 76) (LN := [(9, (0, 5)), (7, (1, 1)), (5, (1, 1)), (0, (4, 0)), (1, (4, 1)), (2, (0, 7 * x1)), (3, (1, 1))]) (stN := []) (hsN := jpA_130) (c1 := 0) (s1 := 0) (c2 := 0) (s2 := 0) (by exact rfl) ?_ (by omega) (by omega)
  refine jT_xiinc (x := 5) (z := 6) (LN := [(9, (0, 6)), (7, (1, 1)), (5, (1, 1)), (0, (4, 0)), (1, (4, 1)), (2, (0, 7 * x1)), (3, (1, 1))]) (pcN := 79) jI_204_76 rfl rfl (by decide) rfl rfl ?_
  refine jT_xgoto (pcN := 31) jI_204_79 rfl ?_
  refine jT_xiload (v := (0, 6)) (pcN := 33) jI_204_31 rfl rfl rfl ?_
  refine jT_xbipush (k := 6) (pcN := 35) jI_204_33 (by decide) rfl ?_
  refine jT_xicT (pcN := 82) jI_204_35 rfl (by decide +kernel) rfl ?_
  refine jT_xaload_n (v := (4, 0)) (pcN := 83) jI_204_82 rfl rfl rfl ?_
  refine jT_xlload (v := (1, 1)) (pcN := 85) jI_204_83 rfl rfl rfl ?_
  refine jT_adv 1 (pcN := 88) (LN := [(9, (0, 6)), (7, (1, 1)), (5, (1, 1)), (0, (4, 0)), (1, (4, 1)), (2, (0, 7 * x1)), (3, (1, 1))]) (stN := []) (hsN := jpA_130) (c1 := 0) (s1 := 0) (c2 := 0) (s2 := 0) (by exact rfl) ?_ (by omega) (by omega)
  refine jT_xaload_n (v := (4, 0)) (pcN := 89) jI_204_88 rfl rfl rfl ?_
  refine jT_fR [0, 1, 2, 3, 4, 5, 6, 7, 8, 9, 10, 11, 12, 13, 14, 15] 16 (y := 199) (pcN := 92) (dC := 1) (bc1 := 0) (bc2 := 0) (c1 := 0) (c2 := 0) (as := [(4, 0)]) (asC := [(4, 0)]) (LN := [(9, (0, 6)), (7, (1, 1)), (5, (1, 1)), (0, (4, 0)), (1, (4, 1)), (2, (0, 7 * x1)), (3, (1, 1))]) (stN := []) (hsC := jpA_147) (v := (9, 0)) (st2 := []) (jA_199_45 (d := 0)) (by rfl) (by rfl) (by decide +kernel) (by rfl) (by rfl) (by omega) (by omega) (by omega) (by omega) rfl ?_
  exact jT_ret rfl (by decide) (by show 16 ≤ 16; decide) (by omega) (by omega) ⟨rfl, rfl, rfl⟩
theorem jI_255_70 : jmI (jm 255) 70 = (.lconst 1, 1) := by rfl
theorem jA_255_664 {xs : List Int} {d : Nat} {x1 : Int} (h_x1 : 0 ≤ x1 ∧ x1 ≤ 7) : jT xs (d + 3) 255 24 0 [(0, (4, 0)), (1, (0, x1)), (2, (0, 0))] [] jpA_248 0 0 (fun k v hsN => k = 0 ∧ v = (0, 1) ∧ hsN = jpA_2602) := by
  refine jT_xaload_n (v := (4, 0)) (pcN := 1) jI_255_0 rfl rfl rfl ?_
  refine jT_xiload_n (v := (0, x1)) (pcN := 2) jI_255_1 rfl rfl rfl ?_
  refine jT_fR [] 24 (y := 188) (pcN := 5) (dC := 1) (bc1 := 0) (bc2 := 0) (c1 := 0) (c2 := 0) (as := [(0, x1)]) (asC := [(0, x1)]) (LN := [(0, (4, 0)), (1, (0, x1)), (2, (0, 0))]) (stN := [(4, 0)]) (hsC := []) (v := (0, 1)) (st2 := [(0, 1), (4, 0)]) (jA_188_13 (d := 0) (by omega)) (by rfl) (by rfl) (by decide +kernel) (by rfl) (by rfl) (by omega) (by omega) (by omega) (by omega) rfl ?_
  refine jT_fR [0, 1, 2, 3, 4, 5, 6, 7, 8, 9, 10, 11, 12, 13, 14, 15] 24 (y := 190) (pcN := 8) (dC := 1) (bc1 := 0) (bc2 := 0) (c1 := 0) (c2 := 0) (as := [(4, 0), (0, 1)]) (asC := [(4, 0), (0, 1)]) (LN := [(0, (4, 0)), (1, (0, x1)), (2, (0, 0))]) (stN := []) (hsC := jpA_22) (v := (0, 0)) (st2 := [(0, 0)]) (jA_190_39 (d := 0)) (by rfl) (by rfl) (by decide +kernel) (by rfl) (by rfl) (by omega) (by omega) (by omega) (by omega) rfl ?_
  refine jT_xifF (t := 37) (pcN := 11) jI_255_8 rfl (by decide +kernel) rfl rfl ?_
  refine jT_xaload_n (v := (4, 0)) (pcN := 12) jI_255_11 rfl rfl rfl ?_
  refine jT_xaload_n (v := (4, 0)) (pcN := 13) jI_255_12 rfl rfl rfl ?_
  refine jT_xgetf (a := 0) (t := 1) (ci := 14) (fi := 1) (c := jzA_21) (v := (4, 1)) (pcN := 16) jI_255_13 rfl rfl rfl rfl rfl rfl rfl ?_
  refine jT_xsipush (k := 1192) (pcN := 19) jI_255_16 (by decide) rfl ?_
  refine jT_iald (x := 0) (a := 1) (j := 1192) (fs := []) (X := jS0) (by rfl) (by rfl) (by rfl) (by rfl) (by decide +kernel) ?_
  refine jT_eq (LN := [(0, (4, 0)), (1, (0, x1)), (2, (0, 0))]) (stN := [(0, 0), (4, 0)]) (hsN := jpA_248) rfl rfl rfl ?_
  refine jT_xbipush (k := 60) (pcN := 22) jI_255_20 (by decide) rfl ?_
  refine jT_xicF (t := 29) (pcN := 25) jI_255_22 rfl (by decide +kernel) rfl rfl ?_
  refine jT_xiconst (k := 1) (pcN := 26) jI_255_25 rfl ?_
  refine jT_xgoto (pcN := 30) jI_255_26 rfl ?_
  refine jT_xiconst (k := 2) (pcN := 31) jI_255_30 rfl ?_
  refine jT_fR [0] 24 (y := 191) (pcN := 34) (dC := 0) (bc1 := 0) (bc2 := 0) (c1 := 0) (c2 := 0) (as := [(4, 0), (0, 1), (0, 2)]) (asC := [(4, 0), (0, 1), (0, 2)]) (LN := [(0, (4, 0)), (1, (0, x1)), (2, (0, 0))]) (stN := []) (hsC := [jgh]) (v := (0, 0)) (st2 := [(0, 0)]) (jA_191_49 (d := 0)) (by rfl) (by rfl) (by decide +kernel) (by rfl) (by rfl) (by omega) (by omega) (by omega) (by omega) rfl ?_
  refine jT_xifT (pcN := 39) jI_255_34 rfl (by decide +kernel) rfl ?_
  refine jT_xaload_n (v := (4, 0)) (pcN := 40) jI_255_39 rfl rfl rfl ?_
  refine jT_xaload_n (v := (4, 0)) (pcN := 41) jI_255_40 rfl rfl rfl ?_
  refine jT_xgetf (a := 0) (t := 1) (ci := 14) (fi := 1) (c := jzA_21) (v := (4, 1)) (pcN := 44) jI_255_41 rfl rfl rfl rfl rfl rfl rfl ?_
  refine jT_xsipush (k := 1192) (pcN := 47) jI_255_44 (by decide) rfl ?_
  refine jT_iald (x := 0) (a := 1) (j := 1192) (fs := []) (X := jS0) (by rfl) (by rfl) (by rfl) (by rfl) (by decide +kernel) ?_
  refine jT_eq (LN := [(0, (4, 0)), (1, (0, x1)), (2, (0, 0))]) (stN := [(0, 0), (4, 0)]) (hsN := jpA_248) rfl rfl rfl ?_
  refine jT_fR [0, 1, 2, 3, 4, 5, 6, 7, 8, 9, 10, 11, 12, 13, 14, 15] 24 (y := 256) (pcN := 51) (dC := 1) (bc1 := 0) (bc2 := 0) (c1 := 0) (c2 := 0) (as := [(4, 0), (0, 0)]) (asC := [(4, 0), (0, 0)]) (LN := [(0, (4, 0)), (1, (0, x1)), (2, (0, 0))]) (stN := []) (hsC := jpA_147) (v := (9, 0)) (st2 := []) (jA_256_650 (d := 0)) (by rfl) (by rfl) (by decide +kernel) (by rfl) (by rfl) (by omega) (by omega) (by omega) (by omega) rfl ?_
  refine jT_xaload_n (v := (4, 0)) (pcN := 52) jI_255_51 rfl rfl rfl ?_
  refine jT_xaload_n (v := (4, 0)) (pcN := 53) jI_255_52 rfl rfl rfl ?_
  refine jT_xgetf (a := 0) (t := 1) (ci := 14) (fi := 1) (c := jzA_21) (v := (4, 1)) (pcN := 56) jI_255_53 rfl rfl rfl rfl rfl rfl rfl ?_
  refine jT_xbipush (k := 7) (pcN := 58) jI_255_56 (by decide) rfl ?_
  refine jT_xiload_n (v := (0, x1)) (pcN := 59) jI_255_58 rfl rfl rfl ?_
  refine jT_ximul (x := 7) (y := x1) (z := 7 * x1) (pcN := 60) jI_255_59 rfl (rfl) rfl ?_
  refine jT_xiload_n (v := (0, 0)) (pcN := 61) jI_255_60 rfl rfl rfl ?_
  refine jT_xifT (pcN := 70) jI_255_61 rfl (by decide +kernel) rfl ?_
  refine jT_xlconst (z := 1) (pcN := 71) jI_255_70 rfl rfl ?_
  refine jT_fR [0, 1, 2, 3, 4, 5, 6, 7, 8, 9, 10, 11, 12, 13, 14, 15] 24 (y := 204) (pcN := 74) (dC := 2) (bc1 := 0) (bc2 := 0) (c1 := 0) (c2 := 0) (as := [(4, 0), (4, 1), (0, 7 * x1), (1, 1)]) (asC := [(4, 0), (4, 1), (0, 7 * x1), (1, 1)]) (LN := [(0, (4, 0)), (1, (0, x1)), (2, (0, 0))]) (stN := []) (hsC := jpA_130) (v := (9, 0)) (st2 := []) (jA_204_663 (d := 0) (by omega)) (by rfl) (by rfl) (by decide +kernel) (by rfl) (by rfl) (by omega) (by omega) (by omega) (by omega) rfl ?_
  refine jT_xaload_n (v := (4, 0)) (pcN := 75) jI_255_74 rfl rfl rfl ?_
  refine jT_xaload_n (v := (4, 0)) (pcN := 76) jI_255_75 rfl rfl rfl ?_
  refine jT_fR [0, 1, 2, 3, 4, 5, 6, 7, 8, 9, 10, 11, 12, 13, 14, 15] 24 (y := 205) (pcN := 79) (dC := 1) (bc1 := 0) (bc2 := 0) (c1 := 0) (c2 := 0) (as := [(4, 0)]) (asC := [(4, 0)]) (LN := [(0, (4, 0)), (1, (0, x1)), (2, (0, 0))]) (stN := [(4, 0)]) (hsC := jpA_147) (v := (0, 1)) (st2 := [(0, 1), (4, 0)]) (jA_205_48 (d := 0)) (by rfl) (by rfl) (by decide +kernel) (by rfl) (by rfl) (by omega) (by omega) (by omega) (by omega) rfl ?_
  refine jT_xiconst (k := 3) (pcN := 80) jI_255_79 rfl ?_
  refine jT_fR [0] 24 (y := 191) (pcN := 83) (dC := 0) (bc1 := 0) (bc2 := 0) (c1 := 0) (c2 := 0) (as := [(4, 0), (0, 1), (0, 3)]) (asC := [(4, 0), (0, 1), (0, 3)]) (LN := [(0, (4, 0)), (1, (0, x1)), (2, (0, 0))]) (stN := []) (hsC := [jgh]) (v := (0, 0)) (st2 := [(0, 0)]) (jA_191_117 (d := 0)) (by rfl) (by rfl) (by decide +kernel) (by rfl) (by rfl) (by omega) (by omega) (by omega) (by omega) rfl ?_
  refine jT_xifT (pcN := 88) jI_255_83 rfl (by decide +kernel) rfl ?_
  refine jT_xaload_n (v := (4, 0)) (pcN := 89) jI_255_88 rfl rfl rfl ?_
  refine jT_fB [0, 1, 2, 3, 4, 5, 6, 7, 8, 9, 10, 11, 12, 13, 14, 15, 16, 17, 18, 19, 20, 21, 22, 23] 24 (y := 195) (pcN := 92) (dC := 0) (bc1 := 0) (bc2 := 0) (c1 := 0) (c2 := 0) (as := [(4, 0)]) (asC := [(4, 0)]) (LN := [(0, (4, 0)), (1, (0, x1)), (2, (0, 0))]) (stN := []) (hsC := jpA_198) (hsD := jpA_202) (v := (9, 0)) (st2 := []) (hs2 := jpA_255) (jA_195_50 (d := 0)) (by rfl) (by rfl) (by decide +kernel) (by rfl) (by rfl) (by omega) (by omega) (by omega) (by omega) rfl (by decide +kernel) ?_
  refine jT_xaload_n (v := (4, 0)) (pcN := 93) jI_255_92 rfl rfl rfl ?_
  refine jT_xiload_n (v := (0, x1)) (pcN := 94) jI_255_93 rfl rfl rfl ?_
  refine jT_fR [0, 1, 2, 3, 4, 5, 6, 7, 8, 9, 10, 11, 12, 13, 14, 15] 24 (y := 202) (pcN := 97) (dC := 1) (bc1 := 0) (bc2 := 0) (c1 := 0) (c2 := 0) (as := [(4, 0), (0, x1)]) (asC := [(4, 0), (0, x1)]) (LN := [(0, (4, 0)), (1, (0, x1)), (2, (0, 0))]) (stN := []) (hsC := jpA_216) (v := (9, 0)) (st2 := []) (jA_202_299 (d := 0) (by omega)) (by rfl) (by rfl) (by decide +kernel) (by rfl) (by rfl) (by omega) (by omega) (by omega) (by omega) rfl ?_
  refine jT_xiconst (k := 0) (pcN := 98) jI_255_97 rfl ?_
  refine jT_xistore_n (v := (0, 0)) (LN := [(3, (0, 0)), (0, (4, 0)), (1, (0, x1)), (2, (0, 0))]) (pcN := 99) jI_255_98 rfl rfl rfl rfl ?_
  refine jT_xiload_n (v := (0, 0)) (pcN := 100) jI_255_99 rfl rfl rfl ?_
  refine jT_xbipush (k := 6) (pcN := 102) jI_255_100 (by decide) rfl ?_
  refine jT_xicF (t := 128) (pcN := 105) jI_255_102 rfl (by decide +kernel) rfl rfl ?_
  refine jT_xiload_n (v := (0, 0)) (pcN := 106) jI_255_105 rfl rfl rfl ?_
  refine jT_xifT (pcN := 128) jI_255_106 rfl (by decide +kernel) rfl ?_
  refine jT_xaload_n (v := (4, 0)) (pcN := 129) jI_255_128 rfl rfl rfl ?_
  refine jT_xaload_n (v := (4, 0)) (pcN := 130) jI_255_129 rfl rfl rfl ?_
  refine jT_xgetf (a := 0) (t := 1) (ci := 14) (fi := 1) (c := jzA_200) (v := (4, 1)) (pcN := 133) jI_255_130 rfl rfl rfl rfl rfl rfl rfl ?_
  refine jT_xsipush (k := 1193) (pcN := 136) jI_255_133 (by decide) rfl ?_
  refine jT_xbipush (k := 7) (pcN := 138) jI_255_136 (by decide) rfl ?_
  refine jT_xaload_n (v := (4, 0)) (pcN := 139) jI_255_138 rfl rfl rfl ?_
  refine jT_xgetf (a := 0) (t := 1) (ci := 14) (fi := 1) (c := jzA_200) (v := (4, 1)) (pcN := 142) jI_255_139 rfl rfl rfl rfl rfl rfl rfl ?_
  refine jT_xsipush (k := 1192) (pcN := 145) jI_255_142 (by decide) rfl ?_
  refine jT_iald (x := 0) (a := 1) (j := 1192) (fs := []) (X := jS0) (by rfl) (by rfl) (by rfl) (by rfl) (by decide +kernel) ?_
  refine jT_eq (LN := [(3, (0, 0)), (0, (4, 0)), (1, (0, x1)), (2, (0, 0))]) (stN := [(0, 0), (0, 7), (0, 1193), (4, 1), (4, 0)]) (hsN := jpA_255) rfl rfl rfl ?_
  refine jT_ximul (x := 7) (y := 0) (z := 0) (pcN := 147) jI_255_146 rfl (by decide) rfl ?_
  refine jT_xiadd (x := 1193) (y := 0) (z := 1193) (pcN := 148) jI_255_147 rfl (by decide) rfl ?_
  refine jT_fB [0, 1, 2, 3, 4, 5, 6, 7, 8, 9, 10, 11, 12, 13, 14, 15] 24 (y := 197) (pcN := 151) (dC := 0) (bc1 := 0) (bc2 := 0) (c1 := 0) (c2 := 0) (as := [(4, 0), (4, 1), (0, 1193)]) (asC := [(4, 0), (4, 1), (0, 1193)]) (LN := [(3, (0, 0)), (0, (4, 0)), (1, (0, x1)), (2, (0, 0))]) (stN := []) (hsC := jpA_216) (hsD := jpA_2534) (v := (9, 0)) (st2 := []) (hs2 := jpA_2594) (jA_197_652 (d := 0)) (by rfl) (by rfl) (by decide +kernel) (by rfl) (by rfl) (by omega) (by omega) (by omega) (by omega) rfl (by decide +kernel) ?_
  refine jT_xaload_n (v := (4, 0)) (pcN := 152) jI_255_151 rfl rfl rfl ?_
  refine jT_xgetf (a := 0) (t := 1) (ci := 14) (fi := 1) (c := jzA_200) (v := (4, 1)) (pcN := 155) jI_255_152 rfl rfl rfl rfl rfl rfl rfl ?_
  refine jT_xsipush (k := 1192) (pcN := 158) jI_255_155 (by decide) rfl ?_
  refine jT_adv 1 (pcN := 159) (LN := [(3, (0, 0)), (0, (4, 0)), (1, (0, x1)), (2, (0, 0))]) (stN := [(0, 1192), (4, 1), (0, 1192), (4, 1)]) (hsN := jpA_2594) (c1 := 0) (s1 := 0) (c2 := 0) (s2 := 0) (by exact rfl) ?_ (by omega) (by omega)
  refine jT_iald (x := 0) (a := 1) (j := 1192) (fs := []) (X := ((((((((((((((jS0).set 1193 0)).set 1194 0)).set 1195 0)).set 1196 0)).set 1197 0)).set 1198 0)).set 1199 1)) (by rfl) (by rfl) (by rfl) (by rfl) (by rw [List.getElem?_set_ne (by omega), List.getElem?_set_ne (by omega), List.getElem?_set_ne (by omega), List.getElem?_set_ne (by omega), List.getElem?_set_ne (by omega), List.getElem?_set_ne (by omega), List.getElem?_set_ne (by omega)]; exact (by decide +kernel)) ?_
  refine jT_eq (LN := [(3, (0, 0)), (0, (4, 0)), (1, (0, x1)), (2, (0, 0))]) (stN := [(0, 0), (0, 1192), (4, 1)]) (hsN := jpA_2594) rfl rfl rfl ?_
  refine jT_xiconst (k := 1) (pcN := 161) jI_255_160 rfl ?_
  refine jT_xiadd (x := 0) (y := 1) (z := 1) (pcN := 162) jI_255_161 rfl (by decide) rfl ?_
  refine jT_iast (x := 1) (a := 1) (j := 1192) (fs := []) (X := ((((((((((((((jS0).set 1193 0)).set 1194 0)).set 1195 0)).set 1196 0)).set 1197 0)).set 1198 0)).set 1199 1)) (by rfl) (by rfl) (by rfl) (by rfl) (by rw [show List.length (((((((((((((((jS0).set 1193 0)).set 1194 0)).set 1195 0)).set 1196 0)).set 1197 0)).set 1198 0)).set 1199 1) : List Int) = 1613 from by rw [List.length_set, List.length_set, List.length_set, List.length_set, List.length_set, List.length_set, List.length_set]; exact (jS0_len)]; omega) ?_
  refine jT_eq (LN := [(3, (0, 0)), (0, (4, 0)), (1, (0, x1)), (2, (0, 0))]) (stN := []) (hsN := jpA_2602) rfl rfl rfl ?_
  refine jT_xaload_n (v := (4, 0)) (pcN := 164) jI_255_163 rfl rfl rfl ?_
  refine jT_xgetf (a := 0) (t := 1) (ci := 14) (fi := 1) (c := jzA_200) (v := (4, 1)) (pcN := 167) jI_255_164 rfl rfl rfl rfl rfl rfl rfl ?_
  refine jT_xsipush (k := 1192) (pcN := 170) jI_255_167 (by decide) rfl ?_
  refine jT_iald (x := 1) (a := 1) (j := 1192) (fs := []) (X := ((((((((((((((((jS0).set 1193 0)).set 1194 0)).set 1195 0)).set 1196 0)).set 1197 0)).set 1198 0)).set 1199 1)).set 1192 1)) (by rfl) (by rfl) (by rfl) (by rfl) (by rw [List.getElem?_set_self (by simp only [List.length_set, List.length_replicate, List.length_cons, List.length_nil, jS0_len]; omega)]) ?_
  refine jT_eq (LN := [(3, (0, 0)), (0, (4, 0)), (1, (0, x1)), (2, (0, 0))]) (stN := [(0, 1)]) (hsN := jpA_2602) rfl rfl rfl ?_
  exact jT_ret rfl (by decide) (by show 24 ≤ 24; decide) (by omega) (by omega) ⟨rfl, rfl, rfl⟩
theorem jA_134_665 {xs : List Int} {d : Nat} {x1 : Int} (h_x1 : 8 ≤ x1 ∧ x1 ≤ 2147483647) : jT xs (d + 1) 134 12 0 [(0, (4, 0)), (1, (0, x1)), (2, (0, 0))] [] jpA_6 1 6 (fun k v hsN => k = 1 ∧ v = (0, 0) ∧ hsN = jpA_6 ++ []) := by
  refine jT_xaload_n (v := (4, 0)) (pcN := 1) jI_134_0 rfl rfl rfl ?_
  refine jT_xiload_n (v := (0, x1)) (pcN := 2) jI_134_1 rfl rfl rfl ?_
  refine jT_xbipush (k := 8) (pcN := 4) jI_134_2 (by decide) rfl ?_
  exact jT_fX [0] 12 (y := 115) (pcN := 7) (dC := 0) (bc1 := 1) (bc2 := 6) (as := [(4, 0), (0, x1), (0, 8)]) (asC := [(4, 0), (0, x1), (0, 8)]) (LN := [(0, (4, 0)), (1, (0, x1)), (2, (0, 0))]) (stN := []) (hsC := [jgh]) (e := 0) (jA_115_65 (d := 0) (by omega)) (by rfl) (by rfl) (by decide +kernel) (by rfl) (by rfl) (by omega) (by omega) (by omega) (by omega) ⟨rfl, ⟨rfl, rfl, rfl⟩⟩
theorem jA_341_666 {xs : List Int} {d : Nat} {x1 : Int} (h_x1 : 8 ≤ x1 ∧ x1 ≤ 2147483647) : jT xs (d + 2) 341 13 0 [(0, (4, 0)), (1, (0, x1)), (2, (0, 0)), (3, (4, 1))] [] jpA_15 1 6 (fun k v hsN => k = 0 ∧ v = (0, 1) ∧ hsN = jpA_15 ++ []) := by
  refine jT_xaload_n (v := (4, 1)) (pcN := 1) jI_341_0 rfl rfl rfl ?_
  refine jT_xiconst (k := 0) (pcN := 2) jI_341_1 rfl ?_
  refine jT_xaload_n (v := (4, 0)) (pcN := 3) jI_341_2 rfl rfl rfl ?_
  refine jT_xiload_n (v := (0, x1)) (pcN := 4) jI_341_3 rfl rfl rfl ?_
  refine jT_xiload_n (v := (0, 0)) (pcN := 5) jI_341_4 rfl rfl rfl ?_
  exact jT_fX [0, 2, 3, 4, 5, 6, 7, 8, 9, 10, 11, 12] 13 (y := 134) (pcN := 8) (dC := 1) (bc1 := 1) (bc2 := 6) (as := [(4, 0), (0, x1), (0, 0)]) (asC := [(4, 0), (0, x1), (0, 0)]) (LN := [(0, (4, 0)), (1, (0, x1)), (2, (0, 0)), (3, (4, 1))]) (stN := [(0, 0), (4, 1)]) (hsC := jpA_6) (e := 0) (jA_134_665 (d := 0) (by omega)) (by rfl) (by rfl) (by decide +kernel) (by rfl) (by rfl) (by omega) (by omega) (by omega) (by omega) (show _ from ⟨rfl, rfl, rfl⟩)
theorem jA_255_667 {xs : List Int} {d : Nat} {x1 : Int} (h_x1 : 8 ≤ x1 ∧ x1 ≤ 2147483647) : jT xs (d + 2) 255 16 0 [(0, (4, 0)), (1, (0, x1)), (2, (0, 0))] [] jpA_22 0 0 (fun k v hsN => k = 0 ∧ v = (0, 0) ∧ hsN = jpA_20) := by
  refine jT_xaload_n (v := (4, 0)) (pcN := 1) jI_255_0 rfl rfl rfl ?_
  refine jT_xiload_n (v := (0, x1)) (pcN := 2) jI_255_1 rfl rfl rfl ?_
  refine jT_fR [] 16 (y := 188) (pcN := 5) (dC := 1) (bc1 := 0) (bc2 := 0) (c1 := 0) (c2 := 0) (as := [(0, x1)]) (asC := [(0, x1)]) (LN := [(0, (4, 0)), (1, (0, x1)), (2, (0, 0))]) (stN := [(4, 0)]) (hsC := []) (v := (0, 0)) (st2 := [(0, 0), (4, 0)]) (jA_188_68 (d := 0) (by omega)) (by rfl) (by rfl) (by decide +kernel) (by rfl) (by rfl) (by omega) (by omega) (by omega) (by omega) rfl ?_
  refine jT_fB [0, 1, 2, 3, 4, 5, 6, 7, 8, 9, 10, 11, 12, 13, 14, 15] 16 (y := 190) (pcN := 8) (dC := 1) (bc1 := 0) (bc2 := 0) (c1 := 0) (c2 := 0) (as := [(4, 0), (0, 0)]) (asC := [(4, 0), (0, 0)]) (LN := [(0, (4, 0)), (1, (0, x1)), (2, (0, 0))]) (stN := []) (hsC := jpA_22) (hsD := jpA_20) (v := (0, 1)) (st2 := [(0, 1)]) (hs2 := jpA_20) (jA_190_6 (d := 0)) (by rfl) (by rfl) (by decide +kernel) (by rfl) (by rfl) (by omega) (by omega) (by omega) (by omega) rfl (by decide +kernel) ?_
  refine jT_xifT (pcN := 37) jI_255_8 rfl (by decide +kernel) rfl ?_
  refine jT_xiconst (k := 0) (pcN := 38) jI_255_37 rfl ?_
  exact jT_ret rfl (by decide) (by show 16 ≤ 16; decide) (by omega) (by omega) ⟨rfl, rfl, rfl⟩
theorem jI_379_1462 : jmI (jm 379) 1462 = (.aload_n 1, 1) := by rfl
theorem jI_379_1463 : jmI (jm 379) 1463 = (.aload_n 0, 1) := by rfl
theorem jI_379_1464 : jmI (jm 379) 1464 = (.iload 5, 2) := by rfl
theorem jI_379_1466 : jmI (jm 379) 1466 = (.iconst 1, 1) := by rfl
theorem jI_379_1467 : jmI (jm 379) 1467 = (.iadd, 1) := by rfl
theorem jI_379_1469 : jmI (jm 379) 1469 = (.aload_n 0, 1) := by rfl
theorem jI_379_1470 : jmI (jm 379) 1470 = (.iload 5, 2) := by rfl
theorem jI_379_1472 : jmI (jm 379) 1472 = (.iconst 2, 1) := by rfl
theorem jI_379_1473 : jmI (jm 379) 1473 = (.iadd, 1) := by rfl
theorem jI_379_1475 : jmI (jm 379) 1475 = (.ifCond .eq 7, 3) := by rfl
theorem jI_379_1478 : jmI (jm 379) 1478 = (.iconst 1, 1) := by rfl
theorem jI_379_1479 : jmI (jm 379) 1479 = (.goto 4, 3) := by rfl
theorem jI_379_1483 : jmI (jm 379) 1483 = (.aload_n 3, 1) := by rfl
theorem jI_379_1487 : jmI (jm 379) 1487 = (.istore 6, 2) := by rfl
theorem jI_379_1489 : jmI (jm 379) 1489 = (.aload_n 2, 1) := by rfl
theorem jI_379_1490 : jmI (jm 379) 1490 = (.aload_n 0, 1) := by rfl
theorem jI_379_1491 : jmI (jm 379) 1491 = (.iload 5, 2) := by rfl
theorem jI_379_1493 : jmI (jm 379) 1493 = (.iconst 1, 1) := by rfl
theorem jI_379_1494 : jmI (jm 379) 1494 = (.iadd, 1) := by rfl
theorem jI_379_1496 : jmI (jm 379) 1496 = (.aload_n 0, 1) := by rfl
theorem jI_379_1497 : jmI (jm 379) 1497 = (.iload 5, 2) := by rfl
theorem jI_379_1499 : jmI (jm 379) 1499 = (.iconst 2, 1) := by rfl
theorem jI_379_1500 : jmI (jm 379) 1500 = (.iadd, 1) := by rfl
theorem jI_379_1502 : jmI (jm 379) 1502 = (.ifCond .eq 7, 3) := by rfl
theorem jI_379_1505 : jmI (jm 379) 1505 = (.iconst 1, 1) := by rfl
theorem jI_379_1506 : jmI (jm 379) 1506 = (.goto 4, 3) := by rfl
theorem jI_379_1513 : jmI (jm 379) 1513 = (.istore 7, 2) := by rfl
theorem jI_379_1515 : jmI (jm 379) 1515 = (.aload_n 2, 1) := by rfl
theorem jI_379_1519 : jmI (jm 379) 1519 = (.iload 6, 2) := by rfl
theorem jI_379_1521 : jmI (jm 379) 1521 = (.if_icmp .eq 5, 3) := by rfl
theorem jI_379_1526 : jmI (jm 379) 1526 = (.iload 6, 2) := by rfl
theorem jI_379_1528 : jmI (jm 379) 1528 = (.ifCond .ne 15, 3) := by rfl
theorem jI_379_1543 : jmI (jm 379) 1543 = (.goto 2197, 3) := by rfl
set_option maxRecDepth 100000 in
theorem jL_15_0 {d : Nat} {x0 x1 x2 x3 x4 : Int} (h_x0 : (-2147483648) ≤ x0 ∧ x0 ≤ 2147483647) (h_x1 : (-2147483648) ≤ x1 ∧ x1 ≤ (-1)) (h_x2 : (-2147483648) ≤ x2 ∧ x2 ≤ (-1)) (h_x3 : (-2147483648) ≤ x3 ∧ x3 ≤ 2147483647) (h_x4 : (-2147483648) ≤ x4 ∧ x4 ≤ 2147483647) : jT [x0, x1, x2, x3, x4] (d + 3) 379 30 1462 [(5, (0, 0)), (4, (4, 3)), (3, (4, 2)), (2, (4, 1)), (1, (4, 0)), (0, (6, 0))] [] jpA_267 1 6 (fun k v hsN => k = 0 ∧ v = (0, 1)) := by
  refine jT_xaload_n (v := (4, 0)) (pcN := 1463) jI_379_1462 rfl rfl rfl ?_
  refine jT_xaload_n (v := (6, 0)) (pcN := 1464) jI_379_1463 rfl rfl rfl ?_
  refine jT_xiload (v := (0, 0)) (pcN := 1466) jI_379_1464 rfl rfl rfl ?_
  refine jT_xiconst (k := 1) (pcN := 1467) jI_379_1466 rfl ?_
  refine jT_xiadd (x := 0) (y := 1) (z := 1) (pcN := 1468) jI_379_1467 rfl (by decide) rfl ?_
  refine jT_adv 1 (pcN := 1469) (LN := [(5, (0, 0)), (4, (4, 3)), (3, (4, 2)), (2, (4, 1)), (1, (4, 0)), (0, (6, 0))]) (stN := [(0, x1), (4, 0)]) (hsN := jpA_267) (c1 := 0) (s1 := 0) (c2 := 1) (s2 := 6) (by exact rfl) ?_ (by omega) (by omega)
  refine jT_xaload_n (v := (6, 0)) (pcN := 1470) jI_379_1469 rfl rfl rfl ?_
  refine jT_xiload (v := (0, 0)) (pcN := 1472) jI_379_1470 rfl rfl rfl ?_
  refine jT_xiconst (k := 2) (pcN := 1473) jI_379_1472 rfl ?_
  refine jT_xiadd (x := 0) (y := 2) (z := 2) (pcN := 1474) jI_379_1473 rfl (by decide) rfl ?_
  refine jT_adv 1 (pcN := 1475) (LN := [(5, (0, 0)), (4, (4, 3)), (3, (4, 2)), (2, (4, 1)), (1, (4, 0)), (0, (6, 0))]) (stN := [(0, x2), (0, x1), (4, 0)]) (hsN := jpA_267) (c1 := 0) (s1 := 0) (c2 := 1) (s2 := 6) (by exact rfl) ?_ (by omega) (by omega)
  refine jT_ifF (a := x2) (t := 1482) (by rfl) (by rfl) (by rfl) (jw_idd (by omega) (by omega)) (by simp only [jcP] <;> omega) ?_
  refine jT_xiconst (k := 1) (pcN := 1479) jI_379_1478 rfl ?_
  refine jT_xgoto (pcN := 1483) jI_379_1479 rfl ?_
  refine jT_xaload_n (v := (4, 2)) (pcN := 1484) jI_379_1483 rfl rfl rfl ?_
  refine jT_fR [0, 2, 4, 5, 6, 7, 8, 9, 10, 11, 12, 13, 14] 30 (y := 341) (pcN := 1487) (dC := 2) (bc1 := 1) (bc2 := 6) (c1 := 0) (c2 := 0) (as := [(4, 0), (0, x1), (0, 1), (4, 2)]) (asC := [(4, 0), (0, x1), (0, 1), (4, 1)]) (LN := [(5, (0, 0)), (4, (4, 3)), (3, (4, 2)), (2, (4, 1)), (1, (4, 0)), (0, (6, 0))]) (stN := []) (hsC := jpA_15) (v := (0, 1)) (st2 := [(0, 1)]) (jA_341_643 (d := 0) (by omega)) (by rfl) (by rfl) (by decide +kernel) (by rfl) (by rfl) (by omega) (by omega) (by omega) (by omega) rfl ?_
  refine jT_xistore (v := (0, 1)) (LN := [(6, (0, 1)), (5, (0, 0)), (4, (4, 3)), (3, (4, 2)), (2, (4, 1)), (1, (4, 0)), (0, (6, 0))]) (pcN := 1489) jI_379_1487 rfl rfl rfl rfl ?_
  refine jT_xaload_n (v := (4, 1)) (pcN := 1490) jI_379_1489 rfl rfl rfl ?_
  refine jT_xaload_n (v := (6, 0)) (pcN := 1491) jI_379_1490 rfl rfl rfl ?_
  refine jT_xiload (v := (0, 0)) (pcN := 1493) jI_379_1491 rfl rfl rfl ?_
  refine jT_xiconst (k := 1) (pcN := 1494) jI_379_1493 rfl ?_
  refine jT_xiadd (x := 0) (y := 1) (z := 1) (pcN := 1495) jI_379_1494 rfl (by decide) rfl ?_
  refine jT_adv 1 (pcN := 1496) (LN := [(6, (0, 1)), (5, (0, 0)), (4, (4, 3)), (3, (4, 2)), (2, (4, 1)), (1, (4, 0)), (0, (6, 0))]) (stN := [(0, x1), (4, 1)]) (hsN := jpA_267) (c1 := 0) (s1 := 0) (c2 := 0) (s2 := 0) (by exact rfl) ?_ (by omega) (by omega)
  refine jT_xaload_n (v := (6, 0)) (pcN := 1497) jI_379_1496 rfl rfl rfl ?_
  refine jT_xiload (v := (0, 0)) (pcN := 1499) jI_379_1497 rfl rfl rfl ?_
  refine jT_xiconst (k := 2) (pcN := 1500) jI_379_1499 rfl ?_
  refine jT_xiadd (x := 0) (y := 2) (z := 2) (pcN := 1501) jI_379_1500 rfl (by decide) rfl ?_
  refine jT_adv 1 (pcN := 1502) (LN := [(6, (0, 1)), (5, (0, 0)), (4, (4, 3)), (3, (4, 2)), (2, (4, 1)), (1, (4, 0)), (0, (6, 0))]) (stN := [(0, x2), (0, x1), (4, 1)]) (hsN := jpA_267) (c1 := 0) (s1 := 0) (c2 := 0) (s2 := 0) (by exact rfl) ?_ (by omega) (by omega)
  refine jT_ifF (a := x2) (t := 1509) (by rfl) (by rfl) (by rfl) (jw_idd (by omega) (by omega)) (by simp only [jcP] <;> omega) ?_
  refine jT_xiconst (k := 1) (pcN := 1506) jI_379_1505 rfl ?_
  refine jT_xgoto (pcN := 1510) jI_379_1506 rfl ?_
  refine jT_fB [1, 15, 16, 17, 18, 19, 20, 21, 22, 23, 24, 25, 26, 27, 28, 29] 30 (y := 255) (pcN := 1513) (dC := 2) (bc1 := 0) (bc2 := 0) (c1 := 0) (c2 := 0) (as := [(4, 1), (0, x1), (0, 1)]) (asC := [(4, 0), (0, x1), (0, 1)]) (LN := [(6, (0, 1)), (5, (0, 0)), (4, (4, 3)), (3, (4, 2)), (2, (4, 1)), (1, (4, 0)), (0, (6, 0))]) (stN := []) (hsC := jpA_22) (hsD := jpA_20) (v := (0, 0)) (st2 := [(0, 0)]) (hs2 := jpA_306) (jA_255_644 (d := 0) (by omega)) (by rfl) (by rfl) (by decide +kernel) (by rfl) (by rfl) (by omega) (by omega) (by omega) (by omega) rfl (by decide +kernel) ?_
  refine jT_xistore (v := (0, 0)) (LN := [(7, (0, 0)), (6, (0, 1)), (5, (0, 0)), (4, (4, 3)), (3, (4, 2)), (2, (4, 1)), (1, (4, 0)), (0, (6, 0))]) (pcN := 1515) jI_379_1513 rfl rfl rfl rfl ?_
  refine jT_xaload_n (v := (4, 1)) (pcN := 1516) jI_379_1515 rfl rfl rfl ?_
  refine jT_fR [1, 15, 16, 17, 18, 19, 20, 21, 22, 23, 24, 25, 26, 27, 28, 29] 30 (y := 186) (pcN := 1519) (dC := 0) (bc1 := 0) (bc2 := 0) (c1 := 0) (c2 := 0) (as := [(4, 1)]) (asC := [(4, 0)]) (LN := [(7, (0, 0)), (6, (0, 1)), (5, (0, 0)), (4, (4, 3)), (3, (4, 2)), (2, (4, 1)), (1, (4, 0)), (0, (6, 0))]) (stN := []) (hsC := jpA_20) (v := (0, 1)) (st2 := [(0, 1)]) (jA_186_8 (d := 0)) (by rfl) (by rfl) (by decide +kernel) (by rfl) (by rfl) (by omega) (by omega) (by omega) (by omega) rfl ?_
  refine jT_xiload (v := (0, 1)) (pcN := 1521) jI_379_1519 rfl rfl rfl ?_
  refine jT_xicT (pcN := 1526) jI_379_1521 rfl (by decide +kernel) rfl ?_
  refine jT_xiload (v := (0, 1)) (pcN := 1528) jI_379_1526 rfl rfl rfl ?_
  refine jT_xifT (pcN := 1543) jI_379_1528 rfl (by decide +kernel) rfl ?_
  refine jT_xgoto (pcN := 3740) jI_379_1543 rfl ?_
  refine jT_xiinc (x := 0) (z := 5) (LN := [(5, (0, 5)), (7, (0, 0)), (6, (0, 1)), (4, (4, 3)), (3, (4, 2)), (2, (4, 1)), (1, (4, 0)), (0, (6, 0))]) (pcN := 3743) jI_379_3740 rfl rfl (by decide) rfl rfl ?_
  refine jT_xgoto (pcN := 28) jI_379_3743 rfl ?_
  refine jT_xiload (v := (0, 5)) (pcN := 30) jI_379_28 rfl rfl rfl ?_
  refine jT_xaload_n (v := (6, 0)) (pcN := 31) jI_379_30 rfl rfl rfl ?_
  refine jT_adv 1 (pcN := 32) (LN := [(5, (0, 5)), (7, (0, 0)), (6, (0, 1)), (4, (4, 3)), (3, (4, 2)), (2, (4, 1)), (1, (4, 0)), (0, (6, 0))]) (stN := [(0, 5), (0, 5)]) (hsN := jpA_306) (c1 := 0) (s1 := 0) (c2 := 0) (s2 := 0) (by exact rfl) ?_ (by omega) (by omega)
  refine jT_xiconst (k := 5) (pcN := 33) jI_379_32 rfl ?_
  refine jT_xisub (x := 5) (y := 5) (z := 0) (pcN := 34) jI_379_33 rfl (by decide) rfl ?_
  refine jT_xicT (pcN := 3746) jI_379_34 rfl (by decide +kernel) rfl ?_
  refine jT_xiconst (k := 1) (pcN := 3747) jI_379_3746 rfl ?_
  exact jT_ret rfl (by decide) (by show 30 ≤ 30; decide) (by omega) (by omega) ⟨rfl, rfl⟩
def jpA_2641 : List JC := [jzA_265, jzA_266, (101, [], [0]), jgh, jgh, jgh, jgh, jgh, jgh, jgh, jgh, jgh, jgh, jzA_79, jzA_322, (100, [], jS0), (100, [], []), jzA_323, jzA_197, jgh, jgh, (101, [], [0, 0, 0, 0, 0, 0]), jgh, jgh, jgh, jgh, jgh, jgh, jgh, jgh, jzA_324, jgh, jgh, jgh, (114, [], []), (100, [], (List.replicate 1613 0)), jgh, jgh, jgh, jgh, jgh, jgh, jgh, (4, [(4, 44), (1, 1)], []), (101, [], [0, 0, 0, 0, 0, 0])]
def jzA_2642 : JC := (13, [(4, 4), (4, 5), (4, 6), (4, 7), (4, 8), (4, 9), (4, 10), (4, 11), (4, 12), (4, 13), (0, 1), (4, 50), (0, 0)], [])
def jzA_2643 : JC := (9, [(4, 30), (4, 31), (4, 32), (4, 33), (4, 49)], [])
def jpA_2644 : List JC := [jzA_2642, jzA_266, (101, [], [1]), jgh, jgh, jgh, jgh, jgh, jgh, jgh, jgh, jgh, jgh, jzA_327, jzA_322, (100, [], jS0), (100, [], []), jzA_323, jzA_197, jgh, jgh, (101, [], [0, 0, 0, 0, 0, 0]), jgh, jgh, jgh, jgh, jgh, jgh, jgh, jgh, jzA_324, jgh, jgh, jgh, (114, [], []), (100, [], (List.replicate 1613 0)), jgh, jgh, jgh, jgh, jgh, jgh, jgh, (4, [(4, 44), (1, 1)], []), (101, [], [0, 0, 0, 0, 0, 0]), (101, [], [0, 0, 0, 0, 0, 0]), (4, [(4, 45), (1, 1)], []), (101, [], [0, 0, 0, 0, 0, 0]), (4, [(4, 47), (1, 1)], []), (114, [], [48]), jzA_2643]
def jpA_2645 : List JC := [jzA_2642, jzA_330, (101, [], [1]), jgh, jgh, jgh, jgh, jgh, jgh, jgh, jgh, jgh, jgh, jzA_327, jzA_322, jzA_2601, (100, [], []), jzA_323, jzA_331, jgh, jgh, (101, [], [0, 0, 0, 0, 0, 0]), jgh, jgh, jgh, jgh, jgh, jgh, jgh, jgh, jzA_324, jgh, jgh, jgh, (114, [], []), (100, [], jS0), jgh, jgh, jgh, jgh, jgh, jgh, jgh, (4, [(4, 44), (1, 1)], []), (101, [], [0, 0, 0, 0, 0, 0]), (101, [], [0, 0, 0, 0, 0, 0]), (4, [(4, 45), (1, 1)], []), (101, [], [0, 0, 0, 0, 0, 0]), (4, [(4, 47), (1, 1)], []), (114, [], [48]), jzA_2643]
theorem jI_379_1531 : jmI (jm 379) 1531 = (.aload_n 3, 1) := by rfl
theorem jI_379_1532 : jmI (jm 379) 1532 = (.iconst 0, 1) := by rfl
theorem jI_379_1533 : jmI (jm 379) 1533 = (.laload, 1) := by rfl
theorem jI_379_1534 : jmI (jm 379) 1534 = (.iload 7, 2) := by rfl
theorem jI_379_1536 : jmI (jm 379) 1536 = (.i2l, 1) := by rfl
theorem jI_379_1538 : jmI (jm 379) 1538 = (.ifCond .eq 5, 3) := by rfl
set_option maxRecDepth 100000 in
theorem jL_15_1 {d : Nat} {x0 x1 x2 x3 x4 : Int} (h_x0 : (-2147483648) ≤ x0 ∧ x0 ≤ 2147483647) (h_x1 : 0 ≤ x1 ∧ x1 ≤ 7) (h_x2 : (-2147483648) ≤ x2 ∧ x2 ≤ (-1)) (h_x3 : (-2147483648) ≤ x3 ∧ x3 ≤ 2147483647) (h_x4 : (-2147483648) ≤ x4 ∧ x4 ≤ 2147483647) : jT [x0, x1, x2, x3, x4] (d + 6) 379 45 1462 [(5, (0, 0)), (4, (4, 3)), (3, (4, 2)), (2, (4, 1)), (1, (4, 0)), (0, (6, 0))] [] jpA_2641 6 22 (fun k v hsN => k = 0 ∧ v = (0, 1)) := by
  refine jT_xaload_n (v := (4, 0)) (pcN := 1463) jI_379_1462 rfl rfl rfl ?_
  refine jT_xaload_n (v := (6, 0)) (pcN := 1464) jI_379_1463 rfl rfl rfl ?_
  refine jT_xiload (v := (0, 0)) (pcN := 1466) jI_379_1464 rfl rfl rfl ?_
  refine jT_xiconst (k := 1) (pcN := 1467) jI_379_1466 rfl ?_
  refine jT_xiadd (x := 0) (y := 1) (z := 1) (pcN := 1468) jI_379_1467 rfl (by decide) rfl ?_
  refine jT_adv 1 (pcN := 1469) (LN := [(5, (0, 0)), (4, (4, 3)), (3, (4, 2)), (2, (4, 1)), (1, (4, 0)), (0, (6, 0))]) (stN := [(0, x1), (4, 0)]) (hsN := jpA_2641) (c1 := 0) (s1 := 0) (c2 := 6) (s2 := 22) (by exact rfl) ?_ (by omega) (by omega)
  refine jT_xaload_n (v := (6, 0)) (pcN := 1470) jI_379_1469 rfl rfl rfl ?_
  refine jT_xiload (v := (0, 0)) (pcN := 1472) jI_379_1470 rfl rfl rfl ?_
  refine jT_xiconst (k := 2) (pcN := 1473) jI_379_1472 rfl ?_
  refine jT_xiadd (x := 0) (y := 2) (z := 2) (pcN := 1474) jI_379_1473 rfl (by decide) rfl ?_
  refine jT_adv 1 (pcN := 1475) (LN := [(5, (0, 0)), (4, (4, 3)), (3, (4, 2)), (2, (4, 1)), (1, (4, 0)), (0, (6, 0))]) (stN := [(0, x2), (0, x1), (4, 0)]) (hsN := jpA_2641) (c1 := 0) (s1 := 0) (c2 := 6) (s2 := 22) (by exact rfl) ?_ (by omega) (by omega)
  refine jT_ifF (a := x2) (t := 1482) (by rfl) (by rfl) (by rfl) (jw_idd (by omega) (by omega)) (by simp only [jcP] <;> omega) ?_
  refine jT_xiconst (k := 1) (pcN := 1479) jI_379_1478 rfl ?_
  refine jT_xgoto (pcN := 1483) jI_379_1479 rfl ?_
  refine jT_xaload_n (v := (4, 2)) (pcN := 1484) jI_379_1483 rfl rfl rfl ?_
  refine jT_fB [0, 2, 4, 5, 6, 7, 8, 9, 10, 11, 12, 13, 14, 30, 31, 32, 33, 34, 43, 44] 45 (y := 341) (pcN := 1487) (dC := 5) (bc1 := 6) (bc2 := 22) (c1 := 0) (c2 := 0) (as := [(4, 0), (0, x1), (0, 1), (4, 2)]) (asC := [(4, 0), (0, x1), (0, 1), (4, 1)]) (LN := [(5, (0, 0)), (4, (4, 3)), (3, (4, 2)), (2, (4, 1)), (1, (4, 0)), (0, (6, 0))]) (stN := []) (hsC := jpA_2521) (hsD := jpA_2518) (v := (0, 0)) (st2 := [(0, 0)]) (hs2 := jpA_2644) (jA_341_648 (d := 0) (by omega)) (by rfl) (by rfl) (by decide +kernel) (by rfl) (by rfl) (by omega) (by omega) (by omega) (by omega) rfl (by decide +kernel) ?_
  refine jT_xistore (v := (0, 0)) (LN := [(6, (0, 0)), (5, (0, 0)), (4, (4, 3)), (3, (4, 2)), (2, (4, 1)), (1, (4, 0)), (0, (6, 0))]) (pcN := 1489) jI_379_1487 rfl rfl rfl rfl ?_
  refine jT_xaload_n (v := (4, 1)) (pcN := 1490) jI_379_1489 rfl rfl rfl ?_
  refine jT_xaload_n (v := (6, 0)) (pcN := 1491) jI_379_1490 rfl rfl rfl ?_
  refine jT_xiload (v := (0, 0)) (pcN := 1493) jI_379_1491 rfl rfl rfl ?_
  refine jT_xiconst (k := 1) (pcN := 1494) jI_379_1493 rfl ?_
  refine jT_xiadd (x := 0) (y := 1) (z := 1) (pcN := 1495) jI_379_1494 rfl (by decide) rfl ?_
  refine jT_adv 1 (pcN := 1496) (LN := [(6, (0, 0)), (5, (0, 0)), (4, (4, 3)), (3, (4, 2)), (2, (4, 1)), (1, (4, 0)), (0, (6, 0))]) (stN := [(0, x1), (4, 1)]) (hsN := jpA_2644) (c1 := 0) (s1 := 0) (c2 := 0) (s2 := 0) (by exact rfl) ?_ (by omega) (by omega)
  refine jT_xaload_n (v := (6, 0)) (pcN := 1497) jI_379_1496 rfl rfl rfl ?_
  refine jT_xiload (v := (0, 0)) (pcN := 1499) jI_379_1497 rfl rfl rfl ?_
  refine jT_xiconst (k := 2) (pcN := 1500) jI_379_1499 rfl ?_
  refine jT_xiadd (x := 0) (y := 2) (z := 2) (pcN := 1501) jI_379_1500 rfl (by decide) rfl ?_
  refine jT_adv 1 (pcN := 1502) (LN := [(6, (0, 0)), (5, (0, 0)), (4, (4, 3)), (3, (4, 2)), (2, (4, 1)), (1, (4, 0)), (0, (6, 0))]) (stN := [(0, x2), (0, x1), (4, 1)]) (hsN := jpA_2644) (c1 := 0) (s1 := 0) (c2 := 0) (s2 := 0) (by exact rfl) ?_ (by omega) (by omega)
  refine jT_ifF (a := x2) (t := 1509) (by rfl) (by rfl) (by rfl) (jw_idd (by omega) (by omega)) (by simp only [jcP] <;> omega) ?_
  refine jT_xiconst (k := 1) (pcN := 1506) jI_379_1505 rfl ?_
  refine jT_xgoto (pcN := 1510) jI_379_1506 rfl ?_
  refine jT_fB [1, 15, 16, 17, 18, 19, 20, 21, 22, 23, 24, 25, 26, 27, 28, 29, 35, 36, 37, 38, 39, 40, 41, 42] 51 (y := 255) (pcN := 1513) (dC := 3) (bc1 := 0) (bc2 := 0) (c1 := 0) (c2 := 0) (as := [(4, 1), (0, x1), (0, 1)]) (asC := [(4, 0), (0, x1), (0, 1)]) (LN := [(6, (0, 0)), (5, (0, 0)), (4, (4, 3)), (3, (4, 2)), (2, (4, 1)), (1, (4, 0)), (0, (6, 0))]) (stN := []) (hsC := jpA_248) (hsD := jpA_2602) (v := (0, 1)) (st2 := [(0, 1)]) (hs2 := jpA_2645) (jA_255_653 (d := 0) (by omega)) (by rfl) (by rfl) (by decide +kernel) (by rfl) (by rfl) (by omega) (by omega) (by omega) (by omega) rfl (by decide +kernel) ?_
  refine jT_xistore (v := (0, 1)) (LN := [(7, (0, 1)), (6, (0, 0)), (5, (0, 0)), (4, (4, 3)), (3, (4, 2)), (2, (4, 1)), (1, (4, 0)), (0, (6, 0))]) (pcN := 1515) jI_379_1513 rfl rfl rfl rfl ?_
  refine jT_xaload_n (v := (4, 1)) (pcN := 1516) jI_379_1515 rfl rfl rfl ?_
  refine jT_fR [1, 15, 16, 17, 18, 19, 20, 21, 22, 23, 24, 25, 26, 27, 28, 29] 51 (y := 186) (pcN := 1519) (dC := 0) (bc1 := 0) (bc2 := 0) (c1 := 0) (c2 := 0) (as := [(4, 1)]) (asC := [(4, 0)]) (LN := [(7, (0, 1)), (6, (0, 0)), (5, (0, 0)), (4, (4, 3)), (3, (4, 2)), (2, (4, 1)), (1, (4, 0)), (0, (6, 0))]) (stN := []) (hsC := jpA_258) (v := (0, 0)) (st2 := [(0, 0)]) (jA_186_54 (d := 0)) (by rfl) (by rfl) (by decide +kernel) (by rfl) (by rfl) (by omega) (by omega) (by omega) (by omega) rfl ?_
  refine jT_xiload (v := (0, 0)) (pcN := 1521) jI_379_1519 rfl rfl rfl ?_
  refine jT_xicT (pcN := 1526) jI_379_1521 rfl (by decide +kernel) rfl ?_
  refine jT_xiload (v := (0, 0)) (pcN := 1528) jI_379_1526 rfl rfl rfl ?_
  refine jT_xifF (t := 1543) (pcN := 1531) jI_379_1528 rfl (by decide +kernel) rfl rfl ?_
  refine jT_xaload_n (v := (4, 2)) (pcN := 1532) jI_379_1531 rfl rfl rfl ?_
  refine jT_xiconst (k := 0) (pcN := 1533) jI_379_1532 rfl ?_
  refine jT_lald (x := 1) (a := 2) (j := 0) (fs := []) (X := [1]) jI_379_1533 rfl rfl rfl rfl ?_
  refine jT_eq (LN := [(7, (0, 1)), (6, (0, 0)), (5, (0, 0)), (4, (4, 3)), (3, (4, 2)), (2, (4, 1)), (1, (4, 0)), (0, (6, 0))]) (stN := [(1, 1)]) (hsN := jpA_2645) rfl rfl rfl ?_
  refine jT_xiload (v := (0, 1)) (pcN := 1536) jI_379_1534 rfl rfl rfl ?_
  refine jT_xi2l (x := 1) (z := 1) (pcN := 1537) jI_379_1536 rfl (by decide +kernel) rfl ?_
  refine jT_lcmp (a := 1) (b := 1) (z := 0) (by rfl) (by rfl) (by decide +kernel) (by decide +kernel) (by decide) ?_
  refine jT_xifT (pcN := 1543) jI_379_1538 rfl (by decide +kernel) rfl ?_
  refine jT_xgoto (pcN := 3740) jI_379_1543 rfl ?_
  refine jT_xiinc (x := 0) (z := 5) (LN := [(5, (0, 5)), (7, (0, 1)), (6, (0, 0)), (4, (4, 3)), (3, (4, 2)), (2, (4, 1)), (1, (4, 0)), (0, (6, 0))]) (pcN := 3743) jI_379_3740 rfl rfl (by decide) rfl rfl ?_
  refine jT_xgoto (pcN := 28) jI_379_3743 rfl ?_
  refine jT_xiload (v := (0, 5)) (pcN := 30) jI_379_28 rfl rfl rfl ?_
  refine jT_xaload_n (v := (6, 0)) (pcN := 31) jI_379_30 rfl rfl rfl ?_
  refine jT_adv 1 (pcN := 32) (LN := [(5, (0, 5)), (7, (0, 1)), (6, (0, 0)), (4, (4, 3)), (3, (4, 2)), (2, (4, 1)), (1, (4, 0)), (0, (6, 0))]) (stN := [(0, 5), (0, 5)]) (hsN := jpA_2645) (c1 := 0) (s1 := 0) (c2 := 0) (s2 := 0) (by exact rfl) ?_ (by omega) (by omega)
  refine jT_xiconst (k := 5) (pcN := 33) jI_379_32 rfl ?_
  refine jT_xisub (x := 5) (y := 5) (z := 0) (pcN := 34) jI_379_33 rfl (by decide) rfl ?_
  refine jT_xicT (pcN := 3746) jI_379_34 rfl (by decide +kernel) rfl ?_
  refine jT_xiconst (k := 1) (pcN := 3747) jI_379_3746 rfl ?_
  exact jT_ret rfl (by decide) (by show 45 ≤ 51; decide) (by omega) (by omega) ⟨rfl, rfl⟩
set_option maxRecDepth 100000 in
theorem jL_15_2 {d : Nat} {x0 x1 x2 x3 x4 : Int} (h_x0 : (-2147483648) ≤ x0 ∧ x0 ≤ 2147483647) (h_x1 : 8 ≤ x1 ∧ x1 ≤ 2147483647) (h_x2 : (-2147483648) ≤ x2 ∧ x2 ≤ (-1)) (h_x3 : (-2147483648) ≤ x3 ∧ x3 ≤ 2147483647) (h_x4 : (-2147483648) ≤ x4 ∧ x4 ≤ 2147483647) : jT [x0, x1, x2, x3, x4] (d + 3) 379 30 1462 [(5, (0, 0)), (4, (4, 3)), (3, (4, 2)), (2, (4, 1)), (1, (4, 0)), (0, (6, 0))] [] jpA_267 1 6 (fun k v hsN => k = 0 ∧ v = (0, 1)) := by
  refine jT_xaload_n (v := (4, 0)) (pcN := 1463) jI_379_1462 rfl rfl rfl ?_
  refine jT_xaload_n (v := (6, 0)) (pcN := 1464) jI_379_1463 rfl rfl rfl ?_
  refine jT_xiload (v := (0, 0)) (pcN := 1466) jI_379_1464 rfl rfl rfl ?_
  refine jT_xiconst (k := 1) (pcN := 1467) jI_379_1466 rfl ?_
  refine jT_xiadd (x := 0) (y := 1) (z := 1) (pcN := 1468) jI_379_1467 rfl (by decide) rfl ?_
  refine jT_adv 1 (pcN := 1469) (LN := [(5, (0, 0)), (4, (4, 3)), (3, (4, 2)), (2, (4, 1)), (1, (4, 0)), (0, (6, 0))]) (stN := [(0, x1), (4, 0)]) (hsN := jpA_267) (c1 := 0) (s1 := 0) (c2 := 1) (s2 := 6) (by exact rfl) ?_ (by omega) (by omega)
  refine jT_xaload_n (v := (6, 0)) (pcN := 1470) jI_379_1469 rfl rfl rfl ?_
  refine jT_xiload (v := (0, 0)) (pcN := 1472) jI_379_1470 rfl rfl rfl ?_
  refine jT_xiconst (k := 2) (pcN := 1473) jI_379_1472 rfl ?_
  refine jT_xiadd (x := 0) (y := 2) (z := 2) (pcN := 1474) jI_379_1473 rfl (by decide) rfl ?_
  refine jT_adv 1 (pcN := 1475) (LN := [(5, (0, 0)), (4, (4, 3)), (3, (4, 2)), (2, (4, 1)), (1, (4, 0)), (0, (6, 0))]) (stN := [(0, x2), (0, x1), (4, 0)]) (hsN := jpA_267) (c1 := 0) (s1 := 0) (c2 := 1) (s2 := 6) (by exact rfl) ?_ (by omega) (by omega)
  refine jT_ifF (a := x2) (t := 1482) (by rfl) (by rfl) (by rfl) (jw_idd (by omega) (by omega)) (by simp only [jcP] <;> omega) ?_
  refine jT_xiconst (k := 1) (pcN := 1479) jI_379_1478 rfl ?_
  refine jT_xgoto (pcN := 1483) jI_379_1479 rfl ?_
  refine jT_xaload_n (v := (4, 2)) (pcN := 1484) jI_379_1483 rfl rfl rfl ?_
  refine jT_fR [0, 2, 4, 5, 6, 7, 8, 9, 10, 11, 12, 13, 14] 30 (y := 341) (pcN := 1487) (dC := 2) (bc1 := 1) (bc2 := 6) (c1 := 0) (c2 := 0) (as := [(4, 0), (0, x1), (0, 1), (4, 2)]) (asC := [(4, 0), (0, x1), (0, 1), (4, 1)]) (LN := [(5, (0, 0)), (4, (4, 3)), (3, (4, 2)), (2, (4, 1)), (1, (4, 0)), (0, (6, 0))]) (stN := []) (hsC := jpA_15) (v := (0, 1)) (st2 := [(0, 1)]) (jA_341_655 (d := 0) (by omega)) (by rfl) (by rfl) (by decide +kernel) (by rfl) (by rfl) (by omega) (by omega) (by omega) (by omega) rfl ?_
  refine jT_xistore (v := (0, 1)) (LN := [(6, (0, 1)), (5, (0, 0)), (4, (4, 3)), (3, (4, 2)), (2, (4, 1)), (1, (4, 0)), (0, (6, 0))]) (pcN := 1489) jI_379_1487 rfl rfl rfl rfl ?_
  refine jT_xaload_n (v := (4, 1)) (pcN := 1490) jI_379_1489 rfl rfl rfl ?_
  refine jT_xaload_n (v := (6, 0)) (pcN := 1491) jI_379_1490 rfl rfl rfl ?_
  refine jT_xiload (v := (0, 0)) (pcN := 1493) jI_379_1491 rfl rfl rfl ?_
  refine jT_xiconst (k := 1) (pcN := 1494) jI_379_1493 rfl ?_
  refine jT_xiadd (x := 0) (y := 1) (z := 1) (pcN := 1495) jI_379_1494 rfl (by decide) rfl ?_
  refine jT_adv 1 (pcN := 1496) (LN := [(6, (0, 1)), (5, (0, 0)), (4, (4, 3)), (3, (4, 2)), (2, (4, 1)), (1, (4, 0)), (0, (6, 0))]) (stN := [(0, x1), (4, 1)]) (hsN := jpA_267) (c1 := 0) (s1 := 0) (c2 := 0) (s2 := 0) (by exact rfl) ?_ (by omega) (by omega)
  refine jT_xaload_n (v := (6, 0)) (pcN := 1497) jI_379_1496 rfl rfl rfl ?_
  refine jT_xiload (v := (0, 0)) (pcN := 1499) jI_379_1497 rfl rfl rfl ?_
  refine jT_xiconst (k := 2) (pcN := 1500) jI_379_1499 rfl ?_
  refine jT_xiadd (x := 0) (y := 2) (z := 2) (pcN := 1501) jI_379_1500 rfl (by decide) rfl ?_
  refine jT_adv 1 (pcN := 1502) (LN := [(6, (0, 1)), (5, (0, 0)), (4, (4, 3)), (3, (4, 2)), (2, (4, 1)), (1, (4, 0)), (0, (6, 0))]) (stN := [(0, x2), (0, x1), (4, 1)]) (hsN := jpA_267) (c1 := 0) (s1 := 0) (c2 := 0) (s2 := 0) (by exact rfl) ?_ (by omega) (by omega)
  refine jT_ifF (a := x2) (t := 1509) (by rfl) (by rfl) (by rfl) (jw_idd (by omega) (by omega)) (by simp only [jcP] <;> omega) ?_
  refine jT_xiconst (k := 1) (pcN := 1506) jI_379_1505 rfl ?_
  refine jT_xgoto (pcN := 1510) jI_379_1506 rfl ?_
  refine jT_fB [1, 15, 16, 17, 18, 19, 20, 21, 22, 23, 24, 25, 26, 27, 28, 29] 30 (y := 255) (pcN := 1513) (dC := 2) (bc1 := 0) (bc2 := 0) (c1 := 0) (c2 := 0) (as := [(4, 1), (0, x1), (0, 1)]) (asC := [(4, 0), (0, x1), (0, 1)]) (LN := [(6, (0, 1)), (5, (0, 0)), (4, (4, 3)), (3, (4, 2)), (2, (4, 1)), (1, (4, 0)), (0, (6, 0))]) (stN := []) (hsC := jpA_22) (hsD := jpA_20) (v := (0, 0)) (st2 := [(0, 0)]) (hs2 := jpA_306) (jA_255_656 (d := 0) (by omega)) (by rfl) (by rfl) (by decide +kernel) (by rfl) (by rfl) (by omega) (by omega) (by omega) (by omega) rfl (by decide +kernel) ?_
  refine jT_xistore (v := (0, 0)) (LN := [(7, (0, 0)), (6, (0, 1)), (5, (0, 0)), (4, (4, 3)), (3, (4, 2)), (2, (4, 1)), (1, (4, 0)), (0, (6, 0))]) (pcN := 1515) jI_379_1513 rfl rfl rfl rfl ?_
  refine jT_xaload_n (v := (4, 1)) (pcN := 1516) jI_379_1515 rfl rfl rfl ?_
  refine jT_fR [1, 15, 16, 17, 18, 19, 20, 21, 22, 23, 24, 25, 26, 27, 28, 29] 30 (y := 186) (pcN := 1519) (dC := 0) (bc1 := 0) (bc2 := 0) (c1 := 0) (c2 := 0) (as := [(4, 1)]) (asC := [(4, 0)]) (LN := [(7, (0, 0)), (6, (0, 1)), (5, (0, 0)), (4, (4, 3)), (3, (4, 2)), (2, (4, 1)), (1, (4, 0)), (0, (6, 0))]) (stN := []) (hsC := jpA_20) (v := (0, 1)) (st2 := [(0, 1)]) (jA_186_8 (d := 0)) (by rfl) (by rfl) (by decide +kernel) (by rfl) (by rfl) (by omega) (by omega) (by omega) (by omega) rfl ?_
  refine jT_xiload (v := (0, 1)) (pcN := 1521) jI_379_1519 rfl rfl rfl ?_
  refine jT_xicT (pcN := 1526) jI_379_1521 rfl (by decide +kernel) rfl ?_
  refine jT_xiload (v := (0, 1)) (pcN := 1528) jI_379_1526 rfl rfl rfl ?_
  refine jT_xifT (pcN := 1543) jI_379_1528 rfl (by decide +kernel) rfl ?_
  refine jT_xgoto (pcN := 3740) jI_379_1543 rfl ?_
  refine jT_xiinc (x := 0) (z := 5) (LN := [(5, (0, 5)), (7, (0, 0)), (6, (0, 1)), (4, (4, 3)), (3, (4, 2)), (2, (4, 1)), (1, (4, 0)), (0, (6, 0))]) (pcN := 3743) jI_379_3740 rfl rfl (by decide) rfl rfl ?_
  refine jT_xgoto (pcN := 28) jI_379_3743 rfl ?_
  refine jT_xiload (v := (0, 5)) (pcN := 30) jI_379_28 rfl rfl rfl ?_
  refine jT_xaload_n (v := (6, 0)) (pcN := 31) jI_379_30 rfl rfl rfl ?_
  refine jT_adv 1 (pcN := 32) (LN := [(5, (0, 5)), (7, (0, 0)), (6, (0, 1)), (4, (4, 3)), (3, (4, 2)), (2, (4, 1)), (1, (4, 0)), (0, (6, 0))]) (stN := [(0, 5), (0, 5)]) (hsN := jpA_306) (c1 := 0) (s1 := 0) (c2 := 0) (s2 := 0) (by exact rfl) ?_ (by omega) (by omega)
  refine jT_xiconst (k := 5) (pcN := 33) jI_379_32 rfl ?_
  refine jT_xisub (x := 5) (y := 5) (z := 0) (pcN := 34) jI_379_33 rfl (by decide) rfl ?_
  refine jT_xicT (pcN := 3746) jI_379_34 rfl (by decide +kernel) rfl ?_
  refine jT_xiconst (k := 1) (pcN := 3747) jI_379_3746 rfl ?_
  exact jT_ret rfl (by decide) (by show 30 ≤ 30; decide) (by omega) (by omega) ⟨rfl, rfl⟩
theorem jI_379_1482 : jmI (jm 379) 1482 = (.iconst 0, 1) := by rfl
theorem jI_379_1509 : jmI (jm 379) 1509 = (.iconst 0, 1) := by rfl
set_option maxRecDepth 100000 in
theorem jL_15_3 {d : Nat} {x0 x1 x2 x3 x4 : Int} (h_x0 : (-2147483648) ≤ x0 ∧ x0 ≤ 2147483647) (h_x1 : (-2147483648) ≤ x1 ∧ x1 ≤ (-1)) (h_x2 : 0 ≤ x2 ∧ x2 ≤ 0) (h_x3 : (-2147483648) ≤ x3 ∧ x3 ≤ 2147483647) (h_x4 : (-2147483648) ≤ x4 ∧ x4 ≤ 2147483647) : jT [x0, x1, x2, x3, x4] (d + 3) 379 30 1462 [(5, (0, 0)), (4, (4, 3)), (3, (4, 2)), (2, (4, 1)), (1, (4, 0)), (0, (6, 0))] [] jpA_267 1 6 (fun k v hsN => k = 0 ∧ v = (0, 1)) := by
  refine jT_xaload_n (v := (4, 0)) (pcN := 1463) jI_379_1462 rfl rfl rfl ?_
  refine jT_xaload_n (v := (6, 0)) (pcN := 1464) jI_379_1463 rfl rfl rfl ?_
  refine jT_xiload (v := (0, 0)) (pcN := 1466) jI_379_1464 rfl rfl rfl ?_
  refine jT_xiconst (k := 1) (pcN := 1467) jI_379_1466 rfl ?_
  refine jT_xiadd (x := 0) (y := 1) (z := 1) (pcN := 1468) jI_379_1467 rfl (by decide) rfl ?_
  refine jT_adv 1 (pcN := 1469) (LN := [(5, (0, 0)), (4, (4, 3)), (3, (4, 2)), (2, (4, 1)), (1, (4, 0)), (0, (6, 0))]) (stN := [(0, x1), (4, 0)]) (hsN := jpA_267) (c1 := 0) (s1 := 0) (c2 := 1) (s2 := 6) (by exact rfl) ?_ (by omega) (by omega)
  refine jT_xaload_n (v := (6, 0)) (pcN := 1470) jI_379_1469 rfl rfl rfl ?_
  refine jT_xiload (v := (0, 0)) (pcN := 1472) jI_379_1470 rfl rfl rfl ?_
  refine jT_xiconst (k := 2) (pcN := 1473) jI_379_1472 rfl ?_
  refine jT_xiadd (x := 0) (y := 2) (z := 2) (pcN := 1474) jI_379_1473 rfl (by decide) rfl ?_
  refine jT_adv 1 (pcN := 1475) (LN := [(5, (0, 0)), (4, (4, 3)), (3, (4, 2)), (2, (4, 1)), (1, (4, 0)), (0, (6, 0))]) (stN := [(0, x2), (0, x1), (4, 0)]) (hsN := jpA_267) (c1 := 0) (s1 := 0) (c2 := 1) (s2 := 6) (by exact rfl) ?_ (by omega) (by omega)
  refine jT_eq (LN := [(5, (0, 0)), (4, (4, 3)), (3, (4, 2)), (2, (4, 1)), (1, (4, 0)), (0, (6, 0))]) (stN := [(0, 0), (0, x1), (4, 0)]) (hsN := [jzA_265, jzA_266, jgh, jgh, jgh, jgh, jgh, jgh, jgh, jgh, jgh, jgh, jgh, jgh, jgh, jgh, jgh, jgh, jgh, jgh, jgh, jgh, jgh, jgh, jgh, jgh, jgh, jgh, jgh, jgh]) (rfl) (by simp only [List.cons.injEq, Prod.mk.injEq, and_true, true_and] <;> ((try unfold jw); (try unfold jwl); omega)) (rfl) ?_
  refine jT_xifT (pcN := 1482) jI_379_1475 rfl (by decide +kernel) rfl ?_
  refine jT_xiconst (k := 0) (pcN := 1483) jI_379_1482 rfl ?_
  refine jT_xaload_n (v := (4, 2)) (pcN := 1484) jI_379_1483 rfl rfl rfl ?_
  refine jT_fR [0, 2, 4, 5, 6, 7, 8, 9, 10, 11, 12, 13, 14] 30 (y := 341) (pcN := 1487) (dC := 2) (bc1 := 1) (bc2 := 6) (c1 := 0) (c2 := 0) (as := [(4, 0), (0, x1), (0, 0), (4, 2)]) (asC := [(4, 0), (0, x1), (0, 0), (4, 1)]) (LN := [(5, (0, 0)), (4, (4, 3)), (3, (4, 2)), (2, (4, 1)), (1, (4, 0)), (0, (6, 0))]) (stN := []) (hsC := jpA_15) (v := (0, 1)) (st2 := [(0, 1)]) (jA_341_658 (d := 0) (by omega)) (by rfl) (by rfl) (by decide +kernel) (by rfl) (by rfl) (by omega) (by omega) (by omega) (by omega) rfl ?_
  refine jT_xistore (v := (0, 1)) (LN := [(6, (0, 1)), (5, (0, 0)), (4, (4, 3)), (3, (4, 2)), (2, (4, 1)), (1, (4, 0)), (0, (6, 0))]) (pcN := 1489) jI_379_1487 rfl rfl rfl rfl ?_
  refine jT_xaload_n (v := (4, 1)) (pcN := 1490) jI_379_1489 rfl rfl rfl ?_
  refine jT_xaload_n (v := (6, 0)) (pcN := 1491) jI_379_1490 rfl rfl rfl ?_
  refine jT_xiload (v := (0, 0)) (pcN := 1493) jI_379_1491 rfl rfl rfl ?_
  refine jT_xiconst (k := 1) (pcN := 1494) jI_379_1493 rfl ?_
  refine jT_xiadd (x := 0) (y := 1) (z := 1) (pcN := 1495) jI_379_1494 rfl (by decide) rfl ?_
  refine jT_adv 1 (pcN := 1496) (LN := [(6, (0, 1)), (5, (0, 0)), (4, (4, 3)), (3, (4, 2)), (2, (4, 1)), (1, (4, 0)), (0, (6, 0))]) (stN := [(0, x1), (4, 1)]) (hsN := jpA_267) (c1 := 0) (s1 := 0) (c2 := 0) (s2 := 0) (by exact rfl) ?_ (by omega) (by omega)
  refine jT_xaload_n (v := (6, 0)) (pcN := 1497) jI_379_1496 rfl rfl rfl ?_
  refine jT_xiload (v := (0, 0)) (pcN := 1499) jI_379_1497 rfl rfl rfl ?_
  refine jT_xiconst (k := 2) (pcN := 1500) jI_379_1499 rfl ?_
  refine jT_xiadd (x := 0) (y := 2) (z := 2) (pcN := 1501) jI_379_1500 rfl (by decide) rfl ?_
  refine jT_adv 1 (pcN := 1502) (LN := [(6, (0, 1)), (5, (0, 0)), (4, (4, 3)), (3, (4, 2)), (2, (4, 1)), (1, (4, 0)), (0, (6, 0))]) (stN := [(0, x2), (0, x1), (4, 1)]) (hsN := jpA_267) (c1 := 0) (s1 := 0) (c2 := 0) (s2 := 0) (by exact rfl) ?_ (by omega) (by omega)
  refine jT_eq (LN := [(6, (0, 1)), (5, (0, 0)), (4, (4, 3)), (3, (4, 2)), (2, (4, 1)), (1, (4, 0)), (0, (6, 0))]) (stN := [(0, 0), (0, x1), (4, 1)]) (hsN := [jzA_265, jzA_266, jgh, jgh, jgh, jgh, jgh, jgh, jgh, jgh, jgh, jgh, jgh, jgh, jgh, jgh, jgh, jgh, jgh, jgh, jgh, jgh, jgh, jgh, jgh, jgh, jgh, jgh, jgh, jgh]) (rfl) (by simp only [List.cons.injEq, Prod.mk.injEq, and_true, true_and] <;> ((try unfold jw); (try unfold jwl); omega)) (rfl) ?_
  refine jT_xifT (pcN := 1509) jI_379_1502 rfl (by decide +kernel) rfl ?_
  refine jT_xiconst (k := 0) (pcN := 1510) jI_379_1509 rfl ?_
  refine jT_fB [1, 15, 16, 17, 18, 19, 20, 21, 22, 23, 24, 25, 26, 27, 28, 29] 30 (y := 255) (pcN := 1513) (dC := 2) (bc1 := 0) (bc2 := 0) (c1 := 0) (c2 := 0) (as := [(4, 1), (0, x1), (0, 0)]) (asC := [(4, 0), (0, x1), (0, 0)]) (LN := [(6, (0, 1)), (5, (0, 0)), (4, (4, 3)), (3, (4, 2)), (2, (4, 1)), (1, (4, 0)), (0, (6, 0))]) (stN := []) (hsC := jpA_22) (hsD := jpA_20) (v := (0, 0)) (st2 := [(0, 0)]) (hs2 := jpA_306) (jA_255_659 (d := 0) (by omega)) (by rfl) (by rfl) (by decide +kernel) (by rfl) (by rfl) (by omega) (by omega) (by omega) (by omega) rfl (by decide +kernel) ?_
  refine jT_xistore (v := (0, 0)) (LN := [(7, (0, 0)), (6, (0, 1)), (5, (0, 0)), (4, (4, 3)), (3, (4, 2)), (2, (4, 1)), (1, (4, 0)), (0, (6, 0))]) (pcN := 1515) jI_379_1513 rfl rfl rfl rfl ?_
  refine jT_xaload_n (v := (4, 1)) (pcN := 1516) jI_379_1515 rfl rfl rfl ?_
  refine jT_fR [1, 15, 16, 17, 18, 19, 20, 21, 22, 23, 24, 25, 26, 27, 28, 29] 30 (y := 186) (pcN := 1519) (dC := 0) (bc1 := 0) (bc2 := 0) (c1 := 0) (c2 := 0) (as := [(4, 1)]) (asC := [(4, 0)]) (LN := [(7, (0, 0)), (6, (0, 1)), (5, (0, 0)), (4, (4, 3)), (3, (4, 2)), (2, (4, 1)), (1, (4, 0)), (0, (6, 0))]) (stN := []) (hsC := jpA_20) (v := (0, 1)) (st2 := [(0, 1)]) (jA_186_8 (d := 0)) (by rfl) (by rfl) (by decide +kernel) (by rfl) (by rfl) (by omega) (by omega) (by omega) (by omega) rfl ?_
  refine jT_xiload (v := (0, 1)) (pcN := 1521) jI_379_1519 rfl rfl rfl ?_
  refine jT_xicT (pcN := 1526) jI_379_1521 rfl (by decide +kernel) rfl ?_
  refine jT_xiload (v := (0, 1)) (pcN := 1528) jI_379_1526 rfl rfl rfl ?_
  refine jT_xifT (pcN := 1543) jI_379_1528 rfl (by decide +kernel) rfl ?_
  refine jT_xgoto (pcN := 3740) jI_379_1543 rfl ?_
  refine jT_xiinc (x := 0) (z := 5) (LN := [(5, (0, 5)), (7, (0, 0)), (6, (0, 1)), (4, (4, 3)), (3, (4, 2)), (2, (4, 1)), (1, (4, 0)), (0, (6, 0))]) (pcN := 3743) jI_379_3740 rfl rfl (by decide) rfl rfl ?_
  refine jT_xgoto (pcN := 28) jI_379_3743 rfl ?_
  refine jT_xiload (v := (0, 5)) (pcN := 30) jI_379_28 rfl rfl rfl ?_
  refine jT_xaload_n (v := (6, 0)) (pcN := 31) jI_379_30 rfl rfl rfl ?_
  refine jT_adv 1 (pcN := 32) (LN := [(5, (0, 5)), (7, (0, 0)), (6, (0, 1)), (4, (4, 3)), (3, (4, 2)), (2, (4, 1)), (1, (4, 0)), (0, (6, 0))]) (stN := [(0, 5), (0, 5)]) (hsN := jpA_306) (c1 := 0) (s1 := 0) (c2 := 0) (s2 := 0) (by exact rfl) ?_ (by omega) (by omega)
  refine jT_xiconst (k := 5) (pcN := 33) jI_379_32 rfl ?_
  refine jT_xisub (x := 5) (y := 5) (z := 0) (pcN := 34) jI_379_33 rfl (by decide) rfl ?_
  refine jT_xicT (pcN := 3746) jI_379_34 rfl (by decide +kernel) rfl ?_
  refine jT_xiconst (k := 1) (pcN := 3747) jI_379_3746 rfl ?_
  exact jT_ret rfl (by decide) (by show 30 ≤ 30; decide) (by omega) (by omega) ⟨rfl, rfl⟩
set_option maxRecDepth 100000 in
theorem jL_15_4 {d : Nat} {x0 x1 x2 x3 x4 : Int} (h_x0 : (-2147483648) ≤ x0 ∧ x0 ≤ 2147483647) (h_x1 : 0 ≤ x1 ∧ x1 ≤ 7) (h_x2 : 0 ≤ x2 ∧ x2 ≤ 0) (h_x3 : (-2147483648) ≤ x3 ∧ x3 ≤ 2147483647) (h_x4 : (-2147483648) ≤ x4 ∧ x4 ≤ 2147483647) : jT [x0, x1, x2, x3, x4] (d + 6) 379 45 1462 [(5, (0, 0)), (4, (4, 3)), (3, (4, 2)), (2, (4, 1)), (1, (4, 0)), (0, (6, 0))] [] jpA_2641 6 22 (fun k v hsN => k = 0 ∧ v = (0, 1)) := by
  refine jT_xaload_n (v := (4, 0)) (pcN := 1463) jI_379_1462 rfl rfl rfl ?_
  refine jT_xaload_n (v := (6, 0)) (pcN := 1464) jI_379_1463 rfl rfl rfl ?_
  refine jT_xiload (v := (0, 0)) (pcN := 1466) jI_379_1464 rfl rfl rfl ?_
  refine jT_xiconst (k := 1) (pcN := 1467) jI_379_1466 rfl ?_
  refine jT_xiadd (x := 0) (y := 1) (z := 1) (pcN := 1468) jI_379_1467 rfl (by decide) rfl ?_
  refine jT_adv 1 (pcN := 1469) (LN := [(5, (0, 0)), (4, (4, 3)), (3, (4, 2)), (2, (4, 1)), (1, (4, 0)), (0, (6, 0))]) (stN := [(0, x1), (4, 0)]) (hsN := jpA_2641) (c1 := 0) (s1 := 0) (c2 := 6) (s2 := 22) (by exact rfl) ?_ (by omega) (by omega)
  refine jT_xaload_n (v := (6, 0)) (pcN := 1470) jI_379_1469 rfl rfl rfl ?_
  refine jT_xiload (v := (0, 0)) (pcN := 1472) jI_379_1470 rfl rfl rfl ?_
  refine jT_xiconst (k := 2) (pcN := 1473) jI_379_1472 rfl ?_
  refine jT_xiadd (x := 0) (y := 2) (z := 2) (pcN := 1474) jI_379_1473 rfl (by decide) rfl ?_
  refine jT_adv 1 (pcN := 1475) (LN := [(5, (0, 0)), (4, (4, 3)), (3, (4, 2)), (2, (4, 1)), (1, (4, 0)), (0, (6, 0))]) (stN := [(0, x2), (0, x1), (4, 0)]) (hsN := jpA_2641) (c1 := 0) (s1 := 0) (c2 := 6) (s2 := 22) (by exact rfl) ?_ (by omega) (by omega)
  refine jT_eq (LN := [(5, (0, 0)), (4, (4, 3)), (3, (4, 2)), (2, (4, 1)), (1, (4, 0)), (0, (6, 0))]) (stN := [(0, 0), (0, x1), (4, 0)]) (hsN := [jzA_265, jzA_266, (101, [], [0]), jgh, jgh, jgh, jgh, jgh, jgh, jgh, jgh, jgh, jgh, jzA_79, jzA_322, (100, [], jS0), (100, [], []), jzA_323, jzA_197, jgh, jgh, (101, [], [0, 0, 0, 0, 0, 0]), jgh, jgh, jgh, jgh, jgh, jgh, jgh, jgh, jzA_324, jgh, jgh, jgh, (114, [], []), (100, [], (List.replicate 1613 0)), jgh, jgh, jgh, jgh, jgh, jgh, jgh, (4, [(4, 44), (1, 1)], []), (101, [], [0, 0, 0, 0, 0, 0])]) (rfl) (by simp only [List.cons.injEq, Prod.mk.injEq, and_true, true_and] <;> ((try unfold jw); (try unfold jwl); omega)) (rfl) ?_
  refine jT_xifT (pcN := 1482) jI_379_1475 rfl (by decide +kernel) rfl ?_
  refine jT_xiconst (k := 0) (pcN := 1483) jI_379_1482 rfl ?_
  refine jT_xaload_n (v := (4, 2)) (pcN := 1484) jI_379_1483 rfl rfl rfl ?_
  refine jT_fB [0, 2, 4, 5, 6, 7, 8, 9, 10, 11, 12, 13, 14, 30, 31, 32, 33, 34, 43, 44] 45 (y := 341) (pcN := 1487) (dC := 5) (bc1 := 6) (bc2 := 22) (c1 := 0) (c2 := 0) (as := [(4, 0), (0, x1), (0, 0), (4, 2)]) (asC := [(4, 0), (0, x1), (0, 0), (4, 1)]) (LN := [(5, (0, 0)), (4, (4, 3)), (3, (4, 2)), (2, (4, 1)), (1, (4, 0)), (0, (6, 0))]) (stN := []) (hsC := jpA_2521) (hsD := jpA_2518) (v := (0, 0)) (st2 := [(0, 0)]) (hs2 := jpA_2644) (jA_341_662 (d := 0) (by omega)) (by rfl) (by rfl) (by decide +kernel) (by rfl) (by rfl) (by omega) (by omega) (by omega) (by omega) rfl (by decide +kernel) ?_
  refine jT_xistore (v := (0, 0)) (LN := [(6, (0, 0)), (5, (0, 0)), (4, (4, 3)), (3, (4, 2)), (2, (4, 1)), (1, (4, 0)), (0, (6, 0))]) (pcN := 1489) jI_379_1487 rfl rfl rfl rfl ?_
  refine jT_xaload_n (v := (4, 1)) (pcN := 1490) jI_379_1489 rfl rfl rfl ?_
  refine jT_xaload_n (v := (6, 0)) (pcN := 1491) jI_379_1490 rfl rfl rfl ?_
  refine jT_xiload (v := (0, 0)) (pcN := 1493) jI_379_1491 rfl rfl rfl ?_
  refine jT_xiconst (k := 1) (pcN := 1494) jI_379_1493 rfl ?_
  refine jT_xiadd (x := 0) (y := 1) (z := 1) (pcN := 1495) jI_379_1494 rfl (by decide) rfl ?_
  refine jT_adv 1 (pcN := 1496) (LN := [(6, (0, 0)), (5, (0, 0)), (4, (4, 3)), (3, (4, 2)), (2, (4, 1)), (1, (4, 0)), (0, (6, 0))]) (stN := [(0, x1), (4, 1)]) (hsN := jpA_2644) (c1 := 0) (s1 := 0) (c2 := 0) (s2 := 0) (by exact rfl) ?_ (by omega) (by omega)
  refine jT_xaload_n (v := (6, 0)) (pcN := 1497) jI_379_1496 rfl rfl rfl ?_
  refine jT_xiload (v := (0, 0)) (pcN := 1499) jI_379_1497 rfl rfl rfl ?_
  refine jT_xiconst (k := 2) (pcN := 1500) jI_379_1499 rfl ?_
  refine jT_xiadd (x := 0) (y := 2) (z := 2) (pcN := 1501) jI_379_1500 rfl (by decide) rfl ?_
  refine jT_adv 1 (pcN := 1502) (LN := [(6, (0, 0)), (5, (0, 0)), (4, (4, 3)), (3, (4, 2)), (2, (4, 1)), (1, (4, 0)), (0, (6, 0))]) (stN := [(0, x2), (0, x1), (4, 1)]) (hsN := jpA_2644) (c1 := 0) (s1 := 0) (c2 := 0) (s2 := 0) (by exact rfl) ?_ (by omega) (by omega)
  refine jT_eq (LN := [(6, (0, 0)), (5, (0, 0)), (4, (4, 3)), (3, (4, 2)), (2, (4, 1)), (1, (4, 0)), (0, (6, 0))]) (stN := [(0, 0), (0, x1), (4, 1)]) (hsN := [jzA_2642, jzA_266, (101, [], [1]), jgh, jgh, jgh, jgh, jgh, jgh, jgh, jgh, jgh, jgh, jzA_327, jzA_322, (100, [], jS0), (100, [], []), jzA_323, jzA_197, jgh, jgh, (101, [], [0, 0, 0, 0, 0, 0]), jgh, jgh, jgh, jgh, jgh, jgh, jgh, jgh, jzA_324, jgh, jgh, jgh, (114, [], []), (100, [], (List.replicate 1613 0)), jgh, jgh, jgh, jgh, jgh, jgh, jgh, (4, [(4, 44), (1, 1)], []), (101, [], [0, 0, 0, 0, 0, 0]), (101, [], [0, 0, 0, 0, 0, 0]), (4, [(4, 45), (1, 1)], []), (101, [], [0, 0, 0, 0, 0, 0]), (4, [(4, 47), (1, 1)], []), (114, [], [48]), jzA_2643]) (rfl) (by simp only [List.cons.injEq, Prod.mk.injEq, and_true, true_and] <;> ((try unfold jw); (try unfold jwl); omega)) (rfl) ?_
  refine jT_xifT (pcN := 1509) jI_379_1502 rfl (by decide +kernel) rfl ?_
  refine jT_xiconst (k := 0) (pcN := 1510) jI_379_1509 rfl ?_
  refine jT_fB [1, 15, 16, 17, 18, 19, 20, 21, 22, 23, 24, 25, 26, 27, 28, 29, 35, 36, 37, 38, 39, 40, 41, 42] 51 (y := 255) (pcN := 1513) (dC := 3) (bc1 := 0) (bc2 := 0) (c1 := 0) (c2 := 0) (as := [(4, 1), (0, x1), (0, 0)]) (asC := [(4, 0), (0, x1), (0, 0)]) (LN := [(6, (0, 0)), (5, (0, 0)), (4, (4, 3)), (3, (4, 2)), (2, (4, 1)), (1, (4, 0)), (0, (6, 0))]) (stN := []) (hsC := jpA_248) (hsD := jpA_2602) (v := (0, 1)) (st2 := [(0, 1)]) (hs2 := jpA_2645) (jA_255_664 (d := 0) (by omega)) (by rfl) (by rfl) (by decide +kernel) (by rfl) (by rfl) (by omega) (by omega) (by omega) (by omega) rfl (by decide +kernel) ?_
  refine jT_xistore (v := (0, 1)) (LN := [(7, (0, 1)), (6, (0, 0)), (5, (0, 0)), (4, (4, 3)), (3, (4, 2)), (2, (4, 1)), (1, (4, 0)), (0, (6, 0))]) (pcN := 1515) jI_379_1513 rfl rfl rfl rfl ?_
  refine jT_xaload_n (v := (4, 1)) (pcN := 1516) jI_379_1515 rfl rfl rfl ?_
  refine jT_fR [1, 15, 16, 17, 18, 19, 20, 21, 22, 23, 24, 25, 26, 27, 28, 29] 51 (y := 186) (pcN := 1519) (dC := 0) (bc1 := 0) (bc2 := 0) (c1 := 0) (c2 := 0) (as := [(4, 1)]) (asC := [(4, 0)]) (LN := [(7, (0, 1)), (6, (0, 0)), (5, (0, 0)), (4, (4, 3)), (3, (4, 2)), (2, (4, 1)), (1, (4, 0)), (0, (6, 0))]) (stN := []) (hsC := jpA_258) (v := (0, 0)) (st2 := [(0, 0)]) (jA_186_54 (d := 0)) (by rfl) (by rfl) (by decide +kernel) (by rfl) (by rfl) (by omega) (by omega) (by omega) (by omega) rfl ?_
  refine jT_xiload (v := (0, 0)) (pcN := 1521) jI_379_1519 rfl rfl rfl ?_
  refine jT_xicT (pcN := 1526) jI_379_1521 rfl (by decide +kernel) rfl ?_
  refine jT_xiload (v := (0, 0)) (pcN := 1528) jI_379_1526 rfl rfl rfl ?_
  refine jT_xifF (t := 1543) (pcN := 1531) jI_379_1528 rfl (by decide +kernel) rfl rfl ?_
  refine jT_xaload_n (v := (4, 2)) (pcN := 1532) jI_379_1531 rfl rfl rfl ?_
  refine jT_xiconst (k := 0) (pcN := 1533) jI_379_1532 rfl ?_
  refine jT_lald (x := 1) (a := 2) (j := 0) (fs := []) (X := [1]) jI_379_1533 rfl rfl rfl rfl ?_
  refine jT_eq (LN := [(7, (0, 1)), (6, (0, 0)), (5, (0, 0)), (4, (4, 3)), (3, (4, 2)), (2, (4, 1)), (1, (4, 0)), (0, (6, 0))]) (stN := [(1, 1)]) (hsN := jpA_2645) rfl rfl rfl ?_
  refine jT_xiload (v := (0, 1)) (pcN := 1536) jI_379_1534 rfl rfl rfl ?_
  refine jT_xi2l (x := 1) (z := 1) (pcN := 1537) jI_379_1536 rfl (by decide +kernel) rfl ?_
  refine jT_lcmp (a := 1) (b := 1) (z := 0) (by rfl) (by rfl) (by decide +kernel) (by decide +kernel) (by decide) ?_
  refine jT_xifT (pcN := 1543) jI_379_1538 rfl (by decide +kernel) rfl ?_
  refine jT_xgoto (pcN := 3740) jI_379_1543 rfl ?_
  refine jT_xiinc (x := 0) (z := 5) (LN := [(5, (0, 5)), (7, (0, 1)), (6, (0, 0)), (4, (4, 3)), (3, (4, 2)), (2, (4, 1)), (1, (4, 0)), (0, (6, 0))]) (pcN := 3743) jI_379_3740 rfl rfl (by decide) rfl rfl ?_
  refine jT_xgoto (pcN := 28) jI_379_3743 rfl ?_
  refine jT_xiload (v := (0, 5)) (pcN := 30) jI_379_28 rfl rfl rfl ?_
  refine jT_xaload_n (v := (6, 0)) (pcN := 31) jI_379_30 rfl rfl rfl ?_
  refine jT_adv 1 (pcN := 32) (LN := [(5, (0, 5)), (7, (0, 1)), (6, (0, 0)), (4, (4, 3)), (3, (4, 2)), (2, (4, 1)), (1, (4, 0)), (0, (6, 0))]) (stN := [(0, 5), (0, 5)]) (hsN := jpA_2645) (c1 := 0) (s1 := 0) (c2 := 0) (s2 := 0) (by exact rfl) ?_ (by omega) (by omega)
  refine jT_xiconst (k := 5) (pcN := 33) jI_379_32 rfl ?_
  refine jT_xisub (x := 5) (y := 5) (z := 0) (pcN := 34) jI_379_33 rfl (by decide) rfl ?_
  refine jT_xicT (pcN := 3746) jI_379_34 rfl (by decide +kernel) rfl ?_
  refine jT_xiconst (k := 1) (pcN := 3747) jI_379_3746 rfl ?_
  exact jT_ret rfl (by decide) (by show 45 ≤ 51; decide) (by omega) (by omega) ⟨rfl, rfl⟩
set_option maxRecDepth 100000 in
theorem jL_15_5 {d : Nat} {x0 x1 x2 x3 x4 : Int} (h_x0 : (-2147483648) ≤ x0 ∧ x0 ≤ 2147483647) (h_x1 : 8 ≤ x1 ∧ x1 ≤ 2147483647) (h_x2 : 0 ≤ x2 ∧ x2 ≤ 0) (h_x3 : (-2147483648) ≤ x3 ∧ x3 ≤ 2147483647) (h_x4 : (-2147483648) ≤ x4 ∧ x4 ≤ 2147483647) : jT [x0, x1, x2, x3, x4] (d + 3) 379 30 1462 [(5, (0, 0)), (4, (4, 3)), (3, (4, 2)), (2, (4, 1)), (1, (4, 0)), (0, (6, 0))] [] jpA_267 1 6 (fun k v hsN => k = 0 ∧ v = (0, 1)) := by
  refine jT_xaload_n (v := (4, 0)) (pcN := 1463) jI_379_1462 rfl rfl rfl ?_
  refine jT_xaload_n (v := (6, 0)) (pcN := 1464) jI_379_1463 rfl rfl rfl ?_
  refine jT_xiload (v := (0, 0)) (pcN := 1466) jI_379_1464 rfl rfl rfl ?_
  refine jT_xiconst (k := 1) (pcN := 1467) jI_379_1466 rfl ?_
  refine jT_xiadd (x := 0) (y := 1) (z := 1) (pcN := 1468) jI_379_1467 rfl (by decide) rfl ?_
  refine jT_adv 1 (pcN := 1469) (LN := [(5, (0, 0)), (4, (4, 3)), (3, (4, 2)), (2, (4, 1)), (1, (4, 0)), (0, (6, 0))]) (stN := [(0, x1), (4, 0)]) (hsN := jpA_267) (c1 := 0) (s1 := 0) (c2 := 1) (s2 := 6) (by exact rfl) ?_ (by omega) (by omega)
  refine jT_xaload_n (v := (6, 0)) (pcN := 1470) jI_379_1469 rfl rfl rfl ?_
  refine jT_xiload (v := (0, 0)) (pcN := 1472) jI_379_1470 rfl rfl rfl ?_
  refine jT_xiconst (k := 2) (pcN := 1473) jI_379_1472 rfl ?_
  refine jT_xiadd (x := 0) (y := 2) (z := 2) (pcN := 1474) jI_379_1473 rfl (by decide) rfl ?_
  refine jT_adv 1 (pcN := 1475) (LN := [(5, (0, 0)), (4, (4, 3)), (3, (4, 2)), (2, (4, 1)), (1, (4, 0)), (0, (6, 0))]) (stN := [(0, x2), (0, x1), (4, 0)]) (hsN := jpA_267) (c1 := 0) (s1 := 0) (c2 := 1) (s2 := 6) (by exact rfl) ?_ (by omega) (by omega)
  refine jT_eq (LN := [(5, (0, 0)), (4, (4, 3)), (3, (4, 2)), (2, (4, 1)), (1, (4, 0)), (0, (6, 0))]) (stN := [(0, 0), (0, x1), (4, 0)]) (hsN := [jzA_265, jzA_266, jgh, jgh, jgh, jgh, jgh, jgh, jgh, jgh, jgh, jgh, jgh, jgh, jgh, jgh, jgh, jgh, jgh, jgh, jgh, jgh, jgh, jgh, jgh, jgh, jgh, jgh, jgh, jgh]) (rfl) (by simp only [List.cons.injEq, Prod.mk.injEq, and_true, true_and] <;> ((try unfold jw); (try unfold jwl); omega)) (rfl) ?_
  refine jT_xifT (pcN := 1482) jI_379_1475 rfl (by decide +kernel) rfl ?_
  refine jT_xiconst (k := 0) (pcN := 1483) jI_379_1482 rfl ?_
  refine jT_xaload_n (v := (4, 2)) (pcN := 1484) jI_379_1483 rfl rfl rfl ?_
  refine jT_fR [0, 2, 4, 5, 6, 7, 8, 9, 10, 11, 12, 13, 14] 30 (y := 341) (pcN := 1487) (dC := 2) (bc1 := 1) (bc2 := 6) (c1 := 0) (c2 := 0) (as := [(4, 0), (0, x1), (0, 0), (4, 2)]) (asC := [(4, 0), (0, x1), (0, 0), (4, 1)]) (LN := [(5, (0, 0)), (4, (4, 3)), (3, (4, 2)), (2, (4, 1)), (1, (4, 0)), (0, (6, 0))]) (stN := []) (hsC := jpA_15) (v := (0, 1)) (st2 := [(0, 1)]) (jA_341_666 (d := 0) (by omega)) (by rfl) (by rfl) (by decide +kernel) (by rfl) (by rfl) (by omega) (by omega) (by omega) (by omega) rfl ?_
  refine jT_xistore (v := (0, 1)) (LN := [(6, (0, 1)), (5, (0, 0)), (4, (4, 3)), (3, (4, 2)), (2, (4, 1)), (1, (4, 0)), (0, (6, 0))]) (pcN := 1489) jI_379_1487 rfl rfl rfl rfl ?_
  refine jT_xaload_n (v := (4, 1)) (pcN := 1490) jI_379_1489 rfl rfl rfl ?_
  refine jT_xaload_n (v := (6, 0)) (pcN := 1491) jI_379_1490 rfl rfl rfl ?_
  refine jT_xiload (v := (0, 0)) (pcN := 1493) jI_379_1491 rfl rfl rfl ?_
  refine jT_xiconst (k := 1) (pcN := 1494) jI_379_1493 rfl ?_
  refine jT_xiadd (x := 0) (y := 1) (z := 1) (pcN := 1495) jI_379_1494 rfl (by decide) rfl ?_
  refine jT_adv 1 (pcN := 1496) (LN := [(6, (0, 1)), (5, (0, 0)), (4, (4, 3)), (3, (4, 2)), (2, (4, 1)), (1, (4, 0)), (0, (6, 0))]) (stN := [(0, x1), (4, 1)]) (hsN := jpA_267) (c1 := 0) (s1 := 0) (c2 := 0) (s2 := 0) (by exact rfl) ?_ (by omega) (by omega)
  refine jT_xaload_n (v := (6, 0)) (pcN := 1497) jI_379_1496 rfl rfl rfl ?_
  refine jT_xiload (v := (0, 0)) (pcN := 1499) jI_379_1497 rfl rfl rfl ?_
  refine jT_xiconst (k := 2) (pcN := 1500) jI_379_1499 rfl ?_
  refine jT_xiadd (x := 0) (y := 2) (z := 2) (pcN := 1501) jI_379_1500 rfl (by decide) rfl ?_
  refine jT_adv 1 (pcN := 1502) (LN := [(6, (0, 1)), (5, (0, 0)), (4, (4, 3)), (3, (4, 2)), (2, (4, 1)), (1, (4, 0)), (0, (6, 0))]) (stN := [(0, x2), (0, x1), (4, 1)]) (hsN := jpA_267) (c1 := 0) (s1 := 0) (c2 := 0) (s2 := 0) (by exact rfl) ?_ (by omega) (by omega)
  refine jT_eq (LN := [(6, (0, 1)), (5, (0, 0)), (4, (4, 3)), (3, (4, 2)), (2, (4, 1)), (1, (4, 0)), (0, (6, 0))]) (stN := [(0, 0), (0, x1), (4, 1)]) (hsN := [jzA_265, jzA_266, jgh, jgh, jgh, jgh, jgh, jgh, jgh, jgh, jgh, jgh, jgh, jgh, jgh, jgh, jgh, jgh, jgh, jgh, jgh, jgh, jgh, jgh, jgh, jgh, jgh, jgh, jgh, jgh]) (rfl) (by simp only [List.cons.injEq, Prod.mk.injEq, and_true, true_and] <;> ((try unfold jw); (try unfold jwl); omega)) (rfl) ?_
  refine jT_xifT (pcN := 1509) jI_379_1502 rfl (by decide +kernel) rfl ?_
  refine jT_xiconst (k := 0) (pcN := 1510) jI_379_1509 rfl ?_
  refine jT_fB [1, 15, 16, 17, 18, 19, 20, 21, 22, 23, 24, 25, 26, 27, 28, 29] 30 (y := 255) (pcN := 1513) (dC := 2) (bc1 := 0) (bc2 := 0) (c1 := 0) (c2 := 0) (as := [(4, 1), (0, x1), (0, 0)]) (asC := [(4, 0), (0, x1), (0, 0)]) (LN := [(6, (0, 1)), (5, (0, 0)), (4, (4, 3)), (3, (4, 2)), (2, (4, 1)), (1, (4, 0)), (0, (6, 0))]) (stN := []) (hsC := jpA_22) (hsD := jpA_20) (v := (0, 0)) (st2 := [(0, 0)]) (hs2 := jpA_306) (jA_255_667 (d := 0) (by omega)) (by rfl) (by rfl) (by decide +kernel) (by rfl) (by rfl) (by omega) (by omega) (by omega) (by omega) rfl (by decide +kernel) ?_
  refine jT_xistore (v := (0, 0)) (LN := [(7, (0, 0)), (6, (0, 1)), (5, (0, 0)), (4, (4, 3)), (3, (4, 2)), (2, (4, 1)), (1, (4, 0)), (0, (6, 0))]) (pcN := 1515) jI_379_1513 rfl rfl rfl rfl ?_
  refine jT_xaload_n (v := (4, 1)) (pcN := 1516) jI_379_1515 rfl rfl rfl ?_
  refine jT_fR [1, 15, 16, 17, 18, 19, 20, 21, 22, 23, 24, 25, 26, 27, 28, 29] 30 (y := 186) (pcN := 1519) (dC := 0) (bc1 := 0) (bc2 := 0) (c1 := 0) (c2 := 0) (as := [(4, 1)]) (asC := [(4, 0)]) (LN := [(7, (0, 0)), (6, (0, 1)), (5, (0, 0)), (4, (4, 3)), (3, (4, 2)), (2, (4, 1)), (1, (4, 0)), (0, (6, 0))]) (stN := []) (hsC := jpA_20) (v := (0, 1)) (st2 := [(0, 1)]) (jA_186_8 (d := 0)) (by rfl) (by rfl) (by decide +kernel) (by rfl) (by rfl) (by omega) (by omega) (by omega) (by omega) rfl ?_
  refine jT_xiload (v := (0, 1)) (pcN := 1521) jI_379_1519 rfl rfl rfl ?_
  refine jT_xicT (pcN := 1526) jI_379_1521 rfl (by decide +kernel) rfl ?_
  refine jT_xiload (v := (0, 1)) (pcN := 1528) jI_379_1526 rfl rfl rfl ?_
  refine jT_xifT (pcN := 1543) jI_379_1528 rfl (by decide +kernel) rfl ?_
  refine jT_xgoto (pcN := 3740) jI_379_1543 rfl ?_
  refine jT_xiinc (x := 0) (z := 5) (LN := [(5, (0, 5)), (7, (0, 0)), (6, (0, 1)), (4, (4, 3)), (3, (4, 2)), (2, (4, 1)), (1, (4, 0)), (0, (6, 0))]) (pcN := 3743) jI_379_3740 rfl rfl (by decide) rfl rfl ?_
  refine jT_xgoto (pcN := 28) jI_379_3743 rfl ?_
  refine jT_xiload (v := (0, 5)) (pcN := 30) jI_379_28 rfl rfl rfl ?_
  refine jT_xaload_n (v := (6, 0)) (pcN := 31) jI_379_30 rfl rfl rfl ?_
  refine jT_adv 1 (pcN := 32) (LN := [(5, (0, 5)), (7, (0, 0)), (6, (0, 1)), (4, (4, 3)), (3, (4, 2)), (2, (4, 1)), (1, (4, 0)), (0, (6, 0))]) (stN := [(0, 5), (0, 5)]) (hsN := jpA_306) (c1 := 0) (s1 := 0) (c2 := 0) (s2 := 0) (by exact rfl) ?_ (by omega) (by omega)
  refine jT_xiconst (k := 5) (pcN := 33) jI_379_32 rfl ?_
  refine jT_xisub (x := 5) (y := 5) (z := 0) (pcN := 34) jI_379_33 rfl (by decide) rfl ?_
  refine jT_xicT (pcN := 3746) jI_379_34 rfl (by decide +kernel) rfl ?_
  refine jT_xiconst (k := 1) (pcN := 3747) jI_379_3746 rfl ?_
  exact jT_ret rfl (by decide) (by show 30 ≤ 30; decide) (by omega) (by omega) ⟨rfl, rfl⟩
set_option maxRecDepth 100000 in
theorem jL_15_6 {d : Nat} {x0 x1 x2 x3 x4 : Int} (h_x0 : (-2147483648) ≤ x0 ∧ x0 ≤ 2147483647) (h_x1 : (-2147483648) ≤ x1 ∧ x1 ≤ (-1)) (h_x2 : 1 ≤ x2 ∧ x2 ≤ 2147483647) (h_x3 : (-2147483648) ≤ x3 ∧ x3 ≤ 2147483647) (h_x4 : (-2147483648) ≤ x4 ∧ x4 ≤ 2147483647) : jT [x0, x1, x2, x3, x4] (d + 3) 379 30 1462 [(5, (0, 0)), (4, (4, 3)), (3, (4, 2)), (2, (4, 1)), (1, (4, 0)), (0, (6, 0))] [] jpA_267 1 6 (fun k v hsN => k = 0 ∧ v = (0, 1)) := by
  refine jT_xaload_n (v := (4, 0)) (pcN := 1463) jI_379_1462 rfl rfl rfl ?_
  refine jT_xaload_n (v := (6, 0)) (pcN := 1464) jI_379_1463 rfl rfl rfl ?_
  refine jT_xiload (v := (0, 0)) (pcN := 1466) jI_379_1464 rfl rfl rfl ?_
  refine jT_xiconst (k := 1) (pcN := 1467) jI_379_1466 rfl ?_
  refine jT_xiadd (x := 0) (y := 1) (z := 1) (pcN := 1468) jI_379_1467 rfl (by decide) rfl ?_
  refine jT_adv 1 (pcN := 1469) (LN := [(5, (0, 0)), (4, (4, 3)), (3, (4, 2)), (2, (4, 1)), (1, (4, 0)), (0, (6, 0))]) (stN := [(0, x1), (4, 0)]) (hsN := jpA_267) (c1 := 0) (s1 := 0) (c2 := 1) (s2 := 6) (by exact rfl) ?_ (by omega) (by omega)
  refine jT_xaload_n (v := (6, 0)) (pcN := 1470) jI_379_1469 rfl rfl rfl ?_
  refine jT_xiload (v := (0, 0)) (pcN := 1472) jI_379_1470 rfl rfl rfl ?_
  refine jT_xiconst (k := 2) (pcN := 1473) jI_379_1472 rfl ?_
  refine jT_xiadd (x := 0) (y := 2) (z := 2) (pcN := 1474) jI_379_1473 rfl (by decide) rfl ?_
  refine jT_adv 1 (pcN := 1475) (LN := [(5, (0, 0)), (4, (4, 3)), (3, (4, 2)), (2, (4, 1)), (1, (4, 0)), (0, (6, 0))]) (stN := [(0, x2), (0, x1), (4, 0)]) (hsN := jpA_267) (c1 := 0) (s1 := 0) (c2 := 1) (s2 := 6) (by exact rfl) ?_ (by omega) (by omega)
  refine jT_ifF (a := x2) (t := 1482) (by rfl) (by rfl) (by rfl) (jw_idd (by omega) (by omega)) (by simp only [jcP] <;> omega) ?_
  refine jT_xiconst (k := 1) (pcN := 1479) jI_379_1478 rfl ?_
  refine jT_xgoto (pcN := 1483) jI_379_1479 rfl ?_
  refine jT_xaload_n (v := (4, 2)) (pcN := 1484) jI_379_1483 rfl rfl rfl ?_
  refine jT_fR [0, 2, 4, 5, 6, 7, 8, 9, 10, 11, 12, 13, 14] 30 (y := 341) (pcN := 1487) (dC := 2) (bc1 := 1) (bc2 := 6) (c1 := 0) (c2 := 0) (as := [(4, 0), (0, x1), (0, 1), (4, 2)]) (asC := [(4, 0), (0, x1), (0, 1), (4, 1)]) (LN := [(5, (0, 0)), (4, (4, 3)), (3, (4, 2)), (2, (4, 1)), (1, (4, 0)), (0, (6, 0))]) (stN := []) (hsC := jpA_15) (v := (0, 1)) (st2 := [(0, 1)]) (jA_341_643 (d := 0) (by omega)) (by rfl) (by rfl) (by decide +kernel) (by rfl) (by rfl) (by omega) (by omega) (by omega) (by omega) rfl ?_
  refine jT_xistore (v := (0, 1)) (LN := [(6, (0, 1)), (5, (0, 0)), (4, (4, 3)), (3, (4, 2)), (2, (4, 1)), (1, (4, 0)), (0, (6, 0))]) (pcN := 1489) jI_379_1487 rfl rfl rfl rfl ?_
  refine jT_xaload_n (v := (4, 1)) (pcN := 1490) jI_379_1489 rfl rfl rfl ?_
  refine jT_xaload_n (v := (6, 0)) (pcN := 1491) jI_379_1490 rfl rfl rfl ?_
  refine jT_xiload (v := (0, 0)) (pcN := 1493) jI_379_1491 rfl rfl rfl ?_
  refine jT_xiconst (k := 1) (pcN := 1494) jI_379_1493 rfl ?_
  refine jT_xiadd (x := 0) (y := 1) (z := 1) (pcN := 1495) jI_379_1494 rfl (by decide) rfl ?_
  refine jT_adv 1 (pcN := 1496) (LN := [(6, (0, 1)), (5, (0, 0)), (4, (4, 3)), (3, (4, 2)), (2, (4, 1)), (1, (4, 0)), (0, (6, 0))]) (stN := [(0, x1), (4, 1)]) (hsN := jpA_267) (c1 := 0) (s1 := 0) (c2 := 0) (s2 := 0) (by exact rfl) ?_ (by omega) (by omega)
  refine jT_xaload_n (v := (6, 0)) (pcN := 1497) jI_379_1496 rfl rfl rfl ?_
  refine jT_xiload (v := (0, 0)) (pcN := 1499) jI_379_1497 rfl rfl rfl ?_
  refine jT_xiconst (k := 2) (pcN := 1500) jI_379_1499 rfl ?_
  refine jT_xiadd (x := 0) (y := 2) (z := 2) (pcN := 1501) jI_379_1500 rfl (by decide) rfl ?_
  refine jT_adv 1 (pcN := 1502) (LN := [(6, (0, 1)), (5, (0, 0)), (4, (4, 3)), (3, (4, 2)), (2, (4, 1)), (1, (4, 0)), (0, (6, 0))]) (stN := [(0, x2), (0, x1), (4, 1)]) (hsN := jpA_267) (c1 := 0) (s1 := 0) (c2 := 0) (s2 := 0) (by exact rfl) ?_ (by omega) (by omega)
  refine jT_ifF (a := x2) (t := 1509) (by rfl) (by rfl) (by rfl) (jw_idd (by omega) (by omega)) (by simp only [jcP] <;> omega) ?_
  refine jT_xiconst (k := 1) (pcN := 1506) jI_379_1505 rfl ?_
  refine jT_xgoto (pcN := 1510) jI_379_1506 rfl ?_
  refine jT_fB [1, 15, 16, 17, 18, 19, 20, 21, 22, 23, 24, 25, 26, 27, 28, 29] 30 (y := 255) (pcN := 1513) (dC := 2) (bc1 := 0) (bc2 := 0) (c1 := 0) (c2 := 0) (as := [(4, 1), (0, x1), (0, 1)]) (asC := [(4, 0), (0, x1), (0, 1)]) (LN := [(6, (0, 1)), (5, (0, 0)), (4, (4, 3)), (3, (4, 2)), (2, (4, 1)), (1, (4, 0)), (0, (6, 0))]) (stN := []) (hsC := jpA_22) (hsD := jpA_20) (v := (0, 0)) (st2 := [(0, 0)]) (hs2 := jpA_306) (jA_255_644 (d := 0) (by omega)) (by rfl) (by rfl) (by decide +kernel) (by rfl) (by rfl) (by omega) (by omega) (by omega) (by omega) rfl (by decide +kernel) ?_
  refine jT_xistore (v := (0, 0)) (LN := [(7, (0, 0)), (6, (0, 1)), (5, (0, 0)), (4, (4, 3)), (3, (4, 2)), (2, (4, 1)), (1, (4, 0)), (0, (6, 0))]) (pcN := 1515) jI_379_1513 rfl rfl rfl rfl ?_
  refine jT_xaload_n (v := (4, 1)) (pcN := 1516) jI_379_1515 rfl rfl rfl ?_
  refine jT_fR [1, 15, 16, 17, 18, 19, 20, 21, 22, 23, 24, 25, 26, 27, 28, 29] 30 (y := 186) (pcN := 1519) (dC := 0) (bc1 := 0) (bc2 := 0) (c1 := 0) (c2 := 0) (as := [(4, 1)]) (asC := [(4, 0)]) (LN := [(7, (0, 0)), (6, (0, 1)), (5, (0, 0)), (4, (4, 3)), (3, (4, 2)), (2, (4, 1)), (1, (4, 0)), (0, (6, 0))]) (stN := []) (hsC := jpA_20) (v := (0, 1)) (st2 := [(0, 1)]) (jA_186_8 (d := 0)) (by rfl) (by rfl) (by decide +kernel) (by rfl) (by rfl) (by omega) (by omega) (by omega) (by omega) rfl ?_
  refine jT_xiload (v := (0, 1)) (pcN := 1521) jI_379_1519 rfl rfl rfl ?_
  refine jT_xicT (pcN := 1526) jI_379_1521 rfl (by decide +kernel) rfl ?_
  refine jT_xiload (v := (0, 1)) (pcN := 1528) jI_379_1526 rfl rfl rfl ?_
  refine jT_xifT (pcN := 1543) jI_379_1528 rfl (by decide +kernel) rfl ?_
  refine jT_xgoto (pcN := 3740) jI_379_1543 rfl ?_
  refine jT_xiinc (x := 0) (z := 5) (LN := [(5, (0, 5)), (7, (0, 0)), (6, (0, 1)), (4, (4, 3)), (3, (4, 2)), (2, (4, 1)), (1, (4, 0)), (0, (6, 0))]) (pcN := 3743) jI_379_3740 rfl rfl (by decide) rfl rfl ?_
  refine jT_xgoto (pcN := 28) jI_379_3743 rfl ?_
  refine jT_xiload (v := (0, 5)) (pcN := 30) jI_379_28 rfl rfl rfl ?_
  refine jT_xaload_n (v := (6, 0)) (pcN := 31) jI_379_30 rfl rfl rfl ?_
  refine jT_adv 1 (pcN := 32) (LN := [(5, (0, 5)), (7, (0, 0)), (6, (0, 1)), (4, (4, 3)), (3, (4, 2)), (2, (4, 1)), (1, (4, 0)), (0, (6, 0))]) (stN := [(0, 5), (0, 5)]) (hsN := jpA_306) (c1 := 0) (s1 := 0) (c2 := 0) (s2 := 0) (by exact rfl) ?_ (by omega) (by omega)
  refine jT_xiconst (k := 5) (pcN := 33) jI_379_32 rfl ?_
  refine jT_xisub (x := 5) (y := 5) (z := 0) (pcN := 34) jI_379_33 rfl (by decide) rfl ?_
  refine jT_xicT (pcN := 3746) jI_379_34 rfl (by decide +kernel) rfl ?_
  refine jT_xiconst (k := 1) (pcN := 3747) jI_379_3746 rfl ?_
  exact jT_ret rfl (by decide) (by show 30 ≤ 30; decide) (by omega) (by omega) ⟨rfl, rfl⟩
set_option maxRecDepth 100000 in
theorem jL_15_7 {d : Nat} {x0 x1 x2 x3 x4 : Int} (h_x0 : (-2147483648) ≤ x0 ∧ x0 ≤ 2147483647) (h_x1 : 0 ≤ x1 ∧ x1 ≤ 7) (h_x2 : 1 ≤ x2 ∧ x2 ≤ 2147483647) (h_x3 : (-2147483648) ≤ x3 ∧ x3 ≤ 2147483647) (h_x4 : (-2147483648) ≤ x4 ∧ x4 ≤ 2147483647) : jT [x0, x1, x2, x3, x4] (d + 6) 379 45 1462 [(5, (0, 0)), (4, (4, 3)), (3, (4, 2)), (2, (4, 1)), (1, (4, 0)), (0, (6, 0))] [] jpA_2641 6 22 (fun k v hsN => k = 0 ∧ v = (0, 1)) := by
  refine jT_xaload_n (v := (4, 0)) (pcN := 1463) jI_379_1462 rfl rfl rfl ?_
  refine jT_xaload_n (v := (6, 0)) (pcN := 1464) jI_379_1463 rfl rfl rfl ?_
  refine jT_xiload (v := (0, 0)) (pcN := 1466) jI_379_1464 rfl rfl rfl ?_
  refine jT_xiconst (k := 1) (pcN := 1467) jI_379_1466 rfl ?_
  refine jT_xiadd (x := 0) (y := 1) (z := 1) (pcN := 1468) jI_379_1467 rfl (by decide) rfl ?_
  refine jT_adv 1 (pcN := 1469) (LN := [(5, (0, 0)), (4, (4, 3)), (3, (4, 2)), (2, (4, 1)), (1, (4, 0)), (0, (6, 0))]) (stN := [(0, x1), (4, 0)]) (hsN := jpA_2641) (c1 := 0) (s1 := 0) (c2 := 6) (s2 := 22) (by exact rfl) ?_ (by omega) (by omega)
  refine jT_xaload_n (v := (6, 0)) (pcN := 1470) jI_379_1469 rfl rfl rfl ?_
  refine jT_xiload (v := (0, 0)) (pcN := 1472) jI_379_1470 rfl rfl rfl ?_
  refine jT_xiconst (k := 2) (pcN := 1473) jI_379_1472 rfl ?_
  refine jT_xiadd (x := 0) (y := 2) (z := 2) (pcN := 1474) jI_379_1473 rfl (by decide) rfl ?_
  refine jT_adv 1 (pcN := 1475) (LN := [(5, (0, 0)), (4, (4, 3)), (3, (4, 2)), (2, (4, 1)), (1, (4, 0)), (0, (6, 0))]) (stN := [(0, x2), (0, x1), (4, 0)]) (hsN := jpA_2641) (c1 := 0) (s1 := 0) (c2 := 6) (s2 := 22) (by exact rfl) ?_ (by omega) (by omega)
  refine jT_ifF (a := x2) (t := 1482) (by rfl) (by rfl) (by rfl) (jw_idd (by omega) (by omega)) (by simp only [jcP] <;> omega) ?_
  refine jT_xiconst (k := 1) (pcN := 1479) jI_379_1478 rfl ?_
  refine jT_xgoto (pcN := 1483) jI_379_1479 rfl ?_
  refine jT_xaload_n (v := (4, 2)) (pcN := 1484) jI_379_1483 rfl rfl rfl ?_
  refine jT_fB [0, 2, 4, 5, 6, 7, 8, 9, 10, 11, 12, 13, 14, 30, 31, 32, 33, 34, 43, 44] 45 (y := 341) (pcN := 1487) (dC := 5) (bc1 := 6) (bc2 := 22) (c1 := 0) (c2 := 0) (as := [(4, 0), (0, x1), (0, 1), (4, 2)]) (asC := [(4, 0), (0, x1), (0, 1), (4, 1)]) (LN := [(5, (0, 0)), (4, (4, 3)), (3, (4, 2)), (2, (4, 1)), (1, (4, 0)), (0, (6, 0))]) (stN := []) (hsC := jpA_2521) (hsD := jpA_2518) (v := (0, 0)) (st2 := [(0, 0)]) (hs2 := jpA_2644) (jA_341_648 (d := 0) (by omega)) (by rfl) (by rfl) (by decide +kernel) (by rfl) (by rfl) (by omega) (by omega) (by omega) (by omega) rfl (by decide +kernel) ?_
  refine jT_xistore (v := (0, 0)) (LN := [(6, (0, 0)), (5, (0, 0)), (4, (4, 3)), (3, (4, 2)), (2, (4, 1)), (1, (4, 0)), (0, (6, 0))]) (pcN := 1489) jI_379_1487 rfl rfl rfl rfl ?_
  refine jT_xaload_n (v := (4, 1)) (pcN := 1490) jI_379_1489 rfl rfl rfl ?_
  refine jT_xaload_n (v := (6, 0)) (pcN := 1491) jI_379_1490 rfl rfl rfl ?_
  refine jT_xiload (v := (0, 0)) (pcN := 1493) jI_379_1491 rfl rfl rfl ?_
  refine jT_xiconst (k := 1) (pcN := 1494) jI_379_1493 rfl ?_
  refine jT_xiadd (x := 0) (y := 1) (z := 1) (pcN := 1495) jI_379_1494 rfl (by decide) rfl ?_
  refine jT_adv 1 (pcN := 1496) (LN := [(6, (0, 0)), (5, (0, 0)), (4, (4, 3)), (3, (4, 2)), (2, (4, 1)), (1, (4, 0)), (0, (6, 0))]) (stN := [(0, x1), (4, 1)]) (hsN := jpA_2644) (c1 := 0) (s1 := 0) (c2 := 0) (s2 := 0) (by exact rfl) ?_ (by omega) (by omega)
  refine jT_xaload_n (v := (6, 0)) (pcN := 1497) jI_379_1496 rfl rfl rfl ?_
  refine jT_xiload (v := (0, 0)) (pcN := 1499) jI_379_1497 rfl rfl rfl ?_
  refine jT_xiconst (k := 2) (pcN := 1500) jI_379_1499 rfl ?_
  refine jT_xiadd (x := 0) (y := 2) (z := 2) (pcN := 1501) jI_379_1500 rfl (by decide) rfl ?_
  refine jT_adv 1 (pcN := 1502) (LN := [(6, (0, 0)), (5, (0, 0)), (4, (4, 3)), (3, (4, 2)), (2, (4, 1)), (1, (4, 0)), (0, (6, 0))]) (stN := [(0, x2), (0, x1), (4, 1)]) (hsN := jpA_2644) (c1 := 0) (s1 := 0) (c2 := 0) (s2 := 0) (by exact rfl) ?_ (by omega) (by omega)
  refine jT_ifF (a := x2) (t := 1509) (by rfl) (by rfl) (by rfl) (jw_idd (by omega) (by omega)) (by simp only [jcP] <;> omega) ?_
  refine jT_xiconst (k := 1) (pcN := 1506) jI_379_1505 rfl ?_
  refine jT_xgoto (pcN := 1510) jI_379_1506 rfl ?_
  refine jT_fB [1, 15, 16, 17, 18, 19, 20, 21, 22, 23, 24, 25, 26, 27, 28, 29, 35, 36, 37, 38, 39, 40, 41, 42] 51 (y := 255) (pcN := 1513) (dC := 3) (bc1 := 0) (bc2 := 0) (c1 := 0) (c2 := 0) (as := [(4, 1), (0, x1), (0, 1)]) (asC := [(4, 0), (0, x1), (0, 1)]) (LN := [(6, (0, 0)), (5, (0, 0)), (4, (4, 3)), (3, (4, 2)), (2, (4, 1)), (1, (4, 0)), (0, (6, 0))]) (stN := []) (hsC := jpA_248) (hsD := jpA_2602) (v := (0, 1)) (st2 := [(0, 1)]) (hs2 := jpA_2645) (jA_255_653 (d := 0) (by omega)) (by rfl) (by rfl) (by decide +kernel) (by rfl) (by rfl) (by omega) (by omega) (by omega) (by omega) rfl (by decide +kernel) ?_
  refine jT_xistore (v := (0, 1)) (LN := [(7, (0, 1)), (6, (0, 0)), (5, (0, 0)), (4, (4, 3)), (3, (4, 2)), (2, (4, 1)), (1, (4, 0)), (0, (6, 0))]) (pcN := 1515) jI_379_1513 rfl rfl rfl rfl ?_
  refine jT_xaload_n (v := (4, 1)) (pcN := 1516) jI_379_1515 rfl rfl rfl ?_
  refine jT_fR [1, 15, 16, 17, 18, 19, 20, 21, 22, 23, 24, 25, 26, 27, 28, 29] 51 (y := 186) (pcN := 1519) (dC := 0) (bc1 := 0) (bc2 := 0) (c1 := 0) (c2 := 0) (as := [(4, 1)]) (asC := [(4, 0)]) (LN := [(7, (0, 1)), (6, (0, 0)), (5, (0, 0)), (4, (4, 3)), (3, (4, 2)), (2, (4, 1)), (1, (4, 0)), (0, (6, 0))]) (stN := []) (hsC := jpA_258) (v := (0, 0)) (st2 := [(0, 0)]) (jA_186_54 (d := 0)) (by rfl) (by rfl) (by decide +kernel) (by rfl) (by rfl) (by omega) (by omega) (by omega) (by omega) rfl ?_
  refine jT_xiload (v := (0, 0)) (pcN := 1521) jI_379_1519 rfl rfl rfl ?_
  refine jT_xicT (pcN := 1526) jI_379_1521 rfl (by decide +kernel) rfl ?_
  refine jT_xiload (v := (0, 0)) (pcN := 1528) jI_379_1526 rfl rfl rfl ?_
  refine jT_xifF (t := 1543) (pcN := 1531) jI_379_1528 rfl (by decide +kernel) rfl rfl ?_
  refine jT_xaload_n (v := (4, 2)) (pcN := 1532) jI_379_1531 rfl rfl rfl ?_
  refine jT_xiconst (k := 0) (pcN := 1533) jI_379_1532 rfl ?_
  refine jT_lald (x := 1) (a := 2) (j := 0) (fs := []) (X := [1]) jI_379_1533 rfl rfl rfl rfl ?_
  refine jT_eq (LN := [(7, (0, 1)), (6, (0, 0)), (5, (0, 0)), (4, (4, 3)), (3, (4, 2)), (2, (4, 1)), (1, (4, 0)), (0, (6, 0))]) (stN := [(1, 1)]) (hsN := jpA_2645) rfl rfl rfl ?_
  refine jT_xiload (v := (0, 1)) (pcN := 1536) jI_379_1534 rfl rfl rfl ?_
  refine jT_xi2l (x := 1) (z := 1) (pcN := 1537) jI_379_1536 rfl (by decide +kernel) rfl ?_
  refine jT_lcmp (a := 1) (b := 1) (z := 0) (by rfl) (by rfl) (by decide +kernel) (by decide +kernel) (by decide) ?_
  refine jT_xifT (pcN := 1543) jI_379_1538 rfl (by decide +kernel) rfl ?_
  refine jT_xgoto (pcN := 3740) jI_379_1543 rfl ?_
  refine jT_xiinc (x := 0) (z := 5) (LN := [(5, (0, 5)), (7, (0, 1)), (6, (0, 0)), (4, (4, 3)), (3, (4, 2)), (2, (4, 1)), (1, (4, 0)), (0, (6, 0))]) (pcN := 3743) jI_379_3740 rfl rfl (by decide) rfl rfl ?_
  refine jT_xgoto (pcN := 28) jI_379_3743 rfl ?_
  refine jT_xiload (v := (0, 5)) (pcN := 30) jI_379_28 rfl rfl rfl ?_
  refine jT_xaload_n (v := (6, 0)) (pcN := 31) jI_379_30 rfl rfl rfl ?_
  refine jT_adv 1 (pcN := 32) (LN := [(5, (0, 5)), (7, (0, 1)), (6, (0, 0)), (4, (4, 3)), (3, (4, 2)), (2, (4, 1)), (1, (4, 0)), (0, (6, 0))]) (stN := [(0, 5), (0, 5)]) (hsN := jpA_2645) (c1 := 0) (s1 := 0) (c2 := 0) (s2 := 0) (by exact rfl) ?_ (by omega) (by omega)
  refine jT_xiconst (k := 5) (pcN := 33) jI_379_32 rfl ?_
  refine jT_xisub (x := 5) (y := 5) (z := 0) (pcN := 34) jI_379_33 rfl (by decide) rfl ?_
  refine jT_xicT (pcN := 3746) jI_379_34 rfl (by decide +kernel) rfl ?_
  refine jT_xiconst (k := 1) (pcN := 3747) jI_379_3746 rfl ?_
  exact jT_ret rfl (by decide) (by show 45 ≤ 51; decide) (by omega) (by omega) ⟨rfl, rfl⟩
set_option maxRecDepth 100000 in
theorem jL_15_8 {d : Nat} {x0 x1 x2 x3 x4 : Int} (h_x0 : (-2147483648) ≤ x0 ∧ x0 ≤ 2147483647) (h_x1 : 8 ≤ x1 ∧ x1 ≤ 2147483647) (h_x2 : 1 ≤ x2 ∧ x2 ≤ 2147483647) (h_x3 : (-2147483648) ≤ x3 ∧ x3 ≤ 2147483647) (h_x4 : (-2147483648) ≤ x4 ∧ x4 ≤ 2147483647) : jT [x0, x1, x2, x3, x4] (d + 3) 379 30 1462 [(5, (0, 0)), (4, (4, 3)), (3, (4, 2)), (2, (4, 1)), (1, (4, 0)), (0, (6, 0))] [] jpA_267 1 6 (fun k v hsN => k = 0 ∧ v = (0, 1)) := by
  refine jT_xaload_n (v := (4, 0)) (pcN := 1463) jI_379_1462 rfl rfl rfl ?_
  refine jT_xaload_n (v := (6, 0)) (pcN := 1464) jI_379_1463 rfl rfl rfl ?_
  refine jT_xiload (v := (0, 0)) (pcN := 1466) jI_379_1464 rfl rfl rfl ?_
  refine jT_xiconst (k := 1) (pcN := 1467) jI_379_1466 rfl ?_
  refine jT_xiadd (x := 0) (y := 1) (z := 1) (pcN := 1468) jI_379_1467 rfl (by decide) rfl ?_
  refine jT_adv 1 (pcN := 1469) (LN := [(5, (0, 0)), (4, (4, 3)), (3, (4, 2)), (2, (4, 1)), (1, (4, 0)), (0, (6, 0))]) (stN := [(0, x1), (4, 0)]) (hsN := jpA_267) (c1 := 0) (s1 := 0) (c2 := 1) (s2 := 6) (by exact rfl) ?_ (by omega) (by omega)
  refine jT_xaload_n (v := (6, 0)) (pcN := 1470) jI_379_1469 rfl rfl rfl ?_
  refine jT_xiload (v := (0, 0)) (pcN := 1472) jI_379_1470 rfl rfl rfl ?_
  refine jT_xiconst (k := 2) (pcN := 1473) jI_379_1472 rfl ?_
  refine jT_xiadd (x := 0) (y := 2) (z := 2) (pcN := 1474) jI_379_1473 rfl (by decide) rfl ?_
  refine jT_adv 1 (pcN := 1475) (LN := [(5, (0, 0)), (4, (4, 3)), (3, (4, 2)), (2, (4, 1)), (1, (4, 0)), (0, (6, 0))]) (stN := [(0, x2), (0, x1), (4, 0)]) (hsN := jpA_267) (c1 := 0) (s1 := 0) (c2 := 1) (s2 := 6) (by exact rfl) ?_ (by omega) (by omega)
  refine jT_ifF (a := x2) (t := 1482) (by rfl) (by rfl) (by rfl) (jw_idd (by omega) (by omega)) (by simp only [jcP] <;> omega) ?_
  refine jT_xiconst (k := 1) (pcN := 1479) jI_379_1478 rfl ?_
  refine jT_xgoto (pcN := 1483) jI_379_1479 rfl ?_
  refine jT_xaload_n (v := (4, 2)) (pcN := 1484) jI_379_1483 rfl rfl rfl ?_
  refine jT_fR [0, 2, 4, 5, 6, 7, 8, 9, 10, 11, 12, 13, 14] 30 (y := 341) (pcN := 1487) (dC := 2) (bc1 := 1) (bc2 := 6) (c1 := 0) (c2 := 0) (as := [(4, 0), (0, x1), (0, 1), (4, 2)]) (asC := [(4, 0), (0, x1), (0, 1), (4, 1)]) (LN := [(5, (0, 0)), (4, (4, 3)), (3, (4, 2)), (2, (4, 1)), (1, (4, 0)), (0, (6, 0))]) (stN := []) (hsC := jpA_15) (v := (0, 1)) (st2 := [(0, 1)]) (jA_341_655 (d := 0) (by omega)) (by rfl) (by rfl) (by decide +kernel) (by rfl) (by rfl) (by omega) (by omega) (by omega) (by omega) rfl ?_
  refine jT_xistore (v := (0, 1)) (LN := [(6, (0, 1)), (5, (0, 0)), (4, (4, 3)), (3, (4, 2)), (2, (4, 1)), (1, (4, 0)), (0, (6, 0))]) (pcN := 1489) jI_379_1487 rfl rfl rfl rfl ?_
  refine jT_xaload_n (v := (4, 1)) (pcN := 1490) jI_379_1489 rfl rfl rfl ?_
  refine jT_xaload_n (v := (6, 0)) (pcN := 1491) jI_379_1490 rfl rfl rfl ?_
  refine jT_xiload (v := (0, 0)) (pcN := 1493) jI_379_1491 rfl rfl rfl ?_
  refine jT_xiconst (k := 1) (pcN := 1494) jI_379_1493 rfl ?_
  refine jT_xiadd (x := 0) (y := 1) (z := 1) (pcN := 1495) jI_379_1494 rfl (by decide) rfl ?_
  refine jT_adv 1 (pcN := 1496) (LN := [(6, (0, 1)), (5, (0, 0)), (4, (4, 3)), (3, (4, 2)), (2, (4, 1)), (1, (4, 0)), (0, (6, 0))]) (stN := [(0, x1), (4, 1)]) (hsN := jpA_267) (c1 := 0) (s1 := 0) (c2 := 0) (s2 := 0) (by exact rfl) ?_ (by omega) (by omega)
  refine jT_xaload_n (v := (6, 0)) (pcN := 1497) jI_379_1496 rfl rfl rfl ?_
  refine jT_xiload (v := (0, 0)) (pcN := 1499) jI_379_1497 rfl rfl rfl ?_
  refine jT_xiconst (k := 2) (pcN := 1500) jI_379_1499 rfl ?_
  refine jT_xiadd (x := 0) (y := 2) (z := 2) (pcN := 1501) jI_379_1500 rfl (by decide) rfl ?_
  refine jT_adv 1 (pcN := 1502) (LN := [(6, (0, 1)), (5, (0, 0)), (4, (4, 3)), (3, (4, 2)), (2, (4, 1)), (1, (4, 0)), (0, (6, 0))]) (stN := [(0, x2), (0, x1), (4, 1)]) (hsN := jpA_267) (c1 := 0) (s1 := 0) (c2 := 0) (s2 := 0) (by exact rfl) ?_ (by omega) (by omega)
  refine jT_ifF (a := x2) (t := 1509) (by rfl) (by rfl) (by rfl) (jw_idd (by omega) (by omega)) (by simp only [jcP] <;> omega) ?_
  refine jT_xiconst (k := 1) (pcN := 1506) jI_379_1505 rfl ?_
  refine jT_xgoto (pcN := 1510) jI_379_1506 rfl ?_
  refine jT_fB [1, 15, 16, 17, 18, 19, 20, 21, 22, 23, 24, 25, 26, 27, 28, 29] 30 (y := 255) (pcN := 1513) (dC := 2) (bc1 := 0) (bc2 := 0) (c1 := 0) (c2 := 0) (as := [(4, 1), (0, x1), (0, 1)]) (asC := [(4, 0), (0, x1), (0, 1)]) (LN := [(6, (0, 1)), (5, (0, 0)), (4, (4, 3)), (3, (4, 2)), (2, (4, 1)), (1, (4, 0)), (0, (6, 0))]) (stN := []) (hsC := jpA_22) (hsD := jpA_20) (v := (0, 0)) (st2 := [(0, 0)]) (hs2 := jpA_306) (jA_255_656 (d := 0) (by omega)) (by rfl) (by rfl) (by decide +kernel) (by rfl) (by rfl) (by omega) (by omega) (by omega) (by omega) rfl (by decide +kernel) ?_
  refine jT_xistore (v := (0, 0)) (LN := [(7, (0, 0)), (6, (0, 1)), (5, (0, 0)), (4, (4, 3)), (3, (4, 2)), (2, (4, 1)), (1, (4, 0)), (0, (6, 0))]) (pcN := 1515) jI_379_1513 rfl rfl rfl rfl ?_
  refine jT_xaload_n (v := (4, 1)) (pcN := 1516) jI_379_1515 rfl rfl rfl ?_
  refine jT_fR [1, 15, 16, 17, 18, 19, 20, 21, 22, 23, 24, 25, 26, 27, 28, 29] 30 (y := 186) (pcN := 1519) (dC := 0) (bc1 := 0) (bc2 := 0) (c1 := 0) (c2 := 0) (as := [(4, 1)]) (asC := [(4, 0)]) (LN := [(7, (0, 0)), (6, (0, 1)), (5, (0, 0)), (4, (4, 3)), (3, (4, 2)), (2, (4, 1)), (1, (4, 0)), (0, (6, 0))]) (stN := []) (hsC := jpA_20) (v := (0, 1)) (st2 := [(0, 1)]) (jA_186_8 (d := 0)) (by rfl) (by rfl) (by decide +kernel) (by rfl) (by rfl) (by omega) (by omega) (by omega) (by omega) rfl ?_
  refine jT_xiload (v := (0, 1)) (pcN := 1521) jI_379_1519 rfl rfl rfl ?_
  refine jT_xicT (pcN := 1526) jI_379_1521 rfl (by decide +kernel) rfl ?_
  refine jT_xiload (v := (0, 1)) (pcN := 1528) jI_379_1526 rfl rfl rfl ?_
  refine jT_xifT (pcN := 1543) jI_379_1528 rfl (by decide +kernel) rfl ?_
  refine jT_xgoto (pcN := 3740) jI_379_1543 rfl ?_
  refine jT_xiinc (x := 0) (z := 5) (LN := [(5, (0, 5)), (7, (0, 0)), (6, (0, 1)), (4, (4, 3)), (3, (4, 2)), (2, (4, 1)), (1, (4, 0)), (0, (6, 0))]) (pcN := 3743) jI_379_3740 rfl rfl (by decide) rfl rfl ?_
  refine jT_xgoto (pcN := 28) jI_379_3743 rfl ?_
  refine jT_xiload (v := (0, 5)) (pcN := 30) jI_379_28 rfl rfl rfl ?_
  refine jT_xaload_n (v := (6, 0)) (pcN := 31) jI_379_30 rfl rfl rfl ?_
  refine jT_adv 1 (pcN := 32) (LN := [(5, (0, 5)), (7, (0, 0)), (6, (0, 1)), (4, (4, 3)), (3, (4, 2)), (2, (4, 1)), (1, (4, 0)), (0, (6, 0))]) (stN := [(0, 5), (0, 5)]) (hsN := jpA_306) (c1 := 0) (s1 := 0) (c2 := 0) (s2 := 0) (by exact rfl) ?_ (by omega) (by omega)
  refine jT_xiconst (k := 5) (pcN := 33) jI_379_32 rfl ?_
  refine jT_xisub (x := 5) (y := 5) (z := 0) (pcN := 34) jI_379_33 rfl (by decide) rfl ?_
  refine jT_xicT (pcN := 3746) jI_379_34 rfl (by decide +kernel) rfl ?_
  refine jT_xiconst (k := 1) (pcN := 3747) jI_379_3746 rfl ?_
  exact jT_ret rfl (by decide) (by show 30 ≤ 30; decide) (by omega) (by omega) ⟨rfl, rfl⟩
theorem jA_116_668 {xs : List Int} {d : Nat} {x1 : Int} (h_x1 : (-2147483648) ≤ x1 ∧ x1 ≤ (-1)) : jT xs d 116 1 0 [(0, (4, 0)), (1, (0, x1)), (2, (0, 0)), (3, (0, 0))] [] [jgh] 1 6 (fun k v hsN => k = 1 ∧ v = (0, 1) ∧ hsN = [jgh] ++ []) := by
  refine jT_xiload_n (v := (0, x1)) (pcN := 1) jI_116_0 rfl rfl rfl ?_
  refine jT_xiload_n (v := (0, 0)) (pcN := 2) jI_116_1 rfl rfl rfl ?_
  refine jT_icT (a := x1) (b := 0) (t := 10) (by rfl) (by rfl) (by rfl) (jw_idd (by omega) (by omega)) (jw_idd (by omega) (by omega)) (by simp only [jcP] <;> omega) ?_
  exact jT_ret (c1 := 1) (s1 := 6) rfl (by decide) (by show 1 ≤ 1; decide) (by omega) (by omega) ⟨rfl, rfl, rfl⟩
theorem jI_135_0 : jmI (jm 135) 0 = (.aload_n 0, 1) := by rfl
theorem jI_135_1 : jmI (jm 135) 1 = (.iload_n 1, 1) := by rfl
theorem jI_135_2 : jmI (jm 135) 2 = (.iconst 0, 1) := by rfl
theorem jI_135_3 : jmI (jm 135) 3 = (.aload_n 0, 1) := by rfl
theorem jI_135_4 : jmI (jm 135) 4 = (.getfield 67, 3) := by rfl
theorem jI_135_7 : jmI (jm 135) 7 = (.getfield 247, 3) := by rfl
def jpA_2660 : List JC := [jzA_5, jgh, jgh, jgh, jgh, jgh, jgh, jgh, jgh, jgh, jgh, jzA_88, jgh, jgh, jgh, jgh, (114, [], [])]
theorem jA_135_669 {xs : List Int} {d : Nat} {x1 x2 : Int} (h_x1 : (-2147483648) ≤ x1 ∧ x1 ≤ (-1)) (h_x2 : (-2147483648) ≤ x2 ∧ x2 ≤ 2147483647) : jT xs (d + 1) 135 17 0 [(0, (4, 0)), (1, (0, x1)), (2, (0, x2))] [] jpA_2660 1 6 (fun k v hsN => k = 1 ∧ v = (0, 1) ∧ hsN = jpA_2660 ++ []) := by
  refine jT_xaload_n (v := (4, 0)) (pcN := 1) jI_135_0 rfl rfl rfl ?_
  refine jT_xiload_n (v := (0, x1)) (pcN := 2) jI_135_1 rfl rfl rfl ?_
  refine jT_xiconst (k := 0) (pcN := 3) jI_135_2 rfl ?_
  refine jT_xaload_n (v := (4, 0)) (pcN := 4) jI_135_3 rfl rfl rfl ?_
  refine jT_xgetf (a := 0) (t := 1) (ci := 13) (fi := 11) (c := jzA_5) (v := (4, 11)) (pcN := 7) jI_135_4 rfl rfl rfl rfl rfl rfl rfl ?_
  refine jT_xgetf (a := 11) (t := 2) (ci := 9) (fi := 4) (c := jzA_88) (v := (4, 16)) (pcN := 10) jI_135_7 rfl rfl rfl rfl rfl rfl rfl ?_
  refine jT_adv 1 (pcN := 11) (LN := [(0, (4, 0)), (1, (0, x1)), (2, (0, x2))]) (stN := [(0, 0), (0, 0), (0, x1), (4, 0)]) (hsN := jpA_2660) (c1 := 0) (s1 := 0) (c2 := 1) (s2 := 6) (by exact rfl) ?_ (by omega) (by omega)
  exact jT_fX [0] 17 (y := 116) (pcN := 14) (dC := 0) (bc1 := 1) (bc2 := 6) (as := [(4, 0), (0, x1), (0, 0), (0, 0)]) (asC := [(4, 0), (0, x1), (0, 0), (0, 0)]) (LN := [(0, (4, 0)), (1, (0, x1)), (2, (0, x2))]) (stN := []) (hsC := [jgh]) (e := 1) (jA_116_668 (d := 0) (by omega)) (by rfl) (by rfl) (by decide +kernel) (by rfl) (by rfl) (by omega) (by omega) (by omega) (by omega) ⟨rfl, ⟨rfl, rfl, rfl⟩⟩
theorem jI_342_0 : jmI (jm 342) 0 = (.aload_n 3, 1) := by rfl
theorem jI_342_1 : jmI (jm 342) 1 = (.iconst 0, 1) := by rfl
theorem jI_342_2 : jmI (jm 342) 2 = (.aload_n 0, 1) := by rfl
theorem jI_342_3 : jmI (jm 342) 3 = (.iload_n 1, 1) := by rfl
theorem jI_342_4 : jmI (jm 342) 4 = (.iload_n 2, 1) := by rfl
def jpA_2666 : List JC := [jzA_14, jgh, jgh, jgh, jgh, jgh, jgh, jgh, jgh, jgh, jgh, jgh, jzA_77, jgh, jgh, jgh, jgh, (114, [], [])]
theorem jA_342_670 {xs : List Int} {d : Nat} {x1 x2 : Int} (h_x1 : (-2147483648) ≤ x1 ∧ x1 ≤ (-1)) (h_x2 : (-2147483648) ≤ x2 ∧ x2 ≤ 2147483647) : jT xs (d + 2) 342 18 0 [(0, (4, 0)), (1, (0, x1)), (2, (0, x2)), (3, (4, 1))] [] jpA_2666 1 6 (fun k v hsN => k = 0 ∧ v = (0, 1) ∧ hsN = jpA_2666 ++ []) := by
  refine jT_xaload_n (v := (4, 1)) (pcN := 1) jI_342_0 rfl rfl rfl ?_
  refine jT_xiconst (k := 0) (pcN := 2) jI_342_1 rfl ?_
  refine jT_xaload_n (v := (4, 0)) (pcN := 3) jI_342_2 rfl rfl rfl ?_
  refine jT_xiload_n (v := (0, x1)) (pcN := 4) jI_342_3 rfl rfl rfl ?_
  refine jT_xiload_n (v := (0, x2)) (pcN := 5) jI_342_4 rfl rfl rfl ?_
  exact jT_fX [0, 2, 3, 4, 5, 6, 7, 8, 9, 10, 11, 12, 13, 14, 15, 16, 17] 18 (y := 135) (pcN := 8) (dC := 1) (bc1 := 1) (bc2 := 6) (as := [(4, 0), (0, x1), (0, x2)]) (asC := [(4, 0), (0, x1), (0, x2)]) (LN := [(0, (4, 0)), (1, (0, x1)), (2, (0, x2)), (3, (4, 1))]) (stN := [(0, 0), (4, 1)]) (hsC := jpA_2660) (e := 1) (jA_135_669 (d := 0) (by omega) (by omega)) (by rfl) (by rfl) (by decide +kernel) (by rfl) (by rfl) (by omega) (by omega) (by omega) (by omega) (show _ from ⟨rfl, rfl, rfl⟩)
theorem jI_257_0 : jmI (jm 257) 0 = (.aload_n 0, 1) := by rfl
theorem jI_257_1 : jmI (jm 257) 1 = (.iconst 0, 1) := by rfl
theorem jI_257_5 : jmI (jm 257) 5 = (.aload_n 0, 1) := by rfl
theorem jI_257_6 : jmI (jm 257) 6 = (.iload_n 1, 1) := by rfl
theorem jI_257_7 : jmI (jm 257) 7 = (.i2l, 1) := by rfl
theorem jI_257_8 : jmI (jm 257) 8 = (.lconst 0, 1) := by rfl
theorem jI_257_9 : jmI (jm 257) 9 = (.aload_n 0, 1) := by rfl
theorem jI_257_10 : jmI (jm 257) 10 = (.getfield 9, 3) := by rfl
theorem jI_257_13 : jmI (jm 257) 13 = (.sipush 1192, 3) := by rfl
theorem jI_257_16 : jmI (jm 257) 16 = (.iaload, 1) := by rfl
theorem jI_257_17 : jmI (jm 257) 17 = (.i2l, 1) := by rfl
theorem jI_257_21 : jmI (jm 257) 21 = (.iconst 1, 1) := by rfl
theorem jI_257_25 : jmI (jm 257) 25 = (.ifCond .ne 15, 3) := by rfl
theorem jI_257_40 : jmI (jm 257) 40 = (.iconst 0, 1) := by rfl
theorem jA_257_671 {xs : List Int} {d : Nat} {x1 x2 : Int} (h_x1 : (-2147483648) ≤ x1 ∧ x1 ≤ (-1)) (h_x2 : (-2147483648) ≤ x2 ∧ x2 ≤ 2147483647) : jT xs (d + 1) 257 16 0 [(0, (4, 0)), (1, (0, x1)), (2, (0, x2))] [] jpA_1519 0 0 (fun k v hsN => k = 0 ∧ v = (0, 0) ∧ hsN = jpA_1820) := by
  refine jT_xaload_n (v := (4, 0)) (pcN := 1) jI_257_0 rfl rfl rfl ?_
  refine jT_xiconst (k := 0) (pcN := 2) jI_257_1 rfl ?_
  refine jT_adv 1 (pcN := 5) (LN := [(0, (4, 0)), (1, (0, x1)), (2, (0, x2))]) (stN := []) (hsN := jpA_1519) (c1 := 0) (s1 := 0) (c2 := 0) (s2 := 0) (by exact rfl) ?_ (by omega) (by omega)
  refine jT_xaload_n (v := (4, 0)) (pcN := 6) jI_257_5 rfl rfl rfl ?_
  refine jT_xiload_n (v := (0, x1)) (pcN := 7) jI_257_6 rfl rfl rfl ?_
  refine jT_xi2l (x := x1) (z := x1) (pcN := 8) jI_257_7 rfl (jw_idd (by omega) (by omega)) rfl ?_
  refine jT_xlconst (z := 0) (pcN := 9) jI_257_8 rfl rfl ?_
  refine jT_xaload_n (v := (4, 0)) (pcN := 10) jI_257_9 rfl rfl rfl ?_
  refine jT_xgetf (a := 0) (t := 1) (ci := 14) (fi := 1) (c := jzA_21) (v := (4, 1)) (pcN := 13) jI_257_10 rfl rfl rfl rfl rfl rfl rfl ?_
  refine jT_xsipush (k := 1192) (pcN := 16) jI_257_13 (by decide) rfl ?_
  refine jT_iald (x := 0) (a := 1) (j := 1192) (fs := []) (X := jS0) (by rfl) (by rfl) (by rfl) (by rfl) (by decide +kernel) ?_
  refine jT_eq (LN := [(0, (4, 0)), (1, (0, x1)), (2, (0, x2))]) (stN := [(0, 0), (1, 0), (1, x1), (4, 0)]) (hsN := jpA_1519) rfl rfl rfl ?_
  refine jT_xi2l (x := 0) (z := 0) (pcN := 18) jI_257_17 rfl (by decide +kernel) rfl ?_
  refine jT_fR [] 16 (y := 189) (pcN := 21) (dC := 0) (bc1 := 0) (bc2 := 0) (c1 := 0) (c2 := 0) (as := [(1, x1), (1, 0), (1, 0)]) (asC := [(1, x1), (1, 0), (1, 0)]) (LN := [(0, (4, 0)), (1, (0, x1)), (2, (0, x2))]) (stN := [(4, 0)]) (hsC := []) (v := (0, 0)) (st2 := [(0, 0), (4, 0)]) (jT_in_lo (d := 0) (v := x1) (lo := 0) (hi := 0) (by omega) (by omega) (by omega) (by omega)) (by rfl) (by rfl) (by decide +kernel) (by rfl) (by rfl) (by omega) (by omega) (by omega) (by omega) rfl ?_
  refine jT_xiconst (k := 1) (pcN := 22) jI_257_21 rfl ?_
  refine jT_fB [0, 1, 2, 3, 4, 5, 6, 7, 8, 9, 10, 11, 12, 13, 14, 15] 16 (y := 191) (pcN := 25) (dC := 0) (bc1 := 0) (bc2 := 0) (c1 := 0) (c2 := 0) (as := [(4, 0), (0, 0), (0, 1)]) (asC := [(4, 0), (0, 0), (0, 1)]) (LN := [(0, (4, 0)), (1, (0, x1)), (2, (0, x2))]) (stN := []) (hsC := jpA_22) (hsD := jpA_20) (v := (0, 1)) (st2 := [(0, 1)]) (hs2 := jpA_1820) (jA_191_5 (d := 0)) (by rfl) (by rfl) (by decide +kernel) (by rfl) (by rfl) (by omega) (by omega) (by omega) (by omega) rfl (by decide +kernel) ?_
  refine jT_xifT (pcN := 40) jI_257_25 rfl (by decide +kernel) rfl ?_
  refine jT_xiconst (k := 0) (pcN := 41) jI_257_40 rfl ?_
  exact jT_ret rfl (by decide) (by show 16 ≤ 16; decide) (by omega) (by omega) ⟨rfl, rfl, rfl⟩
theorem jA_116_672 {xs : List Int} {d : Nat} : jT xs d 116 1 0 [(0, (4, 0)), (1, (0, 0)), (2, (0, 0)), (3, (0, 0))] [] [jgh] 0 0 (fun k v hsN => k = 0 ∧ v = (9, 0) ∧ hsN = [jgh] ++ []) := by
  refine jT_advK 6 (pcN := 21) (LN := [(0, (4, 0)), (1, (0, 0)), (2, (0, 0)), (3, (0, 0))]) (stN := []) (hsN := [jgh]) (c1 := 0) (s1 := 0) (c2 := 0) (s2 := 0) (by decide +kernel) ?_ (by omega) (by omega)
  exact jT_ret rfl (by decide) (by show 1 ≤ 1; decide) (by omega) (by omega) ⟨rfl, rfl, rfl⟩
theorem jI_135_14 : jmI (jm 135) 14 = (.aload_n 0, 1) := by rfl
theorem jI_135_15 : jmI (jm 135) 15 = (.iload_n 2, 1) := by rfl
theorem jI_135_16 : jmI (jm 135) 16 = (.bipush 8, 2) := by rfl
theorem jA_135_673 {xs : List Int} {d : Nat} {x2 : Int} (h_x2 : (-2147483648) ≤ x2 ∧ x2 ≤ (-1)) : jT xs (d + 1) 135 17 0 [(0, (4, 0)), (1, (0, 0)), (2, (0, x2))] [] jpA_2660 1 6 (fun k v hsN => k = 1 ∧ v = (0, 0) ∧ hsN = jpA_2660 ++ []) := by
  refine jT_xaload_n (v := (4, 0)) (pcN := 1) jI_135_0 rfl rfl rfl ?_
  refine jT_xiload_n (v := (0, 0)) (pcN := 2) jI_135_1 rfl rfl rfl ?_
  refine jT_xiconst (k := 0) (pcN := 3) jI_135_2 rfl ?_
  refine jT_xaload_n (v := (4, 0)) (pcN := 4) jI_135_3 rfl rfl rfl ?_
  refine jT_xgetf (a := 0) (t := 1) (ci := 13) (fi := 11) (c := jzA_5) (v := (4, 11)) (pcN := 7) jI_135_4 rfl rfl rfl rfl rfl rfl rfl ?_
  refine jT_xgetf (a := 11) (t := 2) (ci := 9) (fi := 4) (c := jzA_88) (v := (4, 16)) (pcN := 10) jI_135_7 rfl rfl rfl rfl rfl rfl rfl ?_
  refine jT_adv 1 (pcN := 11) (LN := [(0, (4, 0)), (1, (0, 0)), (2, (0, x2))]) (stN := [(0, 0), (0, 0), (0, 0), (4, 0)]) (hsN := jpA_2660) (c1 := 0) (s1 := 0) (c2 := 1) (s2 := 6) (by exact rfl) ?_ (by omega) (by omega)
  refine jT_fR [0] 17 (y := 116) (pcN := 14) (dC := 0) (bc1 := 0) (bc2 := 0) (c1 := 1) (c2 := 6) (as := [(4, 0), (0, 0), (0, 0), (0, 0)]) (asC := [(4, 0), (0, 0), (0, 0), (0, 0)]) (LN := [(0, (4, 0)), (1, (0, 0)), (2, (0, x2))]) (stN := []) (hsC := [jgh]) (v := (9, 0)) (st2 := []) (jA_116_672 (d := 0)) (by rfl) (by rfl) (by decide +kernel) (by rfl) (by rfl) (by omega) (by omega) (by omega) (by omega) rfl ?_
  refine jT_xaload_n (v := (4, 0)) (pcN := 15) jI_135_14 rfl rfl rfl ?_
  refine jT_xiload_n (v := (0, x2)) (pcN := 16) jI_135_15 rfl rfl rfl ?_
  refine jT_xbipush (k := 8) (pcN := 18) jI_135_16 (by decide) rfl ?_
  exact jT_fX [0] 17 (y := 115) (pcN := 21) (dC := 0) (bc1 := 1) (bc2 := 6) (as := [(4, 0), (0, x2), (0, 8)]) (asC := [(4, 0), (0, x2), (0, 8)]) (LN := [(0, (4, 0)), (1, (0, 0)), (2, (0, x2))]) (stN := []) (hsC := [jgh]) (e := 0) (jA_115_10 (d := 0) (by omega)) (by rfl) (by rfl) (by decide +kernel) (by rfl) (by rfl) (by omega) (by omega) (by omega) (by omega) ⟨rfl, ⟨rfl, rfl, rfl⟩⟩
theorem jA_342_674 {xs : List Int} {d : Nat} {x2 : Int} (h_x2 : (-2147483648) ≤ x2 ∧ x2 ≤ (-1)) : jT xs (d + 2) 342 18 0 [(0, (4, 0)), (1, (0, 0)), (2, (0, x2)), (3, (4, 1))] [] jpA_2666 1 6 (fun k v hsN => k = 0 ∧ v = (0, 2) ∧ hsN = jpA_2666 ++ []) := by
  refine jT_xaload_n (v := (4, 1)) (pcN := 1) jI_342_0 rfl rfl rfl ?_
  refine jT_xiconst (k := 0) (pcN := 2) jI_342_1 rfl ?_
  refine jT_xaload_n (v := (4, 0)) (pcN := 3) jI_342_2 rfl rfl rfl ?_
  refine jT_xiload_n (v := (0, 0)) (pcN := 4) jI_342_3 rfl rfl rfl ?_
  refine jT_xiload_n (v := (0, x2)) (pcN := 5) jI_342_4 rfl rfl rfl ?_
  exact jT_fX [0, 2, 3, 4, 5, 6, 7, 8, 9, 10, 11, 12, 13, 14, 15, 16, 17] 18 (y := 135) (pcN := 8) (dC := 1) (bc1 := 1) (bc2 := 6) (as := [(4, 0), (0, 0), (0, x2)]) (asC := [(4, 0), (0, 0), (0, x2)]) (LN := [(0, (4, 0)), (1, (0, 0)), (2, (0, x2)), (3, (4, 1))]) (stN := [(0, 0), (4, 1)]) (hsC := jpA_2660) (e := 0) (jA_135_673 (d := 0) (by omega)) (by rfl) (by rfl) (by decide +kernel) (by rfl) (by rfl) (by omega) (by omega) (by omega) (by omega) (show _ from ⟨rfl, rfl, rfl⟩)
theorem jI_257_28 : jmI (jm 257) 28 = (.aload_n 0, 1) := by rfl
theorem jI_257_29 : jmI (jm 257) 29 = (.iload_n 2, 1) := by rfl
theorem jI_257_33 : jmI (jm 257) 33 = (.iconst 2, 1) := by rfl
theorem jI_257_37 : jmI (jm 257) 37 = (.ifCond .eq 5, 3) := by rfl
theorem jA_257_675 {xs : List Int} {d : Nat} {x2 : Int} (h_x2 : (-2147483648) ≤ x2 ∧ x2 ≤ (-1)) : jT xs (d + 2) 257 16 0 [(0, (4, 0)), (1, (0, 0)), (2, (0, x2))] [] jpA_1519 0 0 (fun k v hsN => k = 0 ∧ v = (0, 0) ∧ hsN = jpA_2089) := by
  refine jT_xaload_n (v := (4, 0)) (pcN := 1) jI_257_0 rfl rfl rfl ?_
  refine jT_xiconst (k := 0) (pcN := 2) jI_257_1 rfl ?_
  refine jT_adv 1 (pcN := 5) (LN := [(0, (4, 0)), (1, (0, 0)), (2, (0, x2))]) (stN := []) (hsN := jpA_1519) (c1 := 0) (s1 := 0) (c2 := 0) (s2 := 0) (by exact rfl) ?_ (by omega) (by omega)
  refine jT_xaload_n (v := (4, 0)) (pcN := 6) jI_257_5 rfl rfl rfl ?_
  refine jT_xiload_n (v := (0, 0)) (pcN := 7) jI_257_6 rfl rfl rfl ?_
  refine jT_xi2l (x := 0) (z := 0) (pcN := 8) jI_257_7 rfl (by decide +kernel) rfl ?_
  refine jT_xlconst (z := 0) (pcN := 9) jI_257_8 rfl rfl ?_
  refine jT_xaload_n (v := (4, 0)) (pcN := 10) jI_257_9 rfl rfl rfl ?_
  refine jT_xgetf (a := 0) (t := 1) (ci := 14) (fi := 1) (c := jzA_21) (v := (4, 1)) (pcN := 13) jI_257_10 rfl rfl rfl rfl rfl rfl rfl ?_
  refine jT_xsipush (k := 1192) (pcN := 16) jI_257_13 (by decide) rfl ?_
  refine jT_iald (x := 0) (a := 1) (j := 1192) (fs := []) (X := jS0) (by rfl) (by rfl) (by rfl) (by rfl) (by decide +kernel) ?_
  refine jT_eq (LN := [(0, (4, 0)), (1, (0, 0)), (2, (0, x2))]) (stN := [(0, 0), (1, 0), (1, 0), (4, 0)]) (hsN := jpA_1519) rfl rfl rfl ?_
  refine jT_xi2l (x := 0) (z := 0) (pcN := 18) jI_257_17 rfl (by decide +kernel) rfl ?_
  refine jT_fR [] 16 (y := 189) (pcN := 21) (dC := 0) (bc1 := 0) (bc2 := 0) (c1 := 0) (c2 := 0) (as := [(1, 0), (1, 0), (1, 0)]) (asC := [(1, 0), (1, 0), (1, 0)]) (LN := [(0, (4, 0)), (1, (0, 0)), (2, (0, x2))]) (stN := [(4, 0)]) (hsC := []) (v := (0, 1)) (st2 := [(0, 1), (4, 0)]) (jA_189_448 (d := 0)) (by rfl) (by rfl) (by decide +kernel) (by rfl) (by rfl) (by omega) (by omega) (by omega) (by omega) rfl ?_
  refine jT_xiconst (k := 1) (pcN := 22) jI_257_21 rfl ?_
  refine jT_fR [0] 16 (y := 191) (pcN := 25) (dC := 0) (bc1 := 0) (bc2 := 0) (c1 := 0) (c2 := 0) (as := [(4, 0), (0, 1), (0, 1)]) (asC := [(4, 0), (0, 1), (0, 1)]) (LN := [(0, (4, 0)), (1, (0, 0)), (2, (0, x2))]) (stN := []) (hsC := [jgh]) (v := (0, 0)) (st2 := [(0, 0)]) (jA_191_38 (d := 0)) (by rfl) (by rfl) (by decide +kernel) (by rfl) (by rfl) (by omega) (by omega) (by omega) (by omega) rfl ?_
  refine jT_xifF (t := 40) (pcN := 28) jI_257_25 rfl (by decide +kernel) rfl rfl ?_
  refine jT_xaload_n (v := (4, 0)) (pcN := 29) jI_257_28 rfl rfl rfl ?_
  refine jT_xiload_n (v := (0, x2)) (pcN := 30) jI_257_29 rfl rfl rfl ?_
  refine jT_fR [] 16 (y := 188) (pcN := 33) (dC := 1) (bc1 := 0) (bc2 := 0) (c1 := 0) (c2 := 0) (as := [(0, x2)]) (asC := [(0, x2)]) (LN := [(0, (4, 0)), (1, (0, 0)), (2, (0, x2))]) (stN := [(4, 0)]) (hsC := []) (v := (0, 0)) (st2 := [(0, 0), (4, 0)]) (jA_188_14 (d := 0) (by omega)) (by rfl) (by rfl) (by decide +kernel) (by rfl) (by rfl) (by omega) (by omega) (by omega) (by omega) rfl ?_
  refine jT_xiconst (k := 2) (pcN := 34) jI_257_33 rfl ?_
  refine jT_fB [0, 1, 2, 3, 4, 5, 6, 7, 8, 9, 10, 11, 12, 13, 14, 15] 16 (y := 191) (pcN := 37) (dC := 0) (bc1 := 0) (bc2 := 0) (c1 := 0) (c2 := 0) (as := [(4, 0), (0, 0), (0, 2)]) (asC := [(4, 0), (0, 0), (0, 2)]) (LN := [(0, (4, 0)), (1, (0, 0)), (2, (0, x2))]) (stN := []) (hsC := jpA_22) (hsD := jpA_361) (v := (0, 1)) (st2 := [(0, 1)]) (hs2 := jpA_2089) (jA_191_99 (d := 0)) (by rfl) (by rfl) (by decide +kernel) (by rfl) (by rfl) (by omega) (by omega) (by omega) (by omega) rfl (by decide +kernel) ?_
  refine jT_xifF (t := 42) (pcN := 40) jI_257_37 rfl (by decide +kernel) rfl rfl ?_
  refine jT_xiconst (k := 0) (pcN := 41) jI_257_40 rfl ?_
  exact jT_ret rfl (by decide) (by show 16 ≤ 16; decide) (by omega) (by omega) ⟨rfl, rfl, rfl⟩
theorem jA_58_676 {xs : List Int} {d : Nat} {x2 : Int} (h_x2 : 0 ≤ x2 ∧ x2 ≤ 7) : jT xs (d + 1) 58 9 0 [(0, (4, 0)), (1, (0, x2)), (2, (4, 1))] [] jpA_74 2 13 (fun k v hsN => k = 0 ∧ v = (4, 10) ∧ hsN = jpA_74 ++ [jgh, jzA_72]) := by
  refine jT_xaload_n (v := (4, 0)) (pcN := 1) jI_58_0 rfl rfl rfl ?_
  refine jT_xgetf (a := 0) (t := 1) (ci := 9) (fi := 0) (c := jzA_55) (v := (4, 2)) (pcN := 4) jI_58_1 rfl rfl rfl rfl rfl rfl rfl ?_
  refine jT_adv 2 (pcN := 10) (LN := [(0, (4, 0)), (1, (0, x2)), (2, (4, 1))]) (stN := [(4, 9)]) (hsN := jpA_56) (c1 := 1) (s1 := 8) (c2 := 1) (s2 := 5) (by exact rfl) ?_ (by omega) (by omega)
  refine jT_xastore_n (v := (4, 9)) (LN := [(3, (4, 9)), (0, (4, 0)), (1, (0, x2)), (2, (4, 1))]) (pcN := 11) jI_58_10 rfl rfl rfl rfl ?_
  refine jT_xaload_n (v := (4, 9)) (pcN := 12) jI_58_11 rfl rfl rfl ?_
  refine jT_xiload_n (v := (0, x2)) (pcN := 13) jI_58_12 rfl rfl rfl ?_
  refine jT_xaload_n (v := (4, 1)) (pcN := 14) jI_58_13 rfl rfl rfl ?_
  refine jT_aastG (kd := 114) (a := 9) (b := 1) (j := (x2).toNat) (fs := []) (X := [8, 8, 8, 8, 8, 8, 8, 8]) (e := (4, [(4, 7), (1, 1)], [])) (by rfl) (by rfl) (by rfl) (jw_nn (by omega) (by omega)) (by show (x2).toNat < 8; omega) (by rfl) (by rfl) (by rfl) ?_
  refine jT_eq (LN := [(3, (4, 9)), (0, (4, 0)), (1, (0, x2)), (2, (4, 1))]) (stN := []) (hsN := jpA_61) rfl rfl rfl ?_
  refine jT_adv 2 (pcN := 19) (LN := [(3, (4, 9)), (0, (4, 0)), (1, (0, x2)), (2, (4, 1))]) (stN := [(4, 10), (4, 10)]) (hsN := jpA_62) (c1 := 1) (s1 := 5) (c2 := 0) (s2 := 0) (by exact rfl) ?_ (by omega) (by omega)
  refine jT_xaload_n (v := (4, 9)) (pcN := 20) jI_58_19 rfl rfl rfl ?_
  refine jT_xaload_n (v := (4, 0)) (pcN := 21) jI_58_20 rfl rfl rfl ?_
  refine jT_xgetf (a := 0) (t := 1) (ci := 9) (fi := 1) (c := jzA_55) (v := (4, 3)) (pcN := 24) jI_58_21 rfl rfl rfl rfl rfl rfl rfl ?_
  refine jT_xaload_n (v := (4, 0)) (pcN := 25) jI_58_24 rfl rfl rfl ?_
  refine jT_xgetf (a := 0) (t := 1) (ci := 9) (fi := 2) (c := jzA_55) (v := (4, 4)) (pcN := 28) jI_58_25 rfl rfl rfl rfl rfl rfl rfl ?_
  refine jT_xaload_n (v := (4, 0)) (pcN := 29) jI_58_28 rfl rfl rfl ?_
  refine jT_xgetf (a := 0) (t := 1) (ci := 9) (fi := 3) (c := jzA_55) (v := (4, 5)) (pcN := 32) jI_58_29 rfl rfl rfl rfl rfl rfl rfl ?_
  refine jT_xaload_n (v := (4, 0)) (pcN := 33) jI_58_32 rfl rfl rfl ?_
  refine jT_xgetf (a := 0) (t := 1) (ci := 9) (fi := 4) (c := jzA_55) (v := (4, 6)) (pcN := 36) jI_58_33 rfl rfl rfl rfl rfl rfl rfl ?_
  refine jT_fB [10, 9, 3, 4, 5, 6] 11 (y := 53) (pcN := 39) (dC := 0) (bc1 := 0) (bc2 := 0) (c1 := 0) (c2 := 0) (as := [(4, 10), (4, 9), (4, 3), (4, 4), (4, 5), (4, 6)]) (asC := [(4, 0), (4, 1), (4, 2), (4, 3), (4, 4), (4, 5)]) (LN := [(3, (4, 9)), (0, (4, 0)), (1, (0, x2)), (2, (4, 1))]) (stN := [(4, 10)]) (hsC := jpA_52) (hsD := jpA_50) (v := (9, 0)) (st2 := [(4, 10)]) (hs2 := jpA_73) (jA_53_32 (d := 0)) (by rfl) (by rfl) (by decide +kernel) (by rfl) (by rfl) (by omega) (by omega) (by omega) (by omega) rfl (by decide +kernel) ?_
  exact jT_ret rfl (by decide) (by show 9 ≤ 11; decide) (by omega) (by omega) ⟨rfl, rfl, rfl⟩
def jpA_2688 : List JC := [jzA_5, (8, [(4, 12), (4, 13)], []), jgh, jgh, jgh, jgh, jgh, jgh, jgh, jgh, jzA_79, jzA_640, jgh, jgh, jzA_641, jgh, jgh, jgh, (114, [], []), jgh]
theorem jI_135_21 : jmI (jm 135) 21 = (.aload_n 0, 1) := by rfl
theorem jI_135_22 : jmI (jm 135) 22 = (.getfield 67, 3) := by rfl
theorem jI_135_25 : jmI (jm 135) 25 = (.iload_n 1, 1) := by rfl
def jpA_2692 : List JC := [jzA_5, (8, [(4, 12), (4, 13)], []), jgh, jgh, jgh, jgh, jgh, jgh, jgh, jgh, jzA_79, jzA_640, jgh, jgh, jzA_641, jgh, jgh, jgh, (114, [], []), jgh, (101, [], [0, 0, 0, 0, 0, 0]), (4, [(4, 20), (1, 1)], [])]
theorem jI_135_29 : jmI (jm 135) 29 = (.astore_n 3, 1) := by rfl
theorem jI_135_30 : jmI (jm 135) 30 = (.aload_n 0, 1) := by rfl
theorem jI_135_31 : jmI (jm 135) 31 = (.aload_n 0, 1) := by rfl
theorem jI_135_32 : jmI (jm 135) 32 = (.getfield 67, 3) := by rfl
theorem jI_135_35 : jmI (jm 135) 35 = (.iload_n 2, 1) := by rfl
theorem jI_135_36 : jmI (jm 135) 36 = (.aload_n 3, 1) := by rfl
def jzA_2699 : JC := (9, [(4, 22), (4, 15), (4, 16), (4, 17), (4, 18)], [])
def jpA_2700 : List JC := [jzA_5, (8, [(4, 12), (4, 13)], []), jgh, jgh, jgh, jgh, jgh, jgh, jgh, jgh, jzA_79, jzA_640, jgh, jgh, jzA_641, jgh, jgh, jgh, (114, [], []), jgh, (101, [], [0, 0, 0, 0, 0, 0]), (4, [(4, 20), (1, 1)], []), jgh, jzA_2699]
def jzA_2701 : JC := (13, [(4, 1), (4, 2), (4, 3), (4, 4), (4, 5), (4, 6), (4, 7), (4, 8), (4, 9), (4, 10), (0, 1), (4, 23), (0, 0)], [])
def jpA_2702 : List JC := [jzA_2701, (8, [(4, 12), (4, 13)], []), jgh, jgh, jgh, jgh, jgh, jgh, jgh, jgh, jzA_102, jzA_640, jgh, jgh, jzA_641, jgh, jgh, jgh, (114, [], []), jgh, (101, [], [0, 0, 0, 0, 0, 0]), (4, [(4, 20), (1, 1)], []), jgh, jzA_2699]
theorem jI_135_43 : jmI (jm 135) 43 = (.aload_n 0, 1) := by rfl
theorem jI_135_44 : jmI (jm 135) 44 = (.getfield 10, 3) := by rfl
theorem jI_135_47 : jmI (jm 135) 47 = (.aload_n 3, 1) := by rfl
theorem jI_135_48 : jmI (jm 135) 48 = (.lconst 1, 1) := by rfl
theorem jI_135_52 : jmI (jm 135) 52 = (.l2i, 1) := by rfl
theorem jA_135_677 {xs : List Int} {d : Nat} {x2 : Int} (h_x2 : 0 ≤ x2 ∧ x2 ≤ 7) : jT xs (d + 4) 135 20 0 [(0, (4, 0)), (1, (0, 0)), (2, (0, x2))] [] jpA_2688 4 21 (fun k v hsN => k = 0 ∧ v = (0, 0) ∧ hsN = jpA_2702) := by
  refine jT_xaload_n (v := (4, 0)) (pcN := 1) jI_135_0 rfl rfl rfl ?_
  refine jT_xiload_n (v := (0, 0)) (pcN := 2) jI_135_1 rfl rfl rfl ?_
  refine jT_xiconst (k := 0) (pcN := 3) jI_135_2 rfl ?_
  refine jT_xaload_n (v := (4, 0)) (pcN := 4) jI_135_3 rfl rfl rfl ?_
  refine jT_xgetf (a := 0) (t := 1) (ci := 13) (fi := 11) (c := jzA_5) (v := (4, 11)) (pcN := 7) jI_135_4 rfl rfl rfl rfl rfl rfl rfl ?_
  refine jT_xgetf (a := 11) (t := 2) (ci := 9) (fi := 4) (c := jzA_640) (v := (4, 18)) (pcN := 10) jI_135_7 rfl rfl rfl rfl rfl rfl rfl ?_
  refine jT_adv 1 (pcN := 11) (LN := [(0, (4, 0)), (1, (0, 0)), (2, (0, x2))]) (stN := [(0, 0), (0, 0), (0, 0), (4, 0)]) (hsN := jpA_2688) (c1 := 0) (s1 := 0) (c2 := 4) (s2 := 21) (by exact rfl) ?_ (by omega) (by omega)
  refine jT_fR [0] 20 (y := 116) (pcN := 14) (dC := 0) (bc1 := 0) (bc2 := 0) (c1 := 4) (c2 := 21) (as := [(4, 0), (0, 0), (0, 0), (0, 0)]) (asC := [(4, 0), (0, 0), (0, 0), (0, 0)]) (LN := [(0, (4, 0)), (1, (0, 0)), (2, (0, x2))]) (stN := []) (hsC := [jgh]) (v := (9, 0)) (st2 := []) (jA_116_672 (d := 0)) (by rfl) (by rfl) (by decide +kernel) (by rfl) (by rfl) (by omega) (by omega) (by omega) (by omega) rfl ?_
  refine jT_xaload_n (v := (4, 0)) (pcN := 15) jI_135_14 rfl rfl rfl ?_
  refine jT_xiload_n (v := (0, x2)) (pcN := 16) jI_135_15 rfl rfl rfl ?_
  refine jT_xbipush (k := 8) (pcN := 18) jI_135_16 (by decide) rfl ?_
  refine jT_fR [0] 20 (y := 115) (pcN := 21) (dC := 0) (bc1 := 0) (bc2 := 0) (c1 := 4) (c2 := 21) (as := [(4, 0), (0, x2), (0, 8)]) (asC := [(4, 0), (0, x2), (0, 8)]) (LN := [(0, (4, 0)), (1, (0, 0)), (2, (0, x2))]) (stN := []) (hsC := [jgh]) (v := (9, 0)) (st2 := []) (jA_115_16 (d := 0) (by omega)) (by rfl) (by rfl) (by decide +kernel) (by rfl) (by rfl) (by omega) (by omega) (by omega) (by omega) rfl ?_
  refine jT_xaload_n (v := (4, 0)) (pcN := 22) jI_135_21 rfl rfl rfl ?_
  refine jT_xgetf (a := 0) (t := 1) (ci := 13) (fi := 11) (c := jzA_5) (v := (4, 11)) (pcN := 25) jI_135_22 rfl rfl rfl rfl rfl rfl rfl ?_
  refine jT_xiload_n (v := (0, 0)) (pcN := 26) jI_135_25 rfl rfl rfl ?_
  refine jT_fA [11] 20 (y := 62) (pcN := 29) (dC := 3) (bc1 := 2) (bc2 := 8) (c1 := 2) (c2 := 13) (as := [(4, 11), (0, 0)]) (asC := [(4, 0), (0, 0)]) (LN := [(0, (4, 0)), (1, (0, 0)), (2, (0, x2))]) (stN := []) (hsC := [jgh]) (ex := [(101, [], [0, 0, 0, 0, 0, 0]), (4, [(4, 1), (1, 1)], [])]) (v := (4, 2)) (st2 := [(4, 21)]) (hs2 := jpA_2692) (jA_62_645 (d := 0)) (by rfl) (by rfl) (by decide +kernel) (by rfl) (by rfl) (by omega) (by omega) (by omega) (by omega) rfl (by decide +kernel) ?_
  refine jT_xastore_n (v := (4, 21)) (LN := [(3, (4, 21)), (0, (4, 0)), (1, (0, 0)), (2, (0, x2))]) (pcN := 30) jI_135_29 rfl rfl rfl rfl ?_
  refine jT_xaload_n (v := (4, 0)) (pcN := 31) jI_135_30 rfl rfl rfl ?_
  refine jT_xaload_n (v := (4, 0)) (pcN := 32) jI_135_31 rfl rfl rfl ?_
  refine jT_xgetf (a := 0) (t := 1) (ci := 13) (fi := 11) (c := jzA_5) (v := (4, 11)) (pcN := 35) jI_135_32 rfl rfl rfl rfl rfl rfl rfl ?_
  refine jT_xiload_n (v := (0, x2)) (pcN := 36) jI_135_35 rfl rfl rfl ?_
  refine jT_xaload_n (v := (4, 21)) (pcN := 37) jI_135_36 rfl rfl rfl ?_
  refine jT_fA [11, 21, 14, 15, 16, 17, 18, 20, 19] 22 (y := 58) (pcN := 40) (dC := 1) (bc1 := 2) (bc2 := 13) (c1 := 0) (c2 := 0) (as := [(4, 11), (0, x2), (4, 21)]) (asC := [(4, 0), (0, x2), (4, 1)]) (LN := [(3, (4, 21)), (0, (4, 0)), (1, (0, 0)), (2, (0, x2))]) (stN := [(4, 0)]) (hsC := jpA_74) (ex := [jgh, jzA_72]) (v := (4, 10)) (st2 := [(4, 23), (4, 0)]) (hs2 := jpA_2700) (jA_58_676 (d := 0) (by omega)) (by rfl) (by rfl) (by decide +kernel) (by rfl) (by rfl) (by omega) (by omega) (by omega) (by omega) rfl (by decide +kernel) ?_
  refine jT_fB [0, 23, 1, 2, 3, 4, 5, 6, 7, 8, 9, 10, 11, 14, 15, 16, 17, 18] 24 (y := 100) (pcN := 43) (dC := 0) (bc1 := 0) (bc2 := 0) (c1 := 0) (c2 := 0) (as := [(4, 0), (4, 23)]) (asC := [(4, 0), (4, 1)]) (LN := [(3, (4, 21)), (0, (4, 0)), (1, (0, 0)), (2, (0, x2))]) (stN := []) (hsC := jpA_80) (hsD := jpA_78) (v := (9, 0)) (st2 := []) (hs2 := jpA_2702) (jA_100_34 (d := 0)) (by rfl) (by rfl) (by decide +kernel) (by rfl) (by rfl) (by omega) (by omega) (by omega) (by omega) rfl (by decide +kernel) ?_
  refine jT_xaload_n (v := (4, 0)) (pcN := 44) jI_135_43 rfl rfl rfl ?_
  refine jT_xgetf (a := 0) (t := 1) (ci := 13) (fi := 0) (c := jzA_2701) (v := (4, 1)) (pcN := 47) jI_135_44 rfl rfl rfl rfl rfl rfl rfl ?_
  refine jT_xaload_n (v := (4, 21)) (pcN := 48) jI_135_47 rfl rfl rfl ?_
  refine jT_xlconst (z := 1) (pcN := 49) jI_135_48 rfl rfl ?_
  refine jT_fR [1, 21, 12, 13, 20] 24 (y := 43) (pcN := 52) (dC := 3) (bc1 := 0) (bc2 := 0) (c1 := 0) (c2 := 0) (as := [(4, 1), (4, 21), (1, 1)]) (asC := [(4, 0), (4, 1), (1, 1)]) (LN := [(3, (4, 21)), (0, (4, 0)), (1, (0, 0)), (2, (0, x2))]) (stN := []) (hsC := jpA_626) (v := (1, 0)) (st2 := [(1, 0)]) (jA_43_222 (d := 0)) (by rfl) (by rfl) (by decide +kernel) (by rfl) (by rfl) (by omega) (by omega) (by omega) (by omega) rfl ?_
  refine jT_xl2i (pcN := 53) jI_135_52 rfl rfl ?_
  exact jT_ret rfl (by decide) (by show 20 ≤ 24; decide) (by omega) (by omega) ⟨rfl, rfl, rfl⟩
def jzA_2708 : JC := (13, [(4, 2), (4, 3), (4, 4), (4, 5), (4, 6), (4, 7), (4, 8), (4, 9), (4, 10), (4, 11), (0, 1), (4, 24), (0, 0)], [])
def jzA_2709 : JC := (9, [(4, 23), (4, 16), (4, 17), (4, 18), (4, 19)], [])
def jpA_2710 : List JC := [jzA_2708, (101, [], [0]), (8, [(4, 13), (4, 14)], []), jgh, jgh, jgh, jgh, jgh, jgh, jgh, jgh, jzA_76, jzA_659, jgh, jgh, jzA_660, jgh, jgh, jgh, (114, [], []), jgh, (101, [], [0, 0, 0, 0, 0, 0]), (4, [(4, 21), (1, 1)], []), jgh, jzA_2709]
theorem jI_342_8 : jmI (jm 342) 8 = (.i2l, 1) := by rfl
theorem jI_342_10 : jmI (jm 342) 10 = (.goto 11, 3) := by rfl
theorem jI_342_21 : jmI (jm 342) 21 = (.iconst 0, 1) := by rfl
def jpA_2714 : List JC := [jzA_14, (101, [], [0]), (8, [(4, 13), (4, 14)], []), jgh, jgh, jgh, jgh, jgh, jgh, jgh, jgh, jzA_79, jzA_659, jgh, jgh, jzA_660, jgh, jgh, jgh, (114, [], []), jgh]
theorem jA_342_678 {xs : List Int} {d : Nat} {x2 : Int} (h_x2 : 0 ≤ x2 ∧ x2 ≤ 7) : jT xs (d + 5) 342 21 0 [(0, (4, 0)), (1, (0, 0)), (2, (0, x2)), (3, (4, 1))] [] jpA_2714 4 21 (fun k v hsN => k = 0 ∧ v = (0, 0) ∧ hsN = jpA_2710) := by
  refine jT_xaload_n (v := (4, 1)) (pcN := 1) jI_342_0 rfl rfl rfl ?_
  refine jT_xiconst (k := 0) (pcN := 2) jI_342_1 rfl ?_
  refine jT_xaload_n (v := (4, 0)) (pcN := 3) jI_342_2 rfl rfl rfl ?_
  refine jT_xiload_n (v := (0, 0)) (pcN := 4) jI_342_3 rfl rfl rfl ?_
  refine jT_xiload_n (v := (0, x2)) (pcN := 5) jI_342_4 rfl rfl rfl ?_
  refine jT_fB [0, 2, 3, 4, 5, 6, 7, 8, 9, 10, 11, 12, 13, 14, 15, 16, 17, 18, 19, 20] 21 (y := 135) (pcN := 8) (dC := 4) (bc1 := 4) (bc2 := 21) (c1 := 0) (c2 := 0) (as := [(4, 0), (0, 0), (0, x2)]) (asC := [(4, 0), (0, 0), (0, x2)]) (LN := [(0, (4, 0)), (1, (0, 0)), (2, (0, x2)), (3, (4, 1))]) (stN := [(0, 0), (4, 1)]) (hsC := jpA_2688) (hsD := jpA_2702) (v := (0, 0)) (st2 := [(0, 0), (0, 0), (4, 1)]) (hs2 := jpA_2710) (jA_135_677 (d := 0) (by omega)) (by rfl) (by rfl) (by decide +kernel) (by rfl) (by rfl) (by omega) (by omega) (by omega) (by omega) rfl (by decide +kernel) ?_
  refine jT_xi2l (x := 0) (z := 0) (pcN := 9) jI_342_8 rfl (by decide +kernel) rfl ?_
  refine jT_adv 1 (pcN := 10) (LN := [(0, (4, 0)), (1, (0, 0)), (2, (0, x2)), (3, (4, 1))]) (stN := []) (hsN := jpA_2710) (c1 := 0) (s1 := 0) (c2 := 0) (s2 := 0) (by exact rfl) ?_ (by omega) (by omega)
  refine jT_xgoto (pcN := 21) jI_342_10 rfl ?_
  refine jT_xiconst (k := 0) (pcN := 22) jI_342_21 rfl ?_
  exact jT_ret rfl (by decide) (by show 21 ≤ 25; decide) (by omega) (by omega) ⟨rfl, rfl, rfl⟩
def jpA_2715 : List JC := [jzA_200, jgh, jgh, jgh, jgh, jgh, jgh, (101, [], [0, 0, 0, 0, 0, 0]), jgh, jgh, jgh, jgh, jgh, jgh, jgh, jgh]
theorem jA_193_679 {xs : List Int} {d : Nat} : jT xs d 193 16 0 [(0, (4, 0))] [] jpA_2715 0 0 (fun k v hsN => k = 0 ∧ v = (9, 0) ∧ hsN = jpA_2715 ++ []) := by
  refine jT_advK 68 (pcN := 26) (LN := [(1, (0, 6)), (0, (4, 0))]) (stN := []) (hsN := jpA_2715) (c1 := 0) (s1 := 0) (c2 := 0) (s2 := 0) (by decide +kernel) ?_ (by omega) (by omega)
  exact jT_ret rfl (by decide) (by show 16 ≤ 16; decide) (by omega) (by omega) ⟨rfl, rfl, rfl⟩
theorem jA_256_680 {xs : List Int} {d : Nat} : jT xs (d + 1) 256 16 0 [(0, (4, 0)), (1, (0, 0))] [] jpA_2715 0 0 (fun k v hsN => k = 0 ∧ v = (9, 0) ∧ hsN = jpA_2715 ++ []) := by
  refine jT_advK 1 (pcN := 1) (LN := [(0, (4, 0)), (1, (0, 0))]) (stN := [(4, 0)]) (hsN := jpA_2715) (c1 := 0) (s1 := 0) (c2 := 0) (s2 := 0) (by decide +kernel) ?_ (by omega) (by omega)
  refine jT_fR [0, 1, 2, 3, 4, 5, 6, 7, 8, 9, 10, 11, 12, 13, 14, 15] 16 (y := 193) (pcN := 4) (dC := 0) (bc1 := 0) (bc2 := 0) (c1 := 0) (c2 := 0) (as := [(4, 0)]) (asC := [(4, 0)]) (LN := [(0, (4, 0)), (1, (0, 0))]) (stN := []) (hsC := jpA_2715) (v := (9, 0)) (st2 := []) (jA_193_679 (d := 0)) (by rfl) (by rfl) (by decide +kernel) (by rfl) (by rfl) (by omega) (by omega) (by omega) (by omega) rfl ?_
  refine jT_advK 5 (pcN := 34) (LN := [(2, (0, 0)), (0, (4, 0)), (1, (0, 0))]) (stN := []) (hsN := jpA_2715) (c1 := 0) (s1 := 0) (c2 := 0) (s2 := 0) (by decide +kernel) ?_ (by omega) (by omega)
  exact jT_ret rfl (by decide) (by show 16 ≤ 16; decide) (by omega) (by omega) ⟨rfl, rfl, rfl⟩
theorem jA_197_681 {xs : List Int} {d : Nat} {x2 : Int} (h_x2 : 0 ≤ x2 ∧ x2 ≤ 7) : jT xs d 197 16 0 [(0, (4, 0)), (1, (4, 1)), (2, (0, 7 * x2))] [] jpA_216 0 0 (fun k v hsN => k = 0 ∧ v = (9, 0) ∧ hsN = [jzA_200, (100, [], ((((((((((((((jS0).set ((7 * x2).toNat) 0)).set ((7 * x2 + 1).toNat) 0)).set ((7 * x2 + 2).toNat) 0)).set ((7 * x2 + 3).toNat) 0)).set ((7 * x2 + 4).toNat) 0)).set ((7 * x2 + 5).toNat) 0)).set ((7 * x2 + 6).toNat) 1)), jgh, jgh, jgh, jgh, jgh, (101, [], [0, 0, 0, 0, 0, 0]), jgh, jgh, jgh, jgh, jgh, jgh, jgh, jgh]) := by
  refine jT_xiconst (k := 0) (pcN := 1) jI_197_0 rfl ?_
  refine jT_xistore_n (v := (0, 0)) (LN := [(3, (0, 0)), (0, (4, 0)), (1, (4, 1)), (2, (0, 7 * x2))]) (pcN := 2) jI_197_1 rfl rfl rfl rfl ?_
  refine jT_xiload_n (v := (0, 0)) (pcN := 3) jI_197_2 rfl rfl rfl ?_
  refine jT_xbipush (k := 6) (pcN := 5) jI_197_3 (by decide) rfl ?_
  refine jT_xicF (t := 26) (pcN := 8) jI_197_5 rfl (by decide +kernel) rfl rfl ?_
  refine jT_xaload_n (v := (4, 1)) (pcN := 9) jI_197_8 rfl rfl rfl ?_
  refine jT_xiload_n (v := (0, 7 * x2)) (pcN := 10) jI_197_9 rfl rfl rfl ?_
  refine jT_xiload_n (v := (0, 0)) (pcN := 11) jI_197_10 rfl rfl rfl ?_
  refine jT_xiadd (x := 7 * x2) (y := 0) (z := 7 * x2) (pcN := 12) jI_197_11 rfl (by omega) rfl ?_
  refine jT_xaload_n (v := (4, 0)) (pcN := 13) jI_197_12 rfl rfl rfl ?_
  refine jT_xgetf (a := 0) (t := 1) (ci := 14) (fi := 9) (c := jzA_200) (v := (4, 7)) (pcN := 16) jI_197_13 rfl rfl rfl rfl rfl rfl rfl ?_
  refine jT_xiload_n (v := (0, 0)) (pcN := 17) jI_197_16 rfl rfl rfl ?_
  refine jT_lald (x := 0) (a := 7) (j := 0) (fs := []) (X := [0, 0, 0, 0, 0, 0]) jI_197_17 rfl rfl rfl rfl ?_
  refine jT_eq (LN := [(3, (0, 0)), (0, (4, 0)), (1, (4, 1)), (2, (0, 7 * x2))]) (stN := [(1, 0), (0, 7 * x2), (4, 1)]) (hsN := jpA_216) rfl rfl rfl ?_
  refine jT_xl2i (pcN := 19) jI_197_18 rfl rfl ?_
  refine jT_iast (x := 0) (a := 1) (j := (7 * x2).toNat) (fs := []) (X := jS0) (by rfl) (by rfl) (by rfl) (jw_nn (by omega) (by omega)) (by rw [show List.length (jS0 : List Int) = 1613 from jS0_len]; omega) ?_
  refine jT_eq (LN := [(3, (0, 0)), (0, (4, 0)), (1, (4, 1)), (2, (0, 7 * x2))]) (stN := []) (hsN := [jzA_200, (100, [], ((jS0).set ((7 * x2).toNat) 0)), jgh, jgh, jgh, jgh, jgh, (101, [], [0, 0, 0, 0, 0, 0]), jgh, jgh, jgh, jgh, jgh, jgh, jgh, jgh]) rfl rfl rfl ?_
  refine jT_xiinc (x := 0) (z := 1) (LN := [(3, (0, 1)), (0, (4, 0)), (1, (4, 1)), (2, (0, 7 * x2))]) (pcN := 23) jI_197_20 rfl rfl (by decide) rfl rfl ?_
  refine jT_xgoto (pcN := 2) jI_197_23 rfl ?_
  refine jT_xiload_n (v := (0, 1)) (pcN := 3) jI_197_2 rfl rfl rfl ?_
  refine jT_xbipush (k := 6) (pcN := 5) jI_197_3 (by decide) rfl ?_
  refine jT_xicF (t := 26) (pcN := 8) jI_197_5 rfl (by decide +kernel) rfl rfl ?_
  refine jT_xaload_n (v := (4, 1)) (pcN := 9) jI_197_8 rfl rfl rfl ?_
  refine jT_xiload_n (v := (0, 7 * x2)) (pcN := 10) jI_197_9 rfl rfl rfl ?_
  refine jT_xiload_n (v := (0, 1)) (pcN := 11) jI_197_10 rfl rfl rfl ?_
  refine jT_xiadd (x := 7 * x2) (y := 1) (z := 7 * x2 + 1) (pcN := 12) jI_197_11 rfl (by omega) rfl ?_
  refine jT_xaload_n (v := (4, 0)) (pcN := 13) jI_197_12 rfl rfl rfl ?_
  refine jT_xgetf (a := 0) (t := 1) (ci := 14) (fi := 9) (c := jzA_200) (v := (4, 7)) (pcN := 16) jI_197_13 rfl rfl rfl rfl rfl rfl rfl ?_
  refine jT_xiload_n (v := (0, 1)) (pcN := 17) jI_197_16 rfl rfl rfl ?_
  refine jT_lald (x := 0) (a := 7) (j := 1) (fs := []) (X := [0, 0, 0, 0, 0, 0]) jI_197_17 rfl rfl rfl rfl ?_
  refine jT_eq (LN := [(3, (0, 1)), (0, (4, 0)), (1, (4, 1)), (2, (0, 7 * x2))]) (stN := [(1, 0), (0, 7 * x2 + 1), (4, 1)]) (hsN := [jzA_200, (100, [], ((jS0).set ((7 * x2).toNat) 0)), jgh, jgh, jgh, jgh, jgh, (101, [], [0, 0, 0, 0, 0, 0]), jgh, jgh, jgh, jgh, jgh, jgh, jgh, jgh]) rfl rfl rfl ?_
  refine jT_xl2i (pcN := 19) jI_197_18 rfl rfl ?_
  refine jT_iast (x := 0) (a := 1) (j := (7 * x2 + 1).toNat) (fs := []) (X := ((jS0).set ((7 * x2).toNat) 0)) (by rfl) (by rfl) (by rfl) (jw_nn (by omega) (by omega)) (by rw [show List.length (((jS0).set ((7 * x2).toNat) 0) : List Int) = 1613 from by rw [List.length_set]; exact (jS0_len)]; omega) ?_
  refine jT_eq (LN := [(3, (0, 1)), (0, (4, 0)), (1, (4, 1)), (2, (0, 7 * x2))]) (stN := []) (hsN := [jzA_200, (100, [], ((((jS0).set ((7 * x2).toNat) 0)).set ((7 * x2 + 1).toNat) 0)), jgh, jgh, jgh, jgh, jgh, (101, [], [0, 0, 0, 0, 0, 0]), jgh, jgh, jgh, jgh, jgh, jgh, jgh, jgh]) rfl rfl rfl ?_
  refine jT_xiinc (x := 1) (z := 2) (LN := [(3, (0, 2)), (0, (4, 0)), (1, (4, 1)), (2, (0, 7 * x2))]) (pcN := 23) jI_197_20 rfl rfl (by decide) rfl rfl ?_
  refine jT_xgoto (pcN := 2) jI_197_23 rfl ?_
  refine jT_xiload_n (v := (0, 2)) (pcN := 3) jI_197_2 rfl rfl rfl ?_
  refine jT_xbipush (k := 6) (pcN := 5) jI_197_3 (by decide) rfl ?_
  refine jT_xicF (t := 26) (pcN := 8) jI_197_5 rfl (by decide +kernel) rfl rfl ?_
  refine jT_xaload_n (v := (4, 1)) (pcN := 9) jI_197_8 rfl rfl rfl ?_
  refine jT_xiload_n (v := (0, 7 * x2)) (pcN := 10) jI_197_9 rfl rfl rfl ?_
  refine jT_xiload_n (v := (0, 2)) (pcN := 11) jI_197_10 rfl rfl rfl ?_
  refine jT_xiadd (x := 7 * x2) (y := 2) (z := 7 * x2 + 2) (pcN := 12) jI_197_11 rfl (by omega) rfl ?_
  refine jT_xaload_n (v := (4, 0)) (pcN := 13) jI_197_12 rfl rfl rfl ?_
  refine jT_xgetf (a := 0) (t := 1) (ci := 14) (fi := 9) (c := jzA_200) (v := (4, 7)) (pcN := 16) jI_197_13 rfl rfl rfl rfl rfl rfl rfl ?_
  refine jT_xiload_n (v := (0, 2)) (pcN := 17) jI_197_16 rfl rfl rfl ?_
  refine jT_lald (x := 0) (a := 7) (j := 2) (fs := []) (X := [0, 0, 0, 0, 0, 0]) jI_197_17 rfl rfl rfl rfl ?_
  refine jT_eq (LN := [(3, (0, 2)), (0, (4, 0)), (1, (4, 1)), (2, (0, 7 * x2))]) (stN := [(1, 0), (0, 7 * x2 + 2), (4, 1)]) (hsN := [jzA_200, (100, [], ((((jS0).set ((7 * x2).toNat) 0)).set ((7 * x2 + 1).toNat) 0)), jgh, jgh, jgh, jgh, jgh, (101, [], [0, 0, 0, 0, 0, 0]), jgh, jgh, jgh, jgh, jgh, jgh, jgh, jgh]) rfl rfl rfl ?_
  refine jT_xl2i (pcN := 19) jI_197_18 rfl rfl ?_
  refine jT_iast (x := 0) (a := 1) (j := (7 * x2 + 2).toNat) (fs := []) (X := ((((jS0).set ((7 * x2).toNat) 0)).set ((7 * x2 + 1).toNat) 0)) (by rfl) (by rfl) (by rfl) (jw_nn (by omega) (by omega)) (by rw [show List.length (((((jS0).set ((7 * x2).toNat) 0)).set ((7 * x2 + 1).toNat) 0) : List Int) = 1613 from by rw [List.length_set, List.length_set]; exact (jS0_len)]; omega) ?_
  refine jT_eq (LN := [(3, (0, 2)), (0, (4, 0)), (1, (4, 1)), (2, (0, 7 * x2))]) (stN := []) (hsN := [jzA_200, (100, [], ((((((jS0).set ((7 * x2).toNat) 0)).set ((7 * x2 + 1).toNat) 0)).set ((7 * x2 + 2).toNat) 0)), jgh, jgh, jgh, jgh, jgh, (101, [], [0, 0, 0, 0, 0, 0]), jgh, jgh, jgh, jgh, jgh, jgh, jgh, jgh]) rfl rfl rfl ?_
  refine jT_xiinc (x := 2) (z := 3) (LN := [(3, (0, 3)), (0, (4, 0)), (1, (4, 1)), (2, (0, 7 * x2))]) (pcN := 23) jI_197_20 rfl rfl (by decide) rfl rfl ?_
  refine jT_xgoto (pcN := 2) jI_197_23 rfl ?_
  refine jT_xiload_n (v := (0, 3)) (pcN := 3) jI_197_2 rfl rfl rfl ?_
  refine jT_xbipush (k := 6) (pcN := 5) jI_197_3 (by decide) rfl ?_
  refine jT_xicF (t := 26) (pcN := 8) jI_197_5 rfl (by decide +kernel) rfl rfl ?_
  refine jT_xaload_n (v := (4, 1)) (pcN := 9) jI_197_8 rfl rfl rfl ?_
  refine jT_xiload_n (v := (0, 7 * x2)) (pcN := 10) jI_197_9 rfl rfl rfl ?_
  refine jT_xiload_n (v := (0, 3)) (pcN := 11) jI_197_10 rfl rfl rfl ?_
  refine jT_xiadd (x := 7 * x2) (y := 3) (z := 7 * x2 + 3) (pcN := 12) jI_197_11 rfl (by omega) rfl ?_
  refine jT_xaload_n (v := (4, 0)) (pcN := 13) jI_197_12 rfl rfl rfl ?_
  refine jT_xgetf (a := 0) (t := 1) (ci := 14) (fi := 9) (c := jzA_200) (v := (4, 7)) (pcN := 16) jI_197_13 rfl rfl rfl rfl rfl rfl rfl ?_
  refine jT_xiload_n (v := (0, 3)) (pcN := 17) jI_197_16 rfl rfl rfl ?_
  refine jT_lald (x := 0) (a := 7) (j := 3) (fs := []) (X := [0, 0, 0, 0, 0, 0]) jI_197_17 rfl rfl rfl rfl ?_
  refine jT_eq (LN := [(3, (0, 3)), (0, (4, 0)), (1, (4, 1)), (2, (0, 7 * x2))]) (stN := [(1, 0), (0, 7 * x2 + 3), (4, 1)]) (hsN := [jzA_200, (100, [], ((((((jS0).set ((7 * x2).toNat) 0)).set ((7 * x2 + 1).toNat) 0)).set ((7 * x2 + 2).toNat) 0)), jgh, jgh, jgh, jgh, jgh, (101, [], [0, 0, 0, 0, 0, 0]), jgh, jgh, jgh, jgh, jgh, jgh, jgh, jgh]) rfl rfl rfl ?_
  refine jT_xl2i (pcN := 19) jI_197_18 rfl rfl ?_
  refine jT_iast (x := 0) (a := 1) (j := (7 * x2 + 3).toNat) (fs := []) (X := ((((((jS0).set ((7 * x2).toNat) 0)).set ((7 * x2 + 1).toNat) 0)).set ((7 * x2 + 2).toNat) 0)) (by rfl) (by rfl) (by rfl) (jw_nn (by omega) (by omega)) (by rw [show List.length (((((((jS0).set ((7 * x2).toNat) 0)).set ((7 * x2 + 1).toNat) 0)).set ((7 * x2 + 2).toNat) 0) : List Int) = 1613 from by rw [List.length_set, List.length_set, List.length_set]; exact (jS0_len)]; omega) ?_
  refine jT_eq (LN := [(3, (0, 3)), (0, (4, 0)), (1, (4, 1)), (2, (0, 7 * x2))]) (stN := []) (hsN := [jzA_200, (100, [], ((((((((jS0).set ((7 * x2).toNat) 0)).set ((7 * x2 + 1).toNat) 0)).set ((7 * x2 + 2).toNat) 0)).set ((7 * x2 + 3).toNat) 0)), jgh, jgh, jgh, jgh, jgh, (101, [], [0, 0, 0, 0, 0, 0]), jgh, jgh, jgh, jgh, jgh, jgh, jgh, jgh]) rfl rfl rfl ?_
  refine jT_xiinc (x := 3) (z := 4) (LN := [(3, (0, 4)), (0, (4, 0)), (1, (4, 1)), (2, (0, 7 * x2))]) (pcN := 23) jI_197_20 rfl rfl (by decide) rfl rfl ?_
  refine jT_xgoto (pcN := 2) jI_197_23 rfl ?_
  refine jT_xiload_n (v := (0, 4)) (pcN := 3) jI_197_2 rfl rfl rfl ?_
  refine jT_xbipush (k := 6) (pcN := 5) jI_197_3 (by decide) rfl ?_
  refine jT_xicF (t := 26) (pcN := 8) jI_197_5 rfl (by decide +kernel) rfl rfl ?_
  refine jT_xaload_n (v := (4, 1)) (pcN := 9) jI_197_8 rfl rfl rfl ?_
  refine jT_xiload_n (v := (0, 7 * x2)) (pcN := 10) jI_197_9 rfl rfl rfl ?_
  refine jT_xiload_n (v := (0, 4)) (pcN := 11) jI_197_10 rfl rfl rfl ?_
  refine jT_xiadd (x := 7 * x2) (y := 4) (z := 7 * x2 + 4) (pcN := 12) jI_197_11 rfl (by omega) rfl ?_
  refine jT_xaload_n (v := (4, 0)) (pcN := 13) jI_197_12 rfl rfl rfl ?_
  refine jT_xgetf (a := 0) (t := 1) (ci := 14) (fi := 9) (c := jzA_200) (v := (4, 7)) (pcN := 16) jI_197_13 rfl rfl rfl rfl rfl rfl rfl ?_
  refine jT_xiload_n (v := (0, 4)) (pcN := 17) jI_197_16 rfl rfl rfl ?_
  refine jT_lald (x := 0) (a := 7) (j := 4) (fs := []) (X := [0, 0, 0, 0, 0, 0]) jI_197_17 rfl rfl rfl rfl ?_
  refine jT_eq (LN := [(3, (0, 4)), (0, (4, 0)), (1, (4, 1)), (2, (0, 7 * x2))]) (stN := [(1, 0), (0, 7 * x2 + 4), (4, 1)]) (hsN := [jzA_200, (100, [], ((((((((jS0).set ((7 * x2).toNat) 0)).set ((7 * x2 + 1).toNat) 0)).set ((7 * x2 + 2).toNat) 0)).set ((7 * x2 + 3).toNat) 0)), jgh, jgh, jgh, jgh, jgh, (101, [], [0, 0, 0, 0, 0, 0]), jgh, jgh, jgh, jgh, jgh, jgh, jgh, jgh]) rfl rfl rfl ?_
  refine jT_xl2i (pcN := 19) jI_197_18 rfl rfl ?_
  refine jT_iast (x := 0) (a := 1) (j := (7 * x2 + 4).toNat) (fs := []) (X := ((((((((jS0).set ((7 * x2).toNat) 0)).set ((7 * x2 + 1).toNat) 0)).set ((7 * x2 + 2).toNat) 0)).set ((7 * x2 + 3).toNat) 0)) (by rfl) (by rfl) (by rfl) (jw_nn (by omega) (by omega)) (by rw [show List.length (((((((((jS0).set ((7 * x2).toNat) 0)).set ((7 * x2 + 1).toNat) 0)).set ((7 * x2 + 2).toNat) 0)).set ((7 * x2 + 3).toNat) 0) : List Int) = 1613 from by rw [List.length_set, List.length_set, List.length_set, List.length_set]; exact (jS0_len)]; omega) ?_
  refine jT_eq (LN := [(3, (0, 4)), (0, (4, 0)), (1, (4, 1)), (2, (0, 7 * x2))]) (stN := []) (hsN := [jzA_200, (100, [], ((((((((((jS0).set ((7 * x2).toNat) 0)).set ((7 * x2 + 1).toNat) 0)).set ((7 * x2 + 2).toNat) 0)).set ((7 * x2 + 3).toNat) 0)).set ((7 * x2 + 4).toNat) 0)), jgh, jgh, jgh, jgh, jgh, (101, [], [0, 0, 0, 0, 0, 0]), jgh, jgh, jgh, jgh, jgh, jgh, jgh, jgh]) rfl rfl rfl ?_
  refine jT_xiinc (x := 4) (z := 5) (LN := [(3, (0, 5)), (0, (4, 0)), (1, (4, 1)), (2, (0, 7 * x2))]) (pcN := 23) jI_197_20 rfl rfl (by decide) rfl rfl ?_
  refine jT_xgoto (pcN := 2) jI_197_23 rfl ?_
  refine jT_xiload_n (v := (0, 5)) (pcN := 3) jI_197_2 rfl rfl rfl ?_
  refine jT_xbipush (k := 6) (pcN := 5) jI_197_3 (by decide) rfl ?_
  refine jT_xicF (t := 26) (pcN := 8) jI_197_5 rfl (by decide +kernel) rfl rfl ?_
  refine jT_xaload_n (v := (4, 1)) (pcN := 9) jI_197_8 rfl rfl rfl ?_
  refine jT_xiload_n (v := (0, 7 * x2)) (pcN := 10) jI_197_9 rfl rfl rfl ?_
  refine jT_xiload_n (v := (0, 5)) (pcN := 11) jI_197_10 rfl rfl rfl ?_
  refine jT_xiadd (x := 7 * x2) (y := 5) (z := 7 * x2 + 5) (pcN := 12) jI_197_11 rfl (by omega) rfl ?_
  refine jT_xaload_n (v := (4, 0)) (pcN := 13) jI_197_12 rfl rfl rfl ?_
  refine jT_xgetf (a := 0) (t := 1) (ci := 14) (fi := 9) (c := jzA_200) (v := (4, 7)) (pcN := 16) jI_197_13 rfl rfl rfl rfl rfl rfl rfl ?_
  refine jT_xiload_n (v := (0, 5)) (pcN := 17) jI_197_16 rfl rfl rfl ?_
  refine jT_lald (x := 0) (a := 7) (j := 5) (fs := []) (X := [0, 0, 0, 0, 0, 0]) jI_197_17 rfl rfl rfl rfl ?_
  refine jT_eq (LN := [(3, (0, 5)), (0, (4, 0)), (1, (4, 1)), (2, (0, 7 * x2))]) (stN := [(1, 0), (0, 7 * x2 + 5), (4, 1)]) (hsN := [jzA_200, (100, [], ((((((((((jS0).set ((7 * x2).toNat) 0)).set ((7 * x2 + 1).toNat) 0)).set ((7 * x2 + 2).toNat) 0)).set ((7 * x2 + 3).toNat) 0)).set ((7 * x2 + 4).toNat) 0)), jgh, jgh, jgh, jgh, jgh, (101, [], [0, 0, 0, 0, 0, 0]), jgh, jgh, jgh, jgh, jgh, jgh, jgh, jgh]) rfl rfl rfl ?_
  refine jT_xl2i (pcN := 19) jI_197_18 rfl rfl ?_
  refine jT_iast (x := 0) (a := 1) (j := (7 * x2 + 5).toNat) (fs := []) (X := ((((((((((jS0).set ((7 * x2).toNat) 0)).set ((7 * x2 + 1).toNat) 0)).set ((7 * x2 + 2).toNat) 0)).set ((7 * x2 + 3).toNat) 0)).set ((7 * x2 + 4).toNat) 0)) (by rfl) (by rfl) (by rfl) (jw_nn (by omega) (by omega)) (by rw [show List.length (((((((((((jS0).set ((7 * x2).toNat) 0)).set ((7 * x2 + 1).toNat) 0)).set ((7 * x2 + 2).toNat) 0)).set ((7 * x2 + 3).toNat) 0)).set ((7 * x2 + 4).toNat) 0) : List Int) = 1613 from by rw [List.length_set, List.length_set, List.length_set, List.length_set, List.length_set]; exact (jS0_len)]; omega) ?_
  refine jT_eq (LN := [(3, (0, 5)), (0, (4, 0)), (1, (4, 1)), (2, (0, 7 * x2))]) (stN := []) (hsN := [jzA_200, (100, [], ((((((((((((jS0).set ((7 * x2).toNat) 0)).set ((7 * x2 + 1).toNat) 0)).set ((7 * x2 + 2).toNat) 0)).set ((7 * x2 + 3).toNat) 0)).set ((7 * x2 + 4).toNat) 0)).set ((7 * x2 + 5).toNat) 0)), jgh, jgh, jgh, jgh, jgh, (101, [], [0, 0, 0, 0, 0, 0]), jgh, jgh, jgh, jgh, jgh, jgh, jgh, jgh]) rfl rfl rfl ?_
  refine jT_xiinc (x := 5) (z := 6) (LN := [(3, (0, 6)), (0, (4, 0)), (1, (4, 1)), (2, (0, 7 * x2))]) (pcN := 23) jI_197_20 rfl rfl (by decide) rfl rfl ?_
  refine jT_xgoto (pcN := 2) jI_197_23 rfl ?_
  refine jT_xiload_n (v := (0, 6)) (pcN := 3) jI_197_2 rfl rfl rfl ?_
  refine jT_xbipush (k := 6) (pcN := 5) jI_197_3 (by decide) rfl ?_
  refine jT_xicT (pcN := 26) jI_197_5 rfl (by decide +kernel) rfl ?_
  refine jT_xaload_n (v := (4, 1)) (pcN := 27) jI_197_26 rfl rfl rfl ?_
  refine jT_xiload_n (v := (0, 7 * x2)) (pcN := 28) jI_197_27 rfl rfl rfl ?_
  refine jT_xbipush (k := 6) (pcN := 30) jI_197_28 (by decide) rfl ?_
  refine jT_xiadd (x := 7 * x2) (y := 6) (z := 7 * x2 + 6) (pcN := 31) jI_197_30 rfl (by omega) rfl ?_
  refine jT_xaload_n (v := (4, 0)) (pcN := 32) jI_197_31 rfl rfl rfl ?_
  refine jT_xgetf (a := 0) (t := 1) (ci := 14) (fi := 10) (c := jzA_200) (v := (1, 1)) (pcN := 35) jI_197_32 rfl rfl rfl rfl rfl rfl rfl ?_
  refine jT_xl2i (pcN := 36) jI_197_35 rfl rfl ?_
  refine jT_iast (x := 1) (a := 1) (j := (7 * x2 + 6).toNat) (fs := []) (X := ((((((((((((jS0).set ((7 * x2).toNat) 0)).set ((7 * x2 + 1).toNat) 0)).set ((7 * x2 + 2).toNat) 0)).set ((7 * x2 + 3).toNat) 0)).set ((7 * x2 + 4).toNat) 0)).set ((7 * x2 + 5).toNat) 0)) (by rfl) (by rfl) (by rfl) (jw_nn (by omega) (by omega)) (by rw [show List.length (((((((((((((jS0).set ((7 * x2).toNat) 0)).set ((7 * x2 + 1).toNat) 0)).set ((7 * x2 + 2).toNat) 0)).set ((7 * x2 + 3).toNat) 0)).set ((7 * x2 + 4).toNat) 0)).set ((7 * x2 + 5).toNat) 0) : List Int) = 1613 from by rw [List.length_set, List.length_set, List.length_set, List.length_set, List.length_set, List.length_set]; exact (jS0_len)]; omega) ?_
  refine jT_eq (LN := [(3, (0, 6)), (0, (4, 0)), (1, (4, 1)), (2, (0, 7 * x2))]) (stN := []) (hsN := [jzA_200, (100, [], ((((((((((((((jS0).set ((7 * x2).toNat) 0)).set ((7 * x2 + 1).toNat) 0)).set ((7 * x2 + 2).toNat) 0)).set ((7 * x2 + 3).toNat) 0)).set ((7 * x2 + 4).toNat) 0)).set ((7 * x2 + 5).toNat) 0)).set ((7 * x2 + 6).toNat) 1)), jgh, jgh, jgh, jgh, jgh, (101, [], [0, 0, 0, 0, 0, 0]), jgh, jgh, jgh, jgh, jgh, jgh, jgh, jgh]) rfl rfl rfl ?_
  exact jT_ret rfl (by decide) (by show 16 ≤ 16; decide) (by omega) (by omega) ⟨rfl, rfl, rfl⟩
theorem jA_196_682 {xs : List Int} {d : Nat} {x2 : Int} (h_x2 : 0 ≤ x2 ∧ x2 ≤ 7) : jT xs (d + 1) 196 16 0 [(0, (4, 0)), (1, (0, x2))] [] jpA_216 0 0 (fun k v hsN => k = 0 ∧ v = (0, 1) ∧ hsN = [jzA_200, (100, [], ((((((((((((((jS0).set ((7 * x2).toNat) 0)).set ((7 * x2 + 1).toNat) 0)).set ((7 * x2 + 2).toNat) 0)).set ((7 * x2 + 3).toNat) 0)).set ((7 * x2 + 4).toNat) 0)).set ((7 * x2 + 5).toNat) 0)).set ((7 * x2 + 6).toNat) 1)), jgh, jgh, jgh, jgh, jgh, (101, [], [0, 0, 0, 0, 0, 0]), jgh, jgh, jgh, jgh, jgh, jgh, jgh, jgh]) := by
  refine jT_xaload_n (v := (4, 0)) (pcN := 1) jI_196_0 rfl rfl rfl ?_
  refine jT_xaload_n (v := (4, 0)) (pcN := 2) jI_196_1 rfl rfl rfl ?_
  refine jT_xgetf (a := 0) (t := 1) (ci := 14) (fi := 1) (c := jzA_200) (v := (4, 1)) (pcN := 5) jI_196_2 rfl rfl rfl rfl rfl rfl rfl ?_
  refine jT_xbipush (k := 7) (pcN := 7) jI_196_5 (by decide) rfl ?_
  refine jT_xiload_n (v := (0, x2)) (pcN := 8) jI_196_7 rfl rfl rfl ?_
  refine jT_ximul (x := 7) (y := x2) (z := 7 * x2) (pcN := 9) jI_196_8 rfl (rfl) rfl ?_
  refine jT_fB [0, 1, 2, 3, 4, 5, 6, 7, 8, 9, 10, 11, 12, 13, 14, 15] 16 (y := 197) (pcN := 12) (dC := 0) (bc1 := 0) (bc2 := 0) (c1 := 0) (c2 := 0) (as := [(4, 0), (4, 1), (0, 7 * x2)]) (asC := [(4, 0), (4, 1), (0, 7 * x2)]) (LN := [(0, (4, 0)), (1, (0, x2))]) (stN := []) (hsC := jpA_216) (hsD := [jzA_200, (100, [], ((((((((((((((jS0).set ((7 * x2).toNat) 0)).set ((7 * x2 + 1).toNat) 0)).set ((7 * x2 + 2).toNat) 0)).set ((7 * x2 + 3).toNat) 0)).set ((7 * x2 + 4).toNat) 0)).set ((7 * x2 + 5).toNat) 0)).set ((7 * x2 + 6).toNat) 1)), jgh, jgh, jgh, jgh, jgh, (101, [], [0, 0, 0, 0, 0, 0]), jgh, jgh, jgh, jgh, jgh, jgh, jgh, jgh]) (v := (9, 0)) (st2 := []) (hs2 := [jzA_200, (100, [], ((((((((((((((jS0).set ((7 * x2).toNat) 0)).set ((7 * x2 + 1).toNat) 0)).set ((7 * x2 + 2).toNat) 0)).set ((7 * x2 + 3).toNat) 0)).set ((7 * x2 + 4).toNat) 0)).set ((7 * x2 + 5).toNat) 0)).set ((7 * x2 + 6).toNat) 1)), jgh, jgh, jgh, jgh, jgh, (101, [], [0, 0, 0, 0, 0, 0]), jgh, jgh, jgh, jgh, jgh, jgh, jgh, jgh]) (jA_197_681 (d := 0) (by omega)) (by rfl) (by rfl) (by decide +kernel) (by rfl) (by rfl) (by omega) (by omega) (by omega) (by omega) rfl rfl ?_
  refine jT_xaload_n (v := (4, 0)) (pcN := 13) jI_196_12 rfl rfl rfl ?_
  refine jT_xgetf (a := 0) (t := 1) (ci := 14) (fi := 10) (c := jzA_200) (v := (1, 1)) (pcN := 16) jI_196_13 rfl rfl rfl rfl rfl rfl rfl ?_
  refine jT_xl2i (pcN := 17) jI_196_16 rfl rfl ?_
  exact jT_ret rfl (by decide) (by show 16 ≤ 16; decide) (by omega) (by omega) ⟨rfl, rfl, rfl⟩
def jpA_2716 : List JC := [jzA_1334, (101, [], [1, 0, 0, 0, 0, 0]), jgh, jgh, jgh, jgh, jgh, (130, [], [17, 18, 19, 20, 21, 22]), jgh, jgh, jgh, jgh, jgh, jgh, jgh, jgh, jgh, (100, [], (jenc (jlg 0))), jgh, jgh, jgh, jgh, jgh, (100, [], List.replicate 56 0)]
def jpA_2717 : List JC := [jzA_1334, (101, [], [1, 0, 0, 0, 0, 0]), jgh, jgh, jgh, jgh, jgh, (130, [], [17, 18, 19, 20, 21, 22]), jgh, jgh, jgh, jgh, jgh, jgh, jgh, jgh, jgh, (100, [], (jenc (jlg 0))), jgh, jgh, jgh, jgh, jgh, (100, [], List.replicate 56 0), (100, [], (jenc 1))]
def jpA_2718 : List JC := [jzA_1334, (101, [], [1, 0, 0, 0, 0, 0]), jgh, jgh, jgh, jgh, jgh, (130, [], [17, 18, 19, 20, 21, 22]), jgh, jgh, jgh, jgh, jgh, jgh, jgh, jgh, jgh, (100, [], (jenc (jlg 0))), jgh, jgh, jgh, jgh, jgh, (100, [], List.replicate 56 0), (100, [], (jenc 1)), (100, [], (jenc (1 * (jlg 0))))]
def jpA_2719 : List JC := [jzA_1334, (101, [], [1, 0, 0, 0, 0, 0]), jgh, jgh, jgh, jgh, jgh, (130, [], [17, 18, 19, 20, 21, 22]), jgh, jgh, jgh, jgh, jgh, jgh, jgh, jgh, jgh, (100, [], (jenc (jlg 0))), jgh, jgh, jgh, jgh, jgh, (100, [], (jenc 0)), (100, [], (jenc 1)), (100, [], (jenc (1 * (jlg 0))))]
def jpA_2720 : List JC := [jzA_1334, (101, [], [1, 0, 0, 0, 0, 0]), jgh, jgh, jgh, jgh, jgh, (130, [], [17, 18, 19, 20, 21, 22]), jgh, jgh, jgh, jgh, jgh, jgh, jgh, jgh, jgh, (100, [], (jenc (jlg 0))), jgh, jgh, jgh, jgh, jgh]
theorem jA_214_683 {xs : List Int} {d : Nat} : jT xs (d + 2) 214 23 0 [(0, (4, 0)), (1, (4, 1))] [] jpA_2720 3 168 (fun k v hsN => k = 0 ∧ v = (4, 25) ∧ hsN = jpA_2720 ++ [(100, [], (jenc 0)), (100, [], (jenc 1)), (100, [], (jenc (1 * (jlg 0))))]) := by
  refine jT_advK 18 (pcN := 25) (LN := [(3, (0, 0)), (2, (4, 23)), (0, (4, 0)), (1, (4, 1))]) (stN := [(1, 1), (4, 23)]) (hsN := jpA_2716) (c1 := 1) (s1 := 56) (c2 := 2) (s2 := 112) (by decide +kernel) ?_ (by omega) (by omega)
  refine jT_fA [] 24 (y := 178) (pcN := 28) (dC := 1) (bc1 := 1) (bc2 := 56) (c1 := 1) (c2 := 56) (as := [(1, 1)]) (asC := [(1, 1)]) (LN := [(3, (0, 0)), (2, (4, 23)), (0, (4, 0)), (1, (4, 1))]) (stN := [(4, 23)]) (hsC := []) (ex := [(100, [], (jenc 1))]) (v := (4, 0)) (st2 := [(4, 24), (4, 23)]) (hs2 := jpA_2717) (jT_big (d := 0) (v := 1) (by omega) (by omega)) (by rfl) (by rfl) (by decide +kernel) (by rfl) (by rfl) (by omega) (by omega) (by omega) (by omega) rfl (by decide +kernel) ?_
  refine jT_advK 4 (pcN := 34) (LN := [(3, (0, 0)), (2, (4, 23)), (0, (4, 0)), (1, (4, 1))]) (stN := [(4, 17), (4, 24), (4, 23)]) (hsN := jpA_2717) (c1 := 0) (s1 := 0) (c2 := 1) (s2 := 56) (by decide +kernel) ?_ (by omega) (by omega)
  refine jT_fA [24, 17] 25 (y := 179) (pcN := 37) (dC := 1) (bc1 := 1) (bc2 := 56) (c1 := 0) (c2 := 0) (as := [(4, 24), (4, 17)]) (asC := [(4, 0), (4, 1)]) (LN := [(3, (0, 0)), (2, (4, 23)), (0, (4, 0)), (1, (4, 1))]) (stN := [(4, 23)]) (hsC := [(100, [], (jenc 1)), (100, [], (jenc (jlg 0)))]) (ex := [(100, [], (jenc (1 * (jlg 0))))]) (v := (4, 2)) (st2 := [(4, 25), (4, 23)]) (hs2 := jpA_2718) (jT_product (d := 0) (a := 1) (b := jlg 0) (by decide +kernel) (by decide +kernel)) (by rfl) (by rfl) (by decide +kernel) (by rfl) (by rfl) (by omega) (by omega) (by omega) (by omega) rfl (by decide +kernel) ?_
  refine jT_eq (LN := [(3, (0, 0)), (2, (4, 23)), (0, (4, 0)), (1, (4, 1))]) (stN := [(4, 25), (4, 23)]) (hsN := [jzA_1334, (101, [], [1, 0, 0, 0, 0, 0]), jgh, jgh, jgh, jgh, jgh, (130, [], [17, 18, 19, 20, 21, 22]), jgh, jgh, jgh, jgh, jgh, jgh, jgh, jgh, jgh, (100, [], (jenc (jlg 0))), jgh, jgh, jgh, jgh, jgh, (100, [], (jenc 0)), (100, [], (jenc 1)), (100, [], (jenc (1 * (jlg 0))))]) rfl rfl (by show [jzA_1334, (101, [], [1, 0, 0, 0, 0, 0]), jgh, jgh, jgh, jgh, jgh, (130, [], [17, 18, 19, 20, 21, 22]), jgh, jgh, jgh, jgh, jgh, jgh, jgh, jgh, jgh, (100, [], (jenc (jlg 0))), jgh, jgh, jgh, jgh, jgh, (100, [], List.replicate 56 0), (100, [], (jenc 1)), (100, [], (jenc (1 * (jlg 0))))] = _; rw [jrep56e]) ?_
  refine jT_fR [23, 25] 26 (y := 181) (pcN := 40) (dC := 0) (bc1 := 0) (bc2 := 0) (c1 := 0) (c2 := 0) (as := [(4, 23), (4, 25)]) (asC := [(4, 0), (4, 1)]) (LN := [(3, (0, 0)), (2, (4, 23)), (0, (4, 0)), (1, (4, 1))]) (stN := []) (hsC := [(100, [], (jenc 0)), (100, [], (jenc (1 * (jlg 0))))]) (v := (4, 1)) (st2 := [(4, 25)]) (jT_added_0l (d := 0) (b := 1 * (jlg 0))) (by rfl) (by rfl) (by decide +kernel) (by rfl) (by rfl) (by omega) (by omega) (by omega) (by omega) rfl ?_
  refine jT_advK 62 (pcN := 48) (LN := [(3, (0, 6)), (2, (4, 25)), (0, (4, 0)), (1, (4, 1))]) (stN := [(4, 25)]) (hsN := jpA_2719) (c1 := 0) (s1 := 0) (c2 := 0) (s2 := 0) (by decide +kernel) ?_ (by omega) (by omega)
  exact jT_ret rfl (by decide) (by show 23 ≤ 26; decide) (by omega) (by omega) ⟨rfl, rfl, rfl⟩
theorem jA_213_684 {xs : List Int} {d : Nat} : jT xs (d + 3) 213 23 0 [(0, (4, 0)), (1, (4, 1))] [] jpA_2720 3 168 (fun k v hsN => k = 0 ∧ v = (0, 1) ∧ hsN = jpA_2720 ++ [(100, [], (jenc 0)), (100, [], (jenc 1)), (100, [], (jenc (1 * (jlg 0))))]) := by
  refine jT_advK 1 (pcN := 1) (LN := [(0, (4, 0)), (1, (4, 1))]) (stN := [(4, 1)]) (hsN := jpA_2720) (c1 := 0) (s1 := 0) (c2 := 3) (s2 := 168) (by decide +kernel) ?_ (by omega) (by omega)
  refine jT_fR [1] 23 (y := 200) (pcN := 4) (dC := 0) (bc1 := 0) (bc2 := 0) (c1 := 3) (c2 := 168) (as := [(4, 1)]) (asC := [(4, 0)]) (LN := [(0, (4, 0)), (1, (4, 1))]) (stN := []) (hsC := [(101, [], [1, 0, 0, 0, 0, 0])]) (v := (0, 0)) (st2 := [(0, 0)]) (jA_200_186 (d := 0)) (by rfl) (by rfl) (by decide +kernel) (by rfl) (by rfl) (by omega) (by omega) (by omega) (by omega) rfl ?_
  refine jT_advK 3 (pcN := 13) (LN := [(0, (4, 0)), (1, (4, 1))]) (stN := [(4, 1), (4, 0)]) (hsN := jpA_2720) (c1 := 0) (s1 := 0) (c2 := 3) (s2 := 168) (by decide +kernel) ?_ (by omega) (by omega)
  refine jT_fA [0, 1, 2, 3, 4, 5, 6, 7, 8, 9, 10, 11, 12, 13, 14, 15, 16, 17, 18, 19, 20, 21, 22] 23 (y := 214) (pcN := 16) (dC := 2) (bc1 := 3) (bc2 := 168) (c1 := 0) (c2 := 0) (as := [(4, 0), (4, 1)]) (asC := [(4, 0), (4, 1)]) (LN := [(0, (4, 0)), (1, (4, 1))]) (stN := []) (hsC := jpA_2720) (ex := [(100, [], (jenc 0)), (100, [], (jenc 1)), (100, [], (jenc (1 * (jlg 0))))]) (v := (4, 25)) (st2 := [(4, 25)]) (hs2 := jpA_2719) (jA_214_683 (d := 0)) (by rfl) (by rfl) (by decide +kernel) (by rfl) (by rfl) (by omega) (by omega) (by omega) (by omega) rfl (by decide +kernel) ?_
  refine jT_advK 1 (pcN := 17) (LN := [(0, (4, 0)), (1, (4, 1))]) (stN := [(0, 0), (4, 25)]) (hsN := jpA_2719) (c1 := 0) (s1 := 0) (c2 := 0) (s2 := 0) (by decide +kernel) ?_ (by omega) (by omega)
  refine jT_iald (x := 1) (a := 25) (j := 0) (fs := []) (X := (jenc (1 * (jlg 0)))) (by rfl) (by rfl) (by rfl) (by rfl) (jenc_sg (by decide +kernel)) ?_
  refine jT_eq (LN := [(0, (4, 0)), (1, (4, 1))]) (stN := [(0, 1)]) (hsN := jpA_2719) rfl rfl rfl ?_
  exact jT_ret rfl (by decide) (by show 23 ≤ 26; decide) (by omega) (by omega) ⟨rfl, rfl, rfl⟩
def jpA_2721 : List JC := [jzA_1334, (101, [], [1, 0, 0, 0, 0, 0]), jgh, jgh, jgh, jgh, jgh, (130, [], [17, 18, 19, 20, 21, 22]), jgh, jgh, jgh, jgh, jgh, jgh, jgh, jgh, jgh, (100, [], (jenc (jlg 0))), jgh, jgh, jgh, jgh, jgh, (101, [], [1, 0, 0, 0, 0, 0])]
def jpA_2722 : List JC := [jzA_1334, (101, [], [1, 0, 0, 0, 0, 0]), jgh, jgh, jgh, jgh, jgh, (130, [], [17, 18, 19, 20, 21, 22]), jgh, jgh, jgh, jgh, jgh, jgh, jgh, jgh, jgh, (100, [], (jenc (jlg 0))), jgh, jgh, jgh, jgh, jgh, (101, [], [1, 0, 0, 0, 0, 0]), (100, [], (jenc 0)), (100, [], (jenc 1)), (100, [], (jenc (1 * (jlg 0))))]
theorem jA_212_685 {xs : List Int} {d : Nat} : jT xs (d + 4) 212 23 0 [(0, (4, 0)), (1, (4, 1)), (2, (1, 0))] [] jpA_2720 4 174 (fun k v hsN => k = 0 ∧ v = (0, 1) ∧ hsN = jpA_2720 ++ jpA_832) := by
  refine jT_advK 18 (pcN := 27) (LN := [(4, (4, 23)), (0, (4, 0)), (1, (4, 1)), (2, (1, 0))]) (stN := [(4, 23), (4, 0)]) (hsN := jpA_2721) (c1 := 1) (s1 := 6) (c2 := 3) (s2 := 168) (by decide +kernel) ?_ (by omega) (by omega)
  refine jT_fA [0, 23, 2, 3, 4, 5, 6, 7, 8, 9, 10, 11, 12, 13, 14, 15, 16, 17, 18, 19, 20, 21, 22] 24 (y := 213) (pcN := 30) (dC := 3) (bc1 := 3) (bc2 := 168) (c1 := 0) (c2 := 0) (as := [(4, 0), (4, 23)]) (asC := [(4, 0), (4, 1)]) (LN := [(4, (4, 23)), (0, (4, 0)), (1, (4, 1)), (2, (1, 0))]) (stN := []) (hsC := jpA_2720) (ex := [(100, [], (jenc 0)), (100, [], (jenc 1)), (100, [], (jenc (1 * (jlg 0))))]) (v := (0, 1)) (st2 := [(0, 1)]) (hs2 := jpA_2722) (jA_213_684 (d := 0)) (by rfl) (by rfl) (by decide +kernel) (by rfl) (by rfl) (by omega) (by omega) (by omega) (by omega) rfl (by decide +kernel) ?_
  exact jT_ret rfl (by decide) (by show 23 ≤ 27; decide) (by omega) (by omega) ⟨rfl, rfl, rfl⟩
def jpA_2723 : List JC := [jzA_1334, (101, [], [(-1), 0, 0, 0, 0, 0]), jgh, jgh, jgh, jgh, jgh, (130, [], [17, 18, 19, 20, 21, 22]), jgh, jgh, jgh, jgh, jgh, jgh, jgh, jgh, jgh, (100, [], (jenc (jlg 0))), jgh, jgh, jgh, jgh, jgh, (100, [], List.replicate 56 0)]
def jpA_2724 : List JC := [jzA_1334, (101, [], [(-1), 0, 0, 0, 0, 0]), jgh, jgh, jgh, jgh, jgh, (130, [], [17, 18, 19, 20, 21, 22]), jgh, jgh, jgh, jgh, jgh, jgh, jgh, jgh, jgh, (100, [], (jenc (jlg 0))), jgh, jgh, jgh, jgh, jgh, (100, [], List.replicate 56 0), (100, [], (jenc (-1)))]
def jpA_2725 : List JC := [jzA_1334, (101, [], [(-1), 0, 0, 0, 0, 0]), jgh, jgh, jgh, jgh, jgh, (130, [], [17, 18, 19, 20, 21, 22]), jgh, jgh, jgh, jgh, jgh, jgh, jgh, jgh, jgh, (100, [], (jenc (jlg 0))), jgh, jgh, jgh, jgh, jgh, (100, [], List.replicate 56 0), (100, [], (jenc (-1))), (100, [], (jenc ((-1) * (jlg 0))))]
def jpA_2726 : List JC := [jzA_1334, (101, [], [(-1), 0, 0, 0, 0, 0]), jgh, jgh, jgh, jgh, jgh, (130, [], [17, 18, 19, 20, 21, 22]), jgh, jgh, jgh, jgh, jgh, jgh, jgh, jgh, jgh, (100, [], (jenc (jlg 0))), jgh, jgh, jgh, jgh, jgh, (100, [], (jenc 0)), (100, [], (jenc (-1))), (100, [], (jenc ((-1) * (jlg 0))))]
def jpA_2727 : List JC := [jzA_1334, (101, [], [(-1), 0, 0, 0, 0, 0]), jgh, jgh, jgh, jgh, jgh, (130, [], [17, 18, 19, 20, 21, 22]), jgh, jgh, jgh, jgh, jgh, jgh, jgh, jgh, jgh, (100, [], (jenc (jlg 0))), jgh, jgh, jgh, jgh, jgh]
theorem jA_214_686 {xs : List Int} {d : Nat} : jT xs (d + 2) 214 23 0 [(0, (4, 0)), (1, (4, 1))] [] jpA_2727 3 168 (fun k v hsN => k = 0 ∧ v = (4, 25) ∧ hsN = jpA_2727 ++ [(100, [], (jenc 0)), (100, [], (jenc (-1))), (100, [], (jenc ((-1) * (jlg 0))))]) := by
  refine jT_advK 18 (pcN := 25) (LN := [(3, (0, 0)), (2, (4, 23)), (0, (4, 0)), (1, (4, 1))]) (stN := [(1, (-1)), (4, 23)]) (hsN := jpA_2723) (c1 := 1) (s1 := 56) (c2 := 2) (s2 := 112) (by decide +kernel) ?_ (by omega) (by omega)
  refine jT_fA [] 24 (y := 178) (pcN := 28) (dC := 1) (bc1 := 1) (bc2 := 56) (c1 := 1) (c2 := 56) (as := [(1, (-1))]) (asC := [(1, (-1))]) (LN := [(3, (0, 0)), (2, (4, 23)), (0, (4, 0)), (1, (4, 1))]) (stN := [(4, 23)]) (hsC := []) (ex := [(100, [], (jenc (-1)))]) (v := (4, 0)) (st2 := [(4, 24), (4, 23)]) (hs2 := jpA_2724) (jT_big (d := 0) (v := (-1)) (by omega) (by omega)) (by rfl) (by rfl) (by decide +kernel) (by rfl) (by rfl) (by omega) (by omega) (by omega) (by omega) rfl (by decide +kernel) ?_
  refine jT_advK 4 (pcN := 34) (LN := [(3, (0, 0)), (2, (4, 23)), (0, (4, 0)), (1, (4, 1))]) (stN := [(4, 17), (4, 24), (4, 23)]) (hsN := jpA_2724) (c1 := 0) (s1 := 0) (c2 := 1) (s2 := 56) (by decide +kernel) ?_ (by omega) (by omega)
  refine jT_fA [24, 17] 25 (y := 179) (pcN := 37) (dC := 1) (bc1 := 1) (bc2 := 56) (c1 := 0) (c2 := 0) (as := [(4, 24), (4, 17)]) (asC := [(4, 0), (4, 1)]) (LN := [(3, (0, 0)), (2, (4, 23)), (0, (4, 0)), (1, (4, 1))]) (stN := [(4, 23)]) (hsC := [(100, [], (jenc (-1))), (100, [], (jenc (jlg 0)))]) (ex := [(100, [], (jenc ((-1) * (jlg 0))))]) (v := (4, 2)) (st2 := [(4, 25), (4, 23)]) (hs2 := jpA_2725) (jT_product (d := 0) (a := (-1)) (b := jlg 0) (by decide +kernel) (by decide +kernel)) (by rfl) (by rfl) (by decide +kernel) (by rfl) (by rfl) (by omega) (by omega) (by omega) (by omega) rfl (by decide +kernel) ?_
  refine jT_eq (LN := [(3, (0, 0)), (2, (4, 23)), (0, (4, 0)), (1, (4, 1))]) (stN := [(4, 25), (4, 23)]) (hsN := [jzA_1334, (101, [], [(-1), 0, 0, 0, 0, 0]), jgh, jgh, jgh, jgh, jgh, (130, [], [17, 18, 19, 20, 21, 22]), jgh, jgh, jgh, jgh, jgh, jgh, jgh, jgh, jgh, (100, [], (jenc (jlg 0))), jgh, jgh, jgh, jgh, jgh, (100, [], (jenc 0)), (100, [], (jenc (-1))), (100, [], (jenc ((-1) * (jlg 0))))]) rfl rfl (by show [jzA_1334, (101, [], [(-1), 0, 0, 0, 0, 0]), jgh, jgh, jgh, jgh, jgh, (130, [], [17, 18, 19, 20, 21, 22]), jgh, jgh, jgh, jgh, jgh, jgh, jgh, jgh, jgh, (100, [], (jenc (jlg 0))), jgh, jgh, jgh, jgh, jgh, (100, [], List.replicate 56 0), (100, [], (jenc (-1))), (100, [], (jenc ((-1) * (jlg 0))))] = _; rw [jrep56e]) ?_
  refine jT_fR [23, 25] 26 (y := 181) (pcN := 40) (dC := 0) (bc1 := 0) (bc2 := 0) (c1 := 0) (c2 := 0) (as := [(4, 23), (4, 25)]) (asC := [(4, 0), (4, 1)]) (LN := [(3, (0, 0)), (2, (4, 23)), (0, (4, 0)), (1, (4, 1))]) (stN := []) (hsC := [(100, [], (jenc 0)), (100, [], (jenc ((-1) * (jlg 0))))]) (v := (4, 1)) (st2 := [(4, 25)]) (jT_added_0l (d := 0) (b := (-1) * (jlg 0))) (by rfl) (by rfl) (by decide +kernel) (by rfl) (by rfl) (by omega) (by omega) (by omega) (by omega) rfl ?_
  refine jT_advK 62 (pcN := 48) (LN := [(3, (0, 6)), (2, (4, 25)), (0, (4, 0)), (1, (4, 1))]) (stN := [(4, 25)]) (hsN := jpA_2726) (c1 := 0) (s1 := 0) (c2 := 0) (s2 := 0) (by decide +kernel) ?_ (by omega) (by omega)
  exact jT_ret rfl (by decide) (by show 23 ≤ 26; decide) (by omega) (by omega) ⟨rfl, rfl, rfl⟩
theorem jA_213_687 {xs : List Int} {d : Nat} : jT xs (d + 3) 213 23 0 [(0, (4, 0)), (1, (4, 1))] [] jpA_2727 3 168 (fun k v hsN => k = 0 ∧ v = (0, (-1)) ∧ hsN = jpA_2727 ++ [(100, [], (jenc 0)), (100, [], (jenc (-1))), (100, [], (jenc ((-1) * (jlg 0))))]) := by
  refine jT_advK 1 (pcN := 1) (LN := [(0, (4, 0)), (1, (4, 1))]) (stN := [(4, 1)]) (hsN := jpA_2727) (c1 := 0) (s1 := 0) (c2 := 3) (s2 := 168) (by decide +kernel) ?_ (by omega) (by omega)
  refine jT_fR [1] 23 (y := 200) (pcN := 4) (dC := 0) (bc1 := 0) (bc2 := 0) (c1 := 3) (c2 := 168) (as := [(4, 1)]) (asC := [(4, 0)]) (LN := [(0, (4, 0)), (1, (4, 1))]) (stN := []) (hsC := [(101, [], [(-1), 0, 0, 0, 0, 0])]) (v := (0, 0)) (st2 := [(0, 0)]) (jA_200_154 (d := 0)) (by rfl) (by rfl) (by decide +kernel) (by rfl) (by rfl) (by omega) (by omega) (by omega) (by omega) rfl ?_
  refine jT_advK 3 (pcN := 13) (LN := [(0, (4, 0)), (1, (4, 1))]) (stN := [(4, 1), (4, 0)]) (hsN := jpA_2727) (c1 := 0) (s1 := 0) (c2 := 3) (s2 := 168) (by decide +kernel) ?_ (by omega) (by omega)
  refine jT_fA [0, 1, 2, 3, 4, 5, 6, 7, 8, 9, 10, 11, 12, 13, 14, 15, 16, 17, 18, 19, 20, 21, 22] 23 (y := 214) (pcN := 16) (dC := 2) (bc1 := 3) (bc2 := 168) (c1 := 0) (c2 := 0) (as := [(4, 0), (4, 1)]) (asC := [(4, 0), (4, 1)]) (LN := [(0, (4, 0)), (1, (4, 1))]) (stN := []) (hsC := jpA_2727) (ex := [(100, [], (jenc 0)), (100, [], (jenc (-1))), (100, [], (jenc ((-1) * (jlg 0))))]) (v := (4, 25)) (st2 := [(4, 25)]) (hs2 := jpA_2726) (jA_214_686 (d := 0)) (by rfl) (by rfl) (by decide +kernel) (by rfl) (by rfl) (by omega) (by omega) (by omega) (by omega) rfl (by decide +kernel) ?_
  refine jT_advK 1 (pcN := 17) (LN := [(0, (4, 0)), (1, (4, 1))]) (stN := [(0, 0), (4, 25)]) (hsN := jpA_2726) (c1 := 0) (s1 := 0) (c2 := 0) (s2 := 0) (by decide +kernel) ?_ (by omega) (by omega)
  refine jT_iald (x := (-1)) (a := 25) (j := 0) (fs := []) (X := (jenc ((-1) * (jlg 0)))) (by rfl) (by rfl) (by rfl) (by rfl) (jenc_sg (by decide +kernel)) ?_
  refine jT_eq (LN := [(0, (4, 0)), (1, (4, 1))]) (stN := [(0, (-1))]) (hsN := jpA_2726) rfl rfl rfl ?_
  exact jT_ret rfl (by decide) (by show 23 ≤ 26; decide) (by omega) (by omega) ⟨rfl, rfl, rfl⟩
def jpA_2728 : List JC := [jzA_1334, (101, [], [1, 0, 0, 0, 0, 0]), jgh, jgh, jgh, jgh, jgh, (130, [], [17, 18, 19, 20, 21, 22]), jgh, jgh, jgh, jgh, jgh, jgh, jgh, jgh, jgh, (100, [], (jenc (jlg 0))), jgh, jgh, jgh, jgh, jgh, (101, [], [(-1), 0, 0, 0, 0, 0])]
def jpA_2729 : List JC := [jzA_1334, (101, [], [1, 0, 0, 0, 0, 0]), jgh, jgh, jgh, jgh, jgh, (130, [], [17, 18, 19, 20, 21, 22]), jgh, jgh, jgh, jgh, jgh, jgh, jgh, jgh, jgh, (100, [], (jenc (jlg 0))), jgh, jgh, jgh, jgh, jgh, (101, [], [(-1), 0, 0, 0, 0, 0]), (100, [], (jenc 0)), (100, [], (jenc (-1))), (100, [], (jenc ((-1) * (jlg 0))))]
theorem jA_212_688 {xs : List Int} {d : Nat} : jT xs (d + 4) 212 23 0 [(0, (4, 0)), (1, (4, 1)), (2, (1, 2))] [] jpA_2720 4 174 (fun k v hsN => k = 0 ∧ v = (0, (-1)) ∧ hsN = jpA_2720 ++ jpA_680) := by
  refine jT_advK 18 (pcN := 27) (LN := [(4, (4, 23)), (0, (4, 0)), (1, (4, 1)), (2, (1, 2))]) (stN := [(4, 23), (4, 0)]) (hsN := jpA_2728) (c1 := 1) (s1 := 6) (c2 := 3) (s2 := 168) (by decide +kernel) ?_ (by omega) (by omega)
  refine jT_fA [0, 23, 2, 3, 4, 5, 6, 7, 8, 9, 10, 11, 12, 13, 14, 15, 16, 17, 18, 19, 20, 21, 22] 24 (y := 213) (pcN := 30) (dC := 3) (bc1 := 3) (bc2 := 168) (c1 := 0) (c2 := 0) (as := [(4, 0), (4, 23)]) (asC := [(4, 0), (4, 1)]) (LN := [(4, (4, 23)), (0, (4, 0)), (1, (4, 1)), (2, (1, 2))]) (stN := []) (hsC := jpA_2727) (ex := [(100, [], (jenc 0)), (100, [], (jenc (-1))), (100, [], (jenc ((-1) * (jlg 0))))]) (v := (0, (-1))) (st2 := [(0, (-1))]) (hs2 := jpA_2729) (jA_213_687 (d := 0)) (by rfl) (by rfl) (by decide +kernel) (by rfl) (by rfl) (by omega) (by omega) (by omega) (by omega) rfl (by decide +kernel) ?_
  exact jT_ret rfl (by decide) (by show 23 ≤ 27; decide) (by omega) (by omega) ⟨rfl, rfl, rfl⟩
def jpA_2730 : List JC := [jzA_1334, (101, [], [1, 0, 0, 0, 0, 0]), jgh, jgh, jgh, jgh, jgh, (130, [], [17, 18, 19, 20, 21, 22]), jgh, jgh, jgh, jgh, jgh, jgh, jgh, jgh, jgh, (100, [], (jenc (jlg 0))), jgh, jgh, jgh, jgh, jgh, (101, [], [1, 0, 0, 0, 0, 0]), (100, [], (jenc 0)), (100, [], (jenc 1)), (100, [], (jenc (1 * (jlg 0)))), (101, [], [(-1), 0, 0, 0, 0, 0]), (100, [], (jenc 0)), (100, [], (jenc (-1))), (100, [], (jenc ((-1) * (jlg 0))))]
theorem jA_210_689 {xs : List Int} {d : Nat} : jT xs (d + 5) 210 23 0 [(0, (4, 0)), (1, (4, 1)), (2, (1, 2))] [] jpA_2720 8 348 (fun k v hsN => k = 0 ∧ v = (1, 0) ∧ hsN = jpA_2720 ++ jpA_836) := by
  refine jT_advK 1 (pcN := 1) (LN := [(0, (4, 0)), (1, (4, 1)), (2, (1, 2))]) (stN := [(4, 1)]) (hsN := jpA_2720) (c1 := 0) (s1 := 0) (c2 := 8) (s2 := 348) (by decide +kernel) ?_ (by omega) (by omega)
  refine jT_fR [1] 23 (y := 211) (pcN := 4) (dC := 0) (bc1 := 0) (bc2 := 0) (c1 := 8) (c2 := 348) (as := [(4, 1)]) (asC := [(4, 0)]) (LN := [(0, (4, 0)), (1, (4, 1)), (2, (1, 2))]) (stN := []) (hsC := [(101, [], [1, 0, 0, 0, 0, 0])]) (v := (3, 4607182418800017408)) (st2 := [(3, 4607182418800017408)]) (jA_211_185 (d := 0)) (by rfl) (by rfl) (by decide +kernel) (by rfl) (by rfl) (by omega) (by omega) (by omega) (by omega) rfl ?_
  refine jT_advK 1 (pcN := 5) (LN := [(0, (4, 0)), (1, (4, 1)), (2, (1, 2))]) (stN := [(1, 2), (3, 4607182418800017408)]) (hsN := jpA_2720) (c1 := 0) (s1 := 0) (c2 := 8) (s2 := 348) (by decide +kernel) ?_ (by omega) (by omega)
  refine jT_l2d (x := 2) (z := 4611686018427387904) (by rfl) (by rfl) (by decide +kernel) ?_
  refine jT_ddiv (x := 4607182418800017408) (y := 4611686018427387904) (z := 4602678819172646912) (by rfl) (by rfl) (by decide +kernel) ?_
  refine jT_d2l (x := 4602678819172646912) (z := 0) (by rfl) (by rfl) (by decide +kernel) ?_
  refine jT_advK 6 (pcN := 16) (LN := [(4, (1, 0)), (0, (4, 0)), (1, (4, 1)), (2, (1, 2))]) (stN := [(1, 0), (4, 1), (4, 0)]) (hsN := jpA_2720) (c1 := 0) (s1 := 0) (c2 := 8) (s2 := 348) (by decide +kernel) ?_ (by omega) (by omega)
  refine jT_fA [0, 1, 2, 3, 4, 5, 6, 7, 8, 9, 10, 11, 12, 13, 14, 15, 16, 17, 18, 19, 20, 21, 22] 23 (y := 212) (pcN := 19) (dC := 4) (bc1 := 4) (bc2 := 174) (c1 := 4) (c2 := 174) (as := [(4, 0), (4, 1), (1, 0)]) (asC := [(4, 0), (4, 1), (1, 0)]) (LN := [(4, (1, 0)), (0, (4, 0)), (1, (4, 1)), (2, (1, 2))]) (stN := []) (hsC := jpA_2720) (ex := jpA_832) (v := (0, 1)) (st2 := [(0, 1)]) (hs2 := jpA_2722) (jA_212_685 (d := 0)) (by rfl) (by rfl) (by decide +kernel) (by rfl) (by rfl) (by omega) (by omega) (by omega) (by omega) rfl (by decide +kernel) ?_
  refine jT_advK 8 (pcN := 39) (LN := [(4, (1, 0)), (0, (4, 0)), (1, (4, 1)), (2, (1, 2))]) (stN := [(1, 2), (4, 1), (4, 0)]) (hsN := jpA_2722) (c1 := 0) (s1 := 0) (c2 := 4) (s2 := 174) (by decide +kernel) ?_ (by omega) (by omega)
  refine jT_fA [0, 1, 2, 3, 4, 5, 6, 7, 8, 9, 10, 11, 12, 13, 14, 15, 16, 17, 18, 19, 20, 21, 22] 27 (y := 212) (pcN := 42) (dC := 4) (bc1 := 4) (bc2 := 174) (c1 := 0) (c2 := 0) (as := [(4, 0), (4, 1), (1, 2)]) (asC := [(4, 0), (4, 1), (1, 2)]) (LN := [(4, (1, 0)), (0, (4, 0)), (1, (4, 1)), (2, (1, 2))]) (stN := []) (hsC := jpA_2720) (ex := jpA_680) (v := (0, (-1))) (st2 := [(0, (-1))]) (hs2 := jpA_2730) (jA_212_688 (d := 0)) (by rfl) (by rfl) (by decide +kernel) (by rfl) (by rfl) (by omega) (by omega) (by omega) (by omega) rfl (by decide +kernel) ?_
  refine jT_advK 2 (pcN := 56) (LN := [(4, (1, 0)), (0, (4, 0)), (1, (4, 1)), (2, (1, 2))]) (stN := [(1, 0)]) (hsN := jpA_2730) (c1 := 0) (s1 := 0) (c2 := 0) (s2 := 0) (by decide +kernel) ?_ (by omega) (by omega)
  exact jT_ret rfl (by decide) (by show 23 ≤ 31; decide) (by omega) (by omega) ⟨rfl, rfl, rfl⟩
def jzA_2731 : JC := (14, [(0, 0), (4, 2), (4, 3), (4, 4), (4, 5), (0, 1), (4, 6), (0, 0), (4, 7), (4, 1), (1, 1), (4, 8), (0, 0), (4, 9), (0, 0), (0, 0), (0, 0), (0, 0), (0, 0), (0, 0), (0, 0), (4, 10), (4, 11), (4, 12), (4, 13), (4, 14), (4, 15), (0, 0)], [])
def jpA_2732 : List JC := [jzA_2731, (101, [], [0, 0, 0, 0, 0, 0]), jgh, jgh, jgh, jgh, jgh, (130, [], [16, 17, 18, 19, 20, 21]), jgh, jgh, jgh, jgh, jgh, jgh, jgh, jgh, (100, [], (jenc (jlg 0))), jgh, jgh, jgh, jgh, jgh, (101, [], [1, 0, 0, 0, 0, 0])]
def jpA_2733 : List JC := [jzA_2731, (101, [], [0, 0, 0, 0, 0, 0]), jgh, jgh, jgh, jgh, jgh, (130, [], [16, 17, 18, 19, 20, 21]), jgh, jgh, jgh, jgh, jgh, jgh, jgh, jgh, (100, [], (jenc (jlg 0))), jgh, jgh, jgh, jgh, jgh, (101, [], [1, 0, 0, 0, 0, 0]), (101, [], [1, 0, 0, 0, 0, 0]), (100, [], (jenc 0)), (100, [], (jenc 1)), (100, [], (jenc (1 * (jlg 0)))), (101, [], [(-1), 0, 0, 0, 0, 0]), (100, [], (jenc 0)), (100, [], (jenc (-1))), (100, [], (jenc ((-1) * (jlg 0))))]
def jpA_2734 : List JC := [jzA_2731, (101, [], [0, 0, 0, 0, 0, 0]), jgh, jgh, jgh, jgh, jgh, (130, [], [16, 17, 18, 19, 20, 21]), jgh, jgh, jgh, jgh, jgh, jgh, jgh, jgh, (100, [], (jenc (jlg 0))), jgh, jgh, jgh, jgh, jgh]
theorem jA_216_690 {xs : List Int} {d : Nat} : jT xs (d + 6) 216 22 0 [(0, (4, 0)), (1, (4, 1)), (2, (1, 1))] [] jpA_2734 9 354 (fun k v hsN => k = 0 ∧ v = (1, 0) ∧ hsN = jpA_2734 ++ jpA_839) := by
  refine jT_advK 98 (pcN := 51) (LN := [(5, (0, 6)), (4, (4, 22)), (0, (4, 0)), (1, (4, 1)), (2, (1, 1))]) (stN := [(1, 2), (4, 22), (4, 0)]) (hsN := jpA_2732) (c1 := 1) (s1 := 6) (c2 := 8) (s2 := 348) (by decide +kernel) ?_ (by omega) (by omega)
  refine jT_fA [0, 22, 2, 3, 4, 5, 6, 7, 1, 8, 9, 10, 11, 12, 13, 14, 15, 16, 17, 18, 19, 20, 21] 23 (y := 210) (pcN := 54) (dC := 5) (bc1 := 8) (bc2 := 348) (c1 := 0) (c2 := 0) (as := [(4, 0), (4, 22), (1, 2)]) (asC := [(4, 0), (4, 1), (1, 2)]) (LN := [(5, (0, 6)), (4, (4, 22)), (0, (4, 0)), (1, (4, 1)), (2, (1, 1))]) (stN := []) (hsC := jpA_2720) (ex := jpA_836) (v := (1, 0)) (st2 := [(1, 0)]) (hs2 := jpA_2733) (jA_210_689 (d := 0)) (by rfl) (by rfl) (by decide +kernel) (by rfl) (by rfl) (by omega) (by omega) (by omega) (by omega) rfl (by decide +kernel) ?_
  exact jT_ret rfl (by decide) (by show 22 ≤ 31; decide) (by omega) (by omega) ⟨rfl, rfl, rfl⟩
theorem jI_257_42 : jmI (jm 257) 42 = (.aload_n 0, 1) := by rfl
def jpA_2736 : List JC := [jzA_200, (100, [], jS0), (100, [], []), jzA_196, jzA_201, jgh, (130, [], [24, 25, 26, 27, 28, 29]), (101, [], [0, 0, 0, 0, 0, 0]), jgh, jgh, jgh, jgh, jgh, jgh, jgh, jgh, (100, [], jS0), jgh, jgh, jgh, jgh, jgh, jgh, jgh, (100, [], (jenc (jlg 0))), jgh, jgh, jgh, jgh, jgh]
theorem jI_257_46 : jmI (jm 257) 46 = (.aload_n 0, 1) := by rfl
theorem jI_257_47 : jmI (jm 257) 47 = (.iload_n 1, 1) := by rfl
theorem jI_257_51 : jmI (jm 257) 51 = (.aload_n 0, 1) := by rfl
theorem jI_257_52 : jmI (jm 257) 52 = (.iload_n 2, 1) := by rfl
theorem jI_257_57 : jmI (jm 257) 57 = (.aload_n 0, 1) := by rfl
theorem jI_257_58 : jmI (jm 257) 58 = (.aload_n 0, 1) := by rfl
theorem jI_257_59 : jmI (jm 257) 59 = (.getfield 31, 3) := by rfl
theorem jI_257_62 : jmI (jm 257) 62 = (.aload_n 0, 1) := by rfl
theorem jI_257_63 : jmI (jm 257) 63 = (.getfield 35, 3) := by rfl
theorem jI_257_69 : jmI (jm 257) 69 = (.l2i, 1) := by rfl
theorem jA_257_691 {xs : List Int} {d : Nat} {x2 : Int} (h_x2 : 0 ≤ x2 ∧ x2 ≤ 7) : jT xs (d + 7) 257 30 0 [(0, (4, 0)), (1, (0, 0)), (2, (0, x2))] [] jpA_701 9 354 (fun k v hsN => k = 0 ∧ v = (0, 0) ∧ hsN = [jzA_200, (100, [], ((((((((((((((jS0).set ((7 * x2).toNat) 0)).set ((7 * x2 + 1).toNat) 0)).set ((7 * x2 + 2).toNat) 0)).set ((7 * x2 + 3).toNat) 0)).set ((7 * x2 + 4).toNat) 0)).set ((7 * x2 + 5).toNat) 0)).set ((7 * x2 + 6).toNat) 1)), (100, [], []), jzA_196, jzA_201, jgh, (130, [], [24, 25, 26, 27, 28, 29]), (101, [], [0, 0, 0, 0, 0, 0]), jgh, jgh, jgh, jgh, jgh, jgh, jgh, jgh, (100, [], jS0), jgh, jgh, jgh, jgh, jgh, jgh, jgh, (100, [], (jenc (jlg 0))), jgh, jgh, jgh, jgh, jgh, (101, [], [1, 0, 0, 0, 0, 0]), (101, [], [1, 0, 0, 0, 0, 0]), (100, [], (jenc 0)), (100, [], (jenc 1)), (100, [], (jenc (1 * (jlg 0)))), (101, [], [(-1), 0, 0, 0, 0, 0]), (100, [], (jenc 0)), (100, [], (jenc (-1))), (100, [], (jenc ((-1) * (jlg 0))))]) := by
  refine jT_xaload_n (v := (4, 0)) (pcN := 1) jI_257_0 rfl rfl rfl ?_
  refine jT_xiconst (k := 0) (pcN := 2) jI_257_1 rfl ?_
  refine jT_adv 1 (pcN := 5) (LN := [(0, (4, 0)), (1, (0, 0)), (2, (0, x2))]) (stN := []) (hsN := jpA_701) (c1 := 0) (s1 := 0) (c2 := 9) (s2 := 354) (by exact rfl) ?_ (by omega) (by omega)
  refine jT_xaload_n (v := (4, 0)) (pcN := 6) jI_257_5 rfl rfl rfl ?_
  refine jT_xiload_n (v := (0, 0)) (pcN := 7) jI_257_6 rfl rfl rfl ?_
  refine jT_xi2l (x := 0) (z := 0) (pcN := 8) jI_257_7 rfl (by decide +kernel) rfl ?_
  refine jT_xlconst (z := 0) (pcN := 9) jI_257_8 rfl rfl ?_
  refine jT_xaload_n (v := (4, 0)) (pcN := 10) jI_257_9 rfl rfl rfl ?_
  refine jT_xgetf (a := 0) (t := 1) (ci := 14) (fi := 1) (c := jzA_21) (v := (4, 1)) (pcN := 13) jI_257_10 rfl rfl rfl rfl rfl rfl rfl ?_
  refine jT_xsipush (k := 1192) (pcN := 16) jI_257_13 (by decide) rfl ?_
  refine jT_iald (x := 0) (a := 1) (j := 1192) (fs := []) (X := jS0) (by rfl) (by rfl) (by rfl) (by rfl) (by decide +kernel) ?_
  refine jT_eq (LN := [(0, (4, 0)), (1, (0, 0)), (2, (0, x2))]) (stN := [(0, 0), (1, 0), (1, 0), (4, 0)]) (hsN := jpA_701) rfl rfl rfl ?_
  refine jT_xi2l (x := 0) (z := 0) (pcN := 18) jI_257_17 rfl (by decide +kernel) rfl ?_
  refine jT_fR [] 30 (y := 189) (pcN := 21) (dC := 0) (bc1 := 0) (bc2 := 0) (c1 := 9) (c2 := 354) (as := [(1, 0), (1, 0), (1, 0)]) (asC := [(1, 0), (1, 0), (1, 0)]) (LN := [(0, (4, 0)), (1, (0, 0)), (2, (0, x2))]) (stN := [(4, 0)]) (hsC := []) (v := (0, 1)) (st2 := [(0, 1), (4, 0)]) (jA_189_448 (d := 0)) (by rfl) (by rfl) (by decide +kernel) (by rfl) (by rfl) (by omega) (by omega) (by omega) (by omega) rfl ?_
  refine jT_xiconst (k := 1) (pcN := 22) jI_257_21 rfl ?_
  refine jT_fR [0] 30 (y := 191) (pcN := 25) (dC := 0) (bc1 := 0) (bc2 := 0) (c1 := 9) (c2 := 354) (as := [(4, 0), (0, 1), (0, 1)]) (asC := [(4, 0), (0, 1), (0, 1)]) (LN := [(0, (4, 0)), (1, (0, 0)), (2, (0, x2))]) (stN := []) (hsC := [jgh]) (v := (0, 0)) (st2 := [(0, 0)]) (jA_191_38 (d := 0)) (by rfl) (by rfl) (by decide +kernel) (by rfl) (by rfl) (by omega) (by omega) (by omega) (by omega) rfl ?_
  refine jT_xifF (t := 40) (pcN := 28) jI_257_25 rfl (by decide +kernel) rfl rfl ?_
  refine jT_xaload_n (v := (4, 0)) (pcN := 29) jI_257_28 rfl rfl rfl ?_
  refine jT_xiload_n (v := (0, x2)) (pcN := 30) jI_257_29 rfl rfl rfl ?_
  refine jT_fR [] 30 (y := 188) (pcN := 33) (dC := 1) (bc1 := 0) (bc2 := 0) (c1 := 9) (c2 := 354) (as := [(0, x2)]) (asC := [(0, x2)]) (LN := [(0, (4, 0)), (1, (0, 0)), (2, (0, x2))]) (stN := [(4, 0)]) (hsC := []) (v := (0, 1)) (st2 := [(0, 1), (4, 0)]) (jA_188_20 (d := 0) (by omega)) (by rfl) (by rfl) (by decide +kernel) (by rfl) (by rfl) (by omega) (by omega) (by omega) (by omega) rfl ?_
  refine jT_xiconst (k := 2) (pcN := 34) jI_257_33 rfl ?_
  refine jT_fR [0] 30 (y := 191) (pcN := 37) (dC := 0) (bc1 := 0) (bc2 := 0) (c1 := 9) (c2 := 354) (as := [(4, 0), (0, 1), (0, 2)]) (asC := [(4, 0), (0, 1), (0, 2)]) (LN := [(0, (4, 0)), (1, (0, 0)), (2, (0, x2))]) (stN := []) (hsC := [jgh]) (v := (0, 0)) (st2 := [(0, 0)]) (jA_191_49 (d := 0)) (by rfl) (by rfl) (by decide +kernel) (by rfl) (by rfl) (by omega) (by omega) (by omega) (by omega) rfl ?_
  refine jT_xifT (pcN := 42) jI_257_37 rfl (by decide +kernel) rfl ?_
  refine jT_xaload_n (v := (4, 0)) (pcN := 43) jI_257_42 rfl rfl rfl ?_
  refine jT_fB [0, 1, 2, 3, 4, 5, 6, 7, 8, 9, 10, 11, 12, 13, 14, 15, 16, 17, 18, 19, 20, 21, 22, 23] 30 (y := 195) (pcN := 46) (dC := 0) (bc1 := 0) (bc2 := 0) (c1 := 9) (c2 := 354) (as := [(4, 0)]) (asC := [(4, 0)]) (LN := [(0, (4, 0)), (1, (0, 0)), (2, (0, x2))]) (stN := []) (hsC := jpA_198) (hsD := jpA_202) (v := (9, 0)) (st2 := []) (hs2 := jpA_2736) (jA_195_50 (d := 0)) (by rfl) (by rfl) (by decide +kernel) (by rfl) (by rfl) (by omega) (by omega) (by omega) (by omega) rfl (by decide +kernel) ?_
  refine jT_xaload_n (v := (4, 0)) (pcN := 47) jI_257_46 rfl rfl rfl ?_
  refine jT_xiload_n (v := (0, 0)) (pcN := 48) jI_257_47 rfl rfl rfl ?_
  refine jT_fR [0, 1, 2, 3, 4, 5, 6, 7, 8, 9, 10, 11, 12, 13, 14, 15] 30 (y := 256) (pcN := 51) (dC := 1) (bc1 := 0) (bc2 := 0) (c1 := 9) (c2 := 354) (as := [(4, 0), (0, 0)]) (asC := [(4, 0), (0, 0)]) (LN := [(0, (4, 0)), (1, (0, 0)), (2, (0, x2))]) (stN := []) (hsC := jpA_2715) (v := (9, 0)) (st2 := []) (jA_256_680 (d := 0)) (by rfl) (by rfl) (by decide +kernel) (by rfl) (by rfl) (by omega) (by omega) (by omega) (by omega) rfl ?_
  refine jT_xaload_n (v := (4, 0)) (pcN := 52) jI_257_51 rfl rfl rfl ?_
  refine jT_xiload_n (v := (0, x2)) (pcN := 53) jI_257_52 rfl rfl rfl ?_
  refine jT_fB [0, 1, 2, 3, 4, 5, 6, 7, 8, 9, 10, 11, 12, 13, 14, 15] 30 (y := 196) (pcN := 56) (dC := 1) (bc1 := 0) (bc2 := 0) (c1 := 9) (c2 := 354) (as := [(4, 0), (0, x2)]) (asC := [(4, 0), (0, x2)]) (LN := [(0, (4, 0)), (1, (0, 0)), (2, (0, x2))]) (stN := []) (hsC := jpA_216) (hsD := [jzA_200, (100, [], ((((((((((((((jS0).set ((7 * x2).toNat) 0)).set ((7 * x2 + 1).toNat) 0)).set ((7 * x2 + 2).toNat) 0)).set ((7 * x2 + 3).toNat) 0)).set ((7 * x2 + 4).toNat) 0)).set ((7 * x2 + 5).toNat) 0)).set ((7 * x2 + 6).toNat) 1)), jgh, jgh, jgh, jgh, jgh, (101, [], [0, 0, 0, 0, 0, 0]), jgh, jgh, jgh, jgh, jgh, jgh, jgh, jgh]) (v := (0, 1)) (st2 := [(0, 1)]) (hs2 := [jzA_200, (100, [], ((((((((((((((jS0).set ((7 * x2).toNat) 0)).set ((7 * x2 + 1).toNat) 0)).set ((7 * x2 + 2).toNat) 0)).set ((7 * x2 + 3).toNat) 0)).set ((7 * x2 + 4).toNat) 0)).set ((7 * x2 + 5).toNat) 0)).set ((7 * x2 + 6).toNat) 1)), (100, [], []), jzA_196, jzA_201, jgh, (130, [], [24, 25, 26, 27, 28, 29]), (101, [], [0, 0, 0, 0, 0, 0]), jgh, jgh, jgh, jgh, jgh, jgh, jgh, jgh, (100, [], jS0), jgh, jgh, jgh, jgh, jgh, jgh, jgh, (100, [], (jenc (jlg 0))), jgh, jgh, jgh, jgh, jgh]) (jA_196_682 (d := 0) (by omega)) (by rfl) (by rfl) (by decide +kernel) (by rfl) (by rfl) (by omega) (by omega) (by omega) (by omega) rfl rfl ?_
  refine jT_adv 1 (pcN := 57) (LN := [(0, (4, 0)), (1, (0, 0)), (2, (0, x2))]) (stN := []) (hsN := [jzA_200, (100, [], ((((((((((((((jS0).set ((7 * x2).toNat) 0)).set ((7 * x2 + 1).toNat) 0)).set ((7 * x2 + 2).toNat) 0)).set ((7 * x2 + 3).toNat) 0)).set ((7 * x2 + 4).toNat) 0)).set ((7 * x2 + 5).toNat) 0)).set ((7 * x2 + 6).toNat) 1)), (100, [], []), jzA_196, jzA_201, jgh, (130, [], [24, 25, 26, 27, 28, 29]), (101, [], [0, 0, 0, 0, 0, 0]), jgh, jgh, jgh, jgh, jgh, jgh, jgh, jgh, (100, [], jS0), jgh, jgh, jgh, jgh, jgh, jgh, jgh, (100, [], (jenc (jlg 0))), jgh, jgh, jgh, jgh, jgh]) (c1 := 0) (s1 := 0) (c2 := 9) (s2 := 354) (by exact rfl) ?_ (by omega) (by omega)
  refine jT_xaload_n (v := (4, 0)) (pcN := 58) jI_257_57 rfl rfl rfl ?_
  refine jT_xaload_n (v := (4, 0)) (pcN := 59) jI_257_58 rfl rfl rfl ?_
  refine jT_xgetf (a := 0) (t := 1) (ci := 14) (fi := 9) (c := jzA_200) (v := (4, 7)) (pcN := 62) jI_257_59 rfl rfl rfl rfl rfl rfl rfl ?_
  refine jT_xaload_n (v := (4, 0)) (pcN := 63) jI_257_62 rfl rfl rfl ?_
  refine jT_xgetf (a := 0) (t := 1) (ci := 14) (fi := 10) (c := jzA_200) (v := (1, 1)) (pcN := 66) jI_257_63 rfl rfl rfl rfl rfl rfl rfl ?_
  refine jT_callA [0, 7, 1, 2, 3, 4, 5, 6, 8, 9, 10, 11, 12, 13, 14, 15, 24, 25, 26, 27, 28, 29] (y := 216) (pcN := 69) (dC := 6) (bc1 := 9) (bc2 := 354) (c1 := 0) (c2 := 0) (as := [(4, 0), (4, 7), (1, 1)]) (asC := [(4, 0), (4, 1), (1, 1)]) (LN := [(0, (4, 0)), (1, (0, 0)), (2, (0, x2))]) (stN := []) (hsC := jpA_2734) (ex := jpA_839) (v := (1, 0)) (st2 := [(1, 0)]) (hs2 := [jzA_200, (100, [], ((((((((((((((jS0).set ((7 * x2).toNat) 0)).set ((7 * x2 + 1).toNat) 0)).set ((7 * x2 + 2).toNat) 0)).set ((7 * x2 + 3).toNat) 0)).set ((7 * x2 + 4).toNat) 0)).set ((7 * x2 + 5).toNat) 0)).set ((7 * x2 + 6).toNat) 1)), (100, [], []), jzA_196, jzA_201, jgh, (130, [], [24, 25, 26, 27, 28, 29]), (101, [], [0, 0, 0, 0, 0, 0]), jgh, jgh, jgh, jgh, jgh, jgh, jgh, jgh, (100, [], jS0), jgh, jgh, jgh, jgh, jgh, jgh, jgh, (100, [], (jenc (jlg 0))), jgh, jgh, jgh, jgh, jgh, (101, [], [1, 0, 0, 0, 0, 0]), (101, [], [1, 0, 0, 0, 0, 0]), (100, [], (jenc 0)), (100, [], (jenc 1)), (100, [], (jenc (1 * (jlg 0)))), (101, [], [(-1), 0, 0, 0, 0, 0]), (100, [], (jenc 0)), (100, [], (jenc (-1))), (100, [], (jenc ((-1) * (jlg 0))))]) (jA_216_690 (d := 0)) (by rfl) (by rfl) (by rfl) (by rfl) ⟨rfl, rfl, rfl, rfl, rfl, rfl, rfl, rfl, rfl, rfl, rfl, rfl, rfl, rfl, rfl, rfl, rfl, rfl, rfl, rfl, rfl, rfl, trivial⟩ (by rfl) (by rfl) (by omega) (by show 30 ≤ 30; omega) (by omega) (by omega) rfl rfl ?_
  refine jT_xl2i (pcN := 70) jI_257_69 rfl rfl ?_
  exact jT_ret rfl (by decide) (by show 30 ≤ 39; decide) (by omega) (by omega) ⟨rfl, rfl, rfl⟩
theorem jA_135_692 {xs : List Int} {d : Nat} {x2 : Int} (h_x2 : 8 ≤ x2 ∧ x2 ≤ 2147483647) : jT xs (d + 1) 135 17 0 [(0, (4, 0)), (1, (0, 0)), (2, (0, x2))] [] jpA_2660 1 6 (fun k v hsN => k = 1 ∧ v = (0, 0) ∧ hsN = jpA_2660 ++ []) := by
  refine jT_xaload_n (v := (4, 0)) (pcN := 1) jI_135_0 rfl rfl rfl ?_
  refine jT_xiload_n (v := (0, 0)) (pcN := 2) jI_135_1 rfl rfl rfl ?_
  refine jT_xiconst (k := 0) (pcN := 3) jI_135_2 rfl ?_
  refine jT_xaload_n (v := (4, 0)) (pcN := 4) jI_135_3 rfl rfl rfl ?_
  refine jT_xgetf (a := 0) (t := 1) (ci := 13) (fi := 11) (c := jzA_5) (v := (4, 11)) (pcN := 7) jI_135_4 rfl rfl rfl rfl rfl rfl rfl ?_
  refine jT_xgetf (a := 11) (t := 2) (ci := 9) (fi := 4) (c := jzA_88) (v := (4, 16)) (pcN := 10) jI_135_7 rfl rfl rfl rfl rfl rfl rfl ?_
  refine jT_adv 1 (pcN := 11) (LN := [(0, (4, 0)), (1, (0, 0)), (2, (0, x2))]) (stN := [(0, 0), (0, 0), (0, 0), (4, 0)]) (hsN := jpA_2660) (c1 := 0) (s1 := 0) (c2 := 1) (s2 := 6) (by exact rfl) ?_ (by omega) (by omega)
  refine jT_fR [0] 17 (y := 116) (pcN := 14) (dC := 0) (bc1 := 0) (bc2 := 0) (c1 := 1) (c2 := 6) (as := [(4, 0), (0, 0), (0, 0), (0, 0)]) (asC := [(4, 0), (0, 0), (0, 0), (0, 0)]) (LN := [(0, (4, 0)), (1, (0, 0)), (2, (0, x2))]) (stN := []) (hsC := [jgh]) (v := (9, 0)) (st2 := []) (jA_116_672 (d := 0)) (by rfl) (by rfl) (by decide +kernel) (by rfl) (by rfl) (by omega) (by omega) (by omega) (by omega) rfl ?_
  refine jT_xaload_n (v := (4, 0)) (pcN := 15) jI_135_14 rfl rfl rfl ?_
  refine jT_xiload_n (v := (0, x2)) (pcN := 16) jI_135_15 rfl rfl rfl ?_
  refine jT_xbipush (k := 8) (pcN := 18) jI_135_16 (by decide) rfl ?_
  exact jT_fX [0] 17 (y := 115) (pcN := 21) (dC := 0) (bc1 := 1) (bc2 := 6) (as := [(4, 0), (0, x2), (0, 8)]) (asC := [(4, 0), (0, x2), (0, 8)]) (LN := [(0, (4, 0)), (1, (0, 0)), (2, (0, x2))]) (stN := []) (hsC := [jgh]) (e := 0) (jA_115_60 (d := 0) (by omega)) (by rfl) (by rfl) (by decide +kernel) (by rfl) (by rfl) (by omega) (by omega) (by omega) (by omega) ⟨rfl, ⟨rfl, rfl, rfl⟩⟩
theorem jA_342_693 {xs : List Int} {d : Nat} {x2 : Int} (h_x2 : 8 ≤ x2 ∧ x2 ≤ 2147483647) : jT xs (d + 2) 342 18 0 [(0, (4, 0)), (1, (0, 0)), (2, (0, x2)), (3, (4, 1))] [] jpA_2666 1 6 (fun k v hsN => k = 0 ∧ v = (0, 2) ∧ hsN = jpA_2666 ++ []) := by
  refine jT_xaload_n (v := (4, 1)) (pcN := 1) jI_342_0 rfl rfl rfl ?_
  refine jT_xiconst (k := 0) (pcN := 2) jI_342_1 rfl ?_
  refine jT_xaload_n (v := (4, 0)) (pcN := 3) jI_342_2 rfl rfl rfl ?_
  refine jT_xiload_n (v := (0, 0)) (pcN := 4) jI_342_3 rfl rfl rfl ?_
  refine jT_xiload_n (v := (0, x2)) (pcN := 5) jI_342_4 rfl rfl rfl ?_
  exact jT_fX [0, 2, 3, 4, 5, 6, 7, 8, 9, 10, 11, 12, 13, 14, 15, 16, 17] 18 (y := 135) (pcN := 8) (dC := 1) (bc1 := 1) (bc2 := 6) (as := [(4, 0), (0, 0), (0, x2)]) (asC := [(4, 0), (0, 0), (0, x2)]) (LN := [(0, (4, 0)), (1, (0, 0)), (2, (0, x2)), (3, (4, 1))]) (stN := [(0, 0), (4, 1)]) (hsC := jpA_2660) (e := 0) (jA_135_692 (d := 0) (by omega)) (by rfl) (by rfl) (by decide +kernel) (by rfl) (by rfl) (by omega) (by omega) (by omega) (by omega) (show _ from ⟨rfl, rfl, rfl⟩)
theorem jA_257_694 {xs : List Int} {d : Nat} {x2 : Int} (h_x2 : 8 ≤ x2 ∧ x2 ≤ 2147483647) : jT xs (d + 2) 257 16 0 [(0, (4, 0)), (1, (0, 0)), (2, (0, x2))] [] jpA_1519 0 0 (fun k v hsN => k = 0 ∧ v = (0, 0) ∧ hsN = jpA_2089) := by
  refine jT_xaload_n (v := (4, 0)) (pcN := 1) jI_257_0 rfl rfl rfl ?_
  refine jT_xiconst (k := 0) (pcN := 2) jI_257_1 rfl ?_
  refine jT_adv 1 (pcN := 5) (LN := [(0, (4, 0)), (1, (0, 0)), (2, (0, x2))]) (stN := []) (hsN := jpA_1519) (c1 := 0) (s1 := 0) (c2 := 0) (s2 := 0) (by exact rfl) ?_ (by omega) (by omega)
  refine jT_xaload_n (v := (4, 0)) (pcN := 6) jI_257_5 rfl rfl rfl ?_
  refine jT_xiload_n (v := (0, 0)) (pcN := 7) jI_257_6 rfl rfl rfl ?_
  refine jT_xi2l (x := 0) (z := 0) (pcN := 8) jI_257_7 rfl (by decide +kernel) rfl ?_
  refine jT_xlconst (z := 0) (pcN := 9) jI_257_8 rfl rfl ?_
  refine jT_xaload_n (v := (4, 0)) (pcN := 10) jI_257_9 rfl rfl rfl ?_
  refine jT_xgetf (a := 0) (t := 1) (ci := 14) (fi := 1) (c := jzA_21) (v := (4, 1)) (pcN := 13) jI_257_10 rfl rfl rfl rfl rfl rfl rfl ?_
  refine jT_xsipush (k := 1192) (pcN := 16) jI_257_13 (by decide) rfl ?_
  refine jT_iald (x := 0) (a := 1) (j := 1192) (fs := []) (X := jS0) (by rfl) (by rfl) (by rfl) (by rfl) (by decide +kernel) ?_
  refine jT_eq (LN := [(0, (4, 0)), (1, (0, 0)), (2, (0, x2))]) (stN := [(0, 0), (1, 0), (1, 0), (4, 0)]) (hsN := jpA_1519) rfl rfl rfl ?_
  refine jT_xi2l (x := 0) (z := 0) (pcN := 18) jI_257_17 rfl (by decide +kernel) rfl ?_
  refine jT_fR [] 16 (y := 189) (pcN := 21) (dC := 0) (bc1 := 0) (bc2 := 0) (c1 := 0) (c2 := 0) (as := [(1, 0), (1, 0), (1, 0)]) (asC := [(1, 0), (1, 0), (1, 0)]) (LN := [(0, (4, 0)), (1, (0, 0)), (2, (0, x2))]) (stN := [(4, 0)]) (hsC := []) (v := (0, 1)) (st2 := [(0, 1), (4, 0)]) (jA_189_448 (d := 0)) (by rfl) (by rfl) (by decide +kernel) (by rfl) (by rfl) (by omega) (by omega) (by omega) (by omega) rfl ?_
  refine jT_xiconst (k := 1) (pcN := 22) jI_257_21 rfl ?_
  refine jT_fR [0] 16 (y := 191) (pcN := 25) (dC := 0) (bc1 := 0) (bc2 := 0) (c1 := 0) (c2 := 0) (as := [(4, 0), (0, 1), (0, 1)]) (asC := [(4, 0), (0, 1), (0, 1)]) (LN := [(0, (4, 0)), (1, (0, 0)), (2, (0, x2))]) (stN := []) (hsC := [jgh]) (v := (0, 0)) (st2 := [(0, 0)]) (jA_191_38 (d := 0)) (by rfl) (by rfl) (by decide +kernel) (by rfl) (by rfl) (by omega) (by omega) (by omega) (by omega) rfl ?_
  refine jT_xifF (t := 40) (pcN := 28) jI_257_25 rfl (by decide +kernel) rfl rfl ?_
  refine jT_xaload_n (v := (4, 0)) (pcN := 29) jI_257_28 rfl rfl rfl ?_
  refine jT_xiload_n (v := (0, x2)) (pcN := 30) jI_257_29 rfl rfl rfl ?_
  refine jT_fR [] 16 (y := 188) (pcN := 33) (dC := 1) (bc1 := 0) (bc2 := 0) (c1 := 0) (c2 := 0) (as := [(0, x2)]) (asC := [(0, x2)]) (LN := [(0, (4, 0)), (1, (0, 0)), (2, (0, x2))]) (stN := [(4, 0)]) (hsC := []) (v := (0, 0)) (st2 := [(0, 0), (4, 0)]) (jA_188_63 (d := 0) (by omega)) (by rfl) (by rfl) (by decide +kernel) (by rfl) (by rfl) (by omega) (by omega) (by omega) (by omega) rfl ?_
  refine jT_xiconst (k := 2) (pcN := 34) jI_257_33 rfl ?_
  refine jT_fB [0, 1, 2, 3, 4, 5, 6, 7, 8, 9, 10, 11, 12, 13, 14, 15] 16 (y := 191) (pcN := 37) (dC := 0) (bc1 := 0) (bc2 := 0) (c1 := 0) (c2 := 0) (as := [(4, 0), (0, 0), (0, 2)]) (asC := [(4, 0), (0, 0), (0, 2)]) (LN := [(0, (4, 0)), (1, (0, 0)), (2, (0, x2))]) (stN := []) (hsC := jpA_22) (hsD := jpA_361) (v := (0, 1)) (st2 := [(0, 1)]) (hs2 := jpA_2089) (jA_191_99 (d := 0)) (by rfl) (by rfl) (by decide +kernel) (by rfl) (by rfl) (by omega) (by omega) (by omega) (by omega) rfl (by decide +kernel) ?_
  refine jT_xifF (t := 42) (pcN := 40) jI_257_37 rfl (by decide +kernel) rfl rfl ?_
  refine jT_xiconst (k := 0) (pcN := 41) jI_257_40 rfl ?_
  exact jT_ret rfl (by decide) (by show 16 ≤ 16; decide) (by omega) (by omega) ⟨rfl, rfl, rfl⟩
theorem jA_116_695 {xs : List Int} {d : Nat} {x1 : Int} (h_x1 : 1 ≤ x1 ∧ x1 ≤ 2147483647) : jT xs d 116 1 0 [(0, (4, 0)), (1, (0, x1)), (2, (0, 0)), (3, (0, 0))] [] [jgh] 1 6 (fun k v hsN => k = 1 ∧ v = (0, 1) ∧ hsN = [jgh] ++ []) := by
  refine jT_xiload_n (v := (0, x1)) (pcN := 1) jI_116_0 rfl rfl rfl ?_
  refine jT_xiload_n (v := (0, 0)) (pcN := 2) jI_116_1 rfl rfl rfl ?_
  refine jT_icF (a := x1) (b := 0) (t := 10) (by rfl) (by rfl) (by rfl) (jw_idd (by omega) (by omega)) (jw_idd (by omega) (by omega)) (by simp only [jcP] <;> omega) ?_
  refine jT_xiload_n (v := (0, x1)) (pcN := 6) jI_116_5 rfl rfl rfl ?_
  refine jT_xiload_n (v := (0, 0)) (pcN := 7) jI_116_6 rfl rfl rfl ?_
  refine jT_icF (a := x1) (b := 0) (t := 21) (by rfl) (by rfl) (by rfl) (jw_idd (by omega) (by omega)) (jw_idd (by omega) (by omega)) (by simp only [jcP] <;> omega) ?_
  exact jT_ret (c1 := 1) (s1 := 6) rfl (by decide) (by show 1 ≤ 1; decide) (by omega) (by omega) ⟨rfl, rfl, rfl⟩
theorem jA_135_696 {xs : List Int} {d : Nat} {x1 x2 : Int} (h_x1 : 1 ≤ x1 ∧ x1 ≤ 2147483647) (h_x2 : (-2147483648) ≤ x2 ∧ x2 ≤ 2147483647) : jT xs (d + 1) 135 17 0 [(0, (4, 0)), (1, (0, x1)), (2, (0, x2))] [] jpA_2660 1 6 (fun k v hsN => k = 1 ∧ v = (0, 1) ∧ hsN = jpA_2660 ++ []) := by
  refine jT_xaload_n (v := (4, 0)) (pcN := 1) jI_135_0 rfl rfl rfl ?_
  refine jT_xiload_n (v := (0, x1)) (pcN := 2) jI_135_1 rfl rfl rfl ?_
  refine jT_xiconst (k := 0) (pcN := 3) jI_135_2 rfl ?_
  refine jT_xaload_n (v := (4, 0)) (pcN := 4) jI_135_3 rfl rfl rfl ?_
  refine jT_xgetf (a := 0) (t := 1) (ci := 13) (fi := 11) (c := jzA_5) (v := (4, 11)) (pcN := 7) jI_135_4 rfl rfl rfl rfl rfl rfl rfl ?_
  refine jT_xgetf (a := 11) (t := 2) (ci := 9) (fi := 4) (c := jzA_88) (v := (4, 16)) (pcN := 10) jI_135_7 rfl rfl rfl rfl rfl rfl rfl ?_
  refine jT_adv 1 (pcN := 11) (LN := [(0, (4, 0)), (1, (0, x1)), (2, (0, x2))]) (stN := [(0, 0), (0, 0), (0, x1), (4, 0)]) (hsN := jpA_2660) (c1 := 0) (s1 := 0) (c2 := 1) (s2 := 6) (by exact rfl) ?_ (by omega) (by omega)
  exact jT_fX [0] 17 (y := 116) (pcN := 14) (dC := 0) (bc1 := 1) (bc2 := 6) (as := [(4, 0), (0, x1), (0, 0), (0, 0)]) (asC := [(4, 0), (0, x1), (0, 0), (0, 0)]) (LN := [(0, (4, 0)), (1, (0, x1)), (2, (0, x2))]) (stN := []) (hsC := [jgh]) (e := 1) (jA_116_695 (d := 0) (by omega)) (by rfl) (by rfl) (by decide +kernel) (by rfl) (by rfl) (by omega) (by omega) (by omega) (by omega) ⟨rfl, ⟨rfl, rfl, rfl⟩⟩
theorem jA_342_697 {xs : List Int} {d : Nat} {x1 x2 : Int} (h_x1 : 1 ≤ x1 ∧ x1 ≤ 2147483647) (h_x2 : (-2147483648) ≤ x2 ∧ x2 ≤ 2147483647) : jT xs (d + 2) 342 18 0 [(0, (4, 0)), (1, (0, x1)), (2, (0, x2)), (3, (4, 1))] [] jpA_2666 1 6 (fun k v hsN => k = 0 ∧ v = (0, 1) ∧ hsN = jpA_2666 ++ []) := by
  refine jT_xaload_n (v := (4, 1)) (pcN := 1) jI_342_0 rfl rfl rfl ?_
  refine jT_xiconst (k := 0) (pcN := 2) jI_342_1 rfl ?_
  refine jT_xaload_n (v := (4, 0)) (pcN := 3) jI_342_2 rfl rfl rfl ?_
  refine jT_xiload_n (v := (0, x1)) (pcN := 4) jI_342_3 rfl rfl rfl ?_
  refine jT_xiload_n (v := (0, x2)) (pcN := 5) jI_342_4 rfl rfl rfl ?_
  exact jT_fX [0, 2, 3, 4, 5, 6, 7, 8, 9, 10, 11, 12, 13, 14, 15, 16, 17] 18 (y := 135) (pcN := 8) (dC := 1) (bc1 := 1) (bc2 := 6) (as := [(4, 0), (0, x1), (0, x2)]) (asC := [(4, 0), (0, x1), (0, x2)]) (LN := [(0, (4, 0)), (1, (0, x1)), (2, (0, x2)), (3, (4, 1))]) (stN := [(0, 0), (4, 1)]) (hsC := jpA_2660) (e := 1) (jA_135_696 (d := 0) (by omega) (by omega)) (by rfl) (by rfl) (by decide +kernel) (by rfl) (by rfl) (by omega) (by omega) (by omega) (by omega) (show _ from ⟨rfl, rfl, rfl⟩)
theorem jA_257_698 {xs : List Int} {d : Nat} {x1 x2 : Int} (h_x1 : 1 ≤ x1 ∧ x1 ≤ 2147483647) (h_x2 : (-2147483648) ≤ x2 ∧ x2 ≤ 2147483647) : jT xs (d + 1) 257 16 0 [(0, (4, 0)), (1, (0, x1)), (2, (0, x2))] [] jpA_1519 0 0 (fun k v hsN => k = 0 ∧ v = (0, 0) ∧ hsN = jpA_1820) := by
  refine jT_xaload_n (v := (4, 0)) (pcN := 1) jI_257_0 rfl rfl rfl ?_
  refine jT_xiconst (k := 0) (pcN := 2) jI_257_1 rfl ?_
  refine jT_adv 1 (pcN := 5) (LN := [(0, (4, 0)), (1, (0, x1)), (2, (0, x2))]) (stN := []) (hsN := jpA_1519) (c1 := 0) (s1 := 0) (c2 := 0) (s2 := 0) (by exact rfl) ?_ (by omega) (by omega)
  refine jT_xaload_n (v := (4, 0)) (pcN := 6) jI_257_5 rfl rfl rfl ?_
  refine jT_xiload_n (v := (0, x1)) (pcN := 7) jI_257_6 rfl rfl rfl ?_
  refine jT_xi2l (x := x1) (z := x1) (pcN := 8) jI_257_7 rfl (jw_idd (by omega) (by omega)) rfl ?_
  refine jT_xlconst (z := 0) (pcN := 9) jI_257_8 rfl rfl ?_
  refine jT_xaload_n (v := (4, 0)) (pcN := 10) jI_257_9 rfl rfl rfl ?_
  refine jT_xgetf (a := 0) (t := 1) (ci := 14) (fi := 1) (c := jzA_21) (v := (4, 1)) (pcN := 13) jI_257_10 rfl rfl rfl rfl rfl rfl rfl ?_
  refine jT_xsipush (k := 1192) (pcN := 16) jI_257_13 (by decide) rfl ?_
  refine jT_iald (x := 0) (a := 1) (j := 1192) (fs := []) (X := jS0) (by rfl) (by rfl) (by rfl) (by rfl) (by decide +kernel) ?_
  refine jT_eq (LN := [(0, (4, 0)), (1, (0, x1)), (2, (0, x2))]) (stN := [(0, 0), (1, 0), (1, x1), (4, 0)]) (hsN := jpA_1519) rfl rfl rfl ?_
  refine jT_xi2l (x := 0) (z := 0) (pcN := 18) jI_257_17 rfl (by decide +kernel) rfl ?_
  refine jT_fR [] 16 (y := 189) (pcN := 21) (dC := 0) (bc1 := 0) (bc2 := 0) (c1 := 0) (c2 := 0) (as := [(1, x1), (1, 0), (1, 0)]) (asC := [(1, x1), (1, 0), (1, 0)]) (LN := [(0, (4, 0)), (1, (0, x1)), (2, (0, x2))]) (stN := [(4, 0)]) (hsC := []) (v := (0, 0)) (st2 := [(0, 0), (4, 0)]) (jT_in_hi (d := 0) (v := x1) (lo := 0) (hi := 0) (by omega) (by omega) (by omega) (by omega) (by omega)) (by rfl) (by rfl) (by decide +kernel) (by rfl) (by rfl) (by omega) (by omega) (by omega) (by omega) rfl ?_
  refine jT_xiconst (k := 1) (pcN := 22) jI_257_21 rfl ?_
  refine jT_fB [0, 1, 2, 3, 4, 5, 6, 7, 8, 9, 10, 11, 12, 13, 14, 15] 16 (y := 191) (pcN := 25) (dC := 0) (bc1 := 0) (bc2 := 0) (c1 := 0) (c2 := 0) (as := [(4, 0), (0, 0), (0, 1)]) (asC := [(4, 0), (0, 0), (0, 1)]) (LN := [(0, (4, 0)), (1, (0, x1)), (2, (0, x2))]) (stN := []) (hsC := jpA_22) (hsD := jpA_20) (v := (0, 1)) (st2 := [(0, 1)]) (hs2 := jpA_1820) (jA_191_5 (d := 0)) (by rfl) (by rfl) (by decide +kernel) (by rfl) (by rfl) (by omega) (by omega) (by omega) (by omega) rfl (by decide +kernel) ?_
  refine jT_xifT (pcN := 40) jI_257_25 rfl (by decide +kernel) rfl ?_
  refine jT_xiconst (k := 0) (pcN := 41) jI_257_40 rfl ?_
  exact jT_ret rfl (by decide) (by show 16 ≤ 16; decide) (by omega) (by omega) ⟨rfl, rfl, rfl⟩
theorem jI_379_1546 : jmI (jm 379) 1546 = (.aload_n 1, 1) := by rfl
theorem jI_379_1547 : jmI (jm 379) 1547 = (.aload_n 0, 1) := by rfl
theorem jI_379_1548 : jmI (jm 379) 1548 = (.iload 5, 2) := by rfl
theorem jI_379_1550 : jmI (jm 379) 1550 = (.iconst 1, 1) := by rfl
theorem jI_379_1551 : jmI (jm 379) 1551 = (.iadd, 1) := by rfl
def jpA_2752 : List JC := [jzA_265, jzA_266, jgh, jgh, jgh, jgh, jgh, jgh, jgh, jgh, jgh, jgh, jgh, jgh, jzA_322, (100, [], jS0), jgh, jgh, jgh, jgh, jgh, jgh, jgh, jgh, jgh, jgh, jgh, jgh, jgh, jgh, jgh, jgh, jgh, jgh, (114, [], [])]
theorem jI_379_1553 : jmI (jm 379) 1553 = (.aload_n 0, 1) := by rfl
theorem jI_379_1554 : jmI (jm 379) 1554 = (.iload 5, 2) := by rfl
theorem jI_379_1556 : jmI (jm 379) 1556 = (.iconst 2, 1) := by rfl
theorem jI_379_1557 : jmI (jm 379) 1557 = (.iadd, 1) := by rfl
theorem jI_379_1559 : jmI (jm 379) 1559 = (.aload_n 3, 1) := by rfl
theorem jI_379_1563 : jmI (jm 379) 1563 = (.istore 6, 2) := by rfl
theorem jI_379_1565 : jmI (jm 379) 1565 = (.aload_n 2, 1) := by rfl
theorem jI_379_1566 : jmI (jm 379) 1566 = (.aload_n 0, 1) := by rfl
theorem jI_379_1567 : jmI (jm 379) 1567 = (.iload 5, 2) := by rfl
theorem jI_379_1569 : jmI (jm 379) 1569 = (.iconst 1, 1) := by rfl
theorem jI_379_1570 : jmI (jm 379) 1570 = (.iadd, 1) := by rfl
theorem jI_379_1572 : jmI (jm 379) 1572 = (.aload_n 0, 1) := by rfl
theorem jI_379_1573 : jmI (jm 379) 1573 = (.iload 5, 2) := by rfl
theorem jI_379_1575 : jmI (jm 379) 1575 = (.iconst 2, 1) := by rfl
theorem jI_379_1576 : jmI (jm 379) 1576 = (.iadd, 1) := by rfl
def jpA_2768 : List JC := [jzA_265, jzA_305, jgh, jgh, jgh, jgh, jgh, jgh, jgh, jgh, jgh, jgh, jgh, jgh, jzA_322, (100, [], jS0), jgh, jgh, jgh, jgh, jgh, jgh, jgh, jgh, jgh, jgh, jgh, jgh, jgh, jgh, jgh, jgh, jgh, jgh, (114, [], [])]
theorem jI_379_1581 : jmI (jm 379) 1581 = (.istore 7, 2) := by rfl
theorem jI_379_1583 : jmI (jm 379) 1583 = (.aload_n 2, 1) := by rfl
theorem jI_379_1587 : jmI (jm 379) 1587 = (.iload 6, 2) := by rfl
theorem jI_379_1589 : jmI (jm 379) 1589 = (.if_icmp .eq 5, 3) := by rfl
theorem jI_379_1594 : jmI (jm 379) 1594 = (.iload 6, 2) := by rfl
theorem jI_379_1596 : jmI (jm 379) 1596 = (.ifCond .ne 15, 3) := by rfl
theorem jI_379_1611 : jmI (jm 379) 1611 = (.goto 2129, 3) := by rfl
set_option maxRecDepth 100000 in
theorem jL_16_0 {d : Nat} {x0 x1 x2 x3 x4 : Int} (h_x0 : (-2147483648) ≤ x0 ∧ x0 ≤ 2147483647) (h_x1 : (-2147483648) ≤ x1 ∧ x1 ≤ (-1)) (h_x2 : (-2147483648) ≤ x2 ∧ x2 ≤ 2147483647) (h_x3 : (-2147483648) ≤ x3 ∧ x3 ≤ 2147483647) (h_x4 : (-2147483648) ≤ x4 ∧ x4 ≤ 2147483647) : jT [x0, x1, x2, x3, x4] (d + 3) 379 35 1546 [(5, (0, 0)), (4, (4, 3)), (3, (4, 2)), (2, (4, 1)), (1, (4, 0)), (0, (6, 0))] [] jpA_2752 1 6 (fun k v hsN => k = 0 ∧ v = (0, 1)) := by
  refine jT_xaload_n (v := (4, 0)) (pcN := 1547) jI_379_1546 rfl rfl rfl ?_
  refine jT_xaload_n (v := (6, 0)) (pcN := 1548) jI_379_1547 rfl rfl rfl ?_
  refine jT_xiload (v := (0, 0)) (pcN := 1550) jI_379_1548 rfl rfl rfl ?_
  refine jT_xiconst (k := 1) (pcN := 1551) jI_379_1550 rfl ?_
  refine jT_xiadd (x := 0) (y := 1) (z := 1) (pcN := 1552) jI_379_1551 rfl (by decide) rfl ?_
  refine jT_adv 1 (pcN := 1553) (LN := [(5, (0, 0)), (4, (4, 3)), (3, (4, 2)), (2, (4, 1)), (1, (4, 0)), (0, (6, 0))]) (stN := [(0, x1), (4, 0)]) (hsN := jpA_2752) (c1 := 0) (s1 := 0) (c2 := 1) (s2 := 6) (by exact rfl) ?_ (by omega) (by omega)
  refine jT_xaload_n (v := (6, 0)) (pcN := 1554) jI_379_1553 rfl rfl rfl ?_
  refine jT_xiload (v := (0, 0)) (pcN := 1556) jI_379_1554 rfl rfl rfl ?_
  refine jT_xiconst (k := 2) (pcN := 1557) jI_379_1556 rfl ?_
  refine jT_xiadd (x := 0) (y := 2) (z := 2) (pcN := 1558) jI_379_1557 rfl (by decide) rfl ?_
  refine jT_adv 1 (pcN := 1559) (LN := [(5, (0, 0)), (4, (4, 3)), (3, (4, 2)), (2, (4, 1)), (1, (4, 0)), (0, (6, 0))]) (stN := [(0, x2), (0, x1), (4, 0)]) (hsN := jpA_2752) (c1 := 0) (s1 := 0) (c2 := 1) (s2 := 6) (by exact rfl) ?_ (by omega) (by omega)
  refine jT_xaload_n (v := (4, 2)) (pcN := 1560) jI_379_1559 rfl rfl rfl ?_
  refine jT_fR [0, 2, 4, 5, 6, 7, 8, 9, 10, 11, 12, 13, 14, 30, 31, 32, 33, 34] 35 (y := 342) (pcN := 1563) (dC := 2) (bc1 := 1) (bc2 := 6) (c1 := 0) (c2 := 0) (as := [(4, 0), (0, x1), (0, x2), (4, 2)]) (asC := [(4, 0), (0, x1), (0, x2), (4, 1)]) (LN := [(5, (0, 0)), (4, (4, 3)), (3, (4, 2)), (2, (4, 1)), (1, (4, 0)), (0, (6, 0))]) (stN := []) (hsC := jpA_2666) (v := (0, 1)) (st2 := [(0, 1)]) (jA_342_670 (d := 0) (by omega) (by omega)) (by rfl) (by rfl) (by decide +kernel) (by rfl) (by rfl) (by omega) (by omega) (by omega) (by omega) rfl ?_
  refine jT_xistore (v := (0, 1)) (LN := [(6, (0, 1)), (5, (0, 0)), (4, (4, 3)), (3, (4, 2)), (2, (4, 1)), (1, (4, 0)), (0, (6, 0))]) (pcN := 1565) jI_379_1563 rfl rfl rfl rfl ?_
  refine jT_xaload_n (v := (4, 1)) (pcN := 1566) jI_379_1565 rfl rfl rfl ?_
  refine jT_xaload_n (v := (6, 0)) (pcN := 1567) jI_379_1566 rfl rfl rfl ?_
  refine jT_xiload (v := (0, 0)) (pcN := 1569) jI_379_1567 rfl rfl rfl ?_
  refine jT_xiconst (k := 1) (pcN := 1570) jI_379_1569 rfl ?_
  refine jT_xiadd (x := 0) (y := 1) (z := 1) (pcN := 1571) jI_379_1570 rfl (by decide) rfl ?_
  refine jT_adv 1 (pcN := 1572) (LN := [(6, (0, 1)), (5, (0, 0)), (4, (4, 3)), (3, (4, 2)), (2, (4, 1)), (1, (4, 0)), (0, (6, 0))]) (stN := [(0, x1), (4, 1)]) (hsN := jpA_2752) (c1 := 0) (s1 := 0) (c2 := 0) (s2 := 0) (by exact rfl) ?_ (by omega) (by omega)
  refine jT_xaload_n (v := (6, 0)) (pcN := 1573) jI_379_1572 rfl rfl rfl ?_
  refine jT_xiload (v := (0, 0)) (pcN := 1575) jI_379_1573 rfl rfl rfl ?_
  refine jT_xiconst (k := 2) (pcN := 1576) jI_379_1575 rfl ?_
  refine jT_xiadd (x := 0) (y := 2) (z := 2) (pcN := 1577) jI_379_1576 rfl (by decide) rfl ?_
  refine jT_adv 1 (pcN := 1578) (LN := [(6, (0, 1)), (5, (0, 0)), (4, (4, 3)), (3, (4, 2)), (2, (4, 1)), (1, (4, 0)), (0, (6, 0))]) (stN := [(0, x2), (0, x1), (4, 1)]) (hsN := jpA_2752) (c1 := 0) (s1 := 0) (c2 := 0) (s2 := 0) (by exact rfl) ?_ (by omega) (by omega)
  refine jT_fB [1, 15, 16, 17, 18, 19, 20, 21, 22, 23, 24, 25, 26, 27, 28, 29] 35 (y := 257) (pcN := 1581) (dC := 1) (bc1 := 0) (bc2 := 0) (c1 := 0) (c2 := 0) (as := [(4, 1), (0, x1), (0, x2)]) (asC := [(4, 0), (0, x1), (0, x2)]) (LN := [(6, (0, 1)), (5, (0, 0)), (4, (4, 3)), (3, (4, 2)), (2, (4, 1)), (1, (4, 0)), (0, (6, 0))]) (stN := []) (hsC := jpA_1519) (hsD := jpA_1820) (v := (0, 0)) (st2 := [(0, 0)]) (hs2 := jpA_2768) (jA_257_671 (d := 0) (by omega) (by omega)) (by rfl) (by rfl) (by decide +kernel) (by rfl) (by rfl) (by omega) (by omega) (by omega) (by omega) rfl (by decide +kernel) ?_
  refine jT_xistore (v := (0, 0)) (LN := [(7, (0, 0)), (6, (0, 1)), (5, (0, 0)), (4, (4, 3)), (3, (4, 2)), (2, (4, 1)), (1, (4, 0)), (0, (6, 0))]) (pcN := 1583) jI_379_1581 rfl rfl rfl rfl ?_
  refine jT_xaload_n (v := (4, 1)) (pcN := 1584) jI_379_1583 rfl rfl rfl ?_
  refine jT_fR [1, 15, 16, 17, 18, 19, 20, 21, 22, 23, 24, 25, 26, 27, 28, 29] 35 (y := 186) (pcN := 1587) (dC := 0) (bc1 := 0) (bc2 := 0) (c1 := 0) (c2 := 0) (as := [(4, 1)]) (asC := [(4, 0)]) (LN := [(7, (0, 0)), (6, (0, 1)), (5, (0, 0)), (4, (4, 3)), (3, (4, 2)), (2, (4, 1)), (1, (4, 0)), (0, (6, 0))]) (stN := []) (hsC := jpA_20) (v := (0, 1)) (st2 := [(0, 1)]) (jA_186_8 (d := 0)) (by rfl) (by rfl) (by decide +kernel) (by rfl) (by rfl) (by omega) (by omega) (by omega) (by omega) rfl ?_
  refine jT_xiload (v := (0, 1)) (pcN := 1589) jI_379_1587 rfl rfl rfl ?_
  refine jT_xicT (pcN := 1594) jI_379_1589 rfl (by decide +kernel) rfl ?_
  refine jT_xiload (v := (0, 1)) (pcN := 1596) jI_379_1594 rfl rfl rfl ?_
  refine jT_xifT (pcN := 1611) jI_379_1596 rfl (by decide +kernel) rfl ?_
  refine jT_xgoto (pcN := 3740) jI_379_1611 rfl ?_
  refine jT_xiinc (x := 0) (z := 5) (LN := [(5, (0, 5)), (7, (0, 0)), (6, (0, 1)), (4, (4, 3)), (3, (4, 2)), (2, (4, 1)), (1, (4, 0)), (0, (6, 0))]) (pcN := 3743) jI_379_3740 rfl rfl (by decide) rfl rfl ?_
  refine jT_xgoto (pcN := 28) jI_379_3743 rfl ?_
  refine jT_xiload (v := (0, 5)) (pcN := 30) jI_379_28 rfl rfl rfl ?_
  refine jT_xaload_n (v := (6, 0)) (pcN := 31) jI_379_30 rfl rfl rfl ?_
  refine jT_adv 1 (pcN := 32) (LN := [(5, (0, 5)), (7, (0, 0)), (6, (0, 1)), (4, (4, 3)), (3, (4, 2)), (2, (4, 1)), (1, (4, 0)), (0, (6, 0))]) (stN := [(0, 5), (0, 5)]) (hsN := jpA_2768) (c1 := 0) (s1 := 0) (c2 := 0) (s2 := 0) (by exact rfl) ?_ (by omega) (by omega)
  refine jT_xiconst (k := 5) (pcN := 33) jI_379_32 rfl ?_
  refine jT_xisub (x := 5) (y := 5) (z := 0) (pcN := 34) jI_379_33 rfl (by decide) rfl ?_
  refine jT_xicT (pcN := 3746) jI_379_34 rfl (by decide +kernel) rfl ?_
  refine jT_xiconst (k := 1) (pcN := 3747) jI_379_3746 rfl ?_
  exact jT_ret rfl (by decide) (by show 35 ≤ 35; decide) (by omega) (by omega) ⟨rfl, rfl⟩
def jpA_2776 : List JC := [jzA_265, jzA_606, jgh, jgh, jgh, jgh, jgh, jgh, jgh, jgh, jgh, jgh, jgh, jgh, jzA_322, (100, [], jS0), jgh, jgh, jgh, jgh, jgh, jgh, jgh, jgh, jgh, jgh, jgh, jgh, jgh, jgh, jgh, jgh, jgh, jgh, (114, [], [])]
set_option maxRecDepth 100000 in
theorem jL_16_1 {d : Nat} {x0 x1 x2 x3 x4 : Int} (h_x0 : (-2147483648) ≤ x0 ∧ x0 ≤ 2147483647) (h_x1 : 0 ≤ x1 ∧ x1 ≤ 0) (h_x2 : (-2147483648) ≤ x2 ∧ x2 ≤ (-1)) (h_x3 : (-2147483648) ≤ x3 ∧ x3 ≤ 2147483647) (h_x4 : (-2147483648) ≤ x4 ∧ x4 ≤ 2147483647) : jT [x0, x1, x2, x3, x4] (d + 3) 379 35 1546 [(5, (0, 0)), (4, (4, 3)), (3, (4, 2)), (2, (4, 1)), (1, (4, 0)), (0, (6, 0))] [] jpA_2752 1 6 (fun k v hsN => k = 0 ∧ v = (0, 1)) := by
  refine jT_xaload_n (v := (4, 0)) (pcN := 1547) jI_379_1546 rfl rfl rfl ?_
  refine jT_xaload_n (v := (6, 0)) (pcN := 1548) jI_379_1547 rfl rfl rfl ?_
  refine jT_xiload (v := (0, 0)) (pcN := 1550) jI_379_1548 rfl rfl rfl ?_
  refine jT_xiconst (k := 1) (pcN := 1551) jI_379_1550 rfl ?_
  refine jT_xiadd (x := 0) (y := 1) (z := 1) (pcN := 1552) jI_379_1551 rfl (by decide) rfl ?_
  refine jT_adv 1 (pcN := 1553) (LN := [(5, (0, 0)), (4, (4, 3)), (3, (4, 2)), (2, (4, 1)), (1, (4, 0)), (0, (6, 0))]) (stN := [(0, x1), (4, 0)]) (hsN := jpA_2752) (c1 := 0) (s1 := 0) (c2 := 1) (s2 := 6) (by exact rfl) ?_ (by omega) (by omega)
  refine jT_eq (LN := [(5, (0, 0)), (4, (4, 3)), (3, (4, 2)), (2, (4, 1)), (1, (4, 0)), (0, (6, 0))]) (stN := [(0, 0), (4, 0)]) (hsN := [jzA_265, jzA_266, jgh, jgh, jgh, jgh, jgh, jgh, jgh, jgh, jgh, jgh, jgh, jgh, jzA_322, (100, [], jS0), jgh, jgh, jgh, jgh, jgh, jgh, jgh, jgh, jgh, jgh, jgh, jgh, jgh, jgh, jgh, jgh, jgh, jgh, (114, [], [])]) (rfl) (by simp only [List.cons.injEq, Prod.mk.injEq, and_true, true_and] <;> ((try unfold jw); (try unfold jwl); omega)) (rfl) ?_
  refine jT_xaload_n (v := (6, 0)) (pcN := 1554) jI_379_1553 rfl rfl rfl ?_
  refine jT_xiload (v := (0, 0)) (pcN := 1556) jI_379_1554 rfl rfl rfl ?_
  refine jT_xiconst (k := 2) (pcN := 1557) jI_379_1556 rfl ?_
  refine jT_xiadd (x := 0) (y := 2) (z := 2) (pcN := 1558) jI_379_1557 rfl (by decide) rfl ?_
  refine jT_adv 1 (pcN := 1559) (LN := [(5, (0, 0)), (4, (4, 3)), (3, (4, 2)), (2, (4, 1)), (1, (4, 0)), (0, (6, 0))]) (stN := [(0, x2), (0, 0), (4, 0)]) (hsN := jpA_2752) (c1 := 0) (s1 := 0) (c2 := 1) (s2 := 6) (by exact rfl) ?_ (by omega) (by omega)
  refine jT_xaload_n (v := (4, 2)) (pcN := 1560) jI_379_1559 rfl rfl rfl ?_
  refine jT_fR [0, 2, 4, 5, 6, 7, 8, 9, 10, 11, 12, 13, 14, 30, 31, 32, 33, 34] 35 (y := 342) (pcN := 1563) (dC := 2) (bc1 := 1) (bc2 := 6) (c1 := 0) (c2 := 0) (as := [(4, 0), (0, 0), (0, x2), (4, 2)]) (asC := [(4, 0), (0, 0), (0, x2), (4, 1)]) (LN := [(5, (0, 0)), (4, (4, 3)), (3, (4, 2)), (2, (4, 1)), (1, (4, 0)), (0, (6, 0))]) (stN := []) (hsC := jpA_2666) (v := (0, 2)) (st2 := [(0, 2)]) (jA_342_674 (d := 0) (by omega)) (by rfl) (by rfl) (by decide +kernel) (by rfl) (by rfl) (by omega) (by omega) (by omega) (by omega) rfl ?_
  refine jT_xistore (v := (0, 2)) (LN := [(6, (0, 2)), (5, (0, 0)), (4, (4, 3)), (3, (4, 2)), (2, (4, 1)), (1, (4, 0)), (0, (6, 0))]) (pcN := 1565) jI_379_1563 rfl rfl rfl rfl ?_
  refine jT_xaload_n (v := (4, 1)) (pcN := 1566) jI_379_1565 rfl rfl rfl ?_
  refine jT_xaload_n (v := (6, 0)) (pcN := 1567) jI_379_1566 rfl rfl rfl ?_
  refine jT_xiload (v := (0, 0)) (pcN := 1569) jI_379_1567 rfl rfl rfl ?_
  refine jT_xiconst (k := 1) (pcN := 1570) jI_379_1569 rfl ?_
  refine jT_xiadd (x := 0) (y := 1) (z := 1) (pcN := 1571) jI_379_1570 rfl (by decide) rfl ?_
  refine jT_adv 1 (pcN := 1572) (LN := [(6, (0, 2)), (5, (0, 0)), (4, (4, 3)), (3, (4, 2)), (2, (4, 1)), (1, (4, 0)), (0, (6, 0))]) (stN := [(0, x1), (4, 1)]) (hsN := jpA_2752) (c1 := 0) (s1 := 0) (c2 := 0) (s2 := 0) (by exact rfl) ?_ (by omega) (by omega)
  refine jT_eq (LN := [(6, (0, 2)), (5, (0, 0)), (4, (4, 3)), (3, (4, 2)), (2, (4, 1)), (1, (4, 0)), (0, (6, 0))]) (stN := [(0, 0), (4, 1)]) (hsN := [jzA_265, jzA_266, jgh, jgh, jgh, jgh, jgh, jgh, jgh, jgh, jgh, jgh, jgh, jgh, jzA_322, (100, [], jS0), jgh, jgh, jgh, jgh, jgh, jgh, jgh, jgh, jgh, jgh, jgh, jgh, jgh, jgh, jgh, jgh, jgh, jgh, (114, [], [])]) (rfl) (by simp only [List.cons.injEq, Prod.mk.injEq, and_true, true_and] <;> ((try unfold jw); (try unfold jwl); omega)) (rfl) ?_
  refine jT_xaload_n (v := (6, 0)) (pcN := 1573) jI_379_1572 rfl rfl rfl ?_
  refine jT_xiload (v := (0, 0)) (pcN := 1575) jI_379_1573 rfl rfl rfl ?_
  refine jT_xiconst (k := 2) (pcN := 1576) jI_379_1575 rfl ?_
  refine jT_xiadd (x := 0) (y := 2) (z := 2) (pcN := 1577) jI_379_1576 rfl (by decide) rfl ?_
  refine jT_adv 1 (pcN := 1578) (LN := [(6, (0, 2)), (5, (0, 0)), (4, (4, 3)), (3, (4, 2)), (2, (4, 1)), (1, (4, 0)), (0, (6, 0))]) (stN := [(0, x2), (0, 0), (4, 1)]) (hsN := jpA_2752) (c1 := 0) (s1 := 0) (c2 := 0) (s2 := 0) (by exact rfl) ?_ (by omega) (by omega)
  refine jT_fB [1, 15, 16, 17, 18, 19, 20, 21, 22, 23, 24, 25, 26, 27, 28, 29] 35 (y := 257) (pcN := 1581) (dC := 2) (bc1 := 0) (bc2 := 0) (c1 := 0) (c2 := 0) (as := [(4, 1), (0, 0), (0, x2)]) (asC := [(4, 0), (0, 0), (0, x2)]) (LN := [(6, (0, 2)), (5, (0, 0)), (4, (4, 3)), (3, (4, 2)), (2, (4, 1)), (1, (4, 0)), (0, (6, 0))]) (stN := []) (hsC := jpA_1519) (hsD := jpA_2089) (v := (0, 0)) (st2 := [(0, 0)]) (hs2 := jpA_2776) (jA_257_675 (d := 0) (by omega)) (by rfl) (by rfl) (by decide +kernel) (by rfl) (by rfl) (by omega) (by omega) (by omega) (by omega) rfl (by decide +kernel) ?_
  refine jT_xistore (v := (0, 0)) (LN := [(7, (0, 0)), (6, (0, 2)), (5, (0, 0)), (4, (4, 3)), (3, (4, 2)), (2, (4, 1)), (1, (4, 0)), (0, (6, 0))]) (pcN := 1583) jI_379_1581 rfl rfl rfl rfl ?_
  refine jT_xaload_n (v := (4, 1)) (pcN := 1584) jI_379_1583 rfl rfl rfl ?_
  refine jT_fR [1, 15, 16, 17, 18, 19, 20, 21, 22, 23, 24, 25, 26, 27, 28, 29] 35 (y := 186) (pcN := 1587) (dC := 0) (bc1 := 0) (bc2 := 0) (c1 := 0) (c2 := 0) (as := [(4, 1)]) (asC := [(4, 0)]) (LN := [(7, (0, 0)), (6, (0, 2)), (5, (0, 0)), (4, (4, 3)), (3, (4, 2)), (2, (4, 1)), (1, (4, 0)), (0, (6, 0))]) (stN := []) (hsC := jpA_361) (v := (0, 2)) (st2 := [(0, 2)]) (jA_186_101 (d := 0)) (by rfl) (by rfl) (by decide +kernel) (by rfl) (by rfl) (by omega) (by omega) (by omega) (by omega) rfl ?_
  refine jT_xiload (v := (0, 2)) (pcN := 1589) jI_379_1587 rfl rfl rfl ?_
  refine jT_xicT (pcN := 1594) jI_379_1589 rfl (by decide +kernel) rfl ?_
  refine jT_xiload (v := (0, 2)) (pcN := 1596) jI_379_1594 rfl rfl rfl ?_
  refine jT_xifT (pcN := 1611) jI_379_1596 rfl (by decide +kernel) rfl ?_
  refine jT_xgoto (pcN := 3740) jI_379_1611 rfl ?_
  refine jT_xiinc (x := 0) (z := 5) (LN := [(5, (0, 5)), (7, (0, 0)), (6, (0, 2)), (4, (4, 3)), (3, (4, 2)), (2, (4, 1)), (1, (4, 0)), (0, (6, 0))]) (pcN := 3743) jI_379_3740 rfl rfl (by decide) rfl rfl ?_
  refine jT_xgoto (pcN := 28) jI_379_3743 rfl ?_
  refine jT_xiload (v := (0, 5)) (pcN := 30) jI_379_28 rfl rfl rfl ?_
  refine jT_xaload_n (v := (6, 0)) (pcN := 31) jI_379_30 rfl rfl rfl ?_
  refine jT_adv 1 (pcN := 32) (LN := [(5, (0, 5)), (7, (0, 0)), (6, (0, 2)), (4, (4, 3)), (3, (4, 2)), (2, (4, 1)), (1, (4, 0)), (0, (6, 0))]) (stN := [(0, 5), (0, 5)]) (hsN := jpA_2776) (c1 := 0) (s1 := 0) (c2 := 0) (s2 := 0) (by exact rfl) ?_ (by omega) (by omega)
  refine jT_xiconst (k := 5) (pcN := 33) jI_379_32 rfl ?_
  refine jT_xisub (x := 5) (y := 5) (z := 0) (pcN := 34) jI_379_33 rfl (by decide) rfl ?_
  refine jT_xicT (pcN := 3746) jI_379_34 rfl (by decide +kernel) rfl ?_
  refine jT_xiconst (k := 1) (pcN := 3747) jI_379_3746 rfl ?_
  exact jT_ret rfl (by decide) (by show 35 ≤ 35; decide) (by omega) (by omega) ⟨rfl, rfl⟩
def jpA_2777 : List JC := [jzA_265, jzA_266, (101, [], [0]), jgh, (8, [(4, 30), (4, 31)], []), jgh, jgh, jgh, jgh, jgh, jgh, jgh, jgh, jzA_79, jzA_721, (100, [], jS0), (100, [], []), jzA_722, jzA_197, jgh, (130, [], [45, 46, 47, 48, 49, 50]), (101, [], [0, 0, 0, 0, 0, 0]), jgh, jgh, jgh, jgh, jgh, jgh, jgh, jgh, jgh, jgh, jzA_723, jgh, jgh, jgh, (114, [], []), (100, [], (List.replicate 1613 0)), jgh, jgh, jgh, jgh, jgh, jgh, jgh, (100, [], (jenc (jlg 0))), jgh, jgh, jgh, jgh, jgh, jgh]
def jzA_2778 : JC := (13, [(4, 4), (4, 5), (4, 6), (4, 7), (4, 8), (4, 9), (4, 10), (4, 11), (4, 12), (4, 13), (0, 1), (4, 55), (0, 0)], [])
def jzA_2779 : JC := (9, [(4, 54), (4, 33), (4, 34), (4, 35), (4, 36)], [])
def jpA_2780 : List JC := [jzA_2778, jzA_266, (101, [], [0]), jgh, (8, [(4, 30), (4, 31)], []), jgh, jgh, jgh, jgh, jgh, jgh, jgh, jgh, jzA_327, jzA_721, (100, [], jS0), (100, [], []), jzA_722, jzA_197, jgh, (130, [], [45, 46, 47, 48, 49, 50]), (101, [], [0, 0, 0, 0, 0, 0]), jgh, jgh, jgh, jgh, jgh, jgh, jgh, jgh, jgh, jgh, jzA_723, jgh, jgh, jgh, (114, [], []), (100, [], (List.replicate 1613 0)), jgh, jgh, jgh, jgh, jgh, jgh, jgh, (100, [], (jenc (jlg 0))), jgh, jgh, jgh, jgh, jgh, jgh, (101, [], [0, 0, 0, 0, 0, 0]), (4, [(4, 52), (1, 1)], []), jgh, jzA_2779]
theorem jI_379_1599 : jmI (jm 379) 1599 = (.aload_n 3, 1) := by rfl
theorem jI_379_1600 : jmI (jm 379) 1600 = (.iconst 0, 1) := by rfl
theorem jI_379_1601 : jmI (jm 379) 1601 = (.laload, 1) := by rfl
theorem jI_379_1602 : jmI (jm 379) 1602 = (.iload 7, 2) := by rfl
theorem jI_379_1604 : jmI (jm 379) 1604 = (.i2l, 1) := by rfl
theorem jI_379_1606 : jmI (jm 379) 1606 = (.ifCond .eq 5, 3) := by rfl
set_option maxRecDepth 100000 in
theorem jL_16_2 {d : Nat} {x0 x1 x2 x3 x4 : Int} (h_x0 : (-2147483648) ≤ x0 ∧ x0 ≤ 2147483647) (h_x1 : 0 ≤ x1 ∧ x1 ≤ 0) (h_x2 : 0 ≤ x2 ∧ x2 ≤ 7) (h_x3 : (-2147483648) ≤ x3 ∧ x3 ≤ 2147483647) (h_x4 : (-2147483648) ≤ x4 ∧ x4 ≤ 2147483647) : jT [x0, x1, x2, x3, x4] (d + 8) 379 52 1546 [(5, (0, 0)), (4, (4, 3)), (3, (4, 2)), (2, (4, 1)), (1, (4, 0)), (0, (6, 0))] [] jpA_2777 13 375 (fun k v hsN => k = 0 ∧ v = (0, 1)) := by
  refine jT_xaload_n (v := (4, 0)) (pcN := 1547) jI_379_1546 rfl rfl rfl ?_
  refine jT_xaload_n (v := (6, 0)) (pcN := 1548) jI_379_1547 rfl rfl rfl ?_
  refine jT_xiload (v := (0, 0)) (pcN := 1550) jI_379_1548 rfl rfl rfl ?_
  refine jT_xiconst (k := 1) (pcN := 1551) jI_379_1550 rfl ?_
  refine jT_xiadd (x := 0) (y := 1) (z := 1) (pcN := 1552) jI_379_1551 rfl (by decide) rfl ?_
  refine jT_adv 1 (pcN := 1553) (LN := [(5, (0, 0)), (4, (4, 3)), (3, (4, 2)), (2, (4, 1)), (1, (4, 0)), (0, (6, 0))]) (stN := [(0, x1), (4, 0)]) (hsN := jpA_2777) (c1 := 0) (s1 := 0) (c2 := 13) (s2 := 375) (by exact rfl) ?_ (by omega) (by omega)
  refine jT_eq (LN := [(5, (0, 0)), (4, (4, 3)), (3, (4, 2)), (2, (4, 1)), (1, (4, 0)), (0, (6, 0))]) (stN := [(0, 0), (4, 0)]) (hsN := [jzA_265, jzA_266, (101, [], [0]), jgh, (8, [(4, 30), (4, 31)], []), jgh, jgh, jgh, jgh, jgh, jgh, jgh, jgh, jzA_79, jzA_721, (100, [], jS0), (100, [], []), jzA_722, jzA_197, jgh, (130, [], [45, 46, 47, 48, 49, 50]), (101, [], [0, 0, 0, 0, 0, 0]), jgh, jgh, jgh, jgh, jgh, jgh, jgh, jgh, jgh, jgh, jzA_723, jgh, jgh, jgh, (114, [], []), (100, [], (List.replicate 1613 0)), jgh, jgh, jgh, jgh, jgh, jgh, jgh, (100, [], (jenc (jlg 0))), jgh, jgh, jgh, jgh, jgh, jgh]) (rfl) (by simp only [List.cons.injEq, Prod.mk.injEq, and_true, true_and] <;> ((try unfold jw); (try unfold jwl); omega)) (rfl) ?_
  refine jT_xaload_n (v := (6, 0)) (pcN := 1554) jI_379_1553 rfl rfl rfl ?_
  refine jT_xiload (v := (0, 0)) (pcN := 1556) jI_379_1554 rfl rfl rfl ?_
  refine jT_xiconst (k := 2) (pcN := 1557) jI_379_1556 rfl ?_
  refine jT_xiadd (x := 0) (y := 2) (z := 2) (pcN := 1558) jI_379_1557 rfl (by decide) rfl ?_
  refine jT_adv 1 (pcN := 1559) (LN := [(5, (0, 0)), (4, (4, 3)), (3, (4, 2)), (2, (4, 1)), (1, (4, 0)), (0, (6, 0))]) (stN := [(0, x2), (0, 0), (4, 0)]) (hsN := jpA_2777) (c1 := 0) (s1 := 0) (c2 := 13) (s2 := 375) (by exact rfl) ?_ (by omega) (by omega)
  refine jT_xaload_n (v := (4, 2)) (pcN := 1560) jI_379_1559 rfl rfl rfl ?_
  refine jT_fB [0, 2, 4, 5, 6, 7, 8, 9, 10, 11, 12, 13, 14, 30, 31, 32, 33, 34, 35, 36, 51] 52 (y := 342) (pcN := 1563) (dC := 5) (bc1 := 4) (bc2 := 21) (c1 := 9) (c2 := 354) (as := [(4, 0), (0, 0), (0, x2), (4, 2)]) (asC := [(4, 0), (0, 0), (0, x2), (4, 1)]) (LN := [(5, (0, 0)), (4, (4, 3)), (3, (4, 2)), (2, (4, 1)), (1, (4, 0)), (0, (6, 0))]) (stN := []) (hsC := jpA_2714) (hsD := jpA_2710) (v := (0, 0)) (st2 := [(0, 0)]) (hs2 := jpA_2780) (jA_342_678 (d := 0) (by omega)) (by rfl) (by rfl) (by decide +kernel) (by rfl) (by rfl) (by omega) (by omega) (by omega) (by omega) rfl (by decide +kernel) ?_
  refine jT_xistore (v := (0, 0)) (LN := [(6, (0, 0)), (5, (0, 0)), (4, (4, 3)), (3, (4, 2)), (2, (4, 1)), (1, (4, 0)), (0, (6, 0))]) (pcN := 1565) jI_379_1563 rfl rfl rfl rfl ?_
  refine jT_xaload_n (v := (4, 1)) (pcN := 1566) jI_379_1565 rfl rfl rfl ?_
  refine jT_xaload_n (v := (6, 0)) (pcN := 1567) jI_379_1566 rfl rfl rfl ?_
  refine jT_xiload (v := (0, 0)) (pcN := 1569) jI_379_1567 rfl rfl rfl ?_
  refine jT_xiconst (k := 1) (pcN := 1570) jI_379_1569 rfl ?_
  refine jT_xiadd (x := 0) (y := 1) (z := 1) (pcN := 1571) jI_379_1570 rfl (by decide) rfl ?_
  refine jT_adv 1 (pcN := 1572) (LN := [(6, (0, 0)), (5, (0, 0)), (4, (4, 3)), (3, (4, 2)), (2, (4, 1)), (1, (4, 0)), (0, (6, 0))]) (stN := [(0, x1), (4, 1)]) (hsN := jpA_2780) (c1 := 0) (s1 := 0) (c2 := 9) (s2 := 354) (by exact rfl) ?_ (by omega) (by omega)
  refine jT_eq (LN := [(6, (0, 0)), (5, (0, 0)), (4, (4, 3)), (3, (4, 2)), (2, (4, 1)), (1, (4, 0)), (0, (6, 0))]) (stN := [(0, 0), (4, 1)]) (hsN := [jzA_2778, jzA_266, (101, [], [0]), jgh, (8, [(4, 30), (4, 31)], []), jgh, jgh, jgh, jgh, jgh, jgh, jgh, jgh, jzA_327, jzA_721, (100, [], jS0), (100, [], []), jzA_722, jzA_197, jgh, (130, [], [45, 46, 47, 48, 49, 50]), (101, [], [0, 0, 0, 0, 0, 0]), jgh, jgh, jgh, jgh, jgh, jgh, jgh, jgh, jgh, jgh, jzA_723, jgh, jgh, jgh, (114, [], []), (100, [], (List.replicate 1613 0)), jgh, jgh, jgh, jgh, jgh, jgh, jgh, (100, [], (jenc (jlg 0))), jgh, jgh, jgh, jgh, jgh, jgh, (101, [], [0, 0, 0, 0, 0, 0]), (4, [(4, 52), (1, 1)], []), jgh, jzA_2779]) (rfl) (by simp only [List.cons.injEq, Prod.mk.injEq, and_true, true_and] <;> ((try unfold jw); (try unfold jwl); omega)) (rfl) ?_
  refine jT_xaload_n (v := (6, 0)) (pcN := 1573) jI_379_1572 rfl rfl rfl ?_
  refine jT_xiload (v := (0, 0)) (pcN := 1575) jI_379_1573 rfl rfl rfl ?_
  refine jT_xiconst (k := 2) (pcN := 1576) jI_379_1575 rfl ?_
  refine jT_xiadd (x := 0) (y := 2) (z := 2) (pcN := 1577) jI_379_1576 rfl (by decide) rfl ?_
  refine jT_adv 1 (pcN := 1578) (LN := [(6, (0, 0)), (5, (0, 0)), (4, (4, 3)), (3, (4, 2)), (2, (4, 1)), (1, (4, 0)), (0, (6, 0))]) (stN := [(0, x2), (0, 0), (4, 1)]) (hsN := jpA_2780) (c1 := 0) (s1 := 0) (c2 := 9) (s2 := 354) (by exact rfl) ?_ (by omega) (by omega)
  refine jT_fB [1, 15, 16, 17, 18, 19, 20, 21, 22, 23, 24, 25, 26, 27, 28, 29, 37, 38, 39, 40, 41, 42, 43, 44, 45, 46, 47, 48, 49, 50] 56 (y := 257) (pcN := 1581) (dC := 7) (bc1 := 9) (bc2 := 354) (c1 := 0) (c2 := 0) (as := [(4, 1), (0, 0), (0, x2)]) (asC := [(4, 0), (0, 0), (0, x2)]) (LN := [(6, (0, 0)), (5, (0, 0)), (4, (4, 3)), (3, (4, 2)), (2, (4, 1)), (1, (4, 0)), (0, (6, 0))]) (stN := []) (hsC := jpA_701) (hsD := [jzA_200, (100, [], ((((((((((((((jS0).set ((7 * x2).toNat) 0)).set ((7 * x2 + 1).toNat) 0)).set ((7 * x2 + 2).toNat) 0)).set ((7 * x2 + 3).toNat) 0)).set ((7 * x2 + 4).toNat) 0)).set ((7 * x2 + 5).toNat) 0)).set ((7 * x2 + 6).toNat) 1)), (100, [], []), jzA_196, jzA_201, jgh, (130, [], [24, 25, 26, 27, 28, 29]), (101, [], [0, 0, 0, 0, 0, 0]), jgh, jgh, jgh, jgh, jgh, jgh, jgh, jgh, (100, [], jS0), jgh, jgh, jgh, jgh, jgh, jgh, jgh, (100, [], (jenc (jlg 0))), jgh, jgh, jgh, jgh, jgh, (101, [], [1, 0, 0, 0, 0, 0]), (101, [], [1, 0, 0, 0, 0, 0]), (100, [], (jenc 0)), (100, [], (jenc 1)), (100, [], (jenc (1 * (jlg 0)))), (101, [], [(-1), 0, 0, 0, 0, 0]), (100, [], (jenc 0)), (100, [], (jenc (-1))), (100, [], (jenc ((-1) * (jlg 0))))]) (v := (0, 0)) (st2 := [(0, 0)]) (hs2 := [jzA_2778, jzA_330, (101, [], [0]), jgh, (8, [(4, 30), (4, 31)], []), jgh, jgh, jgh, jgh, jgh, jgh, jgh, jgh, jzA_327, jzA_721, (100, [], ((((((((((((((jS0).set ((7 * x2).toNat) 0)).set ((7 * x2 + 1).toNat) 0)).set ((7 * x2 + 2).toNat) 0)).set ((7 * x2 + 3).toNat) 0)).set ((7 * x2 + 4).toNat) 0)).set ((7 * x2 + 5).toNat) 0)).set ((7 * x2 + 6).toNat) 1)), (100, [], []), jzA_722, jzA_331, jgh, (130, [], [45, 46, 47, 48, 49, 50]), (101, [], [0, 0, 0, 0, 0, 0]), jgh, jgh, jgh, jgh, jgh, jgh, jgh, jgh, jgh, jgh, jzA_723, jgh, jgh, jgh, (114, [], []), (100, [], jS0), jgh, jgh, jgh, jgh, jgh, jgh, jgh, (100, [], (jenc (jlg 0))), jgh, jgh, jgh, jgh, jgh, jgh, (101, [], [0, 0, 0, 0, 0, 0]), (4, [(4, 52), (1, 1)], []), jgh, jzA_2779, (101, [], [1, 0, 0, 0, 0, 0]), (101, [], [1, 0, 0, 0, 0, 0]), (100, [], (jenc 0)), (100, [], (jenc 1)), (100, [], (jenc (1 * (jlg 0)))), (101, [], [(-1), 0, 0, 0, 0, 0]), (100, [], (jenc 0)), (100, [], (jenc (-1))), (100, [], (jenc ((-1) * (jlg 0))))]) (jA_257_691 (d := 0) (by omega)) (by rfl) (by rfl) (by decide +kernel) (by rfl) (by rfl) (by omega) (by omega) (by omega) (by omega) rfl rfl ?_
  refine jT_xistore (v := (0, 0)) (LN := [(7, (0, 0)), (6, (0, 0)), (5, (0, 0)), (4, (4, 3)), (3, (4, 2)), (2, (4, 1)), (1, (4, 0)), (0, (6, 0))]) (pcN := 1583) jI_379_1581 rfl rfl rfl rfl ?_
  refine jT_xaload_n (v := (4, 1)) (pcN := 1584) jI_379_1583 rfl rfl rfl ?_
  refine jT_callA [1, 15, 16, 17, 18, 19, 20, 21, 22, 23, 24, 25, 26, 27, 28, 29] (y := 186) (pcN := 1587) (dC := 0) (bc1 := 0) (bc2 := 0) (c1 := 0) (c2 := 0) (as := [(4, 1)]) (asC := [(4, 0)]) (LN := [(7, (0, 0)), (6, (0, 0)), (5, (0, 0)), (4, (4, 3)), (3, (4, 2)), (2, (4, 1)), (1, (4, 0)), (0, (6, 0))]) (stN := []) (hsC := jpA_258) (ex := []) (v := (0, 0)) (st2 := [(0, 0)]) (hs2 := [jzA_2778, jzA_330, (101, [], [0]), jgh, (8, [(4, 30), (4, 31)], []), jgh, jgh, jgh, jgh, jgh, jgh, jgh, jgh, jzA_327, jzA_721, (100, [], ((((((((((((((jS0).set ((7 * x2).toNat) 0)).set ((7 * x2 + 1).toNat) 0)).set ((7 * x2 + 2).toNat) 0)).set ((7 * x2 + 3).toNat) 0)).set ((7 * x2 + 4).toNat) 0)).set ((7 * x2 + 5).toNat) 0)).set ((7 * x2 + 6).toNat) 1)), (100, [], []), jzA_722, jzA_331, jgh, (130, [], [45, 46, 47, 48, 49, 50]), (101, [], [0, 0, 0, 0, 0, 0]), jgh, jgh, jgh, jgh, jgh, jgh, jgh, jgh, jgh, jgh, jzA_723, jgh, jgh, jgh, (114, [], []), (100, [], jS0), jgh, jgh, jgh, jgh, jgh, jgh, jgh, (100, [], (jenc (jlg 0))), jgh, jgh, jgh, jgh, jgh, jgh, (101, [], [0, 0, 0, 0, 0, 0]), (4, [(4, 52), (1, 1)], []), jgh, jzA_2779, (101, [], [1, 0, 0, 0, 0, 0]), (101, [], [1, 0, 0, 0, 0, 0]), (100, [], (jenc 0)), (100, [], (jenc 1)), (100, [], (jenc (1 * (jlg 0)))), (101, [], [(-1), 0, 0, 0, 0, 0]), (100, [], (jenc 0)), (100, [], (jenc (-1))), (100, [], (jenc ((-1) * (jlg 0))))]) (jA_186_54 (d := 0)) (by rfl) (by rfl) (by rfl) (by rfl) ⟨rfl, rfl, rfl, rfl, rfl, rfl, rfl, rfl, rfl, rfl, rfl, rfl, rfl, rfl, rfl, rfl, trivial⟩ (by rfl) (by rfl) (by omega) (by show 52 ≤ 65; omega) (by omega) (by omega) rfl rfl ?_
  refine jT_xiload (v := (0, 0)) (pcN := 1589) jI_379_1587 rfl rfl rfl ?_
  refine jT_xicT (pcN := 1594) jI_379_1589 rfl (by decide +kernel) rfl ?_
  refine jT_xiload (v := (0, 0)) (pcN := 1596) jI_379_1594 rfl rfl rfl ?_
  refine jT_xifF (t := 1611) (pcN := 1599) jI_379_1596 rfl (by decide +kernel) rfl rfl ?_
  refine jT_xaload_n (v := (4, 2)) (pcN := 1600) jI_379_1599 rfl rfl rfl ?_
  refine jT_xiconst (k := 0) (pcN := 1601) jI_379_1600 rfl ?_
  refine jT_lald (x := 0) (a := 2) (j := 0) (fs := []) (X := [0]) jI_379_1601 rfl rfl rfl rfl ?_
  refine jT_eq (LN := [(7, (0, 0)), (6, (0, 0)), (5, (0, 0)), (4, (4, 3)), (3, (4, 2)), (2, (4, 1)), (1, (4, 0)), (0, (6, 0))]) (stN := [(1, 0)]) (hsN := [jzA_2778, jzA_330, (101, [], [0]), jgh, (8, [(4, 30), (4, 31)], []), jgh, jgh, jgh, jgh, jgh, jgh, jgh, jgh, jzA_327, jzA_721, (100, [], ((((((((((((((jS0).set ((7 * x2).toNat) 0)).set ((7 * x2 + 1).toNat) 0)).set ((7 * x2 + 2).toNat) 0)).set ((7 * x2 + 3).toNat) 0)).set ((7 * x2 + 4).toNat) 0)).set ((7 * x2 + 5).toNat) 0)).set ((7 * x2 + 6).toNat) 1)), (100, [], []), jzA_722, jzA_331, jgh, (130, [], [45, 46, 47, 48, 49, 50]), (101, [], [0, 0, 0, 0, 0, 0]), jgh, jgh, jgh, jgh, jgh, jgh, jgh, jgh, jgh, jgh, jzA_723, jgh, jgh, jgh, (114, [], []), (100, [], jS0), jgh, jgh, jgh, jgh, jgh, jgh, jgh, (100, [], (jenc (jlg 0))), jgh, jgh, jgh, jgh, jgh, jgh, (101, [], [0, 0, 0, 0, 0, 0]), (4, [(4, 52), (1, 1)], []), jgh, jzA_2779, (101, [], [1, 0, 0, 0, 0, 0]), (101, [], [1, 0, 0, 0, 0, 0]), (100, [], (jenc 0)), (100, [], (jenc 1)), (100, [], (jenc (1 * (jlg 0)))), (101, [], [(-1), 0, 0, 0, 0, 0]), (100, [], (jenc 0)), (100, [], (jenc (-1))), (100, [], (jenc ((-1) * (jlg 0))))]) rfl rfl rfl ?_
  refine jT_xiload (v := (0, 0)) (pcN := 1604) jI_379_1602 rfl rfl rfl ?_
  refine jT_xi2l (x := 0) (z := 0) (pcN := 1605) jI_379_1604 rfl (by decide +kernel) rfl ?_
  refine jT_lcmp (a := 0) (b := 0) (z := 0) (by rfl) (by rfl) (by decide +kernel) (by decide +kernel) (by decide) ?_
  refine jT_xifT (pcN := 1611) jI_379_1606 rfl (by decide +kernel) rfl ?_
  refine jT_xgoto (pcN := 3740) jI_379_1611 rfl ?_
  refine jT_xiinc (x := 0) (z := 5) (LN := [(5, (0, 5)), (7, (0, 0)), (6, (0, 0)), (4, (4, 3)), (3, (4, 2)), (2, (4, 1)), (1, (4, 0)), (0, (6, 0))]) (pcN := 3743) jI_379_3740 rfl rfl (by decide) rfl rfl ?_
  refine jT_xgoto (pcN := 28) jI_379_3743 rfl ?_
  refine jT_xiload (v := (0, 5)) (pcN := 30) jI_379_28 rfl rfl rfl ?_
  refine jT_xaload_n (v := (6, 0)) (pcN := 31) jI_379_30 rfl rfl rfl ?_
  refine jT_adv 1 (pcN := 32) (LN := [(5, (0, 5)), (7, (0, 0)), (6, (0, 0)), (4, (4, 3)), (3, (4, 2)), (2, (4, 1)), (1, (4, 0)), (0, (6, 0))]) (stN := [(0, 5), (0, 5)]) (hsN := [jzA_2778, jzA_330, (101, [], [0]), jgh, (8, [(4, 30), (4, 31)], []), jgh, jgh, jgh, jgh, jgh, jgh, jgh, jgh, jzA_327, jzA_721, (100, [], ((((((((((((((jS0).set ((7 * x2).toNat) 0)).set ((7 * x2 + 1).toNat) 0)).set ((7 * x2 + 2).toNat) 0)).set ((7 * x2 + 3).toNat) 0)).set ((7 * x2 + 4).toNat) 0)).set ((7 * x2 + 5).toNat) 0)).set ((7 * x2 + 6).toNat) 1)), (100, [], []), jzA_722, jzA_331, jgh, (130, [], [45, 46, 47, 48, 49, 50]), (101, [], [0, 0, 0, 0, 0, 0]), jgh, jgh, jgh, jgh, jgh, jgh, jgh, jgh, jgh, jgh, jzA_723, jgh, jgh, jgh, (114, [], []), (100, [], jS0), jgh, jgh, jgh, jgh, jgh, jgh, jgh, (100, [], (jenc (jlg 0))), jgh, jgh, jgh, jgh, jgh, jgh, (101, [], [0, 0, 0, 0, 0, 0]), (4, [(4, 52), (1, 1)], []), jgh, jzA_2779, (101, [], [1, 0, 0, 0, 0, 0]), (101, [], [1, 0, 0, 0, 0, 0]), (100, [], (jenc 0)), (100, [], (jenc 1)), (100, [], (jenc (1 * (jlg 0)))), (101, [], [(-1), 0, 0, 0, 0, 0]), (100, [], (jenc 0)), (100, [], (jenc (-1))), (100, [], (jenc ((-1) * (jlg 0))))]) (c1 := 0) (s1 := 0) (c2 := 0) (s2 := 0) (by exact rfl) ?_ (by omega) (by omega)
  refine jT_xiconst (k := 5) (pcN := 33) jI_379_32 rfl ?_
  refine jT_xisub (x := 5) (y := 5) (z := 0) (pcN := 34) jI_379_33 rfl (by decide) rfl ?_
  refine jT_xicT (pcN := 3746) jI_379_34 rfl (by decide +kernel) rfl ?_
  refine jT_xiconst (k := 1) (pcN := 3747) jI_379_3746 rfl ?_
  exact jT_ret rfl (by decide) (by show 52 ≤ 65; decide) (by omega) (by omega) ⟨rfl, rfl⟩
set_option maxRecDepth 100000 in
theorem jL_16_3 {d : Nat} {x0 x1 x2 x3 x4 : Int} (h_x0 : (-2147483648) ≤ x0 ∧ x0 ≤ 2147483647) (h_x1 : 0 ≤ x1 ∧ x1 ≤ 0) (h_x2 : 8 ≤ x2 ∧ x2 ≤ 2147483647) (h_x3 : (-2147483648) ≤ x3 ∧ x3 ≤ 2147483647) (h_x4 : (-2147483648) ≤ x4 ∧ x4 ≤ 2147483647) : jT [x0, x1, x2, x3, x4] (d + 3) 379 35 1546 [(5, (0, 0)), (4, (4, 3)), (3, (4, 2)), (2, (4, 1)), (1, (4, 0)), (0, (6, 0))] [] jpA_2752 1 6 (fun k v hsN => k = 0 ∧ v = (0, 1)) := by
  refine jT_xaload_n (v := (4, 0)) (pcN := 1547) jI_379_1546 rfl rfl rfl ?_
  refine jT_xaload_n (v := (6, 0)) (pcN := 1548) jI_379_1547 rfl rfl rfl ?_
  refine jT_xiload (v := (0, 0)) (pcN := 1550) jI_379_1548 rfl rfl rfl ?_
  refine jT_xiconst (k := 1) (pcN := 1551) jI_379_1550 rfl ?_
  refine jT_xiadd (x := 0) (y := 1) (z := 1) (pcN := 1552) jI_379_1551 rfl (by decide) rfl ?_
  refine jT_adv 1 (pcN := 1553) (LN := [(5, (0, 0)), (4, (4, 3)), (3, (4, 2)), (2, (4, 1)), (1, (4, 0)), (0, (6, 0))]) (stN := [(0, x1), (4, 0)]) (hsN := jpA_2752) (c1 := 0) (s1 := 0) (c2 := 1) (s2 := 6) (by exact rfl) ?_ (by omega) (by omega)
  refine jT_eq (LN := [(5, (0, 0)), (4, (4, 3)), (3, (4, 2)), (2, (4, 1)), (1, (4, 0)), (0, (6, 0))]) (stN := [(0, 0), (4, 0)]) (hsN := [jzA_265, jzA_266, jgh, jgh, jgh, jgh, jgh, jgh, jgh, jgh, jgh, jgh, jgh, jgh, jzA_322, (100, [], jS0), jgh, jgh, jgh, jgh, jgh, jgh, jgh, jgh, jgh, jgh, jgh, jgh, jgh, jgh, jgh, jgh, jgh, jgh, (114, [], [])]) (rfl) (by simp only [List.cons.injEq, Prod.mk.injEq, and_true, true_and] <;> ((try unfold jw); (try unfold jwl); omega)) (rfl) ?_
  refine jT_xaload_n (v := (6, 0)) (pcN := 1554) jI_379_1553 rfl rfl rfl ?_
  refine jT_xiload (v := (0, 0)) (pcN := 1556) jI_379_1554 rfl rfl rfl ?_
  refine jT_xiconst (k := 2) (pcN := 1557) jI_379_1556 rfl ?_
  refine jT_xiadd (x := 0) (y := 2) (z := 2) (pcN := 1558) jI_379_1557 rfl (by decide) rfl ?_
  refine jT_adv 1 (pcN := 1559) (LN := [(5, (0, 0)), (4, (4, 3)), (3, (4, 2)), (2, (4, 1)), (1, (4, 0)), (0, (6, 0))]) (stN := [(0, x2), (0, 0), (4, 0)]) (hsN := jpA_2752) (c1 := 0) (s1 := 0) (c2 := 1) (s2 := 6) (by exact rfl) ?_ (by omega) (by omega)
  refine jT_xaload_n (v := (4, 2)) (pcN := 1560) jI_379_1559 rfl rfl rfl ?_
  refine jT_fR [0, 2, 4, 5, 6, 7, 8, 9, 10, 11, 12, 13, 14, 30, 31, 32, 33, 34] 35 (y := 342) (pcN := 1563) (dC := 2) (bc1 := 1) (bc2 := 6) (c1 := 0) (c2 := 0) (as := [(4, 0), (0, 0), (0, x2), (4, 2)]) (asC := [(4, 0), (0, 0), (0, x2), (4, 1)]) (LN := [(5, (0, 0)), (4, (4, 3)), (3, (4, 2)), (2, (4, 1)), (1, (4, 0)), (0, (6, 0))]) (stN := []) (hsC := jpA_2666) (v := (0, 2)) (st2 := [(0, 2)]) (jA_342_693 (d := 0) (by omega)) (by rfl) (by rfl) (by decide +kernel) (by rfl) (by rfl) (by omega) (by omega) (by omega) (by omega) rfl ?_
  refine jT_xistore (v := (0, 2)) (LN := [(6, (0, 2)), (5, (0, 0)), (4, (4, 3)), (3, (4, 2)), (2, (4, 1)), (1, (4, 0)), (0, (6, 0))]) (pcN := 1565) jI_379_1563 rfl rfl rfl rfl ?_
  refine jT_xaload_n (v := (4, 1)) (pcN := 1566) jI_379_1565 rfl rfl rfl ?_
  refine jT_xaload_n (v := (6, 0)) (pcN := 1567) jI_379_1566 rfl rfl rfl ?_
  refine jT_xiload (v := (0, 0)) (pcN := 1569) jI_379_1567 rfl rfl rfl ?_
  refine jT_xiconst (k := 1) (pcN := 1570) jI_379_1569 rfl ?_
  refine jT_xiadd (x := 0) (y := 1) (z := 1) (pcN := 1571) jI_379_1570 rfl (by decide) rfl ?_
  refine jT_adv 1 (pcN := 1572) (LN := [(6, (0, 2)), (5, (0, 0)), (4, (4, 3)), (3, (4, 2)), (2, (4, 1)), (1, (4, 0)), (0, (6, 0))]) (stN := [(0, x1), (4, 1)]) (hsN := jpA_2752) (c1 := 0) (s1 := 0) (c2 := 0) (s2 := 0) (by exact rfl) ?_ (by omega) (by omega)
  refine jT_eq (LN := [(6, (0, 2)), (5, (0, 0)), (4, (4, 3)), (3, (4, 2)), (2, (4, 1)), (1, (4, 0)), (0, (6, 0))]) (stN := [(0, 0), (4, 1)]) (hsN := [jzA_265, jzA_266, jgh, jgh, jgh, jgh, jgh, jgh, jgh, jgh, jgh, jgh, jgh, jgh, jzA_322, (100, [], jS0), jgh, jgh, jgh, jgh, jgh, jgh, jgh, jgh, jgh, jgh, jgh, jgh, jgh, jgh, jgh, jgh, jgh, jgh, (114, [], [])]) (rfl) (by simp only [List.cons.injEq, Prod.mk.injEq, and_true, true_and] <;> ((try unfold jw); (try unfold jwl); omega)) (rfl) ?_
  refine jT_xaload_n (v := (6, 0)) (pcN := 1573) jI_379_1572 rfl rfl rfl ?_
  refine jT_xiload (v := (0, 0)) (pcN := 1575) jI_379_1573 rfl rfl rfl ?_
  refine jT_xiconst (k := 2) (pcN := 1576) jI_379_1575 rfl ?_
  refine jT_xiadd (x := 0) (y := 2) (z := 2) (pcN := 1577) jI_379_1576 rfl (by decide) rfl ?_
  refine jT_adv 1 (pcN := 1578) (LN := [(6, (0, 2)), (5, (0, 0)), (4, (4, 3)), (3, (4, 2)), (2, (4, 1)), (1, (4, 0)), (0, (6, 0))]) (stN := [(0, x2), (0, 0), (4, 1)]) (hsN := jpA_2752) (c1 := 0) (s1 := 0) (c2 := 0) (s2 := 0) (by exact rfl) ?_ (by omega) (by omega)
  refine jT_fB [1, 15, 16, 17, 18, 19, 20, 21, 22, 23, 24, 25, 26, 27, 28, 29] 35 (y := 257) (pcN := 1581) (dC := 2) (bc1 := 0) (bc2 := 0) (c1 := 0) (c2 := 0) (as := [(4, 1), (0, 0), (0, x2)]) (asC := [(4, 0), (0, 0), (0, x2)]) (LN := [(6, (0, 2)), (5, (0, 0)), (4, (4, 3)), (3, (4, 2)), (2, (4, 1)), (1, (4, 0)), (0, (6, 0))]) (stN := []) (hsC := jpA_1519) (hsD := jpA_2089) (v := (0, 0)) (st2 := [(0, 0)]) (hs2 := jpA_2776) (jA_257_694 (d := 0) (by omega)) (by rfl) (by rfl) (by decide +kernel) (by rfl) (by rfl) (by omega) (by omega) (by omega) (by omega) rfl (by decide +kernel) ?_
  refine jT_xistore (v := (0, 0)) (LN := [(7, (0, 0)), (6, (0, 2)), (5, (0, 0)), (4, (4, 3)), (3, (4, 2)), (2, (4, 1)), (1, (4, 0)), (0, (6, 0))]) (pcN := 1583) jI_379_1581 rfl rfl rfl rfl ?_
  refine jT_xaload_n (v := (4, 1)) (pcN := 1584) jI_379_1583 rfl rfl rfl ?_
  refine jT_fR [1, 15, 16, 17, 18, 19, 20, 21, 22, 23, 24, 25, 26, 27, 28, 29] 35 (y := 186) (pcN := 1587) (dC := 0) (bc1 := 0) (bc2 := 0) (c1 := 0) (c2 := 0) (as := [(4, 1)]) (asC := [(4, 0)]) (LN := [(7, (0, 0)), (6, (0, 2)), (5, (0, 0)), (4, (4, 3)), (3, (4, 2)), (2, (4, 1)), (1, (4, 0)), (0, (6, 0))]) (stN := []) (hsC := jpA_361) (v := (0, 2)) (st2 := [(0, 2)]) (jA_186_101 (d := 0)) (by rfl) (by rfl) (by decide +kernel) (by rfl) (by rfl) (by omega) (by omega) (by omega) (by omega) rfl ?_
  refine jT_xiload (v := (0, 2)) (pcN := 1589) jI_379_1587 rfl rfl rfl ?_
  refine jT_xicT (pcN := 1594) jI_379_1589 rfl (by decide +kernel) rfl ?_
  refine jT_xiload (v := (0, 2)) (pcN := 1596) jI_379_1594 rfl rfl rfl ?_
  refine jT_xifT (pcN := 1611) jI_379_1596 rfl (by decide +kernel) rfl ?_
  refine jT_xgoto (pcN := 3740) jI_379_1611 rfl ?_
  refine jT_xiinc (x := 0) (z := 5) (LN := [(5, (0, 5)), (7, (0, 0)), (6, (0, 2)), (4, (4, 3)), (3, (4, 2)), (2, (4, 1)), (1, (4, 0)), (0, (6, 0))]) (pcN := 3743) jI_379_3740 rfl rfl (by decide) rfl rfl ?_
  refine jT_xgoto (pcN := 28) jI_379_3743 rfl ?_
  refine jT_xiload (v := (0, 5)) (pcN := 30) jI_379_28 rfl rfl rfl ?_
  refine jT_xaload_n (v := (6, 0)) (pcN := 31) jI_379_30 rfl rfl rfl ?_
  refine jT_adv 1 (pcN := 32) (LN := [(5, (0, 5)), (7, (0, 0)), (6, (0, 2)), (4, (4, 3)), (3, (4, 2)), (2, (4, 1)), (1, (4, 0)), (0, (6, 0))]) (stN := [(0, 5), (0, 5)]) (hsN := jpA_2776) (c1 := 0) (s1 := 0) (c2 := 0) (s2 := 0) (by exact rfl) ?_ (by omega) (by omega)
  refine jT_xiconst (k := 5) (pcN := 33) jI_379_32 rfl ?_
  refine jT_xisub (x := 5) (y := 5) (z := 0) (pcN := 34) jI_379_33 rfl (by decide) rfl ?_
  refine jT_xicT (pcN := 3746) jI_379_34 rfl (by decide +kernel) rfl ?_
  refine jT_xiconst (k := 1) (pcN := 3747) jI_379_3746 rfl ?_
  exact jT_ret rfl (by decide) (by show 35 ≤ 35; decide) (by omega) (by omega) ⟨rfl, rfl⟩
set_option maxRecDepth 100000 in
theorem jL_16_4 {d : Nat} {x0 x1 x2 x3 x4 : Int} (h_x0 : (-2147483648) ≤ x0 ∧ x0 ≤ 2147483647) (h_x1 : 1 ≤ x1 ∧ x1 ≤ 2147483647) (h_x2 : (-2147483648) ≤ x2 ∧ x2 ≤ 2147483647) (h_x3 : (-2147483648) ≤ x3 ∧ x3 ≤ 2147483647) (h_x4 : (-2147483648) ≤ x4 ∧ x4 ≤ 2147483647) : jT [x0, x1, x2, x3, x4] (d + 3) 379 35 1546 [(5, (0, 0)), (4, (4, 3)), (3, (4, 2)), (2, (4, 1)), (1, (4, 0)), (0, (6, 0))] [] jpA_2752 1 6 (fun k v hsN => k = 0 ∧ v = (0, 1)) := by
  refine jT_xaload_n (v := (4, 0)) (pcN := 1547) jI_379_1546 rfl rfl rfl ?_
  refine jT_xaload_n (v := (6, 0)) (pcN := 1548) jI_379_1547 rfl rfl rfl ?_
  refine jT_xiload (v := (0, 0)) (pcN := 1550) jI_379_1548 rfl rfl rfl ?_
  refine jT_xiconst (k := 1) (pcN := 1551) jI_379_1550 rfl ?_
  refine jT_xiadd (x := 0) (y := 1) (z := 1) (pcN := 1552) jI_379_1551 rfl (by decide) rfl ?_
  refine jT_adv 1 (pcN := 1553) (LN := [(5, (0, 0)), (4, (4, 3)), (3, (4, 2)), (2, (4, 1)), (1, (4, 0)), (0, (6, 0))]) (stN := [(0, x1), (4, 0)]) (hsN := jpA_2752) (c1 := 0) (s1 := 0) (c2 := 1) (s2 := 6) (by exact rfl) ?_ (by omega) (by omega)
  refine jT_xaload_n (v := (6, 0)) (pcN := 1554) jI_379_1553 rfl rfl rfl ?_
  refine jT_xiload (v := (0, 0)) (pcN := 1556) jI_379_1554 rfl rfl rfl ?_
  refine jT_xiconst (k := 2) (pcN := 1557) jI_379_1556 rfl ?_
  refine jT_xiadd (x := 0) (y := 2) (z := 2) (pcN := 1558) jI_379_1557 rfl (by decide) rfl ?_
  refine jT_adv 1 (pcN := 1559) (LN := [(5, (0, 0)), (4, (4, 3)), (3, (4, 2)), (2, (4, 1)), (1, (4, 0)), (0, (6, 0))]) (stN := [(0, x2), (0, x1), (4, 0)]) (hsN := jpA_2752) (c1 := 0) (s1 := 0) (c2 := 1) (s2 := 6) (by exact rfl) ?_ (by omega) (by omega)
  refine jT_xaload_n (v := (4, 2)) (pcN := 1560) jI_379_1559 rfl rfl rfl ?_
  refine jT_fR [0, 2, 4, 5, 6, 7, 8, 9, 10, 11, 12, 13, 14, 30, 31, 32, 33, 34] 35 (y := 342) (pcN := 1563) (dC := 2) (bc1 := 1) (bc2 := 6) (c1 := 0) (c2 := 0) (as := [(4, 0), (0, x1), (0, x2), (4, 2)]) (asC := [(4, 0), (0, x1), (0, x2), (4, 1)]) (LN := [(5, (0, 0)), (4, (4, 3)), (3, (4, 2)), (2, (4, 1)), (1, (4, 0)), (0, (6, 0))]) (stN := []) (hsC := jpA_2666) (v := (0, 1)) (st2 := [(0, 1)]) (jA_342_697 (d := 0) (by omega) (by omega)) (by rfl) (by rfl) (by decide +kernel) (by rfl) (by rfl) (by omega) (by omega) (by omega) (by omega) rfl ?_
  refine jT_xistore (v := (0, 1)) (LN := [(6, (0, 1)), (5, (0, 0)), (4, (4, 3)), (3, (4, 2)), (2, (4, 1)), (1, (4, 0)), (0, (6, 0))]) (pcN := 1565) jI_379_1563 rfl rfl rfl rfl ?_
  refine jT_xaload_n (v := (4, 1)) (pcN := 1566) jI_379_1565 rfl rfl rfl ?_
  refine jT_xaload_n (v := (6, 0)) (pcN := 1567) jI_379_1566 rfl rfl rfl ?_
  refine jT_xiload (v := (0, 0)) (pcN := 1569) jI_379_1567 rfl rfl rfl ?_
  refine jT_xiconst (k := 1) (pcN := 1570) jI_379_1569 rfl ?_
  refine jT_xiadd (x := 0) (y := 1) (z := 1) (pcN := 1571) jI_379_1570 rfl (by decide) rfl ?_
  refine jT_adv 1 (pcN := 1572) (LN := [(6, (0, 1)), (5, (0, 0)), (4, (4, 3)), (3, (4, 2)), (2, (4, 1)), (1, (4, 0)), (0, (6, 0))]) (stN := [(0, x1), (4, 1)]) (hsN := jpA_2752) (c1 := 0) (s1 := 0) (c2 := 0) (s2 := 0) (by exact rfl) ?_ (by omega) (by omega)
  refine jT_xaload_n (v := (6, 0)) (pcN := 1573) jI_379_1572 rfl rfl rfl ?_
  refine jT_xiload (v := (0, 0)) (pcN := 1575) jI_379_1573 rfl rfl rfl ?_
  refine jT_xiconst (k := 2) (pcN := 1576) jI_379_1575 rfl ?_
  refine jT_xiadd (x := 0) (y := 2) (z := 2) (pcN := 1577) jI_379_1576 rfl (by decide) rfl ?_
  refine jT_adv 1 (pcN := 1578) (LN := [(6, (0, 1)), (5, (0, 0)), (4, (4, 3)), (3, (4, 2)), (2, (4, 1)), (1, (4, 0)), (0, (6, 0))]) (stN := [(0, x2), (0, x1), (4, 1)]) (hsN := jpA_2752) (c1 := 0) (s1 := 0) (c2 := 0) (s2 := 0) (by exact rfl) ?_ (by omega) (by omega)
  refine jT_fB [1, 15, 16, 17, 18, 19, 20, 21, 22, 23, 24, 25, 26, 27, 28, 29] 35 (y := 257) (pcN := 1581) (dC := 1) (bc1 := 0) (bc2 := 0) (c1 := 0) (c2 := 0) (as := [(4, 1), (0, x1), (0, x2)]) (asC := [(4, 0), (0, x1), (0, x2)]) (LN := [(6, (0, 1)), (5, (0, 0)), (4, (4, 3)), (3, (4, 2)), (2, (4, 1)), (1, (4, 0)), (0, (6, 0))]) (stN := []) (hsC := jpA_1519) (hsD := jpA_1820) (v := (0, 0)) (st2 := [(0, 0)]) (hs2 := jpA_2768) (jA_257_698 (d := 0) (by omega) (by omega)) (by rfl) (by rfl) (by decide +kernel) (by rfl) (by rfl) (by omega) (by omega) (by omega) (by omega) rfl (by decide +kernel) ?_
  refine jT_xistore (v := (0, 0)) (LN := [(7, (0, 0)), (6, (0, 1)), (5, (0, 0)), (4, (4, 3)), (3, (4, 2)), (2, (4, 1)), (1, (4, 0)), (0, (6, 0))]) (pcN := 1583) jI_379_1581 rfl rfl rfl rfl ?_
  refine jT_xaload_n (v := (4, 1)) (pcN := 1584) jI_379_1583 rfl rfl rfl ?_
  refine jT_fR [1, 15, 16, 17, 18, 19, 20, 21, 22, 23, 24, 25, 26, 27, 28, 29] 35 (y := 186) (pcN := 1587) (dC := 0) (bc1 := 0) (bc2 := 0) (c1 := 0) (c2 := 0) (as := [(4, 1)]) (asC := [(4, 0)]) (LN := [(7, (0, 0)), (6, (0, 1)), (5, (0, 0)), (4, (4, 3)), (3, (4, 2)), (2, (4, 1)), (1, (4, 0)), (0, (6, 0))]) (stN := []) (hsC := jpA_20) (v := (0, 1)) (st2 := [(0, 1)]) (jA_186_8 (d := 0)) (by rfl) (by rfl) (by decide +kernel) (by rfl) (by rfl) (by omega) (by omega) (by omega) (by omega) rfl ?_
  refine jT_xiload (v := (0, 1)) (pcN := 1589) jI_379_1587 rfl rfl rfl ?_
  refine jT_xicT (pcN := 1594) jI_379_1589 rfl (by decide +kernel) rfl ?_
  refine jT_xiload (v := (0, 1)) (pcN := 1596) jI_379_1594 rfl rfl rfl ?_
  refine jT_xifT (pcN := 1611) jI_379_1596 rfl (by decide +kernel) rfl ?_
  refine jT_xgoto (pcN := 3740) jI_379_1611 rfl ?_
  refine jT_xiinc (x := 0) (z := 5) (LN := [(5, (0, 5)), (7, (0, 0)), (6, (0, 1)), (4, (4, 3)), (3, (4, 2)), (2, (4, 1)), (1, (4, 0)), (0, (6, 0))]) (pcN := 3743) jI_379_3740 rfl rfl (by decide) rfl rfl ?_
  refine jT_xgoto (pcN := 28) jI_379_3743 rfl ?_
  refine jT_xiload (v := (0, 5)) (pcN := 30) jI_379_28 rfl rfl rfl ?_
  refine jT_xaload_n (v := (6, 0)) (pcN := 31) jI_379_30 rfl rfl rfl ?_
  refine jT_adv 1 (pcN := 32) (LN := [(5, (0, 5)), (7, (0, 0)), (6, (0, 1)), (4, (4, 3)), (3, (4, 2)), (2, (4, 1)), (1, (4, 0)), (0, (6, 0))]) (stN := [(0, 5), (0, 5)]) (hsN := jpA_2768) (c1 := 0) (s1 := 0) (c2 := 0) (s2 := 0) (by exact rfl) ?_ (by omega) (by omega)
  refine jT_xiconst (k := 5) (pcN := 33) jI_379_32 rfl ?_
  refine jT_xisub (x := 5) (y := 5) (z := 0) (pcN := 34) jI_379_33 rfl (by decide) rfl ?_
  refine jT_xicT (pcN := 3746) jI_379_34 rfl (by decide +kernel) rfl ?_
  refine jT_xiconst (k := 1) (pcN := 3747) jI_379_3746 rfl ?_
  exact jT_ret rfl (by decide) (by show 35 ≤ 35; decide) (by omega) (by omega) ⟨rfl, rfl⟩
def jpA_2787 : List JC := [jzA_44, jgh, jgh, jgh, jgh, jgh, jzA_51, (114, [], [])]
def jzA_2788 : JC := (9, [(4, 1), (4, 2), (4, 3), (4, 4), (4, 7)], [])
def jpA_2789 : List JC := [jzA_44, jgh, jgh, jgh, jgh, jgh, jzA_2788, (114, [], [])]
theorem jA_54_699 {xs : List Int} {d : Nat} : jT xs (d + 1) 54 6 0 [(0, (4, 0))] [] jpA_50 2 5 (fun k v hsN => k = 0 ∧ v = (4, 6) ∧ hsN = jpA_50 ++ [jzA_2788, (114, [], [])]) := by
  refine jT_advK 12 (pcN := 24) (LN := [(0, (4, 0))]) (stN := [(4, 7), (4, 4), (4, 3), (4, 2), (4, 1), (4, 6), (4, 6)]) (hsN := jpA_2787) (c1 := 2) (s1 := 5) (c2 := 0) (s2 := 0) (by decide +kernel) ?_ (by omega) (by omega)
  refine jT_fB [6, 1, 2, 3, 4, 7] 8 (y := 53) (pcN := 27) (dC := 0) (bc1 := 0) (bc2 := 0) (c1 := 0) (c2 := 0) (as := [(4, 6), (4, 1), (4, 2), (4, 3), (4, 4), (4, 7)]) (asC := [(4, 0), (4, 1), (4, 2), (4, 3), (4, 4), (4, 5)]) (LN := [(0, (4, 0))]) (stN := [(4, 6)]) (hsC := jpA_52) (hsD := jpA_50) (v := (9, 0)) (st2 := [(4, 6)]) (hs2 := jpA_2789) (jA_53_32 (d := 0)) (by rfl) (by rfl) (by decide +kernel) (by rfl) (by rfl) (by omega) (by omega) (by omega) (by omega) rfl (by decide +kernel) ?_
  exact jT_ret rfl (by decide) (by show 6 ≤ 8; decide) (by omega) (by omega) ⟨rfl, rfl, rfl⟩
def jpA_2790 : List JC := [jzA_5, jgh, jgh, jgh, jgh, jgh, jgh, jgh, jgh, jgh, jzA_79, jzA_88, jgh, jgh, jgh, jgh, (114, [], [])]
def jzA_2791 : JC := (9, [(4, 12), (4, 13), (4, 14), (4, 15), (4, 18)], [])
def jpA_2792 : List JC := [jzA_5, jgh, jgh, jgh, jgh, jgh, jgh, jgh, jgh, jgh, jzA_79, jzA_88, jgh, jgh, jgh, jgh, (114, [], []), jzA_2791, (114, [], [])]
def jzA_2793 : JC := (13, [(4, 1), (4, 2), (4, 3), (4, 4), (4, 5), (4, 6), (4, 7), (4, 8), (4, 9), (4, 10), (0, 1), (4, 17), (0, 0)], [])
def jpA_2794 : List JC := [jzA_2793, jgh, jgh, jgh, jgh, jgh, jgh, jgh, jgh, jgh, jzA_102, jzA_88, jgh, jgh, jgh, jgh, (114, [], []), jzA_2791, (114, [], [])]
theorem jA_99_700 {xs : List Int} {d : Nat} : jT xs (d + 2) 99 17 0 [(0, (4, 0))] [] jpA_2790 2 5 (fun k v hsN => k = 0 ∧ v = (0, 0) ∧ hsN = jpA_2794) := by
  refine jT_advK 8 (pcN := 14) (LN := [(1, (0, 0)), (0, (4, 0))]) (stN := [(4, 11), (4, 0)]) (hsN := jpA_2790) (c1 := 0) (s1 := 0) (c2 := 2) (s2 := 5) (by decide +kernel) ?_ (by omega) (by omega)
  refine jT_fA [11, 12, 13, 14, 15, 16] 17 (y := 54) (pcN := 17) (dC := 1) (bc1 := 2) (bc2 := 5) (c1 := 0) (c2 := 0) (as := [(4, 11)]) (asC := [(4, 0)]) (LN := [(1, (0, 0)), (0, (4, 0))]) (stN := [(4, 0)]) (hsC := jpA_50) (ex := [jzA_2788, (114, [], [])]) (v := (4, 6)) (st2 := [(4, 17), (4, 0)]) (hs2 := jpA_2792) (jA_54_699 (d := 0)) (by rfl) (by rfl) (by decide +kernel) (by rfl) (by rfl) (by omega) (by omega) (by omega) (by omega) rfl (by decide +kernel) ?_
  refine jT_fB [0, 17, 1, 2, 3, 4, 5, 6, 7, 8, 9, 10, 11, 12, 13, 14, 15, 16] 19 (y := 100) (pcN := 20) (dC := 0) (bc1 := 0) (bc2 := 0) (c1 := 0) (c2 := 0) (as := [(4, 0), (4, 17)]) (asC := [(4, 0), (4, 1)]) (LN := [(1, (0, 0)), (0, (4, 0))]) (stN := []) (hsC := jpA_80) (hsD := jpA_78) (v := (9, 0)) (st2 := []) (hs2 := jpA_2794) (jA_100_34 (d := 0)) (by rfl) (by rfl) (by decide +kernel) (by rfl) (by rfl) (by omega) (by omega) (by omega) (by omega) rfl (by decide +kernel) ?_
  refine jT_advK 1 (pcN := 21) (LN := [(1, (0, 0)), (0, (4, 0))]) (stN := [(0, 0)]) (hsN := jpA_2794) (c1 := 0) (s1 := 0) (c2 := 0) (s2 := 0) (by decide +kernel) ?_ (by omega) (by omega)
  exact jT_ret rfl (by decide) (by show 17 ≤ 19; decide) (by omega) (by omega) ⟨rfl, rfl, rfl⟩
theorem jI_258_16 : jmI (jm 258) 16 = (.iaload, 1) := by rfl
def jpA_2796 : List JC := [jzA_200, (100, [], ((jS0).set 1192 0)), (100, [], []), jzA_196, jzA_201, jgh, jgh, jgh, jgh, jgh, jgh, jgh, jgh, jgh, jgh, jgh, (100, [], jS0), jgh, jgh, jgh, jgh, jgh, jgh, jgh]
theorem jA_258_701 {xs : List Int} {d : Nat} : jT xs (d + 1) 258 24 0 [(0, (4, 0))] [] jpA_198 0 0 (fun k v hsN => k = 0 ∧ v = (0, 0) ∧ hsN = jpA_2796) := by
  refine jT_advK 4 (pcN := 6) (LN := [(0, (4, 0))]) (stN := [(4, 0)]) (hsN := jpA_198) (c1 := 0) (s1 := 0) (c2 := 0) (s2 := 0) (by decide +kernel) ?_ (by omega) (by omega)
  refine jT_fB [0, 1, 2, 3, 4, 5, 6, 7, 8, 9, 10, 11, 12, 13, 14, 15, 16, 17, 18, 19, 20, 21, 22, 23] 24 (y := 195) (pcN := 9) (dC := 0) (bc1 := 0) (bc2 := 0) (c1 := 0) (c2 := 0) (as := [(4, 0)]) (asC := [(4, 0)]) (LN := [(0, (4, 0))]) (stN := []) (hsC := jpA_198) (hsD := jpA_202) (v := (9, 0)) (st2 := []) (hs2 := jpA_202) (jA_195_50 (d := 0)) (by rfl) (by rfl) (by decide +kernel) (by rfl) (by rfl) (by omega) (by omega) (by omega) (by omega) rfl (by decide +kernel) ?_
  refine jT_advK 3 (pcN := 16) (LN := [(0, (4, 0))]) (stN := [(0, 1192), (4, 1)]) (hsN := jpA_202) (c1 := 0) (s1 := 0) (c2 := 0) (s2 := 0) (by decide +kernel) ?_ (by omega) (by omega)
  refine jT_iald (x := 0) (a := 1) (j := 1192) (fs := []) (X := jS0) (by rfl) (by rfl) (by rfl) (by rfl) (by decide +kernel) ?_
  refine jT_eq (LN := [(0, (4, 0))]) (stN := [(0, 0)]) (hsN := jpA_202) rfl rfl rfl ?_
  refine jT_advK 5 (pcN := 26) (LN := [(1, (0, 0)), (0, (4, 0))]) (stN := [(0, 0), (0, 1192), (4, 1)]) (hsN := jpA_202) (c1 := 0) (s1 := 0) (c2 := 0) (s2 := 0) (by decide +kernel) ?_ (by omega) (by omega)
  refine jT_iast (x := 0) (a := 1) (j := 1192) (fs := []) (X := jS0) (by rfl) (by rfl) (by rfl) (by rfl) (by rw [show List.length (jS0 : List Int) = 1613 from jS0_len]; omega) ?_
  refine jT_eq (LN := [(1, (0, 0)), (0, (4, 0))]) (stN := []) (hsN := jpA_2796) rfl rfl rfl ?_
  refine jT_advK 1 (pcN := 28) (LN := [(1, (0, 0)), (0, (4, 0))]) (stN := [(0, 0)]) (hsN := jpA_2796) (c1 := 0) (s1 := 0) (c2 := 0) (s2 := 0) (by decide +kernel) ?_ (by omega) (by omega)
  exact jT_ret rfl (by decide) (by show 24 ≤ 24; decide) (by omega) (by omega) ⟨rfl, rfl, rfl⟩
theorem jI_379_1614 : jmI (jm 379) 1614 = (.aload_n 1, 1) := by rfl
def jzA_2798 : JC := (13, [(4, 4), (4, 5), (4, 6), (4, 7), (4, 8), (4, 9), (4, 10), (4, 11), (4, 12), (4, 13), (0, 1), (4, 43), (0, 0)], [])
def jzA_2799 : JC := (9, [(4, 30), (4, 31), (4, 32), (4, 33), (4, 44)], [])
def jpA_2800 : List JC := [jzA_2798, jzA_266, jgh, jgh, jgh, jgh, jgh, jgh, jgh, jgh, jgh, jgh, jgh, jzA_327, jzA_322, (100, [], jS0), (100, [], []), jzA_323, jzA_197, jgh, jgh, jgh, jgh, jgh, jgh, jgh, jgh, jgh, jgh, jgh, jgh, jgh, jgh, jgh, (114, [], []), (100, [], (List.replicate 1613 0)), jgh, jgh, jgh, jgh, jgh, jgh, jgh, jzA_2799, (114, [], [])]
theorem jI_379_1618 : jmI (jm 379) 1618 = (.aload_n 2, 1) := by rfl
def jpA_2802 : List JC := [jzA_2798, jzA_330, jgh, jgh, jgh, jgh, jgh, jgh, jgh, jgh, jgh, jgh, jgh, jzA_327, jzA_322, (100, [], ((jS0).set 1192 0)), (100, [], []), jzA_323, jzA_331, jgh, jgh, jgh, jgh, jgh, jgh, jgh, jgh, jgh, jgh, jgh, jgh, jgh, jgh, jgh, (114, [], []), (100, [], jS0), jgh, jgh, jgh, jgh, jgh, jgh, jgh, jzA_2799, (114, [], [])]
theorem jI_379_1622 : jmI (jm 379) 1622 = (.if_icmp .eq 2118, 3) := by rfl
def jpA_2804 : List JC := [jzA_265, jzA_266, jgh, jgh, jgh, jgh, jgh, jgh, jgh, jgh, jgh, jgh, jgh, jzA_79, jzA_322, (100, [], jS0), (100, [], []), jzA_323, jzA_197, jgh, jgh, jgh, jgh, jgh, jgh, jgh, jgh, jgh, jgh, jgh, jgh, jgh, jgh, jgh, (114, [], []), (100, [], (List.replicate 1613 0)), jgh, jgh, jgh, jgh, jgh, jgh, jgh]
set_option maxRecDepth 100000 in
theorem jL_17_0 {d : Nat} {x0 x1 x2 x3 x4 : Int} (h_x0 : (-2147483648) ≤ x0 ∧ x0 ≤ 2147483647) (h_x1 : (-2147483648) ≤ x1 ∧ x1 ≤ 2147483647) (h_x2 : (-2147483648) ≤ x2 ∧ x2 ≤ 2147483647) (h_x3 : (-2147483648) ≤ x3 ∧ x3 ≤ 2147483647) (h_x4 : (-2147483648) ≤ x4 ∧ x4 ≤ 2147483647) : jT [x0, x1, x2, x3, x4] (d + 3) 379 43 1614 [(5, (0, 0)), (4, (4, 3)), (3, (4, 2)), (2, (4, 1)), (1, (4, 0)), (0, (6, 0))] [] jpA_2804 2 5 (fun k v hsN => k = 0 ∧ v = (0, 1)) := by
  refine jT_xaload_n (v := (4, 0)) (pcN := 1615) jI_379_1614 rfl rfl rfl ?_
  refine jT_fB [0, 4, 5, 6, 7, 8, 9, 10, 11, 12, 13, 14, 30, 31, 32, 33, 34] 43 (y := 99) (pcN := 1618) (dC := 2) (bc1 := 2) (bc2 := 5) (c1 := 0) (c2 := 0) (as := [(4, 0)]) (asC := [(4, 0)]) (LN := [(5, (0, 0)), (4, (4, 3)), (3, (4, 2)), (2, (4, 1)), (1, (4, 0)), (0, (6, 0))]) (stN := []) (hsC := jpA_2790) (hsD := jpA_2794) (v := (0, 0)) (st2 := [(0, 0)]) (hs2 := jpA_2800) (jA_99_700 (d := 0)) (by rfl) (by rfl) (by decide +kernel) (by rfl) (by rfl) (by omega) (by omega) (by omega) (by omega) rfl (by decide +kernel) ?_
  refine jT_xaload_n (v := (4, 1)) (pcN := 1619) jI_379_1618 rfl rfl rfl ?_
  refine jT_fB [1, 15, 16, 17, 18, 19, 20, 21, 22, 23, 24, 25, 26, 27, 28, 29, 35, 36, 37, 38, 39, 40, 41, 42] 45 (y := 258) (pcN := 1622) (dC := 1) (bc1 := 0) (bc2 := 0) (c1 := 0) (c2 := 0) (as := [(4, 1)]) (asC := [(4, 0)]) (LN := [(5, (0, 0)), (4, (4, 3)), (3, (4, 2)), (2, (4, 1)), (1, (4, 0)), (0, (6, 0))]) (stN := [(0, 0)]) (hsC := jpA_198) (hsD := jpA_2796) (v := (0, 0)) (st2 := [(0, 0), (0, 0)]) (hs2 := jpA_2802) (jA_258_701 (d := 0)) (by rfl) (by rfl) (by decide +kernel) (by rfl) (by rfl) (by omega) (by omega) (by omega) (by omega) rfl (by decide +kernel) ?_
  refine jT_xicT (pcN := 3740) jI_379_1622 rfl (by decide +kernel) rfl ?_
  refine jT_xiinc (x := 0) (z := 5) (LN := [(5, (0, 5)), (4, (4, 3)), (3, (4, 2)), (2, (4, 1)), (1, (4, 0)), (0, (6, 0))]) (pcN := 3743) jI_379_3740 rfl rfl (by decide) rfl rfl ?_
  refine jT_xgoto (pcN := 28) jI_379_3743 rfl ?_
  refine jT_xiload (v := (0, 5)) (pcN := 30) jI_379_28 rfl rfl rfl ?_
  refine jT_xaload_n (v := (6, 0)) (pcN := 31) jI_379_30 rfl rfl rfl ?_
  refine jT_adv 1 (pcN := 32) (LN := [(5, (0, 5)), (4, (4, 3)), (3, (4, 2)), (2, (4, 1)), (1, (4, 0)), (0, (6, 0))]) (stN := [(0, 5), (0, 5)]) (hsN := jpA_2802) (c1 := 0) (s1 := 0) (c2 := 0) (s2 := 0) (by exact rfl) ?_ (by omega) (by omega)
  refine jT_xiconst (k := 5) (pcN := 33) jI_379_32 rfl ?_
  refine jT_xisub (x := 5) (y := 5) (z := 0) (pcN := 34) jI_379_33 rfl (by decide) rfl ?_
  refine jT_xicT (pcN := 3746) jI_379_34 rfl (by decide +kernel) rfl ?_
  refine jT_xiconst (k := 1) (pcN := 3747) jI_379_3746 rfl ?_
  exact jT_ret rfl (by decide) (by show 43 ≤ 45; decide) (by omega) (by omega) ⟨rfl, rfl⟩
theorem jA_136_702 {xs : List Int} {d : Nat} : jT xs d 136 12 0 [(0, (4, 0))] [] jpA_6 1 6 (fun k v hsN => k = 1 ∧ v = (0, 3) ∧ hsN = jpA_6 ++ []) := by
  refine jT_advK 7 (pcN := 39) (LN := [(1, (4, (-1))), (0, (4, 0))]) (stN := []) (hsN := jpA_6) (c1 := 0) (s1 := 0) (c2 := 1) (s2 := 6) (by decide +kernel) ?_ (by omega) (by omega)
  exact jT_ret (c1 := 1) (s1 := 6) rfl (by decide) (by show 12 ≤ 12; decide) (by omega) (by omega) ⟨rfl, rfl, rfl⟩
theorem jA_343_703 {xs : List Int} {d : Nat} : jT xs (d + 1) 343 13 0 [(0, (4, 0)), (1, (4, 1))] [] jpA_15 1 6 (fun k v hsN => k = 0 ∧ v = (0, 1) ∧ hsN = jpA_15 ++ []) := by
  refine jT_advK 3 (pcN := 3) (LN := [(0, (4, 0)), (1, (4, 1))]) (stN := [(4, 0), (0, 0), (4, 1)]) (hsN := jpA_15) (c1 := 0) (s1 := 0) (c2 := 1) (s2 := 6) (by decide +kernel) ?_ (by omega) (by omega)
  exact jT_fX [0, 2, 3, 4, 5, 6, 7, 8, 9, 10, 11, 12] 13 (y := 136) (pcN := 6) (dC := 0) (bc1 := 1) (bc2 := 6) (as := [(4, 0)]) (asC := [(4, 0)]) (LN := [(0, (4, 0)), (1, (4, 1))]) (stN := [(0, 0), (4, 1)]) (hsC := jpA_6) (e := 3) (jA_136_702 (d := 0)) (by rfl) (by rfl) (by decide +kernel) (by rfl) (by rfl) (by omega) (by omega) (by omega) (by omega) (show _ from ⟨rfl, rfl, rfl⟩)
theorem jA_259_704 {xs : List Int} {d : Nat} : jT xs (d + 2) 259 16 0 [(0, (4, 0))] [] jpA_22 0 0 (fun k v hsN => k = 0 ∧ v = (0, 0) ∧ hsN = jpA_20) := by
  refine jT_advK 5 (pcN := 13) (LN := [(0, (4, 0))]) (stN := [(0, 0), (4, 0)]) (hsN := jpA_22) (c1 := 0) (s1 := 0) (c2 := 0) (s2 := 0) (by decide +kernel) ?_ (by omega) (by omega)
  refine jT_fB [0, 1, 2, 3, 4, 5, 6, 7, 8, 9, 10, 11, 12, 13, 14, 15] 16 (y := 190) (pcN := 16) (dC := 1) (bc1 := 0) (bc2 := 0) (c1 := 0) (c2 := 0) (as := [(4, 0), (0, 0)]) (asC := [(4, 0), (0, 0)]) (LN := [(0, (4, 0))]) (stN := []) (hsC := jpA_22) (hsD := jpA_20) (v := (0, 1)) (st2 := [(0, 1)]) (hs2 := jpA_20) (jA_190_6 (d := 0)) (by rfl) (by rfl) (by decide +kernel) (by rfl) (by rfl) (by omega) (by omega) (by omega) (by omega) rfl (by decide +kernel) ?_
  refine jT_advK 2 (pcN := 20) (LN := [(0, (4, 0))]) (stN := [(0, 0)]) (hsN := jpA_20) (c1 := 0) (s1 := 0) (c2 := 0) (s2 := 0) (by decide +kernel) ?_ (by omega) (by omega)
  exact jT_ret rfl (by decide) (by show 16 ≤ 16; decide) (by omega) (by omega) ⟨rfl, rfl, rfl⟩
theorem jI_379_1627 : jmI (jm 379) 1627 = (.aload_n 1, 1) := by rfl
theorem jI_379_1628 : jmI (jm 379) 1628 = (.aload_n 3, 1) := by rfl
theorem jI_379_1632 : jmI (jm 379) 1632 = (.istore 6, 2) := by rfl
theorem jI_379_1634 : jmI (jm 379) 1634 = (.aload_n 2, 1) := by rfl
theorem jI_379_1638 : jmI (jm 379) 1638 = (.istore 7, 2) := by rfl
theorem jI_379_1640 : jmI (jm 379) 1640 = (.aload_n 2, 1) := by rfl
theorem jI_379_1644 : jmI (jm 379) 1644 = (.iload 6, 2) := by rfl
theorem jI_379_1646 : jmI (jm 379) 1646 = (.if_icmp .eq 5, 3) := by rfl
theorem jI_379_1651 : jmI (jm 379) 1651 = (.iload 6, 2) := by rfl
theorem jI_379_1653 : jmI (jm 379) 1653 = (.ifCond .ne 15, 3) := by rfl
theorem jI_379_1668 : jmI (jm 379) 1668 = (.goto 2072, 3) := by rfl
set_option maxRecDepth 100000 in
theorem jL_18_0 {d : Nat} {x0 x1 x2 x3 x4 : Int} (h_x0 : (-2147483648) ≤ x0 ∧ x0 ≤ 2147483647) (h_x1 : (-2147483648) ≤ x1 ∧ x1 ≤ 2147483647) (h_x2 : (-2147483648) ≤ x2 ∧ x2 ≤ 2147483647) (h_x3 : (-2147483648) ≤ x3 ∧ x3 ≤ 2147483647) (h_x4 : (-2147483648) ≤ x4 ∧ x4 ≤ 2147483647) : jT [x0, x1, x2, x3, x4] (d + 3) 379 30 1627 [(5, (0, 0)), (4, (4, 3)), (3, (4, 2)), (2, (4, 1)), (1, (4, 0)), (0, (6, 0))] [] jpA_267 1 6 (fun k v hsN => k = 0 ∧ v = (0, 1)) := by
  refine jT_xaload_n (v := (4, 0)) (pcN := 1628) jI_379_1627 rfl rfl rfl ?_
  refine jT_xaload_n (v := (4, 2)) (pcN := 1629) jI_379_1628 rfl rfl rfl ?_
  refine jT_fR [0, 2, 4, 5, 6, 7, 8, 9, 10, 11, 12, 13, 14] 30 (y := 343) (pcN := 1632) (dC := 1) (bc1 := 1) (bc2 := 6) (c1 := 0) (c2 := 0) (as := [(4, 0), (4, 2)]) (asC := [(4, 0), (4, 1)]) (LN := [(5, (0, 0)), (4, (4, 3)), (3, (4, 2)), (2, (4, 1)), (1, (4, 0)), (0, (6, 0))]) (stN := []) (hsC := jpA_15) (v := (0, 1)) (st2 := [(0, 1)]) (jA_343_703 (d := 0)) (by rfl) (by rfl) (by decide +kernel) (by rfl) (by rfl) (by omega) (by omega) (by omega) (by omega) rfl ?_
  refine jT_xistore (v := (0, 1)) (LN := [(6, (0, 1)), (5, (0, 0)), (4, (4, 3)), (3, (4, 2)), (2, (4, 1)), (1, (4, 0)), (0, (6, 0))]) (pcN := 1634) jI_379_1632 rfl rfl rfl rfl ?_
  refine jT_xaload_n (v := (4, 1)) (pcN := 1635) jI_379_1634 rfl rfl rfl ?_
  refine jT_fB [1, 15, 16, 17, 18, 19, 20, 21, 22, 23, 24, 25, 26, 27, 28, 29] 30 (y := 259) (pcN := 1638) (dC := 2) (bc1 := 0) (bc2 := 0) (c1 := 0) (c2 := 0) (as := [(4, 1)]) (asC := [(4, 0)]) (LN := [(6, (0, 1)), (5, (0, 0)), (4, (4, 3)), (3, (4, 2)), (2, (4, 1)), (1, (4, 0)), (0, (6, 0))]) (stN := []) (hsC := jpA_22) (hsD := jpA_20) (v := (0, 0)) (st2 := [(0, 0)]) (hs2 := jpA_306) (jA_259_704 (d := 0)) (by rfl) (by rfl) (by decide +kernel) (by rfl) (by rfl) (by omega) (by omega) (by omega) (by omega) rfl (by decide +kernel) ?_
  refine jT_xistore (v := (0, 0)) (LN := [(7, (0, 0)), (6, (0, 1)), (5, (0, 0)), (4, (4, 3)), (3, (4, 2)), (2, (4, 1)), (1, (4, 0)), (0, (6, 0))]) (pcN := 1640) jI_379_1638 rfl rfl rfl rfl ?_
  refine jT_xaload_n (v := (4, 1)) (pcN := 1641) jI_379_1640 rfl rfl rfl ?_
  refine jT_fR [1, 15, 16, 17, 18, 19, 20, 21, 22, 23, 24, 25, 26, 27, 28, 29] 30 (y := 186) (pcN := 1644) (dC := 0) (bc1 := 0) (bc2 := 0) (c1 := 0) (c2 := 0) (as := [(4, 1)]) (asC := [(4, 0)]) (LN := [(7, (0, 0)), (6, (0, 1)), (5, (0, 0)), (4, (4, 3)), (3, (4, 2)), (2, (4, 1)), (1, (4, 0)), (0, (6, 0))]) (stN := []) (hsC := jpA_20) (v := (0, 1)) (st2 := [(0, 1)]) (jA_186_8 (d := 0)) (by rfl) (by rfl) (by decide +kernel) (by rfl) (by rfl) (by omega) (by omega) (by omega) (by omega) rfl ?_
  refine jT_xiload (v := (0, 1)) (pcN := 1646) jI_379_1644 rfl rfl rfl ?_
  refine jT_xicT (pcN := 1651) jI_379_1646 rfl (by decide +kernel) rfl ?_
  refine jT_xiload (v := (0, 1)) (pcN := 1653) jI_379_1651 rfl rfl rfl ?_
  refine jT_xifT (pcN := 1668) jI_379_1653 rfl (by decide +kernel) rfl ?_
  refine jT_xgoto (pcN := 3740) jI_379_1668 rfl ?_
  refine jT_xiinc (x := 0) (z := 5) (LN := [(5, (0, 5)), (7, (0, 0)), (6, (0, 1)), (4, (4, 3)), (3, (4, 2)), (2, (4, 1)), (1, (4, 0)), (0, (6, 0))]) (pcN := 3743) jI_379_3740 rfl rfl (by decide) rfl rfl ?_
  refine jT_xgoto (pcN := 28) jI_379_3743 rfl ?_
  refine jT_xiload (v := (0, 5)) (pcN := 30) jI_379_28 rfl rfl rfl ?_
  refine jT_xaload_n (v := (6, 0)) (pcN := 31) jI_379_30 rfl rfl rfl ?_
  refine jT_adv 1 (pcN := 32) (LN := [(5, (0, 5)), (7, (0, 0)), (6, (0, 1)), (4, (4, 3)), (3, (4, 2)), (2, (4, 1)), (1, (4, 0)), (0, (6, 0))]) (stN := [(0, 5), (0, 5)]) (hsN := jpA_306) (c1 := 0) (s1 := 0) (c2 := 0) (s2 := 0) (by exact rfl) ?_ (by omega) (by omega)
  refine jT_xiconst (k := 5) (pcN := 33) jI_379_32 rfl ?_
  refine jT_xisub (x := 5) (y := 5) (z := 0) (pcN := 34) jI_379_33 rfl (by decide) rfl ?_
  refine jT_xicT (pcN := 3746) jI_379_34 rfl (by decide +kernel) rfl ?_
  refine jT_xiconst (k := 1) (pcN := 3747) jI_379_3746 rfl ?_
  exact jT_ret rfl (by decide) (by show 30 ≤ 30; decide) (by omega) (by omega) ⟨rfl, rfl⟩
