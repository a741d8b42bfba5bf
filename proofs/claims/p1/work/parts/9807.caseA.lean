/-! the law, case by case: 19, 20, 21, 23, 24, 25, 26, 27, 28 -/
theorem jI_137_0 : jmI (jm 137) 0 = (.aload_n 0, 1) := by rfl
theorem jI_137_1 : jmI (jm 137) 1 = (.iload_n 1, 1) := by rfl
theorem jI_137_2 : jmI (jm 137) 2 = (.bipush 8, 2) := by rfl
theorem jA_137_705 {xs : List Int} {d : Nat} {x1 x2 : Int} (h_x1 : (-2147483648) ≤ x1 ∧ x1 ≤ (-1)) (h_x2 : (-2147483648) ≤ x2 ∧ x2 ≤ 2147483647) : jT xs (d + 1) 137 12 0 [(0, (4, 0)), (1, (0, x1)), (2, (0, x2))] [] jpA_6 1 6 (fun k v hsN => k = 1 ∧ v = (0, 0) ∧ hsN = jpA_6 ++ []) := by
  refine jT_xaload_n (v := (4, 0)) (pcN := 1) jI_137_0 rfl rfl rfl ?_
  refine jT_xiload_n (v := (0, x1)) (pcN := 2) jI_137_1 rfl rfl rfl ?_
  refine jT_xbipush (k := 8) (pcN := 4) jI_137_2 (by decide) rfl ?_
  exact jT_fX [0] 12 (y := 115) (pcN := 7) (dC := 0) (bc1 := 1) (bc2 := 6) (as := [(4, 0), (0, x1), (0, 8)]) (asC := [(4, 0), (0, x1), (0, 8)]) (LN := [(0, (4, 0)), (1, (0, x1)), (2, (0, x2))]) (stN := []) (hsC := [jgh]) (e := 0) (jA_115_1 (d := 0) (by omega)) (by rfl) (by rfl) (by decide +kernel) (by rfl) (by rfl) (by omega) (by omega) (by omega) (by omega) ⟨rfl, ⟨rfl, rfl, rfl⟩⟩
theorem jI_344_0 : jmI (jm 344) 0 = (.aload_n 3, 1) := by rfl
theorem jI_344_1 : jmI (jm 344) 1 = (.iconst 0, 1) := by rfl
theorem jI_344_2 : jmI (jm 344) 2 = (.aload_n 0, 1) := by rfl
theorem jI_344_3 : jmI (jm 344) 3 = (.iload_n 1, 1) := by rfl
theorem jI_344_4 : jmI (jm 344) 4 = (.iload_n 2, 1) := by rfl
theorem jA_344_706 {xs : List Int} {d : Nat} {x1 x2 : Int} (h_x1 : (-2147483648) ≤ x1 ∧ x1 ≤ (-1)) (h_x2 : (-2147483648) ≤ x2 ∧ x2 ≤ 2147483647) : jT xs (d + 2) 344 13 0 [(0, (4, 0)), (1, (0, x1)), (2, (0, x2)), (3, (4, 1))] [] jpA_15 1 6 (fun k v hsN => k = 0 ∧ v = (0, 1) ∧ hsN = jpA_15 ++ []) := by
  refine jT_xaload_n (v := (4, 1)) (pcN := 1) jI_344_0 rfl rfl rfl ?_
  refine jT_xiconst (k := 0) (pcN := 2) jI_344_1 rfl ?_
  refine jT_xaload_n (v := (4, 0)) (pcN := 3) jI_344_2 rfl rfl rfl ?_
  refine jT_xiload_n (v := (0, x1)) (pcN := 4) jI_344_3 rfl rfl rfl ?_
  refine jT_xiload_n (v := (0, x2)) (pcN := 5) jI_344_4 rfl rfl rfl ?_
  exact jT_fX [0, 2, 3, 4, 5, 6, 7, 8, 9, 10, 11, 12] 13 (y := 137) (pcN := 8) (dC := 1) (bc1 := 1) (bc2 := 6) (as := [(4, 0), (0, x1), (0, x2)]) (asC := [(4, 0), (0, x1), (0, x2)]) (LN := [(0, (4, 0)), (1, (0, x1)), (2, (0, x2)), (3, (4, 1))]) (stN := [(0, 0), (4, 1)]) (hsC := jpA_6) (e := 0) (jA_137_705 (d := 0) (by omega) (by omega)) (by rfl) (by rfl) (by decide +kernel) (by rfl) (by rfl) (by omega) (by omega) (by omega) (by omega) (show _ from ⟨rfl, rfl, rfl⟩)
theorem jI_260_0 : jmI (jm 260) 0 = (.aload_n 0, 1) := by rfl
theorem jI_260_1 : jmI (jm 260) 1 = (.iload_n 1, 1) := by rfl
theorem jI_260_5 : jmI (jm 260) 5 = (.ifCond .eq 19, 3) := by rfl
theorem jI_260_24 : jmI (jm 260) 24 = (.iconst 0, 1) := by rfl
theorem jI_260_28 : jmI (jm 260) 28 = (.ifCond .eq 7, 3) := by rfl
theorem jI_260_31 : jmI (jm 260) 31 = (.iconst 0, 1) := by rfl
theorem jI_260_32 : jmI (jm 260) 32 = (.goto 14, 3) := by rfl
theorem jA_260_707 {xs : List Int} {d : Nat} {x1 x2 : Int} (h_x1 : (-2147483648) ≤ x1 ∧ x1 ≤ (-1)) (h_x2 : (-2147483648) ≤ x2 ∧ x2 ≤ 2147483647) : jT xs (d + 2) 260 16 0 [(0, (4, 0)), (1, (0, x1)), (2, (0, x2))] [] jpA_22 0 0 (fun k v hsN => k = 0 ∧ v = (0, 0) ∧ hsN = jpA_20) := by
  refine jT_xaload_n (v := (4, 0)) (pcN := 1) jI_260_0 rfl rfl rfl ?_
  refine jT_xiload_n (v := (0, x1)) (pcN := 2) jI_260_1 rfl rfl rfl ?_
  refine jT_fR [] 16 (y := 188) (pcN := 5) (dC := 1) (bc1 := 0) (bc2 := 0) (c1 := 0) (c2 := 0) (as := [(0, x1)]) (asC := [(0, x1)]) (LN := [(0, (4, 0)), (1, (0, x1)), (2, (0, x2))]) (stN := [(4, 0)]) (hsC := []) (v := (0, 0)) (st2 := [(0, 0), (4, 0)]) (jA_188_4 (d := 0) (by omega)) (by rfl) (by rfl) (by decide +kernel) (by rfl) (by rfl) (by omega) (by omega) (by omega) (by omega) rfl ?_
  refine jT_xifT (pcN := 24) jI_260_5 rfl (by decide +kernel) rfl ?_
  refine jT_xiconst (k := 0) (pcN := 25) jI_260_24 rfl ?_
  refine jT_fB [0, 1, 2, 3, 4, 5, 6, 7, 8, 9, 10, 11, 12, 13, 14, 15] 16 (y := 190) (pcN := 28) (dC := 1) (bc1 := 0) (bc2 := 0) (c1 := 0) (c2 := 0) (as := [(4, 0), (0, 0)]) (asC := [(4, 0), (0, 0)]) (LN := [(0, (4, 0)), (1, (0, x1)), (2, (0, x2))]) (stN := []) (hsC := jpA_22) (hsD := jpA_20) (v := (0, 1)) (st2 := [(0, 1)]) (hs2 := jpA_20) (jA_190_6 (d := 0)) (by rfl) (by rfl) (by decide +kernel) (by rfl) (by rfl) (by omega) (by omega) (by omega) (by omega) rfl (by decide +kernel) ?_
  refine jT_xifF (t := 35) (pcN := 31) jI_260_28 rfl (by decide +kernel) rfl rfl ?_
  refine jT_xiconst (k := 0) (pcN := 32) jI_260_31 rfl ?_
  refine jT_xgoto (pcN := 46) jI_260_32 rfl ?_
  exact jT_ret rfl (by decide) (by show 16 ≤ 16; decide) (by omega) (by omega) ⟨rfl, rfl, rfl⟩
theorem jA_115_708 {xs : List Int} {d : Nat} {x2 : Int} (h_x2 : (-2147483648) ≤ x2 ∧ x2 ≤ (-1)) : jT xs d 115 1 0 [(0, (4, 0)), (1, (0, x2)), (2, (0, 6))] [] [jgh] 1 6 (fun k v hsN => k = 1 ∧ v = (0, 0) ∧ hsN = [jgh] ++ []) := by
  refine jT_xiload_n (v := (0, x2)) (pcN := 1) jI_115_0 rfl rfl rfl ?_
  refine jT_ifT (a := x2) (t := 9) (by rfl) (by rfl) (by rfl) (jw_idd (by omega) (by omega)) (by simp only [jcP] <;> omega) ?_
  exact jT_ret (c1 := 1) (s1 := 6) rfl (by decide) (by show 1 ≤ 1; decide) (by omega) (by omega) ⟨rfl, rfl, rfl⟩
theorem jI_137_7 : jmI (jm 137) 7 = (.aload_n 0, 1) := by rfl
theorem jI_137_8 : jmI (jm 137) 8 = (.iload_n 2, 1) := by rfl
theorem jI_137_9 : jmI (jm 137) 9 = (.bipush 6, 2) := by rfl
theorem jA_137_709 {xs : List Int} {d : Nat} {x1 x2 : Int} (h_x1 : 0 ≤ x1 ∧ x1 ≤ 7) (h_x2 : (-2147483648) ≤ x2 ∧ x2 ≤ (-1)) : jT xs (d + 1) 137 12 0 [(0, (4, 0)), (1, (0, x1)), (2, (0, x2))] [] jpA_6 1 6 (fun k v hsN => k = 1 ∧ v = (0, 0) ∧ hsN = jpA_6 ++ []) := by
  refine jT_xaload_n (v := (4, 0)) (pcN := 1) jI_137_0 rfl rfl rfl ?_
  refine jT_xiload_n (v := (0, x1)) (pcN := 2) jI_137_1 rfl rfl rfl ?_
  refine jT_xbipush (k := 8) (pcN := 4) jI_137_2 (by decide) rfl ?_
  refine jT_fR [0] 12 (y := 115) (pcN := 7) (dC := 0) (bc1 := 0) (bc2 := 0) (c1 := 1) (c2 := 6) (as := [(4, 0), (0, x1), (0, 8)]) (asC := [(4, 0), (0, x1), (0, 8)]) (LN := [(0, (4, 0)), (1, (0, x1)), (2, (0, x2))]) (stN := []) (hsC := [jgh]) (v := (9, 0)) (st2 := []) (jA_115_9 (d := 0) (by omega)) (by rfl) (by rfl) (by decide +kernel) (by rfl) (by rfl) (by omega) (by omega) (by omega) (by omega) rfl ?_
  refine jT_xaload_n (v := (4, 0)) (pcN := 8) jI_137_7 rfl rfl rfl ?_
  refine jT_xiload_n (v := (0, x2)) (pcN := 9) jI_137_8 rfl rfl rfl ?_
  refine jT_xbipush (k := 6) (pcN := 11) jI_137_9 (by decide) rfl ?_
  exact jT_fX [0] 12 (y := 115) (pcN := 14) (dC := 0) (bc1 := 1) (bc2 := 6) (as := [(4, 0), (0, x2), (0, 6)]) (asC := [(4, 0), (0, x2), (0, 6)]) (LN := [(0, (4, 0)), (1, (0, x1)), (2, (0, x2))]) (stN := []) (hsC := [jgh]) (e := 0) (jA_115_708 (d := 0) (by omega)) (by rfl) (by rfl) (by decide +kernel) (by rfl) (by rfl) (by omega) (by omega) (by omega) (by omega) ⟨rfl, ⟨rfl, rfl, rfl⟩⟩
theorem jA_344_710 {xs : List Int} {d : Nat} {x1 x2 : Int} (h_x1 : 0 ≤ x1 ∧ x1 ≤ 7) (h_x2 : (-2147483648) ≤ x2 ∧ x2 ≤ (-1)) : jT xs (d + 2) 344 13 0 [(0, (4, 0)), (1, (0, x1)), (2, (0, x2)), (3, (4, 1))] [] jpA_15 1 6 (fun k v hsN => k = 0 ∧ v = (0, 1) ∧ hsN = jpA_15 ++ []) := by
  refine jT_xaload_n (v := (4, 1)) (pcN := 1) jI_344_0 rfl rfl rfl ?_
  refine jT_xiconst (k := 0) (pcN := 2) jI_344_1 rfl ?_
  refine jT_xaload_n (v := (4, 0)) (pcN := 3) jI_344_2 rfl rfl rfl ?_
  refine jT_xiload_n (v := (0, x1)) (pcN := 4) jI_344_3 rfl rfl rfl ?_
  refine jT_xiload_n (v := (0, x2)) (pcN := 5) jI_344_4 rfl rfl rfl ?_
  exact jT_fX [0, 2, 3, 4, 5, 6, 7, 8, 9, 10, 11, 12] 13 (y := 137) (pcN := 8) (dC := 1) (bc1 := 1) (bc2 := 6) (as := [(4, 0), (0, x1), (0, x2)]) (asC := [(4, 0), (0, x1), (0, x2)]) (LN := [(0, (4, 0)), (1, (0, x1)), (2, (0, x2)), (3, (4, 1))]) (stN := [(0, 0), (4, 1)]) (hsC := jpA_6) (e := 0) (jA_137_709 (d := 0) (by omega) (by omega)) (by rfl) (by rfl) (by decide +kernel) (by rfl) (by rfl) (by omega) (by omega) (by omega) (by omega) (show _ from ⟨rfl, rfl, rfl⟩)
theorem jI_260_8 : jmI (jm 260) 8 = (.iload_n 2, 1) := by rfl
theorem jI_260_9 : jmI (jm 260) 9 = (.i2l, 1) := by rfl
theorem jI_260_10 : jmI (jm 260) 10 = (.lconst 0, 1) := by rfl
theorem jI_260_17 : jmI (jm 260) 17 = (.ifCond .eq 7, 3) := by rfl
theorem jA_260_711 {xs : List Int} {d : Nat} {x1 x2 : Int} (h_x1 : 0 ≤ x1 ∧ x1 ≤ 7) (h_x2 : (-2147483648) ≤ x2 ∧ x2 ≤ (-1)) : jT xs (d + 2) 260 16 0 [(0, (4, 0)), (1, (0, x1)), (2, (0, x2))] [] jpA_22 0 0 (fun k v hsN => k = 0 ∧ v = (0, 0) ∧ hsN = jpA_20) := by
  refine jT_xaload_n (v := (4, 0)) (pcN := 1) jI_260_0 rfl rfl rfl ?_
  refine jT_xiload_n (v := (0, x1)) (pcN := 2) jI_260_1 rfl rfl rfl ?_
  refine jT_fR [] 16 (y := 188) (pcN := 5) (dC := 1) (bc1 := 0) (bc2 := 0) (c1 := 0) (c2 := 0) (as := [(0, x1)]) (asC := [(0, x1)]) (LN := [(0, (4, 0)), (1, (0, x1)), (2, (0, x2))]) (stN := [(4, 0)]) (hsC := []) (v := (0, 1)) (st2 := [(0, 1), (4, 0)]) (jA_188_13 (d := 0) (by omega)) (by rfl) (by rfl) (by decide +kernel) (by rfl) (by rfl) (by omega) (by omega) (by omega) (by omega) rfl ?_
  refine jT_xifF (t := 24) (pcN := 8) jI_260_5 rfl (by decide +kernel) rfl rfl ?_
  refine jT_xiload_n (v := (0, x2)) (pcN := 9) jI_260_8 rfl rfl rfl ?_
  refine jT_xi2l (x := x2) (z := x2) (pcN := 10) jI_260_9 rfl (jw_idd (by omega) (by omega)) rfl ?_
  refine jT_xlconst (z := 0) (pcN := 11) jI_260_10 rfl rfl ?_
  refine jT_adv 1 (pcN := 14) (LN := [(0, (4, 0)), (1, (0, x1)), (2, (0, x2))]) (stN := [(1, 5), (1, 0), (1, x2), (4, 0)]) (hsN := jpA_22) (c1 := 0) (s1 := 0) (c2 := 0) (s2 := 0) (by exact rfl) ?_ (by omega) (by omega)
  refine jT_fR [] 16 (y := 189) (pcN := 17) (dC := 0) (bc1 := 0) (bc2 := 0) (c1 := 0) (c2 := 0) (as := [(1, x2), (1, 0), (1, 5)]) (asC := [(1, x2), (1, 0), (1, 5)]) (LN := [(0, (4, 0)), (1, (0, x1)), (2, (0, x2))]) (stN := [(4, 0)]) (hsC := []) (v := (0, 0)) (st2 := [(0, 0), (4, 0)]) (jT_in_lo (d := 0) (v := x2) (lo := 0) (hi := 5) (by omega) (by omega) (by omega) (by omega)) (by rfl) (by rfl) (by decide +kernel) (by rfl) (by rfl) (by omega) (by omega) (by omega) (by omega) rfl ?_
  refine jT_xifT (pcN := 24) jI_260_17 rfl (by decide +kernel) rfl ?_
  refine jT_xiconst (k := 0) (pcN := 25) jI_260_24 rfl ?_
  refine jT_fB [0, 1, 2, 3, 4, 5, 6, 7, 8, 9, 10, 11, 12, 13, 14, 15] 16 (y := 190) (pcN := 28) (dC := 1) (bc1 := 0) (bc2 := 0) (c1 := 0) (c2 := 0) (as := [(4, 0), (0, 0)]) (asC := [(4, 0), (0, 0)]) (LN := [(0, (4, 0)), (1, (0, x1)), (2, (0, x2))]) (stN := []) (hsC := jpA_22) (hsD := jpA_20) (v := (0, 1)) (st2 := [(0, 1)]) (hs2 := jpA_20) (jA_190_6 (d := 0)) (by rfl) (by rfl) (by decide +kernel) (by rfl) (by rfl) (by omega) (by omega) (by omega) (by omega) rfl (by decide +kernel) ?_
  refine jT_xifF (t := 35) (pcN := 31) jI_260_28 rfl (by decide +kernel) rfl rfl ?_
  refine jT_xiconst (k := 0) (pcN := 32) jI_260_31 rfl ?_
  refine jT_xgoto (pcN := 46) jI_260_32 rfl ?_
  exact jT_ret rfl (by decide) (by show 16 ≤ 16; decide) (by omega) (by omega) ⟨rfl, rfl, rfl⟩
theorem jA_115_712 {xs : List Int} {d : Nat} {x2 : Int} (h_x2 : 0 ≤ x2 ∧ x2 ≤ 5) : jT xs d 115 1 0 [(0, (4, 0)), (1, (0, x2)), (2, (0, 6))] [] [jgh] 0 0 (fun k v hsN => k = 0 ∧ v = (9, 0) ∧ hsN = [jgh] ++ []) := by
  refine jT_xiload_n (v := (0, x2)) (pcN := 1) jI_115_0 rfl rfl rfl ?_
  refine jT_ifF (a := x2) (t := 9) (by rfl) (by rfl) (by rfl) (jw_idd (by omega) (by omega)) (by simp only [jcP] <;> omega) ?_
  refine jT_xiload_n (v := (0, x2)) (pcN := 5) jI_115_4 rfl rfl rfl ?_
  refine jT_xiload_n (v := (0, 6)) (pcN := 6) jI_115_5 rfl rfl rfl ?_
  refine jT_icT (a := x2) (b := 6) (t := 20) (by rfl) (by rfl) (by rfl) (jw_idd (by omega) (by omega)) (jw_idd (by omega) (by omega)) (by simp only [jcP] <;> omega) ?_
  exact jT_ret rfl (by decide) (by show 1 ≤ 1; decide) (by omega) (by omega) ⟨rfl, rfl, rfl⟩
theorem jI_137_14 : jmI (jm 137) 14 = (.aload_n 0, 1) := by rfl
theorem jI_137_15 : jmI (jm 137) 15 = (.getfield 67, 3) := by rfl
theorem jI_137_18 : jmI (jm 137) 18 = (.iload_n 1, 1) := by rfl
theorem jI_137_22 : jmI (jm 137) 22 = (.getfield 209, 3) := by rfl
theorem jI_137_25 : jmI (jm 137) 25 = (.iload_n 2, 1) := by rfl
theorem jI_137_26 : jmI (jm 137) 26 = (.laload, 1) := by rfl
theorem jI_137_27 : jmI (jm 137) 27 = (.l2i, 1) := by rfl
theorem jA_137_713 {xs : List Int} {d : Nat} {x1 x2 : Int} (h_x1 : 0 ≤ x1 ∧ x1 ≤ 7) (h_x2 : 0 ≤ x2 ∧ x2 ≤ 5) : jT xs (d + 1) 137 19 0 [(0, (4, 0)), (1, (0, x1)), (2, (0, x2))] [] jpA_1979 0 0 (fun k v hsN => k = 0 ∧ v = (0, 0) ∧ hsN = jpA_1979 ++ []) := by
  refine jT_xaload_n (v := (4, 0)) (pcN := 1) jI_137_0 rfl rfl rfl ?_
  refine jT_xiload_n (v := (0, x1)) (pcN := 2) jI_137_1 rfl rfl rfl ?_
  refine jT_xbipush (k := 8) (pcN := 4) jI_137_2 (by decide) rfl ?_
  refine jT_fR [0] 19 (y := 115) (pcN := 7) (dC := 0) (bc1 := 0) (bc2 := 0) (c1 := 0) (c2 := 0) (as := [(4, 0), (0, x1), (0, 8)]) (asC := [(4, 0), (0, x1), (0, 8)]) (LN := [(0, (4, 0)), (1, (0, x1)), (2, (0, x2))]) (stN := []) (hsC := [jgh]) (v := (9, 0)) (st2 := []) (jA_115_9 (d := 0) (by omega)) (by rfl) (by rfl) (by decide +kernel) (by rfl) (by rfl) (by omega) (by omega) (by omega) (by omega) rfl ?_
  refine jT_xaload_n (v := (4, 0)) (pcN := 8) jI_137_7 rfl rfl rfl ?_
  refine jT_xiload_n (v := (0, x2)) (pcN := 9) jI_137_8 rfl rfl rfl ?_
  refine jT_xbipush (k := 6) (pcN := 11) jI_137_9 (by decide) rfl ?_
  refine jT_fR [0] 19 (y := 115) (pcN := 14) (dC := 0) (bc1 := 0) (bc2 := 0) (c1 := 0) (c2 := 0) (as := [(4, 0), (0, x2), (0, 6)]) (asC := [(4, 0), (0, x2), (0, 6)]) (LN := [(0, (4, 0)), (1, (0, x1)), (2, (0, x2))]) (stN := []) (hsC := [jgh]) (v := (9, 0)) (st2 := []) (jA_115_712 (d := 0) (by omega)) (by rfl) (by rfl) (by decide +kernel) (by rfl) (by rfl) (by omega) (by omega) (by omega) (by omega) rfl ?_
  refine jT_xaload_n (v := (4, 0)) (pcN := 15) jI_137_14 rfl rfl rfl ?_
  refine jT_xgetf (a := 0) (t := 1) (ci := 13) (fi := 11) (c := jzA_5) (v := (4, 11)) (pcN := 18) jI_137_15 rfl rfl rfl rfl rfl rfl rfl ?_
  refine jT_xiload_n (v := (0, x1)) (pcN := 19) jI_137_18 rfl rfl rfl ?_
  refine jT_fR [11, 12, 13, 14, 15, 16, 17] 19 (y := 57) (pcN := 22) (dC := 0) (bc1 := 0) (bc2 := 0) (c1 := 0) (c2 := 0) (as := [(4, 11), (0, x1)]) (asC := [(4, 0), (0, x1)]) (LN := [(0, (4, 0)), (1, (0, x1)), (2, (0, x2))]) (stN := []) (hsC := jpA_47) (v := (4, 6)) (st2 := [(4, 17)]) (jA_57_108 (d := 0) (by omega)) (by rfl) (by rfl) (by decide +kernel) (by rfl) (by rfl) (by omega) (by omega) (by omega) (by omega) rfl ?_
  refine jT_xgetf (a := 17) (t := 2) (ci := 4) (fi := 0) (c := (4, [(4, 18), (1, 1)], [])) (v := (4, 18)) (pcN := 25) jI_137_22 rfl rfl rfl rfl rfl rfl rfl ?_
  refine jT_xiload_n (v := (0, x2)) (pcN := 26) jI_137_25 rfl rfl rfl ?_
  refine jT_lald (x := 0) (a := 18) (j := (x2).toNat) (fs := []) (X := [0, 0, 0, 0, 0, 0]) (by rfl) (by rfl) (by rfl) (jw_nn (by omega) (by omega)) (jall_get 6 (by decide) (by omega)) ?_
  refine jT_eq (LN := [(0, (4, 0)), (1, (0, x1)), (2, (0, x2))]) (stN := [(1, 0)]) (hsN := jpA_1979) rfl rfl rfl ?_
  refine jT_xl2i (pcN := 28) jI_137_27 rfl rfl ?_
  exact jT_ret rfl (by decide) (by show 19 ≤ 19; decide) (by omega) (by omega) ⟨rfl, rfl, rfl⟩
theorem jI_344_8 : jmI (jm 344) 8 = (.i2l, 1) := by rfl
def jpA_2846 : List JC := [jzA_14, (101, [], [0]), jgh, jgh, jgh, jgh, jgh, jgh, jgh, jgh, jgh, jgh, jzA_77, jzA_109, jgh, jgh, jgh, jgh, (4, [(4, 19), (1, 1)], []), (101, [], [0, 0, 0, 0, 0, 0])]
theorem jI_344_10 : jmI (jm 344) 10 = (.goto 7, 3) := by rfl
theorem jI_344_17 : jmI (jm 344) 17 = (.iconst 0, 1) := by rfl
theorem jA_344_714 {xs : List Int} {d : Nat} {x1 x2 : Int} (h_x1 : 0 ≤ x1 ∧ x1 ≤ 7) (h_x2 : 0 ≤ x2 ∧ x2 ≤ 5) : jT xs (d + 2) 344 20 0 [(0, (4, 0)), (1, (0, x1)), (2, (0, x2)), (3, (4, 1))] [] jpA_2846 0 0 (fun k v hsN => k = 0 ∧ v = (0, 0) ∧ hsN = jpA_2846 ++ []) := by
  refine jT_xaload_n (v := (4, 1)) (pcN := 1) jI_344_0 rfl rfl rfl ?_
  refine jT_xiconst (k := 0) (pcN := 2) jI_344_1 rfl ?_
  refine jT_xaload_n (v := (4, 0)) (pcN := 3) jI_344_2 rfl rfl rfl ?_
  refine jT_xiload_n (v := (0, x1)) (pcN := 4) jI_344_3 rfl rfl rfl ?_
  refine jT_xiload_n (v := (0, x2)) (pcN := 5) jI_344_4 rfl rfl rfl ?_
  refine jT_fR [0, 2, 3, 4, 5, 6, 7, 8, 9, 10, 11, 12, 13, 14, 15, 16, 17, 18, 19] 20 (y := 137) (pcN := 8) (dC := 1) (bc1 := 0) (bc2 := 0) (c1 := 0) (c2 := 0) (as := [(4, 0), (0, x1), (0, x2)]) (asC := [(4, 0), (0, x1), (0, x2)]) (LN := [(0, (4, 0)), (1, (0, x1)), (2, (0, x2)), (3, (4, 1))]) (stN := [(0, 0), (4, 1)]) (hsC := jpA_1979) (v := (0, 0)) (st2 := [(0, 0), (0, 0), (4, 1)]) (jA_137_713 (d := 0) (by omega) (by omega)) (by rfl) (by rfl) (by decide +kernel) (by rfl) (by rfl) (by omega) (by omega) (by omega) (by omega) rfl ?_
  refine jT_xi2l (x := 0) (z := 0) (pcN := 9) jI_344_8 rfl (by decide +kernel) rfl ?_
  refine jT_adv 1 (pcN := 10) (LN := [(0, (4, 0)), (1, (0, x1)), (2, (0, x2)), (3, (4, 1))]) (stN := []) (hsN := jpA_2846) (c1 := 0) (s1 := 0) (c2 := 0) (s2 := 0) (by exact rfl) ?_ (by omega) (by omega)
  refine jT_xgoto (pcN := 17) jI_344_10 rfl ?_
  refine jT_xiconst (k := 0) (pcN := 18) jI_344_17 rfl ?_
  exact jT_ret rfl (by decide) (by show 20 ≤ 20; decide) (by omega) (by omega) ⟨rfl, rfl, rfl⟩
theorem jA_115_715 {xs : List Int} {d : Nat} {x2 : Int} (h_x2 : 0 ≤ x2 ∧ x2 ≤ 2) : jT xs d 115 1 0 [(0, (4, 0)), (1, (0, x2)), (2, (0, 6))] [] [jgh] 0 0 (fun k v hsN => k = 0 ∧ v = (9, 0) ∧ hsN = [jgh] ++ []) := by
  refine jT_xiload_n (v := (0, x2)) (pcN := 1) jI_115_0 rfl rfl rfl ?_
  refine jT_ifF (a := x2) (t := 9) (by rfl) (by rfl) (by rfl) (jw_idd (by omega) (by omega)) (by simp only [jcP] <;> omega) ?_
  refine jT_xiload_n (v := (0, x2)) (pcN := 5) jI_115_4 rfl rfl rfl ?_
  refine jT_xiload_n (v := (0, 6)) (pcN := 6) jI_115_5 rfl rfl rfl ?_
  refine jT_icT (a := x2) (b := 6) (t := 20) (by rfl) (by rfl) (by rfl) (jw_idd (by omega) (by omega)) (jw_idd (by omega) (by omega)) (by simp only [jcP] <;> omega) ?_
  exact jT_ret rfl (by decide) (by show 1 ≤ 1; decide) (by omega) (by omega) ⟨rfl, rfl, rfl⟩
theorem jA_137_716 {xs : List Int} {d : Nat} {x1 x2 : Int} (h_x1 : 0 ≤ x1 ∧ x1 ≤ 7) (h_x2 : 0 ≤ x2 ∧ x2 ≤ 2) : jT xs (d + 1) 137 19 0 [(0, (4, 0)), (1, (0, x1)), (2, (0, x2))] [] jpA_1979 0 0 (fun k v hsN => k = 0 ∧ v = (0, 0) ∧ hsN = jpA_1979 ++ []) := by
  refine jT_xaload_n (v := (4, 0)) (pcN := 1) jI_137_0 rfl rfl rfl ?_
  refine jT_xiload_n (v := (0, x1)) (pcN := 2) jI_137_1 rfl rfl rfl ?_
  refine jT_xbipush (k := 8) (pcN := 4) jI_137_2 (by decide) rfl ?_
  refine jT_fR [0] 19 (y := 115) (pcN := 7) (dC := 0) (bc1 := 0) (bc2 := 0) (c1 := 0) (c2 := 0) (as := [(4, 0), (0, x1), (0, 8)]) (asC := [(4, 0), (0, x1), (0, 8)]) (LN := [(0, (4, 0)), (1, (0, x1)), (2, (0, x2))]) (stN := []) (hsC := [jgh]) (v := (9, 0)) (st2 := []) (jA_115_9 (d := 0) (by omega)) (by rfl) (by rfl) (by decide +kernel) (by rfl) (by rfl) (by omega) (by omega) (by omega) (by omega) rfl ?_
  refine jT_xaload_n (v := (4, 0)) (pcN := 8) jI_137_7 rfl rfl rfl ?_
  refine jT_xiload_n (v := (0, x2)) (pcN := 9) jI_137_8 rfl rfl rfl ?_
  refine jT_xbipush (k := 6) (pcN := 11) jI_137_9 (by decide) rfl ?_
  refine jT_fR [0] 19 (y := 115) (pcN := 14) (dC := 0) (bc1 := 0) (bc2 := 0) (c1 := 0) (c2 := 0) (as := [(4, 0), (0, x2), (0, 6)]) (asC := [(4, 0), (0, x2), (0, 6)]) (LN := [(0, (4, 0)), (1, (0, x1)), (2, (0, x2))]) (stN := []) (hsC := [jgh]) (v := (9, 0)) (st2 := []) (jA_115_715 (d := 0) (by omega)) (by rfl) (by rfl) (by decide +kernel) (by rfl) (by rfl) (by omega) (by omega) (by omega) (by omega) rfl ?_
  refine jT_xaload_n (v := (4, 0)) (pcN := 15) jI_137_14 rfl rfl rfl ?_
  refine jT_xgetf (a := 0) (t := 1) (ci := 13) (fi := 11) (c := jzA_5) (v := (4, 11)) (pcN := 18) jI_137_15 rfl rfl rfl rfl rfl rfl rfl ?_
  refine jT_xiload_n (v := (0, x1)) (pcN := 19) jI_137_18 rfl rfl rfl ?_
  refine jT_fR [11, 12, 13, 14, 15, 16, 17] 19 (y := 57) (pcN := 22) (dC := 0) (bc1 := 0) (bc2 := 0) (c1 := 0) (c2 := 0) (as := [(4, 11), (0, x1)]) (asC := [(4, 0), (0, x1)]) (LN := [(0, (4, 0)), (1, (0, x1)), (2, (0, x2))]) (stN := []) (hsC := jpA_47) (v := (4, 6)) (st2 := [(4, 17)]) (jA_57_108 (d := 0) (by omega)) (by rfl) (by rfl) (by decide +kernel) (by rfl) (by rfl) (by omega) (by omega) (by omega) (by omega) rfl ?_
  refine jT_xgetf (a := 17) (t := 2) (ci := 4) (fi := 0) (c := (4, [(4, 18), (1, 1)], [])) (v := (4, 18)) (pcN := 25) jI_137_22 rfl rfl rfl rfl rfl rfl rfl ?_
  refine jT_xiload_n (v := (0, x2)) (pcN := 26) jI_137_25 rfl rfl rfl ?_
  refine jT_lald (x := 0) (a := 18) (j := (x2).toNat) (fs := []) (X := [0, 0, 0, 0, 0, 0]) (by rfl) (by rfl) (by rfl) (jw_nn (by omega) (by omega)) (jall_get 3 (by decide) (by omega)) ?_
  refine jT_eq (LN := [(0, (4, 0)), (1, (0, x1)), (2, (0, x2))]) (stN := [(1, 0)]) (hsN := jpA_1979) rfl rfl rfl ?_
  refine jT_xl2i (pcN := 28) jI_137_27 rfl rfl ?_
  exact jT_ret rfl (by decide) (by show 19 ≤ 19; decide) (by omega) (by omega) ⟨rfl, rfl, rfl⟩
theorem jA_344_717 {xs : List Int} {d : Nat} {x1 x2 : Int} (h_x1 : 0 ≤ x1 ∧ x1 ≤ 7) (h_x2 : 0 ≤ x2 ∧ x2 ≤ 2) : jT xs (d + 2) 344 20 0 [(0, (4, 0)), (1, (0, x1)), (2, (0, x2)), (3, (4, 1))] [] jpA_2846 0 0 (fun k v hsN => k = 0 ∧ v = (0, 0) ∧ hsN = jpA_2846 ++ []) := by
  refine jT_xaload_n (v := (4, 1)) (pcN := 1) jI_344_0 rfl rfl rfl ?_
  refine jT_xiconst (k := 0) (pcN := 2) jI_344_1 rfl ?_
  refine jT_xaload_n (v := (4, 0)) (pcN := 3) jI_344_2 rfl rfl rfl ?_
  refine jT_xiload_n (v := (0, x1)) (pcN := 4) jI_344_3 rfl rfl rfl ?_
  refine jT_xiload_n (v := (0, x2)) (pcN := 5) jI_344_4 rfl rfl rfl ?_
  refine jT_fR [0, 2, 3, 4, 5, 6, 7, 8, 9, 10, 11, 12, 13, 14, 15, 16, 17, 18, 19] 20 (y := 137) (pcN := 8) (dC := 1) (bc1 := 0) (bc2 := 0) (c1 := 0) (c2 := 0) (as := [(4, 0), (0, x1), (0, x2)]) (asC := [(4, 0), (0, x1), (0, x2)]) (LN := [(0, (4, 0)), (1, (0, x1)), (2, (0, x2)), (3, (4, 1))]) (stN := [(0, 0), (4, 1)]) (hsC := jpA_1979) (v := (0, 0)) (st2 := [(0, 0), (0, 0), (4, 1)]) (jA_137_716 (d := 0) (by omega) (by omega)) (by rfl) (by rfl) (by decide +kernel) (by rfl) (by rfl) (by omega) (by omega) (by omega) (by omega) rfl ?_
  refine jT_xi2l (x := 0) (z := 0) (pcN := 9) jI_344_8 rfl (by decide +kernel) rfl ?_
  refine jT_adv 1 (pcN := 10) (LN := [(0, (4, 0)), (1, (0, x1)), (2, (0, x2)), (3, (4, 1))]) (stN := []) (hsN := jpA_2846) (c1 := 0) (s1 := 0) (c2 := 0) (s2 := 0) (by exact rfl) ?_ (by omega) (by omega)
  refine jT_xgoto (pcN := 17) jI_344_10 rfl ?_
  refine jT_xiconst (k := 0) (pcN := 18) jI_344_17 rfl ?_
  exact jT_ret rfl (by decide) (by show 20 ≤ 20; decide) (by omega) (by omega) ⟨rfl, rfl, rfl⟩
theorem jA_115_718 {xs : List Int} {d : Nat} {x2 : Int} (h_x2 : 0 ≤ x2 ∧ x2 ≤ 1) : jT xs d 115 1 0 [(0, (4, 0)), (1, (0, x2)), (2, (0, 6))] [] [jgh] 0 0 (fun k v hsN => k = 0 ∧ v = (9, 0) ∧ hsN = [jgh] ++ []) := by
  refine jT_xiload_n (v := (0, x2)) (pcN := 1) jI_115_0 rfl rfl rfl ?_
  refine jT_ifF (a := x2) (t := 9) (by rfl) (by rfl) (by rfl) (jw_idd (by omega) (by omega)) (by simp only [jcP] <;> omega) ?_
  refine jT_xiload_n (v := (0, x2)) (pcN := 5) jI_115_4 rfl rfl rfl ?_
  refine jT_xiload_n (v := (0, 6)) (pcN := 6) jI_115_5 rfl rfl rfl ?_
  refine jT_icT (a := x2) (b := 6) (t := 20) (by rfl) (by rfl) (by rfl) (jw_idd (by omega) (by omega)) (jw_idd (by omega) (by omega)) (by simp only [jcP] <;> omega) ?_
  exact jT_ret rfl (by decide) (by show 1 ≤ 1; decide) (by omega) (by omega) ⟨rfl, rfl, rfl⟩
theorem jA_137_719 {xs : List Int} {d : Nat} {x1 x2 : Int} (h_x1 : 0 ≤ x1 ∧ x1 ≤ 7) (h_x2 : 0 ≤ x2 ∧ x2 ≤ 1) : jT xs (d + 1) 137 19 0 [(0, (4, 0)), (1, (0, x1)), (2, (0, x2))] [] jpA_1979 0 0 (fun k v hsN => k = 0 ∧ v = (0, 0) ∧ hsN = jpA_1979 ++ []) := by
  refine jT_xaload_n (v := (4, 0)) (pcN := 1) jI_137_0 rfl rfl rfl ?_
  refine jT_xiload_n (v := (0, x1)) (pcN := 2) jI_137_1 rfl rfl rfl ?_
  refine jT_xbipush (k := 8) (pcN := 4) jI_137_2 (by decide) rfl ?_
  refine jT_fR [0] 19 (y := 115) (pcN := 7) (dC := 0) (bc1 := 0) (bc2 := 0) (c1 := 0) (c2 := 0) (as := [(4, 0), (0, x1), (0, 8)]) (asC := [(4, 0), (0, x1), (0, 8)]) (LN := [(0, (4, 0)), (1, (0, x1)), (2, (0, x2))]) (stN := []) (hsC := [jgh]) (v := (9, 0)) (st2 := []) (jA_115_9 (d := 0) (by omega)) (by rfl) (by rfl) (by decide +kernel) (by rfl) (by rfl) (by omega) (by omega) (by omega) (by omega) rfl ?_
  refine jT_xaload_n (v := (4, 0)) (pcN := 8) jI_137_7 rfl rfl rfl ?_
  refine jT_xiload_n (v := (0, x2)) (pcN := 9) jI_137_8 rfl rfl rfl ?_
  refine jT_xbipush (k := 6) (pcN := 11) jI_137_9 (by decide) rfl ?_
  refine jT_fR [0] 19 (y := 115) (pcN := 14) (dC := 0) (bc1 := 0) (bc2 := 0) (c1 := 0) (c2 := 0) (as := [(4, 0), (0, x2), (0, 6)]) (asC := [(4, 0), (0, x2), (0, 6)]) (LN := [(0, (4, 0)), (1, (0, x1)), (2, (0, x2))]) (stN := []) (hsC := [jgh]) (v := (9, 0)) (st2 := []) (jA_115_718 (d := 0) (by omega)) (by rfl) (by rfl) (by decide +kernel) (by rfl) (by rfl) (by omega) (by omega) (by omega) (by omega) rfl ?_
  refine jT_xaload_n (v := (4, 0)) (pcN := 15) jI_137_14 rfl rfl rfl ?_
  refine jT_xgetf (a := 0) (t := 1) (ci := 13) (fi := 11) (c := jzA_5) (v := (4, 11)) (pcN := 18) jI_137_15 rfl rfl rfl rfl rfl rfl rfl ?_
  refine jT_xiload_n (v := (0, x1)) (pcN := 19) jI_137_18 rfl rfl rfl ?_
  refine jT_fR [11, 12, 13, 14, 15, 16, 17] 19 (y := 57) (pcN := 22) (dC := 0) (bc1 := 0) (bc2 := 0) (c1 := 0) (c2 := 0) (as := [(4, 11), (0, x1)]) (asC := [(4, 0), (0, x1)]) (LN := [(0, (4, 0)), (1, (0, x1)), (2, (0, x2))]) (stN := []) (hsC := jpA_47) (v := (4, 6)) (st2 := [(4, 17)]) (jA_57_108 (d := 0) (by omega)) (by rfl) (by rfl) (by decide +kernel) (by rfl) (by rfl) (by omega) (by omega) (by omega) (by omega) rfl ?_
  refine jT_xgetf (a := 17) (t := 2) (ci := 4) (fi := 0) (c := (4, [(4, 18), (1, 1)], [])) (v := (4, 18)) (pcN := 25) jI_137_22 rfl rfl rfl rfl rfl rfl rfl ?_
  refine jT_xiload_n (v := (0, x2)) (pcN := 26) jI_137_25 rfl rfl rfl ?_
  refine jT_lald (x := 0) (a := 18) (j := (x2).toNat) (fs := []) (X := [0, 0, 0, 0, 0, 0]) (by rfl) (by rfl) (by rfl) (jw_nn (by omega) (by omega)) (jall_get 2 (by decide) (by omega)) ?_
  refine jT_eq (LN := [(0, (4, 0)), (1, (0, x1)), (2, (0, x2))]) (stN := [(1, 0)]) (hsN := jpA_1979) rfl rfl rfl ?_
  refine jT_xl2i (pcN := 28) jI_137_27 rfl rfl ?_
  exact jT_ret rfl (by decide) (by show 19 ≤ 19; decide) (by omega) (by omega) ⟨rfl, rfl, rfl⟩
theorem jA_344_720 {xs : List Int} {d : Nat} {x1 x2 : Int} (h_x1 : 0 ≤ x1 ∧ x1 ≤ 7) (h_x2 : 0 ≤ x2 ∧ x2 ≤ 1) : jT xs (d + 2) 344 20 0 [(0, (4, 0)), (1, (0, x1)), (2, (0, x2)), (3, (4, 1))] [] jpA_2846 0 0 (fun k v hsN => k = 0 ∧ v = (0, 0) ∧ hsN = jpA_2846 ++ []) := by
  refine jT_xaload_n (v := (4, 1)) (pcN := 1) jI_344_0 rfl rfl rfl ?_
  refine jT_xiconst (k := 0) (pcN := 2) jI_344_1 rfl ?_
  refine jT_xaload_n (v := (4, 0)) (pcN := 3) jI_344_2 rfl rfl rfl ?_
  refine jT_xiload_n (v := (0, x1)) (pcN := 4) jI_344_3 rfl rfl rfl ?_
  refine jT_xiload_n (v := (0, x2)) (pcN := 5) jI_344_4 rfl rfl rfl ?_
  refine jT_fR [0, 2, 3, 4, 5, 6, 7, 8, 9, 10, 11, 12, 13, 14, 15, 16, 17, 18, 19] 20 (y := 137) (pcN := 8) (dC := 1) (bc1 := 0) (bc2 := 0) (c1 := 0) (c2 := 0) (as := [(4, 0), (0, x1), (0, x2)]) (asC := [(4, 0), (0, x1), (0, x2)]) (LN := [(0, (4, 0)), (1, (0, x1)), (2, (0, x2)), (3, (4, 1))]) (stN := [(0, 0), (4, 1)]) (hsC := jpA_1979) (v := (0, 0)) (st2 := [(0, 0), (0, 0), (4, 1)]) (jA_137_719 (d := 0) (by omega) (by omega)) (by rfl) (by rfl) (by decide +kernel) (by rfl) (by rfl) (by omega) (by omega) (by omega) (by omega) rfl ?_
  refine jT_xi2l (x := 0) (z := 0) (pcN := 9) jI_344_8 rfl (by decide +kernel) rfl ?_
  refine jT_adv 1 (pcN := 10) (LN := [(0, (4, 0)), (1, (0, x1)), (2, (0, x2)), (3, (4, 1))]) (stN := []) (hsN := jpA_2846) (c1 := 0) (s1 := 0) (c2 := 0) (s2 := 0) (by exact rfl) ?_ (by omega) (by omega)
  refine jT_xgoto (pcN := 17) jI_344_10 rfl ?_
  refine jT_xiconst (k := 0) (pcN := 18) jI_344_17 rfl ?_
  exact jT_ret rfl (by decide) (by show 20 ≤ 20; decide) (by omega) (by omega) ⟨rfl, rfl, rfl⟩
theorem jA_115_721 {xs : List Int} {d : Nat} : jT xs d 115 1 0 [(0, (4, 0)), (1, (0, 0)), (2, (0, 6))] [] [jgh] 0 0 (fun k v hsN => k = 0 ∧ v = (9, 0) ∧ hsN = [jgh] ++ []) := by
  refine jT_advK 5 (pcN := 20) (LN := [(0, (4, 0)), (1, (0, 0)), (2, (0, 6))]) (stN := []) (hsN := [jgh]) (c1 := 0) (s1 := 0) (c2 := 0) (s2 := 0) (by decide +kernel) ?_ (by omega) (by omega)
  exact jT_ret rfl (by decide) (by show 1 ≤ 1; decide) (by omega) (by omega) ⟨rfl, rfl, rfl⟩
theorem jA_137_722 {xs : List Int} {d : Nat} {x1 : Int} (h_x1 : 0 ≤ x1 ∧ x1 ≤ 7) : jT xs (d + 1) 137 19 0 [(0, (4, 0)), (1, (0, x1)), (2, (0, 0))] [] jpA_1979 0 0 (fun k v hsN => k = 0 ∧ v = (0, 0) ∧ hsN = jpA_1979 ++ []) := by
  refine jT_xaload_n (v := (4, 0)) (pcN := 1) jI_137_0 rfl rfl rfl ?_
  refine jT_xiload_n (v := (0, x1)) (pcN := 2) jI_137_1 rfl rfl rfl ?_
  refine jT_xbipush (k := 8) (pcN := 4) jI_137_2 (by decide) rfl ?_
  refine jT_fR [0] 19 (y := 115) (pcN := 7) (dC := 0) (bc1 := 0) (bc2 := 0) (c1 := 0) (c2 := 0) (as := [(4, 0), (0, x1), (0, 8)]) (asC := [(4, 0), (0, x1), (0, 8)]) (LN := [(0, (4, 0)), (1, (0, x1)), (2, (0, 0))]) (stN := []) (hsC := [jgh]) (v := (9, 0)) (st2 := []) (jA_115_9 (d := 0) (by omega)) (by rfl) (by rfl) (by decide +kernel) (by rfl) (by rfl) (by omega) (by omega) (by omega) (by omega) rfl ?_
  refine jT_xaload_n (v := (4, 0)) (pcN := 8) jI_137_7 rfl rfl rfl ?_
  refine jT_xiload_n (v := (0, 0)) (pcN := 9) jI_137_8 rfl rfl rfl ?_
  refine jT_xbipush (k := 6) (pcN := 11) jI_137_9 (by decide) rfl ?_
  refine jT_fR [0] 19 (y := 115) (pcN := 14) (dC := 0) (bc1 := 0) (bc2 := 0) (c1 := 0) (c2 := 0) (as := [(4, 0), (0, 0), (0, 6)]) (asC := [(4, 0), (0, 0), (0, 6)]) (LN := [(0, (4, 0)), (1, (0, x1)), (2, (0, 0))]) (stN := []) (hsC := [jgh]) (v := (9, 0)) (st2 := []) (jA_115_721 (d := 0)) (by rfl) (by rfl) (by decide +kernel) (by rfl) (by rfl) (by omega) (by omega) (by omega) (by omega) rfl ?_
  refine jT_xaload_n (v := (4, 0)) (pcN := 15) jI_137_14 rfl rfl rfl ?_
  refine jT_xgetf (a := 0) (t := 1) (ci := 13) (fi := 11) (c := jzA_5) (v := (4, 11)) (pcN := 18) jI_137_15 rfl rfl rfl rfl rfl rfl rfl ?_
  refine jT_xiload_n (v := (0, x1)) (pcN := 19) jI_137_18 rfl rfl rfl ?_
  refine jT_fR [11, 12, 13, 14, 15, 16, 17] 19 (y := 57) (pcN := 22) (dC := 0) (bc1 := 0) (bc2 := 0) (c1 := 0) (c2 := 0) (as := [(4, 11), (0, x1)]) (asC := [(4, 0), (0, x1)]) (LN := [(0, (4, 0)), (1, (0, x1)), (2, (0, 0))]) (stN := []) (hsC := jpA_47) (v := (4, 6)) (st2 := [(4, 17)]) (jA_57_108 (d := 0) (by omega)) (by rfl) (by rfl) (by decide +kernel) (by rfl) (by rfl) (by omega) (by omega) (by omega) (by omega) rfl ?_
  refine jT_xgetf (a := 17) (t := 2) (ci := 4) (fi := 0) (c := (4, [(4, 18), (1, 1)], [])) (v := (4, 18)) (pcN := 25) jI_137_22 rfl rfl rfl rfl rfl rfl rfl ?_
  refine jT_xiload_n (v := (0, 0)) (pcN := 26) jI_137_25 rfl rfl rfl ?_
  refine jT_lald (x := 0) (a := 18) (j := 0) (fs := []) (X := [0, 0, 0, 0, 0, 0]) jI_137_26 rfl rfl rfl rfl ?_
  refine jT_eq (LN := [(0, (4, 0)), (1, (0, x1)), (2, (0, 0))]) (stN := [(1, 0)]) (hsN := jpA_1979) rfl rfl rfl ?_
  refine jT_xl2i (pcN := 28) jI_137_27 rfl rfl ?_
  exact jT_ret rfl (by decide) (by show 19 ≤ 19; decide) (by omega) (by omega) ⟨rfl, rfl, rfl⟩
theorem jA_344_723 {xs : List Int} {d : Nat} {x1 : Int} (h_x1 : 0 ≤ x1 ∧ x1 ≤ 7) : jT xs (d + 2) 344 20 0 [(0, (4, 0)), (1, (0, x1)), (2, (0, 0)), (3, (4, 1))] [] jpA_2846 0 0 (fun k v hsN => k = 0 ∧ v = (0, 0) ∧ hsN = jpA_2846 ++ []) := by
  refine jT_xaload_n (v := (4, 1)) (pcN := 1) jI_344_0 rfl rfl rfl ?_
  refine jT_xiconst (k := 0) (pcN := 2) jI_344_1 rfl ?_
  refine jT_xaload_n (v := (4, 0)) (pcN := 3) jI_344_2 rfl rfl rfl ?_
  refine jT_xiload_n (v := (0, x1)) (pcN := 4) jI_344_3 rfl rfl rfl ?_
  refine jT_xiload_n (v := (0, 0)) (pcN := 5) jI_344_4 rfl rfl rfl ?_
  refine jT_fR [0, 2, 3, 4, 5, 6, 7, 8, 9, 10, 11, 12, 13, 14, 15, 16, 17, 18, 19] 20 (y := 137) (pcN := 8) (dC := 1) (bc1 := 0) (bc2 := 0) (c1 := 0) (c2 := 0) (as := [(4, 0), (0, x1), (0, 0)]) (asC := [(4, 0), (0, x1), (0, 0)]) (LN := [(0, (4, 0)), (1, (0, x1)), (2, (0, 0)), (3, (4, 1))]) (stN := [(0, 0), (4, 1)]) (hsC := jpA_1979) (v := (0, 0)) (st2 := [(0, 0), (0, 0), (4, 1)]) (jA_137_722 (d := 0) (by omega)) (by rfl) (by rfl) (by decide +kernel) (by rfl) (by rfl) (by omega) (by omega) (by omega) (by omega) rfl ?_
  refine jT_xi2l (x := 0) (z := 0) (pcN := 9) jI_344_8 rfl (by decide +kernel) rfl ?_
  refine jT_adv 1 (pcN := 10) (LN := [(0, (4, 0)), (1, (0, x1)), (2, (0, 0)), (3, (4, 1))]) (stN := []) (hsN := jpA_2846) (c1 := 0) (s1 := 0) (c2 := 0) (s2 := 0) (by exact rfl) ?_ (by omega) (by omega)
  refine jT_xgoto (pcN := 17) jI_344_10 rfl ?_
  refine jT_xiconst (k := 0) (pcN := 18) jI_344_17 rfl ?_
  exact jT_ret rfl (by decide) (by show 20 ≤ 20; decide) (by omega) (by omega) ⟨rfl, rfl, rfl⟩
theorem jA_189_724 {xs : List Int} {d : Nat} : jT xs d 189 0 0 [(0, (1, 0)), (2, (1, 0)), (4, (1, 5))] [] [] 0 0 (fun k v hsN => k = 0 ∧ v = (0, 1) ∧ hsN = [] ++ []) := by
  refine jT_advK 10 (pcN := 18) (LN := [(0, (1, 0)), (2, (1, 0)), (4, (1, 5))]) (stN := [(0, 1)]) (hsN := []) (c1 := 0) (s1 := 0) (c2 := 0) (s2 := 0) (by decide +kernel) ?_ (by omega) (by omega)
  exact jT_ret rfl (by decide) (by show 0 ≤ 0; decide) (by omega) (by omega) ⟨rfl, rfl, rfl⟩
theorem jI_260_20 : jmI (jm 260) 20 = (.iconst 1, 1) := by rfl
theorem jI_260_21 : jmI (jm 260) 21 = (.goto 4, 3) := by rfl
theorem jI_260_35 : jmI (jm 260) 35 = (.aload_n 0, 1) := by rfl
theorem jI_260_36 : jmI (jm 260) 36 = (.getfield 9, 3) := by rfl
theorem jI_260_39 : jmI (jm 260) 39 = (.bipush 7, 2) := by rfl
theorem jI_260_41 : jmI (jm 260) 41 = (.iload_n 1, 1) := by rfl
theorem jI_260_42 : jmI (jm 260) 42 = (.imul, 1) := by rfl
theorem jI_260_43 : jmI (jm 260) 43 = (.iload_n 2, 1) := by rfl
theorem jI_260_44 : jmI (jm 260) 44 = (.iadd, 1) := by rfl
theorem jI_260_45 : jmI (jm 260) 45 = (.iaload, 1) := by rfl
theorem jA_260_725 {xs : List Int} {d : Nat} {x1 : Int} (h_x1 : 0 ≤ x1 ∧ x1 ≤ 7) : jT xs (d + 2) 260 16 0 [(0, (4, 0)), (1, (0, x1)), (2, (0, 0))] [] jpA_1519 0 0 (fun k v hsN => k = 0 ∧ v = (0, 0) ∧ hsN = jpA_1519 ++ []) := by
  refine jT_xaload_n (v := (4, 0)) (pcN := 1) jI_260_0 rfl rfl rfl ?_
  refine jT_xiload_n (v := (0, x1)) (pcN := 2) jI_260_1 rfl rfl rfl ?_
  refine jT_fR [] 16 (y := 188) (pcN := 5) (dC := 1) (bc1 := 0) (bc2 := 0) (c1 := 0) (c2 := 0) (as := [(0, x1)]) (asC := [(0, x1)]) (LN := [(0, (4, 0)), (1, (0, x1)), (2, (0, 0))]) (stN := [(4, 0)]) (hsC := []) (v := (0, 1)) (st2 := [(0, 1), (4, 0)]) (jA_188_13 (d := 0) (by omega)) (by rfl) (by rfl) (by decide +kernel) (by rfl) (by rfl) (by omega) (by omega) (by omega) (by omega) rfl ?_
  refine jT_xifF (t := 24) (pcN := 8) jI_260_5 rfl (by decide +kernel) rfl rfl ?_
  refine jT_xiload_n (v := (0, 0)) (pcN := 9) jI_260_8 rfl rfl rfl ?_
  refine jT_xi2l (x := 0) (z := 0) (pcN := 10) jI_260_9 rfl (by decide +kernel) rfl ?_
  refine jT_xlconst (z := 0) (pcN := 11) jI_260_10 rfl rfl ?_
  refine jT_adv 1 (pcN := 14) (LN := [(0, (4, 0)), (1, (0, x1)), (2, (0, 0))]) (stN := [(1, 5), (1, 0), (1, 0), (4, 0)]) (hsN := jpA_1519) (c1 := 0) (s1 := 0) (c2 := 0) (s2 := 0) (by exact rfl) ?_ (by omega) (by omega)
  refine jT_fR [] 16 (y := 189) (pcN := 17) (dC := 0) (bc1 := 0) (bc2 := 0) (c1 := 0) (c2 := 0) (as := [(1, 0), (1, 0), (1, 5)]) (asC := [(1, 0), (1, 0), (1, 5)]) (LN := [(0, (4, 0)), (1, (0, x1)), (2, (0, 0))]) (stN := [(4, 0)]) (hsC := []) (v := (0, 1)) (st2 := [(0, 1), (4, 0)]) (jA_189_724 (d := 0)) (by rfl) (by rfl) (by decide +kernel) (by rfl) (by rfl) (by omega) (by omega) (by omega) (by omega) rfl ?_
  refine jT_xifF (t := 24) (pcN := 20) jI_260_17 rfl (by decide +kernel) rfl rfl ?_
  refine jT_xiconst (k := 1) (pcN := 21) jI_260_20 rfl ?_
  refine jT_xgoto (pcN := 25) jI_260_21 rfl ?_
  refine jT_fR [0, 1, 2, 3, 4, 5, 6, 7, 8, 9, 10, 11, 12, 13, 14, 15] 16 (y := 190) (pcN := 28) (dC := 1) (bc1 := 0) (bc2 := 0) (c1 := 0) (c2 := 0) (as := [(4, 0), (0, 1)]) (asC := [(4, 0), (0, 1)]) (LN := [(0, (4, 0)), (1, (0, x1)), (2, (0, 0))]) (stN := []) (hsC := jpA_22) (v := (0, 0)) (st2 := [(0, 0)]) (jA_190_39 (d := 0)) (by rfl) (by rfl) (by decide +kernel) (by rfl) (by rfl) (by omega) (by omega) (by omega) (by omega) rfl ?_
  refine jT_xifT (pcN := 35) jI_260_28 rfl (by decide +kernel) rfl ?_
  refine jT_xaload_n (v := (4, 0)) (pcN := 36) jI_260_35 rfl rfl rfl ?_
  refine jT_xgetf (a := 0) (t := 1) (ci := 14) (fi := 1) (c := jzA_21) (v := (4, 1)) (pcN := 39) jI_260_36 rfl rfl rfl rfl rfl rfl rfl ?_
  refine jT_xbipush (k := 7) (pcN := 41) jI_260_39 (by decide) rfl ?_
  refine jT_xiload_n (v := (0, x1)) (pcN := 42) jI_260_41 rfl rfl rfl ?_
  refine jT_ximul (x := 7) (y := x1) (z := 7 * x1) (pcN := 43) jI_260_42 rfl (rfl) rfl ?_
  refine jT_xiload_n (v := (0, 0)) (pcN := 44) jI_260_43 rfl rfl rfl ?_
  refine jT_xiadd (x := 7 * x1) (y := 0) (z := 7 * x1) (pcN := 45) jI_260_44 rfl (by omega) rfl ?_
  refine jT_iald (x := 0) (a := 1) (j := (7 * x1).toNat) (fs := []) (X := jS0) (by rfl) (by rfl) (by rfl) (jw_nn (by omega) (by omega)) (jS0_r0 (by omega) (by omega)) ?_
  refine jT_eq (LN := [(0, (4, 0)), (1, (0, x1)), (2, (0, 0))]) (stN := [(0, 0)]) (hsN := jpA_1519) rfl rfl rfl ?_
  exact jT_ret rfl (by decide) (by show 16 ≤ 16; decide) (by omega) (by omega) ⟨rfl, rfl, rfl⟩
theorem jA_186_726 {xs : List Int} {d : Nat} : jT xs d 186 16 0 [(0, (4, 0))] [] jpA_22 0 0 (fun k v hsN => k = 0 ∧ v = (0, 0) ∧ hsN = jpA_22 ++ []) := by
  refine jT_advK 2 (pcN := 4) (LN := [(0, (4, 0))]) (stN := [(0, 0)]) (hsN := jpA_22) (c1 := 0) (s1 := 0) (c2 := 0) (s2 := 0) (by decide +kernel) ?_ (by omega) (by omega)
  exact jT_ret rfl (by decide) (by show 16 ≤ 16; decide) (by omega) (by omega) ⟨rfl, rfl, rfl⟩
theorem jA_115_727 {xs : List Int} {d : Nat} : jT xs d 115 1 0 [(0, (4, 0)), (1, (0, 1)), (2, (0, 6))] [] [jgh] 0 0 (fun k v hsN => k = 0 ∧ v = (9, 0) ∧ hsN = [jgh] ++ []) := by
  refine jT_advK 5 (pcN := 20) (LN := [(0, (4, 0)), (1, (0, 1)), (2, (0, 6))]) (stN := []) (hsN := [jgh]) (c1 := 0) (s1 := 0) (c2 := 0) (s2 := 0) (by decide +kernel) ?_ (by omega) (by omega)
  exact jT_ret rfl (by decide) (by show 1 ≤ 1; decide) (by omega) (by omega) ⟨rfl, rfl, rfl⟩
theorem jA_137_728 {xs : List Int} {d : Nat} {x1 : Int} (h_x1 : 0 ≤ x1 ∧ x1 ≤ 7) : jT xs (d + 1) 137 19 0 [(0, (4, 0)), (1, (0, x1)), (2, (0, 1))] [] jpA_1979 0 0 (fun k v hsN => k = 0 ∧ v = (0, 0) ∧ hsN = jpA_1979 ++ []) := by
  refine jT_xaload_n (v := (4, 0)) (pcN := 1) jI_137_0 rfl rfl rfl ?_
  refine jT_xiload_n (v := (0, x1)) (pcN := 2) jI_137_1 rfl rfl rfl ?_
  refine jT_xbipush (k := 8) (pcN := 4) jI_137_2 (by decide) rfl ?_
  refine jT_fR [0] 19 (y := 115) (pcN := 7) (dC := 0) (bc1 := 0) (bc2 := 0) (c1 := 0) (c2 := 0) (as := [(4, 0), (0, x1), (0, 8)]) (asC := [(4, 0), (0, x1), (0, 8)]) (LN := [(0, (4, 0)), (1, (0, x1)), (2, (0, 1))]) (stN := []) (hsC := [jgh]) (v := (9, 0)) (st2 := []) (jA_115_9 (d := 0) (by omega)) (by rfl) (by rfl) (by decide +kernel) (by rfl) (by rfl) (by omega) (by omega) (by omega) (by omega) rfl ?_
  refine jT_xaload_n (v := (4, 0)) (pcN := 8) jI_137_7 rfl rfl rfl ?_
  refine jT_xiload_n (v := (0, 1)) (pcN := 9) jI_137_8 rfl rfl rfl ?_
  refine jT_xbipush (k := 6) (pcN := 11) jI_137_9 (by decide) rfl ?_
  refine jT_fR [0] 19 (y := 115) (pcN := 14) (dC := 0) (bc1 := 0) (bc2 := 0) (c1 := 0) (c2 := 0) (as := [(4, 0), (0, 1), (0, 6)]) (asC := [(4, 0), (0, 1), (0, 6)]) (LN := [(0, (4, 0)), (1, (0, x1)), (2, (0, 1))]) (stN := []) (hsC := [jgh]) (v := (9, 0)) (st2 := []) (jA_115_727 (d := 0)) (by rfl) (by rfl) (by decide +kernel) (by rfl) (by rfl) (by omega) (by omega) (by omega) (by omega) rfl ?_
  refine jT_xaload_n (v := (4, 0)) (pcN := 15) jI_137_14 rfl rfl rfl ?_
  refine jT_xgetf (a := 0) (t := 1) (ci := 13) (fi := 11) (c := jzA_5) (v := (4, 11)) (pcN := 18) jI_137_15 rfl rfl rfl rfl rfl rfl rfl ?_
  refine jT_xiload_n (v := (0, x1)) (pcN := 19) jI_137_18 rfl rfl rfl ?_
  refine jT_fR [11, 12, 13, 14, 15, 16, 17] 19 (y := 57) (pcN := 22) (dC := 0) (bc1 := 0) (bc2 := 0) (c1 := 0) (c2 := 0) (as := [(4, 11), (0, x1)]) (asC := [(4, 0), (0, x1)]) (LN := [(0, (4, 0)), (1, (0, x1)), (2, (0, 1))]) (stN := []) (hsC := jpA_47) (v := (4, 6)) (st2 := [(4, 17)]) (jA_57_108 (d := 0) (by omega)) (by rfl) (by rfl) (by decide +kernel) (by rfl) (by rfl) (by omega) (by omega) (by omega) (by omega) rfl ?_
  refine jT_xgetf (a := 17) (t := 2) (ci := 4) (fi := 0) (c := (4, [(4, 18), (1, 1)], [])) (v := (4, 18)) (pcN := 25) jI_137_22 rfl rfl rfl rfl rfl rfl rfl ?_
  refine jT_xiload_n (v := (0, 1)) (pcN := 26) jI_137_25 rfl rfl rfl ?_
  refine jT_lald (x := 0) (a := 18) (j := 1) (fs := []) (X := [0, 0, 0, 0, 0, 0]) jI_137_26 rfl rfl rfl rfl ?_
  refine jT_eq (LN := [(0, (4, 0)), (1, (0, x1)), (2, (0, 1))]) (stN := [(1, 0)]) (hsN := jpA_1979) rfl rfl rfl ?_
  refine jT_xl2i (pcN := 28) jI_137_27 rfl rfl ?_
  exact jT_ret rfl (by decide) (by show 19 ≤ 19; decide) (by omega) (by omega) ⟨rfl, rfl, rfl⟩
theorem jA_344_729 {xs : List Int} {d : Nat} {x1 : Int} (h_x1 : 0 ≤ x1 ∧ x1 ≤ 7) : jT xs (d + 2) 344 20 0 [(0, (4, 0)), (1, (0, x1)), (2, (0, 1)), (3, (4, 1))] [] jpA_2846 0 0 (fun k v hsN => k = 0 ∧ v = (0, 0) ∧ hsN = jpA_2846 ++ []) := by
  refine jT_xaload_n (v := (4, 1)) (pcN := 1) jI_344_0 rfl rfl rfl ?_
  refine jT_xiconst (k := 0) (pcN := 2) jI_344_1 rfl ?_
  refine jT_xaload_n (v := (4, 0)) (pcN := 3) jI_344_2 rfl rfl rfl ?_
  refine jT_xiload_n (v := (0, x1)) (pcN := 4) jI_344_3 rfl rfl rfl ?_
  refine jT_xiload_n (v := (0, 1)) (pcN := 5) jI_344_4 rfl rfl rfl ?_
  refine jT_fR [0, 2, 3, 4, 5, 6, 7, 8, 9, 10, 11, 12, 13, 14, 15, 16, 17, 18, 19] 20 (y := 137) (pcN := 8) (dC := 1) (bc1 := 0) (bc2 := 0) (c1 := 0) (c2 := 0) (as := [(4, 0), (0, x1), (0, 1)]) (asC := [(4, 0), (0, x1), (0, 1)]) (LN := [(0, (4, 0)), (1, (0, x1)), (2, (0, 1)), (3, (4, 1))]) (stN := [(0, 0), (4, 1)]) (hsC := jpA_1979) (v := (0, 0)) (st2 := [(0, 0), (0, 0), (4, 1)]) (jA_137_728 (d := 0) (by omega)) (by rfl) (by rfl) (by decide +kernel) (by rfl) (by rfl) (by omega) (by omega) (by omega) (by omega) rfl ?_
  refine jT_xi2l (x := 0) (z := 0) (pcN := 9) jI_344_8 rfl (by decide +kernel) rfl ?_
  refine jT_adv 1 (pcN := 10) (LN := [(0, (4, 0)), (1, (0, x1)), (2, (0, 1)), (3, (4, 1))]) (stN := []) (hsN := jpA_2846) (c1 := 0) (s1 := 0) (c2 := 0) (s2 := 0) (by exact rfl) ?_ (by omega) (by omega)
  refine jT_xgoto (pcN := 17) jI_344_10 rfl ?_
  refine jT_xiconst (k := 0) (pcN := 18) jI_344_17 rfl ?_
  exact jT_ret rfl (by decide) (by show 20 ≤ 20; decide) (by omega) (by omega) ⟨rfl, rfl, rfl⟩
theorem jA_189_730 {xs : List Int} {d : Nat} : jT xs d 189 0 0 [(0, (1, 1)), (2, (1, 0)), (4, (1, 5))] [] [] 0 0 (fun k v hsN => k = 0 ∧ v = (0, 1) ∧ hsN = [] ++ []) := by
  refine jT_advK 10 (pcN := 18) (LN := [(0, (1, 1)), (2, (1, 0)), (4, (1, 5))]) (stN := [(0, 1)]) (hsN := []) (c1 := 0) (s1 := 0) (c2 := 0) (s2 := 0) (by decide +kernel) ?_ (by omega) (by omega)
  exact jT_ret rfl (by decide) (by show 0 ≤ 0; decide) (by omega) (by omega) ⟨rfl, rfl, rfl⟩
theorem jA_260_731 {xs : List Int} {d : Nat} {x1 : Int} (h_x1 : 0 ≤ x1 ∧ x1 ≤ 7) : jT xs (d + 2) 260 16 0 [(0, (4, 0)), (1, (0, x1)), (2, (0, 1))] [] jpA_1519 0 0 (fun k v hsN => k = 0 ∧ v = (0, 0) ∧ hsN = jpA_1519 ++ []) := by
  refine jT_xaload_n (v := (4, 0)) (pcN := 1) jI_260_0 rfl rfl rfl ?_
  refine jT_xiload_n (v := (0, x1)) (pcN := 2) jI_260_1 rfl rfl rfl ?_
  refine jT_fR [] 16 (y := 188) (pcN := 5) (dC := 1) (bc1 := 0) (bc2 := 0) (c1 := 0) (c2 := 0) (as := [(0, x1)]) (asC := [(0, x1)]) (LN := [(0, (4, 0)), (1, (0, x1)), (2, (0, 1))]) (stN := [(4, 0)]) (hsC := []) (v := (0, 1)) (st2 := [(0, 1), (4, 0)]) (jA_188_13 (d := 0) (by omega)) (by rfl) (by rfl) (by decide +kernel) (by rfl) (by rfl) (by omega) (by omega) (by omega) (by omega) rfl ?_
  refine jT_xifF (t := 24) (pcN := 8) jI_260_5 rfl (by decide +kernel) rfl rfl ?_
  refine jT_xiload_n (v := (0, 1)) (pcN := 9) jI_260_8 rfl rfl rfl ?_
  refine jT_xi2l (x := 1) (z := 1) (pcN := 10) jI_260_9 rfl (by decide +kernel) rfl ?_
  refine jT_xlconst (z := 0) (pcN := 11) jI_260_10 rfl rfl ?_
  refine jT_adv 1 (pcN := 14) (LN := [(0, (4, 0)), (1, (0, x1)), (2, (0, 1))]) (stN := [(1, 5), (1, 0), (1, 1), (4, 0)]) (hsN := jpA_1519) (c1 := 0) (s1 := 0) (c2 := 0) (s2 := 0) (by exact rfl) ?_ (by omega) (by omega)
  refine jT_fR [] 16 (y := 189) (pcN := 17) (dC := 0) (bc1 := 0) (bc2 := 0) (c1 := 0) (c2 := 0) (as := [(1, 1), (1, 0), (1, 5)]) (asC := [(1, 1), (1, 0), (1, 5)]) (LN := [(0, (4, 0)), (1, (0, x1)), (2, (0, 1))]) (stN := [(4, 0)]) (hsC := []) (v := (0, 1)) (st2 := [(0, 1), (4, 0)]) (jA_189_730 (d := 0)) (by rfl) (by rfl) (by decide +kernel) (by rfl) (by rfl) (by omega) (by omega) (by omega) (by omega) rfl ?_
  refine jT_xifF (t := 24) (pcN := 20) jI_260_17 rfl (by decide +kernel) rfl rfl ?_
  refine jT_xiconst (k := 1) (pcN := 21) jI_260_20 rfl ?_
  refine jT_xgoto (pcN := 25) jI_260_21 rfl ?_
  refine jT_fR [0, 1, 2, 3, 4, 5, 6, 7, 8, 9, 10, 11, 12, 13, 14, 15] 16 (y := 190) (pcN := 28) (dC := 1) (bc1 := 0) (bc2 := 0) (c1 := 0) (c2 := 0) (as := [(4, 0), (0, 1)]) (asC := [(4, 0), (0, 1)]) (LN := [(0, (4, 0)), (1, (0, x1)), (2, (0, 1))]) (stN := []) (hsC := jpA_22) (v := (0, 0)) (st2 := [(0, 0)]) (jA_190_39 (d := 0)) (by rfl) (by rfl) (by decide +kernel) (by rfl) (by rfl) (by omega) (by omega) (by omega) (by omega) rfl ?_
  refine jT_xifT (pcN := 35) jI_260_28 rfl (by decide +kernel) rfl ?_
  refine jT_xaload_n (v := (4, 0)) (pcN := 36) jI_260_35 rfl rfl rfl ?_
  refine jT_xgetf (a := 0) (t := 1) (ci := 14) (fi := 1) (c := jzA_21) (v := (4, 1)) (pcN := 39) jI_260_36 rfl rfl rfl rfl rfl rfl rfl ?_
  refine jT_xbipush (k := 7) (pcN := 41) jI_260_39 (by decide) rfl ?_
  refine jT_xiload_n (v := (0, x1)) (pcN := 42) jI_260_41 rfl rfl rfl ?_
  refine jT_ximul (x := 7) (y := x1) (z := 7 * x1) (pcN := 43) jI_260_42 rfl (rfl) rfl ?_
  refine jT_xiload_n (v := (0, 1)) (pcN := 44) jI_260_43 rfl rfl rfl ?_
  refine jT_xiadd (x := 7 * x1) (y := 1) (z := 7 * x1 + 1) (pcN := 45) jI_260_44 rfl (by omega) rfl ?_
  refine jT_iald (x := 0) (a := 1) (j := (7 * x1 + 1).toNat) (fs := []) (X := jS0) (by rfl) (by rfl) (by rfl) (jw_nn (by omega) (by omega)) (jS0_r1 (by omega) (by omega)) ?_
  refine jT_eq (LN := [(0, (4, 0)), (1, (0, x1)), (2, (0, 1))]) (stN := [(0, 0)]) (hsN := jpA_1519) rfl rfl rfl ?_
  exact jT_ret rfl (by decide) (by show 16 ≤ 16; decide) (by omega) (by omega) ⟨rfl, rfl, rfl⟩
theorem jA_115_732 {xs : List Int} {d : Nat} : jT xs d 115 1 0 [(0, (4, 0)), (1, (0, 2)), (2, (0, 6))] [] [jgh] 0 0 (fun k v hsN => k = 0 ∧ v = (9, 0) ∧ hsN = [jgh] ++ []) := by
  refine jT_advK 5 (pcN := 20) (LN := [(0, (4, 0)), (1, (0, 2)), (2, (0, 6))]) (stN := []) (hsN := [jgh]) (c1 := 0) (s1 := 0) (c2 := 0) (s2 := 0) (by decide +kernel) ?_ (by omega) (by omega)
  exact jT_ret rfl (by decide) (by show 1 ≤ 1; decide) (by omega) (by omega) ⟨rfl, rfl, rfl⟩
theorem jA_137_733 {xs : List Int} {d : Nat} {x1 : Int} (h_x1 : 0 ≤ x1 ∧ x1 ≤ 7) : jT xs (d + 1) 137 19 0 [(0, (4, 0)), (1, (0, x1)), (2, (0, 2))] [] jpA_1979 0 0 (fun k v hsN => k = 0 ∧ v = (0, 0) ∧ hsN = jpA_1979 ++ []) := by
  refine jT_xaload_n (v := (4, 0)) (pcN := 1) jI_137_0 rfl rfl rfl ?_
  refine jT_xiload_n (v := (0, x1)) (pcN := 2) jI_137_1 rfl rfl rfl ?_
  refine jT_xbipush (k := 8) (pcN := 4) jI_137_2 (by decide) rfl ?_
  refine jT_fR [0] 19 (y := 115) (pcN := 7) (dC := 0) (bc1 := 0) (bc2 := 0) (c1 := 0) (c2 := 0) (as := [(4, 0), (0, x1), (0, 8)]) (asC := [(4, 0), (0, x1), (0, 8)]) (LN := [(0, (4, 0)), (1, (0, x1)), (2, (0, 2))]) (stN := []) (hsC := [jgh]) (v := (9, 0)) (st2 := []) (jA_115_9 (d := 0) (by omega)) (by rfl) (by rfl) (by decide +kernel) (by rfl) (by rfl) (by omega) (by omega) (by omega) (by omega) rfl ?_
  refine jT_xaload_n (v := (4, 0)) (pcN := 8) jI_137_7 rfl rfl rfl ?_
  refine jT_xiload_n (v := (0, 2)) (pcN := 9) jI_137_8 rfl rfl rfl ?_
  refine jT_xbipush (k := 6) (pcN := 11) jI_137_9 (by decide) rfl ?_
  refine jT_fR [0] 19 (y := 115) (pcN := 14) (dC := 0) (bc1 := 0) (bc2 := 0) (c1 := 0) (c2 := 0) (as := [(4, 0), (0, 2), (0, 6)]) (asC := [(4, 0), (0, 2), (0, 6)]) (LN := [(0, (4, 0)), (1, (0, x1)), (2, (0, 2))]) (stN := []) (hsC := [jgh]) (v := (9, 0)) (st2 := []) (jA_115_732 (d := 0)) (by rfl) (by rfl) (by decide +kernel) (by rfl) (by rfl) (by omega) (by omega) (by omega) (by omega) rfl ?_
  refine jT_xaload_n (v := (4, 0)) (pcN := 15) jI_137_14 rfl rfl rfl ?_
  refine jT_xgetf (a := 0) (t := 1) (ci := 13) (fi := 11) (c := jzA_5) (v := (4, 11)) (pcN := 18) jI_137_15 rfl rfl rfl rfl rfl rfl rfl ?_
  refine jT_xiload_n (v := (0, x1)) (pcN := 19) jI_137_18 rfl rfl rfl ?_
  refine jT_fR [11, 12, 13, 14, 15, 16, 17] 19 (y := 57) (pcN := 22) (dC := 0) (bc1 := 0) (bc2 := 0) (c1 := 0) (c2 := 0) (as := [(4, 11), (0, x1)]) (asC := [(4, 0), (0, x1)]) (LN := [(0, (4, 0)), (1, (0, x1)), (2, (0, 2))]) (stN := []) (hsC := jpA_47) (v := (4, 6)) (st2 := [(4, 17)]) (jA_57_108 (d := 0) (by omega)) (by rfl) (by rfl) (by decide +kernel) (by rfl) (by rfl) (by omega) (by omega) (by omega) (by omega) rfl ?_
  refine jT_xgetf (a := 17) (t := 2) (ci := 4) (fi := 0) (c := (4, [(4, 18), (1, 1)], [])) (v := (4, 18)) (pcN := 25) jI_137_22 rfl rfl rfl rfl rfl rfl rfl ?_
  refine jT_xiload_n (v := (0, 2)) (pcN := 26) jI_137_25 rfl rfl rfl ?_
  refine jT_lald (x := 0) (a := 18) (j := 2) (fs := []) (X := [0, 0, 0, 0, 0, 0]) jI_137_26 rfl rfl rfl rfl ?_
  refine jT_eq (LN := [(0, (4, 0)), (1, (0, x1)), (2, (0, 2))]) (stN := [(1, 0)]) (hsN := jpA_1979) rfl rfl rfl ?_
  refine jT_xl2i (pcN := 28) jI_137_27 rfl rfl ?_
  exact jT_ret rfl (by decide) (by show 19 ≤ 19; decide) (by omega) (by omega) ⟨rfl, rfl, rfl⟩
theorem jA_344_734 {xs : List Int} {d : Nat} {x1 : Int} (h_x1 : 0 ≤ x1 ∧ x1 ≤ 7) : jT xs (d + 2) 344 20 0 [(0, (4, 0)), (1, (0, x1)), (2, (0, 2)), (3, (4, 1))] [] jpA_2846 0 0 (fun k v hsN => k = 0 ∧ v = (0, 0) ∧ hsN = jpA_2846 ++ []) := by
  refine jT_xaload_n (v := (4, 1)) (pcN := 1) jI_344_0 rfl rfl rfl ?_
  refine jT_xiconst (k := 0) (pcN := 2) jI_344_1 rfl ?_
  refine jT_xaload_n (v := (4, 0)) (pcN := 3) jI_344_2 rfl rfl rfl ?_
  refine jT_xiload_n (v := (0, x1)) (pcN := 4) jI_344_3 rfl rfl rfl ?_
  refine jT_xiload_n (v := (0, 2)) (pcN := 5) jI_344_4 rfl rfl rfl ?_
  refine jT_fR [0, 2, 3, 4, 5, 6, 7, 8, 9, 10, 11, 12, 13, 14, 15, 16, 17, 18, 19] 20 (y := 137) (pcN := 8) (dC := 1) (bc1 := 0) (bc2 := 0) (c1 := 0) (c2 := 0) (as := [(4, 0), (0, x1), (0, 2)]) (asC := [(4, 0), (0, x1), (0, 2)]) (LN := [(0, (4, 0)), (1, (0, x1)), (2, (0, 2)), (3, (4, 1))]) (stN := [(0, 0), (4, 1)]) (hsC := jpA_1979) (v := (0, 0)) (st2 := [(0, 0), (0, 0), (4, 1)]) (jA_137_733 (d := 0) (by omega)) (by rfl) (by rfl) (by decide +kernel) (by rfl) (by rfl) (by omega) (by omega) (by omega) (by omega) rfl ?_
  refine jT_xi2l (x := 0) (z := 0) (pcN := 9) jI_344_8 rfl (by decide +kernel) rfl ?_
  refine jT_adv 1 (pcN := 10) (LN := [(0, (4, 0)), (1, (0, x1)), (2, (0, 2)), (3, (4, 1))]) (stN := []) (hsN := jpA_2846) (c1 := 0) (s1 := 0) (c2 := 0) (s2 := 0) (by exact rfl) ?_ (by omega) (by omega)
  refine jT_xgoto (pcN := 17) jI_344_10 rfl ?_
  refine jT_xiconst (k := 0) (pcN := 18) jI_344_17 rfl ?_
  exact jT_ret rfl (by decide) (by show 20 ≤ 20; decide) (by omega) (by omega) ⟨rfl, rfl, rfl⟩
theorem jA_189_735 {xs : List Int} {d : Nat} : jT xs d 189 0 0 [(0, (1, 2)), (2, (1, 0)), (4, (1, 5))] [] [] 0 0 (fun k v hsN => k = 0 ∧ v = (0, 1) ∧ hsN = [] ++ []) := by
  refine jT_advK 10 (pcN := 18) (LN := [(0, (1, 2)), (2, (1, 0)), (4, (1, 5))]) (stN := [(0, 1)]) (hsN := []) (c1 := 0) (s1 := 0) (c2 := 0) (s2 := 0) (by decide +kernel) ?_ (by omega) (by omega)
  exact jT_ret rfl (by decide) (by show 0 ≤ 0; decide) (by omega) (by omega) ⟨rfl, rfl, rfl⟩
theorem jA_260_736 {xs : List Int} {d : Nat} {x1 : Int} (h_x1 : 0 ≤ x1 ∧ x1 ≤ 7) : jT xs (d + 2) 260 16 0 [(0, (4, 0)), (1, (0, x1)), (2, (0, 2))] [] jpA_1519 0 0 (fun k v hsN => k = 0 ∧ v = (0, 0) ∧ hsN = jpA_1519 ++ []) := by
  refine jT_xaload_n (v := (4, 0)) (pcN := 1) jI_260_0 rfl rfl rfl ?_
  refine jT_xiload_n (v := (0, x1)) (pcN := 2) jI_260_1 rfl rfl rfl ?_
  refine jT_fR [] 16 (y := 188) (pcN := 5) (dC := 1) (bc1 := 0) (bc2 := 0) (c1 := 0) (c2 := 0) (as := [(0, x1)]) (asC := [(0, x1)]) (LN := [(0, (4, 0)), (1, (0, x1)), (2, (0, 2))]) (stN := [(4, 0)]) (hsC := []) (v := (0, 1)) (st2 := [(0, 1), (4, 0)]) (jA_188_13 (d := 0) (by omega)) (by rfl) (by rfl) (by decide +kernel) (by rfl) (by rfl) (by omega) (by omega) (by omega) (by omega) rfl ?_
  refine jT_xifF (t := 24) (pcN := 8) jI_260_5 rfl (by decide +kernel) rfl rfl ?_
  refine jT_xiload_n (v := (0, 2)) (pcN := 9) jI_260_8 rfl rfl rfl ?_
  refine jT_xi2l (x := 2) (z := 2) (pcN := 10) jI_260_9 rfl (by decide +kernel) rfl ?_
  refine jT_xlconst (z := 0) (pcN := 11) jI_260_10 rfl rfl ?_
  refine jT_adv 1 (pcN := 14) (LN := [(0, (4, 0)), (1, (0, x1)), (2, (0, 2))]) (stN := [(1, 5), (1, 0), (1, 2), (4, 0)]) (hsN := jpA_1519) (c1 := 0) (s1 := 0) (c2 := 0) (s2 := 0) (by exact rfl) ?_ (by omega) (by omega)
  refine jT_fR [] 16 (y := 189) (pcN := 17) (dC := 0) (bc1 := 0) (bc2 := 0) (c1 := 0) (c2 := 0) (as := [(1, 2), (1, 0), (1, 5)]) (asC := [(1, 2), (1, 0), (1, 5)]) (LN := [(0, (4, 0)), (1, (0, x1)), (2, (0, 2))]) (stN := [(4, 0)]) (hsC := []) (v := (0, 1)) (st2 := [(0, 1), (4, 0)]) (jA_189_735 (d := 0)) (by rfl) (by rfl) (by decide +kernel) (by rfl) (by rfl) (by omega) (by omega) (by omega) (by omega) rfl ?_
  refine jT_xifF (t := 24) (pcN := 20) jI_260_17 rfl (by decide +kernel) rfl rfl ?_
  refine jT_xiconst (k := 1) (pcN := 21) jI_260_20 rfl ?_
  refine jT_xgoto (pcN := 25) jI_260_21 rfl ?_
  refine jT_fR [0, 1, 2, 3, 4, 5, 6, 7, 8, 9, 10, 11, 12, 13, 14, 15] 16 (y := 190) (pcN := 28) (dC := 1) (bc1 := 0) (bc2 := 0) (c1 := 0) (c2 := 0) (as := [(4, 0), (0, 1)]) (asC := [(4, 0), (0, 1)]) (LN := [(0, (4, 0)), (1, (0, x1)), (2, (0, 2))]) (stN := []) (hsC := jpA_22) (v := (0, 0)) (st2 := [(0, 0)]) (jA_190_39 (d := 0)) (by rfl) (by rfl) (by decide +kernel) (by rfl) (by rfl) (by omega) (by omega) (by omega) (by omega) rfl ?_
  refine jT_xifT (pcN := 35) jI_260_28 rfl (by decide +kernel) rfl ?_
  refine jT_xaload_n (v := (4, 0)) (pcN := 36) jI_260_35 rfl rfl rfl ?_
  refine jT_xgetf (a := 0) (t := 1) (ci := 14) (fi := 1) (c := jzA_21) (v := (4, 1)) (pcN := 39) jI_260_36 rfl rfl rfl rfl rfl rfl rfl ?_
  refine jT_xbipush (k := 7) (pcN := 41) jI_260_39 (by decide) rfl ?_
  refine jT_xiload_n (v := (0, x1)) (pcN := 42) jI_260_41 rfl rfl rfl ?_
  refine jT_ximul (x := 7) (y := x1) (z := 7 * x1) (pcN := 43) jI_260_42 rfl (rfl) rfl ?_
  refine jT_xiload_n (v := (0, 2)) (pcN := 44) jI_260_43 rfl rfl rfl ?_
  refine jT_xiadd (x := 7 * x1) (y := 2) (z := 7 * x1 + 2) (pcN := 45) jI_260_44 rfl (by omega) rfl ?_
  refine jT_iald (x := 0) (a := 1) (j := (7 * x1 + 2).toNat) (fs := []) (X := jS0) (by rfl) (by rfl) (by rfl) (jw_nn (by omega) (by omega)) (jS0_r2 (by omega) (by omega)) ?_
  refine jT_eq (LN := [(0, (4, 0)), (1, (0, x1)), (2, (0, 2))]) (stN := [(0, 0)]) (hsN := jpA_1519) rfl rfl rfl ?_
  exact jT_ret rfl (by decide) (by show 16 ≤ 16; decide) (by omega) (by omega) ⟨rfl, rfl, rfl⟩
theorem jA_115_737 {xs : List Int} {d : Nat} {x2 : Int} (h_x2 : 3 ≤ x2 ∧ x2 ≤ 5) : jT xs d 115 1 0 [(0, (4, 0)), (1, (0, x2)), (2, (0, 6))] [] [jgh] 0 0 (fun k v hsN => k = 0 ∧ v = (9, 0) ∧ hsN = [jgh] ++ []) := by
  refine jT_xiload_n (v := (0, x2)) (pcN := 1) jI_115_0 rfl rfl rfl ?_
  refine jT_ifF (a := x2) (t := 9) (by rfl) (by rfl) (by rfl) (jw_idd (by omega) (by omega)) (by simp only [jcP] <;> omega) ?_
  refine jT_xiload_n (v := (0, x2)) (pcN := 5) jI_115_4 rfl rfl rfl ?_
  refine jT_xiload_n (v := (0, 6)) (pcN := 6) jI_115_5 rfl rfl rfl ?_
  refine jT_icT (a := x2) (b := 6) (t := 20) (by rfl) (by rfl) (by rfl) (jw_idd (by omega) (by omega)) (jw_idd (by omega) (by omega)) (by simp only [jcP] <;> omega) ?_
  exact jT_ret rfl (by decide) (by show 1 ≤ 1; decide) (by omega) (by omega) ⟨rfl, rfl, rfl⟩
theorem jA_137_738 {xs : List Int} {d : Nat} {x1 x2 : Int} (h_x1 : 0 ≤ x1 ∧ x1 ≤ 7) (h_x2 : 3 ≤ x2 ∧ x2 ≤ 5) : jT xs (d + 1) 137 19 0 [(0, (4, 0)), (1, (0, x1)), (2, (0, x2))] [] jpA_1979 0 0 (fun k v hsN => k = 0 ∧ v = (0, 0) ∧ hsN = jpA_1979 ++ []) := by
  refine jT_xaload_n (v := (4, 0)) (pcN := 1) jI_137_0 rfl rfl rfl ?_
  refine jT_xiload_n (v := (0, x1)) (pcN := 2) jI_137_1 rfl rfl rfl ?_
  refine jT_xbipush (k := 8) (pcN := 4) jI_137_2 (by decide) rfl ?_
  refine jT_fR [0] 19 (y := 115) (pcN := 7) (dC := 0) (bc1 := 0) (bc2 := 0) (c1 := 0) (c2 := 0) (as := [(4, 0), (0, x1), (0, 8)]) (asC := [(4, 0), (0, x1), (0, 8)]) (LN := [(0, (4, 0)), (1, (0, x1)), (2, (0, x2))]) (stN := []) (hsC := [jgh]) (v := (9, 0)) (st2 := []) (jA_115_9 (d := 0) (by omega)) (by rfl) (by rfl) (by decide +kernel) (by rfl) (by rfl) (by omega) (by omega) (by omega) (by omega) rfl ?_
  refine jT_xaload_n (v := (4, 0)) (pcN := 8) jI_137_7 rfl rfl rfl ?_
  refine jT_xiload_n (v := (0, x2)) (pcN := 9) jI_137_8 rfl rfl rfl ?_
  refine jT_xbipush (k := 6) (pcN := 11) jI_137_9 (by decide) rfl ?_
  refine jT_fR [0] 19 (y := 115) (pcN := 14) (dC := 0) (bc1 := 0) (bc2 := 0) (c1 := 0) (c2 := 0) (as := [(4, 0), (0, x2), (0, 6)]) (asC := [(4, 0), (0, x2), (0, 6)]) (LN := [(0, (4, 0)), (1, (0, x1)), (2, (0, x2))]) (stN := []) (hsC := [jgh]) (v := (9, 0)) (st2 := []) (jA_115_737 (d := 0) (by omega)) (by rfl) (by rfl) (by decide +kernel) (by rfl) (by rfl) (by omega) (by omega) (by omega) (by omega) rfl ?_
  refine jT_xaload_n (v := (4, 0)) (pcN := 15) jI_137_14 rfl rfl rfl ?_
  refine jT_xgetf (a := 0) (t := 1) (ci := 13) (fi := 11) (c := jzA_5) (v := (4, 11)) (pcN := 18) jI_137_15 rfl rfl rfl rfl rfl rfl rfl ?_
  refine jT_xiload_n (v := (0, x1)) (pcN := 19) jI_137_18 rfl rfl rfl ?_
  refine jT_fR [11, 12, 13, 14, 15, 16, 17] 19 (y := 57) (pcN := 22) (dC := 0) (bc1 := 0) (bc2 := 0) (c1 := 0) (c2 := 0) (as := [(4, 11), (0, x1)]) (asC := [(4, 0), (0, x1)]) (LN := [(0, (4, 0)), (1, (0, x1)), (2, (0, x2))]) (stN := []) (hsC := jpA_47) (v := (4, 6)) (st2 := [(4, 17)]) (jA_57_108 (d := 0) (by omega)) (by rfl) (by rfl) (by decide +kernel) (by rfl) (by rfl) (by omega) (by omega) (by omega) (by omega) rfl ?_
  refine jT_xgetf (a := 17) (t := 2) (ci := 4) (fi := 0) (c := (4, [(4, 18), (1, 1)], [])) (v := (4, 18)) (pcN := 25) jI_137_22 rfl rfl rfl rfl rfl rfl rfl ?_
  refine jT_xiload_n (v := (0, x2)) (pcN := 26) jI_137_25 rfl rfl rfl ?_
  refine jT_lald (x := 0) (a := 18) (j := (x2).toNat) (fs := []) (X := [0, 0, 0, 0, 0, 0]) (by rfl) (by rfl) (by rfl) (jw_nn (by omega) (by omega)) (jall_get2 3 6 (by decide) (by omega) (by omega)) ?_
  refine jT_eq (LN := [(0, (4, 0)), (1, (0, x1)), (2, (0, x2))]) (stN := [(1, 0)]) (hsN := jpA_1979) rfl rfl rfl ?_
  refine jT_xl2i (pcN := 28) jI_137_27 rfl rfl ?_
  exact jT_ret rfl (by decide) (by show 19 ≤ 19; decide) (by omega) (by omega) ⟨rfl, rfl, rfl⟩
theorem jA_344_739 {xs : List Int} {d : Nat} {x1 x2 : Int} (h_x1 : 0 ≤ x1 ∧ x1 ≤ 7) (h_x2 : 3 ≤ x2 ∧ x2 ≤ 5) : jT xs (d + 2) 344 20 0 [(0, (4, 0)), (1, (0, x1)), (2, (0, x2)), (3, (4, 1))] [] jpA_2846 0 0 (fun k v hsN => k = 0 ∧ v = (0, 0) ∧ hsN = jpA_2846 ++ []) := by
  refine jT_xaload_n (v := (4, 1)) (pcN := 1) jI_344_0 rfl rfl rfl ?_
  refine jT_xiconst (k := 0) (pcN := 2) jI_344_1 rfl ?_
  refine jT_xaload_n (v := (4, 0)) (pcN := 3) jI_344_2 rfl rfl rfl ?_
  refine jT_xiload_n (v := (0, x1)) (pcN := 4) jI_344_3 rfl rfl rfl ?_
  refine jT_xiload_n (v := (0, x2)) (pcN := 5) jI_344_4 rfl rfl rfl ?_
  refine jT_fR [0, 2, 3, 4, 5, 6, 7, 8, 9, 10, 11, 12, 13, 14, 15, 16, 17, 18, 19] 20 (y := 137) (pcN := 8) (dC := 1) (bc1 := 0) (bc2 := 0) (c1 := 0) (c2 := 0) (as := [(4, 0), (0, x1), (0, x2)]) (asC := [(4, 0), (0, x1), (0, x2)]) (LN := [(0, (4, 0)), (1, (0, x1)), (2, (0, x2)), (3, (4, 1))]) (stN := [(0, 0), (4, 1)]) (hsC := jpA_1979) (v := (0, 0)) (st2 := [(0, 0), (0, 0), (4, 1)]) (jA_137_738 (d := 0) (by omega) (by omega)) (by rfl) (by rfl) (by decide +kernel) (by rfl) (by rfl) (by omega) (by omega) (by omega) (by omega) rfl ?_
  refine jT_xi2l (x := 0) (z := 0) (pcN := 9) jI_344_8 rfl (by decide +kernel) rfl ?_
  refine jT_adv 1 (pcN := 10) (LN := [(0, (4, 0)), (1, (0, x1)), (2, (0, x2)), (3, (4, 1))]) (stN := []) (hsN := jpA_2846) (c1 := 0) (s1 := 0) (c2 := 0) (s2 := 0) (by exact rfl) ?_ (by omega) (by omega)
  refine jT_xgoto (pcN := 17) jI_344_10 rfl ?_
  refine jT_xiconst (k := 0) (pcN := 18) jI_344_17 rfl ?_
  exact jT_ret rfl (by decide) (by show 20 ≤ 20; decide) (by omega) (by omega) ⟨rfl, rfl, rfl⟩
theorem jA_115_740 {xs : List Int} {d : Nat} {x2 : Int} (h_x2 : 3 ≤ x2 ∧ x2 ≤ 4) : jT xs d 115 1 0 [(0, (4, 0)), (1, (0, x2)), (2, (0, 6))] [] [jgh] 0 0 (fun k v hsN => k = 0 ∧ v = (9, 0) ∧ hsN = [jgh] ++ []) := by
  refine jT_xiload_n (v := (0, x2)) (pcN := 1) jI_115_0 rfl rfl rfl ?_
  refine jT_ifF (a := x2) (t := 9) (by rfl) (by rfl) (by rfl) (jw_idd (by omega) (by omega)) (by simp only [jcP] <;> omega) ?_
  refine jT_xiload_n (v := (0, x2)) (pcN := 5) jI_115_4 rfl rfl rfl ?_
  refine jT_xiload_n (v := (0, 6)) (pcN := 6) jI_115_5 rfl rfl rfl ?_
  refine jT_icT (a := x2) (b := 6) (t := 20) (by rfl) (by rfl) (by rfl) (jw_idd (by omega) (by omega)) (jw_idd (by omega) (by omega)) (by simp only [jcP] <;> omega) ?_
  exact jT_ret rfl (by decide) (by show 1 ≤ 1; decide) (by omega) (by omega) ⟨rfl, rfl, rfl⟩
theorem jA_137_741 {xs : List Int} {d : Nat} {x1 x2 : Int} (h_x1 : 0 ≤ x1 ∧ x1 ≤ 7) (h_x2 : 3 ≤ x2 ∧ x2 ≤ 4) : jT xs (d + 1) 137 19 0 [(0, (4, 0)), (1, (0, x1)), (2, (0, x2))] [] jpA_1979 0 0 (fun k v hsN => k = 0 ∧ v = (0, 0) ∧ hsN = jpA_1979 ++ []) := by
  refine jT_xaload_n (v := (4, 0)) (pcN := 1) jI_137_0 rfl rfl rfl ?_
  refine jT_xiload_n (v := (0, x1)) (pcN := 2) jI_137_1 rfl rfl rfl ?_
  refine jT_xbipush (k := 8) (pcN := 4) jI_137_2 (by decide) rfl ?_
  refine jT_fR [0] 19 (y := 115) (pcN := 7) (dC := 0) (bc1 := 0) (bc2 := 0) (c1 := 0) (c2 := 0) (as := [(4, 0), (0, x1), (0, 8)]) (asC := [(4, 0), (0, x1), (0, 8)]) (LN := [(0, (4, 0)), (1, (0, x1)), (2, (0, x2))]) (stN := []) (hsC := [jgh]) (v := (9, 0)) (st2 := []) (jA_115_9 (d := 0) (by omega)) (by rfl) (by rfl) (by decide +kernel) (by rfl) (by rfl) (by omega) (by omega) (by omega) (by omega) rfl ?_
  refine jT_xaload_n (v := (4, 0)) (pcN := 8) jI_137_7 rfl rfl rfl ?_
  refine jT_xiload_n (v := (0, x2)) (pcN := 9) jI_137_8 rfl rfl rfl ?_
  refine jT_xbipush (k := 6) (pcN := 11) jI_137_9 (by decide) rfl ?_
  refine jT_fR [0] 19 (y := 115) (pcN := 14) (dC := 0) (bc1 := 0) (bc2 := 0) (c1 := 0) (c2 := 0) (as := [(4, 0), (0, x2), (0, 6)]) (asC := [(4, 0), (0, x2), (0, 6)]) (LN := [(0, (4, 0)), (1, (0, x1)), (2, (0, x2))]) (stN := []) (hsC := [jgh]) (v := (9, 0)) (st2 := []) (jA_115_740 (d := 0) (by omega)) (by rfl) (by rfl) (by decide +kernel) (by rfl) (by rfl) (by omega) (by omega) (by omega) (by omega) rfl ?_
  refine jT_xaload_n (v := (4, 0)) (pcN := 15) jI_137_14 rfl rfl rfl ?_
  refine jT_xgetf (a := 0) (t := 1) (ci := 13) (fi := 11) (c := jzA_5) (v := (4, 11)) (pcN := 18) jI_137_15 rfl rfl rfl rfl rfl rfl rfl ?_
  refine jT_xiload_n (v := (0, x1)) (pcN := 19) jI_137_18 rfl rfl rfl ?_
  refine jT_fR [11, 12, 13, 14, 15, 16, 17] 19 (y := 57) (pcN := 22) (dC := 0) (bc1 := 0) (bc2 := 0) (c1 := 0) (c2 := 0) (as := [(4, 11), (0, x1)]) (asC := [(4, 0), (0, x1)]) (LN := [(0, (4, 0)), (1, (0, x1)), (2, (0, x2))]) (stN := []) (hsC := jpA_47) (v := (4, 6)) (st2 := [(4, 17)]) (jA_57_108 (d := 0) (by omega)) (by rfl) (by rfl) (by decide +kernel) (by rfl) (by rfl) (by omega) (by omega) (by omega) (by omega) rfl ?_
  refine jT_xgetf (a := 17) (t := 2) (ci := 4) (fi := 0) (c := (4, [(4, 18), (1, 1)], [])) (v := (4, 18)) (pcN := 25) jI_137_22 rfl rfl rfl rfl rfl rfl rfl ?_
  refine jT_xiload_n (v := (0, x2)) (pcN := 26) jI_137_25 rfl rfl rfl ?_
  refine jT_lald (x := 0) (a := 18) (j := (x2).toNat) (fs := []) (X := [0, 0, 0, 0, 0, 0]) (by rfl) (by rfl) (by rfl) (jw_nn (by omega) (by omega)) (jall_get2 3 5 (by decide) (by omega) (by omega)) ?_
  refine jT_eq (LN := [(0, (4, 0)), (1, (0, x1)), (2, (0, x2))]) (stN := [(1, 0)]) (hsN := jpA_1979) rfl rfl rfl ?_
  refine jT_xl2i (pcN := 28) jI_137_27 rfl rfl ?_
  exact jT_ret rfl (by decide) (by show 19 ≤ 19; decide) (by omega) (by omega) ⟨rfl, rfl, rfl⟩
theorem jA_344_742 {xs : List Int} {d : Nat} {x1 x2 : Int} (h_x1 : 0 ≤ x1 ∧ x1 ≤ 7) (h_x2 : 3 ≤ x2 ∧ x2 ≤ 4) : jT xs (d + 2) 344 20 0 [(0, (4, 0)), (1, (0, x1)), (2, (0, x2)), (3, (4, 1))] [] jpA_2846 0 0 (fun k v hsN => k = 0 ∧ v = (0, 0) ∧ hsN = jpA_2846 ++ []) := by
  refine jT_xaload_n (v := (4, 1)) (pcN := 1) jI_344_0 rfl rfl rfl ?_
  refine jT_xiconst (k := 0) (pcN := 2) jI_344_1 rfl ?_
  refine jT_xaload_n (v := (4, 0)) (pcN := 3) jI_344_2 rfl rfl rfl ?_
  refine jT_xiload_n (v := (0, x1)) (pcN := 4) jI_344_3 rfl rfl rfl ?_
  refine jT_xiload_n (v := (0, x2)) (pcN := 5) jI_344_4 rfl rfl rfl ?_
  refine jT_fR [0, 2, 3, 4, 5, 6, 7, 8, 9, 10, 11, 12, 13, 14, 15, 16, 17, 18, 19] 20 (y := 137) (pcN := 8) (dC := 1) (bc1 := 0) (bc2 := 0) (c1 := 0) (c2 := 0) (as := [(4, 0), (0, x1), (0, x2)]) (asC := [(4, 0), (0, x1), (0, x2)]) (LN := [(0, (4, 0)), (1, (0, x1)), (2, (0, x2)), (3, (4, 1))]) (stN := [(0, 0), (4, 1)]) (hsC := jpA_1979) (v := (0, 0)) (st2 := [(0, 0), (0, 0), (4, 1)]) (jA_137_741 (d := 0) (by omega) (by omega)) (by rfl) (by rfl) (by decide +kernel) (by rfl) (by rfl) (by omega) (by omega) (by omega) (by omega) rfl ?_
  refine jT_xi2l (x := 0) (z := 0) (pcN := 9) jI_344_8 rfl (by decide +kernel) rfl ?_
  refine jT_adv 1 (pcN := 10) (LN := [(0, (4, 0)), (1, (0, x1)), (2, (0, x2)), (3, (4, 1))]) (stN := []) (hsN := jpA_2846) (c1 := 0) (s1 := 0) (c2 := 0) (s2 := 0) (by exact rfl) ?_ (by omega) (by omega)
  refine jT_xgoto (pcN := 17) jI_344_10 rfl ?_
  refine jT_xiconst (k := 0) (pcN := 18) jI_344_17 rfl ?_
  exact jT_ret rfl (by decide) (by show 20 ≤ 20; decide) (by omega) (by omega) ⟨rfl, rfl, rfl⟩
theorem jA_115_743 {xs : List Int} {d : Nat} : jT xs d 115 1 0 [(0, (4, 0)), (1, (0, 3)), (2, (0, 6))] [] [jgh] 0 0 (fun k v hsN => k = 0 ∧ v = (9, 0) ∧ hsN = [jgh] ++ []) := by
  refine jT_advK 5 (pcN := 20) (LN := [(0, (4, 0)), (1, (0, 3)), (2, (0, 6))]) (stN := []) (hsN := [jgh]) (c1 := 0) (s1 := 0) (c2 := 0) (s2 := 0) (by decide +kernel) ?_ (by omega) (by omega)
  exact jT_ret rfl (by decide) (by show 1 ≤ 1; decide) (by omega) (by omega) ⟨rfl, rfl, rfl⟩
theorem jA_137_744 {xs : List Int} {d : Nat} {x1 : Int} (h_x1 : 0 ≤ x1 ∧ x1 ≤ 7) : jT xs (d + 1) 137 19 0 [(0, (4, 0)), (1, (0, x1)), (2, (0, 3))] [] jpA_1979 0 0 (fun k v hsN => k = 0 ∧ v = (0, 0) ∧ hsN = jpA_1979 ++ []) := by
  refine jT_xaload_n (v := (4, 0)) (pcN := 1) jI_137_0 rfl rfl rfl ?_
  refine jT_xiload_n (v := (0, x1)) (pcN := 2) jI_137_1 rfl rfl rfl ?_
  refine jT_xbipush (k := 8) (pcN := 4) jI_137_2 (by decide) rfl ?_
  refine jT_fR [0] 19 (y := 115) (pcN := 7) (dC := 0) (bc1 := 0) (bc2 := 0) (c1 := 0) (c2 := 0) (as := [(4, 0), (0, x1), (0, 8)]) (asC := [(4, 0), (0, x1), (0, 8)]) (LN := [(0, (4, 0)), (1, (0, x1)), (2, (0, 3))]) (stN := []) (hsC := [jgh]) (v := (9, 0)) (st2 := []) (jA_115_9 (d := 0) (by omega)) (by rfl) (by rfl) (by decide +kernel) (by rfl) (by rfl) (by omega) (by omega) (by omega) (by omega) rfl ?_
  refine jT_xaload_n (v := (4, 0)) (pcN := 8) jI_137_7 rfl rfl rfl ?_
  refine jT_xiload_n (v := (0, 3)) (pcN := 9) jI_137_8 rfl rfl rfl ?_
  refine jT_xbipush (k := 6) (pcN := 11) jI_137_9 (by decide) rfl ?_
  refine jT_fR [0] 19 (y := 115) (pcN := 14) (dC := 0) (bc1 := 0) (bc2 := 0) (c1 := 0) (c2 := 0) (as := [(4, 0), (0, 3), (0, 6)]) (asC := [(4, 0), (0, 3), (0, 6)]) (LN := [(0, (4, 0)), (1, (0, x1)), (2, (0, 3))]) (stN := []) (hsC := [jgh]) (v := (9, 0)) (st2 := []) (jA_115_743 (d := 0)) (by rfl) (by rfl) (by decide +kernel) (by rfl) (by rfl) (by omega) (by omega) (by omega) (by omega) rfl ?_
  refine jT_xaload_n (v := (4, 0)) (pcN := 15) jI_137_14 rfl rfl rfl ?_
  refine jT_xgetf (a := 0) (t := 1) (ci := 13) (fi := 11) (c := jzA_5) (v := (4, 11)) (pcN := 18) jI_137_15 rfl rfl rfl rfl rfl rfl rfl ?_
  refine jT_xiload_n (v := (0, x1)) (pcN := 19) jI_137_18 rfl rfl rfl ?_
  refine jT_fR [11, 12, 13, 14, 15, 16, 17] 19 (y := 57) (pcN := 22) (dC := 0) (bc1 := 0) (bc2 := 0) (c1 := 0) (c2 := 0) (as := [(4, 11), (0, x1)]) (asC := [(4, 0), (0, x1)]) (LN := [(0, (4, 0)), (1, (0, x1)), (2, (0, 3))]) (stN := []) (hsC := jpA_47) (v := (4, 6)) (st2 := [(4, 17)]) (jA_57_108 (d := 0) (by omega)) (by rfl) (by rfl) (by decide +kernel) (by rfl) (by rfl) (by omega) (by omega) (by omega) (by omega) rfl ?_
  refine jT_xgetf (a := 17) (t := 2) (ci := 4) (fi := 0) (c := (4, [(4, 18), (1, 1)], [])) (v := (4, 18)) (pcN := 25) jI_137_22 rfl rfl rfl rfl rfl rfl rfl ?_
  refine jT_xiload_n (v := (0, 3)) (pcN := 26) jI_137_25 rfl rfl rfl ?_
  refine jT_lald (x := 0) (a := 18) (j := 3) (fs := []) (X := [0, 0, 0, 0, 0, 0]) jI_137_26 rfl rfl rfl rfl ?_
  refine jT_eq (LN := [(0, (4, 0)), (1, (0, x1)), (2, (0, 3))]) (stN := [(1, 0)]) (hsN := jpA_1979) rfl rfl rfl ?_
  refine jT_xl2i (pcN := 28) jI_137_27 rfl rfl ?_
  exact jT_ret rfl (by decide) (by show 19 ≤ 19; decide) (by omega) (by omega) ⟨rfl, rfl, rfl⟩
theorem jA_344_745 {xs : List Int} {d : Nat} {x1 : Int} (h_x1 : 0 ≤ x1 ∧ x1 ≤ 7) : jT xs (d + 2) 344 20 0 [(0, (4, 0)), (1, (0, x1)), (2, (0, 3)), (3, (4, 1))] [] jpA_2846 0 0 (fun k v hsN => k = 0 ∧ v = (0, 0) ∧ hsN = jpA_2846 ++ []) := by
  refine jT_xaload_n (v := (4, 1)) (pcN := 1) jI_344_0 rfl rfl rfl ?_
  refine jT_xiconst (k := 0) (pcN := 2) jI_344_1 rfl ?_
  refine jT_xaload_n (v := (4, 0)) (pcN := 3) jI_344_2 rfl rfl rfl ?_
  refine jT_xiload_n (v := (0, x1)) (pcN := 4) jI_344_3 rfl rfl rfl ?_
  refine jT_xiload_n (v := (0, 3)) (pcN := 5) jI_344_4 rfl rfl rfl ?_
  refine jT_fR [0, 2, 3, 4, 5, 6, 7, 8, 9, 10, 11, 12, 13, 14, 15, 16, 17, 18, 19] 20 (y := 137) (pcN := 8) (dC := 1) (bc1 := 0) (bc2 := 0) (c1 := 0) (c2 := 0) (as := [(4, 0), (0, x1), (0, 3)]) (asC := [(4, 0), (0, x1), (0, 3)]) (LN := [(0, (4, 0)), (1, (0, x1)), (2, (0, 3)), (3, (4, 1))]) (stN := [(0, 0), (4, 1)]) (hsC := jpA_1979) (v := (0, 0)) (st2 := [(0, 0), (0, 0), (4, 1)]) (jA_137_744 (d := 0) (by omega)) (by rfl) (by rfl) (by decide +kernel) (by rfl) (by rfl) (by omega) (by omega) (by omega) (by omega) rfl ?_
  refine jT_xi2l (x := 0) (z := 0) (pcN := 9) jI_344_8 rfl (by decide +kernel) rfl ?_
  refine jT_adv 1 (pcN := 10) (LN := [(0, (4, 0)), (1, (0, x1)), (2, (0, 3)), (3, (4, 1))]) (stN := []) (hsN := jpA_2846) (c1 := 0) (s1 := 0) (c2 := 0) (s2 := 0) (by exact rfl) ?_ (by omega) (by omega)
  refine jT_xgoto (pcN := 17) jI_344_10 rfl ?_
  refine jT_xiconst (k := 0) (pcN := 18) jI_344_17 rfl ?_
  exact jT_ret rfl (by decide) (by show 20 ≤ 20; decide) (by omega) (by omega) ⟨rfl, rfl, rfl⟩
theorem jA_189_746 {xs : List Int} {d : Nat} : jT xs d 189 0 0 [(0, (1, 3)), (2, (1, 0)), (4, (1, 5))] [] [] 0 0 (fun k v hsN => k = 0 ∧ v = (0, 1) ∧ hsN = [] ++ []) := by
  refine jT_advK 10 (pcN := 18) (LN := [(0, (1, 3)), (2, (1, 0)), (4, (1, 5))]) (stN := [(0, 1)]) (hsN := []) (c1 := 0) (s1 := 0) (c2 := 0) (s2 := 0) (by decide +kernel) ?_ (by omega) (by omega)
  exact jT_ret rfl (by decide) (by show 0 ≤ 0; decide) (by omega) (by omega) ⟨rfl, rfl, rfl⟩
theorem jA_260_747 {xs : List Int} {d : Nat} {x1 : Int} (h_x1 : 0 ≤ x1 ∧ x1 ≤ 7) : jT xs (d + 2) 260 16 0 [(0, (4, 0)), (1, (0, x1)), (2, (0, 3))] [] jpA_1519 0 0 (fun k v hsN => k = 0 ∧ v = (0, 0) ∧ hsN = jpA_1519 ++ []) := by
  refine jT_xaload_n (v := (4, 0)) (pcN := 1) jI_260_0 rfl rfl rfl ?_
  refine jT_xiload_n (v := (0, x1)) (pcN := 2) jI_260_1 rfl rfl rfl ?_
  refine jT_fR [] 16 (y := 188) (pcN := 5) (dC := 1) (bc1 := 0) (bc2 := 0) (c1 := 0) (c2 := 0) (as := [(0, x1)]) (asC := [(0, x1)]) (LN := [(0, (4, 0)), (1, (0, x1)), (2, (0, 3))]) (stN := [(4, 0)]) (hsC := []) (v := (0, 1)) (st2 := [(0, 1), (4, 0)]) (jA_188_13 (d := 0) (by omega)) (by rfl) (by rfl) (by decide +kernel) (by rfl) (by rfl) (by omega) (by omega) (by omega) (by omega) rfl ?_
  refine jT_xifF (t := 24) (pcN := 8) jI_260_5 rfl (by decide +kernel) rfl rfl ?_
  refine jT_xiload_n (v := (0, 3)) (pcN := 9) jI_260_8 rfl rfl rfl ?_
  refine jT_xi2l (x := 3) (z := 3) (pcN := 10) jI_260_9 rfl (by decide +kernel) rfl ?_
  refine jT_xlconst (z := 0) (pcN := 11) jI_260_10 rfl rfl ?_
  refine jT_adv 1 (pcN := 14) (LN := [(0, (4, 0)), (1, (0, x1)), (2, (0, 3))]) (stN := [(1, 5), (1, 0), (1, 3), (4, 0)]) (hsN := jpA_1519) (c1 := 0) (s1 := 0) (c2 := 0) (s2 := 0) (by exact rfl) ?_ (by omega) (by omega)
  refine jT_fR [] 16 (y := 189) (pcN := 17) (dC := 0) (bc1 := 0) (bc2 := 0) (c1 := 0) (c2 := 0) (as := [(1, 3), (1, 0), (1, 5)]) (asC := [(1, 3), (1, 0), (1, 5)]) (LN := [(0, (4, 0)), (1, (0, x1)), (2, (0, 3))]) (stN := [(4, 0)]) (hsC := []) (v := (0, 1)) (st2 := [(0, 1), (4, 0)]) (jA_189_746 (d := 0)) (by rfl) (by rfl) (by decide +kernel) (by rfl) (by rfl) (by omega) (by omega) (by omega) (by omega) rfl ?_
  refine jT_xifF (t := 24) (pcN := 20) jI_260_17 rfl (by decide +kernel) rfl rfl ?_
  refine jT_xiconst (k := 1) (pcN := 21) jI_260_20 rfl ?_
  refine jT_xgoto (pcN := 25) jI_260_21 rfl ?_
  refine jT_fR [0, 1, 2, 3, 4, 5, 6, 7, 8, 9, 10, 11, 12, 13, 14, 15] 16 (y := 190) (pcN := 28) (dC := 1) (bc1 := 0) (bc2 := 0) (c1 := 0) (c2 := 0) (as := [(4, 0), (0, 1)]) (asC := [(4, 0), (0, 1)]) (LN := [(0, (4, 0)), (1, (0, x1)), (2, (0, 3))]) (stN := []) (hsC := jpA_22) (v := (0, 0)) (st2 := [(0, 0)]) (jA_190_39 (d := 0)) (by rfl) (by rfl) (by decide +kernel) (by rfl) (by rfl) (by omega) (by omega) (by omega) (by omega) rfl ?_
  refine jT_xifT (pcN := 35) jI_260_28 rfl (by decide +kernel) rfl ?_
  refine jT_xaload_n (v := (4, 0)) (pcN := 36) jI_260_35 rfl rfl rfl ?_
  refine jT_xgetf (a := 0) (t := 1) (ci := 14) (fi := 1) (c := jzA_21) (v := (4, 1)) (pcN := 39) jI_260_36 rfl rfl rfl rfl rfl rfl rfl ?_
  refine jT_xbipush (k := 7) (pcN := 41) jI_260_39 (by decide) rfl ?_
  refine jT_xiload_n (v := (0, x1)) (pcN := 42) jI_260_41 rfl rfl rfl ?_
  refine jT_ximul (x := 7) (y := x1) (z := 7 * x1) (pcN := 43) jI_260_42 rfl (rfl) rfl ?_
  refine jT_xiload_n (v := (0, 3)) (pcN := 44) jI_260_43 rfl rfl rfl ?_
  refine jT_xiadd (x := 7 * x1) (y := 3) (z := 7 * x1 + 3) (pcN := 45) jI_260_44 rfl (by omega) rfl ?_
  refine jT_iald (x := 0) (a := 1) (j := (7 * x1 + 3).toNat) (fs := []) (X := jS0) (by rfl) (by rfl) (by rfl) (jw_nn (by omega) (by omega)) (jS0_r3 (by omega) (by omega)) ?_
  refine jT_eq (LN := [(0, (4, 0)), (1, (0, x1)), (2, (0, 3))]) (stN := [(0, 0)]) (hsN := jpA_1519) rfl rfl rfl ?_
  exact jT_ret rfl (by decide) (by show 16 ≤ 16; decide) (by omega) (by omega) ⟨rfl, rfl, rfl⟩
theorem jA_115_748 {xs : List Int} {d : Nat} : jT xs d 115 1 0 [(0, (4, 0)), (1, (0, 4)), (2, (0, 6))] [] [jgh] 0 0 (fun k v hsN => k = 0 ∧ v = (9, 0) ∧ hsN = [jgh] ++ []) := by
  refine jT_advK 5 (pcN := 20) (LN := [(0, (4, 0)), (1, (0, 4)), (2, (0, 6))]) (stN := []) (hsN := [jgh]) (c1 := 0) (s1 := 0) (c2 := 0) (s2 := 0) (by decide +kernel) ?_ (by omega) (by omega)
  exact jT_ret rfl (by decide) (by show 1 ≤ 1; decide) (by omega) (by omega) ⟨rfl, rfl, rfl⟩
theorem jA_137_749 {xs : List Int} {d : Nat} {x1 : Int} (h_x1 : 0 ≤ x1 ∧ x1 ≤ 7) : jT xs (d + 1) 137 19 0 [(0, (4, 0)), (1, (0, x1)), (2, (0, 4))] [] jpA_1979 0 0 (fun k v hsN => k = 0 ∧ v = (0, 0) ∧ hsN = jpA_1979 ++ []) := by
  refine jT_xaload_n (v := (4, 0)) (pcN := 1) jI_137_0 rfl rfl rfl ?_
  refine jT_xiload_n (v := (0, x1)) (pcN := 2) jI_137_1 rfl rfl rfl ?_
  refine jT_xbipush (k := 8) (pcN := 4) jI_137_2 (by decide) rfl ?_
  refine jT_fR [0] 19 (y := 115) (pcN := 7) (dC := 0) (bc1 := 0) (bc2 := 0) (c1 := 0) (c2 := 0) (as := [(4, 0), (0, x1), (0, 8)]) (asC := [(4, 0), (0, x1), (0, 8)]) (LN := [(0, (4, 0)), (1, (0, x1)), (2, (0, 4))]) (stN := []) (hsC := [jgh]) (v := (9, 0)) (st2 := []) (jA_115_9 (d := 0) (by omega)) (by rfl) (by rfl) (by decide +kernel) (by rfl) (by rfl) (by omega) (by omega) (by omega) (by omega) rfl ?_
  refine jT_xaload_n (v := (4, 0)) (pcN := 8) jI_137_7 rfl rfl rfl ?_
  refine jT_xiload_n (v := (0, 4)) (pcN := 9) jI_137_8 rfl rfl rfl ?_
  refine jT_xbipush (k := 6) (pcN := 11) jI_137_9 (by decide) rfl ?_
  refine jT_fR [0] 19 (y := 115) (pcN := 14) (dC := 0) (bc1 := 0) (bc2 := 0) (c1 := 0) (c2 := 0) (as := [(4, 0), (0, 4), (0, 6)]) (asC := [(4, 0), (0, 4), (0, 6)]) (LN := [(0, (4, 0)), (1, (0, x1)), (2, (0, 4))]) (stN := []) (hsC := [jgh]) (v := (9, 0)) (st2 := []) (jA_115_748 (d := 0)) (by rfl) (by rfl) (by decide +kernel) (by rfl) (by rfl) (by omega) (by omega) (by omega) (by omega) rfl ?_
  refine jT_xaload_n (v := (4, 0)) (pcN := 15) jI_137_14 rfl rfl rfl ?_
  refine jT_xgetf (a := 0) (t := 1) (ci := 13) (fi := 11) (c := jzA_5) (v := (4, 11)) (pcN := 18) jI_137_15 rfl rfl rfl rfl rfl rfl rfl ?_
  refine jT_xiload_n (v := (0, x1)) (pcN := 19) jI_137_18 rfl rfl rfl ?_
  refine jT_fR [11, 12, 13, 14, 15, 16, 17] 19 (y := 57) (pcN := 22) (dC := 0) (bc1 := 0) (bc2 := 0) (c1 := 0) (c2 := 0) (as := [(4, 11), (0, x1)]) (asC := [(4, 0), (0, x1)]) (LN := [(0, (4, 0)), (1, (0, x1)), (2, (0, 4))]) (stN := []) (hsC := jpA_47) (v := (4, 6)) (st2 := [(4, 17)]) (jA_57_108 (d := 0) (by omega)) (by rfl) (by rfl) (by decide +kernel) (by rfl) (by rfl) (by omega) (by omega) (by omega) (by omega) rfl ?_
  refine jT_xgetf (a := 17) (t := 2) (ci := 4) (fi := 0) (c := (4, [(4, 18), (1, 1)], [])) (v := (4, 18)) (pcN := 25) jI_137_22 rfl rfl rfl rfl rfl rfl rfl ?_
  refine jT_xiload_n (v := (0, 4)) (pcN := 26) jI_137_25 rfl rfl rfl ?_
  refine jT_lald (x := 0) (a := 18) (j := 4) (fs := []) (X := [0, 0, 0, 0, 0, 0]) jI_137_26 rfl rfl rfl rfl ?_
  refine jT_eq (LN := [(0, (4, 0)), (1, (0, x1)), (2, (0, 4))]) (stN := [(1, 0)]) (hsN := jpA_1979) rfl rfl rfl ?_
  refine jT_xl2i (pcN := 28) jI_137_27 rfl rfl ?_
  exact jT_ret rfl (by decide) (by show 19 ≤ 19; decide) (by omega) (by omega) ⟨rfl, rfl, rfl⟩
theorem jA_344_750 {xs : List Int} {d : Nat} {x1 : Int} (h_x1 : 0 ≤ x1 ∧ x1 ≤ 7) : jT xs (d + 2) 344 20 0 [(0, (4, 0)), (1, (0, x1)), (2, (0, 4)), (3, (4, 1))] [] jpA_2846 0 0 (fun k v hsN => k = 0 ∧ v = (0, 0) ∧ hsN = jpA_2846 ++ []) := by
  refine jT_xaload_n (v := (4, 1)) (pcN := 1) jI_344_0 rfl rfl rfl ?_
  refine jT_xiconst (k := 0) (pcN := 2) jI_344_1 rfl ?_
  refine jT_xaload_n (v := (4, 0)) (pcN := 3) jI_344_2 rfl rfl rfl ?_
  refine jT_xiload_n (v := (0, x1)) (pcN := 4) jI_344_3 rfl rfl rfl ?_
  refine jT_xiload_n (v := (0, 4)) (pcN := 5) jI_344_4 rfl rfl rfl ?_
  refine jT_fR [0, 2, 3, 4, 5, 6, 7, 8, 9, 10, 11, 12, 13, 14, 15, 16, 17, 18, 19] 20 (y := 137) (pcN := 8) (dC := 1) (bc1 := 0) (bc2 := 0) (c1 := 0) (c2 := 0) (as := [(4, 0), (0, x1), (0, 4)]) (asC := [(4, 0), (0, x1), (0, 4)]) (LN := [(0, (4, 0)), (1, (0, x1)), (2, (0, 4)), (3, (4, 1))]) (stN := [(0, 0), (4, 1)]) (hsC := jpA_1979) (v := (0, 0)) (st2 := [(0, 0), (0, 0), (4, 1)]) (jA_137_749 (d := 0) (by omega)) (by rfl) (by rfl) (by decide +kernel) (by rfl) (by rfl) (by omega) (by omega) (by omega) (by omega) rfl ?_
  refine jT_xi2l (x := 0) (z := 0) (pcN := 9) jI_344_8 rfl (by decide +kernel) rfl ?_
  refine jT_adv 1 (pcN := 10) (LN := [(0, (4, 0)), (1, (0, x1)), (2, (0, 4)), (3, (4, 1))]) (stN := []) (hsN := jpA_2846) (c1 := 0) (s1 := 0) (c2 := 0) (s2 := 0) (by exact rfl) ?_ (by omega) (by omega)
  refine jT_xgoto (pcN := 17) jI_344_10 rfl ?_
  refine jT_xiconst (k := 0) (pcN := 18) jI_344_17 rfl ?_
  exact jT_ret rfl (by decide) (by show 20 ≤ 20; decide) (by omega) (by omega) ⟨rfl, rfl, rfl⟩
theorem jA_189_751 {xs : List Int} {d : Nat} : jT xs d 189 0 0 [(0, (1, 4)), (2, (1, 0)), (4, (1, 5))] [] [] 0 0 (fun k v hsN => k = 0 ∧ v = (0, 1) ∧ hsN = [] ++ []) := by
  refine jT_advK 10 (pcN := 18) (LN := [(0, (1, 4)), (2, (1, 0)), (4, (1, 5))]) (stN := [(0, 1)]) (hsN := []) (c1 := 0) (s1 := 0) (c2 := 0) (s2 := 0) (by decide +kernel) ?_ (by omega) (by omega)
  exact jT_ret rfl (by decide) (by show 0 ≤ 0; decide) (by omega) (by omega) ⟨rfl, rfl, rfl⟩
theorem jA_260_752 {xs : List Int} {d : Nat} {x1 : Int} (h_x1 : 0 ≤ x1 ∧ x1 ≤ 7) : jT xs (d + 2) 260 16 0 [(0, (4, 0)), (1, (0, x1)), (2, (0, 4))] [] jpA_1519 0 0 (fun k v hsN => k = 0 ∧ v = (0, 0) ∧ hsN = jpA_1519 ++ []) := by
  refine jT_xaload_n (v := (4, 0)) (pcN := 1) jI_260_0 rfl rfl rfl ?_
  refine jT_xiload_n (v := (0, x1)) (pcN := 2) jI_260_1 rfl rfl rfl ?_
  refine jT_fR [] 16 (y := 188) (pcN := 5) (dC := 1) (bc1 := 0) (bc2 := 0) (c1 := 0) (c2 := 0) (as := [(0, x1)]) (asC := [(0, x1)]) (LN := [(0, (4, 0)), (1, (0, x1)), (2, (0, 4))]) (stN := [(4, 0)]) (hsC := []) (v := (0, 1)) (st2 := [(0, 1), (4, 0)]) (jA_188_13 (d := 0) (by omega)) (by rfl) (by rfl) (by decide +kernel) (by rfl) (by rfl) (by omega) (by omega) (by omega) (by omega) rfl ?_
  refine jT_xifF (t := 24) (pcN := 8) jI_260_5 rfl (by decide +kernel) rfl rfl ?_
  refine jT_xiload_n (v := (0, 4)) (pcN := 9) jI_260_8 rfl rfl rfl ?_
  refine jT_xi2l (x := 4) (z := 4) (pcN := 10) jI_260_9 rfl (by decide +kernel) rfl ?_
  refine jT_xlconst (z := 0) (pcN := 11) jI_260_10 rfl rfl ?_
  refine jT_adv 1 (pcN := 14) (LN := [(0, (4, 0)), (1, (0, x1)), (2, (0, 4))]) (stN := [(1, 5), (1, 0), (1, 4), (4, 0)]) (hsN := jpA_1519) (c1 := 0) (s1 := 0) (c2 := 0) (s2 := 0) (by exact rfl) ?_ (by omega) (by omega)
  refine jT_fR [] 16 (y := 189) (pcN := 17) (dC := 0) (bc1 := 0) (bc2 := 0) (c1 := 0) (c2 := 0) (as := [(1, 4), (1, 0), (1, 5)]) (asC := [(1, 4), (1, 0), (1, 5)]) (LN := [(0, (4, 0)), (1, (0, x1)), (2, (0, 4))]) (stN := [(4, 0)]) (hsC := []) (v := (0, 1)) (st2 := [(0, 1), (4, 0)]) (jA_189_751 (d := 0)) (by rfl) (by rfl) (by decide +kernel) (by rfl) (by rfl) (by omega) (by omega) (by omega) (by omega) rfl ?_
  refine jT_xifF (t := 24) (pcN := 20) jI_260_17 rfl (by decide +kernel) rfl rfl ?_
  refine jT_xiconst (k := 1) (pcN := 21) jI_260_20 rfl ?_
  refine jT_xgoto (pcN := 25) jI_260_21 rfl ?_
  refine jT_fR [0, 1, 2, 3, 4, 5, 6, 7, 8, 9, 10, 11, 12, 13, 14, 15] 16 (y := 190) (pcN := 28) (dC := 1) (bc1 := 0) (bc2 := 0) (c1 := 0) (c2 := 0) (as := [(4, 0), (0, 1)]) (asC := [(4, 0), (0, 1)]) (LN := [(0, (4, 0)), (1, (0, x1)), (2, (0, 4))]) (stN := []) (hsC := jpA_22) (v := (0, 0)) (st2 := [(0, 0)]) (jA_190_39 (d := 0)) (by rfl) (by rfl) (by decide +kernel) (by rfl) (by rfl) (by omega) (by omega) (by omega) (by omega) rfl ?_
  refine jT_xifT (pcN := 35) jI_260_28 rfl (by decide +kernel) rfl ?_
  refine jT_xaload_n (v := (4, 0)) (pcN := 36) jI_260_35 rfl rfl rfl ?_
  refine jT_xgetf (a := 0) (t := 1) (ci := 14) (fi := 1) (c := jzA_21) (v := (4, 1)) (pcN := 39) jI_260_36 rfl rfl rfl rfl rfl rfl rfl ?_
  refine jT_xbipush (k := 7) (pcN := 41) jI_260_39 (by decide) rfl ?_
  refine jT_xiload_n (v := (0, x1)) (pcN := 42) jI_260_41 rfl rfl rfl ?_
  refine jT_ximul (x := 7) (y := x1) (z := 7 * x1) (pcN := 43) jI_260_42 rfl (rfl) rfl ?_
  refine jT_xiload_n (v := (0, 4)) (pcN := 44) jI_260_43 rfl rfl rfl ?_
  refine jT_xiadd (x := 7 * x1) (y := 4) (z := 7 * x1 + 4) (pcN := 45) jI_260_44 rfl (by omega) rfl ?_
  refine jT_iald (x := 0) (a := 1) (j := (7 * x1 + 4).toNat) (fs := []) (X := jS0) (by rfl) (by rfl) (by rfl) (jw_nn (by omega) (by omega)) (jS0_r4 (by omega) (by omega)) ?_
  refine jT_eq (LN := [(0, (4, 0)), (1, (0, x1)), (2, (0, 4))]) (stN := [(0, 0)]) (hsN := jpA_1519) rfl rfl rfl ?_
  exact jT_ret rfl (by decide) (by show 16 ≤ 16; decide) (by omega) (by omega) ⟨rfl, rfl, rfl⟩
theorem jA_115_753 {xs : List Int} {d : Nat} : jT xs d 115 1 0 [(0, (4, 0)), (1, (0, 5)), (2, (0, 6))] [] [jgh] 0 0 (fun k v hsN => k = 0 ∧ v = (9, 0) ∧ hsN = [jgh] ++ []) := by
  refine jT_advK 5 (pcN := 20) (LN := [(0, (4, 0)), (1, (0, 5)), (2, (0, 6))]) (stN := []) (hsN := [jgh]) (c1 := 0) (s1 := 0) (c2 := 0) (s2 := 0) (by decide +kernel) ?_ (by omega) (by omega)
  exact jT_ret rfl (by decide) (by show 1 ≤ 1; decide) (by omega) (by omega) ⟨rfl, rfl, rfl⟩
theorem jA_137_754 {xs : List Int} {d : Nat} {x1 : Int} (h_x1 : 0 ≤ x1 ∧ x1 ≤ 7) : jT xs (d + 1) 137 19 0 [(0, (4, 0)), (1, (0, x1)), (2, (0, 5))] [] jpA_1979 0 0 (fun k v hsN => k = 0 ∧ v = (0, 0) ∧ hsN = jpA_1979 ++ []) := by
  refine jT_xaload_n (v := (4, 0)) (pcN := 1) jI_137_0 rfl rfl rfl ?_
  refine jT_xiload_n (v := (0, x1)) (pcN := 2) jI_137_1 rfl rfl rfl ?_
  refine jT_xbipush (k := 8) (pcN := 4) jI_137_2 (by decide) rfl ?_
  refine jT_fR [0] 19 (y := 115) (pcN := 7) (dC := 0) (bc1 := 0) (bc2 := 0) (c1 := 0) (c2 := 0) (as := [(4, 0), (0, x1), (0, 8)]) (asC := [(4, 0), (0, x1), (0, 8)]) (LN := [(0, (4, 0)), (1, (0, x1)), (2, (0, 5))]) (stN := []) (hsC := [jgh]) (v := (9, 0)) (st2 := []) (jA_115_9 (d := 0) (by omega)) (by rfl) (by rfl) (by decide +kernel) (by rfl) (by rfl) (by omega) (by omega) (by omega) (by omega) rfl ?_
  refine jT_xaload_n (v := (4, 0)) (pcN := 8) jI_137_7 rfl rfl rfl ?_
  refine jT_xiload_n (v := (0, 5)) (pcN := 9) jI_137_8 rfl rfl rfl ?_
  refine jT_xbipush (k := 6) (pcN := 11) jI_137_9 (by decide) rfl ?_
  refine jT_fR [0] 19 (y := 115) (pcN := 14) (dC := 0) (bc1 := 0) (bc2 := 0) (c1 := 0) (c2 := 0) (as := [(4, 0), (0, 5), (0, 6)]) (asC := [(4, 0), (0, 5), (0, 6)]) (LN := [(0, (4, 0)), (1, (0, x1)), (2, (0, 5))]) (stN := []) (hsC := [jgh]) (v := (9, 0)) (st2 := []) (jA_115_753 (d := 0)) (by rfl) (by rfl) (by decide +kernel) (by rfl) (by rfl) (by omega) (by omega) (by omega) (by omega) rfl ?_
  refine jT_xaload_n (v := (4, 0)) (pcN := 15) jI_137_14 rfl rfl rfl ?_
  refine jT_xgetf (a := 0) (t := 1) (ci := 13) (fi := 11) (c := jzA_5) (v := (4, 11)) (pcN := 18) jI_137_15 rfl rfl rfl rfl rfl rfl rfl ?_
  refine jT_xiload_n (v := (0, x1)) (pcN := 19) jI_137_18 rfl rfl rfl ?_
  refine jT_fR [11, 12, 13, 14, 15, 16, 17] 19 (y := 57) (pcN := 22) (dC := 0) (bc1 := 0) (bc2 := 0) (c1 := 0) (c2 := 0) (as := [(4, 11), (0, x1)]) (asC := [(4, 0), (0, x1)]) (LN := [(0, (4, 0)), (1, (0, x1)), (2, (0, 5))]) (stN := []) (hsC := jpA_47) (v := (4, 6)) (st2 := [(4, 17)]) (jA_57_108 (d := 0) (by omega)) (by rfl) (by rfl) (by decide +kernel) (by rfl) (by rfl) (by omega) (by omega) (by omega) (by omega) rfl ?_
  refine jT_xgetf (a := 17) (t := 2) (ci := 4) (fi := 0) (c := (4, [(4, 18), (1, 1)], [])) (v := (4, 18)) (pcN := 25) jI_137_22 rfl rfl rfl rfl rfl rfl rfl ?_
  refine jT_xiload_n (v := (0, 5)) (pcN := 26) jI_137_25 rfl rfl rfl ?_
  refine jT_lald (x := 0) (a := 18) (j := 5) (fs := []) (X := [0, 0, 0, 0, 0, 0]) jI_137_26 rfl rfl rfl rfl ?_
  refine jT_eq (LN := [(0, (4, 0)), (1, (0, x1)), (2, (0, 5))]) (stN := [(1, 0)]) (hsN := jpA_1979) rfl rfl rfl ?_
  refine jT_xl2i (pcN := 28) jI_137_27 rfl rfl ?_
  exact jT_ret rfl (by decide) (by show 19 ≤ 19; decide) (by omega) (by omega) ⟨rfl, rfl, rfl⟩
theorem jA_344_755 {xs : List Int} {d : Nat} {x1 : Int} (h_x1 : 0 ≤ x1 ∧ x1 ≤ 7) : jT xs (d + 2) 344 20 0 [(0, (4, 0)), (1, (0, x1)), (2, (0, 5)), (3, (4, 1))] [] jpA_2846 0 0 (fun k v hsN => k = 0 ∧ v = (0, 0) ∧ hsN = jpA_2846 ++ []) := by
  refine jT_xaload_n (v := (4, 1)) (pcN := 1) jI_344_0 rfl rfl rfl ?_
  refine jT_xiconst (k := 0) (pcN := 2) jI_344_1 rfl ?_
  refine jT_xaload_n (v := (4, 0)) (pcN := 3) jI_344_2 rfl rfl rfl ?_
  refine jT_xiload_n (v := (0, x1)) (pcN := 4) jI_344_3 rfl rfl rfl ?_
  refine jT_xiload_n (v := (0, 5)) (pcN := 5) jI_344_4 rfl rfl rfl ?_
  refine jT_fR [0, 2, 3, 4, 5, 6, 7, 8, 9, 10, 11, 12, 13, 14, 15, 16, 17, 18, 19] 20 (y := 137) (pcN := 8) (dC := 1) (bc1 := 0) (bc2 := 0) (c1 := 0) (c2 := 0) (as := [(4, 0), (0, x1), (0, 5)]) (asC := [(4, 0), (0, x1), (0, 5)]) (LN := [(0, (4, 0)), (1, (0, x1)), (2, (0, 5)), (3, (4, 1))]) (stN := [(0, 0), (4, 1)]) (hsC := jpA_1979) (v := (0, 0)) (st2 := [(0, 0), (0, 0), (4, 1)]) (jA_137_754 (d := 0) (by omega)) (by rfl) (by rfl) (by decide +kernel) (by rfl) (by rfl) (by omega) (by omega) (by omega) (by omega) rfl ?_
  refine jT_xi2l (x := 0) (z := 0) (pcN := 9) jI_344_8 rfl (by decide +kernel) rfl ?_
  refine jT_adv 1 (pcN := 10) (LN := [(0, (4, 0)), (1, (0, x1)), (2, (0, 5)), (3, (4, 1))]) (stN := []) (hsN := jpA_2846) (c1 := 0) (s1 := 0) (c2 := 0) (s2 := 0) (by exact rfl) ?_ (by omega) (by omega)
  refine jT_xgoto (pcN := 17) jI_344_10 rfl ?_
  refine jT_xiconst (k := 0) (pcN := 18) jI_344_17 rfl ?_
  exact jT_ret rfl (by decide) (by show 20 ≤ 20; decide) (by omega) (by omega) ⟨rfl, rfl, rfl⟩
theorem jA_189_756 {xs : List Int} {d : Nat} : jT xs d 189 0 0 [(0, (1, 5)), (2, (1, 0)), (4, (1, 5))] [] [] 0 0 (fun k v hsN => k = 0 ∧ v = (0, 1) ∧ hsN = [] ++ []) := by
  refine jT_advK 10 (pcN := 18) (LN := [(0, (1, 5)), (2, (1, 0)), (4, (1, 5))]) (stN := [(0, 1)]) (hsN := []) (c1 := 0) (s1 := 0) (c2 := 0) (s2 := 0) (by decide +kernel) ?_ (by omega) (by omega)
  exact jT_ret rfl (by decide) (by show 0 ≤ 0; decide) (by omega) (by omega) ⟨rfl, rfl, rfl⟩
theorem jA_260_757 {xs : List Int} {d : Nat} {x1 : Int} (h_x1 : 0 ≤ x1 ∧ x1 ≤ 7) : jT xs (d + 2) 260 16 0 [(0, (4, 0)), (1, (0, x1)), (2, (0, 5))] [] jpA_1519 0 0 (fun k v hsN => k = 0 ∧ v = (0, 0) ∧ hsN = jpA_1519 ++ []) := by
  refine jT_xaload_n (v := (4, 0)) (pcN := 1) jI_260_0 rfl rfl rfl ?_
  refine jT_xiload_n (v := (0, x1)) (pcN := 2) jI_260_1 rfl rfl rfl ?_
  refine jT_fR [] 16 (y := 188) (pcN := 5) (dC := 1) (bc1 := 0) (bc2 := 0) (c1 := 0) (c2 := 0) (as := [(0, x1)]) (asC := [(0, x1)]) (LN := [(0, (4, 0)), (1, (0, x1)), (2, (0, 5))]) (stN := [(4, 0)]) (hsC := []) (v := (0, 1)) (st2 := [(0, 1), (4, 0)]) (jA_188_13 (d := 0) (by omega)) (by rfl) (by rfl) (by decide +kernel) (by rfl) (by rfl) (by omega) (by omega) (by omega) (by omega) rfl ?_
  refine jT_xifF (t := 24) (pcN := 8) jI_260_5 rfl (by decide +kernel) rfl rfl ?_
  refine jT_xiload_n (v := (0, 5)) (pcN := 9) jI_260_8 rfl rfl rfl ?_
  refine jT_xi2l (x := 5) (z := 5) (pcN := 10) jI_260_9 rfl (by decide +kernel) rfl ?_
  refine jT_xlconst (z := 0) (pcN := 11) jI_260_10 rfl rfl ?_
  refine jT_adv 1 (pcN := 14) (LN := [(0, (4, 0)), (1, (0, x1)), (2, (0, 5))]) (stN := [(1, 5), (1, 0), (1, 5), (4, 0)]) (hsN := jpA_1519) (c1 := 0) (s1 := 0) (c2 := 0) (s2 := 0) (by exact rfl) ?_ (by omega) (by omega)
  refine jT_fR [] 16 (y := 189) (pcN := 17) (dC := 0) (bc1 := 0) (bc2 := 0) (c1 := 0) (c2 := 0) (as := [(1, 5), (1, 0), (1, 5)]) (asC := [(1, 5), (1, 0), (1, 5)]) (LN := [(0, (4, 0)), (1, (0, x1)), (2, (0, 5))]) (stN := [(4, 0)]) (hsC := []) (v := (0, 1)) (st2 := [(0, 1), (4, 0)]) (jA_189_756 (d := 0)) (by rfl) (by rfl) (by decide +kernel) (by rfl) (by rfl) (by omega) (by omega) (by omega) (by omega) rfl ?_
  refine jT_xifF (t := 24) (pcN := 20) jI_260_17 rfl (by decide +kernel) rfl rfl ?_
  refine jT_xiconst (k := 1) (pcN := 21) jI_260_20 rfl ?_
  refine jT_xgoto (pcN := 25) jI_260_21 rfl ?_
  refine jT_fR [0, 1, 2, 3, 4, 5, 6, 7, 8, 9, 10, 11, 12, 13, 14, 15] 16 (y := 190) (pcN := 28) (dC := 1) (bc1 := 0) (bc2 := 0) (c1 := 0) (c2 := 0) (as := [(4, 0), (0, 1)]) (asC := [(4, 0), (0, 1)]) (LN := [(0, (4, 0)), (1, (0, x1)), (2, (0, 5))]) (stN := []) (hsC := jpA_22) (v := (0, 0)) (st2 := [(0, 0)]) (jA_190_39 (d := 0)) (by rfl) (by rfl) (by decide +kernel) (by rfl) (by rfl) (by omega) (by omega) (by omega) (by omega) rfl ?_
  refine jT_xifT (pcN := 35) jI_260_28 rfl (by decide +kernel) rfl ?_
  refine jT_xaload_n (v := (4, 0)) (pcN := 36) jI_260_35 rfl rfl rfl ?_
  refine jT_xgetf (a := 0) (t := 1) (ci := 14) (fi := 1) (c := jzA_21) (v := (4, 1)) (pcN := 39) jI_260_36 rfl rfl rfl rfl rfl rfl rfl ?_
  refine jT_xbipush (k := 7) (pcN := 41) jI_260_39 (by decide) rfl ?_
  refine jT_xiload_n (v := (0, x1)) (pcN := 42) jI_260_41 rfl rfl rfl ?_
  refine jT_ximul (x := 7) (y := x1) (z := 7 * x1) (pcN := 43) jI_260_42 rfl (rfl) rfl ?_
  refine jT_xiload_n (v := (0, 5)) (pcN := 44) jI_260_43 rfl rfl rfl ?_
  refine jT_xiadd (x := 7 * x1) (y := 5) (z := 7 * x1 + 5) (pcN := 45) jI_260_44 rfl (by omega) rfl ?_
  refine jT_iald (x := 0) (a := 1) (j := (7 * x1 + 5).toNat) (fs := []) (X := jS0) (by rfl) (by rfl) (by rfl) (jw_nn (by omega) (by omega)) (jS0_r5 (by omega) (by omega)) ?_
  refine jT_eq (LN := [(0, (4, 0)), (1, (0, x1)), (2, (0, 5))]) (stN := [(0, 0)]) (hsN := jpA_1519) rfl rfl rfl ?_
  exact jT_ret rfl (by decide) (by show 16 ≤ 16; decide) (by omega) (by omega) ⟨rfl, rfl, rfl⟩
theorem jA_115_758 {xs : List Int} {d : Nat} {x2 : Int} (h_x2 : 6 ≤ x2 ∧ x2 ≤ 2147483647) : jT xs d 115 1 0 [(0, (4, 0)), (1, (0, x2)), (2, (0, 6))] [] [jgh] 1 6 (fun k v hsN => k = 1 ∧ v = (0, 0) ∧ hsN = [jgh] ++ []) := by
  refine jT_xiload_n (v := (0, x2)) (pcN := 1) jI_115_0 rfl rfl rfl ?_
  refine jT_ifF (a := x2) (t := 9) (by rfl) (by rfl) (by rfl) (jw_idd (by omega) (by omega)) (by simp only [jcP] <;> omega) ?_
  refine jT_xiload_n (v := (0, x2)) (pcN := 5) jI_115_4 rfl rfl rfl ?_
  refine jT_xiload_n (v := (0, 6)) (pcN := 6) jI_115_5 rfl rfl rfl ?_
  refine jT_icF (a := x2) (b := 6) (t := 20) (by rfl) (by rfl) (by rfl) (jw_idd (by omega) (by omega)) (jw_idd (by omega) (by omega)) (by simp only [jcP] <;> omega) ?_
  exact jT_ret (c1 := 1) (s1 := 6) rfl (by decide) (by show 1 ≤ 1; decide) (by omega) (by omega) ⟨rfl, rfl, rfl⟩
theorem jA_137_759 {xs : List Int} {d : Nat} {x1 x2 : Int} (h_x1 : 0 ≤ x1 ∧ x1 ≤ 7) (h_x2 : 6 ≤ x2 ∧ x2 ≤ 2147483647) : jT xs (d + 1) 137 12 0 [(0, (4, 0)), (1, (0, x1)), (2, (0, x2))] [] jpA_6 1 6 (fun k v hsN => k = 1 ∧ v = (0, 0) ∧ hsN = jpA_6 ++ []) := by
  refine jT_xaload_n (v := (4, 0)) (pcN := 1) jI_137_0 rfl rfl rfl ?_
  refine jT_xiload_n (v := (0, x1)) (pcN := 2) jI_137_1 rfl rfl rfl ?_
  refine jT_xbipush (k := 8) (pcN := 4) jI_137_2 (by decide) rfl ?_
  refine jT_fR [0] 12 (y := 115) (pcN := 7) (dC := 0) (bc1 := 0) (bc2 := 0) (c1 := 1) (c2 := 6) (as := [(4, 0), (0, x1), (0, 8)]) (asC := [(4, 0), (0, x1), (0, 8)]) (LN := [(0, (4, 0)), (1, (0, x1)), (2, (0, x2))]) (stN := []) (hsC := [jgh]) (v := (9, 0)) (st2 := []) (jA_115_9 (d := 0) (by omega)) (by rfl) (by rfl) (by decide +kernel) (by rfl) (by rfl) (by omega) (by omega) (by omega) (by omega) rfl ?_
  refine jT_xaload_n (v := (4, 0)) (pcN := 8) jI_137_7 rfl rfl rfl ?_
  refine jT_xiload_n (v := (0, x2)) (pcN := 9) jI_137_8 rfl rfl rfl ?_
  refine jT_xbipush (k := 6) (pcN := 11) jI_137_9 (by decide) rfl ?_
  exact jT_fX [0] 12 (y := 115) (pcN := 14) (dC := 0) (bc1 := 1) (bc2 := 6) (as := [(4, 0), (0, x2), (0, 6)]) (asC := [(4, 0), (0, x2), (0, 6)]) (LN := [(0, (4, 0)), (1, (0, x1)), (2, (0, x2))]) (stN := []) (hsC := [jgh]) (e := 0) (jA_115_758 (d := 0) (by omega)) (by rfl) (by rfl) (by decide +kernel) (by rfl) (by rfl) (by omega) (by omega) (by omega) (by omega) ⟨rfl, ⟨rfl, rfl, rfl⟩⟩
theorem jA_344_760 {xs : List Int} {d : Nat} {x1 x2 : Int} (h_x1 : 0 ≤ x1 ∧ x1 ≤ 7) (h_x2 : 6 ≤ x2 ∧ x2 ≤ 2147483647) : jT xs (d + 2) 344 13 0 [(0, (4, 0)), (1, (0, x1)), (2, (0, x2)), (3, (4, 1))] [] jpA_15 1 6 (fun k v hsN => k = 0 ∧ v = (0, 1) ∧ hsN = jpA_15 ++ []) := by
  refine jT_xaload_n (v := (4, 1)) (pcN := 1) jI_344_0 rfl rfl rfl ?_
  refine jT_xiconst (k := 0) (pcN := 2) jI_344_1 rfl ?_
  refine jT_xaload_n (v := (4, 0)) (pcN := 3) jI_344_2 rfl rfl rfl ?_
  refine jT_xiload_n (v := (0, x1)) (pcN := 4) jI_344_3 rfl rfl rfl ?_
  refine jT_xiload_n (v := (0, x2)) (pcN := 5) jI_344_4 rfl rfl rfl ?_
  exact jT_fX [0, 2, 3, 4, 5, 6, 7, 8, 9, 10, 11, 12] 13 (y := 137) (pcN := 8) (dC := 1) (bc1 := 1) (bc2 := 6) (as := [(4, 0), (0, x1), (0, x2)]) (asC := [(4, 0), (0, x1), (0, x2)]) (LN := [(0, (4, 0)), (1, (0, x1)), (2, (0, x2)), (3, (4, 1))]) (stN := [(0, 0), (4, 1)]) (hsC := jpA_6) (e := 0) (jA_137_759 (d := 0) (by omega) (by omega)) (by rfl) (by rfl) (by decide +kernel) (by rfl) (by rfl) (by omega) (by omega) (by omega) (by omega) (show _ from ⟨rfl, rfl, rfl⟩)
theorem jA_260_761 {xs : List Int} {d : Nat} {x1 x2 : Int} (h_x1 : 0 ≤ x1 ∧ x1 ≤ 7) (h_x2 : 6 ≤ x2 ∧ x2 ≤ 2147483647) : jT xs (d + 2) 260 16 0 [(0, (4, 0)), (1, (0, x1)), (2, (0, x2))] [] jpA_22 0 0 (fun k v hsN => k = 0 ∧ v = (0, 0) ∧ hsN = jpA_20) := by
  refine jT_xaload_n (v := (4, 0)) (pcN := 1) jI_260_0 rfl rfl rfl ?_
  refine jT_xiload_n (v := (0, x1)) (pcN := 2) jI_260_1 rfl rfl rfl ?_
  refine jT_fR [] 16 (y := 188) (pcN := 5) (dC := 1) (bc1 := 0) (bc2 := 0) (c1 := 0) (c2 := 0) (as := [(0, x1)]) (asC := [(0, x1)]) (LN := [(0, (4, 0)), (1, (0, x1)), (2, (0, x2))]) (stN := [(4, 0)]) (hsC := []) (v := (0, 1)) (st2 := [(0, 1), (4, 0)]) (jA_188_13 (d := 0) (by omega)) (by rfl) (by rfl) (by decide +kernel) (by rfl) (by rfl) (by omega) (by omega) (by omega) (by omega) rfl ?_
  refine jT_xifF (t := 24) (pcN := 8) jI_260_5 rfl (by decide +kernel) rfl rfl ?_
  refine jT_xiload_n (v := (0, x2)) (pcN := 9) jI_260_8 rfl rfl rfl ?_
  refine jT_xi2l (x := x2) (z := x2) (pcN := 10) jI_260_9 rfl (jw_idd (by omega) (by omega)) rfl ?_
  refine jT_xlconst (z := 0) (pcN := 11) jI_260_10 rfl rfl ?_
  refine jT_adv 1 (pcN := 14) (LN := [(0, (4, 0)), (1, (0, x1)), (2, (0, x2))]) (stN := [(1, 5), (1, 0), (1, x2), (4, 0)]) (hsN := jpA_22) (c1 := 0) (s1 := 0) (c2 := 0) (s2 := 0) (by exact rfl) ?_ (by omega) (by omega)
  refine jT_fR [] 16 (y := 189) (pcN := 17) (dC := 0) (bc1 := 0) (bc2 := 0) (c1 := 0) (c2 := 0) (as := [(1, x2), (1, 0), (1, 5)]) (asC := [(1, x2), (1, 0), (1, 5)]) (LN := [(0, (4, 0)), (1, (0, x1)), (2, (0, x2))]) (stN := [(4, 0)]) (hsC := []) (v := (0, 0)) (st2 := [(0, 0), (4, 0)]) (jT_in_hi (d := 0) (v := x2) (lo := 0) (hi := 5) (by omega) (by omega) (by omega) (by omega) (by omega)) (by rfl) (by rfl) (by decide +kernel) (by rfl) (by rfl) (by omega) (by omega) (by omega) (by omega) rfl ?_
  refine jT_xifT (pcN := 24) jI_260_17 rfl (by decide +kernel) rfl ?_
  refine jT_xiconst (k := 0) (pcN := 25) jI_260_24 rfl ?_
  refine jT_fB [0, 1, 2, 3, 4, 5, 6, 7, 8, 9, 10, 11, 12, 13, 14, 15] 16 (y := 190) (pcN := 28) (dC := 1) (bc1 := 0) (bc2 := 0) (c1 := 0) (c2 := 0) (as := [(4, 0), (0, 0)]) (asC := [(4, 0), (0, 0)]) (LN := [(0, (4, 0)), (1, (0, x1)), (2, (0, x2))]) (stN := []) (hsC := jpA_22) (hsD := jpA_20) (v := (0, 1)) (st2 := [(0, 1)]) (hs2 := jpA_20) (jA_190_6 (d := 0)) (by rfl) (by rfl) (by decide +kernel) (by rfl) (by rfl) (by omega) (by omega) (by omega) (by omega) rfl (by decide +kernel) ?_
  refine jT_xifF (t := 35) (pcN := 31) jI_260_28 rfl (by decide +kernel) rfl rfl ?_
  refine jT_xiconst (k := 0) (pcN := 32) jI_260_31 rfl ?_
  refine jT_xgoto (pcN := 46) jI_260_32 rfl ?_
  exact jT_ret rfl (by decide) (by show 16 ≤ 16; decide) (by omega) (by omega) ⟨rfl, rfl, rfl⟩
theorem jA_137_762 {xs : List Int} {d : Nat} {x1 x2 : Int} (h_x1 : 8 ≤ x1 ∧ x1 ≤ 2147483647) (h_x2 : (-2147483648) ≤ x2 ∧ x2 ≤ 2147483647) : jT xs (d + 1) 137 12 0 [(0, (4, 0)), (1, (0, x1)), (2, (0, x2))] [] jpA_6 1 6 (fun k v hsN => k = 1 ∧ v = (0, 0) ∧ hsN = jpA_6 ++ []) := by
  refine jT_xaload_n (v := (4, 0)) (pcN := 1) jI_137_0 rfl rfl rfl ?_
  refine jT_xiload_n (v := (0, x1)) (pcN := 2) jI_137_1 rfl rfl rfl ?_
  refine jT_xbipush (k := 8) (pcN := 4) jI_137_2 (by decide) rfl ?_
  exact jT_fX [0] 12 (y := 115) (pcN := 7) (dC := 0) (bc1 := 1) (bc2 := 6) (as := [(4, 0), (0, x1), (0, 8)]) (asC := [(4, 0), (0, x1), (0, 8)]) (LN := [(0, (4, 0)), (1, (0, x1)), (2, (0, x2))]) (stN := []) (hsC := [jgh]) (e := 0) (jA_115_65 (d := 0) (by omega)) (by rfl) (by rfl) (by decide +kernel) (by rfl) (by rfl) (by omega) (by omega) (by omega) (by omega) ⟨rfl, ⟨rfl, rfl, rfl⟩⟩
theorem jA_344_763 {xs : List Int} {d : Nat} {x1 x2 : Int} (h_x1 : 8 ≤ x1 ∧ x1 ≤ 2147483647) (h_x2 : (-2147483648) ≤ x2 ∧ x2 ≤ 2147483647) : jT xs (d + 2) 344 13 0 [(0, (4, 0)), (1, (0, x1)), (2, (0, x2)), (3, (4, 1))] [] jpA_15 1 6 (fun k v hsN => k = 0 ∧ v = (0, 1) ∧ hsN = jpA_15 ++ []) := by
  refine jT_xaload_n (v := (4, 1)) (pcN := 1) jI_344_0 rfl rfl rfl ?_
  refine jT_xiconst (k := 0) (pcN := 2) jI_344_1 rfl ?_
  refine jT_xaload_n (v := (4, 0)) (pcN := 3) jI_344_2 rfl rfl rfl ?_
  refine jT_xiload_n (v := (0, x1)) (pcN := 4) jI_344_3 rfl rfl rfl ?_
  refine jT_xiload_n (v := (0, x2)) (pcN := 5) jI_344_4 rfl rfl rfl ?_
  exact jT_fX [0, 2, 3, 4, 5, 6, 7, 8, 9, 10, 11, 12] 13 (y := 137) (pcN := 8) (dC := 1) (bc1 := 1) (bc2 := 6) (as := [(4, 0), (0, x1), (0, x2)]) (asC := [(4, 0), (0, x1), (0, x2)]) (LN := [(0, (4, 0)), (1, (0, x1)), (2, (0, x2)), (3, (4, 1))]) (stN := [(0, 0), (4, 1)]) (hsC := jpA_6) (e := 0) (jA_137_762 (d := 0) (by omega) (by omega)) (by rfl) (by rfl) (by decide +kernel) (by rfl) (by rfl) (by omega) (by omega) (by omega) (by omega) (show _ from ⟨rfl, rfl, rfl⟩)
theorem jA_260_764 {xs : List Int} {d : Nat} {x1 x2 : Int} (h_x1 : 8 ≤ x1 ∧ x1 ≤ 2147483647) (h_x2 : (-2147483648) ≤ x2 ∧ x2 ≤ 2147483647) : jT xs (d + 2) 260 16 0 [(0, (4, 0)), (1, (0, x1)), (2, (0, x2))] [] jpA_22 0 0 (fun k v hsN => k = 0 ∧ v = (0, 0) ∧ hsN = jpA_20) := by
  refine jT_xaload_n (v := (4, 0)) (pcN := 1) jI_260_0 rfl rfl rfl ?_
  refine jT_xiload_n (v := (0, x1)) (pcN := 2) jI_260_1 rfl rfl rfl ?_
  refine jT_fR [] 16 (y := 188) (pcN := 5) (dC := 1) (bc1 := 0) (bc2 := 0) (c1 := 0) (c2 := 0) (as := [(0, x1)]) (asC := [(0, x1)]) (LN := [(0, (4, 0)), (1, (0, x1)), (2, (0, x2))]) (stN := [(4, 0)]) (hsC := []) (v := (0, 0)) (st2 := [(0, 0), (4, 0)]) (jA_188_68 (d := 0) (by omega)) (by rfl) (by rfl) (by decide +kernel) (by rfl) (by rfl) (by omega) (by omega) (by omega) (by omega) rfl ?_
  refine jT_xifT (pcN := 24) jI_260_5 rfl (by decide +kernel) rfl ?_
  refine jT_xiconst (k := 0) (pcN := 25) jI_260_24 rfl ?_
  refine jT_fB [0, 1, 2, 3, 4, 5, 6, 7, 8, 9, 10, 11, 12, 13, 14, 15] 16 (y := 190) (pcN := 28) (dC := 1) (bc1 := 0) (bc2 := 0) (c1 := 0) (c2 := 0) (as := [(4, 0), (0, 0)]) (asC := [(4, 0), (0, 0)]) (LN := [(0, (4, 0)), (1, (0, x1)), (2, (0, x2))]) (stN := []) (hsC := jpA_22) (hsD := jpA_20) (v := (0, 1)) (st2 := [(0, 1)]) (hs2 := jpA_20) (jA_190_6 (d := 0)) (by rfl) (by rfl) (by decide +kernel) (by rfl) (by rfl) (by omega) (by omega) (by omega) (by omega) rfl (by decide +kernel) ?_
  refine jT_xifF (t := 35) (pcN := 31) jI_260_28 rfl (by decide +kernel) rfl rfl ?_
  refine jT_xiconst (k := 0) (pcN := 32) jI_260_31 rfl ?_
  refine jT_xgoto (pcN := 46) jI_260_32 rfl ?_
  exact jT_ret rfl (by decide) (by show 16 ≤ 16; decide) (by omega) (by omega) ⟨rfl, rfl, rfl⟩
theorem jI_379_1671 : jmI (jm 379) 1671 = (.aload_n 1, 1) := by rfl
theorem jI_379_1672 : jmI (jm 379) 1672 = (.aload_n 0, 1) := by rfl
theorem jI_379_1673 : jmI (jm 379) 1673 = (.iload 5, 2) := by rfl
theorem jI_379_1675 : jmI (jm 379) 1675 = (.iconst 1, 1) := by rfl
theorem jI_379_1676 : jmI (jm 379) 1676 = (.iadd, 1) := by rfl
theorem jI_379_1678 : jmI (jm 379) 1678 = (.aload_n 0, 1) := by rfl
theorem jI_379_1679 : jmI (jm 379) 1679 = (.iload 5, 2) := by rfl
theorem jI_379_1681 : jmI (jm 379) 1681 = (.iconst 2, 1) := by rfl
theorem jI_379_1682 : jmI (jm 379) 1682 = (.iadd, 1) := by rfl
theorem jI_379_1684 : jmI (jm 379) 1684 = (.aload_n 3, 1) := by rfl
theorem jI_379_1688 : jmI (jm 379) 1688 = (.istore 6, 2) := by rfl
theorem jI_379_1690 : jmI (jm 379) 1690 = (.aload_n 2, 1) := by rfl
theorem jI_379_1691 : jmI (jm 379) 1691 = (.aload_n 0, 1) := by rfl
theorem jI_379_1692 : jmI (jm 379) 1692 = (.iload 5, 2) := by rfl
theorem jI_379_1694 : jmI (jm 379) 1694 = (.iconst 1, 1) := by rfl
theorem jI_379_1695 : jmI (jm 379) 1695 = (.iadd, 1) := by rfl
theorem jI_379_1697 : jmI (jm 379) 1697 = (.aload_n 0, 1) := by rfl
theorem jI_379_1698 : jmI (jm 379) 1698 = (.iload 5, 2) := by rfl
theorem jI_379_1700 : jmI (jm 379) 1700 = (.iconst 2, 1) := by rfl
theorem jI_379_1701 : jmI (jm 379) 1701 = (.iadd, 1) := by rfl
theorem jI_379_1706 : jmI (jm 379) 1706 = (.istore 7, 2) := by rfl
theorem jI_379_1708 : jmI (jm 379) 1708 = (.aload_n 2, 1) := by rfl
theorem jI_379_1712 : jmI (jm 379) 1712 = (.iload 6, 2) := by rfl
theorem jI_379_1714 : jmI (jm 379) 1714 = (.if_icmp .eq 5, 3) := by rfl
theorem jI_379_1719 : jmI (jm 379) 1719 = (.iload 6, 2) := by rfl
theorem jI_379_1721 : jmI (jm 379) 1721 = (.ifCond .ne 15, 3) := by rfl
theorem jI_379_1736 : jmI (jm 379) 1736 = (.goto 2004, 3) := by rfl
set_option maxRecDepth 100000 in
theorem jL_19_0 {d : Nat} {x0 x1 x2 x3 x4 : Int} (h_x0 : (-2147483648) ≤ x0 ∧ x0 ≤ 2147483647) (h_x1 : (-2147483648) ≤ x1 ∧ x1 ≤ (-1)) (h_x2 : (-2147483648) ≤ x2 ∧ x2 ≤ 2147483647) (h_x3 : (-2147483648) ≤ x3 ∧ x3 ≤ 2147483647) (h_x4 : (-2147483648) ≤ x4 ∧ x4 ≤ 2147483647) : jT [x0, x1, x2, x3, x4] (d + 3) 379 30 1671 [(5, (0, 0)), (4, (4, 3)), (3, (4, 2)), (2, (4, 1)), (1, (4, 0)), (0, (6, 0))] [] jpA_267 1 6 (fun k v hsN => k = 0 ∧ v = (0, 1)) := by
  refine jT_xaload_n (v := (4, 0)) (pcN := 1672) jI_379_1671 rfl rfl rfl ?_
  refine jT_xaload_n (v := (6, 0)) (pcN := 1673) jI_379_1672 rfl rfl rfl ?_
  refine jT_xiload (v := (0, 0)) (pcN := 1675) jI_379_1673 rfl rfl rfl ?_
  refine jT_xiconst (k := 1) (pcN := 1676) jI_379_1675 rfl ?_
  refine jT_xiadd (x := 0) (y := 1) (z := 1) (pcN := 1677) jI_379_1676 rfl (by decide) rfl ?_
  refine jT_adv 1 (pcN := 1678) (LN := [(5, (0, 0)), (4, (4, 3)), (3, (4, 2)), (2, (4, 1)), (1, (4, 0)), (0, (6, 0))]) (stN := [(0, x1), (4, 0)]) (hsN := jpA_267) (c1 := 0) (s1 := 0) (c2 := 1) (s2 := 6) (by exact rfl) ?_ (by omega) (by omega)
  refine jT_xaload_n (v := (6, 0)) (pcN := 1679) jI_379_1678 rfl rfl rfl ?_
  refine jT_xiload (v := (0, 0)) (pcN := 1681) jI_379_1679 rfl rfl rfl ?_
  refine jT_xiconst (k := 2) (pcN := 1682) jI_379_1681 rfl ?_
  refine jT_xiadd (x := 0) (y := 2) (z := 2) (pcN := 1683) jI_379_1682 rfl (by decide) rfl ?_
  refine jT_adv 1 (pcN := 1684) (LN := [(5, (0, 0)), (4, (4, 3)), (3, (4, 2)), (2, (4, 1)), (1, (4, 0)), (0, (6, 0))]) (stN := [(0, x2), (0, x1), (4, 0)]) (hsN := jpA_267) (c1 := 0) (s1 := 0) (c2 := 1) (s2 := 6) (by exact rfl) ?_ (by omega) (by omega)
  refine jT_xaload_n (v := (4, 2)) (pcN := 1685) jI_379_1684 rfl rfl rfl ?_
  refine jT_fR [0, 2, 4, 5, 6, 7, 8, 9, 10, 11, 12, 13, 14] 30 (y := 344) (pcN := 1688) (dC := 2) (bc1 := 1) (bc2 := 6) (c1 := 0) (c2 := 0) (as := [(4, 0), (0, x1), (0, x2), (4, 2)]) (asC := [(4, 0), (0, x1), (0, x2), (4, 1)]) (LN := [(5, (0, 0)), (4, (4, 3)), (3, (4, 2)), (2, (4, 1)), (1, (4, 0)), (0, (6, 0))]) (stN := []) (hsC := jpA_15) (v := (0, 1)) (st2 := [(0, 1)]) (jA_344_706 (d := 0) (by omega) (by omega)) (by rfl) (by rfl) (by decide +kernel) (by rfl) (by rfl) (by omega) (by omega) (by omega) (by omega) rfl ?_
  refine jT_xistore (v := (0, 1)) (LN := [(6, (0, 1)), (5, (0, 0)), (4, (4, 3)), (3, (4, 2)), (2, (4, 1)), (1, (4, 0)), (0, (6, 0))]) (pcN := 1690) jI_379_1688 rfl rfl rfl rfl ?_
  refine jT_xaload_n (v := (4, 1)) (pcN := 1691) jI_379_1690 rfl rfl rfl ?_
  refine jT_xaload_n (v := (6, 0)) (pcN := 1692) jI_379_1691 rfl rfl rfl ?_
  refine jT_xiload (v := (0, 0)) (pcN := 1694) jI_379_1692 rfl rfl rfl ?_
  refine jT_xiconst (k := 1) (pcN := 1695) jI_379_1694 rfl ?_
  refine jT_xiadd (x := 0) (y := 1) (z := 1) (pcN := 1696) jI_379_1695 rfl (by decide) rfl ?_
  refine jT_adv 1 (pcN := 1697) (LN := [(6, (0, 1)), (5, (0, 0)), (4, (4, 3)), (3, (4, 2)), (2, (4, 1)), (1, (4, 0)), (0, (6, 0))]) (stN := [(0, x1), (4, 1)]) (hsN := jpA_267) (c1 := 0) (s1 := 0) (c2 := 0) (s2 := 0) (by exact rfl) ?_ (by omega) (by omega)
  refine jT_xaload_n (v := (6, 0)) (pcN := 1698) jI_379_1697 rfl rfl rfl ?_
  refine jT_xiload (v := (0, 0)) (pcN := 1700) jI_379_1698 rfl rfl rfl ?_
  refine jT_xiconst (k := 2) (pcN := 1701) jI_379_1700 rfl ?_
  refine jT_xiadd (x := 0) (y := 2) (z := 2) (pcN := 1702) jI_379_1701 rfl (by decide) rfl ?_
  refine jT_adv 1 (pcN := 1703) (LN := [(6, (0, 1)), (5, (0, 0)), (4, (4, 3)), (3, (4, 2)), (2, (4, 1)), (1, (4, 0)), (0, (6, 0))]) (stN := [(0, x2), (0, x1), (4, 1)]) (hsN := jpA_267) (c1 := 0) (s1 := 0) (c2 := 0) (s2 := 0) (by exact rfl) ?_ (by omega) (by omega)
  refine jT_fB [1, 15, 16, 17, 18, 19, 20, 21, 22, 23, 24, 25, 26, 27, 28, 29] 30 (y := 260) (pcN := 1706) (dC := 2) (bc1 := 0) (bc2 := 0) (c1 := 0) (c2 := 0) (as := [(4, 1), (0, x1), (0, x2)]) (asC := [(4, 0), (0, x1), (0, x2)]) (LN := [(6, (0, 1)), (5, (0, 0)), (4, (4, 3)), (3, (4, 2)), (2, (4, 1)), (1, (4, 0)), (0, (6, 0))]) (stN := []) (hsC := jpA_22) (hsD := jpA_20) (v := (0, 0)) (st2 := [(0, 0)]) (hs2 := jpA_306) (jA_260_707 (d := 0) (by omega) (by omega)) (by rfl) (by rfl) (by decide +kernel) (by rfl) (by rfl) (by omega) (by omega) (by omega) (by omega) rfl (by decide +kernel) ?_
  refine jT_xistore (v := (0, 0)) (LN := [(7, (0, 0)), (6, (0, 1)), (5, (0, 0)), (4, (4, 3)), (3, (4, 2)), (2, (4, 1)), (1, (4, 0)), (0, (6, 0))]) (pcN := 1708) jI_379_1706 rfl rfl rfl rfl ?_
  refine jT_xaload_n (v := (4, 1)) (pcN := 1709) jI_379_1708 rfl rfl rfl ?_
  refine jT_fR [1, 15, 16, 17, 18, 19, 20, 21, 22, 23, 24, 25, 26, 27, 28, 29] 30 (y := 186) (pcN := 1712) (dC := 0) (bc1 := 0) (bc2 := 0) (c1 := 0) (c2 := 0) (as := [(4, 1)]) (asC := [(4, 0)]) (LN := [(7, (0, 0)), (6, (0, 1)), (5, (0, 0)), (4, (4, 3)), (3, (4, 2)), (2, (4, 1)), (1, (4, 0)), (0, (6, 0))]) (stN := []) (hsC := jpA_20) (v := (0, 1)) (st2 := [(0, 1)]) (jA_186_8 (d := 0)) (by rfl) (by rfl) (by decide +kernel) (by rfl) (by rfl) (by omega) (by omega) (by omega) (by omega) rfl ?_
  refine jT_xiload (v := (0, 1)) (pcN := 1714) jI_379_1712 rfl rfl rfl ?_
  refine jT_xicT (pcN := 1719) jI_379_1714 rfl (by decide +kernel) rfl ?_
  refine jT_xiload (v := (0, 1)) (pcN := 1721) jI_379_1719 rfl rfl rfl ?_
  refine jT_xifT (pcN := 1736) jI_379_1721 rfl (by decide +kernel) rfl ?_
  refine jT_xgoto (pcN := 3740) jI_379_1736 rfl ?_
  refine jT_xiinc (x := 0) (z := 5) (LN := [(5, (0, 5)), (7, (0, 0)), (6, (0, 1)), (4, (4, 3)), (3, (4, 2)), (2, (4, 1)), (1, (4, 0)), (0, (6, 0))]) (pcN := 3743) jI_379_3740 rfl rfl (by decide) rfl rfl ?_
  refine jT_xgoto (pcN := 28) jI_379_3743 rfl ?_
  refine jT_xiload (v := (0, 5)) (pcN := 30) jI_379_28 rfl rfl rfl ?_
  refine jT_xaload_n (v := (6, 0)) (pcN := 31) jI_379_30 rfl rfl rfl ?_
  refine jT_adv 1 (pcN := 32) (LN := [(5, (0, 5)), (7, (0, 0)), (6, (0, 1)), (4, (4, 3)), (3, (4, 2)), (2, (4, 1)), (1, (4, 0)), (0, (6, 0))]) (stN := [(0, 5), (0, 5)]) (hsN := jpA_306) (c1 := 0) (s1 := 0) (c2 := 0) (s2 := 0) (by exact rfl) ?_ (by omega) (by omega)
  refine jT_xiconst (k := 5) (pcN := 33) jI_379_32 rfl ?_
  refine jT_xisub (x := 5) (y := 5) (z := 0) (pcN := 34) jI_379_33 rfl (by decide) rfl ?_
  refine jT_xicT (pcN := 3746) jI_379_34 rfl (by decide +kernel) rfl ?_
  refine jT_xiconst (k := 1) (pcN := 3747) jI_379_3746 rfl ?_
  exact jT_ret rfl (by decide) (by show 30 ≤ 30; decide) (by omega) (by omega) ⟨rfl, rfl⟩
set_option maxRecDepth 100000 in
theorem jL_19_1 {d : Nat} {x0 x1 x2 x3 x4 : Int} (h_x0 : (-2147483648) ≤ x0 ∧ x0 ≤ 2147483647) (h_x1 : 0 ≤ x1 ∧ x1 ≤ 7) (h_x2 : (-2147483648) ≤ x2 ∧ x2 ≤ (-1)) (h_x3 : (-2147483648) ≤ x3 ∧ x3 ≤ 2147483647) (h_x4 : (-2147483648) ≤ x4 ∧ x4 ≤ 2147483647) : jT [x0, x1, x2, x3, x4] (d + 3) 379 30 1671 [(5, (0, 0)), (4, (4, 3)), (3, (4, 2)), (2, (4, 1)), (1, (4, 0)), (0, (6, 0))] [] jpA_267 1 6 (fun k v hsN => k = 0 ∧ v = (0, 1)) := by
  refine jT_xaload_n (v := (4, 0)) (pcN := 1672) jI_379_1671 rfl rfl rfl ?_
  refine jT_xaload_n (v := (6, 0)) (pcN := 1673) jI_379_1672 rfl rfl rfl ?_
  refine jT_xiload (v := (0, 0)) (pcN := 1675) jI_379_1673 rfl rfl rfl ?_
  refine jT_xiconst (k := 1) (pcN := 1676) jI_379_1675 rfl ?_
  refine jT_xiadd (x := 0) (y := 1) (z := 1) (pcN := 1677) jI_379_1676 rfl (by decide) rfl ?_
  refine jT_adv 1 (pcN := 1678) (LN := [(5, (0, 0)), (4, (4, 3)), (3, (4, 2)), (2, (4, 1)), (1, (4, 0)), (0, (6, 0))]) (stN := [(0, x1), (4, 0)]) (hsN := jpA_267) (c1 := 0) (s1 := 0) (c2 := 1) (s2 := 6) (by exact rfl) ?_ (by omega) (by omega)
  refine jT_xaload_n (v := (6, 0)) (pcN := 1679) jI_379_1678 rfl rfl rfl ?_
  refine jT_xiload (v := (0, 0)) (pcN := 1681) jI_379_1679 rfl rfl rfl ?_
  refine jT_xiconst (k := 2) (pcN := 1682) jI_379_1681 rfl ?_
  refine jT_xiadd (x := 0) (y := 2) (z := 2) (pcN := 1683) jI_379_1682 rfl (by decide) rfl ?_
  refine jT_adv 1 (pcN := 1684) (LN := [(5, (0, 0)), (4, (4, 3)), (3, (4, 2)), (2, (4, 1)), (1, (4, 0)), (0, (6, 0))]) (stN := [(0, x2), (0, x1), (4, 0)]) (hsN := jpA_267) (c1 := 0) (s1 := 0) (c2 := 1) (s2 := 6) (by exact rfl) ?_ (by omega) (by omega)
  refine jT_xaload_n (v := (4, 2)) (pcN := 1685) jI_379_1684 rfl rfl rfl ?_
  refine jT_fR [0, 2, 4, 5, 6, 7, 8, 9, 10, 11, 12, 13, 14] 30 (y := 344) (pcN := 1688) (dC := 2) (bc1 := 1) (bc2 := 6) (c1 := 0) (c2 := 0) (as := [(4, 0), (0, x1), (0, x2), (4, 2)]) (asC := [(4, 0), (0, x1), (0, x2), (4, 1)]) (LN := [(5, (0, 0)), (4, (4, 3)), (3, (4, 2)), (2, (4, 1)), (1, (4, 0)), (0, (6, 0))]) (stN := []) (hsC := jpA_15) (v := (0, 1)) (st2 := [(0, 1)]) (jA_344_710 (d := 0) (by omega) (by omega)) (by rfl) (by rfl) (by decide +kernel) (by rfl) (by rfl) (by omega) (by omega) (by omega) (by omega) rfl ?_
  refine jT_xistore (v := (0, 1)) (LN := [(6, (0, 1)), (5, (0, 0)), (4, (4, 3)), (3, (4, 2)), (2, (4, 1)), (1, (4, 0)), (0, (6, 0))]) (pcN := 1690) jI_379_1688 rfl rfl rfl rfl ?_
  refine jT_xaload_n (v := (4, 1)) (pcN := 1691) jI_379_1690 rfl rfl rfl ?_
  refine jT_xaload_n (v := (6, 0)) (pcN := 1692) jI_379_1691 rfl rfl rfl ?_
  refine jT_xiload (v := (0, 0)) (pcN := 1694) jI_379_1692 rfl rfl rfl ?_
  refine jT_xiconst (k := 1) (pcN := 1695) jI_379_1694 rfl ?_
  refine jT_xiadd (x := 0) (y := 1) (z := 1) (pcN := 1696) jI_379_1695 rfl (by decide) rfl ?_
  refine jT_adv 1 (pcN := 1697) (LN := [(6, (0, 1)), (5, (0, 0)), (4, (4, 3)), (3, (4, 2)), (2, (4, 1)), (1, (4, 0)), (0, (6, 0))]) (stN := [(0, x1), (4, 1)]) (hsN := jpA_267) (c1 := 0) (s1 := 0) (c2 := 0) (s2 := 0) (by exact rfl) ?_ (by omega) (by omega)
  refine jT_xaload_n (v := (6, 0)) (pcN := 1698) jI_379_1697 rfl rfl rfl ?_
  refine jT_xiload (v := (0, 0)) (pcN := 1700) jI_379_1698 rfl rfl rfl ?_
  refine jT_xiconst (k := 2) (pcN := 1701) jI_379_1700 rfl ?_
  refine jT_xiadd (x := 0) (y := 2) (z := 2) (pcN := 1702) jI_379_1701 rfl (by decide) rfl ?_
  refine jT_adv 1 (pcN := 1703) (LN := [(6, (0, 1)), (5, (0, 0)), (4, (4, 3)), (3, (4, 2)), (2, (4, 1)), (1, (4, 0)), (0, (6, 0))]) (stN := [(0, x2), (0, x1), (4, 1)]) (hsN := jpA_267) (c1 := 0) (s1 := 0) (c2 := 0) (s2 := 0) (by exact rfl) ?_ (by omega) (by omega)
  refine jT_fB [1, 15, 16, 17, 18, 19, 20, 21, 22, 23, 24, 25, 26, 27, 28, 29] 30 (y := 260) (pcN := 1706) (dC := 2) (bc1 := 0) (bc2 := 0) (c1 := 0) (c2 := 0) (as := [(4, 1), (0, x1), (0, x2)]) (asC := [(4, 0), (0, x1), (0, x2)]) (LN := [(6, (0, 1)), (5, (0, 0)), (4, (4, 3)), (3, (4, 2)), (2, (4, 1)), (1, (4, 0)), (0, (6, 0))]) (stN := []) (hsC := jpA_22) (hsD := jpA_20) (v := (0, 0)) (st2 := [(0, 0)]) (hs2 := jpA_306) (jA_260_711 (d := 0) (by omega) (by omega)) (by rfl) (by rfl) (by decide +kernel) (by rfl) (by rfl) (by omega) (by omega) (by omega) (by omega) rfl (by decide +kernel) ?_
  refine jT_xistore (v := (0, 0)) (LN := [(7, (0, 0)), (6, (0, 1)), (5, (0, 0)), (4, (4, 3)), (3, (4, 2)), (2, (4, 1)), (1, (4, 0)), (0, (6, 0))]) (pcN := 1708) jI_379_1706 rfl rfl rfl rfl ?_
  refine jT_xaload_n (v := (4, 1)) (pcN := 1709) jI_379_1708 rfl rfl rfl ?_
  refine jT_fR [1, 15, 16, 17, 18, 19, 20, 21, 22, 23, 24, 25, 26, 27, 28, 29] 30 (y := 186) (pcN := 1712) (dC := 0) (bc1 := 0) (bc2 := 0) (c1 := 0) (c2 := 0) (as := [(4, 1)]) (asC := [(4, 0)]) (LN := [(7, (0, 0)), (6, (0, 1)), (5, (0, 0)), (4, (4, 3)), (3, (4, 2)), (2, (4, 1)), (1, (4, 0)), (0, (6, 0))]) (stN := []) (hsC := jpA_20) (v := (0, 1)) (st2 := [(0, 1)]) (jA_186_8 (d := 0)) (by rfl) (by rfl) (by decide +kernel) (by rfl) (by rfl) (by omega) (by omega) (by omega) (by omega) rfl ?_
  refine jT_xiload (v := (0, 1)) (pcN := 1714) jI_379_1712 rfl rfl rfl ?_
  refine jT_xicT (pcN := 1719) jI_379_1714 rfl (by decide +kernel) rfl ?_
  refine jT_xiload (v := (0, 1)) (pcN := 1721) jI_379_1719 rfl rfl rfl ?_
  refine jT_xifT (pcN := 1736) jI_379_1721 rfl (by decide +kernel) rfl ?_
  refine jT_xgoto (pcN := 3740) jI_379_1736 rfl ?_
  refine jT_xiinc (x := 0) (z := 5) (LN := [(5, (0, 5)), (7, (0, 0)), (6, (0, 1)), (4, (4, 3)), (3, (4, 2)), (2, (4, 1)), (1, (4, 0)), (0, (6, 0))]) (pcN := 3743) jI_379_3740 rfl rfl (by decide) rfl rfl ?_
  refine jT_xgoto (pcN := 28) jI_379_3743 rfl ?_
  refine jT_xiload (v := (0, 5)) (pcN := 30) jI_379_28 rfl rfl rfl ?_
  refine jT_xaload_n (v := (6, 0)) (pcN := 31) jI_379_30 rfl rfl rfl ?_
  refine jT_adv 1 (pcN := 32) (LN := [(5, (0, 5)), (7, (0, 0)), (6, (0, 1)), (4, (4, 3)), (3, (4, 2)), (2, (4, 1)), (1, (4, 0)), (0, (6, 0))]) (stN := [(0, 5), (0, 5)]) (hsN := jpA_306) (c1 := 0) (s1 := 0) (c2 := 0) (s2 := 0) (by exact rfl) ?_ (by omega) (by omega)
  refine jT_xiconst (k := 5) (pcN := 33) jI_379_32 rfl ?_
  refine jT_xisub (x := 5) (y := 5) (z := 0) (pcN := 34) jI_379_33 rfl (by decide) rfl ?_
  refine jT_xicT (pcN := 3746) jI_379_34 rfl (by decide +kernel) rfl ?_
  refine jT_xiconst (k := 1) (pcN := 3747) jI_379_3746 rfl ?_
  exact jT_ret rfl (by decide) (by show 30 ≤ 30; decide) (by omega) (by omega) ⟨rfl, rfl⟩
def jpA_2886 : List JC := [jzA_265, jzA_266, (101, [], [0]), jgh, jgh, jgh, jgh, jgh, jgh, jgh, jgh, jgh, jgh, jgh, jzA_322, (100, [], jS0), jgh, jgh, jgh, jgh, jgh, jgh, jgh, jgh, jgh, jgh, jgh, jgh, jgh, jgh, jzA_2127, jgh, jgh, jgh, jgh, (4, [(4, 36), (1, 1)], []), (101, [], [0, 0, 0, 0, 0, 0])]
theorem jI_379_1724 : jmI (jm 379) 1724 = (.aload_n 3, 1) := by rfl
theorem jI_379_1725 : jmI (jm 379) 1725 = (.iconst 0, 1) := by rfl
theorem jI_379_1726 : jmI (jm 379) 1726 = (.laload, 1) := by rfl
theorem jI_379_1727 : jmI (jm 379) 1727 = (.iload 7, 2) := by rfl
theorem jI_379_1729 : jmI (jm 379) 1729 = (.i2l, 1) := by rfl
theorem jI_379_1731 : jmI (jm 379) 1731 = (.ifCond .eq 5, 3) := by rfl
set_option maxRecDepth 100000 in
theorem jL_19_2 {d : Nat} {x0 x1 x2 x3 x4 : Int} (h_x0 : (-2147483648) ≤ x0 ∧ x0 ≤ 2147483647) (h_x1 : 0 ≤ x1 ∧ x1 ≤ 7) (h_x2 : 0 ≤ x2 ∧ x2 ≤ 0) (h_x3 : (-2147483648) ≤ x3 ∧ x3 ≤ 2147483647) (h_x4 : (-2147483648) ≤ x4 ∧ x4 ≤ 2147483647) : jT [x0, x1, x2, x3, x4] (d + 3) 379 37 1671 [(5, (0, 0)), (4, (4, 3)), (3, (4, 2)), (2, (4, 1)), (1, (4, 0)), (0, (6, 0))] [] jpA_2886 0 0 (fun k v hsN => k = 0 ∧ v = (0, 1)) := by
  refine jT_xaload_n (v := (4, 0)) (pcN := 1672) jI_379_1671 rfl rfl rfl ?_
  refine jT_xaload_n (v := (6, 0)) (pcN := 1673) jI_379_1672 rfl rfl rfl ?_
  refine jT_xiload (v := (0, 0)) (pcN := 1675) jI_379_1673 rfl rfl rfl ?_
  refine jT_xiconst (k := 1) (pcN := 1676) jI_379_1675 rfl ?_
  refine jT_xiadd (x := 0) (y := 1) (z := 1) (pcN := 1677) jI_379_1676 rfl (by decide) rfl ?_
  refine jT_adv 1 (pcN := 1678) (LN := [(5, (0, 0)), (4, (4, 3)), (3, (4, 2)), (2, (4, 1)), (1, (4, 0)), (0, (6, 0))]) (stN := [(0, x1), (4, 0)]) (hsN := jpA_2886) (c1 := 0) (s1 := 0) (c2 := 0) (s2 := 0) (by exact rfl) ?_ (by omega) (by omega)
  refine jT_xaload_n (v := (6, 0)) (pcN := 1679) jI_379_1678 rfl rfl rfl ?_
  refine jT_xiload (v := (0, 0)) (pcN := 1681) jI_379_1679 rfl rfl rfl ?_
  refine jT_xiconst (k := 2) (pcN := 1682) jI_379_1681 rfl ?_
  refine jT_xiadd (x := 0) (y := 2) (z := 2) (pcN := 1683) jI_379_1682 rfl (by decide) rfl ?_
  refine jT_adv 1 (pcN := 1684) (LN := [(5, (0, 0)), (4, (4, 3)), (3, (4, 2)), (2, (4, 1)), (1, (4, 0)), (0, (6, 0))]) (stN := [(0, x2), (0, x1), (4, 0)]) (hsN := jpA_2886) (c1 := 0) (s1 := 0) (c2 := 0) (s2 := 0) (by exact rfl) ?_ (by omega) (by omega)
  refine jT_eq (LN := [(5, (0, 0)), (4, (4, 3)), (3, (4, 2)), (2, (4, 1)), (1, (4, 0)), (0, (6, 0))]) (stN := [(0, 0), (0, x1), (4, 0)]) (hsN := [jzA_265, jzA_266, (101, [], [0]), jgh, jgh, jgh, jgh, jgh, jgh, jgh, jgh, jgh, jgh, jgh, jzA_322, (100, [], jS0), jgh, jgh, jgh, jgh, jgh, jgh, jgh, jgh, jgh, jgh, jgh, jgh, jgh, jgh, jzA_2127, jgh, jgh, jgh, jgh, (4, [(4, 36), (1, 1)], []), (101, [], [0, 0, 0, 0, 0, 0])]) (rfl) (by simp only [List.cons.injEq, Prod.mk.injEq, and_true, true_and] <;> ((try unfold jw); (try unfold jwl); omega)) (rfl) ?_
  refine jT_xaload_n (v := (4, 2)) (pcN := 1685) jI_379_1684 rfl rfl rfl ?_
  refine jT_fR [0, 2, 4, 5, 6, 7, 8, 9, 10, 11, 12, 13, 14, 30, 31, 32, 33, 34, 35, 36] 37 (y := 344) (pcN := 1688) (dC := 2) (bc1 := 0) (bc2 := 0) (c1 := 0) (c2 := 0) (as := [(4, 0), (0, x1), (0, 0), (4, 2)]) (asC := [(4, 0), (0, x1), (0, 0), (4, 1)]) (LN := [(5, (0, 0)), (4, (4, 3)), (3, (4, 2)), (2, (4, 1)), (1, (4, 0)), (0, (6, 0))]) (stN := []) (hsC := jpA_2846) (v := (0, 0)) (st2 := [(0, 0)]) (jA_344_723 (d := 0) (by omega)) (by rfl) (by rfl) (by decide +kernel) (by rfl) (by rfl) (by omega) (by omega) (by omega) (by omega) rfl ?_
  refine jT_xistore (v := (0, 0)) (LN := [(6, (0, 0)), (5, (0, 0)), (4, (4, 3)), (3, (4, 2)), (2, (4, 1)), (1, (4, 0)), (0, (6, 0))]) (pcN := 1690) jI_379_1688 rfl rfl rfl rfl ?_
  refine jT_xaload_n (v := (4, 1)) (pcN := 1691) jI_379_1690 rfl rfl rfl ?_
  refine jT_xaload_n (v := (6, 0)) (pcN := 1692) jI_379_1691 rfl rfl rfl ?_
  refine jT_xiload (v := (0, 0)) (pcN := 1694) jI_379_1692 rfl rfl rfl ?_
  refine jT_xiconst (k := 1) (pcN := 1695) jI_379_1694 rfl ?_
  refine jT_xiadd (x := 0) (y := 1) (z := 1) (pcN := 1696) jI_379_1695 rfl (by decide) rfl ?_
  refine jT_adv 1 (pcN := 1697) (LN := [(6, (0, 0)), (5, (0, 0)), (4, (4, 3)), (3, (4, 2)), (2, (4, 1)), (1, (4, 0)), (0, (6, 0))]) (stN := [(0, x1), (4, 1)]) (hsN := jpA_2886) (c1 := 0) (s1 := 0) (c2 := 0) (s2 := 0) (by exact rfl) ?_ (by omega) (by omega)
  refine jT_xaload_n (v := (6, 0)) (pcN := 1698) jI_379_1697 rfl rfl rfl ?_
  refine jT_xiload (v := (0, 0)) (pcN := 1700) jI_379_1698 rfl rfl rfl ?_
  refine jT_xiconst (k := 2) (pcN := 1701) jI_379_1700 rfl ?_
  refine jT_xiadd (x := 0) (y := 2) (z := 2) (pcN := 1702) jI_379_1701 rfl (by decide) rfl ?_
  refine jT_adv 1 (pcN := 1703) (LN := [(6, (0, 0)), (5, (0, 0)), (4, (4, 3)), (3, (4, 2)), (2, (4, 1)), (1, (4, 0)), (0, (6, 0))]) (stN := [(0, x2), (0, x1), (4, 1)]) (hsN := jpA_2886) (c1 := 0) (s1 := 0) (c2 := 0) (s2 := 0) (by exact rfl) ?_ (by omega) (by omega)
  refine jT_eq (LN := [(6, (0, 0)), (5, (0, 0)), (4, (4, 3)), (3, (4, 2)), (2, (4, 1)), (1, (4, 0)), (0, (6, 0))]) (stN := [(0, 0), (0, x1), (4, 1)]) (hsN := [jzA_265, jzA_266, (101, [], [0]), jgh, jgh, jgh, jgh, jgh, jgh, jgh, jgh, jgh, jgh, jgh, jzA_322, (100, [], jS0), jgh, jgh, jgh, jgh, jgh, jgh, jgh, jgh, jgh, jgh, jgh, jgh, jgh, jgh, jzA_2127, jgh, jgh, jgh, jgh, (4, [(4, 36), (1, 1)], []), (101, [], [0, 0, 0, 0, 0, 0])]) (rfl) (by simp only [List.cons.injEq, Prod.mk.injEq, and_true, true_and] <;> ((try unfold jw); (try unfold jwl); omega)) (rfl) ?_
  refine jT_fR [1, 15, 16, 17, 18, 19, 20, 21, 22, 23, 24, 25, 26, 27, 28, 29] 37 (y := 260) (pcN := 1706) (dC := 2) (bc1 := 0) (bc2 := 0) (c1 := 0) (c2 := 0) (as := [(4, 1), (0, x1), (0, 0)]) (asC := [(4, 0), (0, x1), (0, 0)]) (LN := [(6, (0, 0)), (5, (0, 0)), (4, (4, 3)), (3, (4, 2)), (2, (4, 1)), (1, (4, 0)), (0, (6, 0))]) (stN := []) (hsC := jpA_1519) (v := (0, 0)) (st2 := [(0, 0)]) (jA_260_725 (d := 0) (by omega)) (by rfl) (by rfl) (by decide +kernel) (by rfl) (by rfl) (by omega) (by omega) (by omega) (by omega) rfl ?_
  refine jT_xistore (v := (0, 0)) (LN := [(7, (0, 0)), (6, (0, 0)), (5, (0, 0)), (4, (4, 3)), (3, (4, 2)), (2, (4, 1)), (1, (4, 0)), (0, (6, 0))]) (pcN := 1708) jI_379_1706 rfl rfl rfl rfl ?_
  refine jT_xaload_n (v := (4, 1)) (pcN := 1709) jI_379_1708 rfl rfl rfl ?_
  refine jT_fR [1, 15, 16, 17, 18, 19, 20, 21, 22, 23, 24, 25, 26, 27, 28, 29] 37 (y := 186) (pcN := 1712) (dC := 0) (bc1 := 0) (bc2 := 0) (c1 := 0) (c2 := 0) (as := [(4, 1)]) (asC := [(4, 0)]) (LN := [(7, (0, 0)), (6, (0, 0)), (5, (0, 0)), (4, (4, 3)), (3, (4, 2)), (2, (4, 1)), (1, (4, 0)), (0, (6, 0))]) (stN := []) (hsC := jpA_22) (v := (0, 0)) (st2 := [(0, 0)]) (jA_186_726 (d := 0)) (by rfl) (by rfl) (by decide +kernel) (by rfl) (by rfl) (by omega) (by omega) (by omega) (by omega) rfl ?_
  refine jT_xiload (v := (0, 0)) (pcN := 1714) jI_379_1712 rfl rfl rfl ?_
  refine jT_xicT (pcN := 1719) jI_379_1714 rfl (by decide +kernel) rfl ?_
  refine jT_xiload (v := (0, 0)) (pcN := 1721) jI_379_1719 rfl rfl rfl ?_
  refine jT_xifF (t := 1736) (pcN := 1724) jI_379_1721 rfl (by decide +kernel) rfl rfl ?_
  refine jT_xaload_n (v := (4, 2)) (pcN := 1725) jI_379_1724 rfl rfl rfl ?_
  refine jT_xiconst (k := 0) (pcN := 1726) jI_379_1725 rfl ?_
  refine jT_lald (x := 0) (a := 2) (j := 0) (fs := []) (X := [0]) jI_379_1726 rfl rfl rfl rfl ?_
  refine jT_eq (LN := [(7, (0, 0)), (6, (0, 0)), (5, (0, 0)), (4, (4, 3)), (3, (4, 2)), (2, (4, 1)), (1, (4, 0)), (0, (6, 0))]) (stN := [(1, 0)]) (hsN := jpA_2886) rfl rfl rfl ?_
  refine jT_xiload (v := (0, 0)) (pcN := 1729) jI_379_1727 rfl rfl rfl ?_
  refine jT_xi2l (x := 0) (z := 0) (pcN := 1730) jI_379_1729 rfl (by decide +kernel) rfl ?_
  refine jT_lcmp (a := 0) (b := 0) (z := 0) (by rfl) (by rfl) (by decide +kernel) (by decide +kernel) (by decide) ?_
  refine jT_xifT (pcN := 1736) jI_379_1731 rfl (by decide +kernel) rfl ?_
  refine jT_xgoto (pcN := 3740) jI_379_1736 rfl ?_
  refine jT_xiinc (x := 0) (z := 5) (LN := [(5, (0, 5)), (7, (0, 0)), (6, (0, 0)), (4, (4, 3)), (3, (4, 2)), (2, (4, 1)), (1, (4, 0)), (0, (6, 0))]) (pcN := 3743) jI_379_3740 rfl rfl (by decide) rfl rfl ?_
  refine jT_xgoto (pcN := 28) jI_379_3743 rfl ?_
  refine jT_xiload (v := (0, 5)) (pcN := 30) jI_379_28 rfl rfl rfl ?_
  refine jT_xaload_n (v := (6, 0)) (pcN := 31) jI_379_30 rfl rfl rfl ?_
  refine jT_adv 1 (pcN := 32) (LN := [(5, (0, 5)), (7, (0, 0)), (6, (0, 0)), (4, (4, 3)), (3, (4, 2)), (2, (4, 1)), (1, (4, 0)), (0, (6, 0))]) (stN := [(0, 5), (0, 5)]) (hsN := jpA_2886) (c1 := 0) (s1 := 0) (c2 := 0) (s2 := 0) (by exact rfl) ?_ (by omega) (by omega)
  refine jT_xiconst (k := 5) (pcN := 33) jI_379_32 rfl ?_
  refine jT_xisub (x := 5) (y := 5) (z := 0) (pcN := 34) jI_379_33 rfl (by decide) rfl ?_
  refine jT_xicT (pcN := 3746) jI_379_34 rfl (by decide +kernel) rfl ?_
  refine jT_xiconst (k := 1) (pcN := 3747) jI_379_3746 rfl ?_
  exact jT_ret rfl (by decide) (by show 37 ≤ 37; decide) (by omega) (by omega) ⟨rfl, rfl⟩
set_option maxRecDepth 100000 in
theorem jL_19_3 {d : Nat} {x0 x1 x2 x3 x4 : Int} (h_x0 : (-2147483648) ≤ x0 ∧ x0 ≤ 2147483647) (h_x1 : 0 ≤ x1 ∧ x1 ≤ 7) (h_x2 : 1 ≤ x2 ∧ x2 ≤ 1) (h_x3 : (-2147483648) ≤ x3 ∧ x3 ≤ 2147483647) (h_x4 : (-2147483648) ≤ x4 ∧ x4 ≤ 2147483647) : jT [x0, x1, x2, x3, x4] (d + 3) 379 37 1671 [(5, (0, 0)), (4, (4, 3)), (3, (4, 2)), (2, (4, 1)), (1, (4, 0)), (0, (6, 0))] [] jpA_2886 0 0 (fun k v hsN => k = 0 ∧ v = (0, 1)) := by
  refine jT_xaload_n (v := (4, 0)) (pcN := 1672) jI_379_1671 rfl rfl rfl ?_
  refine jT_xaload_n (v := (6, 0)) (pcN := 1673) jI_379_1672 rfl rfl rfl ?_
  refine jT_xiload (v := (0, 0)) (pcN := 1675) jI_379_1673 rfl rfl rfl ?_
  refine jT_xiconst (k := 1) (pcN := 1676) jI_379_1675 rfl ?_
  refine jT_xiadd (x := 0) (y := 1) (z := 1) (pcN := 1677) jI_379_1676 rfl (by decide) rfl ?_
  refine jT_adv 1 (pcN := 1678) (LN := [(5, (0, 0)), (4, (4, 3)), (3, (4, 2)), (2, (4, 1)), (1, (4, 0)), (0, (6, 0))]) (stN := [(0, x1), (4, 0)]) (hsN := jpA_2886) (c1 := 0) (s1 := 0) (c2 := 0) (s2 := 0) (by exact rfl) ?_ (by omega) (by omega)
  refine jT_xaload_n (v := (6, 0)) (pcN := 1679) jI_379_1678 rfl rfl rfl ?_
  refine jT_xiload (v := (0, 0)) (pcN := 1681) jI_379_1679 rfl rfl rfl ?_
  refine jT_xiconst (k := 2) (pcN := 1682) jI_379_1681 rfl ?_
  refine jT_xiadd (x := 0) (y := 2) (z := 2) (pcN := 1683) jI_379_1682 rfl (by decide) rfl ?_
  refine jT_adv 1 (pcN := 1684) (LN := [(5, (0, 0)), (4, (4, 3)), (3, (4, 2)), (2, (4, 1)), (1, (4, 0)), (0, (6, 0))]) (stN := [(0, x2), (0, x1), (4, 0)]) (hsN := jpA_2886) (c1 := 0) (s1 := 0) (c2 := 0) (s2 := 0) (by exact rfl) ?_ (by omega) (by omega)
  refine jT_eq (LN := [(5, (0, 0)), (4, (4, 3)), (3, (4, 2)), (2, (4, 1)), (1, (4, 0)), (0, (6, 0))]) (stN := [(0, 1), (0, x1), (4, 0)]) (hsN := [jzA_265, jzA_266, (101, [], [0]), jgh, jgh, jgh, jgh, jgh, jgh, jgh, jgh, jgh, jgh, jgh, jzA_322, (100, [], jS0), jgh, jgh, jgh, jgh, jgh, jgh, jgh, jgh, jgh, jgh, jgh, jgh, jgh, jgh, jzA_2127, jgh, jgh, jgh, jgh, (4, [(4, 36), (1, 1)], []), (101, [], [0, 0, 0, 0, 0, 0])]) (rfl) (by simp only [List.cons.injEq, Prod.mk.injEq, and_true, true_and] <;> ((try unfold jw); (try unfold jwl); omega)) (rfl) ?_
  refine jT_xaload_n (v := (4, 2)) (pcN := 1685) jI_379_1684 rfl rfl rfl ?_
  refine jT_fR [0, 2, 4, 5, 6, 7, 8, 9, 10, 11, 12, 13, 14, 30, 31, 32, 33, 34, 35, 36] 37 (y := 344) (pcN := 1688) (dC := 2) (bc1 := 0) (bc2 := 0) (c1 := 0) (c2 := 0) (as := [(4, 0), (0, x1), (0, 1), (4, 2)]) (asC := [(4, 0), (0, x1), (0, 1), (4, 1)]) (LN := [(5, (0, 0)), (4, (4, 3)), (3, (4, 2)), (2, (4, 1)), (1, (4, 0)), (0, (6, 0))]) (stN := []) (hsC := jpA_2846) (v := (0, 0)) (st2 := [(0, 0)]) (jA_344_729 (d := 0) (by omega)) (by rfl) (by rfl) (by decide +kernel) (by rfl) (by rfl) (by omega) (by omega) (by omega) (by omega) rfl ?_
  refine jT_xistore (v := (0, 0)) (LN := [(6, (0, 0)), (5, (0, 0)), (4, (4, 3)), (3, (4, 2)), (2, (4, 1)), (1, (4, 0)), (0, (6, 0))]) (pcN := 1690) jI_379_1688 rfl rfl rfl rfl ?_
  refine jT_xaload_n (v := (4, 1)) (pcN := 1691) jI_379_1690 rfl rfl rfl ?_
  refine jT_xaload_n (v := (6, 0)) (pcN := 1692) jI_379_1691 rfl rfl rfl ?_
  refine jT_xiload (v := (0, 0)) (pcN := 1694) jI_379_1692 rfl rfl rfl ?_
  refine jT_xiconst (k := 1) (pcN := 1695) jI_379_1694 rfl ?_
  refine jT_xiadd (x := 0) (y := 1) (z := 1) (pcN := 1696) jI_379_1695 rfl (by decide) rfl ?_
  refine jT_adv 1 (pcN := 1697) (LN := [(6, (0, 0)), (5, (0, 0)), (4, (4, 3)), (3, (4, 2)), (2, (4, 1)), (1, (4, 0)), (0, (6, 0))]) (stN := [(0, x1), (4, 1)]) (hsN := jpA_2886) (c1 := 0) (s1 := 0) (c2 := 0) (s2 := 0) (by exact rfl) ?_ (by omega) (by omega)
  refine jT_xaload_n (v := (6, 0)) (pcN := 1698) jI_379_1697 rfl rfl rfl ?_
  refine jT_xiload (v := (0, 0)) (pcN := 1700) jI_379_1698 rfl rfl rfl ?_
  refine jT_xiconst (k := 2) (pcN := 1701) jI_379_1700 rfl ?_
  refine jT_xiadd (x := 0) (y := 2) (z := 2) (pcN := 1702) jI_379_1701 rfl (by decide) rfl ?_
  refine jT_adv 1 (pcN := 1703) (LN := [(6, (0, 0)), (5, (0, 0)), (4, (4, 3)), (3, (4, 2)), (2, (4, 1)), (1, (4, 0)), (0, (6, 0))]) (stN := [(0, x2), (0, x1), (4, 1)]) (hsN := jpA_2886) (c1 := 0) (s1 := 0) (c2 := 0) (s2 := 0) (by exact rfl) ?_ (by omega) (by omega)
  refine jT_eq (LN := [(6, (0, 0)), (5, (0, 0)), (4, (4, 3)), (3, (4, 2)), (2, (4, 1)), (1, (4, 0)), (0, (6, 0))]) (stN := [(0, 1), (0, x1), (4, 1)]) (hsN := [jzA_265, jzA_266, (101, [], [0]), jgh, jgh, jgh, jgh, jgh, jgh, jgh, jgh, jgh, jgh, jgh, jzA_322, (100, [], jS0), jgh, jgh, jgh, jgh, jgh, jgh, jgh, jgh, jgh, jgh, jgh, jgh, jgh, jgh, jzA_2127, jgh, jgh, jgh, jgh, (4, [(4, 36), (1, 1)], []), (101, [], [0, 0, 0, 0, 0, 0])]) (rfl) (by simp only [List.cons.injEq, Prod.mk.injEq, and_true, true_and] <;> ((try unfold jw); (try unfold jwl); omega)) (rfl) ?_
  refine jT_fR [1, 15, 16, 17, 18, 19, 20, 21, 22, 23, 24, 25, 26, 27, 28, 29] 37 (y := 260) (pcN := 1706) (dC := 2) (bc1 := 0) (bc2 := 0) (c1 := 0) (c2 := 0) (as := [(4, 1), (0, x1), (0, 1)]) (asC := [(4, 0), (0, x1), (0, 1)]) (LN := [(6, (0, 0)), (5, (0, 0)), (4, (4, 3)), (3, (4, 2)), (2, (4, 1)), (1, (4, 0)), (0, (6, 0))]) (stN := []) (hsC := jpA_1519) (v := (0, 0)) (st2 := [(0, 0)]) (jA_260_731 (d := 0) (by omega)) (by rfl) (by rfl) (by decide +kernel) (by rfl) (by rfl) (by omega) (by omega) (by omega) (by omega) rfl ?_
  refine jT_xistore (v := (0, 0)) (LN := [(7, (0, 0)), (6, (0, 0)), (5, (0, 0)), (4, (4, 3)), (3, (4, 2)), (2, (4, 1)), (1, (4, 0)), (0, (6, 0))]) (pcN := 1708) jI_379_1706 rfl rfl rfl rfl ?_
  refine jT_xaload_n (v := (4, 1)) (pcN := 1709) jI_379_1708 rfl rfl rfl ?_
  refine jT_fR [1, 15, 16, 17, 18, 19, 20, 21, 22, 23, 24, 25, 26, 27, 28, 29] 37 (y := 186) (pcN := 1712) (dC := 0) (bc1 := 0) (bc2 := 0) (c1 := 0) (c2 := 0) (as := [(4, 1)]) (asC := [(4, 0)]) (LN := [(7, (0, 0)), (6, (0, 0)), (5, (0, 0)), (4, (4, 3)), (3, (4, 2)), (2, (4, 1)), (1, (4, 0)), (0, (6, 0))]) (stN := []) (hsC := jpA_22) (v := (0, 0)) (st2 := [(0, 0)]) (jA_186_726 (d := 0)) (by rfl) (by rfl) (by decide +kernel) (by rfl) (by rfl) (by omega) (by omega) (by omega) (by omega) rfl ?_
  refine jT_xiload (v := (0, 0)) (pcN := 1714) jI_379_1712 rfl rfl rfl ?_
  refine jT_xicT (pcN := 1719) jI_379_1714 rfl (by decide +kernel) rfl ?_
  refine jT_xiload (v := (0, 0)) (pcN := 1721) jI_379_1719 rfl rfl rfl ?_
  refine jT_xifF (t := 1736) (pcN := 1724) jI_379_1721 rfl (by decide +kernel) rfl rfl ?_
  refine jT_xaload_n (v := (4, 2)) (pcN := 1725) jI_379_1724 rfl rfl rfl ?_
  refine jT_xiconst (k := 0) (pcN := 1726) jI_379_1725 rfl ?_
  refine jT_lald (x := 0) (a := 2) (j := 0) (fs := []) (X := [0]) jI_379_1726 rfl rfl rfl rfl ?_
  refine jT_eq (LN := [(7, (0, 0)), (6, (0, 0)), (5, (0, 0)), (4, (4, 3)), (3, (4, 2)), (2, (4, 1)), (1, (4, 0)), (0, (6, 0))]) (stN := [(1, 0)]) (hsN := jpA_2886) rfl rfl rfl ?_
  refine jT_xiload (v := (0, 0)) (pcN := 1729) jI_379_1727 rfl rfl rfl ?_
  refine jT_xi2l (x := 0) (z := 0) (pcN := 1730) jI_379_1729 rfl (by decide +kernel) rfl ?_
  refine jT_lcmp (a := 0) (b := 0) (z := 0) (by rfl) (by rfl) (by decide +kernel) (by decide +kernel) (by decide) ?_
  refine jT_xifT (pcN := 1736) jI_379_1731 rfl (by decide +kernel) rfl ?_
  refine jT_xgoto (pcN := 3740) jI_379_1736 rfl ?_
  refine jT_xiinc (x := 0) (z := 5) (LN := [(5, (0, 5)), (7, (0, 0)), (6, (0, 0)), (4, (4, 3)), (3, (4, 2)), (2, (4, 1)), (1, (4, 0)), (0, (6, 0))]) (pcN := 3743) jI_379_3740 rfl rfl (by decide) rfl rfl ?_
  refine jT_xgoto (pcN := 28) jI_379_3743 rfl ?_
  refine jT_xiload (v := (0, 5)) (pcN := 30) jI_379_28 rfl rfl rfl ?_
  refine jT_xaload_n (v := (6, 0)) (pcN := 31) jI_379_30 rfl rfl rfl ?_
  refine jT_adv 1 (pcN := 32) (LN := [(5, (0, 5)), (7, (0, 0)), (6, (0, 0)), (4, (4, 3)), (3, (4, 2)), (2, (4, 1)), (1, (4, 0)), (0, (6, 0))]) (stN := [(0, 5), (0, 5)]) (hsN := jpA_2886) (c1 := 0) (s1 := 0) (c2 := 0) (s2 := 0) (by exact rfl) ?_ (by omega) (by omega)
  refine jT_xiconst (k := 5) (pcN := 33) jI_379_32 rfl ?_
  refine jT_xisub (x := 5) (y := 5) (z := 0) (pcN := 34) jI_379_33 rfl (by decide) rfl ?_
  refine jT_xicT (pcN := 3746) jI_379_34 rfl (by decide +kernel) rfl ?_
  refine jT_xiconst (k := 1) (pcN := 3747) jI_379_3746 rfl ?_
  exact jT_ret rfl (by decide) (by show 37 ≤ 37; decide) (by omega) (by omega) ⟨rfl, rfl⟩
set_option maxRecDepth 100000 in
theorem jL_19_4 {d : Nat} {x0 x1 x2 x3 x4 : Int} (h_x0 : (-2147483648) ≤ x0 ∧ x0 ≤ 2147483647) (h_x1 : 0 ≤ x1 ∧ x1 ≤ 7) (h_x2 : 2 ≤ x2 ∧ x2 ≤ 2) (h_x3 : (-2147483648) ≤ x3 ∧ x3 ≤ 2147483647) (h_x4 : (-2147483648) ≤ x4 ∧ x4 ≤ 2147483647) : jT [x0, x1, x2, x3, x4] (d + 3) 379 37 1671 [(5, (0, 0)), (4, (4, 3)), (3, (4, 2)), (2, (4, 1)), (1, (4, 0)), (0, (6, 0))] [] jpA_2886 0 0 (fun k v hsN => k = 0 ∧ v = (0, 1)) := by
  refine jT_xaload_n (v := (4, 0)) (pcN := 1672) jI_379_1671 rfl rfl rfl ?_
  refine jT_xaload_n (v := (6, 0)) (pcN := 1673) jI_379_1672 rfl rfl rfl ?_
  refine jT_xiload (v := (0, 0)) (pcN := 1675) jI_379_1673 rfl rfl rfl ?_
  refine jT_xiconst (k := 1) (pcN := 1676) jI_379_1675 rfl ?_
  refine jT_xiadd (x := 0) (y := 1) (z := 1) (pcN := 1677) jI_379_1676 rfl (by decide) rfl ?_
  refine jT_adv 1 (pcN := 1678) (LN := [(5, (0, 0)), (4, (4, 3)), (3, (4, 2)), (2, (4, 1)), (1, (4, 0)), (0, (6, 0))]) (stN := [(0, x1), (4, 0)]) (hsN := jpA_2886) (c1 := 0) (s1 := 0) (c2 := 0) (s2 := 0) (by exact rfl) ?_ (by omega) (by omega)
  refine jT_xaload_n (v := (6, 0)) (pcN := 1679) jI_379_1678 rfl rfl rfl ?_
  refine jT_xiload (v := (0, 0)) (pcN := 1681) jI_379_1679 rfl rfl rfl ?_
  refine jT_xiconst (k := 2) (pcN := 1682) jI_379_1681 rfl ?_
  refine jT_xiadd (x := 0) (y := 2) (z := 2) (pcN := 1683) jI_379_1682 rfl (by decide) rfl ?_
  refine jT_adv 1 (pcN := 1684) (LN := [(5, (0, 0)), (4, (4, 3)), (3, (4, 2)), (2, (4, 1)), (1, (4, 0)), (0, (6, 0))]) (stN := [(0, x2), (0, x1), (4, 0)]) (hsN := jpA_2886) (c1 := 0) (s1 := 0) (c2 := 0) (s2 := 0) (by exact rfl) ?_ (by omega) (by omega)
  refine jT_eq (LN := [(5, (0, 0)), (4, (4, 3)), (3, (4, 2)), (2, (4, 1)), (1, (4, 0)), (0, (6, 0))]) (stN := [(0, 2), (0, x1), (4, 0)]) (hsN := [jzA_265, jzA_266, (101, [], [0]), jgh, jgh, jgh, jgh, jgh, jgh, jgh, jgh, jgh, jgh, jgh, jzA_322, (100, [], jS0), jgh, jgh, jgh, jgh, jgh, jgh, jgh, jgh, jgh, jgh, jgh, jgh, jgh, jgh, jzA_2127, jgh, jgh, jgh, jgh, (4, [(4, 36), (1, 1)], []), (101, [], [0, 0, 0, 0, 0, 0])]) (rfl) (by simp only [List.cons.injEq, Prod.mk.injEq, and_true, true_and] <;> ((try unfold jw); (try unfold jwl); omega)) (rfl) ?_
  refine jT_xaload_n (v := (4, 2)) (pcN := 1685) jI_379_1684 rfl rfl rfl ?_
  refine jT_fR [0, 2, 4, 5, 6, 7, 8, 9, 10, 11, 12, 13, 14, 30, 31, 32, 33, 34, 35, 36] 37 (y := 344) (pcN := 1688) (dC := 2) (bc1 := 0) (bc2 := 0) (c1 := 0) (c2 := 0) (as := [(4, 0), (0, x1), (0, 2), (4, 2)]) (asC := [(4, 0), (0, x1), (0, 2), (4, 1)]) (LN := [(5, (0, 0)), (4, (4, 3)), (3, (4, 2)), (2, (4, 1)), (1, (4, 0)), (0, (6, 0))]) (stN := []) (hsC := jpA_2846) (v := (0, 0)) (st2 := [(0, 0)]) (jA_344_734 (d := 0) (by omega)) (by rfl) (by rfl) (by decide +kernel) (by rfl) (by rfl) (by omega) (by omega) (by omega) (by omega) rfl ?_
  refine jT_xistore (v := (0, 0)) (LN := [(6, (0, 0)), (5, (0, 0)), (4, (4, 3)), (3, (4, 2)), (2, (4, 1)), (1, (4, 0)), (0, (6, 0))]) (pcN := 1690) jI_379_1688 rfl rfl rfl rfl ?_
  refine jT_xaload_n (v := (4, 1)) (pcN := 1691) jI_379_1690 rfl rfl rfl ?_
  refine jT_xaload_n (v := (6, 0)) (pcN := 1692) jI_379_1691 rfl rfl rfl ?_
  refine jT_xiload (v := (0, 0)) (pcN := 1694) jI_379_1692 rfl rfl rfl ?_
  refine jT_xiconst (k := 1) (pcN := 1695) jI_379_1694 rfl ?_
  refine jT_xiadd (x := 0) (y := 1) (z := 1) (pcN := 1696) jI_379_1695 rfl (by decide) rfl ?_
  refine jT_adv 1 (pcN := 1697) (LN := [(6, (0, 0)), (5, (0, 0)), (4, (4, 3)), (3, (4, 2)), (2, (4, 1)), (1, (4, 0)), (0, (6, 0))]) (stN := [(0, x1), (4, 1)]) (hsN := jpA_2886) (c1 := 0) (s1 := 0) (c2 := 0) (s2 := 0) (by exact rfl) ?_ (by omega) (by omega)
  refine jT_xaload_n (v := (6, 0)) (pcN := 1698) jI_379_1697 rfl rfl rfl ?_
  refine jT_xiload (v := (0, 0)) (pcN := 1700) jI_379_1698 rfl rfl rfl ?_
  refine jT_xiconst (k := 2) (pcN := 1701) jI_379_1700 rfl ?_
  refine jT_xiadd (x := 0) (y := 2) (z := 2) (pcN := 1702) jI_379_1701 rfl (by decide) rfl ?_
  refine jT_adv 1 (pcN := 1703) (LN := [(6, (0, 0)), (5, (0, 0)), (4, (4, 3)), (3, (4, 2)), (2, (4, 1)), (1, (4, 0)), (0, (6, 0))]) (stN := [(0, x2), (0, x1), (4, 1)]) (hsN := jpA_2886) (c1 := 0) (s1 := 0) (c2 := 0) (s2 := 0) (by exact rfl) ?_ (by omega) (by omega)
  refine jT_eq (LN := [(6, (0, 0)), (5, (0, 0)), (4, (4, 3)), (3, (4, 2)), (2, (4, 1)), (1, (4, 0)), (0, (6, 0))]) (stN := [(0, 2), (0, x1), (4, 1)]) (hsN := [jzA_265, jzA_266, (101, [], [0]), jgh, jgh, jgh, jgh, jgh, jgh, jgh, jgh, jgh, jgh, jgh, jzA_322, (100, [], jS0), jgh, jgh, jgh, jgh, jgh, jgh, jgh, jgh, jgh, jgh, jgh, jgh, jgh, jgh, jzA_2127, jgh, jgh, jgh, jgh, (4, [(4, 36), (1, 1)], []), (101, [], [0, 0, 0, 0, 0, 0])]) (rfl) (by simp only [List.cons.injEq, Prod.mk.injEq, and_true, true_and] <;> ((try unfold jw); (try unfold jwl); omega)) (rfl) ?_
  refine jT_fR [1, 15, 16, 17, 18, 19, 20, 21, 22, 23, 24, 25, 26, 27, 28, 29] 37 (y := 260) (pcN := 1706) (dC := 2) (bc1 := 0) (bc2 := 0) (c1 := 0) (c2 := 0) (as := [(4, 1), (0, x1), (0, 2)]) (asC := [(4, 0), (0, x1), (0, 2)]) (LN := [(6, (0, 0)), (5, (0, 0)), (4, (4, 3)), (3, (4, 2)), (2, (4, 1)), (1, (4, 0)), (0, (6, 0))]) (stN := []) (hsC := jpA_1519) (v := (0, 0)) (st2 := [(0, 0)]) (jA_260_736 (d := 0) (by omega)) (by rfl) (by rfl) (by decide +kernel) (by rfl) (by rfl) (by omega) (by omega) (by omega) (by omega) rfl ?_
  refine jT_xistore (v := (0, 0)) (LN := [(7, (0, 0)), (6, (0, 0)), (5, (0, 0)), (4, (4, 3)), (3, (4, 2)), (2, (4, 1)), (1, (4, 0)), (0, (6, 0))]) (pcN := 1708) jI_379_1706 rfl rfl rfl rfl ?_
  refine jT_xaload_n (v := (4, 1)) (pcN := 1709) jI_379_1708 rfl rfl rfl ?_
  refine jT_fR [1, 15, 16, 17, 18, 19, 20, 21, 22, 23, 24, 25, 26, 27, 28, 29] 37 (y := 186) (pcN := 1712) (dC := 0) (bc1 := 0) (bc2 := 0) (c1 := 0) (c2 := 0) (as := [(4, 1)]) (asC := [(4, 0)]) (LN := [(7, (0, 0)), (6, (0, 0)), (5, (0, 0)), (4, (4, 3)), (3, (4, 2)), (2, (4, 1)), (1, (4, 0)), (0, (6, 0))]) (stN := []) (hsC := jpA_22) (v := (0, 0)) (st2 := [(0, 0)]) (jA_186_726 (d := 0)) (by rfl) (by rfl) (by decide +kernel) (by rfl) (by rfl) (by omega) (by omega) (by omega) (by omega) rfl ?_
  refine jT_xiload (v := (0, 0)) (pcN := 1714) jI_379_1712 rfl rfl rfl ?_
  refine jT_xicT (pcN := 1719) jI_379_1714 rfl (by decide +kernel) rfl ?_
  refine jT_xiload (v := (0, 0)) (pcN := 1721) jI_379_1719 rfl rfl rfl ?_
  refine jT_xifF (t := 1736) (pcN := 1724) jI_379_1721 rfl (by decide +kernel) rfl rfl ?_
  refine jT_xaload_n (v := (4, 2)) (pcN := 1725) jI_379_1724 rfl rfl rfl ?_
  refine jT_xiconst (k := 0) (pcN := 1726) jI_379_1725 rfl ?_
  refine jT_lald (x := 0) (a := 2) (j := 0) (fs := []) (X := [0]) jI_379_1726 rfl rfl rfl rfl ?_
  refine jT_eq (LN := [(7, (0, 0)), (6, (0, 0)), (5, (0, 0)), (4, (4, 3)), (3, (4, 2)), (2, (4, 1)), (1, (4, 0)), (0, (6, 0))]) (stN := [(1, 0)]) (hsN := jpA_2886) rfl rfl rfl ?_
  refine jT_xiload (v := (0, 0)) (pcN := 1729) jI_379_1727 rfl rfl rfl ?_
  refine jT_xi2l (x := 0) (z := 0) (pcN := 1730) jI_379_1729 rfl (by decide +kernel) rfl ?_
  refine jT_lcmp (a := 0) (b := 0) (z := 0) (by rfl) (by rfl) (by decide +kernel) (by decide +kernel) (by decide) ?_
  refine jT_xifT (pcN := 1736) jI_379_1731 rfl (by decide +kernel) rfl ?_
  refine jT_xgoto (pcN := 3740) jI_379_1736 rfl ?_
  refine jT_xiinc (x := 0) (z := 5) (LN := [(5, (0, 5)), (7, (0, 0)), (6, (0, 0)), (4, (4, 3)), (3, (4, 2)), (2, (4, 1)), (1, (4, 0)), (0, (6, 0))]) (pcN := 3743) jI_379_3740 rfl rfl (by decide) rfl rfl ?_
  refine jT_xgoto (pcN := 28) jI_379_3743 rfl ?_
  refine jT_xiload (v := (0, 5)) (pcN := 30) jI_379_28 rfl rfl rfl ?_
  refine jT_xaload_n (v := (6, 0)) (pcN := 31) jI_379_30 rfl rfl rfl ?_
  refine jT_adv 1 (pcN := 32) (LN := [(5, (0, 5)), (7, (0, 0)), (6, (0, 0)), (4, (4, 3)), (3, (4, 2)), (2, (4, 1)), (1, (4, 0)), (0, (6, 0))]) (stN := [(0, 5), (0, 5)]) (hsN := jpA_2886) (c1 := 0) (s1 := 0) (c2 := 0) (s2 := 0) (by exact rfl) ?_ (by omega) (by omega)
  refine jT_xiconst (k := 5) (pcN := 33) jI_379_32 rfl ?_
  refine jT_xisub (x := 5) (y := 5) (z := 0) (pcN := 34) jI_379_33 rfl (by decide) rfl ?_
  refine jT_xicT (pcN := 3746) jI_379_34 rfl (by decide +kernel) rfl ?_
  refine jT_xiconst (k := 1) (pcN := 3747) jI_379_3746 rfl ?_
  exact jT_ret rfl (by decide) (by show 37 ≤ 37; decide) (by omega) (by omega) ⟨rfl, rfl⟩
set_option maxRecDepth 100000 in
theorem jL_19_5 {d : Nat} {x0 x1 x2 x3 x4 : Int} (h_x0 : (-2147483648) ≤ x0 ∧ x0 ≤ 2147483647) (h_x1 : 0 ≤ x1 ∧ x1 ≤ 7) (h_x2 : 3 ≤ x2 ∧ x2 ≤ 3) (h_x3 : (-2147483648) ≤ x3 ∧ x3 ≤ 2147483647) (h_x4 : (-2147483648) ≤ x4 ∧ x4 ≤ 2147483647) : jT [x0, x1, x2, x3, x4] (d + 3) 379 37 1671 [(5, (0, 0)), (4, (4, 3)), (3, (4, 2)), (2, (4, 1)), (1, (4, 0)), (0, (6, 0))] [] jpA_2886 0 0 (fun k v hsN => k = 0 ∧ v = (0, 1)) := by
  refine jT_xaload_n (v := (4, 0)) (pcN := 1672) jI_379_1671 rfl rfl rfl ?_
  refine jT_xaload_n (v := (6, 0)) (pcN := 1673) jI_379_1672 rfl rfl rfl ?_
  refine jT_xiload (v := (0, 0)) (pcN := 1675) jI_379_1673 rfl rfl rfl ?_
  refine jT_xiconst (k := 1) (pcN := 1676) jI_379_1675 rfl ?_
  refine jT_xiadd (x := 0) (y := 1) (z := 1) (pcN := 1677) jI_379_1676 rfl (by decide) rfl ?_
  refine jT_adv 1 (pcN := 1678) (LN := [(5, (0, 0)), (4, (4, 3)), (3, (4, 2)), (2, (4, 1)), (1, (4, 0)), (0, (6, 0))]) (stN := [(0, x1), (4, 0)]) (hsN := jpA_2886) (c1 := 0) (s1 := 0) (c2 := 0) (s2 := 0) (by exact rfl) ?_ (by omega) (by omega)
  refine jT_xaload_n (v := (6, 0)) (pcN := 1679) jI_379_1678 rfl rfl rfl ?_
  refine jT_xiload (v := (0, 0)) (pcN := 1681) jI_379_1679 rfl rfl rfl ?_
  refine jT_xiconst (k := 2) (pcN := 1682) jI_379_1681 rfl ?_
  refine jT_xiadd (x := 0) (y := 2) (z := 2) (pcN := 1683) jI_379_1682 rfl (by decide) rfl ?_
  refine jT_adv 1 (pcN := 1684) (LN := [(5, (0, 0)), (4, (4, 3)), (3, (4, 2)), (2, (4, 1)), (1, (4, 0)), (0, (6, 0))]) (stN := [(0, x2), (0, x1), (4, 0)]) (hsN := jpA_2886) (c1 := 0) (s1 := 0) (c2 := 0) (s2 := 0) (by exact rfl) ?_ (by omega) (by omega)
  refine jT_eq (LN := [(5, (0, 0)), (4, (4, 3)), (3, (4, 2)), (2, (4, 1)), (1, (4, 0)), (0, (6, 0))]) (stN := [(0, 3), (0, x1), (4, 0)]) (hsN := [jzA_265, jzA_266, (101, [], [0]), jgh, jgh, jgh, jgh, jgh, jgh, jgh, jgh, jgh, jgh, jgh, jzA_322, (100, [], jS0), jgh, jgh, jgh, jgh, jgh, jgh, jgh, jgh, jgh, jgh, jgh, jgh, jgh, jgh, jzA_2127, jgh, jgh, jgh, jgh, (4, [(4, 36), (1, 1)], []), (101, [], [0, 0, 0, 0, 0, 0])]) (rfl) (by simp only [List.cons.injEq, Prod.mk.injEq, and_true, true_and] <;> ((try unfold jw); (try unfold jwl); omega)) (rfl) ?_
  refine jT_xaload_n (v := (4, 2)) (pcN := 1685) jI_379_1684 rfl rfl rfl ?_
  refine jT_fR [0, 2, 4, 5, 6, 7, 8, 9, 10, 11, 12, 13, 14, 30, 31, 32, 33, 34, 35, 36] 37 (y := 344) (pcN := 1688) (dC := 2) (bc1 := 0) (bc2 := 0) (c1 := 0) (c2 := 0) (as := [(4, 0), (0, x1), (0, 3), (4, 2)]) (asC := [(4, 0), (0, x1), (0, 3), (4, 1)]) (LN := [(5, (0, 0)), (4, (4, 3)), (3, (4, 2)), (2, (4, 1)), (1, (4, 0)), (0, (6, 0))]) (stN := []) (hsC := jpA_2846) (v := (0, 0)) (st2 := [(0, 0)]) (jA_344_745 (d := 0) (by omega)) (by rfl) (by rfl) (by decide +kernel) (by rfl) (by rfl) (by omega) (by omega) (by omega) (by omega) rfl ?_
  refine jT_xistore (v := (0, 0)) (LN := [(6, (0, 0)), (5, (0, 0)), (4, (4, 3)), (3, (4, 2)), (2, (4, 1)), (1, (4, 0)), (0, (6, 0))]) (pcN := 1690) jI_379_1688 rfl rfl rfl rfl ?_
  refine jT_xaload_n (v := (4, 1)) (pcN := 1691) jI_379_1690 rfl rfl rfl ?_
  refine jT_xaload_n (v := (6, 0)) (pcN := 1692) jI_379_1691 rfl rfl rfl ?_
  refine jT_xiload (v := (0, 0)) (pcN := 1694) jI_379_1692 rfl rfl rfl ?_
  refine jT_xiconst (k := 1) (pcN := 1695) jI_379_1694 rfl ?_
  refine jT_xiadd (x := 0) (y := 1) (z := 1) (pcN := 1696) jI_379_1695 rfl (by decide) rfl ?_
  refine jT_adv 1 (pcN := 1697) (LN := [(6, (0, 0)), (5, (0, 0)), (4, (4, 3)), (3, (4, 2)), (2, (4, 1)), (1, (4, 0)), (0, (6, 0))]) (stN := [(0, x1), (4, 1)]) (hsN := jpA_2886) (c1 := 0) (s1 := 0) (c2 := 0) (s2 := 0) (by exact rfl) ?_ (by omega) (by omega)
  refine jT_xaload_n (v := (6, 0)) (pcN := 1698) jI_379_1697 rfl rfl rfl ?_
  refine jT_xiload (v := (0, 0)) (pcN := 1700) jI_379_1698 rfl rfl rfl ?_
  refine jT_xiconst (k := 2) (pcN := 1701) jI_379_1700 rfl ?_
  refine jT_xiadd (x := 0) (y := 2) (z := 2) (pcN := 1702) jI_379_1701 rfl (by decide) rfl ?_
  refine jT_adv 1 (pcN := 1703) (LN := [(6, (0, 0)), (5, (0, 0)), (4, (4, 3)), (3, (4, 2)), (2, (4, 1)), (1, (4, 0)), (0, (6, 0))]) (stN := [(0, x2), (0, x1), (4, 1)]) (hsN := jpA_2886) (c1 := 0) (s1 := 0) (c2 := 0) (s2 := 0) (by exact rfl) ?_ (by omega) (by omega)
  refine jT_eq (LN := [(6, (0, 0)), (5, (0, 0)), (4, (4, 3)), (3, (4, 2)), (2, (4, 1)), (1, (4, 0)), (0, (6, 0))]) (stN := [(0, 3), (0, x1), (4, 1)]) (hsN := [jzA_265, jzA_266, (101, [], [0]), jgh, jgh, jgh, jgh, jgh, jgh, jgh, jgh, jgh, jgh, jgh, jzA_322, (100, [], jS0), jgh, jgh, jgh, jgh, jgh, jgh, jgh, jgh, jgh, jgh, jgh, jgh, jgh, jgh, jzA_2127, jgh, jgh, jgh, jgh, (4, [(4, 36), (1, 1)], []), (101, [], [0, 0, 0, 0, 0, 0])]) (rfl) (by simp only [List.cons.injEq, Prod.mk.injEq, and_true, true_and] <;> ((try unfold jw); (try unfold jwl); omega)) (rfl) ?_
  refine jT_fR [1, 15, 16, 17, 18, 19, 20, 21, 22, 23, 24, 25, 26, 27, 28, 29] 37 (y := 260) (pcN := 1706) (dC := 2) (bc1 := 0) (bc2 := 0) (c1 := 0) (c2 := 0) (as := [(4, 1), (0, x1), (0, 3)]) (asC := [(4, 0), (0, x1), (0, 3)]) (LN := [(6, (0, 0)), (5, (0, 0)), (4, (4, 3)), (3, (4, 2)), (2, (4, 1)), (1, (4, 0)), (0, (6, 0))]) (stN := []) (hsC := jpA_1519) (v := (0, 0)) (st2 := [(0, 0)]) (jA_260_747 (d := 0) (by omega)) (by rfl) (by rfl) (by decide +kernel) (by rfl) (by rfl) (by omega) (by omega) (by omega) (by omega) rfl ?_
  refine jT_xistore (v := (0, 0)) (LN := [(7, (0, 0)), (6, (0, 0)), (5, (0, 0)), (4, (4, 3)), (3, (4, 2)), (2, (4, 1)), (1, (4, 0)), (0, (6, 0))]) (pcN := 1708) jI_379_1706 rfl rfl rfl rfl ?_
  refine jT_xaload_n (v := (4, 1)) (pcN := 1709) jI_379_1708 rfl rfl rfl ?_
  refine jT_fR [1, 15, 16, 17, 18, 19, 20, 21, 22, 23, 24, 25, 26, 27, 28, 29] 37 (y := 186) (pcN := 1712) (dC := 0) (bc1 := 0) (bc2 := 0) (c1 := 0) (c2 := 0) (as := [(4, 1)]) (asC := [(4, 0)]) (LN := [(7, (0, 0)), (6, (0, 0)), (5, (0, 0)), (4, (4, 3)), (3, (4, 2)), (2, (4, 1)), (1, (4, 0)), (0, (6, 0))]) (stN := []) (hsC := jpA_22) (v := (0, 0)) (st2 := [(0, 0)]) (jA_186_726 (d := 0)) (by rfl) (by rfl) (by decide +kernel) (by rfl) (by rfl) (by omega) (by omega) (by omega) (by omega) rfl ?_
  refine jT_xiload (v := (0, 0)) (pcN := 1714) jI_379_1712 rfl rfl rfl ?_
  refine jT_xicT (pcN := 1719) jI_379_1714 rfl (by decide +kernel) rfl ?_
  refine jT_xiload (v := (0, 0)) (pcN := 1721) jI_379_1719 rfl rfl rfl ?_
  refine jT_xifF (t := 1736) (pcN := 1724) jI_379_1721 rfl (by decide +kernel) rfl rfl ?_
  refine jT_xaload_n (v := (4, 2)) (pcN := 1725) jI_379_1724 rfl rfl rfl ?_
  refine jT_xiconst (k := 0) (pcN := 1726) jI_379_1725 rfl ?_
  refine jT_lald (x := 0) (a := 2) (j := 0) (fs := []) (X := [0]) jI_379_1726 rfl rfl rfl rfl ?_
  refine jT_eq (LN := [(7, (0, 0)), (6, (0, 0)), (5, (0, 0)), (4, (4, 3)), (3, (4, 2)), (2, (4, 1)), (1, (4, 0)), (0, (6, 0))]) (stN := [(1, 0)]) (hsN := jpA_2886) rfl rfl rfl ?_
  refine jT_xiload (v := (0, 0)) (pcN := 1729) jI_379_1727 rfl rfl rfl ?_
  refine jT_xi2l (x := 0) (z := 0) (pcN := 1730) jI_379_1729 rfl (by decide +kernel) rfl ?_
  refine jT_lcmp (a := 0) (b := 0) (z := 0) (by rfl) (by rfl) (by decide +kernel) (by decide +kernel) (by decide) ?_
  refine jT_xifT (pcN := 1736) jI_379_1731 rfl (by decide +kernel) rfl ?_
  refine jT_xgoto (pcN := 3740) jI_379_1736 rfl ?_
  refine jT_xiinc (x := 0) (z := 5) (LN := [(5, (0, 5)), (7, (0, 0)), (6, (0, 0)), (4, (4, 3)), (3, (4, 2)), (2, (4, 1)), (1, (4, 0)), (0, (6, 0))]) (pcN := 3743) jI_379_3740 rfl rfl (by decide) rfl rfl ?_
  refine jT_xgoto (pcN := 28) jI_379_3743 rfl ?_
  refine jT_xiload (v := (0, 5)) (pcN := 30) jI_379_28 rfl rfl rfl ?_
  refine jT_xaload_n (v := (6, 0)) (pcN := 31) jI_379_30 rfl rfl rfl ?_
  refine jT_adv 1 (pcN := 32) (LN := [(5, (0, 5)), (7, (0, 0)), (6, (0, 0)), (4, (4, 3)), (3, (4, 2)), (2, (4, 1)), (1, (4, 0)), (0, (6, 0))]) (stN := [(0, 5), (0, 5)]) (hsN := jpA_2886) (c1 := 0) (s1 := 0) (c2 := 0) (s2 := 0) (by exact rfl) ?_ (by omega) (by omega)
  refine jT_xiconst (k := 5) (pcN := 33) jI_379_32 rfl ?_
  refine jT_xisub (x := 5) (y := 5) (z := 0) (pcN := 34) jI_379_33 rfl (by decide) rfl ?_
  refine jT_xicT (pcN := 3746) jI_379_34 rfl (by decide +kernel) rfl ?_
  refine jT_xiconst (k := 1) (pcN := 3747) jI_379_3746 rfl ?_
  exact jT_ret rfl (by decide) (by show 37 ≤ 37; decide) (by omega) (by omega) ⟨rfl, rfl⟩
set_option maxRecDepth 100000 in
theorem jL_19_6 {d : Nat} {x0 x1 x2 x3 x4 : Int} (h_x0 : (-2147483648) ≤ x0 ∧ x0 ≤ 2147483647) (h_x1 : 0 ≤ x1 ∧ x1 ≤ 7) (h_x2 : 4 ≤ x2 ∧ x2 ≤ 4) (h_x3 : (-2147483648) ≤ x3 ∧ x3 ≤ 2147483647) (h_x4 : (-2147483648) ≤ x4 ∧ x4 ≤ 2147483647) : jT [x0, x1, x2, x3, x4] (d + 3) 379 37 1671 [(5, (0, 0)), (4, (4, 3)), (3, (4, 2)), (2, (4, 1)), (1, (4, 0)), (0, (6, 0))] [] jpA_2886 0 0 (fun k v hsN => k = 0 ∧ v = (0, 1)) := by
  refine jT_xaload_n (v := (4, 0)) (pcN := 1672) jI_379_1671 rfl rfl rfl ?_
  refine jT_xaload_n (v := (6, 0)) (pcN := 1673) jI_379_1672 rfl rfl rfl ?_
  refine jT_xiload (v := (0, 0)) (pcN := 1675) jI_379_1673 rfl rfl rfl ?_
  refine jT_xiconst (k := 1) (pcN := 1676) jI_379_1675 rfl ?_
  refine jT_xiadd (x := 0) (y := 1) (z := 1) (pcN := 1677) jI_379_1676 rfl (by decide) rfl ?_
  refine jT_adv 1 (pcN := 1678) (LN := [(5, (0, 0)), (4, (4, 3)), (3, (4, 2)), (2, (4, 1)), (1, (4, 0)), (0, (6, 0))]) (stN := [(0, x1), (4, 0)]) (hsN := jpA_2886) (c1 := 0) (s1 := 0) (c2 := 0) (s2 := 0) (by exact rfl) ?_ (by omega) (by omega)
  refine jT_xaload_n (v := (6, 0)) (pcN := 1679) jI_379_1678 rfl rfl rfl ?_
  refine jT_xiload (v := (0, 0)) (pcN := 1681) jI_379_1679 rfl rfl rfl ?_
  refine jT_xiconst (k := 2) (pcN := 1682) jI_379_1681 rfl ?_
  refine jT_xiadd (x := 0) (y := 2) (z := 2) (pcN := 1683) jI_379_1682 rfl (by decide) rfl ?_
  refine jT_adv 1 (pcN := 1684) (LN := [(5, (0, 0)), (4, (4, 3)), (3, (4, 2)), (2, (4, 1)), (1, (4, 0)), (0, (6, 0))]) (stN := [(0, x2), (0, x1), (4, 0)]) (hsN := jpA_2886) (c1 := 0) (s1 := 0) (c2 := 0) (s2 := 0) (by exact rfl) ?_ (by omega) (by omega)
  refine jT_eq (LN := [(5, (0, 0)), (4, (4, 3)), (3, (4, 2)), (2, (4, 1)), (1, (4, 0)), (0, (6, 0))]) (stN := [(0, 4), (0, x1), (4, 0)]) (hsN := [jzA_265, jzA_266, (101, [], [0]), jgh, jgh, jgh, jgh, jgh, jgh, jgh, jgh, jgh, jgh, jgh, jzA_322, (100, [], jS0), jgh, jgh, jgh, jgh, jgh, jgh, jgh, jgh, jgh, jgh, jgh, jgh, jgh, jgh, jzA_2127, jgh, jgh, jgh, jgh, (4, [(4, 36), (1, 1)], []), (101, [], [0, 0, 0, 0, 0, 0])]) (rfl) (by simp only [List.cons.injEq, Prod.mk.injEq, and_true, true_and] <;> ((try unfold jw); (try unfold jwl); omega)) (rfl) ?_
  refine jT_xaload_n (v := (4, 2)) (pcN := 1685) jI_379_1684 rfl rfl rfl ?_
  refine jT_fR [0, 2, 4, 5, 6, 7, 8, 9, 10, 11, 12, 13, 14, 30, 31, 32, 33, 34, 35, 36] 37 (y := 344) (pcN := 1688) (dC := 2) (bc1 := 0) (bc2 := 0) (c1 := 0) (c2 := 0) (as := [(4, 0), (0, x1), (0, 4), (4, 2)]) (asC := [(4, 0), (0, x1), (0, 4), (4, 1)]) (LN := [(5, (0, 0)), (4, (4, 3)), (3, (4, 2)), (2, (4, 1)), (1, (4, 0)), (0, (6, 0))]) (stN := []) (hsC := jpA_2846) (v := (0, 0)) (st2 := [(0, 0)]) (jA_344_750 (d := 0) (by omega)) (by rfl) (by rfl) (by decide +kernel) (by rfl) (by rfl) (by omega) (by omega) (by omega) (by omega) rfl ?_
  refine jT_xistore (v := (0, 0)) (LN := [(6, (0, 0)), (5, (0, 0)), (4, (4, 3)), (3, (4, 2)), (2, (4, 1)), (1, (4, 0)), (0, (6, 0))]) (pcN := 1690) jI_379_1688 rfl rfl rfl rfl ?_
  refine jT_xaload_n (v := (4, 1)) (pcN := 1691) jI_379_1690 rfl rfl rfl ?_
  refine jT_xaload_n (v := (6, 0)) (pcN := 1692) jI_379_1691 rfl rfl rfl ?_
  refine jT_xiload (v := (0, 0)) (pcN := 1694) jI_379_1692 rfl rfl rfl ?_
  refine jT_xiconst (k := 1) (pcN := 1695) jI_379_1694 rfl ?_
  refine jT_xiadd (x := 0) (y := 1) (z := 1) (pcN := 1696) jI_379_1695 rfl (by decide) rfl ?_
  refine jT_adv 1 (pcN := 1697) (LN := [(6, (0, 0)), (5, (0, 0)), (4, (4, 3)), (3, (4, 2)), (2, (4, 1)), (1, (4, 0)), (0, (6, 0))]) (stN := [(0, x1), (4, 1)]) (hsN := jpA_2886) (c1 := 0) (s1 := 0) (c2 := 0) (s2 := 0) (by exact rfl) ?_ (by omega) (by omega)
  refine jT_xaload_n (v := (6, 0)) (pcN := 1698) jI_379_1697 rfl rfl rfl ?_
  refine jT_xiload (v := (0, 0)) (pcN := 1700) jI_379_1698 rfl rfl rfl ?_
  refine jT_xiconst (k := 2) (pcN := 1701) jI_379_1700 rfl ?_
  refine jT_xiadd (x := 0) (y := 2) (z := 2) (pcN := 1702) jI_379_1701 rfl (by decide) rfl ?_
  refine jT_adv 1 (pcN := 1703) (LN := [(6, (0, 0)), (5, (0, 0)), (4, (4, 3)), (3, (4, 2)), (2, (4, 1)), (1, (4, 0)), (0, (6, 0))]) (stN := [(0, x2), (0, x1), (4, 1)]) (hsN := jpA_2886) (c1 := 0) (s1 := 0) (c2 := 0) (s2 := 0) (by exact rfl) ?_ (by omega) (by omega)
  refine jT_eq (LN := [(6, (0, 0)), (5, (0, 0)), (4, (4, 3)), (3, (4, 2)), (2, (4, 1)), (1, (4, 0)), (0, (6, 0))]) (stN := [(0, 4), (0, x1), (4, 1)]) (hsN := [jzA_265, jzA_266, (101, [], [0]), jgh, jgh, jgh, jgh, jgh, jgh, jgh, jgh, jgh, jgh, jgh, jzA_322, (100, [], jS0), jgh, jgh, jgh, jgh, jgh, jgh, jgh, jgh, jgh, jgh, jgh, jgh, jgh, jgh, jzA_2127, jgh, jgh, jgh, jgh, (4, [(4, 36), (1, 1)], []), (101, [], [0, 0, 0, 0, 0, 0])]) (rfl) (by simp only [List.cons.injEq, Prod.mk.injEq, and_true, true_and] <;> ((try unfold jw); (try unfold jwl); omega)) (rfl) ?_
  refine jT_fR [1, 15, 16, 17, 18, 19, 20, 21, 22, 23, 24, 25, 26, 27, 28, 29] 37 (y := 260) (pcN := 1706) (dC := 2) (bc1 := 0) (bc2 := 0) (c1 := 0) (c2 := 0) (as := [(4, 1), (0, x1), (0, 4)]) (asC := [(4, 0), (0, x1), (0, 4)]) (LN := [(6, (0, 0)), (5, (0, 0)), (4, (4, 3)), (3, (4, 2)), (2, (4, 1)), (1, (4, 0)), (0, (6, 0))]) (stN := []) (hsC := jpA_1519) (v := (0, 0)) (st2 := [(0, 0)]) (jA_260_752 (d := 0) (by omega)) (by rfl) (by rfl) (by decide +kernel) (by rfl) (by rfl) (by omega) (by omega) (by omega) (by omega) rfl ?_
  refine jT_xistore (v := (0, 0)) (LN := [(7, (0, 0)), (6, (0, 0)), (5, (0, 0)), (4, (4, 3)), (3, (4, 2)), (2, (4, 1)), (1, (4, 0)), (0, (6, 0))]) (pcN := 1708) jI_379_1706 rfl rfl rfl rfl ?_
  refine jT_xaload_n (v := (4, 1)) (pcN := 1709) jI_379_1708 rfl rfl rfl ?_
  refine jT_fR [1, 15, 16, 17, 18, 19, 20, 21, 22, 23, 24, 25, 26, 27, 28, 29] 37 (y := 186) (pcN := 1712) (dC := 0) (bc1 := 0) (bc2 := 0) (c1 := 0) (c2 := 0) (as := [(4, 1)]) (asC := [(4, 0)]) (LN := [(7, (0, 0)), (6, (0, 0)), (5, (0, 0)), (4, (4, 3)), (3, (4, 2)), (2, (4, 1)), (1, (4, 0)), (0, (6, 0))]) (stN := []) (hsC := jpA_22) (v := (0, 0)) (st2 := [(0, 0)]) (jA_186_726 (d := 0)) (by rfl) (by rfl) (by decide +kernel) (by rfl) (by rfl) (by omega) (by omega) (by omega) (by omega) rfl ?_
  refine jT_xiload (v := (0, 0)) (pcN := 1714) jI_379_1712 rfl rfl rfl ?_
  refine jT_xicT (pcN := 1719) jI_379_1714 rfl (by decide +kernel) rfl ?_
  refine jT_xiload (v := (0, 0)) (pcN := 1721) jI_379_1719 rfl rfl rfl ?_
  refine jT_xifF (t := 1736) (pcN := 1724) jI_379_1721 rfl (by decide +kernel) rfl rfl ?_
  refine jT_xaload_n (v := (4, 2)) (pcN := 1725) jI_379_1724 rfl rfl rfl ?_
  refine jT_xiconst (k := 0) (pcN := 1726) jI_379_1725 rfl ?_
  refine jT_lald (x := 0) (a := 2) (j := 0) (fs := []) (X := [0]) jI_379_1726 rfl rfl rfl rfl ?_
  refine jT_eq (LN := [(7, (0, 0)), (6, (0, 0)), (5, (0, 0)), (4, (4, 3)), (3, (4, 2)), (2, (4, 1)), (1, (4, 0)), (0, (6, 0))]) (stN := [(1, 0)]) (hsN := jpA_2886) rfl rfl rfl ?_
  refine jT_xiload (v := (0, 0)) (pcN := 1729) jI_379_1727 rfl rfl rfl ?_
  refine jT_xi2l (x := 0) (z := 0) (pcN := 1730) jI_379_1729 rfl (by decide +kernel) rfl ?_
  refine jT_lcmp (a := 0) (b := 0) (z := 0) (by rfl) (by rfl) (by decide +kernel) (by decide +kernel) (by decide) ?_
  refine jT_xifT (pcN := 1736) jI_379_1731 rfl (by decide +kernel) rfl ?_
  refine jT_xgoto (pcN := 3740) jI_379_1736 rfl ?_
  refine jT_xiinc (x := 0) (z := 5) (LN := [(5, (0, 5)), (7, (0, 0)), (6, (0, 0)), (4, (4, 3)), (3, (4, 2)), (2, (4, 1)), (1, (4, 0)), (0, (6, 0))]) (pcN := 3743) jI_379_3740 rfl rfl (by decide) rfl rfl ?_
  refine jT_xgoto (pcN := 28) jI_379_3743 rfl ?_
  refine jT_xiload (v := (0, 5)) (pcN := 30) jI_379_28 rfl rfl rfl ?_
  refine jT_xaload_n (v := (6, 0)) (pcN := 31) jI_379_30 rfl rfl rfl ?_
  refine jT_adv 1 (pcN := 32) (LN := [(5, (0, 5)), (7, (0, 0)), (6, (0, 0)), (4, (4, 3)), (3, (4, 2)), (2, (4, 1)), (1, (4, 0)), (0, (6, 0))]) (stN := [(0, 5), (0, 5)]) (hsN := jpA_2886) (c1 := 0) (s1 := 0) (c2 := 0) (s2 := 0) (by exact rfl) ?_ (by omega) (by omega)
  refine jT_xiconst (k := 5) (pcN := 33) jI_379_32 rfl ?_
  refine jT_xisub (x := 5) (y := 5) (z := 0) (pcN := 34) jI_379_33 rfl (by decide) rfl ?_
  refine jT_xicT (pcN := 3746) jI_379_34 rfl (by decide +kernel) rfl ?_
  refine jT_xiconst (k := 1) (pcN := 3747) jI_379_3746 rfl ?_
  exact jT_ret rfl (by decide) (by show 37 ≤ 37; decide) (by omega) (by omega) ⟨rfl, rfl⟩
set_option maxRecDepth 100000 in
theorem jL_19_7 {d : Nat} {x0 x1 x2 x3 x4 : Int} (h_x0 : (-2147483648) ≤ x0 ∧ x0 ≤ 2147483647) (h_x1 : 0 ≤ x1 ∧ x1 ≤ 7) (h_x2 : 5 ≤ x2 ∧ x2 ≤ 5) (h_x3 : (-2147483648) ≤ x3 ∧ x3 ≤ 2147483647) (h_x4 : (-2147483648) ≤ x4 ∧ x4 ≤ 2147483647) : jT [x0, x1, x2, x3, x4] (d + 3) 379 37 1671 [(5, (0, 0)), (4, (4, 3)), (3, (4, 2)), (2, (4, 1)), (1, (4, 0)), (0, (6, 0))] [] jpA_2886 0 0 (fun k v hsN => k = 0 ∧ v = (0, 1)) := by
  refine jT_xaload_n (v := (4, 0)) (pcN := 1672) jI_379_1671 rfl rfl rfl ?_
  refine jT_xaload_n (v := (6, 0)) (pcN := 1673) jI_379_1672 rfl rfl rfl ?_
  refine jT_xiload (v := (0, 0)) (pcN := 1675) jI_379_1673 rfl rfl rfl ?_
  refine jT_xiconst (k := 1) (pcN := 1676) jI_379_1675 rfl ?_
  refine jT_xiadd (x := 0) (y := 1) (z := 1) (pcN := 1677) jI_379_1676 rfl (by decide) rfl ?_
  refine jT_adv 1 (pcN := 1678) (LN := [(5, (0, 0)), (4, (4, 3)), (3, (4, 2)), (2, (4, 1)), (1, (4, 0)), (0, (6, 0))]) (stN := [(0, x1), (4, 0)]) (hsN := jpA_2886) (c1 := 0) (s1 := 0) (c2 := 0) (s2 := 0) (by exact rfl) ?_ (by omega) (by omega)
  refine jT_xaload_n (v := (6, 0)) (pcN := 1679) jI_379_1678 rfl rfl rfl ?_
  refine jT_xiload (v := (0, 0)) (pcN := 1681) jI_379_1679 rfl rfl rfl ?_
  refine jT_xiconst (k := 2) (pcN := 1682) jI_379_1681 rfl ?_
  refine jT_xiadd (x := 0) (y := 2) (z := 2) (pcN := 1683) jI_379_1682 rfl (by decide) rfl ?_
  refine jT_adv 1 (pcN := 1684) (LN := [(5, (0, 0)), (4, (4, 3)), (3, (4, 2)), (2, (4, 1)), (1, (4, 0)), (0, (6, 0))]) (stN := [(0, x2), (0, x1), (4, 0)]) (hsN := jpA_2886) (c1 := 0) (s1 := 0) (c2 := 0) (s2 := 0) (by exact rfl) ?_ (by omega) (by omega)
  refine jT_eq (LN := [(5, (0, 0)), (4, (4, 3)), (3, (4, 2)), (2, (4, 1)), (1, (4, 0)), (0, (6, 0))]) (stN := [(0, 5), (0, x1), (4, 0)]) (hsN := [jzA_265, jzA_266, (101, [], [0]), jgh, jgh, jgh, jgh, jgh, jgh, jgh, jgh, jgh, jgh, jgh, jzA_322, (100, [], jS0), jgh, jgh, jgh, jgh, jgh, jgh, jgh, jgh, jgh, jgh, jgh, jgh, jgh, jgh, jzA_2127, jgh, jgh, jgh, jgh, (4, [(4, 36), (1, 1)], []), (101, [], [0, 0, 0, 0, 0, 0])]) (rfl) (by simp only [List.cons.injEq, Prod.mk.injEq, and_true, true_and] <;> ((try unfold jw); (try unfold jwl); omega)) (rfl) ?_
  refine jT_xaload_n (v := (4, 2)) (pcN := 1685) jI_379_1684 rfl rfl rfl ?_
  refine jT_fR [0, 2, 4, 5, 6, 7, 8, 9, 10, 11, 12, 13, 14, 30, 31, 32, 33, 34, 35, 36] 37 (y := 344) (pcN := 1688) (dC := 2) (bc1 := 0) (bc2 := 0) (c1 := 0) (c2 := 0) (as := [(4, 0), (0, x1), (0, 5), (4, 2)]) (asC := [(4, 0), (0, x1), (0, 5), (4, 1)]) (LN := [(5, (0, 0)), (4, (4, 3)), (3, (4, 2)), (2, (4, 1)), (1, (4, 0)), (0, (6, 0))]) (stN := []) (hsC := jpA_2846) (v := (0, 0)) (st2 := [(0, 0)]) (jA_344_755 (d := 0) (by omega)) (by rfl) (by rfl) (by decide +kernel) (by rfl) (by rfl) (by omega) (by omega) (by omega) (by omega) rfl ?_
  refine jT_xistore (v := (0, 0)) (LN := [(6, (0, 0)), (5, (0, 0)), (4, (4, 3)), (3, (4, 2)), (2, (4, 1)), (1, (4, 0)), (0, (6, 0))]) (pcN := 1690) jI_379_1688 rfl rfl rfl rfl ?_
  refine jT_xaload_n (v := (4, 1)) (pcN := 1691) jI_379_1690 rfl rfl rfl ?_
  refine jT_xaload_n (v := (6, 0)) (pcN := 1692) jI_379_1691 rfl rfl rfl ?_
  refine jT_xiload (v := (0, 0)) (pcN := 1694) jI_379_1692 rfl rfl rfl ?_
  refine jT_xiconst (k := 1) (pcN := 1695) jI_379_1694 rfl ?_
  refine jT_xiadd (x := 0) (y := 1) (z := 1) (pcN := 1696) jI_379_1695 rfl (by decide) rfl ?_
  refine jT_adv 1 (pcN := 1697) (LN := [(6, (0, 0)), (5, (0, 0)), (4, (4, 3)), (3, (4, 2)), (2, (4, 1)), (1, (4, 0)), (0, (6, 0))]) (stN := [(0, x1), (4, 1)]) (hsN := jpA_2886) (c1 := 0) (s1 := 0) (c2 := 0) (s2 := 0) (by exact rfl) ?_ (by omega) (by omega)
  refine jT_xaload_n (v := (6, 0)) (pcN := 1698) jI_379_1697 rfl rfl rfl ?_
  refine jT_xiload (v := (0, 0)) (pcN := 1700) jI_379_1698 rfl rfl rfl ?_
  refine jT_xiconst (k := 2) (pcN := 1701) jI_379_1700 rfl ?_
  refine jT_xiadd (x := 0) (y := 2) (z := 2) (pcN := 1702) jI_379_1701 rfl (by decide) rfl ?_
  refine jT_adv 1 (pcN := 1703) (LN := [(6, (0, 0)), (5, (0, 0)), (4, (4, 3)), (3, (4, 2)), (2, (4, 1)), (1, (4, 0)), (0, (6, 0))]) (stN := [(0, x2), (0, x1), (4, 1)]) (hsN := jpA_2886) (c1 := 0) (s1 := 0) (c2 := 0) (s2 := 0) (by exact rfl) ?_ (by omega) (by omega)
  refine jT_eq (LN := [(6, (0, 0)), (5, (0, 0)), (4, (4, 3)), (3, (4, 2)), (2, (4, 1)), (1, (4, 0)), (0, (6, 0))]) (stN := [(0, 5), (0, x1), (4, 1)]) (hsN := [jzA_265, jzA_266, (101, [], [0]), jgh, jgh, jgh, jgh, jgh, jgh, jgh, jgh, jgh, jgh, jgh, jzA_322, (100, [], jS0), jgh, jgh, jgh, jgh, jgh, jgh, jgh, jgh, jgh, jgh, jgh, jgh, jgh, jgh, jzA_2127, jgh, jgh, jgh, jgh, (4, [(4, 36), (1, 1)], []), (101, [], [0, 0, 0, 0, 0, 0])]) (rfl) (by simp only [List.cons.injEq, Prod.mk.injEq, and_true, true_and] <;> ((try unfold jw); (try unfold jwl); omega)) (rfl) ?_
  refine jT_fR [1, 15, 16, 17, 18, 19, 20, 21, 22, 23, 24, 25, 26, 27, 28, 29] 37 (y := 260) (pcN := 1706) (dC := 2) (bc1 := 0) (bc2 := 0) (c1 := 0) (c2 := 0) (as := [(4, 1), (0, x1), (0, 5)]) (asC := [(4, 0), (0, x1), (0, 5)]) (LN := [(6, (0, 0)), (5, (0, 0)), (4, (4, 3)), (3, (4, 2)), (2, (4, 1)), (1, (4, 0)), (0, (6, 0))]) (stN := []) (hsC := jpA_1519) (v := (0, 0)) (st2 := [(0, 0)]) (jA_260_757 (d := 0) (by omega)) (by rfl) (by rfl) (by decide +kernel) (by rfl) (by rfl) (by omega) (by omega) (by omega) (by omega) rfl ?_
  refine jT_xistore (v := (0, 0)) (LN := [(7, (0, 0)), (6, (0, 0)), (5, (0, 0)), (4, (4, 3)), (3, (4, 2)), (2, (4, 1)), (1, (4, 0)), (0, (6, 0))]) (pcN := 1708) jI_379_1706 rfl rfl rfl rfl ?_
  refine jT_xaload_n (v := (4, 1)) (pcN := 1709) jI_379_1708 rfl rfl rfl ?_
  refine jT_fR [1, 15, 16, 17, 18, 19, 20, 21, 22, 23, 24, 25, 26, 27, 28, 29] 37 (y := 186) (pcN := 1712) (dC := 0) (bc1 := 0) (bc2 := 0) (c1 := 0) (c2 := 0) (as := [(4, 1)]) (asC := [(4, 0)]) (LN := [(7, (0, 0)), (6, (0, 0)), (5, (0, 0)), (4, (4, 3)), (3, (4, 2)), (2, (4, 1)), (1, (4, 0)), (0, (6, 0))]) (stN := []) (hsC := jpA_22) (v := (0, 0)) (st2 := [(0, 0)]) (jA_186_726 (d := 0)) (by rfl) (by rfl) (by decide +kernel) (by rfl) (by rfl) (by omega) (by omega) (by omega) (by omega) rfl ?_
  refine jT_xiload (v := (0, 0)) (pcN := 1714) jI_379_1712 rfl rfl rfl ?_
  refine jT_xicT (pcN := 1719) jI_379_1714 rfl (by decide +kernel) rfl ?_
  refine jT_xiload (v := (0, 0)) (pcN := 1721) jI_379_1719 rfl rfl rfl ?_
  refine jT_xifF (t := 1736) (pcN := 1724) jI_379_1721 rfl (by decide +kernel) rfl rfl ?_
  refine jT_xaload_n (v := (4, 2)) (pcN := 1725) jI_379_1724 rfl rfl rfl ?_
  refine jT_xiconst (k := 0) (pcN := 1726) jI_379_1725 rfl ?_
  refine jT_lald (x := 0) (a := 2) (j := 0) (fs := []) (X := [0]) jI_379_1726 rfl rfl rfl rfl ?_
  refine jT_eq (LN := [(7, (0, 0)), (6, (0, 0)), (5, (0, 0)), (4, (4, 3)), (3, (4, 2)), (2, (4, 1)), (1, (4, 0)), (0, (6, 0))]) (stN := [(1, 0)]) (hsN := jpA_2886) rfl rfl rfl ?_
  refine jT_xiload (v := (0, 0)) (pcN := 1729) jI_379_1727 rfl rfl rfl ?_
  refine jT_xi2l (x := 0) (z := 0) (pcN := 1730) jI_379_1729 rfl (by decide +kernel) rfl ?_
  refine jT_lcmp (a := 0) (b := 0) (z := 0) (by rfl) (by rfl) (by decide +kernel) (by decide +kernel) (by decide) ?_
  refine jT_xifT (pcN := 1736) jI_379_1731 rfl (by decide +kernel) rfl ?_
  refine jT_xgoto (pcN := 3740) jI_379_1736 rfl ?_
  refine jT_xiinc (x := 0) (z := 5) (LN := [(5, (0, 5)), (7, (0, 0)), (6, (0, 0)), (4, (4, 3)), (3, (4, 2)), (2, (4, 1)), (1, (4, 0)), (0, (6, 0))]) (pcN := 3743) jI_379_3740 rfl rfl (by decide) rfl rfl ?_
  refine jT_xgoto (pcN := 28) jI_379_3743 rfl ?_
  refine jT_xiload (v := (0, 5)) (pcN := 30) jI_379_28 rfl rfl rfl ?_
  refine jT_xaload_n (v := (6, 0)) (pcN := 31) jI_379_30 rfl rfl rfl ?_
  refine jT_adv 1 (pcN := 32) (LN := [(5, (0, 5)), (7, (0, 0)), (6, (0, 0)), (4, (4, 3)), (3, (4, 2)), (2, (4, 1)), (1, (4, 0)), (0, (6, 0))]) (stN := [(0, 5), (0, 5)]) (hsN := jpA_2886) (c1 := 0) (s1 := 0) (c2 := 0) (s2 := 0) (by exact rfl) ?_ (by omega) (by omega)
  refine jT_xiconst (k := 5) (pcN := 33) jI_379_32 rfl ?_
  refine jT_xisub (x := 5) (y := 5) (z := 0) (pcN := 34) jI_379_33 rfl (by decide) rfl ?_
  refine jT_xicT (pcN := 3746) jI_379_34 rfl (by decide +kernel) rfl ?_
  refine jT_xiconst (k := 1) (pcN := 3747) jI_379_3746 rfl ?_
  exact jT_ret rfl (by decide) (by show 37 ≤ 37; decide) (by omega) (by omega) ⟨rfl, rfl⟩
set_option maxRecDepth 100000 in
theorem jL_19_8 {d : Nat} {x0 x1 x2 x3 x4 : Int} (h_x0 : (-2147483648) ≤ x0 ∧ x0 ≤ 2147483647) (h_x1 : 0 ≤ x1 ∧ x1 ≤ 7) (h_x2 : 6 ≤ x2 ∧ x2 ≤ 2147483647) (h_x3 : (-2147483648) ≤ x3 ∧ x3 ≤ 2147483647) (h_x4 : (-2147483648) ≤ x4 ∧ x4 ≤ 2147483647) : jT [x0, x1, x2, x3, x4] (d + 3) 379 30 1671 [(5, (0, 0)), (4, (4, 3)), (3, (4, 2)), (2, (4, 1)), (1, (4, 0)), (0, (6, 0))] [] jpA_267 1 6 (fun k v hsN => k = 0 ∧ v = (0, 1)) := by
  refine jT_xaload_n (v := (4, 0)) (pcN := 1672) jI_379_1671 rfl rfl rfl ?_
  refine jT_xaload_n (v := (6, 0)) (pcN := 1673) jI_379_1672 rfl rfl rfl ?_
  refine jT_xiload (v := (0, 0)) (pcN := 1675) jI_379_1673 rfl rfl rfl ?_
  refine jT_xiconst (k := 1) (pcN := 1676) jI_379_1675 rfl ?_
  refine jT_xiadd (x := 0) (y := 1) (z := 1) (pcN := 1677) jI_379_1676 rfl (by decide) rfl ?_
  refine jT_adv 1 (pcN := 1678) (LN := [(5, (0, 0)), (4, (4, 3)), (3, (4, 2)), (2, (4, 1)), (1, (4, 0)), (0, (6, 0))]) (stN := [(0, x1), (4, 0)]) (hsN := jpA_267) (c1 := 0) (s1 := 0) (c2 := 1) (s2 := 6) (by exact rfl) ?_ (by omega) (by omega)
  refine jT_xaload_n (v := (6, 0)) (pcN := 1679) jI_379_1678 rfl rfl rfl ?_
  refine jT_xiload (v := (0, 0)) (pcN := 1681) jI_379_1679 rfl rfl rfl ?_
  refine jT_xiconst (k := 2) (pcN := 1682) jI_379_1681 rfl ?_
  refine jT_xiadd (x := 0) (y := 2) (z := 2) (pcN := 1683) jI_379_1682 rfl (by decide) rfl ?_
  refine jT_adv 1 (pcN := 1684) (LN := [(5, (0, 0)), (4, (4, 3)), (3, (4, 2)), (2, (4, 1)), (1, (4, 0)), (0, (6, 0))]) (stN := [(0, x2), (0, x1), (4, 0)]) (hsN := jpA_267) (c1 := 0) (s1 := 0) (c2 := 1) (s2 := 6) (by exact rfl) ?_ (by omega) (by omega)
  refine jT_xaload_n (v := (4, 2)) (pcN := 1685) jI_379_1684 rfl rfl rfl ?_
  refine jT_fR [0, 2, 4, 5, 6, 7, 8, 9, 10, 11, 12, 13, 14] 30 (y := 344) (pcN := 1688) (dC := 2) (bc1 := 1) (bc2 := 6) (c1 := 0) (c2 := 0) (as := [(4, 0), (0, x1), (0, x2), (4, 2)]) (asC := [(4, 0), (0, x1), (0, x2), (4, 1)]) (LN := [(5, (0, 0)), (4, (4, 3)), (3, (4, 2)), (2, (4, 1)), (1, (4, 0)), (0, (6, 0))]) (stN := []) (hsC := jpA_15) (v := (0, 1)) (st2 := [(0, 1)]) (jA_344_760 (d := 0) (by omega) (by omega)) (by rfl) (by rfl) (by decide +kernel) (by rfl) (by rfl) (by omega) (by omega) (by omega) (by omega) rfl ?_
  refine jT_xistore (v := (0, 1)) (LN := [(6, (0, 1)), (5, (0, 0)), (4, (4, 3)), (3, (4, 2)), (2, (4, 1)), (1, (4, 0)), (0, (6, 0))]) (pcN := 1690) jI_379_1688 rfl rfl rfl rfl ?_
  refine jT_xaload_n (v := (4, 1)) (pcN := 1691) jI_379_1690 rfl rfl rfl ?_
  refine jT_xaload_n (v := (6, 0)) (pcN := 1692) jI_379_1691 rfl rfl rfl ?_
  refine jT_xiload (v := (0, 0)) (pcN := 1694) jI_379_1692 rfl rfl rfl ?_
  refine jT_xiconst (k := 1) (pcN := 1695) jI_379_1694 rfl ?_
  refine jT_xiadd (x := 0) (y := 1) (z := 1) (pcN := 1696) jI_379_1695 rfl (by decide) rfl ?_
  refine jT_adv 1 (pcN := 1697) (LN := [(6, (0, 1)), (5, (0, 0)), (4, (4, 3)), (3, (4, 2)), (2, (4, 1)), (1, (4, 0)), (0, (6, 0))]) (stN := [(0, x1), (4, 1)]) (hsN := jpA_267) (c1 := 0) (s1 := 0) (c2 := 0) (s2 := 0) (by exact rfl) ?_ (by omega) (by omega)
  refine jT_xaload_n (v := (6, 0)) (pcN := 1698) jI_379_1697 rfl rfl rfl ?_
  refine jT_xiload (v := (0, 0)) (pcN := 1700) jI_379_1698 rfl rfl rfl ?_
  refine jT_xiconst (k := 2) (pcN := 1701) jI_379_1700 rfl ?_
  refine jT_xiadd (x := 0) (y := 2) (z := 2) (pcN := 1702) jI_379_1701 rfl (by decide) rfl ?_
  refine jT_adv 1 (pcN := 1703) (LN := [(6, (0, 1)), (5, (0, 0)), (4, (4, 3)), (3, (4, 2)), (2, (4, 1)), (1, (4, 0)), (0, (6, 0))]) (stN := [(0, x2), (0, x1), (4, 1)]) (hsN := jpA_267) (c1 := 0) (s1 := 0) (c2 := 0) (s2 := 0) (by exact rfl) ?_ (by omega) (by omega)
  refine jT_fB [1, 15, 16, 17, 18, 19, 20, 21, 22, 23, 24, 25, 26, 27, 28, 29] 30 (y := 260) (pcN := 1706) (dC := 2) (bc1 := 0) (bc2 := 0) (c1 := 0) (c2 := 0) (as := [(4, 1), (0, x1), (0, x2)]) (asC := [(4, 0), (0, x1), (0, x2)]) (LN := [(6, (0, 1)), (5, (0, 0)), (4, (4, 3)), (3, (4, 2)), (2, (4, 1)), (1, (4, 0)), (0, (6, 0))]) (stN := []) (hsC := jpA_22) (hsD := jpA_20) (v := (0, 0)) (st2 := [(0, 0)]) (hs2 := jpA_306) (jA_260_761 (d := 0) (by omega) (by omega)) (by rfl) (by rfl) (by decide +kernel) (by rfl) (by rfl) (by omega) (by omega) (by omega) (by omega) rfl (by decide +kernel) ?_
  refine jT_xistore (v := (0, 0)) (LN := [(7, (0, 0)), (6, (0, 1)), (5, (0, 0)), (4, (4, 3)), (3, (4, 2)), (2, (4, 1)), (1, (4, 0)), (0, (6, 0))]) (pcN := 1708) jI_379_1706 rfl rfl rfl rfl ?_
  refine jT_xaload_n (v := (4, 1)) (pcN := 1709) jI_379_1708 rfl rfl rfl ?_
  refine jT_fR [1, 15, 16, 17, 18, 19, 20, 21, 22, 23, 24, 25, 26, 27, 28, 29] 30 (y := 186) (pcN := 1712) (dC := 0) (bc1 := 0) (bc2 := 0) (c1 := 0) (c2 := 0) (as := [(4, 1)]) (asC := [(4, 0)]) (LN := [(7, (0, 0)), (6, (0, 1)), (5, (0, 0)), (4, (4, 3)), (3, (4, 2)), (2, (4, 1)), (1, (4, 0)), (0, (6, 0))]) (stN := []) (hsC := jpA_20) (v := (0, 1)) (st2 := [(0, 1)]) (jA_186_8 (d := 0)) (by rfl) (by rfl) (by decide +kernel) (by rfl) (by rfl) (by omega) (by omega) (by omega) (by omega) rfl ?_
  refine jT_xiload (v := (0, 1)) (pcN := 1714) jI_379_1712 rfl rfl rfl ?_
  refine jT_xicT (pcN := 1719) jI_379_1714 rfl (by decide +kernel) rfl ?_
  refine jT_xiload (v := (0, 1)) (pcN := 1721) jI_379_1719 rfl rfl rfl ?_
  refine jT_xifT (pcN := 1736) jI_379_1721 rfl (by decide +kernel) rfl ?_
  refine jT_xgoto (pcN := 3740) jI_379_1736 rfl ?_
  refine jT_xiinc (x := 0) (z := 5) (LN := [(5, (0, 5)), (7, (0, 0)), (6, (0, 1)), (4, (4, 3)), (3, (4, 2)), (2, (4, 1)), (1, (4, 0)), (0, (6, 0))]) (pcN := 3743) jI_379_3740 rfl rfl (by decide) rfl rfl ?_
  refine jT_xgoto (pcN := 28) jI_379_3743 rfl ?_
  refine jT_xiload (v := (0, 5)) (pcN := 30) jI_379_28 rfl rfl rfl ?_
  refine jT_xaload_n (v := (6, 0)) (pcN := 31) jI_379_30 rfl rfl rfl ?_
  refine jT_adv 1 (pcN := 32) (LN := [(5, (0, 5)), (7, (0, 0)), (6, (0, 1)), (4, (4, 3)), (3, (4, 2)), (2, (4, 1)), (1, (4, 0)), (0, (6, 0))]) (stN := [(0, 5), (0, 5)]) (hsN := jpA_306) (c1 := 0) (s1 := 0) (c2 := 0) (s2 := 0) (by exact rfl) ?_ (by omega) (by omega)
  refine jT_xiconst (k := 5) (pcN := 33) jI_379_32 rfl ?_
  refine jT_xisub (x := 5) (y := 5) (z := 0) (pcN := 34) jI_379_33 rfl (by decide) rfl ?_
  refine jT_xicT (pcN := 3746) jI_379_34 rfl (by decide +kernel) rfl ?_
  refine jT_xiconst (k := 1) (pcN := 3747) jI_379_3746 rfl ?_
  exact jT_ret rfl (by decide) (by show 30 ≤ 30; decide) (by omega) (by omega) ⟨rfl, rfl⟩
set_option maxRecDepth 100000 in
theorem jL_19_9 {d : Nat} {x0 x1 x2 x3 x4 : Int} (h_x0 : (-2147483648) ≤ x0 ∧ x0 ≤ 2147483647) (h_x1 : 8 ≤ x1 ∧ x1 ≤ 2147483647) (h_x2 : (-2147483648) ≤ x2 ∧ x2 ≤ 2147483647) (h_x3 : (-2147483648) ≤ x3 ∧ x3 ≤ 2147483647) (h_x4 : (-2147483648) ≤ x4 ∧ x4 ≤ 2147483647) : jT [x0, x1, x2, x3, x4] (d + 3) 379 30 1671 [(5, (0, 0)), (4, (4, 3)), (3, (4, 2)), (2, (4, 1)), (1, (4, 0)), (0, (6, 0))] [] jpA_267 1 6 (fun k v hsN => k = 0 ∧ v = (0, 1)) := by
  refine jT_xaload_n (v := (4, 0)) (pcN := 1672) jI_379_1671 rfl rfl rfl ?_
  refine jT_xaload_n (v := (6, 0)) (pcN := 1673) jI_379_1672 rfl rfl rfl ?_
  refine jT_xiload (v := (0, 0)) (pcN := 1675) jI_379_1673 rfl rfl rfl ?_
  refine jT_xiconst (k := 1) (pcN := 1676) jI_379_1675 rfl ?_
  refine jT_xiadd (x := 0) (y := 1) (z := 1) (pcN := 1677) jI_379_1676 rfl (by decide) rfl ?_
  refine jT_adv 1 (pcN := 1678) (LN := [(5, (0, 0)), (4, (4, 3)), (3, (4, 2)), (2, (4, 1)), (1, (4, 0)), (0, (6, 0))]) (stN := [(0, x1), (4, 0)]) (hsN := jpA_267) (c1 := 0) (s1 := 0) (c2 := 1) (s2 := 6) (by exact rfl) ?_ (by omega) (by omega)
  refine jT_xaload_n (v := (6, 0)) (pcN := 1679) jI_379_1678 rfl rfl rfl ?_
  refine jT_xiload (v := (0, 0)) (pcN := 1681) jI_379_1679 rfl rfl rfl ?_
  refine jT_xiconst (k := 2) (pcN := 1682) jI_379_1681 rfl ?_
  refine jT_xiadd (x := 0) (y := 2) (z := 2) (pcN := 1683) jI_379_1682 rfl (by decide) rfl ?_
  refine jT_adv 1 (pcN := 1684) (LN := [(5, (0, 0)), (4, (4, 3)), (3, (4, 2)), (2, (4, 1)), (1, (4, 0)), (0, (6, 0))]) (stN := [(0, x2), (0, x1), (4, 0)]) (hsN := jpA_267) (c1 := 0) (s1 := 0) (c2 := 1) (s2 := 6) (by exact rfl) ?_ (by omega) (by omega)
  refine jT_xaload_n (v := (4, 2)) (pcN := 1685) jI_379_1684 rfl rfl rfl ?_
  refine jT_fR [0, 2, 4, 5, 6, 7, 8, 9, 10, 11, 12, 13, 14] 30 (y := 344) (pcN := 1688) (dC := 2) (bc1 := 1) (bc2 := 6) (c1 := 0) (c2 := 0) (as := [(4, 0), (0, x1), (0, x2), (4, 2)]) (asC := [(4, 0), (0, x1), (0, x2), (4, 1)]) (LN := [(5, (0, 0)), (4, (4, 3)), (3, (4, 2)), (2, (4, 1)), (1, (4, 0)), (0, (6, 0))]) (stN := []) (hsC := jpA_15) (v := (0, 1)) (st2 := [(0, 1)]) (jA_344_763 (d := 0) (by omega) (by omega)) (by rfl) (by rfl) (by decide +kernel) (by rfl) (by rfl) (by omega) (by omega) (by omega) (by omega) rfl ?_
  refine jT_xistore (v := (0, 1)) (LN := [(6, (0, 1)), (5, (0, 0)), (4, (4, 3)), (3, (4, 2)), (2, (4, 1)), (1, (4, 0)), (0, (6, 0))]) (pcN := 1690) jI_379_1688 rfl rfl rfl rfl ?_
  refine jT_xaload_n (v := (4, 1)) (pcN := 1691) jI_379_1690 rfl rfl rfl ?_
  refine jT_xaload_n (v := (6, 0)) (pcN := 1692) jI_379_1691 rfl rfl rfl ?_
  refine jT_xiload (v := (0, 0)) (pcN := 1694) jI_379_1692 rfl rfl rfl ?_
  refine jT_xiconst (k := 1) (pcN := 1695) jI_379_1694 rfl ?_
  refine jT_xiadd (x := 0) (y := 1) (z := 1) (pcN := 1696) jI_379_1695 rfl (by decide) rfl ?_
  refine jT_adv 1 (pcN := 1697) (LN := [(6, (0, 1)), (5, (0, 0)), (4, (4, 3)), (3, (4, 2)), (2, (4, 1)), (1, (4, 0)), (0, (6, 0))]) (stN := [(0, x1), (4, 1)]) (hsN := jpA_267) (c1 := 0) (s1 := 0) (c2 := 0) (s2 := 0) (by exact rfl) ?_ (by omega) (by omega)
  refine jT_xaload_n (v := (6, 0)) (pcN := 1698) jI_379_1697 rfl rfl rfl ?_
  refine jT_xiload (v := (0, 0)) (pcN := 1700) jI_379_1698 rfl rfl rfl ?_
  refine jT_xiconst (k := 2) (pcN := 1701) jI_379_1700 rfl ?_
  refine jT_xiadd (x := 0) (y := 2) (z := 2) (pcN := 1702) jI_379_1701 rfl (by decide) rfl ?_
  refine jT_adv 1 (pcN := 1703) (LN := [(6, (0, 1)), (5, (0, 0)), (4, (4, 3)), (3, (4, 2)), (2, (4, 1)), (1, (4, 0)), (0, (6, 0))]) (stN := [(0, x2), (0, x1), (4, 1)]) (hsN := jpA_267) (c1 := 0) (s1 := 0) (c2 := 0) (s2 := 0) (by exact rfl) ?_ (by omega) (by omega)
  refine jT_fB [1, 15, 16, 17, 18, 19, 20, 21, 22, 23, 24, 25, 26, 27, 28, 29] 30 (y := 260) (pcN := 1706) (dC := 2) (bc1 := 0) (bc2 := 0) (c1 := 0) (c2 := 0) (as := [(4, 1), (0, x1), (0, x2)]) (asC := [(4, 0), (0, x1), (0, x2)]) (LN := [(6, (0, 1)), (5, (0, 0)), (4, (4, 3)), (3, (4, 2)), (2, (4, 1)), (1, (4, 0)), (0, (6, 0))]) (stN := []) (hsC := jpA_22) (hsD := jpA_20) (v := (0, 0)) (st2 := [(0, 0)]) (hs2 := jpA_306) (jA_260_764 (d := 0) (by omega) (by omega)) (by rfl) (by rfl) (by decide +kernel) (by rfl) (by rfl) (by omega) (by omega) (by omega) (by omega) rfl (by decide +kernel) ?_
  refine jT_xistore (v := (0, 0)) (LN := [(7, (0, 0)), (6, (0, 1)), (5, (0, 0)), (4, (4, 3)), (3, (4, 2)), (2, (4, 1)), (1, (4, 0)), (0, (6, 0))]) (pcN := 1708) jI_379_1706 rfl rfl rfl rfl ?_
  refine jT_xaload_n (v := (4, 1)) (pcN := 1709) jI_379_1708 rfl rfl rfl ?_
  refine jT_fR [1, 15, 16, 17, 18, 19, 20, 21, 22, 23, 24, 25, 26, 27, 28, 29] 30 (y := 186) (pcN := 1712) (dC := 0) (bc1 := 0) (bc2 := 0) (c1 := 0) (c2 := 0) (as := [(4, 1)]) (asC := [(4, 0)]) (LN := [(7, (0, 0)), (6, (0, 1)), (5, (0, 0)), (4, (4, 3)), (3, (4, 2)), (2, (4, 1)), (1, (4, 0)), (0, (6, 0))]) (stN := []) (hsC := jpA_20) (v := (0, 1)) (st2 := [(0, 1)]) (jA_186_8 (d := 0)) (by rfl) (by rfl) (by decide +kernel) (by rfl) (by rfl) (by omega) (by omega) (by omega) (by omega) rfl ?_
  refine jT_xiload (v := (0, 1)) (pcN := 1714) jI_379_1712 rfl rfl rfl ?_
  refine jT_xicT (pcN := 1719) jI_379_1714 rfl (by decide +kernel) rfl ?_
  refine jT_xiload (v := (0, 1)) (pcN := 1721) jI_379_1719 rfl rfl rfl ?_
  refine jT_xifT (pcN := 1736) jI_379_1721 rfl (by decide +kernel) rfl ?_
  refine jT_xgoto (pcN := 3740) jI_379_1736 rfl ?_
  refine jT_xiinc (x := 0) (z := 5) (LN := [(5, (0, 5)), (7, (0, 0)), (6, (0, 1)), (4, (4, 3)), (3, (4, 2)), (2, (4, 1)), (1, (4, 0)), (0, (6, 0))]) (pcN := 3743) jI_379_3740 rfl rfl (by decide) rfl rfl ?_
  refine jT_xgoto (pcN := 28) jI_379_3743 rfl ?_
  refine jT_xiload (v := (0, 5)) (pcN := 30) jI_379_28 rfl rfl rfl ?_
  refine jT_xaload_n (v := (6, 0)) (pcN := 31) jI_379_30 rfl rfl rfl ?_
  refine jT_adv 1 (pcN := 32) (LN := [(5, (0, 5)), (7, (0, 0)), (6, (0, 1)), (4, (4, 3)), (3, (4, 2)), (2, (4, 1)), (1, (4, 0)), (0, (6, 0))]) (stN := [(0, 5), (0, 5)]) (hsN := jpA_306) (c1 := 0) (s1 := 0) (c2 := 0) (s2 := 0) (by exact rfl) ?_ (by omega) (by omega)
  refine jT_xiconst (k := 5) (pcN := 33) jI_379_32 rfl ?_
  refine jT_xisub (x := 5) (y := 5) (z := 0) (pcN := 34) jI_379_33 rfl (by decide) rfl ?_
  refine jT_xicT (pcN := 3746) jI_379_34 rfl (by decide +kernel) rfl ?_
  refine jT_xiconst (k := 1) (pcN := 3747) jI_379_3746 rfl ?_
  exact jT_ret rfl (by decide) (by show 30 ≤ 30; decide) (by omega) (by omega) ⟨rfl, rfl⟩
theorem jI_138_0 : jmI (jm 138) 0 = (.aload_n 0, 1) := by rfl
theorem jI_138_1 : jmI (jm 138) 1 = (.iload_n 1, 1) := by rfl
theorem jI_138_2 : jmI (jm 138) 2 = (.bipush 8, 2) := by rfl
theorem jA_138_765 {xs : List Int} {d : Nat} {x1 : Int} (h_x1 : (-2147483648) ≤ x1 ∧ x1 ≤ (-1)) : jT xs (d + 1) 138 12 0 [(0, (4, 0)), (1, (0, x1))] [] jpA_6 1 6 (fun k v hsN => k = 1 ∧ v = (0, 0) ∧ hsN = jpA_6 ++ []) := by
  refine jT_xaload_n (v := (4, 0)) (pcN := 1) jI_138_0 rfl rfl rfl ?_
  refine jT_xiload_n (v := (0, x1)) (pcN := 2) jI_138_1 rfl rfl rfl ?_
  refine jT_xbipush (k := 8) (pcN := 4) jI_138_2 (by decide) rfl ?_
  exact jT_fX [0] 12 (y := 115) (pcN := 7) (dC := 0) (bc1 := 1) (bc2 := 6) (as := [(4, 0), (0, x1), (0, 8)]) (asC := [(4, 0), (0, x1), (0, 8)]) (LN := [(0, (4, 0)), (1, (0, x1))]) (stN := []) (hsC := [jgh]) (e := 0) (jA_115_1 (d := 0) (by omega)) (by rfl) (by rfl) (by decide +kernel) (by rfl) (by rfl) (by omega) (by omega) (by omega) (by omega) ⟨rfl, ⟨rfl, rfl, rfl⟩⟩
theorem jI_345_0 : jmI (jm 345) 0 = (.aload_n 2, 1) := by rfl
theorem jI_345_1 : jmI (jm 345) 1 = (.iconst 0, 1) := by rfl
theorem jI_345_2 : jmI (jm 345) 2 = (.aload_n 0, 1) := by rfl
theorem jI_345_3 : jmI (jm 345) 3 = (.iload_n 1, 1) := by rfl
theorem jA_345_766 {xs : List Int} {d : Nat} {x1 : Int} (h_x1 : (-2147483648) ≤ x1 ∧ x1 ≤ (-1)) : jT xs (d + 2) 345 13 0 [(0, (4, 0)), (1, (0, x1)), (2, (4, 1))] [] jpA_15 1 6 (fun k v hsN => k = 0 ∧ v = (0, 1) ∧ hsN = jpA_15 ++ []) := by
  refine jT_xaload_n (v := (4, 1)) (pcN := 1) jI_345_0 rfl rfl rfl ?_
  refine jT_xiconst (k := 0) (pcN := 2) jI_345_1 rfl ?_
  refine jT_xaload_n (v := (4, 0)) (pcN := 3) jI_345_2 rfl rfl rfl ?_
  refine jT_xiload_n (v := (0, x1)) (pcN := 4) jI_345_3 rfl rfl rfl ?_
  exact jT_fX [0, 2, 3, 4, 5, 6, 7, 8, 9, 10, 11, 12] 13 (y := 138) (pcN := 7) (dC := 1) (bc1 := 1) (bc2 := 6) (as := [(4, 0), (0, x1)]) (asC := [(4, 0), (0, x1)]) (LN := [(0, (4, 0)), (1, (0, x1)), (2, (4, 1))]) (stN := [(0, 0), (4, 1)]) (hsC := jpA_6) (e := 0) (jA_138_765 (d := 0) (by omega)) (by rfl) (by rfl) (by decide +kernel) (by rfl) (by rfl) (by omega) (by omega) (by omega) (by omega) (show _ from ⟨rfl, rfl, rfl⟩)
theorem jI_261_0 : jmI (jm 261) 0 = (.aload_n 0, 1) := by rfl
theorem jI_261_1 : jmI (jm 261) 1 = (.iload_n 1, 1) := by rfl
theorem jI_261_8 : jmI (jm 261) 8 = (.ifCond .eq 7, 3) := by rfl
theorem jI_261_11 : jmI (jm 261) 11 = (.iconst 0, 1) := by rfl
theorem jI_261_12 : jmI (jm 261) 12 = (.goto 15, 3) := by rfl
theorem jA_261_767 {xs : List Int} {d : Nat} {x1 : Int} (h_x1 : (-2147483648) ≤ x1 ∧ x1 ≤ (-1)) : jT xs (d + 2) 261 16 0 [(0, (4, 0)), (1, (0, x1))] [] jpA_22 0 0 (fun k v hsN => k = 0 ∧ v = (0, 0) ∧ hsN = jpA_20) := by
  refine jT_xaload_n (v := (4, 0)) (pcN := 1) jI_261_0 rfl rfl rfl ?_
  refine jT_xiload_n (v := (0, x1)) (pcN := 2) jI_261_1 rfl rfl rfl ?_
  refine jT_fR [] 16 (y := 188) (pcN := 5) (dC := 1) (bc1 := 0) (bc2 := 0) (c1 := 0) (c2 := 0) (as := [(0, x1)]) (asC := [(0, x1)]) (LN := [(0, (4, 0)), (1, (0, x1))]) (stN := [(4, 0)]) (hsC := []) (v := (0, 0)) (st2 := [(0, 0), (4, 0)]) (jA_188_4 (d := 0) (by omega)) (by rfl) (by rfl) (by decide +kernel) (by rfl) (by rfl) (by omega) (by omega) (by omega) (by omega) rfl ?_
  refine jT_fB [0, 1, 2, 3, 4, 5, 6, 7, 8, 9, 10, 11, 12, 13, 14, 15] 16 (y := 190) (pcN := 8) (dC := 1) (bc1 := 0) (bc2 := 0) (c1 := 0) (c2 := 0) (as := [(4, 0), (0, 0)]) (asC := [(4, 0), (0, 0)]) (LN := [(0, (4, 0)), (1, (0, x1))]) (stN := []) (hsC := jpA_22) (hsD := jpA_20) (v := (0, 1)) (st2 := [(0, 1)]) (hs2 := jpA_20) (jA_190_6 (d := 0)) (by rfl) (by rfl) (by decide +kernel) (by rfl) (by rfl) (by omega) (by omega) (by omega) (by omega) rfl (by decide +kernel) ?_
  refine jT_xifF (t := 15) (pcN := 11) jI_261_8 rfl (by decide +kernel) rfl rfl ?_
  refine jT_xiconst (k := 0) (pcN := 12) jI_261_11 rfl ?_
  refine jT_xgoto (pcN := 27) jI_261_12 rfl ?_
  exact jT_ret rfl (by decide) (by show 16 ≤ 16; decide) (by omega) (by omega) ⟨rfl, rfl, rfl⟩
theorem jI_138_7 : jmI (jm 138) 7 = (.aload_n 0, 1) := by rfl
theorem jI_138_8 : jmI (jm 138) 8 = (.getfield 67, 3) := by rfl
theorem jI_138_11 : jmI (jm 138) 11 = (.iload_n 1, 1) := by rfl
theorem jI_138_15 : jmI (jm 138) 15 = (.getfield 102, 3) := by rfl
theorem jI_138_18 : jmI (jm 138) 18 = (.l2i, 1) := by rfl
def jpA_2910 : List JC := [jzA_5, jgh, jgh, jgh, jgh, jgh, jgh, jgh, jgh, jgh, jgh, jzA_88, jzA_89, jgh, jgh, jgh, jgh, (4, [(4, 18), (1, 1)], []), jgh]
theorem jA_138_768 {xs : List Int} {d : Nat} {x1 : Int} (h_x1 : 0 ≤ x1 ∧ x1 ≤ 7) : jT xs (d + 1) 138 19 0 [(0, (4, 0)), (1, (0, x1))] [] jpA_2910 0 0 (fun k v hsN => k = 0 ∧ v = (0, 1) ∧ hsN = jpA_2910 ++ []) := by
  refine jT_xaload_n (v := (4, 0)) (pcN := 1) jI_138_0 rfl rfl rfl ?_
  refine jT_xiload_n (v := (0, x1)) (pcN := 2) jI_138_1 rfl rfl rfl ?_
  refine jT_xbipush (k := 8) (pcN := 4) jI_138_2 (by decide) rfl ?_
  refine jT_fR [0] 19 (y := 115) (pcN := 7) (dC := 0) (bc1 := 0) (bc2 := 0) (c1 := 0) (c2 := 0) (as := [(4, 0), (0, x1), (0, 8)]) (asC := [(4, 0), (0, x1), (0, 8)]) (LN := [(0, (4, 0)), (1, (0, x1))]) (stN := []) (hsC := [jgh]) (v := (9, 0)) (st2 := []) (jA_115_9 (d := 0) (by omega)) (by rfl) (by rfl) (by decide +kernel) (by rfl) (by rfl) (by omega) (by omega) (by omega) (by omega) rfl ?_
  refine jT_xaload_n (v := (4, 0)) (pcN := 8) jI_138_7 rfl rfl rfl ?_
  refine jT_xgetf (a := 0) (t := 1) (ci := 13) (fi := 11) (c := jzA_5) (v := (4, 11)) (pcN := 11) jI_138_8 rfl rfl rfl rfl rfl rfl rfl ?_
  refine jT_xiload_n (v := (0, x1)) (pcN := 12) jI_138_11 rfl rfl rfl ?_
  refine jT_fR [11, 12, 13, 14, 15, 16, 17] 19 (y := 57) (pcN := 15) (dC := 0) (bc1 := 0) (bc2 := 0) (c1 := 0) (c2 := 0) (as := [(4, 11), (0, x1)]) (asC := [(4, 0), (0, x1)]) (LN := [(0, (4, 0)), (1, (0, x1))]) (stN := []) (hsC := jpA_47) (v := (4, 6)) (st2 := [(4, 17)]) (jA_57_108 (d := 0) (by omega)) (by rfl) (by rfl) (by decide +kernel) (by rfl) (by rfl) (by omega) (by omega) (by omega) (by omega) rfl ?_
  refine jT_xgetf (a := 17) (t := 2) (ci := 4) (fi := 1) (c := (4, [(4, 18), (1, 1)], [])) (v := (1, 1)) (pcN := 18) jI_138_15 rfl rfl rfl rfl rfl rfl rfl ?_
  refine jT_xl2i (pcN := 19) jI_138_18 rfl rfl ?_
  exact jT_ret rfl (by decide) (by show 19 ≤ 19; decide) (by omega) (by omega) ⟨rfl, rfl, rfl⟩
theorem jI_345_7 : jmI (jm 345) 7 = (.i2l, 1) := by rfl
def jpA_2912 : List JC := [jzA_14, (101, [], [1]), jgh, jgh, jgh, jgh, jgh, jgh, jgh, jgh, jgh, jgh, jzA_77, jzA_109, jgh, jgh, jgh, jgh, (4, [(4, 19), (1, 1)], []), jgh]
theorem jI_345_9 : jmI (jm 345) 9 = (.goto 6, 3) := by rfl
theorem jI_345_15 : jmI (jm 345) 15 = (.iconst 0, 1) := by rfl
def jpA_2915 : List JC := [jzA_14, (101, [], [0]), jgh, jgh, jgh, jgh, jgh, jgh, jgh, jgh, jgh, jgh, jzA_77, jzA_109, jgh, jgh, jgh, jgh, (4, [(4, 19), (1, 1)], []), jgh]
theorem jA_345_769 {xs : List Int} {d : Nat} {x1 : Int} (h_x1 : 0 ≤ x1 ∧ x1 ≤ 7) : jT xs (d + 2) 345 20 0 [(0, (4, 0)), (1, (0, x1)), (2, (4, 1))] [] jpA_2915 0 0 (fun k v hsN => k = 0 ∧ v = (0, 0) ∧ hsN = jpA_2912) := by
  refine jT_xaload_n (v := (4, 1)) (pcN := 1) jI_345_0 rfl rfl rfl ?_
  refine jT_xiconst (k := 0) (pcN := 2) jI_345_1 rfl ?_
  refine jT_xaload_n (v := (4, 0)) (pcN := 3) jI_345_2 rfl rfl rfl ?_
  refine jT_xiload_n (v := (0, x1)) (pcN := 4) jI_345_3 rfl rfl rfl ?_
  refine jT_fR [0, 2, 3, 4, 5, 6, 7, 8, 9, 10, 11, 12, 13, 14, 15, 16, 17, 18, 19] 20 (y := 138) (pcN := 7) (dC := 1) (bc1 := 0) (bc2 := 0) (c1 := 0) (c2 := 0) (as := [(4, 0), (0, x1)]) (asC := [(4, 0), (0, x1)]) (LN := [(0, (4, 0)), (1, (0, x1)), (2, (4, 1))]) (stN := [(0, 0), (4, 1)]) (hsC := jpA_2910) (v := (0, 1)) (st2 := [(0, 1), (0, 0), (4, 1)]) (jA_138_768 (d := 0) (by omega)) (by rfl) (by rfl) (by decide +kernel) (by rfl) (by rfl) (by omega) (by omega) (by omega) (by omega) rfl ?_
  refine jT_xi2l (x := 1) (z := 1) (pcN := 8) jI_345_7 rfl (by decide +kernel) rfl ?_
  refine jT_adv 1 (pcN := 9) (LN := [(0, (4, 0)), (1, (0, x1)), (2, (4, 1))]) (stN := []) (hsN := jpA_2912) (c1 := 0) (s1 := 0) (c2 := 0) (s2 := 0) (by exact rfl) ?_ (by omega) (by omega)
  refine jT_xgoto (pcN := 15) jI_345_9 rfl ?_
  refine jT_xiconst (k := 0) (pcN := 16) jI_345_15 rfl ?_
  exact jT_ret rfl (by decide) (by show 20 ≤ 20; decide) (by omega) (by omega) ⟨rfl, rfl, rfl⟩
theorem jI_261_15 : jmI (jm 261) 15 = (.aload_n 0, 1) := by rfl
theorem jI_261_16 : jmI (jm 261) 16 = (.getfield 9, 3) := by rfl
theorem jI_261_19 : jmI (jm 261) 19 = (.bipush 7, 2) := by rfl
theorem jI_261_21 : jmI (jm 261) 21 = (.iload_n 1, 1) := by rfl
theorem jI_261_22 : jmI (jm 261) 22 = (.imul, 1) := by rfl
theorem jI_261_23 : jmI (jm 261) 23 = (.bipush 6, 2) := by rfl
theorem jI_261_25 : jmI (jm 261) 25 = (.iadd, 1) := by rfl
theorem jI_261_26 : jmI (jm 261) 26 = (.iaload, 1) := by rfl
theorem jA_261_770 {xs : List Int} {d : Nat} {x1 : Int} (h_x1 : 0 ≤ x1 ∧ x1 ≤ 7) : jT xs (d + 2) 261 16 0 [(0, (4, 0)), (1, (0, x1))] [] jpA_1519 0 0 (fun k v hsN => k = 0 ∧ v = (0, 1) ∧ hsN = jpA_1519 ++ []) := by
  refine jT_xaload_n (v := (4, 0)) (pcN := 1) jI_261_0 rfl rfl rfl ?_
  refine jT_xiload_n (v := (0, x1)) (pcN := 2) jI_261_1 rfl rfl rfl ?_
  refine jT_fR [] 16 (y := 188) (pcN := 5) (dC := 1) (bc1 := 0) (bc2 := 0) (c1 := 0) (c2 := 0) (as := [(0, x1)]) (asC := [(0, x1)]) (LN := [(0, (4, 0)), (1, (0, x1))]) (stN := [(4, 0)]) (hsC := []) (v := (0, 1)) (st2 := [(0, 1), (4, 0)]) (jA_188_13 (d := 0) (by omega)) (by rfl) (by rfl) (by decide +kernel) (by rfl) (by rfl) (by omega) (by omega) (by omega) (by omega) rfl ?_
  refine jT_fR [0, 1, 2, 3, 4, 5, 6, 7, 8, 9, 10, 11, 12, 13, 14, 15] 16 (y := 190) (pcN := 8) (dC := 1) (bc1 := 0) (bc2 := 0) (c1 := 0) (c2 := 0) (as := [(4, 0), (0, 1)]) (asC := [(4, 0), (0, 1)]) (LN := [(0, (4, 0)), (1, (0, x1))]) (stN := []) (hsC := jpA_22) (v := (0, 0)) (st2 := [(0, 0)]) (jA_190_39 (d := 0)) (by rfl) (by rfl) (by decide +kernel) (by rfl) (by rfl) (by omega) (by omega) (by omega) (by omega) rfl ?_
  refine jT_xifT (pcN := 15) jI_261_8 rfl (by decide +kernel) rfl ?_
  refine jT_xaload_n (v := (4, 0)) (pcN := 16) jI_261_15 rfl rfl rfl ?_
  refine jT_xgetf (a := 0) (t := 1) (ci := 14) (fi := 1) (c := jzA_21) (v := (4, 1)) (pcN := 19) jI_261_16 rfl rfl rfl rfl rfl rfl rfl ?_
  refine jT_xbipush (k := 7) (pcN := 21) jI_261_19 (by decide) rfl ?_
  refine jT_xiload_n (v := (0, x1)) (pcN := 22) jI_261_21 rfl rfl rfl ?_
  refine jT_ximul (x := 7) (y := x1) (z := 7 * x1) (pcN := 23) jI_261_22 rfl (rfl) rfl ?_
  refine jT_xbipush (k := 6) (pcN := 25) jI_261_23 (by decide) rfl ?_
  refine jT_xiadd (x := 7 * x1) (y := 6) (z := 7 * x1 + 6) (pcN := 26) jI_261_25 rfl (by omega) rfl ?_
  refine jT_iald (x := 1) (a := 1) (j := (7 * x1 + 6).toNat) (fs := []) (X := jS0) (by rfl) (by rfl) (by rfl) (jw_nn (by omega) (by omega)) (jS0_r6 (by omega) (by omega)) ?_
  refine jT_eq (LN := [(0, (4, 0)), (1, (0, x1))]) (stN := [(0, 1)]) (hsN := jpA_1519) rfl rfl rfl ?_
  exact jT_ret rfl (by decide) (by show 16 ≤ 16; decide) (by omega) (by omega) ⟨rfl, rfl, rfl⟩
theorem jA_138_771 {xs : List Int} {d : Nat} {x1 : Int} (h_x1 : 8 ≤ x1 ∧ x1 ≤ 2147483647) : jT xs (d + 1) 138 12 0 [(0, (4, 0)), (1, (0, x1))] [] jpA_6 1 6 (fun k v hsN => k = 1 ∧ v = (0, 0) ∧ hsN = jpA_6 ++ []) := by
  refine jT_xaload_n (v := (4, 0)) (pcN := 1) jI_138_0 rfl rfl rfl ?_
  refine jT_xiload_n (v := (0, x1)) (pcN := 2) jI_138_1 rfl rfl rfl ?_
  refine jT_xbipush (k := 8) (pcN := 4) jI_138_2 (by decide) rfl ?_
  exact jT_fX [0] 12 (y := 115) (pcN := 7) (dC := 0) (bc1 := 1) (bc2 := 6) (as := [(4, 0), (0, x1), (0, 8)]) (asC := [(4, 0), (0, x1), (0, 8)]) (LN := [(0, (4, 0)), (1, (0, x1))]) (stN := []) (hsC := [jgh]) (e := 0) (jA_115_65 (d := 0) (by omega)) (by rfl) (by rfl) (by decide +kernel) (by rfl) (by rfl) (by omega) (by omega) (by omega) (by omega) ⟨rfl, ⟨rfl, rfl, rfl⟩⟩
theorem jA_345_772 {xs : List Int} {d : Nat} {x1 : Int} (h_x1 : 8 ≤ x1 ∧ x1 ≤ 2147483647) : jT xs (d + 2) 345 13 0 [(0, (4, 0)), (1, (0, x1)), (2, (4, 1))] [] jpA_15 1 6 (fun k v hsN => k = 0 ∧ v = (0, 1) ∧ hsN = jpA_15 ++ []) := by
  refine jT_xaload_n (v := (4, 1)) (pcN := 1) jI_345_0 rfl rfl rfl ?_
  refine jT_xiconst (k := 0) (pcN := 2) jI_345_1 rfl ?_
  refine jT_xaload_n (v := (4, 0)) (pcN := 3) jI_345_2 rfl rfl rfl ?_
  refine jT_xiload_n (v := (0, x1)) (pcN := 4) jI_345_3 rfl rfl rfl ?_
  exact jT_fX [0, 2, 3, 4, 5, 6, 7, 8, 9, 10, 11, 12] 13 (y := 138) (pcN := 7) (dC := 1) (bc1 := 1) (bc2 := 6) (as := [(4, 0), (0, x1)]) (asC := [(4, 0), (0, x1)]) (LN := [(0, (4, 0)), (1, (0, x1)), (2, (4, 1))]) (stN := [(0, 0), (4, 1)]) (hsC := jpA_6) (e := 0) (jA_138_771 (d := 0) (by omega)) (by rfl) (by rfl) (by decide +kernel) (by rfl) (by rfl) (by omega) (by omega) (by omega) (by omega) (show _ from ⟨rfl, rfl, rfl⟩)
theorem jA_261_773 {xs : List Int} {d : Nat} {x1 : Int} (h_x1 : 8 ≤ x1 ∧ x1 ≤ 2147483647) : jT xs (d + 2) 261 16 0 [(0, (4, 0)), (1, (0, x1))] [] jpA_22 0 0 (fun k v hsN => k = 0 ∧ v = (0, 0) ∧ hsN = jpA_20) := by
  refine jT_xaload_n (v := (4, 0)) (pcN := 1) jI_261_0 rfl rfl rfl ?_
  refine jT_xiload_n (v := (0, x1)) (pcN := 2) jI_261_1 rfl rfl rfl ?_
  refine jT_fR [] 16 (y := 188) (pcN := 5) (dC := 1) (bc1 := 0) (bc2 := 0) (c1 := 0) (c2 := 0) (as := [(0, x1)]) (asC := [(0, x1)]) (LN := [(0, (4, 0)), (1, (0, x1))]) (stN := [(4, 0)]) (hsC := []) (v := (0, 0)) (st2 := [(0, 0), (4, 0)]) (jA_188_68 (d := 0) (by omega)) (by rfl) (by rfl) (by decide +kernel) (by rfl) (by rfl) (by omega) (by omega) (by omega) (by omega) rfl ?_
  refine jT_fB [0, 1, 2, 3, 4, 5, 6, 7, 8, 9, 10, 11, 12, 13, 14, 15] 16 (y := 190) (pcN := 8) (dC := 1) (bc1 := 0) (bc2 := 0) (c1 := 0) (c2 := 0) (as := [(4, 0), (0, 0)]) (asC := [(4, 0), (0, 0)]) (LN := [(0, (4, 0)), (1, (0, x1))]) (stN := []) (hsC := jpA_22) (hsD := jpA_20) (v := (0, 1)) (st2 := [(0, 1)]) (hs2 := jpA_20) (jA_190_6 (d := 0)) (by rfl) (by rfl) (by decide +kernel) (by rfl) (by rfl) (by omega) (by omega) (by omega) (by omega) rfl (by decide +kernel) ?_
  refine jT_xifF (t := 15) (pcN := 11) jI_261_8 rfl (by decide +kernel) rfl rfl ?_
  refine jT_xiconst (k := 0) (pcN := 12) jI_261_11 rfl ?_
  refine jT_xgoto (pcN := 27) jI_261_12 rfl ?_
  exact jT_ret rfl (by decide) (by show 16 ≤ 16; decide) (by omega) (by omega) ⟨rfl, rfl, rfl⟩
theorem jI_379_1739 : jmI (jm 379) 1739 = (.aload_n 1, 1) := by rfl
theorem jI_379_1740 : jmI (jm 379) 1740 = (.aload_n 0, 1) := by rfl
theorem jI_379_1741 : jmI (jm 379) 1741 = (.iload 5, 2) := by rfl
theorem jI_379_1743 : jmI (jm 379) 1743 = (.iconst 1, 1) := by rfl
theorem jI_379_1744 : jmI (jm 379) 1744 = (.iadd, 1) := by rfl
theorem jI_379_1746 : jmI (jm 379) 1746 = (.aload_n 3, 1) := by rfl
theorem jI_379_1750 : jmI (jm 379) 1750 = (.istore 6, 2) := by rfl
theorem jI_379_1752 : jmI (jm 379) 1752 = (.aload_n 2, 1) := by rfl
theorem jI_379_1753 : jmI (jm 379) 1753 = (.aload_n 0, 1) := by rfl
theorem jI_379_1754 : jmI (jm 379) 1754 = (.iload 5, 2) := by rfl
theorem jI_379_1756 : jmI (jm 379) 1756 = (.iconst 1, 1) := by rfl
theorem jI_379_1757 : jmI (jm 379) 1757 = (.iadd, 1) := by rfl
theorem jI_379_1762 : jmI (jm 379) 1762 = (.istore 7, 2) := by rfl
theorem jI_379_1764 : jmI (jm 379) 1764 = (.aload_n 2, 1) := by rfl
theorem jI_379_1768 : jmI (jm 379) 1768 = (.iload 6, 2) := by rfl
theorem jI_379_1770 : jmI (jm 379) 1770 = (.if_icmp .eq 5, 3) := by rfl
theorem jI_379_1775 : jmI (jm 379) 1775 = (.iload 6, 2) := by rfl
theorem jI_379_1777 : jmI (jm 379) 1777 = (.ifCond .ne 15, 3) := by rfl
theorem jI_379_1792 : jmI (jm 379) 1792 = (.goto 1948, 3) := by rfl
set_option maxRecDepth 100000 in
theorem jL_20_0 {d : Nat} {x0 x1 x2 x3 x4 : Int} (h_x0 : (-2147483648) ≤ x0 ∧ x0 ≤ 2147483647) (h_x1 : (-2147483648) ≤ x1 ∧ x1 ≤ (-1)) (h_x2 : (-2147483648) ≤ x2 ∧ x2 ≤ 2147483647) (h_x3 : (-2147483648) ≤ x3 ∧ x3 ≤ 2147483647) (h_x4 : (-2147483648) ≤ x4 ∧ x4 ≤ 2147483647) : jT [x0, x1, x2, x3, x4] (d + 3) 379 30 1739 [(5, (0, 0)), (4, (4, 3)), (3, (4, 2)), (2, (4, 1)), (1, (4, 0)), (0, (6, 0))] [] jpA_267 1 6 (fun k v hsN => k = 0 ∧ v = (0, 1)) := by
  refine jT_xaload_n (v := (4, 0)) (pcN := 1740) jI_379_1739 rfl rfl rfl ?_
  refine jT_xaload_n (v := (6, 0)) (pcN := 1741) jI_379_1740 rfl rfl rfl ?_
  refine jT_xiload (v := (0, 0)) (pcN := 1743) jI_379_1741 rfl rfl rfl ?_
  refine jT_xiconst (k := 1) (pcN := 1744) jI_379_1743 rfl ?_
  refine jT_xiadd (x := 0) (y := 1) (z := 1) (pcN := 1745) jI_379_1744 rfl (by decide) rfl ?_
  refine jT_adv 1 (pcN := 1746) (LN := [(5, (0, 0)), (4, (4, 3)), (3, (4, 2)), (2, (4, 1)), (1, (4, 0)), (0, (6, 0))]) (stN := [(0, x1), (4, 0)]) (hsN := jpA_267) (c1 := 0) (s1 := 0) (c2 := 1) (s2 := 6) (by exact rfl) ?_ (by omega) (by omega)
  refine jT_xaload_n (v := (4, 2)) (pcN := 1747) jI_379_1746 rfl rfl rfl ?_
  refine jT_fR [0, 2, 4, 5, 6, 7, 8, 9, 10, 11, 12, 13, 14] 30 (y := 345) (pcN := 1750) (dC := 2) (bc1 := 1) (bc2 := 6) (c1 := 0) (c2 := 0) (as := [(4, 0), (0, x1), (4, 2)]) (asC := [(4, 0), (0, x1), (4, 1)]) (LN := [(5, (0, 0)), (4, (4, 3)), (3, (4, 2)), (2, (4, 1)), (1, (4, 0)), (0, (6, 0))]) (stN := []) (hsC := jpA_15) (v := (0, 1)) (st2 := [(0, 1)]) (jA_345_766 (d := 0) (by omega)) (by rfl) (by rfl) (by decide +kernel) (by rfl) (by rfl) (by omega) (by omega) (by omega) (by omega) rfl ?_
  refine jT_xistore (v := (0, 1)) (LN := [(6, (0, 1)), (5, (0, 0)), (4, (4, 3)), (3, (4, 2)), (2, (4, 1)), (1, (4, 0)), (0, (6, 0))]) (pcN := 1752) jI_379_1750 rfl rfl rfl rfl ?_
  refine jT_xaload_n (v := (4, 1)) (pcN := 1753) jI_379_1752 rfl rfl rfl ?_
  refine jT_xaload_n (v := (6, 0)) (pcN := 1754) jI_379_1753 rfl rfl rfl ?_
  refine jT_xiload (v := (0, 0)) (pcN := 1756) jI_379_1754 rfl rfl rfl ?_
  refine jT_xiconst (k := 1) (pcN := 1757) jI_379_1756 rfl ?_
  refine jT_xiadd (x := 0) (y := 1) (z := 1) (pcN := 1758) jI_379_1757 rfl (by decide) rfl ?_
  refine jT_adv 1 (pcN := 1759) (LN := [(6, (0, 1)), (5, (0, 0)), (4, (4, 3)), (3, (4, 2)), (2, (4, 1)), (1, (4, 0)), (0, (6, 0))]) (stN := [(0, x1), (4, 1)]) (hsN := jpA_267) (c1 := 0) (s1 := 0) (c2 := 0) (s2 := 0) (by exact rfl) ?_ (by omega) (by omega)
  refine jT_fB [1, 15, 16, 17, 18, 19, 20, 21, 22, 23, 24, 25, 26, 27, 28, 29] 30 (y := 261) (pcN := 1762) (dC := 2) (bc1 := 0) (bc2 := 0) (c1 := 0) (c2 := 0) (as := [(4, 1), (0, x1)]) (asC := [(4, 0), (0, x1)]) (LN := [(6, (0, 1)), (5, (0, 0)), (4, (4, 3)), (3, (4, 2)), (2, (4, 1)), (1, (4, 0)), (0, (6, 0))]) (stN := []) (hsC := jpA_22) (hsD := jpA_20) (v := (0, 0)) (st2 := [(0, 0)]) (hs2 := jpA_306) (jA_261_767 (d := 0) (by omega)) (by rfl) (by rfl) (by decide +kernel) (by rfl) (by rfl) (by omega) (by omega) (by omega) (by omega) rfl (by decide +kernel) ?_
  refine jT_xistore (v := (0, 0)) (LN := [(7, (0, 0)), (6, (0, 1)), (5, (0, 0)), (4, (4, 3)), (3, (4, 2)), (2, (4, 1)), (1, (4, 0)), (0, (6, 0))]) (pcN := 1764) jI_379_1762 rfl rfl rfl rfl ?_
  refine jT_xaload_n (v := (4, 1)) (pcN := 1765) jI_379_1764 rfl rfl rfl ?_
  refine jT_fR [1, 15, 16, 17, 18, 19, 20, 21, 22, 23, 24, 25, 26, 27, 28, 29] 30 (y := 186) (pcN := 1768) (dC := 0) (bc1 := 0) (bc2 := 0) (c1 := 0) (c2 := 0) (as := [(4, 1)]) (asC := [(4, 0)]) (LN := [(7, (0, 0)), (6, (0, 1)), (5, (0, 0)), (4, (4, 3)), (3, (4, 2)), (2, (4, 1)), (1, (4, 0)), (0, (6, 0))]) (stN := []) (hsC := jpA_20) (v := (0, 1)) (st2 := [(0, 1)]) (jA_186_8 (d := 0)) (by rfl) (by rfl) (by decide +kernel) (by rfl) (by rfl) (by omega) (by omega) (by omega) (by omega) rfl ?_
  refine jT_xiload (v := (0, 1)) (pcN := 1770) jI_379_1768 rfl rfl rfl ?_
  refine jT_xicT (pcN := 1775) jI_379_1770 rfl (by decide +kernel) rfl ?_
  refine jT_xiload (v := (0, 1)) (pcN := 1777) jI_379_1775 rfl rfl rfl ?_
  refine jT_xifT (pcN := 1792) jI_379_1777 rfl (by decide +kernel) rfl ?_
  refine jT_xgoto (pcN := 3740) jI_379_1792 rfl ?_
  refine jT_xiinc (x := 0) (z := 5) (LN := [(5, (0, 5)), (7, (0, 0)), (6, (0, 1)), (4, (4, 3)), (3, (4, 2)), (2, (4, 1)), (1, (4, 0)), (0, (6, 0))]) (pcN := 3743) jI_379_3740 rfl rfl (by decide) rfl rfl ?_
  refine jT_xgoto (pcN := 28) jI_379_3743 rfl ?_
  refine jT_xiload (v := (0, 5)) (pcN := 30) jI_379_28 rfl rfl rfl ?_
  refine jT_xaload_n (v := (6, 0)) (pcN := 31) jI_379_30 rfl rfl rfl ?_
  refine jT_adv 1 (pcN := 32) (LN := [(5, (0, 5)), (7, (0, 0)), (6, (0, 1)), (4, (4, 3)), (3, (4, 2)), (2, (4, 1)), (1, (4, 0)), (0, (6, 0))]) (stN := [(0, 5), (0, 5)]) (hsN := jpA_306) (c1 := 0) (s1 := 0) (c2 := 0) (s2 := 0) (by exact rfl) ?_ (by omega) (by omega)
  refine jT_xiconst (k := 5) (pcN := 33) jI_379_32 rfl ?_
  refine jT_xisub (x := 5) (y := 5) (z := 0) (pcN := 34) jI_379_33 rfl (by decide) rfl ?_
  refine jT_xicT (pcN := 3746) jI_379_34 rfl (by decide +kernel) rfl ?_
  refine jT_xiconst (k := 1) (pcN := 3747) jI_379_3746 rfl ?_
  exact jT_ret rfl (by decide) (by show 30 ≤ 30; decide) (by omega) (by omega) ⟨rfl, rfl⟩
def jpA_2943 : List JC := [jzA_265, jzA_266, (101, [], [0]), jgh, jgh, jgh, jgh, jgh, jgh, jgh, jgh, jgh, jgh, jgh, jzA_322, (100, [], jS0), jgh, jgh, jgh, jgh, jgh, jgh, jgh, jgh, jgh, jgh, jgh, jgh, jgh, jgh, jzA_2127, jgh, jgh, jgh, jgh, (4, [(4, 36), (1, 1)], []), jgh]
def jpA_2944 : List JC := [jzA_265, jzA_266, (101, [], [1]), jgh, jgh, jgh, jgh, jgh, jgh, jgh, jgh, jgh, jgh, jgh, jzA_322, (100, [], jS0), jgh, jgh, jgh, jgh, jgh, jgh, jgh, jgh, jgh, jgh, jgh, jgh, jgh, jgh, jzA_2127, jgh, jgh, jgh, jgh, (4, [(4, 36), (1, 1)], []), jgh]
theorem jI_379_1780 : jmI (jm 379) 1780 = (.aload_n 3, 1) := by rfl
theorem jI_379_1781 : jmI (jm 379) 1781 = (.iconst 0, 1) := by rfl
theorem jI_379_1782 : jmI (jm 379) 1782 = (.laload, 1) := by rfl
theorem jI_379_1783 : jmI (jm 379) 1783 = (.iload 7, 2) := by rfl
theorem jI_379_1785 : jmI (jm 379) 1785 = (.i2l, 1) := by rfl
theorem jI_379_1787 : jmI (jm 379) 1787 = (.ifCond .eq 5, 3) := by rfl
set_option maxRecDepth 100000 in
theorem jL_20_1 {d : Nat} {x0 x1 x2 x3 x4 : Int} (h_x0 : (-2147483648) ≤ x0 ∧ x0 ≤ 2147483647) (h_x1 : 0 ≤ x1 ∧ x1 ≤ 7) (h_x2 : (-2147483648) ≤ x2 ∧ x2 ≤ 2147483647) (h_x3 : (-2147483648) ≤ x3 ∧ x3 ≤ 2147483647) (h_x4 : (-2147483648) ≤ x4 ∧ x4 ≤ 2147483647) : jT [x0, x1, x2, x3, x4] (d + 3) 379 37 1739 [(5, (0, 0)), (4, (4, 3)), (3, (4, 2)), (2, (4, 1)), (1, (4, 0)), (0, (6, 0))] [] jpA_2943 0 0 (fun k v hsN => k = 0 ∧ v = (0, 1)) := by
  refine jT_xaload_n (v := (4, 0)) (pcN := 1740) jI_379_1739 rfl rfl rfl ?_
  refine jT_xaload_n (v := (6, 0)) (pcN := 1741) jI_379_1740 rfl rfl rfl ?_
  refine jT_xiload (v := (0, 0)) (pcN := 1743) jI_379_1741 rfl rfl rfl ?_
  refine jT_xiconst (k := 1) (pcN := 1744) jI_379_1743 rfl ?_
  refine jT_xiadd (x := 0) (y := 1) (z := 1) (pcN := 1745) jI_379_1744 rfl (by decide) rfl ?_
  refine jT_adv 1 (pcN := 1746) (LN := [(5, (0, 0)), (4, (4, 3)), (3, (4, 2)), (2, (4, 1)), (1, (4, 0)), (0, (6, 0))]) (stN := [(0, x1), (4, 0)]) (hsN := jpA_2943) (c1 := 0) (s1 := 0) (c2 := 0) (s2 := 0) (by exact rfl) ?_ (by omega) (by omega)
  refine jT_xaload_n (v := (4, 2)) (pcN := 1747) jI_379_1746 rfl rfl rfl ?_
  refine jT_fB [0, 2, 4, 5, 6, 7, 8, 9, 10, 11, 12, 13, 14, 30, 31, 32, 33, 34, 35, 36] 37 (y := 345) (pcN := 1750) (dC := 2) (bc1 := 0) (bc2 := 0) (c1 := 0) (c2 := 0) (as := [(4, 0), (0, x1), (4, 2)]) (asC := [(4, 0), (0, x1), (4, 1)]) (LN := [(5, (0, 0)), (4, (4, 3)), (3, (4, 2)), (2, (4, 1)), (1, (4, 0)), (0, (6, 0))]) (stN := []) (hsC := jpA_2915) (hsD := jpA_2912) (v := (0, 0)) (st2 := [(0, 0)]) (hs2 := jpA_2944) (jA_345_769 (d := 0) (by omega)) (by rfl) (by rfl) (by decide +kernel) (by rfl) (by rfl) (by omega) (by omega) (by omega) (by omega) rfl (by decide +kernel) ?_
  refine jT_xistore (v := (0, 0)) (LN := [(6, (0, 0)), (5, (0, 0)), (4, (4, 3)), (3, (4, 2)), (2, (4, 1)), (1, (4, 0)), (0, (6, 0))]) (pcN := 1752) jI_379_1750 rfl rfl rfl rfl ?_
  refine jT_xaload_n (v := (4, 1)) (pcN := 1753) jI_379_1752 rfl rfl rfl ?_
  refine jT_xaload_n (v := (6, 0)) (pcN := 1754) jI_379_1753 rfl rfl rfl ?_
  refine jT_xiload (v := (0, 0)) (pcN := 1756) jI_379_1754 rfl rfl rfl ?_
  refine jT_xiconst (k := 1) (pcN := 1757) jI_379_1756 rfl ?_
  refine jT_xiadd (x := 0) (y := 1) (z := 1) (pcN := 1758) jI_379_1757 rfl (by decide) rfl ?_
  refine jT_adv 1 (pcN := 1759) (LN := [(6, (0, 0)), (5, (0, 0)), (4, (4, 3)), (3, (4, 2)), (2, (4, 1)), (1, (4, 0)), (0, (6, 0))]) (stN := [(0, x1), (4, 1)]) (hsN := jpA_2944) (c1 := 0) (s1 := 0) (c2 := 0) (s2 := 0) (by exact rfl) ?_ (by omega) (by omega)
  refine jT_fR [1, 15, 16, 17, 18, 19, 20, 21, 22, 23, 24, 25, 26, 27, 28, 29] 37 (y := 261) (pcN := 1762) (dC := 2) (bc1 := 0) (bc2 := 0) (c1 := 0) (c2 := 0) (as := [(4, 1), (0, x1)]) (asC := [(4, 0), (0, x1)]) (LN := [(6, (0, 0)), (5, (0, 0)), (4, (4, 3)), (3, (4, 2)), (2, (4, 1)), (1, (4, 0)), (0, (6, 0))]) (stN := []) (hsC := jpA_1519) (v := (0, 1)) (st2 := [(0, 1)]) (jA_261_770 (d := 0) (by omega)) (by rfl) (by rfl) (by decide +kernel) (by rfl) (by rfl) (by omega) (by omega) (by omega) (by omega) rfl ?_
  refine jT_xistore (v := (0, 1)) (LN := [(7, (0, 1)), (6, (0, 0)), (5, (0, 0)), (4, (4, 3)), (3, (4, 2)), (2, (4, 1)), (1, (4, 0)), (0, (6, 0))]) (pcN := 1764) jI_379_1762 rfl rfl rfl rfl ?_
  refine jT_xaload_n (v := (4, 1)) (pcN := 1765) jI_379_1764 rfl rfl rfl ?_
  refine jT_fR [1, 15, 16, 17, 18, 19, 20, 21, 22, 23, 24, 25, 26, 27, 28, 29] 37 (y := 186) (pcN := 1768) (dC := 0) (bc1 := 0) (bc2 := 0) (c1 := 0) (c2 := 0) (as := [(4, 1)]) (asC := [(4, 0)]) (LN := [(7, (0, 1)), (6, (0, 0)), (5, (0, 0)), (4, (4, 3)), (3, (4, 2)), (2, (4, 1)), (1, (4, 0)), (0, (6, 0))]) (stN := []) (hsC := jpA_22) (v := (0, 0)) (st2 := [(0, 0)]) (jA_186_726 (d := 0)) (by rfl) (by rfl) (by decide +kernel) (by rfl) (by rfl) (by omega) (by omega) (by omega) (by omega) rfl ?_
  refine jT_xiload (v := (0, 0)) (pcN := 1770) jI_379_1768 rfl rfl rfl ?_
  refine jT_xicT (pcN := 1775) jI_379_1770 rfl (by decide +kernel) rfl ?_
  refine jT_xiload (v := (0, 0)) (pcN := 1777) jI_379_1775 rfl rfl rfl ?_
  refine jT_xifF (t := 1792) (pcN := 1780) jI_379_1777 rfl (by decide +kernel) rfl rfl ?_
  refine jT_xaload_n (v := (4, 2)) (pcN := 1781) jI_379_1780 rfl rfl rfl ?_
  refine jT_xiconst (k := 0) (pcN := 1782) jI_379_1781 rfl ?_
  refine jT_lald (x := 1) (a := 2) (j := 0) (fs := []) (X := [1]) jI_379_1782 rfl rfl rfl rfl ?_
  refine jT_eq (LN := [(7, (0, 1)), (6, (0, 0)), (5, (0, 0)), (4, (4, 3)), (3, (4, 2)), (2, (4, 1)), (1, (4, 0)), (0, (6, 0))]) (stN := [(1, 1)]) (hsN := jpA_2944) rfl rfl rfl ?_
  refine jT_xiload (v := (0, 1)) (pcN := 1785) jI_379_1783 rfl rfl rfl ?_
  refine jT_xi2l (x := 1) (z := 1) (pcN := 1786) jI_379_1785 rfl (by decide +kernel) rfl ?_
  refine jT_lcmp (a := 1) (b := 1) (z := 0) (by rfl) (by rfl) (by decide +kernel) (by decide +kernel) (by decide) ?_
  refine jT_xifT (pcN := 1792) jI_379_1787 rfl (by decide +kernel) rfl ?_
  refine jT_xgoto (pcN := 3740) jI_379_1792 rfl ?_
  refine jT_xiinc (x := 0) (z := 5) (LN := [(5, (0, 5)), (7, (0, 1)), (6, (0, 0)), (4, (4, 3)), (3, (4, 2)), (2, (4, 1)), (1, (4, 0)), (0, (6, 0))]) (pcN := 3743) jI_379_3740 rfl rfl (by decide) rfl rfl ?_
  refine jT_xgoto (pcN := 28) jI_379_3743 rfl ?_
  refine jT_xiload (v := (0, 5)) (pcN := 30) jI_379_28 rfl rfl rfl ?_
  refine jT_xaload_n (v := (6, 0)) (pcN := 31) jI_379_30 rfl rfl rfl ?_
  refine jT_adv 1 (pcN := 32) (LN := [(5, (0, 5)), (7, (0, 1)), (6, (0, 0)), (4, (4, 3)), (3, (4, 2)), (2, (4, 1)), (1, (4, 0)), (0, (6, 0))]) (stN := [(0, 5), (0, 5)]) (hsN := jpA_2944) (c1 := 0) (s1 := 0) (c2 := 0) (s2 := 0) (by exact rfl) ?_ (by omega) (by omega)
  refine jT_xiconst (k := 5) (pcN := 33) jI_379_32 rfl ?_
  refine jT_xisub (x := 5) (y := 5) (z := 0) (pcN := 34) jI_379_33 rfl (by decide) rfl ?_
  refine jT_xicT (pcN := 3746) jI_379_34 rfl (by decide +kernel) rfl ?_
  refine jT_xiconst (k := 1) (pcN := 3747) jI_379_3746 rfl ?_
  exact jT_ret rfl (by decide) (by show 37 ≤ 37; decide) (by omega) (by omega) ⟨rfl, rfl⟩
set_option maxRecDepth 100000 in
theorem jL_20_2 {d : Nat} {x0 x1 x2 x3 x4 : Int} (h_x0 : (-2147483648) ≤ x0 ∧ x0 ≤ 2147483647) (h_x1 : 8 ≤ x1 ∧ x1 ≤ 2147483647) (h_x2 : (-2147483648) ≤ x2 ∧ x2 ≤ 2147483647) (h_x3 : (-2147483648) ≤ x3 ∧ x3 ≤ 2147483647) (h_x4 : (-2147483648) ≤ x4 ∧ x4 ≤ 2147483647) : jT [x0, x1, x2, x3, x4] (d + 3) 379 30 1739 [(5, (0, 0)), (4, (4, 3)), (3, (4, 2)), (2, (4, 1)), (1, (4, 0)), (0, (6, 0))] [] jpA_267 1 6 (fun k v hsN => k = 0 ∧ v = (0, 1)) := by
  refine jT_xaload_n (v := (4, 0)) (pcN := 1740) jI_379_1739 rfl rfl rfl ?_
  refine jT_xaload_n (v := (6, 0)) (pcN := 1741) jI_379_1740 rfl rfl rfl ?_
  refine jT_xiload (v := (0, 0)) (pcN := 1743) jI_379_1741 rfl rfl rfl ?_
  refine jT_xiconst (k := 1) (pcN := 1744) jI_379_1743 rfl ?_
  refine jT_xiadd (x := 0) (y := 1) (z := 1) (pcN := 1745) jI_379_1744 rfl (by decide) rfl ?_
  refine jT_adv 1 (pcN := 1746) (LN := [(5, (0, 0)), (4, (4, 3)), (3, (4, 2)), (2, (4, 1)), (1, (4, 0)), (0, (6, 0))]) (stN := [(0, x1), (4, 0)]) (hsN := jpA_267) (c1 := 0) (s1 := 0) (c2 := 1) (s2 := 6) (by exact rfl) ?_ (by omega) (by omega)
  refine jT_xaload_n (v := (4, 2)) (pcN := 1747) jI_379_1746 rfl rfl rfl ?_
  refine jT_fR [0, 2, 4, 5, 6, 7, 8, 9, 10, 11, 12, 13, 14] 30 (y := 345) (pcN := 1750) (dC := 2) (bc1 := 1) (bc2 := 6) (c1 := 0) (c2 := 0) (as := [(4, 0), (0, x1), (4, 2)]) (asC := [(4, 0), (0, x1), (4, 1)]) (LN := [(5, (0, 0)), (4, (4, 3)), (3, (4, 2)), (2, (4, 1)), (1, (4, 0)), (0, (6, 0))]) (stN := []) (hsC := jpA_15) (v := (0, 1)) (st2 := [(0, 1)]) (jA_345_772 (d := 0) (by omega)) (by rfl) (by rfl) (by decide +kernel) (by rfl) (by rfl) (by omega) (by omega) (by omega) (by omega) rfl ?_
  refine jT_xistore (v := (0, 1)) (LN := [(6, (0, 1)), (5, (0, 0)), (4, (4, 3)), (3, (4, 2)), (2, (4, 1)), (1, (4, 0)), (0, (6, 0))]) (pcN := 1752) jI_379_1750 rfl rfl rfl rfl ?_
  refine jT_xaload_n (v := (4, 1)) (pcN := 1753) jI_379_1752 rfl rfl rfl ?_
  refine jT_xaload_n (v := (6, 0)) (pcN := 1754) jI_379_1753 rfl rfl rfl ?_
  refine jT_xiload (v := (0, 0)) (pcN := 1756) jI_379_1754 rfl rfl rfl ?_
  refine jT_xiconst (k := 1) (pcN := 1757) jI_379_1756 rfl ?_
  refine jT_xiadd (x := 0) (y := 1) (z := 1) (pcN := 1758) jI_379_1757 rfl (by decide) rfl ?_
  refine jT_adv 1 (pcN := 1759) (LN := [(6, (0, 1)), (5, (0, 0)), (4, (4, 3)), (3, (4, 2)), (2, (4, 1)), (1, (4, 0)), (0, (6, 0))]) (stN := [(0, x1), (4, 1)]) (hsN := jpA_267) (c1 := 0) (s1 := 0) (c2 := 0) (s2 := 0) (by exact rfl) ?_ (by omega) (by omega)
  refine jT_fB [1, 15, 16, 17, 18, 19, 20, 21, 22, 23, 24, 25, 26, 27, 28, 29] 30 (y := 261) (pcN := 1762) (dC := 2) (bc1 := 0) (bc2 := 0) (c1 := 0) (c2 := 0) (as := [(4, 1), (0, x1)]) (asC := [(4, 0), (0, x1)]) (LN := [(6, (0, 1)), (5, (0, 0)), (4, (4, 3)), (3, (4, 2)), (2, (4, 1)), (1, (4, 0)), (0, (6, 0))]) (stN := []) (hsC := jpA_22) (hsD := jpA_20) (v := (0, 0)) (st2 := [(0, 0)]) (hs2 := jpA_306) (jA_261_773 (d := 0) (by omega)) (by rfl) (by rfl) (by decide +kernel) (by rfl) (by rfl) (by omega) (by omega) (by omega) (by omega) rfl (by decide +kernel) ?_
  refine jT_xistore (v := (0, 0)) (LN := [(7, (0, 0)), (6, (0, 1)), (5, (0, 0)), (4, (4, 3)), (3, (4, 2)), (2, (4, 1)), (1, (4, 0)), (0, (6, 0))]) (pcN := 1764) jI_379_1762 rfl rfl rfl rfl ?_
  refine jT_xaload_n (v := (4, 1)) (pcN := 1765) jI_379_1764 rfl rfl rfl ?_
  refine jT_fR [1, 15, 16, 17, 18, 19, 20, 21, 22, 23, 24, 25, 26, 27, 28, 29] 30 (y := 186) (pcN := 1768) (dC := 0) (bc1 := 0) (bc2 := 0) (c1 := 0) (c2 := 0) (as := [(4, 1)]) (asC := [(4, 0)]) (LN := [(7, (0, 0)), (6, (0, 1)), (5, (0, 0)), (4, (4, 3)), (3, (4, 2)), (2, (4, 1)), (1, (4, 0)), (0, (6, 0))]) (stN := []) (hsC := jpA_20) (v := (0, 1)) (st2 := [(0, 1)]) (jA_186_8 (d := 0)) (by rfl) (by rfl) (by decide +kernel) (by rfl) (by rfl) (by omega) (by omega) (by omega) (by omega) rfl ?_
  refine jT_xiload (v := (0, 1)) (pcN := 1770) jI_379_1768 rfl rfl rfl ?_
  refine jT_xicT (pcN := 1775) jI_379_1770 rfl (by decide +kernel) rfl ?_
  refine jT_xiload (v := (0, 1)) (pcN := 1777) jI_379_1775 rfl rfl rfl ?_
  refine jT_xifT (pcN := 1792) jI_379_1777 rfl (by decide +kernel) rfl ?_
  refine jT_xgoto (pcN := 3740) jI_379_1792 rfl ?_
  refine jT_xiinc (x := 0) (z := 5) (LN := [(5, (0, 5)), (7, (0, 0)), (6, (0, 1)), (4, (4, 3)), (3, (4, 2)), (2, (4, 1)), (1, (4, 0)), (0, (6, 0))]) (pcN := 3743) jI_379_3740 rfl rfl (by decide) rfl rfl ?_
  refine jT_xgoto (pcN := 28) jI_379_3743 rfl ?_
  refine jT_xiload (v := (0, 5)) (pcN := 30) jI_379_28 rfl rfl rfl ?_
  refine jT_xaload_n (v := (6, 0)) (pcN := 31) jI_379_30 rfl rfl rfl ?_
  refine jT_adv 1 (pcN := 32) (LN := [(5, (0, 5)), (7, (0, 0)), (6, (0, 1)), (4, (4, 3)), (3, (4, 2)), (2, (4, 1)), (1, (4, 0)), (0, (6, 0))]) (stN := [(0, 5), (0, 5)]) (hsN := jpA_306) (c1 := 0) (s1 := 0) (c2 := 0) (s2 := 0) (by exact rfl) ?_ (by omega) (by omega)
  refine jT_xiconst (k := 5) (pcN := 33) jI_379_32 rfl ?_
  refine jT_xisub (x := 5) (y := 5) (z := 0) (pcN := 34) jI_379_33 rfl (by decide) rfl ?_
  refine jT_xicT (pcN := 3746) jI_379_34 rfl (by decide +kernel) rfl ?_
  refine jT_xiconst (k := 1) (pcN := 3747) jI_379_3746 rfl ?_
  exact jT_ret rfl (by decide) (by show 30 ≤ 30; decide) (by omega) (by omega) ⟨rfl, rfl⟩
theorem jI_139_0 : jmI (jm 139) 0 = (.aload_n 0, 1) := by rfl
theorem jI_139_1 : jmI (jm 139) 1 = (.iload_n 1, 1) := by rfl
theorem jI_139_2 : jmI (jm 139) 2 = (.bipush 8, 2) := by rfl
theorem jA_139_774 {xs : List Int} {d : Nat} {x1 x2 : Int} (h_x1 : (-2147483648) ≤ x1 ∧ x1 ≤ (-1)) (h_x2 : (-2147483648) ≤ x2 ∧ x2 ≤ 2147483647) : jT xs (d + 1) 139 12 0 [(0, (4, 0)), (1, (0, x1)), (2, (0, x2))] [] jpA_6 1 6 (fun k v hsN => k = 1 ∧ v = (0, 0) ∧ hsN = jpA_6 ++ []) := by
  refine jT_xaload_n (v := (4, 0)) (pcN := 1) jI_139_0 rfl rfl rfl ?_
  refine jT_xiload_n (v := (0, x1)) (pcN := 2) jI_139_1 rfl rfl rfl ?_
  refine jT_xbipush (k := 8) (pcN := 4) jI_139_2 (by decide) rfl ?_
  exact jT_fX [0] 12 (y := 115) (pcN := 7) (dC := 0) (bc1 := 1) (bc2 := 6) (as := [(4, 0), (0, x1), (0, 8)]) (asC := [(4, 0), (0, x1), (0, 8)]) (LN := [(0, (4, 0)), (1, (0, x1)), (2, (0, x2))]) (stN := []) (hsC := [jgh]) (e := 0) (jA_115_1 (d := 0) (by omega)) (by rfl) (by rfl) (by decide +kernel) (by rfl) (by rfl) (by omega) (by omega) (by omega) (by omega) ⟨rfl, ⟨rfl, rfl, rfl⟩⟩
theorem jI_346_0 : jmI (jm 346) 0 = (.aload_n 3, 1) := by rfl
theorem jI_346_1 : jmI (jm 346) 1 = (.iconst 0, 1) := by rfl
theorem jI_346_2 : jmI (jm 346) 2 = (.aload_n 0, 1) := by rfl
theorem jI_346_3 : jmI (jm 346) 3 = (.iload_n 1, 1) := by rfl
theorem jI_346_4 : jmI (jm 346) 4 = (.iload_n 2, 1) := by rfl
theorem jA_346_775 {xs : List Int} {d : Nat} {x1 x2 : Int} (h_x1 : (-2147483648) ≤ x1 ∧ x1 ≤ (-1)) (h_x2 : (-2147483648) ≤ x2 ∧ x2 ≤ 2147483647) : jT xs (d + 2) 346 13 0 [(0, (4, 0)), (1, (0, x1)), (2, (0, x2)), (3, (4, 1))] [] jpA_15 1 6 (fun k v hsN => k = 0 ∧ v = (0, 1) ∧ hsN = jpA_15 ++ []) := by
  refine jT_xaload_n (v := (4, 1)) (pcN := 1) jI_346_0 rfl rfl rfl ?_
  refine jT_xiconst (k := 0) (pcN := 2) jI_346_1 rfl ?_
  refine jT_xaload_n (v := (4, 0)) (pcN := 3) jI_346_2 rfl rfl rfl ?_
  refine jT_xiload_n (v := (0, x1)) (pcN := 4) jI_346_3 rfl rfl rfl ?_
  refine jT_xiload_n (v := (0, x2)) (pcN := 5) jI_346_4 rfl rfl rfl ?_
  exact jT_fX [0, 2, 3, 4, 5, 6, 7, 8, 9, 10, 11, 12] 13 (y := 139) (pcN := 8) (dC := 1) (bc1 := 1) (bc2 := 6) (as := [(4, 0), (0, x1), (0, x2)]) (asC := [(4, 0), (0, x1), (0, x2)]) (LN := [(0, (4, 0)), (1, (0, x1)), (2, (0, x2)), (3, (4, 1))]) (stN := [(0, 0), (4, 1)]) (hsC := jpA_6) (e := 0) (jA_139_774 (d := 0) (by omega) (by omega)) (by rfl) (by rfl) (by decide +kernel) (by rfl) (by rfl) (by omega) (by omega) (by omega) (by omega) (show _ from ⟨rfl, rfl, rfl⟩)
theorem jI_262_0 : jmI (jm 262) 0 = (.aload_n 0, 1) := by rfl
theorem jI_262_1 : jmI (jm 262) 1 = (.iload_n 1, 1) := by rfl
theorem jI_262_5 : jmI (jm 262) 5 = (.ifCond .eq 14, 3) := by rfl
theorem jI_262_19 : jmI (jm 262) 19 = (.iconst 0, 1) := by rfl
theorem jI_262_23 : jmI (jm 262) 23 = (.ifCond .eq 5, 3) := by rfl
theorem jI_262_26 : jmI (jm 262) 26 = (.iconst 0, 1) := by rfl
theorem jA_262_776 {xs : List Int} {d : Nat} {x1 x2 : Int} (h_x1 : (-2147483648) ≤ x1 ∧ x1 ≤ (-1)) (h_x2 : (-2147483648) ≤ x2 ∧ x2 ≤ 2147483647) : jT xs (d + 2) 262 16 0 [(0, (4, 0)), (1, (0, x1)), (2, (0, x2))] [] jpA_22 0 0 (fun k v hsN => k = 0 ∧ v = (0, 0) ∧ hsN = jpA_20) := by
  refine jT_xaload_n (v := (4, 0)) (pcN := 1) jI_262_0 rfl rfl rfl ?_
  refine jT_xiload_n (v := (0, x1)) (pcN := 2) jI_262_1 rfl rfl rfl ?_
  refine jT_fR [] 16 (y := 188) (pcN := 5) (dC := 1) (bc1 := 0) (bc2 := 0) (c1 := 0) (c2 := 0) (as := [(0, x1)]) (asC := [(0, x1)]) (LN := [(0, (4, 0)), (1, (0, x1)), (2, (0, x2))]) (stN := [(4, 0)]) (hsC := []) (v := (0, 0)) (st2 := [(0, 0), (4, 0)]) (jA_188_4 (d := 0) (by omega)) (by rfl) (by rfl) (by decide +kernel) (by rfl) (by rfl) (by omega) (by omega) (by omega) (by omega) rfl ?_
  refine jT_xifT (pcN := 19) jI_262_5 rfl (by decide +kernel) rfl ?_
  refine jT_xiconst (k := 0) (pcN := 20) jI_262_19 rfl ?_
  refine jT_fB [0, 1, 2, 3, 4, 5, 6, 7, 8, 9, 10, 11, 12, 13, 14, 15] 16 (y := 190) (pcN := 23) (dC := 1) (bc1 := 0) (bc2 := 0) (c1 := 0) (c2 := 0) (as := [(4, 0), (0, 0)]) (asC := [(4, 0), (0, 0)]) (LN := [(0, (4, 0)), (1, (0, x1)), (2, (0, x2))]) (stN := []) (hsC := jpA_22) (hsD := jpA_20) (v := (0, 1)) (st2 := [(0, 1)]) (hs2 := jpA_20) (jA_190_6 (d := 0)) (by rfl) (by rfl) (by decide +kernel) (by rfl) (by rfl) (by omega) (by omega) (by omega) (by omega) rfl (by decide +kernel) ?_
  refine jT_xifF (t := 28) (pcN := 26) jI_262_23 rfl (by decide +kernel) rfl rfl ?_
  refine jT_xiconst (k := 0) (pcN := 27) jI_262_26 rfl ?_
  exact jT_ret rfl (by decide) (by show 16 ≤ 16; decide) (by omega) (by omega) ⟨rfl, rfl, rfl⟩
theorem jI_139_7 : jmI (jm 139) 7 = (.aload_n 0, 1) := by rfl
theorem jI_139_8 : jmI (jm 139) 8 = (.iload_n 2, 1) := by rfl
theorem jI_139_9 : jmI (jm 139) 9 = (.bipush 8, 2) := by rfl
theorem jA_139_777 {xs : List Int} {d : Nat} {x1 x2 : Int} (h_x1 : 0 ≤ x1 ∧ x1 ≤ 7) (h_x2 : (-2147483648) ≤ x2 ∧ x2 ≤ (-1)) : jT xs (d + 1) 139 12 0 [(0, (4, 0)), (1, (0, x1)), (2, (0, x2))] [] jpA_6 1 6 (fun k v hsN => k = 1 ∧ v = (0, 0) ∧ hsN = jpA_6 ++ []) := by
  refine jT_xaload_n (v := (4, 0)) (pcN := 1) jI_139_0 rfl rfl rfl ?_
  refine jT_xiload_n (v := (0, x1)) (pcN := 2) jI_139_1 rfl rfl rfl ?_
  refine jT_xbipush (k := 8) (pcN := 4) jI_139_2 (by decide) rfl ?_
  refine jT_fR [0] 12 (y := 115) (pcN := 7) (dC := 0) (bc1 := 0) (bc2 := 0) (c1 := 1) (c2 := 6) (as := [(4, 0), (0, x1), (0, 8)]) (asC := [(4, 0), (0, x1), (0, 8)]) (LN := [(0, (4, 0)), (1, (0, x1)), (2, (0, x2))]) (stN := []) (hsC := [jgh]) (v := (9, 0)) (st2 := []) (jA_115_9 (d := 0) (by omega)) (by rfl) (by rfl) (by decide +kernel) (by rfl) (by rfl) (by omega) (by omega) (by omega) (by omega) rfl ?_
  refine jT_xaload_n (v := (4, 0)) (pcN := 8) jI_139_7 rfl rfl rfl ?_
  refine jT_xiload_n (v := (0, x2)) (pcN := 9) jI_139_8 rfl rfl rfl ?_
  refine jT_xbipush (k := 8) (pcN := 11) jI_139_9 (by decide) rfl ?_
  exact jT_fX [0] 12 (y := 115) (pcN := 14) (dC := 0) (bc1 := 1) (bc2 := 6) (as := [(4, 0), (0, x2), (0, 8)]) (asC := [(4, 0), (0, x2), (0, 8)]) (LN := [(0, (4, 0)), (1, (0, x1)), (2, (0, x2))]) (stN := []) (hsC := [jgh]) (e := 0) (jA_115_10 (d := 0) (by omega)) (by rfl) (by rfl) (by decide +kernel) (by rfl) (by rfl) (by omega) (by omega) (by omega) (by omega) ⟨rfl, ⟨rfl, rfl, rfl⟩⟩
theorem jA_346_778 {xs : List Int} {d : Nat} {x1 x2 : Int} (h_x1 : 0 ≤ x1 ∧ x1 ≤ 7) (h_x2 : (-2147483648) ≤ x2 ∧ x2 ≤ (-1)) : jT xs (d + 2) 346 13 0 [(0, (4, 0)), (1, (0, x1)), (2, (0, x2)), (3, (4, 1))] [] jpA_15 1 6 (fun k v hsN => k = 0 ∧ v = (0, 1) ∧ hsN = jpA_15 ++ []) := by
  refine jT_xaload_n (v := (4, 1)) (pcN := 1) jI_346_0 rfl rfl rfl ?_
  refine jT_xiconst (k := 0) (pcN := 2) jI_346_1 rfl ?_
  refine jT_xaload_n (v := (4, 0)) (pcN := 3) jI_346_2 rfl rfl rfl ?_
  refine jT_xiload_n (v := (0, x1)) (pcN := 4) jI_346_3 rfl rfl rfl ?_
  refine jT_xiload_n (v := (0, x2)) (pcN := 5) jI_346_4 rfl rfl rfl ?_
  exact jT_fX [0, 2, 3, 4, 5, 6, 7, 8, 9, 10, 11, 12] 13 (y := 139) (pcN := 8) (dC := 1) (bc1 := 1) (bc2 := 6) (as := [(4, 0), (0, x1), (0, x2)]) (asC := [(4, 0), (0, x1), (0, x2)]) (LN := [(0, (4, 0)), (1, (0, x1)), (2, (0, x2)), (3, (4, 1))]) (stN := [(0, 0), (4, 1)]) (hsC := jpA_6) (e := 0) (jA_139_777 (d := 0) (by omega) (by omega)) (by rfl) (by rfl) (by decide +kernel) (by rfl) (by rfl) (by omega) (by omega) (by omega) (by omega) (show _ from ⟨rfl, rfl, rfl⟩)
theorem jI_262_8 : jmI (jm 262) 8 = (.iload_n 2, 1) := by rfl
theorem jI_262_12 : jmI (jm 262) 12 = (.ifCond .eq 7, 3) := by rfl
theorem jA_262_779 {xs : List Int} {d : Nat} {x1 x2 : Int} (h_x1 : 0 ≤ x1 ∧ x1 ≤ 7) (h_x2 : (-2147483648) ≤ x2 ∧ x2 ≤ (-1)) : jT xs (d + 2) 262 16 0 [(0, (4, 0)), (1, (0, x1)), (2, (0, x2))] [] jpA_22 0 0 (fun k v hsN => k = 0 ∧ v = (0, 0) ∧ hsN = jpA_20) := by
  refine jT_xaload_n (v := (4, 0)) (pcN := 1) jI_262_0 rfl rfl rfl ?_
  refine jT_xiload_n (v := (0, x1)) (pcN := 2) jI_262_1 rfl rfl rfl ?_
  refine jT_fR [] 16 (y := 188) (pcN := 5) (dC := 1) (bc1 := 0) (bc2 := 0) (c1 := 0) (c2 := 0) (as := [(0, x1)]) (asC := [(0, x1)]) (LN := [(0, (4, 0)), (1, (0, x1)), (2, (0, x2))]) (stN := [(4, 0)]) (hsC := []) (v := (0, 1)) (st2 := [(0, 1), (4, 0)]) (jA_188_13 (d := 0) (by omega)) (by rfl) (by rfl) (by decide +kernel) (by rfl) (by rfl) (by omega) (by omega) (by omega) (by omega) rfl ?_
  refine jT_xifF (t := 19) (pcN := 8) jI_262_5 rfl (by decide +kernel) rfl rfl ?_
  refine jT_xiload_n (v := (0, x2)) (pcN := 9) jI_262_8 rfl rfl rfl ?_
  refine jT_fR [] 16 (y := 188) (pcN := 12) (dC := 1) (bc1 := 0) (bc2 := 0) (c1 := 0) (c2 := 0) (as := [(0, x2)]) (asC := [(0, x2)]) (LN := [(0, (4, 0)), (1, (0, x1)), (2, (0, x2))]) (stN := [(4, 0)]) (hsC := []) (v := (0, 0)) (st2 := [(0, 0), (4, 0)]) (jA_188_14 (d := 0) (by omega)) (by rfl) (by rfl) (by decide +kernel) (by rfl) (by rfl) (by omega) (by omega) (by omega) (by omega) rfl ?_
  refine jT_xifT (pcN := 19) jI_262_12 rfl (by decide +kernel) rfl ?_
  refine jT_xiconst (k := 0) (pcN := 20) jI_262_19 rfl ?_
  refine jT_fB [0, 1, 2, 3, 4, 5, 6, 7, 8, 9, 10, 11, 12, 13, 14, 15] 16 (y := 190) (pcN := 23) (dC := 1) (bc1 := 0) (bc2 := 0) (c1 := 0) (c2 := 0) (as := [(4, 0), (0, 0)]) (asC := [(4, 0), (0, 0)]) (LN := [(0, (4, 0)), (1, (0, x1)), (2, (0, x2))]) (stN := []) (hsC := jpA_22) (hsD := jpA_20) (v := (0, 1)) (st2 := [(0, 1)]) (hs2 := jpA_20) (jA_190_6 (d := 0)) (by rfl) (by rfl) (by decide +kernel) (by rfl) (by rfl) (by omega) (by omega) (by omega) (by omega) rfl (by decide +kernel) ?_
  refine jT_xifF (t := 28) (pcN := 26) jI_262_23 rfl (by decide +kernel) rfl rfl ?_
  refine jT_xiconst (k := 0) (pcN := 27) jI_262_26 rfl ?_
  exact jT_ret rfl (by decide) (by show 16 ≤ 16; decide) (by omega) (by omega) ⟨rfl, rfl, rfl⟩
def jpA_2970 : List JC := [(8, [(4, 2), (4, 3)], []), (4, [(4, 4), (1, 1)], []), jgh, (101, [], [0, 0, 0, 0, 0, 0]), (101, [], [0, 0, 0, 0, 0, 0])]
theorem jA_46_780 {xs : List Int} {d : Nat} : jT xs (d + 2) 46 5 0 [(0, (4, 0)), (1, (4, 1)), (2, (4, 1))] [] jpA_2970 0 0 (fun k v hsN => k = 0 ∧ v = (0, 0) ∧ hsN = jpA_2970 ++ []) := by
  refine jT_advK 152 (pcN := 48) (LN := [(3, (0, 6)), (0, (4, 0)), (1, (4, 1)), (2, (4, 1))]) (stN := [(4, 3), (4, 0)]) (hsN := jpA_2970) (c1 := 0) (s1 := 0) (c2 := 0) (s2 := 0) (by decide +kernel) ?_ (by omega) (by omega)
  refine jT_fR [0, 3, 2] 5 (y := 38) (pcN := 51) (dC := 1) (bc1 := 0) (bc2 := 0) (c1 := 0) (c2 := 0) (as := [(4, 0), (4, 3)]) (asC := [(4, 0), (4, 1)]) (LN := [(3, (0, 6)), (0, (4, 0)), (1, (4, 1)), (2, (4, 1))]) (stN := []) (hsC := [(8, [(4, 2), (4, 1)], []), (101, [], [0, 0, 0, 0, 0, 0]), jgh]) (v := (0, 0)) (st2 := [(0, 0)]) (jA_38_325 (d := 0)) (by rfl) (by rfl) (by decide +kernel) (by rfl) (by rfl) (by omega) (by omega) (by omega) (by omega) rfl ?_
  exact jT_ret rfl (by decide) (by show 5 ≤ 5; decide) (by omega) (by omega) ⟨rfl, rfl, rfl⟩
theorem jI_139_14 : jmI (jm 139) 14 = (.aload_n 0, 1) := by rfl
theorem jI_139_15 : jmI (jm 139) 15 = (.getfield 10, 3) := by rfl
theorem jI_139_18 : jmI (jm 139) 18 = (.aload_n 0, 1) := by rfl
theorem jI_139_19 : jmI (jm 139) 19 = (.getfield 67, 3) := by rfl
theorem jI_139_22 : jmI (jm 139) 22 = (.iload_n 1, 1) := by rfl
theorem jI_139_26 : jmI (jm 139) 26 = (.aload_n 0, 1) := by rfl
theorem jI_139_27 : jmI (jm 139) 27 = (.getfield 67, 3) := by rfl
theorem jI_139_30 : jmI (jm 139) 30 = (.iload_n 2, 1) := by rfl
def jpA_2979 : List JC := [jzA_5, (8, [(4, 12), (4, 13)], []), jgh, jgh, jgh, jgh, jgh, jgh, jgh, jgh, jgh, jzA_640, jgh, (101, [], [0, 0, 0, 0, 0, 0]), jzA_641, jgh, jgh, jgh, jgh, (4, [(4, 20), (1, 1)], []), (101, [], [0, 0, 0, 0, 0, 0])]
theorem jA_139_781 {xs : List Int} {d : Nat} {x1 x2 : Int} (h_x1 : 0 ≤ x1 ∧ x1 ≤ 7) (h_x2 : 0 ≤ x2 ∧ x2 ≤ 7) : jT xs (d + 3) 139 21 0 [(0, (4, 0)), (1, (0, x1)), (2, (0, x2))] [] jpA_2979 0 0 (fun k v hsN => k = 0 ∧ v = (0, 0) ∧ hsN = jpA_2979 ++ []) := by
  refine jT_xaload_n (v := (4, 0)) (pcN := 1) jI_139_0 rfl rfl rfl ?_
  refine jT_xiload_n (v := (0, x1)) (pcN := 2) jI_139_1 rfl rfl rfl ?_
  refine jT_xbipush (k := 8) (pcN := 4) jI_139_2 (by decide) rfl ?_
  refine jT_fR [0] 21 (y := 115) (pcN := 7) (dC := 0) (bc1 := 0) (bc2 := 0) (c1 := 0) (c2 := 0) (as := [(4, 0), (0, x1), (0, 8)]) (asC := [(4, 0), (0, x1), (0, 8)]) (LN := [(0, (4, 0)), (1, (0, x1)), (2, (0, x2))]) (stN := []) (hsC := [jgh]) (v := (9, 0)) (st2 := []) (jA_115_9 (d := 0) (by omega)) (by rfl) (by rfl) (by decide +kernel) (by rfl) (by rfl) (by omega) (by omega) (by omega) (by omega) rfl ?_
  refine jT_xaload_n (v := (4, 0)) (pcN := 8) jI_139_7 rfl rfl rfl ?_
  refine jT_xiload_n (v := (0, x2)) (pcN := 9) jI_139_8 rfl rfl rfl ?_
  refine jT_xbipush (k := 8) (pcN := 11) jI_139_9 (by decide) rfl ?_
  refine jT_fR [0] 21 (y := 115) (pcN := 14) (dC := 0) (bc1 := 0) (bc2 := 0) (c1 := 0) (c2 := 0) (as := [(4, 0), (0, x2), (0, 8)]) (asC := [(4, 0), (0, x2), (0, 8)]) (LN := [(0, (4, 0)), (1, (0, x1)), (2, (0, x2))]) (stN := []) (hsC := [jgh]) (v := (9, 0)) (st2 := []) (jA_115_16 (d := 0) (by omega)) (by rfl) (by rfl) (by decide +kernel) (by rfl) (by rfl) (by omega) (by omega) (by omega) (by omega) rfl ?_
  refine jT_xaload_n (v := (4, 0)) (pcN := 15) jI_139_14 rfl rfl rfl ?_
  refine jT_xgetf (a := 0) (t := 1) (ci := 13) (fi := 0) (c := jzA_5) (v := (4, 1)) (pcN := 18) jI_139_15 rfl rfl rfl rfl rfl rfl rfl ?_
  refine jT_xaload_n (v := (4, 0)) (pcN := 19) jI_139_18 rfl rfl rfl ?_
  refine jT_xgetf (a := 0) (t := 1) (ci := 13) (fi := 11) (c := jzA_5) (v := (4, 11)) (pcN := 22) jI_139_19 rfl rfl rfl rfl rfl rfl rfl ?_
  refine jT_xiload_n (v := (0, x1)) (pcN := 23) jI_139_22 rfl rfl rfl ?_
  refine jT_fR [11, 14, 15, 16, 17, 18, 19] 21 (y := 57) (pcN := 26) (dC := 0) (bc1 := 0) (bc2 := 0) (c1 := 0) (c2 := 0) (as := [(4, 11), (0, x1)]) (asC := [(4, 0), (0, x1)]) (LN := [(0, (4, 0)), (1, (0, x1)), (2, (0, x2))]) (stN := [(4, 1)]) (hsC := jpA_47) (v := (4, 6)) (st2 := [(4, 19), (4, 1)]) (jA_57_108 (d := 0) (by omega)) (by rfl) (by rfl) (by decide +kernel) (by rfl) (by rfl) (by omega) (by omega) (by omega) (by omega) rfl ?_
  refine jT_xaload_n (v := (4, 0)) (pcN := 27) jI_139_26 rfl rfl rfl ?_
  refine jT_xgetf (a := 0) (t := 1) (ci := 13) (fi := 11) (c := jzA_5) (v := (4, 11)) (pcN := 30) jI_139_27 rfl rfl rfl rfl rfl rfl rfl ?_
  refine jT_xiload_n (v := (0, x2)) (pcN := 31) jI_139_30 rfl rfl rfl ?_
  refine jT_fR [11, 14, 15, 16, 17, 18, 19] 21 (y := 57) (pcN := 34) (dC := 0) (bc1 := 0) (bc2 := 0) (c1 := 0) (c2 := 0) (as := [(4, 11), (0, x2)]) (asC := [(4, 0), (0, x2)]) (LN := [(0, (4, 0)), (1, (0, x1)), (2, (0, x2))]) (stN := [(4, 19), (4, 1)]) (hsC := jpA_47) (v := (4, 6)) (st2 := [(4, 19), (4, 19), (4, 1)]) (jA_57_24 (d := 0) (by omega)) (by rfl) (by rfl) (by decide +kernel) (by rfl) (by rfl) (by omega) (by omega) (by omega) (by omega) rfl ?_
  refine jT_fR [1, 19, 12, 13, 20] 21 (y := 46) (pcN := 37) (dC := 2) (bc1 := 0) (bc2 := 0) (c1 := 0) (c2 := 0) (as := [(4, 1), (4, 19), (4, 19)]) (asC := [(4, 0), (4, 1), (4, 1)]) (LN := [(0, (4, 0)), (1, (0, x1)), (2, (0, x2))]) (stN := []) (hsC := jpA_2970) (v := (0, 0)) (st2 := [(0, 0)]) (jA_46_780 (d := 0)) (by rfl) (by rfl) (by decide +kernel) (by rfl) (by rfl) (by omega) (by omega) (by omega) (by omega) rfl ?_
  exact jT_ret rfl (by decide) (by show 21 ≤ 21; decide) (by omega) (by omega) ⟨rfl, rfl, rfl⟩
theorem jI_346_8 : jmI (jm 346) 8 = (.i2l, 1) := by rfl
def jpA_2981 : List JC := [jzA_14, (101, [], [0]), (8, [(4, 13), (4, 14)], []), jgh, jgh, jgh, jgh, jgh, jgh, jgh, jgh, jgh, jzA_659, jgh, (101, [], [0, 0, 0, 0, 0, 0]), jzA_660, jgh, jgh, jgh, jgh, (4, [(4, 21), (1, 1)], []), (101, [], [0, 0, 0, 0, 0, 0])]
theorem jI_346_10 : jmI (jm 346) 10 = (.goto 7, 3) := by rfl
theorem jI_346_17 : jmI (jm 346) 17 = (.iconst 0, 1) := by rfl
theorem jA_346_782 {xs : List Int} {d : Nat} {x1 x2 : Int} (h_x1 : 0 ≤ x1 ∧ x1 ≤ 7) (h_x2 : 0 ≤ x2 ∧ x2 ≤ 7) : jT xs (d + 4) 346 22 0 [(0, (4, 0)), (1, (0, x1)), (2, (0, x2)), (3, (4, 1))] [] jpA_2981 0 0 (fun k v hsN => k = 0 ∧ v = (0, 0) ∧ hsN = jpA_2981 ++ []) := by
  refine jT_xaload_n (v := (4, 1)) (pcN := 1) jI_346_0 rfl rfl rfl ?_
  refine jT_xiconst (k := 0) (pcN := 2) jI_346_1 rfl ?_
  refine jT_xaload_n (v := (4, 0)) (pcN := 3) jI_346_2 rfl rfl rfl ?_
  refine jT_xiload_n (v := (0, x1)) (pcN := 4) jI_346_3 rfl rfl rfl ?_
  refine jT_xiload_n (v := (0, x2)) (pcN := 5) jI_346_4 rfl rfl rfl ?_
  refine jT_fR [0, 2, 3, 4, 5, 6, 7, 8, 9, 10, 11, 12, 13, 14, 15, 16, 17, 18, 19, 20, 21] 22 (y := 139) (pcN := 8) (dC := 3) (bc1 := 0) (bc2 := 0) (c1 := 0) (c2 := 0) (as := [(4, 0), (0, x1), (0, x2)]) (asC := [(4, 0), (0, x1), (0, x2)]) (LN := [(0, (4, 0)), (1, (0, x1)), (2, (0, x2)), (3, (4, 1))]) (stN := [(0, 0), (4, 1)]) (hsC := jpA_2979) (v := (0, 0)) (st2 := [(0, 0), (0, 0), (4, 1)]) (jA_139_781 (d := 0) (by omega) (by omega)) (by rfl) (by rfl) (by decide +kernel) (by rfl) (by rfl) (by omega) (by omega) (by omega) (by omega) rfl ?_
  refine jT_xi2l (x := 0) (z := 0) (pcN := 9) jI_346_8 rfl (by decide +kernel) rfl ?_
  refine jT_adv 1 (pcN := 10) (LN := [(0, (4, 0)), (1, (0, x1)), (2, (0, x2)), (3, (4, 1))]) (stN := []) (hsN := jpA_2981) (c1 := 0) (s1 := 0) (c2 := 0) (s2 := 0) (by exact rfl) ?_ (by omega) (by omega)
  refine jT_xgoto (pcN := 17) jI_346_10 rfl ?_
  refine jT_xiconst (k := 0) (pcN := 18) jI_346_17 rfl ?_
  exact jT_ret rfl (by decide) (by show 22 ≤ 22; decide) (by omega) (by omega) ⟨rfl, rfl, rfl⟩
theorem jI_240_0 : jmI (jm 240) 0 = (.bipush 6, 2) := by rfl
def jpA_2985 : List JC := [jzA_21, (100, [], jS0), jgh, jgh, jgh, jgh, jgh, (101, [], [0, 0, 0, 0, 0, 0]), jgh, jgh, jgh, jgh, jgh, jgh, jgh, jgh, (101, [], [0, 0, 0, 0, 0, 0])]
theorem jI_240_4 : jmI (jm 240) 4 = (.astore_n 3, 1) := by rfl
theorem jI_240_5 : jmI (jm 240) 5 = (.iconst 0, 1) := by rfl
theorem jI_240_6 : jmI (jm 240) 6 = (.istore 4, 2) := by rfl
theorem jI_240_8 : jmI (jm 240) 8 = (.iload 4, 2) := by rfl
theorem jI_240_10 : jmI (jm 240) 10 = (.bipush 6, 2) := by rfl
theorem jI_240_12 : jmI (jm 240) 12 = (.if_icmp .ge 41, 3) := by rfl
theorem jI_240_15 : jmI (jm 240) 15 = (.aload_n 3, 1) := by rfl
theorem jI_240_16 : jmI (jm 240) 16 = (.iload 4, 2) := by rfl
theorem jI_240_18 : jmI (jm 240) 18 = (.aload_n 0, 1) := by rfl
theorem jI_240_19 : jmI (jm 240) 19 = (.getfield 31, 3) := by rfl
theorem jI_240_22 : jmI (jm 240) 22 = (.iload 4, 2) := by rfl
theorem jI_240_24 : jmI (jm 240) 24 = (.laload, 1) := by rfl
theorem jI_240_25 : jmI (jm 240) 25 = (.aload_n 1, 1) := by rfl
theorem jI_240_26 : jmI (jm 240) 26 = (.iload_n 2, 1) := by rfl
theorem jI_240_27 : jmI (jm 240) 27 = (.bipush 6, 2) := by rfl
theorem jI_240_29 : jmI (jm 240) 29 = (.iadd, 1) := by rfl
theorem jI_240_31 : jmI (jm 240) 31 = (.i2l, 1) := by rfl
theorem jI_240_32 : jmI (jm 240) 32 = (.lmul, 1) := by rfl
theorem jI_240_33 : jmI (jm 240) 33 = (.aload_n 1, 1) := by rfl
theorem jI_240_34 : jmI (jm 240) 34 = (.iload_n 2, 1) := by rfl
theorem jI_240_35 : jmI (jm 240) 35 = (.iload 4, 2) := by rfl
theorem jI_240_37 : jmI (jm 240) 37 = (.iadd, 1) := by rfl
theorem jI_240_39 : jmI (jm 240) 39 = (.i2l, 1) := by rfl
theorem jI_240_40 : jmI (jm 240) 40 = (.aload_n 0, 1) := by rfl
theorem jI_240_41 : jmI (jm 240) 41 = (.getfield 35, 3) := by rfl
theorem jI_240_44 : jmI (jm 240) 44 = (.lmul, 1) := by rfl
theorem jI_240_45 : jmI (jm 240) 45 = (.lsub, 1) := by rfl
theorem jI_240_47 : jmI (jm 240) 47 = (.iinc 4 1, 3) := by rfl
theorem jI_240_50 : jmI (jm 240) 50 = (.goto (-42), 3) := by rfl
theorem jI_240_53 : jmI (jm 240) 53 = (.aload_n 0, 1) := by rfl
theorem jI_240_54 : jmI (jm 240) 54 = (.aload_n 3, 1) := by rfl
theorem jA_240_783 {xs : List Int} {d : Nat} {x2 : Int} (h_x2 : 0 ≤ x2 ∧ x2 ≤ 7) : jT xs (d + 2) 240 16 0 [(0, (4, 0)), (1, (4, 1)), (2, (0, 7 * x2))] [] jpA_130 1 6 (fun k v hsN => k = 0 ∧ v = (0, 0) ∧ hsN = jpA_130 ++ [(101, [], [0, 0, 0, 0, 0, 0])]) := by
  refine jT_xbipush (k := 6) (pcN := 2) jI_240_0 (by decide) rfl ?_
  refine jT_adv 1 (pcN := 4) (LN := [(0, (4, 0)), (1, (4, 1)), (2, (0, 7 * x2))]) (stN := [(4, 16)]) (hsN := jpA_2985) (c1 := 1) (s1 := 6) (c2 := 0) (s2 := 0) (by exact rfl) ?_ (by omega) (by omega)
  refine jT_xastore_n (v := (4, 16)) (LN := [(3, (4, 16)), (0, (4, 0)), (1, (4, 1)), (2, (0, 7 * x2))]) (pcN := 5) jI_240_4 rfl rfl rfl rfl ?_
  refine jT_xiconst (k := 0) (pcN := 6) jI_240_5 rfl ?_
  refine jT_xistore (v := (0, 0)) (LN := [(4, (0, 0)), (3, (4, 16)), (0, (4, 0)), (1, (4, 1)), (2, (0, 7 * x2))]) (pcN := 8) jI_240_6 rfl rfl rfl rfl ?_
  refine jT_xiload (v := (0, 0)) (pcN := 10) jI_240_8 rfl rfl rfl ?_
  refine jT_xbipush (k := 6) (pcN := 12) jI_240_10 (by decide) rfl ?_
  refine jT_xicF (t := 53) (pcN := 15) jI_240_12 rfl (by decide +kernel) rfl rfl ?_
  refine jT_xaload_n (v := (4, 16)) (pcN := 16) jI_240_15 rfl rfl rfl ?_
  refine jT_xiload (v := (0, 0)) (pcN := 18) jI_240_16 rfl rfl rfl ?_
  refine jT_xaload_n (v := (4, 0)) (pcN := 19) jI_240_18 rfl rfl rfl ?_
  refine jT_xgetf (a := 0) (t := 1) (ci := 14) (fi := 9) (c := jzA_21) (v := (4, 7)) (pcN := 22) jI_240_19 rfl rfl rfl rfl rfl rfl rfl ?_
  refine jT_xiload (v := (0, 0)) (pcN := 24) jI_240_22 rfl rfl rfl ?_
  refine jT_lald (x := 0) (a := 7) (j := 0) (fs := []) (X := [0, 0, 0, 0, 0, 0]) jI_240_24 rfl rfl rfl rfl ?_
  refine jT_eq (LN := [(4, (0, 0)), (3, (4, 16)), (0, (4, 0)), (1, (4, 1)), (2, (0, 7 * x2))]) (stN := [(1, 0), (0, 0), (4, 16)]) (hsN := jpA_2985) rfl rfl rfl ?_
  refine jT_xaload_n (v := (4, 1)) (pcN := 26) jI_240_25 rfl rfl rfl ?_
  refine jT_xiload_n (v := (0, 7 * x2)) (pcN := 27) jI_240_26 rfl rfl rfl ?_
  refine jT_xbipush (k := 6) (pcN := 29) jI_240_27 (by decide) rfl ?_
  refine jT_xiadd (x := 7 * x2) (y := 6) (z := 7 * x2 + 6) (pcN := 30) jI_240_29 rfl (by omega) rfl ?_
  refine jT_iald (x := 1) (a := 1) (j := (7 * x2 + 6).toNat) (fs := []) (X := jS0) (by rfl) (by rfl) (by rfl) (jw_nn (by omega) (by omega)) (jS0_r6 (by omega) (by omega)) ?_
  refine jT_eq (LN := [(4, (0, 0)), (3, (4, 16)), (0, (4, 0)), (1, (4, 1)), (2, (0, 7 * x2))]) (stN := [(0, 1), (1, 0), (0, 0), (4, 16)]) (hsN := jpA_2985) rfl rfl rfl ?_
  refine jT_xi2l (x := 1) (z := 1) (pcN := 32) jI_240_31 rfl (by decide +kernel) rfl ?_
  refine jT_xlmul (x := 0) (y := 1) (z := 0) (pcN := 33) jI_240_32 rfl (by decide) rfl ?_
  refine jT_xaload_n (v := (4, 1)) (pcN := 34) jI_240_33 rfl rfl rfl ?_
  refine jT_xiload_n (v := (0, 7 * x2)) (pcN := 35) jI_240_34 rfl rfl rfl ?_
  refine jT_xiload (v := (0, 0)) (pcN := 37) jI_240_35 rfl rfl rfl ?_
  refine jT_xiadd (x := 7 * x2) (y := 0) (z := 7 * x2) (pcN := 38) jI_240_37 rfl (by omega) rfl ?_
  refine jT_iald (x := 0) (a := 1) (j := (7 * x2).toNat) (fs := []) (X := jS0) (by rfl) (by rfl) (by rfl) (jw_nn (by omega) (by omega)) (jS0_r0 (by omega) (by omega)) ?_
  refine jT_eq (LN := [(4, (0, 0)), (3, (4, 16)), (0, (4, 0)), (1, (4, 1)), (2, (0, 7 * x2))]) (stN := [(0, 0), (1, 0), (0, 0), (4, 16)]) (hsN := jpA_2985) rfl rfl rfl ?_
  refine jT_xi2l (x := 0) (z := 0) (pcN := 40) jI_240_39 rfl (by decide +kernel) rfl ?_
  refine jT_xaload_n (v := (4, 0)) (pcN := 41) jI_240_40 rfl rfl rfl ?_
  refine jT_xgetf (a := 0) (t := 1) (ci := 14) (fi := 10) (c := jzA_21) (v := (1, 1)) (pcN := 44) jI_240_41 rfl rfl rfl rfl rfl rfl rfl ?_
  refine jT_xlmul (x := 0) (y := 1) (z := 0) (pcN := 45) jI_240_44 rfl (by decide) rfl ?_
  refine jT_xlsub (x := 0) (y := 0) (z := 0) (pcN := 46) jI_240_45 rfl (by decide) rfl ?_
  refine jT_adv 1 (pcN := 47) (LN := [(4, (0, 0)), (3, (4, 16)), (0, (4, 0)), (1, (4, 1)), (2, (0, 7 * x2))]) (stN := []) (hsN := jpA_2985) (c1 := 0) (s1 := 0) (c2 := 0) (s2 := 0) (by exact rfl) ?_ (by omega) (by omega)
  refine jT_xiinc (x := 0) (z := 1) (LN := [(4, (0, 1)), (3, (4, 16)), (0, (4, 0)), (1, (4, 1)), (2, (0, 7 * x2))]) (pcN := 50) jI_240_47 rfl rfl (by decide) rfl rfl ?_
  refine jT_xgoto (pcN := 8) jI_240_50 rfl ?_
  refine jT_xiload (v := (0, 1)) (pcN := 10) jI_240_8 rfl rfl rfl ?_
  refine jT_xbipush (k := 6) (pcN := 12) jI_240_10 (by decide) rfl ?_
  refine jT_xicF (t := 53) (pcN := 15) jI_240_12 rfl (by decide +kernel) rfl rfl ?_
  refine jT_xaload_n (v := (4, 16)) (pcN := 16) jI_240_15 rfl rfl rfl ?_
  refine jT_xiload (v := (0, 1)) (pcN := 18) jI_240_16 rfl rfl rfl ?_
  refine jT_xaload_n (v := (4, 0)) (pcN := 19) jI_240_18 rfl rfl rfl ?_
  refine jT_xgetf (a := 0) (t := 1) (ci := 14) (fi := 9) (c := jzA_21) (v := (4, 7)) (pcN := 22) jI_240_19 rfl rfl rfl rfl rfl rfl rfl ?_
  refine jT_xiload (v := (0, 1)) (pcN := 24) jI_240_22 rfl rfl rfl ?_
  refine jT_lald (x := 0) (a := 7) (j := 1) (fs := []) (X := [0, 0, 0, 0, 0, 0]) jI_240_24 rfl rfl rfl rfl ?_
  refine jT_eq (LN := [(4, (0, 1)), (3, (4, 16)), (0, (4, 0)), (1, (4, 1)), (2, (0, 7 * x2))]) (stN := [(1, 0), (0, 1), (4, 16)]) (hsN := jpA_2985) rfl rfl rfl ?_
  refine jT_xaload_n (v := (4, 1)) (pcN := 26) jI_240_25 rfl rfl rfl ?_
  refine jT_xiload_n (v := (0, 7 * x2)) (pcN := 27) jI_240_26 rfl rfl rfl ?_
  refine jT_xbipush (k := 6) (pcN := 29) jI_240_27 (by decide) rfl ?_
  refine jT_xiadd (x := 7 * x2) (y := 6) (z := 7 * x2 + 6) (pcN := 30) jI_240_29 rfl (by omega) rfl ?_
  refine jT_iald (x := 1) (a := 1) (j := (7 * x2 + 6).toNat) (fs := []) (X := jS0) (by rfl) (by rfl) (by rfl) (jw_nn (by omega) (by omega)) (jS0_r6 (by omega) (by omega)) ?_
  refine jT_eq (LN := [(4, (0, 1)), (3, (4, 16)), (0, (4, 0)), (1, (4, 1)), (2, (0, 7 * x2))]) (stN := [(0, 1), (1, 0), (0, 1), (4, 16)]) (hsN := jpA_2985) rfl rfl rfl ?_
  refine jT_xi2l (x := 1) (z := 1) (pcN := 32) jI_240_31 rfl (by decide +kernel) rfl ?_
  refine jT_xlmul (x := 0) (y := 1) (z := 0) (pcN := 33) jI_240_32 rfl (by decide) rfl ?_
  refine jT_xaload_n (v := (4, 1)) (pcN := 34) jI_240_33 rfl rfl rfl ?_
  refine jT_xiload_n (v := (0, 7 * x2)) (pcN := 35) jI_240_34 rfl rfl rfl ?_
  refine jT_xiload (v := (0, 1)) (pcN := 37) jI_240_35 rfl rfl rfl ?_
  refine jT_xiadd (x := 7 * x2) (y := 1) (z := 7 * x2 + 1) (pcN := 38) jI_240_37 rfl (by omega) rfl ?_
  refine jT_iald (x := 0) (a := 1) (j := (7 * x2 + 1).toNat) (fs := []) (X := jS0) (by rfl) (by rfl) (by rfl) (jw_nn (by omega) (by omega)) (jS0_r1 (by omega) (by omega)) ?_
  refine jT_eq (LN := [(4, (0, 1)), (3, (4, 16)), (0, (4, 0)), (1, (4, 1)), (2, (0, 7 * x2))]) (stN := [(0, 0), (1, 0), (0, 1), (4, 16)]) (hsN := jpA_2985) rfl rfl rfl ?_
  refine jT_xi2l (x := 0) (z := 0) (pcN := 40) jI_240_39 rfl (by decide +kernel) rfl ?_
  refine jT_xaload_n (v := (4, 0)) (pcN := 41) jI_240_40 rfl rfl rfl ?_
  refine jT_xgetf (a := 0) (t := 1) (ci := 14) (fi := 10) (c := jzA_21) (v := (1, 1)) (pcN := 44) jI_240_41 rfl rfl rfl rfl rfl rfl rfl ?_
  refine jT_xlmul (x := 0) (y := 1) (z := 0) (pcN := 45) jI_240_44 rfl (by decide) rfl ?_
  refine jT_xlsub (x := 0) (y := 0) (z := 0) (pcN := 46) jI_240_45 rfl (by decide) rfl ?_
  refine jT_adv 1 (pcN := 47) (LN := [(4, (0, 1)), (3, (4, 16)), (0, (4, 0)), (1, (4, 1)), (2, (0, 7 * x2))]) (stN := []) (hsN := jpA_2985) (c1 := 0) (s1 := 0) (c2 := 0) (s2 := 0) (by exact rfl) ?_ (by omega) (by omega)
  refine jT_xiinc (x := 1) (z := 2) (LN := [(4, (0, 2)), (3, (4, 16)), (0, (4, 0)), (1, (4, 1)), (2, (0, 7 * x2))]) (pcN := 50) jI_240_47 rfl rfl (by decide) rfl rfl ?_
  refine jT_xgoto (pcN := 8) jI_240_50 rfl ?_
  refine jT_xiload (v := (0, 2)) (pcN := 10) jI_240_8 rfl rfl rfl ?_
  refine jT_xbipush (k := 6) (pcN := 12) jI_240_10 (by decide) rfl ?_
  refine jT_xicF (t := 53) (pcN := 15) jI_240_12 rfl (by decide +kernel) rfl rfl ?_
  refine jT_xaload_n (v := (4, 16)) (pcN := 16) jI_240_15 rfl rfl rfl ?_
  refine jT_xiload (v := (0, 2)) (pcN := 18) jI_240_16 rfl rfl rfl ?_
  refine jT_xaload_n (v := (4, 0)) (pcN := 19) jI_240_18 rfl rfl rfl ?_
  refine jT_xgetf (a := 0) (t := 1) (ci := 14) (fi := 9) (c := jzA_21) (v := (4, 7)) (pcN := 22) jI_240_19 rfl rfl rfl rfl rfl rfl rfl ?_
  refine jT_xiload (v := (0, 2)) (pcN := 24) jI_240_22 rfl rfl rfl ?_
  refine jT_lald (x := 0) (a := 7) (j := 2) (fs := []) (X := [0, 0, 0, 0, 0, 0]) jI_240_24 rfl rfl rfl rfl ?_
  refine jT_eq (LN := [(4, (0, 2)), (3, (4, 16)), (0, (4, 0)), (1, (4, 1)), (2, (0, 7 * x2))]) (stN := [(1, 0), (0, 2), (4, 16)]) (hsN := jpA_2985) rfl rfl rfl ?_
  refine jT_xaload_n (v := (4, 1)) (pcN := 26) jI_240_25 rfl rfl rfl ?_
  refine jT_xiload_n (v := (0, 7 * x2)) (pcN := 27) jI_240_26 rfl rfl rfl ?_
  refine jT_xbipush (k := 6) (pcN := 29) jI_240_27 (by decide) rfl ?_
  refine jT_xiadd (x := 7 * x2) (y := 6) (z := 7 * x2 + 6) (pcN := 30) jI_240_29 rfl (by omega) rfl ?_
  refine jT_iald (x := 1) (a := 1) (j := (7 * x2 + 6).toNat) (fs := []) (X := jS0) (by rfl) (by rfl) (by rfl) (jw_nn (by omega) (by omega)) (jS0_r6 (by omega) (by omega)) ?_
  refine jT_eq (LN := [(4, (0, 2)), (3, (4, 16)), (0, (4, 0)), (1, (4, 1)), (2, (0, 7 * x2))]) (stN := [(0, 1), (1, 0), (0, 2), (4, 16)]) (hsN := jpA_2985) rfl rfl rfl ?_
  refine jT_xi2l (x := 1) (z := 1) (pcN := 32) jI_240_31 rfl (by decide +kernel) rfl ?_
  refine jT_xlmul (x := 0) (y := 1) (z := 0) (pcN := 33) jI_240_32 rfl (by decide) rfl ?_
  refine jT_xaload_n (v := (4, 1)) (pcN := 34) jI_240_33 rfl rfl rfl ?_
  refine jT_xiload_n (v := (0, 7 * x2)) (pcN := 35) jI_240_34 rfl rfl rfl ?_
  refine jT_xiload (v := (0, 2)) (pcN := 37) jI_240_35 rfl rfl rfl ?_
  refine jT_xiadd (x := 7 * x2) (y := 2) (z := 7 * x2 + 2) (pcN := 38) jI_240_37 rfl (by omega) rfl ?_
  refine jT_iald (x := 0) (a := 1) (j := (7 * x2 + 2).toNat) (fs := []) (X := jS0) (by rfl) (by rfl) (by rfl) (jw_nn (by omega) (by omega)) (jS0_r2 (by omega) (by omega)) ?_
  refine jT_eq (LN := [(4, (0, 2)), (3, (4, 16)), (0, (4, 0)), (1, (4, 1)), (2, (0, 7 * x2))]) (stN := [(0, 0), (1, 0), (0, 2), (4, 16)]) (hsN := jpA_2985) rfl rfl rfl ?_
  refine jT_xi2l (x := 0) (z := 0) (pcN := 40) jI_240_39 rfl (by decide +kernel) rfl ?_
  refine jT_xaload_n (v := (4, 0)) (pcN := 41) jI_240_40 rfl rfl rfl ?_
  refine jT_xgetf (a := 0) (t := 1) (ci := 14) (fi := 10) (c := jzA_21) (v := (1, 1)) (pcN := 44) jI_240_41 rfl rfl rfl rfl rfl rfl rfl ?_
  refine jT_xlmul (x := 0) (y := 1) (z := 0) (pcN := 45) jI_240_44 rfl (by decide) rfl ?_
  refine jT_xlsub (x := 0) (y := 0) (z := 0) (pcN := 46) jI_240_45 rfl (by decide) rfl ?_
  refine jT_adv 1 (pcN := 47) (LN := [(4, (0, 2)), (3, (4, 16)), (0, (4, 0)), (1, (4, 1)), (2, (0, 7 * x2))]) (stN := []) (hsN := jpA_2985) (c1 := 0) (s1 := 0) (c2 := 0) (s2 := 0) (by exact rfl) ?_ (by omega) (by omega)
  refine jT_xiinc (x := 2) (z := 3) (LN := [(4, (0, 3)), (3, (4, 16)), (0, (4, 0)), (1, (4, 1)), (2, (0, 7 * x2))]) (pcN := 50) jI_240_47 rfl rfl (by decide) rfl rfl ?_
  refine jT_xgoto (pcN := 8) jI_240_50 rfl ?_
  refine jT_xiload (v := (0, 3)) (pcN := 10) jI_240_8 rfl rfl rfl ?_
  refine jT_xbipush (k := 6) (pcN := 12) jI_240_10 (by decide) rfl ?_
  refine jT_xicF (t := 53) (pcN := 15) jI_240_12 rfl (by decide +kernel) rfl rfl ?_
  refine jT_xaload_n (v := (4, 16)) (pcN := 16) jI_240_15 rfl rfl rfl ?_
  refine jT_xiload (v := (0, 3)) (pcN := 18) jI_240_16 rfl rfl rfl ?_
  refine jT_xaload_n (v := (4, 0)) (pcN := 19) jI_240_18 rfl rfl rfl ?_
  refine jT_xgetf (a := 0) (t := 1) (ci := 14) (fi := 9) (c := jzA_21) (v := (4, 7)) (pcN := 22) jI_240_19 rfl rfl rfl rfl rfl rfl rfl ?_
  refine jT_xiload (v := (0, 3)) (pcN := 24) jI_240_22 rfl rfl rfl ?_
  refine jT_lald (x := 0) (a := 7) (j := 3) (fs := []) (X := [0, 0, 0, 0, 0, 0]) jI_240_24 rfl rfl rfl rfl ?_
  refine jT_eq (LN := [(4, (0, 3)), (3, (4, 16)), (0, (4, 0)), (1, (4, 1)), (2, (0, 7 * x2))]) (stN := [(1, 0), (0, 3), (4, 16)]) (hsN := jpA_2985) rfl rfl rfl ?_
  refine jT_xaload_n (v := (4, 1)) (pcN := 26) jI_240_25 rfl rfl rfl ?_
  refine jT_xiload_n (v := (0, 7 * x2)) (pcN := 27) jI_240_26 rfl rfl rfl ?_
  refine jT_xbipush (k := 6) (pcN := 29) jI_240_27 (by decide) rfl ?_
  refine jT_xiadd (x := 7 * x2) (y := 6) (z := 7 * x2 + 6) (pcN := 30) jI_240_29 rfl (by omega) rfl ?_
  refine jT_iald (x := 1) (a := 1) (j := (7 * x2 + 6).toNat) (fs := []) (X := jS0) (by rfl) (by rfl) (by rfl) (jw_nn (by omega) (by omega)) (jS0_r6 (by omega) (by omega)) ?_
  refine jT_eq (LN := [(4, (0, 3)), (3, (4, 16)), (0, (4, 0)), (1, (4, 1)), (2, (0, 7 * x2))]) (stN := [(0, 1), (1, 0), (0, 3), (4, 16)]) (hsN := jpA_2985) rfl rfl rfl ?_
  refine jT_xi2l (x := 1) (z := 1) (pcN := 32) jI_240_31 rfl (by decide +kernel) rfl ?_
  refine jT_xlmul (x := 0) (y := 1) (z := 0) (pcN := 33) jI_240_32 rfl (by decide) rfl ?_
  refine jT_xaload_n (v := (4, 1)) (pcN := 34) jI_240_33 rfl rfl rfl ?_
  refine jT_xiload_n (v := (0, 7 * x2)) (pcN := 35) jI_240_34 rfl rfl rfl ?_
  refine jT_xiload (v := (0, 3)) (pcN := 37) jI_240_35 rfl rfl rfl ?_
  refine jT_xiadd (x := 7 * x2) (y := 3) (z := 7 * x2 + 3) (pcN := 38) jI_240_37 rfl (by omega) rfl ?_
  refine jT_iald (x := 0) (a := 1) (j := (7 * x2 + 3).toNat) (fs := []) (X := jS0) (by rfl) (by rfl) (by rfl) (jw_nn (by omega) (by omega)) (jS0_r3 (by omega) (by omega)) ?_
  refine jT_eq (LN := [(4, (0, 3)), (3, (4, 16)), (0, (4, 0)), (1, (4, 1)), (2, (0, 7 * x2))]) (stN := [(0, 0), (1, 0), (0, 3), (4, 16)]) (hsN := jpA_2985) rfl rfl rfl ?_
  refine jT_xi2l (x := 0) (z := 0) (pcN := 40) jI_240_39 rfl (by decide +kernel) rfl ?_
  refine jT_xaload_n (v := (4, 0)) (pcN := 41) jI_240_40 rfl rfl rfl ?_
  refine jT_xgetf (a := 0) (t := 1) (ci := 14) (fi := 10) (c := jzA_21) (v := (1, 1)) (pcN := 44) jI_240_41 rfl rfl rfl rfl rfl rfl rfl ?_
  refine jT_xlmul (x := 0) (y := 1) (z := 0) (pcN := 45) jI_240_44 rfl (by decide) rfl ?_
  refine jT_xlsub (x := 0) (y := 0) (z := 0) (pcN := 46) jI_240_45 rfl (by decide) rfl ?_
  refine jT_adv 1 (pcN := 47) (LN := [(4, (0, 3)), (3, (4, 16)), (0, (4, 0)), (1, (4, 1)), (2, (0, 7 * x2))]) (stN := []) (hsN := jpA_2985) (c1 := 0) (s1 := 0) (c2 := 0) (s2 := 0) (by exact rfl) ?_ (by omega) (by omega)
  refine jT_xiinc (x := 3) (z := 4) (LN := [(4, (0, 4)), (3, (4, 16)), (0, (4, 0)), (1, (4, 1)), (2, (0, 7 * x2))]) (pcN := 50) jI_240_47 rfl rfl (by decide) rfl rfl ?_
  refine jT_xgoto (pcN := 8) jI_240_50 rfl ?_
  refine jT_xiload (v := (0, 4)) (pcN := 10) jI_240_8 rfl rfl rfl ?_
  refine jT_xbipush (k := 6) (pcN := 12) jI_240_10 (by decide) rfl ?_
  refine jT_xicF (t := 53) (pcN := 15) jI_240_12 rfl (by decide +kernel) rfl rfl ?_
  refine jT_xaload_n (v := (4, 16)) (pcN := 16) jI_240_15 rfl rfl rfl ?_
  refine jT_xiload (v := (0, 4)) (pcN := 18) jI_240_16 rfl rfl rfl ?_
  refine jT_xaload_n (v := (4, 0)) (pcN := 19) jI_240_18 rfl rfl rfl ?_
  refine jT_xgetf (a := 0) (t := 1) (ci := 14) (fi := 9) (c := jzA_21) (v := (4, 7)) (pcN := 22) jI_240_19 rfl rfl rfl rfl rfl rfl rfl ?_
  refine jT_xiload (v := (0, 4)) (pcN := 24) jI_240_22 rfl rfl rfl ?_
  refine jT_lald (x := 0) (a := 7) (j := 4) (fs := []) (X := [0, 0, 0, 0, 0, 0]) jI_240_24 rfl rfl rfl rfl ?_
  refine jT_eq (LN := [(4, (0, 4)), (3, (4, 16)), (0, (4, 0)), (1, (4, 1)), (2, (0, 7 * x2))]) (stN := [(1, 0), (0, 4), (4, 16)]) (hsN := jpA_2985) rfl rfl rfl ?_
  refine jT_xaload_n (v := (4, 1)) (pcN := 26) jI_240_25 rfl rfl rfl ?_
  refine jT_xiload_n (v := (0, 7 * x2)) (pcN := 27) jI_240_26 rfl rfl rfl ?_
  refine jT_xbipush (k := 6) (pcN := 29) jI_240_27 (by decide) rfl ?_
  refine jT_xiadd (x := 7 * x2) (y := 6) (z := 7 * x2 + 6) (pcN := 30) jI_240_29 rfl (by omega) rfl ?_
  refine jT_iald (x := 1) (a := 1) (j := (7 * x2 + 6).toNat) (fs := []) (X := jS0) (by rfl) (by rfl) (by rfl) (jw_nn (by omega) (by omega)) (jS0_r6 (by omega) (by omega)) ?_
  refine jT_eq (LN := [(4, (0, 4)), (3, (4, 16)), (0, (4, 0)), (1, (4, 1)), (2, (0, 7 * x2))]) (stN := [(0, 1), (1, 0), (0, 4), (4, 16)]) (hsN := jpA_2985) rfl rfl rfl ?_
  refine jT_xi2l (x := 1) (z := 1) (pcN := 32) jI_240_31 rfl (by decide +kernel) rfl ?_
  refine jT_xlmul (x := 0) (y := 1) (z := 0) (pcN := 33) jI_240_32 rfl (by decide) rfl ?_
  refine jT_xaload_n (v := (4, 1)) (pcN := 34) jI_240_33 rfl rfl rfl ?_
  refine jT_xiload_n (v := (0, 7 * x2)) (pcN := 35) jI_240_34 rfl rfl rfl ?_
  refine jT_xiload (v := (0, 4)) (pcN := 37) jI_240_35 rfl rfl rfl ?_
  refine jT_xiadd (x := 7 * x2) (y := 4) (z := 7 * x2 + 4) (pcN := 38) jI_240_37 rfl (by omega) rfl ?_
  refine jT_iald (x := 0) (a := 1) (j := (7 * x2 + 4).toNat) (fs := []) (X := jS0) (by rfl) (by rfl) (by rfl) (jw_nn (by omega) (by omega)) (jS0_r4 (by omega) (by omega)) ?_
  refine jT_eq (LN := [(4, (0, 4)), (3, (4, 16)), (0, (4, 0)), (1, (4, 1)), (2, (0, 7 * x2))]) (stN := [(0, 0), (1, 0), (0, 4), (4, 16)]) (hsN := jpA_2985) rfl rfl rfl ?_
  refine jT_xi2l (x := 0) (z := 0) (pcN := 40) jI_240_39 rfl (by decide +kernel) rfl ?_
  refine jT_xaload_n (v := (4, 0)) (pcN := 41) jI_240_40 rfl rfl rfl ?_
  refine jT_xgetf (a := 0) (t := 1) (ci := 14) (fi := 10) (c := jzA_21) (v := (1, 1)) (pcN := 44) jI_240_41 rfl rfl rfl rfl rfl rfl rfl ?_
  refine jT_xlmul (x := 0) (y := 1) (z := 0) (pcN := 45) jI_240_44 rfl (by decide) rfl ?_
  refine jT_xlsub (x := 0) (y := 0) (z := 0) (pcN := 46) jI_240_45 rfl (by decide) rfl ?_
  refine jT_adv 1 (pcN := 47) (LN := [(4, (0, 4)), (3, (4, 16)), (0, (4, 0)), (1, (4, 1)), (2, (0, 7 * x2))]) (stN := []) (hsN := jpA_2985) (c1 := 0) (s1 := 0) (c2 := 0) (s2 := 0) (by exact rfl) ?_ (by omega) (by omega)
  refine jT_xiinc (x := 4) (z := 5) (LN := [(4, (0, 5)), (3, (4, 16)), (0, (4, 0)), (1, (4, 1)), (2, (0, 7 * x2))]) (pcN := 50) jI_240_47 rfl rfl (by decide) rfl rfl ?_
  refine jT_xgoto (pcN := 8) jI_240_50 rfl ?_
  refine jT_xiload (v := (0, 5)) (pcN := 10) jI_240_8 rfl rfl rfl ?_
  refine jT_xbipush (k := 6) (pcN := 12) jI_240_10 (by decide) rfl ?_
  refine jT_xicF (t := 53) (pcN := 15) jI_240_12 rfl (by decide +kernel) rfl rfl ?_
  refine jT_xaload_n (v := (4, 16)) (pcN := 16) jI_240_15 rfl rfl rfl ?_
  refine jT_xiload (v := (0, 5)) (pcN := 18) jI_240_16 rfl rfl rfl ?_
  refine jT_xaload_n (v := (4, 0)) (pcN := 19) jI_240_18 rfl rfl rfl ?_
  refine jT_xgetf (a := 0) (t := 1) (ci := 14) (fi := 9) (c := jzA_21) (v := (4, 7)) (pcN := 22) jI_240_19 rfl rfl rfl rfl rfl rfl rfl ?_
  refine jT_xiload (v := (0, 5)) (pcN := 24) jI_240_22 rfl rfl rfl ?_
  refine jT_lald (x := 0) (a := 7) (j := 5) (fs := []) (X := [0, 0, 0, 0, 0, 0]) jI_240_24 rfl rfl rfl rfl ?_
  refine jT_eq (LN := [(4, (0, 5)), (3, (4, 16)), (0, (4, 0)), (1, (4, 1)), (2, (0, 7 * x2))]) (stN := [(1, 0), (0, 5), (4, 16)]) (hsN := jpA_2985) rfl rfl rfl ?_
  refine jT_xaload_n (v := (4, 1)) (pcN := 26) jI_240_25 rfl rfl rfl ?_
  refine jT_xiload_n (v := (0, 7 * x2)) (pcN := 27) jI_240_26 rfl rfl rfl ?_
  refine jT_xbipush (k := 6) (pcN := 29) jI_240_27 (by decide) rfl ?_
  refine jT_xiadd (x := 7 * x2) (y := 6) (z := 7 * x2 + 6) (pcN := 30) jI_240_29 rfl (by omega) rfl ?_
  refine jT_iald (x := 1) (a := 1) (j := (7 * x2 + 6).toNat) (fs := []) (X := jS0) (by rfl) (by rfl) (by rfl) (jw_nn (by omega) (by omega)) (jS0_r6 (by omega) (by omega)) ?_
  refine jT_eq (LN := [(4, (0, 5)), (3, (4, 16)), (0, (4, 0)), (1, (4, 1)), (2, (0, 7 * x2))]) (stN := [(0, 1), (1, 0), (0, 5), (4, 16)]) (hsN := jpA_2985) rfl rfl rfl ?_
  refine jT_xi2l (x := 1) (z := 1) (pcN := 32) jI_240_31 rfl (by decide +kernel) rfl ?_
  refine jT_xlmul (x := 0) (y := 1) (z := 0) (pcN := 33) jI_240_32 rfl (by decide) rfl ?_
  refine jT_xaload_n (v := (4, 1)) (pcN := 34) jI_240_33 rfl rfl rfl ?_
  refine jT_xiload_n (v := (0, 7 * x2)) (pcN := 35) jI_240_34 rfl rfl rfl ?_
  refine jT_xiload (v := (0, 5)) (pcN := 37) jI_240_35 rfl rfl rfl ?_
  refine jT_xiadd (x := 7 * x2) (y := 5) (z := 7 * x2 + 5) (pcN := 38) jI_240_37 rfl (by omega) rfl ?_
  refine jT_iald (x := 0) (a := 1) (j := (7 * x2 + 5).toNat) (fs := []) (X := jS0) (by rfl) (by rfl) (by rfl) (jw_nn (by omega) (by omega)) (jS0_r5 (by omega) (by omega)) ?_
  refine jT_eq (LN := [(4, (0, 5)), (3, (4, 16)), (0, (4, 0)), (1, (4, 1)), (2, (0, 7 * x2))]) (stN := [(0, 0), (1, 0), (0, 5), (4, 16)]) (hsN := jpA_2985) rfl rfl rfl ?_
  refine jT_xi2l (x := 0) (z := 0) (pcN := 40) jI_240_39 rfl (by decide +kernel) rfl ?_
  refine jT_xaload_n (v := (4, 0)) (pcN := 41) jI_240_40 rfl rfl rfl ?_
  refine jT_xgetf (a := 0) (t := 1) (ci := 14) (fi := 10) (c := jzA_21) (v := (1, 1)) (pcN := 44) jI_240_41 rfl rfl rfl rfl rfl rfl rfl ?_
  refine jT_xlmul (x := 0) (y := 1) (z := 0) (pcN := 45) jI_240_44 rfl (by decide) rfl ?_
  refine jT_xlsub (x := 0) (y := 0) (z := 0) (pcN := 46) jI_240_45 rfl (by decide) rfl ?_
  refine jT_adv 1 (pcN := 47) (LN := [(4, (0, 5)), (3, (4, 16)), (0, (4, 0)), (1, (4, 1)), (2, (0, 7 * x2))]) (stN := []) (hsN := jpA_2985) (c1 := 0) (s1 := 0) (c2 := 0) (s2 := 0) (by exact rfl) ?_ (by omega) (by omega)
  refine jT_xiinc (x := 5) (z := 6) (LN := [(4, (0, 6)), (3, (4, 16)), (0, (4, 0)), (1, (4, 1)), (2, (0, 7 * x2))]) (pcN := 50) jI_240_47 rfl rfl (by decide) rfl rfl ?_
  refine jT_xgoto (pcN := 8) jI_240_50 rfl ?_
  refine jT_xiload (v := (0, 6)) (pcN := 10) jI_240_8 rfl rfl rfl ?_
  refine jT_xbipush (k := 6) (pcN := 12) jI_240_10 (by decide) rfl ?_
  refine jT_xicT (pcN := 53) jI_240_12 rfl (by decide +kernel) rfl ?_
  refine jT_xaload_n (v := (4, 0)) (pcN := 54) jI_240_53 rfl rfl rfl ?_
  refine jT_xaload_n (v := (4, 16)) (pcN := 55) jI_240_54 rfl rfl rfl ?_
  refine jT_fR [0, 16] 17 (y := 213) (pcN := 58) (dC := 1) (bc1 := 0) (bc2 := 0) (c1 := 0) (c2 := 0) (as := [(4, 0), (4, 16)]) (asC := [(4, 0), (4, 1)]) (LN := [(4, (0, 6)), (3, (4, 16)), (0, (4, 0)), (1, (4, 1)), (2, (0, 7 * x2))]) (stN := []) (hsC := [jgh, (101, [], [0, 0, 0, 0, 0, 0])]) (v := (0, 0)) (st2 := [(0, 0)]) (jA_213_152 (d := 0)) (by rfl) (by rfl) (by decide +kernel) (by rfl) (by rfl) (by omega) (by omega) (by omega) (by omega) rfl ?_
  exact jT_ret rfl (by decide) (by show 16 ≤ 17; decide) (by omega) (by omega) ⟨rfl, rfl, rfl⟩
theorem jI_262_15 : jmI (jm 262) 15 = (.iconst 1, 1) := by rfl
theorem jI_262_16 : jmI (jm 262) 16 = (.goto 4, 3) := by rfl
theorem jI_262_28 : jmI (jm 262) 28 = (.aload_n 0, 1) := by rfl
theorem jI_262_29 : jmI (jm 262) 29 = (.iload_n 1, 1) := by rfl
theorem jI_262_33 : jmI (jm 262) 33 = (.aload_n 0, 1) := by rfl
theorem jI_262_34 : jmI (jm 262) 34 = (.aload_n 0, 1) := by rfl
theorem jI_262_35 : jmI (jm 262) 35 = (.getfield 9, 3) := by rfl
theorem jI_262_38 : jmI (jm 262) 38 = (.bipush 7, 2) := by rfl
theorem jI_262_40 : jmI (jm 262) 40 = (.iload_n 2, 1) := by rfl
theorem jI_262_41 : jmI (jm 262) 41 = (.imul, 1) := by rfl
theorem jA_262_784 {xs : List Int} {d : Nat} {x1 x2 : Int} (h_x1 : 0 ≤ x1 ∧ x1 ≤ 7) (h_x2 : 0 ≤ x2 ∧ x2 ≤ 7) : jT xs (d + 3) 262 16 0 [(0, (4, 0)), (1, (0, x1)), (2, (0, x2))] [] jpA_130 1 6 (fun k v hsN => k = 0 ∧ v = (0, 0) ∧ hsN = jpA_130 ++ [(101, [], [0, 0, 0, 0, 0, 0])]) := by
  refine jT_xaload_n (v := (4, 0)) (pcN := 1) jI_262_0 rfl rfl rfl ?_
  refine jT_xiload_n (v := (0, x1)) (pcN := 2) jI_262_1 rfl rfl rfl ?_
  refine jT_fR [] 16 (y := 188) (pcN := 5) (dC := 1) (bc1 := 0) (bc2 := 0) (c1 := 1) (c2 := 6) (as := [(0, x1)]) (asC := [(0, x1)]) (LN := [(0, (4, 0)), (1, (0, x1)), (2, (0, x2))]) (stN := [(4, 0)]) (hsC := []) (v := (0, 1)) (st2 := [(0, 1), (4, 0)]) (jA_188_13 (d := 0) (by omega)) (by rfl) (by rfl) (by decide +kernel) (by rfl) (by rfl) (by omega) (by omega) (by omega) (by omega) rfl ?_
  refine jT_xifF (t := 19) (pcN := 8) jI_262_5 rfl (by decide +kernel) rfl rfl ?_
  refine jT_xiload_n (v := (0, x2)) (pcN := 9) jI_262_8 rfl rfl rfl ?_
  refine jT_fR [] 16 (y := 188) (pcN := 12) (dC := 1) (bc1 := 0) (bc2 := 0) (c1 := 1) (c2 := 6) (as := [(0, x2)]) (asC := [(0, x2)]) (LN := [(0, (4, 0)), (1, (0, x1)), (2, (0, x2))]) (stN := [(4, 0)]) (hsC := []) (v := (0, 1)) (st2 := [(0, 1), (4, 0)]) (jA_188_20 (d := 0) (by omega)) (by rfl) (by rfl) (by decide +kernel) (by rfl) (by rfl) (by omega) (by omega) (by omega) (by omega) rfl ?_
  refine jT_xifF (t := 19) (pcN := 15) jI_262_12 rfl (by decide +kernel) rfl rfl ?_
  refine jT_xiconst (k := 1) (pcN := 16) jI_262_15 rfl ?_
  refine jT_xgoto (pcN := 20) jI_262_16 rfl ?_
  refine jT_fR [0, 1, 2, 3, 4, 5, 6, 7, 8, 9, 10, 11, 12, 13, 14, 15] 16 (y := 190) (pcN := 23) (dC := 1) (bc1 := 0) (bc2 := 0) (c1 := 1) (c2 := 6) (as := [(4, 0), (0, 1)]) (asC := [(4, 0), (0, 1)]) (LN := [(0, (4, 0)), (1, (0, x1)), (2, (0, x2))]) (stN := []) (hsC := jpA_22) (v := (0, 0)) (st2 := [(0, 0)]) (jA_190_39 (d := 0)) (by rfl) (by rfl) (by decide +kernel) (by rfl) (by rfl) (by omega) (by omega) (by omega) (by omega) rfl ?_
  refine jT_xifT (pcN := 28) jI_262_23 rfl (by decide +kernel) rfl ?_
  refine jT_xaload_n (v := (4, 0)) (pcN := 29) jI_262_28 rfl rfl rfl ?_
  refine jT_xiload_n (v := (0, x1)) (pcN := 30) jI_262_29 rfl rfl rfl ?_
  refine jT_fR [0, 1, 2, 3, 4, 5, 6, 7, 8, 9, 10, 11, 12, 13, 14, 15] 16 (y := 202) (pcN := 33) (dC := 1) (bc1 := 0) (bc2 := 0) (c1 := 1) (c2 := 6) (as := [(4, 0), (0, x1)]) (asC := [(4, 0), (0, x1)]) (LN := [(0, (4, 0)), (1, (0, x1)), (2, (0, x2))]) (stN := []) (hsC := jpA_130) (v := (9, 0)) (st2 := []) (jA_202_115 (d := 0) (by omega)) (by rfl) (by rfl) (by decide +kernel) (by rfl) (by rfl) (by omega) (by omega) (by omega) (by omega) rfl ?_
  refine jT_xaload_n (v := (4, 0)) (pcN := 34) jI_262_33 rfl rfl rfl ?_
  refine jT_xaload_n (v := (4, 0)) (pcN := 35) jI_262_34 rfl rfl rfl ?_
  refine jT_xgetf (a := 0) (t := 1) (ci := 14) (fi := 1) (c := jzA_21) (v := (4, 1)) (pcN := 38) jI_262_35 rfl rfl rfl rfl rfl rfl rfl ?_
  refine jT_xbipush (k := 7) (pcN := 40) jI_262_38 (by decide) rfl ?_
  refine jT_xiload_n (v := (0, x2)) (pcN := 41) jI_262_40 rfl rfl rfl ?_
  refine jT_ximul (x := 7) (y := x2) (z := 7 * x2) (pcN := 42) jI_262_41 rfl (rfl) rfl ?_
  refine jT_fA [0, 1, 2, 3, 4, 5, 6, 7, 8, 9, 10, 11, 12, 13, 14, 15] 16 (y := 240) (pcN := 45) (dC := 2) (bc1 := 1) (bc2 := 6) (c1 := 0) (c2 := 0) (as := [(4, 0), (4, 1), (0, 7 * x2)]) (asC := [(4, 0), (4, 1), (0, 7 * x2)]) (LN := [(0, (4, 0)), (1, (0, x1)), (2, (0, x2))]) (stN := []) (hsC := jpA_130) (ex := [(101, [], [0, 0, 0, 0, 0, 0])]) (v := (0, 0)) (st2 := [(0, 0)]) (hs2 := jpA_2985) (jA_240_783 (d := 0) (by omega)) (by rfl) (by rfl) (by decide +kernel) (by rfl) (by rfl) (by omega) (by omega) (by omega) (by omega) rfl (by decide +kernel) ?_
  exact jT_ret rfl (by decide) (by show 16 ≤ 17; decide) (by omega) (by omega) ⟨rfl, rfl, rfl⟩
theorem jA_139_785 {xs : List Int} {d : Nat} {x1 x2 : Int} (h_x1 : 0 ≤ x1 ∧ x1 ≤ 7) (h_x2 : 8 ≤ x2 ∧ x2 ≤ 2147483647) : jT xs (d + 1) 139 12 0 [(0, (4, 0)), (1, (0, x1)), (2, (0, x2))] [] jpA_6 1 6 (fun k v hsN => k = 1 ∧ v = (0, 0) ∧ hsN = jpA_6 ++ []) := by
  refine jT_xaload_n (v := (4, 0)) (pcN := 1) jI_139_0 rfl rfl rfl ?_
  refine jT_xiload_n (v := (0, x1)) (pcN := 2) jI_139_1 rfl rfl rfl ?_
  refine jT_xbipush (k := 8) (pcN := 4) jI_139_2 (by decide) rfl ?_
  refine jT_fR [0] 12 (y := 115) (pcN := 7) (dC := 0) (bc1 := 0) (bc2 := 0) (c1 := 1) (c2 := 6) (as := [(4, 0), (0, x1), (0, 8)]) (asC := [(4, 0), (0, x1), (0, 8)]) (LN := [(0, (4, 0)), (1, (0, x1)), (2, (0, x2))]) (stN := []) (hsC := [jgh]) (v := (9, 0)) (st2 := []) (jA_115_9 (d := 0) (by omega)) (by rfl) (by rfl) (by decide +kernel) (by rfl) (by rfl) (by omega) (by omega) (by omega) (by omega) rfl ?_
  refine jT_xaload_n (v := (4, 0)) (pcN := 8) jI_139_7 rfl rfl rfl ?_
  refine jT_xiload_n (v := (0, x2)) (pcN := 9) jI_139_8 rfl rfl rfl ?_
  refine jT_xbipush (k := 8) (pcN := 11) jI_139_9 (by decide) rfl ?_
  exact jT_fX [0] 12 (y := 115) (pcN := 14) (dC := 0) (bc1 := 1) (bc2 := 6) (as := [(4, 0), (0, x2), (0, 8)]) (asC := [(4, 0), (0, x2), (0, 8)]) (LN := [(0, (4, 0)), (1, (0, x1)), (2, (0, x2))]) (stN := []) (hsC := [jgh]) (e := 0) (jA_115_60 (d := 0) (by omega)) (by rfl) (by rfl) (by decide +kernel) (by rfl) (by rfl) (by omega) (by omega) (by omega) (by omega) ⟨rfl, ⟨rfl, rfl, rfl⟩⟩
theorem jA_346_786 {xs : List Int} {d : Nat} {x1 x2 : Int} (h_x1 : 0 ≤ x1 ∧ x1 ≤ 7) (h_x2 : 8 ≤ x2 ∧ x2 ≤ 2147483647) : jT xs (d + 2) 346 13 0 [(0, (4, 0)), (1, (0, x1)), (2, (0, x2)), (3, (4, 1))] [] jpA_15 1 6 (fun k v hsN => k = 0 ∧ v = (0, 1) ∧ hsN = jpA_15 ++ []) := by
  refine jT_xaload_n (v := (4, 1)) (pcN := 1) jI_346_0 rfl rfl rfl ?_
  refine jT_xiconst (k := 0) (pcN := 2) jI_346_1 rfl ?_
  refine jT_xaload_n (v := (4, 0)) (pcN := 3) jI_346_2 rfl rfl rfl ?_
  refine jT_xiload_n (v := (0, x1)) (pcN := 4) jI_346_3 rfl rfl rfl ?_
  refine jT_xiload_n (v := (0, x2)) (pcN := 5) jI_346_4 rfl rfl rfl ?_
  exact jT_fX [0, 2, 3, 4, 5, 6, 7, 8, 9, 10, 11, 12] 13 (y := 139) (pcN := 8) (dC := 1) (bc1 := 1) (bc2 := 6) (as := [(4, 0), (0, x1), (0, x2)]) (asC := [(4, 0), (0, x1), (0, x2)]) (LN := [(0, (4, 0)), (1, (0, x1)), (2, (0, x2)), (3, (4, 1))]) (stN := [(0, 0), (4, 1)]) (hsC := jpA_6) (e := 0) (jA_139_785 (d := 0) (by omega) (by omega)) (by rfl) (by rfl) (by decide +kernel) (by rfl) (by rfl) (by omega) (by omega) (by omega) (by omega) (show _ from ⟨rfl, rfl, rfl⟩)
theorem jA_262_787 {xs : List Int} {d : Nat} {x1 x2 : Int} (h_x1 : 0 ≤ x1 ∧ x1 ≤ 7) (h_x2 : 8 ≤ x2 ∧ x2 ≤ 2147483647) : jT xs (d + 2) 262 16 0 [(0, (4, 0)), (1, (0, x1)), (2, (0, x2))] [] jpA_22 0 0 (fun k v hsN => k = 0 ∧ v = (0, 0) ∧ hsN = jpA_20) := by
  refine jT_xaload_n (v := (4, 0)) (pcN := 1) jI_262_0 rfl rfl rfl ?_
  refine jT_xiload_n (v := (0, x1)) (pcN := 2) jI_262_1 rfl rfl rfl ?_
  refine jT_fR [] 16 (y := 188) (pcN := 5) (dC := 1) (bc1 := 0) (bc2 := 0) (c1 := 0) (c2 := 0) (as := [(0, x1)]) (asC := [(0, x1)]) (LN := [(0, (4, 0)), (1, (0, x1)), (2, (0, x2))]) (stN := [(4, 0)]) (hsC := []) (v := (0, 1)) (st2 := [(0, 1), (4, 0)]) (jA_188_13 (d := 0) (by omega)) (by rfl) (by rfl) (by decide +kernel) (by rfl) (by rfl) (by omega) (by omega) (by omega) (by omega) rfl ?_
  refine jT_xifF (t := 19) (pcN := 8) jI_262_5 rfl (by decide +kernel) rfl rfl ?_
  refine jT_xiload_n (v := (0, x2)) (pcN := 9) jI_262_8 rfl rfl rfl ?_
  refine jT_fR [] 16 (y := 188) (pcN := 12) (dC := 1) (bc1 := 0) (bc2 := 0) (c1 := 0) (c2 := 0) (as := [(0, x2)]) (asC := [(0, x2)]) (LN := [(0, (4, 0)), (1, (0, x1)), (2, (0, x2))]) (stN := [(4, 0)]) (hsC := []) (v := (0, 0)) (st2 := [(0, 0), (4, 0)]) (jA_188_63 (d := 0) (by omega)) (by rfl) (by rfl) (by decide +kernel) (by rfl) (by rfl) (by omega) (by omega) (by omega) (by omega) rfl ?_
  refine jT_xifT (pcN := 19) jI_262_12 rfl (by decide +kernel) rfl ?_
  refine jT_xiconst (k := 0) (pcN := 20) jI_262_19 rfl ?_
  refine jT_fB [0, 1, 2, 3, 4, 5, 6, 7, 8, 9, 10, 11, 12, 13, 14, 15] 16 (y := 190) (pcN := 23) (dC := 1) (bc1 := 0) (bc2 := 0) (c1 := 0) (c2 := 0) (as := [(4, 0), (0, 0)]) (asC := [(4, 0), (0, 0)]) (LN := [(0, (4, 0)), (1, (0, x1)), (2, (0, x2))]) (stN := []) (hsC := jpA_22) (hsD := jpA_20) (v := (0, 1)) (st2 := [(0, 1)]) (hs2 := jpA_20) (jA_190_6 (d := 0)) (by rfl) (by rfl) (by decide +kernel) (by rfl) (by rfl) (by omega) (by omega) (by omega) (by omega) rfl (by decide +kernel) ?_
  refine jT_xifF (t := 28) (pcN := 26) jI_262_23 rfl (by decide +kernel) rfl rfl ?_
  refine jT_xiconst (k := 0) (pcN := 27) jI_262_26 rfl ?_
  exact jT_ret rfl (by decide) (by show 16 ≤ 16; decide) (by omega) (by omega) ⟨rfl, rfl, rfl⟩
theorem jA_139_788 {xs : List Int} {d : Nat} {x1 x2 : Int} (h_x1 : 8 ≤ x1 ∧ x1 ≤ 2147483647) (h_x2 : (-2147483648) ≤ x2 ∧ x2 ≤ 2147483647) : jT xs (d + 1) 139 12 0 [(0, (4, 0)), (1, (0, x1)), (2, (0, x2))] [] jpA_6 1 6 (fun k v hsN => k = 1 ∧ v = (0, 0) ∧ hsN = jpA_6 ++ []) := by
  refine jT_xaload_n (v := (4, 0)) (pcN := 1) jI_139_0 rfl rfl rfl ?_
  refine jT_xiload_n (v := (0, x1)) (pcN := 2) jI_139_1 rfl rfl rfl ?_
  refine jT_xbipush (k := 8) (pcN := 4) jI_139_2 (by decide) rfl ?_
  exact jT_fX [0] 12 (y := 115) (pcN := 7) (dC := 0) (bc1 := 1) (bc2 := 6) (as := [(4, 0), (0, x1), (0, 8)]) (asC := [(4, 0), (0, x1), (0, 8)]) (LN := [(0, (4, 0)), (1, (0, x1)), (2, (0, x2))]) (stN := []) (hsC := [jgh]) (e := 0) (jA_115_65 (d := 0) (by omega)) (by rfl) (by rfl) (by decide +kernel) (by rfl) (by rfl) (by omega) (by omega) (by omega) (by omega) ⟨rfl, ⟨rfl, rfl, rfl⟩⟩
theorem jA_346_789 {xs : List Int} {d : Nat} {x1 x2 : Int} (h_x1 : 8 ≤ x1 ∧ x1 ≤ 2147483647) (h_x2 : (-2147483648) ≤ x2 ∧ x2 ≤ 2147483647) : jT xs (d + 2) 346 13 0 [(0, (4, 0)), (1, (0, x1)), (2, (0, x2)), (3, (4, 1))] [] jpA_15 1 6 (fun k v hsN => k = 0 ∧ v = (0, 1) ∧ hsN = jpA_15 ++ []) := by
  refine jT_xaload_n (v := (4, 1)) (pcN := 1) jI_346_0 rfl rfl rfl ?_
  refine jT_xiconst (k := 0) (pcN := 2) jI_346_1 rfl ?_
  refine jT_xaload_n (v := (4, 0)) (pcN := 3) jI_346_2 rfl rfl rfl ?_
  refine jT_xiload_n (v := (0, x1)) (pcN := 4) jI_346_3 rfl rfl rfl ?_
  refine jT_xiload_n (v := (0, x2)) (pcN := 5) jI_346_4 rfl rfl rfl ?_
  exact jT_fX [0, 2, 3, 4, 5, 6, 7, 8, 9, 10, 11, 12] 13 (y := 139) (pcN := 8) (dC := 1) (bc1 := 1) (bc2 := 6) (as := [(4, 0), (0, x1), (0, x2)]) (asC := [(4, 0), (0, x1), (0, x2)]) (LN := [(0, (4, 0)), (1, (0, x1)), (2, (0, x2)), (3, (4, 1))]) (stN := [(0, 0), (4, 1)]) (hsC := jpA_6) (e := 0) (jA_139_788 (d := 0) (by omega) (by omega)) (by rfl) (by rfl) (by decide +kernel) (by rfl) (by rfl) (by omega) (by omega) (by omega) (by omega) (show _ from ⟨rfl, rfl, rfl⟩)
theorem jA_262_790 {xs : List Int} {d : Nat} {x1 x2 : Int} (h_x1 : 8 ≤ x1 ∧ x1 ≤ 2147483647) (h_x2 : (-2147483648) ≤ x2 ∧ x2 ≤ 2147483647) : jT xs (d + 2) 262 16 0 [(0, (4, 0)), (1, (0, x1)), (2, (0, x2))] [] jpA_22 0 0 (fun k v hsN => k = 0 ∧ v = (0, 0) ∧ hsN = jpA_20) := by
  refine jT_xaload_n (v := (4, 0)) (pcN := 1) jI_262_0 rfl rfl rfl ?_
  refine jT_xiload_n (v := (0, x1)) (pcN := 2) jI_262_1 rfl rfl rfl ?_
  refine jT_fR [] 16 (y := 188) (pcN := 5) (dC := 1) (bc1 := 0) (bc2 := 0) (c1 := 0) (c2 := 0) (as := [(0, x1)]) (asC := [(0, x1)]) (LN := [(0, (4, 0)), (1, (0, x1)), (2, (0, x2))]) (stN := [(4, 0)]) (hsC := []) (v := (0, 0)) (st2 := [(0, 0), (4, 0)]) (jA_188_68 (d := 0) (by omega)) (by rfl) (by rfl) (by decide +kernel) (by rfl) (by rfl) (by omega) (by omega) (by omega) (by omega) rfl ?_
  refine jT_xifT (pcN := 19) jI_262_5 rfl (by decide +kernel) rfl ?_
  refine jT_xiconst (k := 0) (pcN := 20) jI_262_19 rfl ?_
  refine jT_fB [0, 1, 2, 3, 4, 5, 6, 7, 8, 9, 10, 11, 12, 13, 14, 15] 16 (y := 190) (pcN := 23) (dC := 1) (bc1 := 0) (bc2 := 0) (c1 := 0) (c2 := 0) (as := [(4, 0), (0, 0)]) (asC := [(4, 0), (0, 0)]) (LN := [(0, (4, 0)), (1, (0, x1)), (2, (0, x2))]) (stN := []) (hsC := jpA_22) (hsD := jpA_20) (v := (0, 1)) (st2 := [(0, 1)]) (hs2 := jpA_20) (jA_190_6 (d := 0)) (by rfl) (by rfl) (by decide +kernel) (by rfl) (by rfl) (by omega) (by omega) (by omega) (by omega) rfl (by decide +kernel) ?_
  refine jT_xifF (t := 28) (pcN := 26) jI_262_23 rfl (by decide +kernel) rfl rfl ?_
  refine jT_xiconst (k := 0) (pcN := 27) jI_262_26 rfl ?_
  exact jT_ret rfl (by decide) (by show 16 ≤ 16; decide) (by omega) (by omega) ⟨rfl, rfl, rfl⟩
theorem jI_379_1795 : jmI (jm 379) 1795 = (.aload_n 1, 1) := by rfl
theorem jI_379_1796 : jmI (jm 379) 1796 = (.aload_n 0, 1) := by rfl
theorem jI_379_1797 : jmI (jm 379) 1797 = (.iload 5, 2) := by rfl
theorem jI_379_1799 : jmI (jm 379) 1799 = (.iconst 1, 1) := by rfl
theorem jI_379_1800 : jmI (jm 379) 1800 = (.iadd, 1) := by rfl
theorem jI_379_1802 : jmI (jm 379) 1802 = (.aload_n 0, 1) := by rfl
theorem jI_379_1803 : jmI (jm 379) 1803 = (.iload 5, 2) := by rfl
theorem jI_379_1805 : jmI (jm 379) 1805 = (.iconst 2, 1) := by rfl
theorem jI_379_1806 : jmI (jm 379) 1806 = (.iadd, 1) := by rfl
theorem jI_379_1808 : jmI (jm 379) 1808 = (.aload_n 3, 1) := by rfl
theorem jI_379_1812 : jmI (jm 379) 1812 = (.istore 6, 2) := by rfl
theorem jI_379_1814 : jmI (jm 379) 1814 = (.aload_n 2, 1) := by rfl
theorem jI_379_1815 : jmI (jm 379) 1815 = (.aload_n 0, 1) := by rfl
theorem jI_379_1816 : jmI (jm 379) 1816 = (.iload 5, 2) := by rfl
theorem jI_379_1818 : jmI (jm 379) 1818 = (.iconst 1, 1) := by rfl
theorem jI_379_1819 : jmI (jm 379) 1819 = (.iadd, 1) := by rfl
theorem jI_379_1821 : jmI (jm 379) 1821 = (.aload_n 0, 1) := by rfl
theorem jI_379_1822 : jmI (jm 379) 1822 = (.iload 5, 2) := by rfl
theorem jI_379_1824 : jmI (jm 379) 1824 = (.iconst 2, 1) := by rfl
theorem jI_379_1825 : jmI (jm 379) 1825 = (.iadd, 1) := by rfl
theorem jI_379_1830 : jmI (jm 379) 1830 = (.istore 7, 2) := by rfl
theorem jI_379_1832 : jmI (jm 379) 1832 = (.aload_n 2, 1) := by rfl
theorem jI_379_1836 : jmI (jm 379) 1836 = (.iload 6, 2) := by rfl
theorem jI_379_1838 : jmI (jm 379) 1838 = (.if_icmp .eq 5, 3) := by rfl
theorem jI_379_1843 : jmI (jm 379) 1843 = (.iload 6, 2) := by rfl
theorem jI_379_1845 : jmI (jm 379) 1845 = (.ifCond .ne 15, 3) := by rfl
theorem jI_379_1860 : jmI (jm 379) 1860 = (.goto 1880, 3) := by rfl
set_option maxRecDepth 100000 in
theorem jL_21_0 {d : Nat} {x0 x1 x2 x3 x4 : Int} (h_x0 : (-2147483648) ≤ x0 ∧ x0 ≤ 2147483647) (h_x1 : (-2147483648) ≤ x1 ∧ x1 ≤ (-1)) (h_x2 : (-2147483648) ≤ x2 ∧ x2 ≤ 2147483647) (h_x3 : (-2147483648) ≤ x3 ∧ x3 ≤ 2147483647) (h_x4 : (-2147483648) ≤ x4 ∧ x4 ≤ 2147483647) : jT [x0, x1, x2, x3, x4] (d + 3) 379 30 1795 [(5, (0, 0)), (4, (4, 3)), (3, (4, 2)), (2, (4, 1)), (1, (4, 0)), (0, (6, 0))] [] jpA_267 1 6 (fun k v hsN => k = 0 ∧ v = (0, 1)) := by
  refine jT_xaload_n (v := (4, 0)) (pcN := 1796) jI_379_1795 rfl rfl rfl ?_
  refine jT_xaload_n (v := (6, 0)) (pcN := 1797) jI_379_1796 rfl rfl rfl ?_
  refine jT_xiload (v := (0, 0)) (pcN := 1799) jI_379_1797 rfl rfl rfl ?_
  refine jT_xiconst (k := 1) (pcN := 1800) jI_379_1799 rfl ?_
  refine jT_xiadd (x := 0) (y := 1) (z := 1) (pcN := 1801) jI_379_1800 rfl (by decide) rfl ?_
  refine jT_adv 1 (pcN := 1802) (LN := [(5, (0, 0)), (4, (4, 3)), (3, (4, 2)), (2, (4, 1)), (1, (4, 0)), (0, (6, 0))]) (stN := [(0, x1), (4, 0)]) (hsN := jpA_267) (c1 := 0) (s1 := 0) (c2 := 1) (s2 := 6) (by exact rfl) ?_ (by omega) (by omega)
  refine jT_xaload_n (v := (6, 0)) (pcN := 1803) jI_379_1802 rfl rfl rfl ?_
  refine jT_xiload (v := (0, 0)) (pcN := 1805) jI_379_1803 rfl rfl rfl ?_
  refine jT_xiconst (k := 2) (pcN := 1806) jI_379_1805 rfl ?_
  refine jT_xiadd (x := 0) (y := 2) (z := 2) (pcN := 1807) jI_379_1806 rfl (by decide) rfl ?_
  refine jT_adv 1 (pcN := 1808) (LN := [(5, (0, 0)), (4, (4, 3)), (3, (4, 2)), (2, (4, 1)), (1, (4, 0)), (0, (6, 0))]) (stN := [(0, x2), (0, x1), (4, 0)]) (hsN := jpA_267) (c1 := 0) (s1 := 0) (c2 := 1) (s2 := 6) (by exact rfl) ?_ (by omega) (by omega)
  refine jT_xaload_n (v := (4, 2)) (pcN := 1809) jI_379_1808 rfl rfl rfl ?_
  refine jT_fR [0, 2, 4, 5, 6, 7, 8, 9, 10, 11, 12, 13, 14] 30 (y := 346) (pcN := 1812) (dC := 2) (bc1 := 1) (bc2 := 6) (c1 := 0) (c2 := 0) (as := [(4, 0), (0, x1), (0, x2), (4, 2)]) (asC := [(4, 0), (0, x1), (0, x2), (4, 1)]) (LN := [(5, (0, 0)), (4, (4, 3)), (3, (4, 2)), (2, (4, 1)), (1, (4, 0)), (0, (6, 0))]) (stN := []) (hsC := jpA_15) (v := (0, 1)) (st2 := [(0, 1)]) (jA_346_775 (d := 0) (by omega) (by omega)) (by rfl) (by rfl) (by decide +kernel) (by rfl) (by rfl) (by omega) (by omega) (by omega) (by omega) rfl ?_
  refine jT_xistore (v := (0, 1)) (LN := [(6, (0, 1)), (5, (0, 0)), (4, (4, 3)), (3, (4, 2)), (2, (4, 1)), (1, (4, 0)), (0, (6, 0))]) (pcN := 1814) jI_379_1812 rfl rfl rfl rfl ?_
  refine jT_xaload_n (v := (4, 1)) (pcN := 1815) jI_379_1814 rfl rfl rfl ?_
  refine jT_xaload_n (v := (6, 0)) (pcN := 1816) jI_379_1815 rfl rfl rfl ?_
  refine jT_xiload (v := (0, 0)) (pcN := 1818) jI_379_1816 rfl rfl rfl ?_
  refine jT_xiconst (k := 1) (pcN := 1819) jI_379_1818 rfl ?_
  refine jT_xiadd (x := 0) (y := 1) (z := 1) (pcN := 1820) jI_379_1819 rfl (by decide) rfl ?_
  refine jT_adv 1 (pcN := 1821) (LN := [(6, (0, 1)), (5, (0, 0)), (4, (4, 3)), (3, (4, 2)), (2, (4, 1)), (1, (4, 0)), (0, (6, 0))]) (stN := [(0, x1), (4, 1)]) (hsN := jpA_267) (c1 := 0) (s1 := 0) (c2 := 0) (s2 := 0) (by exact rfl) ?_ (by omega) (by omega)
  refine jT_xaload_n (v := (6, 0)) (pcN := 1822) jI_379_1821 rfl rfl rfl ?_
  refine jT_xiload (v := (0, 0)) (pcN := 1824) jI_379_1822 rfl rfl rfl ?_
  refine jT_xiconst (k := 2) (pcN := 1825) jI_379_1824 rfl ?_
  refine jT_xiadd (x := 0) (y := 2) (z := 2) (pcN := 1826) jI_379_1825 rfl (by decide) rfl ?_
  refine jT_adv 1 (pcN := 1827) (LN := [(6, (0, 1)), (5, (0, 0)), (4, (4, 3)), (3, (4, 2)), (2, (4, 1)), (1, (4, 0)), (0, (6, 0))]) (stN := [(0, x2), (0, x1), (4, 1)]) (hsN := jpA_267) (c1 := 0) (s1 := 0) (c2 := 0) (s2 := 0) (by exact rfl) ?_ (by omega) (by omega)
  refine jT_fB [1, 15, 16, 17, 18, 19, 20, 21, 22, 23, 24, 25, 26, 27, 28, 29] 30 (y := 262) (pcN := 1830) (dC := 2) (bc1 := 0) (bc2 := 0) (c1 := 0) (c2 := 0) (as := [(4, 1), (0, x1), (0, x2)]) (asC := [(4, 0), (0, x1), (0, x2)]) (LN := [(6, (0, 1)), (5, (0, 0)), (4, (4, 3)), (3, (4, 2)), (2, (4, 1)), (1, (4, 0)), (0, (6, 0))]) (stN := []) (hsC := jpA_22) (hsD := jpA_20) (v := (0, 0)) (st2 := [(0, 0)]) (hs2 := jpA_306) (jA_262_776 (d := 0) (by omega) (by omega)) (by rfl) (by rfl) (by decide +kernel) (by rfl) (by rfl) (by omega) (by omega) (by omega) (by omega) rfl (by decide +kernel) ?_
  refine jT_xistore (v := (0, 0)) (LN := [(7, (0, 0)), (6, (0, 1)), (5, (0, 0)), (4, (4, 3)), (3, (4, 2)), (2, (4, 1)), (1, (4, 0)), (0, (6, 0))]) (pcN := 1832) jI_379_1830 rfl rfl rfl rfl ?_
  refine jT_xaload_n (v := (4, 1)) (pcN := 1833) jI_379_1832 rfl rfl rfl ?_
  refine jT_fR [1, 15, 16, 17, 18, 19, 20, 21, 22, 23, 24, 25, 26, 27, 28, 29] 30 (y := 186) (pcN := 1836) (dC := 0) (bc1 := 0) (bc2 := 0) (c1 := 0) (c2 := 0) (as := [(4, 1)]) (asC := [(4, 0)]) (LN := [(7, (0, 0)), (6, (0, 1)), (5, (0, 0)), (4, (4, 3)), (3, (4, 2)), (2, (4, 1)), (1, (4, 0)), (0, (6, 0))]) (stN := []) (hsC := jpA_20) (v := (0, 1)) (st2 := [(0, 1)]) (jA_186_8 (d := 0)) (by rfl) (by rfl) (by decide +kernel) (by rfl) (by rfl) (by omega) (by omega) (by omega) (by omega) rfl ?_
  refine jT_xiload (v := (0, 1)) (pcN := 1838) jI_379_1836 rfl rfl rfl ?_
  refine jT_xicT (pcN := 1843) jI_379_1838 rfl (by decide +kernel) rfl ?_
  refine jT_xiload (v := (0, 1)) (pcN := 1845) jI_379_1843 rfl rfl rfl ?_
  refine jT_xifT (pcN := 1860) jI_379_1845 rfl (by decide +kernel) rfl ?_
  refine jT_xgoto (pcN := 3740) jI_379_1860 rfl ?_
  refine jT_xiinc (x := 0) (z := 5) (LN := [(5, (0, 5)), (7, (0, 0)), (6, (0, 1)), (4, (4, 3)), (3, (4, 2)), (2, (4, 1)), (1, (4, 0)), (0, (6, 0))]) (pcN := 3743) jI_379_3740 rfl rfl (by decide) rfl rfl ?_
  refine jT_xgoto (pcN := 28) jI_379_3743 rfl ?_
  refine jT_xiload (v := (0, 5)) (pcN := 30) jI_379_28 rfl rfl rfl ?_
  refine jT_xaload_n (v := (6, 0)) (pcN := 31) jI_379_30 rfl rfl rfl ?_
  refine jT_adv 1 (pcN := 32) (LN := [(5, (0, 5)), (7, (0, 0)), (6, (0, 1)), (4, (4, 3)), (3, (4, 2)), (2, (4, 1)), (1, (4, 0)), (0, (6, 0))]) (stN := [(0, 5), (0, 5)]) (hsN := jpA_306) (c1 := 0) (s1 := 0) (c2 := 0) (s2 := 0) (by exact rfl) ?_ (by omega) (by omega)
  refine jT_xiconst (k := 5) (pcN := 33) jI_379_32 rfl ?_
  refine jT_xisub (x := 5) (y := 5) (z := 0) (pcN := 34) jI_379_33 rfl (by decide) rfl ?_
  refine jT_xicT (pcN := 3746) jI_379_34 rfl (by decide +kernel) rfl ?_
  refine jT_xiconst (k := 1) (pcN := 3747) jI_379_3746 rfl ?_
  exact jT_ret rfl (by decide) (by show 30 ≤ 30; decide) (by omega) (by omega) ⟨rfl, rfl⟩
set_option maxRecDepth 100000 in
theorem jL_21_1 {d : Nat} {x0 x1 x2 x3 x4 : Int} (h_x0 : (-2147483648) ≤ x0 ∧ x0 ≤ 2147483647) (h_x1 : 0 ≤ x1 ∧ x1 ≤ 7) (h_x2 : (-2147483648) ≤ x2 ∧ x2 ≤ (-1)) (h_x3 : (-2147483648) ≤ x3 ∧ x3 ≤ 2147483647) (h_x4 : (-2147483648) ≤ x4 ∧ x4 ≤ 2147483647) : jT [x0, x1, x2, x3, x4] (d + 3) 379 30 1795 [(5, (0, 0)), (4, (4, 3)), (3, (4, 2)), (2, (4, 1)), (1, (4, 0)), (0, (6, 0))] [] jpA_267 1 6 (fun k v hsN => k = 0 ∧ v = (0, 1)) := by
  refine jT_xaload_n (v := (4, 0)) (pcN := 1796) jI_379_1795 rfl rfl rfl ?_
  refine jT_xaload_n (v := (6, 0)) (pcN := 1797) jI_379_1796 rfl rfl rfl ?_
  refine jT_xiload (v := (0, 0)) (pcN := 1799) jI_379_1797 rfl rfl rfl ?_
  refine jT_xiconst (k := 1) (pcN := 1800) jI_379_1799 rfl ?_
  refine jT_xiadd (x := 0) (y := 1) (z := 1) (pcN := 1801) jI_379_1800 rfl (by decide) rfl ?_
  refine jT_adv 1 (pcN := 1802) (LN := [(5, (0, 0)), (4, (4, 3)), (3, (4, 2)), (2, (4, 1)), (1, (4, 0)), (0, (6, 0))]) (stN := [(0, x1), (4, 0)]) (hsN := jpA_267) (c1 := 0) (s1 := 0) (c2 := 1) (s2 := 6) (by exact rfl) ?_ (by omega) (by omega)
  refine jT_xaload_n (v := (6, 0)) (pcN := 1803) jI_379_1802 rfl rfl rfl ?_
  refine jT_xiload (v := (0, 0)) (pcN := 1805) jI_379_1803 rfl rfl rfl ?_
  refine jT_xiconst (k := 2) (pcN := 1806) jI_379_1805 rfl ?_
  refine jT_xiadd (x := 0) (y := 2) (z := 2) (pcN := 1807) jI_379_1806 rfl (by decide) rfl ?_
  refine jT_adv 1 (pcN := 1808) (LN := [(5, (0, 0)), (4, (4, 3)), (3, (4, 2)), (2, (4, 1)), (1, (4, 0)), (0, (6, 0))]) (stN := [(0, x2), (0, x1), (4, 0)]) (hsN := jpA_267) (c1 := 0) (s1 := 0) (c2 := 1) (s2 := 6) (by exact rfl) ?_ (by omega) (by omega)
  refine jT_xaload_n (v := (4, 2)) (pcN := 1809) jI_379_1808 rfl rfl rfl ?_
  refine jT_fR [0, 2, 4, 5, 6, 7, 8, 9, 10, 11, 12, 13, 14] 30 (y := 346) (pcN := 1812) (dC := 2) (bc1 := 1) (bc2 := 6) (c1 := 0) (c2 := 0) (as := [(4, 0), (0, x1), (0, x2), (4, 2)]) (asC := [(4, 0), (0, x1), (0, x2), (4, 1)]) (LN := [(5, (0, 0)), (4, (4, 3)), (3, (4, 2)), (2, (4, 1)), (1, (4, 0)), (0, (6, 0))]) (stN := []) (hsC := jpA_15) (v := (0, 1)) (st2 := [(0, 1)]) (jA_346_778 (d := 0) (by omega) (by omega)) (by rfl) (by rfl) (by decide +kernel) (by rfl) (by rfl) (by omega) (by omega) (by omega) (by omega) rfl ?_
  refine jT_xistore (v := (0, 1)) (LN := [(6, (0, 1)), (5, (0, 0)), (4, (4, 3)), (3, (4, 2)), (2, (4, 1)), (1, (4, 0)), (0, (6, 0))]) (pcN := 1814) jI_379_1812 rfl rfl rfl rfl ?_
  refine jT_xaload_n (v := (4, 1)) (pcN := 1815) jI_379_1814 rfl rfl rfl ?_
  refine jT_xaload_n (v := (6, 0)) (pcN := 1816) jI_379_1815 rfl rfl rfl ?_
  refine jT_xiload (v := (0, 0)) (pcN := 1818) jI_379_1816 rfl rfl rfl ?_
  refine jT_xiconst (k := 1) (pcN := 1819) jI_379_1818 rfl ?_
  refine jT_xiadd (x := 0) (y := 1) (z := 1) (pcN := 1820) jI_379_1819 rfl (by decide) rfl ?_
  refine jT_adv 1 (pcN := 1821) (LN := [(6, (0, 1)), (5, (0, 0)), (4, (4, 3)), (3, (4, 2)), (2, (4, 1)), (1, (4, 0)), (0, (6, 0))]) (stN := [(0, x1), (4, 1)]) (hsN := jpA_267) (c1 := 0) (s1 := 0) (c2 := 0) (s2 := 0) (by exact rfl) ?_ (by omega) (by omega)
  refine jT_xaload_n (v := (6, 0)) (pcN := 1822) jI_379_1821 rfl rfl rfl ?_
  refine jT_xiload (v := (0, 0)) (pcN := 1824) jI_379_1822 rfl rfl rfl ?_
  refine jT_xiconst (k := 2) (pcN := 1825) jI_379_1824 rfl ?_
  refine jT_xiadd (x := 0) (y := 2) (z := 2) (pcN := 1826) jI_379_1825 rfl (by decide) rfl ?_
  refine jT_adv 1 (pcN := 1827) (LN := [(6, (0, 1)), (5, (0, 0)), (4, (4, 3)), (3, (4, 2)), (2, (4, 1)), (1, (4, 0)), (0, (6, 0))]) (stN := [(0, x2), (0, x1), (4, 1)]) (hsN := jpA_267) (c1 := 0) (s1 := 0) (c2 := 0) (s2 := 0) (by exact rfl) ?_ (by omega) (by omega)
  refine jT_fB [1, 15, 16, 17, 18, 19, 20, 21, 22, 23, 24, 25, 26, 27, 28, 29] 30 (y := 262) (pcN := 1830) (dC := 2) (bc1 := 0) (bc2 := 0) (c1 := 0) (c2 := 0) (as := [(4, 1), (0, x1), (0, x2)]) (asC := [(4, 0), (0, x1), (0, x2)]) (LN := [(6, (0, 1)), (5, (0, 0)), (4, (4, 3)), (3, (4, 2)), (2, (4, 1)), (1, (4, 0)), (0, (6, 0))]) (stN := []) (hsC := jpA_22) (hsD := jpA_20) (v := (0, 0)) (st2 := [(0, 0)]) (hs2 := jpA_306) (jA_262_779 (d := 0) (by omega) (by omega)) (by rfl) (by rfl) (by decide +kernel) (by rfl) (by rfl) (by omega) (by omega) (by omega) (by omega) rfl (by decide +kernel) ?_
  refine jT_xistore (v := (0, 0)) (LN := [(7, (0, 0)), (6, (0, 1)), (5, (0, 0)), (4, (4, 3)), (3, (4, 2)), (2, (4, 1)), (1, (4, 0)), (0, (6, 0))]) (pcN := 1832) jI_379_1830 rfl rfl rfl rfl ?_
  refine jT_xaload_n (v := (4, 1)) (pcN := 1833) jI_379_1832 rfl rfl rfl ?_
  refine jT_fR [1, 15, 16, 17, 18, 19, 20, 21, 22, 23, 24, 25, 26, 27, 28, 29] 30 (y := 186) (pcN := 1836) (dC := 0) (bc1 := 0) (bc2 := 0) (c1 := 0) (c2 := 0) (as := [(4, 1)]) (asC := [(4, 0)]) (LN := [(7, (0, 0)), (6, (0, 1)), (5, (0, 0)), (4, (4, 3)), (3, (4, 2)), (2, (4, 1)), (1, (4, 0)), (0, (6, 0))]) (stN := []) (hsC := jpA_20) (v := (0, 1)) (st2 := [(0, 1)]) (jA_186_8 (d := 0)) (by rfl) (by rfl) (by decide +kernel) (by rfl) (by rfl) (by omega) (by omega) (by omega) (by omega) rfl ?_
  refine jT_xiload (v := (0, 1)) (pcN := 1838) jI_379_1836 rfl rfl rfl ?_
  refine jT_xicT (pcN := 1843) jI_379_1838 rfl (by decide +kernel) rfl ?_
  refine jT_xiload (v := (0, 1)) (pcN := 1845) jI_379_1843 rfl rfl rfl ?_
  refine jT_xifT (pcN := 1860) jI_379_1845 rfl (by decide +kernel) rfl ?_
  refine jT_xgoto (pcN := 3740) jI_379_1860 rfl ?_
  refine jT_xiinc (x := 0) (z := 5) (LN := [(5, (0, 5)), (7, (0, 0)), (6, (0, 1)), (4, (4, 3)), (3, (4, 2)), (2, (4, 1)), (1, (4, 0)), (0, (6, 0))]) (pcN := 3743) jI_379_3740 rfl rfl (by decide) rfl rfl ?_
  refine jT_xgoto (pcN := 28) jI_379_3743 rfl ?_
  refine jT_xiload (v := (0, 5)) (pcN := 30) jI_379_28 rfl rfl rfl ?_
  refine jT_xaload_n (v := (6, 0)) (pcN := 31) jI_379_30 rfl rfl rfl ?_
  refine jT_adv 1 (pcN := 32) (LN := [(5, (0, 5)), (7, (0, 0)), (6, (0, 1)), (4, (4, 3)), (3, (4, 2)), (2, (4, 1)), (1, (4, 0)), (0, (6, 0))]) (stN := [(0, 5), (0, 5)]) (hsN := jpA_306) (c1 := 0) (s1 := 0) (c2 := 0) (s2 := 0) (by exact rfl) ?_ (by omega) (by omega)
  refine jT_xiconst (k := 5) (pcN := 33) jI_379_32 rfl ?_
  refine jT_xisub (x := 5) (y := 5) (z := 0) (pcN := 34) jI_379_33 rfl (by decide) rfl ?_
  refine jT_xicT (pcN := 3746) jI_379_34 rfl (by decide +kernel) rfl ?_
  refine jT_xiconst (k := 1) (pcN := 3747) jI_379_3746 rfl ?_
  exact jT_ret rfl (by decide) (by show 30 ≤ 30; decide) (by omega) (by omega) ⟨rfl, rfl⟩
def jzA_3054 : JC := (114, [], [37, 37, 37, 37, 37, 37, 37, 37])
def jpA_3055 : List JC := [jzA_265, jzA_266, (101, [], [0]), jgh, (8, [(4, 30), (4, 31)], []), jgh, jgh, jgh, jgh, jgh, jgh, jgh, jgh, jgh, jzA_721, (100, [], jS0), jgh, jgh, jgh, jgh, jgh, (101, [], [0, 0, 0, 0, 0, 0]), jgh, jgh, jgh, jgh, jgh, jgh, jgh, jgh, jgh, (101, [], [0, 0, 0, 0, 0, 0]), jzA_3054, jgh, jgh, jgh, jgh, (4, [(4, 38), (1, 1)], []), (101, [], [0, 0, 0, 0, 0, 0])]
def jpA_3056 : List JC := [jzA_265, jzA_266, (101, [], [0]), jgh, (8, [(4, 30), (4, 31)], []), jgh, jgh, jgh, jgh, jgh, jgh, jgh, jgh, jgh, jzA_721, (100, [], jS0), jgh, jgh, jgh, jgh, jgh, (101, [], [0, 0, 0, 0, 0, 0]), jgh, jgh, jgh, jgh, jgh, jgh, jgh, jgh, jgh, (101, [], [0, 0, 0, 0, 0, 0]), jzA_3054, jgh, jgh, jgh, jgh, (4, [(4, 38), (1, 1)], []), (101, [], [0, 0, 0, 0, 0, 0]), (101, [], [0, 0, 0, 0, 0, 0])]
theorem jI_379_1848 : jmI (jm 379) 1848 = (.aload_n 3, 1) := by rfl
theorem jI_379_1849 : jmI (jm 379) 1849 = (.iconst 0, 1) := by rfl
theorem jI_379_1850 : jmI (jm 379) 1850 = (.laload, 1) := by rfl
theorem jI_379_1851 : jmI (jm 379) 1851 = (.iload 7, 2) := by rfl
theorem jI_379_1853 : jmI (jm 379) 1853 = (.i2l, 1) := by rfl
theorem jI_379_1855 : jmI (jm 379) 1855 = (.ifCond .eq 5, 3) := by rfl
set_option maxRecDepth 100000 in
theorem jL_21_2 {d : Nat} {x0 x1 x2 x3 x4 : Int} (h_x0 : (-2147483648) ≤ x0 ∧ x0 ≤ 2147483647) (h_x1 : 0 ≤ x1 ∧ x1 ≤ 7) (h_x2 : 0 ≤ x2 ∧ x2 ≤ 7) (h_x3 : (-2147483648) ≤ x3 ∧ x3 ≤ 2147483647) (h_x4 : (-2147483648) ≤ x4 ∧ x4 ≤ 2147483647) : jT [x0, x1, x2, x3, x4] (d + 5) 379 39 1795 [(5, (0, 0)), (4, (4, 3)), (3, (4, 2)), (2, (4, 1)), (1, (4, 0)), (0, (6, 0))] [] jpA_3055 1 6 (fun k v hsN => k = 0 ∧ v = (0, 1)) := by
  refine jT_xaload_n (v := (4, 0)) (pcN := 1796) jI_379_1795 rfl rfl rfl ?_
  refine jT_xaload_n (v := (6, 0)) (pcN := 1797) jI_379_1796 rfl rfl rfl ?_
  refine jT_xiload (v := (0, 0)) (pcN := 1799) jI_379_1797 rfl rfl rfl ?_
  refine jT_xiconst (k := 1) (pcN := 1800) jI_379_1799 rfl ?_
  refine jT_xiadd (x := 0) (y := 1) (z := 1) (pcN := 1801) jI_379_1800 rfl (by decide) rfl ?_
  refine jT_adv 1 (pcN := 1802) (LN := [(5, (0, 0)), (4, (4, 3)), (3, (4, 2)), (2, (4, 1)), (1, (4, 0)), (0, (6, 0))]) (stN := [(0, x1), (4, 0)]) (hsN := jpA_3055) (c1 := 0) (s1 := 0) (c2 := 1) (s2 := 6) (by exact rfl) ?_ (by omega) (by omega)
  refine jT_xaload_n (v := (6, 0)) (pcN := 1803) jI_379_1802 rfl rfl rfl ?_
  refine jT_xiload (v := (0, 0)) (pcN := 1805) jI_379_1803 rfl rfl rfl ?_
  refine jT_xiconst (k := 2) (pcN := 1806) jI_379_1805 rfl ?_
  refine jT_xiadd (x := 0) (y := 2) (z := 2) (pcN := 1807) jI_379_1806 rfl (by decide) rfl ?_
  refine jT_adv 1 (pcN := 1808) (LN := [(5, (0, 0)), (4, (4, 3)), (3, (4, 2)), (2, (4, 1)), (1, (4, 0)), (0, (6, 0))]) (stN := [(0, x2), (0, x1), (4, 0)]) (hsN := jpA_3055) (c1 := 0) (s1 := 0) (c2 := 1) (s2 := 6) (by exact rfl) ?_ (by omega) (by omega)
  refine jT_xaload_n (v := (4, 2)) (pcN := 1809) jI_379_1808 rfl rfl rfl ?_
  refine jT_fR [0, 2, 4, 5, 6, 7, 8, 9, 10, 11, 12, 13, 14, 30, 31, 32, 33, 34, 35, 36, 37, 38] 39 (y := 346) (pcN := 1812) (dC := 4) (bc1 := 0) (bc2 := 0) (c1 := 1) (c2 := 6) (as := [(4, 0), (0, x1), (0, x2), (4, 2)]) (asC := [(4, 0), (0, x1), (0, x2), (4, 1)]) (LN := [(5, (0, 0)), (4, (4, 3)), (3, (4, 2)), (2, (4, 1)), (1, (4, 0)), (0, (6, 0))]) (stN := []) (hsC := jpA_2981) (v := (0, 0)) (st2 := [(0, 0)]) (jA_346_782 (d := 0) (by omega) (by omega)) (by rfl) (by rfl) (by decide +kernel) (by rfl) (by rfl) (by omega) (by omega) (by omega) (by omega) rfl ?_
  refine jT_xistore (v := (0, 0)) (LN := [(6, (0, 0)), (5, (0, 0)), (4, (4, 3)), (3, (4, 2)), (2, (4, 1)), (1, (4, 0)), (0, (6, 0))]) (pcN := 1814) jI_379_1812 rfl rfl rfl rfl ?_
  refine jT_xaload_n (v := (4, 1)) (pcN := 1815) jI_379_1814 rfl rfl rfl ?_
  refine jT_xaload_n (v := (6, 0)) (pcN := 1816) jI_379_1815 rfl rfl rfl ?_
  refine jT_xiload (v := (0, 0)) (pcN := 1818) jI_379_1816 rfl rfl rfl ?_
  refine jT_xiconst (k := 1) (pcN := 1819) jI_379_1818 rfl ?_
  refine jT_xiadd (x := 0) (y := 1) (z := 1) (pcN := 1820) jI_379_1819 rfl (by decide) rfl ?_
  refine jT_adv 1 (pcN := 1821) (LN := [(6, (0, 0)), (5, (0, 0)), (4, (4, 3)), (3, (4, 2)), (2, (4, 1)), (1, (4, 0)), (0, (6, 0))]) (stN := [(0, x1), (4, 1)]) (hsN := jpA_3055) (c1 := 0) (s1 := 0) (c2 := 1) (s2 := 6) (by exact rfl) ?_ (by omega) (by omega)
  refine jT_xaload_n (v := (6, 0)) (pcN := 1822) jI_379_1821 rfl rfl rfl ?_
  refine jT_xiload (v := (0, 0)) (pcN := 1824) jI_379_1822 rfl rfl rfl ?_
  refine jT_xiconst (k := 2) (pcN := 1825) jI_379_1824 rfl ?_
  refine jT_xiadd (x := 0) (y := 2) (z := 2) (pcN := 1826) jI_379_1825 rfl (by decide) rfl ?_
  refine jT_adv 1 (pcN := 1827) (LN := [(6, (0, 0)), (5, (0, 0)), (4, (4, 3)), (3, (4, 2)), (2, (4, 1)), (1, (4, 0)), (0, (6, 0))]) (stN := [(0, x2), (0, x1), (4, 1)]) (hsN := jpA_3055) (c1 := 0) (s1 := 0) (c2 := 1) (s2 := 6) (by exact rfl) ?_ (by omega) (by omega)
  refine jT_fA [1, 15, 16, 17, 18, 19, 20, 21, 22, 23, 24, 25, 26, 27, 28, 29] 39 (y := 262) (pcN := 1830) (dC := 3) (bc1 := 1) (bc2 := 6) (c1 := 0) (c2 := 0) (as := [(4, 1), (0, x1), (0, x2)]) (asC := [(4, 0), (0, x1), (0, x2)]) (LN := [(6, (0, 0)), (5, (0, 0)), (4, (4, 3)), (3, (4, 2)), (2, (4, 1)), (1, (4, 0)), (0, (6, 0))]) (stN := []) (hsC := jpA_130) (ex := [(101, [], [0, 0, 0, 0, 0, 0])]) (v := (0, 0)) (st2 := [(0, 0)]) (hs2 := jpA_3056) (jA_262_784 (d := 0) (by omega) (by omega)) (by rfl) (by rfl) (by decide +kernel) (by rfl) (by rfl) (by omega) (by omega) (by omega) (by omega) rfl (by decide +kernel) ?_
  refine jT_xistore (v := (0, 0)) (LN := [(7, (0, 0)), (6, (0, 0)), (5, (0, 0)), (4, (4, 3)), (3, (4, 2)), (2, (4, 1)), (1, (4, 0)), (0, (6, 0))]) (pcN := 1832) jI_379_1830 rfl rfl rfl rfl ?_
  refine jT_xaload_n (v := (4, 1)) (pcN := 1833) jI_379_1832 rfl rfl rfl ?_
  refine jT_fR [1, 15, 16, 17, 18, 19, 20, 21, 22, 23, 24, 25, 26, 27, 28, 29] 40 (y := 186) (pcN := 1836) (dC := 0) (bc1 := 0) (bc2 := 0) (c1 := 0) (c2 := 0) (as := [(4, 1)]) (asC := [(4, 0)]) (LN := [(7, (0, 0)), (6, (0, 0)), (5, (0, 0)), (4, (4, 3)), (3, (4, 2)), (2, (4, 1)), (1, (4, 0)), (0, (6, 0))]) (stN := []) (hsC := jpA_22) (v := (0, 0)) (st2 := [(0, 0)]) (jA_186_726 (d := 0)) (by rfl) (by rfl) (by decide +kernel) (by rfl) (by rfl) (by omega) (by omega) (by omega) (by omega) rfl ?_
  refine jT_xiload (v := (0, 0)) (pcN := 1838) jI_379_1836 rfl rfl rfl ?_
  refine jT_xicT (pcN := 1843) jI_379_1838 rfl (by decide +kernel) rfl ?_
  refine jT_xiload (v := (0, 0)) (pcN := 1845) jI_379_1843 rfl rfl rfl ?_
  refine jT_xifF (t := 1860) (pcN := 1848) jI_379_1845 rfl (by decide +kernel) rfl rfl ?_
  refine jT_xaload_n (v := (4, 2)) (pcN := 1849) jI_379_1848 rfl rfl rfl ?_
  refine jT_xiconst (k := 0) (pcN := 1850) jI_379_1849 rfl ?_
  refine jT_lald (x := 0) (a := 2) (j := 0) (fs := []) (X := [0]) jI_379_1850 rfl rfl rfl rfl ?_
  refine jT_eq (LN := [(7, (0, 0)), (6, (0, 0)), (5, (0, 0)), (4, (4, 3)), (3, (4, 2)), (2, (4, 1)), (1, (4, 0)), (0, (6, 0))]) (stN := [(1, 0)]) (hsN := jpA_3056) rfl rfl rfl ?_
  refine jT_xiload (v := (0, 0)) (pcN := 1853) jI_379_1851 rfl rfl rfl ?_
  refine jT_xi2l (x := 0) (z := 0) (pcN := 1854) jI_379_1853 rfl (by decide +kernel) rfl ?_
  refine jT_lcmp (a := 0) (b := 0) (z := 0) (by rfl) (by rfl) (by decide +kernel) (by decide +kernel) (by decide) ?_
  refine jT_xifT (pcN := 1860) jI_379_1855 rfl (by decide +kernel) rfl ?_
  refine jT_xgoto (pcN := 3740) jI_379_1860 rfl ?_
  refine jT_xiinc (x := 0) (z := 5) (LN := [(5, (0, 5)), (7, (0, 0)), (6, (0, 0)), (4, (4, 3)), (3, (4, 2)), (2, (4, 1)), (1, (4, 0)), (0, (6, 0))]) (pcN := 3743) jI_379_3740 rfl rfl (by decide) rfl rfl ?_
  refine jT_xgoto (pcN := 28) jI_379_3743 rfl ?_
  refine jT_xiload (v := (0, 5)) (pcN := 30) jI_379_28 rfl rfl rfl ?_
  refine jT_xaload_n (v := (6, 0)) (pcN := 31) jI_379_30 rfl rfl rfl ?_
  refine jT_adv 1 (pcN := 32) (LN := [(5, (0, 5)), (7, (0, 0)), (6, (0, 0)), (4, (4, 3)), (3, (4, 2)), (2, (4, 1)), (1, (4, 0)), (0, (6, 0))]) (stN := [(0, 5), (0, 5)]) (hsN := jpA_3056) (c1 := 0) (s1 := 0) (c2 := 0) (s2 := 0) (by exact rfl) ?_ (by omega) (by omega)
  refine jT_xiconst (k := 5) (pcN := 33) jI_379_32 rfl ?_
  refine jT_xisub (x := 5) (y := 5) (z := 0) (pcN := 34) jI_379_33 rfl (by decide) rfl ?_
  refine jT_xicT (pcN := 3746) jI_379_34 rfl (by decide +kernel) rfl ?_
  refine jT_xiconst (k := 1) (pcN := 3747) jI_379_3746 rfl ?_
  exact jT_ret rfl (by decide) (by show 39 ≤ 40; decide) (by omega) (by omega) ⟨rfl, rfl⟩
set_option maxRecDepth 100000 in
theorem jL_21_3 {d : Nat} {x0 x1 x2 x3 x4 : Int} (h_x0 : (-2147483648) ≤ x0 ∧ x0 ≤ 2147483647) (h_x1 : 0 ≤ x1 ∧ x1 ≤ 7) (h_x2 : 8 ≤ x2 ∧ x2 ≤ 2147483647) (h_x3 : (-2147483648) ≤ x3 ∧ x3 ≤ 2147483647) (h_x4 : (-2147483648) ≤ x4 ∧ x4 ≤ 2147483647) : jT [x0, x1, x2, x3, x4] (d + 3) 379 30 1795 [(5, (0, 0)), (4, (4, 3)), (3, (4, 2)), (2, (4, 1)), (1, (4, 0)), (0, (6, 0))] [] jpA_267 1 6 (fun k v hsN => k = 0 ∧ v = (0, 1)) := by
  refine jT_xaload_n (v := (4, 0)) (pcN := 1796) jI_379_1795 rfl rfl rfl ?_
  refine jT_xaload_n (v := (6, 0)) (pcN := 1797) jI_379_1796 rfl rfl rfl ?_
  refine jT_xiload (v := (0, 0)) (pcN := 1799) jI_379_1797 rfl rfl rfl ?_
  refine jT_xiconst (k := 1) (pcN := 1800) jI_379_1799 rfl ?_
  refine jT_xiadd (x := 0) (y := 1) (z := 1) (pcN := 1801) jI_379_1800 rfl (by decide) rfl ?_
  refine jT_adv 1 (pcN := 1802) (LN := [(5, (0, 0)), (4, (4, 3)), (3, (4, 2)), (2, (4, 1)), (1, (4, 0)), (0, (6, 0))]) (stN := [(0, x1), (4, 0)]) (hsN := jpA_267) (c1 := 0) (s1 := 0) (c2 := 1) (s2 := 6) (by exact rfl) ?_ (by omega) (by omega)
  refine jT_xaload_n (v := (6, 0)) (pcN := 1803) jI_379_1802 rfl rfl rfl ?_
  refine jT_xiload (v := (0, 0)) (pcN := 1805) jI_379_1803 rfl rfl rfl ?_
  refine jT_xiconst (k := 2) (pcN := 1806) jI_379_1805 rfl ?_
  refine jT_xiadd (x := 0) (y := 2) (z := 2) (pcN := 1807) jI_379_1806 rfl (by decide) rfl ?_
  refine jT_adv 1 (pcN := 1808) (LN := [(5, (0, 0)), (4, (4, 3)), (3, (4, 2)), (2, (4, 1)), (1, (4, 0)), (0, (6, 0))]) (stN := [(0, x2), (0, x1), (4, 0)]) (hsN := jpA_267) (c1 := 0) (s1 := 0) (c2 := 1) (s2 := 6) (by exact rfl) ?_ (by omega) (by omega)
  refine jT_xaload_n (v := (4, 2)) (pcN := 1809) jI_379_1808 rfl rfl rfl ?_
  refine jT_fR [0, 2, 4, 5, 6, 7, 8, 9, 10, 11, 12, 13, 14] 30 (y := 346) (pcN := 1812) (dC := 2) (bc1 := 1) (bc2 := 6) (c1 := 0) (c2 := 0) (as := [(4, 0), (0, x1), (0, x2), (4, 2)]) (asC := [(4, 0), (0, x1), (0, x2), (4, 1)]) (LN := [(5, (0, 0)), (4, (4, 3)), (3, (4, 2)), (2, (4, 1)), (1, (4, 0)), (0, (6, 0))]) (stN := []) (hsC := jpA_15) (v := (0, 1)) (st2 := [(0, 1)]) (jA_346_786 (d := 0) (by omega) (by omega)) (by rfl) (by rfl) (by decide +kernel) (by rfl) (by rfl) (by omega) (by omega) (by omega) (by omega) rfl ?_
  refine jT_xistore (v := (0, 1)) (LN := [(6, (0, 1)), (5, (0, 0)), (4, (4, 3)), (3, (4, 2)), (2, (4, 1)), (1, (4, 0)), (0, (6, 0))]) (pcN := 1814) jI_379_1812 rfl rfl rfl rfl ?_
  refine jT_xaload_n (v := (4, 1)) (pcN := 1815) jI_379_1814 rfl rfl rfl ?_
  refine jT_xaload_n (v := (6, 0)) (pcN := 1816) jI_379_1815 rfl rfl rfl ?_
  refine jT_xiload (v := (0, 0)) (pcN := 1818) jI_379_1816 rfl rfl rfl ?_
  refine jT_xiconst (k := 1) (pcN := 1819) jI_379_1818 rfl ?_
  refine jT_xiadd (x := 0) (y := 1) (z := 1) (pcN := 1820) jI_379_1819 rfl (by decide) rfl ?_
  refine jT_adv 1 (pcN := 1821) (LN := [(6, (0, 1)), (5, (0, 0)), (4, (4, 3)), (3, (4, 2)), (2, (4, 1)), (1, (4, 0)), (0, (6, 0))]) (stN := [(0, x1), (4, 1)]) (hsN := jpA_267) (c1 := 0) (s1 := 0) (c2 := 0) (s2 := 0) (by exact rfl) ?_ (by omega) (by omega)
  refine jT_xaload_n (v := (6, 0)) (pcN := 1822) jI_379_1821 rfl rfl rfl ?_
  refine jT_xiload (v := (0, 0)) (pcN := 1824) jI_379_1822 rfl rfl rfl ?_
  refine jT_xiconst (k := 2) (pcN := 1825) jI_379_1824 rfl ?_
  refine jT_xiadd (x := 0) (y := 2) (z := 2) (pcN := 1826) jI_379_1825 rfl (by decide) rfl ?_
  refine jT_adv 1 (pcN := 1827) (LN := [(6, (0, 1)), (5, (0, 0)), (4, (4, 3)), (3, (4, 2)), (2, (4, 1)), (1, (4, 0)), (0, (6, 0))]) (stN := [(0, x2), (0, x1), (4, 1)]) (hsN := jpA_267) (c1 := 0) (s1 := 0) (c2 := 0) (s2 := 0) (by exact rfl) ?_ (by omega) (by omega)
  refine jT_fB [1, 15, 16, 17, 18, 19, 20, 21, 22, 23, 24, 25, 26, 27, 28, 29] 30 (y := 262) (pcN := 1830) (dC := 2) (bc1 := 0) (bc2 := 0) (c1 := 0) (c2 := 0) (as := [(4, 1), (0, x1), (0, x2)]) (asC := [(4, 0), (0, x1), (0, x2)]) (LN := [(6, (0, 1)), (5, (0, 0)), (4, (4, 3)), (3, (4, 2)), (2, (4, 1)), (1, (4, 0)), (0, (6, 0))]) (stN := []) (hsC := jpA_22) (hsD := jpA_20) (v := (0, 0)) (st2 := [(0, 0)]) (hs2 := jpA_306) (jA_262_787 (d := 0) (by omega) (by omega)) (by rfl) (by rfl) (by decide +kernel) (by rfl) (by rfl) (by omega) (by omega) (by omega) (by omega) rfl (by decide +kernel) ?_
  refine jT_xistore (v := (0, 0)) (LN := [(7, (0, 0)), (6, (0, 1)), (5, (0, 0)), (4, (4, 3)), (3, (4, 2)), (2, (4, 1)), (1, (4, 0)), (0, (6, 0))]) (pcN := 1832) jI_379_1830 rfl rfl rfl rfl ?_
  refine jT_xaload_n (v := (4, 1)) (pcN := 1833) jI_379_1832 rfl rfl rfl ?_
  refine jT_fR [1, 15, 16, 17, 18, 19, 20, 21, 22, 23, 24, 25, 26, 27, 28, 29] 30 (y := 186) (pcN := 1836) (dC := 0) (bc1 := 0) (bc2 := 0) (c1 := 0) (c2 := 0) (as := [(4, 1)]) (asC := [(4, 0)]) (LN := [(7, (0, 0)), (6, (0, 1)), (5, (0, 0)), (4, (4, 3)), (3, (4, 2)), (2, (4, 1)), (1, (4, 0)), (0, (6, 0))]) (stN := []) (hsC := jpA_20) (v := (0, 1)) (st2 := [(0, 1)]) (jA_186_8 (d := 0)) (by rfl) (by rfl) (by decide +kernel) (by rfl) (by rfl) (by omega) (by omega) (by omega) (by omega) rfl ?_
  refine jT_xiload (v := (0, 1)) (pcN := 1838) jI_379_1836 rfl rfl rfl ?_
  refine jT_xicT (pcN := 1843) jI_379_1838 rfl (by decide +kernel) rfl ?_
  refine jT_xiload (v := (0, 1)) (pcN := 1845) jI_379_1843 rfl rfl rfl ?_
  refine jT_xifT (pcN := 1860) jI_379_1845 rfl (by decide +kernel) rfl ?_
  refine jT_xgoto (pcN := 3740) jI_379_1860 rfl ?_
  refine jT_xiinc (x := 0) (z := 5) (LN := [(5, (0, 5)), (7, (0, 0)), (6, (0, 1)), (4, (4, 3)), (3, (4, 2)), (2, (4, 1)), (1, (4, 0)), (0, (6, 0))]) (pcN := 3743) jI_379_3740 rfl rfl (by decide) rfl rfl ?_
  refine jT_xgoto (pcN := 28) jI_379_3743 rfl ?_
  refine jT_xiload (v := (0, 5)) (pcN := 30) jI_379_28 rfl rfl rfl ?_
  refine jT_xaload_n (v := (6, 0)) (pcN := 31) jI_379_30 rfl rfl rfl ?_
  refine jT_adv 1 (pcN := 32) (LN := [(5, (0, 5)), (7, (0, 0)), (6, (0, 1)), (4, (4, 3)), (3, (4, 2)), (2, (4, 1)), (1, (4, 0)), (0, (6, 0))]) (stN := [(0, 5), (0, 5)]) (hsN := jpA_306) (c1 := 0) (s1 := 0) (c2 := 0) (s2 := 0) (by exact rfl) ?_ (by omega) (by omega)
  refine jT_xiconst (k := 5) (pcN := 33) jI_379_32 rfl ?_
  refine jT_xisub (x := 5) (y := 5) (z := 0) (pcN := 34) jI_379_33 rfl (by decide) rfl ?_
  refine jT_xicT (pcN := 3746) jI_379_34 rfl (by decide +kernel) rfl ?_
  refine jT_xiconst (k := 1) (pcN := 3747) jI_379_3746 rfl ?_
  exact jT_ret rfl (by decide) (by show 30 ≤ 30; decide) (by omega) (by omega) ⟨rfl, rfl⟩
set_option maxRecDepth 100000 in
theorem jL_21_4 {d : Nat} {x0 x1 x2 x3 x4 : Int} (h_x0 : (-2147483648) ≤ x0 ∧ x0 ≤ 2147483647) (h_x1 : 8 ≤ x1 ∧ x1 ≤ 2147483647) (h_x2 : (-2147483648) ≤ x2 ∧ x2 ≤ 2147483647) (h_x3 : (-2147483648) ≤ x3 ∧ x3 ≤ 2147483647) (h_x4 : (-2147483648) ≤ x4 ∧ x4 ≤ 2147483647) : jT [x0, x1, x2, x3, x4] (d + 3) 379 30 1795 [(5, (0, 0)), (4, (4, 3)), (3, (4, 2)), (2, (4, 1)), (1, (4, 0)), (0, (6, 0))] [] jpA_267 1 6 (fun k v hsN => k = 0 ∧ v = (0, 1)) := by
  refine jT_xaload_n (v := (4, 0)) (pcN := 1796) jI_379_1795 rfl rfl rfl ?_
  refine jT_xaload_n (v := (6, 0)) (pcN := 1797) jI_379_1796 rfl rfl rfl ?_
  refine jT_xiload (v := (0, 0)) (pcN := 1799) jI_379_1797 rfl rfl rfl ?_
  refine jT_xiconst (k := 1) (pcN := 1800) jI_379_1799 rfl ?_
  refine jT_xiadd (x := 0) (y := 1) (z := 1) (pcN := 1801) jI_379_1800 rfl (by decide) rfl ?_
  refine jT_adv 1 (pcN := 1802) (LN := [(5, (0, 0)), (4, (4, 3)), (3, (4, 2)), (2, (4, 1)), (1, (4, 0)), (0, (6, 0))]) (stN := [(0, x1), (4, 0)]) (hsN := jpA_267) (c1 := 0) (s1 := 0) (c2 := 1) (s2 := 6) (by exact rfl) ?_ (by omega) (by omega)
  refine jT_xaload_n (v := (6, 0)) (pcN := 1803) jI_379_1802 rfl rfl rfl ?_
  refine jT_xiload (v := (0, 0)) (pcN := 1805) jI_379_1803 rfl rfl rfl ?_
  refine jT_xiconst (k := 2) (pcN := 1806) jI_379_1805 rfl ?_
  refine jT_xiadd (x := 0) (y := 2) (z := 2) (pcN := 1807) jI_379_1806 rfl (by decide) rfl ?_
  refine jT_adv 1 (pcN := 1808) (LN := [(5, (0, 0)), (4, (4, 3)), (3, (4, 2)), (2, (4, 1)), (1, (4, 0)), (0, (6, 0))]) (stN := [(0, x2), (0, x1), (4, 0)]) (hsN := jpA_267) (c1 := 0) (s1 := 0) (c2 := 1) (s2 := 6) (by exact rfl) ?_ (by omega) (by omega)
  refine jT_xaload_n (v := (4, 2)) (pcN := 1809) jI_379_1808 rfl rfl rfl ?_
  refine jT_fR [0, 2, 4, 5, 6, 7, 8, 9, 10, 11, 12, 13, 14] 30 (y := 346) (pcN := 1812) (dC := 2) (bc1 := 1) (bc2 := 6) (c1 := 0) (c2 := 0) (as := [(4, 0), (0, x1), (0, x2), (4, 2)]) (asC := [(4, 0), (0, x1), (0, x2), (4, 1)]) (LN := [(5, (0, 0)), (4, (4, 3)), (3, (4, 2)), (2, (4, 1)), (1, (4, 0)), (0, (6, 0))]) (stN := []) (hsC := jpA_15) (v := (0, 1)) (st2 := [(0, 1)]) (jA_346_789 (d := 0) (by omega) (by omega)) (by rfl) (by rfl) (by decide +kernel) (by rfl) (by rfl) (by omega) (by omega) (by omega) (by omega) rfl ?_
  refine jT_xistore (v := (0, 1)) (LN := [(6, (0, 1)), (5, (0, 0)), (4, (4, 3)), (3, (4, 2)), (2, (4, 1)), (1, (4, 0)), (0, (6, 0))]) (pcN := 1814) jI_379_1812 rfl rfl rfl rfl ?_
  refine jT_xaload_n (v := (4, 1)) (pcN := 1815) jI_379_1814 rfl rfl rfl ?_
  refine jT_xaload_n (v := (6, 0)) (pcN := 1816) jI_379_1815 rfl rfl rfl ?_
  refine jT_xiload (v := (0, 0)) (pcN := 1818) jI_379_1816 rfl rfl rfl ?_
  refine jT_xiconst (k := 1) (pcN := 1819) jI_379_1818 rfl ?_
  refine jT_xiadd (x := 0) (y := 1) (z := 1) (pcN := 1820) jI_379_1819 rfl (by decide) rfl ?_
  refine jT_adv 1 (pcN := 1821) (LN := [(6, (0, 1)), (5, (0, 0)), (4, (4, 3)), (3, (4, 2)), (2, (4, 1)), (1, (4, 0)), (0, (6, 0))]) (stN := [(0, x1), (4, 1)]) (hsN := jpA_267) (c1 := 0) (s1 := 0) (c2 := 0) (s2 := 0) (by exact rfl) ?_ (by omega) (by omega)
  refine jT_xaload_n (v := (6, 0)) (pcN := 1822) jI_379_1821 rfl rfl rfl ?_
  refine jT_xiload (v := (0, 0)) (pcN := 1824) jI_379_1822 rfl rfl rfl ?_
  refine jT_xiconst (k := 2) (pcN := 1825) jI_379_1824 rfl ?_
  refine jT_xiadd (x := 0) (y := 2) (z := 2) (pcN := 1826) jI_379_1825 rfl (by decide) rfl ?_
  refine jT_adv 1 (pcN := 1827) (LN := [(6, (0, 1)), (5, (0, 0)), (4, (4, 3)), (3, (4, 2)), (2, (4, 1)), (1, (4, 0)), (0, (6, 0))]) (stN := [(0, x2), (0, x1), (4, 1)]) (hsN := jpA_267) (c1 := 0) (s1 := 0) (c2 := 0) (s2 := 0) (by exact rfl) ?_ (by omega) (by omega)
  refine jT_fB [1, 15, 16, 17, 18, 19, 20, 21, 22, 23, 24, 25, 26, 27, 28, 29] 30 (y := 262) (pcN := 1830) (dC := 2) (bc1 := 0) (bc2 := 0) (c1 := 0) (c2 := 0) (as := [(4, 1), (0, x1), (0, x2)]) (asC := [(4, 0), (0, x1), (0, x2)]) (LN := [(6, (0, 1)), (5, (0, 0)), (4, (4, 3)), (3, (4, 2)), (2, (4, 1)), (1, (4, 0)), (0, (6, 0))]) (stN := []) (hsC := jpA_22) (hsD := jpA_20) (v := (0, 0)) (st2 := [(0, 0)]) (hs2 := jpA_306) (jA_262_790 (d := 0) (by omega) (by omega)) (by rfl) (by rfl) (by decide +kernel) (by rfl) (by rfl) (by omega) (by omega) (by omega) (by omega) rfl (by decide +kernel) ?_
  refine jT_xistore (v := (0, 0)) (LN := [(7, (0, 0)), (6, (0, 1)), (5, (0, 0)), (4, (4, 3)), (3, (4, 2)), (2, (4, 1)), (1, (4, 0)), (0, (6, 0))]) (pcN := 1832) jI_379_1830 rfl rfl rfl rfl ?_
  refine jT_xaload_n (v := (4, 1)) (pcN := 1833) jI_379_1832 rfl rfl rfl ?_
  refine jT_fR [1, 15, 16, 17, 18, 19, 20, 21, 22, 23, 24, 25, 26, 27, 28, 29] 30 (y := 186) (pcN := 1836) (dC := 0) (bc1 := 0) (bc2 := 0) (c1 := 0) (c2 := 0) (as := [(4, 1)]) (asC := [(4, 0)]) (LN := [(7, (0, 0)), (6, (0, 1)), (5, (0, 0)), (4, (4, 3)), (3, (4, 2)), (2, (4, 1)), (1, (4, 0)), (0, (6, 0))]) (stN := []) (hsC := jpA_20) (v := (0, 1)) (st2 := [(0, 1)]) (jA_186_8 (d := 0)) (by rfl) (by rfl) (by decide +kernel) (by rfl) (by rfl) (by omega) (by omega) (by omega) (by omega) rfl ?_
  refine jT_xiload (v := (0, 1)) (pcN := 1838) jI_379_1836 rfl rfl rfl ?_
  refine jT_xicT (pcN := 1843) jI_379_1838 rfl (by decide +kernel) rfl ?_
  refine jT_xiload (v := (0, 1)) (pcN := 1845) jI_379_1843 rfl rfl rfl ?_
  refine jT_xifT (pcN := 1860) jI_379_1845 rfl (by decide +kernel) rfl ?_
  refine jT_xgoto (pcN := 3740) jI_379_1860 rfl ?_
  refine jT_xiinc (x := 0) (z := 5) (LN := [(5, (0, 5)), (7, (0, 0)), (6, (0, 1)), (4, (4, 3)), (3, (4, 2)), (2, (4, 1)), (1, (4, 0)), (0, (6, 0))]) (pcN := 3743) jI_379_3740 rfl rfl (by decide) rfl rfl ?_
  refine jT_xgoto (pcN := 28) jI_379_3743 rfl ?_
  refine jT_xiload (v := (0, 5)) (pcN := 30) jI_379_28 rfl rfl rfl ?_
  refine jT_xaload_n (v := (6, 0)) (pcN := 31) jI_379_30 rfl rfl rfl ?_
  refine jT_adv 1 (pcN := 32) (LN := [(5, (0, 5)), (7, (0, 0)), (6, (0, 1)), (4, (4, 3)), (3, (4, 2)), (2, (4, 1)), (1, (4, 0)), (0, (6, 0))]) (stN := [(0, 5), (0, 5)]) (hsN := jpA_306) (c1 := 0) (s1 := 0) (c2 := 0) (s2 := 0) (by exact rfl) ?_ (by omega) (by omega)
  refine jT_xiconst (k := 5) (pcN := 33) jI_379_32 rfl ?_
  refine jT_xisub (x := 5) (y := 5) (z := 0) (pcN := 34) jI_379_33 rfl (by decide) rfl ?_
  refine jT_xicT (pcN := 3746) jI_379_34 rfl (by decide +kernel) rfl ?_
  refine jT_xiconst (k := 1) (pcN := 3747) jI_379_3746 rfl ?_
  exact jT_ret rfl (by decide) (by show 30 ≤ 30; decide) (by omega) (by omega) ⟨rfl, rfl⟩
theorem jI_141_0 : jmI (jm 141) 0 = (.aload_n 0, 1) := by rfl
theorem jI_141_1 : jmI (jm 141) 1 = (.iload_n 1, 1) := by rfl
theorem jI_141_2 : jmI (jm 141) 2 = (.bipush 8, 2) := by rfl
theorem jA_141_791 {xs : List Int} {d : Nat} {x1 : Int} (h_x1 : (-2147483648) ≤ x1 ∧ x1 ≤ (-1)) : jT xs (d + 1) 141 12 0 [(0, (4, 0)), (1, (0, x1))] [] jpA_6 1 6 (fun k v hsN => k = 1 ∧ v = (0, 0) ∧ hsN = jpA_6 ++ []) := by
  refine jT_xaload_n (v := (4, 0)) (pcN := 1) jI_141_0 rfl rfl rfl ?_
  refine jT_xiload_n (v := (0, x1)) (pcN := 2) jI_141_1 rfl rfl rfl ?_
  refine jT_xbipush (k := 8) (pcN := 4) jI_141_2 (by decide) rfl ?_
  exact jT_fX [0] 12 (y := 115) (pcN := 7) (dC := 0) (bc1 := 1) (bc2 := 6) (as := [(4, 0), (0, x1), (0, 8)]) (asC := [(4, 0), (0, x1), (0, 8)]) (LN := [(0, (4, 0)), (1, (0, x1))]) (stN := []) (hsC := [jgh]) (e := 0) (jA_115_1 (d := 0) (by omega)) (by rfl) (by rfl) (by decide +kernel) (by rfl) (by rfl) (by omega) (by omega) (by omega) (by omega) ⟨rfl, ⟨rfl, rfl, rfl⟩⟩
theorem jI_348_0 : jmI (jm 348) 0 = (.aload_n 2, 1) := by rfl
theorem jI_348_1 : jmI (jm 348) 1 = (.iconst 0, 1) := by rfl
theorem jI_348_2 : jmI (jm 348) 2 = (.aload_n 0, 1) := by rfl
theorem jI_348_3 : jmI (jm 348) 3 = (.iload_n 1, 1) := by rfl
theorem jA_348_792 {xs : List Int} {d : Nat} {x1 : Int} (h_x1 : (-2147483648) ≤ x1 ∧ x1 ≤ (-1)) : jT xs (d + 2) 348 13 0 [(0, (4, 0)), (1, (0, x1)), (2, (4, 1))] [] jpA_15 1 6 (fun k v hsN => k = 0 ∧ v = (0, 1) ∧ hsN = jpA_15 ++ []) := by
  refine jT_xaload_n (v := (4, 1)) (pcN := 1) jI_348_0 rfl rfl rfl ?_
  refine jT_xiconst (k := 0) (pcN := 2) jI_348_1 rfl ?_
  refine jT_xaload_n (v := (4, 0)) (pcN := 3) jI_348_2 rfl rfl rfl ?_
  refine jT_xiload_n (v := (0, x1)) (pcN := 4) jI_348_3 rfl rfl rfl ?_
  exact jT_fX [0, 2, 3, 4, 5, 6, 7, 8, 9, 10, 11, 12] 13 (y := 141) (pcN := 7) (dC := 1) (bc1 := 1) (bc2 := 6) (as := [(4, 0), (0, x1)]) (asC := [(4, 0), (0, x1)]) (LN := [(0, (4, 0)), (1, (0, x1)), (2, (4, 1))]) (stN := [(0, 0), (4, 1)]) (hsC := jpA_6) (e := 0) (jA_141_791 (d := 0) (by omega)) (by rfl) (by rfl) (by decide +kernel) (by rfl) (by rfl) (by omega) (by omega) (by omega) (by omega) (show _ from ⟨rfl, rfl, rfl⟩)
theorem jI_266_0 : jmI (jm 266) 0 = (.aload_n 0, 1) := by rfl
theorem jI_266_1 : jmI (jm 266) 1 = (.iload_n 1, 1) := by rfl
theorem jI_266_8 : jmI (jm 266) 8 = (.ifCond .ne 18, 3) := by rfl
theorem jI_266_26 : jmI (jm 266) 26 = (.iconst 0, 1) := by rfl
theorem jA_266_793 {xs : List Int} {d : Nat} {x1 : Int} (h_x1 : (-2147483648) ≤ x1 ∧ x1 ≤ (-1)) : jT xs (d + 2) 266 16 0 [(0, (4, 0)), (1, (0, x1))] [] jpA_22 0 0 (fun k v hsN => k = 0 ∧ v = (0, 0) ∧ hsN = jpA_20) := by
  refine jT_xaload_n (v := (4, 0)) (pcN := 1) jI_266_0 rfl rfl rfl ?_
  refine jT_xiload_n (v := (0, x1)) (pcN := 2) jI_266_1 rfl rfl rfl ?_
  refine jT_fR [] 16 (y := 188) (pcN := 5) (dC := 1) (bc1 := 0) (bc2 := 0) (c1 := 0) (c2 := 0) (as := [(0, x1)]) (asC := [(0, x1)]) (LN := [(0, (4, 0)), (1, (0, x1))]) (stN := [(4, 0)]) (hsC := []) (v := (0, 0)) (st2 := [(0, 0), (4, 0)]) (jA_188_4 (d := 0) (by omega)) (by rfl) (by rfl) (by decide +kernel) (by rfl) (by rfl) (by omega) (by omega) (by omega) (by omega) rfl ?_
  refine jT_fB [0, 1, 2, 3, 4, 5, 6, 7, 8, 9, 10, 11, 12, 13, 14, 15] 16 (y := 190) (pcN := 8) (dC := 1) (bc1 := 0) (bc2 := 0) (c1 := 0) (c2 := 0) (as := [(4, 0), (0, 0)]) (asC := [(4, 0), (0, 0)]) (LN := [(0, (4, 0)), (1, (0, x1))]) (stN := []) (hsC := jpA_22) (hsD := jpA_20) (v := (0, 1)) (st2 := [(0, 1)]) (hs2 := jpA_20) (jA_190_6 (d := 0)) (by rfl) (by rfl) (by decide +kernel) (by rfl) (by rfl) (by omega) (by omega) (by omega) (by omega) rfl (by decide +kernel) ?_
  refine jT_xifT (pcN := 26) jI_266_8 rfl (by decide +kernel) rfl ?_
  refine jT_xiconst (k := 0) (pcN := 27) jI_266_26 rfl ?_
  exact jT_ret rfl (by decide) (by show 16 ≤ 16; decide) (by omega) (by omega) ⟨rfl, rfl, rfl⟩
theorem jA_142_794 {xs : List Int} {d : Nat} : jT xs (d + 1) 142 3 0 [(0, (4, 0)), (1, (4, 1)), (2, (0, 40))] [] [jgh, (4, [(4, 2), (1, 1)], []), (101, [], [0, 0, 0, 0, 0, 0])] 0 0 (fun k v hsN => k = 0 ∧ v = (9, 0) ∧ hsN = [jgh, (4, [(4, 2), (1, 1)], []), (101, [], [0, 0, 0, 0, 0, 0])] ++ []) := by
  refine jT_advK 6 (pcN := 10) (LN := [(0, (4, 0)), (1, (4, 1)), (2, (0, 40))]) (stN := [(4, 1)]) (hsN := [jgh, (4, [(4, 2), (1, 1)], []), (101, [], [0, 0, 0, 0, 0, 0])]) (c1 := 0) (s1 := 0) (c2 := 0) (s2 := 0) (by decide +kernel) ?_ (by omega) (by omega)
  refine jT_fR [1, 2] 3 (y := 16) (pcN := 13) (dC := 0) (bc1 := 0) (bc2 := 0) (c1 := 0) (c2 := 0) (as := [(4, 1)]) (asC := [(4, 0)]) (LN := [(0, (4, 0)), (1, (4, 1)), (2, (0, 40))]) (stN := []) (hsC := [(4, [(4, 1), (1, 1)], []), (101, [], [0, 0, 0, 0, 0, 0])]) (v := (1, 0)) (st2 := [(1, 0)]) (jA_16_29 (d := 0)) (by rfl) (by rfl) (by decide +kernel) (by rfl) (by rfl) (by omega) (by omega) (by omega) (by omega) rfl ?_
  refine jT_advK 4 (pcN := 30) (LN := [(0, (4, 0)), (1, (4, 1)), (2, (0, 40))]) (stN := []) (hsN := [jgh, (4, [(4, 2), (1, 1)], []), (101, [], [0, 0, 0, 0, 0, 0])]) (c1 := 0) (s1 := 0) (c2 := 0) (s2 := 0) (by decide +kernel) ?_ (by omega) (by omega)
  exact jT_ret rfl (by decide) (by show 3 ≤ 3; decide) (by omega) (by omega) ⟨rfl, rfl, rfl⟩
def jzA_3074 : JC := (100, [], [1, 0, 0, 0, 0, 0, 0, 0, 0, 0, 0, 0, 0, 0, 0, 0, 0, 0, 0, 0, 0, 0, 0, 0, 0, 0, 0, 0, 0, 0, 0, 0, 0, 0, 0, 0, 0, 0, 0, 0, 0, 0, 0, 0, 0, 0, 0, 0])
theorem jA_81_795 {xs : List Int} {d : Nat} : jT xs d 81 2 0 [(0, (4, 0)), (1, (1, 1))] [] [(12, [(4, 1), (0, 0)], []), (100, [], List.replicate 48 0)] 0 0 (fun k v hsN => k = 0 ∧ v = (9, 0) ∧ hsN = [(12, [(4, 1), (0, 1)], []), jzA_3074]) := by
  refine jT_advK 37 (pcN := 55) (LN := [(3, (1, 0)), (0, (4, 0)), (1, (1, 1))]) (stN := []) (hsN := [(12, [(4, 1), (0, 1)], []), jzA_3074]) (c1 := 0) (s1 := 0) (c2 := 0) (s2 := 0) (by decide +kernel) ?_ (by omega) (by omega)
  exact jT_ret rfl (by decide) (by show 2 ≤ 2; decide) (by omega) (by omega) ⟨rfl, rfl, rfl⟩
def jpA_3075 : List JC := [jzA_14, (4, [(4, 13), (1, 1)], []), jgh, jgh, jgh, jgh, (12, [(4, 14), (0, 0)], []), (12, [(4, 15), (0, 0)], []), jgh, jgh, jgh, jgh, jgh, (101, [], [0, 0, 0, 0, 0, 0]), (100, [], List.replicate 48 0), (100, [], List.replicate 48 0)]
def jpA_3076 : List JC := [jzA_14, (4, [(4, 13), (1, 1)], []), jgh, jgh, jgh, jgh, (12, [(4, 14), (0, 1)], []), (12, [(4, 15), (0, 0)], []), jgh, jgh, jgh, jgh, jgh, (101, [], [0, 0, 0, 0, 0, 0]), jzA_3074, (100, [], List.replicate 48 0)]
def jpA_3077 : List JC := [jzA_14, (4, [(4, 13), (1, 1)], []), jgh, jgh, jgh, jgh, (12, [(4, 14), (0, 1)], []), (12, [(4, 15), (0, 1)], []), jgh, jgh, jgh, jgh, jgh, (101, [], [0, 0, 0, 0, 0, 0]), jzA_3074, jzA_3074]
theorem jA_143_796 {xs : List Int} {d : Nat} : jT xs (d + 1) 143 16 0 [(0, (4, 0)), (1, (4, 1))] [] jpA_3075 0 0 (fun k v hsN => k = 0 ∧ v = (9, 0) ∧ hsN = jpA_3077) := by
  refine jT_advK 3 (pcN := 5) (LN := [(0, (4, 0)), (1, (4, 1))]) (stN := [(1, 1), (4, 6)]) (hsN := jpA_3075) (c1 := 0) (s1 := 0) (c2 := 0) (s2 := 0) (by decide +kernel) ?_ (by omega) (by omega)
  refine jT_fB [6, 14] 16 (y := 81) (pcN := 8) (dC := 0) (bc1 := 0) (bc2 := 0) (c1 := 0) (c2 := 0) (as := [(4, 6), (1, 1)]) (asC := [(4, 0), (1, 1)]) (LN := [(0, (4, 0)), (1, (4, 1))]) (stN := []) (hsC := [(12, [(4, 1), (0, 0)], []), (100, [], List.replicate 48 0)]) (hsD := [(12, [(4, 1), (0, 1)], []), jzA_3074]) (v := (9, 0)) (st2 := []) (hs2 := jpA_3076) (jA_81_795 (d := 0)) (by rfl) (by rfl) (by decide +kernel) (by rfl) (by rfl) (by omega) (by omega) (by omega) (by omega) rfl (by decide +kernel) ?_
  refine jT_advK 3 (pcN := 13) (LN := [(0, (4, 0)), (1, (4, 1))]) (stN := [(1, 1), (4, 7)]) (hsN := jpA_3076) (c1 := 0) (s1 := 0) (c2 := 0) (s2 := 0) (by decide +kernel) ?_ (by omega) (by omega)
  refine jT_fB [7, 15] 16 (y := 81) (pcN := 16) (dC := 0) (bc1 := 0) (bc2 := 0) (c1 := 0) (c2 := 0) (as := [(4, 7), (1, 1)]) (asC := [(4, 0), (1, 1)]) (LN := [(0, (4, 0)), (1, (4, 1))]) (stN := []) (hsC := [(12, [(4, 1), (0, 0)], []), (100, [], List.replicate 48 0)]) (hsD := [(12, [(4, 1), (0, 1)], []), jzA_3074]) (v := (9, 0)) (st2 := []) (hs2 := jpA_3077) (jA_81_795 (d := 0)) (by rfl) (by rfl) (by decide +kernel) (by rfl) (by rfl) (by omega) (by omega) (by omega) (by omega) rfl (by decide +kernel) ?_
  refine jT_advK 167 (pcN := 93) (LN := [(2, (0, 6)), (6, (1, 0)), (4, (1, 0)), (3, (4, 7)), (0, (4, 0)), (1, (4, 1))]) (stN := []) (hsN := jpA_3077) (c1 := 0) (s1 := 0) (c2 := 0) (s2 := 0) (by decide +kernel) ?_ (by omega) (by omega)
  exact jT_ret rfl (by decide) (by show 16 ≤ 16; decide) (by omega) (by omega) ⟨rfl, rfl, rfl⟩
def jpA_3078 : List JC := [(12, [(4, 2), (0, 1)], []), (12, [(4, 3), (0, 1)], []), jzA_3074, jzA_3074]
theorem jA_84_797 {xs : List Int} {d : Nat} : jT xs d 84 4 0 [(0, (4, 0)), (1, (4, 1))] [] jpA_3078 0 0 (fun k v hsN => k = 0 ∧ v = (0, 0) ∧ hsN = jpA_3078 ++ []) := by
  refine jT_advK 26 (pcN := 82) (LN := [(2, (0, (-1))), (0, (4, 0)), (1, (4, 1))]) (stN := [(0, 0)]) (hsN := jpA_3078) (c1 := 0) (s1 := 0) (c2 := 0) (s2 := 0) (by decide +kernel) ?_ (by omega) (by omega)
  exact jT_ret rfl (by decide) (by show 4 ≤ 4; decide) (by omega) (by omega) ⟨rfl, rfl, rfl⟩
theorem jI_141_7 : jmI (jm 141) 7 = (.aload_n 0, 1) := by rfl
theorem jI_141_8 : jmI (jm 141) 8 = (.getfield 67, 3) := by rfl
theorem jI_141_11 : jmI (jm 141) 11 = (.iload_n 1, 1) := by rfl
theorem jI_141_15 : jmI (jm 141) 15 = (.astore_n 2, 1) := by rfl
theorem jI_141_16 : jmI (jm 141) 16 = (.aload_n 0, 1) := by rfl
theorem jI_141_17 : jmI (jm 141) 17 = (.aload_n 2, 1) := by rfl
theorem jI_141_18 : jmI (jm 141) 18 = (.bipush 40, 2) := by rfl
theorem jI_141_23 : jmI (jm 141) 23 = (.aload_n 0, 1) := by rfl
theorem jI_141_24 : jmI (jm 141) 24 = (.aload_n 2, 1) := by rfl
def jpA_3088 : List JC := [jzA_5, jgh, jgh, jgh, jgh, (12, [(4, 12), (0, 1)], []), (12, [(4, 13), (0, 1)], []), jgh, jgh, jgh, jgh, jzA_640, jzA_3074, jzA_3074, jzA_641, jgh, jgh, jgh, jgh, (4, [(4, 20), (1, 1)], []), (101, [], [0, 0, 0, 0, 0, 0])]
theorem jI_141_28 : jmI (jm 141) 28 = (.aload_n 0, 1) := by rfl
theorem jI_141_29 : jmI (jm 141) 29 = (.iconst 1, 1) := by rfl
def jzA_3091 : JC := (13, [(4, 1), (4, 2), (4, 3), (4, 4), (4, 5), (4, 6), (4, 7), (4, 8), (4, 9), (4, 10), (0, 0), (4, 11), (0, 1)], [])
def jpA_3092 : List JC := [jzA_3091, jgh, jgh, jgh, jgh, (12, [(4, 12), (0, 1)], []), (12, [(4, 13), (0, 1)], []), jgh, jgh, jgh, jgh, jzA_640, jzA_3074, jzA_3074, jzA_641, jgh, jgh, jgh, jgh, (4, [(4, 20), (1, 1)], []), (101, [], [0, 0, 0, 0, 0, 0])]
theorem jI_141_33 : jmI (jm 141) 33 = (.aload_n 0, 1) := by rfl
theorem jI_141_34 : jmI (jm 141) 34 = (.getfield 40, 3) := by rfl
theorem jI_141_37 : jmI (jm 141) 37 = (.aload_n 0, 1) := by rfl
theorem jI_141_38 : jmI (jm 141) 38 = (.getfield 44, 3) := by rfl
theorem jI_141_44 : jmI (jm 141) 44 = (.ifCond .le 7, 3) := by rfl
theorem jI_141_51 : jmI (jm 141) 51 = (.iconst 0, 1) := by rfl
def jpA_3099 : List JC := [jzA_5, jgh, jgh, jgh, jgh, (12, [(4, 12), (0, 0)], []), (12, [(4, 13), (0, 0)], []), jgh, jgh, jgh, jgh, jzA_640, (100, [], List.replicate 48 0), (100, [], List.replicate 48 0), jzA_641, jgh, jgh, jgh, jgh, (4, [(4, 20), (1, 1)], []), (101, [], [0, 0, 0, 0, 0, 0])]
theorem jA_141_798 {xs : List Int} {d : Nat} {x1 : Int} (h_x1 : 0 ≤ x1 ∧ x1 ≤ 7) : jT xs (d + 2) 141 21 0 [(0, (4, 0)), (1, (0, x1))] [] jpA_3099 0 0 (fun k v hsN => k = 0 ∧ v = (0, 0) ∧ hsN = jpA_3092) := by
  refine jT_xaload_n (v := (4, 0)) (pcN := 1) jI_141_0 rfl rfl rfl ?_
  refine jT_xiload_n (v := (0, x1)) (pcN := 2) jI_141_1 rfl rfl rfl ?_
  refine jT_xbipush (k := 8) (pcN := 4) jI_141_2 (by decide) rfl ?_
  refine jT_fR [0] 21 (y := 115) (pcN := 7) (dC := 0) (bc1 := 0) (bc2 := 0) (c1 := 0) (c2 := 0) (as := [(4, 0), (0, x1), (0, 8)]) (asC := [(4, 0), (0, x1), (0, 8)]) (LN := [(0, (4, 0)), (1, (0, x1))]) (stN := []) (hsC := [jgh]) (v := (9, 0)) (st2 := []) (jA_115_9 (d := 0) (by omega)) (by rfl) (by rfl) (by decide +kernel) (by rfl) (by rfl) (by omega) (by omega) (by omega) (by omega) rfl ?_
  refine jT_xaload_n (v := (4, 0)) (pcN := 8) jI_141_7 rfl rfl rfl ?_
  refine jT_xgetf (a := 0) (t := 1) (ci := 13) (fi := 11) (c := jzA_5) (v := (4, 11)) (pcN := 11) jI_141_8 rfl rfl rfl rfl rfl rfl rfl ?_
  refine jT_xiload_n (v := (0, x1)) (pcN := 12) jI_141_11 rfl rfl rfl ?_
  refine jT_fR [11, 14, 15, 16, 17, 18, 19] 21 (y := 57) (pcN := 15) (dC := 0) (bc1 := 0) (bc2 := 0) (c1 := 0) (c2 := 0) (as := [(4, 11), (0, x1)]) (asC := [(4, 0), (0, x1)]) (LN := [(0, (4, 0)), (1, (0, x1))]) (stN := []) (hsC := jpA_47) (v := (4, 6)) (st2 := [(4, 19)]) (jA_57_108 (d := 0) (by omega)) (by rfl) (by rfl) (by decide +kernel) (by rfl) (by rfl) (by omega) (by omega) (by omega) (by omega) rfl ?_
  refine jT_xastore_n (v := (4, 19)) (LN := [(2, (4, 19)), (0, (4, 0)), (1, (0, x1))]) (pcN := 16) jI_141_15 rfl rfl rfl rfl ?_
  refine jT_xaload_n (v := (4, 0)) (pcN := 17) jI_141_16 rfl rfl rfl ?_
  refine jT_xaload_n (v := (4, 19)) (pcN := 18) jI_141_17 rfl rfl rfl ?_
  refine jT_xbipush (k := 40) (pcN := 20) jI_141_18 (by decide) rfl ?_
  refine jT_fR [0, 19, 20] 21 (y := 142) (pcN := 23) (dC := 1) (bc1 := 0) (bc2 := 0) (c1 := 0) (c2 := 0) (as := [(4, 0), (4, 19), (0, 40)]) (asC := [(4, 0), (4, 1), (0, 40)]) (LN := [(2, (4, 19)), (0, (4, 0)), (1, (0, x1))]) (stN := []) (hsC := [jgh, (4, [(4, 2), (1, 1)], []), (101, [], [0, 0, 0, 0, 0, 0])]) (v := (9, 0)) (st2 := []) (jA_142_794 (d := 0)) (by rfl) (by rfl) (by decide +kernel) (by rfl) (by rfl) (by omega) (by omega) (by omega) (by omega) rfl ?_
  refine jT_xaload_n (v := (4, 0)) (pcN := 24) jI_141_23 rfl rfl rfl ?_
  refine jT_xaload_n (v := (4, 19)) (pcN := 25) jI_141_24 rfl rfl rfl ?_
  refine jT_fB [0, 19, 1, 2, 3, 4, 5, 6, 7, 8, 9, 10, 11, 20, 12, 13] 21 (y := 143) (pcN := 28) (dC := 1) (bc1 := 0) (bc2 := 0) (c1 := 0) (c2 := 0) (as := [(4, 0), (4, 19)]) (asC := [(4, 0), (4, 1)]) (LN := [(2, (4, 19)), (0, (4, 0)), (1, (0, x1))]) (stN := []) (hsC := jpA_3075) (hsD := jpA_3077) (v := (9, 0)) (st2 := []) (hs2 := jpA_3088) (jA_143_796 (d := 0)) (by rfl) (by rfl) (by decide +kernel) (by rfl) (by rfl) (by omega) (by omega) (by omega) (by omega) rfl (by decide +kernel) ?_
  refine jT_xaload_n (v := (4, 0)) (pcN := 29) jI_141_28 rfl rfl rfl ?_
  refine jT_xiconst (k := 1) (pcN := 30) jI_141_29 rfl ?_
  refine jT_adv 1 (pcN := 33) (LN := [(2, (4, 19)), (0, (4, 0)), (1, (0, x1))]) (stN := []) (hsN := jpA_3092) (c1 := 0) (s1 := 0) (c2 := 0) (s2 := 0) (by exact rfl) ?_ (by omega) (by omega)
  refine jT_xaload_n (v := (4, 0)) (pcN := 34) jI_141_33 rfl rfl rfl ?_
  refine jT_xgetf (a := 0) (t := 1) (ci := 13) (fi := 4) (c := jzA_3091) (v := (4, 5)) (pcN := 37) jI_141_34 rfl rfl rfl rfl rfl rfl rfl ?_
  refine jT_xaload_n (v := (4, 0)) (pcN := 38) jI_141_37 rfl rfl rfl ?_
  refine jT_xgetf (a := 0) (t := 1) (ci := 13) (fi := 5) (c := jzA_3091) (v := (4, 6)) (pcN := 41) jI_141_38 rfl rfl rfl rfl rfl rfl rfl ?_
  refine jT_fR [5, 6, 12, 13] 21 (y := 84) (pcN := 44) (dC := 0) (bc1 := 0) (bc2 := 0) (c1 := 0) (c2 := 0) (as := [(4, 5), (4, 6)]) (asC := [(4, 0), (4, 1)]) (LN := [(2, (4, 19)), (0, (4, 0)), (1, (0, x1))]) (stN := []) (hsC := jpA_3078) (v := (0, 0)) (st2 := [(0, 0)]) (jA_84_797 (d := 0)) (by rfl) (by rfl) (by decide +kernel) (by rfl) (by rfl) (by omega) (by omega) (by omega) (by omega) rfl ?_
  refine jT_xifT (pcN := 51) jI_141_44 rfl (by decide +kernel) rfl ?_
  refine jT_xiconst (k := 0) (pcN := 52) jI_141_51 rfl ?_
  exact jT_ret rfl (by decide) (by show 21 ≤ 21; decide) (by omega) (by omega) ⟨rfl, rfl, rfl⟩
def jzA_3100 : JC := (13, [(4, 2), (4, 3), (4, 4), (4, 5), (4, 6), (4, 7), (4, 8), (4, 9), (4, 10), (4, 11), (0, 0), (4, 12), (0, 1)], [])
def jpA_3101 : List JC := [jzA_3100, (101, [], [0]), jgh, jgh, jgh, jgh, (12, [(4, 13), (0, 1)], []), (12, [(4, 14), (0, 1)], []), jgh, jgh, jgh, jgh, jzA_659, jzA_3074, jzA_3074, jzA_660, jgh, jgh, jgh, jgh, (4, [(4, 21), (1, 1)], []), (101, [], [0, 0, 0, 0, 0, 0])]
theorem jI_348_7 : jmI (jm 348) 7 = (.ifCond .eq 7, 3) := by rfl
theorem jI_348_14 : jmI (jm 348) 14 = (.lconst 0, 1) := by rfl
theorem jI_348_16 : jmI (jm 348) 16 = (.goto 9, 3) := by rfl
theorem jI_348_25 : jmI (jm 348) 25 = (.iconst 0, 1) := by rfl
def jpA_3106 : List JC := [jzA_14, (101, [], [0]), jgh, jgh, jgh, jgh, (12, [(4, 13), (0, 0)], []), (12, [(4, 14), (0, 0)], []), jgh, jgh, jgh, jgh, jzA_659, (100, [], List.replicate 48 0), (100, [], List.replicate 48 0), jzA_660, jgh, jgh, jgh, jgh, (4, [(4, 21), (1, 1)], []), (101, [], [0, 0, 0, 0, 0, 0])]
theorem jA_348_799 {xs : List Int} {d : Nat} {x1 : Int} (h_x1 : 0 ≤ x1 ∧ x1 ≤ 7) : jT xs (d + 3) 348 22 0 [(0, (4, 0)), (1, (0, x1)), (2, (4, 1))] [] jpA_3106 0 0 (fun k v hsN => k = 0 ∧ v = (0, 0) ∧ hsN = jpA_3101) := by
  refine jT_xaload_n (v := (4, 1)) (pcN := 1) jI_348_0 rfl rfl rfl ?_
  refine jT_xiconst (k := 0) (pcN := 2) jI_348_1 rfl ?_
  refine jT_xaload_n (v := (4, 0)) (pcN := 3) jI_348_2 rfl rfl rfl ?_
  refine jT_xiload_n (v := (0, x1)) (pcN := 4) jI_348_3 rfl rfl rfl ?_
  refine jT_fB [0, 2, 3, 4, 5, 6, 7, 8, 9, 10, 11, 12, 13, 14, 15, 16, 17, 18, 19, 20, 21] 22 (y := 141) (pcN := 7) (dC := 2) (bc1 := 0) (bc2 := 0) (c1 := 0) (c2 := 0) (as := [(4, 0), (0, x1)]) (asC := [(4, 0), (0, x1)]) (LN := [(0, (4, 0)), (1, (0, x1)), (2, (4, 1))]) (stN := [(0, 0), (4, 1)]) (hsC := jpA_3099) (hsD := jpA_3092) (v := (0, 0)) (st2 := [(0, 0), (0, 0), (4, 1)]) (hs2 := jpA_3101) (jA_141_798 (d := 0) (by omega)) (by rfl) (by rfl) (by decide +kernel) (by rfl) (by rfl) (by omega) (by omega) (by omega) (by omega) rfl (by decide +kernel) ?_
  refine jT_xifT (pcN := 14) jI_348_7 rfl (by decide +kernel) rfl ?_
  refine jT_xlconst (z := 0) (pcN := 15) jI_348_14 rfl rfl ?_
  refine jT_adv 1 (pcN := 16) (LN := [(0, (4, 0)), (1, (0, x1)), (2, (4, 1))]) (stN := []) (hsN := jpA_3101) (c1 := 0) (s1 := 0) (c2 := 0) (s2 := 0) (by exact rfl) ?_ (by omega) (by omega)
  refine jT_xgoto (pcN := 25) jI_348_16 rfl ?_
  refine jT_xiconst (k := 0) (pcN := 26) jI_348_25 rfl ?_
  exact jT_ret rfl (by decide) (by show 22 ≤ 22; decide) (by omega) (by omega) ⟨rfl, rfl, rfl⟩
theorem jA_189_800 {xs : List Int} {d : Nat} : jT xs d 189 0 0 [(0, (1, 0)), (2, (1, (-40))), (4, (1, 40))] [] [] 0 0 (fun k v hsN => k = 0 ∧ v = (0, 1) ∧ hsN = [] ++ []) := by
  refine jT_advK 10 (pcN := 18) (LN := [(0, (1, 0)), (2, (1, (-40))), (4, (1, 40))]) (stN := [(0, 1)]) (hsN := []) (c1 := 0) (s1 := 0) (c2 := 0) (s2 := 0) (by decide +kernel) ?_ (by omega) (by omega)
  exact jT_ret rfl (by decide) (by show 0 ≤ 0; decide) (by omega) (by omega) ⟨rfl, rfl, rfl⟩
theorem jI_267_0 : jmI (jm 267) 0 = (.aload_n 0, 1) := by rfl
theorem jI_267_1 : jmI (jm 267) 1 = (.getfield 9, 3) := by rfl
theorem jI_267_4 : jmI (jm 267) 4 = (.bipush 7, 2) := by rfl
theorem jI_267_6 : jmI (jm 267) 6 = (.iload_n 1, 1) := by rfl
theorem jI_267_7 : jmI (jm 267) 7 = (.imul, 1) := by rfl
theorem jI_267_8 : jmI (jm 267) 8 = (.bipush 6, 2) := by rfl
theorem jI_267_10 : jmI (jm 267) 10 = (.iadd, 1) := by rfl
theorem jI_267_11 : jmI (jm 267) 11 = (.iaload, 1) := by rfl
theorem jI_267_12 : jmI (jm 267) 12 = (.iconst 1, 1) := by rfl
theorem jI_267_13 : jmI (jm 267) 13 = (.if_icmp .ne 7, 3) := by rfl
theorem jI_267_16 : jmI (jm 267) 16 = (.iconst 1, 1) := by rfl
theorem jI_267_17 : jmI (jm 267) 17 = (.goto 4, 3) := by rfl
theorem jI_267_21 : jmI (jm 267) 21 = (.istore_n 3, 1) := by rfl
theorem jI_267_22 : jmI (jm 267) 22 = (.iconst 0, 1) := by rfl
theorem jI_267_23 : jmI (jm 267) 23 = (.istore 4, 2) := by rfl
theorem jI_267_25 : jmI (jm 267) 25 = (.iload 4, 2) := by rfl
theorem jI_267_27 : jmI (jm 267) 27 = (.bipush 6, 2) := by rfl
theorem jI_267_29 : jmI (jm 267) 29 = (.if_icmp .ge 43, 3) := by rfl
theorem jI_267_32 : jmI (jm 267) 32 = (.iload_n 3, 1) := by rfl
theorem jI_267_33 : jmI (jm 267) 33 = (.ifCond .eq 31, 3) := by rfl
theorem jI_267_36 : jmI (jm 267) 36 = (.aload_n 0, 1) := by rfl
theorem jI_267_37 : jmI (jm 267) 37 = (.getfield 9, 3) := by rfl
theorem jI_267_40 : jmI (jm 267) 40 = (.bipush 7, 2) := by rfl
theorem jI_267_42 : jmI (jm 267) 42 = (.iload_n 1, 1) := by rfl
theorem jI_267_43 : jmI (jm 267) 43 = (.imul, 1) := by rfl
theorem jI_267_44 : jmI (jm 267) 44 = (.iload 4, 2) := by rfl
theorem jI_267_46 : jmI (jm 267) 46 = (.iadd, 1) := by rfl
theorem jI_267_47 : jmI (jm 267) 47 = (.iaload, 1) := by rfl
theorem jI_267_48 : jmI (jm 267) 48 = (.i2l, 1) := by rfl
theorem jI_267_49 : jmI (jm 267) 49 = (.iload_n 2, 1) := by rfl
theorem jI_267_51 : jmI (jm 267) 51 = (.i2l, 1) := by rfl
theorem jI_267_52 : jmI (jm 267) 52 = (.iload_n 2, 1) := by rfl
theorem jI_267_53 : jmI (jm 267) 53 = (.i2l, 1) := by rfl
theorem jI_267_57 : jmI (jm 267) 57 = (.ifCond .eq 7, 3) := by rfl
theorem jI_267_60 : jmI (jm 267) 60 = (.iconst 1, 1) := by rfl
theorem jI_267_61 : jmI (jm 267) 61 = (.goto 4, 3) := by rfl
theorem jI_267_65 : jmI (jm 267) 65 = (.istore_n 3, 1) := by rfl
theorem jI_267_66 : jmI (jm 267) 66 = (.iinc 4 1, 3) := by rfl
theorem jI_267_69 : jmI (jm 267) 69 = (.goto (-44), 3) := by rfl
theorem jI_267_72 : jmI (jm 267) 72 = (.iload_n 3, 1) := by rfl
theorem jA_267_801 {xs : List Int} {d : Nat} {x1 : Int} (h_x1 : 0 ≤ x1 ∧ x1 ≤ 7) : jT xs (d + 1) 267 16 0 [(0, (4, 0)), (1, (0, x1)), (2, (0, 40))] [] jpA_1519 0 0 (fun k v hsN => k = 0 ∧ v = (0, 1) ∧ hsN = jpA_1519 ++ []) := by
  refine jT_xaload_n (v := (4, 0)) (pcN := 1) jI_267_0 rfl rfl rfl ?_
  refine jT_xgetf (a := 0) (t := 1) (ci := 14) (fi := 1) (c := jzA_21) (v := (4, 1)) (pcN := 4) jI_267_1 rfl rfl rfl rfl rfl rfl rfl ?_
  refine jT_xbipush (k := 7) (pcN := 6) jI_267_4 (by decide) rfl ?_
  refine jT_xiload_n (v := (0, x1)) (pcN := 7) jI_267_6 rfl rfl rfl ?_
  refine jT_ximul (x := 7) (y := x1) (z := 7 * x1) (pcN := 8) jI_267_7 rfl (rfl) rfl ?_
  refine jT_xbipush (k := 6) (pcN := 10) jI_267_8 (by decide) rfl ?_
  refine jT_xiadd (x := 7 * x1) (y := 6) (z := 7 * x1 + 6) (pcN := 11) jI_267_10 rfl (by omega) rfl ?_
  refine jT_iald (x := 1) (a := 1) (j := (7 * x1 + 6).toNat) (fs := []) (X := jS0) (by rfl) (by rfl) (by rfl) (jw_nn (by omega) (by omega)) (jS0_r6 (by omega) (by omega)) ?_
  refine jT_eq (LN := [(0, (4, 0)), (1, (0, x1)), (2, (0, 40))]) (stN := [(0, 1)]) (hsN := jpA_1519) rfl rfl rfl ?_
  refine jT_xiconst (k := 1) (pcN := 13) jI_267_12 rfl ?_
  refine jT_xicF (t := 20) (pcN := 16) jI_267_13 rfl (by decide +kernel) rfl rfl ?_
  refine jT_xiconst (k := 1) (pcN := 17) jI_267_16 rfl ?_
  refine jT_xgoto (pcN := 21) jI_267_17 rfl ?_
  refine jT_xistore_n (v := (0, 1)) (LN := [(3, (0, 1)), (0, (4, 0)), (1, (0, x1)), (2, (0, 40))]) (pcN := 22) jI_267_21 rfl rfl rfl rfl ?_
  refine jT_xiconst (k := 0) (pcN := 23) jI_267_22 rfl ?_
  refine jT_xistore (v := (0, 0)) (LN := [(4, (0, 0)), (3, (0, 1)), (0, (4, 0)), (1, (0, x1)), (2, (0, 40))]) (pcN := 25) jI_267_23 rfl rfl rfl rfl ?_
  refine jT_xiload (v := (0, 0)) (pcN := 27) jI_267_25 rfl rfl rfl ?_
  refine jT_xbipush (k := 6) (pcN := 29) jI_267_27 (by decide) rfl ?_
  refine jT_xicF (t := 72) (pcN := 32) jI_267_29 rfl (by decide +kernel) rfl rfl ?_
  refine jT_xiload_n (v := (0, 1)) (pcN := 33) jI_267_32 rfl rfl rfl ?_
  refine jT_xifF (t := 64) (pcN := 36) jI_267_33 rfl (by decide +kernel) rfl rfl ?_
  refine jT_xaload_n (v := (4, 0)) (pcN := 37) jI_267_36 rfl rfl rfl ?_
  refine jT_xgetf (a := 0) (t := 1) (ci := 14) (fi := 1) (c := jzA_21) (v := (4, 1)) (pcN := 40) jI_267_37 rfl rfl rfl rfl rfl rfl rfl ?_
  refine jT_xbipush (k := 7) (pcN := 42) jI_267_40 (by decide) rfl ?_
  refine jT_xiload_n (v := (0, x1)) (pcN := 43) jI_267_42 rfl rfl rfl ?_
  refine jT_ximul (x := 7) (y := x1) (z := 7 * x1) (pcN := 44) jI_267_43 rfl (rfl) rfl ?_
  refine jT_xiload (v := (0, 0)) (pcN := 46) jI_267_44 rfl rfl rfl ?_
  refine jT_xiadd (x := 7 * x1) (y := 0) (z := 7 * x1) (pcN := 47) jI_267_46 rfl (by omega) rfl ?_
  refine jT_iald (x := 0) (a := 1) (j := (7 * x1).toNat) (fs := []) (X := jS0) (by rfl) (by rfl) (by rfl) (jw_nn (by omega) (by omega)) (jS0_r0 (by omega) (by omega)) ?_
  refine jT_eq (LN := [(4, (0, 0)), (3, (0, 1)), (0, (4, 0)), (1, (0, x1)), (2, (0, 40))]) (stN := [(0, 0)]) (hsN := jpA_1519) rfl rfl rfl ?_
  refine jT_xi2l (x := 0) (z := 0) (pcN := 49) jI_267_48 rfl (by decide +kernel) rfl ?_
  refine jT_xiload_n (v := (0, 40)) (pcN := 50) jI_267_49 rfl rfl rfl ?_
  refine jT_adv 1 (pcN := 51) (LN := [(4, (0, 0)), (3, (0, 1)), (0, (4, 0)), (1, (0, x1)), (2, (0, 40))]) (stN := [(0, (-40)), (1, 0)]) (hsN := jpA_1519) (c1 := 0) (s1 := 0) (c2 := 0) (s2 := 0) (by exact rfl) ?_ (by omega) (by omega)
  refine jT_xi2l (x := (-40)) (z := (-40)) (pcN := 52) jI_267_51 rfl (by decide +kernel) rfl ?_
  refine jT_xiload_n (v := (0, 40)) (pcN := 53) jI_267_52 rfl rfl rfl ?_
  refine jT_xi2l (x := 40) (z := 40) (pcN := 54) jI_267_53 rfl (by decide +kernel) rfl ?_
  refine jT_fR [] 16 (y := 189) (pcN := 57) (dC := 0) (bc1 := 0) (bc2 := 0) (c1 := 0) (c2 := 0) (as := [(1, 0), (1, (-40)), (1, 40)]) (asC := [(1, 0), (1, (-40)), (1, 40)]) (LN := [(4, (0, 0)), (3, (0, 1)), (0, (4, 0)), (1, (0, x1)), (2, (0, 40))]) (stN := []) (hsC := []) (v := (0, 1)) (st2 := [(0, 1)]) (jA_189_800 (d := 0)) (by rfl) (by rfl) (by decide +kernel) (by rfl) (by rfl) (by omega) (by omega) (by omega) (by omega) rfl ?_
  refine jT_xifF (t := 64) (pcN := 60) jI_267_57 rfl (by decide +kernel) rfl rfl ?_
  refine jT_xiconst (k := 1) (pcN := 61) jI_267_60 rfl ?_
  refine jT_xgoto (pcN := 65) jI_267_61 rfl ?_
  refine jT_xistore_n (v := (0, 1)) (LN := [(3, (0, 1)), (4, (0, 0)), (0, (4, 0)), (1, (0, x1)), (2, (0, 40))]) (pcN := 66) jI_267_65 rfl rfl rfl rfl ?_
  refine jT_xiinc (x := 0) (z := 1) (LN := [(4, (0, 1)), (3, (0, 1)), (0, (4, 0)), (1, (0, x1)), (2, (0, 40))]) (pcN := 69) jI_267_66 rfl rfl (by decide) rfl rfl ?_
  refine jT_xgoto (pcN := 25) jI_267_69 rfl ?_
  refine jT_xiload (v := (0, 1)) (pcN := 27) jI_267_25 rfl rfl rfl ?_
  refine jT_xbipush (k := 6) (pcN := 29) jI_267_27 (by decide) rfl ?_
  refine jT_xicF (t := 72) (pcN := 32) jI_267_29 rfl (by decide +kernel) rfl rfl ?_
  refine jT_xiload_n (v := (0, 1)) (pcN := 33) jI_267_32 rfl rfl rfl ?_
  refine jT_xifF (t := 64) (pcN := 36) jI_267_33 rfl (by decide +kernel) rfl rfl ?_
  refine jT_xaload_n (v := (4, 0)) (pcN := 37) jI_267_36 rfl rfl rfl ?_
  refine jT_xgetf (a := 0) (t := 1) (ci := 14) (fi := 1) (c := jzA_21) (v := (4, 1)) (pcN := 40) jI_267_37 rfl rfl rfl rfl rfl rfl rfl ?_
  refine jT_xbipush (k := 7) (pcN := 42) jI_267_40 (by decide) rfl ?_
  refine jT_xiload_n (v := (0, x1)) (pcN := 43) jI_267_42 rfl rfl rfl ?_
  refine jT_ximul (x := 7) (y := x1) (z := 7 * x1) (pcN := 44) jI_267_43 rfl (rfl) rfl ?_
  refine jT_xiload (v := (0, 1)) (pcN := 46) jI_267_44 rfl rfl rfl ?_
  refine jT_xiadd (x := 7 * x1) (y := 1) (z := 7 * x1 + 1) (pcN := 47) jI_267_46 rfl (by omega) rfl ?_
  refine jT_iald (x := 0) (a := 1) (j := (7 * x1 + 1).toNat) (fs := []) (X := jS0) (by rfl) (by rfl) (by rfl) (jw_nn (by omega) (by omega)) (jS0_r1 (by omega) (by omega)) ?_
  refine jT_eq (LN := [(4, (0, 1)), (3, (0, 1)), (0, (4, 0)), (1, (0, x1)), (2, (0, 40))]) (stN := [(0, 0)]) (hsN := jpA_1519) rfl rfl rfl ?_
  refine jT_xi2l (x := 0) (z := 0) (pcN := 49) jI_267_48 rfl (by decide +kernel) rfl ?_
  refine jT_xiload_n (v := (0, 40)) (pcN := 50) jI_267_49 rfl rfl rfl ?_
  refine jT_adv 1 (pcN := 51) (LN := [(4, (0, 1)), (3, (0, 1)), (0, (4, 0)), (1, (0, x1)), (2, (0, 40))]) (stN := [(0, (-40)), (1, 0)]) (hsN := jpA_1519) (c1 := 0) (s1 := 0) (c2 := 0) (s2 := 0) (by exact rfl) ?_ (by omega) (by omega)
  refine jT_xi2l (x := (-40)) (z := (-40)) (pcN := 52) jI_267_51 rfl (by decide +kernel) rfl ?_
  refine jT_xiload_n (v := (0, 40)) (pcN := 53) jI_267_52 rfl rfl rfl ?_
  refine jT_xi2l (x := 40) (z := 40) (pcN := 54) jI_267_53 rfl (by decide +kernel) rfl ?_
  refine jT_fR [] 16 (y := 189) (pcN := 57) (dC := 0) (bc1 := 0) (bc2 := 0) (c1 := 0) (c2 := 0) (as := [(1, 0), (1, (-40)), (1, 40)]) (asC := [(1, 0), (1, (-40)), (1, 40)]) (LN := [(4, (0, 1)), (3, (0, 1)), (0, (4, 0)), (1, (0, x1)), (2, (0, 40))]) (stN := []) (hsC := []) (v := (0, 1)) (st2 := [(0, 1)]) (jA_189_800 (d := 0)) (by rfl) (by rfl) (by decide +kernel) (by rfl) (by rfl) (by omega) (by omega) (by omega) (by omega) rfl ?_
  refine jT_xifF (t := 64) (pcN := 60) jI_267_57 rfl (by decide +kernel) rfl rfl ?_
  refine jT_xiconst (k := 1) (pcN := 61) jI_267_60 rfl ?_
  refine jT_xgoto (pcN := 65) jI_267_61 rfl ?_
  refine jT_xistore_n (v := (0, 1)) (LN := [(3, (0, 1)), (4, (0, 1)), (0, (4, 0)), (1, (0, x1)), (2, (0, 40))]) (pcN := 66) jI_267_65 rfl rfl rfl rfl ?_
  refine jT_xiinc (x := 1) (z := 2) (LN := [(4, (0, 2)), (3, (0, 1)), (0, (4, 0)), (1, (0, x1)), (2, (0, 40))]) (pcN := 69) jI_267_66 rfl rfl (by decide) rfl rfl ?_
  refine jT_xgoto (pcN := 25) jI_267_69 rfl ?_
  refine jT_xiload (v := (0, 2)) (pcN := 27) jI_267_25 rfl rfl rfl ?_
  refine jT_xbipush (k := 6) (pcN := 29) jI_267_27 (by decide) rfl ?_
  refine jT_xicF (t := 72) (pcN := 32) jI_267_29 rfl (by decide +kernel) rfl rfl ?_
  refine jT_xiload_n (v := (0, 1)) (pcN := 33) jI_267_32 rfl rfl rfl ?_
  refine jT_xifF (t := 64) (pcN := 36) jI_267_33 rfl (by decide +kernel) rfl rfl ?_
  refine jT_xaload_n (v := (4, 0)) (pcN := 37) jI_267_36 rfl rfl rfl ?_
  refine jT_xgetf (a := 0) (t := 1) (ci := 14) (fi := 1) (c := jzA_21) (v := (4, 1)) (pcN := 40) jI_267_37 rfl rfl rfl rfl rfl rfl rfl ?_
  refine jT_xbipush (k := 7) (pcN := 42) jI_267_40 (by decide) rfl ?_
  refine jT_xiload_n (v := (0, x1)) (pcN := 43) jI_267_42 rfl rfl rfl ?_
  refine jT_ximul (x := 7) (y := x1) (z := 7 * x1) (pcN := 44) jI_267_43 rfl (rfl) rfl ?_
  refine jT_xiload (v := (0, 2)) (pcN := 46) jI_267_44 rfl rfl rfl ?_
  refine jT_xiadd (x := 7 * x1) (y := 2) (z := 7 * x1 + 2) (pcN := 47) jI_267_46 rfl (by omega) rfl ?_
  refine jT_iald (x := 0) (a := 1) (j := (7 * x1 + 2).toNat) (fs := []) (X := jS0) (by rfl) (by rfl) (by rfl) (jw_nn (by omega) (by omega)) (jS0_r2 (by omega) (by omega)) ?_
  refine jT_eq (LN := [(4, (0, 2)), (3, (0, 1)), (0, (4, 0)), (1, (0, x1)), (2, (0, 40))]) (stN := [(0, 0)]) (hsN := jpA_1519) rfl rfl rfl ?_
  refine jT_xi2l (x := 0) (z := 0) (pcN := 49) jI_267_48 rfl (by decide +kernel) rfl ?_
  refine jT_xiload_n (v := (0, 40)) (pcN := 50) jI_267_49 rfl rfl rfl ?_
  refine jT_adv 1 (pcN := 51) (LN := [(4, (0, 2)), (3, (0, 1)), (0, (4, 0)), (1, (0, x1)), (2, (0, 40))]) (stN := [(0, (-40)), (1, 0)]) (hsN := jpA_1519) (c1 := 0) (s1 := 0) (c2 := 0) (s2 := 0) (by exact rfl) ?_ (by omega) (by omega)
  refine jT_xi2l (x := (-40)) (z := (-40)) (pcN := 52) jI_267_51 rfl (by decide +kernel) rfl ?_
  refine jT_xiload_n (v := (0, 40)) (pcN := 53) jI_267_52 rfl rfl rfl ?_
  refine jT_xi2l (x := 40) (z := 40) (pcN := 54) jI_267_53 rfl (by decide +kernel) rfl ?_
  refine jT_fR [] 16 (y := 189) (pcN := 57) (dC := 0) (bc1 := 0) (bc2 := 0) (c1 := 0) (c2 := 0) (as := [(1, 0), (1, (-40)), (1, 40)]) (asC := [(1, 0), (1, (-40)), (1, 40)]) (LN := [(4, (0, 2)), (3, (0, 1)), (0, (4, 0)), (1, (0, x1)), (2, (0, 40))]) (stN := []) (hsC := []) (v := (0, 1)) (st2 := [(0, 1)]) (jA_189_800 (d := 0)) (by rfl) (by rfl) (by decide +kernel) (by rfl) (by rfl) (by omega) (by omega) (by omega) (by omega) rfl ?_
  refine jT_xifF (t := 64) (pcN := 60) jI_267_57 rfl (by decide +kernel) rfl rfl ?_
  refine jT_xiconst (k := 1) (pcN := 61) jI_267_60 rfl ?_
  refine jT_xgoto (pcN := 65) jI_267_61 rfl ?_
  refine jT_xistore_n (v := (0, 1)) (LN := [(3, (0, 1)), (4, (0, 2)), (0, (4, 0)), (1, (0, x1)), (2, (0, 40))]) (pcN := 66) jI_267_65 rfl rfl rfl rfl ?_
  refine jT_xiinc (x := 2) (z := 3) (LN := [(4, (0, 3)), (3, (0, 1)), (0, (4, 0)), (1, (0, x1)), (2, (0, 40))]) (pcN := 69) jI_267_66 rfl rfl (by decide) rfl rfl ?_
  refine jT_xgoto (pcN := 25) jI_267_69 rfl ?_
  refine jT_xiload (v := (0, 3)) (pcN := 27) jI_267_25 rfl rfl rfl ?_
  refine jT_xbipush (k := 6) (pcN := 29) jI_267_27 (by decide) rfl ?_
  refine jT_xicF (t := 72) (pcN := 32) jI_267_29 rfl (by decide +kernel) rfl rfl ?_
  refine jT_xiload_n (v := (0, 1)) (pcN := 33) jI_267_32 rfl rfl rfl ?_
  refine jT_xifF (t := 64) (pcN := 36) jI_267_33 rfl (by decide +kernel) rfl rfl ?_
  refine jT_xaload_n (v := (4, 0)) (pcN := 37) jI_267_36 rfl rfl rfl ?_
  refine jT_xgetf (a := 0) (t := 1) (ci := 14) (fi := 1) (c := jzA_21) (v := (4, 1)) (pcN := 40) jI_267_37 rfl rfl rfl rfl rfl rfl rfl ?_
  refine jT_xbipush (k := 7) (pcN := 42) jI_267_40 (by decide) rfl ?_
  refine jT_xiload_n (v := (0, x1)) (pcN := 43) jI_267_42 rfl rfl rfl ?_
  refine jT_ximul (x := 7) (y := x1) (z := 7 * x1) (pcN := 44) jI_267_43 rfl (rfl) rfl ?_
  refine jT_xiload (v := (0, 3)) (pcN := 46) jI_267_44 rfl rfl rfl ?_
  refine jT_xiadd (x := 7 * x1) (y := 3) (z := 7 * x1 + 3) (pcN := 47) jI_267_46 rfl (by omega) rfl ?_
  refine jT_iald (x := 0) (a := 1) (j := (7 * x1 + 3).toNat) (fs := []) (X := jS0) (by rfl) (by rfl) (by rfl) (jw_nn (by omega) (by omega)) (jS0_r3 (by omega) (by omega)) ?_
  refine jT_eq (LN := [(4, (0, 3)), (3, (0, 1)), (0, (4, 0)), (1, (0, x1)), (2, (0, 40))]) (stN := [(0, 0)]) (hsN := jpA_1519) rfl rfl rfl ?_
  refine jT_xi2l (x := 0) (z := 0) (pcN := 49) jI_267_48 rfl (by decide +kernel) rfl ?_
  refine jT_xiload_n (v := (0, 40)) (pcN := 50) jI_267_49 rfl rfl rfl ?_
  refine jT_adv 1 (pcN := 51) (LN := [(4, (0, 3)), (3, (0, 1)), (0, (4, 0)), (1, (0, x1)), (2, (0, 40))]) (stN := [(0, (-40)), (1, 0)]) (hsN := jpA_1519) (c1 := 0) (s1 := 0) (c2 := 0) (s2 := 0) (by exact rfl) ?_ (by omega) (by omega)
  refine jT_xi2l (x := (-40)) (z := (-40)) (pcN := 52) jI_267_51 rfl (by decide +kernel) rfl ?_
  refine jT_xiload_n (v := (0, 40)) (pcN := 53) jI_267_52 rfl rfl rfl ?_
  refine jT_xi2l (x := 40) (z := 40) (pcN := 54) jI_267_53 rfl (by decide +kernel) rfl ?_
  refine jT_fR [] 16 (y := 189) (pcN := 57) (dC := 0) (bc1 := 0) (bc2 := 0) (c1 := 0) (c2 := 0) (as := [(1, 0), (1, (-40)), (1, 40)]) (asC := [(1, 0), (1, (-40)), (1, 40)]) (LN := [(4, (0, 3)), (3, (0, 1)), (0, (4, 0)), (1, (0, x1)), (2, (0, 40))]) (stN := []) (hsC := []) (v := (0, 1)) (st2 := [(0, 1)]) (jA_189_800 (d := 0)) (by rfl) (by rfl) (by decide +kernel) (by rfl) (by rfl) (by omega) (by omega) (by omega) (by omega) rfl ?_
  refine jT_xifF (t := 64) (pcN := 60) jI_267_57 rfl (by decide +kernel) rfl rfl ?_
  refine jT_xiconst (k := 1) (pcN := 61) jI_267_60 rfl ?_
  refine jT_xgoto (pcN := 65) jI_267_61 rfl ?_
  refine jT_xistore_n (v := (0, 1)) (LN := [(3, (0, 1)), (4, (0, 3)), (0, (4, 0)), (1, (0, x1)), (2, (0, 40))]) (pcN := 66) jI_267_65 rfl rfl rfl rfl ?_
  refine jT_xiinc (x := 3) (z := 4) (LN := [(4, (0, 4)), (3, (0, 1)), (0, (4, 0)), (1, (0, x1)), (2, (0, 40))]) (pcN := 69) jI_267_66 rfl rfl (by decide) rfl rfl ?_
  refine jT_xgoto (pcN := 25) jI_267_69 rfl ?_
  refine jT_xiload (v := (0, 4)) (pcN := 27) jI_267_25 rfl rfl rfl ?_
  refine jT_xbipush (k := 6) (pcN := 29) jI_267_27 (by decide) rfl ?_
  refine jT_xicF (t := 72) (pcN := 32) jI_267_29 rfl (by decide +kernel) rfl rfl ?_
  refine jT_xiload_n (v := (0, 1)) (pcN := 33) jI_267_32 rfl rfl rfl ?_
  refine jT_xifF (t := 64) (pcN := 36) jI_267_33 rfl (by decide +kernel) rfl rfl ?_
  refine jT_xaload_n (v := (4, 0)) (pcN := 37) jI_267_36 rfl rfl rfl ?_
  refine jT_xgetf (a := 0) (t := 1) (ci := 14) (fi := 1) (c := jzA_21) (v := (4, 1)) (pcN := 40) jI_267_37 rfl rfl rfl rfl rfl rfl rfl ?_
  refine jT_xbipush (k := 7) (pcN := 42) jI_267_40 (by decide) rfl ?_
  refine jT_xiload_n (v := (0, x1)) (pcN := 43) jI_267_42 rfl rfl rfl ?_
  refine jT_ximul (x := 7) (y := x1) (z := 7 * x1) (pcN := 44) jI_267_43 rfl (rfl) rfl ?_
  refine jT_xiload (v := (0, 4)) (pcN := 46) jI_267_44 rfl rfl rfl ?_
  refine jT_xiadd (x := 7 * x1) (y := 4) (z := 7 * x1 + 4) (pcN := 47) jI_267_46 rfl (by omega) rfl ?_
  refine jT_iald (x := 0) (a := 1) (j := (7 * x1 + 4).toNat) (fs := []) (X := jS0) (by rfl) (by rfl) (by rfl) (jw_nn (by omega) (by omega)) (jS0_r4 (by omega) (by omega)) ?_
  refine jT_eq (LN := [(4, (0, 4)), (3, (0, 1)), (0, (4, 0)), (1, (0, x1)), (2, (0, 40))]) (stN := [(0, 0)]) (hsN := jpA_1519) rfl rfl rfl ?_
  refine jT_xi2l (x := 0) (z := 0) (pcN := 49) jI_267_48 rfl (by decide +kernel) rfl ?_
  refine jT_xiload_n (v := (0, 40)) (pcN := 50) jI_267_49 rfl rfl rfl ?_
  refine jT_adv 1 (pcN := 51) (LN := [(4, (0, 4)), (3, (0, 1)), (0, (4, 0)), (1, (0, x1)), (2, (0, 40))]) (stN := [(0, (-40)), (1, 0)]) (hsN := jpA_1519) (c1 := 0) (s1 := 0) (c2 := 0) (s2 := 0) (by exact rfl) ?_ (by omega) (by omega)
  refine jT_xi2l (x := (-40)) (z := (-40)) (pcN := 52) jI_267_51 rfl (by decide +kernel) rfl ?_
  refine jT_xiload_n (v := (0, 40)) (pcN := 53) jI_267_52 rfl rfl rfl ?_
  refine jT_xi2l (x := 40) (z := 40) (pcN := 54) jI_267_53 rfl (by decide +kernel) rfl ?_
  refine jT_fR [] 16 (y := 189) (pcN := 57) (dC := 0) (bc1 := 0) (bc2 := 0) (c1 := 0) (c2 := 0) (as := [(1, 0), (1, (-40)), (1, 40)]) (asC := [(1, 0), (1, (-40)), (1, 40)]) (LN := [(4, (0, 4)), (3, (0, 1)), (0, (4, 0)), (1, (0, x1)), (2, (0, 40))]) (stN := []) (hsC := []) (v := (0, 1)) (st2 := [(0, 1)]) (jA_189_800 (d := 0)) (by rfl) (by rfl) (by decide +kernel) (by rfl) (by rfl) (by omega) (by omega) (by omega) (by omega) rfl ?_
  refine jT_xifF (t := 64) (pcN := 60) jI_267_57 rfl (by decide +kernel) rfl rfl ?_
  refine jT_xiconst (k := 1) (pcN := 61) jI_267_60 rfl ?_
  refine jT_xgoto (pcN := 65) jI_267_61 rfl ?_
  refine jT_xistore_n (v := (0, 1)) (LN := [(3, (0, 1)), (4, (0, 4)), (0, (4, 0)), (1, (0, x1)), (2, (0, 40))]) (pcN := 66) jI_267_65 rfl rfl rfl rfl ?_
  refine jT_xiinc (x := 4) (z := 5) (LN := [(4, (0, 5)), (3, (0, 1)), (0, (4, 0)), (1, (0, x1)), (2, (0, 40))]) (pcN := 69) jI_267_66 rfl rfl (by decide) rfl rfl ?_
  refine jT_xgoto (pcN := 25) jI_267_69 rfl ?_
  refine jT_xiload (v := (0, 5)) (pcN := 27) jI_267_25 rfl rfl rfl ?_
  refine jT_xbipush (k := 6) (pcN := 29) jI_267_27 (by decide) rfl ?_
  refine jT_xicF (t := 72) (pcN := 32) jI_267_29 rfl (by decide +kernel) rfl rfl ?_
  refine jT_xiload_n (v := (0, 1)) (pcN := 33) jI_267_32 rfl rfl rfl ?_
  refine jT_xifF (t := 64) (pcN := 36) jI_267_33 rfl (by decide +kernel) rfl rfl ?_
  refine jT_xaload_n (v := (4, 0)) (pcN := 37) jI_267_36 rfl rfl rfl ?_
  refine jT_xgetf (a := 0) (t := 1) (ci := 14) (fi := 1) (c := jzA_21) (v := (4, 1)) (pcN := 40) jI_267_37 rfl rfl rfl rfl rfl rfl rfl ?_
  refine jT_xbipush (k := 7) (pcN := 42) jI_267_40 (by decide) rfl ?_
  refine jT_xiload_n (v := (0, x1)) (pcN := 43) jI_267_42 rfl rfl rfl ?_
  refine jT_ximul (x := 7) (y := x1) (z := 7 * x1) (pcN := 44) jI_267_43 rfl (rfl) rfl ?_
  refine jT_xiload (v := (0, 5)) (pcN := 46) jI_267_44 rfl rfl rfl ?_
  refine jT_xiadd (x := 7 * x1) (y := 5) (z := 7 * x1 + 5) (pcN := 47) jI_267_46 rfl (by omega) rfl ?_
  refine jT_iald (x := 0) (a := 1) (j := (7 * x1 + 5).toNat) (fs := []) (X := jS0) (by rfl) (by rfl) (by rfl) (jw_nn (by omega) (by omega)) (jS0_r5 (by omega) (by omega)) ?_
  refine jT_eq (LN := [(4, (0, 5)), (3, (0, 1)), (0, (4, 0)), (1, (0, x1)), (2, (0, 40))]) (stN := [(0, 0)]) (hsN := jpA_1519) rfl rfl rfl ?_
  refine jT_xi2l (x := 0) (z := 0) (pcN := 49) jI_267_48 rfl (by decide +kernel) rfl ?_
  refine jT_xiload_n (v := (0, 40)) (pcN := 50) jI_267_49 rfl rfl rfl ?_
  refine jT_adv 1 (pcN := 51) (LN := [(4, (0, 5)), (3, (0, 1)), (0, (4, 0)), (1, (0, x1)), (2, (0, 40))]) (stN := [(0, (-40)), (1, 0)]) (hsN := jpA_1519) (c1 := 0) (s1 := 0) (c2 := 0) (s2 := 0) (by exact rfl) ?_ (by omega) (by omega)
  refine jT_xi2l (x := (-40)) (z := (-40)) (pcN := 52) jI_267_51 rfl (by decide +kernel) rfl ?_
  refine jT_xiload_n (v := (0, 40)) (pcN := 53) jI_267_52 rfl rfl rfl ?_
  refine jT_xi2l (x := 40) (z := 40) (pcN := 54) jI_267_53 rfl (by decide +kernel) rfl ?_
  refine jT_fR [] 16 (y := 189) (pcN := 57) (dC := 0) (bc1 := 0) (bc2 := 0) (c1 := 0) (c2 := 0) (as := [(1, 0), (1, (-40)), (1, 40)]) (asC := [(1, 0), (1, (-40)), (1, 40)]) (LN := [(4, (0, 5)), (3, (0, 1)), (0, (4, 0)), (1, (0, x1)), (2, (0, 40))]) (stN := []) (hsC := []) (v := (0, 1)) (st2 := [(0, 1)]) (jA_189_800 (d := 0)) (by rfl) (by rfl) (by decide +kernel) (by rfl) (by rfl) (by omega) (by omega) (by omega) (by omega) rfl ?_
  refine jT_xifF (t := 64) (pcN := 60) jI_267_57 rfl (by decide +kernel) rfl rfl ?_
  refine jT_xiconst (k := 1) (pcN := 61) jI_267_60 rfl ?_
  refine jT_xgoto (pcN := 65) jI_267_61 rfl ?_
  refine jT_xistore_n (v := (0, 1)) (LN := [(3, (0, 1)), (4, (0, 5)), (0, (4, 0)), (1, (0, x1)), (2, (0, 40))]) (pcN := 66) jI_267_65 rfl rfl rfl rfl ?_
  refine jT_xiinc (x := 5) (z := 6) (LN := [(4, (0, 6)), (3, (0, 1)), (0, (4, 0)), (1, (0, x1)), (2, (0, 40))]) (pcN := 69) jI_267_66 rfl rfl (by decide) rfl rfl ?_
  refine jT_xgoto (pcN := 25) jI_267_69 rfl ?_
  refine jT_xiload (v := (0, 6)) (pcN := 27) jI_267_25 rfl rfl rfl ?_
  refine jT_xbipush (k := 6) (pcN := 29) jI_267_27 (by decide) rfl ?_
  refine jT_xicT (pcN := 72) jI_267_29 rfl (by decide +kernel) rfl ?_
  refine jT_xiload_n (v := (0, 1)) (pcN := 73) jI_267_72 rfl rfl rfl ?_
  exact jT_ret rfl (by decide) (by show 16 ≤ 16; decide) (by omega) (by omega) ⟨rfl, rfl, rfl⟩
theorem jI_268_0 : jmI (jm 268) 0 = (.lconst 1, 1) := by rfl
def jpA_3148 : List JC := [jzA_21, (100, [], jS0), jgh, jgh, jgh, jgh, jgh, jgh, jgh, jgh, jgh, jgh, jgh, jgh, jgh, jgh, (100, [], (jenc 1))]
theorem jI_268_4 : jmI (jm 268) 4 = (.astore_n 3, 1) := by rfl
theorem jI_268_5 : jmI (jm 268) 5 = (.iconst 0, 1) := by rfl
theorem jI_268_6 : jmI (jm 268) 6 = (.istore 4, 2) := by rfl
theorem jI_268_8 : jmI (jm 268) 8 = (.iload 4, 2) := by rfl
theorem jI_268_10 : jmI (jm 268) 10 = (.bipush 6, 2) := by rfl
theorem jI_268_12 : jmI (jm 268) 12 = (.if_icmp .ge 51, 3) := by rfl
theorem jI_268_15 : jmI (jm 268) 15 = (.iload_n 2, 1) := by rfl
theorem jI_268_16 : jmI (jm 268) 16 = (.aload_n 0, 1) := by rfl
theorem jI_268_17 : jmI (jm 268) 17 = (.getfield 9, 3) := by rfl
theorem jI_268_20 : jmI (jm 268) 20 = (.bipush 7, 2) := by rfl
theorem jI_268_22 : jmI (jm 268) 22 = (.iload_n 1, 1) := by rfl
theorem jI_268_23 : jmI (jm 268) 23 = (.imul, 1) := by rfl
theorem jI_268_24 : jmI (jm 268) 24 = (.iload 4, 2) := by rfl
theorem jI_268_26 : jmI (jm 268) 26 = (.iadd, 1) := by rfl
theorem jI_268_27 : jmI (jm 268) 27 = (.iaload, 1) := by rfl
theorem jI_268_28 : jmI (jm 268) 28 = (.imul, 1) := by rfl
theorem jI_268_29 : jmI (jm 268) 29 = (.istore 5, 2) := by rfl
theorem jI_268_31 : jmI (jm 268) 31 = (.iload 5, 2) := by rfl
theorem jI_268_33 : jmI (jm 268) 33 = (.ifCond .le 24, 3) := by rfl
theorem jI_268_57 : jmI (jm 268) 57 = (.iinc 4 1, 3) := by rfl
theorem jI_268_60 : jmI (jm 268) 60 = (.goto (-52), 3) := by rfl
theorem jI_268_63 : jmI (jm 268) 63 = (.aload_n 3, 1) := by rfl
theorem jA_268_802 {xs : List Int} {d : Nat} {x1 : Int} (h_x1 : 0 ≤ x1 ∧ x1 ≤ 7) : jT xs (d + 2) 268 16 0 [(0, (4, 0)), (1, (0, x1)), (2, (0, 1))] [] jpA_1519 1 56 (fun k v hsN => k = 0 ∧ v = (4, 16) ∧ hsN = jpA_1519 ++ [(100, [], (jenc 1))]) := by
  refine jT_xlconst (z := 1) (pcN := 1) jI_268_0 rfl rfl ?_
  refine jT_fA [] 16 (y := 178) (pcN := 4) (dC := 1) (bc1 := 1) (bc2 := 56) (c1 := 0) (c2 := 0) (as := [(1, 1)]) (asC := [(1, 1)]) (LN := [(0, (4, 0)), (1, (0, x1)), (2, (0, 1))]) (stN := []) (hsC := []) (ex := [(100, [], (jenc 1))]) (v := (4, 0)) (st2 := [(4, 16)]) (hs2 := jpA_3148) (jT_big (d := 0) (v := 1) (by omega) (by omega)) (by rfl) (by rfl) (by decide +kernel) (by rfl) (by rfl) (by omega) (by omega) (by omega) (by omega) rfl (by decide +kernel) ?_
  refine jT_xastore_n (v := (4, 16)) (LN := [(3, (4, 16)), (0, (4, 0)), (1, (0, x1)), (2, (0, 1))]) (pcN := 5) jI_268_4 rfl rfl rfl rfl ?_
  refine jT_xiconst (k := 0) (pcN := 6) jI_268_5 rfl ?_
  refine jT_xistore (v := (0, 0)) (LN := [(4, (0, 0)), (3, (4, 16)), (0, (4, 0)), (1, (0, x1)), (2, (0, 1))]) (pcN := 8) jI_268_6 rfl rfl rfl rfl ?_
  refine jT_xiload (v := (0, 0)) (pcN := 10) jI_268_8 rfl rfl rfl ?_
  refine jT_xbipush (k := 6) (pcN := 12) jI_268_10 (by decide) rfl ?_
  refine jT_xicF (t := 63) (pcN := 15) jI_268_12 rfl (by decide +kernel) rfl rfl ?_
  refine jT_xiload_n (v := (0, 1)) (pcN := 16) jI_268_15 rfl rfl rfl ?_
  refine jT_xaload_n (v := (4, 0)) (pcN := 17) jI_268_16 rfl rfl rfl ?_
  refine jT_xgetf (a := 0) (t := 1) (ci := 14) (fi := 1) (c := jzA_21) (v := (4, 1)) (pcN := 20) jI_268_17 rfl rfl rfl rfl rfl rfl rfl ?_
  refine jT_xbipush (k := 7) (pcN := 22) jI_268_20 (by decide) rfl ?_
  refine jT_xiload_n (v := (0, x1)) (pcN := 23) jI_268_22 rfl rfl rfl ?_
  refine jT_ximul (x := 7) (y := x1) (z := 7 * x1) (pcN := 24) jI_268_23 rfl (rfl) rfl ?_
  refine jT_xiload (v := (0, 0)) (pcN := 26) jI_268_24 rfl rfl rfl ?_
  refine jT_xiadd (x := 7 * x1) (y := 0) (z := 7 * x1) (pcN := 27) jI_268_26 rfl (by omega) rfl ?_
  refine jT_iald (x := 0) (a := 1) (j := (7 * x1).toNat) (fs := []) (X := jS0) (by rfl) (by rfl) (by rfl) (jw_nn (by omega) (by omega)) (jS0_r0 (by omega) (by omega)) ?_
  refine jT_eq (LN := [(4, (0, 0)), (3, (4, 16)), (0, (4, 0)), (1, (0, x1)), (2, (0, 1))]) (stN := [(0, 0), (0, 1)]) (hsN := jpA_3148) rfl rfl rfl ?_
  refine jT_ximul (x := 1) (y := 0) (z := 0) (pcN := 29) jI_268_28 rfl (by decide) rfl ?_
  refine jT_xistore (v := (0, 0)) (LN := [(5, (0, 0)), (4, (0, 0)), (3, (4, 16)), (0, (4, 0)), (1, (0, x1)), (2, (0, 1))]) (pcN := 31) jI_268_29 rfl rfl rfl rfl ?_
  refine jT_xiload (v := (0, 0)) (pcN := 33) jI_268_31 rfl rfl rfl ?_
  refine jT_xifT (pcN := 57) jI_268_33 rfl (by decide +kernel) rfl ?_
  refine jT_xiinc (x := 0) (z := 1) (LN := [(4, (0, 1)), (5, (0, 0)), (3, (4, 16)), (0, (4, 0)), (1, (0, x1)), (2, (0, 1))]) (pcN := 60) jI_268_57 rfl rfl (by decide) rfl rfl ?_
  refine jT_xgoto (pcN := 8) jI_268_60 rfl ?_
  refine jT_xiload (v := (0, 1)) (pcN := 10) jI_268_8 rfl rfl rfl ?_
  refine jT_xbipush (k := 6) (pcN := 12) jI_268_10 (by decide) rfl ?_
  refine jT_xicF (t := 63) (pcN := 15) jI_268_12 rfl (by decide +kernel) rfl rfl ?_
  refine jT_xiload_n (v := (0, 1)) (pcN := 16) jI_268_15 rfl rfl rfl ?_
  refine jT_xaload_n (v := (4, 0)) (pcN := 17) jI_268_16 rfl rfl rfl ?_
  refine jT_xgetf (a := 0) (t := 1) (ci := 14) (fi := 1) (c := jzA_21) (v := (4, 1)) (pcN := 20) jI_268_17 rfl rfl rfl rfl rfl rfl rfl ?_
  refine jT_xbipush (k := 7) (pcN := 22) jI_268_20 (by decide) rfl ?_
  refine jT_xiload_n (v := (0, x1)) (pcN := 23) jI_268_22 rfl rfl rfl ?_
  refine jT_ximul (x := 7) (y := x1) (z := 7 * x1) (pcN := 24) jI_268_23 rfl (rfl) rfl ?_
  refine jT_xiload (v := (0, 1)) (pcN := 26) jI_268_24 rfl rfl rfl ?_
  refine jT_xiadd (x := 7 * x1) (y := 1) (z := 7 * x1 + 1) (pcN := 27) jI_268_26 rfl (by omega) rfl ?_
  refine jT_iald (x := 0) (a := 1) (j := (7 * x1 + 1).toNat) (fs := []) (X := jS0) (by rfl) (by rfl) (by rfl) (jw_nn (by omega) (by omega)) (jS0_r1 (by omega) (by omega)) ?_
  refine jT_eq (LN := [(4, (0, 1)), (5, (0, 0)), (3, (4, 16)), (0, (4, 0)), (1, (0, x1)), (2, (0, 1))]) (stN := [(0, 0), (0, 1)]) (hsN := jpA_3148) rfl rfl rfl ?_
  refine jT_ximul (x := 1) (y := 0) (z := 0) (pcN := 29) jI_268_28 rfl (by decide) rfl ?_
  refine jT_xistore (v := (0, 0)) (LN := [(5, (0, 0)), (4, (0, 1)), (3, (4, 16)), (0, (4, 0)), (1, (0, x1)), (2, (0, 1))]) (pcN := 31) jI_268_29 rfl rfl rfl rfl ?_
  refine jT_xiload (v := (0, 0)) (pcN := 33) jI_268_31 rfl rfl rfl ?_
  refine jT_xifT (pcN := 57) jI_268_33 rfl (by decide +kernel) rfl ?_
  refine jT_xiinc (x := 1) (z := 2) (LN := [(4, (0, 2)), (5, (0, 0)), (3, (4, 16)), (0, (4, 0)), (1, (0, x1)), (2, (0, 1))]) (pcN := 60) jI_268_57 rfl rfl (by decide) rfl rfl ?_
  refine jT_xgoto (pcN := 8) jI_268_60 rfl ?_
  refine jT_xiload (v := (0, 2)) (pcN := 10) jI_268_8 rfl rfl rfl ?_
  refine jT_xbipush (k := 6) (pcN := 12) jI_268_10 (by decide) rfl ?_
  refine jT_xicF (t := 63) (pcN := 15) jI_268_12 rfl (by decide +kernel) rfl rfl ?_
  refine jT_xiload_n (v := (0, 1)) (pcN := 16) jI_268_15 rfl rfl rfl ?_
  refine jT_xaload_n (v := (4, 0)) (pcN := 17) jI_268_16 rfl rfl rfl ?_
  refine jT_xgetf (a := 0) (t := 1) (ci := 14) (fi := 1) (c := jzA_21) (v := (4, 1)) (pcN := 20) jI_268_17 rfl rfl rfl rfl rfl rfl rfl ?_
  refine jT_xbipush (k := 7) (pcN := 22) jI_268_20 (by decide) rfl ?_
  refine jT_xiload_n (v := (0, x1)) (pcN := 23) jI_268_22 rfl rfl rfl ?_
  refine jT_ximul (x := 7) (y := x1) (z := 7 * x1) (pcN := 24) jI_268_23 rfl (rfl) rfl ?_
  refine jT_xiload (v := (0, 2)) (pcN := 26) jI_268_24 rfl rfl rfl ?_
  refine jT_xiadd (x := 7 * x1) (y := 2) (z := 7 * x1 + 2) (pcN := 27) jI_268_26 rfl (by omega) rfl ?_
  refine jT_iald (x := 0) (a := 1) (j := (7 * x1 + 2).toNat) (fs := []) (X := jS0) (by rfl) (by rfl) (by rfl) (jw_nn (by omega) (by omega)) (jS0_r2 (by omega) (by omega)) ?_
  refine jT_eq (LN := [(4, (0, 2)), (5, (0, 0)), (3, (4, 16)), (0, (4, 0)), (1, (0, x1)), (2, (0, 1))]) (stN := [(0, 0), (0, 1)]) (hsN := jpA_3148) rfl rfl rfl ?_
  refine jT_ximul (x := 1) (y := 0) (z := 0) (pcN := 29) jI_268_28 rfl (by decide) rfl ?_
  refine jT_xistore (v := (0, 0)) (LN := [(5, (0, 0)), (4, (0, 2)), (3, (4, 16)), (0, (4, 0)), (1, (0, x1)), (2, (0, 1))]) (pcN := 31) jI_268_29 rfl rfl rfl rfl ?_
  refine jT_xiload (v := (0, 0)) (pcN := 33) jI_268_31 rfl rfl rfl ?_
  refine jT_xifT (pcN := 57) jI_268_33 rfl (by decide +kernel) rfl ?_
  refine jT_xiinc (x := 2) (z := 3) (LN := [(4, (0, 3)), (5, (0, 0)), (3, (4, 16)), (0, (4, 0)), (1, (0, x1)), (2, (0, 1))]) (pcN := 60) jI_268_57 rfl rfl (by decide) rfl rfl ?_
  refine jT_xgoto (pcN := 8) jI_268_60 rfl ?_
  refine jT_xiload (v := (0, 3)) (pcN := 10) jI_268_8 rfl rfl rfl ?_
  refine jT_xbipush (k := 6) (pcN := 12) jI_268_10 (by decide) rfl ?_
  refine jT_xicF (t := 63) (pcN := 15) jI_268_12 rfl (by decide +kernel) rfl rfl ?_
  refine jT_xiload_n (v := (0, 1)) (pcN := 16) jI_268_15 rfl rfl rfl ?_
  refine jT_xaload_n (v := (4, 0)) (pcN := 17) jI_268_16 rfl rfl rfl ?_
  refine jT_xgetf (a := 0) (t := 1) (ci := 14) (fi := 1) (c := jzA_21) (v := (4, 1)) (pcN := 20) jI_268_17 rfl rfl rfl rfl rfl rfl rfl ?_
  refine jT_xbipush (k := 7) (pcN := 22) jI_268_20 (by decide) rfl ?_
  refine jT_xiload_n (v := (0, x1)) (pcN := 23) jI_268_22 rfl rfl rfl ?_
  refine jT_ximul (x := 7) (y := x1) (z := 7 * x1) (pcN := 24) jI_268_23 rfl (rfl) rfl ?_
  refine jT_xiload (v := (0, 3)) (pcN := 26) jI_268_24 rfl rfl rfl ?_
  refine jT_xiadd (x := 7 * x1) (y := 3) (z := 7 * x1 + 3) (pcN := 27) jI_268_26 rfl (by omega) rfl ?_
  refine jT_iald (x := 0) (a := 1) (j := (7 * x1 + 3).toNat) (fs := []) (X := jS0) (by rfl) (by rfl) (by rfl) (jw_nn (by omega) (by omega)) (jS0_r3 (by omega) (by omega)) ?_
  refine jT_eq (LN := [(4, (0, 3)), (5, (0, 0)), (3, (4, 16)), (0, (4, 0)), (1, (0, x1)), (2, (0, 1))]) (stN := [(0, 0), (0, 1)]) (hsN := jpA_3148) rfl rfl rfl ?_
  refine jT_ximul (x := 1) (y := 0) (z := 0) (pcN := 29) jI_268_28 rfl (by decide) rfl ?_
  refine jT_xistore (v := (0, 0)) (LN := [(5, (0, 0)), (4, (0, 3)), (3, (4, 16)), (0, (4, 0)), (1, (0, x1)), (2, (0, 1))]) (pcN := 31) jI_268_29 rfl rfl rfl rfl ?_
  refine jT_xiload (v := (0, 0)) (pcN := 33) jI_268_31 rfl rfl rfl ?_
  refine jT_xifT (pcN := 57) jI_268_33 rfl (by decide +kernel) rfl ?_
  refine jT_xiinc (x := 3) (z := 4) (LN := [(4, (0, 4)), (5, (0, 0)), (3, (4, 16)), (0, (4, 0)), (1, (0, x1)), (2, (0, 1))]) (pcN := 60) jI_268_57 rfl rfl (by decide) rfl rfl ?_
  refine jT_xgoto (pcN := 8) jI_268_60 rfl ?_
  refine jT_xiload (v := (0, 4)) (pcN := 10) jI_268_8 rfl rfl rfl ?_
  refine jT_xbipush (k := 6) (pcN := 12) jI_268_10 (by decide) rfl ?_
  refine jT_xicF (t := 63) (pcN := 15) jI_268_12 rfl (by decide +kernel) rfl rfl ?_
  refine jT_xiload_n (v := (0, 1)) (pcN := 16) jI_268_15 rfl rfl rfl ?_
  refine jT_xaload_n (v := (4, 0)) (pcN := 17) jI_268_16 rfl rfl rfl ?_
  refine jT_xgetf (a := 0) (t := 1) (ci := 14) (fi := 1) (c := jzA_21) (v := (4, 1)) (pcN := 20) jI_268_17 rfl rfl rfl rfl rfl rfl rfl ?_
  refine jT_xbipush (k := 7) (pcN := 22) jI_268_20 (by decide) rfl ?_
  refine jT_xiload_n (v := (0, x1)) (pcN := 23) jI_268_22 rfl rfl rfl ?_
  refine jT_ximul (x := 7) (y := x1) (z := 7 * x1) (pcN := 24) jI_268_23 rfl (rfl) rfl ?_
  refine jT_xiload (v := (0, 4)) (pcN := 26) jI_268_24 rfl rfl rfl ?_
  refine jT_xiadd (x := 7 * x1) (y := 4) (z := 7 * x1 + 4) (pcN := 27) jI_268_26 rfl (by omega) rfl ?_
  refine jT_iald (x := 0) (a := 1) (j := (7 * x1 + 4).toNat) (fs := []) (X := jS0) (by rfl) (by rfl) (by rfl) (jw_nn (by omega) (by omega)) (jS0_r4 (by omega) (by omega)) ?_
  refine jT_eq (LN := [(4, (0, 4)), (5, (0, 0)), (3, (4, 16)), (0, (4, 0)), (1, (0, x1)), (2, (0, 1))]) (stN := [(0, 0), (0, 1)]) (hsN := jpA_3148) rfl rfl rfl ?_
  refine jT_ximul (x := 1) (y := 0) (z := 0) (pcN := 29) jI_268_28 rfl (by decide) rfl ?_
  refine jT_xistore (v := (0, 0)) (LN := [(5, (0, 0)), (4, (0, 4)), (3, (4, 16)), (0, (4, 0)), (1, (0, x1)), (2, (0, 1))]) (pcN := 31) jI_268_29 rfl rfl rfl rfl ?_
  refine jT_xiload (v := (0, 0)) (pcN := 33) jI_268_31 rfl rfl rfl ?_
  refine jT_xifT (pcN := 57) jI_268_33 rfl (by decide +kernel) rfl ?_
  refine jT_xiinc (x := 4) (z := 5) (LN := [(4, (0, 5)), (5, (0, 0)), (3, (4, 16)), (0, (4, 0)), (1, (0, x1)), (2, (0, 1))]) (pcN := 60) jI_268_57 rfl rfl (by decide) rfl rfl ?_
  refine jT_xgoto (pcN := 8) jI_268_60 rfl ?_
  refine jT_xiload (v := (0, 5)) (pcN := 10) jI_268_8 rfl rfl rfl ?_
  refine jT_xbipush (k := 6) (pcN := 12) jI_268_10 (by decide) rfl ?_
  refine jT_xicF (t := 63) (pcN := 15) jI_268_12 rfl (by decide +kernel) rfl rfl ?_
  refine jT_xiload_n (v := (0, 1)) (pcN := 16) jI_268_15 rfl rfl rfl ?_
  refine jT_xaload_n (v := (4, 0)) (pcN := 17) jI_268_16 rfl rfl rfl ?_
  refine jT_xgetf (a := 0) (t := 1) (ci := 14) (fi := 1) (c := jzA_21) (v := (4, 1)) (pcN := 20) jI_268_17 rfl rfl rfl rfl rfl rfl rfl ?_
  refine jT_xbipush (k := 7) (pcN := 22) jI_268_20 (by decide) rfl ?_
  refine jT_xiload_n (v := (0, x1)) (pcN := 23) jI_268_22 rfl rfl rfl ?_
  refine jT_ximul (x := 7) (y := x1) (z := 7 * x1) (pcN := 24) jI_268_23 rfl (rfl) rfl ?_
  refine jT_xiload (v := (0, 5)) (pcN := 26) jI_268_24 rfl rfl rfl ?_
  refine jT_xiadd (x := 7 * x1) (y := 5) (z := 7 * x1 + 5) (pcN := 27) jI_268_26 rfl (by omega) rfl ?_
  refine jT_iald (x := 0) (a := 1) (j := (7 * x1 + 5).toNat) (fs := []) (X := jS0) (by rfl) (by rfl) (by rfl) (jw_nn (by omega) (by omega)) (jS0_r5 (by omega) (by omega)) ?_
  refine jT_eq (LN := [(4, (0, 5)), (5, (0, 0)), (3, (4, 16)), (0, (4, 0)), (1, (0, x1)), (2, (0, 1))]) (stN := [(0, 0), (0, 1)]) (hsN := jpA_3148) rfl rfl rfl ?_
  refine jT_ximul (x := 1) (y := 0) (z := 0) (pcN := 29) jI_268_28 rfl (by decide) rfl ?_
  refine jT_xistore (v := (0, 0)) (LN := [(5, (0, 0)), (4, (0, 5)), (3, (4, 16)), (0, (4, 0)), (1, (0, x1)), (2, (0, 1))]) (pcN := 31) jI_268_29 rfl rfl rfl rfl ?_
  refine jT_xiload (v := (0, 0)) (pcN := 33) jI_268_31 rfl rfl rfl ?_
  refine jT_xifT (pcN := 57) jI_268_33 rfl (by decide +kernel) rfl ?_
  refine jT_xiinc (x := 5) (z := 6) (LN := [(4, (0, 6)), (5, (0, 0)), (3, (4, 16)), (0, (4, 0)), (1, (0, x1)), (2, (0, 1))]) (pcN := 60) jI_268_57 rfl rfl (by decide) rfl rfl ?_
  refine jT_xgoto (pcN := 8) jI_268_60 rfl ?_
  refine jT_xiload (v := (0, 6)) (pcN := 10) jI_268_8 rfl rfl rfl ?_
  refine jT_xbipush (k := 6) (pcN := 12) jI_268_10 (by decide) rfl ?_
  refine jT_xicT (pcN := 63) jI_268_12 rfl (by decide +kernel) rfl ?_
  refine jT_xaload_n (v := (4, 16)) (pcN := 64) jI_268_63 rfl rfl rfl ?_
  exact jT_ret rfl (by decide) (by show 16 ≤ 17; decide) (by omega) (by omega) ⟨rfl, rfl, rfl⟩
theorem jA_268_803 {xs : List Int} {d : Nat} {x1 : Int} (h_x1 : 0 ≤ x1 ∧ x1 ≤ 7) : jT xs (d + 2) 268 16 0 [(0, (4, 0)), (1, (0, x1)), (2, (0, (-1)))] [] jpA_1519 1 56 (fun k v hsN => k = 0 ∧ v = (4, 16) ∧ hsN = jpA_1519 ++ [(100, [], (jenc 1))]) := by
  refine jT_xlconst (z := 1) (pcN := 1) jI_268_0 rfl rfl ?_
  refine jT_fA [] 16 (y := 178) (pcN := 4) (dC := 1) (bc1 := 1) (bc2 := 56) (c1 := 0) (c2 := 0) (as := [(1, 1)]) (asC := [(1, 1)]) (LN := [(0, (4, 0)), (1, (0, x1)), (2, (0, (-1)))]) (stN := []) (hsC := []) (ex := [(100, [], (jenc 1))]) (v := (4, 0)) (st2 := [(4, 16)]) (hs2 := jpA_3148) (jT_big (d := 0) (v := 1) (by omega) (by omega)) (by rfl) (by rfl) (by decide +kernel) (by rfl) (by rfl) (by omega) (by omega) (by omega) (by omega) rfl (by decide +kernel) ?_
  refine jT_xastore_n (v := (4, 16)) (LN := [(3, (4, 16)), (0, (4, 0)), (1, (0, x1)), (2, (0, (-1)))]) (pcN := 5) jI_268_4 rfl rfl rfl rfl ?_
  refine jT_xiconst (k := 0) (pcN := 6) jI_268_5 rfl ?_
  refine jT_xistore (v := (0, 0)) (LN := [(4, (0, 0)), (3, (4, 16)), (0, (4, 0)), (1, (0, x1)), (2, (0, (-1)))]) (pcN := 8) jI_268_6 rfl rfl rfl rfl ?_
  refine jT_xiload (v := (0, 0)) (pcN := 10) jI_268_8 rfl rfl rfl ?_
  refine jT_xbipush (k := 6) (pcN := 12) jI_268_10 (by decide) rfl ?_
  refine jT_xicF (t := 63) (pcN := 15) jI_268_12 rfl (by decide +kernel) rfl rfl ?_
  refine jT_xiload_n (v := (0, (-1))) (pcN := 16) jI_268_15 rfl rfl rfl ?_
  refine jT_xaload_n (v := (4, 0)) (pcN := 17) jI_268_16 rfl rfl rfl ?_
  refine jT_xgetf (a := 0) (t := 1) (ci := 14) (fi := 1) (c := jzA_21) (v := (4, 1)) (pcN := 20) jI_268_17 rfl rfl rfl rfl rfl rfl rfl ?_
  refine jT_xbipush (k := 7) (pcN := 22) jI_268_20 (by decide) rfl ?_
  refine jT_xiload_n (v := (0, x1)) (pcN := 23) jI_268_22 rfl rfl rfl ?_
  refine jT_ximul (x := 7) (y := x1) (z := 7 * x1) (pcN := 24) jI_268_23 rfl (rfl) rfl ?_
  refine jT_xiload (v := (0, 0)) (pcN := 26) jI_268_24 rfl rfl rfl ?_
  refine jT_xiadd (x := 7 * x1) (y := 0) (z := 7 * x1) (pcN := 27) jI_268_26 rfl (by omega) rfl ?_
  refine jT_iald (x := 0) (a := 1) (j := (7 * x1).toNat) (fs := []) (X := jS0) (by rfl) (by rfl) (by rfl) (jw_nn (by omega) (by omega)) (jS0_r0 (by omega) (by omega)) ?_
  refine jT_eq (LN := [(4, (0, 0)), (3, (4, 16)), (0, (4, 0)), (1, (0, x1)), (2, (0, (-1)))]) (stN := [(0, 0), (0, (-1))]) (hsN := jpA_3148) rfl rfl rfl ?_
  refine jT_ximul (x := (-1)) (y := 0) (z := 0) (pcN := 29) jI_268_28 rfl (by decide) rfl ?_
  refine jT_xistore (v := (0, 0)) (LN := [(5, (0, 0)), (4, (0, 0)), (3, (4, 16)), (0, (4, 0)), (1, (0, x1)), (2, (0, (-1)))]) (pcN := 31) jI_268_29 rfl rfl rfl rfl ?_
  refine jT_xiload (v := (0, 0)) (pcN := 33) jI_268_31 rfl rfl rfl ?_
  refine jT_xifT (pcN := 57) jI_268_33 rfl (by decide +kernel) rfl ?_
  refine jT_xiinc (x := 0) (z := 1) (LN := [(4, (0, 1)), (5, (0, 0)), (3, (4, 16)), (0, (4, 0)), (1, (0, x1)), (2, (0, (-1)))]) (pcN := 60) jI_268_57 rfl rfl (by decide) rfl rfl ?_
  refine jT_xgoto (pcN := 8) jI_268_60 rfl ?_
  refine jT_xiload (v := (0, 1)) (pcN := 10) jI_268_8 rfl rfl rfl ?_
  refine jT_xbipush (k := 6) (pcN := 12) jI_268_10 (by decide) rfl ?_
  refine jT_xicF (t := 63) (pcN := 15) jI_268_12 rfl (by decide +kernel) rfl rfl ?_
  refine jT_xiload_n (v := (0, (-1))) (pcN := 16) jI_268_15 rfl rfl rfl ?_
  refine jT_xaload_n (v := (4, 0)) (pcN := 17) jI_268_16 rfl rfl rfl ?_
  refine jT_xgetf (a := 0) (t := 1) (ci := 14) (fi := 1) (c := jzA_21) (v := (4, 1)) (pcN := 20) jI_268_17 rfl rfl rfl rfl rfl rfl rfl ?_
  refine jT_xbipush (k := 7) (pcN := 22) jI_268_20 (by decide) rfl ?_
  refine jT_xiload_n (v := (0, x1)) (pcN := 23) jI_268_22 rfl rfl rfl ?_
  refine jT_ximul (x := 7) (y := x1) (z := 7 * x1) (pcN := 24) jI_268_23 rfl (rfl) rfl ?_
  refine jT_xiload (v := (0, 1)) (pcN := 26) jI_268_24 rfl rfl rfl ?_
  refine jT_xiadd (x := 7 * x1) (y := 1) (z := 7 * x1 + 1) (pcN := 27) jI_268_26 rfl (by omega) rfl ?_
  refine jT_iald (x := 0) (a := 1) (j := (7 * x1 + 1).toNat) (fs := []) (X := jS0) (by rfl) (by rfl) (by rfl) (jw_nn (by omega) (by omega)) (jS0_r1 (by omega) (by omega)) ?_
  refine jT_eq (LN := [(4, (0, 1)), (5, (0, 0)), (3, (4, 16)), (0, (4, 0)), (1, (0, x1)), (2, (0, (-1)))]) (stN := [(0, 0), (0, (-1))]) (hsN := jpA_3148) rfl rfl rfl ?_
  refine jT_ximul (x := (-1)) (y := 0) (z := 0) (pcN := 29) jI_268_28 rfl (by decide) rfl ?_
  refine jT_xistore (v := (0, 0)) (LN := [(5, (0, 0)), (4, (0, 1)), (3, (4, 16)), (0, (4, 0)), (1, (0, x1)), (2, (0, (-1)))]) (pcN := 31) jI_268_29 rfl rfl rfl rfl ?_
  refine jT_xiload (v := (0, 0)) (pcN := 33) jI_268_31 rfl rfl rfl ?_
  refine jT_xifT (pcN := 57) jI_268_33 rfl (by decide +kernel) rfl ?_
  refine jT_xiinc (x := 1) (z := 2) (LN := [(4, (0, 2)), (5, (0, 0)), (3, (4, 16)), (0, (4, 0)), (1, (0, x1)), (2, (0, (-1)))]) (pcN := 60) jI_268_57 rfl rfl (by decide) rfl rfl ?_
  refine jT_xgoto (pcN := 8) jI_268_60 rfl ?_
  refine jT_xiload (v := (0, 2)) (pcN := 10) jI_268_8 rfl rfl rfl ?_
  refine jT_xbipush (k := 6) (pcN := 12) jI_268_10 (by decide) rfl ?_
  refine jT_xicF (t := 63) (pcN := 15) jI_268_12 rfl (by decide +kernel) rfl rfl ?_
  refine jT_xiload_n (v := (0, (-1))) (pcN := 16) jI_268_15 rfl rfl rfl ?_
  refine jT_xaload_n (v := (4, 0)) (pcN := 17) jI_268_16 rfl rfl rfl ?_
  refine jT_xgetf (a := 0) (t := 1) (ci := 14) (fi := 1) (c := jzA_21) (v := (4, 1)) (pcN := 20) jI_268_17 rfl rfl rfl rfl rfl rfl rfl ?_
  refine jT_xbipush (k := 7) (pcN := 22) jI_268_20 (by decide) rfl ?_
  refine jT_xiload_n (v := (0, x1)) (pcN := 23) jI_268_22 rfl rfl rfl ?_
  refine jT_ximul (x := 7) (y := x1) (z := 7 * x1) (pcN := 24) jI_268_23 rfl (rfl) rfl ?_
  refine jT_xiload (v := (0, 2)) (pcN := 26) jI_268_24 rfl rfl rfl ?_
  refine jT_xiadd (x := 7 * x1) (y := 2) (z := 7 * x1 + 2) (pcN := 27) jI_268_26 rfl (by omega) rfl ?_
  refine jT_iald (x := 0) (a := 1) (j := (7 * x1 + 2).toNat) (fs := []) (X := jS0) (by rfl) (by rfl) (by rfl) (jw_nn (by omega) (by omega)) (jS0_r2 (by omega) (by omega)) ?_
  refine jT_eq (LN := [(4, (0, 2)), (5, (0, 0)), (3, (4, 16)), (0, (4, 0)), (1, (0, x1)), (2, (0, (-1)))]) (stN := [(0, 0), (0, (-1))]) (hsN := jpA_3148) rfl rfl rfl ?_
  refine jT_ximul (x := (-1)) (y := 0) (z := 0) (pcN := 29) jI_268_28 rfl (by decide) rfl ?_
  refine jT_xistore (v := (0, 0)) (LN := [(5, (0, 0)), (4, (0, 2)), (3, (4, 16)), (0, (4, 0)), (1, (0, x1)), (2, (0, (-1)))]) (pcN := 31) jI_268_29 rfl rfl rfl rfl ?_
  refine jT_xiload (v := (0, 0)) (pcN := 33) jI_268_31 rfl rfl rfl ?_
  refine jT_xifT (pcN := 57) jI_268_33 rfl (by decide +kernel) rfl ?_
  refine jT_xiinc (x := 2) (z := 3) (LN := [(4, (0, 3)), (5, (0, 0)), (3, (4, 16)), (0, (4, 0)), (1, (0, x1)), (2, (0, (-1)))]) (pcN := 60) jI_268_57 rfl rfl (by decide) rfl rfl ?_
  refine jT_xgoto (pcN := 8) jI_268_60 rfl ?_
  refine jT_xiload (v := (0, 3)) (pcN := 10) jI_268_8 rfl rfl rfl ?_
  refine jT_xbipush (k := 6) (pcN := 12) jI_268_10 (by decide) rfl ?_
  refine jT_xicF (t := 63) (pcN := 15) jI_268_12 rfl (by decide +kernel) rfl rfl ?_
  refine jT_xiload_n (v := (0, (-1))) (pcN := 16) jI_268_15 rfl rfl rfl ?_
  refine jT_xaload_n (v := (4, 0)) (pcN := 17) jI_268_16 rfl rfl rfl ?_
  refine jT_xgetf (a := 0) (t := 1) (ci := 14) (fi := 1) (c := jzA_21) (v := (4, 1)) (pcN := 20) jI_268_17 rfl rfl rfl rfl rfl rfl rfl ?_
  refine jT_xbipush (k := 7) (pcN := 22) jI_268_20 (by decide) rfl ?_
  refine jT_xiload_n (v := (0, x1)) (pcN := 23) jI_268_22 rfl rfl rfl ?_
  refine jT_ximul (x := 7) (y := x1) (z := 7 * x1) (pcN := 24) jI_268_23 rfl (rfl) rfl ?_
  refine jT_xiload (v := (0, 3)) (pcN := 26) jI_268_24 rfl rfl rfl ?_
  refine jT_xiadd (x := 7 * x1) (y := 3) (z := 7 * x1 + 3) (pcN := 27) jI_268_26 rfl (by omega) rfl ?_
  refine jT_iald (x := 0) (a := 1) (j := (7 * x1 + 3).toNat) (fs := []) (X := jS0) (by rfl) (by rfl) (by rfl) (jw_nn (by omega) (by omega)) (jS0_r3 (by omega) (by omega)) ?_
  refine jT_eq (LN := [(4, (0, 3)), (5, (0, 0)), (3, (4, 16)), (0, (4, 0)), (1, (0, x1)), (2, (0, (-1)))]) (stN := [(0, 0), (0, (-1))]) (hsN := jpA_3148) rfl rfl rfl ?_
  refine jT_ximul (x := (-1)) (y := 0) (z := 0) (pcN := 29) jI_268_28 rfl (by decide) rfl ?_
  refine jT_xistore (v := (0, 0)) (LN := [(5, (0, 0)), (4, (0, 3)), (3, (4, 16)), (0, (4, 0)), (1, (0, x1)), (2, (0, (-1)))]) (pcN := 31) jI_268_29 rfl rfl rfl rfl ?_
  refine jT_xiload (v := (0, 0)) (pcN := 33) jI_268_31 rfl rfl rfl ?_
  refine jT_xifT (pcN := 57) jI_268_33 rfl (by decide +kernel) rfl ?_
  refine jT_xiinc (x := 3) (z := 4) (LN := [(4, (0, 4)), (5, (0, 0)), (3, (4, 16)), (0, (4, 0)), (1, (0, x1)), (2, (0, (-1)))]) (pcN := 60) jI_268_57 rfl rfl (by decide) rfl rfl ?_
  refine jT_xgoto (pcN := 8) jI_268_60 rfl ?_
  refine jT_xiload (v := (0, 4)) (pcN := 10) jI_268_8 rfl rfl rfl ?_
  refine jT_xbipush (k := 6) (pcN := 12) jI_268_10 (by decide) rfl ?_
  refine jT_xicF (t := 63) (pcN := 15) jI_268_12 rfl (by decide +kernel) rfl rfl ?_
  refine jT_xiload_n (v := (0, (-1))) (pcN := 16) jI_268_15 rfl rfl rfl ?_
  refine jT_xaload_n (v := (4, 0)) (pcN := 17) jI_268_16 rfl rfl rfl ?_
  refine jT_xgetf (a := 0) (t := 1) (ci := 14) (fi := 1) (c := jzA_21) (v := (4, 1)) (pcN := 20) jI_268_17 rfl rfl rfl rfl rfl rfl rfl ?_
  refine jT_xbipush (k := 7) (pcN := 22) jI_268_20 (by decide) rfl ?_
  refine jT_xiload_n (v := (0, x1)) (pcN := 23) jI_268_22 rfl rfl rfl ?_
  refine jT_ximul (x := 7) (y := x1) (z := 7 * x1) (pcN := 24) jI_268_23 rfl (rfl) rfl ?_
  refine jT_xiload (v := (0, 4)) (pcN := 26) jI_268_24 rfl rfl rfl ?_
  refine jT_xiadd (x := 7 * x1) (y := 4) (z := 7 * x1 + 4) (pcN := 27) jI_268_26 rfl (by omega) rfl ?_
  refine jT_iald (x := 0) (a := 1) (j := (7 * x1 + 4).toNat) (fs := []) (X := jS0) (by rfl) (by rfl) (by rfl) (jw_nn (by omega) (by omega)) (jS0_r4 (by omega) (by omega)) ?_
  refine jT_eq (LN := [(4, (0, 4)), (5, (0, 0)), (3, (4, 16)), (0, (4, 0)), (1, (0, x1)), (2, (0, (-1)))]) (stN := [(0, 0), (0, (-1))]) (hsN := jpA_3148) rfl rfl rfl ?_
  refine jT_ximul (x := (-1)) (y := 0) (z := 0) (pcN := 29) jI_268_28 rfl (by decide) rfl ?_
  refine jT_xistore (v := (0, 0)) (LN := [(5, (0, 0)), (4, (0, 4)), (3, (4, 16)), (0, (4, 0)), (1, (0, x1)), (2, (0, (-1)))]) (pcN := 31) jI_268_29 rfl rfl rfl rfl ?_
  refine jT_xiload (v := (0, 0)) (pcN := 33) jI_268_31 rfl rfl rfl ?_
  refine jT_xifT (pcN := 57) jI_268_33 rfl (by decide +kernel) rfl ?_
  refine jT_xiinc (x := 4) (z := 5) (LN := [(4, (0, 5)), (5, (0, 0)), (3, (4, 16)), (0, (4, 0)), (1, (0, x1)), (2, (0, (-1)))]) (pcN := 60) jI_268_57 rfl rfl (by decide) rfl rfl ?_
  refine jT_xgoto (pcN := 8) jI_268_60 rfl ?_
  refine jT_xiload (v := (0, 5)) (pcN := 10) jI_268_8 rfl rfl rfl ?_
  refine jT_xbipush (k := 6) (pcN := 12) jI_268_10 (by decide) rfl ?_
  refine jT_xicF (t := 63) (pcN := 15) jI_268_12 rfl (by decide +kernel) rfl rfl ?_
  refine jT_xiload_n (v := (0, (-1))) (pcN := 16) jI_268_15 rfl rfl rfl ?_
  refine jT_xaload_n (v := (4, 0)) (pcN := 17) jI_268_16 rfl rfl rfl ?_
  refine jT_xgetf (a := 0) (t := 1) (ci := 14) (fi := 1) (c := jzA_21) (v := (4, 1)) (pcN := 20) jI_268_17 rfl rfl rfl rfl rfl rfl rfl ?_
  refine jT_xbipush (k := 7) (pcN := 22) jI_268_20 (by decide) rfl ?_
  refine jT_xiload_n (v := (0, x1)) (pcN := 23) jI_268_22 rfl rfl rfl ?_
  refine jT_ximul (x := 7) (y := x1) (z := 7 * x1) (pcN := 24) jI_268_23 rfl (rfl) rfl ?_
  refine jT_xiload (v := (0, 5)) (pcN := 26) jI_268_24 rfl rfl rfl ?_
  refine jT_xiadd (x := 7 * x1) (y := 5) (z := 7 * x1 + 5) (pcN := 27) jI_268_26 rfl (by omega) rfl ?_
  refine jT_iald (x := 0) (a := 1) (j := (7 * x1 + 5).toNat) (fs := []) (X := jS0) (by rfl) (by rfl) (by rfl) (jw_nn (by omega) (by omega)) (jS0_r5 (by omega) (by omega)) ?_
  refine jT_eq (LN := [(4, (0, 5)), (5, (0, 0)), (3, (4, 16)), (0, (4, 0)), (1, (0, x1)), (2, (0, (-1)))]) (stN := [(0, 0), (0, (-1))]) (hsN := jpA_3148) rfl rfl rfl ?_
  refine jT_ximul (x := (-1)) (y := 0) (z := 0) (pcN := 29) jI_268_28 rfl (by decide) rfl ?_
  refine jT_xistore (v := (0, 0)) (LN := [(5, (0, 0)), (4, (0, 5)), (3, (4, 16)), (0, (4, 0)), (1, (0, x1)), (2, (0, (-1)))]) (pcN := 31) jI_268_29 rfl rfl rfl rfl ?_
  refine jT_xiload (v := (0, 0)) (pcN := 33) jI_268_31 rfl rfl rfl ?_
  refine jT_xifT (pcN := 57) jI_268_33 rfl (by decide +kernel) rfl ?_
  refine jT_xiinc (x := 5) (z := 6) (LN := [(4, (0, 6)), (5, (0, 0)), (3, (4, 16)), (0, (4, 0)), (1, (0, x1)), (2, (0, (-1)))]) (pcN := 60) jI_268_57 rfl rfl (by decide) rfl rfl ?_
  refine jT_xgoto (pcN := 8) jI_268_60 rfl ?_
  refine jT_xiload (v := (0, 6)) (pcN := 10) jI_268_8 rfl rfl rfl ?_
  refine jT_xbipush (k := 6) (pcN := 12) jI_268_10 (by decide) rfl ?_
  refine jT_xicT (pcN := 63) jI_268_12 rfl (by decide +kernel) rfl ?_
  refine jT_xaload_n (v := (4, 16)) (pcN := 64) jI_268_63 rfl rfl rfl ?_
  exact jT_ret rfl (by decide) (by show 16 ≤ 17; decide) (by omega) (by omega) ⟨rfl, rfl, rfl⟩
def jzA_3171 : JC := (14, [(0, 0), (4, 3), (4, 4), (4, 5), (4, 6), (0, 0), (4, 7), (0, 2), (4, 8), (4, 9), (1, 1), (4, 10), (0, 0), (4, 11), (0, 0), (0, 0), (0, 0), (0, 0), (0, 0), (0, 0), (0, 0), (4, 12), (4, 13), (4, 14), (4, 15), (4, 16), (4, 17), (0, 0)], [])
def jpA_3172 : List JC := [jzA_3171, (100, [], (jenc 1)), (100, [], (jenc 1)), jgh, jgh, jgh, jgh, (130, [], [1, 2]), jgh, jgh, jgh, jgh, jgh, jgh, jgh, jgh, jgh, jgh]
def jzA_3173 : JC := (14, [(0, 0), (4, 3), (4, 4), (4, 5), (4, 6), (0, 0), (4, 7), (0, 0), (4, 8), (4, 9), (1, 1), (4, 10), (0, 0), (4, 11), (0, 0), (0, 0), (0, 0), (0, 0), (0, 0), (0, 0), (0, 0), (4, 12), (4, 13), (4, 14), (4, 15), (4, 16), (4, 17), (0, 0)], [])
def jpA_3174 : List JC := [jzA_3173, (100, [], (jenc 1)), (100, [], (jenc 1)), jgh, jgh, jgh, jgh, (130, [], [(-1), (-1)]), jgh, jgh, jgh, jgh, jgh, jgh, jgh, jgh, jgh, jgh]
theorem jA_269_804 {xs : List Int} {d : Nat} : jT xs d 269 18 0 [(0, (4, 0)), (1, (4, 1)), (2, (4, 2))] [] jpA_3174 0 0 (fun k v hsN => k = 0 ∧ v = (9, 0) ∧ hsN = jpA_3172) := by
  refine jT_advK 13 (pcN := 19) (LN := [(0, (4, 0)), (1, (4, 1)), (2, (4, 2))]) (stN := []) (hsN := jpA_3172) (c1 := 0) (s1 := 0) (c2 := 0) (s2 := 0) (by decide +kernel) ?_ (by omega) (by omega)
  exact jT_ret rfl (by decide) (by show 18 ≤ 18; decide) (by omega) (by omega) ⟨rfl, rfl, rfl⟩
theorem jI_182_2 : jmI (jm 182) 2 = (.iaload, 1) := by rfl
theorem jI_182_5 : jmI (jm 182) 5 = (.iaload, 1) := by rfl
theorem jI_182_19 : jmI (jm 182) 19 = (.iaload, 1) := by rfl
theorem jI_182_30 : jmI (jm 182) 30 = (.iaload, 1) := by rfl
theorem jI_182_33 : jmI (jm 182) 33 = (.iaload, 1) := by rfl
theorem jA_182_805 {xs : List Int} {d : Nat} : jT xs d 182 2 0 [(0, (4, 0)), (1, (4, 1))] [] [(100, [], (jenc 1)), (100, [], (jenc 1))] 0 0 (fun k v hsN => k = 0 ∧ v = (0, 0) ∧ hsN = [(100, [], (jenc 1)), (100, [], (jenc 1))] ++ []) := by
  refine jT_advK 2 (pcN := 2) (LN := [(0, (4, 0)), (1, (4, 1))]) (stN := [(0, 1), (4, 0)]) (hsN := [(100, [], (jenc 1)), (100, [], (jenc 1))]) (c1 := 0) (s1 := 0) (c2 := 0) (s2 := 0) (by decide +kernel) ?_ (by omega) (by omega)
  refine jT_iald (x := 1) (a := 0) (j := 1) (fs := []) (X := (jenc 1)) (by rfl) (by rfl) (by rfl) (by rfl) (by decide +kernel) ?_
  refine jT_eq (LN := [(0, (4, 0)), (1, (4, 1))]) (stN := [(0, 1)]) (hsN := [(100, [], (jenc 1)), (100, [], (jenc 1))]) rfl rfl rfl ?_
  refine jT_advK 2 (pcN := 5) (LN := [(0, (4, 0)), (1, (4, 1))]) (stN := [(0, 1), (4, 1), (0, 1)]) (hsN := [(100, [], (jenc 1)), (100, [], (jenc 1))]) (c1 := 0) (s1 := 0) (c2 := 0) (s2 := 0) (by decide +kernel) ?_ (by omega) (by omega)
  refine jT_iald (x := 1) (a := 1) (j := 1) (fs := []) (X := (jenc 1)) (by rfl) (by rfl) (by rfl) (by rfl) (by decide +kernel) ?_
  refine jT_eq (LN := [(0, (4, 0)), (1, (4, 1))]) (stN := [(0, 1), (0, 1)]) (hsN := [(100, [], (jenc 1)), (100, [], (jenc 1))]) rfl rfl rfl ?_
  refine jT_advK 3 (pcN := 19) (LN := [(0, (4, 0)), (1, (4, 1))]) (stN := [(0, 1), (4, 0)]) (hsN := [(100, [], (jenc 1)), (100, [], (jenc 1))]) (c1 := 0) (s1 := 0) (c2 := 0) (s2 := 0) (by decide +kernel) ?_ (by omega) (by omega)
  refine jT_iald (x := 1) (a := 0) (j := 1) (fs := []) (X := (jenc 1)) (by rfl) (by rfl) (by rfl) (by rfl) (by decide +kernel) ?_
  refine jT_eq (LN := [(0, (4, 0)), (1, (4, 1))]) (stN := [(0, 1)]) (hsN := [(100, [], (jenc 1)), (100, [], (jenc 1))]) rfl rfl rfl ?_
  refine jT_advK 8 (pcN := 30) (LN := [(2, (0, 2)), (0, (4, 0)), (1, (4, 1))]) (stN := [(0, 2), (4, 0)]) (hsN := [(100, [], (jenc 1)), (100, [], (jenc 1))]) (c1 := 0) (s1 := 0) (c2 := 0) (s2 := 0) (by decide +kernel) ?_ (by omega) (by omega)
  refine jT_iald (x := 1) (a := 0) (j := 2) (fs := []) (X := (jenc 1)) (by rfl) (by rfl) (by rfl) (by rfl) (by decide +kernel) ?_
  refine jT_eq (LN := [(2, (0, 2)), (0, (4, 0)), (1, (4, 1))]) (stN := [(0, 1)]) (hsN := [(100, [], (jenc 1)), (100, [], (jenc 1))]) rfl rfl rfl ?_
  refine jT_advK 2 (pcN := 33) (LN := [(2, (0, 2)), (0, (4, 0)), (1, (4, 1))]) (stN := [(0, 2), (4, 1), (0, 1)]) (hsN := [(100, [], (jenc 1)), (100, [], (jenc 1))]) (c1 := 0) (s1 := 0) (c2 := 0) (s2 := 0) (by decide +kernel) ?_ (by omega) (by omega)
  refine jT_iald (x := 1) (a := 1) (j := 2) (fs := []) (X := (jenc 1)) (by rfl) (by rfl) (by rfl) (by rfl) (by decide +kernel) ?_
  refine jT_eq (LN := [(2, (0, 2)), (0, (4, 0)), (1, (4, 1))]) (stN := [(0, 1), (0, 1)]) (hsN := [(100, [], (jenc 1)), (100, [], (jenc 1))]) rfl rfl rfl ?_
  refine jT_advK 7 (pcN := 52) (LN := [(2, (0, 1)), (0, (4, 0)), (1, (4, 1))]) (stN := [(0, 0)]) (hsN := [(100, [], (jenc 1)), (100, [], (jenc 1))]) (c1 := 0) (s1 := 0) (c2 := 0) (s2 := 0) (by decide +kernel) ?_ (by omega) (by omega)
  exact jT_ret rfl (by decide) (by show 2 ≤ 2; decide) (by omega) (by omega) ⟨rfl, rfl, rfl⟩
theorem jI_266_11 : jmI (jm 266) 11 = (.aload_n 0, 1) := by rfl
theorem jI_266_12 : jmI (jm 266) 12 = (.aload_n 0, 1) := by rfl
theorem jI_266_13 : jmI (jm 266) 13 = (.iload_n 1, 1) := by rfl
theorem jI_266_14 : jmI (jm 266) 14 = (.bipush 40, 2) := by rfl
theorem jI_266_19 : jmI (jm 266) 19 = (.iconst 2, 1) := by rfl
theorem jI_266_23 : jmI (jm 266) 23 = (.ifCond .eq 5, 3) := by rfl
theorem jI_266_28 : jmI (jm 266) 28 = (.aload_n 0, 1) := by rfl
theorem jI_266_29 : jmI (jm 266) 29 = (.aload_n 0, 1) := by rfl
theorem jI_266_30 : jmI (jm 266) 30 = (.iload_n 1, 1) := by rfl
theorem jI_266_31 : jmI (jm 266) 31 = (.iconst 1, 1) := by rfl
def jpA_3190 : List JC := [jzA_21, (100, [], jS0), jgh, jgh, jgh, (130, [], [(-1), (-1)]), jgh, jgh, jgh, jgh, jgh, jgh, jgh, jgh, jgh, jgh, (100, [], (jenc 1))]
theorem jI_266_35 : jmI (jm 266) 35 = (.aload_n 0, 1) := by rfl
theorem jI_266_36 : jmI (jm 266) 36 = (.iload_n 1, 1) := by rfl
theorem jI_266_37 : jmI (jm 266) 37 = (.iconst (-1), 1) := by rfl
def jpA_3194 : List JC := [jzA_21, (100, [], jS0), jgh, jgh, jgh, (130, [], [(-1), (-1)]), jgh, jgh, jgh, jgh, jgh, jgh, jgh, jgh, jgh, jgh, (100, [], (jenc 1)), (100, [], (jenc 1))]
def jzA_3195 : JC := (14, [(0, 0), (4, 1), (4, 2), (4, 3), (4, 4), (0, 0), (4, 5), (0, 2), (4, 6), (4, 7), (1, 1), (4, 8), (0, 0), (4, 9), (0, 0), (0, 0), (0, 0), (0, 0), (0, 0), (0, 0), (0, 0), (4, 10), (4, 11), (4, 12), (4, 13), (4, 14), (4, 15), (0, 0)], [])
def jpA_3196 : List JC := [jzA_3195, (100, [], jS0), jgh, jgh, jgh, (130, [], [16, 17]), jgh, jgh, jgh, jgh, jgh, jgh, jgh, jgh, jgh, jgh, (100, [], (jenc 1)), (100, [], (jenc 1))]
theorem jI_266_44 : jmI (jm 266) 44 = (.aload_n 0, 1) := by rfl
theorem jI_266_45 : jmI (jm 266) 45 = (.getfield 25, 3) := by rfl
theorem jI_266_48 : jmI (jm 266) 48 = (.iconst 0, 1) := by rfl
theorem jI_266_49 : jmI (jm 266) 49 = (.aaload, 1) := by rfl
theorem jI_266_50 : jmI (jm 266) 50 = (.aload_n 0, 1) := by rfl
theorem jI_266_51 : jmI (jm 266) 51 = (.getfield 25, 3) := by rfl
theorem jI_266_54 : jmI (jm 266) 54 = (.iconst 1, 1) := by rfl
theorem jI_266_55 : jmI (jm 266) 55 = (.aaload, 1) := by rfl
theorem jI_266_59 : jmI (jm 266) 59 = (.ifCond .le 7, 3) := by rfl
theorem jI_266_66 : jmI (jm 266) 66 = (.iconst 0, 1) := by rfl
def jpA_3207 : List JC := [jzA_21, (100, [], jS0), jgh, jgh, jgh, (130, [], [(-1), (-1)]), jgh, jgh, jgh, jgh, jgh, jgh, jgh, jgh, jgh, jgh]
theorem jA_266_806 {xs : List Int} {d : Nat} {x1 : Int} (h_x1 : 0 ≤ x1 ∧ x1 ≤ 7) : jT xs (d + 3) 266 16 0 [(0, (4, 0)), (1, (0, x1))] [] jpA_3207 2 112 (fun k v hsN => k = 0 ∧ v = (0, 0) ∧ hsN = jpA_3196) := by
  refine jT_xaload_n (v := (4, 0)) (pcN := 1) jI_266_0 rfl rfl rfl ?_
  refine jT_xiload_n (v := (0, x1)) (pcN := 2) jI_266_1 rfl rfl rfl ?_
  refine jT_fR [] 16 (y := 188) (pcN := 5) (dC := 1) (bc1 := 0) (bc2 := 0) (c1 := 2) (c2 := 112) (as := [(0, x1)]) (asC := [(0, x1)]) (LN := [(0, (4, 0)), (1, (0, x1))]) (stN := [(4, 0)]) (hsC := []) (v := (0, 1)) (st2 := [(0, 1), (4, 0)]) (jA_188_13 (d := 0) (by omega)) (by rfl) (by rfl) (by decide +kernel) (by rfl) (by rfl) (by omega) (by omega) (by omega) (by omega) rfl ?_
  refine jT_fR [0, 1, 2, 3, 4, 5, 6, 7, 8, 9, 10, 11, 12, 13, 14, 15] 16 (y := 190) (pcN := 8) (dC := 1) (bc1 := 0) (bc2 := 0) (c1 := 2) (c2 := 112) (as := [(4, 0), (0, 1)]) (asC := [(4, 0), (0, 1)]) (LN := [(0, (4, 0)), (1, (0, x1))]) (stN := []) (hsC := jpA_22) (v := (0, 0)) (st2 := [(0, 0)]) (jA_190_39 (d := 0)) (by rfl) (by rfl) (by decide +kernel) (by rfl) (by rfl) (by omega) (by omega) (by omega) (by omega) rfl ?_
  refine jT_xifF (t := 26) (pcN := 11) jI_266_8 rfl (by decide +kernel) rfl rfl ?_
  refine jT_xaload_n (v := (4, 0)) (pcN := 12) jI_266_11 rfl rfl rfl ?_
  refine jT_xaload_n (v := (4, 0)) (pcN := 13) jI_266_12 rfl rfl rfl ?_
  refine jT_xiload_n (v := (0, x1)) (pcN := 14) jI_266_13 rfl rfl rfl ?_
  refine jT_xbipush (k := 40) (pcN := 16) jI_266_14 (by decide) rfl ?_
  refine jT_fR [0, 1, 2, 3, 4, 5, 6, 7, 8, 9, 10, 11, 12, 13, 14, 15] 16 (y := 267) (pcN := 19) (dC := 1) (bc1 := 0) (bc2 := 0) (c1 := 2) (c2 := 112) (as := [(4, 0), (0, x1), (0, 40)]) (asC := [(4, 0), (0, x1), (0, 40)]) (LN := [(0, (4, 0)), (1, (0, x1))]) (stN := [(4, 0)]) (hsC := jpA_1519) (v := (0, 1)) (st2 := [(0, 1), (4, 0)]) (jA_267_801 (d := 0) (by omega)) (by rfl) (by rfl) (by decide +kernel) (by rfl) (by rfl) (by omega) (by omega) (by omega) (by omega) rfl ?_
  refine jT_xiconst (k := 2) (pcN := 20) jI_266_19 rfl ?_
  refine jT_fR [0] 16 (y := 191) (pcN := 23) (dC := 0) (bc1 := 0) (bc2 := 0) (c1 := 2) (c2 := 112) (as := [(4, 0), (0, 1), (0, 2)]) (asC := [(4, 0), (0, 1), (0, 2)]) (LN := [(0, (4, 0)), (1, (0, x1))]) (stN := []) (hsC := [jgh]) (v := (0, 0)) (st2 := [(0, 0)]) (jA_191_49 (d := 0)) (by rfl) (by rfl) (by decide +kernel) (by rfl) (by rfl) (by omega) (by omega) (by omega) (by omega) rfl ?_
  refine jT_xifT (pcN := 28) jI_266_23 rfl (by decide +kernel) rfl ?_
  refine jT_xaload_n (v := (4, 0)) (pcN := 29) jI_266_28 rfl rfl rfl ?_
  refine jT_xaload_n (v := (4, 0)) (pcN := 30) jI_266_29 rfl rfl rfl ?_
  refine jT_xiload_n (v := (0, x1)) (pcN := 31) jI_266_30 rfl rfl rfl ?_
  refine jT_xiconst (k := 1) (pcN := 32) jI_266_31 rfl ?_
  refine jT_fA [0, 1, 2, 3, 4, 5, 6, 7, 8, 9, 10, 11, 12, 13, 14, 15] 16 (y := 268) (pcN := 35) (dC := 2) (bc1 := 1) (bc2 := 56) (c1 := 1) (c2 := 56) (as := [(4, 0), (0, x1), (0, 1)]) (asC := [(4, 0), (0, x1), (0, 1)]) (LN := [(0, (4, 0)), (1, (0, x1))]) (stN := [(4, 0)]) (hsC := jpA_1519) (ex := [(100, [], (jenc 1))]) (v := (4, 16)) (st2 := [(4, 16), (4, 0)]) (hs2 := jpA_3190) (jA_268_802 (d := 0) (by omega)) (by rfl) (by rfl) (by decide +kernel) (by rfl) (by rfl) (by omega) (by omega) (by omega) (by omega) rfl (by decide +kernel) ?_
  refine jT_xaload_n (v := (4, 0)) (pcN := 36) jI_266_35 rfl rfl rfl ?_
  refine jT_xiload_n (v := (0, x1)) (pcN := 37) jI_266_36 rfl rfl rfl ?_
  refine jT_xiconst (k := (-1)) (pcN := 38) jI_266_37 rfl ?_
  refine jT_fA [0, 1, 2, 3, 4, 5, 6, 7, 8, 9, 10, 11, 12, 13, 14, 15] 17 (y := 268) (pcN := 41) (dC := 2) (bc1 := 1) (bc2 := 56) (c1 := 0) (c2 := 0) (as := [(4, 0), (0, x1), (0, (-1))]) (asC := [(4, 0), (0, x1), (0, (-1))]) (LN := [(0, (4, 0)), (1, (0, x1))]) (stN := [(4, 16), (4, 0)]) (hsC := jpA_1519) (ex := [(100, [], (jenc 1))]) (v := (4, 16)) (st2 := [(4, 17), (4, 16), (4, 0)]) (hs2 := jpA_3194) (jA_268_803 (d := 0) (by omega)) (by rfl) (by rfl) (by decide +kernel) (by rfl) (by rfl) (by omega) (by omega) (by omega) (by omega) rfl (by decide +kernel) ?_
  refine jT_fB [0, 16, 17, 1, 2, 3, 4, 5, 6, 7, 8, 9, 10, 11, 12, 13, 14, 15] 18 (y := 269) (pcN := 44) (dC := 0) (bc1 := 0) (bc2 := 0) (c1 := 0) (c2 := 0) (as := [(4, 0), (4, 16), (4, 17)]) (asC := [(4, 0), (4, 1), (4, 2)]) (LN := [(0, (4, 0)), (1, (0, x1))]) (stN := []) (hsC := jpA_3174) (hsD := jpA_3172) (v := (9, 0)) (st2 := []) (hs2 := jpA_3196) (jA_269_804 (d := 0)) (by rfl) (by rfl) (by decide +kernel) (by rfl) (by rfl) (by omega) (by omega) (by omega) (by omega) rfl (by decide +kernel) ?_
  refine jT_xaload_n (v := (4, 0)) (pcN := 45) jI_266_44 rfl rfl rfl ?_
  refine jT_xgetf (a := 0) (t := 1) (ci := 14) (fi := 6) (c := jzA_3195) (v := (4, 5)) (pcN := 48) jI_266_45 rfl rfl rfl rfl rfl rfl rfl ?_
  refine jT_xiconst (k := 0) (pcN := 49) jI_266_48 rfl ?_
  refine jT_aald (x := 16) (a := 5) (j := 0) (fs := []) (X := [16, 17]) (kd := 130) jI_266_49 rfl rfl rfl rfl rfl ?_
  refine jT_eq (LN := [(0, (4, 0)), (1, (0, x1))]) (stN := [(4, 16)]) (hsN := jpA_3196) rfl rfl rfl ?_
  refine jT_xaload_n (v := (4, 0)) (pcN := 51) jI_266_50 rfl rfl rfl ?_
  refine jT_xgetf (a := 0) (t := 1) (ci := 14) (fi := 6) (c := jzA_3195) (v := (4, 5)) (pcN := 54) jI_266_51 rfl rfl rfl rfl rfl rfl rfl ?_
  refine jT_xiconst (k := 1) (pcN := 55) jI_266_54 rfl ?_
  refine jT_aald (x := 17) (a := 5) (j := 1) (fs := []) (X := [16, 17]) (kd := 130) jI_266_55 rfl rfl rfl rfl rfl ?_
  refine jT_eq (LN := [(0, (4, 0)), (1, (0, x1))]) (stN := [(4, 17), (4, 16)]) (hsN := jpA_3196) rfl rfl rfl ?_
  refine jT_fR [16, 17] 18 (y := 182) (pcN := 59) (dC := 0) (bc1 := 0) (bc2 := 0) (c1 := 0) (c2 := 0) (as := [(4, 16), (4, 17)]) (asC := [(4, 0), (4, 1)]) (LN := [(0, (4, 0)), (1, (0, x1))]) (stN := []) (hsC := [(100, [], (jenc 1)), (100, [], (jenc 1))]) (v := (0, 0)) (st2 := [(0, 0)]) (jA_182_805 (d := 0)) (by rfl) (by rfl) (by decide +kernel) (by rfl) (by rfl) (by omega) (by omega) (by omega) (by omega) rfl ?_
  refine jT_xifT (pcN := 66) jI_266_59 rfl (by decide +kernel) rfl ?_
  refine jT_xiconst (k := 0) (pcN := 67) jI_266_66 rfl ?_
  exact jT_ret rfl (by decide) (by show 16 ≤ 18; decide) (by omega) (by omega) ⟨rfl, rfl, rfl⟩
def jpA_3208 : List JC := [jzA_3195, jgh, jgh, jgh, jgh, jgh, jgh, jgh, jgh, jgh, jgh, jgh, jgh, jgh, jgh, jgh]
theorem jA_186_807 {xs : List Int} {d : Nat} : jT xs d 186 16 0 [(0, (4, 0))] [] jpA_3208 0 0 (fun k v hsN => k = 0 ∧ v = (0, 0) ∧ hsN = jpA_3208 ++ []) := by
  refine jT_advK 2 (pcN := 4) (LN := [(0, (4, 0))]) (stN := [(0, 0)]) (hsN := jpA_3208) (c1 := 0) (s1 := 0) (c2 := 0) (s2 := 0) (by decide +kernel) ?_ (by omega) (by omega)
  exact jT_ret rfl (by decide) (by show 16 ≤ 16; decide) (by omega) (by omega) ⟨rfl, rfl, rfl⟩
theorem jA_141_808 {xs : List Int} {d : Nat} {x1 : Int} (h_x1 : 8 ≤ x1 ∧ x1 ≤ 2147483647) : jT xs (d + 1) 141 12 0 [(0, (4, 0)), (1, (0, x1))] [] jpA_6 1 6 (fun k v hsN => k = 1 ∧ v = (0, 0) ∧ hsN = jpA_6 ++ []) := by
  refine jT_xaload_n (v := (4, 0)) (pcN := 1) jI_141_0 rfl rfl rfl ?_
  refine jT_xiload_n (v := (0, x1)) (pcN := 2) jI_141_1 rfl rfl rfl ?_
  refine jT_xbipush (k := 8) (pcN := 4) jI_141_2 (by decide) rfl ?_
  exact jT_fX [0] 12 (y := 115) (pcN := 7) (dC := 0) (bc1 := 1) (bc2 := 6) (as := [(4, 0), (0, x1), (0, 8)]) (asC := [(4, 0), (0, x1), (0, 8)]) (LN := [(0, (4, 0)), (1, (0, x1))]) (stN := []) (hsC := [jgh]) (e := 0) (jA_115_65 (d := 0) (by omega)) (by rfl) (by rfl) (by decide +kernel) (by rfl) (by rfl) (by omega) (by omega) (by omega) (by omega) ⟨rfl, ⟨rfl, rfl, rfl⟩⟩
theorem jA_348_809 {xs : List Int} {d : Nat} {x1 : Int} (h_x1 : 8 ≤ x1 ∧ x1 ≤ 2147483647) : jT xs (d + 2) 348 13 0 [(0, (4, 0)), (1, (0, x1)), (2, (4, 1))] [] jpA_15 1 6 (fun k v hsN => k = 0 ∧ v = (0, 1) ∧ hsN = jpA_15 ++ []) := by
  refine jT_xaload_n (v := (4, 1)) (pcN := 1) jI_348_0 rfl rfl rfl ?_
  refine jT_xiconst (k := 0) (pcN := 2) jI_348_1 rfl ?_
  refine jT_xaload_n (v := (4, 0)) (pcN := 3) jI_348_2 rfl rfl rfl ?_
  refine jT_xiload_n (v := (0, x1)) (pcN := 4) jI_348_3 rfl rfl rfl ?_
  exact jT_fX [0, 2, 3, 4, 5, 6, 7, 8, 9, 10, 11, 12] 13 (y := 141) (pcN := 7) (dC := 1) (bc1 := 1) (bc2 := 6) (as := [(4, 0), (0, x1)]) (asC := [(4, 0), (0, x1)]) (LN := [(0, (4, 0)), (1, (0, x1)), (2, (4, 1))]) (stN := [(0, 0), (4, 1)]) (hsC := jpA_6) (e := 0) (jA_141_808 (d := 0) (by omega)) (by rfl) (by rfl) (by decide +kernel) (by rfl) (by rfl) (by omega) (by omega) (by omega) (by omega) (show _ from ⟨rfl, rfl, rfl⟩)
theorem jA_266_810 {xs : List Int} {d : Nat} {x1 : Int} (h_x1 : 8 ≤ x1 ∧ x1 ≤ 2147483647) : jT xs (d + 2) 266 16 0 [(0, (4, 0)), (1, (0, x1))] [] jpA_22 0 0 (fun k v hsN => k = 0 ∧ v = (0, 0) ∧ hsN = jpA_20) := by
  refine jT_xaload_n (v := (4, 0)) (pcN := 1) jI_266_0 rfl rfl rfl ?_
  refine jT_xiload_n (v := (0, x1)) (pcN := 2) jI_266_1 rfl rfl rfl ?_
  refine jT_fR [] 16 (y := 188) (pcN := 5) (dC := 1) (bc1 := 0) (bc2 := 0) (c1 := 0) (c2 := 0) (as := [(0, x1)]) (asC := [(0, x1)]) (LN := [(0, (4, 0)), (1, (0, x1))]) (stN := [(4, 0)]) (hsC := []) (v := (0, 0)) (st2 := [(0, 0), (4, 0)]) (jA_188_68 (d := 0) (by omega)) (by rfl) (by rfl) (by decide +kernel) (by rfl) (by rfl) (by omega) (by omega) (by omega) (by omega) rfl ?_
  refine jT_fB [0, 1, 2, 3, 4, 5, 6, 7, 8, 9, 10, 11, 12, 13, 14, 15] 16 (y := 190) (pcN := 8) (dC := 1) (bc1 := 0) (bc2 := 0) (c1 := 0) (c2 := 0) (as := [(4, 0), (0, 0)]) (asC := [(4, 0), (0, 0)]) (LN := [(0, (4, 0)), (1, (0, x1))]) (stN := []) (hsC := jpA_22) (hsD := jpA_20) (v := (0, 1)) (st2 := [(0, 1)]) (hs2 := jpA_20) (jA_190_6 (d := 0)) (by rfl) (by rfl) (by decide +kernel) (by rfl) (by rfl) (by omega) (by omega) (by omega) (by omega) rfl (by decide +kernel) ?_
  refine jT_xifT (pcN := 26) jI_266_8 rfl (by decide +kernel) rfl ?_
  refine jT_xiconst (k := 0) (pcN := 27) jI_266_26 rfl ?_
  exact jT_ret rfl (by decide) (by show 16 ≤ 16; decide) (by omega) (by omega) ⟨rfl, rfl, rfl⟩
theorem jI_379_1942 : jmI (jm 379) 1942 = (.aload_n 1, 1) := by rfl
theorem jI_379_1943 : jmI (jm 379) 1943 = (.aload_n 0, 1) := by rfl
theorem jI_379_1944 : jmI (jm 379) 1944 = (.iload 5, 2) := by rfl
theorem jI_379_1946 : jmI (jm 379) 1946 = (.iconst 1, 1) := by rfl
theorem jI_379_1947 : jmI (jm 379) 1947 = (.iadd, 1) := by rfl
theorem jI_379_1949 : jmI (jm 379) 1949 = (.aload_n 3, 1) := by rfl
theorem jI_379_1953 : jmI (jm 379) 1953 = (.istore 6, 2) := by rfl
theorem jI_379_1955 : jmI (jm 379) 1955 = (.aload_n 2, 1) := by rfl
theorem jI_379_1956 : jmI (jm 379) 1956 = (.aload_n 0, 1) := by rfl
theorem jI_379_1957 : jmI (jm 379) 1957 = (.iload 5, 2) := by rfl
theorem jI_379_1959 : jmI (jm 379) 1959 = (.iconst 1, 1) := by rfl
theorem jI_379_1960 : jmI (jm 379) 1960 = (.iadd, 1) := by rfl
theorem jI_379_1965 : jmI (jm 379) 1965 = (.istore 7, 2) := by rfl
theorem jI_379_1967 : jmI (jm 379) 1967 = (.aload_n 2, 1) := by rfl
theorem jI_379_1971 : jmI (jm 379) 1971 = (.iload 6, 2) := by rfl
theorem jI_379_1973 : jmI (jm 379) 1973 = (.if_icmp .eq 5, 3) := by rfl
theorem jI_379_1978 : jmI (jm 379) 1978 = (.iload 6, 2) := by rfl
theorem jI_379_1980 : jmI (jm 379) 1980 = (.ifCond .ne 22, 3) := by rfl
theorem jI_379_2002 : jmI (jm 379) 2002 = (.goto 1738, 3) := by rfl
set_option maxRecDepth 100000 in
theorem jL_23_0 {d : Nat} {x0 x1 x2 x3 x4 : Int} (h_x0 : (-2147483648) ≤ x0 ∧ x0 ≤ 2147483647) (h_x1 : (-2147483648) ≤ x1 ∧ x1 ≤ (-1)) (h_x2 : (-2147483648) ≤ x2 ∧ x2 ≤ 2147483647) (h_x3 : (-2147483648) ≤ x3 ∧ x3 ≤ 2147483647) (h_x4 : (-2147483648) ≤ x4 ∧ x4 ≤ 2147483647) : jT [x0, x1, x2, x3, x4] (d + 3) 379 30 1942 [(5, (0, 0)), (4, (4, 3)), (3, (4, 2)), (2, (4, 1)), (1, (4, 0)), (0, (6, 0))] [] jpA_267 1 6 (fun k v hsN => k = 0 ∧ v = (0, 1)) := by
  refine jT_xaload_n (v := (4, 0)) (pcN := 1943) jI_379_1942 rfl rfl rfl ?_
  refine jT_xaload_n (v := (6, 0)) (pcN := 1944) jI_379_1943 rfl rfl rfl ?_
  refine jT_xiload (v := (0, 0)) (pcN := 1946) jI_379_1944 rfl rfl rfl ?_
  refine jT_xiconst (k := 1) (pcN := 1947) jI_379_1946 rfl ?_
  refine jT_xiadd (x := 0) (y := 1) (z := 1) (pcN := 1948) jI_379_1947 rfl (by decide) rfl ?_
  refine jT_adv 1 (pcN := 1949) (LN := [(5, (0, 0)), (4, (4, 3)), (3, (4, 2)), (2, (4, 1)), (1, (4, 0)), (0, (6, 0))]) (stN := [(0, x1), (4, 0)]) (hsN := jpA_267) (c1 := 0) (s1 := 0) (c2 := 1) (s2 := 6) (by exact rfl) ?_ (by omega) (by omega)
  refine jT_xaload_n (v := (4, 2)) (pcN := 1950) jI_379_1949 rfl rfl rfl ?_
  refine jT_fR [0, 2, 4, 5, 6, 7, 8, 9, 10, 11, 12, 13, 14] 30 (y := 348) (pcN := 1953) (dC := 2) (bc1 := 1) (bc2 := 6) (c1 := 0) (c2 := 0) (as := [(4, 0), (0, x1), (4, 2)]) (asC := [(4, 0), (0, x1), (4, 1)]) (LN := [(5, (0, 0)), (4, (4, 3)), (3, (4, 2)), (2, (4, 1)), (1, (4, 0)), (0, (6, 0))]) (stN := []) (hsC := jpA_15) (v := (0, 1)) (st2 := [(0, 1)]) (jA_348_792 (d := 0) (by omega)) (by rfl) (by rfl) (by decide +kernel) (by rfl) (by rfl) (by omega) (by omega) (by omega) (by omega) rfl ?_
  refine jT_xistore (v := (0, 1)) (LN := [(6, (0, 1)), (5, (0, 0)), (4, (4, 3)), (3, (4, 2)), (2, (4, 1)), (1, (4, 0)), (0, (6, 0))]) (pcN := 1955) jI_379_1953 rfl rfl rfl rfl ?_
  refine jT_xaload_n (v := (4, 1)) (pcN := 1956) jI_379_1955 rfl rfl rfl ?_
  refine jT_xaload_n (v := (6, 0)) (pcN := 1957) jI_379_1956 rfl rfl rfl ?_
  refine jT_xiload (v := (0, 0)) (pcN := 1959) jI_379_1957 rfl rfl rfl ?_
  refine jT_xiconst (k := 1) (pcN := 1960) jI_379_1959 rfl ?_
  refine jT_xiadd (x := 0) (y := 1) (z := 1) (pcN := 1961) jI_379_1960 rfl (by decide) rfl ?_
  refine jT_adv 1 (pcN := 1962) (LN := [(6, (0, 1)), (5, (0, 0)), (4, (4, 3)), (3, (4, 2)), (2, (4, 1)), (1, (4, 0)), (0, (6, 0))]) (stN := [(0, x1), (4, 1)]) (hsN := jpA_267) (c1 := 0) (s1 := 0) (c2 := 0) (s2 := 0) (by exact rfl) ?_ (by omega) (by omega)
  refine jT_fB [1, 15, 16, 17, 18, 19, 20, 21, 22, 23, 24, 25, 26, 27, 28, 29] 30 (y := 266) (pcN := 1965) (dC := 2) (bc1 := 0) (bc2 := 0) (c1 := 0) (c2 := 0) (as := [(4, 1), (0, x1)]) (asC := [(4, 0), (0, x1)]) (LN := [(6, (0, 1)), (5, (0, 0)), (4, (4, 3)), (3, (4, 2)), (2, (4, 1)), (1, (4, 0)), (0, (6, 0))]) (stN := []) (hsC := jpA_22) (hsD := jpA_20) (v := (0, 0)) (st2 := [(0, 0)]) (hs2 := jpA_306) (jA_266_793 (d := 0) (by omega)) (by rfl) (by rfl) (by decide +kernel) (by rfl) (by rfl) (by omega) (by omega) (by omega) (by omega) rfl (by decide +kernel) ?_
  refine jT_xistore (v := (0, 0)) (LN := [(7, (0, 0)), (6, (0, 1)), (5, (0, 0)), (4, (4, 3)), (3, (4, 2)), (2, (4, 1)), (1, (4, 0)), (0, (6, 0))]) (pcN := 1967) jI_379_1965 rfl rfl rfl rfl ?_
  refine jT_xaload_n (v := (4, 1)) (pcN := 1968) jI_379_1967 rfl rfl rfl ?_
  refine jT_fR [1, 15, 16, 17, 18, 19, 20, 21, 22, 23, 24, 25, 26, 27, 28, 29] 30 (y := 186) (pcN := 1971) (dC := 0) (bc1 := 0) (bc2 := 0) (c1 := 0) (c2 := 0) (as := [(4, 1)]) (asC := [(4, 0)]) (LN := [(7, (0, 0)), (6, (0, 1)), (5, (0, 0)), (4, (4, 3)), (3, (4, 2)), (2, (4, 1)), (1, (4, 0)), (0, (6, 0))]) (stN := []) (hsC := jpA_20) (v := (0, 1)) (st2 := [(0, 1)]) (jA_186_8 (d := 0)) (by rfl) (by rfl) (by decide +kernel) (by rfl) (by rfl) (by omega) (by omega) (by omega) (by omega) rfl ?_
  refine jT_xiload (v := (0, 1)) (pcN := 1973) jI_379_1971 rfl rfl rfl ?_
  refine jT_xicT (pcN := 1978) jI_379_1973 rfl (by decide +kernel) rfl ?_
  refine jT_xiload (v := (0, 1)) (pcN := 1980) jI_379_1978 rfl rfl rfl ?_
  refine jT_xifT (pcN := 2002) jI_379_1980 rfl (by decide +kernel) rfl ?_
  refine jT_xgoto (pcN := 3740) jI_379_2002 rfl ?_
  refine jT_xiinc (x := 0) (z := 5) (LN := [(5, (0, 5)), (7, (0, 0)), (6, (0, 1)), (4, (4, 3)), (3, (4, 2)), (2, (4, 1)), (1, (4, 0)), (0, (6, 0))]) (pcN := 3743) jI_379_3740 rfl rfl (by decide) rfl rfl ?_
  refine jT_xgoto (pcN := 28) jI_379_3743 rfl ?_
  refine jT_xiload (v := (0, 5)) (pcN := 30) jI_379_28 rfl rfl rfl ?_
  refine jT_xaload_n (v := (6, 0)) (pcN := 31) jI_379_30 rfl rfl rfl ?_
  refine jT_adv 1 (pcN := 32) (LN := [(5, (0, 5)), (7, (0, 0)), (6, (0, 1)), (4, (4, 3)), (3, (4, 2)), (2, (4, 1)), (1, (4, 0)), (0, (6, 0))]) (stN := [(0, 5), (0, 5)]) (hsN := jpA_306) (c1 := 0) (s1 := 0) (c2 := 0) (s2 := 0) (by exact rfl) ?_ (by omega) (by omega)
  refine jT_xiconst (k := 5) (pcN := 33) jI_379_32 rfl ?_
  refine jT_xisub (x := 5) (y := 5) (z := 0) (pcN := 34) jI_379_33 rfl (by decide) rfl ?_
  refine jT_xicT (pcN := 3746) jI_379_34 rfl (by decide +kernel) rfl ?_
  refine jT_xiconst (k := 1) (pcN := 3747) jI_379_3746 rfl ?_
  exact jT_ret rfl (by decide) (by show 30 ≤ 30; decide) (by omega) (by omega) ⟨rfl, rfl⟩
def jpA_3228 : List JC := [jzA_265, jzA_266, (101, [], [0]), jgh, jgh, jgh, jgh, jgh, (12, [(4, 30), (0, 0)], []), (12, [(4, 31), (0, 0)], []), jgh, jgh, jgh, jgh, jzA_721, (100, [], jS0), jgh, jgh, jgh, (130, [], [(-1), (-1)]), jgh, jgh, jgh, jgh, jgh, jgh, jgh, jgh, jgh, jgh, (100, [], List.replicate 48 0), (100, [], List.replicate 48 0), jzA_3054, jgh, jgh, jgh, jgh, (4, [(4, 38), (1, 1)], []), (101, [], [0, 0, 0, 0, 0, 0])]
def jzA_3229 : JC := (13, [(4, 4), (4, 5), (4, 6), (4, 7), (4, 8), (4, 9), (4, 10), (4, 11), (4, 12), (4, 13), (0, 0), (4, 14), (0, 1)], [])
def jpA_3230 : List JC := [jzA_3229, jzA_266, (101, [], [0]), jgh, jgh, jgh, jgh, jgh, (12, [(4, 30), (0, 1)], []), (12, [(4, 31), (0, 1)], []), jgh, jgh, jgh, jgh, jzA_721, (100, [], jS0), jgh, jgh, jgh, (130, [], [(-1), (-1)]), jgh, jgh, jgh, jgh, jgh, jgh, jgh, jgh, jgh, jgh, jzA_3074, jzA_3074, jzA_3054, jgh, jgh, jgh, jgh, (4, [(4, 38), (1, 1)], []), (101, [], [0, 0, 0, 0, 0, 0])]
def jzA_3231 : JC := (14, [(0, 0), (4, 15), (4, 16), (4, 17), (4, 18), (0, 0), (4, 19), (0, 2), (4, 20), (4, 21), (1, 1), (4, 22), (0, 0), (4, 23), (0, 0), (0, 0), (0, 0), (0, 0), (0, 0), (0, 0), (0, 0), (4, 24), (4, 25), (4, 26), (4, 27), (4, 28), (4, 29), (0, 0)], [])
def jpA_3232 : List JC := [jzA_3229, jzA_3231, (101, [], [0]), jgh, jgh, jgh, jgh, jgh, (12, [(4, 30), (0, 1)], []), (12, [(4, 31), (0, 1)], []), jgh, jgh, jgh, jgh, jzA_721, (100, [], jS0), jgh, jgh, jgh, (130, [], [39, 40]), jgh, jgh, jgh, jgh, jgh, jgh, jgh, jgh, jgh, jgh, jzA_3074, jzA_3074, jzA_3054, jgh, jgh, jgh, jgh, (4, [(4, 38), (1, 1)], []), (101, [], [0, 0, 0, 0, 0, 0]), (100, [], (jenc 1)), (100, [], (jenc 1))]
theorem jI_379_1983 : jmI (jm 379) 1983 = (.aload_n 3, 1) := by rfl
theorem jI_379_1984 : jmI (jm 379) 1984 = (.iconst 0, 1) := by rfl
theorem jI_379_1985 : jmI (jm 379) 1985 = (.laload, 1) := by rfl
theorem jI_379_1986 : jmI (jm 379) 1986 = (.iload 7, 2) := by rfl
theorem jI_379_1988 : jmI (jm 379) 1988 = (.ifCond .eq 7, 3) := by rfl
theorem jI_379_1995 : jmI (jm 379) 1995 = (.lconst 0, 1) := by rfl
theorem jI_379_1997 : jmI (jm 379) 1997 = (.ifCond .eq 5, 3) := by rfl
set_option maxRecDepth 100000 in
theorem jL_23_1 {d : Nat} {x0 x1 x2 x3 x4 : Int} (h_x0 : (-2147483648) ≤ x0 ∧ x0 ≤ 2147483647) (h_x1 : 0 ≤ x1 ∧ x1 ≤ 7) (h_x2 : (-2147483648) ≤ x2 ∧ x2 ≤ 2147483647) (h_x3 : (-2147483648) ≤ x3 ∧ x3 ≤ 2147483647) (h_x4 : (-2147483648) ≤ x4 ∧ x4 ≤ 2147483647) : jT [x0, x1, x2, x3, x4] (d + 4) 379 39 1942 [(5, (0, 0)), (4, (4, 3)), (3, (4, 2)), (2, (4, 1)), (1, (4, 0)), (0, (6, 0))] [] jpA_3228 2 112 (fun k v hsN => k = 0 ∧ v = (0, 1)) := by
  refine jT_xaload_n (v := (4, 0)) (pcN := 1943) jI_379_1942 rfl rfl rfl ?_
  refine jT_xaload_n (v := (6, 0)) (pcN := 1944) jI_379_1943 rfl rfl rfl ?_
  refine jT_xiload (v := (0, 0)) (pcN := 1946) jI_379_1944 rfl rfl rfl ?_
  refine jT_xiconst (k := 1) (pcN := 1947) jI_379_1946 rfl ?_
  refine jT_xiadd (x := 0) (y := 1) (z := 1) (pcN := 1948) jI_379_1947 rfl (by decide) rfl ?_
  refine jT_adv 1 (pcN := 1949) (LN := [(5, (0, 0)), (4, (4, 3)), (3, (4, 2)), (2, (4, 1)), (1, (4, 0)), (0, (6, 0))]) (stN := [(0, x1), (4, 0)]) (hsN := jpA_3228) (c1 := 0) (s1 := 0) (c2 := 2) (s2 := 112) (by exact rfl) ?_ (by omega) (by omega)
  refine jT_xaload_n (v := (4, 2)) (pcN := 1950) jI_379_1949 rfl rfl rfl ?_
  refine jT_fB [0, 2, 4, 5, 6, 7, 8, 9, 10, 11, 12, 13, 14, 30, 31, 32, 33, 34, 35, 36, 37, 38] 39 (y := 348) (pcN := 1953) (dC := 3) (bc1 := 0) (bc2 := 0) (c1 := 2) (c2 := 112) (as := [(4, 0), (0, x1), (4, 2)]) (asC := [(4, 0), (0, x1), (4, 1)]) (LN := [(5, (0, 0)), (4, (4, 3)), (3, (4, 2)), (2, (4, 1)), (1, (4, 0)), (0, (6, 0))]) (stN := []) (hsC := jpA_3106) (hsD := jpA_3101) (v := (0, 0)) (st2 := [(0, 0)]) (hs2 := jpA_3230) (jA_348_799 (d := 0) (by omega)) (by rfl) (by rfl) (by decide +kernel) (by rfl) (by rfl) (by omega) (by omega) (by omega) (by omega) rfl (by decide +kernel) ?_
  refine jT_xistore (v := (0, 0)) (LN := [(6, (0, 0)), (5, (0, 0)), (4, (4, 3)), (3, (4, 2)), (2, (4, 1)), (1, (4, 0)), (0, (6, 0))]) (pcN := 1955) jI_379_1953 rfl rfl rfl rfl ?_
  refine jT_xaload_n (v := (4, 1)) (pcN := 1956) jI_379_1955 rfl rfl rfl ?_
  refine jT_xaload_n (v := (6, 0)) (pcN := 1957) jI_379_1956 rfl rfl rfl ?_
  refine jT_xiload (v := (0, 0)) (pcN := 1959) jI_379_1957 rfl rfl rfl ?_
  refine jT_xiconst (k := 1) (pcN := 1960) jI_379_1959 rfl ?_
  refine jT_xiadd (x := 0) (y := 1) (z := 1) (pcN := 1961) jI_379_1960 rfl (by decide) rfl ?_
  refine jT_adv 1 (pcN := 1962) (LN := [(6, (0, 0)), (5, (0, 0)), (4, (4, 3)), (3, (4, 2)), (2, (4, 1)), (1, (4, 0)), (0, (6, 0))]) (stN := [(0, x1), (4, 1)]) (hsN := jpA_3230) (c1 := 0) (s1 := 0) (c2 := 2) (s2 := 112) (by exact rfl) ?_ (by omega) (by omega)
  refine jT_fB [1, 15, 16, 17, 18, 19, 20, 21, 22, 23, 24, 25, 26, 27, 28, 29] 39 (y := 266) (pcN := 1965) (dC := 3) (bc1 := 2) (bc2 := 112) (c1 := 0) (c2 := 0) (as := [(4, 1), (0, x1)]) (asC := [(4, 0), (0, x1)]) (LN := [(6, (0, 0)), (5, (0, 0)), (4, (4, 3)), (3, (4, 2)), (2, (4, 1)), (1, (4, 0)), (0, (6, 0))]) (stN := []) (hsC := jpA_3207) (hsD := jpA_3196) (v := (0, 0)) (st2 := [(0, 0)]) (hs2 := jpA_3232) (jA_266_806 (d := 0) (by omega)) (by rfl) (by rfl) (by decide +kernel) (by rfl) (by rfl) (by omega) (by omega) (by omega) (by omega) rfl (by decide +kernel) ?_
  refine jT_xistore (v := (0, 0)) (LN := [(7, (0, 0)), (6, (0, 0)), (5, (0, 0)), (4, (4, 3)), (3, (4, 2)), (2, (4, 1)), (1, (4, 0)), (0, (6, 0))]) (pcN := 1967) jI_379_1965 rfl rfl rfl rfl ?_
  refine jT_xaload_n (v := (4, 1)) (pcN := 1968) jI_379_1967 rfl rfl rfl ?_
  refine jT_fR [1, 15, 16, 17, 18, 19, 20, 21, 22, 23, 24, 25, 26, 27, 28, 29] 41 (y := 186) (pcN := 1971) (dC := 0) (bc1 := 0) (bc2 := 0) (c1 := 0) (c2 := 0) (as := [(4, 1)]) (asC := [(4, 0)]) (LN := [(7, (0, 0)), (6, (0, 0)), (5, (0, 0)), (4, (4, 3)), (3, (4, 2)), (2, (4, 1)), (1, (4, 0)), (0, (6, 0))]) (stN := []) (hsC := jpA_3208) (v := (0, 0)) (st2 := [(0, 0)]) (jA_186_807 (d := 0)) (by rfl) (by rfl) (by decide +kernel) (by rfl) (by rfl) (by omega) (by omega) (by omega) (by omega) rfl ?_
  refine jT_xiload (v := (0, 0)) (pcN := 1973) jI_379_1971 rfl rfl rfl ?_
  refine jT_xicT (pcN := 1978) jI_379_1973 rfl (by decide +kernel) rfl ?_
  refine jT_xiload (v := (0, 0)) (pcN := 1980) jI_379_1978 rfl rfl rfl ?_
  refine jT_xifF (t := 2002) (pcN := 1983) jI_379_1980 rfl (by decide +kernel) rfl rfl ?_
  refine jT_xaload_n (v := (4, 2)) (pcN := 1984) jI_379_1983 rfl rfl rfl ?_
  refine jT_xiconst (k := 0) (pcN := 1985) jI_379_1984 rfl ?_
  refine jT_lald (x := 0) (a := 2) (j := 0) (fs := []) (X := [0]) jI_379_1985 rfl rfl rfl rfl ?_
  refine jT_eq (LN := [(7, (0, 0)), (6, (0, 0)), (5, (0, 0)), (4, (4, 3)), (3, (4, 2)), (2, (4, 1)), (1, (4, 0)), (0, (6, 0))]) (stN := [(1, 0)]) (hsN := jpA_3232) rfl rfl rfl ?_
  refine jT_xiload (v := (0, 0)) (pcN := 1988) jI_379_1986 rfl rfl rfl ?_
  refine jT_xifT (pcN := 1995) jI_379_1988 rfl (by decide +kernel) rfl ?_
  refine jT_xlconst (z := 0) (pcN := 1996) jI_379_1995 rfl rfl ?_
  refine jT_lcmp (a := 0) (b := 0) (z := 0) (by rfl) (by rfl) (by decide +kernel) (by decide +kernel) (by decide) ?_
  refine jT_xifT (pcN := 2002) jI_379_1997 rfl (by decide +kernel) rfl ?_
  refine jT_xgoto (pcN := 3740) jI_379_2002 rfl ?_
  refine jT_xiinc (x := 0) (z := 5) (LN := [(5, (0, 5)), (7, (0, 0)), (6, (0, 0)), (4, (4, 3)), (3, (4, 2)), (2, (4, 1)), (1, (4, 0)), (0, (6, 0))]) (pcN := 3743) jI_379_3740 rfl rfl (by decide) rfl rfl ?_
  refine jT_xgoto (pcN := 28) jI_379_3743 rfl ?_
  refine jT_xiload (v := (0, 5)) (pcN := 30) jI_379_28 rfl rfl rfl ?_
  refine jT_xaload_n (v := (6, 0)) (pcN := 31) jI_379_30 rfl rfl rfl ?_
  refine jT_adv 1 (pcN := 32) (LN := [(5, (0, 5)), (7, (0, 0)), (6, (0, 0)), (4, (4, 3)), (3, (4, 2)), (2, (4, 1)), (1, (4, 0)), (0, (6, 0))]) (stN := [(0, 5), (0, 5)]) (hsN := jpA_3232) (c1 := 0) (s1 := 0) (c2 := 0) (s2 := 0) (by exact rfl) ?_ (by omega) (by omega)
  refine jT_xiconst (k := 5) (pcN := 33) jI_379_32 rfl ?_
  refine jT_xisub (x := 5) (y := 5) (z := 0) (pcN := 34) jI_379_33 rfl (by decide) rfl ?_
  refine jT_xicT (pcN := 3746) jI_379_34 rfl (by decide +kernel) rfl ?_
  refine jT_xiconst (k := 1) (pcN := 3747) jI_379_3746 rfl ?_
  exact jT_ret rfl (by decide) (by show 39 ≤ 41; decide) (by omega) (by omega) ⟨rfl, rfl⟩
set_option maxRecDepth 100000 in
theorem jL_23_2 {d : Nat} {x0 x1 x2 x3 x4 : Int} (h_x0 : (-2147483648) ≤ x0 ∧ x0 ≤ 2147483647) (h_x1 : 8 ≤ x1 ∧ x1 ≤ 2147483647) (h_x2 : (-2147483648) ≤ x2 ∧ x2 ≤ 2147483647) (h_x3 : (-2147483648) ≤ x3 ∧ x3 ≤ 2147483647) (h_x4 : (-2147483648) ≤ x4 ∧ x4 ≤ 2147483647) : jT [x0, x1, x2, x3, x4] (d + 3) 379 30 1942 [(5, (0, 0)), (4, (4, 3)), (3, (4, 2)), (2, (4, 1)), (1, (4, 0)), (0, (6, 0))] [] jpA_267 1 6 (fun k v hsN => k = 0 ∧ v = (0, 1)) := by
  refine jT_xaload_n (v := (4, 0)) (pcN := 1943) jI_379_1942 rfl rfl rfl ?_
  refine jT_xaload_n (v := (6, 0)) (pcN := 1944) jI_379_1943 rfl rfl rfl ?_
  refine jT_xiload (v := (0, 0)) (pcN := 1946) jI_379_1944 rfl rfl rfl ?_
  refine jT_xiconst (k := 1) (pcN := 1947) jI_379_1946 rfl ?_
  refine jT_xiadd (x := 0) (y := 1) (z := 1) (pcN := 1948) jI_379_1947 rfl (by decide) rfl ?_
  refine jT_adv 1 (pcN := 1949) (LN := [(5, (0, 0)), (4, (4, 3)), (3, (4, 2)), (2, (4, 1)), (1, (4, 0)), (0, (6, 0))]) (stN := [(0, x1), (4, 0)]) (hsN := jpA_267) (c1 := 0) (s1 := 0) (c2 := 1) (s2 := 6) (by exact rfl) ?_ (by omega) (by omega)
  refine jT_xaload_n (v := (4, 2)) (pcN := 1950) jI_379_1949 rfl rfl rfl ?_
  refine jT_fR [0, 2, 4, 5, 6, 7, 8, 9, 10, 11, 12, 13, 14] 30 (y := 348) (pcN := 1953) (dC := 2) (bc1 := 1) (bc2 := 6) (c1 := 0) (c2 := 0) (as := [(4, 0), (0, x1), (4, 2)]) (asC := [(4, 0), (0, x1), (4, 1)]) (LN := [(5, (0, 0)), (4, (4, 3)), (3, (4, 2)), (2, (4, 1)), (1, (4, 0)), (0, (6, 0))]) (stN := []) (hsC := jpA_15) (v := (0, 1)) (st2 := [(0, 1)]) (jA_348_809 (d := 0) (by omega)) (by rfl) (by rfl) (by decide +kernel) (by rfl) (by rfl) (by omega) (by omega) (by omega) (by omega) rfl ?_
  refine jT_xistore (v := (0, 1)) (LN := [(6, (0, 1)), (5, (0, 0)), (4, (4, 3)), (3, (4, 2)), (2, (4, 1)), (1, (4, 0)), (0, (6, 0))]) (pcN := 1955) jI_379_1953 rfl rfl rfl rfl ?_
  refine jT_xaload_n (v := (4, 1)) (pcN := 1956) jI_379_1955 rfl rfl rfl ?_
  refine jT_xaload_n (v := (6, 0)) (pcN := 1957) jI_379_1956 rfl rfl rfl ?_
  refine jT_xiload (v := (0, 0)) (pcN := 1959) jI_379_1957 rfl rfl rfl ?_
  refine jT_xiconst (k := 1) (pcN := 1960) jI_379_1959 rfl ?_
  refine jT_xiadd (x := 0) (y := 1) (z := 1) (pcN := 1961) jI_379_1960 rfl (by decide) rfl ?_
  refine jT_adv 1 (pcN := 1962) (LN := [(6, (0, 1)), (5, (0, 0)), (4, (4, 3)), (3, (4, 2)), (2, (4, 1)), (1, (4, 0)), (0, (6, 0))]) (stN := [(0, x1), (4, 1)]) (hsN := jpA_267) (c1 := 0) (s1 := 0) (c2 := 0) (s2 := 0) (by exact rfl) ?_ (by omega) (by omega)
  refine jT_fB [1, 15, 16, 17, 18, 19, 20, 21, 22, 23, 24, 25, 26, 27, 28, 29] 30 (y := 266) (pcN := 1965) (dC := 2) (bc1 := 0) (bc2 := 0) (c1 := 0) (c2 := 0) (as := [(4, 1), (0, x1)]) (asC := [(4, 0), (0, x1)]) (LN := [(6, (0, 1)), (5, (0, 0)), (4, (4, 3)), (3, (4, 2)), (2, (4, 1)), (1, (4, 0)), (0, (6, 0))]) (stN := []) (hsC := jpA_22) (hsD := jpA_20) (v := (0, 0)) (st2 := [(0, 0)]) (hs2 := jpA_306) (jA_266_810 (d := 0) (by omega)) (by rfl) (by rfl) (by decide +kernel) (by rfl) (by rfl) (by omega) (by omega) (by omega) (by omega) rfl (by decide +kernel) ?_
  refine jT_xistore (v := (0, 0)) (LN := [(7, (0, 0)), (6, (0, 1)), (5, (0, 0)), (4, (4, 3)), (3, (4, 2)), (2, (4, 1)), (1, (4, 0)), (0, (6, 0))]) (pcN := 1967) jI_379_1965 rfl rfl rfl rfl ?_
  refine jT_xaload_n (v := (4, 1)) (pcN := 1968) jI_379_1967 rfl rfl rfl ?_
  refine jT_fR [1, 15, 16, 17, 18, 19, 20, 21, 22, 23, 24, 25, 26, 27, 28, 29] 30 (y := 186) (pcN := 1971) (dC := 0) (bc1 := 0) (bc2 := 0) (c1 := 0) (c2 := 0) (as := [(4, 1)]) (asC := [(4, 0)]) (LN := [(7, (0, 0)), (6, (0, 1)), (5, (0, 0)), (4, (4, 3)), (3, (4, 2)), (2, (4, 1)), (1, (4, 0)), (0, (6, 0))]) (stN := []) (hsC := jpA_20) (v := (0, 1)) (st2 := [(0, 1)]) (jA_186_8 (d := 0)) (by rfl) (by rfl) (by decide +kernel) (by rfl) (by rfl) (by omega) (by omega) (by omega) (by omega) rfl ?_
  refine jT_xiload (v := (0, 1)) (pcN := 1973) jI_379_1971 rfl rfl rfl ?_
  refine jT_xicT (pcN := 1978) jI_379_1973 rfl (by decide +kernel) rfl ?_
  refine jT_xiload (v := (0, 1)) (pcN := 1980) jI_379_1978 rfl rfl rfl ?_
  refine jT_xifT (pcN := 2002) jI_379_1980 rfl (by decide +kernel) rfl ?_
  refine jT_xgoto (pcN := 3740) jI_379_2002 rfl ?_
  refine jT_xiinc (x := 0) (z := 5) (LN := [(5, (0, 5)), (7, (0, 0)), (6, (0, 1)), (4, (4, 3)), (3, (4, 2)), (2, (4, 1)), (1, (4, 0)), (0, (6, 0))]) (pcN := 3743) jI_379_3740 rfl rfl (by decide) rfl rfl ?_
  refine jT_xgoto (pcN := 28) jI_379_3743 rfl ?_
  refine jT_xiload (v := (0, 5)) (pcN := 30) jI_379_28 rfl rfl rfl ?_
  refine jT_xaload_n (v := (6, 0)) (pcN := 31) jI_379_30 rfl rfl rfl ?_
  refine jT_adv 1 (pcN := 32) (LN := [(5, (0, 5)), (7, (0, 0)), (6, (0, 1)), (4, (4, 3)), (3, (4, 2)), (2, (4, 1)), (1, (4, 0)), (0, (6, 0))]) (stN := [(0, 5), (0, 5)]) (hsN := jpA_306) (c1 := 0) (s1 := 0) (c2 := 0) (s2 := 0) (by exact rfl) ?_ (by omega) (by omega)
  refine jT_xiconst (k := 5) (pcN := 33) jI_379_32 rfl ?_
  refine jT_xisub (x := 5) (y := 5) (z := 0) (pcN := 34) jI_379_33 rfl (by decide) rfl ?_
  refine jT_xicT (pcN := 3746) jI_379_34 rfl (by decide +kernel) rfl ?_
  refine jT_xiconst (k := 1) (pcN := 3747) jI_379_3746 rfl ?_
  exact jT_ret rfl (by decide) (by show 30 ≤ 30; decide) (by omega) (by omega) ⟨rfl, rfl⟩
theorem jA_101_811 {xs : List Int} {d : Nat} : jT xs d 101 12 0 [(0, (4, 0))] [] jpA_6 0 0 (fun k v hsN => k = 0 ∧ v = (0, 0) ∧ hsN = jpA_6 ++ []) := by
  refine jT_advK 4 (pcN := 12) (LN := [(0, (4, 0))]) (stN := [(0, 0)]) (hsN := jpA_6) (c1 := 0) (s1 := 0) (c2 := 0) (s2 := 0) (by decide +kernel) ?_ (by omega) (by omega)
  exact jT_ret rfl (by decide) (by show 12 ≤ 12; decide) (by omega) (by omega) ⟨rfl, rfl, rfl⟩
theorem jA_270_812 {xs : List Int} {d : Nat} : jT xs d 270 16 0 [(0, (4, 0))] [] jpA_22 0 0 (fun k v hsN => k = 0 ∧ v = (0, 0) ∧ hsN = jpA_22 ++ []) := by
  refine jT_advK 5 (pcN := 9) (LN := [(0, (4, 0))]) (stN := [(0, 0)]) (hsN := jpA_22) (c1 := 0) (s1 := 0) (c2 := 0) (s2 := 0) (by decide +kernel) ?_ (by omega) (by omega)
  exact jT_ret rfl (by decide) (by show 16 ≤ 16; decide) (by omega) (by omega) ⟨rfl, rfl, rfl⟩
theorem jI_379_2005 : jmI (jm 379) 2005 = (.aload_n 1, 1) := by rfl
theorem jI_379_2009 : jmI (jm 379) 2009 = (.aload_n 2, 1) := by rfl
theorem jI_379_2013 : jmI (jm 379) 2013 = (.if_icmp .eq 1727, 3) := by rfl
set_option maxRecDepth 100000 in
theorem jL_24_0 {d : Nat} {x0 x1 x2 x3 x4 : Int} (h_x0 : (-2147483648) ≤ x0 ∧ x0 ≤ 2147483647) (h_x1 : (-2147483648) ≤ x1 ∧ x1 ≤ 2147483647) (h_x2 : (-2147483648) ≤ x2 ∧ x2 ≤ 2147483647) (h_x3 : (-2147483648) ≤ x3 ∧ x3 ≤ 2147483647) (h_x4 : (-2147483648) ≤ x4 ∧ x4 ≤ 2147483647) : jT [x0, x1, x2, x3, x4] (d + 1) 379 30 2005 [(5, (0, 0)), (4, (4, 3)), (3, (4, 2)), (2, (4, 1)), (1, (4, 0)), (0, (6, 0))] [] jpA_267 0 0 (fun k v hsN => k = 0 ∧ v = (0, 1)) := by
  refine jT_xaload_n (v := (4, 0)) (pcN := 2006) jI_379_2005 rfl rfl rfl ?_
  refine jT_fR [0, 4, 5, 6, 7, 8, 9, 10, 11, 12, 13, 14] 30 (y := 101) (pcN := 2009) (dC := 0) (bc1 := 0) (bc2 := 0) (c1 := 0) (c2 := 0) (as := [(4, 0)]) (asC := [(4, 0)]) (LN := [(5, (0, 0)), (4, (4, 3)), (3, (4, 2)), (2, (4, 1)), (1, (4, 0)), (0, (6, 0))]) (stN := []) (hsC := jpA_6) (v := (0, 0)) (st2 := [(0, 0)]) (jA_101_811 (d := 0)) (by rfl) (by rfl) (by decide +kernel) (by rfl) (by rfl) (by omega) (by omega) (by omega) (by omega) rfl ?_
  refine jT_xaload_n (v := (4, 1)) (pcN := 2010) jI_379_2009 rfl rfl rfl ?_
  refine jT_fR [1, 15, 16, 17, 18, 19, 20, 21, 22, 23, 24, 25, 26, 27, 28, 29] 30 (y := 270) (pcN := 2013) (dC := 0) (bc1 := 0) (bc2 := 0) (c1 := 0) (c2 := 0) (as := [(4, 1)]) (asC := [(4, 0)]) (LN := [(5, (0, 0)), (4, (4, 3)), (3, (4, 2)), (2, (4, 1)), (1, (4, 0)), (0, (6, 0))]) (stN := [(0, 0)]) (hsC := jpA_22) (v := (0, 0)) (st2 := [(0, 0), (0, 0)]) (jA_270_812 (d := 0)) (by rfl) (by rfl) (by decide +kernel) (by rfl) (by rfl) (by omega) (by omega) (by omega) (by omega) rfl ?_
  refine jT_xicT (pcN := 3740) jI_379_2013 rfl (by decide +kernel) rfl ?_
  refine jT_xiinc (x := 0) (z := 5) (LN := [(5, (0, 5)), (4, (4, 3)), (3, (4, 2)), (2, (4, 1)), (1, (4, 0)), (0, (6, 0))]) (pcN := 3743) jI_379_3740 rfl rfl (by decide) rfl rfl ?_
  refine jT_xgoto (pcN := 28) jI_379_3743 rfl ?_
  refine jT_xiload (v := (0, 5)) (pcN := 30) jI_379_28 rfl rfl rfl ?_
  refine jT_xaload_n (v := (6, 0)) (pcN := 31) jI_379_30 rfl rfl rfl ?_
  refine jT_adv 1 (pcN := 32) (LN := [(5, (0, 5)), (4, (4, 3)), (3, (4, 2)), (2, (4, 1)), (1, (4, 0)), (0, (6, 0))]) (stN := [(0, 5), (0, 5)]) (hsN := jpA_267) (c1 := 0) (s1 := 0) (c2 := 0) (s2 := 0) (by exact rfl) ?_ (by omega) (by omega)
  refine jT_xiconst (k := 5) (pcN := 33) jI_379_32 rfl ?_
  refine jT_xisub (x := 5) (y := 5) (z := 0) (pcN := 34) jI_379_33 rfl (by decide) rfl ?_
  refine jT_xicT (pcN := 3746) jI_379_34 rfl (by decide +kernel) rfl ?_
  refine jT_xiconst (k := 1) (pcN := 3747) jI_379_3746 rfl ?_
  exact jT_ret rfl (by decide) (by show 30 ≤ 30; decide) (by omega) (by omega) ⟨rfl, rfl⟩
theorem jA_115_813 {xs : List Int} {d : Nat} {x1 : Int} (h_x1 : (-2147483648) ≤ x1 ∧ x1 ≤ (-1)) : jT xs d 115 1 0 [(0, (4, 0)), (1, (0, x1)), (2, (0, 0))] [] [jgh] 1 6 (fun k v hsN => k = 1 ∧ v = (0, 0) ∧ hsN = [jgh] ++ []) := by
  refine jT_xiload_n (v := (0, x1)) (pcN := 1) jI_115_0 rfl rfl rfl ?_
  refine jT_ifT (a := x1) (t := 9) (by rfl) (by rfl) (by rfl) (jw_idd (by omega) (by omega)) (by simp only [jcP] <;> omega) ?_
  exact jT_ret (c1 := 1) (s1 := 6) rfl (by decide) (by show 1 ≤ 1; decide) (by omega) (by omega) ⟨rfl, rfl, rfl⟩
theorem jI_144_0 : jmI (jm 144) 0 = (.aload_n 0, 1) := by rfl
theorem jI_144_1 : jmI (jm 144) 1 = (.iload_n 1, 1) := by rfl
theorem jI_144_2 : jmI (jm 144) 2 = (.aload_n 0, 1) := by rfl
theorem jI_144_3 : jmI (jm 144) 3 = (.getfield 284, 3) := by rfl
theorem jI_144_6 : jmI (jm 144) 6 = (.ifCond .eq 7, 3) := by rfl
theorem jI_144_13 : jmI (jm 144) 13 = (.iconst 0, 1) := by rfl
theorem jA_144_814 {xs : List Int} {d : Nat} {x1 x2 : Int} (h_x1 : (-2147483648) ≤ x1 ∧ x1 ≤ (-1)) (h_x2 : (-2147483648) ≤ x2 ∧ x2 ≤ 2147483647) : jT xs (d + 1) 144 12 0 [(0, (4, 0)), (1, (0, x1)), (2, (0, x2))] [] jpA_6 1 6 (fun k v hsN => k = 1 ∧ v = (0, 0) ∧ hsN = jpA_6 ++ []) := by
  refine jT_xaload_n (v := (4, 0)) (pcN := 1) jI_144_0 rfl rfl rfl ?_
  refine jT_xiload_n (v := (0, x1)) (pcN := 2) jI_144_1 rfl rfl rfl ?_
  refine jT_xaload_n (v := (4, 0)) (pcN := 3) jI_144_2 rfl rfl rfl ?_
  refine jT_xgetf (a := 0) (t := 1) (ci := 13) (fi := 12) (c := jzA_5) (v := (0, 0)) (pcN := 6) jI_144_3 rfl rfl rfl rfl rfl rfl rfl ?_
  refine jT_xifT (pcN := 13) jI_144_6 rfl (by decide +kernel) rfl ?_
  refine jT_xiconst (k := 0) (pcN := 14) jI_144_13 rfl ?_
  exact jT_fX [0] 12 (y := 115) (pcN := 17) (dC := 0) (bc1 := 1) (bc2 := 6) (as := [(4, 0), (0, x1), (0, 0)]) (asC := [(4, 0), (0, x1), (0, 0)]) (LN := [(0, (4, 0)), (1, (0, x1)), (2, (0, x2))]) (stN := []) (hsC := [jgh]) (e := 0) (jA_115_813 (d := 0) (by omega)) (by rfl) (by rfl) (by decide +kernel) (by rfl) (by rfl) (by omega) (by omega) (by omega) (by omega) ⟨rfl, ⟨rfl, rfl, rfl⟩⟩
theorem jI_349_0 : jmI (jm 349) 0 = (.aload_n 3, 1) := by rfl
theorem jI_349_1 : jmI (jm 349) 1 = (.iconst 0, 1) := by rfl
theorem jI_349_2 : jmI (jm 349) 2 = (.aload_n 0, 1) := by rfl
theorem jI_349_3 : jmI (jm 349) 3 = (.iload_n 1, 1) := by rfl
theorem jI_349_4 : jmI (jm 349) 4 = (.iload_n 2, 1) := by rfl
theorem jA_349_815 {xs : List Int} {d : Nat} {x1 x2 : Int} (h_x1 : (-2147483648) ≤ x1 ∧ x1 ≤ (-1)) (h_x2 : (-2147483648) ≤ x2 ∧ x2 ≤ 2147483647) : jT xs (d + 2) 349 13 0 [(0, (4, 0)), (1, (0, x1)), (2, (0, x2)), (3, (4, 1))] [] jpA_15 1 6 (fun k v hsN => k = 0 ∧ v = (0, 1) ∧ hsN = jpA_15 ++ []) := by
  refine jT_xaload_n (v := (4, 1)) (pcN := 1) jI_349_0 rfl rfl rfl ?_
  refine jT_xiconst (k := 0) (pcN := 2) jI_349_1 rfl ?_
  refine jT_xaload_n (v := (4, 0)) (pcN := 3) jI_349_2 rfl rfl rfl ?_
  refine jT_xiload_n (v := (0, x1)) (pcN := 4) jI_349_3 rfl rfl rfl ?_
  refine jT_xiload_n (v := (0, x2)) (pcN := 5) jI_349_4 rfl rfl rfl ?_
  exact jT_fX [0, 2, 3, 4, 5, 6, 7, 8, 9, 10, 11, 12] 13 (y := 144) (pcN := 8) (dC := 1) (bc1 := 1) (bc2 := 6) (as := [(4, 0), (0, x1), (0, x2)]) (asC := [(4, 0), (0, x1), (0, x2)]) (LN := [(0, (4, 0)), (1, (0, x1)), (2, (0, x2)), (3, (4, 1))]) (stN := [(0, 0), (4, 1)]) (hsC := jpA_6) (e := 0) (jA_144_814 (d := 0) (by omega) (by omega)) (by rfl) (by rfl) (by decide +kernel) (by rfl) (by rfl) (by omega) (by omega) (by omega) (by omega) (show _ from ⟨rfl, rfl, rfl⟩)
theorem jI_271_0 : jmI (jm 271) 0 = (.aload_n 0, 1) := by rfl
theorem jI_271_1 : jmI (jm 271) 1 = (.iload_n 1, 1) := by rfl
theorem jI_271_2 : jmI (jm 271) 2 = (.i2l, 1) := by rfl
theorem jI_271_3 : jmI (jm 271) 3 = (.lconst 0, 1) := by rfl
theorem jI_271_4 : jmI (jm 271) 4 = (.aload_n 0, 1) := by rfl
theorem jI_271_5 : jmI (jm 271) 5 = (.getfield 375, 3) := by rfl
theorem jI_271_8 : jmI (jm 271) 8 = (.iconst 1, 1) := by rfl
theorem jI_271_9 : jmI (jm 271) 9 = (.isub, 1) := by rfl
theorem jI_271_10 : jmI (jm 271) 10 = (.i2l, 1) := by rfl
theorem jI_271_17 : jmI (jm 271) 17 = (.ifCond .ne 20, 3) := by rfl
theorem jI_271_37 : jmI (jm 271) 37 = (.iconst 0, 1) := by rfl
theorem jA_271_816 {xs : List Int} {d : Nat} {x1 x2 : Int} (h_x1 : (-2147483648) ≤ x1 ∧ x1 ≤ (-1)) (h_x2 : (-2147483648) ≤ x2 ∧ x2 ≤ 2147483647) : jT xs (d + 2) 271 16 0 [(0, (4, 0)), (1, (0, x1)), (2, (0, x2))] [] jpA_22 0 0 (fun k v hsN => k = 0 ∧ v = (0, 0) ∧ hsN = jpA_20) := by
  refine jT_xaload_n (v := (4, 0)) (pcN := 1) jI_271_0 rfl rfl rfl ?_
  refine jT_xiload_n (v := (0, x1)) (pcN := 2) jI_271_1 rfl rfl rfl ?_
  refine jT_xi2l (x := x1) (z := x1) (pcN := 3) jI_271_2 rfl (jw_idd (by omega) (by omega)) rfl ?_
  refine jT_xlconst (z := 0) (pcN := 4) jI_271_3 rfl rfl ?_
  refine jT_xaload_n (v := (4, 0)) (pcN := 5) jI_271_4 rfl rfl rfl ?_
  refine jT_xgetf (a := 0) (t := 1) (ci := 14) (fi := 7) (c := jzA_21) (v := (0, 0)) (pcN := 8) jI_271_5 rfl rfl rfl rfl rfl rfl rfl ?_
  refine jT_xiconst (k := 1) (pcN := 9) jI_271_8 rfl ?_
  refine jT_xisub (x := 0) (y := 1) (z := (-1)) (pcN := 10) jI_271_9 rfl (by decide) rfl ?_
  refine jT_xi2l (x := (-1)) (z := (-1)) (pcN := 11) jI_271_10 rfl (by decide +kernel) rfl ?_
  refine jT_fR [] 16 (y := 189) (pcN := 14) (dC := 0) (bc1 := 0) (bc2 := 0) (c1 := 0) (c2 := 0) (as := [(1, x1), (1, 0), (1, (-1))]) (asC := [(1, x1), (1, 0), (1, (-1))]) (LN := [(0, (4, 0)), (1, (0, x1)), (2, (0, x2))]) (stN := [(4, 0)]) (hsC := []) (v := (0, 0)) (st2 := [(0, 0), (4, 0)]) (jT_in_lo (d := 0) (v := x1) (lo := 0) (hi := (-1)) (by omega) (by omega) (by omega) (by omega)) (by rfl) (by rfl) (by decide +kernel) (by rfl) (by rfl) (by omega) (by omega) (by omega) (by omega) rfl ?_
  refine jT_fB [0, 1, 2, 3, 4, 5, 6, 7, 8, 9, 10, 11, 12, 13, 14, 15] 16 (y := 190) (pcN := 17) (dC := 1) (bc1 := 0) (bc2 := 0) (c1 := 0) (c2 := 0) (as := [(4, 0), (0, 0)]) (asC := [(4, 0), (0, 0)]) (LN := [(0, (4, 0)), (1, (0, x1)), (2, (0, x2))]) (stN := []) (hsC := jpA_22) (hsD := jpA_20) (v := (0, 1)) (st2 := [(0, 1)]) (hs2 := jpA_20) (jA_190_6 (d := 0)) (by rfl) (by rfl) (by decide +kernel) (by rfl) (by rfl) (by omega) (by omega) (by omega) (by omega) rfl (by decide +kernel) ?_
  refine jT_xifT (pcN := 37) jI_271_17 rfl (by decide +kernel) rfl ?_
  refine jT_xiconst (k := 0) (pcN := 38) jI_271_37 rfl ?_
  exact jT_ret rfl (by decide) (by show 16 ≤ 16; decide) (by omega) (by omega) ⟨rfl, rfl, rfl⟩
theorem jA_115_817 {xs : List Int} {d : Nat} {x1 : Int} (h_x1 : 0 ≤ x1 ∧ x1 ≤ 2147483647) : jT xs d 115 1 0 [(0, (4, 0)), (1, (0, x1)), (2, (0, 0))] [] [jgh] 1 6 (fun k v hsN => k = 1 ∧ v = (0, 0) ∧ hsN = [jgh] ++ []) := by
  refine jT_xiload_n (v := (0, x1)) (pcN := 1) jI_115_0 rfl rfl rfl ?_
  refine jT_ifF (a := x1) (t := 9) (by rfl) (by rfl) (by rfl) (jw_idd (by omega) (by omega)) (by simp only [jcP] <;> omega) ?_
  refine jT_xiload_n (v := (0, x1)) (pcN := 5) jI_115_4 rfl rfl rfl ?_
  refine jT_xiload_n (v := (0, 0)) (pcN := 6) jI_115_5 rfl rfl rfl ?_
  refine jT_icF (a := x1) (b := 0) (t := 20) (by rfl) (by rfl) (by rfl) (jw_idd (by omega) (by omega)) (jw_idd (by omega) (by omega)) (by simp only [jcP] <;> omega) ?_
  exact jT_ret (c1 := 1) (s1 := 6) rfl (by decide) (by show 1 ≤ 1; decide) (by omega) (by omega) ⟨rfl, rfl, rfl⟩
theorem jA_144_818 {xs : List Int} {d : Nat} {x1 x2 : Int} (h_x1 : 0 ≤ x1 ∧ x1 ≤ 2147483647) (h_x2 : (-2147483648) ≤ x2 ∧ x2 ≤ 2147483647) : jT xs (d + 1) 144 12 0 [(0, (4, 0)), (1, (0, x1)), (2, (0, x2))] [] jpA_6 1 6 (fun k v hsN => k = 1 ∧ v = (0, 0) ∧ hsN = jpA_6 ++ []) := by
  refine jT_xaload_n (v := (4, 0)) (pcN := 1) jI_144_0 rfl rfl rfl ?_
  refine jT_xiload_n (v := (0, x1)) (pcN := 2) jI_144_1 rfl rfl rfl ?_
  refine jT_xaload_n (v := (4, 0)) (pcN := 3) jI_144_2 rfl rfl rfl ?_
  refine jT_xgetf (a := 0) (t := 1) (ci := 13) (fi := 12) (c := jzA_5) (v := (0, 0)) (pcN := 6) jI_144_3 rfl rfl rfl rfl rfl rfl rfl ?_
  refine jT_xifT (pcN := 13) jI_144_6 rfl (by decide +kernel) rfl ?_
  refine jT_xiconst (k := 0) (pcN := 14) jI_144_13 rfl ?_
  exact jT_fX [0] 12 (y := 115) (pcN := 17) (dC := 0) (bc1 := 1) (bc2 := 6) (as := [(4, 0), (0, x1), (0, 0)]) (asC := [(4, 0), (0, x1), (0, 0)]) (LN := [(0, (4, 0)), (1, (0, x1)), (2, (0, x2))]) (stN := []) (hsC := [jgh]) (e := 0) (jA_115_817 (d := 0) (by omega)) (by rfl) (by rfl) (by decide +kernel) (by rfl) (by rfl) (by omega) (by omega) (by omega) (by omega) ⟨rfl, ⟨rfl, rfl, rfl⟩⟩
theorem jA_349_819 {xs : List Int} {d : Nat} {x1 x2 : Int} (h_x1 : 0 ≤ x1 ∧ x1 ≤ 2147483647) (h_x2 : (-2147483648) ≤ x2 ∧ x2 ≤ 2147483647) : jT xs (d + 2) 349 13 0 [(0, (4, 0)), (1, (0, x1)), (2, (0, x2)), (3, (4, 1))] [] jpA_15 1 6 (fun k v hsN => k = 0 ∧ v = (0, 1) ∧ hsN = jpA_15 ++ []) := by
  refine jT_xaload_n (v := (4, 1)) (pcN := 1) jI_349_0 rfl rfl rfl ?_
  refine jT_xiconst (k := 0) (pcN := 2) jI_349_1 rfl ?_
  refine jT_xaload_n (v := (4, 0)) (pcN := 3) jI_349_2 rfl rfl rfl ?_
  refine jT_xiload_n (v := (0, x1)) (pcN := 4) jI_349_3 rfl rfl rfl ?_
  refine jT_xiload_n (v := (0, x2)) (pcN := 5) jI_349_4 rfl rfl rfl ?_
  exact jT_fX [0, 2, 3, 4, 5, 6, 7, 8, 9, 10, 11, 12] 13 (y := 144) (pcN := 8) (dC := 1) (bc1 := 1) (bc2 := 6) (as := [(4, 0), (0, x1), (0, x2)]) (asC := [(4, 0), (0, x1), (0, x2)]) (LN := [(0, (4, 0)), (1, (0, x1)), (2, (0, x2)), (3, (4, 1))]) (stN := [(0, 0), (4, 1)]) (hsC := jpA_6) (e := 0) (jA_144_818 (d := 0) (by omega) (by omega)) (by rfl) (by rfl) (by decide +kernel) (by rfl) (by rfl) (by omega) (by omega) (by omega) (by omega) (show _ from ⟨rfl, rfl, rfl⟩)
theorem jA_271_820 {xs : List Int} {d : Nat} {x1 x2 : Int} (h_x1 : 0 ≤ x1 ∧ x1 ≤ 2147483647) (h_x2 : (-2147483648) ≤ x2 ∧ x2 ≤ 2147483647) : jT xs (d + 2) 271 16 0 [(0, (4, 0)), (1, (0, x1)), (2, (0, x2))] [] jpA_22 0 0 (fun k v hsN => k = 0 ∧ v = (0, 0) ∧ hsN = jpA_20) := by
  refine jT_xaload_n (v := (4, 0)) (pcN := 1) jI_271_0 rfl rfl rfl ?_
  refine jT_xiload_n (v := (0, x1)) (pcN := 2) jI_271_1 rfl rfl rfl ?_
  refine jT_xi2l (x := x1) (z := x1) (pcN := 3) jI_271_2 rfl (jw_idd (by omega) (by omega)) rfl ?_
  refine jT_xlconst (z := 0) (pcN := 4) jI_271_3 rfl rfl ?_
  refine jT_xaload_n (v := (4, 0)) (pcN := 5) jI_271_4 rfl rfl rfl ?_
  refine jT_xgetf (a := 0) (t := 1) (ci := 14) (fi := 7) (c := jzA_21) (v := (0, 0)) (pcN := 8) jI_271_5 rfl rfl rfl rfl rfl rfl rfl ?_
  refine jT_xiconst (k := 1) (pcN := 9) jI_271_8 rfl ?_
  refine jT_xisub (x := 0) (y := 1) (z := (-1)) (pcN := 10) jI_271_9 rfl (by decide) rfl ?_
  refine jT_xi2l (x := (-1)) (z := (-1)) (pcN := 11) jI_271_10 rfl (by decide +kernel) rfl ?_
  refine jT_fR [] 16 (y := 189) (pcN := 14) (dC := 0) (bc1 := 0) (bc2 := 0) (c1 := 0) (c2 := 0) (as := [(1, x1), (1, 0), (1, (-1))]) (asC := [(1, x1), (1, 0), (1, (-1))]) (LN := [(0, (4, 0)), (1, (0, x1)), (2, (0, x2))]) (stN := [(4, 0)]) (hsC := []) (v := (0, 0)) (st2 := [(0, 0), (4, 0)]) (jT_in_hi (d := 0) (v := x1) (lo := 0) (hi := (-1)) (by omega) (by omega) (by omega) (by omega) (by omega)) (by rfl) (by rfl) (by decide +kernel) (by rfl) (by rfl) (by omega) (by omega) (by omega) (by omega) rfl ?_
  refine jT_fB [0, 1, 2, 3, 4, 5, 6, 7, 8, 9, 10, 11, 12, 13, 14, 15] 16 (y := 190) (pcN := 17) (dC := 1) (bc1 := 0) (bc2 := 0) (c1 := 0) (c2 := 0) (as := [(4, 0), (0, 0)]) (asC := [(4, 0), (0, 0)]) (LN := [(0, (4, 0)), (1, (0, x1)), (2, (0, x2))]) (stN := []) (hsC := jpA_22) (hsD := jpA_20) (v := (0, 1)) (st2 := [(0, 1)]) (hs2 := jpA_20) (jA_190_6 (d := 0)) (by rfl) (by rfl) (by decide +kernel) (by rfl) (by rfl) (by omega) (by omega) (by omega) (by omega) rfl (by decide +kernel) ?_
  refine jT_xifT (pcN := 37) jI_271_17 rfl (by decide +kernel) rfl ?_
  refine jT_xiconst (k := 0) (pcN := 38) jI_271_37 rfl ?_
  exact jT_ret rfl (by decide) (by show 16 ≤ 16; decide) (by omega) (by omega) ⟨rfl, rfl, rfl⟩
theorem jI_379_2018 : jmI (jm 379) 2018 = (.aload_n 1, 1) := by rfl
theorem jI_379_2019 : jmI (jm 379) 2019 = (.aload_n 0, 1) := by rfl
theorem jI_379_2020 : jmI (jm 379) 2020 = (.iload 5, 2) := by rfl
theorem jI_379_2022 : jmI (jm 379) 2022 = (.iconst 1, 1) := by rfl
theorem jI_379_2023 : jmI (jm 379) 2023 = (.iadd, 1) := by rfl
theorem jI_379_2025 : jmI (jm 379) 2025 = (.aload_n 0, 1) := by rfl
theorem jI_379_2026 : jmI (jm 379) 2026 = (.iload 5, 2) := by rfl
theorem jI_379_2028 : jmI (jm 379) 2028 = (.iconst 2, 1) := by rfl
theorem jI_379_2029 : jmI (jm 379) 2029 = (.iadd, 1) := by rfl
theorem jI_379_2031 : jmI (jm 379) 2031 = (.aload_n 3, 1) := by rfl
theorem jI_379_2035 : jmI (jm 379) 2035 = (.istore 6, 2) := by rfl
theorem jI_379_2037 : jmI (jm 379) 2037 = (.aload_n 2, 1) := by rfl
theorem jI_379_2038 : jmI (jm 379) 2038 = (.aload_n 0, 1) := by rfl
theorem jI_379_2039 : jmI (jm 379) 2039 = (.iload 5, 2) := by rfl
theorem jI_379_2041 : jmI (jm 379) 2041 = (.iconst 1, 1) := by rfl
theorem jI_379_2042 : jmI (jm 379) 2042 = (.iadd, 1) := by rfl
theorem jI_379_2044 : jmI (jm 379) 2044 = (.aload_n 0, 1) := by rfl
theorem jI_379_2045 : jmI (jm 379) 2045 = (.iload 5, 2) := by rfl
theorem jI_379_2047 : jmI (jm 379) 2047 = (.iconst 2, 1) := by rfl
theorem jI_379_2048 : jmI (jm 379) 2048 = (.iadd, 1) := by rfl
theorem jI_379_2053 : jmI (jm 379) 2053 = (.istore 7, 2) := by rfl
theorem jI_379_2055 : jmI (jm 379) 2055 = (.aload_n 2, 1) := by rfl
theorem jI_379_2059 : jmI (jm 379) 2059 = (.iload 6, 2) := by rfl
theorem jI_379_2061 : jmI (jm 379) 2061 = (.if_icmp .eq 5, 3) := by rfl
theorem jI_379_2066 : jmI (jm 379) 2066 = (.iload 6, 2) := by rfl
theorem jI_379_2068 : jmI (jm 379) 2068 = (.ifCond .ne 15, 3) := by rfl
theorem jI_379_2083 : jmI (jm 379) 2083 = (.goto 1657, 3) := by rfl
set_option maxRecDepth 100000 in
theorem jL_25_0 {d : Nat} {x0 x1 x2 x3 x4 : Int} (h_x0 : (-2147483648) ≤ x0 ∧ x0 ≤ 2147483647) (h_x1 : (-2147483648) ≤ x1 ∧ x1 ≤ (-1)) (h_x2 : (-2147483648) ≤ x2 ∧ x2 ≤ 2147483647) (h_x3 : (-2147483648) ≤ x3 ∧ x3 ≤ 2147483647) (h_x4 : (-2147483648) ≤ x4 ∧ x4 ≤ 2147483647) : jT [x0, x1, x2, x3, x4] (d + 3) 379 30 2018 [(5, (0, 0)), (4, (4, 3)), (3, (4, 2)), (2, (4, 1)), (1, (4, 0)), (0, (6, 0))] [] jpA_267 1 6 (fun k v hsN => k = 0 ∧ v = (0, 1)) := by
  refine jT_xaload_n (v := (4, 0)) (pcN := 2019) jI_379_2018 rfl rfl rfl ?_
  refine jT_xaload_n (v := (6, 0)) (pcN := 2020) jI_379_2019 rfl rfl rfl ?_
  refine jT_xiload (v := (0, 0)) (pcN := 2022) jI_379_2020 rfl rfl rfl ?_
  refine jT_xiconst (k := 1) (pcN := 2023) jI_379_2022 rfl ?_
  refine jT_xiadd (x := 0) (y := 1) (z := 1) (pcN := 2024) jI_379_2023 rfl (by decide) rfl ?_
  refine jT_adv 1 (pcN := 2025) (LN := [(5, (0, 0)), (4, (4, 3)), (3, (4, 2)), (2, (4, 1)), (1, (4, 0)), (0, (6, 0))]) (stN := [(0, x1), (4, 0)]) (hsN := jpA_267) (c1 := 0) (s1 := 0) (c2 := 1) (s2 := 6) (by exact rfl) ?_ (by omega) (by omega)
  refine jT_xaload_n (v := (6, 0)) (pcN := 2026) jI_379_2025 rfl rfl rfl ?_
  refine jT_xiload (v := (0, 0)) (pcN := 2028) jI_379_2026 rfl rfl rfl ?_
  refine jT_xiconst (k := 2) (pcN := 2029) jI_379_2028 rfl ?_
  refine jT_xiadd (x := 0) (y := 2) (z := 2) (pcN := 2030) jI_379_2029 rfl (by decide) rfl ?_
  refine jT_adv 1 (pcN := 2031) (LN := [(5, (0, 0)), (4, (4, 3)), (3, (4, 2)), (2, (4, 1)), (1, (4, 0)), (0, (6, 0))]) (stN := [(0, x2), (0, x1), (4, 0)]) (hsN := jpA_267) (c1 := 0) (s1 := 0) (c2 := 1) (s2 := 6) (by exact rfl) ?_ (by omega) (by omega)
  refine jT_xaload_n (v := (4, 2)) (pcN := 2032) jI_379_2031 rfl rfl rfl ?_
  refine jT_fR [0, 2, 4, 5, 6, 7, 8, 9, 10, 11, 12, 13, 14] 30 (y := 349) (pcN := 2035) (dC := 2) (bc1 := 1) (bc2 := 6) (c1 := 0) (c2 := 0) (as := [(4, 0), (0, x1), (0, x2), (4, 2)]) (asC := [(4, 0), (0, x1), (0, x2), (4, 1)]) (LN := [(5, (0, 0)), (4, (4, 3)), (3, (4, 2)), (2, (4, 1)), (1, (4, 0)), (0, (6, 0))]) (stN := []) (hsC := jpA_15) (v := (0, 1)) (st2 := [(0, 1)]) (jA_349_815 (d := 0) (by omega) (by omega)) (by rfl) (by rfl) (by decide +kernel) (by rfl) (by rfl) (by omega) (by omega) (by omega) (by omega) rfl ?_
  refine jT_xistore (v := (0, 1)) (LN := [(6, (0, 1)), (5, (0, 0)), (4, (4, 3)), (3, (4, 2)), (2, (4, 1)), (1, (4, 0)), (0, (6, 0))]) (pcN := 2037) jI_379_2035 rfl rfl rfl rfl ?_
  refine jT_xaload_n (v := (4, 1)) (pcN := 2038) jI_379_2037 rfl rfl rfl ?_
  refine jT_xaload_n (v := (6, 0)) (pcN := 2039) jI_379_2038 rfl rfl rfl ?_
  refine jT_xiload (v := (0, 0)) (pcN := 2041) jI_379_2039 rfl rfl rfl ?_
  refine jT_xiconst (k := 1) (pcN := 2042) jI_379_2041 rfl ?_
  refine jT_xiadd (x := 0) (y := 1) (z := 1) (pcN := 2043) jI_379_2042 rfl (by decide) rfl ?_
  refine jT_adv 1 (pcN := 2044) (LN := [(6, (0, 1)), (5, (0, 0)), (4, (4, 3)), (3, (4, 2)), (2, (4, 1)), (1, (4, 0)), (0, (6, 0))]) (stN := [(0, x1), (4, 1)]) (hsN := jpA_267) (c1 := 0) (s1 := 0) (c2 := 0) (s2 := 0) (by exact rfl) ?_ (by omega) (by omega)
  refine jT_xaload_n (v := (6, 0)) (pcN := 2045) jI_379_2044 rfl rfl rfl ?_
  refine jT_xiload (v := (0, 0)) (pcN := 2047) jI_379_2045 rfl rfl rfl ?_
  refine jT_xiconst (k := 2) (pcN := 2048) jI_379_2047 rfl ?_
  refine jT_xiadd (x := 0) (y := 2) (z := 2) (pcN := 2049) jI_379_2048 rfl (by decide) rfl ?_
  refine jT_adv 1 (pcN := 2050) (LN := [(6, (0, 1)), (5, (0, 0)), (4, (4, 3)), (3, (4, 2)), (2, (4, 1)), (1, (4, 0)), (0, (6, 0))]) (stN := [(0, x2), (0, x1), (4, 1)]) (hsN := jpA_267) (c1 := 0) (s1 := 0) (c2 := 0) (s2 := 0) (by exact rfl) ?_ (by omega) (by omega)
  refine jT_fB [1, 15, 16, 17, 18, 19, 20, 21, 22, 23, 24, 25, 26, 27, 28, 29] 30 (y := 271) (pcN := 2053) (dC := 2) (bc1 := 0) (bc2 := 0) (c1 := 0) (c2 := 0) (as := [(4, 1), (0, x1), (0, x2)]) (asC := [(4, 0), (0, x1), (0, x2)]) (LN := [(6, (0, 1)), (5, (0, 0)), (4, (4, 3)), (3, (4, 2)), (2, (4, 1)), (1, (4, 0)), (0, (6, 0))]) (stN := []) (hsC := jpA_22) (hsD := jpA_20) (v := (0, 0)) (st2 := [(0, 0)]) (hs2 := jpA_306) (jA_271_816 (d := 0) (by omega) (by omega)) (by rfl) (by rfl) (by decide +kernel) (by rfl) (by rfl) (by omega) (by omega) (by omega) (by omega) rfl (by decide +kernel) ?_
  refine jT_xistore (v := (0, 0)) (LN := [(7, (0, 0)), (6, (0, 1)), (5, (0, 0)), (4, (4, 3)), (3, (4, 2)), (2, (4, 1)), (1, (4, 0)), (0, (6, 0))]) (pcN := 2055) jI_379_2053 rfl rfl rfl rfl ?_
  refine jT_xaload_n (v := (4, 1)) (pcN := 2056) jI_379_2055 rfl rfl rfl ?_
  refine jT_fR [1, 15, 16, 17, 18, 19, 20, 21, 22, 23, 24, 25, 26, 27, 28, 29] 30 (y := 186) (pcN := 2059) (dC := 0) (bc1 := 0) (bc2 := 0) (c1 := 0) (c2 := 0) (as := [(4, 1)]) (asC := [(4, 0)]) (LN := [(7, (0, 0)), (6, (0, 1)), (5, (0, 0)), (4, (4, 3)), (3, (4, 2)), (2, (4, 1)), (1, (4, 0)), (0, (6, 0))]) (stN := []) (hsC := jpA_20) (v := (0, 1)) (st2 := [(0, 1)]) (jA_186_8 (d := 0)) (by rfl) (by rfl) (by decide +kernel) (by rfl) (by rfl) (by omega) (by omega) (by omega) (by omega) rfl ?_
  refine jT_xiload (v := (0, 1)) (pcN := 2061) jI_379_2059 rfl rfl rfl ?_
  refine jT_xicT (pcN := 2066) jI_379_2061 rfl (by decide +kernel) rfl ?_
  refine jT_xiload (v := (0, 1)) (pcN := 2068) jI_379_2066 rfl rfl rfl ?_
  refine jT_xifT (pcN := 2083) jI_379_2068 rfl (by decide +kernel) rfl ?_
  refine jT_xgoto (pcN := 3740) jI_379_2083 rfl ?_
  refine jT_xiinc (x := 0) (z := 5) (LN := [(5, (0, 5)), (7, (0, 0)), (6, (0, 1)), (4, (4, 3)), (3, (4, 2)), (2, (4, 1)), (1, (4, 0)), (0, (6, 0))]) (pcN := 3743) jI_379_3740 rfl rfl (by decide) rfl rfl ?_
  refine jT_xgoto (pcN := 28) jI_379_3743 rfl ?_
  refine jT_xiload (v := (0, 5)) (pcN := 30) jI_379_28 rfl rfl rfl ?_
  refine jT_xaload_n (v := (6, 0)) (pcN := 31) jI_379_30 rfl rfl rfl ?_
  refine jT_adv 1 (pcN := 32) (LN := [(5, (0, 5)), (7, (0, 0)), (6, (0, 1)), (4, (4, 3)), (3, (4, 2)), (2, (4, 1)), (1, (4, 0)), (0, (6, 0))]) (stN := [(0, 5), (0, 5)]) (hsN := jpA_306) (c1 := 0) (s1 := 0) (c2 := 0) (s2 := 0) (by exact rfl) ?_ (by omega) (by omega)
  refine jT_xiconst (k := 5) (pcN := 33) jI_379_32 rfl ?_
  refine jT_xisub (x := 5) (y := 5) (z := 0) (pcN := 34) jI_379_33 rfl (by decide) rfl ?_
  refine jT_xicT (pcN := 3746) jI_379_34 rfl (by decide +kernel) rfl ?_
  refine jT_xiconst (k := 1) (pcN := 3747) jI_379_3746 rfl ?_
  exact jT_ret rfl (by decide) (by show 30 ≤ 30; decide) (by omega) (by omega) ⟨rfl, rfl⟩
set_option maxRecDepth 100000 in
theorem jL_25_1 {d : Nat} {x0 x1 x2 x3 x4 : Int} (h_x0 : (-2147483648) ≤ x0 ∧ x0 ≤ 2147483647) (h_x1 : 0 ≤ x1 ∧ x1 ≤ 2147483647) (h_x2 : (-2147483648) ≤ x2 ∧ x2 ≤ 2147483647) (h_x3 : (-2147483648) ≤ x3 ∧ x3 ≤ 2147483647) (h_x4 : (-2147483648) ≤ x4 ∧ x4 ≤ 2147483647) : jT [x0, x1, x2, x3, x4] (d + 3) 379 30 2018 [(5, (0, 0)), (4, (4, 3)), (3, (4, 2)), (2, (4, 1)), (1, (4, 0)), (0, (6, 0))] [] jpA_267 1 6 (fun k v hsN => k = 0 ∧ v = (0, 1)) := by
  refine jT_xaload_n (v := (4, 0)) (pcN := 2019) jI_379_2018 rfl rfl rfl ?_
  refine jT_xaload_n (v := (6, 0)) (pcN := 2020) jI_379_2019 rfl rfl rfl ?_
  refine jT_xiload (v := (0, 0)) (pcN := 2022) jI_379_2020 rfl rfl rfl ?_
  refine jT_xiconst (k := 1) (pcN := 2023) jI_379_2022 rfl ?_
  refine jT_xiadd (x := 0) (y := 1) (z := 1) (pcN := 2024) jI_379_2023 rfl (by decide) rfl ?_
  refine jT_adv 1 (pcN := 2025) (LN := [(5, (0, 0)), (4, (4, 3)), (3, (4, 2)), (2, (4, 1)), (1, (4, 0)), (0, (6, 0))]) (stN := [(0, x1), (4, 0)]) (hsN := jpA_267) (c1 := 0) (s1 := 0) (c2 := 1) (s2 := 6) (by exact rfl) ?_ (by omega) (by omega)
  refine jT_xaload_n (v := (6, 0)) (pcN := 2026) jI_379_2025 rfl rfl rfl ?_
  refine jT_xiload (v := (0, 0)) (pcN := 2028) jI_379_2026 rfl rfl rfl ?_
  refine jT_xiconst (k := 2) (pcN := 2029) jI_379_2028 rfl ?_
  refine jT_xiadd (x := 0) (y := 2) (z := 2) (pcN := 2030) jI_379_2029 rfl (by decide) rfl ?_
  refine jT_adv 1 (pcN := 2031) (LN := [(5, (0, 0)), (4, (4, 3)), (3, (4, 2)), (2, (4, 1)), (1, (4, 0)), (0, (6, 0))]) (stN := [(0, x2), (0, x1), (4, 0)]) (hsN := jpA_267) (c1 := 0) (s1 := 0) (c2 := 1) (s2 := 6) (by exact rfl) ?_ (by omega) (by omega)
  refine jT_xaload_n (v := (4, 2)) (pcN := 2032) jI_379_2031 rfl rfl rfl ?_
  refine jT_fR [0, 2, 4, 5, 6, 7, 8, 9, 10, 11, 12, 13, 14] 30 (y := 349) (pcN := 2035) (dC := 2) (bc1 := 1) (bc2 := 6) (c1 := 0) (c2 := 0) (as := [(4, 0), (0, x1), (0, x2), (4, 2)]) (asC := [(4, 0), (0, x1), (0, x2), (4, 1)]) (LN := [(5, (0, 0)), (4, (4, 3)), (3, (4, 2)), (2, (4, 1)), (1, (4, 0)), (0, (6, 0))]) (stN := []) (hsC := jpA_15) (v := (0, 1)) (st2 := [(0, 1)]) (jA_349_819 (d := 0) (by omega) (by omega)) (by rfl) (by rfl) (by decide +kernel) (by rfl) (by rfl) (by omega) (by omega) (by omega) (by omega) rfl ?_
  refine jT_xistore (v := (0, 1)) (LN := [(6, (0, 1)), (5, (0, 0)), (4, (4, 3)), (3, (4, 2)), (2, (4, 1)), (1, (4, 0)), (0, (6, 0))]) (pcN := 2037) jI_379_2035 rfl rfl rfl rfl ?_
  refine jT_xaload_n (v := (4, 1)) (pcN := 2038) jI_379_2037 rfl rfl rfl ?_
  refine jT_xaload_n (v := (6, 0)) (pcN := 2039) jI_379_2038 rfl rfl rfl ?_
  refine jT_xiload (v := (0, 0)) (pcN := 2041) jI_379_2039 rfl rfl rfl ?_
  refine jT_xiconst (k := 1) (pcN := 2042) jI_379_2041 rfl ?_
  refine jT_xiadd (x := 0) (y := 1) (z := 1) (pcN := 2043) jI_379_2042 rfl (by decide) rfl ?_
  refine jT_adv 1 (pcN := 2044) (LN := [(6, (0, 1)), (5, (0, 0)), (4, (4, 3)), (3, (4, 2)), (2, (4, 1)), (1, (4, 0)), (0, (6, 0))]) (stN := [(0, x1), (4, 1)]) (hsN := jpA_267) (c1 := 0) (s1 := 0) (c2 := 0) (s2 := 0) (by exact rfl) ?_ (by omega) (by omega)
  refine jT_xaload_n (v := (6, 0)) (pcN := 2045) jI_379_2044 rfl rfl rfl ?_
  refine jT_xiload (v := (0, 0)) (pcN := 2047) jI_379_2045 rfl rfl rfl ?_
  refine jT_xiconst (k := 2) (pcN := 2048) jI_379_2047 rfl ?_
  refine jT_xiadd (x := 0) (y := 2) (z := 2) (pcN := 2049) jI_379_2048 rfl (by decide) rfl ?_
  refine jT_adv 1 (pcN := 2050) (LN := [(6, (0, 1)), (5, (0, 0)), (4, (4, 3)), (3, (4, 2)), (2, (4, 1)), (1, (4, 0)), (0, (6, 0))]) (stN := [(0, x2), (0, x1), (4, 1)]) (hsN := jpA_267) (c1 := 0) (s1 := 0) (c2 := 0) (s2 := 0) (by exact rfl) ?_ (by omega) (by omega)
  refine jT_fB [1, 15, 16, 17, 18, 19, 20, 21, 22, 23, 24, 25, 26, 27, 28, 29] 30 (y := 271) (pcN := 2053) (dC := 2) (bc1 := 0) (bc2 := 0) (c1 := 0) (c2 := 0) (as := [(4, 1), (0, x1), (0, x2)]) (asC := [(4, 0), (0, x1), (0, x2)]) (LN := [(6, (0, 1)), (5, (0, 0)), (4, (4, 3)), (3, (4, 2)), (2, (4, 1)), (1, (4, 0)), (0, (6, 0))]) (stN := []) (hsC := jpA_22) (hsD := jpA_20) (v := (0, 0)) (st2 := [(0, 0)]) (hs2 := jpA_306) (jA_271_820 (d := 0) (by omega) (by omega)) (by rfl) (by rfl) (by decide +kernel) (by rfl) (by rfl) (by omega) (by omega) (by omega) (by omega) rfl (by decide +kernel) ?_
  refine jT_xistore (v := (0, 0)) (LN := [(7, (0, 0)), (6, (0, 1)), (5, (0, 0)), (4, (4, 3)), (3, (4, 2)), (2, (4, 1)), (1, (4, 0)), (0, (6, 0))]) (pcN := 2055) jI_379_2053 rfl rfl rfl rfl ?_
  refine jT_xaload_n (v := (4, 1)) (pcN := 2056) jI_379_2055 rfl rfl rfl ?_
  refine jT_fR [1, 15, 16, 17, 18, 19, 20, 21, 22, 23, 24, 25, 26, 27, 28, 29] 30 (y := 186) (pcN := 2059) (dC := 0) (bc1 := 0) (bc2 := 0) (c1 := 0) (c2 := 0) (as := [(4, 1)]) (asC := [(4, 0)]) (LN := [(7, (0, 0)), (6, (0, 1)), (5, (0, 0)), (4, (4, 3)), (3, (4, 2)), (2, (4, 1)), (1, (4, 0)), (0, (6, 0))]) (stN := []) (hsC := jpA_20) (v := (0, 1)) (st2 := [(0, 1)]) (jA_186_8 (d := 0)) (by rfl) (by rfl) (by decide +kernel) (by rfl) (by rfl) (by omega) (by omega) (by omega) (by omega) rfl ?_
  refine jT_xiload (v := (0, 1)) (pcN := 2061) jI_379_2059 rfl rfl rfl ?_
  refine jT_xicT (pcN := 2066) jI_379_2061 rfl (by decide +kernel) rfl ?_
  refine jT_xiload (v := (0, 1)) (pcN := 2068) jI_379_2066 rfl rfl rfl ?_
  refine jT_xifT (pcN := 2083) jI_379_2068 rfl (by decide +kernel) rfl ?_
  refine jT_xgoto (pcN := 3740) jI_379_2083 rfl ?_
  refine jT_xiinc (x := 0) (z := 5) (LN := [(5, (0, 5)), (7, (0, 0)), (6, (0, 1)), (4, (4, 3)), (3, (4, 2)), (2, (4, 1)), (1, (4, 0)), (0, (6, 0))]) (pcN := 3743) jI_379_3740 rfl rfl (by decide) rfl rfl ?_
  refine jT_xgoto (pcN := 28) jI_379_3743 rfl ?_
  refine jT_xiload (v := (0, 5)) (pcN := 30) jI_379_28 rfl rfl rfl ?_
  refine jT_xaload_n (v := (6, 0)) (pcN := 31) jI_379_30 rfl rfl rfl ?_
  refine jT_adv 1 (pcN := 32) (LN := [(5, (0, 5)), (7, (0, 0)), (6, (0, 1)), (4, (4, 3)), (3, (4, 2)), (2, (4, 1)), (1, (4, 0)), (0, (6, 0))]) (stN := [(0, 5), (0, 5)]) (hsN := jpA_306) (c1 := 0) (s1 := 0) (c2 := 0) (s2 := 0) (by exact rfl) ?_ (by omega) (by omega)
  refine jT_xiconst (k := 5) (pcN := 33) jI_379_32 rfl ?_
  refine jT_xisub (x := 5) (y := 5) (z := 0) (pcN := 34) jI_379_33 rfl (by decide) rfl ?_
  refine jT_xicT (pcN := 3746) jI_379_34 rfl (by decide +kernel) rfl ?_
  refine jT_xiconst (k := 1) (pcN := 3747) jI_379_3746 rfl ?_
  exact jT_ret rfl (by decide) (by show 30 ≤ 30; decide) (by omega) (by omega) ⟨rfl, rfl⟩
theorem jI_145_0 : jmI (jm 145) 0 = (.aload_n 0, 1) := by rfl
theorem jI_145_1 : jmI (jm 145) 1 = (.iload_n 1, 1) := by rfl
theorem jI_145_2 : jmI (jm 145) 2 = (.bipush 8, 2) := by rfl
theorem jA_145_821 {xs : List Int} {d : Nat} {x1 : Int} (h_x1 : (-2147483648) ≤ x1 ∧ x1 ≤ (-1)) : jT xs (d + 1) 145 12 0 [(0, (4, 0)), (1, (0, x1))] [] jpA_6 1 6 (fun k v hsN => k = 1 ∧ v = (0, 0) ∧ hsN = jpA_6 ++ []) := by
  refine jT_xaload_n (v := (4, 0)) (pcN := 1) jI_145_0 rfl rfl rfl ?_
  refine jT_xiload_n (v := (0, x1)) (pcN := 2) jI_145_1 rfl rfl rfl ?_
  refine jT_xbipush (k := 8) (pcN := 4) jI_145_2 (by decide) rfl ?_
  exact jT_fX [0] 12 (y := 115) (pcN := 7) (dC := 0) (bc1 := 1) (bc2 := 6) (as := [(4, 0), (0, x1), (0, 8)]) (asC := [(4, 0), (0, x1), (0, 8)]) (LN := [(0, (4, 0)), (1, (0, x1))]) (stN := []) (hsC := [jgh]) (e := 0) (jA_115_1 (d := 0) (by omega)) (by rfl) (by rfl) (by decide +kernel) (by rfl) (by rfl) (by omega) (by omega) (by omega) (by omega) ⟨rfl, ⟨rfl, rfl, rfl⟩⟩
theorem jI_350_0 : jmI (jm 350) 0 = (.aload_n 2, 1) := by rfl
theorem jI_350_1 : jmI (jm 350) 1 = (.iconst 0, 1) := by rfl
theorem jI_350_2 : jmI (jm 350) 2 = (.aload_n 0, 1) := by rfl
theorem jI_350_3 : jmI (jm 350) 3 = (.iload_n 1, 1) := by rfl
theorem jA_350_822 {xs : List Int} {d : Nat} {x1 : Int} (h_x1 : (-2147483648) ≤ x1 ∧ x1 ≤ (-1)) : jT xs (d + 2) 350 13 0 [(0, (4, 0)), (1, (0, x1)), (2, (4, 1))] [] jpA_15 1 6 (fun k v hsN => k = 0 ∧ v = (0, 1) ∧ hsN = jpA_15 ++ []) := by
  refine jT_xaload_n (v := (4, 1)) (pcN := 1) jI_350_0 rfl rfl rfl ?_
  refine jT_xiconst (k := 0) (pcN := 2) jI_350_1 rfl ?_
  refine jT_xaload_n (v := (4, 0)) (pcN := 3) jI_350_2 rfl rfl rfl ?_
  refine jT_xiload_n (v := (0, x1)) (pcN := 4) jI_350_3 rfl rfl rfl ?_
  exact jT_fX [0, 2, 3, 4, 5, 6, 7, 8, 9, 10, 11, 12] 13 (y := 145) (pcN := 7) (dC := 1) (bc1 := 1) (bc2 := 6) (as := [(4, 0), (0, x1)]) (asC := [(4, 0), (0, x1)]) (LN := [(0, (4, 0)), (1, (0, x1)), (2, (4, 1))]) (stN := [(0, 0), (4, 1)]) (hsC := jpA_6) (e := 0) (jA_145_821 (d := 0) (by omega)) (by rfl) (by rfl) (by decide +kernel) (by rfl) (by rfl) (by omega) (by omega) (by omega) (by omega) (show _ from ⟨rfl, rfl, rfl⟩)
theorem jI_275_0 : jmI (jm 275) 0 = (.aload_n 0, 1) := by rfl
theorem jI_275_1 : jmI (jm 275) 1 = (.iload_n 1, 1) := by rfl
theorem jI_275_8 : jmI (jm 275) 8 = (.ifCond .eq 5, 3) := by rfl
theorem jI_275_11 : jmI (jm 275) 11 = (.iconst 0, 1) := by rfl
theorem jA_275_823 {xs : List Int} {d : Nat} {x1 : Int} (h_x1 : (-2147483648) ≤ x1 ∧ x1 ≤ (-1)) : jT xs (d + 2) 275 16 0 [(0, (4, 0)), (1, (0, x1))] [] jpA_22 0 0 (fun k v hsN => k = 0 ∧ v = (0, 0) ∧ hsN = jpA_20) := by
  refine jT_xaload_n (v := (4, 0)) (pcN := 1) jI_275_0 rfl rfl rfl ?_
  refine jT_xiload_n (v := (0, x1)) (pcN := 2) jI_275_1 rfl rfl rfl ?_
  refine jT_fR [] 16 (y := 188) (pcN := 5) (dC := 1) (bc1 := 0) (bc2 := 0) (c1 := 0) (c2 := 0) (as := [(0, x1)]) (asC := [(0, x1)]) (LN := [(0, (4, 0)), (1, (0, x1))]) (stN := [(4, 0)]) (hsC := []) (v := (0, 0)) (st2 := [(0, 0), (4, 0)]) (jA_188_4 (d := 0) (by omega)) (by rfl) (by rfl) (by decide +kernel) (by rfl) (by rfl) (by omega) (by omega) (by omega) (by omega) rfl ?_
  refine jT_fB [0, 1, 2, 3, 4, 5, 6, 7, 8, 9, 10, 11, 12, 13, 14, 15] 16 (y := 190) (pcN := 8) (dC := 1) (bc1 := 0) (bc2 := 0) (c1 := 0) (c2 := 0) (as := [(4, 0), (0, 0)]) (asC := [(4, 0), (0, 0)]) (LN := [(0, (4, 0)), (1, (0, x1))]) (stN := []) (hsC := jpA_22) (hsD := jpA_20) (v := (0, 1)) (st2 := [(0, 1)]) (hs2 := jpA_20) (jA_190_6 (d := 0)) (by rfl) (by rfl) (by decide +kernel) (by rfl) (by rfl) (by omega) (by omega) (by omega) (by omega) rfl (by decide +kernel) ?_
  refine jT_xifF (t := 13) (pcN := 11) jI_275_8 rfl (by decide +kernel) rfl rfl ?_
  refine jT_xiconst (k := 0) (pcN := 12) jI_275_11 rfl ?_
  exact jT_ret rfl (by decide) (by show 16 ≤ 16; decide) (by omega) (by omega) ⟨rfl, rfl, rfl⟩
theorem jI_145_7 : jmI (jm 145) 7 = (.aload_n 0, 1) := by rfl
theorem jI_145_8 : jmI (jm 145) 8 = (.getfield 67, 3) := by rfl
theorem jI_145_11 : jmI (jm 145) 11 = (.getfield 140, 3) := by rfl
theorem jI_145_14 : jmI (jm 145) 14 = (.aload_n 0, 1) := by rfl
theorem jI_145_15 : jmI (jm 145) 15 = (.getfield 67, 3) := by rfl
theorem jI_145_18 : jmI (jm 145) 18 = (.iload_n 1, 1) := by rfl
theorem jI_145_22 : jmI (jm 145) 22 = (.aload_n 0, 1) := by rfl
theorem jI_145_23 : jmI (jm 145) 23 = (.getfield 10, 3) := by rfl
def jpA_3311 : List JC := [jzA_5, (8, [(4, 12), (4, 13)], []), jgh, jgh, jgh, jgh, jgh, jgh, jgh, jgh, jgh, jzA_640, jgh, jgh, jzA_641, jgh, (5, [(4, 20), (4, 21)], []), jgh, jgh, jgh, (114, [], []), jgh]
theorem jA_145_824 {xs : List Int} {d : Nat} {x1 : Int} (h_x1 : 0 ≤ x1 ∧ x1 ≤ 7) : jT xs (d + 2) 145 22 0 [(0, (4, 0)), (1, (0, x1))] [] jpA_3311 0 0 (fun k v hsN => k = 0 ∧ v = (0, (-1)) ∧ hsN = jpA_3311 ++ []) := by
  refine jT_xaload_n (v := (4, 0)) (pcN := 1) jI_145_0 rfl rfl rfl ?_
  refine jT_xiload_n (v := (0, x1)) (pcN := 2) jI_145_1 rfl rfl rfl ?_
  refine jT_xbipush (k := 8) (pcN := 4) jI_145_2 (by decide) rfl ?_
  refine jT_fR [0] 22 (y := 115) (pcN := 7) (dC := 0) (bc1 := 0) (bc2 := 0) (c1 := 0) (c2 := 0) (as := [(4, 0), (0, x1), (0, 8)]) (asC := [(4, 0), (0, x1), (0, 8)]) (LN := [(0, (4, 0)), (1, (0, x1))]) (stN := []) (hsC := [jgh]) (v := (9, 0)) (st2 := []) (jA_115_9 (d := 0) (by omega)) (by rfl) (by rfl) (by decide +kernel) (by rfl) (by rfl) (by omega) (by omega) (by omega) (by omega) rfl ?_
  refine jT_xaload_n (v := (4, 0)) (pcN := 8) jI_145_7 rfl rfl rfl ?_
  refine jT_xgetf (a := 0) (t := 1) (ci := 13) (fi := 11) (c := jzA_5) (v := (4, 11)) (pcN := 11) jI_145_8 rfl rfl rfl rfl rfl rfl rfl ?_
  refine jT_xgetf (a := 11) (t := 2) (ci := 9) (fi := 2) (c := jzA_640) (v := (4, 16)) (pcN := 14) jI_145_11 rfl rfl rfl rfl rfl rfl rfl ?_
  refine jT_xaload_n (v := (4, 0)) (pcN := 15) jI_145_14 rfl rfl rfl ?_
  refine jT_xgetf (a := 0) (t := 1) (ci := 13) (fi := 11) (c := jzA_5) (v := (4, 11)) (pcN := 18) jI_145_15 rfl rfl rfl rfl rfl rfl rfl ?_
  refine jT_xiload_n (v := (0, x1)) (pcN := 19) jI_145_18 rfl rfl rfl ?_
  refine jT_fR [11, 14, 15, 16, 17, 18, 19] 22 (y := 57) (pcN := 22) (dC := 0) (bc1 := 0) (bc2 := 0) (c1 := 0) (c2 := 0) (as := [(4, 11), (0, x1)]) (asC := [(4, 0), (0, x1)]) (LN := [(0, (4, 0)), (1, (0, x1))]) (stN := [(4, 16)]) (hsC := jpA_47) (v := (4, 6)) (st2 := [(4, 19), (4, 16)]) (jA_57_108 (d := 0) (by omega)) (by rfl) (by rfl) (by decide +kernel) (by rfl) (by rfl) (by omega) (by omega) (by omega) (by omega) rfl ?_
  refine jT_xaload_n (v := (4, 0)) (pcN := 23) jI_145_22 rfl rfl rfl ?_
  refine jT_xgetf (a := 0) (t := 1) (ci := 13) (fi := 0) (c := jzA_5) (v := (4, 1)) (pcN := 26) jI_145_23 rfl rfl rfl rfl rfl rfl rfl ?_
  refine jT_fR [16, 19, 1, 20, 21, 12, 13] 22 (y := 20) (pcN := 29) (dC := 1) (bc1 := 0) (bc2 := 0) (c1 := 0) (c2 := 0) (as := [(4, 16), (4, 19), (4, 1)]) (asC := [(4, 0), (4, 1), (4, 2)]) (LN := [(0, (4, 0)), (1, (0, x1))]) (stN := []) (hsC := jpA_1233) (v := (0, (-1))) (st2 := [(0, (-1))]) (jA_20_292 (d := 0)) (by rfl) (by rfl) (by decide +kernel) (by rfl) (by rfl) (by omega) (by omega) (by omega) (by omega) rfl ?_
  exact jT_ret rfl (by decide) (by show 22 ≤ 22; decide) (by omega) (by omega) ⟨rfl, rfl, rfl⟩
theorem jI_350_7 : jmI (jm 350) 7 = (.i2l, 1) := by rfl
def jpA_3313 : List JC := [jzA_14, (101, [], [(-1)]), (8, [(4, 13), (4, 14)], []), jgh, jgh, jgh, jgh, jgh, jgh, jgh, jgh, jgh, jzA_659, jgh, jgh, jzA_660, jgh, (5, [(4, 21), (4, 22)], []), jgh, jgh, jgh, (114, [], []), jgh]
theorem jI_350_9 : jmI (jm 350) 9 = (.goto 6, 3) := by rfl
theorem jI_350_15 : jmI (jm 350) 15 = (.iconst 0, 1) := by rfl
def jpA_3316 : List JC := [jzA_14, (101, [], [0]), (8, [(4, 13), (4, 14)], []), jgh, jgh, jgh, jgh, jgh, jgh, jgh, jgh, jgh, jzA_659, jgh, jgh, jzA_660, jgh, (5, [(4, 21), (4, 22)], []), jgh, jgh, jgh, (114, [], []), jgh]
theorem jA_350_825 {xs : List Int} {d : Nat} {x1 : Int} (h_x1 : 0 ≤ x1 ∧ x1 ≤ 7) : jT xs (d + 3) 350 23 0 [(0, (4, 0)), (1, (0, x1)), (2, (4, 1))] [] jpA_3316 0 0 (fun k v hsN => k = 0 ∧ v = (0, 0) ∧ hsN = jpA_3313) := by
  refine jT_xaload_n (v := (4, 1)) (pcN := 1) jI_350_0 rfl rfl rfl ?_
  refine jT_xiconst (k := 0) (pcN := 2) jI_350_1 rfl ?_
  refine jT_xaload_n (v := (4, 0)) (pcN := 3) jI_350_2 rfl rfl rfl ?_
  refine jT_xiload_n (v := (0, x1)) (pcN := 4) jI_350_3 rfl rfl rfl ?_
  refine jT_fR [0, 2, 3, 4, 5, 6, 7, 8, 9, 10, 11, 12, 13, 14, 15, 16, 17, 18, 19, 20, 21, 22] 23 (y := 145) (pcN := 7) (dC := 2) (bc1 := 0) (bc2 := 0) (c1 := 0) (c2 := 0) (as := [(4, 0), (0, x1)]) (asC := [(4, 0), (0, x1)]) (LN := [(0, (4, 0)), (1, (0, x1)), (2, (4, 1))]) (stN := [(0, 0), (4, 1)]) (hsC := jpA_3311) (v := (0, (-1))) (st2 := [(0, (-1)), (0, 0), (4, 1)]) (jA_145_824 (d := 0) (by omega)) (by rfl) (by rfl) (by decide +kernel) (by rfl) (by rfl) (by omega) (by omega) (by omega) (by omega) rfl ?_
  refine jT_xi2l (x := (-1)) (z := (-1)) (pcN := 8) jI_350_7 rfl (by decide +kernel) rfl ?_
  refine jT_adv 1 (pcN := 9) (LN := [(0, (4, 0)), (1, (0, x1)), (2, (4, 1))]) (stN := []) (hsN := jpA_3313) (c1 := 0) (s1 := 0) (c2 := 0) (s2 := 0) (by exact rfl) ?_ (by omega) (by omega)
  refine jT_xgoto (pcN := 15) jI_350_9 rfl ?_
  refine jT_xiconst (k := 0) (pcN := 16) jI_350_15 rfl ?_
  exact jT_ret rfl (by decide) (by show 23 ≤ 23; decide) (by omega) (by omega) ⟨rfl, rfl, rfl⟩
def jpA_3317 : List JC := [jzA_21, (100, [], jS0), (100, [], []), jgh, jgh, jgh, jgh, (101, [], [0, 0, 0, 0, 0, 0]), jgh, jgh, jgh, jgh, jgh, jgh, jgh, jgh]
theorem jA_235_826 {xs : List Int} {d : Nat} {x1 : Int} (h_x1 : 0 ≤ x1 ∧ x1 ≤ 7) : jT xs (d + 2) 235 16 0 [(0, (4, 0)), (1, (0, x1))] [] jpA_3317 0 0 (fun k v hsN => k = 0 ∧ v = (0, (-1)) ∧ hsN = jpA_3317 ++ []) := by
  refine jT_xaload_n (v := (4, 0)) (pcN := 1) jI_235_0 rfl rfl rfl ?_
  refine jT_xiload_n (v := (0, x1)) (pcN := 2) jI_235_1 rfl rfl rfl ?_
  refine jT_fR [0, 1, 2, 3, 4, 5, 6, 7, 8, 9, 10, 11, 12, 13, 14, 15] 16 (y := 202) (pcN := 5) (dC := 1) (bc1 := 0) (bc2 := 0) (c1 := 0) (c2 := 0) (as := [(4, 0), (0, x1)]) (asC := [(4, 0), (0, x1)]) (LN := [(0, (4, 0)), (1, (0, x1))]) (stN := []) (hsC := jpA_130) (v := (9, 0)) (st2 := []) (jA_202_115 (d := 0) (by omega)) (by rfl) (by rfl) (by decide +kernel) (by rfl) (by rfl) (by omega) (by omega) (by omega) (by omega) rfl ?_
  refine jT_xiconst (k := 0) (pcN := 6) jI_235_5 rfl ?_
  refine jT_xistore_n (v := (0, 0)) (LN := [(2, (0, 0)), (0, (4, 0)), (1, (0, x1))]) (pcN := 7) jI_235_6 rfl rfl rfl rfl ?_
  refine jT_xiload_n (v := (0, 0)) (pcN := 8) jI_235_7 rfl rfl rfl ?_
  refine jT_xaload_n (v := (4, 0)) (pcN := 9) jI_235_8 rfl rfl rfl ?_
  refine jT_xgetf (a := 0) (t := 1) (ci := 14) (fi := 2) (c := jzA_21) (v := (4, 2)) (pcN := 12) jI_235_9 rfl rfl rfl rfl rfl rfl rfl ?_
  refine jT_adv 1 (pcN := 13) (LN := [(2, (0, 0)), (0, (4, 0)), (1, (0, x1))]) (stN := [(0, 0), (0, 0)]) (hsN := jpA_3317) (c1 := 0) (s1 := 0) (c2 := 0) (s2 := 0) (by exact rfl) ?_ (by omega) (by omega)
  refine jT_xicT (pcN := 36) jI_235_13 rfl (by decide +kernel) rfl ?_
  refine jT_xiconst (k := (-1)) (pcN := 37) jI_235_36 rfl ?_
  exact jT_ret rfl (by decide) (by show 16 ≤ 16; decide) (by omega) (by omega) ⟨rfl, rfl, rfl⟩
theorem jI_275_13 : jmI (jm 275) 13 = (.aload_n 0, 1) := by rfl
theorem jI_275_14 : jmI (jm 275) 14 = (.iload_n 1, 1) := by rfl
theorem jI_275_18 : jmI (jm 275) 18 = (.istore_n 2, 1) := by rfl
theorem jI_275_19 : jmI (jm 275) 19 = (.iload_n 2, 1) := by rfl
theorem jI_275_20 : jmI (jm 275) 20 = (.iconst (-1), 1) := by rfl
theorem jI_275_21 : jmI (jm 275) 21 = (.if_icmp .ne 7, 3) := by rfl
theorem jI_275_24 : jmI (jm 275) 24 = (.iconst (-1), 1) := by rfl
theorem jI_275_25 : jmI (jm 275) 25 = (.goto 12, 3) := by rfl
theorem jA_275_827 {xs : List Int} {d : Nat} {x1 : Int} (h_x1 : 0 ≤ x1 ∧ x1 ≤ 7) : jT xs (d + 3) 275 16 0 [(0, (4, 0)), (1, (0, x1))] [] jpA_3317 0 0 (fun k v hsN => k = 0 ∧ v = (0, (-1)) ∧ hsN = jpA_3317 ++ []) := by
  refine jT_xaload_n (v := (4, 0)) (pcN := 1) jI_275_0 rfl rfl rfl ?_
  refine jT_xiload_n (v := (0, x1)) (pcN := 2) jI_275_1 rfl rfl rfl ?_
  refine jT_fR [] 16 (y := 188) (pcN := 5) (dC := 1) (bc1 := 0) (bc2 := 0) (c1 := 0) (c2 := 0) (as := [(0, x1)]) (asC := [(0, x1)]) (LN := [(0, (4, 0)), (1, (0, x1))]) (stN := [(4, 0)]) (hsC := []) (v := (0, 1)) (st2 := [(0, 1), (4, 0)]) (jA_188_13 (d := 0) (by omega)) (by rfl) (by rfl) (by decide +kernel) (by rfl) (by rfl) (by omega) (by omega) (by omega) (by omega) rfl ?_
  refine jT_fR [0, 1, 2, 3, 4, 5, 6, 7, 8, 9, 10, 11, 12, 13, 14, 15] 16 (y := 190) (pcN := 8) (dC := 1) (bc1 := 0) (bc2 := 0) (c1 := 0) (c2 := 0) (as := [(4, 0), (0, 1)]) (asC := [(4, 0), (0, 1)]) (LN := [(0, (4, 0)), (1, (0, x1))]) (stN := []) (hsC := jpA_22) (v := (0, 0)) (st2 := [(0, 0)]) (jA_190_39 (d := 0)) (by rfl) (by rfl) (by decide +kernel) (by rfl) (by rfl) (by omega) (by omega) (by omega) (by omega) rfl ?_
  refine jT_xifT (pcN := 13) jI_275_8 rfl (by decide +kernel) rfl ?_
  refine jT_xaload_n (v := (4, 0)) (pcN := 14) jI_275_13 rfl rfl rfl ?_
  refine jT_xiload_n (v := (0, x1)) (pcN := 15) jI_275_14 rfl rfl rfl ?_
  refine jT_fR [0, 1, 2, 3, 4, 5, 6, 7, 8, 9, 10, 11, 12, 13, 14, 15] 16 (y := 235) (pcN := 18) (dC := 2) (bc1 := 0) (bc2 := 0) (c1 := 0) (c2 := 0) (as := [(4, 0), (0, x1)]) (asC := [(4, 0), (0, x1)]) (LN := [(0, (4, 0)), (1, (0, x1))]) (stN := []) (hsC := jpA_3317) (v := (0, (-1))) (st2 := [(0, (-1))]) (jA_235_826 (d := 0) (by omega)) (by rfl) (by rfl) (by decide +kernel) (by rfl) (by rfl) (by omega) (by omega) (by omega) (by omega) rfl ?_
  refine jT_xistore_n (v := (0, (-1))) (LN := [(2, (0, (-1))), (0, (4, 0)), (1, (0, x1))]) (pcN := 19) jI_275_18 rfl rfl rfl rfl ?_
  refine jT_xiload_n (v := (0, (-1))) (pcN := 20) jI_275_19 rfl rfl rfl ?_
  refine jT_xiconst (k := (-1)) (pcN := 21) jI_275_20 rfl ?_
  refine jT_xicF (t := 28) (pcN := 24) jI_275_21 rfl (by decide +kernel) rfl rfl ?_
  refine jT_xiconst (k := (-1)) (pcN := 25) jI_275_24 rfl ?_
  refine jT_xgoto (pcN := 37) jI_275_25 rfl ?_
  exact jT_ret rfl (by decide) (by show 16 ≤ 16; decide) (by omega) (by omega) ⟨rfl, rfl, rfl⟩
theorem jA_145_828 {xs : List Int} {d : Nat} {x1 : Int} (h_x1 : 8 ≤ x1 ∧ x1 ≤ 2147483647) : jT xs (d + 1) 145 12 0 [(0, (4, 0)), (1, (0, x1))] [] jpA_6 1 6 (fun k v hsN => k = 1 ∧ v = (0, 0) ∧ hsN = jpA_6 ++ []) := by
  refine jT_xaload_n (v := (4, 0)) (pcN := 1) jI_145_0 rfl rfl rfl ?_
  refine jT_xiload_n (v := (0, x1)) (pcN := 2) jI_145_1 rfl rfl rfl ?_
  refine jT_xbipush (k := 8) (pcN := 4) jI_145_2 (by decide) rfl ?_
  exact jT_fX [0] 12 (y := 115) (pcN := 7) (dC := 0) (bc1 := 1) (bc2 := 6) (as := [(4, 0), (0, x1), (0, 8)]) (asC := [(4, 0), (0, x1), (0, 8)]) (LN := [(0, (4, 0)), (1, (0, x1))]) (stN := []) (hsC := [jgh]) (e := 0) (jA_115_65 (d := 0) (by omega)) (by rfl) (by rfl) (by decide +kernel) (by rfl) (by rfl) (by omega) (by omega) (by omega) (by omega) ⟨rfl, ⟨rfl, rfl, rfl⟩⟩
theorem jA_350_829 {xs : List Int} {d : Nat} {x1 : Int} (h_x1 : 8 ≤ x1 ∧ x1 ≤ 2147483647) : jT xs (d + 2) 350 13 0 [(0, (4, 0)), (1, (0, x1)), (2, (4, 1))] [] jpA_15 1 6 (fun k v hsN => k = 0 ∧ v = (0, 1) ∧ hsN = jpA_15 ++ []) := by
  refine jT_xaload_n (v := (4, 1)) (pcN := 1) jI_350_0 rfl rfl rfl ?_
  refine jT_xiconst (k := 0) (pcN := 2) jI_350_1 rfl ?_
  refine jT_xaload_n (v := (4, 0)) (pcN := 3) jI_350_2 rfl rfl rfl ?_
  refine jT_xiload_n (v := (0, x1)) (pcN := 4) jI_350_3 rfl rfl rfl ?_
  exact jT_fX [0, 2, 3, 4, 5, 6, 7, 8, 9, 10, 11, 12] 13 (y := 145) (pcN := 7) (dC := 1) (bc1 := 1) (bc2 := 6) (as := [(4, 0), (0, x1)]) (asC := [(4, 0), (0, x1)]) (LN := [(0, (4, 0)), (1, (0, x1)), (2, (4, 1))]) (stN := [(0, 0), (4, 1)]) (hsC := jpA_6) (e := 0) (jA_145_828 (d := 0) (by omega)) (by rfl) (by rfl) (by decide +kernel) (by rfl) (by rfl) (by omega) (by omega) (by omega) (by omega) (show _ from ⟨rfl, rfl, rfl⟩)
theorem jA_275_830 {xs : List Int} {d : Nat} {x1 : Int} (h_x1 : 8 ≤ x1 ∧ x1 ≤ 2147483647) : jT xs (d + 2) 275 16 0 [(0, (4, 0)), (1, (0, x1))] [] jpA_22 0 0 (fun k v hsN => k = 0 ∧ v = (0, 0) ∧ hsN = jpA_20) := by
  refine jT_xaload_n (v := (4, 0)) (pcN := 1) jI_275_0 rfl rfl rfl ?_
  refine jT_xiload_n (v := (0, x1)) (pcN := 2) jI_275_1 rfl rfl rfl ?_
  refine jT_fR [] 16 (y := 188) (pcN := 5) (dC := 1) (bc1 := 0) (bc2 := 0) (c1 := 0) (c2 := 0) (as := [(0, x1)]) (asC := [(0, x1)]) (LN := [(0, (4, 0)), (1, (0, x1))]) (stN := [(4, 0)]) (hsC := []) (v := (0, 0)) (st2 := [(0, 0), (4, 0)]) (jA_188_68 (d := 0) (by omega)) (by rfl) (by rfl) (by decide +kernel) (by rfl) (by rfl) (by omega) (by omega) (by omega) (by omega) rfl ?_
  refine jT_fB [0, 1, 2, 3, 4, 5, 6, 7, 8, 9, 10, 11, 12, 13, 14, 15] 16 (y := 190) (pcN := 8) (dC := 1) (bc1 := 0) (bc2 := 0) (c1 := 0) (c2 := 0) (as := [(4, 0), (0, 0)]) (asC := [(4, 0), (0, 0)]) (LN := [(0, (4, 0)), (1, (0, x1))]) (stN := []) (hsC := jpA_22) (hsD := jpA_20) (v := (0, 1)) (st2 := [(0, 1)]) (hs2 := jpA_20) (jA_190_6 (d := 0)) (by rfl) (by rfl) (by decide +kernel) (by rfl) (by rfl) (by omega) (by omega) (by omega) (by omega) rfl (by decide +kernel) ?_
  refine jT_xifF (t := 13) (pcN := 11) jI_275_8 rfl (by decide +kernel) rfl rfl ?_
  refine jT_xiconst (k := 0) (pcN := 12) jI_275_11 rfl ?_
  exact jT_ret rfl (by decide) (by show 16 ≤ 16; decide) (by omega) (by omega) ⟨rfl, rfl, rfl⟩
theorem jI_379_2086 : jmI (jm 379) 2086 = (.aload_n 1, 1) := by rfl
theorem jI_379_2087 : jmI (jm 379) 2087 = (.aload_n 0, 1) := by rfl
theorem jI_379_2088 : jmI (jm 379) 2088 = (.iload 5, 2) := by rfl
theorem jI_379_2090 : jmI (jm 379) 2090 = (.iconst 1, 1) := by rfl
theorem jI_379_2091 : jmI (jm 379) 2091 = (.iadd, 1) := by rfl
theorem jI_379_2093 : jmI (jm 379) 2093 = (.aload_n 3, 1) := by rfl
theorem jI_379_2097 : jmI (jm 379) 2097 = (.istore 6, 2) := by rfl
theorem jI_379_2099 : jmI (jm 379) 2099 = (.aload_n 2, 1) := by rfl
theorem jI_379_2100 : jmI (jm 379) 2100 = (.aload_n 0, 1) := by rfl
theorem jI_379_2101 : jmI (jm 379) 2101 = (.iload 5, 2) := by rfl
theorem jI_379_2103 : jmI (jm 379) 2103 = (.iconst 1, 1) := by rfl
theorem jI_379_2104 : jmI (jm 379) 2104 = (.iadd, 1) := by rfl
theorem jI_379_2109 : jmI (jm 379) 2109 = (.istore 7, 2) := by rfl
theorem jI_379_2111 : jmI (jm 379) 2111 = (.aload_n 2, 1) := by rfl
theorem jI_379_2115 : jmI (jm 379) 2115 = (.iload 6, 2) := by rfl
theorem jI_379_2117 : jmI (jm 379) 2117 = (.if_icmp .eq 5, 3) := by rfl
theorem jI_379_2122 : jmI (jm 379) 2122 = (.iload 6, 2) := by rfl
theorem jI_379_2124 : jmI (jm 379) 2124 = (.ifCond .ne 15, 3) := by rfl
theorem jI_379_2139 : jmI (jm 379) 2139 = (.goto 1601, 3) := by rfl
set_option maxRecDepth 100000 in
theorem jL_26_0 {d : Nat} {x0 x1 x2 x3 x4 : Int} (h_x0 : (-2147483648) ≤ x0 ∧ x0 ≤ 2147483647) (h_x1 : (-2147483648) ≤ x1 ∧ x1 ≤ (-1)) (h_x2 : (-2147483648) ≤ x2 ∧ x2 ≤ 2147483647) (h_x3 : (-2147483648) ≤ x3 ∧ x3 ≤ 2147483647) (h_x4 : (-2147483648) ≤ x4 ∧ x4 ≤ 2147483647) : jT [x0, x1, x2, x3, x4] (d + 3) 379 30 2086 [(5, (0, 0)), (4, (4, 3)), (3, (4, 2)), (2, (4, 1)), (1, (4, 0)), (0, (6, 0))] [] jpA_267 1 6 (fun k v hsN => k = 0 ∧ v = (0, 1)) := by
  refine jT_xaload_n (v := (4, 0)) (pcN := 2087) jI_379_2086 rfl rfl rfl ?_
  refine jT_xaload_n (v := (6, 0)) (pcN := 2088) jI_379_2087 rfl rfl rfl ?_
  refine jT_xiload (v := (0, 0)) (pcN := 2090) jI_379_2088 rfl rfl rfl ?_
  refine jT_xiconst (k := 1) (pcN := 2091) jI_379_2090 rfl ?_
  refine jT_xiadd (x := 0) (y := 1) (z := 1) (pcN := 2092) jI_379_2091 rfl (by decide) rfl ?_
  refine jT_adv 1 (pcN := 2093) (LN := [(5, (0, 0)), (4, (4, 3)), (3, (4, 2)), (2, (4, 1)), (1, (4, 0)), (0, (6, 0))]) (stN := [(0, x1), (4, 0)]) (hsN := jpA_267) (c1 := 0) (s1 := 0) (c2 := 1) (s2 := 6) (by exact rfl) ?_ (by omega) (by omega)
  refine jT_xaload_n (v := (4, 2)) (pcN := 2094) jI_379_2093 rfl rfl rfl ?_
  refine jT_fR [0, 2, 4, 5, 6, 7, 8, 9, 10, 11, 12, 13, 14] 30 (y := 350) (pcN := 2097) (dC := 2) (bc1 := 1) (bc2 := 6) (c1 := 0) (c2 := 0) (as := [(4, 0), (0, x1), (4, 2)]) (asC := [(4, 0), (0, x1), (4, 1)]) (LN := [(5, (0, 0)), (4, (4, 3)), (3, (4, 2)), (2, (4, 1)), (1, (4, 0)), (0, (6, 0))]) (stN := []) (hsC := jpA_15) (v := (0, 1)) (st2 := [(0, 1)]) (jA_350_822 (d := 0) (by omega)) (by rfl) (by rfl) (by decide +kernel) (by rfl) (by rfl) (by omega) (by omega) (by omega) (by omega) rfl ?_
  refine jT_xistore (v := (0, 1)) (LN := [(6, (0, 1)), (5, (0, 0)), (4, (4, 3)), (3, (4, 2)), (2, (4, 1)), (1, (4, 0)), (0, (6, 0))]) (pcN := 2099) jI_379_2097 rfl rfl rfl rfl ?_
  refine jT_xaload_n (v := (4, 1)) (pcN := 2100) jI_379_2099 rfl rfl rfl ?_
  refine jT_xaload_n (v := (6, 0)) (pcN := 2101) jI_379_2100 rfl rfl rfl ?_
  refine jT_xiload (v := (0, 0)) (pcN := 2103) jI_379_2101 rfl rfl rfl ?_
  refine jT_xiconst (k := 1) (pcN := 2104) jI_379_2103 rfl ?_
  refine jT_xiadd (x := 0) (y := 1) (z := 1) (pcN := 2105) jI_379_2104 rfl (by decide) rfl ?_
  refine jT_adv 1 (pcN := 2106) (LN := [(6, (0, 1)), (5, (0, 0)), (4, (4, 3)), (3, (4, 2)), (2, (4, 1)), (1, (4, 0)), (0, (6, 0))]) (stN := [(0, x1), (4, 1)]) (hsN := jpA_267) (c1 := 0) (s1 := 0) (c2 := 0) (s2 := 0) (by exact rfl) ?_ (by omega) (by omega)
  refine jT_fB [1, 15, 16, 17, 18, 19, 20, 21, 22, 23, 24, 25, 26, 27, 28, 29] 30 (y := 275) (pcN := 2109) (dC := 2) (bc1 := 0) (bc2 := 0) (c1 := 0) (c2 := 0) (as := [(4, 1), (0, x1)]) (asC := [(4, 0), (0, x1)]) (LN := [(6, (0, 1)), (5, (0, 0)), (4, (4, 3)), (3, (4, 2)), (2, (4, 1)), (1, (4, 0)), (0, (6, 0))]) (stN := []) (hsC := jpA_22) (hsD := jpA_20) (v := (0, 0)) (st2 := [(0, 0)]) (hs2 := jpA_306) (jA_275_823 (d := 0) (by omega)) (by rfl) (by rfl) (by decide +kernel) (by rfl) (by rfl) (by omega) (by omega) (by omega) (by omega) rfl (by decide +kernel) ?_
  refine jT_xistore (v := (0, 0)) (LN := [(7, (0, 0)), (6, (0, 1)), (5, (0, 0)), (4, (4, 3)), (3, (4, 2)), (2, (4, 1)), (1, (4, 0)), (0, (6, 0))]) (pcN := 2111) jI_379_2109 rfl rfl rfl rfl ?_
  refine jT_xaload_n (v := (4, 1)) (pcN := 2112) jI_379_2111 rfl rfl rfl ?_
  refine jT_fR [1, 15, 16, 17, 18, 19, 20, 21, 22, 23, 24, 25, 26, 27, 28, 29] 30 (y := 186) (pcN := 2115) (dC := 0) (bc1 := 0) (bc2 := 0) (c1 := 0) (c2 := 0) (as := [(4, 1)]) (asC := [(4, 0)]) (LN := [(7, (0, 0)), (6, (0, 1)), (5, (0, 0)), (4, (4, 3)), (3, (4, 2)), (2, (4, 1)), (1, (4, 0)), (0, (6, 0))]) (stN := []) (hsC := jpA_20) (v := (0, 1)) (st2 := [(0, 1)]) (jA_186_8 (d := 0)) (by rfl) (by rfl) (by decide +kernel) (by rfl) (by rfl) (by omega) (by omega) (by omega) (by omega) rfl ?_
  refine jT_xiload (v := (0, 1)) (pcN := 2117) jI_379_2115 rfl rfl rfl ?_
  refine jT_xicT (pcN := 2122) jI_379_2117 rfl (by decide +kernel) rfl ?_
  refine jT_xiload (v := (0, 1)) (pcN := 2124) jI_379_2122 rfl rfl rfl ?_
  refine jT_xifT (pcN := 2139) jI_379_2124 rfl (by decide +kernel) rfl ?_
  refine jT_xgoto (pcN := 3740) jI_379_2139 rfl ?_
  refine jT_xiinc (x := 0) (z := 5) (LN := [(5, (0, 5)), (7, (0, 0)), (6, (0, 1)), (4, (4, 3)), (3, (4, 2)), (2, (4, 1)), (1, (4, 0)), (0, (6, 0))]) (pcN := 3743) jI_379_3740 rfl rfl (by decide) rfl rfl ?_
  refine jT_xgoto (pcN := 28) jI_379_3743 rfl ?_
  refine jT_xiload (v := (0, 5)) (pcN := 30) jI_379_28 rfl rfl rfl ?_
  refine jT_xaload_n (v := (6, 0)) (pcN := 31) jI_379_30 rfl rfl rfl ?_
  refine jT_adv 1 (pcN := 32) (LN := [(5, (0, 5)), (7, (0, 0)), (6, (0, 1)), (4, (4, 3)), (3, (4, 2)), (2, (4, 1)), (1, (4, 0)), (0, (6, 0))]) (stN := [(0, 5), (0, 5)]) (hsN := jpA_306) (c1 := 0) (s1 := 0) (c2 := 0) (s2 := 0) (by exact rfl) ?_ (by omega) (by omega)
  refine jT_xiconst (k := 5) (pcN := 33) jI_379_32 rfl ?_
  refine jT_xisub (x := 5) (y := 5) (z := 0) (pcN := 34) jI_379_33 rfl (by decide) rfl ?_
  refine jT_xicT (pcN := 3746) jI_379_34 rfl (by decide +kernel) rfl ?_
  refine jT_xiconst (k := 1) (pcN := 3747) jI_379_3746 rfl ?_
  exact jT_ret rfl (by decide) (by show 30 ≤ 30; decide) (by omega) (by omega) ⟨rfl, rfl⟩
def jpA_3345 : List JC := [jzA_265, jzA_266, (101, [], [0]), jgh, (8, [(4, 30), (4, 31)], []), jgh, jgh, jgh, jgh, jgh, jgh, jgh, jgh, jgh, jzA_721, (100, [], jS0), (100, [], []), jgh, jgh, jgh, jgh, (101, [], [0, 0, 0, 0, 0, 0]), jgh, jgh, jgh, jgh, jgh, jgh, jgh, jgh, jgh, jgh, jzA_3054, jgh, (5, [(4, 38), (4, 39)], []), jgh, jgh, jgh, (114, [], []), jgh]
def jpA_3346 : List JC := [jzA_265, jzA_266, (101, [], [(-1)]), jgh, (8, [(4, 30), (4, 31)], []), jgh, jgh, jgh, jgh, jgh, jgh, jgh, jgh, jgh, jzA_721, (100, [], jS0), (100, [], []), jgh, jgh, jgh, jgh, (101, [], [0, 0, 0, 0, 0, 0]), jgh, jgh, jgh, jgh, jgh, jgh, jgh, jgh, jgh, jgh, jzA_3054, jgh, (5, [(4, 38), (4, 39)], []), jgh, jgh, jgh, (114, [], []), jgh]
theorem jI_379_2127 : jmI (jm 379) 2127 = (.aload_n 3, 1) := by rfl
theorem jI_379_2128 : jmI (jm 379) 2128 = (.iconst 0, 1) := by rfl
theorem jI_379_2129 : jmI (jm 379) 2129 = (.laload, 1) := by rfl
theorem jI_379_2130 : jmI (jm 379) 2130 = (.iload 7, 2) := by rfl
theorem jI_379_2132 : jmI (jm 379) 2132 = (.i2l, 1) := by rfl
theorem jI_379_2134 : jmI (jm 379) 2134 = (.ifCond .eq 5, 3) := by rfl
set_option maxRecDepth 100000 in
theorem jL_26_1 {d : Nat} {x0 x1 x2 x3 x4 : Int} (h_x0 : (-2147483648) ≤ x0 ∧ x0 ≤ 2147483647) (h_x1 : 0 ≤ x1 ∧ x1 ≤ 7) (h_x2 : (-2147483648) ≤ x2 ∧ x2 ≤ 2147483647) (h_x3 : (-2147483648) ≤ x3 ∧ x3 ≤ 2147483647) (h_x4 : (-2147483648) ≤ x4 ∧ x4 ≤ 2147483647) : jT [x0, x1, x2, x3, x4] (d + 4) 379 40 2086 [(5, (0, 0)), (4, (4, 3)), (3, (4, 2)), (2, (4, 1)), (1, (4, 0)), (0, (6, 0))] [] jpA_3345 0 0 (fun k v hsN => k = 0 ∧ v = (0, 1)) := by
  refine jT_xaload_n (v := (4, 0)) (pcN := 2087) jI_379_2086 rfl rfl rfl ?_
  refine jT_xaload_n (v := (6, 0)) (pcN := 2088) jI_379_2087 rfl rfl rfl ?_
  refine jT_xiload (v := (0, 0)) (pcN := 2090) jI_379_2088 rfl rfl rfl ?_
  refine jT_xiconst (k := 1) (pcN := 2091) jI_379_2090 rfl ?_
  refine jT_xiadd (x := 0) (y := 1) (z := 1) (pcN := 2092) jI_379_2091 rfl (by decide) rfl ?_
  refine jT_adv 1 (pcN := 2093) (LN := [(5, (0, 0)), (4, (4, 3)), (3, (4, 2)), (2, (4, 1)), (1, (4, 0)), (0, (6, 0))]) (stN := [(0, x1), (4, 0)]) (hsN := jpA_3345) (c1 := 0) (s1 := 0) (c2 := 0) (s2 := 0) (by exact rfl) ?_ (by omega) (by omega)
  refine jT_xaload_n (v := (4, 2)) (pcN := 2094) jI_379_2093 rfl rfl rfl ?_
  refine jT_fB [0, 2, 4, 5, 6, 7, 8, 9, 10, 11, 12, 13, 14, 30, 31, 32, 33, 34, 35, 36, 37, 38, 39] 40 (y := 350) (pcN := 2097) (dC := 3) (bc1 := 0) (bc2 := 0) (c1 := 0) (c2 := 0) (as := [(4, 0), (0, x1), (4, 2)]) (asC := [(4, 0), (0, x1), (4, 1)]) (LN := [(5, (0, 0)), (4, (4, 3)), (3, (4, 2)), (2, (4, 1)), (1, (4, 0)), (0, (6, 0))]) (stN := []) (hsC := jpA_3316) (hsD := jpA_3313) (v := (0, 0)) (st2 := [(0, 0)]) (hs2 := jpA_3346) (jA_350_825 (d := 0) (by omega)) (by rfl) (by rfl) (by decide +kernel) (by rfl) (by rfl) (by omega) (by omega) (by omega) (by omega) rfl (by decide +kernel) ?_
  refine jT_xistore (v := (0, 0)) (LN := [(6, (0, 0)), (5, (0, 0)), (4, (4, 3)), (3, (4, 2)), (2, (4, 1)), (1, (4, 0)), (0, (6, 0))]) (pcN := 2099) jI_379_2097 rfl rfl rfl rfl ?_
  refine jT_xaload_n (v := (4, 1)) (pcN := 2100) jI_379_2099 rfl rfl rfl ?_
  refine jT_xaload_n (v := (6, 0)) (pcN := 2101) jI_379_2100 rfl rfl rfl ?_
  refine jT_xiload (v := (0, 0)) (pcN := 2103) jI_379_2101 rfl rfl rfl ?_
  refine jT_xiconst (k := 1) (pcN := 2104) jI_379_2103 rfl ?_
  refine jT_xiadd (x := 0) (y := 1) (z := 1) (pcN := 2105) jI_379_2104 rfl (by decide) rfl ?_
  refine jT_adv 1 (pcN := 2106) (LN := [(6, (0, 0)), (5, (0, 0)), (4, (4, 3)), (3, (4, 2)), (2, (4, 1)), (1, (4, 0)), (0, (6, 0))]) (stN := [(0, x1), (4, 1)]) (hsN := jpA_3346) (c1 := 0) (s1 := 0) (c2 := 0) (s2 := 0) (by exact rfl) ?_ (by omega) (by omega)
  refine jT_fR [1, 15, 16, 17, 18, 19, 20, 21, 22, 23, 24, 25, 26, 27, 28, 29] 40 (y := 275) (pcN := 2109) (dC := 3) (bc1 := 0) (bc2 := 0) (c1 := 0) (c2 := 0) (as := [(4, 1), (0, x1)]) (asC := [(4, 0), (0, x1)]) (LN := [(6, (0, 0)), (5, (0, 0)), (4, (4, 3)), (3, (4, 2)), (2, (4, 1)), (1, (4, 0)), (0, (6, 0))]) (stN := []) (hsC := jpA_3317) (v := (0, (-1))) (st2 := [(0, (-1))]) (jA_275_827 (d := 0) (by omega)) (by rfl) (by rfl) (by decide +kernel) (by rfl) (by rfl) (by omega) (by omega) (by omega) (by omega) rfl ?_
  refine jT_xistore (v := (0, (-1))) (LN := [(7, (0, (-1))), (6, (0, 0)), (5, (0, 0)), (4, (4, 3)), (3, (4, 2)), (2, (4, 1)), (1, (4, 0)), (0, (6, 0))]) (pcN := 2111) jI_379_2109 rfl rfl rfl rfl ?_
  refine jT_xaload_n (v := (4, 1)) (pcN := 2112) jI_379_2111 rfl rfl rfl ?_
  refine jT_fR [1, 15, 16, 17, 18, 19, 20, 21, 22, 23, 24, 25, 26, 27, 28, 29] 40 (y := 186) (pcN := 2115) (dC := 0) (bc1 := 0) (bc2 := 0) (c1 := 0) (c2 := 0) (as := [(4, 1)]) (asC := [(4, 0)]) (LN := [(7, (0, (-1))), (6, (0, 0)), (5, (0, 0)), (4, (4, 3)), (3, (4, 2)), (2, (4, 1)), (1, (4, 0)), (0, (6, 0))]) (stN := []) (hsC := jpA_22) (v := (0, 0)) (st2 := [(0, 0)]) (jA_186_726 (d := 0)) (by rfl) (by rfl) (by decide +kernel) (by rfl) (by rfl) (by omega) (by omega) (by omega) (by omega) rfl ?_
  refine jT_xiload (v := (0, 0)) (pcN := 2117) jI_379_2115 rfl rfl rfl ?_
  refine jT_xicT (pcN := 2122) jI_379_2117 rfl (by decide +kernel) rfl ?_
  refine jT_xiload (v := (0, 0)) (pcN := 2124) jI_379_2122 rfl rfl rfl ?_
  refine jT_xifF (t := 2139) (pcN := 2127) jI_379_2124 rfl (by decide +kernel) rfl rfl ?_
  refine jT_xaload_n (v := (4, 2)) (pcN := 2128) jI_379_2127 rfl rfl rfl ?_
  refine jT_xiconst (k := 0) (pcN := 2129) jI_379_2128 rfl ?_
  refine jT_lald (x := (-1)) (a := 2) (j := 0) (fs := []) (X := [(-1)]) jI_379_2129 rfl rfl rfl rfl ?_
  refine jT_eq (LN := [(7, (0, (-1))), (6, (0, 0)), (5, (0, 0)), (4, (4, 3)), (3, (4, 2)), (2, (4, 1)), (1, (4, 0)), (0, (6, 0))]) (stN := [(1, (-1))]) (hsN := jpA_3346) rfl rfl rfl ?_
  refine jT_xiload (v := (0, (-1))) (pcN := 2132) jI_379_2130 rfl rfl rfl ?_
  refine jT_xi2l (x := (-1)) (z := (-1)) (pcN := 2133) jI_379_2132 rfl (by decide +kernel) rfl ?_
  refine jT_lcmp (a := (-1)) (b := (-1)) (z := 0) (by rfl) (by rfl) (by decide +kernel) (by decide +kernel) (by decide) ?_
  refine jT_xifT (pcN := 2139) jI_379_2134 rfl (by decide +kernel) rfl ?_
  refine jT_xgoto (pcN := 3740) jI_379_2139 rfl ?_
  refine jT_xiinc (x := 0) (z := 5) (LN := [(5, (0, 5)), (7, (0, (-1))), (6, (0, 0)), (4, (4, 3)), (3, (4, 2)), (2, (4, 1)), (1, (4, 0)), (0, (6, 0))]) (pcN := 3743) jI_379_3740 rfl rfl (by decide) rfl rfl ?_
  refine jT_xgoto (pcN := 28) jI_379_3743 rfl ?_
  refine jT_xiload (v := (0, 5)) (pcN := 30) jI_379_28 rfl rfl rfl ?_
  refine jT_xaload_n (v := (6, 0)) (pcN := 31) jI_379_30 rfl rfl rfl ?_
  refine jT_adv 1 (pcN := 32) (LN := [(5, (0, 5)), (7, (0, (-1))), (6, (0, 0)), (4, (4, 3)), (3, (4, 2)), (2, (4, 1)), (1, (4, 0)), (0, (6, 0))]) (stN := [(0, 5), (0, 5)]) (hsN := jpA_3346) (c1 := 0) (s1 := 0) (c2 := 0) (s2 := 0) (by exact rfl) ?_ (by omega) (by omega)
  refine jT_xiconst (k := 5) (pcN := 33) jI_379_32 rfl ?_
  refine jT_xisub (x := 5) (y := 5) (z := 0) (pcN := 34) jI_379_33 rfl (by decide) rfl ?_
  refine jT_xicT (pcN := 3746) jI_379_34 rfl (by decide +kernel) rfl ?_
  refine jT_xiconst (k := 1) (pcN := 3747) jI_379_3746 rfl ?_
  exact jT_ret rfl (by decide) (by show 40 ≤ 40; decide) (by omega) (by omega) ⟨rfl, rfl⟩
set_option maxRecDepth 100000 in
theorem jL_26_2 {d : Nat} {x0 x1 x2 x3 x4 : Int} (h_x0 : (-2147483648) ≤ x0 ∧ x0 ≤ 2147483647) (h_x1 : 8 ≤ x1 ∧ x1 ≤ 2147483647) (h_x2 : (-2147483648) ≤ x2 ∧ x2 ≤ 2147483647) (h_x3 : (-2147483648) ≤ x3 ∧ x3 ≤ 2147483647) (h_x4 : (-2147483648) ≤ x4 ∧ x4 ≤ 2147483647) : jT [x0, x1, x2, x3, x4] (d + 3) 379 30 2086 [(5, (0, 0)), (4, (4, 3)), (3, (4, 2)), (2, (4, 1)), (1, (4, 0)), (0, (6, 0))] [] jpA_267 1 6 (fun k v hsN => k = 0 ∧ v = (0, 1)) := by
  refine jT_xaload_n (v := (4, 0)) (pcN := 2087) jI_379_2086 rfl rfl rfl ?_
  refine jT_xaload_n (v := (6, 0)) (pcN := 2088) jI_379_2087 rfl rfl rfl ?_
  refine jT_xiload (v := (0, 0)) (pcN := 2090) jI_379_2088 rfl rfl rfl ?_
  refine jT_xiconst (k := 1) (pcN := 2091) jI_379_2090 rfl ?_
  refine jT_xiadd (x := 0) (y := 1) (z := 1) (pcN := 2092) jI_379_2091 rfl (by decide) rfl ?_
  refine jT_adv 1 (pcN := 2093) (LN := [(5, (0, 0)), (4, (4, 3)), (3, (4, 2)), (2, (4, 1)), (1, (4, 0)), (0, (6, 0))]) (stN := [(0, x1), (4, 0)]) (hsN := jpA_267) (c1 := 0) (s1 := 0) (c2 := 1) (s2 := 6) (by exact rfl) ?_ (by omega) (by omega)
  refine jT_xaload_n (v := (4, 2)) (pcN := 2094) jI_379_2093 rfl rfl rfl ?_
  refine jT_fR [0, 2, 4, 5, 6, 7, 8, 9, 10, 11, 12, 13, 14] 30 (y := 350) (pcN := 2097) (dC := 2) (bc1 := 1) (bc2 := 6) (c1 := 0) (c2 := 0) (as := [(4, 0), (0, x1), (4, 2)]) (asC := [(4, 0), (0, x1), (4, 1)]) (LN := [(5, (0, 0)), (4, (4, 3)), (3, (4, 2)), (2, (4, 1)), (1, (4, 0)), (0, (6, 0))]) (stN := []) (hsC := jpA_15) (v := (0, 1)) (st2 := [(0, 1)]) (jA_350_829 (d := 0) (by omega)) (by rfl) (by rfl) (by decide +kernel) (by rfl) (by rfl) (by omega) (by omega) (by omega) (by omega) rfl ?_
  refine jT_xistore (v := (0, 1)) (LN := [(6, (0, 1)), (5, (0, 0)), (4, (4, 3)), (3, (4, 2)), (2, (4, 1)), (1, (4, 0)), (0, (6, 0))]) (pcN := 2099) jI_379_2097 rfl rfl rfl rfl ?_
  refine jT_xaload_n (v := (4, 1)) (pcN := 2100) jI_379_2099 rfl rfl rfl ?_
  refine jT_xaload_n (v := (6, 0)) (pcN := 2101) jI_379_2100 rfl rfl rfl ?_
  refine jT_xiload (v := (0, 0)) (pcN := 2103) jI_379_2101 rfl rfl rfl ?_
  refine jT_xiconst (k := 1) (pcN := 2104) jI_379_2103 rfl ?_
  refine jT_xiadd (x := 0) (y := 1) (z := 1) (pcN := 2105) jI_379_2104 rfl (by decide) rfl ?_
  refine jT_adv 1 (pcN := 2106) (LN := [(6, (0, 1)), (5, (0, 0)), (4, (4, 3)), (3, (4, 2)), (2, (4, 1)), (1, (4, 0)), (0, (6, 0))]) (stN := [(0, x1), (4, 1)]) (hsN := jpA_267) (c1 := 0) (s1 := 0) (c2 := 0) (s2 := 0) (by exact rfl) ?_ (by omega) (by omega)
  refine jT_fB [1, 15, 16, 17, 18, 19, 20, 21, 22, 23, 24, 25, 26, 27, 28, 29] 30 (y := 275) (pcN := 2109) (dC := 2) (bc1 := 0) (bc2 := 0) (c1 := 0) (c2 := 0) (as := [(4, 1), (0, x1)]) (asC := [(4, 0), (0, x1)]) (LN := [(6, (0, 1)), (5, (0, 0)), (4, (4, 3)), (3, (4, 2)), (2, (4, 1)), (1, (4, 0)), (0, (6, 0))]) (stN := []) (hsC := jpA_22) (hsD := jpA_20) (v := (0, 0)) (st2 := [(0, 0)]) (hs2 := jpA_306) (jA_275_830 (d := 0) (by omega)) (by rfl) (by rfl) (by decide +kernel) (by rfl) (by rfl) (by omega) (by omega) (by omega) (by omega) rfl (by decide +kernel) ?_
  refine jT_xistore (v := (0, 0)) (LN := [(7, (0, 0)), (6, (0, 1)), (5, (0, 0)), (4, (4, 3)), (3, (4, 2)), (2, (4, 1)), (1, (4, 0)), (0, (6, 0))]) (pcN := 2111) jI_379_2109 rfl rfl rfl rfl ?_
  refine jT_xaload_n (v := (4, 1)) (pcN := 2112) jI_379_2111 rfl rfl rfl ?_
  refine jT_fR [1, 15, 16, 17, 18, 19, 20, 21, 22, 23, 24, 25, 26, 27, 28, 29] 30 (y := 186) (pcN := 2115) (dC := 0) (bc1 := 0) (bc2 := 0) (c1 := 0) (c2 := 0) (as := [(4, 1)]) (asC := [(4, 0)]) (LN := [(7, (0, 0)), (6, (0, 1)), (5, (0, 0)), (4, (4, 3)), (3, (4, 2)), (2, (4, 1)), (1, (4, 0)), (0, (6, 0))]) (stN := []) (hsC := jpA_20) (v := (0, 1)) (st2 := [(0, 1)]) (jA_186_8 (d := 0)) (by rfl) (by rfl) (by decide +kernel) (by rfl) (by rfl) (by omega) (by omega) (by omega) (by omega) rfl ?_
  refine jT_xiload (v := (0, 1)) (pcN := 2117) jI_379_2115 rfl rfl rfl ?_
  refine jT_xicT (pcN := 2122) jI_379_2117 rfl (by decide +kernel) rfl ?_
  refine jT_xiload (v := (0, 1)) (pcN := 2124) jI_379_2122 rfl rfl rfl ?_
  refine jT_xifT (pcN := 2139) jI_379_2124 rfl (by decide +kernel) rfl ?_
  refine jT_xgoto (pcN := 3740) jI_379_2139 rfl ?_
  refine jT_xiinc (x := 0) (z := 5) (LN := [(5, (0, 5)), (7, (0, 0)), (6, (0, 1)), (4, (4, 3)), (3, (4, 2)), (2, (4, 1)), (1, (4, 0)), (0, (6, 0))]) (pcN := 3743) jI_379_3740 rfl rfl (by decide) rfl rfl ?_
  refine jT_xgoto (pcN := 28) jI_379_3743 rfl ?_
  refine jT_xiload (v := (0, 5)) (pcN := 30) jI_379_28 rfl rfl rfl ?_
  refine jT_xaload_n (v := (6, 0)) (pcN := 31) jI_379_30 rfl rfl rfl ?_
  refine jT_adv 1 (pcN := 32) (LN := [(5, (0, 5)), (7, (0, 0)), (6, (0, 1)), (4, (4, 3)), (3, (4, 2)), (2, (4, 1)), (1, (4, 0)), (0, (6, 0))]) (stN := [(0, 5), (0, 5)]) (hsN := jpA_306) (c1 := 0) (s1 := 0) (c2 := 0) (s2 := 0) (by exact rfl) ?_ (by omega) (by omega)
  refine jT_xiconst (k := 5) (pcN := 33) jI_379_32 rfl ?_
  refine jT_xisub (x := 5) (y := 5) (z := 0) (pcN := 34) jI_379_33 rfl (by decide) rfl ?_
  refine jT_xicT (pcN := 3746) jI_379_34 rfl (by decide +kernel) rfl ?_
  refine jT_xiconst (k := 1) (pcN := 3747) jI_379_3746 rfl ?_
  exact jT_ret rfl (by decide) (by show 30 ≤ 30; decide) (by omega) (by omega) ⟨rfl, rfl⟩
theorem jI_146_0 : jmI (jm 146) 0 = (.aload_n 0, 1) := by rfl
theorem jI_146_1 : jmI (jm 146) 1 = (.iload_n 1, 1) := by rfl
theorem jI_146_2 : jmI (jm 146) 2 = (.bipush 8, 2) := by rfl
theorem jA_146_831 {xs : List Int} {d : Nat} {x1 : Int} (h_x1 : (-2147483648) ≤ x1 ∧ x1 ≤ (-1)) : jT xs (d + 1) 146 12 0 [(0, (4, 0)), (1, (0, x1))] [] jpA_6 1 6 (fun k v hsN => k = 1 ∧ v = (0, 0) ∧ hsN = jpA_6 ++ []) := by
  refine jT_xaload_n (v := (4, 0)) (pcN := 1) jI_146_0 rfl rfl rfl ?_
  refine jT_xiload_n (v := (0, x1)) (pcN := 2) jI_146_1 rfl rfl rfl ?_
  refine jT_xbipush (k := 8) (pcN := 4) jI_146_2 (by decide) rfl ?_
  exact jT_fX [0] 12 (y := 115) (pcN := 7) (dC := 0) (bc1 := 1) (bc2 := 6) (as := [(4, 0), (0, x1), (0, 8)]) (asC := [(4, 0), (0, x1), (0, 8)]) (LN := [(0, (4, 0)), (1, (0, x1))]) (stN := []) (hsC := [jgh]) (e := 0) (jA_115_1 (d := 0) (by omega)) (by rfl) (by rfl) (by decide +kernel) (by rfl) (by rfl) (by omega) (by omega) (by omega) (by omega) ⟨rfl, ⟨rfl, rfl, rfl⟩⟩
theorem jI_351_0 : jmI (jm 351) 0 = (.aload_n 2, 1) := by rfl
theorem jI_351_1 : jmI (jm 351) 1 = (.iconst 0, 1) := by rfl
theorem jI_351_2 : jmI (jm 351) 2 = (.aload_n 0, 1) := by rfl
theorem jI_351_3 : jmI (jm 351) 3 = (.iload_n 1, 1) := by rfl
theorem jA_351_832 {xs : List Int} {d : Nat} {x1 : Int} (h_x1 : (-2147483648) ≤ x1 ∧ x1 ≤ (-1)) : jT xs (d + 2) 351 13 0 [(0, (4, 0)), (1, (0, x1)), (2, (4, 1))] [] jpA_15 1 6 (fun k v hsN => k = 0 ∧ v = (0, 1) ∧ hsN = jpA_15 ++ []) := by
  refine jT_xaload_n (v := (4, 1)) (pcN := 1) jI_351_0 rfl rfl rfl ?_
  refine jT_xiconst (k := 0) (pcN := 2) jI_351_1 rfl ?_
  refine jT_xaload_n (v := (4, 0)) (pcN := 3) jI_351_2 rfl rfl rfl ?_
  refine jT_xiload_n (v := (0, x1)) (pcN := 4) jI_351_3 rfl rfl rfl ?_
  exact jT_fX [0, 2, 3, 4, 5, 6, 7, 8, 9, 10, 11, 12] 13 (y := 146) (pcN := 7) (dC := 1) (bc1 := 1) (bc2 := 6) (as := [(4, 0), (0, x1)]) (asC := [(4, 0), (0, x1)]) (LN := [(0, (4, 0)), (1, (0, x1)), (2, (4, 1))]) (stN := [(0, 0), (4, 1)]) (hsC := jpA_6) (e := 0) (jA_146_831 (d := 0) (by omega)) (by rfl) (by rfl) (by decide +kernel) (by rfl) (by rfl) (by omega) (by omega) (by omega) (by omega) (show _ from ⟨rfl, rfl, rfl⟩)
theorem jI_276_0 : jmI (jm 276) 0 = (.aload_n 0, 1) := by rfl
theorem jI_276_1 : jmI (jm 276) 1 = (.iload_n 1, 1) := by rfl
theorem jI_276_8 : jmI (jm 276) 8 = (.ifCond .eq 5, 3) := by rfl
theorem jI_276_11 : jmI (jm 276) 11 = (.iconst 0, 1) := by rfl
theorem jA_276_833 {xs : List Int} {d : Nat} {x1 : Int} (h_x1 : (-2147483648) ≤ x1 ∧ x1 ≤ (-1)) : jT xs (d + 2) 276 16 0 [(0, (4, 0)), (1, (0, x1))] [] jpA_22 0 0 (fun k v hsN => k = 0 ∧ v = (0, 0) ∧ hsN = jpA_20) := by
  refine jT_xaload_n (v := (4, 0)) (pcN := 1) jI_276_0 rfl rfl rfl ?_
  refine jT_xiload_n (v := (0, x1)) (pcN := 2) jI_276_1 rfl rfl rfl ?_
  refine jT_fR [] 16 (y := 188) (pcN := 5) (dC := 1) (bc1 := 0) (bc2 := 0) (c1 := 0) (c2 := 0) (as := [(0, x1)]) (asC := [(0, x1)]) (LN := [(0, (4, 0)), (1, (0, x1))]) (stN := [(4, 0)]) (hsC := []) (v := (0, 0)) (st2 := [(0, 0), (4, 0)]) (jA_188_4 (d := 0) (by omega)) (by rfl) (by rfl) (by decide +kernel) (by rfl) (by rfl) (by omega) (by omega) (by omega) (by omega) rfl ?_
  refine jT_fB [0, 1, 2, 3, 4, 5, 6, 7, 8, 9, 10, 11, 12, 13, 14, 15] 16 (y := 190) (pcN := 8) (dC := 1) (bc1 := 0) (bc2 := 0) (c1 := 0) (c2 := 0) (as := [(4, 0), (0, 0)]) (asC := [(4, 0), (0, 0)]) (LN := [(0, (4, 0)), (1, (0, x1))]) (stN := []) (hsC := jpA_22) (hsD := jpA_20) (v := (0, 1)) (st2 := [(0, 1)]) (hs2 := jpA_20) (jA_190_6 (d := 0)) (by rfl) (by rfl) (by decide +kernel) (by rfl) (by rfl) (by omega) (by omega) (by omega) (by omega) rfl (by decide +kernel) ?_
  refine jT_xifF (t := 13) (pcN := 11) jI_276_8 rfl (by decide +kernel) rfl rfl ?_
  refine jT_xiconst (k := 0) (pcN := 12) jI_276_11 rfl ?_
  exact jT_ret rfl (by decide) (by show 16 ≤ 16; decide) (by omega) (by omega) ⟨rfl, rfl, rfl⟩
theorem jA_22_834 {xs : List Int} {d : Nat} : jT xs (d + 1) 22 7 0 [(0, (4, 0)), (1, (4, 1)), (2, (4, 2))] [] jpA_1233 0 0 (fun k v hsN => k = 0 ∧ v = (0, 0) ∧ hsN = jpA_1233 ++ []) := by
  refine jT_advK 7 (pcN := 11) (LN := [(0, (4, 0)), (1, (4, 1)), (2, (4, 2))]) (stN := [(4, 1), (0, 0), (4, 3), (4, 2)]) (hsN := jpA_1233) (c1 := 0) (s1 := 0) (c2 := 0) (s2 := 0) (by decide +kernel) ?_ (by omega) (by omega)
  refine jT_fR [2, 3, 1] 7 (y := 48) (pcN := 14) (dC := 0) (bc1 := 0) (bc2 := 0) (c1 := 0) (c2 := 0) (as := [(4, 2), (4, 3), (0, 0), (4, 1)]) (asC := [(4, 0), (4, 1), (0, 0), (4, 2)]) (LN := [(0, (4, 0)), (1, (4, 1)), (2, (4, 2))]) (stN := []) (hsC := [jgh, (114, [], []), jgh]) (v := (0, (-1))) (st2 := [(0, (-1))]) (jA_48_291 (d := 0)) (by rfl) (by rfl) (by decide +kernel) (by rfl) (by rfl) (by omega) (by omega) (by omega) (by omega) rfl ?_
  refine jT_advK 7 (pcN := 26) (LN := [(3, (0, (-1))), (0, (4, 0)), (1, (4, 1)), (2, (4, 2))]) (stN := [(0, 0)]) (hsN := jpA_1233) (c1 := 0) (s1 := 0) (c2 := 0) (s2 := 0) (by decide +kernel) ?_ (by omega) (by omega)
  exact jT_ret rfl (by decide) (by show 7 ≤ 7; decide) (by omega) (by omega) ⟨rfl, rfl, rfl⟩
theorem jI_146_7 : jmI (jm 146) 7 = (.aload_n 0, 1) := by rfl
theorem jI_146_8 : jmI (jm 146) 8 = (.getfield 67, 3) := by rfl
theorem jI_146_11 : jmI (jm 146) 11 = (.getfield 140, 3) := by rfl
theorem jI_146_14 : jmI (jm 146) 14 = (.aload_n 0, 1) := by rfl
theorem jI_146_15 : jmI (jm 146) 15 = (.getfield 67, 3) := by rfl
theorem jI_146_18 : jmI (jm 146) 18 = (.iload_n 1, 1) := by rfl
theorem jI_146_22 : jmI (jm 146) 22 = (.aload_n 0, 1) := by rfl
theorem jI_146_23 : jmI (jm 146) 23 = (.getfield 10, 3) := by rfl
theorem jA_146_835 {xs : List Int} {d : Nat} {x1 : Int} (h_x1 : 0 ≤ x1 ∧ x1 ≤ 7) : jT xs (d + 2) 146 22 0 [(0, (4, 0)), (1, (0, x1))] [] jpA_3311 0 0 (fun k v hsN => k = 0 ∧ v = (0, 0) ∧ hsN = jpA_3311 ++ []) := by
  refine jT_xaload_n (v := (4, 0)) (pcN := 1) jI_146_0 rfl rfl rfl ?_
  refine jT_xiload_n (v := (0, x1)) (pcN := 2) jI_146_1 rfl rfl rfl ?_
  refine jT_xbipush (k := 8) (pcN := 4) jI_146_2 (by decide) rfl ?_
  refine jT_fR [0] 22 (y := 115) (pcN := 7) (dC := 0) (bc1 := 0) (bc2 := 0) (c1 := 0) (c2 := 0) (as := [(4, 0), (0, x1), (0, 8)]) (asC := [(4, 0), (0, x1), (0, 8)]) (LN := [(0, (4, 0)), (1, (0, x1))]) (stN := []) (hsC := [jgh]) (v := (9, 0)) (st2 := []) (jA_115_9 (d := 0) (by omega)) (by rfl) (by rfl) (by decide +kernel) (by rfl) (by rfl) (by omega) (by omega) (by omega) (by omega) rfl ?_
  refine jT_xaload_n (v := (4, 0)) (pcN := 8) jI_146_7 rfl rfl rfl ?_
  refine jT_xgetf (a := 0) (t := 1) (ci := 13) (fi := 11) (c := jzA_5) (v := (4, 11)) (pcN := 11) jI_146_8 rfl rfl rfl rfl rfl rfl rfl ?_
  refine jT_xgetf (a := 11) (t := 2) (ci := 9) (fi := 2) (c := jzA_640) (v := (4, 16)) (pcN := 14) jI_146_11 rfl rfl rfl rfl rfl rfl rfl ?_
  refine jT_xaload_n (v := (4, 0)) (pcN := 15) jI_146_14 rfl rfl rfl ?_
  refine jT_xgetf (a := 0) (t := 1) (ci := 13) (fi := 11) (c := jzA_5) (v := (4, 11)) (pcN := 18) jI_146_15 rfl rfl rfl rfl rfl rfl rfl ?_
  refine jT_xiload_n (v := (0, x1)) (pcN := 19) jI_146_18 rfl rfl rfl ?_
  refine jT_fR [11, 14, 15, 16, 17, 18, 19] 22 (y := 57) (pcN := 22) (dC := 0) (bc1 := 0) (bc2 := 0) (c1 := 0) (c2 := 0) (as := [(4, 11), (0, x1)]) (asC := [(4, 0), (0, x1)]) (LN := [(0, (4, 0)), (1, (0, x1))]) (stN := [(4, 16)]) (hsC := jpA_47) (v := (4, 6)) (st2 := [(4, 19), (4, 16)]) (jA_57_108 (d := 0) (by omega)) (by rfl) (by rfl) (by decide +kernel) (by rfl) (by rfl) (by omega) (by omega) (by omega) (by omega) rfl ?_
  refine jT_xaload_n (v := (4, 0)) (pcN := 23) jI_146_22 rfl rfl rfl ?_
  refine jT_xgetf (a := 0) (t := 1) (ci := 13) (fi := 0) (c := jzA_5) (v := (4, 1)) (pcN := 26) jI_146_23 rfl rfl rfl rfl rfl rfl rfl ?_
  refine jT_fR [16, 19, 1, 20, 21, 12, 13] 22 (y := 22) (pcN := 29) (dC := 1) (bc1 := 0) (bc2 := 0) (c1 := 0) (c2 := 0) (as := [(4, 16), (4, 19), (4, 1)]) (asC := [(4, 0), (4, 1), (4, 2)]) (LN := [(0, (4, 0)), (1, (0, x1))]) (stN := []) (hsC := jpA_1233) (v := (0, 0)) (st2 := [(0, 0)]) (jA_22_834 (d := 0)) (by rfl) (by rfl) (by decide +kernel) (by rfl) (by rfl) (by omega) (by omega) (by omega) (by omega) rfl ?_
  exact jT_ret rfl (by decide) (by show 22 ≤ 22; decide) (by omega) (by omega) ⟨rfl, rfl, rfl⟩
theorem jI_351_7 : jmI (jm 351) 7 = (.i2l, 1) := by rfl
theorem jI_351_9 : jmI (jm 351) 9 = (.goto 6, 3) := by rfl
theorem jI_351_15 : jmI (jm 351) 15 = (.iconst 0, 1) := by rfl
theorem jA_351_836 {xs : List Int} {d : Nat} {x1 : Int} (h_x1 : 0 ≤ x1 ∧ x1 ≤ 7) : jT xs (d + 3) 351 23 0 [(0, (4, 0)), (1, (0, x1)), (2, (4, 1))] [] jpA_3316 0 0 (fun k v hsN => k = 0 ∧ v = (0, 0) ∧ hsN = jpA_3316 ++ []) := by
  refine jT_xaload_n (v := (4, 1)) (pcN := 1) jI_351_0 rfl rfl rfl ?_
  refine jT_xiconst (k := 0) (pcN := 2) jI_351_1 rfl ?_
  refine jT_xaload_n (v := (4, 0)) (pcN := 3) jI_351_2 rfl rfl rfl ?_
  refine jT_xiload_n (v := (0, x1)) (pcN := 4) jI_351_3 rfl rfl rfl ?_
  refine jT_fR [0, 2, 3, 4, 5, 6, 7, 8, 9, 10, 11, 12, 13, 14, 15, 16, 17, 18, 19, 20, 21, 22] 23 (y := 146) (pcN := 7) (dC := 2) (bc1 := 0) (bc2 := 0) (c1 := 0) (c2 := 0) (as := [(4, 0), (0, x1)]) (asC := [(4, 0), (0, x1)]) (LN := [(0, (4, 0)), (1, (0, x1)), (2, (4, 1))]) (stN := [(0, 0), (4, 1)]) (hsC := jpA_3311) (v := (0, 0)) (st2 := [(0, 0), (0, 0), (4, 1)]) (jA_146_835 (d := 0) (by omega)) (by rfl) (by rfl) (by decide +kernel) (by rfl) (by rfl) (by omega) (by omega) (by omega) (by omega) rfl ?_
  refine jT_xi2l (x := 0) (z := 0) (pcN := 8) jI_351_7 rfl (by decide +kernel) rfl ?_
  refine jT_adv 1 (pcN := 9) (LN := [(0, (4, 0)), (1, (0, x1)), (2, (4, 1))]) (stN := []) (hsN := jpA_3316) (c1 := 0) (s1 := 0) (c2 := 0) (s2 := 0) (by exact rfl) ?_ (by omega) (by omega)
  refine jT_xgoto (pcN := 15) jI_351_9 rfl ?_
  refine jT_xiconst (k := 0) (pcN := 16) jI_351_15 rfl ?_
  exact jT_ret rfl (by decide) (by show 23 ≤ 23; decide) (by omega) (by omega) ⟨rfl, rfl, rfl⟩
theorem jI_276_13 : jmI (jm 276) 13 = (.aload_n 0, 1) := by rfl
theorem jI_276_14 : jmI (jm 276) 14 = (.iload_n 1, 1) := by rfl
theorem jI_276_18 : jmI (jm 276) 18 = (.iconst 0, 1) := by rfl
theorem jI_276_19 : jmI (jm 276) 19 = (.istore_n 2, 1) := by rfl
theorem jI_276_20 : jmI (jm 276) 20 = (.iconst 0, 1) := by rfl
theorem jI_276_21 : jmI (jm 276) 21 = (.istore_n 3, 1) := by rfl
theorem jI_276_22 : jmI (jm 276) 22 = (.iload_n 3, 1) := by rfl
theorem jI_276_23 : jmI (jm 276) 23 = (.aload_n 0, 1) := by rfl
theorem jI_276_24 : jmI (jm 276) 24 = (.getfield 13, 3) := by rfl
theorem jI_276_28 : jmI (jm 276) 28 = (.if_icmp .ge 29, 3) := by rfl
theorem jI_276_57 : jmI (jm 276) 57 = (.iload_n 2, 1) := by rfl
theorem jA_276_837 {xs : List Int} {d : Nat} {x1 : Int} (h_x1 : 0 ≤ x1 ∧ x1 ≤ 7) : jT xs (d + 2) 276 16 0 [(0, (4, 0)), (1, (0, x1))] [] jpA_3317 0 0 (fun k v hsN => k = 0 ∧ v = (0, 0) ∧ hsN = jpA_3317 ++ []) := by
  refine jT_xaload_n (v := (4, 0)) (pcN := 1) jI_276_0 rfl rfl rfl ?_
  refine jT_xiload_n (v := (0, x1)) (pcN := 2) jI_276_1 rfl rfl rfl ?_
  refine jT_fR [] 16 (y := 188) (pcN := 5) (dC := 1) (bc1 := 0) (bc2 := 0) (c1 := 0) (c2 := 0) (as := [(0, x1)]) (asC := [(0, x1)]) (LN := [(0, (4, 0)), (1, (0, x1))]) (stN := [(4, 0)]) (hsC := []) (v := (0, 1)) (st2 := [(0, 1), (4, 0)]) (jA_188_13 (d := 0) (by omega)) (by rfl) (by rfl) (by decide +kernel) (by rfl) (by rfl) (by omega) (by omega) (by omega) (by omega) rfl ?_
  refine jT_fR [0, 1, 2, 3, 4, 5, 6, 7, 8, 9, 10, 11, 12, 13, 14, 15] 16 (y := 190) (pcN := 8) (dC := 1) (bc1 := 0) (bc2 := 0) (c1 := 0) (c2 := 0) (as := [(4, 0), (0, 1)]) (asC := [(4, 0), (0, 1)]) (LN := [(0, (4, 0)), (1, (0, x1))]) (stN := []) (hsC := jpA_22) (v := (0, 0)) (st2 := [(0, 0)]) (jA_190_39 (d := 0)) (by rfl) (by rfl) (by decide +kernel) (by rfl) (by rfl) (by omega) (by omega) (by omega) (by omega) rfl ?_
  refine jT_xifT (pcN := 13) jI_276_8 rfl (by decide +kernel) rfl ?_
  refine jT_xaload_n (v := (4, 0)) (pcN := 14) jI_276_13 rfl rfl rfl ?_
  refine jT_xiload_n (v := (0, x1)) (pcN := 15) jI_276_14 rfl rfl rfl ?_
  refine jT_fR [0, 1, 2, 3, 4, 5, 6, 7, 8, 9, 10, 11, 12, 13, 14, 15] 16 (y := 202) (pcN := 18) (dC := 1) (bc1 := 0) (bc2 := 0) (c1 := 0) (c2 := 0) (as := [(4, 0), (0, x1)]) (asC := [(4, 0), (0, x1)]) (LN := [(0, (4, 0)), (1, (0, x1))]) (stN := []) (hsC := jpA_130) (v := (9, 0)) (st2 := []) (jA_202_115 (d := 0) (by omega)) (by rfl) (by rfl) (by decide +kernel) (by rfl) (by rfl) (by omega) (by omega) (by omega) (by omega) rfl ?_
  refine jT_xiconst (k := 0) (pcN := 19) jI_276_18 rfl ?_
  refine jT_xistore_n (v := (0, 0)) (LN := [(2, (0, 0)), (0, (4, 0)), (1, (0, x1))]) (pcN := 20) jI_276_19 rfl rfl rfl rfl ?_
  refine jT_xiconst (k := 0) (pcN := 21) jI_276_20 rfl ?_
  refine jT_xistore_n (v := (0, 0)) (LN := [(3, (0, 0)), (2, (0, 0)), (0, (4, 0)), (1, (0, x1))]) (pcN := 22) jI_276_21 rfl rfl rfl rfl ?_
  refine jT_xiload_n (v := (0, 0)) (pcN := 23) jI_276_22 rfl rfl rfl ?_
  refine jT_xaload_n (v := (4, 0)) (pcN := 24) jI_276_23 rfl rfl rfl ?_
  refine jT_xgetf (a := 0) (t := 1) (ci := 14) (fi := 2) (c := jzA_21) (v := (4, 2)) (pcN := 27) jI_276_24 rfl rfl rfl rfl rfl rfl rfl ?_
  refine jT_adv 1 (pcN := 28) (LN := [(3, (0, 0)), (2, (0, 0)), (0, (4, 0)), (1, (0, x1))]) (stN := [(0, 0), (0, 0)]) (hsN := jpA_3317) (c1 := 0) (s1 := 0) (c2 := 0) (s2 := 0) (by exact rfl) ?_ (by omega) (by omega)
  refine jT_xicT (pcN := 57) jI_276_28 rfl (by decide +kernel) rfl ?_
  refine jT_xiload_n (v := (0, 0)) (pcN := 58) jI_276_57 rfl rfl rfl ?_
  exact jT_ret rfl (by decide) (by show 16 ≤ 16; decide) (by omega) (by omega) ⟨rfl, rfl, rfl⟩
theorem jA_146_838 {xs : List Int} {d : Nat} {x1 : Int} (h_x1 : 8 ≤ x1 ∧ x1 ≤ 2147483647) : jT xs (d + 1) 146 12 0 [(0, (4, 0)), (1, (0, x1))] [] jpA_6 1 6 (fun k v hsN => k = 1 ∧ v = (0, 0) ∧ hsN = jpA_6 ++ []) := by
  refine jT_xaload_n (v := (4, 0)) (pcN := 1) jI_146_0 rfl rfl rfl ?_
  refine jT_xiload_n (v := (0, x1)) (pcN := 2) jI_146_1 rfl rfl rfl ?_
  refine jT_xbipush (k := 8) (pcN := 4) jI_146_2 (by decide) rfl ?_
  exact jT_fX [0] 12 (y := 115) (pcN := 7) (dC := 0) (bc1 := 1) (bc2 := 6) (as := [(4, 0), (0, x1), (0, 8)]) (asC := [(4, 0), (0, x1), (0, 8)]) (LN := [(0, (4, 0)), (1, (0, x1))]) (stN := []) (hsC := [jgh]) (e := 0) (jA_115_65 (d := 0) (by omega)) (by rfl) (by rfl) (by decide +kernel) (by rfl) (by rfl) (by omega) (by omega) (by omega) (by omega) ⟨rfl, ⟨rfl, rfl, rfl⟩⟩
theorem jA_351_839 {xs : List Int} {d : Nat} {x1 : Int} (h_x1 : 8 ≤ x1 ∧ x1 ≤ 2147483647) : jT xs (d + 2) 351 13 0 [(0, (4, 0)), (1, (0, x1)), (2, (4, 1))] [] jpA_15 1 6 (fun k v hsN => k = 0 ∧ v = (0, 1) ∧ hsN = jpA_15 ++ []) := by
  refine jT_xaload_n (v := (4, 1)) (pcN := 1) jI_351_0 rfl rfl rfl ?_
  refine jT_xiconst (k := 0) (pcN := 2) jI_351_1 rfl ?_
  refine jT_xaload_n (v := (4, 0)) (pcN := 3) jI_351_2 rfl rfl rfl ?_
  refine jT_xiload_n (v := (0, x1)) (pcN := 4) jI_351_3 rfl rfl rfl ?_
  exact jT_fX [0, 2, 3, 4, 5, 6, 7, 8, 9, 10, 11, 12] 13 (y := 146) (pcN := 7) (dC := 1) (bc1 := 1) (bc2 := 6) (as := [(4, 0), (0, x1)]) (asC := [(4, 0), (0, x1)]) (LN := [(0, (4, 0)), (1, (0, x1)), (2, (4, 1))]) (stN := [(0, 0), (4, 1)]) (hsC := jpA_6) (e := 0) (jA_146_838 (d := 0) (by omega)) (by rfl) (by rfl) (by decide +kernel) (by rfl) (by rfl) (by omega) (by omega) (by omega) (by omega) (show _ from ⟨rfl, rfl, rfl⟩)
theorem jA_276_840 {xs : List Int} {d : Nat} {x1 : Int} (h_x1 : 8 ≤ x1 ∧ x1 ≤ 2147483647) : jT xs (d + 2) 276 16 0 [(0, (4, 0)), (1, (0, x1))] [] jpA_22 0 0 (fun k v hsN => k = 0 ∧ v = (0, 0) ∧ hsN = jpA_20) := by
  refine jT_xaload_n (v := (4, 0)) (pcN := 1) jI_276_0 rfl rfl rfl ?_
  refine jT_xiload_n (v := (0, x1)) (pcN := 2) jI_276_1 rfl rfl rfl ?_
  refine jT_fR [] 16 (y := 188) (pcN := 5) (dC := 1) (bc1 := 0) (bc2 := 0) (c1 := 0) (c2 := 0) (as := [(0, x1)]) (asC := [(0, x1)]) (LN := [(0, (4, 0)), (1, (0, x1))]) (stN := [(4, 0)]) (hsC := []) (v := (0, 0)) (st2 := [(0, 0), (4, 0)]) (jA_188_68 (d := 0) (by omega)) (by rfl) (by rfl) (by decide +kernel) (by rfl) (by rfl) (by omega) (by omega) (by omega) (by omega) rfl ?_
  refine jT_fB [0, 1, 2, 3, 4, 5, 6, 7, 8, 9, 10, 11, 12, 13, 14, 15] 16 (y := 190) (pcN := 8) (dC := 1) (bc1 := 0) (bc2 := 0) (c1 := 0) (c2 := 0) (as := [(4, 0), (0, 0)]) (asC := [(4, 0), (0, 0)]) (LN := [(0, (4, 0)), (1, (0, x1))]) (stN := []) (hsC := jpA_22) (hsD := jpA_20) (v := (0, 1)) (st2 := [(0, 1)]) (hs2 := jpA_20) (jA_190_6 (d := 0)) (by rfl) (by rfl) (by decide +kernel) (by rfl) (by rfl) (by omega) (by omega) (by omega) (by omega) rfl (by decide +kernel) ?_
  refine jT_xifF (t := 13) (pcN := 11) jI_276_8 rfl (by decide +kernel) rfl rfl ?_
  refine jT_xiconst (k := 0) (pcN := 12) jI_276_11 rfl ?_
  exact jT_ret rfl (by decide) (by show 16 ≤ 16; decide) (by omega) (by omega) ⟨rfl, rfl, rfl⟩
theorem jI_379_2142 : jmI (jm 379) 2142 = (.aload_n 1, 1) := by rfl
theorem jI_379_2143 : jmI (jm 379) 2143 = (.aload_n 0, 1) := by rfl
theorem jI_379_2144 : jmI (jm 379) 2144 = (.iload 5, 2) := by rfl
theorem jI_379_2146 : jmI (jm 379) 2146 = (.iconst 1, 1) := by rfl
theorem jI_379_2147 : jmI (jm 379) 2147 = (.iadd, 1) := by rfl
theorem jI_379_2149 : jmI (jm 379) 2149 = (.aload_n 3, 1) := by rfl
theorem jI_379_2153 : jmI (jm 379) 2153 = (.istore 6, 2) := by rfl
theorem jI_379_2155 : jmI (jm 379) 2155 = (.aload_n 2, 1) := by rfl
theorem jI_379_2156 : jmI (jm 379) 2156 = (.aload_n 0, 1) := by rfl
theorem jI_379_2157 : jmI (jm 379) 2157 = (.iload 5, 2) := by rfl
theorem jI_379_2159 : jmI (jm 379) 2159 = (.iconst 1, 1) := by rfl
theorem jI_379_2160 : jmI (jm 379) 2160 = (.iadd, 1) := by rfl
theorem jI_379_2165 : jmI (jm 379) 2165 = (.istore 7, 2) := by rfl
theorem jI_379_2167 : jmI (jm 379) 2167 = (.aload_n 2, 1) := by rfl
theorem jI_379_2171 : jmI (jm 379) 2171 = (.iload 6, 2) := by rfl
theorem jI_379_2173 : jmI (jm 379) 2173 = (.if_icmp .eq 5, 3) := by rfl
theorem jI_379_2178 : jmI (jm 379) 2178 = (.iload 6, 2) := by rfl
theorem jI_379_2180 : jmI (jm 379) 2180 = (.ifCond .ne 15, 3) := by rfl
theorem jI_379_2195 : jmI (jm 379) 2195 = (.goto 1545, 3) := by rfl
set_option maxRecDepth 100000 in
theorem jL_27_0 {d : Nat} {x0 x1 x2 x3 x4 : Int} (h_x0 : (-2147483648) ≤ x0 ∧ x0 ≤ 2147483647) (h_x1 : (-2147483648) ≤ x1 ∧ x1 ≤ (-1)) (h_x2 : (-2147483648) ≤ x2 ∧ x2 ≤ 2147483647) (h_x3 : (-2147483648) ≤ x3 ∧ x3 ≤ 2147483647) (h_x4 : (-2147483648) ≤ x4 ∧ x4 ≤ 2147483647) : jT [x0, x1, x2, x3, x4] (d + 3) 379 30 2142 [(5, (0, 0)), (4, (4, 3)), (3, (4, 2)), (2, (4, 1)), (1, (4, 0)), (0, (6, 0))] [] jpA_267 1 6 (fun k v hsN => k = 0 ∧ v = (0, 1)) := by
  refine jT_xaload_n (v := (4, 0)) (pcN := 2143) jI_379_2142 rfl rfl rfl ?_
  refine jT_xaload_n (v := (6, 0)) (pcN := 2144) jI_379_2143 rfl rfl rfl ?_
  refine jT_xiload (v := (0, 0)) (pcN := 2146) jI_379_2144 rfl rfl rfl ?_
  refine jT_xiconst (k := 1) (pcN := 2147) jI_379_2146 rfl ?_
  refine jT_xiadd (x := 0) (y := 1) (z := 1) (pcN := 2148) jI_379_2147 rfl (by decide) rfl ?_
  refine jT_adv 1 (pcN := 2149) (LN := [(5, (0, 0)), (4, (4, 3)), (3, (4, 2)), (2, (4, 1)), (1, (4, 0)), (0, (6, 0))]) (stN := [(0, x1), (4, 0)]) (hsN := jpA_267) (c1 := 0) (s1 := 0) (c2 := 1) (s2 := 6) (by exact rfl) ?_ (by omega) (by omega)
  refine jT_xaload_n (v := (4, 2)) (pcN := 2150) jI_379_2149 rfl rfl rfl ?_
  refine jT_fR [0, 2, 4, 5, 6, 7, 8, 9, 10, 11, 12, 13, 14] 30 (y := 351) (pcN := 2153) (dC := 2) (bc1 := 1) (bc2 := 6) (c1 := 0) (c2 := 0) (as := [(4, 0), (0, x1), (4, 2)]) (asC := [(4, 0), (0, x1), (4, 1)]) (LN := [(5, (0, 0)), (4, (4, 3)), (3, (4, 2)), (2, (4, 1)), (1, (4, 0)), (0, (6, 0))]) (stN := []) (hsC := jpA_15) (v := (0, 1)) (st2 := [(0, 1)]) (jA_351_832 (d := 0) (by omega)) (by rfl) (by rfl) (by decide +kernel) (by rfl) (by rfl) (by omega) (by omega) (by omega) (by omega) rfl ?_
  refine jT_xistore (v := (0, 1)) (LN := [(6, (0, 1)), (5, (0, 0)), (4, (4, 3)), (3, (4, 2)), (2, (4, 1)), (1, (4, 0)), (0, (6, 0))]) (pcN := 2155) jI_379_2153 rfl rfl rfl rfl ?_
  refine jT_xaload_n (v := (4, 1)) (pcN := 2156) jI_379_2155 rfl rfl rfl ?_
  refine jT_xaload_n (v := (6, 0)) (pcN := 2157) jI_379_2156 rfl rfl rfl ?_
  refine jT_xiload (v := (0, 0)) (pcN := 2159) jI_379_2157 rfl rfl rfl ?_
  refine jT_xiconst (k := 1) (pcN := 2160) jI_379_2159 rfl ?_
  refine jT_xiadd (x := 0) (y := 1) (z := 1) (pcN := 2161) jI_379_2160 rfl (by decide) rfl ?_
  refine jT_adv 1 (pcN := 2162) (LN := [(6, (0, 1)), (5, (0, 0)), (4, (4, 3)), (3, (4, 2)), (2, (4, 1)), (1, (4, 0)), (0, (6, 0))]) (stN := [(0, x1), (4, 1)]) (hsN := jpA_267) (c1 := 0) (s1 := 0) (c2 := 0) (s2 := 0) (by exact rfl) ?_ (by omega) (by omega)
  refine jT_fB [1, 15, 16, 17, 18, 19, 20, 21, 22, 23, 24, 25, 26, 27, 28, 29] 30 (y := 276) (pcN := 2165) (dC := 2) (bc1 := 0) (bc2 := 0) (c1 := 0) (c2 := 0) (as := [(4, 1), (0, x1)]) (asC := [(4, 0), (0, x1)]) (LN := [(6, (0, 1)), (5, (0, 0)), (4, (4, 3)), (3, (4, 2)), (2, (4, 1)), (1, (4, 0)), (0, (6, 0))]) (stN := []) (hsC := jpA_22) (hsD := jpA_20) (v := (0, 0)) (st2 := [(0, 0)]) (hs2 := jpA_306) (jA_276_833 (d := 0) (by omega)) (by rfl) (by rfl) (by decide +kernel) (by rfl) (by rfl) (by omega) (by omega) (by omega) (by omega) rfl (by decide +kernel) ?_
  refine jT_xistore (v := (0, 0)) (LN := [(7, (0, 0)), (6, (0, 1)), (5, (0, 0)), (4, (4, 3)), (3, (4, 2)), (2, (4, 1)), (1, (4, 0)), (0, (6, 0))]) (pcN := 2167) jI_379_2165 rfl rfl rfl rfl ?_
  refine jT_xaload_n (v := (4, 1)) (pcN := 2168) jI_379_2167 rfl rfl rfl ?_
  refine jT_fR [1, 15, 16, 17, 18, 19, 20, 21, 22, 23, 24, 25, 26, 27, 28, 29] 30 (y := 186) (pcN := 2171) (dC := 0) (bc1 := 0) (bc2 := 0) (c1 := 0) (c2 := 0) (as := [(4, 1)]) (asC := [(4, 0)]) (LN := [(7, (0, 0)), (6, (0, 1)), (5, (0, 0)), (4, (4, 3)), (3, (4, 2)), (2, (4, 1)), (1, (4, 0)), (0, (6, 0))]) (stN := []) (hsC := jpA_20) (v := (0, 1)) (st2 := [(0, 1)]) (jA_186_8 (d := 0)) (by rfl) (by rfl) (by decide +kernel) (by rfl) (by rfl) (by omega) (by omega) (by omega) (by omega) rfl ?_
  refine jT_xiload (v := (0, 1)) (pcN := 2173) jI_379_2171 rfl rfl rfl ?_
  refine jT_xicT (pcN := 2178) jI_379_2173 rfl (by decide +kernel) rfl ?_
  refine jT_xiload (v := (0, 1)) (pcN := 2180) jI_379_2178 rfl rfl rfl ?_
  refine jT_xifT (pcN := 2195) jI_379_2180 rfl (by decide +kernel) rfl ?_
  refine jT_xgoto (pcN := 3740) jI_379_2195 rfl ?_
  refine jT_xiinc (x := 0) (z := 5) (LN := [(5, (0, 5)), (7, (0, 0)), (6, (0, 1)), (4, (4, 3)), (3, (4, 2)), (2, (4, 1)), (1, (4, 0)), (0, (6, 0))]) (pcN := 3743) jI_379_3740 rfl rfl (by decide) rfl rfl ?_
  refine jT_xgoto (pcN := 28) jI_379_3743 rfl ?_
  refine jT_xiload (v := (0, 5)) (pcN := 30) jI_379_28 rfl rfl rfl ?_
  refine jT_xaload_n (v := (6, 0)) (pcN := 31) jI_379_30 rfl rfl rfl ?_
  refine jT_adv 1 (pcN := 32) (LN := [(5, (0, 5)), (7, (0, 0)), (6, (0, 1)), (4, (4, 3)), (3, (4, 2)), (2, (4, 1)), (1, (4, 0)), (0, (6, 0))]) (stN := [(0, 5), (0, 5)]) (hsN := jpA_306) (c1 := 0) (s1 := 0) (c2 := 0) (s2 := 0) (by exact rfl) ?_ (by omega) (by omega)
  refine jT_xiconst (k := 5) (pcN := 33) jI_379_32 rfl ?_
  refine jT_xisub (x := 5) (y := 5) (z := 0) (pcN := 34) jI_379_33 rfl (by decide) rfl ?_
  refine jT_xicT (pcN := 3746) jI_379_34 rfl (by decide +kernel) rfl ?_
  refine jT_xiconst (k := 1) (pcN := 3747) jI_379_3746 rfl ?_
  exact jT_ret rfl (by decide) (by show 30 ≤ 30; decide) (by omega) (by omega) ⟨rfl, rfl⟩
theorem jI_379_2183 : jmI (jm 379) 2183 = (.aload_n 3, 1) := by rfl
theorem jI_379_2184 : jmI (jm 379) 2184 = (.iconst 0, 1) := by rfl
theorem jI_379_2185 : jmI (jm 379) 2185 = (.laload, 1) := by rfl
theorem jI_379_2186 : jmI (jm 379) 2186 = (.iload 7, 2) := by rfl
theorem jI_379_2188 : jmI (jm 379) 2188 = (.i2l, 1) := by rfl
theorem jI_379_2190 : jmI (jm 379) 2190 = (.ifCond .eq 5, 3) := by rfl
set_option maxRecDepth 100000 in
theorem jL_27_1 {d : Nat} {x0 x1 x2 x3 x4 : Int} (h_x0 : (-2147483648) ≤ x0 ∧ x0 ≤ 2147483647) (h_x1 : 0 ≤ x1 ∧ x1 ≤ 7) (h_x2 : (-2147483648) ≤ x2 ∧ x2 ≤ 2147483647) (h_x3 : (-2147483648) ≤ x3 ∧ x3 ≤ 2147483647) (h_x4 : (-2147483648) ≤ x4 ∧ x4 ≤ 2147483647) : jT [x0, x1, x2, x3, x4] (d + 4) 379 40 2142 [(5, (0, 0)), (4, (4, 3)), (3, (4, 2)), (2, (4, 1)), (1, (4, 0)), (0, (6, 0))] [] jpA_3345 0 0 (fun k v hsN => k = 0 ∧ v = (0, 1)) := by
  refine jT_xaload_n (v := (4, 0)) (pcN := 2143) jI_379_2142 rfl rfl rfl ?_
  refine jT_xaload_n (v := (6, 0)) (pcN := 2144) jI_379_2143 rfl rfl rfl ?_
  refine jT_xiload (v := (0, 0)) (pcN := 2146) jI_379_2144 rfl rfl rfl ?_
  refine jT_xiconst (k := 1) (pcN := 2147) jI_379_2146 rfl ?_
  refine jT_xiadd (x := 0) (y := 1) (z := 1) (pcN := 2148) jI_379_2147 rfl (by decide) rfl ?_
  refine jT_adv 1 (pcN := 2149) (LN := [(5, (0, 0)), (4, (4, 3)), (3, (4, 2)), (2, (4, 1)), (1, (4, 0)), (0, (6, 0))]) (stN := [(0, x1), (4, 0)]) (hsN := jpA_3345) (c1 := 0) (s1 := 0) (c2 := 0) (s2 := 0) (by exact rfl) ?_ (by omega) (by omega)
  refine jT_xaload_n (v := (4, 2)) (pcN := 2150) jI_379_2149 rfl rfl rfl ?_
  refine jT_fR [0, 2, 4, 5, 6, 7, 8, 9, 10, 11, 12, 13, 14, 30, 31, 32, 33, 34, 35, 36, 37, 38, 39] 40 (y := 351) (pcN := 2153) (dC := 3) (bc1 := 0) (bc2 := 0) (c1 := 0) (c2 := 0) (as := [(4, 0), (0, x1), (4, 2)]) (asC := [(4, 0), (0, x1), (4, 1)]) (LN := [(5, (0, 0)), (4, (4, 3)), (3, (4, 2)), (2, (4, 1)), (1, (4, 0)), (0, (6, 0))]) (stN := []) (hsC := jpA_3316) (v := (0, 0)) (st2 := [(0, 0)]) (jA_351_836 (d := 0) (by omega)) (by rfl) (by rfl) (by decide +kernel) (by rfl) (by rfl) (by omega) (by omega) (by omega) (by omega) rfl ?_
  refine jT_xistore (v := (0, 0)) (LN := [(6, (0, 0)), (5, (0, 0)), (4, (4, 3)), (3, (4, 2)), (2, (4, 1)), (1, (4, 0)), (0, (6, 0))]) (pcN := 2155) jI_379_2153 rfl rfl rfl rfl ?_
  refine jT_xaload_n (v := (4, 1)) (pcN := 2156) jI_379_2155 rfl rfl rfl ?_
  refine jT_xaload_n (v := (6, 0)) (pcN := 2157) jI_379_2156 rfl rfl rfl ?_
  refine jT_xiload (v := (0, 0)) (pcN := 2159) jI_379_2157 rfl rfl rfl ?_
  refine jT_xiconst (k := 1) (pcN := 2160) jI_379_2159 rfl ?_
  refine jT_xiadd (x := 0) (y := 1) (z := 1) (pcN := 2161) jI_379_2160 rfl (by decide) rfl ?_
  refine jT_adv 1 (pcN := 2162) (LN := [(6, (0, 0)), (5, (0, 0)), (4, (4, 3)), (3, (4, 2)), (2, (4, 1)), (1, (4, 0)), (0, (6, 0))]) (stN := [(0, x1), (4, 1)]) (hsN := jpA_3345) (c1 := 0) (s1 := 0) (c2 := 0) (s2 := 0) (by exact rfl) ?_ (by omega) (by omega)
  refine jT_fR [1, 15, 16, 17, 18, 19, 20, 21, 22, 23, 24, 25, 26, 27, 28, 29] 40 (y := 276) (pcN := 2165) (dC := 2) (bc1 := 0) (bc2 := 0) (c1 := 0) (c2 := 0) (as := [(4, 1), (0, x1)]) (asC := [(4, 0), (0, x1)]) (LN := [(6, (0, 0)), (5, (0, 0)), (4, (4, 3)), (3, (4, 2)), (2, (4, 1)), (1, (4, 0)), (0, (6, 0))]) (stN := []) (hsC := jpA_3317) (v := (0, 0)) (st2 := [(0, 0)]) (jA_276_837 (d := 0) (by omega)) (by rfl) (by rfl) (by decide +kernel) (by rfl) (by rfl) (by omega) (by omega) (by omega) (by omega) rfl ?_
  refine jT_xistore (v := (0, 0)) (LN := [(7, (0, 0)), (6, (0, 0)), (5, (0, 0)), (4, (4, 3)), (3, (4, 2)), (2, (4, 1)), (1, (4, 0)), (0, (6, 0))]) (pcN := 2167) jI_379_2165 rfl rfl rfl rfl ?_
  refine jT_xaload_n (v := (4, 1)) (pcN := 2168) jI_379_2167 rfl rfl rfl ?_
  refine jT_fR [1, 15, 16, 17, 18, 19, 20, 21, 22, 23, 24, 25, 26, 27, 28, 29] 40 (y := 186) (pcN := 2171) (dC := 0) (bc1 := 0) (bc2 := 0) (c1 := 0) (c2 := 0) (as := [(4, 1)]) (asC := [(4, 0)]) (LN := [(7, (0, 0)), (6, (0, 0)), (5, (0, 0)), (4, (4, 3)), (3, (4, 2)), (2, (4, 1)), (1, (4, 0)), (0, (6, 0))]) (stN := []) (hsC := jpA_22) (v := (0, 0)) (st2 := [(0, 0)]) (jA_186_726 (d := 0)) (by rfl) (by rfl) (by decide +kernel) (by rfl) (by rfl) (by omega) (by omega) (by omega) (by omega) rfl ?_
  refine jT_xiload (v := (0, 0)) (pcN := 2173) jI_379_2171 rfl rfl rfl ?_
  refine jT_xicT (pcN := 2178) jI_379_2173 rfl (by decide +kernel) rfl ?_
  refine jT_xiload (v := (0, 0)) (pcN := 2180) jI_379_2178 rfl rfl rfl ?_
  refine jT_xifF (t := 2195) (pcN := 2183) jI_379_2180 rfl (by decide +kernel) rfl rfl ?_
  refine jT_xaload_n (v := (4, 2)) (pcN := 2184) jI_379_2183 rfl rfl rfl ?_
  refine jT_xiconst (k := 0) (pcN := 2185) jI_379_2184 rfl ?_
  refine jT_lald (x := 0) (a := 2) (j := 0) (fs := []) (X := [0]) jI_379_2185 rfl rfl rfl rfl ?_
  refine jT_eq (LN := [(7, (0, 0)), (6, (0, 0)), (5, (0, 0)), (4, (4, 3)), (3, (4, 2)), (2, (4, 1)), (1, (4, 0)), (0, (6, 0))]) (stN := [(1, 0)]) (hsN := jpA_3345) rfl rfl rfl ?_
  refine jT_xiload (v := (0, 0)) (pcN := 2188) jI_379_2186 rfl rfl rfl ?_
  refine jT_xi2l (x := 0) (z := 0) (pcN := 2189) jI_379_2188 rfl (by decide +kernel) rfl ?_
  refine jT_lcmp (a := 0) (b := 0) (z := 0) (by rfl) (by rfl) (by decide +kernel) (by decide +kernel) (by decide) ?_
  refine jT_xifT (pcN := 2195) jI_379_2190 rfl (by decide +kernel) rfl ?_
  refine jT_xgoto (pcN := 3740) jI_379_2195 rfl ?_
  refine jT_xiinc (x := 0) (z := 5) (LN := [(5, (0, 5)), (7, (0, 0)), (6, (0, 0)), (4, (4, 3)), (3, (4, 2)), (2, (4, 1)), (1, (4, 0)), (0, (6, 0))]) (pcN := 3743) jI_379_3740 rfl rfl (by decide) rfl rfl ?_
  refine jT_xgoto (pcN := 28) jI_379_3743 rfl ?_
  refine jT_xiload (v := (0, 5)) (pcN := 30) jI_379_28 rfl rfl rfl ?_
  refine jT_xaload_n (v := (6, 0)) (pcN := 31) jI_379_30 rfl rfl rfl ?_
  refine jT_adv 1 (pcN := 32) (LN := [(5, (0, 5)), (7, (0, 0)), (6, (0, 0)), (4, (4, 3)), (3, (4, 2)), (2, (4, 1)), (1, (4, 0)), (0, (6, 0))]) (stN := [(0, 5), (0, 5)]) (hsN := jpA_3345) (c1 := 0) (s1 := 0) (c2 := 0) (s2 := 0) (by exact rfl) ?_ (by omega) (by omega)
  refine jT_xiconst (k := 5) (pcN := 33) jI_379_32 rfl ?_
  refine jT_xisub (x := 5) (y := 5) (z := 0) (pcN := 34) jI_379_33 rfl (by decide) rfl ?_
  refine jT_xicT (pcN := 3746) jI_379_34 rfl (by decide +kernel) rfl ?_
  refine jT_xiconst (k := 1) (pcN := 3747) jI_379_3746 rfl ?_
  exact jT_ret rfl (by decide) (by show 40 ≤ 40; decide) (by omega) (by omega) ⟨rfl, rfl⟩
set_option maxRecDepth 100000 in
theorem jL_27_2 {d : Nat} {x0 x1 x2 x3 x4 : Int} (h_x0 : (-2147483648) ≤ x0 ∧ x0 ≤ 2147483647) (h_x1 : 8 ≤ x1 ∧ x1 ≤ 2147483647) (h_x2 : (-2147483648) ≤ x2 ∧ x2 ≤ 2147483647) (h_x3 : (-2147483648) ≤ x3 ∧ x3 ≤ 2147483647) (h_x4 : (-2147483648) ≤ x4 ∧ x4 ≤ 2147483647) : jT [x0, x1, x2, x3, x4] (d + 3) 379 30 2142 [(5, (0, 0)), (4, (4, 3)), (3, (4, 2)), (2, (4, 1)), (1, (4, 0)), (0, (6, 0))] [] jpA_267 1 6 (fun k v hsN => k = 0 ∧ v = (0, 1)) := by
  refine jT_xaload_n (v := (4, 0)) (pcN := 2143) jI_379_2142 rfl rfl rfl ?_
  refine jT_xaload_n (v := (6, 0)) (pcN := 2144) jI_379_2143 rfl rfl rfl ?_
  refine jT_xiload (v := (0, 0)) (pcN := 2146) jI_379_2144 rfl rfl rfl ?_
  refine jT_xiconst (k := 1) (pcN := 2147) jI_379_2146 rfl ?_
  refine jT_xiadd (x := 0) (y := 1) (z := 1) (pcN := 2148) jI_379_2147 rfl (by decide) rfl ?_
  refine jT_adv 1 (pcN := 2149) (LN := [(5, (0, 0)), (4, (4, 3)), (3, (4, 2)), (2, (4, 1)), (1, (4, 0)), (0, (6, 0))]) (stN := [(0, x1), (4, 0)]) (hsN := jpA_267) (c1 := 0) (s1 := 0) (c2 := 1) (s2 := 6) (by exact rfl) ?_ (by omega) (by omega)
  refine jT_xaload_n (v := (4, 2)) (pcN := 2150) jI_379_2149 rfl rfl rfl ?_
  refine jT_fR [0, 2, 4, 5, 6, 7, 8, 9, 10, 11, 12, 13, 14] 30 (y := 351) (pcN := 2153) (dC := 2) (bc1 := 1) (bc2 := 6) (c1 := 0) (c2 := 0) (as := [(4, 0), (0, x1), (4, 2)]) (asC := [(4, 0), (0, x1), (4, 1)]) (LN := [(5, (0, 0)), (4, (4, 3)), (3, (4, 2)), (2, (4, 1)), (1, (4, 0)), (0, (6, 0))]) (stN := []) (hsC := jpA_15) (v := (0, 1)) (st2 := [(0, 1)]) (jA_351_839 (d := 0) (by omega)) (by rfl) (by rfl) (by decide +kernel) (by rfl) (by rfl) (by omega) (by omega) (by omega) (by omega) rfl ?_
  refine jT_xistore (v := (0, 1)) (LN := [(6, (0, 1)), (5, (0, 0)), (4, (4, 3)), (3, (4, 2)), (2, (4, 1)), (1, (4, 0)), (0, (6, 0))]) (pcN := 2155) jI_379_2153 rfl rfl rfl rfl ?_
  refine jT_xaload_n (v := (4, 1)) (pcN := 2156) jI_379_2155 rfl rfl rfl ?_
  refine jT_xaload_n (v := (6, 0)) (pcN := 2157) jI_379_2156 rfl rfl rfl ?_
  refine jT_xiload (v := (0, 0)) (pcN := 2159) jI_379_2157 rfl rfl rfl ?_
  refine jT_xiconst (k := 1) (pcN := 2160) jI_379_2159 rfl ?_
  refine jT_xiadd (x := 0) (y := 1) (z := 1) (pcN := 2161) jI_379_2160 rfl (by decide) rfl ?_
  refine jT_adv 1 (pcN := 2162) (LN := [(6, (0, 1)), (5, (0, 0)), (4, (4, 3)), (3, (4, 2)), (2, (4, 1)), (1, (4, 0)), (0, (6, 0))]) (stN := [(0, x1), (4, 1)]) (hsN := jpA_267) (c1 := 0) (s1 := 0) (c2 := 0) (s2 := 0) (by exact rfl) ?_ (by omega) (by omega)
  refine jT_fB [1, 15, 16, 17, 18, 19, 20, 21, 22, 23, 24, 25, 26, 27, 28, 29] 30 (y := 276) (pcN := 2165) (dC := 2) (bc1 := 0) (bc2 := 0) (c1 := 0) (c2 := 0) (as := [(4, 1), (0, x1)]) (asC := [(4, 0), (0, x1)]) (LN := [(6, (0, 1)), (5, (0, 0)), (4, (4, 3)), (3, (4, 2)), (2, (4, 1)), (1, (4, 0)), (0, (6, 0))]) (stN := []) (hsC := jpA_22) (hsD := jpA_20) (v := (0, 0)) (st2 := [(0, 0)]) (hs2 := jpA_306) (jA_276_840 (d := 0) (by omega)) (by rfl) (by rfl) (by decide +kernel) (by rfl) (by rfl) (by omega) (by omega) (by omega) (by omega) rfl (by decide +kernel) ?_
  refine jT_xistore (v := (0, 0)) (LN := [(7, (0, 0)), (6, (0, 1)), (5, (0, 0)), (4, (4, 3)), (3, (4, 2)), (2, (4, 1)), (1, (4, 0)), (0, (6, 0))]) (pcN := 2167) jI_379_2165 rfl rfl rfl rfl ?_
  refine jT_xaload_n (v := (4, 1)) (pcN := 2168) jI_379_2167 rfl rfl rfl ?_
  refine jT_fR [1, 15, 16, 17, 18, 19, 20, 21, 22, 23, 24, 25, 26, 27, 28, 29] 30 (y := 186) (pcN := 2171) (dC := 0) (bc1 := 0) (bc2 := 0) (c1 := 0) (c2 := 0) (as := [(4, 1)]) (asC := [(4, 0)]) (LN := [(7, (0, 0)), (6, (0, 1)), (5, (0, 0)), (4, (4, 3)), (3, (4, 2)), (2, (4, 1)), (1, (4, 0)), (0, (6, 0))]) (stN := []) (hsC := jpA_20) (v := (0, 1)) (st2 := [(0, 1)]) (jA_186_8 (d := 0)) (by rfl) (by rfl) (by decide +kernel) (by rfl) (by rfl) (by omega) (by omega) (by omega) (by omega) rfl ?_
  refine jT_xiload (v := (0, 1)) (pcN := 2173) jI_379_2171 rfl rfl rfl ?_
  refine jT_xicT (pcN := 2178) jI_379_2173 rfl (by decide +kernel) rfl ?_
  refine jT_xiload (v := (0, 1)) (pcN := 2180) jI_379_2178 rfl rfl rfl ?_
  refine jT_xifT (pcN := 2195) jI_379_2180 rfl (by decide +kernel) rfl ?_
  refine jT_xgoto (pcN := 3740) jI_379_2195 rfl ?_
  refine jT_xiinc (x := 0) (z := 5) (LN := [(5, (0, 5)), (7, (0, 0)), (6, (0, 1)), (4, (4, 3)), (3, (4, 2)), (2, (4, 1)), (1, (4, 0)), (0, (6, 0))]) (pcN := 3743) jI_379_3740 rfl rfl (by decide) rfl rfl ?_
  refine jT_xgoto (pcN := 28) jI_379_3743 rfl ?_
  refine jT_xiload (v := (0, 5)) (pcN := 30) jI_379_28 rfl rfl rfl ?_
  refine jT_xaload_n (v := (6, 0)) (pcN := 31) jI_379_30 rfl rfl rfl ?_
  refine jT_adv 1 (pcN := 32) (LN := [(5, (0, 5)), (7, (0, 0)), (6, (0, 1)), (4, (4, 3)), (3, (4, 2)), (2, (4, 1)), (1, (4, 0)), (0, (6, 0))]) (stN := [(0, 5), (0, 5)]) (hsN := jpA_306) (c1 := 0) (s1 := 0) (c2 := 0) (s2 := 0) (by exact rfl) ?_ (by omega) (by omega)
  refine jT_xiconst (k := 5) (pcN := 33) jI_379_32 rfl ?_
  refine jT_xisub (x := 5) (y := 5) (z := 0) (pcN := 34) jI_379_33 rfl (by decide) rfl ?_
  refine jT_xicT (pcN := 3746) jI_379_34 rfl (by decide +kernel) rfl ?_
  refine jT_xiconst (k := 1) (pcN := 3747) jI_379_3746 rfl ?_
  exact jT_ret rfl (by decide) (by show 30 ≤ 30; decide) (by omega) (by omega) ⟨rfl, rfl⟩
theorem jI_147_0 : jmI (jm 147) 0 = (.aload_n 0, 1) := by rfl
theorem jI_147_1 : jmI (jm 147) 1 = (.iload_n 1, 1) := by rfl
theorem jI_147_2 : jmI (jm 147) 2 = (.iconst 4, 1) := by rfl
theorem jA_147_841 {xs : List Int} {d : Nat} {x1 : Int} (h_x1 : (-2147483648) ≤ x1 ∧ x1 ≤ (-1)) : jT xs (d + 1) 147 12 0 [(0, (4, 0)), (1, (0, x1))] [] jpA_6 1 6 (fun k v hsN => k = 1 ∧ v = (0, 0) ∧ hsN = jpA_6 ++ []) := by
  refine jT_xaload_n (v := (4, 0)) (pcN := 1) jI_147_0 rfl rfl rfl ?_
  refine jT_xiload_n (v := (0, x1)) (pcN := 2) jI_147_1 rfl rfl rfl ?_
  refine jT_xiconst (k := 4) (pcN := 3) jI_147_2 rfl ?_
  exact jT_fX [0] 12 (y := 115) (pcN := 6) (dC := 0) (bc1 := 1) (bc2 := 6) (as := [(4, 0), (0, x1), (0, 4)]) (asC := [(4, 0), (0, x1), (0, 4)]) (LN := [(0, (4, 0)), (1, (0, x1))]) (stN := []) (hsC := [jgh]) (e := 0) (jA_115_310 (d := 0) (by omega)) (by rfl) (by rfl) (by decide +kernel) (by rfl) (by rfl) (by omega) (by omega) (by omega) (by omega) ⟨rfl, ⟨rfl, rfl, rfl⟩⟩
theorem jI_352_0 : jmI (jm 352) 0 = (.aload_n 2, 1) := by rfl
theorem jI_352_1 : jmI (jm 352) 1 = (.iconst 0, 1) := by rfl
theorem jI_352_2 : jmI (jm 352) 2 = (.aload_n 0, 1) := by rfl
theorem jI_352_3 : jmI (jm 352) 3 = (.iload_n 1, 1) := by rfl
theorem jA_352_842 {xs : List Int} {d : Nat} {x1 : Int} (h_x1 : (-2147483648) ≤ x1 ∧ x1 ≤ (-1)) : jT xs (d + 2) 352 13 0 [(0, (4, 0)), (1, (0, x1)), (2, (4, 1))] [] jpA_15 1 6 (fun k v hsN => k = 0 ∧ v = (0, 1) ∧ hsN = jpA_15 ++ []) := by
  refine jT_xaload_n (v := (4, 1)) (pcN := 1) jI_352_0 rfl rfl rfl ?_
  refine jT_xiconst (k := 0) (pcN := 2) jI_352_1 rfl ?_
  refine jT_xaload_n (v := (4, 0)) (pcN := 3) jI_352_2 rfl rfl rfl ?_
  refine jT_xiload_n (v := (0, x1)) (pcN := 4) jI_352_3 rfl rfl rfl ?_
  exact jT_fX [0, 2, 3, 4, 5, 6, 7, 8, 9, 10, 11, 12] 13 (y := 147) (pcN := 7) (dC := 1) (bc1 := 1) (bc2 := 6) (as := [(4, 0), (0, x1)]) (asC := [(4, 0), (0, x1)]) (LN := [(0, (4, 0)), (1, (0, x1)), (2, (4, 1))]) (stN := [(0, 0), (4, 1)]) (hsC := jpA_6) (e := 0) (jA_147_841 (d := 0) (by omega)) (by rfl) (by rfl) (by decide +kernel) (by rfl) (by rfl) (by omega) (by omega) (by omega) (by omega) (show _ from ⟨rfl, rfl, rfl⟩)
theorem jI_277_0 : jmI (jm 277) 0 = (.aload_n 0, 1) := by rfl
theorem jI_277_1 : jmI (jm 277) 1 = (.iload_n 1, 1) := by rfl
theorem jI_277_8 : jmI (jm 277) 8 = (.ifCond .eq 7, 3) := by rfl
theorem jI_277_11 : jmI (jm 277) 11 = (.iconst 0, 1) := by rfl
theorem jI_277_12 : jmI (jm 277) 12 = (.goto 8, 3) := by rfl
theorem jA_277_843 {xs : List Int} {d : Nat} {x1 : Int} (h_x1 : (-2147483648) ≤ x1 ∧ x1 ≤ (-1)) : jT xs (d + 2) 277 16 0 [(0, (4, 0)), (1, (0, x1))] [] jpA_22 0 0 (fun k v hsN => k = 0 ∧ v = (0, 0) ∧ hsN = jpA_20) := by
  refine jT_xaload_n (v := (4, 0)) (pcN := 1) jI_277_0 rfl rfl rfl ?_
  refine jT_xiload_n (v := (0, x1)) (pcN := 2) jI_277_1 rfl rfl rfl ?_
  refine jT_fR [] 16 (y := 238) (pcN := 5) (dC := 1) (bc1 := 0) (bc2 := 0) (c1 := 0) (c2 := 0) (as := [(0, x1)]) (asC := [(0, x1)]) (LN := [(0, (4, 0)), (1, (0, x1))]) (stN := [(4, 0)]) (hsC := []) (v := (0, 0)) (st2 := [(0, 0), (4, 0)]) (jA_238_313 (d := 0) (by omega)) (by rfl) (by rfl) (by decide +kernel) (by rfl) (by rfl) (by omega) (by omega) (by omega) (by omega) rfl ?_
  refine jT_fB [0, 1, 2, 3, 4, 5, 6, 7, 8, 9, 10, 11, 12, 13, 14, 15] 16 (y := 190) (pcN := 8) (dC := 1) (bc1 := 0) (bc2 := 0) (c1 := 0) (c2 := 0) (as := [(4, 0), (0, 0)]) (asC := [(4, 0), (0, 0)]) (LN := [(0, (4, 0)), (1, (0, x1))]) (stN := []) (hsC := jpA_22) (hsD := jpA_20) (v := (0, 1)) (st2 := [(0, 1)]) (hs2 := jpA_20) (jA_190_6 (d := 0)) (by rfl) (by rfl) (by decide +kernel) (by rfl) (by rfl) (by omega) (by omega) (by omega) (by omega) rfl (by decide +kernel) ?_
  refine jT_xifF (t := 15) (pcN := 11) jI_277_8 rfl (by decide +kernel) rfl rfl ?_
  refine jT_xiconst (k := 0) (pcN := 12) jI_277_11 rfl ?_
  refine jT_xgoto (pcN := 20) jI_277_12 rfl ?_
  exact jT_ret rfl (by decide) (by show 16 ≤ 16; decide) (by omega) (by omega) ⟨rfl, rfl, rfl⟩
theorem jA_147_844 {xs : List Int} {d : Nat} : jT xs (d + 1) 147 23 0 [(0, (4, 0)), (1, (0, 0))] [] jpA_1805 0 0 (fun k v hsN => k = 0 ∧ v = (0, 1) ∧ hsN = jpA_1805 ++ []) := by
  refine jT_advK 3 (pcN := 3) (LN := [(0, (4, 0)), (1, (0, 0))]) (stN := [(0, 4), (0, 0), (4, 0)]) (hsN := jpA_1805) (c1 := 0) (s1 := 0) (c2 := 0) (s2 := 0) (by decide +kernel) ?_ (by omega) (by omega)
  refine jT_fR [0] 23 (y := 115) (pcN := 6) (dC := 0) (bc1 := 0) (bc2 := 0) (c1 := 0) (c2 := 0) (as := [(4, 0), (0, 0), (0, 4)]) (asC := [(4, 0), (0, 0), (0, 4)]) (LN := [(0, (4, 0)), (1, (0, 0))]) (stN := []) (hsC := [jgh]) (v := (9, 0)) (st2 := []) (jA_115_321 (d := 0)) (by rfl) (by rfl) (by decide +kernel) (by rfl) (by rfl) (by omega) (by omega) (by omega) (by omega) rfl ?_
  refine jT_advK 3 (pcN := 11) (LN := [(0, (4, 0)), (1, (0, 0))]) (stN := [(0, 0), (4, 11)]) (hsN := jpA_1805) (c1 := 0) (s1 := 0) (c2 := 0) (s2 := 0) (by decide +kernel) ?_ (by omega) (by omega)
  refine jT_fR [11, 12, 13, 14, 15, 16, 17, 18, 19, 20] 23 (y := 56) (pcN := 14) (dC := 0) (bc1 := 0) (bc2 := 0) (c1 := 0) (c2 := 0) (as := [(4, 11), (0, 0)]) (asC := [(4, 0), (0, 0)]) (LN := [(0, (4, 0)), (1, (0, 0))]) (stN := []) (hsC := jpA_1446) (v := (4, 6)) (st2 := [(4, 17)]) (jA_56_322 (d := 0)) (by rfl) (by rfl) (by decide +kernel) (by rfl) (by rfl) (by omega) (by omega) (by omega) (by omega) rfl ?_
  refine jT_fR [17, 21, 22] 23 (y := 29) (pcN := 17) (dC := 0) (bc1 := 0) (bc2 := 0) (c1 := 0) (c2 := 0) (as := [(4, 17)]) (asC := [(4, 0)]) (LN := [(0, (4, 0)), (1, (0, 0))]) (stN := []) (hsC := [(7, [(4, 1), (4, (-1)), (4, (-1))], []), (114, [], [2]), jgh]) (v := (0, 1)) (st2 := [(0, 1)]) (jA_29_416 (d := 0)) (by rfl) (by rfl) (by decide +kernel) (by rfl) (by rfl) (by omega) (by omega) (by omega) (by omega) rfl ?_
  exact jT_ret rfl (by decide) (by show 23 ≤ 23; decide) (by omega) (by omega) ⟨rfl, rfl, rfl⟩
def jpA_3423 : List JC := [jzA_14, (101, [], [0]), jgh, jgh, jgh, jgh, jgh, jgh, jgh, jgh, jgh, jgh, jzA_77, jgh, (117, [], [18, 19, 20, 21]), jgh, jgh, jgh, (7, [(4, 22), (4, (-1)), (4, (-1))], []), jgh, jgh, jgh, (114, [], [23]), jgh]
def jpA_3424 : List JC := [jzA_14, (101, [], [1]), jgh, jgh, jgh, jgh, jgh, jgh, jgh, jgh, jgh, jgh, jzA_77, jgh, (117, [], [18, 19, 20, 21]), jgh, jgh, jgh, (7, [(4, 22), (4, (-1)), (4, (-1))], []), jgh, jgh, jgh, (114, [], [23]), jgh]
theorem jA_352_845 {xs : List Int} {d : Nat} : jT xs (d + 2) 352 24 0 [(0, (4, 0)), (1, (0, 0)), (2, (4, 1))] [] jpA_3423 0 0 (fun k v hsN => k = 0 ∧ v = (0, 0) ∧ hsN = jpA_3424) := by
  refine jT_advK 4 (pcN := 4) (LN := [(0, (4, 0)), (1, (0, 0)), (2, (4, 1))]) (stN := [(0, 0), (4, 0), (0, 0), (4, 1)]) (hsN := jpA_3423) (c1 := 0) (s1 := 0) (c2 := 0) (s2 := 0) (by decide +kernel) ?_ (by omega) (by omega)
  refine jT_fR [0, 2, 3, 4, 5, 6, 7, 8, 9, 10, 11, 12, 13, 14, 15, 16, 17, 18, 19, 20, 21, 22, 23] 24 (y := 147) (pcN := 7) (dC := 1) (bc1 := 0) (bc2 := 0) (c1 := 0) (c2 := 0) (as := [(4, 0), (0, 0)]) (asC := [(4, 0), (0, 0)]) (LN := [(0, (4, 0)), (1, (0, 0)), (2, (4, 1))]) (stN := [(0, 0), (4, 1)]) (hsC := jpA_1805) (v := (0, 1)) (st2 := [(0, 1), (0, 0), (4, 1)]) (jA_147_844 (d := 0)) (by rfl) (by rfl) (by decide +kernel) (by rfl) (by rfl) (by omega) (by omega) (by omega) (by omega) rfl ?_
  refine jT_advK 4 (pcN := 16) (LN := [(0, (4, 0)), (1, (0, 0)), (2, (4, 1))]) (stN := [(0, 0)]) (hsN := jpA_3424) (c1 := 0) (s1 := 0) (c2 := 0) (s2 := 0) (by decide +kernel) ?_ (by omega) (by omega)
  exact jT_ret rfl (by decide) (by show 24 ≤ 24; decide) (by omega) (by omega) ⟨rfl, rfl, rfl⟩
theorem jA_277_846 {xs : List Int} {d : Nat} : jT xs (d + 2) 277 16 0 [(0, (4, 0)), (1, (0, 0))] [] jpA_1519 0 0 (fun k v hsN => k = 0 ∧ v = (0, 1) ∧ hsN = jpA_1519 ++ []) := by
  refine jT_advK 2 (pcN := 2) (LN := [(0, (4, 0)), (1, (0, 0))]) (stN := [(0, 0), (4, 0)]) (hsN := jpA_1519) (c1 := 0) (s1 := 0) (c2 := 0) (s2 := 0) (by decide +kernel) ?_ (by omega) (by omega)
  refine jT_fR [] 16 (y := 238) (pcN := 5) (dC := 1) (bc1 := 0) (bc2 := 0) (c1 := 0) (c2 := 0) (as := [(0, 0)]) (asC := [(0, 0)]) (LN := [(0, (4, 0)), (1, (0, 0))]) (stN := [(4, 0)]) (hsC := []) (v := (0, 1)) (st2 := [(0, 1), (4, 0)]) (jA_238_338 (d := 0)) (by rfl) (by rfl) (by decide +kernel) (by rfl) (by rfl) (by omega) (by omega) (by omega) (by omega) rfl ?_
  refine jT_fR [0, 1, 2, 3, 4, 5, 6, 7, 8, 9, 10, 11, 12, 13, 14, 15] 16 (y := 190) (pcN := 8) (dC := 1) (bc1 := 0) (bc2 := 0) (c1 := 0) (c2 := 0) (as := [(4, 0), (0, 1)]) (asC := [(4, 0), (0, 1)]) (LN := [(0, (4, 0)), (1, (0, 0))]) (stN := []) (hsC := jpA_22) (v := (0, 0)) (st2 := [(0, 0)]) (jA_190_39 (d := 0)) (by rfl) (by rfl) (by decide +kernel) (by rfl) (by rfl) (by omega) (by omega) (by omega) (by omega) rfl ?_
  refine jT_advK 3 (pcN := 17) (LN := [(0, (4, 0)), (1, (0, 0))]) (stN := [(0, 0), (4, 0)]) (hsN := jpA_1519) (c1 := 0) (s1 := 0) (c2 := 0) (s2 := 0) (by decide +kernel) ?_ (by omega) (by omega)
  refine jT_fR [0, 1, 2, 3, 4, 5, 6, 7, 8, 9, 10, 11, 12, 13, 14, 15] 16 (y := 245) (pcN := 20) (dC := 0) (bc1 := 0) (bc2 := 0) (c1 := 0) (c2 := 0) (as := [(4, 0), (0, 0)]) (asC := [(4, 0), (0, 0)]) (LN := [(0, (4, 0)), (1, (0, 0))]) (stN := []) (hsC := jpA_1519) (v := (0, 1)) (st2 := [(0, 1)]) (jA_245_339 (d := 0)) (by rfl) (by rfl) (by decide +kernel) (by rfl) (by rfl) (by omega) (by omega) (by omega) (by omega) rfl ?_
  exact jT_ret rfl (by decide) (by show 16 ≤ 16; decide) (by omega) (by omega) ⟨rfl, rfl, rfl⟩
theorem jA_147_847 {xs : List Int} {d : Nat} : jT xs (d + 1) 147 23 0 [(0, (4, 0)), (1, (0, 1))] [] jpA_1845 0 0 (fun k v hsN => k = 0 ∧ v = (0, 1) ∧ hsN = jpA_1845 ++ []) := by
  refine jT_advK 3 (pcN := 3) (LN := [(0, (4, 0)), (1, (0, 1))]) (stN := [(0, 4), (0, 1), (4, 0)]) (hsN := jpA_1845) (c1 := 0) (s1 := 0) (c2 := 0) (s2 := 0) (by decide +kernel) ?_ (by omega) (by omega)
  refine jT_fR [0] 23 (y := 115) (pcN := 6) (dC := 0) (bc1 := 0) (bc2 := 0) (c1 := 0) (c2 := 0) (as := [(4, 0), (0, 1), (0, 4)]) (asC := [(4, 0), (0, 1), (0, 4)]) (LN := [(0, (4, 0)), (1, (0, 1))]) (stN := []) (hsC := [jgh]) (v := (9, 0)) (st2 := []) (jA_115_356 (d := 0)) (by rfl) (by rfl) (by decide +kernel) (by rfl) (by rfl) (by omega) (by omega) (by omega) (by omega) rfl ?_
  refine jT_advK 3 (pcN := 11) (LN := [(0, (4, 0)), (1, (0, 1))]) (stN := [(0, 1), (4, 11)]) (hsN := jpA_1845) (c1 := 0) (s1 := 0) (c2 := 0) (s2 := 0) (by decide +kernel) ?_ (by omega) (by omega)
  refine jT_fR [11, 12, 13, 14, 15, 16, 17, 18, 19, 20] 23 (y := 56) (pcN := 14) (dC := 0) (bc1 := 0) (bc2 := 0) (c1 := 0) (c2 := 0) (as := [(4, 11), (0, 1)]) (asC := [(4, 0), (0, 1)]) (LN := [(0, (4, 0)), (1, (0, 1))]) (stN := []) (hsC := jpA_1446) (v := (4, 7)) (st2 := [(4, 18)]) (jA_56_357 (d := 0)) (by rfl) (by rfl) (by decide +kernel) (by rfl) (by rfl) (by omega) (by omega) (by omega) (by omega) rfl ?_
  refine jT_fR [18, 21, 22] 23 (y := 29) (pcN := 17) (dC := 0) (bc1 := 0) (bc2 := 0) (c1 := 0) (c2 := 0) (as := [(4, 18)]) (asC := [(4, 0)]) (LN := [(0, (4, 0)), (1, (0, 1))]) (stN := []) (hsC := [(7, [(4, 1), (4, (-1)), (4, (-1))], []), (114, [], [2]), jgh]) (v := (0, 1)) (st2 := [(0, 1)]) (jA_29_416 (d := 0)) (by rfl) (by rfl) (by decide +kernel) (by rfl) (by rfl) (by omega) (by omega) (by omega) (by omega) rfl ?_
  exact jT_ret rfl (by decide) (by show 23 ≤ 23; decide) (by omega) (by omega) ⟨rfl, rfl, rfl⟩
def jpA_3425 : List JC := [jzA_14, (101, [], [0]), jgh, jgh, jgh, jgh, jgh, jgh, jgh, jgh, jgh, jgh, jzA_77, jgh, (117, [], [18, 19, 20, 21]), jgh, jgh, jgh, jgh, (7, [(4, 22), (4, (-1)), (4, (-1))], []), jgh, jgh, (114, [], [23]), jgh]
def jpA_3426 : List JC := [jzA_14, (101, [], [1]), jgh, jgh, jgh, jgh, jgh, jgh, jgh, jgh, jgh, jgh, jzA_77, jgh, (117, [], [18, 19, 20, 21]), jgh, jgh, jgh, jgh, (7, [(4, 22), (4, (-1)), (4, (-1))], []), jgh, jgh, (114, [], [23]), jgh]
theorem jA_352_848 {xs : List Int} {d : Nat} : jT xs (d + 2) 352 24 0 [(0, (4, 0)), (1, (0, 1)), (2, (4, 1))] [] jpA_3425 0 0 (fun k v hsN => k = 0 ∧ v = (0, 0) ∧ hsN = jpA_3426) := by
  refine jT_advK 4 (pcN := 4) (LN := [(0, (4, 0)), (1, (0, 1)), (2, (4, 1))]) (stN := [(0, 1), (4, 0), (0, 0), (4, 1)]) (hsN := jpA_3425) (c1 := 0) (s1 := 0) (c2 := 0) (s2 := 0) (by decide +kernel) ?_ (by omega) (by omega)
  refine jT_fR [0, 2, 3, 4, 5, 6, 7, 8, 9, 10, 11, 12, 13, 14, 15, 16, 17, 18, 19, 20, 21, 22, 23] 24 (y := 147) (pcN := 7) (dC := 1) (bc1 := 0) (bc2 := 0) (c1 := 0) (c2 := 0) (as := [(4, 0), (0, 1)]) (asC := [(4, 0), (0, 1)]) (LN := [(0, (4, 0)), (1, (0, 1)), (2, (4, 1))]) (stN := [(0, 0), (4, 1)]) (hsC := jpA_1845) (v := (0, 1)) (st2 := [(0, 1), (0, 0), (4, 1)]) (jA_147_847 (d := 0)) (by rfl) (by rfl) (by decide +kernel) (by rfl) (by rfl) (by omega) (by omega) (by omega) (by omega) rfl ?_
  refine jT_advK 4 (pcN := 16) (LN := [(0, (4, 0)), (1, (0, 1)), (2, (4, 1))]) (stN := [(0, 0)]) (hsN := jpA_3426) (c1 := 0) (s1 := 0) (c2 := 0) (s2 := 0) (by decide +kernel) ?_ (by omega) (by omega)
  exact jT_ret rfl (by decide) (by show 24 ≤ 24; decide) (by omega) (by omega) ⟨rfl, rfl, rfl⟩
theorem jA_277_849 {xs : List Int} {d : Nat} : jT xs (d + 2) 277 16 0 [(0, (4, 0)), (1, (0, 1))] [] jpA_1519 0 0 (fun k v hsN => k = 0 ∧ v = (0, 1) ∧ hsN = jpA_1519 ++ []) := by
  refine jT_advK 2 (pcN := 2) (LN := [(0, (4, 0)), (1, (0, 1))]) (stN := [(0, 1), (4, 0)]) (hsN := jpA_1519) (c1 := 0) (s1 := 0) (c2 := 0) (s2 := 0) (by decide +kernel) ?_ (by omega) (by omega)
  refine jT_fR [] 16 (y := 238) (pcN := 5) (dC := 1) (bc1 := 0) (bc2 := 0) (c1 := 0) (c2 := 0) (as := [(0, 1)]) (asC := [(0, 1)]) (LN := [(0, (4, 0)), (1, (0, 1))]) (stN := [(4, 0)]) (hsC := []) (v := (0, 1)) (st2 := [(0, 1), (4, 0)]) (jA_238_362 (d := 0)) (by rfl) (by rfl) (by decide +kernel) (by rfl) (by rfl) (by omega) (by omega) (by omega) (by omega) rfl ?_
  refine jT_fR [0, 1, 2, 3, 4, 5, 6, 7, 8, 9, 10, 11, 12, 13, 14, 15] 16 (y := 190) (pcN := 8) (dC := 1) (bc1 := 0) (bc2 := 0) (c1 := 0) (c2 := 0) (as := [(4, 0), (0, 1)]) (asC := [(4, 0), (0, 1)]) (LN := [(0, (4, 0)), (1, (0, 1))]) (stN := []) (hsC := jpA_22) (v := (0, 0)) (st2 := [(0, 0)]) (jA_190_39 (d := 0)) (by rfl) (by rfl) (by decide +kernel) (by rfl) (by rfl) (by omega) (by omega) (by omega) (by omega) rfl ?_
  refine jT_advK 3 (pcN := 17) (LN := [(0, (4, 0)), (1, (0, 1))]) (stN := [(0, 1), (4, 0)]) (hsN := jpA_1519) (c1 := 0) (s1 := 0) (c2 := 0) (s2 := 0) (by decide +kernel) ?_ (by omega) (by omega)
  refine jT_fR [0, 1, 2, 3, 4, 5, 6, 7, 8, 9, 10, 11, 12, 13, 14, 15] 16 (y := 245) (pcN := 20) (dC := 0) (bc1 := 0) (bc2 := 0) (c1 := 0) (c2 := 0) (as := [(4, 0), (0, 1)]) (asC := [(4, 0), (0, 1)]) (LN := [(0, (4, 0)), (1, (0, 1))]) (stN := []) (hsC := jpA_1519) (v := (0, 1)) (st2 := [(0, 1)]) (jA_245_363 (d := 0)) (by rfl) (by rfl) (by decide +kernel) (by rfl) (by rfl) (by omega) (by omega) (by omega) (by omega) rfl ?_
  exact jT_ret rfl (by decide) (by show 16 ≤ 16; decide) (by omega) (by omega) ⟨rfl, rfl, rfl⟩
theorem jA_147_850 {xs : List Int} {d : Nat} : jT xs (d + 1) 147 23 0 [(0, (4, 0)), (1, (0, 2))] [] jpA_1858 0 0 (fun k v hsN => k = 0 ∧ v = (0, 1) ∧ hsN = jpA_1858 ++ []) := by
  refine jT_advK 3 (pcN := 3) (LN := [(0, (4, 0)), (1, (0, 2))]) (stN := [(0, 4), (0, 2), (4, 0)]) (hsN := jpA_1858) (c1 := 0) (s1 := 0) (c2 := 0) (s2 := 0) (by decide +kernel) ?_ (by omega) (by omega)
  refine jT_fR [0] 23 (y := 115) (pcN := 6) (dC := 0) (bc1 := 0) (bc2 := 0) (c1 := 0) (c2 := 0) (as := [(4, 0), (0, 2), (0, 4)]) (asC := [(4, 0), (0, 2), (0, 4)]) (LN := [(0, (4, 0)), (1, (0, 2))]) (stN := []) (hsC := [jgh]) (v := (9, 0)) (st2 := []) (jA_115_372 (d := 0)) (by rfl) (by rfl) (by decide +kernel) (by rfl) (by rfl) (by omega) (by omega) (by omega) (by omega) rfl ?_
  refine jT_advK 3 (pcN := 11) (LN := [(0, (4, 0)), (1, (0, 2))]) (stN := [(0, 2), (4, 11)]) (hsN := jpA_1858) (c1 := 0) (s1 := 0) (c2 := 0) (s2 := 0) (by decide +kernel) ?_ (by omega) (by omega)
  refine jT_fR [11, 12, 13, 14, 15, 16, 17, 18, 19, 20] 23 (y := 56) (pcN := 14) (dC := 0) (bc1 := 0) (bc2 := 0) (c1 := 0) (c2 := 0) (as := [(4, 11), (0, 2)]) (asC := [(4, 0), (0, 2)]) (LN := [(0, (4, 0)), (1, (0, 2))]) (stN := []) (hsC := jpA_1446) (v := (4, 8)) (st2 := [(4, 19)]) (jA_56_373 (d := 0)) (by rfl) (by rfl) (by decide +kernel) (by rfl) (by rfl) (by omega) (by omega) (by omega) (by omega) rfl ?_
  refine jT_fR [19, 21, 22] 23 (y := 29) (pcN := 17) (dC := 0) (bc1 := 0) (bc2 := 0) (c1 := 0) (c2 := 0) (as := [(4, 19)]) (asC := [(4, 0)]) (LN := [(0, (4, 0)), (1, (0, 2))]) (stN := []) (hsC := [(7, [(4, 1), (4, (-1)), (4, (-1))], []), (114, [], [2]), jgh]) (v := (0, 1)) (st2 := [(0, 1)]) (jA_29_416 (d := 0)) (by rfl) (by rfl) (by decide +kernel) (by rfl) (by rfl) (by omega) (by omega) (by omega) (by omega) rfl ?_
  exact jT_ret rfl (by decide) (by show 23 ≤ 23; decide) (by omega) (by omega) ⟨rfl, rfl, rfl⟩
def jpA_3427 : List JC := [jzA_14, (101, [], [0]), jgh, jgh, jgh, jgh, jgh, jgh, jgh, jgh, jgh, jgh, jzA_77, jgh, (117, [], [18, 19, 20, 21]), jgh, jgh, jgh, jgh, jgh, (7, [(4, 22), (4, (-1)), (4, (-1))], []), jgh, (114, [], [23]), jgh]
def jpA_3428 : List JC := [jzA_14, (101, [], [1]), jgh, jgh, jgh, jgh, jgh, jgh, jgh, jgh, jgh, jgh, jzA_77, jgh, (117, [], [18, 19, 20, 21]), jgh, jgh, jgh, jgh, jgh, (7, [(4, 22), (4, (-1)), (4, (-1))], []), jgh, (114, [], [23]), jgh]
theorem jA_352_851 {xs : List Int} {d : Nat} : jT xs (d + 2) 352 24 0 [(0, (4, 0)), (1, (0, 2)), (2, (4, 1))] [] jpA_3427 0 0 (fun k v hsN => k = 0 ∧ v = (0, 0) ∧ hsN = jpA_3428) := by
  refine jT_advK 4 (pcN := 4) (LN := [(0, (4, 0)), (1, (0, 2)), (2, (4, 1))]) (stN := [(0, 2), (4, 0), (0, 0), (4, 1)]) (hsN := jpA_3427) (c1 := 0) (s1 := 0) (c2 := 0) (s2 := 0) (by decide +kernel) ?_ (by omega) (by omega)
  refine jT_fR [0, 2, 3, 4, 5, 6, 7, 8, 9, 10, 11, 12, 13, 14, 15, 16, 17, 18, 19, 20, 21, 22, 23] 24 (y := 147) (pcN := 7) (dC := 1) (bc1 := 0) (bc2 := 0) (c1 := 0) (c2 := 0) (as := [(4, 0), (0, 2)]) (asC := [(4, 0), (0, 2)]) (LN := [(0, (4, 0)), (1, (0, 2)), (2, (4, 1))]) (stN := [(0, 0), (4, 1)]) (hsC := jpA_1858) (v := (0, 1)) (st2 := [(0, 1), (0, 0), (4, 1)]) (jA_147_850 (d := 0)) (by rfl) (by rfl) (by decide +kernel) (by rfl) (by rfl) (by omega) (by omega) (by omega) (by omega) rfl ?_
  refine jT_advK 4 (pcN := 16) (LN := [(0, (4, 0)), (1, (0, 2)), (2, (4, 1))]) (stN := [(0, 0)]) (hsN := jpA_3428) (c1 := 0) (s1 := 0) (c2 := 0) (s2 := 0) (by decide +kernel) ?_ (by omega) (by omega)
  exact jT_ret rfl (by decide) (by show 24 ≤ 24; decide) (by omega) (by omega) ⟨rfl, rfl, rfl⟩
theorem jA_277_852 {xs : List Int} {d : Nat} : jT xs (d + 2) 277 16 0 [(0, (4, 0)), (1, (0, 2))] [] jpA_1519 0 0 (fun k v hsN => k = 0 ∧ v = (0, 1) ∧ hsN = jpA_1519 ++ []) := by
  refine jT_advK 2 (pcN := 2) (LN := [(0, (4, 0)), (1, (0, 2))]) (stN := [(0, 2), (4, 0)]) (hsN := jpA_1519) (c1 := 0) (s1 := 0) (c2 := 0) (s2 := 0) (by decide +kernel) ?_ (by omega) (by omega)
  refine jT_fR [] 16 (y := 238) (pcN := 5) (dC := 1) (bc1 := 0) (bc2 := 0) (c1 := 0) (c2 := 0) (as := [(0, 2)]) (asC := [(0, 2)]) (LN := [(0, (4, 0)), (1, (0, 2))]) (stN := [(4, 0)]) (hsC := []) (v := (0, 1)) (st2 := [(0, 1), (4, 0)]) (jA_238_378 (d := 0)) (by rfl) (by rfl) (by decide +kernel) (by rfl) (by rfl) (by omega) (by omega) (by omega) (by omega) rfl ?_
  refine jT_fR [0, 1, 2, 3, 4, 5, 6, 7, 8, 9, 10, 11, 12, 13, 14, 15] 16 (y := 190) (pcN := 8) (dC := 1) (bc1 := 0) (bc2 := 0) (c1 := 0) (c2 := 0) (as := [(4, 0), (0, 1)]) (asC := [(4, 0), (0, 1)]) (LN := [(0, (4, 0)), (1, (0, 2))]) (stN := []) (hsC := jpA_22) (v := (0, 0)) (st2 := [(0, 0)]) (jA_190_39 (d := 0)) (by rfl) (by rfl) (by decide +kernel) (by rfl) (by rfl) (by omega) (by omega) (by omega) (by omega) rfl ?_
  refine jT_advK 3 (pcN := 17) (LN := [(0, (4, 0)), (1, (0, 2))]) (stN := [(0, 2), (4, 0)]) (hsN := jpA_1519) (c1 := 0) (s1 := 0) (c2 := 0) (s2 := 0) (by decide +kernel) ?_ (by omega) (by omega)
  refine jT_fR [0, 1, 2, 3, 4, 5, 6, 7, 8, 9, 10, 11, 12, 13, 14, 15] 16 (y := 245) (pcN := 20) (dC := 0) (bc1 := 0) (bc2 := 0) (c1 := 0) (c2 := 0) (as := [(4, 0), (0, 2)]) (asC := [(4, 0), (0, 2)]) (LN := [(0, (4, 0)), (1, (0, 2))]) (stN := []) (hsC := jpA_1519) (v := (0, 1)) (st2 := [(0, 1)]) (jA_245_379 (d := 0)) (by rfl) (by rfl) (by decide +kernel) (by rfl) (by rfl) (by omega) (by omega) (by omega) (by omega) rfl ?_
  exact jT_ret rfl (by decide) (by show 16 ≤ 16; decide) (by omega) (by omega) ⟨rfl, rfl, rfl⟩
theorem jA_147_853 {xs : List Int} {d : Nat} : jT xs (d + 1) 147 23 0 [(0, (4, 0)), (1, (0, 3))] [] jpA_1871 0 0 (fun k v hsN => k = 0 ∧ v = (0, 1) ∧ hsN = jpA_1871 ++ []) := by
  refine jT_advK 3 (pcN := 3) (LN := [(0, (4, 0)), (1, (0, 3))]) (stN := [(0, 4), (0, 3), (4, 0)]) (hsN := jpA_1871) (c1 := 0) (s1 := 0) (c2 := 0) (s2 := 0) (by decide +kernel) ?_ (by omega) (by omega)
  refine jT_fR [0] 23 (y := 115) (pcN := 6) (dC := 0) (bc1 := 0) (bc2 := 0) (c1 := 0) (c2 := 0) (as := [(4, 0), (0, 3), (0, 4)]) (asC := [(4, 0), (0, 3), (0, 4)]) (LN := [(0, (4, 0)), (1, (0, 3))]) (stN := []) (hsC := [jgh]) (v := (9, 0)) (st2 := []) (jA_115_387 (d := 0)) (by rfl) (by rfl) (by decide +kernel) (by rfl) (by rfl) (by omega) (by omega) (by omega) (by omega) rfl ?_
  refine jT_advK 3 (pcN := 11) (LN := [(0, (4, 0)), (1, (0, 3))]) (stN := [(0, 3), (4, 11)]) (hsN := jpA_1871) (c1 := 0) (s1 := 0) (c2 := 0) (s2 := 0) (by decide +kernel) ?_ (by omega) (by omega)
  refine jT_fR [11, 12, 13, 14, 15, 16, 17, 18, 19, 20] 23 (y := 56) (pcN := 14) (dC := 0) (bc1 := 0) (bc2 := 0) (c1 := 0) (c2 := 0) (as := [(4, 11), (0, 3)]) (asC := [(4, 0), (0, 3)]) (LN := [(0, (4, 0)), (1, (0, 3))]) (stN := []) (hsC := jpA_1446) (v := (4, 9)) (st2 := [(4, 20)]) (jA_56_388 (d := 0)) (by rfl) (by rfl) (by decide +kernel) (by rfl) (by rfl) (by omega) (by omega) (by omega) (by omega) rfl ?_
  refine jT_fR [20, 21, 22] 23 (y := 29) (pcN := 17) (dC := 0) (bc1 := 0) (bc2 := 0) (c1 := 0) (c2 := 0) (as := [(4, 20)]) (asC := [(4, 0)]) (LN := [(0, (4, 0)), (1, (0, 3))]) (stN := []) (hsC := [(7, [(4, 1), (4, (-1)), (4, (-1))], []), (114, [], [2]), jgh]) (v := (0, 1)) (st2 := [(0, 1)]) (jA_29_416 (d := 0)) (by rfl) (by rfl) (by decide +kernel) (by rfl) (by rfl) (by omega) (by omega) (by omega) (by omega) rfl ?_
  exact jT_ret rfl (by decide) (by show 23 ≤ 23; decide) (by omega) (by omega) ⟨rfl, rfl, rfl⟩
def jpA_3429 : List JC := [jzA_14, (101, [], [0]), jgh, jgh, jgh, jgh, jgh, jgh, jgh, jgh, jgh, jgh, jzA_77, jgh, (117, [], [18, 19, 20, 21]), jgh, jgh, jgh, jgh, jgh, jgh, (7, [(4, 22), (4, (-1)), (4, (-1))], []), (114, [], [23]), jgh]
def jpA_3430 : List JC := [jzA_14, (101, [], [1]), jgh, jgh, jgh, jgh, jgh, jgh, jgh, jgh, jgh, jgh, jzA_77, jgh, (117, [], [18, 19, 20, 21]), jgh, jgh, jgh, jgh, jgh, jgh, (7, [(4, 22), (4, (-1)), (4, (-1))], []), (114, [], [23]), jgh]
theorem jA_352_854 {xs : List Int} {d : Nat} : jT xs (d + 2) 352 24 0 [(0, (4, 0)), (1, (0, 3)), (2, (4, 1))] [] jpA_3429 0 0 (fun k v hsN => k = 0 ∧ v = (0, 0) ∧ hsN = jpA_3430) := by
  refine jT_advK 4 (pcN := 4) (LN := [(0, (4, 0)), (1, (0, 3)), (2, (4, 1))]) (stN := [(0, 3), (4, 0), (0, 0), (4, 1)]) (hsN := jpA_3429) (c1 := 0) (s1 := 0) (c2 := 0) (s2 := 0) (by decide +kernel) ?_ (by omega) (by omega)
  refine jT_fR [0, 2, 3, 4, 5, 6, 7, 8, 9, 10, 11, 12, 13, 14, 15, 16, 17, 18, 19, 20, 21, 22, 23] 24 (y := 147) (pcN := 7) (dC := 1) (bc1 := 0) (bc2 := 0) (c1 := 0) (c2 := 0) (as := [(4, 0), (0, 3)]) (asC := [(4, 0), (0, 3)]) (LN := [(0, (4, 0)), (1, (0, 3)), (2, (4, 1))]) (stN := [(0, 0), (4, 1)]) (hsC := jpA_1871) (v := (0, 1)) (st2 := [(0, 1), (0, 0), (4, 1)]) (jA_147_853 (d := 0)) (by rfl) (by rfl) (by decide +kernel) (by rfl) (by rfl) (by omega) (by omega) (by omega) (by omega) rfl ?_
  refine jT_advK 4 (pcN := 16) (LN := [(0, (4, 0)), (1, (0, 3)), (2, (4, 1))]) (stN := [(0, 0)]) (hsN := jpA_3430) (c1 := 0) (s1 := 0) (c2 := 0) (s2 := 0) (by decide +kernel) ?_ (by omega) (by omega)
  exact jT_ret rfl (by decide) (by show 24 ≤ 24; decide) (by omega) (by omega) ⟨rfl, rfl, rfl⟩
theorem jA_277_855 {xs : List Int} {d : Nat} : jT xs (d + 2) 277 16 0 [(0, (4, 0)), (1, (0, 3))] [] jpA_1519 0 0 (fun k v hsN => k = 0 ∧ v = (0, 1) ∧ hsN = jpA_1519 ++ []) := by
  refine jT_advK 2 (pcN := 2) (LN := [(0, (4, 0)), (1, (0, 3))]) (stN := [(0, 3), (4, 0)]) (hsN := jpA_1519) (c1 := 0) (s1 := 0) (c2 := 0) (s2 := 0) (by decide +kernel) ?_ (by omega) (by omega)
  refine jT_fR [] 16 (y := 238) (pcN := 5) (dC := 1) (bc1 := 0) (bc2 := 0) (c1 := 0) (c2 := 0) (as := [(0, 3)]) (asC := [(0, 3)]) (LN := [(0, (4, 0)), (1, (0, 3))]) (stN := [(4, 0)]) (hsC := []) (v := (0, 1)) (st2 := [(0, 1), (4, 0)]) (jA_238_393 (d := 0)) (by rfl) (by rfl) (by decide +kernel) (by rfl) (by rfl) (by omega) (by omega) (by omega) (by omega) rfl ?_
  refine jT_fR [0, 1, 2, 3, 4, 5, 6, 7, 8, 9, 10, 11, 12, 13, 14, 15] 16 (y := 190) (pcN := 8) (dC := 1) (bc1 := 0) (bc2 := 0) (c1 := 0) (c2 := 0) (as := [(4, 0), (0, 1)]) (asC := [(4, 0), (0, 1)]) (LN := [(0, (4, 0)), (1, (0, 3))]) (stN := []) (hsC := jpA_22) (v := (0, 0)) (st2 := [(0, 0)]) (jA_190_39 (d := 0)) (by rfl) (by rfl) (by decide +kernel) (by rfl) (by rfl) (by omega) (by omega) (by omega) (by omega) rfl ?_
  refine jT_advK 3 (pcN := 17) (LN := [(0, (4, 0)), (1, (0, 3))]) (stN := [(0, 3), (4, 0)]) (hsN := jpA_1519) (c1 := 0) (s1 := 0) (c2 := 0) (s2 := 0) (by decide +kernel) ?_ (by omega) (by omega)
  refine jT_fR [0, 1, 2, 3, 4, 5, 6, 7, 8, 9, 10, 11, 12, 13, 14, 15] 16 (y := 245) (pcN := 20) (dC := 0) (bc1 := 0) (bc2 := 0) (c1 := 0) (c2 := 0) (as := [(4, 0), (0, 3)]) (asC := [(4, 0), (0, 3)]) (LN := [(0, (4, 0)), (1, (0, 3))]) (stN := []) (hsC := jpA_1519) (v := (0, 1)) (st2 := [(0, 1)]) (jA_245_394 (d := 0)) (by rfl) (by rfl) (by decide +kernel) (by rfl) (by rfl) (by omega) (by omega) (by omega) (by omega) rfl ?_
  exact jT_ret rfl (by decide) (by show 16 ≤ 16; decide) (by omega) (by omega) ⟨rfl, rfl, rfl⟩
theorem jA_147_856 {xs : List Int} {d : Nat} {x1 : Int} (h_x1 : 4 ≤ x1 ∧ x1 ≤ 2147483647) : jT xs (d + 1) 147 12 0 [(0, (4, 0)), (1, (0, x1))] [] jpA_6 1 6 (fun k v hsN => k = 1 ∧ v = (0, 0) ∧ hsN = jpA_6 ++ []) := by
  refine jT_xaload_n (v := (4, 0)) (pcN := 1) jI_147_0 rfl rfl rfl ?_
  refine jT_xiload_n (v := (0, x1)) (pcN := 2) jI_147_1 rfl rfl rfl ?_
  refine jT_xiconst (k := 4) (pcN := 3) jI_147_2 rfl ?_
  exact jT_fX [0] 12 (y := 115) (pcN := 6) (dC := 0) (bc1 := 1) (bc2 := 6) (as := [(4, 0), (0, x1), (0, 4)]) (asC := [(4, 0), (0, x1), (0, 4)]) (LN := [(0, (4, 0)), (1, (0, x1))]) (stN := []) (hsC := [jgh]) (e := 0) (jA_115_405 (d := 0) (by omega)) (by rfl) (by rfl) (by decide +kernel) (by rfl) (by rfl) (by omega) (by omega) (by omega) (by omega) ⟨rfl, ⟨rfl, rfl, rfl⟩⟩
theorem jA_352_857 {xs : List Int} {d : Nat} {x1 : Int} (h_x1 : 4 ≤ x1 ∧ x1 ≤ 2147483647) : jT xs (d + 2) 352 13 0 [(0, (4, 0)), (1, (0, x1)), (2, (4, 1))] [] jpA_15 1 6 (fun k v hsN => k = 0 ∧ v = (0, 1) ∧ hsN = jpA_15 ++ []) := by
  refine jT_xaload_n (v := (4, 1)) (pcN := 1) jI_352_0 rfl rfl rfl ?_
  refine jT_xiconst (k := 0) (pcN := 2) jI_352_1 rfl ?_
  refine jT_xaload_n (v := (4, 0)) (pcN := 3) jI_352_2 rfl rfl rfl ?_
  refine jT_xiload_n (v := (0, x1)) (pcN := 4) jI_352_3 rfl rfl rfl ?_
  exact jT_fX [0, 2, 3, 4, 5, 6, 7, 8, 9, 10, 11, 12] 13 (y := 147) (pcN := 7) (dC := 1) (bc1 := 1) (bc2 := 6) (as := [(4, 0), (0, x1)]) (asC := [(4, 0), (0, x1)]) (LN := [(0, (4, 0)), (1, (0, x1)), (2, (4, 1))]) (stN := [(0, 0), (4, 1)]) (hsC := jpA_6) (e := 0) (jA_147_856 (d := 0) (by omega)) (by rfl) (by rfl) (by decide +kernel) (by rfl) (by rfl) (by omega) (by omega) (by omega) (by omega) (show _ from ⟨rfl, rfl, rfl⟩)
theorem jA_277_858 {xs : List Int} {d : Nat} {x1 : Int} (h_x1 : 4 ≤ x1 ∧ x1 ≤ 2147483647) : jT xs (d + 2) 277 16 0 [(0, (4, 0)), (1, (0, x1))] [] jpA_22 0 0 (fun k v hsN => k = 0 ∧ v = (0, 0) ∧ hsN = jpA_20) := by
  refine jT_xaload_n (v := (4, 0)) (pcN := 1) jI_277_0 rfl rfl rfl ?_
  refine jT_xiload_n (v := (0, x1)) (pcN := 2) jI_277_1 rfl rfl rfl ?_
  refine jT_fR [] 16 (y := 238) (pcN := 5) (dC := 1) (bc1 := 0) (bc2 := 0) (c1 := 0) (c2 := 0) (as := [(0, x1)]) (asC := [(0, x1)]) (LN := [(0, (4, 0)), (1, (0, x1))]) (stN := [(4, 0)]) (hsC := []) (v := (0, 0)) (st2 := [(0, 0), (4, 0)]) (jA_238_408 (d := 0) (by omega)) (by rfl) (by rfl) (by decide +kernel) (by rfl) (by rfl) (by omega) (by omega) (by omega) (by omega) rfl ?_
  refine jT_fB [0, 1, 2, 3, 4, 5, 6, 7, 8, 9, 10, 11, 12, 13, 14, 15] 16 (y := 190) (pcN := 8) (dC := 1) (bc1 := 0) (bc2 := 0) (c1 := 0) (c2 := 0) (as := [(4, 0), (0, 0)]) (asC := [(4, 0), (0, 0)]) (LN := [(0, (4, 0)), (1, (0, x1))]) (stN := []) (hsC := jpA_22) (hsD := jpA_20) (v := (0, 1)) (st2 := [(0, 1)]) (hs2 := jpA_20) (jA_190_6 (d := 0)) (by rfl) (by rfl) (by decide +kernel) (by rfl) (by rfl) (by omega) (by omega) (by omega) (by omega) rfl (by decide +kernel) ?_
  refine jT_xifF (t := 15) (pcN := 11) jI_277_8 rfl (by decide +kernel) rfl rfl ?_
  refine jT_xiconst (k := 0) (pcN := 12) jI_277_11 rfl ?_
  refine jT_xgoto (pcN := 20) jI_277_12 rfl ?_
  exact jT_ret rfl (by decide) (by show 16 ≤ 16; decide) (by omega) (by omega) ⟨rfl, rfl, rfl⟩
theorem jI_379_2198 : jmI (jm 379) 2198 = (.aload_n 1, 1) := by rfl
theorem jI_379_2199 : jmI (jm 379) 2199 = (.aload_n 0, 1) := by rfl
theorem jI_379_2200 : jmI (jm 379) 2200 = (.iload 5, 2) := by rfl
theorem jI_379_2202 : jmI (jm 379) 2202 = (.iconst 1, 1) := by rfl
theorem jI_379_2203 : jmI (jm 379) 2203 = (.iadd, 1) := by rfl
theorem jI_379_2205 : jmI (jm 379) 2205 = (.aload_n 3, 1) := by rfl
theorem jI_379_2209 : jmI (jm 379) 2209 = (.istore 6, 2) := by rfl
theorem jI_379_2211 : jmI (jm 379) 2211 = (.aload_n 2, 1) := by rfl
theorem jI_379_2212 : jmI (jm 379) 2212 = (.aload_n 0, 1) := by rfl
theorem jI_379_2213 : jmI (jm 379) 2213 = (.iload 5, 2) := by rfl
theorem jI_379_2215 : jmI (jm 379) 2215 = (.iconst 1, 1) := by rfl
theorem jI_379_2216 : jmI (jm 379) 2216 = (.iadd, 1) := by rfl
theorem jI_379_2221 : jmI (jm 379) 2221 = (.istore 7, 2) := by rfl
theorem jI_379_2223 : jmI (jm 379) 2223 = (.aload_n 2, 1) := by rfl
theorem jI_379_2227 : jmI (jm 379) 2227 = (.iload 6, 2) := by rfl
theorem jI_379_2229 : jmI (jm 379) 2229 = (.if_icmp .eq 5, 3) := by rfl
theorem jI_379_2234 : jmI (jm 379) 2234 = (.iload 6, 2) := by rfl
theorem jI_379_2236 : jmI (jm 379) 2236 = (.ifCond .ne 15, 3) := by rfl
theorem jI_379_2251 : jmI (jm 379) 2251 = (.goto 1489, 3) := by rfl
set_option maxRecDepth 100000 in
theorem jL_28_0 {d : Nat} {x0 x1 x2 x3 x4 : Int} (h_x0 : (-2147483648) ≤ x0 ∧ x0 ≤ 2147483647) (h_x1 : (-2147483648) ≤ x1 ∧ x1 ≤ (-1)) (h_x2 : (-2147483648) ≤ x2 ∧ x2 ≤ 2147483647) (h_x3 : (-2147483648) ≤ x3 ∧ x3 ≤ 2147483647) (h_x4 : (-2147483648) ≤ x4 ∧ x4 ≤ 2147483647) : jT [x0, x1, x2, x3, x4] (d + 3) 379 30 2198 [(5, (0, 0)), (4, (4, 3)), (3, (4, 2)), (2, (4, 1)), (1, (4, 0)), (0, (6, 0))] [] jpA_267 1 6 (fun k v hsN => k = 0 ∧ v = (0, 1)) := by
  refine jT_xaload_n (v := (4, 0)) (pcN := 2199) jI_379_2198 rfl rfl rfl ?_
  refine jT_xaload_n (v := (6, 0)) (pcN := 2200) jI_379_2199 rfl rfl rfl ?_
  refine jT_xiload (v := (0, 0)) (pcN := 2202) jI_379_2200 rfl rfl rfl ?_
  refine jT_xiconst (k := 1) (pcN := 2203) jI_379_2202 rfl ?_
  refine jT_xiadd (x := 0) (y := 1) (z := 1) (pcN := 2204) jI_379_2203 rfl (by decide) rfl ?_
  refine jT_adv 1 (pcN := 2205) (LN := [(5, (0, 0)), (4, (4, 3)), (3, (4, 2)), (2, (4, 1)), (1, (4, 0)), (0, (6, 0))]) (stN := [(0, x1), (4, 0)]) (hsN := jpA_267) (c1 := 0) (s1 := 0) (c2 := 1) (s2 := 6) (by exact rfl) ?_ (by omega) (by omega)
  refine jT_xaload_n (v := (4, 2)) (pcN := 2206) jI_379_2205 rfl rfl rfl ?_
  refine jT_fR [0, 2, 4, 5, 6, 7, 8, 9, 10, 11, 12, 13, 14] 30 (y := 352) (pcN := 2209) (dC := 2) (bc1 := 1) (bc2 := 6) (c1 := 0) (c2 := 0) (as := [(4, 0), (0, x1), (4, 2)]) (asC := [(4, 0), (0, x1), (4, 1)]) (LN := [(5, (0, 0)), (4, (4, 3)), (3, (4, 2)), (2, (4, 1)), (1, (4, 0)), (0, (6, 0))]) (stN := []) (hsC := jpA_15) (v := (0, 1)) (st2 := [(0, 1)]) (jA_352_842 (d := 0) (by omega)) (by rfl) (by rfl) (by decide +kernel) (by rfl) (by rfl) (by omega) (by omega) (by omega) (by omega) rfl ?_
  refine jT_xistore (v := (0, 1)) (LN := [(6, (0, 1)), (5, (0, 0)), (4, (4, 3)), (3, (4, 2)), (2, (4, 1)), (1, (4, 0)), (0, (6, 0))]) (pcN := 2211) jI_379_2209 rfl rfl rfl rfl ?_
  refine jT_xaload_n (v := (4, 1)) (pcN := 2212) jI_379_2211 rfl rfl rfl ?_
  refine jT_xaload_n (v := (6, 0)) (pcN := 2213) jI_379_2212 rfl rfl rfl ?_
  refine jT_xiload (v := (0, 0)) (pcN := 2215) jI_379_2213 rfl rfl rfl ?_
  refine jT_xiconst (k := 1) (pcN := 2216) jI_379_2215 rfl ?_
  refine jT_xiadd (x := 0) (y := 1) (z := 1) (pcN := 2217) jI_379_2216 rfl (by decide) rfl ?_
  refine jT_adv 1 (pcN := 2218) (LN := [(6, (0, 1)), (5, (0, 0)), (4, (4, 3)), (3, (4, 2)), (2, (4, 1)), (1, (4, 0)), (0, (6, 0))]) (stN := [(0, x1), (4, 1)]) (hsN := jpA_267) (c1 := 0) (s1 := 0) (c2 := 0) (s2 := 0) (by exact rfl) ?_ (by omega) (by omega)
  refine jT_fB [1, 15, 16, 17, 18, 19, 20, 21, 22, 23, 24, 25, 26, 27, 28, 29] 30 (y := 277) (pcN := 2221) (dC := 2) (bc1 := 0) (bc2 := 0) (c1 := 0) (c2 := 0) (as := [(4, 1), (0, x1)]) (asC := [(4, 0), (0, x1)]) (LN := [(6, (0, 1)), (5, (0, 0)), (4, (4, 3)), (3, (4, 2)), (2, (4, 1)), (1, (4, 0)), (0, (6, 0))]) (stN := []) (hsC := jpA_22) (hsD := jpA_20) (v := (0, 0)) (st2 := [(0, 0)]) (hs2 := jpA_306) (jA_277_843 (d := 0) (by omega)) (by rfl) (by rfl) (by decide +kernel) (by rfl) (by rfl) (by omega) (by omega) (by omega) (by omega) rfl (by decide +kernel) ?_
  refine jT_xistore (v := (0, 0)) (LN := [(7, (0, 0)), (6, (0, 1)), (5, (0, 0)), (4, (4, 3)), (3, (4, 2)), (2, (4, 1)), (1, (4, 0)), (0, (6, 0))]) (pcN := 2223) jI_379_2221 rfl rfl rfl rfl ?_
  refine jT_xaload_n (v := (4, 1)) (pcN := 2224) jI_379_2223 rfl rfl rfl ?_
  refine jT_fR [1, 15, 16, 17, 18, 19, 20, 21, 22, 23, 24, 25, 26, 27, 28, 29] 30 (y := 186) (pcN := 2227) (dC := 0) (bc1 := 0) (bc2 := 0) (c1 := 0) (c2 := 0) (as := [(4, 1)]) (asC := [(4, 0)]) (LN := [(7, (0, 0)), (6, (0, 1)), (5, (0, 0)), (4, (4, 3)), (3, (4, 2)), (2, (4, 1)), (1, (4, 0)), (0, (6, 0))]) (stN := []) (hsC := jpA_20) (v := (0, 1)) (st2 := [(0, 1)]) (jA_186_8 (d := 0)) (by rfl) (by rfl) (by decide +kernel) (by rfl) (by rfl) (by omega) (by omega) (by omega) (by omega) rfl ?_
  refine jT_xiload (v := (0, 1)) (pcN := 2229) jI_379_2227 rfl rfl rfl ?_
  refine jT_xicT (pcN := 2234) jI_379_2229 rfl (by decide +kernel) rfl ?_
  refine jT_xiload (v := (0, 1)) (pcN := 2236) jI_379_2234 rfl rfl rfl ?_
  refine jT_xifT (pcN := 2251) jI_379_2236 rfl (by decide +kernel) rfl ?_
  refine jT_xgoto (pcN := 3740) jI_379_2251 rfl ?_
  refine jT_xiinc (x := 0) (z := 5) (LN := [(5, (0, 5)), (7, (0, 0)), (6, (0, 1)), (4, (4, 3)), (3, (4, 2)), (2, (4, 1)), (1, (4, 0)), (0, (6, 0))]) (pcN := 3743) jI_379_3740 rfl rfl (by decide) rfl rfl ?_
  refine jT_xgoto (pcN := 28) jI_379_3743 rfl ?_
  refine jT_xiload (v := (0, 5)) (pcN := 30) jI_379_28 rfl rfl rfl ?_
  refine jT_xaload_n (v := (6, 0)) (pcN := 31) jI_379_30 rfl rfl rfl ?_
  refine jT_adv 1 (pcN := 32) (LN := [(5, (0, 5)), (7, (0, 0)), (6, (0, 1)), (4, (4, 3)), (3, (4, 2)), (2, (4, 1)), (1, (4, 0)), (0, (6, 0))]) (stN := [(0, 5), (0, 5)]) (hsN := jpA_306) (c1 := 0) (s1 := 0) (c2 := 0) (s2 := 0) (by exact rfl) ?_ (by omega) (by omega)
  refine jT_xiconst (k := 5) (pcN := 33) jI_379_32 rfl ?_
  refine jT_xisub (x := 5) (y := 5) (z := 0) (pcN := 34) jI_379_33 rfl (by decide) rfl ?_
  refine jT_xicT (pcN := 3746) jI_379_34 rfl (by decide +kernel) rfl ?_
  refine jT_xiconst (k := 1) (pcN := 3747) jI_379_3746 rfl ?_
  exact jT_ret rfl (by decide) (by show 30 ≤ 30; decide) (by omega) (by omega) ⟨rfl, rfl⟩
def jpA_3450 : List JC := [jzA_265, jzA_266, (101, [], [0]), jgh, jgh, jgh, jgh, jgh, jgh, jgh, jgh, jgh, jgh, jgh, jzA_322, (100, [], jS0), jgh, jgh, jgh, jgh, jgh, jgh, jgh, jgh, jgh, jgh, jgh, jgh, jgh, jgh, jgh, (117, [], [35, 36, 37, 38]), jgh, jgh, jgh, (7, [(4, 39), (4, (-1)), (4, (-1))], []), jgh, jgh, jgh, (114, [], [40]), jgh]
def jpA_3451 : List JC := [jzA_265, jzA_266, (101, [], [1]), jgh, jgh, jgh, jgh, jgh, jgh, jgh, jgh, jgh, jgh, jgh, jzA_322, (100, [], jS0), jgh, jgh, jgh, jgh, jgh, jgh, jgh, jgh, jgh, jgh, jgh, jgh, jgh, jgh, jgh, (117, [], [35, 36, 37, 38]), jgh, jgh, jgh, (7, [(4, 39), (4, (-1)), (4, (-1))], []), jgh, jgh, jgh, (114, [], [40]), jgh]
theorem jI_379_2239 : jmI (jm 379) 2239 = (.aload_n 3, 1) := by rfl
theorem jI_379_2240 : jmI (jm 379) 2240 = (.iconst 0, 1) := by rfl
theorem jI_379_2241 : jmI (jm 379) 2241 = (.laload, 1) := by rfl
theorem jI_379_2242 : jmI (jm 379) 2242 = (.iload 7, 2) := by rfl
theorem jI_379_2244 : jmI (jm 379) 2244 = (.i2l, 1) := by rfl
theorem jI_379_2246 : jmI (jm 379) 2246 = (.ifCond .eq 5, 3) := by rfl
set_option maxRecDepth 100000 in
theorem jL_28_1 {d : Nat} {x0 x1 x2 x3 x4 : Int} (h_x0 : (-2147483648) ≤ x0 ∧ x0 ≤ 2147483647) (h_x1 : 0 ≤ x1 ∧ x1 ≤ 0) (h_x2 : (-2147483648) ≤ x2 ∧ x2 ≤ 2147483647) (h_x3 : (-2147483648) ≤ x3 ∧ x3 ≤ 2147483647) (h_x4 : (-2147483648) ≤ x4 ∧ x4 ≤ 2147483647) : jT [x0, x1, x2, x3, x4] (d + 3) 379 41 2198 [(5, (0, 0)), (4, (4, 3)), (3, (4, 2)), (2, (4, 1)), (1, (4, 0)), (0, (6, 0))] [] jpA_3450 0 0 (fun k v hsN => k = 0 ∧ v = (0, 1)) := by
  refine jT_xaload_n (v := (4, 0)) (pcN := 2199) jI_379_2198 rfl rfl rfl ?_
  refine jT_xaload_n (v := (6, 0)) (pcN := 2200) jI_379_2199 rfl rfl rfl ?_
  refine jT_xiload (v := (0, 0)) (pcN := 2202) jI_379_2200 rfl rfl rfl ?_
  refine jT_xiconst (k := 1) (pcN := 2203) jI_379_2202 rfl ?_
  refine jT_xiadd (x := 0) (y := 1) (z := 1) (pcN := 2204) jI_379_2203 rfl (by decide) rfl ?_
  refine jT_adv 1 (pcN := 2205) (LN := [(5, (0, 0)), (4, (4, 3)), (3, (4, 2)), (2, (4, 1)), (1, (4, 0)), (0, (6, 0))]) (stN := [(0, x1), (4, 0)]) (hsN := jpA_3450) (c1 := 0) (s1 := 0) (c2 := 0) (s2 := 0) (by exact rfl) ?_ (by omega) (by omega)
  refine jT_eq (LN := [(5, (0, 0)), (4, (4, 3)), (3, (4, 2)), (2, (4, 1)), (1, (4, 0)), (0, (6, 0))]) (stN := [(0, 0), (4, 0)]) (hsN := [jzA_265, jzA_266, (101, [], [0]), jgh, jgh, jgh, jgh, jgh, jgh, jgh, jgh, jgh, jgh, jgh, jzA_322, (100, [], jS0), jgh, jgh, jgh, jgh, jgh, jgh, jgh, jgh, jgh, jgh, jgh, jgh, jgh, jgh, jgh, (117, [], [35, 36, 37, 38]), jgh, jgh, jgh, (7, [(4, 39), (4, (-1)), (4, (-1))], []), jgh, jgh, jgh, (114, [], [40]), jgh]) (rfl) (by simp only [List.cons.injEq, Prod.mk.injEq, and_true, true_and] <;> ((try unfold jw); (try unfold jwl); omega)) (rfl) ?_
  refine jT_xaload_n (v := (4, 2)) (pcN := 2206) jI_379_2205 rfl rfl rfl ?_
  refine jT_fB [0, 2, 4, 5, 6, 7, 8, 9, 10, 11, 12, 13, 14, 30, 31, 32, 33, 34, 35, 36, 37, 38, 39, 40] 41 (y := 352) (pcN := 2209) (dC := 2) (bc1 := 0) (bc2 := 0) (c1 := 0) (c2 := 0) (as := [(4, 0), (0, 0), (4, 2)]) (asC := [(4, 0), (0, 0), (4, 1)]) (LN := [(5, (0, 0)), (4, (4, 3)), (3, (4, 2)), (2, (4, 1)), (1, (4, 0)), (0, (6, 0))]) (stN := []) (hsC := jpA_3423) (hsD := jpA_3424) (v := (0, 0)) (st2 := [(0, 0)]) (hs2 := jpA_3451) (jA_352_845 (d := 0)) (by rfl) (by rfl) (by decide +kernel) (by rfl) (by rfl) (by omega) (by omega) (by omega) (by omega) rfl (by decide +kernel) ?_
  refine jT_xistore (v := (0, 0)) (LN := [(6, (0, 0)), (5, (0, 0)), (4, (4, 3)), (3, (4, 2)), (2, (4, 1)), (1, (4, 0)), (0, (6, 0))]) (pcN := 2211) jI_379_2209 rfl rfl rfl rfl ?_
  refine jT_xaload_n (v := (4, 1)) (pcN := 2212) jI_379_2211 rfl rfl rfl ?_
  refine jT_xaload_n (v := (6, 0)) (pcN := 2213) jI_379_2212 rfl rfl rfl ?_
  refine jT_xiload (v := (0, 0)) (pcN := 2215) jI_379_2213 rfl rfl rfl ?_
  refine jT_xiconst (k := 1) (pcN := 2216) jI_379_2215 rfl ?_
  refine jT_xiadd (x := 0) (y := 1) (z := 1) (pcN := 2217) jI_379_2216 rfl (by decide) rfl ?_
  refine jT_adv 1 (pcN := 2218) (LN := [(6, (0, 0)), (5, (0, 0)), (4, (4, 3)), (3, (4, 2)), (2, (4, 1)), (1, (4, 0)), (0, (6, 0))]) (stN := [(0, x1), (4, 1)]) (hsN := jpA_3451) (c1 := 0) (s1 := 0) (c2 := 0) (s2 := 0) (by exact rfl) ?_ (by omega) (by omega)
  refine jT_eq (LN := [(6, (0, 0)), (5, (0, 0)), (4, (4, 3)), (3, (4, 2)), (2, (4, 1)), (1, (4, 0)), (0, (6, 0))]) (stN := [(0, 0), (4, 1)]) (hsN := [jzA_265, jzA_266, (101, [], [1]), jgh, jgh, jgh, jgh, jgh, jgh, jgh, jgh, jgh, jgh, jgh, jzA_322, (100, [], jS0), jgh, jgh, jgh, jgh, jgh, jgh, jgh, jgh, jgh, jgh, jgh, jgh, jgh, jgh, jgh, (117, [], [35, 36, 37, 38]), jgh, jgh, jgh, (7, [(4, 39), (4, (-1)), (4, (-1))], []), jgh, jgh, jgh, (114, [], [40]), jgh]) (rfl) (by simp only [List.cons.injEq, Prod.mk.injEq, and_true, true_and] <;> ((try unfold jw); (try unfold jwl); omega)) (rfl) ?_
  refine jT_fR [1, 15, 16, 17, 18, 19, 20, 21, 22, 23, 24, 25, 26, 27, 28, 29] 41 (y := 277) (pcN := 2221) (dC := 2) (bc1 := 0) (bc2 := 0) (c1 := 0) (c2 := 0) (as := [(4, 1), (0, 0)]) (asC := [(4, 0), (0, 0)]) (LN := [(6, (0, 0)), (5, (0, 0)), (4, (4, 3)), (3, (4, 2)), (2, (4, 1)), (1, (4, 0)), (0, (6, 0))]) (stN := []) (hsC := jpA_1519) (v := (0, 1)) (st2 := [(0, 1)]) (jA_277_846 (d := 0)) (by rfl) (by rfl) (by decide +kernel) (by rfl) (by rfl) (by omega) (by omega) (by omega) (by omega) rfl ?_
  refine jT_xistore (v := (0, 1)) (LN := [(7, (0, 1)), (6, (0, 0)), (5, (0, 0)), (4, (4, 3)), (3, (4, 2)), (2, (4, 1)), (1, (4, 0)), (0, (6, 0))]) (pcN := 2223) jI_379_2221 rfl rfl rfl rfl ?_
  refine jT_xaload_n (v := (4, 1)) (pcN := 2224) jI_379_2223 rfl rfl rfl ?_
  refine jT_fR [1, 15, 16, 17, 18, 19, 20, 21, 22, 23, 24, 25, 26, 27, 28, 29] 41 (y := 186) (pcN := 2227) (dC := 0) (bc1 := 0) (bc2 := 0) (c1 := 0) (c2 := 0) (as := [(4, 1)]) (asC := [(4, 0)]) (LN := [(7, (0, 1)), (6, (0, 0)), (5, (0, 0)), (4, (4, 3)), (3, (4, 2)), (2, (4, 1)), (1, (4, 0)), (0, (6, 0))]) (stN := []) (hsC := jpA_22) (v := (0, 0)) (st2 := [(0, 0)]) (jA_186_726 (d := 0)) (by rfl) (by rfl) (by decide +kernel) (by rfl) (by rfl) (by omega) (by omega) (by omega) (by omega) rfl ?_
  refine jT_xiload (v := (0, 0)) (pcN := 2229) jI_379_2227 rfl rfl rfl ?_
  refine jT_xicT (pcN := 2234) jI_379_2229 rfl (by decide +kernel) rfl ?_
  refine jT_xiload (v := (0, 0)) (pcN := 2236) jI_379_2234 rfl rfl rfl ?_
  refine jT_xifF (t := 2251) (pcN := 2239) jI_379_2236 rfl (by decide +kernel) rfl rfl ?_
  refine jT_xaload_n (v := (4, 2)) (pcN := 2240) jI_379_2239 rfl rfl rfl ?_
  refine jT_xiconst (k := 0) (pcN := 2241) jI_379_2240 rfl ?_
  refine jT_lald (x := 1) (a := 2) (j := 0) (fs := []) (X := [1]) jI_379_2241 rfl rfl rfl rfl ?_
  refine jT_eq (LN := [(7, (0, 1)), (6, (0, 0)), (5, (0, 0)), (4, (4, 3)), (3, (4, 2)), (2, (4, 1)), (1, (4, 0)), (0, (6, 0))]) (stN := [(1, 1)]) (hsN := jpA_3451) rfl rfl rfl ?_
  refine jT_xiload (v := (0, 1)) (pcN := 2244) jI_379_2242 rfl rfl rfl ?_
  refine jT_xi2l (x := 1) (z := 1) (pcN := 2245) jI_379_2244 rfl (by decide +kernel) rfl ?_
  refine jT_lcmp (a := 1) (b := 1) (z := 0) (by rfl) (by rfl) (by decide +kernel) (by decide +kernel) (by decide) ?_
  refine jT_xifT (pcN := 2251) jI_379_2246 rfl (by decide +kernel) rfl ?_
  refine jT_xgoto (pcN := 3740) jI_379_2251 rfl ?_
  refine jT_xiinc (x := 0) (z := 5) (LN := [(5, (0, 5)), (7, (0, 1)), (6, (0, 0)), (4, (4, 3)), (3, (4, 2)), (2, (4, 1)), (1, (4, 0)), (0, (6, 0))]) (pcN := 3743) jI_379_3740 rfl rfl (by decide) rfl rfl ?_
  refine jT_xgoto (pcN := 28) jI_379_3743 rfl ?_
  refine jT_xiload (v := (0, 5)) (pcN := 30) jI_379_28 rfl rfl rfl ?_
  refine jT_xaload_n (v := (6, 0)) (pcN := 31) jI_379_30 rfl rfl rfl ?_
  refine jT_adv 1 (pcN := 32) (LN := [(5, (0, 5)), (7, (0, 1)), (6, (0, 0)), (4, (4, 3)), (3, (4, 2)), (2, (4, 1)), (1, (4, 0)), (0, (6, 0))]) (stN := [(0, 5), (0, 5)]) (hsN := jpA_3451) (c1 := 0) (s1 := 0) (c2 := 0) (s2 := 0) (by exact rfl) ?_ (by omega) (by omega)
  refine jT_xiconst (k := 5) (pcN := 33) jI_379_32 rfl ?_
  refine jT_xisub (x := 5) (y := 5) (z := 0) (pcN := 34) jI_379_33 rfl (by decide) rfl ?_
  refine jT_xicT (pcN := 3746) jI_379_34 rfl (by decide +kernel) rfl ?_
  refine jT_xiconst (k := 1) (pcN := 3747) jI_379_3746 rfl ?_
  exact jT_ret rfl (by decide) (by show 41 ≤ 41; decide) (by omega) (by omega) ⟨rfl, rfl⟩
def jpA_3458 : List JC := [jzA_265, jzA_266, (101, [], [0]), jgh, jgh, jgh, jgh, jgh, jgh, jgh, jgh, jgh, jgh, jgh, jzA_322, (100, [], jS0), jgh, jgh, jgh, jgh, jgh, jgh, jgh, jgh, jgh, jgh, jgh, jgh, jgh, jgh, jgh, (117, [], [35, 36, 37, 38]), jgh, jgh, jgh, jgh, (7, [(4, 39), (4, (-1)), (4, (-1))], []), jgh, jgh, (114, [], [40]), jgh]
def jpA_3459 : List JC := [jzA_265, jzA_266, (101, [], [1]), jgh, jgh, jgh, jgh, jgh, jgh, jgh, jgh, jgh, jgh, jgh, jzA_322, (100, [], jS0), jgh, jgh, jgh, jgh, jgh, jgh, jgh, jgh, jgh, jgh, jgh, jgh, jgh, jgh, jgh, (117, [], [35, 36, 37, 38]), jgh, jgh, jgh, jgh, (7, [(4, 39), (4, (-1)), (4, (-1))], []), jgh, jgh, (114, [], [40]), jgh]
set_option maxRecDepth 100000 in
theorem jL_28_2 {d : Nat} {x0 x1 x2 x3 x4 : Int} (h_x0 : (-2147483648) ≤ x0 ∧ x0 ≤ 2147483647) (h_x1 : 1 ≤ x1 ∧ x1 ≤ 1) (h_x2 : (-2147483648) ≤ x2 ∧ x2 ≤ 2147483647) (h_x3 : (-2147483648) ≤ x3 ∧ x3 ≤ 2147483647) (h_x4 : (-2147483648) ≤ x4 ∧ x4 ≤ 2147483647) : jT [x0, x1, x2, x3, x4] (d + 3) 379 41 2198 [(5, (0, 0)), (4, (4, 3)), (3, (4, 2)), (2, (4, 1)), (1, (4, 0)), (0, (6, 0))] [] jpA_3458 0 0 (fun k v hsN => k = 0 ∧ v = (0, 1)) := by
  refine jT_xaload_n (v := (4, 0)) (pcN := 2199) jI_379_2198 rfl rfl rfl ?_
  refine jT_xaload_n (v := (6, 0)) (pcN := 2200) jI_379_2199 rfl rfl rfl ?_
  refine jT_xiload (v := (0, 0)) (pcN := 2202) jI_379_2200 rfl rfl rfl ?_
  refine jT_xiconst (k := 1) (pcN := 2203) jI_379_2202 rfl ?_
  refine jT_xiadd (x := 0) (y := 1) (z := 1) (pcN := 2204) jI_379_2203 rfl (by decide) rfl ?_
  refine jT_adv 1 (pcN := 2205) (LN := [(5, (0, 0)), (4, (4, 3)), (3, (4, 2)), (2, (4, 1)), (1, (4, 0)), (0, (6, 0))]) (stN := [(0, x1), (4, 0)]) (hsN := jpA_3458) (c1 := 0) (s1 := 0) (c2 := 0) (s2 := 0) (by exact rfl) ?_ (by omega) (by omega)
  refine jT_eq (LN := [(5, (0, 0)), (4, (4, 3)), (3, (4, 2)), (2, (4, 1)), (1, (4, 0)), (0, (6, 0))]) (stN := [(0, 1), (4, 0)]) (hsN := [jzA_265, jzA_266, (101, [], [0]), jgh, jgh, jgh, jgh, jgh, jgh, jgh, jgh, jgh, jgh, jgh, jzA_322, (100, [], jS0), jgh, jgh, jgh, jgh, jgh, jgh, jgh, jgh, jgh, jgh, jgh, jgh, jgh, jgh, jgh, (117, [], [35, 36, 37, 38]), jgh, jgh, jgh, jgh, (7, [(4, 39), (4, (-1)), (4, (-1))], []), jgh, jgh, (114, [], [40]), jgh]) (rfl) (by simp only [List.cons.injEq, Prod.mk.injEq, and_true, true_and] <;> ((try unfold jw); (try unfold jwl); omega)) (rfl) ?_
  refine jT_xaload_n (v := (4, 2)) (pcN := 2206) jI_379_2205 rfl rfl rfl ?_
  refine jT_fB [0, 2, 4, 5, 6, 7, 8, 9, 10, 11, 12, 13, 14, 30, 31, 32, 33, 34, 35, 36, 37, 38, 39, 40] 41 (y := 352) (pcN := 2209) (dC := 2) (bc1 := 0) (bc2 := 0) (c1 := 0) (c2 := 0) (as := [(4, 0), (0, 1), (4, 2)]) (asC := [(4, 0), (0, 1), (4, 1)]) (LN := [(5, (0, 0)), (4, (4, 3)), (3, (4, 2)), (2, (4, 1)), (1, (4, 0)), (0, (6, 0))]) (stN := []) (hsC := jpA_3425) (hsD := jpA_3426) (v := (0, 0)) (st2 := [(0, 0)]) (hs2 := jpA_3459) (jA_352_848 (d := 0)) (by rfl) (by rfl) (by decide +kernel) (by rfl) (by rfl) (by omega) (by omega) (by omega) (by omega) rfl (by decide +kernel) ?_
  refine jT_xistore (v := (0, 0)) (LN := [(6, (0, 0)), (5, (0, 0)), (4, (4, 3)), (3, (4, 2)), (2, (4, 1)), (1, (4, 0)), (0, (6, 0))]) (pcN := 2211) jI_379_2209 rfl rfl rfl rfl ?_
  refine jT_xaload_n (v := (4, 1)) (pcN := 2212) jI_379_2211 rfl rfl rfl ?_
  refine jT_xaload_n (v := (6, 0)) (pcN := 2213) jI_379_2212 rfl rfl rfl ?_
  refine jT_xiload (v := (0, 0)) (pcN := 2215) jI_379_2213 rfl rfl rfl ?_
  refine jT_xiconst (k := 1) (pcN := 2216) jI_379_2215 rfl ?_
  refine jT_xiadd (x := 0) (y := 1) (z := 1) (pcN := 2217) jI_379_2216 rfl (by decide) rfl ?_
  refine jT_adv 1 (pcN := 2218) (LN := [(6, (0, 0)), (5, (0, 0)), (4, (4, 3)), (3, (4, 2)), (2, (4, 1)), (1, (4, 0)), (0, (6, 0))]) (stN := [(0, x1), (4, 1)]) (hsN := jpA_3459) (c1 := 0) (s1 := 0) (c2 := 0) (s2 := 0) (by exact rfl) ?_ (by omega) (by omega)
  refine jT_eq (LN := [(6, (0, 0)), (5, (0, 0)), (4, (4, 3)), (3, (4, 2)), (2, (4, 1)), (1, (4, 0)), (0, (6, 0))]) (stN := [(0, 1), (4, 1)]) (hsN := [jzA_265, jzA_266, (101, [], [1]), jgh, jgh, jgh, jgh, jgh, jgh, jgh, jgh, jgh, jgh, jgh, jzA_322, (100, [], jS0), jgh, jgh, jgh, jgh, jgh, jgh, jgh, jgh, jgh, jgh, jgh, jgh, jgh, jgh, jgh, (117, [], [35, 36, 37, 38]), jgh, jgh, jgh, jgh, (7, [(4, 39), (4, (-1)), (4, (-1))], []), jgh, jgh, (114, [], [40]), jgh]) (rfl) (by simp only [List.cons.injEq, Prod.mk.injEq, and_true, true_and] <;> ((try unfold jw); (try unfold jwl); omega)) (rfl) ?_
  refine jT_fR [1, 15, 16, 17, 18, 19, 20, 21, 22, 23, 24, 25, 26, 27, 28, 29] 41 (y := 277) (pcN := 2221) (dC := 2) (bc1 := 0) (bc2 := 0) (c1 := 0) (c2 := 0) (as := [(4, 1), (0, 1)]) (asC := [(4, 0), (0, 1)]) (LN := [(6, (0, 0)), (5, (0, 0)), (4, (4, 3)), (3, (4, 2)), (2, (4, 1)), (1, (4, 0)), (0, (6, 0))]) (stN := []) (hsC := jpA_1519) (v := (0, 1)) (st2 := [(0, 1)]) (jA_277_849 (d := 0)) (by rfl) (by rfl) (by decide +kernel) (by rfl) (by rfl) (by omega) (by omega) (by omega) (by omega) rfl ?_
  refine jT_xistore (v := (0, 1)) (LN := [(7, (0, 1)), (6, (0, 0)), (5, (0, 0)), (4, (4, 3)), (3, (4, 2)), (2, (4, 1)), (1, (4, 0)), (0, (6, 0))]) (pcN := 2223) jI_379_2221 rfl rfl rfl rfl ?_
  refine jT_xaload_n (v := (4, 1)) (pcN := 2224) jI_379_2223 rfl rfl rfl ?_
  refine jT_fR [1, 15, 16, 17, 18, 19, 20, 21, 22, 23, 24, 25, 26, 27, 28, 29] 41 (y := 186) (pcN := 2227) (dC := 0) (bc1 := 0) (bc2 := 0) (c1 := 0) (c2 := 0) (as := [(4, 1)]) (asC := [(4, 0)]) (LN := [(7, (0, 1)), (6, (0, 0)), (5, (0, 0)), (4, (4, 3)), (3, (4, 2)), (2, (4, 1)), (1, (4, 0)), (0, (6, 0))]) (stN := []) (hsC := jpA_22) (v := (0, 0)) (st2 := [(0, 0)]) (jA_186_726 (d := 0)) (by rfl) (by rfl) (by decide +kernel) (by rfl) (by rfl) (by omega) (by omega) (by omega) (by omega) rfl ?_
  refine jT_xiload (v := (0, 0)) (pcN := 2229) jI_379_2227 rfl rfl rfl ?_
  refine jT_xicT (pcN := 2234) jI_379_2229 rfl (by decide +kernel) rfl ?_
  refine jT_xiload (v := (0, 0)) (pcN := 2236) jI_379_2234 rfl rfl rfl ?_
  refine jT_xifF (t := 2251) (pcN := 2239) jI_379_2236 rfl (by decide +kernel) rfl rfl ?_
  refine jT_xaload_n (v := (4, 2)) (pcN := 2240) jI_379_2239 rfl rfl rfl ?_
  refine jT_xiconst (k := 0) (pcN := 2241) jI_379_2240 rfl ?_
  refine jT_lald (x := 1) (a := 2) (j := 0) (fs := []) (X := [1]) jI_379_2241 rfl rfl rfl rfl ?_
  refine jT_eq (LN := [(7, (0, 1)), (6, (0, 0)), (5, (0, 0)), (4, (4, 3)), (3, (4, 2)), (2, (4, 1)), (1, (4, 0)), (0, (6, 0))]) (stN := [(1, 1)]) (hsN := jpA_3459) rfl rfl rfl ?_
  refine jT_xiload (v := (0, 1)) (pcN := 2244) jI_379_2242 rfl rfl rfl ?_
  refine jT_xi2l (x := 1) (z := 1) (pcN := 2245) jI_379_2244 rfl (by decide +kernel) rfl ?_
  refine jT_lcmp (a := 1) (b := 1) (z := 0) (by rfl) (by rfl) (by decide +kernel) (by decide +kernel) (by decide) ?_
  refine jT_xifT (pcN := 2251) jI_379_2246 rfl (by decide +kernel) rfl ?_
  refine jT_xgoto (pcN := 3740) jI_379_2251 rfl ?_
  refine jT_xiinc (x := 0) (z := 5) (LN := [(5, (0, 5)), (7, (0, 1)), (6, (0, 0)), (4, (4, 3)), (3, (4, 2)), (2, (4, 1)), (1, (4, 0)), (0, (6, 0))]) (pcN := 3743) jI_379_3740 rfl rfl (by decide) rfl rfl ?_
  refine jT_xgoto (pcN := 28) jI_379_3743 rfl ?_
  refine jT_xiload (v := (0, 5)) (pcN := 30) jI_379_28 rfl rfl rfl ?_
  refine jT_xaload_n (v := (6, 0)) (pcN := 31) jI_379_30 rfl rfl rfl ?_
  refine jT_adv 1 (pcN := 32) (LN := [(5, (0, 5)), (7, (0, 1)), (6, (0, 0)), (4, (4, 3)), (3, (4, 2)), (2, (4, 1)), (1, (4, 0)), (0, (6, 0))]) (stN := [(0, 5), (0, 5)]) (hsN := jpA_3459) (c1 := 0) (s1 := 0) (c2 := 0) (s2 := 0) (by exact rfl) ?_ (by omega) (by omega)
  refine jT_xiconst (k := 5) (pcN := 33) jI_379_32 rfl ?_
  refine jT_xisub (x := 5) (y := 5) (z := 0) (pcN := 34) jI_379_33 rfl (by decide) rfl ?_
  refine jT_xicT (pcN := 3746) jI_379_34 rfl (by decide +kernel) rfl ?_
  refine jT_xiconst (k := 1) (pcN := 3747) jI_379_3746 rfl ?_
  exact jT_ret rfl (by decide) (by show 41 ≤ 41; decide) (by omega) (by omega) ⟨rfl, rfl⟩
def jpA_3460 : List JC := [jzA_265, jzA_266, (101, [], [0]), jgh, jgh, jgh, jgh, jgh, jgh, jgh, jgh, jgh, jgh, jgh, jzA_322, (100, [], jS0), jgh, jgh, jgh, jgh, jgh, jgh, jgh, jgh, jgh, jgh, jgh, jgh, jgh, jgh, jgh, (117, [], [35, 36, 37, 38]), jgh, jgh, jgh, jgh, jgh, (7, [(4, 39), (4, (-1)), (4, (-1))], []), jgh, (114, [], [40]), jgh]
def jpA_3461 : List JC := [jzA_265, jzA_266, (101, [], [1]), jgh, jgh, jgh, jgh, jgh, jgh, jgh, jgh, jgh, jgh, jgh, jzA_322, (100, [], jS0), jgh, jgh, jgh, jgh, jgh, jgh, jgh, jgh, jgh, jgh, jgh, jgh, jgh, jgh, jgh, (117, [], [35, 36, 37, 38]), jgh, jgh, jgh, jgh, jgh, (7, [(4, 39), (4, (-1)), (4, (-1))], []), jgh, (114, [], [40]), jgh]
set_option maxRecDepth 100000 in
theorem jL_28_3 {d : Nat} {x0 x1 x2 x3 x4 : Int} (h_x0 : (-2147483648) ≤ x0 ∧ x0 ≤ 2147483647) (h_x1 : 2 ≤ x1 ∧ x1 ≤ 2) (h_x2 : (-2147483648) ≤ x2 ∧ x2 ≤ 2147483647) (h_x3 : (-2147483648) ≤ x3 ∧ x3 ≤ 2147483647) (h_x4 : (-2147483648) ≤ x4 ∧ x4 ≤ 2147483647) : jT [x0, x1, x2, x3, x4] (d + 3) 379 41 2198 [(5, (0, 0)), (4, (4, 3)), (3, (4, 2)), (2, (4, 1)), (1, (4, 0)), (0, (6, 0))] [] jpA_3460 0 0 (fun k v hsN => k = 0 ∧ v = (0, 1)) := by
  refine jT_xaload_n (v := (4, 0)) (pcN := 2199) jI_379_2198 rfl rfl rfl ?_
  refine jT_xaload_n (v := (6, 0)) (pcN := 2200) jI_379_2199 rfl rfl rfl ?_
  refine jT_xiload (v := (0, 0)) (pcN := 2202) jI_379_2200 rfl rfl rfl ?_
  refine jT_xiconst (k := 1) (pcN := 2203) jI_379_2202 rfl ?_
  refine jT_xiadd (x := 0) (y := 1) (z := 1) (pcN := 2204) jI_379_2203 rfl (by decide) rfl ?_
  refine jT_adv 1 (pcN := 2205) (LN := [(5, (0, 0)), (4, (4, 3)), (3, (4, 2)), (2, (4, 1)), (1, (4, 0)), (0, (6, 0))]) (stN := [(0, x1), (4, 0)]) (hsN := jpA_3460) (c1 := 0) (s1 := 0) (c2 := 0) (s2 := 0) (by exact rfl) ?_ (by omega) (by omega)
  refine jT_eq (LN := [(5, (0, 0)), (4, (4, 3)), (3, (4, 2)), (2, (4, 1)), (1, (4, 0)), (0, (6, 0))]) (stN := [(0, 2), (4, 0)]) (hsN := [jzA_265, jzA_266, (101, [], [0]), jgh, jgh, jgh, jgh, jgh, jgh, jgh, jgh, jgh, jgh, jgh, jzA_322, (100, [], jS0), jgh, jgh, jgh, jgh, jgh, jgh, jgh, jgh, jgh, jgh, jgh, jgh, jgh, jgh, jgh, (117, [], [35, 36, 37, 38]), jgh, jgh, jgh, jgh, jgh, (7, [(4, 39), (4, (-1)), (4, (-1))], []), jgh, (114, [], [40]), jgh]) (rfl) (by simp only [List.cons.injEq, Prod.mk.injEq, and_true, true_and] <;> ((try unfold jw); (try unfold jwl); omega)) (rfl) ?_
  refine jT_xaload_n (v := (4, 2)) (pcN := 2206) jI_379_2205 rfl rfl rfl ?_
  refine jT_fB [0, 2, 4, 5, 6, 7, 8, 9, 10, 11, 12, 13, 14, 30, 31, 32, 33, 34, 35, 36, 37, 38, 39, 40] 41 (y := 352) (pcN := 2209) (dC := 2) (bc1 := 0) (bc2 := 0) (c1 := 0) (c2 := 0) (as := [(4, 0), (0, 2), (4, 2)]) (asC := [(4, 0), (0, 2), (4, 1)]) (LN := [(5, (0, 0)), (4, (4, 3)), (3, (4, 2)), (2, (4, 1)), (1, (4, 0)), (0, (6, 0))]) (stN := []) (hsC := jpA_3427) (hsD := jpA_3428) (v := (0, 0)) (st2 := [(0, 0)]) (hs2 := jpA_3461) (jA_352_851 (d := 0)) (by rfl) (by rfl) (by decide +kernel) (by rfl) (by rfl) (by omega) (by omega) (by omega) (by omega) rfl (by decide +kernel) ?_
  refine jT_xistore (v := (0, 0)) (LN := [(6, (0, 0)), (5, (0, 0)), (4, (4, 3)), (3, (4, 2)), (2, (4, 1)), (1, (4, 0)), (0, (6, 0))]) (pcN := 2211) jI_379_2209 rfl rfl rfl rfl ?_
  refine jT_xaload_n (v := (4, 1)) (pcN := 2212) jI_379_2211 rfl rfl rfl ?_
  refine jT_xaload_n (v := (6, 0)) (pcN := 2213) jI_379_2212 rfl rfl rfl ?_
  refine jT_xiload (v := (0, 0)) (pcN := 2215) jI_379_2213 rfl rfl rfl ?_
  refine jT_xiconst (k := 1) (pcN := 2216) jI_379_2215 rfl ?_
  refine jT_xiadd (x := 0) (y := 1) (z := 1) (pcN := 2217) jI_379_2216 rfl (by decide) rfl ?_
  refine jT_adv 1 (pcN := 2218) (LN := [(6, (0, 0)), (5, (0, 0)), (4, (4, 3)), (3, (4, 2)), (2, (4, 1)), (1, (4, 0)), (0, (6, 0))]) (stN := [(0, x1), (4, 1)]) (hsN := jpA_3461) (c1 := 0) (s1 := 0) (c2 := 0) (s2 := 0) (by exact rfl) ?_ (by omega) (by omega)
  refine jT_eq (LN := [(6, (0, 0)), (5, (0, 0)), (4, (4, 3)), (3, (4, 2)), (2, (4, 1)), (1, (4, 0)), (0, (6, 0))]) (stN := [(0, 2), (4, 1)]) (hsN := [jzA_265, jzA_266, (101, [], [1]), jgh, jgh, jgh, jgh, jgh, jgh, jgh, jgh, jgh, jgh, jgh, jzA_322, (100, [], jS0), jgh, jgh, jgh, jgh, jgh, jgh, jgh, jgh, jgh, jgh, jgh, jgh, jgh, jgh, jgh, (117, [], [35, 36, 37, 38]), jgh, jgh, jgh, jgh, jgh, (7, [(4, 39), (4, (-1)), (4, (-1))], []), jgh, (114, [], [40]), jgh]) (rfl) (by simp only [List.cons.injEq, Prod.mk.injEq, and_true, true_and] <;> ((try unfold jw); (try unfold jwl); omega)) (rfl) ?_
  refine jT_fR [1, 15, 16, 17, 18, 19, 20, 21, 22, 23, 24, 25, 26, 27, 28, 29] 41 (y := 277) (pcN := 2221) (dC := 2) (bc1 := 0) (bc2 := 0) (c1 := 0) (c2 := 0) (as := [(4, 1), (0, 2)]) (asC := [(4, 0), (0, 2)]) (LN := [(6, (0, 0)), (5, (0, 0)), (4, (4, 3)), (3, (4, 2)), (2, (4, 1)), (1, (4, 0)), (0, (6, 0))]) (stN := []) (hsC := jpA_1519) (v := (0, 1)) (st2 := [(0, 1)]) (jA_277_852 (d := 0)) (by rfl) (by rfl) (by decide +kernel) (by rfl) (by rfl) (by omega) (by omega) (by omega) (by omega) rfl ?_
  refine jT_xistore (v := (0, 1)) (LN := [(7, (0, 1)), (6, (0, 0)), (5, (0, 0)), (4, (4, 3)), (3, (4, 2)), (2, (4, 1)), (1, (4, 0)), (0, (6, 0))]) (pcN := 2223) jI_379_2221 rfl rfl rfl rfl ?_
  refine jT_xaload_n (v := (4, 1)) (pcN := 2224) jI_379_2223 rfl rfl rfl ?_
  refine jT_fR [1, 15, 16, 17, 18, 19, 20, 21, 22, 23, 24, 25, 26, 27, 28, 29] 41 (y := 186) (pcN := 2227) (dC := 0) (bc1 := 0) (bc2 := 0) (c1 := 0) (c2 := 0) (as := [(4, 1)]) (asC := [(4, 0)]) (LN := [(7, (0, 1)), (6, (0, 0)), (5, (0, 0)), (4, (4, 3)), (3, (4, 2)), (2, (4, 1)), (1, (4, 0)), (0, (6, 0))]) (stN := []) (hsC := jpA_22) (v := (0, 0)) (st2 := [(0, 0)]) (jA_186_726 (d := 0)) (by rfl) (by rfl) (by decide +kernel) (by rfl) (by rfl) (by omega) (by omega) (by omega) (by omega) rfl ?_
  refine jT_xiload (v := (0, 0)) (pcN := 2229) jI_379_2227 rfl rfl rfl ?_
  refine jT_xicT (pcN := 2234) jI_379_2229 rfl (by decide +kernel) rfl ?_
  refine jT_xiload (v := (0, 0)) (pcN := 2236) jI_379_2234 rfl rfl rfl ?_
  refine jT_xifF (t := 2251) (pcN := 2239) jI_379_2236 rfl (by decide +kernel) rfl rfl ?_
  refine jT_xaload_n (v := (4, 2)) (pcN := 2240) jI_379_2239 rfl rfl rfl ?_
  refine jT_xiconst (k := 0) (pcN := 2241) jI_379_2240 rfl ?_
  refine jT_lald (x := 1) (a := 2) (j := 0) (fs := []) (X := [1]) jI_379_2241 rfl rfl rfl rfl ?_
  refine jT_eq (LN := [(7, (0, 1)), (6, (0, 0)), (5, (0, 0)), (4, (4, 3)), (3, (4, 2)), (2, (4, 1)), (1, (4, 0)), (0, (6, 0))]) (stN := [(1, 1)]) (hsN := jpA_3461) rfl rfl rfl ?_
  refine jT_xiload (v := (0, 1)) (pcN := 2244) jI_379_2242 rfl rfl rfl ?_
  refine jT_xi2l (x := 1) (z := 1) (pcN := 2245) jI_379_2244 rfl (by decide +kernel) rfl ?_
  refine jT_lcmp (a := 1) (b := 1) (z := 0) (by rfl) (by rfl) (by decide +kernel) (by decide +kernel) (by decide) ?_
  refine jT_xifT (pcN := 2251) jI_379_2246 rfl (by decide +kernel) rfl ?_
  refine jT_xgoto (pcN := 3740) jI_379_2251 rfl ?_
  refine jT_xiinc (x := 0) (z := 5) (LN := [(5, (0, 5)), (7, (0, 1)), (6, (0, 0)), (4, (4, 3)), (3, (4, 2)), (2, (4, 1)), (1, (4, 0)), (0, (6, 0))]) (pcN := 3743) jI_379_3740 rfl rfl (by decide) rfl rfl ?_
  refine jT_xgoto (pcN := 28) jI_379_3743 rfl ?_
  refine jT_xiload (v := (0, 5)) (pcN := 30) jI_379_28 rfl rfl rfl ?_
  refine jT_xaload_n (v := (6, 0)) (pcN := 31) jI_379_30 rfl rfl rfl ?_
  refine jT_adv 1 (pcN := 32) (LN := [(5, (0, 5)), (7, (0, 1)), (6, (0, 0)), (4, (4, 3)), (3, (4, 2)), (2, (4, 1)), (1, (4, 0)), (0, (6, 0))]) (stN := [(0, 5), (0, 5)]) (hsN := jpA_3461) (c1 := 0) (s1 := 0) (c2 := 0) (s2 := 0) (by exact rfl) ?_ (by omega) (by omega)
  refine jT_xiconst (k := 5) (pcN := 33) jI_379_32 rfl ?_
  refine jT_xisub (x := 5) (y := 5) (z := 0) (pcN := 34) jI_379_33 rfl (by decide) rfl ?_
  refine jT_xicT (pcN := 3746) jI_379_34 rfl (by decide +kernel) rfl ?_
  refine jT_xiconst (k := 1) (pcN := 3747) jI_379_3746 rfl ?_
  exact jT_ret rfl (by decide) (by show 41 ≤ 41; decide) (by omega) (by omega) ⟨rfl, rfl⟩
def jpA_3462 : List JC := [jzA_265, jzA_266, (101, [], [0]), jgh, jgh, jgh, jgh, jgh, jgh, jgh, jgh, jgh, jgh, jgh, jzA_322, (100, [], jS0), jgh, jgh, jgh, jgh, jgh, jgh, jgh, jgh, jgh, jgh, jgh, jgh, jgh, jgh, jgh, (117, [], [35, 36, 37, 38]), jgh, jgh, jgh, jgh, jgh, jgh, (7, [(4, 39), (4, (-1)), (4, (-1))], []), (114, [], [40]), jgh]
def jpA_3463 : List JC := [jzA_265, jzA_266, (101, [], [1]), jgh, jgh, jgh, jgh, jgh, jgh, jgh, jgh, jgh, jgh, jgh, jzA_322, (100, [], jS0), jgh, jgh, jgh, jgh, jgh, jgh, jgh, jgh, jgh, jgh, jgh, jgh, jgh, jgh, jgh, (117, [], [35, 36, 37, 38]), jgh, jgh, jgh, jgh, jgh, jgh, (7, [(4, 39), (4, (-1)), (4, (-1))], []), (114, [], [40]), jgh]
set_option maxRecDepth 100000 in
theorem jL_28_4 {d : Nat} {x0 x1 x2 x3 x4 : Int} (h_x0 : (-2147483648) ≤ x0 ∧ x0 ≤ 2147483647) (h_x1 : 3 ≤ x1 ∧ x1 ≤ 3) (h_x2 : (-2147483648) ≤ x2 ∧ x2 ≤ 2147483647) (h_x3 : (-2147483648) ≤ x3 ∧ x3 ≤ 2147483647) (h_x4 : (-2147483648) ≤ x4 ∧ x4 ≤ 2147483647) : jT [x0, x1, x2, x3, x4] (d + 3) 379 41 2198 [(5, (0, 0)), (4, (4, 3)), (3, (4, 2)), (2, (4, 1)), (1, (4, 0)), (0, (6, 0))] [] jpA_3462 0 0 (fun k v hsN => k = 0 ∧ v = (0, 1)) := by
  refine jT_xaload_n (v := (4, 0)) (pcN := 2199) jI_379_2198 rfl rfl rfl ?_
  refine jT_xaload_n (v := (6, 0)) (pcN := 2200) jI_379_2199 rfl rfl rfl ?_
  refine jT_xiload (v := (0, 0)) (pcN := 2202) jI_379_2200 rfl rfl rfl ?_
  refine jT_xiconst (k := 1) (pcN := 2203) jI_379_2202 rfl ?_
  refine jT_xiadd (x := 0) (y := 1) (z := 1) (pcN := 2204) jI_379_2203 rfl (by decide) rfl ?_
  refine jT_adv 1 (pcN := 2205) (LN := [(5, (0, 0)), (4, (4, 3)), (3, (4, 2)), (2, (4, 1)), (1, (4, 0)), (0, (6, 0))]) (stN := [(0, x1), (4, 0)]) (hsN := jpA_3462) (c1 := 0) (s1 := 0) (c2 := 0) (s2 := 0) (by exact rfl) ?_ (by omega) (by omega)
  refine jT_eq (LN := [(5, (0, 0)), (4, (4, 3)), (3, (4, 2)), (2, (4, 1)), (1, (4, 0)), (0, (6, 0))]) (stN := [(0, 3), (4, 0)]) (hsN := [jzA_265, jzA_266, (101, [], [0]), jgh, jgh, jgh, jgh, jgh, jgh, jgh, jgh, jgh, jgh, jgh, jzA_322, (100, [], jS0), jgh, jgh, jgh, jgh, jgh, jgh, jgh, jgh, jgh, jgh, jgh, jgh, jgh, jgh, jgh, (117, [], [35, 36, 37, 38]), jgh, jgh, jgh, jgh, jgh, jgh, (7, [(4, 39), (4, (-1)), (4, (-1))], []), (114, [], [40]), jgh]) (rfl) (by simp only [List.cons.injEq, Prod.mk.injEq, and_true, true_and] <;> ((try unfold jw); (try unfold jwl); omega)) (rfl) ?_
  refine jT_xaload_n (v := (4, 2)) (pcN := 2206) jI_379_2205 rfl rfl rfl ?_
  refine jT_fB [0, 2, 4, 5, 6, 7, 8, 9, 10, 11, 12, 13, 14, 30, 31, 32, 33, 34, 35, 36, 37, 38, 39, 40] 41 (y := 352) (pcN := 2209) (dC := 2) (bc1 := 0) (bc2 := 0) (c1 := 0) (c2 := 0) (as := [(4, 0), (0, 3), (4, 2)]) (asC := [(4, 0), (0, 3), (4, 1)]) (LN := [(5, (0, 0)), (4, (4, 3)), (3, (4, 2)), (2, (4, 1)), (1, (4, 0)), (0, (6, 0))]) (stN := []) (hsC := jpA_3429) (hsD := jpA_3430) (v := (0, 0)) (st2 := [(0, 0)]) (hs2 := jpA_3463) (jA_352_854 (d := 0)) (by rfl) (by rfl) (by decide +kernel) (by rfl) (by rfl) (by omega) (by omega) (by omega) (by omega) rfl (by decide +kernel) ?_
  refine jT_xistore (v := (0, 0)) (LN := [(6, (0, 0)), (5, (0, 0)), (4, (4, 3)), (3, (4, 2)), (2, (4, 1)), (1, (4, 0)), (0, (6, 0))]) (pcN := 2211) jI_379_2209 rfl rfl rfl rfl ?_
  refine jT_xaload_n (v := (4, 1)) (pcN := 2212) jI_379_2211 rfl rfl rfl ?_
  refine jT_xaload_n (v := (6, 0)) (pcN := 2213) jI_379_2212 rfl rfl rfl ?_
  refine jT_xiload (v := (0, 0)) (pcN := 2215) jI_379_2213 rfl rfl rfl ?_
  refine jT_xiconst (k := 1) (pcN := 2216) jI_379_2215 rfl ?_
  refine jT_xiadd (x := 0) (y := 1) (z := 1) (pcN := 2217) jI_379_2216 rfl (by decide) rfl ?_
  refine jT_adv 1 (pcN := 2218) (LN := [(6, (0, 0)), (5, (0, 0)), (4, (4, 3)), (3, (4, 2)), (2, (4, 1)), (1, (4, 0)), (0, (6, 0))]) (stN := [(0, x1), (4, 1)]) (hsN := jpA_3463) (c1 := 0) (s1 := 0) (c2 := 0) (s2 := 0) (by exact rfl) ?_ (by omega) (by omega)
  refine jT_eq (LN := [(6, (0, 0)), (5, (0, 0)), (4, (4, 3)), (3, (4, 2)), (2, (4, 1)), (1, (4, 0)), (0, (6, 0))]) (stN := [(0, 3), (4, 1)]) (hsN := [jzA_265, jzA_266, (101, [], [1]), jgh, jgh, jgh, jgh, jgh, jgh, jgh, jgh, jgh, jgh, jgh, jzA_322, (100, [], jS0), jgh, jgh, jgh, jgh, jgh, jgh, jgh, jgh, jgh, jgh, jgh, jgh, jgh, jgh, jgh, (117, [], [35, 36, 37, 38]), jgh, jgh, jgh, jgh, jgh, jgh, (7, [(4, 39), (4, (-1)), (4, (-1))], []), (114, [], [40]), jgh]) (rfl) (by simp only [List.cons.injEq, Prod.mk.injEq, and_true, true_and] <;> ((try unfold jw); (try unfold jwl); omega)) (rfl) ?_
  refine jT_fR [1, 15, 16, 17, 18, 19, 20, 21, 22, 23, 24, 25, 26, 27, 28, 29] 41 (y := 277) (pcN := 2221) (dC := 2) (bc1 := 0) (bc2 := 0) (c1 := 0) (c2 := 0) (as := [(4, 1), (0, 3)]) (asC := [(4, 0), (0, 3)]) (LN := [(6, (0, 0)), (5, (0, 0)), (4, (4, 3)), (3, (4, 2)), (2, (4, 1)), (1, (4, 0)), (0, (6, 0))]) (stN := []) (hsC := jpA_1519) (v := (0, 1)) (st2 := [(0, 1)]) (jA_277_855 (d := 0)) (by rfl) (by rfl) (by decide +kernel) (by rfl) (by rfl) (by omega) (by omega) (by omega) (by omega) rfl ?_
  refine jT_xistore (v := (0, 1)) (LN := [(7, (0, 1)), (6, (0, 0)), (5, (0, 0)), (4, (4, 3)), (3, (4, 2)), (2, (4, 1)), (1, (4, 0)), (0, (6, 0))]) (pcN := 2223) jI_379_2221 rfl rfl rfl rfl ?_
  refine jT_xaload_n (v := (4, 1)) (pcN := 2224) jI_379_2223 rfl rfl rfl ?_
  refine jT_fR [1, 15, 16, 17, 18, 19, 20, 21, 22, 23, 24, 25, 26, 27, 28, 29] 41 (y := 186) (pcN := 2227) (dC := 0) (bc1 := 0) (bc2 := 0) (c1 := 0) (c2 := 0) (as := [(4, 1)]) (asC := [(4, 0)]) (LN := [(7, (0, 1)), (6, (0, 0)), (5, (0, 0)), (4, (4, 3)), (3, (4, 2)), (2, (4, 1)), (1, (4, 0)), (0, (6, 0))]) (stN := []) (hsC := jpA_22) (v := (0, 0)) (st2 := [(0, 0)]) (jA_186_726 (d := 0)) (by rfl) (by rfl) (by decide +kernel) (by rfl) (by rfl) (by omega) (by omega) (by omega) (by omega) rfl ?_
  refine jT_xiload (v := (0, 0)) (pcN := 2229) jI_379_2227 rfl rfl rfl ?_
  refine jT_xicT (pcN := 2234) jI_379_2229 rfl (by decide +kernel) rfl ?_
  refine jT_xiload (v := (0, 0)) (pcN := 2236) jI_379_2234 rfl rfl rfl ?_
  refine jT_xifF (t := 2251) (pcN := 2239) jI_379_2236 rfl (by decide +kernel) rfl rfl ?_
  refine jT_xaload_n (v := (4, 2)) (pcN := 2240) jI_379_2239 rfl rfl rfl ?_
  refine jT_xiconst (k := 0) (pcN := 2241) jI_379_2240 rfl ?_
  refine jT_lald (x := 1) (a := 2) (j := 0) (fs := []) (X := [1]) jI_379_2241 rfl rfl rfl rfl ?_
  refine jT_eq (LN := [(7, (0, 1)), (6, (0, 0)), (5, (0, 0)), (4, (4, 3)), (3, (4, 2)), (2, (4, 1)), (1, (4, 0)), (0, (6, 0))]) (stN := [(1, 1)]) (hsN := jpA_3463) rfl rfl rfl ?_
  refine jT_xiload (v := (0, 1)) (pcN := 2244) jI_379_2242 rfl rfl rfl ?_
  refine jT_xi2l (x := 1) (z := 1) (pcN := 2245) jI_379_2244 rfl (by decide +kernel) rfl ?_
  refine jT_lcmp (a := 1) (b := 1) (z := 0) (by rfl) (by rfl) (by decide +kernel) (by decide +kernel) (by decide) ?_
  refine jT_xifT (pcN := 2251) jI_379_2246 rfl (by decide +kernel) rfl ?_
  refine jT_xgoto (pcN := 3740) jI_379_2251 rfl ?_
  refine jT_xiinc (x := 0) (z := 5) (LN := [(5, (0, 5)), (7, (0, 1)), (6, (0, 0)), (4, (4, 3)), (3, (4, 2)), (2, (4, 1)), (1, (4, 0)), (0, (6, 0))]) (pcN := 3743) jI_379_3740 rfl rfl (by decide) rfl rfl ?_
  refine jT_xgoto (pcN := 28) jI_379_3743 rfl ?_
  refine jT_xiload (v := (0, 5)) (pcN := 30) jI_379_28 rfl rfl rfl ?_
  refine jT_xaload_n (v := (6, 0)) (pcN := 31) jI_379_30 rfl rfl rfl ?_
  refine jT_adv 1 (pcN := 32) (LN := [(5, (0, 5)), (7, (0, 1)), (6, (0, 0)), (4, (4, 3)), (3, (4, 2)), (2, (4, 1)), (1, (4, 0)), (0, (6, 0))]) (stN := [(0, 5), (0, 5)]) (hsN := jpA_3463) (c1 := 0) (s1 := 0) (c2 := 0) (s2 := 0) (by exact rfl) ?_ (by omega) (by omega)
  refine jT_xiconst (k := 5) (pcN := 33) jI_379_32 rfl ?_
  refine jT_xisub (x := 5) (y := 5) (z := 0) (pcN := 34) jI_379_33 rfl (by decide) rfl ?_
  refine jT_xicT (pcN := 3746) jI_379_34 rfl (by decide +kernel) rfl ?_
  refine jT_xiconst (k := 1) (pcN := 3747) jI_379_3746 rfl ?_
  exact jT_ret rfl (by decide) (by show 41 ≤ 41; decide) (by omega) (by omega) ⟨rfl, rfl⟩
set_option maxRecDepth 100000 in
theorem jL_28_5 {d : Nat} {x0 x1 x2 x3 x4 : Int} (h_x0 : (-2147483648) ≤ x0 ∧ x0 ≤ 2147483647) (h_x1 : 4 ≤ x1 ∧ x1 ≤ 2147483647) (h_x2 : (-2147483648) ≤ x2 ∧ x2 ≤ 2147483647) (h_x3 : (-2147483648) ≤ x3 ∧ x3 ≤ 2147483647) (h_x4 : (-2147483648) ≤ x4 ∧ x4 ≤ 2147483647) : jT [x0, x1, x2, x3, x4] (d + 3) 379 30 2198 [(5, (0, 0)), (4, (4, 3)), (3, (4, 2)), (2, (4, 1)), (1, (4, 0)), (0, (6, 0))] [] jpA_267 1 6 (fun k v hsN => k = 0 ∧ v = (0, 1)) := by
  refine jT_xaload_n (v := (4, 0)) (pcN := 2199) jI_379_2198 rfl rfl rfl ?_
  refine jT_xaload_n (v := (6, 0)) (pcN := 2200) jI_379_2199 rfl rfl rfl ?_
  refine jT_xiload (v := (0, 0)) (pcN := 2202) jI_379_2200 rfl rfl rfl ?_
  refine jT_xiconst (k := 1) (pcN := 2203) jI_379_2202 rfl ?_
  refine jT_xiadd (x := 0) (y := 1) (z := 1) (pcN := 2204) jI_379_2203 rfl (by decide) rfl ?_
  refine jT_adv 1 (pcN := 2205) (LN := [(5, (0, 0)), (4, (4, 3)), (3, (4, 2)), (2, (4, 1)), (1, (4, 0)), (0, (6, 0))]) (stN := [(0, x1), (4, 0)]) (hsN := jpA_267) (c1 := 0) (s1 := 0) (c2 := 1) (s2 := 6) (by exact rfl) ?_ (by omega) (by omega)
  refine jT_xaload_n (v := (4, 2)) (pcN := 2206) jI_379_2205 rfl rfl rfl ?_
  refine jT_fR [0, 2, 4, 5, 6, 7, 8, 9, 10, 11, 12, 13, 14] 30 (y := 352) (pcN := 2209) (dC := 2) (bc1 := 1) (bc2 := 6) (c1 := 0) (c2 := 0) (as := [(4, 0), (0, x1), (4, 2)]) (asC := [(4, 0), (0, x1), (4, 1)]) (LN := [(5, (0, 0)), (4, (4, 3)), (3, (4, 2)), (2, (4, 1)), (1, (4, 0)), (0, (6, 0))]) (stN := []) (hsC := jpA_15) (v := (0, 1)) (st2 := [(0, 1)]) (jA_352_857 (d := 0) (by omega)) (by rfl) (by rfl) (by decide +kernel) (by rfl) (by rfl) (by omega) (by omega) (by omega) (by omega) rfl ?_
  refine jT_xistore (v := (0, 1)) (LN := [(6, (0, 1)), (5, (0, 0)), (4, (4, 3)), (3, (4, 2)), (2, (4, 1)), (1, (4, 0)), (0, (6, 0))]) (pcN := 2211) jI_379_2209 rfl rfl rfl rfl ?_
  refine jT_xaload_n (v := (4, 1)) (pcN := 2212) jI_379_2211 rfl rfl rfl ?_
  refine jT_xaload_n (v := (6, 0)) (pcN := 2213) jI_379_2212 rfl rfl rfl ?_
  refine jT_xiload (v := (0, 0)) (pcN := 2215) jI_379_2213 rfl rfl rfl ?_
  refine jT_xiconst (k := 1) (pcN := 2216) jI_379_2215 rfl ?_
  refine jT_xiadd (x := 0) (y := 1) (z := 1) (pcN := 2217) jI_379_2216 rfl (by decide) rfl ?_
  refine jT_adv 1 (pcN := 2218) (LN := [(6, (0, 1)), (5, (0, 0)), (4, (4, 3)), (3, (4, 2)), (2, (4, 1)), (1, (4, 0)), (0, (6, 0))]) (stN := [(0, x1), (4, 1)]) (hsN := jpA_267) (c1 := 0) (s1 := 0) (c2 := 0) (s2 := 0) (by exact rfl) ?_ (by omega) (by omega)
  refine jT_fB [1, 15, 16, 17, 18, 19, 20, 21, 22, 23, 24, 25, 26, 27, 28, 29] 30 (y := 277) (pcN := 2221) (dC := 2) (bc1 := 0) (bc2 := 0) (c1 := 0) (c2 := 0) (as := [(4, 1), (0, x1)]) (asC := [(4, 0), (0, x1)]) (LN := [(6, (0, 1)), (5, (0, 0)), (4, (4, 3)), (3, (4, 2)), (2, (4, 1)), (1, (4, 0)), (0, (6, 0))]) (stN := []) (hsC := jpA_22) (hsD := jpA_20) (v := (0, 0)) (st2 := [(0, 0)]) (hs2 := jpA_306) (jA_277_858 (d := 0) (by omega)) (by rfl) (by rfl) (by decide +kernel) (by rfl) (by rfl) (by omega) (by omega) (by omega) (by omega) rfl (by decide +kernel) ?_
  refine jT_xistore (v := (0, 0)) (LN := [(7, (0, 0)), (6, (0, 1)), (5, (0, 0)), (4, (4, 3)), (3, (4, 2)), (2, (4, 1)), (1, (4, 0)), (0, (6, 0))]) (pcN := 2223) jI_379_2221 rfl rfl rfl rfl ?_
  refine jT_xaload_n (v := (4, 1)) (pcN := 2224) jI_379_2223 rfl rfl rfl ?_
  refine jT_fR [1, 15, 16, 17, 18, 19, 20, 21, 22, 23, 24, 25, 26, 27, 28, 29] 30 (y := 186) (pcN := 2227) (dC := 0) (bc1 := 0) (bc2 := 0) (c1 := 0) (c2 := 0) (as := [(4, 1)]) (asC := [(4, 0)]) (LN := [(7, (0, 0)), (6, (0, 1)), (5, (0, 0)), (4, (4, 3)), (3, (4, 2)), (2, (4, 1)), (1, (4, 0)), (0, (6, 0))]) (stN := []) (hsC := jpA_20) (v := (0, 1)) (st2 := [(0, 1)]) (jA_186_8 (d := 0)) (by rfl) (by rfl) (by decide +kernel) (by rfl) (by rfl) (by omega) (by omega) (by omega) (by omega) rfl ?_
  refine jT_xiload (v := (0, 1)) (pcN := 2229) jI_379_2227 rfl rfl rfl ?_
  refine jT_xicT (pcN := 2234) jI_379_2229 rfl (by decide +kernel) rfl ?_
  refine jT_xiload (v := (0, 1)) (pcN := 2236) jI_379_2234 rfl rfl rfl ?_
  refine jT_xifT (pcN := 2251) jI_379_2236 rfl (by decide +kernel) rfl ?_
  refine jT_xgoto (pcN := 3740) jI_379_2251 rfl ?_
  refine jT_xiinc (x := 0) (z := 5) (LN := [(5, (0, 5)), (7, (0, 0)), (6, (0, 1)), (4, (4, 3)), (3, (4, 2)), (2, (4, 1)), (1, (4, 0)), (0, (6, 0))]) (pcN := 3743) jI_379_3740 rfl rfl (by decide) rfl rfl ?_
  refine jT_xgoto (pcN := 28) jI_379_3743 rfl ?_
  refine jT_xiload (v := (0, 5)) (pcN := 30) jI_379_28 rfl rfl rfl ?_
  refine jT_xaload_n (v := (6, 0)) (pcN := 31) jI_379_30 rfl rfl rfl ?_
  refine jT_adv 1 (pcN := 32) (LN := [(5, (0, 5)), (7, (0, 0)), (6, (0, 1)), (4, (4, 3)), (3, (4, 2)), (2, (4, 1)), (1, (4, 0)), (0, (6, 0))]) (stN := [(0, 5), (0, 5)]) (hsN := jpA_306) (c1 := 0) (s1 := 0) (c2 := 0) (s2 := 0) (by exact rfl) ?_ (by omega) (by omega)
  refine jT_xiconst (k := 5) (pcN := 33) jI_379_32 rfl ?_
  refine jT_xisub (x := 5) (y := 5) (z := 0) (pcN := 34) jI_379_33 rfl (by decide) rfl ?_
  refine jT_xicT (pcN := 3746) jI_379_34 rfl (by decide +kernel) rfl ?_
  refine jT_xiconst (k := 1) (pcN := 3747) jI_379_3746 rfl ?_
  exact jT_ret rfl (by decide) (by show 30 ≤ 30; decide) (by omega) (by omega) ⟨rfl, rfl⟩
