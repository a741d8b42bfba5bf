/-! the law, case by case: 2 -/
theorem jI_115_0 : jmI (jm 115) 0 = (.iload_n 1, 1) := by rfl
theorem jI_115_1 : jmI (jm 115) 1 = (.ifCond .lt 8, 3) := by rfl
theorem jA_115_1 {xs : List Int} {d : Nat} {x1 : Int} (h_x1 : (-2147483648) ≤ x1 ∧ x1 ≤ (-1)) : jT xs d 115 1 0 [(0, (4, 0)), (1, (0, x1)), (2, (0, 8))] [] [jgh] 1 6 (fun k v hsN => k = 1 ∧ v = (0, 0) ∧ hsN = [jgh] ++ []) := by
  refine jT_xiload_n (v := (0, x1)) (pcN := 1) jI_115_0 rfl rfl rfl ?_
  refine jT_ifT (a := x1) (t := 9) (by rfl) (by rfl) (by rfl) (jw_idd (by omega) (by omega)) (by simp only [jcP] <;> omega) ?_
  exact jT_ret (c1 := 1) (s1 := 6) rfl (by decide) (by show 1 ≤ 1; decide) (by omega) (by omega) ⟨rfl, rfl, rfl⟩
theorem jI_119_0 : jmI (jm 119) 0 = (.aload_n 0, 1) := by rfl
theorem jI_119_1 : jmI (jm 119) 1 = (.iload_n 1, 1) := by rfl
theorem jI_119_2 : jmI (jm 119) 2 = (.bipush 8, 2) := by rfl
def jzA_5 : JC := (13, [(4, 1), (4, 2), (4, 3), (4, 4), (4, 5), (4, 6), (4, 7), (4, 8), (4, 9), (4, 10), (0, 0), (4, 11), (0, 0)], [])
def jpA_6 : List JC := [jzA_5, jgh, jgh, jgh, jgh, jgh, jgh, jgh, jgh, jgh, jgh, jgh]
theorem jA_119_2 {xs : List Int} {d : Nat} {x1 x2 x3 : Int} (h_x1 : (-2147483648) ≤ x1 ∧ x1 ≤ (-1)) (h_x2 : (-2147483648) ≤ x2 ∧ x2 ≤ 2147483647) (h_x3 : (-2147483648) ≤ x3 ∧ x3 ≤ 2147483647) : jT xs (d + 1) 119 12 0 [(0, (4, 0)), (1, (0, x1)), (2, (0, x2)), (3, (0, x3)), (4, (0, 1))] [] jpA_6 1 6 (fun k v hsN => k = 1 ∧ v = (0, 0) ∧ hsN = jpA_6 ++ []) := by
  refine jT_xaload_n (v := (4, 0)) (pcN := 1) jI_119_0 rfl rfl rfl ?_
  refine jT_xiload_n (v := (0, x1)) (pcN := 2) jI_119_1 rfl rfl rfl ?_
  refine jT_xbipush (k := 8) (pcN := 4) jI_119_2 (by decide) rfl ?_
  exact jT_fX [0] 12 (y := 115) (pcN := 7) (dC := 0) (bc1 := 1) (bc2 := 6) (as := [(4, 0), (0, x1), (0, 8)]) (asC := [(4, 0), (0, x1), (0, 8)]) (LN := [(0, (4, 0)), (1, (0, x1)), (2, (0, x2)), (3, (0, x3)), (4, (0, 1))]) (stN := []) (hsC := [jgh]) (e := 0) (jA_115_1 (d := 0) (by omega)) (by rfl) (by rfl) (by decide +kernel) (by rfl) (by rfl) (by omega) (by omega) (by omega) (by omega) ⟨rfl, ⟨rfl, rfl, rfl⟩⟩
theorem jI_328_0 : jmI (jm 328) 0 = (.aload 5, 2) := by rfl
theorem jI_328_2 : jmI (jm 328) 2 = (.iconst 0, 1) := by rfl
theorem jI_328_3 : jmI (jm 328) 3 = (.aload_n 0, 1) := by rfl
theorem jI_328_4 : jmI (jm 328) 4 = (.iload_n 1, 1) := by rfl
theorem jI_328_5 : jmI (jm 328) 5 = (.iload_n 2, 1) := by rfl
theorem jI_328_6 : jmI (jm 328) 6 = (.iload_n 3, 1) := by rfl
theorem jI_328_7 : jmI (jm 328) 7 = (.iload 4, 2) := by rfl
def jzA_14 : JC := (13, [(4, 2), (4, 3), (4, 4), (4, 5), (4, 6), (4, 7), (4, 8), (4, 9), (4, 10), (4, 11), (0, 0), (4, 12), (0, 0)], [])
def jpA_15 : List JC := [jzA_14, jgh, jgh, jgh, jgh, jgh, jgh, jgh, jgh, jgh, jgh, jgh, jgh]
theorem jA_328_3 {xs : List Int} {d : Nat} {x1 x2 x3 : Int} (h_x1 : (-2147483648) ≤ x1 ∧ x1 ≤ (-1)) (h_x2 : (-2147483648) ≤ x2 ∧ x2 ≤ 2147483647) (h_x3 : (-2147483648) ≤ x3 ∧ x3 ≤ 2147483647) : jT xs (d + 2) 328 13 0 [(0, (4, 0)), (1, (0, x1)), (2, (0, x2)), (3, (0, x3)), (4, (0, 1)), (5, (4, 1))] [] jpA_15 1 6 (fun k v hsN => k = 0 ∧ v = (0, 1) ∧ hsN = jpA_15 ++ []) := by
  refine jT_xaload (v := (4, 1)) (pcN := 2) jI_328_0 rfl rfl rfl ?_
  refine jT_xiconst (k := 0) (pcN := 3) jI_328_2 rfl ?_
  refine jT_xaload_n (v := (4, 0)) (pcN := 4) jI_328_3 rfl rfl rfl ?_
  refine jT_xiload_n (v := (0, x1)) (pcN := 5) jI_328_4 rfl rfl rfl ?_
  refine jT_xiload_n (v := (0, x2)) (pcN := 6) jI_328_5 rfl rfl rfl ?_
  refine jT_xiload_n (v := (0, x3)) (pcN := 7) jI_328_6 rfl rfl rfl ?_
  refine jT_xiload (v := (0, 1)) (pcN := 9) jI_328_7 rfl rfl rfl ?_
  exact jT_fX [0, 2, 3, 4, 5, 6, 7, 8, 9, 10, 11, 12] 13 (y := 119) (pcN := 12) (dC := 1) (bc1 := 1) (bc2 := 6) (as := [(4, 0), (0, x1), (0, x2), (0, x3), (0, 1)]) (asC := [(4, 0), (0, x1), (0, x2), (0, x3), (0, 1)]) (LN := [(0, (4, 0)), (1, (0, x1)), (2, (0, x2)), (3, (0, x3)), (4, (0, 1)), (5, (4, 1))]) (stN := [(0, 0), (4, 1)]) (hsC := jpA_6) (e := 0) (jA_119_2 (d := 0) (by omega) (by omega) (by omega)) (by rfl) (by rfl) (by decide +kernel) (by rfl) (by rfl) (by omega) (by omega) (by omega) (by omega) (show _ from ⟨rfl, rfl, rfl⟩)
theorem jI_188_0 : jmI (jm 188) 0 = (.iload_n 0, 1) := by rfl
theorem jI_188_1 : jmI (jm 188) 1 = (.i2l, 1) := by rfl
theorem jI_188_2 : jmI (jm 188) 2 = (.lconst 0, 1) := by rfl
theorem jA_188_4 {xs : List Int} {d : Nat} {x1 : Int} (h_x1 : (-2147483648) ≤ x1 ∧ x1 ≤ (-1)) : jT xs (d + 1) 188 0 0 [(0, (0, x1))] [] [] 0 0 (fun k v hsN => k = 0 ∧ v = (0, 0) ∧ hsN = [] ++ []) := by
  refine jT_xiload_n (v := (0, x1)) (pcN := 1) jI_188_0 rfl rfl rfl ?_
  refine jT_xi2l (x := x1) (z := x1) (pcN := 2) jI_188_1 rfl (jw_idd (by omega) (by omega)) rfl ?_
  refine jT_xlconst (z := 0) (pcN := 3) jI_188_2 rfl rfl ?_
  refine jT_adv 1 (pcN := 6) (LN := [(0, (0, x1))]) (stN := [(1, 7), (1, 0), (1, x1)]) (hsN := []) (c1 := 0) (s1 := 0) (c2 := 0) (s2 := 0) (by exact rfl) ?_ (by omega) (by omega)
  refine jT_fR [] 0 (y := 189) (pcN := 9) (dC := 0) (bc1 := 0) (bc2 := 0) (c1 := 0) (c2 := 0) (as := [(1, x1), (1, 0), (1, 7)]) (asC := [(1, x1), (1, 0), (1, 7)]) (LN := [(0, (0, x1))]) (stN := []) (hsC := []) (v := (0, 0)) (st2 := [(0, 0)]) (jT_in_lo (d := 0) (v := x1) (lo := 0) (hi := 7) (by omega) (by omega) (by omega) (by omega)) (by rfl) (by rfl) (by decide +kernel) (by rfl) (by rfl) (by omega) (by omega) (by omega) (by omega) rfl ?_
  exact jT_ret rfl (by decide) (by show 0 ≤ 0; decide) (by omega) (by omega) ⟨rfl, rfl, rfl⟩
def jzA_19 : JC := (14, [(0, 1), (4, 1), (4, 2), (4, 3), (4, 4), (0, 0), (4, 5), (0, 0), (4, 6), (4, 7), (1, 1), (4, 8), (0, 0), (4, 9), (0, 0), (0, 0), (0, 0), (0, 0), (0, 0), (0, 0), (0, 0), (4, 10), (4, 11), (4, 12), (4, 13), (4, 14), (4, 15), (0, 0)], [])
def jpA_20 : List JC := [jzA_19, jgh, jgh, jgh, jgh, jgh, jgh, jgh, jgh, jgh, jgh, jgh, jgh, jgh, jgh, jgh]
def jzA_21 : JC := (14, [(0, 0), (4, 1), (4, 2), (4, 3), (4, 4), (0, 0), (4, 5), (0, 0), (4, 6), (4, 7), (1, 1), (4, 8), (0, 0), (4, 9), (0, 0), (0, 0), (0, 0), (0, 0), (0, 0), (0, 0), (0, 0), (4, 10), (4, 11), (4, 12), (4, 13), (4, 14), (4, 15), (0, 0)], [])
def jpA_22 : List JC := [jzA_21, jgh, jgh, jgh, jgh, jgh, jgh, jgh, jgh, jgh, jgh, jgh, jgh, jgh, jgh, jgh]
theorem jA_191_5 {xs : List Int} {d : Nat} : jT xs d 191 16 0 [(0, (4, 0)), (1, (0, 0)), (2, (0, 1))] [] jpA_22 0 0 (fun k v hsN => k = 0 ∧ v = (0, 1) ∧ hsN = jpA_20) := by
  refine jT_advK 9 (pcN := 18) (LN := [(0, (4, 0)), (1, (0, 0)), (2, (0, 1))]) (stN := [(0, 1)]) (hsN := jpA_20) (c1 := 0) (s1 := 0) (c2 := 0) (s2 := 0) (by decide +kernel) ?_ (by omega) (by omega)
  exact jT_ret rfl (by decide) (by show 16 ≤ 16; decide) (by omega) (by omega) ⟨rfl, rfl, rfl⟩
theorem jA_190_6 {xs : List Int} {d : Nat} : jT xs (d + 1) 190 16 0 [(0, (4, 0)), (1, (0, 0))] [] jpA_22 0 0 (fun k v hsN => k = 0 ∧ v = (0, 1) ∧ hsN = jpA_20) := by
  refine jT_advK 6 (pcN := 8) (LN := [(0, (4, 0)), (1, (0, 0))]) (stN := [(0, 1), (0, 0), (4, 0)]) (hsN := jpA_22) (c1 := 0) (s1 := 0) (c2 := 0) (s2 := 0) (by decide +kernel) ?_ (by omega) (by omega)
  refine jT_fB [0, 1, 2, 3, 4, 5, 6, 7, 8, 9, 10, 11, 12, 13, 14, 15] 16 (y := 191) (pcN := 11) (dC := 0) (bc1 := 0) (bc2 := 0) (c1 := 0) (c2 := 0) (as := [(4, 0), (0, 0), (0, 1)]) (asC := [(4, 0), (0, 0), (0, 1)]) (LN := [(0, (4, 0)), (1, (0, 0))]) (stN := []) (hsC := jpA_22) (hsD := jpA_20) (v := (0, 1)) (st2 := [(0, 1)]) (hs2 := jpA_20) (jA_191_5 (d := 0)) (by rfl) (by rfl) (by decide +kernel) (by rfl) (by rfl) (by omega) (by omega) (by omega) (by omega) rfl (by decide +kernel) ?_
  exact jT_ret rfl (by decide) (by show 16 ≤ 16; decide) (by omega) (by omega) ⟨rfl, rfl, rfl⟩
theorem jI_201_0 : jmI (jm 201) 0 = (.aload_n 0, 1) := by rfl
theorem jI_201_1 : jmI (jm 201) 1 = (.iload_n 1, 1) := by rfl
theorem jI_201_5 : jmI (jm 201) 5 = (.ifCond .eq 21, 3) := by rfl
theorem jI_201_26 : jmI (jm 201) 26 = (.iconst 0, 1) := by rfl
theorem jI_201_30 : jmI (jm 201) 30 = (.ifCond .eq 5, 3) := by rfl
theorem jI_201_33 : jmI (jm 201) 33 = (.iconst 0, 1) := by rfl
theorem jA_201_7 {xs : List Int} {d : Nat} {x1 x2 x3 : Int} (h_x1 : (-2147483648) ≤ x1 ∧ x1 ≤ (-1)) (h_x2 : (-2147483648) ≤ x2 ∧ x2 ≤ 2147483647) (h_x3 : (-2147483648) ≤ x3 ∧ x3 ≤ 2147483647) : jT xs (d + 2) 201 16 0 [(0, (4, 0)), (1, (0, x1)), (2, (0, x2)), (3, (0, x3)), (4, (0, 1))] [] jpA_22 0 0 (fun k v hsN => k = 0 ∧ v = (0, 0) ∧ hsN = jpA_20) := by
  refine jT_xaload_n (v := (4, 0)) (pcN := 1) jI_201_0 rfl rfl rfl ?_
  refine jT_xiload_n (v := (0, x1)) (pcN := 2) jI_201_1 rfl rfl rfl ?_
  refine jT_fR [] 16 (y := 188) (pcN := 5) (dC := 1) (bc1 := 0) (bc2 := 0) (c1 := 0) (c2 := 0) (as := [(0, x1)]) (asC := [(0, x1)]) (LN := [(0, (4, 0)), (1, (0, x1)), (2, (0, x2)), (3, (0, x3)), (4, (0, 1))]) (stN := [(4, 0)]) (hsC := []) (v := (0, 0)) (st2 := [(0, 0), (4, 0)]) (jA_188_4 (d := 0) (by omega)) (by rfl) (by rfl) (by decide +kernel) (by rfl) (by rfl) (by omega) (by omega) (by omega) (by omega) rfl ?_
  refine jT_xifT (pcN := 26) jI_201_5 rfl (by decide +kernel) rfl ?_
  refine jT_xiconst (k := 0) (pcN := 27) jI_201_26 rfl ?_
  refine jT_fB [0, 1, 2, 3, 4, 5, 6, 7, 8, 9, 10, 11, 12, 13, 14, 15] 16 (y := 190) (pcN := 30) (dC := 1) (bc1 := 0) (bc2 := 0) (c1 := 0) (c2 := 0) (as := [(4, 0), (0, 0)]) (asC := [(4, 0), (0, 0)]) (LN := [(0, (4, 0)), (1, (0, x1)), (2, (0, x2)), (3, (0, x3)), (4, (0, 1))]) (stN := []) (hsC := jpA_22) (hsD := jpA_20) (v := (0, 1)) (st2 := [(0, 1)]) (hs2 := jpA_20) (jA_190_6 (d := 0)) (by rfl) (by rfl) (by decide +kernel) (by rfl) (by rfl) (by omega) (by omega) (by omega) (by omega) rfl (by decide +kernel) ?_
  refine jT_xifF (t := 35) (pcN := 33) jI_201_30 rfl (by decide +kernel) rfl rfl ?_
  refine jT_xiconst (k := 0) (pcN := 34) jI_201_33 rfl ?_
  exact jT_ret rfl (by decide) (by show 16 ≤ 16; decide) (by omega) (by omega) ⟨rfl, rfl, rfl⟩
theorem jA_186_8 {xs : List Int} {d : Nat} : jT xs d 186 16 0 [(0, (4, 0))] [] jpA_20 0 0 (fun k v hsN => k = 0 ∧ v = (0, 1) ∧ hsN = jpA_20 ++ []) := by
  refine jT_advK 2 (pcN := 4) (LN := [(0, (4, 0))]) (stN := [(0, 1)]) (hsN := jpA_20) (c1 := 0) (s1 := 0) (c2 := 0) (s2 := 0) (by decide +kernel) ?_ (by omega) (by omega)
  exact jT_ret rfl (by decide) (by show 16 ≤ 16; decide) (by omega) (by omega) ⟨rfl, rfl, rfl⟩
theorem jI_115_4 : jmI (jm 115) 4 = (.iload_n 1, 1) := by rfl
theorem jI_115_5 : jmI (jm 115) 5 = (.iload_n 2, 1) := by rfl
theorem jI_115_6 : jmI (jm 115) 6 = (.if_icmp .lt 14, 3) := by rfl
theorem jA_115_9 {xs : List Int} {d : Nat} {x1 : Int} (h_x1 : 0 ≤ x1 ∧ x1 ≤ 7) : jT xs d 115 1 0 [(0, (4, 0)), (1, (0, x1)), (2, (0, 8))] [] [jgh] 0 0 (fun k v hsN => k = 0 ∧ v = (9, 0) ∧ hsN = [jgh] ++ []) := by
  refine jT_xiload_n (v := (0, x1)) (pcN := 1) jI_115_0 rfl rfl rfl ?_
  refine jT_ifF (a := x1) (t := 9) (by rfl) (by rfl) (by rfl) (jw_idd (by omega) (by omega)) (by simp only [jcP] <;> omega) ?_
  refine jT_xiload_n (v := (0, x1)) (pcN := 5) jI_115_4 rfl rfl rfl ?_
  refine jT_xiload_n (v := (0, 8)) (pcN := 6) jI_115_5 rfl rfl rfl ?_
  refine jT_icT (a := x1) (b := 8) (t := 20) (by rfl) (by rfl) (by rfl) (jw_idd (by omega) (by omega)) (jw_idd (by omega) (by omega)) (by simp only [jcP] <;> omega) ?_
  exact jT_ret rfl (by decide) (by show 1 ≤ 1; decide) (by omega) (by omega) ⟨rfl, rfl, rfl⟩
theorem jA_115_10 {xs : List Int} {d : Nat} {x2 : Int} (h_x2 : (-2147483648) ≤ x2 ∧ x2 ≤ (-1)) : jT xs d 115 1 0 [(0, (4, 0)), (1, (0, x2)), (2, (0, 8))] [] [jgh] 1 6 (fun k v hsN => k = 1 ∧ v = (0, 0) ∧ hsN = [jgh] ++ []) := by
  refine jT_xiload_n (v := (0, x2)) (pcN := 1) jI_115_0 rfl rfl rfl ?_
  refine jT_ifT (a := x2) (t := 9) (by rfl) (by rfl) (by rfl) (jw_idd (by omega) (by omega)) (by simp only [jcP] <;> omega) ?_
  exact jT_ret (c1 := 1) (s1 := 6) rfl (by decide) (by show 1 ≤ 1; decide) (by omega) (by omega) ⟨rfl, rfl, rfl⟩
theorem jI_119_7 : jmI (jm 119) 7 = (.aload_n 0, 1) := by rfl
theorem jI_119_8 : jmI (jm 119) 8 = (.iload_n 2, 1) := by rfl
theorem jI_119_9 : jmI (jm 119) 9 = (.bipush 8, 2) := by rfl
theorem jA_119_11 {xs : List Int} {d : Nat} {x1 x2 x3 : Int} (h_x1 : 0 ≤ x1 ∧ x1 ≤ 7) (h_x2 : (-2147483648) ≤ x2 ∧ x2 ≤ (-1)) (h_x3 : (-2147483648) ≤ x3 ∧ x3 ≤ 2147483647) : jT xs (d + 1) 119 12 0 [(0, (4, 0)), (1, (0, x1)), (2, (0, x2)), (3, (0, x3)), (4, (0, 1))] [] jpA_6 1 6 (fun k v hsN => k = 1 ∧ v = (0, 0) ∧ hsN = jpA_6 ++ []) := by
  refine jT_xaload_n (v := (4, 0)) (pcN := 1) jI_119_0 rfl rfl rfl ?_
  refine jT_xiload_n (v := (0, x1)) (pcN := 2) jI_119_1 rfl rfl rfl ?_
  refine jT_xbipush (k := 8) (pcN := 4) jI_119_2 (by decide) rfl ?_
  refine jT_fR [0] 12 (y := 115) (pcN := 7) (dC := 0) (bc1 := 0) (bc2 := 0) (c1 := 1) (c2 := 6) (as := [(4, 0), (0, x1), (0, 8)]) (asC := [(4, 0), (0, x1), (0, 8)]) (LN := [(0, (4, 0)), (1, (0, x1)), (2, (0, x2)), (3, (0, x3)), (4, (0, 1))]) (stN := []) (hsC := [jgh]) (v := (9, 0)) (st2 := []) (jA_115_9 (d := 0) (by omega)) (by rfl) (by rfl) (by decide +kernel) (by rfl) (by rfl) (by omega) (by omega) (by omega) (by omega) rfl ?_
  refine jT_xaload_n (v := (4, 0)) (pcN := 8) jI_119_7 rfl rfl rfl ?_
  refine jT_xiload_n (v := (0, x2)) (pcN := 9) jI_119_8 rfl rfl rfl ?_
  refine jT_xbipush (k := 8) (pcN := 11) jI_119_9 (by decide) rfl ?_
  exact jT_fX [0] 12 (y := 115) (pcN := 14) (dC := 0) (bc1 := 1) (bc2 := 6) (as := [(4, 0), (0, x2), (0, 8)]) (asC := [(4, 0), (0, x2), (0, 8)]) (LN := [(0, (4, 0)), (1, (0, x1)), (2, (0, x2)), (3, (0, x3)), (4, (0, 1))]) (stN := []) (hsC := [jgh]) (e := 0) (jA_115_10 (d := 0) (by omega)) (by rfl) (by rfl) (by decide +kernel) (by rfl) (by rfl) (by omega) (by omega) (by omega) (by omega) ⟨rfl, ⟨rfl, rfl, rfl⟩⟩
theorem jA_328_12 {xs : List Int} {d : Nat} {x1 x2 x3 : Int} (h_x1 : 0 ≤ x1 ∧ x1 ≤ 7) (h_x2 : (-2147483648) ≤ x2 ∧ x2 ≤ (-1)) (h_x3 : (-2147483648) ≤ x3 ∧ x3 ≤ 2147483647) : jT xs (d + 2) 328 13 0 [(0, (4, 0)), (1, (0, x1)), (2, (0, x2)), (3, (0, x3)), (4, (0, 1)), (5, (4, 1))] [] jpA_15 1 6 (fun k v hsN => k = 0 ∧ v = (0, 1) ∧ hsN = jpA_15 ++ []) := by
  refine jT_xaload (v := (4, 1)) (pcN := 2) jI_328_0 rfl rfl rfl ?_
  refine jT_xiconst (k := 0) (pcN := 3) jI_328_2 rfl ?_
  refine jT_xaload_n (v := (4, 0)) (pcN := 4) jI_328_3 rfl rfl rfl ?_
  refine jT_xiload_n (v := (0, x1)) (pcN := 5) jI_328_4 rfl rfl rfl ?_
  refine jT_xiload_n (v := (0, x2)) (pcN := 6) jI_328_5 rfl rfl rfl ?_
  refine jT_xiload_n (v := (0, x3)) (pcN := 7) jI_328_6 rfl rfl rfl ?_
  refine jT_xiload (v := (0, 1)) (pcN := 9) jI_328_7 rfl rfl rfl ?_
  exact jT_fX [0, 2, 3, 4, 5, 6, 7, 8, 9, 10, 11, 12] 13 (y := 119) (pcN := 12) (dC := 1) (bc1 := 1) (bc2 := 6) (as := [(4, 0), (0, x1), (0, x2), (0, x3), (0, 1)]) (asC := [(4, 0), (0, x1), (0, x2), (0, x3), (0, 1)]) (LN := [(0, (4, 0)), (1, (0, x1)), (2, (0, x2)), (3, (0, x3)), (4, (0, 1)), (5, (4, 1))]) (stN := [(0, 0), (4, 1)]) (hsC := jpA_6) (e := 0) (jA_119_11 (d := 0) (by omega) (by omega) (by omega)) (by rfl) (by rfl) (by decide +kernel) (by rfl) (by rfl) (by omega) (by omega) (by omega) (by omega) (show _ from ⟨rfl, rfl, rfl⟩)
theorem jA_188_13 {xs : List Int} {d : Nat} {x1 : Int} (h_x1 : 0 ≤ x1 ∧ x1 ≤ 7) : jT xs (d + 1) 188 0 0 [(0, (0, x1))] [] [] 0 0 (fun k v hsN => k = 0 ∧ v = (0, 1) ∧ hsN = [] ++ []) := by
  refine jT_xiload_n (v := (0, x1)) (pcN := 1) jI_188_0 rfl rfl rfl ?_
  refine jT_xi2l (x := x1) (z := x1) (pcN := 2) jI_188_1 rfl (jw_idd (by omega) (by omega)) rfl ?_
  refine jT_xlconst (z := 0) (pcN := 3) jI_188_2 rfl rfl ?_
  refine jT_adv 1 (pcN := 6) (LN := [(0, (0, x1))]) (stN := [(1, 7), (1, 0), (1, x1)]) (hsN := []) (c1 := 0) (s1 := 0) (c2 := 0) (s2 := 0) (by exact rfl) ?_ (by omega) (by omega)
  refine jT_fR [] 0 (y := 189) (pcN := 9) (dC := 0) (bc1 := 0) (bc2 := 0) (c1 := 0) (c2 := 0) (as := [(1, x1), (1, 0), (1, 7)]) (asC := [(1, x1), (1, 0), (1, 7)]) (LN := [(0, (0, x1))]) (stN := []) (hsC := []) (v := (0, 1)) (st2 := [(0, 1)]) (jT_in_ok (d := 0) (v := x1) (lo := 0) (hi := 7) (by omega) (by omega) (by omega) (by omega) (by omega)) (by rfl) (by rfl) (by decide +kernel) (by rfl) (by rfl) (by omega) (by omega) (by omega) (by omega) rfl ?_
  exact jT_ret rfl (by decide) (by show 0 ≤ 0; decide) (by omega) (by omega) ⟨rfl, rfl, rfl⟩
theorem jA_188_14 {xs : List Int} {d : Nat} {x2 : Int} (h_x2 : (-2147483648) ≤ x2 ∧ x2 ≤ (-1)) : jT xs (d + 1) 188 0 0 [(0, (0, x2))] [] [] 0 0 (fun k v hsN => k = 0 ∧ v = (0, 0) ∧ hsN = [] ++ []) := by
  refine jT_xiload_n (v := (0, x2)) (pcN := 1) jI_188_0 rfl rfl rfl ?_
  refine jT_xi2l (x := x2) (z := x2) (pcN := 2) jI_188_1 rfl (jw_idd (by omega) (by omega)) rfl ?_
  refine jT_xlconst (z := 0) (pcN := 3) jI_188_2 rfl rfl ?_
  refine jT_adv 1 (pcN := 6) (LN := [(0, (0, x2))]) (stN := [(1, 7), (1, 0), (1, x2)]) (hsN := []) (c1 := 0) (s1 := 0) (c2 := 0) (s2 := 0) (by exact rfl) ?_ (by omega) (by omega)
  refine jT_fR [] 0 (y := 189) (pcN := 9) (dC := 0) (bc1 := 0) (bc2 := 0) (c1 := 0) (c2 := 0) (as := [(1, x2), (1, 0), (1, 7)]) (asC := [(1, x2), (1, 0), (1, 7)]) (LN := [(0, (0, x2))]) (stN := []) (hsC := []) (v := (0, 0)) (st2 := [(0, 0)]) (jT_in_lo (d := 0) (v := x2) (lo := 0) (hi := 7) (by omega) (by omega) (by omega) (by omega)) (by rfl) (by rfl) (by decide +kernel) (by rfl) (by rfl) (by omega) (by omega) (by omega) (by omega) rfl ?_
  exact jT_ret rfl (by decide) (by show 0 ≤ 0; decide) (by omega) (by omega) ⟨rfl, rfl, rfl⟩
theorem jI_201_8 : jmI (jm 201) 8 = (.iload_n 2, 1) := by rfl
theorem jI_201_12 : jmI (jm 201) 12 = (.ifCond .eq 14, 3) := by rfl
theorem jA_201_15 {xs : List Int} {d : Nat} {x1 x2 x3 : Int} (h_x1 : 0 ≤ x1 ∧ x1 ≤ 7) (h_x2 : (-2147483648) ≤ x2 ∧ x2 ≤ (-1)) (h_x3 : (-2147483648) ≤ x3 ∧ x3 ≤ 2147483647) : jT xs (d + 2) 201 16 0 [(0, (4, 0)), (1, (0, x1)), (2, (0, x2)), (3, (0, x3)), (4, (0, 1))] [] jpA_22 0 0 (fun k v hsN => k = 0 ∧ v = (0, 0) ∧ hsN = jpA_20) := by
  refine jT_xaload_n (v := (4, 0)) (pcN := 1) jI_201_0 rfl rfl rfl ?_
  refine jT_xiload_n (v := (0, x1)) (pcN := 2) jI_201_1 rfl rfl rfl ?_
  refine jT_fR [] 16 (y := 188) (pcN := 5) (dC := 1) (bc1 := 0) (bc2 := 0) (c1 := 0) (c2 := 0) (as := [(0, x1)]) (asC := [(0, x1)]) (LN := [(0, (4, 0)), (1, (0, x1)), (2, (0, x2)), (3, (0, x3)), (4, (0, 1))]) (stN := [(4, 0)]) (hsC := []) (v := (0, 1)) (st2 := [(0, 1), (4, 0)]) (jA_188_13 (d := 0) (by omega)) (by rfl) (by rfl) (by decide +kernel) (by rfl) (by rfl) (by omega) (by omega) (by omega) (by omega) rfl ?_
  refine jT_xifF (t := 26) (pcN := 8) jI_201_5 rfl (by decide +kernel) rfl rfl ?_
  refine jT_xiload_n (v := (0, x2)) (pcN := 9) jI_201_8 rfl rfl rfl ?_
  refine jT_fR [] 16 (y := 188) (pcN := 12) (dC := 1) (bc1 := 0) (bc2 := 0) (c1 := 0) (c2 := 0) (as := [(0, x2)]) (asC := [(0, x2)]) (LN := [(0, (4, 0)), (1, (0, x1)), (2, (0, x2)), (3, (0, x3)), (4, (0, 1))]) (stN := [(4, 0)]) (hsC := []) (v := (0, 0)) (st2 := [(0, 0), (4, 0)]) (jA_188_14 (d := 0) (by omega)) (by rfl) (by rfl) (by decide +kernel) (by rfl) (by rfl) (by omega) (by omega) (by omega) (by omega) rfl ?_
  refine jT_xifT (pcN := 26) jI_201_12 rfl (by decide +kernel) rfl ?_
  refine jT_xiconst (k := 0) (pcN := 27) jI_201_26 rfl ?_
  refine jT_fB [0, 1, 2, 3, 4, 5, 6, 7, 8, 9, 10, 11, 12, 13, 14, 15] 16 (y := 190) (pcN := 30) (dC := 1) (bc1 := 0) (bc2 := 0) (c1 := 0) (c2 := 0) (as := [(4, 0), (0, 0)]) (asC := [(4, 0), (0, 0)]) (LN := [(0, (4, 0)), (1, (0, x1)), (2, (0, x2)), (3, (0, x3)), (4, (0, 1))]) (stN := []) (hsC := jpA_22) (hsD := jpA_20) (v := (0, 1)) (st2 := [(0, 1)]) (hs2 := jpA_20) (jA_190_6 (d := 0)) (by rfl) (by rfl) (by decide +kernel) (by rfl) (by rfl) (by omega) (by omega) (by omega) (by omega) rfl (by decide +kernel) ?_
  refine jT_xifF (t := 35) (pcN := 33) jI_201_30 rfl (by decide +kernel) rfl rfl ?_
  refine jT_xiconst (k := 0) (pcN := 34) jI_201_33 rfl ?_
  exact jT_ret rfl (by decide) (by show 16 ≤ 16; decide) (by omega) (by omega) ⟨rfl, rfl, rfl⟩
theorem jA_115_16 {xs : List Int} {d : Nat} {x2 : Int} (h_x2 : 0 ≤ x2 ∧ x2 ≤ 7) : jT xs d 115 1 0 [(0, (4, 0)), (1, (0, x2)), (2, (0, 8))] [] [jgh] 0 0 (fun k v hsN => k = 0 ∧ v = (9, 0) ∧ hsN = [jgh] ++ []) := by
  refine jT_xiload_n (v := (0, x2)) (pcN := 1) jI_115_0 rfl rfl rfl ?_
  refine jT_ifF (a := x2) (t := 9) (by rfl) (by rfl) (by rfl) (jw_idd (by omega) (by omega)) (by simp only [jcP] <;> omega) ?_
  refine jT_xiload_n (v := (0, x2)) (pcN := 5) jI_115_4 rfl rfl rfl ?_
  refine jT_xiload_n (v := (0, 8)) (pcN := 6) jI_115_5 rfl rfl rfl ?_
  refine jT_icT (a := x2) (b := 8) (t := 20) (by rfl) (by rfl) (by rfl) (jw_idd (by omega) (by omega)) (jw_idd (by omega) (by omega)) (by simp only [jcP] <;> omega) ?_
  exact jT_ret rfl (by decide) (by show 1 ≤ 1; decide) (by omega) (by omega) ⟨rfl, rfl, rfl⟩
theorem jA_115_17 {xs : List Int} {d : Nat} {x3 : Int} (h_x3 : (-2147483648) ≤ x3 ∧ x3 ≤ (-1)) : jT xs d 115 1 0 [(0, (4, 0)), (1, (0, x3)), (2, (0, 8))] [] [jgh] 1 6 (fun k v hsN => k = 1 ∧ v = (0, 0) ∧ hsN = [jgh] ++ []) := by
  refine jT_xiload_n (v := (0, x3)) (pcN := 1) jI_115_0 rfl rfl rfl ?_
  refine jT_ifT (a := x3) (t := 9) (by rfl) (by rfl) (by rfl) (jw_idd (by omega) (by omega)) (by simp only [jcP] <;> omega) ?_
  exact jT_ret (c1 := 1) (s1 := 6) rfl (by decide) (by show 1 ≤ 1; decide) (by omega) (by omega) ⟨rfl, rfl, rfl⟩
theorem jI_119_14 : jmI (jm 119) 14 = (.aload_n 0, 1) := by rfl
theorem jI_119_15 : jmI (jm 119) 15 = (.iload_n 3, 1) := by rfl
theorem jI_119_16 : jmI (jm 119) 16 = (.bipush 8, 2) := by rfl
theorem jA_119_18 {xs : List Int} {d : Nat} {x1 x2 x3 : Int} (h_x1 : 0 ≤ x1 ∧ x1 ≤ 7) (h_x2 : 0 ≤ x2 ∧ x2 ≤ 7) (h_x3 : (-2147483648) ≤ x3 ∧ x3 ≤ (-1)) : jT xs (d + 1) 119 12 0 [(0, (4, 0)), (1, (0, x1)), (2, (0, x2)), (3, (0, x3)), (4, (0, 1))] [] jpA_6 1 6 (fun k v hsN => k = 1 ∧ v = (0, 0) ∧ hsN = jpA_6 ++ []) := by
  refine jT_xaload_n (v := (4, 0)) (pcN := 1) jI_119_0 rfl rfl rfl ?_
  refine jT_xiload_n (v := (0, x1)) (pcN := 2) jI_119_1 rfl rfl rfl ?_
  refine jT_xbipush (k := 8) (pcN := 4) jI_119_2 (by decide) rfl ?_
  refine jT_fR [0] 12 (y := 115) (pcN := 7) (dC := 0) (bc1 := 0) (bc2 := 0) (c1 := 1) (c2 := 6) (as := [(4, 0), (0, x1), (0, 8)]) (asC := [(4, 0), (0, x1), (0, 8)]) (LN := [(0, (4, 0)), (1, (0, x1)), (2, (0, x2)), (3, (0, x3)), (4, (0, 1))]) (stN := []) (hsC := [jgh]) (v := (9, 0)) (st2 := []) (jA_115_9 (d := 0) (by omega)) (by rfl) (by rfl) (by decide +kernel) (by rfl) (by rfl) (by omega) (by omega) (by omega) (by omega) rfl ?_
  refine jT_xaload_n (v := (4, 0)) (pcN := 8) jI_119_7 rfl rfl rfl ?_
  refine jT_xiload_n (v := (0, x2)) (pcN := 9) jI_119_8 rfl rfl rfl ?_
  refine jT_xbipush (k := 8) (pcN := 11) jI_119_9 (by decide) rfl ?_
  refine jT_fR [0] 12 (y := 115) (pcN := 14) (dC := 0) (bc1 := 0) (bc2 := 0) (c1 := 1) (c2 := 6) (as := [(4, 0), (0, x2), (0, 8)]) (asC := [(4, 0), (0, x2), (0, 8)]) (LN := [(0, (4, 0)), (1, (0, x1)), (2, (0, x2)), (3, (0, x3)), (4, (0, 1))]) (stN := []) (hsC := [jgh]) (v := (9, 0)) (st2 := []) (jA_115_16 (d := 0) (by omega)) (by rfl) (by rfl) (by decide +kernel) (by rfl) (by rfl) (by omega) (by omega) (by omega) (by omega) rfl ?_
  refine jT_xaload_n (v := (4, 0)) (pcN := 15) jI_119_14 rfl rfl rfl ?_
  refine jT_xiload_n (v := (0, x3)) (pcN := 16) jI_119_15 rfl rfl rfl ?_
  refine jT_xbipush (k := 8) (pcN := 18) jI_119_16 (by decide) rfl ?_
  exact jT_fX [0] 12 (y := 115) (pcN := 21) (dC := 0) (bc1 := 1) (bc2 := 6) (as := [(4, 0), (0, x3), (0, 8)]) (asC := [(4, 0), (0, x3), (0, 8)]) (LN := [(0, (4, 0)), (1, (0, x1)), (2, (0, x2)), (3, (0, x3)), (4, (0, 1))]) (stN := []) (hsC := [jgh]) (e := 0) (jA_115_17 (d := 0) (by omega)) (by rfl) (by rfl) (by decide +kernel) (by rfl) (by rfl) (by omega) (by omega) (by omega) (by omega) ⟨rfl, ⟨rfl, rfl, rfl⟩⟩
theorem jA_328_19 {xs : List Int} {d : Nat} {x1 x2 x3 : Int} (h_x1 : 0 ≤ x1 ∧ x1 ≤ 7) (h_x2 : 0 ≤ x2 ∧ x2 ≤ 7) (h_x3 : (-2147483648) ≤ x3 ∧ x3 ≤ (-1)) : jT xs (d + 2) 328 13 0 [(0, (4, 0)), (1, (0, x1)), (2, (0, x2)), (3, (0, x3)), (4, (0, 1)), (5, (4, 1))] [] jpA_15 1 6 (fun k v hsN => k = 0 ∧ v = (0, 1) ∧ hsN = jpA_15 ++ []) := by
  refine jT_xaload (v := (4, 1)) (pcN := 2) jI_328_0 rfl rfl rfl ?_
  refine jT_xiconst (k := 0) (pcN := 3) jI_328_2 rfl ?_
  refine jT_xaload_n (v := (4, 0)) (pcN := 4) jI_328_3 rfl rfl rfl ?_
  refine jT_xiload_n (v := (0, x1)) (pcN := 5) jI_328_4 rfl rfl rfl ?_
  refine jT_xiload_n (v := (0, x2)) (pcN := 6) jI_328_5 rfl rfl rfl ?_
  refine jT_xiload_n (v := (0, x3)) (pcN := 7) jI_328_6 rfl rfl rfl ?_
  refine jT_xiload (v := (0, 1)) (pcN := 9) jI_328_7 rfl rfl rfl ?_
  exact jT_fX [0, 2, 3, 4, 5, 6, 7, 8, 9, 10, 11, 12] 13 (y := 119) (pcN := 12) (dC := 1) (bc1 := 1) (bc2 := 6) (as := [(4, 0), (0, x1), (0, x2), (0, x3), (0, 1)]) (asC := [(4, 0), (0, x1), (0, x2), (0, x3), (0, 1)]) (LN := [(0, (4, 0)), (1, (0, x1)), (2, (0, x2)), (3, (0, x3)), (4, (0, 1)), (5, (4, 1))]) (stN := [(0, 0), (4, 1)]) (hsC := jpA_6) (e := 0) (jA_119_18 (d := 0) (by omega) (by omega) (by omega)) (by rfl) (by rfl) (by decide +kernel) (by rfl) (by rfl) (by omega) (by omega) (by omega) (by omega) (show _ from ⟨rfl, rfl, rfl⟩)
theorem jA_188_20 {xs : List Int} {d : Nat} {x2 : Int} (h_x2 : 0 ≤ x2 ∧ x2 ≤ 7) : jT xs (d + 1) 188 0 0 [(0, (0, x2))] [] [] 0 0 (fun k v hsN => k = 0 ∧ v = (0, 1) ∧ hsN = [] ++ []) := by
  refine jT_xiload_n (v := (0, x2)) (pcN := 1) jI_188_0 rfl rfl rfl ?_
  refine jT_xi2l (x := x2) (z := x2) (pcN := 2) jI_188_1 rfl (jw_idd (by omega) (by omega)) rfl ?_
  refine jT_xlconst (z := 0) (pcN := 3) jI_188_2 rfl rfl ?_
  refine jT_adv 1 (pcN := 6) (LN := [(0, (0, x2))]) (stN := [(1, 7), (1, 0), (1, x2)]) (hsN := []) (c1 := 0) (s1 := 0) (c2 := 0) (s2 := 0) (by exact rfl) ?_ (by omega) (by omega)
  refine jT_fR [] 0 (y := 189) (pcN := 9) (dC := 0) (bc1 := 0) (bc2 := 0) (c1 := 0) (c2 := 0) (as := [(1, x2), (1, 0), (1, 7)]) (asC := [(1, x2), (1, 0), (1, 7)]) (LN := [(0, (0, x2))]) (stN := []) (hsC := []) (v := (0, 1)) (st2 := [(0, 1)]) (jT_in_ok (d := 0) (v := x2) (lo := 0) (hi := 7) (by omega) (by omega) (by omega) (by omega) (by omega)) (by rfl) (by rfl) (by decide +kernel) (by rfl) (by rfl) (by omega) (by omega) (by omega) (by omega) rfl ?_
  exact jT_ret rfl (by decide) (by show 0 ≤ 0; decide) (by omega) (by omega) ⟨rfl, rfl, rfl⟩
theorem jA_188_21 {xs : List Int} {d : Nat} {x3 : Int} (h_x3 : (-2147483648) ≤ x3 ∧ x3 ≤ (-1)) : jT xs (d + 1) 188 0 0 [(0, (0, x3))] [] [] 0 0 (fun k v hsN => k = 0 ∧ v = (0, 0) ∧ hsN = [] ++ []) := by
  refine jT_xiload_n (v := (0, x3)) (pcN := 1) jI_188_0 rfl rfl rfl ?_
  refine jT_xi2l (x := x3) (z := x3) (pcN := 2) jI_188_1 rfl (jw_idd (by omega) (by omega)) rfl ?_
  refine jT_xlconst (z := 0) (pcN := 3) jI_188_2 rfl rfl ?_
  refine jT_adv 1 (pcN := 6) (LN := [(0, (0, x3))]) (stN := [(1, 7), (1, 0), (1, x3)]) (hsN := []) (c1 := 0) (s1 := 0) (c2 := 0) (s2 := 0) (by exact rfl) ?_ (by omega) (by omega)
  refine jT_fR [] 0 (y := 189) (pcN := 9) (dC := 0) (bc1 := 0) (bc2 := 0) (c1 := 0) (c2 := 0) (as := [(1, x3), (1, 0), (1, 7)]) (asC := [(1, x3), (1, 0), (1, 7)]) (LN := [(0, (0, x3))]) (stN := []) (hsC := []) (v := (0, 0)) (st2 := [(0, 0)]) (jT_in_lo (d := 0) (v := x3) (lo := 0) (hi := 7) (by omega) (by omega) (by omega) (by omega)) (by rfl) (by rfl) (by decide +kernel) (by rfl) (by rfl) (by omega) (by omega) (by omega) (by omega) rfl ?_
  exact jT_ret rfl (by decide) (by show 0 ≤ 0; decide) (by omega) (by omega) ⟨rfl, rfl, rfl⟩
theorem jI_201_15 : jmI (jm 201) 15 = (.iload_n 3, 1) := by rfl
theorem jI_201_19 : jmI (jm 201) 19 = (.ifCond .eq 7, 3) := by rfl
theorem jA_201_22 {xs : List Int} {d : Nat} {x1 x2 x3 : Int} (h_x1 : 0 ≤ x1 ∧ x1 ≤ 7) (h_x2 : 0 ≤ x2 ∧ x2 ≤ 7) (h_x3 : (-2147483648) ≤ x3 ∧ x3 ≤ (-1)) : jT xs (d + 2) 201 16 0 [(0, (4, 0)), (1, (0, x1)), (2, (0, x2)), (3, (0, x3)), (4, (0, 1))] [] jpA_22 0 0 (fun k v hsN => k = 0 ∧ v = (0, 0) ∧ hsN = jpA_20) := by
  refine jT_xaload_n (v := (4, 0)) (pcN := 1) jI_201_0 rfl rfl rfl ?_
  refine jT_xiload_n (v := (0, x1)) (pcN := 2) jI_201_1 rfl rfl rfl ?_
  refine jT_fR [] 16 (y := 188) (pcN := 5) (dC := 1) (bc1 := 0) (bc2 := 0) (c1 := 0) (c2 := 0) (as := [(0, x1)]) (asC := [(0, x1)]) (LN := [(0, (4, 0)), (1, (0, x1)), (2, (0, x2)), (3, (0, x3)), (4, (0, 1))]) (stN := [(4, 0)]) (hsC := []) (v := (0, 1)) (st2 := [(0, 1), (4, 0)]) (jA_188_13 (d := 0) (by omega)) (by rfl) (by rfl) (by decide +kernel) (by rfl) (by rfl) (by omega) (by omega) (by omega) (by omega) rfl ?_
  refine jT_xifF (t := 26) (pcN := 8) jI_201_5 rfl (by decide +kernel) rfl rfl ?_
  refine jT_xiload_n (v := (0, x2)) (pcN := 9) jI_201_8 rfl rfl rfl ?_
  refine jT_fR [] 16 (y := 188) (pcN := 12) (dC := 1) (bc1 := 0) (bc2 := 0) (c1 := 0) (c2 := 0) (as := [(0, x2)]) (asC := [(0, x2)]) (LN := [(0, (4, 0)), (1, (0, x1)), (2, (0, x2)), (3, (0, x3)), (4, (0, 1))]) (stN := [(4, 0)]) (hsC := []) (v := (0, 1)) (st2 := [(0, 1), (4, 0)]) (jA_188_20 (d := 0) (by omega)) (by rfl) (by rfl) (by decide +kernel) (by rfl) (by rfl) (by omega) (by omega) (by omega) (by omega) rfl ?_
  refine jT_xifF (t := 26) (pcN := 15) jI_201_12 rfl (by decide +kernel) rfl rfl ?_
  refine jT_xiload_n (v := (0, x3)) (pcN := 16) jI_201_15 rfl rfl rfl ?_
  refine jT_fR [] 16 (y := 188) (pcN := 19) (dC := 1) (bc1 := 0) (bc2 := 0) (c1 := 0) (c2 := 0) (as := [(0, x3)]) (asC := [(0, x3)]) (LN := [(0, (4, 0)), (1, (0, x1)), (2, (0, x2)), (3, (0, x3)), (4, (0, 1))]) (stN := [(4, 0)]) (hsC := []) (v := (0, 0)) (st2 := [(0, 0), (4, 0)]) (jA_188_21 (d := 0) (by omega)) (by rfl) (by rfl) (by decide +kernel) (by rfl) (by rfl) (by omega) (by omega) (by omega) (by omega) rfl ?_
  refine jT_xifT (pcN := 26) jI_201_19 rfl (by decide +kernel) rfl ?_
  refine jT_xiconst (k := 0) (pcN := 27) jI_201_26 rfl ?_
  refine jT_fB [0, 1, 2, 3, 4, 5, 6, 7, 8, 9, 10, 11, 12, 13, 14, 15] 16 (y := 190) (pcN := 30) (dC := 1) (bc1 := 0) (bc2 := 0) (c1 := 0) (c2 := 0) (as := [(4, 0), (0, 0)]) (asC := [(4, 0), (0, 0)]) (LN := [(0, (4, 0)), (1, (0, x1)), (2, (0, x2)), (3, (0, x3)), (4, (0, 1))]) (stN := []) (hsC := jpA_22) (hsD := jpA_20) (v := (0, 1)) (st2 := [(0, 1)]) (hs2 := jpA_20) (jA_190_6 (d := 0)) (by rfl) (by rfl) (by decide +kernel) (by rfl) (by rfl) (by omega) (by omega) (by omega) (by omega) rfl (by decide +kernel) ?_
  refine jT_xifF (t := 35) (pcN := 33) jI_201_30 rfl (by decide +kernel) rfl rfl ?_
  refine jT_xiconst (k := 0) (pcN := 34) jI_201_33 rfl ?_
  exact jT_ret rfl (by decide) (by show 16 ≤ 16; decide) (by omega) (by omega) ⟨rfl, rfl, rfl⟩
theorem jA_115_23 {xs : List Int} {d : Nat} {x3 : Int} (h_x3 : 0 ≤ x3 ∧ x3 ≤ 7) : jT xs d 115 1 0 [(0, (4, 0)), (1, (0, x3)), (2, (0, 8))] [] [jgh] 0 0 (fun k v hsN => k = 0 ∧ v = (9, 0) ∧ hsN = [jgh] ++ []) := by
  refine jT_xiload_n (v := (0, x3)) (pcN := 1) jI_115_0 rfl rfl rfl ?_
  refine jT_ifF (a := x3) (t := 9) (by rfl) (by rfl) (by rfl) (jw_idd (by omega) (by omega)) (by simp only [jcP] <;> omega) ?_
  refine jT_xiload_n (v := (0, x3)) (pcN := 5) jI_115_4 rfl rfl rfl ?_
  refine jT_xiload_n (v := (0, 8)) (pcN := 6) jI_115_5 rfl rfl rfl ?_
  refine jT_icT (a := x3) (b := 8) (t := 20) (by rfl) (by rfl) (by rfl) (jw_idd (by omega) (by omega)) (jw_idd (by omega) (by omega)) (by simp only [jcP] <;> omega) ?_
  exact jT_ret rfl (by decide) (by show 1 ≤ 1; decide) (by omega) (by omega) ⟨rfl, rfl, rfl⟩
theorem jI_57_0 : jmI (jm 57) 0 = (.aload_n 0, 1) := by rfl
theorem jI_57_1 : jmI (jm 57) 1 = (.getfield 9, 3) := by rfl
def jzA_44 : JC := (9, [(4, 1), (4, 2), (4, 3), (4, 4), (4, 5)], [])
theorem jI_57_4 : jmI (jm 57) 4 = (.iload_n 1, 1) := by rfl
theorem jI_57_5 : jmI (jm 57) 5 = (.aaload, 1) := by rfl
def jpA_47 : List JC := [jzA_44, (114, [], [6, 6, 6, 6, 6, 6, 6, 6]), jgh, jgh, jgh, jgh, jgh]
theorem jA_57_24 {xs : List Int} {d : Nat} {x2 : Int} (h_x2 : 0 ≤ x2 ∧ x2 ≤ 7) : jT xs d 57 7 0 [(0, (4, 0)), (1, (0, x2))] [] jpA_47 0 0 (fun k v hsN => k = 0 ∧ v = (4, 6) ∧ hsN = jpA_47 ++ []) := by
  refine jT_xaload_n (v := (4, 0)) (pcN := 1) jI_57_0 rfl rfl rfl ?_
  refine jT_xgetf (a := 0) (t := 1) (ci := 9) (fi := 0) (c := jzA_44) (v := (4, 1)) (pcN := 4) jI_57_1 rfl rfl rfl rfl rfl rfl rfl ?_
  refine jT_xiload_n (v := (0, x2)) (pcN := 5) jI_57_4 rfl rfl rfl ?_
  refine jT_aald (x := 6) (a := 1) (j := (x2).toNat) (fs := []) (X := [6, 6, 6, 6, 6, 6, 6, 6]) (kd := 114) (by rfl) (by rfl) (by rfl) (jw_nn (by omega) (by omega)) (jall_get 8 (by decide) (by omega)) (by rfl) ?_
  refine jT_eq (LN := [(0, (4, 0)), (1, (0, x2))]) (stN := [(4, 6)]) (hsN := jpA_47) rfl rfl rfl ?_
  exact jT_ret rfl (by decide) (by show 7 ≤ 7; decide) (by omega) (by omega) ⟨rfl, rfl, rfl⟩
theorem jA_57_25 {xs : List Int} {d : Nat} {x3 : Int} (h_x3 : 0 ≤ x3 ∧ x3 ≤ 7) : jT xs d 57 7 0 [(0, (4, 0)), (1, (0, x3))] [] jpA_47 0 0 (fun k v hsN => k = 0 ∧ v = (4, 6) ∧ hsN = jpA_47 ++ []) := by
  refine jT_xaload_n (v := (4, 0)) (pcN := 1) jI_57_0 rfl rfl rfl ?_
  refine jT_xgetf (a := 0) (t := 1) (ci := 9) (fi := 0) (c := jzA_44) (v := (4, 1)) (pcN := 4) jI_57_1 rfl rfl rfl rfl rfl rfl rfl ?_
  refine jT_xiload_n (v := (0, x3)) (pcN := 5) jI_57_4 rfl rfl rfl ?_
  refine jT_aald (x := 6) (a := 1) (j := (x3).toNat) (fs := []) (X := [6, 6, 6, 6, 6, 6, 6, 6]) (kd := 114) (by rfl) (by rfl) (by rfl) (jw_nn (by omega) (by omega)) (jall_get 8 (by decide) (by omega)) (by rfl) ?_
  refine jT_eq (LN := [(0, (4, 0)), (1, (0, x3))]) (stN := [(4, 6)]) (hsN := jpA_47) rfl rfl rfl ?_
  exact jT_ret rfl (by decide) (by show 7 ≤ 7; decide) (by omega) (by omega) ⟨rfl, rfl, rfl⟩
theorem jA_97_26 {xs : List Int} {d : Nat} : jT xs d 97 1 0 [(0, (4, 0)), (1, (1, 1))] [] [(101, [], [0, 0, 0, 0, 0, 0])] 0 0 (fun k v hsN => k = 0 ∧ v = (1, 1) ∧ hsN = [(101, [], [0, 0, 0, 0, 0, 0])] ++ []) := by
  refine jT_advK 25 (pcN := 60) (LN := [(5, (0, 0)), (3, (1, 1)), (0, (4, 0)), (1, (1, 1))]) (stN := [(1, 1)]) (hsN := [(101, [], [0, 0, 0, 0, 0, 0])]) (c1 := 0) (s1 := 0) (c2 := 0) (s2 := 0) (by decide +kernel) ?_ (by omega) (by omega)
  exact jT_ret rfl (by decide) (by show 1 ≤ 1; decide) (by omega) (by omega) ⟨rfl, rfl, rfl⟩
theorem jA_9_27 {xs : List Int} {d : Nat} : jT xs (d + 1) 9 2 0 [(0, (4, 0)), (1, (4, 1)), (2, (1, 1))] [] [(4, [(4, (-1)), (1, 0)], []), (101, [], [0, 0, 0, 0, 0, 0])] 0 0 (fun k v hsN => k = 0 ∧ v = (9, 0) ∧ hsN = [(4, [(4, 1), (1, 1)], []), (101, [], [0, 0, 0, 0, 0, 0])]) := by
  refine jT_advK 8 (pcN := 12) (LN := [(0, (4, 0)), (1, (4, 1)), (2, (1, 1))]) (stN := [(1, 1), (4, 1), (4, 0)]) (hsN := [(4, [(4, 1), (1, 0)], []), (101, [], [0, 0, 0, 0, 0, 0])]) (c1 := 0) (s1 := 0) (c2 := 0) (s2 := 0) (by decide +kernel) ?_ (by omega) (by omega)
  refine jT_fR [1] 2 (y := 97) (pcN := 15) (dC := 0) (bc1 := 0) (bc2 := 0) (c1 := 0) (c2 := 0) (as := [(4, 1), (1, 1)]) (asC := [(4, 0), (1, 1)]) (LN := [(0, (4, 0)), (1, (4, 1)), (2, (1, 1))]) (stN := [(4, 0)]) (hsC := [(101, [], [0, 0, 0, 0, 0, 0])]) (v := (1, 1)) (st2 := [(1, 1), (4, 0)]) (jA_97_26 (d := 0)) (by rfl) (by rfl) (by decide +kernel) (by rfl) (by rfl) (by omega) (by omega) (by omega) (by omega) rfl ?_
  refine jT_advK 1 (pcN := 18) (LN := [(0, (4, 0)), (1, (4, 1)), (2, (1, 1))]) (stN := []) (hsN := [(4, [(4, 1), (1, 1)], []), (101, [], [0, 0, 0, 0, 0, 0])]) (c1 := 0) (s1 := 0) (c2 := 0) (s2 := 0) (by decide +kernel) ?_ (by omega) (by omega)
  exact jT_ret rfl (by decide) (by show 2 ≤ 2; decide) (by omega) (by omega) ⟨rfl, rfl, rfl⟩
def jpA_48 : List JC := [(4, [(4, 1), (1, 1)], []), (101, [], [0, 0, 0, 0, 0, 0]), (101, [], [0, 0, 0, 0, 0, 0]), (4, [(4, (-1)), (1, 0)], [])]
def jpA_49 : List JC := [(4, [(4, 1), (1, 1)], []), (101, [], [0, 0, 0, 0, 0, 0]), (101, [], [0, 0, 0, 0, 0, 0]), (4, [(4, 2), (1, 1)], [])]
theorem jA_11_28 {xs : List Int} {d : Nat} : jT xs (d + 2) 11 2 0 [(0, (4, 0)), (1, (4, 0)), (2, (0, 1))] [] [(4, [(4, 1), (1, 1)], []), (101, [], [0, 0, 0, 0, 0, 0])] 2 8 (fun k v hsN => k = 0 ∧ v = (4, 3) ∧ hsN = [(4, [(4, 1), (1, 1)], []), (101, [], [0, 0, 0, 0, 0, 0])] ++ [(101, [], [0, 0, 0, 0, 0, 0]), (4, [(4, 2), (1, 1)], [])]) := by
  refine jT_advK 190 (pcN := 78) (LN := [(4, (0, 6)), (5, (1, 0)), (3, (4, 2)), (0, (4, 0)), (1, (4, 0)), (2, (0, 1))]) (stN := [(1, 1), (4, 2), (4, 3), (4, 3)]) (hsN := jpA_48) (c1 := 2) (s1 := 8) (c2 := 0) (s2 := 0) (by decide +kernel) ?_ (by omega) (by omega)
  refine jT_fB [3, 2] 4 (y := 9) (pcN := 81) (dC := 1) (bc1 := 0) (bc2 := 0) (c1 := 0) (c2 := 0) (as := [(4, 3), (4, 2), (1, 1)]) (asC := [(4, 0), (4, 1), (1, 1)]) (LN := [(4, (0, 6)), (5, (1, 0)), (3, (4, 2)), (0, (4, 0)), (1, (4, 0)), (2, (0, 1))]) (stN := [(4, 3)]) (hsC := [(4, [(4, (-1)), (1, 0)], []), (101, [], [0, 0, 0, 0, 0, 0])]) (hsD := [(4, [(4, 1), (1, 1)], []), (101, [], [0, 0, 0, 0, 0, 0])]) (v := (9, 0)) (st2 := [(4, 3)]) (hs2 := jpA_49) (jA_9_27 (d := 0)) (by rfl) (by rfl) (by decide +kernel) (by rfl) (by rfl) (by omega) (by omega) (by omega) (by omega) rfl (by decide +kernel) ?_
  exact jT_ret rfl (by decide) (by show 2 ≤ 4; decide) (by omega) (by omega) ⟨rfl, rfl, rfl⟩
theorem jA_16_29 {xs : List Int} {d : Nat} : jT xs d 16 2 0 [(0, (4, 0))] [] [(4, [(4, 1), (1, 1)], []), (101, [], [0, 0, 0, 0, 0, 0])] 0 0 (fun k v hsN => k = 0 ∧ v = (1, 0) ∧ hsN = [(4, [(4, 1), (1, 1)], []), (101, [], [0, 0, 0, 0, 0, 0])] ++ []) := by
  refine jT_advK 86 (pcN := 31) (LN := [(3, (0, 6)), (1, (1, 0)), (0, (4, 0))]) (stN := [(1, 0)]) (hsN := [(4, [(4, 1), (1, 1)], []), (101, [], [0, 0, 0, 0, 0, 0])]) (c1 := 0) (s1 := 0) (c2 := 0) (s2 := 0) (by decide +kernel) ?_ (by omega) (by omega)
  exact jT_ret rfl (by decide) (by show 2 ≤ 2; decide) (by omega) (by omega) ⟨rfl, rfl, rfl⟩
theorem jA_15_30 {xs : List Int} {d : Nat} : jT xs (d + 1) 15 2 0 [(0, (4, 0))] [] [(4, [(4, 1), (1, 1)], []), (101, [], [0, 0, 0, 0, 0, 0])] 0 0 (fun k v hsN => k = 0 ∧ v = (0, 1) ∧ hsN = [(4, [(4, 1), (1, 1)], []), (101, [], [0, 0, 0, 0, 0, 0])] ++ []) := by
  refine jT_advK 6 (pcN := 12) (LN := [(0, (4, 0))]) (stN := [(4, 0)]) (hsN := [(4, [(4, 1), (1, 1)], []), (101, [], [0, 0, 0, 0, 0, 0])]) (c1 := 0) (s1 := 0) (c2 := 0) (s2 := 0) (by decide +kernel) ?_ (by omega) (by omega)
  refine jT_fR [0, 1] 2 (y := 16) (pcN := 15) (dC := 0) (bc1 := 0) (bc2 := 0) (c1 := 0) (c2 := 0) (as := [(4, 0)]) (asC := [(4, 0)]) (LN := [(0, (4, 0))]) (stN := []) (hsC := [(4, [(4, 1), (1, 1)], []), (101, [], [0, 0, 0, 0, 0, 0])]) (v := (1, 0)) (st2 := [(1, 0)]) (jA_16_29 (d := 0)) (by rfl) (by rfl) (by decide +kernel) (by rfl) (by rfl) (by omega) (by omega) (by omega) (by omega) rfl ?_
  refine jT_advK 5 (pcN := 27) (LN := [(0, (4, 0))]) (stN := [(0, 1)]) (hsN := [(4, [(4, 1), (1, 1)], []), (101, [], [0, 0, 0, 0, 0, 0])]) (c1 := 0) (s1 := 0) (c2 := 0) (s2 := 0) (by decide +kernel) ?_ (by omega) (by omega)
  exact jT_ret rfl (by decide) (by show 2 ≤ 2; decide) (by omega) (by omega) ⟨rfl, rfl, rfl⟩
theorem jA_117_31 {xs : List Int} {d : Nat} : jT xs (d + 2) 117 3 0 [(0, (4, 0)), (1, (4, 1))] [] [jgh, (4, [(4, 2), (1, 1)], []), (101, [], [0, 0, 0, 0, 0, 0])] 0 0 (fun k v hsN => k = 0 ∧ v = (9, 0) ∧ hsN = [jgh, (4, [(4, 2), (1, 1)], []), (101, [], [0, 0, 0, 0, 0, 0])] ++ []) := by
  refine jT_advK 3 (pcN := 5) (LN := [(0, (4, 0)), (1, (4, 1))]) (stN := [(4, 1)]) (hsN := [jgh, (4, [(4, 2), (1, 1)], []), (101, [], [0, 0, 0, 0, 0, 0])]) (c1 := 0) (s1 := 0) (c2 := 0) (s2 := 0) (by decide +kernel) ?_ (by omega) (by omega)
  refine jT_fR [1, 2] 3 (y := 15) (pcN := 8) (dC := 1) (bc1 := 0) (bc2 := 0) (c1 := 0) (c2 := 0) (as := [(4, 1)]) (asC := [(4, 0)]) (LN := [(0, (4, 0)), (1, (4, 1))]) (stN := []) (hsC := [(4, [(4, 1), (1, 1)], []), (101, [], [0, 0, 0, 0, 0, 0])]) (v := (0, 1)) (st2 := [(0, 1)]) (jA_15_30 (d := 0)) (by rfl) (by rfl) (by decide +kernel) (by rfl) (by rfl) (by omega) (by omega) (by omega) (by omega) rfl ?_
  refine jT_advK 1 (pcN := 22) (LN := [(0, (4, 0)), (1, (4, 1))]) (stN := []) (hsN := [jgh, (4, [(4, 2), (1, 1)], []), (101, [], [0, 0, 0, 0, 0, 0])]) (c1 := 0) (s1 := 0) (c2 := 0) (s2 := 0) (by decide +kernel) ?_ (by omega) (by omega)
  exact jT_ret rfl (by decide) (by show 3 ≤ 3; decide) (by omega) (by omega) ⟨rfl, rfl, rfl⟩
def jpA_50 : List JC := [jzA_44, jgh, jgh, jgh, jgh, jgh]
def jzA_51 : JC := (9, [(4, (-1)), (4, (-1)), (4, (-1)), (4, (-1)), (4, (-1))], [])
def jpA_52 : List JC := [jzA_51, jgh, jgh, jgh, jgh, jgh]
theorem jA_53_32 {xs : List Int} {d : Nat} : jT xs d 53 6 0 [(0, (4, 0)), (1, (4, 1)), (2, (4, 2)), (3, (4, 3)), (4, (4, 4)), (5, (4, 5))] [] jpA_52 0 0 (fun k v hsN => k = 0 ∧ v = (9, 0) ∧ hsN = jpA_50) := by
  refine jT_advK 17 (pcN := 31) (LN := [(0, (4, 0)), (1, (4, 1)), (2, (4, 2)), (3, (4, 3)), (4, (4, 4)), (5, (4, 5))]) (stN := []) (hsN := jpA_50) (c1 := 0) (s1 := 0) (c2 := 0) (s2 := 0) (by decide +kernel) ?_ (by omega) (by omega)
  exact jT_ret rfl (by decide) (by show 6 ≤ 6; decide) (by omega) (by omega) ⟨rfl, rfl, rfl⟩
theorem jI_58_0 : jmI (jm 58) 0 = (.aload_n 0, 1) := by rfl
theorem jI_58_1 : jmI (jm 58) 1 = (.getfield 9, 3) := by rfl
def jzA_55 : JC := (9, [(4, 2), (4, 3), (4, 4), (4, 5), (4, 6)], [])
def jpA_56 : List JC := [jzA_55, (4, [(4, 7), (1, 1)], []), (114, [], [8, 8, 8, 8, 8, 8, 8, 8]), jgh, jgh, jgh, jgh, jgh, jgh, (114, [], [8, 8, 8, 8, 8, 8, 8, 8])]
theorem jI_58_10 : jmI (jm 58) 10 = (.astore_n 3, 1) := by rfl
theorem jI_58_11 : jmI (jm 58) 11 = (.aload_n 3, 1) := by rfl
theorem jI_58_12 : jmI (jm 58) 12 = (.iload_n 1, 1) := by rfl
theorem jI_58_13 : jmI (jm 58) 13 = (.aload_n 2, 1) := by rfl
def jpA_61 : List JC := [jzA_55, (4, [(4, 7), (1, 1)], []), (114, [], [8, 8, 8, 8, 8, 8, 8, 8]), jgh, jgh, jgh, jgh, jgh, jgh, jgh]
def jpA_62 : List JC := [jzA_55, (4, [(4, 7), (1, 1)], []), (114, [], [8, 8, 8, 8, 8, 8, 8, 8]), jgh, jgh, jgh, jgh, jgh, jgh, jgh, jzA_51]
theorem jI_58_19 : jmI (jm 58) 19 = (.aload_n 3, 1) := by rfl
theorem jI_58_20 : jmI (jm 58) 20 = (.aload_n 0, 1) := by rfl
theorem jI_58_21 : jmI (jm 58) 21 = (.getfield 15, 3) := by rfl
theorem jI_58_24 : jmI (jm 58) 24 = (.aload_n 0, 1) := by rfl
theorem jI_58_25 : jmI (jm 58) 25 = (.getfield 19, 3) := by rfl
theorem jI_58_28 : jmI (jm 58) 28 = (.aload_n 0, 1) := by rfl
theorem jI_58_29 : jmI (jm 58) 29 = (.getfield 23, 3) := by rfl
theorem jI_58_32 : jmI (jm 58) 32 = (.aload_n 0, 1) := by rfl
theorem jI_58_33 : jmI (jm 58) 33 = (.getfield 27, 3) := by rfl
def jzA_72 : JC := (9, [(4, 9), (4, 3), (4, 4), (4, 5), (4, 6)], [])
def jpA_73 : List JC := [jzA_55, (4, [(4, 7), (1, 1)], []), (114, [], [8, 8, 8, 8, 8, 8, 8, 8]), jgh, jgh, jgh, jgh, jgh, jgh, jgh, jzA_72]
def jpA_74 : List JC := [jzA_55, (4, [(4, 7), (1, 1)], []), (114, [], [8, 8, 8, 8, 8, 8, 8, 8]), jgh, jgh, jgh, jgh, jgh, jgh]
theorem jA_58_33 {xs : List Int} {d : Nat} {x1 : Int} (h_x1 : 0 ≤ x1 ∧ x1 ≤ 7) : jT xs (d + 1) 58 9 0 [(0, (4, 0)), (1, (0, x1)), (2, (4, 1))] [] jpA_74 2 13 (fun k v hsN => k = 0 ∧ v = (4, 10) ∧ hsN = jpA_74 ++ [jgh, jzA_72]) := by
  refine jT_xaload_n (v := (4, 0)) (pcN := 1) jI_58_0 rfl rfl rfl ?_
  refine jT_xgetf (a := 0) (t := 1) (ci := 9) (fi := 0) (c := jzA_55) (v := (4, 2)) (pcN := 4) jI_58_1 rfl rfl rfl rfl rfl rfl rfl ?_
  refine jT_adv 2 (pcN := 10) (LN := [(0, (4, 0)), (1, (0, x1)), (2, (4, 1))]) (stN := [(4, 9)]) (hsN := jpA_56) (c1 := 1) (s1 := 8) (c2 := 1) (s2 := 5) (by exact rfl) ?_ (by omega) (by omega)
  refine jT_xastore_n (v := (4, 9)) (LN := [(3, (4, 9)), (0, (4, 0)), (1, (0, x1)), (2, (4, 1))]) (pcN := 11) jI_58_10 rfl rfl rfl rfl ?_
  refine jT_xaload_n (v := (4, 9)) (pcN := 12) jI_58_11 rfl rfl rfl ?_
  refine jT_xiload_n (v := (0, x1)) (pcN := 13) jI_58_12 rfl rfl rfl ?_
  refine jT_xaload_n (v := (4, 1)) (pcN := 14) jI_58_13 rfl rfl rfl ?_
  refine jT_aastG (kd := 114) (a := 9) (b := 1) (j := (x1).toNat) (fs := []) (X := [8, 8, 8, 8, 8, 8, 8, 8]) (e := (4, [(4, 7), (1, 1)], [])) (by rfl) (by rfl) (by rfl) (jw_nn (by omega) (by omega)) (by show (x1).toNat < 8; omega) (by rfl) (by rfl) (by rfl) ?_
  refine jT_eq (LN := [(3, (4, 9)), (0, (4, 0)), (1, (0, x1)), (2, (4, 1))]) (stN := []) (hsN := jpA_61) rfl rfl rfl ?_
  refine jT_adv 2 (pcN := 19) (LN := [(3, (4, 9)), (0, (4, 0)), (1, (0, x1)), (2, (4, 1))]) (stN := [(4, 10), (4, 10)]) (hsN := jpA_62) (c1 := 1) (s1 := 5) (c2 := 0) (s2 := 0) (by exact rfl) ?_ (by omega) (by omega)
  refine jT_xaload_n (v := (4, 9)) (pcN := 20) jI_58_19 rfl rfl rfl ?_
  refine jT_xaload_n (v := (4, 0)) (pcN := 21) jI_58_20 rfl rfl rfl ?_
  refine jT_xgetf (a := 0) (t := 1) (ci := 9) (fi := 1) (c := jzA_55) (v := (4, 3)) (pcN := 24) jI_58_21 rfl rfl rfl rfl rfl rfl rfl ?_
  refine jT_xaload_n (v := (4, 0)) (pcN := 25) jI_58_24 rfl rfl rfl ?_
  refine jT_xgetf (a := 0) (t := 1) (ci := 9) (fi := 2) (c := jzA_55) (v := (4, 4)) (pcN := 28) jI_58_25 rfl rfl rfl rfl rfl rfl rfl ?_
  refine jT_xaload_n (v := (4, 0)) (pcN := 29) jI_58_28 rfl rfl rfl ?_
  refine jT_xgetf (a := 0) (t := 1) (ci := 9) (fi := 3) (c := jzA_55) (v := (4, 5)) (pcN := 32) jI_58_29 rfl rfl rfl rfl rfl rfl rfl ?_
  refine jT_xaload_n (v := (4, 0)) (pcN := 33) jI_58_32 rfl rfl rfl ?_
  refine jT_xgetf (a := 0) (t := 1) (ci := 9) (fi := 4) (c := jzA_55) (v := (4, 6)) (pcN := 36) jI_58_33 rfl rfl rfl rfl rfl rfl rfl ?_
  refine jT_fB [10, 9, 3, 4, 5, 6] 11 (y := 53) (pcN := 39) (dC := 0) (bc1 := 0) (bc2 := 0) (c1 := 0) (c2 := 0) (as := [(4, 10), (4, 9), (4, 3), (4, 4), (4, 5), (4, 6)]) (asC := [(4, 0), (4, 1), (4, 2), (4, 3), (4, 4), (4, 5)]) (LN := [(3, (4, 9)), (0, (4, 0)), (1, (0, x1)), (2, (4, 1))]) (stN := [(4, 10)]) (hsC := jpA_52) (hsD := jpA_50) (v := (9, 0)) (st2 := [(4, 10)]) (hs2 := jpA_73) (jA_53_32 (d := 0)) (by rfl) (by rfl) (by decide +kernel) (by rfl) (by rfl) (by omega) (by omega) (by omega) (by omega) rfl (by decide +kernel) ?_
  exact jT_ret rfl (by decide) (by show 9 ≤ 11; decide) (by omega) (by omega) ⟨rfl, rfl, rfl⟩
def jzA_75 : JC := (13, [(4, 2), (4, 3), (4, 4), (4, 5), (4, 6), (4, 7), (4, 8), (4, 9), (4, 10), (4, 11), (0, 1), (4, 1), (0, 0)], [])
def jzA_76 : JC := (119, [], [12, (-1), (-1), (-1), (-1), (-1), (-1), (-1)])
def jzA_77 : JC := (9, [(4, 13), (4, 14), (4, 15), (4, 16), (4, 17)], [])
def jpA_78 : List JC := [jzA_75, jgh, jgh, jgh, jgh, jgh, jgh, jgh, jgh, jgh, jgh, jzA_76, jzA_77, jgh, jgh, jgh, jgh, jgh]
def jzA_79 : JC := (119, [], [(-1), (-1), (-1), (-1), (-1), (-1), (-1), (-1)])
def jpA_80 : List JC := [jzA_14, jgh, jgh, jgh, jgh, jgh, jgh, jgh, jgh, jgh, jgh, jzA_79, jzA_77, jgh, jgh, jgh, jgh, jgh]
theorem jA_100_34 {xs : List Int} {d : Nat} : jT xs d 100 18 0 [(0, (4, 0)), (1, (4, 1))] [] jpA_80 0 0 (fun k v hsN => k = 0 ∧ v = (9, 0) ∧ hsN = jpA_78) := by
  refine jT_advK 22 (pcN := 82) (LN := [(0, (4, 0)), (1, (4, 1))]) (stN := []) (hsN := jpA_78) (c1 := 0) (s1 := 0) (c2 := 0) (s2 := 0) (by decide +kernel) ?_ (by omega) (by omega)
  exact jT_ret rfl (by decide) (by show 18 ≤ 18; decide) (by omega) (by omega) ⟨rfl, rfl, rfl⟩
theorem jI_119_21 : jmI (jm 119) 21 = (.aload_n 0, 1) := by rfl
theorem jI_119_22 : jmI (jm 119) 22 = (.getfield 67, 3) := by rfl
theorem jI_119_25 : jmI (jm 119) 25 = (.iload_n 2, 1) := by rfl
theorem jI_119_29 : jmI (jm 119) 29 = (.aload_n 0, 1) := by rfl
theorem jI_119_30 : jmI (jm 119) 30 = (.getfield 67, 3) := by rfl
theorem jI_119_33 : jmI (jm 119) 33 = (.iload_n 3, 1) := by rfl
theorem jI_119_37 : jmI (jm 119) 37 = (.iload 4, 2) := by rfl
def jzA_88 : JC := (9, [(4, 12), (4, 13), (4, 14), (4, 15), (4, 16)], [])
def jzA_89 : JC := (114, [], [17, 17, 17, 17, 17, 17, 17, 17])
def jpA_90 : List JC := [jzA_5, jgh, jgh, jgh, jgh, jgh, jgh, jgh, jgh, jgh, jzA_79, jzA_88, jzA_89, jgh, jgh, jgh, jgh, (4, [(4, 18), (1, 1)], []), (101, [], [0, 0, 0, 0, 0, 0]), (101, [], [0, 0, 0, 0, 0, 0]), (4, [(4, 19), (1, 1)], [])]
theorem jI_119_42 : jmI (jm 119) 42 = (.astore 5, 2) := by rfl
theorem jI_119_44 : jmI (jm 119) 44 = (.aload_n 0, 1) := by rfl
theorem jI_119_45 : jmI (jm 119) 45 = (.aload 5, 2) := by rfl
theorem jI_119_50 : jmI (jm 119) 50 = (.aload_n 0, 1) := by rfl
theorem jI_119_51 : jmI (jm 119) 51 = (.aload_n 0, 1) := by rfl
theorem jI_119_52 : jmI (jm 119) 52 = (.getfield 67, 3) := by rfl
theorem jI_119_55 : jmI (jm 119) 55 = (.iload_n 1, 1) := by rfl
theorem jI_119_56 : jmI (jm 119) 56 = (.aload 5, 2) := by rfl
def jzA_99 : JC := (9, [(4, 21), (4, 13), (4, 14), (4, 15), (4, 16)], [])
def jpA_100 : List JC := [jzA_5, jgh, jgh, jgh, jgh, jgh, jgh, jgh, jgh, jgh, jzA_79, jzA_88, jzA_89, jgh, jgh, jgh, jgh, (4, [(4, 18), (1, 1)], []), (101, [], [0, 0, 0, 0, 0, 0]), (101, [], [0, 0, 0, 0, 0, 0]), (4, [(4, 19), (1, 1)], []), jgh, jzA_99]
def jzA_101 : JC := (13, [(4, 1), (4, 2), (4, 3), (4, 4), (4, 5), (4, 6), (4, 7), (4, 8), (4, 9), (4, 10), (0, 1), (4, 22), (0, 0)], [])
def jzA_102 : JC := (119, [], [11, (-1), (-1), (-1), (-1), (-1), (-1), (-1)])
def jpA_103 : List JC := [jzA_101, jgh, jgh, jgh, jgh, jgh, jgh, jgh, jgh, jgh, jzA_102, jzA_88, jzA_89, jgh, jgh, jgh, jgh, (4, [(4, 18), (1, 1)], []), (101, [], [0, 0, 0, 0, 0, 0]), (101, [], [0, 0, 0, 0, 0, 0]), (4, [(4, 19), (1, 1)], []), jgh, jzA_99]
theorem jI_119_64 : jmI (jm 119) 64 = (.aload 5, 2) := by rfl
theorem jI_119_66 : jmI (jm 119) 66 = (.getfield 102, 3) := by rfl
theorem jI_119_69 : jmI (jm 119) 69 = (.l2i, 1) := by rfl
def jpA_107 : List JC := [jzA_5, jgh, jgh, jgh, jgh, jgh, jgh, jgh, jgh, jgh, jzA_79, jzA_88, jzA_89, jgh, jgh, jgh, jgh, (4, [(4, 18), (1, 1)], []), (101, [], [0, 0, 0, 0, 0, 0])]
theorem jA_119_35 {xs : List Int} {d : Nat} {x1 x2 x3 : Int} (h_x1 : 0 ≤ x1 ∧ x1 ≤ 7) (h_x2 : 0 ≤ x2 ∧ x2 ≤ 7) (h_x3 : 0 ≤ x3 ∧ x3 ≤ 7) : jT xs (d + 3) 119 19 0 [(0, (4, 0)), (1, (0, x1)), (2, (0, x2)), (3, (0, x3)), (4, (0, 1))] [] jpA_107 4 21 (fun k v hsN => k = 0 ∧ v = (0, 1) ∧ hsN = jpA_103) := by
  refine jT_xaload_n (v := (4, 0)) (pcN := 1) jI_119_0 rfl rfl rfl ?_
  refine jT_xiload_n (v := (0, x1)) (pcN := 2) jI_119_1 rfl rfl rfl ?_
  refine jT_xbipush (k := 8) (pcN := 4) jI_119_2 (by decide) rfl ?_
  refine jT_fR [0] 19 (y := 115) (pcN := 7) (dC := 0) (bc1 := 0) (bc2 := 0) (c1 := 4) (c2 := 21) (as := [(4, 0), (0, x1), (0, 8)]) (asC := [(4, 0), (0, x1), (0, 8)]) (LN := [(0, (4, 0)), (1, (0, x1)), (2, (0, x2)), (3, (0, x3)), (4, (0, 1))]) (stN := []) (hsC := [jgh]) (v := (9, 0)) (st2 := []) (jA_115_9 (d := 0) (by omega)) (by rfl) (by rfl) (by decide +kernel) (by rfl) (by rfl) (by omega) (by omega) (by omega) (by omega) rfl ?_
  refine jT_xaload_n (v := (4, 0)) (pcN := 8) jI_119_7 rfl rfl rfl ?_
  refine jT_xiload_n (v := (0, x2)) (pcN := 9) jI_119_8 rfl rfl rfl ?_
  refine jT_xbipush (k := 8) (pcN := 11) jI_119_9 (by decide) rfl ?_
  refine jT_fR [0] 19 (y := 115) (pcN := 14) (dC := 0) (bc1 := 0) (bc2 := 0) (c1 := 4) (c2 := 21) (as := [(4, 0), (0, x2), (0, 8)]) (asC := [(4, 0), (0, x2), (0, 8)]) (LN := [(0, (4, 0)), (1, (0, x1)), (2, (0, x2)), (3, (0, x3)), (4, (0, 1))]) (stN := []) (hsC := [jgh]) (v := (9, 0)) (st2 := []) (jA_115_16 (d := 0) (by omega)) (by rfl) (by rfl) (by decide +kernel) (by rfl) (by rfl) (by omega) (by omega) (by omega) (by omega) rfl ?_
  refine jT_xaload_n (v := (4, 0)) (pcN := 15) jI_119_14 rfl rfl rfl ?_
  refine jT_xiload_n (v := (0, x3)) (pcN := 16) jI_119_15 rfl rfl rfl ?_
  refine jT_xbipush (k := 8) (pcN := 18) jI_119_16 (by decide) rfl ?_
  refine jT_fR [0] 19 (y := 115) (pcN := 21) (dC := 0) (bc1 := 0) (bc2 := 0) (c1 := 4) (c2 := 21) (as := [(4, 0), (0, x3), (0, 8)]) (asC := [(4, 0), (0, x3), (0, 8)]) (LN := [(0, (4, 0)), (1, (0, x1)), (2, (0, x2)), (3, (0, x3)), (4, (0, 1))]) (stN := []) (hsC := [jgh]) (v := (9, 0)) (st2 := []) (jA_115_23 (d := 0) (by omega)) (by rfl) (by rfl) (by decide +kernel) (by rfl) (by rfl) (by omega) (by omega) (by omega) (by omega) rfl ?_
  refine jT_xaload_n (v := (4, 0)) (pcN := 22) jI_119_21 rfl rfl rfl ?_
  refine jT_xgetf (a := 0) (t := 1) (ci := 13) (fi := 11) (c := jzA_5) (v := (4, 11)) (pcN := 25) jI_119_22 rfl rfl rfl rfl rfl rfl rfl ?_
  refine jT_xiload_n (v := (0, x2)) (pcN := 26) jI_119_25 rfl rfl rfl ?_
  refine jT_fR [11, 12, 13, 14, 15, 16, 17] 19 (y := 57) (pcN := 29) (dC := 0) (bc1 := 0) (bc2 := 0) (c1 := 4) (c2 := 21) (as := [(4, 11), (0, x2)]) (asC := [(4, 0), (0, x2)]) (LN := [(0, (4, 0)), (1, (0, x1)), (2, (0, x2)), (3, (0, x3)), (4, (0, 1))]) (stN := []) (hsC := jpA_47) (v := (4, 6)) (st2 := [(4, 17)]) (jA_57_24 (d := 0) (by omega)) (by rfl) (by rfl) (by decide +kernel) (by rfl) (by rfl) (by omega) (by omega) (by omega) (by omega) rfl ?_
  refine jT_xaload_n (v := (4, 0)) (pcN := 30) jI_119_29 rfl rfl rfl ?_
  refine jT_xgetf (a := 0) (t := 1) (ci := 13) (fi := 11) (c := jzA_5) (v := (4, 11)) (pcN := 33) jI_119_30 rfl rfl rfl rfl rfl rfl rfl ?_
  refine jT_xiload_n (v := (0, x3)) (pcN := 34) jI_119_33 rfl rfl rfl ?_
  refine jT_fR [11, 12, 13, 14, 15, 16, 17] 19 (y := 57) (pcN := 37) (dC := 0) (bc1 := 0) (bc2 := 0) (c1 := 4) (c2 := 21) (as := [(4, 11), (0, x3)]) (asC := [(4, 0), (0, x3)]) (LN := [(0, (4, 0)), (1, (0, x1)), (2, (0, x2)), (3, (0, x3)), (4, (0, 1))]) (stN := [(4, 17)]) (hsC := jpA_47) (v := (4, 6)) (st2 := [(4, 17), (4, 17)]) (jA_57_25 (d := 0) (by omega)) (by rfl) (by rfl) (by decide +kernel) (by rfl) (by rfl) (by omega) (by omega) (by omega) (by omega) rfl ?_
  refine jT_xiload (v := (0, 1)) (pcN := 39) jI_119_37 rfl rfl rfl ?_
  refine jT_fA [17, 18] 19 (y := 11) (pcN := 42) (dC := 2) (bc1 := 2) (bc2 := 8) (c1 := 2) (c2 := 13) (as := [(4, 17), (4, 17), (0, 1)]) (asC := [(4, 0), (4, 0), (0, 1)]) (LN := [(0, (4, 0)), (1, (0, x1)), (2, (0, x2)), (3, (0, x3)), (4, (0, 1))]) (stN := []) (hsC := [(4, [(4, 1), (1, 1)], []), (101, [], [0, 0, 0, 0, 0, 0])]) (ex := [(101, [], [0, 0, 0, 0, 0, 0]), (4, [(4, 2), (1, 1)], [])]) (v := (4, 3)) (st2 := [(4, 20)]) (hs2 := jpA_90) (jA_11_28 (d := 0)) (by rfl) (by rfl) (by decide +kernel) (by rfl) (by rfl) (by omega) (by omega) (by omega) (by omega) rfl (by decide +kernel) ?_
  refine jT_xastore (v := (4, 20)) (LN := [(5, (4, 20)), (0, (4, 0)), (1, (0, x1)), (2, (0, x2)), (3, (0, x3)), (4, (0, 1))]) (pcN := 44) jI_119_42 rfl rfl rfl rfl ?_
  refine jT_xaload_n (v := (4, 0)) (pcN := 45) jI_119_44 rfl rfl rfl ?_
  refine jT_xaload (v := (4, 20)) (pcN := 47) jI_119_45 rfl rfl rfl ?_
  refine jT_fR [0, 20, 19] 21 (y := 117) (pcN := 50) (dC := 2) (bc1 := 0) (bc2 := 0) (c1 := 2) (c2 := 13) (as := [(4, 0), (4, 20)]) (asC := [(4, 0), (4, 1)]) (LN := [(5, (4, 20)), (0, (4, 0)), (1, (0, x1)), (2, (0, x2)), (3, (0, x3)), (4, (0, 1))]) (stN := []) (hsC := [jgh, (4, [(4, 2), (1, 1)], []), (101, [], [0, 0, 0, 0, 0, 0])]) (v := (9, 0)) (st2 := []) (jA_117_31 (d := 0)) (by rfl) (by rfl) (by decide +kernel) (by rfl) (by rfl) (by omega) (by omega) (by omega) (by omega) rfl ?_
  refine jT_xaload_n (v := (4, 0)) (pcN := 51) jI_119_50 rfl rfl rfl ?_
  refine jT_xaload_n (v := (4, 0)) (pcN := 52) jI_119_51 rfl rfl rfl ?_
  refine jT_xgetf (a := 0) (t := 1) (ci := 13) (fi := 11) (c := jzA_5) (v := (4, 11)) (pcN := 55) jI_119_52 rfl rfl rfl rfl rfl rfl rfl ?_
  refine jT_xiload_n (v := (0, x1)) (pcN := 56) jI_119_55 rfl rfl rfl ?_
  refine jT_xaload (v := (4, 20)) (pcN := 58) jI_119_56 rfl rfl rfl ?_
  refine jT_fA [11, 20, 12, 13, 14, 15, 16, 19, 17] 21 (y := 58) (pcN := 61) (dC := 1) (bc1 := 2) (bc2 := 13) (c1 := 0) (c2 := 0) (as := [(4, 11), (0, x1), (4, 20)]) (asC := [(4, 0), (0, x1), (4, 1)]) (LN := [(5, (4, 20)), (0, (4, 0)), (1, (0, x1)), (2, (0, x2)), (3, (0, x3)), (4, (0, 1))]) (stN := [(4, 0)]) (hsC := jpA_74) (ex := [jgh, jzA_72]) (v := (4, 10)) (st2 := [(4, 22), (4, 0)]) (hs2 := jpA_100) (jA_58_33 (d := 0) (by omega)) (by rfl) (by rfl) (by decide +kernel) (by rfl) (by rfl) (by omega) (by omega) (by omega) (by omega) rfl (by decide +kernel) ?_
  refine jT_fB [0, 22, 1, 2, 3, 4, 5, 6, 7, 8, 9, 10, 11, 12, 13, 14, 15, 16] 23 (y := 100) (pcN := 64) (dC := 0) (bc1 := 0) (bc2 := 0) (c1 := 0) (c2 := 0) (as := [(4, 0), (4, 22)]) (asC := [(4, 0), (4, 1)]) (LN := [(5, (4, 20)), (0, (4, 0)), (1, (0, x1)), (2, (0, x2)), (3, (0, x3)), (4, (0, 1))]) (stN := []) (hsC := jpA_80) (hsD := jpA_78) (v := (9, 0)) (st2 := []) (hs2 := jpA_103) (jA_100_34 (d := 0)) (by rfl) (by rfl) (by decide +kernel) (by rfl) (by rfl) (by omega) (by omega) (by omega) (by omega) rfl (by decide +kernel) ?_
  refine jT_xaload (v := (4, 20)) (pcN := 66) jI_119_64 rfl rfl rfl ?_
  refine jT_xgetf (a := 20) (t := 2) (ci := 4) (fi := 1) (c := (4, [(4, 19), (1, 1)], [])) (v := (1, 1)) (pcN := 69) jI_119_66 rfl rfl rfl rfl rfl rfl rfl ?_
  refine jT_xl2i (pcN := 70) jI_119_69 rfl rfl ?_
  exact jT_ret rfl (by decide) (by show 19 ≤ 23; decide) (by omega) (by omega) ⟨rfl, rfl, rfl⟩
def jzA_108 : JC := (13, [(4, 2), (4, 3), (4, 4), (4, 5), (4, 6), (4, 7), (4, 8), (4, 9), (4, 10), (4, 11), (0, 1), (4, 23), (0, 0)], [])
def jzA_109 : JC := (114, [], [18, 18, 18, 18, 18, 18, 18, 18])
def jzA_110 : JC := (9, [(4, 22), (4, 14), (4, 15), (4, 16), (4, 17)], [])
def jpA_111 : List JC := [jzA_108, (101, [], [0]), jgh, jgh, jgh, jgh, jgh, jgh, jgh, jgh, jgh, jzA_76, jzA_77, jzA_109, jgh, jgh, jgh, jgh, (4, [(4, 19), (1, 1)], []), (101, [], [0, 0, 0, 0, 0, 0]), (101, [], [0, 0, 0, 0, 0, 0]), (4, [(4, 20), (1, 1)], []), jgh, jzA_110]
theorem jI_328_12 : jmI (jm 328) 12 = (.i2l, 1) := by rfl
def jpA_113 : List JC := [jzA_108, (101, [], [1]), jgh, jgh, jgh, jgh, jgh, jgh, jgh, jgh, jgh, jzA_76, jzA_77, jzA_109, jgh, jgh, jgh, jgh, (4, [(4, 19), (1, 1)], []), (101, [], [0, 0, 0, 0, 0, 0]), (101, [], [0, 0, 0, 0, 0, 0]), (4, [(4, 20), (1, 1)], []), jgh, jzA_110]
theorem jI_328_14 : jmI (jm 328) 14 = (.goto 11, 3) := by rfl
theorem jI_328_25 : jmI (jm 328) 25 = (.iconst 0, 1) := by rfl
def jpA_116 : List JC := [jzA_14, (101, [], [0]), jgh, jgh, jgh, jgh, jgh, jgh, jgh, jgh, jgh, jzA_79, jzA_77, jzA_109, jgh, jgh, jgh, jgh, (4, [(4, 19), (1, 1)], []), (101, [], [0, 0, 0, 0, 0, 0])]
theorem jA_328_36 {xs : List Int} {d : Nat} {x1 x2 x3 : Int} (h_x1 : 0 ≤ x1 ∧ x1 ≤ 7) (h_x2 : 0 ≤ x2 ∧ x2 ≤ 7) (h_x3 : 0 ≤ x3 ∧ x3 ≤ 7) : jT xs (d + 4) 328 20 0 [(0, (4, 0)), (1, (0, x1)), (2, (0, x2)), (3, (0, x3)), (4, (0, 1)), (5, (4, 1))] [] jpA_116 4 21 (fun k v hsN => k = 0 ∧ v = (0, 0) ∧ hsN = jpA_113) := by
  refine jT_xaload (v := (4, 1)) (pcN := 2) jI_328_0 rfl rfl rfl ?_
  refine jT_xiconst (k := 0) (pcN := 3) jI_328_2 rfl ?_
  refine jT_xaload_n (v := (4, 0)) (pcN := 4) jI_328_3 rfl rfl rfl ?_
  refine jT_xiload_n (v := (0, x1)) (pcN := 5) jI_328_4 rfl rfl rfl ?_
  refine jT_xiload_n (v := (0, x2)) (pcN := 6) jI_328_5 rfl rfl rfl ?_
  refine jT_xiload_n (v := (0, x3)) (pcN := 7) jI_328_6 rfl rfl rfl ?_
  refine jT_xiload (v := (0, 1)) (pcN := 9) jI_328_7 rfl rfl rfl ?_
  refine jT_fB [0, 2, 3, 4, 5, 6, 7, 8, 9, 10, 11, 12, 13, 14, 15, 16, 17, 18, 19] 20 (y := 119) (pcN := 12) (dC := 3) (bc1 := 4) (bc2 := 21) (c1 := 0) (c2 := 0) (as := [(4, 0), (0, x1), (0, x2), (0, x3), (0, 1)]) (asC := [(4, 0), (0, x1), (0, x2), (0, x3), (0, 1)]) (LN := [(0, (4, 0)), (1, (0, x1)), (2, (0, x2)), (3, (0, x3)), (4, (0, 1)), (5, (4, 1))]) (stN := [(0, 0), (4, 1)]) (hsC := jpA_107) (hsD := jpA_103) (v := (0, 1)) (st2 := [(0, 1), (0, 0), (4, 1)]) (hs2 := jpA_111) (jA_119_35 (d := 0) (by omega) (by omega) (by omega)) (by rfl) (by rfl) (by decide +kernel) (by rfl) (by rfl) (by omega) (by omega) (by omega) (by omega) rfl (by decide +kernel) ?_
  refine jT_xi2l (x := 1) (z := 1) (pcN := 13) jI_328_12 rfl (by decide +kernel) rfl ?_
  refine jT_adv 1 (pcN := 14) (LN := [(0, (4, 0)), (1, (0, x1)), (2, (0, x2)), (3, (0, x3)), (4, (0, 1)), (5, (4, 1))]) (stN := []) (hsN := jpA_113) (c1 := 0) (s1 := 0) (c2 := 0) (s2 := 0) (by exact rfl) ?_ (by omega) (by omega)
  refine jT_xgoto (pcN := 25) jI_328_14 rfl ?_
  refine jT_xiconst (k := 0) (pcN := 26) jI_328_25 rfl ?_
  exact jT_ret rfl (by decide) (by show 20 ≤ 24; decide) (by omega) (by omega) ⟨rfl, rfl, rfl⟩
theorem jA_188_37 {xs : List Int} {d : Nat} {x3 : Int} (h_x3 : 0 ≤ x3 ∧ x3 ≤ 7) : jT xs (d + 1) 188 0 0 [(0, (0, x3))] [] [] 0 0 (fun k v hsN => k = 0 ∧ v = (0, 1) ∧ hsN = [] ++ []) := by
  refine jT_xiload_n (v := (0, x3)) (pcN := 1) jI_188_0 rfl rfl rfl ?_
  refine jT_xi2l (x := x3) (z := x3) (pcN := 2) jI_188_1 rfl (jw_idd (by omega) (by omega)) rfl ?_
  refine jT_xlconst (z := 0) (pcN := 3) jI_188_2 rfl rfl ?_
  refine jT_adv 1 (pcN := 6) (LN := [(0, (0, x3))]) (stN := [(1, 7), (1, 0), (1, x3)]) (hsN := []) (c1 := 0) (s1 := 0) (c2 := 0) (s2 := 0) (by exact rfl) ?_ (by omega) (by omega)
  refine jT_fR [] 0 (y := 189) (pcN := 9) (dC := 0) (bc1 := 0) (bc2 := 0) (c1 := 0) (c2 := 0) (as := [(1, x3), (1, 0), (1, 7)]) (asC := [(1, x3), (1, 0), (1, 7)]) (LN := [(0, (0, x3))]) (stN := []) (hsC := []) (v := (0, 1)) (st2 := [(0, 1)]) (jT_in_ok (d := 0) (v := x3) (lo := 0) (hi := 7) (by omega) (by omega) (by omega) (by omega) (by omega)) (by rfl) (by rfl) (by decide +kernel) (by rfl) (by rfl) (by omega) (by omega) (by omega) (by omega) rfl ?_
  exact jT_ret rfl (by decide) (by show 0 ≤ 0; decide) (by omega) (by omega) ⟨rfl, rfl, rfl⟩
theorem jA_191_38 {xs : List Int} {d : Nat} : jT xs d 191 1 0 [(0, (4, 0)), (1, (0, 1)), (2, (0, 1))] [] [jgh] 0 0 (fun k v hsN => k = 0 ∧ v = (0, 0) ∧ hsN = [jgh] ++ []) := by
  refine jT_advK 5 (pcN := 18) (LN := [(0, (4, 0)), (1, (0, 1)), (2, (0, 1))]) (stN := [(0, 0)]) (hsN := [jgh]) (c1 := 0) (s1 := 0) (c2 := 0) (s2 := 0) (by decide +kernel) ?_ (by omega) (by omega)
  exact jT_ret rfl (by decide) (by show 1 ≤ 1; decide) (by omega) (by omega) ⟨rfl, rfl, rfl⟩
theorem jA_190_39 {xs : List Int} {d : Nat} : jT xs (d + 1) 190 16 0 [(0, (4, 0)), (1, (0, 1))] [] jpA_22 0 0 (fun k v hsN => k = 0 ∧ v = (0, 0) ∧ hsN = jpA_22 ++ []) := by
  refine jT_advK 6 (pcN := 8) (LN := [(0, (4, 0)), (1, (0, 1))]) (stN := [(0, 1), (0, 1), (4, 0)]) (hsN := jpA_22) (c1 := 0) (s1 := 0) (c2 := 0) (s2 := 0) (by decide +kernel) ?_ (by omega) (by omega)
  refine jT_fR [0] 16 (y := 191) (pcN := 11) (dC := 0) (bc1 := 0) (bc2 := 0) (c1 := 0) (c2 := 0) (as := [(4, 0), (0, 1), (0, 1)]) (asC := [(4, 0), (0, 1), (0, 1)]) (LN := [(0, (4, 0)), (1, (0, 1))]) (stN := []) (hsC := [jgh]) (v := (0, 0)) (st2 := [(0, 0)]) (jA_191_38 (d := 0)) (by rfl) (by rfl) (by decide +kernel) (by rfl) (by rfl) (by omega) (by omega) (by omega) (by omega) rfl ?_
  exact jT_ret rfl (by decide) (by show 16 ≤ 16; decide) (by omega) (by omega) ⟨rfl, rfl, rfl⟩
theorem jI_203_0 : jmI (jm 203) 0 = (.iconst 0, 1) := by rfl
theorem jI_203_1 : jmI (jm 203) 1 = (.istore_n 3, 1) := by rfl
theorem jI_203_2 : jmI (jm 203) 2 = (.iload_n 3, 1) := by rfl
theorem jI_203_3 : jmI (jm 203) 3 = (.bipush 6, 2) := by rfl
theorem jI_203_5 : jmI (jm 203) 5 = (.if_icmp .ge 21, 3) := by rfl
theorem jI_203_8 : jmI (jm 203) 8 = (.aload_n 0, 1) := by rfl
theorem jI_203_9 : jmI (jm 203) 9 = (.getfield 31, 3) := by rfl
theorem jI_203_12 : jmI (jm 203) 12 = (.iload_n 3, 1) := by rfl
theorem jI_203_13 : jmI (jm 203) 13 = (.aload_n 1, 1) := by rfl
theorem jI_203_14 : jmI (jm 203) 14 = (.iload_n 2, 1) := by rfl
theorem jI_203_15 : jmI (jm 203) 15 = (.iload_n 3, 1) := by rfl
theorem jI_203_16 : jmI (jm 203) 16 = (.iadd, 1) := by rfl
theorem jI_203_17 : jmI (jm 203) 17 = (.iaload, 1) := by rfl
def jpA_130 : List JC := [jzA_21, (100, [], jS0), jgh, jgh, jgh, jgh, jgh, (101, [], [0, 0, 0, 0, 0, 0]), jgh, jgh, jgh, jgh, jgh, jgh, jgh, jgh]
theorem jI_203_18 : jmI (jm 203) 18 = (.i2l, 1) := by rfl
theorem jI_203_20 : jmI (jm 203) 20 = (.iinc 3 1, 3) := by rfl
theorem jI_203_23 : jmI (jm 203) 23 = (.goto (-21), 3) := by rfl
theorem jI_203_26 : jmI (jm 203) 26 = (.aload_n 0, 1) := by rfl
theorem jI_203_27 : jmI (jm 203) 27 = (.aload_n 1, 1) := by rfl
theorem jI_203_28 : jmI (jm 203) 28 = (.iload_n 2, 1) := by rfl
theorem jI_203_29 : jmI (jm 203) 29 = (.bipush 6, 2) := by rfl
theorem jI_203_31 : jmI (jm 203) 31 = (.iadd, 1) := by rfl
theorem jI_203_32 : jmI (jm 203) 32 = (.iaload, 1) := by rfl
theorem jI_203_33 : jmI (jm 203) 33 = (.i2l, 1) := by rfl
theorem jA_203_40 {xs : List Int} {d : Nat} {x2 : Int} (h_x2 : 0 ≤ x2 ∧ x2 ≤ 7) : jT xs d 203 16 0 [(0, (4, 0)), (1, (4, 1)), (2, (0, 7 * x2))] [] jpA_130 0 0 (fun k v hsN => k = 0 ∧ v = (9, 0) ∧ hsN = jpA_130 ++ []) := by
  refine jT_xiconst (k := 0) (pcN := 1) jI_203_0 rfl ?_
  refine jT_xistore_n (v := (0, 0)) (LN := [(3, (0, 0)), (0, (4, 0)), (1, (4, 1)), (2, (0, 7 * x2))]) (pcN := 2) jI_203_1 rfl rfl rfl rfl ?_
  refine jT_xiload_n (v := (0, 0)) (pcN := 3) jI_203_2 rfl rfl rfl ?_
  refine jT_xbipush (k := 6) (pcN := 5) jI_203_3 (by decide) rfl ?_
  refine jT_xicF (t := 26) (pcN := 8) jI_203_5 rfl (by decide +kernel) rfl rfl ?_
  refine jT_xaload_n (v := (4, 0)) (pcN := 9) jI_203_8 rfl rfl rfl ?_
  refine jT_xgetf (a := 0) (t := 1) (ci := 14) (fi := 9) (c := jzA_21) (v := (4, 7)) (pcN := 12) jI_203_9 rfl rfl rfl rfl rfl rfl rfl ?_
  refine jT_xiload_n (v := (0, 0)) (pcN := 13) jI_203_12 rfl rfl rfl ?_
  refine jT_xaload_n (v := (4, 1)) (pcN := 14) jI_203_13 rfl rfl rfl ?_
  refine jT_xiload_n (v := (0, 7 * x2)) (pcN := 15) jI_203_14 rfl rfl rfl ?_
  refine jT_xiload_n (v := (0, 0)) (pcN := 16) jI_203_15 rfl rfl rfl ?_
  refine jT_xiadd (x := 7 * x2) (y := 0) (z := 7 * x2) (pcN := 17) jI_203_16 rfl (by omega) rfl ?_
  refine jT_iald (x := 0) (a := 1) (j := (7 * x2).toNat) (fs := []) (X := jS0) (by rfl) (by rfl) (by rfl) (jw_nn (by omega) (by omega)) (jS0_r0 (by omega) (by omega)) ?_
  refine jT_eq (LN := [(3, (0, 0)), (0, (4, 0)), (1, (4, 1)), (2, (0, 7 * x2))]) (stN := [(0, 0), (0, 0), (4, 7)]) (hsN := jpA_130) rfl rfl rfl ?_
  refine jT_xi2l (x := 0) (z := 0) (pcN := 19) jI_203_18 rfl (by decide +kernel) rfl ?_
  refine jT_adv 1 (pcN := 20) (LN := [(3, (0, 0)), (0, (4, 0)), (1, (4, 1)), (2, (0, 7 * x2))]) (stN := []) (hsN := jpA_130) (c1 := 0) (s1 := 0) (c2 := 0) (s2 := 0) (by exact rfl) ?_ (by omega) (by omega)
  refine jT_xiinc (x := 0) (z := 1) (LN := [(3, (0, 1)), (0, (4, 0)), (1, (4, 1)), (2, (0, 7 * x2))]) (pcN := 23) jI_203_20 rfl rfl (by decide) rfl rfl ?_
  refine jT_xgoto (pcN := 2) jI_203_23 rfl ?_
  refine jT_xiload_n (v := (0, 1)) (pcN := 3) jI_203_2 rfl rfl rfl ?_
  refine jT_xbipush (k := 6) (pcN := 5) jI_203_3 (by decide) rfl ?_
  refine jT_xicF (t := 26) (pcN := 8) jI_203_5 rfl (by decide +kernel) rfl rfl ?_
  refine jT_xaload_n (v := (4, 0)) (pcN := 9) jI_203_8 rfl rfl rfl ?_
  refine jT_xgetf (a := 0) (t := 1) (ci := 14) (fi := 9) (c := jzA_21) (v := (4, 7)) (pcN := 12) jI_203_9 rfl rfl rfl rfl rfl rfl rfl ?_
  refine jT_xiload_n (v := (0, 1)) (pcN := 13) jI_203_12 rfl rfl rfl ?_
  refine jT_xaload_n (v := (4, 1)) (pcN := 14) jI_203_13 rfl rfl rfl ?_
  refine jT_xiload_n (v := (0, 7 * x2)) (pcN := 15) jI_203_14 rfl rfl rfl ?_
  refine jT_xiload_n (v := (0, 1)) (pcN := 16) jI_203_15 rfl rfl rfl ?_
  refine jT_xiadd (x := 7 * x2) (y := 1) (z := 7 * x2 + 1) (pcN := 17) jI_203_16 rfl (by omega) rfl ?_
  refine jT_iald (x := 0) (a := 1) (j := (7 * x2 + 1).toNat) (fs := []) (X := jS0) (by rfl) (by rfl) (by rfl) (jw_nn (by omega) (by omega)) (jS0_r1 (by omega) (by omega)) ?_
  refine jT_eq (LN := [(3, (0, 1)), (0, (4, 0)), (1, (4, 1)), (2, (0, 7 * x2))]) (stN := [(0, 0), (0, 1), (4, 7)]) (hsN := jpA_130) rfl rfl rfl ?_
  refine jT_xi2l (x := 0) (z := 0) (pcN := 19) jI_203_18 rfl (by decide +kernel) rfl ?_
  refine jT_adv 1 (pcN := 20) (LN := [(3, (0, 1)), (0, (4, 0)), (1, (4, 1)), (2, (0, 7 * x2))]) (stN := []) (hsN := jpA_130) (c1 := 0) (s1 := 0) (c2 := 0) (s2 := 0) (by exact rfl) ?_ (by omega) (by omega)
  refine jT_xiinc (x := 1) (z := 2) (LN := [(3, (0, 2)), (0, (4, 0)), (1, (4, 1)), (2, (0, 7 * x2))]) (pcN := 23) jI_203_20 rfl rfl (by decide) rfl rfl ?_
  refine jT_xgoto (pcN := 2) jI_203_23 rfl ?_
  refine jT_xiload_n (v := (0, 2)) (pcN := 3) jI_203_2 rfl rfl rfl ?_
  refine jT_xbipush (k := 6) (pcN := 5) jI_203_3 (by decide) rfl ?_
  refine jT_xicF (t := 26) (pcN := 8) jI_203_5 rfl (by decide +kernel) rfl rfl ?_
  refine jT_xaload_n (v := (4, 0)) (pcN := 9) jI_203_8 rfl rfl rfl ?_
  refine jT_xgetf (a := 0) (t := 1) (ci := 14) (fi := 9) (c := jzA_21) (v := (4, 7)) (pcN := 12) jI_203_9 rfl rfl rfl rfl rfl rfl rfl ?_
  refine jT_xiload_n (v := (0, 2)) (pcN := 13) jI_203_12 rfl rfl rfl ?_
  refine jT_xaload_n (v := (4, 1)) (pcN := 14) jI_203_13 rfl rfl rfl ?_
  refine jT_xiload_n (v := (0, 7 * x2)) (pcN := 15) jI_203_14 rfl rfl rfl ?_
  refine jT_xiload_n (v := (0, 2)) (pcN := 16) jI_203_15 rfl rfl rfl ?_
  refine jT_xiadd (x := 7 * x2) (y := 2) (z := 7 * x2 + 2) (pcN := 17) jI_203_16 rfl (by omega) rfl ?_
  refine jT_iald (x := 0) (a := 1) (j := (7 * x2 + 2).toNat) (fs := []) (X := jS0) (by rfl) (by rfl) (by rfl) (jw_nn (by omega) (by omega)) (jS0_r2 (by omega) (by omega)) ?_
  refine jT_eq (LN := [(3, (0, 2)), (0, (4, 0)), (1, (4, 1)), (2, (0, 7 * x2))]) (stN := [(0, 0), (0, 2), (4, 7)]) (hsN := jpA_130) rfl rfl rfl ?_
  refine jT_xi2l (x := 0) (z := 0) (pcN := 19) jI_203_18 rfl (by decide +kernel) rfl ?_
  refine jT_adv 1 (pcN := 20) (LN := [(3, (0, 2)), (0, (4, 0)), (1, (4, 1)), (2, (0, 7 * x2))]) (stN := []) (hsN := jpA_130) (c1 := 0) (s1 := 0) (c2 := 0) (s2 := 0) (by exact rfl) ?_ (by omega) (by omega)
  refine jT_xiinc (x := 2) (z := 3) (LN := [(3, (0, 3)), (0, (4, 0)), (1, (4, 1)), (2, (0, 7 * x2))]) (pcN := 23) jI_203_20 rfl rfl (by decide) rfl rfl ?_
  refine jT_xgoto (pcN := 2) jI_203_23 rfl ?_
  refine jT_xiload_n (v := (0, 3)) (pcN := 3) jI_203_2 rfl rfl rfl ?_
  refine jT_xbipush (k := 6) (pcN := 5) jI_203_3 (by decide) rfl ?_
  refine jT_xicF (t := 26) (pcN := 8) jI_203_5 rfl (by decide +kernel) rfl rfl ?_
  refine jT_xaload_n (v := (4, 0)) (pcN := 9) jI_203_8 rfl rfl rfl ?_
  refine jT_xgetf (a := 0) (t := 1) (ci := 14) (fi := 9) (c := jzA_21) (v := (4, 7)) (pcN := 12) jI_203_9 rfl rfl rfl rfl rfl rfl rfl ?_
  refine jT_xiload_n (v := (0, 3)) (pcN := 13) jI_203_12 rfl rfl rfl ?_
  refine jT_xaload_n (v := (4, 1)) (pcN := 14) jI_203_13 rfl rfl rfl ?_
  refine jT_xiload_n (v := (0, 7 * x2)) (pcN := 15) jI_203_14 rfl rfl rfl ?_
  refine jT_xiload_n (v := (0, 3)) (pcN := 16) jI_203_15 rfl rfl rfl ?_
  refine jT_xiadd (x := 7 * x2) (y := 3) (z := 7 * x2 + 3) (pcN := 17) jI_203_16 rfl (by omega) rfl ?_
  refine jT_iald (x := 0) (a := 1) (j := (7 * x2 + 3).toNat) (fs := []) (X := jS0) (by rfl) (by rfl) (by rfl) (jw_nn (by omega) (by omega)) (jS0_r3 (by omega) (by omega)) ?_
  refine jT_eq (LN := [(3, (0, 3)), (0, (4, 0)), (1, (4, 1)), (2, (0, 7 * x2))]) (stN := [(0, 0), (0, 3), (4, 7)]) (hsN := jpA_130) rfl rfl rfl ?_
  refine jT_xi2l (x := 0) (z := 0) (pcN := 19) jI_203_18 rfl (by decide +kernel) rfl ?_
  refine jT_adv 1 (pcN := 20) (LN := [(3, (0, 3)), (0, (4, 0)), (1, (4, 1)), (2, (0, 7 * x2))]) (stN := []) (hsN := jpA_130) (c1 := 0) (s1 := 0) (c2 := 0) (s2 := 0) (by exact rfl) ?_ (by omega) (by omega)
  refine jT_xiinc (x := 3) (z := 4) (LN := [(3, (0, 4)), (0, (4, 0)), (1, (4, 1)), (2, (0, 7 * x2))]) (pcN := 23) jI_203_20 rfl rfl (by decide) rfl rfl ?_
  refine jT_xgoto (pcN := 2) jI_203_23 rfl ?_
  refine jT_xiload_n (v := (0, 4)) (pcN := 3) jI_203_2 rfl rfl rfl ?_
  refine jT_xbipush (k := 6) (pcN := 5) jI_203_3 (by decide) rfl ?_
  refine jT_xicF (t := 26) (pcN := 8) jI_203_5 rfl (by decide +kernel) rfl rfl ?_
  refine jT_xaload_n (v := (4, 0)) (pcN := 9) jI_203_8 rfl rfl rfl ?_
  refine jT_xgetf (a := 0) (t := 1) (ci := 14) (fi := 9) (c := jzA_21) (v := (4, 7)) (pcN := 12) jI_203_9 rfl rfl rfl rfl rfl rfl rfl ?_
  refine jT_xiload_n (v := (0, 4)) (pcN := 13) jI_203_12 rfl rfl rfl ?_
  refine jT_xaload_n (v := (4, 1)) (pcN := 14) jI_203_13 rfl rfl rfl ?_
  refine jT_xiload_n (v := (0, 7 * x2)) (pcN := 15) jI_203_14 rfl rfl rfl ?_
  refine jT_xiload_n (v := (0, 4)) (pcN := 16) jI_203_15 rfl rfl rfl ?_
  refine jT_xiadd (x := 7 * x2) (y := 4) (z := 7 * x2 + 4) (pcN := 17) jI_203_16 rfl (by omega) rfl ?_
  refine jT_iald (x := 0) (a := 1) (j := (7 * x2 + 4).toNat) (fs := []) (X := jS0) (by rfl) (by rfl) (by rfl) (jw_nn (by omega) (by omega)) (jS0_r4 (by omega) (by omega)) ?_
  refine jT_eq (LN := [(3, (0, 4)), (0, (4, 0)), (1, (4, 1)), (2, (0, 7 * x2))]) (stN := [(0, 0), (0, 4), (4, 7)]) (hsN := jpA_130) rfl rfl rfl ?_
  refine jT_xi2l (x := 0) (z := 0) (pcN := 19) jI_203_18 rfl (by decide +kernel) rfl ?_
  refine jT_adv 1 (pcN := 20) (LN := [(3, (0, 4)), (0, (4, 0)), (1, (4, 1)), (2, (0, 7 * x2))]) (stN := []) (hsN := jpA_130) (c1 := 0) (s1 := 0) (c2 := 0) (s2 := 0) (by exact rfl) ?_ (by omega) (by omega)
  refine jT_xiinc (x := 4) (z := 5) (LN := [(3, (0, 5)), (0, (4, 0)), (1, (4, 1)), (2, (0, 7 * x2))]) (pcN := 23) jI_203_20 rfl rfl (by decide) rfl rfl ?_
  refine jT_xgoto (pcN := 2) jI_203_23 rfl ?_
  refine jT_xiload_n (v := (0, 5)) (pcN := 3) jI_203_2 rfl rfl rfl ?_
  refine jT_xbipush (k := 6) (pcN := 5) jI_203_3 (by decide) rfl ?_
  refine jT_xicF (t := 26) (pcN := 8) jI_203_5 rfl (by decide +kernel) rfl rfl ?_
  refine jT_xaload_n (v := (4, 0)) (pcN := 9) jI_203_8 rfl rfl rfl ?_
  refine jT_xgetf (a := 0) (t := 1) (ci := 14) (fi := 9) (c := jzA_21) (v := (4, 7)) (pcN := 12) jI_203_9 rfl rfl rfl rfl rfl rfl rfl ?_
  refine jT_xiload_n (v := (0, 5)) (pcN := 13) jI_203_12 rfl rfl rfl ?_
  refine jT_xaload_n (v := (4, 1)) (pcN := 14) jI_203_13 rfl rfl rfl ?_
  refine jT_xiload_n (v := (0, 7 * x2)) (pcN := 15) jI_203_14 rfl rfl rfl ?_
  refine jT_xiload_n (v := (0, 5)) (pcN := 16) jI_203_15 rfl rfl rfl ?_
  refine jT_xiadd (x := 7 * x2) (y := 5) (z := 7 * x2 + 5) (pcN := 17) jI_203_16 rfl (by omega) rfl ?_
  refine jT_iald (x := 0) (a := 1) (j := (7 * x2 + 5).toNat) (fs := []) (X := jS0) (by rfl) (by rfl) (by rfl) (jw_nn (by omega) (by omega)) (jS0_r5 (by omega) (by omega)) ?_
  refine jT_eq (LN := [(3, (0, 5)), (0, (4, 0)), (1, (4, 1)), (2, (0, 7 * x2))]) (stN := [(0, 0), (0, 5), (4, 7)]) (hsN := jpA_130) rfl rfl rfl ?_
  refine jT_xi2l (x := 0) (z := 0) (pcN := 19) jI_203_18 rfl (by decide +kernel) rfl ?_
  refine jT_adv 1 (pcN := 20) (LN := [(3, (0, 5)), (0, (4, 0)), (1, (4, 1)), (2, (0, 7 * x2))]) (stN := []) (hsN := jpA_130) (c1 := 0) (s1 := 0) (c2 := 0) (s2 := 0) (by exact rfl) ?_ (by omega) (by omega)
  refine jT_xiinc (x := 5) (z := 6) (LN := [(3, (0, 6)), (0, (4, 0)), (1, (4, 1)), (2, (0, 7 * x2))]) (pcN := 23) jI_203_20 rfl rfl (by decide) rfl rfl ?_
  refine jT_xgoto (pcN := 2) jI_203_23 rfl ?_
  refine jT_xiload_n (v := (0, 6)) (pcN := 3) jI_203_2 rfl rfl rfl ?_
  refine jT_xbipush (k := 6) (pcN := 5) jI_203_3 (by decide) rfl ?_
  refine jT_xicT (pcN := 26) jI_203_5 rfl (by decide +kernel) rfl ?_
  refine jT_xaload_n (v := (4, 0)) (pcN := 27) jI_203_26 rfl rfl rfl ?_
  refine jT_xaload_n (v := (4, 1)) (pcN := 28) jI_203_27 rfl rfl rfl ?_
  refine jT_xiload_n (v := (0, 7 * x2)) (pcN := 29) jI_203_28 rfl rfl rfl ?_
  refine jT_xbipush (k := 6) (pcN := 31) jI_203_29 (by decide) rfl ?_
  refine jT_xiadd (x := 7 * x2) (y := 6) (z := 7 * x2 + 6) (pcN := 32) jI_203_31 rfl (by omega) rfl ?_
  refine jT_iald (x := 1) (a := 1) (j := (7 * x2 + 6).toNat) (fs := []) (X := jS0) (by rfl) (by rfl) (by rfl) (jw_nn (by omega) (by omega)) (jS0_r6 (by omega) (by omega)) ?_
  refine jT_eq (LN := [(3, (0, 6)), (0, (4, 0)), (1, (4, 1)), (2, (0, 7 * x2))]) (stN := [(0, 1), (4, 0)]) (hsN := jpA_130) rfl rfl rfl ?_
  refine jT_xi2l (x := 1) (z := 1) (pcN := 34) jI_203_33 rfl (by decide +kernel) rfl ?_
  refine jT_adv 1 (pcN := 37) (LN := [(3, (0, 6)), (0, (4, 0)), (1, (4, 1)), (2, (0, 7 * x2))]) (stN := []) (hsN := jpA_130) (c1 := 0) (s1 := 0) (c2 := 0) (s2 := 0) (by exact rfl) ?_ (by omega) (by omega)
  exact jT_ret rfl (by decide) (by show 16 ≤ 16; decide) (by omega) (by omega) ⟨rfl, rfl, rfl⟩
theorem jI_202_0 : jmI (jm 202) 0 = (.aload_n 0, 1) := by rfl
theorem jI_202_1 : jmI (jm 202) 1 = (.aload_n 0, 1) := by rfl
theorem jI_202_2 : jmI (jm 202) 2 = (.getfield 9, 3) := by rfl
theorem jI_202_5 : jmI (jm 202) 5 = (.bipush 7, 2) := by rfl
theorem jI_202_7 : jmI (jm 202) 7 = (.iload_n 1, 1) := by rfl
theorem jI_202_8 : jmI (jm 202) 8 = (.imul, 1) := by rfl
theorem jA_202_41 {xs : List Int} {d : Nat} {x2 : Int} (h_x2 : 0 ≤ x2 ∧ x2 ≤ 7) : jT xs (d + 1) 202 16 0 [(0, (4, 0)), (1, (0, x2))] [] jpA_130 0 0 (fun k v hsN => k = 0 ∧ v = (9, 0) ∧ hsN = jpA_130 ++ []) := by
  refine jT_xaload_n (v := (4, 0)) (pcN := 1) jI_202_0 rfl rfl rfl ?_
  refine jT_xaload_n (v := (4, 0)) (pcN := 2) jI_202_1 rfl rfl rfl ?_
  refine jT_xgetf (a := 0) (t := 1) (ci := 14) (fi := 1) (c := jzA_21) (v := (4, 1)) (pcN := 5) jI_202_2 rfl rfl rfl rfl rfl rfl rfl ?_
  refine jT_xbipush (k := 7) (pcN := 7) jI_202_5 (by decide) rfl ?_
  refine jT_xiload_n (v := (0, x2)) (pcN := 8) jI_202_7 rfl rfl rfl ?_
  refine jT_ximul (x := 7) (y := x2) (z := 7 * x2) (pcN := 9) jI_202_8 rfl (rfl) rfl ?_
  refine jT_fR [0, 1, 2, 3, 4, 5, 6, 7, 8, 9, 10, 11, 12, 13, 14, 15] 16 (y := 203) (pcN := 12) (dC := 0) (bc1 := 0) (bc2 := 0) (c1 := 0) (c2 := 0) (as := [(4, 0), (4, 1), (0, 7 * x2)]) (asC := [(4, 0), (4, 1), (0, 7 * x2)]) (LN := [(0, (4, 0)), (1, (0, x2))]) (stN := []) (hsC := jpA_130) (v := (9, 0)) (st2 := []) (jA_203_40 (d := 0) (by omega)) (by rfl) (by rfl) (by decide +kernel) (by rfl) (by rfl) (by omega) (by omega) (by omega) (by omega) rfl ?_
  exact jT_ret rfl (by decide) (by show 16 ≤ 16; decide) (by omega) (by omega) ⟨rfl, rfl, rfl⟩
theorem jA_194_42 {xs : List Int} {d : Nat} : jT xs d 194 0 0 [(0, (1, 1)), (2, (1, 0))] [] [] 0 0 (fun k v hsN => k = 0 ∧ v = (1, 1) ∧ hsN = [] ++ []) := by
  refine jT_advK 7 (pcN := 20) (LN := [(0, (1, 1)), (2, (1, 0))]) (stN := [(1, 1)]) (hsN := []) (c1 := 0) (s1 := 0) (c2 := 0) (s2 := 0) (by decide +kernel) ?_ (by omega) (by omega)
  exact jT_ret rfl (by decide) (by show 0 ≤ 0; decide) (by omega) (by omega) ⟨rfl, rfl, rfl⟩
theorem jA_194_43 {xs : List Int} {d : Nat} : jT xs (d + 1) 194 0 0 [(0, (1, 1)), (2, (1, 1))] [] [] 0 0 (fun k v hsN => k = 0 ∧ v = (1, 1) ∧ hsN = [] ++ []) := by
  refine jT_advK 8 (pcN := 17) (LN := [(0, (1, 1)), (2, (1, 1))]) (stN := [(1, 0), (1, 1)]) (hsN := []) (c1 := 0) (s1 := 0) (c2 := 0) (s2 := 0) (by decide +kernel) ?_ (by omega) (by omega)
  refine jT_fR [] 0 (y := 194) (pcN := 20) (dC := 0) (bc1 := 0) (bc2 := 0) (c1 := 0) (c2 := 0) (as := [(1, 1), (1, 0)]) (asC := [(1, 1), (1, 0)]) (LN := [(0, (1, 1)), (2, (1, 1))]) (stN := []) (hsC := []) (v := (1, 1)) (st2 := [(1, 1)]) (jA_194_42 (d := 0)) (by rfl) (by rfl) (by decide +kernel) (by rfl) (by rfl) (by omega) (by omega) (by omega) (by omega) rfl ?_
  exact jT_ret rfl (by decide) (by show 0 ≤ 0; decide) (by omega) (by omega) ⟨rfl, rfl, rfl⟩
theorem jA_200_44 {xs : List Int} {d : Nat} : jT xs d 200 1 0 [(0, (4, 0))] [] [(101, [], [0, 0, 0, 0, 0, 0])] 0 0 (fun k v hsN => k = 0 ∧ v = (0, 1) ∧ hsN = [(101, [], [0, 0, 0, 0, 0, 0])] ++ []) := by
  refine jT_advK 72 (pcN := 25) (LN := [(1, (0, 6)), (0, (4, 0))]) (stN := [(0, 1)]) (hsN := [(101, [], [0, 0, 0, 0, 0, 0])]) (c1 := 0) (s1 := 0) (c2 := 0) (s2 := 0) (by decide +kernel) ?_ (by omega) (by omega)
  exact jT_ret rfl (by decide) (by show 1 ≤ 1; decide) (by omega) (by omega) ⟨rfl, rfl, rfl⟩
def jpA_147 : List JC := [jzA_21, jgh, jgh, jgh, jgh, jgh, jgh, (101, [], [0, 0, 0, 0, 0, 0]), jgh, jgh, jgh, jgh, jgh, jgh, jgh, jgh]
theorem jA_199_45 {xs : List Int} {d : Nat} : jT xs (d + 1) 199 16 0 [(0, (4, 0))] [] jpA_147 0 0 (fun k v hsN => k = 0 ∧ v = (9, 0) ∧ hsN = jpA_147 ++ []) := by
  refine jT_advK 13 (pcN := 20) (LN := [(3, (0, 0)), (1, (1, 1)), (0, (4, 0))]) (stN := [(1, 0), (1, 1)]) (hsN := jpA_147) (c1 := 0) (s1 := 0) (c2 := 0) (s2 := 0) (by decide +kernel) ?_ (by omega) (by omega)
  refine jT_fR [] 16 (y := 194) (pcN := 23) (dC := 0) (bc1 := 0) (bc2 := 0) (c1 := 0) (c2 := 0) (as := [(1, 1), (1, 0)]) (asC := [(1, 1), (1, 0)]) (LN := [(3, (0, 0)), (1, (1, 1)), (0, (4, 0))]) (stN := []) (hsC := []) (v := (1, 1)) (st2 := [(1, 1)]) (jA_194_42 (d := 0)) (by rfl) (by rfl) (by decide +kernel) (by rfl) (by rfl) (by omega) (by omega) (by omega) (by omega) rfl ?_
  refine jT_advK 11 (pcN := 20) (LN := [(3, (0, 1)), (1, (1, 1)), (0, (4, 0))]) (stN := [(1, 0), (1, 1)]) (hsN := jpA_147) (c1 := 0) (s1 := 0) (c2 := 0) (s2 := 0) (by decide +kernel) ?_ (by omega) (by omega)
  refine jT_fR [] 16 (y := 194) (pcN := 23) (dC := 0) (bc1 := 0) (bc2 := 0) (c1 := 0) (c2 := 0) (as := [(1, 1), (1, 0)]) (asC := [(1, 1), (1, 0)]) (LN := [(3, (0, 1)), (1, (1, 1)), (0, (4, 0))]) (stN := []) (hsC := []) (v := (1, 1)) (st2 := [(1, 1)]) (jA_194_42 (d := 0)) (by rfl) (by rfl) (by decide +kernel) (by rfl) (by rfl) (by omega) (by omega) (by omega) (by omega) rfl ?_
  refine jT_advK 11 (pcN := 20) (LN := [(3, (0, 2)), (1, (1, 1)), (0, (4, 0))]) (stN := [(1, 0), (1, 1)]) (hsN := jpA_147) (c1 := 0) (s1 := 0) (c2 := 0) (s2 := 0) (by decide +kernel) ?_ (by omega) (by omega)
  refine jT_fR [] 16 (y := 194) (pcN := 23) (dC := 0) (bc1 := 0) (bc2 := 0) (c1 := 0) (c2 := 0) (as := [(1, 1), (1, 0)]) (asC := [(1, 1), (1, 0)]) (LN := [(3, (0, 2)), (1, (1, 1)), (0, (4, 0))]) (stN := []) (hsC := []) (v := (1, 1)) (st2 := [(1, 1)]) (jA_194_42 (d := 0)) (by rfl) (by rfl) (by decide +kernel) (by rfl) (by rfl) (by omega) (by omega) (by omega) (by omega) rfl ?_
  refine jT_advK 11 (pcN := 20) (LN := [(3, (0, 3)), (1, (1, 1)), (0, (4, 0))]) (stN := [(1, 0), (1, 1)]) (hsN := jpA_147) (c1 := 0) (s1 := 0) (c2 := 0) (s2 := 0) (by decide +kernel) ?_ (by omega) (by omega)
  refine jT_fR [] 16 (y := 194) (pcN := 23) (dC := 0) (bc1 := 0) (bc2 := 0) (c1 := 0) (c2 := 0) (as := [(1, 1), (1, 0)]) (asC := [(1, 1), (1, 0)]) (LN := [(3, (0, 3)), (1, (1, 1)), (0, (4, 0))]) (stN := []) (hsC := []) (v := (1, 1)) (st2 := [(1, 1)]) (jA_194_42 (d := 0)) (by rfl) (by rfl) (by decide +kernel) (by rfl) (by rfl) (by omega) (by omega) (by omega) (by omega) rfl ?_
  refine jT_advK 11 (pcN := 20) (LN := [(3, (0, 4)), (1, (1, 1)), (0, (4, 0))]) (stN := [(1, 0), (1, 1)]) (hsN := jpA_147) (c1 := 0) (s1 := 0) (c2 := 0) (s2 := 0) (by decide +kernel) ?_ (by omega) (by omega)
  refine jT_fR [] 16 (y := 194) (pcN := 23) (dC := 0) (bc1 := 0) (bc2 := 0) (c1 := 0) (c2 := 0) (as := [(1, 1), (1, 0)]) (asC := [(1, 1), (1, 0)]) (LN := [(3, (0, 4)), (1, (1, 1)), (0, (4, 0))]) (stN := []) (hsC := []) (v := (1, 1)) (st2 := [(1, 1)]) (jA_194_42 (d := 0)) (by rfl) (by rfl) (by decide +kernel) (by rfl) (by rfl) (by omega) (by omega) (by omega) (by omega) rfl ?_
  refine jT_advK 11 (pcN := 20) (LN := [(3, (0, 5)), (1, (1, 1)), (0, (4, 0))]) (stN := [(1, 0), (1, 1)]) (hsN := jpA_147) (c1 := 0) (s1 := 0) (c2 := 0) (s2 := 0) (by decide +kernel) ?_ (by omega) (by omega)
  refine jT_fR [] 16 (y := 194) (pcN := 23) (dC := 0) (bc1 := 0) (bc2 := 0) (c1 := 0) (c2 := 0) (as := [(1, 1), (1, 0)]) (asC := [(1, 1), (1, 0)]) (LN := [(3, (0, 5)), (1, (1, 1)), (0, (4, 0))]) (stN := []) (hsC := []) (v := (1, 1)) (st2 := [(1, 1)]) (jA_194_42 (d := 0)) (by rfl) (by rfl) (by decide +kernel) (by rfl) (by rfl) (by omega) (by omega) (by omega) (by omega) rfl ?_
  refine jT_advK 8 (pcN := 34) (LN := [(3, (0, 6)), (1, (1, 1)), (0, (4, 0))]) (stN := [(4, 7)]) (hsN := jpA_147) (c1 := 0) (s1 := 0) (c2 := 0) (s2 := 0) (by decide +kernel) ?_ (by omega) (by omega)
  refine jT_fR [7] 16 (y := 200) (pcN := 37) (dC := 0) (bc1 := 0) (bc2 := 0) (c1 := 0) (c2 := 0) (as := [(4, 7)]) (asC := [(4, 0)]) (LN := [(3, (0, 6)), (1, (1, 1)), (0, (4, 0))]) (stN := []) (hsC := [(101, [], [0, 0, 0, 0, 0, 0])]) (v := (0, 1)) (st2 := [(0, 1)]) (jA_200_44 (d := 0)) (by rfl) (by rfl) (by decide +kernel) (by rfl) (by rfl) (by omega) (by omega) (by omega) (by omega) rfl ?_
  refine jT_advK 93 (pcN := 79) (LN := [(3, (0, 6)), (1, (1, 1)), (0, (4, 0))]) (stN := []) (hsN := jpA_147) (c1 := 0) (s1 := 0) (c2 := 0) (s2 := 0) (by decide +kernel) ?_ (by omega) (by omega)
  exact jT_ret rfl (by decide) (by show 16 ≤ 16; decide) (by omega) (by omega) ⟨rfl, rfl, rfl⟩
theorem jI_204_0 : jmI (jm 204) 0 = (.aload_n 1, 1) := by rfl
theorem jI_204_1 : jmI (jm 204) 1 = (.iload_n 2, 1) := by rfl
theorem jI_204_2 : jmI (jm 204) 2 = (.bipush 6, 2) := by rfl
theorem jI_204_4 : jmI (jm 204) 4 = (.iadd, 1) := by rfl
theorem jI_204_5 : jmI (jm 204) 5 = (.iaload, 1) := by rfl
theorem jI_204_6 : jmI (jm 204) 6 = (.i2l, 1) := by rfl
theorem jI_204_7 : jmI (jm 204) 7 = (.lstore 5, 2) := by rfl
theorem jI_204_9 : jmI (jm 204) 9 = (.aload_n 0, 1) := by rfl
theorem jI_204_10 : jmI (jm 204) 10 = (.getfield 35, 3) := by rfl
theorem jI_204_13 : jmI (jm 204) 13 = (.aload_n 0, 1) := by rfl
theorem jI_204_14 : jmI (jm 204) 14 = (.getfield 35, 3) := by rfl
theorem jI_204_17 : jmI (jm 204) 17 = (.lload 5, 2) := by rfl
theorem jI_204_23 : jmI (jm 204) 23 = (.lload 5, 2) := by rfl
theorem jI_204_25 : jmI (jm 204) 25 = (.lmul, 1) := by rfl
theorem jI_204_26 : jmI (jm 204) 26 = (.lstore 7, 2) := by rfl
theorem jI_204_28 : jmI (jm 204) 28 = (.iconst 0, 1) := by rfl
theorem jI_204_29 : jmI (jm 204) 29 = (.istore 9, 2) := by rfl
theorem jI_204_31 : jmI (jm 204) 31 = (.iload 9, 2) := by rfl
theorem jI_204_33 : jmI (jm 204) 33 = (.bipush 6, 2) := by rfl
theorem jI_204_35 : jmI (jm 204) 35 = (.if_icmp .ge 47, 3) := by rfl
theorem jI_204_38 : jmI (jm 204) 38 = (.aload_n 0, 1) := by rfl
theorem jI_204_39 : jmI (jm 204) 39 = (.getfield 31, 3) := by rfl
theorem jI_204_42 : jmI (jm 204) 42 = (.iload 9, 2) := by rfl
theorem jI_204_44 : jmI (jm 204) 44 = (.aload_n 0, 1) := by rfl
theorem jI_204_45 : jmI (jm 204) 45 = (.getfield 31, 3) := by rfl
theorem jI_204_48 : jmI (jm 204) 48 = (.iload 9, 2) := by rfl
theorem jI_204_50 : jmI (jm 204) 50 = (.laload, 1) := by rfl
theorem jI_204_51 : jmI (jm 204) 51 = (.lload 7, 2) := by rfl
theorem jI_204_53 : jmI (jm 204) 53 = (.aload_n 0, 1) := by rfl
theorem jI_204_54 : jmI (jm 204) 54 = (.getfield 35, 3) := by rfl
theorem jI_204_58 : jmI (jm 204) 58 = (.lmul, 1) := by rfl
theorem jI_204_59 : jmI (jm 204) 59 = (.lload_n 3, 1) := by rfl
theorem jI_204_60 : jmI (jm 204) 60 = (.aload_n 1, 1) := by rfl
theorem jI_204_61 : jmI (jm 204) 61 = (.iload_n 2, 1) := by rfl
theorem jI_204_62 : jmI (jm 204) 62 = (.iload 9, 2) := by rfl
theorem jI_204_64 : jmI (jm 204) 64 = (.iadd, 1) := by rfl
theorem jI_204_65 : jmI (jm 204) 65 = (.iaload, 1) := by rfl
theorem jI_204_66 : jmI (jm 204) 66 = (.i2l, 1) := by rfl
theorem jI_204_67 : jmI (jm 204) 67 = (.lmul, 1) := by rfl
theorem jI_204_68 : jmI (jm 204) 68 = (.lload 7, 2) := by rfl
theorem jI_204_70 : jmI (jm 204) 70 = (.lload 5, 2) := by rfl
theorem jI_204_73 : jmI (jm 204) 73 = (.lmul, 1) := by rfl
theorem jI_204_74 : jmI (jm 204) 74 = (.ladd, 1) := by rfl
theorem jI_204_76 : jmI (jm 204) 76 = (.iinc 9 1, 3) := by rfl
theorem jI_204_79 : jmI (jm 204) 79 = (.goto (-48), 3) := by rfl
theorem jI_204_82 : jmI (jm 204) 82 = (.aload_n 0, 1) := by rfl
theorem jI_204_83 : jmI (jm 204) 83 = (.lload 7, 2) := by rfl
theorem jI_204_88 : jmI (jm 204) 88 = (.aload_n 0, 1) := by rfl
theorem jA_204_46 {xs : List Int} {d : Nat} {x3 : Int} (h_x3 : 0 ≤ x3 ∧ x3 ≤ 7) : jT xs (d + 2) 204 16 0 [(0, (4, 0)), (1, (4, 1)), (2, (0, 7 * x3)), (3, (1, (-1)))] [] jpA_130 0 0 (fun k v hsN => k = 0 ∧ v = (9, 0) ∧ hsN = jpA_130 ++ []) := by
  refine jT_xaload_n (v := (4, 1)) (pcN := 1) jI_204_0 rfl rfl rfl ?_
  refine jT_xiload_n (v := (0, 7 * x3)) (pcN := 2) jI_204_1 rfl rfl rfl ?_
  refine jT_xbipush (k := 6) (pcN := 4) jI_204_2 (by decide) rfl ?_
  refine jT_xiadd (x := 7 * x3) (y := 6) (z := 7 * x3 + 6) (pcN := 5) jI_204_4 rfl (by omega) rfl ?_
  refine jT_iald (x := 1) (a := 1) (j := (7 * x3 + 6).toNat) (fs := []) (X := jS0) (by rfl) (by rfl) (by rfl) (jw_nn (by omega) (by omega)) (jS0_r6 (by omega) (by omega)) ?_
  refine jT_eq (LN := [(0, (4, 0)), (1, (4, 1)), (2, (0, 7 * x3)), (3, (1, (-1)))]) (stN := [(0, 1)]) (hsN := jpA_130) rfl rfl rfl ?_
  refine jT_xi2l (x := 1) (z := 1) (pcN := 7) jI_204_6 rfl (by decide +kernel) rfl ?_
  refine jT_xlstore (v := (1, 1)) (LN := [(5, (1, 1)), (0, (4, 0)), (1, (4, 1)), (2, (0, 7 * x3)), (3, (1, (-1)))]) (pcN := 9) jI_204_7 rfl rfl rfl rfl ?_
  refine jT_xaload_n (v := (4, 0)) (pcN := 10) jI_204_9 rfl rfl rfl ?_
  refine jT_xgetf (a := 0) (t := 1) (ci := 14) (fi := 10) (c := jzA_21) (v := (1, 1)) (pcN := 13) jI_204_10 rfl rfl rfl rfl rfl rfl rfl ?_
  refine jT_xaload_n (v := (4, 0)) (pcN := 14) jI_204_13 rfl rfl rfl ?_
  refine jT_xgetf (a := 0) (t := 1) (ci := 14) (fi := 10) (c := jzA_21) (v := (1, 1)) (pcN := 17) jI_204_14 rfl rfl rfl rfl rfl rfl rfl ?_
  refine jT_xlload (v := (1, 1)) (pcN := 19) jI_204_17 rfl rfl rfl ?_
  refine jT_fR [] 16 (y := 194) (pcN := 22) (dC := 1) (bc1 := 0) (bc2 := 0) (c1 := 0) (c2 := 0) (as := [(1, 1), (1, 1)]) (asC := [(1, 1), (1, 1)]) (LN := [(5, (1, 1)), (0, (4, 0)), (1, (4, 1)), (2, (0, 7 * x3)), (3, (1, (-1)))]) (stN := [(1, 1)]) (hsC := []) (v := (1, 1)) (st2 := [(1, 1), (1, 1)]) (jA_194_43 (d := 0)) (by rfl) (by rfl) (by decide +kernel) (by rfl) (by rfl) (by omega) (by omega) (by omega) (by omega) rfl ?_
  refine jT_ldiv (a := 1) (b := 1) (by rfl) (by rfl) (by decide +kernel) (by decide +kernel) (by decide) ?_
  refine jT_eq (LN := [(5, (1, 1)), (0, (4, 0)), (1, (4, 1)), (2, (0, 7 * x3)), (3, (1, (-1)))]) (stN := [(1, 1)]) (hsN := jpA_130) rfl (by rw [show (1 : Int).tdiv 1 = 1 by decide +kernel]) rfl ?_
  refine jT_xlload (v := (1, 1)) (pcN := 25) jI_204_23 rfl rfl rfl ?_
  refine jT_xlmul (x := 1) (y := 1) (z := 1) (pcN := 26) jI_204_25 rfl (by decide) rfl ?_
  refine jT_xlstore (v := (1, 1)) (LN := [(7, (1, 1)), (5, (1, 1)), (0, (4, 0)), (1, (4, 1)), (2, (0, 7 * x3)), (3, (1, (-1)))]) (pcN := 28) jI_204_26 rfl rfl rfl rfl ?_
  refine jT_xiconst (k := 0) (pcN := 29) jI_204_28 rfl ?_
  refine jT_xistore (v := (0, 0)) (LN := [(9, (0, 0)), (7, (1, 1)), (5, (1, 1)), (0, (4, 0)), (1, (4, 1)), (2, (0, 7 * x3)), (3, (1, (-1)))]) (pcN := 31) jI_204_29 rfl rfl rfl rfl ?_
  refine jT_xiload (v := (0, 0)) (pcN := 33) jI_204_31 rfl rfl rfl ?_
  refine jT_xbipush (k := 6) (pcN := 35) jI_204_33 (by decide) rfl ?_
  refine jT_xicF (t := 82) (pcN := 38) jI_204_35 rfl (by decide +kernel) rfl rfl ?_
  refine jT_xaload_n (v := (4, 0)) (pcN := 39) jI_204_38 rfl rfl rfl ?_
  refine jT_xgetf (a := 0) (t := 1) (ci := 14) (fi := 9) (c := jzA_21) (v := (4, 7)) (pcN := 42) jI_204_39 rfl rfl rfl rfl rfl rfl rfl ?_
  refine jT_xiload (v := (0, 0)) (pcN := 44) jI_204_42 rfl rfl rfl ?_
  refine jT_xaload_n (v := (4, 0)) (pcN := 45) jI_204_44 rfl rfl rfl ?_
  refine jT_xgetf (a := 0) (t := 1) (ci := 14) (fi := 9) (c := jzA_21) (v := (4, 7)) (pcN := 48) jI_204_45 rfl rfl rfl rfl rfl rfl rfl ?_
  refine jT_xiload (v := (0, 0)) (pcN := 50) jI_204_48 rfl rfl rfl ?_
  refine jT_lald (x := 0) (a := 7) (j := 0) (fs := []) (X := [0, 0, 0, 0, 0, 0]) jI_204_50 rfl rfl rfl rfl ?_
  refine jT_eq (LN := [(9, (0, 0)), (7, (1, 1)), (5, (1, 1)), (0, (4, 0)), (1, (4, 1)), (2, (0, 7 * x3)), (3, (1, (-1)))]) (stN := [(1, 0), (0, 0), (4, 7)]) (hsN := jpA_130) rfl rfl rfl ?_
  refine jT_xlload (v := (1, 1)) (pcN := 53) jI_204_51 rfl rfl rfl ?_
  refine jT_xaload_n (v := (4, 0)) (pcN := 54) jI_204_53 rfl rfl rfl ?_
  refine jT_xgetf (a := 0) (t := 1) (ci := 14) (fi := 10) (c := jzA_21) (v := (1, 1)) (pcN := 57) jI_204_54 rfl rfl rfl rfl rfl rfl rfl ?_
  refine jT_ldiv (a := 1) (b := 1) (by rfl) (by rfl) (by decide +kernel) (by decide +kernel) (by decide) ?_
  refine jT_eq (LN := [(9, (0, 0)), (7, (1, 1)), (5, (1, 1)), (0, (4, 0)), (1, (4, 1)), (2, (0, 7 * x3)), (3, (1, (-1)))]) (stN := [(1, 1), (1, 0), (0, 0), (4, 7)]) (hsN := jpA_130) rfl (by rw [show (1 : Int).tdiv 1 = 1 by decide +kernel]) rfl ?_
  refine jT_xlmul (x := 0) (y := 1) (z := 0) (pcN := 59) jI_204_58 rfl (by decide) rfl ?_
  refine jT_xlload_n (v := (1, (-1))) (pcN := 60) jI_204_59 rfl rfl rfl ?_
  refine jT_xaload_n (v := (4, 1)) (pcN := 61) jI_204_60 rfl rfl rfl ?_
  refine jT_xiload_n (v := (0, 7 * x3)) (pcN := 62) jI_204_61 rfl rfl rfl ?_
  refine jT_xiload (v := (0, 0)) (pcN := 64) jI_204_62 rfl rfl rfl ?_
  refine jT_xiadd (x := 7 * x3) (y := 0) (z := 7 * x3) (pcN := 65) jI_204_64 rfl (by omega) rfl ?_
  refine jT_iald (x := 0) (a := 1) (j := (7 * x3).toNat) (fs := []) (X := jS0) (by rfl) (by rfl) (by rfl) (jw_nn (by omega) (by omega)) (jS0_r0 (by omega) (by omega)) ?_
  refine jT_eq (LN := [(9, (0, 0)), (7, (1, 1)), (5, (1, 1)), (0, (4, 0)), (1, (4, 1)), (2, (0, 7 * x3)), (3, (1, (-1)))]) (stN := [(0, 0), (1, (-1)), (1, 0), (0, 0), (4, 7)]) (hsN := jpA_130) rfl rfl rfl ?_
  refine jT_xi2l (x := 0) (z := 0) (pcN := 67) jI_204_66 rfl (by decide +kernel) rfl ?_
  refine jT_xlmul (x := (-1)) (y := 0) (z := 0) (pcN := 68) jI_204_67 rfl (by decide) rfl ?_
  refine jT_xlload (v := (1, 1)) (pcN := 70) jI_204_68 rfl rfl rfl ?_
  refine jT_xlload (v := (1, 1)) (pcN := 72) jI_204_70 rfl rfl rfl ?_
  refine jT_ldiv (a := 1) (b := 1) (by rfl) (by rfl) (by decide +kernel) (by decide +kernel) (by decide) ?_
  refine jT_eq (LN := [(9, (0, 0)), (7, (1, 1)), (5, (1, 1)), (0, (4, 0)), (1, (4, 1)), (2, (0, 7 * x3)), (3, (1, (-1)))]) (stN := [(1, 1), (1, 0), (1, 0), (0, 0), (4, 7)]) (hsN := jpA_130) rfl (by rw [show (1 : Int).tdiv 1 = 1 by decide +kernel]) rfl ?_
  refine jT_xlmul (x := 0) (y := 1) (z := 0) (pcN := 74) jI_204_73 rfl (by decide) rfl ?_
  refine jT_xladd (x := 0) (y := 0) (z := 0) (pcN := 75) jI_204_74 rfl (by decide) rfl ?_
  refine jT_adv 1 (pcN := 76) (LN := [(9, (0, 0)), (7, (1, 1)), (5, (1, 1)), (0, (4, 0)), (1, (4, 1)), (2, (0, 7 * x3)), (3, (1, (-1)))]) (stN := []) (hsN := jpA_130) (c1 := 0) (s1 := 0) (c2 := 0) (s2 := 0) (by exact rfl) ?_ (by omega) (by omega)
  refine jT_xiinc (x := 0) (z := 1) (LN := [(9, (0, 1)), (7, (1, 1)), (5, (1, 1)), (0, (4, 0)), (1, (4, 1)), (2, (0, 7 * x3)), (3, (1, (-1)))]) (pcN := 79) jI_204_76 rfl rfl (by decide) rfl rfl ?_
  refine jT_xgoto (pcN := 31) jI_204_79 rfl ?_
  refine jT_xiload (v := (0, 1)) (pcN := 33) jI_204_31 rfl rfl rfl ?_
  refine jT_xbipush (k := 6) (pcN := 35) jI_204_33 (by decide) rfl ?_
  refine jT_xicF (t := 82) (pcN := 38) jI_204_35 rfl (by decide +kernel) rfl rfl ?_
  refine jT_xaload_n (v := (4, 0)) (pcN := 39) jI_204_38 rfl rfl rfl ?_
  refine jT_xgetf (a := 0) (t := 1) (ci := 14) (fi := 9) (c := jzA_21) (v := (4, 7)) (pcN := 42) jI_204_39 rfl rfl rfl rfl rfl rfl rfl ?_
  refine jT_xiload (v := (0, 1)) (pcN := 44) jI_204_42 rfl rfl rfl ?_
  refine jT_xaload_n (v := (4, 0)) (pcN := 45) jI_204_44 rfl rfl rfl ?_
  refine jT_xgetf (a := 0) (t := 1) (ci := 14) (fi := 9) (c := jzA_21) (v := (4, 7)) (pcN := 48) jI_204_45 rfl rfl rfl rfl rfl rfl rfl ?_
  refine jT_xiload (v := (0, 1)) (pcN := 50) jI_204_48 rfl rfl rfl ?_
  refine jT_lald (x := 0) (a := 7) (j := 1) (fs := []) (X := [0, 0, 0, 0, 0, 0]) jI_204_50 rfl rfl rfl rfl ?_
  refine jT_eq (LN := [(9, (0, 1)), (7, (1, 1)), (5, (1, 1)), (0, (4, 0)), (1, (4, 1)), (2, (0, 7 * x3)), (3, (1, (-1)))]) (stN := [(1, 0), (0, 1), (4, 7)]) (hsN := jpA_130) rfl rfl rfl ?_
  refine jT_xlload (v := (1, 1)) (pcN := 53) jI_204_51 rfl rfl rfl ?_
  refine jT_xaload_n (v := (4, 0)) (pcN := 54) jI_204_53 rfl rfl rfl ?_
  refine jT_xgetf (a := 0) (t := 1) (ci := 14) (fi := 10) (c := jzA_21) (v := (1, 1)) (pcN := 57) jI_204_54 rfl rfl rfl rfl rfl rfl rfl ?_
  refine jT_ldiv (a := 1) (b := 1) (by rfl) (by rfl) (by decide +kernel) (by decide +kernel) (by decide) ?_
  refine jT_eq (LN := [(9, (0, 1)), (7, (1, 1)), (5, (1, 1)), (0, (4, 0)), (1, (4, 1)), (2, (0, 7 * x3)), (3, (1, (-1)))]) (stN := [(1, 1), (1, 0), (0, 1), (4, 7)]) (hsN := jpA_130) rfl (by rw [show (1 : Int).tdiv 1 = 1 by decide +kernel]) rfl ?_
  refine jT_xlmul (x := 0) (y := 1) (z := 0) (pcN := 59) jI_204_58 rfl (by decide) rfl ?_
  refine jT_xlload_n (v := (1, (-1))) (pcN := 60) jI_204_59 rfl rfl rfl ?_
  refine jT_xaload_n (v := (4, 1)) (pcN := 61) jI_204_60 rfl rfl rfl ?_
  refine jT_xiload_n (v := (0, 7 * x3)) (pcN := 62) jI_204_61 rfl rfl rfl ?_
  refine jT_xiload (v := (0, 1)) (pcN := 64) jI_204_62 rfl rfl rfl ?_
  refine jT_xiadd (x := 7 * x3) (y := 1) (z := 7 * x3 + 1) (pcN := 65) jI_204_64 rfl (by omega) rfl ?_
  refine jT_iald (x := 0) (a := 1) (j := (7 * x3 + 1).toNat) (fs := []) (X := jS0) (by rfl) (by rfl) (by rfl) (jw_nn (by omega) (by omega)) (jS0_r1 (by omega) (by omega)) ?_
  refine jT_eq (LN := [(9, (0, 1)), (7, (1, 1)), (5, (1, 1)), (0, (4, 0)), (1, (4, 1)), (2, (0, 7 * x3)), (3, (1, (-1)))]) (stN := [(0, 0), (1, (-1)), (1, 0), (0, 1), (4, 7)]) (hsN := jpA_130) rfl rfl rfl ?_
  refine jT_xi2l (x := 0) (z := 0) (pcN := 67) jI_204_66 rfl (by decide +kernel) rfl ?_
  refine jT_xlmul (x := (-1)) (y := 0) (z := 0) (pcN := 68) jI_204_67 rfl (by decide) rfl ?_
  refine jT_xlload (v := (1, 1)) (pcN := 70) jI_204_68 rfl rfl rfl ?_
  refine jT_xlload (v := (1, 1)) (pcN := 72) jI_204_70 rfl rfl rfl ?_
  refine jT_ldiv (a := 1) (b := 1) (by rfl) (by rfl) (by decide +kernel) (by decide +kernel) (by decide) ?_
  refine jT_eq (LN := [(9, (0, 1)), (7, (1, 1)), (5, (1, 1)), (0, (4, 0)), (1, (4, 1)), (2, (0, 7 * x3)), (3, (1, (-1)))]) (stN := [(1, 1), (1, 0), (1, 0), (0, 1), (4, 7)]) (hsN := jpA_130) rfl (by rw [show (1 : Int).tdiv 1 = 1 by decide +kernel]) rfl ?_
  refine jT_xlmul (x := 0) (y := 1) (z := 0) (pcN := 74) jI_204_73 rfl (by decide) rfl ?_
  refine jT_xladd (x := 0) (y := 0) (z := 0) (pcN := 75) jI_204_74 rfl (by decide) rfl ?_
  refine jT_adv 1 (pcN := 76) (LN := [(9, (0, 1)), (7, (1, 1)), (5, (1, 1)), (0, (4, 0)), (1, (4, 1)), (2, (0, 7 * x3)), (3, (1, (-1)))]) (stN := []) (hsN := jpA_130) (c1 := 0) (s1 := 0) (c2 := 0) (s2 := 0) (by exact rfl) ?_ (by omega) (by omega)
  refine jT_xiinc (x := 1) (z := 2) (LN := [(9, (0, 2)), (7, (1, 1)), (5, (1, 1)), (0, (4, 0)), (1, (4, 1)), (2, (0, 7 * x3)), (3, (1, (-1)))]) (pcN := 79) jI_204_76 rfl rfl (by decide) rfl rfl ?_
  refine jT_xgoto (pcN := 31) jI_204_79 rfl ?_
  refine jT_xiload (v := (0, 2)) (pcN := 33) jI_204_31 rfl rfl rfl ?_
  refine jT_xbipush (k := 6) (pcN := 35) jI_204_33 (by decide) rfl ?_
  refine jT_xicF (t := 82) (pcN := 38) jI_204_35 rfl (by decide +kernel) rfl rfl ?_
  refine jT_xaload_n (v := (4, 0)) (pcN := 39) jI_204_38 rfl rfl rfl ?_
  refine jT_xgetf (a := 0) (t := 1) (ci := 14) (fi := 9) (c := jzA_21) (v := (4, 7)) (pcN := 42) jI_204_39 rfl rfl rfl rfl rfl rfl rfl ?_
  refine jT_xiload (v := (0, 2)) (pcN := 44) jI_204_42 rfl rfl rfl ?_
  refine jT_xaload_n (v := (4, 0)) (pcN := 45) jI_204_44 rfl rfl rfl ?_
  refine jT_xgetf (a := 0) (t := 1) (ci := 14) (fi := 9) (c := jzA_21) (v := (4, 7)) (pcN := 48) jI_204_45 rfl rfl rfl rfl rfl rfl rfl ?_
  refine jT_xiload (v := (0, 2)) (pcN := 50) jI_204_48 rfl rfl rfl ?_
  refine jT_lald (x := 0) (a := 7) (j := 2) (fs := []) (X := [0, 0, 0, 0, 0, 0]) jI_204_50 rfl rfl rfl rfl ?_
  refine jT_eq (LN := [(9, (0, 2)), (7, (1, 1)), (5, (1, 1)), (0, (4, 0)), (1, (4, 1)), (2, (0, 7 * x3)), (3, (1, (-1)))]) (stN := [(1, 0), (0, 2), (4, 7)]) (hsN := jpA_130) rfl rfl rfl ?_
  refine jT_xlload (v := (1, 1)) (pcN := 53) jI_204_51 rfl rfl rfl ?_
  refine jT_xaload_n (v := (4, 0)) (pcN := 54) jI_204_53 rfl rfl rfl ?_
  refine jT_xgetf (a := 0) (t := 1) (ci := 14) (fi := 10) (c := jzA_21) (v := (1, 1)) (pcN := 57) jI_204_54 rfl rfl rfl rfl rfl rfl rfl ?_
  refine jT_ldiv (a := 1) (b := 1) (by rfl) (by rfl) (by decide +kernel) (by decide +kernel) (by decide) ?_
  refine jT_eq (LN := [(9, (0, 2)), (7, (1, 1)), (5, (1, 1)), (0, (4, 0)), (1, (4, 1)), (2, (0, 7 * x3)), (3, (1, (-1)))]) (stN := [(1, 1), (1, 0), (0, 2), (4, 7)]) (hsN := jpA_130) rfl (by rw [show (1 : Int).tdiv 1 = 1 by decide +kernel]) rfl ?_
  refine jT_xlmul (x := 0) (y := 1) (z := 0) (pcN := 59) jI_204_58 rfl (by decide) rfl ?_
  refine jT_xlload_n (v := (1, (-1))) (pcN := 60) jI_204_59 rfl rfl rfl ?_
  refine jT_xaload_n (v := (4, 1)) (pcN := 61) jI_204_60 rfl rfl rfl ?_
  refine jT_xiload_n (v := (0, 7 * x3)) (pcN := 62) jI_204_61 rfl rfl rfl ?_
  refine jT_xiload (v := (0, 2)) (pcN := 64) jI_204_62 rfl rfl rfl ?_
  refine jT_xiadd (x := 7 * x3) (y := 2) (z := 7 * x3 + 2) (pcN := 65) jI_204_64 rfl (by omega) rfl ?_
  refine jT_iald (x := 0) (a := 1) (j := (7 * x3 + 2).toNat) (fs := []) (X := jS0) (by rfl) (by rfl) (by rfl) (jw_nn (by omega) (by omega)) (jS0_r2 (by omega) (by omega)) ?_
  refine jT_eq (LN := [(9, (0, 2)), (7, (1, 1)), (5, (1, 1)), (0, (4, 0)), (1, (4, 1)), (2, (0, 7 * x3)), (3, (1, (-1)))]) (stN := [(0, 0), (1, (-1)), (1, 0), (0, 2), (4, 7)]) (hsN := jpA_130) rfl rfl rfl ?_
  refine jT_xi2l (x := 0) (z := 0) (pcN := 67) jI_204_66 rfl (by decide +kernel) rfl ?_
  refine jT_xlmul (x := (-1)) (y := 0) (z := 0) (pcN := 68) jI_204_67 rfl (by decide) rfl ?_
  refine jT_xlload (v := (1, 1)) (pcN := 70) jI_204_68 rfl rfl rfl ?_
  refine jT_xlload (v := (1, 1)) (pcN := 72) jI_204_70 rfl rfl rfl ?_
  refine jT_ldiv (a := 1) (b := 1) (by rfl) (by rfl) (by decide +kernel) (by decide +kernel) (by decide) ?_
  refine jT_eq (LN := [(9, (0, 2)), (7, (1, 1)), (5, (1, 1)), (0, (4, 0)), (1, (4, 1)), (2, (0, 7 * x3)), (3, (1, (-1)))]) (stN := [(1, 1), (1, 0), (1, 0), (0, 2), (4, 7)]) (hsN := jpA_130) rfl (by rw [show (1 : Int).tdiv 1 = 1 by decide +kernel]) rfl ?_
  refine jT_xlmul (x := 0) (y := 1) (z := 0) (pcN := 74) jI_204_73 rfl (by decide) rfl ?_
  refine jT_xladd (x := 0) (y := 0) (z := 0) (pcN := 75) jI_204_74 rfl (by decide) rfl ?_
  refine jT_adv 1 (pcN := 76) (LN := [(9, (0, 2)), (7, (1, 1)), (5, (1, 1)), (0, (4, 0)), (1, (4, 1)), (2, (0, 7 * x3)), (3, (1, (-1)))]) (stN := []) (hsN := jpA_130) (c1 := 0) (s1 := 0) (c2 := 0) (s2 := 0) (by exact rfl) ?_ (by omega) (by omega)
  refine jT_xiinc (x := 2) (z := 3) (LN := [(9, (0, 3)), (7, (1, 1)), (5, (1, 1)), (0, (4, 0)), (1, (4, 1)), (2, (0, 7 * x3)), (3, (1, (-1)))]) (pcN := 79) jI_204_76 rfl rfl (by decide) rfl rfl ?_
  refine jT_xgoto (pcN := 31) jI_204_79 rfl ?_
  refine jT_xiload (v := (0, 3)) (pcN := 33) jI_204_31 rfl rfl rfl ?_
  refine jT_xbipush (k := 6) (pcN := 35) jI_204_33 (by decide) rfl ?_
  refine jT_xicF (t := 82) (pcN := 38) jI_204_35 rfl (by decide +kernel) rfl rfl ?_
  refine jT_xaload_n (v := (4, 0)) (pcN := 39) jI_204_38 rfl rfl rfl ?_
  refine jT_xgetf (a := 0) (t := 1) (ci := 14) (fi := 9) (c := jzA_21) (v := (4, 7)) (pcN := 42) jI_204_39 rfl rfl rfl rfl rfl rfl rfl ?_
  refine jT_xiload (v := (0, 3)) (pcN := 44) jI_204_42 rfl rfl rfl ?_
  refine jT_xaload_n (v := (4, 0)) (pcN := 45) jI_204_44 rfl rfl rfl ?_
  refine jT_xgetf (a := 0) (t := 1) (ci := 14) (fi := 9) (c := jzA_21) (v := (4, 7)) (pcN := 48) jI_204_45 rfl rfl rfl rfl rfl rfl rfl ?_
  refine jT_xiload (v := (0, 3)) (pcN := 50) jI_204_48 rfl rfl rfl ?_
  refine jT_lald (x := 0) (a := 7) (j := 3) (fs := []) (X := [0, 0, 0, 0, 0, 0]) jI_204_50 rfl rfl rfl rfl ?_
  refine jT_eq (LN := [(9, (0, 3)), (7, (1, 1)), (5, (1, 1)), (0, (4, 0)), (1, (4, 1)), (2, (0, 7 * x3)), (3, (1, (-1)))]) (stN := [(1, 0), (0, 3), (4, 7)]) (hsN := jpA_130) rfl rfl rfl ?_
  refine jT_xlload (v := (1, 1)) (pcN := 53) jI_204_51 rfl rfl rfl ?_
  refine jT_xaload_n (v := (4, 0)) (pcN := 54) jI_204_53 rfl rfl rfl ?_
  refine jT_xgetf (a := 0) (t := 1) (ci := 14) (fi := 10) (c := jzA_21) (v := (1, 1)) (pcN := 57) jI_204_54 rfl rfl rfl rfl rfl rfl rfl ?_
  refine jT_ldiv (a := 1) (b := 1) (by rfl) (by rfl) (by decide +kernel) (by decide +kernel) (by decide) ?_
  refine jT_eq (LN := [(9, (0, 3)), (7, (1, 1)), (5, (1, 1)), (0, (4, 0)), (1, (4, 1)), (2, (0, 7 * x3)), (3, (1, (-1)))]) (stN := [(1, 1), (1, 0), (0, 3), (4, 7)]) (hsN := jpA_130) rfl (by rw [show (1 : Int).tdiv 1 = 1 by decide +kernel]) rfl ?_
  refine jT_xlmul (x := 0) (y := 1) (z := 0) (pcN := 59) jI_204_58 rfl (by decide) rfl ?_
  refine jT_xlload_n (v := (1, (-1))) (pcN := 60) jI_204_59 rfl rfl rfl ?_
  refine jT_xaload_n (v := (4, 1)) (pcN := 61) jI_204_60 rfl rfl rfl ?_
  refine jT_xiload_n (v := (0, 7 * x3)) (pcN := 62) jI_204_61 rfl rfl rfl ?_
  refine jT_xiload (v := (0, 3)) (pcN := 64) jI_204_62 rfl rfl rfl ?_
  refine jT_xiadd (x := 7 * x3) (y := 3) (z := 7 * x3 + 3) (pcN := 65) jI_204_64 rfl (by omega) rfl ?_
  refine jT_iald (x := 0) (a := 1) (j := (7 * x3 + 3).toNat) (fs := []) (X := jS0) (by rfl) (by rfl) (by rfl) (jw_nn (by omega) (by omega)) (jS0_r3 (by omega) (by omega)) ?_
  refine jT_eq (LN := [(9, (0, 3)), (7, (1, 1)), (5, (1, 1)), (0, (4, 0)), (1, (4, 1)), (2, (0, 7 * x3)), (3, (1, (-1)))]) (stN := [(0, 0), (1, (-1)), (1, 0), (0, 3), (4, 7)]) (hsN := jpA_130) rfl rfl rfl ?_
  refine jT_xi2l (x := 0) (z := 0) (pcN := 67) jI_204_66 rfl (by decide +kernel) rfl ?_
  refine jT_xlmul (x := (-1)) (y := 0) (z := 0) (pcN := 68) jI_204_67 rfl (by decide) rfl ?_
  refine jT_xlload (v := (1, 1)) (pcN := 70) jI_204_68 rfl rfl rfl ?_
  refine jT_xlload (v := (1, 1)) (pcN := 72) jI_204_70 rfl rfl rfl ?_
  refine jT_ldiv (a := 1) (b := 1) (by rfl) (by rfl) (by decide +kernel) (by decide +kernel) (by decide) ?_
  refine jT_eq (LN := [(9, (0, 3)), (7, (1, 1)), (5, (1, 1)), (0, (4, 0)), (1, (4, 1)), (2, (0, 7 * x3)), (3, (1, (-1)))]) (stN := [(1, 1), (1, 0), (1, 0), (0, 3), (4, 7)]) (hsN := jpA_130) rfl (by rw [show (1 : Int).tdiv 1 = 1 by decide +kernel]) rfl ?_
  refine jT_xlmul (x := 0) (y := 1) (z := 0) (pcN := 74) jI_204_73 rfl (by decide) rfl ?_
  refine jT_xladd (x := 0) (y := 0) (z := 0) (pcN := 75) jI_204_74 rfl (by decide) rfl ?_
  refine jT_adv 1 (pcN := 76) (LN := [(9, (0, 3)), (7, (1, 1)), (5, (1, 1)), (0, (4, 0)), (1, (4, 1)), (2, (0, 7 * x3)), (3, (1, (-1)))]) (stN := []) (hsN := jpA_130) (c1 := 0) (s1 := 0) (c2 := 0) (s2 := 0) (by exact rfl) ?_ (by omega) (by omega)
  refine jT_xiinc (x := 3) (z := 4) (LN := [(9, (0, 4)), (7, (1, 1)), (5, (1, 1)), (0, (4, 0)), (1, (4, 1)), (2, (0, 7 * x3)), (3, (1, (-1)))]) (pcN := 79) jI_204_76 rfl rfl (by decide) rfl rfl ?_
  refine jT_xgoto (pcN := 31) jI_204_79 rfl ?_
  refine jT_xiload (v := (0, 4)) (pcN := 33) jI_204_31 rfl rfl rfl ?_
  refine jT_xbipush (k := 6) (pcN := 35) jI_204_33 (by decide) rfl ?_
  refine jT_xicF (t := 82) (pcN := 38) jI_204_35 rfl (by decide +kernel) rfl rfl ?_
  refine jT_xaload_n (v := (4, 0)) (pcN := 39) jI_204_38 rfl rfl rfl ?_
  refine jT_xgetf (a := 0) (t := 1) (ci := 14) (fi := 9) (c := jzA_21) (v := (4, 7)) (pcN := 42) jI_204_39 rfl rfl rfl rfl rfl rfl rfl ?_
  refine jT_xiload (v := (0, 4)) (pcN := 44) jI_204_42 rfl rfl rfl ?_
  refine jT_xaload_n (v := (4, 0)) (pcN := 45) jI_204_44 rfl rfl rfl ?_
  refine jT_xgetf (a := 0) (t := 1) (ci := 14) (fi := 9) (c := jzA_21) (v := (4, 7)) (pcN := 48) jI_204_45 rfl rfl rfl rfl rfl rfl rfl ?_
  refine jT_xiload (v := (0, 4)) (pcN := 50) jI_204_48 rfl rfl rfl ?_
  refine jT_lald (x := 0) (a := 7) (j := 4) (fs := []) (X := [0, 0, 0, 0, 0, 0]) jI_204_50 rfl rfl rfl rfl ?_
  refine jT_eq (LN := [(9, (0, 4)), (7, (1, 1)), (5, (1, 1)), (0, (4, 0)), (1, (4, 1)), (2, (0, 7 * x3)), (3, (1, (-1)))]) (stN := [(1, 0), (0, 4), (4, 7)]) (hsN := jpA_130) rfl rfl rfl ?_
  refine jT_xlload (v := (1, 1)) (pcN := 53) jI_204_51 rfl rfl rfl ?_
  refine jT_xaload_n (v := (4, 0)) (pcN := 54) jI_204_53 rfl rfl rfl ?_
  refine jT_xgetf (a := 0) (t := 1) (ci := 14) (fi := 10) (c := jzA_21) (v := (1, 1)) (pcN := 57) jI_204_54 rfl rfl rfl rfl rfl rfl rfl ?_
  refine jT_ldiv (a := 1) (b := 1) (by rfl) (by rfl) (by decide +kernel) (by decide +kernel) (by decide) ?_
  refine jT_eq (LN := [(9, (0, 4)), (7, (1, 1)), (5, (1, 1)), (0, (4, 0)), (1, (4, 1)), (2, (0, 7 * x3)), (3, (1, (-1)))]) (stN := [(1, 1), (1, 0), (0, 4), (4, 7)]) (hsN := jpA_130) rfl (by rw [show (1 : Int).tdiv 1 = 1 by decide +kernel]) rfl ?_
  refine jT_xlmul (x := 0) (y := 1) (z := 0) (pcN := 59) jI_204_58 rfl (by decide) rfl ?_
  refine jT_xlload_n (v := (1, (-1))) (pcN := 60) jI_204_59 rfl rfl rfl ?_
  refine jT_xaload_n (v := (4, 1)) (pcN := 61) jI_204_60 rfl rfl rfl ?_
  refine jT_xiload_n (v := (0, 7 * x3)) (pcN := 62) jI_204_61 rfl rfl rfl ?_
  refine jT_xiload (v := (0, 4)) (pcN := 64) jI_204_62 rfl rfl rfl ?_
  refine jT_xiadd (x := 7 * x3) (y := 4) (z := 7 * x3 + 4) (pcN := 65) jI_204_64 rfl (by omega) rfl ?_
  refine jT_iald (x := 0) (a := 1) (j := (7 * x3 + 4).toNat) (fs := []) (X := jS0) (by rfl) (by rfl) (by rfl) (jw_nn (by omega) (by omega)) (jS0_r4 (by omega) (by omega)) ?_
  refine jT_eq (LN := [(9, (0, 4)), (7, (1, 1)), (5, (1, 1)), (0, (4, 0)), (1, (4, 1)), (2, (0, 7 * x3)), (3, (1, (-1)))]) (stN := [(0, 0), (1, (-1)), (1, 0), (0, 4), (4, 7)]) (hsN := jpA_130) rfl rfl rfl ?_
  refine jT_xi2l (x := 0) (z := 0) (pcN := 67) jI_204_66 rfl (by decide +kernel) rfl ?_
  refine jT_xlmul (x := (-1)) (y := 0) (z := 0) (pcN := 68) jI_204_67 rfl (by decide) rfl ?_
  refine jT_xlload (v := (1, 1)) (pcN := 70) jI_204_68 rfl rfl rfl ?_
  refine jT_xlload (v := (1, 1)) (pcN := 72) jI_204_70 rfl rfl rfl ?_
  refine jT_ldiv (a := 1) (b := 1) (by rfl) (by rfl) (by decide +kernel) (by decide +kernel) (by decide) ?_
  refine jT_eq (LN := [(9, (0, 4)), (7, (1, 1)), (5, (1, 1)), (0, (4, 0)), (1, (4, 1)), (2, (0, 7 * x3)), (3, (1, (-1)))]) (stN := [(1, 1), (1, 0), (1, 0), (0, 4), (4, 7)]) (hsN := jpA_130) rfl (by rw [show (1 : Int).tdiv 1 = 1 by decide +kernel]) rfl ?_
  refine jT_xlmul (x := 0) (y := 1) (z := 0) (pcN := 74) jI_204_73 rfl (by decide) rfl ?_
  refine jT_xladd (x := 0) (y := 0) (z := 0) (pcN := 75) jI_204_74 rfl (by decide) rfl ?_
  refine jT_adv 1 (pcN := 76) (LN := [(9, (0, 4)), (7, (1, 1)), (5, (1, 1)), (0, (4, 0)), (1, (4, 1)), (2, (0, 7 * x3)), (3, (1, (-1)))]) (stN := []) (hsN := jpA_130) (c1 := 0) (s1 := 0) (c2 := 0) (s2 := 0) (by exact rfl) ?_ (by omega) (by omega)
  refine jT_xiinc (x := 4) (z := 5) (LN := [(9, (0, 5)), (7, (1, 1)), (5, (1, 1)), (0, (4, 0)), (1, (4, 1)), (2, (0, 7 * x3)), (3, (1, (-1)))]) (pcN := 79) jI_204_76 rfl rfl (by decide) rfl rfl ?_
  refine jT_xgoto (pcN := 31) jI_204_79 rfl ?_
  refine jT_xiload (v := (0, 5)) (pcN := 33) jI_204_31 rfl rfl rfl ?_
  refine jT_xbipush (k := 6) (pcN := 35) jI_204_33 (by decide) rfl ?_
  refine jT_xicF (t := 82) (pcN := 38) jI_204_35 rfl (by decide +kernel) rfl rfl ?_
  refine jT_xaload_n (v := (4, 0)) (pcN := 39) jI_204_38 rfl rfl rfl ?_
  refine jT_xgetf (a := 0) (t := 1) (ci := 14) (fi := 9) (c := jzA_21) (v := (4, 7)) (pcN := 42) jI_204_39 rfl rfl rfl rfl rfl rfl rfl ?_
  refine jT_xiload (v := (0, 5)) (pcN := 44) jI_204_42 rfl rfl rfl ?_
  refine jT_xaload_n (v := (4, 0)) (pcN := 45) jI_204_44 rfl rfl rfl ?_
  refine jT_xgetf (a := 0) (t := 1) (ci := 14) (fi := 9) (c := jzA_21) (v := (4, 7)) (pcN := 48) jI_204_45 rfl rfl rfl rfl rfl rfl rfl ?_
  refine jT_xiload (v := (0, 5)) (pcN := 50) jI_204_48 rfl rfl rfl ?_
  refine jT_lald (x := 0) (a := 7) (j := 5) (fs := []) (X := [0, 0, 0, 0, 0, 0]) jI_204_50 rfl rfl rfl rfl ?_
  refine jT_eq (LN := [(9, (0, 5)), (7, (1, 1)), (5, (1, 1)), (0, (4, 0)), (1, (4, 1)), (2, (0, 7 * x3)), (3, (1, (-1)))]) (stN := [(1, 0), (0, 5), (4, 7)]) (hsN := jpA_130) rfl rfl rfl ?_
  refine jT_xlload (v := (1, 1)) (pcN := 53) jI_204_51 rfl rfl rfl ?_
  refine jT_xaload_n (v := (4, 0)) (pcN := 54) jI_204_53 rfl rfl rfl ?_
  refine jT_xgetf (a := 0) (t := 1) (ci := 14) (fi := 10) (c := jzA_21) (v := (1, 1)) (pcN := 57) jI_204_54 rfl rfl rfl rfl rfl rfl rfl ?_
  refine jT_ldiv (a := 1) (b := 1) (by rfl) (by rfl) (by decide +kernel) (by decide +kernel) (by decide) ?_
  refine jT_eq (LN := [(9, (0, 5)), (7, (1, 1)), (5, (1, 1)), (0, (4, 0)), (1, (4, 1)), (2, (0, 7 * x3)), (3, (1, (-1)))]) (stN := [(1, 1), (1, 0), (0, 5), (4, 7)]) (hsN := jpA_130) rfl (by rw [show (1 : Int).tdiv 1 = 1 by decide +kernel]) rfl ?_
  refine jT_xlmul (x := 0) (y := 1) (z := 0) (pcN := 59) jI_204_58 rfl (by decide) rfl ?_
  refine jT_xlload_n (v := (1, (-1))) (pcN := 60) jI_204_59 rfl rfl rfl ?_
  refine jT_xaload_n (v := (4, 1)) (pcN := 61) jI_204_60 rfl rfl rfl ?_
  refine jT_xiload_n (v := (0, 7 * x3)) (pcN := 62) jI_204_61 rfl rfl rfl ?_
  refine jT_xiload (v := (0, 5)) (pcN := 64) jI_204_62 rfl rfl rfl ?_
  refine jT_xiadd (x := 7 * x3) (y := 5) (z := 7 * x3 + 5) (pcN := 65) jI_204_64 rfl (by omega) rfl ?_
  refine jT_iald (x := 0) (a := 1) (j := (7 * x3 + 5).toNat) (fs := []) (X := jS0) (by rfl) (by rfl) (by rfl) (jw_nn (by omega) (by omega)) (jS0_r5 (by omega) (by omega)) ?_
  refine jT_eq (LN := [(9, (0, 5)), (7, (1, 1)), (5, (1, 1)), (0, (4, 0)), (1, (4, 1)), (2, (0, 7 * x3)), (3, (1, (-1)))]) (stN := [(0, 0), (1, (-1)), (1, 0), (0, 5), (4, 7)]) (hsN := jpA_130) rfl rfl rfl ?_
  refine jT_xi2l (x := 0) (z := 0) (pcN := 67) jI_204_66 rfl (by decide +kernel) rfl ?_
  refine jT_xlmul (x := (-1)) (y := 0) (z := 0) (pcN := 68) jI_204_67 rfl (by decide) rfl ?_
  refine jT_xlload (v := (1, 1)) (pcN := 70) jI_204_68 rfl rfl rfl ?_
  refine jT_xlload (v := (1, 1)) (pcN := 72) jI_204_70 rfl rfl rfl ?_
  refine jT_ldiv (a := 1) (b := 1) (by rfl) (by rfl) (by decide +kernel) (by decide +kernel) (by decide) ?_
  refine jT_eq (LN := [(9, (0, 5)), (7, (1, 1)), (5, (1, 1)), (0, (4, 0)), (1, (4, 1)), (2, (0, 7 * x3)), (3, (1, (-1)))]) (stN := [(1, 1), (1, 0), (1, 0), (0, 5), (4, 7)]) (hsN := jpA_130) rfl (by rw [show (1 : Int).tdiv 1 = 1 by decide +kernel]) rfl ?_
  refine jT_xlmul (x := 0) (y := 1) (z := 0) (pcN := 74) jI_204_73 rfl (by decide) rfl ?_
  refine jT_xladd (x := 0) (y := 0) (z := 0) (pcN := 75) jI_204_74 rfl (by decide) rfl ?_
  refine jT_adv 1 (pcN := 76) (LN := [(9, (0, 5)), (7, (1, 1)), (5, (1, 1)), (0, (4, 0)), (1, (4, 1)), (2, (0, 7 * x3)), (3, (1, (-1)))]) (stN := []) (hsN := jpA_130) (c1 := 0) (s1 := 0) (c2 := 0) (s2 := 0) (by exact rfl) ?_ (by omega) (by omega)
  refine jT_xiinc (x := 5) (z := 6) (LN := [(9, (0, 6)), (7, (1, 1)), (5, (1, 1)), (0, (4, 0)), (1, (4, 1)), (2, (0, 7 * x3)), (3, (1, (-1)))]) (pcN := 79) jI_204_76 rfl rfl (by decide) rfl rfl ?_
  refine jT_xgoto (pcN := 31) jI_204_79 rfl ?_
  refine jT_xiload (v := (0, 6)) (pcN := 33) jI_204_31 rfl rfl rfl ?_
  refine jT_xbipush (k := 6) (pcN := 35) jI_204_33 (by decide) rfl ?_
  refine jT_xicT (pcN := 82) jI_204_35 rfl (by decide +kernel) rfl ?_
  refine jT_xaload_n (v := (4, 0)) (pcN := 83) jI_204_82 rfl rfl rfl ?_
  refine jT_xlload (v := (1, 1)) (pcN := 85) jI_204_83 rfl rfl rfl ?_
  refine jT_adv 1 (pcN := 88) (LN := [(9, (0, 6)), (7, (1, 1)), (5, (1, 1)), (0, (4, 0)), (1, (4, 1)), (2, (0, 7 * x3)), (3, (1, (-1)))]) (stN := []) (hsN := jpA_130) (c1 := 0) (s1 := 0) (c2 := 0) (s2 := 0) (by exact rfl) ?_ (by omega) (by omega)
  refine jT_xaload_n (v := (4, 0)) (pcN := 89) jI_204_88 rfl rfl rfl ?_
  refine jT_fR [0, 1, 2, 3, 4, 5, 6, 7, 8, 9, 10, 11, 12, 13, 14, 15] 16 (y := 199) (pcN := 92) (dC := 1) (bc1 := 0) (bc2 := 0) (c1 := 0) (c2 := 0) (as := [(4, 0)]) (asC := [(4, 0)]) (LN := [(9, (0, 6)), (7, (1, 1)), (5, (1, 1)), (0, (4, 0)), (1, (4, 1)), (2, (0, 7 * x3)), (3, (1, (-1)))]) (stN := []) (hsC := jpA_147) (v := (9, 0)) (st2 := []) (jA_199_45 (d := 0)) (by rfl) (by rfl) (by decide +kernel) (by rfl) (by rfl) (by omega) (by omega) (by omega) (by omega) rfl ?_
  exact jT_ret rfl (by decide) (by show 16 ≤ 16; decide) (by omega) (by omega) ⟨rfl, rfl, rfl⟩
theorem jA_189_47 {xs : List Int} {d : Nat} : jT xs d 189 0 0 [(0, (1, 0)), (2, (1, (-5000))), (4, (1, 5000))] [] [] 0 0 (fun k v hsN => k = 0 ∧ v = (0, 1) ∧ hsN = [] ++ []) := by
  refine jT_advK 10 (pcN := 18) (LN := [(0, (1, 0)), (2, (1, (-5000))), (4, (1, 5000))]) (stN := [(0, 1)]) (hsN := []) (c1 := 0) (s1 := 0) (c2 := 0) (s2 := 0) (by decide +kernel) ?_ (by omega) (by omega)
  exact jT_ret rfl (by decide) (by show 0 ≤ 0; decide) (by omega) (by omega) ⟨rfl, rfl, rfl⟩
theorem jA_205_48 {xs : List Int} {d : Nat} : jT xs (d + 1) 205 16 0 [(0, (4, 0))] [] jpA_147 0 0 (fun k v hsN => k = 0 ∧ v = (0, 1) ∧ hsN = jpA_147 ++ []) := by
  refine jT_advK 21 (pcN := 41) (LN := [(2, (0, 0)), (1, (0, 1)), (0, (4, 0))]) (stN := [(1, 5000), (1, (-5000)), (1, 0)]) (hsN := jpA_147) (c1 := 0) (s1 := 0) (c2 := 0) (s2 := 0) (by decide +kernel) ?_ (by omega) (by omega)
  refine jT_fR [] 16 (y := 189) (pcN := 44) (dC := 0) (bc1 := 0) (bc2 := 0) (c1 := 0) (c2 := 0) (as := [(1, 0), (1, (-5000)), (1, 5000)]) (asC := [(1, 0), (1, (-5000)), (1, 5000)]) (LN := [(2, (0, 0)), (1, (0, 1)), (0, (4, 0))]) (stN := []) (hsC := []) (v := (0, 1)) (st2 := [(0, 1)]) (jA_189_47 (d := 0)) (by rfl) (by rfl) (by decide +kernel) (by rfl) (by rfl) (by omega) (by omega) (by omega) (by omega) rfl ?_
  refine jT_advK 17 (pcN := 41) (LN := [(2, (0, 1)), (1, (0, 1)), (0, (4, 0))]) (stN := [(1, 5000), (1, (-5000)), (1, 0)]) (hsN := jpA_147) (c1 := 0) (s1 := 0) (c2 := 0) (s2 := 0) (by decide +kernel) ?_ (by omega) (by omega)
  refine jT_fR [] 16 (y := 189) (pcN := 44) (dC := 0) (bc1 := 0) (bc2 := 0) (c1 := 0) (c2 := 0) (as := [(1, 0), (1, (-5000)), (1, 5000)]) (asC := [(1, 0), (1, (-5000)), (1, 5000)]) (LN := [(2, (0, 1)), (1, (0, 1)), (0, (4, 0))]) (stN := []) (hsC := []) (v := (0, 1)) (st2 := [(0, 1)]) (jA_189_47 (d := 0)) (by rfl) (by rfl) (by decide +kernel) (by rfl) (by rfl) (by omega) (by omega) (by omega) (by omega) rfl ?_
  refine jT_advK 17 (pcN := 41) (LN := [(2, (0, 2)), (1, (0, 1)), (0, (4, 0))]) (stN := [(1, 5000), (1, (-5000)), (1, 0)]) (hsN := jpA_147) (c1 := 0) (s1 := 0) (c2 := 0) (s2 := 0) (by decide +kernel) ?_ (by omega) (by omega)
  refine jT_fR [] 16 (y := 189) (pcN := 44) (dC := 0) (bc1 := 0) (bc2 := 0) (c1 := 0) (c2 := 0) (as := [(1, 0), (1, (-5000)), (1, 5000)]) (asC := [(1, 0), (1, (-5000)), (1, 5000)]) (LN := [(2, (0, 2)), (1, (0, 1)), (0, (4, 0))]) (stN := []) (hsC := []) (v := (0, 1)) (st2 := [(0, 1)]) (jA_189_47 (d := 0)) (by rfl) (by rfl) (by decide +kernel) (by rfl) (by rfl) (by omega) (by omega) (by omega) (by omega) rfl ?_
  refine jT_advK 17 (pcN := 41) (LN := [(2, (0, 3)), (1, (0, 1)), (0, (4, 0))]) (stN := [(1, 5000), (1, (-5000)), (1, 0)]) (hsN := jpA_147) (c1 := 0) (s1 := 0) (c2 := 0) (s2 := 0) (by decide +kernel) ?_ (by omega) (by omega)
  refine jT_fR [] 16 (y := 189) (pcN := 44) (dC := 0) (bc1 := 0) (bc2 := 0) (c1 := 0) (c2 := 0) (as := [(1, 0), (1, (-5000)), (1, 5000)]) (asC := [(1, 0), (1, (-5000)), (1, 5000)]) (LN := [(2, (0, 3)), (1, (0, 1)), (0, (4, 0))]) (stN := []) (hsC := []) (v := (0, 1)) (st2 := [(0, 1)]) (jA_189_47 (d := 0)) (by rfl) (by rfl) (by decide +kernel) (by rfl) (by rfl) (by omega) (by omega) (by omega) (by omega) rfl ?_
  refine jT_advK 17 (pcN := 41) (LN := [(2, (0, 4)), (1, (0, 1)), (0, (4, 0))]) (stN := [(1, 5000), (1, (-5000)), (1, 0)]) (hsN := jpA_147) (c1 := 0) (s1 := 0) (c2 := 0) (s2 := 0) (by decide +kernel) ?_ (by omega) (by omega)
  refine jT_fR [] 16 (y := 189) (pcN := 44) (dC := 0) (bc1 := 0) (bc2 := 0) (c1 := 0) (c2 := 0) (as := [(1, 0), (1, (-5000)), (1, 5000)]) (asC := [(1, 0), (1, (-5000)), (1, 5000)]) (LN := [(2, (0, 4)), (1, (0, 1)), (0, (4, 0))]) (stN := []) (hsC := []) (v := (0, 1)) (st2 := [(0, 1)]) (jA_189_47 (d := 0)) (by rfl) (by rfl) (by decide +kernel) (by rfl) (by rfl) (by omega) (by omega) (by omega) (by omega) rfl ?_
  refine jT_advK 17 (pcN := 41) (LN := [(2, (0, 5)), (1, (0, 1)), (0, (4, 0))]) (stN := [(1, 5000), (1, (-5000)), (1, 0)]) (hsN := jpA_147) (c1 := 0) (s1 := 0) (c2 := 0) (s2 := 0) (by decide +kernel) ?_ (by omega) (by omega)
  refine jT_fR [] 16 (y := 189) (pcN := 44) (dC := 0) (bc1 := 0) (bc2 := 0) (c1 := 0) (c2 := 0) (as := [(1, 0), (1, (-5000)), (1, 5000)]) (asC := [(1, 0), (1, (-5000)), (1, 5000)]) (LN := [(2, (0, 5)), (1, (0, 1)), (0, (4, 0))]) (stN := []) (hsC := []) (v := (0, 1)) (st2 := [(0, 1)]) (jA_189_47 (d := 0)) (by rfl) (by rfl) (by decide +kernel) (by rfl) (by rfl) (by omega) (by omega) (by omega) (by omega) rfl ?_
  refine jT_advK 10 (pcN := 60) (LN := [(2, (0, 6)), (1, (0, 1)), (0, (4, 0))]) (stN := [(0, 1)]) (hsN := jpA_147) (c1 := 0) (s1 := 0) (c2 := 0) (s2 := 0) (by decide +kernel) ?_ (by omega) (by omega)
  exact jT_ret rfl (by decide) (by show 16 ≤ 16; decide) (by omega) (by omega) ⟨rfl, rfl, rfl⟩
theorem jA_191_49 {xs : List Int} {d : Nat} : jT xs d 191 1 0 [(0, (4, 0)), (1, (0, 1)), (2, (0, 2))] [] [jgh] 0 0 (fun k v hsN => k = 0 ∧ v = (0, 0) ∧ hsN = [jgh] ++ []) := by
  refine jT_advK 5 (pcN := 18) (LN := [(0, (4, 0)), (1, (0, 1)), (2, (0, 2))]) (stN := [(0, 0)]) (hsN := [jgh]) (c1 := 0) (s1 := 0) (c2 := 0) (s2 := 0) (by decide +kernel) ?_ (by omega) (by omega)
  exact jT_ret rfl (by decide) (by show 1 ≤ 1; decide) (by omega) (by omega) ⟨rfl, rfl, rfl⟩
def jzA_196 : JC := (130, [], [16, 17, 18, 19, 20, 21, 22, 23])
def jzA_197 : JC := (130, [], [(-1), (-1), (-1), (-1), (-1), (-1), (-1), (-1)])
def jpA_198 : List JC := [jzA_21, (100, [], jS0), (100, [], []), jzA_196, jzA_197, jgh, jgh, jgh, jgh, jgh, jgh, jgh, jgh, jgh, jgh, jgh, (100, [], (List.replicate 1613 0)), jgh, jgh, jgh, jgh, jgh, jgh, jgh]
def jpA_199 : List JC := [jzA_21, (100, [], jS0), (100, [], []), jzA_196, jzA_197, jgh, jgh, jgh, jgh, jgh, jgh, jgh, jgh, jgh, jgh, jgh, (100, [], jS0), jgh, jgh, jgh, jgh, jgh, jgh, jgh]
def jzA_200 : JC := (14, [(0, 0), (4, 1), (4, 2), (4, 3), (4, 4), (0, 1), (4, 5), (0, 0), (4, 6), (4, 7), (1, 1), (4, 8), (0, 0), (4, 9), (0, 0), (0, 0), (0, 0), (0, 0), (0, 0), (0, 0), (0, 0), (4, 10), (4, 11), (4, 12), (4, 13), (4, 14), (4, 15), (0, 0)], [])
def jzA_201 : JC := (130, [], [2, (-1), (-1), (-1), (-1), (-1), (-1), (-1)])
def jpA_202 : List JC := [jzA_200, (100, [], jS0), (100, [], []), jzA_196, jzA_201, jgh, jgh, jgh, jgh, jgh, jgh, jgh, jgh, jgh, jgh, jgh, (100, [], jS0), jgh, jgh, jgh, jgh, jgh, jgh, jgh]
theorem jA_195_50 {xs : List Int} {d : Nat} : jT xs d 195 24 0 [(0, (4, 0))] [] jpA_198 0 0 (fun k v hsN => k = 0 ∧ v = (9, 0) ∧ hsN = jpA_202) := by
  refine jT_advK 14 (pcN := 94) (LN := [(0, (4, 0))]) (stN := [(0, 1613), (0, 0), (4, 16), (0, 0), (4, 1)]) (hsN := jpA_198) (c1 := 0) (s1 := 0) (c2 := 0) (s2 := 0) (by decide +kernel) ?_ (by omega) (by omega)
  refine jT_cpy (a := 1) (b := 16) (s0 := 0) (d0 := 0) (n := 1613) (k := 100) (X := jS0) (Y := (List.replicate 1613 0)) (by rfl) (by rfl) (by rfl) (by rfl) (by rfl) (by rfl) (by rfl) (by decide) (by decide) (by decide) (by rw [show List.length (jS0 : List Int) = 1613 from jS0_len]; decide) (by rw [show List.length ((List.replicate 1613 0) : List Int) = 1613 from List.length_replicate]; omega) ?_
  refine jT_eq (LN := [(0, (4, 0))]) (stN := []) (hsN := jpA_199) rfl rfl (by rw [jcpy_all (X := jS0) (Y := (List.replicate 1613 0)) (n := 1613) (jS0_len) (List.length_replicate)]; rfl) ?_
  refine jT_advK 13 (pcN := 120) (LN := [(0, (4, 0))]) (stN := []) (hsN := jpA_202) (c1 := 0) (s1 := 0) (c2 := 0) (s2 := 0) (by decide +kernel) ?_ (by omega) (by omega)
  exact jT_ret rfl (by decide) (by show 24 ≤ 24; decide) (by omega) (by omega) ⟨rfl, rfl, rfl⟩
theorem jI_197_0 : jmI (jm 197) 0 = (.iconst 0, 1) := by rfl
theorem jI_197_1 : jmI (jm 197) 1 = (.istore_n 3, 1) := by rfl
theorem jI_197_2 : jmI (jm 197) 2 = (.iload_n 3, 1) := by rfl
theorem jI_197_3 : jmI (jm 197) 3 = (.bipush 6, 2) := by rfl
theorem jI_197_5 : jmI (jm 197) 5 = (.if_icmp .ge 21, 3) := by rfl
theorem jI_197_8 : jmI (jm 197) 8 = (.aload_n 1, 1) := by rfl
theorem jI_197_9 : jmI (jm 197) 9 = (.iload_n 2, 1) := by rfl
theorem jI_197_10 : jmI (jm 197) 10 = (.iload_n 3, 1) := by rfl
theorem jI_197_11 : jmI (jm 197) 11 = (.iadd, 1) := by rfl
theorem jI_197_12 : jmI (jm 197) 12 = (.aload_n 0, 1) := by rfl
theorem jI_197_13 : jmI (jm 197) 13 = (.getfield 31, 3) := by rfl
theorem jI_197_16 : jmI (jm 197) 16 = (.iload_n 3, 1) := by rfl
theorem jI_197_17 : jmI (jm 197) 17 = (.laload, 1) := by rfl
def jpA_216 : List JC := [jzA_200, (100, [], jS0), jgh, jgh, jgh, jgh, jgh, (101, [], [0, 0, 0, 0, 0, 0]), jgh, jgh, jgh, jgh, jgh, jgh, jgh, jgh]
theorem jI_197_18 : jmI (jm 197) 18 = (.l2i, 1) := by rfl
theorem jI_197_20 : jmI (jm 197) 20 = (.iinc 3 1, 3) := by rfl
theorem jI_197_23 : jmI (jm 197) 23 = (.goto (-21), 3) := by rfl
theorem jI_197_26 : jmI (jm 197) 26 = (.aload_n 1, 1) := by rfl
theorem jI_197_27 : jmI (jm 197) 27 = (.iload_n 2, 1) := by rfl
theorem jI_197_28 : jmI (jm 197) 28 = (.bipush 6, 2) := by rfl
theorem jI_197_30 : jmI (jm 197) 30 = (.iadd, 1) := by rfl
theorem jI_197_31 : jmI (jm 197) 31 = (.aload_n 0, 1) := by rfl
theorem jI_197_32 : jmI (jm 197) 32 = (.getfield 35, 3) := by rfl
theorem jI_197_35 : jmI (jm 197) 35 = (.l2i, 1) := by rfl
theorem jA_197_51 {xs : List Int} {d : Nat} {x1 : Int} (h_x1 : 0 ≤ x1 ∧ x1 ≤ 7) : jT xs d 197 16 0 [(0, (4, 0)), (1, (4, 1)), (2, (0, 7 * x1))] [] jpA_216 0 0 (fun k v hsN => k = 0 ∧ v = (9, 0) ∧ hsN = [jzA_200, (100, [], ((((((((((((((jS0).set ((7 * x1).toNat) 0)).set ((7 * x1 + 1).toNat) 0)).set ((7 * x1 + 2).toNat) 0)).set ((7 * x1 + 3).toNat) 0)).set ((7 * x1 + 4).toNat) 0)).set ((7 * x1 + 5).toNat) 0)).set ((7 * x1 + 6).toNat) 1)), jgh, jgh, jgh, jgh, jgh, (101, [], [0, 0, 0, 0, 0, 0]), jgh, jgh, jgh, jgh, jgh, jgh, jgh, jgh]) := by
  refine jT_xiconst (k := 0) (pcN := 1) jI_197_0 rfl ?_
  refine jT_xistore_n (v := (0, 0)) (LN := [(3, (0, 0)), (0, (4, 0)), (1, (4, 1)), (2, (0, 7 * x1))]) (pcN := 2) jI_197_1 rfl rfl rfl rfl ?_
  refine jT_xiload_n (v := (0, 0)) (pcN := 3) jI_197_2 rfl rfl rfl ?_
  refine jT_xbipush (k := 6) (pcN := 5) jI_197_3 (by decide) rfl ?_
  refine jT_xicF (t := 26) (pcN := 8) jI_197_5 rfl (by decide +kernel) rfl rfl ?_
  refine jT_xaload_n (v := (4, 1)) (pcN := 9) jI_197_8 rfl rfl rfl ?_
  refine jT_xiload_n (v := (0, 7 * x1)) (pcN := 10) jI_197_9 rfl rfl rfl ?_
  refine jT_xiload_n (v := (0, 0)) (pcN := 11) jI_197_10 rfl rfl rfl ?_
  refine jT_xiadd (x := 7 * x1) (y := 0) (z := 7 * x1) (pcN := 12) jI_197_11 rfl (by omega) rfl ?_
  refine jT_xaload_n (v := (4, 0)) (pcN := 13) jI_197_12 rfl rfl rfl ?_
  refine jT_xgetf (a := 0) (t := 1) (ci := 14) (fi := 9) (c := jzA_200) (v := (4, 7)) (pcN := 16) jI_197_13 rfl rfl rfl rfl rfl rfl rfl ?_
  refine jT_xiload_n (v := (0, 0)) (pcN := 17) jI_197_16 rfl rfl rfl ?_
  refine jT_lald (x := 0) (a := 7) (j := 0) (fs := []) (X := [0, 0, 0, 0, 0, 0]) jI_197_17 rfl rfl rfl rfl ?_
  refine jT_eq (LN := [(3, (0, 0)), (0, (4, 0)), (1, (4, 1)), (2, (0, 7 * x1))]) (stN := [(1, 0), (0, 7 * x1), (4, 1)]) (hsN := jpA_216) rfl rfl rfl ?_
  refine jT_xl2i (pcN := 19) jI_197_18 rfl rfl ?_
  refine jT_iast (x := 0) (a := 1) (j := (7 * x1).toNat) (fs := []) (X := jS0) (by rfl) (by rfl) (by rfl) (jw_nn (by omega) (by omega)) (by rw [show List.length (jS0 : List Int) = 1613 from jS0_len]; omega) ?_
  refine jT_eq (LN := [(3, (0, 0)), (0, (4, 0)), (1, (4, 1)), (2, (0, 7 * x1))]) (stN := []) (hsN := [jzA_200, (100, [], ((jS0).set ((7 * x1).toNat) 0)), jgh, jgh, jgh, jgh, jgh, (101, [], [0, 0, 0, 0, 0, 0]), jgh, jgh, jgh, jgh, jgh, jgh, jgh, jgh]) rfl rfl rfl ?_
  refine jT_xiinc (x := 0) (z := 1) (LN := [(3, (0, 1)), (0, (4, 0)), (1, (4, 1)), (2, (0, 7 * x1))]) (pcN := 23) jI_197_20 rfl rfl (by decide) rfl rfl ?_
  refine jT_xgoto (pcN := 2) jI_197_23 rfl ?_
  refine jT_xiload_n (v := (0, 1)) (pcN := 3) jI_197_2 rfl rfl rfl ?_
  refine jT_xbipush (k := 6) (pcN := 5) jI_197_3 (by decide) rfl ?_
  refine jT_xicF (t := 26) (pcN := 8) jI_197_5 rfl (by decide +kernel) rfl rfl ?_
  refine jT_xaload_n (v := (4, 1)) (pcN := 9) jI_197_8 rfl rfl rfl ?_
  refine jT_xiload_n (v := (0, 7 * x1)) (pcN := 10) jI_197_9 rfl rfl rfl ?_
  refine jT_xiload_n (v := (0, 1)) (pcN := 11) jI_197_10 rfl rfl rfl ?_
  refine jT_xiadd (x := 7 * x1) (y := 1) (z := 7 * x1 + 1) (pcN := 12) jI_197_11 rfl (by omega) rfl ?_
  refine jT_xaload_n (v := (4, 0)) (pcN := 13) jI_197_12 rfl rfl rfl ?_
  refine jT_xgetf (a := 0) (t := 1) (ci := 14) (fi := 9) (c := jzA_200) (v := (4, 7)) (pcN := 16) jI_197_13 rfl rfl rfl rfl rfl rfl rfl ?_
  refine jT_xiload_n (v := (0, 1)) (pcN := 17) jI_197_16 rfl rfl rfl ?_
  refine jT_lald (x := 0) (a := 7) (j := 1) (fs := []) (X := [0, 0, 0, 0, 0, 0]) jI_197_17 rfl rfl rfl rfl ?_
  refine jT_eq (LN := [(3, (0, 1)), (0, (4, 0)), (1, (4, 1)), (2, (0, 7 * x1))]) (stN := [(1, 0), (0, 7 * x1 + 1), (4, 1)]) (hsN := [jzA_200, (100, [], ((jS0).set ((7 * x1).toNat) 0)), jgh, jgh, jgh, jgh, jgh, (101, [], [0, 0, 0, 0, 0, 0]), jgh, jgh, jgh, jgh, jgh, jgh, jgh, jgh]) rfl rfl rfl ?_
  refine jT_xl2i (pcN := 19) jI_197_18 rfl rfl ?_
  refine jT_iast (x := 0) (a := 1) (j := (7 * x1 + 1).toNat) (fs := []) (X := ((jS0).set ((7 * x1).toNat) 0)) (by rfl) (by rfl) (by rfl) (jw_nn (by omega) (by omega)) (by rw [show List.length (((jS0).set ((7 * x1).toNat) 0) : List Int) = 1613 from by rw [List.length_set]; exact (jS0_len)]; omega) ?_
  refine jT_eq (LN := [(3, (0, 1)), (0, (4, 0)), (1, (4, 1)), (2, (0, 7 * x1))]) (stN := []) (hsN := [jzA_200, (100, [], ((((jS0).set ((7 * x1).toNat) 0)).set ((7 * x1 + 1).toNat) 0)), jgh, jgh, jgh, jgh, jgh, (101, [], [0, 0, 0, 0, 0, 0]), jgh, jgh, jgh, jgh, jgh, jgh, jgh, jgh]) rfl rfl rfl ?_
  refine jT_xiinc (x := 1) (z := 2) (LN := [(3, (0, 2)), (0, (4, 0)), (1, (4, 1)), (2, (0, 7 * x1))]) (pcN := 23) jI_197_20 rfl rfl (by decide) rfl rfl ?_
  refine jT_xgoto (pcN := 2) jI_197_23 rfl ?_
  refine jT_xiload_n (v := (0, 2)) (pcN := 3) jI_197_2 rfl rfl rfl ?_
  refine jT_xbipush (k := 6) (pcN := 5) jI_197_3 (by decide) rfl ?_
  refine jT_xicF (t := 26) (pcN := 8) jI_197_5 rfl (by decide +kernel) rfl rfl ?_
  refine jT_xaload_n (v := (4, 1)) (pcN := 9) jI_197_8 rfl rfl rfl ?_
  refine jT_xiload_n (v := (0, 7 * x1)) (pcN := 10) jI_197_9 rfl rfl rfl ?_
  refine jT_xiload_n (v := (0, 2)) (pcN := 11) jI_197_10 rfl rfl rfl ?_
  refine jT_xiadd (x := 7 * x1) (y := 2) (z := 7 * x1 + 2) (pcN := 12) jI_197_11 rfl (by omega) rfl ?_
  refine jT_xaload_n (v := (4, 0)) (pcN := 13) jI_197_12 rfl rfl rfl ?_
  refine jT_xgetf (a := 0) (t := 1) (ci := 14) (fi := 9) (c := jzA_200) (v := (4, 7)) (pcN := 16) jI_197_13 rfl rfl rfl rfl rfl rfl rfl ?_
  refine jT_xiload_n (v := (0, 2)) (pcN := 17) jI_197_16 rfl rfl rfl ?_
  refine jT_lald (x := 0) (a := 7) (j := 2) (fs := []) (X := [0, 0, 0, 0, 0, 0]) jI_197_17 rfl rfl rfl rfl ?_
  refine jT_eq (LN := [(3, (0, 2)), (0, (4, 0)), (1, (4, 1)), (2, (0, 7 * x1))]) (stN := [(1, 0), (0, 7 * x1 + 2), (4, 1)]) (hsN := [jzA_200, (100, [], ((((jS0).set ((7 * x1).toNat) 0)).set ((7 * x1 + 1).toNat) 0)), jgh, jgh, jgh, jgh, jgh, (101, [], [0, 0, 0, 0, 0, 0]), jgh, jgh, jgh, jgh, jgh, jgh, jgh, jgh]) rfl rfl rfl ?_
  refine jT_xl2i (pcN := 19) jI_197_18 rfl rfl ?_
  refine jT_iast (x := 0) (a := 1) (j := (7 * x1 + 2).toNat) (fs := []) (X := ((((jS0).set ((7 * x1).toNat) 0)).set ((7 * x1 + 1).toNat) 0)) (by rfl) (by rfl) (by rfl) (jw_nn (by omega) (by omega)) (by rw [show List.length (((((jS0).set ((7 * x1).toNat) 0)).set ((7 * x1 + 1).toNat) 0) : List Int) = 1613 from by rw [List.length_set, List.length_set]; exact (jS0_len)]; omega) ?_
  refine jT_eq (LN := [(3, (0, 2)), (0, (4, 0)), (1, (4, 1)), (2, (0, 7 * x1))]) (stN := []) (hsN := [jzA_200, (100, [], ((((((jS0).set ((7 * x1).toNat) 0)).set ((7 * x1 + 1).toNat) 0)).set ((7 * x1 + 2).toNat) 0)), jgh, jgh, jgh, jgh, jgh, (101, [], [0, 0, 0, 0, 0, 0]), jgh, jgh, jgh, jgh, jgh, jgh, jgh, jgh]) rfl rfl rfl ?_
  refine jT_xiinc (x := 2) (z := 3) (LN := [(3, (0, 3)), (0, (4, 0)), (1, (4, 1)), (2, (0, 7 * x1))]) (pcN := 23) jI_197_20 rfl rfl (by decide) rfl rfl ?_
  refine jT_xgoto (pcN := 2) jI_197_23 rfl ?_
  refine jT_xiload_n (v := (0, 3)) (pcN := 3) jI_197_2 rfl rfl rfl ?_
  refine jT_xbipush (k := 6) (pcN := 5) jI_197_3 (by decide) rfl ?_
  refine jT_xicF (t := 26) (pcN := 8) jI_197_5 rfl (by decide +kernel) rfl rfl ?_
  refine jT_xaload_n (v := (4, 1)) (pcN := 9) jI_197_8 rfl rfl rfl ?_
  refine jT_xiload_n (v := (0, 7 * x1)) (pcN := 10) jI_197_9 rfl rfl rfl ?_
  refine jT_xiload_n (v := (0, 3)) (pcN := 11) jI_197_10 rfl rfl rfl ?_
  refine jT_xiadd (x := 7 * x1) (y := 3) (z := 7 * x1 + 3) (pcN := 12) jI_197_11 rfl (by omega) rfl ?_
  refine jT_xaload_n (v := (4, 0)) (pcN := 13) jI_197_12 rfl rfl rfl ?_
  refine jT_xgetf (a := 0) (t := 1) (ci := 14) (fi := 9) (c := jzA_200) (v := (4, 7)) (pcN := 16) jI_197_13 rfl rfl rfl rfl rfl rfl rfl ?_
  refine jT_xiload_n (v := (0, 3)) (pcN := 17) jI_197_16 rfl rfl rfl ?_
  refine jT_lald (x := 0) (a := 7) (j := 3) (fs := []) (X := [0, 0, 0, 0, 0, 0]) jI_197_17 rfl rfl rfl rfl ?_
  refine jT_eq (LN := [(3, (0, 3)), (0, (4, 0)), (1, (4, 1)), (2, (0, 7 * x1))]) (stN := [(1, 0), (0, 7 * x1 + 3), (4, 1)]) (hsN := [jzA_200, (100, [], ((((((jS0).set ((7 * x1).toNat) 0)).set ((7 * x1 + 1).toNat) 0)).set ((7 * x1 + 2).toNat) 0)), jgh, jgh, jgh, jgh, jgh, (101, [], [0, 0, 0, 0, 0, 0]), jgh, jgh, jgh, jgh, jgh, jgh, jgh, jgh]) rfl rfl rfl ?_
  refine jT_xl2i (pcN := 19) jI_197_18 rfl rfl ?_
  refine jT_iast (x := 0) (a := 1) (j := (7 * x1 + 3).toNat) (fs := []) (X := ((((((jS0).set ((7 * x1).toNat) 0)).set ((7 * x1 + 1).toNat) 0)).set ((7 * x1 + 2).toNat) 0)) (by rfl) (by rfl) (by rfl) (jw_nn (by omega) (by omega)) (by rw [show List.length (((((((jS0).set ((7 * x1).toNat) 0)).set ((7 * x1 + 1).toNat) 0)).set ((7 * x1 + 2).toNat) 0) : List Int) = 1613 from by rw [List.length_set, List.length_set, List.length_set]; exact (jS0_len)]; omega) ?_
  refine jT_eq (LN := [(3, (0, 3)), (0, (4, 0)), (1, (4, 1)), (2, (0, 7 * x1))]) (stN := []) (hsN := [jzA_200, (100, [], ((((((((jS0).set ((7 * x1).toNat) 0)).set ((7 * x1 + 1).toNat) 0)).set ((7 * x1 + 2).toNat) 0)).set ((7 * x1 + 3).toNat) 0)), jgh, jgh, jgh, jgh, jgh, (101, [], [0, 0, 0, 0, 0, 0]), jgh, jgh, jgh, jgh, jgh, jgh, jgh, jgh]) rfl rfl rfl ?_
  refine jT_xiinc (x := 3) (z := 4) (LN := [(3, (0, 4)), (0, (4, 0)), (1, (4, 1)), (2, (0, 7 * x1))]) (pcN := 23) jI_197_20 rfl rfl (by decide) rfl rfl ?_
  refine jT_xgoto (pcN := 2) jI_197_23 rfl ?_
  refine jT_xiload_n (v := (0, 4)) (pcN := 3) jI_197_2 rfl rfl rfl ?_
  refine jT_xbipush (k := 6) (pcN := 5) jI_197_3 (by decide) rfl ?_
  refine jT_xicF (t := 26) (pcN := 8) jI_197_5 rfl (by decide +kernel) rfl rfl ?_
  refine jT_xaload_n (v := (4, 1)) (pcN := 9) jI_197_8 rfl rfl rfl ?_
  refine jT_xiload_n (v := (0, 7 * x1)) (pcN := 10) jI_197_9 rfl rfl rfl ?_
  refine jT_xiload_n (v := (0, 4)) (pcN := 11) jI_197_10 rfl rfl rfl ?_
  refine jT_xiadd (x := 7 * x1) (y := 4) (z := 7 * x1 + 4) (pcN := 12) jI_197_11 rfl (by omega) rfl ?_
  refine jT_xaload_n (v := (4, 0)) (pcN := 13) jI_197_12 rfl rfl rfl ?_
  refine jT_xgetf (a := 0) (t := 1) (ci := 14) (fi := 9) (c := jzA_200) (v := (4, 7)) (pcN := 16) jI_197_13 rfl rfl rfl rfl rfl rfl rfl ?_
  refine jT_xiload_n (v := (0, 4)) (pcN := 17) jI_197_16 rfl rfl rfl ?_
  refine jT_lald (x := 0) (a := 7) (j := 4) (fs := []) (X := [0, 0, 0, 0, 0, 0]) jI_197_17 rfl rfl rfl rfl ?_
  refine jT_eq (LN := [(3, (0, 4)), (0, (4, 0)), (1, (4, 1)), (2, (0, 7 * x1))]) (stN := [(1, 0), (0, 7 * x1 + 4), (4, 1)]) (hsN := [jzA_200, (100, [], ((((((((jS0).set ((7 * x1).toNat) 0)).set ((7 * x1 + 1).toNat) 0)).set ((7 * x1 + 2).toNat) 0)).set ((7 * x1 + 3).toNat) 0)), jgh, jgh, jgh, jgh, jgh, (101, [], [0, 0, 0, 0, 0, 0]), jgh, jgh, jgh, jgh, jgh, jgh, jgh, jgh]) rfl rfl rfl ?_
  refine jT_xl2i (pcN := 19) jI_197_18 rfl rfl ?_
  refine jT_iast (x := 0) (a := 1) (j := (7 * x1 + 4).toNat) (fs := []) (X := ((((((((jS0).set ((7 * x1).toNat) 0)).set ((7 * x1 + 1).toNat) 0)).set ((7 * x1 + 2).toNat) 0)).set ((7 * x1 + 3).toNat) 0)) (by rfl) (by rfl) (by rfl) (jw_nn (by omega) (by omega)) (by rw [show List.length (((((((((jS0).set ((7 * x1).toNat) 0)).set ((7 * x1 + 1).toNat) 0)).set ((7 * x1 + 2).toNat) 0)).set ((7 * x1 + 3).toNat) 0) : List Int) = 1613 from by rw [List.length_set, List.length_set, List.length_set, List.length_set]; exact (jS0_len)]; omega) ?_
  refine jT_eq (LN := [(3, (0, 4)), (0, (4, 0)), (1, (4, 1)), (2, (0, 7 * x1))]) (stN := []) (hsN := [jzA_200, (100, [], ((((((((((jS0).set ((7 * x1).toNat) 0)).set ((7 * x1 + 1).toNat) 0)).set ((7 * x1 + 2).toNat) 0)).set ((7 * x1 + 3).toNat) 0)).set ((7 * x1 + 4).toNat) 0)), jgh, jgh, jgh, jgh, jgh, (101, [], [0, 0, 0, 0, 0, 0]), jgh, jgh, jgh, jgh, jgh, jgh, jgh, jgh]) rfl rfl rfl ?_
  refine jT_xiinc (x := 4) (z := 5) (LN := [(3, (0, 5)), (0, (4, 0)), (1, (4, 1)), (2, (0, 7 * x1))]) (pcN := 23) jI_197_20 rfl rfl (by decide) rfl rfl ?_
  refine jT_xgoto (pcN := 2) jI_197_23 rfl ?_
  refine jT_xiload_n (v := (0, 5)) (pcN := 3) jI_197_2 rfl rfl rfl ?_
  refine jT_xbipush (k := 6) (pcN := 5) jI_197_3 (by decide) rfl ?_
  refine jT_xicF (t := 26) (pcN := 8) jI_197_5 rfl (by decide +kernel) rfl rfl ?_
  refine jT_xaload_n (v := (4, 1)) (pcN := 9) jI_197_8 rfl rfl rfl ?_
  refine jT_xiload_n (v := (0, 7 * x1)) (pcN := 10) jI_197_9 rfl rfl rfl ?_
  refine jT_xiload_n (v := (0, 5)) (pcN := 11) jI_197_10 rfl rfl rfl ?_
  refine jT_xiadd (x := 7 * x1) (y := 5) (z := 7 * x1 + 5) (pcN := 12) jI_197_11 rfl (by omega) rfl ?_
  refine jT_xaload_n (v := (4, 0)) (pcN := 13) jI_197_12 rfl rfl rfl ?_
  refine jT_xgetf (a := 0) (t := 1) (ci := 14) (fi := 9) (c := jzA_200) (v := (4, 7)) (pcN := 16) jI_197_13 rfl rfl rfl rfl rfl rfl rfl ?_
  refine jT_xiload_n (v := (0, 5)) (pcN := 17) jI_197_16 rfl rfl rfl ?_
  refine jT_lald (x := 0) (a := 7) (j := 5) (fs := []) (X := [0, 0, 0, 0, 0, 0]) jI_197_17 rfl rfl rfl rfl ?_
  refine jT_eq (LN := [(3, (0, 5)), (0, (4, 0)), (1, (4, 1)), (2, (0, 7 * x1))]) (stN := [(1, 0), (0, 7 * x1 + 5), (4, 1)]) (hsN := [jzA_200, (100, [], ((((((((((jS0).set ((7 * x1).toNat) 0)).set ((7 * x1 + 1).toNat) 0)).set ((7 * x1 + 2).toNat) 0)).set ((7 * x1 + 3).toNat) 0)).set ((7 * x1 + 4).toNat) 0)), jgh, jgh, jgh, jgh, jgh, (101, [], [0, 0, 0, 0, 0, 0]), jgh, jgh, jgh, jgh, jgh, jgh, jgh, jgh]) rfl rfl rfl ?_
  refine jT_xl2i (pcN := 19) jI_197_18 rfl rfl ?_
  refine jT_iast (x := 0) (a := 1) (j := (7 * x1 + 5).toNat) (fs := []) (X := ((((((((((jS0).set ((7 * x1).toNat) 0)).set ((7 * x1 + 1).toNat) 0)).set ((7 * x1 + 2).toNat) 0)).set ((7 * x1 + 3).toNat) 0)).set ((7 * x1 + 4).toNat) 0)) (by rfl) (by rfl) (by rfl) (jw_nn (by omega) (by omega)) (by rw [show List.length (((((((((((jS0).set ((7 * x1).toNat) 0)).set ((7 * x1 + 1).toNat) 0)).set ((7 * x1 + 2).toNat) 0)).set ((7 * x1 + 3).toNat) 0)).set ((7 * x1 + 4).toNat) 0) : List Int) = 1613 from by rw [List.length_set, List.length_set, List.length_set, List.length_set, List.length_set]; exact (jS0_len)]; omega) ?_
  refine jT_eq (LN := [(3, (0, 5)), (0, (4, 0)), (1, (4, 1)), (2, (0, 7 * x1))]) (stN := []) (hsN := [jzA_200, (100, [], ((((((((((((jS0).set ((7 * x1).toNat) 0)).set ((7 * x1 + 1).toNat) 0)).set ((7 * x1 + 2).toNat) 0)).set ((7 * x1 + 3).toNat) 0)).set ((7 * x1 + 4).toNat) 0)).set ((7 * x1 + 5).toNat) 0)), jgh, jgh, jgh, jgh, jgh, (101, [], [0, 0, 0, 0, 0, 0]), jgh, jgh, jgh, jgh, jgh, jgh, jgh, jgh]) rfl rfl rfl ?_
  refine jT_xiinc (x := 5) (z := 6) (LN := [(3, (0, 6)), (0, (4, 0)), (1, (4, 1)), (2, (0, 7 * x1))]) (pcN := 23) jI_197_20 rfl rfl (by decide) rfl rfl ?_
  refine jT_xgoto (pcN := 2) jI_197_23 rfl ?_
  refine jT_xiload_n (v := (0, 6)) (pcN := 3) jI_197_2 rfl rfl rfl ?_
  refine jT_xbipush (k := 6) (pcN := 5) jI_197_3 (by decide) rfl ?_
  refine jT_xicT (pcN := 26) jI_197_5 rfl (by decide +kernel) rfl ?_
  refine jT_xaload_n (v := (4, 1)) (pcN := 27) jI_197_26 rfl rfl rfl ?_
  refine jT_xiload_n (v := (0, 7 * x1)) (pcN := 28) jI_197_27 rfl rfl rfl ?_
  refine jT_xbipush (k := 6) (pcN := 30) jI_197_28 (by decide) rfl ?_
  refine jT_xiadd (x := 7 * x1) (y := 6) (z := 7 * x1 + 6) (pcN := 31) jI_197_30 rfl (by omega) rfl ?_
  refine jT_xaload_n (v := (4, 0)) (pcN := 32) jI_197_31 rfl rfl rfl ?_
  refine jT_xgetf (a := 0) (t := 1) (ci := 14) (fi := 10) (c := jzA_200) (v := (1, 1)) (pcN := 35) jI_197_32 rfl rfl rfl rfl rfl rfl rfl ?_
  refine jT_xl2i (pcN := 36) jI_197_35 rfl rfl ?_
  refine jT_iast (x := 1) (a := 1) (j := (7 * x1 + 6).toNat) (fs := []) (X := ((((((((((((jS0).set ((7 * x1).toNat) 0)).set ((7 * x1 + 1).toNat) 0)).set ((7 * x1 + 2).toNat) 0)).set ((7 * x1 + 3).toNat) 0)).set ((7 * x1 + 4).toNat) 0)).set ((7 * x1 + 5).toNat) 0)) (by rfl) (by rfl) (by rfl) (jw_nn (by omega) (by omega)) (by rw [show List.length (((((((((((((jS0).set ((7 * x1).toNat) 0)).set ((7 * x1 + 1).toNat) 0)).set ((7 * x1 + 2).toNat) 0)).set ((7 * x1 + 3).toNat) 0)).set ((7 * x1 + 4).toNat) 0)).set ((7 * x1 + 5).toNat) 0) : List Int) = 1613 from by rw [List.length_set, List.length_set, List.length_set, List.length_set, List.length_set, List.length_set]; exact (jS0_len)]; omega) ?_
  refine jT_eq (LN := [(3, (0, 6)), (0, (4, 0)), (1, (4, 1)), (2, (0, 7 * x1))]) (stN := []) (hsN := [jzA_200, (100, [], ((((((((((((((jS0).set ((7 * x1).toNat) 0)).set ((7 * x1 + 1).toNat) 0)).set ((7 * x1 + 2).toNat) 0)).set ((7 * x1 + 3).toNat) 0)).set ((7 * x1 + 4).toNat) 0)).set ((7 * x1 + 5).toNat) 0)).set ((7 * x1 + 6).toNat) 1)), jgh, jgh, jgh, jgh, jgh, (101, [], [0, 0, 0, 0, 0, 0]), jgh, jgh, jgh, jgh, jgh, jgh, jgh, jgh]) rfl rfl rfl ?_
  exact jT_ret rfl (by decide) (by show 16 ≤ 16; decide) (by omega) (by omega) ⟨rfl, rfl, rfl⟩
theorem jI_196_0 : jmI (jm 196) 0 = (.aload_n 0, 1) := by rfl
theorem jI_196_1 : jmI (jm 196) 1 = (.aload_n 0, 1) := by rfl
theorem jI_196_2 : jmI (jm 196) 2 = (.getfield 9, 3) := by rfl
theorem jI_196_5 : jmI (jm 196) 5 = (.bipush 7, 2) := by rfl
theorem jI_196_7 : jmI (jm 196) 7 = (.iload_n 1, 1) := by rfl
theorem jI_196_8 : jmI (jm 196) 8 = (.imul, 1) := by rfl
theorem jI_196_12 : jmI (jm 196) 12 = (.aload_n 0, 1) := by rfl
theorem jI_196_13 : jmI (jm 196) 13 = (.getfield 35, 3) := by rfl
theorem jI_196_16 : jmI (jm 196) 16 = (.l2i, 1) := by rfl
theorem jA_196_52 {xs : List Int} {d : Nat} {x1 : Int} (h_x1 : 0 ≤ x1 ∧ x1 ≤ 7) : jT xs (d + 1) 196 16 0 [(0, (4, 0)), (1, (0, x1))] [] jpA_216 0 0 (fun k v hsN => k = 0 ∧ v = (0, 1) ∧ hsN = [jzA_200, (100, [], ((((((((((((((jS0).set ((7 * x1).toNat) 0)).set ((7 * x1 + 1).toNat) 0)).set ((7 * x1 + 2).toNat) 0)).set ((7 * x1 + 3).toNat) 0)).set ((7 * x1 + 4).toNat) 0)).set ((7 * x1 + 5).toNat) 0)).set ((7 * x1 + 6).toNat) 1)), jgh, jgh, jgh, jgh, jgh, (101, [], [0, 0, 0, 0, 0, 0]), jgh, jgh, jgh, jgh, jgh, jgh, jgh, jgh]) := by
  refine jT_xaload_n (v := (4, 0)) (pcN := 1) jI_196_0 rfl rfl rfl ?_
  refine jT_xaload_n (v := (4, 0)) (pcN := 2) jI_196_1 rfl rfl rfl ?_
  refine jT_xgetf (a := 0) (t := 1) (ci := 14) (fi := 1) (c := jzA_200) (v := (4, 1)) (pcN := 5) jI_196_2 rfl rfl rfl rfl rfl rfl rfl ?_
  refine jT_xbipush (k := 7) (pcN := 7) jI_196_5 (by decide) rfl ?_
  refine jT_xiload_n (v := (0, x1)) (pcN := 8) jI_196_7 rfl rfl rfl ?_
  refine jT_ximul (x := 7) (y := x1) (z := 7 * x1) (pcN := 9) jI_196_8 rfl (rfl) rfl ?_
  refine jT_fB [0, 1, 2, 3, 4, 5, 6, 7, 8, 9, 10, 11, 12, 13, 14, 15] 16 (y := 197) (pcN := 12) (dC := 0) (bc1 := 0) (bc2 := 0) (c1 := 0) (c2 := 0) (as := [(4, 0), (4, 1), (0, 7 * x1)]) (asC := [(4, 0), (4, 1), (0, 7 * x1)]) (LN := [(0, (4, 0)), (1, (0, x1))]) (stN := []) (hsC := jpA_216) (hsD := [jzA_200, (100, [], ((((((((((((((jS0).set ((7 * x1).toNat) 0)).set ((7 * x1 + 1).toNat) 0)).set ((7 * x1 + 2).toNat) 0)).set ((7 * x1 + 3).toNat) 0)).set ((7 * x1 + 4).toNat) 0)).set ((7 * x1 + 5).toNat) 0)).set ((7 * x1 + 6).toNat) 1)), jgh, jgh, jgh, jgh, jgh, (101, [], [0, 0, 0, 0, 0, 0]), jgh, jgh, jgh, jgh, jgh, jgh, jgh, jgh]) (v := (9, 0)) (st2 := []) (hs2 := [jzA_200, (100, [], ((((((((((((((jS0).set ((7 * x1).toNat) 0)).set ((7 * x1 + 1).toNat) 0)).set ((7 * x1 + 2).toNat) 0)).set ((7 * x1 + 3).toNat) 0)).set ((7 * x1 + 4).toNat) 0)).set ((7 * x1 + 5).toNat) 0)).set ((7 * x1 + 6).toNat) 1)), jgh, jgh, jgh, jgh, jgh, (101, [], [0, 0, 0, 0, 0, 0]), jgh, jgh, jgh, jgh, jgh, jgh, jgh, jgh]) (jA_197_51 (d := 0) (by omega)) (by rfl) (by rfl) (by decide +kernel) (by rfl) (by rfl) (by omega) (by omega) (by omega) (by omega) rfl rfl ?_
  refine jT_xaload_n (v := (4, 0)) (pcN := 13) jI_196_12 rfl rfl rfl ?_
  refine jT_xgetf (a := 0) (t := 1) (ci := 14) (fi := 10) (c := jzA_200) (v := (1, 1)) (pcN := 16) jI_196_13 rfl rfl rfl rfl rfl rfl rfl ?_
  refine jT_xl2i (pcN := 17) jI_196_16 rfl rfl ?_
  exact jT_ret rfl (by decide) (by show 16 ≤ 16; decide) (by omega) (by omega) ⟨rfl, rfl, rfl⟩
theorem jI_201_22 : jmI (jm 201) 22 = (.iconst 1, 1) := by rfl
theorem jI_201_23 : jmI (jm 201) 23 = (.goto 4, 3) := by rfl
theorem jI_201_35 : jmI (jm 201) 35 = (.aload_n 0, 1) := by rfl
theorem jI_201_36 : jmI (jm 201) 36 = (.iload_n 2, 1) := by rfl
theorem jI_201_40 : jmI (jm 201) 40 = (.aload_n 0, 1) := by rfl
theorem jI_201_41 : jmI (jm 201) 41 = (.aload_n 0, 1) := by rfl
theorem jI_201_42 : jmI (jm 201) 42 = (.getfield 9, 3) := by rfl
theorem jI_201_45 : jmI (jm 201) 45 = (.bipush 7, 2) := by rfl
theorem jI_201_47 : jmI (jm 201) 47 = (.iload_n 3, 1) := by rfl
theorem jI_201_48 : jmI (jm 201) 48 = (.imul, 1) := by rfl
theorem jI_201_49 : jmI (jm 201) 49 = (.iload 4, 2) := by rfl
theorem jI_201_51 : jmI (jm 201) 51 = (.ifCond .eq 9, 3) := by rfl
def jpA_248 : List JC := [jzA_21, (100, [], jS0), (100, [], []), jzA_196, jzA_197, jgh, jgh, (101, [], [0, 0, 0, 0, 0, 0]), jgh, jgh, jgh, jgh, jgh, jgh, jgh, jgh, (100, [], (List.replicate 1613 0)), jgh, jgh, jgh, jgh, jgh, jgh, jgh]
theorem jI_201_57 : jmI (jm 201) 57 = (.goto 4, 3) := by rfl
theorem jI_201_64 : jmI (jm 201) 64 = (.aload_n 0, 1) := by rfl
theorem jI_201_65 : jmI (jm 201) 65 = (.aload_n 0, 1) := by rfl
theorem jI_201_69 : jmI (jm 201) 69 = (.iconst 2, 1) := by rfl
theorem jI_201_73 : jmI (jm 201) 73 = (.ifCond .eq 5, 3) := by rfl
theorem jI_201_78 : jmI (jm 201) 78 = (.aload_n 0, 1) := by rfl
def jpA_255 : List JC := [jzA_200, (100, [], jS0), (100, [], []), jzA_196, jzA_201, jgh, jgh, (101, [], [0, 0, 0, 0, 0, 0]), jgh, jgh, jgh, jgh, jgh, jgh, jgh, jgh, (100, [], jS0), jgh, jgh, jgh, jgh, jgh, jgh, jgh]
theorem jI_201_82 : jmI (jm 201) 82 = (.aload_n 0, 1) := by rfl
theorem jI_201_83 : jmI (jm 201) 83 = (.iload_n 1, 1) := by rfl
theorem jA_201_53 {xs : List Int} {d : Nat} {x1 x2 x3 : Int} (h_x1 : 0 ≤ x1 ∧ x1 ≤ 7) (h_x2 : 0 ≤ x2 ∧ x2 ≤ 7) (h_x3 : 0 ≤ x3 ∧ x3 ≤ 7) : jT xs (d + 3) 201 24 0 [(0, (4, 0)), (1, (0, x1)), (2, (0, x2)), (3, (0, x3)), (4, (0, 1))] [] jpA_248 0 0 (fun k v hsN => k = 0 ∧ v = (0, 1) ∧ hsN = [jzA_200, (100, [], ((((((((((((((jS0).set ((7 * x1).toNat) 0)).set ((7 * x1 + 1).toNat) 0)).set ((7 * x1 + 2).toNat) 0)).set ((7 * x1 + 3).toNat) 0)).set ((7 * x1 + 4).toNat) 0)).set ((7 * x1 + 5).toNat) 0)).set ((7 * x1 + 6).toNat) 1)), (100, [], []), jzA_196, jzA_201, jgh, jgh, (101, [], [0, 0, 0, 0, 0, 0]), jgh, jgh, jgh, jgh, jgh, jgh, jgh, jgh, (100, [], jS0), jgh, jgh, jgh, jgh, jgh, jgh, jgh]) := by
  refine jT_xaload_n (v := (4, 0)) (pcN := 1) jI_201_0 rfl rfl rfl ?_
  refine jT_xiload_n (v := (0, x1)) (pcN := 2) jI_201_1 rfl rfl rfl ?_
  refine jT_fR [] 24 (y := 188) (pcN := 5) (dC := 1) (bc1 := 0) (bc2 := 0) (c1 := 0) (c2 := 0) (as := [(0, x1)]) (asC := [(0, x1)]) (LN := [(0, (4, 0)), (1, (0, x1)), (2, (0, x2)), (3, (0, x3)), (4, (0, 1))]) (stN := [(4, 0)]) (hsC := []) (v := (0, 1)) (st2 := [(0, 1), (4, 0)]) (jA_188_13 (d := 0) (by omega)) (by rfl) (by rfl) (by decide +kernel) (by rfl) (by rfl) (by omega) (by omega) (by omega) (by omega) rfl ?_
  refine jT_xifF (t := 26) (pcN := 8) jI_201_5 rfl (by decide +kernel) rfl rfl ?_
  refine jT_xiload_n (v := (0, x2)) (pcN := 9) jI_201_8 rfl rfl rfl ?_
  refine jT_fR [] 24 (y := 188) (pcN := 12) (dC := 1) (bc1 := 0) (bc2 := 0) (c1 := 0) (c2 := 0) (as := [(0, x2)]) (asC := [(0, x2)]) (LN := [(0, (4, 0)), (1, (0, x1)), (2, (0, x2)), (3, (0, x3)), (4, (0, 1))]) (stN := [(4, 0)]) (hsC := []) (v := (0, 1)) (st2 := [(0, 1), (4, 0)]) (jA_188_20 (d := 0) (by omega)) (by rfl) (by rfl) (by decide +kernel) (by rfl) (by rfl) (by omega) (by omega) (by omega) (by omega) rfl ?_
  refine jT_xifF (t := 26) (pcN := 15) jI_201_12 rfl (by decide +kernel) rfl rfl ?_
  refine jT_xiload_n (v := (0, x3)) (pcN := 16) jI_201_15 rfl rfl rfl ?_
  refine jT_fR [] 24 (y := 188) (pcN := 19) (dC := 1) (bc1 := 0) (bc2 := 0) (c1 := 0) (c2 := 0) (as := [(0, x3)]) (asC := [(0, x3)]) (LN := [(0, (4, 0)), (1, (0, x1)), (2, (0, x2)), (3, (0, x3)), (4, (0, 1))]) (stN := [(4, 0)]) (hsC := []) (v := (0, 1)) (st2 := [(0, 1), (4, 0)]) (jA_188_37 (d := 0) (by omega)) (by rfl) (by rfl) (by decide +kernel) (by rfl) (by rfl) (by omega) (by omega) (by omega) (by omega) rfl ?_
  refine jT_xifF (t := 26) (pcN := 22) jI_201_19 rfl (by decide +kernel) rfl rfl ?_
  refine jT_xiconst (k := 1) (pcN := 23) jI_201_22 rfl ?_
  refine jT_xgoto (pcN := 27) jI_201_23 rfl ?_
  refine jT_fR [0, 1, 2, 3, 4, 5, 6, 7, 8, 9, 10, 11, 12, 13, 14, 15] 24 (y := 190) (pcN := 30) (dC := 1) (bc1 := 0) (bc2 := 0) (c1 := 0) (c2 := 0) (as := [(4, 0), (0, 1)]) (asC := [(4, 0), (0, 1)]) (LN := [(0, (4, 0)), (1, (0, x1)), (2, (0, x2)), (3, (0, x3)), (4, (0, 1))]) (stN := []) (hsC := jpA_22) (v := (0, 0)) (st2 := [(0, 0)]) (jA_190_39 (d := 0)) (by rfl) (by rfl) (by decide +kernel) (by rfl) (by rfl) (by omega) (by omega) (by omega) (by omega) rfl ?_
  refine jT_xifT (pcN := 35) jI_201_30 rfl (by decide +kernel) rfl ?_
  refine jT_xaload_n (v := (4, 0)) (pcN := 36) jI_201_35 rfl rfl rfl ?_
  refine jT_xiload_n (v := (0, x2)) (pcN := 37) jI_201_36 rfl rfl rfl ?_
  refine jT_fR [0, 1, 2, 3, 4, 5, 6, 7, 8, 9, 10, 11, 12, 13, 14, 15] 24 (y := 202) (pcN := 40) (dC := 1) (bc1 := 0) (bc2 := 0) (c1 := 0) (c2 := 0) (as := [(4, 0), (0, x2)]) (asC := [(4, 0), (0, x2)]) (LN := [(0, (4, 0)), (1, (0, x1)), (2, (0, x2)), (3, (0, x3)), (4, (0, 1))]) (stN := []) (hsC := jpA_130) (v := (9, 0)) (st2 := []) (jA_202_41 (d := 0) (by omega)) (by rfl) (by rfl) (by decide +kernel) (by rfl) (by rfl) (by omega) (by omega) (by omega) (by omega) rfl ?_
  refine jT_xaload_n (v := (4, 0)) (pcN := 41) jI_201_40 rfl rfl rfl ?_
  refine jT_xaload_n (v := (4, 0)) (pcN := 42) jI_201_41 rfl rfl rfl ?_
  refine jT_xgetf (a := 0) (t := 1) (ci := 14) (fi := 1) (c := jzA_21) (v := (4, 1)) (pcN := 45) jI_201_42 rfl rfl rfl rfl rfl rfl rfl ?_
  refine jT_xbipush (k := 7) (pcN := 47) jI_201_45 (by decide) rfl ?_
  refine jT_xiload_n (v := (0, x3)) (pcN := 48) jI_201_47 rfl rfl rfl ?_
  refine jT_ximul (x := 7) (y := x3) (z := 7 * x3) (pcN := 49) jI_201_48 rfl (rfl) rfl ?_
  refine jT_xiload (v := (0, 1)) (pcN := 51) jI_201_49 rfl rfl rfl ?_
  refine jT_xifF (t := 60) (pcN := 54) jI_201_51 rfl (by decide +kernel) rfl rfl ?_
  refine jT_adv 1 (pcN := 57) (LN := [(0, (4, 0)), (1, (0, x1)), (2, (0, x2)), (3, (0, x3)), (4, (0, 1))]) (stN := [(1, (-1)), (0, 7 * x3), (4, 1), (4, 0)]) (hsN := jpA_248) (c1 := 0) (s1 := 0) (c2 := 0) (s2 := 0) (by exact rfl) ?_ (by omega) (by omega)
  refine jT_xgoto (pcN := 61) jI_201_57 rfl ?_
  refine jT_fR [0, 1, 2, 3, 4, 5, 6, 7, 8, 9, 10, 11, 12, 13, 14, 15] 24 (y := 204) (pcN := 64) (dC := 2) (bc1 := 0) (bc2 := 0) (c1 := 0) (c2 := 0) (as := [(4, 0), (4, 1), (0, 7 * x3), (1, (-1))]) (asC := [(4, 0), (4, 1), (0, 7 * x3), (1, (-1))]) (LN := [(0, (4, 0)), (1, (0, x1)), (2, (0, x2)), (3, (0, x3)), (4, (0, 1))]) (stN := []) (hsC := jpA_130) (v := (9, 0)) (st2 := []) (jA_204_46 (d := 0) (by omega)) (by rfl) (by rfl) (by decide +kernel) (by rfl) (by rfl) (by omega) (by omega) (by omega) (by omega) rfl ?_
  refine jT_xaload_n (v := (4, 0)) (pcN := 65) jI_201_64 rfl rfl rfl ?_
  refine jT_xaload_n (v := (4, 0)) (pcN := 66) jI_201_65 rfl rfl rfl ?_
  refine jT_fR [0, 1, 2, 3, 4, 5, 6, 7, 8, 9, 10, 11, 12, 13, 14, 15] 24 (y := 205) (pcN := 69) (dC := 1) (bc1 := 0) (bc2 := 0) (c1 := 0) (c2 := 0) (as := [(4, 0)]) (asC := [(4, 0)]) (LN := [(0, (4, 0)), (1, (0, x1)), (2, (0, x2)), (3, (0, x3)), (4, (0, 1))]) (stN := [(4, 0)]) (hsC := jpA_147) (v := (0, 1)) (st2 := [(0, 1), (4, 0)]) (jA_205_48 (d := 0)) (by rfl) (by rfl) (by decide +kernel) (by rfl) (by rfl) (by omega) (by omega) (by omega) (by omega) rfl ?_
  refine jT_xiconst (k := 2) (pcN := 70) jI_201_69 rfl ?_
  refine jT_fR [0] 24 (y := 191) (pcN := 73) (dC := 0) (bc1 := 0) (bc2 := 0) (c1 := 0) (c2 := 0) (as := [(4, 0), (0, 1), (0, 2)]) (asC := [(4, 0), (0, 1), (0, 2)]) (LN := [(0, (4, 0)), (1, (0, x1)), (2, (0, x2)), (3, (0, x3)), (4, (0, 1))]) (stN := []) (hsC := [jgh]) (v := (0, 0)) (st2 := [(0, 0)]) (jA_191_49 (d := 0)) (by rfl) (by rfl) (by decide +kernel) (by rfl) (by rfl) (by omega) (by omega) (by omega) (by omega) rfl ?_
  refine jT_xifT (pcN := 78) jI_201_73 rfl (by decide +kernel) rfl ?_
  refine jT_xaload_n (v := (4, 0)) (pcN := 79) jI_201_78 rfl rfl rfl ?_
  refine jT_fB [0, 1, 2, 3, 4, 5, 6, 7, 8, 9, 10, 11, 12, 13, 14, 15, 16, 17, 18, 19, 20, 21, 22, 23] 24 (y := 195) (pcN := 82) (dC := 0) (bc1 := 0) (bc2 := 0) (c1 := 0) (c2 := 0) (as := [(4, 0)]) (asC := [(4, 0)]) (LN := [(0, (4, 0)), (1, (0, x1)), (2, (0, x2)), (3, (0, x3)), (4, (0, 1))]) (stN := []) (hsC := jpA_198) (hsD := jpA_202) (v := (9, 0)) (st2 := []) (hs2 := jpA_255) (jA_195_50 (d := 0)) (by rfl) (by rfl) (by decide +kernel) (by rfl) (by rfl) (by omega) (by omega) (by omega) (by omega) rfl (by decide +kernel) ?_
  refine jT_xaload_n (v := (4, 0)) (pcN := 83) jI_201_82 rfl rfl rfl ?_
  refine jT_xiload_n (v := (0, x1)) (pcN := 84) jI_201_83 rfl rfl rfl ?_
  refine jT_fB [0, 1, 2, 3, 4, 5, 6, 7, 8, 9, 10, 11, 12, 13, 14, 15] 24 (y := 196) (pcN := 87) (dC := 1) (bc1 := 0) (bc2 := 0) (c1 := 0) (c2 := 0) (as := [(4, 0), (0, x1)]) (asC := [(4, 0), (0, x1)]) (LN := [(0, (4, 0)), (1, (0, x1)), (2, (0, x2)), (3, (0, x3)), (4, (0, 1))]) (stN := []) (hsC := jpA_216) (hsD := [jzA_200, (100, [], ((((((((((((((jS0).set ((7 * x1).toNat) 0)).set ((7 * x1 + 1).toNat) 0)).set ((7 * x1 + 2).toNat) 0)).set ((7 * x1 + 3).toNat) 0)).set ((7 * x1 + 4).toNat) 0)).set ((7 * x1 + 5).toNat) 0)).set ((7 * x1 + 6).toNat) 1)), jgh, jgh, jgh, jgh, jgh, (101, [], [0, 0, 0, 0, 0, 0]), jgh, jgh, jgh, jgh, jgh, jgh, jgh, jgh]) (v := (0, 1)) (st2 := [(0, 1)]) (hs2 := [jzA_200, (100, [], ((((((((((((((jS0).set ((7 * x1).toNat) 0)).set ((7 * x1 + 1).toNat) 0)).set ((7 * x1 + 2).toNat) 0)).set ((7 * x1 + 3).toNat) 0)).set ((7 * x1 + 4).toNat) 0)).set ((7 * x1 + 5).toNat) 0)).set ((7 * x1 + 6).toNat) 1)), (100, [], []), jzA_196, jzA_201, jgh, jgh, (101, [], [0, 0, 0, 0, 0, 0]), jgh, jgh, jgh, jgh, jgh, jgh, jgh, jgh, (100, [], jS0), jgh, jgh, jgh, jgh, jgh, jgh, jgh]) (jA_196_52 (d := 0) (by omega)) (by rfl) (by rfl) (by decide +kernel) (by rfl) (by rfl) (by omega) (by omega) (by omega) (by omega) rfl rfl ?_
  exact jT_ret rfl (by decide) (by show 24 ≤ 24; decide) (by omega) (by omega) ⟨rfl, rfl, rfl⟩
def jpA_258 : List JC := [jzA_200, jgh, jgh, jgh, jgh, jgh, jgh, jgh, jgh, jgh, jgh, jgh, jgh, jgh, jgh, jgh]
theorem jA_186_54 {xs : List Int} {d : Nat} : jT xs d 186 16 0 [(0, (4, 0))] [] jpA_258 0 0 (fun k v hsN => k = 0 ∧ v = (0, 0) ∧ hsN = jpA_258 ++ []) := by
  refine jT_advK 2 (pcN := 4) (LN := [(0, (4, 0))]) (stN := [(0, 0)]) (hsN := jpA_258) (c1 := 0) (s1 := 0) (c2 := 0) (s2 := 0) (by decide +kernel) ?_ (by omega) (by omega)
  exact jT_ret rfl (by decide) (by show 16 ≤ 16; decide) (by omega) (by omega) ⟨rfl, rfl, rfl⟩
theorem jA_115_55 {xs : List Int} {d : Nat} {x3 : Int} (h_x3 : 8 ≤ x3 ∧ x3 ≤ 2147483647) : jT xs d 115 1 0 [(0, (4, 0)), (1, (0, x3)), (2, (0, 8))] [] [jgh] 1 6 (fun k v hsN => k = 1 ∧ v = (0, 0) ∧ hsN = [jgh] ++ []) := by
  refine jT_xiload_n (v := (0, x3)) (pcN := 1) jI_115_0 rfl rfl rfl ?_
  refine jT_ifF (a := x3) (t := 9) (by rfl) (by rfl) (by rfl) (jw_idd (by omega) (by omega)) (by simp only [jcP] <;> omega) ?_
  refine jT_xiload_n (v := (0, x3)) (pcN := 5) jI_115_4 rfl rfl rfl ?_
  refine jT_xiload_n (v := (0, 8)) (pcN := 6) jI_115_5 rfl rfl rfl ?_
  refine jT_icF (a := x3) (b := 8) (t := 20) (by rfl) (by rfl) (by rfl) (jw_idd (by omega) (by omega)) (jw_idd (by omega) (by omega)) (by simp only [jcP] <;> omega) ?_
  exact jT_ret (c1 := 1) (s1 := 6) rfl (by decide) (by show 1 ≤ 1; decide) (by omega) (by omega) ⟨rfl, rfl, rfl⟩
theorem jA_119_56 {xs : List Int} {d : Nat} {x1 x2 x3 : Int} (h_x1 : 0 ≤ x1 ∧ x1 ≤ 7) (h_x2 : 0 ≤ x2 ∧ x2 ≤ 7) (h_x3 : 8 ≤ x3 ∧ x3 ≤ 2147483647) : jT xs (d + 1) 119 12 0 [(0, (4, 0)), (1, (0, x1)), (2, (0, x2)), (3, (0, x3)), (4, (0, 1))] [] jpA_6 1 6 (fun k v hsN => k = 1 ∧ v = (0, 0) ∧ hsN = jpA_6 ++ []) := by
  refine jT_xaload_n (v := (4, 0)) (pcN := 1) jI_119_0 rfl rfl rfl ?_
  refine jT_xiload_n (v := (0, x1)) (pcN := 2) jI_119_1 rfl rfl rfl ?_
  refine jT_xbipush (k := 8) (pcN := 4) jI_119_2 (by decide) rfl ?_
  refine jT_fR [0] 12 (y := 115) (pcN := 7) (dC := 0) (bc1 := 0) (bc2 := 0) (c1 := 1) (c2 := 6) (as := [(4, 0), (0, x1), (0, 8)]) (asC := [(4, 0), (0, x1), (0, 8)]) (LN := [(0, (4, 0)), (1, (0, x1)), (2, (0, x2)), (3, (0, x3)), (4, (0, 1))]) (stN := []) (hsC := [jgh]) (v := (9, 0)) (st2 := []) (jA_115_9 (d := 0) (by omega)) (by rfl) (by rfl) (by decide +kernel) (by rfl) (by rfl) (by omega) (by omega) (by omega) (by omega) rfl ?_
  refine jT_xaload_n (v := (4, 0)) (pcN := 8) jI_119_7 rfl rfl rfl ?_
  refine jT_xiload_n (v := (0, x2)) (pcN := 9) jI_119_8 rfl rfl rfl ?_
  refine jT_xbipush (k := 8) (pcN := 11) jI_119_9 (by decide) rfl ?_
  refine jT_fR [0] 12 (y := 115) (pcN := 14) (dC := 0) (bc1 := 0) (bc2 := 0) (c1 := 1) (c2 := 6) (as := [(4, 0), (0, x2), (0, 8)]) (asC := [(4, 0), (0, x2), (0, 8)]) (LN := [(0, (4, 0)), (1, (0, x1)), (2, (0, x2)), (3, (0, x3)), (4, (0, 1))]) (stN := []) (hsC := [jgh]) (v := (9, 0)) (st2 := []) (jA_115_16 (d := 0) (by omega)) (by rfl) (by rfl) (by decide +kernel) (by rfl) (by rfl) (by omega) (by omega) (by omega) (by omega) rfl ?_
  refine jT_xaload_n (v := (4, 0)) (pcN := 15) jI_119_14 rfl rfl rfl ?_
  refine jT_xiload_n (v := (0, x3)) (pcN := 16) jI_119_15 rfl rfl rfl ?_
  refine jT_xbipush (k := 8) (pcN := 18) jI_119_16 (by decide) rfl ?_
  exact jT_fX [0] 12 (y := 115) (pcN := 21) (dC := 0) (bc1 := 1) (bc2 := 6) (as := [(4, 0), (0, x3), (0, 8)]) (asC := [(4, 0), (0, x3), (0, 8)]) (LN := [(0, (4, 0)), (1, (0, x1)), (2, (0, x2)), (3, (0, x3)), (4, (0, 1))]) (stN := []) (hsC := [jgh]) (e := 0) (jA_115_55 (d := 0) (by omega)) (by rfl) (by rfl) (by decide +kernel) (by rfl) (by rfl) (by omega) (by omega) (by omega) (by omega) ⟨rfl, ⟨rfl, rfl, rfl⟩⟩
theorem jA_328_57 {xs : List Int} {d : Nat} {x1 x2 x3 : Int} (h_x1 : 0 ≤ x1 ∧ x1 ≤ 7) (h_x2 : 0 ≤ x2 ∧ x2 ≤ 7) (h_x3 : 8 ≤ x3 ∧ x3 ≤ 2147483647) : jT xs (d + 2) 328 13 0 [(0, (4, 0)), (1, (0, x1)), (2, (0, x2)), (3, (0, x3)), (4, (0, 1)), (5, (4, 1))] [] jpA_15 1 6 (fun k v hsN => k = 0 ∧ v = (0, 1) ∧ hsN = jpA_15 ++ []) := by
  refine jT_xaload (v := (4, 1)) (pcN := 2) jI_328_0 rfl rfl rfl ?_
  refine jT_xiconst (k := 0) (pcN := 3) jI_328_2 rfl ?_
  refine jT_xaload_n (v := (4, 0)) (pcN := 4) jI_328_3 rfl rfl rfl ?_
  refine jT_xiload_n (v := (0, x1)) (pcN := 5) jI_328_4 rfl rfl rfl ?_
  refine jT_xiload_n (v := (0, x2)) (pcN := 6) jI_328_5 rfl rfl rfl ?_
  refine jT_xiload_n (v := (0, x3)) (pcN := 7) jI_328_6 rfl rfl rfl ?_
  refine jT_xiload (v := (0, 1)) (pcN := 9) jI_328_7 rfl rfl rfl ?_
  exact jT_fX [0, 2, 3, 4, 5, 6, 7, 8, 9, 10, 11, 12] 13 (y := 119) (pcN := 12) (dC := 1) (bc1 := 1) (bc2 := 6) (as := [(4, 0), (0, x1), (0, x2), (0, x3), (0, 1)]) (asC := [(4, 0), (0, x1), (0, x2), (0, x3), (0, 1)]) (LN := [(0, (4, 0)), (1, (0, x1)), (2, (0, x2)), (3, (0, x3)), (4, (0, 1)), (5, (4, 1))]) (stN := [(0, 0), (4, 1)]) (hsC := jpA_6) (e := 0) (jA_119_56 (d := 0) (by omega) (by omega) (by omega)) (by rfl) (by rfl) (by decide +kernel) (by rfl) (by rfl) (by omega) (by omega) (by omega) (by omega) (show _ from ⟨rfl, rfl, rfl⟩)
theorem jA_188_58 {xs : List Int} {d : Nat} {x3 : Int} (h_x3 : 8 ≤ x3 ∧ x3 ≤ 2147483647) : jT xs (d + 1) 188 0 0 [(0, (0, x3))] [] [] 0 0 (fun k v hsN => k = 0 ∧ v = (0, 0) ∧ hsN = [] ++ []) := by
  refine jT_xiload_n (v := (0, x3)) (pcN := 1) jI_188_0 rfl rfl rfl ?_
  refine jT_xi2l (x := x3) (z := x3) (pcN := 2) jI_188_1 rfl (jw_idd (by omega) (by omega)) rfl ?_
  refine jT_xlconst (z := 0) (pcN := 3) jI_188_2 rfl rfl ?_
  refine jT_adv 1 (pcN := 6) (LN := [(0, (0, x3))]) (stN := [(1, 7), (1, 0), (1, x3)]) (hsN := []) (c1 := 0) (s1 := 0) (c2 := 0) (s2 := 0) (by exact rfl) ?_ (by omega) (by omega)
  refine jT_fR [] 0 (y := 189) (pcN := 9) (dC := 0) (bc1 := 0) (bc2 := 0) (c1 := 0) (c2 := 0) (as := [(1, x3), (1, 0), (1, 7)]) (asC := [(1, x3), (1, 0), (1, 7)]) (LN := [(0, (0, x3))]) (stN := []) (hsC := []) (v := (0, 0)) (st2 := [(0, 0)]) (jT_in_hi (d := 0) (v := x3) (lo := 0) (hi := 7) (by omega) (by omega) (by omega) (by omega) (by omega)) (by rfl) (by rfl) (by decide +kernel) (by rfl) (by rfl) (by omega) (by omega) (by omega) (by omega) rfl ?_
  exact jT_ret rfl (by decide) (by show 0 ≤ 0; decide) (by omega) (by omega) ⟨rfl, rfl, rfl⟩
theorem jA_201_59 {xs : List Int} {d : Nat} {x1 x2 x3 : Int} (h_x1 : 0 ≤ x1 ∧ x1 ≤ 7) (h_x2 : 0 ≤ x2 ∧ x2 ≤ 7) (h_x3 : 8 ≤ x3 ∧ x3 ≤ 2147483647) : jT xs (d + 2) 201 16 0 [(0, (4, 0)), (1, (0, x1)), (2, (0, x2)), (3, (0, x3)), (4, (0, 1))] [] jpA_22 0 0 (fun k v hsN => k = 0 ∧ v = (0, 0) ∧ hsN = jpA_20) := by
  refine jT_xaload_n (v := (4, 0)) (pcN := 1) jI_201_0 rfl rfl rfl ?_
  refine jT_xiload_n (v := (0, x1)) (pcN := 2) jI_201_1 rfl rfl rfl ?_
  refine jT_fR [] 16 (y := 188) (pcN := 5) (dC := 1) (bc1 := 0) (bc2 := 0) (c1 := 0) (c2 := 0) (as := [(0, x1)]) (asC := [(0, x1)]) (LN := [(0, (4, 0)), (1, (0, x1)), (2, (0, x2)), (3, (0, x3)), (4, (0, 1))]) (stN := [(4, 0)]) (hsC := []) (v := (0, 1)) (st2 := [(0, 1), (4, 0)]) (jA_188_13 (d := 0) (by omega)) (by rfl) (by rfl) (by decide +kernel) (by rfl) (by rfl) (by omega) (by omega) (by omega) (by omega) rfl ?_
  refine jT_xifF (t := 26) (pcN := 8) jI_201_5 rfl (by decide +kernel) rfl rfl ?_
  refine jT_xiload_n (v := (0, x2)) (pcN := 9) jI_201_8 rfl rfl rfl ?_
  refine jT_fR [] 16 (y := 188) (pcN := 12) (dC := 1) (bc1 := 0) (bc2 := 0) (c1 := 0) (c2 := 0) (as := [(0, x2)]) (asC := [(0, x2)]) (LN := [(0, (4, 0)), (1, (0, x1)), (2, (0, x2)), (3, (0, x3)), (4, (0, 1))]) (stN := [(4, 0)]) (hsC := []) (v := (0, 1)) (st2 := [(0, 1), (4, 0)]) (jA_188_20 (d := 0) (by omega)) (by rfl) (by rfl) (by decide +kernel) (by rfl) (by rfl) (by omega) (by omega) (by omega) (by omega) rfl ?_
  refine jT_xifF (t := 26) (pcN := 15) jI_201_12 rfl (by decide +kernel) rfl rfl ?_
  refine jT_xiload_n (v := (0, x3)) (pcN := 16) jI_201_15 rfl rfl rfl ?_
  refine jT_fR [] 16 (y := 188) (pcN := 19) (dC := 1) (bc1 := 0) (bc2 := 0) (c1 := 0) (c2 := 0) (as := [(0, x3)]) (asC := [(0, x3)]) (LN := [(0, (4, 0)), (1, (0, x1)), (2, (0, x2)), (3, (0, x3)), (4, (0, 1))]) (stN := [(4, 0)]) (hsC := []) (v := (0, 0)) (st2 := [(0, 0), (4, 0)]) (jA_188_58 (d := 0) (by omega)) (by rfl) (by rfl) (by decide +kernel) (by rfl) (by rfl) (by omega) (by omega) (by omega) (by omega) rfl ?_
  refine jT_xifT (pcN := 26) jI_201_19 rfl (by decide +kernel) rfl ?_
  refine jT_xiconst (k := 0) (pcN := 27) jI_201_26 rfl ?_
  refine jT_fB [0, 1, 2, 3, 4, 5, 6, 7, 8, 9, 10, 11, 12, 13, 14, 15] 16 (y := 190) (pcN := 30) (dC := 1) (bc1 := 0) (bc2 := 0) (c1 := 0) (c2 := 0) (as := [(4, 0), (0, 0)]) (asC := [(4, 0), (0, 0)]) (LN := [(0, (4, 0)), (1, (0, x1)), (2, (0, x2)), (3, (0, x3)), (4, (0, 1))]) (stN := []) (hsC := jpA_22) (hsD := jpA_20) (v := (0, 1)) (st2 := [(0, 1)]) (hs2 := jpA_20) (jA_190_6 (d := 0)) (by rfl) (by rfl) (by decide +kernel) (by rfl) (by rfl) (by omega) (by omega) (by omega) (by omega) rfl (by decide +kernel) ?_
  refine jT_xifF (t := 35) (pcN := 33) jI_201_30 rfl (by decide +kernel) rfl rfl ?_
  refine jT_xiconst (k := 0) (pcN := 34) jI_201_33 rfl ?_
  exact jT_ret rfl (by decide) (by show 16 ≤ 16; decide) (by omega) (by omega) ⟨rfl, rfl, rfl⟩
theorem jA_115_60 {xs : List Int} {d : Nat} {x2 : Int} (h_x2 : 8 ≤ x2 ∧ x2 ≤ 2147483647) : jT xs d 115 1 0 [(0, (4, 0)), (1, (0, x2)), (2, (0, 8))] [] [jgh] 1 6 (fun k v hsN => k = 1 ∧ v = (0, 0) ∧ hsN = [jgh] ++ []) := by
  refine jT_xiload_n (v := (0, x2)) (pcN := 1) jI_115_0 rfl rfl rfl ?_
  refine jT_ifF (a := x2) (t := 9) (by rfl) (by rfl) (by rfl) (jw_idd (by omega) (by omega)) (by simp only [jcP] <;> omega) ?_
  refine jT_xiload_n (v := (0, x2)) (pcN := 5) jI_115_4 rfl rfl rfl ?_
  refine jT_xiload_n (v := (0, 8)) (pcN := 6) jI_115_5 rfl rfl rfl ?_
  refine jT_icF (a := x2) (b := 8) (t := 20) (by rfl) (by rfl) (by rfl) (jw_idd (by omega) (by omega)) (jw_idd (by omega) (by omega)) (by simp only [jcP] <;> omega) ?_
  exact jT_ret (c1 := 1) (s1 := 6) rfl (by decide) (by show 1 ≤ 1; decide) (by omega) (by omega) ⟨rfl, rfl, rfl⟩
theorem jA_119_61 {xs : List Int} {d : Nat} {x1 x2 x3 : Int} (h_x1 : 0 ≤ x1 ∧ x1 ≤ 7) (h_x2 : 8 ≤ x2 ∧ x2 ≤ 2147483647) (h_x3 : (-2147483648) ≤ x3 ∧ x3 ≤ 2147483647) : jT xs (d + 1) 119 12 0 [(0, (4, 0)), (1, (0, x1)), (2, (0, x2)), (3, (0, x3)), (4, (0, 1))] [] jpA_6 1 6 (fun k v hsN => k = 1 ∧ v = (0, 0) ∧ hsN = jpA_6 ++ []) := by
  refine jT_xaload_n (v := (4, 0)) (pcN := 1) jI_119_0 rfl rfl rfl ?_
  refine jT_xiload_n (v := (0, x1)) (pcN := 2) jI_119_1 rfl rfl rfl ?_
  refine jT_xbipush (k := 8) (pcN := 4) jI_119_2 (by decide) rfl ?_
  refine jT_fR [0] 12 (y := 115) (pcN := 7) (dC := 0) (bc1 := 0) (bc2 := 0) (c1 := 1) (c2 := 6) (as := [(4, 0), (0, x1), (0, 8)]) (asC := [(4, 0), (0, x1), (0, 8)]) (LN := [(0, (4, 0)), (1, (0, x1)), (2, (0, x2)), (3, (0, x3)), (4, (0, 1))]) (stN := []) (hsC := [jgh]) (v := (9, 0)) (st2 := []) (jA_115_9 (d := 0) (by omega)) (by rfl) (by rfl) (by decide +kernel) (by rfl) (by rfl) (by omega) (by omega) (by omega) (by omega) rfl ?_
  refine jT_xaload_n (v := (4, 0)) (pcN := 8) jI_119_7 rfl rfl rfl ?_
  refine jT_xiload_n (v := (0, x2)) (pcN := 9) jI_119_8 rfl rfl rfl ?_
  refine jT_xbipush (k := 8) (pcN := 11) jI_119_9 (by decide) rfl ?_
  exact jT_fX [0] 12 (y := 115) (pcN := 14) (dC := 0) (bc1 := 1) (bc2 := 6) (as := [(4, 0), (0, x2), (0, 8)]) (asC := [(4, 0), (0, x2), (0, 8)]) (LN := [(0, (4, 0)), (1, (0, x1)), (2, (0, x2)), (3, (0, x3)), (4, (0, 1))]) (stN := []) (hsC := [jgh]) (e := 0) (jA_115_60 (d := 0) (by omega)) (by rfl) (by rfl) (by decide +kernel) (by rfl) (by rfl) (by omega) (by omega) (by omega) (by omega) ⟨rfl, ⟨rfl, rfl, rfl⟩⟩
theorem jA_328_62 {xs : List Int} {d : Nat} {x1 x2 x3 : Int} (h_x1 : 0 ≤ x1 ∧ x1 ≤ 7) (h_x2 : 8 ≤ x2 ∧ x2 ≤ 2147483647) (h_x3 : (-2147483648) ≤ x3 ∧ x3 ≤ 2147483647) : jT xs (d + 2) 328 13 0 [(0, (4, 0)), (1, (0, x1)), (2, (0, x2)), (3, (0, x3)), (4, (0, 1)), (5, (4, 1))] [] jpA_15 1 6 (fun k v hsN => k = 0 ∧ v = (0, 1) ∧ hsN = jpA_15 ++ []) := by
  refine jT_xaload (v := (4, 1)) (pcN := 2) jI_328_0 rfl rfl rfl ?_
  refine jT_xiconst (k := 0) (pcN := 3) jI_328_2 rfl ?_
  refine jT_xaload_n (v := (4, 0)) (pcN := 4) jI_328_3 rfl rfl rfl ?_
  refine jT_xiload_n (v := (0, x1)) (pcN := 5) jI_328_4 rfl rfl rfl ?_
  refine jT_xiload_n (v := (0, x2)) (pcN := 6) jI_328_5 rfl rfl rfl ?_
  refine jT_xiload_n (v := (0, x3)) (pcN := 7) jI_328_6 rfl rfl rfl ?_
  refine jT_xiload (v := (0, 1)) (pcN := 9) jI_328_7 rfl rfl rfl ?_
  exact jT_fX [0, 2, 3, 4, 5, 6, 7, 8, 9, 10, 11, 12] 13 (y := 119) (pcN := 12) (dC := 1) (bc1 := 1) (bc2 := 6) (as := [(4, 0), (0, x1), (0, x2), (0, x3), (0, 1)]) (asC := [(4, 0), (0, x1), (0, x2), (0, x3), (0, 1)]) (LN := [(0, (4, 0)), (1, (0, x1)), (2, (0, x2)), (3, (0, x3)), (4, (0, 1)), (5, (4, 1))]) (stN := [(0, 0), (4, 1)]) (hsC := jpA_6) (e := 0) (jA_119_61 (d := 0) (by omega) (by omega) (by omega)) (by rfl) (by rfl) (by decide +kernel) (by rfl) (by rfl) (by omega) (by omega) (by omega) (by omega) (show _ from ⟨rfl, rfl, rfl⟩)
theorem jA_188_63 {xs : List Int} {d : Nat} {x2 : Int} (h_x2 : 8 ≤ x2 ∧ x2 ≤ 2147483647) : jT xs (d + 1) 188 0 0 [(0, (0, x2))] [] [] 0 0 (fun k v hsN => k = 0 ∧ v = (0, 0) ∧ hsN = [] ++ []) := by
  refine jT_xiload_n (v := (0, x2)) (pcN := 1) jI_188_0 rfl rfl rfl ?_
  refine jT_xi2l (x := x2) (z := x2) (pcN := 2) jI_188_1 rfl (jw_idd (by omega) (by omega)) rfl ?_
  refine jT_xlconst (z := 0) (pcN := 3) jI_188_2 rfl rfl ?_
  refine jT_adv 1 (pcN := 6) (LN := [(0, (0, x2))]) (stN := [(1, 7), (1, 0), (1, x2)]) (hsN := []) (c1 := 0) (s1 := 0) (c2 := 0) (s2 := 0) (by exact rfl) ?_ (by omega) (by omega)
  refine jT_fR [] 0 (y := 189) (pcN := 9) (dC := 0) (bc1 := 0) (bc2 := 0) (c1 := 0) (c2 := 0) (as := [(1, x2), (1, 0), (1, 7)]) (asC := [(1, x2), (1, 0), (1, 7)]) (LN := [(0, (0, x2))]) (stN := []) (hsC := []) (v := (0, 0)) (st2 := [(0, 0)]) (jT_in_hi (d := 0) (v := x2) (lo := 0) (hi := 7) (by omega) (by omega) (by omega) (by omega) (by omega)) (by rfl) (by rfl) (by decide +kernel) (by rfl) (by rfl) (by omega) (by omega) (by omega) (by omega) rfl ?_
  exact jT_ret rfl (by decide) (by show 0 ≤ 0; decide) (by omega) (by omega) ⟨rfl, rfl, rfl⟩
theorem jA_201_64 {xs : List Int} {d : Nat} {x1 x2 x3 : Int} (h_x1 : 0 ≤ x1 ∧ x1 ≤ 7) (h_x2 : 8 ≤ x2 ∧ x2 ≤ 2147483647) (h_x3 : (-2147483648) ≤ x3 ∧ x3 ≤ 2147483647) : jT xs (d + 2) 201 16 0 [(0, (4, 0)), (1, (0, x1)), (2, (0, x2)), (3, (0, x3)), (4, (0, 1))] [] jpA_22 0 0 (fun k v hsN => k = 0 ∧ v = (0, 0) ∧ hsN = jpA_20) := by
  refine jT_xaload_n (v := (4, 0)) (pcN := 1) jI_201_0 rfl rfl rfl ?_
  refine jT_xiload_n (v := (0, x1)) (pcN := 2) jI_201_1 rfl rfl rfl ?_
  refine jT_fR [] 16 (y := 188) (pcN := 5) (dC := 1) (bc1 := 0) (bc2 := 0) (c1 := 0) (c2 := 0) (as := [(0, x1)]) (asC := [(0, x1)]) (LN := [(0, (4, 0)), (1, (0, x1)), (2, (0, x2)), (3, (0, x3)), (4, (0, 1))]) (stN := [(4, 0)]) (hsC := []) (v := (0, 1)) (st2 := [(0, 1), (4, 0)]) (jA_188_13 (d := 0) (by omega)) (by rfl) (by rfl) (by decide +kernel) (by rfl) (by rfl) (by omega) (by omega) (by omega) (by omega) rfl ?_
  refine jT_xifF (t := 26) (pcN := 8) jI_201_5 rfl (by decide +kernel) rfl rfl ?_
  refine jT_xiload_n (v := (0, x2)) (pcN := 9) jI_201_8 rfl rfl rfl ?_
  refine jT_fR [] 16 (y := 188) (pcN := 12) (dC := 1) (bc1 := 0) (bc2 := 0) (c1 := 0) (c2 := 0) (as := [(0, x2)]) (asC := [(0, x2)]) (LN := [(0, (4, 0)), (1, (0, x1)), (2, (0, x2)), (3, (0, x3)), (4, (0, 1))]) (stN := [(4, 0)]) (hsC := []) (v := (0, 0)) (st2 := [(0, 0), (4, 0)]) (jA_188_63 (d := 0) (by omega)) (by rfl) (by rfl) (by decide +kernel) (by rfl) (by rfl) (by omega) (by omega) (by omega) (by omega) rfl ?_
  refine jT_xifT (pcN := 26) jI_201_12 rfl (by decide +kernel) rfl ?_
  refine jT_xiconst (k := 0) (pcN := 27) jI_201_26 rfl ?_
  refine jT_fB [0, 1, 2, 3, 4, 5, 6, 7, 8, 9, 10, 11, 12, 13, 14, 15] 16 (y := 190) (pcN := 30) (dC := 1) (bc1 := 0) (bc2 := 0) (c1 := 0) (c2 := 0) (as := [(4, 0), (0, 0)]) (asC := [(4, 0), (0, 0)]) (LN := [(0, (4, 0)), (1, (0, x1)), (2, (0, x2)), (3, (0, x3)), (4, (0, 1))]) (stN := []) (hsC := jpA_22) (hsD := jpA_20) (v := (0, 1)) (st2 := [(0, 1)]) (hs2 := jpA_20) (jA_190_6 (d := 0)) (by rfl) (by rfl) (by decide +kernel) (by rfl) (by rfl) (by omega) (by omega) (by omega) (by omega) rfl (by decide +kernel) ?_
  refine jT_xifF (t := 35) (pcN := 33) jI_201_30 rfl (by decide +kernel) rfl rfl ?_
  refine jT_xiconst (k := 0) (pcN := 34) jI_201_33 rfl ?_
  exact jT_ret rfl (by decide) (by show 16 ≤ 16; decide) (by omega) (by omega) ⟨rfl, rfl, rfl⟩
theorem jA_115_65 {xs : List Int} {d : Nat} {x1 : Int} (h_x1 : 8 ≤ x1 ∧ x1 ≤ 2147483647) : jT xs d 115 1 0 [(0, (4, 0)), (1, (0, x1)), (2, (0, 8))] [] [jgh] 1 6 (fun k v hsN => k = 1 ∧ v = (0, 0) ∧ hsN = [jgh] ++ []) := by
  refine jT_xiload_n (v := (0, x1)) (pcN := 1) jI_115_0 rfl rfl rfl ?_
  refine jT_ifF (a := x1) (t := 9) (by rfl) (by rfl) (by rfl) (jw_idd (by omega) (by omega)) (by simp only [jcP] <;> omega) ?_
  refine jT_xiload_n (v := (0, x1)) (pcN := 5) jI_115_4 rfl rfl rfl ?_
  refine jT_xiload_n (v := (0, 8)) (pcN := 6) jI_115_5 rfl rfl rfl ?_
  refine jT_icF (a := x1) (b := 8) (t := 20) (by rfl) (by rfl) (by rfl) (jw_idd (by omega) (by omega)) (jw_idd (by omega) (by omega)) (by simp only [jcP] <;> omega) ?_
  exact jT_ret (c1 := 1) (s1 := 6) rfl (by decide) (by show 1 ≤ 1; decide) (by omega) (by omega) ⟨rfl, rfl, rfl⟩
theorem jA_119_66 {xs : List Int} {d : Nat} {x1 x2 x3 : Int} (h_x1 : 8 ≤ x1 ∧ x1 ≤ 2147483647) (h_x2 : (-2147483648) ≤ x2 ∧ x2 ≤ 2147483647) (h_x3 : (-2147483648) ≤ x3 ∧ x3 ≤ 2147483647) : jT xs (d + 1) 119 12 0 [(0, (4, 0)), (1, (0, x1)), (2, (0, x2)), (3, (0, x3)), (4, (0, 1))] [] jpA_6 1 6 (fun k v hsN => k = 1 ∧ v = (0, 0) ∧ hsN = jpA_6 ++ []) := by
  refine jT_xaload_n (v := (4, 0)) (pcN := 1) jI_119_0 rfl rfl rfl ?_
  refine jT_xiload_n (v := (0, x1)) (pcN := 2) jI_119_1 rfl rfl rfl ?_
  refine jT_xbipush (k := 8) (pcN := 4) jI_119_2 (by decide) rfl ?_
  exact jT_fX [0] 12 (y := 115) (pcN := 7) (dC := 0) (bc1 := 1) (bc2 := 6) (as := [(4, 0), (0, x1), (0, 8)]) (asC := [(4, 0), (0, x1), (0, 8)]) (LN := [(0, (4, 0)), (1, (0, x1)), (2, (0, x2)), (3, (0, x3)), (4, (0, 1))]) (stN := []) (hsC := [jgh]) (e := 0) (jA_115_65 (d := 0) (by omega)) (by rfl) (by rfl) (by decide +kernel) (by rfl) (by rfl) (by omega) (by omega) (by omega) (by omega) ⟨rfl, ⟨rfl, rfl, rfl⟩⟩
theorem jA_328_67 {xs : List Int} {d : Nat} {x1 x2 x3 : Int} (h_x1 : 8 ≤ x1 ∧ x1 ≤ 2147483647) (h_x2 : (-2147483648) ≤ x2 ∧ x2 ≤ 2147483647) (h_x3 : (-2147483648) ≤ x3 ∧ x3 ≤ 2147483647) : jT xs (d + 2) 328 13 0 [(0, (4, 0)), (1, (0, x1)), (2, (0, x2)), (3, (0, x3)), (4, (0, 1)), (5, (4, 1))] [] jpA_15 1 6 (fun k v hsN => k = 0 ∧ v = (0, 1) ∧ hsN = jpA_15 ++ []) := by
  refine jT_xaload (v := (4, 1)) (pcN := 2) jI_328_0 rfl rfl rfl ?_
  refine jT_xiconst (k := 0) (pcN := 3) jI_328_2 rfl ?_
  refine jT_xaload_n (v := (4, 0)) (pcN := 4) jI_328_3 rfl rfl rfl ?_
  refine jT_xiload_n (v := (0, x1)) (pcN := 5) jI_328_4 rfl rfl rfl ?_
  refine jT_xiload_n (v := (0, x2)) (pcN := 6) jI_328_5 rfl rfl rfl ?_
  refine jT_xiload_n (v := (0, x3)) (pcN := 7) jI_328_6 rfl rfl rfl ?_
  refine jT_xiload (v := (0, 1)) (pcN := 9) jI_328_7 rfl rfl rfl ?_
  exact jT_fX [0, 2, 3, 4, 5, 6, 7, 8, 9, 10, 11, 12] 13 (y := 119) (pcN := 12) (dC := 1) (bc1 := 1) (bc2 := 6) (as := [(4, 0), (0, x1), (0, x2), (0, x3), (0, 1)]) (asC := [(4, 0), (0, x1), (0, x2), (0, x3), (0, 1)]) (LN := [(0, (4, 0)), (1, (0, x1)), (2, (0, x2)), (3, (0, x3)), (4, (0, 1)), (5, (4, 1))]) (stN := [(0, 0), (4, 1)]) (hsC := jpA_6) (e := 0) (jA_119_66 (d := 0) (by omega) (by omega) (by omega)) (by rfl) (by rfl) (by decide +kernel) (by rfl) (by rfl) (by omega) (by omega) (by omega) (by omega) (show _ from ⟨rfl, rfl, rfl⟩)
theorem jA_188_68 {xs : List Int} {d : Nat} {x1 : Int} (h_x1 : 8 ≤ x1 ∧ x1 ≤ 2147483647) : jT xs (d + 1) 188 0 0 [(0, (0, x1))] [] [] 0 0 (fun k v hsN => k = 0 ∧ v = (0, 0) ∧ hsN = [] ++ []) := by
  refine jT_xiload_n (v := (0, x1)) (pcN := 1) jI_188_0 rfl rfl rfl ?_
  refine jT_xi2l (x := x1) (z := x1) (pcN := 2) jI_188_1 rfl (jw_idd (by omega) (by omega)) rfl ?_
  refine jT_xlconst (z := 0) (pcN := 3) jI_188_2 rfl rfl ?_
  refine jT_adv 1 (pcN := 6) (LN := [(0, (0, x1))]) (stN := [(1, 7), (1, 0), (1, x1)]) (hsN := []) (c1 := 0) (s1 := 0) (c2 := 0) (s2 := 0) (by exact rfl) ?_ (by omega) (by omega)
  refine jT_fR [] 0 (y := 189) (pcN := 9) (dC := 0) (bc1 := 0) (bc2 := 0) (c1 := 0) (c2 := 0) (as := [(1, x1), (1, 0), (1, 7)]) (asC := [(1, x1), (1, 0), (1, 7)]) (LN := [(0, (0, x1))]) (stN := []) (hsC := []) (v := (0, 0)) (st2 := [(0, 0)]) (jT_in_hi (d := 0) (v := x1) (lo := 0) (hi := 7) (by omega) (by omega) (by omega) (by omega) (by omega)) (by rfl) (by rfl) (by decide +kernel) (by rfl) (by rfl) (by omega) (by omega) (by omega) (by omega) rfl ?_
  exact jT_ret rfl (by decide) (by show 0 ≤ 0; decide) (by omega) (by omega) ⟨rfl, rfl, rfl⟩
theorem jA_201_69 {xs : List Int} {d : Nat} {x1 x2 x3 : Int} (h_x1 : 8 ≤ x1 ∧ x1 ≤ 2147483647) (h_x2 : (-2147483648) ≤ x2 ∧ x2 ≤ 2147483647) (h_x3 : (-2147483648) ≤ x3 ∧ x3 ≤ 2147483647) : jT xs (d + 2) 201 16 0 [(0, (4, 0)), (1, (0, x1)), (2, (0, x2)), (3, (0, x3)), (4, (0, 1))] [] jpA_22 0 0 (fun k v hsN => k = 0 ∧ v = (0, 0) ∧ hsN = jpA_20) := by
  refine jT_xaload_n (v := (4, 0)) (pcN := 1) jI_201_0 rfl rfl rfl ?_
  refine jT_xiload_n (v := (0, x1)) (pcN := 2) jI_201_1 rfl rfl rfl ?_
  refine jT_fR [] 16 (y := 188) (pcN := 5) (dC := 1) (bc1 := 0) (bc2 := 0) (c1 := 0) (c2 := 0) (as := [(0, x1)]) (asC := [(0, x1)]) (LN := [(0, (4, 0)), (1, (0, x1)), (2, (0, x2)), (3, (0, x3)), (4, (0, 1))]) (stN := [(4, 0)]) (hsC := []) (v := (0, 0)) (st2 := [(0, 0), (4, 0)]) (jA_188_68 (d := 0) (by omega)) (by rfl) (by rfl) (by decide +kernel) (by rfl) (by rfl) (by omega) (by omega) (by omega) (by omega) rfl ?_
  refine jT_xifT (pcN := 26) jI_201_5 rfl (by decide +kernel) rfl ?_
  refine jT_xiconst (k := 0) (pcN := 27) jI_201_26 rfl ?_
  refine jT_fB [0, 1, 2, 3, 4, 5, 6, 7, 8, 9, 10, 11, 12, 13, 14, 15] 16 (y := 190) (pcN := 30) (dC := 1) (bc1 := 0) (bc2 := 0) (c1 := 0) (c2 := 0) (as := [(4, 0), (0, 0)]) (asC := [(4, 0), (0, 0)]) (LN := [(0, (4, 0)), (1, (0, x1)), (2, (0, x2)), (3, (0, x3)), (4, (0, 1))]) (stN := []) (hsC := jpA_22) (hsD := jpA_20) (v := (0, 1)) (st2 := [(0, 1)]) (hs2 := jpA_20) (jA_190_6 (d := 0)) (by rfl) (by rfl) (by decide +kernel) (by rfl) (by rfl) (by omega) (by omega) (by omega) (by omega) rfl (by decide +kernel) ?_
  refine jT_xifF (t := 35) (pcN := 33) jI_201_30 rfl (by decide +kernel) rfl rfl ?_
  refine jT_xiconst (k := 0) (pcN := 34) jI_201_33 rfl ?_
  exact jT_ret rfl (by decide) (by show 16 ≤ 16; decide) (by omega) (by omega) ⟨rfl, rfl, rfl⟩
theorem jA_119_70 {xs : List Int} {d : Nat} {x1 x2 x3 : Int} (h_x1 : (-2147483648) ≤ x1 ∧ x1 ≤ (-1)) (h_x2 : (-2147483648) ≤ x2 ∧ x2 ≤ 2147483647) (h_x3 : (-2147483648) ≤ x3 ∧ x3 ≤ 2147483647) : jT xs (d + 1) 119 12 0 [(0, (4, 0)), (1, (0, x1)), (2, (0, x2)), (3, (0, x3)), (4, (0, 0))] [] jpA_6 1 6 (fun k v hsN => k = 1 ∧ v = (0, 0) ∧ hsN = jpA_6 ++ []) := by
  refine jT_xaload_n (v := (4, 0)) (pcN := 1) jI_119_0 rfl rfl rfl ?_
  refine jT_xiload_n (v := (0, x1)) (pcN := 2) jI_119_1 rfl rfl rfl ?_
  refine jT_xbipush (k := 8) (pcN := 4) jI_119_2 (by decide) rfl ?_
  exact jT_fX [0] 12 (y := 115) (pcN := 7) (dC := 0) (bc1 := 1) (bc2 := 6) (as := [(4, 0), (0, x1), (0, 8)]) (asC := [(4, 0), (0, x1), (0, 8)]) (LN := [(0, (4, 0)), (1, (0, x1)), (2, (0, x2)), (3, (0, x3)), (4, (0, 0))]) (stN := []) (hsC := [jgh]) (e := 0) (jA_115_1 (d := 0) (by omega)) (by rfl) (by rfl) (by decide +kernel) (by rfl) (by rfl) (by omega) (by omega) (by omega) (by omega) ⟨rfl, ⟨rfl, rfl, rfl⟩⟩
theorem jA_328_71 {xs : List Int} {d : Nat} {x1 x2 x3 : Int} (h_x1 : (-2147483648) ≤ x1 ∧ x1 ≤ (-1)) (h_x2 : (-2147483648) ≤ x2 ∧ x2 ≤ 2147483647) (h_x3 : (-2147483648) ≤ x3 ∧ x3 ≤ 2147483647) : jT xs (d + 2) 328 13 0 [(0, (4, 0)), (1, (0, x1)), (2, (0, x2)), (3, (0, x3)), (4, (0, 0)), (5, (4, 1))] [] jpA_15 1 6 (fun k v hsN => k = 0 ∧ v = (0, 1) ∧ hsN = jpA_15 ++ []) := by
  refine jT_xaload (v := (4, 1)) (pcN := 2) jI_328_0 rfl rfl rfl ?_
  refine jT_xiconst (k := 0) (pcN := 3) jI_328_2 rfl ?_
  refine jT_xaload_n (v := (4, 0)) (pcN := 4) jI_328_3 rfl rfl rfl ?_
  refine jT_xiload_n (v := (0, x1)) (pcN := 5) jI_328_4 rfl rfl rfl ?_
  refine jT_xiload_n (v := (0, x2)) (pcN := 6) jI_328_5 rfl rfl rfl ?_
  refine jT_xiload_n (v := (0, x3)) (pcN := 7) jI_328_6 rfl rfl rfl ?_
  refine jT_xiload (v := (0, 0)) (pcN := 9) jI_328_7 rfl rfl rfl ?_
  exact jT_fX [0, 2, 3, 4, 5, 6, 7, 8, 9, 10, 11, 12] 13 (y := 119) (pcN := 12) (dC := 1) (bc1 := 1) (bc2 := 6) (as := [(4, 0), (0, x1), (0, x2), (0, x3), (0, 0)]) (asC := [(4, 0), (0, x1), (0, x2), (0, x3), (0, 0)]) (LN := [(0, (4, 0)), (1, (0, x1)), (2, (0, x2)), (3, (0, x3)), (4, (0, 0)), (5, (4, 1))]) (stN := [(0, 0), (4, 1)]) (hsC := jpA_6) (e := 0) (jA_119_70 (d := 0) (by omega) (by omega) (by omega)) (by rfl) (by rfl) (by decide +kernel) (by rfl) (by rfl) (by omega) (by omega) (by omega) (by omega) (show _ from ⟨rfl, rfl, rfl⟩)
theorem jA_201_72 {xs : List Int} {d : Nat} {x1 x2 x3 : Int} (h_x1 : (-2147483648) ≤ x1 ∧ x1 ≤ (-1)) (h_x2 : (-2147483648) ≤ x2 ∧ x2 ≤ 2147483647) (h_x3 : (-2147483648) ≤ x3 ∧ x3 ≤ 2147483647) : jT xs (d + 2) 201 16 0 [(0, (4, 0)), (1, (0, x1)), (2, (0, x2)), (3, (0, x3)), (4, (0, 0))] [] jpA_22 0 0 (fun k v hsN => k = 0 ∧ v = (0, 0) ∧ hsN = jpA_20) := by
  refine jT_xaload_n (v := (4, 0)) (pcN := 1) jI_201_0 rfl rfl rfl ?_
  refine jT_xiload_n (v := (0, x1)) (pcN := 2) jI_201_1 rfl rfl rfl ?_
  refine jT_fR [] 16 (y := 188) (pcN := 5) (dC := 1) (bc1 := 0) (bc2 := 0) (c1 := 0) (c2 := 0) (as := [(0, x1)]) (asC := [(0, x1)]) (LN := [(0, (4, 0)), (1, (0, x1)), (2, (0, x2)), (3, (0, x3)), (4, (0, 0))]) (stN := [(4, 0)]) (hsC := []) (v := (0, 0)) (st2 := [(0, 0), (4, 0)]) (jA_188_4 (d := 0) (by omega)) (by rfl) (by rfl) (by decide +kernel) (by rfl) (by rfl) (by omega) (by omega) (by omega) (by omega) rfl ?_
  refine jT_xifT (pcN := 26) jI_201_5 rfl (by decide +kernel) rfl ?_
  refine jT_xiconst (k := 0) (pcN := 27) jI_201_26 rfl ?_
  refine jT_fB [0, 1, 2, 3, 4, 5, 6, 7, 8, 9, 10, 11, 12, 13, 14, 15] 16 (y := 190) (pcN := 30) (dC := 1) (bc1 := 0) (bc2 := 0) (c1 := 0) (c2 := 0) (as := [(4, 0), (0, 0)]) (asC := [(4, 0), (0, 0)]) (LN := [(0, (4, 0)), (1, (0, x1)), (2, (0, x2)), (3, (0, x3)), (4, (0, 0))]) (stN := []) (hsC := jpA_22) (hsD := jpA_20) (v := (0, 1)) (st2 := [(0, 1)]) (hs2 := jpA_20) (jA_190_6 (d := 0)) (by rfl) (by rfl) (by decide +kernel) (by rfl) (by rfl) (by omega) (by omega) (by omega) (by omega) rfl (by decide +kernel) ?_
  refine jT_xifF (t := 35) (pcN := 33) jI_201_30 rfl (by decide +kernel) rfl rfl ?_
  refine jT_xiconst (k := 0) (pcN := 34) jI_201_33 rfl ?_
  exact jT_ret rfl (by decide) (by show 16 ≤ 16; decide) (by omega) (by omega) ⟨rfl, rfl, rfl⟩
theorem jA_119_73 {xs : List Int} {d : Nat} {x1 x2 x3 : Int} (h_x1 : 0 ≤ x1 ∧ x1 ≤ 7) (h_x2 : (-2147483648) ≤ x2 ∧ x2 ≤ (-1)) (h_x3 : (-2147483648) ≤ x3 ∧ x3 ≤ 2147483647) : jT xs (d + 1) 119 12 0 [(0, (4, 0)), (1, (0, x1)), (2, (0, x2)), (3, (0, x3)), (4, (0, 0))] [] jpA_6 1 6 (fun k v hsN => k = 1 ∧ v = (0, 0) ∧ hsN = jpA_6 ++ []) := by
  refine jT_xaload_n (v := (4, 0)) (pcN := 1) jI_119_0 rfl rfl rfl ?_
  refine jT_xiload_n (v := (0, x1)) (pcN := 2) jI_119_1 rfl rfl rfl ?_
  refine jT_xbipush (k := 8) (pcN := 4) jI_119_2 (by decide) rfl ?_
  refine jT_fR [0] 12 (y := 115) (pcN := 7) (dC := 0) (bc1 := 0) (bc2 := 0) (c1 := 1) (c2 := 6) (as := [(4, 0), (0, x1), (0, 8)]) (asC := [(4, 0), (0, x1), (0, 8)]) (LN := [(0, (4, 0)), (1, (0, x1)), (2, (0, x2)), (3, (0, x3)), (4, (0, 0))]) (stN := []) (hsC := [jgh]) (v := (9, 0)) (st2 := []) (jA_115_9 (d := 0) (by omega)) (by rfl) (by rfl) (by decide +kernel) (by rfl) (by rfl) (by omega) (by omega) (by omega) (by omega) rfl ?_
  refine jT_xaload_n (v := (4, 0)) (pcN := 8) jI_119_7 rfl rfl rfl ?_
  refine jT_xiload_n (v := (0, x2)) (pcN := 9) jI_119_8 rfl rfl rfl ?_
  refine jT_xbipush (k := 8) (pcN := 11) jI_119_9 (by decide) rfl ?_
  exact jT_fX [0] 12 (y := 115) (pcN := 14) (dC := 0) (bc1 := 1) (bc2 := 6) (as := [(4, 0), (0, x2), (0, 8)]) (asC := [(4, 0), (0, x2), (0, 8)]) (LN := [(0, (4, 0)), (1, (0, x1)), (2, (0, x2)), (3, (0, x3)), (4, (0, 0))]) (stN := []) (hsC := [jgh]) (e := 0) (jA_115_10 (d := 0) (by omega)) (by rfl) (by rfl) (by decide +kernel) (by rfl) (by rfl) (by omega) (by omega) (by omega) (by omega) ⟨rfl, ⟨rfl, rfl, rfl⟩⟩
theorem jA_328_74 {xs : List Int} {d : Nat} {x1 x2 x3 : Int} (h_x1 : 0 ≤ x1 ∧ x1 ≤ 7) (h_x2 : (-2147483648) ≤ x2 ∧ x2 ≤ (-1)) (h_x3 : (-2147483648) ≤ x3 ∧ x3 ≤ 2147483647) : jT xs (d + 2) 328 13 0 [(0, (4, 0)), (1, (0, x1)), (2, (0, x2)), (3, (0, x3)), (4, (0, 0)), (5, (4, 1))] [] jpA_15 1 6 (fun k v hsN => k = 0 ∧ v = (0, 1) ∧ hsN = jpA_15 ++ []) := by
  refine jT_xaload (v := (4, 1)) (pcN := 2) jI_328_0 rfl rfl rfl ?_
  refine jT_xiconst (k := 0) (pcN := 3) jI_328_2 rfl ?_
  refine jT_xaload_n (v := (4, 0)) (pcN := 4) jI_328_3 rfl rfl rfl ?_
  refine jT_xiload_n (v := (0, x1)) (pcN := 5) jI_328_4 rfl rfl rfl ?_
  refine jT_xiload_n (v := (0, x2)) (pcN := 6) jI_328_5 rfl rfl rfl ?_
  refine jT_xiload_n (v := (0, x3)) (pcN := 7) jI_328_6 rfl rfl rfl ?_
  refine jT_xiload (v := (0, 0)) (pcN := 9) jI_328_7 rfl rfl rfl ?_
  exact jT_fX [0, 2, 3, 4, 5, 6, 7, 8, 9, 10, 11, 12] 13 (y := 119) (pcN := 12) (dC := 1) (bc1 := 1) (bc2 := 6) (as := [(4, 0), (0, x1), (0, x2), (0, x3), (0, 0)]) (asC := [(4, 0), (0, x1), (0, x2), (0, x3), (0, 0)]) (LN := [(0, (4, 0)), (1, (0, x1)), (2, (0, x2)), (3, (0, x3)), (4, (0, 0)), (5, (4, 1))]) (stN := [(0, 0), (4, 1)]) (hsC := jpA_6) (e := 0) (jA_119_73 (d := 0) (by omega) (by omega) (by omega)) (by rfl) (by rfl) (by decide +kernel) (by rfl) (by rfl) (by omega) (by omega) (by omega) (by omega) (show _ from ⟨rfl, rfl, rfl⟩)
theorem jA_201_75 {xs : List Int} {d : Nat} {x1 x2 x3 : Int} (h_x1 : 0 ≤ x1 ∧ x1 ≤ 7) (h_x2 : (-2147483648) ≤ x2 ∧ x2 ≤ (-1)) (h_x3 : (-2147483648) ≤ x3 ∧ x3 ≤ 2147483647) : jT xs (d + 2) 201 16 0 [(0, (4, 0)), (1, (0, x1)), (2, (0, x2)), (3, (0, x3)), (4, (0, 0))] [] jpA_22 0 0 (fun k v hsN => k = 0 ∧ v = (0, 0) ∧ hsN = jpA_20) := by
  refine jT_xaload_n (v := (4, 0)) (pcN := 1) jI_201_0 rfl rfl rfl ?_
  refine jT_xiload_n (v := (0, x1)) (pcN := 2) jI_201_1 rfl rfl rfl ?_
  refine jT_fR [] 16 (y := 188) (pcN := 5) (dC := 1) (bc1 := 0) (bc2 := 0) (c1 := 0) (c2 := 0) (as := [(0, x1)]) (asC := [(0, x1)]) (LN := [(0, (4, 0)), (1, (0, x1)), (2, (0, x2)), (3, (0, x3)), (4, (0, 0))]) (stN := [(4, 0)]) (hsC := []) (v := (0, 1)) (st2 := [(0, 1), (4, 0)]) (jA_188_13 (d := 0) (by omega)) (by rfl) (by rfl) (by decide +kernel) (by rfl) (by rfl) (by omega) (by omega) (by omega) (by omega) rfl ?_
  refine jT_xifF (t := 26) (pcN := 8) jI_201_5 rfl (by decide +kernel) rfl rfl ?_
  refine jT_xiload_n (v := (0, x2)) (pcN := 9) jI_201_8 rfl rfl rfl ?_
  refine jT_fR [] 16 (y := 188) (pcN := 12) (dC := 1) (bc1 := 0) (bc2 := 0) (c1 := 0) (c2 := 0) (as := [(0, x2)]) (asC := [(0, x2)]) (LN := [(0, (4, 0)), (1, (0, x1)), (2, (0, x2)), (3, (0, x3)), (4, (0, 0))]) (stN := [(4, 0)]) (hsC := []) (v := (0, 0)) (st2 := [(0, 0), (4, 0)]) (jA_188_14 (d := 0) (by omega)) (by rfl) (by rfl) (by decide +kernel) (by rfl) (by rfl) (by omega) (by omega) (by omega) (by omega) rfl ?_
  refine jT_xifT (pcN := 26) jI_201_12 rfl (by decide +kernel) rfl ?_
  refine jT_xiconst (k := 0) (pcN := 27) jI_201_26 rfl ?_
  refine jT_fB [0, 1, 2, 3, 4, 5, 6, 7, 8, 9, 10, 11, 12, 13, 14, 15] 16 (y := 190) (pcN := 30) (dC := 1) (bc1 := 0) (bc2 := 0) (c1 := 0) (c2 := 0) (as := [(4, 0), (0, 0)]) (asC := [(4, 0), (0, 0)]) (LN := [(0, (4, 0)), (1, (0, x1)), (2, (0, x2)), (3, (0, x3)), (4, (0, 0))]) (stN := []) (hsC := jpA_22) (hsD := jpA_20) (v := (0, 1)) (st2 := [(0, 1)]) (hs2 := jpA_20) (jA_190_6 (d := 0)) (by rfl) (by rfl) (by decide +kernel) (by rfl) (by rfl) (by omega) (by omega) (by omega) (by omega) rfl (by decide +kernel) ?_
  refine jT_xifF (t := 35) (pcN := 33) jI_201_30 rfl (by decide +kernel) rfl rfl ?_
  refine jT_xiconst (k := 0) (pcN := 34) jI_201_33 rfl ?_
  exact jT_ret rfl (by decide) (by show 16 ≤ 16; decide) (by omega) (by omega) ⟨rfl, rfl, rfl⟩
theorem jA_119_76 {xs : List Int} {d : Nat} {x1 x2 x3 : Int} (h_x1 : 0 ≤ x1 ∧ x1 ≤ 7) (h_x2 : 0 ≤ x2 ∧ x2 ≤ 7) (h_x3 : (-2147483648) ≤ x3 ∧ x3 ≤ (-1)) : jT xs (d + 1) 119 12 0 [(0, (4, 0)), (1, (0, x1)), (2, (0, x2)), (3, (0, x3)), (4, (0, 0))] [] jpA_6 1 6 (fun k v hsN => k = 1 ∧ v = (0, 0) ∧ hsN = jpA_6 ++ []) := by
  refine jT_xaload_n (v := (4, 0)) (pcN := 1) jI_119_0 rfl rfl rfl ?_
  refine jT_xiload_n (v := (0, x1)) (pcN := 2) jI_119_1 rfl rfl rfl ?_
  refine jT_xbipush (k := 8) (pcN := 4) jI_119_2 (by decide) rfl ?_
  refine jT_fR [0] 12 (y := 115) (pcN := 7) (dC := 0) (bc1 := 0) (bc2 := 0) (c1 := 1) (c2 := 6) (as := [(4, 0), (0, x1), (0, 8)]) (asC := [(4, 0), (0, x1), (0, 8)]) (LN := [(0, (4, 0)), (1, (0, x1)), (2, (0, x2)), (3, (0, x3)), (4, (0, 0))]) (stN := []) (hsC := [jgh]) (v := (9, 0)) (st2 := []) (jA_115_9 (d := 0) (by omega)) (by rfl) (by rfl) (by decide +kernel) (by rfl) (by rfl) (by omega) (by omega) (by omega) (by omega) rfl ?_
  refine jT_xaload_n (v := (4, 0)) (pcN := 8) jI_119_7 rfl rfl rfl ?_
  refine jT_xiload_n (v := (0, x2)) (pcN := 9) jI_119_8 rfl rfl rfl ?_
  refine jT_xbipush (k := 8) (pcN := 11) jI_119_9 (by decide) rfl ?_
  refine jT_fR [0] 12 (y := 115) (pcN := 14) (dC := 0) (bc1 := 0) (bc2 := 0) (c1 := 1) (c2 := 6) (as := [(4, 0), (0, x2), (0, 8)]) (asC := [(4, 0), (0, x2), (0, 8)]) (LN := [(0, (4, 0)), (1, (0, x1)), (2, (0, x2)), (3, (0, x3)), (4, (0, 0))]) (stN := []) (hsC := [jgh]) (v := (9, 0)) (st2 := []) (jA_115_16 (d := 0) (by omega)) (by rfl) (by rfl) (by decide +kernel) (by rfl) (by rfl) (by omega) (by omega) (by omega) (by omega) rfl ?_
  refine jT_xaload_n (v := (4, 0)) (pcN := 15) jI_119_14 rfl rfl rfl ?_
  refine jT_xiload_n (v := (0, x3)) (pcN := 16) jI_119_15 rfl rfl rfl ?_
  refine jT_xbipush (k := 8) (pcN := 18) jI_119_16 (by decide) rfl ?_
  exact jT_fX [0] 12 (y := 115) (pcN := 21) (dC := 0) (bc1 := 1) (bc2 := 6) (as := [(4, 0), (0, x3), (0, 8)]) (asC := [(4, 0), (0, x3), (0, 8)]) (LN := [(0, (4, 0)), (1, (0, x1)), (2, (0, x2)), (3, (0, x3)), (4, (0, 0))]) (stN := []) (hsC := [jgh]) (e := 0) (jA_115_17 (d := 0) (by omega)) (by rfl) (by rfl) (by decide +kernel) (by rfl) (by rfl) (by omega) (by omega) (by omega) (by omega) ⟨rfl, ⟨rfl, rfl, rfl⟩⟩
theorem jA_328_77 {xs : List Int} {d : Nat} {x1 x2 x3 : Int} (h_x1 : 0 ≤ x1 ∧ x1 ≤ 7) (h_x2 : 0 ≤ x2 ∧ x2 ≤ 7) (h_x3 : (-2147483648) ≤ x3 ∧ x3 ≤ (-1)) : jT xs (d + 2) 328 13 0 [(0, (4, 0)), (1, (0, x1)), (2, (0, x2)), (3, (0, x3)), (4, (0, 0)), (5, (4, 1))] [] jpA_15 1 6 (fun k v hsN => k = 0 ∧ v = (0, 1) ∧ hsN = jpA_15 ++ []) := by
  refine jT_xaload (v := (4, 1)) (pcN := 2) jI_328_0 rfl rfl rfl ?_
  refine jT_xiconst (k := 0) (pcN := 3) jI_328_2 rfl ?_
  refine jT_xaload_n (v := (4, 0)) (pcN := 4) jI_328_3 rfl rfl rfl ?_
  refine jT_xiload_n (v := (0, x1)) (pcN := 5) jI_328_4 rfl rfl rfl ?_
  refine jT_xiload_n (v := (0, x2)) (pcN := 6) jI_328_5 rfl rfl rfl ?_
  refine jT_xiload_n (v := (0, x3)) (pcN := 7) jI_328_6 rfl rfl rfl ?_
  refine jT_xiload (v := (0, 0)) (pcN := 9) jI_328_7 rfl rfl rfl ?_
  exact jT_fX [0, 2, 3, 4, 5, 6, 7, 8, 9, 10, 11, 12] 13 (y := 119) (pcN := 12) (dC := 1) (bc1 := 1) (bc2 := 6) (as := [(4, 0), (0, x1), (0, x2), (0, x3), (0, 0)]) (asC := [(4, 0), (0, x1), (0, x2), (0, x3), (0, 0)]) (LN := [(0, (4, 0)), (1, (0, x1)), (2, (0, x2)), (3, (0, x3)), (4, (0, 0)), (5, (4, 1))]) (stN := [(0, 0), (4, 1)]) (hsC := jpA_6) (e := 0) (jA_119_76 (d := 0) (by omega) (by omega) (by omega)) (by rfl) (by rfl) (by decide +kernel) (by rfl) (by rfl) (by omega) (by omega) (by omega) (by omega) (show _ from ⟨rfl, rfl, rfl⟩)
theorem jA_201_78 {xs : List Int} {d : Nat} {x1 x2 x3 : Int} (h_x1 : 0 ≤ x1 ∧ x1 ≤ 7) (h_x2 : 0 ≤ x2 ∧ x2 ≤ 7) (h_x3 : (-2147483648) ≤ x3 ∧ x3 ≤ (-1)) : jT xs (d + 2) 201 16 0 [(0, (4, 0)), (1, (0, x1)), (2, (0, x2)), (3, (0, x3)), (4, (0, 0))] [] jpA_22 0 0 (fun k v hsN => k = 0 ∧ v = (0, 0) ∧ hsN = jpA_20) := by
  refine jT_xaload_n (v := (4, 0)) (pcN := 1) jI_201_0 rfl rfl rfl ?_
  refine jT_xiload_n (v := (0, x1)) (pcN := 2) jI_201_1 rfl rfl rfl ?_
  refine jT_fR [] 16 (y := 188) (pcN := 5) (dC := 1) (bc1 := 0) (bc2 := 0) (c1 := 0) (c2 := 0) (as := [(0, x1)]) (asC := [(0, x1)]) (LN := [(0, (4, 0)), (1, (0, x1)), (2, (0, x2)), (3, (0, x3)), (4, (0, 0))]) (stN := [(4, 0)]) (hsC := []) (v := (0, 1)) (st2 := [(0, 1), (4, 0)]) (jA_188_13 (d := 0) (by omega)) (by rfl) (by rfl) (by decide +kernel) (by rfl) (by rfl) (by omega) (by omega) (by omega) (by omega) rfl ?_
  refine jT_xifF (t := 26) (pcN := 8) jI_201_5 rfl (by decide +kernel) rfl rfl ?_
  refine jT_xiload_n (v := (0, x2)) (pcN := 9) jI_201_8 rfl rfl rfl ?_
  refine jT_fR [] 16 (y := 188) (pcN := 12) (dC := 1) (bc1 := 0) (bc2 := 0) (c1 := 0) (c2 := 0) (as := [(0, x2)]) (asC := [(0, x2)]) (LN := [(0, (4, 0)), (1, (0, x1)), (2, (0, x2)), (3, (0, x3)), (4, (0, 0))]) (stN := [(4, 0)]) (hsC := []) (v := (0, 1)) (st2 := [(0, 1), (4, 0)]) (jA_188_20 (d := 0) (by omega)) (by rfl) (by rfl) (by decide +kernel) (by rfl) (by rfl) (by omega) (by omega) (by omega) (by omega) rfl ?_
  refine jT_xifF (t := 26) (pcN := 15) jI_201_12 rfl (by decide +kernel) rfl rfl ?_
  refine jT_xiload_n (v := (0, x3)) (pcN := 16) jI_201_15 rfl rfl rfl ?_
  refine jT_fR [] 16 (y := 188) (pcN := 19) (dC := 1) (bc1 := 0) (bc2 := 0) (c1 := 0) (c2 := 0) (as := [(0, x3)]) (asC := [(0, x3)]) (LN := [(0, (4, 0)), (1, (0, x1)), (2, (0, x2)), (3, (0, x3)), (4, (0, 0))]) (stN := [(4, 0)]) (hsC := []) (v := (0, 0)) (st2 := [(0, 0), (4, 0)]) (jA_188_21 (d := 0) (by omega)) (by rfl) (by rfl) (by decide +kernel) (by rfl) (by rfl) (by omega) (by omega) (by omega) (by omega) rfl ?_
  refine jT_xifT (pcN := 26) jI_201_19 rfl (by decide +kernel) rfl ?_
  refine jT_xiconst (k := 0) (pcN := 27) jI_201_26 rfl ?_
  refine jT_fB [0, 1, 2, 3, 4, 5, 6, 7, 8, 9, 10, 11, 12, 13, 14, 15] 16 (y := 190) (pcN := 30) (dC := 1) (bc1 := 0) (bc2 := 0) (c1 := 0) (c2 := 0) (as := [(4, 0), (0, 0)]) (asC := [(4, 0), (0, 0)]) (LN := [(0, (4, 0)), (1, (0, x1)), (2, (0, x2)), (3, (0, x3)), (4, (0, 0))]) (stN := []) (hsC := jpA_22) (hsD := jpA_20) (v := (0, 1)) (st2 := [(0, 1)]) (hs2 := jpA_20) (jA_190_6 (d := 0)) (by rfl) (by rfl) (by decide +kernel) (by rfl) (by rfl) (by omega) (by omega) (by omega) (by omega) rfl (by decide +kernel) ?_
  refine jT_xifF (t := 35) (pcN := 33) jI_201_30 rfl (by decide +kernel) rfl rfl ?_
  refine jT_xiconst (k := 0) (pcN := 34) jI_201_33 rfl ?_
  exact jT_ret rfl (by decide) (by show 16 ≤ 16; decide) (by omega) (by omega) ⟨rfl, rfl, rfl⟩
theorem jA_11_79 {xs : List Int} {d : Nat} : jT xs (d + 2) 11 2 0 [(0, (4, 0)), (1, (4, 0)), (2, (0, 0))] [] [(4, [(4, 1), (1, 1)], []), (101, [], [0, 0, 0, 0, 0, 0])] 2 8 (fun k v hsN => k = 0 ∧ v = (4, 3) ∧ hsN = [(4, [(4, 1), (1, 1)], []), (101, [], [0, 0, 0, 0, 0, 0])] ++ [(101, [], [0, 0, 0, 0, 0, 0]), (4, [(4, 2), (1, 1)], [])]) := by
  refine jT_advK 178 (pcN := 78) (LN := [(4, (0, 6)), (5, (1, 0)), (3, (4, 2)), (0, (4, 0)), (1, (4, 0)), (2, (0, 0))]) (stN := [(1, 1), (4, 2), (4, 3), (4, 3)]) (hsN := jpA_48) (c1 := 2) (s1 := 8) (c2 := 0) (s2 := 0) (by decide +kernel) ?_ (by omega) (by omega)
  refine jT_fB [3, 2] 4 (y := 9) (pcN := 81) (dC := 1) (bc1 := 0) (bc2 := 0) (c1 := 0) (c2 := 0) (as := [(4, 3), (4, 2), (1, 1)]) (asC := [(4, 0), (4, 1), (1, 1)]) (LN := [(4, (0, 6)), (5, (1, 0)), (3, (4, 2)), (0, (4, 0)), (1, (4, 0)), (2, (0, 0))]) (stN := [(4, 3)]) (hsC := [(4, [(4, (-1)), (1, 0)], []), (101, [], [0, 0, 0, 0, 0, 0])]) (hsD := [(4, [(4, 1), (1, 1)], []), (101, [], [0, 0, 0, 0, 0, 0])]) (v := (9, 0)) (st2 := [(4, 3)]) (hs2 := jpA_49) (jA_9_27 (d := 0)) (by rfl) (by rfl) (by decide +kernel) (by rfl) (by rfl) (by omega) (by omega) (by omega) (by omega) rfl (by decide +kernel) ?_
  exact jT_ret rfl (by decide) (by show 2 ≤ 4; decide) (by omega) (by omega) ⟨rfl, rfl, rfl⟩
theorem jA_119_80 {xs : List Int} {d : Nat} {x1 x2 x3 : Int} (h_x1 : 0 ≤ x1 ∧ x1 ≤ 7) (h_x2 : 0 ≤ x2 ∧ x2 ≤ 7) (h_x3 : 0 ≤ x3 ∧ x3 ≤ 7) : jT xs (d + 3) 119 19 0 [(0, (4, 0)), (1, (0, x1)), (2, (0, x2)), (3, (0, x3)), (4, (0, 0))] [] jpA_107 4 21 (fun k v hsN => k = 0 ∧ v = (0, 1) ∧ hsN = jpA_103) := by
  refine jT_xaload_n (v := (4, 0)) (pcN := 1) jI_119_0 rfl rfl rfl ?_
  refine jT_xiload_n (v := (0, x1)) (pcN := 2) jI_119_1 rfl rfl rfl ?_
  refine jT_xbipush (k := 8) (pcN := 4) jI_119_2 (by decide) rfl ?_
  refine jT_fR [0] 19 (y := 115) (pcN := 7) (dC := 0) (bc1 := 0) (bc2 := 0) (c1 := 4) (c2 := 21) (as := [(4, 0), (0, x1), (0, 8)]) (asC := [(4, 0), (0, x1), (0, 8)]) (LN := [(0, (4, 0)), (1, (0, x1)), (2, (0, x2)), (3, (0, x3)), (4, (0, 0))]) (stN := []) (hsC := [jgh]) (v := (9, 0)) (st2 := []) (jA_115_9 (d := 0) (by omega)) (by rfl) (by rfl) (by decide +kernel) (by rfl) (by rfl) (by omega) (by omega) (by omega) (by omega) rfl ?_
  refine jT_xaload_n (v := (4, 0)) (pcN := 8) jI_119_7 rfl rfl rfl ?_
  refine jT_xiload_n (v := (0, x2)) (pcN := 9) jI_119_8 rfl rfl rfl ?_
  refine jT_xbipush (k := 8) (pcN := 11) jI_119_9 (by decide) rfl ?_
  refine jT_fR [0] 19 (y := 115) (pcN := 14) (dC := 0) (bc1 := 0) (bc2 := 0) (c1 := 4) (c2 := 21) (as := [(4, 0), (0, x2), (0, 8)]) (asC := [(4, 0), (0, x2), (0, 8)]) (LN := [(0, (4, 0)), (1, (0, x1)), (2, (0, x2)), (3, (0, x3)), (4, (0, 0))]) (stN := []) (hsC := [jgh]) (v := (9, 0)) (st2 := []) (jA_115_16 (d := 0) (by omega)) (by rfl) (by rfl) (by decide +kernel) (by rfl) (by rfl) (by omega) (by omega) (by omega) (by omega) rfl ?_
  refine jT_xaload_n (v := (4, 0)) (pcN := 15) jI_119_14 rfl rfl rfl ?_
  refine jT_xiload_n (v := (0, x3)) (pcN := 16) jI_119_15 rfl rfl rfl ?_
  refine jT_xbipush (k := 8) (pcN := 18) jI_119_16 (by decide) rfl ?_
  refine jT_fR [0] 19 (y := 115) (pcN := 21) (dC := 0) (bc1 := 0) (bc2 := 0) (c1 := 4) (c2 := 21) (as := [(4, 0), (0, x3), (0, 8)]) (asC := [(4, 0), (0, x3), (0, 8)]) (LN := [(0, (4, 0)), (1, (0, x1)), (2, (0, x2)), (3, (0, x3)), (4, (0, 0))]) (stN := []) (hsC := [jgh]) (v := (9, 0)) (st2 := []) (jA_115_23 (d := 0) (by omega)) (by rfl) (by rfl) (by decide +kernel) (by rfl) (by rfl) (by omega) (by omega) (by omega) (by omega) rfl ?_
  refine jT_xaload_n (v := (4, 0)) (pcN := 22) jI_119_21 rfl rfl rfl ?_
  refine jT_xgetf (a := 0) (t := 1) (ci := 13) (fi := 11) (c := jzA_5) (v := (4, 11)) (pcN := 25) jI_119_22 rfl rfl rfl rfl rfl rfl rfl ?_
  refine jT_xiload_n (v := (0, x2)) (pcN := 26) jI_119_25 rfl rfl rfl ?_
  refine jT_fR [11, 12, 13, 14, 15, 16, 17] 19 (y := 57) (pcN := 29) (dC := 0) (bc1 := 0) (bc2 := 0) (c1 := 4) (c2 := 21) (as := [(4, 11), (0, x2)]) (asC := [(4, 0), (0, x2)]) (LN := [(0, (4, 0)), (1, (0, x1)), (2, (0, x2)), (3, (0, x3)), (4, (0, 0))]) (stN := []) (hsC := jpA_47) (v := (4, 6)) (st2 := [(4, 17)]) (jA_57_24 (d := 0) (by omega)) (by rfl) (by rfl) (by decide +kernel) (by rfl) (by rfl) (by omega) (by omega) (by omega) (by omega) rfl ?_
  refine jT_xaload_n (v := (4, 0)) (pcN := 30) jI_119_29 rfl rfl rfl ?_
  refine jT_xgetf (a := 0) (t := 1) (ci := 13) (fi := 11) (c := jzA_5) (v := (4, 11)) (pcN := 33) jI_119_30 rfl rfl rfl rfl rfl rfl rfl ?_
  refine jT_xiload_n (v := (0, x3)) (pcN := 34) jI_119_33 rfl rfl rfl ?_
  refine jT_fR [11, 12, 13, 14, 15, 16, 17] 19 (y := 57) (pcN := 37) (dC := 0) (bc1 := 0) (bc2 := 0) (c1 := 4) (c2 := 21) (as := [(4, 11), (0, x3)]) (asC := [(4, 0), (0, x3)]) (LN := [(0, (4, 0)), (1, (0, x1)), (2, (0, x2)), (3, (0, x3)), (4, (0, 0))]) (stN := [(4, 17)]) (hsC := jpA_47) (v := (4, 6)) (st2 := [(4, 17), (4, 17)]) (jA_57_25 (d := 0) (by omega)) (by rfl) (by rfl) (by decide +kernel) (by rfl) (by rfl) (by omega) (by omega) (by omega) (by omega) rfl ?_
  refine jT_xiload (v := (0, 0)) (pcN := 39) jI_119_37 rfl rfl rfl ?_
  refine jT_fA [17, 18] 19 (y := 11) (pcN := 42) (dC := 2) (bc1 := 2) (bc2 := 8) (c1 := 2) (c2 := 13) (as := [(4, 17), (4, 17), (0, 0)]) (asC := [(4, 0), (4, 0), (0, 0)]) (LN := [(0, (4, 0)), (1, (0, x1)), (2, (0, x2)), (3, (0, x3)), (4, (0, 0))]) (stN := []) (hsC := [(4, [(4, 1), (1, 1)], []), (101, [], [0, 0, 0, 0, 0, 0])]) (ex := [(101, [], [0, 0, 0, 0, 0, 0]), (4, [(4, 2), (1, 1)], [])]) (v := (4, 3)) (st2 := [(4, 20)]) (hs2 := jpA_90) (jA_11_79 (d := 0)) (by rfl) (by rfl) (by decide +kernel) (by rfl) (by rfl) (by omega) (by omega) (by omega) (by omega) rfl (by decide +kernel) ?_
  refine jT_xastore (v := (4, 20)) (LN := [(5, (4, 20)), (0, (4, 0)), (1, (0, x1)), (2, (0, x2)), (3, (0, x3)), (4, (0, 0))]) (pcN := 44) jI_119_42 rfl rfl rfl rfl ?_
  refine jT_xaload_n (v := (4, 0)) (pcN := 45) jI_119_44 rfl rfl rfl ?_
  refine jT_xaload (v := (4, 20)) (pcN := 47) jI_119_45 rfl rfl rfl ?_
  refine jT_fR [0, 20, 19] 21 (y := 117) (pcN := 50) (dC := 2) (bc1 := 0) (bc2 := 0) (c1 := 2) (c2 := 13) (as := [(4, 0), (4, 20)]) (asC := [(4, 0), (4, 1)]) (LN := [(5, (4, 20)), (0, (4, 0)), (1, (0, x1)), (2, (0, x2)), (3, (0, x3)), (4, (0, 0))]) (stN := []) (hsC := [jgh, (4, [(4, 2), (1, 1)], []), (101, [], [0, 0, 0, 0, 0, 0])]) (v := (9, 0)) (st2 := []) (jA_117_31 (d := 0)) (by rfl) (by rfl) (by decide +kernel) (by rfl) (by rfl) (by omega) (by omega) (by omega) (by omega) rfl ?_
  refine jT_xaload_n (v := (4, 0)) (pcN := 51) jI_119_50 rfl rfl rfl ?_
  refine jT_xaload_n (v := (4, 0)) (pcN := 52) jI_119_51 rfl rfl rfl ?_
  refine jT_xgetf (a := 0) (t := 1) (ci := 13) (fi := 11) (c := jzA_5) (v := (4, 11)) (pcN := 55) jI_119_52 rfl rfl rfl rfl rfl rfl rfl ?_
  refine jT_xiload_n (v := (0, x1)) (pcN := 56) jI_119_55 rfl rfl rfl ?_
  refine jT_xaload (v := (4, 20)) (pcN := 58) jI_119_56 rfl rfl rfl ?_
  refine jT_fA [11, 20, 12, 13, 14, 15, 16, 19, 17] 21 (y := 58) (pcN := 61) (dC := 1) (bc1 := 2) (bc2 := 13) (c1 := 0) (c2 := 0) (as := [(4, 11), (0, x1), (4, 20)]) (asC := [(4, 0), (0, x1), (4, 1)]) (LN := [(5, (4, 20)), (0, (4, 0)), (1, (0, x1)), (2, (0, x2)), (3, (0, x3)), (4, (0, 0))]) (stN := [(4, 0)]) (hsC := jpA_74) (ex := [jgh, jzA_72]) (v := (4, 10)) (st2 := [(4, 22), (4, 0)]) (hs2 := jpA_100) (jA_58_33 (d := 0) (by omega)) (by rfl) (by rfl) (by decide +kernel) (by rfl) (by rfl) (by omega) (by omega) (by omega) (by omega) rfl (by decide +kernel) ?_
  refine jT_fB [0, 22, 1, 2, 3, 4, 5, 6, 7, 8, 9, 10, 11, 12, 13, 14, 15, 16] 23 (y := 100) (pcN := 64) (dC := 0) (bc1 := 0) (bc2 := 0) (c1 := 0) (c2 := 0) (as := [(4, 0), (4, 22)]) (asC := [(4, 0), (4, 1)]) (LN := [(5, (4, 20)), (0, (4, 0)), (1, (0, x1)), (2, (0, x2)), (3, (0, x3)), (4, (0, 0))]) (stN := []) (hsC := jpA_80) (hsD := jpA_78) (v := (9, 0)) (st2 := []) (hs2 := jpA_103) (jA_100_34 (d := 0)) (by rfl) (by rfl) (by decide +kernel) (by rfl) (by rfl) (by omega) (by omega) (by omega) (by omega) rfl (by decide +kernel) ?_
  refine jT_xaload (v := (4, 20)) (pcN := 66) jI_119_64 rfl rfl rfl ?_
  refine jT_xgetf (a := 20) (t := 2) (ci := 4) (fi := 1) (c := (4, [(4, 19), (1, 1)], [])) (v := (1, 1)) (pcN := 69) jI_119_66 rfl rfl rfl rfl rfl rfl rfl ?_
  refine jT_xl2i (pcN := 70) jI_119_69 rfl rfl ?_
  exact jT_ret rfl (by decide) (by show 19 ≤ 23; decide) (by omega) (by omega) ⟨rfl, rfl, rfl⟩
theorem jA_328_81 {xs : List Int} {d : Nat} {x1 x2 x3 : Int} (h_x1 : 0 ≤ x1 ∧ x1 ≤ 7) (h_x2 : 0 ≤ x2 ∧ x2 ≤ 7) (h_x3 : 0 ≤ x3 ∧ x3 ≤ 7) : jT xs (d + 4) 328 20 0 [(0, (4, 0)), (1, (0, x1)), (2, (0, x2)), (3, (0, x3)), (4, (0, 0)), (5, (4, 1))] [] jpA_116 4 21 (fun k v hsN => k = 0 ∧ v = (0, 0) ∧ hsN = jpA_113) := by
  refine jT_xaload (v := (4, 1)) (pcN := 2) jI_328_0 rfl rfl rfl ?_
  refine jT_xiconst (k := 0) (pcN := 3) jI_328_2 rfl ?_
  refine jT_xaload_n (v := (4, 0)) (pcN := 4) jI_328_3 rfl rfl rfl ?_
  refine jT_xiload_n (v := (0, x1)) (pcN := 5) jI_328_4 rfl rfl rfl ?_
  refine jT_xiload_n (v := (0, x2)) (pcN := 6) jI_328_5 rfl rfl rfl ?_
  refine jT_xiload_n (v := (0, x3)) (pcN := 7) jI_328_6 rfl rfl rfl ?_
  refine jT_xiload (v := (0, 0)) (pcN := 9) jI_328_7 rfl rfl rfl ?_
  refine jT_fB [0, 2, 3, 4, 5, 6, 7, 8, 9, 10, 11, 12, 13, 14, 15, 16, 17, 18, 19] 20 (y := 119) (pcN := 12) (dC := 3) (bc1 := 4) (bc2 := 21) (c1 := 0) (c2 := 0) (as := [(4, 0), (0, x1), (0, x2), (0, x3), (0, 0)]) (asC := [(4, 0), (0, x1), (0, x2), (0, x3), (0, 0)]) (LN := [(0, (4, 0)), (1, (0, x1)), (2, (0, x2)), (3, (0, x3)), (4, (0, 0)), (5, (4, 1))]) (stN := [(0, 0), (4, 1)]) (hsC := jpA_107) (hsD := jpA_103) (v := (0, 1)) (st2 := [(0, 1), (0, 0), (4, 1)]) (hs2 := jpA_111) (jA_119_80 (d := 0) (by omega) (by omega) (by omega)) (by rfl) (by rfl) (by decide +kernel) (by rfl) (by rfl) (by omega) (by omega) (by omega) (by omega) rfl (by decide +kernel) ?_
  refine jT_xi2l (x := 1) (z := 1) (pcN := 13) jI_328_12 rfl (by decide +kernel) rfl ?_
  refine jT_adv 1 (pcN := 14) (LN := [(0, (4, 0)), (1, (0, x1)), (2, (0, x2)), (3, (0, x3)), (4, (0, 0)), (5, (4, 1))]) (stN := []) (hsN := jpA_113) (c1 := 0) (s1 := 0) (c2 := 0) (s2 := 0) (by exact rfl) ?_ (by omega) (by omega)
  refine jT_xgoto (pcN := 25) jI_328_14 rfl ?_
  refine jT_xiconst (k := 0) (pcN := 26) jI_328_25 rfl ?_
  exact jT_ret rfl (by decide) (by show 20 ≤ 24; decide) (by omega) (by omega) ⟨rfl, rfl, rfl⟩
theorem jA_204_82 {xs : List Int} {d : Nat} {x3 : Int} (h_x3 : 0 ≤ x3 ∧ x3 ≤ 7) : jT xs (d + 2) 204 16 0 [(0, (4, 0)), (1, (4, 1)), (2, (0, 7 * x3)), (3, (1, 1))] [] jpA_130 0 0 (fun k v hsN => k = 0 ∧ v = (9, 0) ∧ hsN = jpA_130 ++ []) := by
  refine jT_xaload_n (v := (4, 1)) (pcN := 1) jI_204_0 rfl rfl rfl ?_
  refine jT_xiload_n (v := (0, 7 * x3)) (pcN := 2) jI_204_1 rfl rfl rfl ?_
  refine jT_xbipush (k := 6) (pcN := 4) jI_204_2 (by decide) rfl ?_
  refine jT_xiadd (x := 7 * x3) (y := 6) (z := 7 * x3 + 6) (pcN := 5) jI_204_4 rfl (by omega) rfl ?_
  refine jT_iald (x := 1) (a := 1) (j := (7 * x3 + 6).toNat) (fs := []) (X := jS0) (by rfl) (by rfl) (by rfl) (jw_nn (by omega) (by omega)) (jS0_r6 (by omega) (by omega)) ?_
  refine jT_eq (LN := [(0, (4, 0)), (1, (4, 1)), (2, (0, 7 * x3)), (3, (1, 1))]) (stN := [(0, 1)]) (hsN := jpA_130) rfl rfl rfl ?_
  refine jT_xi2l (x := 1) (z := 1) (pcN := 7) jI_204_6 rfl (by decide +kernel) rfl ?_
  refine jT_xlstore (v := (1, 1)) (LN := [(5, (1, 1)), (0, (4, 0)), (1, (4, 1)), (2, (0, 7 * x3)), (3, (1, 1))]) (pcN := 9) jI_204_7 rfl rfl rfl rfl ?_
  refine jT_xaload_n (v := (4, 0)) (pcN := 10) jI_204_9 rfl rfl rfl ?_
  refine jT_xgetf (a := 0) (t := 1) (ci := 14) (fi := 10) (c := jzA_21) (v := (1, 1)) (pcN := 13) jI_204_10 rfl rfl rfl rfl rfl rfl rfl ?_
  refine jT_xaload_n (v := (4, 0)) (pcN := 14) jI_204_13 rfl rfl rfl ?_
  refine jT_xgetf (a := 0) (t := 1) (ci := 14) (fi := 10) (c := jzA_21) (v := (1, 1)) (pcN := 17) jI_204_14 rfl rfl rfl rfl rfl rfl rfl ?_
  refine jT_xlload (v := (1, 1)) (pcN := 19) jI_204_17 rfl rfl rfl ?_
  refine jT_fR [] 16 (y := 194) (pcN := 22) (dC := 1) (bc1 := 0) (bc2 := 0) (c1 := 0) (c2 := 0) (as := [(1, 1), (1, 1)]) (asC := [(1, 1), (1, 1)]) (LN := [(5, (1, 1)), (0, (4, 0)), (1, (4, 1)), (2, (0, 7 * x3)), (3, (1, 1))]) (stN := [(1, 1)]) (hsC := []) (v := (1, 1)) (st2 := [(1, 1), (1, 1)]) (jA_194_43 (d := 0)) (by rfl) (by rfl) (by decide +kernel) (by rfl) (by rfl) (by omega) (by omega) (by omega) (by omega) rfl ?_
  refine jT_ldiv (a := 1) (b := 1) (by rfl) (by rfl) (by decide +kernel) (by decide +kernel) (by decide) ?_
  refine jT_eq (LN := [(5, (1, 1)), (0, (4, 0)), (1, (4, 1)), (2, (0, 7 * x3)), (3, (1, 1))]) (stN := [(1, 1)]) (hsN := jpA_130) rfl (by rw [show (1 : Int).tdiv 1 = 1 by decide +kernel]) rfl ?_
  refine jT_xlload (v := (1, 1)) (pcN := 25) jI_204_23 rfl rfl rfl ?_
  refine jT_xlmul (x := 1) (y := 1) (z := 1) (pcN := 26) jI_204_25 rfl (by decide) rfl ?_
  refine jT_xlstore (v := (1, 1)) (LN := [(7, (1, 1)), (5, (1, 1)), (0, (4, 0)), (1, (4, 1)), (2, (0, 7 * x3)), (3, (1, 1))]) (pcN := 28) jI_204_26 rfl rfl rfl rfl ?_
  refine jT_xiconst (k := 0) (pcN := 29) jI_204_28 rfl ?_
  refine jT_xistore (v := (0, 0)) (LN := [(9, (0, 0)), (7, (1, 1)), (5, (1, 1)), (0, (4, 0)), (1, (4, 1)), (2, (0, 7 * x3)), (3, (1, 1))]) (pcN := 31) jI_204_29 rfl rfl rfl rfl ?_
  refine jT_xiload (v := (0, 0)) (pcN := 33) jI_204_31 rfl rfl rfl ?_
  refine jT_xbipush (k := 6) (pcN := 35) jI_204_33 (by decide) rfl ?_
  refine jT_xicF (t := 82) (pcN := 38) jI_204_35 rfl (by decide +kernel) rfl rfl ?_
  refine jT_xaload_n (v := (4, 0)) (pcN := 39) jI_204_38 rfl rfl rfl ?_
  refine jT_xgetf (a := 0) (t := 1) (ci := 14) (fi := 9) (c := jzA_21) (v := (4, 7)) (pcN := 42) jI_204_39 rfl rfl rfl rfl rfl rfl rfl ?_
  refine jT_xiload (v := (0, 0)) (pcN := 44) jI_204_42 rfl rfl rfl ?_
  refine jT_xaload_n (v := (4, 0)) (pcN := 45) jI_204_44 rfl rfl rfl ?_
  refine jT_xgetf (a := 0) (t := 1) (ci := 14) (fi := 9) (c := jzA_21) (v := (4, 7)) (pcN := 48) jI_204_45 rfl rfl rfl rfl rfl rfl rfl ?_
  refine jT_xiload (v := (0, 0)) (pcN := 50) jI_204_48 rfl rfl rfl ?_
  refine jT_lald (x := 0) (a := 7) (j := 0) (fs := []) (X := [0, 0, 0, 0, 0, 0]) jI_204_50 rfl rfl rfl rfl ?_
  refine jT_eq (LN := [(9, (0, 0)), (7, (1, 1)), (5, (1, 1)), (0, (4, 0)), (1, (4, 1)), (2, (0, 7 * x3)), (3, (1, 1))]) (stN := [(1, 0), (0, 0), (4, 7)]) (hsN := jpA_130) rfl rfl rfl ?_
  refine jT_xlload (v := (1, 1)) (pcN := 53) jI_204_51 rfl rfl rfl ?_
  refine jT_xaload_n (v := (4, 0)) (pcN := 54) jI_204_53 rfl rfl rfl ?_
  refine jT_xgetf (a := 0) (t := 1) (ci := 14) (fi := 10) (c := jzA_21) (v := (1, 1)) (pcN := 57) jI_204_54 rfl rfl rfl rfl rfl rfl rfl ?_
  refine jT_ldiv (a := 1) (b := 1) (by rfl) (by rfl) (by decide +kernel) (by decide +kernel) (by decide) ?_
  refine jT_eq (LN := [(9, (0, 0)), (7, (1, 1)), (5, (1, 1)), (0, (4, 0)), (1, (4, 1)), (2, (0, 7 * x3)), (3, (1, 1))]) (stN := [(1, 1), (1, 0), (0, 0), (4, 7)]) (hsN := jpA_130) rfl (by rw [show (1 : Int).tdiv 1 = 1 by decide +kernel]) rfl ?_
  refine jT_xlmul (x := 0) (y := 1) (z := 0) (pcN := 59) jI_204_58 rfl (by decide) rfl ?_
  refine jT_xlload_n (v := (1, 1)) (pcN := 60) jI_204_59 rfl rfl rfl ?_
  refine jT_xaload_n (v := (4, 1)) (pcN := 61) jI_204_60 rfl rfl rfl ?_
  refine jT_xiload_n (v := (0, 7 * x3)) (pcN := 62) jI_204_61 rfl rfl rfl ?_
  refine jT_xiload (v := (0, 0)) (pcN := 64) jI_204_62 rfl rfl rfl ?_
  refine jT_xiadd (x := 7 * x3) (y := 0) (z := 7 * x3) (pcN := 65) jI_204_64 rfl (by omega) rfl ?_
  refine jT_iald (x := 0) (a := 1) (j := (7 * x3).toNat) (fs := []) (X := jS0) (by rfl) (by rfl) (by rfl) (jw_nn (by omega) (by omega)) (jS0_r0 (by omega) (by omega)) ?_
  refine jT_eq (LN := [(9, (0, 0)), (7, (1, 1)), (5, (1, 1)), (0, (4, 0)), (1, (4, 1)), (2, (0, 7 * x3)), (3, (1, 1))]) (stN := [(0, 0), (1, 1), (1, 0), (0, 0), (4, 7)]) (hsN := jpA_130) rfl rfl rfl ?_
  refine jT_xi2l (x := 0) (z := 0) (pcN := 67) jI_204_66 rfl (by decide +kernel) rfl ?_
  refine jT_xlmul (x := 1) (y := 0) (z := 0) (pcN := 68) jI_204_67 rfl (by decide) rfl ?_
  refine jT_xlload (v := (1, 1)) (pcN := 70) jI_204_68 rfl rfl rfl ?_
  refine jT_xlload (v := (1, 1)) (pcN := 72) jI_204_70 rfl rfl rfl ?_
  refine jT_ldiv (a := 1) (b := 1) (by rfl) (by rfl) (by decide +kernel) (by decide +kernel) (by decide) ?_
  refine jT_eq (LN := [(9, (0, 0)), (7, (1, 1)), (5, (1, 1)), (0, (4, 0)), (1, (4, 1)), (2, (0, 7 * x3)), (3, (1, 1))]) (stN := [(1, 1), (1, 0), (1, 0), (0, 0), (4, 7)]) (hsN := jpA_130) rfl (by rw [show (1 : Int).tdiv 1 = 1 by decide +kernel]) rfl ?_
  refine jT_xlmul (x := 0) (y := 1) (z := 0) (pcN := 74) jI_204_73 rfl (by decide) rfl ?_
  refine jT_xladd (x := 0) (y := 0) (z := 0) (pcN := 75) jI_204_74 rfl (by decide) rfl ?_
  refine jT_adv 1 (pcN := 76) (LN := [(9, (0, 0)), (7, (1, 1)), (5, (1, 1)), (0, (4, 0)), (1, (4, 1)), (2, (0, 7 * x3)), (3, (1, 1))]) (stN := []) (hsN := jpA_130) (c1 := 0) (s1 := 0) (c2 := 0) (s2 := 0) (by exact rfl) ?_ (by omega) (by omega)
  refine jT_xiinc (x := 0) (z := 1) (LN := [(9, (0, 1)), (7, (1, 1)), (5, (1, 1)), (0, (4, 0)), (1, (4, 1)), (2, (0, 7 * x3)), (3, (1, 1))]) (pcN := 79) jI_204_76 rfl rfl (by decide) rfl rfl ?_
  refine jT_xgoto (pcN := 31) jI_204_79 rfl ?_
  refine jT_xiload (v := (0, 1)) (pcN := 33) jI_204_31 rfl rfl rfl ?_
  refine jT_xbipush (k := 6) (pcN := 35) jI_204_33 (by decide) rfl ?_
  refine jT_xicF (t := 82) (pcN := 38) jI_204_35 rfl (by decide +kernel) rfl rfl ?_
  refine jT_xaload_n (v := (4, 0)) (pcN := 39) jI_204_38 rfl rfl rfl ?_
  refine jT_xgetf (a := 0) (t := 1) (ci := 14) (fi := 9) (c := jzA_21) (v := (4, 7)) (pcN := 42) jI_204_39 rfl rfl rfl rfl rfl rfl rfl ?_
  refine jT_xiload (v := (0, 1)) (pcN := 44) jI_204_42 rfl rfl rfl ?_
  refine jT_xaload_n (v := (4, 0)) (pcN := 45) jI_204_44 rfl rfl rfl ?_
  refine jT_xgetf (a := 0) (t := 1) (ci := 14) (fi := 9) (c := jzA_21) (v := (4, 7)) (pcN := 48) jI_204_45 rfl rfl rfl rfl rfl rfl rfl ?_
  refine jT_xiload (v := (0, 1)) (pcN := 50) jI_204_48 rfl rfl rfl ?_
  refine jT_lald (x := 0) (a := 7) (j := 1) (fs := []) (X := [0, 0, 0, 0, 0, 0]) jI_204_50 rfl rfl rfl rfl ?_
  refine jT_eq (LN := [(9, (0, 1)), (7, (1, 1)), (5, (1, 1)), (0, (4, 0)), (1, (4, 1)), (2, (0, 7 * x3)), (3, (1, 1))]) (stN := [(1, 0), (0, 1), (4, 7)]) (hsN := jpA_130) rfl rfl rfl ?_
  refine jT_xlload (v := (1, 1)) (pcN := 53) jI_204_51 rfl rfl rfl ?_
  refine jT_xaload_n (v := (4, 0)) (pcN := 54) jI_204_53 rfl rfl rfl ?_
  refine jT_xgetf (a := 0) (t := 1) (ci := 14) (fi := 10) (c := jzA_21) (v := (1, 1)) (pcN := 57) jI_204_54 rfl rfl rfl rfl rfl rfl rfl ?_
  refine jT_ldiv (a := 1) (b := 1) (by rfl) (by rfl) (by decide +kernel) (by decide +kernel) (by decide) ?_
  refine jT_eq (LN := [(9, (0, 1)), (7, (1, 1)), (5, (1, 1)), (0, (4, 0)), (1, (4, 1)), (2, (0, 7 * x3)), (3, (1, 1))]) (stN := [(1, 1), (1, 0), (0, 1), (4, 7)]) (hsN := jpA_130) rfl (by rw [show (1 : Int).tdiv 1 = 1 by decide +kernel]) rfl ?_
  refine jT_xlmul (x := 0) (y := 1) (z := 0) (pcN := 59) jI_204_58 rfl (by decide) rfl ?_
  refine jT_xlload_n (v := (1, 1)) (pcN := 60) jI_204_59 rfl rfl rfl ?_
  refine jT_xaload_n (v := (4, 1)) (pcN := 61) jI_204_60 rfl rfl rfl ?_
  refine jT_xiload_n (v := (0, 7 * x3)) (pcN := 62) jI_204_61 rfl rfl rfl ?_
  refine jT_xiload (v := (0, 1)) (pcN := 64) jI_204_62 rfl rfl rfl ?_
  refine jT_xiadd (x := 7 * x3) (y := 1) (z := 7 * x3 + 1) (pcN := 65) jI_204_64 rfl (by omega) rfl ?_
  refine jT_iald (x := 0) (a := 1) (j := (7 * x3 + 1).toNat) (fs := []) (X := jS0) (by rfl) (by rfl) (by rfl) (jw_nn (by omega) (by omega)) (jS0_r1 (by omega) (by omega)) ?_
  refine jT_eq (LN := [(9, (0, 1)), (7, (1, 1)), (5, (1, 1)), (0, (4, 0)), (1, (4, 1)), (2, (0, 7 * x3)), (3, (1, 1))]) (stN := [(0, 0), (1, 1), (1, 0), (0, 1), (4, 7)]) (hsN := jpA_130) rfl rfl rfl ?_
  refine jT_xi2l (x := 0) (z := 0) (pcN := 67) jI_204_66 rfl (by decide +kernel) rfl ?_
  refine jT_xlmul (x := 1) (y := 0) (z := 0) (pcN := 68) jI_204_67 rfl (by decide) rfl ?_
  refine jT_xlload (v := (1, 1)) (pcN := 70) jI_204_68 rfl rfl rfl ?_
  refine jT_xlload (v := (1, 1)) (pcN := 72) jI_204_70 rfl rfl rfl ?_
  refine jT_ldiv (a := 1) (b := 1) (by rfl) (by rfl) (by decide +kernel) (by decide +kernel) (by decide) ?_
  refine jT_eq (LN := [(9, (0, 1)), (7, (1, 1)), (5, (1, 1)), (0, (4, 0)), (1, (4, 1)), (2, (0, 7 * x3)), (3, (1, 1))]) (stN := [(1, 1), (1, 0), (1, 0), (0, 1), (4, 7)]) (hsN := jpA_130) rfl (by rw [show (1 : Int).tdiv 1 = 1 by decide +kernel]) rfl ?_
  refine jT_xlmul (x := 0) (y := 1) (z := 0) (pcN := 74) jI_204_73 rfl (by decide) rfl ?_
  refine jT_xladd (x := 0) (y := 0) (z := 0) (pcN := 75) jI_204_74 rfl (by decide) rfl ?_
  refine jT_adv 1 (pcN := 76) (LN := [(9, (0, 1)), (7, (1, 1)), (5, (1, 1)), (0, (4, 0)), (1, (4, 1)), (2, (0, 7 * x3)), (3, (1, 1))]) (stN := []) (hsN := jpA_130) (c1 := 0) (s1 := 0) (c2 := 0) (s2 := 0) (by exact rfl) ?_ (by omega) (by omega)
  refine jT_xiinc (x := 1) (z := 2) (LN := [(9, (0, 2)), (7, (1, 1)), (5, (1, 1)), (0, (4, 0)), (1, (4, 1)), (2, (0, 7 * x3)), (3, (1, 1))]) (pcN := 79) jI_204_76 rfl rfl (by decide) rfl rfl ?_
  refine jT_xgoto (pcN := 31) jI_204_79 rfl ?_
  refine jT_xiload (v := (0, 2)) (pcN := 33) jI_204_31 rfl rfl rfl ?_
  refine jT_xbipush (k := 6) (pcN := 35) jI_204_33 (by decide) rfl ?_
  refine jT_xicF (t := 82) (pcN := 38) jI_204_35 rfl (by decide +kernel) rfl rfl ?_
  refine jT_xaload_n (v := (4, 0)) (pcN := 39) jI_204_38 rfl rfl rfl ?_
  refine jT_xgetf (a := 0) (t := 1) (ci := 14) (fi := 9) (c := jzA_21) (v := (4, 7)) (pcN := 42) jI_204_39 rfl rfl rfl rfl rfl rfl rfl ?_
  refine jT_xiload (v := (0, 2)) (pcN := 44) jI_204_42 rfl rfl rfl ?_
  refine jT_xaload_n (v := (4, 0)) (pcN := 45) jI_204_44 rfl rfl rfl ?_
  refine jT_xgetf (a := 0) (t := 1) (ci := 14) (fi := 9) (c := jzA_21) (v := (4, 7)) (pcN := 48) jI_204_45 rfl rfl rfl rfl rfl rfl rfl ?_
  refine jT_xiload (v := (0, 2)) (pcN := 50) jI_204_48 rfl rfl rfl ?_
  refine jT_lald (x := 0) (a := 7) (j := 2) (fs := []) (X := [0, 0, 0, 0, 0, 0]) jI_204_50 rfl rfl rfl rfl ?_
  refine jT_eq (LN := [(9, (0, 2)), (7, (1, 1)), (5, (1, 1)), (0, (4, 0)), (1, (4, 1)), (2, (0, 7 * x3)), (3, (1, 1))]) (stN := [(1, 0), (0, 2), (4, 7)]) (hsN := jpA_130) rfl rfl rfl ?_
  refine jT_xlload (v := (1, 1)) (pcN := 53) jI_204_51 rfl rfl rfl ?_
  refine jT_xaload_n (v := (4, 0)) (pcN := 54) jI_204_53 rfl rfl rfl ?_
  refine jT_xgetf (a := 0) (t := 1) (ci := 14) (fi := 10) (c := jzA_21) (v := (1, 1)) (pcN := 57) jI_204_54 rfl rfl rfl rfl rfl rfl rfl ?_
  refine jT_ldiv (a := 1) (b := 1) (by rfl) (by rfl) (by decide +kernel) (by decide +kernel) (by decide) ?_
  refine jT_eq (LN := [(9, (0, 2)), (7, (1, 1)), (5, (1, 1)), (0, (4, 0)), (1, (4, 1)), (2, (0, 7 * x3)), (3, (1, 1))]) (stN := [(1, 1), (1, 0), (0, 2), (4, 7)]) (hsN := jpA_130) rfl (by rw [show (1 : Int).tdiv 1 = 1 by decide +kernel]) rfl ?_
  refine jT_xlmul (x := 0) (y := 1) (z := 0) (pcN := 59) jI_204_58 rfl (by decide) rfl ?_
  refine jT_xlload_n (v := (1, 1)) (pcN := 60) jI_204_59 rfl rfl rfl ?_
  refine jT_xaload_n (v := (4, 1)) (pcN := 61) jI_204_60 rfl rfl rfl ?_
  refine jT_xiload_n (v := (0, 7 * x3)) (pcN := 62) jI_204_61 rfl rfl rfl ?_
  refine jT_xiload (v := (0, 2)) (pcN := 64) jI_204_62 rfl rfl rfl ?_
  refine jT_xiadd (x := 7 * x3) (y := 2) (z := 7 * x3 + 2) (pcN := 65) jI_204_64 rfl (by omega) rfl ?_
  refine jT_iald (x := 0) (a := 1) (j := (7 * x3 + 2).toNat) (fs := []) (X := jS0) (by rfl) (by rfl) (by rfl) (jw_nn (by omega) (by omega)) (jS0_r2 (by omega) (by omega)) ?_
  refine jT_eq (LN := [(9, (0, 2)), (7, (1, 1)), (5, (1, 1)), (0, (4, 0)), (1, (4, 1)), (2, (0, 7 * x3)), (3, (1, 1))]) (stN := [(0, 0), (1, 1), (1, 0), (0, 2), (4, 7)]) (hsN := jpA_130) rfl rfl rfl ?_
  refine jT_xi2l (x := 0) (z := 0) (pcN := 67) jI_204_66 rfl (by decide +kernel) rfl ?_
  refine jT_xlmul (x := 1) (y := 0) (z := 0) (pcN := 68) jI_204_67 rfl (by decide) rfl ?_
  refine jT_xlload (v := (1, 1)) (pcN := 70) jI_204_68 rfl rfl rfl ?_
  refine jT_xlload (v := (1, 1)) (pcN := 72) jI_204_70 rfl rfl rfl ?_
  refine jT_ldiv (a := 1) (b := 1) (by rfl) (by rfl) (by decide +kernel) (by decide +kernel) (by decide) ?_
  refine jT_eq (LN := [(9, (0, 2)), (7, (1, 1)), (5, (1, 1)), (0, (4, 0)), (1, (4, 1)), (2, (0, 7 * x3)), (3, (1, 1))]) (stN := [(1, 1), (1, 0), (1, 0), (0, 2), (4, 7)]) (hsN := jpA_130) rfl (by rw [show (1 : Int).tdiv 1 = 1 by decide +kernel]) rfl ?_
  refine jT_xlmul (x := 0) (y := 1) (z := 0) (pcN := 74) jI_204_73 rfl (by decide) rfl ?_
  refine jT_xladd (x := 0) (y := 0) (z := 0) (pcN := 75) jI_204_74 rfl (by decide) rfl ?_
  refine jT_adv 1 (pcN := 76) (LN := [(9, (0, 2)), (7, (1, 1)), (5, (1, 1)), (0, (4, 0)), (1, (4, 1)), (2, (0, 7 * x3)), (3, (1, 1))]) (stN := []) (hsN := jpA_130) (c1 := 0) (s1 := 0) (c2 := 0) (s2 := 0) (by exact rfl) ?_ (by omega) (by omega)
  refine jT_xiinc (x := 2) (z := 3) (LN := [(9, (0, 3)), (7, (1, 1)), (5, (1, 1)), (0, (4, 0)), (1, (4, 1)), (2, (0, 7 * x3)), (3, (1, 1))]) (pcN := 79) jI_204_76 rfl rfl (by decide) rfl rfl ?_
  refine jT_xgoto (pcN := 31) jI_204_79 rfl ?_
  refine jT_xiload (v := (0, 3)) (pcN := 33) jI_204_31 rfl rfl rfl ?_
  refine jT_xbipush (k := 6) (pcN := 35) jI_204_33 (by decide) rfl ?_
  refine jT_xicF (t := 82) (pcN := 38) jI_204_35 rfl (by decide +kernel) rfl rfl ?_
  refine jT_xaload_n (v := (4, 0)) (pcN := 39) jI_204_38 rfl rfl rfl ?_
  refine jT_xgetf (a := 0) (t := 1) (ci := 14) (fi := 9) (c := jzA_21) (v := (4, 7)) (pcN := 42) jI_204_39 rfl rfl rfl rfl rfl rfl rfl ?_
  refine jT_xiload (v := (0, 3)) (pcN := 44) jI_204_42 rfl rfl rfl ?_
  refine jT_xaload_n (v := (4, 0)) (pcN := 45) jI_204_44 rfl rfl rfl ?_
  refine jT_xgetf (a := 0) (t := 1) (ci := 14) (fi := 9) (c := jzA_21) (v := (4, 7)) (pcN := 48) jI_204_45 rfl rfl rfl rfl rfl rfl rfl ?_
  refine jT_xiload (v := (0, 3)) (pcN := 50) jI_204_48 rfl rfl rfl ?_
  refine jT_lald (x := 0) (a := 7) (j := 3) (fs := []) (X := [0, 0, 0, 0, 0, 0]) jI_204_50 rfl rfl rfl rfl ?_
  refine jT_eq (LN := [(9, (0, 3)), (7, (1, 1)), (5, (1, 1)), (0, (4, 0)), (1, (4, 1)), (2, (0, 7 * x3)), (3, (1, 1))]) (stN := [(1, 0), (0, 3), (4, 7)]) (hsN := jpA_130) rfl rfl rfl ?_
  refine jT_xlload (v := (1, 1)) (pcN := 53) jI_204_51 rfl rfl rfl ?_
  refine jT_xaload_n (v := (4, 0)) (pcN := 54) jI_204_53 rfl rfl rfl ?_
  refine jT_xgetf (a := 0) (t := 1) (ci := 14) (fi := 10) (c := jzA_21) (v := (1, 1)) (pcN := 57) jI_204_54 rfl rfl rfl rfl rfl rfl rfl ?_
  refine jT_ldiv (a := 1) (b := 1) (by rfl) (by rfl) (by decide +kernel) (by decide +kernel) (by decide) ?_
  refine jT_eq (LN := [(9, (0, 3)), (7, (1, 1)), (5, (1, 1)), (0, (4, 0)), (1, (4, 1)), (2, (0, 7 * x3)), (3, (1, 1))]) (stN := [(1, 1), (1, 0), (0, 3), (4, 7)]) (hsN := jpA_130) rfl (by rw [show (1 : Int).tdiv 1 = 1 by decide +kernel]) rfl ?_
  refine jT_xlmul (x := 0) (y := 1) (z := 0) (pcN := 59) jI_204_58 rfl (by decide) rfl ?_
  refine jT_xlload_n (v := (1, 1)) (pcN := 60) jI_204_59 rfl rfl rfl ?_
  refine jT_xaload_n (v := (4, 1)) (pcN := 61) jI_204_60 rfl rfl rfl ?_
  refine jT_xiload_n (v := (0, 7 * x3)) (pcN := 62) jI_204_61 rfl rfl rfl ?_
  refine jT_xiload (v := (0, 3)) (pcN := 64) jI_204_62 rfl rfl rfl ?_
  refine jT_xiadd (x := 7 * x3) (y := 3) (z := 7 * x3 + 3) (pcN := 65) jI_204_64 rfl (by omega) rfl ?_
  refine jT_iald (x := 0) (a := 1) (j := (7 * x3 + 3).toNat) (fs := []) (X := jS0) (by rfl) (by rfl) (by rfl) (jw_nn (by omega) (by omega)) (jS0_r3 (by omega) (by omega)) ?_
  refine jT_eq (LN := [(9, (0, 3)), (7, (1, 1)), (5, (1, 1)), (0, (4, 0)), (1, (4, 1)), (2, (0, 7 * x3)), (3, (1, 1))]) (stN := [(0, 0), (1, 1), (1, 0), (0, 3), (4, 7)]) (hsN := jpA_130) rfl rfl rfl ?_
  refine jT_xi2l (x := 0) (z := 0) (pcN := 67) jI_204_66 rfl (by decide +kernel) rfl ?_
  refine jT_xlmul (x := 1) (y := 0) (z := 0) (pcN := 68) jI_204_67 rfl (by decide) rfl ?_
  refine jT_xlload (v := (1, 1)) (pcN := 70) jI_204_68 rfl rfl rfl ?_
  refine jT_xlload (v := (1, 1)) (pcN := 72) jI_204_70 rfl rfl rfl ?_
  refine jT_ldiv (a := 1) (b := 1) (by rfl) (by rfl) (by decide +kernel) (by decide +kernel) (by decide) ?_
  refine jT_eq (LN := [(9, (0, 3)), (7, (1, 1)), (5, (1, 1)), (0, (4, 0)), (1, (4, 1)), (2, (0, 7 * x3)), (3, (1, 1))]) (stN := [(1, 1), (1, 0), (1, 0), (0, 3), (4, 7)]) (hsN := jpA_130) rfl (by rw [show (1 : Int).tdiv 1 = 1 by decide +kernel]) rfl ?_
  refine jT_xlmul (x := 0) (y := 1) (z := 0) (pcN := 74) jI_204_73 rfl (by decide) rfl ?_
  refine jT_xladd (x := 0) (y := 0) (z := 0) (pcN := 75) jI_204_74 rfl (by decide) rfl ?_
  refine jT_adv 1 (pcN := 76) (LN := [(9, (0, 3)), (7, (1, 1)), (5, (1, 1)), (0, (4, 0)), (1, (4, 1)), (2, (0, 7 * x3)), (3, (1, 1))]) (stN := []) (hsN := jpA_130) (c1 := 0) (s1 := 0) (c2 := 0) (s2 := 0) (by exact rfl) ?_ (by omega) (by omega)
  refine jT_xiinc (x := 3) (z := 4) (LN := [(9, (0, 4)), (7, (1, 1)), (5, (1, 1)), (0, (4, 0)), (1, (4, 1)), (2, (0, 7 * x3)), (3, (1, 1))]) (pcN := 79) jI_204_76 rfl rfl (by decide) rfl rfl ?_
  refine jT_xgoto (pcN := 31) jI_204_79 rfl ?_
  refine jT_xiload (v := (0, 4)) (pcN := 33) jI_204_31 rfl rfl rfl ?_
  refine jT_xbipush (k := 6) (pcN := 35) jI_204_33 (by decide) rfl ?_
  refine jT_xicF (t := 82) (pcN := 38) jI_204_35 rfl (by decide +kernel) rfl rfl ?_
  refine jT_xaload_n (v := (4, 0)) (pcN := 39) jI_204_38 rfl rfl rfl ?_
  refine jT_xgetf (a := 0) (t := 1) (ci := 14) (fi := 9) (c := jzA_21) (v := (4, 7)) (pcN := 42) jI_204_39 rfl rfl rfl rfl rfl rfl rfl ?_
  refine jT_xiload (v := (0, 4)) (pcN := 44) jI_204_42 rfl rfl rfl ?_
  refine jT_xaload_n (v := (4, 0)) (pcN := 45) jI_204_44 rfl rfl rfl ?_
  refine jT_xgetf (a := 0) (t := 1) (ci := 14) (fi := 9) (c := jzA_21) (v := (4, 7)) (pcN := 48) jI_204_45 rfl rfl rfl rfl rfl rfl rfl ?_
  refine jT_xiload (v := (0, 4)) (pcN := 50) jI_204_48 rfl rfl rfl ?_
  refine jT_lald (x := 0) (a := 7) (j := 4) (fs := []) (X := [0, 0, 0, 0, 0, 0]) jI_204_50 rfl rfl rfl rfl ?_
  refine jT_eq (LN := [(9, (0, 4)), (7, (1, 1)), (5, (1, 1)), (0, (4, 0)), (1, (4, 1)), (2, (0, 7 * x3)), (3, (1, 1))]) (stN := [(1, 0), (0, 4), (4, 7)]) (hsN := jpA_130) rfl rfl rfl ?_
  refine jT_xlload (v := (1, 1)) (pcN := 53) jI_204_51 rfl rfl rfl ?_
  refine jT_xaload_n (v := (4, 0)) (pcN := 54) jI_204_53 rfl rfl rfl ?_
  refine jT_xgetf (a := 0) (t := 1) (ci := 14) (fi := 10) (c := jzA_21) (v := (1, 1)) (pcN := 57) jI_204_54 rfl rfl rfl rfl rfl rfl rfl ?_
  refine jT_ldiv (a := 1) (b := 1) (by rfl) (by rfl) (by decide +kernel) (by decide +kernel) (by decide) ?_
  refine jT_eq (LN := [(9, (0, 4)), (7, (1, 1)), (5, (1, 1)), (0, (4, 0)), (1, (4, 1)), (2, (0, 7 * x3)), (3, (1, 1))]) (stN := [(1, 1), (1, 0), (0, 4), (4, 7)]) (hsN := jpA_130) rfl (by rw [show (1 : Int).tdiv 1 = 1 by decide +kernel]) rfl ?_
  refine jT_xlmul (x := 0) (y := 1) (z := 0) (pcN := 59) jI_204_58 rfl (by decide) rfl ?_
  refine jT_xlload_n (v := (1, 1)) (pcN := 60) jI_204_59 rfl rfl rfl ?_
  refine jT_xaload_n (v := (4, 1)) (pcN := 61) jI_204_60 rfl rfl rfl ?_
  refine jT_xiload_n (v := (0, 7 * x3)) (pcN := 62) jI_204_61 rfl rfl rfl ?_
  refine jT_xiload (v := (0, 4)) (pcN := 64) jI_204_62 rfl rfl rfl ?_
  refine jT_xiadd (x := 7 * x3) (y := 4) (z := 7 * x3 + 4) (pcN := 65) jI_204_64 rfl (by omega) rfl ?_
  refine jT_iald (x := 0) (a := 1) (j := (7 * x3 + 4).toNat) (fs := []) (X := jS0) (by rfl) (by rfl) (by rfl) (jw_nn (by omega) (by omega)) (jS0_r4 (by omega) (by omega)) ?_
  refine jT_eq (LN := [(9, (0, 4)), (7, (1, 1)), (5, (1, 1)), (0, (4, 0)), (1, (4, 1)), (2, (0, 7 * x3)), (3, (1, 1))]) (stN := [(0, 0), (1, 1), (1, 0), (0, 4), (4, 7)]) (hsN := jpA_130) rfl rfl rfl ?_
  refine jT_xi2l (x := 0) (z := 0) (pcN := 67) jI_204_66 rfl (by decide +kernel) rfl ?_
  refine jT_xlmul (x := 1) (y := 0) (z := 0) (pcN := 68) jI_204_67 rfl (by decide) rfl ?_
  refine jT_xlload (v := (1, 1)) (pcN := 70) jI_204_68 rfl rfl rfl ?_
  refine jT_xlload (v := (1, 1)) (pcN := 72) jI_204_70 rfl rfl rfl ?_
  refine jT_ldiv (a := 1) (b := 1) (by rfl) (by rfl) (by decide +kernel) (by decide +kernel) (by decide) ?_
  refine jT_eq (LN := [(9, (0, 4)), (7, (1, 1)), (5, (1, 1)), (0, (4, 0)), (1, (4, 1)), (2, (0, 7 * x3)), (3, (1, 1))]) (stN := [(1, 1), (1, 0), (1, 0), (0, 4), (4, 7)]) (hsN := jpA_130) rfl (by rw [show (1 : Int).tdiv 1 = 1 by decide +kernel]) rfl ?_
  refine jT_xlmul (x := 0) (y := 1) (z := 0) (pcN := 74) jI_204_73 rfl (by decide) rfl ?_
  refine jT_xladd (x := 0) (y := 0) (z := 0) (pcN := 75) jI_204_74 rfl (by decide) rfl ?_
  refine jT_adv 1 (pcN := 76) (LN := [(9, (0, 4)), (7, (1, 1)), (5, (1, 1)), (0, (4, 0)), (1, (4, 1)), (2, (0, 7 * x3)), (3, (1, 1))]) (stN := []) (hsN := jpA_130) (c1 := 0) (s1 := 0) (c2 := 0) (s2 := 0) (by exact rfl) ?_ (by omega) (by omega)
  refine jT_xiinc (x := 4) (z := 5) (LN := [(9, (0, 5)), (7, (1, 1)), (5, (1, 1)), (0, (4, 0)), (1, (4, 1)), (2, (0, 7 * x3)), (3, (1, 1))]) (pcN := 79) jI_204_76 rfl rfl (by decide) rfl rfl ?_
  refine jT_xgoto (pcN := 31) jI_204_79 rfl ?_
  refine jT_xiload (v := (0, 5)) (pcN := 33) jI_204_31 rfl rfl rfl ?_
  refine jT_xbipush (k := 6) (pcN := 35) jI_204_33 (by decide) rfl ?_
  refine jT_xicF (t := 82) (pcN := 38) jI_204_35 rfl (by decide +kernel) rfl rfl ?_
  refine jT_xaload_n (v := (4, 0)) (pcN := 39) jI_204_38 rfl rfl rfl ?_
  refine jT_xgetf (a := 0) (t := 1) (ci := 14) (fi := 9) (c := jzA_21) (v := (4, 7)) (pcN := 42) jI_204_39 rfl rfl rfl rfl rfl rfl rfl ?_
  refine jT_xiload (v := (0, 5)) (pcN := 44) jI_204_42 rfl rfl rfl ?_
  refine jT_xaload_n (v := (4, 0)) (pcN := 45) jI_204_44 rfl rfl rfl ?_
  refine jT_xgetf (a := 0) (t := 1) (ci := 14) (fi := 9) (c := jzA_21) (v := (4, 7)) (pcN := 48) jI_204_45 rfl rfl rfl rfl rfl rfl rfl ?_
  refine jT_xiload (v := (0, 5)) (pcN := 50) jI_204_48 rfl rfl rfl ?_
  refine jT_lald (x := 0) (a := 7) (j := 5) (fs := []) (X := [0, 0, 0, 0, 0, 0]) jI_204_50 rfl rfl rfl rfl ?_
  refine jT_eq (LN := [(9, (0, 5)), (7, (1, 1)), (5, (1, 1)), (0, (4, 0)), (1, (4, 1)), (2, (0, 7 * x3)), (3, (1, 1))]) (stN := [(1, 0), (0, 5), (4, 7)]) (hsN := jpA_130) rfl rfl rfl ?_
  refine jT_xlload (v := (1, 1)) (pcN := 53) jI_204_51 rfl rfl rfl ?_
  refine jT_xaload_n (v := (4, 0)) (pcN := 54) jI_204_53 rfl rfl rfl ?_
  refine jT_xgetf (a := 0) (t := 1) (ci := 14) (fi := 10) (c := jzA_21) (v := (1, 1)) (pcN := 57) jI_204_54 rfl rfl rfl rfl rfl rfl rfl ?_
  refine jT_ldiv (a := 1) (b := 1) (by rfl) (by rfl) (by decide +kernel) (by decide +kernel) (by decide) ?_
  refine jT_eq (LN := [(9, (0, 5)), (7, (1, 1)), (5, (1, 1)), (0, (4, 0)), (1, (4, 1)), (2, (0, 7 * x3)), (3, (1, 1))]) (stN := [(1, 1), (1, 0), (0, 5), (4, 7)]) (hsN := jpA_130) rfl (by rw [show (1 : Int).tdiv 1 = 1 by decide +kernel]) rfl ?_
  refine jT_xlmul (x := 0) (y := 1) (z := 0) (pcN := 59) jI_204_58 rfl (by decide) rfl ?_
  refine jT_xlload_n (v := (1, 1)) (pcN := 60) jI_204_59 rfl rfl rfl ?_
  refine jT_xaload_n (v := (4, 1)) (pcN := 61) jI_204_60 rfl rfl rfl ?_
  refine jT_xiload_n (v := (0, 7 * x3)) (pcN := 62) jI_204_61 rfl rfl rfl ?_
  refine jT_xiload (v := (0, 5)) (pcN := 64) jI_204_62 rfl rfl rfl ?_
  refine jT_xiadd (x := 7 * x3) (y := 5) (z := 7 * x3 + 5) (pcN := 65) jI_204_64 rfl (by omega) rfl ?_
  refine jT_iald (x := 0) (a := 1) (j := (7 * x3 + 5).toNat) (fs := []) (X := jS0) (by rfl) (by rfl) (by rfl) (jw_nn (by omega) (by omega)) (jS0_r5 (by omega) (by omega)) ?_
  refine jT_eq (LN := [(9, (0, 5)), (7, (1, 1)), (5, (1, 1)), (0, (4, 0)), (1, (4, 1)), (2, (0, 7 * x3)), (3, (1, 1))]) (stN := [(0, 0), (1, 1), (1, 0), (0, 5), (4, 7)]) (hsN := jpA_130) rfl rfl rfl ?_
  refine jT_xi2l (x := 0) (z := 0) (pcN := 67) jI_204_66 rfl (by decide +kernel) rfl ?_
  refine jT_xlmul (x := 1) (y := 0) (z := 0) (pcN := 68) jI_204_67 rfl (by decide) rfl ?_
  refine jT_xlload (v := (1, 1)) (pcN := 70) jI_204_68 rfl rfl rfl ?_
  refine jT_xlload (v := (1, 1)) (pcN := 72) jI_204_70 rfl rfl rfl ?_
  refine jT_ldiv (a := 1) (b := 1) (by rfl) (by rfl) (by decide +kernel) (by decide +kernel) (by decide) ?_
  refine jT_eq (LN := [(9, (0, 5)), (7, (1, 1)), (5, (1, 1)), (0, (4, 0)), (1, (4, 1)), (2, (0, 7 * x3)), (3, (1, 1))]) (stN := [(1, 1), (1, 0), (1, 0), (0, 5), (4, 7)]) (hsN := jpA_130) rfl (by rw [show (1 : Int).tdiv 1 = 1 by decide +kernel]) rfl ?_
  refine jT_xlmul (x := 0) (y := 1) (z := 0) (pcN := 74) jI_204_73 rfl (by decide) rfl ?_
  refine jT_xladd (x := 0) (y := 0) (z := 0) (pcN := 75) jI_204_74 rfl (by decide) rfl ?_
  refine jT_adv 1 (pcN := 76) (LN := [(9, (0, 5)), (7, (1, 1)), (5, (1, 1)), (0, (4, 0)), (1, (4, 1)), (2, (0, 7 * x3)), (3, (1, 1))]) (stN := []) (hsN := jpA_130) (c1 := 0) (s1 := 0) (c2 := 0) (s2 := 0) (by exact rfl) ?_ (by omega) (by omega)
  refine jT_xiinc (x := 5) (z := 6) (LN := [(9, (0, 6)), (7, (1, 1)), (5, (1, 1)), (0, (4, 0)), (1, (4, 1)), (2, (0, 7 * x3)), (3, (1, 1))]) (pcN := 79) jI_204_76 rfl rfl (by decide) rfl rfl ?_
  refine jT_xgoto (pcN := 31) jI_204_79 rfl ?_
  refine jT_xiload (v := (0, 6)) (pcN := 33) jI_204_31 rfl rfl rfl ?_
  refine jT_xbipush (k := 6) (pcN := 35) jI_204_33 (by decide) rfl ?_
  refine jT_xicT (pcN := 82) jI_204_35 rfl (by decide +kernel) rfl ?_
  refine jT_xaload_n (v := (4, 0)) (pcN := 83) jI_204_82 rfl rfl rfl ?_
  refine jT_xlload (v := (1, 1)) (pcN := 85) jI_204_83 rfl rfl rfl ?_
  refine jT_adv 1 (pcN := 88) (LN := [(9, (0, 6)), (7, (1, 1)), (5, (1, 1)), (0, (4, 0)), (1, (4, 1)), (2, (0, 7 * x3)), (3, (1, 1))]) (stN := []) (hsN := jpA_130) (c1 := 0) (s1 := 0) (c2 := 0) (s2 := 0) (by exact rfl) ?_ (by omega) (by omega)
  refine jT_xaload_n (v := (4, 0)) (pcN := 89) jI_204_88 rfl rfl rfl ?_
  refine jT_fR [0, 1, 2, 3, 4, 5, 6, 7, 8, 9, 10, 11, 12, 13, 14, 15] 16 (y := 199) (pcN := 92) (dC := 1) (bc1 := 0) (bc2 := 0) (c1 := 0) (c2 := 0) (as := [(4, 0)]) (asC := [(4, 0)]) (LN := [(9, (0, 6)), (7, (1, 1)), (5, (1, 1)), (0, (4, 0)), (1, (4, 1)), (2, (0, 7 * x3)), (3, (1, 1))]) (stN := []) (hsC := jpA_147) (v := (9, 0)) (st2 := []) (jA_199_45 (d := 0)) (by rfl) (by rfl) (by decide +kernel) (by rfl) (by rfl) (by omega) (by omega) (by omega) (by omega) rfl ?_
  exact jT_ret rfl (by decide) (by show 16 ≤ 16; decide) (by omega) (by omega) ⟨rfl, rfl, rfl⟩
theorem jI_201_60 : jmI (jm 201) 60 = (.lconst 1, 1) := by rfl
theorem jA_201_83 {xs : List Int} {d : Nat} {x1 x2 x3 : Int} (h_x1 : 0 ≤ x1 ∧ x1 ≤ 7) (h_x2 : 0 ≤ x2 ∧ x2 ≤ 7) (h_x3 : 0 ≤ x3 ∧ x3 ≤ 7) : jT xs (d + 3) 201 24 0 [(0, (4, 0)), (1, (0, x1)), (2, (0, x2)), (3, (0, x3)), (4, (0, 0))] [] jpA_248 0 0 (fun k v hsN => k = 0 ∧ v = (0, 1) ∧ hsN = [jzA_200, (100, [], ((((((((((((((jS0).set ((7 * x1).toNat) 0)).set ((7 * x1 + 1).toNat) 0)).set ((7 * x1 + 2).toNat) 0)).set ((7 * x1 + 3).toNat) 0)).set ((7 * x1 + 4).toNat) 0)).set ((7 * x1 + 5).toNat) 0)).set ((7 * x1 + 6).toNat) 1)), (100, [], []), jzA_196, jzA_201, jgh, jgh, (101, [], [0, 0, 0, 0, 0, 0]), jgh, jgh, jgh, jgh, jgh, jgh, jgh, jgh, (100, [], jS0), jgh, jgh, jgh, jgh, jgh, jgh, jgh]) := by
  refine jT_xaload_n (v := (4, 0)) (pcN := 1) jI_201_0 rfl rfl rfl ?_
  refine jT_xiload_n (v := (0, x1)) (pcN := 2) jI_201_1 rfl rfl rfl ?_
  refine jT_fR [] 24 (y := 188) (pcN := 5) (dC := 1) (bc1 := 0) (bc2 := 0) (c1 := 0) (c2 := 0) (as := [(0, x1)]) (asC := [(0, x1)]) (LN := [(0, (4, 0)), (1, (0, x1)), (2, (0, x2)), (3, (0, x3)), (4, (0, 0))]) (stN := [(4, 0)]) (hsC := []) (v := (0, 1)) (st2 := [(0, 1), (4, 0)]) (jA_188_13 (d := 0) (by omega)) (by rfl) (by rfl) (by decide +kernel) (by rfl) (by rfl) (by omega) (by omega) (by omega) (by omega) rfl ?_
  refine jT_xifF (t := 26) (pcN := 8) jI_201_5 rfl (by decide +kernel) rfl rfl ?_
  refine jT_xiload_n (v := (0, x2)) (pcN := 9) jI_201_8 rfl rfl rfl ?_
  refine jT_fR [] 24 (y := 188) (pcN := 12) (dC := 1) (bc1 := 0) (bc2 := 0) (c1 := 0) (c2 := 0) (as := [(0, x2)]) (asC := [(0, x2)]) (LN := [(0, (4, 0)), (1, (0, x1)), (2, (0, x2)), (3, (0, x3)), (4, (0, 0))]) (stN := [(4, 0)]) (hsC := []) (v := (0, 1)) (st2 := [(0, 1), (4, 0)]) (jA_188_20 (d := 0) (by omega)) (by rfl) (by rfl) (by decide +kernel) (by rfl) (by rfl) (by omega) (by omega) (by omega) (by omega) rfl ?_
  refine jT_xifF (t := 26) (pcN := 15) jI_201_12 rfl (by decide +kernel) rfl rfl ?_
  refine jT_xiload_n (v := (0, x3)) (pcN := 16) jI_201_15 rfl rfl rfl ?_
  refine jT_fR [] 24 (y := 188) (pcN := 19) (dC := 1) (bc1 := 0) (bc2 := 0) (c1 := 0) (c2 := 0) (as := [(0, x3)]) (asC := [(0, x3)]) (LN := [(0, (4, 0)), (1, (0, x1)), (2, (0, x2)), (3, (0, x3)), (4, (0, 0))]) (stN := [(4, 0)]) (hsC := []) (v := (0, 1)) (st2 := [(0, 1), (4, 0)]) (jA_188_37 (d := 0) (by omega)) (by rfl) (by rfl) (by decide +kernel) (by rfl) (by rfl) (by omega) (by omega) (by omega) (by omega) rfl ?_
  refine jT_xifF (t := 26) (pcN := 22) jI_201_19 rfl (by decide +kernel) rfl rfl ?_
  refine jT_xiconst (k := 1) (pcN := 23) jI_201_22 rfl ?_
  refine jT_xgoto (pcN := 27) jI_201_23 rfl ?_
  refine jT_fR [0, 1, 2, 3, 4, 5, 6, 7, 8, 9, 10, 11, 12, 13, 14, 15] 24 (y := 190) (pcN := 30) (dC := 1) (bc1 := 0) (bc2 := 0) (c1 := 0) (c2 := 0) (as := [(4, 0), (0, 1)]) (asC := [(4, 0), (0, 1)]) (LN := [(0, (4, 0)), (1, (0, x1)), (2, (0, x2)), (3, (0, x3)), (4, (0, 0))]) (stN := []) (hsC := jpA_22) (v := (0, 0)) (st2 := [(0, 0)]) (jA_190_39 (d := 0)) (by rfl) (by rfl) (by decide +kernel) (by rfl) (by rfl) (by omega) (by omega) (by omega) (by omega) rfl ?_
  refine jT_xifT (pcN := 35) jI_201_30 rfl (by decide +kernel) rfl ?_
  refine jT_xaload_n (v := (4, 0)) (pcN := 36) jI_201_35 rfl rfl rfl ?_
  refine jT_xiload_n (v := (0, x2)) (pcN := 37) jI_201_36 rfl rfl rfl ?_
  refine jT_fR [0, 1, 2, 3, 4, 5, 6, 7, 8, 9, 10, 11, 12, 13, 14, 15] 24 (y := 202) (pcN := 40) (dC := 1) (bc1 := 0) (bc2 := 0) (c1 := 0) (c2 := 0) (as := [(4, 0), (0, x2)]) (asC := [(4, 0), (0, x2)]) (LN := [(0, (4, 0)), (1, (0, x1)), (2, (0, x2)), (3, (0, x3)), (4, (0, 0))]) (stN := []) (hsC := jpA_130) (v := (9, 0)) (st2 := []) (jA_202_41 (d := 0) (by omega)) (by rfl) (by rfl) (by decide +kernel) (by rfl) (by rfl) (by omega) (by omega) (by omega) (by omega) rfl ?_
  refine jT_xaload_n (v := (4, 0)) (pcN := 41) jI_201_40 rfl rfl rfl ?_
  refine jT_xaload_n (v := (4, 0)) (pcN := 42) jI_201_41 rfl rfl rfl ?_
  refine jT_xgetf (a := 0) (t := 1) (ci := 14) (fi := 1) (c := jzA_21) (v := (4, 1)) (pcN := 45) jI_201_42 rfl rfl rfl rfl rfl rfl rfl ?_
  refine jT_xbipush (k := 7) (pcN := 47) jI_201_45 (by decide) rfl ?_
  refine jT_xiload_n (v := (0, x3)) (pcN := 48) jI_201_47 rfl rfl rfl ?_
  refine jT_ximul (x := 7) (y := x3) (z := 7 * x3) (pcN := 49) jI_201_48 rfl (rfl) rfl ?_
  refine jT_xiload (v := (0, 0)) (pcN := 51) jI_201_49 rfl rfl rfl ?_
  refine jT_xifT (pcN := 60) jI_201_51 rfl (by decide +kernel) rfl ?_
  refine jT_xlconst (z := 1) (pcN := 61) jI_201_60 rfl rfl ?_
  refine jT_fR [0, 1, 2, 3, 4, 5, 6, 7, 8, 9, 10, 11, 12, 13, 14, 15] 24 (y := 204) (pcN := 64) (dC := 2) (bc1 := 0) (bc2 := 0) (c1 := 0) (c2 := 0) (as := [(4, 0), (4, 1), (0, 7 * x3), (1, 1)]) (asC := [(4, 0), (4, 1), (0, 7 * x3), (1, 1)]) (LN := [(0, (4, 0)), (1, (0, x1)), (2, (0, x2)), (3, (0, x3)), (4, (0, 0))]) (stN := []) (hsC := jpA_130) (v := (9, 0)) (st2 := []) (jA_204_82 (d := 0) (by omega)) (by rfl) (by rfl) (by decide +kernel) (by rfl) (by rfl) (by omega) (by omega) (by omega) (by omega) rfl ?_
  refine jT_xaload_n (v := (4, 0)) (pcN := 65) jI_201_64 rfl rfl rfl ?_
  refine jT_xaload_n (v := (4, 0)) (pcN := 66) jI_201_65 rfl rfl rfl ?_
  refine jT_fR [0, 1, 2, 3, 4, 5, 6, 7, 8, 9, 10, 11, 12, 13, 14, 15] 24 (y := 205) (pcN := 69) (dC := 1) (bc1 := 0) (bc2 := 0) (c1 := 0) (c2 := 0) (as := [(4, 0)]) (asC := [(4, 0)]) (LN := [(0, (4, 0)), (1, (0, x1)), (2, (0, x2)), (3, (0, x3)), (4, (0, 0))]) (stN := [(4, 0)]) (hsC := jpA_147) (v := (0, 1)) (st2 := [(0, 1), (4, 0)]) (jA_205_48 (d := 0)) (by rfl) (by rfl) (by decide +kernel) (by rfl) (by rfl) (by omega) (by omega) (by omega) (by omega) rfl ?_
  refine jT_xiconst (k := 2) (pcN := 70) jI_201_69 rfl ?_
  refine jT_fR [0] 24 (y := 191) (pcN := 73) (dC := 0) (bc1 := 0) (bc2 := 0) (c1 := 0) (c2 := 0) (as := [(4, 0), (0, 1), (0, 2)]) (asC := [(4, 0), (0, 1), (0, 2)]) (LN := [(0, (4, 0)), (1, (0, x1)), (2, (0, x2)), (3, (0, x3)), (4, (0, 0))]) (stN := []) (hsC := [jgh]) (v := (0, 0)) (st2 := [(0, 0)]) (jA_191_49 (d := 0)) (by rfl) (by rfl) (by decide +kernel) (by rfl) (by rfl) (by omega) (by omega) (by omega) (by omega) rfl ?_
  refine jT_xifT (pcN := 78) jI_201_73 rfl (by decide +kernel) rfl ?_
  refine jT_xaload_n (v := (4, 0)) (pcN := 79) jI_201_78 rfl rfl rfl ?_
  refine jT_fB [0, 1, 2, 3, 4, 5, 6, 7, 8, 9, 10, 11, 12, 13, 14, 15, 16, 17, 18, 19, 20, 21, 22, 23] 24 (y := 195) (pcN := 82) (dC := 0) (bc1 := 0) (bc2 := 0) (c1 := 0) (c2 := 0) (as := [(4, 0)]) (asC := [(4, 0)]) (LN := [(0, (4, 0)), (1, (0, x1)), (2, (0, x2)), (3, (0, x3)), (4, (0, 0))]) (stN := []) (hsC := jpA_198) (hsD := jpA_202) (v := (9, 0)) (st2 := []) (hs2 := jpA_255) (jA_195_50 (d := 0)) (by rfl) (by rfl) (by decide +kernel) (by rfl) (by rfl) (by omega) (by omega) (by omega) (by omega) rfl (by decide +kernel) ?_
  refine jT_xaload_n (v := (4, 0)) (pcN := 83) jI_201_82 rfl rfl rfl ?_
  refine jT_xiload_n (v := (0, x1)) (pcN := 84) jI_201_83 rfl rfl rfl ?_
  refine jT_fB [0, 1, 2, 3, 4, 5, 6, 7, 8, 9, 10, 11, 12, 13, 14, 15] 24 (y := 196) (pcN := 87) (dC := 1) (bc1 := 0) (bc2 := 0) (c1 := 0) (c2 := 0) (as := [(4, 0), (0, x1)]) (asC := [(4, 0), (0, x1)]) (LN := [(0, (4, 0)), (1, (0, x1)), (2, (0, x2)), (3, (0, x3)), (4, (0, 0))]) (stN := []) (hsC := jpA_216) (hsD := [jzA_200, (100, [], ((((((((((((((jS0).set ((7 * x1).toNat) 0)).set ((7 * x1 + 1).toNat) 0)).set ((7 * x1 + 2).toNat) 0)).set ((7 * x1 + 3).toNat) 0)).set ((7 * x1 + 4).toNat) 0)).set ((7 * x1 + 5).toNat) 0)).set ((7 * x1 + 6).toNat) 1)), jgh, jgh, jgh, jgh, jgh, (101, [], [0, 0, 0, 0, 0, 0]), jgh, jgh, jgh, jgh, jgh, jgh, jgh, jgh]) (v := (0, 1)) (st2 := [(0, 1)]) (hs2 := [jzA_200, (100, [], ((((((((((((((jS0).set ((7 * x1).toNat) 0)).set ((7 * x1 + 1).toNat) 0)).set ((7 * x1 + 2).toNat) 0)).set ((7 * x1 + 3).toNat) 0)).set ((7 * x1 + 4).toNat) 0)).set ((7 * x1 + 5).toNat) 0)).set ((7 * x1 + 6).toNat) 1)), (100, [], []), jzA_196, jzA_201, jgh, jgh, (101, [], [0, 0, 0, 0, 0, 0]), jgh, jgh, jgh, jgh, jgh, jgh, jgh, jgh, (100, [], jS0), jgh, jgh, jgh, jgh, jgh, jgh, jgh]) (jA_196_52 (d := 0) (by omega)) (by rfl) (by rfl) (by decide +kernel) (by rfl) (by rfl) (by omega) (by omega) (by omega) (by omega) rfl rfl ?_
  exact jT_ret rfl (by decide) (by show 24 ≤ 24; decide) (by omega) (by omega) ⟨rfl, rfl, rfl⟩
theorem jA_119_84 {xs : List Int} {d : Nat} {x1 x2 x3 : Int} (h_x1 : 0 ≤ x1 ∧ x1 ≤ 7) (h_x2 : 0 ≤ x2 ∧ x2 ≤ 7) (h_x3 : 8 ≤ x3 ∧ x3 ≤ 2147483647) : jT xs (d + 1) 119 12 0 [(0, (4, 0)), (1, (0, x1)), (2, (0, x2)), (3, (0, x3)), (4, (0, 0))] [] jpA_6 1 6 (fun k v hsN => k = 1 ∧ v = (0, 0) ∧ hsN = jpA_6 ++ []) := by
  refine jT_xaload_n (v := (4, 0)) (pcN := 1) jI_119_0 rfl rfl rfl ?_
  refine jT_xiload_n (v := (0, x1)) (pcN := 2) jI_119_1 rfl rfl rfl ?_
  refine jT_xbipush (k := 8) (pcN := 4) jI_119_2 (by decide) rfl ?_
  refine jT_fR [0] 12 (y := 115) (pcN := 7) (dC := 0) (bc1 := 0) (bc2 := 0) (c1 := 1) (c2 := 6) (as := [(4, 0), (0, x1), (0, 8)]) (asC := [(4, 0), (0, x1), (0, 8)]) (LN := [(0, (4, 0)), (1, (0, x1)), (2, (0, x2)), (3, (0, x3)), (4, (0, 0))]) (stN := []) (hsC := [jgh]) (v := (9, 0)) (st2 := []) (jA_115_9 (d := 0) (by omega)) (by rfl) (by rfl) (by decide +kernel) (by rfl) (by rfl) (by omega) (by omega) (by omega) (by omega) rfl ?_
  refine jT_xaload_n (v := (4, 0)) (pcN := 8) jI_119_7 rfl rfl rfl ?_
  refine jT_xiload_n (v := (0, x2)) (pcN := 9) jI_119_8 rfl rfl rfl ?_
  refine jT_xbipush (k := 8) (pcN := 11) jI_119_9 (by decide) rfl ?_
  refine jT_fR [0] 12 (y := 115) (pcN := 14) (dC := 0) (bc1 := 0) (bc2 := 0) (c1 := 1) (c2 := 6) (as := [(4, 0), (0, x2), (0, 8)]) (asC := [(4, 0), (0, x2), (0, 8)]) (LN := [(0, (4, 0)), (1, (0, x1)), (2, (0, x2)), (3, (0, x3)), (4, (0, 0))]) (stN := []) (hsC := [jgh]) (v := (9, 0)) (st2 := []) (jA_115_16 (d := 0) (by omega)) (by rfl) (by rfl) (by decide +kernel) (by rfl) (by rfl) (by omega) (by omega) (by omega) (by omega) rfl ?_
  refine jT_xaload_n (v := (4, 0)) (pcN := 15) jI_119_14 rfl rfl rfl ?_
  refine jT_xiload_n (v := (0, x3)) (pcN := 16) jI_119_15 rfl rfl rfl ?_
  refine jT_xbipush (k := 8) (pcN := 18) jI_119_16 (by decide) rfl ?_
  exact jT_fX [0] 12 (y := 115) (pcN := 21) (dC := 0) (bc1 := 1) (bc2 := 6) (as := [(4, 0), (0, x3), (0, 8)]) (asC := [(4, 0), (0, x3), (0, 8)]) (LN := [(0, (4, 0)), (1, (0, x1)), (2, (0, x2)), (3, (0, x3)), (4, (0, 0))]) (stN := []) (hsC := [jgh]) (e := 0) (jA_115_55 (d := 0) (by omega)) (by rfl) (by rfl) (by decide +kernel) (by rfl) (by rfl) (by omega) (by omega) (by omega) (by omega) ⟨rfl, ⟨rfl, rfl, rfl⟩⟩
theorem jA_328_85 {xs : List Int} {d : Nat} {x1 x2 x3 : Int} (h_x1 : 0 ≤ x1 ∧ x1 ≤ 7) (h_x2 : 0 ≤ x2 ∧ x2 ≤ 7) (h_x3 : 8 ≤ x3 ∧ x3 ≤ 2147483647) : jT xs (d + 2) 328 13 0 [(0, (4, 0)), (1, (0, x1)), (2, (0, x2)), (3, (0, x3)), (4, (0, 0)), (5, (4, 1))] [] jpA_15 1 6 (fun k v hsN => k = 0 ∧ v = (0, 1) ∧ hsN = jpA_15 ++ []) := by
  refine jT_xaload (v := (4, 1)) (pcN := 2) jI_328_0 rfl rfl rfl ?_
  refine jT_xiconst (k := 0) (pcN := 3) jI_328_2 rfl ?_
  refine jT_xaload_n (v := (4, 0)) (pcN := 4) jI_328_3 rfl rfl rfl ?_
  refine jT_xiload_n (v := (0, x1)) (pcN := 5) jI_328_4 rfl rfl rfl ?_
  refine jT_xiload_n (v := (0, x2)) (pcN := 6) jI_328_5 rfl rfl rfl ?_
  refine jT_xiload_n (v := (0, x3)) (pcN := 7) jI_328_6 rfl rfl rfl ?_
  refine jT_xiload (v := (0, 0)) (pcN := 9) jI_328_7 rfl rfl rfl ?_
  exact jT_fX [0, 2, 3, 4, 5, 6, 7, 8, 9, 10, 11, 12] 13 (y := 119) (pcN := 12) (dC := 1) (bc1 := 1) (bc2 := 6) (as := [(4, 0), (0, x1), (0, x2), (0, x3), (0, 0)]) (asC := [(4, 0), (0, x1), (0, x2), (0, x3), (0, 0)]) (LN := [(0, (4, 0)), (1, (0, x1)), (2, (0, x2)), (3, (0, x3)), (4, (0, 0)), (5, (4, 1))]) (stN := [(0, 0), (4, 1)]) (hsC := jpA_6) (e := 0) (jA_119_84 (d := 0) (by omega) (by omega) (by omega)) (by rfl) (by rfl) (by decide +kernel) (by rfl) (by rfl) (by omega) (by omega) (by omega) (by omega) (show _ from ⟨rfl, rfl, rfl⟩)
theorem jA_201_86 {xs : List Int} {d : Nat} {x1 x2 x3 : Int} (h_x1 : 0 ≤ x1 ∧ x1 ≤ 7) (h_x2 : 0 ≤ x2 ∧ x2 ≤ 7) (h_x3 : 8 ≤ x3 ∧ x3 ≤ 2147483647) : jT xs (d + 2) 201 16 0 [(0, (4, 0)), (1, (0, x1)), (2, (0, x2)), (3, (0, x3)), (4, (0, 0))] [] jpA_22 0 0 (fun k v hsN => k = 0 ∧ v = (0, 0) ∧ hsN = jpA_20) := by
  refine jT_xaload_n (v := (4, 0)) (pcN := 1) jI_201_0 rfl rfl rfl ?_
  refine jT_xiload_n (v := (0, x1)) (pcN := 2) jI_201_1 rfl rfl rfl ?_
  refine jT_fR [] 16 (y := 188) (pcN := 5) (dC := 1) (bc1 := 0) (bc2 := 0) (c1 := 0) (c2 := 0) (as := [(0, x1)]) (asC := [(0, x1)]) (LN := [(0, (4, 0)), (1, (0, x1)), (2, (0, x2)), (3, (0, x3)), (4, (0, 0))]) (stN := [(4, 0)]) (hsC := []) (v := (0, 1)) (st2 := [(0, 1), (4, 0)]) (jA_188_13 (d := 0) (by omega)) (by rfl) (by rfl) (by decide +kernel) (by rfl) (by rfl) (by omega) (by omega) (by omega) (by omega) rfl ?_
  refine jT_xifF (t := 26) (pcN := 8) jI_201_5 rfl (by decide +kernel) rfl rfl ?_
  refine jT_xiload_n (v := (0, x2)) (pcN := 9) jI_201_8 rfl rfl rfl ?_
  refine jT_fR [] 16 (y := 188) (pcN := 12) (dC := 1) (bc1 := 0) (bc2 := 0) (c1 := 0) (c2 := 0) (as := [(0, x2)]) (asC := [(0, x2)]) (LN := [(0, (4, 0)), (1, (0, x1)), (2, (0, x2)), (3, (0, x3)), (4, (0, 0))]) (stN := [(4, 0)]) (hsC := []) (v := (0, 1)) (st2 := [(0, 1), (4, 0)]) (jA_188_20 (d := 0) (by omega)) (by rfl) (by rfl) (by decide +kernel) (by rfl) (by rfl) (by omega) (by omega) (by omega) (by omega) rfl ?_
  refine jT_xifF (t := 26) (pcN := 15) jI_201_12 rfl (by decide +kernel) rfl rfl ?_
  refine jT_xiload_n (v := (0, x3)) (pcN := 16) jI_201_15 rfl rfl rfl ?_
  refine jT_fR [] 16 (y := 188) (pcN := 19) (dC := 1) (bc1 := 0) (bc2 := 0) (c1 := 0) (c2 := 0) (as := [(0, x3)]) (asC := [(0, x3)]) (LN := [(0, (4, 0)), (1, (0, x1)), (2, (0, x2)), (3, (0, x3)), (4, (0, 0))]) (stN := [(4, 0)]) (hsC := []) (v := (0, 0)) (st2 := [(0, 0), (4, 0)]) (jA_188_58 (d := 0) (by omega)) (by rfl) (by rfl) (by decide +kernel) (by rfl) (by rfl) (by omega) (by omega) (by omega) (by omega) rfl ?_
  refine jT_xifT (pcN := 26) jI_201_19 rfl (by decide +kernel) rfl ?_
  refine jT_xiconst (k := 0) (pcN := 27) jI_201_26 rfl ?_
  refine jT_fB [0, 1, 2, 3, 4, 5, 6, 7, 8, 9, 10, 11, 12, 13, 14, 15] 16 (y := 190) (pcN := 30) (dC := 1) (bc1 := 0) (bc2 := 0) (c1 := 0) (c2 := 0) (as := [(4, 0), (0, 0)]) (asC := [(4, 0), (0, 0)]) (LN := [(0, (4, 0)), (1, (0, x1)), (2, (0, x2)), (3, (0, x3)), (4, (0, 0))]) (stN := []) (hsC := jpA_22) (hsD := jpA_20) (v := (0, 1)) (st2 := [(0, 1)]) (hs2 := jpA_20) (jA_190_6 (d := 0)) (by rfl) (by rfl) (by decide +kernel) (by rfl) (by rfl) (by omega) (by omega) (by omega) (by omega) rfl (by decide +kernel) ?_
  refine jT_xifF (t := 35) (pcN := 33) jI_201_30 rfl (by decide +kernel) rfl rfl ?_
  refine jT_xiconst (k := 0) (pcN := 34) jI_201_33 rfl ?_
  exact jT_ret rfl (by decide) (by show 16 ≤ 16; decide) (by omega) (by omega) ⟨rfl, rfl, rfl⟩
theorem jA_119_87 {xs : List Int} {d : Nat} {x1 x2 x3 : Int} (h_x1 : 0 ≤ x1 ∧ x1 ≤ 7) (h_x2 : 8 ≤ x2 ∧ x2 ≤ 2147483647) (h_x3 : (-2147483648) ≤ x3 ∧ x3 ≤ 2147483647) : jT xs (d + 1) 119 12 0 [(0, (4, 0)), (1, (0, x1)), (2, (0, x2)), (3, (0, x3)), (4, (0, 0))] [] jpA_6 1 6 (fun k v hsN => k = 1 ∧ v = (0, 0) ∧ hsN = jpA_6 ++ []) := by
  refine jT_xaload_n (v := (4, 0)) (pcN := 1) jI_119_0 rfl rfl rfl ?_
  refine jT_xiload_n (v := (0, x1)) (pcN := 2) jI_119_1 rfl rfl rfl ?_
  refine jT_xbipush (k := 8) (pcN := 4) jI_119_2 (by decide) rfl ?_
  refine jT_fR [0] 12 (y := 115) (pcN := 7) (dC := 0) (bc1 := 0) (bc2 := 0) (c1 := 1) (c2 := 6) (as := [(4, 0), (0, x1), (0, 8)]) (asC := [(4, 0), (0, x1), (0, 8)]) (LN := [(0, (4, 0)), (1, (0, x1)), (2, (0, x2)), (3, (0, x3)), (4, (0, 0))]) (stN := []) (hsC := [jgh]) (v := (9, 0)) (st2 := []) (jA_115_9 (d := 0) (by omega)) (by rfl) (by rfl) (by decide +kernel) (by rfl) (by rfl) (by omega) (by omega) (by omega) (by omega) rfl ?_
  refine jT_xaload_n (v := (4, 0)) (pcN := 8) jI_119_7 rfl rfl rfl ?_
  refine jT_xiload_n (v := (0, x2)) (pcN := 9) jI_119_8 rfl rfl rfl ?_
  refine jT_xbipush (k := 8) (pcN := 11) jI_119_9 (by decide) rfl ?_
  exact jT_fX [0] 12 (y := 115) (pcN := 14) (dC := 0) (bc1 := 1) (bc2 := 6) (as := [(4, 0), (0, x2), (0, 8)]) (asC := [(4, 0), (0, x2), (0, 8)]) (LN := [(0, (4, 0)), (1, (0, x1)), (2, (0, x2)), (3, (0, x3)), (4, (0, 0))]) (stN := []) (hsC := [jgh]) (e := 0) (jA_115_60 (d := 0) (by omega)) (by rfl) (by rfl) (by decide +kernel) (by rfl) (by rfl) (by omega) (by omega) (by omega) (by omega) ⟨rfl, ⟨rfl, rfl, rfl⟩⟩
theorem jA_328_88 {xs : List Int} {d : Nat} {x1 x2 x3 : Int} (h_x1 : 0 ≤ x1 ∧ x1 ≤ 7) (h_x2 : 8 ≤ x2 ∧ x2 ≤ 2147483647) (h_x3 : (-2147483648) ≤ x3 ∧ x3 ≤ 2147483647) : jT xs (d + 2) 328 13 0 [(0, (4, 0)), (1, (0, x1)), (2, (0, x2)), (3, (0, x3)), (4, (0, 0)), (5, (4, 1))] [] jpA_15 1 6 (fun k v hsN => k = 0 ∧ v = (0, 1) ∧ hsN = jpA_15 ++ []) := by
  refine jT_xaload (v := (4, 1)) (pcN := 2) jI_328_0 rfl rfl rfl ?_
  refine jT_xiconst (k := 0) (pcN := 3) jI_328_2 rfl ?_
  refine jT_xaload_n (v := (4, 0)) (pcN := 4) jI_328_3 rfl rfl rfl ?_
  refine jT_xiload_n (v := (0, x1)) (pcN := 5) jI_328_4 rfl rfl rfl ?_
  refine jT_xiload_n (v := (0, x2)) (pcN := 6) jI_328_5 rfl rfl rfl ?_
  refine jT_xiload_n (v := (0, x3)) (pcN := 7) jI_328_6 rfl rfl rfl ?_
  refine jT_xiload (v := (0, 0)) (pcN := 9) jI_328_7 rfl rfl rfl ?_
  exact jT_fX [0, 2, 3, 4, 5, 6, 7, 8, 9, 10, 11, 12] 13 (y := 119) (pcN := 12) (dC := 1) (bc1 := 1) (bc2 := 6) (as := [(4, 0), (0, x1), (0, x2), (0, x3), (0, 0)]) (asC := [(4, 0), (0, x1), (0, x2), (0, x3), (0, 0)]) (LN := [(0, (4, 0)), (1, (0, x1)), (2, (0, x2)), (3, (0, x3)), (4, (0, 0)), (5, (4, 1))]) (stN := [(0, 0), (4, 1)]) (hsC := jpA_6) (e := 0) (jA_119_87 (d := 0) (by omega) (by omega) (by omega)) (by rfl) (by rfl) (by decide +kernel) (by rfl) (by rfl) (by omega) (by omega) (by omega) (by omega) (show _ from ⟨rfl, rfl, rfl⟩)
theorem jA_201_89 {xs : List Int} {d : Nat} {x1 x2 x3 : Int} (h_x1 : 0 ≤ x1 ∧ x1 ≤ 7) (h_x2 : 8 ≤ x2 ∧ x2 ≤ 2147483647) (h_x3 : (-2147483648) ≤ x3 ∧ x3 ≤ 2147483647) : jT xs (d + 2) 201 16 0 [(0, (4, 0)), (1, (0, x1)), (2, (0, x2)), (3, (0, x3)), (4, (0, 0))] [] jpA_22 0 0 (fun k v hsN => k = 0 ∧ v = (0, 0) ∧ hsN = jpA_20) := by
  refine jT_xaload_n (v := (4, 0)) (pcN := 1) jI_201_0 rfl rfl rfl ?_
  refine jT_xiload_n (v := (0, x1)) (pcN := 2) jI_201_1 rfl rfl rfl ?_
  refine jT_fR [] 16 (y := 188) (pcN := 5) (dC := 1) (bc1 := 0) (bc2 := 0) (c1 := 0) (c2 := 0) (as := [(0, x1)]) (asC := [(0, x1)]) (LN := [(0, (4, 0)), (1, (0, x1)), (2, (0, x2)), (3, (0, x3)), (4, (0, 0))]) (stN := [(4, 0)]) (hsC := []) (v := (0, 1)) (st2 := [(0, 1), (4, 0)]) (jA_188_13 (d := 0) (by omega)) (by rfl) (by rfl) (by decide +kernel) (by rfl) (by rfl) (by omega) (by omega) (by omega) (by omega) rfl ?_
  refine jT_xifF (t := 26) (pcN := 8) jI_201_5 rfl (by decide +kernel) rfl rfl ?_
  refine jT_xiload_n (v := (0, x2)) (pcN := 9) jI_201_8 rfl rfl rfl ?_
  refine jT_fR [] 16 (y := 188) (pcN := 12) (dC := 1) (bc1 := 0) (bc2 := 0) (c1 := 0) (c2 := 0) (as := [(0, x2)]) (asC := [(0, x2)]) (LN := [(0, (4, 0)), (1, (0, x1)), (2, (0, x2)), (3, (0, x3)), (4, (0, 0))]) (stN := [(4, 0)]) (hsC := []) (v := (0, 0)) (st2 := [(0, 0), (4, 0)]) (jA_188_63 (d := 0) (by omega)) (by rfl) (by rfl) (by decide +kernel) (by rfl) (by rfl) (by omega) (by omega) (by omega) (by omega) rfl ?_
  refine jT_xifT (pcN := 26) jI_201_12 rfl (by decide +kernel) rfl ?_
  refine jT_xiconst (k := 0) (pcN := 27) jI_201_26 rfl ?_
  refine jT_fB [0, 1, 2, 3, 4, 5, 6, 7, 8, 9, 10, 11, 12, 13, 14, 15] 16 (y := 190) (pcN := 30) (dC := 1) (bc1 := 0) (bc2 := 0) (c1 := 0) (c2 := 0) (as := [(4, 0), (0, 0)]) (asC := [(4, 0), (0, 0)]) (LN := [(0, (4, 0)), (1, (0, x1)), (2, (0, x2)), (3, (0, x3)), (4, (0, 0))]) (stN := []) (hsC := jpA_22) (hsD := jpA_20) (v := (0, 1)) (st2 := [(0, 1)]) (hs2 := jpA_20) (jA_190_6 (d := 0)) (by rfl) (by rfl) (by decide +kernel) (by rfl) (by rfl) (by omega) (by omega) (by omega) (by omega) rfl (by decide +kernel) ?_
  refine jT_xifF (t := 35) (pcN := 33) jI_201_30 rfl (by decide +kernel) rfl rfl ?_
  refine jT_xiconst (k := 0) (pcN := 34) jI_201_33 rfl ?_
  exact jT_ret rfl (by decide) (by show 16 ≤ 16; decide) (by omega) (by omega) ⟨rfl, rfl, rfl⟩
theorem jA_119_90 {xs : List Int} {d : Nat} {x1 x2 x3 : Int} (h_x1 : 8 ≤ x1 ∧ x1 ≤ 2147483647) (h_x2 : (-2147483648) ≤ x2 ∧ x2 ≤ 2147483647) (h_x3 : (-2147483648) ≤ x3 ∧ x3 ≤ 2147483647) : jT xs (d + 1) 119 12 0 [(0, (4, 0)), (1, (0, x1)), (2, (0, x2)), (3, (0, x3)), (4, (0, 0))] [] jpA_6 1 6 (fun k v hsN => k = 1 ∧ v = (0, 0) ∧ hsN = jpA_6 ++ []) := by
  refine jT_xaload_n (v := (4, 0)) (pcN := 1) jI_119_0 rfl rfl rfl ?_
  refine jT_xiload_n (v := (0, x1)) (pcN := 2) jI_119_1 rfl rfl rfl ?_
  refine jT_xbipush (k := 8) (pcN := 4) jI_119_2 (by decide) rfl ?_
  exact jT_fX [0] 12 (y := 115) (pcN := 7) (dC := 0) (bc1 := 1) (bc2 := 6) (as := [(4, 0), (0, x1), (0, 8)]) (asC := [(4, 0), (0, x1), (0, 8)]) (LN := [(0, (4, 0)), (1, (0, x1)), (2, (0, x2)), (3, (0, x3)), (4, (0, 0))]) (stN := []) (hsC := [jgh]) (e := 0) (jA_115_65 (d := 0) (by omega)) (by rfl) (by rfl) (by decide +kernel) (by rfl) (by rfl) (by omega) (by omega) (by omega) (by omega) ⟨rfl, ⟨rfl, rfl, rfl⟩⟩
theorem jA_328_91 {xs : List Int} {d : Nat} {x1 x2 x3 : Int} (h_x1 : 8 ≤ x1 ∧ x1 ≤ 2147483647) (h_x2 : (-2147483648) ≤ x2 ∧ x2 ≤ 2147483647) (h_x3 : (-2147483648) ≤ x3 ∧ x3 ≤ 2147483647) : jT xs (d + 2) 328 13 0 [(0, (4, 0)), (1, (0, x1)), (2, (0, x2)), (3, (0, x3)), (4, (0, 0)), (5, (4, 1))] [] jpA_15 1 6 (fun k v hsN => k = 0 ∧ v = (0, 1) ∧ hsN = jpA_15 ++ []) := by
  refine jT_xaload (v := (4, 1)) (pcN := 2) jI_328_0 rfl rfl rfl ?_
  refine jT_xiconst (k := 0) (pcN := 3) jI_328_2 rfl ?_
  refine jT_xaload_n (v := (4, 0)) (pcN := 4) jI_328_3 rfl rfl rfl ?_
  refine jT_xiload_n (v := (0, x1)) (pcN := 5) jI_328_4 rfl rfl rfl ?_
  refine jT_xiload_n (v := (0, x2)) (pcN := 6) jI_328_5 rfl rfl rfl ?_
  refine jT_xiload_n (v := (0, x3)) (pcN := 7) jI_328_6 rfl rfl rfl ?_
  refine jT_xiload (v := (0, 0)) (pcN := 9) jI_328_7 rfl rfl rfl ?_
  exact jT_fX [0, 2, 3, 4, 5, 6, 7, 8, 9, 10, 11, 12] 13 (y := 119) (pcN := 12) (dC := 1) (bc1 := 1) (bc2 := 6) (as := [(4, 0), (0, x1), (0, x2), (0, x3), (0, 0)]) (asC := [(4, 0), (0, x1), (0, x2), (0, x3), (0, 0)]) (LN := [(0, (4, 0)), (1, (0, x1)), (2, (0, x2)), (3, (0, x3)), (4, (0, 0)), (5, (4, 1))]) (stN := [(0, 0), (4, 1)]) (hsC := jpA_6) (e := 0) (jA_119_90 (d := 0) (by omega) (by omega) (by omega)) (by rfl) (by rfl) (by decide +kernel) (by rfl) (by rfl) (by omega) (by omega) (by omega) (by omega) (show _ from ⟨rfl, rfl, rfl⟩)
theorem jA_201_92 {xs : List Int} {d : Nat} {x1 x2 x3 : Int} (h_x1 : 8 ≤ x1 ∧ x1 ≤ 2147483647) (h_x2 : (-2147483648) ≤ x2 ∧ x2 ≤ 2147483647) (h_x3 : (-2147483648) ≤ x3 ∧ x3 ≤ 2147483647) : jT xs (d + 2) 201 16 0 [(0, (4, 0)), (1, (0, x1)), (2, (0, x2)), (3, (0, x3)), (4, (0, 0))] [] jpA_22 0 0 (fun k v hsN => k = 0 ∧ v = (0, 0) ∧ hsN = jpA_20) := by
  refine jT_xaload_n (v := (4, 0)) (pcN := 1) jI_201_0 rfl rfl rfl ?_
  refine jT_xiload_n (v := (0, x1)) (pcN := 2) jI_201_1 rfl rfl rfl ?_
  refine jT_fR [] 16 (y := 188) (pcN := 5) (dC := 1) (bc1 := 0) (bc2 := 0) (c1 := 0) (c2 := 0) (as := [(0, x1)]) (asC := [(0, x1)]) (LN := [(0, (4, 0)), (1, (0, x1)), (2, (0, x2)), (3, (0, x3)), (4, (0, 0))]) (stN := [(4, 0)]) (hsC := []) (v := (0, 0)) (st2 := [(0, 0), (4, 0)]) (jA_188_68 (d := 0) (by omega)) (by rfl) (by rfl) (by decide +kernel) (by rfl) (by rfl) (by omega) (by omega) (by omega) (by omega) rfl ?_
  refine jT_xifT (pcN := 26) jI_201_5 rfl (by decide +kernel) rfl ?_
  refine jT_xiconst (k := 0) (pcN := 27) jI_201_26 rfl ?_
  refine jT_fB [0, 1, 2, 3, 4, 5, 6, 7, 8, 9, 10, 11, 12, 13, 14, 15] 16 (y := 190) (pcN := 30) (dC := 1) (bc1 := 0) (bc2 := 0) (c1 := 0) (c2 := 0) (as := [(4, 0), (0, 0)]) (asC := [(4, 0), (0, 0)]) (LN := [(0, (4, 0)), (1, (0, x1)), (2, (0, x2)), (3, (0, x3)), (4, (0, 0))]) (stN := []) (hsC := jpA_22) (hsD := jpA_20) (v := (0, 1)) (st2 := [(0, 1)]) (hs2 := jpA_20) (jA_190_6 (d := 0)) (by rfl) (by rfl) (by decide +kernel) (by rfl) (by rfl) (by omega) (by omega) (by omega) (by omega) rfl (by decide +kernel) ?_
  refine jT_xifF (t := 35) (pcN := 33) jI_201_30 rfl (by decide +kernel) rfl rfl ?_
  refine jT_xiconst (k := 0) (pcN := 34) jI_201_33 rfl ?_
  exact jT_ret rfl (by decide) (by show 16 ≤ 16; decide) (by omega) (by omega) ⟨rfl, rfl, rfl⟩
theorem jI_379_443 : jmI (jm 379) 443 = (.aload_n 1, 1) := by rfl
theorem jI_379_444 : jmI (jm 379) 444 = (.aload_n 0, 1) := by rfl
theorem jI_379_445 : jmI (jm 379) 445 = (.iload 5, 2) := by rfl
theorem jI_379_447 : jmI (jm 379) 447 = (.iconst 1, 1) := by rfl
theorem jI_379_448 : jmI (jm 379) 448 = (.iadd, 1) := by rfl
def jzA_265 : JC := (13, [(4, 4), (4, 5), (4, 6), (4, 7), (4, 8), (4, 9), (4, 10), (4, 11), (4, 12), (4, 13), (0, 0), (4, 14), (0, 0)], [])
def jzA_266 : JC := (14, [(0, 0), (4, 15), (4, 16), (4, 17), (4, 18), (0, 0), (4, 19), (0, 0), (4, 20), (4, 21), (1, 1), (4, 22), (0, 0), (4, 23), (0, 0), (0, 0), (0, 0), (0, 0), (0, 0), (0, 0), (0, 0), (4, 24), (4, 25), (4, 26), (4, 27), (4, 28), (4, 29), (0, 0)], [])
def jpA_267 : List JC := [jzA_265, jzA_266, jgh, jgh, jgh, jgh, jgh, jgh, jgh, jgh, jgh, jgh, jgh, jgh, jgh, jgh, jgh, jgh, jgh, jgh, jgh, jgh, jgh, jgh, jgh, jgh, jgh, jgh, jgh, jgh]
theorem jI_379_450 : jmI (jm 379) 450 = (.aload_n 0, 1) := by rfl
theorem jI_379_451 : jmI (jm 379) 451 = (.iload 5, 2) := by rfl
theorem jI_379_453 : jmI (jm 379) 453 = (.iconst 2, 1) := by rfl
theorem jI_379_454 : jmI (jm 379) 454 = (.iadd, 1) := by rfl
theorem jI_379_456 : jmI (jm 379) 456 = (.aload_n 0, 1) := by rfl
theorem jI_379_457 : jmI (jm 379) 457 = (.iload 5, 2) := by rfl
theorem jI_379_459 : jmI (jm 379) 459 = (.iconst 3, 1) := by rfl
theorem jI_379_460 : jmI (jm 379) 460 = (.iadd, 1) := by rfl
theorem jI_379_462 : jmI (jm 379) 462 = (.aload_n 0, 1) := by rfl
theorem jI_379_463 : jmI (jm 379) 463 = (.iload 5, 2) := by rfl
theorem jI_379_465 : jmI (jm 379) 465 = (.iconst 4, 1) := by rfl
theorem jI_379_466 : jmI (jm 379) 466 = (.iadd, 1) := by rfl
theorem jI_379_468 : jmI (jm 379) 468 = (.ifCond .eq 7, 3) := by rfl
theorem jI_379_471 : jmI (jm 379) 471 = (.iconst 1, 1) := by rfl
theorem jI_379_472 : jmI (jm 379) 472 = (.goto 4, 3) := by rfl
theorem jI_379_476 : jmI (jm 379) 476 = (.aload_n 3, 1) := by rfl
theorem jI_379_480 : jmI (jm 379) 480 = (.istore 6, 2) := by rfl
theorem jI_379_482 : jmI (jm 379) 482 = (.aload_n 2, 1) := by rfl
theorem jI_379_483 : jmI (jm 379) 483 = (.aload_n 0, 1) := by rfl
theorem jI_379_484 : jmI (jm 379) 484 = (.iload 5, 2) := by rfl
theorem jI_379_486 : jmI (jm 379) 486 = (.iconst 1, 1) := by rfl
theorem jI_379_487 : jmI (jm 379) 487 = (.iadd, 1) := by rfl
theorem jI_379_489 : jmI (jm 379) 489 = (.aload_n 0, 1) := by rfl
theorem jI_379_490 : jmI (jm 379) 490 = (.iload 5, 2) := by rfl
theorem jI_379_492 : jmI (jm 379) 492 = (.iconst 2, 1) := by rfl
theorem jI_379_493 : jmI (jm 379) 493 = (.iadd, 1) := by rfl
theorem jI_379_495 : jmI (jm 379) 495 = (.aload_n 0, 1) := by rfl
theorem jI_379_496 : jmI (jm 379) 496 = (.iload 5, 2) := by rfl
theorem jI_379_498 : jmI (jm 379) 498 = (.iconst 3, 1) := by rfl
theorem jI_379_499 : jmI (jm 379) 499 = (.iadd, 1) := by rfl
theorem jI_379_501 : jmI (jm 379) 501 = (.aload_n 0, 1) := by rfl
theorem jI_379_502 : jmI (jm 379) 502 = (.iload 5, 2) := by rfl
theorem jI_379_504 : jmI (jm 379) 504 = (.iconst 4, 1) := by rfl
theorem jI_379_505 : jmI (jm 379) 505 = (.iadd, 1) := by rfl
theorem jI_379_507 : jmI (jm 379) 507 = (.ifCond .eq 7, 3) := by rfl
theorem jI_379_510 : jmI (jm 379) 510 = (.iconst 1, 1) := by rfl
theorem jI_379_511 : jmI (jm 379) 511 = (.goto 4, 3) := by rfl
def jzA_305 : JC := (14, [(0, 1), (4, 15), (4, 16), (4, 17), (4, 18), (0, 0), (4, 19), (0, 0), (4, 20), (4, 21), (1, 1), (4, 22), (0, 0), (4, 23), (0, 0), (0, 0), (0, 0), (0, 0), (0, 0), (0, 0), (0, 0), (4, 24), (4, 25), (4, 26), (4, 27), (4, 28), (4, 29), (0, 0)], [])
def jpA_306 : List JC := [jzA_265, jzA_305, jgh, jgh, jgh, jgh, jgh, jgh, jgh, jgh, jgh, jgh, jgh, jgh, jgh, jgh, jgh, jgh, jgh, jgh, jgh, jgh, jgh, jgh, jgh, jgh, jgh, jgh, jgh, jgh]
theorem jI_379_518 : jmI (jm 379) 518 = (.istore 7, 2) := by rfl
theorem jI_379_520 : jmI (jm 379) 520 = (.aload_n 2, 1) := by rfl
theorem jI_379_524 : jmI (jm 379) 524 = (.iload 6, 2) := by rfl
theorem jI_379_526 : jmI (jm 379) 526 = (.if_icmp .eq 5, 3) := by rfl
theorem jI_379_531 : jmI (jm 379) 531 = (.iload 6, 2) := by rfl
theorem jI_379_533 : jmI (jm 379) 533 = (.ifCond .ne 15, 3) := by rfl
theorem jI_379_548 : jmI (jm 379) 548 = (.goto 3192, 3) := by rfl
theorem jI_379_3740 : jmI (jm 379) 3740 = (.iinc 5 5, 3) := by rfl
theorem jI_379_3743 : jmI (jm 379) 3743 = (.goto (-3715), 3) := by rfl
theorem jI_379_28 : jmI (jm 379) 28 = (.iload 5, 2) := by rfl
theorem jI_379_30 : jmI (jm 379) 30 = (.aload_n 0, 1) := by rfl
theorem jI_379_32 : jmI (jm 379) 32 = (.iconst 5, 1) := by rfl
theorem jI_379_33 : jmI (jm 379) 33 = (.isub, 1) := by rfl
theorem jI_379_34 : jmI (jm 379) 34 = (.if_icmp .gt 3712, 3) := by rfl
theorem jI_379_3746 : jmI (jm 379) 3746 = (.iconst 1, 1) := by rfl
set_option maxRecDepth 100000 in
theorem jL_2_0 {d : Nat} {x0 x1 x2 x3 x4 : Int} (h_x0 : (-2147483648) ≤ x0 ∧ x0 ≤ 2147483647) (h_x1 : (-2147483648) ≤ x1 ∧ x1 ≤ (-1)) (h_x2 : (-2147483648) ≤ x2 ∧ x2 ≤ 2147483647) (h_x3 : (-2147483648) ≤ x3 ∧ x3 ≤ 2147483647) (h_x4 : (-2147483648) ≤ x4 ∧ x4 ≤ (-1)) : jT [x0, x1, x2, x3, x4] (d + 3) 379 30 443 [(5, (0, 0)), (4, (4, 3)), (3, (4, 2)), (2, (4, 1)), (1, (4, 0)), (0, (6, 0))] [] jpA_267 1 6 (fun k v hsN => k = 0 ∧ v = (0, 1)) := by
  refine jT_xaload_n (v := (4, 0)) (pcN := 444) jI_379_443 rfl rfl rfl ?_
  refine jT_xaload_n (v := (6, 0)) (pcN := 445) jI_379_444 rfl rfl rfl ?_
  refine jT_xiload (v := (0, 0)) (pcN := 447) jI_379_445 rfl rfl rfl ?_
  refine jT_xiconst (k := 1) (pcN := 448) jI_379_447 rfl ?_
  refine jT_xiadd (x := 0) (y := 1) (z := 1) (pcN := 449) jI_379_448 rfl (by decide) rfl ?_
  refine jT_adv 1 (pcN := 450) (LN := [(5, (0, 0)), (4, (4, 3)), (3, (4, 2)), (2, (4, 1)), (1, (4, 0)), (0, (6, 0))]) (stN := [(0, x1), (4, 0)]) (hsN := jpA_267) (c1 := 0) (s1 := 0) (c2 := 1) (s2 := 6) (by exact rfl) ?_ (by omega) (by omega)
  refine jT_xaload_n (v := (6, 0)) (pcN := 451) jI_379_450 rfl rfl rfl ?_
  refine jT_xiload (v := (0, 0)) (pcN := 453) jI_379_451 rfl rfl rfl ?_
  refine jT_xiconst (k := 2) (pcN := 454) jI_379_453 rfl ?_
  refine jT_xiadd (x := 0) (y := 2) (z := 2) (pcN := 455) jI_379_454 rfl (by decide) rfl ?_
  refine jT_adv 1 (pcN := 456) (LN := [(5, (0, 0)), (4, (4, 3)), (3, (4, 2)), (2, (4, 1)), (1, (4, 0)), (0, (6, 0))]) (stN := [(0, x2), (0, x1), (4, 0)]) (hsN := jpA_267) (c1 := 0) (s1 := 0) (c2 := 1) (s2 := 6) (by exact rfl) ?_ (by omega) (by omega)
  refine jT_xaload_n (v := (6, 0)) (pcN := 457) jI_379_456 rfl rfl rfl ?_
  refine jT_xiload (v := (0, 0)) (pcN := 459) jI_379_457 rfl rfl rfl ?_
  refine jT_xiconst (k := 3) (pcN := 460) jI_379_459 rfl ?_
  refine jT_xiadd (x := 0) (y := 3) (z := 3) (pcN := 461) jI_379_460 rfl (by decide) rfl ?_
  refine jT_adv 1 (pcN := 462) (LN := [(5, (0, 0)), (4, (4, 3)), (3, (4, 2)), (2, (4, 1)), (1, (4, 0)), (0, (6, 0))]) (stN := [(0, x3), (0, x2), (0, x1), (4, 0)]) (hsN := jpA_267) (c1 := 0) (s1 := 0) (c2 := 1) (s2 := 6) (by exact rfl) ?_ (by omega) (by omega)
  refine jT_xaload_n (v := (6, 0)) (pcN := 463) jI_379_462 rfl rfl rfl ?_
  refine jT_xiload (v := (0, 0)) (pcN := 465) jI_379_463 rfl rfl rfl ?_
  refine jT_xiconst (k := 4) (pcN := 466) jI_379_465 rfl ?_
  refine jT_xiadd (x := 0) (y := 4) (z := 4) (pcN := 467) jI_379_466 rfl (by decide) rfl ?_
  refine jT_adv 1 (pcN := 468) (LN := [(5, (0, 0)), (4, (4, 3)), (3, (4, 2)), (2, (4, 1)), (1, (4, 0)), (0, (6, 0))]) (stN := [(0, x4), (0, x3), (0, x2), (0, x1), (4, 0)]) (hsN := jpA_267) (c1 := 0) (s1 := 0) (c2 := 1) (s2 := 6) (by exact rfl) ?_ (by omega) (by omega)
  refine jT_ifF (a := x4) (t := 475) (by rfl) (by rfl) (by rfl) (jw_idd (by omega) (by omega)) (by simp only [jcP] <;> omega) ?_
  refine jT_xiconst (k := 1) (pcN := 472) jI_379_471 rfl ?_
  refine jT_xgoto (pcN := 476) jI_379_472 rfl ?_
  refine jT_xaload_n (v := (4, 2)) (pcN := 477) jI_379_476 rfl rfl rfl ?_
  refine jT_fR [0, 2, 4, 5, 6, 7, 8, 9, 10, 11, 12, 13, 14] 30 (y := 328) (pcN := 480) (dC := 2) (bc1 := 1) (bc2 := 6) (c1 := 0) (c2 := 0) (as := [(4, 0), (0, x1), (0, x2), (0, x3), (0, 1), (4, 2)]) (asC := [(4, 0), (0, x1), (0, x2), (0, x3), (0, 1), (4, 1)]) (LN := [(5, (0, 0)), (4, (4, 3)), (3, (4, 2)), (2, (4, 1)), (1, (4, 0)), (0, (6, 0))]) (stN := []) (hsC := jpA_15) (v := (0, 1)) (st2 := [(0, 1)]) (jA_328_3 (d := 0) (by omega) (by omega) (by omega)) (by rfl) (by rfl) (by decide +kernel) (by rfl) (by rfl) (by omega) (by omega) (by omega) (by omega) rfl ?_
  refine jT_xistore (v := (0, 1)) (LN := [(6, (0, 1)), (5, (0, 0)), (4, (4, 3)), (3, (4, 2)), (2, (4, 1)), (1, (4, 0)), (0, (6, 0))]) (pcN := 482) jI_379_480 rfl rfl rfl rfl ?_
  refine jT_xaload_n (v := (4, 1)) (pcN := 483) jI_379_482 rfl rfl rfl ?_
  refine jT_xaload_n (v := (6, 0)) (pcN := 484) jI_379_483 rfl rfl rfl ?_
  refine jT_xiload (v := (0, 0)) (pcN := 486) jI_379_484 rfl rfl rfl ?_
  refine jT_xiconst (k := 1) (pcN := 487) jI_379_486 rfl ?_
  refine jT_xiadd (x := 0) (y := 1) (z := 1) (pcN := 488) jI_379_487 rfl (by decide) rfl ?_
  refine jT_adv 1 (pcN := 489) (LN := [(6, (0, 1)), (5, (0, 0)), (4, (4, 3)), (3, (4, 2)), (2, (4, 1)), (1, (4, 0)), (0, (6, 0))]) (stN := [(0, x1), (4, 1)]) (hsN := jpA_267) (c1 := 0) (s1 := 0) (c2 := 0) (s2 := 0) (by exact rfl) ?_ (by omega) (by omega)
  refine jT_xaload_n (v := (6, 0)) (pcN := 490) jI_379_489 rfl rfl rfl ?_
  refine jT_xiload (v := (0, 0)) (pcN := 492) jI_379_490 rfl rfl rfl ?_
  refine jT_xiconst (k := 2) (pcN := 493) jI_379_492 rfl ?_
  refine jT_xiadd (x := 0) (y := 2) (z := 2) (pcN := 494) jI_379_493 rfl (by decide) rfl ?_
  refine jT_adv 1 (pcN := 495) (LN := [(6, (0, 1)), (5, (0, 0)), (4, (4, 3)), (3, (4, 2)), (2, (4, 1)), (1, (4, 0)), (0, (6, 0))]) (stN := [(0, x2), (0, x1), (4, 1)]) (hsN := jpA_267) (c1 := 0) (s1 := 0) (c2 := 0) (s2 := 0) (by exact rfl) ?_ (by omega) (by omega)
  refine jT_xaload_n (v := (6, 0)) (pcN := 496) jI_379_495 rfl rfl rfl ?_
  refine jT_xiload (v := (0, 0)) (pcN := 498) jI_379_496 rfl rfl rfl ?_
  refine jT_xiconst (k := 3) (pcN := 499) jI_379_498 rfl ?_
  refine jT_xiadd (x := 0) (y := 3) (z := 3) (pcN := 500) jI_379_499 rfl (by decide) rfl ?_
  refine jT_adv 1 (pcN := 501) (LN := [(6, (0, 1)), (5, (0, 0)), (4, (4, 3)), (3, (4, 2)), (2, (4, 1)), (1, (4, 0)), (0, (6, 0))]) (stN := [(0, x3), (0, x2), (0, x1), (4, 1)]) (hsN := jpA_267) (c1 := 0) (s1 := 0) (c2 := 0) (s2 := 0) (by exact rfl) ?_ (by omega) (by omega)
  refine jT_xaload_n (v := (6, 0)) (pcN := 502) jI_379_501 rfl rfl rfl ?_
  refine jT_xiload (v := (0, 0)) (pcN := 504) jI_379_502 rfl rfl rfl ?_
  refine jT_xiconst (k := 4) (pcN := 505) jI_379_504 rfl ?_
  refine jT_xiadd (x := 0) (y := 4) (z := 4) (pcN := 506) jI_379_505 rfl (by decide) rfl ?_
  refine jT_adv 1 (pcN := 507) (LN := [(6, (0, 1)), (5, (0, 0)), (4, (4, 3)), (3, (4, 2)), (2, (4, 1)), (1, (4, 0)), (0, (6, 0))]) (stN := [(0, x4), (0, x3), (0, x2), (0, x1), (4, 1)]) (hsN := jpA_267) (c1 := 0) (s1 := 0) (c2 := 0) (s2 := 0) (by exact rfl) ?_ (by omega) (by omega)
  refine jT_ifF (a := x4) (t := 514) (by rfl) (by rfl) (by rfl) (jw_idd (by omega) (by omega)) (by simp only [jcP] <;> omega) ?_
  refine jT_xiconst (k := 1) (pcN := 511) jI_379_510 rfl ?_
  refine jT_xgoto (pcN := 515) jI_379_511 rfl ?_
  refine jT_fB [1, 15, 16, 17, 18, 19, 20, 21, 22, 23, 24, 25, 26, 27, 28, 29] 30 (y := 201) (pcN := 518) (dC := 2) (bc1 := 0) (bc2 := 0) (c1 := 0) (c2 := 0) (as := [(4, 1), (0, x1), (0, x2), (0, x3), (0, 1)]) (asC := [(4, 0), (0, x1), (0, x2), (0, x3), (0, 1)]) (LN := [(6, (0, 1)), (5, (0, 0)), (4, (4, 3)), (3, (4, 2)), (2, (4, 1)), (1, (4, 0)), (0, (6, 0))]) (stN := []) (hsC := jpA_22) (hsD := jpA_20) (v := (0, 0)) (st2 := [(0, 0)]) (hs2 := jpA_306) (jA_201_7 (d := 0) (by omega) (by omega) (by omega)) (by rfl) (by rfl) (by decide +kernel) (by rfl) (by rfl) (by omega) (by omega) (by omega) (by omega) rfl (by decide +kernel) ?_
  refine jT_xistore (v := (0, 0)) (LN := [(7, (0, 0)), (6, (0, 1)), (5, (0, 0)), (4, (4, 3)), (3, (4, 2)), (2, (4, 1)), (1, (4, 0)), (0, (6, 0))]) (pcN := 520) jI_379_518 rfl rfl rfl rfl ?_
  refine jT_xaload_n (v := (4, 1)) (pcN := 521) jI_379_520 rfl rfl rfl ?_
  refine jT_fR [1, 15, 16, 17, 18, 19, 20, 21, 22, 23, 24, 25, 26, 27, 28, 29] 30 (y := 186) (pcN := 524) (dC := 0) (bc1 := 0) (bc2 := 0) (c1 := 0) (c2 := 0) (as := [(4, 1)]) (asC := [(4, 0)]) (LN := [(7, (0, 0)), (6, (0, 1)), (5, (0, 0)), (4, (4, 3)), (3, (4, 2)), (2, (4, 1)), (1, (4, 0)), (0, (6, 0))]) (stN := []) (hsC := jpA_20) (v := (0, 1)) (st2 := [(0, 1)]) (jA_186_8 (d := 0)) (by rfl) (by rfl) (by decide +kernel) (by rfl) (by rfl) (by omega) (by omega) (by omega) (by omega) rfl ?_
  refine jT_xiload (v := (0, 1)) (pcN := 526) jI_379_524 rfl rfl rfl ?_
  refine jT_xicT (pcN := 531) jI_379_526 rfl (by decide +kernel) rfl ?_
  refine jT_xiload (v := (0, 1)) (pcN := 533) jI_379_531 rfl rfl rfl ?_
  refine jT_xifT (pcN := 548) jI_379_533 rfl (by decide +kernel) rfl ?_
  refine jT_xgoto (pcN := 3740) jI_379_548 rfl ?_
  refine jT_xiinc (x := 0) (z := 5) (LN := [(5, (0, 5)), (7, (0, 0)), (6, (0, 1)), (4, (4, 3)), (3, (4, 2)), (2, (4, 1)), (1, (4, 0)), (0, (6, 0))]) (pcN := 3743) jI_379_3740 rfl rfl (by decide) rfl rfl ?_
  refine jT_xgoto (pcN := 28) jI_379_3743 rfl ?_
  refine jT_xiload (v := (0, 5)) (pcN := 30) jI_379_28 rfl rfl rfl ?_
  refine jT_xaload_n (v := (6, 0)) (pcN := 31) jI_379_30 rfl rfl rfl ?_
  refine jT_adv 1 (pcN := 32) (LN := [(5, (0, 5)), (7, (0, 0)), (6, (0, 1)), (4, (4, 3)), (3, (4, 2)), (2, (4, 1)), (1, (4, 0)), (0, (6, 0))]) (stN := [(0, 5), (0, 5)]) (hsN := jpA_306) (c1 := 0) (s1 := 0) (c2 := 0) (s2 := 0) (by exact rfl) ?_ (by omega) (by omega)
  refine jT_xiconst (k := 5) (pcN := 33) jI_379_32 rfl ?_
  refine jT_xisub (x := 5) (y := 5) (z := 0) (pcN := 34) jI_379_33 rfl (by decide) rfl ?_
  refine jT_xicT (pcN := 3746) jI_379_34 rfl (by decide +kernel) rfl ?_
  refine jT_xiconst (k := 1) (pcN := 3747) jI_379_3746 rfl ?_
  exact jT_ret rfl (by decide) (by show 30 ≤ 30; decide) (by omega) (by omega) ⟨rfl, rfl⟩
set_option maxRecDepth 100000 in
theorem jL_2_1 {d : Nat} {x0 x1 x2 x3 x4 : Int} (h_x0 : (-2147483648) ≤ x0 ∧ x0 ≤ 2147483647) (h_x1 : 0 ≤ x1 ∧ x1 ≤ 7) (h_x2 : (-2147483648) ≤ x2 ∧ x2 ≤ (-1)) (h_x3 : (-2147483648) ≤ x3 ∧ x3 ≤ 2147483647) (h_x4 : (-2147483648) ≤ x4 ∧ x4 ≤ (-1)) : jT [x0, x1, x2, x3, x4] (d + 3) 379 30 443 [(5, (0, 0)), (4, (4, 3)), (3, (4, 2)), (2, (4, 1)), (1, (4, 0)), (0, (6, 0))] [] jpA_267 1 6 (fun k v hsN => k = 0 ∧ v = (0, 1)) := by
  refine jT_xaload_n (v := (4, 0)) (pcN := 444) jI_379_443 rfl rfl rfl ?_
  refine jT_xaload_n (v := (6, 0)) (pcN := 445) jI_379_444 rfl rfl rfl ?_
  refine jT_xiload (v := (0, 0)) (pcN := 447) jI_379_445 rfl rfl rfl ?_
  refine jT_xiconst (k := 1) (pcN := 448) jI_379_447 rfl ?_
  refine jT_xiadd (x := 0) (y := 1) (z := 1) (pcN := 449) jI_379_448 rfl (by decide) rfl ?_
  refine jT_adv 1 (pcN := 450) (LN := [(5, (0, 0)), (4, (4, 3)), (3, (4, 2)), (2, (4, 1)), (1, (4, 0)), (0, (6, 0))]) (stN := [(0, x1), (4, 0)]) (hsN := jpA_267) (c1 := 0) (s1 := 0) (c2 := 1) (s2 := 6) (by exact rfl) ?_ (by omega) (by omega)
  refine jT_xaload_n (v := (6, 0)) (pcN := 451) jI_379_450 rfl rfl rfl ?_
  refine jT_xiload (v := (0, 0)) (pcN := 453) jI_379_451 rfl rfl rfl ?_
  refine jT_xiconst (k := 2) (pcN := 454) jI_379_453 rfl ?_
  refine jT_xiadd (x := 0) (y := 2) (z := 2) (pcN := 455) jI_379_454 rfl (by decide) rfl ?_
  refine jT_adv 1 (pcN := 456) (LN := [(5, (0, 0)), (4, (4, 3)), (3, (4, 2)), (2, (4, 1)), (1, (4, 0)), (0, (6, 0))]) (stN := [(0, x2), (0, x1), (4, 0)]) (hsN := jpA_267) (c1 := 0) (s1 := 0) (c2 := 1) (s2 := 6) (by exact rfl) ?_ (by omega) (by omega)
  refine jT_xaload_n (v := (6, 0)) (pcN := 457) jI_379_456 rfl rfl rfl ?_
  refine jT_xiload (v := (0, 0)) (pcN := 459) jI_379_457 rfl rfl rfl ?_
  refine jT_xiconst (k := 3) (pcN := 460) jI_379_459 rfl ?_
  refine jT_xiadd (x := 0) (y := 3) (z := 3) (pcN := 461) jI_379_460 rfl (by decide) rfl ?_
  refine jT_adv 1 (pcN := 462) (LN := [(5, (0, 0)), (4, (4, 3)), (3, (4, 2)), (2, (4, 1)), (1, (4, 0)), (0, (6, 0))]) (stN := [(0, x3), (0, x2), (0, x1), (4, 0)]) (hsN := jpA_267) (c1 := 0) (s1 := 0) (c2 := 1) (s2 := 6) (by exact rfl) ?_ (by omega) (by omega)
  refine jT_xaload_n (v := (6, 0)) (pcN := 463) jI_379_462 rfl rfl rfl ?_
  refine jT_xiload (v := (0, 0)) (pcN := 465) jI_379_463 rfl rfl rfl ?_
  refine jT_xiconst (k := 4) (pcN := 466) jI_379_465 rfl ?_
  refine jT_xiadd (x := 0) (y := 4) (z := 4) (pcN := 467) jI_379_466 rfl (by decide) rfl ?_
  refine jT_adv 1 (pcN := 468) (LN := [(5, (0, 0)), (4, (4, 3)), (3, (4, 2)), (2, (4, 1)), (1, (4, 0)), (0, (6, 0))]) (stN := [(0, x4), (0, x3), (0, x2), (0, x1), (4, 0)]) (hsN := jpA_267) (c1 := 0) (s1 := 0) (c2 := 1) (s2 := 6) (by exact rfl) ?_ (by omega) (by omega)
  refine jT_ifF (a := x4) (t := 475) (by rfl) (by rfl) (by rfl) (jw_idd (by omega) (by omega)) (by simp only [jcP] <;> omega) ?_
  refine jT_xiconst (k := 1) (pcN := 472) jI_379_471 rfl ?_
  refine jT_xgoto (pcN := 476) jI_379_472 rfl ?_
  refine jT_xaload_n (v := (4, 2)) (pcN := 477) jI_379_476 rfl rfl rfl ?_
  refine jT_fR [0, 2, 4, 5, 6, 7, 8, 9, 10, 11, 12, 13, 14] 30 (y := 328) (pcN := 480) (dC := 2) (bc1 := 1) (bc2 := 6) (c1 := 0) (c2 := 0) (as := [(4, 0), (0, x1), (0, x2), (0, x3), (0, 1), (4, 2)]) (asC := [(4, 0), (0, x1), (0, x2), (0, x3), (0, 1), (4, 1)]) (LN := [(5, (0, 0)), (4, (4, 3)), (3, (4, 2)), (2, (4, 1)), (1, (4, 0)), (0, (6, 0))]) (stN := []) (hsC := jpA_15) (v := (0, 1)) (st2 := [(0, 1)]) (jA_328_12 (d := 0) (by omega) (by omega) (by omega)) (by rfl) (by rfl) (by decide +kernel) (by rfl) (by rfl) (by omega) (by omega) (by omega) (by omega) rfl ?_
  refine jT_xistore (v := (0, 1)) (LN := [(6, (0, 1)), (5, (0, 0)), (4, (4, 3)), (3, (4, 2)), (2, (4, 1)), (1, (4, 0)), (0, (6, 0))]) (pcN := 482) jI_379_480 rfl rfl rfl rfl ?_
  refine jT_xaload_n (v := (4, 1)) (pcN := 483) jI_379_482 rfl rfl rfl ?_
  refine jT_xaload_n (v := (6, 0)) (pcN := 484) jI_379_483 rfl rfl rfl ?_
  refine jT_xiload (v := (0, 0)) (pcN := 486) jI_379_484 rfl rfl rfl ?_
  refine jT_xiconst (k := 1) (pcN := 487) jI_379_486 rfl ?_
  refine jT_xiadd (x := 0) (y := 1) (z := 1) (pcN := 488) jI_379_487 rfl (by decide) rfl ?_
  refine jT_adv 1 (pcN := 489) (LN := [(6, (0, 1)), (5, (0, 0)), (4, (4, 3)), (3, (4, 2)), (2, (4, 1)), (1, (4, 0)), (0, (6, 0))]) (stN := [(0, x1), (4, 1)]) (hsN := jpA_267) (c1 := 0) (s1 := 0) (c2 := 0) (s2 := 0) (by exact rfl) ?_ (by omega) (by omega)
  refine jT_xaload_n (v := (6, 0)) (pcN := 490) jI_379_489 rfl rfl rfl ?_
  refine jT_xiload (v := (0, 0)) (pcN := 492) jI_379_490 rfl rfl rfl ?_
  refine jT_xiconst (k := 2) (pcN := 493) jI_379_492 rfl ?_
  refine jT_xiadd (x := 0) (y := 2) (z := 2) (pcN := 494) jI_379_493 rfl (by decide) rfl ?_
  refine jT_adv 1 (pcN := 495) (LN := [(6, (0, 1)), (5, (0, 0)), (4, (4, 3)), (3, (4, 2)), (2, (4, 1)), (1, (4, 0)), (0, (6, 0))]) (stN := [(0, x2), (0, x1), (4, 1)]) (hsN := jpA_267) (c1 := 0) (s1 := 0) (c2 := 0) (s2 := 0) (by exact rfl) ?_ (by omega) (by omega)
  refine jT_xaload_n (v := (6, 0)) (pcN := 496) jI_379_495 rfl rfl rfl ?_
  refine jT_xiload (v := (0, 0)) (pcN := 498) jI_379_496 rfl rfl rfl ?_
  refine jT_xiconst (k := 3) (pcN := 499) jI_379_498 rfl ?_
  refine jT_xiadd (x := 0) (y := 3) (z := 3) (pcN := 500) jI_379_499 rfl (by decide) rfl ?_
  refine jT_adv 1 (pcN := 501) (LN := [(6, (0, 1)), (5, (0, 0)), (4, (4, 3)), (3, (4, 2)), (2, (4, 1)), (1, (4, 0)), (0, (6, 0))]) (stN := [(0, x3), (0, x2), (0, x1), (4, 1)]) (hsN := jpA_267) (c1 := 0) (s1 := 0) (c2 := 0) (s2 := 0) (by exact rfl) ?_ (by omega) (by omega)
  refine jT_xaload_n (v := (6, 0)) (pcN := 502) jI_379_501 rfl rfl rfl ?_
  refine jT_xiload (v := (0, 0)) (pcN := 504) jI_379_502 rfl rfl rfl ?_
  refine jT_xiconst (k := 4) (pcN := 505) jI_379_504 rfl ?_
  refine jT_xiadd (x := 0) (y := 4) (z := 4) (pcN := 506) jI_379_505 rfl (by decide) rfl ?_
  refine jT_adv 1 (pcN := 507) (LN := [(6, (0, 1)), (5, (0, 0)), (4, (4, 3)), (3, (4, 2)), (2, (4, 1)), (1, (4, 0)), (0, (6, 0))]) (stN := [(0, x4), (0, x3), (0, x2), (0, x1), (4, 1)]) (hsN := jpA_267) (c1 := 0) (s1 := 0) (c2 := 0) (s2 := 0) (by exact rfl) ?_ (by omega) (by omega)
  refine jT_ifF (a := x4) (t := 514) (by rfl) (by rfl) (by rfl) (jw_idd (by omega) (by omega)) (by simp only [jcP] <;> omega) ?_
  refine jT_xiconst (k := 1) (pcN := 511) jI_379_510 rfl ?_
  refine jT_xgoto (pcN := 515) jI_379_511 rfl ?_
  refine jT_fB [1, 15, 16, 17, 18, 19, 20, 21, 22, 23, 24, 25, 26, 27, 28, 29] 30 (y := 201) (pcN := 518) (dC := 2) (bc1 := 0) (bc2 := 0) (c1 := 0) (c2 := 0) (as := [(4, 1), (0, x1), (0, x2), (0, x3), (0, 1)]) (asC := [(4, 0), (0, x1), (0, x2), (0, x3), (0, 1)]) (LN := [(6, (0, 1)), (5, (0, 0)), (4, (4, 3)), (3, (4, 2)), (2, (4, 1)), (1, (4, 0)), (0, (6, 0))]) (stN := []) (hsC := jpA_22) (hsD := jpA_20) (v := (0, 0)) (st2 := [(0, 0)]) (hs2 := jpA_306) (jA_201_15 (d := 0) (by omega) (by omega) (by omega)) (by rfl) (by rfl) (by decide +kernel) (by rfl) (by rfl) (by omega) (by omega) (by omega) (by omega) rfl (by decide +kernel) ?_
  refine jT_xistore (v := (0, 0)) (LN := [(7, (0, 0)), (6, (0, 1)), (5, (0, 0)), (4, (4, 3)), (3, (4, 2)), (2, (4, 1)), (1, (4, 0)), (0, (6, 0))]) (pcN := 520) jI_379_518 rfl rfl rfl rfl ?_
  refine jT_xaload_n (v := (4, 1)) (pcN := 521) jI_379_520 rfl rfl rfl ?_
  refine jT_fR [1, 15, 16, 17, 18, 19, 20, 21, 22, 23, 24, 25, 26, 27, 28, 29] 30 (y := 186) (pcN := 524) (dC := 0) (bc1 := 0) (bc2 := 0) (c1 := 0) (c2 := 0) (as := [(4, 1)]) (asC := [(4, 0)]) (LN := [(7, (0, 0)), (6, (0, 1)), (5, (0, 0)), (4, (4, 3)), (3, (4, 2)), (2, (4, 1)), (1, (4, 0)), (0, (6, 0))]) (stN := []) (hsC := jpA_20) (v := (0, 1)) (st2 := [(0, 1)]) (jA_186_8 (d := 0)) (by rfl) (by rfl) (by decide +kernel) (by rfl) (by rfl) (by omega) (by omega) (by omega) (by omega) rfl ?_
  refine jT_xiload (v := (0, 1)) (pcN := 526) jI_379_524 rfl rfl rfl ?_
  refine jT_xicT (pcN := 531) jI_379_526 rfl (by decide +kernel) rfl ?_
  refine jT_xiload (v := (0, 1)) (pcN := 533) jI_379_531 rfl rfl rfl ?_
  refine jT_xifT (pcN := 548) jI_379_533 rfl (by decide +kernel) rfl ?_
  refine jT_xgoto (pcN := 3740) jI_379_548 rfl ?_
  refine jT_xiinc (x := 0) (z := 5) (LN := [(5, (0, 5)), (7, (0, 0)), (6, (0, 1)), (4, (4, 3)), (3, (4, 2)), (2, (4, 1)), (1, (4, 0)), (0, (6, 0))]) (pcN := 3743) jI_379_3740 rfl rfl (by decide) rfl rfl ?_
  refine jT_xgoto (pcN := 28) jI_379_3743 rfl ?_
  refine jT_xiload (v := (0, 5)) (pcN := 30) jI_379_28 rfl rfl rfl ?_
  refine jT_xaload_n (v := (6, 0)) (pcN := 31) jI_379_30 rfl rfl rfl ?_
  refine jT_adv 1 (pcN := 32) (LN := [(5, (0, 5)), (7, (0, 0)), (6, (0, 1)), (4, (4, 3)), (3, (4, 2)), (2, (4, 1)), (1, (4, 0)), (0, (6, 0))]) (stN := [(0, 5), (0, 5)]) (hsN := jpA_306) (c1 := 0) (s1 := 0) (c2 := 0) (s2 := 0) (by exact rfl) ?_ (by omega) (by omega)
  refine jT_xiconst (k := 5) (pcN := 33) jI_379_32 rfl ?_
  refine jT_xisub (x := 5) (y := 5) (z := 0) (pcN := 34) jI_379_33 rfl (by decide) rfl ?_
  refine jT_xicT (pcN := 3746) jI_379_34 rfl (by decide +kernel) rfl ?_
  refine jT_xiconst (k := 1) (pcN := 3747) jI_379_3746 rfl ?_
  exact jT_ret rfl (by decide) (by show 30 ≤ 30; decide) (by omega) (by omega) ⟨rfl, rfl⟩
set_option maxRecDepth 100000 in
theorem jL_2_2 {d : Nat} {x0 x1 x2 x3 x4 : Int} (h_x0 : (-2147483648) ≤ x0 ∧ x0 ≤ 2147483647) (h_x1 : 0 ≤ x1 ∧ x1 ≤ 7) (h_x2 : 0 ≤ x2 ∧ x2 ≤ 7) (h_x3 : (-2147483648) ≤ x3 ∧ x3 ≤ (-1)) (h_x4 : (-2147483648) ≤ x4 ∧ x4 ≤ (-1)) : jT [x0, x1, x2, x3, x4] (d + 3) 379 30 443 [(5, (0, 0)), (4, (4, 3)), (3, (4, 2)), (2, (4, 1)), (1, (4, 0)), (0, (6, 0))] [] jpA_267 1 6 (fun k v hsN => k = 0 ∧ v = (0, 1)) := by
  refine jT_xaload_n (v := (4, 0)) (pcN := 444) jI_379_443 rfl rfl rfl ?_
  refine jT_xaload_n (v := (6, 0)) (pcN := 445) jI_379_444 rfl rfl rfl ?_
  refine jT_xiload (v := (0, 0)) (pcN := 447) jI_379_445 rfl rfl rfl ?_
  refine jT_xiconst (k := 1) (pcN := 448) jI_379_447 rfl ?_
  refine jT_xiadd (x := 0) (y := 1) (z := 1) (pcN := 449) jI_379_448 rfl (by decide) rfl ?_
  refine jT_adv 1 (pcN := 450) (LN := [(5, (0, 0)), (4, (4, 3)), (3, (4, 2)), (2, (4, 1)), (1, (4, 0)), (0, (6, 0))]) (stN := [(0, x1), (4, 0)]) (hsN := jpA_267) (c1 := 0) (s1 := 0) (c2 := 1) (s2 := 6) (by exact rfl) ?_ (by omega) (by omega)
  refine jT_xaload_n (v := (6, 0)) (pcN := 451) jI_379_450 rfl rfl rfl ?_
  refine jT_xiload (v := (0, 0)) (pcN := 453) jI_379_451 rfl rfl rfl ?_
  refine jT_xiconst (k := 2) (pcN := 454) jI_379_453 rfl ?_
  refine jT_xiadd (x := 0) (y := 2) (z := 2) (pcN := 455) jI_379_454 rfl (by decide) rfl ?_
  refine jT_adv 1 (pcN := 456) (LN := [(5, (0, 0)), (4, (4, 3)), (3, (4, 2)), (2, (4, 1)), (1, (4, 0)), (0, (6, 0))]) (stN := [(0, x2), (0, x1), (4, 0)]) (hsN := jpA_267) (c1 := 0) (s1 := 0) (c2 := 1) (s2 := 6) (by exact rfl) ?_ (by omega) (by omega)
  refine jT_xaload_n (v := (6, 0)) (pcN := 457) jI_379_456 rfl rfl rfl ?_
  refine jT_xiload (v := (0, 0)) (pcN := 459) jI_379_457 rfl rfl rfl ?_
  refine jT_xiconst (k := 3) (pcN := 460) jI_379_459 rfl ?_
  refine jT_xiadd (x := 0) (y := 3) (z := 3) (pcN := 461) jI_379_460 rfl (by decide) rfl ?_
  refine jT_adv 1 (pcN := 462) (LN := [(5, (0, 0)), (4, (4, 3)), (3, (4, 2)), (2, (4, 1)), (1, (4, 0)), (0, (6, 0))]) (stN := [(0, x3), (0, x2), (0, x1), (4, 0)]) (hsN := jpA_267) (c1 := 0) (s1 := 0) (c2 := 1) (s2 := 6) (by exact rfl) ?_ (by omega) (by omega)
  refine jT_xaload_n (v := (6, 0)) (pcN := 463) jI_379_462 rfl rfl rfl ?_
  refine jT_xiload (v := (0, 0)) (pcN := 465) jI_379_463 rfl rfl rfl ?_
  refine jT_xiconst (k := 4) (pcN := 466) jI_379_465 rfl ?_
  refine jT_xiadd (x := 0) (y := 4) (z := 4) (pcN := 467) jI_379_466 rfl (by decide) rfl ?_
  refine jT_adv 1 (pcN := 468) (LN := [(5, (0, 0)), (4, (4, 3)), (3, (4, 2)), (2, (4, 1)), (1, (4, 0)), (0, (6, 0))]) (stN := [(0, x4), (0, x3), (0, x2), (0, x1), (4, 0)]) (hsN := jpA_267) (c1 := 0) (s1 := 0) (c2 := 1) (s2 := 6) (by exact rfl) ?_ (by omega) (by omega)
  refine jT_ifF (a := x4) (t := 475) (by rfl) (by rfl) (by rfl) (jw_idd (by omega) (by omega)) (by simp only [jcP] <;> omega) ?_
  refine jT_xiconst (k := 1) (pcN := 472) jI_379_471 rfl ?_
  refine jT_xgoto (pcN := 476) jI_379_472 rfl ?_
  refine jT_xaload_n (v := (4, 2)) (pcN := 477) jI_379_476 rfl rfl rfl ?_
  refine jT_fR [0, 2, 4, 5, 6, 7, 8, 9, 10, 11, 12, 13, 14] 30 (y := 328) (pcN := 480) (dC := 2) (bc1 := 1) (bc2 := 6) (c1 := 0) (c2 := 0) (as := [(4, 0), (0, x1), (0, x2), (0, x3), (0, 1), (4, 2)]) (asC := [(4, 0), (0, x1), (0, x2), (0, x3), (0, 1), (4, 1)]) (LN := [(5, (0, 0)), (4, (4, 3)), (3, (4, 2)), (2, (4, 1)), (1, (4, 0)), (0, (6, 0))]) (stN := []) (hsC := jpA_15) (v := (0, 1)) (st2 := [(0, 1)]) (jA_328_19 (d := 0) (by omega) (by omega) (by omega)) (by rfl) (by rfl) (by decide +kernel) (by rfl) (by rfl) (by omega) (by omega) (by omega) (by omega) rfl ?_
  refine jT_xistore (v := (0, 1)) (LN := [(6, (0, 1)), (5, (0, 0)), (4, (4, 3)), (3, (4, 2)), (2, (4, 1)), (1, (4, 0)), (0, (6, 0))]) (pcN := 482) jI_379_480 rfl rfl rfl rfl ?_
  refine jT_xaload_n (v := (4, 1)) (pcN := 483) jI_379_482 rfl rfl rfl ?_
  refine jT_xaload_n (v := (6, 0)) (pcN := 484) jI_379_483 rfl rfl rfl ?_
  refine jT_xiload (v := (0, 0)) (pcN := 486) jI_379_484 rfl rfl rfl ?_
  refine jT_xiconst (k := 1) (pcN := 487) jI_379_486 rfl ?_
  refine jT_xiadd (x := 0) (y := 1) (z := 1) (pcN := 488) jI_379_487 rfl (by decide) rfl ?_
  refine jT_adv 1 (pcN := 489) (LN := [(6, (0, 1)), (5, (0, 0)), (4, (4, 3)), (3, (4, 2)), (2, (4, 1)), (1, (4, 0)), (0, (6, 0))]) (stN := [(0, x1), (4, 1)]) (hsN := jpA_267) (c1 := 0) (s1 := 0) (c2 := 0) (s2 := 0) (by exact rfl) ?_ (by omega) (by omega)
  refine jT_xaload_n (v := (6, 0)) (pcN := 490) jI_379_489 rfl rfl rfl ?_
  refine jT_xiload (v := (0, 0)) (pcN := 492) jI_379_490 rfl rfl rfl ?_
  refine jT_xiconst (k := 2) (pcN := 493) jI_379_492 rfl ?_
  refine jT_xiadd (x := 0) (y := 2) (z := 2) (pcN := 494) jI_379_493 rfl (by decide) rfl ?_
  refine jT_adv 1 (pcN := 495) (LN := [(6, (0, 1)), (5, (0, 0)), (4, (4, 3)), (3, (4, 2)), (2, (4, 1)), (1, (4, 0)), (0, (6, 0))]) (stN := [(0, x2), (0, x1), (4, 1)]) (hsN := jpA_267) (c1 := 0) (s1 := 0) (c2 := 0) (s2 := 0) (by exact rfl) ?_ (by omega) (by omega)
  refine jT_xaload_n (v := (6, 0)) (pcN := 496) jI_379_495 rfl rfl rfl ?_
  refine jT_xiload (v := (0, 0)) (pcN := 498) jI_379_496 rfl rfl rfl ?_
  refine jT_xiconst (k := 3) (pcN := 499) jI_379_498 rfl ?_
  refine jT_xiadd (x := 0) (y := 3) (z := 3) (pcN := 500) jI_379_499 rfl (by decide) rfl ?_
  refine jT_adv 1 (pcN := 501) (LN := [(6, (0, 1)), (5, (0, 0)), (4, (4, 3)), (3, (4, 2)), (2, (4, 1)), (1, (4, 0)), (0, (6, 0))]) (stN := [(0, x3), (0, x2), (0, x1), (4, 1)]) (hsN := jpA_267) (c1 := 0) (s1 := 0) (c2 := 0) (s2 := 0) (by exact rfl) ?_ (by omega) (by omega)
  refine jT_xaload_n (v := (6, 0)) (pcN := 502) jI_379_501 rfl rfl rfl ?_
  refine jT_xiload (v := (0, 0)) (pcN := 504) jI_379_502 rfl rfl rfl ?_
  refine jT_xiconst (k := 4) (pcN := 505) jI_379_504 rfl ?_
  refine jT_xiadd (x := 0) (y := 4) (z := 4) (pcN := 506) jI_379_505 rfl (by decide) rfl ?_
  refine jT_adv 1 (pcN := 507) (LN := [(6, (0, 1)), (5, (0, 0)), (4, (4, 3)), (3, (4, 2)), (2, (4, 1)), (1, (4, 0)), (0, (6, 0))]) (stN := [(0, x4), (0, x3), (0, x2), (0, x1), (4, 1)]) (hsN := jpA_267) (c1 := 0) (s1 := 0) (c2 := 0) (s2 := 0) (by exact rfl) ?_ (by omega) (by omega)
  refine jT_ifF (a := x4) (t := 514) (by rfl) (by rfl) (by rfl) (jw_idd (by omega) (by omega)) (by simp only [jcP] <;> omega) ?_
  refine jT_xiconst (k := 1) (pcN := 511) jI_379_510 rfl ?_
  refine jT_xgoto (pcN := 515) jI_379_511 rfl ?_
  refine jT_fB [1, 15, 16, 17, 18, 19, 20, 21, 22, 23, 24, 25, 26, 27, 28, 29] 30 (y := 201) (pcN := 518) (dC := 2) (bc1 := 0) (bc2 := 0) (c1 := 0) (c2 := 0) (as := [(4, 1), (0, x1), (0, x2), (0, x3), (0, 1)]) (asC := [(4, 0), (0, x1), (0, x2), (0, x3), (0, 1)]) (LN := [(6, (0, 1)), (5, (0, 0)), (4, (4, 3)), (3, (4, 2)), (2, (4, 1)), (1, (4, 0)), (0, (6, 0))]) (stN := []) (hsC := jpA_22) (hsD := jpA_20) (v := (0, 0)) (st2 := [(0, 0)]) (hs2 := jpA_306) (jA_201_22 (d := 0) (by omega) (by omega) (by omega)) (by rfl) (by rfl) (by decide +kernel) (by rfl) (by rfl) (by omega) (by omega) (by omega) (by omega) rfl (by decide +kernel) ?_
  refine jT_xistore (v := (0, 0)) (LN := [(7, (0, 0)), (6, (0, 1)), (5, (0, 0)), (4, (4, 3)), (3, (4, 2)), (2, (4, 1)), (1, (4, 0)), (0, (6, 0))]) (pcN := 520) jI_379_518 rfl rfl rfl rfl ?_
  refine jT_xaload_n (v := (4, 1)) (pcN := 521) jI_379_520 rfl rfl rfl ?_
  refine jT_fR [1, 15, 16, 17, 18, 19, 20, 21, 22, 23, 24, 25, 26, 27, 28, 29] 30 (y := 186) (pcN := 524) (dC := 0) (bc1 := 0) (bc2 := 0) (c1 := 0) (c2 := 0) (as := [(4, 1)]) (asC := [(4, 0)]) (LN := [(7, (0, 0)), (6, (0, 1)), (5, (0, 0)), (4, (4, 3)), (3, (4, 2)), (2, (4, 1)), (1, (4, 0)), (0, (6, 0))]) (stN := []) (hsC := jpA_20) (v := (0, 1)) (st2 := [(0, 1)]) (jA_186_8 (d := 0)) (by rfl) (by rfl) (by decide +kernel) (by rfl) (by rfl) (by omega) (by omega) (by omega) (by omega) rfl ?_
  refine jT_xiload (v := (0, 1)) (pcN := 526) jI_379_524 rfl rfl rfl ?_
  refine jT_xicT (pcN := 531) jI_379_526 rfl (by decide +kernel) rfl ?_
  refine jT_xiload (v := (0, 1)) (pcN := 533) jI_379_531 rfl rfl rfl ?_
  refine jT_xifT (pcN := 548) jI_379_533 rfl (by decide +kernel) rfl ?_
  refine jT_xgoto (pcN := 3740) jI_379_548 rfl ?_
  refine jT_xiinc (x := 0) (z := 5) (LN := [(5, (0, 5)), (7, (0, 0)), (6, (0, 1)), (4, (4, 3)), (3, (4, 2)), (2, (4, 1)), (1, (4, 0)), (0, (6, 0))]) (pcN := 3743) jI_379_3740 rfl rfl (by decide) rfl rfl ?_
  refine jT_xgoto (pcN := 28) jI_379_3743 rfl ?_
  refine jT_xiload (v := (0, 5)) (pcN := 30) jI_379_28 rfl rfl rfl ?_
  refine jT_xaload_n (v := (6, 0)) (pcN := 31) jI_379_30 rfl rfl rfl ?_
  refine jT_adv 1 (pcN := 32) (LN := [(5, (0, 5)), (7, (0, 0)), (6, (0, 1)), (4, (4, 3)), (3, (4, 2)), (2, (4, 1)), (1, (4, 0)), (0, (6, 0))]) (stN := [(0, 5), (0, 5)]) (hsN := jpA_306) (c1 := 0) (s1 := 0) (c2 := 0) (s2 := 0) (by exact rfl) ?_ (by omega) (by omega)
  refine jT_xiconst (k := 5) (pcN := 33) jI_379_32 rfl ?_
  refine jT_xisub (x := 5) (y := 5) (z := 0) (pcN := 34) jI_379_33 rfl (by decide) rfl ?_
  refine jT_xicT (pcN := 3746) jI_379_34 rfl (by decide +kernel) rfl ?_
  refine jT_xiconst (k := 1) (pcN := 3747) jI_379_3746 rfl ?_
  exact jT_ret rfl (by decide) (by show 30 ≤ 30; decide) (by omega) (by omega) ⟨rfl, rfl⟩
def jzA_322 : JC := (9, [(4, 30), (4, 31), (4, 32), (4, 33), (4, 34)], [])
def jzA_323 : JC := (130, [], [35, 36, 37, 38, 39, 40, 41, 42])
def jzA_324 : JC := (114, [], [43, 43, 43, 43, 43, 43, 43, 43])
def jpA_325 : List JC := [jzA_265, jzA_266, (101, [], [0]), jgh, jgh, jgh, jgh, jgh, jgh, jgh, jgh, jgh, jgh, jzA_79, jzA_322, (100, [], jS0), (100, [], []), jzA_323, jzA_197, jgh, jgh, (101, [], [0, 0, 0, 0, 0, 0]), jgh, jgh, jgh, jgh, jgh, jgh, jgh, jgh, jzA_324, jgh, jgh, jgh, jgh, (100, [], (List.replicate 1613 0)), jgh, jgh, jgh, jgh, jgh, jgh, jgh, (4, [(4, 44), (1, 1)], []), (101, [], [0, 0, 0, 0, 0, 0])]
def jzA_326 : JC := (13, [(4, 4), (4, 5), (4, 6), (4, 7), (4, 8), (4, 9), (4, 10), (4, 11), (4, 12), (4, 13), (0, 1), (4, 48), (0, 0)], [])
def jzA_327 : JC := (119, [], [14, (-1), (-1), (-1), (-1), (-1), (-1), (-1)])
def jzA_328 : JC := (9, [(4, 47), (4, 31), (4, 32), (4, 33), (4, 34)], [])
def jpA_329 : List JC := [jzA_326, jzA_266, (101, [], [1]), jgh, jgh, jgh, jgh, jgh, jgh, jgh, jgh, jgh, jgh, jzA_327, jzA_322, (100, [], jS0), (100, [], []), jzA_323, jzA_197, jgh, jgh, (101, [], [0, 0, 0, 0, 0, 0]), jgh, jgh, jgh, jgh, jgh, jgh, jgh, jgh, jzA_324, jgh, jgh, jgh, jgh, (100, [], (List.replicate 1613 0)), jgh, jgh, jgh, jgh, jgh, jgh, jgh, (4, [(4, 44), (1, 1)], []), (101, [], [0, 0, 0, 0, 0, 0]), (101, [], [0, 0, 0, 0, 0, 0]), (4, [(4, 45), (1, 1)], []), jgh, jzA_328]
def jzA_330 : JC := (14, [(0, 0), (4, 15), (4, 16), (4, 17), (4, 18), (0, 1), (4, 19), (0, 0), (4, 20), (4, 21), (1, 1), (4, 22), (0, 0), (4, 23), (0, 0), (0, 0), (0, 0), (0, 0), (0, 0), (0, 0), (0, 0), (4, 24), (4, 25), (4, 26), (4, 27), (4, 28), (4, 29), (0, 0)], [])
def jzA_331 : JC := (130, [], [16, (-1), (-1), (-1), (-1), (-1), (-1), (-1)])
theorem jI_379_536 : jmI (jm 379) 536 = (.aload_n 3, 1) := by rfl
theorem jI_379_537 : jmI (jm 379) 537 = (.iconst 0, 1) := by rfl
theorem jI_379_538 : jmI (jm 379) 538 = (.laload, 1) := by rfl
theorem jI_379_539 : jmI (jm 379) 539 = (.iload 7, 2) := by rfl
theorem jI_379_541 : jmI (jm 379) 541 = (.i2l, 1) := by rfl
theorem jI_379_543 : jmI (jm 379) 543 = (.ifCond .eq 5, 3) := by rfl
set_option maxRecDepth 100000 in
theorem jL_2_3 {d : Nat} {x0 x1 x2 x3 x4 : Int} (h_x0 : (-2147483648) ≤ x0 ∧ x0 ≤ 2147483647) (h_x1 : 0 ≤ x1 ∧ x1 ≤ 7) (h_x2 : 0 ≤ x2 ∧ x2 ≤ 7) (h_x3 : 0 ≤ x3 ∧ x3 ≤ 7) (h_x4 : (-2147483648) ≤ x4 ∧ x4 ≤ (-1)) : jT [x0, x1, x2, x3, x4] (d + 5) 379 45 443 [(5, (0, 0)), (4, (4, 3)), (3, (4, 2)), (2, (4, 1)), (1, (4, 0)), (0, (6, 0))] [] jpA_325 4 21 (fun k v hsN => k = 0 ∧ v = (0, 1)) := by
  refine jT_xaload_n (v := (4, 0)) (pcN := 444) jI_379_443 rfl rfl rfl ?_
  refine jT_xaload_n (v := (6, 0)) (pcN := 445) jI_379_444 rfl rfl rfl ?_
  refine jT_xiload (v := (0, 0)) (pcN := 447) jI_379_445 rfl rfl rfl ?_
  refine jT_xiconst (k := 1) (pcN := 448) jI_379_447 rfl ?_
  refine jT_xiadd (x := 0) (y := 1) (z := 1) (pcN := 449) jI_379_448 rfl (by decide) rfl ?_
  refine jT_adv 1 (pcN := 450) (LN := [(5, (0, 0)), (4, (4, 3)), (3, (4, 2)), (2, (4, 1)), (1, (4, 0)), (0, (6, 0))]) (stN := [(0, x1), (4, 0)]) (hsN := jpA_325) (c1 := 0) (s1 := 0) (c2 := 4) (s2 := 21) (by exact rfl) ?_ (by omega) (by omega)
  refine jT_xaload_n (v := (6, 0)) (pcN := 451) jI_379_450 rfl rfl rfl ?_
  refine jT_xiload (v := (0, 0)) (pcN := 453) jI_379_451 rfl rfl rfl ?_
  refine jT_xiconst (k := 2) (pcN := 454) jI_379_453 rfl ?_
  refine jT_xiadd (x := 0) (y := 2) (z := 2) (pcN := 455) jI_379_454 rfl (by decide) rfl ?_
  refine jT_adv 1 (pcN := 456) (LN := [(5, (0, 0)), (4, (4, 3)), (3, (4, 2)), (2, (4, 1)), (1, (4, 0)), (0, (6, 0))]) (stN := [(0, x2), (0, x1), (4, 0)]) (hsN := jpA_325) (c1 := 0) (s1 := 0) (c2 := 4) (s2 := 21) (by exact rfl) ?_ (by omega) (by omega)
  refine jT_xaload_n (v := (6, 0)) (pcN := 457) jI_379_456 rfl rfl rfl ?_
  refine jT_xiload (v := (0, 0)) (pcN := 459) jI_379_457 rfl rfl rfl ?_
  refine jT_xiconst (k := 3) (pcN := 460) jI_379_459 rfl ?_
  refine jT_xiadd (x := 0) (y := 3) (z := 3) (pcN := 461) jI_379_460 rfl (by decide) rfl ?_
  refine jT_adv 1 (pcN := 462) (LN := [(5, (0, 0)), (4, (4, 3)), (3, (4, 2)), (2, (4, 1)), (1, (4, 0)), (0, (6, 0))]) (stN := [(0, x3), (0, x2), (0, x1), (4, 0)]) (hsN := jpA_325) (c1 := 0) (s1 := 0) (c2 := 4) (s2 := 21) (by exact rfl) ?_ (by omega) (by omega)
  refine jT_xaload_n (v := (6, 0)) (pcN := 463) jI_379_462 rfl rfl rfl ?_
  refine jT_xiload (v := (0, 0)) (pcN := 465) jI_379_463 rfl rfl rfl ?_
  refine jT_xiconst (k := 4) (pcN := 466) jI_379_465 rfl ?_
  refine jT_xiadd (x := 0) (y := 4) (z := 4) (pcN := 467) jI_379_466 rfl (by decide) rfl ?_
  refine jT_adv 1 (pcN := 468) (LN := [(5, (0, 0)), (4, (4, 3)), (3, (4, 2)), (2, (4, 1)), (1, (4, 0)), (0, (6, 0))]) (stN := [(0, x4), (0, x3), (0, x2), (0, x1), (4, 0)]) (hsN := jpA_325) (c1 := 0) (s1 := 0) (c2 := 4) (s2 := 21) (by exact rfl) ?_ (by omega) (by omega)
  refine jT_ifF (a := x4) (t := 475) (by rfl) (by rfl) (by rfl) (jw_idd (by omega) (by omega)) (by simp only [jcP] <;> omega) ?_
  refine jT_xiconst (k := 1) (pcN := 472) jI_379_471 rfl ?_
  refine jT_xgoto (pcN := 476) jI_379_472 rfl ?_
  refine jT_xaload_n (v := (4, 2)) (pcN := 477) jI_379_476 rfl rfl rfl ?_
  refine jT_fB [0, 2, 4, 5, 6, 7, 8, 9, 10, 11, 12, 13, 14, 30, 31, 32, 33, 34, 43, 44] 45 (y := 328) (pcN := 480) (dC := 4) (bc1 := 4) (bc2 := 21) (c1 := 0) (c2 := 0) (as := [(4, 0), (0, x1), (0, x2), (0, x3), (0, 1), (4, 2)]) (asC := [(4, 0), (0, x1), (0, x2), (0, x3), (0, 1), (4, 1)]) (LN := [(5, (0, 0)), (4, (4, 3)), (3, (4, 2)), (2, (4, 1)), (1, (4, 0)), (0, (6, 0))]) (stN := []) (hsC := jpA_116) (hsD := jpA_113) (v := (0, 0)) (st2 := [(0, 0)]) (hs2 := jpA_329) (jA_328_36 (d := 0) (by omega) (by omega) (by omega)) (by rfl) (by rfl) (by decide +kernel) (by rfl) (by rfl) (by omega) (by omega) (by omega) (by omega) rfl (by decide +kernel) ?_
  refine jT_xistore (v := (0, 0)) (LN := [(6, (0, 0)), (5, (0, 0)), (4, (4, 3)), (3, (4, 2)), (2, (4, 1)), (1, (4, 0)), (0, (6, 0))]) (pcN := 482) jI_379_480 rfl rfl rfl rfl ?_
  refine jT_xaload_n (v := (4, 1)) (pcN := 483) jI_379_482 rfl rfl rfl ?_
  refine jT_xaload_n (v := (6, 0)) (pcN := 484) jI_379_483 rfl rfl rfl ?_
  refine jT_xiload (v := (0, 0)) (pcN := 486) jI_379_484 rfl rfl rfl ?_
  refine jT_xiconst (k := 1) (pcN := 487) jI_379_486 rfl ?_
  refine jT_xiadd (x := 0) (y := 1) (z := 1) (pcN := 488) jI_379_487 rfl (by decide) rfl ?_
  refine jT_adv 1 (pcN := 489) (LN := [(6, (0, 0)), (5, (0, 0)), (4, (4, 3)), (3, (4, 2)), (2, (4, 1)), (1, (4, 0)), (0, (6, 0))]) (stN := [(0, x1), (4, 1)]) (hsN := jpA_329) (c1 := 0) (s1 := 0) (c2 := 0) (s2 := 0) (by exact rfl) ?_ (by omega) (by omega)
  refine jT_xaload_n (v := (6, 0)) (pcN := 490) jI_379_489 rfl rfl rfl ?_
  refine jT_xiload (v := (0, 0)) (pcN := 492) jI_379_490 rfl rfl rfl ?_
  refine jT_xiconst (k := 2) (pcN := 493) jI_379_492 rfl ?_
  refine jT_xiadd (x := 0) (y := 2) (z := 2) (pcN := 494) jI_379_493 rfl (by decide) rfl ?_
  refine jT_adv 1 (pcN := 495) (LN := [(6, (0, 0)), (5, (0, 0)), (4, (4, 3)), (3, (4, 2)), (2, (4, 1)), (1, (4, 0)), (0, (6, 0))]) (stN := [(0, x2), (0, x1), (4, 1)]) (hsN := jpA_329) (c1 := 0) (s1 := 0) (c2 := 0) (s2 := 0) (by exact rfl) ?_ (by omega) (by omega)
  refine jT_xaload_n (v := (6, 0)) (pcN := 496) jI_379_495 rfl rfl rfl ?_
  refine jT_xiload (v := (0, 0)) (pcN := 498) jI_379_496 rfl rfl rfl ?_
  refine jT_xiconst (k := 3) (pcN := 499) jI_379_498 rfl ?_
  refine jT_xiadd (x := 0) (y := 3) (z := 3) (pcN := 500) jI_379_499 rfl (by decide) rfl ?_
  refine jT_adv 1 (pcN := 501) (LN := [(6, (0, 0)), (5, (0, 0)), (4, (4, 3)), (3, (4, 2)), (2, (4, 1)), (1, (4, 0)), (0, (6, 0))]) (stN := [(0, x3), (0, x2), (0, x1), (4, 1)]) (hsN := jpA_329) (c1 := 0) (s1 := 0) (c2 := 0) (s2 := 0) (by exact rfl) ?_ (by omega) (by omega)
  refine jT_xaload_n (v := (6, 0)) (pcN := 502) jI_379_501 rfl rfl rfl ?_
  refine jT_xiload (v := (0, 0)) (pcN := 504) jI_379_502 rfl rfl rfl ?_
  refine jT_xiconst (k := 4) (pcN := 505) jI_379_504 rfl ?_
  refine jT_xiadd (x := 0) (y := 4) (z := 4) (pcN := 506) jI_379_505 rfl (by decide) rfl ?_
  refine jT_adv 1 (pcN := 507) (LN := [(6, (0, 0)), (5, (0, 0)), (4, (4, 3)), (3, (4, 2)), (2, (4, 1)), (1, (4, 0)), (0, (6, 0))]) (stN := [(0, x4), (0, x3), (0, x2), (0, x1), (4, 1)]) (hsN := jpA_329) (c1 := 0) (s1 := 0) (c2 := 0) (s2 := 0) (by exact rfl) ?_ (by omega) (by omega)
  refine jT_ifF (a := x4) (t := 514) (by rfl) (by rfl) (by rfl) (jw_idd (by omega) (by omega)) (by simp only [jcP] <;> omega) ?_
  refine jT_xiconst (k := 1) (pcN := 511) jI_379_510 rfl ?_
  refine jT_xgoto (pcN := 515) jI_379_511 rfl ?_
  refine jT_fB [1, 15, 16, 17, 18, 19, 20, 21, 22, 23, 24, 25, 26, 27, 28, 29, 35, 36, 37, 38, 39, 40, 41, 42] 49 (y := 201) (pcN := 518) (dC := 3) (bc1 := 0) (bc2 := 0) (c1 := 0) (c2 := 0) (as := [(4, 1), (0, x1), (0, x2), (0, x3), (0, 1)]) (asC := [(4, 0), (0, x1), (0, x2), (0, x3), (0, 1)]) (LN := [(6, (0, 0)), (5, (0, 0)), (4, (4, 3)), (3, (4, 2)), (2, (4, 1)), (1, (4, 0)), (0, (6, 0))]) (stN := []) (hsC := jpA_248) (hsD := [jzA_200, (100, [], ((((((((((((((jS0).set ((7 * x1).toNat) 0)).set ((7 * x1 + 1).toNat) 0)).set ((7 * x1 + 2).toNat) 0)).set ((7 * x1 + 3).toNat) 0)).set ((7 * x1 + 4).toNat) 0)).set ((7 * x1 + 5).toNat) 0)).set ((7 * x1 + 6).toNat) 1)), (100, [], []), jzA_196, jzA_201, jgh, jgh, (101, [], [0, 0, 0, 0, 0, 0]), jgh, jgh, jgh, jgh, jgh, jgh, jgh, jgh, (100, [], jS0), jgh, jgh, jgh, jgh, jgh, jgh, jgh]) (v := (0, 1)) (st2 := [(0, 1)]) (hs2 := [jzA_326, jzA_330, (101, [], [1]), jgh, jgh, jgh, jgh, jgh, jgh, jgh, jgh, jgh, jgh, jzA_327, jzA_322, (100, [], ((((((((((((((jS0).set ((7 * x1).toNat) 0)).set ((7 * x1 + 1).toNat) 0)).set ((7 * x1 + 2).toNat) 0)).set ((7 * x1 + 3).toNat) 0)).set ((7 * x1 + 4).toNat) 0)).set ((7 * x1 + 5).toNat) 0)).set ((7 * x1 + 6).toNat) 1)), (100, [], []), jzA_323, jzA_331, jgh, jgh, (101, [], [0, 0, 0, 0, 0, 0]), jgh, jgh, jgh, jgh, jgh, jgh, jgh, jgh, jzA_324, jgh, jgh, jgh, jgh, (100, [], jS0), jgh, jgh, jgh, jgh, jgh, jgh, jgh, (4, [(4, 44), (1, 1)], []), (101, [], [0, 0, 0, 0, 0, 0]), (101, [], [0, 0, 0, 0, 0, 0]), (4, [(4, 45), (1, 1)], []), jgh, jzA_328]) (jA_201_53 (d := 0) (by omega) (by omega) (by omega)) (by rfl) (by rfl) (by decide +kernel) (by rfl) (by rfl) (by omega) (by omega) (by omega) (by omega) rfl rfl ?_
  refine jT_xistore (v := (0, 1)) (LN := [(7, (0, 1)), (6, (0, 0)), (5, (0, 0)), (4, (4, 3)), (3, (4, 2)), (2, (4, 1)), (1, (4, 0)), (0, (6, 0))]) (pcN := 520) jI_379_518 rfl rfl rfl rfl ?_
  refine jT_xaload_n (v := (4, 1)) (pcN := 521) jI_379_520 rfl rfl rfl ?_
  refine jT_callA [1, 15, 16, 17, 18, 19, 20, 21, 22, 23, 24, 25, 26, 27, 28, 29] (y := 186) (pcN := 524) (dC := 0) (bc1 := 0) (bc2 := 0) (c1 := 0) (c2 := 0) (as := [(4, 1)]) (asC := [(4, 0)]) (LN := [(7, (0, 1)), (6, (0, 0)), (5, (0, 0)), (4, (4, 3)), (3, (4, 2)), (2, (4, 1)), (1, (4, 0)), (0, (6, 0))]) (stN := []) (hsC := jpA_258) (ex := []) (v := (0, 0)) (st2 := [(0, 0)]) (hs2 := [jzA_326, jzA_330, (101, [], [1]), jgh, jgh, jgh, jgh, jgh, jgh, jgh, jgh, jgh, jgh, jzA_327, jzA_322, (100, [], ((((((((((((((jS0).set ((7 * x1).toNat) 0)).set ((7 * x1 + 1).toNat) 0)).set ((7 * x1 + 2).toNat) 0)).set ((7 * x1 + 3).toNat) 0)).set ((7 * x1 + 4).toNat) 0)).set ((7 * x1 + 5).toNat) 0)).set ((7 * x1 + 6).toNat) 1)), (100, [], []), jzA_323, jzA_331, jgh, jgh, (101, [], [0, 0, 0, 0, 0, 0]), jgh, jgh, jgh, jgh, jgh, jgh, jgh, jgh, jzA_324, jgh, jgh, jgh, jgh, (100, [], jS0), jgh, jgh, jgh, jgh, jgh, jgh, jgh, (4, [(4, 44), (1, 1)], []), (101, [], [0, 0, 0, 0, 0, 0]), (101, [], [0, 0, 0, 0, 0, 0]), (4, [(4, 45), (1, 1)], []), jgh, jzA_328]) (jA_186_54 (d := 0)) (by rfl) (by rfl) (by rfl) (by rfl) ⟨rfl, rfl, rfl, rfl, rfl, rfl, rfl, rfl, rfl, rfl, rfl, rfl, rfl, rfl, rfl, rfl, trivial⟩ (by rfl) (by rfl) (by omega) (by show 45 ≤ 49; omega) (by omega) (by omega) rfl rfl ?_
  refine jT_xiload (v := (0, 0)) (pcN := 526) jI_379_524 rfl rfl rfl ?_
  refine jT_xicT (pcN := 531) jI_379_526 rfl (by decide +kernel) rfl ?_
  refine jT_xiload (v := (0, 0)) (pcN := 533) jI_379_531 rfl rfl rfl ?_
  refine jT_xifF (t := 548) (pcN := 536) jI_379_533 rfl (by decide +kernel) rfl rfl ?_
  refine jT_xaload_n (v := (4, 2)) (pcN := 537) jI_379_536 rfl rfl rfl ?_
  refine jT_xiconst (k := 0) (pcN := 538) jI_379_537 rfl ?_
  refine jT_lald (x := 1) (a := 2) (j := 0) (fs := []) (X := [1]) jI_379_538 rfl rfl rfl rfl ?_
  refine jT_eq (LN := [(7, (0, 1)), (6, (0, 0)), (5, (0, 0)), (4, (4, 3)), (3, (4, 2)), (2, (4, 1)), (1, (4, 0)), (0, (6, 0))]) (stN := [(1, 1)]) (hsN := [jzA_326, jzA_330, (101, [], [1]), jgh, jgh, jgh, jgh, jgh, jgh, jgh, jgh, jgh, jgh, jzA_327, jzA_322, (100, [], ((((((((((((((jS0).set ((7 * x1).toNat) 0)).set ((7 * x1 + 1).toNat) 0)).set ((7 * x1 + 2).toNat) 0)).set ((7 * x1 + 3).toNat) 0)).set ((7 * x1 + 4).toNat) 0)).set ((7 * x1 + 5).toNat) 0)).set ((7 * x1 + 6).toNat) 1)), (100, [], []), jzA_323, jzA_331, jgh, jgh, (101, [], [0, 0, 0, 0, 0, 0]), jgh, jgh, jgh, jgh, jgh, jgh, jgh, jgh, jzA_324, jgh, jgh, jgh, jgh, (100, [], jS0), jgh, jgh, jgh, jgh, jgh, jgh, jgh, (4, [(4, 44), (1, 1)], []), (101, [], [0, 0, 0, 0, 0, 0]), (101, [], [0, 0, 0, 0, 0, 0]), (4, [(4, 45), (1, 1)], []), jgh, jzA_328]) rfl rfl rfl ?_
  refine jT_xiload (v := (0, 1)) (pcN := 541) jI_379_539 rfl rfl rfl ?_
  refine jT_xi2l (x := 1) (z := 1) (pcN := 542) jI_379_541 rfl (by decide +kernel) rfl ?_
  refine jT_lcmp (a := 1) (b := 1) (z := 0) (by rfl) (by rfl) (by decide +kernel) (by decide +kernel) (by decide) ?_
  refine jT_xifT (pcN := 548) jI_379_543 rfl (by decide +kernel) rfl ?_
  refine jT_xgoto (pcN := 3740) jI_379_548 rfl ?_
  refine jT_xiinc (x := 0) (z := 5) (LN := [(5, (0, 5)), (7, (0, 1)), (6, (0, 0)), (4, (4, 3)), (3, (4, 2)), (2, (4, 1)), (1, (4, 0)), (0, (6, 0))]) (pcN := 3743) jI_379_3740 rfl rfl (by decide) rfl rfl ?_
  refine jT_xgoto (pcN := 28) jI_379_3743 rfl ?_
  refine jT_xiload (v := (0, 5)) (pcN := 30) jI_379_28 rfl rfl rfl ?_
  refine jT_xaload_n (v := (6, 0)) (pcN := 31) jI_379_30 rfl rfl rfl ?_
  refine jT_adv 1 (pcN := 32) (LN := [(5, (0, 5)), (7, (0, 1)), (6, (0, 0)), (4, (4, 3)), (3, (4, 2)), (2, (4, 1)), (1, (4, 0)), (0, (6, 0))]) (stN := [(0, 5), (0, 5)]) (hsN := [jzA_326, jzA_330, (101, [], [1]), jgh, jgh, jgh, jgh, jgh, jgh, jgh, jgh, jgh, jgh, jzA_327, jzA_322, (100, [], ((((((((((((((jS0).set ((7 * x1).toNat) 0)).set ((7 * x1 + 1).toNat) 0)).set ((7 * x1 + 2).toNat) 0)).set ((7 * x1 + 3).toNat) 0)).set ((7 * x1 + 4).toNat) 0)).set ((7 * x1 + 5).toNat) 0)).set ((7 * x1 + 6).toNat) 1)), (100, [], []), jzA_323, jzA_331, jgh, jgh, (101, [], [0, 0, 0, 0, 0, 0]), jgh, jgh, jgh, jgh, jgh, jgh, jgh, jgh, jzA_324, jgh, jgh, jgh, jgh, (100, [], jS0), jgh, jgh, jgh, jgh, jgh, jgh, jgh, (4, [(4, 44), (1, 1)], []), (101, [], [0, 0, 0, 0, 0, 0]), (101, [], [0, 0, 0, 0, 0, 0]), (4, [(4, 45), (1, 1)], []), jgh, jzA_328]) (c1 := 0) (s1 := 0) (c2 := 0) (s2 := 0) (by exact rfl) ?_ (by omega) (by omega)
  refine jT_xiconst (k := 5) (pcN := 33) jI_379_32 rfl ?_
  refine jT_xisub (x := 5) (y := 5) (z := 0) (pcN := 34) jI_379_33 rfl (by decide) rfl ?_
  refine jT_xicT (pcN := 3746) jI_379_34 rfl (by decide +kernel) rfl ?_
  refine jT_xiconst (k := 1) (pcN := 3747) jI_379_3746 rfl ?_
  exact jT_ret rfl (by decide) (by show 45 ≤ 49; decide) (by omega) (by omega) ⟨rfl, rfl⟩
set_option maxRecDepth 100000 in
theorem jL_2_4 {d : Nat} {x0 x1 x2 x3 x4 : Int} (h_x0 : (-2147483648) ≤ x0 ∧ x0 ≤ 2147483647) (h_x1 : 0 ≤ x1 ∧ x1 ≤ 7) (h_x2 : 0 ≤ x2 ∧ x2 ≤ 7) (h_x3 : 8 ≤ x3 ∧ x3 ≤ 2147483647) (h_x4 : (-2147483648) ≤ x4 ∧ x4 ≤ (-1)) : jT [x0, x1, x2, x3, x4] (d + 3) 379 30 443 [(5, (0, 0)), (4, (4, 3)), (3, (4, 2)), (2, (4, 1)), (1, (4, 0)), (0, (6, 0))] [] jpA_267 1 6 (fun k v hsN => k = 0 ∧ v = (0, 1)) := by
  refine jT_xaload_n (v := (4, 0)) (pcN := 444) jI_379_443 rfl rfl rfl ?_
  refine jT_xaload_n (v := (6, 0)) (pcN := 445) jI_379_444 rfl rfl rfl ?_
  refine jT_xiload (v := (0, 0)) (pcN := 447) jI_379_445 rfl rfl rfl ?_
  refine jT_xiconst (k := 1) (pcN := 448) jI_379_447 rfl ?_
  refine jT_xiadd (x := 0) (y := 1) (z := 1) (pcN := 449) jI_379_448 rfl (by decide) rfl ?_
  refine jT_adv 1 (pcN := 450) (LN := [(5, (0, 0)), (4, (4, 3)), (3, (4, 2)), (2, (4, 1)), (1, (4, 0)), (0, (6, 0))]) (stN := [(0, x1), (4, 0)]) (hsN := jpA_267) (c1 := 0) (s1 := 0) (c2 := 1) (s2 := 6) (by exact rfl) ?_ (by omega) (by omega)
  refine jT_xaload_n (v := (6, 0)) (pcN := 451) jI_379_450 rfl rfl rfl ?_
  refine jT_xiload (v := (0, 0)) (pcN := 453) jI_379_451 rfl rfl rfl ?_
  refine jT_xiconst (k := 2) (pcN := 454) jI_379_453 rfl ?_
  refine jT_xiadd (x := 0) (y := 2) (z := 2) (pcN := 455) jI_379_454 rfl (by decide) rfl ?_
  refine jT_adv 1 (pcN := 456) (LN := [(5, (0, 0)), (4, (4, 3)), (3, (4, 2)), (2, (4, 1)), (1, (4, 0)), (0, (6, 0))]) (stN := [(0, x2), (0, x1), (4, 0)]) (hsN := jpA_267) (c1 := 0) (s1 := 0) (c2 := 1) (s2 := 6) (by exact rfl) ?_ (by omega) (by omega)
  refine jT_xaload_n (v := (6, 0)) (pcN := 457) jI_379_456 rfl rfl rfl ?_
  refine jT_xiload (v := (0, 0)) (pcN := 459) jI_379_457 rfl rfl rfl ?_
  refine jT_xiconst (k := 3) (pcN := 460) jI_379_459 rfl ?_
  refine jT_xiadd (x := 0) (y := 3) (z := 3) (pcN := 461) jI_379_460 rfl (by decide) rfl ?_
  refine jT_adv 1 (pcN := 462) (LN := [(5, (0, 0)), (4, (4, 3)), (3, (4, 2)), (2, (4, 1)), (1, (4, 0)), (0, (6, 0))]) (stN := [(0, x3), (0, x2), (0, x1), (4, 0)]) (hsN := jpA_267) (c1 := 0) (s1 := 0) (c2 := 1) (s2 := 6) (by exact rfl) ?_ (by omega) (by omega)
  refine jT_xaload_n (v := (6, 0)) (pcN := 463) jI_379_462 rfl rfl rfl ?_
  refine jT_xiload (v := (0, 0)) (pcN := 465) jI_379_463 rfl rfl rfl ?_
  refine jT_xiconst (k := 4) (pcN := 466) jI_379_465 rfl ?_
  refine jT_xiadd (x := 0) (y := 4) (z := 4) (pcN := 467) jI_379_466 rfl (by decide) rfl ?_
  refine jT_adv 1 (pcN := 468) (LN := [(5, (0, 0)), (4, (4, 3)), (3, (4, 2)), (2, (4, 1)), (1, (4, 0)), (0, (6, 0))]) (stN := [(0, x4), (0, x3), (0, x2), (0, x1), (4, 0)]) (hsN := jpA_267) (c1 := 0) (s1 := 0) (c2 := 1) (s2 := 6) (by exact rfl) ?_ (by omega) (by omega)
  refine jT_ifF (a := x4) (t := 475) (by rfl) (by rfl) (by rfl) (jw_idd (by omega) (by omega)) (by simp only [jcP] <;> omega) ?_
  refine jT_xiconst (k := 1) (pcN := 472) jI_379_471 rfl ?_
  refine jT_xgoto (pcN := 476) jI_379_472 rfl ?_
  refine jT_xaload_n (v := (4, 2)) (pcN := 477) jI_379_476 rfl rfl rfl ?_
  refine jT_fR [0, 2, 4, 5, 6, 7, 8, 9, 10, 11, 12, 13, 14] 30 (y := 328) (pcN := 480) (dC := 2) (bc1 := 1) (bc2 := 6) (c1 := 0) (c2 := 0) (as := [(4, 0), (0, x1), (0, x2), (0, x3), (0, 1), (4, 2)]) (asC := [(4, 0), (0, x1), (0, x2), (0, x3), (0, 1), (4, 1)]) (LN := [(5, (0, 0)), (4, (4, 3)), (3, (4, 2)), (2, (4, 1)), (1, (4, 0)), (0, (6, 0))]) (stN := []) (hsC := jpA_15) (v := (0, 1)) (st2 := [(0, 1)]) (jA_328_57 (d := 0) (by omega) (by omega) (by omega)) (by rfl) (by rfl) (by decide +kernel) (by rfl) (by rfl) (by omega) (by omega) (by omega) (by omega) rfl ?_
  refine jT_xistore (v := (0, 1)) (LN := [(6, (0, 1)), (5, (0, 0)), (4, (4, 3)), (3, (4, 2)), (2, (4, 1)), (1, (4, 0)), (0, (6, 0))]) (pcN := 482) jI_379_480 rfl rfl rfl rfl ?_
  refine jT_xaload_n (v := (4, 1)) (pcN := 483) jI_379_482 rfl rfl rfl ?_
  refine jT_xaload_n (v := (6, 0)) (pcN := 484) jI_379_483 rfl rfl rfl ?_
  refine jT_xiload (v := (0, 0)) (pcN := 486) jI_379_484 rfl rfl rfl ?_
  refine jT_xiconst (k := 1) (pcN := 487) jI_379_486 rfl ?_
  refine jT_xiadd (x := 0) (y := 1) (z := 1) (pcN := 488) jI_379_487 rfl (by decide) rfl ?_
  refine jT_adv 1 (pcN := 489) (LN := [(6, (0, 1)), (5, (0, 0)), (4, (4, 3)), (3, (4, 2)), (2, (4, 1)), (1, (4, 0)), (0, (6, 0))]) (stN := [(0, x1), (4, 1)]) (hsN := jpA_267) (c1 := 0) (s1 := 0) (c2 := 0) (s2 := 0) (by exact rfl) ?_ (by omega) (by omega)
  refine jT_xaload_n (v := (6, 0)) (pcN := 490) jI_379_489 rfl rfl rfl ?_
  refine jT_xiload (v := (0, 0)) (pcN := 492) jI_379_490 rfl rfl rfl ?_
  refine jT_xiconst (k := 2) (pcN := 493) jI_379_492 rfl ?_
  refine jT_xiadd (x := 0) (y := 2) (z := 2) (pcN := 494) jI_379_493 rfl (by decide) rfl ?_
  refine jT_adv 1 (pcN := 495) (LN := [(6, (0, 1)), (5, (0, 0)), (4, (4, 3)), (3, (4, 2)), (2, (4, 1)), (1, (4, 0)), (0, (6, 0))]) (stN := [(0, x2), (0, x1), (4, 1)]) (hsN := jpA_267) (c1 := 0) (s1 := 0) (c2 := 0) (s2 := 0) (by exact rfl) ?_ (by omega) (by omega)
  refine jT_xaload_n (v := (6, 0)) (pcN := 496) jI_379_495 rfl rfl rfl ?_
  refine jT_xiload (v := (0, 0)) (pcN := 498) jI_379_496 rfl rfl rfl ?_
  refine jT_xiconst (k := 3) (pcN := 499) jI_379_498 rfl ?_
  refine jT_xiadd (x := 0) (y := 3) (z := 3) (pcN := 500) jI_379_499 rfl (by decide) rfl ?_
  refine jT_adv 1 (pcN := 501) (LN := [(6, (0, 1)), (5, (0, 0)), (4, (4, 3)), (3, (4, 2)), (2, (4, 1)), (1, (4, 0)), (0, (6, 0))]) (stN := [(0, x3), (0, x2), (0, x1), (4, 1)]) (hsN := jpA_267) (c1 := 0) (s1 := 0) (c2 := 0) (s2 := 0) (by exact rfl) ?_ (by omega) (by omega)
  refine jT_xaload_n (v := (6, 0)) (pcN := 502) jI_379_501 rfl rfl rfl ?_
  refine jT_xiload (v := (0, 0)) (pcN := 504) jI_379_502 rfl rfl rfl ?_
  refine jT_xiconst (k := 4) (pcN := 505) jI_379_504 rfl ?_
  refine jT_xiadd (x := 0) (y := 4) (z := 4) (pcN := 506) jI_379_505 rfl (by decide) rfl ?_
  refine jT_adv 1 (pcN := 507) (LN := [(6, (0, 1)), (5, (0, 0)), (4, (4, 3)), (3, (4, 2)), (2, (4, 1)), (1, (4, 0)), (0, (6, 0))]) (stN := [(0, x4), (0, x3), (0, x2), (0, x1), (4, 1)]) (hsN := jpA_267) (c1 := 0) (s1 := 0) (c2 := 0) (s2 := 0) (by exact rfl) ?_ (by omega) (by omega)
  refine jT_ifF (a := x4) (t := 514) (by rfl) (by rfl) (by rfl) (jw_idd (by omega) (by omega)) (by simp only [jcP] <;> omega) ?_
  refine jT_xiconst (k := 1) (pcN := 511) jI_379_510 rfl ?_
  refine jT_xgoto (pcN := 515) jI_379_511 rfl ?_
  refine jT_fB [1, 15, 16, 17, 18, 19, 20, 21, 22, 23, 24, 25, 26, 27, 28, 29] 30 (y := 201) (pcN := 518) (dC := 2) (bc1 := 0) (bc2 := 0) (c1 := 0) (c2 := 0) (as := [(4, 1), (0, x1), (0, x2), (0, x3), (0, 1)]) (asC := [(4, 0), (0, x1), (0, x2), (0, x3), (0, 1)]) (LN := [(6, (0, 1)), (5, (0, 0)), (4, (4, 3)), (3, (4, 2)), (2, (4, 1)), (1, (4, 0)), (0, (6, 0))]) (stN := []) (hsC := jpA_22) (hsD := jpA_20) (v := (0, 0)) (st2 := [(0, 0)]) (hs2 := jpA_306) (jA_201_59 (d := 0) (by omega) (by omega) (by omega)) (by rfl) (by rfl) (by decide +kernel) (by rfl) (by rfl) (by omega) (by omega) (by omega) (by omega) rfl (by decide +kernel) ?_
  refine jT_xistore (v := (0, 0)) (LN := [(7, (0, 0)), (6, (0, 1)), (5, (0, 0)), (4, (4, 3)), (3, (4, 2)), (2, (4, 1)), (1, (4, 0)), (0, (6, 0))]) (pcN := 520) jI_379_518 rfl rfl rfl rfl ?_
  refine jT_xaload_n (v := (4, 1)) (pcN := 521) jI_379_520 rfl rfl rfl ?_
  refine jT_fR [1, 15, 16, 17, 18, 19, 20, 21, 22, 23, 24, 25, 26, 27, 28, 29] 30 (y := 186) (pcN := 524) (dC := 0) (bc1 := 0) (bc2 := 0) (c1 := 0) (c2 := 0) (as := [(4, 1)]) (asC := [(4, 0)]) (LN := [(7, (0, 0)), (6, (0, 1)), (5, (0, 0)), (4, (4, 3)), (3, (4, 2)), (2, (4, 1)), (1, (4, 0)), (0, (6, 0))]) (stN := []) (hsC := jpA_20) (v := (0, 1)) (st2 := [(0, 1)]) (jA_186_8 (d := 0)) (by rfl) (by rfl) (by decide +kernel) (by rfl) (by rfl) (by omega) (by omega) (by omega) (by omega) rfl ?_
  refine jT_xiload (v := (0, 1)) (pcN := 526) jI_379_524 rfl rfl rfl ?_
  refine jT_xicT (pcN := 531) jI_379_526 rfl (by decide +kernel) rfl ?_
  refine jT_xiload (v := (0, 1)) (pcN := 533) jI_379_531 rfl rfl rfl ?_
  refine jT_xifT (pcN := 548) jI_379_533 rfl (by decide +kernel) rfl ?_
  refine jT_xgoto (pcN := 3740) jI_379_548 rfl ?_
  refine jT_xiinc (x := 0) (z := 5) (LN := [(5, (0, 5)), (7, (0, 0)), (6, (0, 1)), (4, (4, 3)), (3, (4, 2)), (2, (4, 1)), (1, (4, 0)), (0, (6, 0))]) (pcN := 3743) jI_379_3740 rfl rfl (by decide) rfl rfl ?_
  refine jT_xgoto (pcN := 28) jI_379_3743 rfl ?_
  refine jT_xiload (v := (0, 5)) (pcN := 30) jI_379_28 rfl rfl rfl ?_
  refine jT_xaload_n (v := (6, 0)) (pcN := 31) jI_379_30 rfl rfl rfl ?_
  refine jT_adv 1 (pcN := 32) (LN := [(5, (0, 5)), (7, (0, 0)), (6, (0, 1)), (4, (4, 3)), (3, (4, 2)), (2, (4, 1)), (1, (4, 0)), (0, (6, 0))]) (stN := [(0, 5), (0, 5)]) (hsN := jpA_306) (c1 := 0) (s1 := 0) (c2 := 0) (s2 := 0) (by exact rfl) ?_ (by omega) (by omega)
  refine jT_xiconst (k := 5) (pcN := 33) jI_379_32 rfl ?_
  refine jT_xisub (x := 5) (y := 5) (z := 0) (pcN := 34) jI_379_33 rfl (by decide) rfl ?_
  refine jT_xicT (pcN := 3746) jI_379_34 rfl (by decide +kernel) rfl ?_
  refine jT_xiconst (k := 1) (pcN := 3747) jI_379_3746 rfl ?_
  exact jT_ret rfl (by decide) (by show 30 ≤ 30; decide) (by omega) (by omega) ⟨rfl, rfl⟩
set_option maxRecDepth 100000 in
theorem jL_2_5 {d : Nat} {x0 x1 x2 x3 x4 : Int} (h_x0 : (-2147483648) ≤ x0 ∧ x0 ≤ 2147483647) (h_x1 : 0 ≤ x1 ∧ x1 ≤ 7) (h_x2 : 8 ≤ x2 ∧ x2 ≤ 2147483647) (h_x3 : (-2147483648) ≤ x3 ∧ x3 ≤ 2147483647) (h_x4 : (-2147483648) ≤ x4 ∧ x4 ≤ (-1)) : jT [x0, x1, x2, x3, x4] (d + 3) 379 30 443 [(5, (0, 0)), (4, (4, 3)), (3, (4, 2)), (2, (4, 1)), (1, (4, 0)), (0, (6, 0))] [] jpA_267 1 6 (fun k v hsN => k = 0 ∧ v = (0, 1)) := by
  refine jT_xaload_n (v := (4, 0)) (pcN := 444) jI_379_443 rfl rfl rfl ?_
  refine jT_xaload_n (v := (6, 0)) (pcN := 445) jI_379_444 rfl rfl rfl ?_
  refine jT_xiload (v := (0, 0)) (pcN := 447) jI_379_445 rfl rfl rfl ?_
  refine jT_xiconst (k := 1) (pcN := 448) jI_379_447 rfl ?_
  refine jT_xiadd (x := 0) (y := 1) (z := 1) (pcN := 449) jI_379_448 rfl (by decide) rfl ?_
  refine jT_adv 1 (pcN := 450) (LN := [(5, (0, 0)), (4, (4, 3)), (3, (4, 2)), (2, (4, 1)), (1, (4, 0)), (0, (6, 0))]) (stN := [(0, x1), (4, 0)]) (hsN := jpA_267) (c1 := 0) (s1 := 0) (c2 := 1) (s2 := 6) (by exact rfl) ?_ (by omega) (by omega)
  refine jT_xaload_n (v := (6, 0)) (pcN := 451) jI_379_450 rfl rfl rfl ?_
  refine jT_xiload (v := (0, 0)) (pcN := 453) jI_379_451 rfl rfl rfl ?_
  refine jT_xiconst (k := 2) (pcN := 454) jI_379_453 rfl ?_
  refine jT_xiadd (x := 0) (y := 2) (z := 2) (pcN := 455) jI_379_454 rfl (by decide) rfl ?_
  refine jT_adv 1 (pcN := 456) (LN := [(5, (0, 0)), (4, (4, 3)), (3, (4, 2)), (2, (4, 1)), (1, (4, 0)), (0, (6, 0))]) (stN := [(0, x2), (0, x1), (4, 0)]) (hsN := jpA_267) (c1 := 0) (s1 := 0) (c2 := 1) (s2 := 6) (by exact rfl) ?_ (by omega) (by omega)
  refine jT_xaload_n (v := (6, 0)) (pcN := 457) jI_379_456 rfl rfl rfl ?_
  refine jT_xiload (v := (0, 0)) (pcN := 459) jI_379_457 rfl rfl rfl ?_
  refine jT_xiconst (k := 3) (pcN := 460) jI_379_459 rfl ?_
  refine jT_xiadd (x := 0) (y := 3) (z := 3) (pcN := 461) jI_379_460 rfl (by decide) rfl ?_
  refine jT_adv 1 (pcN := 462) (LN := [(5, (0, 0)), (4, (4, 3)), (3, (4, 2)), (2, (4, 1)), (1, (4, 0)), (0, (6, 0))]) (stN := [(0, x3), (0, x2), (0, x1), (4, 0)]) (hsN := jpA_267) (c1 := 0) (s1 := 0) (c2 := 1) (s2 := 6) (by exact rfl) ?_ (by omega) (by omega)
  refine jT_xaload_n (v := (6, 0)) (pcN := 463) jI_379_462 rfl rfl rfl ?_
  refine jT_xiload (v := (0, 0)) (pcN := 465) jI_379_463 rfl rfl rfl ?_
  refine jT_xiconst (k := 4) (pcN := 466) jI_379_465 rfl ?_
  refine jT_xiadd (x := 0) (y := 4) (z := 4) (pcN := 467) jI_379_466 rfl (by decide) rfl ?_
  refine jT_adv 1 (pcN := 468) (LN := [(5, (0, 0)), (4, (4, 3)), (3, (4, 2)), (2, (4, 1)), (1, (4, 0)), (0, (6, 0))]) (stN := [(0, x4), (0, x3), (0, x2), (0, x1), (4, 0)]) (hsN := jpA_267) (c1 := 0) (s1 := 0) (c2 := 1) (s2 := 6) (by exact rfl) ?_ (by omega) (by omega)
  refine jT_ifF (a := x4) (t := 475) (by rfl) (by rfl) (by rfl) (jw_idd (by omega) (by omega)) (by simp only [jcP] <;> omega) ?_
  refine jT_xiconst (k := 1) (pcN := 472) jI_379_471 rfl ?_
  refine jT_xgoto (pcN := 476) jI_379_472 rfl ?_
  refine jT_xaload_n (v := (4, 2)) (pcN := 477) jI_379_476 rfl rfl rfl ?_
  refine jT_fR [0, 2, 4, 5, 6, 7, 8, 9, 10, 11, 12, 13, 14] 30 (y := 328) (pcN := 480) (dC := 2) (bc1 := 1) (bc2 := 6) (c1 := 0) (c2 := 0) (as := [(4, 0), (0, x1), (0, x2), (0, x3), (0, 1), (4, 2)]) (asC := [(4, 0), (0, x1), (0, x2), (0, x3), (0, 1), (4, 1)]) (LN := [(5, (0, 0)), (4, (4, 3)), (3, (4, 2)), (2, (4, 1)), (1, (4, 0)), (0, (6, 0))]) (stN := []) (hsC := jpA_15) (v := (0, 1)) (st2 := [(0, 1)]) (jA_328_62 (d := 0) (by omega) (by omega) (by omega)) (by rfl) (by rfl) (by decide +kernel) (by rfl) (by rfl) (by omega) (by omega) (by omega) (by omega) rfl ?_
  refine jT_xistore (v := (0, 1)) (LN := [(6, (0, 1)), (5, (0, 0)), (4, (4, 3)), (3, (4, 2)), (2, (4, 1)), (1, (4, 0)), (0, (6, 0))]) (pcN := 482) jI_379_480 rfl rfl rfl rfl ?_
  refine jT_xaload_n (v := (4, 1)) (pcN := 483) jI_379_482 rfl rfl rfl ?_
  refine jT_xaload_n (v := (6, 0)) (pcN := 484) jI_379_483 rfl rfl rfl ?_
  refine jT_xiload (v := (0, 0)) (pcN := 486) jI_379_484 rfl rfl rfl ?_
  refine jT_xiconst (k := 1) (pcN := 487) jI_379_486 rfl ?_
  refine jT_xiadd (x := 0) (y := 1) (z := 1) (pcN := 488) jI_379_487 rfl (by decide) rfl ?_
  refine jT_adv 1 (pcN := 489) (LN := [(6, (0, 1)), (5, (0, 0)), (4, (4, 3)), (3, (4, 2)), (2, (4, 1)), (1, (4, 0)), (0, (6, 0))]) (stN := [(0, x1), (4, 1)]) (hsN := jpA_267) (c1 := 0) (s1 := 0) (c2 := 0) (s2 := 0) (by exact rfl) ?_ (by omega) (by omega)
  refine jT_xaload_n (v := (6, 0)) (pcN := 490) jI_379_489 rfl rfl rfl ?_
  refine jT_xiload (v := (0, 0)) (pcN := 492) jI_379_490 rfl rfl rfl ?_
  refine jT_xiconst (k := 2) (pcN := 493) jI_379_492 rfl ?_
  refine jT_xiadd (x := 0) (y := 2) (z := 2) (pcN := 494) jI_379_493 rfl (by decide) rfl ?_
  refine jT_adv 1 (pcN := 495) (LN := [(6, (0, 1)), (5, (0, 0)), (4, (4, 3)), (3, (4, 2)), (2, (4, 1)), (1, (4, 0)), (0, (6, 0))]) (stN := [(0, x2), (0, x1), (4, 1)]) (hsN := jpA_267) (c1 := 0) (s1 := 0) (c2 := 0) (s2 := 0) (by exact rfl) ?_ (by omega) (by omega)
  refine jT_xaload_n (v := (6, 0)) (pcN := 496) jI_379_495 rfl rfl rfl ?_
  refine jT_xiload (v := (0, 0)) (pcN := 498) jI_379_496 rfl rfl rfl ?_
  refine jT_xiconst (k := 3) (pcN := 499) jI_379_498 rfl ?_
  refine jT_xiadd (x := 0) (y := 3) (z := 3) (pcN := 500) jI_379_499 rfl (by decide) rfl ?_
  refine jT_adv 1 (pcN := 501) (LN := [(6, (0, 1)), (5, (0, 0)), (4, (4, 3)), (3, (4, 2)), (2, (4, 1)), (1, (4, 0)), (0, (6, 0))]) (stN := [(0, x3), (0, x2), (0, x1), (4, 1)]) (hsN := jpA_267) (c1 := 0) (s1 := 0) (c2 := 0) (s2 := 0) (by exact rfl) ?_ (by omega) (by omega)
  refine jT_xaload_n (v := (6, 0)) (pcN := 502) jI_379_501 rfl rfl rfl ?_
  refine jT_xiload (v := (0, 0)) (pcN := 504) jI_379_502 rfl rfl rfl ?_
  refine jT_xiconst (k := 4) (pcN := 505) jI_379_504 rfl ?_
  refine jT_xiadd (x := 0) (y := 4) (z := 4) (pcN := 506) jI_379_505 rfl (by decide) rfl ?_
  refine jT_adv 1 (pcN := 507) (LN := [(6, (0, 1)), (5, (0, 0)), (4, (4, 3)), (3, (4, 2)), (2, (4, 1)), (1, (4, 0)), (0, (6, 0))]) (stN := [(0, x4), (0, x3), (0, x2), (0, x1), (4, 1)]) (hsN := jpA_267) (c1 := 0) (s1 := 0) (c2 := 0) (s2 := 0) (by exact rfl) ?_ (by omega) (by omega)
  refine jT_ifF (a := x4) (t := 514) (by rfl) (by rfl) (by rfl) (jw_idd (by omega) (by omega)) (by simp only [jcP] <;> omega) ?_
  refine jT_xiconst (k := 1) (pcN := 511) jI_379_510 rfl ?_
  refine jT_xgoto (pcN := 515) jI_379_511 rfl ?_
  refine jT_fB [1, 15, 16, 17, 18, 19, 20, 21, 22, 23, 24, 25, 26, 27, 28, 29] 30 (y := 201) (pcN := 518) (dC := 2) (bc1 := 0) (bc2 := 0) (c1 := 0) (c2 := 0) (as := [(4, 1), (0, x1), (0, x2), (0, x3), (0, 1)]) (asC := [(4, 0), (0, x1), (0, x2), (0, x3), (0, 1)]) (LN := [(6, (0, 1)), (5, (0, 0)), (4, (4, 3)), (3, (4, 2)), (2, (4, 1)), (1, (4, 0)), (0, (6, 0))]) (stN := []) (hsC := jpA_22) (hsD := jpA_20) (v := (0, 0)) (st2 := [(0, 0)]) (hs2 := jpA_306) (jA_201_64 (d := 0) (by omega) (by omega) (by omega)) (by rfl) (by rfl) (by decide +kernel) (by rfl) (by rfl) (by omega) (by omega) (by omega) (by omega) rfl (by decide +kernel) ?_
  refine jT_xistore (v := (0, 0)) (LN := [(7, (0, 0)), (6, (0, 1)), (5, (0, 0)), (4, (4, 3)), (3, (4, 2)), (2, (4, 1)), (1, (4, 0)), (0, (6, 0))]) (pcN := 520) jI_379_518 rfl rfl rfl rfl ?_
  refine jT_xaload_n (v := (4, 1)) (pcN := 521) jI_379_520 rfl rfl rfl ?_
  refine jT_fR [1, 15, 16, 17, 18, 19, 20, 21, 22, 23, 24, 25, 26, 27, 28, 29] 30 (y := 186) (pcN := 524) (dC := 0) (bc1 := 0) (bc2 := 0) (c1 := 0) (c2 := 0) (as := [(4, 1)]) (asC := [(4, 0)]) (LN := [(7, (0, 0)), (6, (0, 1)), (5, (0, 0)), (4, (4, 3)), (3, (4, 2)), (2, (4, 1)), (1, (4, 0)), (0, (6, 0))]) (stN := []) (hsC := jpA_20) (v := (0, 1)) (st2 := [(0, 1)]) (jA_186_8 (d := 0)) (by rfl) (by rfl) (by decide +kernel) (by rfl) (by rfl) (by omega) (by omega) (by omega) (by omega) rfl ?_
  refine jT_xiload (v := (0, 1)) (pcN := 526) jI_379_524 rfl rfl rfl ?_
  refine jT_xicT (pcN := 531) jI_379_526 rfl (by decide +kernel) rfl ?_
  refine jT_xiload (v := (0, 1)) (pcN := 533) jI_379_531 rfl rfl rfl ?_
  refine jT_xifT (pcN := 548) jI_379_533 rfl (by decide +kernel) rfl ?_
  refine jT_xgoto (pcN := 3740) jI_379_548 rfl ?_
  refine jT_xiinc (x := 0) (z := 5) (LN := [(5, (0, 5)), (7, (0, 0)), (6, (0, 1)), (4, (4, 3)), (3, (4, 2)), (2, (4, 1)), (1, (4, 0)), (0, (6, 0))]) (pcN := 3743) jI_379_3740 rfl rfl (by decide) rfl rfl ?_
  refine jT_xgoto (pcN := 28) jI_379_3743 rfl ?_
  refine jT_xiload (v := (0, 5)) (pcN := 30) jI_379_28 rfl rfl rfl ?_
  refine jT_xaload_n (v := (6, 0)) (pcN := 31) jI_379_30 rfl rfl rfl ?_
  refine jT_adv 1 (pcN := 32) (LN := [(5, (0, 5)), (7, (0, 0)), (6, (0, 1)), (4, (4, 3)), (3, (4, 2)), (2, (4, 1)), (1, (4, 0)), (0, (6, 0))]) (stN := [(0, 5), (0, 5)]) (hsN := jpA_306) (c1 := 0) (s1 := 0) (c2 := 0) (s2 := 0) (by exact rfl) ?_ (by omega) (by omega)
  refine jT_xiconst (k := 5) (pcN := 33) jI_379_32 rfl ?_
  refine jT_xisub (x := 5) (y := 5) (z := 0) (pcN := 34) jI_379_33 rfl (by decide) rfl ?_
  refine jT_xicT (pcN := 3746) jI_379_34 rfl (by decide +kernel) rfl ?_
  refine jT_xiconst (k := 1) (pcN := 3747) jI_379_3746 rfl ?_
  exact jT_ret rfl (by decide) (by show 30 ≤ 30; decide) (by omega) (by omega) ⟨rfl, rfl⟩
set_option maxRecDepth 100000 in
theorem jL_2_6 {d : Nat} {x0 x1 x2 x3 x4 : Int} (h_x0 : (-2147483648) ≤ x0 ∧ x0 ≤ 2147483647) (h_x1 : 8 ≤ x1 ∧ x1 ≤ 2147483647) (h_x2 : (-2147483648) ≤ x2 ∧ x2 ≤ 2147483647) (h_x3 : (-2147483648) ≤ x3 ∧ x3 ≤ 2147483647) (h_x4 : (-2147483648) ≤ x4 ∧ x4 ≤ (-1)) : jT [x0, x1, x2, x3, x4] (d + 3) 379 30 443 [(5, (0, 0)), (4, (4, 3)), (3, (4, 2)), (2, (4, 1)), (1, (4, 0)), (0, (6, 0))] [] jpA_267 1 6 (fun k v hsN => k = 0 ∧ v = (0, 1)) := by
  refine jT_xaload_n (v := (4, 0)) (pcN := 444) jI_379_443 rfl rfl rfl ?_
  refine jT_xaload_n (v := (6, 0)) (pcN := 445) jI_379_444 rfl rfl rfl ?_
  refine jT_xiload (v := (0, 0)) (pcN := 447) jI_379_445 rfl rfl rfl ?_
  refine jT_xiconst (k := 1) (pcN := 448) jI_379_447 rfl ?_
  refine jT_xiadd (x := 0) (y := 1) (z := 1) (pcN := 449) jI_379_448 rfl (by decide) rfl ?_
  refine jT_adv 1 (pcN := 450) (LN := [(5, (0, 0)), (4, (4, 3)), (3, (4, 2)), (2, (4, 1)), (1, (4, 0)), (0, (6, 0))]) (stN := [(0, x1), (4, 0)]) (hsN := jpA_267) (c1 := 0) (s1 := 0) (c2 := 1) (s2 := 6) (by exact rfl) ?_ (by omega) (by omega)
  refine jT_xaload_n (v := (6, 0)) (pcN := 451) jI_379_450 rfl rfl rfl ?_
  refine jT_xiload (v := (0, 0)) (pcN := 453) jI_379_451 rfl rfl rfl ?_
  refine jT_xiconst (k := 2) (pcN := 454) jI_379_453 rfl ?_
  refine jT_xiadd (x := 0) (y := 2) (z := 2) (pcN := 455) jI_379_454 rfl (by decide) rfl ?_
  refine jT_adv 1 (pcN := 456) (LN := [(5, (0, 0)), (4, (4, 3)), (3, (4, 2)), (2, (4, 1)), (1, (4, 0)), (0, (6, 0))]) (stN := [(0, x2), (0, x1), (4, 0)]) (hsN := jpA_267) (c1 := 0) (s1 := 0) (c2 := 1) (s2 := 6) (by exact rfl) ?_ (by omega) (by omega)
  refine jT_xaload_n (v := (6, 0)) (pcN := 457) jI_379_456 rfl rfl rfl ?_
  refine jT_xiload (v := (0, 0)) (pcN := 459) jI_379_457 rfl rfl rfl ?_
  refine jT_xiconst (k := 3) (pcN := 460) jI_379_459 rfl ?_
  refine jT_xiadd (x := 0) (y := 3) (z := 3) (pcN := 461) jI_379_460 rfl (by decide) rfl ?_
  refine jT_adv 1 (pcN := 462) (LN := [(5, (0, 0)), (4, (4, 3)), (3, (4, 2)), (2, (4, 1)), (1, (4, 0)), (0, (6, 0))]) (stN := [(0, x3), (0, x2), (0, x1), (4, 0)]) (hsN := jpA_267) (c1 := 0) (s1 := 0) (c2 := 1) (s2 := 6) (by exact rfl) ?_ (by omega) (by omega)
  refine jT_xaload_n (v := (6, 0)) (pcN := 463) jI_379_462 rfl rfl rfl ?_
  refine jT_xiload (v := (0, 0)) (pcN := 465) jI_379_463 rfl rfl rfl ?_
  refine jT_xiconst (k := 4) (pcN := 466) jI_379_465 rfl ?_
  refine jT_xiadd (x := 0) (y := 4) (z := 4) (pcN := 467) jI_379_466 rfl (by decide) rfl ?_
  refine jT_adv 1 (pcN := 468) (LN := [(5, (0, 0)), (4, (4, 3)), (3, (4, 2)), (2, (4, 1)), (1, (4, 0)), (0, (6, 0))]) (stN := [(0, x4), (0, x3), (0, x2), (0, x1), (4, 0)]) (hsN := jpA_267) (c1 := 0) (s1 := 0) (c2 := 1) (s2 := 6) (by exact rfl) ?_ (by omega) (by omega)
  refine jT_ifF (a := x4) (t := 475) (by rfl) (by rfl) (by rfl) (jw_idd (by omega) (by omega)) (by simp only [jcP] <;> omega) ?_
  refine jT_xiconst (k := 1) (pcN := 472) jI_379_471 rfl ?_
  refine jT_xgoto (pcN := 476) jI_379_472 rfl ?_
  refine jT_xaload_n (v := (4, 2)) (pcN := 477) jI_379_476 rfl rfl rfl ?_
  refine jT_fR [0, 2, 4, 5, 6, 7, 8, 9, 10, 11, 12, 13, 14] 30 (y := 328) (pcN := 480) (dC := 2) (bc1 := 1) (bc2 := 6) (c1 := 0) (c2 := 0) (as := [(4, 0), (0, x1), (0, x2), (0, x3), (0, 1), (4, 2)]) (asC := [(4, 0), (0, x1), (0, x2), (0, x3), (0, 1), (4, 1)]) (LN := [(5, (0, 0)), (4, (4, 3)), (3, (4, 2)), (2, (4, 1)), (1, (4, 0)), (0, (6, 0))]) (stN := []) (hsC := jpA_15) (v := (0, 1)) (st2 := [(0, 1)]) (jA_328_67 (d := 0) (by omega) (by omega) (by omega)) (by rfl) (by rfl) (by decide +kernel) (by rfl) (by rfl) (by omega) (by omega) (by omega) (by omega) rfl ?_
  refine jT_xistore (v := (0, 1)) (LN := [(6, (0, 1)), (5, (0, 0)), (4, (4, 3)), (3, (4, 2)), (2, (4, 1)), (1, (4, 0)), (0, (6, 0))]) (pcN := 482) jI_379_480 rfl rfl rfl rfl ?_
  refine jT_xaload_n (v := (4, 1)) (pcN := 483) jI_379_482 rfl rfl rfl ?_
  refine jT_xaload_n (v := (6, 0)) (pcN := 484) jI_379_483 rfl rfl rfl ?_
  refine jT_xiload (v := (0, 0)) (pcN := 486) jI_379_484 rfl rfl rfl ?_
  refine jT_xiconst (k := 1) (pcN := 487) jI_379_486 rfl ?_
  refine jT_xiadd (x := 0) (y := 1) (z := 1) (pcN := 488) jI_379_487 rfl (by decide) rfl ?_
  refine jT_adv 1 (pcN := 489) (LN := [(6, (0, 1)), (5, (0, 0)), (4, (4, 3)), (3, (4, 2)), (2, (4, 1)), (1, (4, 0)), (0, (6, 0))]) (stN := [(0, x1), (4, 1)]) (hsN := jpA_267) (c1 := 0) (s1 := 0) (c2 := 0) (s2 := 0) (by exact rfl) ?_ (by omega) (by omega)
  refine jT_xaload_n (v := (6, 0)) (pcN := 490) jI_379_489 rfl rfl rfl ?_
  refine jT_xiload (v := (0, 0)) (pcN := 492) jI_379_490 rfl rfl rfl ?_
  refine jT_xiconst (k := 2) (pcN := 493) jI_379_492 rfl ?_
  refine jT_xiadd (x := 0) (y := 2) (z := 2) (pcN := 494) jI_379_493 rfl (by decide) rfl ?_
  refine jT_adv 1 (pcN := 495) (LN := [(6, (0, 1)), (5, (0, 0)), (4, (4, 3)), (3, (4, 2)), (2, (4, 1)), (1, (4, 0)), (0, (6, 0))]) (stN := [(0, x2), (0, x1), (4, 1)]) (hsN := jpA_267) (c1 := 0) (s1 := 0) (c2 := 0) (s2 := 0) (by exact rfl) ?_ (by omega) (by omega)
  refine jT_xaload_n (v := (6, 0)) (pcN := 496) jI_379_495 rfl rfl rfl ?_
  refine jT_xiload (v := (0, 0)) (pcN := 498) jI_379_496 rfl rfl rfl ?_
  refine jT_xiconst (k := 3) (pcN := 499) jI_379_498 rfl ?_
  refine jT_xiadd (x := 0) (y := 3) (z := 3) (pcN := 500) jI_379_499 rfl (by decide) rfl ?_
  refine jT_adv 1 (pcN := 501) (LN := [(6, (0, 1)), (5, (0, 0)), (4, (4, 3)), (3, (4, 2)), (2, (4, 1)), (1, (4, 0)), (0, (6, 0))]) (stN := [(0, x3), (0, x2), (0, x1), (4, 1)]) (hsN := jpA_267) (c1 := 0) (s1 := 0) (c2 := 0) (s2 := 0) (by exact rfl) ?_ (by omega) (by omega)
  refine jT_xaload_n (v := (6, 0)) (pcN := 502) jI_379_501 rfl rfl rfl ?_
  refine jT_xiload (v := (0, 0)) (pcN := 504) jI_379_502 rfl rfl rfl ?_
  refine jT_xiconst (k := 4) (pcN := 505) jI_379_504 rfl ?_
  refine jT_xiadd (x := 0) (y := 4) (z := 4) (pcN := 506) jI_379_505 rfl (by decide) rfl ?_
  refine jT_adv 1 (pcN := 507) (LN := [(6, (0, 1)), (5, (0, 0)), (4, (4, 3)), (3, (4, 2)), (2, (4, 1)), (1, (4, 0)), (0, (6, 0))]) (stN := [(0, x4), (0, x3), (0, x2), (0, x1), (4, 1)]) (hsN := jpA_267) (c1 := 0) (s1 := 0) (c2 := 0) (s2 := 0) (by exact rfl) ?_ (by omega) (by omega)
  refine jT_ifF (a := x4) (t := 514) (by rfl) (by rfl) (by rfl) (jw_idd (by omega) (by omega)) (by simp only [jcP] <;> omega) ?_
  refine jT_xiconst (k := 1) (pcN := 511) jI_379_510 rfl ?_
  refine jT_xgoto (pcN := 515) jI_379_511 rfl ?_
  refine jT_fB [1, 15, 16, 17, 18, 19, 20, 21, 22, 23, 24, 25, 26, 27, 28, 29] 30 (y := 201) (pcN := 518) (dC := 2) (bc1 := 0) (bc2 := 0) (c1 := 0) (c2 := 0) (as := [(4, 1), (0, x1), (0, x2), (0, x3), (0, 1)]) (asC := [(4, 0), (0, x1), (0, x2), (0, x3), (0, 1)]) (LN := [(6, (0, 1)), (5, (0, 0)), (4, (4, 3)), (3, (4, 2)), (2, (4, 1)), (1, (4, 0)), (0, (6, 0))]) (stN := []) (hsC := jpA_22) (hsD := jpA_20) (v := (0, 0)) (st2 := [(0, 0)]) (hs2 := jpA_306) (jA_201_69 (d := 0) (by omega) (by omega) (by omega)) (by rfl) (by rfl) (by decide +kernel) (by rfl) (by rfl) (by omega) (by omega) (by omega) (by omega) rfl (by decide +kernel) ?_
  refine jT_xistore (v := (0, 0)) (LN := [(7, (0, 0)), (6, (0, 1)), (5, (0, 0)), (4, (4, 3)), (3, (4, 2)), (2, (4, 1)), (1, (4, 0)), (0, (6, 0))]) (pcN := 520) jI_379_518 rfl rfl rfl rfl ?_
  refine jT_xaload_n (v := (4, 1)) (pcN := 521) jI_379_520 rfl rfl rfl ?_
  refine jT_fR [1, 15, 16, 17, 18, 19, 20, 21, 22, 23, 24, 25, 26, 27, 28, 29] 30 (y := 186) (pcN := 524) (dC := 0) (bc1 := 0) (bc2 := 0) (c1 := 0) (c2 := 0) (as := [(4, 1)]) (asC := [(4, 0)]) (LN := [(7, (0, 0)), (6, (0, 1)), (5, (0, 0)), (4, (4, 3)), (3, (4, 2)), (2, (4, 1)), (1, (4, 0)), (0, (6, 0))]) (stN := []) (hsC := jpA_20) (v := (0, 1)) (st2 := [(0, 1)]) (jA_186_8 (d := 0)) (by rfl) (by rfl) (by decide +kernel) (by rfl) (by rfl) (by omega) (by omega) (by omega) (by omega) rfl ?_
  refine jT_xiload (v := (0, 1)) (pcN := 526) jI_379_524 rfl rfl rfl ?_
  refine jT_xicT (pcN := 531) jI_379_526 rfl (by decide +kernel) rfl ?_
  refine jT_xiload (v := (0, 1)) (pcN := 533) jI_379_531 rfl rfl rfl ?_
  refine jT_xifT (pcN := 548) jI_379_533 rfl (by decide +kernel) rfl ?_
  refine jT_xgoto (pcN := 3740) jI_379_548 rfl ?_
  refine jT_xiinc (x := 0) (z := 5) (LN := [(5, (0, 5)), (7, (0, 0)), (6, (0, 1)), (4, (4, 3)), (3, (4, 2)), (2, (4, 1)), (1, (4, 0)), (0, (6, 0))]) (pcN := 3743) jI_379_3740 rfl rfl (by decide) rfl rfl ?_
  refine jT_xgoto (pcN := 28) jI_379_3743 rfl ?_
  refine jT_xiload (v := (0, 5)) (pcN := 30) jI_379_28 rfl rfl rfl ?_
  refine jT_xaload_n (v := (6, 0)) (pcN := 31) jI_379_30 rfl rfl rfl ?_
  refine jT_adv 1 (pcN := 32) (LN := [(5, (0, 5)), (7, (0, 0)), (6, (0, 1)), (4, (4, 3)), (3, (4, 2)), (2, (4, 1)), (1, (4, 0)), (0, (6, 0))]) (stN := [(0, 5), (0, 5)]) (hsN := jpA_306) (c1 := 0) (s1 := 0) (c2 := 0) (s2 := 0) (by exact rfl) ?_ (by omega) (by omega)
  refine jT_xiconst (k := 5) (pcN := 33) jI_379_32 rfl ?_
  refine jT_xisub (x := 5) (y := 5) (z := 0) (pcN := 34) jI_379_33 rfl (by decide) rfl ?_
  refine jT_xicT (pcN := 3746) jI_379_34 rfl (by decide +kernel) rfl ?_
  refine jT_xiconst (k := 1) (pcN := 3747) jI_379_3746 rfl ?_
  exact jT_ret rfl (by decide) (by show 30 ≤ 30; decide) (by omega) (by omega) ⟨rfl, rfl⟩
theorem jI_379_475 : jmI (jm 379) 475 = (.iconst 0, 1) := by rfl
theorem jI_379_514 : jmI (jm 379) 514 = (.iconst 0, 1) := by rfl
set_option maxRecDepth 100000 in
theorem jL_2_7 {d : Nat} {x0 x1 x2 x3 x4 : Int} (h_x0 : (-2147483648) ≤ x0 ∧ x0 ≤ 2147483647) (h_x1 : (-2147483648) ≤ x1 ∧ x1 ≤ (-1)) (h_x2 : (-2147483648) ≤ x2 ∧ x2 ≤ 2147483647) (h_x3 : (-2147483648) ≤ x3 ∧ x3 ≤ 2147483647) (h_x4 : 0 ≤ x4 ∧ x4 ≤ 0) : jT [x0, x1, x2, x3, x4] (d + 3) 379 30 443 [(5, (0, 0)), (4, (4, 3)), (3, (4, 2)), (2, (4, 1)), (1, (4, 0)), (0, (6, 0))] [] jpA_267 1 6 (fun k v hsN => k = 0 ∧ v = (0, 1)) := by
  refine jT_xaload_n (v := (4, 0)) (pcN := 444) jI_379_443 rfl rfl rfl ?_
  refine jT_xaload_n (v := (6, 0)) (pcN := 445) jI_379_444 rfl rfl rfl ?_
  refine jT_xiload (v := (0, 0)) (pcN := 447) jI_379_445 rfl rfl rfl ?_
  refine jT_xiconst (k := 1) (pcN := 448) jI_379_447 rfl ?_
  refine jT_xiadd (x := 0) (y := 1) (z := 1) (pcN := 449) jI_379_448 rfl (by decide) rfl ?_
  refine jT_adv 1 (pcN := 450) (LN := [(5, (0, 0)), (4, (4, 3)), (3, (4, 2)), (2, (4, 1)), (1, (4, 0)), (0, (6, 0))]) (stN := [(0, x1), (4, 0)]) (hsN := jpA_267) (c1 := 0) (s1 := 0) (c2 := 1) (s2 := 6) (by exact rfl) ?_ (by omega) (by omega)
  refine jT_xaload_n (v := (6, 0)) (pcN := 451) jI_379_450 rfl rfl rfl ?_
  refine jT_xiload (v := (0, 0)) (pcN := 453) jI_379_451 rfl rfl rfl ?_
  refine jT_xiconst (k := 2) (pcN := 454) jI_379_453 rfl ?_
  refine jT_xiadd (x := 0) (y := 2) (z := 2) (pcN := 455) jI_379_454 rfl (by decide) rfl ?_
  refine jT_adv 1 (pcN := 456) (LN := [(5, (0, 0)), (4, (4, 3)), (3, (4, 2)), (2, (4, 1)), (1, (4, 0)), (0, (6, 0))]) (stN := [(0, x2), (0, x1), (4, 0)]) (hsN := jpA_267) (c1 := 0) (s1 := 0) (c2 := 1) (s2 := 6) (by exact rfl) ?_ (by omega) (by omega)
  refine jT_xaload_n (v := (6, 0)) (pcN := 457) jI_379_456 rfl rfl rfl ?_
  refine jT_xiload (v := (0, 0)) (pcN := 459) jI_379_457 rfl rfl rfl ?_
  refine jT_xiconst (k := 3) (pcN := 460) jI_379_459 rfl ?_
  refine jT_xiadd (x := 0) (y := 3) (z := 3) (pcN := 461) jI_379_460 rfl (by decide) rfl ?_
  refine jT_adv 1 (pcN := 462) (LN := [(5, (0, 0)), (4, (4, 3)), (3, (4, 2)), (2, (4, 1)), (1, (4, 0)), (0, (6, 0))]) (stN := [(0, x3), (0, x2), (0, x1), (4, 0)]) (hsN := jpA_267) (c1 := 0) (s1 := 0) (c2 := 1) (s2 := 6) (by exact rfl) ?_ (by omega) (by omega)
  refine jT_xaload_n (v := (6, 0)) (pcN := 463) jI_379_462 rfl rfl rfl ?_
  refine jT_xiload (v := (0, 0)) (pcN := 465) jI_379_463 rfl rfl rfl ?_
  refine jT_xiconst (k := 4) (pcN := 466) jI_379_465 rfl ?_
  refine jT_xiadd (x := 0) (y := 4) (z := 4) (pcN := 467) jI_379_466 rfl (by decide) rfl ?_
  refine jT_adv 1 (pcN := 468) (LN := [(5, (0, 0)), (4, (4, 3)), (3, (4, 2)), (2, (4, 1)), (1, (4, 0)), (0, (6, 0))]) (stN := [(0, x4), (0, x3), (0, x2), (0, x1), (4, 0)]) (hsN := jpA_267) (c1 := 0) (s1 := 0) (c2 := 1) (s2 := 6) (by exact rfl) ?_ (by omega) (by omega)
  refine jT_eq (LN := [(5, (0, 0)), (4, (4, 3)), (3, (4, 2)), (2, (4, 1)), (1, (4, 0)), (0, (6, 0))]) (stN := [(0, 0), (0, x3), (0, x2), (0, x1), (4, 0)]) (hsN := [jzA_265, jzA_266, jgh, jgh, jgh, jgh, jgh, jgh, jgh, jgh, jgh, jgh, jgh, jgh, jgh, jgh, jgh, jgh, jgh, jgh, jgh, jgh, jgh, jgh, jgh, jgh, jgh, jgh, jgh, jgh]) (rfl) (by simp only [List.cons.injEq, Prod.mk.injEq, and_true, true_and] <;> ((try unfold jw); (try unfold jwl); omega)) (rfl) ?_
  refine jT_xifT (pcN := 475) jI_379_468 rfl (by decide +kernel) rfl ?_
  refine jT_xiconst (k := 0) (pcN := 476) jI_379_475 rfl ?_
  refine jT_xaload_n (v := (4, 2)) (pcN := 477) jI_379_476 rfl rfl rfl ?_
  refine jT_fR [0, 2, 4, 5, 6, 7, 8, 9, 10, 11, 12, 13, 14] 30 (y := 328) (pcN := 480) (dC := 2) (bc1 := 1) (bc2 := 6) (c1 := 0) (c2 := 0) (as := [(4, 0), (0, x1), (0, x2), (0, x3), (0, 0), (4, 2)]) (asC := [(4, 0), (0, x1), (0, x2), (0, x3), (0, 0), (4, 1)]) (LN := [(5, (0, 0)), (4, (4, 3)), (3, (4, 2)), (2, (4, 1)), (1, (4, 0)), (0, (6, 0))]) (stN := []) (hsC := jpA_15) (v := (0, 1)) (st2 := [(0, 1)]) (jA_328_71 (d := 0) (by omega) (by omega) (by omega)) (by rfl) (by rfl) (by decide +kernel) (by rfl) (by rfl) (by omega) (by omega) (by omega) (by omega) rfl ?_
  refine jT_xistore (v := (0, 1)) (LN := [(6, (0, 1)), (5, (0, 0)), (4, (4, 3)), (3, (4, 2)), (2, (4, 1)), (1, (4, 0)), (0, (6, 0))]) (pcN := 482) jI_379_480 rfl rfl rfl rfl ?_
  refine jT_xaload_n (v := (4, 1)) (pcN := 483) jI_379_482 rfl rfl rfl ?_
  refine jT_xaload_n (v := (6, 0)) (pcN := 484) jI_379_483 rfl rfl rfl ?_
  refine jT_xiload (v := (0, 0)) (pcN := 486) jI_379_484 rfl rfl rfl ?_
  refine jT_xiconst (k := 1) (pcN := 487) jI_379_486 rfl ?_
  refine jT_xiadd (x := 0) (y := 1) (z := 1) (pcN := 488) jI_379_487 rfl (by decide) rfl ?_
  refine jT_adv 1 (pcN := 489) (LN := [(6, (0, 1)), (5, (0, 0)), (4, (4, 3)), (3, (4, 2)), (2, (4, 1)), (1, (4, 0)), (0, (6, 0))]) (stN := [(0, x1), (4, 1)]) (hsN := jpA_267) (c1 := 0) (s1 := 0) (c2 := 0) (s2 := 0) (by exact rfl) ?_ (by omega) (by omega)
  refine jT_xaload_n (v := (6, 0)) (pcN := 490) jI_379_489 rfl rfl rfl ?_
  refine jT_xiload (v := (0, 0)) (pcN := 492) jI_379_490 rfl rfl rfl ?_
  refine jT_xiconst (k := 2) (pcN := 493) jI_379_492 rfl ?_
  refine jT_xiadd (x := 0) (y := 2) (z := 2) (pcN := 494) jI_379_493 rfl (by decide) rfl ?_
  refine jT_adv 1 (pcN := 495) (LN := [(6, (0, 1)), (5, (0, 0)), (4, (4, 3)), (3, (4, 2)), (2, (4, 1)), (1, (4, 0)), (0, (6, 0))]) (stN := [(0, x2), (0, x1), (4, 1)]) (hsN := jpA_267) (c1 := 0) (s1 := 0) (c2 := 0) (s2 := 0) (by exact rfl) ?_ (by omega) (by omega)
  refine jT_xaload_n (v := (6, 0)) (pcN := 496) jI_379_495 rfl rfl rfl ?_
  refine jT_xiload (v := (0, 0)) (pcN := 498) jI_379_496 rfl rfl rfl ?_
  refine jT_xiconst (k := 3) (pcN := 499) jI_379_498 rfl ?_
  refine jT_xiadd (x := 0) (y := 3) (z := 3) (pcN := 500) jI_379_499 rfl (by decide) rfl ?_
  refine jT_adv 1 (pcN := 501) (LN := [(6, (0, 1)), (5, (0, 0)), (4, (4, 3)), (3, (4, 2)), (2, (4, 1)), (1, (4, 0)), (0, (6, 0))]) (stN := [(0, x3), (0, x2), (0, x1), (4, 1)]) (hsN := jpA_267) (c1 := 0) (s1 := 0) (c2 := 0) (s2 := 0) (by exact rfl) ?_ (by omega) (by omega)
  refine jT_xaload_n (v := (6, 0)) (pcN := 502) jI_379_501 rfl rfl rfl ?_
  refine jT_xiload (v := (0, 0)) (pcN := 504) jI_379_502 rfl rfl rfl ?_
  refine jT_xiconst (k := 4) (pcN := 505) jI_379_504 rfl ?_
  refine jT_xiadd (x := 0) (y := 4) (z := 4) (pcN := 506) jI_379_505 rfl (by decide) rfl ?_
  refine jT_adv 1 (pcN := 507) (LN := [(6, (0, 1)), (5, (0, 0)), (4, (4, 3)), (3, (4, 2)), (2, (4, 1)), (1, (4, 0)), (0, (6, 0))]) (stN := [(0, x4), (0, x3), (0, x2), (0, x1), (4, 1)]) (hsN := jpA_267) (c1 := 0) (s1 := 0) (c2 := 0) (s2 := 0) (by exact rfl) ?_ (by omega) (by omega)
  refine jT_eq (LN := [(6, (0, 1)), (5, (0, 0)), (4, (4, 3)), (3, (4, 2)), (2, (4, 1)), (1, (4, 0)), (0, (6, 0))]) (stN := [(0, 0), (0, x3), (0, x2), (0, x1), (4, 1)]) (hsN := [jzA_265, jzA_266, jgh, jgh, jgh, jgh, jgh, jgh, jgh, jgh, jgh, jgh, jgh, jgh, jgh, jgh, jgh, jgh, jgh, jgh, jgh, jgh, jgh, jgh, jgh, jgh, jgh, jgh, jgh, jgh]) (rfl) (by simp only [List.cons.injEq, Prod.mk.injEq, and_true, true_and] <;> ((try unfold jw); (try unfold jwl); omega)) (rfl) ?_
  refine jT_xifT (pcN := 514) jI_379_507 rfl (by decide +kernel) rfl ?_
  refine jT_xiconst (k := 0) (pcN := 515) jI_379_514 rfl ?_
  refine jT_fB [1, 15, 16, 17, 18, 19, 20, 21, 22, 23, 24, 25, 26, 27, 28, 29] 30 (y := 201) (pcN := 518) (dC := 2) (bc1 := 0) (bc2 := 0) (c1 := 0) (c2 := 0) (as := [(4, 1), (0, x1), (0, x2), (0, x3), (0, 0)]) (asC := [(4, 0), (0, x1), (0, x2), (0, x3), (0, 0)]) (LN := [(6, (0, 1)), (5, (0, 0)), (4, (4, 3)), (3, (4, 2)), (2, (4, 1)), (1, (4, 0)), (0, (6, 0))]) (stN := []) (hsC := jpA_22) (hsD := jpA_20) (v := (0, 0)) (st2 := [(0, 0)]) (hs2 := jpA_306) (jA_201_72 (d := 0) (by omega) (by omega) (by omega)) (by rfl) (by rfl) (by decide +kernel) (by rfl) (by rfl) (by omega) (by omega) (by omega) (by omega) rfl (by decide +kernel) ?_
  refine jT_xistore (v := (0, 0)) (LN := [(7, (0, 0)), (6, (0, 1)), (5, (0, 0)), (4, (4, 3)), (3, (4, 2)), (2, (4, 1)), (1, (4, 0)), (0, (6, 0))]) (pcN := 520) jI_379_518 rfl rfl rfl rfl ?_
  refine jT_xaload_n (v := (4, 1)) (pcN := 521) jI_379_520 rfl rfl rfl ?_
  refine jT_fR [1, 15, 16, 17, 18, 19, 20, 21, 22, 23, 24, 25, 26, 27, 28, 29] 30 (y := 186) (pcN := 524) (dC := 0) (bc1 := 0) (bc2 := 0) (c1 := 0) (c2 := 0) (as := [(4, 1)]) (asC := [(4, 0)]) (LN := [(7, (0, 0)), (6, (0, 1)), (5, (0, 0)), (4, (4, 3)), (3, (4, 2)), (2, (4, 1)), (1, (4, 0)), (0, (6, 0))]) (stN := []) (hsC := jpA_20) (v := (0, 1)) (st2 := [(0, 1)]) (jA_186_8 (d := 0)) (by rfl) (by rfl) (by decide +kernel) (by rfl) (by rfl) (by omega) (by omega) (by omega) (by omega) rfl ?_
  refine jT_xiload (v := (0, 1)) (pcN := 526) jI_379_524 rfl rfl rfl ?_
  refine jT_xicT (pcN := 531) jI_379_526 rfl (by decide +kernel) rfl ?_
  refine jT_xiload (v := (0, 1)) (pcN := 533) jI_379_531 rfl rfl rfl ?_
  refine jT_xifT (pcN := 548) jI_379_533 rfl (by decide +kernel) rfl ?_
  refine jT_xgoto (pcN := 3740) jI_379_548 rfl ?_
  refine jT_xiinc (x := 0) (z := 5) (LN := [(5, (0, 5)), (7, (0, 0)), (6, (0, 1)), (4, (4, 3)), (3, (4, 2)), (2, (4, 1)), (1, (4, 0)), (0, (6, 0))]) (pcN := 3743) jI_379_3740 rfl rfl (by decide) rfl rfl ?_
  refine jT_xgoto (pcN := 28) jI_379_3743 rfl ?_
  refine jT_xiload (v := (0, 5)) (pcN := 30) jI_379_28 rfl rfl rfl ?_
  refine jT_xaload_n (v := (6, 0)) (pcN := 31) jI_379_30 rfl rfl rfl ?_
  refine jT_adv 1 (pcN := 32) (LN := [(5, (0, 5)), (7, (0, 0)), (6, (0, 1)), (4, (4, 3)), (3, (4, 2)), (2, (4, 1)), (1, (4, 0)), (0, (6, 0))]) (stN := [(0, 5), (0, 5)]) (hsN := jpA_306) (c1 := 0) (s1 := 0) (c2 := 0) (s2 := 0) (by exact rfl) ?_ (by omega) (by omega)
  refine jT_xiconst (k := 5) (pcN := 33) jI_379_32 rfl ?_
  refine jT_xisub (x := 5) (y := 5) (z := 0) (pcN := 34) jI_379_33 rfl (by decide) rfl ?_
  refine jT_xicT (pcN := 3746) jI_379_34 rfl (by decide +kernel) rfl ?_
  refine jT_xiconst (k := 1) (pcN := 3747) jI_379_3746 rfl ?_
  exact jT_ret rfl (by decide) (by show 30 ≤ 30; decide) (by omega) (by omega) ⟨rfl, rfl⟩
set_option maxRecDepth 100000 in
theorem jL_2_8 {d : Nat} {x0 x1 x2 x3 x4 : Int} (h_x0 : (-2147483648) ≤ x0 ∧ x0 ≤ 2147483647) (h_x1 : 0 ≤ x1 ∧ x1 ≤ 7) (h_x2 : (-2147483648) ≤ x2 ∧ x2 ≤ (-1)) (h_x3 : (-2147483648) ≤ x3 ∧ x3 ≤ 2147483647) (h_x4 : 0 ≤ x4 ∧ x4 ≤ 0) : jT [x0, x1, x2, x3, x4] (d + 3) 379 30 443 [(5, (0, 0)), (4, (4, 3)), (3, (4, 2)), (2, (4, 1)), (1, (4, 0)), (0, (6, 0))] [] jpA_267 1 6 (fun k v hsN => k = 0 ∧ v = (0, 1)) := by
  refine jT_xaload_n (v := (4, 0)) (pcN := 444) jI_379_443 rfl rfl rfl ?_
  refine jT_xaload_n (v := (6, 0)) (pcN := 445) jI_379_444 rfl rfl rfl ?_
  refine jT_xiload (v := (0, 0)) (pcN := 447) jI_379_445 rfl rfl rfl ?_
  refine jT_xiconst (k := 1) (pcN := 448) jI_379_447 rfl ?_
  refine jT_xiadd (x := 0) (y := 1) (z := 1) (pcN := 449) jI_379_448 rfl (by decide) rfl ?_
  refine jT_adv 1 (pcN := 450) (LN := [(5, (0, 0)), (4, (4, 3)), (3, (4, 2)), (2, (4, 1)), (1, (4, 0)), (0, (6, 0))]) (stN := [(0, x1), (4, 0)]) (hsN := jpA_267) (c1 := 0) (s1 := 0) (c2 := 1) (s2 := 6) (by exact rfl) ?_ (by omega) (by omega)
  refine jT_xaload_n (v := (6, 0)) (pcN := 451) jI_379_450 rfl rfl rfl ?_
  refine jT_xiload (v := (0, 0)) (pcN := 453) jI_379_451 rfl rfl rfl ?_
  refine jT_xiconst (k := 2) (pcN := 454) jI_379_453 rfl ?_
  refine jT_xiadd (x := 0) (y := 2) (z := 2) (pcN := 455) jI_379_454 rfl (by decide) rfl ?_
  refine jT_adv 1 (pcN := 456) (LN := [(5, (0, 0)), (4, (4, 3)), (3, (4, 2)), (2, (4, 1)), (1, (4, 0)), (0, (6, 0))]) (stN := [(0, x2), (0, x1), (4, 0)]) (hsN := jpA_267) (c1 := 0) (s1 := 0) (c2 := 1) (s2 := 6) (by exact rfl) ?_ (by omega) (by omega)
  refine jT_xaload_n (v := (6, 0)) (pcN := 457) jI_379_456 rfl rfl rfl ?_
  refine jT_xiload (v := (0, 0)) (pcN := 459) jI_379_457 rfl rfl rfl ?_
  refine jT_xiconst (k := 3) (pcN := 460) jI_379_459 rfl ?_
  refine jT_xiadd (x := 0) (y := 3) (z := 3) (pcN := 461) jI_379_460 rfl (by decide) rfl ?_
  refine jT_adv 1 (pcN := 462) (LN := [(5, (0, 0)), (4, (4, 3)), (3, (4, 2)), (2, (4, 1)), (1, (4, 0)), (0, (6, 0))]) (stN := [(0, x3), (0, x2), (0, x1), (4, 0)]) (hsN := jpA_267) (c1 := 0) (s1 := 0) (c2 := 1) (s2 := 6) (by exact rfl) ?_ (by omega) (by omega)
  refine jT_xaload_n (v := (6, 0)) (pcN := 463) jI_379_462 rfl rfl rfl ?_
  refine jT_xiload (v := (0, 0)) (pcN := 465) jI_379_463 rfl rfl rfl ?_
  refine jT_xiconst (k := 4) (pcN := 466) jI_379_465 rfl ?_
  refine jT_xiadd (x := 0) (y := 4) (z := 4) (pcN := 467) jI_379_466 rfl (by decide) rfl ?_
  refine jT_adv 1 (pcN := 468) (LN := [(5, (0, 0)), (4, (4, 3)), (3, (4, 2)), (2, (4, 1)), (1, (4, 0)), (0, (6, 0))]) (stN := [(0, x4), (0, x3), (0, x2), (0, x1), (4, 0)]) (hsN := jpA_267) (c1 := 0) (s1 := 0) (c2 := 1) (s2 := 6) (by exact rfl) ?_ (by omega) (by omega)
  refine jT_eq (LN := [(5, (0, 0)), (4, (4, 3)), (3, (4, 2)), (2, (4, 1)), (1, (4, 0)), (0, (6, 0))]) (stN := [(0, 0), (0, x3), (0, x2), (0, x1), (4, 0)]) (hsN := [jzA_265, jzA_266, jgh, jgh, jgh, jgh, jgh, jgh, jgh, jgh, jgh, jgh, jgh, jgh, jgh, jgh, jgh, jgh, jgh, jgh, jgh, jgh, jgh, jgh, jgh, jgh, jgh, jgh, jgh, jgh]) (rfl) (by simp only [List.cons.injEq, Prod.mk.injEq, and_true, true_and] <;> ((try unfold jw); (try unfold jwl); omega)) (rfl) ?_
  refine jT_xifT (pcN := 475) jI_379_468 rfl (by decide +kernel) rfl ?_
  refine jT_xiconst (k := 0) (pcN := 476) jI_379_475 rfl ?_
  refine jT_xaload_n (v := (4, 2)) (pcN := 477) jI_379_476 rfl rfl rfl ?_
  refine jT_fR [0, 2, 4, 5, 6, 7, 8, 9, 10, 11, 12, 13, 14] 30 (y := 328) (pcN := 480) (dC := 2) (bc1 := 1) (bc2 := 6) (c1 := 0) (c2 := 0) (as := [(4, 0), (0, x1), (0, x2), (0, x3), (0, 0), (4, 2)]) (asC := [(4, 0), (0, x1), (0, x2), (0, x3), (0, 0), (4, 1)]) (LN := [(5, (0, 0)), (4, (4, 3)), (3, (4, 2)), (2, (4, 1)), (1, (4, 0)), (0, (6, 0))]) (stN := []) (hsC := jpA_15) (v := (0, 1)) (st2 := [(0, 1)]) (jA_328_74 (d := 0) (by omega) (by omega) (by omega)) (by rfl) (by rfl) (by decide +kernel) (by rfl) (by rfl) (by omega) (by omega) (by omega) (by omega) rfl ?_
  refine jT_xistore (v := (0, 1)) (LN := [(6, (0, 1)), (5, (0, 0)), (4, (4, 3)), (3, (4, 2)), (2, (4, 1)), (1, (4, 0)), (0, (6, 0))]) (pcN := 482) jI_379_480 rfl rfl rfl rfl ?_
  refine jT_xaload_n (v := (4, 1)) (pcN := 483) jI_379_482 rfl rfl rfl ?_
  refine jT_xaload_n (v := (6, 0)) (pcN := 484) jI_379_483 rfl rfl rfl ?_
  refine jT_xiload (v := (0, 0)) (pcN := 486) jI_379_484 rfl rfl rfl ?_
  refine jT_xiconst (k := 1) (pcN := 487) jI_379_486 rfl ?_
  refine jT_xiadd (x := 0) (y := 1) (z := 1) (pcN := 488) jI_379_487 rfl (by decide) rfl ?_
  refine jT_adv 1 (pcN := 489) (LN := [(6, (0, 1)), (5, (0, 0)), (4, (4, 3)), (3, (4, 2)), (2, (4, 1)), (1, (4, 0)), (0, (6, 0))]) (stN := [(0, x1), (4, 1)]) (hsN := jpA_267) (c1 := 0) (s1 := 0) (c2 := 0) (s2 := 0) (by exact rfl) ?_ (by omega) (by omega)
  refine jT_xaload_n (v := (6, 0)) (pcN := 490) jI_379_489 rfl rfl rfl ?_
  refine jT_xiload (v := (0, 0)) (pcN := 492) jI_379_490 rfl rfl rfl ?_
  refine jT_xiconst (k := 2) (pcN := 493) jI_379_492 rfl ?_
  refine jT_xiadd (x := 0) (y := 2) (z := 2) (pcN := 494) jI_379_493 rfl (by decide) rfl ?_
  refine jT_adv 1 (pcN := 495) (LN := [(6, (0, 1)), (5, (0, 0)), (4, (4, 3)), (3, (4, 2)), (2, (4, 1)), (1, (4, 0)), (0, (6, 0))]) (stN := [(0, x2), (0, x1), (4, 1)]) (hsN := jpA_267) (c1 := 0) (s1 := 0) (c2 := 0) (s2 := 0) (by exact rfl) ?_ (by omega) (by omega)
  refine jT_xaload_n (v := (6, 0)) (pcN := 496) jI_379_495 rfl rfl rfl ?_
  refine jT_xiload (v := (0, 0)) (pcN := 498) jI_379_496 rfl rfl rfl ?_
  refine jT_xiconst (k := 3) (pcN := 499) jI_379_498 rfl ?_
  refine jT_xiadd (x := 0) (y := 3) (z := 3) (pcN := 500) jI_379_499 rfl (by decide) rfl ?_
  refine jT_adv 1 (pcN := 501) (LN := [(6, (0, 1)), (5, (0, 0)), (4, (4, 3)), (3, (4, 2)), (2, (4, 1)), (1, (4, 0)), (0, (6, 0))]) (stN := [(0, x3), (0, x2), (0, x1), (4, 1)]) (hsN := jpA_267) (c1 := 0) (s1 := 0) (c2 := 0) (s2 := 0) (by exact rfl) ?_ (by omega) (by omega)
  refine jT_xaload_n (v := (6, 0)) (pcN := 502) jI_379_501 rfl rfl rfl ?_
  refine jT_xiload (v := (0, 0)) (pcN := 504) jI_379_502 rfl rfl rfl ?_
  refine jT_xiconst (k := 4) (pcN := 505) jI_379_504 rfl ?_
  refine jT_xiadd (x := 0) (y := 4) (z := 4) (pcN := 506) jI_379_505 rfl (by decide) rfl ?_
  refine jT_adv 1 (pcN := 507) (LN := [(6, (0, 1)), (5, (0, 0)), (4, (4, 3)), (3, (4, 2)), (2, (4, 1)), (1, (4, 0)), (0, (6, 0))]) (stN := [(0, x4), (0, x3), (0, x2), (0, x1), (4, 1)]) (hsN := jpA_267) (c1 := 0) (s1 := 0) (c2 := 0) (s2 := 0) (by exact rfl) ?_ (by omega) (by omega)
  refine jT_eq (LN := [(6, (0, 1)), (5, (0, 0)), (4, (4, 3)), (3, (4, 2)), (2, (4, 1)), (1, (4, 0)), (0, (6, 0))]) (stN := [(0, 0), (0, x3), (0, x2), (0, x1), (4, 1)]) (hsN := [jzA_265, jzA_266, jgh, jgh, jgh, jgh, jgh, jgh, jgh, jgh, jgh, jgh, jgh, jgh, jgh, jgh, jgh, jgh, jgh, jgh, jgh, jgh, jgh, jgh, jgh, jgh, jgh, jgh, jgh, jgh]) (rfl) (by simp only [List.cons.injEq, Prod.mk.injEq, and_true, true_and] <;> ((try unfold jw); (try unfold jwl); omega)) (rfl) ?_
  refine jT_xifT (pcN := 514) jI_379_507 rfl (by decide +kernel) rfl ?_
  refine jT_xiconst (k := 0) (pcN := 515) jI_379_514 rfl ?_
  refine jT_fB [1, 15, 16, 17, 18, 19, 20, 21, 22, 23, 24, 25, 26, 27, 28, 29] 30 (y := 201) (pcN := 518) (dC := 2) (bc1 := 0) (bc2 := 0) (c1 := 0) (c2 := 0) (as := [(4, 1), (0, x1), (0, x2), (0, x3), (0, 0)]) (asC := [(4, 0), (0, x1), (0, x2), (0, x3), (0, 0)]) (LN := [(6, (0, 1)), (5, (0, 0)), (4, (4, 3)), (3, (4, 2)), (2, (4, 1)), (1, (4, 0)), (0, (6, 0))]) (stN := []) (hsC := jpA_22) (hsD := jpA_20) (v := (0, 0)) (st2 := [(0, 0)]) (hs2 := jpA_306) (jA_201_75 (d := 0) (by omega) (by omega) (by omega)) (by rfl) (by rfl) (by decide +kernel) (by rfl) (by rfl) (by omega) (by omega) (by omega) (by omega) rfl (by decide +kernel) ?_
  refine jT_xistore (v := (0, 0)) (LN := [(7, (0, 0)), (6, (0, 1)), (5, (0, 0)), (4, (4, 3)), (3, (4, 2)), (2, (4, 1)), (1, (4, 0)), (0, (6, 0))]) (pcN := 520) jI_379_518 rfl rfl rfl rfl ?_
  refine jT_xaload_n (v := (4, 1)) (pcN := 521) jI_379_520 rfl rfl rfl ?_
  refine jT_fR [1, 15, 16, 17, 18, 19, 20, 21, 22, 23, 24, 25, 26, 27, 28, 29] 30 (y := 186) (pcN := 524) (dC := 0) (bc1 := 0) (bc2 := 0) (c1 := 0) (c2 := 0) (as := [(4, 1)]) (asC := [(4, 0)]) (LN := [(7, (0, 0)), (6, (0, 1)), (5, (0, 0)), (4, (4, 3)), (3, (4, 2)), (2, (4, 1)), (1, (4, 0)), (0, (6, 0))]) (stN := []) (hsC := jpA_20) (v := (0, 1)) (st2 := [(0, 1)]) (jA_186_8 (d := 0)) (by rfl) (by rfl) (by decide +kernel) (by rfl) (by rfl) (by omega) (by omega) (by omega) (by omega) rfl ?_
  refine jT_xiload (v := (0, 1)) (pcN := 526) jI_379_524 rfl rfl rfl ?_
  refine jT_xicT (pcN := 531) jI_379_526 rfl (by decide +kernel) rfl ?_
  refine jT_xiload (v := (0, 1)) (pcN := 533) jI_379_531 rfl rfl rfl ?_
  refine jT_xifT (pcN := 548) jI_379_533 rfl (by decide +kernel) rfl ?_
  refine jT_xgoto (pcN := 3740) jI_379_548 rfl ?_
  refine jT_xiinc (x := 0) (z := 5) (LN := [(5, (0, 5)), (7, (0, 0)), (6, (0, 1)), (4, (4, 3)), (3, (4, 2)), (2, (4, 1)), (1, (4, 0)), (0, (6, 0))]) (pcN := 3743) jI_379_3740 rfl rfl (by decide) rfl rfl ?_
  refine jT_xgoto (pcN := 28) jI_379_3743 rfl ?_
  refine jT_xiload (v := (0, 5)) (pcN := 30) jI_379_28 rfl rfl rfl ?_
  refine jT_xaload_n (v := (6, 0)) (pcN := 31) jI_379_30 rfl rfl rfl ?_
  refine jT_adv 1 (pcN := 32) (LN := [(5, (0, 5)), (7, (0, 0)), (6, (0, 1)), (4, (4, 3)), (3, (4, 2)), (2, (4, 1)), (1, (4, 0)), (0, (6, 0))]) (stN := [(0, 5), (0, 5)]) (hsN := jpA_306) (c1 := 0) (s1 := 0) (c2 := 0) (s2 := 0) (by exact rfl) ?_ (by omega) (by omega)
  refine jT_xiconst (k := 5) (pcN := 33) jI_379_32 rfl ?_
  refine jT_xisub (x := 5) (y := 5) (z := 0) (pcN := 34) jI_379_33 rfl (by decide) rfl ?_
  refine jT_xicT (pcN := 3746) jI_379_34 rfl (by decide +kernel) rfl ?_
  refine jT_xiconst (k := 1) (pcN := 3747) jI_379_3746 rfl ?_
  exact jT_ret rfl (by decide) (by show 30 ≤ 30; decide) (by omega) (by omega) ⟨rfl, rfl⟩
set_option maxRecDepth 100000 in
theorem jL_2_9 {d : Nat} {x0 x1 x2 x3 x4 : Int} (h_x0 : (-2147483648) ≤ x0 ∧ x0 ≤ 2147483647) (h_x1 : 0 ≤ x1 ∧ x1 ≤ 7) (h_x2 : 0 ≤ x2 ∧ x2 ≤ 7) (h_x3 : (-2147483648) ≤ x3 ∧ x3 ≤ (-1)) (h_x4 : 0 ≤ x4 ∧ x4 ≤ 0) : jT [x0, x1, x2, x3, x4] (d + 3) 379 30 443 [(5, (0, 0)), (4, (4, 3)), (3, (4, 2)), (2, (4, 1)), (1, (4, 0)), (0, (6, 0))] [] jpA_267 1 6 (fun k v hsN => k = 0 ∧ v = (0, 1)) := by
  refine jT_xaload_n (v := (4, 0)) (pcN := 444) jI_379_443 rfl rfl rfl ?_
  refine jT_xaload_n (v := (6, 0)) (pcN := 445) jI_379_444 rfl rfl rfl ?_
  refine jT_xiload (v := (0, 0)) (pcN := 447) jI_379_445 rfl rfl rfl ?_
  refine jT_xiconst (k := 1) (pcN := 448) jI_379_447 rfl ?_
  refine jT_xiadd (x := 0) (y := 1) (z := 1) (pcN := 449) jI_379_448 rfl (by decide) rfl ?_
  refine jT_adv 1 (pcN := 450) (LN := [(5, (0, 0)), (4, (4, 3)), (3, (4, 2)), (2, (4, 1)), (1, (4, 0)), (0, (6, 0))]) (stN := [(0, x1), (4, 0)]) (hsN := jpA_267) (c1 := 0) (s1 := 0) (c2 := 1) (s2 := 6) (by exact rfl) ?_ (by omega) (by omega)
  refine jT_xaload_n (v := (6, 0)) (pcN := 451) jI_379_450 rfl rfl rfl ?_
  refine jT_xiload (v := (0, 0)) (pcN := 453) jI_379_451 rfl rfl rfl ?_
  refine jT_xiconst (k := 2) (pcN := 454) jI_379_453 rfl ?_
  refine jT_xiadd (x := 0) (y := 2) (z := 2) (pcN := 455) jI_379_454 rfl (by decide) rfl ?_
  refine jT_adv 1 (pcN := 456) (LN := [(5, (0, 0)), (4, (4, 3)), (3, (4, 2)), (2, (4, 1)), (1, (4, 0)), (0, (6, 0))]) (stN := [(0, x2), (0, x1), (4, 0)]) (hsN := jpA_267) (c1 := 0) (s1 := 0) (c2 := 1) (s2 := 6) (by exact rfl) ?_ (by omega) (by omega)
  refine jT_xaload_n (v := (6, 0)) (pcN := 457) jI_379_456 rfl rfl rfl ?_
  refine jT_xiload (v := (0, 0)) (pcN := 459) jI_379_457 rfl rfl rfl ?_
  refine jT_xiconst (k := 3) (pcN := 460) jI_379_459 rfl ?_
  refine jT_xiadd (x := 0) (y := 3) (z := 3) (pcN := 461) jI_379_460 rfl (by decide) rfl ?_
  refine jT_adv 1 (pcN := 462) (LN := [(5, (0, 0)), (4, (4, 3)), (3, (4, 2)), (2, (4, 1)), (1, (4, 0)), (0, (6, 0))]) (stN := [(0, x3), (0, x2), (0, x1), (4, 0)]) (hsN := jpA_267) (c1 := 0) (s1 := 0) (c2 := 1) (s2 := 6) (by exact rfl) ?_ (by omega) (by omega)
  refine jT_xaload_n (v := (6, 0)) (pcN := 463) jI_379_462 rfl rfl rfl ?_
  refine jT_xiload (v := (0, 0)) (pcN := 465) jI_379_463 rfl rfl rfl ?_
  refine jT_xiconst (k := 4) (pcN := 466) jI_379_465 rfl ?_
  refine jT_xiadd (x := 0) (y := 4) (z := 4) (pcN := 467) jI_379_466 rfl (by decide) rfl ?_
  refine jT_adv 1 (pcN := 468) (LN := [(5, (0, 0)), (4, (4, 3)), (3, (4, 2)), (2, (4, 1)), (1, (4, 0)), (0, (6, 0))]) (stN := [(0, x4), (0, x3), (0, x2), (0, x1), (4, 0)]) (hsN := jpA_267) (c1 := 0) (s1 := 0) (c2 := 1) (s2 := 6) (by exact rfl) ?_ (by omega) (by omega)
  refine jT_eq (LN := [(5, (0, 0)), (4, (4, 3)), (3, (4, 2)), (2, (4, 1)), (1, (4, 0)), (0, (6, 0))]) (stN := [(0, 0), (0, x3), (0, x2), (0, x1), (4, 0)]) (hsN := [jzA_265, jzA_266, jgh, jgh, jgh, jgh, jgh, jgh, jgh, jgh, jgh, jgh, jgh, jgh, jgh, jgh, jgh, jgh, jgh, jgh, jgh, jgh, jgh, jgh, jgh, jgh, jgh, jgh, jgh, jgh]) (rfl) (by simp only [List.cons.injEq, Prod.mk.injEq, and_true, true_and] <;> ((try unfold jw); (try unfold jwl); omega)) (rfl) ?_
  refine jT_xifT (pcN := 475) jI_379_468 rfl (by decide +kernel) rfl ?_
  refine jT_xiconst (k := 0) (pcN := 476) jI_379_475 rfl ?_
  refine jT_xaload_n (v := (4, 2)) (pcN := 477) jI_379_476 rfl rfl rfl ?_
  refine jT_fR [0, 2, 4, 5, 6, 7, 8, 9, 10, 11, 12, 13, 14] 30 (y := 328) (pcN := 480) (dC := 2) (bc1 := 1) (bc2 := 6) (c1 := 0) (c2 := 0) (as := [(4, 0), (0, x1), (0, x2), (0, x3), (0, 0), (4, 2)]) (asC := [(4, 0), (0, x1), (0, x2), (0, x3), (0, 0), (4, 1)]) (LN := [(5, (0, 0)), (4, (4, 3)), (3, (4, 2)), (2, (4, 1)), (1, (4, 0)), (0, (6, 0))]) (stN := []) (hsC := jpA_15) (v := (0, 1)) (st2 := [(0, 1)]) (jA_328_77 (d := 0) (by omega) (by omega) (by omega)) (by rfl) (by rfl) (by decide +kernel) (by rfl) (by rfl) (by omega) (by omega) (by omega) (by omega) rfl ?_
  refine jT_xistore (v := (0, 1)) (LN := [(6, (0, 1)), (5, (0, 0)), (4, (4, 3)), (3, (4, 2)), (2, (4, 1)), (1, (4, 0)), (0, (6, 0))]) (pcN := 482) jI_379_480 rfl rfl rfl rfl ?_
  refine jT_xaload_n (v := (4, 1)) (pcN := 483) jI_379_482 rfl rfl rfl ?_
  refine jT_xaload_n (v := (6, 0)) (pcN := 484) jI_379_483 rfl rfl rfl ?_
  refine jT_xiload (v := (0, 0)) (pcN := 486) jI_379_484 rfl rfl rfl ?_
  refine jT_xiconst (k := 1) (pcN := 487) jI_379_486 rfl ?_
  refine jT_xiadd (x := 0) (y := 1) (z := 1) (pcN := 488) jI_379_487 rfl (by decide) rfl ?_
  refine jT_adv 1 (pcN := 489) (LN := [(6, (0, 1)), (5, (0, 0)), (4, (4, 3)), (3, (4, 2)), (2, (4, 1)), (1, (4, 0)), (0, (6, 0))]) (stN := [(0, x1), (4, 1)]) (hsN := jpA_267) (c1 := 0) (s1 := 0) (c2 := 0) (s2 := 0) (by exact rfl) ?_ (by omega) (by omega)
  refine jT_xaload_n (v := (6, 0)) (pcN := 490) jI_379_489 rfl rfl rfl ?_
  refine jT_xiload (v := (0, 0)) (pcN := 492) jI_379_490 rfl rfl rfl ?_
  refine jT_xiconst (k := 2) (pcN := 493) jI_379_492 rfl ?_
  refine jT_xiadd (x := 0) (y := 2) (z := 2) (pcN := 494) jI_379_493 rfl (by decide) rfl ?_
  refine jT_adv 1 (pcN := 495) (LN := [(6, (0, 1)), (5, (0, 0)), (4, (4, 3)), (3, (4, 2)), (2, (4, 1)), (1, (4, 0)), (0, (6, 0))]) (stN := [(0, x2), (0, x1), (4, 1)]) (hsN := jpA_267) (c1 := 0) (s1 := 0) (c2 := 0) (s2 := 0) (by exact rfl) ?_ (by omega) (by omega)
  refine jT_xaload_n (v := (6, 0)) (pcN := 496) jI_379_495 rfl rfl rfl ?_
  refine jT_xiload (v := (0, 0)) (pcN := 498) jI_379_496 rfl rfl rfl ?_
  refine jT_xiconst (k := 3) (pcN := 499) jI_379_498 rfl ?_
  refine jT_xiadd (x := 0) (y := 3) (z := 3) (pcN := 500) jI_379_499 rfl (by decide) rfl ?_
  refine jT_adv 1 (pcN := 501) (LN := [(6, (0, 1)), (5, (0, 0)), (4, (4, 3)), (3, (4, 2)), (2, (4, 1)), (1, (4, 0)), (0, (6, 0))]) (stN := [(0, x3), (0, x2), (0, x1), (4, 1)]) (hsN := jpA_267) (c1 := 0) (s1 := 0) (c2 := 0) (s2 := 0) (by exact rfl) ?_ (by omega) (by omega)
  refine jT_xaload_n (v := (6, 0)) (pcN := 502) jI_379_501 rfl rfl rfl ?_
  refine jT_xiload (v := (0, 0)) (pcN := 504) jI_379_502 rfl rfl rfl ?_
  refine jT_xiconst (k := 4) (pcN := 505) jI_379_504 rfl ?_
  refine jT_xiadd (x := 0) (y := 4) (z := 4) (pcN := 506) jI_379_505 rfl (by decide) rfl ?_
  refine jT_adv 1 (pcN := 507) (LN := [(6, (0, 1)), (5, (0, 0)), (4, (4, 3)), (3, (4, 2)), (2, (4, 1)), (1, (4, 0)), (0, (6, 0))]) (stN := [(0, x4), (0, x3), (0, x2), (0, x1), (4, 1)]) (hsN := jpA_267) (c1 := 0) (s1 := 0) (c2 := 0) (s2 := 0) (by exact rfl) ?_ (by omega) (by omega)
  refine jT_eq (LN := [(6, (0, 1)), (5, (0, 0)), (4, (4, 3)), (3, (4, 2)), (2, (4, 1)), (1, (4, 0)), (0, (6, 0))]) (stN := [(0, 0), (0, x3), (0, x2), (0, x1), (4, 1)]) (hsN := [jzA_265, jzA_266, jgh, jgh, jgh, jgh, jgh, jgh, jgh, jgh, jgh, jgh, jgh, jgh, jgh, jgh, jgh, jgh, jgh, jgh, jgh, jgh, jgh, jgh, jgh, jgh, jgh, jgh, jgh, jgh]) (rfl) (by simp only [List.cons.injEq, Prod.mk.injEq, and_true, true_and] <;> ((try unfold jw); (try unfold jwl); omega)) (rfl) ?_
  refine jT_xifT (pcN := 514) jI_379_507 rfl (by decide +kernel) rfl ?_
  refine jT_xiconst (k := 0) (pcN := 515) jI_379_514 rfl ?_
  refine jT_fB [1, 15, 16, 17, 18, 19, 20, 21, 22, 23, 24, 25, 26, 27, 28, 29] 30 (y := 201) (pcN := 518) (dC := 2) (bc1 := 0) (bc2 := 0) (c1 := 0) (c2 := 0) (as := [(4, 1), (0, x1), (0, x2), (0, x3), (0, 0)]) (asC := [(4, 0), (0, x1), (0, x2), (0, x3), (0, 0)]) (LN := [(6, (0, 1)), (5, (0, 0)), (4, (4, 3)), (3, (4, 2)), (2, (4, 1)), (1, (4, 0)), (0, (6, 0))]) (stN := []) (hsC := jpA_22) (hsD := jpA_20) (v := (0, 0)) (st2 := [(0, 0)]) (hs2 := jpA_306) (jA_201_78 (d := 0) (by omega) (by omega) (by omega)) (by rfl) (by rfl) (by decide +kernel) (by rfl) (by rfl) (by omega) (by omega) (by omega) (by omega) rfl (by decide +kernel) ?_
  refine jT_xistore (v := (0, 0)) (LN := [(7, (0, 0)), (6, (0, 1)), (5, (0, 0)), (4, (4, 3)), (3, (4, 2)), (2, (4, 1)), (1, (4, 0)), (0, (6, 0))]) (pcN := 520) jI_379_518 rfl rfl rfl rfl ?_
  refine jT_xaload_n (v := (4, 1)) (pcN := 521) jI_379_520 rfl rfl rfl ?_
  refine jT_fR [1, 15, 16, 17, 18, 19, 20, 21, 22, 23, 24, 25, 26, 27, 28, 29] 30 (y := 186) (pcN := 524) (dC := 0) (bc1 := 0) (bc2 := 0) (c1 := 0) (c2 := 0) (as := [(4, 1)]) (asC := [(4, 0)]) (LN := [(7, (0, 0)), (6, (0, 1)), (5, (0, 0)), (4, (4, 3)), (3, (4, 2)), (2, (4, 1)), (1, (4, 0)), (0, (6, 0))]) (stN := []) (hsC := jpA_20) (v := (0, 1)) (st2 := [(0, 1)]) (jA_186_8 (d := 0)) (by rfl) (by rfl) (by decide +kernel) (by rfl) (by rfl) (by omega) (by omega) (by omega) (by omega) rfl ?_
  refine jT_xiload (v := (0, 1)) (pcN := 526) jI_379_524 rfl rfl rfl ?_
  refine jT_xicT (pcN := 531) jI_379_526 rfl (by decide +kernel) rfl ?_
  refine jT_xiload (v := (0, 1)) (pcN := 533) jI_379_531 rfl rfl rfl ?_
  refine jT_xifT (pcN := 548) jI_379_533 rfl (by decide +kernel) rfl ?_
  refine jT_xgoto (pcN := 3740) jI_379_548 rfl ?_
  refine jT_xiinc (x := 0) (z := 5) (LN := [(5, (0, 5)), (7, (0, 0)), (6, (0, 1)), (4, (4, 3)), (3, (4, 2)), (2, (4, 1)), (1, (4, 0)), (0, (6, 0))]) (pcN := 3743) jI_379_3740 rfl rfl (by decide) rfl rfl ?_
  refine jT_xgoto (pcN := 28) jI_379_3743 rfl ?_
  refine jT_xiload (v := (0, 5)) (pcN := 30) jI_379_28 rfl rfl rfl ?_
  refine jT_xaload_n (v := (6, 0)) (pcN := 31) jI_379_30 rfl rfl rfl ?_
  refine jT_adv 1 (pcN := 32) (LN := [(5, (0, 5)), (7, (0, 0)), (6, (0, 1)), (4, (4, 3)), (3, (4, 2)), (2, (4, 1)), (1, (4, 0)), (0, (6, 0))]) (stN := [(0, 5), (0, 5)]) (hsN := jpA_306) (c1 := 0) (s1 := 0) (c2 := 0) (s2 := 0) (by exact rfl) ?_ (by omega) (by omega)
  refine jT_xiconst (k := 5) (pcN := 33) jI_379_32 rfl ?_
  refine jT_xisub (x := 5) (y := 5) (z := 0) (pcN := 34) jI_379_33 rfl (by decide) rfl ?_
  refine jT_xicT (pcN := 3746) jI_379_34 rfl (by decide +kernel) rfl ?_
  refine jT_xiconst (k := 1) (pcN := 3747) jI_379_3746 rfl ?_
  exact jT_ret rfl (by decide) (by show 30 ≤ 30; decide) (by omega) (by omega) ⟨rfl, rfl⟩
set_option maxRecDepth 100000 in
theorem jL_2_10 {d : Nat} {x0 x1 x2 x3 x4 : Int} (h_x0 : (-2147483648) ≤ x0 ∧ x0 ≤ 2147483647) (h_x1 : 0 ≤ x1 ∧ x1 ≤ 7) (h_x2 : 0 ≤ x2 ∧ x2 ≤ 7) (h_x3 : 0 ≤ x3 ∧ x3 ≤ 7) (h_x4 : 0 ≤ x4 ∧ x4 ≤ 0) : jT [x0, x1, x2, x3, x4] (d + 5) 379 45 443 [(5, (0, 0)), (4, (4, 3)), (3, (4, 2)), (2, (4, 1)), (1, (4, 0)), (0, (6, 0))] [] jpA_325 4 21 (fun k v hsN => k = 0 ∧ v = (0, 1)) := by
  refine jT_xaload_n (v := (4, 0)) (pcN := 444) jI_379_443 rfl rfl rfl ?_
  refine jT_xaload_n (v := (6, 0)) (pcN := 445) jI_379_444 rfl rfl rfl ?_
  refine jT_xiload (v := (0, 0)) (pcN := 447) jI_379_445 rfl rfl rfl ?_
  refine jT_xiconst (k := 1) (pcN := 448) jI_379_447 rfl ?_
  refine jT_xiadd (x := 0) (y := 1) (z := 1) (pcN := 449) jI_379_448 rfl (by decide) rfl ?_
  refine jT_adv 1 (pcN := 450) (LN := [(5, (0, 0)), (4, (4, 3)), (3, (4, 2)), (2, (4, 1)), (1, (4, 0)), (0, (6, 0))]) (stN := [(0, x1), (4, 0)]) (hsN := jpA_325) (c1 := 0) (s1 := 0) (c2 := 4) (s2 := 21) (by exact rfl) ?_ (by omega) (by omega)
  refine jT_xaload_n (v := (6, 0)) (pcN := 451) jI_379_450 rfl rfl rfl ?_
  refine jT_xiload (v := (0, 0)) (pcN := 453) jI_379_451 rfl rfl rfl ?_
  refine jT_xiconst (k := 2) (pcN := 454) jI_379_453 rfl ?_
  refine jT_xiadd (x := 0) (y := 2) (z := 2) (pcN := 455) jI_379_454 rfl (by decide) rfl ?_
  refine jT_adv 1 (pcN := 456) (LN := [(5, (0, 0)), (4, (4, 3)), (3, (4, 2)), (2, (4, 1)), (1, (4, 0)), (0, (6, 0))]) (stN := [(0, x2), (0, x1), (4, 0)]) (hsN := jpA_325) (c1 := 0) (s1 := 0) (c2 := 4) (s2 := 21) (by exact rfl) ?_ (by omega) (by omega)
  refine jT_xaload_n (v := (6, 0)) (pcN := 457) jI_379_456 rfl rfl rfl ?_
  refine jT_xiload (v := (0, 0)) (pcN := 459) jI_379_457 rfl rfl rfl ?_
  refine jT_xiconst (k := 3) (pcN := 460) jI_379_459 rfl ?_
  refine jT_xiadd (x := 0) (y := 3) (z := 3) (pcN := 461) jI_379_460 rfl (by decide) rfl ?_
  refine jT_adv 1 (pcN := 462) (LN := [(5, (0, 0)), (4, (4, 3)), (3, (4, 2)), (2, (4, 1)), (1, (4, 0)), (0, (6, 0))]) (stN := [(0, x3), (0, x2), (0, x1), (4, 0)]) (hsN := jpA_325) (c1 := 0) (s1 := 0) (c2 := 4) (s2 := 21) (by exact rfl) ?_ (by omega) (by omega)
  refine jT_xaload_n (v := (6, 0)) (pcN := 463) jI_379_462 rfl rfl rfl ?_
  refine jT_xiload (v := (0, 0)) (pcN := 465) jI_379_463 rfl rfl rfl ?_
  refine jT_xiconst (k := 4) (pcN := 466) jI_379_465 rfl ?_
  refine jT_xiadd (x := 0) (y := 4) (z := 4) (pcN := 467) jI_379_466 rfl (by decide) rfl ?_
  refine jT_adv 1 (pcN := 468) (LN := [(5, (0, 0)), (4, (4, 3)), (3, (4, 2)), (2, (4, 1)), (1, (4, 0)), (0, (6, 0))]) (stN := [(0, x4), (0, x3), (0, x2), (0, x1), (4, 0)]) (hsN := jpA_325) (c1 := 0) (s1 := 0) (c2 := 4) (s2 := 21) (by exact rfl) ?_ (by omega) (by omega)
  refine jT_eq (LN := [(5, (0, 0)), (4, (4, 3)), (3, (4, 2)), (2, (4, 1)), (1, (4, 0)), (0, (6, 0))]) (stN := [(0, 0), (0, x3), (0, x2), (0, x1), (4, 0)]) (hsN := [jzA_265, jzA_266, (101, [], [0]), jgh, jgh, jgh, jgh, jgh, jgh, jgh, jgh, jgh, jgh, jzA_79, jzA_322, (100, [], jS0), (100, [], []), jzA_323, jzA_197, jgh, jgh, (101, [], [0, 0, 0, 0, 0, 0]), jgh, jgh, jgh, jgh, jgh, jgh, jgh, jgh, jzA_324, jgh, jgh, jgh, jgh, (100, [], (List.replicate 1613 0)), jgh, jgh, jgh, jgh, jgh, jgh, jgh, (4, [(4, 44), (1, 1)], []), (101, [], [0, 0, 0, 0, 0, 0])]) (rfl) (by simp only [List.cons.injEq, Prod.mk.injEq, and_true, true_and] <;> ((try unfold jw); (try unfold jwl); omega)) (rfl) ?_
  refine jT_xifT (pcN := 475) jI_379_468 rfl (by decide +kernel) rfl ?_
  refine jT_xiconst (k := 0) (pcN := 476) jI_379_475 rfl ?_
  refine jT_xaload_n (v := (4, 2)) (pcN := 477) jI_379_476 rfl rfl rfl ?_
  refine jT_fB [0, 2, 4, 5, 6, 7, 8, 9, 10, 11, 12, 13, 14, 30, 31, 32, 33, 34, 43, 44] 45 (y := 328) (pcN := 480) (dC := 4) (bc1 := 4) (bc2 := 21) (c1 := 0) (c2 := 0) (as := [(4, 0), (0, x1), (0, x2), (0, x3), (0, 0), (4, 2)]) (asC := [(4, 0), (0, x1), (0, x2), (0, x3), (0, 0), (4, 1)]) (LN := [(5, (0, 0)), (4, (4, 3)), (3, (4, 2)), (2, (4, 1)), (1, (4, 0)), (0, (6, 0))]) (stN := []) (hsC := jpA_116) (hsD := jpA_113) (v := (0, 0)) (st2 := [(0, 0)]) (hs2 := jpA_329) (jA_328_81 (d := 0) (by omega) (by omega) (by omega)) (by rfl) (by rfl) (by decide +kernel) (by rfl) (by rfl) (by omega) (by omega) (by omega) (by omega) rfl (by decide +kernel) ?_
  refine jT_xistore (v := (0, 0)) (LN := [(6, (0, 0)), (5, (0, 0)), (4, (4, 3)), (3, (4, 2)), (2, (4, 1)), (1, (4, 0)), (0, (6, 0))]) (pcN := 482) jI_379_480 rfl rfl rfl rfl ?_
  refine jT_xaload_n (v := (4, 1)) (pcN := 483) jI_379_482 rfl rfl rfl ?_
  refine jT_xaload_n (v := (6, 0)) (pcN := 484) jI_379_483 rfl rfl rfl ?_
  refine jT_xiload (v := (0, 0)) (pcN := 486) jI_379_484 rfl rfl rfl ?_
  refine jT_xiconst (k := 1) (pcN := 487) jI_379_486 rfl ?_
  refine jT_xiadd (x := 0) (y := 1) (z := 1) (pcN := 488) jI_379_487 rfl (by decide) rfl ?_
  refine jT_adv 1 (pcN := 489) (LN := [(6, (0, 0)), (5, (0, 0)), (4, (4, 3)), (3, (4, 2)), (2, (4, 1)), (1, (4, 0)), (0, (6, 0))]) (stN := [(0, x1), (4, 1)]) (hsN := jpA_329) (c1 := 0) (s1 := 0) (c2 := 0) (s2 := 0) (by exact rfl) ?_ (by omega) (by omega)
  refine jT_xaload_n (v := (6, 0)) (pcN := 490) jI_379_489 rfl rfl rfl ?_
  refine jT_xiload (v := (0, 0)) (pcN := 492) jI_379_490 rfl rfl rfl ?_
  refine jT_xiconst (k := 2) (pcN := 493) jI_379_492 rfl ?_
  refine jT_xiadd (x := 0) (y := 2) (z := 2) (pcN := 494) jI_379_493 rfl (by decide) rfl ?_
  refine jT_adv 1 (pcN := 495) (LN := [(6, (0, 0)), (5, (0, 0)), (4, (4, 3)), (3, (4, 2)), (2, (4, 1)), (1, (4, 0)), (0, (6, 0))]) (stN := [(0, x2), (0, x1), (4, 1)]) (hsN := jpA_329) (c1 := 0) (s1 := 0) (c2 := 0) (s2 := 0) (by exact rfl) ?_ (by omega) (by omega)
  refine jT_xaload_n (v := (6, 0)) (pcN := 496) jI_379_495 rfl rfl rfl ?_
  refine jT_xiload (v := (0, 0)) (pcN := 498) jI_379_496 rfl rfl rfl ?_
  refine jT_xiconst (k := 3) (pcN := 499) jI_379_498 rfl ?_
  refine jT_xiadd (x := 0) (y := 3) (z := 3) (pcN := 500) jI_379_499 rfl (by decide) rfl ?_
  refine jT_adv 1 (pcN := 501) (LN := [(6, (0, 0)), (5, (0, 0)), (4, (4, 3)), (3, (4, 2)), (2, (4, 1)), (1, (4, 0)), (0, (6, 0))]) (stN := [(0, x3), (0, x2), (0, x1), (4, 1)]) (hsN := jpA_329) (c1 := 0) (s1 := 0) (c2 := 0) (s2 := 0) (by exact rfl) ?_ (by omega) (by omega)
  refine jT_xaload_n (v := (6, 0)) (pcN := 502) jI_379_501 rfl rfl rfl ?_
  refine jT_xiload (v := (0, 0)) (pcN := 504) jI_379_502 rfl rfl rfl ?_
  refine jT_xiconst (k := 4) (pcN := 505) jI_379_504 rfl ?_
  refine jT_xiadd (x := 0) (y := 4) (z := 4) (pcN := 506) jI_379_505 rfl (by decide) rfl ?_
  refine jT_adv 1 (pcN := 507) (LN := [(6, (0, 0)), (5, (0, 0)), (4, (4, 3)), (3, (4, 2)), (2, (4, 1)), (1, (4, 0)), (0, (6, 0))]) (stN := [(0, x4), (0, x3), (0, x2), (0, x1), (4, 1)]) (hsN := jpA_329) (c1 := 0) (s1 := 0) (c2 := 0) (s2 := 0) (by exact rfl) ?_ (by omega) (by omega)
  refine jT_eq (LN := [(6, (0, 0)), (5, (0, 0)), (4, (4, 3)), (3, (4, 2)), (2, (4, 1)), (1, (4, 0)), (0, (6, 0))]) (stN := [(0, 0), (0, x3), (0, x2), (0, x1), (4, 1)]) (hsN := [jzA_326, jzA_266, (101, [], [1]), jgh, jgh, jgh, jgh, jgh, jgh, jgh, jgh, jgh, jgh, jzA_327, jzA_322, (100, [], jS0), (100, [], []), jzA_323, jzA_197, jgh, jgh, (101, [], [0, 0, 0, 0, 0, 0]), jgh, jgh, jgh, jgh, jgh, jgh, jgh, jgh, jzA_324, jgh, jgh, jgh, jgh, (100, [], (List.replicate 1613 0)), jgh, jgh, jgh, jgh, jgh, jgh, jgh, (4, [(4, 44), (1, 1)], []), (101, [], [0, 0, 0, 0, 0, 0]), (101, [], [0, 0, 0, 0, 0, 0]), (4, [(4, 45), (1, 1)], []), jgh, jzA_328]) (rfl) (by simp only [List.cons.injEq, Prod.mk.injEq, and_true, true_and] <;> ((try unfold jw); (try unfold jwl); omega)) (rfl) ?_
  refine jT_xifT (pcN := 514) jI_379_507 rfl (by decide +kernel) rfl ?_
  refine jT_xiconst (k := 0) (pcN := 515) jI_379_514 rfl ?_
  refine jT_fB [1, 15, 16, 17, 18, 19, 20, 21, 22, 23, 24, 25, 26, 27, 28, 29, 35, 36, 37, 38, 39, 40, 41, 42] 49 (y := 201) (pcN := 518) (dC := 3) (bc1 := 0) (bc2 := 0) (c1 := 0) (c2 := 0) (as := [(4, 1), (0, x1), (0, x2), (0, x3), (0, 0)]) (asC := [(4, 0), (0, x1), (0, x2), (0, x3), (0, 0)]) (LN := [(6, (0, 0)), (5, (0, 0)), (4, (4, 3)), (3, (4, 2)), (2, (4, 1)), (1, (4, 0)), (0, (6, 0))]) (stN := []) (hsC := jpA_248) (hsD := [jzA_200, (100, [], ((((((((((((((jS0).set ((7 * x1).toNat) 0)).set ((7 * x1 + 1).toNat) 0)).set ((7 * x1 + 2).toNat) 0)).set ((7 * x1 + 3).toNat) 0)).set ((7 * x1 + 4).toNat) 0)).set ((7 * x1 + 5).toNat) 0)).set ((7 * x1 + 6).toNat) 1)), (100, [], []), jzA_196, jzA_201, jgh, jgh, (101, [], [0, 0, 0, 0, 0, 0]), jgh, jgh, jgh, jgh, jgh, jgh, jgh, jgh, (100, [], jS0), jgh, jgh, jgh, jgh, jgh, jgh, jgh]) (v := (0, 1)) (st2 := [(0, 1)]) (hs2 := [jzA_326, jzA_330, (101, [], [1]), jgh, jgh, jgh, jgh, jgh, jgh, jgh, jgh, jgh, jgh, jzA_327, jzA_322, (100, [], ((((((((((((((jS0).set ((7 * x1).toNat) 0)).set ((7 * x1 + 1).toNat) 0)).set ((7 * x1 + 2).toNat) 0)).set ((7 * x1 + 3).toNat) 0)).set ((7 * x1 + 4).toNat) 0)).set ((7 * x1 + 5).toNat) 0)).set ((7 * x1 + 6).toNat) 1)), (100, [], []), jzA_323, jzA_331, jgh, jgh, (101, [], [0, 0, 0, 0, 0, 0]), jgh, jgh, jgh, jgh, jgh, jgh, jgh, jgh, jzA_324, jgh, jgh, jgh, jgh, (100, [], jS0), jgh, jgh, jgh, jgh, jgh, jgh, jgh, (4, [(4, 44), (1, 1)], []), (101, [], [0, 0, 0, 0, 0, 0]), (101, [], [0, 0, 0, 0, 0, 0]), (4, [(4, 45), (1, 1)], []), jgh, jzA_328]) (jA_201_83 (d := 0) (by omega) (by omega) (by omega)) (by rfl) (by rfl) (by decide +kernel) (by rfl) (by rfl) (by omega) (by omega) (by omega) (by omega) rfl rfl ?_
  refine jT_xistore (v := (0, 1)) (LN := [(7, (0, 1)), (6, (0, 0)), (5, (0, 0)), (4, (4, 3)), (3, (4, 2)), (2, (4, 1)), (1, (4, 0)), (0, (6, 0))]) (pcN := 520) jI_379_518 rfl rfl rfl rfl ?_
  refine jT_xaload_n (v := (4, 1)) (pcN := 521) jI_379_520 rfl rfl rfl ?_
  refine jT_callA [1, 15, 16, 17, 18, 19, 20, 21, 22, 23, 24, 25, 26, 27, 28, 29] (y := 186) (pcN := 524) (dC := 0) (bc1 := 0) (bc2 := 0) (c1 := 0) (c2 := 0) (as := [(4, 1)]) (asC := [(4, 0)]) (LN := [(7, (0, 1)), (6, (0, 0)), (5, (0, 0)), (4, (4, 3)), (3, (4, 2)), (2, (4, 1)), (1, (4, 0)), (0, (6, 0))]) (stN := []) (hsC := jpA_258) (ex := []) (v := (0, 0)) (st2 := [(0, 0)]) (hs2 := [jzA_326, jzA_330, (101, [], [1]), jgh, jgh, jgh, jgh, jgh, jgh, jgh, jgh, jgh, jgh, jzA_327, jzA_322, (100, [], ((((((((((((((jS0).set ((7 * x1).toNat) 0)).set ((7 * x1 + 1).toNat) 0)).set ((7 * x1 + 2).toNat) 0)).set ((7 * x1 + 3).toNat) 0)).set ((7 * x1 + 4).toNat) 0)).set ((7 * x1 + 5).toNat) 0)).set ((7 * x1 + 6).toNat) 1)), (100, [], []), jzA_323, jzA_331, jgh, jgh, (101, [], [0, 0, 0, 0, 0, 0]), jgh, jgh, jgh, jgh, jgh, jgh, jgh, jgh, jzA_324, jgh, jgh, jgh, jgh, (100, [], jS0), jgh, jgh, jgh, jgh, jgh, jgh, jgh, (4, [(4, 44), (1, 1)], []), (101, [], [0, 0, 0, 0, 0, 0]), (101, [], [0, 0, 0, 0, 0, 0]), (4, [(4, 45), (1, 1)], []), jgh, jzA_328]) (jA_186_54 (d := 0)) (by rfl) (by rfl) (by rfl) (by rfl) ⟨rfl, rfl, rfl, rfl, rfl, rfl, rfl, rfl, rfl, rfl, rfl, rfl, rfl, rfl, rfl, rfl, trivial⟩ (by rfl) (by rfl) (by omega) (by show 45 ≤ 49; omega) (by omega) (by omega) rfl rfl ?_
  refine jT_xiload (v := (0, 0)) (pcN := 526) jI_379_524 rfl rfl rfl ?_
  refine jT_xicT (pcN := 531) jI_379_526 rfl (by decide +kernel) rfl ?_
  refine jT_xiload (v := (0, 0)) (pcN := 533) jI_379_531 rfl rfl rfl ?_
  refine jT_xifF (t := 548) (pcN := 536) jI_379_533 rfl (by decide +kernel) rfl rfl ?_
  refine jT_xaload_n (v := (4, 2)) (pcN := 537) jI_379_536 rfl rfl rfl ?_
  refine jT_xiconst (k := 0) (pcN := 538) jI_379_537 rfl ?_
  refine jT_lald (x := 1) (a := 2) (j := 0) (fs := []) (X := [1]) jI_379_538 rfl rfl rfl rfl ?_
  refine jT_eq (LN := [(7, (0, 1)), (6, (0, 0)), (5, (0, 0)), (4, (4, 3)), (3, (4, 2)), (2, (4, 1)), (1, (4, 0)), (0, (6, 0))]) (stN := [(1, 1)]) (hsN := [jzA_326, jzA_330, (101, [], [1]), jgh, jgh, jgh, jgh, jgh, jgh, jgh, jgh, jgh, jgh, jzA_327, jzA_322, (100, [], ((((((((((((((jS0).set ((7 * x1).toNat) 0)).set ((7 * x1 + 1).toNat) 0)).set ((7 * x1 + 2).toNat) 0)).set ((7 * x1 + 3).toNat) 0)).set ((7 * x1 + 4).toNat) 0)).set ((7 * x1 + 5).toNat) 0)).set ((7 * x1 + 6).toNat) 1)), (100, [], []), jzA_323, jzA_331, jgh, jgh, (101, [], [0, 0, 0, 0, 0, 0]), jgh, jgh, jgh, jgh, jgh, jgh, jgh, jgh, jzA_324, jgh, jgh, jgh, jgh, (100, [], jS0), jgh, jgh, jgh, jgh, jgh, jgh, jgh, (4, [(4, 44), (1, 1)], []), (101, [], [0, 0, 0, 0, 0, 0]), (101, [], [0, 0, 0, 0, 0, 0]), (4, [(4, 45), (1, 1)], []), jgh, jzA_328]) rfl rfl rfl ?_
  refine jT_xiload (v := (0, 1)) (pcN := 541) jI_379_539 rfl rfl rfl ?_
  refine jT_xi2l (x := 1) (z := 1) (pcN := 542) jI_379_541 rfl (by decide +kernel) rfl ?_
  refine jT_lcmp (a := 1) (b := 1) (z := 0) (by rfl) (by rfl) (by decide +kernel) (by decide +kernel) (by decide) ?_
  refine jT_xifT (pcN := 548) jI_379_543 rfl (by decide +kernel) rfl ?_
  refine jT_xgoto (pcN := 3740) jI_379_548 rfl ?_
  refine jT_xiinc (x := 0) (z := 5) (LN := [(5, (0, 5)), (7, (0, 1)), (6, (0, 0)), (4, (4, 3)), (3, (4, 2)), (2, (4, 1)), (1, (4, 0)), (0, (6, 0))]) (pcN := 3743) jI_379_3740 rfl rfl (by decide) rfl rfl ?_
  refine jT_xgoto (pcN := 28) jI_379_3743 rfl ?_
  refine jT_xiload (v := (0, 5)) (pcN := 30) jI_379_28 rfl rfl rfl ?_
  refine jT_xaload_n (v := (6, 0)) (pcN := 31) jI_379_30 rfl rfl rfl ?_
  refine jT_adv 1 (pcN := 32) (LN := [(5, (0, 5)), (7, (0, 1)), (6, (0, 0)), (4, (4, 3)), (3, (4, 2)), (2, (4, 1)), (1, (4, 0)), (0, (6, 0))]) (stN := [(0, 5), (0, 5)]) (hsN := [jzA_326, jzA_330, (101, [], [1]), jgh, jgh, jgh, jgh, jgh, jgh, jgh, jgh, jgh, jgh, jzA_327, jzA_322, (100, [], ((((((((((((((jS0).set ((7 * x1).toNat) 0)).set ((7 * x1 + 1).toNat) 0)).set ((7 * x1 + 2).toNat) 0)).set ((7 * x1 + 3).toNat) 0)).set ((7 * x1 + 4).toNat) 0)).set ((7 * x1 + 5).toNat) 0)).set ((7 * x1 + 6).toNat) 1)), (100, [], []), jzA_323, jzA_331, jgh, jgh, (101, [], [0, 0, 0, 0, 0, 0]), jgh, jgh, jgh, jgh, jgh, jgh, jgh, jgh, jzA_324, jgh, jgh, jgh, jgh, (100, [], jS0), jgh, jgh, jgh, jgh, jgh, jgh, jgh, (4, [(4, 44), (1, 1)], []), (101, [], [0, 0, 0, 0, 0, 0]), (101, [], [0, 0, 0, 0, 0, 0]), (4, [(4, 45), (1, 1)], []), jgh, jzA_328]) (c1 := 0) (s1 := 0) (c2 := 0) (s2 := 0) (by exact rfl) ?_ (by omega) (by omega)
  refine jT_xiconst (k := 5) (pcN := 33) jI_379_32 rfl ?_
  refine jT_xisub (x := 5) (y := 5) (z := 0) (pcN := 34) jI_379_33 rfl (by decide) rfl ?_
  refine jT_xicT (pcN := 3746) jI_379_34 rfl (by decide +kernel) rfl ?_
  refine jT_xiconst (k := 1) (pcN := 3747) jI_379_3746 rfl ?_
  exact jT_ret rfl (by decide) (by show 45 ≤ 49; decide) (by omega) (by omega) ⟨rfl, rfl⟩
set_option maxRecDepth 100000 in
theorem jL_2_11 {d : Nat} {x0 x1 x2 x3 x4 : Int} (h_x0 : (-2147483648) ≤ x0 ∧ x0 ≤ 2147483647) (h_x1 : 0 ≤ x1 ∧ x1 ≤ 7) (h_x2 : 0 ≤ x2 ∧ x2 ≤ 7) (h_x3 : 8 ≤ x3 ∧ x3 ≤ 2147483647) (h_x4 : 0 ≤ x4 ∧ x4 ≤ 0) : jT [x0, x1, x2, x3, x4] (d + 3) 379 30 443 [(5, (0, 0)), (4, (4, 3)), (3, (4, 2)), (2, (4, 1)), (1, (4, 0)), (0, (6, 0))] [] jpA_267 1 6 (fun k v hsN => k = 0 ∧ v = (0, 1)) := by
  refine jT_xaload_n (v := (4, 0)) (pcN := 444) jI_379_443 rfl rfl rfl ?_
  refine jT_xaload_n (v := (6, 0)) (pcN := 445) jI_379_444 rfl rfl rfl ?_
  refine jT_xiload (v := (0, 0)) (pcN := 447) jI_379_445 rfl rfl rfl ?_
  refine jT_xiconst (k := 1) (pcN := 448) jI_379_447 rfl ?_
  refine jT_xiadd (x := 0) (y := 1) (z := 1) (pcN := 449) jI_379_448 rfl (by decide) rfl ?_
  refine jT_adv 1 (pcN := 450) (LN := [(5, (0, 0)), (4, (4, 3)), (3, (4, 2)), (2, (4, 1)), (1, (4, 0)), (0, (6, 0))]) (stN := [(0, x1), (4, 0)]) (hsN := jpA_267) (c1 := 0) (s1 := 0) (c2 := 1) (s2 := 6) (by exact rfl) ?_ (by omega) (by omega)
  refine jT_xaload_n (v := (6, 0)) (pcN := 451) jI_379_450 rfl rfl rfl ?_
  refine jT_xiload (v := (0, 0)) (pcN := 453) jI_379_451 rfl rfl rfl ?_
  refine jT_xiconst (k := 2) (pcN := 454) jI_379_453 rfl ?_
  refine jT_xiadd (x := 0) (y := 2) (z := 2) (pcN := 455) jI_379_454 rfl (by decide) rfl ?_
  refine jT_adv 1 (pcN := 456) (LN := [(5, (0, 0)), (4, (4, 3)), (3, (4, 2)), (2, (4, 1)), (1, (4, 0)), (0, (6, 0))]) (stN := [(0, x2), (0, x1), (4, 0)]) (hsN := jpA_267) (c1 := 0) (s1 := 0) (c2 := 1) (s2 := 6) (by exact rfl) ?_ (by omega) (by omega)
  refine jT_xaload_n (v := (6, 0)) (pcN := 457) jI_379_456 rfl rfl rfl ?_
  refine jT_xiload (v := (0, 0)) (pcN := 459) jI_379_457 rfl rfl rfl ?_
  refine jT_xiconst (k := 3) (pcN := 460) jI_379_459 rfl ?_
  refine jT_xiadd (x := 0) (y := 3) (z := 3) (pcN := 461) jI_379_460 rfl (by decide) rfl ?_
  refine jT_adv 1 (pcN := 462) (LN := [(5, (0, 0)), (4, (4, 3)), (3, (4, 2)), (2, (4, 1)), (1, (4, 0)), (0, (6, 0))]) (stN := [(0, x3), (0, x2), (0, x1), (4, 0)]) (hsN := jpA_267) (c1 := 0) (s1 := 0) (c2 := 1) (s2 := 6) (by exact rfl) ?_ (by omega) (by omega)
  refine jT_xaload_n (v := (6, 0)) (pcN := 463) jI_379_462 rfl rfl rfl ?_
  refine jT_xiload (v := (0, 0)) (pcN := 465) jI_379_463 rfl rfl rfl ?_
  refine jT_xiconst (k := 4) (pcN := 466) jI_379_465 rfl ?_
  refine jT_xiadd (x := 0) (y := 4) (z := 4) (pcN := 467) jI_379_466 rfl (by decide) rfl ?_
  refine jT_adv 1 (pcN := 468) (LN := [(5, (0, 0)), (4, (4, 3)), (3, (4, 2)), (2, (4, 1)), (1, (4, 0)), (0, (6, 0))]) (stN := [(0, x4), (0, x3), (0, x2), (0, x1), (4, 0)]) (hsN := jpA_267) (c1 := 0) (s1 := 0) (c2 := 1) (s2 := 6) (by exact rfl) ?_ (by omega) (by omega)
  refine jT_eq (LN := [(5, (0, 0)), (4, (4, 3)), (3, (4, 2)), (2, (4, 1)), (1, (4, 0)), (0, (6, 0))]) (stN := [(0, 0), (0, x3), (0, x2), (0, x1), (4, 0)]) (hsN := [jzA_265, jzA_266, jgh, jgh, jgh, jgh, jgh, jgh, jgh, jgh, jgh, jgh, jgh, jgh, jgh, jgh, jgh, jgh, jgh, jgh, jgh, jgh, jgh, jgh, jgh, jgh, jgh, jgh, jgh, jgh]) (rfl) (by simp only [List.cons.injEq, Prod.mk.injEq, and_true, true_and] <;> ((try unfold jw); (try unfold jwl); omega)) (rfl) ?_
  refine jT_xifT (pcN := 475) jI_379_468 rfl (by decide +kernel) rfl ?_
  refine jT_xiconst (k := 0) (pcN := 476) jI_379_475 rfl ?_
  refine jT_xaload_n (v := (4, 2)) (pcN := 477) jI_379_476 rfl rfl rfl ?_
  refine jT_fR [0, 2, 4, 5, 6, 7, 8, 9, 10, 11, 12, 13, 14] 30 (y := 328) (pcN := 480) (dC := 2) (bc1 := 1) (bc2 := 6) (c1 := 0) (c2 := 0) (as := [(4, 0), (0, x1), (0, x2), (0, x3), (0, 0), (4, 2)]) (asC := [(4, 0), (0, x1), (0, x2), (0, x3), (0, 0), (4, 1)]) (LN := [(5, (0, 0)), (4, (4, 3)), (3, (4, 2)), (2, (4, 1)), (1, (4, 0)), (0, (6, 0))]) (stN := []) (hsC := jpA_15) (v := (0, 1)) (st2 := [(0, 1)]) (jA_328_85 (d := 0) (by omega) (by omega) (by omega)) (by rfl) (by rfl) (by decide +kernel) (by rfl) (by rfl) (by omega) (by omega) (by omega) (by omega) rfl ?_
  refine jT_xistore (v := (0, 1)) (LN := [(6, (0, 1)), (5, (0, 0)), (4, (4, 3)), (3, (4, 2)), (2, (4, 1)), (1, (4, 0)), (0, (6, 0))]) (pcN := 482) jI_379_480 rfl rfl rfl rfl ?_
  refine jT_xaload_n (v := (4, 1)) (pcN := 483) jI_379_482 rfl rfl rfl ?_
  refine jT_xaload_n (v := (6, 0)) (pcN := 484) jI_379_483 rfl rfl rfl ?_
  refine jT_xiload (v := (0, 0)) (pcN := 486) jI_379_484 rfl rfl rfl ?_
  refine jT_xiconst (k := 1) (pcN := 487) jI_379_486 rfl ?_
  refine jT_xiadd (x := 0) (y := 1) (z := 1) (pcN := 488) jI_379_487 rfl (by decide) rfl ?_
  refine jT_adv 1 (pcN := 489) (LN := [(6, (0, 1)), (5, (0, 0)), (4, (4, 3)), (3, (4, 2)), (2, (4, 1)), (1, (4, 0)), (0, (6, 0))]) (stN := [(0, x1), (4, 1)]) (hsN := jpA_267) (c1 := 0) (s1 := 0) (c2 := 0) (s2 := 0) (by exact rfl) ?_ (by omega) (by omega)
  refine jT_xaload_n (v := (6, 0)) (pcN := 490) jI_379_489 rfl rfl rfl ?_
  refine jT_xiload (v := (0, 0)) (pcN := 492) jI_379_490 rfl rfl rfl ?_
  refine jT_xiconst (k := 2) (pcN := 493) jI_379_492 rfl ?_
  refine jT_xiadd (x := 0) (y := 2) (z := 2) (pcN := 494) jI_379_493 rfl (by decide) rfl ?_
  refine jT_adv 1 (pcN := 495) (LN := [(6, (0, 1)), (5, (0, 0)), (4, (4, 3)), (3, (4, 2)), (2, (4, 1)), (1, (4, 0)), (0, (6, 0))]) (stN := [(0, x2), (0, x1), (4, 1)]) (hsN := jpA_267) (c1 := 0) (s1 := 0) (c2 := 0) (s2 := 0) (by exact rfl) ?_ (by omega) (by omega)
  refine jT_xaload_n (v := (6, 0)) (pcN := 496) jI_379_495 rfl rfl rfl ?_
  refine jT_xiload (v := (0, 0)) (pcN := 498) jI_379_496 rfl rfl rfl ?_
  refine jT_xiconst (k := 3) (pcN := 499) jI_379_498 rfl ?_
  refine jT_xiadd (x := 0) (y := 3) (z := 3) (pcN := 500) jI_379_499 rfl (by decide) rfl ?_
  refine jT_adv 1 (pcN := 501) (LN := [(6, (0, 1)), (5, (0, 0)), (4, (4, 3)), (3, (4, 2)), (2, (4, 1)), (1, (4, 0)), (0, (6, 0))]) (stN := [(0, x3), (0, x2), (0, x1), (4, 1)]) (hsN := jpA_267) (c1 := 0) (s1 := 0) (c2 := 0) (s2 := 0) (by exact rfl) ?_ (by omega) (by omega)
  refine jT_xaload_n (v := (6, 0)) (pcN := 502) jI_379_501 rfl rfl rfl ?_
  refine jT_xiload (v := (0, 0)) (pcN := 504) jI_379_502 rfl rfl rfl ?_
  refine jT_xiconst (k := 4) (pcN := 505) jI_379_504 rfl ?_
  refine jT_xiadd (x := 0) (y := 4) (z := 4) (pcN := 506) jI_379_505 rfl (by decide) rfl ?_
  refine jT_adv 1 (pcN := 507) (LN := [(6, (0, 1)), (5, (0, 0)), (4, (4, 3)), (3, (4, 2)), (2, (4, 1)), (1, (4, 0)), (0, (6, 0))]) (stN := [(0, x4), (0, x3), (0, x2), (0, x1), (4, 1)]) (hsN := jpA_267) (c1 := 0) (s1 := 0) (c2 := 0) (s2 := 0) (by exact rfl) ?_ (by omega) (by omega)
  refine jT_eq (LN := [(6, (0, 1)), (5, (0, 0)), (4, (4, 3)), (3, (4, 2)), (2, (4, 1)), (1, (4, 0)), (0, (6, 0))]) (stN := [(0, 0), (0, x3), (0, x2), (0, x1), (4, 1)]) (hsN := [jzA_265, jzA_266, jgh, jgh, jgh, jgh, jgh, jgh, jgh, jgh, jgh, jgh, jgh, jgh, jgh, jgh, jgh, jgh, jgh, jgh, jgh, jgh, jgh, jgh, jgh, jgh, jgh, jgh, jgh, jgh]) (rfl) (by simp only [List.cons.injEq, Prod.mk.injEq, and_true, true_and] <;> ((try unfold jw); (try unfold jwl); omega)) (rfl) ?_
  refine jT_xifT (pcN := 514) jI_379_507 rfl (by decide +kernel) rfl ?_
  refine jT_xiconst (k := 0) (pcN := 515) jI_379_514 rfl ?_
  refine jT_fB [1, 15, 16, 17, 18, 19, 20, 21, 22, 23, 24, 25, 26, 27, 28, 29] 30 (y := 201) (pcN := 518) (dC := 2) (bc1 := 0) (bc2 := 0) (c1 := 0) (c2 := 0) (as := [(4, 1), (0, x1), (0, x2), (0, x3), (0, 0)]) (asC := [(4, 0), (0, x1), (0, x2), (0, x3), (0, 0)]) (LN := [(6, (0, 1)), (5, (0, 0)), (4, (4, 3)), (3, (4, 2)), (2, (4, 1)), (1, (4, 0)), (0, (6, 0))]) (stN := []) (hsC := jpA_22) (hsD := jpA_20) (v := (0, 0)) (st2 := [(0, 0)]) (hs2 := jpA_306) (jA_201_86 (d := 0) (by omega) (by omega) (by omega)) (by rfl) (by rfl) (by decide +kernel) (by rfl) (by rfl) (by omega) (by omega) (by omega) (by omega) rfl (by decide +kernel) ?_
  refine jT_xistore (v := (0, 0)) (LN := [(7, (0, 0)), (6, (0, 1)), (5, (0, 0)), (4, (4, 3)), (3, (4, 2)), (2, (4, 1)), (1, (4, 0)), (0, (6, 0))]) (pcN := 520) jI_379_518 rfl rfl rfl rfl ?_
  refine jT_xaload_n (v := (4, 1)) (pcN := 521) jI_379_520 rfl rfl rfl ?_
  refine jT_fR [1, 15, 16, 17, 18, 19, 20, 21, 22, 23, 24, 25, 26, 27, 28, 29] 30 (y := 186) (pcN := 524) (dC := 0) (bc1 := 0) (bc2 := 0) (c1 := 0) (c2 := 0) (as := [(4, 1)]) (asC := [(4, 0)]) (LN := [(7, (0, 0)), (6, (0, 1)), (5, (0, 0)), (4, (4, 3)), (3, (4, 2)), (2, (4, 1)), (1, (4, 0)), (0, (6, 0))]) (stN := []) (hsC := jpA_20) (v := (0, 1)) (st2 := [(0, 1)]) (jA_186_8 (d := 0)) (by rfl) (by rfl) (by decide +kernel) (by rfl) (by rfl) (by omega) (by omega) (by omega) (by omega) rfl ?_
  refine jT_xiload (v := (0, 1)) (pcN := 526) jI_379_524 rfl rfl rfl ?_
  refine jT_xicT (pcN := 531) jI_379_526 rfl (by decide +kernel) rfl ?_
  refine jT_xiload (v := (0, 1)) (pcN := 533) jI_379_531 rfl rfl rfl ?_
  refine jT_xifT (pcN := 548) jI_379_533 rfl (by decide +kernel) rfl ?_
  refine jT_xgoto (pcN := 3740) jI_379_548 rfl ?_
  refine jT_xiinc (x := 0) (z := 5) (LN := [(5, (0, 5)), (7, (0, 0)), (6, (0, 1)), (4, (4, 3)), (3, (4, 2)), (2, (4, 1)), (1, (4, 0)), (0, (6, 0))]) (pcN := 3743) jI_379_3740 rfl rfl (by decide) rfl rfl ?_
  refine jT_xgoto (pcN := 28) jI_379_3743 rfl ?_
  refine jT_xiload (v := (0, 5)) (pcN := 30) jI_379_28 rfl rfl rfl ?_
  refine jT_xaload_n (v := (6, 0)) (pcN := 31) jI_379_30 rfl rfl rfl ?_
  refine jT_adv 1 (pcN := 32) (LN := [(5, (0, 5)), (7, (0, 0)), (6, (0, 1)), (4, (4, 3)), (3, (4, 2)), (2, (4, 1)), (1, (4, 0)), (0, (6, 0))]) (stN := [(0, 5), (0, 5)]) (hsN := jpA_306) (c1 := 0) (s1 := 0) (c2 := 0) (s2 := 0) (by exact rfl) ?_ (by omega) (by omega)
  refine jT_xiconst (k := 5) (pcN := 33) jI_379_32 rfl ?_
  refine jT_xisub (x := 5) (y := 5) (z := 0) (pcN := 34) jI_379_33 rfl (by decide) rfl ?_
  refine jT_xicT (pcN := 3746) jI_379_34 rfl (by decide +kernel) rfl ?_
  refine jT_xiconst (k := 1) (pcN := 3747) jI_379_3746 rfl ?_
  exact jT_ret rfl (by decide) (by show 30 ≤ 30; decide) (by omega) (by omega) ⟨rfl, rfl⟩
set_option maxRecDepth 100000 in
theorem jL_2_12 {d : Nat} {x0 x1 x2 x3 x4 : Int} (h_x0 : (-2147483648) ≤ x0 ∧ x0 ≤ 2147483647) (h_x1 : 0 ≤ x1 ∧ x1 ≤ 7) (h_x2 : 8 ≤ x2 ∧ x2 ≤ 2147483647) (h_x3 : (-2147483648) ≤ x3 ∧ x3 ≤ 2147483647) (h_x4 : 0 ≤ x4 ∧ x4 ≤ 0) : jT [x0, x1, x2, x3, x4] (d + 3) 379 30 443 [(5, (0, 0)), (4, (4, 3)), (3, (4, 2)), (2, (4, 1)), (1, (4, 0)), (0, (6, 0))] [] jpA_267 1 6 (fun k v hsN => k = 0 ∧ v = (0, 1)) := by
  refine jT_xaload_n (v := (4, 0)) (pcN := 444) jI_379_443 rfl rfl rfl ?_
  refine jT_xaload_n (v := (6, 0)) (pcN := 445) jI_379_444 rfl rfl rfl ?_
  refine jT_xiload (v := (0, 0)) (pcN := 447) jI_379_445 rfl rfl rfl ?_
  refine jT_xiconst (k := 1) (pcN := 448) jI_379_447 rfl ?_
  refine jT_xiadd (x := 0) (y := 1) (z := 1) (pcN := 449) jI_379_448 rfl (by decide) rfl ?_
  refine jT_adv 1 (pcN := 450) (LN := [(5, (0, 0)), (4, (4, 3)), (3, (4, 2)), (2, (4, 1)), (1, (4, 0)), (0, (6, 0))]) (stN := [(0, x1), (4, 0)]) (hsN := jpA_267) (c1 := 0) (s1 := 0) (c2 := 1) (s2 := 6) (by exact rfl) ?_ (by omega) (by omega)
  refine jT_xaload_n (v := (6, 0)) (pcN := 451) jI_379_450 rfl rfl rfl ?_
  refine jT_xiload (v := (0, 0)) (pcN := 453) jI_379_451 rfl rfl rfl ?_
  refine jT_xiconst (k := 2) (pcN := 454) jI_379_453 rfl ?_
  refine jT_xiadd (x := 0) (y := 2) (z := 2) (pcN := 455) jI_379_454 rfl (by decide) rfl ?_
  refine jT_adv 1 (pcN := 456) (LN := [(5, (0, 0)), (4, (4, 3)), (3, (4, 2)), (2, (4, 1)), (1, (4, 0)), (0, (6, 0))]) (stN := [(0, x2), (0, x1), (4, 0)]) (hsN := jpA_267) (c1 := 0) (s1 := 0) (c2 := 1) (s2 := 6) (by exact rfl) ?_ (by omega) (by omega)
  refine jT_xaload_n (v := (6, 0)) (pcN := 457) jI_379_456 rfl rfl rfl ?_
  refine jT_xiload (v := (0, 0)) (pcN := 459) jI_379_457 rfl rfl rfl ?_
  refine jT_xiconst (k := 3) (pcN := 460) jI_379_459 rfl ?_
  refine jT_xiadd (x := 0) (y := 3) (z := 3) (pcN := 461) jI_379_460 rfl (by decide) rfl ?_
  refine jT_adv 1 (pcN := 462) (LN := [(5, (0, 0)), (4, (4, 3)), (3, (4, 2)), (2, (4, 1)), (1, (4, 0)), (0, (6, 0))]) (stN := [(0, x3), (0, x2), (0, x1), (4, 0)]) (hsN := jpA_267) (c1 := 0) (s1 := 0) (c2 := 1) (s2 := 6) (by exact rfl) ?_ (by omega) (by omega)
  refine jT_xaload_n (v := (6, 0)) (pcN := 463) jI_379_462 rfl rfl rfl ?_
  refine jT_xiload (v := (0, 0)) (pcN := 465) jI_379_463 rfl rfl rfl ?_
  refine jT_xiconst (k := 4) (pcN := 466) jI_379_465 rfl ?_
  refine jT_xiadd (x := 0) (y := 4) (z := 4) (pcN := 467) jI_379_466 rfl (by decide) rfl ?_
  refine jT_adv 1 (pcN := 468) (LN := [(5, (0, 0)), (4, (4, 3)), (3, (4, 2)), (2, (4, 1)), (1, (4, 0)), (0, (6, 0))]) (stN := [(0, x4), (0, x3), (0, x2), (0, x1), (4, 0)]) (hsN := jpA_267) (c1 := 0) (s1 := 0) (c2 := 1) (s2 := 6) (by exact rfl) ?_ (by omega) (by omega)
  refine jT_eq (LN := [(5, (0, 0)), (4, (4, 3)), (3, (4, 2)), (2, (4, 1)), (1, (4, 0)), (0, (6, 0))]) (stN := [(0, 0), (0, x3), (0, x2), (0, x1), (4, 0)]) (hsN := [jzA_265, jzA_266, jgh, jgh, jgh, jgh, jgh, jgh, jgh, jgh, jgh, jgh, jgh, jgh, jgh, jgh, jgh, jgh, jgh, jgh, jgh, jgh, jgh, jgh, jgh, jgh, jgh, jgh, jgh, jgh]) (rfl) (by simp only [List.cons.injEq, Prod.mk.injEq, and_true, true_and] <;> ((try unfold jw); (try unfold jwl); omega)) (rfl) ?_
  refine jT_xifT (pcN := 475) jI_379_468 rfl (by decide +kernel) rfl ?_
  refine jT_xiconst (k := 0) (pcN := 476) jI_379_475 rfl ?_
  refine jT_xaload_n (v := (4, 2)) (pcN := 477) jI_379_476 rfl rfl rfl ?_
  refine jT_fR [0, 2, 4, 5, 6, 7, 8, 9, 10, 11, 12, 13, 14] 30 (y := 328) (pcN := 480) (dC := 2) (bc1 := 1) (bc2 := 6) (c1 := 0) (c2 := 0) (as := [(4, 0), (0, x1), (0, x2), (0, x3), (0, 0), (4, 2)]) (asC := [(4, 0), (0, x1), (0, x2), (0, x3), (0, 0), (4, 1)]) (LN := [(5, (0, 0)), (4, (4, 3)), (3, (4, 2)), (2, (4, 1)), (1, (4, 0)), (0, (6, 0))]) (stN := []) (hsC := jpA_15) (v := (0, 1)) (st2 := [(0, 1)]) (jA_328_88 (d := 0) (by omega) (by omega) (by omega)) (by rfl) (by rfl) (by decide +kernel) (by rfl) (by rfl) (by omega) (by omega) (by omega) (by omega) rfl ?_
  refine jT_xistore (v := (0, 1)) (LN := [(6, (0, 1)), (5, (0, 0)), (4, (4, 3)), (3, (4, 2)), (2, (4, 1)), (1, (4, 0)), (0, (6, 0))]) (pcN := 482) jI_379_480 rfl rfl rfl rfl ?_
  refine jT_xaload_n (v := (4, 1)) (pcN := 483) jI_379_482 rfl rfl rfl ?_
  refine jT_xaload_n (v := (6, 0)) (pcN := 484) jI_379_483 rfl rfl rfl ?_
  refine jT_xiload (v := (0, 0)) (pcN := 486) jI_379_484 rfl rfl rfl ?_
  refine jT_xiconst (k := 1) (pcN := 487) jI_379_486 rfl ?_
  refine jT_xiadd (x := 0) (y := 1) (z := 1) (pcN := 488) jI_379_487 rfl (by decide) rfl ?_
  refine jT_adv 1 (pcN := 489) (LN := [(6, (0, 1)), (5, (0, 0)), (4, (4, 3)), (3, (4, 2)), (2, (4, 1)), (1, (4, 0)), (0, (6, 0))]) (stN := [(0, x1), (4, 1)]) (hsN := jpA_267) (c1 := 0) (s1 := 0) (c2 := 0) (s2 := 0) (by exact rfl) ?_ (by omega) (by omega)
  refine jT_xaload_n (v := (6, 0)) (pcN := 490) jI_379_489 rfl rfl rfl ?_
  refine jT_xiload (v := (0, 0)) (pcN := 492) jI_379_490 rfl rfl rfl ?_
  refine jT_xiconst (k := 2) (pcN := 493) jI_379_492 rfl ?_
  refine jT_xiadd (x := 0) (y := 2) (z := 2) (pcN := 494) jI_379_493 rfl (by decide) rfl ?_
  refine jT_adv 1 (pcN := 495) (LN := [(6, (0, 1)), (5, (0, 0)), (4, (4, 3)), (3, (4, 2)), (2, (4, 1)), (1, (4, 0)), (0, (6, 0))]) (stN := [(0, x2), (0, x1), (4, 1)]) (hsN := jpA_267) (c1 := 0) (s1 := 0) (c2 := 0) (s2 := 0) (by exact rfl) ?_ (by omega) (by omega)
  refine jT_xaload_n (v := (6, 0)) (pcN := 496) jI_379_495 rfl rfl rfl ?_
  refine jT_xiload (v := (0, 0)) (pcN := 498) jI_379_496 rfl rfl rfl ?_
  refine jT_xiconst (k := 3) (pcN := 499) jI_379_498 rfl ?_
  refine jT_xiadd (x := 0) (y := 3) (z := 3) (pcN := 500) jI_379_499 rfl (by decide) rfl ?_
  refine jT_adv 1 (pcN := 501) (LN := [(6, (0, 1)), (5, (0, 0)), (4, (4, 3)), (3, (4, 2)), (2, (4, 1)), (1, (4, 0)), (0, (6, 0))]) (stN := [(0, x3), (0, x2), (0, x1), (4, 1)]) (hsN := jpA_267) (c1 := 0) (s1 := 0) (c2 := 0) (s2 := 0) (by exact rfl) ?_ (by omega) (by omega)
  refine jT_xaload_n (v := (6, 0)) (pcN := 502) jI_379_501 rfl rfl rfl ?_
  refine jT_xiload (v := (0, 0)) (pcN := 504) jI_379_502 rfl rfl rfl ?_
  refine jT_xiconst (k := 4) (pcN := 505) jI_379_504 rfl ?_
  refine jT_xiadd (x := 0) (y := 4) (z := 4) (pcN := 506) jI_379_505 rfl (by decide) rfl ?_
  refine jT_adv 1 (pcN := 507) (LN := [(6, (0, 1)), (5, (0, 0)), (4, (4, 3)), (3, (4, 2)), (2, (4, 1)), (1, (4, 0)), (0, (6, 0))]) (stN := [(0, x4), (0, x3), (0, x2), (0, x1), (4, 1)]) (hsN := jpA_267) (c1 := 0) (s1 := 0) (c2 := 0) (s2 := 0) (by exact rfl) ?_ (by omega) (by omega)
  refine jT_eq (LN := [(6, (0, 1)), (5, (0, 0)), (4, (4, 3)), (3, (4, 2)), (2, (4, 1)), (1, (4, 0)), (0, (6, 0))]) (stN := [(0, 0), (0, x3), (0, x2), (0, x1), (4, 1)]) (hsN := [jzA_265, jzA_266, jgh, jgh, jgh, jgh, jgh, jgh, jgh, jgh, jgh, jgh, jgh, jgh, jgh, jgh, jgh, jgh, jgh, jgh, jgh, jgh, jgh, jgh, jgh, jgh, jgh, jgh, jgh, jgh]) (rfl) (by simp only [List.cons.injEq, Prod.mk.injEq, and_true, true_and] <;> ((try unfold jw); (try unfold jwl); omega)) (rfl) ?_
  refine jT_xifT (pcN := 514) jI_379_507 rfl (by decide +kernel) rfl ?_
  refine jT_xiconst (k := 0) (pcN := 515) jI_379_514 rfl ?_
  refine jT_fB [1, 15, 16, 17, 18, 19, 20, 21, 22, 23, 24, 25, 26, 27, 28, 29] 30 (y := 201) (pcN := 518) (dC := 2) (bc1 := 0) (bc2 := 0) (c1 := 0) (c2 := 0) (as := [(4, 1), (0, x1), (0, x2), (0, x3), (0, 0)]) (asC := [(4, 0), (0, x1), (0, x2), (0, x3), (0, 0)]) (LN := [(6, (0, 1)), (5, (0, 0)), (4, (4, 3)), (3, (4, 2)), (2, (4, 1)), (1, (4, 0)), (0, (6, 0))]) (stN := []) (hsC := jpA_22) (hsD := jpA_20) (v := (0, 0)) (st2 := [(0, 0)]) (hs2 := jpA_306) (jA_201_89 (d := 0) (by omega) (by omega) (by omega)) (by rfl) (by rfl) (by decide +kernel) (by rfl) (by rfl) (by omega) (by omega) (by omega) (by omega) rfl (by decide +kernel) ?_
  refine jT_xistore (v := (0, 0)) (LN := [(7, (0, 0)), (6, (0, 1)), (5, (0, 0)), (4, (4, 3)), (3, (4, 2)), (2, (4, 1)), (1, (4, 0)), (0, (6, 0))]) (pcN := 520) jI_379_518 rfl rfl rfl rfl ?_
  refine jT_xaload_n (v := (4, 1)) (pcN := 521) jI_379_520 rfl rfl rfl ?_
  refine jT_fR [1, 15, 16, 17, 18, 19, 20, 21, 22, 23, 24, 25, 26, 27, 28, 29] 30 (y := 186) (pcN := 524) (dC := 0) (bc1 := 0) (bc2 := 0) (c1 := 0) (c2 := 0) (as := [(4, 1)]) (asC := [(4, 0)]) (LN := [(7, (0, 0)), (6, (0, 1)), (5, (0, 0)), (4, (4, 3)), (3, (4, 2)), (2, (4, 1)), (1, (4, 0)), (0, (6, 0))]) (stN := []) (hsC := jpA_20) (v := (0, 1)) (st2 := [(0, 1)]) (jA_186_8 (d := 0)) (by rfl) (by rfl) (by decide +kernel) (by rfl) (by rfl) (by omega) (by omega) (by omega) (by omega) rfl ?_
  refine jT_xiload (v := (0, 1)) (pcN := 526) jI_379_524 rfl rfl rfl ?_
  refine jT_xicT (pcN := 531) jI_379_526 rfl (by decide +kernel) rfl ?_
  refine jT_xiload (v := (0, 1)) (pcN := 533) jI_379_531 rfl rfl rfl ?_
  refine jT_xifT (pcN := 548) jI_379_533 rfl (by decide +kernel) rfl ?_
  refine jT_xgoto (pcN := 3740) jI_379_548 rfl ?_
  refine jT_xiinc (x := 0) (z := 5) (LN := [(5, (0, 5)), (7, (0, 0)), (6, (0, 1)), (4, (4, 3)), (3, (4, 2)), (2, (4, 1)), (1, (4, 0)), (0, (6, 0))]) (pcN := 3743) jI_379_3740 rfl rfl (by decide) rfl rfl ?_
  refine jT_xgoto (pcN := 28) jI_379_3743 rfl ?_
  refine jT_xiload (v := (0, 5)) (pcN := 30) jI_379_28 rfl rfl rfl ?_
  refine jT_xaload_n (v := (6, 0)) (pcN := 31) jI_379_30 rfl rfl rfl ?_
  refine jT_adv 1 (pcN := 32) (LN := [(5, (0, 5)), (7, (0, 0)), (6, (0, 1)), (4, (4, 3)), (3, (4, 2)), (2, (4, 1)), (1, (4, 0)), (0, (6, 0))]) (stN := [(0, 5), (0, 5)]) (hsN := jpA_306) (c1 := 0) (s1 := 0) (c2 := 0) (s2 := 0) (by exact rfl) ?_ (by omega) (by omega)
  refine jT_xiconst (k := 5) (pcN := 33) jI_379_32 rfl ?_
  refine jT_xisub (x := 5) (y := 5) (z := 0) (pcN := 34) jI_379_33 rfl (by decide) rfl ?_
  refine jT_xicT (pcN := 3746) jI_379_34 rfl (by decide +kernel) rfl ?_
  refine jT_xiconst (k := 1) (pcN := 3747) jI_379_3746 rfl ?_
  exact jT_ret rfl (by decide) (by show 30 ≤ 30; decide) (by omega) (by omega) ⟨rfl, rfl⟩
set_option maxRecDepth 100000 in
theorem jL_2_13 {d : Nat} {x0 x1 x2 x3 x4 : Int} (h_x0 : (-2147483648) ≤ x0 ∧ x0 ≤ 2147483647) (h_x1 : 8 ≤ x1 ∧ x1 ≤ 2147483647) (h_x2 : (-2147483648) ≤ x2 ∧ x2 ≤ 2147483647) (h_x3 : (-2147483648) ≤ x3 ∧ x3 ≤ 2147483647) (h_x4 : 0 ≤ x4 ∧ x4 ≤ 0) : jT [x0, x1, x2, x3, x4] (d + 3) 379 30 443 [(5, (0, 0)), (4, (4, 3)), (3, (4, 2)), (2, (4, 1)), (1, (4, 0)), (0, (6, 0))] [] jpA_267 1 6 (fun k v hsN => k = 0 ∧ v = (0, 1)) := by
  refine jT_xaload_n (v := (4, 0)) (pcN := 444) jI_379_443 rfl rfl rfl ?_
  refine jT_xaload_n (v := (6, 0)) (pcN := 445) jI_379_444 rfl rfl rfl ?_
  refine jT_xiload (v := (0, 0)) (pcN := 447) jI_379_445 rfl rfl rfl ?_
  refine jT_xiconst (k := 1) (pcN := 448) jI_379_447 rfl ?_
  refine jT_xiadd (x := 0) (y := 1) (z := 1) (pcN := 449) jI_379_448 rfl (by decide) rfl ?_
  refine jT_adv 1 (pcN := 450) (LN := [(5, (0, 0)), (4, (4, 3)), (3, (4, 2)), (2, (4, 1)), (1, (4, 0)), (0, (6, 0))]) (stN := [(0, x1), (4, 0)]) (hsN := jpA_267) (c1 := 0) (s1 := 0) (c2 := 1) (s2 := 6) (by exact rfl) ?_ (by omega) (by omega)
  refine jT_xaload_n (v := (6, 0)) (pcN := 451) jI_379_450 rfl rfl rfl ?_
  refine jT_xiload (v := (0, 0)) (pcN := 453) jI_379_451 rfl rfl rfl ?_
  refine jT_xiconst (k := 2) (pcN := 454) jI_379_453 rfl ?_
  refine jT_xiadd (x := 0) (y := 2) (z := 2) (pcN := 455) jI_379_454 rfl (by decide) rfl ?_
  refine jT_adv 1 (pcN := 456) (LN := [(5, (0, 0)), (4, (4, 3)), (3, (4, 2)), (2, (4, 1)), (1, (4, 0)), (0, (6, 0))]) (stN := [(0, x2), (0, x1), (4, 0)]) (hsN := jpA_267) (c1 := 0) (s1 := 0) (c2 := 1) (s2 := 6) (by exact rfl) ?_ (by omega) (by omega)
  refine jT_xaload_n (v := (6, 0)) (pcN := 457) jI_379_456 rfl rfl rfl ?_
  refine jT_xiload (v := (0, 0)) (pcN := 459) jI_379_457 rfl rfl rfl ?_
  refine jT_xiconst (k := 3) (pcN := 460) jI_379_459 rfl ?_
  refine jT_xiadd (x := 0) (y := 3) (z := 3) (pcN := 461) jI_379_460 rfl (by decide) rfl ?_
  refine jT_adv 1 (pcN := 462) (LN := [(5, (0, 0)), (4, (4, 3)), (3, (4, 2)), (2, (4, 1)), (1, (4, 0)), (0, (6, 0))]) (stN := [(0, x3), (0, x2), (0, x1), (4, 0)]) (hsN := jpA_267) (c1 := 0) (s1 := 0) (c2 := 1) (s2 := 6) (by exact rfl) ?_ (by omega) (by omega)
  refine jT_xaload_n (v := (6, 0)) (pcN := 463) jI_379_462 rfl rfl rfl ?_
  refine jT_xiload (v := (0, 0)) (pcN := 465) jI_379_463 rfl rfl rfl ?_
  refine jT_xiconst (k := 4) (pcN := 466) jI_379_465 rfl ?_
  refine jT_xiadd (x := 0) (y := 4) (z := 4) (pcN := 467) jI_379_466 rfl (by decide) rfl ?_
  refine jT_adv 1 (pcN := 468) (LN := [(5, (0, 0)), (4, (4, 3)), (3, (4, 2)), (2, (4, 1)), (1, (4, 0)), (0, (6, 0))]) (stN := [(0, x4), (0, x3), (0, x2), (0, x1), (4, 0)]) (hsN := jpA_267) (c1 := 0) (s1 := 0) (c2 := 1) (s2 := 6) (by exact rfl) ?_ (by omega) (by omega)
  refine jT_eq (LN := [(5, (0, 0)), (4, (4, 3)), (3, (4, 2)), (2, (4, 1)), (1, (4, 0)), (0, (6, 0))]) (stN := [(0, 0), (0, x3), (0, x2), (0, x1), (4, 0)]) (hsN := [jzA_265, jzA_266, jgh, jgh, jgh, jgh, jgh, jgh, jgh, jgh, jgh, jgh, jgh, jgh, jgh, jgh, jgh, jgh, jgh, jgh, jgh, jgh, jgh, jgh, jgh, jgh, jgh, jgh, jgh, jgh]) (rfl) (by simp only [List.cons.injEq, Prod.mk.injEq, and_true, true_and] <;> ((try unfold jw); (try unfold jwl); omega)) (rfl) ?_
  refine jT_xifT (pcN := 475) jI_379_468 rfl (by decide +kernel) rfl ?_
  refine jT_xiconst (k := 0) (pcN := 476) jI_379_475 rfl ?_
  refine jT_xaload_n (v := (4, 2)) (pcN := 477) jI_379_476 rfl rfl rfl ?_
  refine jT_fR [0, 2, 4, 5, 6, 7, 8, 9, 10, 11, 12, 13, 14] 30 (y := 328) (pcN := 480) (dC := 2) (bc1 := 1) (bc2 := 6) (c1 := 0) (c2 := 0) (as := [(4, 0), (0, x1), (0, x2), (0, x3), (0, 0), (4, 2)]) (asC := [(4, 0), (0, x1), (0, x2), (0, x3), (0, 0), (4, 1)]) (LN := [(5, (0, 0)), (4, (4, 3)), (3, (4, 2)), (2, (4, 1)), (1, (4, 0)), (0, (6, 0))]) (stN := []) (hsC := jpA_15) (v := (0, 1)) (st2 := [(0, 1)]) (jA_328_91 (d := 0) (by omega) (by omega) (by omega)) (by rfl) (by rfl) (by decide +kernel) (by rfl) (by rfl) (by omega) (by omega) (by omega) (by omega) rfl ?_
  refine jT_xistore (v := (0, 1)) (LN := [(6, (0, 1)), (5, (0, 0)), (4, (4, 3)), (3, (4, 2)), (2, (4, 1)), (1, (4, 0)), (0, (6, 0))]) (pcN := 482) jI_379_480 rfl rfl rfl rfl ?_
  refine jT_xaload_n (v := (4, 1)) (pcN := 483) jI_379_482 rfl rfl rfl ?_
  refine jT_xaload_n (v := (6, 0)) (pcN := 484) jI_379_483 rfl rfl rfl ?_
  refine jT_xiload (v := (0, 0)) (pcN := 486) jI_379_484 rfl rfl rfl ?_
  refine jT_xiconst (k := 1) (pcN := 487) jI_379_486 rfl ?_
  refine jT_xiadd (x := 0) (y := 1) (z := 1) (pcN := 488) jI_379_487 rfl (by decide) rfl ?_
  refine jT_adv 1 (pcN := 489) (LN := [(6, (0, 1)), (5, (0, 0)), (4, (4, 3)), (3, (4, 2)), (2, (4, 1)), (1, (4, 0)), (0, (6, 0))]) (stN := [(0, x1), (4, 1)]) (hsN := jpA_267) (c1 := 0) (s1 := 0) (c2 := 0) (s2 := 0) (by exact rfl) ?_ (by omega) (by omega)
  refine jT_xaload_n (v := (6, 0)) (pcN := 490) jI_379_489 rfl rfl rfl ?_
  refine jT_xiload (v := (0, 0)) (pcN := 492) jI_379_490 rfl rfl rfl ?_
  refine jT_xiconst (k := 2) (pcN := 493) jI_379_492 rfl ?_
  refine jT_xiadd (x := 0) (y := 2) (z := 2) (pcN := 494) jI_379_493 rfl (by decide) rfl ?_
  refine jT_adv 1 (pcN := 495) (LN := [(6, (0, 1)), (5, (0, 0)), (4, (4, 3)), (3, (4, 2)), (2, (4, 1)), (1, (4, 0)), (0, (6, 0))]) (stN := [(0, x2), (0, x1), (4, 1)]) (hsN := jpA_267) (c1 := 0) (s1 := 0) (c2 := 0) (s2 := 0) (by exact rfl) ?_ (by omega) (by omega)
  refine jT_xaload_n (v := (6, 0)) (pcN := 496) jI_379_495 rfl rfl rfl ?_
  refine jT_xiload (v := (0, 0)) (pcN := 498) jI_379_496 rfl rfl rfl ?_
  refine jT_xiconst (k := 3) (pcN := 499) jI_379_498 rfl ?_
  refine jT_xiadd (x := 0) (y := 3) (z := 3) (pcN := 500) jI_379_499 rfl (by decide) rfl ?_
  refine jT_adv 1 (pcN := 501) (LN := [(6, (0, 1)), (5, (0, 0)), (4, (4, 3)), (3, (4, 2)), (2, (4, 1)), (1, (4, 0)), (0, (6, 0))]) (stN := [(0, x3), (0, x2), (0, x1), (4, 1)]) (hsN := jpA_267) (c1 := 0) (s1 := 0) (c2 := 0) (s2 := 0) (by exact rfl) ?_ (by omega) (by omega)
  refine jT_xaload_n (v := (6, 0)) (pcN := 502) jI_379_501 rfl rfl rfl ?_
  refine jT_xiload (v := (0, 0)) (pcN := 504) jI_379_502 rfl rfl rfl ?_
  refine jT_xiconst (k := 4) (pcN := 505) jI_379_504 rfl ?_
  refine jT_xiadd (x := 0) (y := 4) (z := 4) (pcN := 506) jI_379_505 rfl (by decide) rfl ?_
  refine jT_adv 1 (pcN := 507) (LN := [(6, (0, 1)), (5, (0, 0)), (4, (4, 3)), (3, (4, 2)), (2, (4, 1)), (1, (4, 0)), (0, (6, 0))]) (stN := [(0, x4), (0, x3), (0, x2), (0, x1), (4, 1)]) (hsN := jpA_267) (c1 := 0) (s1 := 0) (c2 := 0) (s2 := 0) (by exact rfl) ?_ (by omega) (by omega)
  refine jT_eq (LN := [(6, (0, 1)), (5, (0, 0)), (4, (4, 3)), (3, (4, 2)), (2, (4, 1)), (1, (4, 0)), (0, (6, 0))]) (stN := [(0, 0), (0, x3), (0, x2), (0, x1), (4, 1)]) (hsN := [jzA_265, jzA_266, jgh, jgh, jgh, jgh, jgh, jgh, jgh, jgh, jgh, jgh, jgh, jgh, jgh, jgh, jgh, jgh, jgh, jgh, jgh, jgh, jgh, jgh, jgh, jgh, jgh, jgh, jgh, jgh]) (rfl) (by simp only [List.cons.injEq, Prod.mk.injEq, and_true, true_and] <;> ((try unfold jw); (try unfold jwl); omega)) (rfl) ?_
  refine jT_xifT (pcN := 514) jI_379_507 rfl (by decide +kernel) rfl ?_
  refine jT_xiconst (k := 0) (pcN := 515) jI_379_514 rfl ?_
  refine jT_fB [1, 15, 16, 17, 18, 19, 20, 21, 22, 23, 24, 25, 26, 27, 28, 29] 30 (y := 201) (pcN := 518) (dC := 2) (bc1 := 0) (bc2 := 0) (c1 := 0) (c2 := 0) (as := [(4, 1), (0, x1), (0, x2), (0, x3), (0, 0)]) (asC := [(4, 0), (0, x1), (0, x2), (0, x3), (0, 0)]) (LN := [(6, (0, 1)), (5, (0, 0)), (4, (4, 3)), (3, (4, 2)), (2, (4, 1)), (1, (4, 0)), (0, (6, 0))]) (stN := []) (hsC := jpA_22) (hsD := jpA_20) (v := (0, 0)) (st2 := [(0, 0)]) (hs2 := jpA_306) (jA_201_92 (d := 0) (by omega) (by omega) (by omega)) (by rfl) (by rfl) (by decide +kernel) (by rfl) (by rfl) (by omega) (by omega) (by omega) (by omega) rfl (by decide +kernel) ?_
  refine jT_xistore (v := (0, 0)) (LN := [(7, (0, 0)), (6, (0, 1)), (5, (0, 0)), (4, (4, 3)), (3, (4, 2)), (2, (4, 1)), (1, (4, 0)), (0, (6, 0))]) (pcN := 520) jI_379_518 rfl rfl rfl rfl ?_
  refine jT_xaload_n (v := (4, 1)) (pcN := 521) jI_379_520 rfl rfl rfl ?_
  refine jT_fR [1, 15, 16, 17, 18, 19, 20, 21, 22, 23, 24, 25, 26, 27, 28, 29] 30 (y := 186) (pcN := 524) (dC := 0) (bc1 := 0) (bc2 := 0) (c1 := 0) (c2 := 0) (as := [(4, 1)]) (asC := [(4, 0)]) (LN := [(7, (0, 0)), (6, (0, 1)), (5, (0, 0)), (4, (4, 3)), (3, (4, 2)), (2, (4, 1)), (1, (4, 0)), (0, (6, 0))]) (stN := []) (hsC := jpA_20) (v := (0, 1)) (st2 := [(0, 1)]) (jA_186_8 (d := 0)) (by rfl) (by rfl) (by decide +kernel) (by rfl) (by rfl) (by omega) (by omega) (by omega) (by omega) rfl ?_
  refine jT_xiload (v := (0, 1)) (pcN := 526) jI_379_524 rfl rfl rfl ?_
  refine jT_xicT (pcN := 531) jI_379_526 rfl (by decide +kernel) rfl ?_
  refine jT_xiload (v := (0, 1)) (pcN := 533) jI_379_531 rfl rfl rfl ?_
  refine jT_xifT (pcN := 548) jI_379_533 rfl (by decide +kernel) rfl ?_
  refine jT_xgoto (pcN := 3740) jI_379_548 rfl ?_
  refine jT_xiinc (x := 0) (z := 5) (LN := [(5, (0, 5)), (7, (0, 0)), (6, (0, 1)), (4, (4, 3)), (3, (4, 2)), (2, (4, 1)), (1, (4, 0)), (0, (6, 0))]) (pcN := 3743) jI_379_3740 rfl rfl (by decide) rfl rfl ?_
  refine jT_xgoto (pcN := 28) jI_379_3743 rfl ?_
  refine jT_xiload (v := (0, 5)) (pcN := 30) jI_379_28 rfl rfl rfl ?_
  refine jT_xaload_n (v := (6, 0)) (pcN := 31) jI_379_30 rfl rfl rfl ?_
  refine jT_adv 1 (pcN := 32) (LN := [(5, (0, 5)), (7, (0, 0)), (6, (0, 1)), (4, (4, 3)), (3, (4, 2)), (2, (4, 1)), (1, (4, 0)), (0, (6, 0))]) (stN := [(0, 5), (0, 5)]) (hsN := jpA_306) (c1 := 0) (s1 := 0) (c2 := 0) (s2 := 0) (by exact rfl) ?_ (by omega) (by omega)
  refine jT_xiconst (k := 5) (pcN := 33) jI_379_32 rfl ?_
  refine jT_xisub (x := 5) (y := 5) (z := 0) (pcN := 34) jI_379_33 rfl (by decide) rfl ?_
  refine jT_xicT (pcN := 3746) jI_379_34 rfl (by decide +kernel) rfl ?_
  refine jT_xiconst (k := 1) (pcN := 3747) jI_379_3746 rfl ?_
  exact jT_ret rfl (by decide) (by show 30 ≤ 30; decide) (by omega) (by omega) ⟨rfl, rfl⟩
set_option maxRecDepth 100000 in
theorem jL_2_14 {d : Nat} {x0 x1 x2 x3 x4 : Int} (h_x0 : (-2147483648) ≤ x0 ∧ x0 ≤ 2147483647) (h_x1 : (-2147483648) ≤ x1 ∧ x1 ≤ (-1)) (h_x2 : (-2147483648) ≤ x2 ∧ x2 ≤ 2147483647) (h_x3 : (-2147483648) ≤ x3 ∧ x3 ≤ 2147483647) (h_x4 : 1 ≤ x4 ∧ x4 ≤ 2147483647) : jT [x0, x1, x2, x3, x4] (d + 3) 379 30 443 [(5, (0, 0)), (4, (4, 3)), (3, (4, 2)), (2, (4, 1)), (1, (4, 0)), (0, (6, 0))] [] jpA_267 1 6 (fun k v hsN => k = 0 ∧ v = (0, 1)) := by
  refine jT_xaload_n (v := (4, 0)) (pcN := 444) jI_379_443 rfl rfl rfl ?_
  refine jT_xaload_n (v := (6, 0)) (pcN := 445) jI_379_444 rfl rfl rfl ?_
  refine jT_xiload (v := (0, 0)) (pcN := 447) jI_379_445 rfl rfl rfl ?_
  refine jT_xiconst (k := 1) (pcN := 448) jI_379_447 rfl ?_
  refine jT_xiadd (x := 0) (y := 1) (z := 1) (pcN := 449) jI_379_448 rfl (by decide) rfl ?_
  refine jT_adv 1 (pcN := 450) (LN := [(5, (0, 0)), (4, (4, 3)), (3, (4, 2)), (2, (4, 1)), (1, (4, 0)), (0, (6, 0))]) (stN := [(0, x1), (4, 0)]) (hsN := jpA_267) (c1 := 0) (s1 := 0) (c2 := 1) (s2 := 6) (by exact rfl) ?_ (by omega) (by omega)
  refine jT_xaload_n (v := (6, 0)) (pcN := 451) jI_379_450 rfl rfl rfl ?_
  refine jT_xiload (v := (0, 0)) (pcN := 453) jI_379_451 rfl rfl rfl ?_
  refine jT_xiconst (k := 2) (pcN := 454) jI_379_453 rfl ?_
  refine jT_xiadd (x := 0) (y := 2) (z := 2) (pcN := 455) jI_379_454 rfl (by decide) rfl ?_
  refine jT_adv 1 (pcN := 456) (LN := [(5, (0, 0)), (4, (4, 3)), (3, (4, 2)), (2, (4, 1)), (1, (4, 0)), (0, (6, 0))]) (stN := [(0, x2), (0, x1), (4, 0)]) (hsN := jpA_267) (c1 := 0) (s1 := 0) (c2 := 1) (s2 := 6) (by exact rfl) ?_ (by omega) (by omega)
  refine jT_xaload_n (v := (6, 0)) (pcN := 457) jI_379_456 rfl rfl rfl ?_
  refine jT_xiload (v := (0, 0)) (pcN := 459) jI_379_457 rfl rfl rfl ?_
  refine jT_xiconst (k := 3) (pcN := 460) jI_379_459 rfl ?_
  refine jT_xiadd (x := 0) (y := 3) (z := 3) (pcN := 461) jI_379_460 rfl (by decide) rfl ?_
  refine jT_adv 1 (pcN := 462) (LN := [(5, (0, 0)), (4, (4, 3)), (3, (4, 2)), (2, (4, 1)), (1, (4, 0)), (0, (6, 0))]) (stN := [(0, x3), (0, x2), (0, x1), (4, 0)]) (hsN := jpA_267) (c1 := 0) (s1 := 0) (c2 := 1) (s2 := 6) (by exact rfl) ?_ (by omega) (by omega)
  refine jT_xaload_n (v := (6, 0)) (pcN := 463) jI_379_462 rfl rfl rfl ?_
  refine jT_xiload (v := (0, 0)) (pcN := 465) jI_379_463 rfl rfl rfl ?_
  refine jT_xiconst (k := 4) (pcN := 466) jI_379_465 rfl ?_
  refine jT_xiadd (x := 0) (y := 4) (z := 4) (pcN := 467) jI_379_466 rfl (by decide) rfl ?_
  refine jT_adv 1 (pcN := 468) (LN := [(5, (0, 0)), (4, (4, 3)), (3, (4, 2)), (2, (4, 1)), (1, (4, 0)), (0, (6, 0))]) (stN := [(0, x4), (0, x3), (0, x2), (0, x1), (4, 0)]) (hsN := jpA_267) (c1 := 0) (s1 := 0) (c2 := 1) (s2 := 6) (by exact rfl) ?_ (by omega) (by omega)
  refine jT_ifF (a := x4) (t := 475) (by rfl) (by rfl) (by rfl) (jw_idd (by omega) (by omega)) (by simp only [jcP] <;> omega) ?_
  refine jT_xiconst (k := 1) (pcN := 472) jI_379_471 rfl ?_
  refine jT_xgoto (pcN := 476) jI_379_472 rfl ?_
  refine jT_xaload_n (v := (4, 2)) (pcN := 477) jI_379_476 rfl rfl rfl ?_
  refine jT_fR [0, 2, 4, 5, 6, 7, 8, 9, 10, 11, 12, 13, 14] 30 (y := 328) (pcN := 480) (dC := 2) (bc1 := 1) (bc2 := 6) (c1 := 0) (c2 := 0) (as := [(4, 0), (0, x1), (0, x2), (0, x3), (0, 1), (4, 2)]) (asC := [(4, 0), (0, x1), (0, x2), (0, x3), (0, 1), (4, 1)]) (LN := [(5, (0, 0)), (4, (4, 3)), (3, (4, 2)), (2, (4, 1)), (1, (4, 0)), (0, (6, 0))]) (stN := []) (hsC := jpA_15) (v := (0, 1)) (st2 := [(0, 1)]) (jA_328_3 (d := 0) (by omega) (by omega) (by omega)) (by rfl) (by rfl) (by decide +kernel) (by rfl) (by rfl) (by omega) (by omega) (by omega) (by omega) rfl ?_
  refine jT_xistore (v := (0, 1)) (LN := [(6, (0, 1)), (5, (0, 0)), (4, (4, 3)), (3, (4, 2)), (2, (4, 1)), (1, (4, 0)), (0, (6, 0))]) (pcN := 482) jI_379_480 rfl rfl rfl rfl ?_
  refine jT_xaload_n (v := (4, 1)) (pcN := 483) jI_379_482 rfl rfl rfl ?_
  refine jT_xaload_n (v := (6, 0)) (pcN := 484) jI_379_483 rfl rfl rfl ?_
  refine jT_xiload (v := (0, 0)) (pcN := 486) jI_379_484 rfl rfl rfl ?_
  refine jT_xiconst (k := 1) (pcN := 487) jI_379_486 rfl ?_
  refine jT_xiadd (x := 0) (y := 1) (z := 1) (pcN := 488) jI_379_487 rfl (by decide) rfl ?_
  refine jT_adv 1 (pcN := 489) (LN := [(6, (0, 1)), (5, (0, 0)), (4, (4, 3)), (3, (4, 2)), (2, (4, 1)), (1, (4, 0)), (0, (6, 0))]) (stN := [(0, x1), (4, 1)]) (hsN := jpA_267) (c1 := 0) (s1 := 0) (c2 := 0) (s2 := 0) (by exact rfl) ?_ (by omega) (by omega)
  refine jT_xaload_n (v := (6, 0)) (pcN := 490) jI_379_489 rfl rfl rfl ?_
  refine jT_xiload (v := (0, 0)) (pcN := 492) jI_379_490 rfl rfl rfl ?_
  refine jT_xiconst (k := 2) (pcN := 493) jI_379_492 rfl ?_
  refine jT_xiadd (x := 0) (y := 2) (z := 2) (pcN := 494) jI_379_493 rfl (by decide) rfl ?_
  refine jT_adv 1 (pcN := 495) (LN := [(6, (0, 1)), (5, (0, 0)), (4, (4, 3)), (3, (4, 2)), (2, (4, 1)), (1, (4, 0)), (0, (6, 0))]) (stN := [(0, x2), (0, x1), (4, 1)]) (hsN := jpA_267) (c1 := 0) (s1 := 0) (c2 := 0) (s2 := 0) (by exact rfl) ?_ (by omega) (by omega)
  refine jT_xaload_n (v := (6, 0)) (pcN := 496) jI_379_495 rfl rfl rfl ?_
  refine jT_xiload (v := (0, 0)) (pcN := 498) jI_379_496 rfl rfl rfl ?_
  refine jT_xiconst (k := 3) (pcN := 499) jI_379_498 rfl ?_
  refine jT_xiadd (x := 0) (y := 3) (z := 3) (pcN := 500) jI_379_499 rfl (by decide) rfl ?_
  refine jT_adv 1 (pcN := 501) (LN := [(6, (0, 1)), (5, (0, 0)), (4, (4, 3)), (3, (4, 2)), (2, (4, 1)), (1, (4, 0)), (0, (6, 0))]) (stN := [(0, x3), (0, x2), (0, x1), (4, 1)]) (hsN := jpA_267) (c1 := 0) (s1 := 0) (c2 := 0) (s2 := 0) (by exact rfl) ?_ (by omega) (by omega)
  refine jT_xaload_n (v := (6, 0)) (pcN := 502) jI_379_501 rfl rfl rfl ?_
  refine jT_xiload (v := (0, 0)) (pcN := 504) jI_379_502 rfl rfl rfl ?_
  refine jT_xiconst (k := 4) (pcN := 505) jI_379_504 rfl ?_
  refine jT_xiadd (x := 0) (y := 4) (z := 4) (pcN := 506) jI_379_505 rfl (by decide) rfl ?_
  refine jT_adv 1 (pcN := 507) (LN := [(6, (0, 1)), (5, (0, 0)), (4, (4, 3)), (3, (4, 2)), (2, (4, 1)), (1, (4, 0)), (0, (6, 0))]) (stN := [(0, x4), (0, x3), (0, x2), (0, x1), (4, 1)]) (hsN := jpA_267) (c1 := 0) (s1 := 0) (c2 := 0) (s2 := 0) (by exact rfl) ?_ (by omega) (by omega)
  refine jT_ifF (a := x4) (t := 514) (by rfl) (by rfl) (by rfl) (jw_idd (by omega) (by omega)) (by simp only [jcP] <;> omega) ?_
  refine jT_xiconst (k := 1) (pcN := 511) jI_379_510 rfl ?_
  refine jT_xgoto (pcN := 515) jI_379_511 rfl ?_
  refine jT_fB [1, 15, 16, 17, 18, 19, 20, 21, 22, 23, 24, 25, 26, 27, 28, 29] 30 (y := 201) (pcN := 518) (dC := 2) (bc1 := 0) (bc2 := 0) (c1 := 0) (c2 := 0) (as := [(4, 1), (0, x1), (0, x2), (0, x3), (0, 1)]) (asC := [(4, 0), (0, x1), (0, x2), (0, x3), (0, 1)]) (LN := [(6, (0, 1)), (5, (0, 0)), (4, (4, 3)), (3, (4, 2)), (2, (4, 1)), (1, (4, 0)), (0, (6, 0))]) (stN := []) (hsC := jpA_22) (hsD := jpA_20) (v := (0, 0)) (st2 := [(0, 0)]) (hs2 := jpA_306) (jA_201_7 (d := 0) (by omega) (by omega) (by omega)) (by rfl) (by rfl) (by decide +kernel) (by rfl) (by rfl) (by omega) (by omega) (by omega) (by omega) rfl (by decide +kernel) ?_
  refine jT_xistore (v := (0, 0)) (LN := [(7, (0, 0)), (6, (0, 1)), (5, (0, 0)), (4, (4, 3)), (3, (4, 2)), (2, (4, 1)), (1, (4, 0)), (0, (6, 0))]) (pcN := 520) jI_379_518 rfl rfl rfl rfl ?_
  refine jT_xaload_n (v := (4, 1)) (pcN := 521) jI_379_520 rfl rfl rfl ?_
  refine jT_fR [1, 15, 16, 17, 18, 19, 20, 21, 22, 23, 24, 25, 26, 27, 28, 29] 30 (y := 186) (pcN := 524) (dC := 0) (bc1 := 0) (bc2 := 0) (c1 := 0) (c2 := 0) (as := [(4, 1)]) (asC := [(4, 0)]) (LN := [(7, (0, 0)), (6, (0, 1)), (5, (0, 0)), (4, (4, 3)), (3, (4, 2)), (2, (4, 1)), (1, (4, 0)), (0, (6, 0))]) (stN := []) (hsC := jpA_20) (v := (0, 1)) (st2 := [(0, 1)]) (jA_186_8 (d := 0)) (by rfl) (by rfl) (by decide +kernel) (by rfl) (by rfl) (by omega) (by omega) (by omega) (by omega) rfl ?_
  refine jT_xiload (v := (0, 1)) (pcN := 526) jI_379_524 rfl rfl rfl ?_
  refine jT_xicT (pcN := 531) jI_379_526 rfl (by decide +kernel) rfl ?_
  refine jT_xiload (v := (0, 1)) (pcN := 533) jI_379_531 rfl rfl rfl ?_
  refine jT_xifT (pcN := 548) jI_379_533 rfl (by decide +kernel) rfl ?_
  refine jT_xgoto (pcN := 3740) jI_379_548 rfl ?_
  refine jT_xiinc (x := 0) (z := 5) (LN := [(5, (0, 5)), (7, (0, 0)), (6, (0, 1)), (4, (4, 3)), (3, (4, 2)), (2, (4, 1)), (1, (4, 0)), (0, (6, 0))]) (pcN := 3743) jI_379_3740 rfl rfl (by decide) rfl rfl ?_
  refine jT_xgoto (pcN := 28) jI_379_3743 rfl ?_
  refine jT_xiload (v := (0, 5)) (pcN := 30) jI_379_28 rfl rfl rfl ?_
  refine jT_xaload_n (v := (6, 0)) (pcN := 31) jI_379_30 rfl rfl rfl ?_
  refine jT_adv 1 (pcN := 32) (LN := [(5, (0, 5)), (7, (0, 0)), (6, (0, 1)), (4, (4, 3)), (3, (4, 2)), (2, (4, 1)), (1, (4, 0)), (0, (6, 0))]) (stN := [(0, 5), (0, 5)]) (hsN := jpA_306) (c1 := 0) (s1 := 0) (c2 := 0) (s2 := 0) (by exact rfl) ?_ (by omega) (by omega)
  refine jT_xiconst (k := 5) (pcN := 33) jI_379_32 rfl ?_
  refine jT_xisub (x := 5) (y := 5) (z := 0) (pcN := 34) jI_379_33 rfl (by decide) rfl ?_
  refine jT_xicT (pcN := 3746) jI_379_34 rfl (by decide +kernel) rfl ?_
  refine jT_xiconst (k := 1) (pcN := 3747) jI_379_3746 rfl ?_
  exact jT_ret rfl (by decide) (by show 30 ≤ 30; decide) (by omega) (by omega) ⟨rfl, rfl⟩
set_option maxRecDepth 100000 in
theorem jL_2_15 {d : Nat} {x0 x1 x2 x3 x4 : Int} (h_x0 : (-2147483648) ≤ x0 ∧ x0 ≤ 2147483647) (h_x1 : 0 ≤ x1 ∧ x1 ≤ 7) (h_x2 : (-2147483648) ≤ x2 ∧ x2 ≤ (-1)) (h_x3 : (-2147483648) ≤ x3 ∧ x3 ≤ 2147483647) (h_x4 : 1 ≤ x4 ∧ x4 ≤ 2147483647) : jT [x0, x1, x2, x3, x4] (d + 3) 379 30 443 [(5, (0, 0)), (4, (4, 3)), (3, (4, 2)), (2, (4, 1)), (1, (4, 0)), (0, (6, 0))] [] jpA_267 1 6 (fun k v hsN => k = 0 ∧ v = (0, 1)) := by
  refine jT_xaload_n (v := (4, 0)) (pcN := 444) jI_379_443 rfl rfl rfl ?_
  refine jT_xaload_n (v := (6, 0)) (pcN := 445) jI_379_444 rfl rfl rfl ?_
  refine jT_xiload (v := (0, 0)) (pcN := 447) jI_379_445 rfl rfl rfl ?_
  refine jT_xiconst (k := 1) (pcN := 448) jI_379_447 rfl ?_
  refine jT_xiadd (x := 0) (y := 1) (z := 1) (pcN := 449) jI_379_448 rfl (by decide) rfl ?_
  refine jT_adv 1 (pcN := 450) (LN := [(5, (0, 0)), (4, (4, 3)), (3, (4, 2)), (2, (4, 1)), (1, (4, 0)), (0, (6, 0))]) (stN := [(0, x1), (4, 0)]) (hsN := jpA_267) (c1 := 0) (s1 := 0) (c2 := 1) (s2 := 6) (by exact rfl) ?_ (by omega) (by omega)
  refine jT_xaload_n (v := (6, 0)) (pcN := 451) jI_379_450 rfl rfl rfl ?_
  refine jT_xiload (v := (0, 0)) (pcN := 453) jI_379_451 rfl rfl rfl ?_
  refine jT_xiconst (k := 2) (pcN := 454) jI_379_453 rfl ?_
  refine jT_xiadd (x := 0) (y := 2) (z := 2) (pcN := 455) jI_379_454 rfl (by decide) rfl ?_
  refine jT_adv 1 (pcN := 456) (LN := [(5, (0, 0)), (4, (4, 3)), (3, (4, 2)), (2, (4, 1)), (1, (4, 0)), (0, (6, 0))]) (stN := [(0, x2), (0, x1), (4, 0)]) (hsN := jpA_267) (c1 := 0) (s1 := 0) (c2 := 1) (s2 := 6) (by exact rfl) ?_ (by omega) (by omega)
  refine jT_xaload_n (v := (6, 0)) (pcN := 457) jI_379_456 rfl rfl rfl ?_
  refine jT_xiload (v := (0, 0)) (pcN := 459) jI_379_457 rfl rfl rfl ?_
  refine jT_xiconst (k := 3) (pcN := 460) jI_379_459 rfl ?_
  refine jT_xiadd (x := 0) (y := 3) (z := 3) (pcN := 461) jI_379_460 rfl (by decide) rfl ?_
  refine jT_adv 1 (pcN := 462) (LN := [(5, (0, 0)), (4, (4, 3)), (3, (4, 2)), (2, (4, 1)), (1, (4, 0)), (0, (6, 0))]) (stN := [(0, x3), (0, x2), (0, x1), (4, 0)]) (hsN := jpA_267) (c1 := 0) (s1 := 0) (c2 := 1) (s2 := 6) (by exact rfl) ?_ (by omega) (by omega)
  refine jT_xaload_n (v := (6, 0)) (pcN := 463) jI_379_462 rfl rfl rfl ?_
  refine jT_xiload (v := (0, 0)) (pcN := 465) jI_379_463 rfl rfl rfl ?_
  refine jT_xiconst (k := 4) (pcN := 466) jI_379_465 rfl ?_
  refine jT_xiadd (x := 0) (y := 4) (z := 4) (pcN := 467) jI_379_466 rfl (by decide) rfl ?_
  refine jT_adv 1 (pcN := 468) (LN := [(5, (0, 0)), (4, (4, 3)), (3, (4, 2)), (2, (4, 1)), (1, (4, 0)), (0, (6, 0))]) (stN := [(0, x4), (0, x3), (0, x2), (0, x1), (4, 0)]) (hsN := jpA_267) (c1 := 0) (s1 := 0) (c2 := 1) (s2 := 6) (by exact rfl) ?_ (by omega) (by omega)
  refine jT_ifF (a := x4) (t := 475) (by rfl) (by rfl) (by rfl) (jw_idd (by omega) (by omega)) (by simp only [jcP] <;> omega) ?_
  refine jT_xiconst (k := 1) (pcN := 472) jI_379_471 rfl ?_
  refine jT_xgoto (pcN := 476) jI_379_472 rfl ?_
  refine jT_xaload_n (v := (4, 2)) (pcN := 477) jI_379_476 rfl rfl rfl ?_
  refine jT_fR [0, 2, 4, 5, 6, 7, 8, 9, 10, 11, 12, 13, 14] 30 (y := 328) (pcN := 480) (dC := 2) (bc1 := 1) (bc2 := 6) (c1 := 0) (c2 := 0) (as := [(4, 0), (0, x1), (0, x2), (0, x3), (0, 1), (4, 2)]) (asC := [(4, 0), (0, x1), (0, x2), (0, x3), (0, 1), (4, 1)]) (LN := [(5, (0, 0)), (4, (4, 3)), (3, (4, 2)), (2, (4, 1)), (1, (4, 0)), (0, (6, 0))]) (stN := []) (hsC := jpA_15) (v := (0, 1)) (st2 := [(0, 1)]) (jA_328_12 (d := 0) (by omega) (by omega) (by omega)) (by rfl) (by rfl) (by decide +kernel) (by rfl) (by rfl) (by omega) (by omega) (by omega) (by omega) rfl ?_
  refine jT_xistore (v := (0, 1)) (LN := [(6, (0, 1)), (5, (0, 0)), (4, (4, 3)), (3, (4, 2)), (2, (4, 1)), (1, (4, 0)), (0, (6, 0))]) (pcN := 482) jI_379_480 rfl rfl rfl rfl ?_
  refine jT_xaload_n (v := (4, 1)) (pcN := 483) jI_379_482 rfl rfl rfl ?_
  refine jT_xaload_n (v := (6, 0)) (pcN := 484) jI_379_483 rfl rfl rfl ?_
  refine jT_xiload (v := (0, 0)) (pcN := 486) jI_379_484 rfl rfl rfl ?_
  refine jT_xiconst (k := 1) (pcN := 487) jI_379_486 rfl ?_
  refine jT_xiadd (x := 0) (y := 1) (z := 1) (pcN := 488) jI_379_487 rfl (by decide) rfl ?_
  refine jT_adv 1 (pcN := 489) (LN := [(6, (0, 1)), (5, (0, 0)), (4, (4, 3)), (3, (4, 2)), (2, (4, 1)), (1, (4, 0)), (0, (6, 0))]) (stN := [(0, x1), (4, 1)]) (hsN := jpA_267) (c1 := 0) (s1 := 0) (c2 := 0) (s2 := 0) (by exact rfl) ?_ (by omega) (by omega)
  refine jT_xaload_n (v := (6, 0)) (pcN := 490) jI_379_489 rfl rfl rfl ?_
  refine jT_xiload (v := (0, 0)) (pcN := 492) jI_379_490 rfl rfl rfl ?_
  refine jT_xiconst (k := 2) (pcN := 493) jI_379_492 rfl ?_
  refine jT_xiadd (x := 0) (y := 2) (z := 2) (pcN := 494) jI_379_493 rfl (by decide) rfl ?_
  refine jT_adv 1 (pcN := 495) (LN := [(6, (0, 1)), (5, (0, 0)), (4, (4, 3)), (3, (4, 2)), (2, (4, 1)), (1, (4, 0)), (0, (6, 0))]) (stN := [(0, x2), (0, x1), (4, 1)]) (hsN := jpA_267) (c1 := 0) (s1 := 0) (c2 := 0) (s2 := 0) (by exact rfl) ?_ (by omega) (by omega)
  refine jT_xaload_n (v := (6, 0)) (pcN := 496) jI_379_495 rfl rfl rfl ?_
  refine jT_xiload (v := (0, 0)) (pcN := 498) jI_379_496 rfl rfl rfl ?_
  refine jT_xiconst (k := 3) (pcN := 499) jI_379_498 rfl ?_
  refine jT_xiadd (x := 0) (y := 3) (z := 3) (pcN := 500) jI_379_499 rfl (by decide) rfl ?_
  refine jT_adv 1 (pcN := 501) (LN := [(6, (0, 1)), (5, (0, 0)), (4, (4, 3)), (3, (4, 2)), (2, (4, 1)), (1, (4, 0)), (0, (6, 0))]) (stN := [(0, x3), (0, x2), (0, x1), (4, 1)]) (hsN := jpA_267) (c1 := 0) (s1 := 0) (c2 := 0) (s2 := 0) (by exact rfl) ?_ (by omega) (by omega)
  refine jT_xaload_n (v := (6, 0)) (pcN := 502) jI_379_501 rfl rfl rfl ?_
  refine jT_xiload (v := (0, 0)) (pcN := 504) jI_379_502 rfl rfl rfl ?_
  refine jT_xiconst (k := 4) (pcN := 505) jI_379_504 rfl ?_
  refine jT_xiadd (x := 0) (y := 4) (z := 4) (pcN := 506) jI_379_505 rfl (by decide) rfl ?_
  refine jT_adv 1 (pcN := 507) (LN := [(6, (0, 1)), (5, (0, 0)), (4, (4, 3)), (3, (4, 2)), (2, (4, 1)), (1, (4, 0)), (0, (6, 0))]) (stN := [(0, x4), (0, x3), (0, x2), (0, x1), (4, 1)]) (hsN := jpA_267) (c1 := 0) (s1 := 0) (c2 := 0) (s2 := 0) (by exact rfl) ?_ (by omega) (by omega)
  refine jT_ifF (a := x4) (t := 514) (by rfl) (by rfl) (by rfl) (jw_idd (by omega) (by omega)) (by simp only [jcP] <;> omega) ?_
  refine jT_xiconst (k := 1) (pcN := 511) jI_379_510 rfl ?_
  refine jT_xgoto (pcN := 515) jI_379_511 rfl ?_
  refine jT_fB [1, 15, 16, 17, 18, 19, 20, 21, 22, 23, 24, 25, 26, 27, 28, 29] 30 (y := 201) (pcN := 518) (dC := 2) (bc1 := 0) (bc2 := 0) (c1 := 0) (c2 := 0) (as := [(4, 1), (0, x1), (0, x2), (0, x3), (0, 1)]) (asC := [(4, 0), (0, x1), (0, x2), (0, x3), (0, 1)]) (LN := [(6, (0, 1)), (5, (0, 0)), (4, (4, 3)), (3, (4, 2)), (2, (4, 1)), (1, (4, 0)), (0, (6, 0))]) (stN := []) (hsC := jpA_22) (hsD := jpA_20) (v := (0, 0)) (st2 := [(0, 0)]) (hs2 := jpA_306) (jA_201_15 (d := 0) (by omega) (by omega) (by omega)) (by rfl) (by rfl) (by decide +kernel) (by rfl) (by rfl) (by omega) (by omega) (by omega) (by omega) rfl (by decide +kernel) ?_
  refine jT_xistore (v := (0, 0)) (LN := [(7, (0, 0)), (6, (0, 1)), (5, (0, 0)), (4, (4, 3)), (3, (4, 2)), (2, (4, 1)), (1, (4, 0)), (0, (6, 0))]) (pcN := 520) jI_379_518 rfl rfl rfl rfl ?_
  refine jT_xaload_n (v := (4, 1)) (pcN := 521) jI_379_520 rfl rfl rfl ?_
  refine jT_fR [1, 15, 16, 17, 18, 19, 20, 21, 22, 23, 24, 25, 26, 27, 28, 29] 30 (y := 186) (pcN := 524) (dC := 0) (bc1 := 0) (bc2 := 0) (c1 := 0) (c2 := 0) (as := [(4, 1)]) (asC := [(4, 0)]) (LN := [(7, (0, 0)), (6, (0, 1)), (5, (0, 0)), (4, (4, 3)), (3, (4, 2)), (2, (4, 1)), (1, (4, 0)), (0, (6, 0))]) (stN := []) (hsC := jpA_20) (v := (0, 1)) (st2 := [(0, 1)]) (jA_186_8 (d := 0)) (by rfl) (by rfl) (by decide +kernel) (by rfl) (by rfl) (by omega) (by omega) (by omega) (by omega) rfl ?_
  refine jT_xiload (v := (0, 1)) (pcN := 526) jI_379_524 rfl rfl rfl ?_
  refine jT_xicT (pcN := 531) jI_379_526 rfl (by decide +kernel) rfl ?_
  refine jT_xiload (v := (0, 1)) (pcN := 533) jI_379_531 rfl rfl rfl ?_
  refine jT_xifT (pcN := 548) jI_379_533 rfl (by decide +kernel) rfl ?_
  refine jT_xgoto (pcN := 3740) jI_379_548 rfl ?_
  refine jT_xiinc (x := 0) (z := 5) (LN := [(5, (0, 5)), (7, (0, 0)), (6, (0, 1)), (4, (4, 3)), (3, (4, 2)), (2, (4, 1)), (1, (4, 0)), (0, (6, 0))]) (pcN := 3743) jI_379_3740 rfl rfl (by decide) rfl rfl ?_
  refine jT_xgoto (pcN := 28) jI_379_3743 rfl ?_
  refine jT_xiload (v := (0, 5)) (pcN := 30) jI_379_28 rfl rfl rfl ?_
  refine jT_xaload_n (v := (6, 0)) (pcN := 31) jI_379_30 rfl rfl rfl ?_
  refine jT_adv 1 (pcN := 32) (LN := [(5, (0, 5)), (7, (0, 0)), (6, (0, 1)), (4, (4, 3)), (3, (4, 2)), (2, (4, 1)), (1, (4, 0)), (0, (6, 0))]) (stN := [(0, 5), (0, 5)]) (hsN := jpA_306) (c1 := 0) (s1 := 0) (c2 := 0) (s2 := 0) (by exact rfl) ?_ (by omega) (by omega)
  refine jT_xiconst (k := 5) (pcN := 33) jI_379_32 rfl ?_
  refine jT_xisub (x := 5) (y := 5) (z := 0) (pcN := 34) jI_379_33 rfl (by decide) rfl ?_
  refine jT_xicT (pcN := 3746) jI_379_34 rfl (by decide +kernel) rfl ?_
  refine jT_xiconst (k := 1) (pcN := 3747) jI_379_3746 rfl ?_
  exact jT_ret rfl (by decide) (by show 30 ≤ 30; decide) (by omega) (by omega) ⟨rfl, rfl⟩
set_option maxRecDepth 100000 in
theorem jL_2_16 {d : Nat} {x0 x1 x2 x3 x4 : Int} (h_x0 : (-2147483648) ≤ x0 ∧ x0 ≤ 2147483647) (h_x1 : 0 ≤ x1 ∧ x1 ≤ 7) (h_x2 : 0 ≤ x2 ∧ x2 ≤ 7) (h_x3 : (-2147483648) ≤ x3 ∧ x3 ≤ (-1)) (h_x4 : 1 ≤ x4 ∧ x4 ≤ 2147483647) : jT [x0, x1, x2, x3, x4] (d + 3) 379 30 443 [(5, (0, 0)), (4, (4, 3)), (3, (4, 2)), (2, (4, 1)), (1, (4, 0)), (0, (6, 0))] [] jpA_267 1 6 (fun k v hsN => k = 0 ∧ v = (0, 1)) := by
  refine jT_xaload_n (v := (4, 0)) (pcN := 444) jI_379_443 rfl rfl rfl ?_
  refine jT_xaload_n (v := (6, 0)) (pcN := 445) jI_379_444 rfl rfl rfl ?_
  refine jT_xiload (v := (0, 0)) (pcN := 447) jI_379_445 rfl rfl rfl ?_
  refine jT_xiconst (k := 1) (pcN := 448) jI_379_447 rfl ?_
  refine jT_xiadd (x := 0) (y := 1) (z := 1) (pcN := 449) jI_379_448 rfl (by decide) rfl ?_
  refine jT_adv 1 (pcN := 450) (LN := [(5, (0, 0)), (4, (4, 3)), (3, (4, 2)), (2, (4, 1)), (1, (4, 0)), (0, (6, 0))]) (stN := [(0, x1), (4, 0)]) (hsN := jpA_267) (c1 := 0) (s1 := 0) (c2 := 1) (s2 := 6) (by exact rfl) ?_ (by omega) (by omega)
  refine jT_xaload_n (v := (6, 0)) (pcN := 451) jI_379_450 rfl rfl rfl ?_
  refine jT_xiload (v := (0, 0)) (pcN := 453) jI_379_451 rfl rfl rfl ?_
  refine jT_xiconst (k := 2) (pcN := 454) jI_379_453 rfl ?_
  refine jT_xiadd (x := 0) (y := 2) (z := 2) (pcN := 455) jI_379_454 rfl (by decide) rfl ?_
  refine jT_adv 1 (pcN := 456) (LN := [(5, (0, 0)), (4, (4, 3)), (3, (4, 2)), (2, (4, 1)), (1, (4, 0)), (0, (6, 0))]) (stN := [(0, x2), (0, x1), (4, 0)]) (hsN := jpA_267) (c1 := 0) (s1 := 0) (c2 := 1) (s2 := 6) (by exact rfl) ?_ (by omega) (by omega)
  refine jT_xaload_n (v := (6, 0)) (pcN := 457) jI_379_456 rfl rfl rfl ?_
  refine jT_xiload (v := (0, 0)) (pcN := 459) jI_379_457 rfl rfl rfl ?_
  refine jT_xiconst (k := 3) (pcN := 460) jI_379_459 rfl ?_
  refine jT_xiadd (x := 0) (y := 3) (z := 3) (pcN := 461) jI_379_460 rfl (by decide) rfl ?_
  refine jT_adv 1 (pcN := 462) (LN := [(5, (0, 0)), (4, (4, 3)), (3, (4, 2)), (2, (4, 1)), (1, (4, 0)), (0, (6, 0))]) (stN := [(0, x3), (0, x2), (0, x1), (4, 0)]) (hsN := jpA_267) (c1 := 0) (s1 := 0) (c2 := 1) (s2 := 6) (by exact rfl) ?_ (by omega) (by omega)
  refine jT_xaload_n (v := (6, 0)) (pcN := 463) jI_379_462 rfl rfl rfl ?_
  refine jT_xiload (v := (0, 0)) (pcN := 465) jI_379_463 rfl rfl rfl ?_
  refine jT_xiconst (k := 4) (pcN := 466) jI_379_465 rfl ?_
  refine jT_xiadd (x := 0) (y := 4) (z := 4) (pcN := 467) jI_379_466 rfl (by decide) rfl ?_
  refine jT_adv 1 (pcN := 468) (LN := [(5, (0, 0)), (4, (4, 3)), (3, (4, 2)), (2, (4, 1)), (1, (4, 0)), (0, (6, 0))]) (stN := [(0, x4), (0, x3), (0, x2), (0, x1), (4, 0)]) (hsN := jpA_267) (c1 := 0) (s1 := 0) (c2 := 1) (s2 := 6) (by exact rfl) ?_ (by omega) (by omega)
  refine jT_ifF (a := x4) (t := 475) (by rfl) (by rfl) (by rfl) (jw_idd (by omega) (by omega)) (by simp only [jcP] <;> omega) ?_
  refine jT_xiconst (k := 1) (pcN := 472) jI_379_471 rfl ?_
  refine jT_xgoto (pcN := 476) jI_379_472 rfl ?_
  refine jT_xaload_n (v := (4, 2)) (pcN := 477) jI_379_476 rfl rfl rfl ?_
  refine jT_fR [0, 2, 4, 5, 6, 7, 8, 9, 10, 11, 12, 13, 14] 30 (y := 328) (pcN := 480) (dC := 2) (bc1 := 1) (bc2 := 6) (c1 := 0) (c2 := 0) (as := [(4, 0), (0, x1), (0, x2), (0, x3), (0, 1), (4, 2)]) (asC := [(4, 0), (0, x1), (0, x2), (0, x3), (0, 1), (4, 1)]) (LN := [(5, (0, 0)), (4, (4, 3)), (3, (4, 2)), (2, (4, 1)), (1, (4, 0)), (0, (6, 0))]) (stN := []) (hsC := jpA_15) (v := (0, 1)) (st2 := [(0, 1)]) (jA_328_19 (d := 0) (by omega) (by omega) (by omega)) (by rfl) (by rfl) (by decide +kernel) (by rfl) (by rfl) (by omega) (by omega) (by omega) (by omega) rfl ?_
  refine jT_xistore (v := (0, 1)) (LN := [(6, (0, 1)), (5, (0, 0)), (4, (4, 3)), (3, (4, 2)), (2, (4, 1)), (1, (4, 0)), (0, (6, 0))]) (pcN := 482) jI_379_480 rfl rfl rfl rfl ?_
  refine jT_xaload_n (v := (4, 1)) (pcN := 483) jI_379_482 rfl rfl rfl ?_
  refine jT_xaload_n (v := (6, 0)) (pcN := 484) jI_379_483 rfl rfl rfl ?_
  refine jT_xiload (v := (0, 0)) (pcN := 486) jI_379_484 rfl rfl rfl ?_
  refine jT_xiconst (k := 1) (pcN := 487) jI_379_486 rfl ?_
  refine jT_xiadd (x := 0) (y := 1) (z := 1) (pcN := 488) jI_379_487 rfl (by decide) rfl ?_
  refine jT_adv 1 (pcN := 489) (LN := [(6, (0, 1)), (5, (0, 0)), (4, (4, 3)), (3, (4, 2)), (2, (4, 1)), (1, (4, 0)), (0, (6, 0))]) (stN := [(0, x1), (4, 1)]) (hsN := jpA_267) (c1 := 0) (s1 := 0) (c2 := 0) (s2 := 0) (by exact rfl) ?_ (by omega) (by omega)
  refine jT_xaload_n (v := (6, 0)) (pcN := 490) jI_379_489 rfl rfl rfl ?_
  refine jT_xiload (v := (0, 0)) (pcN := 492) jI_379_490 rfl rfl rfl ?_
  refine jT_xiconst (k := 2) (pcN := 493) jI_379_492 rfl ?_
  refine jT_xiadd (x := 0) (y := 2) (z := 2) (pcN := 494) jI_379_493 rfl (by decide) rfl ?_
  refine jT_adv 1 (pcN := 495) (LN := [(6, (0, 1)), (5, (0, 0)), (4, (4, 3)), (3, (4, 2)), (2, (4, 1)), (1, (4, 0)), (0, (6, 0))]) (stN := [(0, x2), (0, x1), (4, 1)]) (hsN := jpA_267) (c1 := 0) (s1 := 0) (c2 := 0) (s2 := 0) (by exact rfl) ?_ (by omega) (by omega)
  refine jT_xaload_n (v := (6, 0)) (pcN := 496) jI_379_495 rfl rfl rfl ?_
  refine jT_xiload (v := (0, 0)) (pcN := 498) jI_379_496 rfl rfl rfl ?_
  refine jT_xiconst (k := 3) (pcN := 499) jI_379_498 rfl ?_
  refine jT_xiadd (x := 0) (y := 3) (z := 3) (pcN := 500) jI_379_499 rfl (by decide) rfl ?_
  refine jT_adv 1 (pcN := 501) (LN := [(6, (0, 1)), (5, (0, 0)), (4, (4, 3)), (3, (4, 2)), (2, (4, 1)), (1, (4, 0)), (0, (6, 0))]) (stN := [(0, x3), (0, x2), (0, x1), (4, 1)]) (hsN := jpA_267) (c1 := 0) (s1 := 0) (c2 := 0) (s2 := 0) (by exact rfl) ?_ (by omega) (by omega)
  refine jT_xaload_n (v := (6, 0)) (pcN := 502) jI_379_501 rfl rfl rfl ?_
  refine jT_xiload (v := (0, 0)) (pcN := 504) jI_379_502 rfl rfl rfl ?_
  refine jT_xiconst (k := 4) (pcN := 505) jI_379_504 rfl ?_
  refine jT_xiadd (x := 0) (y := 4) (z := 4) (pcN := 506) jI_379_505 rfl (by decide) rfl ?_
  refine jT_adv 1 (pcN := 507) (LN := [(6, (0, 1)), (5, (0, 0)), (4, (4, 3)), (3, (4, 2)), (2, (4, 1)), (1, (4, 0)), (0, (6, 0))]) (stN := [(0, x4), (0, x3), (0, x2), (0, x1), (4, 1)]) (hsN := jpA_267) (c1 := 0) (s1 := 0) (c2 := 0) (s2 := 0) (by exact rfl) ?_ (by omega) (by omega)
  refine jT_ifF (a := x4) (t := 514) (by rfl) (by rfl) (by rfl) (jw_idd (by omega) (by omega)) (by simp only [jcP] <;> omega) ?_
  refine jT_xiconst (k := 1) (pcN := 511) jI_379_510 rfl ?_
  refine jT_xgoto (pcN := 515) jI_379_511 rfl ?_
  refine jT_fB [1, 15, 16, 17, 18, 19, 20, 21, 22, 23, 24, 25, 26, 27, 28, 29] 30 (y := 201) (pcN := 518) (dC := 2) (bc1 := 0) (bc2 := 0) (c1 := 0) (c2 := 0) (as := [(4, 1), (0, x1), (0, x2), (0, x3), (0, 1)]) (asC := [(4, 0), (0, x1), (0, x2), (0, x3), (0, 1)]) (LN := [(6, (0, 1)), (5, (0, 0)), (4, (4, 3)), (3, (4, 2)), (2, (4, 1)), (1, (4, 0)), (0, (6, 0))]) (stN := []) (hsC := jpA_22) (hsD := jpA_20) (v := (0, 0)) (st2 := [(0, 0)]) (hs2 := jpA_306) (jA_201_22 (d := 0) (by omega) (by omega) (by omega)) (by rfl) (by rfl) (by decide +kernel) (by rfl) (by rfl) (by omega) (by omega) (by omega) (by omega) rfl (by decide +kernel) ?_
  refine jT_xistore (v := (0, 0)) (LN := [(7, (0, 0)), (6, (0, 1)), (5, (0, 0)), (4, (4, 3)), (3, (4, 2)), (2, (4, 1)), (1, (4, 0)), (0, (6, 0))]) (pcN := 520) jI_379_518 rfl rfl rfl rfl ?_
  refine jT_xaload_n (v := (4, 1)) (pcN := 521) jI_379_520 rfl rfl rfl ?_
  refine jT_fR [1, 15, 16, 17, 18, 19, 20, 21, 22, 23, 24, 25, 26, 27, 28, 29] 30 (y := 186) (pcN := 524) (dC := 0) (bc1 := 0) (bc2 := 0) (c1 := 0) (c2 := 0) (as := [(4, 1)]) (asC := [(4, 0)]) (LN := [(7, (0, 0)), (6, (0, 1)), (5, (0, 0)), (4, (4, 3)), (3, (4, 2)), (2, (4, 1)), (1, (4, 0)), (0, (6, 0))]) (stN := []) (hsC := jpA_20) (v := (0, 1)) (st2 := [(0, 1)]) (jA_186_8 (d := 0)) (by rfl) (by rfl) (by decide +kernel) (by rfl) (by rfl) (by omega) (by omega) (by omega) (by omega) rfl ?_
  refine jT_xiload (v := (0, 1)) (pcN := 526) jI_379_524 rfl rfl rfl ?_
  refine jT_xicT (pcN := 531) jI_379_526 rfl (by decide +kernel) rfl ?_
  refine jT_xiload (v := (0, 1)) (pcN := 533) jI_379_531 rfl rfl rfl ?_
  refine jT_xifT (pcN := 548) jI_379_533 rfl (by decide +kernel) rfl ?_
  refine jT_xgoto (pcN := 3740) jI_379_548 rfl ?_
  refine jT_xiinc (x := 0) (z := 5) (LN := [(5, (0, 5)), (7, (0, 0)), (6, (0, 1)), (4, (4, 3)), (3, (4, 2)), (2, (4, 1)), (1, (4, 0)), (0, (6, 0))]) (pcN := 3743) jI_379_3740 rfl rfl (by decide) rfl rfl ?_
  refine jT_xgoto (pcN := 28) jI_379_3743 rfl ?_
  refine jT_xiload (v := (0, 5)) (pcN := 30) jI_379_28 rfl rfl rfl ?_
  refine jT_xaload_n (v := (6, 0)) (pcN := 31) jI_379_30 rfl rfl rfl ?_
  refine jT_adv 1 (pcN := 32) (LN := [(5, (0, 5)), (7, (0, 0)), (6, (0, 1)), (4, (4, 3)), (3, (4, 2)), (2, (4, 1)), (1, (4, 0)), (0, (6, 0))]) (stN := [(0, 5), (0, 5)]) (hsN := jpA_306) (c1 := 0) (s1 := 0) (c2 := 0) (s2 := 0) (by exact rfl) ?_ (by omega) (by omega)
  refine jT_xiconst (k := 5) (pcN := 33) jI_379_32 rfl ?_
  refine jT_xisub (x := 5) (y := 5) (z := 0) (pcN := 34) jI_379_33 rfl (by decide) rfl ?_
  refine jT_xicT (pcN := 3746) jI_379_34 rfl (by decide +kernel) rfl ?_
  refine jT_xiconst (k := 1) (pcN := 3747) jI_379_3746 rfl ?_
  exact jT_ret rfl (by decide) (by show 30 ≤ 30; decide) (by omega) (by omega) ⟨rfl, rfl⟩
set_option maxRecDepth 100000 in
theorem jL_2_17 {d : Nat} {x0 x1 x2 x3 x4 : Int} (h_x0 : (-2147483648) ≤ x0 ∧ x0 ≤ 2147483647) (h_x1 : 0 ≤ x1 ∧ x1 ≤ 7) (h_x2 : 0 ≤ x2 ∧ x2 ≤ 7) (h_x3 : 0 ≤ x3 ∧ x3 ≤ 7) (h_x4 : 1 ≤ x4 ∧ x4 ≤ 2147483647) : jT [x0, x1, x2, x3, x4] (d + 5) 379 45 443 [(5, (0, 0)), (4, (4, 3)), (3, (4, 2)), (2, (4, 1)), (1, (4, 0)), (0, (6, 0))] [] jpA_325 4 21 (fun k v hsN => k = 0 ∧ v = (0, 1)) := by
  refine jT_xaload_n (v := (4, 0)) (pcN := 444) jI_379_443 rfl rfl rfl ?_
  refine jT_xaload_n (v := (6, 0)) (pcN := 445) jI_379_444 rfl rfl rfl ?_
  refine jT_xiload (v := (0, 0)) (pcN := 447) jI_379_445 rfl rfl rfl ?_
  refine jT_xiconst (k := 1) (pcN := 448) jI_379_447 rfl ?_
  refine jT_xiadd (x := 0) (y := 1) (z := 1) (pcN := 449) jI_379_448 rfl (by decide) rfl ?_
  refine jT_adv 1 (pcN := 450) (LN := [(5, (0, 0)), (4, (4, 3)), (3, (4, 2)), (2, (4, 1)), (1, (4, 0)), (0, (6, 0))]) (stN := [(0, x1), (4, 0)]) (hsN := jpA_325) (c1 := 0) (s1 := 0) (c2 := 4) (s2 := 21) (by exact rfl) ?_ (by omega) (by omega)
  refine jT_xaload_n (v := (6, 0)) (pcN := 451) jI_379_450 rfl rfl rfl ?_
  refine jT_xiload (v := (0, 0)) (pcN := 453) jI_379_451 rfl rfl rfl ?_
  refine jT_xiconst (k := 2) (pcN := 454) jI_379_453 rfl ?_
  refine jT_xiadd (x := 0) (y := 2) (z := 2) (pcN := 455) jI_379_454 rfl (by decide) rfl ?_
  refine jT_adv 1 (pcN := 456) (LN := [(5, (0, 0)), (4, (4, 3)), (3, (4, 2)), (2, (4, 1)), (1, (4, 0)), (0, (6, 0))]) (stN := [(0, x2), (0, x1), (4, 0)]) (hsN := jpA_325) (c1 := 0) (s1 := 0) (c2 := 4) (s2 := 21) (by exact rfl) ?_ (by omega) (by omega)
  refine jT_xaload_n (v := (6, 0)) (pcN := 457) jI_379_456 rfl rfl rfl ?_
  refine jT_xiload (v := (0, 0)) (pcN := 459) jI_379_457 rfl rfl rfl ?_
  refine jT_xiconst (k := 3) (pcN := 460) jI_379_459 rfl ?_
  refine jT_xiadd (x := 0) (y := 3) (z := 3) (pcN := 461) jI_379_460 rfl (by decide) rfl ?_
  refine jT_adv 1 (pcN := 462) (LN := [(5, (0, 0)), (4, (4, 3)), (3, (4, 2)), (2, (4, 1)), (1, (4, 0)), (0, (6, 0))]) (stN := [(0, x3), (0, x2), (0, x1), (4, 0)]) (hsN := jpA_325) (c1 := 0) (s1 := 0) (c2 := 4) (s2 := 21) (by exact rfl) ?_ (by omega) (by omega)
  refine jT_xaload_n (v := (6, 0)) (pcN := 463) jI_379_462 rfl rfl rfl ?_
  refine jT_xiload (v := (0, 0)) (pcN := 465) jI_379_463 rfl rfl rfl ?_
  refine jT_xiconst (k := 4) (pcN := 466) jI_379_465 rfl ?_
  refine jT_xiadd (x := 0) (y := 4) (z := 4) (pcN := 467) jI_379_466 rfl (by decide) rfl ?_
  refine jT_adv 1 (pcN := 468) (LN := [(5, (0, 0)), (4, (4, 3)), (3, (4, 2)), (2, (4, 1)), (1, (4, 0)), (0, (6, 0))]) (stN := [(0, x4), (0, x3), (0, x2), (0, x1), (4, 0)]) (hsN := jpA_325) (c1 := 0) (s1 := 0) (c2 := 4) (s2 := 21) (by exact rfl) ?_ (by omega) (by omega)
  refine jT_ifF (a := x4) (t := 475) (by rfl) (by rfl) (by rfl) (jw_idd (by omega) (by omega)) (by simp only [jcP] <;> omega) ?_
  refine jT_xiconst (k := 1) (pcN := 472) jI_379_471 rfl ?_
  refine jT_xgoto (pcN := 476) jI_379_472 rfl ?_
  refine jT_xaload_n (v := (4, 2)) (pcN := 477) jI_379_476 rfl rfl rfl ?_
  refine jT_fB [0, 2, 4, 5, 6, 7, 8, 9, 10, 11, 12, 13, 14, 30, 31, 32, 33, 34, 43, 44] 45 (y := 328) (pcN := 480) (dC := 4) (bc1 := 4) (bc2 := 21) (c1 := 0) (c2 := 0) (as := [(4, 0), (0, x1), (0, x2), (0, x3), (0, 1), (4, 2)]) (asC := [(4, 0), (0, x1), (0, x2), (0, x3), (0, 1), (4, 1)]) (LN := [(5, (0, 0)), (4, (4, 3)), (3, (4, 2)), (2, (4, 1)), (1, (4, 0)), (0, (6, 0))]) (stN := []) (hsC := jpA_116) (hsD := jpA_113) (v := (0, 0)) (st2 := [(0, 0)]) (hs2 := jpA_329) (jA_328_36 (d := 0) (by omega) (by omega) (by omega)) (by rfl) (by rfl) (by decide +kernel) (by rfl) (by rfl) (by omega) (by omega) (by omega) (by omega) rfl (by decide +kernel) ?_
  refine jT_xistore (v := (0, 0)) (LN := [(6, (0, 0)), (5, (0, 0)), (4, (4, 3)), (3, (4, 2)), (2, (4, 1)), (1, (4, 0)), (0, (6, 0))]) (pcN := 482) jI_379_480 rfl rfl rfl rfl ?_
  refine jT_xaload_n (v := (4, 1)) (pcN := 483) jI_379_482 rfl rfl rfl ?_
  refine jT_xaload_n (v := (6, 0)) (pcN := 484) jI_379_483 rfl rfl rfl ?_
  refine jT_xiload (v := (0, 0)) (pcN := 486) jI_379_484 rfl rfl rfl ?_
  refine jT_xiconst (k := 1) (pcN := 487) jI_379_486 rfl ?_
  refine jT_xiadd (x := 0) (y := 1) (z := 1) (pcN := 488) jI_379_487 rfl (by decide) rfl ?_
  refine jT_adv 1 (pcN := 489) (LN := [(6, (0, 0)), (5, (0, 0)), (4, (4, 3)), (3, (4, 2)), (2, (4, 1)), (1, (4, 0)), (0, (6, 0))]) (stN := [(0, x1), (4, 1)]) (hsN := jpA_329) (c1 := 0) (s1 := 0) (c2 := 0) (s2 := 0) (by exact rfl) ?_ (by omega) (by omega)
  refine jT_xaload_n (v := (6, 0)) (pcN := 490) jI_379_489 rfl rfl rfl ?_
  refine jT_xiload (v := (0, 0)) (pcN := 492) jI_379_490 rfl rfl rfl ?_
  refine jT_xiconst (k := 2) (pcN := 493) jI_379_492 rfl ?_
  refine jT_xiadd (x := 0) (y := 2) (z := 2) (pcN := 494) jI_379_493 rfl (by decide) rfl ?_
  refine jT_adv 1 (pcN := 495) (LN := [(6, (0, 0)), (5, (0, 0)), (4, (4, 3)), (3, (4, 2)), (2, (4, 1)), (1, (4, 0)), (0, (6, 0))]) (stN := [(0, x2), (0, x1), (4, 1)]) (hsN := jpA_329) (c1 := 0) (s1 := 0) (c2 := 0) (s2 := 0) (by exact rfl) ?_ (by omega) (by omega)
  refine jT_xaload_n (v := (6, 0)) (pcN := 496) jI_379_495 rfl rfl rfl ?_
  refine jT_xiload (v := (0, 0)) (pcN := 498) jI_379_496 rfl rfl rfl ?_
  refine jT_xiconst (k := 3) (pcN := 499) jI_379_498 rfl ?_
  refine jT_xiadd (x := 0) (y := 3) (z := 3) (pcN := 500) jI_379_499 rfl (by decide) rfl ?_
  refine jT_adv 1 (pcN := 501) (LN := [(6, (0, 0)), (5, (0, 0)), (4, (4, 3)), (3, (4, 2)), (2, (4, 1)), (1, (4, 0)), (0, (6, 0))]) (stN := [(0, x3), (0, x2), (0, x1), (4, 1)]) (hsN := jpA_329) (c1 := 0) (s1 := 0) (c2 := 0) (s2 := 0) (by exact rfl) ?_ (by omega) (by omega)
  refine jT_xaload_n (v := (6, 0)) (pcN := 502) jI_379_501 rfl rfl rfl ?_
  refine jT_xiload (v := (0, 0)) (pcN := 504) jI_379_502 rfl rfl rfl ?_
  refine jT_xiconst (k := 4) (pcN := 505) jI_379_504 rfl ?_
  refine jT_xiadd (x := 0) (y := 4) (z := 4) (pcN := 506) jI_379_505 rfl (by decide) rfl ?_
  refine jT_adv 1 (pcN := 507) (LN := [(6, (0, 0)), (5, (0, 0)), (4, (4, 3)), (3, (4, 2)), (2, (4, 1)), (1, (4, 0)), (0, (6, 0))]) (stN := [(0, x4), (0, x3), (0, x2), (0, x1), (4, 1)]) (hsN := jpA_329) (c1 := 0) (s1 := 0) (c2 := 0) (s2 := 0) (by exact rfl) ?_ (by omega) (by omega)
  refine jT_ifF (a := x4) (t := 514) (by rfl) (by rfl) (by rfl) (jw_idd (by omega) (by omega)) (by simp only [jcP] <;> omega) ?_
  refine jT_xiconst (k := 1) (pcN := 511) jI_379_510 rfl ?_
  refine jT_xgoto (pcN := 515) jI_379_511 rfl ?_
  refine jT_fB [1, 15, 16, 17, 18, 19, 20, 21, 22, 23, 24, 25, 26, 27, 28, 29, 35, 36, 37, 38, 39, 40, 41, 42] 49 (y := 201) (pcN := 518) (dC := 3) (bc1 := 0) (bc2 := 0) (c1 := 0) (c2 := 0) (as := [(4, 1), (0, x1), (0, x2), (0, x3), (0, 1)]) (asC := [(4, 0), (0, x1), (0, x2), (0, x3), (0, 1)]) (LN := [(6, (0, 0)), (5, (0, 0)), (4, (4, 3)), (3, (4, 2)), (2, (4, 1)), (1, (4, 0)), (0, (6, 0))]) (stN := []) (hsC := jpA_248) (hsD := [jzA_200, (100, [], ((((((((((((((jS0).set ((7 * x1).toNat) 0)).set ((7 * x1 + 1).toNat) 0)).set ((7 * x1 + 2).toNat) 0)).set ((7 * x1 + 3).toNat) 0)).set ((7 * x1 + 4).toNat) 0)).set ((7 * x1 + 5).toNat) 0)).set ((7 * x1 + 6).toNat) 1)), (100, [], []), jzA_196, jzA_201, jgh, jgh, (101, [], [0, 0, 0, 0, 0, 0]), jgh, jgh, jgh, jgh, jgh, jgh, jgh, jgh, (100, [], jS0), jgh, jgh, jgh, jgh, jgh, jgh, jgh]) (v := (0, 1)) (st2 := [(0, 1)]) (hs2 := [jzA_326, jzA_330, (101, [], [1]), jgh, jgh, jgh, jgh, jgh, jgh, jgh, jgh, jgh, jgh, jzA_327, jzA_322, (100, [], ((((((((((((((jS0).set ((7 * x1).toNat) 0)).set ((7 * x1 + 1).toNat) 0)).set ((7 * x1 + 2).toNat) 0)).set ((7 * x1 + 3).toNat) 0)).set ((7 * x1 + 4).toNat) 0)).set ((7 * x1 + 5).toNat) 0)).set ((7 * x1 + 6).toNat) 1)), (100, [], []), jzA_323, jzA_331, jgh, jgh, (101, [], [0, 0, 0, 0, 0, 0]), jgh, jgh, jgh, jgh, jgh, jgh, jgh, jgh, jzA_324, jgh, jgh, jgh, jgh, (100, [], jS0), jgh, jgh, jgh, jgh, jgh, jgh, jgh, (4, [(4, 44), (1, 1)], []), (101, [], [0, 0, 0, 0, 0, 0]), (101, [], [0, 0, 0, 0, 0, 0]), (4, [(4, 45), (1, 1)], []), jgh, jzA_328]) (jA_201_53 (d := 0) (by omega) (by omega) (by omega)) (by rfl) (by rfl) (by decide +kernel) (by rfl) (by rfl) (by omega) (by omega) (by omega) (by omega) rfl rfl ?_
  refine jT_xistore (v := (0, 1)) (LN := [(7, (0, 1)), (6, (0, 0)), (5, (0, 0)), (4, (4, 3)), (3, (4, 2)), (2, (4, 1)), (1, (4, 0)), (0, (6, 0))]) (pcN := 520) jI_379_518 rfl rfl rfl rfl ?_
  refine jT_xaload_n (v := (4, 1)) (pcN := 521) jI_379_520 rfl rfl rfl ?_
  refine jT_callA [1, 15, 16, 17, 18, 19, 20, 21, 22, 23, 24, 25, 26, 27, 28, 29] (y := 186) (pcN := 524) (dC := 0) (bc1 := 0) (bc2 := 0) (c1 := 0) (c2 := 0) (as := [(4, 1)]) (asC := [(4, 0)]) (LN := [(7, (0, 1)), (6, (0, 0)), (5, (0, 0)), (4, (4, 3)), (3, (4, 2)), (2, (4, 1)), (1, (4, 0)), (0, (6, 0))]) (stN := []) (hsC := jpA_258) (ex := []) (v := (0, 0)) (st2 := [(0, 0)]) (hs2 := [jzA_326, jzA_330, (101, [], [1]), jgh, jgh, jgh, jgh, jgh, jgh, jgh, jgh, jgh, jgh, jzA_327, jzA_322, (100, [], ((((((((((((((jS0).set ((7 * x1).toNat) 0)).set ((7 * x1 + 1).toNat) 0)).set ((7 * x1 + 2).toNat) 0)).set ((7 * x1 + 3).toNat) 0)).set ((7 * x1 + 4).toNat) 0)).set ((7 * x1 + 5).toNat) 0)).set ((7 * x1 + 6).toNat) 1)), (100, [], []), jzA_323, jzA_331, jgh, jgh, (101, [], [0, 0, 0, 0, 0, 0]), jgh, jgh, jgh, jgh, jgh, jgh, jgh, jgh, jzA_324, jgh, jgh, jgh, jgh, (100, [], jS0), jgh, jgh, jgh, jgh, jgh, jgh, jgh, (4, [(4, 44), (1, 1)], []), (101, [], [0, 0, 0, 0, 0, 0]), (101, [], [0, 0, 0, 0, 0, 0]), (4, [(4, 45), (1, 1)], []), jgh, jzA_328]) (jA_186_54 (d := 0)) (by rfl) (by rfl) (by rfl) (by rfl) ⟨rfl, rfl, rfl, rfl, rfl, rfl, rfl, rfl, rfl, rfl, rfl, rfl, rfl, rfl, rfl, rfl, trivial⟩ (by rfl) (by rfl) (by omega) (by show 45 ≤ 49; omega) (by omega) (by omega) rfl rfl ?_
  refine jT_xiload (v := (0, 0)) (pcN := 526) jI_379_524 rfl rfl rfl ?_
  refine jT_xicT (pcN := 531) jI_379_526 rfl (by decide +kernel) rfl ?_
  refine jT_xiload (v := (0, 0)) (pcN := 533) jI_379_531 rfl rfl rfl ?_
  refine jT_xifF (t := 548) (pcN := 536) jI_379_533 rfl (by decide +kernel) rfl rfl ?_
  refine jT_xaload_n (v := (4, 2)) (pcN := 537) jI_379_536 rfl rfl rfl ?_
  refine jT_xiconst (k := 0) (pcN := 538) jI_379_537 rfl ?_
  refine jT_lald (x := 1) (a := 2) (j := 0) (fs := []) (X := [1]) jI_379_538 rfl rfl rfl rfl ?_
  refine jT_eq (LN := [(7, (0, 1)), (6, (0, 0)), (5, (0, 0)), (4, (4, 3)), (3, (4, 2)), (2, (4, 1)), (1, (4, 0)), (0, (6, 0))]) (stN := [(1, 1)]) (hsN := [jzA_326, jzA_330, (101, [], [1]), jgh, jgh, jgh, jgh, jgh, jgh, jgh, jgh, jgh, jgh, jzA_327, jzA_322, (100, [], ((((((((((((((jS0).set ((7 * x1).toNat) 0)).set ((7 * x1 + 1).toNat) 0)).set ((7 * x1 + 2).toNat) 0)).set ((7 * x1 + 3).toNat) 0)).set ((7 * x1 + 4).toNat) 0)).set ((7 * x1 + 5).toNat) 0)).set ((7 * x1 + 6).toNat) 1)), (100, [], []), jzA_323, jzA_331, jgh, jgh, (101, [], [0, 0, 0, 0, 0, 0]), jgh, jgh, jgh, jgh, jgh, jgh, jgh, jgh, jzA_324, jgh, jgh, jgh, jgh, (100, [], jS0), jgh, jgh, jgh, jgh, jgh, jgh, jgh, (4, [(4, 44), (1, 1)], []), (101, [], [0, 0, 0, 0, 0, 0]), (101, [], [0, 0, 0, 0, 0, 0]), (4, [(4, 45), (1, 1)], []), jgh, jzA_328]) rfl rfl rfl ?_
  refine jT_xiload (v := (0, 1)) (pcN := 541) jI_379_539 rfl rfl rfl ?_
  refine jT_xi2l (x := 1) (z := 1) (pcN := 542) jI_379_541 rfl (by decide +kernel) rfl ?_
  refine jT_lcmp (a := 1) (b := 1) (z := 0) (by rfl) (by rfl) (by decide +kernel) (by decide +kernel) (by decide) ?_
  refine jT_xifT (pcN := 548) jI_379_543 rfl (by decide +kernel) rfl ?_
  refine jT_xgoto (pcN := 3740) jI_379_548 rfl ?_
  refine jT_xiinc (x := 0) (z := 5) (LN := [(5, (0, 5)), (7, (0, 1)), (6, (0, 0)), (4, (4, 3)), (3, (4, 2)), (2, (4, 1)), (1, (4, 0)), (0, (6, 0))]) (pcN := 3743) jI_379_3740 rfl rfl (by decide) rfl rfl ?_
  refine jT_xgoto (pcN := 28) jI_379_3743 rfl ?_
  refine jT_xiload (v := (0, 5)) (pcN := 30) jI_379_28 rfl rfl rfl ?_
  refine jT_xaload_n (v := (6, 0)) (pcN := 31) jI_379_30 rfl rfl rfl ?_
  refine jT_adv 1 (pcN := 32) (LN := [(5, (0, 5)), (7, (0, 1)), (6, (0, 0)), (4, (4, 3)), (3, (4, 2)), (2, (4, 1)), (1, (4, 0)), (0, (6, 0))]) (stN := [(0, 5), (0, 5)]) (hsN := [jzA_326, jzA_330, (101, [], [1]), jgh, jgh, jgh, jgh, jgh, jgh, jgh, jgh, jgh, jgh, jzA_327, jzA_322, (100, [], ((((((((((((((jS0).set ((7 * x1).toNat) 0)).set ((7 * x1 + 1).toNat) 0)).set ((7 * x1 + 2).toNat) 0)).set ((7 * x1 + 3).toNat) 0)).set ((7 * x1 + 4).toNat) 0)).set ((7 * x1 + 5).toNat) 0)).set ((7 * x1 + 6).toNat) 1)), (100, [], []), jzA_323, jzA_331, jgh, jgh, (101, [], [0, 0, 0, 0, 0, 0]), jgh, jgh, jgh, jgh, jgh, jgh, jgh, jgh, jzA_324, jgh, jgh, jgh, jgh, (100, [], jS0), jgh, jgh, jgh, jgh, jgh, jgh, jgh, (4, [(4, 44), (1, 1)], []), (101, [], [0, 0, 0, 0, 0, 0]), (101, [], [0, 0, 0, 0, 0, 0]), (4, [(4, 45), (1, 1)], []), jgh, jzA_328]) (c1 := 0) (s1 := 0) (c2 := 0) (s2 := 0) (by exact rfl) ?_ (by omega) (by omega)
  refine jT_xiconst (k := 5) (pcN := 33) jI_379_32 rfl ?_
  refine jT_xisub (x := 5) (y := 5) (z := 0) (pcN := 34) jI_379_33 rfl (by decide) rfl ?_
  refine jT_xicT (pcN := 3746) jI_379_34 rfl (by decide +kernel) rfl ?_
  refine jT_xiconst (k := 1) (pcN := 3747) jI_379_3746 rfl ?_
  exact jT_ret rfl (by decide) (by show 45 ≤ 49; decide) (by omega) (by omega) ⟨rfl, rfl⟩
set_option maxRecDepth 100000 in
theorem jL_2_18 {d : Nat} {x0 x1 x2 x3 x4 : Int} (h_x0 : (-2147483648) ≤ x0 ∧ x0 ≤ 2147483647) (h_x1 : 0 ≤ x1 ∧ x1 ≤ 7) (h_x2 : 0 ≤ x2 ∧ x2 ≤ 7) (h_x3 : 8 ≤ x3 ∧ x3 ≤ 2147483647) (h_x4 : 1 ≤ x4 ∧ x4 ≤ 2147483647) : jT [x0, x1, x2, x3, x4] (d + 3) 379 30 443 [(5, (0, 0)), (4, (4, 3)), (3, (4, 2)), (2, (4, 1)), (1, (4, 0)), (0, (6, 0))] [] jpA_267 1 6 (fun k v hsN => k = 0 ∧ v = (0, 1)) := by
  refine jT_xaload_n (v := (4, 0)) (pcN := 444) jI_379_443 rfl rfl rfl ?_
  refine jT_xaload_n (v := (6, 0)) (pcN := 445) jI_379_444 rfl rfl rfl ?_
  refine jT_xiload (v := (0, 0)) (pcN := 447) jI_379_445 rfl rfl rfl ?_
  refine jT_xiconst (k := 1) (pcN := 448) jI_379_447 rfl ?_
  refine jT_xiadd (x := 0) (y := 1) (z := 1) (pcN := 449) jI_379_448 rfl (by decide) rfl ?_
  refine jT_adv 1 (pcN := 450) (LN := [(5, (0, 0)), (4, (4, 3)), (3, (4, 2)), (2, (4, 1)), (1, (4, 0)), (0, (6, 0))]) (stN := [(0, x1), (4, 0)]) (hsN := jpA_267) (c1 := 0) (s1 := 0) (c2 := 1) (s2 := 6) (by exact rfl) ?_ (by omega) (by omega)
  refine jT_xaload_n (v := (6, 0)) (pcN := 451) jI_379_450 rfl rfl rfl ?_
  refine jT_xiload (v := (0, 0)) (pcN := 453) jI_379_451 rfl rfl rfl ?_
  refine jT_xiconst (k := 2) (pcN := 454) jI_379_453 rfl ?_
  refine jT_xiadd (x := 0) (y := 2) (z := 2) (pcN := 455) jI_379_454 rfl (by decide) rfl ?_
  refine jT_adv 1 (pcN := 456) (LN := [(5, (0, 0)), (4, (4, 3)), (3, (4, 2)), (2, (4, 1)), (1, (4, 0)), (0, (6, 0))]) (stN := [(0, x2), (0, x1), (4, 0)]) (hsN := jpA_267) (c1 := 0) (s1 := 0) (c2 := 1) (s2 := 6) (by exact rfl) ?_ (by omega) (by omega)
  refine jT_xaload_n (v := (6, 0)) (pcN := 457) jI_379_456 rfl rfl rfl ?_
  refine jT_xiload (v := (0, 0)) (pcN := 459) jI_379_457 rfl rfl rfl ?_
  refine jT_xiconst (k := 3) (pcN := 460) jI_379_459 rfl ?_
  refine jT_xiadd (x := 0) (y := 3) (z := 3) (pcN := 461) jI_379_460 rfl (by decide) rfl ?_
  refine jT_adv 1 (pcN := 462) (LN := [(5, (0, 0)), (4, (4, 3)), (3, (4, 2)), (2, (4, 1)), (1, (4, 0)), (0, (6, 0))]) (stN := [(0, x3), (0, x2), (0, x1), (4, 0)]) (hsN := jpA_267) (c1 := 0) (s1 := 0) (c2 := 1) (s2 := 6) (by exact rfl) ?_ (by omega) (by omega)
  refine jT_xaload_n (v := (6, 0)) (pcN := 463) jI_379_462 rfl rfl rfl ?_
  refine jT_xiload (v := (0, 0)) (pcN := 465) jI_379_463 rfl rfl rfl ?_
  refine jT_xiconst (k := 4) (pcN := 466) jI_379_465 rfl ?_
  refine jT_xiadd (x := 0) (y := 4) (z := 4) (pcN := 467) jI_379_466 rfl (by decide) rfl ?_
  refine jT_adv 1 (pcN := 468) (LN := [(5, (0, 0)), (4, (4, 3)), (3, (4, 2)), (2, (4, 1)), (1, (4, 0)), (0, (6, 0))]) (stN := [(0, x4), (0, x3), (0, x2), (0, x1), (4, 0)]) (hsN := jpA_267) (c1 := 0) (s1 := 0) (c2 := 1) (s2 := 6) (by exact rfl) ?_ (by omega) (by omega)
  refine jT_ifF (a := x4) (t := 475) (by rfl) (by rfl) (by rfl) (jw_idd (by omega) (by omega)) (by simp only [jcP] <;> omega) ?_
  refine jT_xiconst (k := 1) (pcN := 472) jI_379_471 rfl ?_
  refine jT_xgoto (pcN := 476) jI_379_472 rfl ?_
  refine jT_xaload_n (v := (4, 2)) (pcN := 477) jI_379_476 rfl rfl rfl ?_
  refine jT_fR [0, 2, 4, 5, 6, 7, 8, 9, 10, 11, 12, 13, 14] 30 (y := 328) (pcN := 480) (dC := 2) (bc1 := 1) (bc2 := 6) (c1 := 0) (c2 := 0) (as := [(4, 0), (0, x1), (0, x2), (0, x3), (0, 1), (4, 2)]) (asC := [(4, 0), (0, x1), (0, x2), (0, x3), (0, 1), (4, 1)]) (LN := [(5, (0, 0)), (4, (4, 3)), (3, (4, 2)), (2, (4, 1)), (1, (4, 0)), (0, (6, 0))]) (stN := []) (hsC := jpA_15) (v := (0, 1)) (st2 := [(0, 1)]) (jA_328_57 (d := 0) (by omega) (by omega) (by omega)) (by rfl) (by rfl) (by decide +kernel) (by rfl) (by rfl) (by omega) (by omega) (by omega) (by omega) rfl ?_
  refine jT_xistore (v := (0, 1)) (LN := [(6, (0, 1)), (5, (0, 0)), (4, (4, 3)), (3, (4, 2)), (2, (4, 1)), (1, (4, 0)), (0, (6, 0))]) (pcN := 482) jI_379_480 rfl rfl rfl rfl ?_
  refine jT_xaload_n (v := (4, 1)) (pcN := 483) jI_379_482 rfl rfl rfl ?_
  refine jT_xaload_n (v := (6, 0)) (pcN := 484) jI_379_483 rfl rfl rfl ?_
  refine jT_xiload (v := (0, 0)) (pcN := 486) jI_379_484 rfl rfl rfl ?_
  refine jT_xiconst (k := 1) (pcN := 487) jI_379_486 rfl ?_
  refine jT_xiadd (x := 0) (y := 1) (z := 1) (pcN := 488) jI_379_487 rfl (by decide) rfl ?_
  refine jT_adv 1 (pcN := 489) (LN := [(6, (0, 1)), (5, (0, 0)), (4, (4, 3)), (3, (4, 2)), (2, (4, 1)), (1, (4, 0)), (0, (6, 0))]) (stN := [(0, x1), (4, 1)]) (hsN := jpA_267) (c1 := 0) (s1 := 0) (c2 := 0) (s2 := 0) (by exact rfl) ?_ (by omega) (by omega)
  refine jT_xaload_n (v := (6, 0)) (pcN := 490) jI_379_489 rfl rfl rfl ?_
  refine jT_xiload (v := (0, 0)) (pcN := 492) jI_379_490 rfl rfl rfl ?_
  refine jT_xiconst (k := 2) (pcN := 493) jI_379_492 rfl ?_
  refine jT_xiadd (x := 0) (y := 2) (z := 2) (pcN := 494) jI_379_493 rfl (by decide) rfl ?_
  refine jT_adv 1 (pcN := 495) (LN := [(6, (0, 1)), (5, (0, 0)), (4, (4, 3)), (3, (4, 2)), (2, (4, 1)), (1, (4, 0)), (0, (6, 0))]) (stN := [(0, x2), (0, x1), (4, 1)]) (hsN := jpA_267) (c1 := 0) (s1 := 0) (c2 := 0) (s2 := 0) (by exact rfl) ?_ (by omega) (by omega)
  refine jT_xaload_n (v := (6, 0)) (pcN := 496) jI_379_495 rfl rfl rfl ?_
  refine jT_xiload (v := (0, 0)) (pcN := 498) jI_379_496 rfl rfl rfl ?_
  refine jT_xiconst (k := 3) (pcN := 499) jI_379_498 rfl ?_
  refine jT_xiadd (x := 0) (y := 3) (z := 3) (pcN := 500) jI_379_499 rfl (by decide) rfl ?_
  refine jT_adv 1 (pcN := 501) (LN := [(6, (0, 1)), (5, (0, 0)), (4, (4, 3)), (3, (4, 2)), (2, (4, 1)), (1, (4, 0)), (0, (6, 0))]) (stN := [(0, x3), (0, x2), (0, x1), (4, 1)]) (hsN := jpA_267) (c1 := 0) (s1 := 0) (c2 := 0) (s2 := 0) (by exact rfl) ?_ (by omega) (by omega)
  refine jT_xaload_n (v := (6, 0)) (pcN := 502) jI_379_501 rfl rfl rfl ?_
  refine jT_xiload (v := (0, 0)) (pcN := 504) jI_379_502 rfl rfl rfl ?_
  refine jT_xiconst (k := 4) (pcN := 505) jI_379_504 rfl ?_
  refine jT_xiadd (x := 0) (y := 4) (z := 4) (pcN := 506) jI_379_505 rfl (by decide) rfl ?_
  refine jT_adv 1 (pcN := 507) (LN := [(6, (0, 1)), (5, (0, 0)), (4, (4, 3)), (3, (4, 2)), (2, (4, 1)), (1, (4, 0)), (0, (6, 0))]) (stN := [(0, x4), (0, x3), (0, x2), (0, x1), (4, 1)]) (hsN := jpA_267) (c1 := 0) (s1 := 0) (c2 := 0) (s2 := 0) (by exact rfl) ?_ (by omega) (by omega)
  refine jT_ifF (a := x4) (t := 514) (by rfl) (by rfl) (by rfl) (jw_idd (by omega) (by omega)) (by simp only [jcP] <;> omega) ?_
  refine jT_xiconst (k := 1) (pcN := 511) jI_379_510 rfl ?_
  refine jT_xgoto (pcN := 515) jI_379_511 rfl ?_
  refine jT_fB [1, 15, 16, 17, 18, 19, 20, 21, 22, 23, 24, 25, 26, 27, 28, 29] 30 (y := 201) (pcN := 518) (dC := 2) (bc1 := 0) (bc2 := 0) (c1 := 0) (c2 := 0) (as := [(4, 1), (0, x1), (0, x2), (0, x3), (0, 1)]) (asC := [(4, 0), (0, x1), (0, x2), (0, x3), (0, 1)]) (LN := [(6, (0, 1)), (5, (0, 0)), (4, (4, 3)), (3, (4, 2)), (2, (4, 1)), (1, (4, 0)), (0, (6, 0))]) (stN := []) (hsC := jpA_22) (hsD := jpA_20) (v := (0, 0)) (st2 := [(0, 0)]) (hs2 := jpA_306) (jA_201_59 (d := 0) (by omega) (by omega) (by omega)) (by rfl) (by rfl) (by decide +kernel) (by rfl) (by rfl) (by omega) (by omega) (by omega) (by omega) rfl (by decide +kernel) ?_
  refine jT_xistore (v := (0, 0)) (LN := [(7, (0, 0)), (6, (0, 1)), (5, (0, 0)), (4, (4, 3)), (3, (4, 2)), (2, (4, 1)), (1, (4, 0)), (0, (6, 0))]) (pcN := 520) jI_379_518 rfl rfl rfl rfl ?_
  refine jT_xaload_n (v := (4, 1)) (pcN := 521) jI_379_520 rfl rfl rfl ?_
  refine jT_fR [1, 15, 16, 17, 18, 19, 20, 21, 22, 23, 24, 25, 26, 27, 28, 29] 30 (y := 186) (pcN := 524) (dC := 0) (bc1 := 0) (bc2 := 0) (c1 := 0) (c2 := 0) (as := [(4, 1)]) (asC := [(4, 0)]) (LN := [(7, (0, 0)), (6, (0, 1)), (5, (0, 0)), (4, (4, 3)), (3, (4, 2)), (2, (4, 1)), (1, (4, 0)), (0, (6, 0))]) (stN := []) (hsC := jpA_20) (v := (0, 1)) (st2 := [(0, 1)]) (jA_186_8 (d := 0)) (by rfl) (by rfl) (by decide +kernel) (by rfl) (by rfl) (by omega) (by omega) (by omega) (by omega) rfl ?_
  refine jT_xiload (v := (0, 1)) (pcN := 526) jI_379_524 rfl rfl rfl ?_
  refine jT_xicT (pcN := 531) jI_379_526 rfl (by decide +kernel) rfl ?_
  refine jT_xiload (v := (0, 1)) (pcN := 533) jI_379_531 rfl rfl rfl ?_
  refine jT_xifT (pcN := 548) jI_379_533 rfl (by decide +kernel) rfl ?_
  refine jT_xgoto (pcN := 3740) jI_379_548 rfl ?_
  refine jT_xiinc (x := 0) (z := 5) (LN := [(5, (0, 5)), (7, (0, 0)), (6, (0, 1)), (4, (4, 3)), (3, (4, 2)), (2, (4, 1)), (1, (4, 0)), (0, (6, 0))]) (pcN := 3743) jI_379_3740 rfl rfl (by decide) rfl rfl ?_
  refine jT_xgoto (pcN := 28) jI_379_3743 rfl ?_
  refine jT_xiload (v := (0, 5)) (pcN := 30) jI_379_28 rfl rfl rfl ?_
  refine jT_xaload_n (v := (6, 0)) (pcN := 31) jI_379_30 rfl rfl rfl ?_
  refine jT_adv 1 (pcN := 32) (LN := [(5, (0, 5)), (7, (0, 0)), (6, (0, 1)), (4, (4, 3)), (3, (4, 2)), (2, (4, 1)), (1, (4, 0)), (0, (6, 0))]) (stN := [(0, 5), (0, 5)]) (hsN := jpA_306) (c1 := 0) (s1 := 0) (c2 := 0) (s2 := 0) (by exact rfl) ?_ (by omega) (by omega)
  refine jT_xiconst (k := 5) (pcN := 33) jI_379_32 rfl ?_
  refine jT_xisub (x := 5) (y := 5) (z := 0) (pcN := 34) jI_379_33 rfl (by decide) rfl ?_
  refine jT_xicT (pcN := 3746) jI_379_34 rfl (by decide +kernel) rfl ?_
  refine jT_xiconst (k := 1) (pcN := 3747) jI_379_3746 rfl ?_
  exact jT_ret rfl (by decide) (by show 30 ≤ 30; decide) (by omega) (by omega) ⟨rfl, rfl⟩
set_option maxRecDepth 100000 in
theorem jL_2_19 {d : Nat} {x0 x1 x2 x3 x4 : Int} (h_x0 : (-2147483648) ≤ x0 ∧ x0 ≤ 2147483647) (h_x1 : 0 ≤ x1 ∧ x1 ≤ 7) (h_x2 : 8 ≤ x2 ∧ x2 ≤ 2147483647) (h_x3 : (-2147483648) ≤ x3 ∧ x3 ≤ 2147483647) (h_x4 : 1 ≤ x4 ∧ x4 ≤ 2147483647) : jT [x0, x1, x2, x3, x4] (d + 3) 379 30 443 [(5, (0, 0)), (4, (4, 3)), (3, (4, 2)), (2, (4, 1)), (1, (4, 0)), (0, (6, 0))] [] jpA_267 1 6 (fun k v hsN => k = 0 ∧ v = (0, 1)) := by
  refine jT_xaload_n (v := (4, 0)) (pcN := 444) jI_379_443 rfl rfl rfl ?_
  refine jT_xaload_n (v := (6, 0)) (pcN := 445) jI_379_444 rfl rfl rfl ?_
  refine jT_xiload (v := (0, 0)) (pcN := 447) jI_379_445 rfl rfl rfl ?_
  refine jT_xiconst (k := 1) (pcN := 448) jI_379_447 rfl ?_
  refine jT_xiadd (x := 0) (y := 1) (z := 1) (pcN := 449) jI_379_448 rfl (by decide) rfl ?_
  refine jT_adv 1 (pcN := 450) (LN := [(5, (0, 0)), (4, (4, 3)), (3, (4, 2)), (2, (4, 1)), (1, (4, 0)), (0, (6, 0))]) (stN := [(0, x1), (4, 0)]) (hsN := jpA_267) (c1 := 0) (s1 := 0) (c2 := 1) (s2 := 6) (by exact rfl) ?_ (by omega) (by omega)
  refine jT_xaload_n (v := (6, 0)) (pcN := 451) jI_379_450 rfl rfl rfl ?_
  refine jT_xiload (v := (0, 0)) (pcN := 453) jI_379_451 rfl rfl rfl ?_
  refine jT_xiconst (k := 2) (pcN := 454) jI_379_453 rfl ?_
  refine jT_xiadd (x := 0) (y := 2) (z := 2) (pcN := 455) jI_379_454 rfl (by decide) rfl ?_
  refine jT_adv 1 (pcN := 456) (LN := [(5, (0, 0)), (4, (4, 3)), (3, (4, 2)), (2, (4, 1)), (1, (4, 0)), (0, (6, 0))]) (stN := [(0, x2), (0, x1), (4, 0)]) (hsN := jpA_267) (c1 := 0) (s1 := 0) (c2 := 1) (s2 := 6) (by exact rfl) ?_ (by omega) (by omega)
  refine jT_xaload_n (v := (6, 0)) (pcN := 457) jI_379_456 rfl rfl rfl ?_
  refine jT_xiload (v := (0, 0)) (pcN := 459) jI_379_457 rfl rfl rfl ?_
  refine jT_xiconst (k := 3) (pcN := 460) jI_379_459 rfl ?_
  refine jT_xiadd (x := 0) (y := 3) (z := 3) (pcN := 461) jI_379_460 rfl (by decide) rfl ?_
  refine jT_adv 1 (pcN := 462) (LN := [(5, (0, 0)), (4, (4, 3)), (3, (4, 2)), (2, (4, 1)), (1, (4, 0)), (0, (6, 0))]) (stN := [(0, x3), (0, x2), (0, x1), (4, 0)]) (hsN := jpA_267) (c1 := 0) (s1 := 0) (c2 := 1) (s2 := 6) (by exact rfl) ?_ (by omega) (by omega)
  refine jT_xaload_n (v := (6, 0)) (pcN := 463) jI_379_462 rfl rfl rfl ?_
  refine jT_xiload (v := (0, 0)) (pcN := 465) jI_379_463 rfl rfl rfl ?_
  refine jT_xiconst (k := 4) (pcN := 466) jI_379_465 rfl ?_
  refine jT_xiadd (x := 0) (y := 4) (z := 4) (pcN := 467) jI_379_466 rfl (by decide) rfl ?_
  refine jT_adv 1 (pcN := 468) (LN := [(5, (0, 0)), (4, (4, 3)), (3, (4, 2)), (2, (4, 1)), (1, (4, 0)), (0, (6, 0))]) (stN := [(0, x4), (0, x3), (0, x2), (0, x1), (4, 0)]) (hsN := jpA_267) (c1 := 0) (s1 := 0) (c2 := 1) (s2 := 6) (by exact rfl) ?_ (by omega) (by omega)
  refine jT_ifF (a := x4) (t := 475) (by rfl) (by rfl) (by rfl) (jw_idd (by omega) (by omega)) (by simp only [jcP] <;> omega) ?_
  refine jT_xiconst (k := 1) (pcN := 472) jI_379_471 rfl ?_
  refine jT_xgoto (pcN := 476) jI_379_472 rfl ?_
  refine jT_xaload_n (v := (4, 2)) (pcN := 477) jI_379_476 rfl rfl rfl ?_
  refine jT_fR [0, 2, 4, 5, 6, 7, 8, 9, 10, 11, 12, 13, 14] 30 (y := 328) (pcN := 480) (dC := 2) (bc1 := 1) (bc2 := 6) (c1 := 0) (c2 := 0) (as := [(4, 0), (0, x1), (0, x2), (0, x3), (0, 1), (4, 2)]) (asC := [(4, 0), (0, x1), (0, x2), (0, x3), (0, 1), (4, 1)]) (LN := [(5, (0, 0)), (4, (4, 3)), (3, (4, 2)), (2, (4, 1)), (1, (4, 0)), (0, (6, 0))]) (stN := []) (hsC := jpA_15) (v := (0, 1)) (st2 := [(0, 1)]) (jA_328_62 (d := 0) (by omega) (by omega) (by omega)) (by rfl) (by rfl) (by decide +kernel) (by rfl) (by rfl) (by omega) (by omega) (by omega) (by omega) rfl ?_
  refine jT_xistore (v := (0, 1)) (LN := [(6, (0, 1)), (5, (0, 0)), (4, (4, 3)), (3, (4, 2)), (2, (4, 1)), (1, (4, 0)), (0, (6, 0))]) (pcN := 482) jI_379_480 rfl rfl rfl rfl ?_
  refine jT_xaload_n (v := (4, 1)) (pcN := 483) jI_379_482 rfl rfl rfl ?_
  refine jT_xaload_n (v := (6, 0)) (pcN := 484) jI_379_483 rfl rfl rfl ?_
  refine jT_xiload (v := (0, 0)) (pcN := 486) jI_379_484 rfl rfl rfl ?_
  refine jT_xiconst (k := 1) (pcN := 487) jI_379_486 rfl ?_
  refine jT_xiadd (x := 0) (y := 1) (z := 1) (pcN := 488) jI_379_487 rfl (by decide) rfl ?_
  refine jT_adv 1 (pcN := 489) (LN := [(6, (0, 1)), (5, (0, 0)), (4, (4, 3)), (3, (4, 2)), (2, (4, 1)), (1, (4, 0)), (0, (6, 0))]) (stN := [(0, x1), (4, 1)]) (hsN := jpA_267) (c1 := 0) (s1 := 0) (c2 := 0) (s2 := 0) (by exact rfl) ?_ (by omega) (by omega)
  refine jT_xaload_n (v := (6, 0)) (pcN := 490) jI_379_489 rfl rfl rfl ?_
  refine jT_xiload (v := (0, 0)) (pcN := 492) jI_379_490 rfl rfl rfl ?_
  refine jT_xiconst (k := 2) (pcN := 493) jI_379_492 rfl ?_
  refine jT_xiadd (x := 0) (y := 2) (z := 2) (pcN := 494) jI_379_493 rfl (by decide) rfl ?_
  refine jT_adv 1 (pcN := 495) (LN := [(6, (0, 1)), (5, (0, 0)), (4, (4, 3)), (3, (4, 2)), (2, (4, 1)), (1, (4, 0)), (0, (6, 0))]) (stN := [(0, x2), (0, x1), (4, 1)]) (hsN := jpA_267) (c1 := 0) (s1 := 0) (c2 := 0) (s2 := 0) (by exact rfl) ?_ (by omega) (by omega)
  refine jT_xaload_n (v := (6, 0)) (pcN := 496) jI_379_495 rfl rfl rfl ?_
  refine jT_xiload (v := (0, 0)) (pcN := 498) jI_379_496 rfl rfl rfl ?_
  refine jT_xiconst (k := 3) (pcN := 499) jI_379_498 rfl ?_
  refine jT_xiadd (x := 0) (y := 3) (z := 3) (pcN := 500) jI_379_499 rfl (by decide) rfl ?_
  refine jT_adv 1 (pcN := 501) (LN := [(6, (0, 1)), (5, (0, 0)), (4, (4, 3)), (3, (4, 2)), (2, (4, 1)), (1, (4, 0)), (0, (6, 0))]) (stN := [(0, x3), (0, x2), (0, x1), (4, 1)]) (hsN := jpA_267) (c1 := 0) (s1 := 0) (c2 := 0) (s2 := 0) (by exact rfl) ?_ (by omega) (by omega)
  refine jT_xaload_n (v := (6, 0)) (pcN := 502) jI_379_501 rfl rfl rfl ?_
  refine jT_xiload (v := (0, 0)) (pcN := 504) jI_379_502 rfl rfl rfl ?_
  refine jT_xiconst (k := 4) (pcN := 505) jI_379_504 rfl ?_
  refine jT_xiadd (x := 0) (y := 4) (z := 4) (pcN := 506) jI_379_505 rfl (by decide) rfl ?_
  refine jT_adv 1 (pcN := 507) (LN := [(6, (0, 1)), (5, (0, 0)), (4, (4, 3)), (3, (4, 2)), (2, (4, 1)), (1, (4, 0)), (0, (6, 0))]) (stN := [(0, x4), (0, x3), (0, x2), (0, x1), (4, 1)]) (hsN := jpA_267) (c1 := 0) (s1 := 0) (c2 := 0) (s2 := 0) (by exact rfl) ?_ (by omega) (by omega)
  refine jT_ifF (a := x4) (t := 514) (by rfl) (by rfl) (by rfl) (jw_idd (by omega) (by omega)) (by simp only [jcP] <;> omega) ?_
  refine jT_xiconst (k := 1) (pcN := 511) jI_379_510 rfl ?_
  refine jT_xgoto (pcN := 515) jI_379_511 rfl ?_
  refine jT_fB [1, 15, 16, 17, 18, 19, 20, 21, 22, 23, 24, 25, 26, 27, 28, 29] 30 (y := 201) (pcN := 518) (dC := 2) (bc1 := 0) (bc2 := 0) (c1 := 0) (c2 := 0) (as := [(4, 1), (0, x1), (0, x2), (0, x3), (0, 1)]) (asC := [(4, 0), (0, x1), (0, x2), (0, x3), (0, 1)]) (LN := [(6, (0, 1)), (5, (0, 0)), (4, (4, 3)), (3, (4, 2)), (2, (4, 1)), (1, (4, 0)), (0, (6, 0))]) (stN := []) (hsC := jpA_22) (hsD := jpA_20) (v := (0, 0)) (st2 := [(0, 0)]) (hs2 := jpA_306) (jA_201_64 (d := 0) (by omega) (by omega) (by omega)) (by rfl) (by rfl) (by decide +kernel) (by rfl) (by rfl) (by omega) (by omega) (by omega) (by omega) rfl (by decide +kernel) ?_
  refine jT_xistore (v := (0, 0)) (LN := [(7, (0, 0)), (6, (0, 1)), (5, (0, 0)), (4, (4, 3)), (3, (4, 2)), (2, (4, 1)), (1, (4, 0)), (0, (6, 0))]) (pcN := 520) jI_379_518 rfl rfl rfl rfl ?_
  refine jT_xaload_n (v := (4, 1)) (pcN := 521) jI_379_520 rfl rfl rfl ?_
  refine jT_fR [1, 15, 16, 17, 18, 19, 20, 21, 22, 23, 24, 25, 26, 27, 28, 29] 30 (y := 186) (pcN := 524) (dC := 0) (bc1 := 0) (bc2 := 0) (c1 := 0) (c2 := 0) (as := [(4, 1)]) (asC := [(4, 0)]) (LN := [(7, (0, 0)), (6, (0, 1)), (5, (0, 0)), (4, (4, 3)), (3, (4, 2)), (2, (4, 1)), (1, (4, 0)), (0, (6, 0))]) (stN := []) (hsC := jpA_20) (v := (0, 1)) (st2 := [(0, 1)]) (jA_186_8 (d := 0)) (by rfl) (by rfl) (by decide +kernel) (by rfl) (by rfl) (by omega) (by omega) (by omega) (by omega) rfl ?_
  refine jT_xiload (v := (0, 1)) (pcN := 526) jI_379_524 rfl rfl rfl ?_
  refine jT_xicT (pcN := 531) jI_379_526 rfl (by decide +kernel) rfl ?_
  refine jT_xiload (v := (0, 1)) (pcN := 533) jI_379_531 rfl rfl rfl ?_
  refine jT_xifT (pcN := 548) jI_379_533 rfl (by decide +kernel) rfl ?_
  refine jT_xgoto (pcN := 3740) jI_379_548 rfl ?_
  refine jT_xiinc (x := 0) (z := 5) (LN := [(5, (0, 5)), (7, (0, 0)), (6, (0, 1)), (4, (4, 3)), (3, (4, 2)), (2, (4, 1)), (1, (4, 0)), (0, (6, 0))]) (pcN := 3743) jI_379_3740 rfl rfl (by decide) rfl rfl ?_
  refine jT_xgoto (pcN := 28) jI_379_3743 rfl ?_
  refine jT_xiload (v := (0, 5)) (pcN := 30) jI_379_28 rfl rfl rfl ?_
  refine jT_xaload_n (v := (6, 0)) (pcN := 31) jI_379_30 rfl rfl rfl ?_
  refine jT_adv 1 (pcN := 32) (LN := [(5, (0, 5)), (7, (0, 0)), (6, (0, 1)), (4, (4, 3)), (3, (4, 2)), (2, (4, 1)), (1, (4, 0)), (0, (6, 0))]) (stN := [(0, 5), (0, 5)]) (hsN := jpA_306) (c1 := 0) (s1 := 0) (c2 := 0) (s2 := 0) (by exact rfl) ?_ (by omega) (by omega)
  refine jT_xiconst (k := 5) (pcN := 33) jI_379_32 rfl ?_
  refine jT_xisub (x := 5) (y := 5) (z := 0) (pcN := 34) jI_379_33 rfl (by decide) rfl ?_
  refine jT_xicT (pcN := 3746) jI_379_34 rfl (by decide +kernel) rfl ?_
  refine jT_xiconst (k := 1) (pcN := 3747) jI_379_3746 rfl ?_
  exact jT_ret rfl (by decide) (by show 30 ≤ 30; decide) (by omega) (by omega) ⟨rfl, rfl⟩
set_option maxRecDepth 100000 in
theorem jL_2_20 {d : Nat} {x0 x1 x2 x3 x4 : Int} (h_x0 : (-2147483648) ≤ x0 ∧ x0 ≤ 2147483647) (h_x1 : 8 ≤ x1 ∧ x1 ≤ 2147483647) (h_x2 : (-2147483648) ≤ x2 ∧ x2 ≤ 2147483647) (h_x3 : (-2147483648) ≤ x3 ∧ x3 ≤ 2147483647) (h_x4 : 1 ≤ x4 ∧ x4 ≤ 2147483647) : jT [x0, x1, x2, x3, x4] (d + 3) 379 30 443 [(5, (0, 0)), (4, (4, 3)), (3, (4, 2)), (2, (4, 1)), (1, (4, 0)), (0, (6, 0))] [] jpA_267 1 6 (fun k v hsN => k = 0 ∧ v = (0, 1)) := by
  refine jT_xaload_n (v := (4, 0)) (pcN := 444) jI_379_443 rfl rfl rfl ?_
  refine jT_xaload_n (v := (6, 0)) (pcN := 445) jI_379_444 rfl rfl rfl ?_
  refine jT_xiload (v := (0, 0)) (pcN := 447) jI_379_445 rfl rfl rfl ?_
  refine jT_xiconst (k := 1) (pcN := 448) jI_379_447 rfl ?_
  refine jT_xiadd (x := 0) (y := 1) (z := 1) (pcN := 449) jI_379_448 rfl (by decide) rfl ?_
  refine jT_adv 1 (pcN := 450) (LN := [(5, (0, 0)), (4, (4, 3)), (3, (4, 2)), (2, (4, 1)), (1, (4, 0)), (0, (6, 0))]) (stN := [(0, x1), (4, 0)]) (hsN := jpA_267) (c1 := 0) (s1 := 0) (c2 := 1) (s2 := 6) (by exact rfl) ?_ (by omega) (by omega)
  refine jT_xaload_n (v := (6, 0)) (pcN := 451) jI_379_450 rfl rfl rfl ?_
  refine jT_xiload (v := (0, 0)) (pcN := 453) jI_379_451 rfl rfl rfl ?_
  refine jT_xiconst (k := 2) (pcN := 454) jI_379_453 rfl ?_
  refine jT_xiadd (x := 0) (y := 2) (z := 2) (pcN := 455) jI_379_454 rfl (by decide) rfl ?_
  refine jT_adv 1 (pcN := 456) (LN := [(5, (0, 0)), (4, (4, 3)), (3, (4, 2)), (2, (4, 1)), (1, (4, 0)), (0, (6, 0))]) (stN := [(0, x2), (0, x1), (4, 0)]) (hsN := jpA_267) (c1 := 0) (s1 := 0) (c2 := 1) (s2 := 6) (by exact rfl) ?_ (by omega) (by omega)
  refine jT_xaload_n (v := (6, 0)) (pcN := 457) jI_379_456 rfl rfl rfl ?_
  refine jT_xiload (v := (0, 0)) (pcN := 459) jI_379_457 rfl rfl rfl ?_
  refine jT_xiconst (k := 3) (pcN := 460) jI_379_459 rfl ?_
  refine jT_xiadd (x := 0) (y := 3) (z := 3) (pcN := 461) jI_379_460 rfl (by decide) rfl ?_
  refine jT_adv 1 (pcN := 462) (LN := [(5, (0, 0)), (4, (4, 3)), (3, (4, 2)), (2, (4, 1)), (1, (4, 0)), (0, (6, 0))]) (stN := [(0, x3), (0, x2), (0, x1), (4, 0)]) (hsN := jpA_267) (c1 := 0) (s1 := 0) (c2 := 1) (s2 := 6) (by exact rfl) ?_ (by omega) (by omega)
  refine jT_xaload_n (v := (6, 0)) (pcN := 463) jI_379_462 rfl rfl rfl ?_
  refine jT_xiload (v := (0, 0)) (pcN := 465) jI_379_463 rfl rfl rfl ?_
  refine jT_xiconst (k := 4) (pcN := 466) jI_379_465 rfl ?_
  refine jT_xiadd (x := 0) (y := 4) (z := 4) (pcN := 467) jI_379_466 rfl (by decide) rfl ?_
  refine jT_adv 1 (pcN := 468) (LN := [(5, (0, 0)), (4, (4, 3)), (3, (4, 2)), (2, (4, 1)), (1, (4, 0)), (0, (6, 0))]) (stN := [(0, x4), (0, x3), (0, x2), (0, x1), (4, 0)]) (hsN := jpA_267) (c1 := 0) (s1 := 0) (c2 := 1) (s2 := 6) (by exact rfl) ?_ (by omega) (by omega)
  refine jT_ifF (a := x4) (t := 475) (by rfl) (by rfl) (by rfl) (jw_idd (by omega) (by omega)) (by simp only [jcP] <;> omega) ?_
  refine jT_xiconst (k := 1) (pcN := 472) jI_379_471 rfl ?_
  refine jT_xgoto (pcN := 476) jI_379_472 rfl ?_
  refine jT_xaload_n (v := (4, 2)) (pcN := 477) jI_379_476 rfl rfl rfl ?_
  refine jT_fR [0, 2, 4, 5, 6, 7, 8, 9, 10, 11, 12, 13, 14] 30 (y := 328) (pcN := 480) (dC := 2) (bc1 := 1) (bc2 := 6) (c1 := 0) (c2 := 0) (as := [(4, 0), (0, x1), (0, x2), (0, x3), (0, 1), (4, 2)]) (asC := [(4, 0), (0, x1), (0, x2), (0, x3), (0, 1), (4, 1)]) (LN := [(5, (0, 0)), (4, (4, 3)), (3, (4, 2)), (2, (4, 1)), (1, (4, 0)), (0, (6, 0))]) (stN := []) (hsC := jpA_15) (v := (0, 1)) (st2 := [(0, 1)]) (jA_328_67 (d := 0) (by omega) (by omega) (by omega)) (by rfl) (by rfl) (by decide +kernel) (by rfl) (by rfl) (by omega) (by omega) (by omega) (by omega) rfl ?_
  refine jT_xistore (v := (0, 1)) (LN := [(6, (0, 1)), (5, (0, 0)), (4, (4, 3)), (3, (4, 2)), (2, (4, 1)), (1, (4, 0)), (0, (6, 0))]) (pcN := 482) jI_379_480 rfl rfl rfl rfl ?_
  refine jT_xaload_n (v := (4, 1)) (pcN := 483) jI_379_482 rfl rfl rfl ?_
  refine jT_xaload_n (v := (6, 0)) (pcN := 484) jI_379_483 rfl rfl rfl ?_
  refine jT_xiload (v := (0, 0)) (pcN := 486) jI_379_484 rfl rfl rfl ?_
  refine jT_xiconst (k := 1) (pcN := 487) jI_379_486 rfl ?_
  refine jT_xiadd (x := 0) (y := 1) (z := 1) (pcN := 488) jI_379_487 rfl (by decide) rfl ?_
  refine jT_adv 1 (pcN := 489) (LN := [(6, (0, 1)), (5, (0, 0)), (4, (4, 3)), (3, (4, 2)), (2, (4, 1)), (1, (4, 0)), (0, (6, 0))]) (stN := [(0, x1), (4, 1)]) (hsN := jpA_267) (c1 := 0) (s1 := 0) (c2 := 0) (s2 := 0) (by exact rfl) ?_ (by omega) (by omega)
  refine jT_xaload_n (v := (6, 0)) (pcN := 490) jI_379_489 rfl rfl rfl ?_
  refine jT_xiload (v := (0, 0)) (pcN := 492) jI_379_490 rfl rfl rfl ?_
  refine jT_xiconst (k := 2) (pcN := 493) jI_379_492 rfl ?_
  refine jT_xiadd (x := 0) (y := 2) (z := 2) (pcN := 494) jI_379_493 rfl (by decide) rfl ?_
  refine jT_adv 1 (pcN := 495) (LN := [(6, (0, 1)), (5, (0, 0)), (4, (4, 3)), (3, (4, 2)), (2, (4, 1)), (1, (4, 0)), (0, (6, 0))]) (stN := [(0, x2), (0, x1), (4, 1)]) (hsN := jpA_267) (c1 := 0) (s1 := 0) (c2 := 0) (s2 := 0) (by exact rfl) ?_ (by omega) (by omega)
  refine jT_xaload_n (v := (6, 0)) (pcN := 496) jI_379_495 rfl rfl rfl ?_
  refine jT_xiload (v := (0, 0)) (pcN := 498) jI_379_496 rfl rfl rfl ?_
  refine jT_xiconst (k := 3) (pcN := 499) jI_379_498 rfl ?_
  refine jT_xiadd (x := 0) (y := 3) (z := 3) (pcN := 500) jI_379_499 rfl (by decide) rfl ?_
  refine jT_adv 1 (pcN := 501) (LN := [(6, (0, 1)), (5, (0, 0)), (4, (4, 3)), (3, (4, 2)), (2, (4, 1)), (1, (4, 0)), (0, (6, 0))]) (stN := [(0, x3), (0, x2), (0, x1), (4, 1)]) (hsN := jpA_267) (c1 := 0) (s1 := 0) (c2 := 0) (s2 := 0) (by exact rfl) ?_ (by omega) (by omega)
  refine jT_xaload_n (v := (6, 0)) (pcN := 502) jI_379_501 rfl rfl rfl ?_
  refine jT_xiload (v := (0, 0)) (pcN := 504) jI_379_502 rfl rfl rfl ?_
  refine jT_xiconst (k := 4) (pcN := 505) jI_379_504 rfl ?_
  refine jT_xiadd (x := 0) (y := 4) (z := 4) (pcN := 506) jI_379_505 rfl (by decide) rfl ?_
  refine jT_adv 1 (pcN := 507) (LN := [(6, (0, 1)), (5, (0, 0)), (4, (4, 3)), (3, (4, 2)), (2, (4, 1)), (1, (4, 0)), (0, (6, 0))]) (stN := [(0, x4), (0, x3), (0, x2), (0, x1), (4, 1)]) (hsN := jpA_267) (c1 := 0) (s1 := 0) (c2 := 0) (s2 := 0) (by exact rfl) ?_ (by omega) (by omega)
  refine jT_ifF (a := x4) (t := 514) (by rfl) (by rfl) (by rfl) (jw_idd (by omega) (by omega)) (by simp only [jcP] <;> omega) ?_
  refine jT_xiconst (k := 1) (pcN := 511) jI_379_510 rfl ?_
  refine jT_xgoto (pcN := 515) jI_379_511 rfl ?_
  refine jT_fB [1, 15, 16, 17, 18, 19, 20, 21, 22, 23, 24, 25, 26, 27, 28, 29] 30 (y := 201) (pcN := 518) (dC := 2) (bc1 := 0) (bc2 := 0) (c1 := 0) (c2 := 0) (as := [(4, 1), (0, x1), (0, x2), (0, x3), (0, 1)]) (asC := [(4, 0), (0, x1), (0, x2), (0, x3), (0, 1)]) (LN := [(6, (0, 1)), (5, (0, 0)), (4, (4, 3)), (3, (4, 2)), (2, (4, 1)), (1, (4, 0)), (0, (6, 0))]) (stN := []) (hsC := jpA_22) (hsD := jpA_20) (v := (0, 0)) (st2 := [(0, 0)]) (hs2 := jpA_306) (jA_201_69 (d := 0) (by omega) (by omega) (by omega)) (by rfl) (by rfl) (by decide +kernel) (by rfl) (by rfl) (by omega) (by omega) (by omega) (by omega) rfl (by decide +kernel) ?_
  refine jT_xistore (v := (0, 0)) (LN := [(7, (0, 0)), (6, (0, 1)), (5, (0, 0)), (4, (4, 3)), (3, (4, 2)), (2, (4, 1)), (1, (4, 0)), (0, (6, 0))]) (pcN := 520) jI_379_518 rfl rfl rfl rfl ?_
  refine jT_xaload_n (v := (4, 1)) (pcN := 521) jI_379_520 rfl rfl rfl ?_
  refine jT_fR [1, 15, 16, 17, 18, 19, 20, 21, 22, 23, 24, 25, 26, 27, 28, 29] 30 (y := 186) (pcN := 524) (dC := 0) (bc1 := 0) (bc2 := 0) (c1 := 0) (c2 := 0) (as := [(4, 1)]) (asC := [(4, 0)]) (LN := [(7, (0, 0)), (6, (0, 1)), (5, (0, 0)), (4, (4, 3)), (3, (4, 2)), (2, (4, 1)), (1, (4, 0)), (0, (6, 0))]) (stN := []) (hsC := jpA_20) (v := (0, 1)) (st2 := [(0, 1)]) (jA_186_8 (d := 0)) (by rfl) (by rfl) (by decide +kernel) (by rfl) (by rfl) (by omega) (by omega) (by omega) (by omega) rfl ?_
  refine jT_xiload (v := (0, 1)) (pcN := 526) jI_379_524 rfl rfl rfl ?_
  refine jT_xicT (pcN := 531) jI_379_526 rfl (by decide +kernel) rfl ?_
  refine jT_xiload (v := (0, 1)) (pcN := 533) jI_379_531 rfl rfl rfl ?_
  refine jT_xifT (pcN := 548) jI_379_533 rfl (by decide +kernel) rfl ?_
  refine jT_xgoto (pcN := 3740) jI_379_548 rfl ?_
  refine jT_xiinc (x := 0) (z := 5) (LN := [(5, (0, 5)), (7, (0, 0)), (6, (0, 1)), (4, (4, 3)), (3, (4, 2)), (2, (4, 1)), (1, (4, 0)), (0, (6, 0))]) (pcN := 3743) jI_379_3740 rfl rfl (by decide) rfl rfl ?_
  refine jT_xgoto (pcN := 28) jI_379_3743 rfl ?_
  refine jT_xiload (v := (0, 5)) (pcN := 30) jI_379_28 rfl rfl rfl ?_
  refine jT_xaload_n (v := (6, 0)) (pcN := 31) jI_379_30 rfl rfl rfl ?_
  refine jT_adv 1 (pcN := 32) (LN := [(5, (0, 5)), (7, (0, 0)), (6, (0, 1)), (4, (4, 3)), (3, (4, 2)), (2, (4, 1)), (1, (4, 0)), (0, (6, 0))]) (stN := [(0, 5), (0, 5)]) (hsN := jpA_306) (c1 := 0) (s1 := 0) (c2 := 0) (s2 := 0) (by exact rfl) ?_ (by omega) (by omega)
  refine jT_xiconst (k := 5) (pcN := 33) jI_379_32 rfl ?_
  refine jT_xisub (x := 5) (y := 5) (z := 0) (pcN := 34) jI_379_33 rfl (by decide) rfl ?_
  refine jT_xicT (pcN := 3746) jI_379_34 rfl (by decide +kernel) rfl ?_
  refine jT_xiconst (k := 1) (pcN := 3747) jI_379_3746 rfl ?_
  exact jT_ret rfl (by decide) (by show 30 ≤ 30; decide) (by omega) (by omega) ⟨rfl, rfl⟩
