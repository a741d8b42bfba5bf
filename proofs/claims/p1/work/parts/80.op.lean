/-! the law, case by case: 16, 3 -/
theorem jI_116_0 : jmI (jm 116) 0 = (.iload_n 1, 1) := by rfl
theorem jI_116_1 : jmI (jm 116) 1 = (.iload_n 2, 1) := by rfl
theorem jI_116_2 : jmI (jm 116) 2 = (.if_icmp .lt 8, 3) := by rfl
theorem jA_116_1 {xs : List Int} {d : Nat} {x1 : Int} (h_x1 : (-2147483648) ≤ x1 ∧ x1 ≤ (-1)) : jT xs d 116 1 0 [(0, (4, 0)), (1, (0, x1)), (2, (0, 0)), (3, (0, 0))] [] [jgh] 1 6 (fun k v hs' => k = 1 ∧ v = (0, 1) ∧ hs' = [jgh] ++ []) := by
  refine jT_xiload_n (v := (0, x1)) (pc' := 1) jI_116_0 rfl rfl rfl ?_
  refine jT_xiload_n (v := (0, 0)) (pc' := 2) jI_116_1 rfl rfl rfl ?_
  refine jT_icT (a := x1) (b := 0) (t := 10) (by rfl) (by rfl) (by rfl) (jw_idd (by omega) (by omega)) (jw_idd (by omega) (by omega)) (by simp only [jcP] <;> omega) ?_
  exact jT_ret (c1 := 1) (s1 := 6) rfl (by decide) (by show 1 ≤ 1; decide) (by omega) (by omega) ⟨rfl, rfl, rfl⟩
theorem jI_135_0 : jmI (jm 135) 0 = (.aload_n 0, 1) := by rfl
theorem jI_135_1 : jmI (jm 135) 1 = (.iload_n 1, 1) := by rfl
theorem jI_135_2 : jmI (jm 135) 2 = (.iconst 0, 1) := by rfl
theorem jI_135_3 : jmI (jm 135) 3 = (.aload_n 0, 1) := by rfl
theorem jI_135_4 : jmI (jm 135) 4 = (.getfield 67, 3) := by rfl
def jzA_8 : JC := (13, [(4, 1), (4, 2), (4, 3), (4, 4), (4, 5), (4, 6), (4, 7), (4, 8), (4, 9), (4, 10), (0, 0), (4, 11), (0, 0)], [])
theorem jI_135_7 : jmI (jm 135) 7 = (.getfield 247, 3) := by rfl
def jzA_10 : JC := (9, [(4, 12), (4, 13), (4, 14), (4, 15), (4, 16)], [])
def jpA_11 : List JC := [jzA_8, jgh, jgh, jgh, jgh, jgh, jgh, jgh, jgh, jgh, jgh, jzA_10, jgh, jgh, jgh, jgh, (114, [], [])]
theorem jA_135_2 {xs : List Int} {d : Nat} {x1 x2 : Int} (h_x1 : (-2147483648) ≤ x1 ∧ x1 ≤ (-1)) (h_x2 : (-2147483648) ≤ x2 ∧ x2 ≤ 2147483647) : jT xs (d + 1) 135 17 0 [(0, (4, 0)), (1, (0, x1)), (2, (0, x2))] [] jpA_11 1 6 (fun k v hs' => k = 1 ∧ v = (0, 1) ∧ hs' = jpA_11 ++ []) := by
  refine jT_xaload_n (v := (4, 0)) (pc' := 1) jI_135_0 rfl rfl rfl ?_
  refine jT_xiload_n (v := (0, x1)) (pc' := 2) jI_135_1 rfl rfl rfl ?_
  refine jT_xiconst (k := 0) (pc' := 3) jI_135_2 rfl ?_
  refine jT_xaload_n (v := (4, 0)) (pc' := 4) jI_135_3 rfl rfl rfl ?_
  refine jT_xgetf (a := 0) (t := 1) (ci := 13) (fi := 11) (c := jzA_8) (v := (4, 11)) (pc' := 7) jI_135_4 rfl rfl rfl rfl rfl rfl rfl ?_
  refine jT_xgetf (a := 11) (t := 2) (ci := 9) (fi := 4) (c := jzA_10) (v := (4, 16)) (pc' := 10) jI_135_7 rfl rfl rfl rfl rfl rfl rfl ?_
  refine jT_adv 1 (pc' := 11) (L' := [(0, (4, 0)), (1, (0, x1)), (2, (0, x2))]) (st' := [(0, 0), (0, 0), (0, x1), (4, 0)]) (hs' := jpA_11) (c1 := 0) (s1 := 0) (c2 := 1) (s2 := 6) (by exact rfl) ?_ (by omega) (by omega)
  exact jT_fX [0] 17 (y := 116) (pc' := 14) (dC := 0) (bc1 := 1) (bc2 := 6) (as := [(4, 0), (0, x1), (0, 0), (0, 0)]) (asC := [(4, 0), (0, x1), (0, 0), (0, 0)]) (L' := [(0, (4, 0)), (1, (0, x1)), (2, (0, x2))]) (st' := []) (hsC := [jgh]) (e := 1) (jA_116_1 (d := 0) (by omega)) (by rfl) (by rfl) (by decide +kernel) (by rfl) (by rfl) (by omega) (by omega) (by omega) (by omega) ⟨rfl, ⟨rfl, rfl, rfl⟩⟩
theorem jI_342_0 : jmI (jm 342) 0 = (.aload_n 3, 1) := by rfl
theorem jI_342_1 : jmI (jm 342) 1 = (.iconst 0, 1) := by rfl
theorem jI_342_2 : jmI (jm 342) 2 = (.aload_n 0, 1) := by rfl
theorem jI_342_3 : jmI (jm 342) 3 = (.iload_n 1, 1) := by rfl
theorem jI_342_4 : jmI (jm 342) 4 = (.iload_n 2, 1) := by rfl
def jzA_17 : JC := (13, [(4, 2), (4, 3), (4, 4), (4, 5), (4, 6), (4, 7), (4, 8), (4, 9), (4, 10), (4, 11), (0, 0), (4, 12), (0, 0)], [])
def jzA_18 : JC := (9, [(4, 13), (4, 14), (4, 15), (4, 16), (4, 17)], [])
def jpA_19 : List JC := [jzA_17, jgh, jgh, jgh, jgh, jgh, jgh, jgh, jgh, jgh, jgh, jgh, jzA_18, jgh, jgh, jgh, jgh, (114, [], [])]
theorem jA_342_3 {xs : List Int} {d : Nat} {x1 x2 : Int} (h_x1 : (-2147483648) ≤ x1 ∧ x1 ≤ (-1)) (h_x2 : (-2147483648) ≤ x2 ∧ x2 ≤ 2147483647) : jT xs (d + 2) 342 18 0 [(0, (4, 0)), (1, (0, x1)), (2, (0, x2)), (3, (4, 1))] [] jpA_19 1 6 (fun k v hs' => k = 0 ∧ v = (0, 1) ∧ hs' = jpA_19 ++ []) := by
  refine jT_xaload_n (v := (4, 1)) (pc' := 1) jI_342_0 rfl rfl rfl ?_
  refine jT_xiconst (k := 0) (pc' := 2) jI_342_1 rfl ?_
  refine jT_xaload_n (v := (4, 0)) (pc' := 3) jI_342_2 rfl rfl rfl ?_
  refine jT_xiload_n (v := (0, x1)) (pc' := 4) jI_342_3 rfl rfl rfl ?_
  refine jT_xiload_n (v := (0, x2)) (pc' := 5) jI_342_4 rfl rfl rfl ?_
  exact jT_fX [0, 2, 3, 4, 5, 6, 7, 8, 9, 10, 11, 12, 13, 14, 15, 16, 17] 18 (y := 135) (pc' := 8) (dC := 1) (bc1 := 1) (bc2 := 6) (as := [(4, 0), (0, x1), (0, x2)]) (asC := [(4, 0), (0, x1), (0, x2)]) (L' := [(0, (4, 0)), (1, (0, x1)), (2, (0, x2)), (3, (4, 1))]) (st' := [(0, 0), (4, 1)]) (hsC := jpA_11) (e := 1) (jA_135_2 (d := 0) (by omega) (by omega)) (by rfl) (by rfl) (by decide +kernel) (by rfl) (by rfl) (by omega) (by omega) (by omega) (by omega) (show _ from ⟨rfl, rfl, rfl⟩)
def jzA_20 : JC := (14, [(0, 1), (4, 1), (4, 2), (4, 3), (4, 4), (0, 0), (4, 5), (0, 0), (4, 6), (4, 7), (1, 1), (4, 8), (0, 0), (4, 9), (0, 0), (0, 0), (0, 0), (0, 0), (0, 0), (0, 0), (0, 0), (4, 10), (4, 11), (4, 12), (4, 13), (4, 14), (4, 15), (0, 0)], [])
def jpA_21 : List JC := [jzA_20, jgh, jgh, jgh, jgh, jgh, jgh, jgh, jgh, jgh, jgh, jgh, jgh, jgh, jgh, jgh]
def jzA_22 : JC := (14, [(0, 0), (4, 1), (4, 2), (4, 3), (4, 4), (0, 0), (4, 5), (0, 0), (4, 6), (4, 7), (1, 1), (4, 8), (0, 0), (4, 9), (0, 0), (0, 0), (0, 0), (0, 0), (0, 0), (0, 0), (0, 0), (4, 10), (4, 11), (4, 12), (4, 13), (4, 14), (4, 15), (0, 0)], [])
def jpA_23 : List JC := [jzA_22, jgh, jgh, jgh, jgh, jgh, jgh, jgh, jgh, jgh, jgh, jgh, jgh, jgh, jgh, jgh]
theorem jA_191_4 {xs : List Int} {d : Nat} : jT xs d 191 16 0 [(0, (4, 0)), (1, (0, 0)), (2, (0, 1))] [] jpA_23 0 0 (fun k v hs' => k = 0 ∧ v = (0, 1) ∧ hs' = jpA_21) := by
  refine jT_advK 9 (pc' := 18) (L' := [(0, (4, 0)), (1, (0, 0)), (2, (0, 1))]) (st' := [(0, 1)]) (hs' := jpA_21) (c1 := 0) (s1 := 0) (c2 := 0) (s2 := 0) (by decide +kernel) ?_ (by omega) (by omega)
  exact jT_ret rfl (by decide) (by show 16 ≤ 16; decide) (by omega) (by omega) ⟨rfl, rfl, rfl⟩
theorem jI_257_0 : jmI (jm 257) 0 = (.aload_n 0, 1) := by rfl
theorem jI_257_1 : jmI (jm 257) 1 = (.iconst 0, 1) := by rfl
def jpA_26 : List JC := [jzA_22, (100, [], jS0), jgh, jgh, jgh, jgh, jgh, jgh, jgh, jgh, jgh, jgh, jgh, jgh, jgh, jgh]
theorem jI_257_5 : jmI (jm 257) 5 = (.aload_n 0, 1) := by rfl
theorem jI_257_6 : jmI (jm 257) 6 = (.iload_n 1, 1) := by rfl
theorem jI_257_7 : jmI (jm 257) 7 = (.i2l, 1) := by rfl
theorem jI_257_8 : jmI (jm 257) 8 = (.lconst 0, 1) := by rfl
theorem jI_257_9 : jmI (jm 257) 9 = (.aload_n 0, 1) := by rfl
theorem jI_257_10 : jmI (jm 257) 10 = (.getfield 9, 3) := by rfl
theorem jI_257_13 : jmI (jm 257) 13 = (.sipush 1192, 3) := by rfl
theorem jI_257_16 : jmI (jm 257) 16 = (.iaload, 1) := by rfl
theorem jI_257_17 : jmI (jm 257) 17 = (.i2l, 1) := by rfl
theorem jI_257_21 : jmI (jm 257) 21 = (.iconst 1, 1) := by rfl
def jpA_37 : List JC := [jzA_20, (100, [], jS0), jgh, jgh, jgh, jgh, jgh, jgh, jgh, jgh, jgh, jgh, jgh, jgh, jgh, jgh]
theorem jI_257_25 : jmI (jm 257) 25 = (.ifCond .ne 15, 3) := by rfl
theorem jI_257_40 : jmI (jm 257) 40 = (.iconst 0, 1) := by rfl
theorem jA_257_5 {xs : List Int} {d : Nat} {x1 x2 : Int} (h_x1 : (-2147483648) ≤ x1 ∧ x1 ≤ (-1)) (h_x2 : (-2147483648) ≤ x2 ∧ x2 ≤ 2147483647) : jT xs (d + 1) 257 16 0 [(0, (4, 0)), (1, (0, x1)), (2, (0, x2))] [] jpA_26 0 0 (fun k v hs' => k = 0 ∧ v = (0, 0) ∧ hs' = jpA_37) := by
  refine jT_xaload_n (v := (4, 0)) (pc' := 1) jI_257_0 rfl rfl rfl ?_
  refine jT_xiconst (k := 0) (pc' := 2) jI_257_1 rfl ?_
  refine jT_adv 1 (pc' := 5) (L' := [(0, (4, 0)), (1, (0, x1)), (2, (0, x2))]) (st' := []) (hs' := jpA_26) (c1 := 0) (s1 := 0) (c2 := 0) (s2 := 0) (by exact rfl) ?_ (by omega) (by omega)
  refine jT_xaload_n (v := (4, 0)) (pc' := 6) jI_257_5 rfl rfl rfl ?_
  refine jT_xiload_n (v := (0, x1)) (pc' := 7) jI_257_6 rfl rfl rfl ?_
  refine jT_xi2l (x := x1) (z := x1) (pc' := 8) jI_257_7 rfl (jw_idd (by omega) (by omega)) rfl ?_
  refine jT_xlconst (z := 0) (pc' := 9) jI_257_8 rfl rfl ?_
  refine jT_xaload_n (v := (4, 0)) (pc' := 10) jI_257_9 rfl rfl rfl ?_
  refine jT_xgetf (a := 0) (t := 1) (ci := 14) (fi := 1) (c := jzA_22) (v := (4, 1)) (pc' := 13) jI_257_10 rfl rfl rfl rfl rfl rfl rfl ?_
  refine jT_xsipush (k := 1192) (pc' := 16) jI_257_13 (by decide) rfl ?_
  refine jT_iald (x := 0) (a := 1) (j := 1192) (fs := []) (X := jS0) (by rfl) (by rfl) (by rfl) (by rfl) (by decide +kernel) ?_
  refine jT_eq (L' := [(0, (4, 0)), (1, (0, x1)), (2, (0, x2))]) (st' := [(0, 0), (1, 0), (1, x1), (4, 0)]) (hs' := jpA_26) rfl rfl rfl ?_
  refine jT_xi2l (x := 0) (z := 0) (pc' := 18) jI_257_17 rfl (by decide +kernel) rfl ?_
  refine jT_fR [] 16 (y := 189) (pc' := 21) (dC := 0) (bc1 := 0) (bc2 := 0) (c1 := 0) (c2 := 0) (as := [(1, x1), (1, 0), (1, 0)]) (asC := [(1, x1), (1, 0), (1, 0)]) (L' := [(0, (4, 0)), (1, (0, x1)), (2, (0, x2))]) (st' := [(4, 0)]) (hsC := []) (v := (0, 0)) (st2 := [(0, 0), (4, 0)]) (jT_in_lo (d := 0) (v := x1) (lo := 0) (hi := 0) (by omega) (by omega) (by omega) (by omega)) (by rfl) (by rfl) (by decide +kernel) (by rfl) (by rfl) (by omega) (by omega) (by omega) (by omega) rfl ?_
  refine jT_xiconst (k := 1) (pc' := 22) jI_257_21 rfl ?_
  refine jT_fB [0, 1, 2, 3, 4, 5, 6, 7, 8, 9, 10, 11, 12, 13, 14, 15] 16 (y := 191) (pc' := 25) (dC := 0) (bc1 := 0) (bc2 := 0) (c1 := 0) (c2 := 0) (as := [(4, 0), (0, 0), (0, 1)]) (asC := [(4, 0), (0, 0), (0, 1)]) (L' := [(0, (4, 0)), (1, (0, x1)), (2, (0, x2))]) (st' := []) (hsC := jpA_23) (hsD := jpA_21) (v := (0, 1)) (st2 := [(0, 1)]) (hs2 := jpA_37) (jA_191_4 (d := 0)) (by rfl) (by rfl) (by decide +kernel) (by rfl) (by rfl) (by omega) (by omega) (by omega) (by omega) rfl (by decide +kernel) ?_
  refine jT_xifT (pc' := 40) jI_257_25 rfl (by decide +kernel) rfl ?_
  refine jT_xiconst (k := 0) (pc' := 41) jI_257_40 rfl ?_
  exact jT_ret rfl (by decide) (by show 16 ≤ 16; decide) (by omega) (by omega) ⟨rfl, rfl, rfl⟩
theorem jA_186_6 {xs : List Int} {d : Nat} : jT xs d 186 16 0 [(0, (4, 0))] [] jpA_21 0 0 (fun k v hs' => k = 0 ∧ v = (0, 1) ∧ hs' = jpA_21 ++ []) := by
  refine jT_advK 2 (pc' := 4) (L' := [(0, (4, 0))]) (st' := [(0, 1)]) (hs' := jpA_21) (c1 := 0) (s1 := 0) (c2 := 0) (s2 := 0) (by decide +kernel) ?_ (by omega) (by omega)
  exact jT_ret rfl (by decide) (by show 16 ≤ 16; decide) (by omega) (by omega) ⟨rfl, rfl, rfl⟩
theorem jA_116_7 {xs : List Int} {d : Nat} : jT xs d 116 1 0 [(0, (4, 0)), (1, (0, 0)), (2, (0, 0)), (3, (0, 0))] [] [jgh] 0 0 (fun k v hs' => k = 0 ∧ v = (9, 0) ∧ hs' = [jgh] ++ []) := by
  refine jT_advK 6 (pc' := 21) (L' := [(0, (4, 0)), (1, (0, 0)), (2, (0, 0)), (3, (0, 0))]) (st' := []) (hs' := [jgh]) (c1 := 0) (s1 := 0) (c2 := 0) (s2 := 0) (by decide +kernel) ?_ (by omega) (by omega)
  exact jT_ret rfl (by decide) (by show 1 ≤ 1; decide) (by omega) (by omega) ⟨rfl, rfl, rfl⟩
theorem jI_115_0 : jmI (jm 115) 0 = (.iload_n 1, 1) := by rfl
theorem jI_115_1 : jmI (jm 115) 1 = (.ifCond .lt 8, 3) := by rfl
theorem jA_115_8 {xs : List Int} {d : Nat} {x2 : Int} (h_x2 : (-2147483648) ≤ x2 ∧ x2 ≤ (-1)) : jT xs d 115 1 0 [(0, (4, 0)), (1, (0, x2)), (2, (0, 8))] [] [jgh] 1 6 (fun k v hs' => k = 1 ∧ v = (0, 0) ∧ hs' = [jgh] ++ []) := by
  refine jT_xiload_n (v := (0, x2)) (pc' := 1) jI_115_0 rfl rfl rfl ?_
  refine jT_ifT (a := x2) (t := 9) (by rfl) (by rfl) (by rfl) (jw_idd (by omega) (by omega)) (by simp only [jcP] <;> omega) ?_
  exact jT_ret (c1 := 1) (s1 := 6) rfl (by decide) (by show 1 ≤ 1; decide) (by omega) (by omega) ⟨rfl, rfl, rfl⟩
theorem jI_135_14 : jmI (jm 135) 14 = (.aload_n 0, 1) := by rfl
theorem jI_135_15 : jmI (jm 135) 15 = (.iload_n 2, 1) := by rfl
theorem jI_135_16 : jmI (jm 135) 16 = (.bipush 8, 2) := by rfl
theorem jA_135_9 {xs : List Int} {d : Nat} {x2 : Int} (h_x2 : (-2147483648) ≤ x2 ∧ x2 ≤ (-1)) : jT xs (d + 1) 135 17 0 [(0, (4, 0)), (1, (0, 0)), (2, (0, x2))] [] jpA_11 1 6 (fun k v hs' => k = 1 ∧ v = (0, 0) ∧ hs' = jpA_11 ++ []) := by
  refine jT_xaload_n (v := (4, 0)) (pc' := 1) jI_135_0 rfl rfl rfl ?_
  refine jT_xiload_n (v := (0, 0)) (pc' := 2) jI_135_1 rfl rfl rfl ?_
  refine jT_xiconst (k := 0) (pc' := 3) jI_135_2 rfl ?_
  refine jT_xaload_n (v := (4, 0)) (pc' := 4) jI_135_3 rfl rfl rfl ?_
  refine jT_xgetf (a := 0) (t := 1) (ci := 13) (fi := 11) (c := jzA_8) (v := (4, 11)) (pc' := 7) jI_135_4 rfl rfl rfl rfl rfl rfl rfl ?_
  refine jT_xgetf (a := 11) (t := 2) (ci := 9) (fi := 4) (c := jzA_10) (v := (4, 16)) (pc' := 10) jI_135_7 rfl rfl rfl rfl rfl rfl rfl ?_
  refine jT_adv 1 (pc' := 11) (L' := [(0, (4, 0)), (1, (0, 0)), (2, (0, x2))]) (st' := [(0, 0), (0, 0), (0, 0), (4, 0)]) (hs' := jpA_11) (c1 := 0) (s1 := 0) (c2 := 1) (s2 := 6) (by exact rfl) ?_ (by omega) (by omega)
  refine jT_fR [0] 17 (y := 116) (pc' := 14) (dC := 0) (bc1 := 0) (bc2 := 0) (c1 := 1) (c2 := 6) (as := [(4, 0), (0, 0), (0, 0), (0, 0)]) (asC := [(4, 0), (0, 0), (0, 0), (0, 0)]) (L' := [(0, (4, 0)), (1, (0, 0)), (2, (0, x2))]) (st' := []) (hsC := [jgh]) (v := (9, 0)) (st2 := []) (jA_116_7 (d := 0)) (by rfl) (by rfl) (by decide +kernel) (by rfl) (by rfl) (by omega) (by omega) (by omega) (by omega) rfl ?_
  refine jT_xaload_n (v := (4, 0)) (pc' := 15) jI_135_14 rfl rfl rfl ?_
  refine jT_xiload_n (v := (0, x2)) (pc' := 16) jI_135_15 rfl rfl rfl ?_
  refine jT_xbipush (k := 8) (pc' := 18) jI_135_16 (by decide) rfl ?_
  exact jT_fX [0] 17 (y := 115) (pc' := 21) (dC := 0) (bc1 := 1) (bc2 := 6) (as := [(4, 0), (0, x2), (0, 8)]) (asC := [(4, 0), (0, x2), (0, 8)]) (L' := [(0, (4, 0)), (1, (0, 0)), (2, (0, x2))]) (st' := []) (hsC := [jgh]) (e := 0) (jA_115_8 (d := 0) (by omega)) (by rfl) (by rfl) (by decide +kernel) (by rfl) (by rfl) (by omega) (by omega) (by omega) (by omega) ⟨rfl, ⟨rfl, rfl, rfl⟩⟩
theorem jA_342_10 {xs : List Int} {d : Nat} {x2 : Int} (h_x2 : (-2147483648) ≤ x2 ∧ x2 ≤ (-1)) : jT xs (d + 2) 342 18 0 [(0, (4, 0)), (1, (0, 0)), (2, (0, x2)), (3, (4, 1))] [] jpA_19 1 6 (fun k v hs' => k = 0 ∧ v = (0, 2) ∧ hs' = jpA_19 ++ []) := by
  refine jT_xaload_n (v := (4, 1)) (pc' := 1) jI_342_0 rfl rfl rfl ?_
  refine jT_xiconst (k := 0) (pc' := 2) jI_342_1 rfl ?_
  refine jT_xaload_n (v := (4, 0)) (pc' := 3) jI_342_2 rfl rfl rfl ?_
  refine jT_xiload_n (v := (0, 0)) (pc' := 4) jI_342_3 rfl rfl rfl ?_
  refine jT_xiload_n (v := (0, x2)) (pc' := 5) jI_342_4 rfl rfl rfl ?_
  exact jT_fX [0, 2, 3, 4, 5, 6, 7, 8, 9, 10, 11, 12, 13, 14, 15, 16, 17] 18 (y := 135) (pc' := 8) (dC := 1) (bc1 := 1) (bc2 := 6) (as := [(4, 0), (0, 0), (0, x2)]) (asC := [(4, 0), (0, 0), (0, x2)]) (L' := [(0, (4, 0)), (1, (0, 0)), (2, (0, x2)), (3, (4, 1))]) (st' := [(0, 0), (4, 1)]) (hsC := jpA_11) (e := 0) (jA_135_9 (d := 0) (by omega)) (by rfl) (by rfl) (by decide +kernel) (by rfl) (by rfl) (by omega) (by omega) (by omega) (by omega) (show _ from ⟨rfl, rfl, rfl⟩)
theorem jA_189_11 {xs : List Int} {d : Nat} : jT xs d 189 0 0 [(0, (1, 0)), (2, (1, 0)), (4, (1, 0))] [] [] 0 0 (fun k v hs' => k = 0 ∧ v = (0, 1) ∧ hs' = [] ++ []) := by
  refine jT_advK 10 (pc' := 18) (L' := [(0, (1, 0)), (2, (1, 0)), (4, (1, 0))]) (st' := [(0, 1)]) (hs' := []) (c1 := 0) (s1 := 0) (c2 := 0) (s2 := 0) (by decide +kernel) ?_ (by omega) (by omega)
  exact jT_ret rfl (by decide) (by show 0 ≤ 0; decide) (by omega) (by omega) ⟨rfl, rfl, rfl⟩
theorem jA_191_12 {xs : List Int} {d : Nat} : jT xs d 191 1 0 [(0, (4, 0)), (1, (0, 1)), (2, (0, 1))] [] [jgh] 0 0 (fun k v hs' => k = 0 ∧ v = (0, 0) ∧ hs' = [jgh] ++ []) := by
  refine jT_advK 5 (pc' := 18) (L' := [(0, (4, 0)), (1, (0, 1)), (2, (0, 1))]) (st' := [(0, 0)]) (hs' := [jgh]) (c1 := 0) (s1 := 0) (c2 := 0) (s2 := 0) (by decide +kernel) ?_ (by omega) (by omega)
  exact jT_ret rfl (by decide) (by show 1 ≤ 1; decide) (by omega) (by omega) ⟨rfl, rfl, rfl⟩
theorem jI_188_0 : jmI (jm 188) 0 = (.iload_n 0, 1) := by rfl
theorem jI_188_1 : jmI (jm 188) 1 = (.i2l, 1) := by rfl
theorem jI_188_2 : jmI (jm 188) 2 = (.lconst 0, 1) := by rfl
theorem jA_188_13 {xs : List Int} {d : Nat} {x2 : Int} (h_x2 : (-2147483648) ≤ x2 ∧ x2 ≤ (-1)) : jT xs (d + 1) 188 0 0 [(0, (0, x2))] [] [] 0 0 (fun k v hs' => k = 0 ∧ v = (0, 0) ∧ hs' = [] ++ []) := by
  refine jT_xiload_n (v := (0, x2)) (pc' := 1) jI_188_0 rfl rfl rfl ?_
  refine jT_xi2l (x := x2) (z := x2) (pc' := 2) jI_188_1 rfl (jw_idd (by omega) (by omega)) rfl ?_
  refine jT_xlconst (z := 0) (pc' := 3) jI_188_2 rfl rfl ?_
  refine jT_adv 1 (pc' := 6) (L' := [(0, (0, x2))]) (st' := [(1, 7), (1, 0), (1, x2)]) (hs' := []) (c1 := 0) (s1 := 0) (c2 := 0) (s2 := 0) (by exact rfl) ?_ (by omega) (by omega)
  refine jT_fR [] 0 (y := 189) (pc' := 9) (dC := 0) (bc1 := 0) (bc2 := 0) (c1 := 0) (c2 := 0) (as := [(1, x2), (1, 0), (1, 7)]) (asC := [(1, x2), (1, 0), (1, 7)]) (L' := [(0, (0, x2))]) (st' := []) (hsC := []) (v := (0, 0)) (st2 := [(0, 0)]) (jT_in_lo (d := 0) (v := x2) (lo := 0) (hi := 7) (by omega) (by omega) (by omega) (by omega)) (by rfl) (by rfl) (by decide +kernel) (by rfl) (by rfl) (by omega) (by omega) (by omega) (by omega) rfl ?_
  exact jT_ret rfl (by decide) (by show 0 ≤ 0; decide) (by omega) (by omega) ⟨rfl, rfl, rfl⟩
def jzA_48 : JC := (14, [(0, 2), (4, 1), (4, 2), (4, 3), (4, 4), (0, 0), (4, 5), (0, 0), (4, 6), (4, 7), (1, 1), (4, 8), (0, 0), (4, 9), (0, 0), (0, 0), (0, 0), (0, 0), (0, 0), (0, 0), (0, 0), (4, 10), (4, 11), (4, 12), (4, 13), (4, 14), (4, 15), (0, 0)], [])
def jpA_49 : List JC := [jzA_48, jgh, jgh, jgh, jgh, jgh, jgh, jgh, jgh, jgh, jgh, jgh, jgh, jgh, jgh, jgh]
theorem jA_191_14 {xs : List Int} {d : Nat} : jT xs d 191 16 0 [(0, (4, 0)), (1, (0, 0)), (2, (0, 2))] [] jpA_23 0 0 (fun k v hs' => k = 0 ∧ v = (0, 1) ∧ hs' = jpA_49) := by
  refine jT_advK 9 (pc' := 18) (L' := [(0, (4, 0)), (1, (0, 0)), (2, (0, 2))]) (st' := [(0, 1)]) (hs' := jpA_49) (c1 := 0) (s1 := 0) (c2 := 0) (s2 := 0) (by decide +kernel) ?_ (by omega) (by omega)
  exact jT_ret rfl (by decide) (by show 16 ≤ 16; decide) (by omega) (by omega) ⟨rfl, rfl, rfl⟩
theorem jI_257_28 : jmI (jm 257) 28 = (.aload_n 0, 1) := by rfl
theorem jI_257_29 : jmI (jm 257) 29 = (.iload_n 2, 1) := by rfl
theorem jI_257_33 : jmI (jm 257) 33 = (.iconst 2, 1) := by rfl
def jpA_53 : List JC := [jzA_48, (100, [], jS0), jgh, jgh, jgh, jgh, jgh, jgh, jgh, jgh, jgh, jgh, jgh, jgh, jgh, jgh]
theorem jI_257_37 : jmI (jm 257) 37 = (.ifCond .eq 5, 3) := by rfl
theorem jA_257_15 {xs : List Int} {d : Nat} {x2 : Int} (h_x2 : (-2147483648) ≤ x2 ∧ x2 ≤ (-1)) : jT xs (d + 2) 257 16 0 [(0, (4, 0)), (1, (0, 0)), (2, (0, x2))] [] jpA_26 0 0 (fun k v hs' => k = 0 ∧ v = (0, 0) ∧ hs' = jpA_53) := by
  refine jT_xaload_n (v := (4, 0)) (pc' := 1) jI_257_0 rfl rfl rfl ?_
  refine jT_xiconst (k := 0) (pc' := 2) jI_257_1 rfl ?_
  refine jT_adv 1 (pc' := 5) (L' := [(0, (4, 0)), (1, (0, 0)), (2, (0, x2))]) (st' := []) (hs' := jpA_26) (c1 := 0) (s1 := 0) (c2 := 0) (s2 := 0) (by exact rfl) ?_ (by omega) (by omega)
  refine jT_xaload_n (v := (4, 0)) (pc' := 6) jI_257_5 rfl rfl rfl ?_
  refine jT_xiload_n (v := (0, 0)) (pc' := 7) jI_257_6 rfl rfl rfl ?_
  refine jT_xi2l (x := 0) (z := 0) (pc' := 8) jI_257_7 rfl (by decide +kernel) rfl ?_
  refine jT_xlconst (z := 0) (pc' := 9) jI_257_8 rfl rfl ?_
  refine jT_xaload_n (v := (4, 0)) (pc' := 10) jI_257_9 rfl rfl rfl ?_
  refine jT_xgetf (a := 0) (t := 1) (ci := 14) (fi := 1) (c := jzA_22) (v := (4, 1)) (pc' := 13) jI_257_10 rfl rfl rfl rfl rfl rfl rfl ?_
  refine jT_xsipush (k := 1192) (pc' := 16) jI_257_13 (by decide) rfl ?_
  refine jT_iald (x := 0) (a := 1) (j := 1192) (fs := []) (X := jS0) (by rfl) (by rfl) (by rfl) (by rfl) (by decide +kernel) ?_
  refine jT_eq (L' := [(0, (4, 0)), (1, (0, 0)), (2, (0, x2))]) (st' := [(0, 0), (1, 0), (1, 0), (4, 0)]) (hs' := jpA_26) rfl rfl rfl ?_
  refine jT_xi2l (x := 0) (z := 0) (pc' := 18) jI_257_17 rfl (by decide +kernel) rfl ?_
  refine jT_fR [] 16 (y := 189) (pc' := 21) (dC := 0) (bc1 := 0) (bc2 := 0) (c1 := 0) (c2 := 0) (as := [(1, 0), (1, 0), (1, 0)]) (asC := [(1, 0), (1, 0), (1, 0)]) (L' := [(0, (4, 0)), (1, (0, 0)), (2, (0, x2))]) (st' := [(4, 0)]) (hsC := []) (v := (0, 1)) (st2 := [(0, 1), (4, 0)]) (jA_189_11 (d := 0)) (by rfl) (by rfl) (by decide +kernel) (by rfl) (by rfl) (by omega) (by omega) (by omega) (by omega) rfl ?_
  refine jT_xiconst (k := 1) (pc' := 22) jI_257_21 rfl ?_
  refine jT_fR [0] 16 (y := 191) (pc' := 25) (dC := 0) (bc1 := 0) (bc2 := 0) (c1 := 0) (c2 := 0) (as := [(4, 0), (0, 1), (0, 1)]) (asC := [(4, 0), (0, 1), (0, 1)]) (L' := [(0, (4, 0)), (1, (0, 0)), (2, (0, x2))]) (st' := []) (hsC := [jgh]) (v := (0, 0)) (st2 := [(0, 0)]) (jA_191_12 (d := 0)) (by rfl) (by rfl) (by decide +kernel) (by rfl) (by rfl) (by omega) (by omega) (by omega) (by omega) rfl ?_
  refine jT_xifF (t := 40) (pc' := 28) jI_257_25 rfl (by decide +kernel) rfl rfl ?_
  refine jT_xaload_n (v := (4, 0)) (pc' := 29) jI_257_28 rfl rfl rfl ?_
  refine jT_xiload_n (v := (0, x2)) (pc' := 30) jI_257_29 rfl rfl rfl ?_
  refine jT_fR [] 16 (y := 188) (pc' := 33) (dC := 1) (bc1 := 0) (bc2 := 0) (c1 := 0) (c2 := 0) (as := [(0, x2)]) (asC := [(0, x2)]) (L' := [(0, (4, 0)), (1, (0, 0)), (2, (0, x2))]) (st' := [(4, 0)]) (hsC := []) (v := (0, 0)) (st2 := [(0, 0), (4, 0)]) (jA_188_13 (d := 0) (by omega)) (by rfl) (by rfl) (by decide +kernel) (by rfl) (by rfl) (by omega) (by omega) (by omega) (by omega) rfl ?_
  refine jT_xiconst (k := 2) (pc' := 34) jI_257_33 rfl ?_
  refine jT_fB [0, 1, 2, 3, 4, 5, 6, 7, 8, 9, 10, 11, 12, 13, 14, 15] 16 (y := 191) (pc' := 37) (dC := 0) (bc1 := 0) (bc2 := 0) (c1 := 0) (c2 := 0) (as := [(4, 0), (0, 0), (0, 2)]) (asC := [(4, 0), (0, 0), (0, 2)]) (L' := [(0, (4, 0)), (1, (0, 0)), (2, (0, x2))]) (st' := []) (hsC := jpA_23) (hsD := jpA_49) (v := (0, 1)) (st2 := [(0, 1)]) (hs2 := jpA_53) (jA_191_14 (d := 0)) (by rfl) (by rfl) (by decide +kernel) (by rfl) (by rfl) (by omega) (by omega) (by omega) (by omega) rfl (by decide +kernel) ?_
  refine jT_xifF (t := 42) (pc' := 40) jI_257_37 rfl (by decide +kernel) rfl rfl ?_
  refine jT_xiconst (k := 0) (pc' := 41) jI_257_40 rfl ?_
  exact jT_ret rfl (by decide) (by show 16 ≤ 16; decide) (by omega) (by omega) ⟨rfl, rfl, rfl⟩
theorem jA_186_16 {xs : List Int} {d : Nat} : jT xs d 186 16 0 [(0, (4, 0))] [] jpA_49 0 0 (fun k v hs' => k = 0 ∧ v = (0, 2) ∧ hs' = jpA_49 ++ []) := by
  refine jT_advK 2 (pc' := 4) (L' := [(0, (4, 0))]) (st' := [(0, 2)]) (hs' := jpA_49) (c1 := 0) (s1 := 0) (c2 := 0) (s2 := 0) (by decide +kernel) ?_ (by omega) (by omega)
  exact jT_ret rfl (by decide) (by show 16 ≤ 16; decide) (by omega) (by omega) ⟨rfl, rfl, rfl⟩
theorem jI_115_4 : jmI (jm 115) 4 = (.iload_n 1, 1) := by rfl
theorem jI_115_5 : jmI (jm 115) 5 = (.iload_n 2, 1) := by rfl
theorem jI_115_6 : jmI (jm 115) 6 = (.if_icmp .lt 14, 3) := by rfl
theorem jA_115_17 {xs : List Int} {d : Nat} {x2 : Int} (h_x2 : 0 ≤ x2 ∧ x2 ≤ 7) : jT xs d 115 1 0 [(0, (4, 0)), (1, (0, x2)), (2, (0, 8))] [] [jgh] 0 0 (fun k v hs' => k = 0 ∧ v = (9, 0) ∧ hs' = [jgh] ++ []) := by
  refine jT_xiload_n (v := (0, x2)) (pc' := 1) jI_115_0 rfl rfl rfl ?_
  refine jT_ifF (a := x2) (t := 9) (by rfl) (by rfl) (by rfl) (jw_idd (by omega) (by omega)) (by simp only [jcP] <;> omega) ?_
  refine jT_xiload_n (v := (0, x2)) (pc' := 5) jI_115_4 rfl rfl rfl ?_
  refine jT_xiload_n (v := (0, 8)) (pc' := 6) jI_115_5 rfl rfl rfl ?_
  refine jT_icT (a := x2) (b := 8) (t := 20) (by rfl) (by rfl) (by rfl) (jw_idd (by omega) (by omega)) (jw_idd (by omega) (by omega)) (by simp only [jcP] <;> omega) ?_
  exact jT_ret rfl (by decide) (by show 1 ≤ 1; decide) (by omega) (by omega) ⟨rfl, rfl, rfl⟩
theorem jA_97_18 {xs : List Int} {d : Nat} : jT xs d 97 1 0 [(0, (4, 0)), (1, (1, 1))] [] [(101, [], [0, 0, 0, 0, 0, 0])] 0 0 (fun k v hs' => k = 0 ∧ v = (1, 1) ∧ hs' = [(101, [], [0, 0, 0, 0, 0, 0])] ++ []) := by
  refine jT_advK 25 (pc' := 60) (L' := [(5, (0, 0)), (3, (1, 1)), (0, (4, 0)), (1, (1, 1))]) (st' := [(1, 1)]) (hs' := [(101, [], [0, 0, 0, 0, 0, 0])]) (c1 := 0) (s1 := 0) (c2 := 0) (s2 := 0) (by decide +kernel) ?_ (by omega) (by omega)
  exact jT_ret rfl (by decide) (by show 1 ≤ 1; decide) (by omega) (by omega) ⟨rfl, rfl, rfl⟩
theorem jA_9_19 {xs : List Int} {d : Nat} : jT xs (d + 1) 9 2 0 [(0, (4, 0)), (1, (4, 1)), (2, (1, 1))] [] [(4, [(4, (-1)), (1, 0)], []), (101, [], [0, 0, 0, 0, 0, 0])] 0 0 (fun k v hs' => k = 0 ∧ v = (9, 0) ∧ hs' = [(4, [(4, 1), (1, 1)], []), (101, [], [0, 0, 0, 0, 0, 0])]) := by
  refine jT_advK 8 (pc' := 12) (L' := [(0, (4, 0)), (1, (4, 1)), (2, (1, 1))]) (st' := [(1, 1), (4, 1), (4, 0)]) (hs' := [(4, [(4, 1), (1, 0)], []), (101, [], [0, 0, 0, 0, 0, 0])]) (c1 := 0) (s1 := 0) (c2 := 0) (s2 := 0) (by decide +kernel) ?_ (by omega) (by omega)
  refine jT_fR [1] 2 (y := 97) (pc' := 15) (dC := 0) (bc1 := 0) (bc2 := 0) (c1 := 0) (c2 := 0) (as := [(4, 1), (1, 1)]) (asC := [(4, 0), (1, 1)]) (L' := [(0, (4, 0)), (1, (4, 1)), (2, (1, 1))]) (st' := [(4, 0)]) (hsC := [(101, [], [0, 0, 0, 0, 0, 0])]) (v := (1, 1)) (st2 := [(1, 1), (4, 0)]) (jA_97_18 (d := 0)) (by rfl) (by rfl) (by decide +kernel) (by rfl) (by rfl) (by omega) (by omega) (by omega) (by omega) rfl ?_
  refine jT_advK 1 (pc' := 18) (L' := [(0, (4, 0)), (1, (4, 1)), (2, (1, 1))]) (st' := []) (hs' := [(4, [(4, 1), (1, 1)], []), (101, [], [0, 0, 0, 0, 0, 0])]) (c1 := 0) (s1 := 0) (c2 := 0) (s2 := 0) (by decide +kernel) ?_ (by omega) (by omega)
  exact jT_ret rfl (by decide) (by show 2 ≤ 2; decide) (by omega) (by omega) ⟨rfl, rfl, rfl⟩
theorem jA_8_20 {xs : List Int} {d : Nat} : jT xs (d + 2) 8 0 0 [(0, (1, 0)), (2, (1, 1))] [] [] 2 8 (fun k v hs' => k = 0 ∧ v = (4, 1) ∧ hs' = [] ++ [(101, [], [0, 0, 0, 0, 0, 0]), (4, [(4, 0), (1, 1)], [])]) := by
  refine jT_advK 11 (pc' := 18) (L' := [(4, (4, 0)), (0, (1, 0)), (2, (1, 1))]) (st' := [(1, 1), (4, 0), (4, 1), (4, 1)]) (hs' := [(101, [], [0, 0, 0, 0, 0, 0]), (4, [(4, (-1)), (1, 0)], [])]) (c1 := 2) (s1 := 8) (c2 := 0) (s2 := 0) (by decide +kernel) ?_ (by omega) (by omega)
  refine jT_fB [1, 0] 2 (y := 9) (pc' := 21) (dC := 1) (bc1 := 0) (bc2 := 0) (c1 := 0) (c2 := 0) (as := [(4, 1), (4, 0), (1, 1)]) (asC := [(4, 0), (4, 1), (1, 1)]) (L' := [(4, (4, 0)), (0, (1, 0)), (2, (1, 1))]) (st' := [(4, 1)]) (hsC := [(4, [(4, (-1)), (1, 0)], []), (101, [], [0, 0, 0, 0, 0, 0])]) (hsD := [(4, [(4, 1), (1, 1)], []), (101, [], [0, 0, 0, 0, 0, 0])]) (v := (9, 0)) (st2 := [(4, 1)]) (hs2 := [(101, [], [0, 0, 0, 0, 0, 0]), (4, [(4, 0), (1, 1)], [])]) (jA_9_19 (d := 0)) (by rfl) (by rfl) (by decide +kernel) (by rfl) (by rfl) (by omega) (by omega) (by omega) (by omega) rfl (by decide +kernel) ?_
  exact jT_ret rfl (by decide) (by show 0 ≤ 2; decide) (by omega) (by omega) ⟨rfl, rfl, rfl⟩
theorem jA_62_21 {xs : List Int} {d : Nat} : jT xs (d + 3) 62 1 0 [(0, (4, 0)), (1, (0, 0))] [] [jgh] 2 8 (fun k v hs' => k = 0 ∧ v = (4, 2) ∧ hs' = [jgh] ++ [(101, [], [0, 0, 0, 0, 0, 0]), (4, [(4, 1), (1, 1)], [])]) := by
  refine jT_advK 4 (pc' := 26) (L' := [(0, (4, 0)), (1, (0, 0))]) (st' := [(1, 1), (1, 0)]) (hs' := [jgh]) (c1 := 0) (s1 := 0) (c2 := 2) (s2 := 8) (by decide +kernel) ?_ (by omega) (by omega)
  refine jT_fA [] 1 (y := 8) (pc' := 29) (dC := 2) (bc1 := 2) (bc2 := 8) (c1 := 0) (c2 := 0) (as := [(1, 0), (1, 1)]) (asC := [(1, 0), (1, 1)]) (L' := [(0, (4, 0)), (1, (0, 0))]) (st' := []) (hsC := []) (ex := [(101, [], [0, 0, 0, 0, 0, 0]), (4, [(4, 0), (1, 1)], [])]) (v := (4, 1)) (st2 := [(4, 2)]) (hs2 := [jgh, (101, [], [0, 0, 0, 0, 0, 0]), (4, [(4, 1), (1, 1)], [])]) (jA_8_20 (d := 0)) (by rfl) (by rfl) (by decide +kernel) (by rfl) (by rfl) (by omega) (by omega) (by omega) (by omega) rfl (by decide +kernel) ?_
  exact jT_ret rfl (by decide) (by show 1 ≤ 3; decide) (by omega) (by omega) ⟨rfl, rfl, rfl⟩
def jzA_58 : JC := (9, [(4, 1), (4, 2), (4, 3), (4, 4), (4, 5)], [])
def jpA_59 : List JC := [jzA_58, jgh, jgh, jgh, jgh, jgh]
def jzA_60 : JC := (9, [(4, (-1)), (4, (-1)), (4, (-1)), (4, (-1)), (4, (-1))], [])
def jpA_61 : List JC := [jzA_60, jgh, jgh, jgh, jgh, jgh]
theorem jA_53_22 {xs : List Int} {d : Nat} : jT xs d 53 6 0 [(0, (4, 0)), (1, (4, 1)), (2, (4, 2)), (3, (4, 3)), (4, (4, 4)), (5, (4, 5))] [] jpA_61 0 0 (fun k v hs' => k = 0 ∧ v = (9, 0) ∧ hs' = jpA_59) := by
  refine jT_advK 17 (pc' := 31) (L' := [(0, (4, 0)), (1, (4, 1)), (2, (4, 2)), (3, (4, 3)), (4, (4, 4)), (5, (4, 5))]) (st' := []) (hs' := jpA_59) (c1 := 0) (s1 := 0) (c2 := 0) (s2 := 0) (by decide +kernel) ?_ (by omega) (by omega)
  exact jT_ret rfl (by decide) (by show 6 ≤ 6; decide) (by omega) (by omega) ⟨rfl, rfl, rfl⟩
theorem jI_58_0 : jmI (jm 58) 0 = (.aload_n 0, 1) := by rfl
theorem jI_58_1 : jmI (jm 58) 1 = (.getfield 9, 3) := by rfl
def jzA_64 : JC := (9, [(4, 2), (4, 3), (4, 4), (4, 5), (4, 6)], [])
def jpA_65 : List JC := [jzA_64, (4, [(4, 7), (1, 1)], []), (114, [], [8, 8, 8, 8, 8, 8, 8, 8]), jgh, jgh, jgh, jgh, jgh, jgh, (114, [], [8, 8, 8, 8, 8, 8, 8, 8])]
theorem jI_58_10 : jmI (jm 58) 10 = (.astore_n 3, 1) := by rfl
theorem jI_58_11 : jmI (jm 58) 11 = (.aload_n 3, 1) := by rfl
theorem jI_58_12 : jmI (jm 58) 12 = (.iload_n 1, 1) := by rfl
theorem jI_58_13 : jmI (jm 58) 13 = (.aload_n 2, 1) := by rfl
def jpA_70 : List JC := [jzA_64, (4, [(4, 7), (1, 1)], []), (114, [], [8, 8, 8, 8, 8, 8, 8, 8]), jgh, jgh, jgh, jgh, jgh, jgh, jgh]
def jpA_71 : List JC := [jzA_64, (4, [(4, 7), (1, 1)], []), (114, [], [8, 8, 8, 8, 8, 8, 8, 8]), jgh, jgh, jgh, jgh, jgh, jgh, jgh, jzA_60]
theorem jI_58_19 : jmI (jm 58) 19 = (.aload_n 3, 1) := by rfl
theorem jI_58_20 : jmI (jm 58) 20 = (.aload_n 0, 1) := by rfl
theorem jI_58_21 : jmI (jm 58) 21 = (.getfield 15, 3) := by rfl
theorem jI_58_24 : jmI (jm 58) 24 = (.aload_n 0, 1) := by rfl
theorem jI_58_25 : jmI (jm 58) 25 = (.getfield 19, 3) := by rfl
theorem jI_58_28 : jmI (jm 58) 28 = (.aload_n 0, 1) := by rfl
theorem jI_58_29 : jmI (jm 58) 29 = (.getfield 23, 3) := by rfl
theorem jI_58_32 : jmI (jm 58) 32 = (.aload_n 0, 1) := by rfl
theorem jI_58_33 : jmI (jm 58) 33 = (.getfield 27, 3) := by rfl
def jzA_81 : JC := (9, [(4, 9), (4, 3), (4, 4), (4, 5), (4, 6)], [])
def jpA_82 : List JC := [jzA_64, (4, [(4, 7), (1, 1)], []), (114, [], [8, 8, 8, 8, 8, 8, 8, 8]), jgh, jgh, jgh, jgh, jgh, jgh, jgh, jzA_81]
def jpA_83 : List JC := [jzA_64, (4, [(4, 7), (1, 1)], []), (114, [], [8, 8, 8, 8, 8, 8, 8, 8]), jgh, jgh, jgh, jgh, jgh, jgh]
theorem jA_58_23 {xs : List Int} {d : Nat} {x2 : Int} (h_x2 : 0 ≤ x2 ∧ x2 ≤ 7) : jT xs (d + 1) 58 9 0 [(0, (4, 0)), (1, (0, x2)), (2, (4, 1))] [] jpA_83 2 13 (fun k v hs' => k = 0 ∧ v = (4, 10) ∧ hs' = jpA_83 ++ [jgh, jzA_81]) := by
  refine jT_xaload_n (v := (4, 0)) (pc' := 1) jI_58_0 rfl rfl rfl ?_
  refine jT_xgetf (a := 0) (t := 1) (ci := 9) (fi := 0) (c := jzA_64) (v := (4, 2)) (pc' := 4) jI_58_1 rfl rfl rfl rfl rfl rfl rfl ?_
  refine jT_adv 2 (pc' := 10) (L' := [(0, (4, 0)), (1, (0, x2)), (2, (4, 1))]) (st' := [(4, 9)]) (hs' := jpA_65) (c1 := 1) (s1 := 8) (c2 := 1) (s2 := 5) (by exact rfl) ?_ (by omega) (by omega)
  refine jT_xastore_n (v := (4, 9)) (L' := [(3, (4, 9)), (0, (4, 0)), (1, (0, x2)), (2, (4, 1))]) (pc' := 11) jI_58_10 rfl rfl rfl rfl ?_
  refine jT_xaload_n (v := (4, 9)) (pc' := 12) jI_58_11 rfl rfl rfl ?_
  refine jT_xiload_n (v := (0, x2)) (pc' := 13) jI_58_12 rfl rfl rfl ?_
  refine jT_xaload_n (v := (4, 1)) (pc' := 14) jI_58_13 rfl rfl rfl ?_
  refine jT_aastG (kd := 114) (a := 9) (b := 1) (j := (x2).toNat) (fs := []) (X := [8, 8, 8, 8, 8, 8, 8, 8]) (e := (4, [(4, 7), (1, 1)], [])) (by rfl) (by rfl) (by rfl) (jw_nn (by omega) (by omega)) (by show (x2).toNat < 8; omega) (by rfl) (by rfl) (by rfl) ?_
  refine jT_eq (L' := [(3, (4, 9)), (0, (4, 0)), (1, (0, x2)), (2, (4, 1))]) (st' := []) (hs' := jpA_70) rfl rfl rfl ?_
  refine jT_adv 2 (pc' := 19) (L' := [(3, (4, 9)), (0, (4, 0)), (1, (0, x2)), (2, (4, 1))]) (st' := [(4, 10), (4, 10)]) (hs' := jpA_71) (c1 := 1) (s1 := 5) (c2 := 0) (s2 := 0) (by exact rfl) ?_ (by omega) (by omega)
  refine jT_xaload_n (v := (4, 9)) (pc' := 20) jI_58_19 rfl rfl rfl ?_
  refine jT_xaload_n (v := (4, 0)) (pc' := 21) jI_58_20 rfl rfl rfl ?_
  refine jT_xgetf (a := 0) (t := 1) (ci := 9) (fi := 1) (c := jzA_64) (v := (4, 3)) (pc' := 24) jI_58_21 rfl rfl rfl rfl rfl rfl rfl ?_
  refine jT_xaload_n (v := (4, 0)) (pc' := 25) jI_58_24 rfl rfl rfl ?_
  refine jT_xgetf (a := 0) (t := 1) (ci := 9) (fi := 2) (c := jzA_64) (v := (4, 4)) (pc' := 28) jI_58_25 rfl rfl rfl rfl rfl rfl rfl ?_
  refine jT_xaload_n (v := (4, 0)) (pc' := 29) jI_58_28 rfl rfl rfl ?_
  refine jT_xgetf (a := 0) (t := 1) (ci := 9) (fi := 3) (c := jzA_64) (v := (4, 5)) (pc' := 32) jI_58_29 rfl rfl rfl rfl rfl rfl rfl ?_
  refine jT_xaload_n (v := (4, 0)) (pc' := 33) jI_58_32 rfl rfl rfl ?_
  refine jT_xgetf (a := 0) (t := 1) (ci := 9) (fi := 4) (c := jzA_64) (v := (4, 6)) (pc' := 36) jI_58_33 rfl rfl rfl rfl rfl rfl rfl ?_
  refine jT_fB [10, 9, 3, 4, 5, 6] 11 (y := 53) (pc' := 39) (dC := 0) (bc1 := 0) (bc2 := 0) (c1 := 0) (c2 := 0) (as := [(4, 10), (4, 9), (4, 3), (4, 4), (4, 5), (4, 6)]) (asC := [(4, 0), (4, 1), (4, 2), (4, 3), (4, 4), (4, 5)]) (L' := [(3, (4, 9)), (0, (4, 0)), (1, (0, x2)), (2, (4, 1))]) (st' := [(4, 10)]) (hsC := jpA_61) (hsD := jpA_59) (v := (9, 0)) (st2 := [(4, 10)]) (hs2 := jpA_82) (jA_53_22 (d := 0)) (by rfl) (by rfl) (by decide +kernel) (by rfl) (by rfl) (by omega) (by omega) (by omega) (by omega) rfl (by decide +kernel) ?_
  exact jT_ret rfl (by decide) (by show 9 ≤ 11; decide) (by omega) (by omega) ⟨rfl, rfl, rfl⟩
def jzA_84 : JC := (13, [(4, 2), (4, 3), (4, 4), (4, 5), (4, 6), (4, 7), (4, 8), (4, 9), (4, 10), (4, 11), (0, 1), (4, 1), (0, 0)], [])
def jzA_85 : JC := (119, [], [12, (-1), (-1), (-1), (-1), (-1), (-1), (-1)])
def jpA_86 : List JC := [jzA_84, jgh, jgh, jgh, jgh, jgh, jgh, jgh, jgh, jgh, jgh, jzA_85, jzA_18, jgh, jgh, jgh, jgh, jgh]
def jzA_87 : JC := (119, [], [(-1), (-1), (-1), (-1), (-1), (-1), (-1), (-1)])
def jpA_88 : List JC := [jzA_17, jgh, jgh, jgh, jgh, jgh, jgh, jgh, jgh, jgh, jgh, jzA_87, jzA_18, jgh, jgh, jgh, jgh, jgh]
theorem jA_100_24 {xs : List Int} {d : Nat} : jT xs d 100 18 0 [(0, (4, 0)), (1, (4, 1))] [] jpA_88 0 0 (fun k v hs' => k = 0 ∧ v = (9, 0) ∧ hs' = jpA_86) := by
  refine jT_advK 22 (pc' := 82) (L' := [(0, (4, 0)), (1, (4, 1))]) (st' := []) (hs' := jpA_86) (c1 := 0) (s1 := 0) (c2 := 0) (s2 := 0) (by decide +kernel) ?_ (by omega) (by omega)
  exact jT_ret rfl (by decide) (by show 18 ≤ 18; decide) (by omega) (by omega) ⟨rfl, rfl, rfl⟩
theorem jA_39_25 {xs : List Int} {d : Nat} : jT xs d 39 2 0 [(0, (4, 0)), (1, (4, 1))] [] [jgh, (101, [], [0, 0, 0, 0, 0, 0])] 0 0 (fun k v hs' => k = 0 ∧ v = (1, 0) ∧ hs' = [jgh, (101, [], [0, 0, 0, 0, 0, 0])] ++ []) := by
  refine jT_advK 68 (pc' := 29) (L' := [(4, (0, 6)), (2, (1, 0)), (0, (4, 0)), (1, (4, 1))]) (st' := [(1, 0)]) (hs' := [jgh, (101, [], [0, 0, 0, 0, 0, 0])]) (c1 := 0) (s1 := 0) (c2 := 0) (s2 := 0) (by decide +kernel) ?_ (by omega) (by omega)
  exact jT_ret rfl (by decide) (by show 2 ≤ 2; decide) (by omega) (by omega) ⟨rfl, rfl, rfl⟩
theorem jA_373_26 {xs : List Int} {d : Nat} : jT xs d 373 0 0 [(0, (1, 0)), (2, (1, 1))] [] [] 0 0 (fun k v hs' => k = 0 ∧ v = (1, 0) ∧ hs' = [] ++ []) := by
  refine jT_advK 11 (pc' := 29) (L' := [(4, (1, 0)), (0, (1, 0)), (2, (1, 1))]) (st' := [(1, 0)]) (hs' := []) (c1 := 0) (s1 := 0) (c2 := 0) (s2 := 0) (by decide +kernel) ?_ (by omega) (by omega)
  exact jT_ret rfl (by decide) (by show 0 ≤ 0; decide) (by omega) (by omega) ⟨rfl, rfl, rfl⟩
def jpA_89 : List JC := [(8, [(4, 2), (4, 3)], []), (101, [], [0, 0, 0, 0, 0, 0]), jgh, jgh]
theorem jA_45_27 {xs : List Int} {d : Nat} : jT xs (d + 1) 45 4 0 [(0, (4, 0)), (1, (4, 1)), (2, (1, 1)), (4, (1, 2))] [] jpA_89 0 0 (fun k v hs' => k = 0 ∧ v = (1, 0) ∧ hs' = jpA_89 ++ []) := by
  refine jT_advK 10 (pc' := 17) (L' := [(0, (4, 0)), (1, (4, 1)), (2, (1, 1)), (4, (1, 2))]) (st' := [(4, 1), (4, 0)]) (hs' := jpA_89) (c1 := 0) (s1 := 0) (c2 := 0) (s2 := 0) (by decide +kernel) ?_ (by omega) (by omega)
  refine jT_fR [0, 1] 4 (y := 39) (pc' := 20) (dC := 0) (bc1 := 0) (bc2 := 0) (c1 := 0) (c2 := 0) (as := [(4, 0), (4, 1)]) (asC := [(4, 0), (4, 1)]) (L' := [(0, (4, 0)), (1, (4, 1)), (2, (1, 1)), (4, (1, 2))]) (st' := []) (hsC := [jgh, (101, [], [0, 0, 0, 0, 0, 0])]) (v := (1, 0)) (st2 := [(1, 0)]) (jA_39_25 (d := 0)) (by rfl) (by rfl) (by decide +kernel) (by rfl) (by rfl) (by omega) (by omega) (by omega) (by omega) rfl ?_
  refine jT_advK 11 (pc' := 36) (L' := [(6, (1, 0)), (0, (4, 0)), (1, (4, 1)), (2, (1, 1)), (4, (1, 2))]) (st' := [(1, 1), (1, 0)]) (hs' := jpA_89) (c1 := 0) (s1 := 0) (c2 := 0) (s2 := 0) (by decide +kernel) ?_ (by omega) (by omega)
  refine jT_fR [] 4 (y := 373) (pc' := 39) (dC := 0) (bc1 := 0) (bc2 := 0) (c1 := 0) (c2 := 0) (as := [(1, 0), (1, 1)]) (asC := [(1, 0), (1, 1)]) (L' := [(6, (1, 0)), (0, (4, 0)), (1, (4, 1)), (2, (1, 1)), (4, (1, 2))]) (st' := []) (hsC := []) (v := (1, 0)) (st2 := [(1, 0)]) (jA_373_26 (d := 0)) (by rfl) (by rfl) (by decide +kernel) (by rfl) (by rfl) (by omega) (by omega) (by omega) (by omega) rfl ?_
  exact jT_ret rfl (by decide) (by show 4 ≤ 4; decide) (by omega) (by omega) ⟨rfl, rfl, rfl⟩
def jpA_90 : List JC := [(8, [(4, 2), (4, 3)], []), (4, [(4, 4), (1, 1)], []), jgh, jgh, (101, [], [0, 0, 0, 0, 0, 0])]
theorem jA_44_28 {xs : List Int} {d : Nat} : jT xs (d + 2) 44 5 0 [(0, (4, 0)), (1, (4, 1)), (2, (1, 2))] [] jpA_90 0 0 (fun k v hs' => k = 0 ∧ v = (1, 0) ∧ hs' = jpA_90 ++ []) := by
  refine jT_advK 6 (pc' := 10) (L' := [(0, (4, 0)), (1, (4, 1)), (2, (1, 2))]) (st' := [(1, 2), (1, 1), (4, 4), (4, 0)]) (hs' := jpA_90) (c1 := 0) (s1 := 0) (c2 := 0) (s2 := 0) (by decide +kernel) ?_ (by omega) (by omega)
  refine jT_fR [0, 4, 2, 3] 5 (y := 45) (pc' := 13) (dC := 1) (bc1 := 0) (bc2 := 0) (c1 := 0) (c2 := 0) (as := [(4, 0), (4, 4), (1, 1), (1, 2)]) (asC := [(4, 0), (4, 1), (1, 1), (1, 2)]) (L' := [(0, (4, 0)), (1, (4, 1)), (2, (1, 2))]) (st' := []) (hsC := jpA_89) (v := (1, 0)) (st2 := [(1, 0)]) (jA_45_27 (d := 0)) (by rfl) (by rfl) (by decide +kernel) (by rfl) (by rfl) (by omega) (by omega) (by omega) (by omega) rfl ?_
  exact jT_ret rfl (by decide) (by show 5 ≤ 5; decide) (by omega) (by omega) ⟨rfl, rfl, rfl⟩
theorem jA_373_29 {xs : List Int} {d : Nat} : jT xs d 373 0 0 [(0, (1, 1)), (2, (1, 2))] [] [] 0 0 (fun k v hs' => k = 0 ∧ v = (1, 0) ∧ hs' = [] ++ []) := by
  refine jT_advK 11 (pc' := 29) (L' := [(4, (1, 0)), (0, (1, 1)), (2, (1, 2))]) (st' := [(1, 0)]) (hs' := []) (c1 := 0) (s1 := 0) (c2 := 0) (s2 := 0) (by decide +kernel) ?_ (by omega) (by omega)
  exact jT_ret rfl (by decide) (by show 0 ≤ 0; decide) (by omega) (by omega) ⟨rfl, rfl, rfl⟩
theorem jA_374_30 {xs : List Int} {d : Nat} : jT xs (d + 1) 374 0 0 [(0, (1, 1)), (2, (0, 2))] [] [] 0 0 (fun k v hs' => k = 0 ∧ v = (1, 0) ∧ hs' = [] ++ []) := by
  refine jT_advK 3 (pc' := 3) (L' := [(0, (1, 1)), (2, (0, 2))]) (st' := [(1, 2), (1, 1)]) (hs' := []) (c1 := 0) (s1 := 0) (c2 := 0) (s2 := 0) (by decide +kernel) ?_ (by omega) (by omega)
  refine jT_fR [] 0 (y := 373) (pc' := 6) (dC := 0) (bc1 := 0) (bc2 := 0) (c1 := 0) (c2 := 0) (as := [(1, 1), (1, 2)]) (asC := [(1, 1), (1, 2)]) (L' := [(0, (1, 1)), (2, (0, 2))]) (st' := []) (hsC := []) (v := (1, 0)) (st2 := [(1, 0)]) (jA_373_29 (d := 0)) (by rfl) (by rfl) (by decide +kernel) (by rfl) (by rfl) (by omega) (by omega) (by omega) (by omega) rfl ?_
  exact jT_ret rfl (by decide) (by show 0 ≤ 0; decide) (by omega) (by omega) ⟨rfl, rfl, rfl⟩
theorem jA_43_31 {xs : List Int} {d : Nat} : jT xs (d + 3) 43 5 0 [(0, (4, 0)), (1, (4, 1)), (2, (1, 1))] [] jpA_90 0 0 (fun k v hs' => k = 0 ∧ v = (1, 0) ∧ hs' = jpA_90 ++ []) := by
  refine jT_advK 5 (pc' := 7) (L' := [(0, (4, 0)), (1, (4, 1)), (2, (1, 1))]) (st' := [(1, 2), (4, 1), (4, 0)]) (hs' := jpA_90) (c1 := 0) (s1 := 0) (c2 := 0) (s2 := 0) (by decide +kernel) ?_ (by omega) (by omega)
  refine jT_fR [0, 1, 2, 3, 4] 5 (y := 44) (pc' := 10) (dC := 2) (bc1 := 0) (bc2 := 0) (c1 := 0) (c2 := 0) (as := [(4, 0), (4, 1), (1, 2)]) (asC := [(4, 0), (4, 1), (1, 2)]) (L' := [(0, (4, 0)), (1, (4, 1)), (2, (1, 1))]) (st' := []) (hsC := jpA_90) (v := (1, 0)) (st2 := [(1, 0)]) (jA_44_28 (d := 0)) (by rfl) (by rfl) (by decide +kernel) (by rfl) (by rfl) (by omega) (by omega) (by omega) (by omega) rfl ?_
  refine jT_advK 3 (pc' := 13) (L' := [(0, (4, 0)), (1, (4, 1)), (2, (1, 1))]) (st' := [(0, 2), (1, 1)]) (hs' := jpA_90) (c1 := 0) (s1 := 0) (c2 := 0) (s2 := 0) (by decide +kernel) ?_ (by omega) (by omega)
  refine jT_fR [] 5 (y := 374) (pc' := 16) (dC := 1) (bc1 := 0) (bc2 := 0) (c1 := 0) (c2 := 0) (as := [(1, 1), (0, 2)]) (asC := [(1, 1), (0, 2)]) (L' := [(0, (4, 0)), (1, (4, 1)), (2, (1, 1))]) (st' := []) (hsC := []) (v := (1, 0)) (st2 := [(1, 0)]) (jA_374_30 (d := 0)) (by rfl) (by rfl) (by decide +kernel) (by rfl) (by rfl) (by omega) (by omega) (by omega) (by omega) rfl ?_
  exact jT_ret rfl (by decide) (by show 5 ≤ 5; decide) (by omega) (by omega) ⟨rfl, rfl, rfl⟩
def jzA_91 : JC := (9, [(4, 14), (4, 15), (4, 16), (4, 17), (4, 18)], [])
def jzA_92 : JC := (114, [], [19, 19, 19, 19, 19, 19, 19, 19])
def jpA_93 : List JC := [jzA_8, (8, [(4, 12), (4, 13)], []), jgh, jgh, jgh, jgh, jgh, jgh, jgh, jgh, jzA_87, jzA_91, jgh, jgh, jzA_92, jgh, jgh, jgh, (114, [], []), jgh]
theorem jI_135_21 : jmI (jm 135) 21 = (.aload_n 0, 1) := by rfl
theorem jI_135_22 : jmI (jm 135) 22 = (.getfield 67, 3) := by rfl
theorem jI_135_25 : jmI (jm 135) 25 = (.iload_n 1, 1) := by rfl
def jpA_97 : List JC := [jzA_8, (8, [(4, 12), (4, 13)], []), jgh, jgh, jgh, jgh, jgh, jgh, jgh, jgh, jzA_87, jzA_91, jgh, jgh, jzA_92, jgh, jgh, jgh, (114, [], []), jgh, (101, [], [0, 0, 0, 0, 0, 0]), (4, [(4, 20), (1, 1)], [])]
theorem jI_135_29 : jmI (jm 135) 29 = (.astore_n 3, 1) := by rfl
theorem jI_135_30 : jmI (jm 135) 30 = (.aload_n 0, 1) := by rfl
theorem jI_135_31 : jmI (jm 135) 31 = (.aload_n 0, 1) := by rfl
theorem jI_135_32 : jmI (jm 135) 32 = (.getfield 67, 3) := by rfl
theorem jI_135_35 : jmI (jm 135) 35 = (.iload_n 2, 1) := by rfl
theorem jI_135_36 : jmI (jm 135) 36 = (.aload_n 3, 1) := by rfl
def jzA_104 : JC := (9, [(4, 22), (4, 15), (4, 16), (4, 17), (4, 18)], [])
def jpA_105 : List JC := [jzA_8, (8, [(4, 12), (4, 13)], []), jgh, jgh, jgh, jgh, jgh, jgh, jgh, jgh, jzA_87, jzA_91, jgh, jgh, jzA_92, jgh, jgh, jgh, (114, [], []), jgh, (101, [], [0, 0, 0, 0, 0, 0]), (4, [(4, 20), (1, 1)], []), jgh, jzA_104]
def jzA_106 : JC := (13, [(4, 1), (4, 2), (4, 3), (4, 4), (4, 5), (4, 6), (4, 7), (4, 8), (4, 9), (4, 10), (0, 1), (4, 23), (0, 0)], [])
def jzA_107 : JC := (119, [], [11, (-1), (-1), (-1), (-1), (-1), (-1), (-1)])
def jpA_108 : List JC := [jzA_106, (8, [(4, 12), (4, 13)], []), jgh, jgh, jgh, jgh, jgh, jgh, jgh, jgh, jzA_107, jzA_91, jgh, jgh, jzA_92, jgh, jgh, jgh, (114, [], []), jgh, (101, [], [0, 0, 0, 0, 0, 0]), (4, [(4, 20), (1, 1)], []), jgh, jzA_104]
theorem jI_135_43 : jmI (jm 135) 43 = (.aload_n 0, 1) := by rfl
theorem jI_135_44 : jmI (jm 135) 44 = (.getfield 10, 3) := by rfl
theorem jI_135_47 : jmI (jm 135) 47 = (.aload_n 3, 1) := by rfl
theorem jI_135_48 : jmI (jm 135) 48 = (.lconst 1, 1) := by rfl
theorem jI_135_52 : jmI (jm 135) 52 = (.l2i, 1) := by rfl
theorem jA_135_32 {xs : List Int} {d : Nat} {x2 : Int} (h_x2 : 0 ≤ x2 ∧ x2 ≤ 7) : jT xs (d + 4) 135 20 0 [(0, (4, 0)), (1, (0, 0)), (2, (0, x2))] [] jpA_93 4 21 (fun k v hs' => k = 0 ∧ v = (0, 0) ∧ hs' = jpA_108) := by
  refine jT_xaload_n (v := (4, 0)) (pc' := 1) jI_135_0 rfl rfl rfl ?_
  refine jT_xiload_n (v := (0, 0)) (pc' := 2) jI_135_1 rfl rfl rfl ?_
  refine jT_xiconst (k := 0) (pc' := 3) jI_135_2 rfl ?_
  refine jT_xaload_n (v := (4, 0)) (pc' := 4) jI_135_3 rfl rfl rfl ?_
  refine jT_xgetf (a := 0) (t := 1) (ci := 13) (fi := 11) (c := jzA_8) (v := (4, 11)) (pc' := 7) jI_135_4 rfl rfl rfl rfl rfl rfl rfl ?_
  refine jT_xgetf (a := 11) (t := 2) (ci := 9) (fi := 4) (c := jzA_91) (v := (4, 18)) (pc' := 10) jI_135_7 rfl rfl rfl rfl rfl rfl rfl ?_
  refine jT_adv 1 (pc' := 11) (L' := [(0, (4, 0)), (1, (0, 0)), (2, (0, x2))]) (st' := [(0, 0), (0, 0), (0, 0), (4, 0)]) (hs' := jpA_93) (c1 := 0) (s1 := 0) (c2 := 4) (s2 := 21) (by exact rfl) ?_ (by omega) (by omega)
  refine jT_fR [0] 20 (y := 116) (pc' := 14) (dC := 0) (bc1 := 0) (bc2 := 0) (c1 := 4) (c2 := 21) (as := [(4, 0), (0, 0), (0, 0), (0, 0)]) (asC := [(4, 0), (0, 0), (0, 0), (0, 0)]) (L' := [(0, (4, 0)), (1, (0, 0)), (2, (0, x2))]) (st' := []) (hsC := [jgh]) (v := (9, 0)) (st2 := []) (jA_116_7 (d := 0)) (by rfl) (by rfl) (by decide +kernel) (by rfl) (by rfl) (by omega) (by omega) (by omega) (by omega) rfl ?_
  refine jT_xaload_n (v := (4, 0)) (pc' := 15) jI_135_14 rfl rfl rfl ?_
  refine jT_xiload_n (v := (0, x2)) (pc' := 16) jI_135_15 rfl rfl rfl ?_
  refine jT_xbipush (k := 8) (pc' := 18) jI_135_16 (by decide) rfl ?_
  refine jT_fR [0] 20 (y := 115) (pc' := 21) (dC := 0) (bc1 := 0) (bc2 := 0) (c1 := 4) (c2 := 21) (as := [(4, 0), (0, x2), (0, 8)]) (asC := [(4, 0), (0, x2), (0, 8)]) (L' := [(0, (4, 0)), (1, (0, 0)), (2, (0, x2))]) (st' := []) (hsC := [jgh]) (v := (9, 0)) (st2 := []) (jA_115_17 (d := 0) (by omega)) (by rfl) (by rfl) (by decide +kernel) (by rfl) (by rfl) (by omega) (by omega) (by omega) (by omega) rfl ?_
  refine jT_xaload_n (v := (4, 0)) (pc' := 22) jI_135_21 rfl rfl rfl ?_
  refine jT_xgetf (a := 0) (t := 1) (ci := 13) (fi := 11) (c := jzA_8) (v := (4, 11)) (pc' := 25) jI_135_22 rfl rfl rfl rfl rfl rfl rfl ?_
  refine jT_xiload_n (v := (0, 0)) (pc' := 26) jI_135_25 rfl rfl rfl ?_
  refine jT_fA [11] 20 (y := 62) (pc' := 29) (dC := 3) (bc1 := 2) (bc2 := 8) (c1 := 2) (c2 := 13) (as := [(4, 11), (0, 0)]) (asC := [(4, 0), (0, 0)]) (L' := [(0, (4, 0)), (1, (0, 0)), (2, (0, x2))]) (st' := []) (hsC := [jgh]) (ex := [(101, [], [0, 0, 0, 0, 0, 0]), (4, [(4, 1), (1, 1)], [])]) (v := (4, 2)) (st2 := [(4, 21)]) (hs2 := jpA_97) (jA_62_21 (d := 0)) (by rfl) (by rfl) (by decide +kernel) (by rfl) (by rfl) (by omega) (by omega) (by omega) (by omega) rfl (by decide +kernel) ?_
  refine jT_xastore_n (v := (4, 21)) (L' := [(3, (4, 21)), (0, (4, 0)), (1, (0, 0)), (2, (0, x2))]) (pc' := 30) jI_135_29 rfl rfl rfl rfl ?_
  refine jT_xaload_n (v := (4, 0)) (pc' := 31) jI_135_30 rfl rfl rfl ?_
  refine jT_xaload_n (v := (4, 0)) (pc' := 32) jI_135_31 rfl rfl rfl ?_
  refine jT_xgetf (a := 0) (t := 1) (ci := 13) (fi := 11) (c := jzA_8) (v := (4, 11)) (pc' := 35) jI_135_32 rfl rfl rfl rfl rfl rfl rfl ?_
  refine jT_xiload_n (v := (0, x2)) (pc' := 36) jI_135_35 rfl rfl rfl ?_
  refine jT_xaload_n (v := (4, 21)) (pc' := 37) jI_135_36 rfl rfl rfl ?_
  refine jT_fA [11, 21, 14, 15, 16, 17, 18, 20, 19] 22 (y := 58) (pc' := 40) (dC := 1) (bc1 := 2) (bc2 := 13) (c1 := 0) (c2 := 0) (as := [(4, 11), (0, x2), (4, 21)]) (asC := [(4, 0), (0, x2), (4, 1)]) (L' := [(3, (4, 21)), (0, (4, 0)), (1, (0, 0)), (2, (0, x2))]) (st' := [(4, 0)]) (hsC := jpA_83) (ex := [jgh, jzA_81]) (v := (4, 10)) (st2 := [(4, 23), (4, 0)]) (hs2 := jpA_105) (jA_58_23 (d := 0) (by omega)) (by rfl) (by rfl) (by decide +kernel) (by rfl) (by rfl) (by omega) (by omega) (by omega) (by omega) rfl (by decide +kernel) ?_
  refine jT_fB [0, 23, 1, 2, 3, 4, 5, 6, 7, 8, 9, 10, 11, 14, 15, 16, 17, 18] 24 (y := 100) (pc' := 43) (dC := 0) (bc1 := 0) (bc2 := 0) (c1 := 0) (c2 := 0) (as := [(4, 0), (4, 23)]) (asC := [(4, 0), (4, 1)]) (L' := [(3, (4, 21)), (0, (4, 0)), (1, (0, 0)), (2, (0, x2))]) (st' := []) (hsC := jpA_88) (hsD := jpA_86) (v := (9, 0)) (st2 := []) (hs2 := jpA_108) (jA_100_24 (d := 0)) (by rfl) (by rfl) (by decide +kernel) (by rfl) (by rfl) (by omega) (by omega) (by omega) (by omega) rfl (by decide +kernel) ?_
  refine jT_xaload_n (v := (4, 0)) (pc' := 44) jI_135_43 rfl rfl rfl ?_
  refine jT_xgetf (a := 0) (t := 1) (ci := 13) (fi := 0) (c := jzA_106) (v := (4, 1)) (pc' := 47) jI_135_44 rfl rfl rfl rfl rfl rfl rfl ?_
  refine jT_xaload_n (v := (4, 21)) (pc' := 48) jI_135_47 rfl rfl rfl ?_
  refine jT_xlconst (z := 1) (pc' := 49) jI_135_48 rfl rfl ?_
  refine jT_fR [1, 21, 12, 13, 20] 24 (y := 43) (pc' := 52) (dC := 3) (bc1 := 0) (bc2 := 0) (c1 := 0) (c2 := 0) (as := [(4, 1), (4, 21), (1, 1)]) (asC := [(4, 0), (4, 1), (1, 1)]) (L' := [(3, (4, 21)), (0, (4, 0)), (1, (0, 0)), (2, (0, x2))]) (st' := []) (hsC := jpA_90) (v := (1, 0)) (st2 := [(1, 0)]) (jA_43_31 (d := 0)) (by rfl) (by rfl) (by decide +kernel) (by rfl) (by rfl) (by omega) (by omega) (by omega) (by omega) rfl ?_
  refine jT_xl2i (pc' := 53) jI_135_52 rfl rfl ?_
  exact jT_ret rfl (by decide) (by show 20 ≤ 24; decide) (by omega) (by omega) ⟨rfl, rfl, rfl⟩
def jzA_114 : JC := (13, [(4, 2), (4, 3), (4, 4), (4, 5), (4, 6), (4, 7), (4, 8), (4, 9), (4, 10), (4, 11), (0, 1), (4, 24), (0, 0)], [])
def jzA_115 : JC := (9, [(4, 15), (4, 16), (4, 17), (4, 18), (4, 19)], [])
def jzA_116 : JC := (114, [], [20, 20, 20, 20, 20, 20, 20, 20])
def jzA_117 : JC := (9, [(4, 23), (4, 16), (4, 17), (4, 18), (4, 19)], [])
def jpA_118 : List JC := [jzA_114, (101, [], [0]), (8, [(4, 13), (4, 14)], []), jgh, jgh, jgh, jgh, jgh, jgh, jgh, jgh, jzA_85, jzA_115, jgh, jgh, jzA_116, jgh, jgh, jgh, (114, [], []), jgh, (101, [], [0, 0, 0, 0, 0, 0]), (4, [(4, 21), (1, 1)], []), jgh, jzA_117]
theorem jI_342_8 : jmI (jm 342) 8 = (.i2l, 1) := by rfl
theorem jI_342_10 : jmI (jm 342) 10 = (.goto 11, 3) := by rfl
theorem jI_342_21 : jmI (jm 342) 21 = (.iconst 0, 1) := by rfl
def jpA_122 : List JC := [jzA_17, (101, [], [0]), (8, [(4, 13), (4, 14)], []), jgh, jgh, jgh, jgh, jgh, jgh, jgh, jgh, jzA_87, jzA_115, jgh, jgh, jzA_116, jgh, jgh, jgh, (114, [], []), jgh]
theorem jA_342_33 {xs : List Int} {d : Nat} {x2 : Int} (h_x2 : 0 ≤ x2 ∧ x2 ≤ 7) : jT xs (d + 5) 342 21 0 [(0, (4, 0)), (1, (0, 0)), (2, (0, x2)), (3, (4, 1))] [] jpA_122 4 21 (fun k v hs' => k = 0 ∧ v = (0, 0) ∧ hs' = jpA_118) := by
  refine jT_xaload_n (v := (4, 1)) (pc' := 1) jI_342_0 rfl rfl rfl ?_
  refine jT_xiconst (k := 0) (pc' := 2) jI_342_1 rfl ?_
  refine jT_xaload_n (v := (4, 0)) (pc' := 3) jI_342_2 rfl rfl rfl ?_
  refine jT_xiload_n (v := (0, 0)) (pc' := 4) jI_342_3 rfl rfl rfl ?_
  refine jT_xiload_n (v := (0, x2)) (pc' := 5) jI_342_4 rfl rfl rfl ?_
  refine jT_fB [0, 2, 3, 4, 5, 6, 7, 8, 9, 10, 11, 12, 13, 14, 15, 16, 17, 18, 19, 20] 21 (y := 135) (pc' := 8) (dC := 4) (bc1 := 4) (bc2 := 21) (c1 := 0) (c2 := 0) (as := [(4, 0), (0, 0), (0, x2)]) (asC := [(4, 0), (0, 0), (0, x2)]) (L' := [(0, (4, 0)), (1, (0, 0)), (2, (0, x2)), (3, (4, 1))]) (st' := [(0, 0), (4, 1)]) (hsC := jpA_93) (hsD := jpA_108) (v := (0, 0)) (st2 := [(0, 0), (0, 0), (4, 1)]) (hs2 := jpA_118) (jA_135_32 (d := 0) (by omega)) (by rfl) (by rfl) (by decide +kernel) (by rfl) (by rfl) (by omega) (by omega) (by omega) (by omega) rfl (by decide +kernel) ?_
  refine jT_xi2l (x := 0) (z := 0) (pc' := 9) jI_342_8 rfl (by decide +kernel) rfl ?_
  refine jT_adv 1 (pc' := 10) (L' := [(0, (4, 0)), (1, (0, 0)), (2, (0, x2)), (3, (4, 1))]) (st' := []) (hs' := jpA_118) (c1 := 0) (s1 := 0) (c2 := 0) (s2 := 0) (by exact rfl) ?_ (by omega) (by omega)
  refine jT_xgoto (pc' := 21) jI_342_10 rfl ?_
  refine jT_xiconst (k := 0) (pc' := 22) jI_342_21 rfl ?_
  exact jT_ret rfl (by decide) (by show 21 ≤ 25; decide) (by omega) (by omega) ⟨rfl, rfl, rfl⟩
theorem jA_188_34 {xs : List Int} {d : Nat} {x2 : Int} (h_x2 : 0 ≤ x2 ∧ x2 ≤ 7) : jT xs (d + 1) 188 0 0 [(0, (0, x2))] [] [] 0 0 (fun k v hs' => k = 0 ∧ v = (0, 1) ∧ hs' = [] ++ []) := by
  refine jT_xiload_n (v := (0, x2)) (pc' := 1) jI_188_0 rfl rfl rfl ?_
  refine jT_xi2l (x := x2) (z := x2) (pc' := 2) jI_188_1 rfl (jw_idd (by omega) (by omega)) rfl ?_
  refine jT_xlconst (z := 0) (pc' := 3) jI_188_2 rfl rfl ?_
  refine jT_adv 1 (pc' := 6) (L' := [(0, (0, x2))]) (st' := [(1, 7), (1, 0), (1, x2)]) (hs' := []) (c1 := 0) (s1 := 0) (c2 := 0) (s2 := 0) (by exact rfl) ?_ (by omega) (by omega)
  refine jT_fR [] 0 (y := 189) (pc' := 9) (dC := 0) (bc1 := 0) (bc2 := 0) (c1 := 0) (c2 := 0) (as := [(1, x2), (1, 0), (1, 7)]) (asC := [(1, x2), (1, 0), (1, 7)]) (L' := [(0, (0, x2))]) (st' := []) (hsC := []) (v := (0, 1)) (st2 := [(0, 1)]) (jT_in_ok (d := 0) (v := x2) (lo := 0) (hi := 7) (by omega) (by omega) (by omega) (by omega) (by omega)) (by rfl) (by rfl) (by decide +kernel) (by rfl) (by rfl) (by omega) (by omega) (by omega) (by omega) rfl ?_
  exact jT_ret rfl (by decide) (by show 0 ≤ 0; decide) (by omega) (by omega) ⟨rfl, rfl, rfl⟩
theorem jA_191_35 {xs : List Int} {d : Nat} : jT xs d 191 1 0 [(0, (4, 0)), (1, (0, 1)), (2, (0, 2))] [] [jgh] 0 0 (fun k v hs' => k = 0 ∧ v = (0, 0) ∧ hs' = [jgh] ++ []) := by
  refine jT_advK 5 (pc' := 18) (L' := [(0, (4, 0)), (1, (0, 1)), (2, (0, 2))]) (st' := [(0, 0)]) (hs' := [jgh]) (c1 := 0) (s1 := 0) (c2 := 0) (s2 := 0) (by decide +kernel) ?_ (by omega) (by omega)
  exact jT_ret rfl (by decide) (by show 1 ≤ 1; decide) (by omega) (by omega) ⟨rfl, rfl, rfl⟩
def jzA_123 : JC := (130, [], [16, 17, 18, 19, 20, 21, 22, 23])
def jzA_124 : JC := (130, [], [(-1), (-1), (-1), (-1), (-1), (-1), (-1), (-1)])
def jpA_125 : List JC := [jzA_22, (100, [], jS0), (100, [], []), jzA_123, jzA_124, jgh, jgh, jgh, jgh, jgh, jgh, jgh, jgh, jgh, jgh, jgh, (100, [], (List.replicate 1613 0)), jgh, jgh, jgh, jgh, jgh, jgh, jgh]
def jpA_126 : List JC := [jzA_22, (100, [], jS0), (100, [], []), jzA_123, jzA_124, jgh, jgh, jgh, jgh, jgh, jgh, jgh, jgh, jgh, jgh, jgh, (100, [], jS0), jgh, jgh, jgh, jgh, jgh, jgh, jgh]
def jzA_127 : JC := (14, [(0, 0), (4, 1), (4, 2), (4, 3), (4, 4), (0, 1), (4, 5), (0, 0), (4, 6), (4, 7), (1, 1), (4, 8), (0, 0), (4, 9), (0, 0), (0, 0), (0, 0), (0, 0), (0, 0), (0, 0), (0, 0), (4, 10), (4, 11), (4, 12), (4, 13), (4, 14), (4, 15), (0, 0)], [])
def jzA_128 : JC := (130, [], [2, (-1), (-1), (-1), (-1), (-1), (-1), (-1)])
def jpA_129 : List JC := [jzA_127, (100, [], jS0), (100, [], []), jzA_123, jzA_128, jgh, jgh, jgh, jgh, jgh, jgh, jgh, jgh, jgh, jgh, jgh, (100, [], jS0), jgh, jgh, jgh, jgh, jgh, jgh, jgh]
theorem jA_195_36 {xs : List Int} {d : Nat} : jT xs d 195 24 0 [(0, (4, 0))] [] jpA_125 0 0 (fun k v hs' => k = 0 ∧ v = (9, 0) ∧ hs' = jpA_129) := by
  refine jT_advK 14 (pc' := 94) (L' := [(0, (4, 0))]) (st' := [(0, 1613), (0, 0), (4, 16), (0, 0), (4, 1)]) (hs' := jpA_125) (c1 := 0) (s1 := 0) (c2 := 0) (s2 := 0) (by decide +kernel) ?_ (by omega) (by omega)
  refine jT_cpy (a := 1) (b := 16) (s0 := 0) (d0 := 0) (n := 1613) (k := 100) (X := jS0) (Y := (List.replicate 1613 0)) (by rfl) (by rfl) (by rfl) (by rfl) (by rfl) (by rfl) (by rfl) (by decide) (by decide) (by decide) (by rw [show List.length (jS0 : List Int) = 1613 from jS0_len]; decide) (by rw [show List.length ((List.replicate 1613 0) : List Int) = 1613 from List.length_replicate]; omega) ?_
  refine jT_eq (L' := [(0, (4, 0))]) (st' := []) (hs' := jpA_126) rfl rfl (by rw [jcpy_all (X := jS0) (Y := (List.replicate 1613 0)) (n := 1613) (jS0_len) (List.length_replicate)]; rfl) ?_
  refine jT_advK 13 (pc' := 120) (L' := [(0, (4, 0))]) (st' := []) (hs' := jpA_129) (c1 := 0) (s1 := 0) (c2 := 0) (s2 := 0) (by decide +kernel) ?_ (by omega) (by omega)
  exact jT_ret rfl (by decide) (by show 24 ≤ 24; decide) (by omega) (by omega) ⟨rfl, rfl, rfl⟩
def jpA_130 : List JC := [jzA_127, jgh, jgh, jgh, jgh, jgh, jgh, (101, [], [0, 0, 0, 0, 0, 0]), jgh, jgh, jgh, jgh, jgh, jgh, jgh, jgh]
theorem jA_193_37 {xs : List Int} {d : Nat} : jT xs d 193 16 0 [(0, (4, 0))] [] jpA_130 0 0 (fun k v hs' => k = 0 ∧ v = (9, 0) ∧ hs' = jpA_130 ++ []) := by
  refine jT_advK 68 (pc' := 26) (L' := [(1, (0, 6)), (0, (4, 0))]) (st' := []) (hs' := jpA_130) (c1 := 0) (s1 := 0) (c2 := 0) (s2 := 0) (by decide +kernel) ?_ (by omega) (by omega)
  exact jT_ret rfl (by decide) (by show 16 ≤ 16; decide) (by omega) (by omega) ⟨rfl, rfl, rfl⟩
theorem jA_256_38 {xs : List Int} {d : Nat} : jT xs (d + 1) 256 16 0 [(0, (4, 0)), (1, (0, 0))] [] jpA_130 0 0 (fun k v hs' => k = 0 ∧ v = (9, 0) ∧ hs' = jpA_130 ++ []) := by
  refine jT_advK 1 (pc' := 1) (L' := [(0, (4, 0)), (1, (0, 0))]) (st' := [(4, 0)]) (hs' := jpA_130) (c1 := 0) (s1 := 0) (c2 := 0) (s2 := 0) (by decide +kernel) ?_ (by omega) (by omega)
  refine jT_fR [0, 1, 2, 3, 4, 5, 6, 7, 8, 9, 10, 11, 12, 13, 14, 15] 16 (y := 193) (pc' := 4) (dC := 0) (bc1 := 0) (bc2 := 0) (c1 := 0) (c2 := 0) (as := [(4, 0)]) (asC := [(4, 0)]) (L' := [(0, (4, 0)), (1, (0, 0))]) (st' := []) (hsC := jpA_130) (v := (9, 0)) (st2 := []) (jA_193_37 (d := 0)) (by rfl) (by rfl) (by decide +kernel) (by rfl) (by rfl) (by omega) (by omega) (by omega) (by omega) rfl ?_
  refine jT_advK 5 (pc' := 34) (L' := [(2, (0, 0)), (0, (4, 0)), (1, (0, 0))]) (st' := []) (hs' := jpA_130) (c1 := 0) (s1 := 0) (c2 := 0) (s2 := 0) (by decide +kernel) ?_ (by omega) (by omega)
  exact jT_ret rfl (by decide) (by show 16 ≤ 16; decide) (by omega) (by omega) ⟨rfl, rfl, rfl⟩
theorem jI_197_0 : jmI (jm 197) 0 = (.iconst 0, 1) := by rfl
theorem jI_197_1 : jmI (jm 197) 1 = (.istore_n 3, 1) := by rfl
theorem jI_197_2 : jmI (jm 197) 2 = (.iload_n 3, 1) := by rfl
theorem jI_197_3 : jmI (jm 197) 3 = (.bipush 6, 2) := by rfl
theorem jI_197_5 : jmI (jm 197) 5 = (.if_icmp .ge 21, 3) := by rfl
theorem jI_197_8 : jmI (jm 197) 8 = (.aload_n 1, 1) := by rfl
theorem jI_197_9 : jmI (jm 197) 9 = (.iload_n 2, 1) := by rfl
theorem jI_197_10 : jmI (jm 197) 10 = (.iload_n 3, 1) := by rfl
theorem jI_197_11 : jmI (jm 197) 11 = (.iadd, 1) := by rfl
theorem jI_197_12 : jmI (jm 197) 12 = (.aload_n 0, 1) := by rfl
theorem jI_197_13 : jmI (jm 197) 13 = (.getfield 31, 3) := by rfl
theorem jI_197_16 : jmI (jm 197) 16 = (.iload_n 3, 1) := by rfl
theorem jI_197_17 : jmI (jm 197) 17 = (.laload, 1) := by rfl
def jpA_144 : List JC := [jzA_127, (100, [], jS0), jgh, jgh, jgh, jgh, jgh, (101, [], [0, 0, 0, 0, 0, 0]), jgh, jgh, jgh, jgh, jgh, jgh, jgh, jgh]
theorem jI_197_18 : jmI (jm 197) 18 = (.l2i, 1) := by rfl
theorem jI_197_20 : jmI (jm 197) 20 = (.iinc 3 1, 3) := by rfl
theorem jI_197_23 : jmI (jm 197) 23 = (.goto (-21), 3) := by rfl
theorem jI_197_26 : jmI (jm 197) 26 = (.aload_n 1, 1) := by rfl
theorem jI_197_27 : jmI (jm 197) 27 = (.iload_n 2, 1) := by rfl
theorem jI_197_28 : jmI (jm 197) 28 = (.bipush 6, 2) := by rfl
theorem jI_197_30 : jmI (jm 197) 30 = (.iadd, 1) := by rfl
theorem jI_197_31 : jmI (jm 197) 31 = (.aload_n 0, 1) := by rfl
theorem jI_197_32 : jmI (jm 197) 32 = (.getfield 35, 3) := by rfl
theorem jI_197_35 : jmI (jm 197) 35 = (.l2i, 1) := by rfl
theorem jA_197_39 {xs : List Int} {d : Nat} {x2 : Int} (h_x2 : 0 ≤ x2 ∧ x2 ≤ 7) : jT xs d 197 16 0 [(0, (4, 0)), (1, (4, 1)), (2, (0, 7 * x2))] [] jpA_144 0 0 (fun k v hs' => k = 0 ∧ v = (9, 0) ∧ hs' = [jzA_127, (100, [], ((((((((((((((jS0).set ((7 * x2).toNat) 0)).set ((7 * x2 + 1).toNat) 0)).set ((7 * x2 + 2).toNat) 0)).set ((7 * x2 + 3).toNat) 0)).set ((7 * x2 + 4).toNat) 0)).set ((7 * x2 + 5).toNat) 0)).set ((7 * x2 + 6).toNat) 1)), jgh, jgh, jgh, jgh, jgh, (101, [], [0, 0, 0, 0, 0, 0]), jgh, jgh, jgh, jgh, jgh, jgh, jgh, jgh]) := by
  refine jT_xiconst (k := 0) (pc' := 1) jI_197_0 rfl ?_
  refine jT_xistore_n (v := (0, 0)) (L' := [(3, (0, 0)), (0, (4, 0)), (1, (4, 1)), (2, (0, 7 * x2))]) (pc' := 2) jI_197_1 rfl rfl rfl rfl ?_
  refine jT_xiload_n (v := (0, 0)) (pc' := 3) jI_197_2 rfl rfl rfl ?_
  refine jT_xbipush (k := 6) (pc' := 5) jI_197_3 (by decide) rfl ?_
  refine jT_xicF (t := 26) (pc' := 8) jI_197_5 rfl (by decide +kernel) rfl rfl ?_
  refine jT_xaload_n (v := (4, 1)) (pc' := 9) jI_197_8 rfl rfl rfl ?_
  refine jT_xiload_n (v := (0, 7 * x2)) (pc' := 10) jI_197_9 rfl rfl rfl ?_
  refine jT_xiload_n (v := (0, 0)) (pc' := 11) jI_197_10 rfl rfl rfl ?_
  refine jT_xiadd (x := 7 * x2) (y := 0) (z := 7 * x2) (pc' := 12) jI_197_11 rfl (by omega) rfl ?_
  refine jT_xaload_n (v := (4, 0)) (pc' := 13) jI_197_12 rfl rfl rfl ?_
  refine jT_xgetf (a := 0) (t := 1) (ci := 14) (fi := 9) (c := jzA_127) (v := (4, 7)) (pc' := 16) jI_197_13 rfl rfl rfl rfl rfl rfl rfl ?_
  refine jT_xiload_n (v := (0, 0)) (pc' := 17) jI_197_16 rfl rfl rfl ?_
  refine jT_lald (x := 0) (a := 7) (j := 0) (fs := []) (X := [0, 0, 0, 0, 0, 0]) jI_197_17 rfl rfl rfl rfl ?_
  refine jT_eq (L' := [(3, (0, 0)), (0, (4, 0)), (1, (4, 1)), (2, (0, 7 * x2))]) (st' := [(1, 0), (0, 7 * x2), (4, 1)]) (hs' := jpA_144) rfl rfl rfl ?_
  refine jT_xl2i (pc' := 19) jI_197_18 rfl rfl ?_
  refine jT_iast (x := 0) (a := 1) (j := (7 * x2).toNat) (fs := []) (X := jS0) (by rfl) (by rfl) (by rfl) (jw_nn (by omega) (by omega)) (by rw [show List.length (jS0 : List Int) = 1613 from jS0_len]; omega) ?_
  refine jT_eq (L' := [(3, (0, 0)), (0, (4, 0)), (1, (4, 1)), (2, (0, 7 * x2))]) (st' := []) (hs' := [jzA_127, (100, [], ((jS0).set ((7 * x2).toNat) 0)), jgh, jgh, jgh, jgh, jgh, (101, [], [0, 0, 0, 0, 0, 0]), jgh, jgh, jgh, jgh, jgh, jgh, jgh, jgh]) rfl rfl rfl ?_
  refine jT_xiinc (x := 0) (z := 1) (L' := [(3, (0, 1)), (0, (4, 0)), (1, (4, 1)), (2, (0, 7 * x2))]) (pc' := 23) jI_197_20 rfl rfl (by decide) rfl rfl ?_
  refine jT_xgoto (pc' := 2) jI_197_23 rfl ?_
  refine jT_xiload_n (v := (0, 1)) (pc' := 3) jI_197_2 rfl rfl rfl ?_
  refine jT_xbipush (k := 6) (pc' := 5) jI_197_3 (by decide) rfl ?_
  refine jT_xicF (t := 26) (pc' := 8) jI_197_5 rfl (by decide +kernel) rfl rfl ?_
  refine jT_xaload_n (v := (4, 1)) (pc' := 9) jI_197_8 rfl rfl rfl ?_
  refine jT_xiload_n (v := (0, 7 * x2)) (pc' := 10) jI_197_9 rfl rfl rfl ?_
  refine jT_xiload_n (v := (0, 1)) (pc' := 11) jI_197_10 rfl rfl rfl ?_
  refine jT_xiadd (x := 7 * x2) (y := 1) (z := 7 * x2 + 1) (pc' := 12) jI_197_11 rfl (by omega) rfl ?_
  refine jT_xaload_n (v := (4, 0)) (pc' := 13) jI_197_12 rfl rfl rfl ?_
  refine jT_xgetf (a := 0) (t := 1) (ci := 14) (fi := 9) (c := jzA_127) (v := (4, 7)) (pc' := 16) jI_197_13 rfl rfl rfl rfl rfl rfl rfl ?_
  refine jT_xiload_n (v := (0, 1)) (pc' := 17) jI_197_16 rfl rfl rfl ?_
  refine jT_lald (x := 0) (a := 7) (j := 1) (fs := []) (X := [0, 0, 0, 0, 0, 0]) jI_197_17 rfl rfl rfl rfl ?_
  refine jT_eq (L' := [(3, (0, 1)), (0, (4, 0)), (1, (4, 1)), (2, (0, 7 * x2))]) (st' := [(1, 0), (0, 7 * x2 + 1), (4, 1)]) (hs' := [jzA_127, (100, [], ((jS0).set ((7 * x2).toNat) 0)), jgh, jgh, jgh, jgh, jgh, (101, [], [0, 0, 0, 0, 0, 0]), jgh, jgh, jgh, jgh, jgh, jgh, jgh, jgh]) rfl rfl rfl ?_
  refine jT_xl2i (pc' := 19) jI_197_18 rfl rfl ?_
  refine jT_iast (x := 0) (a := 1) (j := (7 * x2 + 1).toNat) (fs := []) (X := ((jS0).set ((7 * x2).toNat) 0)) (by rfl) (by rfl) (by rfl) (jw_nn (by omega) (by omega)) (by rw [show List.length (((jS0).set ((7 * x2).toNat) 0) : List Int) = 1613 from by rw [List.length_set]; exact (jS0_len)]; omega) ?_
  refine jT_eq (L' := [(3, (0, 1)), (0, (4, 0)), (1, (4, 1)), (2, (0, 7 * x2))]) (st' := []) (hs' := [jzA_127, (100, [], ((((jS0).set ((7 * x2).toNat) 0)).set ((7 * x2 + 1).toNat) 0)), jgh, jgh, jgh, jgh, jgh, (101, [], [0, 0, 0, 0, 0, 0]), jgh, jgh, jgh, jgh, jgh, jgh, jgh, jgh]) rfl rfl rfl ?_
  refine jT_xiinc (x := 1) (z := 2) (L' := [(3, (0, 2)), (0, (4, 0)), (1, (4, 1)), (2, (0, 7 * x2))]) (pc' := 23) jI_197_20 rfl rfl (by decide) rfl rfl ?_
  refine jT_xgoto (pc' := 2) jI_197_23 rfl ?_
  refine jT_xiload_n (v := (0, 2)) (pc' := 3) jI_197_2 rfl rfl rfl ?_
  refine jT_xbipush (k := 6) (pc' := 5) jI_197_3 (by decide) rfl ?_
  refine jT_xicF (t := 26) (pc' := 8) jI_197_5 rfl (by decide +kernel) rfl rfl ?_
  refine jT_xaload_n (v := (4, 1)) (pc' := 9) jI_197_8 rfl rfl rfl ?_
  refine jT_xiload_n (v := (0, 7 * x2)) (pc' := 10) jI_197_9 rfl rfl rfl ?_
  refine jT_xiload_n (v := (0, 2)) (pc' := 11) jI_197_10 rfl rfl rfl ?_
  refine jT_xiadd (x := 7 * x2) (y := 2) (z := 7 * x2 + 2) (pc' := 12) jI_197_11 rfl (by omega) rfl ?_
  refine jT_xaload_n (v := (4, 0)) (pc' := 13) jI_197_12 rfl rfl rfl ?_
  refine jT_xgetf (a := 0) (t := 1) (ci := 14) (fi := 9) (c := jzA_127) (v := (4, 7)) (pc' := 16) jI_197_13 rfl rfl rfl rfl rfl rfl rfl ?_
  refine jT_xiload_n (v := (0, 2)) (pc' := 17) jI_197_16 rfl rfl rfl ?_
  refine jT_lald (x := 0) (a := 7) (j := 2) (fs := []) (X := [0, 0, 0, 0, 0, 0]) jI_197_17 rfl rfl rfl rfl ?_
  refine jT_eq (L' := [(3, (0, 2)), (0, (4, 0)), (1, (4, 1)), (2, (0, 7 * x2))]) (st' := [(1, 0), (0, 7 * x2 + 2), (4, 1)]) (hs' := [jzA_127, (100, [], ((((jS0).set ((7 * x2).toNat) 0)).set ((7 * x2 + 1).toNat) 0)), jgh, jgh, jgh, jgh, jgh, (101, [], [0, 0, 0, 0, 0, 0]), jgh, jgh, jgh, jgh, jgh, jgh, jgh, jgh]) rfl rfl rfl ?_
  refine jT_xl2i (pc' := 19) jI_197_18 rfl rfl ?_
  refine jT_iast (x := 0) (a := 1) (j := (7 * x2 + 2).toNat) (fs := []) (X := ((((jS0).set ((7 * x2).toNat) 0)).set ((7 * x2 + 1).toNat) 0)) (by rfl) (by rfl) (by rfl) (jw_nn (by omega) (by omega)) (by rw [show List.length (((((jS0).set ((7 * x2).toNat) 0)).set ((7 * x2 + 1).toNat) 0) : List Int) = 1613 from by rw [List.length_set, List.length_set]; exact (jS0_len)]; omega) ?_
  refine jT_eq (L' := [(3, (0, 2)), (0, (4, 0)), (1, (4, 1)), (2, (0, 7 * x2))]) (st' := []) (hs' := [jzA_127, (100, [], ((((((jS0).set ((7 * x2).toNat) 0)).set ((7 * x2 + 1).toNat) 0)).set ((7 * x2 + 2).toNat) 0)), jgh, jgh, jgh, jgh, jgh, (101, [], [0, 0, 0, 0, 0, 0]), jgh, jgh, jgh, jgh, jgh, jgh, jgh, jgh]) rfl rfl rfl ?_
  refine jT_xiinc (x := 2) (z := 3) (L' := [(3, (0, 3)), (0, (4, 0)), (1, (4, 1)), (2, (0, 7 * x2))]) (pc' := 23) jI_197_20 rfl rfl (by decide) rfl rfl ?_
  refine jT_xgoto (pc' := 2) jI_197_23 rfl ?_
  refine jT_xiload_n (v := (0, 3)) (pc' := 3) jI_197_2 rfl rfl rfl ?_
  refine jT_xbipush (k := 6) (pc' := 5) jI_197_3 (by decide) rfl ?_
  refine jT_xicF (t := 26) (pc' := 8) jI_197_5 rfl (by decide +kernel) rfl rfl ?_
  refine jT_xaload_n (v := (4, 1)) (pc' := 9) jI_197_8 rfl rfl rfl ?_
  refine jT_xiload_n (v := (0, 7 * x2)) (pc' := 10) jI_197_9 rfl rfl rfl ?_
  refine jT_xiload_n (v := (0, 3)) (pc' := 11) jI_197_10 rfl rfl rfl ?_
  refine jT_xiadd (x := 7 * x2) (y := 3) (z := 7 * x2 + 3) (pc' := 12) jI_197_11 rfl (by omega) rfl ?_
  refine jT_xaload_n (v := (4, 0)) (pc' := 13) jI_197_12 rfl rfl rfl ?_
  refine jT_xgetf (a := 0) (t := 1) (ci := 14) (fi := 9) (c := jzA_127) (v := (4, 7)) (pc' := 16) jI_197_13 rfl rfl rfl rfl rfl rfl rfl ?_
  refine jT_xiload_n (v := (0, 3)) (pc' := 17) jI_197_16 rfl rfl rfl ?_
  refine jT_lald (x := 0) (a := 7) (j := 3) (fs := []) (X := [0, 0, 0, 0, 0, 0]) jI_197_17 rfl rfl rfl rfl ?_
  refine jT_eq (L' := [(3, (0, 3)), (0, (4, 0)), (1, (4, 1)), (2, (0, 7 * x2))]) (st' := [(1, 0), (0, 7 * x2 + 3), (4, 1)]) (hs' := [jzA_127, (100, [], ((((((jS0).set ((7 * x2).toNat) 0)).set ((7 * x2 + 1).toNat) 0)).set ((7 * x2 + 2).toNat) 0)), jgh, jgh, jgh, jgh, jgh, (101, [], [0, 0, 0, 0, 0, 0]), jgh, jgh, jgh, jgh, jgh, jgh, jgh, jgh]) rfl rfl rfl ?_
  refine jT_xl2i (pc' := 19) jI_197_18 rfl rfl ?_
  refine jT_iast (x := 0) (a := 1) (j := (7 * x2 + 3).toNat) (fs := []) (X := ((((((jS0).set ((7 * x2).toNat) 0)).set ((7 * x2 + 1).toNat) 0)).set ((7 * x2 + 2).toNat) 0)) (by rfl) (by rfl) (by rfl) (jw_nn (by omega) (by omega)) (by rw [show List.length (((((((jS0).set ((7 * x2).toNat) 0)).set ((7 * x2 + 1).toNat) 0)).set ((7 * x2 + 2).toNat) 0) : List Int) = 1613 from by rw [List.length_set, List.length_set, List.length_set]; exact (jS0_len)]; omega) ?_
  refine jT_eq (L' := [(3, (0, 3)), (0, (4, 0)), (1, (4, 1)), (2, (0, 7 * x2))]) (st' := []) (hs' := [jzA_127, (100, [], ((((((((jS0).set ((7 * x2).toNat) 0)).set ((7 * x2 + 1).toNat) 0)).set ((7 * x2 + 2).toNat) 0)).set ((7 * x2 + 3).toNat) 0)), jgh, jgh, jgh, jgh, jgh, (101, [], [0, 0, 0, 0, 0, 0]), jgh, jgh, jgh, jgh, jgh, jgh, jgh, jgh]) rfl rfl rfl ?_
  refine jT_xiinc (x := 3) (z := 4) (L' := [(3, (0, 4)), (0, (4, 0)), (1, (4, 1)), (2, (0, 7 * x2))]) (pc' := 23) jI_197_20 rfl rfl (by decide) rfl rfl ?_
  refine jT_xgoto (pc' := 2) jI_197_23 rfl ?_
  refine jT_xiload_n (v := (0, 4)) (pc' := 3) jI_197_2 rfl rfl rfl ?_
  refine jT_xbipush (k := 6) (pc' := 5) jI_197_3 (by decide) rfl ?_
  refine jT_xicF (t := 26) (pc' := 8) jI_197_5 rfl (by decide +kernel) rfl rfl ?_
  refine jT_xaload_n (v := (4, 1)) (pc' := 9) jI_197_8 rfl rfl rfl ?_
  refine jT_xiload_n (v := (0, 7 * x2)) (pc' := 10) jI_197_9 rfl rfl rfl ?_
  refine jT_xiload_n (v := (0, 4)) (pc' := 11) jI_197_10 rfl rfl rfl ?_
  refine jT_xiadd (x := 7 * x2) (y := 4) (z := 7 * x2 + 4) (pc' := 12) jI_197_11 rfl (by omega) rfl ?_
  refine jT_xaload_n (v := (4, 0)) (pc' := 13) jI_197_12 rfl rfl rfl ?_
  refine jT_xgetf (a := 0) (t := 1) (ci := 14) (fi := 9) (c := jzA_127) (v := (4, 7)) (pc' := 16) jI_197_13 rfl rfl rfl rfl rfl rfl rfl ?_
  refine jT_xiload_n (v := (0, 4)) (pc' := 17) jI_197_16 rfl rfl rfl ?_
  refine jT_lald (x := 0) (a := 7) (j := 4) (fs := []) (X := [0, 0, 0, 0, 0, 0]) jI_197_17 rfl rfl rfl rfl ?_
  refine jT_eq (L' := [(3, (0, 4)), (0, (4, 0)), (1, (4, 1)), (2, (0, 7 * x2))]) (st' := [(1, 0), (0, 7 * x2 + 4), (4, 1)]) (hs' := [jzA_127, (100, [], ((((((((jS0).set ((7 * x2).toNat) 0)).set ((7 * x2 + 1).toNat) 0)).set ((7 * x2 + 2).toNat) 0)).set ((7 * x2 + 3).toNat) 0)), jgh, jgh, jgh, jgh, jgh, (101, [], [0, 0, 0, 0, 0, 0]), jgh, jgh, jgh, jgh, jgh, jgh, jgh, jgh]) rfl rfl rfl ?_
  refine jT_xl2i (pc' := 19) jI_197_18 rfl rfl ?_
  refine jT_iast (x := 0) (a := 1) (j := (7 * x2 + 4).toNat) (fs := []) (X := ((((((((jS0).set ((7 * x2).toNat) 0)).set ((7 * x2 + 1).toNat) 0)).set ((7 * x2 + 2).toNat) 0)).set ((7 * x2 + 3).toNat) 0)) (by rfl) (by rfl) (by rfl) (jw_nn (by omega) (by omega)) (by rw [show List.length (((((((((jS0).set ((7 * x2).toNat) 0)).set ((7 * x2 + 1).toNat) 0)).set ((7 * x2 + 2).toNat) 0)).set ((7 * x2 + 3).toNat) 0) : List Int) = 1613 from by rw [List.length_set, List.length_set, List.length_set, List.length_set]; exact (jS0_len)]; omega) ?_
  refine jT_eq (L' := [(3, (0, 4)), (0, (4, 0)), (1, (4, 1)), (2, (0, 7 * x2))]) (st' := []) (hs' := [jzA_127, (100, [], ((((((((((jS0).set ((7 * x2).toNat) 0)).set ((7 * x2 + 1).toNat) 0)).set ((7 * x2 + 2).toNat) 0)).set ((7 * x2 + 3).toNat) 0)).set ((7 * x2 + 4).toNat) 0)), jgh, jgh, jgh, jgh, jgh, (101, [], [0, 0, 0, 0, 0, 0]), jgh, jgh, jgh, jgh, jgh, jgh, jgh, jgh]) rfl rfl rfl ?_
  refine jT_xiinc (x := 4) (z := 5) (L' := [(3, (0, 5)), (0, (4, 0)), (1, (4, 1)), (2, (0, 7 * x2))]) (pc' := 23) jI_197_20 rfl rfl (by decide) rfl rfl ?_
  refine jT_xgoto (pc' := 2) jI_197_23 rfl ?_
  refine jT_xiload_n (v := (0, 5)) (pc' := 3) jI_197_2 rfl rfl rfl ?_
  refine jT_xbipush (k := 6) (pc' := 5) jI_197_3 (by decide) rfl ?_
  refine jT_xicF (t := 26) (pc' := 8) jI_197_5 rfl (by decide +kernel) rfl rfl ?_
  refine jT_xaload_n (v := (4, 1)) (pc' := 9) jI_197_8 rfl rfl rfl ?_
  refine jT_xiload_n (v := (0, 7 * x2)) (pc' := 10) jI_197_9 rfl rfl rfl ?_
  refine jT_xiload_n (v := (0, 5)) (pc' := 11) jI_197_10 rfl rfl rfl ?_
  refine jT_xiadd (x := 7 * x2) (y := 5) (z := 7 * x2 + 5) (pc' := 12) jI_197_11 rfl (by omega) rfl ?_
  refine jT_xaload_n (v := (4, 0)) (pc' := 13) jI_197_12 rfl rfl rfl ?_
  refine jT_xgetf (a := 0) (t := 1) (ci := 14) (fi := 9) (c := jzA_127) (v := (4, 7)) (pc' := 16) jI_197_13 rfl rfl rfl rfl rfl rfl rfl ?_
  refine jT_xiload_n (v := (0, 5)) (pc' := 17) jI_197_16 rfl rfl rfl ?_
  refine jT_lald (x := 0) (a := 7) (j := 5) (fs := []) (X := [0, 0, 0, 0, 0, 0]) jI_197_17 rfl rfl rfl rfl ?_
  refine jT_eq (L' := [(3, (0, 5)), (0, (4, 0)), (1, (4, 1)), (2, (0, 7 * x2))]) (st' := [(1, 0), (0, 7 * x2 + 5), (4, 1)]) (hs' := [jzA_127, (100, [], ((((((((((jS0).set ((7 * x2).toNat) 0)).set ((7 * x2 + 1).toNat) 0)).set ((7 * x2 + 2).toNat) 0)).set ((7 * x2 + 3).toNat) 0)).set ((7 * x2 + 4).toNat) 0)), jgh, jgh, jgh, jgh, jgh, (101, [], [0, 0, 0, 0, 0, 0]), jgh, jgh, jgh, jgh, jgh, jgh, jgh, jgh]) rfl rfl rfl ?_
  refine jT_xl2i (pc' := 19) jI_197_18 rfl rfl ?_
  refine jT_iast (x := 0) (a := 1) (j := (7 * x2 + 5).toNat) (fs := []) (X := ((((((((((jS0).set ((7 * x2).toNat) 0)).set ((7 * x2 + 1).toNat) 0)).set ((7 * x2 + 2).toNat) 0)).set ((7 * x2 + 3).toNat) 0)).set ((7 * x2 + 4).toNat) 0)) (by rfl) (by rfl) (by rfl) (jw_nn (by omega) (by omega)) (by rw [show List.length (((((((((((jS0).set ((7 * x2).toNat) 0)).set ((7 * x2 + 1).toNat) 0)).set ((7 * x2 + 2).toNat) 0)).set ((7 * x2 + 3).toNat) 0)).set ((7 * x2 + 4).toNat) 0) : List Int) = 1613 from by rw [List.length_set, List.length_set, List.length_set, List.length_set, List.length_set]; exact (jS0_len)]; omega) ?_
  refine jT_eq (L' := [(3, (0, 5)), (0, (4, 0)), (1, (4, 1)), (2, (0, 7 * x2))]) (st' := []) (hs' := [jzA_127, (100, [], ((((((((((((jS0).set ((7 * x2).toNat) 0)).set ((7 * x2 + 1).toNat) 0)).set ((7 * x2 + 2).toNat) 0)).set ((7 * x2 + 3).toNat) 0)).set ((7 * x2 + 4).toNat) 0)).set ((7 * x2 + 5).toNat) 0)), jgh, jgh, jgh, jgh, jgh, (101, [], [0, 0, 0, 0, 0, 0]), jgh, jgh, jgh, jgh, jgh, jgh, jgh, jgh]) rfl rfl rfl ?_
  refine jT_xiinc (x := 5) (z := 6) (L' := [(3, (0, 6)), (0, (4, 0)), (1, (4, 1)), (2, (0, 7 * x2))]) (pc' := 23) jI_197_20 rfl rfl (by decide) rfl rfl ?_
  refine jT_xgoto (pc' := 2) jI_197_23 rfl ?_
  refine jT_xiload_n (v := (0, 6)) (pc' := 3) jI_197_2 rfl rfl rfl ?_
  refine jT_xbipush (k := 6) (pc' := 5) jI_197_3 (by decide) rfl ?_
  refine jT_xicT (pc' := 26) jI_197_5 rfl (by decide +kernel) rfl ?_
  refine jT_xaload_n (v := (4, 1)) (pc' := 27) jI_197_26 rfl rfl rfl ?_
  refine jT_xiload_n (v := (0, 7 * x2)) (pc' := 28) jI_197_27 rfl rfl rfl ?_
  refine jT_xbipush (k := 6) (pc' := 30) jI_197_28 (by decide) rfl ?_
  refine jT_xiadd (x := 7 * x2) (y := 6) (z := 7 * x2 + 6) (pc' := 31) jI_197_30 rfl (by omega) rfl ?_
  refine jT_xaload_n (v := (4, 0)) (pc' := 32) jI_197_31 rfl rfl rfl ?_
  refine jT_xgetf (a := 0) (t := 1) (ci := 14) (fi := 10) (c := jzA_127) (v := (1, 1)) (pc' := 35) jI_197_32 rfl rfl rfl rfl rfl rfl rfl ?_
  refine jT_xl2i (pc' := 36) jI_197_35 rfl rfl ?_
  refine jT_iast (x := 1) (a := 1) (j := (7 * x2 + 6).toNat) (fs := []) (X := ((((((((((((jS0).set ((7 * x2).toNat) 0)).set ((7 * x2 + 1).toNat) 0)).set ((7 * x2 + 2).toNat) 0)).set ((7 * x2 + 3).toNat) 0)).set ((7 * x2 + 4).toNat) 0)).set ((7 * x2 + 5).toNat) 0)) (by rfl) (by rfl) (by rfl) (jw_nn (by omega) (by omega)) (by rw [show List.length (((((((((((((jS0).set ((7 * x2).toNat) 0)).set ((7 * x2 + 1).toNat) 0)).set ((7 * x2 + 2).toNat) 0)).set ((7 * x2 + 3).toNat) 0)).set ((7 * x2 + 4).toNat) 0)).set ((7 * x2 + 5).toNat) 0) : List Int) = 1613 from by rw [List.length_set, List.length_set, List.length_set, List.length_set, List.length_set, List.length_set]; exact (jS0_len)]; omega) ?_
  refine jT_eq (L' := [(3, (0, 6)), (0, (4, 0)), (1, (4, 1)), (2, (0, 7 * x2))]) (st' := []) (hs' := [jzA_127, (100, [], ((((((((((((((jS0).set ((7 * x2).toNat) 0)).set ((7 * x2 + 1).toNat) 0)).set ((7 * x2 + 2).toNat) 0)).set ((7 * x2 + 3).toNat) 0)).set ((7 * x2 + 4).toNat) 0)).set ((7 * x2 + 5).toNat) 0)).set ((7 * x2 + 6).toNat) 1)), jgh, jgh, jgh, jgh, jgh, (101, [], [0, 0, 0, 0, 0, 0]), jgh, jgh, jgh, jgh, jgh, jgh, jgh, jgh]) rfl rfl rfl ?_
  exact jT_ret rfl (by decide) (by show 16 ≤ 16; decide) (by omega) (by omega) ⟨rfl, rfl, rfl⟩
theorem jI_196_0 : jmI (jm 196) 0 = (.aload_n 0, 1) := by rfl
theorem jI_196_1 : jmI (jm 196) 1 = (.aload_n 0, 1) := by rfl
theorem jI_196_2 : jmI (jm 196) 2 = (.getfield 9, 3) := by rfl
theorem jI_196_5 : jmI (jm 196) 5 = (.bipush 7, 2) := by rfl
theorem jI_196_7 : jmI (jm 196) 7 = (.iload_n 1, 1) := by rfl
theorem jI_196_8 : jmI (jm 196) 8 = (.imul, 1) := by rfl
theorem jI_196_12 : jmI (jm 196) 12 = (.aload_n 0, 1) := by rfl
theorem jI_196_13 : jmI (jm 196) 13 = (.getfield 35, 3) := by rfl
theorem jI_196_16 : jmI (jm 196) 16 = (.l2i, 1) := by rfl
theorem jA_196_40 {xs : List Int} {d : Nat} {x2 : Int} (h_x2 : 0 ≤ x2 ∧ x2 ≤ 7) : jT xs (d + 1) 196 16 0 [(0, (4, 0)), (1, (0, x2))] [] jpA_144 0 0 (fun k v hs' => k = 0 ∧ v = (0, 1) ∧ hs' = [jzA_127, (100, [], ((((((((((((((jS0).set ((7 * x2).toNat) 0)).set ((7 * x2 + 1).toNat) 0)).set ((7 * x2 + 2).toNat) 0)).set ((7 * x2 + 3).toNat) 0)).set ((7 * x2 + 4).toNat) 0)).set ((7 * x2 + 5).toNat) 0)).set ((7 * x2 + 6).toNat) 1)), jgh, jgh, jgh, jgh, jgh, (101, [], [0, 0, 0, 0, 0, 0]), jgh, jgh, jgh, jgh, jgh, jgh, jgh, jgh]) := by
  refine jT_xaload_n (v := (4, 0)) (pc' := 1) jI_196_0 rfl rfl rfl ?_
  refine jT_xaload_n (v := (4, 0)) (pc' := 2) jI_196_1 rfl rfl rfl ?_
  refine jT_xgetf (a := 0) (t := 1) (ci := 14) (fi := 1) (c := jzA_127) (v := (4, 1)) (pc' := 5) jI_196_2 rfl rfl rfl rfl rfl rfl rfl ?_
  refine jT_xbipush (k := 7) (pc' := 7) jI_196_5 (by decide) rfl ?_
  refine jT_xiload_n (v := (0, x2)) (pc' := 8) jI_196_7 rfl rfl rfl ?_
  refine jT_ximul (x := 7) (y := x2) (z := 7 * x2) (pc' := 9) jI_196_8 rfl (rfl) rfl ?_
  refine jT_fB [0, 1, 2, 3, 4, 5, 6, 7, 8, 9, 10, 11, 12, 13, 14, 15] 16 (y := 197) (pc' := 12) (dC := 0) (bc1 := 0) (bc2 := 0) (c1 := 0) (c2 := 0) (as := [(4, 0), (4, 1), (0, 7 * x2)]) (asC := [(4, 0), (4, 1), (0, 7 * x2)]) (L' := [(0, (4, 0)), (1, (0, x2))]) (st' := []) (hsC := jpA_144) (hsD := [jzA_127, (100, [], ((((((((((((((jS0).set ((7 * x2).toNat) 0)).set ((7 * x2 + 1).toNat) 0)).set ((7 * x2 + 2).toNat) 0)).set ((7 * x2 + 3).toNat) 0)).set ((7 * x2 + 4).toNat) 0)).set ((7 * x2 + 5).toNat) 0)).set ((7 * x2 + 6).toNat) 1)), jgh, jgh, jgh, jgh, jgh, (101, [], [0, 0, 0, 0, 0, 0]), jgh, jgh, jgh, jgh, jgh, jgh, jgh, jgh]) (v := (9, 0)) (st2 := []) (hs2 := [jzA_127, (100, [], ((((((((((((((jS0).set ((7 * x2).toNat) 0)).set ((7 * x2 + 1).toNat) 0)).set ((7 * x2 + 2).toNat) 0)).set ((7 * x2 + 3).toNat) 0)).set ((7 * x2 + 4).toNat) 0)).set ((7 * x2 + 5).toNat) 0)).set ((7 * x2 + 6).toNat) 1)), jgh, jgh, jgh, jgh, jgh, (101, [], [0, 0, 0, 0, 0, 0]), jgh, jgh, jgh, jgh, jgh, jgh, jgh, jgh]) (jA_197_39 (d := 0) (by omega)) (by rfl) (by rfl) (by decide +kernel) (by rfl) (by rfl) (by omega) (by omega) (by omega) (by omega) rfl rfl ?_
  refine jT_xaload_n (v := (4, 0)) (pc' := 13) jI_196_12 rfl rfl rfl ?_
  refine jT_xgetf (a := 0) (t := 1) (ci := 14) (fi := 10) (c := jzA_127) (v := (1, 1)) (pc' := 16) jI_196_13 rfl rfl rfl rfl rfl rfl rfl ?_
  refine jT_xl2i (pc' := 17) jI_196_16 rfl rfl ?_
  exact jT_ret rfl (by decide) (by show 16 ≤ 16; decide) (by omega) (by omega) ⟨rfl, rfl, rfl⟩
theorem jA_211_41 {xs : List Int} {d : Nat} : jT xs d 211 1 0 [(0, (4, 0))] [] [(101, [], [1, 0, 0, 0, 0, 0])] 0 0 (fun k v hs' => k = 0 ∧ v = (3, 4607182418800017408) ∧ hs' = [(101, [], [1, 0, 0, 0, 0, 0])] ++ []) := by
  refine jT_advK 3 (pc' := 3) (L' := [(0, (4, 0))]) (st' := [(1, 1)]) (hs' := [(101, [], [1, 0, 0, 0, 0, 0])]) (c1 := 0) (s1 := 0) (c2 := 0) (s2 := 0) (by decide +kernel) ?_ (by omega) (by omega)
  refine jT_l2d (x := 1) (z := 4607182418800017408) (by rfl) (by rfl) (by decide +kernel) ?_
  refine jT_advK 4 (pc' := 10) (L' := [(0, (4, 0))]) (st' := [(1, 0), (3, 4609816855700290920), (3, 4607182418800017408)]) (hs' := [(101, [], [1, 0, 0, 0, 0, 0])]) (c1 := 0) (s1 := 0) (c2 := 0) (s2 := 0) (by decide +kernel) ?_ (by omega) (by omega)
  refine jT_l2d (x := 0) (z := 0) (by rfl) (by rfl) (by decide +kernel) ?_
  refine jT_dmul (x := 4609816855700290920) (y := 0) (z := 0) (by rfl) (by rfl) (by decide +kernel) ?_
  refine jT_dadd (x := 4607182418800017408) (y := 0) (z := 4607182418800017408) (by rfl) (by rfl) (by decide +kernel) ?_
  refine jT_advK 4 (pc' := 19) (L' := [(0, (4, 0))]) (st' := [(1, 0), (3, 4612410936051475313), (3, 4607182418800017408)]) (hs' := [(101, [], [1, 0, 0, 0, 0, 0])]) (c1 := 0) (s1 := 0) (c2 := 0) (s2 := 0) (by decide +kernel) ?_ (by omega) (by omega)
  refine jT_l2d (x := 0) (z := 0) (by rfl) (by rfl) (by decide +kernel) ?_
  refine jT_dmul (x := 4612410936051475313) (y := 0) (z := 0) (by rfl) (by rfl) (by decide +kernel) ?_
  refine jT_dadd (x := 4607182418800017408) (y := 0) (z := 4607182418800017408) (by rfl) (by rfl) (by decide +kernel) ?_
  refine jT_advK 4 (pc' := 28) (L' := [(0, (4, 0))]) (st' := [(1, 0), (3, 4613504020090455085), (3, 4607182418800017408)]) (hs' := [(101, [], [1, 0, 0, 0, 0, 0])]) (c1 := 0) (s1 := 0) (c2 := 0) (s2 := 0) (by decide +kernel) ?_ (by omega) (by omega)
  refine jT_l2d (x := 0) (z := 0) (by rfl) (by rfl) (by decide +kernel) ?_
  refine jT_dmul (x := 4613504020090455085) (y := 0) (z := 0) (by rfl) (by rfl) (by decide +kernel) ?_
  refine jT_dadd (x := 4607182418800017408) (y := 0) (z := 4607182418800017408) (by rfl) (by rfl) (by decide +kernel) ?_
  refine jT_advK 4 (pc' := 37) (L' := [(0, (4, 0))]) (st' := [(1, 0), (3, 4614972366274321729), (3, 4607182418800017408)]) (hs' := [(101, [], [1, 0, 0, 0, 0, 0])]) (c1 := 0) (s1 := 0) (c2 := 0) (s2 := 0) (by decide +kernel) ?_ (by omega) (by omega)
  refine jT_l2d (x := 0) (z := 0) (by rfl) (by rfl) (by decide +kernel) ?_
  refine jT_dmul (x := 4614972366274321729) (y := 0) (z := 0) (by rfl) (by rfl) (by decide +kernel) ?_
  refine jT_dadd (x := 4607182418800017408) (y := 0) (z := 4607182418800017408) (by rfl) (by rfl) (by decide +kernel) ?_
  refine jT_advK 4 (pc' := 46) (L' := [(0, (4, 0))]) (st' := [(1, 0), (3, 4615515068267881011), (3, 4607182418800017408)]) (hs' := [(101, [], [1, 0, 0, 0, 0, 0])]) (c1 := 0) (s1 := 0) (c2 := 0) (s2 := 0) (by decide +kernel) ?_ (by omega) (by omega)
  refine jT_l2d (x := 0) (z := 0) (by rfl) (by rfl) (by decide +kernel) ?_
  refine jT_dmul (x := 4615515068267881011) (y := 0) (z := 0) (by rfl) (by rfl) (by decide +kernel) ?_
  refine jT_dadd (x := 4607182418800017408) (y := 0) (z := 4607182418800017408) (by rfl) (by rfl) (by decide +kernel) ?_
  exact jT_ret rfl (by decide) (by show 1 ≤ 1; decide) (by omega) (by omega) ⟨rfl, rfl, rfl⟩
theorem jA_200_42 {xs : List Int} {d : Nat} : jT xs d 200 1 0 [(0, (4, 0))] [] [(101, [], [1, 0, 0, 0, 0, 0])] 0 0 (fun k v hs' => k = 0 ∧ v = (0, 0) ∧ hs' = [(101, [], [1, 0, 0, 0, 0, 0])] ++ []) := by
  refine jT_advK 12 (pc' := 17) (L' := [(1, (0, 0)), (0, (4, 0))]) (st' := [(0, 0)]) (hs' := [(101, [], [1, 0, 0, 0, 0, 0])]) (c1 := 0) (s1 := 0) (c2 := 0) (s2 := 0) (by decide +kernel) ?_ (by omega) (by omega)
  exact jT_ret rfl (by decide) (by show 1 ≤ 1; decide) (by omega) (by omega) ⟨rfl, rfl, rfl⟩
def jzA_164 : JC := (14, [(0, 0), (4, 2), (4, 3), (4, 4), (4, 5), (0, 1), (4, 6), (0, 0), (4, 7), (4, 8), (1, 1), (4, 9), (0, 0), (4, 10), (0, 0), (0, 0), (0, 0), (0, 0), (0, 0), (0, 0), (0, 0), (4, 11), (4, 12), (4, 13), (4, 14), (4, 15), (4, 16), (0, 0)], [])
def jpA_165 : List JC := [jzA_164, (101, [], [1, 0, 0, 0, 0, 0]), jgh, jgh, jgh, jgh, jgh, (130, [], [17, 18, 19, 20, 21, 22]), jgh, jgh, jgh, jgh, jgh, jgh, jgh, jgh, jgh, (100, [], (jenc (jlg 0))), jgh, jgh, jgh, jgh, jgh, (100, [], List.replicate 56 0)]
def jpA_166 : List JC := [jzA_164, (101, [], [1, 0, 0, 0, 0, 0]), jgh, jgh, jgh, jgh, jgh, (130, [], [17, 18, 19, 20, 21, 22]), jgh, jgh, jgh, jgh, jgh, jgh, jgh, jgh, jgh, (100, [], (jenc (jlg 0))), jgh, jgh, jgh, jgh, jgh, (100, [], List.replicate 56 0), (100, [], (jenc 1))]
def jpA_167 : List JC := [jzA_164, (101, [], [1, 0, 0, 0, 0, 0]), jgh, jgh, jgh, jgh, jgh, (130, [], [17, 18, 19, 20, 21, 22]), jgh, jgh, jgh, jgh, jgh, jgh, jgh, jgh, jgh, (100, [], (jenc (jlg 0))), jgh, jgh, jgh, jgh, jgh, (100, [], List.replicate 56 0), (100, [], (jenc 1)), (100, [], (jenc (1 * (jlg 0))))]
def jpA_168 : List JC := [jzA_164, (101, [], [1, 0, 0, 0, 0, 0]), jgh, jgh, jgh, jgh, jgh, (130, [], [17, 18, 19, 20, 21, 22]), jgh, jgh, jgh, jgh, jgh, jgh, jgh, jgh, jgh, (100, [], (jenc (jlg 0))), jgh, jgh, jgh, jgh, jgh, (100, [], (jenc 0)), (100, [], (jenc 1)), (100, [], (jenc (1 * (jlg 0))))]
def jpA_169 : List JC := [jzA_164, (101, [], [1, 0, 0, 0, 0, 0]), jgh, jgh, jgh, jgh, jgh, (130, [], [17, 18, 19, 20, 21, 22]), jgh, jgh, jgh, jgh, jgh, jgh, jgh, jgh, jgh, (100, [], (jenc (jlg 0))), jgh, jgh, jgh, jgh, jgh]
theorem jA_214_43 {xs : List Int} {d : Nat} : jT xs (d + 2) 214 23 0 [(0, (4, 0)), (1, (4, 1))] [] jpA_169 3 168 (fun k v hs' => k = 0 ∧ v = (4, 25) ∧ hs' = jpA_169 ++ [(100, [], (jenc 0)), (100, [], (jenc 1)), (100, [], (jenc (1 * (jlg 0))))]) := by
  refine jT_advK 18 (pc' := 25) (L' := [(3, (0, 0)), (2, (4, 23)), (0, (4, 0)), (1, (4, 1))]) (st' := [(1, 1), (4, 23)]) (hs' := jpA_165) (c1 := 1) (s1 := 56) (c2 := 2) (s2 := 112) (by decide +kernel) ?_ (by omega) (by omega)
  refine jT_fA [] 24 (y := 178) (pc' := 28) (dC := 1) (bc1 := 1) (bc2 := 56) (c1 := 1) (c2 := 56) (as := [(1, 1)]) (asC := [(1, 1)]) (L' := [(3, (0, 0)), (2, (4, 23)), (0, (4, 0)), (1, (4, 1))]) (st' := [(4, 23)]) (hsC := []) (ex := [(100, [], (jenc 1))]) (v := (4, 0)) (st2 := [(4, 24), (4, 23)]) (hs2 := jpA_166) (jT_big (d := 0) (v := 1) (by omega) (by omega)) (by rfl) (by rfl) (by decide +kernel) (by rfl) (by rfl) (by omega) (by omega) (by omega) (by omega) rfl (by decide +kernel) ?_
  refine jT_advK 4 (pc' := 34) (L' := [(3, (0, 0)), (2, (4, 23)), (0, (4, 0)), (1, (4, 1))]) (st' := [(4, 17), (4, 24), (4, 23)]) (hs' := jpA_166) (c1 := 0) (s1 := 0) (c2 := 1) (s2 := 56) (by decide +kernel) ?_ (by omega) (by omega)
  refine jT_fA [24, 17] 25 (y := 179) (pc' := 37) (dC := 1) (bc1 := 1) (bc2 := 56) (c1 := 0) (c2 := 0) (as := [(4, 24), (4, 17)]) (asC := [(4, 0), (4, 1)]) (L' := [(3, (0, 0)), (2, (4, 23)), (0, (4, 0)), (1, (4, 1))]) (st' := [(4, 23)]) (hsC := [(100, [], (jenc 1)), (100, [], (jenc (jlg 0)))]) (ex := [(100, [], (jenc (1 * (jlg 0))))]) (v := (4, 2)) (st2 := [(4, 25), (4, 23)]) (hs2 := jpA_167) (jT_product (d := 0) (a := 1) (b := jlg 0) (by decide +kernel) (by decide +kernel)) (by rfl) (by rfl) (by decide +kernel) (by rfl) (by rfl) (by omega) (by omega) (by omega) (by omega) rfl (by decide +kernel) ?_
  refine jT_eq (L' := [(3, (0, 0)), (2, (4, 23)), (0, (4, 0)), (1, (4, 1))]) (st' := [(4, 25), (4, 23)]) (hs' := [jzA_164, (101, [], [1, 0, 0, 0, 0, 0]), jgh, jgh, jgh, jgh, jgh, (130, [], [17, 18, 19, 20, 21, 22]), jgh, jgh, jgh, jgh, jgh, jgh, jgh, jgh, jgh, (100, [], (jenc (jlg 0))), jgh, jgh, jgh, jgh, jgh, (100, [], (jenc 0)), (100, [], (jenc 1)), (100, [], (jenc (1 * (jlg 0))))]) rfl rfl (by show [jzA_164, (101, [], [1, 0, 0, 0, 0, 0]), jgh, jgh, jgh, jgh, jgh, (130, [], [17, 18, 19, 20, 21, 22]), jgh, jgh, jgh, jgh, jgh, jgh, jgh, jgh, jgh, (100, [], (jenc (jlg 0))), jgh, jgh, jgh, jgh, jgh, (100, [], List.replicate 56 0), (100, [], (jenc 1)), (100, [], (jenc (1 * (jlg 0))))] = _; rw [jrep56e]) ?_
  refine jT_fR [23, 25] 26 (y := 181) (pc' := 40) (dC := 0) (bc1 := 0) (bc2 := 0) (c1 := 0) (c2 := 0) (as := [(4, 23), (4, 25)]) (asC := [(4, 0), (4, 1)]) (L' := [(3, (0, 0)), (2, (4, 23)), (0, (4, 0)), (1, (4, 1))]) (st' := []) (hsC := [(100, [], (jenc 0)), (100, [], (jenc (1 * (jlg 0))))]) (v := (4, 1)) (st2 := [(4, 25)]) (jT_added_0l (d := 0) (b := 1 * (jlg 0))) (by rfl) (by rfl) (by decide +kernel) (by rfl) (by rfl) (by omega) (by omega) (by omega) (by omega) rfl ?_
  refine jT_advK 62 (pc' := 48) (L' := [(3, (0, 6)), (2, (4, 25)), (0, (4, 0)), (1, (4, 1))]) (st' := [(4, 25)]) (hs' := jpA_168) (c1 := 0) (s1 := 0) (c2 := 0) (s2 := 0) (by decide +kernel) ?_ (by omega) (by omega)
  exact jT_ret rfl (by decide) (by show 23 ≤ 26; decide) (by omega) (by omega) ⟨rfl, rfl, rfl⟩
theorem jI_213_17 : jmI (jm 213) 17 = (.iaload, 1) := by rfl
theorem jA_213_44 {xs : List Int} {d : Nat} : jT xs (d + 3) 213 23 0 [(0, (4, 0)), (1, (4, 1))] [] jpA_169 3 168 (fun k v hs' => k = 0 ∧ v = (0, 1) ∧ hs' = jpA_169 ++ [(100, [], (jenc 0)), (100, [], (jenc 1)), (100, [], (jenc (1 * (jlg 0))))]) := by
  refine jT_advK 1 (pc' := 1) (L' := [(0, (4, 0)), (1, (4, 1))]) (st' := [(4, 1)]) (hs' := jpA_169) (c1 := 0) (s1 := 0) (c2 := 3) (s2 := 168) (by decide +kernel) ?_ (by omega) (by omega)
  refine jT_fR [1] 23 (y := 200) (pc' := 4) (dC := 0) (bc1 := 0) (bc2 := 0) (c1 := 3) (c2 := 168) (as := [(4, 1)]) (asC := [(4, 0)]) (L' := [(0, (4, 0)), (1, (4, 1))]) (st' := []) (hsC := [(101, [], [1, 0, 0, 0, 0, 0])]) (v := (0, 0)) (st2 := [(0, 0)]) (jA_200_42 (d := 0)) (by rfl) (by rfl) (by decide +kernel) (by rfl) (by rfl) (by omega) (by omega) (by omega) (by omega) rfl ?_
  refine jT_advK 3 (pc' := 13) (L' := [(0, (4, 0)), (1, (4, 1))]) (st' := [(4, 1), (4, 0)]) (hs' := jpA_169) (c1 := 0) (s1 := 0) (c2 := 3) (s2 := 168) (by decide +kernel) ?_ (by omega) (by omega)
  refine jT_fA [0, 1, 2, 3, 4, 5, 6, 7, 8, 9, 10, 11, 12, 13, 14, 15, 16, 17, 18, 19, 20, 21, 22] 23 (y := 214) (pc' := 16) (dC := 2) (bc1 := 3) (bc2 := 168) (c1 := 0) (c2 := 0) (as := [(4, 0), (4, 1)]) (asC := [(4, 0), (4, 1)]) (L' := [(0, (4, 0)), (1, (4, 1))]) (st' := []) (hsC := jpA_169) (ex := [(100, [], (jenc 0)), (100, [], (jenc 1)), (100, [], (jenc (1 * (jlg 0))))]) (v := (4, 25)) (st2 := [(4, 25)]) (hs2 := jpA_168) (jA_214_43 (d := 0)) (by rfl) (by rfl) (by decide +kernel) (by rfl) (by rfl) (by omega) (by omega) (by omega) (by omega) rfl (by decide +kernel) ?_
  refine jT_advK 1 (pc' := 17) (L' := [(0, (4, 0)), (1, (4, 1))]) (st' := [(0, 0), (4, 25)]) (hs' := jpA_168) (c1 := 0) (s1 := 0) (c2 := 0) (s2 := 0) (by decide +kernel) ?_ (by omega) (by omega)
  refine jT_iald (x := 1) (a := 25) (j := 0) (fs := []) (X := (jenc (1 * (jlg 0)))) (by rfl) (by rfl) (by rfl) (by rfl) (jenc_sg (by decide +kernel)) ?_
  refine jT_eq (L' := [(0, (4, 0)), (1, (4, 1))]) (st' := [(0, 1)]) (hs' := jpA_168) rfl rfl rfl ?_
  exact jT_ret rfl (by decide) (by show 23 ≤ 26; decide) (by omega) (by omega) ⟨rfl, rfl, rfl⟩
def jpA_171 : List JC := [jzA_164, (101, [], [1, 0, 0, 0, 0, 0]), jgh, jgh, jgh, jgh, jgh, (130, [], [17, 18, 19, 20, 21, 22]), jgh, jgh, jgh, jgh, jgh, jgh, jgh, jgh, jgh, (100, [], (jenc (jlg 0))), jgh, jgh, jgh, jgh, jgh, (101, [], [1, 0, 0, 0, 0, 0])]
def jpA_172 : List JC := [jzA_164, (101, [], [1, 0, 0, 0, 0, 0]), jgh, jgh, jgh, jgh, jgh, (130, [], [17, 18, 19, 20, 21, 22]), jgh, jgh, jgh, jgh, jgh, jgh, jgh, jgh, jgh, (100, [], (jenc (jlg 0))), jgh, jgh, jgh, jgh, jgh, (101, [], [1, 0, 0, 0, 0, 0]), (100, [], (jenc 0)), (100, [], (jenc 1)), (100, [], (jenc (1 * (jlg 0))))]
def jpA_173 : List JC := [(101, [], [1, 0, 0, 0, 0, 0]), (100, [], (jenc 0)), (100, [], (jenc 1)), (100, [], (jenc (1 * (jlg 0))))]
theorem jA_212_45 {xs : List Int} {d : Nat} : jT xs (d + 4) 212 23 0 [(0, (4, 0)), (1, (4, 1)), (2, (1, 0))] [] jpA_169 4 174 (fun k v hs' => k = 0 ∧ v = (0, 1) ∧ hs' = jpA_169 ++ jpA_173) := by
  refine jT_advK 18 (pc' := 27) (L' := [(4, (4, 23)), (0, (4, 0)), (1, (4, 1)), (2, (1, 0))]) (st' := [(4, 23), (4, 0)]) (hs' := jpA_171) (c1 := 1) (s1 := 6) (c2 := 3) (s2 := 168) (by decide +kernel) ?_ (by omega) (by omega)
  refine jT_fA [0, 23, 2, 3, 4, 5, 6, 7, 8, 9, 10, 11, 12, 13, 14, 15, 16, 17, 18, 19, 20, 21, 22] 24 (y := 213) (pc' := 30) (dC := 3) (bc1 := 3) (bc2 := 168) (c1 := 0) (c2 := 0) (as := [(4, 0), (4, 23)]) (asC := [(4, 0), (4, 1)]) (L' := [(4, (4, 23)), (0, (4, 0)), (1, (4, 1)), (2, (1, 0))]) (st' := []) (hsC := jpA_169) (ex := [(100, [], (jenc 0)), (100, [], (jenc 1)), (100, [], (jenc (1 * (jlg 0))))]) (v := (0, 1)) (st2 := [(0, 1)]) (hs2 := jpA_172) (jA_213_44 (d := 0)) (by rfl) (by rfl) (by decide +kernel) (by rfl) (by rfl) (by omega) (by omega) (by omega) (by omega) rfl (by decide +kernel) ?_
  exact jT_ret rfl (by decide) (by show 23 ≤ 27; decide) (by omega) (by omega) ⟨rfl, rfl, rfl⟩
theorem jA_200_46 {xs : List Int} {d : Nat} : jT xs d 200 1 0 [(0, (4, 0))] [] [(101, [], [(-1), 0, 0, 0, 0, 0])] 0 0 (fun k v hs' => k = 0 ∧ v = (0, 0) ∧ hs' = [(101, [], [(-1), 0, 0, 0, 0, 0])] ++ []) := by
  refine jT_advK 12 (pc' := 17) (L' := [(1, (0, 0)), (0, (4, 0))]) (st' := [(0, 0)]) (hs' := [(101, [], [(-1), 0, 0, 0, 0, 0])]) (c1 := 0) (s1 := 0) (c2 := 0) (s2 := 0) (by decide +kernel) ?_ (by omega) (by omega)
  exact jT_ret rfl (by decide) (by show 1 ≤ 1; decide) (by omega) (by omega) ⟨rfl, rfl, rfl⟩
def jpA_174 : List JC := [jzA_164, (101, [], [(-1), 0, 0, 0, 0, 0]), jgh, jgh, jgh, jgh, jgh, (130, [], [17, 18, 19, 20, 21, 22]), jgh, jgh, jgh, jgh, jgh, jgh, jgh, jgh, jgh, (100, [], (jenc (jlg 0))), jgh, jgh, jgh, jgh, jgh, (100, [], List.replicate 56 0)]
def jpA_175 : List JC := [jzA_164, (101, [], [(-1), 0, 0, 0, 0, 0]), jgh, jgh, jgh, jgh, jgh, (130, [], [17, 18, 19, 20, 21, 22]), jgh, jgh, jgh, jgh, jgh, jgh, jgh, jgh, jgh, (100, [], (jenc (jlg 0))), jgh, jgh, jgh, jgh, jgh, (100, [], List.replicate 56 0), (100, [], (jenc (-1)))]
def jpA_176 : List JC := [jzA_164, (101, [], [(-1), 0, 0, 0, 0, 0]), jgh, jgh, jgh, jgh, jgh, (130, [], [17, 18, 19, 20, 21, 22]), jgh, jgh, jgh, jgh, jgh, jgh, jgh, jgh, jgh, (100, [], (jenc (jlg 0))), jgh, jgh, jgh, jgh, jgh, (100, [], List.replicate 56 0), (100, [], (jenc (-1))), (100, [], (jenc ((-1) * (jlg 0))))]
def jpA_177 : List JC := [jzA_164, (101, [], [(-1), 0, 0, 0, 0, 0]), jgh, jgh, jgh, jgh, jgh, (130, [], [17, 18, 19, 20, 21, 22]), jgh, jgh, jgh, jgh, jgh, jgh, jgh, jgh, jgh, (100, [], (jenc (jlg 0))), jgh, jgh, jgh, jgh, jgh, (100, [], (jenc 0)), (100, [], (jenc (-1))), (100, [], (jenc ((-1) * (jlg 0))))]
def jpA_178 : List JC := [jzA_164, (101, [], [(-1), 0, 0, 0, 0, 0]), jgh, jgh, jgh, jgh, jgh, (130, [], [17, 18, 19, 20, 21, 22]), jgh, jgh, jgh, jgh, jgh, jgh, jgh, jgh, jgh, (100, [], (jenc (jlg 0))), jgh, jgh, jgh, jgh, jgh]
theorem jA_214_47 {xs : List Int} {d : Nat} : jT xs (d + 2) 214 23 0 [(0, (4, 0)), (1, (4, 1))] [] jpA_178 3 168 (fun k v hs' => k = 0 ∧ v = (4, 25) ∧ hs' = jpA_178 ++ [(100, [], (jenc 0)), (100, [], (jenc (-1))), (100, [], (jenc ((-1) * (jlg 0))))]) := by
  refine jT_advK 18 (pc' := 25) (L' := [(3, (0, 0)), (2, (4, 23)), (0, (4, 0)), (1, (4, 1))]) (st' := [(1, (-1)), (4, 23)]) (hs' := jpA_174) (c1 := 1) (s1 := 56) (c2 := 2) (s2 := 112) (by decide +kernel) ?_ (by omega) (by omega)
  refine jT_fA [] 24 (y := 178) (pc' := 28) (dC := 1) (bc1 := 1) (bc2 := 56) (c1 := 1) (c2 := 56) (as := [(1, (-1))]) (asC := [(1, (-1))]) (L' := [(3, (0, 0)), (2, (4, 23)), (0, (4, 0)), (1, (4, 1))]) (st' := [(4, 23)]) (hsC := []) (ex := [(100, [], (jenc (-1)))]) (v := (4, 0)) (st2 := [(4, 24), (4, 23)]) (hs2 := jpA_175) (jT_big (d := 0) (v := (-1)) (by omega) (by omega)) (by rfl) (by rfl) (by decide +kernel) (by rfl) (by rfl) (by omega) (by omega) (by omega) (by omega) rfl (by decide +kernel) ?_
  refine jT_advK 4 (pc' := 34) (L' := [(3, (0, 0)), (2, (4, 23)), (0, (4, 0)), (1, (4, 1))]) (st' := [(4, 17), (4, 24), (4, 23)]) (hs' := jpA_175) (c1 := 0) (s1 := 0) (c2 := 1) (s2 := 56) (by decide +kernel) ?_ (by omega) (by omega)
  refine jT_fA [24, 17] 25 (y := 179) (pc' := 37) (dC := 1) (bc1 := 1) (bc2 := 56) (c1 := 0) (c2 := 0) (as := [(4, 24), (4, 17)]) (asC := [(4, 0), (4, 1)]) (L' := [(3, (0, 0)), (2, (4, 23)), (0, (4, 0)), (1, (4, 1))]) (st' := [(4, 23)]) (hsC := [(100, [], (jenc (-1))), (100, [], (jenc (jlg 0)))]) (ex := [(100, [], (jenc ((-1) * (jlg 0))))]) (v := (4, 2)) (st2 := [(4, 25), (4, 23)]) (hs2 := jpA_176) (jT_product (d := 0) (a := (-1)) (b := jlg 0) (by decide +kernel) (by decide +kernel)) (by rfl) (by rfl) (by decide +kernel) (by rfl) (by rfl) (by omega) (by omega) (by omega) (by omega) rfl (by decide +kernel) ?_
  refine jT_eq (L' := [(3, (0, 0)), (2, (4, 23)), (0, (4, 0)), (1, (4, 1))]) (st' := [(4, 25), (4, 23)]) (hs' := [jzA_164, (101, [], [(-1), 0, 0, 0, 0, 0]), jgh, jgh, jgh, jgh, jgh, (130, [], [17, 18, 19, 20, 21, 22]), jgh, jgh, jgh, jgh, jgh, jgh, jgh, jgh, jgh, (100, [], (jenc (jlg 0))), jgh, jgh, jgh, jgh, jgh, (100, [], (jenc 0)), (100, [], (jenc (-1))), (100, [], (jenc ((-1) * (jlg 0))))]) rfl rfl (by show [jzA_164, (101, [], [(-1), 0, 0, 0, 0, 0]), jgh, jgh, jgh, jgh, jgh, (130, [], [17, 18, 19, 20, 21, 22]), jgh, jgh, jgh, jgh, jgh, jgh, jgh, jgh, jgh, (100, [], (jenc (jlg 0))), jgh, jgh, jgh, jgh, jgh, (100, [], List.replicate 56 0), (100, [], (jenc (-1))), (100, [], (jenc ((-1) * (jlg 0))))] = _; rw [jrep56e]) ?_
  refine jT_fR [23, 25] 26 (y := 181) (pc' := 40) (dC := 0) (bc1 := 0) (bc2 := 0) (c1 := 0) (c2 := 0) (as := [(4, 23), (4, 25)]) (asC := [(4, 0), (4, 1)]) (L' := [(3, (0, 0)), (2, (4, 23)), (0, (4, 0)), (1, (4, 1))]) (st' := []) (hsC := [(100, [], (jenc 0)), (100, [], (jenc ((-1) * (jlg 0))))]) (v := (4, 1)) (st2 := [(4, 25)]) (jT_added_0l (d := 0) (b := (-1) * (jlg 0))) (by rfl) (by rfl) (by decide +kernel) (by rfl) (by rfl) (by omega) (by omega) (by omega) (by omega) rfl ?_
  refine jT_advK 62 (pc' := 48) (L' := [(3, (0, 6)), (2, (4, 25)), (0, (4, 0)), (1, (4, 1))]) (st' := [(4, 25)]) (hs' := jpA_177) (c1 := 0) (s1 := 0) (c2 := 0) (s2 := 0) (by decide +kernel) ?_ (by omega) (by omega)
  exact jT_ret rfl (by decide) (by show 23 ≤ 26; decide) (by omega) (by omega) ⟨rfl, rfl, rfl⟩
theorem jA_213_48 {xs : List Int} {d : Nat} : jT xs (d + 3) 213 23 0 [(0, (4, 0)), (1, (4, 1))] [] jpA_178 3 168 (fun k v hs' => k = 0 ∧ v = (0, (-1)) ∧ hs' = jpA_178 ++ [(100, [], (jenc 0)), (100, [], (jenc (-1))), (100, [], (jenc ((-1) * (jlg 0))))]) := by
  refine jT_advK 1 (pc' := 1) (L' := [(0, (4, 0)), (1, (4, 1))]) (st' := [(4, 1)]) (hs' := jpA_178) (c1 := 0) (s1 := 0) (c2 := 3) (s2 := 168) (by decide +kernel) ?_ (by omega) (by omega)
  refine jT_fR [1] 23 (y := 200) (pc' := 4) (dC := 0) (bc1 := 0) (bc2 := 0) (c1 := 3) (c2 := 168) (as := [(4, 1)]) (asC := [(4, 0)]) (L' := [(0, (4, 0)), (1, (4, 1))]) (st' := []) (hsC := [(101, [], [(-1), 0, 0, 0, 0, 0])]) (v := (0, 0)) (st2 := [(0, 0)]) (jA_200_46 (d := 0)) (by rfl) (by rfl) (by decide +kernel) (by rfl) (by rfl) (by omega) (by omega) (by omega) (by omega) rfl ?_
  refine jT_advK 3 (pc' := 13) (L' := [(0, (4, 0)), (1, (4, 1))]) (st' := [(4, 1), (4, 0)]) (hs' := jpA_178) (c1 := 0) (s1 := 0) (c2 := 3) (s2 := 168) (by decide +kernel) ?_ (by omega) (by omega)
  refine jT_fA [0, 1, 2, 3, 4, 5, 6, 7, 8, 9, 10, 11, 12, 13, 14, 15, 16, 17, 18, 19, 20, 21, 22] 23 (y := 214) (pc' := 16) (dC := 2) (bc1 := 3) (bc2 := 168) (c1 := 0) (c2 := 0) (as := [(4, 0), (4, 1)]) (asC := [(4, 0), (4, 1)]) (L' := [(0, (4, 0)), (1, (4, 1))]) (st' := []) (hsC := jpA_178) (ex := [(100, [], (jenc 0)), (100, [], (jenc (-1))), (100, [], (jenc ((-1) * (jlg 0))))]) (v := (4, 25)) (st2 := [(4, 25)]) (hs2 := jpA_177) (jA_214_47 (d := 0)) (by rfl) (by rfl) (by decide +kernel) (by rfl) (by rfl) (by omega) (by omega) (by omega) (by omega) rfl (by decide +kernel) ?_
  refine jT_advK 1 (pc' := 17) (L' := [(0, (4, 0)), (1, (4, 1))]) (st' := [(0, 0), (4, 25)]) (hs' := jpA_177) (c1 := 0) (s1 := 0) (c2 := 0) (s2 := 0) (by decide +kernel) ?_ (by omega) (by omega)
  refine jT_iald (x := (-1)) (a := 25) (j := 0) (fs := []) (X := (jenc ((-1) * (jlg 0)))) (by rfl) (by rfl) (by rfl) (by rfl) (jenc_sg (by decide +kernel)) ?_
  refine jT_eq (L' := [(0, (4, 0)), (1, (4, 1))]) (st' := [(0, (-1))]) (hs' := jpA_177) rfl rfl rfl ?_
  exact jT_ret rfl (by decide) (by show 23 ≤ 26; decide) (by omega) (by omega) ⟨rfl, rfl, rfl⟩
def jpA_179 : List JC := [jzA_164, (101, [], [1, 0, 0, 0, 0, 0]), jgh, jgh, jgh, jgh, jgh, (130, [], [17, 18, 19, 20, 21, 22]), jgh, jgh, jgh, jgh, jgh, jgh, jgh, jgh, jgh, (100, [], (jenc (jlg 0))), jgh, jgh, jgh, jgh, jgh, (101, [], [(-1), 0, 0, 0, 0, 0])]
def jpA_180 : List JC := [jzA_164, (101, [], [1, 0, 0, 0, 0, 0]), jgh, jgh, jgh, jgh, jgh, (130, [], [17, 18, 19, 20, 21, 22]), jgh, jgh, jgh, jgh, jgh, jgh, jgh, jgh, jgh, (100, [], (jenc (jlg 0))), jgh, jgh, jgh, jgh, jgh, (101, [], [(-1), 0, 0, 0, 0, 0]), (100, [], (jenc 0)), (100, [], (jenc (-1))), (100, [], (jenc ((-1) * (jlg 0))))]
def jpA_181 : List JC := [(101, [], [(-1), 0, 0, 0, 0, 0]), (100, [], (jenc 0)), (100, [], (jenc (-1))), (100, [], (jenc ((-1) * (jlg 0))))]
theorem jA_212_49 {xs : List Int} {d : Nat} : jT xs (d + 4) 212 23 0 [(0, (4, 0)), (1, (4, 1)), (2, (1, 2))] [] jpA_169 4 174 (fun k v hs' => k = 0 ∧ v = (0, (-1)) ∧ hs' = jpA_169 ++ jpA_181) := by
  refine jT_advK 18 (pc' := 27) (L' := [(4, (4, 23)), (0, (4, 0)), (1, (4, 1)), (2, (1, 2))]) (st' := [(4, 23), (4, 0)]) (hs' := jpA_179) (c1 := 1) (s1 := 6) (c2 := 3) (s2 := 168) (by decide +kernel) ?_ (by omega) (by omega)
  refine jT_fA [0, 23, 2, 3, 4, 5, 6, 7, 8, 9, 10, 11, 12, 13, 14, 15, 16, 17, 18, 19, 20, 21, 22] 24 (y := 213) (pc' := 30) (dC := 3) (bc1 := 3) (bc2 := 168) (c1 := 0) (c2 := 0) (as := [(4, 0), (4, 23)]) (asC := [(4, 0), (4, 1)]) (L' := [(4, (4, 23)), (0, (4, 0)), (1, (4, 1)), (2, (1, 2))]) (st' := []) (hsC := jpA_178) (ex := [(100, [], (jenc 0)), (100, [], (jenc (-1))), (100, [], (jenc ((-1) * (jlg 0))))]) (v := (0, (-1))) (st2 := [(0, (-1))]) (hs2 := jpA_180) (jA_213_48 (d := 0)) (by rfl) (by rfl) (by decide +kernel) (by rfl) (by rfl) (by omega) (by omega) (by omega) (by omega) rfl (by decide +kernel) ?_
  exact jT_ret rfl (by decide) (by show 23 ≤ 27; decide) (by omega) (by omega) ⟨rfl, rfl, rfl⟩
def jpA_182 : List JC := [jzA_164, (101, [], [1, 0, 0, 0, 0, 0]), jgh, jgh, jgh, jgh, jgh, (130, [], [17, 18, 19, 20, 21, 22]), jgh, jgh, jgh, jgh, jgh, jgh, jgh, jgh, jgh, (100, [], (jenc (jlg 0))), jgh, jgh, jgh, jgh, jgh, (101, [], [1, 0, 0, 0, 0, 0]), (100, [], (jenc 0)), (100, [], (jenc 1)), (100, [], (jenc (1 * (jlg 0)))), (101, [], [(-1), 0, 0, 0, 0, 0]), (100, [], (jenc 0)), (100, [], (jenc (-1))), (100, [], (jenc ((-1) * (jlg 0))))]
def jpA_183 : List JC := [(101, [], [1, 0, 0, 0, 0, 0]), (100, [], (jenc 0)), (100, [], (jenc 1)), (100, [], (jenc (1 * (jlg 0)))), (101, [], [(-1), 0, 0, 0, 0, 0]), (100, [], (jenc 0)), (100, [], (jenc (-1))), (100, [], (jenc ((-1) * (jlg 0))))]
theorem jA_210_50 {xs : List Int} {d : Nat} : jT xs (d + 5) 210 23 0 [(0, (4, 0)), (1, (4, 1)), (2, (1, 2))] [] jpA_169 8 348 (fun k v hs' => k = 0 ∧ v = (1, 0) ∧ hs' = jpA_169 ++ jpA_183) := by
  refine jT_advK 1 (pc' := 1) (L' := [(0, (4, 0)), (1, (4, 1)), (2, (1, 2))]) (st' := [(4, 1)]) (hs' := jpA_169) (c1 := 0) (s1 := 0) (c2 := 8) (s2 := 348) (by decide +kernel) ?_ (by omega) (by omega)
  refine jT_fR [1] 23 (y := 211) (pc' := 4) (dC := 0) (bc1 := 0) (bc2 := 0) (c1 := 8) (c2 := 348) (as := [(4, 1)]) (asC := [(4, 0)]) (L' := [(0, (4, 0)), (1, (4, 1)), (2, (1, 2))]) (st' := []) (hsC := [(101, [], [1, 0, 0, 0, 0, 0])]) (v := (3, 4607182418800017408)) (st2 := [(3, 4607182418800017408)]) (jA_211_41 (d := 0)) (by rfl) (by rfl) (by decide +kernel) (by rfl) (by rfl) (by omega) (by omega) (by omega) (by omega) rfl ?_
  refine jT_advK 1 (pc' := 5) (L' := [(0, (4, 0)), (1, (4, 1)), (2, (1, 2))]) (st' := [(1, 2), (3, 4607182418800017408)]) (hs' := jpA_169) (c1 := 0) (s1 := 0) (c2 := 8) (s2 := 348) (by decide +kernel) ?_ (by omega) (by omega)
  refine jT_l2d (x := 2) (z := 4611686018427387904) (by rfl) (by rfl) (by decide +kernel) ?_
  refine jT_ddiv (x := 4607182418800017408) (y := 4611686018427387904) (z := 4602678819172646912) (by rfl) (by rfl) (by decide +kernel) ?_
  refine jT_d2l (x := 4602678819172646912) (z := 0) (by rfl) (by rfl) (by decide +kernel) ?_
  refine jT_advK 6 (pc' := 16) (L' := [(4, (1, 0)), (0, (4, 0)), (1, (4, 1)), (2, (1, 2))]) (st' := [(1, 0), (4, 1), (4, 0)]) (hs' := jpA_169) (c1 := 0) (s1 := 0) (c2 := 8) (s2 := 348) (by decide +kernel) ?_ (by omega) (by omega)
  refine jT_fA [0, 1, 2, 3, 4, 5, 6, 7, 8, 9, 10, 11, 12, 13, 14, 15, 16, 17, 18, 19, 20, 21, 22] 23 (y := 212) (pc' := 19) (dC := 4) (bc1 := 4) (bc2 := 174) (c1 := 4) (c2 := 174) (as := [(4, 0), (4, 1), (1, 0)]) (asC := [(4, 0), (4, 1), (1, 0)]) (L' := [(4, (1, 0)), (0, (4, 0)), (1, (4, 1)), (2, (1, 2))]) (st' := []) (hsC := jpA_169) (ex := jpA_173) (v := (0, 1)) (st2 := [(0, 1)]) (hs2 := jpA_172) (jA_212_45 (d := 0)) (by rfl) (by rfl) (by decide +kernel) (by rfl) (by rfl) (by omega) (by omega) (by omega) (by omega) rfl (by decide +kernel) ?_
  refine jT_advK 8 (pc' := 39) (L' := [(4, (1, 0)), (0, (4, 0)), (1, (4, 1)), (2, (1, 2))]) (st' := [(1, 2), (4, 1), (4, 0)]) (hs' := jpA_172) (c1 := 0) (s1 := 0) (c2 := 4) (s2 := 174) (by decide +kernel) ?_ (by omega) (by omega)
  refine jT_fA [0, 1, 2, 3, 4, 5, 6, 7, 8, 9, 10, 11, 12, 13, 14, 15, 16, 17, 18, 19, 20, 21, 22] 27 (y := 212) (pc' := 42) (dC := 4) (bc1 := 4) (bc2 := 174) (c1 := 0) (c2 := 0) (as := [(4, 0), (4, 1), (1, 2)]) (asC := [(4, 0), (4, 1), (1, 2)]) (L' := [(4, (1, 0)), (0, (4, 0)), (1, (4, 1)), (2, (1, 2))]) (st' := []) (hsC := jpA_169) (ex := jpA_181) (v := (0, (-1))) (st2 := [(0, (-1))]) (hs2 := jpA_182) (jA_212_49 (d := 0)) (by rfl) (by rfl) (by decide +kernel) (by rfl) (by rfl) (by omega) (by omega) (by omega) (by omega) rfl (by decide +kernel) ?_
  refine jT_advK 2 (pc' := 56) (L' := [(4, (1, 0)), (0, (4, 0)), (1, (4, 1)), (2, (1, 2))]) (st' := [(1, 0)]) (hs' := jpA_182) (c1 := 0) (s1 := 0) (c2 := 0) (s2 := 0) (by decide +kernel) ?_ (by omega) (by omega)
  exact jT_ret rfl (by decide) (by show 23 ≤ 31; decide) (by omega) (by omega) ⟨rfl, rfl, rfl⟩
def jzA_184 : JC := (14, [(0, 0), (4, 2), (4, 3), (4, 4), (4, 5), (0, 1), (4, 6), (0, 0), (4, 7), (4, 1), (1, 1), (4, 8), (0, 0), (4, 9), (0, 0), (0, 0), (0, 0), (0, 0), (0, 0), (0, 0), (0, 0), (4, 10), (4, 11), (4, 12), (4, 13), (4, 14), (4, 15), (0, 0)], [])
def jpA_185 : List JC := [jzA_184, (101, [], [0, 0, 0, 0, 0, 0]), jgh, jgh, jgh, jgh, jgh, (130, [], [16, 17, 18, 19, 20, 21]), jgh, jgh, jgh, jgh, jgh, jgh, jgh, jgh, (100, [], (jenc (jlg 0))), jgh, jgh, jgh, jgh, jgh, (101, [], [1, 0, 0, 0, 0, 0])]
def jpA_186 : List JC := [jzA_184, (101, [], [0, 0, 0, 0, 0, 0]), jgh, jgh, jgh, jgh, jgh, (130, [], [16, 17, 18, 19, 20, 21]), jgh, jgh, jgh, jgh, jgh, jgh, jgh, jgh, (100, [], (jenc (jlg 0))), jgh, jgh, jgh, jgh, jgh, (101, [], [1, 0, 0, 0, 0, 0]), (101, [], [1, 0, 0, 0, 0, 0]), (100, [], (jenc 0)), (100, [], (jenc 1)), (100, [], (jenc (1 * (jlg 0)))), (101, [], [(-1), 0, 0, 0, 0, 0]), (100, [], (jenc 0)), (100, [], (jenc (-1))), (100, [], (jenc ((-1) * (jlg 0))))]
def jpA_187 : List JC := [jzA_184, (101, [], [0, 0, 0, 0, 0, 0]), jgh, jgh, jgh, jgh, jgh, (130, [], [16, 17, 18, 19, 20, 21]), jgh, jgh, jgh, jgh, jgh, jgh, jgh, jgh, (100, [], (jenc (jlg 0))), jgh, jgh, jgh, jgh, jgh]
def jpA_188 : List JC := [(101, [], [1, 0, 0, 0, 0, 0]), (101, [], [1, 0, 0, 0, 0, 0]), (100, [], (jenc 0)), (100, [], (jenc 1)), (100, [], (jenc (1 * (jlg 0)))), (101, [], [(-1), 0, 0, 0, 0, 0]), (100, [], (jenc 0)), (100, [], (jenc (-1))), (100, [], (jenc ((-1) * (jlg 0))))]
theorem jA_216_51 {xs : List Int} {d : Nat} : jT xs (d + 6) 216 22 0 [(0, (4, 0)), (1, (4, 1)), (2, (1, 1))] [] jpA_187 9 354 (fun k v hs' => k = 0 ∧ v = (1, 0) ∧ hs' = jpA_187 ++ jpA_188) := by
  refine jT_advK 98 (pc' := 51) (L' := [(5, (0, 6)), (4, (4, 22)), (0, (4, 0)), (1, (4, 1)), (2, (1, 1))]) (st' := [(1, 2), (4, 22), (4, 0)]) (hs' := jpA_185) (c1 := 1) (s1 := 6) (c2 := 8) (s2 := 348) (by decide +kernel) ?_ (by omega) (by omega)
  refine jT_fA [0, 22, 2, 3, 4, 5, 6, 7, 1, 8, 9, 10, 11, 12, 13, 14, 15, 16, 17, 18, 19, 20, 21] 23 (y := 210) (pc' := 54) (dC := 5) (bc1 := 8) (bc2 := 348) (c1 := 0) (c2 := 0) (as := [(4, 0), (4, 22), (1, 2)]) (asC := [(4, 0), (4, 1), (1, 2)]) (L' := [(5, (0, 6)), (4, (4, 22)), (0, (4, 0)), (1, (4, 1)), (2, (1, 1))]) (st' := []) (hsC := jpA_169) (ex := jpA_183) (v := (1, 0)) (st2 := [(1, 0)]) (hs2 := jpA_186) (jA_210_50 (d := 0)) (by rfl) (by rfl) (by decide +kernel) (by rfl) (by rfl) (by omega) (by omega) (by omega) (by omega) rfl (by decide +kernel) ?_
  exact jT_ret rfl (by decide) (by show 22 ≤ 31; decide) (by omega) (by omega) ⟨rfl, rfl, rfl⟩
def jpA_189 : List JC := [jzA_22, (100, [], jS0), (100, [], []), jzA_123, jzA_124, jgh, (130, [], [24, 25, 26, 27, 28, 29]), (101, [], [0, 0, 0, 0, 0, 0]), jgh, jgh, jgh, jgh, jgh, jgh, jgh, jgh, (100, [], (List.replicate 1613 0)), jgh, jgh, jgh, jgh, jgh, jgh, jgh, (100, [], (jenc (jlg 0))), jgh, jgh, jgh, jgh, jgh]
theorem jI_257_42 : jmI (jm 257) 42 = (.aload_n 0, 1) := by rfl
def jpA_191 : List JC := [jzA_127, (100, [], jS0), (100, [], []), jzA_123, jzA_128, jgh, (130, [], [24, 25, 26, 27, 28, 29]), (101, [], [0, 0, 0, 0, 0, 0]), jgh, jgh, jgh, jgh, jgh, jgh, jgh, jgh, (100, [], jS0), jgh, jgh, jgh, jgh, jgh, jgh, jgh, (100, [], (jenc (jlg 0))), jgh, jgh, jgh, jgh, jgh]
theorem jI_257_46 : jmI (jm 257) 46 = (.aload_n 0, 1) := by rfl
theorem jI_257_47 : jmI (jm 257) 47 = (.iload_n 1, 1) := by rfl
theorem jI_257_51 : jmI (jm 257) 51 = (.aload_n 0, 1) := by rfl
theorem jI_257_52 : jmI (jm 257) 52 = (.iload_n 2, 1) := by rfl
theorem jI_257_57 : jmI (jm 257) 57 = (.aload_n 0, 1) := by rfl
theorem jI_257_58 : jmI (jm 257) 58 = (.aload_n 0, 1) := by rfl
theorem jI_257_59 : jmI (jm 257) 59 = (.getfield 31, 3) := by rfl
theorem jI_257_62 : jmI (jm 257) 62 = (.aload_n 0, 1) := by rfl
theorem jI_257_63 : jmI (jm 257) 63 = (.getfield 35, 3) := by rfl
theorem jI_257_69 : jmI (jm 257) 69 = (.l2i, 1) := by rfl
theorem jA_257_52 {xs : List Int} {d : Nat} {x2 : Int} (h_x2 : 0 ≤ x2 ∧ x2 ≤ 7) : jT xs (d + 7) 257 30 0 [(0, (4, 0)), (1, (0, 0)), (2, (0, x2))] [] jpA_189 9 354 (fun k v hs' => k = 0 ∧ v = (0, 0) ∧ hs' = [jzA_127, (100, [], ((((((((((((((jS0).set ((7 * x2).toNat) 0)).set ((7 * x2 + 1).toNat) 0)).set ((7 * x2 + 2).toNat) 0)).set ((7 * x2 + 3).toNat) 0)).set ((7 * x2 + 4).toNat) 0)).set ((7 * x2 + 5).toNat) 0)).set ((7 * x2 + 6).toNat) 1)), (100, [], []), jzA_123, jzA_128, jgh, (130, [], [24, 25, 26, 27, 28, 29]), (101, [], [0, 0, 0, 0, 0, 0]), jgh, jgh, jgh, jgh, jgh, jgh, jgh, jgh, (100, [], jS0), jgh, jgh, jgh, jgh, jgh, jgh, jgh, (100, [], (jenc (jlg 0))), jgh, jgh, jgh, jgh, jgh, (101, [], [1, 0, 0, 0, 0, 0]), (101, [], [1, 0, 0, 0, 0, 0]), (100, [], (jenc 0)), (100, [], (jenc 1)), (100, [], (jenc (1 * (jlg 0)))), (101, [], [(-1), 0, 0, 0, 0, 0]), (100, [], (jenc 0)), (100, [], (jenc (-1))), (100, [], (jenc ((-1) * (jlg 0))))]) := by
  refine jT_xaload_n (v := (4, 0)) (pc' := 1) jI_257_0 rfl rfl rfl ?_
  refine jT_xiconst (k := 0) (pc' := 2) jI_257_1 rfl ?_
  refine jT_adv 1 (pc' := 5) (L' := [(0, (4, 0)), (1, (0, 0)), (2, (0, x2))]) (st' := []) (hs' := jpA_189) (c1 := 0) (s1 := 0) (c2 := 9) (s2 := 354) (by exact rfl) ?_ (by omega) (by omega)
  refine jT_xaload_n (v := (4, 0)) (pc' := 6) jI_257_5 rfl rfl rfl ?_
  refine jT_xiload_n (v := (0, 0)) (pc' := 7) jI_257_6 rfl rfl rfl ?_
  refine jT_xi2l (x := 0) (z := 0) (pc' := 8) jI_257_7 rfl (by decide +kernel) rfl ?_
  refine jT_xlconst (z := 0) (pc' := 9) jI_257_8 rfl rfl ?_
  refine jT_xaload_n (v := (4, 0)) (pc' := 10) jI_257_9 rfl rfl rfl ?_
  refine jT_xgetf (a := 0) (t := 1) (ci := 14) (fi := 1) (c := jzA_22) (v := (4, 1)) (pc' := 13) jI_257_10 rfl rfl rfl rfl rfl rfl rfl ?_
  refine jT_xsipush (k := 1192) (pc' := 16) jI_257_13 (by decide) rfl ?_
  refine jT_iald (x := 0) (a := 1) (j := 1192) (fs := []) (X := jS0) (by rfl) (by rfl) (by rfl) (by rfl) (by decide +kernel) ?_
  refine jT_eq (L' := [(0, (4, 0)), (1, (0, 0)), (2, (0, x2))]) (st' := [(0, 0), (1, 0), (1, 0), (4, 0)]) (hs' := jpA_189) rfl rfl rfl ?_
  refine jT_xi2l (x := 0) (z := 0) (pc' := 18) jI_257_17 rfl (by decide +kernel) rfl ?_
  refine jT_fR [] 30 (y := 189) (pc' := 21) (dC := 0) (bc1 := 0) (bc2 := 0) (c1 := 9) (c2 := 354) (as := [(1, 0), (1, 0), (1, 0)]) (asC := [(1, 0), (1, 0), (1, 0)]) (L' := [(0, (4, 0)), (1, (0, 0)), (2, (0, x2))]) (st' := [(4, 0)]) (hsC := []) (v := (0, 1)) (st2 := [(0, 1), (4, 0)]) (jA_189_11 (d := 0)) (by rfl) (by rfl) (by decide +kernel) (by rfl) (by rfl) (by omega) (by omega) (by omega) (by omega) rfl ?_
  refine jT_xiconst (k := 1) (pc' := 22) jI_257_21 rfl ?_
  refine jT_fR [0] 30 (y := 191) (pc' := 25) (dC := 0) (bc1 := 0) (bc2 := 0) (c1 := 9) (c2 := 354) (as := [(4, 0), (0, 1), (0, 1)]) (asC := [(4, 0), (0, 1), (0, 1)]) (L' := [(0, (4, 0)), (1, (0, 0)), (2, (0, x2))]) (st' := []) (hsC := [jgh]) (v := (0, 0)) (st2 := [(0, 0)]) (jA_191_12 (d := 0)) (by rfl) (by rfl) (by decide +kernel) (by rfl) (by rfl) (by omega) (by omega) (by omega) (by omega) rfl ?_
  refine jT_xifF (t := 40) (pc' := 28) jI_257_25 rfl (by decide +kernel) rfl rfl ?_
  refine jT_xaload_n (v := (4, 0)) (pc' := 29) jI_257_28 rfl rfl rfl ?_
  refine jT_xiload_n (v := (0, x2)) (pc' := 30) jI_257_29 rfl rfl rfl ?_
  refine jT_fR [] 30 (y := 188) (pc' := 33) (dC := 1) (bc1 := 0) (bc2 := 0) (c1 := 9) (c2 := 354) (as := [(0, x2)]) (asC := [(0, x2)]) (L' := [(0, (4, 0)), (1, (0, 0)), (2, (0, x2))]) (st' := [(4, 0)]) (hsC := []) (v := (0, 1)) (st2 := [(0, 1), (4, 0)]) (jA_188_34 (d := 0) (by omega)) (by rfl) (by rfl) (by decide +kernel) (by rfl) (by rfl) (by omega) (by omega) (by omega) (by omega) rfl ?_
  refine jT_xiconst (k := 2) (pc' := 34) jI_257_33 rfl ?_
  refine jT_fR [0] 30 (y := 191) (pc' := 37) (dC := 0) (bc1 := 0) (bc2 := 0) (c1 := 9) (c2 := 354) (as := [(4, 0), (0, 1), (0, 2)]) (asC := [(4, 0), (0, 1), (0, 2)]) (L' := [(0, (4, 0)), (1, (0, 0)), (2, (0, x2))]) (st' := []) (hsC := [jgh]) (v := (0, 0)) (st2 := [(0, 0)]) (jA_191_35 (d := 0)) (by rfl) (by rfl) (by decide +kernel) (by rfl) (by rfl) (by omega) (by omega) (by omega) (by omega) rfl ?_
  refine jT_xifT (pc' := 42) jI_257_37 rfl (by decide +kernel) rfl ?_
  refine jT_xaload_n (v := (4, 0)) (pc' := 43) jI_257_42 rfl rfl rfl ?_
  refine jT_fB [0, 1, 2, 3, 4, 5, 6, 7, 8, 9, 10, 11, 12, 13, 14, 15, 16, 17, 18, 19, 20, 21, 22, 23] 30 (y := 195) (pc' := 46) (dC := 0) (bc1 := 0) (bc2 := 0) (c1 := 9) (c2 := 354) (as := [(4, 0)]) (asC := [(4, 0)]) (L' := [(0, (4, 0)), (1, (0, 0)), (2, (0, x2))]) (st' := []) (hsC := jpA_125) (hsD := jpA_129) (v := (9, 0)) (st2 := []) (hs2 := jpA_191) (jA_195_36 (d := 0)) (by rfl) (by rfl) (by decide +kernel) (by rfl) (by rfl) (by omega) (by omega) (by omega) (by omega) rfl (by decide +kernel) ?_
  refine jT_xaload_n (v := (4, 0)) (pc' := 47) jI_257_46 rfl rfl rfl ?_
  refine jT_xiload_n (v := (0, 0)) (pc' := 48) jI_257_47 rfl rfl rfl ?_
  refine jT_fR [0, 1, 2, 3, 4, 5, 6, 7, 8, 9, 10, 11, 12, 13, 14, 15] 30 (y := 256) (pc' := 51) (dC := 1) (bc1 := 0) (bc2 := 0) (c1 := 9) (c2 := 354) (as := [(4, 0), (0, 0)]) (asC := [(4, 0), (0, 0)]) (L' := [(0, (4, 0)), (1, (0, 0)), (2, (0, x2))]) (st' := []) (hsC := jpA_130) (v := (9, 0)) (st2 := []) (jA_256_38 (d := 0)) (by rfl) (by rfl) (by decide +kernel) (by rfl) (by rfl) (by omega) (by omega) (by omega) (by omega) rfl ?_
  refine jT_xaload_n (v := (4, 0)) (pc' := 52) jI_257_51 rfl rfl rfl ?_
  refine jT_xiload_n (v := (0, x2)) (pc' := 53) jI_257_52 rfl rfl rfl ?_
  refine jT_fB [0, 1, 2, 3, 4, 5, 6, 7, 8, 9, 10, 11, 12, 13, 14, 15] 30 (y := 196) (pc' := 56) (dC := 1) (bc1 := 0) (bc2 := 0) (c1 := 9) (c2 := 354) (as := [(4, 0), (0, x2)]) (asC := [(4, 0), (0, x2)]) (L' := [(0, (4, 0)), (1, (0, 0)), (2, (0, x2))]) (st' := []) (hsC := jpA_144) (hsD := [jzA_127, (100, [], ((((((((((((((jS0).set ((7 * x2).toNat) 0)).set ((7 * x2 + 1).toNat) 0)).set ((7 * x2 + 2).toNat) 0)).set ((7 * x2 + 3).toNat) 0)).set ((7 * x2 + 4).toNat) 0)).set ((7 * x2 + 5).toNat) 0)).set ((7 * x2 + 6).toNat) 1)), jgh, jgh, jgh, jgh, jgh, (101, [], [0, 0, 0, 0, 0, 0]), jgh, jgh, jgh, jgh, jgh, jgh, jgh, jgh]) (v := (0, 1)) (st2 := [(0, 1)]) (hs2 := [jzA_127, (100, [], ((((((((((((((jS0).set ((7 * x2).toNat) 0)).set ((7 * x2 + 1).toNat) 0)).set ((7 * x2 + 2).toNat) 0)).set ((7 * x2 + 3).toNat) 0)).set ((7 * x2 + 4).toNat) 0)).set ((7 * x2 + 5).toNat) 0)).set ((7 * x2 + 6).toNat) 1)), (100, [], []), jzA_123, jzA_128, jgh, (130, [], [24, 25, 26, 27, 28, 29]), (101, [], [0, 0, 0, 0, 0, 0]), jgh, jgh, jgh, jgh, jgh, jgh, jgh, jgh, (100, [], jS0), jgh, jgh, jgh, jgh, jgh, jgh, jgh, (100, [], (jenc (jlg 0))), jgh, jgh, jgh, jgh, jgh]) (jA_196_40 (d := 0) (by omega)) (by rfl) (by rfl) (by decide +kernel) (by rfl) (by rfl) (by omega) (by omega) (by omega) (by omega) rfl rfl ?_
  refine jT_adv 1 (pc' := 57) (L' := [(0, (4, 0)), (1, (0, 0)), (2, (0, x2))]) (st' := []) (hs' := [jzA_127, (100, [], ((((((((((((((jS0).set ((7 * x2).toNat) 0)).set ((7 * x2 + 1).toNat) 0)).set ((7 * x2 + 2).toNat) 0)).set ((7 * x2 + 3).toNat) 0)).set ((7 * x2 + 4).toNat) 0)).set ((7 * x2 + 5).toNat) 0)).set ((7 * x2 + 6).toNat) 1)), (100, [], []), jzA_123, jzA_128, jgh, (130, [], [24, 25, 26, 27, 28, 29]), (101, [], [0, 0, 0, 0, 0, 0]), jgh, jgh, jgh, jgh, jgh, jgh, jgh, jgh, (100, [], jS0), jgh, jgh, jgh, jgh, jgh, jgh, jgh, (100, [], (jenc (jlg 0))), jgh, jgh, jgh, jgh, jgh]) (c1 := 0) (s1 := 0) (c2 := 9) (s2 := 354) (by exact rfl) ?_ (by omega) (by omega)
  refine jT_xaload_n (v := (4, 0)) (pc' := 58) jI_257_57 rfl rfl rfl ?_
  refine jT_xaload_n (v := (4, 0)) (pc' := 59) jI_257_58 rfl rfl rfl ?_
  refine jT_xgetf (a := 0) (t := 1) (ci := 14) (fi := 9) (c := jzA_127) (v := (4, 7)) (pc' := 62) jI_257_59 rfl rfl rfl rfl rfl rfl rfl ?_
  refine jT_xaload_n (v := (4, 0)) (pc' := 63) jI_257_62 rfl rfl rfl ?_
  refine jT_xgetf (a := 0) (t := 1) (ci := 14) (fi := 10) (c := jzA_127) (v := (1, 1)) (pc' := 66) jI_257_63 rfl rfl rfl rfl rfl rfl rfl ?_
  refine jT_callA [0, 7, 1, 2, 3, 4, 5, 6, 8, 9, 10, 11, 12, 13, 14, 15, 24, 25, 26, 27, 28, 29] (y := 216) (pc' := 69) (dC := 6) (bc1 := 9) (bc2 := 354) (c1 := 0) (c2 := 0) (as := [(4, 0), (4, 7), (1, 1)]) (asC := [(4, 0), (4, 1), (1, 1)]) (L' := [(0, (4, 0)), (1, (0, 0)), (2, (0, x2))]) (st' := []) (hsC := jpA_187) (ex := jpA_188) (v := (1, 0)) (st2 := [(1, 0)]) (hs2 := [jzA_127, (100, [], ((((((((((((((jS0).set ((7 * x2).toNat) 0)).set ((7 * x2 + 1).toNat) 0)).set ((7 * x2 + 2).toNat) 0)).set ((7 * x2 + 3).toNat) 0)).set ((7 * x2 + 4).toNat) 0)).set ((7 * x2 + 5).toNat) 0)).set ((7 * x2 + 6).toNat) 1)), (100, [], []), jzA_123, jzA_128, jgh, (130, [], [24, 25, 26, 27, 28, 29]), (101, [], [0, 0, 0, 0, 0, 0]), jgh, jgh, jgh, jgh, jgh, jgh, jgh, jgh, (100, [], jS0), jgh, jgh, jgh, jgh, jgh, jgh, jgh, (100, [], (jenc (jlg 0))), jgh, jgh, jgh, jgh, jgh, (101, [], [1, 0, 0, 0, 0, 0]), (101, [], [1, 0, 0, 0, 0, 0]), (100, [], (jenc 0)), (100, [], (jenc 1)), (100, [], (jenc (1 * (jlg 0)))), (101, [], [(-1), 0, 0, 0, 0, 0]), (100, [], (jenc 0)), (100, [], (jenc (-1))), (100, [], (jenc ((-1) * (jlg 0))))]) (jA_216_51 (d := 0)) (by rfl) (by rfl) (by rfl) (by rfl) ⟨rfl, rfl, rfl, rfl, rfl, rfl, rfl, rfl, rfl, rfl, rfl, rfl, rfl, rfl, rfl, rfl, rfl, rfl, rfl, rfl, rfl, rfl, trivial⟩ (by rfl) (by rfl) (by omega) (by show 30 ≤ 30; omega) (by omega) (by omega) rfl rfl ?_
  refine jT_xl2i (pc' := 70) jI_257_69 rfl rfl ?_
  exact jT_ret rfl (by decide) (by show 30 ≤ 39; decide) (by omega) (by omega) ⟨rfl, rfl, rfl⟩
def jpA_202 : List JC := [jzA_127, jgh, jgh, jgh, jgh, jgh, jgh, jgh, jgh, jgh, jgh, jgh, jgh, jgh, jgh, jgh]
theorem jA_186_53 {xs : List Int} {d : Nat} : jT xs d 186 16 0 [(0, (4, 0))] [] jpA_202 0 0 (fun k v hs' => k = 0 ∧ v = (0, 0) ∧ hs' = jpA_202 ++ []) := by
  refine jT_advK 2 (pc' := 4) (L' := [(0, (4, 0))]) (st' := [(0, 0)]) (hs' := jpA_202) (c1 := 0) (s1 := 0) (c2 := 0) (s2 := 0) (by decide +kernel) ?_ (by omega) (by omega)
  exact jT_ret rfl (by decide) (by show 16 ≤ 16; decide) (by omega) (by omega) ⟨rfl, rfl, rfl⟩
theorem jA_115_54 {xs : List Int} {d : Nat} {x2 : Int} (h_x2 : 8 ≤ x2 ∧ x2 ≤ 2147483647) : jT xs d 115 1 0 [(0, (4, 0)), (1, (0, x2)), (2, (0, 8))] [] [jgh] 1 6 (fun k v hs' => k = 1 ∧ v = (0, 0) ∧ hs' = [jgh] ++ []) := by
  refine jT_xiload_n (v := (0, x2)) (pc' := 1) jI_115_0 rfl rfl rfl ?_
  refine jT_ifF (a := x2) (t := 9) (by rfl) (by rfl) (by rfl) (jw_idd (by omega) (by omega)) (by simp only [jcP] <;> omega) ?_
  refine jT_xiload_n (v := (0, x2)) (pc' := 5) jI_115_4 rfl rfl rfl ?_
  refine jT_xiload_n (v := (0, 8)) (pc' := 6) jI_115_5 rfl rfl rfl ?_
  refine jT_icF (a := x2) (b := 8) (t := 20) (by rfl) (by rfl) (by rfl) (jw_idd (by omega) (by omega)) (jw_idd (by omega) (by omega)) (by simp only [jcP] <;> omega) ?_
  exact jT_ret (c1 := 1) (s1 := 6) rfl (by decide) (by show 1 ≤ 1; decide) (by omega) (by omega) ⟨rfl, rfl, rfl⟩
theorem jA_135_55 {xs : List Int} {d : Nat} {x2 : Int} (h_x2 : 8 ≤ x2 ∧ x2 ≤ 2147483647) : jT xs (d + 1) 135 17 0 [(0, (4, 0)), (1, (0, 0)), (2, (0, x2))] [] jpA_11 1 6 (fun k v hs' => k = 1 ∧ v = (0, 0) ∧ hs' = jpA_11 ++ []) := by
  refine jT_xaload_n (v := (4, 0)) (pc' := 1) jI_135_0 rfl rfl rfl ?_
  refine jT_xiload_n (v := (0, 0)) (pc' := 2) jI_135_1 rfl rfl rfl ?_
  refine jT_xiconst (k := 0) (pc' := 3) jI_135_2 rfl ?_
  refine jT_xaload_n (v := (4, 0)) (pc' := 4) jI_135_3 rfl rfl rfl ?_
  refine jT_xgetf (a := 0) (t := 1) (ci := 13) (fi := 11) (c := jzA_8) (v := (4, 11)) (pc' := 7) jI_135_4 rfl rfl rfl rfl rfl rfl rfl ?_
  refine jT_xgetf (a := 11) (t := 2) (ci := 9) (fi := 4) (c := jzA_10) (v := (4, 16)) (pc' := 10) jI_135_7 rfl rfl rfl rfl rfl rfl rfl ?_
  refine jT_adv 1 (pc' := 11) (L' := [(0, (4, 0)), (1, (0, 0)), (2, (0, x2))]) (st' := [(0, 0), (0, 0), (0, 0), (4, 0)]) (hs' := jpA_11) (c1 := 0) (s1 := 0) (c2 := 1) (s2 := 6) (by exact rfl) ?_ (by omega) (by omega)
  refine jT_fR [0] 17 (y := 116) (pc' := 14) (dC := 0) (bc1 := 0) (bc2 := 0) (c1 := 1) (c2 := 6) (as := [(4, 0), (0, 0), (0, 0), (0, 0)]) (asC := [(4, 0), (0, 0), (0, 0), (0, 0)]) (L' := [(0, (4, 0)), (1, (0, 0)), (2, (0, x2))]) (st' := []) (hsC := [jgh]) (v := (9, 0)) (st2 := []) (jA_116_7 (d := 0)) (by rfl) (by rfl) (by decide +kernel) (by rfl) (by rfl) (by omega) (by omega) (by omega) (by omega) rfl ?_
  refine jT_xaload_n (v := (4, 0)) (pc' := 15) jI_135_14 rfl rfl rfl ?_
  refine jT_xiload_n (v := (0, x2)) (pc' := 16) jI_135_15 rfl rfl rfl ?_
  refine jT_xbipush (k := 8) (pc' := 18) jI_135_16 (by decide) rfl ?_
  exact jT_fX [0] 17 (y := 115) (pc' := 21) (dC := 0) (bc1 := 1) (bc2 := 6) (as := [(4, 0), (0, x2), (0, 8)]) (asC := [(4, 0), (0, x2), (0, 8)]) (L' := [(0, (4, 0)), (1, (0, 0)), (2, (0, x2))]) (st' := []) (hsC := [jgh]) (e := 0) (jA_115_54 (d := 0) (by omega)) (by rfl) (by rfl) (by decide +kernel) (by rfl) (by rfl) (by omega) (by omega) (by omega) (by omega) ⟨rfl, ⟨rfl, rfl, rfl⟩⟩
theorem jA_342_56 {xs : List Int} {d : Nat} {x2 : Int} (h_x2 : 8 ≤ x2 ∧ x2 ≤ 2147483647) : jT xs (d + 2) 342 18 0 [(0, (4, 0)), (1, (0, 0)), (2, (0, x2)), (3, (4, 1))] [] jpA_19 1 6 (fun k v hs' => k = 0 ∧ v = (0, 2) ∧ hs' = jpA_19 ++ []) := by
  refine jT_xaload_n (v := (4, 1)) (pc' := 1) jI_342_0 rfl rfl rfl ?_
  refine jT_xiconst (k := 0) (pc' := 2) jI_342_1 rfl ?_
  refine jT_xaload_n (v := (4, 0)) (pc' := 3) jI_342_2 rfl rfl rfl ?_
  refine jT_xiload_n (v := (0, 0)) (pc' := 4) jI_342_3 rfl rfl rfl ?_
  refine jT_xiload_n (v := (0, x2)) (pc' := 5) jI_342_4 rfl rfl rfl ?_
  exact jT_fX [0, 2, 3, 4, 5, 6, 7, 8, 9, 10, 11, 12, 13, 14, 15, 16, 17] 18 (y := 135) (pc' := 8) (dC := 1) (bc1 := 1) (bc2 := 6) (as := [(4, 0), (0, 0), (0, x2)]) (asC := [(4, 0), (0, 0), (0, x2)]) (L' := [(0, (4, 0)), (1, (0, 0)), (2, (0, x2)), (3, (4, 1))]) (st' := [(0, 0), (4, 1)]) (hsC := jpA_11) (e := 0) (jA_135_55 (d := 0) (by omega)) (by rfl) (by rfl) (by decide +kernel) (by rfl) (by rfl) (by omega) (by omega) (by omega) (by omega) (show _ from ⟨rfl, rfl, rfl⟩)
theorem jA_188_57 {xs : List Int} {d : Nat} {x2 : Int} (h_x2 : 8 ≤ x2 ∧ x2 ≤ 2147483647) : jT xs (d + 1) 188 0 0 [(0, (0, x2))] [] [] 0 0 (fun k v hs' => k = 0 ∧ v = (0, 0) ∧ hs' = [] ++ []) := by
  refine jT_xiload_n (v := (0, x2)) (pc' := 1) jI_188_0 rfl rfl rfl ?_
  refine jT_xi2l (x := x2) (z := x2) (pc' := 2) jI_188_1 rfl (jw_idd (by omega) (by omega)) rfl ?_
  refine jT_xlconst (z := 0) (pc' := 3) jI_188_2 rfl rfl ?_
  refine jT_adv 1 (pc' := 6) (L' := [(0, (0, x2))]) (st' := [(1, 7), (1, 0), (1, x2)]) (hs' := []) (c1 := 0) (s1 := 0) (c2 := 0) (s2 := 0) (by exact rfl) ?_ (by omega) (by omega)
  refine jT_fR [] 0 (y := 189) (pc' := 9) (dC := 0) (bc1 := 0) (bc2 := 0) (c1 := 0) (c2 := 0) (as := [(1, x2), (1, 0), (1, 7)]) (asC := [(1, x2), (1, 0), (1, 7)]) (L' := [(0, (0, x2))]) (st' := []) (hsC := []) (v := (0, 0)) (st2 := [(0, 0)]) (jT_in_hi (d := 0) (v := x2) (lo := 0) (hi := 7) (by omega) (by omega) (by omega) (by omega) (by omega)) (by rfl) (by rfl) (by decide +kernel) (by rfl) (by rfl) (by omega) (by omega) (by omega) (by omega) rfl ?_
  exact jT_ret rfl (by decide) (by show 0 ≤ 0; decide) (by omega) (by omega) ⟨rfl, rfl, rfl⟩
theorem jA_257_58 {xs : List Int} {d : Nat} {x2 : Int} (h_x2 : 8 ≤ x2 ∧ x2 ≤ 2147483647) : jT xs (d + 2) 257 16 0 [(0, (4, 0)), (1, (0, 0)), (2, (0, x2))] [] jpA_26 0 0 (fun k v hs' => k = 0 ∧ v = (0, 0) ∧ hs' = jpA_53) := by
  refine jT_xaload_n (v := (4, 0)) (pc' := 1) jI_257_0 rfl rfl rfl ?_
  refine jT_xiconst (k := 0) (pc' := 2) jI_257_1 rfl ?_
  refine jT_adv 1 (pc' := 5) (L' := [(0, (4, 0)), (1, (0, 0)), (2, (0, x2))]) (st' := []) (hs' := jpA_26) (c1 := 0) (s1 := 0) (c2 := 0) (s2 := 0) (by exact rfl) ?_ (by omega) (by omega)
  refine jT_xaload_n (v := (4, 0)) (pc' := 6) jI_257_5 rfl rfl rfl ?_
  refine jT_xiload_n (v := (0, 0)) (pc' := 7) jI_257_6 rfl rfl rfl ?_
  refine jT_xi2l (x := 0) (z := 0) (pc' := 8) jI_257_7 rfl (by decide +kernel) rfl ?_
  refine jT_xlconst (z := 0) (pc' := 9) jI_257_8 rfl rfl ?_
  refine jT_xaload_n (v := (4, 0)) (pc' := 10) jI_257_9 rfl rfl rfl ?_
  refine jT_xgetf (a := 0) (t := 1) (ci := 14) (fi := 1) (c := jzA_22) (v := (4, 1)) (pc' := 13) jI_257_10 rfl rfl rfl rfl rfl rfl rfl ?_
  refine jT_xsipush (k := 1192) (pc' := 16) jI_257_13 (by decide) rfl ?_
  refine jT_iald (x := 0) (a := 1) (j := 1192) (fs := []) (X := jS0) (by rfl) (by rfl) (by rfl) (by rfl) (by decide +kernel) ?_
  refine jT_eq (L' := [(0, (4, 0)), (1, (0, 0)), (2, (0, x2))]) (st' := [(0, 0), (1, 0), (1, 0), (4, 0)]) (hs' := jpA_26) rfl rfl rfl ?_
  refine jT_xi2l (x := 0) (z := 0) (pc' := 18) jI_257_17 rfl (by decide +kernel) rfl ?_
  refine jT_fR [] 16 (y := 189) (pc' := 21) (dC := 0) (bc1 := 0) (bc2 := 0) (c1 := 0) (c2 := 0) (as := [(1, 0), (1, 0), (1, 0)]) (asC := [(1, 0), (1, 0), (1, 0)]) (L' := [(0, (4, 0)), (1, (0, 0)), (2, (0, x2))]) (st' := [(4, 0)]) (hsC := []) (v := (0, 1)) (st2 := [(0, 1), (4, 0)]) (jA_189_11 (d := 0)) (by rfl) (by rfl) (by decide +kernel) (by rfl) (by rfl) (by omega) (by omega) (by omega) (by omega) rfl ?_
  refine jT_xiconst (k := 1) (pc' := 22) jI_257_21 rfl ?_
  refine jT_fR [0] 16 (y := 191) (pc' := 25) (dC := 0) (bc1 := 0) (bc2 := 0) (c1 := 0) (c2 := 0) (as := [(4, 0), (0, 1), (0, 1)]) (asC := [(4, 0), (0, 1), (0, 1)]) (L' := [(0, (4, 0)), (1, (0, 0)), (2, (0, x2))]) (st' := []) (hsC := [jgh]) (v := (0, 0)) (st2 := [(0, 0)]) (jA_191_12 (d := 0)) (by rfl) (by rfl) (by decide +kernel) (by rfl) (by rfl) (by omega) (by omega) (by omega) (by omega) rfl ?_
  refine jT_xifF (t := 40) (pc' := 28) jI_257_25 rfl (by decide +kernel) rfl rfl ?_
  refine jT_xaload_n (v := (4, 0)) (pc' := 29) jI_257_28 rfl rfl rfl ?_
  refine jT_xiload_n (v := (0, x2)) (pc' := 30) jI_257_29 rfl rfl rfl ?_
  refine jT_fR [] 16 (y := 188) (pc' := 33) (dC := 1) (bc1 := 0) (bc2 := 0) (c1 := 0) (c2 := 0) (as := [(0, x2)]) (asC := [(0, x2)]) (L' := [(0, (4, 0)), (1, (0, 0)), (2, (0, x2))]) (st' := [(4, 0)]) (hsC := []) (v := (0, 0)) (st2 := [(0, 0), (4, 0)]) (jA_188_57 (d := 0) (by omega)) (by rfl) (by rfl) (by decide +kernel) (by rfl) (by rfl) (by omega) (by omega) (by omega) (by omega) rfl ?_
  refine jT_xiconst (k := 2) (pc' := 34) jI_257_33 rfl ?_
  refine jT_fB [0, 1, 2, 3, 4, 5, 6, 7, 8, 9, 10, 11, 12, 13, 14, 15] 16 (y := 191) (pc' := 37) (dC := 0) (bc1 := 0) (bc2 := 0) (c1 := 0) (c2 := 0) (as := [(4, 0), (0, 0), (0, 2)]) (asC := [(4, 0), (0, 0), (0, 2)]) (L' := [(0, (4, 0)), (1, (0, 0)), (2, (0, x2))]) (st' := []) (hsC := jpA_23) (hsD := jpA_49) (v := (0, 1)) (st2 := [(0, 1)]) (hs2 := jpA_53) (jA_191_14 (d := 0)) (by rfl) (by rfl) (by decide +kernel) (by rfl) (by rfl) (by omega) (by omega) (by omega) (by omega) rfl (by decide +kernel) ?_
  refine jT_xifF (t := 42) (pc' := 40) jI_257_37 rfl (by decide +kernel) rfl rfl ?_
  refine jT_xiconst (k := 0) (pc' := 41) jI_257_40 rfl ?_
  exact jT_ret rfl (by decide) (by show 16 ≤ 16; decide) (by omega) (by omega) ⟨rfl, rfl, rfl⟩
theorem jI_116_5 : jmI (jm 116) 5 = (.iload_n 1, 1) := by rfl
theorem jI_116_6 : jmI (jm 116) 6 = (.iload_n 3, 1) := by rfl
theorem jI_116_7 : jmI (jm 116) 7 = (.if_icmp .le 14, 3) := by rfl
theorem jA_116_59 {xs : List Int} {d : Nat} {x1 : Int} (h_x1 : 1 ≤ x1 ∧ x1 ≤ 2147483647) : jT xs d 116 1 0 [(0, (4, 0)), (1, (0, x1)), (2, (0, 0)), (3, (0, 0))] [] [jgh] 1 6 (fun k v hs' => k = 1 ∧ v = (0, 1) ∧ hs' = [jgh] ++ []) := by
  refine jT_xiload_n (v := (0, x1)) (pc' := 1) jI_116_0 rfl rfl rfl ?_
  refine jT_xiload_n (v := (0, 0)) (pc' := 2) jI_116_1 rfl rfl rfl ?_
  refine jT_icF (a := x1) (b := 0) (t := 10) (by rfl) (by rfl) (by rfl) (jw_idd (by omega) (by omega)) (jw_idd (by omega) (by omega)) (by simp only [jcP] <;> omega) ?_
  refine jT_xiload_n (v := (0, x1)) (pc' := 6) jI_116_5 rfl rfl rfl ?_
  refine jT_xiload_n (v := (0, 0)) (pc' := 7) jI_116_6 rfl rfl rfl ?_
  refine jT_icF (a := x1) (b := 0) (t := 21) (by rfl) (by rfl) (by rfl) (jw_idd (by omega) (by omega)) (jw_idd (by omega) (by omega)) (by simp only [jcP] <;> omega) ?_
  exact jT_ret (c1 := 1) (s1 := 6) rfl (by decide) (by show 1 ≤ 1; decide) (by omega) (by omega) ⟨rfl, rfl, rfl⟩
theorem jA_135_60 {xs : List Int} {d : Nat} {x1 x2 : Int} (h_x1 : 1 ≤ x1 ∧ x1 ≤ 2147483647) (h_x2 : (-2147483648) ≤ x2 ∧ x2 ≤ 2147483647) : jT xs (d + 1) 135 17 0 [(0, (4, 0)), (1, (0, x1)), (2, (0, x2))] [] jpA_11 1 6 (fun k v hs' => k = 1 ∧ v = (0, 1) ∧ hs' = jpA_11 ++ []) := by
  refine jT_xaload_n (v := (4, 0)) (pc' := 1) jI_135_0 rfl rfl rfl ?_
  refine jT_xiload_n (v := (0, x1)) (pc' := 2) jI_135_1 rfl rfl rfl ?_
  refine jT_xiconst (k := 0) (pc' := 3) jI_135_2 rfl ?_
  refine jT_xaload_n (v := (4, 0)) (pc' := 4) jI_135_3 rfl rfl rfl ?_
  refine jT_xgetf (a := 0) (t := 1) (ci := 13) (fi := 11) (c := jzA_8) (v := (4, 11)) (pc' := 7) jI_135_4 rfl rfl rfl rfl rfl rfl rfl ?_
  refine jT_xgetf (a := 11) (t := 2) (ci := 9) (fi := 4) (c := jzA_10) (v := (4, 16)) (pc' := 10) jI_135_7 rfl rfl rfl rfl rfl rfl rfl ?_
  refine jT_adv 1 (pc' := 11) (L' := [(0, (4, 0)), (1, (0, x1)), (2, (0, x2))]) (st' := [(0, 0), (0, 0), (0, x1), (4, 0)]) (hs' := jpA_11) (c1 := 0) (s1 := 0) (c2 := 1) (s2 := 6) (by exact rfl) ?_ (by omega) (by omega)
  exact jT_fX [0] 17 (y := 116) (pc' := 14) (dC := 0) (bc1 := 1) (bc2 := 6) (as := [(4, 0), (0, x1), (0, 0), (0, 0)]) (asC := [(4, 0), (0, x1), (0, 0), (0, 0)]) (L' := [(0, (4, 0)), (1, (0, x1)), (2, (0, x2))]) (st' := []) (hsC := [jgh]) (e := 1) (jA_116_59 (d := 0) (by omega)) (by rfl) (by rfl) (by decide +kernel) (by rfl) (by rfl) (by omega) (by omega) (by omega) (by omega) ⟨rfl, ⟨rfl, rfl, rfl⟩⟩
theorem jA_342_61 {xs : List Int} {d : Nat} {x1 x2 : Int} (h_x1 : 1 ≤ x1 ∧ x1 ≤ 2147483647) (h_x2 : (-2147483648) ≤ x2 ∧ x2 ≤ 2147483647) : jT xs (d + 2) 342 18 0 [(0, (4, 0)), (1, (0, x1)), (2, (0, x2)), (3, (4, 1))] [] jpA_19 1 6 (fun k v hs' => k = 0 ∧ v = (0, 1) ∧ hs' = jpA_19 ++ []) := by
  refine jT_xaload_n (v := (4, 1)) (pc' := 1) jI_342_0 rfl rfl rfl ?_
  refine jT_xiconst (k := 0) (pc' := 2) jI_342_1 rfl ?_
  refine jT_xaload_n (v := (4, 0)) (pc' := 3) jI_342_2 rfl rfl rfl ?_
  refine jT_xiload_n (v := (0, x1)) (pc' := 4) jI_342_3 rfl rfl rfl ?_
  refine jT_xiload_n (v := (0, x2)) (pc' := 5) jI_342_4 rfl rfl rfl ?_
  exact jT_fX [0, 2, 3, 4, 5, 6, 7, 8, 9, 10, 11, 12, 13, 14, 15, 16, 17] 18 (y := 135) (pc' := 8) (dC := 1) (bc1 := 1) (bc2 := 6) (as := [(4, 0), (0, x1), (0, x2)]) (asC := [(4, 0), (0, x1), (0, x2)]) (L' := [(0, (4, 0)), (1, (0, x1)), (2, (0, x2)), (3, (4, 1))]) (st' := [(0, 0), (4, 1)]) (hsC := jpA_11) (e := 1) (jA_135_60 (d := 0) (by omega) (by omega)) (by rfl) (by rfl) (by decide +kernel) (by rfl) (by rfl) (by omega) (by omega) (by omega) (by omega) (show _ from ⟨rfl, rfl, rfl⟩)
theorem jA_257_62 {xs : List Int} {d : Nat} {x1 x2 : Int} (h_x1 : 1 ≤ x1 ∧ x1 ≤ 2147483647) (h_x2 : (-2147483648) ≤ x2 ∧ x2 ≤ 2147483647) : jT xs (d + 1) 257 16 0 [(0, (4, 0)), (1, (0, x1)), (2, (0, x2))] [] jpA_26 0 0 (fun k v hs' => k = 0 ∧ v = (0, 0) ∧ hs' = jpA_37) := by
  refine jT_xaload_n (v := (4, 0)) (pc' := 1) jI_257_0 rfl rfl rfl ?_
  refine jT_xiconst (k := 0) (pc' := 2) jI_257_1 rfl ?_
  refine jT_adv 1 (pc' := 5) (L' := [(0, (4, 0)), (1, (0, x1)), (2, (0, x2))]) (st' := []) (hs' := jpA_26) (c1 := 0) (s1 := 0) (c2 := 0) (s2 := 0) (by exact rfl) ?_ (by omega) (by omega)
  refine jT_xaload_n (v := (4, 0)) (pc' := 6) jI_257_5 rfl rfl rfl ?_
  refine jT_xiload_n (v := (0, x1)) (pc' := 7) jI_257_6 rfl rfl rfl ?_
  refine jT_xi2l (x := x1) (z := x1) (pc' := 8) jI_257_7 rfl (jw_idd (by omega) (by omega)) rfl ?_
  refine jT_xlconst (z := 0) (pc' := 9) jI_257_8 rfl rfl ?_
  refine jT_xaload_n (v := (4, 0)) (pc' := 10) jI_257_9 rfl rfl rfl ?_
  refine jT_xgetf (a := 0) (t := 1) (ci := 14) (fi := 1) (c := jzA_22) (v := (4, 1)) (pc' := 13) jI_257_10 rfl rfl rfl rfl rfl rfl rfl ?_
  refine jT_xsipush (k := 1192) (pc' := 16) jI_257_13 (by decide) rfl ?_
  refine jT_iald (x := 0) (a := 1) (j := 1192) (fs := []) (X := jS0) (by rfl) (by rfl) (by rfl) (by rfl) (by decide +kernel) ?_
  refine jT_eq (L' := [(0, (4, 0)), (1, (0, x1)), (2, (0, x2))]) (st' := [(0, 0), (1, 0), (1, x1), (4, 0)]) (hs' := jpA_26) rfl rfl rfl ?_
  refine jT_xi2l (x := 0) (z := 0) (pc' := 18) jI_257_17 rfl (by decide +kernel) rfl ?_
  refine jT_fR [] 16 (y := 189) (pc' := 21) (dC := 0) (bc1 := 0) (bc2 := 0) (c1 := 0) (c2 := 0) (as := [(1, x1), (1, 0), (1, 0)]) (asC := [(1, x1), (1, 0), (1, 0)]) (L' := [(0, (4, 0)), (1, (0, x1)), (2, (0, x2))]) (st' := [(4, 0)]) (hsC := []) (v := (0, 0)) (st2 := [(0, 0), (4, 0)]) (jT_in_hi (d := 0) (v := x1) (lo := 0) (hi := 0) (by omega) (by omega) (by omega) (by omega) (by omega)) (by rfl) (by rfl) (by decide +kernel) (by rfl) (by rfl) (by omega) (by omega) (by omega) (by omega) rfl ?_
  refine jT_xiconst (k := 1) (pc' := 22) jI_257_21 rfl ?_
  refine jT_fB [0, 1, 2, 3, 4, 5, 6, 7, 8, 9, 10, 11, 12, 13, 14, 15] 16 (y := 191) (pc' := 25) (dC := 0) (bc1 := 0) (bc2 := 0) (c1 := 0) (c2 := 0) (as := [(4, 0), (0, 0), (0, 1)]) (asC := [(4, 0), (0, 0), (0, 1)]) (L' := [(0, (4, 0)), (1, (0, x1)), (2, (0, x2))]) (st' := []) (hsC := jpA_23) (hsD := jpA_21) (v := (0, 1)) (st2 := [(0, 1)]) (hs2 := jpA_37) (jA_191_4 (d := 0)) (by rfl) (by rfl) (by decide +kernel) (by rfl) (by rfl) (by omega) (by omega) (by omega) (by omega) rfl (by decide +kernel) ?_
  refine jT_xifT (pc' := 40) jI_257_25 rfl (by decide +kernel) rfl ?_
  refine jT_xiconst (k := 0) (pc' := 41) jI_257_40 rfl ?_
  exact jT_ret rfl (by decide) (by show 16 ≤ 16; decide) (by omega) (by omega) ⟨rfl, rfl, rfl⟩
theorem jI_379_1546 : jmI (jm 379) 1546 = (.aload_n 1, 1) := by rfl
theorem jI_379_1547 : jmI (jm 379) 1547 = (.aload_n 0, 1) := by rfl
theorem jI_379_1548 : jmI (jm 379) 1548 = (.iload 5, 2) := by rfl
theorem jI_379_1550 : jmI (jm 379) 1550 = (.iconst 1, 1) := by rfl
theorem jI_379_1551 : jmI (jm 379) 1551 = (.iadd, 1) := by rfl
def jzA_211 : JC := (13, [(4, 4), (4, 5), (4, 6), (4, 7), (4, 8), (4, 9), (4, 10), (4, 11), (4, 12), (4, 13), (0, 0), (4, 14), (0, 0)], [])
def jzA_212 : JC := (14, [(0, 0), (4, 15), (4, 16), (4, 17), (4, 18), (0, 0), (4, 19), (0, 0), (4, 20), (4, 21), (1, 1), (4, 22), (0, 0), (4, 23), (0, 0), (0, 0), (0, 0), (0, 0), (0, 0), (0, 0), (0, 0), (4, 24), (4, 25), (4, 26), (4, 27), (4, 28), (4, 29), (0, 0)], [])
def jzA_213 : JC := (9, [(4, 30), (4, 31), (4, 32), (4, 33), (4, 34)], [])
def jpA_214 : List JC := [jzA_211, jzA_212, jgh, jgh, jgh, jgh, jgh, jgh, jgh, jgh, jgh, jgh, jgh, jgh, jzA_213, (100, [], jS0), jgh, jgh, jgh, jgh, jgh, jgh, jgh, jgh, jgh, jgh, jgh, jgh, jgh, jgh, jgh, jgh, jgh, jgh, (114, [], [])]
theorem jI_379_1553 : jmI (jm 379) 1553 = (.aload_n 0, 1) := by rfl
theorem jI_379_1554 : jmI (jm 379) 1554 = (.iload 5, 2) := by rfl
theorem jI_379_1556 : jmI (jm 379) 1556 = (.iconst 2, 1) := by rfl
theorem jI_379_1557 : jmI (jm 379) 1557 = (.iadd, 1) := by rfl
theorem jI_379_1559 : jmI (jm 379) 1559 = (.aload_n 3, 1) := by rfl
theorem jI_379_1563 : jmI (jm 379) 1563 = (.istore 6, 2) := by rfl
theorem jI_379_1565 : jmI (jm 379) 1565 = (.aload_n 2, 1) := by rfl
theorem jI_379_1566 : jmI (jm 379) 1566 = (.aload_n 0, 1) := by rfl
theorem jI_379_1567 : jmI (jm 379) 1567 = (.iload 5, 2) := by rfl
theorem jI_379_1569 : jmI (jm 379) 1569 = (.iconst 1, 1) := by rfl
theorem jI_379_1570 : jmI (jm 379) 1570 = (.iadd, 1) := by rfl
theorem jI_379_1572 : jmI (jm 379) 1572 = (.aload_n 0, 1) := by rfl
theorem jI_379_1573 : jmI (jm 379) 1573 = (.iload 5, 2) := by rfl
theorem jI_379_1575 : jmI (jm 379) 1575 = (.iconst 2, 1) := by rfl
theorem jI_379_1576 : jmI (jm 379) 1576 = (.iadd, 1) := by rfl
def jzA_230 : JC := (14, [(0, 1), (4, 15), (4, 16), (4, 17), (4, 18), (0, 0), (4, 19), (0, 0), (4, 20), (4, 21), (1, 1), (4, 22), (0, 0), (4, 23), (0, 0), (0, 0), (0, 0), (0, 0), (0, 0), (0, 0), (0, 0), (4, 24), (4, 25), (4, 26), (4, 27), (4, 28), (4, 29), (0, 0)], [])
def jpA_231 : List JC := [jzA_211, jzA_230, jgh, jgh, jgh, jgh, jgh, jgh, jgh, jgh, jgh, jgh, jgh, jgh, jzA_213, (100, [], jS0), jgh, jgh, jgh, jgh, jgh, jgh, jgh, jgh, jgh, jgh, jgh, jgh, jgh, jgh, jgh, jgh, jgh, jgh, (114, [], [])]
theorem jI_379_1581 : jmI (jm 379) 1581 = (.istore 7, 2) := by rfl
theorem jI_379_1583 : jmI (jm 379) 1583 = (.aload_n 2, 1) := by rfl
theorem jI_379_1587 : jmI (jm 379) 1587 = (.iload 6, 2) := by rfl
theorem jI_379_1589 : jmI (jm 379) 1589 = (.if_icmp .eq 5, 3) := by rfl
theorem jI_379_1594 : jmI (jm 379) 1594 = (.iload 6, 2) := by rfl
theorem jI_379_1596 : jmI (jm 379) 1596 = (.ifCond .ne 15, 3) := by rfl
theorem jI_379_1611 : jmI (jm 379) 1611 = (.goto 2129, 3) := by rfl
theorem jI_379_3740 : jmI (jm 379) 3740 = (.iinc 5 5, 3) := by rfl
theorem jI_379_3743 : jmI (jm 379) 3743 = (.goto (-3715), 3) := by rfl
theorem jI_379_28 : jmI (jm 379) 28 = (.iload 5, 2) := by rfl
theorem jI_379_30 : jmI (jm 379) 30 = (.aload_n 0, 1) := by rfl
theorem jI_379_32 : jmI (jm 379) 32 = (.iconst 5, 1) := by rfl
theorem jI_379_33 : jmI (jm 379) 33 = (.isub, 1) := by rfl
theorem jI_379_34 : jmI (jm 379) 34 = (.if_icmp .gt 3712, 3) := by rfl
theorem jI_379_3746 : jmI (jm 379) 3746 = (.iconst 1, 1) := by rfl
set_option maxRecDepth 100000 in
theorem jL_16_0 {d : Nat} {x0 x1 x2 x3 x4 : Int} (h_x0 : (-2147483648) ≤ x0 ∧ x0 ≤ 2147483647) (h_x1 : (-2147483648) ≤ x1 ∧ x1 ≤ (-1)) (h_x2 : (-2147483648) ≤ x2 ∧ x2 ≤ 2147483647) (h_x3 : (-2147483648) ≤ x3 ∧ x3 ≤ 2147483647) (h_x4 : (-2147483648) ≤ x4 ∧ x4 ≤ 2147483647) : jT [x0, x1, x2, x3, x4] (d + 3) 379 35 1546 [(5, (0, 0)), (4, (4, 3)), (3, (4, 2)), (2, (4, 1)), (1, (4, 0)), (0, (6, 0))] [] jpA_214 1 6 (fun k v hs' => k = 0 ∧ v = (0, 1)) := by
  refine jT_xaload_n (v := (4, 0)) (pc' := 1547) jI_379_1546 rfl rfl rfl ?_
  refine jT_xaload_n (v := (6, 0)) (pc' := 1548) jI_379_1547 rfl rfl rfl ?_
  refine jT_xiload (v := (0, 0)) (pc' := 1550) jI_379_1548 rfl rfl rfl ?_
  refine jT_xiconst (k := 1) (pc' := 1551) jI_379_1550 rfl ?_
  refine jT_xiadd (x := 0) (y := 1) (z := 1) (pc' := 1552) jI_379_1551 rfl (by decide) rfl ?_
  refine jT_adv 1 (pc' := 1553) (L' := [(5, (0, 0)), (4, (4, 3)), (3, (4, 2)), (2, (4, 1)), (1, (4, 0)), (0, (6, 0))]) (st' := [(0, x1), (4, 0)]) (hs' := jpA_214) (c1 := 0) (s1 := 0) (c2 := 1) (s2 := 6) (by exact rfl) ?_ (by omega) (by omega)
  refine jT_xaload_n (v := (6, 0)) (pc' := 1554) jI_379_1553 rfl rfl rfl ?_
  refine jT_xiload (v := (0, 0)) (pc' := 1556) jI_379_1554 rfl rfl rfl ?_
  refine jT_xiconst (k := 2) (pc' := 1557) jI_379_1556 rfl ?_
  refine jT_xiadd (x := 0) (y := 2) (z := 2) (pc' := 1558) jI_379_1557 rfl (by decide) rfl ?_
  refine jT_adv 1 (pc' := 1559) (L' := [(5, (0, 0)), (4, (4, 3)), (3, (4, 2)), (2, (4, 1)), (1, (4, 0)), (0, (6, 0))]) (st' := [(0, x2), (0, x1), (4, 0)]) (hs' := jpA_214) (c1 := 0) (s1 := 0) (c2 := 1) (s2 := 6) (by exact rfl) ?_ (by omega) (by omega)
  refine jT_xaload_n (v := (4, 2)) (pc' := 1560) jI_379_1559 rfl rfl rfl ?_
  refine jT_fR [0, 2, 4, 5, 6, 7, 8, 9, 10, 11, 12, 13, 14, 30, 31, 32, 33, 34] 35 (y := 342) (pc' := 1563) (dC := 2) (bc1 := 1) (bc2 := 6) (c1 := 0) (c2 := 0) (as := [(4, 0), (0, x1), (0, x2), (4, 2)]) (asC := [(4, 0), (0, x1), (0, x2), (4, 1)]) (L' := [(5, (0, 0)), (4, (4, 3)), (3, (4, 2)), (2, (4, 1)), (1, (4, 0)), (0, (6, 0))]) (st' := []) (hsC := jpA_19) (v := (0, 1)) (st2 := [(0, 1)]) (jA_342_3 (d := 0) (by omega) (by omega)) (by rfl) (by rfl) (by decide +kernel) (by rfl) (by rfl) (by omega) (by omega) (by omega) (by omega) rfl ?_
  refine jT_xistore (v := (0, 1)) (L' := [(6, (0, 1)), (5, (0, 0)), (4, (4, 3)), (3, (4, 2)), (2, (4, 1)), (1, (4, 0)), (0, (6, 0))]) (pc' := 1565) jI_379_1563 rfl rfl rfl rfl ?_
  refine jT_xaload_n (v := (4, 1)) (pc' := 1566) jI_379_1565 rfl rfl rfl ?_
  refine jT_xaload_n (v := (6, 0)) (pc' := 1567) jI_379_1566 rfl rfl rfl ?_
  refine jT_xiload (v := (0, 0)) (pc' := 1569) jI_379_1567 rfl rfl rfl ?_
  refine jT_xiconst (k := 1) (pc' := 1570) jI_379_1569 rfl ?_
  refine jT_xiadd (x := 0) (y := 1) (z := 1) (pc' := 1571) jI_379_1570 rfl (by decide) rfl ?_
  refine jT_adv 1 (pc' := 1572) (L' := [(6, (0, 1)), (5, (0, 0)), (4, (4, 3)), (3, (4, 2)), (2, (4, 1)), (1, (4, 0)), (0, (6, 0))]) (st' := [(0, x1), (4, 1)]) (hs' := jpA_214) (c1 := 0) (s1 := 0) (c2 := 0) (s2 := 0) (by exact rfl) ?_ (by omega) (by omega)
  refine jT_xaload_n (v := (6, 0)) (pc' := 1573) jI_379_1572 rfl rfl rfl ?_
  refine jT_xiload (v := (0, 0)) (pc' := 1575) jI_379_1573 rfl rfl rfl ?_
  refine jT_xiconst (k := 2) (pc' := 1576) jI_379_1575 rfl ?_
  refine jT_xiadd (x := 0) (y := 2) (z := 2) (pc' := 1577) jI_379_1576 rfl (by decide) rfl ?_
  refine jT_adv 1 (pc' := 1578) (L' := [(6, (0, 1)), (5, (0, 0)), (4, (4, 3)), (3, (4, 2)), (2, (4, 1)), (1, (4, 0)), (0, (6, 0))]) (st' := [(0, x2), (0, x1), (4, 1)]) (hs' := jpA_214) (c1 := 0) (s1 := 0) (c2 := 0) (s2 := 0) (by exact rfl) ?_ (by omega) (by omega)
  refine jT_fB [1, 15, 16, 17, 18, 19, 20, 21, 22, 23, 24, 25, 26, 27, 28, 29] 35 (y := 257) (pc' := 1581) (dC := 1) (bc1 := 0) (bc2 := 0) (c1 := 0) (c2 := 0) (as := [(4, 1), (0, x1), (0, x2)]) (asC := [(4, 0), (0, x1), (0, x2)]) (L' := [(6, (0, 1)), (5, (0, 0)), (4, (4, 3)), (3, (4, 2)), (2, (4, 1)), (1, (4, 0)), (0, (6, 0))]) (st' := []) (hsC := jpA_26) (hsD := jpA_37) (v := (0, 0)) (st2 := [(0, 0)]) (hs2 := jpA_231) (jA_257_5 (d := 0) (by omega) (by omega)) (by rfl) (by rfl) (by decide +kernel) (by rfl) (by rfl) (by omega) (by omega) (by omega) (by omega) rfl (by decide +kernel) ?_
  refine jT_xistore (v := (0, 0)) (L' := [(7, (0, 0)), (6, (0, 1)), (5, (0, 0)), (4, (4, 3)), (3, (4, 2)), (2, (4, 1)), (1, (4, 0)), (0, (6, 0))]) (pc' := 1583) jI_379_1581 rfl rfl rfl rfl ?_
  refine jT_xaload_n (v := (4, 1)) (pc' := 1584) jI_379_1583 rfl rfl rfl ?_
  refine jT_fR [1, 15, 16, 17, 18, 19, 20, 21, 22, 23, 24, 25, 26, 27, 28, 29] 35 (y := 186) (pc' := 1587) (dC := 0) (bc1 := 0) (bc2 := 0) (c1 := 0) (c2 := 0) (as := [(4, 1)]) (asC := [(4, 0)]) (L' := [(7, (0, 0)), (6, (0, 1)), (5, (0, 0)), (4, (4, 3)), (3, (4, 2)), (2, (4, 1)), (1, (4, 0)), (0, (6, 0))]) (st' := []) (hsC := jpA_21) (v := (0, 1)) (st2 := [(0, 1)]) (jA_186_6 (d := 0)) (by rfl) (by rfl) (by decide +kernel) (by rfl) (by rfl) (by omega) (by omega) (by omega) (by omega) rfl ?_
  refine jT_xiload (v := (0, 1)) (pc' := 1589) jI_379_1587 rfl rfl rfl ?_
  refine jT_xicT (pc' := 1594) jI_379_1589 rfl (by decide +kernel) rfl ?_
  refine jT_xiload (v := (0, 1)) (pc' := 1596) jI_379_1594 rfl rfl rfl ?_
  refine jT_xifT (pc' := 1611) jI_379_1596 rfl (by decide +kernel) rfl ?_
  refine jT_xgoto (pc' := 3740) jI_379_1611 rfl ?_
  refine jT_xiinc (x := 0) (z := 5) (L' := [(5, (0, 5)), (7, (0, 0)), (6, (0, 1)), (4, (4, 3)), (3, (4, 2)), (2, (4, 1)), (1, (4, 0)), (0, (6, 0))]) (pc' := 3743) jI_379_3740 rfl rfl (by decide) rfl rfl ?_
  refine jT_xgoto (pc' := 28) jI_379_3743 rfl ?_
  refine jT_xiload (v := (0, 5)) (pc' := 30) jI_379_28 rfl rfl rfl ?_
  refine jT_xaload_n (v := (6, 0)) (pc' := 31) jI_379_30 rfl rfl rfl ?_
  refine jT_adv 1 (pc' := 32) (L' := [(5, (0, 5)), (7, (0, 0)), (6, (0, 1)), (4, (4, 3)), (3, (4, 2)), (2, (4, 1)), (1, (4, 0)), (0, (6, 0))]) (st' := [(0, 5), (0, 5)]) (hs' := jpA_231) (c1 := 0) (s1 := 0) (c2 := 0) (s2 := 0) (by exact rfl) ?_ (by omega) (by omega)
  refine jT_xiconst (k := 5) (pc' := 33) jI_379_32 rfl ?_
  refine jT_xisub (x := 5) (y := 5) (z := 0) (pc' := 34) jI_379_33 rfl (by decide) rfl ?_
  refine jT_xicT (pc' := 3746) jI_379_34 rfl (by decide +kernel) rfl ?_
  refine jT_xiconst (k := 1) (pc' := 3747) jI_379_3746 rfl ?_
  exact jT_ret rfl (by decide) (by show 35 ≤ 35; decide) (by omega) (by omega) ⟨rfl, rfl⟩
def jzA_247 : JC := (14, [(0, 2), (4, 15), (4, 16), (4, 17), (4, 18), (0, 0), (4, 19), (0, 0), (4, 20), (4, 21), (1, 1), (4, 22), (0, 0), (4, 23), (0, 0), (0, 0), (0, 0), (0, 0), (0, 0), (0, 0), (0, 0), (4, 24), (4, 25), (4, 26), (4, 27), (4, 28), (4, 29), (0, 0)], [])
def jpA_248 : List JC := [jzA_211, jzA_247, jgh, jgh, jgh, jgh, jgh, jgh, jgh, jgh, jgh, jgh, jgh, jgh, jzA_213, (100, [], jS0), jgh, jgh, jgh, jgh, jgh, jgh, jgh, jgh, jgh, jgh, jgh, jgh, jgh, jgh, jgh, jgh, jgh, jgh, (114, [], [])]
set_option maxRecDepth 100000 in
theorem jL_16_1 {d : Nat} {x0 x1 x2 x3 x4 : Int} (h_x0 : (-2147483648) ≤ x0 ∧ x0 ≤ 2147483647) (h_x1 : 0 ≤ x1 ∧ x1 ≤ 0) (h_x2 : (-2147483648) ≤ x2 ∧ x2 ≤ (-1)) (h_x3 : (-2147483648) ≤ x3 ∧ x3 ≤ 2147483647) (h_x4 : (-2147483648) ≤ x4 ∧ x4 ≤ 2147483647) : jT [x0, x1, x2, x3, x4] (d + 3) 379 35 1546 [(5, (0, 0)), (4, (4, 3)), (3, (4, 2)), (2, (4, 1)), (1, (4, 0)), (0, (6, 0))] [] jpA_214 1 6 (fun k v hs' => k = 0 ∧ v = (0, 1)) := by
  refine jT_xaload_n (v := (4, 0)) (pc' := 1547) jI_379_1546 rfl rfl rfl ?_
  refine jT_xaload_n (v := (6, 0)) (pc' := 1548) jI_379_1547 rfl rfl rfl ?_
  refine jT_xiload (v := (0, 0)) (pc' := 1550) jI_379_1548 rfl rfl rfl ?_
  refine jT_xiconst (k := 1) (pc' := 1551) jI_379_1550 rfl ?_
  refine jT_xiadd (x := 0) (y := 1) (z := 1) (pc' := 1552) jI_379_1551 rfl (by decide) rfl ?_
  refine jT_adv 1 (pc' := 1553) (L' := [(5, (0, 0)), (4, (4, 3)), (3, (4, 2)), (2, (4, 1)), (1, (4, 0)), (0, (6, 0))]) (st' := [(0, x1), (4, 0)]) (hs' := jpA_214) (c1 := 0) (s1 := 0) (c2 := 1) (s2 := 6) (by exact rfl) ?_ (by omega) (by omega)
  refine jT_eq (L' := [(5, (0, 0)), (4, (4, 3)), (3, (4, 2)), (2, (4, 1)), (1, (4, 0)), (0, (6, 0))]) (st' := [(0, 0), (4, 0)]) (hs' := [jzA_211, jzA_212, jgh, jgh, jgh, jgh, jgh, jgh, jgh, jgh, jgh, jgh, jgh, jgh, jzA_213, (100, [], jS0), jgh, jgh, jgh, jgh, jgh, jgh, jgh, jgh, jgh, jgh, jgh, jgh, jgh, jgh, jgh, jgh, jgh, jgh, (114, [], [])]) (rfl) (by simp only [List.cons.injEq, Prod.mk.injEq, and_true, true_and] <;> ((try unfold jw); (try unfold jwl); omega)) (rfl) ?_
  refine jT_xaload_n (v := (6, 0)) (pc' := 1554) jI_379_1553 rfl rfl rfl ?_
  refine jT_xiload (v := (0, 0)) (pc' := 1556) jI_379_1554 rfl rfl rfl ?_
  refine jT_xiconst (k := 2) (pc' := 1557) jI_379_1556 rfl ?_
  refine jT_xiadd (x := 0) (y := 2) (z := 2) (pc' := 1558) jI_379_1557 rfl (by decide) rfl ?_
  refine jT_adv 1 (pc' := 1559) (L' := [(5, (0, 0)), (4, (4, 3)), (3, (4, 2)), (2, (4, 1)), (1, (4, 0)), (0, (6, 0))]) (st' := [(0, x2), (0, 0), (4, 0)]) (hs' := jpA_214) (c1 := 0) (s1 := 0) (c2 := 1) (s2 := 6) (by exact rfl) ?_ (by omega) (by omega)
  refine jT_xaload_n (v := (4, 2)) (pc' := 1560) jI_379_1559 rfl rfl rfl ?_
  refine jT_fR [0, 2, 4, 5, 6, 7, 8, 9, 10, 11, 12, 13, 14, 30, 31, 32, 33, 34] 35 (y := 342) (pc' := 1563) (dC := 2) (bc1 := 1) (bc2 := 6) (c1 := 0) (c2 := 0) (as := [(4, 0), (0, 0), (0, x2), (4, 2)]) (asC := [(4, 0), (0, 0), (0, x2), (4, 1)]) (L' := [(5, (0, 0)), (4, (4, 3)), (3, (4, 2)), (2, (4, 1)), (1, (4, 0)), (0, (6, 0))]) (st' := []) (hsC := jpA_19) (v := (0, 2)) (st2 := [(0, 2)]) (jA_342_10 (d := 0) (by omega)) (by rfl) (by rfl) (by decide +kernel) (by rfl) (by rfl) (by omega) (by omega) (by omega) (by omega) rfl ?_
  refine jT_xistore (v := (0, 2)) (L' := [(6, (0, 2)), (5, (0, 0)), (4, (4, 3)), (3, (4, 2)), (2, (4, 1)), (1, (4, 0)), (0, (6, 0))]) (pc' := 1565) jI_379_1563 rfl rfl rfl rfl ?_
  refine jT_xaload_n (v := (4, 1)) (pc' := 1566) jI_379_1565 rfl rfl rfl ?_
  refine jT_xaload_n (v := (6, 0)) (pc' := 1567) jI_379_1566 rfl rfl rfl ?_
  refine jT_xiload (v := (0, 0)) (pc' := 1569) jI_379_1567 rfl rfl rfl ?_
  refine jT_xiconst (k := 1) (pc' := 1570) jI_379_1569 rfl ?_
  refine jT_xiadd (x := 0) (y := 1) (z := 1) (pc' := 1571) jI_379_1570 rfl (by decide) rfl ?_
  refine jT_adv 1 (pc' := 1572) (L' := [(6, (0, 2)), (5, (0, 0)), (4, (4, 3)), (3, (4, 2)), (2, (4, 1)), (1, (4, 0)), (0, (6, 0))]) (st' := [(0, x1), (4, 1)]) (hs' := jpA_214) (c1 := 0) (s1 := 0) (c2 := 0) (s2 := 0) (by exact rfl) ?_ (by omega) (by omega)
  refine jT_eq (L' := [(6, (0, 2)), (5, (0, 0)), (4, (4, 3)), (3, (4, 2)), (2, (4, 1)), (1, (4, 0)), (0, (6, 0))]) (st' := [(0, 0), (4, 1)]) (hs' := [jzA_211, jzA_212, jgh, jgh, jgh, jgh, jgh, jgh, jgh, jgh, jgh, jgh, jgh, jgh, jzA_213, (100, [], jS0), jgh, jgh, jgh, jgh, jgh, jgh, jgh, jgh, jgh, jgh, jgh, jgh, jgh, jgh, jgh, jgh, jgh, jgh, (114, [], [])]) (rfl) (by simp only [List.cons.injEq, Prod.mk.injEq, and_true, true_and] <;> ((try unfold jw); (try unfold jwl); omega)) (rfl) ?_
  refine jT_xaload_n (v := (6, 0)) (pc' := 1573) jI_379_1572 rfl rfl rfl ?_
  refine jT_xiload (v := (0, 0)) (pc' := 1575) jI_379_1573 rfl rfl rfl ?_
  refine jT_xiconst (k := 2) (pc' := 1576) jI_379_1575 rfl ?_
  refine jT_xiadd (x := 0) (y := 2) (z := 2) (pc' := 1577) jI_379_1576 rfl (by decide) rfl ?_
  refine jT_adv 1 (pc' := 1578) (L' := [(6, (0, 2)), (5, (0, 0)), (4, (4, 3)), (3, (4, 2)), (2, (4, 1)), (1, (4, 0)), (0, (6, 0))]) (st' := [(0, x2), (0, 0), (4, 1)]) (hs' := jpA_214) (c1 := 0) (s1 := 0) (c2 := 0) (s2 := 0) (by exact rfl) ?_ (by omega) (by omega)
  refine jT_fB [1, 15, 16, 17, 18, 19, 20, 21, 22, 23, 24, 25, 26, 27, 28, 29] 35 (y := 257) (pc' := 1581) (dC := 2) (bc1 := 0) (bc2 := 0) (c1 := 0) (c2 := 0) (as := [(4, 1), (0, 0), (0, x2)]) (asC := [(4, 0), (0, 0), (0, x2)]) (L' := [(6, (0, 2)), (5, (0, 0)), (4, (4, 3)), (3, (4, 2)), (2, (4, 1)), (1, (4, 0)), (0, (6, 0))]) (st' := []) (hsC := jpA_26) (hsD := jpA_53) (v := (0, 0)) (st2 := [(0, 0)]) (hs2 := jpA_248) (jA_257_15 (d := 0) (by omega)) (by rfl) (by rfl) (by decide +kernel) (by rfl) (by rfl) (by omega) (by omega) (by omega) (by omega) rfl (by decide +kernel) ?_
  refine jT_xistore (v := (0, 0)) (L' := [(7, (0, 0)), (6, (0, 2)), (5, (0, 0)), (4, (4, 3)), (3, (4, 2)), (2, (4, 1)), (1, (4, 0)), (0, (6, 0))]) (pc' := 1583) jI_379_1581 rfl rfl rfl rfl ?_
  refine jT_xaload_n (v := (4, 1)) (pc' := 1584) jI_379_1583 rfl rfl rfl ?_
  refine jT_fR [1, 15, 16, 17, 18, 19, 20, 21, 22, 23, 24, 25, 26, 27, 28, 29] 35 (y := 186) (pc' := 1587) (dC := 0) (bc1 := 0) (bc2 := 0) (c1 := 0) (c2 := 0) (as := [(4, 1)]) (asC := [(4, 0)]) (L' := [(7, (0, 0)), (6, (0, 2)), (5, (0, 0)), (4, (4, 3)), (3, (4, 2)), (2, (4, 1)), (1, (4, 0)), (0, (6, 0))]) (st' := []) (hsC := jpA_49) (v := (0, 2)) (st2 := [(0, 2)]) (jA_186_16 (d := 0)) (by rfl) (by rfl) (by decide +kernel) (by rfl) (by rfl) (by omega) (by omega) (by omega) (by omega) rfl ?_
  refine jT_xiload (v := (0, 2)) (pc' := 1589) jI_379_1587 rfl rfl rfl ?_
  refine jT_xicT (pc' := 1594) jI_379_1589 rfl (by decide +kernel) rfl ?_
  refine jT_xiload (v := (0, 2)) (pc' := 1596) jI_379_1594 rfl rfl rfl ?_
  refine jT_xifT (pc' := 1611) jI_379_1596 rfl (by decide +kernel) rfl ?_
  refine jT_xgoto (pc' := 3740) jI_379_1611 rfl ?_
  refine jT_xiinc (x := 0) (z := 5) (L' := [(5, (0, 5)), (7, (0, 0)), (6, (0, 2)), (4, (4, 3)), (3, (4, 2)), (2, (4, 1)), (1, (4, 0)), (0, (6, 0))]) (pc' := 3743) jI_379_3740 rfl rfl (by decide) rfl rfl ?_
  refine jT_xgoto (pc' := 28) jI_379_3743 rfl ?_
  refine jT_xiload (v := (0, 5)) (pc' := 30) jI_379_28 rfl rfl rfl ?_
  refine jT_xaload_n (v := (6, 0)) (pc' := 31) jI_379_30 rfl rfl rfl ?_
  refine jT_adv 1 (pc' := 32) (L' := [(5, (0, 5)), (7, (0, 0)), (6, (0, 2)), (4, (4, 3)), (3, (4, 2)), (2, (4, 1)), (1, (4, 0)), (0, (6, 0))]) (st' := [(0, 5), (0, 5)]) (hs' := jpA_248) (c1 := 0) (s1 := 0) (c2 := 0) (s2 := 0) (by exact rfl) ?_ (by omega) (by omega)
  refine jT_xiconst (k := 5) (pc' := 33) jI_379_32 rfl ?_
  refine jT_xisub (x := 5) (y := 5) (z := 0) (pc' := 34) jI_379_33 rfl (by decide) rfl ?_
  refine jT_xicT (pc' := 3746) jI_379_34 rfl (by decide +kernel) rfl ?_
  refine jT_xiconst (k := 1) (pc' := 3747) jI_379_3746 rfl ?_
  exact jT_ret rfl (by decide) (by show 35 ≤ 35; decide) (by omega) (by omega) ⟨rfl, rfl⟩
def jzA_249 : JC := (9, [(4, 32), (4, 33), (4, 34), (4, 35), (4, 36)], [])
def jzA_250 : JC := (130, [], [37, 38, 39, 40, 41, 42, 43, 44])
def jzA_251 : JC := (114, [], [51, 51, 51, 51, 51, 51, 51, 51])
def jpA_252 : List JC := [jzA_211, jzA_212, (101, [], [0]), jgh, (8, [(4, 30), (4, 31)], []), jgh, jgh, jgh, jgh, jgh, jgh, jgh, jgh, jzA_87, jzA_249, (100, [], jS0), (100, [], []), jzA_250, jzA_124, jgh, (130, [], [45, 46, 47, 48, 49, 50]), (101, [], [0, 0, 0, 0, 0, 0]), jgh, jgh, jgh, jgh, jgh, jgh, jgh, jgh, jgh, jgh, jzA_251, jgh, jgh, jgh, (114, [], []), (100, [], (List.replicate 1613 0)), jgh, jgh, jgh, jgh, jgh, jgh, jgh, (100, [], (jenc (jlg 0))), jgh, jgh, jgh, jgh, jgh, jgh]
def jzA_253 : JC := (13, [(4, 4), (4, 5), (4, 6), (4, 7), (4, 8), (4, 9), (4, 10), (4, 11), (4, 12), (4, 13), (0, 1), (4, 55), (0, 0)], [])
def jzA_254 : JC := (119, [], [14, (-1), (-1), (-1), (-1), (-1), (-1), (-1)])
def jzA_255 : JC := (9, [(4, 54), (4, 33), (4, 34), (4, 35), (4, 36)], [])
def jpA_256 : List JC := [jzA_253, jzA_212, (101, [], [0]), jgh, (8, [(4, 30), (4, 31)], []), jgh, jgh, jgh, jgh, jgh, jgh, jgh, jgh, jzA_254, jzA_249, (100, [], jS0), (100, [], []), jzA_250, jzA_124, jgh, (130, [], [45, 46, 47, 48, 49, 50]), (101, [], [0, 0, 0, 0, 0, 0]), jgh, jgh, jgh, jgh, jgh, jgh, jgh, jgh, jgh, jgh, jzA_251, jgh, jgh, jgh, (114, [], []), (100, [], (List.replicate 1613 0)), jgh, jgh, jgh, jgh, jgh, jgh, jgh, (100, [], (jenc (jlg 0))), jgh, jgh, jgh, jgh, jgh, jgh, (101, [], [0, 0, 0, 0, 0, 0]), (4, [(4, 52), (1, 1)], []), jgh, jzA_255]
def jzA_257 : JC := (14, [(0, 0), (4, 15), (4, 16), (4, 17), (4, 18), (0, 1), (4, 19), (0, 0), (4, 20), (4, 21), (1, 1), (4, 22), (0, 0), (4, 23), (0, 0), (0, 0), (0, 0), (0, 0), (0, 0), (0, 0), (0, 0), (4, 24), (4, 25), (4, 26), (4, 27), (4, 28), (4, 29), (0, 0)], [])
def jzA_258 : JC := (130, [], [16, (-1), (-1), (-1), (-1), (-1), (-1), (-1)])
theorem jI_379_1599 : jmI (jm 379) 1599 = (.aload_n 3, 1) := by rfl
theorem jI_379_1600 : jmI (jm 379) 1600 = (.iconst 0, 1) := by rfl
theorem jI_379_1601 : jmI (jm 379) 1601 = (.laload, 1) := by rfl
theorem jI_379_1602 : jmI (jm 379) 1602 = (.iload 7, 2) := by rfl
theorem jI_379_1604 : jmI (jm 379) 1604 = (.i2l, 1) := by rfl
theorem jI_379_1606 : jmI (jm 379) 1606 = (.ifCond .eq 5, 3) := by rfl
set_option maxRecDepth 100000 in
theorem jL_16_2 {d : Nat} {x0 x1 x2 x3 x4 : Int} (h_x0 : (-2147483648) ≤ x0 ∧ x0 ≤ 2147483647) (h_x1 : 0 ≤ x1 ∧ x1 ≤ 0) (h_x2 : 0 ≤ x2 ∧ x2 ≤ 7) (h_x3 : (-2147483648) ≤ x3 ∧ x3 ≤ 2147483647) (h_x4 : (-2147483648) ≤ x4 ∧ x4 ≤ 2147483647) : jT [x0, x1, x2, x3, x4] (d + 8) 379 52 1546 [(5, (0, 0)), (4, (4, 3)), (3, (4, 2)), (2, (4, 1)), (1, (4, 0)), (0, (6, 0))] [] jpA_252 13 375 (fun k v hs' => k = 0 ∧ v = (0, 1)) := by
  refine jT_xaload_n (v := (4, 0)) (pc' := 1547) jI_379_1546 rfl rfl rfl ?_
  refine jT_xaload_n (v := (6, 0)) (pc' := 1548) jI_379_1547 rfl rfl rfl ?_
  refine jT_xiload (v := (0, 0)) (pc' := 1550) jI_379_1548 rfl rfl rfl ?_
  refine jT_xiconst (k := 1) (pc' := 1551) jI_379_1550 rfl ?_
  refine jT_xiadd (x := 0) (y := 1) (z := 1) (pc' := 1552) jI_379_1551 rfl (by decide) rfl ?_
  refine jT_adv 1 (pc' := 1553) (L' := [(5, (0, 0)), (4, (4, 3)), (3, (4, 2)), (2, (4, 1)), (1, (4, 0)), (0, (6, 0))]) (st' := [(0, x1), (4, 0)]) (hs' := jpA_252) (c1 := 0) (s1 := 0) (c2 := 13) (s2 := 375) (by exact rfl) ?_ (by omega) (by omega)
  refine jT_eq (L' := [(5, (0, 0)), (4, (4, 3)), (3, (4, 2)), (2, (4, 1)), (1, (4, 0)), (0, (6, 0))]) (st' := [(0, 0), (4, 0)]) (hs' := [jzA_211, jzA_212, (101, [], [0]), jgh, (8, [(4, 30), (4, 31)], []), jgh, jgh, jgh, jgh, jgh, jgh, jgh, jgh, jzA_87, jzA_249, (100, [], jS0), (100, [], []), jzA_250, jzA_124, jgh, (130, [], [45, 46, 47, 48, 49, 50]), (101, [], [0, 0, 0, 0, 0, 0]), jgh, jgh, jgh, jgh, jgh, jgh, jgh, jgh, jgh, jgh, jzA_251, jgh, jgh, jgh, (114, [], []), (100, [], (List.replicate 1613 0)), jgh, jgh, jgh, jgh, jgh, jgh, jgh, (100, [], (jenc (jlg 0))), jgh, jgh, jgh, jgh, jgh, jgh]) (rfl) (by simp only [List.cons.injEq, Prod.mk.injEq, and_true, true_and] <;> ((try unfold jw); (try unfold jwl); omega)) (rfl) ?_
  refine jT_xaload_n (v := (6, 0)) (pc' := 1554) jI_379_1553 rfl rfl rfl ?_
  refine jT_xiload (v := (0, 0)) (pc' := 1556) jI_379_1554 rfl rfl rfl ?_
  refine jT_xiconst (k := 2) (pc' := 1557) jI_379_1556 rfl ?_
  refine jT_xiadd (x := 0) (y := 2) (z := 2) (pc' := 1558) jI_379_1557 rfl (by decide) rfl ?_
  refine jT_adv 1 (pc' := 1559) (L' := [(5, (0, 0)), (4, (4, 3)), (3, (4, 2)), (2, (4, 1)), (1, (4, 0)), (0, (6, 0))]) (st' := [(0, x2), (0, 0), (4, 0)]) (hs' := jpA_252) (c1 := 0) (s1 := 0) (c2 := 13) (s2 := 375) (by exact rfl) ?_ (by omega) (by omega)
  refine jT_xaload_n (v := (4, 2)) (pc' := 1560) jI_379_1559 rfl rfl rfl ?_
  refine jT_fB [0, 2, 4, 5, 6, 7, 8, 9, 10, 11, 12, 13, 14, 30, 31, 32, 33, 34, 35, 36, 51] 52 (y := 342) (pc' := 1563) (dC := 5) (bc1 := 4) (bc2 := 21) (c1 := 9) (c2 := 354) (as := [(4, 0), (0, 0), (0, x2), (4, 2)]) (asC := [(4, 0), (0, 0), (0, x2), (4, 1)]) (L' := [(5, (0, 0)), (4, (4, 3)), (3, (4, 2)), (2, (4, 1)), (1, (4, 0)), (0, (6, 0))]) (st' := []) (hsC := jpA_122) (hsD := jpA_118) (v := (0, 0)) (st2 := [(0, 0)]) (hs2 := jpA_256) (jA_342_33 (d := 0) (by omega)) (by rfl) (by rfl) (by decide +kernel) (by rfl) (by rfl) (by omega) (by omega) (by omega) (by omega) rfl (by decide +kernel) ?_
  refine jT_xistore (v := (0, 0)) (L' := [(6, (0, 0)), (5, (0, 0)), (4, (4, 3)), (3, (4, 2)), (2, (4, 1)), (1, (4, 0)), (0, (6, 0))]) (pc' := 1565) jI_379_1563 rfl rfl rfl rfl ?_
  refine jT_xaload_n (v := (4, 1)) (pc' := 1566) jI_379_1565 rfl rfl rfl ?_
  refine jT_xaload_n (v := (6, 0)) (pc' := 1567) jI_379_1566 rfl rfl rfl ?_
  refine jT_xiload (v := (0, 0)) (pc' := 1569) jI_379_1567 rfl rfl rfl ?_
  refine jT_xiconst (k := 1) (pc' := 1570) jI_379_1569 rfl ?_
  refine jT_xiadd (x := 0) (y := 1) (z := 1) (pc' := 1571) jI_379_1570 rfl (by decide) rfl ?_
  refine jT_adv 1 (pc' := 1572) (L' := [(6, (0, 0)), (5, (0, 0)), (4, (4, 3)), (3, (4, 2)), (2, (4, 1)), (1, (4, 0)), (0, (6, 0))]) (st' := [(0, x1), (4, 1)]) (hs' := jpA_256) (c1 := 0) (s1 := 0) (c2 := 9) (s2 := 354) (by exact rfl) ?_ (by omega) (by omega)
  refine jT_eq (L' := [(6, (0, 0)), (5, (0, 0)), (4, (4, 3)), (3, (4, 2)), (2, (4, 1)), (1, (4, 0)), (0, (6, 0))]) (st' := [(0, 0), (4, 1)]) (hs' := [jzA_253, jzA_212, (101, [], [0]), jgh, (8, [(4, 30), (4, 31)], []), jgh, jgh, jgh, jgh, jgh, jgh, jgh, jgh, jzA_254, jzA_249, (100, [], jS0), (100, [], []), jzA_250, jzA_124, jgh, (130, [], [45, 46, 47, 48, 49, 50]), (101, [], [0, 0, 0, 0, 0, 0]), jgh, jgh, jgh, jgh, jgh, jgh, jgh, jgh, jgh, jgh, jzA_251, jgh, jgh, jgh, (114, [], []), (100, [], (List.replicate 1613 0)), jgh, jgh, jgh, jgh, jgh, jgh, jgh, (100, [], (jenc (jlg 0))), jgh, jgh, jgh, jgh, jgh, jgh, (101, [], [0, 0, 0, 0, 0, 0]), (4, [(4, 52), (1, 1)], []), jgh, jzA_255]) (rfl) (by simp only [List.cons.injEq, Prod.mk.injEq, and_true, true_and] <;> ((try unfold jw); (try unfold jwl); omega)) (rfl) ?_
  refine jT_xaload_n (v := (6, 0)) (pc' := 1573) jI_379_1572 rfl rfl rfl ?_
  refine jT_xiload (v := (0, 0)) (pc' := 1575) jI_379_1573 rfl rfl rfl ?_
  refine jT_xiconst (k := 2) (pc' := 1576) jI_379_1575 rfl ?_
  refine jT_xiadd (x := 0) (y := 2) (z := 2) (pc' := 1577) jI_379_1576 rfl (by decide) rfl ?_
  refine jT_adv 1 (pc' := 1578) (L' := [(6, (0, 0)), (5, (0, 0)), (4, (4, 3)), (3, (4, 2)), (2, (4, 1)), (1, (4, 0)), (0, (6, 0))]) (st' := [(0, x2), (0, 0), (4, 1)]) (hs' := jpA_256) (c1 := 0) (s1 := 0) (c2 := 9) (s2 := 354) (by exact rfl) ?_ (by omega) (by omega)
  refine jT_fB [1, 15, 16, 17, 18, 19, 20, 21, 22, 23, 24, 25, 26, 27, 28, 29, 37, 38, 39, 40, 41, 42, 43, 44, 45, 46, 47, 48, 49, 50] 56 (y := 257) (pc' := 1581) (dC := 7) (bc1 := 9) (bc2 := 354) (c1 := 0) (c2 := 0) (as := [(4, 1), (0, 0), (0, x2)]) (asC := [(4, 0), (0, 0), (0, x2)]) (L' := [(6, (0, 0)), (5, (0, 0)), (4, (4, 3)), (3, (4, 2)), (2, (4, 1)), (1, (4, 0)), (0, (6, 0))]) (st' := []) (hsC := jpA_189) (hsD := [jzA_127, (100, [], ((((((((((((((jS0).set ((7 * x2).toNat) 0)).set ((7 * x2 + 1).toNat) 0)).set ((7 * x2 + 2).toNat) 0)).set ((7 * x2 + 3).toNat) 0)).set ((7 * x2 + 4).toNat) 0)).set ((7 * x2 + 5).toNat) 0)).set ((7 * x2 + 6).toNat) 1)), (100, [], []), jzA_123, jzA_128, jgh, (130, [], [24, 25, 26, 27, 28, 29]), (101, [], [0, 0, 0, 0, 0, 0]), jgh, jgh, jgh, jgh, jgh, jgh, jgh, jgh, (100, [], jS0), jgh, jgh, jgh, jgh, jgh, jgh, jgh, (100, [], (jenc (jlg 0))), jgh, jgh, jgh, jgh, jgh, (101, [], [1, 0, 0, 0, 0, 0]), (101, [], [1, 0, 0, 0, 0, 0]), (100, [], (jenc 0)), (100, [], (jenc 1)), (100, [], (jenc (1 * (jlg 0)))), (101, [], [(-1), 0, 0, 0, 0, 0]), (100, [], (jenc 0)), (100, [], (jenc (-1))), (100, [], (jenc ((-1) * (jlg 0))))]) (v := (0, 0)) (st2 := [(0, 0)]) (hs2 := [jzA_253, jzA_257, (101, [], [0]), jgh, (8, [(4, 30), (4, 31)], []), jgh, jgh, jgh, jgh, jgh, jgh, jgh, jgh, jzA_254, jzA_249, (100, [], ((((((((((((((jS0).set ((7 * x2).toNat) 0)).set ((7 * x2 + 1).toNat) 0)).set ((7 * x2 + 2).toNat) 0)).set ((7 * x2 + 3).toNat) 0)).set ((7 * x2 + 4).toNat) 0)).set ((7 * x2 + 5).toNat) 0)).set ((7 * x2 + 6).toNat) 1)), (100, [], []), jzA_250, jzA_258, jgh, (130, [], [45, 46, 47, 48, 49, 50]), (101, [], [0, 0, 0, 0, 0, 0]), jgh, jgh, jgh, jgh, jgh, jgh, jgh, jgh, jgh, jgh, jzA_251, jgh, jgh, jgh, (114, [], []), (100, [], jS0), jgh, jgh, jgh, jgh, jgh, jgh, jgh, (100, [], (jenc (jlg 0))), jgh, jgh, jgh, jgh, jgh, jgh, (101, [], [0, 0, 0, 0, 0, 0]), (4, [(4, 52), (1, 1)], []), jgh, jzA_255, (101, [], [1, 0, 0, 0, 0, 0]), (101, [], [1, 0, 0, 0, 0, 0]), (100, [], (jenc 0)), (100, [], (jenc 1)), (100, [], (jenc (1 * (jlg 0)))), (101, [], [(-1), 0, 0, 0, 0, 0]), (100, [], (jenc 0)), (100, [], (jenc (-1))), (100, [], (jenc ((-1) * (jlg 0))))]) (jA_257_52 (d := 0) (by omega)) (by rfl) (by rfl) (by decide +kernel) (by rfl) (by rfl) (by omega) (by omega) (by omega) (by omega) rfl rfl ?_
  refine jT_xistore (v := (0, 0)) (L' := [(7, (0, 0)), (6, (0, 0)), (5, (0, 0)), (4, (4, 3)), (3, (4, 2)), (2, (4, 1)), (1, (4, 0)), (0, (6, 0))]) (pc' := 1583) jI_379_1581 rfl rfl rfl rfl ?_
  refine jT_xaload_n (v := (4, 1)) (pc' := 1584) jI_379_1583 rfl rfl rfl ?_
  refine jT_callA [1, 15, 16, 17, 18, 19, 20, 21, 22, 23, 24, 25, 26, 27, 28, 29] (y := 186) (pc' := 1587) (dC := 0) (bc1 := 0) (bc2 := 0) (c1 := 0) (c2 := 0) (as := [(4, 1)]) (asC := [(4, 0)]) (L' := [(7, (0, 0)), (6, (0, 0)), (5, (0, 0)), (4, (4, 3)), (3, (4, 2)), (2, (4, 1)), (1, (4, 0)), (0, (6, 0))]) (st' := []) (hsC := jpA_202) (ex := []) (v := (0, 0)) (st2 := [(0, 0)]) (hs2 := [jzA_253, jzA_257, (101, [], [0]), jgh, (8, [(4, 30), (4, 31)], []), jgh, jgh, jgh, jgh, jgh, jgh, jgh, jgh, jzA_254, jzA_249, (100, [], ((((((((((((((jS0).set ((7 * x2).toNat) 0)).set ((7 * x2 + 1).toNat) 0)).set ((7 * x2 + 2).toNat) 0)).set ((7 * x2 + 3).toNat) 0)).set ((7 * x2 + 4).toNat) 0)).set ((7 * x2 + 5).toNat) 0)).set ((7 * x2 + 6).toNat) 1)), (100, [], []), jzA_250, jzA_258, jgh, (130, [], [45, 46, 47, 48, 49, 50]), (101, [], [0, 0, 0, 0, 0, 0]), jgh, jgh, jgh, jgh, jgh, jgh, jgh, jgh, jgh, jgh, jzA_251, jgh, jgh, jgh, (114, [], []), (100, [], jS0), jgh, jgh, jgh, jgh, jgh, jgh, jgh, (100, [], (jenc (jlg 0))), jgh, jgh, jgh, jgh, jgh, jgh, (101, [], [0, 0, 0, 0, 0, 0]), (4, [(4, 52), (1, 1)], []), jgh, jzA_255, (101, [], [1, 0, 0, 0, 0, 0]), (101, [], [1, 0, 0, 0, 0, 0]), (100, [], (jenc 0)), (100, [], (jenc 1)), (100, [], (jenc (1 * (jlg 0)))), (101, [], [(-1), 0, 0, 0, 0, 0]), (100, [], (jenc 0)), (100, [], (jenc (-1))), (100, [], (jenc ((-1) * (jlg 0))))]) (jA_186_53 (d := 0)) (by rfl) (by rfl) (by rfl) (by rfl) ⟨rfl, rfl, rfl, rfl, rfl, rfl, rfl, rfl, rfl, rfl, rfl, rfl, rfl, rfl, rfl, rfl, trivial⟩ (by rfl) (by rfl) (by omega) (by show 52 ≤ 65; omega) (by omega) (by omega) rfl rfl ?_
  refine jT_xiload (v := (0, 0)) (pc' := 1589) jI_379_1587 rfl rfl rfl ?_
  refine jT_xicT (pc' := 1594) jI_379_1589 rfl (by decide +kernel) rfl ?_
  refine jT_xiload (v := (0, 0)) (pc' := 1596) jI_379_1594 rfl rfl rfl ?_
  refine jT_xifF (t := 1611) (pc' := 1599) jI_379_1596 rfl (by decide +kernel) rfl rfl ?_
  refine jT_xaload_n (v := (4, 2)) (pc' := 1600) jI_379_1599 rfl rfl rfl ?_
  refine jT_xiconst (k := 0) (pc' := 1601) jI_379_1600 rfl ?_
  refine jT_lald (x := 0) (a := 2) (j := 0) (fs := []) (X := [0]) jI_379_1601 rfl rfl rfl rfl ?_
  refine jT_eq (L' := [(7, (0, 0)), (6, (0, 0)), (5, (0, 0)), (4, (4, 3)), (3, (4, 2)), (2, (4, 1)), (1, (4, 0)), (0, (6, 0))]) (st' := [(1, 0)]) (hs' := [jzA_253, jzA_257, (101, [], [0]), jgh, (8, [(4, 30), (4, 31)], []), jgh, jgh, jgh, jgh, jgh, jgh, jgh, jgh, jzA_254, jzA_249, (100, [], ((((((((((((((jS0).set ((7 * x2).toNat) 0)).set ((7 * x2 + 1).toNat) 0)).set ((7 * x2 + 2).toNat) 0)).set ((7 * x2 + 3).toNat) 0)).set ((7 * x2 + 4).toNat) 0)).set ((7 * x2 + 5).toNat) 0)).set ((7 * x2 + 6).toNat) 1)), (100, [], []), jzA_250, jzA_258, jgh, (130, [], [45, 46, 47, 48, 49, 50]), (101, [], [0, 0, 0, 0, 0, 0]), jgh, jgh, jgh, jgh, jgh, jgh, jgh, jgh, jgh, jgh, jzA_251, jgh, jgh, jgh, (114, [], []), (100, [], jS0), jgh, jgh, jgh, jgh, jgh, jgh, jgh, (100, [], (jenc (jlg 0))), jgh, jgh, jgh, jgh, jgh, jgh, (101, [], [0, 0, 0, 0, 0, 0]), (4, [(4, 52), (1, 1)], []), jgh, jzA_255, (101, [], [1, 0, 0, 0, 0, 0]), (101, [], [1, 0, 0, 0, 0, 0]), (100, [], (jenc 0)), (100, [], (jenc 1)), (100, [], (jenc (1 * (jlg 0)))), (101, [], [(-1), 0, 0, 0, 0, 0]), (100, [], (jenc 0)), (100, [], (jenc (-1))), (100, [], (jenc ((-1) * (jlg 0))))]) rfl rfl rfl ?_
  refine jT_xiload (v := (0, 0)) (pc' := 1604) jI_379_1602 rfl rfl rfl ?_
  refine jT_xi2l (x := 0) (z := 0) (pc' := 1605) jI_379_1604 rfl (by decide +kernel) rfl ?_
  refine jT_lcmp (a := 0) (b := 0) (z := 0) (by rfl) (by rfl) (by decide +kernel) (by decide +kernel) (by decide) ?_
  refine jT_xifT (pc' := 1611) jI_379_1606 rfl (by decide +kernel) rfl ?_
  refine jT_xgoto (pc' := 3740) jI_379_1611 rfl ?_
  refine jT_xiinc (x := 0) (z := 5) (L' := [(5, (0, 5)), (7, (0, 0)), (6, (0, 0)), (4, (4, 3)), (3, (4, 2)), (2, (4, 1)), (1, (4, 0)), (0, (6, 0))]) (pc' := 3743) jI_379_3740 rfl rfl (by decide) rfl rfl ?_
  refine jT_xgoto (pc' := 28) jI_379_3743 rfl ?_
  refine jT_xiload (v := (0, 5)) (pc' := 30) jI_379_28 rfl rfl rfl ?_
  refine jT_xaload_n (v := (6, 0)) (pc' := 31) jI_379_30 rfl rfl rfl ?_
  refine jT_adv 1 (pc' := 32) (L' := [(5, (0, 5)), (7, (0, 0)), (6, (0, 0)), (4, (4, 3)), (3, (4, 2)), (2, (4, 1)), (1, (4, 0)), (0, (6, 0))]) (st' := [(0, 5), (0, 5)]) (hs' := [jzA_253, jzA_257, (101, [], [0]), jgh, (8, [(4, 30), (4, 31)], []), jgh, jgh, jgh, jgh, jgh, jgh, jgh, jgh, jzA_254, jzA_249, (100, [], ((((((((((((((jS0).set ((7 * x2).toNat) 0)).set ((7 * x2 + 1).toNat) 0)).set ((7 * x2 + 2).toNat) 0)).set ((7 * x2 + 3).toNat) 0)).set ((7 * x2 + 4).toNat) 0)).set ((7 * x2 + 5).toNat) 0)).set ((7 * x2 + 6).toNat) 1)), (100, [], []), jzA_250, jzA_258, jgh, (130, [], [45, 46, 47, 48, 49, 50]), (101, [], [0, 0, 0, 0, 0, 0]), jgh, jgh, jgh, jgh, jgh, jgh, jgh, jgh, jgh, jgh, jzA_251, jgh, jgh, jgh, (114, [], []), (100, [], jS0), jgh, jgh, jgh, jgh, jgh, jgh, jgh, (100, [], (jenc (jlg 0))), jgh, jgh, jgh, jgh, jgh, jgh, (101, [], [0, 0, 0, 0, 0, 0]), (4, [(4, 52), (1, 1)], []), jgh, jzA_255, (101, [], [1, 0, 0, 0, 0, 0]), (101, [], [1, 0, 0, 0, 0, 0]), (100, [], (jenc 0)), (100, [], (jenc 1)), (100, [], (jenc (1 * (jlg 0)))), (101, [], [(-1), 0, 0, 0, 0, 0]), (100, [], (jenc 0)), (100, [], (jenc (-1))), (100, [], (jenc ((-1) * (jlg 0))))]) (c1 := 0) (s1 := 0) (c2 := 0) (s2 := 0) (by exact rfl) ?_ (by omega) (by omega)
  refine jT_xiconst (k := 5) (pc' := 33) jI_379_32 rfl ?_
  refine jT_xisub (x := 5) (y := 5) (z := 0) (pc' := 34) jI_379_33 rfl (by decide) rfl ?_
  refine jT_xicT (pc' := 3746) jI_379_34 rfl (by decide +kernel) rfl ?_
  refine jT_xiconst (k := 1) (pc' := 3747) jI_379_3746 rfl ?_
  exact jT_ret rfl (by decide) (by show 52 ≤ 65; decide) (by omega) (by omega) ⟨rfl, rfl⟩
set_option maxRecDepth 100000 in
theorem jL_16_3 {d : Nat} {x0 x1 x2 x3 x4 : Int} (h_x0 : (-2147483648) ≤ x0 ∧ x0 ≤ 2147483647) (h_x1 : 0 ≤ x1 ∧ x1 ≤ 0) (h_x2 : 8 ≤ x2 ∧ x2 ≤ 2147483647) (h_x3 : (-2147483648) ≤ x3 ∧ x3 ≤ 2147483647) (h_x4 : (-2147483648) ≤ x4 ∧ x4 ≤ 2147483647) : jT [x0, x1, x2, x3, x4] (d + 3) 379 35 1546 [(5, (0, 0)), (4, (4, 3)), (3, (4, 2)), (2, (4, 1)), (1, (4, 0)), (0, (6, 0))] [] jpA_214 1 6 (fun k v hs' => k = 0 ∧ v = (0, 1)) := by
  refine jT_xaload_n (v := (4, 0)) (pc' := 1547) jI_379_1546 rfl rfl rfl ?_
  refine jT_xaload_n (v := (6, 0)) (pc' := 1548) jI_379_1547 rfl rfl rfl ?_
  refine jT_xiload (v := (0, 0)) (pc' := 1550) jI_379_1548 rfl rfl rfl ?_
  refine jT_xiconst (k := 1) (pc' := 1551) jI_379_1550 rfl ?_
  refine jT_xiadd (x := 0) (y := 1) (z := 1) (pc' := 1552) jI_379_1551 rfl (by decide) rfl ?_
  refine jT_adv 1 (pc' := 1553) (L' := [(5, (0, 0)), (4, (4, 3)), (3, (4, 2)), (2, (4, 1)), (1, (4, 0)), (0, (6, 0))]) (st' := [(0, x1), (4, 0)]) (hs' := jpA_214) (c1 := 0) (s1 := 0) (c2 := 1) (s2 := 6) (by exact rfl) ?_ (by omega) (by omega)
  refine jT_eq (L' := [(5, (0, 0)), (4, (4, 3)), (3, (4, 2)), (2, (4, 1)), (1, (4, 0)), (0, (6, 0))]) (st' := [(0, 0), (4, 0)]) (hs' := [jzA_211, jzA_212, jgh, jgh, jgh, jgh, jgh, jgh, jgh, jgh, jgh, jgh, jgh, jgh, jzA_213, (100, [], jS0), jgh, jgh, jgh, jgh, jgh, jgh, jgh, jgh, jgh, jgh, jgh, jgh, jgh, jgh, jgh, jgh, jgh, jgh, (114, [], [])]) (rfl) (by simp only [List.cons.injEq, Prod.mk.injEq, and_true, true_and] <;> ((try unfold jw); (try unfold jwl); omega)) (rfl) ?_
  refine jT_xaload_n (v := (6, 0)) (pc' := 1554) jI_379_1553 rfl rfl rfl ?_
  refine jT_xiload (v := (0, 0)) (pc' := 1556) jI_379_1554 rfl rfl rfl ?_
  refine jT_xiconst (k := 2) (pc' := 1557) jI_379_1556 rfl ?_
  refine jT_xiadd (x := 0) (y := 2) (z := 2) (pc' := 1558) jI_379_1557 rfl (by decide) rfl ?_
  refine jT_adv 1 (pc' := 1559) (L' := [(5, (0, 0)), (4, (4, 3)), (3, (4, 2)), (2, (4, 1)), (1, (4, 0)), (0, (6, 0))]) (st' := [(0, x2), (0, 0), (4, 0)]) (hs' := jpA_214) (c1 := 0) (s1 := 0) (c2 := 1) (s2 := 6) (by exact rfl) ?_ (by omega) (by omega)
  refine jT_xaload_n (v := (4, 2)) (pc' := 1560) jI_379_1559 rfl rfl rfl ?_
  refine jT_fR [0, 2, 4, 5, 6, 7, 8, 9, 10, 11, 12, 13, 14, 30, 31, 32, 33, 34] 35 (y := 342) (pc' := 1563) (dC := 2) (bc1 := 1) (bc2 := 6) (c1 := 0) (c2 := 0) (as := [(4, 0), (0, 0), (0, x2), (4, 2)]) (asC := [(4, 0), (0, 0), (0, x2), (4, 1)]) (L' := [(5, (0, 0)), (4, (4, 3)), (3, (4, 2)), (2, (4, 1)), (1, (4, 0)), (0, (6, 0))]) (st' := []) (hsC := jpA_19) (v := (0, 2)) (st2 := [(0, 2)]) (jA_342_56 (d := 0) (by omega)) (by rfl) (by rfl) (by decide +kernel) (by rfl) (by rfl) (by omega) (by omega) (by omega) (by omega) rfl ?_
  refine jT_xistore (v := (0, 2)) (L' := [(6, (0, 2)), (5, (0, 0)), (4, (4, 3)), (3, (4, 2)), (2, (4, 1)), (1, (4, 0)), (0, (6, 0))]) (pc' := 1565) jI_379_1563 rfl rfl rfl rfl ?_
  refine jT_xaload_n (v := (4, 1)) (pc' := 1566) jI_379_1565 rfl rfl rfl ?_
  refine jT_xaload_n (v := (6, 0)) (pc' := 1567) jI_379_1566 rfl rfl rfl ?_
  refine jT_xiload (v := (0, 0)) (pc' := 1569) jI_379_1567 rfl rfl rfl ?_
  refine jT_xiconst (k := 1) (pc' := 1570) jI_379_1569 rfl ?_
  refine jT_xiadd (x := 0) (y := 1) (z := 1) (pc' := 1571) jI_379_1570 rfl (by decide) rfl ?_
  refine jT_adv 1 (pc' := 1572) (L' := [(6, (0, 2)), (5, (0, 0)), (4, (4, 3)), (3, (4, 2)), (2, (4, 1)), (1, (4, 0)), (0, (6, 0))]) (st' := [(0, x1), (4, 1)]) (hs' := jpA_214) (c1 := 0) (s1 := 0) (c2 := 0) (s2 := 0) (by exact rfl) ?_ (by omega) (by omega)
  refine jT_eq (L' := [(6, (0, 2)), (5, (0, 0)), (4, (4, 3)), (3, (4, 2)), (2, (4, 1)), (1, (4, 0)), (0, (6, 0))]) (st' := [(0, 0), (4, 1)]) (hs' := [jzA_211, jzA_212, jgh, jgh, jgh, jgh, jgh, jgh, jgh, jgh, jgh, jgh, jgh, jgh, jzA_213, (100, [], jS0), jgh, jgh, jgh, jgh, jgh, jgh, jgh, jgh, jgh, jgh, jgh, jgh, jgh, jgh, jgh, jgh, jgh, jgh, (114, [], [])]) (rfl) (by simp only [List.cons.injEq, Prod.mk.injEq, and_true, true_and] <;> ((try unfold jw); (try unfold jwl); omega)) (rfl) ?_
  refine jT_xaload_n (v := (6, 0)) (pc' := 1573) jI_379_1572 rfl rfl rfl ?_
  refine jT_xiload (v := (0, 0)) (pc' := 1575) jI_379_1573 rfl rfl rfl ?_
  refine jT_xiconst (k := 2) (pc' := 1576) jI_379_1575 rfl ?_
  refine jT_xiadd (x := 0) (y := 2) (z := 2) (pc' := 1577) jI_379_1576 rfl (by decide) rfl ?_
  refine jT_adv 1 (pc' := 1578) (L' := [(6, (0, 2)), (5, (0, 0)), (4, (4, 3)), (3, (4, 2)), (2, (4, 1)), (1, (4, 0)), (0, (6, 0))]) (st' := [(0, x2), (0, 0), (4, 1)]) (hs' := jpA_214) (c1 := 0) (s1 := 0) (c2 := 0) (s2 := 0) (by exact rfl) ?_ (by omega) (by omega)
  refine jT_fB [1, 15, 16, 17, 18, 19, 20, 21, 22, 23, 24, 25, 26, 27, 28, 29] 35 (y := 257) (pc' := 1581) (dC := 2) (bc1 := 0) (bc2 := 0) (c1 := 0) (c2 := 0) (as := [(4, 1), (0, 0), (0, x2)]) (asC := [(4, 0), (0, 0), (0, x2)]) (L' := [(6, (0, 2)), (5, (0, 0)), (4, (4, 3)), (3, (4, 2)), (2, (4, 1)), (1, (4, 0)), (0, (6, 0))]) (st' := []) (hsC := jpA_26) (hsD := jpA_53) (v := (0, 0)) (st2 := [(0, 0)]) (hs2 := jpA_248) (jA_257_58 (d := 0) (by omega)) (by rfl) (by rfl) (by decide +kernel) (by rfl) (by rfl) (by omega) (by omega) (by omega) (by omega) rfl (by decide +kernel) ?_
  refine jT_xistore (v := (0, 0)) (L' := [(7, (0, 0)), (6, (0, 2)), (5, (0, 0)), (4, (4, 3)), (3, (4, 2)), (2, (4, 1)), (1, (4, 0)), (0, (6, 0))]) (pc' := 1583) jI_379_1581 rfl rfl rfl rfl ?_
  refine jT_xaload_n (v := (4, 1)) (pc' := 1584) jI_379_1583 rfl rfl rfl ?_
  refine jT_fR [1, 15, 16, 17, 18, 19, 20, 21, 22, 23, 24, 25, 26, 27, 28, 29] 35 (y := 186) (pc' := 1587) (dC := 0) (bc1 := 0) (bc2 := 0) (c1 := 0) (c2 := 0) (as := [(4, 1)]) (asC := [(4, 0)]) (L' := [(7, (0, 0)), (6, (0, 2)), (5, (0, 0)), (4, (4, 3)), (3, (4, 2)), (2, (4, 1)), (1, (4, 0)), (0, (6, 0))]) (st' := []) (hsC := jpA_49) (v := (0, 2)) (st2 := [(0, 2)]) (jA_186_16 (d := 0)) (by rfl) (by rfl) (by decide +kernel) (by rfl) (by rfl) (by omega) (by omega) (by omega) (by omega) rfl ?_
  refine jT_xiload (v := (0, 2)) (pc' := 1589) jI_379_1587 rfl rfl rfl ?_
  refine jT_xicT (pc' := 1594) jI_379_1589 rfl (by decide +kernel) rfl ?_
  refine jT_xiload (v := (0, 2)) (pc' := 1596) jI_379_1594 rfl rfl rfl ?_
  refine jT_xifT (pc' := 1611) jI_379_1596 rfl (by decide +kernel) rfl ?_
  refine jT_xgoto (pc' := 3740) jI_379_1611 rfl ?_
  refine jT_xiinc (x := 0) (z := 5) (L' := [(5, (0, 5)), (7, (0, 0)), (6, (0, 2)), (4, (4, 3)), (3, (4, 2)), (2, (4, 1)), (1, (4, 0)), (0, (6, 0))]) (pc' := 3743) jI_379_3740 rfl rfl (by decide) rfl rfl ?_
  refine jT_xgoto (pc' := 28) jI_379_3743 rfl ?_
  refine jT_xiload (v := (0, 5)) (pc' := 30) jI_379_28 rfl rfl rfl ?_
  refine jT_xaload_n (v := (6, 0)) (pc' := 31) jI_379_30 rfl rfl rfl ?_
  refine jT_adv 1 (pc' := 32) (L' := [(5, (0, 5)), (7, (0, 0)), (6, (0, 2)), (4, (4, 3)), (3, (4, 2)), (2, (4, 1)), (1, (4, 0)), (0, (6, 0))]) (st' := [(0, 5), (0, 5)]) (hs' := jpA_248) (c1 := 0) (s1 := 0) (c2 := 0) (s2 := 0) (by exact rfl) ?_ (by omega) (by omega)
  refine jT_xiconst (k := 5) (pc' := 33) jI_379_32 rfl ?_
  refine jT_xisub (x := 5) (y := 5) (z := 0) (pc' := 34) jI_379_33 rfl (by decide) rfl ?_
  refine jT_xicT (pc' := 3746) jI_379_34 rfl (by decide +kernel) rfl ?_
  refine jT_xiconst (k := 1) (pc' := 3747) jI_379_3746 rfl ?_
  exact jT_ret rfl (by decide) (by show 35 ≤ 35; decide) (by omega) (by omega) ⟨rfl, rfl⟩
set_option maxRecDepth 100000 in
theorem jL_16_4 {d : Nat} {x0 x1 x2 x3 x4 : Int} (h_x0 : (-2147483648) ≤ x0 ∧ x0 ≤ 2147483647) (h_x1 : 1 ≤ x1 ∧ x1 ≤ 2147483647) (h_x2 : (-2147483648) ≤ x2 ∧ x2 ≤ 2147483647) (h_x3 : (-2147483648) ≤ x3 ∧ x3 ≤ 2147483647) (h_x4 : (-2147483648) ≤ x4 ∧ x4 ≤ 2147483647) : jT [x0, x1, x2, x3, x4] (d + 3) 379 35 1546 [(5, (0, 0)), (4, (4, 3)), (3, (4, 2)), (2, (4, 1)), (1, (4, 0)), (0, (6, 0))] [] jpA_214 1 6 (fun k v hs' => k = 0 ∧ v = (0, 1)) := by
  refine jT_xaload_n (v := (4, 0)) (pc' := 1547) jI_379_1546 rfl rfl rfl ?_
  refine jT_xaload_n (v := (6, 0)) (pc' := 1548) jI_379_1547 rfl rfl rfl ?_
  refine jT_xiload (v := (0, 0)) (pc' := 1550) jI_379_1548 rfl rfl rfl ?_
  refine jT_xiconst (k := 1) (pc' := 1551) jI_379_1550 rfl ?_
  refine jT_xiadd (x := 0) (y := 1) (z := 1) (pc' := 1552) jI_379_1551 rfl (by decide) rfl ?_
  refine jT_adv 1 (pc' := 1553) (L' := [(5, (0, 0)), (4, (4, 3)), (3, (4, 2)), (2, (4, 1)), (1, (4, 0)), (0, (6, 0))]) (st' := [(0, x1), (4, 0)]) (hs' := jpA_214) (c1 := 0) (s1 := 0) (c2 := 1) (s2 := 6) (by exact rfl) ?_ (by omega) (by omega)
  refine jT_xaload_n (v := (6, 0)) (pc' := 1554) jI_379_1553 rfl rfl rfl ?_
  refine jT_xiload (v := (0, 0)) (pc' := 1556) jI_379_1554 rfl rfl rfl ?_
  refine jT_xiconst (k := 2) (pc' := 1557) jI_379_1556 rfl ?_
  refine jT_xiadd (x := 0) (y := 2) (z := 2) (pc' := 1558) jI_379_1557 rfl (by decide) rfl ?_
  refine jT_adv 1 (pc' := 1559) (L' := [(5, (0, 0)), (4, (4, 3)), (3, (4, 2)), (2, (4, 1)), (1, (4, 0)), (0, (6, 0))]) (st' := [(0, x2), (0, x1), (4, 0)]) (hs' := jpA_214) (c1 := 0) (s1 := 0) (c2 := 1) (s2 := 6) (by exact rfl) ?_ (by omega) (by omega)
  refine jT_xaload_n (v := (4, 2)) (pc' := 1560) jI_379_1559 rfl rfl rfl ?_
  refine jT_fR [0, 2, 4, 5, 6, 7, 8, 9, 10, 11, 12, 13, 14, 30, 31, 32, 33, 34] 35 (y := 342) (pc' := 1563) (dC := 2) (bc1 := 1) (bc2 := 6) (c1 := 0) (c2 := 0) (as := [(4, 0), (0, x1), (0, x2), (4, 2)]) (asC := [(4, 0), (0, x1), (0, x2), (4, 1)]) (L' := [(5, (0, 0)), (4, (4, 3)), (3, (4, 2)), (2, (4, 1)), (1, (4, 0)), (0, (6, 0))]) (st' := []) (hsC := jpA_19) (v := (0, 1)) (st2 := [(0, 1)]) (jA_342_61 (d := 0) (by omega) (by omega)) (by rfl) (by rfl) (by decide +kernel) (by rfl) (by rfl) (by omega) (by omega) (by omega) (by omega) rfl ?_
  refine jT_xistore (v := (0, 1)) (L' := [(6, (0, 1)), (5, (0, 0)), (4, (4, 3)), (3, (4, 2)), (2, (4, 1)), (1, (4, 0)), (0, (6, 0))]) (pc' := 1565) jI_379_1563 rfl rfl rfl rfl ?_
  refine jT_xaload_n (v := (4, 1)) (pc' := 1566) jI_379_1565 rfl rfl rfl ?_
  refine jT_xaload_n (v := (6, 0)) (pc' := 1567) jI_379_1566 rfl rfl rfl ?_
  refine jT_xiload (v := (0, 0)) (pc' := 1569) jI_379_1567 rfl rfl rfl ?_
  refine jT_xiconst (k := 1) (pc' := 1570) jI_379_1569 rfl ?_
  refine jT_xiadd (x := 0) (y := 1) (z := 1) (pc' := 1571) jI_379_1570 rfl (by decide) rfl ?_
  refine jT_adv 1 (pc' := 1572) (L' := [(6, (0, 1)), (5, (0, 0)), (4, (4, 3)), (3, (4, 2)), (2, (4, 1)), (1, (4, 0)), (0, (6, 0))]) (st' := [(0, x1), (4, 1)]) (hs' := jpA_214) (c1 := 0) (s1 := 0) (c2 := 0) (s2 := 0) (by exact rfl) ?_ (by omega) (by omega)
  refine jT_xaload_n (v := (6, 0)) (pc' := 1573) jI_379_1572 rfl rfl rfl ?_
  refine jT_xiload (v := (0, 0)) (pc' := 1575) jI_379_1573 rfl rfl rfl ?_
  refine jT_xiconst (k := 2) (pc' := 1576) jI_379_1575 rfl ?_
  refine jT_xiadd (x := 0) (y := 2) (z := 2) (pc' := 1577) jI_379_1576 rfl (by decide) rfl ?_
  refine jT_adv 1 (pc' := 1578) (L' := [(6, (0, 1)), (5, (0, 0)), (4, (4, 3)), (3, (4, 2)), (2, (4, 1)), (1, (4, 0)), (0, (6, 0))]) (st' := [(0, x2), (0, x1), (4, 1)]) (hs' := jpA_214) (c1 := 0) (s1 := 0) (c2 := 0) (s2 := 0) (by exact rfl) ?_ (by omega) (by omega)
  refine jT_fB [1, 15, 16, 17, 18, 19, 20, 21, 22, 23, 24, 25, 26, 27, 28, 29] 35 (y := 257) (pc' := 1581) (dC := 1) (bc1 := 0) (bc2 := 0) (c1 := 0) (c2 := 0) (as := [(4, 1), (0, x1), (0, x2)]) (asC := [(4, 0), (0, x1), (0, x2)]) (L' := [(6, (0, 1)), (5, (0, 0)), (4, (4, 3)), (3, (4, 2)), (2, (4, 1)), (1, (4, 0)), (0, (6, 0))]) (st' := []) (hsC := jpA_26) (hsD := jpA_37) (v := (0, 0)) (st2 := [(0, 0)]) (hs2 := jpA_231) (jA_257_62 (d := 0) (by omega) (by omega)) (by rfl) (by rfl) (by decide +kernel) (by rfl) (by rfl) (by omega) (by omega) (by omega) (by omega) rfl (by decide +kernel) ?_
  refine jT_xistore (v := (0, 0)) (L' := [(7, (0, 0)), (6, (0, 1)), (5, (0, 0)), (4, (4, 3)), (3, (4, 2)), (2, (4, 1)), (1, (4, 0)), (0, (6, 0))]) (pc' := 1583) jI_379_1581 rfl rfl rfl rfl ?_
  refine jT_xaload_n (v := (4, 1)) (pc' := 1584) jI_379_1583 rfl rfl rfl ?_
  refine jT_fR [1, 15, 16, 17, 18, 19, 20, 21, 22, 23, 24, 25, 26, 27, 28, 29] 35 (y := 186) (pc' := 1587) (dC := 0) (bc1 := 0) (bc2 := 0) (c1 := 0) (c2 := 0) (as := [(4, 1)]) (asC := [(4, 0)]) (L' := [(7, (0, 0)), (6, (0, 1)), (5, (0, 0)), (4, (4, 3)), (3, (4, 2)), (2, (4, 1)), (1, (4, 0)), (0, (6, 0))]) (st' := []) (hsC := jpA_21) (v := (0, 1)) (st2 := [(0, 1)]) (jA_186_6 (d := 0)) (by rfl) (by rfl) (by decide +kernel) (by rfl) (by rfl) (by omega) (by omega) (by omega) (by omega) rfl ?_
  refine jT_xiload (v := (0, 1)) (pc' := 1589) jI_379_1587 rfl rfl rfl ?_
  refine jT_xicT (pc' := 1594) jI_379_1589 rfl (by decide +kernel) rfl ?_
  refine jT_xiload (v := (0, 1)) (pc' := 1596) jI_379_1594 rfl rfl rfl ?_
  refine jT_xifT (pc' := 1611) jI_379_1596 rfl (by decide +kernel) rfl ?_
  refine jT_xgoto (pc' := 3740) jI_379_1611 rfl ?_
  refine jT_xiinc (x := 0) (z := 5) (L' := [(5, (0, 5)), (7, (0, 0)), (6, (0, 1)), (4, (4, 3)), (3, (4, 2)), (2, (4, 1)), (1, (4, 0)), (0, (6, 0))]) (pc' := 3743) jI_379_3740 rfl rfl (by decide) rfl rfl ?_
  refine jT_xgoto (pc' := 28) jI_379_3743 rfl ?_
  refine jT_xiload (v := (0, 5)) (pc' := 30) jI_379_28 rfl rfl rfl ?_
  refine jT_xaload_n (v := (6, 0)) (pc' := 31) jI_379_30 rfl rfl rfl ?_
  refine jT_adv 1 (pc' := 32) (L' := [(5, (0, 5)), (7, (0, 0)), (6, (0, 1)), (4, (4, 3)), (3, (4, 2)), (2, (4, 1)), (1, (4, 0)), (0, (6, 0))]) (st' := [(0, 5), (0, 5)]) (hs' := jpA_231) (c1 := 0) (s1 := 0) (c2 := 0) (s2 := 0) (by exact rfl) ?_ (by omega) (by omega)
  refine jT_xiconst (k := 5) (pc' := 33) jI_379_32 rfl ?_
  refine jT_xisub (x := 5) (y := 5) (z := 0) (pc' := 34) jI_379_33 rfl (by decide) rfl ?_
  refine jT_xicT (pc' := 3746) jI_379_34 rfl (by decide +kernel) rfl ?_
  refine jT_xiconst (k := 1) (pc' := 3747) jI_379_3746 rfl ?_
  exact jT_ret rfl (by decide) (by show 35 ≤ 35; decide) (by omega) (by omega) ⟨rfl, rfl⟩
theorem jA_115_63 {xs : List Int} {d : Nat} {x1 : Int} (h_x1 : (-2147483648) ≤ x1 ∧ x1 ≤ (-1)) : jT xs d 115 1 0 [(0, (4, 0)), (1, (0, x1)), (2, (0, 8))] [] [jgh] 1 6 (fun k v hs' => k = 1 ∧ v = (0, 0) ∧ hs' = [jgh] ++ []) := by
  refine jT_xiload_n (v := (0, x1)) (pc' := 1) jI_115_0 rfl rfl rfl ?_
  refine jT_ifT (a := x1) (t := 9) (by rfl) (by rfl) (by rfl) (jw_idd (by omega) (by omega)) (by simp only [jcP] <;> omega) ?_
  exact jT_ret (c1 := 1) (s1 := 6) rfl (by decide) (by show 1 ≤ 1; decide) (by omega) (by omega) ⟨rfl, rfl, rfl⟩
theorem jI_120_0 : jmI (jm 120) 0 = (.aload_n 0, 1) := by rfl
theorem jI_120_1 : jmI (jm 120) 1 = (.iload_n 1, 1) := by rfl
theorem jI_120_2 : jmI (jm 120) 2 = (.bipush 8, 2) := by rfl
def jpA_268 : List JC := [jzA_8, jgh, jgh, jgh, jgh, jgh, jgh, jgh, jgh, jgh, jgh, jgh]
theorem jA_120_64 {xs : List Int} {d : Nat} {x1 x2 x3 : Int} (h_x1 : (-2147483648) ≤ x1 ∧ x1 ≤ (-1)) (h_x2 : (-2147483648) ≤ x2 ∧ x2 ≤ 2147483647) (h_x3 : (-2147483648) ≤ x3 ∧ x3 ≤ 2147483647) : jT xs (d + 1) 120 12 0 [(0, (4, 0)), (1, (0, x1)), (2, (0, x2)), (3, (0, x3))] [] jpA_268 1 6 (fun k v hs' => k = 1 ∧ v = (0, 0) ∧ hs' = jpA_268 ++ []) := by
  refine jT_xaload_n (v := (4, 0)) (pc' := 1) jI_120_0 rfl rfl rfl ?_
  refine jT_xiload_n (v := (0, x1)) (pc' := 2) jI_120_1 rfl rfl rfl ?_
  refine jT_xbipush (k := 8) (pc' := 4) jI_120_2 (by decide) rfl ?_
  exact jT_fX [0] 12 (y := 115) (pc' := 7) (dC := 0) (bc1 := 1) (bc2 := 6) (as := [(4, 0), (0, x1), (0, 8)]) (asC := [(4, 0), (0, x1), (0, 8)]) (L' := [(0, (4, 0)), (1, (0, x1)), (2, (0, x2)), (3, (0, x3))]) (st' := []) (hsC := [jgh]) (e := 0) (jA_115_63 (d := 0) (by omega)) (by rfl) (by rfl) (by decide +kernel) (by rfl) (by rfl) (by omega) (by omega) (by omega) (by omega) ⟨rfl, ⟨rfl, rfl, rfl⟩⟩
theorem jI_329_0 : jmI (jm 329) 0 = (.aload 4, 2) := by rfl
theorem jI_329_2 : jmI (jm 329) 2 = (.iconst 0, 1) := by rfl
theorem jI_329_3 : jmI (jm 329) 3 = (.aload_n 0, 1) := by rfl
theorem jI_329_4 : jmI (jm 329) 4 = (.iload_n 1, 1) := by rfl
theorem jI_329_5 : jmI (jm 329) 5 = (.iload_n 2, 1) := by rfl
theorem jI_329_6 : jmI (jm 329) 6 = (.iload_n 3, 1) := by rfl
def jpA_275 : List JC := [jzA_17, jgh, jgh, jgh, jgh, jgh, jgh, jgh, jgh, jgh, jgh, jgh, jgh]
theorem jA_329_65 {xs : List Int} {d : Nat} {x1 x2 x3 : Int} (h_x1 : (-2147483648) ≤ x1 ∧ x1 ≤ (-1)) (h_x2 : (-2147483648) ≤ x2 ∧ x2 ≤ 2147483647) (h_x3 : (-2147483648) ≤ x3 ∧ x3 ≤ 2147483647) : jT xs (d + 2) 329 13 0 [(0, (4, 0)), (1, (0, x1)), (2, (0, x2)), (3, (0, x3)), (4, (4, 1))] [] jpA_275 1 6 (fun k v hs' => k = 0 ∧ v = (0, 1) ∧ hs' = jpA_275 ++ []) := by
  refine jT_xaload (v := (4, 1)) (pc' := 2) jI_329_0 rfl rfl rfl ?_
  refine jT_xiconst (k := 0) (pc' := 3) jI_329_2 rfl ?_
  refine jT_xaload_n (v := (4, 0)) (pc' := 4) jI_329_3 rfl rfl rfl ?_
  refine jT_xiload_n (v := (0, x1)) (pc' := 5) jI_329_4 rfl rfl rfl ?_
  refine jT_xiload_n (v := (0, x2)) (pc' := 6) jI_329_5 rfl rfl rfl ?_
  refine jT_xiload_n (v := (0, x3)) (pc' := 7) jI_329_6 rfl rfl rfl ?_
  exact jT_fX [0, 2, 3, 4, 5, 6, 7, 8, 9, 10, 11, 12] 13 (y := 120) (pc' := 10) (dC := 1) (bc1 := 1) (bc2 := 6) (as := [(4, 0), (0, x1), (0, x2), (0, x3)]) (asC := [(4, 0), (0, x1), (0, x2), (0, x3)]) (L' := [(0, (4, 0)), (1, (0, x1)), (2, (0, x2)), (3, (0, x3)), (4, (4, 1))]) (st' := [(0, 0), (4, 1)]) (hsC := jpA_268) (e := 0) (jA_120_64 (d := 0) (by omega) (by omega) (by omega)) (by rfl) (by rfl) (by decide +kernel) (by rfl) (by rfl) (by omega) (by omega) (by omega) (by omega) (show _ from ⟨rfl, rfl, rfl⟩)
theorem jA_188_66 {xs : List Int} {d : Nat} {x1 : Int} (h_x1 : (-2147483648) ≤ x1 ∧ x1 ≤ (-1)) : jT xs (d + 1) 188 0 0 [(0, (0, x1))] [] [] 0 0 (fun k v hs' => k = 0 ∧ v = (0, 0) ∧ hs' = [] ++ []) := by
  refine jT_xiload_n (v := (0, x1)) (pc' := 1) jI_188_0 rfl rfl rfl ?_
  refine jT_xi2l (x := x1) (z := x1) (pc' := 2) jI_188_1 rfl (jw_idd (by omega) (by omega)) rfl ?_
  refine jT_xlconst (z := 0) (pc' := 3) jI_188_2 rfl rfl ?_
  refine jT_adv 1 (pc' := 6) (L' := [(0, (0, x1))]) (st' := [(1, 7), (1, 0), (1, x1)]) (hs' := []) (c1 := 0) (s1 := 0) (c2 := 0) (s2 := 0) (by exact rfl) ?_ (by omega) (by omega)
  refine jT_fR [] 0 (y := 189) (pc' := 9) (dC := 0) (bc1 := 0) (bc2 := 0) (c1 := 0) (c2 := 0) (as := [(1, x1), (1, 0), (1, 7)]) (asC := [(1, x1), (1, 0), (1, 7)]) (L' := [(0, (0, x1))]) (st' := []) (hsC := []) (v := (0, 0)) (st2 := [(0, 0)]) (jT_in_lo (d := 0) (v := x1) (lo := 0) (hi := 7) (by omega) (by omega) (by omega) (by omega)) (by rfl) (by rfl) (by decide +kernel) (by rfl) (by rfl) (by omega) (by omega) (by omega) (by omega) rfl ?_
  exact jT_ret rfl (by decide) (by show 0 ≤ 0; decide) (by omega) (by omega) ⟨rfl, rfl, rfl⟩
theorem jA_190_67 {xs : List Int} {d : Nat} : jT xs (d + 1) 190 16 0 [(0, (4, 0)), (1, (0, 0))] [] jpA_23 0 0 (fun k v hs' => k = 0 ∧ v = (0, 1) ∧ hs' = jpA_21) := by
  refine jT_advK 6 (pc' := 8) (L' := [(0, (4, 0)), (1, (0, 0))]) (st' := [(0, 1), (0, 0), (4, 0)]) (hs' := jpA_23) (c1 := 0) (s1 := 0) (c2 := 0) (s2 := 0) (by decide +kernel) ?_ (by omega) (by omega)
  refine jT_fB [0, 1, 2, 3, 4, 5, 6, 7, 8, 9, 10, 11, 12, 13, 14, 15] 16 (y := 191) (pc' := 11) (dC := 0) (bc1 := 0) (bc2 := 0) (c1 := 0) (c2 := 0) (as := [(4, 0), (0, 0), (0, 1)]) (asC := [(4, 0), (0, 0), (0, 1)]) (L' := [(0, (4, 0)), (1, (0, 0))]) (st' := []) (hsC := jpA_23) (hsD := jpA_21) (v := (0, 1)) (st2 := [(0, 1)]) (hs2 := jpA_21) (jA_191_4 (d := 0)) (by rfl) (by rfl) (by decide +kernel) (by rfl) (by rfl) (by omega) (by omega) (by omega) (by omega) rfl (by decide +kernel) ?_
  exact jT_ret rfl (by decide) (by show 16 ≤ 16; decide) (by omega) (by omega) ⟨rfl, rfl, rfl⟩
theorem jI_206_0 : jmI (jm 206) 0 = (.aload_n 0, 1) := by rfl
theorem jI_206_1 : jmI (jm 206) 1 = (.iload_n 1, 1) := by rfl
theorem jI_206_8 : jmI (jm 206) 8 = (.ifCond .ne 42, 3) := by rfl
theorem jI_206_50 : jmI (jm 206) 50 = (.iconst 0, 1) := by rfl
theorem jA_206_68 {xs : List Int} {d : Nat} {x1 x2 x3 : Int} (h_x1 : (-2147483648) ≤ x1 ∧ x1 ≤ (-1)) (h_x2 : (-2147483648) ≤ x2 ∧ x2 ≤ 2147483647) (h_x3 : (-2147483648) ≤ x3 ∧ x3 ≤ 2147483647) : jT xs (d + 2) 206 16 0 [(0, (4, 0)), (1, (0, x1)), (2, (0, x2)), (3, (0, x3))] [] jpA_23 0 0 (fun k v hs' => k = 0 ∧ v = (0, 0) ∧ hs' = jpA_21) := by
  refine jT_xaload_n (v := (4, 0)) (pc' := 1) jI_206_0 rfl rfl rfl ?_
  refine jT_xiload_n (v := (0, x1)) (pc' := 2) jI_206_1 rfl rfl rfl ?_
  refine jT_fR [] 16 (y := 188) (pc' := 5) (dC := 1) (bc1 := 0) (bc2 := 0) (c1 := 0) (c2 := 0) (as := [(0, x1)]) (asC := [(0, x1)]) (L' := [(0, (4, 0)), (1, (0, x1)), (2, (0, x2)), (3, (0, x3))]) (st' := [(4, 0)]) (hsC := []) (v := (0, 0)) (st2 := [(0, 0), (4, 0)]) (jA_188_66 (d := 0) (by omega)) (by rfl) (by rfl) (by decide +kernel) (by rfl) (by rfl) (by omega) (by omega) (by omega) (by omega) rfl ?_
  refine jT_fB [0, 1, 2, 3, 4, 5, 6, 7, 8, 9, 10, 11, 12, 13, 14, 15] 16 (y := 190) (pc' := 8) (dC := 1) (bc1 := 0) (bc2 := 0) (c1 := 0) (c2 := 0) (as := [(4, 0), (0, 0)]) (asC := [(4, 0), (0, 0)]) (L' := [(0, (4, 0)), (1, (0, x1)), (2, (0, x2)), (3, (0, x3))]) (st' := []) (hsC := jpA_23) (hsD := jpA_21) (v := (0, 1)) (st2 := [(0, 1)]) (hs2 := jpA_21) (jA_190_67 (d := 0)) (by rfl) (by rfl) (by decide +kernel) (by rfl) (by rfl) (by omega) (by omega) (by omega) (by omega) rfl (by decide +kernel) ?_
  refine jT_xifT (pc' := 50) jI_206_8 rfl (by decide +kernel) rfl ?_
  refine jT_xiconst (k := 0) (pc' := 51) jI_206_50 rfl ?_
  exact jT_ret rfl (by decide) (by show 16 ≤ 16; decide) (by omega) (by omega) ⟨rfl, rfl, rfl⟩
theorem jA_115_69 {xs : List Int} {d : Nat} {x1 : Int} (h_x1 : 0 ≤ x1 ∧ x1 ≤ 7) : jT xs d 115 1 0 [(0, (4, 0)), (1, (0, x1)), (2, (0, 8))] [] [jgh] 0 0 (fun k v hs' => k = 0 ∧ v = (9, 0) ∧ hs' = [jgh] ++ []) := by
  refine jT_xiload_n (v := (0, x1)) (pc' := 1) jI_115_0 rfl rfl rfl ?_
  refine jT_ifF (a := x1) (t := 9) (by rfl) (by rfl) (by rfl) (jw_idd (by omega) (by omega)) (by simp only [jcP] <;> omega) ?_
  refine jT_xiload_n (v := (0, x1)) (pc' := 5) jI_115_4 rfl rfl rfl ?_
  refine jT_xiload_n (v := (0, 8)) (pc' := 6) jI_115_5 rfl rfl rfl ?_
  refine jT_icT (a := x1) (b := 8) (t := 20) (by rfl) (by rfl) (by rfl) (jw_idd (by omega) (by omega)) (jw_idd (by omega) (by omega)) (by simp only [jcP] <;> omega) ?_
  exact jT_ret rfl (by decide) (by show 1 ≤ 1; decide) (by omega) (by omega) ⟨rfl, rfl, rfl⟩
theorem jA_116_70 {xs : List Int} {d : Nat} {x2 : Int} (h_x2 : (-2147483648) ≤ x2 ∧ x2 ≤ (-101)) : jT xs d 116 1 0 [(0, (4, 0)), (1, (0, x2)), (2, (0, (-100))), (3, (0, 100))] [] [jgh] 1 6 (fun k v hs' => k = 1 ∧ v = (0, 1) ∧ hs' = [jgh] ++ []) := by
  refine jT_xiload_n (v := (0, x2)) (pc' := 1) jI_116_0 rfl rfl rfl ?_
  refine jT_xiload_n (v := (0, (-100))) (pc' := 2) jI_116_1 rfl rfl rfl ?_
  refine jT_icT (a := x2) (b := (-100)) (t := 10) (by rfl) (by rfl) (by rfl) (jw_idd (by omega) (by omega)) (jw_idd (by omega) (by omega)) (by simp only [jcP] <;> omega) ?_
  exact jT_ret (c1 := 1) (s1 := 6) rfl (by decide) (by show 1 ≤ 1; decide) (by omega) (by omega) ⟨rfl, rfl, rfl⟩
theorem jI_120_7 : jmI (jm 120) 7 = (.aload_n 0, 1) := by rfl
theorem jI_120_8 : jmI (jm 120) 8 = (.iload_n 2, 1) := by rfl
theorem jI_120_9 : jmI (jm 120) 9 = (.bipush (-100), 2) := by rfl
theorem jI_120_11 : jmI (jm 120) 11 = (.bipush 100, 2) := by rfl
theorem jA_120_71 {xs : List Int} {d : Nat} {x1 x2 x3 : Int} (h_x1 : 0 ≤ x1 ∧ x1 ≤ 7) (h_x2 : (-2147483648) ≤ x2 ∧ x2 ≤ (-101)) (h_x3 : (-2147483648) ≤ x3 ∧ x3 ≤ 2147483647) : jT xs (d + 1) 120 12 0 [(0, (4, 0)), (1, (0, x1)), (2, (0, x2)), (3, (0, x3))] [] jpA_268 1 6 (fun k v hs' => k = 1 ∧ v = (0, 1) ∧ hs' = jpA_268 ++ []) := by
  refine jT_xaload_n (v := (4, 0)) (pc' := 1) jI_120_0 rfl rfl rfl ?_
  refine jT_xiload_n (v := (0, x1)) (pc' := 2) jI_120_1 rfl rfl rfl ?_
  refine jT_xbipush (k := 8) (pc' := 4) jI_120_2 (by decide) rfl ?_
  refine jT_fR [0] 12 (y := 115) (pc' := 7) (dC := 0) (bc1 := 0) (bc2 := 0) (c1 := 1) (c2 := 6) (as := [(4, 0), (0, x1), (0, 8)]) (asC := [(4, 0), (0, x1), (0, 8)]) (L' := [(0, (4, 0)), (1, (0, x1)), (2, (0, x2)), (3, (0, x3))]) (st' := []) (hsC := [jgh]) (v := (9, 0)) (st2 := []) (jA_115_69 (d := 0) (by omega)) (by rfl) (by rfl) (by decide +kernel) (by rfl) (by rfl) (by omega) (by omega) (by omega) (by omega) rfl ?_
  refine jT_xaload_n (v := (4, 0)) (pc' := 8) jI_120_7 rfl rfl rfl ?_
  refine jT_xiload_n (v := (0, x2)) (pc' := 9) jI_120_8 rfl rfl rfl ?_
  refine jT_xbipush (k := (-100)) (pc' := 11) jI_120_9 (by decide) rfl ?_
  refine jT_xbipush (k := 100) (pc' := 13) jI_120_11 (by decide) rfl ?_
  exact jT_fX [0] 12 (y := 116) (pc' := 16) (dC := 0) (bc1 := 1) (bc2 := 6) (as := [(4, 0), (0, x2), (0, (-100)), (0, 100)]) (asC := [(4, 0), (0, x2), (0, (-100)), (0, 100)]) (L' := [(0, (4, 0)), (1, (0, x1)), (2, (0, x2)), (3, (0, x3))]) (st' := []) (hsC := [jgh]) (e := 1) (jA_116_70 (d := 0) (by omega)) (by rfl) (by rfl) (by decide +kernel) (by rfl) (by rfl) (by omega) (by omega) (by omega) (by omega) ⟨rfl, ⟨rfl, rfl, rfl⟩⟩
theorem jA_329_72 {xs : List Int} {d : Nat} {x1 x2 x3 : Int} (h_x1 : 0 ≤ x1 ∧ x1 ≤ 7) (h_x2 : (-2147483648) ≤ x2 ∧ x2 ≤ (-101)) (h_x3 : (-2147483648) ≤ x3 ∧ x3 ≤ 2147483647) : jT xs (d + 2) 329 13 0 [(0, (4, 0)), (1, (0, x1)), (2, (0, x2)), (3, (0, x3)), (4, (4, 1))] [] jpA_275 1 6 (fun k v hs' => k = 0 ∧ v = (0, 2) ∧ hs' = jpA_275 ++ []) := by
  refine jT_xaload (v := (4, 1)) (pc' := 2) jI_329_0 rfl rfl rfl ?_
  refine jT_xiconst (k := 0) (pc' := 3) jI_329_2 rfl ?_
  refine jT_xaload_n (v := (4, 0)) (pc' := 4) jI_329_3 rfl rfl rfl ?_
  refine jT_xiload_n (v := (0, x1)) (pc' := 5) jI_329_4 rfl rfl rfl ?_
  refine jT_xiload_n (v := (0, x2)) (pc' := 6) jI_329_5 rfl rfl rfl ?_
  refine jT_xiload_n (v := (0, x3)) (pc' := 7) jI_329_6 rfl rfl rfl ?_
  exact jT_fX [0, 2, 3, 4, 5, 6, 7, 8, 9, 10, 11, 12] 13 (y := 120) (pc' := 10) (dC := 1) (bc1 := 1) (bc2 := 6) (as := [(4, 0), (0, x1), (0, x2), (0, x3)]) (asC := [(4, 0), (0, x1), (0, x2), (0, x3)]) (L' := [(0, (4, 0)), (1, (0, x1)), (2, (0, x2)), (3, (0, x3)), (4, (4, 1))]) (st' := [(0, 0), (4, 1)]) (hsC := jpA_268) (e := 1) (jA_120_71 (d := 0) (by omega) (by omega) (by omega)) (by rfl) (by rfl) (by decide +kernel) (by rfl) (by rfl) (by omega) (by omega) (by omega) (by omega) (show _ from ⟨rfl, rfl, rfl⟩)
theorem jA_188_73 {xs : List Int} {d : Nat} {x1 : Int} (h_x1 : 0 ≤ x1 ∧ x1 ≤ 7) : jT xs (d + 1) 188 0 0 [(0, (0, x1))] [] [] 0 0 (fun k v hs' => k = 0 ∧ v = (0, 1) ∧ hs' = [] ++ []) := by
  refine jT_xiload_n (v := (0, x1)) (pc' := 1) jI_188_0 rfl rfl rfl ?_
  refine jT_xi2l (x := x1) (z := x1) (pc' := 2) jI_188_1 rfl (jw_idd (by omega) (by omega)) rfl ?_
  refine jT_xlconst (z := 0) (pc' := 3) jI_188_2 rfl rfl ?_
  refine jT_adv 1 (pc' := 6) (L' := [(0, (0, x1))]) (st' := [(1, 7), (1, 0), (1, x1)]) (hs' := []) (c1 := 0) (s1 := 0) (c2 := 0) (s2 := 0) (by exact rfl) ?_ (by omega) (by omega)
  refine jT_fR [] 0 (y := 189) (pc' := 9) (dC := 0) (bc1 := 0) (bc2 := 0) (c1 := 0) (c2 := 0) (as := [(1, x1), (1, 0), (1, 7)]) (asC := [(1, x1), (1, 0), (1, 7)]) (L' := [(0, (0, x1))]) (st' := []) (hsC := []) (v := (0, 1)) (st2 := [(0, 1)]) (jT_in_ok (d := 0) (v := x1) (lo := 0) (hi := 7) (by omega) (by omega) (by omega) (by omega) (by omega)) (by rfl) (by rfl) (by decide +kernel) (by rfl) (by rfl) (by omega) (by omega) (by omega) (by omega) rfl ?_
  exact jT_ret rfl (by decide) (by show 0 ≤ 0; decide) (by omega) (by omega) ⟨rfl, rfl, rfl⟩
theorem jA_190_74 {xs : List Int} {d : Nat} : jT xs (d + 1) 190 16 0 [(0, (4, 0)), (1, (0, 1))] [] jpA_23 0 0 (fun k v hs' => k = 0 ∧ v = (0, 0) ∧ hs' = jpA_23 ++ []) := by
  refine jT_advK 6 (pc' := 8) (L' := [(0, (4, 0)), (1, (0, 1))]) (st' := [(0, 1), (0, 1), (4, 0)]) (hs' := jpA_23) (c1 := 0) (s1 := 0) (c2 := 0) (s2 := 0) (by decide +kernel) ?_ (by omega) (by omega)
  refine jT_fR [0] 16 (y := 191) (pc' := 11) (dC := 0) (bc1 := 0) (bc2 := 0) (c1 := 0) (c2 := 0) (as := [(4, 0), (0, 1), (0, 1)]) (asC := [(4, 0), (0, 1), (0, 1)]) (L' := [(0, (4, 0)), (1, (0, 1))]) (st' := []) (hsC := [jgh]) (v := (0, 0)) (st2 := [(0, 0)]) (jA_191_12 (d := 0)) (by rfl) (by rfl) (by decide +kernel) (by rfl) (by rfl) (by omega) (by omega) (by omega) (by omega) rfl ?_
  exact jT_ret rfl (by decide) (by show 16 ≤ 16; decide) (by omega) (by omega) ⟨rfl, rfl, rfl⟩
theorem jI_206_11 : jmI (jm 206) 11 = (.aload_n 0, 1) := by rfl
theorem jI_206_12 : jmI (jm 206) 12 = (.iload_n 2, 1) := by rfl
theorem jI_206_13 : jmI (jm 206) 13 = (.i2l, 1) := by rfl
theorem jI_206_23 : jmI (jm 206) 23 = (.ifCond .eq 19, 3) := by rfl
theorem jI_206_42 : jmI (jm 206) 42 = (.iconst 0, 1) := by rfl
theorem jI_206_43 : jmI (jm 206) 43 = (.iconst 2, 1) := by rfl
theorem jI_206_47 : jmI (jm 206) 47 = (.ifCond .eq 5, 3) := by rfl
theorem jA_206_75 {xs : List Int} {d : Nat} {x1 x2 x3 : Int} (h_x1 : 0 ≤ x1 ∧ x1 ≤ 7) (h_x2 : (-2147483648) ≤ x2 ∧ x2 ≤ (-101)) (h_x3 : (-2147483648) ≤ x3 ∧ x3 ≤ 2147483647) : jT xs (d + 2) 206 16 0 [(0, (4, 0)), (1, (0, x1)), (2, (0, x2)), (3, (0, x3))] [] jpA_23 0 0 (fun k v hs' => k = 0 ∧ v = (0, 0) ∧ hs' = jpA_49) := by
  refine jT_xaload_n (v := (4, 0)) (pc' := 1) jI_206_0 rfl rfl rfl ?_
  refine jT_xiload_n (v := (0, x1)) (pc' := 2) jI_206_1 rfl rfl rfl ?_
  refine jT_fR [] 16 (y := 188) (pc' := 5) (dC := 1) (bc1 := 0) (bc2 := 0) (c1 := 0) (c2 := 0) (as := [(0, x1)]) (asC := [(0, x1)]) (L' := [(0, (4, 0)), (1, (0, x1)), (2, (0, x2)), (3, (0, x3))]) (st' := [(4, 0)]) (hsC := []) (v := (0, 1)) (st2 := [(0, 1), (4, 0)]) (jA_188_73 (d := 0) (by omega)) (by rfl) (by rfl) (by decide +kernel) (by rfl) (by rfl) (by omega) (by omega) (by omega) (by omega) rfl ?_
  refine jT_fR [0, 1, 2, 3, 4, 5, 6, 7, 8, 9, 10, 11, 12, 13, 14, 15] 16 (y := 190) (pc' := 8) (dC := 1) (bc1 := 0) (bc2 := 0) (c1 := 0) (c2 := 0) (as := [(4, 0), (0, 1)]) (asC := [(4, 0), (0, 1)]) (L' := [(0, (4, 0)), (1, (0, x1)), (2, (0, x2)), (3, (0, x3))]) (st' := []) (hsC := jpA_23) (v := (0, 0)) (st2 := [(0, 0)]) (jA_190_74 (d := 0)) (by rfl) (by rfl) (by decide +kernel) (by rfl) (by rfl) (by omega) (by omega) (by omega) (by omega) rfl ?_
  refine jT_xifF (t := 50) (pc' := 11) jI_206_8 rfl (by decide +kernel) rfl rfl ?_
  refine jT_xaload_n (v := (4, 0)) (pc' := 12) jI_206_11 rfl rfl rfl ?_
  refine jT_xiload_n (v := (0, x2)) (pc' := 13) jI_206_12 rfl rfl rfl ?_
  refine jT_xi2l (x := x2) (z := x2) (pc' := 14) jI_206_13 rfl (jw_idd (by omega) (by omega)) rfl ?_
  refine jT_adv 2 (pc' := 20) (L' := [(0, (4, 0)), (1, (0, x1)), (2, (0, x2)), (3, (0, x3))]) (st' := [(1, 100), (1, (-100)), (1, x2), (4, 0)]) (hs' := jpA_23) (c1 := 0) (s1 := 0) (c2 := 0) (s2 := 0) (by exact rfl) ?_ (by omega) (by omega)
  refine jT_fR [] 16 (y := 189) (pc' := 23) (dC := 0) (bc1 := 0) (bc2 := 0) (c1 := 0) (c2 := 0) (as := [(1, x2), (1, (-100)), (1, 100)]) (asC := [(1, x2), (1, (-100)), (1, 100)]) (L' := [(0, (4, 0)), (1, (0, x1)), (2, (0, x2)), (3, (0, x3))]) (st' := [(4, 0)]) (hsC := []) (v := (0, 0)) (st2 := [(0, 0), (4, 0)]) (jT_in_lo (d := 0) (v := x2) (lo := (-100)) (hi := 100) (by omega) (by omega) (by omega) (by omega)) (by rfl) (by rfl) (by decide +kernel) (by rfl) (by rfl) (by omega) (by omega) (by omega) (by omega) rfl ?_
  refine jT_xifT (pc' := 42) jI_206_23 rfl (by decide +kernel) rfl ?_
  refine jT_xiconst (k := 0) (pc' := 43) jI_206_42 rfl ?_
  refine jT_xiconst (k := 2) (pc' := 44) jI_206_43 rfl ?_
  refine jT_fB [0, 1, 2, 3, 4, 5, 6, 7, 8, 9, 10, 11, 12, 13, 14, 15] 16 (y := 191) (pc' := 47) (dC := 0) (bc1 := 0) (bc2 := 0) (c1 := 0) (c2 := 0) (as := [(4, 0), (0, 0), (0, 2)]) (asC := [(4, 0), (0, 0), (0, 2)]) (L' := [(0, (4, 0)), (1, (0, x1)), (2, (0, x2)), (3, (0, x3))]) (st' := []) (hsC := jpA_23) (hsD := jpA_49) (v := (0, 1)) (st2 := [(0, 1)]) (hs2 := jpA_49) (jA_191_14 (d := 0)) (by rfl) (by rfl) (by decide +kernel) (by rfl) (by rfl) (by omega) (by omega) (by omega) (by omega) rfl (by decide +kernel) ?_
  refine jT_xifF (t := 52) (pc' := 50) jI_206_47 rfl (by decide +kernel) rfl rfl ?_
  refine jT_xiconst (k := 0) (pc' := 51) jI_206_50 rfl ?_
  exact jT_ret rfl (by decide) (by show 16 ≤ 16; decide) (by omega) (by omega) ⟨rfl, rfl, rfl⟩
theorem jA_116_76 {xs : List Int} {d : Nat} {x2 : Int} (h_x2 : (-100) ≤ x2 ∧ x2 ≤ 100) : jT xs d 116 1 0 [(0, (4, 0)), (1, (0, x2)), (2, (0, (-100))), (3, (0, 100))] [] [jgh] 0 0 (fun k v hs' => k = 0 ∧ v = (9, 0) ∧ hs' = [jgh] ++ []) := by
  refine jT_xiload_n (v := (0, x2)) (pc' := 1) jI_116_0 rfl rfl rfl ?_
  refine jT_xiload_n (v := (0, (-100))) (pc' := 2) jI_116_1 rfl rfl rfl ?_
  refine jT_icF (a := x2) (b := (-100)) (t := 10) (by rfl) (by rfl) (by rfl) (jw_idd (by omega) (by omega)) (jw_idd (by omega) (by omega)) (by simp only [jcP] <;> omega) ?_
  refine jT_xiload_n (v := (0, x2)) (pc' := 6) jI_116_5 rfl rfl rfl ?_
  refine jT_xiload_n (v := (0, 100)) (pc' := 7) jI_116_6 rfl rfl rfl ?_
  refine jT_icT (a := x2) (b := 100) (t := 21) (by rfl) (by rfl) (by rfl) (jw_idd (by omega) (by omega)) (jw_idd (by omega) (by omega)) (by simp only [jcP] <;> omega) ?_
  exact jT_ret rfl (by decide) (by show 1 ≤ 1; decide) (by omega) (by omega) ⟨rfl, rfl, rfl⟩
theorem jA_116_77 {xs : List Int} {d : Nat} {x3 : Int} (h_x3 : (-2147483648) ≤ x3 ∧ x3 ≤ 0) : jT xs d 116 1 0 [(0, (4, 0)), (1, (0, x3)), (2, (0, 1)), (3, (0, 24))] [] [jgh] 1 6 (fun k v hs' => k = 1 ∧ v = (0, 1) ∧ hs' = [jgh] ++ []) := by
  refine jT_xiload_n (v := (0, x3)) (pc' := 1) jI_116_0 rfl rfl rfl ?_
  refine jT_xiload_n (v := (0, 1)) (pc' := 2) jI_116_1 rfl rfl rfl ?_
  refine jT_icT (a := x3) (b := 1) (t := 10) (by rfl) (by rfl) (by rfl) (jw_idd (by omega) (by omega)) (jw_idd (by omega) (by omega)) (by simp only [jcP] <;> omega) ?_
  exact jT_ret (c1 := 1) (s1 := 6) rfl (by decide) (by show 1 ≤ 1; decide) (by omega) (by omega) ⟨rfl, rfl, rfl⟩
theorem jI_120_16 : jmI (jm 120) 16 = (.aload_n 0, 1) := by rfl
theorem jI_120_17 : jmI (jm 120) 17 = (.iload_n 3, 1) := by rfl
theorem jI_120_18 : jmI (jm 120) 18 = (.iconst 1, 1) := by rfl
theorem jI_120_19 : jmI (jm 120) 19 = (.bipush 24, 2) := by rfl
theorem jA_120_78 {xs : List Int} {d : Nat} {x1 x2 x3 : Int} (h_x1 : 0 ≤ x1 ∧ x1 ≤ 7) (h_x2 : (-100) ≤ x2 ∧ x2 ≤ 100) (h_x3 : (-2147483648) ≤ x3 ∧ x3 ≤ 0) : jT xs (d + 1) 120 12 0 [(0, (4, 0)), (1, (0, x1)), (2, (0, x2)), (3, (0, x3))] [] jpA_268 1 6 (fun k v hs' => k = 1 ∧ v = (0, 1) ∧ hs' = jpA_268 ++ []) := by
  refine jT_xaload_n (v := (4, 0)) (pc' := 1) jI_120_0 rfl rfl rfl ?_
  refine jT_xiload_n (v := (0, x1)) (pc' := 2) jI_120_1 rfl rfl rfl ?_
  refine jT_xbipush (k := 8) (pc' := 4) jI_120_2 (by decide) rfl ?_
  refine jT_fR [0] 12 (y := 115) (pc' := 7) (dC := 0) (bc1 := 0) (bc2 := 0) (c1 := 1) (c2 := 6) (as := [(4, 0), (0, x1), (0, 8)]) (asC := [(4, 0), (0, x1), (0, 8)]) (L' := [(0, (4, 0)), (1, (0, x1)), (2, (0, x2)), (3, (0, x3))]) (st' := []) (hsC := [jgh]) (v := (9, 0)) (st2 := []) (jA_115_69 (d := 0) (by omega)) (by rfl) (by rfl) (by decide +kernel) (by rfl) (by rfl) (by omega) (by omega) (by omega) (by omega) rfl ?_
  refine jT_xaload_n (v := (4, 0)) (pc' := 8) jI_120_7 rfl rfl rfl ?_
  refine jT_xiload_n (v := (0, x2)) (pc' := 9) jI_120_8 rfl rfl rfl ?_
  refine jT_xbipush (k := (-100)) (pc' := 11) jI_120_9 (by decide) rfl ?_
  refine jT_xbipush (k := 100) (pc' := 13) jI_120_11 (by decide) rfl ?_
  refine jT_fR [0] 12 (y := 116) (pc' := 16) (dC := 0) (bc1 := 0) (bc2 := 0) (c1 := 1) (c2 := 6) (as := [(4, 0), (0, x2), (0, (-100)), (0, 100)]) (asC := [(4, 0), (0, x2), (0, (-100)), (0, 100)]) (L' := [(0, (4, 0)), (1, (0, x1)), (2, (0, x2)), (3, (0, x3))]) (st' := []) (hsC := [jgh]) (v := (9, 0)) (st2 := []) (jA_116_76 (d := 0) (by omega)) (by rfl) (by rfl) (by decide +kernel) (by rfl) (by rfl) (by omega) (by omega) (by omega) (by omega) rfl ?_
  refine jT_xaload_n (v := (4, 0)) (pc' := 17) jI_120_16 rfl rfl rfl ?_
  refine jT_xiload_n (v := (0, x3)) (pc' := 18) jI_120_17 rfl rfl rfl ?_
  refine jT_xiconst (k := 1) (pc' := 19) jI_120_18 rfl ?_
  refine jT_xbipush (k := 24) (pc' := 21) jI_120_19 (by decide) rfl ?_
  exact jT_fX [0] 12 (y := 116) (pc' := 24) (dC := 0) (bc1 := 1) (bc2 := 6) (as := [(4, 0), (0, x3), (0, 1), (0, 24)]) (asC := [(4, 0), (0, x3), (0, 1), (0, 24)]) (L' := [(0, (4, 0)), (1, (0, x1)), (2, (0, x2)), (3, (0, x3))]) (st' := []) (hsC := [jgh]) (e := 1) (jA_116_77 (d := 0) (by omega)) (by rfl) (by rfl) (by decide +kernel) (by rfl) (by rfl) (by omega) (by omega) (by omega) (by omega) ⟨rfl, ⟨rfl, rfl, rfl⟩⟩
theorem jA_329_79 {xs : List Int} {d : Nat} {x1 x2 x3 : Int} (h_x1 : 0 ≤ x1 ∧ x1 ≤ 7) (h_x2 : (-100) ≤ x2 ∧ x2 ≤ 100) (h_x3 : (-2147483648) ≤ x3 ∧ x3 ≤ 0) : jT xs (d + 2) 329 13 0 [(0, (4, 0)), (1, (0, x1)), (2, (0, x2)), (3, (0, x3)), (4, (4, 1))] [] jpA_275 1 6 (fun k v hs' => k = 0 ∧ v = (0, 2) ∧ hs' = jpA_275 ++ []) := by
  refine jT_xaload (v := (4, 1)) (pc' := 2) jI_329_0 rfl rfl rfl ?_
  refine jT_xiconst (k := 0) (pc' := 3) jI_329_2 rfl ?_
  refine jT_xaload_n (v := (4, 0)) (pc' := 4) jI_329_3 rfl rfl rfl ?_
  refine jT_xiload_n (v := (0, x1)) (pc' := 5) jI_329_4 rfl rfl rfl ?_
  refine jT_xiload_n (v := (0, x2)) (pc' := 6) jI_329_5 rfl rfl rfl ?_
  refine jT_xiload_n (v := (0, x3)) (pc' := 7) jI_329_6 rfl rfl rfl ?_
  exact jT_fX [0, 2, 3, 4, 5, 6, 7, 8, 9, 10, 11, 12] 13 (y := 120) (pc' := 10) (dC := 1) (bc1 := 1) (bc2 := 6) (as := [(4, 0), (0, x1), (0, x2), (0, x3)]) (asC := [(4, 0), (0, x1), (0, x2), (0, x3)]) (L' := [(0, (4, 0)), (1, (0, x1)), (2, (0, x2)), (3, (0, x3)), (4, (4, 1))]) (st' := [(0, 0), (4, 1)]) (hsC := jpA_268) (e := 1) (jA_120_78 (d := 0) (by omega) (by omega) (by omega)) (by rfl) (by rfl) (by decide +kernel) (by rfl) (by rfl) (by omega) (by omega) (by omega) (by omega) (show _ from ⟨rfl, rfl, rfl⟩)
theorem jI_206_26 : jmI (jm 206) 26 = (.iload_n 3, 1) := by rfl
theorem jI_206_27 : jmI (jm 206) 27 = (.i2l, 1) := by rfl
theorem jI_206_28 : jmI (jm 206) 28 = (.lconst 1, 1) := by rfl
theorem jI_206_35 : jmI (jm 206) 35 = (.ifCond .eq 7, 3) := by rfl
theorem jA_206_80 {xs : List Int} {d : Nat} {x1 x2 x3 : Int} (h_x1 : 0 ≤ x1 ∧ x1 ≤ 7) (h_x2 : (-100) ≤ x2 ∧ x2 ≤ 100) (h_x3 : (-2147483648) ≤ x3 ∧ x3 ≤ 0) : jT xs (d + 2) 206 16 0 [(0, (4, 0)), (1, (0, x1)), (2, (0, x2)), (3, (0, x3))] [] jpA_23 0 0 (fun k v hs' => k = 0 ∧ v = (0, 0) ∧ hs' = jpA_49) := by
  refine jT_xaload_n (v := (4, 0)) (pc' := 1) jI_206_0 rfl rfl rfl ?_
  refine jT_xiload_n (v := (0, x1)) (pc' := 2) jI_206_1 rfl rfl rfl ?_
  refine jT_fR [] 16 (y := 188) (pc' := 5) (dC := 1) (bc1 := 0) (bc2 := 0) (c1 := 0) (c2 := 0) (as := [(0, x1)]) (asC := [(0, x1)]) (L' := [(0, (4, 0)), (1, (0, x1)), (2, (0, x2)), (3, (0, x3))]) (st' := [(4, 0)]) (hsC := []) (v := (0, 1)) (st2 := [(0, 1), (4, 0)]) (jA_188_73 (d := 0) (by omega)) (by rfl) (by rfl) (by decide +kernel) (by rfl) (by rfl) (by omega) (by omega) (by omega) (by omega) rfl ?_
  refine jT_fR [0, 1, 2, 3, 4, 5, 6, 7, 8, 9, 10, 11, 12, 13, 14, 15] 16 (y := 190) (pc' := 8) (dC := 1) (bc1 := 0) (bc2 := 0) (c1 := 0) (c2 := 0) (as := [(4, 0), (0, 1)]) (asC := [(4, 0), (0, 1)]) (L' := [(0, (4, 0)), (1, (0, x1)), (2, (0, x2)), (3, (0, x3))]) (st' := []) (hsC := jpA_23) (v := (0, 0)) (st2 := [(0, 0)]) (jA_190_74 (d := 0)) (by rfl) (by rfl) (by decide +kernel) (by rfl) (by rfl) (by omega) (by omega) (by omega) (by omega) rfl ?_
  refine jT_xifF (t := 50) (pc' := 11) jI_206_8 rfl (by decide +kernel) rfl rfl ?_
  refine jT_xaload_n (v := (4, 0)) (pc' := 12) jI_206_11 rfl rfl rfl ?_
  refine jT_xiload_n (v := (0, x2)) (pc' := 13) jI_206_12 rfl rfl rfl ?_
  refine jT_xi2l (x := x2) (z := x2) (pc' := 14) jI_206_13 rfl (jw_idd (by omega) (by omega)) rfl ?_
  refine jT_adv 2 (pc' := 20) (L' := [(0, (4, 0)), (1, (0, x1)), (2, (0, x2)), (3, (0, x3))]) (st' := [(1, 100), (1, (-100)), (1, x2), (4, 0)]) (hs' := jpA_23) (c1 := 0) (s1 := 0) (c2 := 0) (s2 := 0) (by exact rfl) ?_ (by omega) (by omega)
  refine jT_fR [] 16 (y := 189) (pc' := 23) (dC := 0) (bc1 := 0) (bc2 := 0) (c1 := 0) (c2 := 0) (as := [(1, x2), (1, (-100)), (1, 100)]) (asC := [(1, x2), (1, (-100)), (1, 100)]) (L' := [(0, (4, 0)), (1, (0, x1)), (2, (0, x2)), (3, (0, x3))]) (st' := [(4, 0)]) (hsC := []) (v := (0, 1)) (st2 := [(0, 1), (4, 0)]) (jT_in_ok (d := 0) (v := x2) (lo := (-100)) (hi := 100) (by omega) (by omega) (by omega) (by omega) (by omega)) (by rfl) (by rfl) (by decide +kernel) (by rfl) (by rfl) (by omega) (by omega) (by omega) (by omega) rfl ?_
  refine jT_xifF (t := 42) (pc' := 26) jI_206_23 rfl (by decide +kernel) rfl rfl ?_
  refine jT_xiload_n (v := (0, x3)) (pc' := 27) jI_206_26 rfl rfl rfl ?_
  refine jT_xi2l (x := x3) (z := x3) (pc' := 28) jI_206_27 rfl (jw_idd (by omega) (by omega)) rfl ?_
  refine jT_xlconst (z := 1) (pc' := 29) jI_206_28 rfl rfl ?_
  refine jT_adv 1 (pc' := 32) (L' := [(0, (4, 0)), (1, (0, x1)), (2, (0, x2)), (3, (0, x3))]) (st' := [(1, 24), (1, 1), (1, x3), (4, 0)]) (hs' := jpA_23) (c1 := 0) (s1 := 0) (c2 := 0) (s2 := 0) (by exact rfl) ?_ (by omega) (by omega)
  refine jT_fR [] 16 (y := 189) (pc' := 35) (dC := 0) (bc1 := 0) (bc2 := 0) (c1 := 0) (c2 := 0) (as := [(1, x3), (1, 1), (1, 24)]) (asC := [(1, x3), (1, 1), (1, 24)]) (L' := [(0, (4, 0)), (1, (0, x1)), (2, (0, x2)), (3, (0, x3))]) (st' := [(4, 0)]) (hsC := []) (v := (0, 0)) (st2 := [(0, 0), (4, 0)]) (jT_in_lo (d := 0) (v := x3) (lo := 1) (hi := 24) (by omega) (by omega) (by omega) (by omega)) (by rfl) (by rfl) (by decide +kernel) (by rfl) (by rfl) (by omega) (by omega) (by omega) (by omega) rfl ?_
  refine jT_xifT (pc' := 42) jI_206_35 rfl (by decide +kernel) rfl ?_
  refine jT_xiconst (k := 0) (pc' := 43) jI_206_42 rfl ?_
  refine jT_xiconst (k := 2) (pc' := 44) jI_206_43 rfl ?_
  refine jT_fB [0, 1, 2, 3, 4, 5, 6, 7, 8, 9, 10, 11, 12, 13, 14, 15] 16 (y := 191) (pc' := 47) (dC := 0) (bc1 := 0) (bc2 := 0) (c1 := 0) (c2 := 0) (as := [(4, 0), (0, 0), (0, 2)]) (asC := [(4, 0), (0, 0), (0, 2)]) (L' := [(0, (4, 0)), (1, (0, x1)), (2, (0, x2)), (3, (0, x3))]) (st' := []) (hsC := jpA_23) (hsD := jpA_49) (v := (0, 1)) (st2 := [(0, 1)]) (hs2 := jpA_49) (jA_191_14 (d := 0)) (by rfl) (by rfl) (by decide +kernel) (by rfl) (by rfl) (by omega) (by omega) (by omega) (by omega) rfl (by decide +kernel) ?_
  refine jT_xifF (t := 52) (pc' := 50) jI_206_47 rfl (by decide +kernel) rfl rfl ?_
  refine jT_xiconst (k := 0) (pc' := 51) jI_206_50 rfl ?_
  exact jT_ret rfl (by decide) (by show 16 ≤ 16; decide) (by omega) (by omega) ⟨rfl, rfl, rfl⟩
theorem jA_116_81 {xs : List Int} {d : Nat} {x3 : Int} (h_x3 : 1 ≤ x3 ∧ x3 ≤ 24) : jT xs d 116 1 0 [(0, (4, 0)), (1, (0, x3)), (2, (0, 1)), (3, (0, 24))] [] [jgh] 0 0 (fun k v hs' => k = 0 ∧ v = (9, 0) ∧ hs' = [jgh] ++ []) := by
  refine jT_xiload_n (v := (0, x3)) (pc' := 1) jI_116_0 rfl rfl rfl ?_
  refine jT_xiload_n (v := (0, 1)) (pc' := 2) jI_116_1 rfl rfl rfl ?_
  refine jT_icF (a := x3) (b := 1) (t := 10) (by rfl) (by rfl) (by rfl) (jw_idd (by omega) (by omega)) (jw_idd (by omega) (by omega)) (by simp only [jcP] <;> omega) ?_
  refine jT_xiload_n (v := (0, x3)) (pc' := 6) jI_116_5 rfl rfl rfl ?_
  refine jT_xiload_n (v := (0, 24)) (pc' := 7) jI_116_6 rfl rfl rfl ?_
  refine jT_icT (a := x3) (b := 24) (t := 21) (by rfl) (by rfl) (by rfl) (jw_idd (by omega) (by omega)) (jw_idd (by omega) (by omega)) (by simp only [jcP] <;> omega) ?_
  exact jT_ret rfl (by decide) (by show 1 ≤ 1; decide) (by omega) (by omega) ⟨rfl, rfl, rfl⟩
theorem jI_57_0 : jmI (jm 57) 0 = (.aload_n 0, 1) := by rfl
theorem jI_57_1 : jmI (jm 57) 1 = (.getfield 9, 3) := by rfl
theorem jI_57_4 : jmI (jm 57) 4 = (.iload_n 1, 1) := by rfl
theorem jI_57_5 : jmI (jm 57) 5 = (.aaload, 1) := by rfl
def jpA_303 : List JC := [jzA_58, (114, [], [6, 6, 6, 6, 6, 6, 6, 6]), jgh, jgh, jgh, jgh, jgh]
theorem jA_57_82 {xs : List Int} {d : Nat} {x1 : Int} (h_x1 : 0 ≤ x1 ∧ x1 ≤ 7) : jT xs d 57 7 0 [(0, (4, 0)), (1, (0, x1))] [] jpA_303 0 0 (fun k v hs' => k = 0 ∧ v = (4, 6) ∧ hs' = jpA_303 ++ []) := by
  refine jT_xaload_n (v := (4, 0)) (pc' := 1) jI_57_0 rfl rfl rfl ?_
  refine jT_xgetf (a := 0) (t := 1) (ci := 9) (fi := 0) (c := jzA_58) (v := (4, 1)) (pc' := 4) jI_57_1 rfl rfl rfl rfl rfl rfl rfl ?_
  refine jT_xiload_n (v := (0, x1)) (pc' := 5) jI_57_4 rfl rfl rfl ?_
  refine jT_aald (x := 6) (a := 1) (j := (x1).toNat) (fs := []) (X := [6, 6, 6, 6, 6, 6, 6, 6]) (kd := 114) (by rfl) (by rfl) (by rfl) (jw_nn (by omega) (by omega)) (jall_get 8 (by decide) (by omega)) (by rfl) ?_
  refine jT_eq (L' := [(0, (4, 0)), (1, (0, x1))]) (st' := [(4, 6)]) (hs' := jpA_303) rfl rfl rfl ?_
  exact jT_ret rfl (by decide) (by show 7 ≤ 7; decide) (by omega) (by omega) ⟨rfl, rfl, rfl⟩
theorem jA_116_83 {xs : List Int} {d : Nat} : jT xs d 116 1 0 [(0, (4, 0)), (1, (0, 1)), (2, (0, 1)), (3, (0, 24))] [] [jgh] 0 0 (fun k v hs' => k = 0 ∧ v = (9, 0) ∧ hs' = [jgh] ++ []) := by
  refine jT_advK 6 (pc' := 21) (L' := [(0, (4, 0)), (1, (0, 1)), (2, (0, 1)), (3, (0, 24))]) (st' := []) (hs' := [jgh]) (c1 := 0) (s1 := 0) (c2 := 0) (s2 := 0) (by decide +kernel) ?_ (by omega) (by omega)
  exact jT_ret rfl (by decide) (by show 1 ≤ 1; decide) (by omega) (by omega) ⟨rfl, rfl, rfl⟩
theorem jI_10_0 : jmI (jm 10) 0 = (.bipush 6, 2) := by rfl
theorem jI_10_4 : jmI (jm 10) 4 = (.astore 7, 2) := by rfl
theorem jI_10_6 : jmI (jm 10) 6 = (.iconst 0, 1) := by rfl
theorem jI_10_7 : jmI (jm 10) 7 = (.istore 8, 2) := by rfl
theorem jI_10_9 : jmI (jm 10) 9 = (.iload 8, 2) := by rfl
theorem jI_10_11 : jmI (jm 10) 11 = (.bipush 6, 2) := by rfl
theorem jI_10_13 : jmI (jm 10) 13 = (.if_icmp .ge 23, 3) := by rfl
theorem jI_10_16 : jmI (jm 10) 16 = (.aload 7, 2) := by rfl
theorem jI_10_18 : jmI (jm 10) 18 = (.iload 8, 2) := by rfl
theorem jI_10_20 : jmI (jm 10) 20 = (.aload_n 0, 1) := by rfl
theorem jI_10_21 : jmI (jm 10) 21 = (.getfield 9, 3) := by rfl
theorem jI_10_24 : jmI (jm 10) 24 = (.iload 8, 2) := by rfl
theorem jI_10_26 : jmI (jm 10) 26 = (.laload, 1) := by rfl
theorem jI_10_27 : jmI (jm 10) 27 = (.lload_n 1, 1) := by rfl
theorem jI_10_28 : jmI (jm 10) 28 = (.lmul, 1) := by rfl
theorem jI_10_30 : jmI (jm 10) 30 = (.iinc 8 1, 3) := by rfl
theorem jI_10_33 : jmI (jm 10) 33 = (.goto (-24), 3) := by rfl
theorem jI_10_36 : jmI (jm 10) 36 = (.aload 7, 2) := by rfl
theorem jI_10_38 : jmI (jm 10) 38 = (.iconst 0, 1) := by rfl
theorem jI_10_40 : jmI (jm 10) 40 = (.laload, 1) := by rfl
theorem jI_10_41 : jmI (jm 10) 41 = (.lload 5, 2) := by rfl
theorem jI_10_43 : jmI (jm 10) 43 = (.aload_n 0, 1) := by rfl
theorem jI_10_44 : jmI (jm 10) 44 = (.getfield 19, 3) := by rfl
theorem jI_10_47 : jmI (jm 10) 47 = (.lmul, 1) := by rfl
theorem jI_10_48 : jmI (jm 10) 48 = (.lload_n 3, 1) := by rfl
theorem jI_10_49 : jmI (jm 10) 49 = (.lmul, 1) := by rfl
theorem jI_10_50 : jmI (jm 10) 50 = (.ladd, 1) := by rfl
def jpA_331 : List JC := [(4, [(4, 1), (1, 1)], []), (101, [], [0, 0, 0, 0, 0, 0]), (101, [], [0, 0, 0, 0, 0, 0]), (4, [(4, (-1)), (1, 0)], [])]
theorem jI_10_56 : jmI (jm 10) 56 = (.aload 7, 2) := by rfl
theorem jI_10_58 : jmI (jm 10) 58 = (.aload_n 0, 1) := by rfl
theorem jI_10_59 : jmI (jm 10) 59 = (.getfield 19, 3) := by rfl
theorem jI_10_62 : jmI (jm 10) 62 = (.lload_n 3, 1) := by rfl
theorem jI_10_63 : jmI (jm 10) 63 = (.lmul, 1) := by rfl
def jpA_337 : List JC := [(4, [(4, 1), (1, 1)], []), (101, [], [0, 0, 0, 0, 0, 0]), (101, [], [0, 0, 0, 0, 0, 0]), (4, [(4, 2), (1, 1)], [])]
theorem jA_10_84 {xs : List Int} {d : Nat} {x2 : Int} (h_x2 : (-100) ≤ x2 ∧ x2 ≤ 100) : jT xs (d + 2) 10 2 0 [(0, (4, 0)), (1, (1, x2)), (3, (1, 1)), (5, (1, 0))] [] [(4, [(4, 1), (1, 1)], []), (101, [], [0, 0, 0, 0, 0, 0])] 2 8 (fun k v hs' => k = 0 ∧ v = (4, 3) ∧ hs' = [(4, [(4, 1), (1, 1)], []), (101, [], [0, 0, 0, 0, 0, 0])] ++ [(101, [], [0, 0, 0, 0, 0, 0]), (4, [(4, 2), (1, 1)], [])]) := by
  refine jT_xbipush (k := 6) (pc' := 2) jI_10_0 (by decide) rfl ?_
  refine jT_adv 1 (pc' := 4) (L' := [(0, (4, 0)), (1, (1, x2)), (3, (1, 1)), (5, (1, 0))]) (st' := [(4, 2)]) (hs' := [(4, [(4, 1), (1, 1)], []), (101, [], [0, 0, 0, 0, 0, 0]), (101, [], [0, 0, 0, 0, 0, 0])]) (c1 := 1) (s1 := 6) (c2 := 1) (s2 := 2) (by exact rfl) ?_ (by omega) (by omega)
  refine jT_xastore (v := (4, 2)) (L' := [(7, (4, 2)), (0, (4, 0)), (1, (1, x2)), (3, (1, 1)), (5, (1, 0))]) (pc' := 6) jI_10_4 rfl rfl rfl rfl ?_
  refine jT_xiconst (k := 0) (pc' := 7) jI_10_6 rfl ?_
  refine jT_xistore (v := (0, 0)) (L' := [(8, (0, 0)), (7, (4, 2)), (0, (4, 0)), (1, (1, x2)), (3, (1, 1)), (5, (1, 0))]) (pc' := 9) jI_10_7 rfl rfl rfl rfl ?_
  refine jT_xiload (v := (0, 0)) (pc' := 11) jI_10_9 rfl rfl rfl ?_
  refine jT_xbipush (k := 6) (pc' := 13) jI_10_11 (by decide) rfl ?_
  refine jT_xicF (t := 36) (pc' := 16) jI_10_13 rfl (by decide +kernel) rfl rfl ?_
  refine jT_xaload (v := (4, 2)) (pc' := 18) jI_10_16 rfl rfl rfl ?_
  refine jT_xiload (v := (0, 0)) (pc' := 20) jI_10_18 rfl rfl rfl ?_
  refine jT_xaload_n (v := (4, 0)) (pc' := 21) jI_10_20 rfl rfl rfl ?_
  refine jT_xgetf (a := 0) (t := 1) (ci := 4) (fi := 0) (c := (4, [(4, 1), (1, 1)], [])) (v := (4, 1)) (pc' := 24) jI_10_21 rfl rfl rfl rfl rfl rfl rfl ?_
  refine jT_xiload (v := (0, 0)) (pc' := 26) jI_10_24 rfl rfl rfl ?_
  refine jT_lald (x := 0) (a := 1) (j := 0) (fs := []) (X := [0, 0, 0, 0, 0, 0]) jI_10_26 rfl rfl rfl rfl ?_
  refine jT_eq (L' := [(8, (0, 0)), (7, (4, 2)), (0, (4, 0)), (1, (1, x2)), (3, (1, 1)), (5, (1, 0))]) (st' := [(1, 0), (0, 0), (4, 2)]) (hs' := [(4, [(4, 1), (1, 1)], []), (101, [], [0, 0, 0, 0, 0, 0]), (101, [], [0, 0, 0, 0, 0, 0])]) rfl rfl rfl ?_
  refine jT_xlload_n (v := (1, x2)) (pc' := 28) jI_10_27 rfl rfl rfl ?_
  refine jT_xlmul (x := 0) (y := x2) (z := 0) (pc' := 29) jI_10_28 rfl (by omega) rfl ?_
  refine jT_adv 1 (pc' := 30) (L' := [(8, (0, 0)), (7, (4, 2)), (0, (4, 0)), (1, (1, x2)), (3, (1, 1)), (5, (1, 0))]) (st' := []) (hs' := [(4, [(4, 1), (1, 1)], []), (101, [], [0, 0, 0, 0, 0, 0]), (101, [], [0, 0, 0, 0, 0, 0])]) (c1 := 0) (s1 := 0) (c2 := 1) (s2 := 2) (by exact rfl) ?_ (by omega) (by omega)
  refine jT_xiinc (x := 0) (z := 1) (L' := [(8, (0, 1)), (7, (4, 2)), (0, (4, 0)), (1, (1, x2)), (3, (1, 1)), (5, (1, 0))]) (pc' := 33) jI_10_30 rfl rfl (by decide) rfl rfl ?_
  refine jT_xgoto (pc' := 9) jI_10_33 rfl ?_
  refine jT_xiload (v := (0, 1)) (pc' := 11) jI_10_9 rfl rfl rfl ?_
  refine jT_xbipush (k := 6) (pc' := 13) jI_10_11 (by decide) rfl ?_
  refine jT_xicF (t := 36) (pc' := 16) jI_10_13 rfl (by decide +kernel) rfl rfl ?_
  refine jT_xaload (v := (4, 2)) (pc' := 18) jI_10_16 rfl rfl rfl ?_
  refine jT_xiload (v := (0, 1)) (pc' := 20) jI_10_18 rfl rfl rfl ?_
  refine jT_xaload_n (v := (4, 0)) (pc' := 21) jI_10_20 rfl rfl rfl ?_
  refine jT_xgetf (a := 0) (t := 1) (ci := 4) (fi := 0) (c := (4, [(4, 1), (1, 1)], [])) (v := (4, 1)) (pc' := 24) jI_10_21 rfl rfl rfl rfl rfl rfl rfl ?_
  refine jT_xiload (v := (0, 1)) (pc' := 26) jI_10_24 rfl rfl rfl ?_
  refine jT_lald (x := 0) (a := 1) (j := 1) (fs := []) (X := [0, 0, 0, 0, 0, 0]) jI_10_26 rfl rfl rfl rfl ?_
  refine jT_eq (L' := [(8, (0, 1)), (7, (4, 2)), (0, (4, 0)), (1, (1, x2)), (3, (1, 1)), (5, (1, 0))]) (st' := [(1, 0), (0, 1), (4, 2)]) (hs' := [(4, [(4, 1), (1, 1)], []), (101, [], [0, 0, 0, 0, 0, 0]), (101, [], [0, 0, 0, 0, 0, 0])]) rfl rfl rfl ?_
  refine jT_xlload_n (v := (1, x2)) (pc' := 28) jI_10_27 rfl rfl rfl ?_
  refine jT_xlmul (x := 0) (y := x2) (z := 0) (pc' := 29) jI_10_28 rfl (by omega) rfl ?_
  refine jT_adv 1 (pc' := 30) (L' := [(8, (0, 1)), (7, (4, 2)), (0, (4, 0)), (1, (1, x2)), (3, (1, 1)), (5, (1, 0))]) (st' := []) (hs' := [(4, [(4, 1), (1, 1)], []), (101, [], [0, 0, 0, 0, 0, 0]), (101, [], [0, 0, 0, 0, 0, 0])]) (c1 := 0) (s1 := 0) (c2 := 1) (s2 := 2) (by exact rfl) ?_ (by omega) (by omega)
  refine jT_xiinc (x := 1) (z := 2) (L' := [(8, (0, 2)), (7, (4, 2)), (0, (4, 0)), (1, (1, x2)), (3, (1, 1)), (5, (1, 0))]) (pc' := 33) jI_10_30 rfl rfl (by decide) rfl rfl ?_
  refine jT_xgoto (pc' := 9) jI_10_33 rfl ?_
  refine jT_xiload (v := (0, 2)) (pc' := 11) jI_10_9 rfl rfl rfl ?_
  refine jT_xbipush (k := 6) (pc' := 13) jI_10_11 (by decide) rfl ?_
  refine jT_xicF (t := 36) (pc' := 16) jI_10_13 rfl (by decide +kernel) rfl rfl ?_
  refine jT_xaload (v := (4, 2)) (pc' := 18) jI_10_16 rfl rfl rfl ?_
  refine jT_xiload (v := (0, 2)) (pc' := 20) jI_10_18 rfl rfl rfl ?_
  refine jT_xaload_n (v := (4, 0)) (pc' := 21) jI_10_20 rfl rfl rfl ?_
  refine jT_xgetf (a := 0) (t := 1) (ci := 4) (fi := 0) (c := (4, [(4, 1), (1, 1)], [])) (v := (4, 1)) (pc' := 24) jI_10_21 rfl rfl rfl rfl rfl rfl rfl ?_
  refine jT_xiload (v := (0, 2)) (pc' := 26) jI_10_24 rfl rfl rfl ?_
  refine jT_lald (x := 0) (a := 1) (j := 2) (fs := []) (X := [0, 0, 0, 0, 0, 0]) jI_10_26 rfl rfl rfl rfl ?_
  refine jT_eq (L' := [(8, (0, 2)), (7, (4, 2)), (0, (4, 0)), (1, (1, x2)), (3, (1, 1)), (5, (1, 0))]) (st' := [(1, 0), (0, 2), (4, 2)]) (hs' := [(4, [(4, 1), (1, 1)], []), (101, [], [0, 0, 0, 0, 0, 0]), (101, [], [0, 0, 0, 0, 0, 0])]) rfl rfl rfl ?_
  refine jT_xlload_n (v := (1, x2)) (pc' := 28) jI_10_27 rfl rfl rfl ?_
  refine jT_xlmul (x := 0) (y := x2) (z := 0) (pc' := 29) jI_10_28 rfl (by omega) rfl ?_
  refine jT_adv 1 (pc' := 30) (L' := [(8, (0, 2)), (7, (4, 2)), (0, (4, 0)), (1, (1, x2)), (3, (1, 1)), (5, (1, 0))]) (st' := []) (hs' := [(4, [(4, 1), (1, 1)], []), (101, [], [0, 0, 0, 0, 0, 0]), (101, [], [0, 0, 0, 0, 0, 0])]) (c1 := 0) (s1 := 0) (c2 := 1) (s2 := 2) (by exact rfl) ?_ (by omega) (by omega)
  refine jT_xiinc (x := 2) (z := 3) (L' := [(8, (0, 3)), (7, (4, 2)), (0, (4, 0)), (1, (1, x2)), (3, (1, 1)), (5, (1, 0))]) (pc' := 33) jI_10_30 rfl rfl (by decide) rfl rfl ?_
  refine jT_xgoto (pc' := 9) jI_10_33 rfl ?_
  refine jT_xiload (v := (0, 3)) (pc' := 11) jI_10_9 rfl rfl rfl ?_
  refine jT_xbipush (k := 6) (pc' := 13) jI_10_11 (by decide) rfl ?_
  refine jT_xicF (t := 36) (pc' := 16) jI_10_13 rfl (by decide +kernel) rfl rfl ?_
  refine jT_xaload (v := (4, 2)) (pc' := 18) jI_10_16 rfl rfl rfl ?_
  refine jT_xiload (v := (0, 3)) (pc' := 20) jI_10_18 rfl rfl rfl ?_
  refine jT_xaload_n (v := (4, 0)) (pc' := 21) jI_10_20 rfl rfl rfl ?_
  refine jT_xgetf (a := 0) (t := 1) (ci := 4) (fi := 0) (c := (4, [(4, 1), (1, 1)], [])) (v := (4, 1)) (pc' := 24) jI_10_21 rfl rfl rfl rfl rfl rfl rfl ?_
  refine jT_xiload (v := (0, 3)) (pc' := 26) jI_10_24 rfl rfl rfl ?_
  refine jT_lald (x := 0) (a := 1) (j := 3) (fs := []) (X := [0, 0, 0, 0, 0, 0]) jI_10_26 rfl rfl rfl rfl ?_
  refine jT_eq (L' := [(8, (0, 3)), (7, (4, 2)), (0, (4, 0)), (1, (1, x2)), (3, (1, 1)), (5, (1, 0))]) (st' := [(1, 0), (0, 3), (4, 2)]) (hs' := [(4, [(4, 1), (1, 1)], []), (101, [], [0, 0, 0, 0, 0, 0]), (101, [], [0, 0, 0, 0, 0, 0])]) rfl rfl rfl ?_
  refine jT_xlload_n (v := (1, x2)) (pc' := 28) jI_10_27 rfl rfl rfl ?_
  refine jT_xlmul (x := 0) (y := x2) (z := 0) (pc' := 29) jI_10_28 rfl (by omega) rfl ?_
  refine jT_adv 1 (pc' := 30) (L' := [(8, (0, 3)), (7, (4, 2)), (0, (4, 0)), (1, (1, x2)), (3, (1, 1)), (5, (1, 0))]) (st' := []) (hs' := [(4, [(4, 1), (1, 1)], []), (101, [], [0, 0, 0, 0, 0, 0]), (101, [], [0, 0, 0, 0, 0, 0])]) (c1 := 0) (s1 := 0) (c2 := 1) (s2 := 2) (by exact rfl) ?_ (by omega) (by omega)
  refine jT_xiinc (x := 3) (z := 4) (L' := [(8, (0, 4)), (7, (4, 2)), (0, (4, 0)), (1, (1, x2)), (3, (1, 1)), (5, (1, 0))]) (pc' := 33) jI_10_30 rfl rfl (by decide) rfl rfl ?_
  refine jT_xgoto (pc' := 9) jI_10_33 rfl ?_
  refine jT_xiload (v := (0, 4)) (pc' := 11) jI_10_9 rfl rfl rfl ?_
  refine jT_xbipush (k := 6) (pc' := 13) jI_10_11 (by decide) rfl ?_
  refine jT_xicF (t := 36) (pc' := 16) jI_10_13 rfl (by decide +kernel) rfl rfl ?_
  refine jT_xaload (v := (4, 2)) (pc' := 18) jI_10_16 rfl rfl rfl ?_
  refine jT_xiload (v := (0, 4)) (pc' := 20) jI_10_18 rfl rfl rfl ?_
  refine jT_xaload_n (v := (4, 0)) (pc' := 21) jI_10_20 rfl rfl rfl ?_
  refine jT_xgetf (a := 0) (t := 1) (ci := 4) (fi := 0) (c := (4, [(4, 1), (1, 1)], [])) (v := (4, 1)) (pc' := 24) jI_10_21 rfl rfl rfl rfl rfl rfl rfl ?_
  refine jT_xiload (v := (0, 4)) (pc' := 26) jI_10_24 rfl rfl rfl ?_
  refine jT_lald (x := 0) (a := 1) (j := 4) (fs := []) (X := [0, 0, 0, 0, 0, 0]) jI_10_26 rfl rfl rfl rfl ?_
  refine jT_eq (L' := [(8, (0, 4)), (7, (4, 2)), (0, (4, 0)), (1, (1, x2)), (3, (1, 1)), (5, (1, 0))]) (st' := [(1, 0), (0, 4), (4, 2)]) (hs' := [(4, [(4, 1), (1, 1)], []), (101, [], [0, 0, 0, 0, 0, 0]), (101, [], [0, 0, 0, 0, 0, 0])]) rfl rfl rfl ?_
  refine jT_xlload_n (v := (1, x2)) (pc' := 28) jI_10_27 rfl rfl rfl ?_
  refine jT_xlmul (x := 0) (y := x2) (z := 0) (pc' := 29) jI_10_28 rfl (by omega) rfl ?_
  refine jT_adv 1 (pc' := 30) (L' := [(8, (0, 4)), (7, (4, 2)), (0, (4, 0)), (1, (1, x2)), (3, (1, 1)), (5, (1, 0))]) (st' := []) (hs' := [(4, [(4, 1), (1, 1)], []), (101, [], [0, 0, 0, 0, 0, 0]), (101, [], [0, 0, 0, 0, 0, 0])]) (c1 := 0) (s1 := 0) (c2 := 1) (s2 := 2) (by exact rfl) ?_ (by omega) (by omega)
  refine jT_xiinc (x := 4) (z := 5) (L' := [(8, (0, 5)), (7, (4, 2)), (0, (4, 0)), (1, (1, x2)), (3, (1, 1)), (5, (1, 0))]) (pc' := 33) jI_10_30 rfl rfl (by decide) rfl rfl ?_
  refine jT_xgoto (pc' := 9) jI_10_33 rfl ?_
  refine jT_xiload (v := (0, 5)) (pc' := 11) jI_10_9 rfl rfl rfl ?_
  refine jT_xbipush (k := 6) (pc' := 13) jI_10_11 (by decide) rfl ?_
  refine jT_xicF (t := 36) (pc' := 16) jI_10_13 rfl (by decide +kernel) rfl rfl ?_
  refine jT_xaload (v := (4, 2)) (pc' := 18) jI_10_16 rfl rfl rfl ?_
  refine jT_xiload (v := (0, 5)) (pc' := 20) jI_10_18 rfl rfl rfl ?_
  refine jT_xaload_n (v := (4, 0)) (pc' := 21) jI_10_20 rfl rfl rfl ?_
  refine jT_xgetf (a := 0) (t := 1) (ci := 4) (fi := 0) (c := (4, [(4, 1), (1, 1)], [])) (v := (4, 1)) (pc' := 24) jI_10_21 rfl rfl rfl rfl rfl rfl rfl ?_
  refine jT_xiload (v := (0, 5)) (pc' := 26) jI_10_24 rfl rfl rfl ?_
  refine jT_lald (x := 0) (a := 1) (j := 5) (fs := []) (X := [0, 0, 0, 0, 0, 0]) jI_10_26 rfl rfl rfl rfl ?_
  refine jT_eq (L' := [(8, (0, 5)), (7, (4, 2)), (0, (4, 0)), (1, (1, x2)), (3, (1, 1)), (5, (1, 0))]) (st' := [(1, 0), (0, 5), (4, 2)]) (hs' := [(4, [(4, 1), (1, 1)], []), (101, [], [0, 0, 0, 0, 0, 0]), (101, [], [0, 0, 0, 0, 0, 0])]) rfl rfl rfl ?_
  refine jT_xlload_n (v := (1, x2)) (pc' := 28) jI_10_27 rfl rfl rfl ?_
  refine jT_xlmul (x := 0) (y := x2) (z := 0) (pc' := 29) jI_10_28 rfl (by omega) rfl ?_
  refine jT_adv 1 (pc' := 30) (L' := [(8, (0, 5)), (7, (4, 2)), (0, (4, 0)), (1, (1, x2)), (3, (1, 1)), (5, (1, 0))]) (st' := []) (hs' := [(4, [(4, 1), (1, 1)], []), (101, [], [0, 0, 0, 0, 0, 0]), (101, [], [0, 0, 0, 0, 0, 0])]) (c1 := 0) (s1 := 0) (c2 := 1) (s2 := 2) (by exact rfl) ?_ (by omega) (by omega)
  refine jT_xiinc (x := 5) (z := 6) (L' := [(8, (0, 6)), (7, (4, 2)), (0, (4, 0)), (1, (1, x2)), (3, (1, 1)), (5, (1, 0))]) (pc' := 33) jI_10_30 rfl rfl (by decide) rfl rfl ?_
  refine jT_xgoto (pc' := 9) jI_10_33 rfl ?_
  refine jT_xiload (v := (0, 6)) (pc' := 11) jI_10_9 rfl rfl rfl ?_
  refine jT_xbipush (k := 6) (pc' := 13) jI_10_11 (by decide) rfl ?_
  refine jT_xicT (pc' := 36) jI_10_13 rfl (by decide +kernel) rfl ?_
  refine jT_xaload (v := (4, 2)) (pc' := 38) jI_10_36 rfl rfl rfl ?_
  refine jT_xiconst (k := 0) (pc' := 39) jI_10_38 rfl ?_
  refine jT_adv 1 (pc' := 40) (L' := [(8, (0, 6)), (7, (4, 2)), (0, (4, 0)), (1, (1, x2)), (3, (1, 1)), (5, (1, 0))]) (st' := [(0, 0), (4, 2), (0, 0), (4, 2)]) (hs' := [(4, [(4, 1), (1, 1)], []), (101, [], [0, 0, 0, 0, 0, 0]), (101, [], [0, 0, 0, 0, 0, 0])]) (c1 := 0) (s1 := 0) (c2 := 1) (s2 := 2) (by exact rfl) ?_ (by omega) (by omega)
  refine jT_lald (x := 0) (a := 2) (j := 0) (fs := []) (X := [0, 0, 0, 0, 0, 0]) jI_10_40 rfl rfl rfl rfl ?_
  refine jT_eq (L' := [(8, (0, 6)), (7, (4, 2)), (0, (4, 0)), (1, (1, x2)), (3, (1, 1)), (5, (1, 0))]) (st' := [(1, 0), (0, 0), (4, 2)]) (hs' := [(4, [(4, 1), (1, 1)], []), (101, [], [0, 0, 0, 0, 0, 0]), (101, [], [0, 0, 0, 0, 0, 0])]) rfl rfl rfl ?_
  refine jT_xlload (v := (1, 0)) (pc' := 43) jI_10_41 rfl rfl rfl ?_
  refine jT_xaload_n (v := (4, 0)) (pc' := 44) jI_10_43 rfl rfl rfl ?_
  refine jT_xgetf (a := 0) (t := 1) (ci := 4) (fi := 1) (c := (4, [(4, 1), (1, 1)], [])) (v := (1, 1)) (pc' := 47) jI_10_44 rfl rfl rfl rfl rfl rfl rfl ?_
  refine jT_xlmul (x := 0) (y := 1) (z := 0) (pc' := 48) jI_10_47 rfl (by decide) rfl ?_
  refine jT_xlload_n (v := (1, 1)) (pc' := 49) jI_10_48 rfl rfl rfl ?_
  refine jT_xlmul (x := 0) (y := 1) (z := 0) (pc' := 50) jI_10_49 rfl (by decide) rfl ?_
  refine jT_xladd (x := 0) (y := 0) (z := 0) (pc' := 51) jI_10_50 rfl (by decide) rfl ?_
  refine jT_adv 3 (pc' := 56) (L' := [(8, (0, 6)), (7, (4, 2)), (0, (4, 0)), (1, (1, x2)), (3, (1, 1)), (5, (1, 0))]) (st' := [(4, 3), (4, 3)]) (hs' := jpA_331) (c1 := 1) (s1 := 2) (c2 := 0) (s2 := 0) (by exact rfl) ?_ (by omega) (by omega)
  refine jT_xaload (v := (4, 2)) (pc' := 58) jI_10_56 rfl rfl rfl ?_
  refine jT_xaload_n (v := (4, 0)) (pc' := 59) jI_10_58 rfl rfl rfl ?_
  refine jT_xgetf (a := 0) (t := 1) (ci := 4) (fi := 1) (c := (4, [(4, 1), (1, 1)], [])) (v := (1, 1)) (pc' := 62) jI_10_59 rfl rfl rfl rfl rfl rfl rfl ?_
  refine jT_xlload_n (v := (1, 1)) (pc' := 63) jI_10_62 rfl rfl rfl ?_
  refine jT_xlmul (x := 1) (y := 1) (z := 1) (pc' := 64) jI_10_63 rfl (by decide) rfl ?_
  refine jT_fB [3, 2] 4 (y := 9) (pc' := 67) (dC := 1) (bc1 := 0) (bc2 := 0) (c1 := 0) (c2 := 0) (as := [(4, 3), (4, 2), (1, 1)]) (asC := [(4, 0), (4, 1), (1, 1)]) (L' := [(8, (0, 6)), (7, (4, 2)), (0, (4, 0)), (1, (1, x2)), (3, (1, 1)), (5, (1, 0))]) (st' := [(4, 3)]) (hsC := [(4, [(4, (-1)), (1, 0)], []), (101, [], [0, 0, 0, 0, 0, 0])]) (hsD := [(4, [(4, 1), (1, 1)], []), (101, [], [0, 0, 0, 0, 0, 0])]) (v := (9, 0)) (st2 := [(4, 3)]) (hs2 := jpA_337) (jA_9_19 (d := 0)) (by rfl) (by rfl) (by decide +kernel) (by rfl) (by rfl) (by omega) (by omega) (by omega) (by omega) rfl (by decide +kernel) ?_
  exact jT_ret rfl (by decide) (by show 2 ≤ 4; decide) (by omega) (by omega) ⟨rfl, rfl, rfl⟩
theorem jA_16_85 {xs : List Int} {d : Nat} : jT xs d 16 2 0 [(0, (4, 0))] [] [(4, [(4, 1), (1, 1)], []), (101, [], [0, 0, 0, 0, 0, 0])] 0 0 (fun k v hs' => k = 0 ∧ v = (1, 0) ∧ hs' = [(4, [(4, 1), (1, 1)], []), (101, [], [0, 0, 0, 0, 0, 0])] ++ []) := by
  refine jT_advK 86 (pc' := 31) (L' := [(3, (0, 6)), (1, (1, 0)), (0, (4, 0))]) (st' := [(1, 0)]) (hs' := [(4, [(4, 1), (1, 1)], []), (101, [], [0, 0, 0, 0, 0, 0])]) (c1 := 0) (s1 := 0) (c2 := 0) (s2 := 0) (by decide +kernel) ?_ (by omega) (by omega)
  exact jT_ret rfl (by decide) (by show 2 ≤ 2; decide) (by omega) (by omega) ⟨rfl, rfl, rfl⟩
theorem jA_15_86 {xs : List Int} {d : Nat} : jT xs (d + 1) 15 2 0 [(0, (4, 0))] [] [(4, [(4, 1), (1, 1)], []), (101, [], [0, 0, 0, 0, 0, 0])] 0 0 (fun k v hs' => k = 0 ∧ v = (0, 1) ∧ hs' = [(4, [(4, 1), (1, 1)], []), (101, [], [0, 0, 0, 0, 0, 0])] ++ []) := by
  refine jT_advK 6 (pc' := 12) (L' := [(0, (4, 0))]) (st' := [(4, 0)]) (hs' := [(4, [(4, 1), (1, 1)], []), (101, [], [0, 0, 0, 0, 0, 0])]) (c1 := 0) (s1 := 0) (c2 := 0) (s2 := 0) (by decide +kernel) ?_ (by omega) (by omega)
  refine jT_fR [0, 1] 2 (y := 16) (pc' := 15) (dC := 0) (bc1 := 0) (bc2 := 0) (c1 := 0) (c2 := 0) (as := [(4, 0)]) (asC := [(4, 0)]) (L' := [(0, (4, 0))]) (st' := []) (hsC := [(4, [(4, 1), (1, 1)], []), (101, [], [0, 0, 0, 0, 0, 0])]) (v := (1, 0)) (st2 := [(1, 0)]) (jA_16_85 (d := 0)) (by rfl) (by rfl) (by decide +kernel) (by rfl) (by rfl) (by omega) (by omega) (by omega) (by omega) rfl ?_
  refine jT_advK 5 (pc' := 27) (L' := [(0, (4, 0))]) (st' := [(0, 1)]) (hs' := [(4, [(4, 1), (1, 1)], []), (101, [], [0, 0, 0, 0, 0, 0])]) (c1 := 0) (s1 := 0) (c2 := 0) (s2 := 0) (by decide +kernel) ?_ (by omega) (by omega)
  exact jT_ret rfl (by decide) (by show 2 ≤ 2; decide) (by omega) (by omega) ⟨rfl, rfl, rfl⟩
theorem jA_117_87 {xs : List Int} {d : Nat} : jT xs (d + 2) 117 3 0 [(0, (4, 0)), (1, (4, 1))] [] [jgh, (4, [(4, 2), (1, 1)], []), (101, [], [0, 0, 0, 0, 0, 0])] 0 0 (fun k v hs' => k = 0 ∧ v = (9, 0) ∧ hs' = [jgh, (4, [(4, 2), (1, 1)], []), (101, [], [0, 0, 0, 0, 0, 0])] ++ []) := by
  refine jT_advK 3 (pc' := 5) (L' := [(0, (4, 0)), (1, (4, 1))]) (st' := [(4, 1)]) (hs' := [jgh, (4, [(4, 2), (1, 1)], []), (101, [], [0, 0, 0, 0, 0, 0])]) (c1 := 0) (s1 := 0) (c2 := 0) (s2 := 0) (by decide +kernel) ?_ (by omega) (by omega)
  refine jT_fR [1, 2] 3 (y := 15) (pc' := 8) (dC := 1) (bc1 := 0) (bc2 := 0) (c1 := 0) (c2 := 0) (as := [(4, 1)]) (asC := [(4, 0)]) (L' := [(0, (4, 0)), (1, (4, 1))]) (st' := []) (hsC := [(4, [(4, 1), (1, 1)], []), (101, [], [0, 0, 0, 0, 0, 0])]) (v := (0, 1)) (st2 := [(0, 1)]) (jA_15_86 (d := 0)) (by rfl) (by rfl) (by decide +kernel) (by rfl) (by rfl) (by omega) (by omega) (by omega) (by omega) rfl ?_
  refine jT_advK 1 (pc' := 22) (L' := [(0, (4, 0)), (1, (4, 1))]) (st' := []) (hs' := [jgh, (4, [(4, 2), (1, 1)], []), (101, [], [0, 0, 0, 0, 0, 0])]) (c1 := 0) (s1 := 0) (c2 := 0) (s2 := 0) (by decide +kernel) ?_ (by omega) (by omega)
  exact jT_ret rfl (by decide) (by show 3 ≤ 3; decide) (by omega) (by omega) ⟨rfl, rfl, rfl⟩
theorem jA_58_88 {xs : List Int} {d : Nat} {x1 : Int} (h_x1 : 0 ≤ x1 ∧ x1 ≤ 7) : jT xs (d + 1) 58 9 0 [(0, (4, 0)), (1, (0, x1)), (2, (4, 1))] [] jpA_83 2 13 (fun k v hs' => k = 0 ∧ v = (4, 10) ∧ hs' = jpA_83 ++ [jgh, jzA_81]) := by
  refine jT_xaload_n (v := (4, 0)) (pc' := 1) jI_58_0 rfl rfl rfl ?_
  refine jT_xgetf (a := 0) (t := 1) (ci := 9) (fi := 0) (c := jzA_64) (v := (4, 2)) (pc' := 4) jI_58_1 rfl rfl rfl rfl rfl rfl rfl ?_
  refine jT_adv 2 (pc' := 10) (L' := [(0, (4, 0)), (1, (0, x1)), (2, (4, 1))]) (st' := [(4, 9)]) (hs' := jpA_65) (c1 := 1) (s1 := 8) (c2 := 1) (s2 := 5) (by exact rfl) ?_ (by omega) (by omega)
  refine jT_xastore_n (v := (4, 9)) (L' := [(3, (4, 9)), (0, (4, 0)), (1, (0, x1)), (2, (4, 1))]) (pc' := 11) jI_58_10 rfl rfl rfl rfl ?_
  refine jT_xaload_n (v := (4, 9)) (pc' := 12) jI_58_11 rfl rfl rfl ?_
  refine jT_xiload_n (v := (0, x1)) (pc' := 13) jI_58_12 rfl rfl rfl ?_
  refine jT_xaload_n (v := (4, 1)) (pc' := 14) jI_58_13 rfl rfl rfl ?_
  refine jT_aastG (kd := 114) (a := 9) (b := 1) (j := (x1).toNat) (fs := []) (X := [8, 8, 8, 8, 8, 8, 8, 8]) (e := (4, [(4, 7), (1, 1)], [])) (by rfl) (by rfl) (by rfl) (jw_nn (by omega) (by omega)) (by show (x1).toNat < 8; omega) (by rfl) (by rfl) (by rfl) ?_
  refine jT_eq (L' := [(3, (4, 9)), (0, (4, 0)), (1, (0, x1)), (2, (4, 1))]) (st' := []) (hs' := jpA_70) rfl rfl rfl ?_
  refine jT_adv 2 (pc' := 19) (L' := [(3, (4, 9)), (0, (4, 0)), (1, (0, x1)), (2, (4, 1))]) (st' := [(4, 10), (4, 10)]) (hs' := jpA_71) (c1 := 1) (s1 := 5) (c2 := 0) (s2 := 0) (by exact rfl) ?_ (by omega) (by omega)
  refine jT_xaload_n (v := (4, 9)) (pc' := 20) jI_58_19 rfl rfl rfl ?_
  refine jT_xaload_n (v := (4, 0)) (pc' := 21) jI_58_20 rfl rfl rfl ?_
  refine jT_xgetf (a := 0) (t := 1) (ci := 9) (fi := 1) (c := jzA_64) (v := (4, 3)) (pc' := 24) jI_58_21 rfl rfl rfl rfl rfl rfl rfl ?_
  refine jT_xaload_n (v := (4, 0)) (pc' := 25) jI_58_24 rfl rfl rfl ?_
  refine jT_xgetf (a := 0) (t := 1) (ci := 9) (fi := 2) (c := jzA_64) (v := (4, 4)) (pc' := 28) jI_58_25 rfl rfl rfl rfl rfl rfl rfl ?_
  refine jT_xaload_n (v := (4, 0)) (pc' := 29) jI_58_28 rfl rfl rfl ?_
  refine jT_xgetf (a := 0) (t := 1) (ci := 9) (fi := 3) (c := jzA_64) (v := (4, 5)) (pc' := 32) jI_58_29 rfl rfl rfl rfl rfl rfl rfl ?_
  refine jT_xaload_n (v := (4, 0)) (pc' := 33) jI_58_32 rfl rfl rfl ?_
  refine jT_xgetf (a := 0) (t := 1) (ci := 9) (fi := 4) (c := jzA_64) (v := (4, 6)) (pc' := 36) jI_58_33 rfl rfl rfl rfl rfl rfl rfl ?_
  refine jT_fB [10, 9, 3, 4, 5, 6] 11 (y := 53) (pc' := 39) (dC := 0) (bc1 := 0) (bc2 := 0) (c1 := 0) (c2 := 0) (as := [(4, 10), (4, 9), (4, 3), (4, 4), (4, 5), (4, 6)]) (asC := [(4, 0), (4, 1), (4, 2), (4, 3), (4, 4), (4, 5)]) (L' := [(3, (4, 9)), (0, (4, 0)), (1, (0, x1)), (2, (4, 1))]) (st' := [(4, 10)]) (hsC := jpA_61) (hsD := jpA_59) (v := (9, 0)) (st2 := [(4, 10)]) (hs2 := jpA_82) (jA_53_22 (d := 0)) (by rfl) (by rfl) (by decide +kernel) (by rfl) (by rfl) (by omega) (by omega) (by omega) (by omega) rfl (by decide +kernel) ?_
  exact jT_ret rfl (by decide) (by show 9 ≤ 11; decide) (by omega) (by omega) ⟨rfl, rfl, rfl⟩
theorem jI_120_24 : jmI (jm 120) 24 = (.aload_n 0, 1) := by rfl
theorem jI_120_25 : jmI (jm 120) 25 = (.getfield 67, 3) := by rfl
theorem jI_120_28 : jmI (jm 120) 28 = (.iload_n 1, 1) := by rfl
theorem jI_120_32 : jmI (jm 120) 32 = (.iload_n 2, 1) := by rfl
theorem jI_120_33 : jmI (jm 120) 33 = (.i2l, 1) := by rfl
theorem jI_120_34 : jmI (jm 120) 34 = (.iload_n 3, 1) := by rfl
theorem jI_120_35 : jmI (jm 120) 35 = (.i2l, 1) := by rfl
theorem jI_120_36 : jmI (jm 120) 36 = (.lconst 0, 1) := by rfl
def jzA_346 : JC := (114, [], [17, 17, 17, 17, 17, 17, 17, 17])
def jpA_347 : List JC := [jzA_8, jgh, jgh, jgh, jgh, jgh, jgh, jgh, jgh, jgh, jzA_87, jzA_10, jzA_346, jgh, jgh, jgh, jgh, (4, [(4, 18), (1, 1)], []), (101, [], [0, 0, 0, 0, 0, 0]), (101, [], [0, 0, 0, 0, 0, 0]), (4, [(4, 19), (1, 1)], [])]
theorem jI_120_40 : jmI (jm 120) 40 = (.astore 4, 2) := by rfl
theorem jI_120_42 : jmI (jm 120) 42 = (.aload_n 0, 1) := by rfl
theorem jI_120_43 : jmI (jm 120) 43 = (.aload 4, 2) := by rfl
theorem jI_120_48 : jmI (jm 120) 48 = (.aload_n 0, 1) := by rfl
theorem jI_120_49 : jmI (jm 120) 49 = (.aload_n 0, 1) := by rfl
theorem jI_120_50 : jmI (jm 120) 50 = (.getfield 67, 3) := by rfl
theorem jI_120_53 : jmI (jm 120) 53 = (.iload_n 1, 1) := by rfl
theorem jI_120_54 : jmI (jm 120) 54 = (.aload 4, 2) := by rfl
def jzA_356 : JC := (9, [(4, 21), (4, 13), (4, 14), (4, 15), (4, 16)], [])
def jpA_357 : List JC := [jzA_8, jgh, jgh, jgh, jgh, jgh, jgh, jgh, jgh, jgh, jzA_87, jzA_10, jzA_346, jgh, jgh, jgh, jgh, (4, [(4, 18), (1, 1)], []), (101, [], [0, 0, 0, 0, 0, 0]), (101, [], [0, 0, 0, 0, 0, 0]), (4, [(4, 19), (1, 1)], []), jgh, jzA_356]
def jzA_358 : JC := (13, [(4, 1), (4, 2), (4, 3), (4, 4), (4, 5), (4, 6), (4, 7), (4, 8), (4, 9), (4, 10), (0, 1), (4, 22), (0, 0)], [])
def jpA_359 : List JC := [jzA_358, jgh, jgh, jgh, jgh, jgh, jgh, jgh, jgh, jgh, jzA_107, jzA_10, jzA_346, jgh, jgh, jgh, jgh, (4, [(4, 18), (1, 1)], []), (101, [], [0, 0, 0, 0, 0, 0]), (101, [], [0, 0, 0, 0, 0, 0]), (4, [(4, 19), (1, 1)], []), jgh, jzA_356]
theorem jI_120_62 : jmI (jm 120) 62 = (.aload 4, 2) := by rfl
theorem jI_120_64 : jmI (jm 120) 64 = (.getfield 102, 3) := by rfl
theorem jI_120_67 : jmI (jm 120) 67 = (.l2i, 1) := by rfl
def jpA_363 : List JC := [jzA_8, jgh, jgh, jgh, jgh, jgh, jgh, jgh, jgh, jgh, jzA_87, jzA_10, jzA_346, jgh, jgh, jgh, jgh, (4, [(4, 18), (1, 1)], []), (101, [], [0, 0, 0, 0, 0, 0])]
theorem jA_120_89 {xs : List Int} {d : Nat} {x1 x2 : Int} (h_x1 : 0 ≤ x1 ∧ x1 ≤ 7) (h_x2 : (-100) ≤ x2 ∧ x2 ≤ 100) : jT xs (d + 3) 120 19 0 [(0, (4, 0)), (1, (0, x1)), (2, (0, x2)), (3, (0, 1))] [] jpA_363 4 21 (fun k v hs' => k = 0 ∧ v = (0, 1) ∧ hs' = jpA_359) := by
  refine jT_xaload_n (v := (4, 0)) (pc' := 1) jI_120_0 rfl rfl rfl ?_
  refine jT_xiload_n (v := (0, x1)) (pc' := 2) jI_120_1 rfl rfl rfl ?_
  refine jT_xbipush (k := 8) (pc' := 4) jI_120_2 (by decide) rfl ?_
  refine jT_fR [0] 19 (y := 115) (pc' := 7) (dC := 0) (bc1 := 0) (bc2 := 0) (c1 := 4) (c2 := 21) (as := [(4, 0), (0, x1), (0, 8)]) (asC := [(4, 0), (0, x1), (0, 8)]) (L' := [(0, (4, 0)), (1, (0, x1)), (2, (0, x2)), (3, (0, 1))]) (st' := []) (hsC := [jgh]) (v := (9, 0)) (st2 := []) (jA_115_69 (d := 0) (by omega)) (by rfl) (by rfl) (by decide +kernel) (by rfl) (by rfl) (by omega) (by omega) (by omega) (by omega) rfl ?_
  refine jT_xaload_n (v := (4, 0)) (pc' := 8) jI_120_7 rfl rfl rfl ?_
  refine jT_xiload_n (v := (0, x2)) (pc' := 9) jI_120_8 rfl rfl rfl ?_
  refine jT_xbipush (k := (-100)) (pc' := 11) jI_120_9 (by decide) rfl ?_
  refine jT_xbipush (k := 100) (pc' := 13) jI_120_11 (by decide) rfl ?_
  refine jT_fR [0] 19 (y := 116) (pc' := 16) (dC := 0) (bc1 := 0) (bc2 := 0) (c1 := 4) (c2 := 21) (as := [(4, 0), (0, x2), (0, (-100)), (0, 100)]) (asC := [(4, 0), (0, x2), (0, (-100)), (0, 100)]) (L' := [(0, (4, 0)), (1, (0, x1)), (2, (0, x2)), (3, (0, 1))]) (st' := []) (hsC := [jgh]) (v := (9, 0)) (st2 := []) (jA_116_76 (d := 0) (by omega)) (by rfl) (by rfl) (by decide +kernel) (by rfl) (by rfl) (by omega) (by omega) (by omega) (by omega) rfl ?_
  refine jT_xaload_n (v := (4, 0)) (pc' := 17) jI_120_16 rfl rfl rfl ?_
  refine jT_xiload_n (v := (0, 1)) (pc' := 18) jI_120_17 rfl rfl rfl ?_
  refine jT_xiconst (k := 1) (pc' := 19) jI_120_18 rfl ?_
  refine jT_xbipush (k := 24) (pc' := 21) jI_120_19 (by decide) rfl ?_
  refine jT_fR [0] 19 (y := 116) (pc' := 24) (dC := 0) (bc1 := 0) (bc2 := 0) (c1 := 4) (c2 := 21) (as := [(4, 0), (0, 1), (0, 1), (0, 24)]) (asC := [(4, 0), (0, 1), (0, 1), (0, 24)]) (L' := [(0, (4, 0)), (1, (0, x1)), (2, (0, x2)), (3, (0, 1))]) (st' := []) (hsC := [jgh]) (v := (9, 0)) (st2 := []) (jA_116_83 (d := 0)) (by rfl) (by rfl) (by decide +kernel) (by rfl) (by rfl) (by omega) (by omega) (by omega) (by omega) rfl ?_
  refine jT_xaload_n (v := (4, 0)) (pc' := 25) jI_120_24 rfl rfl rfl ?_
  refine jT_xgetf (a := 0) (t := 1) (ci := 13) (fi := 11) (c := jzA_8) (v := (4, 11)) (pc' := 28) jI_120_25 rfl rfl rfl rfl rfl rfl rfl ?_
  refine jT_xiload_n (v := (0, x1)) (pc' := 29) jI_120_28 rfl rfl rfl ?_
  refine jT_fR [11, 12, 13, 14, 15, 16, 17] 19 (y := 57) (pc' := 32) (dC := 0) (bc1 := 0) (bc2 := 0) (c1 := 4) (c2 := 21) (as := [(4, 11), (0, x1)]) (asC := [(4, 0), (0, x1)]) (L' := [(0, (4, 0)), (1, (0, x1)), (2, (0, x2)), (3, (0, 1))]) (st' := []) (hsC := jpA_303) (v := (4, 6)) (st2 := [(4, 17)]) (jA_57_82 (d := 0) (by omega)) (by rfl) (by rfl) (by decide +kernel) (by rfl) (by rfl) (by omega) (by omega) (by omega) (by omega) rfl ?_
  refine jT_xiload_n (v := (0, x2)) (pc' := 33) jI_120_32 rfl rfl rfl ?_
  refine jT_xi2l (x := x2) (z := x2) (pc' := 34) jI_120_33 rfl (jw_idd (by omega) (by omega)) rfl ?_
  refine jT_xiload_n (v := (0, 1)) (pc' := 35) jI_120_34 rfl rfl rfl ?_
  refine jT_xi2l (x := 1) (z := 1) (pc' := 36) jI_120_35 rfl (by decide +kernel) rfl ?_
  refine jT_xlconst (z := 0) (pc' := 37) jI_120_36 rfl rfl ?_
  refine jT_fA [17, 18] 19 (y := 10) (pc' := 40) (dC := 2) (bc1 := 2) (bc2 := 8) (c1 := 2) (c2 := 13) (as := [(4, 17), (1, x2), (1, 1), (1, 0)]) (asC := [(4, 0), (1, x2), (1, 1), (1, 0)]) (L' := [(0, (4, 0)), (1, (0, x1)), (2, (0, x2)), (3, (0, 1))]) (st' := []) (hsC := [(4, [(4, 1), (1, 1)], []), (101, [], [0, 0, 0, 0, 0, 0])]) (ex := [(101, [], [0, 0, 0, 0, 0, 0]), (4, [(4, 2), (1, 1)], [])]) (v := (4, 3)) (st2 := [(4, 20)]) (hs2 := jpA_347) (jA_10_84 (d := 0) (by omega)) (by rfl) (by rfl) (by decide +kernel) (by rfl) (by rfl) (by omega) (by omega) (by omega) (by omega) rfl (by decide +kernel) ?_
  refine jT_xastore (v := (4, 20)) (L' := [(4, (4, 20)), (0, (4, 0)), (1, (0, x1)), (2, (0, x2)), (3, (0, 1))]) (pc' := 42) jI_120_40 rfl rfl rfl rfl ?_
  refine jT_xaload_n (v := (4, 0)) (pc' := 43) jI_120_42 rfl rfl rfl ?_
  refine jT_xaload (v := (4, 20)) (pc' := 45) jI_120_43 rfl rfl rfl ?_
  refine jT_fR [0, 20, 19] 21 (y := 117) (pc' := 48) (dC := 2) (bc1 := 0) (bc2 := 0) (c1 := 2) (c2 := 13) (as := [(4, 0), (4, 20)]) (asC := [(4, 0), (4, 1)]) (L' := [(4, (4, 20)), (0, (4, 0)), (1, (0, x1)), (2, (0, x2)), (3, (0, 1))]) (st' := []) (hsC := [jgh, (4, [(4, 2), (1, 1)], []), (101, [], [0, 0, 0, 0, 0, 0])]) (v := (9, 0)) (st2 := []) (jA_117_87 (d := 0)) (by rfl) (by rfl) (by decide +kernel) (by rfl) (by rfl) (by omega) (by omega) (by omega) (by omega) rfl ?_
  refine jT_xaload_n (v := (4, 0)) (pc' := 49) jI_120_48 rfl rfl rfl ?_
  refine jT_xaload_n (v := (4, 0)) (pc' := 50) jI_120_49 rfl rfl rfl ?_
  refine jT_xgetf (a := 0) (t := 1) (ci := 13) (fi := 11) (c := jzA_8) (v := (4, 11)) (pc' := 53) jI_120_50 rfl rfl rfl rfl rfl rfl rfl ?_
  refine jT_xiload_n (v := (0, x1)) (pc' := 54) jI_120_53 rfl rfl rfl ?_
  refine jT_xaload (v := (4, 20)) (pc' := 56) jI_120_54 rfl rfl rfl ?_
  refine jT_fA [11, 20, 12, 13, 14, 15, 16, 19, 17] 21 (y := 58) (pc' := 59) (dC := 1) (bc1 := 2) (bc2 := 13) (c1 := 0) (c2 := 0) (as := [(4, 11), (0, x1), (4, 20)]) (asC := [(4, 0), (0, x1), (4, 1)]) (L' := [(4, (4, 20)), (0, (4, 0)), (1, (0, x1)), (2, (0, x2)), (3, (0, 1))]) (st' := [(4, 0)]) (hsC := jpA_83) (ex := [jgh, jzA_81]) (v := (4, 10)) (st2 := [(4, 22), (4, 0)]) (hs2 := jpA_357) (jA_58_88 (d := 0) (by omega)) (by rfl) (by rfl) (by decide +kernel) (by rfl) (by rfl) (by omega) (by omega) (by omega) (by omega) rfl (by decide +kernel) ?_
  refine jT_fB [0, 22, 1, 2, 3, 4, 5, 6, 7, 8, 9, 10, 11, 12, 13, 14, 15, 16] 23 (y := 100) (pc' := 62) (dC := 0) (bc1 := 0) (bc2 := 0) (c1 := 0) (c2 := 0) (as := [(4, 0), (4, 22)]) (asC := [(4, 0), (4, 1)]) (L' := [(4, (4, 20)), (0, (4, 0)), (1, (0, x1)), (2, (0, x2)), (3, (0, 1))]) (st' := []) (hsC := jpA_88) (hsD := jpA_86) (v := (9, 0)) (st2 := []) (hs2 := jpA_359) (jA_100_24 (d := 0)) (by rfl) (by rfl) (by decide +kernel) (by rfl) (by rfl) (by omega) (by omega) (by omega) (by omega) rfl (by decide +kernel) ?_
  refine jT_xaload (v := (4, 20)) (pc' := 64) jI_120_62 rfl rfl rfl ?_
  refine jT_xgetf (a := 20) (t := 2) (ci := 4) (fi := 1) (c := (4, [(4, 19), (1, 1)], [])) (v := (1, 1)) (pc' := 67) jI_120_64 rfl rfl rfl rfl rfl rfl rfl ?_
  refine jT_xl2i (pc' := 68) jI_120_67 rfl rfl ?_
  exact jT_ret rfl (by decide) (by show 19 ≤ 23; decide) (by omega) (by omega) ⟨rfl, rfl, rfl⟩
def jzA_364 : JC := (13, [(4, 2), (4, 3), (4, 4), (4, 5), (4, 6), (4, 7), (4, 8), (4, 9), (4, 10), (4, 11), (0, 1), (4, 23), (0, 0)], [])
def jzA_365 : JC := (114, [], [18, 18, 18, 18, 18, 18, 18, 18])
def jzA_366 : JC := (9, [(4, 22), (4, 14), (4, 15), (4, 16), (4, 17)], [])
def jpA_367 : List JC := [jzA_364, (101, [], [0]), jgh, jgh, jgh, jgh, jgh, jgh, jgh, jgh, jgh, jzA_85, jzA_18, jzA_365, jgh, jgh, jgh, jgh, (4, [(4, 19), (1, 1)], []), (101, [], [0, 0, 0, 0, 0, 0]), (101, [], [0, 0, 0, 0, 0, 0]), (4, [(4, 20), (1, 1)], []), jgh, jzA_366]
theorem jI_329_10 : jmI (jm 329) 10 = (.i2l, 1) := by rfl
def jpA_369 : List JC := [jzA_364, (101, [], [1]), jgh, jgh, jgh, jgh, jgh, jgh, jgh, jgh, jgh, jzA_85, jzA_18, jzA_365, jgh, jgh, jgh, jgh, (4, [(4, 19), (1, 1)], []), (101, [], [0, 0, 0, 0, 0, 0]), (101, [], [0, 0, 0, 0, 0, 0]), (4, [(4, 20), (1, 1)], []), jgh, jzA_366]
theorem jI_329_12 : jmI (jm 329) 12 = (.goto 15, 3) := by rfl
theorem jI_329_27 : jmI (jm 329) 27 = (.iconst 0, 1) := by rfl
def jpA_372 : List JC := [jzA_17, (101, [], [0]), jgh, jgh, jgh, jgh, jgh, jgh, jgh, jgh, jgh, jzA_87, jzA_18, jzA_365, jgh, jgh, jgh, jgh, (4, [(4, 19), (1, 1)], []), (101, [], [0, 0, 0, 0, 0, 0])]
theorem jA_329_90 {xs : List Int} {d : Nat} {x1 x2 : Int} (h_x1 : 0 ≤ x1 ∧ x1 ≤ 7) (h_x2 : (-100) ≤ x2 ∧ x2 ≤ 100) : jT xs (d + 4) 329 20 0 [(0, (4, 0)), (1, (0, x1)), (2, (0, x2)), (3, (0, 1)), (4, (4, 1))] [] jpA_372 4 21 (fun k v hs' => k = 0 ∧ v = (0, 0) ∧ hs' = jpA_369) := by
  refine jT_xaload (v := (4, 1)) (pc' := 2) jI_329_0 rfl rfl rfl ?_
  refine jT_xiconst (k := 0) (pc' := 3) jI_329_2 rfl ?_
  refine jT_xaload_n (v := (4, 0)) (pc' := 4) jI_329_3 rfl rfl rfl ?_
  refine jT_xiload_n (v := (0, x1)) (pc' := 5) jI_329_4 rfl rfl rfl ?_
  refine jT_xiload_n (v := (0, x2)) (pc' := 6) jI_329_5 rfl rfl rfl ?_
  refine jT_xiload_n (v := (0, 1)) (pc' := 7) jI_329_6 rfl rfl rfl ?_
  refine jT_fB [0, 2, 3, 4, 5, 6, 7, 8, 9, 10, 11, 12, 13, 14, 15, 16, 17, 18, 19] 20 (y := 120) (pc' := 10) (dC := 3) (bc1 := 4) (bc2 := 21) (c1 := 0) (c2 := 0) (as := [(4, 0), (0, x1), (0, x2), (0, 1)]) (asC := [(4, 0), (0, x1), (0, x2), (0, 1)]) (L' := [(0, (4, 0)), (1, (0, x1)), (2, (0, x2)), (3, (0, 1)), (4, (4, 1))]) (st' := [(0, 0), (4, 1)]) (hsC := jpA_363) (hsD := jpA_359) (v := (0, 1)) (st2 := [(0, 1), (0, 0), (4, 1)]) (hs2 := jpA_367) (jA_120_89 (d := 0) (by omega) (by omega)) (by rfl) (by rfl) (by decide +kernel) (by rfl) (by rfl) (by omega) (by omega) (by omega) (by omega) rfl (by decide +kernel) ?_
  refine jT_xi2l (x := 1) (z := 1) (pc' := 11) jI_329_10 rfl (by decide +kernel) rfl ?_
  refine jT_adv 1 (pc' := 12) (L' := [(0, (4, 0)), (1, (0, x1)), (2, (0, x2)), (3, (0, 1)), (4, (4, 1))]) (st' := []) (hs' := jpA_369) (c1 := 0) (s1 := 0) (c2 := 0) (s2 := 0) (by exact rfl) ?_ (by omega) (by omega)
  refine jT_xgoto (pc' := 27) jI_329_12 rfl ?_
  refine jT_xiconst (k := 0) (pc' := 28) jI_329_27 rfl ?_
  exact jT_ret rfl (by decide) (by show 20 ≤ 24; decide) (by omega) (by omega) ⟨rfl, rfl, rfl⟩
theorem jA_189_91 {xs : List Int} {d : Nat} : jT xs d 189 0 0 [(0, (1, 1)), (2, (1, 1)), (4, (1, 24))] [] [] 0 0 (fun k v hs' => k = 0 ∧ v = (0, 1) ∧ hs' = [] ++ []) := by
  refine jT_advK 10 (pc' := 18) (L' := [(0, (1, 1)), (2, (1, 1)), (4, (1, 24))]) (st' := [(0, 1)]) (hs' := []) (c1 := 0) (s1 := 0) (c2 := 0) (s2 := 0) (by decide +kernel) ?_ (by omega) (by omega)
  exact jT_ret rfl (by decide) (by show 0 ≤ 0; decide) (by omega) (by omega) ⟨rfl, rfl, rfl⟩
theorem jI_203_0 : jmI (jm 203) 0 = (.iconst 0, 1) := by rfl
theorem jI_203_1 : jmI (jm 203) 1 = (.istore_n 3, 1) := by rfl
theorem jI_203_2 : jmI (jm 203) 2 = (.iload_n 3, 1) := by rfl
theorem jI_203_3 : jmI (jm 203) 3 = (.bipush 6, 2) := by rfl
theorem jI_203_5 : jmI (jm 203) 5 = (.if_icmp .ge 21, 3) := by rfl
theorem jI_203_8 : jmI (jm 203) 8 = (.aload_n 0, 1) := by rfl
theorem jI_203_9 : jmI (jm 203) 9 = (.getfield 31, 3) := by rfl
theorem jI_203_12 : jmI (jm 203) 12 = (.iload_n 3, 1) := by rfl
theorem jI_203_13 : jmI (jm 203) 13 = (.aload_n 1, 1) := by rfl
theorem jI_203_14 : jmI (jm 203) 14 = (.iload_n 2, 1) := by rfl
theorem jI_203_15 : jmI (jm 203) 15 = (.iload_n 3, 1) := by rfl
theorem jI_203_16 : jmI (jm 203) 16 = (.iadd, 1) := by rfl
theorem jI_203_17 : jmI (jm 203) 17 = (.iaload, 1) := by rfl
def jpA_386 : List JC := [jzA_22, (100, [], jS0), jgh, jgh, jgh, jgh, jgh, (101, [], [0, 0, 0, 0, 0, 0]), jgh, jgh, jgh, jgh, jgh, jgh, jgh, jgh]
theorem jI_203_18 : jmI (jm 203) 18 = (.i2l, 1) := by rfl
theorem jI_203_20 : jmI (jm 203) 20 = (.iinc 3 1, 3) := by rfl
theorem jI_203_23 : jmI (jm 203) 23 = (.goto (-21), 3) := by rfl
theorem jI_203_26 : jmI (jm 203) 26 = (.aload_n 0, 1) := by rfl
theorem jI_203_27 : jmI (jm 203) 27 = (.aload_n 1, 1) := by rfl
theorem jI_203_28 : jmI (jm 203) 28 = (.iload_n 2, 1) := by rfl
theorem jI_203_29 : jmI (jm 203) 29 = (.bipush 6, 2) := by rfl
theorem jI_203_31 : jmI (jm 203) 31 = (.iadd, 1) := by rfl
theorem jI_203_32 : jmI (jm 203) 32 = (.iaload, 1) := by rfl
theorem jI_203_33 : jmI (jm 203) 33 = (.i2l, 1) := by rfl
theorem jA_203_92 {xs : List Int} {d : Nat} {x1 : Int} (h_x1 : 0 ≤ x1 ∧ x1 ≤ 7) : jT xs d 203 16 0 [(0, (4, 0)), (1, (4, 1)), (2, (0, 7 * x1))] [] jpA_386 0 0 (fun k v hs' => k = 0 ∧ v = (9, 0) ∧ hs' = jpA_386 ++ []) := by
  refine jT_xiconst (k := 0) (pc' := 1) jI_203_0 rfl ?_
  refine jT_xistore_n (v := (0, 0)) (L' := [(3, (0, 0)), (0, (4, 0)), (1, (4, 1)), (2, (0, 7 * x1))]) (pc' := 2) jI_203_1 rfl rfl rfl rfl ?_
  refine jT_xiload_n (v := (0, 0)) (pc' := 3) jI_203_2 rfl rfl rfl ?_
  refine jT_xbipush (k := 6) (pc' := 5) jI_203_3 (by decide) rfl ?_
  refine jT_xicF (t := 26) (pc' := 8) jI_203_5 rfl (by decide +kernel) rfl rfl ?_
  refine jT_xaload_n (v := (4, 0)) (pc' := 9) jI_203_8 rfl rfl rfl ?_
  refine jT_xgetf (a := 0) (t := 1) (ci := 14) (fi := 9) (c := jzA_22) (v := (4, 7)) (pc' := 12) jI_203_9 rfl rfl rfl rfl rfl rfl rfl ?_
  refine jT_xiload_n (v := (0, 0)) (pc' := 13) jI_203_12 rfl rfl rfl ?_
  refine jT_xaload_n (v := (4, 1)) (pc' := 14) jI_203_13 rfl rfl rfl ?_
  refine jT_xiload_n (v := (0, 7 * x1)) (pc' := 15) jI_203_14 rfl rfl rfl ?_
  refine jT_xiload_n (v := (0, 0)) (pc' := 16) jI_203_15 rfl rfl rfl ?_
  refine jT_xiadd (x := 7 * x1) (y := 0) (z := 7 * x1) (pc' := 17) jI_203_16 rfl (by omega) rfl ?_
  refine jT_iald (x := 0) (a := 1) (j := (7 * x1).toNat) (fs := []) (X := jS0) (by rfl) (by rfl) (by rfl) (jw_nn (by omega) (by omega)) (jS0_r0 (by omega) (by omega)) ?_
  refine jT_eq (L' := [(3, (0, 0)), (0, (4, 0)), (1, (4, 1)), (2, (0, 7 * x1))]) (st' := [(0, 0), (0, 0), (4, 7)]) (hs' := jpA_386) rfl rfl rfl ?_
  refine jT_xi2l (x := 0) (z := 0) (pc' := 19) jI_203_18 rfl (by decide +kernel) rfl ?_
  refine jT_adv 1 (pc' := 20) (L' := [(3, (0, 0)), (0, (4, 0)), (1, (4, 1)), (2, (0, 7 * x1))]) (st' := []) (hs' := jpA_386) (c1 := 0) (s1 := 0) (c2 := 0) (s2 := 0) (by exact rfl) ?_ (by omega) (by omega)
  refine jT_xiinc (x := 0) (z := 1) (L' := [(3, (0, 1)), (0, (4, 0)), (1, (4, 1)), (2, (0, 7 * x1))]) (pc' := 23) jI_203_20 rfl rfl (by decide) rfl rfl ?_
  refine jT_xgoto (pc' := 2) jI_203_23 rfl ?_
  refine jT_xiload_n (v := (0, 1)) (pc' := 3) jI_203_2 rfl rfl rfl ?_
  refine jT_xbipush (k := 6) (pc' := 5) jI_203_3 (by decide) rfl ?_
  refine jT_xicF (t := 26) (pc' := 8) jI_203_5 rfl (by decide +kernel) rfl rfl ?_
  refine jT_xaload_n (v := (4, 0)) (pc' := 9) jI_203_8 rfl rfl rfl ?_
  refine jT_xgetf (a := 0) (t := 1) (ci := 14) (fi := 9) (c := jzA_22) (v := (4, 7)) (pc' := 12) jI_203_9 rfl rfl rfl rfl rfl rfl rfl ?_
  refine jT_xiload_n (v := (0, 1)) (pc' := 13) jI_203_12 rfl rfl rfl ?_
  refine jT_xaload_n (v := (4, 1)) (pc' := 14) jI_203_13 rfl rfl rfl ?_
  refine jT_xiload_n (v := (0, 7 * x1)) (pc' := 15) jI_203_14 rfl rfl rfl ?_
  refine jT_xiload_n (v := (0, 1)) (pc' := 16) jI_203_15 rfl rfl rfl ?_
  refine jT_xiadd (x := 7 * x1) (y := 1) (z := 7 * x1 + 1) (pc' := 17) jI_203_16 rfl (by omega) rfl ?_
  refine jT_iald (x := 0) (a := 1) (j := (7 * x1 + 1).toNat) (fs := []) (X := jS0) (by rfl) (by rfl) (by rfl) (jw_nn (by omega) (by omega)) (jS0_r1 (by omega) (by omega)) ?_
  refine jT_eq (L' := [(3, (0, 1)), (0, (4, 0)), (1, (4, 1)), (2, (0, 7 * x1))]) (st' := [(0, 0), (0, 1), (4, 7)]) (hs' := jpA_386) rfl rfl rfl ?_
  refine jT_xi2l (x := 0) (z := 0) (pc' := 19) jI_203_18 rfl (by decide +kernel) rfl ?_
  refine jT_adv 1 (pc' := 20) (L' := [(3, (0, 1)), (0, (4, 0)), (1, (4, 1)), (2, (0, 7 * x1))]) (st' := []) (hs' := jpA_386) (c1 := 0) (s1 := 0) (c2 := 0) (s2 := 0) (by exact rfl) ?_ (by omega) (by omega)
  refine jT_xiinc (x := 1) (z := 2) (L' := [(3, (0, 2)), (0, (4, 0)), (1, (4, 1)), (2, (0, 7 * x1))]) (pc' := 23) jI_203_20 rfl rfl (by decide) rfl rfl ?_
  refine jT_xgoto (pc' := 2) jI_203_23 rfl ?_
  refine jT_xiload_n (v := (0, 2)) (pc' := 3) jI_203_2 rfl rfl rfl ?_
  refine jT_xbipush (k := 6) (pc' := 5) jI_203_3 (by decide) rfl ?_
  refine jT_xicF (t := 26) (pc' := 8) jI_203_5 rfl (by decide +kernel) rfl rfl ?_
  refine jT_xaload_n (v := (4, 0)) (pc' := 9) jI_203_8 rfl rfl rfl ?_
  refine jT_xgetf (a := 0) (t := 1) (ci := 14) (fi := 9) (c := jzA_22) (v := (4, 7)) (pc' := 12) jI_203_9 rfl rfl rfl rfl rfl rfl rfl ?_
  refine jT_xiload_n (v := (0, 2)) (pc' := 13) jI_203_12 rfl rfl rfl ?_
  refine jT_xaload_n (v := (4, 1)) (pc' := 14) jI_203_13 rfl rfl rfl ?_
  refine jT_xiload_n (v := (0, 7 * x1)) (pc' := 15) jI_203_14 rfl rfl rfl ?_
  refine jT_xiload_n (v := (0, 2)) (pc' := 16) jI_203_15 rfl rfl rfl ?_
  refine jT_xiadd (x := 7 * x1) (y := 2) (z := 7 * x1 + 2) (pc' := 17) jI_203_16 rfl (by omega) rfl ?_
  refine jT_iald (x := 0) (a := 1) (j := (7 * x1 + 2).toNat) (fs := []) (X := jS0) (by rfl) (by rfl) (by rfl) (jw_nn (by omega) (by omega)) (jS0_r2 (by omega) (by omega)) ?_
  refine jT_eq (L' := [(3, (0, 2)), (0, (4, 0)), (1, (4, 1)), (2, (0, 7 * x1))]) (st' := [(0, 0), (0, 2), (4, 7)]) (hs' := jpA_386) rfl rfl rfl ?_
  refine jT_xi2l (x := 0) (z := 0) (pc' := 19) jI_203_18 rfl (by decide +kernel) rfl ?_
  refine jT_adv 1 (pc' := 20) (L' := [(3, (0, 2)), (0, (4, 0)), (1, (4, 1)), (2, (0, 7 * x1))]) (st' := []) (hs' := jpA_386) (c1 := 0) (s1 := 0) (c2 := 0) (s2 := 0) (by exact rfl) ?_ (by omega) (by omega)
  refine jT_xiinc (x := 2) (z := 3) (L' := [(3, (0, 3)), (0, (4, 0)), (1, (4, 1)), (2, (0, 7 * x1))]) (pc' := 23) jI_203_20 rfl rfl (by decide) rfl rfl ?_
  refine jT_xgoto (pc' := 2) jI_203_23 rfl ?_
  refine jT_xiload_n (v := (0, 3)) (pc' := 3) jI_203_2 rfl rfl rfl ?_
  refine jT_xbipush (k := 6) (pc' := 5) jI_203_3 (by decide) rfl ?_
  refine jT_xicF (t := 26) (pc' := 8) jI_203_5 rfl (by decide +kernel) rfl rfl ?_
  refine jT_xaload_n (v := (4, 0)) (pc' := 9) jI_203_8 rfl rfl rfl ?_
  refine jT_xgetf (a := 0) (t := 1) (ci := 14) (fi := 9) (c := jzA_22) (v := (4, 7)) (pc' := 12) jI_203_9 rfl rfl rfl rfl rfl rfl rfl ?_
  refine jT_xiload_n (v := (0, 3)) (pc' := 13) jI_203_12 rfl rfl rfl ?_
  refine jT_xaload_n (v := (4, 1)) (pc' := 14) jI_203_13 rfl rfl rfl ?_
  refine jT_xiload_n (v := (0, 7 * x1)) (pc' := 15) jI_203_14 rfl rfl rfl ?_
  refine jT_xiload_n (v := (0, 3)) (pc' := 16) jI_203_15 rfl rfl rfl ?_
  refine jT_xiadd (x := 7 * x1) (y := 3) (z := 7 * x1 + 3) (pc' := 17) jI_203_16 rfl (by omega) rfl ?_
  refine jT_iald (x := 0) (a := 1) (j := (7 * x1 + 3).toNat) (fs := []) (X := jS0) (by rfl) (by rfl) (by rfl) (jw_nn (by omega) (by omega)) (jS0_r3 (by omega) (by omega)) ?_
  refine jT_eq (L' := [(3, (0, 3)), (0, (4, 0)), (1, (4, 1)), (2, (0, 7 * x1))]) (st' := [(0, 0), (0, 3), (4, 7)]) (hs' := jpA_386) rfl rfl rfl ?_
  refine jT_xi2l (x := 0) (z := 0) (pc' := 19) jI_203_18 rfl (by decide +kernel) rfl ?_
  refine jT_adv 1 (pc' := 20) (L' := [(3, (0, 3)), (0, (4, 0)), (1, (4, 1)), (2, (0, 7 * x1))]) (st' := []) (hs' := jpA_386) (c1 := 0) (s1 := 0) (c2 := 0) (s2 := 0) (by exact rfl) ?_ (by omega) (by omega)
  refine jT_xiinc (x := 3) (z := 4) (L' := [(3, (0, 4)), (0, (4, 0)), (1, (4, 1)), (2, (0, 7 * x1))]) (pc' := 23) jI_203_20 rfl rfl (by decide) rfl rfl ?_
  refine jT_xgoto (pc' := 2) jI_203_23 rfl ?_
  refine jT_xiload_n (v := (0, 4)) (pc' := 3) jI_203_2 rfl rfl rfl ?_
  refine jT_xbipush (k := 6) (pc' := 5) jI_203_3 (by decide) rfl ?_
  refine jT_xicF (t := 26) (pc' := 8) jI_203_5 rfl (by decide +kernel) rfl rfl ?_
  refine jT_xaload_n (v := (4, 0)) (pc' := 9) jI_203_8 rfl rfl rfl ?_
  refine jT_xgetf (a := 0) (t := 1) (ci := 14) (fi := 9) (c := jzA_22) (v := (4, 7)) (pc' := 12) jI_203_9 rfl rfl rfl rfl rfl rfl rfl ?_
  refine jT_xiload_n (v := (0, 4)) (pc' := 13) jI_203_12 rfl rfl rfl ?_
  refine jT_xaload_n (v := (4, 1)) (pc' := 14) jI_203_13 rfl rfl rfl ?_
  refine jT_xiload_n (v := (0, 7 * x1)) (pc' := 15) jI_203_14 rfl rfl rfl ?_
  refine jT_xiload_n (v := (0, 4)) (pc' := 16) jI_203_15 rfl rfl rfl ?_
  refine jT_xiadd (x := 7 * x1) (y := 4) (z := 7 * x1 + 4) (pc' := 17) jI_203_16 rfl (by omega) rfl ?_
  refine jT_iald (x := 0) (a := 1) (j := (7 * x1 + 4).toNat) (fs := []) (X := jS0) (by rfl) (by rfl) (by rfl) (jw_nn (by omega) (by omega)) (jS0_r4 (by omega) (by omega)) ?_
  refine jT_eq (L' := [(3, (0, 4)), (0, (4, 0)), (1, (4, 1)), (2, (0, 7 * x1))]) (st' := [(0, 0), (0, 4), (4, 7)]) (hs' := jpA_386) rfl rfl rfl ?_
  refine jT_xi2l (x := 0) (z := 0) (pc' := 19) jI_203_18 rfl (by decide +kernel) rfl ?_
  refine jT_adv 1 (pc' := 20) (L' := [(3, (0, 4)), (0, (4, 0)), (1, (4, 1)), (2, (0, 7 * x1))]) (st' := []) (hs' := jpA_386) (c1 := 0) (s1 := 0) (c2 := 0) (s2 := 0) (by exact rfl) ?_ (by omega) (by omega)
  refine jT_xiinc (x := 4) (z := 5) (L' := [(3, (0, 5)), (0, (4, 0)), (1, (4, 1)), (2, (0, 7 * x1))]) (pc' := 23) jI_203_20 rfl rfl (by decide) rfl rfl ?_
  refine jT_xgoto (pc' := 2) jI_203_23 rfl ?_
  refine jT_xiload_n (v := (0, 5)) (pc' := 3) jI_203_2 rfl rfl rfl ?_
  refine jT_xbipush (k := 6) (pc' := 5) jI_203_3 (by decide) rfl ?_
  refine jT_xicF (t := 26) (pc' := 8) jI_203_5 rfl (by decide +kernel) rfl rfl ?_
  refine jT_xaload_n (v := (4, 0)) (pc' := 9) jI_203_8 rfl rfl rfl ?_
  refine jT_xgetf (a := 0) (t := 1) (ci := 14) (fi := 9) (c := jzA_22) (v := (4, 7)) (pc' := 12) jI_203_9 rfl rfl rfl rfl rfl rfl rfl ?_
  refine jT_xiload_n (v := (0, 5)) (pc' := 13) jI_203_12 rfl rfl rfl ?_
  refine jT_xaload_n (v := (4, 1)) (pc' := 14) jI_203_13 rfl rfl rfl ?_
  refine jT_xiload_n (v := (0, 7 * x1)) (pc' := 15) jI_203_14 rfl rfl rfl ?_
  refine jT_xiload_n (v := (0, 5)) (pc' := 16) jI_203_15 rfl rfl rfl ?_
  refine jT_xiadd (x := 7 * x1) (y := 5) (z := 7 * x1 + 5) (pc' := 17) jI_203_16 rfl (by omega) rfl ?_
  refine jT_iald (x := 0) (a := 1) (j := (7 * x1 + 5).toNat) (fs := []) (X := jS0) (by rfl) (by rfl) (by rfl) (jw_nn (by omega) (by omega)) (jS0_r5 (by omega) (by omega)) ?_
  refine jT_eq (L' := [(3, (0, 5)), (0, (4, 0)), (1, (4, 1)), (2, (0, 7 * x1))]) (st' := [(0, 0), (0, 5), (4, 7)]) (hs' := jpA_386) rfl rfl rfl ?_
  refine jT_xi2l (x := 0) (z := 0) (pc' := 19) jI_203_18 rfl (by decide +kernel) rfl ?_
  refine jT_adv 1 (pc' := 20) (L' := [(3, (0, 5)), (0, (4, 0)), (1, (4, 1)), (2, (0, 7 * x1))]) (st' := []) (hs' := jpA_386) (c1 := 0) (s1 := 0) (c2 := 0) (s2 := 0) (by exact rfl) ?_ (by omega) (by omega)
  refine jT_xiinc (x := 5) (z := 6) (L' := [(3, (0, 6)), (0, (4, 0)), (1, (4, 1)), (2, (0, 7 * x1))]) (pc' := 23) jI_203_20 rfl rfl (by decide) rfl rfl ?_
  refine jT_xgoto (pc' := 2) jI_203_23 rfl ?_
  refine jT_xiload_n (v := (0, 6)) (pc' := 3) jI_203_2 rfl rfl rfl ?_
  refine jT_xbipush (k := 6) (pc' := 5) jI_203_3 (by decide) rfl ?_
  refine jT_xicT (pc' := 26) jI_203_5 rfl (by decide +kernel) rfl ?_
  refine jT_xaload_n (v := (4, 0)) (pc' := 27) jI_203_26 rfl rfl rfl ?_
  refine jT_xaload_n (v := (4, 1)) (pc' := 28) jI_203_27 rfl rfl rfl ?_
  refine jT_xiload_n (v := (0, 7 * x1)) (pc' := 29) jI_203_28 rfl rfl rfl ?_
  refine jT_xbipush (k := 6) (pc' := 31) jI_203_29 (by decide) rfl ?_
  refine jT_xiadd (x := 7 * x1) (y := 6) (z := 7 * x1 + 6) (pc' := 32) jI_203_31 rfl (by omega) rfl ?_
  refine jT_iald (x := 1) (a := 1) (j := (7 * x1 + 6).toNat) (fs := []) (X := jS0) (by rfl) (by rfl) (by rfl) (jw_nn (by omega) (by omega)) (jS0_r6 (by omega) (by omega)) ?_
  refine jT_eq (L' := [(3, (0, 6)), (0, (4, 0)), (1, (4, 1)), (2, (0, 7 * x1))]) (st' := [(0, 1), (4, 0)]) (hs' := jpA_386) rfl rfl rfl ?_
  refine jT_xi2l (x := 1) (z := 1) (pc' := 34) jI_203_33 rfl (by decide +kernel) rfl ?_
  refine jT_adv 1 (pc' := 37) (L' := [(3, (0, 6)), (0, (4, 0)), (1, (4, 1)), (2, (0, 7 * x1))]) (st' := []) (hs' := jpA_386) (c1 := 0) (s1 := 0) (c2 := 0) (s2 := 0) (by exact rfl) ?_ (by omega) (by omega)
  exact jT_ret rfl (by decide) (by show 16 ≤ 16; decide) (by omega) (by omega) ⟨rfl, rfl, rfl⟩
theorem jI_202_0 : jmI (jm 202) 0 = (.aload_n 0, 1) := by rfl
theorem jI_202_1 : jmI (jm 202) 1 = (.aload_n 0, 1) := by rfl
theorem jI_202_2 : jmI (jm 202) 2 = (.getfield 9, 3) := by rfl
theorem jI_202_5 : jmI (jm 202) 5 = (.bipush 7, 2) := by rfl
theorem jI_202_7 : jmI (jm 202) 7 = (.iload_n 1, 1) := by rfl
theorem jI_202_8 : jmI (jm 202) 8 = (.imul, 1) := by rfl
theorem jA_202_93 {xs : List Int} {d : Nat} {x1 : Int} (h_x1 : 0 ≤ x1 ∧ x1 ≤ 7) : jT xs (d + 1) 202 16 0 [(0, (4, 0)), (1, (0, x1))] [] jpA_386 0 0 (fun k v hs' => k = 0 ∧ v = (9, 0) ∧ hs' = jpA_386 ++ []) := by
  refine jT_xaload_n (v := (4, 0)) (pc' := 1) jI_202_0 rfl rfl rfl ?_
  refine jT_xaload_n (v := (4, 0)) (pc' := 2) jI_202_1 rfl rfl rfl ?_
  refine jT_xgetf (a := 0) (t := 1) (ci := 14) (fi := 1) (c := jzA_22) (v := (4, 1)) (pc' := 5) jI_202_2 rfl rfl rfl rfl rfl rfl rfl ?_
  refine jT_xbipush (k := 7) (pc' := 7) jI_202_5 (by decide) rfl ?_
  refine jT_xiload_n (v := (0, x1)) (pc' := 8) jI_202_7 rfl rfl rfl ?_
  refine jT_ximul (x := 7) (y := x1) (z := 7 * x1) (pc' := 9) jI_202_8 rfl (rfl) rfl ?_
  refine jT_fR [0, 1, 2, 3, 4, 5, 6, 7, 8, 9, 10, 11, 12, 13, 14, 15] 16 (y := 203) (pc' := 12) (dC := 0) (bc1 := 0) (bc2 := 0) (c1 := 0) (c2 := 0) (as := [(4, 0), (4, 1), (0, 7 * x1)]) (asC := [(4, 0), (4, 1), (0, 7 * x1)]) (L' := [(0, (4, 0)), (1, (0, x1))]) (st' := []) (hsC := jpA_386) (v := (9, 0)) (st2 := []) (jA_203_92 (d := 0) (by omega)) (by rfl) (by rfl) (by decide +kernel) (by rfl) (by rfl) (by omega) (by omega) (by omega) (by omega) rfl ?_
  exact jT_ret rfl (by decide) (by show 16 ≤ 16; decide) (by omega) (by omega) ⟨rfl, rfl, rfl⟩
theorem jA_194_94 {xs : List Int} {d : Nat} : jT xs d 194 0 0 [(0, (1, 1)), (2, (1, 0))] [] [] 0 0 (fun k v hs' => k = 0 ∧ v = (1, 1) ∧ hs' = [] ++ []) := by
  refine jT_advK 7 (pc' := 20) (L' := [(0, (1, 1)), (2, (1, 0))]) (st' := [(1, 1)]) (hs' := []) (c1 := 0) (s1 := 0) (c2 := 0) (s2 := 0) (by decide +kernel) ?_ (by omega) (by omega)
  exact jT_ret rfl (by decide) (by show 0 ≤ 0; decide) (by omega) (by omega) ⟨rfl, rfl, rfl⟩
theorem jA_200_95 {xs : List Int} {d : Nat} : jT xs d 200 1 0 [(0, (4, 0))] [] [(101, [], [0, 0, 0, 0, 0, 0])] 0 0 (fun k v hs' => k = 0 ∧ v = (0, 1) ∧ hs' = [(101, [], [0, 0, 0, 0, 0, 0])] ++ []) := by
  refine jT_advK 72 (pc' := 25) (L' := [(1, (0, 6)), (0, (4, 0))]) (st' := [(0, 1)]) (hs' := [(101, [], [0, 0, 0, 0, 0, 0])]) (c1 := 0) (s1 := 0) (c2 := 0) (s2 := 0) (by decide +kernel) ?_ (by omega) (by omega)
  exact jT_ret rfl (by decide) (by show 1 ≤ 1; decide) (by omega) (by omega) ⟨rfl, rfl, rfl⟩
def jpA_403 : List JC := [jzA_22, jgh, jgh, jgh, jgh, jgh, jgh, (101, [], [0, 0, 0, 0, 0, 0]), jgh, jgh, jgh, jgh, jgh, jgh, jgh, jgh]
theorem jA_199_96 {xs : List Int} {d : Nat} : jT xs (d + 1) 199 16 0 [(0, (4, 0))] [] jpA_403 0 0 (fun k v hs' => k = 0 ∧ v = (9, 0) ∧ hs' = jpA_403 ++ []) := by
  refine jT_advK 13 (pc' := 20) (L' := [(3, (0, 0)), (1, (1, 1)), (0, (4, 0))]) (st' := [(1, 0), (1, 1)]) (hs' := jpA_403) (c1 := 0) (s1 := 0) (c2 := 0) (s2 := 0) (by decide +kernel) ?_ (by omega) (by omega)
  refine jT_fR [] 16 (y := 194) (pc' := 23) (dC := 0) (bc1 := 0) (bc2 := 0) (c1 := 0) (c2 := 0) (as := [(1, 1), (1, 0)]) (asC := [(1, 1), (1, 0)]) (L' := [(3, (0, 0)), (1, (1, 1)), (0, (4, 0))]) (st' := []) (hsC := []) (v := (1, 1)) (st2 := [(1, 1)]) (jA_194_94 (d := 0)) (by rfl) (by rfl) (by decide +kernel) (by rfl) (by rfl) (by omega) (by omega) (by omega) (by omega) rfl ?_
  refine jT_advK 11 (pc' := 20) (L' := [(3, (0, 1)), (1, (1, 1)), (0, (4, 0))]) (st' := [(1, 0), (1, 1)]) (hs' := jpA_403) (c1 := 0) (s1 := 0) (c2 := 0) (s2 := 0) (by decide +kernel) ?_ (by omega) (by omega)
  refine jT_fR [] 16 (y := 194) (pc' := 23) (dC := 0) (bc1 := 0) (bc2 := 0) (c1 := 0) (c2 := 0) (as := [(1, 1), (1, 0)]) (asC := [(1, 1), (1, 0)]) (L' := [(3, (0, 1)), (1, (1, 1)), (0, (4, 0))]) (st' := []) (hsC := []) (v := (1, 1)) (st2 := [(1, 1)]) (jA_194_94 (d := 0)) (by rfl) (by rfl) (by decide +kernel) (by rfl) (by rfl) (by omega) (by omega) (by omega) (by omega) rfl ?_
  refine jT_advK 11 (pc' := 20) (L' := [(3, (0, 2)), (1, (1, 1)), (0, (4, 0))]) (st' := [(1, 0), (1, 1)]) (hs' := jpA_403) (c1 := 0) (s1 := 0) (c2 := 0) (s2 := 0) (by decide +kernel) ?_ (by omega) (by omega)
  refine jT_fR [] 16 (y := 194) (pc' := 23) (dC := 0) (bc1 := 0) (bc2 := 0) (c1 := 0) (c2 := 0) (as := [(1, 1), (1, 0)]) (asC := [(1, 1), (1, 0)]) (L' := [(3, (0, 2)), (1, (1, 1)), (0, (4, 0))]) (st' := []) (hsC := []) (v := (1, 1)) (st2 := [(1, 1)]) (jA_194_94 (d := 0)) (by rfl) (by rfl) (by decide +kernel) (by rfl) (by rfl) (by omega) (by omega) (by omega) (by omega) rfl ?_
  refine jT_advK 11 (pc' := 20) (L' := [(3, (0, 3)), (1, (1, 1)), (0, (4, 0))]) (st' := [(1, 0), (1, 1)]) (hs' := jpA_403) (c1 := 0) (s1 := 0) (c2 := 0) (s2 := 0) (by decide +kernel) ?_ (by omega) (by omega)
  refine jT_fR [] 16 (y := 194) (pc' := 23) (dC := 0) (bc1 := 0) (bc2 := 0) (c1 := 0) (c2 := 0) (as := [(1, 1), (1, 0)]) (asC := [(1, 1), (1, 0)]) (L' := [(3, (0, 3)), (1, (1, 1)), (0, (4, 0))]) (st' := []) (hsC := []) (v := (1, 1)) (st2 := [(1, 1)]) (jA_194_94 (d := 0)) (by rfl) (by rfl) (by decide +kernel) (by rfl) (by rfl) (by omega) (by omega) (by omega) (by omega) rfl ?_
  refine jT_advK 11 (pc' := 20) (L' := [(3, (0, 4)), (1, (1, 1)), (0, (4, 0))]) (st' := [(1, 0), (1, 1)]) (hs' := jpA_403) (c1 := 0) (s1 := 0) (c2 := 0) (s2 := 0) (by decide +kernel) ?_ (by omega) (by omega)
  refine jT_fR [] 16 (y := 194) (pc' := 23) (dC := 0) (bc1 := 0) (bc2 := 0) (c1 := 0) (c2 := 0) (as := [(1, 1), (1, 0)]) (asC := [(1, 1), (1, 0)]) (L' := [(3, (0, 4)), (1, (1, 1)), (0, (4, 0))]) (st' := []) (hsC := []) (v := (1, 1)) (st2 := [(1, 1)]) (jA_194_94 (d := 0)) (by rfl) (by rfl) (by decide +kernel) (by rfl) (by rfl) (by omega) (by omega) (by omega) (by omega) rfl ?_
  refine jT_advK 11 (pc' := 20) (L' := [(3, (0, 5)), (1, (1, 1)), (0, (4, 0))]) (st' := [(1, 0), (1, 1)]) (hs' := jpA_403) (c1 := 0) (s1 := 0) (c2 := 0) (s2 := 0) (by decide +kernel) ?_ (by omega) (by omega)
  refine jT_fR [] 16 (y := 194) (pc' := 23) (dC := 0) (bc1 := 0) (bc2 := 0) (c1 := 0) (c2 := 0) (as := [(1, 1), (1, 0)]) (asC := [(1, 1), (1, 0)]) (L' := [(3, (0, 5)), (1, (1, 1)), (0, (4, 0))]) (st' := []) (hsC := []) (v := (1, 1)) (st2 := [(1, 1)]) (jA_194_94 (d := 0)) (by rfl) (by rfl) (by decide +kernel) (by rfl) (by rfl) (by omega) (by omega) (by omega) (by omega) rfl ?_
  refine jT_advK 8 (pc' := 34) (L' := [(3, (0, 6)), (1, (1, 1)), (0, (4, 0))]) (st' := [(4, 7)]) (hs' := jpA_403) (c1 := 0) (s1 := 0) (c2 := 0) (s2 := 0) (by decide +kernel) ?_ (by omega) (by omega)
  refine jT_fR [7] 16 (y := 200) (pc' := 37) (dC := 0) (bc1 := 0) (bc2 := 0) (c1 := 0) (c2 := 0) (as := [(4, 7)]) (asC := [(4, 0)]) (L' := [(3, (0, 6)), (1, (1, 1)), (0, (4, 0))]) (st' := []) (hsC := [(101, [], [0, 0, 0, 0, 0, 0])]) (v := (0, 1)) (st2 := [(0, 1)]) (jA_200_95 (d := 0)) (by rfl) (by rfl) (by decide +kernel) (by rfl) (by rfl) (by omega) (by omega) (by omega) (by omega) rfl ?_
  refine jT_advK 93 (pc' := 79) (L' := [(3, (0, 6)), (1, (1, 1)), (0, (4, 0))]) (st' := []) (hs' := jpA_403) (c1 := 0) (s1 := 0) (c2 := 0) (s2 := 0) (by decide +kernel) ?_ (by omega) (by omega)
  exact jT_ret rfl (by decide) (by show 16 ≤ 16; decide) (by omega) (by omega) ⟨rfl, rfl, rfl⟩
theorem jI_207_0 : jmI (jm 207) 0 = (.iconst 0, 1) := by rfl
theorem jI_207_1 : jmI (jm 207) 1 = (.istore_n 3, 1) := by rfl
theorem jI_207_2 : jmI (jm 207) 2 = (.iload_n 3, 1) := by rfl
theorem jI_207_3 : jmI (jm 207) 3 = (.bipush 6, 2) := by rfl
theorem jI_207_5 : jmI (jm 207) 5 = (.if_icmp .ge 20, 3) := by rfl
theorem jI_207_8 : jmI (jm 207) 8 = (.aload_n 0, 1) := by rfl
theorem jI_207_9 : jmI (jm 207) 9 = (.getfield 31, 3) := by rfl
theorem jI_207_12 : jmI (jm 207) 12 = (.iload_n 3, 1) := by rfl
theorem jI_207_14 : jmI (jm 207) 14 = (.laload, 1) := by rfl
theorem jI_207_15 : jmI (jm 207) 15 = (.iload_n 1, 1) := by rfl
theorem jI_207_16 : jmI (jm 207) 16 = (.i2l, 1) := by rfl
theorem jI_207_17 : jmI (jm 207) 17 = (.lmul, 1) := by rfl
theorem jI_207_19 : jmI (jm 207) 19 = (.iinc 3 1, 3) := by rfl
theorem jI_207_22 : jmI (jm 207) 22 = (.goto (-20), 3) := by rfl
theorem jI_207_25 : jmI (jm 207) 25 = (.aload_n 0, 1) := by rfl
theorem jI_207_27 : jmI (jm 207) 27 = (.getfield 35, 3) := by rfl
theorem jI_207_30 : jmI (jm 207) 30 = (.iload_n 2, 1) := by rfl
theorem jI_207_31 : jmI (jm 207) 31 = (.i2l, 1) := by rfl
theorem jI_207_32 : jmI (jm 207) 32 = (.lmul, 1) := by rfl
theorem jI_207_36 : jmI (jm 207) 36 = (.aload_n 0, 1) := by rfl
theorem jA_207_97 {xs : List Int} {d : Nat} {x2 : Int} (h_x2 : (-100) ≤ x2 ∧ x2 ≤ 100) : jT xs (d + 2) 207 16 0 [(0, (4, 0)), (1, (0, x2)), (2, (0, 1))] [] jpA_403 0 0 (fun k v hs' => k = 0 ∧ v = (9, 0) ∧ hs' = jpA_403 ++ []) := by
  refine jT_xiconst (k := 0) (pc' := 1) jI_207_0 rfl ?_
  refine jT_xistore_n (v := (0, 0)) (L' := [(3, (0, 0)), (0, (4, 0)), (1, (0, x2)), (2, (0, 1))]) (pc' := 2) jI_207_1 rfl rfl rfl rfl ?_
  refine jT_xiload_n (v := (0, 0)) (pc' := 3) jI_207_2 rfl rfl rfl ?_
  refine jT_xbipush (k := 6) (pc' := 5) jI_207_3 (by decide) rfl ?_
  refine jT_xicF (t := 25) (pc' := 8) jI_207_5 rfl (by decide +kernel) rfl rfl ?_
  refine jT_xaload_n (v := (4, 0)) (pc' := 9) jI_207_8 rfl rfl rfl ?_
  refine jT_xgetf (a := 0) (t := 1) (ci := 14) (fi := 9) (c := jzA_22) (v := (4, 7)) (pc' := 12) jI_207_9 rfl rfl rfl rfl rfl rfl rfl ?_
  refine jT_xiload_n (v := (0, 0)) (pc' := 13) jI_207_12 rfl rfl rfl ?_
  refine jT_adv 1 (pc' := 14) (L' := [(3, (0, 0)), (0, (4, 0)), (1, (0, x2)), (2, (0, 1))]) (st' := [(0, 0), (4, 7), (0, 0), (4, 7)]) (hs' := jpA_403) (c1 := 0) (s1 := 0) (c2 := 0) (s2 := 0) (by exact rfl) ?_ (by omega) (by omega)
  refine jT_lald (x := 0) (a := 7) (j := 0) (fs := []) (X := [0, 0, 0, 0, 0, 0]) jI_207_14 rfl rfl rfl rfl ?_
  refine jT_eq (L' := [(3, (0, 0)), (0, (4, 0)), (1, (0, x2)), (2, (0, 1))]) (st' := [(1, 0), (0, 0), (4, 7)]) (hs' := jpA_403) rfl rfl rfl ?_
  refine jT_xiload_n (v := (0, x2)) (pc' := 16) jI_207_15 rfl rfl rfl ?_
  refine jT_xi2l (x := x2) (z := x2) (pc' := 17) jI_207_16 rfl (jw_idd (by omega) (by omega)) rfl ?_
  refine jT_xlmul (x := 0) (y := x2) (z := 0) (pc' := 18) jI_207_17 rfl (by omega) rfl ?_
  refine jT_adv 1 (pc' := 19) (L' := [(3, (0, 0)), (0, (4, 0)), (1, (0, x2)), (2, (0, 1))]) (st' := []) (hs' := jpA_403) (c1 := 0) (s1 := 0) (c2 := 0) (s2 := 0) (by exact rfl) ?_ (by omega) (by omega)
  refine jT_xiinc (x := 0) (z := 1) (L' := [(3, (0, 1)), (0, (4, 0)), (1, (0, x2)), (2, (0, 1))]) (pc' := 22) jI_207_19 rfl rfl (by decide) rfl rfl ?_
  refine jT_xgoto (pc' := 2) jI_207_22 rfl ?_
  refine jT_xiload_n (v := (0, 1)) (pc' := 3) jI_207_2 rfl rfl rfl ?_
  refine jT_xbipush (k := 6) (pc' := 5) jI_207_3 (by decide) rfl ?_
  refine jT_xicF (t := 25) (pc' := 8) jI_207_5 rfl (by decide +kernel) rfl rfl ?_
  refine jT_xaload_n (v := (4, 0)) (pc' := 9) jI_207_8 rfl rfl rfl ?_
  refine jT_xgetf (a := 0) (t := 1) (ci := 14) (fi := 9) (c := jzA_22) (v := (4, 7)) (pc' := 12) jI_207_9 rfl rfl rfl rfl rfl rfl rfl ?_
  refine jT_xiload_n (v := (0, 1)) (pc' := 13) jI_207_12 rfl rfl rfl ?_
  refine jT_adv 1 (pc' := 14) (L' := [(3, (0, 1)), (0, (4, 0)), (1, (0, x2)), (2, (0, 1))]) (st' := [(0, 1), (4, 7), (0, 1), (4, 7)]) (hs' := jpA_403) (c1 := 0) (s1 := 0) (c2 := 0) (s2 := 0) (by exact rfl) ?_ (by omega) (by omega)
  refine jT_lald (x := 0) (a := 7) (j := 1) (fs := []) (X := [0, 0, 0, 0, 0, 0]) jI_207_14 rfl rfl rfl rfl ?_
  refine jT_eq (L' := [(3, (0, 1)), (0, (4, 0)), (1, (0, x2)), (2, (0, 1))]) (st' := [(1, 0), (0, 1), (4, 7)]) (hs' := jpA_403) rfl rfl rfl ?_
  refine jT_xiload_n (v := (0, x2)) (pc' := 16) jI_207_15 rfl rfl rfl ?_
  refine jT_xi2l (x := x2) (z := x2) (pc' := 17) jI_207_16 rfl (jw_idd (by omega) (by omega)) rfl ?_
  refine jT_xlmul (x := 0) (y := x2) (z := 0) (pc' := 18) jI_207_17 rfl (by omega) rfl ?_
  refine jT_adv 1 (pc' := 19) (L' := [(3, (0, 1)), (0, (4, 0)), (1, (0, x2)), (2, (0, 1))]) (st' := []) (hs' := jpA_403) (c1 := 0) (s1 := 0) (c2 := 0) (s2 := 0) (by exact rfl) ?_ (by omega) (by omega)
  refine jT_xiinc (x := 1) (z := 2) (L' := [(3, (0, 2)), (0, (4, 0)), (1, (0, x2)), (2, (0, 1))]) (pc' := 22) jI_207_19 rfl rfl (by decide) rfl rfl ?_
  refine jT_xgoto (pc' := 2) jI_207_22 rfl ?_
  refine jT_xiload_n (v := (0, 2)) (pc' := 3) jI_207_2 rfl rfl rfl ?_
  refine jT_xbipush (k := 6) (pc' := 5) jI_207_3 (by decide) rfl ?_
  refine jT_xicF (t := 25) (pc' := 8) jI_207_5 rfl (by decide +kernel) rfl rfl ?_
  refine jT_xaload_n (v := (4, 0)) (pc' := 9) jI_207_8 rfl rfl rfl ?_
  refine jT_xgetf (a := 0) (t := 1) (ci := 14) (fi := 9) (c := jzA_22) (v := (4, 7)) (pc' := 12) jI_207_9 rfl rfl rfl rfl rfl rfl rfl ?_
  refine jT_xiload_n (v := (0, 2)) (pc' := 13) jI_207_12 rfl rfl rfl ?_
  refine jT_adv 1 (pc' := 14) (L' := [(3, (0, 2)), (0, (4, 0)), (1, (0, x2)), (2, (0, 1))]) (st' := [(0, 2), (4, 7), (0, 2), (4, 7)]) (hs' := jpA_403) (c1 := 0) (s1 := 0) (c2 := 0) (s2 := 0) (by exact rfl) ?_ (by omega) (by omega)
  refine jT_lald (x := 0) (a := 7) (j := 2) (fs := []) (X := [0, 0, 0, 0, 0, 0]) jI_207_14 rfl rfl rfl rfl ?_
  refine jT_eq (L' := [(3, (0, 2)), (0, (4, 0)), (1, (0, x2)), (2, (0, 1))]) (st' := [(1, 0), (0, 2), (4, 7)]) (hs' := jpA_403) rfl rfl rfl ?_
  refine jT_xiload_n (v := (0, x2)) (pc' := 16) jI_207_15 rfl rfl rfl ?_
  refine jT_xi2l (x := x2) (z := x2) (pc' := 17) jI_207_16 rfl (jw_idd (by omega) (by omega)) rfl ?_
  refine jT_xlmul (x := 0) (y := x2) (z := 0) (pc' := 18) jI_207_17 rfl (by omega) rfl ?_
  refine jT_adv 1 (pc' := 19) (L' := [(3, (0, 2)), (0, (4, 0)), (1, (0, x2)), (2, (0, 1))]) (st' := []) (hs' := jpA_403) (c1 := 0) (s1 := 0) (c2 := 0) (s2 := 0) (by exact rfl) ?_ (by omega) (by omega)
  refine jT_xiinc (x := 2) (z := 3) (L' := [(3, (0, 3)), (0, (4, 0)), (1, (0, x2)), (2, (0, 1))]) (pc' := 22) jI_207_19 rfl rfl (by decide) rfl rfl ?_
  refine jT_xgoto (pc' := 2) jI_207_22 rfl ?_
  refine jT_xiload_n (v := (0, 3)) (pc' := 3) jI_207_2 rfl rfl rfl ?_
  refine jT_xbipush (k := 6) (pc' := 5) jI_207_3 (by decide) rfl ?_
  refine jT_xicF (t := 25) (pc' := 8) jI_207_5 rfl (by decide +kernel) rfl rfl ?_
  refine jT_xaload_n (v := (4, 0)) (pc' := 9) jI_207_8 rfl rfl rfl ?_
  refine jT_xgetf (a := 0) (t := 1) (ci := 14) (fi := 9) (c := jzA_22) (v := (4, 7)) (pc' := 12) jI_207_9 rfl rfl rfl rfl rfl rfl rfl ?_
  refine jT_xiload_n (v := (0, 3)) (pc' := 13) jI_207_12 rfl rfl rfl ?_
  refine jT_adv 1 (pc' := 14) (L' := [(3, (0, 3)), (0, (4, 0)), (1, (0, x2)), (2, (0, 1))]) (st' := [(0, 3), (4, 7), (0, 3), (4, 7)]) (hs' := jpA_403) (c1 := 0) (s1 := 0) (c2 := 0) (s2 := 0) (by exact rfl) ?_ (by omega) (by omega)
  refine jT_lald (x := 0) (a := 7) (j := 3) (fs := []) (X := [0, 0, 0, 0, 0, 0]) jI_207_14 rfl rfl rfl rfl ?_
  refine jT_eq (L' := [(3, (0, 3)), (0, (4, 0)), (1, (0, x2)), (2, (0, 1))]) (st' := [(1, 0), (0, 3), (4, 7)]) (hs' := jpA_403) rfl rfl rfl ?_
  refine jT_xiload_n (v := (0, x2)) (pc' := 16) jI_207_15 rfl rfl rfl ?_
  refine jT_xi2l (x := x2) (z := x2) (pc' := 17) jI_207_16 rfl (jw_idd (by omega) (by omega)) rfl ?_
  refine jT_xlmul (x := 0) (y := x2) (z := 0) (pc' := 18) jI_207_17 rfl (by omega) rfl ?_
  refine jT_adv 1 (pc' := 19) (L' := [(3, (0, 3)), (0, (4, 0)), (1, (0, x2)), (2, (0, 1))]) (st' := []) (hs' := jpA_403) (c1 := 0) (s1 := 0) (c2 := 0) (s2 := 0) (by exact rfl) ?_ (by omega) (by omega)
  refine jT_xiinc (x := 3) (z := 4) (L' := [(3, (0, 4)), (0, (4, 0)), (1, (0, x2)), (2, (0, 1))]) (pc' := 22) jI_207_19 rfl rfl (by decide) rfl rfl ?_
  refine jT_xgoto (pc' := 2) jI_207_22 rfl ?_
  refine jT_xiload_n (v := (0, 4)) (pc' := 3) jI_207_2 rfl rfl rfl ?_
  refine jT_xbipush (k := 6) (pc' := 5) jI_207_3 (by decide) rfl ?_
  refine jT_xicF (t := 25) (pc' := 8) jI_207_5 rfl (by decide +kernel) rfl rfl ?_
  refine jT_xaload_n (v := (4, 0)) (pc' := 9) jI_207_8 rfl rfl rfl ?_
  refine jT_xgetf (a := 0) (t := 1) (ci := 14) (fi := 9) (c := jzA_22) (v := (4, 7)) (pc' := 12) jI_207_9 rfl rfl rfl rfl rfl rfl rfl ?_
  refine jT_xiload_n (v := (0, 4)) (pc' := 13) jI_207_12 rfl rfl rfl ?_
  refine jT_adv 1 (pc' := 14) (L' := [(3, (0, 4)), (0, (4, 0)), (1, (0, x2)), (2, (0, 1))]) (st' := [(0, 4), (4, 7), (0, 4), (4, 7)]) (hs' := jpA_403) (c1 := 0) (s1 := 0) (c2 := 0) (s2 := 0) (by exact rfl) ?_ (by omega) (by omega)
  refine jT_lald (x := 0) (a := 7) (j := 4) (fs := []) (X := [0, 0, 0, 0, 0, 0]) jI_207_14 rfl rfl rfl rfl ?_
  refine jT_eq (L' := [(3, (0, 4)), (0, (4, 0)), (1, (0, x2)), (2, (0, 1))]) (st' := [(1, 0), (0, 4), (4, 7)]) (hs' := jpA_403) rfl rfl rfl ?_
  refine jT_xiload_n (v := (0, x2)) (pc' := 16) jI_207_15 rfl rfl rfl ?_
  refine jT_xi2l (x := x2) (z := x2) (pc' := 17) jI_207_16 rfl (jw_idd (by omega) (by omega)) rfl ?_
  refine jT_xlmul (x := 0) (y := x2) (z := 0) (pc' := 18) jI_207_17 rfl (by omega) rfl ?_
  refine jT_adv 1 (pc' := 19) (L' := [(3, (0, 4)), (0, (4, 0)), (1, (0, x2)), (2, (0, 1))]) (st' := []) (hs' := jpA_403) (c1 := 0) (s1 := 0) (c2 := 0) (s2 := 0) (by exact rfl) ?_ (by omega) (by omega)
  refine jT_xiinc (x := 4) (z := 5) (L' := [(3, (0, 5)), (0, (4, 0)), (1, (0, x2)), (2, (0, 1))]) (pc' := 22) jI_207_19 rfl rfl (by decide) rfl rfl ?_
  refine jT_xgoto (pc' := 2) jI_207_22 rfl ?_
  refine jT_xiload_n (v := (0, 5)) (pc' := 3) jI_207_2 rfl rfl rfl ?_
  refine jT_xbipush (k := 6) (pc' := 5) jI_207_3 (by decide) rfl ?_
  refine jT_xicF (t := 25) (pc' := 8) jI_207_5 rfl (by decide +kernel) rfl rfl ?_
  refine jT_xaload_n (v := (4, 0)) (pc' := 9) jI_207_8 rfl rfl rfl ?_
  refine jT_xgetf (a := 0) (t := 1) (ci := 14) (fi := 9) (c := jzA_22) (v := (4, 7)) (pc' := 12) jI_207_9 rfl rfl rfl rfl rfl rfl rfl ?_
  refine jT_xiload_n (v := (0, 5)) (pc' := 13) jI_207_12 rfl rfl rfl ?_
  refine jT_adv 1 (pc' := 14) (L' := [(3, (0, 5)), (0, (4, 0)), (1, (0, x2)), (2, (0, 1))]) (st' := [(0, 5), (4, 7), (0, 5), (4, 7)]) (hs' := jpA_403) (c1 := 0) (s1 := 0) (c2 := 0) (s2 := 0) (by exact rfl) ?_ (by omega) (by omega)
  refine jT_lald (x := 0) (a := 7) (j := 5) (fs := []) (X := [0, 0, 0, 0, 0, 0]) jI_207_14 rfl rfl rfl rfl ?_
  refine jT_eq (L' := [(3, (0, 5)), (0, (4, 0)), (1, (0, x2)), (2, (0, 1))]) (st' := [(1, 0), (0, 5), (4, 7)]) (hs' := jpA_403) rfl rfl rfl ?_
  refine jT_xiload_n (v := (0, x2)) (pc' := 16) jI_207_15 rfl rfl rfl ?_
  refine jT_xi2l (x := x2) (z := x2) (pc' := 17) jI_207_16 rfl (jw_idd (by omega) (by omega)) rfl ?_
  refine jT_xlmul (x := 0) (y := x2) (z := 0) (pc' := 18) jI_207_17 rfl (by omega) rfl ?_
  refine jT_adv 1 (pc' := 19) (L' := [(3, (0, 5)), (0, (4, 0)), (1, (0, x2)), (2, (0, 1))]) (st' := []) (hs' := jpA_403) (c1 := 0) (s1 := 0) (c2 := 0) (s2 := 0) (by exact rfl) ?_ (by omega) (by omega)
  refine jT_xiinc (x := 5) (z := 6) (L' := [(3, (0, 6)), (0, (4, 0)), (1, (0, x2)), (2, (0, 1))]) (pc' := 22) jI_207_19 rfl rfl (by decide) rfl rfl ?_
  refine jT_xgoto (pc' := 2) jI_207_22 rfl ?_
  refine jT_xiload_n (v := (0, 6)) (pc' := 3) jI_207_2 rfl rfl rfl ?_
  refine jT_xbipush (k := 6) (pc' := 5) jI_207_3 (by decide) rfl ?_
  refine jT_xicT (pc' := 25) jI_207_5 rfl (by decide +kernel) rfl ?_
  refine jT_xaload_n (v := (4, 0)) (pc' := 26) jI_207_25 rfl rfl rfl ?_
  refine jT_adv 1 (pc' := 27) (L' := [(3, (0, 6)), (0, (4, 0)), (1, (0, x2)), (2, (0, 1))]) (st' := [(4, 0), (4, 0)]) (hs' := jpA_403) (c1 := 0) (s1 := 0) (c2 := 0) (s2 := 0) (by exact rfl) ?_ (by omega) (by omega)
  refine jT_xgetf (a := 0) (t := 1) (ci := 14) (fi := 10) (c := jzA_22) (v := (1, 1)) (pc' := 30) jI_207_27 rfl rfl rfl rfl rfl rfl rfl ?_
  refine jT_xiload_n (v := (0, 1)) (pc' := 31) jI_207_30 rfl rfl rfl ?_
  refine jT_xi2l (x := 1) (z := 1) (pc' := 32) jI_207_31 rfl (by decide +kernel) rfl ?_
  refine jT_xlmul (x := 1) (y := 1) (z := 1) (pc' := 33) jI_207_32 rfl (by decide) rfl ?_
  refine jT_adv 1 (pc' := 36) (L' := [(3, (0, 6)), (0, (4, 0)), (1, (0, x2)), (2, (0, 1))]) (st' := []) (hs' := jpA_403) (c1 := 0) (s1 := 0) (c2 := 0) (s2 := 0) (by exact rfl) ?_ (by omega) (by omega)
  refine jT_xaload_n (v := (4, 0)) (pc' := 37) jI_207_36 rfl rfl rfl ?_
  refine jT_fR [0, 1, 2, 3, 4, 5, 6, 7, 8, 9, 10, 11, 12, 13, 14, 15] 16 (y := 199) (pc' := 40) (dC := 1) (bc1 := 0) (bc2 := 0) (c1 := 0) (c2 := 0) (as := [(4, 0)]) (asC := [(4, 0)]) (L' := [(3, (0, 6)), (0, (4, 0)), (1, (0, x2)), (2, (0, 1))]) (st' := []) (hsC := jpA_403) (v := (9, 0)) (st2 := []) (jA_199_96 (d := 0)) (by rfl) (by rfl) (by decide +kernel) (by rfl) (by rfl) (by omega) (by omega) (by omega) (by omega) rfl ?_
  exact jT_ret rfl (by decide) (by show 16 ≤ 16; decide) (by omega) (by omega) ⟨rfl, rfl, rfl⟩
theorem jA_189_98 {xs : List Int} {d : Nat} : jT xs d 189 0 0 [(0, (1, 0)), (2, (1, (-5000))), (4, (1, 5000))] [] [] 0 0 (fun k v hs' => k = 0 ∧ v = (0, 1) ∧ hs' = [] ++ []) := by
  refine jT_advK 10 (pc' := 18) (L' := [(0, (1, 0)), (2, (1, (-5000))), (4, (1, 5000))]) (st' := [(0, 1)]) (hs' := []) (c1 := 0) (s1 := 0) (c2 := 0) (s2 := 0) (by decide +kernel) ?_ (by omega) (by omega)
  exact jT_ret rfl (by decide) (by show 0 ≤ 0; decide) (by omega) (by omega) ⟨rfl, rfl, rfl⟩
theorem jA_205_99 {xs : List Int} {d : Nat} : jT xs (d + 1) 205 16 0 [(0, (4, 0))] [] jpA_403 0 0 (fun k v hs' => k = 0 ∧ v = (0, 1) ∧ hs' = jpA_403 ++ []) := by
  refine jT_advK 21 (pc' := 41) (L' := [(2, (0, 0)), (1, (0, 1)), (0, (4, 0))]) (st' := [(1, 5000), (1, (-5000)), (1, 0)]) (hs' := jpA_403) (c1 := 0) (s1 := 0) (c2 := 0) (s2 := 0) (by decide +kernel) ?_ (by omega) (by omega)
  refine jT_fR [] 16 (y := 189) (pc' := 44) (dC := 0) (bc1 := 0) (bc2 := 0) (c1 := 0) (c2 := 0) (as := [(1, 0), (1, (-5000)), (1, 5000)]) (asC := [(1, 0), (1, (-5000)), (1, 5000)]) (L' := [(2, (0, 0)), (1, (0, 1)), (0, (4, 0))]) (st' := []) (hsC := []) (v := (0, 1)) (st2 := [(0, 1)]) (jA_189_98 (d := 0)) (by rfl) (by rfl) (by decide +kernel) (by rfl) (by rfl) (by omega) (by omega) (by omega) (by omega) rfl ?_
  refine jT_advK 17 (pc' := 41) (L' := [(2, (0, 1)), (1, (0, 1)), (0, (4, 0))]) (st' := [(1, 5000), (1, (-5000)), (1, 0)]) (hs' := jpA_403) (c1 := 0) (s1 := 0) (c2 := 0) (s2 := 0) (by decide +kernel) ?_ (by omega) (by omega)
  refine jT_fR [] 16 (y := 189) (pc' := 44) (dC := 0) (bc1 := 0) (bc2 := 0) (c1 := 0) (c2 := 0) (as := [(1, 0), (1, (-5000)), (1, 5000)]) (asC := [(1, 0), (1, (-5000)), (1, 5000)]) (L' := [(2, (0, 1)), (1, (0, 1)), (0, (4, 0))]) (st' := []) (hsC := []) (v := (0, 1)) (st2 := [(0, 1)]) (jA_189_98 (d := 0)) (by rfl) (by rfl) (by decide +kernel) (by rfl) (by rfl) (by omega) (by omega) (by omega) (by omega) rfl ?_
  refine jT_advK 17 (pc' := 41) (L' := [(2, (0, 2)), (1, (0, 1)), (0, (4, 0))]) (st' := [(1, 5000), (1, (-5000)), (1, 0)]) (hs' := jpA_403) (c1 := 0) (s1 := 0) (c2 := 0) (s2 := 0) (by decide +kernel) ?_ (by omega) (by omega)
  refine jT_fR [] 16 (y := 189) (pc' := 44) (dC := 0) (bc1 := 0) (bc2 := 0) (c1 := 0) (c2 := 0) (as := [(1, 0), (1, (-5000)), (1, 5000)]) (asC := [(1, 0), (1, (-5000)), (1, 5000)]) (L' := [(2, (0, 2)), (1, (0, 1)), (0, (4, 0))]) (st' := []) (hsC := []) (v := (0, 1)) (st2 := [(0, 1)]) (jA_189_98 (d := 0)) (by rfl) (by rfl) (by decide +kernel) (by rfl) (by rfl) (by omega) (by omega) (by omega) (by omega) rfl ?_
  refine jT_advK 17 (pc' := 41) (L' := [(2, (0, 3)), (1, (0, 1)), (0, (4, 0))]) (st' := [(1, 5000), (1, (-5000)), (1, 0)]) (hs' := jpA_403) (c1 := 0) (s1 := 0) (c2 := 0) (s2 := 0) (by decide +kernel) ?_ (by omega) (by omega)
  refine jT_fR [] 16 (y := 189) (pc' := 44) (dC := 0) (bc1 := 0) (bc2 := 0) (c1 := 0) (c2 := 0) (as := [(1, 0), (1, (-5000)), (1, 5000)]) (asC := [(1, 0), (1, (-5000)), (1, 5000)]) (L' := [(2, (0, 3)), (1, (0, 1)), (0, (4, 0))]) (st' := []) (hsC := []) (v := (0, 1)) (st2 := [(0, 1)]) (jA_189_98 (d := 0)) (by rfl) (by rfl) (by decide +kernel) (by rfl) (by rfl) (by omega) (by omega) (by omega) (by omega) rfl ?_
  refine jT_advK 17 (pc' := 41) (L' := [(2, (0, 4)), (1, (0, 1)), (0, (4, 0))]) (st' := [(1, 5000), (1, (-5000)), (1, 0)]) (hs' := jpA_403) (c1 := 0) (s1 := 0) (c2 := 0) (s2 := 0) (by decide +kernel) ?_ (by omega) (by omega)
  refine jT_fR [] 16 (y := 189) (pc' := 44) (dC := 0) (bc1 := 0) (bc2 := 0) (c1 := 0) (c2 := 0) (as := [(1, 0), (1, (-5000)), (1, 5000)]) (asC := [(1, 0), (1, (-5000)), (1, 5000)]) (L' := [(2, (0, 4)), (1, (0, 1)), (0, (4, 0))]) (st' := []) (hsC := []) (v := (0, 1)) (st2 := [(0, 1)]) (jA_189_98 (d := 0)) (by rfl) (by rfl) (by decide +kernel) (by rfl) (by rfl) (by omega) (by omega) (by omega) (by omega) rfl ?_
  refine jT_advK 17 (pc' := 41) (L' := [(2, (0, 5)), (1, (0, 1)), (0, (4, 0))]) (st' := [(1, 5000), (1, (-5000)), (1, 0)]) (hs' := jpA_403) (c1 := 0) (s1 := 0) (c2 := 0) (s2 := 0) (by decide +kernel) ?_ (by omega) (by omega)
  refine jT_fR [] 16 (y := 189) (pc' := 44) (dC := 0) (bc1 := 0) (bc2 := 0) (c1 := 0) (c2 := 0) (as := [(1, 0), (1, (-5000)), (1, 5000)]) (asC := [(1, 0), (1, (-5000)), (1, 5000)]) (L' := [(2, (0, 5)), (1, (0, 1)), (0, (4, 0))]) (st' := []) (hsC := []) (v := (0, 1)) (st2 := [(0, 1)]) (jA_189_98 (d := 0)) (by rfl) (by rfl) (by decide +kernel) (by rfl) (by rfl) (by omega) (by omega) (by omega) (by omega) rfl ?_
  refine jT_advK 10 (pc' := 60) (L' := [(2, (0, 6)), (1, (0, 1)), (0, (4, 0))]) (st' := [(0, 1)]) (hs' := jpA_403) (c1 := 0) (s1 := 0) (c2 := 0) (s2 := 0) (by decide +kernel) ?_ (by omega) (by omega)
  exact jT_ret rfl (by decide) (by show 16 ≤ 16; decide) (by omega) (by omega) ⟨rfl, rfl, rfl⟩
theorem jA_191_100 {xs : List Int} {d : Nat} : jT xs d 191 1 0 [(0, (4, 0)), (1, (0, 1)), (2, (0, 3))] [] [jgh] 0 0 (fun k v hs' => k = 0 ∧ v = (0, 0) ∧ hs' = [jgh] ++ []) := by
  refine jT_advK 5 (pc' := 18) (L' := [(0, (4, 0)), (1, (0, 1)), (2, (0, 3))]) (st' := [(0, 0)]) (hs' := [jgh]) (c1 := 0) (s1 := 0) (c2 := 0) (s2 := 0) (by decide +kernel) ?_ (by omega) (by omega)
  exact jT_ret rfl (by decide) (by show 1 ≤ 1; decide) (by omega) (by omega) ⟨rfl, rfl, rfl⟩
theorem jA_197_101 {xs : List Int} {d : Nat} {x1 : Int} (h_x1 : 0 ≤ x1 ∧ x1 ≤ 7) : jT xs d 197 16 0 [(0, (4, 0)), (1, (4, 1)), (2, (0, 7 * x1))] [] jpA_144 0 0 (fun k v hs' => k = 0 ∧ v = (9, 0) ∧ hs' = [jzA_127, (100, [], ((((((((((((((jS0).set ((7 * x1).toNat) 0)).set ((7 * x1 + 1).toNat) 0)).set ((7 * x1 + 2).toNat) 0)).set ((7 * x1 + 3).toNat) 0)).set ((7 * x1 + 4).toNat) 0)).set ((7 * x1 + 5).toNat) 0)).set ((7 * x1 + 6).toNat) 1)), jgh, jgh, jgh, jgh, jgh, (101, [], [0, 0, 0, 0, 0, 0]), jgh, jgh, jgh, jgh, jgh, jgh, jgh, jgh]) := by
  refine jT_xiconst (k := 0) (pc' := 1) jI_197_0 rfl ?_
  refine jT_xistore_n (v := (0, 0)) (L' := [(3, (0, 0)), (0, (4, 0)), (1, (4, 1)), (2, (0, 7 * x1))]) (pc' := 2) jI_197_1 rfl rfl rfl rfl ?_
  refine jT_xiload_n (v := (0, 0)) (pc' := 3) jI_197_2 rfl rfl rfl ?_
  refine jT_xbipush (k := 6) (pc' := 5) jI_197_3 (by decide) rfl ?_
  refine jT_xicF (t := 26) (pc' := 8) jI_197_5 rfl (by decide +kernel) rfl rfl ?_
  refine jT_xaload_n (v := (4, 1)) (pc' := 9) jI_197_8 rfl rfl rfl ?_
  refine jT_xiload_n (v := (0, 7 * x1)) (pc' := 10) jI_197_9 rfl rfl rfl ?_
  refine jT_xiload_n (v := (0, 0)) (pc' := 11) jI_197_10 rfl rfl rfl ?_
  refine jT_xiadd (x := 7 * x1) (y := 0) (z := 7 * x1) (pc' := 12) jI_197_11 rfl (by omega) rfl ?_
  refine jT_xaload_n (v := (4, 0)) (pc' := 13) jI_197_12 rfl rfl rfl ?_
  refine jT_xgetf (a := 0) (t := 1) (ci := 14) (fi := 9) (c := jzA_127) (v := (4, 7)) (pc' := 16) jI_197_13 rfl rfl rfl rfl rfl rfl rfl ?_
  refine jT_xiload_n (v := (0, 0)) (pc' := 17) jI_197_16 rfl rfl rfl ?_
  refine jT_lald (x := 0) (a := 7) (j := 0) (fs := []) (X := [0, 0, 0, 0, 0, 0]) jI_197_17 rfl rfl rfl rfl ?_
  refine jT_eq (L' := [(3, (0, 0)), (0, (4, 0)), (1, (4, 1)), (2, (0, 7 * x1))]) (st' := [(1, 0), (0, 7 * x1), (4, 1)]) (hs' := jpA_144) rfl rfl rfl ?_
  refine jT_xl2i (pc' := 19) jI_197_18 rfl rfl ?_
  refine jT_iast (x := 0) (a := 1) (j := (7 * x1).toNat) (fs := []) (X := jS0) (by rfl) (by rfl) (by rfl) (jw_nn (by omega) (by omega)) (by rw [show List.length (jS0 : List Int) = 1613 from jS0_len]; omega) ?_
  refine jT_eq (L' := [(3, (0, 0)), (0, (4, 0)), (1, (4, 1)), (2, (0, 7 * x1))]) (st' := []) (hs' := [jzA_127, (100, [], ((jS0).set ((7 * x1).toNat) 0)), jgh, jgh, jgh, jgh, jgh, (101, [], [0, 0, 0, 0, 0, 0]), jgh, jgh, jgh, jgh, jgh, jgh, jgh, jgh]) rfl rfl rfl ?_
  refine jT_xiinc (x := 0) (z := 1) (L' := [(3, (0, 1)), (0, (4, 0)), (1, (4, 1)), (2, (0, 7 * x1))]) (pc' := 23) jI_197_20 rfl rfl (by decide) rfl rfl ?_
  refine jT_xgoto (pc' := 2) jI_197_23 rfl ?_
  refine jT_xiload_n (v := (0, 1)) (pc' := 3) jI_197_2 rfl rfl rfl ?_
  refine jT_xbipush (k := 6) (pc' := 5) jI_197_3 (by decide) rfl ?_
  refine jT_xicF (t := 26) (pc' := 8) jI_197_5 rfl (by decide +kernel) rfl rfl ?_
  refine jT_xaload_n (v := (4, 1)) (pc' := 9) jI_197_8 rfl rfl rfl ?_
  refine jT_xiload_n (v := (0, 7 * x1)) (pc' := 10) jI_197_9 rfl rfl rfl ?_
  refine jT_xiload_n (v := (0, 1)) (pc' := 11) jI_197_10 rfl rfl rfl ?_
  refine jT_xiadd (x := 7 * x1) (y := 1) (z := 7 * x1 + 1) (pc' := 12) jI_197_11 rfl (by omega) rfl ?_
  refine jT_xaload_n (v := (4, 0)) (pc' := 13) jI_197_12 rfl rfl rfl ?_
  refine jT_xgetf (a := 0) (t := 1) (ci := 14) (fi := 9) (c := jzA_127) (v := (4, 7)) (pc' := 16) jI_197_13 rfl rfl rfl rfl rfl rfl rfl ?_
  refine jT_xiload_n (v := (0, 1)) (pc' := 17) jI_197_16 rfl rfl rfl ?_
  refine jT_lald (x := 0) (a := 7) (j := 1) (fs := []) (X := [0, 0, 0, 0, 0, 0]) jI_197_17 rfl rfl rfl rfl ?_
  refine jT_eq (L' := [(3, (0, 1)), (0, (4, 0)), (1, (4, 1)), (2, (0, 7 * x1))]) (st' := [(1, 0), (0, 7 * x1 + 1), (4, 1)]) (hs' := [jzA_127, (100, [], ((jS0).set ((7 * x1).toNat) 0)), jgh, jgh, jgh, jgh, jgh, (101, [], [0, 0, 0, 0, 0, 0]), jgh, jgh, jgh, jgh, jgh, jgh, jgh, jgh]) rfl rfl rfl ?_
  refine jT_xl2i (pc' := 19) jI_197_18 rfl rfl ?_
  refine jT_iast (x := 0) (a := 1) (j := (7 * x1 + 1).toNat) (fs := []) (X := ((jS0).set ((7 * x1).toNat) 0)) (by rfl) (by rfl) (by rfl) (jw_nn (by omega) (by omega)) (by rw [show List.length (((jS0).set ((7 * x1).toNat) 0) : List Int) = 1613 from by rw [List.length_set]; exact (jS0_len)]; omega) ?_
  refine jT_eq (L' := [(3, (0, 1)), (0, (4, 0)), (1, (4, 1)), (2, (0, 7 * x1))]) (st' := []) (hs' := [jzA_127, (100, [], ((((jS0).set ((7 * x1).toNat) 0)).set ((7 * x1 + 1).toNat) 0)), jgh, jgh, jgh, jgh, jgh, (101, [], [0, 0, 0, 0, 0, 0]), jgh, jgh, jgh, jgh, jgh, jgh, jgh, jgh]) rfl rfl rfl ?_
  refine jT_xiinc (x := 1) (z := 2) (L' := [(3, (0, 2)), (0, (4, 0)), (1, (4, 1)), (2, (0, 7 * x1))]) (pc' := 23) jI_197_20 rfl rfl (by decide) rfl rfl ?_
  refine jT_xgoto (pc' := 2) jI_197_23 rfl ?_
  refine jT_xiload_n (v := (0, 2)) (pc' := 3) jI_197_2 rfl rfl rfl ?_
  refine jT_xbipush (k := 6) (pc' := 5) jI_197_3 (by decide) rfl ?_
  refine jT_xicF (t := 26) (pc' := 8) jI_197_5 rfl (by decide +kernel) rfl rfl ?_
  refine jT_xaload_n (v := (4, 1)) (pc' := 9) jI_197_8 rfl rfl rfl ?_
  refine jT_xiload_n (v := (0, 7 * x1)) (pc' := 10) jI_197_9 rfl rfl rfl ?_
  refine jT_xiload_n (v := (0, 2)) (pc' := 11) jI_197_10 rfl rfl rfl ?_
  refine jT_xiadd (x := 7 * x1) (y := 2) (z := 7 * x1 + 2) (pc' := 12) jI_197_11 rfl (by omega) rfl ?_
  refine jT_xaload_n (v := (4, 0)) (pc' := 13) jI_197_12 rfl rfl rfl ?_
  refine jT_xgetf (a := 0) (t := 1) (ci := 14) (fi := 9) (c := jzA_127) (v := (4, 7)) (pc' := 16) jI_197_13 rfl rfl rfl rfl rfl rfl rfl ?_
  refine jT_xiload_n (v := (0, 2)) (pc' := 17) jI_197_16 rfl rfl rfl ?_
  refine jT_lald (x := 0) (a := 7) (j := 2) (fs := []) (X := [0, 0, 0, 0, 0, 0]) jI_197_17 rfl rfl rfl rfl ?_
  refine jT_eq (L' := [(3, (0, 2)), (0, (4, 0)), (1, (4, 1)), (2, (0, 7 * x1))]) (st' := [(1, 0), (0, 7 * x1 + 2), (4, 1)]) (hs' := [jzA_127, (100, [], ((((jS0).set ((7 * x1).toNat) 0)).set ((7 * x1 + 1).toNat) 0)), jgh, jgh, jgh, jgh, jgh, (101, [], [0, 0, 0, 0, 0, 0]), jgh, jgh, jgh, jgh, jgh, jgh, jgh, jgh]) rfl rfl rfl ?_
  refine jT_xl2i (pc' := 19) jI_197_18 rfl rfl ?_
  refine jT_iast (x := 0) (a := 1) (j := (7 * x1 + 2).toNat) (fs := []) (X := ((((jS0).set ((7 * x1).toNat) 0)).set ((7 * x1 + 1).toNat) 0)) (by rfl) (by rfl) (by rfl) (jw_nn (by omega) (by omega)) (by rw [show List.length (((((jS0).set ((7 * x1).toNat) 0)).set ((7 * x1 + 1).toNat) 0) : List Int) = 1613 from by rw [List.length_set, List.length_set]; exact (jS0_len)]; omega) ?_
  refine jT_eq (L' := [(3, (0, 2)), (0, (4, 0)), (1, (4, 1)), (2, (0, 7 * x1))]) (st' := []) (hs' := [jzA_127, (100, [], ((((((jS0).set ((7 * x1).toNat) 0)).set ((7 * x1 + 1).toNat) 0)).set ((7 * x1 + 2).toNat) 0)), jgh, jgh, jgh, jgh, jgh, (101, [], [0, 0, 0, 0, 0, 0]), jgh, jgh, jgh, jgh, jgh, jgh, jgh, jgh]) rfl rfl rfl ?_
  refine jT_xiinc (x := 2) (z := 3) (L' := [(3, (0, 3)), (0, (4, 0)), (1, (4, 1)), (2, (0, 7 * x1))]) (pc' := 23) jI_197_20 rfl rfl (by decide) rfl rfl ?_
  refine jT_xgoto (pc' := 2) jI_197_23 rfl ?_
  refine jT_xiload_n (v := (0, 3)) (pc' := 3) jI_197_2 rfl rfl rfl ?_
  refine jT_xbipush (k := 6) (pc' := 5) jI_197_3 (by decide) rfl ?_
  refine jT_xicF (t := 26) (pc' := 8) jI_197_5 rfl (by decide +kernel) rfl rfl ?_
  refine jT_xaload_n (v := (4, 1)) (pc' := 9) jI_197_8 rfl rfl rfl ?_
  refine jT_xiload_n (v := (0, 7 * x1)) (pc' := 10) jI_197_9 rfl rfl rfl ?_
  refine jT_xiload_n (v := (0, 3)) (pc' := 11) jI_197_10 rfl rfl rfl ?_
  refine jT_xiadd (x := 7 * x1) (y := 3) (z := 7 * x1 + 3) (pc' := 12) jI_197_11 rfl (by omega) rfl ?_
  refine jT_xaload_n (v := (4, 0)) (pc' := 13) jI_197_12 rfl rfl rfl ?_
  refine jT_xgetf (a := 0) (t := 1) (ci := 14) (fi := 9) (c := jzA_127) (v := (4, 7)) (pc' := 16) jI_197_13 rfl rfl rfl rfl rfl rfl rfl ?_
  refine jT_xiload_n (v := (0, 3)) (pc' := 17) jI_197_16 rfl rfl rfl ?_
  refine jT_lald (x := 0) (a := 7) (j := 3) (fs := []) (X := [0, 0, 0, 0, 0, 0]) jI_197_17 rfl rfl rfl rfl ?_
  refine jT_eq (L' := [(3, (0, 3)), (0, (4, 0)), (1, (4, 1)), (2, (0, 7 * x1))]) (st' := [(1, 0), (0, 7 * x1 + 3), (4, 1)]) (hs' := [jzA_127, (100, [], ((((((jS0).set ((7 * x1).toNat) 0)).set ((7 * x1 + 1).toNat) 0)).set ((7 * x1 + 2).toNat) 0)), jgh, jgh, jgh, jgh, jgh, (101, [], [0, 0, 0, 0, 0, 0]), jgh, jgh, jgh, jgh, jgh, jgh, jgh, jgh]) rfl rfl rfl ?_
  refine jT_xl2i (pc' := 19) jI_197_18 rfl rfl ?_
  refine jT_iast (x := 0) (a := 1) (j := (7 * x1 + 3).toNat) (fs := []) (X := ((((((jS0).set ((7 * x1).toNat) 0)).set ((7 * x1 + 1).toNat) 0)).set ((7 * x1 + 2).toNat) 0)) (by rfl) (by rfl) (by rfl) (jw_nn (by omega) (by omega)) (by rw [show List.length (((((((jS0).set ((7 * x1).toNat) 0)).set ((7 * x1 + 1).toNat) 0)).set ((7 * x1 + 2).toNat) 0) : List Int) = 1613 from by rw [List.length_set, List.length_set, List.length_set]; exact (jS0_len)]; omega) ?_
  refine jT_eq (L' := [(3, (0, 3)), (0, (4, 0)), (1, (4, 1)), (2, (0, 7 * x1))]) (st' := []) (hs' := [jzA_127, (100, [], ((((((((jS0).set ((7 * x1).toNat) 0)).set ((7 * x1 + 1).toNat) 0)).set ((7 * x1 + 2).toNat) 0)).set ((7 * x1 + 3).toNat) 0)), jgh, jgh, jgh, jgh, jgh, (101, [], [0, 0, 0, 0, 0, 0]), jgh, jgh, jgh, jgh, jgh, jgh, jgh, jgh]) rfl rfl rfl ?_
  refine jT_xiinc (x := 3) (z := 4) (L' := [(3, (0, 4)), (0, (4, 0)), (1, (4, 1)), (2, (0, 7 * x1))]) (pc' := 23) jI_197_20 rfl rfl (by decide) rfl rfl ?_
  refine jT_xgoto (pc' := 2) jI_197_23 rfl ?_
  refine jT_xiload_n (v := (0, 4)) (pc' := 3) jI_197_2 rfl rfl rfl ?_
  refine jT_xbipush (k := 6) (pc' := 5) jI_197_3 (by decide) rfl ?_
  refine jT_xicF (t := 26) (pc' := 8) jI_197_5 rfl (by decide +kernel) rfl rfl ?_
  refine jT_xaload_n (v := (4, 1)) (pc' := 9) jI_197_8 rfl rfl rfl ?_
  refine jT_xiload_n (v := (0, 7 * x1)) (pc' := 10) jI_197_9 rfl rfl rfl ?_
  refine jT_xiload_n (v := (0, 4)) (pc' := 11) jI_197_10 rfl rfl rfl ?_
  refine jT_xiadd (x := 7 * x1) (y := 4) (z := 7 * x1 + 4) (pc' := 12) jI_197_11 rfl (by omega) rfl ?_
  refine jT_xaload_n (v := (4, 0)) (pc' := 13) jI_197_12 rfl rfl rfl ?_
  refine jT_xgetf (a := 0) (t := 1) (ci := 14) (fi := 9) (c := jzA_127) (v := (4, 7)) (pc' := 16) jI_197_13 rfl rfl rfl rfl rfl rfl rfl ?_
  refine jT_xiload_n (v := (0, 4)) (pc' := 17) jI_197_16 rfl rfl rfl ?_
  refine jT_lald (x := 0) (a := 7) (j := 4) (fs := []) (X := [0, 0, 0, 0, 0, 0]) jI_197_17 rfl rfl rfl rfl ?_
  refine jT_eq (L' := [(3, (0, 4)), (0, (4, 0)), (1, (4, 1)), (2, (0, 7 * x1))]) (st' := [(1, 0), (0, 7 * x1 + 4), (4, 1)]) (hs' := [jzA_127, (100, [], ((((((((jS0).set ((7 * x1).toNat) 0)).set ((7 * x1 + 1).toNat) 0)).set ((7 * x1 + 2).toNat) 0)).set ((7 * x1 + 3).toNat) 0)), jgh, jgh, jgh, jgh, jgh, (101, [], [0, 0, 0, 0, 0, 0]), jgh, jgh, jgh, jgh, jgh, jgh, jgh, jgh]) rfl rfl rfl ?_
  refine jT_xl2i (pc' := 19) jI_197_18 rfl rfl ?_
  refine jT_iast (x := 0) (a := 1) (j := (7 * x1 + 4).toNat) (fs := []) (X := ((((((((jS0).set ((7 * x1).toNat) 0)).set ((7 * x1 + 1).toNat) 0)).set ((7 * x1 + 2).toNat) 0)).set ((7 * x1 + 3).toNat) 0)) (by rfl) (by rfl) (by rfl) (jw_nn (by omega) (by omega)) (by rw [show List.length (((((((((jS0).set ((7 * x1).toNat) 0)).set ((7 * x1 + 1).toNat) 0)).set ((7 * x1 + 2).toNat) 0)).set ((7 * x1 + 3).toNat) 0) : List Int) = 1613 from by rw [List.length_set, List.length_set, List.length_set, List.length_set]; exact (jS0_len)]; omega) ?_
  refine jT_eq (L' := [(3, (0, 4)), (0, (4, 0)), (1, (4, 1)), (2, (0, 7 * x1))]) (st' := []) (hs' := [jzA_127, (100, [], ((((((((((jS0).set ((7 * x1).toNat) 0)).set ((7 * x1 + 1).toNat) 0)).set ((7 * x1 + 2).toNat) 0)).set ((7 * x1 + 3).toNat) 0)).set ((7 * x1 + 4).toNat) 0)), jgh, jgh, jgh, jgh, jgh, (101, [], [0, 0, 0, 0, 0, 0]), jgh, jgh, jgh, jgh, jgh, jgh, jgh, jgh]) rfl rfl rfl ?_
  refine jT_xiinc (x := 4) (z := 5) (L' := [(3, (0, 5)), (0, (4, 0)), (1, (4, 1)), (2, (0, 7 * x1))]) (pc' := 23) jI_197_20 rfl rfl (by decide) rfl rfl ?_
  refine jT_xgoto (pc' := 2) jI_197_23 rfl ?_
  refine jT_xiload_n (v := (0, 5)) (pc' := 3) jI_197_2 rfl rfl rfl ?_
  refine jT_xbipush (k := 6) (pc' := 5) jI_197_3 (by decide) rfl ?_
  refine jT_xicF (t := 26) (pc' := 8) jI_197_5 rfl (by decide +kernel) rfl rfl ?_
  refine jT_xaload_n (v := (4, 1)) (pc' := 9) jI_197_8 rfl rfl rfl ?_
  refine jT_xiload_n (v := (0, 7 * x1)) (pc' := 10) jI_197_9 rfl rfl rfl ?_
  refine jT_xiload_n (v := (0, 5)) (pc' := 11) jI_197_10 rfl rfl rfl ?_
  refine jT_xiadd (x := 7 * x1) (y := 5) (z := 7 * x1 + 5) (pc' := 12) jI_197_11 rfl (by omega) rfl ?_
  refine jT_xaload_n (v := (4, 0)) (pc' := 13) jI_197_12 rfl rfl rfl ?_
  refine jT_xgetf (a := 0) (t := 1) (ci := 14) (fi := 9) (c := jzA_127) (v := (4, 7)) (pc' := 16) jI_197_13 rfl rfl rfl rfl rfl rfl rfl ?_
  refine jT_xiload_n (v := (0, 5)) (pc' := 17) jI_197_16 rfl rfl rfl ?_
  refine jT_lald (x := 0) (a := 7) (j := 5) (fs := []) (X := [0, 0, 0, 0, 0, 0]) jI_197_17 rfl rfl rfl rfl ?_
  refine jT_eq (L' := [(3, (0, 5)), (0, (4, 0)), (1, (4, 1)), (2, (0, 7 * x1))]) (st' := [(1, 0), (0, 7 * x1 + 5), (4, 1)]) (hs' := [jzA_127, (100, [], ((((((((((jS0).set ((7 * x1).toNat) 0)).set ((7 * x1 + 1).toNat) 0)).set ((7 * x1 + 2).toNat) 0)).set ((7 * x1 + 3).toNat) 0)).set ((7 * x1 + 4).toNat) 0)), jgh, jgh, jgh, jgh, jgh, (101, [], [0, 0, 0, 0, 0, 0]), jgh, jgh, jgh, jgh, jgh, jgh, jgh, jgh]) rfl rfl rfl ?_
  refine jT_xl2i (pc' := 19) jI_197_18 rfl rfl ?_
  refine jT_iast (x := 0) (a := 1) (j := (7 * x1 + 5).toNat) (fs := []) (X := ((((((((((jS0).set ((7 * x1).toNat) 0)).set ((7 * x1 + 1).toNat) 0)).set ((7 * x1 + 2).toNat) 0)).set ((7 * x1 + 3).toNat) 0)).set ((7 * x1 + 4).toNat) 0)) (by rfl) (by rfl) (by rfl) (jw_nn (by omega) (by omega)) (by rw [show List.length (((((((((((jS0).set ((7 * x1).toNat) 0)).set ((7 * x1 + 1).toNat) 0)).set ((7 * x1 + 2).toNat) 0)).set ((7 * x1 + 3).toNat) 0)).set ((7 * x1 + 4).toNat) 0) : List Int) = 1613 from by rw [List.length_set, List.length_set, List.length_set, List.length_set, List.length_set]; exact (jS0_len)]; omega) ?_
  refine jT_eq (L' := [(3, (0, 5)), (0, (4, 0)), (1, (4, 1)), (2, (0, 7 * x1))]) (st' := []) (hs' := [jzA_127, (100, [], ((((((((((((jS0).set ((7 * x1).toNat) 0)).set ((7 * x1 + 1).toNat) 0)).set ((7 * x1 + 2).toNat) 0)).set ((7 * x1 + 3).toNat) 0)).set ((7 * x1 + 4).toNat) 0)).set ((7 * x1 + 5).toNat) 0)), jgh, jgh, jgh, jgh, jgh, (101, [], [0, 0, 0, 0, 0, 0]), jgh, jgh, jgh, jgh, jgh, jgh, jgh, jgh]) rfl rfl rfl ?_
  refine jT_xiinc (x := 5) (z := 6) (L' := [(3, (0, 6)), (0, (4, 0)), (1, (4, 1)), (2, (0, 7 * x1))]) (pc' := 23) jI_197_20 rfl rfl (by decide) rfl rfl ?_
  refine jT_xgoto (pc' := 2) jI_197_23 rfl ?_
  refine jT_xiload_n (v := (0, 6)) (pc' := 3) jI_197_2 rfl rfl rfl ?_
  refine jT_xbipush (k := 6) (pc' := 5) jI_197_3 (by decide) rfl ?_
  refine jT_xicT (pc' := 26) jI_197_5 rfl (by decide +kernel) rfl ?_
  refine jT_xaload_n (v := (4, 1)) (pc' := 27) jI_197_26 rfl rfl rfl ?_
  refine jT_xiload_n (v := (0, 7 * x1)) (pc' := 28) jI_197_27 rfl rfl rfl ?_
  refine jT_xbipush (k := 6) (pc' := 30) jI_197_28 (by decide) rfl ?_
  refine jT_xiadd (x := 7 * x1) (y := 6) (z := 7 * x1 + 6) (pc' := 31) jI_197_30 rfl (by omega) rfl ?_
  refine jT_xaload_n (v := (4, 0)) (pc' := 32) jI_197_31 rfl rfl rfl ?_
  refine jT_xgetf (a := 0) (t := 1) (ci := 14) (fi := 10) (c := jzA_127) (v := (1, 1)) (pc' := 35) jI_197_32 rfl rfl rfl rfl rfl rfl rfl ?_
  refine jT_xl2i (pc' := 36) jI_197_35 rfl rfl ?_
  refine jT_iast (x := 1) (a := 1) (j := (7 * x1 + 6).toNat) (fs := []) (X := ((((((((((((jS0).set ((7 * x1).toNat) 0)).set ((7 * x1 + 1).toNat) 0)).set ((7 * x1 + 2).toNat) 0)).set ((7 * x1 + 3).toNat) 0)).set ((7 * x1 + 4).toNat) 0)).set ((7 * x1 + 5).toNat) 0)) (by rfl) (by rfl) (by rfl) (jw_nn (by omega) (by omega)) (by rw [show List.length (((((((((((((jS0).set ((7 * x1).toNat) 0)).set ((7 * x1 + 1).toNat) 0)).set ((7 * x1 + 2).toNat) 0)).set ((7 * x1 + 3).toNat) 0)).set ((7 * x1 + 4).toNat) 0)).set ((7 * x1 + 5).toNat) 0) : List Int) = 1613 from by rw [List.length_set, List.length_set, List.length_set, List.length_set, List.length_set, List.length_set]; exact (jS0_len)]; omega) ?_
  refine jT_eq (L' := [(3, (0, 6)), (0, (4, 0)), (1, (4, 1)), (2, (0, 7 * x1))]) (st' := []) (hs' := [jzA_127, (100, [], ((((((((((((((jS0).set ((7 * x1).toNat) 0)).set ((7 * x1 + 1).toNat) 0)).set ((7 * x1 + 2).toNat) 0)).set ((7 * x1 + 3).toNat) 0)).set ((7 * x1 + 4).toNat) 0)).set ((7 * x1 + 5).toNat) 0)).set ((7 * x1 + 6).toNat) 1)), jgh, jgh, jgh, jgh, jgh, (101, [], [0, 0, 0, 0, 0, 0]), jgh, jgh, jgh, jgh, jgh, jgh, jgh, jgh]) rfl rfl rfl ?_
  exact jT_ret rfl (by decide) (by show 16 ≤ 16; decide) (by omega) (by omega) ⟨rfl, rfl, rfl⟩
theorem jA_196_102 {xs : List Int} {d : Nat} {x1 : Int} (h_x1 : 0 ≤ x1 ∧ x1 ≤ 7) : jT xs (d + 1) 196 16 0 [(0, (4, 0)), (1, (0, x1))] [] jpA_144 0 0 (fun k v hs' => k = 0 ∧ v = (0, 1) ∧ hs' = [jzA_127, (100, [], ((((((((((((((jS0).set ((7 * x1).toNat) 0)).set ((7 * x1 + 1).toNat) 0)).set ((7 * x1 + 2).toNat) 0)).set ((7 * x1 + 3).toNat) 0)).set ((7 * x1 + 4).toNat) 0)).set ((7 * x1 + 5).toNat) 0)).set ((7 * x1 + 6).toNat) 1)), jgh, jgh, jgh, jgh, jgh, (101, [], [0, 0, 0, 0, 0, 0]), jgh, jgh, jgh, jgh, jgh, jgh, jgh, jgh]) := by
  refine jT_xaload_n (v := (4, 0)) (pc' := 1) jI_196_0 rfl rfl rfl ?_
  refine jT_xaload_n (v := (4, 0)) (pc' := 2) jI_196_1 rfl rfl rfl ?_
  refine jT_xgetf (a := 0) (t := 1) (ci := 14) (fi := 1) (c := jzA_127) (v := (4, 1)) (pc' := 5) jI_196_2 rfl rfl rfl rfl rfl rfl rfl ?_
  refine jT_xbipush (k := 7) (pc' := 7) jI_196_5 (by decide) rfl ?_
  refine jT_xiload_n (v := (0, x1)) (pc' := 8) jI_196_7 rfl rfl rfl ?_
  refine jT_ximul (x := 7) (y := x1) (z := 7 * x1) (pc' := 9) jI_196_8 rfl (rfl) rfl ?_
  refine jT_fB [0, 1, 2, 3, 4, 5, 6, 7, 8, 9, 10, 11, 12, 13, 14, 15] 16 (y := 197) (pc' := 12) (dC := 0) (bc1 := 0) (bc2 := 0) (c1 := 0) (c2 := 0) (as := [(4, 0), (4, 1), (0, 7 * x1)]) (asC := [(4, 0), (4, 1), (0, 7 * x1)]) (L' := [(0, (4, 0)), (1, (0, x1))]) (st' := []) (hsC := jpA_144) (hsD := [jzA_127, (100, [], ((((((((((((((jS0).set ((7 * x1).toNat) 0)).set ((7 * x1 + 1).toNat) 0)).set ((7 * x1 + 2).toNat) 0)).set ((7 * x1 + 3).toNat) 0)).set ((7 * x1 + 4).toNat) 0)).set ((7 * x1 + 5).toNat) 0)).set ((7 * x1 + 6).toNat) 1)), jgh, jgh, jgh, jgh, jgh, (101, [], [0, 0, 0, 0, 0, 0]), jgh, jgh, jgh, jgh, jgh, jgh, jgh, jgh]) (v := (9, 0)) (st2 := []) (hs2 := [jzA_127, (100, [], ((((((((((((((jS0).set ((7 * x1).toNat) 0)).set ((7 * x1 + 1).toNat) 0)).set ((7 * x1 + 2).toNat) 0)).set ((7 * x1 + 3).toNat) 0)).set ((7 * x1 + 4).toNat) 0)).set ((7 * x1 + 5).toNat) 0)).set ((7 * x1 + 6).toNat) 1)), jgh, jgh, jgh, jgh, jgh, (101, [], [0, 0, 0, 0, 0, 0]), jgh, jgh, jgh, jgh, jgh, jgh, jgh, jgh]) (jA_197_101 (d := 0) (by omega)) (by rfl) (by rfl) (by decide +kernel) (by rfl) (by rfl) (by omega) (by omega) (by omega) (by omega) rfl rfl ?_
  refine jT_xaload_n (v := (4, 0)) (pc' := 13) jI_196_12 rfl rfl rfl ?_
  refine jT_xgetf (a := 0) (t := 1) (ci := 14) (fi := 10) (c := jzA_127) (v := (1, 1)) (pc' := 16) jI_196_13 rfl rfl rfl rfl rfl rfl rfl ?_
  refine jT_xl2i (pc' := 17) jI_196_16 rfl rfl ?_
  exact jT_ret rfl (by decide) (by show 16 ≤ 16; decide) (by omega) (by omega) ⟨rfl, rfl, rfl⟩
def jpA_424 : List JC := [jzA_22, (100, [], jS0), (100, [], []), jzA_123, jzA_124, jgh, jgh, (101, [], [0, 0, 0, 0, 0, 0]), jgh, jgh, jgh, jgh, jgh, jgh, jgh, jgh, (100, [], (List.replicate 1613 0)), jgh, jgh, jgh, jgh, jgh, jgh, jgh]
theorem jI_206_38 : jmI (jm 206) 38 = (.iconst 1, 1) := by rfl
theorem jI_206_39 : jmI (jm 206) 39 = (.goto 4, 3) := by rfl
theorem jI_206_52 : jmI (jm 206) 52 = (.aload_n 0, 1) := by rfl
theorem jI_206_53 : jmI (jm 206) 53 = (.iload_n 1, 1) := by rfl
theorem jI_206_57 : jmI (jm 206) 57 = (.aload_n 0, 1) := by rfl
theorem jI_206_58 : jmI (jm 206) 58 = (.iload_n 2, 1) := by rfl
theorem jI_206_59 : jmI (jm 206) 59 = (.iload_n 3, 1) := by rfl
theorem jI_206_63 : jmI (jm 206) 63 = (.aload_n 0, 1) := by rfl
theorem jI_206_64 : jmI (jm 206) 64 = (.aload_n 0, 1) := by rfl
theorem jI_206_68 : jmI (jm 206) 68 = (.iconst 3, 1) := by rfl
theorem jI_206_72 : jmI (jm 206) 72 = (.ifCond .eq 5, 3) := by rfl
theorem jI_206_77 : jmI (jm 206) 77 = (.aload_n 0, 1) := by rfl
def jpA_437 : List JC := [jzA_127, (100, [], jS0), (100, [], []), jzA_123, jzA_128, jgh, jgh, (101, [], [0, 0, 0, 0, 0, 0]), jgh, jgh, jgh, jgh, jgh, jgh, jgh, jgh, (100, [], jS0), jgh, jgh, jgh, jgh, jgh, jgh, jgh]
theorem jI_206_81 : jmI (jm 206) 81 = (.aload_n 0, 1) := by rfl
theorem jI_206_82 : jmI (jm 206) 82 = (.iload_n 1, 1) := by rfl
theorem jA_206_103 {xs : List Int} {d : Nat} {x1 x2 : Int} (h_x1 : 0 ≤ x1 ∧ x1 ≤ 7) (h_x2 : (-100) ≤ x2 ∧ x2 ≤ 100) : jT xs (d + 3) 206 24 0 [(0, (4, 0)), (1, (0, x1)), (2, (0, x2)), (3, (0, 1))] [] jpA_424 0 0 (fun k v hs' => k = 0 ∧ v = (0, 1) ∧ hs' = [jzA_127, (100, [], ((((((((((((((jS0).set ((7 * x1).toNat) 0)).set ((7 * x1 + 1).toNat) 0)).set ((7 * x1 + 2).toNat) 0)).set ((7 * x1 + 3).toNat) 0)).set ((7 * x1 + 4).toNat) 0)).set ((7 * x1 + 5).toNat) 0)).set ((7 * x1 + 6).toNat) 1)), (100, [], []), jzA_123, jzA_128, jgh, jgh, (101, [], [0, 0, 0, 0, 0, 0]), jgh, jgh, jgh, jgh, jgh, jgh, jgh, jgh, (100, [], jS0), jgh, jgh, jgh, jgh, jgh, jgh, jgh]) := by
  refine jT_xaload_n (v := (4, 0)) (pc' := 1) jI_206_0 rfl rfl rfl ?_
  refine jT_xiload_n (v := (0, x1)) (pc' := 2) jI_206_1 rfl rfl rfl ?_
  refine jT_fR [] 24 (y := 188) (pc' := 5) (dC := 1) (bc1 := 0) (bc2 := 0) (c1 := 0) (c2 := 0) (as := [(0, x1)]) (asC := [(0, x1)]) (L' := [(0, (4, 0)), (1, (0, x1)), (2, (0, x2)), (3, (0, 1))]) (st' := [(4, 0)]) (hsC := []) (v := (0, 1)) (st2 := [(0, 1), (4, 0)]) (jA_188_73 (d := 0) (by omega)) (by rfl) (by rfl) (by decide +kernel) (by rfl) (by rfl) (by omega) (by omega) (by omega) (by omega) rfl ?_
  refine jT_fR [0, 1, 2, 3, 4, 5, 6, 7, 8, 9, 10, 11, 12, 13, 14, 15] 24 (y := 190) (pc' := 8) (dC := 1) (bc1 := 0) (bc2 := 0) (c1 := 0) (c2 := 0) (as := [(4, 0), (0, 1)]) (asC := [(4, 0), (0, 1)]) (L' := [(0, (4, 0)), (1, (0, x1)), (2, (0, x2)), (3, (0, 1))]) (st' := []) (hsC := jpA_23) (v := (0, 0)) (st2 := [(0, 0)]) (jA_190_74 (d := 0)) (by rfl) (by rfl) (by decide +kernel) (by rfl) (by rfl) (by omega) (by omega) (by omega) (by omega) rfl ?_
  refine jT_xifF (t := 50) (pc' := 11) jI_206_8 rfl (by decide +kernel) rfl rfl ?_
  refine jT_xaload_n (v := (4, 0)) (pc' := 12) jI_206_11 rfl rfl rfl ?_
  refine jT_xiload_n (v := (0, x2)) (pc' := 13) jI_206_12 rfl rfl rfl ?_
  refine jT_xi2l (x := x2) (z := x2) (pc' := 14) jI_206_13 rfl (jw_idd (by omega) (by omega)) rfl ?_
  refine jT_adv 2 (pc' := 20) (L' := [(0, (4, 0)), (1, (0, x1)), (2, (0, x2)), (3, (0, 1))]) (st' := [(1, 100), (1, (-100)), (1, x2), (4, 0)]) (hs' := jpA_424) (c1 := 0) (s1 := 0) (c2 := 0) (s2 := 0) (by exact rfl) ?_ (by omega) (by omega)
  refine jT_fR [] 24 (y := 189) (pc' := 23) (dC := 0) (bc1 := 0) (bc2 := 0) (c1 := 0) (c2 := 0) (as := [(1, x2), (1, (-100)), (1, 100)]) (asC := [(1, x2), (1, (-100)), (1, 100)]) (L' := [(0, (4, 0)), (1, (0, x1)), (2, (0, x2)), (3, (0, 1))]) (st' := [(4, 0)]) (hsC := []) (v := (0, 1)) (st2 := [(0, 1), (4, 0)]) (jT_in_ok (d := 0) (v := x2) (lo := (-100)) (hi := 100) (by omega) (by omega) (by omega) (by omega) (by omega)) (by rfl) (by rfl) (by decide +kernel) (by rfl) (by rfl) (by omega) (by omega) (by omega) (by omega) rfl ?_
  refine jT_xifF (t := 42) (pc' := 26) jI_206_23 rfl (by decide +kernel) rfl rfl ?_
  refine jT_xiload_n (v := (0, 1)) (pc' := 27) jI_206_26 rfl rfl rfl ?_
  refine jT_xi2l (x := 1) (z := 1) (pc' := 28) jI_206_27 rfl (by decide +kernel) rfl ?_
  refine jT_xlconst (z := 1) (pc' := 29) jI_206_28 rfl rfl ?_
  refine jT_adv 1 (pc' := 32) (L' := [(0, (4, 0)), (1, (0, x1)), (2, (0, x2)), (3, (0, 1))]) (st' := [(1, 24), (1, 1), (1, 1), (4, 0)]) (hs' := jpA_424) (c1 := 0) (s1 := 0) (c2 := 0) (s2 := 0) (by exact rfl) ?_ (by omega) (by omega)
  refine jT_fR [] 24 (y := 189) (pc' := 35) (dC := 0) (bc1 := 0) (bc2 := 0) (c1 := 0) (c2 := 0) (as := [(1, 1), (1, 1), (1, 24)]) (asC := [(1, 1), (1, 1), (1, 24)]) (L' := [(0, (4, 0)), (1, (0, x1)), (2, (0, x2)), (3, (0, 1))]) (st' := [(4, 0)]) (hsC := []) (v := (0, 1)) (st2 := [(0, 1), (4, 0)]) (jA_189_91 (d := 0)) (by rfl) (by rfl) (by decide +kernel) (by rfl) (by rfl) (by omega) (by omega) (by omega) (by omega) rfl ?_
  refine jT_xifF (t := 42) (pc' := 38) jI_206_35 rfl (by decide +kernel) rfl rfl ?_
  refine jT_xiconst (k := 1) (pc' := 39) jI_206_38 rfl ?_
  refine jT_xgoto (pc' := 43) jI_206_39 rfl ?_
  refine jT_xiconst (k := 2) (pc' := 44) jI_206_43 rfl ?_
  refine jT_fR [0] 24 (y := 191) (pc' := 47) (dC := 0) (bc1 := 0) (bc2 := 0) (c1 := 0) (c2 := 0) (as := [(4, 0), (0, 1), (0, 2)]) (asC := [(4, 0), (0, 1), (0, 2)]) (L' := [(0, (4, 0)), (1, (0, x1)), (2, (0, x2)), (3, (0, 1))]) (st' := []) (hsC := [jgh]) (v := (0, 0)) (st2 := [(0, 0)]) (jA_191_35 (d := 0)) (by rfl) (by rfl) (by decide +kernel) (by rfl) (by rfl) (by omega) (by omega) (by omega) (by omega) rfl ?_
  refine jT_xifT (pc' := 52) jI_206_47 rfl (by decide +kernel) rfl ?_
  refine jT_xaload_n (v := (4, 0)) (pc' := 53) jI_206_52 rfl rfl rfl ?_
  refine jT_xiload_n (v := (0, x1)) (pc' := 54) jI_206_53 rfl rfl rfl ?_
  refine jT_fR [0, 1, 2, 3, 4, 5, 6, 7, 8, 9, 10, 11, 12, 13, 14, 15] 24 (y := 202) (pc' := 57) (dC := 1) (bc1 := 0) (bc2 := 0) (c1 := 0) (c2 := 0) (as := [(4, 0), (0, x1)]) (asC := [(4, 0), (0, x1)]) (L' := [(0, (4, 0)), (1, (0, x1)), (2, (0, x2)), (3, (0, 1))]) (st' := []) (hsC := jpA_386) (v := (9, 0)) (st2 := []) (jA_202_93 (d := 0) (by omega)) (by rfl) (by rfl) (by decide +kernel) (by rfl) (by rfl) (by omega) (by omega) (by omega) (by omega) rfl ?_
  refine jT_xaload_n (v := (4, 0)) (pc' := 58) jI_206_57 rfl rfl rfl ?_
  refine jT_xiload_n (v := (0, x2)) (pc' := 59) jI_206_58 rfl rfl rfl ?_
  refine jT_xiload_n (v := (0, 1)) (pc' := 60) jI_206_59 rfl rfl rfl ?_
  refine jT_fR [0, 1, 2, 3, 4, 5, 6, 7, 8, 9, 10, 11, 12, 13, 14, 15] 24 (y := 207) (pc' := 63) (dC := 2) (bc1 := 0) (bc2 := 0) (c1 := 0) (c2 := 0) (as := [(4, 0), (0, x2), (0, 1)]) (asC := [(4, 0), (0, x2), (0, 1)]) (L' := [(0, (4, 0)), (1, (0, x1)), (2, (0, x2)), (3, (0, 1))]) (st' := []) (hsC := jpA_403) (v := (9, 0)) (st2 := []) (jA_207_97 (d := 0) (by omega)) (by rfl) (by rfl) (by decide +kernel) (by rfl) (by rfl) (by omega) (by omega) (by omega) (by omega) rfl ?_
  refine jT_xaload_n (v := (4, 0)) (pc' := 64) jI_206_63 rfl rfl rfl ?_
  refine jT_xaload_n (v := (4, 0)) (pc' := 65) jI_206_64 rfl rfl rfl ?_
  refine jT_fR [0, 1, 2, 3, 4, 5, 6, 7, 8, 9, 10, 11, 12, 13, 14, 15] 24 (y := 205) (pc' := 68) (dC := 1) (bc1 := 0) (bc2 := 0) (c1 := 0) (c2 := 0) (as := [(4, 0)]) (asC := [(4, 0)]) (L' := [(0, (4, 0)), (1, (0, x1)), (2, (0, x2)), (3, (0, 1))]) (st' := [(4, 0)]) (hsC := jpA_403) (v := (0, 1)) (st2 := [(0, 1), (4, 0)]) (jA_205_99 (d := 0)) (by rfl) (by rfl) (by decide +kernel) (by rfl) (by rfl) (by omega) (by omega) (by omega) (by omega) rfl ?_
  refine jT_xiconst (k := 3) (pc' := 69) jI_206_68 rfl ?_
  refine jT_fR [0] 24 (y := 191) (pc' := 72) (dC := 0) (bc1 := 0) (bc2 := 0) (c1 := 0) (c2 := 0) (as := [(4, 0), (0, 1), (0, 3)]) (asC := [(4, 0), (0, 1), (0, 3)]) (L' := [(0, (4, 0)), (1, (0, x1)), (2, (0, x2)), (3, (0, 1))]) (st' := []) (hsC := [jgh]) (v := (0, 0)) (st2 := [(0, 0)]) (jA_191_100 (d := 0)) (by rfl) (by rfl) (by decide +kernel) (by rfl) (by rfl) (by omega) (by omega) (by omega) (by omega) rfl ?_
  refine jT_xifT (pc' := 77) jI_206_72 rfl (by decide +kernel) rfl ?_
  refine jT_xaload_n (v := (4, 0)) (pc' := 78) jI_206_77 rfl rfl rfl ?_
  refine jT_fB [0, 1, 2, 3, 4, 5, 6, 7, 8, 9, 10, 11, 12, 13, 14, 15, 16, 17, 18, 19, 20, 21, 22, 23] 24 (y := 195) (pc' := 81) (dC := 0) (bc1 := 0) (bc2 := 0) (c1 := 0) (c2 := 0) (as := [(4, 0)]) (asC := [(4, 0)]) (L' := [(0, (4, 0)), (1, (0, x1)), (2, (0, x2)), (3, (0, 1))]) (st' := []) (hsC := jpA_125) (hsD := jpA_129) (v := (9, 0)) (st2 := []) (hs2 := jpA_437) (jA_195_36 (d := 0)) (by rfl) (by rfl) (by decide +kernel) (by rfl) (by rfl) (by omega) (by omega) (by omega) (by omega) rfl (by decide +kernel) ?_
  refine jT_xaload_n (v := (4, 0)) (pc' := 82) jI_206_81 rfl rfl rfl ?_
  refine jT_xiload_n (v := (0, x1)) (pc' := 83) jI_206_82 rfl rfl rfl ?_
  refine jT_fB [0, 1, 2, 3, 4, 5, 6, 7, 8, 9, 10, 11, 12, 13, 14, 15] 24 (y := 196) (pc' := 86) (dC := 1) (bc1 := 0) (bc2 := 0) (c1 := 0) (c2 := 0) (as := [(4, 0), (0, x1)]) (asC := [(4, 0), (0, x1)]) (L' := [(0, (4, 0)), (1, (0, x1)), (2, (0, x2)), (3, (0, 1))]) (st' := []) (hsC := jpA_144) (hsD := [jzA_127, (100, [], ((((((((((((((jS0).set ((7 * x1).toNat) 0)).set ((7 * x1 + 1).toNat) 0)).set ((7 * x1 + 2).toNat) 0)).set ((7 * x1 + 3).toNat) 0)).set ((7 * x1 + 4).toNat) 0)).set ((7 * x1 + 5).toNat) 0)).set ((7 * x1 + 6).toNat) 1)), jgh, jgh, jgh, jgh, jgh, (101, [], [0, 0, 0, 0, 0, 0]), jgh, jgh, jgh, jgh, jgh, jgh, jgh, jgh]) (v := (0, 1)) (st2 := [(0, 1)]) (hs2 := [jzA_127, (100, [], ((((((((((((((jS0).set ((7 * x1).toNat) 0)).set ((7 * x1 + 1).toNat) 0)).set ((7 * x1 + 2).toNat) 0)).set ((7 * x1 + 3).toNat) 0)).set ((7 * x1 + 4).toNat) 0)).set ((7 * x1 + 5).toNat) 0)).set ((7 * x1 + 6).toNat) 1)), (100, [], []), jzA_123, jzA_128, jgh, jgh, (101, [], [0, 0, 0, 0, 0, 0]), jgh, jgh, jgh, jgh, jgh, jgh, jgh, jgh, (100, [], jS0), jgh, jgh, jgh, jgh, jgh, jgh, jgh]) (jA_196_102 (d := 0) (by omega)) (by rfl) (by rfl) (by decide +kernel) (by rfl) (by rfl) (by omega) (by omega) (by omega) (by omega) rfl rfl ?_
  exact jT_ret rfl (by decide) (by show 24 ≤ 24; decide) (by omega) (by omega) ⟨rfl, rfl, rfl⟩
theorem jA_116_104 {xs : List Int} {d : Nat} {x3 : Int} (h_x3 : 2 ≤ x3 ∧ x3 ≤ 24) : jT xs d 116 1 0 [(0, (4, 0)), (1, (0, x3)), (2, (0, 1)), (3, (0, 24))] [] [jgh] 0 0 (fun k v hs' => k = 0 ∧ v = (9, 0) ∧ hs' = [jgh] ++ []) := by
  refine jT_xiload_n (v := (0, x3)) (pc' := 1) jI_116_0 rfl rfl rfl ?_
  refine jT_xiload_n (v := (0, 1)) (pc' := 2) jI_116_1 rfl rfl rfl ?_
  refine jT_icF (a := x3) (b := 1) (t := 10) (by rfl) (by rfl) (by rfl) (jw_idd (by omega) (by omega)) (jw_idd (by omega) (by omega)) (by simp only [jcP] <;> omega) ?_
  refine jT_xiload_n (v := (0, x3)) (pc' := 6) jI_116_5 rfl rfl rfl ?_
  refine jT_xiload_n (v := (0, 24)) (pc' := 7) jI_116_6 rfl rfl rfl ?_
  refine jT_icT (a := x3) (b := 24) (t := 21) (by rfl) (by rfl) (by rfl) (jw_idd (by omega) (by omega)) (jw_idd (by omega) (by omega)) (by simp only [jcP] <;> omega) ?_
  exact jT_ret rfl (by decide) (by show 1 ≤ 1; decide) (by omega) (by omega) ⟨rfl, rfl, rfl⟩
theorem jI_98_0 : jmI (jm 98) 0 = (.lload_n 0, 1) := by rfl
theorem jI_98_1 : jmI (jm 98) 1 = (.lconst 0, 1) := by rfl
theorem jI_98_3 : jmI (jm 98) 3 = (.ifCond .ge 8, 3) := by rfl
theorem jI_98_11 : jmI (jm 98) 11 = (.lload_n 0, 1) := by rfl
theorem jI_98_12 : jmI (jm 98) 12 = (.lstore 4, 2) := by rfl
theorem jI_98_14 : jmI (jm 98) 14 = (.lload_n 2, 1) := by rfl
theorem jI_98_15 : jmI (jm 98) 15 = (.lconst 0, 1) := by rfl
theorem jI_98_17 : jmI (jm 98) 17 = (.ifCond .ge 8, 3) := by rfl
theorem jI_98_25 : jmI (jm 98) 25 = (.lload_n 2, 1) := by rfl
theorem jI_98_26 : jmI (jm 98) 26 = (.lstore 6, 2) := by rfl
theorem jI_98_28 : jmI (jm 98) 28 = (.iconst 0, 1) := by rfl
theorem jI_98_29 : jmI (jm 98) 29 = (.istore 8, 2) := by rfl
theorem jI_98_31 : jmI (jm 98) 31 = (.iload 8, 2) := by rfl
theorem jI_98_33 : jmI (jm 98) 33 = (.sipush 200, 3) := by rfl
theorem jI_98_36 : jmI (jm 98) 36 = (.if_icmp .ge 31, 3) := by rfl
theorem jI_98_39 : jmI (jm 98) 39 = (.lload 6, 2) := by rfl
theorem jI_98_41 : jmI (jm 98) 41 = (.lconst 0, 1) := by rfl
theorem jI_98_43 : jmI (jm 98) 43 = (.ifCond .eq 24, 3) := by rfl
theorem jI_98_67 : jmI (jm 98) 67 = (.lload 4, 2) := by rfl
theorem jA_98_105 {xs : List Int} {d : Nat} {x3 : Int} (h_x3 : 2 ≤ x3 ∧ x3 ≤ 24) : jT xs d 98 0 0 [(0, (1, x3)), (2, (1, 0))] [] [] 0 0 (fun k v hs' => k = 0 ∧ v = (1, x3) ∧ hs' = [] ++ []) := by
  refine jT_xlload_n (v := (1, x3)) (pc' := 1) jI_98_0 rfl rfl rfl ?_
  refine jT_xlconst (z := 0) (pc' := 2) jI_98_1 rfl rfl ?_
  refine jT_lcmp (a := x3) (b := 0) (z := 1) (by rfl) (by rfl) (jwl_idd (by omega) (by omega)) (jwl_idd (by omega) (by omega)) (by rw [decide_eq_true (show (0 : Int) < x3 by omega)]; rfl) ?_
  refine jT_xifT (pc' := 11) jI_98_3 rfl (by decide +kernel) rfl ?_
  refine jT_xlload_n (v := (1, x3)) (pc' := 12) jI_98_11 rfl rfl rfl ?_
  refine jT_xlstore (v := (1, x3)) (L' := [(4, (1, x3)), (0, (1, x3)), (2, (1, 0))]) (pc' := 14) jI_98_12 rfl rfl rfl rfl ?_
  refine jT_xlload_n (v := (1, 0)) (pc' := 15) jI_98_14 rfl rfl rfl ?_
  refine jT_xlconst (z := 0) (pc' := 16) jI_98_15 rfl rfl ?_
  refine jT_lcmp (a := 0) (b := 0) (z := 0) (by rfl) (by rfl) (by decide +kernel) (by decide +kernel) (by decide) ?_
  refine jT_xifT (pc' := 25) jI_98_17 rfl (by decide +kernel) rfl ?_
  refine jT_xlload_n (v := (1, 0)) (pc' := 26) jI_98_25 rfl rfl rfl ?_
  refine jT_xlstore (v := (1, 0)) (L' := [(6, (1, 0)), (4, (1, x3)), (0, (1, x3)), (2, (1, 0))]) (pc' := 28) jI_98_26 rfl rfl rfl rfl ?_
  refine jT_xiconst (k := 0) (pc' := 29) jI_98_28 rfl ?_
  refine jT_xistore (v := (0, 0)) (L' := [(8, (0, 0)), (6, (1, 0)), (4, (1, x3)), (0, (1, x3)), (2, (1, 0))]) (pc' := 31) jI_98_29 rfl rfl rfl rfl ?_
  refine jT_xiload (v := (0, 0)) (pc' := 33) jI_98_31 rfl rfl rfl ?_
  refine jT_xsipush (k := 200) (pc' := 36) jI_98_33 (by decide) rfl ?_
  refine jT_xicF (t := 67) (pc' := 39) jI_98_36 rfl (by decide +kernel) rfl rfl ?_
  refine jT_xlload (v := (1, 0)) (pc' := 41) jI_98_39 rfl rfl rfl ?_
  refine jT_xlconst (z := 0) (pc' := 42) jI_98_41 rfl rfl ?_
  refine jT_lcmp (a := 0) (b := 0) (z := 0) (by rfl) (by rfl) (by decide +kernel) (by decide +kernel) (by decide) ?_
  refine jT_xifT (pc' := 67) jI_98_43 rfl (by decide +kernel) rfl ?_
  refine jT_xlload (v := (1, x3)) (pc' := 69) jI_98_67 rfl rfl rfl ?_
  exact jT_ret rfl (by decide) (by show 0 ≤ 0; decide) (by omega) (by omega) ⟨rfl, rfl, rfl⟩
theorem jI_97_0 : jmI (jm 97) 0 = (.lload_n 1, 1) := by rfl
theorem jI_97_1 : jmI (jm 97) 1 = (.lconst 1, 1) := by rfl
theorem jI_97_3 : jmI (jm 97) 3 = (.ifCond .ge 7, 3) := by rfl
theorem jI_97_10 : jmI (jm 97) 10 = (.lload_n 1, 1) := by rfl
theorem jI_97_11 : jmI (jm 97) 11 = (.lstore_n 3, 1) := by rfl
theorem jI_97_12 : jmI (jm 97) 12 = (.iconst 0, 1) := by rfl
theorem jI_97_13 : jmI (jm 97) 13 = (.istore 5, 2) := by rfl
theorem jI_97_15 : jmI (jm 97) 15 = (.iload 5, 2) := by rfl
theorem jI_97_17 : jmI (jm 97) 17 = (.aload_n 0, 1) := by rfl
theorem jI_97_19 : jmI (jm 97) 19 = (.if_icmp .ge 24, 3) := by rfl
theorem jI_97_22 : jmI (jm 97) 22 = (.lload_n 3, 1) := by rfl
theorem jI_97_23 : jmI (jm 97) 23 = (.lconst 1, 1) := by rfl
theorem jI_97_25 : jmI (jm 97) 25 = (.ifCond .le 18, 3) := by rfl
theorem jI_97_28 : jmI (jm 97) 28 = (.lload_n 3, 1) := by rfl
theorem jI_97_29 : jmI (jm 97) 29 = (.aload_n 0, 1) := by rfl
theorem jI_97_30 : jmI (jm 97) 30 = (.iload 5, 2) := by rfl
theorem jI_97_32 : jmI (jm 97) 32 = (.laload, 1) := by rfl
theorem jI_97_36 : jmI (jm 97) 36 = (.lstore_n 3, 1) := by rfl
theorem jI_97_37 : jmI (jm 97) 37 = (.iinc 5 1, 3) := by rfl
theorem jI_97_40 : jmI (jm 97) 40 = (.goto (-25), 3) := by rfl
theorem jI_97_43 : jmI (jm 97) 43 = (.lload_n 3, 1) := by rfl
theorem jI_97_44 : jmI (jm 97) 44 = (.lconst 1, 1) := by rfl
theorem jI_97_46 : jmI (jm 97) 46 = (.ifCond .gt 15, 3) := by rfl
theorem jI_97_61 : jmI (jm 97) 61 = (.iconst 0, 1) := by rfl
theorem jI_97_62 : jmI (jm 97) 62 = (.istore 5, 2) := by rfl
theorem jI_97_64 : jmI (jm 97) 64 = (.iload 5, 2) := by rfl
theorem jI_97_66 : jmI (jm 97) 66 = (.aload_n 0, 1) := by rfl
theorem jI_97_68 : jmI (jm 97) 68 = (.if_icmp .ge 17, 3) := by rfl
theorem jI_97_71 : jmI (jm 97) 71 = (.aload_n 0, 1) := by rfl
theorem jI_97_72 : jmI (jm 97) 72 = (.iload 5, 2) := by rfl
theorem jI_97_75 : jmI (jm 97) 75 = (.laload, 1) := by rfl
theorem jI_97_76 : jmI (jm 97) 76 = (.lload_n 3, 1) := by rfl
theorem jI_97_79 : jmI (jm 97) 79 = (.iinc 5 1, 3) := by rfl
theorem jI_97_82 : jmI (jm 97) 82 = (.goto (-18), 3) := by rfl
theorem jI_97_85 : jmI (jm 97) 85 = (.lload_n 1, 1) := by rfl
theorem jI_97_86 : jmI (jm 97) 86 = (.lload_n 3, 1) := by rfl
theorem jA_97_106 {xs : List Int} {d : Nat} {x3 : Int} (h_x3 : 2 ≤ x3 ∧ x3 ≤ 24) : jT xs (d + 1) 97 1 0 [(0, (4, 0)), (1, (1, x3))] [] [(101, [], [0, 0, 0, 0, 0, 0])] 0 0 (fun k v hs' => k = 0 ∧ v = (1, 1) ∧ hs' = [(101, [], [0, 0, 0, 0, 0, 0])] ++ []) := by
  refine jT_xlload_n (v := (1, x3)) (pc' := 1) jI_97_0 rfl rfl rfl ?_
  refine jT_xlconst (z := 1) (pc' := 2) jI_97_1 rfl rfl ?_
  refine jT_lcmp (a := x3) (b := 1) (z := 1) (by rfl) (by rfl) (jwl_idd (by omega) (by omega)) (jwl_idd (by omega) (by omega)) (by rw [decide_eq_true (show (1 : Int) < x3 by omega)]; rfl) ?_
  refine jT_xifT (pc' := 10) jI_97_3 rfl (by decide +kernel) rfl ?_
  refine jT_xlload_n (v := (1, x3)) (pc' := 11) jI_97_10 rfl rfl rfl ?_
  refine jT_xlstore_n (v := (1, x3)) (L' := [(3, (1, x3)), (0, (4, 0)), (1, (1, x3))]) (pc' := 12) jI_97_11 rfl rfl rfl rfl ?_
  refine jT_xiconst (k := 0) (pc' := 13) jI_97_12 rfl ?_
  refine jT_xistore (v := (0, 0)) (L' := [(5, (0, 0)), (3, (1, x3)), (0, (4, 0)), (1, (1, x3))]) (pc' := 15) jI_97_13 rfl rfl rfl rfl ?_
  refine jT_xiload (v := (0, 0)) (pc' := 17) jI_97_15 rfl rfl rfl ?_
  refine jT_xaload_n (v := (4, 0)) (pc' := 18) jI_97_17 rfl rfl rfl ?_
  refine jT_adv 1 (pc' := 19) (L' := [(5, (0, 0)), (3, (1, x3)), (0, (4, 0)), (1, (1, x3))]) (st' := [(0, 6), (0, 0)]) (hs' := [(101, [], [0, 0, 0, 0, 0, 0])]) (c1 := 0) (s1 := 0) (c2 := 0) (s2 := 0) (by exact rfl) ?_ (by omega) (by omega)
  refine jT_xicF (t := 43) (pc' := 22) jI_97_19 rfl (by decide +kernel) rfl rfl ?_
  refine jT_xlload_n (v := (1, x3)) (pc' := 23) jI_97_22 rfl rfl rfl ?_
  refine jT_xlconst (z := 1) (pc' := 24) jI_97_23 rfl rfl ?_
  refine jT_lcmp (a := x3) (b := 1) (z := 1) (by rfl) (by rfl) (jwl_idd (by omega) (by omega)) (jwl_idd (by omega) (by omega)) (by rw [decide_eq_true (show (1 : Int) < x3 by omega)]; rfl) ?_
  refine jT_xifF (t := 43) (pc' := 28) jI_97_25 rfl (by decide +kernel) rfl rfl ?_
  refine jT_xlload_n (v := (1, x3)) (pc' := 29) jI_97_28 rfl rfl rfl ?_
  refine jT_xaload_n (v := (4, 0)) (pc' := 30) jI_97_29 rfl rfl rfl ?_
  refine jT_xiload (v := (0, 0)) (pc' := 32) jI_97_30 rfl rfl rfl ?_
  refine jT_lald (x := 0) (a := 0) (j := 0) (fs := []) (X := [0, 0, 0, 0, 0, 0]) jI_97_32 rfl rfl rfl rfl ?_
  refine jT_eq (L' := [(5, (0, 0)), (3, (1, x3)), (0, (4, 0)), (1, (1, x3))]) (st' := [(1, 0), (1, x3)]) (hs' := [(101, [], [0, 0, 0, 0, 0, 0])]) rfl rfl rfl ?_
  refine jT_fR [] 1 (y := 98) (pc' := 36) (dC := 0) (bc1 := 0) (bc2 := 0) (c1 := 0) (c2 := 0) (as := [(1, x3), (1, 0)]) (asC := [(1, x3), (1, 0)]) (L' := [(5, (0, 0)), (3, (1, x3)), (0, (4, 0)), (1, (1, x3))]) (st' := []) (hsC := []) (v := (1, x3)) (st2 := [(1, x3)]) (jA_98_105 (d := 0) (by omega)) (by rfl) (by rfl) (by decide +kernel) (by rfl) (by rfl) (by omega) (by omega) (by omega) (by omega) rfl ?_
  refine jT_xlstore_n (v := (1, x3)) (L' := [(3, (1, x3)), (5, (0, 0)), (0, (4, 0)), (1, (1, x3))]) (pc' := 37) jI_97_36 rfl rfl rfl rfl ?_
  refine jT_xiinc (x := 0) (z := 1) (L' := [(5, (0, 1)), (3, (1, x3)), (0, (4, 0)), (1, (1, x3))]) (pc' := 40) jI_97_37 rfl rfl (by decide) rfl rfl ?_
  refine jT_xgoto (pc' := 15) jI_97_40 rfl ?_
  refine jT_xiload (v := (0, 1)) (pc' := 17) jI_97_15 rfl rfl rfl ?_
  refine jT_xaload_n (v := (4, 0)) (pc' := 18) jI_97_17 rfl rfl rfl ?_
  refine jT_adv 1 (pc' := 19) (L' := [(5, (0, 1)), (3, (1, x3)), (0, (4, 0)), (1, (1, x3))]) (st' := [(0, 6), (0, 1)]) (hs' := [(101, [], [0, 0, 0, 0, 0, 0])]) (c1 := 0) (s1 := 0) (c2 := 0) (s2 := 0) (by exact rfl) ?_ (by omega) (by omega)
  refine jT_xicF (t := 43) (pc' := 22) jI_97_19 rfl (by decide +kernel) rfl rfl ?_
  refine jT_xlload_n (v := (1, x3)) (pc' := 23) jI_97_22 rfl rfl rfl ?_
  refine jT_xlconst (z := 1) (pc' := 24) jI_97_23 rfl rfl ?_
  refine jT_lcmp (a := x3) (b := 1) (z := 1) (by rfl) (by rfl) (jwl_idd (by omega) (by omega)) (jwl_idd (by omega) (by omega)) (by rw [decide_eq_true (show (1 : Int) < x3 by omega)]; rfl) ?_
  refine jT_xifF (t := 43) (pc' := 28) jI_97_25 rfl (by decide +kernel) rfl rfl ?_
  refine jT_xlload_n (v := (1, x3)) (pc' := 29) jI_97_28 rfl rfl rfl ?_
  refine jT_xaload_n (v := (4, 0)) (pc' := 30) jI_97_29 rfl rfl rfl ?_
  refine jT_xiload (v := (0, 1)) (pc' := 32) jI_97_30 rfl rfl rfl ?_
  refine jT_lald (x := 0) (a := 0) (j := 1) (fs := []) (X := [0, 0, 0, 0, 0, 0]) jI_97_32 rfl rfl rfl rfl ?_
  refine jT_eq (L' := [(5, (0, 1)), (3, (1, x3)), (0, (4, 0)), (1, (1, x3))]) (st' := [(1, 0), (1, x3)]) (hs' := [(101, [], [0, 0, 0, 0, 0, 0])]) rfl rfl rfl ?_
  refine jT_fR [] 1 (y := 98) (pc' := 36) (dC := 0) (bc1 := 0) (bc2 := 0) (c1 := 0) (c2 := 0) (as := [(1, x3), (1, 0)]) (asC := [(1, x3), (1, 0)]) (L' := [(5, (0, 1)), (3, (1, x3)), (0, (4, 0)), (1, (1, x3))]) (st' := []) (hsC := []) (v := (1, x3)) (st2 := [(1, x3)]) (jA_98_105 (d := 0) (by omega)) (by rfl) (by rfl) (by decide +kernel) (by rfl) (by rfl) (by omega) (by omega) (by omega) (by omega) rfl ?_
  refine jT_xlstore_n (v := (1, x3)) (L' := [(3, (1, x3)), (5, (0, 1)), (0, (4, 0)), (1, (1, x3))]) (pc' := 37) jI_97_36 rfl rfl rfl rfl ?_
  refine jT_xiinc (x := 1) (z := 2) (L' := [(5, (0, 2)), (3, (1, x3)), (0, (4, 0)), (1, (1, x3))]) (pc' := 40) jI_97_37 rfl rfl (by decide) rfl rfl ?_
  refine jT_xgoto (pc' := 15) jI_97_40 rfl ?_
  refine jT_xiload (v := (0, 2)) (pc' := 17) jI_97_15 rfl rfl rfl ?_
  refine jT_xaload_n (v := (4, 0)) (pc' := 18) jI_97_17 rfl rfl rfl ?_
  refine jT_adv 1 (pc' := 19) (L' := [(5, (0, 2)), (3, (1, x3)), (0, (4, 0)), (1, (1, x3))]) (st' := [(0, 6), (0, 2)]) (hs' := [(101, [], [0, 0, 0, 0, 0, 0])]) (c1 := 0) (s1 := 0) (c2 := 0) (s2 := 0) (by exact rfl) ?_ (by omega) (by omega)
  refine jT_xicF (t := 43) (pc' := 22) jI_97_19 rfl (by decide +kernel) rfl rfl ?_
  refine jT_xlload_n (v := (1, x3)) (pc' := 23) jI_97_22 rfl rfl rfl ?_
  refine jT_xlconst (z := 1) (pc' := 24) jI_97_23 rfl rfl ?_
  refine jT_lcmp (a := x3) (b := 1) (z := 1) (by rfl) (by rfl) (jwl_idd (by omega) (by omega)) (jwl_idd (by omega) (by omega)) (by rw [decide_eq_true (show (1 : Int) < x3 by omega)]; rfl) ?_
  refine jT_xifF (t := 43) (pc' := 28) jI_97_25 rfl (by decide +kernel) rfl rfl ?_
  refine jT_xlload_n (v := (1, x3)) (pc' := 29) jI_97_28 rfl rfl rfl ?_
  refine jT_xaload_n (v := (4, 0)) (pc' := 30) jI_97_29 rfl rfl rfl ?_
  refine jT_xiload (v := (0, 2)) (pc' := 32) jI_97_30 rfl rfl rfl ?_
  refine jT_lald (x := 0) (a := 0) (j := 2) (fs := []) (X := [0, 0, 0, 0, 0, 0]) jI_97_32 rfl rfl rfl rfl ?_
  refine jT_eq (L' := [(5, (0, 2)), (3, (1, x3)), (0, (4, 0)), (1, (1, x3))]) (st' := [(1, 0), (1, x3)]) (hs' := [(101, [], [0, 0, 0, 0, 0, 0])]) rfl rfl rfl ?_
  refine jT_fR [] 1 (y := 98) (pc' := 36) (dC := 0) (bc1 := 0) (bc2 := 0) (c1 := 0) (c2 := 0) (as := [(1, x3), (1, 0)]) (asC := [(1, x3), (1, 0)]) (L' := [(5, (0, 2)), (3, (1, x3)), (0, (4, 0)), (1, (1, x3))]) (st' := []) (hsC := []) (v := (1, x3)) (st2 := [(1, x3)]) (jA_98_105 (d := 0) (by omega)) (by rfl) (by rfl) (by decide +kernel) (by rfl) (by rfl) (by omega) (by omega) (by omega) (by omega) rfl ?_
  refine jT_xlstore_n (v := (1, x3)) (L' := [(3, (1, x3)), (5, (0, 2)), (0, (4, 0)), (1, (1, x3))]) (pc' := 37) jI_97_36 rfl rfl rfl rfl ?_
  refine jT_xiinc (x := 2) (z := 3) (L' := [(5, (0, 3)), (3, (1, x3)), (0, (4, 0)), (1, (1, x3))]) (pc' := 40) jI_97_37 rfl rfl (by decide) rfl rfl ?_
  refine jT_xgoto (pc' := 15) jI_97_40 rfl ?_
  refine jT_xiload (v := (0, 3)) (pc' := 17) jI_97_15 rfl rfl rfl ?_
  refine jT_xaload_n (v := (4, 0)) (pc' := 18) jI_97_17 rfl rfl rfl ?_
  refine jT_adv 1 (pc' := 19) (L' := [(5, (0, 3)), (3, (1, x3)), (0, (4, 0)), (1, (1, x3))]) (st' := [(0, 6), (0, 3)]) (hs' := [(101, [], [0, 0, 0, 0, 0, 0])]) (c1 := 0) (s1 := 0) (c2 := 0) (s2 := 0) (by exact rfl) ?_ (by omega) (by omega)
  refine jT_xicF (t := 43) (pc' := 22) jI_97_19 rfl (by decide +kernel) rfl rfl ?_
  refine jT_xlload_n (v := (1, x3)) (pc' := 23) jI_97_22 rfl rfl rfl ?_
  refine jT_xlconst (z := 1) (pc' := 24) jI_97_23 rfl rfl ?_
  refine jT_lcmp (a := x3) (b := 1) (z := 1) (by rfl) (by rfl) (jwl_idd (by omega) (by omega)) (jwl_idd (by omega) (by omega)) (by rw [decide_eq_true (show (1 : Int) < x3 by omega)]; rfl) ?_
  refine jT_xifF (t := 43) (pc' := 28) jI_97_25 rfl (by decide +kernel) rfl rfl ?_
  refine jT_xlload_n (v := (1, x3)) (pc' := 29) jI_97_28 rfl rfl rfl ?_
  refine jT_xaload_n (v := (4, 0)) (pc' := 30) jI_97_29 rfl rfl rfl ?_
  refine jT_xiload (v := (0, 3)) (pc' := 32) jI_97_30 rfl rfl rfl ?_
  refine jT_lald (x := 0) (a := 0) (j := 3) (fs := []) (X := [0, 0, 0, 0, 0, 0]) jI_97_32 rfl rfl rfl rfl ?_
  refine jT_eq (L' := [(5, (0, 3)), (3, (1, x3)), (0, (4, 0)), (1, (1, x3))]) (st' := [(1, 0), (1, x3)]) (hs' := [(101, [], [0, 0, 0, 0, 0, 0])]) rfl rfl rfl ?_
  refine jT_fR [] 1 (y := 98) (pc' := 36) (dC := 0) (bc1 := 0) (bc2 := 0) (c1 := 0) (c2 := 0) (as := [(1, x3), (1, 0)]) (asC := [(1, x3), (1, 0)]) (L' := [(5, (0, 3)), (3, (1, x3)), (0, (4, 0)), (1, (1, x3))]) (st' := []) (hsC := []) (v := (1, x3)) (st2 := [(1, x3)]) (jA_98_105 (d := 0) (by omega)) (by rfl) (by rfl) (by decide +kernel) (by rfl) (by rfl) (by omega) (by omega) (by omega) (by omega) rfl ?_
  refine jT_xlstore_n (v := (1, x3)) (L' := [(3, (1, x3)), (5, (0, 3)), (0, (4, 0)), (1, (1, x3))]) (pc' := 37) jI_97_36 rfl rfl rfl rfl ?_
  refine jT_xiinc (x := 3) (z := 4) (L' := [(5, (0, 4)), (3, (1, x3)), (0, (4, 0)), (1, (1, x3))]) (pc' := 40) jI_97_37 rfl rfl (by decide) rfl rfl ?_
  refine jT_xgoto (pc' := 15) jI_97_40 rfl ?_
  refine jT_xiload (v := (0, 4)) (pc' := 17) jI_97_15 rfl rfl rfl ?_
  refine jT_xaload_n (v := (4, 0)) (pc' := 18) jI_97_17 rfl rfl rfl ?_
  refine jT_adv 1 (pc' := 19) (L' := [(5, (0, 4)), (3, (1, x3)), (0, (4, 0)), (1, (1, x3))]) (st' := [(0, 6), (0, 4)]) (hs' := [(101, [], [0, 0, 0, 0, 0, 0])]) (c1 := 0) (s1 := 0) (c2 := 0) (s2 := 0) (by exact rfl) ?_ (by omega) (by omega)
  refine jT_xicF (t := 43) (pc' := 22) jI_97_19 rfl (by decide +kernel) rfl rfl ?_
  refine jT_xlload_n (v := (1, x3)) (pc' := 23) jI_97_22 rfl rfl rfl ?_
  refine jT_xlconst (z := 1) (pc' := 24) jI_97_23 rfl rfl ?_
  refine jT_lcmp (a := x3) (b := 1) (z := 1) (by rfl) (by rfl) (jwl_idd (by omega) (by omega)) (jwl_idd (by omega) (by omega)) (by rw [decide_eq_true (show (1 : Int) < x3 by omega)]; rfl) ?_
  refine jT_xifF (t := 43) (pc' := 28) jI_97_25 rfl (by decide +kernel) rfl rfl ?_
  refine jT_xlload_n (v := (1, x3)) (pc' := 29) jI_97_28 rfl rfl rfl ?_
  refine jT_xaload_n (v := (4, 0)) (pc' := 30) jI_97_29 rfl rfl rfl ?_
  refine jT_xiload (v := (0, 4)) (pc' := 32) jI_97_30 rfl rfl rfl ?_
  refine jT_lald (x := 0) (a := 0) (j := 4) (fs := []) (X := [0, 0, 0, 0, 0, 0]) jI_97_32 rfl rfl rfl rfl ?_
  refine jT_eq (L' := [(5, (0, 4)), (3, (1, x3)), (0, (4, 0)), (1, (1, x3))]) (st' := [(1, 0), (1, x3)]) (hs' := [(101, [], [0, 0, 0, 0, 0, 0])]) rfl rfl rfl ?_
  refine jT_fR [] 1 (y := 98) (pc' := 36) (dC := 0) (bc1 := 0) (bc2 := 0) (c1 := 0) (c2 := 0) (as := [(1, x3), (1, 0)]) (asC := [(1, x3), (1, 0)]) (L' := [(5, (0, 4)), (3, (1, x3)), (0, (4, 0)), (1, (1, x3))]) (st' := []) (hsC := []) (v := (1, x3)) (st2 := [(1, x3)]) (jA_98_105 (d := 0) (by omega)) (by rfl) (by rfl) (by decide +kernel) (by rfl) (by rfl) (by omega) (by omega) (by omega) (by omega) rfl ?_
  refine jT_xlstore_n (v := (1, x3)) (L' := [(3, (1, x3)), (5, (0, 4)), (0, (4, 0)), (1, (1, x3))]) (pc' := 37) jI_97_36 rfl rfl rfl rfl ?_
  refine jT_xiinc (x := 4) (z := 5) (L' := [(5, (0, 5)), (3, (1, x3)), (0, (4, 0)), (1, (1, x3))]) (pc' := 40) jI_97_37 rfl rfl (by decide) rfl rfl ?_
  refine jT_xgoto (pc' := 15) jI_97_40 rfl ?_
  refine jT_xiload (v := (0, 5)) (pc' := 17) jI_97_15 rfl rfl rfl ?_
  refine jT_xaload_n (v := (4, 0)) (pc' := 18) jI_97_17 rfl rfl rfl ?_
  refine jT_adv 1 (pc' := 19) (L' := [(5, (0, 5)), (3, (1, x3)), (0, (4, 0)), (1, (1, x3))]) (st' := [(0, 6), (0, 5)]) (hs' := [(101, [], [0, 0, 0, 0, 0, 0])]) (c1 := 0) (s1 := 0) (c2 := 0) (s2 := 0) (by exact rfl) ?_ (by omega) (by omega)
  refine jT_xicF (t := 43) (pc' := 22) jI_97_19 rfl (by decide +kernel) rfl rfl ?_
  refine jT_xlload_n (v := (1, x3)) (pc' := 23) jI_97_22 rfl rfl rfl ?_
  refine jT_xlconst (z := 1) (pc' := 24) jI_97_23 rfl rfl ?_
  refine jT_lcmp (a := x3) (b := 1) (z := 1) (by rfl) (by rfl) (jwl_idd (by omega) (by omega)) (jwl_idd (by omega) (by omega)) (by rw [decide_eq_true (show (1 : Int) < x3 by omega)]; rfl) ?_
  refine jT_xifF (t := 43) (pc' := 28) jI_97_25 rfl (by decide +kernel) rfl rfl ?_
  refine jT_xlload_n (v := (1, x3)) (pc' := 29) jI_97_28 rfl rfl rfl ?_
  refine jT_xaload_n (v := (4, 0)) (pc' := 30) jI_97_29 rfl rfl rfl ?_
  refine jT_xiload (v := (0, 5)) (pc' := 32) jI_97_30 rfl rfl rfl ?_
  refine jT_lald (x := 0) (a := 0) (j := 5) (fs := []) (X := [0, 0, 0, 0, 0, 0]) jI_97_32 rfl rfl rfl rfl ?_
  refine jT_eq (L' := [(5, (0, 5)), (3, (1, x3)), (0, (4, 0)), (1, (1, x3))]) (st' := [(1, 0), (1, x3)]) (hs' := [(101, [], [0, 0, 0, 0, 0, 0])]) rfl rfl rfl ?_
  refine jT_fR [] 1 (y := 98) (pc' := 36) (dC := 0) (bc1 := 0) (bc2 := 0) (c1 := 0) (c2 := 0) (as := [(1, x3), (1, 0)]) (asC := [(1, x3), (1, 0)]) (L' := [(5, (0, 5)), (3, (1, x3)), (0, (4, 0)), (1, (1, x3))]) (st' := []) (hsC := []) (v := (1, x3)) (st2 := [(1, x3)]) (jA_98_105 (d := 0) (by omega)) (by rfl) (by rfl) (by decide +kernel) (by rfl) (by rfl) (by omega) (by omega) (by omega) (by omega) rfl ?_
  refine jT_xlstore_n (v := (1, x3)) (L' := [(3, (1, x3)), (5, (0, 5)), (0, (4, 0)), (1, (1, x3))]) (pc' := 37) jI_97_36 rfl rfl rfl rfl ?_
  refine jT_xiinc (x := 5) (z := 6) (L' := [(5, (0, 6)), (3, (1, x3)), (0, (4, 0)), (1, (1, x3))]) (pc' := 40) jI_97_37 rfl rfl (by decide) rfl rfl ?_
  refine jT_xgoto (pc' := 15) jI_97_40 rfl ?_
  refine jT_xiload (v := (0, 6)) (pc' := 17) jI_97_15 rfl rfl rfl ?_
  refine jT_xaload_n (v := (4, 0)) (pc' := 18) jI_97_17 rfl rfl rfl ?_
  refine jT_adv 1 (pc' := 19) (L' := [(5, (0, 6)), (3, (1, x3)), (0, (4, 0)), (1, (1, x3))]) (st' := [(0, 6), (0, 6)]) (hs' := [(101, [], [0, 0, 0, 0, 0, 0])]) (c1 := 0) (s1 := 0) (c2 := 0) (s2 := 0) (by exact rfl) ?_ (by omega) (by omega)
  refine jT_xicT (pc' := 43) jI_97_19 rfl (by decide +kernel) rfl ?_
  refine jT_xlload_n (v := (1, x3)) (pc' := 44) jI_97_43 rfl rfl rfl ?_
  refine jT_xlconst (z := 1) (pc' := 45) jI_97_44 rfl rfl ?_
  refine jT_lcmp (a := x3) (b := 1) (z := 1) (by rfl) (by rfl) (jwl_idd (by omega) (by omega)) (jwl_idd (by omega) (by omega)) (by rw [decide_eq_true (show (1 : Int) < x3 by omega)]; rfl) ?_
  refine jT_xifT (pc' := 61) jI_97_46 rfl (by decide +kernel) rfl ?_
  refine jT_xiconst (k := 0) (pc' := 62) jI_97_61 rfl ?_
  refine jT_xistore (v := (0, 0)) (L' := [(5, (0, 0)), (3, (1, x3)), (0, (4, 0)), (1, (1, x3))]) (pc' := 64) jI_97_62 rfl rfl rfl rfl ?_
  refine jT_xiload (v := (0, 0)) (pc' := 66) jI_97_64 rfl rfl rfl ?_
  refine jT_xaload_n (v := (4, 0)) (pc' := 67) jI_97_66 rfl rfl rfl ?_
  refine jT_adv 1 (pc' := 68) (L' := [(5, (0, 0)), (3, (1, x3)), (0, (4, 0)), (1, (1, x3))]) (st' := [(0, 6), (0, 0)]) (hs' := [(101, [], [0, 0, 0, 0, 0, 0])]) (c1 := 0) (s1 := 0) (c2 := 0) (s2 := 0) (by exact rfl) ?_ (by omega) (by omega)
  refine jT_xicF (t := 85) (pc' := 71) jI_97_68 rfl (by decide +kernel) rfl rfl ?_
  refine jT_xaload_n (v := (4, 0)) (pc' := 72) jI_97_71 rfl rfl rfl ?_
  refine jT_xiload (v := (0, 0)) (pc' := 74) jI_97_72 rfl rfl rfl ?_
  refine jT_adv 1 (pc' := 75) (L' := [(5, (0, 0)), (3, (1, x3)), (0, (4, 0)), (1, (1, x3))]) (st' := [(0, 0), (4, 0), (0, 0), (4, 0)]) (hs' := [(101, [], [0, 0, 0, 0, 0, 0])]) (c1 := 0) (s1 := 0) (c2 := 0) (s2 := 0) (by exact rfl) ?_ (by omega) (by omega)
  refine jT_lald (x := 0) (a := 0) (j := 0) (fs := []) (X := [0, 0, 0, 0, 0, 0]) jI_97_75 rfl rfl rfl rfl ?_
  refine jT_eq (L' := [(5, (0, 0)), (3, (1, x3)), (0, (4, 0)), (1, (1, x3))]) (st' := [(1, 0), (0, 0), (4, 0)]) (hs' := [(101, [], [0, 0, 0, 0, 0, 0])]) rfl rfl rfl ?_
  refine jT_xlload_n (v := (1, x3)) (pc' := 77) jI_97_76 rfl rfl rfl ?_
  refine jT_ldiv (a := 0) (b := x3) (by rfl) (by rfl) (jwl_idd (by omega) (by omega)) (jwl_idd (by omega) (by omega)) (by omega) ?_
  refine jT_eq (L' := [(5, (0, 0)), (3, (1, x3)), (0, (4, 0)), (1, (1, x3))]) (st' := [(1, 0), (0, 0), (4, 0)]) (hs' := [(101, [], [0, 0, 0, 0, 0, 0])]) rfl (by rw [show ((0 : Int).tdiv x3 : Int) = 0 by simp]) rfl ?_
  refine jT_adv 1 (pc' := 79) (L' := [(5, (0, 0)), (3, (1, x3)), (0, (4, 0)), (1, (1, x3))]) (st' := []) (hs' := [(101, [], [0, 0, 0, 0, 0, 0])]) (c1 := 0) (s1 := 0) (c2 := 0) (s2 := 0) (by exact rfl) ?_ (by omega) (by omega)
  refine jT_xiinc (x := 0) (z := 1) (L' := [(5, (0, 1)), (3, (1, x3)), (0, (4, 0)), (1, (1, x3))]) (pc' := 82) jI_97_79 rfl rfl (by decide) rfl rfl ?_
  refine jT_xgoto (pc' := 64) jI_97_82 rfl ?_
  refine jT_xiload (v := (0, 1)) (pc' := 66) jI_97_64 rfl rfl rfl ?_
  refine jT_xaload_n (v := (4, 0)) (pc' := 67) jI_97_66 rfl rfl rfl ?_
  refine jT_adv 1 (pc' := 68) (L' := [(5, (0, 1)), (3, (1, x3)), (0, (4, 0)), (1, (1, x3))]) (st' := [(0, 6), (0, 1)]) (hs' := [(101, [], [0, 0, 0, 0, 0, 0])]) (c1 := 0) (s1 := 0) (c2 := 0) (s2 := 0) (by exact rfl) ?_ (by omega) (by omega)
  refine jT_xicF (t := 85) (pc' := 71) jI_97_68 rfl (by decide +kernel) rfl rfl ?_
  refine jT_xaload_n (v := (4, 0)) (pc' := 72) jI_97_71 rfl rfl rfl ?_
  refine jT_xiload (v := (0, 1)) (pc' := 74) jI_97_72 rfl rfl rfl ?_
  refine jT_adv 1 (pc' := 75) (L' := [(5, (0, 1)), (3, (1, x3)), (0, (4, 0)), (1, (1, x3))]) (st' := [(0, 1), (4, 0), (0, 1), (4, 0)]) (hs' := [(101, [], [0, 0, 0, 0, 0, 0])]) (c1 := 0) (s1 := 0) (c2 := 0) (s2 := 0) (by exact rfl) ?_ (by omega) (by omega)
  refine jT_lald (x := 0) (a := 0) (j := 1) (fs := []) (X := [0, 0, 0, 0, 0, 0]) jI_97_75 rfl rfl rfl rfl ?_
  refine jT_eq (L' := [(5, (0, 1)), (3, (1, x3)), (0, (4, 0)), (1, (1, x3))]) (st' := [(1, 0), (0, 1), (4, 0)]) (hs' := [(101, [], [0, 0, 0, 0, 0, 0])]) rfl rfl rfl ?_
  refine jT_xlload_n (v := (1, x3)) (pc' := 77) jI_97_76 rfl rfl rfl ?_
  refine jT_ldiv (a := 0) (b := x3) (by rfl) (by rfl) (jwl_idd (by omega) (by omega)) (jwl_idd (by omega) (by omega)) (by omega) ?_
  refine jT_eq (L' := [(5, (0, 1)), (3, (1, x3)), (0, (4, 0)), (1, (1, x3))]) (st' := [(1, 0), (0, 1), (4, 0)]) (hs' := [(101, [], [0, 0, 0, 0, 0, 0])]) rfl (by rw [show ((0 : Int).tdiv x3 : Int) = 0 by simp]) rfl ?_
  refine jT_adv 1 (pc' := 79) (L' := [(5, (0, 1)), (3, (1, x3)), (0, (4, 0)), (1, (1, x3))]) (st' := []) (hs' := [(101, [], [0, 0, 0, 0, 0, 0])]) (c1 := 0) (s1 := 0) (c2 := 0) (s2 := 0) (by exact rfl) ?_ (by omega) (by omega)
  refine jT_xiinc (x := 1) (z := 2) (L' := [(5, (0, 2)), (3, (1, x3)), (0, (4, 0)), (1, (1, x3))]) (pc' := 82) jI_97_79 rfl rfl (by decide) rfl rfl ?_
  refine jT_xgoto (pc' := 64) jI_97_82 rfl ?_
  refine jT_xiload (v := (0, 2)) (pc' := 66) jI_97_64 rfl rfl rfl ?_
  refine jT_xaload_n (v := (4, 0)) (pc' := 67) jI_97_66 rfl rfl rfl ?_
  refine jT_adv 1 (pc' := 68) (L' := [(5, (0, 2)), (3, (1, x3)), (0, (4, 0)), (1, (1, x3))]) (st' := [(0, 6), (0, 2)]) (hs' := [(101, [], [0, 0, 0, 0, 0, 0])]) (c1 := 0) (s1 := 0) (c2 := 0) (s2 := 0) (by exact rfl) ?_ (by omega) (by omega)
  refine jT_xicF (t := 85) (pc' := 71) jI_97_68 rfl (by decide +kernel) rfl rfl ?_
  refine jT_xaload_n (v := (4, 0)) (pc' := 72) jI_97_71 rfl rfl rfl ?_
  refine jT_xiload (v := (0, 2)) (pc' := 74) jI_97_72 rfl rfl rfl ?_
  refine jT_adv 1 (pc' := 75) (L' := [(5, (0, 2)), (3, (1, x3)), (0, (4, 0)), (1, (1, x3))]) (st' := [(0, 2), (4, 0), (0, 2), (4, 0)]) (hs' := [(101, [], [0, 0, 0, 0, 0, 0])]) (c1 := 0) (s1 := 0) (c2 := 0) (s2 := 0) (by exact rfl) ?_ (by omega) (by omega)
  refine jT_lald (x := 0) (a := 0) (j := 2) (fs := []) (X := [0, 0, 0, 0, 0, 0]) jI_97_75 rfl rfl rfl rfl ?_
  refine jT_eq (L' := [(5, (0, 2)), (3, (1, x3)), (0, (4, 0)), (1, (1, x3))]) (st' := [(1, 0), (0, 2), (4, 0)]) (hs' := [(101, [], [0, 0, 0, 0, 0, 0])]) rfl rfl rfl ?_
  refine jT_xlload_n (v := (1, x3)) (pc' := 77) jI_97_76 rfl rfl rfl ?_
  refine jT_ldiv (a := 0) (b := x3) (by rfl) (by rfl) (jwl_idd (by omega) (by omega)) (jwl_idd (by omega) (by omega)) (by omega) ?_
  refine jT_eq (L' := [(5, (0, 2)), (3, (1, x3)), (0, (4, 0)), (1, (1, x3))]) (st' := [(1, 0), (0, 2), (4, 0)]) (hs' := [(101, [], [0, 0, 0, 0, 0, 0])]) rfl (by rw [show ((0 : Int).tdiv x3 : Int) = 0 by simp]) rfl ?_
  refine jT_adv 1 (pc' := 79) (L' := [(5, (0, 2)), (3, (1, x3)), (0, (4, 0)), (1, (1, x3))]) (st' := []) (hs' := [(101, [], [0, 0, 0, 0, 0, 0])]) (c1 := 0) (s1 := 0) (c2 := 0) (s2 := 0) (by exact rfl) ?_ (by omega) (by omega)
  refine jT_xiinc (x := 2) (z := 3) (L' := [(5, (0, 3)), (3, (1, x3)), (0, (4, 0)), (1, (1, x3))]) (pc' := 82) jI_97_79 rfl rfl (by decide) rfl rfl ?_
  refine jT_xgoto (pc' := 64) jI_97_82 rfl ?_
  refine jT_xiload (v := (0, 3)) (pc' := 66) jI_97_64 rfl rfl rfl ?_
  refine jT_xaload_n (v := (4, 0)) (pc' := 67) jI_97_66 rfl rfl rfl ?_
  refine jT_adv 1 (pc' := 68) (L' := [(5, (0, 3)), (3, (1, x3)), (0, (4, 0)), (1, (1, x3))]) (st' := [(0, 6), (0, 3)]) (hs' := [(101, [], [0, 0, 0, 0, 0, 0])]) (c1 := 0) (s1 := 0) (c2 := 0) (s2 := 0) (by exact rfl) ?_ (by omega) (by omega)
  refine jT_xicF (t := 85) (pc' := 71) jI_97_68 rfl (by decide +kernel) rfl rfl ?_
  refine jT_xaload_n (v := (4, 0)) (pc' := 72) jI_97_71 rfl rfl rfl ?_
  refine jT_xiload (v := (0, 3)) (pc' := 74) jI_97_72 rfl rfl rfl ?_
  refine jT_adv 1 (pc' := 75) (L' := [(5, (0, 3)), (3, (1, x3)), (0, (4, 0)), (1, (1, x3))]) (st' := [(0, 3), (4, 0), (0, 3), (4, 0)]) (hs' := [(101, [], [0, 0, 0, 0, 0, 0])]) (c1 := 0) (s1 := 0) (c2 := 0) (s2 := 0) (by exact rfl) ?_ (by omega) (by omega)
  refine jT_lald (x := 0) (a := 0) (j := 3) (fs := []) (X := [0, 0, 0, 0, 0, 0]) jI_97_75 rfl rfl rfl rfl ?_
  refine jT_eq (L' := [(5, (0, 3)), (3, (1, x3)), (0, (4, 0)), (1, (1, x3))]) (st' := [(1, 0), (0, 3), (4, 0)]) (hs' := [(101, [], [0, 0, 0, 0, 0, 0])]) rfl rfl rfl ?_
  refine jT_xlload_n (v := (1, x3)) (pc' := 77) jI_97_76 rfl rfl rfl ?_
  refine jT_ldiv (a := 0) (b := x3) (by rfl) (by rfl) (jwl_idd (by omega) (by omega)) (jwl_idd (by omega) (by omega)) (by omega) ?_
  refine jT_eq (L' := [(5, (0, 3)), (3, (1, x3)), (0, (4, 0)), (1, (1, x3))]) (st' := [(1, 0), (0, 3), (4, 0)]) (hs' := [(101, [], [0, 0, 0, 0, 0, 0])]) rfl (by rw [show ((0 : Int).tdiv x3 : Int) = 0 by simp]) rfl ?_
  refine jT_adv 1 (pc' := 79) (L' := [(5, (0, 3)), (3, (1, x3)), (0, (4, 0)), (1, (1, x3))]) (st' := []) (hs' := [(101, [], [0, 0, 0, 0, 0, 0])]) (c1 := 0) (s1 := 0) (c2 := 0) (s2 := 0) (by exact rfl) ?_ (by omega) (by omega)
  refine jT_xiinc (x := 3) (z := 4) (L' := [(5, (0, 4)), (3, (1, x3)), (0, (4, 0)), (1, (1, x3))]) (pc' := 82) jI_97_79 rfl rfl (by decide) rfl rfl ?_
  refine jT_xgoto (pc' := 64) jI_97_82 rfl ?_
  refine jT_xiload (v := (0, 4)) (pc' := 66) jI_97_64 rfl rfl rfl ?_
  refine jT_xaload_n (v := (4, 0)) (pc' := 67) jI_97_66 rfl rfl rfl ?_
  refine jT_adv 1 (pc' := 68) (L' := [(5, (0, 4)), (3, (1, x3)), (0, (4, 0)), (1, (1, x3))]) (st' := [(0, 6), (0, 4)]) (hs' := [(101, [], [0, 0, 0, 0, 0, 0])]) (c1 := 0) (s1 := 0) (c2 := 0) (s2 := 0) (by exact rfl) ?_ (by omega) (by omega)
  refine jT_xicF (t := 85) (pc' := 71) jI_97_68 rfl (by decide +kernel) rfl rfl ?_
  refine jT_xaload_n (v := (4, 0)) (pc' := 72) jI_97_71 rfl rfl rfl ?_
  refine jT_xiload (v := (0, 4)) (pc' := 74) jI_97_72 rfl rfl rfl ?_
  refine jT_adv 1 (pc' := 75) (L' := [(5, (0, 4)), (3, (1, x3)), (0, (4, 0)), (1, (1, x3))]) (st' := [(0, 4), (4, 0), (0, 4), (4, 0)]) (hs' := [(101, [], [0, 0, 0, 0, 0, 0])]) (c1 := 0) (s1 := 0) (c2 := 0) (s2 := 0) (by exact rfl) ?_ (by omega) (by omega)
  refine jT_lald (x := 0) (a := 0) (j := 4) (fs := []) (X := [0, 0, 0, 0, 0, 0]) jI_97_75 rfl rfl rfl rfl ?_
  refine jT_eq (L' := [(5, (0, 4)), (3, (1, x3)), (0, (4, 0)), (1, (1, x3))]) (st' := [(1, 0), (0, 4), (4, 0)]) (hs' := [(101, [], [0, 0, 0, 0, 0, 0])]) rfl rfl rfl ?_
  refine jT_xlload_n (v := (1, x3)) (pc' := 77) jI_97_76 rfl rfl rfl ?_
  refine jT_ldiv (a := 0) (b := x3) (by rfl) (by rfl) (jwl_idd (by omega) (by omega)) (jwl_idd (by omega) (by omega)) (by omega) ?_
  refine jT_eq (L' := [(5, (0, 4)), (3, (1, x3)), (0, (4, 0)), (1, (1, x3))]) (st' := [(1, 0), (0, 4), (4, 0)]) (hs' := [(101, [], [0, 0, 0, 0, 0, 0])]) rfl (by rw [show ((0 : Int).tdiv x3 : Int) = 0 by simp]) rfl ?_
  refine jT_adv 1 (pc' := 79) (L' := [(5, (0, 4)), (3, (1, x3)), (0, (4, 0)), (1, (1, x3))]) (st' := []) (hs' := [(101, [], [0, 0, 0, 0, 0, 0])]) (c1 := 0) (s1 := 0) (c2 := 0) (s2 := 0) (by exact rfl) ?_ (by omega) (by omega)
  refine jT_xiinc (x := 4) (z := 5) (L' := [(5, (0, 5)), (3, (1, x3)), (0, (4, 0)), (1, (1, x3))]) (pc' := 82) jI_97_79 rfl rfl (by decide) rfl rfl ?_
  refine jT_xgoto (pc' := 64) jI_97_82 rfl ?_
  refine jT_xiload (v := (0, 5)) (pc' := 66) jI_97_64 rfl rfl rfl ?_
  refine jT_xaload_n (v := (4, 0)) (pc' := 67) jI_97_66 rfl rfl rfl ?_
  refine jT_adv 1 (pc' := 68) (L' := [(5, (0, 5)), (3, (1, x3)), (0, (4, 0)), (1, (1, x3))]) (st' := [(0, 6), (0, 5)]) (hs' := [(101, [], [0, 0, 0, 0, 0, 0])]) (c1 := 0) (s1 := 0) (c2 := 0) (s2 := 0) (by exact rfl) ?_ (by omega) (by omega)
  refine jT_xicF (t := 85) (pc' := 71) jI_97_68 rfl (by decide +kernel) rfl rfl ?_
  refine jT_xaload_n (v := (4, 0)) (pc' := 72) jI_97_71 rfl rfl rfl ?_
  refine jT_xiload (v := (0, 5)) (pc' := 74) jI_97_72 rfl rfl rfl ?_
  refine jT_adv 1 (pc' := 75) (L' := [(5, (0, 5)), (3, (1, x3)), (0, (4, 0)), (1, (1, x3))]) (st' := [(0, 5), (4, 0), (0, 5), (4, 0)]) (hs' := [(101, [], [0, 0, 0, 0, 0, 0])]) (c1 := 0) (s1 := 0) (c2 := 0) (s2 := 0) (by exact rfl) ?_ (by omega) (by omega)
  refine jT_lald (x := 0) (a := 0) (j := 5) (fs := []) (X := [0, 0, 0, 0, 0, 0]) jI_97_75 rfl rfl rfl rfl ?_
  refine jT_eq (L' := [(5, (0, 5)), (3, (1, x3)), (0, (4, 0)), (1, (1, x3))]) (st' := [(1, 0), (0, 5), (4, 0)]) (hs' := [(101, [], [0, 0, 0, 0, 0, 0])]) rfl rfl rfl ?_
  refine jT_xlload_n (v := (1, x3)) (pc' := 77) jI_97_76 rfl rfl rfl ?_
  refine jT_ldiv (a := 0) (b := x3) (by rfl) (by rfl) (jwl_idd (by omega) (by omega)) (jwl_idd (by omega) (by omega)) (by omega) ?_
  refine jT_eq (L' := [(5, (0, 5)), (3, (1, x3)), (0, (4, 0)), (1, (1, x3))]) (st' := [(1, 0), (0, 5), (4, 0)]) (hs' := [(101, [], [0, 0, 0, 0, 0, 0])]) rfl (by rw [show ((0 : Int).tdiv x3 : Int) = 0 by simp]) rfl ?_
  refine jT_adv 1 (pc' := 79) (L' := [(5, (0, 5)), (3, (1, x3)), (0, (4, 0)), (1, (1, x3))]) (st' := []) (hs' := [(101, [], [0, 0, 0, 0, 0, 0])]) (c1 := 0) (s1 := 0) (c2 := 0) (s2 := 0) (by exact rfl) ?_ (by omega) (by omega)
  refine jT_xiinc (x := 5) (z := 6) (L' := [(5, (0, 6)), (3, (1, x3)), (0, (4, 0)), (1, (1, x3))]) (pc' := 82) jI_97_79 rfl rfl (by decide) rfl rfl ?_
  refine jT_xgoto (pc' := 64) jI_97_82 rfl ?_
  refine jT_xiload (v := (0, 6)) (pc' := 66) jI_97_64 rfl rfl rfl ?_
  refine jT_xaload_n (v := (4, 0)) (pc' := 67) jI_97_66 rfl rfl rfl ?_
  refine jT_adv 1 (pc' := 68) (L' := [(5, (0, 6)), (3, (1, x3)), (0, (4, 0)), (1, (1, x3))]) (st' := [(0, 6), (0, 6)]) (hs' := [(101, [], [0, 0, 0, 0, 0, 0])]) (c1 := 0) (s1 := 0) (c2 := 0) (s2 := 0) (by exact rfl) ?_ (by omega) (by omega)
  refine jT_xicT (pc' := 85) jI_97_68 rfl (by decide +kernel) rfl ?_
  refine jT_xlload_n (v := (1, x3)) (pc' := 86) jI_97_85 rfl rfl rfl ?_
  refine jT_xlload_n (v := (1, x3)) (pc' := 87) jI_97_86 rfl rfl rfl ?_
  refine jT_ldiv (a := x3) (b := x3) (by rfl) (by rfl) (jwl_idd (by omega) (by omega)) (jwl_idd (by omega) (by omega)) (by omega) ?_
  refine jT_eq (L' := [(5, (0, 6)), (3, (1, x3)), (0, (4, 0)), (1, (1, x3))]) (st' := [(1, 1)]) (hs' := [(101, [], [0, 0, 0, 0, 0, 0])]) rfl (by rw [show (x3.tdiv x3 : Int) = 1 by exact Int.tdiv_self (by omega)]) rfl ?_
  exact jT_ret rfl (by decide) (by show 1 ≤ 1; decide) (by omega) (by omega) ⟨rfl, rfl, rfl⟩
theorem jI_9_0 : jmI (jm 9) 0 = (.aload_n 0, 1) := by rfl
theorem jI_9_4 : jmI (jm 9) 4 = (.aload_n 0, 1) := by rfl
theorem jI_9_5 : jmI (jm 9) 5 = (.aload_n 1, 1) := by rfl
theorem jI_9_9 : jmI (jm 9) 9 = (.aload_n 0, 1) := by rfl
theorem jI_9_10 : jmI (jm 9) 10 = (.aload_n 1, 1) := by rfl
theorem jI_9_11 : jmI (jm 9) 11 = (.lload_n 2, 1) := by rfl
theorem jA_9_107 {xs : List Int} {d : Nat} {x3 : Int} (h_x3 : 2 ≤ x3 ∧ x3 ≤ 24) : jT xs (d + 2) 9 2 0 [(0, (4, 0)), (1, (4, 1)), (2, (1, x3))] [] [(4, [(4, (-1)), (1, 0)], []), (101, [], [0, 0, 0, 0, 0, 0])] 0 0 (fun k v hs' => k = 0 ∧ v = (9, 0) ∧ hs' = [(4, [(4, 1), (1, 1)], []), (101, [], [0, 0, 0, 0, 0, 0])]) := by
  refine jT_xaload_n (v := (4, 0)) (pc' := 1) jI_9_0 rfl rfl rfl ?_
  refine jT_adv 1 (pc' := 4) (L' := [(0, (4, 0)), (1, (4, 1)), (2, (1, x3))]) (st' := []) (hs' := [(4, [(4, (-1)), (1, 0)], []), (101, [], [0, 0, 0, 0, 0, 0])]) (c1 := 0) (s1 := 0) (c2 := 0) (s2 := 0) (by exact rfl) ?_ (by omega) (by omega)
  refine jT_xaload_n (v := (4, 0)) (pc' := 5) jI_9_4 rfl rfl rfl ?_
  refine jT_xaload_n (v := (4, 1)) (pc' := 6) jI_9_5 rfl rfl rfl ?_
  refine jT_adv 1 (pc' := 9) (L' := [(0, (4, 0)), (1, (4, 1)), (2, (1, x3))]) (st' := []) (hs' := [(4, [(4, 1), (1, 0)], []), (101, [], [0, 0, 0, 0, 0, 0])]) (c1 := 0) (s1 := 0) (c2 := 0) (s2 := 0) (by exact rfl) ?_ (by omega) (by omega)
  refine jT_xaload_n (v := (4, 0)) (pc' := 10) jI_9_9 rfl rfl rfl ?_
  refine jT_xaload_n (v := (4, 1)) (pc' := 11) jI_9_10 rfl rfl rfl ?_
  refine jT_xlload_n (v := (1, x3)) (pc' := 12) jI_9_11 rfl rfl rfl ?_
  refine jT_fR [1] 2 (y := 97) (pc' := 15) (dC := 1) (bc1 := 0) (bc2 := 0) (c1 := 0) (c2 := 0) (as := [(4, 1), (1, x3)]) (asC := [(4, 0), (1, x3)]) (L' := [(0, (4, 0)), (1, (4, 1)), (2, (1, x3))]) (st' := [(4, 0)]) (hsC := [(101, [], [0, 0, 0, 0, 0, 0])]) (v := (1, 1)) (st2 := [(1, 1), (4, 0)]) (jA_97_106 (d := 0) (by omega)) (by rfl) (by rfl) (by decide +kernel) (by rfl) (by rfl) (by omega) (by omega) (by omega) (by omega) rfl ?_
  refine jT_adv 1 (pc' := 18) (L' := [(0, (4, 0)), (1, (4, 1)), (2, (1, x3))]) (st' := []) (hs' := [(4, [(4, 1), (1, 1)], []), (101, [], [0, 0, 0, 0, 0, 0])]) (c1 := 0) (s1 := 0) (c2 := 0) (s2 := 0) (by exact rfl) ?_ (by omega) (by omega)
  exact jT_ret rfl (by decide) (by show 2 ≤ 2; decide) (by omega) (by omega) ⟨rfl, rfl, rfl⟩
theorem jA_10_108 {xs : List Int} {d : Nat} {x2 x3 : Int} (h_x2 : (-100) ≤ x2 ∧ x2 ≤ 100) (h_x3 : 2 ≤ x3 ∧ x3 ≤ 24) : jT xs (d + 3) 10 2 0 [(0, (4, 0)), (1, (1, x2)), (3, (1, x3)), (5, (1, 0))] [] [(4, [(4, 1), (1, 1)], []), (101, [], [0, 0, 0, 0, 0, 0])] 2 8 (fun k v hs' => k = 0 ∧ v = (4, 3) ∧ hs' = [(4, [(4, 1), (1, 1)], []), (101, [], [0, 0, 0, 0, 0, 0])] ++ [(101, [], [0, 0, 0, 0, 0, 0]), (4, [(4, 2), (1, 1)], [])]) := by
  refine jT_xbipush (k := 6) (pc' := 2) jI_10_0 (by decide) rfl ?_
  refine jT_adv 1 (pc' := 4) (L' := [(0, (4, 0)), (1, (1, x2)), (3, (1, x3)), (5, (1, 0))]) (st' := [(4, 2)]) (hs' := [(4, [(4, 1), (1, 1)], []), (101, [], [0, 0, 0, 0, 0, 0]), (101, [], [0, 0, 0, 0, 0, 0])]) (c1 := 1) (s1 := 6) (c2 := 1) (s2 := 2) (by exact rfl) ?_ (by omega) (by omega)
  refine jT_xastore (v := (4, 2)) (L' := [(7, (4, 2)), (0, (4, 0)), (1, (1, x2)), (3, (1, x3)), (5, (1, 0))]) (pc' := 6) jI_10_4 rfl rfl rfl rfl ?_
  refine jT_xiconst (k := 0) (pc' := 7) jI_10_6 rfl ?_
  refine jT_xistore (v := (0, 0)) (L' := [(8, (0, 0)), (7, (4, 2)), (0, (4, 0)), (1, (1, x2)), (3, (1, x3)), (5, (1, 0))]) (pc' := 9) jI_10_7 rfl rfl rfl rfl ?_
  refine jT_xiload (v := (0, 0)) (pc' := 11) jI_10_9 rfl rfl rfl ?_
  refine jT_xbipush (k := 6) (pc' := 13) jI_10_11 (by decide) rfl ?_
  refine jT_xicF (t := 36) (pc' := 16) jI_10_13 rfl (by decide +kernel) rfl rfl ?_
  refine jT_xaload (v := (4, 2)) (pc' := 18) jI_10_16 rfl rfl rfl ?_
  refine jT_xiload (v := (0, 0)) (pc' := 20) jI_10_18 rfl rfl rfl ?_
  refine jT_xaload_n (v := (4, 0)) (pc' := 21) jI_10_20 rfl rfl rfl ?_
  refine jT_xgetf (a := 0) (t := 1) (ci := 4) (fi := 0) (c := (4, [(4, 1), (1, 1)], [])) (v := (4, 1)) (pc' := 24) jI_10_21 rfl rfl rfl rfl rfl rfl rfl ?_
  refine jT_xiload (v := (0, 0)) (pc' := 26) jI_10_24 rfl rfl rfl ?_
  refine jT_lald (x := 0) (a := 1) (j := 0) (fs := []) (X := [0, 0, 0, 0, 0, 0]) jI_10_26 rfl rfl rfl rfl ?_
  refine jT_eq (L' := [(8, (0, 0)), (7, (4, 2)), (0, (4, 0)), (1, (1, x2)), (3, (1, x3)), (5, (1, 0))]) (st' := [(1, 0), (0, 0), (4, 2)]) (hs' := [(4, [(4, 1), (1, 1)], []), (101, [], [0, 0, 0, 0, 0, 0]), (101, [], [0, 0, 0, 0, 0, 0])]) rfl rfl rfl ?_
  refine jT_xlload_n (v := (1, x2)) (pc' := 28) jI_10_27 rfl rfl rfl ?_
  refine jT_xlmul (x := 0) (y := x2) (z := 0) (pc' := 29) jI_10_28 rfl (by omega) rfl ?_
  refine jT_adv 1 (pc' := 30) (L' := [(8, (0, 0)), (7, (4, 2)), (0, (4, 0)), (1, (1, x2)), (3, (1, x3)), (5, (1, 0))]) (st' := []) (hs' := [(4, [(4, 1), (1, 1)], []), (101, [], [0, 0, 0, 0, 0, 0]), (101, [], [0, 0, 0, 0, 0, 0])]) (c1 := 0) (s1 := 0) (c2 := 1) (s2 := 2) (by exact rfl) ?_ (by omega) (by omega)
  refine jT_xiinc (x := 0) (z := 1) (L' := [(8, (0, 1)), (7, (4, 2)), (0, (4, 0)), (1, (1, x2)), (3, (1, x3)), (5, (1, 0))]) (pc' := 33) jI_10_30 rfl rfl (by decide) rfl rfl ?_
  refine jT_xgoto (pc' := 9) jI_10_33 rfl ?_
  refine jT_xiload (v := (0, 1)) (pc' := 11) jI_10_9 rfl rfl rfl ?_
  refine jT_xbipush (k := 6) (pc' := 13) jI_10_11 (by decide) rfl ?_
  refine jT_xicF (t := 36) (pc' := 16) jI_10_13 rfl (by decide +kernel) rfl rfl ?_
  refine jT_xaload (v := (4, 2)) (pc' := 18) jI_10_16 rfl rfl rfl ?_
  refine jT_xiload (v := (0, 1)) (pc' := 20) jI_10_18 rfl rfl rfl ?_
  refine jT_xaload_n (v := (4, 0)) (pc' := 21) jI_10_20 rfl rfl rfl ?_
  refine jT_xgetf (a := 0) (t := 1) (ci := 4) (fi := 0) (c := (4, [(4, 1), (1, 1)], [])) (v := (4, 1)) (pc' := 24) jI_10_21 rfl rfl rfl rfl rfl rfl rfl ?_
  refine jT_xiload (v := (0, 1)) (pc' := 26) jI_10_24 rfl rfl rfl ?_
  refine jT_lald (x := 0) (a := 1) (j := 1) (fs := []) (X := [0, 0, 0, 0, 0, 0]) jI_10_26 rfl rfl rfl rfl ?_
  refine jT_eq (L' := [(8, (0, 1)), (7, (4, 2)), (0, (4, 0)), (1, (1, x2)), (3, (1, x3)), (5, (1, 0))]) (st' := [(1, 0), (0, 1), (4, 2)]) (hs' := [(4, [(4, 1), (1, 1)], []), (101, [], [0, 0, 0, 0, 0, 0]), (101, [], [0, 0, 0, 0, 0, 0])]) rfl rfl rfl ?_
  refine jT_xlload_n (v := (1, x2)) (pc' := 28) jI_10_27 rfl rfl rfl ?_
  refine jT_xlmul (x := 0) (y := x2) (z := 0) (pc' := 29) jI_10_28 rfl (by omega) rfl ?_
  refine jT_adv 1 (pc' := 30) (L' := [(8, (0, 1)), (7, (4, 2)), (0, (4, 0)), (1, (1, x2)), (3, (1, x3)), (5, (1, 0))]) (st' := []) (hs' := [(4, [(4, 1), (1, 1)], []), (101, [], [0, 0, 0, 0, 0, 0]), (101, [], [0, 0, 0, 0, 0, 0])]) (c1 := 0) (s1 := 0) (c2 := 1) (s2 := 2) (by exact rfl) ?_ (by omega) (by omega)
  refine jT_xiinc (x := 1) (z := 2) (L' := [(8, (0, 2)), (7, (4, 2)), (0, (4, 0)), (1, (1, x2)), (3, (1, x3)), (5, (1, 0))]) (pc' := 33) jI_10_30 rfl rfl (by decide) rfl rfl ?_
  refine jT_xgoto (pc' := 9) jI_10_33 rfl ?_
  refine jT_xiload (v := (0, 2)) (pc' := 11) jI_10_9 rfl rfl rfl ?_
  refine jT_xbipush (k := 6) (pc' := 13) jI_10_11 (by decide) rfl ?_
  refine jT_xicF (t := 36) (pc' := 16) jI_10_13 rfl (by decide +kernel) rfl rfl ?_
  refine jT_xaload (v := (4, 2)) (pc' := 18) jI_10_16 rfl rfl rfl ?_
  refine jT_xiload (v := (0, 2)) (pc' := 20) jI_10_18 rfl rfl rfl ?_
  refine jT_xaload_n (v := (4, 0)) (pc' := 21) jI_10_20 rfl rfl rfl ?_
  refine jT_xgetf (a := 0) (t := 1) (ci := 4) (fi := 0) (c := (4, [(4, 1), (1, 1)], [])) (v := (4, 1)) (pc' := 24) jI_10_21 rfl rfl rfl rfl rfl rfl rfl ?_
  refine jT_xiload (v := (0, 2)) (pc' := 26) jI_10_24 rfl rfl rfl ?_
  refine jT_lald (x := 0) (a := 1) (j := 2) (fs := []) (X := [0, 0, 0, 0, 0, 0]) jI_10_26 rfl rfl rfl rfl ?_
  refine jT_eq (L' := [(8, (0, 2)), (7, (4, 2)), (0, (4, 0)), (1, (1, x2)), (3, (1, x3)), (5, (1, 0))]) (st' := [(1, 0), (0, 2), (4, 2)]) (hs' := [(4, [(4, 1), (1, 1)], []), (101, [], [0, 0, 0, 0, 0, 0]), (101, [], [0, 0, 0, 0, 0, 0])]) rfl rfl rfl ?_
  refine jT_xlload_n (v := (1, x2)) (pc' := 28) jI_10_27 rfl rfl rfl ?_
  refine jT_xlmul (x := 0) (y := x2) (z := 0) (pc' := 29) jI_10_28 rfl (by omega) rfl ?_
  refine jT_adv 1 (pc' := 30) (L' := [(8, (0, 2)), (7, (4, 2)), (0, (4, 0)), (1, (1, x2)), (3, (1, x3)), (5, (1, 0))]) (st' := []) (hs' := [(4, [(4, 1), (1, 1)], []), (101, [], [0, 0, 0, 0, 0, 0]), (101, [], [0, 0, 0, 0, 0, 0])]) (c1 := 0) (s1 := 0) (c2 := 1) (s2 := 2) (by exact rfl) ?_ (by omega) (by omega)
  refine jT_xiinc (x := 2) (z := 3) (L' := [(8, (0, 3)), (7, (4, 2)), (0, (4, 0)), (1, (1, x2)), (3, (1, x3)), (5, (1, 0))]) (pc' := 33) jI_10_30 rfl rfl (by decide) rfl rfl ?_
  refine jT_xgoto (pc' := 9) jI_10_33 rfl ?_
  refine jT_xiload (v := (0, 3)) (pc' := 11) jI_10_9 rfl rfl rfl ?_
  refine jT_xbipush (k := 6) (pc' := 13) jI_10_11 (by decide) rfl ?_
  refine jT_xicF (t := 36) (pc' := 16) jI_10_13 rfl (by decide +kernel) rfl rfl ?_
  refine jT_xaload (v := (4, 2)) (pc' := 18) jI_10_16 rfl rfl rfl ?_
  refine jT_xiload (v := (0, 3)) (pc' := 20) jI_10_18 rfl rfl rfl ?_
  refine jT_xaload_n (v := (4, 0)) (pc' := 21) jI_10_20 rfl rfl rfl ?_
  refine jT_xgetf (a := 0) (t := 1) (ci := 4) (fi := 0) (c := (4, [(4, 1), (1, 1)], [])) (v := (4, 1)) (pc' := 24) jI_10_21 rfl rfl rfl rfl rfl rfl rfl ?_
  refine jT_xiload (v := (0, 3)) (pc' := 26) jI_10_24 rfl rfl rfl ?_
  refine jT_lald (x := 0) (a := 1) (j := 3) (fs := []) (X := [0, 0, 0, 0, 0, 0]) jI_10_26 rfl rfl rfl rfl ?_
  refine jT_eq (L' := [(8, (0, 3)), (7, (4, 2)), (0, (4, 0)), (1, (1, x2)), (3, (1, x3)), (5, (1, 0))]) (st' := [(1, 0), (0, 3), (4, 2)]) (hs' := [(4, [(4, 1), (1, 1)], []), (101, [], [0, 0, 0, 0, 0, 0]), (101, [], [0, 0, 0, 0, 0, 0])]) rfl rfl rfl ?_
  refine jT_xlload_n (v := (1, x2)) (pc' := 28) jI_10_27 rfl rfl rfl ?_
  refine jT_xlmul (x := 0) (y := x2) (z := 0) (pc' := 29) jI_10_28 rfl (by omega) rfl ?_
  refine jT_adv 1 (pc' := 30) (L' := [(8, (0, 3)), (7, (4, 2)), (0, (4, 0)), (1, (1, x2)), (3, (1, x3)), (5, (1, 0))]) (st' := []) (hs' := [(4, [(4, 1), (1, 1)], []), (101, [], [0, 0, 0, 0, 0, 0]), (101, [], [0, 0, 0, 0, 0, 0])]) (c1 := 0) (s1 := 0) (c2 := 1) (s2 := 2) (by exact rfl) ?_ (by omega) (by omega)
  refine jT_xiinc (x := 3) (z := 4) (L' := [(8, (0, 4)), (7, (4, 2)), (0, (4, 0)), (1, (1, x2)), (3, (1, x3)), (5, (1, 0))]) (pc' := 33) jI_10_30 rfl rfl (by decide) rfl rfl ?_
  refine jT_xgoto (pc' := 9) jI_10_33 rfl ?_
  refine jT_xiload (v := (0, 4)) (pc' := 11) jI_10_9 rfl rfl rfl ?_
  refine jT_xbipush (k := 6) (pc' := 13) jI_10_11 (by decide) rfl ?_
  refine jT_xicF (t := 36) (pc' := 16) jI_10_13 rfl (by decide +kernel) rfl rfl ?_
  refine jT_xaload (v := (4, 2)) (pc' := 18) jI_10_16 rfl rfl rfl ?_
  refine jT_xiload (v := (0, 4)) (pc' := 20) jI_10_18 rfl rfl rfl ?_
  refine jT_xaload_n (v := (4, 0)) (pc' := 21) jI_10_20 rfl rfl rfl ?_
  refine jT_xgetf (a := 0) (t := 1) (ci := 4) (fi := 0) (c := (4, [(4, 1), (1, 1)], [])) (v := (4, 1)) (pc' := 24) jI_10_21 rfl rfl rfl rfl rfl rfl rfl ?_
  refine jT_xiload (v := (0, 4)) (pc' := 26) jI_10_24 rfl rfl rfl ?_
  refine jT_lald (x := 0) (a := 1) (j := 4) (fs := []) (X := [0, 0, 0, 0, 0, 0]) jI_10_26 rfl rfl rfl rfl ?_
  refine jT_eq (L' := [(8, (0, 4)), (7, (4, 2)), (0, (4, 0)), (1, (1, x2)), (3, (1, x3)), (5, (1, 0))]) (st' := [(1, 0), (0, 4), (4, 2)]) (hs' := [(4, [(4, 1), (1, 1)], []), (101, [], [0, 0, 0, 0, 0, 0]), (101, [], [0, 0, 0, 0, 0, 0])]) rfl rfl rfl ?_
  refine jT_xlload_n (v := (1, x2)) (pc' := 28) jI_10_27 rfl rfl rfl ?_
  refine jT_xlmul (x := 0) (y := x2) (z := 0) (pc' := 29) jI_10_28 rfl (by omega) rfl ?_
  refine jT_adv 1 (pc' := 30) (L' := [(8, (0, 4)), (7, (4, 2)), (0, (4, 0)), (1, (1, x2)), (3, (1, x3)), (5, (1, 0))]) (st' := []) (hs' := [(4, [(4, 1), (1, 1)], []), (101, [], [0, 0, 0, 0, 0, 0]), (101, [], [0, 0, 0, 0, 0, 0])]) (c1 := 0) (s1 := 0) (c2 := 1) (s2 := 2) (by exact rfl) ?_ (by omega) (by omega)
  refine jT_xiinc (x := 4) (z := 5) (L' := [(8, (0, 5)), (7, (4, 2)), (0, (4, 0)), (1, (1, x2)), (3, (1, x3)), (5, (1, 0))]) (pc' := 33) jI_10_30 rfl rfl (by decide) rfl rfl ?_
  refine jT_xgoto (pc' := 9) jI_10_33 rfl ?_
  refine jT_xiload (v := (0, 5)) (pc' := 11) jI_10_9 rfl rfl rfl ?_
  refine jT_xbipush (k := 6) (pc' := 13) jI_10_11 (by decide) rfl ?_
  refine jT_xicF (t := 36) (pc' := 16) jI_10_13 rfl (by decide +kernel) rfl rfl ?_
  refine jT_xaload (v := (4, 2)) (pc' := 18) jI_10_16 rfl rfl rfl ?_
  refine jT_xiload (v := (0, 5)) (pc' := 20) jI_10_18 rfl rfl rfl ?_
  refine jT_xaload_n (v := (4, 0)) (pc' := 21) jI_10_20 rfl rfl rfl ?_
  refine jT_xgetf (a := 0) (t := 1) (ci := 4) (fi := 0) (c := (4, [(4, 1), (1, 1)], [])) (v := (4, 1)) (pc' := 24) jI_10_21 rfl rfl rfl rfl rfl rfl rfl ?_
  refine jT_xiload (v := (0, 5)) (pc' := 26) jI_10_24 rfl rfl rfl ?_
  refine jT_lald (x := 0) (a := 1) (j := 5) (fs := []) (X := [0, 0, 0, 0, 0, 0]) jI_10_26 rfl rfl rfl rfl ?_
  refine jT_eq (L' := [(8, (0, 5)), (7, (4, 2)), (0, (4, 0)), (1, (1, x2)), (3, (1, x3)), (5, (1, 0))]) (st' := [(1, 0), (0, 5), (4, 2)]) (hs' := [(4, [(4, 1), (1, 1)], []), (101, [], [0, 0, 0, 0, 0, 0]), (101, [], [0, 0, 0, 0, 0, 0])]) rfl rfl rfl ?_
  refine jT_xlload_n (v := (1, x2)) (pc' := 28) jI_10_27 rfl rfl rfl ?_
  refine jT_xlmul (x := 0) (y := x2) (z := 0) (pc' := 29) jI_10_28 rfl (by omega) rfl ?_
  refine jT_adv 1 (pc' := 30) (L' := [(8, (0, 5)), (7, (4, 2)), (0, (4, 0)), (1, (1, x2)), (3, (1, x3)), (5, (1, 0))]) (st' := []) (hs' := [(4, [(4, 1), (1, 1)], []), (101, [], [0, 0, 0, 0, 0, 0]), (101, [], [0, 0, 0, 0, 0, 0])]) (c1 := 0) (s1 := 0) (c2 := 1) (s2 := 2) (by exact rfl) ?_ (by omega) (by omega)
  refine jT_xiinc (x := 5) (z := 6) (L' := [(8, (0, 6)), (7, (4, 2)), (0, (4, 0)), (1, (1, x2)), (3, (1, x3)), (5, (1, 0))]) (pc' := 33) jI_10_30 rfl rfl (by decide) rfl rfl ?_
  refine jT_xgoto (pc' := 9) jI_10_33 rfl ?_
  refine jT_xiload (v := (0, 6)) (pc' := 11) jI_10_9 rfl rfl rfl ?_
  refine jT_xbipush (k := 6) (pc' := 13) jI_10_11 (by decide) rfl ?_
  refine jT_xicT (pc' := 36) jI_10_13 rfl (by decide +kernel) rfl ?_
  refine jT_xaload (v := (4, 2)) (pc' := 38) jI_10_36 rfl rfl rfl ?_
  refine jT_xiconst (k := 0) (pc' := 39) jI_10_38 rfl ?_
  refine jT_adv 1 (pc' := 40) (L' := [(8, (0, 6)), (7, (4, 2)), (0, (4, 0)), (1, (1, x2)), (3, (1, x3)), (5, (1, 0))]) (st' := [(0, 0), (4, 2), (0, 0), (4, 2)]) (hs' := [(4, [(4, 1), (1, 1)], []), (101, [], [0, 0, 0, 0, 0, 0]), (101, [], [0, 0, 0, 0, 0, 0])]) (c1 := 0) (s1 := 0) (c2 := 1) (s2 := 2) (by exact rfl) ?_ (by omega) (by omega)
  refine jT_lald (x := 0) (a := 2) (j := 0) (fs := []) (X := [0, 0, 0, 0, 0, 0]) jI_10_40 rfl rfl rfl rfl ?_
  refine jT_eq (L' := [(8, (0, 6)), (7, (4, 2)), (0, (4, 0)), (1, (1, x2)), (3, (1, x3)), (5, (1, 0))]) (st' := [(1, 0), (0, 0), (4, 2)]) (hs' := [(4, [(4, 1), (1, 1)], []), (101, [], [0, 0, 0, 0, 0, 0]), (101, [], [0, 0, 0, 0, 0, 0])]) rfl rfl rfl ?_
  refine jT_xlload (v := (1, 0)) (pc' := 43) jI_10_41 rfl rfl rfl ?_
  refine jT_xaload_n (v := (4, 0)) (pc' := 44) jI_10_43 rfl rfl rfl ?_
  refine jT_xgetf (a := 0) (t := 1) (ci := 4) (fi := 1) (c := (4, [(4, 1), (1, 1)], [])) (v := (1, 1)) (pc' := 47) jI_10_44 rfl rfl rfl rfl rfl rfl rfl ?_
  refine jT_xlmul (x := 0) (y := 1) (z := 0) (pc' := 48) jI_10_47 rfl (by decide) rfl ?_
  refine jT_xlload_n (v := (1, x3)) (pc' := 49) jI_10_48 rfl rfl rfl ?_
  refine jT_xlmul (x := 0) (y := x3) (z := 0) (pc' := 50) jI_10_49 rfl (by omega) rfl ?_
  refine jT_xladd (x := 0) (y := 0) (z := 0) (pc' := 51) jI_10_50 rfl (by decide) rfl ?_
  refine jT_adv 3 (pc' := 56) (L' := [(8, (0, 6)), (7, (4, 2)), (0, (4, 0)), (1, (1, x2)), (3, (1, x3)), (5, (1, 0))]) (st' := [(4, 3), (4, 3)]) (hs' := jpA_331) (c1 := 1) (s1 := 2) (c2 := 0) (s2 := 0) (by exact rfl) ?_ (by omega) (by omega)
  refine jT_xaload (v := (4, 2)) (pc' := 58) jI_10_56 rfl rfl rfl ?_
  refine jT_xaload_n (v := (4, 0)) (pc' := 59) jI_10_58 rfl rfl rfl ?_
  refine jT_xgetf (a := 0) (t := 1) (ci := 4) (fi := 1) (c := (4, [(4, 1), (1, 1)], [])) (v := (1, 1)) (pc' := 62) jI_10_59 rfl rfl rfl rfl rfl rfl rfl ?_
  refine jT_xlload_n (v := (1, x3)) (pc' := 63) jI_10_62 rfl rfl rfl ?_
  refine jT_xlmul (x := 1) (y := x3) (z := x3) (pc' := 64) jI_10_63 rfl (by omega) rfl ?_
  refine jT_fB [3, 2] 4 (y := 9) (pc' := 67) (dC := 2) (bc1 := 0) (bc2 := 0) (c1 := 0) (c2 := 0) (as := [(4, 3), (4, 2), (1, x3)]) (asC := [(4, 0), (4, 1), (1, x3)]) (L' := [(8, (0, 6)), (7, (4, 2)), (0, (4, 0)), (1, (1, x2)), (3, (1, x3)), (5, (1, 0))]) (st' := [(4, 3)]) (hsC := [(4, [(4, (-1)), (1, 0)], []), (101, [], [0, 0, 0, 0, 0, 0])]) (hsD := [(4, [(4, 1), (1, 1)], []), (101, [], [0, 0, 0, 0, 0, 0])]) (v := (9, 0)) (st2 := [(4, 3)]) (hs2 := jpA_337) (jA_9_107 (d := 0) (by omega)) (by rfl) (by rfl) (by decide +kernel) (by rfl) (by rfl) (by omega) (by omega) (by omega) (by omega) rfl (by decide +kernel) ?_
  exact jT_ret rfl (by decide) (by show 2 ≤ 4; decide) (by omega) (by omega) ⟨rfl, rfl, rfl⟩
theorem jA_120_109 {xs : List Int} {d : Nat} {x1 x2 x3 : Int} (h_x1 : 0 ≤ x1 ∧ x1 ≤ 7) (h_x2 : (-100) ≤ x2 ∧ x2 ≤ 100) (h_x3 : 2 ≤ x3 ∧ x3 ≤ 24) : jT xs (d + 4) 120 19 0 [(0, (4, 0)), (1, (0, x1)), (2, (0, x2)), (3, (0, x3))] [] jpA_363 4 21 (fun k v hs' => k = 0 ∧ v = (0, 1) ∧ hs' = jpA_359) := by
  refine jT_xaload_n (v := (4, 0)) (pc' := 1) jI_120_0 rfl rfl rfl ?_
  refine jT_xiload_n (v := (0, x1)) (pc' := 2) jI_120_1 rfl rfl rfl ?_
  refine jT_xbipush (k := 8) (pc' := 4) jI_120_2 (by decide) rfl ?_
  refine jT_fR [0] 19 (y := 115) (pc' := 7) (dC := 0) (bc1 := 0) (bc2 := 0) (c1 := 4) (c2 := 21) (as := [(4, 0), (0, x1), (0, 8)]) (asC := [(4, 0), (0, x1), (0, 8)]) (L' := [(0, (4, 0)), (1, (0, x1)), (2, (0, x2)), (3, (0, x3))]) (st' := []) (hsC := [jgh]) (v := (9, 0)) (st2 := []) (jA_115_69 (d := 0) (by omega)) (by rfl) (by rfl) (by decide +kernel) (by rfl) (by rfl) (by omega) (by omega) (by omega) (by omega) rfl ?_
  refine jT_xaload_n (v := (4, 0)) (pc' := 8) jI_120_7 rfl rfl rfl ?_
  refine jT_xiload_n (v := (0, x2)) (pc' := 9) jI_120_8 rfl rfl rfl ?_
  refine jT_xbipush (k := (-100)) (pc' := 11) jI_120_9 (by decide) rfl ?_
  refine jT_xbipush (k := 100) (pc' := 13) jI_120_11 (by decide) rfl ?_
  refine jT_fR [0] 19 (y := 116) (pc' := 16) (dC := 0) (bc1 := 0) (bc2 := 0) (c1 := 4) (c2 := 21) (as := [(4, 0), (0, x2), (0, (-100)), (0, 100)]) (asC := [(4, 0), (0, x2), (0, (-100)), (0, 100)]) (L' := [(0, (4, 0)), (1, (0, x1)), (2, (0, x2)), (3, (0, x3))]) (st' := []) (hsC := [jgh]) (v := (9, 0)) (st2 := []) (jA_116_76 (d := 0) (by omega)) (by rfl) (by rfl) (by decide +kernel) (by rfl) (by rfl) (by omega) (by omega) (by omega) (by omega) rfl ?_
  refine jT_xaload_n (v := (4, 0)) (pc' := 17) jI_120_16 rfl rfl rfl ?_
  refine jT_xiload_n (v := (0, x3)) (pc' := 18) jI_120_17 rfl rfl rfl ?_
  refine jT_xiconst (k := 1) (pc' := 19) jI_120_18 rfl ?_
  refine jT_xbipush (k := 24) (pc' := 21) jI_120_19 (by decide) rfl ?_
  refine jT_fR [0] 19 (y := 116) (pc' := 24) (dC := 0) (bc1 := 0) (bc2 := 0) (c1 := 4) (c2 := 21) (as := [(4, 0), (0, x3), (0, 1), (0, 24)]) (asC := [(4, 0), (0, x3), (0, 1), (0, 24)]) (L' := [(0, (4, 0)), (1, (0, x1)), (2, (0, x2)), (3, (0, x3))]) (st' := []) (hsC := [jgh]) (v := (9, 0)) (st2 := []) (jA_116_104 (d := 0) (by omega)) (by rfl) (by rfl) (by decide +kernel) (by rfl) (by rfl) (by omega) (by omega) (by omega) (by omega) rfl ?_
  refine jT_xaload_n (v := (4, 0)) (pc' := 25) jI_120_24 rfl rfl rfl ?_
  refine jT_xgetf (a := 0) (t := 1) (ci := 13) (fi := 11) (c := jzA_8) (v := (4, 11)) (pc' := 28) jI_120_25 rfl rfl rfl rfl rfl rfl rfl ?_
  refine jT_xiload_n (v := (0, x1)) (pc' := 29) jI_120_28 rfl rfl rfl ?_
  refine jT_fR [11, 12, 13, 14, 15, 16, 17] 19 (y := 57) (pc' := 32) (dC := 0) (bc1 := 0) (bc2 := 0) (c1 := 4) (c2 := 21) (as := [(4, 11), (0, x1)]) (asC := [(4, 0), (0, x1)]) (L' := [(0, (4, 0)), (1, (0, x1)), (2, (0, x2)), (3, (0, x3))]) (st' := []) (hsC := jpA_303) (v := (4, 6)) (st2 := [(4, 17)]) (jA_57_82 (d := 0) (by omega)) (by rfl) (by rfl) (by decide +kernel) (by rfl) (by rfl) (by omega) (by omega) (by omega) (by omega) rfl ?_
  refine jT_xiload_n (v := (0, x2)) (pc' := 33) jI_120_32 rfl rfl rfl ?_
  refine jT_xi2l (x := x2) (z := x2) (pc' := 34) jI_120_33 rfl (jw_idd (by omega) (by omega)) rfl ?_
  refine jT_xiload_n (v := (0, x3)) (pc' := 35) jI_120_34 rfl rfl rfl ?_
  refine jT_xi2l (x := x3) (z := x3) (pc' := 36) jI_120_35 rfl (jw_idd (by omega) (by omega)) rfl ?_
  refine jT_xlconst (z := 0) (pc' := 37) jI_120_36 rfl rfl ?_
  refine jT_fA [17, 18] 19 (y := 10) (pc' := 40) (dC := 3) (bc1 := 2) (bc2 := 8) (c1 := 2) (c2 := 13) (as := [(4, 17), (1, x2), (1, x3), (1, 0)]) (asC := [(4, 0), (1, x2), (1, x3), (1, 0)]) (L' := [(0, (4, 0)), (1, (0, x1)), (2, (0, x2)), (3, (0, x3))]) (st' := []) (hsC := [(4, [(4, 1), (1, 1)], []), (101, [], [0, 0, 0, 0, 0, 0])]) (ex := [(101, [], [0, 0, 0, 0, 0, 0]), (4, [(4, 2), (1, 1)], [])]) (v := (4, 3)) (st2 := [(4, 20)]) (hs2 := jpA_347) (jA_10_108 (d := 0) (by omega) (by omega)) (by rfl) (by rfl) (by decide +kernel) (by rfl) (by rfl) (by omega) (by omega) (by omega) (by omega) rfl (by decide +kernel) ?_
  refine jT_xastore (v := (4, 20)) (L' := [(4, (4, 20)), (0, (4, 0)), (1, (0, x1)), (2, (0, x2)), (3, (0, x3))]) (pc' := 42) jI_120_40 rfl rfl rfl rfl ?_
  refine jT_xaload_n (v := (4, 0)) (pc' := 43) jI_120_42 rfl rfl rfl ?_
  refine jT_xaload (v := (4, 20)) (pc' := 45) jI_120_43 rfl rfl rfl ?_
  refine jT_fR [0, 20, 19] 21 (y := 117) (pc' := 48) (dC := 2) (bc1 := 0) (bc2 := 0) (c1 := 2) (c2 := 13) (as := [(4, 0), (4, 20)]) (asC := [(4, 0), (4, 1)]) (L' := [(4, (4, 20)), (0, (4, 0)), (1, (0, x1)), (2, (0, x2)), (3, (0, x3))]) (st' := []) (hsC := [jgh, (4, [(4, 2), (1, 1)], []), (101, [], [0, 0, 0, 0, 0, 0])]) (v := (9, 0)) (st2 := []) (jA_117_87 (d := 0)) (by rfl) (by rfl) (by decide +kernel) (by rfl) (by rfl) (by omega) (by omega) (by omega) (by omega) rfl ?_
  refine jT_xaload_n (v := (4, 0)) (pc' := 49) jI_120_48 rfl rfl rfl ?_
  refine jT_xaload_n (v := (4, 0)) (pc' := 50) jI_120_49 rfl rfl rfl ?_
  refine jT_xgetf (a := 0) (t := 1) (ci := 13) (fi := 11) (c := jzA_8) (v := (4, 11)) (pc' := 53) jI_120_50 rfl rfl rfl rfl rfl rfl rfl ?_
  refine jT_xiload_n (v := (0, x1)) (pc' := 54) jI_120_53 rfl rfl rfl ?_
  refine jT_xaload (v := (4, 20)) (pc' := 56) jI_120_54 rfl rfl rfl ?_
  refine jT_fA [11, 20, 12, 13, 14, 15, 16, 19, 17] 21 (y := 58) (pc' := 59) (dC := 1) (bc1 := 2) (bc2 := 13) (c1 := 0) (c2 := 0) (as := [(4, 11), (0, x1), (4, 20)]) (asC := [(4, 0), (0, x1), (4, 1)]) (L' := [(4, (4, 20)), (0, (4, 0)), (1, (0, x1)), (2, (0, x2)), (3, (0, x3))]) (st' := [(4, 0)]) (hsC := jpA_83) (ex := [jgh, jzA_81]) (v := (4, 10)) (st2 := [(4, 22), (4, 0)]) (hs2 := jpA_357) (jA_58_88 (d := 0) (by omega)) (by rfl) (by rfl) (by decide +kernel) (by rfl) (by rfl) (by omega) (by omega) (by omega) (by omega) rfl (by decide +kernel) ?_
  refine jT_fB [0, 22, 1, 2, 3, 4, 5, 6, 7, 8, 9, 10, 11, 12, 13, 14, 15, 16] 23 (y := 100) (pc' := 62) (dC := 0) (bc1 := 0) (bc2 := 0) (c1 := 0) (c2 := 0) (as := [(4, 0), (4, 22)]) (asC := [(4, 0), (4, 1)]) (L' := [(4, (4, 20)), (0, (4, 0)), (1, (0, x1)), (2, (0, x2)), (3, (0, x3))]) (st' := []) (hsC := jpA_88) (hsD := jpA_86) (v := (9, 0)) (st2 := []) (hs2 := jpA_359) (jA_100_24 (d := 0)) (by rfl) (by rfl) (by decide +kernel) (by rfl) (by rfl) (by omega) (by omega) (by omega) (by omega) rfl (by decide +kernel) ?_
  refine jT_xaload (v := (4, 20)) (pc' := 64) jI_120_62 rfl rfl rfl ?_
  refine jT_xgetf (a := 20) (t := 2) (ci := 4) (fi := 1) (c := (4, [(4, 19), (1, 1)], [])) (v := (1, 1)) (pc' := 67) jI_120_64 rfl rfl rfl rfl rfl rfl rfl ?_
  refine jT_xl2i (pc' := 68) jI_120_67 rfl rfl ?_
  exact jT_ret rfl (by decide) (by show 19 ≤ 23; decide) (by omega) (by omega) ⟨rfl, rfl, rfl⟩
theorem jA_329_110 {xs : List Int} {d : Nat} {x1 x2 x3 : Int} (h_x1 : 0 ≤ x1 ∧ x1 ≤ 7) (h_x2 : (-100) ≤ x2 ∧ x2 ≤ 100) (h_x3 : 2 ≤ x3 ∧ x3 ≤ 24) : jT xs (d + 5) 329 20 0 [(0, (4, 0)), (1, (0, x1)), (2, (0, x2)), (3, (0, x3)), (4, (4, 1))] [] jpA_372 4 21 (fun k v hs' => k = 0 ∧ v = (0, 0) ∧ hs' = jpA_369) := by
  refine jT_xaload (v := (4, 1)) (pc' := 2) jI_329_0 rfl rfl rfl ?_
  refine jT_xiconst (k := 0) (pc' := 3) jI_329_2 rfl ?_
  refine jT_xaload_n (v := (4, 0)) (pc' := 4) jI_329_3 rfl rfl rfl ?_
  refine jT_xiload_n (v := (0, x1)) (pc' := 5) jI_329_4 rfl rfl rfl ?_
  refine jT_xiload_n (v := (0, x2)) (pc' := 6) jI_329_5 rfl rfl rfl ?_
  refine jT_xiload_n (v := (0, x3)) (pc' := 7) jI_329_6 rfl rfl rfl ?_
  refine jT_fB [0, 2, 3, 4, 5, 6, 7, 8, 9, 10, 11, 12, 13, 14, 15, 16, 17, 18, 19] 20 (y := 120) (pc' := 10) (dC := 4) (bc1 := 4) (bc2 := 21) (c1 := 0) (c2 := 0) (as := [(4, 0), (0, x1), (0, x2), (0, x3)]) (asC := [(4, 0), (0, x1), (0, x2), (0, x3)]) (L' := [(0, (4, 0)), (1, (0, x1)), (2, (0, x2)), (3, (0, x3)), (4, (4, 1))]) (st' := [(0, 0), (4, 1)]) (hsC := jpA_363) (hsD := jpA_359) (v := (0, 1)) (st2 := [(0, 1), (0, 0), (4, 1)]) (hs2 := jpA_367) (jA_120_109 (d := 0) (by omega) (by omega) (by omega)) (by rfl) (by rfl) (by decide +kernel) (by rfl) (by rfl) (by omega) (by omega) (by omega) (by omega) rfl (by decide +kernel) ?_
  refine jT_xi2l (x := 1) (z := 1) (pc' := 11) jI_329_10 rfl (by decide +kernel) rfl ?_
  refine jT_adv 1 (pc' := 12) (L' := [(0, (4, 0)), (1, (0, x1)), (2, (0, x2)), (3, (0, x3)), (4, (4, 1))]) (st' := []) (hs' := jpA_369) (c1 := 0) (s1 := 0) (c2 := 0) (s2 := 0) (by exact rfl) ?_ (by omega) (by omega)
  refine jT_xgoto (pc' := 27) jI_329_12 rfl ?_
  refine jT_xiconst (k := 0) (pc' := 28) jI_329_27 rfl ?_
  exact jT_ret rfl (by decide) (by show 20 ≤ 24; decide) (by omega) (by omega) ⟨rfl, rfl, rfl⟩
theorem jI_194_0 : jmI (jm 194) 0 = (.lload_n 2, 1) := by rfl
theorem jI_194_1 : jmI (jm 194) 1 = (.lconst 0, 1) := by rfl
theorem jI_194_3 : jmI (jm 194) 3 = (.ifCond .ne 10, 3) := by rfl
theorem jI_194_6 : jmI (jm 194) 6 = (.lload_n 0, 1) := by rfl
theorem jI_194_10 : jmI (jm 194) 10 = (.goto 10, 3) := by rfl
theorem jA_194_111 {xs : List Int} {d : Nat} {x3 : Int} (h_x3 : 2 ≤ x3 ∧ x3 ≤ 24) : jT xs d 194 0 0 [(0, (1, x3)), (2, (1, 0))] [] [] 0 0 (fun k v hs' => k = 0 ∧ v = (1, x3) ∧ hs' = [] ++ []) := by
  refine jT_xlload_n (v := (1, 0)) (pc' := 1) jI_194_0 rfl rfl rfl ?_
  refine jT_xlconst (z := 0) (pc' := 2) jI_194_1 rfl rfl ?_
  refine jT_lcmp (a := 0) (b := 0) (z := 0) (by rfl) (by rfl) (by decide +kernel) (by decide +kernel) (by decide) ?_
  refine jT_xifF (t := 13) (pc' := 6) jI_194_3 rfl (by decide +kernel) rfl rfl ?_
  refine jT_xlload_n (v := (1, x3)) (pc' := 7) jI_194_6 rfl rfl rfl ?_
  refine jT_labs (z := x3) (by rfl) (by rfl) (by rfl) (by rfl) (by rw [show jwl (x3) = x3 from jwl_idd (by omega) (by omega), decide_eq_false (by omega)]; first | rfl | (show (_ : Int) = _; simp only [cond_true, cond_false]; omega)) ?_
  refine jT_xgoto (pc' := 20) jI_194_10 rfl ?_
  exact jT_ret rfl (by decide) (by show 0 ≤ 0; decide) (by omega) (by omega) ⟨rfl, rfl, rfl⟩
theorem jI_199_0 : jmI (jm 199) 0 = (.aload_n 0, 1) := by rfl
theorem jI_199_1 : jmI (jm 199) 1 = (.getfield 35, 3) := by rfl
theorem jI_199_4 : jmI (jm 199) 4 = (.lstore_n 1, 1) := by rfl
theorem jI_199_5 : jmI (jm 199) 5 = (.iconst 0, 1) := by rfl
theorem jI_199_6 : jmI (jm 199) 6 = (.istore_n 3, 1) := by rfl
theorem jI_199_7 : jmI (jm 199) 7 = (.iload_n 3, 1) := by rfl
theorem jI_199_8 : jmI (jm 199) 8 = (.bipush 6, 2) := by rfl
theorem jI_199_10 : jmI (jm 199) 10 = (.if_icmp .ge 20, 3) := by rfl
theorem jI_199_13 : jmI (jm 199) 13 = (.lload_n 1, 1) := by rfl
theorem jI_199_14 : jmI (jm 199) 14 = (.aload_n 0, 1) := by rfl
theorem jI_199_15 : jmI (jm 199) 15 = (.getfield 31, 3) := by rfl
theorem jI_199_18 : jmI (jm 199) 18 = (.iload_n 3, 1) := by rfl
theorem jI_199_19 : jmI (jm 199) 19 = (.laload, 1) := by rfl
theorem jI_199_23 : jmI (jm 199) 23 = (.lstore_n 1, 1) := by rfl
theorem jI_199_24 : jmI (jm 199) 24 = (.iinc 3 1, 3) := by rfl
theorem jI_199_27 : jmI (jm 199) 27 = (.goto (-20), 3) := by rfl
theorem jI_199_30 : jmI (jm 199) 30 = (.aload_n 0, 1) := by rfl
theorem jI_199_31 : jmI (jm 199) 31 = (.getfield 31, 3) := by rfl
theorem jI_199_37 : jmI (jm 199) 37 = (.ifCond .eq 8, 3) := by rfl
theorem jI_199_40 : jmI (jm 199) 40 = (.aload_n 0, 1) := by rfl
theorem jI_199_41 : jmI (jm 199) 41 = (.getfield 35, 3) := by rfl
theorem jI_199_44 : jmI (jm 199) 44 = (.lstore_n 1, 1) := by rfl
theorem jI_199_45 : jmI (jm 199) 45 = (.iconst 0, 1) := by rfl
theorem jI_199_46 : jmI (jm 199) 46 = (.istore_n 3, 1) := by rfl
theorem jI_199_47 : jmI (jm 199) 47 = (.iload_n 3, 1) := by rfl
theorem jI_199_48 : jmI (jm 199) 48 = (.bipush 6, 2) := by rfl
theorem jI_199_50 : jmI (jm 199) 50 = (.if_icmp .ge 19, 3) := by rfl
theorem jI_199_53 : jmI (jm 199) 53 = (.aload_n 0, 1) := by rfl
theorem jI_199_54 : jmI (jm 199) 54 = (.getfield 31, 3) := by rfl
theorem jI_199_57 : jmI (jm 199) 57 = (.iload_n 3, 1) := by rfl
theorem jI_199_59 : jmI (jm 199) 59 = (.laload, 1) := by rfl
theorem jI_199_60 : jmI (jm 199) 60 = (.lload_n 1, 1) := by rfl
theorem jI_199_63 : jmI (jm 199) 63 = (.iinc 3 1, 3) := by rfl
theorem jI_199_66 : jmI (jm 199) 66 = (.goto (-19), 3) := by rfl
theorem jI_199_69 : jmI (jm 199) 69 = (.aload_n 0, 1) := by rfl
theorem jI_199_71 : jmI (jm 199) 71 = (.getfield 35, 3) := by rfl
theorem jI_199_74 : jmI (jm 199) 74 = (.lload_n 1, 1) := by rfl
theorem jA_199_112 {xs : List Int} {d : Nat} {x3 : Int} (h_x3 : 2 ≤ x3 ∧ x3 ≤ 24) : jT xs (d + 1) 199 16 0 [(0, (4, 0))] [] [(14, [(0, 0), (4, 1), (4, 2), (4, 3), (4, 4), (0, 0), (4, 5), (0, 0), (4, 6), (4, 7), (1, x3), (4, 8), (0, 0), (4, 9), (0, 0), (0, 0), (0, 0), (0, 0), (0, 0), (0, 0), (0, 0), (4, 10), (4, 11), (4, 12), (4, 13), (4, 14), (4, 15), (0, 0)], []), jgh, jgh, jgh, jgh, jgh, jgh, (101, [], [0, 0, 0, 0, 0, 0]), jgh, jgh, jgh, jgh, jgh, jgh, jgh, jgh] 0 0 (fun k v hs' => k = 0 ∧ v = (9, 0) ∧ hs' = jpA_403) := by
  refine jT_xaload_n (v := (4, 0)) (pc' := 1) jI_199_0 rfl rfl rfl ?_
  refine jT_xgetf (a := 0) (t := 1) (ci := 14) (fi := 10) (c := (14, [(0, 0), (4, 1), (4, 2), (4, 3), (4, 4), (0, 0), (4, 5), (0, 0), (4, 6), (4, 7), (1, x3), (4, 8), (0, 0), (4, 9), (0, 0), (0, 0), (0, 0), (0, 0), (0, 0), (0, 0), (0, 0), (4, 10), (4, 11), (4, 12), (4, 13), (4, 14), (4, 15), (0, 0)], [])) (v := (1, x3)) (pc' := 4) jI_199_1 rfl rfl rfl rfl rfl rfl rfl ?_
  refine jT_xlstore_n (v := (1, x3)) (L' := [(1, (1, x3)), (0, (4, 0))]) (pc' := 5) jI_199_4 rfl rfl rfl rfl ?_
  refine jT_xiconst (k := 0) (pc' := 6) jI_199_5 rfl ?_
  refine jT_xistore_n (v := (0, 0)) (L' := [(3, (0, 0)), (1, (1, x3)), (0, (4, 0))]) (pc' := 7) jI_199_6 rfl rfl rfl rfl ?_
  refine jT_xiload_n (v := (0, 0)) (pc' := 8) jI_199_7 rfl rfl rfl ?_
  refine jT_xbipush (k := 6) (pc' := 10) jI_199_8 (by decide) rfl ?_
  refine jT_xicF (t := 30) (pc' := 13) jI_199_10 rfl (by decide +kernel) rfl rfl ?_
  refine jT_xlload_n (v := (1, x3)) (pc' := 14) jI_199_13 rfl rfl rfl ?_
  refine jT_xaload_n (v := (4, 0)) (pc' := 15) jI_199_14 rfl rfl rfl ?_
  refine jT_xgetf (a := 0) (t := 1) (ci := 14) (fi := 9) (c := (14, [(0, 0), (4, 1), (4, 2), (4, 3), (4, 4), (0, 0), (4, 5), (0, 0), (4, 6), (4, 7), (1, x3), (4, 8), (0, 0), (4, 9), (0, 0), (0, 0), (0, 0), (0, 0), (0, 0), (0, 0), (0, 0), (4, 10), (4, 11), (4, 12), (4, 13), (4, 14), (4, 15), (0, 0)], [])) (v := (4, 7)) (pc' := 18) jI_199_15 rfl rfl rfl rfl rfl rfl rfl ?_
  refine jT_xiload_n (v := (0, 0)) (pc' := 19) jI_199_18 rfl rfl rfl ?_
  refine jT_lald (x := 0) (a := 7) (j := 0) (fs := []) (X := [0, 0, 0, 0, 0, 0]) jI_199_19 rfl rfl rfl rfl ?_
  refine jT_eq (L' := [(3, (0, 0)), (1, (1, x3)), (0, (4, 0))]) (st' := [(1, 0), (1, x3)]) (hs' := [(14, [(0, 0), (4, 1), (4, 2), (4, 3), (4, 4), (0, 0), (4, 5), (0, 0), (4, 6), (4, 7), (1, x3), (4, 8), (0, 0), (4, 9), (0, 0), (0, 0), (0, 0), (0, 0), (0, 0), (0, 0), (0, 0), (4, 10), (4, 11), (4, 12), (4, 13), (4, 14), (4, 15), (0, 0)], []), jgh, jgh, jgh, jgh, jgh, jgh, (101, [], [0, 0, 0, 0, 0, 0]), jgh, jgh, jgh, jgh, jgh, jgh, jgh, jgh]) rfl rfl rfl ?_
  refine jT_callA [] (y := 194) (pc' := 23) (dC := 0) (bc1 := 0) (bc2 := 0) (c1 := 0) (c2 := 0) (as := [(1, x3), (1, 0)]) (asC := [(1, x3), (1, 0)]) (L' := [(3, (0, 0)), (1, (1, x3)), (0, (4, 0))]) (st' := []) (hsC := []) (ex := []) (v := (1, x3)) (st2 := [(1, x3)]) (hs2 := [(14, [(0, 0), (4, 1), (4, 2), (4, 3), (4, 4), (0, 0), (4, 5), (0, 0), (4, 6), (4, 7), (1, x3), (4, 8), (0, 0), (4, 9), (0, 0), (0, 0), (0, 0), (0, 0), (0, 0), (0, 0), (0, 0), (4, 10), (4, 11), (4, 12), (4, 13), (4, 14), (4, 15), (0, 0)], []), jgh, jgh, jgh, jgh, jgh, jgh, (101, [], [0, 0, 0, 0, 0, 0]), jgh, jgh, jgh, jgh, jgh, jgh, jgh, jgh]) (jA_194_111 (d := 0) (by omega)) (by rfl) (by rfl) (by rfl) (by rfl) trivial (by rfl) (by rfl) (by omega) (by show 16 ≤ 16; omega) (by omega) (by omega) rfl rfl ?_
  refine jT_xlstore_n (v := (1, x3)) (L' := [(1, (1, x3)), (3, (0, 0)), (0, (4, 0))]) (pc' := 24) jI_199_23 rfl rfl rfl rfl ?_
  refine jT_xiinc (x := 0) (z := 1) (L' := [(3, (0, 1)), (1, (1, x3)), (0, (4, 0))]) (pc' := 27) jI_199_24 rfl rfl (by decide) rfl rfl ?_
  refine jT_xgoto (pc' := 7) jI_199_27 rfl ?_
  refine jT_xiload_n (v := (0, 1)) (pc' := 8) jI_199_7 rfl rfl rfl ?_
  refine jT_xbipush (k := 6) (pc' := 10) jI_199_8 (by decide) rfl ?_
  refine jT_xicF (t := 30) (pc' := 13) jI_199_10 rfl (by decide +kernel) rfl rfl ?_
  refine jT_xlload_n (v := (1, x3)) (pc' := 14) jI_199_13 rfl rfl rfl ?_
  refine jT_xaload_n (v := (4, 0)) (pc' := 15) jI_199_14 rfl rfl rfl ?_
  refine jT_xgetf (a := 0) (t := 1) (ci := 14) (fi := 9) (c := (14, [(0, 0), (4, 1), (4, 2), (4, 3), (4, 4), (0, 0), (4, 5), (0, 0), (4, 6), (4, 7), (1, x3), (4, 8), (0, 0), (4, 9), (0, 0), (0, 0), (0, 0), (0, 0), (0, 0), (0, 0), (0, 0), (4, 10), (4, 11), (4, 12), (4, 13), (4, 14), (4, 15), (0, 0)], [])) (v := (4, 7)) (pc' := 18) jI_199_15 rfl rfl rfl rfl rfl rfl rfl ?_
  refine jT_xiload_n (v := (0, 1)) (pc' := 19) jI_199_18 rfl rfl rfl ?_
  refine jT_lald (x := 0) (a := 7) (j := 1) (fs := []) (X := [0, 0, 0, 0, 0, 0]) jI_199_19 rfl rfl rfl rfl ?_
  refine jT_eq (L' := [(3, (0, 1)), (1, (1, x3)), (0, (4, 0))]) (st' := [(1, 0), (1, x3)]) (hs' := [(14, [(0, 0), (4, 1), (4, 2), (4, 3), (4, 4), (0, 0), (4, 5), (0, 0), (4, 6), (4, 7), (1, x3), (4, 8), (0, 0), (4, 9), (0, 0), (0, 0), (0, 0), (0, 0), (0, 0), (0, 0), (0, 0), (4, 10), (4, 11), (4, 12), (4, 13), (4, 14), (4, 15), (0, 0)], []), jgh, jgh, jgh, jgh, jgh, jgh, (101, [], [0, 0, 0, 0, 0, 0]), jgh, jgh, jgh, jgh, jgh, jgh, jgh, jgh]) rfl rfl rfl ?_
  refine jT_callA [] (y := 194) (pc' := 23) (dC := 0) (bc1 := 0) (bc2 := 0) (c1 := 0) (c2 := 0) (as := [(1, x3), (1, 0)]) (asC := [(1, x3), (1, 0)]) (L' := [(3, (0, 1)), (1, (1, x3)), (0, (4, 0))]) (st' := []) (hsC := []) (ex := []) (v := (1, x3)) (st2 := [(1, x3)]) (hs2 := [(14, [(0, 0), (4, 1), (4, 2), (4, 3), (4, 4), (0, 0), (4, 5), (0, 0), (4, 6), (4, 7), (1, x3), (4, 8), (0, 0), (4, 9), (0, 0), (0, 0), (0, 0), (0, 0), (0, 0), (0, 0), (0, 0), (4, 10), (4, 11), (4, 12), (4, 13), (4, 14), (4, 15), (0, 0)], []), jgh, jgh, jgh, jgh, jgh, jgh, (101, [], [0, 0, 0, 0, 0, 0]), jgh, jgh, jgh, jgh, jgh, jgh, jgh, jgh]) (jA_194_111 (d := 0) (by omega)) (by rfl) (by rfl) (by rfl) (by rfl) trivial (by rfl) (by rfl) (by omega) (by show 16 ≤ 16; omega) (by omega) (by omega) rfl rfl ?_
  refine jT_xlstore_n (v := (1, x3)) (L' := [(1, (1, x3)), (3, (0, 1)), (0, (4, 0))]) (pc' := 24) jI_199_23 rfl rfl rfl rfl ?_
  refine jT_xiinc (x := 1) (z := 2) (L' := [(3, (0, 2)), (1, (1, x3)), (0, (4, 0))]) (pc' := 27) jI_199_24 rfl rfl (by decide) rfl rfl ?_
  refine jT_xgoto (pc' := 7) jI_199_27 rfl ?_
  refine jT_xiload_n (v := (0, 2)) (pc' := 8) jI_199_7 rfl rfl rfl ?_
  refine jT_xbipush (k := 6) (pc' := 10) jI_199_8 (by decide) rfl ?_
  refine jT_xicF (t := 30) (pc' := 13) jI_199_10 rfl (by decide +kernel) rfl rfl ?_
  refine jT_xlload_n (v := (1, x3)) (pc' := 14) jI_199_13 rfl rfl rfl ?_
  refine jT_xaload_n (v := (4, 0)) (pc' := 15) jI_199_14 rfl rfl rfl ?_
  refine jT_xgetf (a := 0) (t := 1) (ci := 14) (fi := 9) (c := (14, [(0, 0), (4, 1), (4, 2), (4, 3), (4, 4), (0, 0), (4, 5), (0, 0), (4, 6), (4, 7), (1, x3), (4, 8), (0, 0), (4, 9), (0, 0), (0, 0), (0, 0), (0, 0), (0, 0), (0, 0), (0, 0), (4, 10), (4, 11), (4, 12), (4, 13), (4, 14), (4, 15), (0, 0)], [])) (v := (4, 7)) (pc' := 18) jI_199_15 rfl rfl rfl rfl rfl rfl rfl ?_
  refine jT_xiload_n (v := (0, 2)) (pc' := 19) jI_199_18 rfl rfl rfl ?_
  refine jT_lald (x := 0) (a := 7) (j := 2) (fs := []) (X := [0, 0, 0, 0, 0, 0]) jI_199_19 rfl rfl rfl rfl ?_
  refine jT_eq (L' := [(3, (0, 2)), (1, (1, x3)), (0, (4, 0))]) (st' := [(1, 0), (1, x3)]) (hs' := [(14, [(0, 0), (4, 1), (4, 2), (4, 3), (4, 4), (0, 0), (4, 5), (0, 0), (4, 6), (4, 7), (1, x3), (4, 8), (0, 0), (4, 9), (0, 0), (0, 0), (0, 0), (0, 0), (0, 0), (0, 0), (0, 0), (4, 10), (4, 11), (4, 12), (4, 13), (4, 14), (4, 15), (0, 0)], []), jgh, jgh, jgh, jgh, jgh, jgh, (101, [], [0, 0, 0, 0, 0, 0]), jgh, jgh, jgh, jgh, jgh, jgh, jgh, jgh]) rfl rfl rfl ?_
  refine jT_callA [] (y := 194) (pc' := 23) (dC := 0) (bc1 := 0) (bc2 := 0) (c1 := 0) (c2 := 0) (as := [(1, x3), (1, 0)]) (asC := [(1, x3), (1, 0)]) (L' := [(3, (0, 2)), (1, (1, x3)), (0, (4, 0))]) (st' := []) (hsC := []) (ex := []) (v := (1, x3)) (st2 := [(1, x3)]) (hs2 := [(14, [(0, 0), (4, 1), (4, 2), (4, 3), (4, 4), (0, 0), (4, 5), (0, 0), (4, 6), (4, 7), (1, x3), (4, 8), (0, 0), (4, 9), (0, 0), (0, 0), (0, 0), (0, 0), (0, 0), (0, 0), (0, 0), (4, 10), (4, 11), (4, 12), (4, 13), (4, 14), (4, 15), (0, 0)], []), jgh, jgh, jgh, jgh, jgh, jgh, (101, [], [0, 0, 0, 0, 0, 0]), jgh, jgh, jgh, jgh, jgh, jgh, jgh, jgh]) (jA_194_111 (d := 0) (by omega)) (by rfl) (by rfl) (by rfl) (by rfl) trivial (by rfl) (by rfl) (by omega) (by show 16 ≤ 16; omega) (by omega) (by omega) rfl rfl ?_
  refine jT_xlstore_n (v := (1, x3)) (L' := [(1, (1, x3)), (3, (0, 2)), (0, (4, 0))]) (pc' := 24) jI_199_23 rfl rfl rfl rfl ?_
  refine jT_xiinc (x := 2) (z := 3) (L' := [(3, (0, 3)), (1, (1, x3)), (0, (4, 0))]) (pc' := 27) jI_199_24 rfl rfl (by decide) rfl rfl ?_
  refine jT_xgoto (pc' := 7) jI_199_27 rfl ?_
  refine jT_xiload_n (v := (0, 3)) (pc' := 8) jI_199_7 rfl rfl rfl ?_
  refine jT_xbipush (k := 6) (pc' := 10) jI_199_8 (by decide) rfl ?_
  refine jT_xicF (t := 30) (pc' := 13) jI_199_10 rfl (by decide +kernel) rfl rfl ?_
  refine jT_xlload_n (v := (1, x3)) (pc' := 14) jI_199_13 rfl rfl rfl ?_
  refine jT_xaload_n (v := (4, 0)) (pc' := 15) jI_199_14 rfl rfl rfl ?_
  refine jT_xgetf (a := 0) (t := 1) (ci := 14) (fi := 9) (c := (14, [(0, 0), (4, 1), (4, 2), (4, 3), (4, 4), (0, 0), (4, 5), (0, 0), (4, 6), (4, 7), (1, x3), (4, 8), (0, 0), (4, 9), (0, 0), (0, 0), (0, 0), (0, 0), (0, 0), (0, 0), (0, 0), (4, 10), (4, 11), (4, 12), (4, 13), (4, 14), (4, 15), (0, 0)], [])) (v := (4, 7)) (pc' := 18) jI_199_15 rfl rfl rfl rfl rfl rfl rfl ?_
  refine jT_xiload_n (v := (0, 3)) (pc' := 19) jI_199_18 rfl rfl rfl ?_
  refine jT_lald (x := 0) (a := 7) (j := 3) (fs := []) (X := [0, 0, 0, 0, 0, 0]) jI_199_19 rfl rfl rfl rfl ?_
  refine jT_eq (L' := [(3, (0, 3)), (1, (1, x3)), (0, (4, 0))]) (st' := [(1, 0), (1, x3)]) (hs' := [(14, [(0, 0), (4, 1), (4, 2), (4, 3), (4, 4), (0, 0), (4, 5), (0, 0), (4, 6), (4, 7), (1, x3), (4, 8), (0, 0), (4, 9), (0, 0), (0, 0), (0, 0), (0, 0), (0, 0), (0, 0), (0, 0), (4, 10), (4, 11), (4, 12), (4, 13), (4, 14), (4, 15), (0, 0)], []), jgh, jgh, jgh, jgh, jgh, jgh, (101, [], [0, 0, 0, 0, 0, 0]), jgh, jgh, jgh, jgh, jgh, jgh, jgh, jgh]) rfl rfl rfl ?_
  refine jT_callA [] (y := 194) (pc' := 23) (dC := 0) (bc1 := 0) (bc2 := 0) (c1 := 0) (c2 := 0) (as := [(1, x3), (1, 0)]) (asC := [(1, x3), (1, 0)]) (L' := [(3, (0, 3)), (1, (1, x3)), (0, (4, 0))]) (st' := []) (hsC := []) (ex := []) (v := (1, x3)) (st2 := [(1, x3)]) (hs2 := [(14, [(0, 0), (4, 1), (4, 2), (4, 3), (4, 4), (0, 0), (4, 5), (0, 0), (4, 6), (4, 7), (1, x3), (4, 8), (0, 0), (4, 9), (0, 0), (0, 0), (0, 0), (0, 0), (0, 0), (0, 0), (0, 0), (4, 10), (4, 11), (4, 12), (4, 13), (4, 14), (4, 15), (0, 0)], []), jgh, jgh, jgh, jgh, jgh, jgh, (101, [], [0, 0, 0, 0, 0, 0]), jgh, jgh, jgh, jgh, jgh, jgh, jgh, jgh]) (jA_194_111 (d := 0) (by omega)) (by rfl) (by rfl) (by rfl) (by rfl) trivial (by rfl) (by rfl) (by omega) (by show 16 ≤ 16; omega) (by omega) (by omega) rfl rfl ?_
  refine jT_xlstore_n (v := (1, x3)) (L' := [(1, (1, x3)), (3, (0, 3)), (0, (4, 0))]) (pc' := 24) jI_199_23 rfl rfl rfl rfl ?_
  refine jT_xiinc (x := 3) (z := 4) (L' := [(3, (0, 4)), (1, (1, x3)), (0, (4, 0))]) (pc' := 27) jI_199_24 rfl rfl (by decide) rfl rfl ?_
  refine jT_xgoto (pc' := 7) jI_199_27 rfl ?_
  refine jT_xiload_n (v := (0, 4)) (pc' := 8) jI_199_7 rfl rfl rfl ?_
  refine jT_xbipush (k := 6) (pc' := 10) jI_199_8 (by decide) rfl ?_
  refine jT_xicF (t := 30) (pc' := 13) jI_199_10 rfl (by decide +kernel) rfl rfl ?_
  refine jT_xlload_n (v := (1, x3)) (pc' := 14) jI_199_13 rfl rfl rfl ?_
  refine jT_xaload_n (v := (4, 0)) (pc' := 15) jI_199_14 rfl rfl rfl ?_
  refine jT_xgetf (a := 0) (t := 1) (ci := 14) (fi := 9) (c := (14, [(0, 0), (4, 1), (4, 2), (4, 3), (4, 4), (0, 0), (4, 5), (0, 0), (4, 6), (4, 7), (1, x3), (4, 8), (0, 0), (4, 9), (0, 0), (0, 0), (0, 0), (0, 0), (0, 0), (0, 0), (0, 0), (4, 10), (4, 11), (4, 12), (4, 13), (4, 14), (4, 15), (0, 0)], [])) (v := (4, 7)) (pc' := 18) jI_199_15 rfl rfl rfl rfl rfl rfl rfl ?_
  refine jT_xiload_n (v := (0, 4)) (pc' := 19) jI_199_18 rfl rfl rfl ?_
  refine jT_lald (x := 0) (a := 7) (j := 4) (fs := []) (X := [0, 0, 0, 0, 0, 0]) jI_199_19 rfl rfl rfl rfl ?_
  refine jT_eq (L' := [(3, (0, 4)), (1, (1, x3)), (0, (4, 0))]) (st' := [(1, 0), (1, x3)]) (hs' := [(14, [(0, 0), (4, 1), (4, 2), (4, 3), (4, 4), (0, 0), (4, 5), (0, 0), (4, 6), (4, 7), (1, x3), (4, 8), (0, 0), (4, 9), (0, 0), (0, 0), (0, 0), (0, 0), (0, 0), (0, 0), (0, 0), (4, 10), (4, 11), (4, 12), (4, 13), (4, 14), (4, 15), (0, 0)], []), jgh, jgh, jgh, jgh, jgh, jgh, (101, [], [0, 0, 0, 0, 0, 0]), jgh, jgh, jgh, jgh, jgh, jgh, jgh, jgh]) rfl rfl rfl ?_
  refine jT_callA [] (y := 194) (pc' := 23) (dC := 0) (bc1 := 0) (bc2 := 0) (c1 := 0) (c2 := 0) (as := [(1, x3), (1, 0)]) (asC := [(1, x3), (1, 0)]) (L' := [(3, (0, 4)), (1, (1, x3)), (0, (4, 0))]) (st' := []) (hsC := []) (ex := []) (v := (1, x3)) (st2 := [(1, x3)]) (hs2 := [(14, [(0, 0), (4, 1), (4, 2), (4, 3), (4, 4), (0, 0), (4, 5), (0, 0), (4, 6), (4, 7), (1, x3), (4, 8), (0, 0), (4, 9), (0, 0), (0, 0), (0, 0), (0, 0), (0, 0), (0, 0), (0, 0), (4, 10), (4, 11), (4, 12), (4, 13), (4, 14), (4, 15), (0, 0)], []), jgh, jgh, jgh, jgh, jgh, jgh, (101, [], [0, 0, 0, 0, 0, 0]), jgh, jgh, jgh, jgh, jgh, jgh, jgh, jgh]) (jA_194_111 (d := 0) (by omega)) (by rfl) (by rfl) (by rfl) (by rfl) trivial (by rfl) (by rfl) (by omega) (by show 16 ≤ 16; omega) (by omega) (by omega) rfl rfl ?_
  refine jT_xlstore_n (v := (1, x3)) (L' := [(1, (1, x3)), (3, (0, 4)), (0, (4, 0))]) (pc' := 24) jI_199_23 rfl rfl rfl rfl ?_
  refine jT_xiinc (x := 4) (z := 5) (L' := [(3, (0, 5)), (1, (1, x3)), (0, (4, 0))]) (pc' := 27) jI_199_24 rfl rfl (by decide) rfl rfl ?_
  refine jT_xgoto (pc' := 7) jI_199_27 rfl ?_
  refine jT_xiload_n (v := (0, 5)) (pc' := 8) jI_199_7 rfl rfl rfl ?_
  refine jT_xbipush (k := 6) (pc' := 10) jI_199_8 (by decide) rfl ?_
  refine jT_xicF (t := 30) (pc' := 13) jI_199_10 rfl (by decide +kernel) rfl rfl ?_
  refine jT_xlload_n (v := (1, x3)) (pc' := 14) jI_199_13 rfl rfl rfl ?_
  refine jT_xaload_n (v := (4, 0)) (pc' := 15) jI_199_14 rfl rfl rfl ?_
  refine jT_xgetf (a := 0) (t := 1) (ci := 14) (fi := 9) (c := (14, [(0, 0), (4, 1), (4, 2), (4, 3), (4, 4), (0, 0), (4, 5), (0, 0), (4, 6), (4, 7), (1, x3), (4, 8), (0, 0), (4, 9), (0, 0), (0, 0), (0, 0), (0, 0), (0, 0), (0, 0), (0, 0), (4, 10), (4, 11), (4, 12), (4, 13), (4, 14), (4, 15), (0, 0)], [])) (v := (4, 7)) (pc' := 18) jI_199_15 rfl rfl rfl rfl rfl rfl rfl ?_
  refine jT_xiload_n (v := (0, 5)) (pc' := 19) jI_199_18 rfl rfl rfl ?_
  refine jT_lald (x := 0) (a := 7) (j := 5) (fs := []) (X := [0, 0, 0, 0, 0, 0]) jI_199_19 rfl rfl rfl rfl ?_
  refine jT_eq (L' := [(3, (0, 5)), (1, (1, x3)), (0, (4, 0))]) (st' := [(1, 0), (1, x3)]) (hs' := [(14, [(0, 0), (4, 1), (4, 2), (4, 3), (4, 4), (0, 0), (4, 5), (0, 0), (4, 6), (4, 7), (1, x3), (4, 8), (0, 0), (4, 9), (0, 0), (0, 0), (0, 0), (0, 0), (0, 0), (0, 0), (0, 0), (4, 10), (4, 11), (4, 12), (4, 13), (4, 14), (4, 15), (0, 0)], []), jgh, jgh, jgh, jgh, jgh, jgh, (101, [], [0, 0, 0, 0, 0, 0]), jgh, jgh, jgh, jgh, jgh, jgh, jgh, jgh]) rfl rfl rfl ?_
  refine jT_callA [] (y := 194) (pc' := 23) (dC := 0) (bc1 := 0) (bc2 := 0) (c1 := 0) (c2 := 0) (as := [(1, x3), (1, 0)]) (asC := [(1, x3), (1, 0)]) (L' := [(3, (0, 5)), (1, (1, x3)), (0, (4, 0))]) (st' := []) (hsC := []) (ex := []) (v := (1, x3)) (st2 := [(1, x3)]) (hs2 := [(14, [(0, 0), (4, 1), (4, 2), (4, 3), (4, 4), (0, 0), (4, 5), (0, 0), (4, 6), (4, 7), (1, x3), (4, 8), (0, 0), (4, 9), (0, 0), (0, 0), (0, 0), (0, 0), (0, 0), (0, 0), (0, 0), (4, 10), (4, 11), (4, 12), (4, 13), (4, 14), (4, 15), (0, 0)], []), jgh, jgh, jgh, jgh, jgh, jgh, (101, [], [0, 0, 0, 0, 0, 0]), jgh, jgh, jgh, jgh, jgh, jgh, jgh, jgh]) (jA_194_111 (d := 0) (by omega)) (by rfl) (by rfl) (by rfl) (by rfl) trivial (by rfl) (by rfl) (by omega) (by show 16 ≤ 16; omega) (by omega) (by omega) rfl rfl ?_
  refine jT_xlstore_n (v := (1, x3)) (L' := [(1, (1, x3)), (3, (0, 5)), (0, (4, 0))]) (pc' := 24) jI_199_23 rfl rfl rfl rfl ?_
  refine jT_xiinc (x := 5) (z := 6) (L' := [(3, (0, 6)), (1, (1, x3)), (0, (4, 0))]) (pc' := 27) jI_199_24 rfl rfl (by decide) rfl rfl ?_
  refine jT_xgoto (pc' := 7) jI_199_27 rfl ?_
  refine jT_xiload_n (v := (0, 6)) (pc' := 8) jI_199_7 rfl rfl rfl ?_
  refine jT_xbipush (k := 6) (pc' := 10) jI_199_8 (by decide) rfl ?_
  refine jT_xicT (pc' := 30) jI_199_10 rfl (by decide +kernel) rfl ?_
  refine jT_xaload_n (v := (4, 0)) (pc' := 31) jI_199_30 rfl rfl rfl ?_
  refine jT_xgetf (a := 0) (t := 1) (ci := 14) (fi := 9) (c := (14, [(0, 0), (4, 1), (4, 2), (4, 3), (4, 4), (0, 0), (4, 5), (0, 0), (4, 6), (4, 7), (1, x3), (4, 8), (0, 0), (4, 9), (0, 0), (0, 0), (0, 0), (0, 0), (0, 0), (0, 0), (0, 0), (4, 10), (4, 11), (4, 12), (4, 13), (4, 14), (4, 15), (0, 0)], [])) (v := (4, 7)) (pc' := 34) jI_199_31 rfl rfl rfl rfl rfl rfl rfl ?_
  refine jT_callA [7] (y := 200) (pc' := 37) (dC := 0) (bc1 := 0) (bc2 := 0) (c1 := 0) (c2 := 0) (as := [(4, 7)]) (asC := [(4, 0)]) (L' := [(3, (0, 6)), (1, (1, x3)), (0, (4, 0))]) (st' := []) (hsC := [(101, [], [0, 0, 0, 0, 0, 0])]) (ex := []) (v := (0, 1)) (st2 := [(0, 1)]) (hs2 := [(14, [(0, 0), (4, 1), (4, 2), (4, 3), (4, 4), (0, 0), (4, 5), (0, 0), (4, 6), (4, 7), (1, x3), (4, 8), (0, 0), (4, 9), (0, 0), (0, 0), (0, 0), (0, 0), (0, 0), (0, 0), (0, 0), (4, 10), (4, 11), (4, 12), (4, 13), (4, 14), (4, 15), (0, 0)], []), jgh, jgh, jgh, jgh, jgh, jgh, (101, [], [0, 0, 0, 0, 0, 0]), jgh, jgh, jgh, jgh, jgh, jgh, jgh, jgh]) (jA_200_95 (d := 0)) (by rfl) (by rfl) (by rfl) (by rfl) ⟨rfl, trivial⟩ (by rfl) (by rfl) (by omega) (by show 16 ≤ 16; omega) (by omega) (by omega) rfl rfl ?_
  refine jT_xifF (t := 45) (pc' := 40) jI_199_37 rfl (by decide +kernel) rfl rfl ?_
  refine jT_xaload_n (v := (4, 0)) (pc' := 41) jI_199_40 rfl rfl rfl ?_
  refine jT_xgetf (a := 0) (t := 1) (ci := 14) (fi := 10) (c := (14, [(0, 0), (4, 1), (4, 2), (4, 3), (4, 4), (0, 0), (4, 5), (0, 0), (4, 6), (4, 7), (1, x3), (4, 8), (0, 0), (4, 9), (0, 0), (0, 0), (0, 0), (0, 0), (0, 0), (0, 0), (0, 0), (4, 10), (4, 11), (4, 12), (4, 13), (4, 14), (4, 15), (0, 0)], [])) (v := (1, x3)) (pc' := 44) jI_199_41 rfl rfl rfl rfl rfl rfl rfl ?_
  refine jT_xlstore_n (v := (1, x3)) (L' := [(1, (1, x3)), (3, (0, 6)), (0, (4, 0))]) (pc' := 45) jI_199_44 rfl rfl rfl rfl ?_
  refine jT_xiconst (k := 0) (pc' := 46) jI_199_45 rfl ?_
  refine jT_xistore_n (v := (0, 0)) (L' := [(3, (0, 0)), (1, (1, x3)), (0, (4, 0))]) (pc' := 47) jI_199_46 rfl rfl rfl rfl ?_
  refine jT_xiload_n (v := (0, 0)) (pc' := 48) jI_199_47 rfl rfl rfl ?_
  refine jT_xbipush (k := 6) (pc' := 50) jI_199_48 (by decide) rfl ?_
  refine jT_xicF (t := 69) (pc' := 53) jI_199_50 rfl (by decide +kernel) rfl rfl ?_
  refine jT_xaload_n (v := (4, 0)) (pc' := 54) jI_199_53 rfl rfl rfl ?_
  refine jT_xgetf (a := 0) (t := 1) (ci := 14) (fi := 9) (c := (14, [(0, 0), (4, 1), (4, 2), (4, 3), (4, 4), (0, 0), (4, 5), (0, 0), (4, 6), (4, 7), (1, x3), (4, 8), (0, 0), (4, 9), (0, 0), (0, 0), (0, 0), (0, 0), (0, 0), (0, 0), (0, 0), (4, 10), (4, 11), (4, 12), (4, 13), (4, 14), (4, 15), (0, 0)], [])) (v := (4, 7)) (pc' := 57) jI_199_54 rfl rfl rfl rfl rfl rfl rfl ?_
  refine jT_xiload_n (v := (0, 0)) (pc' := 58) jI_199_57 rfl rfl rfl ?_
  refine jT_adv 1 (pc' := 59) (L' := [(3, (0, 0)), (1, (1, x3)), (0, (4, 0))]) (st' := [(0, 0), (4, 7), (0, 0), (4, 7)]) (hs' := [(14, [(0, 0), (4, 1), (4, 2), (4, 3), (4, 4), (0, 0), (4, 5), (0, 0), (4, 6), (4, 7), (1, x3), (4, 8), (0, 0), (4, 9), (0, 0), (0, 0), (0, 0), (0, 0), (0, 0), (0, 0), (0, 0), (4, 10), (4, 11), (4, 12), (4, 13), (4, 14), (4, 15), (0, 0)], []), jgh, jgh, jgh, jgh, jgh, jgh, (101, [], [0, 0, 0, 0, 0, 0]), jgh, jgh, jgh, jgh, jgh, jgh, jgh, jgh]) (c1 := 0) (s1 := 0) (c2 := 0) (s2 := 0) (by exact rfl) ?_ (by omega) (by omega)
  refine jT_lald (x := 0) (a := 7) (j := 0) (fs := []) (X := [0, 0, 0, 0, 0, 0]) jI_199_59 rfl rfl rfl rfl ?_
  refine jT_eq (L' := [(3, (0, 0)), (1, (1, x3)), (0, (4, 0))]) (st' := [(1, 0), (0, 0), (4, 7)]) (hs' := [(14, [(0, 0), (4, 1), (4, 2), (4, 3), (4, 4), (0, 0), (4, 5), (0, 0), (4, 6), (4, 7), (1, x3), (4, 8), (0, 0), (4, 9), (0, 0), (0, 0), (0, 0), (0, 0), (0, 0), (0, 0), (0, 0), (4, 10), (4, 11), (4, 12), (4, 13), (4, 14), (4, 15), (0, 0)], []), jgh, jgh, jgh, jgh, jgh, jgh, (101, [], [0, 0, 0, 0, 0, 0]), jgh, jgh, jgh, jgh, jgh, jgh, jgh, jgh]) rfl rfl rfl ?_
  refine jT_xlload_n (v := (1, x3)) (pc' := 61) jI_199_60 rfl rfl rfl ?_
  refine jT_ldiv (a := 0) (b := x3) (by rfl) (by rfl) (jwl_idd (by omega) (by omega)) (jwl_idd (by omega) (by omega)) (by omega) ?_
  refine jT_eq (L' := [(3, (0, 0)), (1, (1, x3)), (0, (4, 0))]) (st' := [(1, 0), (0, 0), (4, 7)]) (hs' := [(14, [(0, 0), (4, 1), (4, 2), (4, 3), (4, 4), (0, 0), (4, 5), (0, 0), (4, 6), (4, 7), (1, x3), (4, 8), (0, 0), (4, 9), (0, 0), (0, 0), (0, 0), (0, 0), (0, 0), (0, 0), (0, 0), (4, 10), (4, 11), (4, 12), (4, 13), (4, 14), (4, 15), (0, 0)], []), jgh, jgh, jgh, jgh, jgh, jgh, (101, [], [0, 0, 0, 0, 0, 0]), jgh, jgh, jgh, jgh, jgh, jgh, jgh, jgh]) rfl (by rw [show ((0 : Int).tdiv x3 : Int) = 0 by simp]) rfl ?_
  refine jT_adv 1 (pc' := 63) (L' := [(3, (0, 0)), (1, (1, x3)), (0, (4, 0))]) (st' := []) (hs' := [(14, [(0, 0), (4, 1), (4, 2), (4, 3), (4, 4), (0, 0), (4, 5), (0, 0), (4, 6), (4, 7), (1, x3), (4, 8), (0, 0), (4, 9), (0, 0), (0, 0), (0, 0), (0, 0), (0, 0), (0, 0), (0, 0), (4, 10), (4, 11), (4, 12), (4, 13), (4, 14), (4, 15), (0, 0)], []), jgh, jgh, jgh, jgh, jgh, jgh, (101, [], [0, 0, 0, 0, 0, 0]), jgh, jgh, jgh, jgh, jgh, jgh, jgh, jgh]) (c1 := 0) (s1 := 0) (c2 := 0) (s2 := 0) (by exact rfl) ?_ (by omega) (by omega)
  refine jT_xiinc (x := 0) (z := 1) (L' := [(3, (0, 1)), (1, (1, x3)), (0, (4, 0))]) (pc' := 66) jI_199_63 rfl rfl (by decide) rfl rfl ?_
  refine jT_xgoto (pc' := 47) jI_199_66 rfl ?_
  refine jT_xiload_n (v := (0, 1)) (pc' := 48) jI_199_47 rfl rfl rfl ?_
  refine jT_xbipush (k := 6) (pc' := 50) jI_199_48 (by decide) rfl ?_
  refine jT_xicF (t := 69) (pc' := 53) jI_199_50 rfl (by decide +kernel) rfl rfl ?_
  refine jT_xaload_n (v := (4, 0)) (pc' := 54) jI_199_53 rfl rfl rfl ?_
  refine jT_xgetf (a := 0) (t := 1) (ci := 14) (fi := 9) (c := (14, [(0, 0), (4, 1), (4, 2), (4, 3), (4, 4), (0, 0), (4, 5), (0, 0), (4, 6), (4, 7), (1, x3), (4, 8), (0, 0), (4, 9), (0, 0), (0, 0), (0, 0), (0, 0), (0, 0), (0, 0), (0, 0), (4, 10), (4, 11), (4, 12), (4, 13), (4, 14), (4, 15), (0, 0)], [])) (v := (4, 7)) (pc' := 57) jI_199_54 rfl rfl rfl rfl rfl rfl rfl ?_
  refine jT_xiload_n (v := (0, 1)) (pc' := 58) jI_199_57 rfl rfl rfl ?_
  refine jT_adv 1 (pc' := 59) (L' := [(3, (0, 1)), (1, (1, x3)), (0, (4, 0))]) (st' := [(0, 1), (4, 7), (0, 1), (4, 7)]) (hs' := [(14, [(0, 0), (4, 1), (4, 2), (4, 3), (4, 4), (0, 0), (4, 5), (0, 0), (4, 6), (4, 7), (1, x3), (4, 8), (0, 0), (4, 9), (0, 0), (0, 0), (0, 0), (0, 0), (0, 0), (0, 0), (0, 0), (4, 10), (4, 11), (4, 12), (4, 13), (4, 14), (4, 15), (0, 0)], []), jgh, jgh, jgh, jgh, jgh, jgh, (101, [], [0, 0, 0, 0, 0, 0]), jgh, jgh, jgh, jgh, jgh, jgh, jgh, jgh]) (c1 := 0) (s1 := 0) (c2 := 0) (s2 := 0) (by exact rfl) ?_ (by omega) (by omega)
  refine jT_lald (x := 0) (a := 7) (j := 1) (fs := []) (X := [0, 0, 0, 0, 0, 0]) jI_199_59 rfl rfl rfl rfl ?_
  refine jT_eq (L' := [(3, (0, 1)), (1, (1, x3)), (0, (4, 0))]) (st' := [(1, 0), (0, 1), (4, 7)]) (hs' := [(14, [(0, 0), (4, 1), (4, 2), (4, 3), (4, 4), (0, 0), (4, 5), (0, 0), (4, 6), (4, 7), (1, x3), (4, 8), (0, 0), (4, 9), (0, 0), (0, 0), (0, 0), (0, 0), (0, 0), (0, 0), (0, 0), (4, 10), (4, 11), (4, 12), (4, 13), (4, 14), (4, 15), (0, 0)], []), jgh, jgh, jgh, jgh, jgh, jgh, (101, [], [0, 0, 0, 0, 0, 0]), jgh, jgh, jgh, jgh, jgh, jgh, jgh, jgh]) rfl rfl rfl ?_
  refine jT_xlload_n (v := (1, x3)) (pc' := 61) jI_199_60 rfl rfl rfl ?_
  refine jT_ldiv (a := 0) (b := x3) (by rfl) (by rfl) (jwl_idd (by omega) (by omega)) (jwl_idd (by omega) (by omega)) (by omega) ?_
  refine jT_eq (L' := [(3, (0, 1)), (1, (1, x3)), (0, (4, 0))]) (st' := [(1, 0), (0, 1), (4, 7)]) (hs' := [(14, [(0, 0), (4, 1), (4, 2), (4, 3), (4, 4), (0, 0), (4, 5), (0, 0), (4, 6), (4, 7), (1, x3), (4, 8), (0, 0), (4, 9), (0, 0), (0, 0), (0, 0), (0, 0), (0, 0), (0, 0), (0, 0), (4, 10), (4, 11), (4, 12), (4, 13), (4, 14), (4, 15), (0, 0)], []), jgh, jgh, jgh, jgh, jgh, jgh, (101, [], [0, 0, 0, 0, 0, 0]), jgh, jgh, jgh, jgh, jgh, jgh, jgh, jgh]) rfl (by rw [show ((0 : Int).tdiv x3 : Int) = 0 by simp]) rfl ?_
  refine jT_adv 1 (pc' := 63) (L' := [(3, (0, 1)), (1, (1, x3)), (0, (4, 0))]) (st' := []) (hs' := [(14, [(0, 0), (4, 1), (4, 2), (4, 3), (4, 4), (0, 0), (4, 5), (0, 0), (4, 6), (4, 7), (1, x3), (4, 8), (0, 0), (4, 9), (0, 0), (0, 0), (0, 0), (0, 0), (0, 0), (0, 0), (0, 0), (4, 10), (4, 11), (4, 12), (4, 13), (4, 14), (4, 15), (0, 0)], []), jgh, jgh, jgh, jgh, jgh, jgh, (101, [], [0, 0, 0, 0, 0, 0]), jgh, jgh, jgh, jgh, jgh, jgh, jgh, jgh]) (c1 := 0) (s1 := 0) (c2 := 0) (s2 := 0) (by exact rfl) ?_ (by omega) (by omega)
  refine jT_xiinc (x := 1) (z := 2) (L' := [(3, (0, 2)), (1, (1, x3)), (0, (4, 0))]) (pc' := 66) jI_199_63 rfl rfl (by decide) rfl rfl ?_
  refine jT_xgoto (pc' := 47) jI_199_66 rfl ?_
  refine jT_xiload_n (v := (0, 2)) (pc' := 48) jI_199_47 rfl rfl rfl ?_
  refine jT_xbipush (k := 6) (pc' := 50) jI_199_48 (by decide) rfl ?_
  refine jT_xicF (t := 69) (pc' := 53) jI_199_50 rfl (by decide +kernel) rfl rfl ?_
  refine jT_xaload_n (v := (4, 0)) (pc' := 54) jI_199_53 rfl rfl rfl ?_
  refine jT_xgetf (a := 0) (t := 1) (ci := 14) (fi := 9) (c := (14, [(0, 0), (4, 1), (4, 2), (4, 3), (4, 4), (0, 0), (4, 5), (0, 0), (4, 6), (4, 7), (1, x3), (4, 8), (0, 0), (4, 9), (0, 0), (0, 0), (0, 0), (0, 0), (0, 0), (0, 0), (0, 0), (4, 10), (4, 11), (4, 12), (4, 13), (4, 14), (4, 15), (0, 0)], [])) (v := (4, 7)) (pc' := 57) jI_199_54 rfl rfl rfl rfl rfl rfl rfl ?_
  refine jT_xiload_n (v := (0, 2)) (pc' := 58) jI_199_57 rfl rfl rfl ?_
  refine jT_adv 1 (pc' := 59) (L' := [(3, (0, 2)), (1, (1, x3)), (0, (4, 0))]) (st' := [(0, 2), (4, 7), (0, 2), (4, 7)]) (hs' := [(14, [(0, 0), (4, 1), (4, 2), (4, 3), (4, 4), (0, 0), (4, 5), (0, 0), (4, 6), (4, 7), (1, x3), (4, 8), (0, 0), (4, 9), (0, 0), (0, 0), (0, 0), (0, 0), (0, 0), (0, 0), (0, 0), (4, 10), (4, 11), (4, 12), (4, 13), (4, 14), (4, 15), (0, 0)], []), jgh, jgh, jgh, jgh, jgh, jgh, (101, [], [0, 0, 0, 0, 0, 0]), jgh, jgh, jgh, jgh, jgh, jgh, jgh, jgh]) (c1 := 0) (s1 := 0) (c2 := 0) (s2 := 0) (by exact rfl) ?_ (by omega) (by omega)
  refine jT_lald (x := 0) (a := 7) (j := 2) (fs := []) (X := [0, 0, 0, 0, 0, 0]) jI_199_59 rfl rfl rfl rfl ?_
  refine jT_eq (L' := [(3, (0, 2)), (1, (1, x3)), (0, (4, 0))]) (st' := [(1, 0), (0, 2), (4, 7)]) (hs' := [(14, [(0, 0), (4, 1), (4, 2), (4, 3), (4, 4), (0, 0), (4, 5), (0, 0), (4, 6), (4, 7), (1, x3), (4, 8), (0, 0), (4, 9), (0, 0), (0, 0), (0, 0), (0, 0), (0, 0), (0, 0), (0, 0), (4, 10), (4, 11), (4, 12), (4, 13), (4, 14), (4, 15), (0, 0)], []), jgh, jgh, jgh, jgh, jgh, jgh, (101, [], [0, 0, 0, 0, 0, 0]), jgh, jgh, jgh, jgh, jgh, jgh, jgh, jgh]) rfl rfl rfl ?_
  refine jT_xlload_n (v := (1, x3)) (pc' := 61) jI_199_60 rfl rfl rfl ?_
  refine jT_ldiv (a := 0) (b := x3) (by rfl) (by rfl) (jwl_idd (by omega) (by omega)) (jwl_idd (by omega) (by omega)) (by omega) ?_
  refine jT_eq (L' := [(3, (0, 2)), (1, (1, x3)), (0, (4, 0))]) (st' := [(1, 0), (0, 2), (4, 7)]) (hs' := [(14, [(0, 0), (4, 1), (4, 2), (4, 3), (4, 4), (0, 0), (4, 5), (0, 0), (4, 6), (4, 7), (1, x3), (4, 8), (0, 0), (4, 9), (0, 0), (0, 0), (0, 0), (0, 0), (0, 0), (0, 0), (0, 0), (4, 10), (4, 11), (4, 12), (4, 13), (4, 14), (4, 15), (0, 0)], []), jgh, jgh, jgh, jgh, jgh, jgh, (101, [], [0, 0, 0, 0, 0, 0]), jgh, jgh, jgh, jgh, jgh, jgh, jgh, jgh]) rfl (by rw [show ((0 : Int).tdiv x3 : Int) = 0 by simp]) rfl ?_
  refine jT_adv 1 (pc' := 63) (L' := [(3, (0, 2)), (1, (1, x3)), (0, (4, 0))]) (st' := []) (hs' := [(14, [(0, 0), (4, 1), (4, 2), (4, 3), (4, 4), (0, 0), (4, 5), (0, 0), (4, 6), (4, 7), (1, x3), (4, 8), (0, 0), (4, 9), (0, 0), (0, 0), (0, 0), (0, 0), (0, 0), (0, 0), (0, 0), (4, 10), (4, 11), (4, 12), (4, 13), (4, 14), (4, 15), (0, 0)], []), jgh, jgh, jgh, jgh, jgh, jgh, (101, [], [0, 0, 0, 0, 0, 0]), jgh, jgh, jgh, jgh, jgh, jgh, jgh, jgh]) (c1 := 0) (s1 := 0) (c2 := 0) (s2 := 0) (by exact rfl) ?_ (by omega) (by omega)
  refine jT_xiinc (x := 2) (z := 3) (L' := [(3, (0, 3)), (1, (1, x3)), (0, (4, 0))]) (pc' := 66) jI_199_63 rfl rfl (by decide) rfl rfl ?_
  refine jT_xgoto (pc' := 47) jI_199_66 rfl ?_
  refine jT_xiload_n (v := (0, 3)) (pc' := 48) jI_199_47 rfl rfl rfl ?_
  refine jT_xbipush (k := 6) (pc' := 50) jI_199_48 (by decide) rfl ?_
  refine jT_xicF (t := 69) (pc' := 53) jI_199_50 rfl (by decide +kernel) rfl rfl ?_
  refine jT_xaload_n (v := (4, 0)) (pc' := 54) jI_199_53 rfl rfl rfl ?_
  refine jT_xgetf (a := 0) (t := 1) (ci := 14) (fi := 9) (c := (14, [(0, 0), (4, 1), (4, 2), (4, 3), (4, 4), (0, 0), (4, 5), (0, 0), (4, 6), (4, 7), (1, x3), (4, 8), (0, 0), (4, 9), (0, 0), (0, 0), (0, 0), (0, 0), (0, 0), (0, 0), (0, 0), (4, 10), (4, 11), (4, 12), (4, 13), (4, 14), (4, 15), (0, 0)], [])) (v := (4, 7)) (pc' := 57) jI_199_54 rfl rfl rfl rfl rfl rfl rfl ?_
  refine jT_xiload_n (v := (0, 3)) (pc' := 58) jI_199_57 rfl rfl rfl ?_
  refine jT_adv 1 (pc' := 59) (L' := [(3, (0, 3)), (1, (1, x3)), (0, (4, 0))]) (st' := [(0, 3), (4, 7), (0, 3), (4, 7)]) (hs' := [(14, [(0, 0), (4, 1), (4, 2), (4, 3), (4, 4), (0, 0), (4, 5), (0, 0), (4, 6), (4, 7), (1, x3), (4, 8), (0, 0), (4, 9), (0, 0), (0, 0), (0, 0), (0, 0), (0, 0), (0, 0), (0, 0), (4, 10), (4, 11), (4, 12), (4, 13), (4, 14), (4, 15), (0, 0)], []), jgh, jgh, jgh, jgh, jgh, jgh, (101, [], [0, 0, 0, 0, 0, 0]), jgh, jgh, jgh, jgh, jgh, jgh, jgh, jgh]) (c1 := 0) (s1 := 0) (c2 := 0) (s2 := 0) (by exact rfl) ?_ (by omega) (by omega)
  refine jT_lald (x := 0) (a := 7) (j := 3) (fs := []) (X := [0, 0, 0, 0, 0, 0]) jI_199_59 rfl rfl rfl rfl ?_
  refine jT_eq (L' := [(3, (0, 3)), (1, (1, x3)), (0, (4, 0))]) (st' := [(1, 0), (0, 3), (4, 7)]) (hs' := [(14, [(0, 0), (4, 1), (4, 2), (4, 3), (4, 4), (0, 0), (4, 5), (0, 0), (4, 6), (4, 7), (1, x3), (4, 8), (0, 0), (4, 9), (0, 0), (0, 0), (0, 0), (0, 0), (0, 0), (0, 0), (0, 0), (4, 10), (4, 11), (4, 12), (4, 13), (4, 14), (4, 15), (0, 0)], []), jgh, jgh, jgh, jgh, jgh, jgh, (101, [], [0, 0, 0, 0, 0, 0]), jgh, jgh, jgh, jgh, jgh, jgh, jgh, jgh]) rfl rfl rfl ?_
  refine jT_xlload_n (v := (1, x3)) (pc' := 61) jI_199_60 rfl rfl rfl ?_
  refine jT_ldiv (a := 0) (b := x3) (by rfl) (by rfl) (jwl_idd (by omega) (by omega)) (jwl_idd (by omega) (by omega)) (by omega) ?_
  refine jT_eq (L' := [(3, (0, 3)), (1, (1, x3)), (0, (4, 0))]) (st' := [(1, 0), (0, 3), (4, 7)]) (hs' := [(14, [(0, 0), (4, 1), (4, 2), (4, 3), (4, 4), (0, 0), (4, 5), (0, 0), (4, 6), (4, 7), (1, x3), (4, 8), (0, 0), (4, 9), (0, 0), (0, 0), (0, 0), (0, 0), (0, 0), (0, 0), (0, 0), (4, 10), (4, 11), (4, 12), (4, 13), (4, 14), (4, 15), (0, 0)], []), jgh, jgh, jgh, jgh, jgh, jgh, (101, [], [0, 0, 0, 0, 0, 0]), jgh, jgh, jgh, jgh, jgh, jgh, jgh, jgh]) rfl (by rw [show ((0 : Int).tdiv x3 : Int) = 0 by simp]) rfl ?_
  refine jT_adv 1 (pc' := 63) (L' := [(3, (0, 3)), (1, (1, x3)), (0, (4, 0))]) (st' := []) (hs' := [(14, [(0, 0), (4, 1), (4, 2), (4, 3), (4, 4), (0, 0), (4, 5), (0, 0), (4, 6), (4, 7), (1, x3), (4, 8), (0, 0), (4, 9), (0, 0), (0, 0), (0, 0), (0, 0), (0, 0), (0, 0), (0, 0), (4, 10), (4, 11), (4, 12), (4, 13), (4, 14), (4, 15), (0, 0)], []), jgh, jgh, jgh, jgh, jgh, jgh, (101, [], [0, 0, 0, 0, 0, 0]), jgh, jgh, jgh, jgh, jgh, jgh, jgh, jgh]) (c1 := 0) (s1 := 0) (c2 := 0) (s2 := 0) (by exact rfl) ?_ (by omega) (by omega)
  refine jT_xiinc (x := 3) (z := 4) (L' := [(3, (0, 4)), (1, (1, x3)), (0, (4, 0))]) (pc' := 66) jI_199_63 rfl rfl (by decide) rfl rfl ?_
  refine jT_xgoto (pc' := 47) jI_199_66 rfl ?_
  refine jT_xiload_n (v := (0, 4)) (pc' := 48) jI_199_47 rfl rfl rfl ?_
  refine jT_xbipush (k := 6) (pc' := 50) jI_199_48 (by decide) rfl ?_
  refine jT_xicF (t := 69) (pc' := 53) jI_199_50 rfl (by decide +kernel) rfl rfl ?_
  refine jT_xaload_n (v := (4, 0)) (pc' := 54) jI_199_53 rfl rfl rfl ?_
  refine jT_xgetf (a := 0) (t := 1) (ci := 14) (fi := 9) (c := (14, [(0, 0), (4, 1), (4, 2), (4, 3), (4, 4), (0, 0), (4, 5), (0, 0), (4, 6), (4, 7), (1, x3), (4, 8), (0, 0), (4, 9), (0, 0), (0, 0), (0, 0), (0, 0), (0, 0), (0, 0), (0, 0), (4, 10), (4, 11), (4, 12), (4, 13), (4, 14), (4, 15), (0, 0)], [])) (v := (4, 7)) (pc' := 57) jI_199_54 rfl rfl rfl rfl rfl rfl rfl ?_
  refine jT_xiload_n (v := (0, 4)) (pc' := 58) jI_199_57 rfl rfl rfl ?_
  refine jT_adv 1 (pc' := 59) (L' := [(3, (0, 4)), (1, (1, x3)), (0, (4, 0))]) (st' := [(0, 4), (4, 7), (0, 4), (4, 7)]) (hs' := [(14, [(0, 0), (4, 1), (4, 2), (4, 3), (4, 4), (0, 0), (4, 5), (0, 0), (4, 6), (4, 7), (1, x3), (4, 8), (0, 0), (4, 9), (0, 0), (0, 0), (0, 0), (0, 0), (0, 0), (0, 0), (0, 0), (4, 10), (4, 11), (4, 12), (4, 13), (4, 14), (4, 15), (0, 0)], []), jgh, jgh, jgh, jgh, jgh, jgh, (101, [], [0, 0, 0, 0, 0, 0]), jgh, jgh, jgh, jgh, jgh, jgh, jgh, jgh]) (c1 := 0) (s1 := 0) (c2 := 0) (s2 := 0) (by exact rfl) ?_ (by omega) (by omega)
  refine jT_lald (x := 0) (a := 7) (j := 4) (fs := []) (X := [0, 0, 0, 0, 0, 0]) jI_199_59 rfl rfl rfl rfl ?_
  refine jT_eq (L' := [(3, (0, 4)), (1, (1, x3)), (0, (4, 0))]) (st' := [(1, 0), (0, 4), (4, 7)]) (hs' := [(14, [(0, 0), (4, 1), (4, 2), (4, 3), (4, 4), (0, 0), (4, 5), (0, 0), (4, 6), (4, 7), (1, x3), (4, 8), (0, 0), (4, 9), (0, 0), (0, 0), (0, 0), (0, 0), (0, 0), (0, 0), (0, 0), (4, 10), (4, 11), (4, 12), (4, 13), (4, 14), (4, 15), (0, 0)], []), jgh, jgh, jgh, jgh, jgh, jgh, (101, [], [0, 0, 0, 0, 0, 0]), jgh, jgh, jgh, jgh, jgh, jgh, jgh, jgh]) rfl rfl rfl ?_
  refine jT_xlload_n (v := (1, x3)) (pc' := 61) jI_199_60 rfl rfl rfl ?_
  refine jT_ldiv (a := 0) (b := x3) (by rfl) (by rfl) (jwl_idd (by omega) (by omega)) (jwl_idd (by omega) (by omega)) (by omega) ?_
  refine jT_eq (L' := [(3, (0, 4)), (1, (1, x3)), (0, (4, 0))]) (st' := [(1, 0), (0, 4), (4, 7)]) (hs' := [(14, [(0, 0), (4, 1), (4, 2), (4, 3), (4, 4), (0, 0), (4, 5), (0, 0), (4, 6), (4, 7), (1, x3), (4, 8), (0, 0), (4, 9), (0, 0), (0, 0), (0, 0), (0, 0), (0, 0), (0, 0), (0, 0), (4, 10), (4, 11), (4, 12), (4, 13), (4, 14), (4, 15), (0, 0)], []), jgh, jgh, jgh, jgh, jgh, jgh, (101, [], [0, 0, 0, 0, 0, 0]), jgh, jgh, jgh, jgh, jgh, jgh, jgh, jgh]) rfl (by rw [show ((0 : Int).tdiv x3 : Int) = 0 by simp]) rfl ?_
  refine jT_adv 1 (pc' := 63) (L' := [(3, (0, 4)), (1, (1, x3)), (0, (4, 0))]) (st' := []) (hs' := [(14, [(0, 0), (4, 1), (4, 2), (4, 3), (4, 4), (0, 0), (4, 5), (0, 0), (4, 6), (4, 7), (1, x3), (4, 8), (0, 0), (4, 9), (0, 0), (0, 0), (0, 0), (0, 0), (0, 0), (0, 0), (0, 0), (4, 10), (4, 11), (4, 12), (4, 13), (4, 14), (4, 15), (0, 0)], []), jgh, jgh, jgh, jgh, jgh, jgh, (101, [], [0, 0, 0, 0, 0, 0]), jgh, jgh, jgh, jgh, jgh, jgh, jgh, jgh]) (c1 := 0) (s1 := 0) (c2 := 0) (s2 := 0) (by exact rfl) ?_ (by omega) (by omega)
  refine jT_xiinc (x := 4) (z := 5) (L' := [(3, (0, 5)), (1, (1, x3)), (0, (4, 0))]) (pc' := 66) jI_199_63 rfl rfl (by decide) rfl rfl ?_
  refine jT_xgoto (pc' := 47) jI_199_66 rfl ?_
  refine jT_xiload_n (v := (0, 5)) (pc' := 48) jI_199_47 rfl rfl rfl ?_
  refine jT_xbipush (k := 6) (pc' := 50) jI_199_48 (by decide) rfl ?_
  refine jT_xicF (t := 69) (pc' := 53) jI_199_50 rfl (by decide +kernel) rfl rfl ?_
  refine jT_xaload_n (v := (4, 0)) (pc' := 54) jI_199_53 rfl rfl rfl ?_
  refine jT_xgetf (a := 0) (t := 1) (ci := 14) (fi := 9) (c := (14, [(0, 0), (4, 1), (4, 2), (4, 3), (4, 4), (0, 0), (4, 5), (0, 0), (4, 6), (4, 7), (1, x3), (4, 8), (0, 0), (4, 9), (0, 0), (0, 0), (0, 0), (0, 0), (0, 0), (0, 0), (0, 0), (4, 10), (4, 11), (4, 12), (4, 13), (4, 14), (4, 15), (0, 0)], [])) (v := (4, 7)) (pc' := 57) jI_199_54 rfl rfl rfl rfl rfl rfl rfl ?_
  refine jT_xiload_n (v := (0, 5)) (pc' := 58) jI_199_57 rfl rfl rfl ?_
  refine jT_adv 1 (pc' := 59) (L' := [(3, (0, 5)), (1, (1, x3)), (0, (4, 0))]) (st' := [(0, 5), (4, 7), (0, 5), (4, 7)]) (hs' := [(14, [(0, 0), (4, 1), (4, 2), (4, 3), (4, 4), (0, 0), (4, 5), (0, 0), (4, 6), (4, 7), (1, x3), (4, 8), (0, 0), (4, 9), (0, 0), (0, 0), (0, 0), (0, 0), (0, 0), (0, 0), (0, 0), (4, 10), (4, 11), (4, 12), (4, 13), (4, 14), (4, 15), (0, 0)], []), jgh, jgh, jgh, jgh, jgh, jgh, (101, [], [0, 0, 0, 0, 0, 0]), jgh, jgh, jgh, jgh, jgh, jgh, jgh, jgh]) (c1 := 0) (s1 := 0) (c2 := 0) (s2 := 0) (by exact rfl) ?_ (by omega) (by omega)
  refine jT_lald (x := 0) (a := 7) (j := 5) (fs := []) (X := [0, 0, 0, 0, 0, 0]) jI_199_59 rfl rfl rfl rfl ?_
  refine jT_eq (L' := [(3, (0, 5)), (1, (1, x3)), (0, (4, 0))]) (st' := [(1, 0), (0, 5), (4, 7)]) (hs' := [(14, [(0, 0), (4, 1), (4, 2), (4, 3), (4, 4), (0, 0), (4, 5), (0, 0), (4, 6), (4, 7), (1, x3), (4, 8), (0, 0), (4, 9), (0, 0), (0, 0), (0, 0), (0, 0), (0, 0), (0, 0), (0, 0), (4, 10), (4, 11), (4, 12), (4, 13), (4, 14), (4, 15), (0, 0)], []), jgh, jgh, jgh, jgh, jgh, jgh, (101, [], [0, 0, 0, 0, 0, 0]), jgh, jgh, jgh, jgh, jgh, jgh, jgh, jgh]) rfl rfl rfl ?_
  refine jT_xlload_n (v := (1, x3)) (pc' := 61) jI_199_60 rfl rfl rfl ?_
  refine jT_ldiv (a := 0) (b := x3) (by rfl) (by rfl) (jwl_idd (by omega) (by omega)) (jwl_idd (by omega) (by omega)) (by omega) ?_
  refine jT_eq (L' := [(3, (0, 5)), (1, (1, x3)), (0, (4, 0))]) (st' := [(1, 0), (0, 5), (4, 7)]) (hs' := [(14, [(0, 0), (4, 1), (4, 2), (4, 3), (4, 4), (0, 0), (4, 5), (0, 0), (4, 6), (4, 7), (1, x3), (4, 8), (0, 0), (4, 9), (0, 0), (0, 0), (0, 0), (0, 0), (0, 0), (0, 0), (0, 0), (4, 10), (4, 11), (4, 12), (4, 13), (4, 14), (4, 15), (0, 0)], []), jgh, jgh, jgh, jgh, jgh, jgh, (101, [], [0, 0, 0, 0, 0, 0]), jgh, jgh, jgh, jgh, jgh, jgh, jgh, jgh]) rfl (by rw [show ((0 : Int).tdiv x3 : Int) = 0 by simp]) rfl ?_
  refine jT_adv 1 (pc' := 63) (L' := [(3, (0, 5)), (1, (1, x3)), (0, (4, 0))]) (st' := []) (hs' := [(14, [(0, 0), (4, 1), (4, 2), (4, 3), (4, 4), (0, 0), (4, 5), (0, 0), (4, 6), (4, 7), (1, x3), (4, 8), (0, 0), (4, 9), (0, 0), (0, 0), (0, 0), (0, 0), (0, 0), (0, 0), (0, 0), (4, 10), (4, 11), (4, 12), (4, 13), (4, 14), (4, 15), (0, 0)], []), jgh, jgh, jgh, jgh, jgh, jgh, (101, [], [0, 0, 0, 0, 0, 0]), jgh, jgh, jgh, jgh, jgh, jgh, jgh, jgh]) (c1 := 0) (s1 := 0) (c2 := 0) (s2 := 0) (by exact rfl) ?_ (by omega) (by omega)
  refine jT_xiinc (x := 5) (z := 6) (L' := [(3, (0, 6)), (1, (1, x3)), (0, (4, 0))]) (pc' := 66) jI_199_63 rfl rfl (by decide) rfl rfl ?_
  refine jT_xgoto (pc' := 47) jI_199_66 rfl ?_
  refine jT_xiload_n (v := (0, 6)) (pc' := 48) jI_199_47 rfl rfl rfl ?_
  refine jT_xbipush (k := 6) (pc' := 50) jI_199_48 (by decide) rfl ?_
  refine jT_xicT (pc' := 69) jI_199_50 rfl (by decide +kernel) rfl ?_
  refine jT_xaload_n (v := (4, 0)) (pc' := 70) jI_199_69 rfl rfl rfl ?_
  refine jT_adv 1 (pc' := 71) (L' := [(3, (0, 6)), (1, (1, x3)), (0, (4, 0))]) (st' := [(4, 0), (4, 0)]) (hs' := [(14, [(0, 0), (4, 1), (4, 2), (4, 3), (4, 4), (0, 0), (4, 5), (0, 0), (4, 6), (4, 7), (1, x3), (4, 8), (0, 0), (4, 9), (0, 0), (0, 0), (0, 0), (0, 0), (0, 0), (0, 0), (0, 0), (4, 10), (4, 11), (4, 12), (4, 13), (4, 14), (4, 15), (0, 0)], []), jgh, jgh, jgh, jgh, jgh, jgh, (101, [], [0, 0, 0, 0, 0, 0]), jgh, jgh, jgh, jgh, jgh, jgh, jgh, jgh]) (c1 := 0) (s1 := 0) (c2 := 0) (s2 := 0) (by exact rfl) ?_ (by omega) (by omega)
  refine jT_xgetf (a := 0) (t := 1) (ci := 14) (fi := 10) (c := (14, [(0, 0), (4, 1), (4, 2), (4, 3), (4, 4), (0, 0), (4, 5), (0, 0), (4, 6), (4, 7), (1, x3), (4, 8), (0, 0), (4, 9), (0, 0), (0, 0), (0, 0), (0, 0), (0, 0), (0, 0), (0, 0), (4, 10), (4, 11), (4, 12), (4, 13), (4, 14), (4, 15), (0, 0)], [])) (v := (1, x3)) (pc' := 74) jI_199_71 rfl rfl rfl rfl rfl rfl rfl ?_
  refine jT_xlload_n (v := (1, x3)) (pc' := 75) jI_199_74 rfl rfl rfl ?_
  refine jT_ldiv (a := x3) (b := x3) (by rfl) (by rfl) (jwl_idd (by omega) (by omega)) (jwl_idd (by omega) (by omega)) (by omega) ?_
  refine jT_eq (L' := [(3, (0, 6)), (1, (1, x3)), (0, (4, 0))]) (st' := [(1, 1), (4, 0)]) (hs' := [(14, [(0, 0), (4, 1), (4, 2), (4, 3), (4, 4), (0, 0), (4, 5), (0, 0), (4, 6), (4, 7), (1, x3), (4, 8), (0, 0), (4, 9), (0, 0), (0, 0), (0, 0), (0, 0), (0, 0), (0, 0), (0, 0), (4, 10), (4, 11), (4, 12), (4, 13), (4, 14), (4, 15), (0, 0)], []), jgh, jgh, jgh, jgh, jgh, jgh, (101, [], [0, 0, 0, 0, 0, 0]), jgh, jgh, jgh, jgh, jgh, jgh, jgh, jgh]) rfl (by rw [show (x3.tdiv x3 : Int) = 1 by exact Int.tdiv_self (by omega)]) rfl ?_
  refine jT_adv 1 (pc' := 79) (L' := [(3, (0, 6)), (1, (1, x3)), (0, (4, 0))]) (st' := []) (hs' := jpA_403) (c1 := 0) (s1 := 0) (c2 := 0) (s2 := 0) (by exact rfl) ?_ (by omega) (by omega)
  exact jT_ret rfl (by decide) (by show 16 ≤ 16; decide) (by omega) (by omega) ⟨rfl, rfl, rfl⟩
theorem jA_207_113 {xs : List Int} {d : Nat} {x2 x3 : Int} (h_x2 : (-100) ≤ x2 ∧ x2 ≤ 100) (h_x3 : 2 ≤ x3 ∧ x3 ≤ 24) : jT xs (d + 2) 207 16 0 [(0, (4, 0)), (1, (0, x2)), (2, (0, x3))] [] jpA_403 0 0 (fun k v hs' => k = 0 ∧ v = (9, 0) ∧ hs' = jpA_403 ++ []) := by
  refine jT_xiconst (k := 0) (pc' := 1) jI_207_0 rfl ?_
  refine jT_xistore_n (v := (0, 0)) (L' := [(3, (0, 0)), (0, (4, 0)), (1, (0, x2)), (2, (0, x3))]) (pc' := 2) jI_207_1 rfl rfl rfl rfl ?_
  refine jT_xiload_n (v := (0, 0)) (pc' := 3) jI_207_2 rfl rfl rfl ?_
  refine jT_xbipush (k := 6) (pc' := 5) jI_207_3 (by decide) rfl ?_
  refine jT_xicF (t := 25) (pc' := 8) jI_207_5 rfl (by decide +kernel) rfl rfl ?_
  refine jT_xaload_n (v := (4, 0)) (pc' := 9) jI_207_8 rfl rfl rfl ?_
  refine jT_xgetf (a := 0) (t := 1) (ci := 14) (fi := 9) (c := jzA_22) (v := (4, 7)) (pc' := 12) jI_207_9 rfl rfl rfl rfl rfl rfl rfl ?_
  refine jT_xiload_n (v := (0, 0)) (pc' := 13) jI_207_12 rfl rfl rfl ?_
  refine jT_adv 1 (pc' := 14) (L' := [(3, (0, 0)), (0, (4, 0)), (1, (0, x2)), (2, (0, x3))]) (st' := [(0, 0), (4, 7), (0, 0), (4, 7)]) (hs' := jpA_403) (c1 := 0) (s1 := 0) (c2 := 0) (s2 := 0) (by exact rfl) ?_ (by omega) (by omega)
  refine jT_lald (x := 0) (a := 7) (j := 0) (fs := []) (X := [0, 0, 0, 0, 0, 0]) jI_207_14 rfl rfl rfl rfl ?_
  refine jT_eq (L' := [(3, (0, 0)), (0, (4, 0)), (1, (0, x2)), (2, (0, x3))]) (st' := [(1, 0), (0, 0), (4, 7)]) (hs' := jpA_403) rfl rfl rfl ?_
  refine jT_xiload_n (v := (0, x2)) (pc' := 16) jI_207_15 rfl rfl rfl ?_
  refine jT_xi2l (x := x2) (z := x2) (pc' := 17) jI_207_16 rfl (jw_idd (by omega) (by omega)) rfl ?_
  refine jT_xlmul (x := 0) (y := x2) (z := 0) (pc' := 18) jI_207_17 rfl (by omega) rfl ?_
  refine jT_adv 1 (pc' := 19) (L' := [(3, (0, 0)), (0, (4, 0)), (1, (0, x2)), (2, (0, x3))]) (st' := []) (hs' := jpA_403) (c1 := 0) (s1 := 0) (c2 := 0) (s2 := 0) (by exact rfl) ?_ (by omega) (by omega)
  refine jT_xiinc (x := 0) (z := 1) (L' := [(3, (0, 1)), (0, (4, 0)), (1, (0, x2)), (2, (0, x3))]) (pc' := 22) jI_207_19 rfl rfl (by decide) rfl rfl ?_
  refine jT_xgoto (pc' := 2) jI_207_22 rfl ?_
  refine jT_xiload_n (v := (0, 1)) (pc' := 3) jI_207_2 rfl rfl rfl ?_
  refine jT_xbipush (k := 6) (pc' := 5) jI_207_3 (by decide) rfl ?_
  refine jT_xicF (t := 25) (pc' := 8) jI_207_5 rfl (by decide +kernel) rfl rfl ?_
  refine jT_xaload_n (v := (4, 0)) (pc' := 9) jI_207_8 rfl rfl rfl ?_
  refine jT_xgetf (a := 0) (t := 1) (ci := 14) (fi := 9) (c := jzA_22) (v := (4, 7)) (pc' := 12) jI_207_9 rfl rfl rfl rfl rfl rfl rfl ?_
  refine jT_xiload_n (v := (0, 1)) (pc' := 13) jI_207_12 rfl rfl rfl ?_
  refine jT_adv 1 (pc' := 14) (L' := [(3, (0, 1)), (0, (4, 0)), (1, (0, x2)), (2, (0, x3))]) (st' := [(0, 1), (4, 7), (0, 1), (4, 7)]) (hs' := jpA_403) (c1 := 0) (s1 := 0) (c2 := 0) (s2 := 0) (by exact rfl) ?_ (by omega) (by omega)
  refine jT_lald (x := 0) (a := 7) (j := 1) (fs := []) (X := [0, 0, 0, 0, 0, 0]) jI_207_14 rfl rfl rfl rfl ?_
  refine jT_eq (L' := [(3, (0, 1)), (0, (4, 0)), (1, (0, x2)), (2, (0, x3))]) (st' := [(1, 0), (0, 1), (4, 7)]) (hs' := jpA_403) rfl rfl rfl ?_
  refine jT_xiload_n (v := (0, x2)) (pc' := 16) jI_207_15 rfl rfl rfl ?_
  refine jT_xi2l (x := x2) (z := x2) (pc' := 17) jI_207_16 rfl (jw_idd (by omega) (by omega)) rfl ?_
  refine jT_xlmul (x := 0) (y := x2) (z := 0) (pc' := 18) jI_207_17 rfl (by omega) rfl ?_
  refine jT_adv 1 (pc' := 19) (L' := [(3, (0, 1)), (0, (4, 0)), (1, (0, x2)), (2, (0, x3))]) (st' := []) (hs' := jpA_403) (c1 := 0) (s1 := 0) (c2 := 0) (s2 := 0) (by exact rfl) ?_ (by omega) (by omega)
  refine jT_xiinc (x := 1) (z := 2) (L' := [(3, (0, 2)), (0, (4, 0)), (1, (0, x2)), (2, (0, x3))]) (pc' := 22) jI_207_19 rfl rfl (by decide) rfl rfl ?_
  refine jT_xgoto (pc' := 2) jI_207_22 rfl ?_
  refine jT_xiload_n (v := (0, 2)) (pc' := 3) jI_207_2 rfl rfl rfl ?_
  refine jT_xbipush (k := 6) (pc' := 5) jI_207_3 (by decide) rfl ?_
  refine jT_xicF (t := 25) (pc' := 8) jI_207_5 rfl (by decide +kernel) rfl rfl ?_
  refine jT_xaload_n (v := (4, 0)) (pc' := 9) jI_207_8 rfl rfl rfl ?_
  refine jT_xgetf (a := 0) (t := 1) (ci := 14) (fi := 9) (c := jzA_22) (v := (4, 7)) (pc' := 12) jI_207_9 rfl rfl rfl rfl rfl rfl rfl ?_
  refine jT_xiload_n (v := (0, 2)) (pc' := 13) jI_207_12 rfl rfl rfl ?_
  refine jT_adv 1 (pc' := 14) (L' := [(3, (0, 2)), (0, (4, 0)), (1, (0, x2)), (2, (0, x3))]) (st' := [(0, 2), (4, 7), (0, 2), (4, 7)]) (hs' := jpA_403) (c1 := 0) (s1 := 0) (c2 := 0) (s2 := 0) (by exact rfl) ?_ (by omega) (by omega)
  refine jT_lald (x := 0) (a := 7) (j := 2) (fs := []) (X := [0, 0, 0, 0, 0, 0]) jI_207_14 rfl rfl rfl rfl ?_
  refine jT_eq (L' := [(3, (0, 2)), (0, (4, 0)), (1, (0, x2)), (2, (0, x3))]) (st' := [(1, 0), (0, 2), (4, 7)]) (hs' := jpA_403) rfl rfl rfl ?_
  refine jT_xiload_n (v := (0, x2)) (pc' := 16) jI_207_15 rfl rfl rfl ?_
  refine jT_xi2l (x := x2) (z := x2) (pc' := 17) jI_207_16 rfl (jw_idd (by omega) (by omega)) rfl ?_
  refine jT_xlmul (x := 0) (y := x2) (z := 0) (pc' := 18) jI_207_17 rfl (by omega) rfl ?_
  refine jT_adv 1 (pc' := 19) (L' := [(3, (0, 2)), (0, (4, 0)), (1, (0, x2)), (2, (0, x3))]) (st' := []) (hs' := jpA_403) (c1 := 0) (s1 := 0) (c2 := 0) (s2 := 0) (by exact rfl) ?_ (by omega) (by omega)
  refine jT_xiinc (x := 2) (z := 3) (L' := [(3, (0, 3)), (0, (4, 0)), (1, (0, x2)), (2, (0, x3))]) (pc' := 22) jI_207_19 rfl rfl (by decide) rfl rfl ?_
  refine jT_xgoto (pc' := 2) jI_207_22 rfl ?_
  refine jT_xiload_n (v := (0, 3)) (pc' := 3) jI_207_2 rfl rfl rfl ?_
  refine jT_xbipush (k := 6) (pc' := 5) jI_207_3 (by decide) rfl ?_
  refine jT_xicF (t := 25) (pc' := 8) jI_207_5 rfl (by decide +kernel) rfl rfl ?_
  refine jT_xaload_n (v := (4, 0)) (pc' := 9) jI_207_8 rfl rfl rfl ?_
  refine jT_xgetf (a := 0) (t := 1) (ci := 14) (fi := 9) (c := jzA_22) (v := (4, 7)) (pc' := 12) jI_207_9 rfl rfl rfl rfl rfl rfl rfl ?_
  refine jT_xiload_n (v := (0, 3)) (pc' := 13) jI_207_12 rfl rfl rfl ?_
  refine jT_adv 1 (pc' := 14) (L' := [(3, (0, 3)), (0, (4, 0)), (1, (0, x2)), (2, (0, x3))]) (st' := [(0, 3), (4, 7), (0, 3), (4, 7)]) (hs' := jpA_403) (c1 := 0) (s1 := 0) (c2 := 0) (s2 := 0) (by exact rfl) ?_ (by omega) (by omega)
  refine jT_lald (x := 0) (a := 7) (j := 3) (fs := []) (X := [0, 0, 0, 0, 0, 0]) jI_207_14 rfl rfl rfl rfl ?_
  refine jT_eq (L' := [(3, (0, 3)), (0, (4, 0)), (1, (0, x2)), (2, (0, x3))]) (st' := [(1, 0), (0, 3), (4, 7)]) (hs' := jpA_403) rfl rfl rfl ?_
  refine jT_xiload_n (v := (0, x2)) (pc' := 16) jI_207_15 rfl rfl rfl ?_
  refine jT_xi2l (x := x2) (z := x2) (pc' := 17) jI_207_16 rfl (jw_idd (by omega) (by omega)) rfl ?_
  refine jT_xlmul (x := 0) (y := x2) (z := 0) (pc' := 18) jI_207_17 rfl (by omega) rfl ?_
  refine jT_adv 1 (pc' := 19) (L' := [(3, (0, 3)), (0, (4, 0)), (1, (0, x2)), (2, (0, x3))]) (st' := []) (hs' := jpA_403) (c1 := 0) (s1 := 0) (c2 := 0) (s2 := 0) (by exact rfl) ?_ (by omega) (by omega)
  refine jT_xiinc (x := 3) (z := 4) (L' := [(3, (0, 4)), (0, (4, 0)), (1, (0, x2)), (2, (0, x3))]) (pc' := 22) jI_207_19 rfl rfl (by decide) rfl rfl ?_
  refine jT_xgoto (pc' := 2) jI_207_22 rfl ?_
  refine jT_xiload_n (v := (0, 4)) (pc' := 3) jI_207_2 rfl rfl rfl ?_
  refine jT_xbipush (k := 6) (pc' := 5) jI_207_3 (by decide) rfl ?_
  refine jT_xicF (t := 25) (pc' := 8) jI_207_5 rfl (by decide +kernel) rfl rfl ?_
  refine jT_xaload_n (v := (4, 0)) (pc' := 9) jI_207_8 rfl rfl rfl ?_
  refine jT_xgetf (a := 0) (t := 1) (ci := 14) (fi := 9) (c := jzA_22) (v := (4, 7)) (pc' := 12) jI_207_9 rfl rfl rfl rfl rfl rfl rfl ?_
  refine jT_xiload_n (v := (0, 4)) (pc' := 13) jI_207_12 rfl rfl rfl ?_
  refine jT_adv 1 (pc' := 14) (L' := [(3, (0, 4)), (0, (4, 0)), (1, (0, x2)), (2, (0, x3))]) (st' := [(0, 4), (4, 7), (0, 4), (4, 7)]) (hs' := jpA_403) (c1 := 0) (s1 := 0) (c2 := 0) (s2 := 0) (by exact rfl) ?_ (by omega) (by omega)
  refine jT_lald (x := 0) (a := 7) (j := 4) (fs := []) (X := [0, 0, 0, 0, 0, 0]) jI_207_14 rfl rfl rfl rfl ?_
  refine jT_eq (L' := [(3, (0, 4)), (0, (4, 0)), (1, (0, x2)), (2, (0, x3))]) (st' := [(1, 0), (0, 4), (4, 7)]) (hs' := jpA_403) rfl rfl rfl ?_
  refine jT_xiload_n (v := (0, x2)) (pc' := 16) jI_207_15 rfl rfl rfl ?_
  refine jT_xi2l (x := x2) (z := x2) (pc' := 17) jI_207_16 rfl (jw_idd (by omega) (by omega)) rfl ?_
  refine jT_xlmul (x := 0) (y := x2) (z := 0) (pc' := 18) jI_207_17 rfl (by omega) rfl ?_
  refine jT_adv 1 (pc' := 19) (L' := [(3, (0, 4)), (0, (4, 0)), (1, (0, x2)), (2, (0, x3))]) (st' := []) (hs' := jpA_403) (c1 := 0) (s1 := 0) (c2 := 0) (s2 := 0) (by exact rfl) ?_ (by omega) (by omega)
  refine jT_xiinc (x := 4) (z := 5) (L' := [(3, (0, 5)), (0, (4, 0)), (1, (0, x2)), (2, (0, x3))]) (pc' := 22) jI_207_19 rfl rfl (by decide) rfl rfl ?_
  refine jT_xgoto (pc' := 2) jI_207_22 rfl ?_
  refine jT_xiload_n (v := (0, 5)) (pc' := 3) jI_207_2 rfl rfl rfl ?_
  refine jT_xbipush (k := 6) (pc' := 5) jI_207_3 (by decide) rfl ?_
  refine jT_xicF (t := 25) (pc' := 8) jI_207_5 rfl (by decide +kernel) rfl rfl ?_
  refine jT_xaload_n (v := (4, 0)) (pc' := 9) jI_207_8 rfl rfl rfl ?_
  refine jT_xgetf (a := 0) (t := 1) (ci := 14) (fi := 9) (c := jzA_22) (v := (4, 7)) (pc' := 12) jI_207_9 rfl rfl rfl rfl rfl rfl rfl ?_
  refine jT_xiload_n (v := (0, 5)) (pc' := 13) jI_207_12 rfl rfl rfl ?_
  refine jT_adv 1 (pc' := 14) (L' := [(3, (0, 5)), (0, (4, 0)), (1, (0, x2)), (2, (0, x3))]) (st' := [(0, 5), (4, 7), (0, 5), (4, 7)]) (hs' := jpA_403) (c1 := 0) (s1 := 0) (c2 := 0) (s2 := 0) (by exact rfl) ?_ (by omega) (by omega)
  refine jT_lald (x := 0) (a := 7) (j := 5) (fs := []) (X := [0, 0, 0, 0, 0, 0]) jI_207_14 rfl rfl rfl rfl ?_
  refine jT_eq (L' := [(3, (0, 5)), (0, (4, 0)), (1, (0, x2)), (2, (0, x3))]) (st' := [(1, 0), (0, 5), (4, 7)]) (hs' := jpA_403) rfl rfl rfl ?_
  refine jT_xiload_n (v := (0, x2)) (pc' := 16) jI_207_15 rfl rfl rfl ?_
  refine jT_xi2l (x := x2) (z := x2) (pc' := 17) jI_207_16 rfl (jw_idd (by omega) (by omega)) rfl ?_
  refine jT_xlmul (x := 0) (y := x2) (z := 0) (pc' := 18) jI_207_17 rfl (by omega) rfl ?_
  refine jT_adv 1 (pc' := 19) (L' := [(3, (0, 5)), (0, (4, 0)), (1, (0, x2)), (2, (0, x3))]) (st' := []) (hs' := jpA_403) (c1 := 0) (s1 := 0) (c2 := 0) (s2 := 0) (by exact rfl) ?_ (by omega) (by omega)
  refine jT_xiinc (x := 5) (z := 6) (L' := [(3, (0, 6)), (0, (4, 0)), (1, (0, x2)), (2, (0, x3))]) (pc' := 22) jI_207_19 rfl rfl (by decide) rfl rfl ?_
  refine jT_xgoto (pc' := 2) jI_207_22 rfl ?_
  refine jT_xiload_n (v := (0, 6)) (pc' := 3) jI_207_2 rfl rfl rfl ?_
  refine jT_xbipush (k := 6) (pc' := 5) jI_207_3 (by decide) rfl ?_
  refine jT_xicT (pc' := 25) jI_207_5 rfl (by decide +kernel) rfl ?_
  refine jT_xaload_n (v := (4, 0)) (pc' := 26) jI_207_25 rfl rfl rfl ?_
  refine jT_adv 1 (pc' := 27) (L' := [(3, (0, 6)), (0, (4, 0)), (1, (0, x2)), (2, (0, x3))]) (st' := [(4, 0), (4, 0)]) (hs' := jpA_403) (c1 := 0) (s1 := 0) (c2 := 0) (s2 := 0) (by exact rfl) ?_ (by omega) (by omega)
  refine jT_xgetf (a := 0) (t := 1) (ci := 14) (fi := 10) (c := jzA_22) (v := (1, 1)) (pc' := 30) jI_207_27 rfl rfl rfl rfl rfl rfl rfl ?_
  refine jT_xiload_n (v := (0, x3)) (pc' := 31) jI_207_30 rfl rfl rfl ?_
  refine jT_xi2l (x := x3) (z := x3) (pc' := 32) jI_207_31 rfl (jw_idd (by omega) (by omega)) rfl ?_
  refine jT_xlmul (x := 1) (y := x3) (z := x3) (pc' := 33) jI_207_32 rfl (by omega) rfl ?_
  refine jT_adv 1 (pc' := 36) (L' := [(3, (0, 6)), (0, (4, 0)), (1, (0, x2)), (2, (0, x3))]) (st' := []) (hs' := [(14, [(0, 0), (4, 1), (4, 2), (4, 3), (4, 4), (0, 0), (4, 5), (0, 0), (4, 6), (4, 7), (1, x3), (4, 8), (0, 0), (4, 9), (0, 0), (0, 0), (0, 0), (0, 0), (0, 0), (0, 0), (0, 0), (4, 10), (4, 11), (4, 12), (4, 13), (4, 14), (4, 15), (0, 0)], []), jgh, jgh, jgh, jgh, jgh, jgh, (101, [], [0, 0, 0, 0, 0, 0]), jgh, jgh, jgh, jgh, jgh, jgh, jgh, jgh]) (c1 := 0) (s1 := 0) (c2 := 0) (s2 := 0) (by exact rfl) ?_ (by omega) (by omega)
  refine jT_xaload_n (v := (4, 0)) (pc' := 37) jI_207_36 rfl rfl rfl ?_
  refine jT_callB [0, 1, 2, 3, 4, 5, 6, 7, 8, 9, 10, 11, 12, 13, 14, 15] (y := 199) (pc' := 40) (dC := 1) (bc1 := 0) (bc2 := 0) (c1 := 0) (c2 := 0) (as := [(4, 0)]) (asC := [(4, 0)]) (L' := [(3, (0, 6)), (0, (4, 0)), (1, (0, x2)), (2, (0, x3))]) (st' := []) (hsC := [(14, [(0, 0), (4, 1), (4, 2), (4, 3), (4, 4), (0, 0), (4, 5), (0, 0), (4, 6), (4, 7), (1, x3), (4, 8), (0, 0), (4, 9), (0, 0), (0, 0), (0, 0), (0, 0), (0, 0), (0, 0), (0, 0), (4, 10), (4, 11), (4, 12), (4, 13), (4, 14), (4, 15), (0, 0)], []), jgh, jgh, jgh, jgh, jgh, jgh, (101, [], [0, 0, 0, 0, 0, 0]), jgh, jgh, jgh, jgh, jgh, jgh, jgh, jgh]) (hsD := jpA_403) (v := (9, 0)) (st2 := []) (hs2 := jpA_403) (jA_199_112 (d := 0) (by omega)) (by rfl) (by rfl) (by rfl) (by rfl) ⟨rfl, rfl, rfl, rfl, rfl, rfl, rfl, rfl, rfl, rfl, rfl, rfl, rfl, rfl, rfl, rfl, trivial⟩ (by rfl) (by rfl) (by omega) (by show 16 ≤ 16; omega) (by omega) (by omega) rfl rfl ?_
  exact jT_ret rfl (by decide) (by show 16 ≤ 16; decide) (by omega) (by omega) ⟨rfl, rfl, rfl⟩
theorem jA_206_114 {xs : List Int} {d : Nat} {x1 x2 x3 : Int} (h_x1 : 0 ≤ x1 ∧ x1 ≤ 7) (h_x2 : (-100) ≤ x2 ∧ x2 ≤ 100) (h_x3 : 2 ≤ x3 ∧ x3 ≤ 24) : jT xs (d + 3) 206 24 0 [(0, (4, 0)), (1, (0, x1)), (2, (0, x2)), (3, (0, x3))] [] jpA_424 0 0 (fun k v hs' => k = 0 ∧ v = (0, 1) ∧ hs' = [jzA_127, (100, [], ((((((((((((((jS0).set ((7 * x1).toNat) 0)).set ((7 * x1 + 1).toNat) 0)).set ((7 * x1 + 2).toNat) 0)).set ((7 * x1 + 3).toNat) 0)).set ((7 * x1 + 4).toNat) 0)).set ((7 * x1 + 5).toNat) 0)).set ((7 * x1 + 6).toNat) 1)), (100, [], []), jzA_123, jzA_128, jgh, jgh, (101, [], [0, 0, 0, 0, 0, 0]), jgh, jgh, jgh, jgh, jgh, jgh, jgh, jgh, (100, [], jS0), jgh, jgh, jgh, jgh, jgh, jgh, jgh]) := by
  refine jT_xaload_n (v := (4, 0)) (pc' := 1) jI_206_0 rfl rfl rfl ?_
  refine jT_xiload_n (v := (0, x1)) (pc' := 2) jI_206_1 rfl rfl rfl ?_
  refine jT_fR [] 24 (y := 188) (pc' := 5) (dC := 1) (bc1 := 0) (bc2 := 0) (c1 := 0) (c2 := 0) (as := [(0, x1)]) (asC := [(0, x1)]) (L' := [(0, (4, 0)), (1, (0, x1)), (2, (0, x2)), (3, (0, x3))]) (st' := [(4, 0)]) (hsC := []) (v := (0, 1)) (st2 := [(0, 1), (4, 0)]) (jA_188_73 (d := 0) (by omega)) (by rfl) (by rfl) (by decide +kernel) (by rfl) (by rfl) (by omega) (by omega) (by omega) (by omega) rfl ?_
  refine jT_fR [0, 1, 2, 3, 4, 5, 6, 7, 8, 9, 10, 11, 12, 13, 14, 15] 24 (y := 190) (pc' := 8) (dC := 1) (bc1 := 0) (bc2 := 0) (c1 := 0) (c2 := 0) (as := [(4, 0), (0, 1)]) (asC := [(4, 0), (0, 1)]) (L' := [(0, (4, 0)), (1, (0, x1)), (2, (0, x2)), (3, (0, x3))]) (st' := []) (hsC := jpA_23) (v := (0, 0)) (st2 := [(0, 0)]) (jA_190_74 (d := 0)) (by rfl) (by rfl) (by decide +kernel) (by rfl) (by rfl) (by omega) (by omega) (by omega) (by omega) rfl ?_
  refine jT_xifF (t := 50) (pc' := 11) jI_206_8 rfl (by decide +kernel) rfl rfl ?_
  refine jT_xaload_n (v := (4, 0)) (pc' := 12) jI_206_11 rfl rfl rfl ?_
  refine jT_xiload_n (v := (0, x2)) (pc' := 13) jI_206_12 rfl rfl rfl ?_
  refine jT_xi2l (x := x2) (z := x2) (pc' := 14) jI_206_13 rfl (jw_idd (by omega) (by omega)) rfl ?_
  refine jT_adv 2 (pc' := 20) (L' := [(0, (4, 0)), (1, (0, x1)), (2, (0, x2)), (3, (0, x3))]) (st' := [(1, 100), (1, (-100)), (1, x2), (4, 0)]) (hs' := jpA_424) (c1 := 0) (s1 := 0) (c2 := 0) (s2 := 0) (by exact rfl) ?_ (by omega) (by omega)
  refine jT_fR [] 24 (y := 189) (pc' := 23) (dC := 0) (bc1 := 0) (bc2 := 0) (c1 := 0) (c2 := 0) (as := [(1, x2), (1, (-100)), (1, 100)]) (asC := [(1, x2), (1, (-100)), (1, 100)]) (L' := [(0, (4, 0)), (1, (0, x1)), (2, (0, x2)), (3, (0, x3))]) (st' := [(4, 0)]) (hsC := []) (v := (0, 1)) (st2 := [(0, 1), (4, 0)]) (jT_in_ok (d := 0) (v := x2) (lo := (-100)) (hi := 100) (by omega) (by omega) (by omega) (by omega) (by omega)) (by rfl) (by rfl) (by decide +kernel) (by rfl) (by rfl) (by omega) (by omega) (by omega) (by omega) rfl ?_
  refine jT_xifF (t := 42) (pc' := 26) jI_206_23 rfl (by decide +kernel) rfl rfl ?_
  refine jT_xiload_n (v := (0, x3)) (pc' := 27) jI_206_26 rfl rfl rfl ?_
  refine jT_xi2l (x := x3) (z := x3) (pc' := 28) jI_206_27 rfl (jw_idd (by omega) (by omega)) rfl ?_
  refine jT_xlconst (z := 1) (pc' := 29) jI_206_28 rfl rfl ?_
  refine jT_adv 1 (pc' := 32) (L' := [(0, (4, 0)), (1, (0, x1)), (2, (0, x2)), (3, (0, x3))]) (st' := [(1, 24), (1, 1), (1, x3), (4, 0)]) (hs' := jpA_424) (c1 := 0) (s1 := 0) (c2 := 0) (s2 := 0) (by exact rfl) ?_ (by omega) (by omega)
  refine jT_fR [] 24 (y := 189) (pc' := 35) (dC := 0) (bc1 := 0) (bc2 := 0) (c1 := 0) (c2 := 0) (as := [(1, x3), (1, 1), (1, 24)]) (asC := [(1, x3), (1, 1), (1, 24)]) (L' := [(0, (4, 0)), (1, (0, x1)), (2, (0, x2)), (3, (0, x3))]) (st' := [(4, 0)]) (hsC := []) (v := (0, 1)) (st2 := [(0, 1), (4, 0)]) (jT_in_ok (d := 0) (v := x3) (lo := 1) (hi := 24) (by omega) (by omega) (by omega) (by omega) (by omega)) (by rfl) (by rfl) (by decide +kernel) (by rfl) (by rfl) (by omega) (by omega) (by omega) (by omega) rfl ?_
  refine jT_xifF (t := 42) (pc' := 38) jI_206_35 rfl (by decide +kernel) rfl rfl ?_
  refine jT_xiconst (k := 1) (pc' := 39) jI_206_38 rfl ?_
  refine jT_xgoto (pc' := 43) jI_206_39 rfl ?_
  refine jT_xiconst (k := 2) (pc' := 44) jI_206_43 rfl ?_
  refine jT_fR [0] 24 (y := 191) (pc' := 47) (dC := 0) (bc1 := 0) (bc2 := 0) (c1 := 0) (c2 := 0) (as := [(4, 0), (0, 1), (0, 2)]) (asC := [(4, 0), (0, 1), (0, 2)]) (L' := [(0, (4, 0)), (1, (0, x1)), (2, (0, x2)), (3, (0, x3))]) (st' := []) (hsC := [jgh]) (v := (0, 0)) (st2 := [(0, 0)]) (jA_191_35 (d := 0)) (by rfl) (by rfl) (by decide +kernel) (by rfl) (by rfl) (by omega) (by omega) (by omega) (by omega) rfl ?_
  refine jT_xifT (pc' := 52) jI_206_47 rfl (by decide +kernel) rfl ?_
  refine jT_xaload_n (v := (4, 0)) (pc' := 53) jI_206_52 rfl rfl rfl ?_
  refine jT_xiload_n (v := (0, x1)) (pc' := 54) jI_206_53 rfl rfl rfl ?_
  refine jT_fR [0, 1, 2, 3, 4, 5, 6, 7, 8, 9, 10, 11, 12, 13, 14, 15] 24 (y := 202) (pc' := 57) (dC := 1) (bc1 := 0) (bc2 := 0) (c1 := 0) (c2 := 0) (as := [(4, 0), (0, x1)]) (asC := [(4, 0), (0, x1)]) (L' := [(0, (4, 0)), (1, (0, x1)), (2, (0, x2)), (3, (0, x3))]) (st' := []) (hsC := jpA_386) (v := (9, 0)) (st2 := []) (jA_202_93 (d := 0) (by omega)) (by rfl) (by rfl) (by decide +kernel) (by rfl) (by rfl) (by omega) (by omega) (by omega) (by omega) rfl ?_
  refine jT_xaload_n (v := (4, 0)) (pc' := 58) jI_206_57 rfl rfl rfl ?_
  refine jT_xiload_n (v := (0, x2)) (pc' := 59) jI_206_58 rfl rfl rfl ?_
  refine jT_xiload_n (v := (0, x3)) (pc' := 60) jI_206_59 rfl rfl rfl ?_
  refine jT_fR [0, 1, 2, 3, 4, 5, 6, 7, 8, 9, 10, 11, 12, 13, 14, 15] 24 (y := 207) (pc' := 63) (dC := 2) (bc1 := 0) (bc2 := 0) (c1 := 0) (c2 := 0) (as := [(4, 0), (0, x2), (0, x3)]) (asC := [(4, 0), (0, x2), (0, x3)]) (L' := [(0, (4, 0)), (1, (0, x1)), (2, (0, x2)), (3, (0, x3))]) (st' := []) (hsC := jpA_403) (v := (9, 0)) (st2 := []) (jA_207_113 (d := 0) (by omega) (by omega)) (by rfl) (by rfl) (by decide +kernel) (by rfl) (by rfl) (by omega) (by omega) (by omega) (by omega) rfl ?_
  refine jT_xaload_n (v := (4, 0)) (pc' := 64) jI_206_63 rfl rfl rfl ?_
  refine jT_xaload_n (v := (4, 0)) (pc' := 65) jI_206_64 rfl rfl rfl ?_
  refine jT_fR [0, 1, 2, 3, 4, 5, 6, 7, 8, 9, 10, 11, 12, 13, 14, 15] 24 (y := 205) (pc' := 68) (dC := 1) (bc1 := 0) (bc2 := 0) (c1 := 0) (c2 := 0) (as := [(4, 0)]) (asC := [(4, 0)]) (L' := [(0, (4, 0)), (1, (0, x1)), (2, (0, x2)), (3, (0, x3))]) (st' := [(4, 0)]) (hsC := jpA_403) (v := (0, 1)) (st2 := [(0, 1), (4, 0)]) (jA_205_99 (d := 0)) (by rfl) (by rfl) (by decide +kernel) (by rfl) (by rfl) (by omega) (by omega) (by omega) (by omega) rfl ?_
  refine jT_xiconst (k := 3) (pc' := 69) jI_206_68 rfl ?_
  refine jT_fR [0] 24 (y := 191) (pc' := 72) (dC := 0) (bc1 := 0) (bc2 := 0) (c1 := 0) (c2 := 0) (as := [(4, 0), (0, 1), (0, 3)]) (asC := [(4, 0), (0, 1), (0, 3)]) (L' := [(0, (4, 0)), (1, (0, x1)), (2, (0, x2)), (3, (0, x3))]) (st' := []) (hsC := [jgh]) (v := (0, 0)) (st2 := [(0, 0)]) (jA_191_100 (d := 0)) (by rfl) (by rfl) (by decide +kernel) (by rfl) (by rfl) (by omega) (by omega) (by omega) (by omega) rfl ?_
  refine jT_xifT (pc' := 77) jI_206_72 rfl (by decide +kernel) rfl ?_
  refine jT_xaload_n (v := (4, 0)) (pc' := 78) jI_206_77 rfl rfl rfl ?_
  refine jT_fB [0, 1, 2, 3, 4, 5, 6, 7, 8, 9, 10, 11, 12, 13, 14, 15, 16, 17, 18, 19, 20, 21, 22, 23] 24 (y := 195) (pc' := 81) (dC := 0) (bc1 := 0) (bc2 := 0) (c1 := 0) (c2 := 0) (as := [(4, 0)]) (asC := [(4, 0)]) (L' := [(0, (4, 0)), (1, (0, x1)), (2, (0, x2)), (3, (0, x3))]) (st' := []) (hsC := jpA_125) (hsD := jpA_129) (v := (9, 0)) (st2 := []) (hs2 := jpA_437) (jA_195_36 (d := 0)) (by rfl) (by rfl) (by decide +kernel) (by rfl) (by rfl) (by omega) (by omega) (by omega) (by omega) rfl (by decide +kernel) ?_
  refine jT_xaload_n (v := (4, 0)) (pc' := 82) jI_206_81 rfl rfl rfl ?_
  refine jT_xiload_n (v := (0, x1)) (pc' := 83) jI_206_82 rfl rfl rfl ?_
  refine jT_fB [0, 1, 2, 3, 4, 5, 6, 7, 8, 9, 10, 11, 12, 13, 14, 15] 24 (y := 196) (pc' := 86) (dC := 1) (bc1 := 0) (bc2 := 0) (c1 := 0) (c2 := 0) (as := [(4, 0), (0, x1)]) (asC := [(4, 0), (0, x1)]) (L' := [(0, (4, 0)), (1, (0, x1)), (2, (0, x2)), (3, (0, x3))]) (st' := []) (hsC := jpA_144) (hsD := [jzA_127, (100, [], ((((((((((((((jS0).set ((7 * x1).toNat) 0)).set ((7 * x1 + 1).toNat) 0)).set ((7 * x1 + 2).toNat) 0)).set ((7 * x1 + 3).toNat) 0)).set ((7 * x1 + 4).toNat) 0)).set ((7 * x1 + 5).toNat) 0)).set ((7 * x1 + 6).toNat) 1)), jgh, jgh, jgh, jgh, jgh, (101, [], [0, 0, 0, 0, 0, 0]), jgh, jgh, jgh, jgh, jgh, jgh, jgh, jgh]) (v := (0, 1)) (st2 := [(0, 1)]) (hs2 := [jzA_127, (100, [], ((((((((((((((jS0).set ((7 * x1).toNat) 0)).set ((7 * x1 + 1).toNat) 0)).set ((7 * x1 + 2).toNat) 0)).set ((7 * x1 + 3).toNat) 0)).set ((7 * x1 + 4).toNat) 0)).set ((7 * x1 + 5).toNat) 0)).set ((7 * x1 + 6).toNat) 1)), (100, [], []), jzA_123, jzA_128, jgh, jgh, (101, [], [0, 0, 0, 0, 0, 0]), jgh, jgh, jgh, jgh, jgh, jgh, jgh, jgh, (100, [], jS0), jgh, jgh, jgh, jgh, jgh, jgh, jgh]) (jA_196_102 (d := 0) (by omega)) (by rfl) (by rfl) (by decide +kernel) (by rfl) (by rfl) (by omega) (by omega) (by omega) (by omega) rfl rfl ?_
  exact jT_ret rfl (by decide) (by show 24 ≤ 24; decide) (by omega) (by omega) ⟨rfl, rfl, rfl⟩
theorem jA_116_115 {xs : List Int} {d : Nat} {x3 : Int} (h_x3 : 25 ≤ x3 ∧ x3 ≤ 2147483647) : jT xs d 116 1 0 [(0, (4, 0)), (1, (0, x3)), (2, (0, 1)), (3, (0, 24))] [] [jgh] 1 6 (fun k v hs' => k = 1 ∧ v = (0, 1) ∧ hs' = [jgh] ++ []) := by
  refine jT_xiload_n (v := (0, x3)) (pc' := 1) jI_116_0 rfl rfl rfl ?_
  refine jT_xiload_n (v := (0, 1)) (pc' := 2) jI_116_1 rfl rfl rfl ?_
  refine jT_icF (a := x3) (b := 1) (t := 10) (by rfl) (by rfl) (by rfl) (jw_idd (by omega) (by omega)) (jw_idd (by omega) (by omega)) (by simp only [jcP] <;> omega) ?_
  refine jT_xiload_n (v := (0, x3)) (pc' := 6) jI_116_5 rfl rfl rfl ?_
  refine jT_xiload_n (v := (0, 24)) (pc' := 7) jI_116_6 rfl rfl rfl ?_
  refine jT_icF (a := x3) (b := 24) (t := 21) (by rfl) (by rfl) (by rfl) (jw_idd (by omega) (by omega)) (jw_idd (by omega) (by omega)) (by simp only [jcP] <;> omega) ?_
  exact jT_ret (c1 := 1) (s1 := 6) rfl (by decide) (by show 1 ≤ 1; decide) (by omega) (by omega) ⟨rfl, rfl, rfl⟩
theorem jA_120_116 {xs : List Int} {d : Nat} {x1 x2 x3 : Int} (h_x1 : 0 ≤ x1 ∧ x1 ≤ 7) (h_x2 : (-100) ≤ x2 ∧ x2 ≤ 100) (h_x3 : 25 ≤ x3 ∧ x3 ≤ 2147483647) : jT xs (d + 1) 120 12 0 [(0, (4, 0)), (1, (0, x1)), (2, (0, x2)), (3, (0, x3))] [] jpA_268 1 6 (fun k v hs' => k = 1 ∧ v = (0, 1) ∧ hs' = jpA_268 ++ []) := by
  refine jT_xaload_n (v := (4, 0)) (pc' := 1) jI_120_0 rfl rfl rfl ?_
  refine jT_xiload_n (v := (0, x1)) (pc' := 2) jI_120_1 rfl rfl rfl ?_
  refine jT_xbipush (k := 8) (pc' := 4) jI_120_2 (by decide) rfl ?_
  refine jT_fR [0] 12 (y := 115) (pc' := 7) (dC := 0) (bc1 := 0) (bc2 := 0) (c1 := 1) (c2 := 6) (as := [(4, 0), (0, x1), (0, 8)]) (asC := [(4, 0), (0, x1), (0, 8)]) (L' := [(0, (4, 0)), (1, (0, x1)), (2, (0, x2)), (3, (0, x3))]) (st' := []) (hsC := [jgh]) (v := (9, 0)) (st2 := []) (jA_115_69 (d := 0) (by omega)) (by rfl) (by rfl) (by decide +kernel) (by rfl) (by rfl) (by omega) (by omega) (by omega) (by omega) rfl ?_
  refine jT_xaload_n (v := (4, 0)) (pc' := 8) jI_120_7 rfl rfl rfl ?_
  refine jT_xiload_n (v := (0, x2)) (pc' := 9) jI_120_8 rfl rfl rfl ?_
  refine jT_xbipush (k := (-100)) (pc' := 11) jI_120_9 (by decide) rfl ?_
  refine jT_xbipush (k := 100) (pc' := 13) jI_120_11 (by decide) rfl ?_
  refine jT_fR [0] 12 (y := 116) (pc' := 16) (dC := 0) (bc1 := 0) (bc2 := 0) (c1 := 1) (c2 := 6) (as := [(4, 0), (0, x2), (0, (-100)), (0, 100)]) (asC := [(4, 0), (0, x2), (0, (-100)), (0, 100)]) (L' := [(0, (4, 0)), (1, (0, x1)), (2, (0, x2)), (3, (0, x3))]) (st' := []) (hsC := [jgh]) (v := (9, 0)) (st2 := []) (jA_116_76 (d := 0) (by omega)) (by rfl) (by rfl) (by decide +kernel) (by rfl) (by rfl) (by omega) (by omega) (by omega) (by omega) rfl ?_
  refine jT_xaload_n (v := (4, 0)) (pc' := 17) jI_120_16 rfl rfl rfl ?_
  refine jT_xiload_n (v := (0, x3)) (pc' := 18) jI_120_17 rfl rfl rfl ?_
  refine jT_xiconst (k := 1) (pc' := 19) jI_120_18 rfl ?_
  refine jT_xbipush (k := 24) (pc' := 21) jI_120_19 (by decide) rfl ?_
  exact jT_fX [0] 12 (y := 116) (pc' := 24) (dC := 0) (bc1 := 1) (bc2 := 6) (as := [(4, 0), (0, x3), (0, 1), (0, 24)]) (asC := [(4, 0), (0, x3), (0, 1), (0, 24)]) (L' := [(0, (4, 0)), (1, (0, x1)), (2, (0, x2)), (3, (0, x3))]) (st' := []) (hsC := [jgh]) (e := 1) (jA_116_115 (d := 0) (by omega)) (by rfl) (by rfl) (by decide +kernel) (by rfl) (by rfl) (by omega) (by omega) (by omega) (by omega) ⟨rfl, ⟨rfl, rfl, rfl⟩⟩
theorem jA_329_117 {xs : List Int} {d : Nat} {x1 x2 x3 : Int} (h_x1 : 0 ≤ x1 ∧ x1 ≤ 7) (h_x2 : (-100) ≤ x2 ∧ x2 ≤ 100) (h_x3 : 25 ≤ x3 ∧ x3 ≤ 2147483647) : jT xs (d + 2) 329 13 0 [(0, (4, 0)), (1, (0, x1)), (2, (0, x2)), (3, (0, x3)), (4, (4, 1))] [] jpA_275 1 6 (fun k v hs' => k = 0 ∧ v = (0, 2) ∧ hs' = jpA_275 ++ []) := by
  refine jT_xaload (v := (4, 1)) (pc' := 2) jI_329_0 rfl rfl rfl ?_
  refine jT_xiconst (k := 0) (pc' := 3) jI_329_2 rfl ?_
  refine jT_xaload_n (v := (4, 0)) (pc' := 4) jI_329_3 rfl rfl rfl ?_
  refine jT_xiload_n (v := (0, x1)) (pc' := 5) jI_329_4 rfl rfl rfl ?_
  refine jT_xiload_n (v := (0, x2)) (pc' := 6) jI_329_5 rfl rfl rfl ?_
  refine jT_xiload_n (v := (0, x3)) (pc' := 7) jI_329_6 rfl rfl rfl ?_
  exact jT_fX [0, 2, 3, 4, 5, 6, 7, 8, 9, 10, 11, 12] 13 (y := 120) (pc' := 10) (dC := 1) (bc1 := 1) (bc2 := 6) (as := [(4, 0), (0, x1), (0, x2), (0, x3)]) (asC := [(4, 0), (0, x1), (0, x2), (0, x3)]) (L' := [(0, (4, 0)), (1, (0, x1)), (2, (0, x2)), (3, (0, x3)), (4, (4, 1))]) (st' := [(0, 0), (4, 1)]) (hsC := jpA_268) (e := 1) (jA_120_116 (d := 0) (by omega) (by omega) (by omega)) (by rfl) (by rfl) (by decide +kernel) (by rfl) (by rfl) (by omega) (by omega) (by omega) (by omega) (show _ from ⟨rfl, rfl, rfl⟩)
theorem jA_206_118 {xs : List Int} {d : Nat} {x1 x2 x3 : Int} (h_x1 : 0 ≤ x1 ∧ x1 ≤ 7) (h_x2 : (-100) ≤ x2 ∧ x2 ≤ 100) (h_x3 : 25 ≤ x3 ∧ x3 ≤ 2147483647) : jT xs (d + 2) 206 16 0 [(0, (4, 0)), (1, (0, x1)), (2, (0, x2)), (3, (0, x3))] [] jpA_23 0 0 (fun k v hs' => k = 0 ∧ v = (0, 0) ∧ hs' = jpA_49) := by
  refine jT_xaload_n (v := (4, 0)) (pc' := 1) jI_206_0 rfl rfl rfl ?_
  refine jT_xiload_n (v := (0, x1)) (pc' := 2) jI_206_1 rfl rfl rfl ?_
  refine jT_fR [] 16 (y := 188) (pc' := 5) (dC := 1) (bc1 := 0) (bc2 := 0) (c1 := 0) (c2 := 0) (as := [(0, x1)]) (asC := [(0, x1)]) (L' := [(0, (4, 0)), (1, (0, x1)), (2, (0, x2)), (3, (0, x3))]) (st' := [(4, 0)]) (hsC := []) (v := (0, 1)) (st2 := [(0, 1), (4, 0)]) (jA_188_73 (d := 0) (by omega)) (by rfl) (by rfl) (by decide +kernel) (by rfl) (by rfl) (by omega) (by omega) (by omega) (by omega) rfl ?_
  refine jT_fR [0, 1, 2, 3, 4, 5, 6, 7, 8, 9, 10, 11, 12, 13, 14, 15] 16 (y := 190) (pc' := 8) (dC := 1) (bc1 := 0) (bc2 := 0) (c1 := 0) (c2 := 0) (as := [(4, 0), (0, 1)]) (asC := [(4, 0), (0, 1)]) (L' := [(0, (4, 0)), (1, (0, x1)), (2, (0, x2)), (3, (0, x3))]) (st' := []) (hsC := jpA_23) (v := (0, 0)) (st2 := [(0, 0)]) (jA_190_74 (d := 0)) (by rfl) (by rfl) (by decide +kernel) (by rfl) (by rfl) (by omega) (by omega) (by omega) (by omega) rfl ?_
  refine jT_xifF (t := 50) (pc' := 11) jI_206_8 rfl (by decide +kernel) rfl rfl ?_
  refine jT_xaload_n (v := (4, 0)) (pc' := 12) jI_206_11 rfl rfl rfl ?_
  refine jT_xiload_n (v := (0, x2)) (pc' := 13) jI_206_12 rfl rfl rfl ?_
  refine jT_xi2l (x := x2) (z := x2) (pc' := 14) jI_206_13 rfl (jw_idd (by omega) (by omega)) rfl ?_
  refine jT_adv 2 (pc' := 20) (L' := [(0, (4, 0)), (1, (0, x1)), (2, (0, x2)), (3, (0, x3))]) (st' := [(1, 100), (1, (-100)), (1, x2), (4, 0)]) (hs' := jpA_23) (c1 := 0) (s1 := 0) (c2 := 0) (s2 := 0) (by exact rfl) ?_ (by omega) (by omega)
  refine jT_fR [] 16 (y := 189) (pc' := 23) (dC := 0) (bc1 := 0) (bc2 := 0) (c1 := 0) (c2 := 0) (as := [(1, x2), (1, (-100)), (1, 100)]) (asC := [(1, x2), (1, (-100)), (1, 100)]) (L' := [(0, (4, 0)), (1, (0, x1)), (2, (0, x2)), (3, (0, x3))]) (st' := [(4, 0)]) (hsC := []) (v := (0, 1)) (st2 := [(0, 1), (4, 0)]) (jT_in_ok (d := 0) (v := x2) (lo := (-100)) (hi := 100) (by omega) (by omega) (by omega) (by omega) (by omega)) (by rfl) (by rfl) (by decide +kernel) (by rfl) (by rfl) (by omega) (by omega) (by omega) (by omega) rfl ?_
  refine jT_xifF (t := 42) (pc' := 26) jI_206_23 rfl (by decide +kernel) rfl rfl ?_
  refine jT_xiload_n (v := (0, x3)) (pc' := 27) jI_206_26 rfl rfl rfl ?_
  refine jT_xi2l (x := x3) (z := x3) (pc' := 28) jI_206_27 rfl (jw_idd (by omega) (by omega)) rfl ?_
  refine jT_xlconst (z := 1) (pc' := 29) jI_206_28 rfl rfl ?_
  refine jT_adv 1 (pc' := 32) (L' := [(0, (4, 0)), (1, (0, x1)), (2, (0, x2)), (3, (0, x3))]) (st' := [(1, 24), (1, 1), (1, x3), (4, 0)]) (hs' := jpA_23) (c1 := 0) (s1 := 0) (c2 := 0) (s2 := 0) (by exact rfl) ?_ (by omega) (by omega)
  refine jT_fR [] 16 (y := 189) (pc' := 35) (dC := 0) (bc1 := 0) (bc2 := 0) (c1 := 0) (c2 := 0) (as := [(1, x3), (1, 1), (1, 24)]) (asC := [(1, x3), (1, 1), (1, 24)]) (L' := [(0, (4, 0)), (1, (0, x1)), (2, (0, x2)), (3, (0, x3))]) (st' := [(4, 0)]) (hsC := []) (v := (0, 0)) (st2 := [(0, 0), (4, 0)]) (jT_in_hi (d := 0) (v := x3) (lo := 1) (hi := 24) (by omega) (by omega) (by omega) (by omega) (by omega)) (by rfl) (by rfl) (by decide +kernel) (by rfl) (by rfl) (by omega) (by omega) (by omega) (by omega) rfl ?_
  refine jT_xifT (pc' := 42) jI_206_35 rfl (by decide +kernel) rfl ?_
  refine jT_xiconst (k := 0) (pc' := 43) jI_206_42 rfl ?_
  refine jT_xiconst (k := 2) (pc' := 44) jI_206_43 rfl ?_
  refine jT_fB [0, 1, 2, 3, 4, 5, 6, 7, 8, 9, 10, 11, 12, 13, 14, 15] 16 (y := 191) (pc' := 47) (dC := 0) (bc1 := 0) (bc2 := 0) (c1 := 0) (c2 := 0) (as := [(4, 0), (0, 0), (0, 2)]) (asC := [(4, 0), (0, 0), (0, 2)]) (L' := [(0, (4, 0)), (1, (0, x1)), (2, (0, x2)), (3, (0, x3))]) (st' := []) (hsC := jpA_23) (hsD := jpA_49) (v := (0, 1)) (st2 := [(0, 1)]) (hs2 := jpA_49) (jA_191_14 (d := 0)) (by rfl) (by rfl) (by decide +kernel) (by rfl) (by rfl) (by omega) (by omega) (by omega) (by omega) rfl (by decide +kernel) ?_
  refine jT_xifF (t := 52) (pc' := 50) jI_206_47 rfl (by decide +kernel) rfl rfl ?_
  refine jT_xiconst (k := 0) (pc' := 51) jI_206_50 rfl ?_
  exact jT_ret rfl (by decide) (by show 16 ≤ 16; decide) (by omega) (by omega) ⟨rfl, rfl, rfl⟩
theorem jA_116_119 {xs : List Int} {d : Nat} {x2 : Int} (h_x2 : 101 ≤ x2 ∧ x2 ≤ 2147483647) : jT xs d 116 1 0 [(0, (4, 0)), (1, (0, x2)), (2, (0, (-100))), (3, (0, 100))] [] [jgh] 1 6 (fun k v hs' => k = 1 ∧ v = (0, 1) ∧ hs' = [jgh] ++ []) := by
  refine jT_xiload_n (v := (0, x2)) (pc' := 1) jI_116_0 rfl rfl rfl ?_
  refine jT_xiload_n (v := (0, (-100))) (pc' := 2) jI_116_1 rfl rfl rfl ?_
  refine jT_icF (a := x2) (b := (-100)) (t := 10) (by rfl) (by rfl) (by rfl) (jw_idd (by omega) (by omega)) (jw_idd (by omega) (by omega)) (by simp only [jcP] <;> omega) ?_
  refine jT_xiload_n (v := (0, x2)) (pc' := 6) jI_116_5 rfl rfl rfl ?_
  refine jT_xiload_n (v := (0, 100)) (pc' := 7) jI_116_6 rfl rfl rfl ?_
  refine jT_icF (a := x2) (b := 100) (t := 21) (by rfl) (by rfl) (by rfl) (jw_idd (by omega) (by omega)) (jw_idd (by omega) (by omega)) (by simp only [jcP] <;> omega) ?_
  exact jT_ret (c1 := 1) (s1 := 6) rfl (by decide) (by show 1 ≤ 1; decide) (by omega) (by omega) ⟨rfl, rfl, rfl⟩
theorem jA_120_120 {xs : List Int} {d : Nat} {x1 x2 x3 : Int} (h_x1 : 0 ≤ x1 ∧ x1 ≤ 7) (h_x2 : 101 ≤ x2 ∧ x2 ≤ 2147483647) (h_x3 : (-2147483648) ≤ x3 ∧ x3 ≤ 2147483647) : jT xs (d + 1) 120 12 0 [(0, (4, 0)), (1, (0, x1)), (2, (0, x2)), (3, (0, x3))] [] jpA_268 1 6 (fun k v hs' => k = 1 ∧ v = (0, 1) ∧ hs' = jpA_268 ++ []) := by
  refine jT_xaload_n (v := (4, 0)) (pc' := 1) jI_120_0 rfl rfl rfl ?_
  refine jT_xiload_n (v := (0, x1)) (pc' := 2) jI_120_1 rfl rfl rfl ?_
  refine jT_xbipush (k := 8) (pc' := 4) jI_120_2 (by decide) rfl ?_
  refine jT_fR [0] 12 (y := 115) (pc' := 7) (dC := 0) (bc1 := 0) (bc2 := 0) (c1 := 1) (c2 := 6) (as := [(4, 0), (0, x1), (0, 8)]) (asC := [(4, 0), (0, x1), (0, 8)]) (L' := [(0, (4, 0)), (1, (0, x1)), (2, (0, x2)), (3, (0, x3))]) (st' := []) (hsC := [jgh]) (v := (9, 0)) (st2 := []) (jA_115_69 (d := 0) (by omega)) (by rfl) (by rfl) (by decide +kernel) (by rfl) (by rfl) (by omega) (by omega) (by omega) (by omega) rfl ?_
  refine jT_xaload_n (v := (4, 0)) (pc' := 8) jI_120_7 rfl rfl rfl ?_
  refine jT_xiload_n (v := (0, x2)) (pc' := 9) jI_120_8 rfl rfl rfl ?_
  refine jT_xbipush (k := (-100)) (pc' := 11) jI_120_9 (by decide) rfl ?_
  refine jT_xbipush (k := 100) (pc' := 13) jI_120_11 (by decide) rfl ?_
  exact jT_fX [0] 12 (y := 116) (pc' := 16) (dC := 0) (bc1 := 1) (bc2 := 6) (as := [(4, 0), (0, x2), (0, (-100)), (0, 100)]) (asC := [(4, 0), (0, x2), (0, (-100)), (0, 100)]) (L' := [(0, (4, 0)), (1, (0, x1)), (2, (0, x2)), (3, (0, x3))]) (st' := []) (hsC := [jgh]) (e := 1) (jA_116_119 (d := 0) (by omega)) (by rfl) (by rfl) (by decide +kernel) (by rfl) (by rfl) (by omega) (by omega) (by omega) (by omega) ⟨rfl, ⟨rfl, rfl, rfl⟩⟩
theorem jA_329_121 {xs : List Int} {d : Nat} {x1 x2 x3 : Int} (h_x1 : 0 ≤ x1 ∧ x1 ≤ 7) (h_x2 : 101 ≤ x2 ∧ x2 ≤ 2147483647) (h_x3 : (-2147483648) ≤ x3 ∧ x3 ≤ 2147483647) : jT xs (d + 2) 329 13 0 [(0, (4, 0)), (1, (0, x1)), (2, (0, x2)), (3, (0, x3)), (4, (4, 1))] [] jpA_275 1 6 (fun k v hs' => k = 0 ∧ v = (0, 2) ∧ hs' = jpA_275 ++ []) := by
  refine jT_xaload (v := (4, 1)) (pc' := 2) jI_329_0 rfl rfl rfl ?_
  refine jT_xiconst (k := 0) (pc' := 3) jI_329_2 rfl ?_
  refine jT_xaload_n (v := (4, 0)) (pc' := 4) jI_329_3 rfl rfl rfl ?_
  refine jT_xiload_n (v := (0, x1)) (pc' := 5) jI_329_4 rfl rfl rfl ?_
  refine jT_xiload_n (v := (0, x2)) (pc' := 6) jI_329_5 rfl rfl rfl ?_
  refine jT_xiload_n (v := (0, x3)) (pc' := 7) jI_329_6 rfl rfl rfl ?_
  exact jT_fX [0, 2, 3, 4, 5, 6, 7, 8, 9, 10, 11, 12] 13 (y := 120) (pc' := 10) (dC := 1) (bc1 := 1) (bc2 := 6) (as := [(4, 0), (0, x1), (0, x2), (0, x3)]) (asC := [(4, 0), (0, x1), (0, x2), (0, x3)]) (L' := [(0, (4, 0)), (1, (0, x1)), (2, (0, x2)), (3, (0, x3)), (4, (4, 1))]) (st' := [(0, 0), (4, 1)]) (hsC := jpA_268) (e := 1) (jA_120_120 (d := 0) (by omega) (by omega) (by omega)) (by rfl) (by rfl) (by decide +kernel) (by rfl) (by rfl) (by omega) (by omega) (by omega) (by omega) (show _ from ⟨rfl, rfl, rfl⟩)
theorem jA_206_122 {xs : List Int} {d : Nat} {x1 x2 x3 : Int} (h_x1 : 0 ≤ x1 ∧ x1 ≤ 7) (h_x2 : 101 ≤ x2 ∧ x2 ≤ 2147483647) (h_x3 : (-2147483648) ≤ x3 ∧ x3 ≤ 2147483647) : jT xs (d + 2) 206 16 0 [(0, (4, 0)), (1, (0, x1)), (2, (0, x2)), (3, (0, x3))] [] jpA_23 0 0 (fun k v hs' => k = 0 ∧ v = (0, 0) ∧ hs' = jpA_49) := by
  refine jT_xaload_n (v := (4, 0)) (pc' := 1) jI_206_0 rfl rfl rfl ?_
  refine jT_xiload_n (v := (0, x1)) (pc' := 2) jI_206_1 rfl rfl rfl ?_
  refine jT_fR [] 16 (y := 188) (pc' := 5) (dC := 1) (bc1 := 0) (bc2 := 0) (c1 := 0) (c2 := 0) (as := [(0, x1)]) (asC := [(0, x1)]) (L' := [(0, (4, 0)), (1, (0, x1)), (2, (0, x2)), (3, (0, x3))]) (st' := [(4, 0)]) (hsC := []) (v := (0, 1)) (st2 := [(0, 1), (4, 0)]) (jA_188_73 (d := 0) (by omega)) (by rfl) (by rfl) (by decide +kernel) (by rfl) (by rfl) (by omega) (by omega) (by omega) (by omega) rfl ?_
  refine jT_fR [0, 1, 2, 3, 4, 5, 6, 7, 8, 9, 10, 11, 12, 13, 14, 15] 16 (y := 190) (pc' := 8) (dC := 1) (bc1 := 0) (bc2 := 0) (c1 := 0) (c2 := 0) (as := [(4, 0), (0, 1)]) (asC := [(4, 0), (0, 1)]) (L' := [(0, (4, 0)), (1, (0, x1)), (2, (0, x2)), (3, (0, x3))]) (st' := []) (hsC := jpA_23) (v := (0, 0)) (st2 := [(0, 0)]) (jA_190_74 (d := 0)) (by rfl) (by rfl) (by decide +kernel) (by rfl) (by rfl) (by omega) (by omega) (by omega) (by omega) rfl ?_
  refine jT_xifF (t := 50) (pc' := 11) jI_206_8 rfl (by decide +kernel) rfl rfl ?_
  refine jT_xaload_n (v := (4, 0)) (pc' := 12) jI_206_11 rfl rfl rfl ?_
  refine jT_xiload_n (v := (0, x2)) (pc' := 13) jI_206_12 rfl rfl rfl ?_
  refine jT_xi2l (x := x2) (z := x2) (pc' := 14) jI_206_13 rfl (jw_idd (by omega) (by omega)) rfl ?_
  refine jT_adv 2 (pc' := 20) (L' := [(0, (4, 0)), (1, (0, x1)), (2, (0, x2)), (3, (0, x3))]) (st' := [(1, 100), (1, (-100)), (1, x2), (4, 0)]) (hs' := jpA_23) (c1 := 0) (s1 := 0) (c2 := 0) (s2 := 0) (by exact rfl) ?_ (by omega) (by omega)
  refine jT_fR [] 16 (y := 189) (pc' := 23) (dC := 0) (bc1 := 0) (bc2 := 0) (c1 := 0) (c2 := 0) (as := [(1, x2), (1, (-100)), (1, 100)]) (asC := [(1, x2), (1, (-100)), (1, 100)]) (L' := [(0, (4, 0)), (1, (0, x1)), (2, (0, x2)), (3, (0, x3))]) (st' := [(4, 0)]) (hsC := []) (v := (0, 0)) (st2 := [(0, 0), (4, 0)]) (jT_in_hi (d := 0) (v := x2) (lo := (-100)) (hi := 100) (by omega) (by omega) (by omega) (by omega) (by omega)) (by rfl) (by rfl) (by decide +kernel) (by rfl) (by rfl) (by omega) (by omega) (by omega) (by omega) rfl ?_
  refine jT_xifT (pc' := 42) jI_206_23 rfl (by decide +kernel) rfl ?_
  refine jT_xiconst (k := 0) (pc' := 43) jI_206_42 rfl ?_
  refine jT_xiconst (k := 2) (pc' := 44) jI_206_43 rfl ?_
  refine jT_fB [0, 1, 2, 3, 4, 5, 6, 7, 8, 9, 10, 11, 12, 13, 14, 15] 16 (y := 191) (pc' := 47) (dC := 0) (bc1 := 0) (bc2 := 0) (c1 := 0) (c2 := 0) (as := [(4, 0), (0, 0), (0, 2)]) (asC := [(4, 0), (0, 0), (0, 2)]) (L' := [(0, (4, 0)), (1, (0, x1)), (2, (0, x2)), (3, (0, x3))]) (st' := []) (hsC := jpA_23) (hsD := jpA_49) (v := (0, 1)) (st2 := [(0, 1)]) (hs2 := jpA_49) (jA_191_14 (d := 0)) (by rfl) (by rfl) (by decide +kernel) (by rfl) (by rfl) (by omega) (by omega) (by omega) (by omega) rfl (by decide +kernel) ?_
  refine jT_xifF (t := 52) (pc' := 50) jI_206_47 rfl (by decide +kernel) rfl rfl ?_
  refine jT_xiconst (k := 0) (pc' := 51) jI_206_50 rfl ?_
  exact jT_ret rfl (by decide) (by show 16 ≤ 16; decide) (by omega) (by omega) ⟨rfl, rfl, rfl⟩
theorem jA_115_123 {xs : List Int} {d : Nat} {x1 : Int} (h_x1 : 8 ≤ x1 ∧ x1 ≤ 2147483647) : jT xs d 115 1 0 [(0, (4, 0)), (1, (0, x1)), (2, (0, 8))] [] [jgh] 1 6 (fun k v hs' => k = 1 ∧ v = (0, 0) ∧ hs' = [jgh] ++ []) := by
  refine jT_xiload_n (v := (0, x1)) (pc' := 1) jI_115_0 rfl rfl rfl ?_
  refine jT_ifF (a := x1) (t := 9) (by rfl) (by rfl) (by rfl) (jw_idd (by omega) (by omega)) (by simp only [jcP] <;> omega) ?_
  refine jT_xiload_n (v := (0, x1)) (pc' := 5) jI_115_4 rfl rfl rfl ?_
  refine jT_xiload_n (v := (0, 8)) (pc' := 6) jI_115_5 rfl rfl rfl ?_
  refine jT_icF (a := x1) (b := 8) (t := 20) (by rfl) (by rfl) (by rfl) (jw_idd (by omega) (by omega)) (jw_idd (by omega) (by omega)) (by simp only [jcP] <;> omega) ?_
  exact jT_ret (c1 := 1) (s1 := 6) rfl (by decide) (by show 1 ≤ 1; decide) (by omega) (by omega) ⟨rfl, rfl, rfl⟩
theorem jA_120_124 {xs : List Int} {d : Nat} {x1 x2 x3 : Int} (h_x1 : 8 ≤ x1 ∧ x1 ≤ 2147483647) (h_x2 : (-2147483648) ≤ x2 ∧ x2 ≤ 2147483647) (h_x3 : (-2147483648) ≤ x3 ∧ x3 ≤ 2147483647) : jT xs (d + 1) 120 12 0 [(0, (4, 0)), (1, (0, x1)), (2, (0, x2)), (3, (0, x3))] [] jpA_268 1 6 (fun k v hs' => k = 1 ∧ v = (0, 0) ∧ hs' = jpA_268 ++ []) := by
  refine jT_xaload_n (v := (4, 0)) (pc' := 1) jI_120_0 rfl rfl rfl ?_
  refine jT_xiload_n (v := (0, x1)) (pc' := 2) jI_120_1 rfl rfl rfl ?_
  refine jT_xbipush (k := 8) (pc' := 4) jI_120_2 (by decide) rfl ?_
  exact jT_fX [0] 12 (y := 115) (pc' := 7) (dC := 0) (bc1 := 1) (bc2 := 6) (as := [(4, 0), (0, x1), (0, 8)]) (asC := [(4, 0), (0, x1), (0, 8)]) (L' := [(0, (4, 0)), (1, (0, x1)), (2, (0, x2)), (3, (0, x3))]) (st' := []) (hsC := [jgh]) (e := 0) (jA_115_123 (d := 0) (by omega)) (by rfl) (by rfl) (by decide +kernel) (by rfl) (by rfl) (by omega) (by omega) (by omega) (by omega) ⟨rfl, ⟨rfl, rfl, rfl⟩⟩
theorem jA_329_125 {xs : List Int} {d : Nat} {x1 x2 x3 : Int} (h_x1 : 8 ≤ x1 ∧ x1 ≤ 2147483647) (h_x2 : (-2147483648) ≤ x2 ∧ x2 ≤ 2147483647) (h_x3 : (-2147483648) ≤ x3 ∧ x3 ≤ 2147483647) : jT xs (d + 2) 329 13 0 [(0, (4, 0)), (1, (0, x1)), (2, (0, x2)), (3, (0, x3)), (4, (4, 1))] [] jpA_275 1 6 (fun k v hs' => k = 0 ∧ v = (0, 1) ∧ hs' = jpA_275 ++ []) := by
  refine jT_xaload (v := (4, 1)) (pc' := 2) jI_329_0 rfl rfl rfl ?_
  refine jT_xiconst (k := 0) (pc' := 3) jI_329_2 rfl ?_
  refine jT_xaload_n (v := (4, 0)) (pc' := 4) jI_329_3 rfl rfl rfl ?_
  refine jT_xiload_n (v := (0, x1)) (pc' := 5) jI_329_4 rfl rfl rfl ?_
  refine jT_xiload_n (v := (0, x2)) (pc' := 6) jI_329_5 rfl rfl rfl ?_
  refine jT_xiload_n (v := (0, x3)) (pc' := 7) jI_329_6 rfl rfl rfl ?_
  exact jT_fX [0, 2, 3, 4, 5, 6, 7, 8, 9, 10, 11, 12] 13 (y := 120) (pc' := 10) (dC := 1) (bc1 := 1) (bc2 := 6) (as := [(4, 0), (0, x1), (0, x2), (0, x3)]) (asC := [(4, 0), (0, x1), (0, x2), (0, x3)]) (L' := [(0, (4, 0)), (1, (0, x1)), (2, (0, x2)), (3, (0, x3)), (4, (4, 1))]) (st' := [(0, 0), (4, 1)]) (hsC := jpA_268) (e := 0) (jA_120_124 (d := 0) (by omega) (by omega) (by omega)) (by rfl) (by rfl) (by decide +kernel) (by rfl) (by rfl) (by omega) (by omega) (by omega) (by omega) (show _ from ⟨rfl, rfl, rfl⟩)
theorem jA_188_126 {xs : List Int} {d : Nat} {x1 : Int} (h_x1 : 8 ≤ x1 ∧ x1 ≤ 2147483647) : jT xs (d + 1) 188 0 0 [(0, (0, x1))] [] [] 0 0 (fun k v hs' => k = 0 ∧ v = (0, 0) ∧ hs' = [] ++ []) := by
  refine jT_xiload_n (v := (0, x1)) (pc' := 1) jI_188_0 rfl rfl rfl ?_
  refine jT_xi2l (x := x1) (z := x1) (pc' := 2) jI_188_1 rfl (jw_idd (by omega) (by omega)) rfl ?_
  refine jT_xlconst (z := 0) (pc' := 3) jI_188_2 rfl rfl ?_
  refine jT_adv 1 (pc' := 6) (L' := [(0, (0, x1))]) (st' := [(1, 7), (1, 0), (1, x1)]) (hs' := []) (c1 := 0) (s1 := 0) (c2 := 0) (s2 := 0) (by exact rfl) ?_ (by omega) (by omega)
  refine jT_fR [] 0 (y := 189) (pc' := 9) (dC := 0) (bc1 := 0) (bc2 := 0) (c1 := 0) (c2 := 0) (as := [(1, x1), (1, 0), (1, 7)]) (asC := [(1, x1), (1, 0), (1, 7)]) (L' := [(0, (0, x1))]) (st' := []) (hsC := []) (v := (0, 0)) (st2 := [(0, 0)]) (jT_in_hi (d := 0) (v := x1) (lo := 0) (hi := 7) (by omega) (by omega) (by omega) (by omega) (by omega)) (by rfl) (by rfl) (by decide +kernel) (by rfl) (by rfl) (by omega) (by omega) (by omega) (by omega) rfl ?_
  exact jT_ret rfl (by decide) (by show 0 ≤ 0; decide) (by omega) (by omega) ⟨rfl, rfl, rfl⟩
theorem jA_206_127 {xs : List Int} {d : Nat} {x1 x2 x3 : Int} (h_x1 : 8 ≤ x1 ∧ x1 ≤ 2147483647) (h_x2 : (-2147483648) ≤ x2 ∧ x2 ≤ 2147483647) (h_x3 : (-2147483648) ≤ x3 ∧ x3 ≤ 2147483647) : jT xs (d + 2) 206 16 0 [(0, (4, 0)), (1, (0, x1)), (2, (0, x2)), (3, (0, x3))] [] jpA_23 0 0 (fun k v hs' => k = 0 ∧ v = (0, 0) ∧ hs' = jpA_21) := by
  refine jT_xaload_n (v := (4, 0)) (pc' := 1) jI_206_0 rfl rfl rfl ?_
  refine jT_xiload_n (v := (0, x1)) (pc' := 2) jI_206_1 rfl rfl rfl ?_
  refine jT_fR [] 16 (y := 188) (pc' := 5) (dC := 1) (bc1 := 0) (bc2 := 0) (c1 := 0) (c2 := 0) (as := [(0, x1)]) (asC := [(0, x1)]) (L' := [(0, (4, 0)), (1, (0, x1)), (2, (0, x2)), (3, (0, x3))]) (st' := [(4, 0)]) (hsC := []) (v := (0, 0)) (st2 := [(0, 0), (4, 0)]) (jA_188_126 (d := 0) (by omega)) (by rfl) (by rfl) (by decide +kernel) (by rfl) (by rfl) (by omega) (by omega) (by omega) (by omega) rfl ?_
  refine jT_fB [0, 1, 2, 3, 4, 5, 6, 7, 8, 9, 10, 11, 12, 13, 14, 15] 16 (y := 190) (pc' := 8) (dC := 1) (bc1 := 0) (bc2 := 0) (c1 := 0) (c2 := 0) (as := [(4, 0), (0, 0)]) (asC := [(4, 0), (0, 0)]) (L' := [(0, (4, 0)), (1, (0, x1)), (2, (0, x2)), (3, (0, x3))]) (st' := []) (hsC := jpA_23) (hsD := jpA_21) (v := (0, 1)) (st2 := [(0, 1)]) (hs2 := jpA_21) (jA_190_67 (d := 0)) (by rfl) (by rfl) (by decide +kernel) (by rfl) (by rfl) (by omega) (by omega) (by omega) (by omega) rfl (by decide +kernel) ?_
  refine jT_xifT (pc' := 50) jI_206_8 rfl (by decide +kernel) rfl ?_
  refine jT_xiconst (k := 0) (pc' := 51) jI_206_50 rfl ?_
  exact jT_ret rfl (by decide) (by show 16 ≤ 16; decide) (by omega) (by omega) ⟨rfl, rfl, rfl⟩
theorem jI_379_551 : jmI (jm 379) 551 = (.aload_n 1, 1) := by rfl
theorem jI_379_552 : jmI (jm 379) 552 = (.aload_n 0, 1) := by rfl
theorem jI_379_553 : jmI (jm 379) 553 = (.iload 5, 2) := by rfl
theorem jI_379_555 : jmI (jm 379) 555 = (.iconst 1, 1) := by rfl
theorem jI_379_556 : jmI (jm 379) 556 = (.iadd, 1) := by rfl
def jpA_548 : List JC := [jzA_211, jzA_212, jgh, jgh, jgh, jgh, jgh, jgh, jgh, jgh, jgh, jgh, jgh, jgh, jgh, jgh, jgh, jgh, jgh, jgh, jgh, jgh, jgh, jgh, jgh, jgh, jgh, jgh, jgh, jgh]
theorem jI_379_558 : jmI (jm 379) 558 = (.aload_n 0, 1) := by rfl
theorem jI_379_559 : jmI (jm 379) 559 = (.iload 5, 2) := by rfl
theorem jI_379_561 : jmI (jm 379) 561 = (.iconst 2, 1) := by rfl
theorem jI_379_562 : jmI (jm 379) 562 = (.iadd, 1) := by rfl
theorem jI_379_564 : jmI (jm 379) 564 = (.aload_n 0, 1) := by rfl
theorem jI_379_565 : jmI (jm 379) 565 = (.iload 5, 2) := by rfl
theorem jI_379_567 : jmI (jm 379) 567 = (.iconst 3, 1) := by rfl
theorem jI_379_568 : jmI (jm 379) 568 = (.iadd, 1) := by rfl
theorem jI_379_570 : jmI (jm 379) 570 = (.aload_n 3, 1) := by rfl
theorem jI_379_574 : jmI (jm 379) 574 = (.istore 6, 2) := by rfl
theorem jI_379_576 : jmI (jm 379) 576 = (.aload_n 2, 1) := by rfl
theorem jI_379_577 : jmI (jm 379) 577 = (.aload_n 0, 1) := by rfl
theorem jI_379_578 : jmI (jm 379) 578 = (.iload 5, 2) := by rfl
theorem jI_379_580 : jmI (jm 379) 580 = (.iconst 1, 1) := by rfl
theorem jI_379_581 : jmI (jm 379) 581 = (.iadd, 1) := by rfl
theorem jI_379_583 : jmI (jm 379) 583 = (.aload_n 0, 1) := by rfl
theorem jI_379_584 : jmI (jm 379) 584 = (.iload 5, 2) := by rfl
theorem jI_379_586 : jmI (jm 379) 586 = (.iconst 2, 1) := by rfl
theorem jI_379_587 : jmI (jm 379) 587 = (.iadd, 1) := by rfl
theorem jI_379_589 : jmI (jm 379) 589 = (.aload_n 0, 1) := by rfl
theorem jI_379_590 : jmI (jm 379) 590 = (.iload 5, 2) := by rfl
theorem jI_379_592 : jmI (jm 379) 592 = (.iconst 3, 1) := by rfl
theorem jI_379_593 : jmI (jm 379) 593 = (.iadd, 1) := by rfl
def jpA_572 : List JC := [jzA_211, jzA_230, jgh, jgh, jgh, jgh, jgh, jgh, jgh, jgh, jgh, jgh, jgh, jgh, jgh, jgh, jgh, jgh, jgh, jgh, jgh, jgh, jgh, jgh, jgh, jgh, jgh, jgh, jgh, jgh]
theorem jI_379_598 : jmI (jm 379) 598 = (.istore 7, 2) := by rfl
theorem jI_379_600 : jmI (jm 379) 600 = (.aload_n 2, 1) := by rfl
theorem jI_379_604 : jmI (jm 379) 604 = (.iload 6, 2) := by rfl
theorem jI_379_606 : jmI (jm 379) 606 = (.if_icmp .eq 5, 3) := by rfl
theorem jI_379_611 : jmI (jm 379) 611 = (.iload 6, 2) := by rfl
theorem jI_379_613 : jmI (jm 379) 613 = (.ifCond .ne 15, 3) := by rfl
theorem jI_379_628 : jmI (jm 379) 628 = (.goto 3112, 3) := by rfl
set_option maxRecDepth 100000 in
theorem jL_3_0 {d : Nat} {x0 x1 x2 x3 x4 : Int} (h_x0 : (-2147483648) ≤ x0 ∧ x0 ≤ 2147483647) (h_x1 : (-2147483648) ≤ x1 ∧ x1 ≤ (-1)) (h_x2 : (-2147483648) ≤ x2 ∧ x2 ≤ 2147483647) (h_x3 : (-2147483648) ≤ x3 ∧ x3 ≤ 2147483647) (h_x4 : (-2147483648) ≤ x4 ∧ x4 ≤ 2147483647) : jT [x0, x1, x2, x3, x4] (d + 3) 379 30 551 [(5, (0, 0)), (4, (4, 3)), (3, (4, 2)), (2, (4, 1)), (1, (4, 0)), (0, (6, 0))] [] jpA_548 1 6 (fun k v hs' => k = 0 ∧ v = (0, 1)) := by
  refine jT_xaload_n (v := (4, 0)) (pc' := 552) jI_379_551 rfl rfl rfl ?_
  refine jT_xaload_n (v := (6, 0)) (pc' := 553) jI_379_552 rfl rfl rfl ?_
  refine jT_xiload (v := (0, 0)) (pc' := 555) jI_379_553 rfl rfl rfl ?_
  refine jT_xiconst (k := 1) (pc' := 556) jI_379_555 rfl ?_
  refine jT_xiadd (x := 0) (y := 1) (z := 1) (pc' := 557) jI_379_556 rfl (by decide) rfl ?_
  refine jT_adv 1 (pc' := 558) (L' := [(5, (0, 0)), (4, (4, 3)), (3, (4, 2)), (2, (4, 1)), (1, (4, 0)), (0, (6, 0))]) (st' := [(0, x1), (4, 0)]) (hs' := jpA_548) (c1 := 0) (s1 := 0) (c2 := 1) (s2 := 6) (by exact rfl) ?_ (by omega) (by omega)
  refine jT_xaload_n (v := (6, 0)) (pc' := 559) jI_379_558 rfl rfl rfl ?_
  refine jT_xiload (v := (0, 0)) (pc' := 561) jI_379_559 rfl rfl rfl ?_
  refine jT_xiconst (k := 2) (pc' := 562) jI_379_561 rfl ?_
  refine jT_xiadd (x := 0) (y := 2) (z := 2) (pc' := 563) jI_379_562 rfl (by decide) rfl ?_
  refine jT_adv 1 (pc' := 564) (L' := [(5, (0, 0)), (4, (4, 3)), (3, (4, 2)), (2, (4, 1)), (1, (4, 0)), (0, (6, 0))]) (st' := [(0, x2), (0, x1), (4, 0)]) (hs' := jpA_548) (c1 := 0) (s1 := 0) (c2 := 1) (s2 := 6) (by exact rfl) ?_ (by omega) (by omega)
  refine jT_xaload_n (v := (6, 0)) (pc' := 565) jI_379_564 rfl rfl rfl ?_
  refine jT_xiload (v := (0, 0)) (pc' := 567) jI_379_565 rfl rfl rfl ?_
  refine jT_xiconst (k := 3) (pc' := 568) jI_379_567 rfl ?_
  refine jT_xiadd (x := 0) (y := 3) (z := 3) (pc' := 569) jI_379_568 rfl (by decide) rfl ?_
  refine jT_adv 1 (pc' := 570) (L' := [(5, (0, 0)), (4, (4, 3)), (3, (4, 2)), (2, (4, 1)), (1, (4, 0)), (0, (6, 0))]) (st' := [(0, x3), (0, x2), (0, x1), (4, 0)]) (hs' := jpA_548) (c1 := 0) (s1 := 0) (c2 := 1) (s2 := 6) (by exact rfl) ?_ (by omega) (by omega)
  refine jT_xaload_n (v := (4, 2)) (pc' := 571) jI_379_570 rfl rfl rfl ?_
  refine jT_fR [0, 2, 4, 5, 6, 7, 8, 9, 10, 11, 12, 13, 14] 30 (y := 329) (pc' := 574) (dC := 2) (bc1 := 1) (bc2 := 6) (c1 := 0) (c2 := 0) (as := [(4, 0), (0, x1), (0, x2), (0, x3), (4, 2)]) (asC := [(4, 0), (0, x1), (0, x2), (0, x3), (4, 1)]) (L' := [(5, (0, 0)), (4, (4, 3)), (3, (4, 2)), (2, (4, 1)), (1, (4, 0)), (0, (6, 0))]) (st' := []) (hsC := jpA_275) (v := (0, 1)) (st2 := [(0, 1)]) (jA_329_65 (d := 0) (by omega) (by omega) (by omega)) (by rfl) (by rfl) (by decide +kernel) (by rfl) (by rfl) (by omega) (by omega) (by omega) (by omega) rfl ?_
  refine jT_xistore (v := (0, 1)) (L' := [(6, (0, 1)), (5, (0, 0)), (4, (4, 3)), (3, (4, 2)), (2, (4, 1)), (1, (4, 0)), (0, (6, 0))]) (pc' := 576) jI_379_574 rfl rfl rfl rfl ?_
  refine jT_xaload_n (v := (4, 1)) (pc' := 577) jI_379_576 rfl rfl rfl ?_
  refine jT_xaload_n (v := (6, 0)) (pc' := 578) jI_379_577 rfl rfl rfl ?_
  refine jT_xiload (v := (0, 0)) (pc' := 580) jI_379_578 rfl rfl rfl ?_
  refine jT_xiconst (k := 1) (pc' := 581) jI_379_580 rfl ?_
  refine jT_xiadd (x := 0) (y := 1) (z := 1) (pc' := 582) jI_379_581 rfl (by decide) rfl ?_
  refine jT_adv 1 (pc' := 583) (L' := [(6, (0, 1)), (5, (0, 0)), (4, (4, 3)), (3, (4, 2)), (2, (4, 1)), (1, (4, 0)), (0, (6, 0))]) (st' := [(0, x1), (4, 1)]) (hs' := jpA_548) (c1 := 0) (s1 := 0) (c2 := 0) (s2 := 0) (by exact rfl) ?_ (by omega) (by omega)
  refine jT_xaload_n (v := (6, 0)) (pc' := 584) jI_379_583 rfl rfl rfl ?_
  refine jT_xiload (v := (0, 0)) (pc' := 586) jI_379_584 rfl rfl rfl ?_
  refine jT_xiconst (k := 2) (pc' := 587) jI_379_586 rfl ?_
  refine jT_xiadd (x := 0) (y := 2) (z := 2) (pc' := 588) jI_379_587 rfl (by decide) rfl ?_
  refine jT_adv 1 (pc' := 589) (L' := [(6, (0, 1)), (5, (0, 0)), (4, (4, 3)), (3, (4, 2)), (2, (4, 1)), (1, (4, 0)), (0, (6, 0))]) (st' := [(0, x2), (0, x1), (4, 1)]) (hs' := jpA_548) (c1 := 0) (s1 := 0) (c2 := 0) (s2 := 0) (by exact rfl) ?_ (by omega) (by omega)
  refine jT_xaload_n (v := (6, 0)) (pc' := 590) jI_379_589 rfl rfl rfl ?_
  refine jT_xiload (v := (0, 0)) (pc' := 592) jI_379_590 rfl rfl rfl ?_
  refine jT_xiconst (k := 3) (pc' := 593) jI_379_592 rfl ?_
  refine jT_xiadd (x := 0) (y := 3) (z := 3) (pc' := 594) jI_379_593 rfl (by decide) rfl ?_
  refine jT_adv 1 (pc' := 595) (L' := [(6, (0, 1)), (5, (0, 0)), (4, (4, 3)), (3, (4, 2)), (2, (4, 1)), (1, (4, 0)), (0, (6, 0))]) (st' := [(0, x3), (0, x2), (0, x1), (4, 1)]) (hs' := jpA_548) (c1 := 0) (s1 := 0) (c2 := 0) (s2 := 0) (by exact rfl) ?_ (by omega) (by omega)
  refine jT_fB [1, 15, 16, 17, 18, 19, 20, 21, 22, 23, 24, 25, 26, 27, 28, 29] 30 (y := 206) (pc' := 598) (dC := 2) (bc1 := 0) (bc2 := 0) (c1 := 0) (c2 := 0) (as := [(4, 1), (0, x1), (0, x2), (0, x3)]) (asC := [(4, 0), (0, x1), (0, x2), (0, x3)]) (L' := [(6, (0, 1)), (5, (0, 0)), (4, (4, 3)), (3, (4, 2)), (2, (4, 1)), (1, (4, 0)), (0, (6, 0))]) (st' := []) (hsC := jpA_23) (hsD := jpA_21) (v := (0, 0)) (st2 := [(0, 0)]) (hs2 := jpA_572) (jA_206_68 (d := 0) (by omega) (by omega) (by omega)) (by rfl) (by rfl) (by decide +kernel) (by rfl) (by rfl) (by omega) (by omega) (by omega) (by omega) rfl (by decide +kernel) ?_
  refine jT_xistore (v := (0, 0)) (L' := [(7, (0, 0)), (6, (0, 1)), (5, (0, 0)), (4, (4, 3)), (3, (4, 2)), (2, (4, 1)), (1, (4, 0)), (0, (6, 0))]) (pc' := 600) jI_379_598 rfl rfl rfl rfl ?_
  refine jT_xaload_n (v := (4, 1)) (pc' := 601) jI_379_600 rfl rfl rfl ?_
  refine jT_fR [1, 15, 16, 17, 18, 19, 20, 21, 22, 23, 24, 25, 26, 27, 28, 29] 30 (y := 186) (pc' := 604) (dC := 0) (bc1 := 0) (bc2 := 0) (c1 := 0) (c2 := 0) (as := [(4, 1)]) (asC := [(4, 0)]) (L' := [(7, (0, 0)), (6, (0, 1)), (5, (0, 0)), (4, (4, 3)), (3, (4, 2)), (2, (4, 1)), (1, (4, 0)), (0, (6, 0))]) (st' := []) (hsC := jpA_21) (v := (0, 1)) (st2 := [(0, 1)]) (jA_186_6 (d := 0)) (by rfl) (by rfl) (by decide +kernel) (by rfl) (by rfl) (by omega) (by omega) (by omega) (by omega) rfl ?_
  refine jT_xiload (v := (0, 1)) (pc' := 606) jI_379_604 rfl rfl rfl ?_
  refine jT_xicT (pc' := 611) jI_379_606 rfl (by decide +kernel) rfl ?_
  refine jT_xiload (v := (0, 1)) (pc' := 613) jI_379_611 rfl rfl rfl ?_
  refine jT_xifT (pc' := 628) jI_379_613 rfl (by decide +kernel) rfl ?_
  refine jT_xgoto (pc' := 3740) jI_379_628 rfl ?_
  refine jT_xiinc (x := 0) (z := 5) (L' := [(5, (0, 5)), (7, (0, 0)), (6, (0, 1)), (4, (4, 3)), (3, (4, 2)), (2, (4, 1)), (1, (4, 0)), (0, (6, 0))]) (pc' := 3743) jI_379_3740 rfl rfl (by decide) rfl rfl ?_
  refine jT_xgoto (pc' := 28) jI_379_3743 rfl ?_
  refine jT_xiload (v := (0, 5)) (pc' := 30) jI_379_28 rfl rfl rfl ?_
  refine jT_xaload_n (v := (6, 0)) (pc' := 31) jI_379_30 rfl rfl rfl ?_
  refine jT_adv 1 (pc' := 32) (L' := [(5, (0, 5)), (7, (0, 0)), (6, (0, 1)), (4, (4, 3)), (3, (4, 2)), (2, (4, 1)), (1, (4, 0)), (0, (6, 0))]) (st' := [(0, 5), (0, 5)]) (hs' := jpA_572) (c1 := 0) (s1 := 0) (c2 := 0) (s2 := 0) (by exact rfl) ?_ (by omega) (by omega)
  refine jT_xiconst (k := 5) (pc' := 33) jI_379_32 rfl ?_
  refine jT_xisub (x := 5) (y := 5) (z := 0) (pc' := 34) jI_379_33 rfl (by decide) rfl ?_
  refine jT_xicT (pc' := 3746) jI_379_34 rfl (by decide +kernel) rfl ?_
  refine jT_xiconst (k := 1) (pc' := 3747) jI_379_3746 rfl ?_
  exact jT_ret rfl (by decide) (by show 30 ≤ 30; decide) (by omega) (by omega) ⟨rfl, rfl⟩
def jpA_580 : List JC := [jzA_211, jzA_247, jgh, jgh, jgh, jgh, jgh, jgh, jgh, jgh, jgh, jgh, jgh, jgh, jgh, jgh, jgh, jgh, jgh, jgh, jgh, jgh, jgh, jgh, jgh, jgh, jgh, jgh, jgh, jgh]
set_option maxRecDepth 100000 in
theorem jL_3_1 {d : Nat} {x0 x1 x2 x3 x4 : Int} (h_x0 : (-2147483648) ≤ x0 ∧ x0 ≤ 2147483647) (h_x1 : 0 ≤ x1 ∧ x1 ≤ 7) (h_x2 : (-2147483648) ≤ x2 ∧ x2 ≤ (-101)) (h_x3 : (-2147483648) ≤ x3 ∧ x3 ≤ 2147483647) (h_x4 : (-2147483648) ≤ x4 ∧ x4 ≤ 2147483647) : jT [x0, x1, x2, x3, x4] (d + 3) 379 30 551 [(5, (0, 0)), (4, (4, 3)), (3, (4, 2)), (2, (4, 1)), (1, (4, 0)), (0, (6, 0))] [] jpA_548 1 6 (fun k v hs' => k = 0 ∧ v = (0, 1)) := by
  refine jT_xaload_n (v := (4, 0)) (pc' := 552) jI_379_551 rfl rfl rfl ?_
  refine jT_xaload_n (v := (6, 0)) (pc' := 553) jI_379_552 rfl rfl rfl ?_
  refine jT_xiload (v := (0, 0)) (pc' := 555) jI_379_553 rfl rfl rfl ?_
  refine jT_xiconst (k := 1) (pc' := 556) jI_379_555 rfl ?_
  refine jT_xiadd (x := 0) (y := 1) (z := 1) (pc' := 557) jI_379_556 rfl (by decide) rfl ?_
  refine jT_adv 1 (pc' := 558) (L' := [(5, (0, 0)), (4, (4, 3)), (3, (4, 2)), (2, (4, 1)), (1, (4, 0)), (0, (6, 0))]) (st' := [(0, x1), (4, 0)]) (hs' := jpA_548) (c1 := 0) (s1 := 0) (c2 := 1) (s2 := 6) (by exact rfl) ?_ (by omega) (by omega)
  refine jT_xaload_n (v := (6, 0)) (pc' := 559) jI_379_558 rfl rfl rfl ?_
  refine jT_xiload (v := (0, 0)) (pc' := 561) jI_379_559 rfl rfl rfl ?_
  refine jT_xiconst (k := 2) (pc' := 562) jI_379_561 rfl ?_
  refine jT_xiadd (x := 0) (y := 2) (z := 2) (pc' := 563) jI_379_562 rfl (by decide) rfl ?_
  refine jT_adv 1 (pc' := 564) (L' := [(5, (0, 0)), (4, (4, 3)), (3, (4, 2)), (2, (4, 1)), (1, (4, 0)), (0, (6, 0))]) (st' := [(0, x2), (0, x1), (4, 0)]) (hs' := jpA_548) (c1 := 0) (s1 := 0) (c2 := 1) (s2 := 6) (by exact rfl) ?_ (by omega) (by omega)
  refine jT_xaload_n (v := (6, 0)) (pc' := 565) jI_379_564 rfl rfl rfl ?_
  refine jT_xiload (v := (0, 0)) (pc' := 567) jI_379_565 rfl rfl rfl ?_
  refine jT_xiconst (k := 3) (pc' := 568) jI_379_567 rfl ?_
  refine jT_xiadd (x := 0) (y := 3) (z := 3) (pc' := 569) jI_379_568 rfl (by decide) rfl ?_
  refine jT_adv 1 (pc' := 570) (L' := [(5, (0, 0)), (4, (4, 3)), (3, (4, 2)), (2, (4, 1)), (1, (4, 0)), (0, (6, 0))]) (st' := [(0, x3), (0, x2), (0, x1), (4, 0)]) (hs' := jpA_548) (c1 := 0) (s1 := 0) (c2 := 1) (s2 := 6) (by exact rfl) ?_ (by omega) (by omega)
  refine jT_xaload_n (v := (4, 2)) (pc' := 571) jI_379_570 rfl rfl rfl ?_
  refine jT_fR [0, 2, 4, 5, 6, 7, 8, 9, 10, 11, 12, 13, 14] 30 (y := 329) (pc' := 574) (dC := 2) (bc1 := 1) (bc2 := 6) (c1 := 0) (c2 := 0) (as := [(4, 0), (0, x1), (0, x2), (0, x3), (4, 2)]) (asC := [(4, 0), (0, x1), (0, x2), (0, x3), (4, 1)]) (L' := [(5, (0, 0)), (4, (4, 3)), (3, (4, 2)), (2, (4, 1)), (1, (4, 0)), (0, (6, 0))]) (st' := []) (hsC := jpA_275) (v := (0, 2)) (st2 := [(0, 2)]) (jA_329_72 (d := 0) (by omega) (by omega) (by omega)) (by rfl) (by rfl) (by decide +kernel) (by rfl) (by rfl) (by omega) (by omega) (by omega) (by omega) rfl ?_
  refine jT_xistore (v := (0, 2)) (L' := [(6, (0, 2)), (5, (0, 0)), (4, (4, 3)), (3, (4, 2)), (2, (4, 1)), (1, (4, 0)), (0, (6, 0))]) (pc' := 576) jI_379_574 rfl rfl rfl rfl ?_
  refine jT_xaload_n (v := (4, 1)) (pc' := 577) jI_379_576 rfl rfl rfl ?_
  refine jT_xaload_n (v := (6, 0)) (pc' := 578) jI_379_577 rfl rfl rfl ?_
  refine jT_xiload (v := (0, 0)) (pc' := 580) jI_379_578 rfl rfl rfl ?_
  refine jT_xiconst (k := 1) (pc' := 581) jI_379_580 rfl ?_
  refine jT_xiadd (x := 0) (y := 1) (z := 1) (pc' := 582) jI_379_581 rfl (by decide) rfl ?_
  refine jT_adv 1 (pc' := 583) (L' := [(6, (0, 2)), (5, (0, 0)), (4, (4, 3)), (3, (4, 2)), (2, (4, 1)), (1, (4, 0)), (0, (6, 0))]) (st' := [(0, x1), (4, 1)]) (hs' := jpA_548) (c1 := 0) (s1 := 0) (c2 := 0) (s2 := 0) (by exact rfl) ?_ (by omega) (by omega)
  refine jT_xaload_n (v := (6, 0)) (pc' := 584) jI_379_583 rfl rfl rfl ?_
  refine jT_xiload (v := (0, 0)) (pc' := 586) jI_379_584 rfl rfl rfl ?_
  refine jT_xiconst (k := 2) (pc' := 587) jI_379_586 rfl ?_
  refine jT_xiadd (x := 0) (y := 2) (z := 2) (pc' := 588) jI_379_587 rfl (by decide) rfl ?_
  refine jT_adv 1 (pc' := 589) (L' := [(6, (0, 2)), (5, (0, 0)), (4, (4, 3)), (3, (4, 2)), (2, (4, 1)), (1, (4, 0)), (0, (6, 0))]) (st' := [(0, x2), (0, x1), (4, 1)]) (hs' := jpA_548) (c1 := 0) (s1 := 0) (c2 := 0) (s2 := 0) (by exact rfl) ?_ (by omega) (by omega)
  refine jT_xaload_n (v := (6, 0)) (pc' := 590) jI_379_589 rfl rfl rfl ?_
  refine jT_xiload (v := (0, 0)) (pc' := 592) jI_379_590 rfl rfl rfl ?_
  refine jT_xiconst (k := 3) (pc' := 593) jI_379_592 rfl ?_
  refine jT_xiadd (x := 0) (y := 3) (z := 3) (pc' := 594) jI_379_593 rfl (by decide) rfl ?_
  refine jT_adv 1 (pc' := 595) (L' := [(6, (0, 2)), (5, (0, 0)), (4, (4, 3)), (3, (4, 2)), (2, (4, 1)), (1, (4, 0)), (0, (6, 0))]) (st' := [(0, x3), (0, x2), (0, x1), (4, 1)]) (hs' := jpA_548) (c1 := 0) (s1 := 0) (c2 := 0) (s2 := 0) (by exact rfl) ?_ (by omega) (by omega)
  refine jT_fB [1, 15, 16, 17, 18, 19, 20, 21, 22, 23, 24, 25, 26, 27, 28, 29] 30 (y := 206) (pc' := 598) (dC := 2) (bc1 := 0) (bc2 := 0) (c1 := 0) (c2 := 0) (as := [(4, 1), (0, x1), (0, x2), (0, x3)]) (asC := [(4, 0), (0, x1), (0, x2), (0, x3)]) (L' := [(6, (0, 2)), (5, (0, 0)), (4, (4, 3)), (3, (4, 2)), (2, (4, 1)), (1, (4, 0)), (0, (6, 0))]) (st' := []) (hsC := jpA_23) (hsD := jpA_49) (v := (0, 0)) (st2 := [(0, 0)]) (hs2 := jpA_580) (jA_206_75 (d := 0) (by omega) (by omega) (by omega)) (by rfl) (by rfl) (by decide +kernel) (by rfl) (by rfl) (by omega) (by omega) (by omega) (by omega) rfl (by decide +kernel) ?_
  refine jT_xistore (v := (0, 0)) (L' := [(7, (0, 0)), (6, (0, 2)), (5, (0, 0)), (4, (4, 3)), (3, (4, 2)), (2, (4, 1)), (1, (4, 0)), (0, (6, 0))]) (pc' := 600) jI_379_598 rfl rfl rfl rfl ?_
  refine jT_xaload_n (v := (4, 1)) (pc' := 601) jI_379_600 rfl rfl rfl ?_
  refine jT_fR [1, 15, 16, 17, 18, 19, 20, 21, 22, 23, 24, 25, 26, 27, 28, 29] 30 (y := 186) (pc' := 604) (dC := 0) (bc1 := 0) (bc2 := 0) (c1 := 0) (c2 := 0) (as := [(4, 1)]) (asC := [(4, 0)]) (L' := [(7, (0, 0)), (6, (0, 2)), (5, (0, 0)), (4, (4, 3)), (3, (4, 2)), (2, (4, 1)), (1, (4, 0)), (0, (6, 0))]) (st' := []) (hsC := jpA_49) (v := (0, 2)) (st2 := [(0, 2)]) (jA_186_16 (d := 0)) (by rfl) (by rfl) (by decide +kernel) (by rfl) (by rfl) (by omega) (by omega) (by omega) (by omega) rfl ?_
  refine jT_xiload (v := (0, 2)) (pc' := 606) jI_379_604 rfl rfl rfl ?_
  refine jT_xicT (pc' := 611) jI_379_606 rfl (by decide +kernel) rfl ?_
  refine jT_xiload (v := (0, 2)) (pc' := 613) jI_379_611 rfl rfl rfl ?_
  refine jT_xifT (pc' := 628) jI_379_613 rfl (by decide +kernel) rfl ?_
  refine jT_xgoto (pc' := 3740) jI_379_628 rfl ?_
  refine jT_xiinc (x := 0) (z := 5) (L' := [(5, (0, 5)), (7, (0, 0)), (6, (0, 2)), (4, (4, 3)), (3, (4, 2)), (2, (4, 1)), (1, (4, 0)), (0, (6, 0))]) (pc' := 3743) jI_379_3740 rfl rfl (by decide) rfl rfl ?_
  refine jT_xgoto (pc' := 28) jI_379_3743 rfl ?_
  refine jT_xiload (v := (0, 5)) (pc' := 30) jI_379_28 rfl rfl rfl ?_
  refine jT_xaload_n (v := (6, 0)) (pc' := 31) jI_379_30 rfl rfl rfl ?_
  refine jT_adv 1 (pc' := 32) (L' := [(5, (0, 5)), (7, (0, 0)), (6, (0, 2)), (4, (4, 3)), (3, (4, 2)), (2, (4, 1)), (1, (4, 0)), (0, (6, 0))]) (st' := [(0, 5), (0, 5)]) (hs' := jpA_580) (c1 := 0) (s1 := 0) (c2 := 0) (s2 := 0) (by exact rfl) ?_ (by omega) (by omega)
  refine jT_xiconst (k := 5) (pc' := 33) jI_379_32 rfl ?_
  refine jT_xisub (x := 5) (y := 5) (z := 0) (pc' := 34) jI_379_33 rfl (by decide) rfl ?_
  refine jT_xicT (pc' := 3746) jI_379_34 rfl (by decide +kernel) rfl ?_
  refine jT_xiconst (k := 1) (pc' := 3747) jI_379_3746 rfl ?_
  exact jT_ret rfl (by decide) (by show 30 ≤ 30; decide) (by omega) (by omega) ⟨rfl, rfl⟩
set_option maxRecDepth 100000 in
theorem jL_3_2 {d : Nat} {x0 x1 x2 x3 x4 : Int} (h_x0 : (-2147483648) ≤ x0 ∧ x0 ≤ 2147483647) (h_x1 : 0 ≤ x1 ∧ x1 ≤ 7) (h_x2 : (-100) ≤ x2 ∧ x2 ≤ 100) (h_x3 : (-2147483648) ≤ x3 ∧ x3 ≤ 0) (h_x4 : (-2147483648) ≤ x4 ∧ x4 ≤ 2147483647) : jT [x0, x1, x2, x3, x4] (d + 3) 379 30 551 [(5, (0, 0)), (4, (4, 3)), (3, (4, 2)), (2, (4, 1)), (1, (4, 0)), (0, (6, 0))] [] jpA_548 1 6 (fun k v hs' => k = 0 ∧ v = (0, 1)) := by
  refine jT_xaload_n (v := (4, 0)) (pc' := 552) jI_379_551 rfl rfl rfl ?_
  refine jT_xaload_n (v := (6, 0)) (pc' := 553) jI_379_552 rfl rfl rfl ?_
  refine jT_xiload (v := (0, 0)) (pc' := 555) jI_379_553 rfl rfl rfl ?_
  refine jT_xiconst (k := 1) (pc' := 556) jI_379_555 rfl ?_
  refine jT_xiadd (x := 0) (y := 1) (z := 1) (pc' := 557) jI_379_556 rfl (by decide) rfl ?_
  refine jT_adv 1 (pc' := 558) (L' := [(5, (0, 0)), (4, (4, 3)), (3, (4, 2)), (2, (4, 1)), (1, (4, 0)), (0, (6, 0))]) (st' := [(0, x1), (4, 0)]) (hs' := jpA_548) (c1 := 0) (s1 := 0) (c2 := 1) (s2 := 6) (by exact rfl) ?_ (by omega) (by omega)
  refine jT_xaload_n (v := (6, 0)) (pc' := 559) jI_379_558 rfl rfl rfl ?_
  refine jT_xiload (v := (0, 0)) (pc' := 561) jI_379_559 rfl rfl rfl ?_
  refine jT_xiconst (k := 2) (pc' := 562) jI_379_561 rfl ?_
  refine jT_xiadd (x := 0) (y := 2) (z := 2) (pc' := 563) jI_379_562 rfl (by decide) rfl ?_
  refine jT_adv 1 (pc' := 564) (L' := [(5, (0, 0)), (4, (4, 3)), (3, (4, 2)), (2, (4, 1)), (1, (4, 0)), (0, (6, 0))]) (st' := [(0, x2), (0, x1), (4, 0)]) (hs' := jpA_548) (c1 := 0) (s1 := 0) (c2 := 1) (s2 := 6) (by exact rfl) ?_ (by omega) (by omega)
  refine jT_xaload_n (v := (6, 0)) (pc' := 565) jI_379_564 rfl rfl rfl ?_
  refine jT_xiload (v := (0, 0)) (pc' := 567) jI_379_565 rfl rfl rfl ?_
  refine jT_xiconst (k := 3) (pc' := 568) jI_379_567 rfl ?_
  refine jT_xiadd (x := 0) (y := 3) (z := 3) (pc' := 569) jI_379_568 rfl (by decide) rfl ?_
  refine jT_adv 1 (pc' := 570) (L' := [(5, (0, 0)), (4, (4, 3)), (3, (4, 2)), (2, (4, 1)), (1, (4, 0)), (0, (6, 0))]) (st' := [(0, x3), (0, x2), (0, x1), (4, 0)]) (hs' := jpA_548) (c1 := 0) (s1 := 0) (c2 := 1) (s2 := 6) (by exact rfl) ?_ (by omega) (by omega)
  refine jT_xaload_n (v := (4, 2)) (pc' := 571) jI_379_570 rfl rfl rfl ?_
  refine jT_fR [0, 2, 4, 5, 6, 7, 8, 9, 10, 11, 12, 13, 14] 30 (y := 329) (pc' := 574) (dC := 2) (bc1 := 1) (bc2 := 6) (c1 := 0) (c2 := 0) (as := [(4, 0), (0, x1), (0, x2), (0, x3), (4, 2)]) (asC := [(4, 0), (0, x1), (0, x2), (0, x3), (4, 1)]) (L' := [(5, (0, 0)), (4, (4, 3)), (3, (4, 2)), (2, (4, 1)), (1, (4, 0)), (0, (6, 0))]) (st' := []) (hsC := jpA_275) (v := (0, 2)) (st2 := [(0, 2)]) (jA_329_79 (d := 0) (by omega) (by omega) (by omega)) (by rfl) (by rfl) (by decide +kernel) (by rfl) (by rfl) (by omega) (by omega) (by omega) (by omega) rfl ?_
  refine jT_xistore (v := (0, 2)) (L' := [(6, (0, 2)), (5, (0, 0)), (4, (4, 3)), (3, (4, 2)), (2, (4, 1)), (1, (4, 0)), (0, (6, 0))]) (pc' := 576) jI_379_574 rfl rfl rfl rfl ?_
  refine jT_xaload_n (v := (4, 1)) (pc' := 577) jI_379_576 rfl rfl rfl ?_
  refine jT_xaload_n (v := (6, 0)) (pc' := 578) jI_379_577 rfl rfl rfl ?_
  refine jT_xiload (v := (0, 0)) (pc' := 580) jI_379_578 rfl rfl rfl ?_
  refine jT_xiconst (k := 1) (pc' := 581) jI_379_580 rfl ?_
  refine jT_xiadd (x := 0) (y := 1) (z := 1) (pc' := 582) jI_379_581 rfl (by decide) rfl ?_
  refine jT_adv 1 (pc' := 583) (L' := [(6, (0, 2)), (5, (0, 0)), (4, (4, 3)), (3, (4, 2)), (2, (4, 1)), (1, (4, 0)), (0, (6, 0))]) (st' := [(0, x1), (4, 1)]) (hs' := jpA_548) (c1 := 0) (s1 := 0) (c2 := 0) (s2 := 0) (by exact rfl) ?_ (by omega) (by omega)
  refine jT_xaload_n (v := (6, 0)) (pc' := 584) jI_379_583 rfl rfl rfl ?_
  refine jT_xiload (v := (0, 0)) (pc' := 586) jI_379_584 rfl rfl rfl ?_
  refine jT_xiconst (k := 2) (pc' := 587) jI_379_586 rfl ?_
  refine jT_xiadd (x := 0) (y := 2) (z := 2) (pc' := 588) jI_379_587 rfl (by decide) rfl ?_
  refine jT_adv 1 (pc' := 589) (L' := [(6, (0, 2)), (5, (0, 0)), (4, (4, 3)), (3, (4, 2)), (2, (4, 1)), (1, (4, 0)), (0, (6, 0))]) (st' := [(0, x2), (0, x1), (4, 1)]) (hs' := jpA_548) (c1 := 0) (s1 := 0) (c2 := 0) (s2 := 0) (by exact rfl) ?_ (by omega) (by omega)
  refine jT_xaload_n (v := (6, 0)) (pc' := 590) jI_379_589 rfl rfl rfl ?_
  refine jT_xiload (v := (0, 0)) (pc' := 592) jI_379_590 rfl rfl rfl ?_
  refine jT_xiconst (k := 3) (pc' := 593) jI_379_592 rfl ?_
  refine jT_xiadd (x := 0) (y := 3) (z := 3) (pc' := 594) jI_379_593 rfl (by decide) rfl ?_
  refine jT_adv 1 (pc' := 595) (L' := [(6, (0, 2)), (5, (0, 0)), (4, (4, 3)), (3, (4, 2)), (2, (4, 1)), (1, (4, 0)), (0, (6, 0))]) (st' := [(0, x3), (0, x2), (0, x1), (4, 1)]) (hs' := jpA_548) (c1 := 0) (s1 := 0) (c2 := 0) (s2 := 0) (by exact rfl) ?_ (by omega) (by omega)
  refine jT_fB [1, 15, 16, 17, 18, 19, 20, 21, 22, 23, 24, 25, 26, 27, 28, 29] 30 (y := 206) (pc' := 598) (dC := 2) (bc1 := 0) (bc2 := 0) (c1 := 0) (c2 := 0) (as := [(4, 1), (0, x1), (0, x2), (0, x3)]) (asC := [(4, 0), (0, x1), (0, x2), (0, x3)]) (L' := [(6, (0, 2)), (5, (0, 0)), (4, (4, 3)), (3, (4, 2)), (2, (4, 1)), (1, (4, 0)), (0, (6, 0))]) (st' := []) (hsC := jpA_23) (hsD := jpA_49) (v := (0, 0)) (st2 := [(0, 0)]) (hs2 := jpA_580) (jA_206_80 (d := 0) (by omega) (by omega) (by omega)) (by rfl) (by rfl) (by decide +kernel) (by rfl) (by rfl) (by omega) (by omega) (by omega) (by omega) rfl (by decide +kernel) ?_
  refine jT_xistore (v := (0, 0)) (L' := [(7, (0, 0)), (6, (0, 2)), (5, (0, 0)), (4, (4, 3)), (3, (4, 2)), (2, (4, 1)), (1, (4, 0)), (0, (6, 0))]) (pc' := 600) jI_379_598 rfl rfl rfl rfl ?_
  refine jT_xaload_n (v := (4, 1)) (pc' := 601) jI_379_600 rfl rfl rfl ?_
  refine jT_fR [1, 15, 16, 17, 18, 19, 20, 21, 22, 23, 24, 25, 26, 27, 28, 29] 30 (y := 186) (pc' := 604) (dC := 0) (bc1 := 0) (bc2 := 0) (c1 := 0) (c2 := 0) (as := [(4, 1)]) (asC := [(4, 0)]) (L' := [(7, (0, 0)), (6, (0, 2)), (5, (0, 0)), (4, (4, 3)), (3, (4, 2)), (2, (4, 1)), (1, (4, 0)), (0, (6, 0))]) (st' := []) (hsC := jpA_49) (v := (0, 2)) (st2 := [(0, 2)]) (jA_186_16 (d := 0)) (by rfl) (by rfl) (by decide +kernel) (by rfl) (by rfl) (by omega) (by omega) (by omega) (by omega) rfl ?_
  refine jT_xiload (v := (0, 2)) (pc' := 606) jI_379_604 rfl rfl rfl ?_
  refine jT_xicT (pc' := 611) jI_379_606 rfl (by decide +kernel) rfl ?_
  refine jT_xiload (v := (0, 2)) (pc' := 613) jI_379_611 rfl rfl rfl ?_
  refine jT_xifT (pc' := 628) jI_379_613 rfl (by decide +kernel) rfl ?_
  refine jT_xgoto (pc' := 3740) jI_379_628 rfl ?_
  refine jT_xiinc (x := 0) (z := 5) (L' := [(5, (0, 5)), (7, (0, 0)), (6, (0, 2)), (4, (4, 3)), (3, (4, 2)), (2, (4, 1)), (1, (4, 0)), (0, (6, 0))]) (pc' := 3743) jI_379_3740 rfl rfl (by decide) rfl rfl ?_
  refine jT_xgoto (pc' := 28) jI_379_3743 rfl ?_
  refine jT_xiload (v := (0, 5)) (pc' := 30) jI_379_28 rfl rfl rfl ?_
  refine jT_xaload_n (v := (6, 0)) (pc' := 31) jI_379_30 rfl rfl rfl ?_
  refine jT_adv 1 (pc' := 32) (L' := [(5, (0, 5)), (7, (0, 0)), (6, (0, 2)), (4, (4, 3)), (3, (4, 2)), (2, (4, 1)), (1, (4, 0)), (0, (6, 0))]) (st' := [(0, 5), (0, 5)]) (hs' := jpA_580) (c1 := 0) (s1 := 0) (c2 := 0) (s2 := 0) (by exact rfl) ?_ (by omega) (by omega)
  refine jT_xiconst (k := 5) (pc' := 33) jI_379_32 rfl ?_
  refine jT_xisub (x := 5) (y := 5) (z := 0) (pc' := 34) jI_379_33 rfl (by decide) rfl ?_
  refine jT_xicT (pc' := 3746) jI_379_34 rfl (by decide +kernel) rfl ?_
  refine jT_xiconst (k := 1) (pc' := 3747) jI_379_3746 rfl ?_
  exact jT_ret rfl (by decide) (by show 30 ≤ 30; decide) (by omega) (by omega) ⟨rfl, rfl⟩
def jzA_581 : JC := (130, [], [35, 36, 37, 38, 39, 40, 41, 42])
def jzA_582 : JC := (114, [], [43, 43, 43, 43, 43, 43, 43, 43])
def jpA_583 : List JC := [jzA_211, jzA_212, (101, [], [0]), jgh, jgh, jgh, jgh, jgh, jgh, jgh, jgh, jgh, jgh, jzA_87, jzA_213, (100, [], jS0), (100, [], []), jzA_581, jzA_124, jgh, jgh, (101, [], [0, 0, 0, 0, 0, 0]), jgh, jgh, jgh, jgh, jgh, jgh, jgh, jgh, jzA_582, jgh, jgh, jgh, jgh, (100, [], (List.replicate 1613 0)), jgh, jgh, jgh, jgh, jgh, jgh, jgh, (4, [(4, 44), (1, 1)], []), (101, [], [0, 0, 0, 0, 0, 0])]
def jzA_584 : JC := (13, [(4, 4), (4, 5), (4, 6), (4, 7), (4, 8), (4, 9), (4, 10), (4, 11), (4, 12), (4, 13), (0, 1), (4, 48), (0, 0)], [])
def jzA_585 : JC := (9, [(4, 47), (4, 31), (4, 32), (4, 33), (4, 34)], [])
def jpA_586 : List JC := [jzA_584, jzA_212, (101, [], [1]), jgh, jgh, jgh, jgh, jgh, jgh, jgh, jgh, jgh, jgh, jzA_254, jzA_213, (100, [], jS0), (100, [], []), jzA_581, jzA_124, jgh, jgh, (101, [], [0, 0, 0, 0, 0, 0]), jgh, jgh, jgh, jgh, jgh, jgh, jgh, jgh, jzA_582, jgh, jgh, jgh, jgh, (100, [], (List.replicate 1613 0)), jgh, jgh, jgh, jgh, jgh, jgh, jgh, (4, [(4, 44), (1, 1)], []), (101, [], [0, 0, 0, 0, 0, 0]), (101, [], [0, 0, 0, 0, 0, 0]), (4, [(4, 45), (1, 1)], []), jgh, jzA_585]
theorem jI_379_616 : jmI (jm 379) 616 = (.aload_n 3, 1) := by rfl
theorem jI_379_617 : jmI (jm 379) 617 = (.iconst 0, 1) := by rfl
theorem jI_379_618 : jmI (jm 379) 618 = (.laload, 1) := by rfl
theorem jI_379_619 : jmI (jm 379) 619 = (.iload 7, 2) := by rfl
theorem jI_379_621 : jmI (jm 379) 621 = (.i2l, 1) := by rfl
theorem jI_379_623 : jmI (jm 379) 623 = (.ifCond .eq 5, 3) := by rfl
set_option maxRecDepth 100000 in
theorem jL_3_3 {d : Nat} {x0 x1 x2 x3 x4 : Int} (h_x0 : (-2147483648) ≤ x0 ∧ x0 ≤ 2147483647) (h_x1 : 0 ≤ x1 ∧ x1 ≤ 7) (h_x2 : (-100) ≤ x2 ∧ x2 ≤ 100) (h_x3 : 1 ≤ x3 ∧ x3 ≤ 1) (h_x4 : (-2147483648) ≤ x4 ∧ x4 ≤ 2147483647) : jT [x0, x1, x2, x3, x4] (d + 5) 379 45 551 [(5, (0, 0)), (4, (4, 3)), (3, (4, 2)), (2, (4, 1)), (1, (4, 0)), (0, (6, 0))] [] jpA_583 4 21 (fun k v hs' => k = 0 ∧ v = (0, 1)) := by
  refine jT_xaload_n (v := (4, 0)) (pc' := 552) jI_379_551 rfl rfl rfl ?_
  refine jT_xaload_n (v := (6, 0)) (pc' := 553) jI_379_552 rfl rfl rfl ?_
  refine jT_xiload (v := (0, 0)) (pc' := 555) jI_379_553 rfl rfl rfl ?_
  refine jT_xiconst (k := 1) (pc' := 556) jI_379_555 rfl ?_
  refine jT_xiadd (x := 0) (y := 1) (z := 1) (pc' := 557) jI_379_556 rfl (by decide) rfl ?_
  refine jT_adv 1 (pc' := 558) (L' := [(5, (0, 0)), (4, (4, 3)), (3, (4, 2)), (2, (4, 1)), (1, (4, 0)), (0, (6, 0))]) (st' := [(0, x1), (4, 0)]) (hs' := jpA_583) (c1 := 0) (s1 := 0) (c2 := 4) (s2 := 21) (by exact rfl) ?_ (by omega) (by omega)
  refine jT_xaload_n (v := (6, 0)) (pc' := 559) jI_379_558 rfl rfl rfl ?_
  refine jT_xiload (v := (0, 0)) (pc' := 561) jI_379_559 rfl rfl rfl ?_
  refine jT_xiconst (k := 2) (pc' := 562) jI_379_561 rfl ?_
  refine jT_xiadd (x := 0) (y := 2) (z := 2) (pc' := 563) jI_379_562 rfl (by decide) rfl ?_
  refine jT_adv 1 (pc' := 564) (L' := [(5, (0, 0)), (4, (4, 3)), (3, (4, 2)), (2, (4, 1)), (1, (4, 0)), (0, (6, 0))]) (st' := [(0, x2), (0, x1), (4, 0)]) (hs' := jpA_583) (c1 := 0) (s1 := 0) (c2 := 4) (s2 := 21) (by exact rfl) ?_ (by omega) (by omega)
  refine jT_xaload_n (v := (6, 0)) (pc' := 565) jI_379_564 rfl rfl rfl ?_
  refine jT_xiload (v := (0, 0)) (pc' := 567) jI_379_565 rfl rfl rfl ?_
  refine jT_xiconst (k := 3) (pc' := 568) jI_379_567 rfl ?_
  refine jT_xiadd (x := 0) (y := 3) (z := 3) (pc' := 569) jI_379_568 rfl (by decide) rfl ?_
  refine jT_adv 1 (pc' := 570) (L' := [(5, (0, 0)), (4, (4, 3)), (3, (4, 2)), (2, (4, 1)), (1, (4, 0)), (0, (6, 0))]) (st' := [(0, x3), (0, x2), (0, x1), (4, 0)]) (hs' := jpA_583) (c1 := 0) (s1 := 0) (c2 := 4) (s2 := 21) (by exact rfl) ?_ (by omega) (by omega)
  refine jT_eq (L' := [(5, (0, 0)), (4, (4, 3)), (3, (4, 2)), (2, (4, 1)), (1, (4, 0)), (0, (6, 0))]) (st' := [(0, 1), (0, x2), (0, x1), (4, 0)]) (hs' := [jzA_211, jzA_212, (101, [], [0]), jgh, jgh, jgh, jgh, jgh, jgh, jgh, jgh, jgh, jgh, jzA_87, jzA_213, (100, [], jS0), (100, [], []), jzA_581, jzA_124, jgh, jgh, (101, [], [0, 0, 0, 0, 0, 0]), jgh, jgh, jgh, jgh, jgh, jgh, jgh, jgh, jzA_582, jgh, jgh, jgh, jgh, (100, [], (List.replicate 1613 0)), jgh, jgh, jgh, jgh, jgh, jgh, jgh, (4, [(4, 44), (1, 1)], []), (101, [], [0, 0, 0, 0, 0, 0])]) (rfl) (by simp only [List.cons.injEq, Prod.mk.injEq, and_true, true_and] <;> ((try unfold jw); (try unfold jwl); omega)) (rfl) ?_
  refine jT_xaload_n (v := (4, 2)) (pc' := 571) jI_379_570 rfl rfl rfl ?_
  refine jT_fB [0, 2, 4, 5, 6, 7, 8, 9, 10, 11, 12, 13, 14, 30, 31, 32, 33, 34, 43, 44] 45 (y := 329) (pc' := 574) (dC := 4) (bc1 := 4) (bc2 := 21) (c1 := 0) (c2 := 0) (as := [(4, 0), (0, x1), (0, x2), (0, 1), (4, 2)]) (asC := [(4, 0), (0, x1), (0, x2), (0, 1), (4, 1)]) (L' := [(5, (0, 0)), (4, (4, 3)), (3, (4, 2)), (2, (4, 1)), (1, (4, 0)), (0, (6, 0))]) (st' := []) (hsC := jpA_372) (hsD := jpA_369) (v := (0, 0)) (st2 := [(0, 0)]) (hs2 := jpA_586) (jA_329_90 (d := 0) (by omega) (by omega)) (by rfl) (by rfl) (by decide +kernel) (by rfl) (by rfl) (by omega) (by omega) (by omega) (by omega) rfl (by decide +kernel) ?_
  refine jT_xistore (v := (0, 0)) (L' := [(6, (0, 0)), (5, (0, 0)), (4, (4, 3)), (3, (4, 2)), (2, (4, 1)), (1, (4, 0)), (0, (6, 0))]) (pc' := 576) jI_379_574 rfl rfl rfl rfl ?_
  refine jT_xaload_n (v := (4, 1)) (pc' := 577) jI_379_576 rfl rfl rfl ?_
  refine jT_xaload_n (v := (6, 0)) (pc' := 578) jI_379_577 rfl rfl rfl ?_
  refine jT_xiload (v := (0, 0)) (pc' := 580) jI_379_578 rfl rfl rfl ?_
  refine jT_xiconst (k := 1) (pc' := 581) jI_379_580 rfl ?_
  refine jT_xiadd (x := 0) (y := 1) (z := 1) (pc' := 582) jI_379_581 rfl (by decide) rfl ?_
  refine jT_adv 1 (pc' := 583) (L' := [(6, (0, 0)), (5, (0, 0)), (4, (4, 3)), (3, (4, 2)), (2, (4, 1)), (1, (4, 0)), (0, (6, 0))]) (st' := [(0, x1), (4, 1)]) (hs' := jpA_586) (c1 := 0) (s1 := 0) (c2 := 0) (s2 := 0) (by exact rfl) ?_ (by omega) (by omega)
  refine jT_xaload_n (v := (6, 0)) (pc' := 584) jI_379_583 rfl rfl rfl ?_
  refine jT_xiload (v := (0, 0)) (pc' := 586) jI_379_584 rfl rfl rfl ?_
  refine jT_xiconst (k := 2) (pc' := 587) jI_379_586 rfl ?_
  refine jT_xiadd (x := 0) (y := 2) (z := 2) (pc' := 588) jI_379_587 rfl (by decide) rfl ?_
  refine jT_adv 1 (pc' := 589) (L' := [(6, (0, 0)), (5, (0, 0)), (4, (4, 3)), (3, (4, 2)), (2, (4, 1)), (1, (4, 0)), (0, (6, 0))]) (st' := [(0, x2), (0, x1), (4, 1)]) (hs' := jpA_586) (c1 := 0) (s1 := 0) (c2 := 0) (s2 := 0) (by exact rfl) ?_ (by omega) (by omega)
  refine jT_xaload_n (v := (6, 0)) (pc' := 590) jI_379_589 rfl rfl rfl ?_
  refine jT_xiload (v := (0, 0)) (pc' := 592) jI_379_590 rfl rfl rfl ?_
  refine jT_xiconst (k := 3) (pc' := 593) jI_379_592 rfl ?_
  refine jT_xiadd (x := 0) (y := 3) (z := 3) (pc' := 594) jI_379_593 rfl (by decide) rfl ?_
  refine jT_adv 1 (pc' := 595) (L' := [(6, (0, 0)), (5, (0, 0)), (4, (4, 3)), (3, (4, 2)), (2, (4, 1)), (1, (4, 0)), (0, (6, 0))]) (st' := [(0, x3), (0, x2), (0, x1), (4, 1)]) (hs' := jpA_586) (c1 := 0) (s1 := 0) (c2 := 0) (s2 := 0) (by exact rfl) ?_ (by omega) (by omega)
  refine jT_eq (L' := [(6, (0, 0)), (5, (0, 0)), (4, (4, 3)), (3, (4, 2)), (2, (4, 1)), (1, (4, 0)), (0, (6, 0))]) (st' := [(0, 1), (0, x2), (0, x1), (4, 1)]) (hs' := [jzA_584, jzA_212, (101, [], [1]), jgh, jgh, jgh, jgh, jgh, jgh, jgh, jgh, jgh, jgh, jzA_254, jzA_213, (100, [], jS0), (100, [], []), jzA_581, jzA_124, jgh, jgh, (101, [], [0, 0, 0, 0, 0, 0]), jgh, jgh, jgh, jgh, jgh, jgh, jgh, jgh, jzA_582, jgh, jgh, jgh, jgh, (100, [], (List.replicate 1613 0)), jgh, jgh, jgh, jgh, jgh, jgh, jgh, (4, [(4, 44), (1, 1)], []), (101, [], [0, 0, 0, 0, 0, 0]), (101, [], [0, 0, 0, 0, 0, 0]), (4, [(4, 45), (1, 1)], []), jgh, jzA_585]) (rfl) (by simp only [List.cons.injEq, Prod.mk.injEq, and_true, true_and] <;> ((try unfold jw); (try unfold jwl); omega)) (rfl) ?_
  refine jT_fB [1, 15, 16, 17, 18, 19, 20, 21, 22, 23, 24, 25, 26, 27, 28, 29, 35, 36, 37, 38, 39, 40, 41, 42] 49 (y := 206) (pc' := 598) (dC := 3) (bc1 := 0) (bc2 := 0) (c1 := 0) (c2 := 0) (as := [(4, 1), (0, x1), (0, x2), (0, 1)]) (asC := [(4, 0), (0, x1), (0, x2), (0, 1)]) (L' := [(6, (0, 0)), (5, (0, 0)), (4, (4, 3)), (3, (4, 2)), (2, (4, 1)), (1, (4, 0)), (0, (6, 0))]) (st' := []) (hsC := jpA_424) (hsD := [jzA_127, (100, [], ((((((((((((((jS0).set ((7 * x1).toNat) 0)).set ((7 * x1 + 1).toNat) 0)).set ((7 * x1 + 2).toNat) 0)).set ((7 * x1 + 3).toNat) 0)).set ((7 * x1 + 4).toNat) 0)).set ((7 * x1 + 5).toNat) 0)).set ((7 * x1 + 6).toNat) 1)), (100, [], []), jzA_123, jzA_128, jgh, jgh, (101, [], [0, 0, 0, 0, 0, 0]), jgh, jgh, jgh, jgh, jgh, jgh, jgh, jgh, (100, [], jS0), jgh, jgh, jgh, jgh, jgh, jgh, jgh]) (v := (0, 1)) (st2 := [(0, 1)]) (hs2 := [jzA_584, jzA_257, (101, [], [1]), jgh, jgh, jgh, jgh, jgh, jgh, jgh, jgh, jgh, jgh, jzA_254, jzA_213, (100, [], ((((((((((((((jS0).set ((7 * x1).toNat) 0)).set ((7 * x1 + 1).toNat) 0)).set ((7 * x1 + 2).toNat) 0)).set ((7 * x1 + 3).toNat) 0)).set ((7 * x1 + 4).toNat) 0)).set ((7 * x1 + 5).toNat) 0)).set ((7 * x1 + 6).toNat) 1)), (100, [], []), jzA_581, jzA_258, jgh, jgh, (101, [], [0, 0, 0, 0, 0, 0]), jgh, jgh, jgh, jgh, jgh, jgh, jgh, jgh, jzA_582, jgh, jgh, jgh, jgh, (100, [], jS0), jgh, jgh, jgh, jgh, jgh, jgh, jgh, (4, [(4, 44), (1, 1)], []), (101, [], [0, 0, 0, 0, 0, 0]), (101, [], [0, 0, 0, 0, 0, 0]), (4, [(4, 45), (1, 1)], []), jgh, jzA_585]) (jA_206_103 (d := 0) (by omega) (by omega)) (by rfl) (by rfl) (by decide +kernel) (by rfl) (by rfl) (by omega) (by omega) (by omega) (by omega) rfl rfl ?_
  refine jT_xistore (v := (0, 1)) (L' := [(7, (0, 1)), (6, (0, 0)), (5, (0, 0)), (4, (4, 3)), (3, (4, 2)), (2, (4, 1)), (1, (4, 0)), (0, (6, 0))]) (pc' := 600) jI_379_598 rfl rfl rfl rfl ?_
  refine jT_xaload_n (v := (4, 1)) (pc' := 601) jI_379_600 rfl rfl rfl ?_
  refine jT_callA [1, 15, 16, 17, 18, 19, 20, 21, 22, 23, 24, 25, 26, 27, 28, 29] (y := 186) (pc' := 604) (dC := 0) (bc1 := 0) (bc2 := 0) (c1 := 0) (c2 := 0) (as := [(4, 1)]) (asC := [(4, 0)]) (L' := [(7, (0, 1)), (6, (0, 0)), (5, (0, 0)), (4, (4, 3)), (3, (4, 2)), (2, (4, 1)), (1, (4, 0)), (0, (6, 0))]) (st' := []) (hsC := jpA_202) (ex := []) (v := (0, 0)) (st2 := [(0, 0)]) (hs2 := [jzA_584, jzA_257, (101, [], [1]), jgh, jgh, jgh, jgh, jgh, jgh, jgh, jgh, jgh, jgh, jzA_254, jzA_213, (100, [], ((((((((((((((jS0).set ((7 * x1).toNat) 0)).set ((7 * x1 + 1).toNat) 0)).set ((7 * x1 + 2).toNat) 0)).set ((7 * x1 + 3).toNat) 0)).set ((7 * x1 + 4).toNat) 0)).set ((7 * x1 + 5).toNat) 0)).set ((7 * x1 + 6).toNat) 1)), (100, [], []), jzA_581, jzA_258, jgh, jgh, (101, [], [0, 0, 0, 0, 0, 0]), jgh, jgh, jgh, jgh, jgh, jgh, jgh, jgh, jzA_582, jgh, jgh, jgh, jgh, (100, [], jS0), jgh, jgh, jgh, jgh, jgh, jgh, jgh, (4, [(4, 44), (1, 1)], []), (101, [], [0, 0, 0, 0, 0, 0]), (101, [], [0, 0, 0, 0, 0, 0]), (4, [(4, 45), (1, 1)], []), jgh, jzA_585]) (jA_186_53 (d := 0)) (by rfl) (by rfl) (by rfl) (by rfl) ⟨rfl, rfl, rfl, rfl, rfl, rfl, rfl, rfl, rfl, rfl, rfl, rfl, rfl, rfl, rfl, rfl, trivial⟩ (by rfl) (by rfl) (by omega) (by show 45 ≤ 49; omega) (by omega) (by omega) rfl rfl ?_
  refine jT_xiload (v := (0, 0)) (pc' := 606) jI_379_604 rfl rfl rfl ?_
  refine jT_xicT (pc' := 611) jI_379_606 rfl (by decide +kernel) rfl ?_
  refine jT_xiload (v := (0, 0)) (pc' := 613) jI_379_611 rfl rfl rfl ?_
  refine jT_xifF (t := 628) (pc' := 616) jI_379_613 rfl (by decide +kernel) rfl rfl ?_
  refine jT_xaload_n (v := (4, 2)) (pc' := 617) jI_379_616 rfl rfl rfl ?_
  refine jT_xiconst (k := 0) (pc' := 618) jI_379_617 rfl ?_
  refine jT_lald (x := 1) (a := 2) (j := 0) (fs := []) (X := [1]) jI_379_618 rfl rfl rfl rfl ?_
  refine jT_eq (L' := [(7, (0, 1)), (6, (0, 0)), (5, (0, 0)), (4, (4, 3)), (3, (4, 2)), (2, (4, 1)), (1, (4, 0)), (0, (6, 0))]) (st' := [(1, 1)]) (hs' := [jzA_584, jzA_257, (101, [], [1]), jgh, jgh, jgh, jgh, jgh, jgh, jgh, jgh, jgh, jgh, jzA_254, jzA_213, (100, [], ((((((((((((((jS0).set ((7 * x1).toNat) 0)).set ((7 * x1 + 1).toNat) 0)).set ((7 * x1 + 2).toNat) 0)).set ((7 * x1 + 3).toNat) 0)).set ((7 * x1 + 4).toNat) 0)).set ((7 * x1 + 5).toNat) 0)).set ((7 * x1 + 6).toNat) 1)), (100, [], []), jzA_581, jzA_258, jgh, jgh, (101, [], [0, 0, 0, 0, 0, 0]), jgh, jgh, jgh, jgh, jgh, jgh, jgh, jgh, jzA_582, jgh, jgh, jgh, jgh, (100, [], jS0), jgh, jgh, jgh, jgh, jgh, jgh, jgh, (4, [(4, 44), (1, 1)], []), (101, [], [0, 0, 0, 0, 0, 0]), (101, [], [0, 0, 0, 0, 0, 0]), (4, [(4, 45), (1, 1)], []), jgh, jzA_585]) rfl rfl rfl ?_
  refine jT_xiload (v := (0, 1)) (pc' := 621) jI_379_619 rfl rfl rfl ?_
  refine jT_xi2l (x := 1) (z := 1) (pc' := 622) jI_379_621 rfl (by decide +kernel) rfl ?_
  refine jT_lcmp (a := 1) (b := 1) (z := 0) (by rfl) (by rfl) (by decide +kernel) (by decide +kernel) (by decide) ?_
  refine jT_xifT (pc' := 628) jI_379_623 rfl (by decide +kernel) rfl ?_
  refine jT_xgoto (pc' := 3740) jI_379_628 rfl ?_
  refine jT_xiinc (x := 0) (z := 5) (L' := [(5, (0, 5)), (7, (0, 1)), (6, (0, 0)), (4, (4, 3)), (3, (4, 2)), (2, (4, 1)), (1, (4, 0)), (0, (6, 0))]) (pc' := 3743) jI_379_3740 rfl rfl (by decide) rfl rfl ?_
  refine jT_xgoto (pc' := 28) jI_379_3743 rfl ?_
  refine jT_xiload (v := (0, 5)) (pc' := 30) jI_379_28 rfl rfl rfl ?_
  refine jT_xaload_n (v := (6, 0)) (pc' := 31) jI_379_30 rfl rfl rfl ?_
  refine jT_adv 1 (pc' := 32) (L' := [(5, (0, 5)), (7, (0, 1)), (6, (0, 0)), (4, (4, 3)), (3, (4, 2)), (2, (4, 1)), (1, (4, 0)), (0, (6, 0))]) (st' := [(0, 5), (0, 5)]) (hs' := [jzA_584, jzA_257, (101, [], [1]), jgh, jgh, jgh, jgh, jgh, jgh, jgh, jgh, jgh, jgh, jzA_254, jzA_213, (100, [], ((((((((((((((jS0).set ((7 * x1).toNat) 0)).set ((7 * x1 + 1).toNat) 0)).set ((7 * x1 + 2).toNat) 0)).set ((7 * x1 + 3).toNat) 0)).set ((7 * x1 + 4).toNat) 0)).set ((7 * x1 + 5).toNat) 0)).set ((7 * x1 + 6).toNat) 1)), (100, [], []), jzA_581, jzA_258, jgh, jgh, (101, [], [0, 0, 0, 0, 0, 0]), jgh, jgh, jgh, jgh, jgh, jgh, jgh, jgh, jzA_582, jgh, jgh, jgh, jgh, (100, [], jS0), jgh, jgh, jgh, jgh, jgh, jgh, jgh, (4, [(4, 44), (1, 1)], []), (101, [], [0, 0, 0, 0, 0, 0]), (101, [], [0, 0, 0, 0, 0, 0]), (4, [(4, 45), (1, 1)], []), jgh, jzA_585]) (c1 := 0) (s1 := 0) (c2 := 0) (s2 := 0) (by exact rfl) ?_ (by omega) (by omega)
  refine jT_xiconst (k := 5) (pc' := 33) jI_379_32 rfl ?_
  refine jT_xisub (x := 5) (y := 5) (z := 0) (pc' := 34) jI_379_33 rfl (by decide) rfl ?_
  refine jT_xicT (pc' := 3746) jI_379_34 rfl (by decide +kernel) rfl ?_
  refine jT_xiconst (k := 1) (pc' := 3747) jI_379_3746 rfl ?_
  exact jT_ret rfl (by decide) (by show 45 ≤ 49; decide) (by omega) (by omega) ⟨rfl, rfl⟩
set_option maxRecDepth 100000 in
theorem jL_3_4 {d : Nat} {x0 x1 x2 x3 x4 : Int} (h_x0 : (-2147483648) ≤ x0 ∧ x0 ≤ 2147483647) (h_x1 : 0 ≤ x1 ∧ x1 ≤ 7) (h_x2 : (-100) ≤ x2 ∧ x2 ≤ 100) (h_x3 : 2 ≤ x3 ∧ x3 ≤ 24) (h_x4 : (-2147483648) ≤ x4 ∧ x4 ≤ 2147483647) : jT [x0, x1, x2, x3, x4] (d + 6) 379 45 551 [(5, (0, 0)), (4, (4, 3)), (3, (4, 2)), (2, (4, 1)), (1, (4, 0)), (0, (6, 0))] [] jpA_583 4 21 (fun k v hs' => k = 0 ∧ v = (0, 1)) := by
  refine jT_xaload_n (v := (4, 0)) (pc' := 552) jI_379_551 rfl rfl rfl ?_
  refine jT_xaload_n (v := (6, 0)) (pc' := 553) jI_379_552 rfl rfl rfl ?_
  refine jT_xiload (v := (0, 0)) (pc' := 555) jI_379_553 rfl rfl rfl ?_
  refine jT_xiconst (k := 1) (pc' := 556) jI_379_555 rfl ?_
  refine jT_xiadd (x := 0) (y := 1) (z := 1) (pc' := 557) jI_379_556 rfl (by decide) rfl ?_
  refine jT_adv 1 (pc' := 558) (L' := [(5, (0, 0)), (4, (4, 3)), (3, (4, 2)), (2, (4, 1)), (1, (4, 0)), (0, (6, 0))]) (st' := [(0, x1), (4, 0)]) (hs' := jpA_583) (c1 := 0) (s1 := 0) (c2 := 4) (s2 := 21) (by exact rfl) ?_ (by omega) (by omega)
  refine jT_xaload_n (v := (6, 0)) (pc' := 559) jI_379_558 rfl rfl rfl ?_
  refine jT_xiload (v := (0, 0)) (pc' := 561) jI_379_559 rfl rfl rfl ?_
  refine jT_xiconst (k := 2) (pc' := 562) jI_379_561 rfl ?_
  refine jT_xiadd (x := 0) (y := 2) (z := 2) (pc' := 563) jI_379_562 rfl (by decide) rfl ?_
  refine jT_adv 1 (pc' := 564) (L' := [(5, (0, 0)), (4, (4, 3)), (3, (4, 2)), (2, (4, 1)), (1, (4, 0)), (0, (6, 0))]) (st' := [(0, x2), (0, x1), (4, 0)]) (hs' := jpA_583) (c1 := 0) (s1 := 0) (c2 := 4) (s2 := 21) (by exact rfl) ?_ (by omega) (by omega)
  refine jT_xaload_n (v := (6, 0)) (pc' := 565) jI_379_564 rfl rfl rfl ?_
  refine jT_xiload (v := (0, 0)) (pc' := 567) jI_379_565 rfl rfl rfl ?_
  refine jT_xiconst (k := 3) (pc' := 568) jI_379_567 rfl ?_
  refine jT_xiadd (x := 0) (y := 3) (z := 3) (pc' := 569) jI_379_568 rfl (by decide) rfl ?_
  refine jT_adv 1 (pc' := 570) (L' := [(5, (0, 0)), (4, (4, 3)), (3, (4, 2)), (2, (4, 1)), (1, (4, 0)), (0, (6, 0))]) (st' := [(0, x3), (0, x2), (0, x1), (4, 0)]) (hs' := jpA_583) (c1 := 0) (s1 := 0) (c2 := 4) (s2 := 21) (by exact rfl) ?_ (by omega) (by omega)
  refine jT_xaload_n (v := (4, 2)) (pc' := 571) jI_379_570 rfl rfl rfl ?_
  refine jT_fB [0, 2, 4, 5, 6, 7, 8, 9, 10, 11, 12, 13, 14, 30, 31, 32, 33, 34, 43, 44] 45 (y := 329) (pc' := 574) (dC := 5) (bc1 := 4) (bc2 := 21) (c1 := 0) (c2 := 0) (as := [(4, 0), (0, x1), (0, x2), (0, x3), (4, 2)]) (asC := [(4, 0), (0, x1), (0, x2), (0, x3), (4, 1)]) (L' := [(5, (0, 0)), (4, (4, 3)), (3, (4, 2)), (2, (4, 1)), (1, (4, 0)), (0, (6, 0))]) (st' := []) (hsC := jpA_372) (hsD := jpA_369) (v := (0, 0)) (st2 := [(0, 0)]) (hs2 := jpA_586) (jA_329_110 (d := 0) (by omega) (by omega) (by omega)) (by rfl) (by rfl) (by decide +kernel) (by rfl) (by rfl) (by omega) (by omega) (by omega) (by omega) rfl (by decide +kernel) ?_
  refine jT_xistore (v := (0, 0)) (L' := [(6, (0, 0)), (5, (0, 0)), (4, (4, 3)), (3, (4, 2)), (2, (4, 1)), (1, (4, 0)), (0, (6, 0))]) (pc' := 576) jI_379_574 rfl rfl rfl rfl ?_
  refine jT_xaload_n (v := (4, 1)) (pc' := 577) jI_379_576 rfl rfl rfl ?_
  refine jT_xaload_n (v := (6, 0)) (pc' := 578) jI_379_577 rfl rfl rfl ?_
  refine jT_xiload (v := (0, 0)) (pc' := 580) jI_379_578 rfl rfl rfl ?_
  refine jT_xiconst (k := 1) (pc' := 581) jI_379_580 rfl ?_
  refine jT_xiadd (x := 0) (y := 1) (z := 1) (pc' := 582) jI_379_581 rfl (by decide) rfl ?_
  refine jT_adv 1 (pc' := 583) (L' := [(6, (0, 0)), (5, (0, 0)), (4, (4, 3)), (3, (4, 2)), (2, (4, 1)), (1, (4, 0)), (0, (6, 0))]) (st' := [(0, x1), (4, 1)]) (hs' := jpA_586) (c1 := 0) (s1 := 0) (c2 := 0) (s2 := 0) (by exact rfl) ?_ (by omega) (by omega)
  refine jT_xaload_n (v := (6, 0)) (pc' := 584) jI_379_583 rfl rfl rfl ?_
  refine jT_xiload (v := (0, 0)) (pc' := 586) jI_379_584 rfl rfl rfl ?_
  refine jT_xiconst (k := 2) (pc' := 587) jI_379_586 rfl ?_
  refine jT_xiadd (x := 0) (y := 2) (z := 2) (pc' := 588) jI_379_587 rfl (by decide) rfl ?_
  refine jT_adv 1 (pc' := 589) (L' := [(6, (0, 0)), (5, (0, 0)), (4, (4, 3)), (3, (4, 2)), (2, (4, 1)), (1, (4, 0)), (0, (6, 0))]) (st' := [(0, x2), (0, x1), (4, 1)]) (hs' := jpA_586) (c1 := 0) (s1 := 0) (c2 := 0) (s2 := 0) (by exact rfl) ?_ (by omega) (by omega)
  refine jT_xaload_n (v := (6, 0)) (pc' := 590) jI_379_589 rfl rfl rfl ?_
  refine jT_xiload (v := (0, 0)) (pc' := 592) jI_379_590 rfl rfl rfl ?_
  refine jT_xiconst (k := 3) (pc' := 593) jI_379_592 rfl ?_
  refine jT_xiadd (x := 0) (y := 3) (z := 3) (pc' := 594) jI_379_593 rfl (by decide) rfl ?_
  refine jT_adv 1 (pc' := 595) (L' := [(6, (0, 0)), (5, (0, 0)), (4, (4, 3)), (3, (4, 2)), (2, (4, 1)), (1, (4, 0)), (0, (6, 0))]) (st' := [(0, x3), (0, x2), (0, x1), (4, 1)]) (hs' := jpA_586) (c1 := 0) (s1 := 0) (c2 := 0) (s2 := 0) (by exact rfl) ?_ (by omega) (by omega)
  refine jT_fB [1, 15, 16, 17, 18, 19, 20, 21, 22, 23, 24, 25, 26, 27, 28, 29, 35, 36, 37, 38, 39, 40, 41, 42] 49 (y := 206) (pc' := 598) (dC := 3) (bc1 := 0) (bc2 := 0) (c1 := 0) (c2 := 0) (as := [(4, 1), (0, x1), (0, x2), (0, x3)]) (asC := [(4, 0), (0, x1), (0, x2), (0, x3)]) (L' := [(6, (0, 0)), (5, (0, 0)), (4, (4, 3)), (3, (4, 2)), (2, (4, 1)), (1, (4, 0)), (0, (6, 0))]) (st' := []) (hsC := jpA_424) (hsD := [jzA_127, (100, [], ((((((((((((((jS0).set ((7 * x1).toNat) 0)).set ((7 * x1 + 1).toNat) 0)).set ((7 * x1 + 2).toNat) 0)).set ((7 * x1 + 3).toNat) 0)).set ((7 * x1 + 4).toNat) 0)).set ((7 * x1 + 5).toNat) 0)).set ((7 * x1 + 6).toNat) 1)), (100, [], []), jzA_123, jzA_128, jgh, jgh, (101, [], [0, 0, 0, 0, 0, 0]), jgh, jgh, jgh, jgh, jgh, jgh, jgh, jgh, (100, [], jS0), jgh, jgh, jgh, jgh, jgh, jgh, jgh]) (v := (0, 1)) (st2 := [(0, 1)]) (hs2 := [jzA_584, jzA_257, (101, [], [1]), jgh, jgh, jgh, jgh, jgh, jgh, jgh, jgh, jgh, jgh, jzA_254, jzA_213, (100, [], ((((((((((((((jS0).set ((7 * x1).toNat) 0)).set ((7 * x1 + 1).toNat) 0)).set ((7 * x1 + 2).toNat) 0)).set ((7 * x1 + 3).toNat) 0)).set ((7 * x1 + 4).toNat) 0)).set ((7 * x1 + 5).toNat) 0)).set ((7 * x1 + 6).toNat) 1)), (100, [], []), jzA_581, jzA_258, jgh, jgh, (101, [], [0, 0, 0, 0, 0, 0]), jgh, jgh, jgh, jgh, jgh, jgh, jgh, jgh, jzA_582, jgh, jgh, jgh, jgh, (100, [], jS0), jgh, jgh, jgh, jgh, jgh, jgh, jgh, (4, [(4, 44), (1, 1)], []), (101, [], [0, 0, 0, 0, 0, 0]), (101, [], [0, 0, 0, 0, 0, 0]), (4, [(4, 45), (1, 1)], []), jgh, jzA_585]) (jA_206_114 (d := 0) (by omega) (by omega) (by omega)) (by rfl) (by rfl) (by decide +kernel) (by rfl) (by rfl) (by omega) (by omega) (by omega) (by omega) rfl rfl ?_
  refine jT_xistore (v := (0, 1)) (L' := [(7, (0, 1)), (6, (0, 0)), (5, (0, 0)), (4, (4, 3)), (3, (4, 2)), (2, (4, 1)), (1, (4, 0)), (0, (6, 0))]) (pc' := 600) jI_379_598 rfl rfl rfl rfl ?_
  refine jT_xaload_n (v := (4, 1)) (pc' := 601) jI_379_600 rfl rfl rfl ?_
  refine jT_callA [1, 15, 16, 17, 18, 19, 20, 21, 22, 23, 24, 25, 26, 27, 28, 29] (y := 186) (pc' := 604) (dC := 0) (bc1 := 0) (bc2 := 0) (c1 := 0) (c2 := 0) (as := [(4, 1)]) (asC := [(4, 0)]) (L' := [(7, (0, 1)), (6, (0, 0)), (5, (0, 0)), (4, (4, 3)), (3, (4, 2)), (2, (4, 1)), (1, (4, 0)), (0, (6, 0))]) (st' := []) (hsC := jpA_202) (ex := []) (v := (0, 0)) (st2 := [(0, 0)]) (hs2 := [jzA_584, jzA_257, (101, [], [1]), jgh, jgh, jgh, jgh, jgh, jgh, jgh, jgh, jgh, jgh, jzA_254, jzA_213, (100, [], ((((((((((((((jS0).set ((7 * x1).toNat) 0)).set ((7 * x1 + 1).toNat) 0)).set ((7 * x1 + 2).toNat) 0)).set ((7 * x1 + 3).toNat) 0)).set ((7 * x1 + 4).toNat) 0)).set ((7 * x1 + 5).toNat) 0)).set ((7 * x1 + 6).toNat) 1)), (100, [], []), jzA_581, jzA_258, jgh, jgh, (101, [], [0, 0, 0, 0, 0, 0]), jgh, jgh, jgh, jgh, jgh, jgh, jgh, jgh, jzA_582, jgh, jgh, jgh, jgh, (100, [], jS0), jgh, jgh, jgh, jgh, jgh, jgh, jgh, (4, [(4, 44), (1, 1)], []), (101, [], [0, 0, 0, 0, 0, 0]), (101, [], [0, 0, 0, 0, 0, 0]), (4, [(4, 45), (1, 1)], []), jgh, jzA_585]) (jA_186_53 (d := 0)) (by rfl) (by rfl) (by rfl) (by rfl) ⟨rfl, rfl, rfl, rfl, rfl, rfl, rfl, rfl, rfl, rfl, rfl, rfl, rfl, rfl, rfl, rfl, trivial⟩ (by rfl) (by rfl) (by omega) (by show 45 ≤ 49; omega) (by omega) (by omega) rfl rfl ?_
  refine jT_xiload (v := (0, 0)) (pc' := 606) jI_379_604 rfl rfl rfl ?_
  refine jT_xicT (pc' := 611) jI_379_606 rfl (by decide +kernel) rfl ?_
  refine jT_xiload (v := (0, 0)) (pc' := 613) jI_379_611 rfl rfl rfl ?_
  refine jT_xifF (t := 628) (pc' := 616) jI_379_613 rfl (by decide +kernel) rfl rfl ?_
  refine jT_xaload_n (v := (4, 2)) (pc' := 617) jI_379_616 rfl rfl rfl ?_
  refine jT_xiconst (k := 0) (pc' := 618) jI_379_617 rfl ?_
  refine jT_lald (x := 1) (a := 2) (j := 0) (fs := []) (X := [1]) jI_379_618 rfl rfl rfl rfl ?_
  refine jT_eq (L' := [(7, (0, 1)), (6, (0, 0)), (5, (0, 0)), (4, (4, 3)), (3, (4, 2)), (2, (4, 1)), (1, (4, 0)), (0, (6, 0))]) (st' := [(1, 1)]) (hs' := [jzA_584, jzA_257, (101, [], [1]), jgh, jgh, jgh, jgh, jgh, jgh, jgh, jgh, jgh, jgh, jzA_254, jzA_213, (100, [], ((((((((((((((jS0).set ((7 * x1).toNat) 0)).set ((7 * x1 + 1).toNat) 0)).set ((7 * x1 + 2).toNat) 0)).set ((7 * x1 + 3).toNat) 0)).set ((7 * x1 + 4).toNat) 0)).set ((7 * x1 + 5).toNat) 0)).set ((7 * x1 + 6).toNat) 1)), (100, [], []), jzA_581, jzA_258, jgh, jgh, (101, [], [0, 0, 0, 0, 0, 0]), jgh, jgh, jgh, jgh, jgh, jgh, jgh, jgh, jzA_582, jgh, jgh, jgh, jgh, (100, [], jS0), jgh, jgh, jgh, jgh, jgh, jgh, jgh, (4, [(4, 44), (1, 1)], []), (101, [], [0, 0, 0, 0, 0, 0]), (101, [], [0, 0, 0, 0, 0, 0]), (4, [(4, 45), (1, 1)], []), jgh, jzA_585]) rfl rfl rfl ?_
  refine jT_xiload (v := (0, 1)) (pc' := 621) jI_379_619 rfl rfl rfl ?_
  refine jT_xi2l (x := 1) (z := 1) (pc' := 622) jI_379_621 rfl (by decide +kernel) rfl ?_
  refine jT_lcmp (a := 1) (b := 1) (z := 0) (by rfl) (by rfl) (by decide +kernel) (by decide +kernel) (by decide) ?_
  refine jT_xifT (pc' := 628) jI_379_623 rfl (by decide +kernel) rfl ?_
  refine jT_xgoto (pc' := 3740) jI_379_628 rfl ?_
  refine jT_xiinc (x := 0) (z := 5) (L' := [(5, (0, 5)), (7, (0, 1)), (6, (0, 0)), (4, (4, 3)), (3, (4, 2)), (2, (4, 1)), (1, (4, 0)), (0, (6, 0))]) (pc' := 3743) jI_379_3740 rfl rfl (by decide) rfl rfl ?_
  refine jT_xgoto (pc' := 28) jI_379_3743 rfl ?_
  refine jT_xiload (v := (0, 5)) (pc' := 30) jI_379_28 rfl rfl rfl ?_
  refine jT_xaload_n (v := (6, 0)) (pc' := 31) jI_379_30 rfl rfl rfl ?_
  refine jT_adv 1 (pc' := 32) (L' := [(5, (0, 5)), (7, (0, 1)), (6, (0, 0)), (4, (4, 3)), (3, (4, 2)), (2, (4, 1)), (1, (4, 0)), (0, (6, 0))]) (st' := [(0, 5), (0, 5)]) (hs' := [jzA_584, jzA_257, (101, [], [1]), jgh, jgh, jgh, jgh, jgh, jgh, jgh, jgh, jgh, jgh, jzA_254, jzA_213, (100, [], ((((((((((((((jS0).set ((7 * x1).toNat) 0)).set ((7 * x1 + 1).toNat) 0)).set ((7 * x1 + 2).toNat) 0)).set ((7 * x1 + 3).toNat) 0)).set ((7 * x1 + 4).toNat) 0)).set ((7 * x1 + 5).toNat) 0)).set ((7 * x1 + 6).toNat) 1)), (100, [], []), jzA_581, jzA_258, jgh, jgh, (101, [], [0, 0, 0, 0, 0, 0]), jgh, jgh, jgh, jgh, jgh, jgh, jgh, jgh, jzA_582, jgh, jgh, jgh, jgh, (100, [], jS0), jgh, jgh, jgh, jgh, jgh, jgh, jgh, (4, [(4, 44), (1, 1)], []), (101, [], [0, 0, 0, 0, 0, 0]), (101, [], [0, 0, 0, 0, 0, 0]), (4, [(4, 45), (1, 1)], []), jgh, jzA_585]) (c1 := 0) (s1 := 0) (c2 := 0) (s2 := 0) (by exact rfl) ?_ (by omega) (by omega)
  refine jT_xiconst (k := 5) (pc' := 33) jI_379_32 rfl ?_
  refine jT_xisub (x := 5) (y := 5) (z := 0) (pc' := 34) jI_379_33 rfl (by decide) rfl ?_
  refine jT_xicT (pc' := 3746) jI_379_34 rfl (by decide +kernel) rfl ?_
  refine jT_xiconst (k := 1) (pc' := 3747) jI_379_3746 rfl ?_
  exact jT_ret rfl (by decide) (by show 45 ≤ 49; decide) (by omega) (by omega) ⟨rfl, rfl⟩
set_option maxRecDepth 100000 in
theorem jL_3_5 {d : Nat} {x0 x1 x2 x3 x4 : Int} (h_x0 : (-2147483648) ≤ x0 ∧ x0 ≤ 2147483647) (h_x1 : 0 ≤ x1 ∧ x1 ≤ 7) (h_x2 : (-100) ≤ x2 ∧ x2 ≤ 100) (h_x3 : 25 ≤ x3 ∧ x3 ≤ 2147483647) (h_x4 : (-2147483648) ≤ x4 ∧ x4 ≤ 2147483647) : jT [x0, x1, x2, x3, x4] (d + 3) 379 30 551 [(5, (0, 0)), (4, (4, 3)), (3, (4, 2)), (2, (4, 1)), (1, (4, 0)), (0, (6, 0))] [] jpA_548 1 6 (fun k v hs' => k = 0 ∧ v = (0, 1)) := by
  refine jT_xaload_n (v := (4, 0)) (pc' := 552) jI_379_551 rfl rfl rfl ?_
  refine jT_xaload_n (v := (6, 0)) (pc' := 553) jI_379_552 rfl rfl rfl ?_
  refine jT_xiload (v := (0, 0)) (pc' := 555) jI_379_553 rfl rfl rfl ?_
  refine jT_xiconst (k := 1) (pc' := 556) jI_379_555 rfl ?_
  refine jT_xiadd (x := 0) (y := 1) (z := 1) (pc' := 557) jI_379_556 rfl (by decide) rfl ?_
  refine jT_adv 1 (pc' := 558) (L' := [(5, (0, 0)), (4, (4, 3)), (3, (4, 2)), (2, (4, 1)), (1, (4, 0)), (0, (6, 0))]) (st' := [(0, x1), (4, 0)]) (hs' := jpA_548) (c1 := 0) (s1 := 0) (c2 := 1) (s2 := 6) (by exact rfl) ?_ (by omega) (by omega)
  refine jT_xaload_n (v := (6, 0)) (pc' := 559) jI_379_558 rfl rfl rfl ?_
  refine jT_xiload (v := (0, 0)) (pc' := 561) jI_379_559 rfl rfl rfl ?_
  refine jT_xiconst (k := 2) (pc' := 562) jI_379_561 rfl ?_
  refine jT_xiadd (x := 0) (y := 2) (z := 2) (pc' := 563) jI_379_562 rfl (by decide) rfl ?_
  refine jT_adv 1 (pc' := 564) (L' := [(5, (0, 0)), (4, (4, 3)), (3, (4, 2)), (2, (4, 1)), (1, (4, 0)), (0, (6, 0))]) (st' := [(0, x2), (0, x1), (4, 0)]) (hs' := jpA_548) (c1 := 0) (s1 := 0) (c2 := 1) (s2 := 6) (by exact rfl) ?_ (by omega) (by omega)
  refine jT_xaload_n (v := (6, 0)) (pc' := 565) jI_379_564 rfl rfl rfl ?_
  refine jT_xiload (v := (0, 0)) (pc' := 567) jI_379_565 rfl rfl rfl ?_
  refine jT_xiconst (k := 3) (pc' := 568) jI_379_567 rfl ?_
  refine jT_xiadd (x := 0) (y := 3) (z := 3) (pc' := 569) jI_379_568 rfl (by decide) rfl ?_
  refine jT_adv 1 (pc' := 570) (L' := [(5, (0, 0)), (4, (4, 3)), (3, (4, 2)), (2, (4, 1)), (1, (4, 0)), (0, (6, 0))]) (st' := [(0, x3), (0, x2), (0, x1), (4, 0)]) (hs' := jpA_548) (c1 := 0) (s1 := 0) (c2 := 1) (s2 := 6) (by exact rfl) ?_ (by omega) (by omega)
  refine jT_xaload_n (v := (4, 2)) (pc' := 571) jI_379_570 rfl rfl rfl ?_
  refine jT_fR [0, 2, 4, 5, 6, 7, 8, 9, 10, 11, 12, 13, 14] 30 (y := 329) (pc' := 574) (dC := 2) (bc1 := 1) (bc2 := 6) (c1 := 0) (c2 := 0) (as := [(4, 0), (0, x1), (0, x2), (0, x3), (4, 2)]) (asC := [(4, 0), (0, x1), (0, x2), (0, x3), (4, 1)]) (L' := [(5, (0, 0)), (4, (4, 3)), (3, (4, 2)), (2, (4, 1)), (1, (4, 0)), (0, (6, 0))]) (st' := []) (hsC := jpA_275) (v := (0, 2)) (st2 := [(0, 2)]) (jA_329_117 (d := 0) (by omega) (by omega) (by omega)) (by rfl) (by rfl) (by decide +kernel) (by rfl) (by rfl) (by omega) (by omega) (by omega) (by omega) rfl ?_
  refine jT_xistore (v := (0, 2)) (L' := [(6, (0, 2)), (5, (0, 0)), (4, (4, 3)), (3, (4, 2)), (2, (4, 1)), (1, (4, 0)), (0, (6, 0))]) (pc' := 576) jI_379_574 rfl rfl rfl rfl ?_
  refine jT_xaload_n (v := (4, 1)) (pc' := 577) jI_379_576 rfl rfl rfl ?_
  refine jT_xaload_n (v := (6, 0)) (pc' := 578) jI_379_577 rfl rfl rfl ?_
  refine jT_xiload (v := (0, 0)) (pc' := 580) jI_379_578 rfl rfl rfl ?_
  refine jT_xiconst (k := 1) (pc' := 581) jI_379_580 rfl ?_
  refine jT_xiadd (x := 0) (y := 1) (z := 1) (pc' := 582) jI_379_581 rfl (by decide) rfl ?_
  refine jT_adv 1 (pc' := 583) (L' := [(6, (0, 2)), (5, (0, 0)), (4, (4, 3)), (3, (4, 2)), (2, (4, 1)), (1, (4, 0)), (0, (6, 0))]) (st' := [(0, x1), (4, 1)]) (hs' := jpA_548) (c1 := 0) (s1 := 0) (c2 := 0) (s2 := 0) (by exact rfl) ?_ (by omega) (by omega)
  refine jT_xaload_n (v := (6, 0)) (pc' := 584) jI_379_583 rfl rfl rfl ?_
  refine jT_xiload (v := (0, 0)) (pc' := 586) jI_379_584 rfl rfl rfl ?_
  refine jT_xiconst (k := 2) (pc' := 587) jI_379_586 rfl ?_
  refine jT_xiadd (x := 0) (y := 2) (z := 2) (pc' := 588) jI_379_587 rfl (by decide) rfl ?_
  refine jT_adv 1 (pc' := 589) (L' := [(6, (0, 2)), (5, (0, 0)), (4, (4, 3)), (3, (4, 2)), (2, (4, 1)), (1, (4, 0)), (0, (6, 0))]) (st' := [(0, x2), (0, x1), (4, 1)]) (hs' := jpA_548) (c1 := 0) (s1 := 0) (c2 := 0) (s2 := 0) (by exact rfl) ?_ (by omega) (by omega)
  refine jT_xaload_n (v := (6, 0)) (pc' := 590) jI_379_589 rfl rfl rfl ?_
  refine jT_xiload (v := (0, 0)) (pc' := 592) jI_379_590 rfl rfl rfl ?_
  refine jT_xiconst (k := 3) (pc' := 593) jI_379_592 rfl ?_
  refine jT_xiadd (x := 0) (y := 3) (z := 3) (pc' := 594) jI_379_593 rfl (by decide) rfl ?_
  refine jT_adv 1 (pc' := 595) (L' := [(6, (0, 2)), (5, (0, 0)), (4, (4, 3)), (3, (4, 2)), (2, (4, 1)), (1, (4, 0)), (0, (6, 0))]) (st' := [(0, x3), (0, x2), (0, x1), (4, 1)]) (hs' := jpA_548) (c1 := 0) (s1 := 0) (c2 := 0) (s2 := 0) (by exact rfl) ?_ (by omega) (by omega)
  refine jT_fB [1, 15, 16, 17, 18, 19, 20, 21, 22, 23, 24, 25, 26, 27, 28, 29] 30 (y := 206) (pc' := 598) (dC := 2) (bc1 := 0) (bc2 := 0) (c1 := 0) (c2 := 0) (as := [(4, 1), (0, x1), (0, x2), (0, x3)]) (asC := [(4, 0), (0, x1), (0, x2), (0, x3)]) (L' := [(6, (0, 2)), (5, (0, 0)), (4, (4, 3)), (3, (4, 2)), (2, (4, 1)), (1, (4, 0)), (0, (6, 0))]) (st' := []) (hsC := jpA_23) (hsD := jpA_49) (v := (0, 0)) (st2 := [(0, 0)]) (hs2 := jpA_580) (jA_206_118 (d := 0) (by omega) (by omega) (by omega)) (by rfl) (by rfl) (by decide +kernel) (by rfl) (by rfl) (by omega) (by omega) (by omega) (by omega) rfl (by decide +kernel) ?_
  refine jT_xistore (v := (0, 0)) (L' := [(7, (0, 0)), (6, (0, 2)), (5, (0, 0)), (4, (4, 3)), (3, (4, 2)), (2, (4, 1)), (1, (4, 0)), (0, (6, 0))]) (pc' := 600) jI_379_598 rfl rfl rfl rfl ?_
  refine jT_xaload_n (v := (4, 1)) (pc' := 601) jI_379_600 rfl rfl rfl ?_
  refine jT_fR [1, 15, 16, 17, 18, 19, 20, 21, 22, 23, 24, 25, 26, 27, 28, 29] 30 (y := 186) (pc' := 604) (dC := 0) (bc1 := 0) (bc2 := 0) (c1 := 0) (c2 := 0) (as := [(4, 1)]) (asC := [(4, 0)]) (L' := [(7, (0, 0)), (6, (0, 2)), (5, (0, 0)), (4, (4, 3)), (3, (4, 2)), (2, (4, 1)), (1, (4, 0)), (0, (6, 0))]) (st' := []) (hsC := jpA_49) (v := (0, 2)) (st2 := [(0, 2)]) (jA_186_16 (d := 0)) (by rfl) (by rfl) (by decide +kernel) (by rfl) (by rfl) (by omega) (by omega) (by omega) (by omega) rfl ?_
  refine jT_xiload (v := (0, 2)) (pc' := 606) jI_379_604 rfl rfl rfl ?_
  refine jT_xicT (pc' := 611) jI_379_606 rfl (by decide +kernel) rfl ?_
  refine jT_xiload (v := (0, 2)) (pc' := 613) jI_379_611 rfl rfl rfl ?_
  refine jT_xifT (pc' := 628) jI_379_613 rfl (by decide +kernel) rfl ?_
  refine jT_xgoto (pc' := 3740) jI_379_628 rfl ?_
  refine jT_xiinc (x := 0) (z := 5) (L' := [(5, (0, 5)), (7, (0, 0)), (6, (0, 2)), (4, (4, 3)), (3, (4, 2)), (2, (4, 1)), (1, (4, 0)), (0, (6, 0))]) (pc' := 3743) jI_379_3740 rfl rfl (by decide) rfl rfl ?_
  refine jT_xgoto (pc' := 28) jI_379_3743 rfl ?_
  refine jT_xiload (v := (0, 5)) (pc' := 30) jI_379_28 rfl rfl rfl ?_
  refine jT_xaload_n (v := (6, 0)) (pc' := 31) jI_379_30 rfl rfl rfl ?_
  refine jT_adv 1 (pc' := 32) (L' := [(5, (0, 5)), (7, (0, 0)), (6, (0, 2)), (4, (4, 3)), (3, (4, 2)), (2, (4, 1)), (1, (4, 0)), (0, (6, 0))]) (st' := [(0, 5), (0, 5)]) (hs' := jpA_580) (c1 := 0) (s1 := 0) (c2 := 0) (s2 := 0) (by exact rfl) ?_ (by omega) (by omega)
  refine jT_xiconst (k := 5) (pc' := 33) jI_379_32 rfl ?_
  refine jT_xisub (x := 5) (y := 5) (z := 0) (pc' := 34) jI_379_33 rfl (by decide) rfl ?_
  refine jT_xicT (pc' := 3746) jI_379_34 rfl (by decide +kernel) rfl ?_
  refine jT_xiconst (k := 1) (pc' := 3747) jI_379_3746 rfl ?_
  exact jT_ret rfl (by decide) (by show 30 ≤ 30; decide) (by omega) (by omega) ⟨rfl, rfl⟩
set_option maxRecDepth 100000 in
theorem jL_3_6 {d : Nat} {x0 x1 x2 x3 x4 : Int} (h_x0 : (-2147483648) ≤ x0 ∧ x0 ≤ 2147483647) (h_x1 : 0 ≤ x1 ∧ x1 ≤ 7) (h_x2 : 101 ≤ x2 ∧ x2 ≤ 2147483647) (h_x3 : (-2147483648) ≤ x3 ∧ x3 ≤ 2147483647) (h_x4 : (-2147483648) ≤ x4 ∧ x4 ≤ 2147483647) : jT [x0, x1, x2, x3, x4] (d + 3) 379 30 551 [(5, (0, 0)), (4, (4, 3)), (3, (4, 2)), (2, (4, 1)), (1, (4, 0)), (0, (6, 0))] [] jpA_548 1 6 (fun k v hs' => k = 0 ∧ v = (0, 1)) := by
  refine jT_xaload_n (v := (4, 0)) (pc' := 552) jI_379_551 rfl rfl rfl ?_
  refine jT_xaload_n (v := (6, 0)) (pc' := 553) jI_379_552 rfl rfl rfl ?_
  refine jT_xiload (v := (0, 0)) (pc' := 555) jI_379_553 rfl rfl rfl ?_
  refine jT_xiconst (k := 1) (pc' := 556) jI_379_555 rfl ?_
  refine jT_xiadd (x := 0) (y := 1) (z := 1) (pc' := 557) jI_379_556 rfl (by decide) rfl ?_
  refine jT_adv 1 (pc' := 558) (L' := [(5, (0, 0)), (4, (4, 3)), (3, (4, 2)), (2, (4, 1)), (1, (4, 0)), (0, (6, 0))]) (st' := [(0, x1), (4, 0)]) (hs' := jpA_548) (c1 := 0) (s1 := 0) (c2 := 1) (s2 := 6) (by exact rfl) ?_ (by omega) (by omega)
  refine jT_xaload_n (v := (6, 0)) (pc' := 559) jI_379_558 rfl rfl rfl ?_
  refine jT_xiload (v := (0, 0)) (pc' := 561) jI_379_559 rfl rfl rfl ?_
  refine jT_xiconst (k := 2) (pc' := 562) jI_379_561 rfl ?_
  refine jT_xiadd (x := 0) (y := 2) (z := 2) (pc' := 563) jI_379_562 rfl (by decide) rfl ?_
  refine jT_adv 1 (pc' := 564) (L' := [(5, (0, 0)), (4, (4, 3)), (3, (4, 2)), (2, (4, 1)), (1, (4, 0)), (0, (6, 0))]) (st' := [(0, x2), (0, x1), (4, 0)]) (hs' := jpA_548) (c1 := 0) (s1 := 0) (c2 := 1) (s2 := 6) (by exact rfl) ?_ (by omega) (by omega)
  refine jT_xaload_n (v := (6, 0)) (pc' := 565) jI_379_564 rfl rfl rfl ?_
  refine jT_xiload (v := (0, 0)) (pc' := 567) jI_379_565 rfl rfl rfl ?_
  refine jT_xiconst (k := 3) (pc' := 568) jI_379_567 rfl ?_
  refine jT_xiadd (x := 0) (y := 3) (z := 3) (pc' := 569) jI_379_568 rfl (by decide) rfl ?_
  refine jT_adv 1 (pc' := 570) (L' := [(5, (0, 0)), (4, (4, 3)), (3, (4, 2)), (2, (4, 1)), (1, (4, 0)), (0, (6, 0))]) (st' := [(0, x3), (0, x2), (0, x1), (4, 0)]) (hs' := jpA_548) (c1 := 0) (s1 := 0) (c2 := 1) (s2 := 6) (by exact rfl) ?_ (by omega) (by omega)
  refine jT_xaload_n (v := (4, 2)) (pc' := 571) jI_379_570 rfl rfl rfl ?_
  refine jT_fR [0, 2, 4, 5, 6, 7, 8, 9, 10, 11, 12, 13, 14] 30 (y := 329) (pc' := 574) (dC := 2) (bc1 := 1) (bc2 := 6) (c1 := 0) (c2 := 0) (as := [(4, 0), (0, x1), (0, x2), (0, x3), (4, 2)]) (asC := [(4, 0), (0, x1), (0, x2), (0, x3), (4, 1)]) (L' := [(5, (0, 0)), (4, (4, 3)), (3, (4, 2)), (2, (4, 1)), (1, (4, 0)), (0, (6, 0))]) (st' := []) (hsC := jpA_275) (v := (0, 2)) (st2 := [(0, 2)]) (jA_329_121 (d := 0) (by omega) (by omega) (by omega)) (by rfl) (by rfl) (by decide +kernel) (by rfl) (by rfl) (by omega) (by omega) (by omega) (by omega) rfl ?_
  refine jT_xistore (v := (0, 2)) (L' := [(6, (0, 2)), (5, (0, 0)), (4, (4, 3)), (3, (4, 2)), (2, (4, 1)), (1, (4, 0)), (0, (6, 0))]) (pc' := 576) jI_379_574 rfl rfl rfl rfl ?_
  refine jT_xaload_n (v := (4, 1)) (pc' := 577) jI_379_576 rfl rfl rfl ?_
  refine jT_xaload_n (v := (6, 0)) (pc' := 578) jI_379_577 rfl rfl rfl ?_
  refine jT_xiload (v := (0, 0)) (pc' := 580) jI_379_578 rfl rfl rfl ?_
  refine jT_xiconst (k := 1) (pc' := 581) jI_379_580 rfl ?_
  refine jT_xiadd (x := 0) (y := 1) (z := 1) (pc' := 582) jI_379_581 rfl (by decide) rfl ?_
  refine jT_adv 1 (pc' := 583) (L' := [(6, (0, 2)), (5, (0, 0)), (4, (4, 3)), (3, (4, 2)), (2, (4, 1)), (1, (4, 0)), (0, (6, 0))]) (st' := [(0, x1), (4, 1)]) (hs' := jpA_548) (c1 := 0) (s1 := 0) (c2 := 0) (s2 := 0) (by exact rfl) ?_ (by omega) (by omega)
  refine jT_xaload_n (v := (6, 0)) (pc' := 584) jI_379_583 rfl rfl rfl ?_
  refine jT_xiload (v := (0, 0)) (pc' := 586) jI_379_584 rfl rfl rfl ?_
  refine jT_xiconst (k := 2) (pc' := 587) jI_379_586 rfl ?_
  refine jT_xiadd (x := 0) (y := 2) (z := 2) (pc' := 588) jI_379_587 rfl (by decide) rfl ?_
  refine jT_adv 1 (pc' := 589) (L' := [(6, (0, 2)), (5, (0, 0)), (4, (4, 3)), (3, (4, 2)), (2, (4, 1)), (1, (4, 0)), (0, (6, 0))]) (st' := [(0, x2), (0, x1), (4, 1)]) (hs' := jpA_548) (c1 := 0) (s1 := 0) (c2 := 0) (s2 := 0) (by exact rfl) ?_ (by omega) (by omega)
  refine jT_xaload_n (v := (6, 0)) (pc' := 590) jI_379_589 rfl rfl rfl ?_
  refine jT_xiload (v := (0, 0)) (pc' := 592) jI_379_590 rfl rfl rfl ?_
  refine jT_xiconst (k := 3) (pc' := 593) jI_379_592 rfl ?_
  refine jT_xiadd (x := 0) (y := 3) (z := 3) (pc' := 594) jI_379_593 rfl (by decide) rfl ?_
  refine jT_adv 1 (pc' := 595) (L' := [(6, (0, 2)), (5, (0, 0)), (4, (4, 3)), (3, (4, 2)), (2, (4, 1)), (1, (4, 0)), (0, (6, 0))]) (st' := [(0, x3), (0, x2), (0, x1), (4, 1)]) (hs' := jpA_548) (c1 := 0) (s1 := 0) (c2 := 0) (s2 := 0) (by exact rfl) ?_ (by omega) (by omega)
  refine jT_fB [1, 15, 16, 17, 18, 19, 20, 21, 22, 23, 24, 25, 26, 27, 28, 29] 30 (y := 206) (pc' := 598) (dC := 2) (bc1 := 0) (bc2 := 0) (c1 := 0) (c2 := 0) (as := [(4, 1), (0, x1), (0, x2), (0, x3)]) (asC := [(4, 0), (0, x1), (0, x2), (0, x3)]) (L' := [(6, (0, 2)), (5, (0, 0)), (4, (4, 3)), (3, (4, 2)), (2, (4, 1)), (1, (4, 0)), (0, (6, 0))]) (st' := []) (hsC := jpA_23) (hsD := jpA_49) (v := (0, 0)) (st2 := [(0, 0)]) (hs2 := jpA_580) (jA_206_122 (d := 0) (by omega) (by omega) (by omega)) (by rfl) (by rfl) (by decide +kernel) (by rfl) (by rfl) (by omega) (by omega) (by omega) (by omega) rfl (by decide +kernel) ?_
  refine jT_xistore (v := (0, 0)) (L' := [(7, (0, 0)), (6, (0, 2)), (5, (0, 0)), (4, (4, 3)), (3, (4, 2)), (2, (4, 1)), (1, (4, 0)), (0, (6, 0))]) (pc' := 600) jI_379_598 rfl rfl rfl rfl ?_
  refine jT_xaload_n (v := (4, 1)) (pc' := 601) jI_379_600 rfl rfl rfl ?_
  refine jT_fR [1, 15, 16, 17, 18, 19, 20, 21, 22, 23, 24, 25, 26, 27, 28, 29] 30 (y := 186) (pc' := 604) (dC := 0) (bc1 := 0) (bc2 := 0) (c1 := 0) (c2 := 0) (as := [(4, 1)]) (asC := [(4, 0)]) (L' := [(7, (0, 0)), (6, (0, 2)), (5, (0, 0)), (4, (4, 3)), (3, (4, 2)), (2, (4, 1)), (1, (4, 0)), (0, (6, 0))]) (st' := []) (hsC := jpA_49) (v := (0, 2)) (st2 := [(0, 2)]) (jA_186_16 (d := 0)) (by rfl) (by rfl) (by decide +kernel) (by rfl) (by rfl) (by omega) (by omega) (by omega) (by omega) rfl ?_
  refine jT_xiload (v := (0, 2)) (pc' := 606) jI_379_604 rfl rfl rfl ?_
  refine jT_xicT (pc' := 611) jI_379_606 rfl (by decide +kernel) rfl ?_
  refine jT_xiload (v := (0, 2)) (pc' := 613) jI_379_611 rfl rfl rfl ?_
  refine jT_xifT (pc' := 628) jI_379_613 rfl (by decide +kernel) rfl ?_
  refine jT_xgoto (pc' := 3740) jI_379_628 rfl ?_
  refine jT_xiinc (x := 0) (z := 5) (L' := [(5, (0, 5)), (7, (0, 0)), (6, (0, 2)), (4, (4, 3)), (3, (4, 2)), (2, (4, 1)), (1, (4, 0)), (0, (6, 0))]) (pc' := 3743) jI_379_3740 rfl rfl (by decide) rfl rfl ?_
  refine jT_xgoto (pc' := 28) jI_379_3743 rfl ?_
  refine jT_xiload (v := (0, 5)) (pc' := 30) jI_379_28 rfl rfl rfl ?_
  refine jT_xaload_n (v := (6, 0)) (pc' := 31) jI_379_30 rfl rfl rfl ?_
  refine jT_adv 1 (pc' := 32) (L' := [(5, (0, 5)), (7, (0, 0)), (6, (0, 2)), (4, (4, 3)), (3, (4, 2)), (2, (4, 1)), (1, (4, 0)), (0, (6, 0))]) (st' := [(0, 5), (0, 5)]) (hs' := jpA_580) (c1 := 0) (s1 := 0) (c2 := 0) (s2 := 0) (by exact rfl) ?_ (by omega) (by omega)
  refine jT_xiconst (k := 5) (pc' := 33) jI_379_32 rfl ?_
  refine jT_xisub (x := 5) (y := 5) (z := 0) (pc' := 34) jI_379_33 rfl (by decide) rfl ?_
  refine jT_xicT (pc' := 3746) jI_379_34 rfl (by decide +kernel) rfl ?_
  refine jT_xiconst (k := 1) (pc' := 3747) jI_379_3746 rfl ?_
  exact jT_ret rfl (by decide) (by show 30 ≤ 30; decide) (by omega) (by omega) ⟨rfl, rfl⟩
set_option maxRecDepth 100000 in
theorem jL_3_7 {d : Nat} {x0 x1 x2 x3 x4 : Int} (h_x0 : (-2147483648) ≤ x0 ∧ x0 ≤ 2147483647) (h_x1 : 8 ≤ x1 ∧ x1 ≤ 2147483647) (h_x2 : (-2147483648) ≤ x2 ∧ x2 ≤ 2147483647) (h_x3 : (-2147483648) ≤ x3 ∧ x3 ≤ 2147483647) (h_x4 : (-2147483648) ≤ x4 ∧ x4 ≤ 2147483647) : jT [x0, x1, x2, x3, x4] (d + 3) 379 30 551 [(5, (0, 0)), (4, (4, 3)), (3, (4, 2)), (2, (4, 1)), (1, (4, 0)), (0, (6, 0))] [] jpA_548 1 6 (fun k v hs' => k = 0 ∧ v = (0, 1)) := by
  refine jT_xaload_n (v := (4, 0)) (pc' := 552) jI_379_551 rfl rfl rfl ?_
  refine jT_xaload_n (v := (6, 0)) (pc' := 553) jI_379_552 rfl rfl rfl ?_
  refine jT_xiload (v := (0, 0)) (pc' := 555) jI_379_553 rfl rfl rfl ?_
  refine jT_xiconst (k := 1) (pc' := 556) jI_379_555 rfl ?_
  refine jT_xiadd (x := 0) (y := 1) (z := 1) (pc' := 557) jI_379_556 rfl (by decide) rfl ?_
  refine jT_adv 1 (pc' := 558) (L' := [(5, (0, 0)), (4, (4, 3)), (3, (4, 2)), (2, (4, 1)), (1, (4, 0)), (0, (6, 0))]) (st' := [(0, x1), (4, 0)]) (hs' := jpA_548) (c1 := 0) (s1 := 0) (c2 := 1) (s2 := 6) (by exact rfl) ?_ (by omega) (by omega)
  refine jT_xaload_n (v := (6, 0)) (pc' := 559) jI_379_558 rfl rfl rfl ?_
  refine jT_xiload (v := (0, 0)) (pc' := 561) jI_379_559 rfl rfl rfl ?_
  refine jT_xiconst (k := 2) (pc' := 562) jI_379_561 rfl ?_
  refine jT_xiadd (x := 0) (y := 2) (z := 2) (pc' := 563) jI_379_562 rfl (by decide) rfl ?_
  refine jT_adv 1 (pc' := 564) (L' := [(5, (0, 0)), (4, (4, 3)), (3, (4, 2)), (2, (4, 1)), (1, (4, 0)), (0, (6, 0))]) (st' := [(0, x2), (0, x1), (4, 0)]) (hs' := jpA_548) (c1 := 0) (s1 := 0) (c2 := 1) (s2 := 6) (by exact rfl) ?_ (by omega) (by omega)
  refine jT_xaload_n (v := (6, 0)) (pc' := 565) jI_379_564 rfl rfl rfl ?_
  refine jT_xiload (v := (0, 0)) (pc' := 567) jI_379_565 rfl rfl rfl ?_
  refine jT_xiconst (k := 3) (pc' := 568) jI_379_567 rfl ?_
  refine jT_xiadd (x := 0) (y := 3) (z := 3) (pc' := 569) jI_379_568 rfl (by decide) rfl ?_
  refine jT_adv 1 (pc' := 570) (L' := [(5, (0, 0)), (4, (4, 3)), (3, (4, 2)), (2, (4, 1)), (1, (4, 0)), (0, (6, 0))]) (st' := [(0, x3), (0, x2), (0, x1), (4, 0)]) (hs' := jpA_548) (c1 := 0) (s1 := 0) (c2 := 1) (s2 := 6) (by exact rfl) ?_ (by omega) (by omega)
  refine jT_xaload_n (v := (4, 2)) (pc' := 571) jI_379_570 rfl rfl rfl ?_
  refine jT_fR [0, 2, 4, 5, 6, 7, 8, 9, 10, 11, 12, 13, 14] 30 (y := 329) (pc' := 574) (dC := 2) (bc1 := 1) (bc2 := 6) (c1 := 0) (c2 := 0) (as := [(4, 0), (0, x1), (0, x2), (0, x3), (4, 2)]) (asC := [(4, 0), (0, x1), (0, x2), (0, x3), (4, 1)]) (L' := [(5, (0, 0)), (4, (4, 3)), (3, (4, 2)), (2, (4, 1)), (1, (4, 0)), (0, (6, 0))]) (st' := []) (hsC := jpA_275) (v := (0, 1)) (st2 := [(0, 1)]) (jA_329_125 (d := 0) (by omega) (by omega) (by omega)) (by rfl) (by rfl) (by decide +kernel) (by rfl) (by rfl) (by omega) (by omega) (by omega) (by omega) rfl ?_
  refine jT_xistore (v := (0, 1)) (L' := [(6, (0, 1)), (5, (0, 0)), (4, (4, 3)), (3, (4, 2)), (2, (4, 1)), (1, (4, 0)), (0, (6, 0))]) (pc' := 576) jI_379_574 rfl rfl rfl rfl ?_
  refine jT_xaload_n (v := (4, 1)) (pc' := 577) jI_379_576 rfl rfl rfl ?_
  refine jT_xaload_n (v := (6, 0)) (pc' := 578) jI_379_577 rfl rfl rfl ?_
  refine jT_xiload (v := (0, 0)) (pc' := 580) jI_379_578 rfl rfl rfl ?_
  refine jT_xiconst (k := 1) (pc' := 581) jI_379_580 rfl ?_
  refine jT_xiadd (x := 0) (y := 1) (z := 1) (pc' := 582) jI_379_581 rfl (by decide) rfl ?_
  refine jT_adv 1 (pc' := 583) (L' := [(6, (0, 1)), (5, (0, 0)), (4, (4, 3)), (3, (4, 2)), (2, (4, 1)), (1, (4, 0)), (0, (6, 0))]) (st' := [(0, x1), (4, 1)]) (hs' := jpA_548) (c1 := 0) (s1 := 0) (c2 := 0) (s2 := 0) (by exact rfl) ?_ (by omega) (by omega)
  refine jT_xaload_n (v := (6, 0)) (pc' := 584) jI_379_583 rfl rfl rfl ?_
  refine jT_xiload (v := (0, 0)) (pc' := 586) jI_379_584 rfl rfl rfl ?_
  refine jT_xiconst (k := 2) (pc' := 587) jI_379_586 rfl ?_
  refine jT_xiadd (x := 0) (y := 2) (z := 2) (pc' := 588) jI_379_587 rfl (by decide) rfl ?_
  refine jT_adv 1 (pc' := 589) (L' := [(6, (0, 1)), (5, (0, 0)), (4, (4, 3)), (3, (4, 2)), (2, (4, 1)), (1, (4, 0)), (0, (6, 0))]) (st' := [(0, x2), (0, x1), (4, 1)]) (hs' := jpA_548) (c1 := 0) (s1 := 0) (c2 := 0) (s2 := 0) (by exact rfl) ?_ (by omega) (by omega)
  refine jT_xaload_n (v := (6, 0)) (pc' := 590) jI_379_589 rfl rfl rfl ?_
  refine jT_xiload (v := (0, 0)) (pc' := 592) jI_379_590 rfl rfl rfl ?_
  refine jT_xiconst (k := 3) (pc' := 593) jI_379_592 rfl ?_
  refine jT_xiadd (x := 0) (y := 3) (z := 3) (pc' := 594) jI_379_593 rfl (by decide) rfl ?_
  refine jT_adv 1 (pc' := 595) (L' := [(6, (0, 1)), (5, (0, 0)), (4, (4, 3)), (3, (4, 2)), (2, (4, 1)), (1, (4, 0)), (0, (6, 0))]) (st' := [(0, x3), (0, x2), (0, x1), (4, 1)]) (hs' := jpA_548) (c1 := 0) (s1 := 0) (c2 := 0) (s2 := 0) (by exact rfl) ?_ (by omega) (by omega)
  refine jT_fB [1, 15, 16, 17, 18, 19, 20, 21, 22, 23, 24, 25, 26, 27, 28, 29] 30 (y := 206) (pc' := 598) (dC := 2) (bc1 := 0) (bc2 := 0) (c1 := 0) (c2 := 0) (as := [(4, 1), (0, x1), (0, x2), (0, x3)]) (asC := [(4, 0), (0, x1), (0, x2), (0, x3)]) (L' := [(6, (0, 1)), (5, (0, 0)), (4, (4, 3)), (3, (4, 2)), (2, (4, 1)), (1, (4, 0)), (0, (6, 0))]) (st' := []) (hsC := jpA_23) (hsD := jpA_21) (v := (0, 0)) (st2 := [(0, 0)]) (hs2 := jpA_572) (jA_206_127 (d := 0) (by omega) (by omega) (by omega)) (by rfl) (by rfl) (by decide +kernel) (by rfl) (by rfl) (by omega) (by omega) (by omega) (by omega) rfl (by decide +kernel) ?_
  refine jT_xistore (v := (0, 0)) (L' := [(7, (0, 0)), (6, (0, 1)), (5, (0, 0)), (4, (4, 3)), (3, (4, 2)), (2, (4, 1)), (1, (4, 0)), (0, (6, 0))]) (pc' := 600) jI_379_598 rfl rfl rfl rfl ?_
  refine jT_xaload_n (v := (4, 1)) (pc' := 601) jI_379_600 rfl rfl rfl ?_
  refine jT_fR [1, 15, 16, 17, 18, 19, 20, 21, 22, 23, 24, 25, 26, 27, 28, 29] 30 (y := 186) (pc' := 604) (dC := 0) (bc1 := 0) (bc2 := 0) (c1 := 0) (c2 := 0) (as := [(4, 1)]) (asC := [(4, 0)]) (L' := [(7, (0, 0)), (6, (0, 1)), (5, (0, 0)), (4, (4, 3)), (3, (4, 2)), (2, (4, 1)), (1, (4, 0)), (0, (6, 0))]) (st' := []) (hsC := jpA_21) (v := (0, 1)) (st2 := [(0, 1)]) (jA_186_6 (d := 0)) (by rfl) (by rfl) (by decide +kernel) (by rfl) (by rfl) (by omega) (by omega) (by omega) (by omega) rfl ?_
  refine jT_xiload (v := (0, 1)) (pc' := 606) jI_379_604 rfl rfl rfl ?_
  refine jT_xicT (pc' := 611) jI_379_606 rfl (by decide +kernel) rfl ?_
  refine jT_xiload (v := (0, 1)) (pc' := 613) jI_379_611 rfl rfl rfl ?_
  refine jT_xifT (pc' := 628) jI_379_613 rfl (by decide +kernel) rfl ?_
  refine jT_xgoto (pc' := 3740) jI_379_628 rfl ?_
  refine jT_xiinc (x := 0) (z := 5) (L' := [(5, (0, 5)), (7, (0, 0)), (6, (0, 1)), (4, (4, 3)), (3, (4, 2)), (2, (4, 1)), (1, (4, 0)), (0, (6, 0))]) (pc' := 3743) jI_379_3740 rfl rfl (by decide) rfl rfl ?_
  refine jT_xgoto (pc' := 28) jI_379_3743 rfl ?_
  refine jT_xiload (v := (0, 5)) (pc' := 30) jI_379_28 rfl rfl rfl ?_
  refine jT_xaload_n (v := (6, 0)) (pc' := 31) jI_379_30 rfl rfl rfl ?_
  refine jT_adv 1 (pc' := 32) (L' := [(5, (0, 5)), (7, (0, 0)), (6, (0, 1)), (4, (4, 3)), (3, (4, 2)), (2, (4, 1)), (1, (4, 0)), (0, (6, 0))]) (st' := [(0, 5), (0, 5)]) (hs' := jpA_572) (c1 := 0) (s1 := 0) (c2 := 0) (s2 := 0) (by exact rfl) ?_ (by omega) (by omega)
  refine jT_xiconst (k := 5) (pc' := 33) jI_379_32 rfl ?_
  refine jT_xisub (x := 5) (y := 5) (z := 0) (pc' := 34) jI_379_33 rfl (by decide) rfl ?_
  refine jT_xicT (pc' := 3746) jI_379_34 rfl (by decide +kernel) rfl ?_
  refine jT_xiconst (k := 1) (pc' := 3747) jI_379_3746 rfl ?_
  exact jT_ret rfl (by decide) (by show 30 ≤ 30; decide) (by omega) (by omega) ⟨rfl, rfl⟩
