/-! the law, case by case: 34 -/
theorem jIM_115_0 : jmI (jm 115) 0 = (.iload_n 1, 1) := by rfl
theorem jIM_115_1 : jmI (jm 115) 1 = (.ifCond .lt 8, 3) := by rfl
theorem jM_115_1 {xs : List Int} {d : Nat} {x1 : Int} (h_x1 : (-2147483648) ≤ x1 ∧ x1 ≤ (-1)) : jT xs d 115 1 0 [(0, (4, 0)), (1, (0, x1)), (2, (0, 8))] [] [jgh] 1 6 (fun k v hsN => k = 1 ∧ v = (0, 0) ∧ hsN = [jgh] ++ []) := by
  refine jT_xiload_n (v := (0, x1)) (pcN := 1) jIM_115_0 rfl rfl rfl ?_
  refine jT_ifT (a := x1) (t := 9) (by rfl) (by rfl) (by rfl) (jw_idd (by omega) (by omega)) (by simp only [jcP] <;> omega) ?_
  exact jT_ret (c1 := 1) (s1 := 6) rfl (by decide) (by show 1 ≤ 1; omega) (by omega) (by omega) ⟨rfl, rfl, rfl⟩
theorem jIM_155_0 : jmI (jm 155) 0 = (.aload_n 0, 1) := by rfl
theorem jIM_155_1 : jmI (jm 155) 1 = (.iload_n 1, 1) := by rfl
theorem jIM_155_2 : jmI (jm 155) 2 = (.bipush 8, 2) := by rfl
def jzM_5 : JC := (13, [(4, 1), (4, 2), (4, 3), (4, 4), (4, 5), (4, 6), (4, 7), (4, 8), (4, 9), (4, 10), (0, 0), (4, 11), (0, 0)], [])
def jpM_6 : List JC := [jzM_5, jgh, jgh, jgh, jgh, jgh, jgh, jgh, jgh, jgh, jgh, jgh]
theorem jM_155_2 {xs : List Int} {d : Nat} {x1 x2 x3 : Int} (h_x1 : (-2147483648) ≤ x1 ∧ x1 ≤ (-1)) (h_x2 : (-2147483648) ≤ x2 ∧ x2 ≤ 2147483647) (h_x3 : (-2147483648) ≤ x3 ∧ x3 ≤ 2147483647) : jT xs (d + 1) 155 12 0 [(0, (4, 0)), (1, (0, x1)), (2, (0, x2)), (3, (0, x3))] [] jpM_6 1 6 (fun k v hsN => k = 1 ∧ v = (0, 0) ∧ hsN = jpM_6 ++ []) := by
  refine jT_xaload_n (v := (4, 0)) (pcN := 1) jIM_155_0 rfl rfl rfl ?_
  refine jT_xiload_n (v := (0, x1)) (pcN := 2) jIM_155_1 rfl rfl rfl ?_
  refine jT_xbipush (k := 8) (pcN := 4) jIM_155_2 (by decide) rfl ?_
  exact jT_fX [0] 12 (y := 115) (pcN := 7) (dC := 0) (bc1 := 1) (bc2 := 6) (as := [(4, 0), (0, x1), (0, 8)]) (asC := [(4, 0), (0, x1), (0, 8)]) (LN := [(0, (4, 0)), (1, (0, x1)), (2, (0, x2)), (3, (0, x3))]) (stN := []) (hsC := [jgh]) (e := 0) (jM_115_1 (d := 0) (by omega)) (by rfl) (by rfl) (by decide +kernel) (by rfl) (by rfl) (by omega) (by omega) (by omega) (by omega) ⟨rfl, ⟨rfl, rfl, rfl⟩⟩
theorem jIM_358_0 : jmI (jm 358) 0 = (.aload 4, 2) := by rfl
theorem jIM_358_2 : jmI (jm 358) 2 = (.iconst 0, 1) := by rfl
theorem jIM_358_3 : jmI (jm 358) 3 = (.aload_n 0, 1) := by rfl
theorem jIM_358_4 : jmI (jm 358) 4 = (.iload_n 1, 1) := by rfl
theorem jIM_358_5 : jmI (jm 358) 5 = (.iload_n 2, 1) := by rfl
theorem jIM_358_6 : jmI (jm 358) 6 = (.iload_n 3, 1) := by rfl
def jzM_13 : JC := (13, [(4, 2), (4, 3), (4, 4), (4, 5), (4, 6), (4, 7), (4, 8), (4, 9), (4, 10), (4, 11), (0, 0), (4, 12), (0, 0)], [])
def jpM_14 : List JC := [jzM_13, jgh, jgh, jgh, jgh, jgh, jgh, jgh, jgh, jgh, jgh, jgh, jgh]
theorem jM_358_3 {xs : List Int} {d : Nat} {x1 x2 x3 : Int} (h_x1 : (-2147483648) ≤ x1 ∧ x1 ≤ (-1)) (h_x2 : (-2147483648) ≤ x2 ∧ x2 ≤ 2147483647) (h_x3 : (-2147483648) ≤ x3 ∧ x3 ≤ 2147483647) : jT xs (d + 2) 358 13 0 [(0, (4, 0)), (1, (0, x1)), (2, (0, x2)), (3, (0, x3)), (4, (4, 1))] [] jpM_14 1 6 (fun k v hsN => k = 0 ∧ v = (0, 1) ∧ hsN = jpM_14 ++ []) := by
  refine jT_xaload (v := (4, 1)) (pcN := 2) jIM_358_0 rfl rfl rfl ?_
  refine jT_xiconst (k := 0) (pcN := 3) jIM_358_2 rfl ?_
  refine jT_xaload_n (v := (4, 0)) (pcN := 4) jIM_358_3 rfl rfl rfl ?_
  refine jT_xiload_n (v := (0, x1)) (pcN := 5) jIM_358_4 rfl rfl rfl ?_
  refine jT_xiload_n (v := (0, x2)) (pcN := 6) jIM_358_5 rfl rfl rfl ?_
  refine jT_xiload_n (v := (0, x3)) (pcN := 7) jIM_358_6 rfl rfl rfl ?_
  exact jT_fX [0, 2, 3, 4, 5, 6, 7, 8, 9, 10, 11, 12] 13 (y := 155) (pcN := 10) (dC := 1) (bc1 := 1) (bc2 := 6) (as := [(4, 0), (0, x1), (0, x2), (0, x3)]) (asC := [(4, 0), (0, x1), (0, x2), (0, x3)]) (LN := [(0, (4, 0)), (1, (0, x1)), (2, (0, x2)), (3, (0, x3)), (4, (4, 1))]) (stN := [(0, 0), (4, 1)]) (hsC := jpM_6) (e := 0) (jM_155_2 (d := 0) (by omega) (by omega) (by omega)) (by rfl) (by rfl) (by decide +kernel) (by rfl) (by rfl) (by omega) (by omega) (by omega) (by omega) (show _ from ⟨rfl, rfl, rfl⟩)
theorem jIM_188_0 : jmI (jm 188) 0 = (.iload_n 0, 1) := by rfl
theorem jIM_188_1 : jmI (jm 188) 1 = (.i2l, 1) := by rfl
theorem jIM_188_2 : jmI (jm 188) 2 = (.lconst 0, 1) := by rfl
theorem jM_188_4 {xs : List Int} {d : Nat} {x1 : Int} (h_x1 : (-2147483648) ≤ x1 ∧ x1 ≤ (-1)) : jT xs (d + 1) 188 0 0 [(0, (0, x1))] [] [] 0 0 (fun k v hsN => k = 0 ∧ v = (0, 0) ∧ hsN = [] ++ []) := by
  refine jT_xiload_n (v := (0, x1)) (pcN := 1) jIM_188_0 rfl rfl rfl ?_
  refine jT_xi2l (x := x1) (z := x1) (pcN := 2) jIM_188_1 rfl (jw_idd (by omega) (by omega)) rfl ?_
  refine jT_xlconst (z := 0) (pcN := 3) jIM_188_2 rfl rfl ?_
  refine jT_adv 1 (pcN := 6) (LN := [(0, (0, x1))]) (stN := [(1, 7), (1, 0), (1, x1)]) (hsN := []) (c1 := 0) (s1 := 0) (c2 := 0) (s2 := 0) (by exact rfl) ?_ (by omega) (by omega)
  refine jT_fR [] 0 (y := 189) (pcN := 9) (dC := 0) (bc1 := 0) (bc2 := 0) (c1 := 0) (c2 := 0) (as := [(1, x1), (1, 0), (1, 7)]) (asC := [(1, x1), (1, 0), (1, 7)]) (LN := [(0, (0, x1))]) (stN := []) (hsC := []) (v := (0, 0)) (st2 := [(0, 0)]) (jT_in_lo (d := 0) (v := x1) (lo := 0) (hi := 7) (by omega) (by omega) (by omega) (by omega)) (by rfl) (by rfl) (by decide +kernel) (by rfl) (by rfl) (by omega) (by omega) (by omega) (by omega) rfl ?_
  exact jT_ret rfl (by decide) (by show 0 ≤ 0; omega) (by omega) (by omega) ⟨rfl, rfl, rfl⟩
def jzM_18 : JC := (14, [(0, 1), (4, 1), (4, 2), (4, 3), (4, 4), (0, 0), (4, 5), (0, 0), (4, 6), (4, 7), (1, 1), (4, 8), (0, 0), (4, 9), (0, 0), (0, 0), (0, 0), (0, 0), (0, 0), (0, 0), (0, 0), (4, 10), (4, 11), (4, 12), (4, 13), (4, 14), (4, 15), (0, 0)], [])
def jpM_19 : List JC := [jzM_18, jgh, jgh, jgh, jgh, jgh, jgh, jgh, jgh, jgh, jgh, jgh, jgh, jgh, jgh, jgh]
def jzM_20 : JC := (14, [(0, 0), (4, 1), (4, 2), (4, 3), (4, 4), (0, 0), (4, 5), (0, 0), (4, 6), (4, 7), (1, 1), (4, 8), (0, 0), (4, 9), (0, 0), (0, 0), (0, 0), (0, 0), (0, 0), (0, 0), (0, 0), (4, 10), (4, 11), (4, 12), (4, 13), (4, 14), (4, 15), (0, 0)], [])
def jpM_21 : List JC := [jzM_20, jgh, jgh, jgh, jgh, jgh, jgh, jgh, jgh, jgh, jgh, jgh, jgh, jgh, jgh, jgh]
theorem jM_191_5 {xs : List Int} {d : Nat} : jT xs d 191 16 0 [(0, (4, 0)), (1, (0, 0)), (2, (0, 1))] [] jpM_21 0 0 (fun k v hsN => k = 0 ∧ v = (0, 1) ∧ hsN = jpM_19) := by
  refine jT_advK 9 (pcN := 18) (LN := [(0, (4, 0)), (1, (0, 0)), (2, (0, 1))]) (stN := [(0, 1)]) (hsN := jpM_19) (c1 := 0) (s1 := 0) (c2 := 0) (s2 := 0) (by decide +kernel) ?_ (by omega) (by omega)
  exact jT_ret rfl (by decide) (by show 16 ≤ 16; omega) (by omega) (by omega) ⟨rfl, rfl, rfl⟩
theorem jM_190_6 {xs : List Int} {d : Nat} : jT xs (d + 1) 190 16 0 [(0, (4, 0)), (1, (0, 0))] [] jpM_21 0 0 (fun k v hsN => k = 0 ∧ v = (0, 1) ∧ hsN = jpM_19) := by
  refine jT_advK 6 (pcN := 8) (LN := [(0, (4, 0)), (1, (0, 0))]) (stN := [(0, 1), (0, 0), (4, 0)]) (hsN := jpM_21) (c1 := 0) (s1 := 0) (c2 := 0) (s2 := 0) (by decide +kernel) ?_ (by omega) (by omega)
  refine jT_fB [0, 1, 2, 3, 4, 5, 6, 7, 8, 9, 10, 11, 12, 13, 14, 15] 16 (y := 191) (pcN := 11) (dC := 0) (bc1 := 0) (bc2 := 0) (c1 := 0) (c2 := 0) (as := [(4, 0), (0, 0), (0, 1)]) (asC := [(4, 0), (0, 0), (0, 1)]) (LN := [(0, (4, 0)), (1, (0, 0))]) (stN := []) (hsC := jpM_21) (hsD := jpM_19) (v := (0, 1)) (st2 := [(0, 1)]) (hs2 := jpM_19) (jM_191_5 (d := 0)) (by rfl) (by rfl) (by decide +kernel) (by rfl) (by rfl) (by omega) (by omega) (by omega) (by omega) rfl (by decide +kernel) ?_
  exact jT_ret rfl (by decide) (by show 16 ≤ 16; omega) (by omega) (by omega) ⟨rfl, rfl, rfl⟩
theorem jIM_287_0 : jmI (jm 287) 0 = (.aload_n 0, 1) := by rfl
theorem jIM_287_1 : jmI (jm 287) 1 = (.iload_n 1, 1) := by rfl
theorem jIM_287_8 : jmI (jm 287) 8 = (.ifCond .ne 32, 3) := by rfl
theorem jIM_287_40 : jmI (jm 287) 40 = (.iconst 0, 1) := by rfl
theorem jM_287_7 {xs : List Int} {d : Nat} {x1 x2 x3 : Int} (h_x1 : (-2147483648) ≤ x1 ∧ x1 ≤ (-1)) (h_x2 : (-2147483648) ≤ x2 ∧ x2 ≤ 2147483647) (h_x3 : (-2147483648) ≤ x3 ∧ x3 ≤ 2147483647) : jT xs (d + 2) 287 16 0 [(0, (4, 0)), (1, (0, x1)), (2, (0, x2)), (3, (0, x3))] [] jpM_21 0 0 (fun k v hsN => k = 0 ∧ v = (0, 0) ∧ hsN = jpM_19) := by
  refine jT_xaload_n (v := (4, 0)) (pcN := 1) jIM_287_0 rfl rfl rfl ?_
  refine jT_xiload_n (v := (0, x1)) (pcN := 2) jIM_287_1 rfl rfl rfl ?_
  refine jT_fR [] 16 (y := 188) (pcN := 5) (dC := 1) (bc1 := 0) (bc2 := 0) (c1 := 0) (c2 := 0) (as := [(0, x1)]) (asC := [(0, x1)]) (LN := [(0, (4, 0)), (1, (0, x1)), (2, (0, x2)), (3, (0, x3))]) (stN := [(4, 0)]) (hsC := []) (v := (0, 0)) (st2 := [(0, 0), (4, 0)]) (jM_188_4 (d := 0) (by omega)) (by rfl) (by rfl) (by decide +kernel) (by rfl) (by rfl) (by omega) (by omega) (by omega) (by omega) rfl ?_
  refine jT_fB [0, 1, 2, 3, 4, 5, 6, 7, 8, 9, 10, 11, 12, 13, 14, 15] 16 (y := 190) (pcN := 8) (dC := 1) (bc1 := 0) (bc2 := 0) (c1 := 0) (c2 := 0) (as := [(4, 0), (0, 0)]) (asC := [(4, 0), (0, 0)]) (LN := [(0, (4, 0)), (1, (0, x1)), (2, (0, x2)), (3, (0, x3))]) (stN := []) (hsC := jpM_21) (hsD := jpM_19) (v := (0, 1)) (st2 := [(0, 1)]) (hs2 := jpM_19) (jM_190_6 (d := 0)) (by rfl) (by rfl) (by decide +kernel) (by rfl) (by rfl) (by omega) (by omega) (by omega) (by omega) rfl (by decide +kernel) ?_
  refine jT_xifT (pcN := 40) jIM_287_8 rfl (by decide +kernel) rfl ?_
  refine jT_xiconst (k := 0) (pcN := 41) jIM_287_40 rfl ?_
  exact jT_ret rfl (by decide) (by show 16 ≤ 16; omega) (by omega) (by omega) ⟨rfl, rfl, rfl⟩
theorem jM_186_8 {xs : List Int} {d : Nat} : jT xs d 186 16 0 [(0, (4, 0))] [] jpM_19 0 0 (fun k v hsN => k = 0 ∧ v = (0, 1) ∧ hsN = jpM_19 ++ []) := by
  refine jT_advK 2 (pcN := 4) (LN := [(0, (4, 0))]) (stN := [(0, 1)]) (hsN := jpM_19) (c1 := 0) (s1 := 0) (c2 := 0) (s2 := 0) (by decide +kernel) ?_ (by omega) (by omega)
  exact jT_ret rfl (by decide) (by show 16 ≤ 16; omega) (by omega) (by omega) ⟨rfl, rfl, rfl⟩
theorem jIM_115_4 : jmI (jm 115) 4 = (.iload_n 1, 1) := by rfl
theorem jIM_115_5 : jmI (jm 115) 5 = (.iload_n 2, 1) := by rfl
theorem jIM_115_6 : jmI (jm 115) 6 = (.if_icmp .lt 14, 3) := by rfl
theorem jM_115_9 {xs : List Int} {d : Nat} {x1 : Int} (h_x1 : 0 ≤ x1 ∧ x1 ≤ 7) : jT xs d 115 1 0 [(0, (4, 0)), (1, (0, x1)), (2, (0, 8))] [] [jgh] 0 0 (fun k v hsN => k = 0 ∧ v = (9, 0) ∧ hsN = [jgh] ++ []) := by
  refine jT_xiload_n (v := (0, x1)) (pcN := 1) jIM_115_0 rfl rfl rfl ?_
  refine jT_ifF (a := x1) (t := 9) (by rfl) (by rfl) (by rfl) (jw_idd (by omega) (by omega)) (by simp only [jcP] <;> omega) ?_
  refine jT_xiload_n (v := (0, x1)) (pcN := 5) jIM_115_4 rfl rfl rfl ?_
  refine jT_xiload_n (v := (0, 8)) (pcN := 6) jIM_115_5 rfl rfl rfl ?_
  refine jT_icT (a := x1) (b := 8) (t := 20) (by rfl) (by rfl) (by rfl) (jw_idd (by omega) (by omega)) (jw_idd (by omega) (by omega)) (by simp only [jcP] <;> omega) ?_
  exact jT_ret rfl (by decide) (by show 1 ≤ 1; omega) (by omega) (by omega) ⟨rfl, rfl, rfl⟩
theorem jIM_155_7 : jmI (jm 155) 7 = (.iload_n 2, 1) := by rfl
theorem jIM_155_8 : jmI (jm 155) 8 = (.ifCond .ge 14, 3) := by rfl
theorem jM_155_10 {xs : List Int} {d : Nat} {x1 x2 x3 : Int} (h_x1 : 0 ≤ x1 ∧ x1 ≤ 7) (h_x2 : (-2147483648) ≤ x2 ∧ x2 ≤ (-1)) (h_x3 : (-2147483648) ≤ x3 ∧ x3 ≤ 2147483647) : jT xs (d + 1) 155 12 0 [(0, (4, 0)), (1, (0, x1)), (2, (0, x2)), (3, (0, x3))] [] jpM_6 1 6 (fun k v hsN => k = 1 ∧ v = (0, 1) ∧ hsN = jpM_6 ++ []) := by
  refine jT_xaload_n (v := (4, 0)) (pcN := 1) jIM_155_0 rfl rfl rfl ?_
  refine jT_xiload_n (v := (0, x1)) (pcN := 2) jIM_155_1 rfl rfl rfl ?_
  refine jT_xbipush (k := 8) (pcN := 4) jIM_155_2 (by decide) rfl ?_
  refine jT_fR [0] 12 (y := 115) (pcN := 7) (dC := 0) (bc1 := 0) (bc2 := 0) (c1 := 1) (c2 := 6) (as := [(4, 0), (0, x1), (0, 8)]) (asC := [(4, 0), (0, x1), (0, 8)]) (LN := [(0, (4, 0)), (1, (0, x1)), (2, (0, x2)), (3, (0, x3))]) (stN := []) (hsC := [jgh]) (v := (9, 0)) (st2 := []) (jM_115_9 (d := 0) (by omega)) (by rfl) (by rfl) (by decide +kernel) (by rfl) (by rfl) (by omega) (by omega) (by omega) (by omega) rfl ?_
  refine jT_xiload_n (v := (0, x2)) (pcN := 8) jIM_155_7 rfl rfl rfl ?_
  refine jT_ifF (a := x2) (t := 22) (by rfl) (by rfl) (by rfl) (jw_idd (by omega) (by omega)) (by simp only [jcP] <;> omega) ?_
  exact jT_ret (c1 := 1) (s1 := 6) rfl (by decide) (by show 12 ≤ 12; omega) (by omega) (by omega) ⟨rfl, rfl, rfl⟩
theorem jM_358_11 {xs : List Int} {d : Nat} {x1 x2 x3 : Int} (h_x1 : 0 ≤ x1 ∧ x1 ≤ 7) (h_x2 : (-2147483648) ≤ x2 ∧ x2 ≤ (-1)) (h_x3 : (-2147483648) ≤ x3 ∧ x3 ≤ 2147483647) : jT xs (d + 2) 358 13 0 [(0, (4, 0)), (1, (0, x1)), (2, (0, x2)), (3, (0, x3)), (4, (4, 1))] [] jpM_14 1 6 (fun k v hsN => k = 0 ∧ v = (0, 2) ∧ hsN = jpM_14 ++ []) := by
  refine jT_xaload (v := (4, 1)) (pcN := 2) jIM_358_0 rfl rfl rfl ?_
  refine jT_xiconst (k := 0) (pcN := 3) jIM_358_2 rfl ?_
  refine jT_xaload_n (v := (4, 0)) (pcN := 4) jIM_358_3 rfl rfl rfl ?_
  refine jT_xiload_n (v := (0, x1)) (pcN := 5) jIM_358_4 rfl rfl rfl ?_
  refine jT_xiload_n (v := (0, x2)) (pcN := 6) jIM_358_5 rfl rfl rfl ?_
  refine jT_xiload_n (v := (0, x3)) (pcN := 7) jIM_358_6 rfl rfl rfl ?_
  exact jT_fX [0, 2, 3, 4, 5, 6, 7, 8, 9, 10, 11, 12] 13 (y := 155) (pcN := 10) (dC := 1) (bc1 := 1) (bc2 := 6) (as := [(4, 0), (0, x1), (0, x2), (0, x3)]) (asC := [(4, 0), (0, x1), (0, x2), (0, x3)]) (LN := [(0, (4, 0)), (1, (0, x1)), (2, (0, x2)), (3, (0, x3)), (4, (4, 1))]) (stN := [(0, 0), (4, 1)]) (hsC := jpM_6) (e := 1) (jM_155_10 (d := 0) (by omega) (by omega) (by omega)) (by rfl) (by rfl) (by decide +kernel) (by rfl) (by rfl) (by omega) (by omega) (by omega) (by omega) (show _ from ⟨rfl, rfl, rfl⟩)
theorem jM_188_12 {xs : List Int} {d : Nat} {x1 : Int} (h_x1 : 0 ≤ x1 ∧ x1 ≤ 7) : jT xs (d + 1) 188 0 0 [(0, (0, x1))] [] [] 0 0 (fun k v hsN => k = 0 ∧ v = (0, 1) ∧ hsN = [] ++ []) := by
  refine jT_xiload_n (v := (0, x1)) (pcN := 1) jIM_188_0 rfl rfl rfl ?_
  refine jT_xi2l (x := x1) (z := x1) (pcN := 2) jIM_188_1 rfl (jw_idd (by omega) (by omega)) rfl ?_
  refine jT_xlconst (z := 0) (pcN := 3) jIM_188_2 rfl rfl ?_
  refine jT_adv 1 (pcN := 6) (LN := [(0, (0, x1))]) (stN := [(1, 7), (1, 0), (1, x1)]) (hsN := []) (c1 := 0) (s1 := 0) (c2 := 0) (s2 := 0) (by exact rfl) ?_ (by omega) (by omega)
  refine jT_fR [] 0 (y := 189) (pcN := 9) (dC := 0) (bc1 := 0) (bc2 := 0) (c1 := 0) (c2 := 0) (as := [(1, x1), (1, 0), (1, 7)]) (asC := [(1, x1), (1, 0), (1, 7)]) (LN := [(0, (0, x1))]) (stN := []) (hsC := []) (v := (0, 1)) (st2 := [(0, 1)]) (jT_in_ok (d := 0) (v := x1) (lo := 0) (hi := 7) (by omega) (by omega) (by omega) (by omega) (by omega)) (by rfl) (by rfl) (by decide +kernel) (by rfl) (by rfl) (by omega) (by omega) (by omega) (by omega) rfl ?_
  exact jT_ret rfl (by decide) (by show 0 ≤ 0; omega) (by omega) (by omega) ⟨rfl, rfl, rfl⟩
theorem jM_191_13 {xs : List Int} {d : Nat} : jT xs d 191 1 0 [(0, (4, 0)), (1, (0, 1)), (2, (0, 1))] [] [jgh] 0 0 (fun k v hsN => k = 0 ∧ v = (0, 0) ∧ hsN = [jgh] ++ []) := by
  refine jT_advK 5 (pcN := 18) (LN := [(0, (4, 0)), (1, (0, 1)), (2, (0, 1))]) (stN := [(0, 0)]) (hsN := [jgh]) (c1 := 0) (s1 := 0) (c2 := 0) (s2 := 0) (by decide +kernel) ?_ (by omega) (by omega)
  exact jT_ret rfl (by decide) (by show 1 ≤ 1; omega) (by omega) (by omega) ⟨rfl, rfl, rfl⟩
theorem jM_190_14 {xs : List Int} {d : Nat} : jT xs (d + 1) 190 16 0 [(0, (4, 0)), (1, (0, 1))] [] jpM_21 0 0 (fun k v hsN => k = 0 ∧ v = (0, 0) ∧ hsN = jpM_21 ++ []) := by
  refine jT_advK 6 (pcN := 8) (LN := [(0, (4, 0)), (1, (0, 1))]) (stN := [(0, 1), (0, 1), (4, 0)]) (hsN := jpM_21) (c1 := 0) (s1 := 0) (c2 := 0) (s2 := 0) (by decide +kernel) ?_ (by omega) (by omega)
  refine jT_fR [0] 16 (y := 191) (pcN := 11) (dC := 0) (bc1 := 0) (bc2 := 0) (c1 := 0) (c2 := 0) (as := [(4, 0), (0, 1), (0, 1)]) (asC := [(4, 0), (0, 1), (0, 1)]) (LN := [(0, (4, 0)), (1, (0, 1))]) (stN := []) (hsC := [jgh]) (v := (0, 0)) (st2 := [(0, 0)]) (jM_191_13 (d := 0)) (by rfl) (by rfl) (by decide +kernel) (by rfl) (by rfl) (by omega) (by omega) (by omega) (by omega) rfl ?_
  exact jT_ret rfl (by decide) (by show 16 ≤ 16; omega) (by omega) (by omega) ⟨rfl, rfl, rfl⟩
def jzM_31 : JC := (14, [(0, 2), (4, 1), (4, 2), (4, 3), (4, 4), (0, 0), (4, 5), (0, 0), (4, 6), (4, 7), (1, 1), (4, 8), (0, 0), (4, 9), (0, 0), (0, 0), (0, 0), (0, 0), (0, 0), (0, 0), (0, 0), (4, 10), (4, 11), (4, 12), (4, 13), (4, 14), (4, 15), (0, 0)], [])
def jpM_32 : List JC := [jzM_31, jgh, jgh, jgh, jgh, jgh, jgh, jgh, jgh, jgh, jgh, jgh, jgh, jgh, jgh, jgh]
theorem jM_191_15 {xs : List Int} {d : Nat} : jT xs d 191 16 0 [(0, (4, 0)), (1, (0, 0)), (2, (0, 2))] [] jpM_21 0 0 (fun k v hsN => k = 0 ∧ v = (0, 1) ∧ hsN = jpM_32) := by
  refine jT_advK 9 (pcN := 18) (LN := [(0, (4, 0)), (1, (0, 0)), (2, (0, 2))]) (stN := [(0, 1)]) (hsN := jpM_32) (c1 := 0) (s1 := 0) (c2 := 0) (s2 := 0) (by decide +kernel) ?_ (by omega) (by omega)
  exact jT_ret rfl (by decide) (by show 16 ≤ 16; omega) (by omega) (by omega) ⟨rfl, rfl, rfl⟩
theorem jIM_287_11 : jmI (jm 287) 11 = (.aload_n 0, 1) := by rfl
theorem jIM_287_12 : jmI (jm 287) 12 = (.iload_n 2, 1) := by rfl
theorem jIM_287_13 : jmI (jm 287) 13 = (.ifCond .lt 19, 3) := by rfl
theorem jIM_287_32 : jmI (jm 287) 32 = (.iconst 0, 1) := by rfl
theorem jIM_287_33 : jmI (jm 287) 33 = (.iconst 2, 1) := by rfl
theorem jIM_287_37 : jmI (jm 287) 37 = (.ifCond .eq 5, 3) := by rfl
theorem jM_287_16 {xs : List Int} {d : Nat} {x1 x2 x3 : Int} (h_x1 : 0 ≤ x1 ∧ x1 ≤ 7) (h_x2 : (-2147483648) ≤ x2 ∧ x2 ≤ (-1)) (h_x3 : (-2147483648) ≤ x3 ∧ x3 ≤ 2147483647) : jT xs (d + 2) 287 16 0 [(0, (4, 0)), (1, (0, x1)), (2, (0, x2)), (3, (0, x3))] [] jpM_21 0 0 (fun k v hsN => k = 0 ∧ v = (0, 0) ∧ hsN = jpM_32) := by
  refine jT_xaload_n (v := (4, 0)) (pcN := 1) jIM_287_0 rfl rfl rfl ?_
  refine jT_xiload_n (v := (0, x1)) (pcN := 2) jIM_287_1 rfl rfl rfl ?_
  refine jT_fR [] 16 (y := 188) (pcN := 5) (dC := 1) (bc1 := 0) (bc2 := 0) (c1 := 0) (c2 := 0) (as := [(0, x1)]) (asC := [(0, x1)]) (LN := [(0, (4, 0)), (1, (0, x1)), (2, (0, x2)), (3, (0, x3))]) (stN := [(4, 0)]) (hsC := []) (v := (0, 1)) (st2 := [(0, 1), (4, 0)]) (jM_188_12 (d := 0) (by omega)) (by rfl) (by rfl) (by decide +kernel) (by rfl) (by rfl) (by omega) (by omega) (by omega) (by omega) rfl ?_
  refine jT_fR [0, 1, 2, 3, 4, 5, 6, 7, 8, 9, 10, 11, 12, 13, 14, 15] 16 (y := 190) (pcN := 8) (dC := 1) (bc1 := 0) (bc2 := 0) (c1 := 0) (c2 := 0) (as := [(4, 0), (0, 1)]) (asC := [(4, 0), (0, 1)]) (LN := [(0, (4, 0)), (1, (0, x1)), (2, (0, x2)), (3, (0, x3))]) (stN := []) (hsC := jpM_21) (v := (0, 0)) (st2 := [(0, 0)]) (jM_190_14 (d := 0)) (by rfl) (by rfl) (by decide +kernel) (by rfl) (by rfl) (by omega) (by omega) (by omega) (by omega) rfl ?_
  refine jT_xifF (t := 40) (pcN := 11) jIM_287_8 rfl (by decide +kernel) rfl rfl ?_
  refine jT_xaload_n (v := (4, 0)) (pcN := 12) jIM_287_11 rfl rfl rfl ?_
  refine jT_xiload_n (v := (0, x2)) (pcN := 13) jIM_287_12 rfl rfl rfl ?_
  refine jT_ifT (a := x2) (t := 32) (by rfl) (by rfl) (by rfl) (jw_idd (by omega) (by omega)) (by simp only [jcP] <;> omega) ?_
  refine jT_xiconst (k := 0) (pcN := 33) jIM_287_32 rfl ?_
  refine jT_xiconst (k := 2) (pcN := 34) jIM_287_33 rfl ?_
  refine jT_fB [0, 1, 2, 3, 4, 5, 6, 7, 8, 9, 10, 11, 12, 13, 14, 15] 16 (y := 191) (pcN := 37) (dC := 0) (bc1 := 0) (bc2 := 0) (c1 := 0) (c2 := 0) (as := [(4, 0), (0, 0), (0, 2)]) (asC := [(4, 0), (0, 0), (0, 2)]) (LN := [(0, (4, 0)), (1, (0, x1)), (2, (0, x2)), (3, (0, x3))]) (stN := []) (hsC := jpM_21) (hsD := jpM_32) (v := (0, 1)) (st2 := [(0, 1)]) (hs2 := jpM_32) (jM_191_15 (d := 0)) (by rfl) (by rfl) (by decide +kernel) (by rfl) (by rfl) (by omega) (by omega) (by omega) (by omega) rfl (by decide +kernel) ?_
  refine jT_xifF (t := 42) (pcN := 40) jIM_287_37 rfl (by decide +kernel) rfl rfl ?_
  refine jT_xiconst (k := 0) (pcN := 41) jIM_287_40 rfl ?_
  exact jT_ret rfl (by decide) (by show 16 ≤ 16; omega) (by omega) (by omega) ⟨rfl, rfl, rfl⟩
theorem jM_186_17 {xs : List Int} {d : Nat} : jT xs d 186 16 0 [(0, (4, 0))] [] jpM_32 0 0 (fun k v hsN => k = 0 ∧ v = (0, 2) ∧ hsN = jpM_32 ++ []) := by
  refine jT_advK 2 (pcN := 4) (LN := [(0, (4, 0))]) (stN := [(0, 2)]) (hsN := jpM_32) (c1 := 0) (s1 := 0) (c2 := 0) (s2 := 0) (by decide +kernel) ?_ (by omega) (by omega)
  exact jT_ret rfl (by decide) (by show 16 ≤ 16; omega) (by omega) (by omega) ⟨rfl, rfl, rfl⟩
theorem jIM_116_0 : jmI (jm 116) 0 = (.iload_n 1, 1) := by rfl
theorem jIM_116_1 : jmI (jm 116) 1 = (.iload_n 2, 1) := by rfl
theorem jIM_116_2 : jmI (jm 116) 2 = (.if_icmp .lt 8, 3) := by rfl
theorem jM_116_18 {xs : List Int} {d : Nat} {x3 : Int} (h_x3 : (-2147483648) ≤ x3 ∧ x3 ≤ 0) : jT xs d 116 1 0 [(0, (4, 0)), (1, (0, x3)), (2, (0, 1)), (3, (0, 2000))] [] [jgh] 1 6 (fun k v hsN => k = 1 ∧ v = (0, 1) ∧ hsN = [jgh] ++ []) := by
  refine jT_xiload_n (v := (0, x3)) (pcN := 1) jIM_116_0 rfl rfl rfl ?_
  refine jT_xiload_n (v := (0, 1)) (pcN := 2) jIM_116_1 rfl rfl rfl ?_
  refine jT_icT (a := x3) (b := 1) (t := 10) (by rfl) (by rfl) (by rfl) (jw_idd (by omega) (by omega)) (jw_idd (by omega) (by omega)) (by simp only [jcP] <;> omega) ?_
  exact jT_ret (c1 := 1) (s1 := 6) rfl (by decide) (by show 1 ≤ 1; omega) (by omega) (by omega) ⟨rfl, rfl, rfl⟩
theorem jIM_155_22 : jmI (jm 155) 22 = (.aload_n 0, 1) := by rfl
theorem jIM_155_23 : jmI (jm 155) 23 = (.iload_n 3, 1) := by rfl
theorem jIM_155_24 : jmI (jm 155) 24 = (.iconst 1, 1) := by rfl
theorem jIM_155_25 : jmI (jm 155) 25 = (.sipush 2000, 3) := by rfl
theorem jM_155_19 {xs : List Int} {d : Nat} {x1 x2 x3 : Int} (h_x1 : 0 ≤ x1 ∧ x1 ≤ 7) (h_x2 : 0 ≤ x2 ∧ x2 ≤ 2147483647) (h_x3 : (-2147483648) ≤ x3 ∧ x3 ≤ 0) : jT xs (d + 1) 155 12 0 [(0, (4, 0)), (1, (0, x1)), (2, (0, x2)), (3, (0, x3))] [] jpM_6 1 6 (fun k v hsN => k = 1 ∧ v = (0, 1) ∧ hsN = jpM_6 ++ []) := by
  refine jT_xaload_n (v := (4, 0)) (pcN := 1) jIM_155_0 rfl rfl rfl ?_
  refine jT_xiload_n (v := (0, x1)) (pcN := 2) jIM_155_1 rfl rfl rfl ?_
  refine jT_xbipush (k := 8) (pcN := 4) jIM_155_2 (by decide) rfl ?_
  refine jT_fR [0] 12 (y := 115) (pcN := 7) (dC := 0) (bc1 := 0) (bc2 := 0) (c1 := 1) (c2 := 6) (as := [(4, 0), (0, x1), (0, 8)]) (asC := [(4, 0), (0, x1), (0, 8)]) (LN := [(0, (4, 0)), (1, (0, x1)), (2, (0, x2)), (3, (0, x3))]) (stN := []) (hsC := [jgh]) (v := (9, 0)) (st2 := []) (jM_115_9 (d := 0) (by omega)) (by rfl) (by rfl) (by decide +kernel) (by rfl) (by rfl) (by omega) (by omega) (by omega) (by omega) rfl ?_
  refine jT_xiload_n (v := (0, x2)) (pcN := 8) jIM_155_7 rfl rfl rfl ?_
  refine jT_ifT (a := x2) (t := 22) (by rfl) (by rfl) (by rfl) (jw_idd (by omega) (by omega)) (by simp only [jcP] <;> omega) ?_
  refine jT_xaload_n (v := (4, 0)) (pcN := 23) jIM_155_22 rfl rfl rfl ?_
  refine jT_xiload_n (v := (0, x3)) (pcN := 24) jIM_155_23 rfl rfl rfl ?_
  refine jT_xiconst (k := 1) (pcN := 25) jIM_155_24 rfl ?_
  refine jT_xsipush (k := 2000) (pcN := 28) jIM_155_25 (by decide) rfl ?_
  exact jT_fX [0] 12 (y := 116) (pcN := 31) (dC := 0) (bc1 := 1) (bc2 := 6) (as := [(4, 0), (0, x3), (0, 1), (0, 2000)]) (asC := [(4, 0), (0, x3), (0, 1), (0, 2000)]) (LN := [(0, (4, 0)), (1, (0, x1)), (2, (0, x2)), (3, (0, x3))]) (stN := []) (hsC := [jgh]) (e := 1) (jM_116_18 (d := 0) (by omega)) (by rfl) (by rfl) (by decide +kernel) (by rfl) (by rfl) (by omega) (by omega) (by omega) (by omega) ⟨rfl, ⟨rfl, rfl, rfl⟩⟩
theorem jM_358_20 {xs : List Int} {d : Nat} {x1 x2 x3 : Int} (h_x1 : 0 ≤ x1 ∧ x1 ≤ 7) (h_x2 : 0 ≤ x2 ∧ x2 ≤ 2147483647) (h_x3 : (-2147483648) ≤ x3 ∧ x3 ≤ 0) : jT xs (d + 2) 358 13 0 [(0, (4, 0)), (1, (0, x1)), (2, (0, x2)), (3, (0, x3)), (4, (4, 1))] [] jpM_14 1 6 (fun k v hsN => k = 0 ∧ v = (0, 2) ∧ hsN = jpM_14 ++ []) := by
  refine jT_xaload (v := (4, 1)) (pcN := 2) jIM_358_0 rfl rfl rfl ?_
  refine jT_xiconst (k := 0) (pcN := 3) jIM_358_2 rfl ?_
  refine jT_xaload_n (v := (4, 0)) (pcN := 4) jIM_358_3 rfl rfl rfl ?_
  refine jT_xiload_n (v := (0, x1)) (pcN := 5) jIM_358_4 rfl rfl rfl ?_
  refine jT_xiload_n (v := (0, x2)) (pcN := 6) jIM_358_5 rfl rfl rfl ?_
  refine jT_xiload_n (v := (0, x3)) (pcN := 7) jIM_358_6 rfl rfl rfl ?_
  exact jT_fX [0, 2, 3, 4, 5, 6, 7, 8, 9, 10, 11, 12] 13 (y := 155) (pcN := 10) (dC := 1) (bc1 := 1) (bc2 := 6) (as := [(4, 0), (0, x1), (0, x2), (0, x3)]) (asC := [(4, 0), (0, x1), (0, x2), (0, x3)]) (LN := [(0, (4, 0)), (1, (0, x1)), (2, (0, x2)), (3, (0, x3)), (4, (4, 1))]) (stN := [(0, 0), (4, 1)]) (hsC := jpM_6) (e := 1) (jM_155_19 (d := 0) (by omega) (by omega) (by omega)) (by rfl) (by rfl) (by decide +kernel) (by rfl) (by rfl) (by omega) (by omega) (by omega) (by omega) (show _ from ⟨rfl, rfl, rfl⟩)
theorem jIM_287_16 : jmI (jm 287) 16 = (.iload_n 3, 1) := by rfl
theorem jIM_287_17 : jmI (jm 287) 17 = (.i2l, 1) := by rfl
theorem jIM_287_18 : jmI (jm 287) 18 = (.lconst 1, 1) := by rfl
theorem jIM_287_25 : jmI (jm 287) 25 = (.ifCond .eq 7, 3) := by rfl
theorem jM_287_21 {xs : List Int} {d : Nat} {x1 x2 x3 : Int} (h_x1 : 0 ≤ x1 ∧ x1 ≤ 7) (h_x2 : 0 ≤ x2 ∧ x2 ≤ 2147483647) (h_x3 : (-2147483648) ≤ x3 ∧ x3 ≤ 0) : jT xs (d + 2) 287 16 0 [(0, (4, 0)), (1, (0, x1)), (2, (0, x2)), (3, (0, x3))] [] jpM_21 0 0 (fun k v hsN => k = 0 ∧ v = (0, 0) ∧ hsN = jpM_32) := by
  refine jT_xaload_n (v := (4, 0)) (pcN := 1) jIM_287_0 rfl rfl rfl ?_
  refine jT_xiload_n (v := (0, x1)) (pcN := 2) jIM_287_1 rfl rfl rfl ?_
  refine jT_fR [] 16 (y := 188) (pcN := 5) (dC := 1) (bc1 := 0) (bc2 := 0) (c1 := 0) (c2 := 0) (as := [(0, x1)]) (asC := [(0, x1)]) (LN := [(0, (4, 0)), (1, (0, x1)), (2, (0, x2)), (3, (0, x3))]) (stN := [(4, 0)]) (hsC := []) (v := (0, 1)) (st2 := [(0, 1), (4, 0)]) (jM_188_12 (d := 0) (by omega)) (by rfl) (by rfl) (by decide +kernel) (by rfl) (by rfl) (by omega) (by omega) (by omega) (by omega) rfl ?_
  refine jT_fR [0, 1, 2, 3, 4, 5, 6, 7, 8, 9, 10, 11, 12, 13, 14, 15] 16 (y := 190) (pcN := 8) (dC := 1) (bc1 := 0) (bc2 := 0) (c1 := 0) (c2 := 0) (as := [(4, 0), (0, 1)]) (asC := [(4, 0), (0, 1)]) (LN := [(0, (4, 0)), (1, (0, x1)), (2, (0, x2)), (3, (0, x3))]) (stN := []) (hsC := jpM_21) (v := (0, 0)) (st2 := [(0, 0)]) (jM_190_14 (d := 0)) (by rfl) (by rfl) (by decide +kernel) (by rfl) (by rfl) (by omega) (by omega) (by omega) (by omega) rfl ?_
  refine jT_xifF (t := 40) (pcN := 11) jIM_287_8 rfl (by decide +kernel) rfl rfl ?_
  refine jT_xaload_n (v := (4, 0)) (pcN := 12) jIM_287_11 rfl rfl rfl ?_
  refine jT_xiload_n (v := (0, x2)) (pcN := 13) jIM_287_12 rfl rfl rfl ?_
  refine jT_ifF (a := x2) (t := 32) (by rfl) (by rfl) (by rfl) (jw_idd (by omega) (by omega)) (by simp only [jcP] <;> omega) ?_
  refine jT_xiload_n (v := (0, x3)) (pcN := 17) jIM_287_16 rfl rfl rfl ?_
  refine jT_xi2l (x := x3) (z := x3) (pcN := 18) jIM_287_17 rfl (jw_idd (by omega) (by omega)) rfl ?_
  refine jT_xlconst (z := 1) (pcN := 19) jIM_287_18 rfl rfl ?_
  refine jT_adv 1 (pcN := 22) (LN := [(0, (4, 0)), (1, (0, x1)), (2, (0, x2)), (3, (0, x3))]) (stN := [(1, 2000), (1, 1), (1, x3), (4, 0)]) (hsN := jpM_21) (c1 := 0) (s1 := 0) (c2 := 0) (s2 := 0) (by exact rfl) ?_ (by omega) (by omega)
  refine jT_fR [] 16 (y := 189) (pcN := 25) (dC := 0) (bc1 := 0) (bc2 := 0) (c1 := 0) (c2 := 0) (as := [(1, x3), (1, 1), (1, 2000)]) (asC := [(1, x3), (1, 1), (1, 2000)]) (LN := [(0, (4, 0)), (1, (0, x1)), (2, (0, x2)), (3, (0, x3))]) (stN := [(4, 0)]) (hsC := []) (v := (0, 0)) (st2 := [(0, 0), (4, 0)]) (jT_in_lo (d := 0) (v := x3) (lo := 1) (hi := 2000) (by omega) (by omega) (by omega) (by omega)) (by rfl) (by rfl) (by decide +kernel) (by rfl) (by rfl) (by omega) (by omega) (by omega) (by omega) rfl ?_
  refine jT_xifT (pcN := 32) jIM_287_25 rfl (by decide +kernel) rfl ?_
  refine jT_xiconst (k := 0) (pcN := 33) jIM_287_32 rfl ?_
  refine jT_xiconst (k := 2) (pcN := 34) jIM_287_33 rfl ?_
  refine jT_fB [0, 1, 2, 3, 4, 5, 6, 7, 8, 9, 10, 11, 12, 13, 14, 15] 16 (y := 191) (pcN := 37) (dC := 0) (bc1 := 0) (bc2 := 0) (c1 := 0) (c2 := 0) (as := [(4, 0), (0, 0), (0, 2)]) (asC := [(4, 0), (0, 0), (0, 2)]) (LN := [(0, (4, 0)), (1, (0, x1)), (2, (0, x2)), (3, (0, x3))]) (stN := []) (hsC := jpM_21) (hsD := jpM_32) (v := (0, 1)) (st2 := [(0, 1)]) (hs2 := jpM_32) (jM_191_15 (d := 0)) (by rfl) (by rfl) (by decide +kernel) (by rfl) (by rfl) (by omega) (by omega) (by omega) (by omega) rfl (by decide +kernel) ?_
  refine jT_xifF (t := 42) (pcN := 40) jIM_287_37 rfl (by decide +kernel) rfl rfl ?_
  refine jT_xiconst (k := 0) (pcN := 41) jIM_287_40 rfl ?_
  exact jT_ret rfl (by decide) (by show 16 ≤ 16; omega) (by omega) (by omega) ⟨rfl, rfl, rfl⟩
theorem jIM_116_5 : jmI (jm 116) 5 = (.iload_n 1, 1) := by rfl
theorem jIM_116_6 : jmI (jm 116) 6 = (.iload_n 3, 1) := by rfl
theorem jIM_116_7 : jmI (jm 116) 7 = (.if_icmp .le 14, 3) := by rfl
theorem jM_116_22 {xs : List Int} {d : Nat} {x3 : Int} (h_x3 : 1 ≤ x3 ∧ x3 ≤ 2000) : jT xs d 116 1 0 [(0, (4, 0)), (1, (0, x3)), (2, (0, 1)), (3, (0, 2000))] [] [jgh] 0 0 (fun k v hsN => k = 0 ∧ v = (9, 0) ∧ hsN = [jgh] ++ []) := by
  refine jT_xiload_n (v := (0, x3)) (pcN := 1) jIM_116_0 rfl rfl rfl ?_
  refine jT_xiload_n (v := (0, 1)) (pcN := 2) jIM_116_1 rfl rfl rfl ?_
  refine jT_icF (a := x3) (b := 1) (t := 10) (by rfl) (by rfl) (by rfl) (jw_idd (by omega) (by omega)) (jw_idd (by omega) (by omega)) (by simp only [jcP] <;> omega) ?_
  refine jT_xiload_n (v := (0, x3)) (pcN := 6) jIM_116_5 rfl rfl rfl ?_
  refine jT_xiload_n (v := (0, 2000)) (pcN := 7) jIM_116_6 rfl rfl rfl ?_
  refine jT_icT (a := x3) (b := 2000) (t := 21) (by rfl) (by rfl) (by rfl) (jw_idd (by omega) (by omega)) (jw_idd (by omega) (by omega)) (by simp only [jcP] <;> omega) ?_
  exact jT_ret rfl (by decide) (by show 1 ≤ 1; omega) (by omega) (by omega) ⟨rfl, rfl, rfl⟩
theorem jIM_57_0 : jmI (jm 57) 0 = (.aload_n 0, 1) := by rfl
theorem jIM_57_1 : jmI (jm 57) 1 = (.getfield 9, 3) := by rfl
def jzM_55 : JC := (9, [(4, 1), (4, 2), (4, 3), (4, 4), (4, 5)], [])
theorem jIM_57_4 : jmI (jm 57) 4 = (.iload_n 1, 1) := by rfl
theorem jIM_57_5 : jmI (jm 57) 5 = (.aaload, 1) := by rfl
def jpM_58 : List JC := [jzM_55, (114, [], [6, 6, 6, 6, 6, 6, 6, 6]), jgh, jgh, jgh, jgh, jgh]
theorem jM_57_23 {xs : List Int} {d : Nat} {x1 : Int} (h_x1 : 0 ≤ x1 ∧ x1 ≤ 7) : jT xs d 57 7 0 [(0, (4, 0)), (1, (0, x1))] [] jpM_58 0 0 (fun k v hsN => k = 0 ∧ v = (4, 6) ∧ hsN = jpM_58 ++ []) := by
  refine jT_xaload_n (v := (4, 0)) (pcN := 1) jIM_57_0 rfl rfl rfl ?_
  refine jT_xgetf (a := 0) (t := 1) (ci := 9) (fi := 0) (c := jzM_55) (v := (4, 1)) (pcN := 4) jIM_57_1 rfl rfl rfl rfl rfl rfl rfl ?_
  refine jT_xiload_n (v := (0, x1)) (pcN := 5) jIM_57_4 rfl rfl rfl ?_
  refine jT_aald (x := 6) (a := 1) (j := (x1).toNat) (fs := []) (X := [6, 6, 6, 6, 6, 6, 6, 6]) (kd := 114) (by rfl) (by rfl) (by rfl) (jw_nn (by omega) (by omega)) (jall_get 8 (by decide) (by omega)) (by rfl) ?_
  refine jT_eq (LN := [(0, (4, 0)), (1, (0, x1))]) (stN := [(4, 6)]) (hsN := jpM_58) rfl rfl rfl ?_
  exact jT_ret rfl (by decide) (by show 7 ≤ 7; omega) (by omega) (by omega) ⟨rfl, rfl, rfl⟩
theorem jM_39_24 {xs : List Int} {d : Nat} : jT xs d 39 2 0 [(0, (4, 0)), (1, (4, 1))] [] [jgh, (101, [], [0, 0, 0, 0, 0, 0])] 0 0 (fun k v hsN => k = 0 ∧ v = (1, 0) ∧ hsN = [jgh, (101, [], [0, 0, 0, 0, 0, 0])] ++ []) := by
  refine jT_advK 68 (pcN := 29) (LN := [(4, (0, 6)), (2, (1, 0)), (0, (4, 0)), (1, (4, 1))]) (stN := [(1, 0)]) (hsN := [jgh, (101, [], [0, 0, 0, 0, 0, 0])]) (c1 := 0) (s1 := 0) (c2 := 0) (s2 := 0) (by decide +kernel) ?_ (by omega) (by omega)
  exact jT_ret rfl (by decide) (by show 2 ≤ 2; omega) (by omega) (by omega) ⟨rfl, rfl, rfl⟩
theorem jM_372_25 {xs : List Int} {d : Nat} : jT xs d 372 0 0 [(0, (1, 0)), (2, (1, 0))] [] [] 0 0 (fun k v hsN => k = 0 ∧ v = (0, 0) ∧ hsN = [] ++ []) := by
  refine jT_advK 10 (pcN := 21) (LN := [(0, (1, 0)), (2, (1, 0))]) (stN := [(0, 0)]) (hsN := []) (c1 := 0) (s1 := 0) (c2 := 0) (s2 := 0) (by decide +kernel) ?_ (by omega) (by omega)
  exact jT_ret rfl (by decide) (by show 0 ≤ 0; omega) (by omega) (by omega) ⟨rfl, rfl, rfl⟩
def jpM_59 : List JC := [(8, [(4, 2), (4, 3)], []), (101, [], [0, 0, 0, 0, 0, 0]), jgh, jgh]
theorem jM_38_26 {xs : List Int} {d : Nat} : jT xs (d + 1) 38 4 0 [(0, (4, 0)), (1, (4, 1))] [] jpM_59 0 0 (fun k v hsN => k = 0 ∧ v = (0, 0) ∧ hsN = jpM_59 ++ []) := by
  refine jT_advK 2 (pcN := 2) (LN := [(0, (4, 0)), (1, (4, 1))]) (stN := [(4, 1), (4, 0)]) (hsN := jpM_59) (c1 := 0) (s1 := 0) (c2 := 0) (s2 := 0) (by decide +kernel) ?_ (by omega) (by omega)
  refine jT_fR [0, 1] 4 (y := 39) (pcN := 5) (dC := 0) (bc1 := 0) (bc2 := 0) (c1 := 0) (c2 := 0) (as := [(4, 0), (4, 1)]) (asC := [(4, 0), (4, 1)]) (LN := [(0, (4, 0)), (1, (4, 1))]) (stN := []) (hsC := [jgh, (101, [], [0, 0, 0, 0, 0, 0])]) (v := (1, 0)) (st2 := [(1, 0)]) (jM_39_24 (d := 0)) (by rfl) (by rfl) (by decide +kernel) (by rfl) (by rfl) (by omega) (by omega) (by omega) (by omega) rfl ?_
  refine jT_advK 9 (pcN := 16) (LN := [(2, (1, 0)), (0, (4, 0)), (1, (4, 1))]) (stN := [(1, 0), (1, 0)]) (hsN := jpM_59) (c1 := 0) (s1 := 0) (c2 := 0) (s2 := 0) (by decide +kernel) ?_ (by omega) (by omega)
  refine jT_fR [] 4 (y := 372) (pcN := 19) (dC := 0) (bc1 := 0) (bc2 := 0) (c1 := 0) (c2 := 0) (as := [(1, 0), (1, 0)]) (asC := [(1, 0), (1, 0)]) (LN := [(2, (1, 0)), (0, (4, 0)), (1, (4, 1))]) (stN := []) (hsC := []) (v := (0, 0)) (st2 := [(0, 0)]) (jM_372_25 (d := 0)) (by rfl) (by rfl) (by decide +kernel) (by rfl) (by rfl) (by omega) (by omega) (by omega) (by omega) rfl ?_
  exact jT_ret rfl (by decide) (by show 4 ≤ 4; omega) (by omega) (by omega) ⟨rfl, rfl, rfl⟩
def jpM_60 : List JC := [(8, [(4, 2), (4, 1)], []), (101, [], [0, 0, 0, 0, 0, 0]), (3, [(4, 3), (1, 0)], []), (100, [], List.replicate 20 0)]
theorem jIM_42_19 : jmI (jm 42) 19 = (.if_icmp .ge 41, 3) := by rfl
theorem jIM_42_60 : jmI (jm 42) 60 = (.aload_n 0, 1) := by rfl
theorem jIM_42_61 : jmI (jm 42) 61 = (.getfield 16, 3) := by rfl
theorem jIM_42_64 : jmI (jm 42) 64 = (.getfield 93, 3) := by rfl
theorem jIM_42_67 : jmI (jm 42) 67 = (.iload 4, 2) := by rfl
theorem jIM_42_69 : jmI (jm 42) 69 = (.lload_n 2, 1) := by rfl
theorem jIM_42_54 : jmI (jm 42) 54 = (.iinc 5 1, 3) := by rfl
theorem jIM_42_57 : jmI (jm 42) 57 = (.goto (-42), 3) := by rfl
theorem jIM_42_15 : jmI (jm 42) 15 = (.iload 5, 2) := by rfl
theorem jIM_42_17 : jmI (jm 42) 17 = (.bipush 6, 2) := by rfl
theorem jM_42_27 {xs : List Int} {d : Nat} : jT xs d 42 4 0 [(0, (4, 0)), (1, (4, 1))] [] jpM_60 0 0 (fun k v hsN => k = 0 ∧ v = (9, 0) ∧ hsN = jpM_60 ++ []) := by
  refine jT_advK 300 (pcN := 19) (LN := [(5, (0, 6)), (4, (0, 3)), (2, (1, 0)), (0, (4, 0)), (1, (4, 1))]) (stN := [(0, 6), (0, 6)]) (hsN := jpM_60) (c1 := 0) (s1 := 0) (c2 := 0) (s2 := 0) (by decide +kernel) ?_ (by omega) (by omega)
  refine jT_xicT (pcN := 60) jIM_42_19 rfl (by decide +kernel) rfl ?_
  refine jT_xaload_n (v := (4, 0)) (pcN := 61) jIM_42_60 rfl rfl rfl ?_
  refine jT_xgetf (a := 0) (t := 1) (ci := 8) (fi := 0) (c := (8, [(4, 2), (4, 1)], [])) (v := (4, 2)) (pcN := 64) jIM_42_61 rfl rfl rfl rfl rfl rfl rfl ?_
  refine jT_xgetf (a := 2) (t := 2) (ci := 3) (fi := 0) (c := (3, [(4, 3), (1, 0)], [])) (v := (4, 3)) (pcN := 67) jIM_42_64 rfl rfl rfl rfl rfl rfl rfl ?_
  refine jT_xiload (v := (0, 3)) (pcN := 69) jIM_42_67 rfl rfl rfl ?_
  refine jT_xlload_n (v := (1, 0)) (pcN := 70) jIM_42_69 rfl rfl rfl ?_
  refine jT_adv 1 (pcN := 73) (LN := [(5, (0, 6)), (4, (0, 3)), (2, (1, 0)), (0, (4, 0)), (1, (4, 1))]) (stN := [(1, 65535), (1, 0), (0, 3), (4, 3)]) (hsN := jpM_60) (c1 := 0) (s1 := 0) (c2 := 0) (s2 := 0) (by exact rfl) ?_ (by omega) (by omega)
  refine jT_land (x := 0) (y := 65535) (z := 0) (by rfl) (by rfl) (by decide +kernel) ?_
  refine jT_advK 300 (pcN := 54) (LN := [(5, (0, 5)), (4, (0, 7)), (2, (1, 0)), (0, (4, 0)), (1, (4, 1))]) (stN := []) (hsN := jpM_60) (c1 := 0) (s1 := 0) (c2 := 0) (s2 := 0) (by decide +kernel) ?_ (by omega) (by omega)
  refine jT_xiinc (x := 5) (z := 6) (LN := [(5, (0, 6)), (4, (0, 7)), (2, (1, 0)), (0, (4, 0)), (1, (4, 1))]) (pcN := 57) jIM_42_54 rfl rfl (by decide) rfl rfl ?_
  refine jT_xgoto (pcN := 15) jIM_42_57 rfl ?_
  refine jT_xiload (v := (0, 6)) (pcN := 17) jIM_42_15 rfl rfl rfl ?_
  refine jT_xbipush (k := 6) (pcN := 19) jIM_42_17 (by decide) rfl ?_
  refine jT_xicT (pcN := 60) jIM_42_19 rfl (by decide +kernel) rfl ?_
  refine jT_xaload_n (v := (4, 0)) (pcN := 61) jIM_42_60 rfl rfl rfl ?_
  refine jT_xgetf (a := 0) (t := 1) (ci := 8) (fi := 0) (c := (8, [(4, 2), (4, 1)], [])) (v := (4, 2)) (pcN := 64) jIM_42_61 rfl rfl rfl rfl rfl rfl rfl ?_
  refine jT_xgetf (a := 2) (t := 2) (ci := 3) (fi := 0) (c := (3, [(4, 3), (1, 0)], [])) (v := (4, 3)) (pcN := 67) jIM_42_64 rfl rfl rfl rfl rfl rfl rfl ?_
  refine jT_xiload (v := (0, 7)) (pcN := 69) jIM_42_67 rfl rfl rfl ?_
  refine jT_xlload_n (v := (1, 0)) (pcN := 70) jIM_42_69 rfl rfl rfl ?_
  refine jT_adv 1 (pcN := 73) (LN := [(5, (0, 6)), (4, (0, 7)), (2, (1, 0)), (0, (4, 0)), (1, (4, 1))]) (stN := [(1, 65535), (1, 0), (0, 7), (4, 3)]) (hsN := jpM_60) (c1 := 0) (s1 := 0) (c2 := 0) (s2 := 0) (by exact rfl) ?_ (by omega) (by omega)
  refine jT_land (x := 0) (y := 65535) (z := 0) (by rfl) (by rfl) (by decide +kernel) ?_
  refine jT_advK 300 (pcN := 54) (LN := [(5, (0, 5)), (4, (0, 11)), (2, (1, 0)), (0, (4, 0)), (1, (4, 1))]) (stN := []) (hsN := jpM_60) (c1 := 0) (s1 := 0) (c2 := 0) (s2 := 0) (by decide +kernel) ?_ (by omega) (by omega)
  refine jT_xiinc (x := 5) (z := 6) (LN := [(5, (0, 6)), (4, (0, 11)), (2, (1, 0)), (0, (4, 0)), (1, (4, 1))]) (pcN := 57) jIM_42_54 rfl rfl (by decide) rfl rfl ?_
  refine jT_xgoto (pcN := 15) jIM_42_57 rfl ?_
  refine jT_xiload (v := (0, 6)) (pcN := 17) jIM_42_15 rfl rfl rfl ?_
  refine jT_xbipush (k := 6) (pcN := 19) jIM_42_17 (by decide) rfl ?_
  refine jT_xicT (pcN := 60) jIM_42_19 rfl (by decide +kernel) rfl ?_
  refine jT_xaload_n (v := (4, 0)) (pcN := 61) jIM_42_60 rfl rfl rfl ?_
  refine jT_xgetf (a := 0) (t := 1) (ci := 8) (fi := 0) (c := (8, [(4, 2), (4, 1)], [])) (v := (4, 2)) (pcN := 64) jIM_42_61 rfl rfl rfl rfl rfl rfl rfl ?_
  refine jT_xgetf (a := 2) (t := 2) (ci := 3) (fi := 0) (c := (3, [(4, 3), (1, 0)], [])) (v := (4, 3)) (pcN := 67) jIM_42_64 rfl rfl rfl rfl rfl rfl rfl ?_
  refine jT_xiload (v := (0, 11)) (pcN := 69) jIM_42_67 rfl rfl rfl ?_
  refine jT_xlload_n (v := (1, 0)) (pcN := 70) jIM_42_69 rfl rfl rfl ?_
  refine jT_adv 1 (pcN := 73) (LN := [(5, (0, 6)), (4, (0, 11)), (2, (1, 0)), (0, (4, 0)), (1, (4, 1))]) (stN := [(1, 65535), (1, 0), (0, 11), (4, 3)]) (hsN := jpM_60) (c1 := 0) (s1 := 0) (c2 := 0) (s2 := 0) (by exact rfl) ?_ (by omega) (by omega)
  refine jT_land (x := 0) (y := 65535) (z := 0) (by rfl) (by rfl) (by decide +kernel) ?_
  refine jT_advK 300 (pcN := 54) (LN := [(5, (0, 5)), (4, (0, 15)), (2, (1, 0)), (0, (4, 0)), (1, (4, 1))]) (stN := []) (hsN := jpM_60) (c1 := 0) (s1 := 0) (c2 := 0) (s2 := 0) (by decide +kernel) ?_ (by omega) (by omega)
  refine jT_xiinc (x := 5) (z := 6) (LN := [(5, (0, 6)), (4, (0, 15)), (2, (1, 0)), (0, (4, 0)), (1, (4, 1))]) (pcN := 57) jIM_42_54 rfl rfl (by decide) rfl rfl ?_
  refine jT_xgoto (pcN := 15) jIM_42_57 rfl ?_
  refine jT_xiload (v := (0, 6)) (pcN := 17) jIM_42_15 rfl rfl rfl ?_
  refine jT_xbipush (k := 6) (pcN := 19) jIM_42_17 (by decide) rfl ?_
  refine jT_xicT (pcN := 60) jIM_42_19 rfl (by decide +kernel) rfl ?_
  refine jT_xaload_n (v := (4, 0)) (pcN := 61) jIM_42_60 rfl rfl rfl ?_
  refine jT_xgetf (a := 0) (t := 1) (ci := 8) (fi := 0) (c := (8, [(4, 2), (4, 1)], [])) (v := (4, 2)) (pcN := 64) jIM_42_61 rfl rfl rfl rfl rfl rfl rfl ?_
  refine jT_xgetf (a := 2) (t := 2) (ci := 3) (fi := 0) (c := (3, [(4, 3), (1, 0)], [])) (v := (4, 3)) (pcN := 67) jIM_42_64 rfl rfl rfl rfl rfl rfl rfl ?_
  refine jT_xiload (v := (0, 15)) (pcN := 69) jIM_42_67 rfl rfl rfl ?_
  refine jT_xlload_n (v := (1, 0)) (pcN := 70) jIM_42_69 rfl rfl rfl ?_
  refine jT_adv 1 (pcN := 73) (LN := [(5, (0, 6)), (4, (0, 15)), (2, (1, 0)), (0, (4, 0)), (1, (4, 1))]) (stN := [(1, 65535), (1, 0), (0, 15), (4, 3)]) (hsN := jpM_60) (c1 := 0) (s1 := 0) (c2 := 0) (s2 := 0) (by exact rfl) ?_ (by omega) (by omega)
  refine jT_land (x := 0) (y := 65535) (z := 0) (by rfl) (by rfl) (by decide +kernel) ?_
  refine jT_advK 300 (pcN := 54) (LN := [(5, (0, 5)), (4, (0, 19)), (2, (1, 0)), (0, (4, 0)), (1, (4, 1))]) (stN := []) (hsN := jpM_60) (c1 := 0) (s1 := 0) (c2 := 0) (s2 := 0) (by decide +kernel) ?_ (by omega) (by omega)
  refine jT_xiinc (x := 5) (z := 6) (LN := [(5, (0, 6)), (4, (0, 19)), (2, (1, 0)), (0, (4, 0)), (1, (4, 1))]) (pcN := 57) jIM_42_54 rfl rfl (by decide) rfl rfl ?_
  refine jT_xgoto (pcN := 15) jIM_42_57 rfl ?_
  refine jT_xiload (v := (0, 6)) (pcN := 17) jIM_42_15 rfl rfl rfl ?_
  refine jT_xbipush (k := 6) (pcN := 19) jIM_42_17 (by decide) rfl ?_
  refine jT_xicT (pcN := 60) jIM_42_19 rfl (by decide +kernel) rfl ?_
  refine jT_xaload_n (v := (4, 0)) (pcN := 61) jIM_42_60 rfl rfl rfl ?_
  refine jT_xgetf (a := 0) (t := 1) (ci := 8) (fi := 0) (c := (8, [(4, 2), (4, 1)], [])) (v := (4, 2)) (pcN := 64) jIM_42_61 rfl rfl rfl rfl rfl rfl rfl ?_
  refine jT_xgetf (a := 2) (t := 2) (ci := 3) (fi := 0) (c := (3, [(4, 3), (1, 0)], [])) (v := (4, 3)) (pcN := 67) jIM_42_64 rfl rfl rfl rfl rfl rfl rfl ?_
  refine jT_xiload (v := (0, 19)) (pcN := 69) jIM_42_67 rfl rfl rfl ?_
  refine jT_xlload_n (v := (1, 0)) (pcN := 70) jIM_42_69 rfl rfl rfl ?_
  refine jT_adv 1 (pcN := 73) (LN := [(5, (0, 6)), (4, (0, 19)), (2, (1, 0)), (0, (4, 0)), (1, (4, 1))]) (stN := [(1, 65535), (1, 0), (0, 19), (4, 3)]) (hsN := jpM_60) (c1 := 0) (s1 := 0) (c2 := 0) (s2 := 0) (by exact rfl) ?_ (by omega) (by omega)
  refine jT_land (x := 0) (y := 65535) (z := 0) (by rfl) (by rfl) (by decide +kernel) ?_
  refine jT_advK 134 (pcN := 135) (LN := [(4, (0, 6)), (2, (1, 0)), (5, (0, 6)), (0, (4, 0)), (1, (4, 1))]) (stN := []) (hsN := jpM_60) (c1 := 0) (s1 := 0) (c2 := 0) (s2 := 0) (by decide +kernel) ?_ (by omega) (by omega)
  exact jT_ret rfl (by decide) (by show 4 ≤ 4; omega) (by omega) (by omega) ⟨rfl, rfl, rfl⟩
theorem jM_81_28 {xs : List Int} {d : Nat} : jT xs d 81 2 0 [(0, (4, 0)), (1, (1, 0))] [] [(12, [(4, 1), (0, 0)], []), jgh] 0 0 (fun k v hsN => k = 0 ∧ v = (9, 0) ∧ hsN = [(12, [(4, 1), (0, 0)], []), jgh] ++ []) := by
  refine jT_advK 9 (pcN := 55) (LN := [(3, (1, 0)), (0, (4, 0)), (1, (1, 0))]) (stN := []) (hsN := [(12, [(4, 1), (0, 0)], []), jgh]) (c1 := 0) (s1 := 0) (c2 := 0) (s2 := 0) (by decide +kernel) ?_ (by omega) (by omega)
  exact jT_ret rfl (by decide) (by show 2 ≤ 2; omega) (by omega) (by omega) ⟨rfl, rfl, rfl⟩
theorem jM_83_29 {xs : List Int} {d : Nat} : jT xs d 83 2 0 [(0, (4, 0))] [] [(12, [(4, 1), (0, 20)], []), (100, [], List.replicate 48 0)] 0 0 (fun k v hsN => k = 0 ∧ v = (9, 0) ∧ hsN = [(12, [(4, 1), (0, 0)], []), (100, [], List.replicate 48 0)]) := by
  refine jT_advK 300 (pcN := 22) (LN := [(0, (4, 0))]) (stN := [(4, 0)]) (hsN := [(12, [(4, 1), (0, 4)], []), (100, [], List.replicate 48 0)]) (c1 := 0) (s1 := 0) (c2 := 0) (s2 := 0) (by decide +kernel) ?_ (by omega) (by omega)
  refine jT_adv 1 (pcN := 23) (LN := [(0, (4, 0))]) (stN := [(4, 0), (4, 0)]) (hsN := [(12, [(4, 1), (0, 4)], []), (100, [], List.replicate 48 0)]) (c1 := 0) (s1 := 0) (c2 := 0) (s2 := 0) (by exact rfl) ?_ (by omega) (by omega)
  refine jT_advK 62 (pcN := 34) (LN := [(0, (4, 0))]) (stN := []) (hsN := [(12, [(4, 1), (0, 0)], []), (100, [], List.replicate 48 0)]) (c1 := 0) (s1 := 0) (c2 := 0) (s2 := 0) (by decide +kernel) ?_ (by omega) (by omega)
  exact jT_ret rfl (by decide) (by show 2 ≤ 2; omega) (by omega) (by omega) ⟨rfl, rfl, rfl⟩
theorem jIM_90_77 : jmI (jm 90) 77 = (.iinc 3 1, 3) := by rfl
theorem jIM_90_80 : jmI (jm 90) 80 = (.goto (-31), 3) := by rfl
theorem jIM_90_49 : jmI (jm 90) 49 = (.iload_n 3, 1) := by rfl
theorem jIM_90_50 : jmI (jm 90) 50 = (.iload_n 1, 1) := by rfl
theorem jIM_90_51 : jmI (jm 90) 51 = (.if_icmp .ge 32, 3) := by rfl
theorem jIM_90_54 : jmI (jm 90) 54 = (.aload_n 0, 1) := by rfl
theorem jIM_90_55 : jmI (jm 90) 55 = (.getfield 11, 3) := by rfl
theorem jIM_90_58 : jmI (jm 90) 58 = (.iload_n 3, 1) := by rfl
theorem jIM_90_59 : jmI (jm 90) 59 = (.aload_n 2, 1) := by rfl
theorem jM_90_30 {xs : List Int} {d : Nat} : jT xs (d + 1) 90 3 0 [(0, (4, 0)), (1, (0, 20)), (2, (4, 1))] [] [(12, [(4, 2), (0, 0)], []), (100, [], List.replicate 20 0), (100, [], List.replicate 48 0)] 0 0 (fun k v hsN => k = 0 ∧ v = (9, 0) ∧ hsN = [(12, [(4, 2), (0, 0)], []), (100, [], List.replicate 20 0), (100, [], List.replicate 48 0)] ++ []) := by
  refine jT_advK 300 (pcN := 77) (LN := [(3, (0, 14)), (0, (4, 0)), (1, (0, 20)), (2, (4, 1))]) (stN := []) (hsN := [(12, [(4, 2), (0, 0)], []), (100, [], List.replicate 20 0), (100, [], List.replicate 48 0)]) (c1 := 0) (s1 := 0) (c2 := 0) (s2 := 0) (by decide +kernel) ?_ (by omega) (by omega)
  refine jT_xiinc (x := 14) (z := 15) (LN := [(3, (0, 15)), (0, (4, 0)), (1, (0, 20)), (2, (4, 1))]) (pcN := 80) jIM_90_77 rfl rfl (by decide) rfl rfl ?_
  refine jT_xgoto (pcN := 49) jIM_90_80 rfl ?_
  refine jT_xiload_n (v := (0, 15)) (pcN := 50) jIM_90_49 rfl rfl rfl ?_
  refine jT_xiload_n (v := (0, 20)) (pcN := 51) jIM_90_50 rfl rfl rfl ?_
  refine jT_xicF (t := 83) (pcN := 54) jIM_90_51 rfl (by decide +kernel) rfl rfl ?_
  refine jT_xaload_n (v := (4, 0)) (pcN := 55) jIM_90_54 rfl rfl rfl ?_
  refine jT_xgetf (a := 0) (t := 1) (ci := 12) (fi := 0) (c := (12, [(4, 2), (0, 0)], [])) (v := (4, 2)) (pcN := 58) jIM_90_55 rfl rfl rfl rfl rfl rfl rfl ?_
  refine jT_xiload_n (v := (0, 15)) (pcN := 59) jIM_90_58 rfl rfl rfl ?_
  refine jT_xaload_n (v := (4, 1)) (pcN := 60) jIM_90_59 rfl rfl rfl ?_
  refine jT_adv 1 (pcN := 63) (LN := [(3, (0, 15)), (0, (4, 0)), (1, (0, 20)), (2, (4, 1))]) (stN := [(0, 15), (4, 2)]) (hsN := [(12, [(4, 2), (0, 0)], []), (100, [], List.replicate 20 0), (100, [], List.replicate 48 0)]) (c1 := 0) (s1 := 0) (c2 := 0) (s2 := 0) (by exact rfl) ?_ (by omega) (by omega)
  refine jT_advK 97 (pcN := 94) (LN := [(3, (0, 20)), (0, (4, 0)), (1, (0, 20)), (2, (4, 1))]) (stN := [(4, 0)]) (hsN := [(12, [(4, 2), (0, 20)], []), (100, [], List.replicate 20 0), (100, [], List.replicate 48 0)]) (c1 := 0) (s1 := 0) (c2 := 0) (s2 := 0) (by decide +kernel) ?_ (by omega) (by omega)
  refine jT_fB [0, 2] 3 (y := 83) (pcN := 97) (dC := 0) (bc1 := 0) (bc2 := 0) (c1 := 0) (c2 := 0) (as := [(4, 0)]) (asC := [(4, 0)]) (LN := [(3, (0, 20)), (0, (4, 0)), (1, (0, 20)), (2, (4, 1))]) (stN := []) (hsC := [(12, [(4, 1), (0, 20)], []), (100, [], List.replicate 48 0)]) (hsD := [(12, [(4, 1), (0, 0)], []), (100, [], List.replicate 48 0)]) (v := (9, 0)) (st2 := []) (hs2 := [(12, [(4, 2), (0, 0)], []), (100, [], List.replicate 20 0), (100, [], List.replicate 48 0)]) (jM_83_29 (d := 0)) (by rfl) (by rfl) (by decide +kernel) (by rfl) (by rfl) (by omega) (by omega) (by omega) (by omega) rfl (by decide +kernel) ?_
  exact jT_ret rfl (by decide) (by show 3 ≤ 3; omega) (by omega) (by omega) ⟨rfl, rfl, rfl⟩
def jpM_80 : List JC := [(8, [(4, 3), (4, 4)], []), (4, [(4, 5), (1, 1)], []), (12, [(4, 6), (0, 0)], []), (3, [(4, 7), (1, 0)], []), (101, [], [0, 0, 0, 0, 0, 0]), (101, [], [0, 0, 0, 0, 0, 0]), (100, [], List.replicate 48 0), (100, [], List.replicate 20 0)]
theorem jM_50_31 {xs : List Int} {d : Nat} : jT xs (d + 2) 50 8 0 [(0, (4, 0)), (1, (4, 1)), (2, (4, 2))] [] jpM_80 0 0 (fun k v hsN => k = 0 ∧ v = (9, 0) ∧ hsN = jpM_80 ++ []) := by
  refine jT_advK 3 (pcN := 5) (LN := [(0, (4, 0)), (1, (4, 1)), (2, (4, 2))]) (stN := [(4, 5), (4, 0)]) (hsN := jpM_80) (c1 := 0) (s1 := 0) (c2 := 0) (s2 := 0) (by decide +kernel) ?_ (by omega) (by omega)
  refine jT_fR [0, 5, 3, 4] 8 (y := 38) (pcN := 8) (dC := 1) (bc1 := 0) (bc2 := 0) (c1 := 0) (c2 := 0) (as := [(4, 0), (4, 5)]) (asC := [(4, 0), (4, 1)]) (LN := [(0, (4, 0)), (1, (4, 1)), (2, (4, 2))]) (stN := []) (hsC := jpM_59) (v := (0, 0)) (st2 := [(0, 0)]) (jM_38_26 (d := 0)) (by rfl) (by rfl) (by decide +kernel) (by rfl) (by rfl) (by omega) (by omega) (by omega) (by omega) rfl ?_
  refine jT_advK 101 (pcN := 67) (LN := [(4, (0, 6)), (3, (0, 0)), (0, (4, 0)), (1, (4, 1)), (2, (4, 2))]) (stN := [(4, 4), (4, 0)]) (hsN := jpM_80) (c1 := 0) (s1 := 0) (c2 := 0) (s2 := 0) (by decide +kernel) ?_ (by omega) (by omega)
  refine jT_fR [0, 4, 3, 7] 8 (y := 42) (pcN := 70) (dC := 0) (bc1 := 0) (bc2 := 0) (c1 := 0) (c2 := 0) (as := [(4, 0), (4, 4)]) (asC := [(4, 0), (4, 1)]) (LN := [(4, (0, 6)), (3, (0, 0)), (0, (4, 0)), (1, (4, 1)), (2, (4, 2))]) (stN := []) (hsC := jpM_60) (v := (9, 0)) (st2 := []) (jM_42_27 (d := 0)) (by rfl) (by rfl) (by decide +kernel) (by rfl) (by rfl) (by omega) (by omega) (by omega) (by omega) rfl ?_
  refine jT_advK 4 (pcN := 78) (LN := [(4, (0, 6)), (3, (0, 0)), (0, (4, 0)), (1, (4, 1)), (2, (4, 2))]) (stN := [(1, 0), (4, 2)]) (hsN := jpM_80) (c1 := 0) (s1 := 0) (c2 := 0) (s2 := 0) (by decide +kernel) ?_ (by omega) (by omega)
  refine jT_fR [2, 6] 8 (y := 81) (pcN := 81) (dC := 0) (bc1 := 0) (bc2 := 0) (c1 := 0) (c2 := 0) (as := [(4, 2), (1, 0)]) (asC := [(4, 0), (1, 0)]) (LN := [(4, (0, 6)), (3, (0, 0)), (0, (4, 0)), (1, (4, 1)), (2, (4, 2))]) (stN := []) (hsC := [(12, [(4, 1), (0, 0)], []), jgh]) (v := (9, 0)) (st2 := []) (jM_81_28 (d := 0)) (by rfl) (by rfl) (by decide +kernel) (by rfl) (by rfl) (by omega) (by omega) (by omega) (by omega) rfl ?_
  refine jT_advK 5 (pcN := 91) (LN := [(4, (0, 6)), (3, (0, 0)), (0, (4, 0)), (1, (4, 1)), (2, (4, 2))]) (stN := [(4, 7), (0, 20), (4, 2)]) (hsN := jpM_80) (c1 := 0) (s1 := 0) (c2 := 0) (s2 := 0) (by decide +kernel) ?_ (by omega) (by omega)
  refine jT_fR [2, 7, 6] 8 (y := 90) (pcN := 94) (dC := 1) (bc1 := 0) (bc2 := 0) (c1 := 0) (c2 := 0) (as := [(4, 2), (0, 20), (4, 7)]) (asC := [(4, 0), (0, 20), (4, 1)]) (LN := [(4, (0, 6)), (3, (0, 0)), (0, (4, 0)), (1, (4, 1)), (2, (4, 2))]) (stN := []) (hsC := [(12, [(4, 2), (0, 0)], []), (100, [], List.replicate 20 0), (100, [], List.replicate 48 0)]) (v := (9, 0)) (st2 := []) (jM_90_30 (d := 0)) (by rfl) (by rfl) (by decide +kernel) (by rfl) (by rfl) (by omega) (by omega) (by omega) (by omega) rfl ?_
  exact jT_ret rfl (by decide) (by show 8 ≤ 8; omega) (by omega) (by omega) ⟨rfl, rfl, rfl⟩
def jzM_81 : JC := (100, [], [1, 0, 0, 0, 0, 0, 0, 0, 0, 0, 0, 0, 0, 0, 0, 0, 0, 0, 0, 0, 0, 0, 0, 0, 0, 0, 0, 0, 0, 0, 0, 0, 0, 0, 0, 0, 0, 0, 0, 0, 0, 0, 0, 0, 0, 0, 0, 0])
theorem jM_81_32 {xs : List Int} {d : Nat} : jT xs d 81 2 0 [(0, (4, 0)), (1, (1, 1))] [] [(12, [(4, 1), (0, 0)], []), (100, [], List.replicate 48 0)] 0 0 (fun k v hsN => k = 0 ∧ v = (9, 0) ∧ hsN = [(12, [(4, 1), (0, 1)], []), jzM_81]) := by
  refine jT_advK 37 (pcN := 55) (LN := [(3, (1, 0)), (0, (4, 0)), (1, (1, 1))]) (stN := []) (hsN := [(12, [(4, 1), (0, 1)], []), jzM_81]) (c1 := 0) (s1 := 0) (c2 := 0) (s2 := 0) (by decide +kernel) ?_ (by omega) (by omega)
  exact jT_ret rfl (by decide) (by show 2 ≤ 2; omega) (by omega) (by omega) ⟨rfl, rfl, rfl⟩
def jzM_82 : JC := (100, [], [0, 0, 0, 0, 0, 0, 0, 0, 0, 0, 0, 0, 0, 0, 0, 0, 0, 0, 0, 0, 1, 0, 0, 0, 0, 0, 0, 0, 0, 0, 0, 0, 0, 0, 0, 0, 0, 0, 0, 0, 0, 0, 0, 0, 0, 0, 0, 0])
theorem jM_83_33 {xs : List Int} {d : Nat} : jT xs d 83 2 0 [(0, (4, 0))] [] [(12, [(4, 1), (0, 21)], []), jzM_82] 0 0 (fun k v hsN => k = 0 ∧ v = (9, 0) ∧ hsN = [(12, [(4, 1), (0, 21)], []), jzM_82] ++ []) := by
  refine jT_advK 11 (pcN := 34) (LN := [(0, (4, 0))]) (stN := []) (hsN := [(12, [(4, 1), (0, 21)], []), jzM_82]) (c1 := 0) (s1 := 0) (c2 := 0) (s2 := 0) (by decide +kernel) ?_ (by omega) (by omega)
  exact jT_ret rfl (by decide) (by show 2 ≤ 2; omega) (by omega) (by omega) ⟨rfl, rfl, rfl⟩
theorem jM_90_34 {xs : List Int} {d : Nat} : jT xs (d + 1) 90 2 0 [(0, (4, 0)), (1, (0, 20)), (2, (4, (-1)))] [] [(12, [(4, 1), (0, 1)], []), jzM_81] 0 0 (fun k v hsN => k = 0 ∧ v = (9, 0) ∧ hsN = [(12, [(4, 1), (0, 21)], []), jzM_82]) := by
  refine jT_advK 281 (pcN := 94) (LN := [(3, (0, 20)), (0, (4, 0)), (1, (0, 20)), (2, (4, (-1)))]) (stN := [(4, 0)]) (hsN := [(12, [(4, 1), (0, 21)], []), jzM_82]) (c1 := 0) (s1 := 0) (c2 := 0) (s2 := 0) (by decide +kernel) ?_ (by omega) (by omega)
  refine jT_fR [0, 1] 2 (y := 83) (pcN := 97) (dC := 0) (bc1 := 0) (bc2 := 0) (c1 := 0) (c2 := 0) (as := [(4, 0)]) (asC := [(4, 0)]) (LN := [(3, (0, 20)), (0, (4, 0)), (1, (0, 20)), (2, (4, (-1)))]) (stN := []) (hsC := [(12, [(4, 1), (0, 21)], []), jzM_82]) (v := (9, 0)) (st2 := []) (jM_83_33 (d := 0)) (by rfl) (by rfl) (by decide +kernel) (by rfl) (by rfl) (by omega) (by omega) (by omega) (by omega) rfl ?_
  exact jT_ret rfl (by decide) (by show 2 ≤ 2; omega) (by omega) (by omega) ⟨rfl, rfl, rfl⟩
def jpM_83 : List JC := [(2, [(4, 3), (4, 4)], []), (4, [(4, 5), (1, 1)], []), (8, [(4, 6), (4, 7)], []), (12, [(4, 8), (0, 0)], []), (12, [(4, 9), (0, 0)], []), (101, [], [0, 0, 0, 0, 0, 0]), (3, [(4, 10), (1, 0)], []), (101, [], [0, 0, 0, 0, 0, 0]), (100, [], List.replicate 48 0), (100, [], List.replicate 48 0), (100, [], List.replicate 20 0)]
def jpM_84 : List JC := [(2, [(4, 3), (4, 4)], []), (4, [(4, 5), (1, 1)], []), (8, [(4, 6), (4, 7)], []), (12, [(4, 8), (0, 0)], []), (12, [(4, 9), (0, 1)], []), (101, [], [0, 0, 0, 0, 0, 0]), (3, [(4, 10), (1, 0)], []), (101, [], [0, 0, 0, 0, 0, 0]), (100, [], List.replicate 48 0), jzM_81, (100, [], List.replicate 20 0)]
def jpM_85 : List JC := [(2, [(4, 3), (4, 4)], []), (4, [(4, 5), (1, 1)], []), (8, [(4, 6), (4, 7)], []), (12, [(4, 8), (0, 0)], []), (12, [(4, 9), (0, 21)], []), (101, [], [0, 0, 0, 0, 0, 0]), (3, [(4, 10), (1, 0)], []), (101, [], [0, 0, 0, 0, 0, 0]), (100, [], List.replicate 48 0), jzM_82, (100, [], List.replicate 20 0)]
theorem jM_1_35 {xs : List Int} {d : Nat} : jT xs (d + 3) 1 11 0 [(0, (4, 0)), (1, (4, 1)), (2, (4, 2))] [] jpM_83 0 0 (fun k v hsN => k = 0 ∧ v = (9, 0) ∧ hsN = jpM_85) := by
  refine jT_advK 4 (pcN := 6) (LN := [(0, (4, 0)), (1, (4, 1)), (2, (4, 2))]) (stN := [(4, 3), (4, 1), (4, 2)]) (hsN := jpM_83) (c1 := 0) (s1 := 0) (c2 := 0) (s2 := 0) (by decide +kernel) ?_ (by omega) (by omega)
  refine jT_fR [2, 1, 3, 6, 7, 5, 8, 10] 11 (y := 50) (pcN := 9) (dC := 2) (bc1 := 0) (bc2 := 0) (c1 := 0) (c2 := 0) (as := [(4, 2), (4, 1), (4, 3)]) (asC := [(4, 0), (4, 1), (4, 2)]) (LN := [(0, (4, 0)), (1, (4, 1)), (2, (4, 2))]) (stN := []) (hsC := jpM_80) (v := (9, 0)) (st2 := []) (jM_50_31 (d := 0)) (by rfl) (by rfl) (by decide +kernel) (by rfl) (by rfl) (by omega) (by omega) (by omega) (by omega) rfl ?_
  refine jT_advK 4 (pcN := 17) (LN := [(0, (4, 0)), (1, (4, 1)), (2, (4, 2))]) (stN := [(1, 1), (4, 4)]) (hsN := jpM_83) (c1 := 0) (s1 := 0) (c2 := 0) (s2 := 0) (by decide +kernel) ?_ (by omega) (by omega)
  refine jT_fB [4, 9] 11 (y := 81) (pcN := 20) (dC := 0) (bc1 := 0) (bc2 := 0) (c1 := 0) (c2 := 0) (as := [(4, 4), (1, 1)]) (asC := [(4, 0), (1, 1)]) (LN := [(0, (4, 0)), (1, (4, 1)), (2, (4, 2))]) (stN := []) (hsC := [(12, [(4, 1), (0, 0)], []), (100, [], List.replicate 48 0)]) (hsD := [(12, [(4, 1), (0, 1)], []), jzM_81]) (v := (9, 0)) (st2 := []) (hs2 := jpM_84) (jM_81_32 (d := 0)) (by rfl) (by rfl) (by decide +kernel) (by rfl) (by rfl) (by omega) (by omega) (by omega) (by omega) rfl (by decide +kernel) ?_
  refine jT_advK 4 (pcN := 27) (LN := [(0, (4, 0)), (1, (4, 1)), (2, (4, 2))]) (stN := [(4, (-1)), (0, 20), (4, 4)]) (hsN := jpM_84) (c1 := 0) (s1 := 0) (c2 := 0) (s2 := 0) (by decide +kernel) ?_ (by omega) (by omega)
  refine jT_fB [4, 9] 11 (y := 90) (pcN := 30) (dC := 1) (bc1 := 0) (bc2 := 0) (c1 := 0) (c2 := 0) (as := [(4, 4), (0, 20), (4, (-1))]) (asC := [(4, 0), (0, 20), (4, (-1))]) (LN := [(0, (4, 0)), (1, (4, 1)), (2, (4, 2))]) (stN := []) (hsC := [(12, [(4, 1), (0, 1)], []), jzM_81]) (hsD := [(12, [(4, 1), (0, 21)], []), jzM_82]) (v := (9, 0)) (st2 := []) (hs2 := jpM_85) (jM_90_34 (d := 0)) (by rfl) (by rfl) (by decide +kernel) (by rfl) (by rfl) (by omega) (by omega) (by omega) (by omega) rfl (by decide +kernel) ?_
  exact jT_ret rfl (by decide) (by show 11 ≤ 11; omega) (by omega) (by omega) ⟨rfl, rfl, rfl⟩
theorem jM_88_36 {xs : List Int} {d : Nat} : jT xs d 88 2 0 [(0, (4, 0))] [] [(12, [(4, 1), (0, 0)], []), jgh] 0 0 (fun k v hsN => k = 0 ∧ v = (0, 0) ∧ hsN = [(12, [(4, 1), (0, 0)], []), jgh] ++ []) := by
  refine jT_advK 4 (pcN := 8) (LN := [(0, (4, 0))]) (stN := [(0, 0)]) (hsN := [(12, [(4, 1), (0, 0)], []), jgh]) (c1 := 0) (s1 := 0) (c2 := 0) (s2 := 0) (by decide +kernel) ?_ (by omega) (by omega)
  exact jT_ret rfl (by decide) (by show 2 ≤ 2; omega) (by omega) (by omega) ⟨rfl, rfl, rfl⟩
theorem jM_88_37 {xs : List Int} {d : Nat} : jT xs d 88 2 0 [(0, (4, 0))] [] [(12, [(4, 1), (0, 21)], []), jzM_82] 0 0 (fun k v hsN => k = 0 ∧ v = (0, 321) ∧ hsN = [(12, [(4, 1), (0, 21)], []), jzM_82] ++ []) := by
  refine jT_advK 29 (pcN := 46) (LN := [(2, (0, 0)), (1, (0, 321)), (0, (4, 0))]) (stN := [(0, 321)]) (hsN := [(12, [(4, 1), (0, 21)], []), jzM_82]) (c1 := 0) (s1 := 0) (c2 := 0) (s2 := 0) (by decide +kernel) ?_ (by omega) (by omega)
  exact jT_ret rfl (by decide) (by show 2 ≤ 2; omega) (by omega) (by omega) ⟨rfl, rfl, rfl⟩
def jpM_86 : List JC := [(12, [(4, 2), (0, 0)], []), (12, [(4, 3), (0, 21)], []), jgh, jzM_82]
theorem jM_91_38 {xs : List Int} {d : Nat} : jT xs (d + 1) 91 4 0 [(0, (4, 0)), (1, (4, 1)), (2, (1, 1000000000000000000))] [] jpM_86 0 0 (fun k v hsN => k = 0 ∧ v = (1, 0) ∧ hsN = jpM_86 ++ []) := by
  refine jT_advK 1 (pcN := 1) (LN := [(0, (4, 0)), (1, (4, 1)), (2, (1, 1000000000000000000))]) (stN := [(4, 0)]) (hsN := jpM_86) (c1 := 0) (s1 := 0) (c2 := 0) (s2 := 0) (by decide +kernel) ?_ (by omega) (by omega)
  refine jT_fR [0, 2] 4 (y := 88) (pcN := 4) (dC := 0) (bc1 := 0) (bc2 := 0) (c1 := 0) (c2 := 0) (as := [(4, 0)]) (asC := [(4, 0)]) (LN := [(0, (4, 0)), (1, (4, 1)), (2, (1, 1000000000000000000))]) (stN := []) (hsC := [(12, [(4, 1), (0, 0)], []), jgh]) (v := (0, 0)) (st2 := [(0, 0)]) (jM_88_36 (d := 0)) (by rfl) (by rfl) (by decide +kernel) (by rfl) (by rfl) (by omega) (by omega) (by omega) (by omega) rfl ?_
  refine jT_advK 1 (pcN := 5) (LN := [(0, (4, 0)), (1, (4, 1)), (2, (1, 1000000000000000000))]) (stN := [(4, 1), (0, 0)]) (hsN := jpM_86) (c1 := 0) (s1 := 0) (c2 := 0) (s2 := 0) (by decide +kernel) ?_ (by omega) (by omega)
  refine jT_fR [1, 3] 4 (y := 88) (pcN := 8) (dC := 0) (bc1 := 0) (bc2 := 0) (c1 := 0) (c2 := 0) (as := [(4, 1)]) (asC := [(4, 0)]) (LN := [(0, (4, 0)), (1, (4, 1)), (2, (1, 1000000000000000000))]) (stN := [(0, 0)]) (hsC := [(12, [(4, 1), (0, 21)], []), jzM_82]) (v := (0, 321)) (st2 := [(0, 321), (0, 0)]) (jM_88_37 (d := 0)) (by rfl) (by rfl) (by decide +kernel) (by rfl) (by rfl) (by omega) (by omega) (by omega) (by omega) rfl ?_
  refine jT_advK 5 (pcN := 24) (LN := [(4, (0, (-321))), (0, (4, 0)), (1, (4, 1)), (2, (1, 1000000000000000000))]) (stN := [(1, 0)]) (hsN := jpM_86) (c1 := 0) (s1 := 0) (c2 := 0) (s2 := 0) (by decide +kernel) ?_ (by omega) (by omega)
  exact jT_ret rfl (by decide) (by show 4 ≤ 4; omega) (by omega) (by omega) ⟨rfl, rfl, rfl⟩
def jpM_87 : List JC := [(2, [(4, 1), (4, 2)], []), (12, [(4, 3), (0, 0)], []), (12, [(4, 4), (0, 21)], []), jgh, jzM_82]
def jpM_88 : List JC := [(2, [(4, 2), (4, 1)], []), (12, [(4, 3), (0, 0)], []), (12, [(4, 4), (0, 21)], []), jgh, jzM_82]
theorem jM_2_39 {xs : List Int} {d : Nat} : jT xs (d + 2) 2 5 0 [(0, (4, 0))] [] jpM_87 0 0 (fun k v hsN => k = 0 ∧ v = (1, 0) ∧ hsN = jpM_88) := by
  refine jT_advK 5 (pcN := 11) (LN := [(0, (4, 0))]) (stN := [(1, 1000000000000000000), (4, 2), (4, 1)]) (hsN := jpM_87) (c1 := 0) (s1 := 0) (c2 := 0) (s2 := 0) (by decide +kernel) ?_ (by omega) (by omega)
  refine jT_fR [1, 2, 3, 4] 5 (y := 91) (pcN := 14) (dC := 1) (bc1 := 0) (bc2 := 0) (c1 := 0) (c2 := 0) (as := [(4, 1), (4, 2), (1, 1000000000000000000)]) (asC := [(4, 0), (4, 1), (1, 1000000000000000000)]) (LN := [(0, (4, 0))]) (stN := []) (hsC := jpM_86) (v := (1, 0)) (st2 := [(1, 0)]) (jM_91_38 (d := 0)) (by rfl) (by rfl) (by decide +kernel) (by rfl) (by rfl) (by omega) (by omega) (by omega) (by omega) rfl ?_
  refine jT_advK 12 (pcN := 34) (LN := [(3, (4, 1)), (1, (1, 0)), (0, (4, 0))]) (stN := [(1, 0)]) (hsN := jpM_88) (c1 := 0) (s1 := 0) (c2 := 0) (s2 := 0) (by decide +kernel) ?_ (by omega) (by omega)
  exact jT_ret rfl (by decide) (by show 5 ≤ 5; omega) (by omega) (by omega) ⟨rfl, rfl, rfl⟩
theorem jIM_156_0 : jmI (jm 156) 0 = (.aload_n 0, 1) := by rfl
theorem jIM_156_1 : jmI (jm 156) 1 = (.getfield 19, 3) := by rfl
theorem jIM_156_4 : jmI (jm 156) 4 = (.aload_n 1, 1) := by rfl
theorem jIM_156_5 : jmI (jm 156) 5 = (.aload_n 0, 1) := by rfl
theorem jIM_156_6 : jmI (jm 156) 6 = (.getfield 10, 3) := by rfl
def jpM_94 : List JC := [jzM_13, (4, [(4, 13), (1, 1)], []), (8, [(4, 14), (4, 15)], []), (2, [(4, 16), (4, 17)], []), jgh, jgh, jgh, jgh, jgh, jgh, jgh, jgh, jgh, (101, [], [0, 0, 0, 0, 0, 0]), (3, [(4, 18), (1, 0)], []), (101, [], [0, 0, 0, 0, 0, 0]), (12, [(4, 19), (0, 0)], []), (12, [(4, 20), (0, 21)], []), (100, [], List.replicate 20 0), (100, [], List.replicate 48 0), jzM_82]
theorem jIM_156_12 : jmI (jm 156) 12 = (.aload_n 0, 1) := by rfl
theorem jIM_156_13 : jmI (jm 156) 13 = (.getfield 19, 3) := by rfl
def jpM_97 : List JC := [jzM_13, (4, [(4, 13), (1, 1)], []), (8, [(4, 14), (4, 15)], []), (2, [(4, 17), (4, 16)], []), jgh, jgh, jgh, jgh, jgh, jgh, jgh, jgh, jgh, (101, [], [0, 0, 0, 0, 0, 0]), (3, [(4, 18), (1, 0)], []), (101, [], [0, 0, 0, 0, 0, 0]), (12, [(4, 19), (0, 0)], []), (12, [(4, 20), (0, 21)], []), (100, [], List.replicate 20 0), (100, [], List.replicate 48 0), jzM_82]
theorem jIM_156_20 : jmI (jm 156) 20 = (.lconst 0, 1) := by rfl
theorem jIM_156_21 : jmI (jm 156) 21 = (.lstore 4, 2) := by rfl
theorem jIM_156_23 : jmI (jm 156) 23 = (.lconst 1, 1) := by rfl
theorem jIM_156_24 : jmI (jm 156) 24 = (.lstore 6, 2) := by rfl
theorem jIM_156_26 : jmI (jm 156) 26 = (.iconst 0, 1) := by rfl
theorem jIM_156_27 : jmI (jm 156) 27 = (.istore 8, 2) := by rfl
theorem jIM_156_29 : jmI (jm 156) 29 = (.iconst 0, 1) := by rfl
theorem jIM_156_30 : jmI (jm 156) 30 = (.istore 9, 2) := by rfl
theorem jIM_156_32 : jmI (jm 156) 32 = (.iload 9, 2) := by rfl
theorem jIM_156_34 : jmI (jm 156) 34 = (.iload_n 3, 1) := by rfl
theorem jIM_156_35 : jmI (jm 156) 35 = (.if_icmp .ge 100, 3) := by rfl
theorem jIM_156_38 : jmI (jm 156) 38 = (.iload 8, 2) := by rfl
theorem jIM_156_40 : jmI (jm 156) 40 = (.iload_n 2, 1) := by rfl
theorem jIM_156_41 : jmI (jm 156) 41 = (.if_icmp .ge 94, 3) := by rfl
theorem jIM_156_135 : jmI (jm 156) 135 = (.iload 8, 2) := by rfl
theorem jIM_156_137 : jmI (jm 156) 137 = (.iload_n 2, 1) := by rfl
theorem jIM_156_138 : jmI (jm 156) 138 = (.if_icmp .ne 8, 3) := by rfl
theorem jIM_156_141 : jmI (jm 156) 141 = (.lload 6, 2) := by rfl
theorem jIM_156_143 : jmI (jm 156) 143 = (.goto 6, 3) := by rfl
def jpM_117 : List JC := [jzM_13, (4, [(4, 13), (1, 1)], []), (8, [(4, 14), (4, 15)], []), (2, [(4, 16), (4, 17)], []), jgh, jgh, jgh, jgh, jgh, jgh, jgh, jgh, jgh, (101, [], [0, 0, 0, 0, 0, 0]), (3, [(4, 18), (1, 0)], []), (101, [], [0, 0, 0, 0, 0, 0]), (12, [(4, 19), (0, 0)], []), (12, [(4, 20), (0, 0)], []), (100, [], List.replicate 20 0), (100, [], List.replicate 48 0), (100, [], List.replicate 48 0)]
theorem jM_156_40 {xs : List Int} {d : Nat} {x3 : Int} (h_x3 : 1 ≤ x3 ∧ x3 ≤ 2000) : jT xs (d + 4) 156 21 0 [(0, (4, 0)), (1, (4, 1)), (2, (0, 0)), (3, (0, x3))] [] jpM_117 0 0 (fun k v hsN => k = 0 ∧ v = (1, 1) ∧ hsN = jpM_97) := by
  refine jT_xaload_n (v := (4, 0)) (pcN := 1) jIM_156_0 rfl rfl rfl ?_
  refine jT_xgetf (a := 0) (t := 1) (ci := 13) (fi := 1) (c := jzM_13) (v := (4, 3)) (pcN := 4) jIM_156_1 rfl rfl rfl rfl rfl rfl rfl ?_
  refine jT_xaload_n (v := (4, 1)) (pcN := 5) jIM_156_4 rfl rfl rfl ?_
  refine jT_xaload_n (v := (4, 0)) (pcN := 6) jIM_156_5 rfl rfl rfl ?_
  refine jT_xgetf (a := 0) (t := 1) (ci := 13) (fi := 0) (c := jzM_13) (v := (4, 2)) (pcN := 9) jIM_156_6 rfl rfl rfl rfl rfl rfl rfl ?_
  refine jT_fB [3, 1, 2, 16, 17, 13, 14, 15, 19, 20, 18] 21 (y := 1) (pcN := 12) (dC := 3) (bc1 := 0) (bc2 := 0) (c1 := 0) (c2 := 0) (as := [(4, 3), (4, 1), (4, 2)]) (asC := [(4, 0), (4, 1), (4, 2)]) (LN := [(0, (4, 0)), (1, (4, 1)), (2, (0, 0)), (3, (0, x3))]) (stN := []) (hsC := jpM_83) (hsD := jpM_85) (v := (9, 0)) (st2 := []) (hs2 := jpM_94) (jM_1_35 (d := 0)) (by rfl) (by rfl) (by decide +kernel) (by rfl) (by rfl) (by omega) (by omega) (by omega) (by omega) rfl (by decide +kernel) ?_
  refine jT_xaload_n (v := (4, 0)) (pcN := 13) jIM_156_12 rfl rfl rfl ?_
  refine jT_xgetf (a := 0) (t := 1) (ci := 13) (fi := 1) (c := jzM_13) (v := (4, 3)) (pcN := 16) jIM_156_13 rfl rfl rfl rfl rfl rfl rfl ?_
  refine jT_fB [3, 16, 17, 19, 20] 21 (y := 2) (pcN := 19) (dC := 2) (bc1 := 0) (bc2 := 0) (c1 := 0) (c2 := 0) (as := [(4, 3)]) (asC := [(4, 0)]) (LN := [(0, (4, 0)), (1, (4, 1)), (2, (0, 0)), (3, (0, x3))]) (stN := []) (hsC := jpM_87) (hsD := jpM_88) (v := (1, 0)) (st2 := [(1, 0)]) (hs2 := jpM_97) (jM_2_39 (d := 0)) (by rfl) (by rfl) (by decide +kernel) (by rfl) (by rfl) (by omega) (by omega) (by omega) (by omega) rfl (by decide +kernel) ?_
  refine jT_adv 1 (pcN := 20) (LN := [(0, (4, 0)), (1, (4, 1)), (2, (0, 0)), (3, (0, x3))]) (stN := []) (hsN := jpM_97) (c1 := 0) (s1 := 0) (c2 := 0) (s2 := 0) (by exact rfl) ?_ (by omega) (by omega)
  refine jT_xlconst (z := 0) (pcN := 21) jIM_156_20 rfl rfl ?_
  refine jT_xlstore (v := (1, 0)) (LN := [(4, (1, 0)), (0, (4, 0)), (1, (4, 1)), (2, (0, 0)), (3, (0, x3))]) (pcN := 23) jIM_156_21 rfl rfl rfl rfl ?_
  refine jT_xlconst (z := 1) (pcN := 24) jIM_156_23 rfl rfl ?_
  refine jT_xlstore (v := (1, 1)) (LN := [(6, (1, 1)), (4, (1, 0)), (0, (4, 0)), (1, (4, 1)), (2, (0, 0)), (3, (0, x3))]) (pcN := 26) jIM_156_24 rfl rfl rfl rfl ?_
  refine jT_xiconst (k := 0) (pcN := 27) jIM_156_26 rfl ?_
  refine jT_xistore (v := (0, 0)) (LN := [(8, (0, 0)), (6, (1, 1)), (4, (1, 0)), (0, (4, 0)), (1, (4, 1)), (2, (0, 0)), (3, (0, x3))]) (pcN := 29) jIM_156_27 rfl rfl rfl rfl ?_
  refine jT_xiconst (k := 0) (pcN := 30) jIM_156_29 rfl ?_
  refine jT_xistore (v := (0, 0)) (LN := [(9, (0, 0)), (8, (0, 0)), (6, (1, 1)), (4, (1, 0)), (0, (4, 0)), (1, (4, 1)), (2, (0, 0)), (3, (0, x3))]) (pcN := 32) jIM_156_30 rfl rfl rfl rfl ?_
  refine jT_xiload (v := (0, 0)) (pcN := 34) jIM_156_32 rfl rfl rfl ?_
  refine jT_xiload_n (v := (0, x3)) (pcN := 35) jIM_156_34 rfl rfl rfl ?_
  refine jT_icF (a := 0) (b := x3) (t := 135) (by rfl) (by rfl) (by rfl) (jw_idd (by omega) (by omega)) (jw_idd (by omega) (by omega)) (by simp only [jcP] <;> omega) ?_
  refine jT_xiload (v := (0, 0)) (pcN := 40) jIM_156_38 rfl rfl rfl ?_
  refine jT_xiload_n (v := (0, 0)) (pcN := 41) jIM_156_40 rfl rfl rfl ?_
  refine jT_xicT (pcN := 135) jIM_156_41 rfl (by decide +kernel) rfl ?_
  refine jT_xiload (v := (0, 0)) (pcN := 137) jIM_156_135 rfl rfl rfl ?_
  refine jT_xiload_n (v := (0, 0)) (pcN := 138) jIM_156_137 rfl rfl rfl ?_
  refine jT_xicF (t := 146) (pcN := 141) jIM_156_138 rfl (by decide +kernel) rfl rfl ?_
  refine jT_xlload (v := (1, 1)) (pcN := 143) jIM_156_141 rfl rfl rfl ?_
  refine jT_xgoto (pcN := 149) jIM_156_143 rfl ?_
  exact jT_ret rfl (by decide) (by show 21 ≤ 21; omega) (by omega) (by omega) ⟨rfl, rfl, rfl⟩
theorem jIM_155_31 : jmI (jm 155) 31 = (.aload_n 0, 1) := by rfl
theorem jIM_155_32 : jmI (jm 155) 32 = (.aload_n 0, 1) := by rfl
theorem jIM_155_33 : jmI (jm 155) 33 = (.getfield 67, 3) := by rfl
theorem jIM_155_36 : jmI (jm 155) 36 = (.iload_n 1, 1) := by rfl
theorem jIM_155_40 : jmI (jm 155) 40 = (.iload_n 2, 1) := by rfl
theorem jIM_155_41 : jmI (jm 155) 41 = (.iload_n 3, 1) := by rfl
def jzM_124 : JC := (9, [(4, 16), (4, 17), (4, 18), (4, 19), (4, 20)], [])
def jzM_125 : JC := (114, [], [24, 24, 24, 24, 24, 24, 24, 24])
def jpM_126 : List JC := [jzM_5, (8, [(4, 12), (4, 13)], []), (2, [(4, 15), (4, 14)], []), jgh, jgh, jgh, jgh, jgh, jgh, jgh, jgh, jzM_124, (3, [(4, 21), (1, 0)], []), (101, [], [0, 0, 0, 0, 0, 0]), (12, [(4, 22), (0, 0)], []), (12, [(4, 23), (0, 21)], []), jzM_125, jgh, jgh, jgh, jgh, (100, [], List.replicate 20 0), (100, [], List.replicate 48 0), jzM_82, (4, [(4, 25), (1, 1)], []), (101, [], [0, 0, 0, 0, 0, 0])]
theorem jIM_155_45 : jmI (jm 155) 45 = (.lstore 4, 2) := by rfl
theorem jIM_155_47 : jmI (jm 155) 47 = (.lload 4, 2) := by rfl
theorem jIM_155_53 : jmI (jm 155) 53 = (.ifCond .ne 14, 3) := by rfl
theorem jIM_155_67 : jmI (jm 155) 67 = (.lload 4, 2) := by rfl
theorem jIM_155_69 : jmI (jm 155) 69 = (.l2i, 1) := by rfl
def jpM_132 : List JC := [jzM_5, (8, [(4, 12), (4, 13)], []), (2, [(4, 14), (4, 15)], []), jgh, jgh, jgh, jgh, jgh, jgh, jgh, jgh, jzM_124, (3, [(4, 21), (1, 0)], []), (101, [], [0, 0, 0, 0, 0, 0]), (12, [(4, 22), (0, 0)], []), (12, [(4, 23), (0, 0)], []), jzM_125, jgh, jgh, jgh, jgh, (100, [], List.replicate 20 0), (100, [], List.replicate 48 0), (100, [], List.replicate 48 0), (4, [(4, 25), (1, 1)], []), (101, [], [0, 0, 0, 0, 0, 0])]
theorem jM_155_41 {xs : List Int} {d : Nat} {x1 x3 : Int} (h_x1 : 0 ≤ x1 ∧ x1 ≤ 7) (h_x3 : 1 ≤ x3 ∧ x3 ≤ 2000) : jT xs (d + 5) 155 26 0 [(0, (4, 0)), (1, (0, x1)), (2, (0, 0)), (3, (0, x3))] [] jpM_132 0 0 (fun k v hsN => k = 0 ∧ v = (0, 1) ∧ hsN = jpM_126) := by
  refine jT_xaload_n (v := (4, 0)) (pcN := 1) jIM_155_0 rfl rfl rfl ?_
  refine jT_xiload_n (v := (0, x1)) (pcN := 2) jIM_155_1 rfl rfl rfl ?_
  refine jT_xbipush (k := 8) (pcN := 4) jIM_155_2 (by decide) rfl ?_
  refine jT_fR [0] 26 (y := 115) (pcN := 7) (dC := 0) (bc1 := 0) (bc2 := 0) (c1 := 0) (c2 := 0) (as := [(4, 0), (0, x1), (0, 8)]) (asC := [(4, 0), (0, x1), (0, 8)]) (LN := [(0, (4, 0)), (1, (0, x1)), (2, (0, 0)), (3, (0, x3))]) (stN := []) (hsC := [jgh]) (v := (9, 0)) (st2 := []) (jM_115_9 (d := 0) (by omega)) (by rfl) (by rfl) (by decide +kernel) (by rfl) (by rfl) (by omega) (by omega) (by omega) (by omega) rfl ?_
  refine jT_xiload_n (v := (0, 0)) (pcN := 8) jIM_155_7 rfl rfl rfl ?_
  refine jT_xifT (pcN := 22) jIM_155_8 rfl (by decide +kernel) rfl ?_
  refine jT_xaload_n (v := (4, 0)) (pcN := 23) jIM_155_22 rfl rfl rfl ?_
  refine jT_xiload_n (v := (0, x3)) (pcN := 24) jIM_155_23 rfl rfl rfl ?_
  refine jT_xiconst (k := 1) (pcN := 25) jIM_155_24 rfl ?_
  refine jT_xsipush (k := 2000) (pcN := 28) jIM_155_25 (by decide) rfl ?_
  refine jT_fR [0] 26 (y := 116) (pcN := 31) (dC := 0) (bc1 := 0) (bc2 := 0) (c1 := 0) (c2 := 0) (as := [(4, 0), (0, x3), (0, 1), (0, 2000)]) (asC := [(4, 0), (0, x3), (0, 1), (0, 2000)]) (LN := [(0, (4, 0)), (1, (0, x1)), (2, (0, 0)), (3, (0, x3))]) (stN := []) (hsC := [jgh]) (v := (9, 0)) (st2 := []) (jM_116_22 (d := 0) (by omega)) (by rfl) (by rfl) (by decide +kernel) (by rfl) (by rfl) (by omega) (by omega) (by omega) (by omega) rfl ?_
  refine jT_xaload_n (v := (4, 0)) (pcN := 32) jIM_155_31 rfl rfl rfl ?_
  refine jT_xaload_n (v := (4, 0)) (pcN := 33) jIM_155_32 rfl rfl rfl ?_
  refine jT_xgetf (a := 0) (t := 1) (ci := 13) (fi := 11) (c := jzM_5) (v := (4, 11)) (pcN := 36) jIM_155_33 rfl rfl rfl rfl rfl rfl rfl ?_
  refine jT_xiload_n (v := (0, x1)) (pcN := 37) jIM_155_36 rfl rfl rfl ?_
  refine jT_fR [11, 16, 17, 18, 19, 20, 24] 26 (y := 57) (pcN := 40) (dC := 0) (bc1 := 0) (bc2 := 0) (c1 := 0) (c2 := 0) (as := [(4, 11), (0, x1)]) (asC := [(4, 0), (0, x1)]) (LN := [(0, (4, 0)), (1, (0, x1)), (2, (0, 0)), (3, (0, x3))]) (stN := [(4, 0)]) (hsC := jpM_58) (v := (4, 6)) (st2 := [(4, 24), (4, 0)]) (jM_57_23 (d := 0) (by omega)) (by rfl) (by rfl) (by decide +kernel) (by rfl) (by rfl) (by omega) (by omega) (by omega) (by omega) rfl ?_
  refine jT_xiload_n (v := (0, 0)) (pcN := 41) jIM_155_40 rfl rfl rfl ?_
  refine jT_xiload_n (v := (0, x3)) (pcN := 42) jIM_155_41 rfl rfl rfl ?_
  refine jT_fB [0, 24, 1, 2, 3, 4, 5, 6, 7, 8, 9, 10, 11, 25, 12, 13, 14, 15, 21, 22, 23] 26 (y := 156) (pcN := 45) (dC := 4) (bc1 := 0) (bc2 := 0) (c1 := 0) (c2 := 0) (as := [(4, 0), (4, 24), (0, 0), (0, x3)]) (asC := [(4, 0), (4, 1), (0, 0), (0, x3)]) (LN := [(0, (4, 0)), (1, (0, x1)), (2, (0, 0)), (3, (0, x3))]) (stN := []) (hsC := jpM_117) (hsD := jpM_97) (v := (1, 1)) (st2 := [(1, 1)]) (hs2 := jpM_126) (jM_156_40 (d := 0) (by omega)) (by rfl) (by rfl) (by decide +kernel) (by rfl) (by rfl) (by omega) (by omega) (by omega) (by omega) rfl (by decide +kernel) ?_
  refine jT_xlstore (v := (1, 1)) (LN := [(4, (1, 1)), (0, (4, 0)), (1, (0, x1)), (2, (0, 0)), (3, (0, x3))]) (pcN := 47) jIM_155_45 rfl rfl rfl rfl ?_
  refine jT_xlload (v := (1, 1)) (pcN := 49) jIM_155_47 rfl rfl rfl ?_
  refine jT_adv 1 (pcN := 52) (LN := [(4, (1, 1)), (0, (4, 0)), (1, (0, x1)), (2, (0, 0)), (3, (0, x3))]) (stN := [(1, (-1)), (1, 1)]) (hsN := jpM_126) (c1 := 0) (s1 := 0) (c2 := 0) (s2 := 0) (by exact rfl) ?_ (by omega) (by omega)
  refine jT_lcmp (a := 1) (b := (-1)) (z := 1) (by rfl) (by rfl) (by decide +kernel) (by decide +kernel) (by decide) ?_
  refine jT_xifT (pcN := 67) jIM_155_53 rfl (by decide +kernel) rfl ?_
  refine jT_xlload (v := (1, 1)) (pcN := 69) jIM_155_67 rfl rfl rfl ?_
  refine jT_xl2i (pcN := 70) jIM_155_69 rfl rfl ?_
  exact jT_ret rfl (by decide) (by show 26 ≤ 26; omega) (by omega) (by omega) ⟨rfl, rfl, rfl⟩
def jzM_133 : JC := (9, [(4, 17), (4, 18), (4, 19), (4, 20), (4, 21)], [])
def jzM_134 : JC := (114, [], [25, 25, 25, 25, 25, 25, 25, 25])
def jpM_135 : List JC := [jzM_13, (101, [], [0]), (8, [(4, 13), (4, 14)], []), (2, [(4, 16), (4, 15)], []), jgh, jgh, jgh, jgh, jgh, jgh, jgh, jgh, jzM_133, (3, [(4, 22), (1, 0)], []), (101, [], [0, 0, 0, 0, 0, 0]), (12, [(4, 23), (0, 0)], []), (12, [(4, 24), (0, 21)], []), jzM_134, jgh, jgh, jgh, jgh, (100, [], List.replicate 20 0), (100, [], List.replicate 48 0), jzM_82, (4, [(4, 26), (1, 1)], []), (101, [], [0, 0, 0, 0, 0, 0])]
theorem jIM_358_10 : jmI (jm 358) 10 = (.i2l, 1) := by rfl
def jpM_137 : List JC := [jzM_13, (101, [], [1]), (8, [(4, 13), (4, 14)], []), (2, [(4, 16), (4, 15)], []), jgh, jgh, jgh, jgh, jgh, jgh, jgh, jgh, jzM_133, (3, [(4, 22), (1, 0)], []), (101, [], [0, 0, 0, 0, 0, 0]), (12, [(4, 23), (0, 0)], []), (12, [(4, 24), (0, 21)], []), jzM_134, jgh, jgh, jgh, jgh, (100, [], List.replicate 20 0), (100, [], List.replicate 48 0), jzM_82, (4, [(4, 26), (1, 1)], []), (101, [], [0, 0, 0, 0, 0, 0])]
theorem jIM_358_12 : jmI (jm 358) 12 = (.goto 15, 3) := by rfl
theorem jIM_358_27 : jmI (jm 358) 27 = (.iconst 0, 1) := by rfl
def jpM_140 : List JC := [jzM_13, (101, [], [0]), (8, [(4, 13), (4, 14)], []), (2, [(4, 15), (4, 16)], []), jgh, jgh, jgh, jgh, jgh, jgh, jgh, jgh, jzM_133, (3, [(4, 22), (1, 0)], []), (101, [], [0, 0, 0, 0, 0, 0]), (12, [(4, 23), (0, 0)], []), (12, [(4, 24), (0, 0)], []), jzM_134, jgh, jgh, jgh, jgh, (100, [], List.replicate 20 0), (100, [], List.replicate 48 0), (100, [], List.replicate 48 0), (4, [(4, 26), (1, 1)], []), (101, [], [0, 0, 0, 0, 0, 0])]
theorem jM_358_42 {xs : List Int} {d : Nat} {x1 x3 : Int} (h_x1 : 0 ≤ x1 ∧ x1 ≤ 7) (h_x3 : 1 ≤ x3 ∧ x3 ≤ 2000) : jT xs (d + 6) 358 27 0 [(0, (4, 0)), (1, (0, x1)), (2, (0, 0)), (3, (0, x3)), (4, (4, 1))] [] jpM_140 0 0 (fun k v hsN => k = 0 ∧ v = (0, 0) ∧ hsN = jpM_137) := by
  refine jT_xaload (v := (4, 1)) (pcN := 2) jIM_358_0 rfl rfl rfl ?_
  refine jT_xiconst (k := 0) (pcN := 3) jIM_358_2 rfl ?_
  refine jT_xaload_n (v := (4, 0)) (pcN := 4) jIM_358_3 rfl rfl rfl ?_
  refine jT_xiload_n (v := (0, x1)) (pcN := 5) jIM_358_4 rfl rfl rfl ?_
  refine jT_xiload_n (v := (0, 0)) (pcN := 6) jIM_358_5 rfl rfl rfl ?_
  refine jT_xiload_n (v := (0, x3)) (pcN := 7) jIM_358_6 rfl rfl rfl ?_
  refine jT_fB [0, 2, 3, 4, 5, 6, 7, 8, 9, 10, 11, 12, 13, 14, 15, 16, 17, 18, 19, 20, 21, 22, 23, 24, 25, 26] 27 (y := 155) (pcN := 10) (dC := 5) (bc1 := 0) (bc2 := 0) (c1 := 0) (c2 := 0) (as := [(4, 0), (0, x1), (0, 0), (0, x3)]) (asC := [(4, 0), (0, x1), (0, 0), (0, x3)]) (LN := [(0, (4, 0)), (1, (0, x1)), (2, (0, 0)), (3, (0, x3)), (4, (4, 1))]) (stN := [(0, 0), (4, 1)]) (hsC := jpM_132) (hsD := jpM_126) (v := (0, 1)) (st2 := [(0, 1), (0, 0), (4, 1)]) (hs2 := jpM_135) (jM_155_41 (d := 0) (by omega) (by omega)) (by rfl) (by rfl) (by decide +kernel) (by rfl) (by rfl) (by omega) (by omega) (by omega) (by omega) rfl (by decide +kernel) ?_
  refine jT_xi2l (x := 1) (z := 1) (pcN := 11) jIM_358_10 rfl (by decide +kernel) rfl ?_
  refine jT_adv 1 (pcN := 12) (LN := [(0, (4, 0)), (1, (0, x1)), (2, (0, 0)), (3, (0, x3)), (4, (4, 1))]) (stN := []) (hsN := jpM_137) (c1 := 0) (s1 := 0) (c2 := 0) (s2 := 0) (by exact rfl) ?_ (by omega) (by omega)
  refine jT_xgoto (pcN := 27) jIM_358_12 rfl ?_
  refine jT_xiconst (k := 0) (pcN := 28) jIM_358_27 rfl ?_
  exact jT_ret rfl (by decide) (by show 27 ≤ 27; omega) (by omega) (by omega) ⟨rfl, rfl, rfl⟩
theorem jM_191_43 {xs : List Int} {d : Nat} : jT xs d 191 1 0 [(0, (4, 0)), (1, (0, 1)), (2, (0, 2))] [] [jgh] 0 0 (fun k v hsN => k = 0 ∧ v = (0, 0) ∧ hsN = [jgh] ++ []) := by
  refine jT_advK 5 (pcN := 18) (LN := [(0, (4, 0)), (1, (0, 1)), (2, (0, 2))]) (stN := [(0, 0)]) (hsN := [jgh]) (c1 := 0) (s1 := 0) (c2 := 0) (s2 := 0) (by decide +kernel) ?_ (by omega) (by omega)
  exact jT_ret rfl (by decide) (by show 1 ≤ 1; omega) (by omega) (by omega) ⟨rfl, rfl, rfl⟩
theorem jIM_203_0 : jmI (jm 203) 0 = (.iconst 0, 1) := by rfl
theorem jIM_203_1 : jmI (jm 203) 1 = (.istore_n 3, 1) := by rfl
theorem jIM_203_2 : jmI (jm 203) 2 = (.iload_n 3, 1) := by rfl
theorem jIM_203_3 : jmI (jm 203) 3 = (.bipush 6, 2) := by rfl
theorem jIM_203_5 : jmI (jm 203) 5 = (.if_icmp .ge 21, 3) := by rfl
theorem jIM_203_8 : jmI (jm 203) 8 = (.aload_n 0, 1) := by rfl
theorem jIM_203_9 : jmI (jm 203) 9 = (.getfield 31, 3) := by rfl
theorem jIM_203_12 : jmI (jm 203) 12 = (.iload_n 3, 1) := by rfl
theorem jIM_203_13 : jmI (jm 203) 13 = (.aload_n 1, 1) := by rfl
theorem jIM_203_14 : jmI (jm 203) 14 = (.iload_n 2, 1) := by rfl
theorem jIM_203_15 : jmI (jm 203) 15 = (.iload_n 3, 1) := by rfl
theorem jIM_203_16 : jmI (jm 203) 16 = (.iadd, 1) := by rfl
theorem jIM_203_17 : jmI (jm 203) 17 = (.iaload, 1) := by rfl
def jpM_154 : List JC := [jzM_20, (100, [], jS0), jgh, jgh, jgh, jgh, jgh, (101, [], [0, 0, 0, 0, 0, 0]), jgh, jgh, jgh, jgh, jgh, jgh, jgh, jgh]
theorem jIM_203_18 : jmI (jm 203) 18 = (.i2l, 1) := by rfl
theorem jIM_203_20 : jmI (jm 203) 20 = (.iinc 3 1, 3) := by rfl
theorem jIM_203_23 : jmI (jm 203) 23 = (.goto (-21), 3) := by rfl
theorem jIM_203_26 : jmI (jm 203) 26 = (.aload_n 0, 1) := by rfl
theorem jIM_203_27 : jmI (jm 203) 27 = (.aload_n 1, 1) := by rfl
theorem jIM_203_28 : jmI (jm 203) 28 = (.iload_n 2, 1) := by rfl
theorem jIM_203_29 : jmI (jm 203) 29 = (.bipush 6, 2) := by rfl
theorem jIM_203_31 : jmI (jm 203) 31 = (.iadd, 1) := by rfl
theorem jIM_203_32 : jmI (jm 203) 32 = (.iaload, 1) := by rfl
theorem jIM_203_33 : jmI (jm 203) 33 = (.i2l, 1) := by rfl
theorem jM_203_44 {xs : List Int} {d : Nat} {x1 : Int} (h_x1 : 0 ≤ x1 ∧ x1 ≤ 7) : jT xs d 203 16 0 [(0, (4, 0)), (1, (4, 1)), (2, (0, 7 * x1))] [] jpM_154 0 0 (fun k v hsN => k = 0 ∧ v = (9, 0) ∧ hsN = jpM_154 ++ []) := by
  refine jT_xiconst (k := 0) (pcN := 1) jIM_203_0 rfl ?_
  refine jT_xistore_n (v := (0, 0)) (LN := [(3, (0, 0)), (0, (4, 0)), (1, (4, 1)), (2, (0, 7 * x1))]) (pcN := 2) jIM_203_1 rfl rfl rfl rfl ?_
  refine jT_xiload_n (v := (0, 0)) (pcN := 3) jIM_203_2 rfl rfl rfl ?_
  refine jT_xbipush (k := 6) (pcN := 5) jIM_203_3 (by decide) rfl ?_
  refine jT_xicF (t := 26) (pcN := 8) jIM_203_5 rfl (by decide +kernel) rfl rfl ?_
  refine jT_xaload_n (v := (4, 0)) (pcN := 9) jIM_203_8 rfl rfl rfl ?_
  refine jT_xgetf (a := 0) (t := 1) (ci := 14) (fi := 9) (c := jzM_20) (v := (4, 7)) (pcN := 12) jIM_203_9 rfl rfl rfl rfl rfl rfl rfl ?_
  refine jT_xiload_n (v := (0, 0)) (pcN := 13) jIM_203_12 rfl rfl rfl ?_
  refine jT_xaload_n (v := (4, 1)) (pcN := 14) jIM_203_13 rfl rfl rfl ?_
  refine jT_xiload_n (v := (0, 7 * x1)) (pcN := 15) jIM_203_14 rfl rfl rfl ?_
  refine jT_xiload_n (v := (0, 0)) (pcN := 16) jIM_203_15 rfl rfl rfl ?_
  refine jT_xiadd (x := 7 * x1) (y := 0) (z := 7 * x1) (pcN := 17) jIM_203_16 rfl (by omega) rfl ?_
  refine jT_iald (x := 0) (a := 1) (j := (7 * x1).toNat) (fs := []) (X := jS0) (by rfl) (by rfl) (by rfl) (jw_nn (by omega) (by omega)) (jS0_r0 (by omega) (by omega)) ?_
  refine jT_eq (LN := [(3, (0, 0)), (0, (4, 0)), (1, (4, 1)), (2, (0, 7 * x1))]) (stN := [(0, 0), (0, 0), (4, 7)]) (hsN := jpM_154) rfl rfl rfl ?_
  refine jT_xi2l (x := 0) (z := 0) (pcN := 19) jIM_203_18 rfl (by decide +kernel) rfl ?_
  refine jT_adv 1 (pcN := 20) (LN := [(3, (0, 0)), (0, (4, 0)), (1, (4, 1)), (2, (0, 7 * x1))]) (stN := []) (hsN := jpM_154) (c1 := 0) (s1 := 0) (c2 := 0) (s2 := 0) (by exact rfl) ?_ (by omega) (by omega)
  refine jT_xiinc (x := 0) (z := 1) (LN := [(3, (0, 1)), (0, (4, 0)), (1, (4, 1)), (2, (0, 7 * x1))]) (pcN := 23) jIM_203_20 rfl rfl (by decide) rfl rfl ?_
  refine jT_xgoto (pcN := 2) jIM_203_23 rfl ?_
  refine jT_xiload_n (v := (0, 1)) (pcN := 3) jIM_203_2 rfl rfl rfl ?_
  refine jT_xbipush (k := 6) (pcN := 5) jIM_203_3 (by decide) rfl ?_
  refine jT_xicF (t := 26) (pcN := 8) jIM_203_5 rfl (by decide +kernel) rfl rfl ?_
  refine jT_xaload_n (v := (4, 0)) (pcN := 9) jIM_203_8 rfl rfl rfl ?_
  refine jT_xgetf (a := 0) (t := 1) (ci := 14) (fi := 9) (c := jzM_20) (v := (4, 7)) (pcN := 12) jIM_203_9 rfl rfl rfl rfl rfl rfl rfl ?_
  refine jT_xiload_n (v := (0, 1)) (pcN := 13) jIM_203_12 rfl rfl rfl ?_
  refine jT_xaload_n (v := (4, 1)) (pcN := 14) jIM_203_13 rfl rfl rfl ?_
  refine jT_xiload_n (v := (0, 7 * x1)) (pcN := 15) jIM_203_14 rfl rfl rfl ?_
  refine jT_xiload_n (v := (0, 1)) (pcN := 16) jIM_203_15 rfl rfl rfl ?_
  refine jT_xiadd (x := 7 * x1) (y := 1) (z := 7 * x1 + 1) (pcN := 17) jIM_203_16 rfl (by omega) rfl ?_
  refine jT_iald (x := 0) (a := 1) (j := (7 * x1 + 1).toNat) (fs := []) (X := jS0) (by rfl) (by rfl) (by rfl) (jw_nn (by omega) (by omega)) (jS0_r1 (by omega) (by omega)) ?_
  refine jT_eq (LN := [(3, (0, 1)), (0, (4, 0)), (1, (4, 1)), (2, (0, 7 * x1))]) (stN := [(0, 0), (0, 1), (4, 7)]) (hsN := jpM_154) rfl rfl rfl ?_
  refine jT_xi2l (x := 0) (z := 0) (pcN := 19) jIM_203_18 rfl (by decide +kernel) rfl ?_
  refine jT_adv 1 (pcN := 20) (LN := [(3, (0, 1)), (0, (4, 0)), (1, (4, 1)), (2, (0, 7 * x1))]) (stN := []) (hsN := jpM_154) (c1 := 0) (s1 := 0) (c2 := 0) (s2 := 0) (by exact rfl) ?_ (by omega) (by omega)
  refine jT_xiinc (x := 1) (z := 2) (LN := [(3, (0, 2)), (0, (4, 0)), (1, (4, 1)), (2, (0, 7 * x1))]) (pcN := 23) jIM_203_20 rfl rfl (by decide) rfl rfl ?_
  refine jT_xgoto (pcN := 2) jIM_203_23 rfl ?_
  refine jT_xiload_n (v := (0, 2)) (pcN := 3) jIM_203_2 rfl rfl rfl ?_
  refine jT_xbipush (k := 6) (pcN := 5) jIM_203_3 (by decide) rfl ?_
  refine jT_xicF (t := 26) (pcN := 8) jIM_203_5 rfl (by decide +kernel) rfl rfl ?_
  refine jT_xaload_n (v := (4, 0)) (pcN := 9) jIM_203_8 rfl rfl rfl ?_
  refine jT_xgetf (a := 0) (t := 1) (ci := 14) (fi := 9) (c := jzM_20) (v := (4, 7)) (pcN := 12) jIM_203_9 rfl rfl rfl rfl rfl rfl rfl ?_
  refine jT_xiload_n (v := (0, 2)) (pcN := 13) jIM_203_12 rfl rfl rfl ?_
  refine jT_xaload_n (v := (4, 1)) (pcN := 14) jIM_203_13 rfl rfl rfl ?_
  refine jT_xiload_n (v := (0, 7 * x1)) (pcN := 15) jIM_203_14 rfl rfl rfl ?_
  refine jT_xiload_n (v := (0, 2)) (pcN := 16) jIM_203_15 rfl rfl rfl ?_
  refine jT_xiadd (x := 7 * x1) (y := 2) (z := 7 * x1 + 2) (pcN := 17) jIM_203_16 rfl (by omega) rfl ?_
  refine jT_iald (x := 0) (a := 1) (j := (7 * x1 + 2).toNat) (fs := []) (X := jS0) (by rfl) (by rfl) (by rfl) (jw_nn (by omega) (by omega)) (jS0_r2 (by omega) (by omega)) ?_
  refine jT_eq (LN := [(3, (0, 2)), (0, (4, 0)), (1, (4, 1)), (2, (0, 7 * x1))]) (stN := [(0, 0), (0, 2), (4, 7)]) (hsN := jpM_154) rfl rfl rfl ?_
  refine jT_xi2l (x := 0) (z := 0) (pcN := 19) jIM_203_18 rfl (by decide +kernel) rfl ?_
  refine jT_adv 1 (pcN := 20) (LN := [(3, (0, 2)), (0, (4, 0)), (1, (4, 1)), (2, (0, 7 * x1))]) (stN := []) (hsN := jpM_154) (c1 := 0) (s1 := 0) (c2 := 0) (s2 := 0) (by exact rfl) ?_ (by omega) (by omega)
  refine jT_xiinc (x := 2) (z := 3) (LN := [(3, (0, 3)), (0, (4, 0)), (1, (4, 1)), (2, (0, 7 * x1))]) (pcN := 23) jIM_203_20 rfl rfl (by decide) rfl rfl ?_
  refine jT_xgoto (pcN := 2) jIM_203_23 rfl ?_
  refine jT_xiload_n (v := (0, 3)) (pcN := 3) jIM_203_2 rfl rfl rfl ?_
  refine jT_xbipush (k := 6) (pcN := 5) jIM_203_3 (by decide) rfl ?_
  refine jT_xicF (t := 26) (pcN := 8) jIM_203_5 rfl (by decide +kernel) rfl rfl ?_
  refine jT_xaload_n (v := (4, 0)) (pcN := 9) jIM_203_8 rfl rfl rfl ?_
  refine jT_xgetf (a := 0) (t := 1) (ci := 14) (fi := 9) (c := jzM_20) (v := (4, 7)) (pcN := 12) jIM_203_9 rfl rfl rfl rfl rfl rfl rfl ?_
  refine jT_xiload_n (v := (0, 3)) (pcN := 13) jIM_203_12 rfl rfl rfl ?_
  refine jT_xaload_n (v := (4, 1)) (pcN := 14) jIM_203_13 rfl rfl rfl ?_
  refine jT_xiload_n (v := (0, 7 * x1)) (pcN := 15) jIM_203_14 rfl rfl rfl ?_
  refine jT_xiload_n (v := (0, 3)) (pcN := 16) jIM_203_15 rfl rfl rfl ?_
  refine jT_xiadd (x := 7 * x1) (y := 3) (z := 7 * x1 + 3) (pcN := 17) jIM_203_16 rfl (by omega) rfl ?_
  refine jT_iald (x := 0) (a := 1) (j := (7 * x1 + 3).toNat) (fs := []) (X := jS0) (by rfl) (by rfl) (by rfl) (jw_nn (by omega) (by omega)) (jS0_r3 (by omega) (by omega)) ?_
  refine jT_eq (LN := [(3, (0, 3)), (0, (4, 0)), (1, (4, 1)), (2, (0, 7 * x1))]) (stN := [(0, 0), (0, 3), (4, 7)]) (hsN := jpM_154) rfl rfl rfl ?_
  refine jT_xi2l (x := 0) (z := 0) (pcN := 19) jIM_203_18 rfl (by decide +kernel) rfl ?_
  refine jT_adv 1 (pcN := 20) (LN := [(3, (0, 3)), (0, (4, 0)), (1, (4, 1)), (2, (0, 7 * x1))]) (stN := []) (hsN := jpM_154) (c1 := 0) (s1 := 0) (c2 := 0) (s2 := 0) (by exact rfl) ?_ (by omega) (by omega)
  refine jT_xiinc (x := 3) (z := 4) (LN := [(3, (0, 4)), (0, (4, 0)), (1, (4, 1)), (2, (0, 7 * x1))]) (pcN := 23) jIM_203_20 rfl rfl (by decide) rfl rfl ?_
  refine jT_xgoto (pcN := 2) jIM_203_23 rfl ?_
  refine jT_xiload_n (v := (0, 4)) (pcN := 3) jIM_203_2 rfl rfl rfl ?_
  refine jT_xbipush (k := 6) (pcN := 5) jIM_203_3 (by decide) rfl ?_
  refine jT_xicF (t := 26) (pcN := 8) jIM_203_5 rfl (by decide +kernel) rfl rfl ?_
  refine jT_xaload_n (v := (4, 0)) (pcN := 9) jIM_203_8 rfl rfl rfl ?_
  refine jT_xgetf (a := 0) (t := 1) (ci := 14) (fi := 9) (c := jzM_20) (v := (4, 7)) (pcN := 12) jIM_203_9 rfl rfl rfl rfl rfl rfl rfl ?_
  refine jT_xiload_n (v := (0, 4)) (pcN := 13) jIM_203_12 rfl rfl rfl ?_
  refine jT_xaload_n (v := (4, 1)) (pcN := 14) jIM_203_13 rfl rfl rfl ?_
  refine jT_xiload_n (v := (0, 7 * x1)) (pcN := 15) jIM_203_14 rfl rfl rfl ?_
  refine jT_xiload_n (v := (0, 4)) (pcN := 16) jIM_203_15 rfl rfl rfl ?_
  refine jT_xiadd (x := 7 * x1) (y := 4) (z := 7 * x1 + 4) (pcN := 17) jIM_203_16 rfl (by omega) rfl ?_
  refine jT_iald (x := 0) (a := 1) (j := (7 * x1 + 4).toNat) (fs := []) (X := jS0) (by rfl) (by rfl) (by rfl) (jw_nn (by omega) (by omega)) (jS0_r4 (by omega) (by omega)) ?_
  refine jT_eq (LN := [(3, (0, 4)), (0, (4, 0)), (1, (4, 1)), (2, (0, 7 * x1))]) (stN := [(0, 0), (0, 4), (4, 7)]) (hsN := jpM_154) rfl rfl rfl ?_
  refine jT_xi2l (x := 0) (z := 0) (pcN := 19) jIM_203_18 rfl (by decide +kernel) rfl ?_
  refine jT_adv 1 (pcN := 20) (LN := [(3, (0, 4)), (0, (4, 0)), (1, (4, 1)), (2, (0, 7 * x1))]) (stN := []) (hsN := jpM_154) (c1 := 0) (s1 := 0) (c2 := 0) (s2 := 0) (by exact rfl) ?_ (by omega) (by omega)
  refine jT_xiinc (x := 4) (z := 5) (LN := [(3, (0, 5)), (0, (4, 0)), (1, (4, 1)), (2, (0, 7 * x1))]) (pcN := 23) jIM_203_20 rfl rfl (by decide) rfl rfl ?_
  refine jT_xgoto (pcN := 2) jIM_203_23 rfl ?_
  refine jT_xiload_n (v := (0, 5)) (pcN := 3) jIM_203_2 rfl rfl rfl ?_
  refine jT_xbipush (k := 6) (pcN := 5) jIM_203_3 (by decide) rfl ?_
  refine jT_xicF (t := 26) (pcN := 8) jIM_203_5 rfl (by decide +kernel) rfl rfl ?_
  refine jT_xaload_n (v := (4, 0)) (pcN := 9) jIM_203_8 rfl rfl rfl ?_
  refine jT_xgetf (a := 0) (t := 1) (ci := 14) (fi := 9) (c := jzM_20) (v := (4, 7)) (pcN := 12) jIM_203_9 rfl rfl rfl rfl rfl rfl rfl ?_
  refine jT_xiload_n (v := (0, 5)) (pcN := 13) jIM_203_12 rfl rfl rfl ?_
  refine jT_xaload_n (v := (4, 1)) (pcN := 14) jIM_203_13 rfl rfl rfl ?_
  refine jT_xiload_n (v := (0, 7 * x1)) (pcN := 15) jIM_203_14 rfl rfl rfl ?_
  refine jT_xiload_n (v := (0, 5)) (pcN := 16) jIM_203_15 rfl rfl rfl ?_
  refine jT_xiadd (x := 7 * x1) (y := 5) (z := 7 * x1 + 5) (pcN := 17) jIM_203_16 rfl (by omega) rfl ?_
  refine jT_iald (x := 0) (a := 1) (j := (7 * x1 + 5).toNat) (fs := []) (X := jS0) (by rfl) (by rfl) (by rfl) (jw_nn (by omega) (by omega)) (jS0_r5 (by omega) (by omega)) ?_
  refine jT_eq (LN := [(3, (0, 5)), (0, (4, 0)), (1, (4, 1)), (2, (0, 7 * x1))]) (stN := [(0, 0), (0, 5), (4, 7)]) (hsN := jpM_154) rfl rfl rfl ?_
  refine jT_xi2l (x := 0) (z := 0) (pcN := 19) jIM_203_18 rfl (by decide +kernel) rfl ?_
  refine jT_adv 1 (pcN := 20) (LN := [(3, (0, 5)), (0, (4, 0)), (1, (4, 1)), (2, (0, 7 * x1))]) (stN := []) (hsN := jpM_154) (c1 := 0) (s1 := 0) (c2 := 0) (s2 := 0) (by exact rfl) ?_ (by omega) (by omega)
  refine jT_xiinc (x := 5) (z := 6) (LN := [(3, (0, 6)), (0, (4, 0)), (1, (4, 1)), (2, (0, 7 * x1))]) (pcN := 23) jIM_203_20 rfl rfl (by decide) rfl rfl ?_
  refine jT_xgoto (pcN := 2) jIM_203_23 rfl ?_
  refine jT_xiload_n (v := (0, 6)) (pcN := 3) jIM_203_2 rfl rfl rfl ?_
  refine jT_xbipush (k := 6) (pcN := 5) jIM_203_3 (by decide) rfl ?_
  refine jT_xicT (pcN := 26) jIM_203_5 rfl (by decide +kernel) rfl ?_
  refine jT_xaload_n (v := (4, 0)) (pcN := 27) jIM_203_26 rfl rfl rfl ?_
  refine jT_xaload_n (v := (4, 1)) (pcN := 28) jIM_203_27 rfl rfl rfl ?_
  refine jT_xiload_n (v := (0, 7 * x1)) (pcN := 29) jIM_203_28 rfl rfl rfl ?_
  refine jT_xbipush (k := 6) (pcN := 31) jIM_203_29 (by decide) rfl ?_
  refine jT_xiadd (x := 7 * x1) (y := 6) (z := 7 * x1 + 6) (pcN := 32) jIM_203_31 rfl (by omega) rfl ?_
  refine jT_iald (x := 1) (a := 1) (j := (7 * x1 + 6).toNat) (fs := []) (X := jS0) (by rfl) (by rfl) (by rfl) (jw_nn (by omega) (by omega)) (jS0_r6 (by omega) (by omega)) ?_
  refine jT_eq (LN := [(3, (0, 6)), (0, (4, 0)), (1, (4, 1)), (2, (0, 7 * x1))]) (stN := [(0, 1), (4, 0)]) (hsN := jpM_154) rfl rfl rfl ?_
  refine jT_xi2l (x := 1) (z := 1) (pcN := 34) jIM_203_33 rfl (by decide +kernel) rfl ?_
  refine jT_adv 1 (pcN := 37) (LN := [(3, (0, 6)), (0, (4, 0)), (1, (4, 1)), (2, (0, 7 * x1))]) (stN := []) (hsN := jpM_154) (c1 := 0) (s1 := 0) (c2 := 0) (s2 := 0) (by exact rfl) ?_ (by omega) (by omega)
  exact jT_ret rfl (by decide) (by show 16 ≤ 16; omega) (by omega) (by omega) ⟨rfl, rfl, rfl⟩
theorem jIM_202_0 : jmI (jm 202) 0 = (.aload_n 0, 1) := by rfl
theorem jIM_202_1 : jmI (jm 202) 1 = (.aload_n 0, 1) := by rfl
theorem jIM_202_2 : jmI (jm 202) 2 = (.getfield 9, 3) := by rfl
theorem jIM_202_5 : jmI (jm 202) 5 = (.bipush 7, 2) := by rfl
theorem jIM_202_7 : jmI (jm 202) 7 = (.iload_n 1, 1) := by rfl
theorem jIM_202_8 : jmI (jm 202) 8 = (.imul, 1) := by rfl
theorem jM_202_45 {xs : List Int} {d : Nat} {x1 : Int} (h_x1 : 0 ≤ x1 ∧ x1 ≤ 7) : jT xs (d + 1) 202 16 0 [(0, (4, 0)), (1, (0, x1))] [] jpM_154 0 0 (fun k v hsN => k = 0 ∧ v = (9, 0) ∧ hsN = jpM_154 ++ []) := by
  refine jT_xaload_n (v := (4, 0)) (pcN := 1) jIM_202_0 rfl rfl rfl ?_
  refine jT_xaload_n (v := (4, 0)) (pcN := 2) jIM_202_1 rfl rfl rfl ?_
  refine jT_xgetf (a := 0) (t := 1) (ci := 14) (fi := 1) (c := jzM_20) (v := (4, 1)) (pcN := 5) jIM_202_2 rfl rfl rfl rfl rfl rfl rfl ?_
  refine jT_xbipush (k := 7) (pcN := 7) jIM_202_5 (by decide) rfl ?_
  refine jT_xiload_n (v := (0, x1)) (pcN := 8) jIM_202_7 rfl rfl rfl ?_
  refine jT_ximul (x := 7) (y := x1) (z := 7 * x1) (pcN := 9) jIM_202_8 rfl (rfl) rfl ?_
  refine jT_fR [0, 1, 2, 3, 4, 5, 6, 7, 8, 9, 10, 11, 12, 13, 14, 15] 16 (y := 203) (pcN := 12) (dC := 0) (bc1 := 0) (bc2 := 0) (c1 := 0) (c2 := 0) (as := [(4, 0), (4, 1), (0, 7 * x1)]) (asC := [(4, 0), (4, 1), (0, 7 * x1)]) (LN := [(0, (4, 0)), (1, (0, x1))]) (stN := []) (hsC := jpM_154) (v := (9, 0)) (st2 := []) (jM_203_44 (d := 0) (by omega)) (by rfl) (by rfl) (by decide +kernel) (by rfl) (by rfl) (by omega) (by omega) (by omega) (by omega) rfl ?_
  exact jT_ret rfl (by decide) (by show 16 ≤ 16; omega) (by omega) (by omega) ⟨rfl, rfl, rfl⟩
def jpM_171 : List JC := [jzM_20, jgh, jgh, jgh, jgh, jgh, jgh, (101, [], [0, 0, 0, 0, 0, 0]), jgh, jgh, jgh, jgh, jgh, jgh, jgh, jgh, (101, [], [0, 0, 0, 0, 0, 0])]
def jpM_172 : List JC := [jzM_20, jgh, jgh, jgh, jgh, jgh, jgh, (101, [], [0, 0, 0, 0, 0, 0]), jgh, jgh, jgh, jgh, jgh, jgh, jgh, jgh]
theorem jM_218_46 {xs : List Int} {d : Nat} : jT xs d 218 16 0 [(0, (4, 0)), (1, (1, 1))] [] jpM_172 1 6 (fun k v hsN => k = 0 ∧ v = (4, 16) ∧ hsN = jpM_172 ++ [(101, [], [0, 0, 0, 0, 0, 0])]) := by
  refine jT_advK 93 (pcN := 35) (LN := [(4, (0, 6)), (3, (4, 16)), (0, (4, 0)), (1, (1, 1))]) (stN := [(4, 16)]) (hsN := jpM_171) (c1 := 1) (s1 := 6) (c2 := 0) (s2 := 0) (by decide +kernel) ?_ (by omega) (by omega)
  exact jT_ret rfl (by decide) (by show 16 ≤ 17; omega) (by omega) (by omega) ⟨rfl, rfl, rfl⟩
theorem jM_211_47 {xs : List Int} {d : Nat} : jT xs d 211 1 0 [(0, (4, 0))] [] [(101, [], [1, 0, 0, 0, 0, 0])] 0 0 (fun k v hsN => k = 0 ∧ v = (3, 4607182418800017408) ∧ hsN = [(101, [], [1, 0, 0, 0, 0, 0])] ++ []) := by
  refine jT_advK 3 (pcN := 3) (LN := [(0, (4, 0))]) (stN := [(1, 1)]) (hsN := [(101, [], [1, 0, 0, 0, 0, 0])]) (c1 := 0) (s1 := 0) (c2 := 0) (s2 := 0) (by decide +kernel) ?_ (by omega) (by omega)
  refine jT_l2d (x := 1) (z := 4607182418800017408) (by rfl) (by rfl) (by decide +kernel) ?_
  refine jT_advK 4 (pcN := 10) (LN := [(0, (4, 0))]) (stN := [(1, 0), (3, 4609816855700290920), (3, 4607182418800017408)]) (hsN := [(101, [], [1, 0, 0, 0, 0, 0])]) (c1 := 0) (s1 := 0) (c2 := 0) (s2 := 0) (by decide +kernel) ?_ (by omega) (by omega)
  refine jT_l2d (x := 0) (z := 0) (by rfl) (by rfl) (by decide +kernel) ?_
  refine jT_dmul (x := 4609816855700290920) (y := 0) (z := 0) (by rfl) (by rfl) (by decide +kernel) ?_
  refine jT_dadd (x := 4607182418800017408) (y := 0) (z := 4607182418800017408) (by rfl) (by rfl) (by decide +kernel) ?_
  refine jT_advK 4 (pcN := 19) (LN := [(0, (4, 0))]) (stN := [(1, 0), (3, 4612410936051475313), (3, 4607182418800017408)]) (hsN := [(101, [], [1, 0, 0, 0, 0, 0])]) (c1 := 0) (s1 := 0) (c2 := 0) (s2 := 0) (by decide +kernel) ?_ (by omega) (by omega)
  refine jT_l2d (x := 0) (z := 0) (by rfl) (by rfl) (by decide +kernel) ?_
  refine jT_dmul (x := 4612410936051475313) (y := 0) (z := 0) (by rfl) (by rfl) (by decide +kernel) ?_
  refine jT_dadd (x := 4607182418800017408) (y := 0) (z := 4607182418800017408) (by rfl) (by rfl) (by decide +kernel) ?_
  refine jT_advK 4 (pcN := 28) (LN := [(0, (4, 0))]) (stN := [(1, 0), (3, 4613504020090455085), (3, 4607182418800017408)]) (hsN := [(101, [], [1, 0, 0, 0, 0, 0])]) (c1 := 0) (s1 := 0) (c2 := 0) (s2 := 0) (by decide +kernel) ?_ (by omega) (by omega)
  refine jT_l2d (x := 0) (z := 0) (by rfl) (by rfl) (by decide +kernel) ?_
  refine jT_dmul (x := 4613504020090455085) (y := 0) (z := 0) (by rfl) (by rfl) (by decide +kernel) ?_
  refine jT_dadd (x := 4607182418800017408) (y := 0) (z := 4607182418800017408) (by rfl) (by rfl) (by decide +kernel) ?_
  refine jT_advK 4 (pcN := 37) (LN := [(0, (4, 0))]) (stN := [(1, 0), (3, 4614972366274321729), (3, 4607182418800017408)]) (hsN := [(101, [], [1, 0, 0, 0, 0, 0])]) (c1 := 0) (s1 := 0) (c2 := 0) (s2 := 0) (by decide +kernel) ?_ (by omega) (by omega)
  refine jT_l2d (x := 0) (z := 0) (by rfl) (by rfl) (by decide +kernel) ?_
  refine jT_dmul (x := 4614972366274321729) (y := 0) (z := 0) (by rfl) (by rfl) (by decide +kernel) ?_
  refine jT_dadd (x := 4607182418800017408) (y := 0) (z := 4607182418800017408) (by rfl) (by rfl) (by decide +kernel) ?_
  refine jT_advK 4 (pcN := 46) (LN := [(0, (4, 0))]) (stN := [(1, 0), (3, 4615515068267881011), (3, 4607182418800017408)]) (hsN := [(101, [], [1, 0, 0, 0, 0, 0])]) (c1 := 0) (s1 := 0) (c2 := 0) (s2 := 0) (by decide +kernel) ?_ (by omega) (by omega)
  refine jT_l2d (x := 0) (z := 0) (by rfl) (by rfl) (by decide +kernel) ?_
  refine jT_dmul (x := 4615515068267881011) (y := 0) (z := 0) (by rfl) (by rfl) (by decide +kernel) ?_
  refine jT_dadd (x := 4607182418800017408) (y := 0) (z := 4607182418800017408) (by rfl) (by rfl) (by decide +kernel) ?_
  exact jT_ret rfl (by decide) (by show 1 ≤ 1; omega) (by omega) (by omega) ⟨rfl, rfl, rfl⟩
theorem jM_200_48 {xs : List Int} {d : Nat} : jT xs d 200 1 0 [(0, (4, 0))] [] [(101, [], [1, 0, 0, 0, 0, 0])] 0 0 (fun k v hsN => k = 0 ∧ v = (0, 0) ∧ hsN = [(101, [], [1, 0, 0, 0, 0, 0])] ++ []) := by
  refine jT_advK 12 (pcN := 17) (LN := [(1, (0, 0)), (0, (4, 0))]) (stN := [(0, 0)]) (hsN := [(101, [], [1, 0, 0, 0, 0, 0])]) (c1 := 0) (s1 := 0) (c2 := 0) (s2 := 0) (by decide +kernel) ?_ (by omega) (by omega)
  exact jT_ret rfl (by decide) (by show 1 ≤ 1; omega) (by omega) (by omega) ⟨rfl, rfl, rfl⟩
def jzM_173 : JC := (14, [(0, 0), (4, 2), (4, 3), (4, 4), (4, 5), (0, 0), (4, 6), (0, 0), (4, 7), (4, 8), (1, 1), (4, 9), (0, 0), (4, 10), (0, 0), (0, 0), (0, 0), (0, 0), (0, 0), (0, 0), (0, 0), (4, 11), (4, 12), (4, 13), (4, 14), (4, 15), (4, 16), (0, 0)], [])
def jpM_174 : List JC := [jzM_173, (101, [], [1, 0, 0, 0, 0, 0]), jgh, jgh, jgh, jgh, jgh, (130, [], [17, 18, 19, 20, 21, 22]), jgh, jgh, jgh, jgh, jgh, jgh, jgh, jgh, jgh, (100, [], (jenc (jlg 0))), jgh, jgh, jgh, jgh, jgh, (100, [], List.replicate 56 0)]
def jpM_175 : List JC := [jzM_173, (101, [], [1, 0, 0, 0, 0, 0]), jgh, jgh, jgh, jgh, jgh, (130, [], [17, 18, 19, 20, 21, 22]), jgh, jgh, jgh, jgh, jgh, jgh, jgh, jgh, jgh, (100, [], (jenc (jlg 0))), jgh, jgh, jgh, jgh, jgh, (100, [], List.replicate 56 0), (100, [], (jenc 1))]
def jpM_176 : List JC := [jzM_173, (101, [], [1, 0, 0, 0, 0, 0]), jgh, jgh, jgh, jgh, jgh, (130, [], [17, 18, 19, 20, 21, 22]), jgh, jgh, jgh, jgh, jgh, jgh, jgh, jgh, jgh, (100, [], (jenc (jlg 0))), jgh, jgh, jgh, jgh, jgh, (100, [], List.replicate 56 0), (100, [], (jenc 1)), (100, [], (jenc (1 * (jlg 0))))]
def jpM_177 : List JC := [jzM_173, (101, [], [1, 0, 0, 0, 0, 0]), jgh, jgh, jgh, jgh, jgh, (130, [], [17, 18, 19, 20, 21, 22]), jgh, jgh, jgh, jgh, jgh, jgh, jgh, jgh, jgh, (100, [], (jenc (jlg 0))), jgh, jgh, jgh, jgh, jgh, (100, [], (jenc 0)), (100, [], (jenc 1)), (100, [], (jenc (1 * (jlg 0))))]
def jpM_178 : List JC := [jzM_173, (101, [], [1, 0, 0, 0, 0, 0]), jgh, jgh, jgh, jgh, jgh, (130, [], [17, 18, 19, 20, 21, 22]), jgh, jgh, jgh, jgh, jgh, jgh, jgh, jgh, jgh, (100, [], (jenc (jlg 0))), jgh, jgh, jgh, jgh, jgh]
theorem jM_214_49 {xs : List Int} {d : Nat} : jT xs (d + 2) 214 23 0 [(0, (4, 0)), (1, (4, 1))] [] jpM_178 3 168 (fun k v hsN => k = 0 ∧ v = (4, 25) ∧ hsN = jpM_178 ++ [(100, [], (jenc 0)), (100, [], (jenc 1)), (100, [], (jenc (1 * (jlg 0))))]) := by
  refine jT_advK 18 (pcN := 25) (LN := [(3, (0, 0)), (2, (4, 23)), (0, (4, 0)), (1, (4, 1))]) (stN := [(1, 1), (4, 23)]) (hsN := jpM_174) (c1 := 1) (s1 := 56) (c2 := 2) (s2 := 112) (by decide +kernel) ?_ (by omega) (by omega)
  refine jT_fA [] 24 (y := 178) (pcN := 28) (dC := 1) (bc1 := 1) (bc2 := 56) (c1 := 1) (c2 := 56) (as := [(1, 1)]) (asC := [(1, 1)]) (LN := [(3, (0, 0)), (2, (4, 23)), (0, (4, 0)), (1, (4, 1))]) (stN := [(4, 23)]) (hsC := []) (ex := [(100, [], (jenc 1))]) (v := (4, 0)) (st2 := [(4, 24), (4, 23)]) (hs2 := jpM_175) (jT_big (d := 0) (v := 1) (by omega) (by omega)) (by rfl) (by rfl) (by decide +kernel) (by rfl) (by rfl) (by omega) (by omega) (by omega) (by omega) rfl (by decide +kernel) ?_
  refine jT_advK 4 (pcN := 34) (LN := [(3, (0, 0)), (2, (4, 23)), (0, (4, 0)), (1, (4, 1))]) (stN := [(4, 17), (4, 24), (4, 23)]) (hsN := jpM_175) (c1 := 0) (s1 := 0) (c2 := 1) (s2 := 56) (by decide +kernel) ?_ (by omega) (by omega)
  refine jT_fA [24, 17] 25 (y := 179) (pcN := 37) (dC := 1) (bc1 := 1) (bc2 := 56) (c1 := 0) (c2 := 0) (as := [(4, 24), (4, 17)]) (asC := [(4, 0), (4, 1)]) (LN := [(3, (0, 0)), (2, (4, 23)), (0, (4, 0)), (1, (4, 1))]) (stN := [(4, 23)]) (hsC := [(100, [], (jenc 1)), (100, [], (jenc (jlg 0)))]) (ex := [(100, [], (jenc (1 * (jlg 0))))]) (v := (4, 2)) (st2 := [(4, 25), (4, 23)]) (hs2 := jpM_176) (jT_product (d := 0) (a := 1) (b := jlg 0) (by decide +kernel) (by decide +kernel)) (by rfl) (by rfl) (by decide +kernel) (by rfl) (by rfl) (by omega) (by omega) (by omega) (by omega) rfl (by decide +kernel) ?_
  refine jT_eq (LN := [(3, (0, 0)), (2, (4, 23)), (0, (4, 0)), (1, (4, 1))]) (stN := [(4, 25), (4, 23)]) (hsN := [jzM_173, (101, [], [1, 0, 0, 0, 0, 0]), jgh, jgh, jgh, jgh, jgh, (130, [], [17, 18, 19, 20, 21, 22]), jgh, jgh, jgh, jgh, jgh, jgh, jgh, jgh, jgh, (100, [], (jenc (jlg 0))), jgh, jgh, jgh, jgh, jgh, (100, [], (jenc 0)), (100, [], (jenc 1)), (100, [], (jenc (1 * (jlg 0))))]) rfl rfl (by show [jzM_173, (101, [], [1, 0, 0, 0, 0, 0]), jgh, jgh, jgh, jgh, jgh, (130, [], [17, 18, 19, 20, 21, 22]), jgh, jgh, jgh, jgh, jgh, jgh, jgh, jgh, jgh, (100, [], (jenc (jlg 0))), jgh, jgh, jgh, jgh, jgh, (100, [], List.replicate 56 0), (100, [], (jenc 1)), (100, [], (jenc (1 * (jlg 0))))] = _; rw [jrep56e]) ?_
  refine jT_fR [23, 25] 26 (y := 181) (pcN := 40) (dC := 0) (bc1 := 0) (bc2 := 0) (c1 := 0) (c2 := 0) (as := [(4, 23), (4, 25)]) (asC := [(4, 0), (4, 1)]) (LN := [(3, (0, 0)), (2, (4, 23)), (0, (4, 0)), (1, (4, 1))]) (stN := []) (hsC := [(100, [], (jenc 0)), (100, [], (jenc (1 * (jlg 0))))]) (v := (4, 1)) (st2 := [(4, 25)]) (jT_added_0l (d := 0) (b := 1 * (jlg 0))) (by rfl) (by rfl) (by decide +kernel) (by rfl) (by rfl) (by omega) (by omega) (by omega) (by omega) rfl ?_
  refine jT_advK 62 (pcN := 48) (LN := [(3, (0, 6)), (2, (4, 25)), (0, (4, 0)), (1, (4, 1))]) (stN := [(4, 25)]) (hsN := jpM_177) (c1 := 0) (s1 := 0) (c2 := 0) (s2 := 0) (by decide +kernel) ?_ (by omega) (by omega)
  exact jT_ret rfl (by decide) (by show 23 ≤ 26; omega) (by omega) (by omega) ⟨rfl, rfl, rfl⟩
theorem jIM_213_17 : jmI (jm 213) 17 = (.iaload, 1) := by rfl
theorem jM_213_50 {xs : List Int} {d : Nat} : jT xs (d + 3) 213 23 0 [(0, (4, 0)), (1, (4, 1))] [] jpM_178 3 168 (fun k v hsN => k = 0 ∧ v = (0, 1) ∧ hsN = jpM_178 ++ [(100, [], (jenc 0)), (100, [], (jenc 1)), (100, [], (jenc (1 * (jlg 0))))]) := by
  refine jT_advK 1 (pcN := 1) (LN := [(0, (4, 0)), (1, (4, 1))]) (stN := [(4, 1)]) (hsN := jpM_178) (c1 := 0) (s1 := 0) (c2 := 3) (s2 := 168) (by decide +kernel) ?_ (by omega) (by omega)
  refine jT_fR [1] 23 (y := 200) (pcN := 4) (dC := 0) (bc1 := 0) (bc2 := 0) (c1 := 3) (c2 := 168) (as := [(4, 1)]) (asC := [(4, 0)]) (LN := [(0, (4, 0)), (1, (4, 1))]) (stN := []) (hsC := [(101, [], [1, 0, 0, 0, 0, 0])]) (v := (0, 0)) (st2 := [(0, 0)]) (jM_200_48 (d := 0)) (by rfl) (by rfl) (by decide +kernel) (by rfl) (by rfl) (by omega) (by omega) (by omega) (by omega) rfl ?_
  refine jT_advK 3 (pcN := 13) (LN := [(0, (4, 0)), (1, (4, 1))]) (stN := [(4, 1), (4, 0)]) (hsN := jpM_178) (c1 := 0) (s1 := 0) (c2 := 3) (s2 := 168) (by decide +kernel) ?_ (by omega) (by omega)
  refine jT_fA [0, 1, 2, 3, 4, 5, 6, 7, 8, 9, 10, 11, 12, 13, 14, 15, 16, 17, 18, 19, 20, 21, 22] 23 (y := 214) (pcN := 16) (dC := 2) (bc1 := 3) (bc2 := 168) (c1 := 0) (c2 := 0) (as := [(4, 0), (4, 1)]) (asC := [(4, 0), (4, 1)]) (LN := [(0, (4, 0)), (1, (4, 1))]) (stN := []) (hsC := jpM_178) (ex := [(100, [], (jenc 0)), (100, [], (jenc 1)), (100, [], (jenc (1 * (jlg 0))))]) (v := (4, 25)) (st2 := [(4, 25)]) (hs2 := jpM_177) (jM_214_49 (d := 0)) (by rfl) (by rfl) (by decide +kernel) (by rfl) (by rfl) (by omega) (by omega) (by omega) (by omega) rfl (by decide +kernel) ?_
  refine jT_advK 1 (pcN := 17) (LN := [(0, (4, 0)), (1, (4, 1))]) (stN := [(0, 0), (4, 25)]) (hsN := jpM_177) (c1 := 0) (s1 := 0) (c2 := 0) (s2 := 0) (by decide +kernel) ?_ (by omega) (by omega)
  refine jT_iald (x := 1) (a := 25) (j := 0) (fs := []) (X := (jenc (1 * (jlg 0)))) (by rfl) (by rfl) (by rfl) (by rfl) (jenc_sg (by decide +kernel)) ?_
  refine jT_eq (LN := [(0, (4, 0)), (1, (4, 1))]) (stN := [(0, 1)]) (hsN := jpM_177) rfl rfl rfl ?_
  exact jT_ret rfl (by decide) (by show 23 ≤ 26; omega) (by omega) (by omega) ⟨rfl, rfl, rfl⟩
def jpM_180 : List JC := [jzM_173, (101, [], [1, 0, 0, 0, 0, 0]), jgh, jgh, jgh, jgh, jgh, (130, [], [17, 18, 19, 20, 21, 22]), jgh, jgh, jgh, jgh, jgh, jgh, jgh, jgh, jgh, (100, [], (jenc (jlg 0))), jgh, jgh, jgh, jgh, jgh, (101, [], [1, 0, 0, 0, 0, 0])]
def jpM_181 : List JC := [jzM_173, (101, [], [1, 0, 0, 0, 0, 0]), jgh, jgh, jgh, jgh, jgh, (130, [], [17, 18, 19, 20, 21, 22]), jgh, jgh, jgh, jgh, jgh, jgh, jgh, jgh, jgh, (100, [], (jenc (jlg 0))), jgh, jgh, jgh, jgh, jgh, (101, [], [1, 0, 0, 0, 0, 0]), (100, [], (jenc 0)), (100, [], (jenc 1)), (100, [], (jenc (1 * (jlg 0))))]
def jpM_182 : List JC := [(101, [], [1, 0, 0, 0, 0, 0]), (100, [], (jenc 0)), (100, [], (jenc 1)), (100, [], (jenc (1 * (jlg 0))))]
theorem jM_212_51 {xs : List Int} {d : Nat} : jT xs (d + 4) 212 23 0 [(0, (4, 0)), (1, (4, 1)), (2, (1, 0))] [] jpM_178 4 174 (fun k v hsN => k = 0 ∧ v = (0, 1) ∧ hsN = jpM_178 ++ jpM_182) := by
  refine jT_advK 18 (pcN := 27) (LN := [(4, (4, 23)), (0, (4, 0)), (1, (4, 1)), (2, (1, 0))]) (stN := [(4, 23), (4, 0)]) (hsN := jpM_180) (c1 := 1) (s1 := 6) (c2 := 3) (s2 := 168) (by decide +kernel) ?_ (by omega) (by omega)
  refine jT_fA [0, 23, 2, 3, 4, 5, 6, 7, 8, 9, 10, 11, 12, 13, 14, 15, 16, 17, 18, 19, 20, 21, 22] 24 (y := 213) (pcN := 30) (dC := 3) (bc1 := 3) (bc2 := 168) (c1 := 0) (c2 := 0) (as := [(4, 0), (4, 23)]) (asC := [(4, 0), (4, 1)]) (LN := [(4, (4, 23)), (0, (4, 0)), (1, (4, 1)), (2, (1, 0))]) (stN := []) (hsC := jpM_178) (ex := [(100, [], (jenc 0)), (100, [], (jenc 1)), (100, [], (jenc (1 * (jlg 0))))]) (v := (0, 1)) (st2 := [(0, 1)]) (hs2 := jpM_181) (jM_213_50 (d := 0)) (by rfl) (by rfl) (by decide +kernel) (by rfl) (by rfl) (by omega) (by omega) (by omega) (by omega) rfl (by decide +kernel) ?_
  exact jT_ret rfl (by decide) (by show 23 ≤ 27; omega) (by omega) (by omega) ⟨rfl, rfl, rfl⟩
theorem jM_200_52 {xs : List Int} {d : Nat} : jT xs d 200 1 0 [(0, (4, 0))] [] [(101, [], [(-1), 0, 0, 0, 0, 0])] 0 0 (fun k v hsN => k = 0 ∧ v = (0, 0) ∧ hsN = [(101, [], [(-1), 0, 0, 0, 0, 0])] ++ []) := by
  refine jT_advK 12 (pcN := 17) (LN := [(1, (0, 0)), (0, (4, 0))]) (stN := [(0, 0)]) (hsN := [(101, [], [(-1), 0, 0, 0, 0, 0])]) (c1 := 0) (s1 := 0) (c2 := 0) (s2 := 0) (by decide +kernel) ?_ (by omega) (by omega)
  exact jT_ret rfl (by decide) (by show 1 ≤ 1; omega) (by omega) (by omega) ⟨rfl, rfl, rfl⟩
def jpM_183 : List JC := [jzM_173, (101, [], [(-1), 0, 0, 0, 0, 0]), jgh, jgh, jgh, jgh, jgh, (130, [], [17, 18, 19, 20, 21, 22]), jgh, jgh, jgh, jgh, jgh, jgh, jgh, jgh, jgh, (100, [], (jenc (jlg 0))), jgh, jgh, jgh, jgh, jgh, (100, [], List.replicate 56 0)]
def jpM_184 : List JC := [jzM_173, (101, [], [(-1), 0, 0, 0, 0, 0]), jgh, jgh, jgh, jgh, jgh, (130, [], [17, 18, 19, 20, 21, 22]), jgh, jgh, jgh, jgh, jgh, jgh, jgh, jgh, jgh, (100, [], (jenc (jlg 0))), jgh, jgh, jgh, jgh, jgh, (100, [], List.replicate 56 0), (100, [], (jenc (-1)))]
def jpM_185 : List JC := [jzM_173, (101, [], [(-1), 0, 0, 0, 0, 0]), jgh, jgh, jgh, jgh, jgh, (130, [], [17, 18, 19, 20, 21, 22]), jgh, jgh, jgh, jgh, jgh, jgh, jgh, jgh, jgh, (100, [], (jenc (jlg 0))), jgh, jgh, jgh, jgh, jgh, (100, [], List.replicate 56 0), (100, [], (jenc (-1))), (100, [], (jenc ((-1) * (jlg 0))))]
def jpM_186 : List JC := [jzM_173, (101, [], [(-1), 0, 0, 0, 0, 0]), jgh, jgh, jgh, jgh, jgh, (130, [], [17, 18, 19, 20, 21, 22]), jgh, jgh, jgh, jgh, jgh, jgh, jgh, jgh, jgh, (100, [], (jenc (jlg 0))), jgh, jgh, jgh, jgh, jgh, (100, [], (jenc 0)), (100, [], (jenc (-1))), (100, [], (jenc ((-1) * (jlg 0))))]
def jpM_187 : List JC := [jzM_173, (101, [], [(-1), 0, 0, 0, 0, 0]), jgh, jgh, jgh, jgh, jgh, (130, [], [17, 18, 19, 20, 21, 22]), jgh, jgh, jgh, jgh, jgh, jgh, jgh, jgh, jgh, (100, [], (jenc (jlg 0))), jgh, jgh, jgh, jgh, jgh]
theorem jM_214_53 {xs : List Int} {d : Nat} : jT xs (d + 2) 214 23 0 [(0, (4, 0)), (1, (4, 1))] [] jpM_187 3 168 (fun k v hsN => k = 0 ∧ v = (4, 25) ∧ hsN = jpM_187 ++ [(100, [], (jenc 0)), (100, [], (jenc (-1))), (100, [], (jenc ((-1) * (jlg 0))))]) := by
  refine jT_advK 18 (pcN := 25) (LN := [(3, (0, 0)), (2, (4, 23)), (0, (4, 0)), (1, (4, 1))]) (stN := [(1, (-1)), (4, 23)]) (hsN := jpM_183) (c1 := 1) (s1 := 56) (c2 := 2) (s2 := 112) (by decide +kernel) ?_ (by omega) (by omega)
  refine jT_fA [] 24 (y := 178) (pcN := 28) (dC := 1) (bc1 := 1) (bc2 := 56) (c1 := 1) (c2 := 56) (as := [(1, (-1))]) (asC := [(1, (-1))]) (LN := [(3, (0, 0)), (2, (4, 23)), (0, (4, 0)), (1, (4, 1))]) (stN := [(4, 23)]) (hsC := []) (ex := [(100, [], (jenc (-1)))]) (v := (4, 0)) (st2 := [(4, 24), (4, 23)]) (hs2 := jpM_184) (jT_big (d := 0) (v := (-1)) (by omega) (by omega)) (by rfl) (by rfl) (by decide +kernel) (by rfl) (by rfl) (by omega) (by omega) (by omega) (by omega) rfl (by decide +kernel) ?_
  refine jT_advK 4 (pcN := 34) (LN := [(3, (0, 0)), (2, (4, 23)), (0, (4, 0)), (1, (4, 1))]) (stN := [(4, 17), (4, 24), (4, 23)]) (hsN := jpM_184) (c1 := 0) (s1 := 0) (c2 := 1) (s2 := 56) (by decide +kernel) ?_ (by omega) (by omega)
  refine jT_fA [24, 17] 25 (y := 179) (pcN := 37) (dC := 1) (bc1 := 1) (bc2 := 56) (c1 := 0) (c2 := 0) (as := [(4, 24), (4, 17)]) (asC := [(4, 0), (4, 1)]) (LN := [(3, (0, 0)), (2, (4, 23)), (0, (4, 0)), (1, (4, 1))]) (stN := [(4, 23)]) (hsC := [(100, [], (jenc (-1))), (100, [], (jenc (jlg 0)))]) (ex := [(100, [], (jenc ((-1) * (jlg 0))))]) (v := (4, 2)) (st2 := [(4, 25), (4, 23)]) (hs2 := jpM_185) (jT_product (d := 0) (a := (-1)) (b := jlg 0) (by decide +kernel) (by decide +kernel)) (by rfl) (by rfl) (by decide +kernel) (by rfl) (by rfl) (by omega) (by omega) (by omega) (by omega) rfl (by decide +kernel) ?_
  refine jT_eq (LN := [(3, (0, 0)), (2, (4, 23)), (0, (4, 0)), (1, (4, 1))]) (stN := [(4, 25), (4, 23)]) (hsN := [jzM_173, (101, [], [(-1), 0, 0, 0, 0, 0]), jgh, jgh, jgh, jgh, jgh, (130, [], [17, 18, 19, 20, 21, 22]), jgh, jgh, jgh, jgh, jgh, jgh, jgh, jgh, jgh, (100, [], (jenc (jlg 0))), jgh, jgh, jgh, jgh, jgh, (100, [], (jenc 0)), (100, [], (jenc (-1))), (100, [], (jenc ((-1) * (jlg 0))))]) rfl rfl (by show [jzM_173, (101, [], [(-1), 0, 0, 0, 0, 0]), jgh, jgh, jgh, jgh, jgh, (130, [], [17, 18, 19, 20, 21, 22]), jgh, jgh, jgh, jgh, jgh, jgh, jgh, jgh, jgh, (100, [], (jenc (jlg 0))), jgh, jgh, jgh, jgh, jgh, (100, [], List.replicate 56 0), (100, [], (jenc (-1))), (100, [], (jenc ((-1) * (jlg 0))))] = _; rw [jrep56e]) ?_
  refine jT_fR [23, 25] 26 (y := 181) (pcN := 40) (dC := 0) (bc1 := 0) (bc2 := 0) (c1 := 0) (c2 := 0) (as := [(4, 23), (4, 25)]) (asC := [(4, 0), (4, 1)]) (LN := [(3, (0, 0)), (2, (4, 23)), (0, (4, 0)), (1, (4, 1))]) (stN := []) (hsC := [(100, [], (jenc 0)), (100, [], (jenc ((-1) * (jlg 0))))]) (v := (4, 1)) (st2 := [(4, 25)]) (jT_added_0l (d := 0) (b := (-1) * (jlg 0))) (by rfl) (by rfl) (by decide +kernel) (by rfl) (by rfl) (by omega) (by omega) (by omega) (by omega) rfl ?_
  refine jT_advK 62 (pcN := 48) (LN := [(3, (0, 6)), (2, (4, 25)), (0, (4, 0)), (1, (4, 1))]) (stN := [(4, 25)]) (hsN := jpM_186) (c1 := 0) (s1 := 0) (c2 := 0) (s2 := 0) (by decide +kernel) ?_ (by omega) (by omega)
  exact jT_ret rfl (by decide) (by show 23 ≤ 26; omega) (by omega) (by omega) ⟨rfl, rfl, rfl⟩
theorem jM_213_54 {xs : List Int} {d : Nat} : jT xs (d + 3) 213 23 0 [(0, (4, 0)), (1, (4, 1))] [] jpM_187 3 168 (fun k v hsN => k = 0 ∧ v = (0, (-1)) ∧ hsN = jpM_187 ++ [(100, [], (jenc 0)), (100, [], (jenc (-1))), (100, [], (jenc ((-1) * (jlg 0))))]) := by
  refine jT_advK 1 (pcN := 1) (LN := [(0, (4, 0)), (1, (4, 1))]) (stN := [(4, 1)]) (hsN := jpM_187) (c1 := 0) (s1 := 0) (c2 := 3) (s2 := 168) (by decide +kernel) ?_ (by omega) (by omega)
  refine jT_fR [1] 23 (y := 200) (pcN := 4) (dC := 0) (bc1 := 0) (bc2 := 0) (c1 := 3) (c2 := 168) (as := [(4, 1)]) (asC := [(4, 0)]) (LN := [(0, (4, 0)), (1, (4, 1))]) (stN := []) (hsC := [(101, [], [(-1), 0, 0, 0, 0, 0])]) (v := (0, 0)) (st2 := [(0, 0)]) (jM_200_52 (d := 0)) (by rfl) (by rfl) (by decide +kernel) (by rfl) (by rfl) (by omega) (by omega) (by omega) (by omega) rfl ?_
  refine jT_advK 3 (pcN := 13) (LN := [(0, (4, 0)), (1, (4, 1))]) (stN := [(4, 1), (4, 0)]) (hsN := jpM_187) (c1 := 0) (s1 := 0) (c2 := 3) (s2 := 168) (by decide +kernel) ?_ (by omega) (by omega)
  refine jT_fA [0, 1, 2, 3, 4, 5, 6, 7, 8, 9, 10, 11, 12, 13, 14, 15, 16, 17, 18, 19, 20, 21, 22] 23 (y := 214) (pcN := 16) (dC := 2) (bc1 := 3) (bc2 := 168) (c1 := 0) (c2 := 0) (as := [(4, 0), (4, 1)]) (asC := [(4, 0), (4, 1)]) (LN := [(0, (4, 0)), (1, (4, 1))]) (stN := []) (hsC := jpM_187) (ex := [(100, [], (jenc 0)), (100, [], (jenc (-1))), (100, [], (jenc ((-1) * (jlg 0))))]) (v := (4, 25)) (st2 := [(4, 25)]) (hs2 := jpM_186) (jM_214_53 (d := 0)) (by rfl) (by rfl) (by decide +kernel) (by rfl) (by rfl) (by omega) (by omega) (by omega) (by omega) rfl (by decide +kernel) ?_
  refine jT_advK 1 (pcN := 17) (LN := [(0, (4, 0)), (1, (4, 1))]) (stN := [(0, 0), (4, 25)]) (hsN := jpM_186) (c1 := 0) (s1 := 0) (c2 := 0) (s2 := 0) (by decide +kernel) ?_ (by omega) (by omega)
  refine jT_iald (x := (-1)) (a := 25) (j := 0) (fs := []) (X := (jenc ((-1) * (jlg 0)))) (by rfl) (by rfl) (by rfl) (by rfl) (jenc_sg (by decide +kernel)) ?_
  refine jT_eq (LN := [(0, (4, 0)), (1, (4, 1))]) (stN := [(0, (-1))]) (hsN := jpM_186) rfl rfl rfl ?_
  exact jT_ret rfl (by decide) (by show 23 ≤ 26; omega) (by omega) (by omega) ⟨rfl, rfl, rfl⟩
def jpM_188 : List JC := [jzM_173, (101, [], [1, 0, 0, 0, 0, 0]), jgh, jgh, jgh, jgh, jgh, (130, [], [17, 18, 19, 20, 21, 22]), jgh, jgh, jgh, jgh, jgh, jgh, jgh, jgh, jgh, (100, [], (jenc (jlg 0))), jgh, jgh, jgh, jgh, jgh, (101, [], [(-1), 0, 0, 0, 0, 0])]
def jpM_189 : List JC := [jzM_173, (101, [], [1, 0, 0, 0, 0, 0]), jgh, jgh, jgh, jgh, jgh, (130, [], [17, 18, 19, 20, 21, 22]), jgh, jgh, jgh, jgh, jgh, jgh, jgh, jgh, jgh, (100, [], (jenc (jlg 0))), jgh, jgh, jgh, jgh, jgh, (101, [], [(-1), 0, 0, 0, 0, 0]), (100, [], (jenc 0)), (100, [], (jenc (-1))), (100, [], (jenc ((-1) * (jlg 0))))]
def jpM_190 : List JC := [(101, [], [(-1), 0, 0, 0, 0, 0]), (100, [], (jenc 0)), (100, [], (jenc (-1))), (100, [], (jenc ((-1) * (jlg 0))))]
theorem jM_212_55 {xs : List Int} {d : Nat} : jT xs (d + 4) 212 23 0 [(0, (4, 0)), (1, (4, 1)), (2, (1, 2))] [] jpM_178 4 174 (fun k v hsN => k = 0 ∧ v = (0, (-1)) ∧ hsN = jpM_178 ++ jpM_190) := by
  refine jT_advK 18 (pcN := 27) (LN := [(4, (4, 23)), (0, (4, 0)), (1, (4, 1)), (2, (1, 2))]) (stN := [(4, 23), (4, 0)]) (hsN := jpM_188) (c1 := 1) (s1 := 6) (c2 := 3) (s2 := 168) (by decide +kernel) ?_ (by omega) (by omega)
  refine jT_fA [0, 23, 2, 3, 4, 5, 6, 7, 8, 9, 10, 11, 12, 13, 14, 15, 16, 17, 18, 19, 20, 21, 22] 24 (y := 213) (pcN := 30) (dC := 3) (bc1 := 3) (bc2 := 168) (c1 := 0) (c2 := 0) (as := [(4, 0), (4, 23)]) (asC := [(4, 0), (4, 1)]) (LN := [(4, (4, 23)), (0, (4, 0)), (1, (4, 1)), (2, (1, 2))]) (stN := []) (hsC := jpM_187) (ex := [(100, [], (jenc 0)), (100, [], (jenc (-1))), (100, [], (jenc ((-1) * (jlg 0))))]) (v := (0, (-1))) (st2 := [(0, (-1))]) (hs2 := jpM_189) (jM_213_54 (d := 0)) (by rfl) (by rfl) (by decide +kernel) (by rfl) (by rfl) (by omega) (by omega) (by omega) (by omega) rfl (by decide +kernel) ?_
  exact jT_ret rfl (by decide) (by show 23 ≤ 27; omega) (by omega) (by omega) ⟨rfl, rfl, rfl⟩
def jpM_191 : List JC := [jzM_173, (101, [], [1, 0, 0, 0, 0, 0]), jgh, jgh, jgh, jgh, jgh, (130, [], [17, 18, 19, 20, 21, 22]), jgh, jgh, jgh, jgh, jgh, jgh, jgh, jgh, jgh, (100, [], (jenc (jlg 0))), jgh, jgh, jgh, jgh, jgh, (101, [], [1, 0, 0, 0, 0, 0]), (100, [], (jenc 0)), (100, [], (jenc 1)), (100, [], (jenc (1 * (jlg 0)))), (101, [], [(-1), 0, 0, 0, 0, 0]), (100, [], (jenc 0)), (100, [], (jenc (-1))), (100, [], (jenc ((-1) * (jlg 0))))]
def jpM_192 : List JC := [(101, [], [1, 0, 0, 0, 0, 0]), (100, [], (jenc 0)), (100, [], (jenc 1)), (100, [], (jenc (1 * (jlg 0)))), (101, [], [(-1), 0, 0, 0, 0, 0]), (100, [], (jenc 0)), (100, [], (jenc (-1))), (100, [], (jenc ((-1) * (jlg 0))))]
theorem jM_210_56 {xs : List Int} {d : Nat} : jT xs (d + 5) 210 23 0 [(0, (4, 0)), (1, (4, 1)), (2, (1, 2))] [] jpM_178 8 348 (fun k v hsN => k = 0 ∧ v = (1, 0) ∧ hsN = jpM_178 ++ jpM_192) := by
  refine jT_advK 1 (pcN := 1) (LN := [(0, (4, 0)), (1, (4, 1)), (2, (1, 2))]) (stN := [(4, 1)]) (hsN := jpM_178) (c1 := 0) (s1 := 0) (c2 := 8) (s2 := 348) (by decide +kernel) ?_ (by omega) (by omega)
  refine jT_fR [1] 23 (y := 211) (pcN := 4) (dC := 0) (bc1 := 0) (bc2 := 0) (c1 := 8) (c2 := 348) (as := [(4, 1)]) (asC := [(4, 0)]) (LN := [(0, (4, 0)), (1, (4, 1)), (2, (1, 2))]) (stN := []) (hsC := [(101, [], [1, 0, 0, 0, 0, 0])]) (v := (3, 4607182418800017408)) (st2 := [(3, 4607182418800017408)]) (jM_211_47 (d := 0)) (by rfl) (by rfl) (by decide +kernel) (by rfl) (by rfl) (by omega) (by omega) (by omega) (by omega) rfl ?_
  refine jT_advK 1 (pcN := 5) (LN := [(0, (4, 0)), (1, (4, 1)), (2, (1, 2))]) (stN := [(1, 2), (3, 4607182418800017408)]) (hsN := jpM_178) (c1 := 0) (s1 := 0) (c2 := 8) (s2 := 348) (by decide +kernel) ?_ (by omega) (by omega)
  refine jT_l2d (x := 2) (z := 4611686018427387904) (by rfl) (by rfl) (by decide +kernel) ?_
  refine jT_ddiv (x := 4607182418800017408) (y := 4611686018427387904) (z := 4602678819172646912) (by rfl) (by rfl) (by decide +kernel) ?_
  refine jT_d2l (x := 4602678819172646912) (z := 0) (by rfl) (by rfl) (by decide +kernel) ?_
  refine jT_advK 6 (pcN := 16) (LN := [(4, (1, 0)), (0, (4, 0)), (1, (4, 1)), (2, (1, 2))]) (stN := [(1, 0), (4, 1), (4, 0)]) (hsN := jpM_178) (c1 := 0) (s1 := 0) (c2 := 8) (s2 := 348) (by decide +kernel) ?_ (by omega) (by omega)
  refine jT_fA [0, 1, 2, 3, 4, 5, 6, 7, 8, 9, 10, 11, 12, 13, 14, 15, 16, 17, 18, 19, 20, 21, 22] 23 (y := 212) (pcN := 19) (dC := 4) (bc1 := 4) (bc2 := 174) (c1 := 4) (c2 := 174) (as := [(4, 0), (4, 1), (1, 0)]) (asC := [(4, 0), (4, 1), (1, 0)]) (LN := [(4, (1, 0)), (0, (4, 0)), (1, (4, 1)), (2, (1, 2))]) (stN := []) (hsC := jpM_178) (ex := jpM_182) (v := (0, 1)) (st2 := [(0, 1)]) (hs2 := jpM_181) (jM_212_51 (d := 0)) (by rfl) (by rfl) (by decide +kernel) (by rfl) (by rfl) (by omega) (by omega) (by omega) (by omega) rfl (by decide +kernel) ?_
  refine jT_advK 8 (pcN := 39) (LN := [(4, (1, 0)), (0, (4, 0)), (1, (4, 1)), (2, (1, 2))]) (stN := [(1, 2), (4, 1), (4, 0)]) (hsN := jpM_181) (c1 := 0) (s1 := 0) (c2 := 4) (s2 := 174) (by decide +kernel) ?_ (by omega) (by omega)
  refine jT_fA [0, 1, 2, 3, 4, 5, 6, 7, 8, 9, 10, 11, 12, 13, 14, 15, 16, 17, 18, 19, 20, 21, 22] 27 (y := 212) (pcN := 42) (dC := 4) (bc1 := 4) (bc2 := 174) (c1 := 0) (c2 := 0) (as := [(4, 0), (4, 1), (1, 2)]) (asC := [(4, 0), (4, 1), (1, 2)]) (LN := [(4, (1, 0)), (0, (4, 0)), (1, (4, 1)), (2, (1, 2))]) (stN := []) (hsC := jpM_178) (ex := jpM_190) (v := (0, (-1))) (st2 := [(0, (-1))]) (hs2 := jpM_191) (jM_212_55 (d := 0)) (by rfl) (by rfl) (by decide +kernel) (by rfl) (by rfl) (by omega) (by omega) (by omega) (by omega) rfl (by decide +kernel) ?_
  refine jT_advK 2 (pcN := 56) (LN := [(4, (1, 0)), (0, (4, 0)), (1, (4, 1)), (2, (1, 2))]) (stN := [(1, 0)]) (hsN := jpM_191) (c1 := 0) (s1 := 0) (c2 := 0) (s2 := 0) (by decide +kernel) ?_ (by omega) (by omega)
  exact jT_ret rfl (by decide) (by show 23 ≤ 31; omega) (by omega) (by omega) ⟨rfl, rfl, rfl⟩
def jpM_193 : List JC := [jzM_173, (101, [], [0, 0, 0, 0, 0, 0]), jgh, jgh, jgh, jgh, jgh, (130, [], [17, 18, 19, 20, 21, 22]), jgh, jgh, jgh, jgh, jgh, jgh, jgh, jgh, jgh, (100, [], (jenc (jlg 0))), jgh, jgh, jgh, jgh, jgh, (101, [], [1, 0, 0, 0, 0, 0])]
def jpM_194 : List JC := [jzM_173, (101, [], [0, 0, 0, 0, 0, 0]), jgh, jgh, jgh, jgh, jgh, (130, [], [17, 18, 19, 20, 21, 22]), jgh, jgh, jgh, jgh, jgh, jgh, jgh, jgh, jgh, (100, [], (jenc (jlg 0))), jgh, jgh, jgh, jgh, jgh, (101, [], [1, 0, 0, 0, 0, 0]), (101, [], [1, 0, 0, 0, 0, 0]), (100, [], (jenc 0)), (100, [], (jenc 1)), (100, [], (jenc (1 * (jlg 0)))), (101, [], [(-1), 0, 0, 0, 0, 0]), (100, [], (jenc 0)), (100, [], (jenc (-1))), (100, [], (jenc ((-1) * (jlg 0))))]
def jpM_195 : List JC := [jzM_173, (101, [], [0, 0, 0, 0, 0, 0]), jgh, jgh, jgh, jgh, jgh, (130, [], [17, 18, 19, 20, 21, 22]), jgh, jgh, jgh, jgh, jgh, jgh, jgh, jgh, jgh, (100, [], (jenc (jlg 0))), jgh, jgh, jgh, jgh, jgh]
def jpM_196 : List JC := [(101, [], [1, 0, 0, 0, 0, 0]), (101, [], [1, 0, 0, 0, 0, 0]), (100, [], (jenc 0)), (100, [], (jenc 1)), (100, [], (jenc (1 * (jlg 0)))), (101, [], [(-1), 0, 0, 0, 0, 0]), (100, [], (jenc 0)), (100, [], (jenc (-1))), (100, [], (jenc ((-1) * (jlg 0))))]
theorem jM_216_57 {xs : List Int} {d : Nat} : jT xs (d + 6) 216 23 0 [(0, (4, 0)), (1, (4, 1)), (2, (1, 1))] [] jpM_195 9 354 (fun k v hsN => k = 0 ∧ v = (1, 0) ∧ hsN = jpM_195 ++ jpM_196) := by
  refine jT_advK 98 (pcN := 51) (LN := [(5, (0, 6)), (4, (4, 23)), (0, (4, 0)), (1, (4, 1)), (2, (1, 1))]) (stN := [(1, 2), (4, 23), (4, 0)]) (hsN := jpM_193) (c1 := 1) (s1 := 6) (c2 := 8) (s2 := 348) (by decide +kernel) ?_ (by omega) (by omega)
  refine jT_fA [0, 23, 2, 3, 4, 5, 6, 7, 8, 9, 10, 11, 12, 13, 14, 15, 16, 17, 18, 19, 20, 21, 22] 24 (y := 210) (pcN := 54) (dC := 5) (bc1 := 8) (bc2 := 348) (c1 := 0) (c2 := 0) (as := [(4, 0), (4, 23), (1, 2)]) (asC := [(4, 0), (4, 1), (1, 2)]) (LN := [(5, (0, 6)), (4, (4, 23)), (0, (4, 0)), (1, (4, 1)), (2, (1, 1))]) (stN := []) (hsC := jpM_178) (ex := jpM_192) (v := (1, 0)) (st2 := [(1, 0)]) (hs2 := jpM_194) (jM_210_56 (d := 0)) (by rfl) (by rfl) (by decide +kernel) (by rfl) (by rfl) (by omega) (by omega) (by omega) (by omega) rfl (by decide +kernel) ?_
  exact jT_ret rfl (by decide) (by show 23 ≤ 32; omega) (by omega) (by omega) ⟨rfl, rfl, rfl⟩
def jpM_197 : List JC := [jzM_20, (100, [], jS0), jgh, jgh, jgh, jgh, (130, [], [16, 17, 18, 19, 20, 21]), (101, [], [0, 0, 0, 0, 0, 0]), jgh, jgh, jgh, jgh, jgh, jgh, jgh, jgh, (100, [], (jenc (jlg 0))), jgh, jgh, jgh, jgh, jgh]
theorem jIM_287_28 : jmI (jm 287) 28 = (.iconst 1, 1) := by rfl
theorem jIM_287_29 : jmI (jm 287) 29 = (.goto 4, 3) := by rfl
theorem jIM_287_42 : jmI (jm 287) 42 = (.aload_n 0, 1) := by rfl
theorem jIM_287_43 : jmI (jm 287) 43 = (.iload_n 1, 1) := by rfl
theorem jIM_287_47 : jmI (jm 287) 47 = (.bipush 6, 2) := by rfl
def jpM_203 : List JC := [jzM_20, (100, [], jS0), jgh, jgh, jgh, jgh, (130, [], [16, 17, 18, 19, 20, 21]), (101, [], [0, 0, 0, 0, 0, 0]), jgh, jgh, jgh, jgh, jgh, jgh, jgh, jgh, (100, [], (jenc (jlg 0))), jgh, jgh, jgh, jgh, jgh, (101, [], [0, 0, 0, 0, 0, 0])]
theorem jIM_287_51 : jmI (jm 287) 51 = (.astore 4, 2) := by rfl
theorem jIM_287_53 : jmI (jm 287) 53 = (.iload_n 2, 1) := by rfl
theorem jIM_287_54 : jmI (jm 287) 54 = (.istore 5, 2) := by rfl
theorem jIM_287_56 : jmI (jm 287) 56 = (.iconst 1, 1) := by rfl
theorem jIM_287_57 : jmI (jm 287) 57 = (.istore 6, 2) := by rfl
theorem jIM_287_59 : jmI (jm 287) 59 = (.iload 6, 2) := by rfl
theorem jIM_287_61 : jmI (jm 287) 61 = (.iload_n 3, 1) := by rfl
theorem jIM_287_62 : jmI (jm 287) 62 = (.if_icmp .gt 75, 3) := by rfl
theorem jIM_287_65 : jmI (jm 287) 65 = (.aload_n 0, 1) := by rfl
theorem jIM_287_66 : jmI (jm 287) 66 = (.iload 6, 2) := by rfl
theorem jIM_287_68 : jmI (jm 287) 68 = (.i2l, 1) := by rfl
def jpM_215 : List JC := [jzM_20, (100, [], jS0), jgh, jgh, jgh, jgh, (130, [], [16, 17, 18, 19, 20, 21]), (101, [], [0, 0, 0, 0, 0, 0]), jgh, jgh, jgh, jgh, jgh, jgh, jgh, jgh, (100, [], (jenc (jlg 0))), jgh, jgh, jgh, jgh, jgh, (101, [], [0, 0, 0, 0, 0, 0]), (101, [], [0, 0, 0, 0, 0, 0])]
theorem jIM_287_72 : jmI (jm 287) 72 = (.astore 7, 2) := by rfl
theorem jIM_287_74 : jmI (jm 287) 74 = (.aload 7, 2) := by rfl
theorem jIM_287_76 : jmI (jm 287) 76 = (.iconst 0, 1) := by rfl
theorem jIM_287_78 : jmI (jm 287) 78 = (.laload, 1) := by rfl
theorem jIM_287_79 : jmI (jm 287) 79 = (.aload_n 0, 1) := by rfl
theorem jIM_287_80 : jmI (jm 287) 80 = (.aload 7, 2) := by rfl
theorem jIM_287_82 : jmI (jm 287) 82 = (.aload_n 0, 1) := by rfl
theorem jIM_287_83 : jmI (jm 287) 83 = (.getfield 35, 3) := by rfl
def jpM_224 : List JC := [jzM_20, (100, [], jS0), jgh, jgh, jgh, jgh, (130, [], [16, 17, 18, 19, 20, 21]), (101, [], [0, 0, 0, 0, 0, 0]), jgh, jgh, jgh, jgh, jgh, jgh, jgh, jgh, (100, [], (jenc (jlg 0))), jgh, jgh, jgh, jgh, jgh, (101, [], [0, 0, 0, 0, 0, 0]), (101, [], [0, 0, 0, 0, 0, 0]), (101, [], [1, 0, 0, 0, 0, 0]), (101, [], [1, 0, 0, 0, 0, 0]), (100, [], (jenc 0)), (100, [], (jenc 1)), (100, [], (jenc (1 * (jlg 0)))), (101, [], [(-1), 0, 0, 0, 0, 0]), (100, [], (jenc 0)), (100, [], (jenc (-1))), (100, [], (jenc ((-1) * (jlg 0))))]
theorem jIM_287_89 : jmI (jm 287) 89 = (.aload_n 0, 1) := by rfl
theorem jIM_287_90 : jmI (jm 287) 90 = (.getfield 35, 3) := by rfl
theorem jIM_287_93 : jmI (jm 287) 93 = (.lmul, 1) := by rfl
theorem jIM_287_94 : jmI (jm 287) 94 = (.lsub, 1) := by rfl
theorem jIM_287_96 : jmI (jm 287) 96 = (.iload 6, 2) := by rfl
theorem jIM_287_98 : jmI (jm 287) 98 = (.iconst 1, 1) := by rfl
theorem jIM_287_99 : jmI (jm 287) 99 = (.if_icmp .le 17, 3) := by rfl
theorem jIM_287_116 : jmI (jm 287) 116 = (.iload 5, 2) := by rfl
theorem jIM_287_118 : jmI (jm 287) 118 = (.ifCond .ne 6, 3) := by rfl
theorem jIM_287_121 : jmI (jm 287) 121 = (.iload 6, 2) := by rfl
def jpM_235 : List JC := [(101, [], [0, 0, 0, 0, 0, 0]), (101, [], [0, 0, 0, 0, 0, 0]), (101, [], [1, 0, 0, 0, 0, 0]), (101, [], [1, 0, 0, 0, 0, 0]), (100, [], (jenc 0)), (100, [], (jenc 1)), (100, [], (jenc (1 * (jlg 0)))), (101, [], [(-1), 0, 0, 0, 0, 0]), (100, [], (jenc 0)), (100, [], (jenc (-1))), (100, [], (jenc ((-1) * (jlg 0))))]
theorem jM_287_58 {xs : List Int} {d : Nat} {x1 x3 : Int} (h_x1 : 0 ≤ x1 ∧ x1 ≤ 7) (h_x3 : 1 ≤ x3 ∧ x3 ≤ 2000) : jT xs (d + 7) 287 22 0 [(0, (4, 0)), (1, (0, x1)), (2, (0, 0)), (3, (0, x3))] [] jpM_197 11 366 (fun k v hsN => k = 0 ∧ v = (0, 1) ∧ hsN = jpM_197 ++ jpM_235) := by
  refine jT_xaload_n (v := (4, 0)) (pcN := 1) jIM_287_0 rfl rfl rfl ?_
  refine jT_xiload_n (v := (0, x1)) (pcN := 2) jIM_287_1 rfl rfl rfl ?_
  refine jT_fR [] 22 (y := 188) (pcN := 5) (dC := 1) (bc1 := 0) (bc2 := 0) (c1 := 11) (c2 := 366) (as := [(0, x1)]) (asC := [(0, x1)]) (LN := [(0, (4, 0)), (1, (0, x1)), (2, (0, 0)), (3, (0, x3))]) (stN := [(4, 0)]) (hsC := []) (v := (0, 1)) (st2 := [(0, 1), (4, 0)]) (jM_188_12 (d := 0) (by omega)) (by rfl) (by rfl) (by decide +kernel) (by rfl) (by rfl) (by omega) (by omega) (by omega) (by omega) rfl ?_
  refine jT_fR [0, 1, 2, 3, 4, 5, 6, 7, 8, 9, 10, 11, 12, 13, 14, 15] 22 (y := 190) (pcN := 8) (dC := 1) (bc1 := 0) (bc2 := 0) (c1 := 11) (c2 := 366) (as := [(4, 0), (0, 1)]) (asC := [(4, 0), (0, 1)]) (LN := [(0, (4, 0)), (1, (0, x1)), (2, (0, 0)), (3, (0, x3))]) (stN := []) (hsC := jpM_21) (v := (0, 0)) (st2 := [(0, 0)]) (jM_190_14 (d := 0)) (by rfl) (by rfl) (by decide +kernel) (by rfl) (by rfl) (by omega) (by omega) (by omega) (by omega) rfl ?_
  refine jT_xifF (t := 40) (pcN := 11) jIM_287_8 rfl (by decide +kernel) rfl rfl ?_
  refine jT_xaload_n (v := (4, 0)) (pcN := 12) jIM_287_11 rfl rfl rfl ?_
  refine jT_xiload_n (v := (0, 0)) (pcN := 13) jIM_287_12 rfl rfl rfl ?_
  refine jT_xifF (t := 32) (pcN := 16) jIM_287_13 rfl (by decide +kernel) rfl rfl ?_
  refine jT_xiload_n (v := (0, x3)) (pcN := 17) jIM_287_16 rfl rfl rfl ?_
  refine jT_xi2l (x := x3) (z := x3) (pcN := 18) jIM_287_17 rfl (jw_idd (by omega) (by omega)) rfl ?_
  refine jT_xlconst (z := 1) (pcN := 19) jIM_287_18 rfl rfl ?_
  refine jT_adv 1 (pcN := 22) (LN := [(0, (4, 0)), (1, (0, x1)), (2, (0, 0)), (3, (0, x3))]) (stN := [(1, 2000), (1, 1), (1, x3), (4, 0)]) (hsN := jpM_197) (c1 := 0) (s1 := 0) (c2 := 11) (s2 := 366) (by exact rfl) ?_ (by omega) (by omega)
  refine jT_fR [] 22 (y := 189) (pcN := 25) (dC := 0) (bc1 := 0) (bc2 := 0) (c1 := 11) (c2 := 366) (as := [(1, x3), (1, 1), (1, 2000)]) (asC := [(1, x3), (1, 1), (1, 2000)]) (LN := [(0, (4, 0)), (1, (0, x1)), (2, (0, 0)), (3, (0, x3))]) (stN := [(4, 0)]) (hsC := []) (v := (0, 1)) (st2 := [(0, 1), (4, 0)]) (jT_in_ok (d := 0) (v := x3) (lo := 1) (hi := 2000) (by omega) (by omega) (by omega) (by omega) (by omega)) (by rfl) (by rfl) (by decide +kernel) (by rfl) (by rfl) (by omega) (by omega) (by omega) (by omega) rfl ?_
  refine jT_xifF (t := 32) (pcN := 28) jIM_287_25 rfl (by decide +kernel) rfl rfl ?_
  refine jT_xiconst (k := 1) (pcN := 29) jIM_287_28 rfl ?_
  refine jT_xgoto (pcN := 33) jIM_287_29 rfl ?_
  refine jT_xiconst (k := 2) (pcN := 34) jIM_287_33 rfl ?_
  refine jT_fR [0] 22 (y := 191) (pcN := 37) (dC := 0) (bc1 := 0) (bc2 := 0) (c1 := 11) (c2 := 366) (as := [(4, 0), (0, 1), (0, 2)]) (asC := [(4, 0), (0, 1), (0, 2)]) (LN := [(0, (4, 0)), (1, (0, x1)), (2, (0, 0)), (3, (0, x3))]) (stN := []) (hsC := [jgh]) (v := (0, 0)) (st2 := [(0, 0)]) (jM_191_43 (d := 0)) (by rfl) (by rfl) (by decide +kernel) (by rfl) (by rfl) (by omega) (by omega) (by omega) (by omega) rfl ?_
  refine jT_xifT (pcN := 42) jIM_287_37 rfl (by decide +kernel) rfl ?_
  refine jT_xaload_n (v := (4, 0)) (pcN := 43) jIM_287_42 rfl rfl rfl ?_
  refine jT_xiload_n (v := (0, x1)) (pcN := 44) jIM_287_43 rfl rfl rfl ?_
  refine jT_fR [0, 1, 2, 3, 4, 5, 6, 7, 8, 9, 10, 11, 12, 13, 14, 15] 22 (y := 202) (pcN := 47) (dC := 1) (bc1 := 0) (bc2 := 0) (c1 := 11) (c2 := 366) (as := [(4, 0), (0, x1)]) (asC := [(4, 0), (0, x1)]) (LN := [(0, (4, 0)), (1, (0, x1)), (2, (0, 0)), (3, (0, x3))]) (stN := []) (hsC := jpM_154) (v := (9, 0)) (st2 := []) (jM_202_45 (d := 0) (by omega)) (by rfl) (by rfl) (by decide +kernel) (by rfl) (by rfl) (by omega) (by omega) (by omega) (by omega) rfl ?_
  refine jT_xbipush (k := 6) (pcN := 49) jIM_287_47 (by decide) rfl ?_
  refine jT_adv 1 (pcN := 51) (LN := [(0, (4, 0)), (1, (0, x1)), (2, (0, 0)), (3, (0, x3))]) (stN := [(4, 22)]) (hsN := jpM_203) (c1 := 1) (s1 := 6) (c2 := 10) (s2 := 360) (by exact rfl) ?_ (by omega) (by omega)
  refine jT_xastore (v := (4, 22)) (LN := [(4, (4, 22)), (0, (4, 0)), (1, (0, x1)), (2, (0, 0)), (3, (0, x3))]) (pcN := 53) jIM_287_51 rfl rfl rfl rfl ?_
  refine jT_xiload_n (v := (0, 0)) (pcN := 54) jIM_287_53 rfl rfl rfl ?_
  refine jT_xistore (v := (0, 0)) (LN := [(5, (0, 0)), (4, (4, 22)), (0, (4, 0)), (1, (0, x1)), (2, (0, 0)), (3, (0, x3))]) (pcN := 56) jIM_287_54 rfl rfl rfl rfl ?_
  refine jT_xiconst (k := 1) (pcN := 57) jIM_287_56 rfl ?_
  refine jT_xistore (v := (0, 1)) (LN := [(6, (0, 1)), (5, (0, 0)), (4, (4, 22)), (0, (4, 0)), (1, (0, x1)), (2, (0, 0)), (3, (0, x3))]) (pcN := 59) jIM_287_57 rfl rfl rfl rfl ?_
  refine jT_xiload (v := (0, 1)) (pcN := 61) jIM_287_59 rfl rfl rfl ?_
  refine jT_xiload_n (v := (0, x3)) (pcN := 62) jIM_287_61 rfl rfl rfl ?_
  refine jT_icF (a := 1) (b := x3) (t := 137) (by rfl) (by rfl) (by rfl) (jw_idd (by omega) (by omega)) (jw_idd (by omega) (by omega)) (by simp only [jcP] <;> omega) ?_
  refine jT_xaload_n (v := (4, 0)) (pcN := 66) jIM_287_65 rfl rfl rfl ?_
  refine jT_xiload (v := (0, 1)) (pcN := 68) jIM_287_66 rfl rfl rfl ?_
  refine jT_xi2l (x := 1) (z := 1) (pcN := 69) jIM_287_68 rfl (by decide +kernel) rfl ?_
  refine jT_fA [0, 1, 2, 3, 4, 5, 6, 7, 8, 9, 10, 11, 12, 13, 14, 15] 23 (y := 218) (pcN := 72) (dC := 0) (bc1 := 1) (bc2 := 6) (c1 := 9) (c2 := 354) (as := [(4, 0), (1, 1)]) (asC := [(4, 0), (1, 1)]) (LN := [(6, (0, 1)), (5, (0, 0)), (4, (4, 22)), (0, (4, 0)), (1, (0, x1)), (2, (0, 0)), (3, (0, x3))]) (stN := []) (hsC := jpM_172) (ex := [(101, [], [0, 0, 0, 0, 0, 0])]) (v := (4, 16)) (st2 := [(4, 23)]) (hs2 := jpM_215) (jM_218_46 (d := 0)) (by rfl) (by rfl) (by decide +kernel) (by rfl) (by rfl) (by omega) (by omega) (by omega) (by omega) rfl (by decide +kernel) ?_
  refine jT_xastore (v := (4, 23)) (LN := [(7, (4, 23)), (6, (0, 1)), (5, (0, 0)), (4, (4, 22)), (0, (4, 0)), (1, (0, x1)), (2, (0, 0)), (3, (0, x3))]) (pcN := 74) jIM_287_72 rfl rfl rfl rfl ?_
  refine jT_xaload (v := (4, 23)) (pcN := 76) jIM_287_74 rfl rfl rfl ?_
  refine jT_xiconst (k := 0) (pcN := 77) jIM_287_76 rfl ?_
  refine jT_adv 1 (pcN := 78) (LN := [(7, (4, 23)), (6, (0, 1)), (5, (0, 0)), (4, (4, 22)), (0, (4, 0)), (1, (0, x1)), (2, (0, 0)), (3, (0, x3))]) (stN := [(0, 0), (4, 23), (0, 0), (4, 23)]) (hsN := jpM_215) (c1 := 0) (s1 := 0) (c2 := 9) (s2 := 354) (by exact rfl) ?_ (by omega) (by omega)
  refine jT_lald (x := 0) (a := 23) (j := 0) (fs := []) (X := [0, 0, 0, 0, 0, 0]) jIM_287_78 rfl rfl rfl rfl ?_
  refine jT_eq (LN := [(7, (4, 23)), (6, (0, 1)), (5, (0, 0)), (4, (4, 22)), (0, (4, 0)), (1, (0, x1)), (2, (0, 0)), (3, (0, x3))]) (stN := [(1, 0), (0, 0), (4, 23)]) (hsN := jpM_215) rfl rfl rfl ?_
  refine jT_xaload_n (v := (4, 0)) (pcN := 80) jIM_287_79 rfl rfl rfl ?_
  refine jT_xaload (v := (4, 23)) (pcN := 82) jIM_287_80 rfl rfl rfl ?_
  refine jT_xaload_n (v := (4, 0)) (pcN := 83) jIM_287_82 rfl rfl rfl ?_
  refine jT_xgetf (a := 0) (t := 1) (ci := 14) (fi := 10) (c := jzM_20) (v := (1, 1)) (pcN := 86) jIM_287_83 rfl rfl rfl rfl rfl rfl rfl ?_
  refine jT_fA [0, 23, 1, 2, 3, 4, 5, 6, 7, 8, 9, 10, 11, 12, 13, 14, 15, 16, 17, 18, 19, 20, 21] 24 (y := 216) (pcN := 89) (dC := 6) (bc1 := 9) (bc2 := 354) (c1 := 0) (c2 := 0) (as := [(4, 0), (4, 23), (1, 1)]) (asC := [(4, 0), (4, 1), (1, 1)]) (LN := [(7, (4, 23)), (6, (0, 1)), (5, (0, 0)), (4, (4, 22)), (0, (4, 0)), (1, (0, x1)), (2, (0, 0)), (3, (0, x3))]) (stN := [(1, 0), (0, 0), (4, 23)]) (hsC := jpM_195) (ex := jpM_196) (v := (1, 0)) (st2 := [(1, 0), (1, 0), (0, 0), (4, 23)]) (hs2 := jpM_224) (jM_216_57 (d := 0)) (by rfl) (by rfl) (by decide +kernel) (by rfl) (by rfl) (by omega) (by omega) (by omega) (by omega) rfl (by decide +kernel) ?_
  refine jT_xaload_n (v := (4, 0)) (pcN := 90) jIM_287_89 rfl rfl rfl ?_
  refine jT_xgetf (a := 0) (t := 1) (ci := 14) (fi := 10) (c := jzM_20) (v := (1, 1)) (pcN := 93) jIM_287_90 rfl rfl rfl rfl rfl rfl rfl ?_
  refine jT_xlmul (x := 0) (y := 1) (z := 0) (pcN := 94) jIM_287_93 rfl (by decide) rfl ?_
  refine jT_xlsub (x := 0) (y := 0) (z := 0) (pcN := 95) jIM_287_94 rfl (by decide) rfl ?_
  refine jT_adv 1 (pcN := 96) (LN := [(7, (4, 23)), (6, (0, 1)), (5, (0, 0)), (4, (4, 22)), (0, (4, 0)), (1, (0, x1)), (2, (0, 0)), (3, (0, x3))]) (stN := []) (hsN := jpM_224) (c1 := 0) (s1 := 0) (c2 := 0) (s2 := 0) (by exact rfl) ?_ (by omega) (by omega)
  refine jT_xiload (v := (0, 1)) (pcN := 98) jIM_287_96 rfl rfl rfl ?_
  refine jT_xiconst (k := 1) (pcN := 99) jIM_287_98 rfl ?_
  refine jT_xicT (pcN := 116) jIM_287_99 rfl (by decide +kernel) rfl ?_
  refine jT_xiload (v := (0, 0)) (pcN := 118) jIM_287_116 rfl rfl rfl ?_
  refine jT_xifF (t := 124) (pcN := 121) jIM_287_118 rfl (by decide +kernel) rfl rfl ?_
  refine jT_xiload (v := (0, 1)) (pcN := 123) jIM_287_121 rfl rfl rfl ?_
  exact jT_ret rfl (by decide) (by show 22 ≤ 33; omega) (by omega) (by omega) ⟨rfl, rfl, rfl⟩
theorem jM_186_59 {xs : List Int} {d : Nat} : jT xs d 186 16 0 [(0, (4, 0))] [] jpM_21 0 0 (fun k v hsN => k = 0 ∧ v = (0, 0) ∧ hsN = jpM_21 ++ []) := by
  refine jT_advK 2 (pcN := 4) (LN := [(0, (4, 0))]) (stN := [(0, 0)]) (hsN := jpM_21) (c1 := 0) (s1 := 0) (c2 := 0) (s2 := 0) (by decide +kernel) ?_ (by omega) (by omega)
  exact jT_ret rfl (by decide) (by show 16 ≤ 16; omega) (by omega) (by omega) ⟨rfl, rfl, rfl⟩
theorem jM_92_60 {xs : List Int} {d : Nat} : jT xs d 92 2 0 [(0, (4, 0))] [] [(12, [(4, 1), (0, 0)], []), jgh] 0 0 (fun k v hsN => k = 0 ∧ v = (0, 1) ∧ hsN = [(12, [(4, 1), (0, 0)], []), jgh] ++ []) := by
  refine jT_advK 5 (pcN := 12) (LN := [(0, (4, 0))]) (stN := [(0, 1)]) (hsN := [(12, [(4, 1), (0, 0)], []), jgh]) (c1 := 0) (s1 := 0) (c2 := 0) (s2 := 0) (by decide +kernel) ?_ (by omega) (by omega)
  exact jT_ret rfl (by decide) (by show 2 ≤ 2; omega) (by omega) (by omega) ⟨rfl, rfl, rfl⟩
def jpM_236 : List JC := [(2, [(4, 1), (4, 2)], []), jgh, (12, [(4, 3), (0, 0)], []), jgh]
theorem jM_3_61 {xs : List Int} {d : Nat} : jT xs (d + 1) 3 4 0 [(0, (4, 0))] [] jpM_236 0 0 (fun k v hsN => k = 0 ∧ v = (0, 1) ∧ hsN = jpM_236 ++ []) := by
  refine jT_advK 2 (pcN := 4) (LN := [(0, (4, 0))]) (stN := [(4, 2)]) (hsN := jpM_236) (c1 := 0) (s1 := 0) (c2 := 0) (s2 := 0) (by decide +kernel) ?_ (by omega) (by omega)
  refine jT_fR [2, 3] 4 (y := 92) (pcN := 7) (dC := 0) (bc1 := 0) (bc2 := 0) (c1 := 0) (c2 := 0) (as := [(4, 2)]) (asC := [(4, 0)]) (LN := [(0, (4, 0))]) (stN := []) (hsC := [(12, [(4, 1), (0, 0)], []), jgh]) (v := (0, 1)) (st2 := [(0, 1)]) (jM_92_60 (d := 0)) (by rfl) (by rfl) (by decide +kernel) (by rfl) (by rfl) (by omega) (by omega) (by omega) (by omega) rfl ?_
  exact jT_ret rfl (by decide) (by show 4 ≤ 4; omega) (by omega) (by omega) ⟨rfl, rfl, rfl⟩
theorem jIM_156_44 : jmI (jm 156) 44 = (.aload_n 0, 1) := by rfl
theorem jIM_156_45 : jmI (jm 156) 45 = (.getfield 19, 3) := by rfl
theorem jIM_156_51 : jmI (jm 156) 51 = (.ifCond .eq 9, 3) := by rfl
theorem jIM_156_57 : jmI (jm 156) 57 = (.goto 10, 3) := by rfl
theorem jIM_156_67 : jmI (jm 156) 67 = (.lstore 10, 2) := by rfl
theorem jIM_156_69 : jmI (jm 156) 69 = (.lload 10, 2) := by rfl
theorem jIM_156_71 : jmI (jm 156) 71 = (.iload_n 3, 1) := by rfl
theorem jIM_156_72 : jmI (jm 156) 72 = (.i2l, 1) := by rfl
theorem jIM_156_74 : jmI (jm 156) 74 = (.ifCond .le 7, 3) := by rfl
theorem jM_156_62 {xs : List Int} {d : Nat} {x2 x3 : Int} (h_x2 : 1 ≤ x2 ∧ x2 ≤ 2147483647) (h_x3 : 1 ≤ x3 ∧ x3 ≤ 2000) : jT xs (d + 4) 156 21 0 [(0, (4, 0)), (1, (4, 1)), (2, (0, x2)), (3, (0, x3))] [] jpM_117 0 0 (fun k v hsN => k = 0 ∧ v = (1, (-1)) ∧ hsN = jpM_97) := by
  refine jT_xaload_n (v := (4, 0)) (pcN := 1) jIM_156_0 rfl rfl rfl ?_
  refine jT_xgetf (a := 0) (t := 1) (ci := 13) (fi := 1) (c := jzM_13) (v := (4, 3)) (pcN := 4) jIM_156_1 rfl rfl rfl rfl rfl rfl rfl ?_
  refine jT_xaload_n (v := (4, 1)) (pcN := 5) jIM_156_4 rfl rfl rfl ?_
  refine jT_xaload_n (v := (4, 0)) (pcN := 6) jIM_156_5 rfl rfl rfl ?_
  refine jT_xgetf (a := 0) (t := 1) (ci := 13) (fi := 0) (c := jzM_13) (v := (4, 2)) (pcN := 9) jIM_156_6 rfl rfl rfl rfl rfl rfl rfl ?_
  refine jT_fB [3, 1, 2, 16, 17, 13, 14, 15, 19, 20, 18] 21 (y := 1) (pcN := 12) (dC := 3) (bc1 := 0) (bc2 := 0) (c1 := 0) (c2 := 0) (as := [(4, 3), (4, 1), (4, 2)]) (asC := [(4, 0), (4, 1), (4, 2)]) (LN := [(0, (4, 0)), (1, (4, 1)), (2, (0, x2)), (3, (0, x3))]) (stN := []) (hsC := jpM_83) (hsD := jpM_85) (v := (9, 0)) (st2 := []) (hs2 := jpM_94) (jM_1_35 (d := 0)) (by rfl) (by rfl) (by decide +kernel) (by rfl) (by rfl) (by omega) (by omega) (by omega) (by omega) rfl (by decide +kernel) ?_
  refine jT_xaload_n (v := (4, 0)) (pcN := 13) jIM_156_12 rfl rfl rfl ?_
  refine jT_xgetf (a := 0) (t := 1) (ci := 13) (fi := 1) (c := jzM_13) (v := (4, 3)) (pcN := 16) jIM_156_13 rfl rfl rfl rfl rfl rfl rfl ?_
  refine jT_fB [3, 16, 17, 19, 20] 21 (y := 2) (pcN := 19) (dC := 2) (bc1 := 0) (bc2 := 0) (c1 := 0) (c2 := 0) (as := [(4, 3)]) (asC := [(4, 0)]) (LN := [(0, (4, 0)), (1, (4, 1)), (2, (0, x2)), (3, (0, x3))]) (stN := []) (hsC := jpM_87) (hsD := jpM_88) (v := (1, 0)) (st2 := [(1, 0)]) (hs2 := jpM_97) (jM_2_39 (d := 0)) (by rfl) (by rfl) (by decide +kernel) (by rfl) (by rfl) (by omega) (by omega) (by omega) (by omega) rfl (by decide +kernel) ?_
  refine jT_adv 1 (pcN := 20) (LN := [(0, (4, 0)), (1, (4, 1)), (2, (0, x2)), (3, (0, x3))]) (stN := []) (hsN := jpM_97) (c1 := 0) (s1 := 0) (c2 := 0) (s2 := 0) (by exact rfl) ?_ (by omega) (by omega)
  refine jT_xlconst (z := 0) (pcN := 21) jIM_156_20 rfl rfl ?_
  refine jT_xlstore (v := (1, 0)) (LN := [(4, (1, 0)), (0, (4, 0)), (1, (4, 1)), (2, (0, x2)), (3, (0, x3))]) (pcN := 23) jIM_156_21 rfl rfl rfl rfl ?_
  refine jT_xlconst (z := 1) (pcN := 24) jIM_156_23 rfl rfl ?_
  refine jT_xlstore (v := (1, 1)) (LN := [(6, (1, 1)), (4, (1, 0)), (0, (4, 0)), (1, (4, 1)), (2, (0, x2)), (3, (0, x3))]) (pcN := 26) jIM_156_24 rfl rfl rfl rfl ?_
  refine jT_xiconst (k := 0) (pcN := 27) jIM_156_26 rfl ?_
  refine jT_xistore (v := (0, 0)) (LN := [(8, (0, 0)), (6, (1, 1)), (4, (1, 0)), (0, (4, 0)), (1, (4, 1)), (2, (0, x2)), (3, (0, x3))]) (pcN := 29) jIM_156_27 rfl rfl rfl rfl ?_
  refine jT_xiconst (k := 0) (pcN := 30) jIM_156_29 rfl ?_
  refine jT_xistore (v := (0, 0)) (LN := [(9, (0, 0)), (8, (0, 0)), (6, (1, 1)), (4, (1, 0)), (0, (4, 0)), (1, (4, 1)), (2, (0, x2)), (3, (0, x3))]) (pcN := 32) jIM_156_30 rfl rfl rfl rfl ?_
  refine jT_xiload (v := (0, 0)) (pcN := 34) jIM_156_32 rfl rfl rfl ?_
  refine jT_xiload_n (v := (0, x3)) (pcN := 35) jIM_156_34 rfl rfl rfl ?_
  refine jT_icF (a := 0) (b := x3) (t := 135) (by rfl) (by rfl) (by rfl) (jw_idd (by omega) (by omega)) (jw_idd (by omega) (by omega)) (by simp only [jcP] <;> omega) ?_
  refine jT_xiload (v := (0, 0)) (pcN := 40) jIM_156_38 rfl rfl rfl ?_
  refine jT_xiload_n (v := (0, x2)) (pcN := 41) jIM_156_40 rfl rfl rfl ?_
  refine jT_icF (a := 0) (b := x2) (t := 135) (by rfl) (by rfl) (by rfl) (jw_idd (by omega) (by omega)) (jw_idd (by omega) (by omega)) (by simp only [jcP] <;> omega) ?_
  refine jT_xaload_n (v := (4, 0)) (pcN := 45) jIM_156_44 rfl rfl rfl ?_
  refine jT_xgetf (a := 0) (t := 1) (ci := 13) (fi := 1) (c := jzM_13) (v := (4, 3)) (pcN := 48) jIM_156_45 rfl rfl rfl rfl rfl rfl rfl ?_
  refine jT_fR [3, 17, 16, 19] 21 (y := 3) (pcN := 51) (dC := 1) (bc1 := 0) (bc2 := 0) (c1 := 0) (c2 := 0) (as := [(4, 3)]) (asC := [(4, 0)]) (LN := [(9, (0, 0)), (8, (0, 0)), (6, (1, 1)), (4, (1, 0)), (0, (4, 0)), (1, (4, 1)), (2, (0, x2)), (3, (0, x3))]) (stN := []) (hsC := jpM_236) (v := (0, 1)) (st2 := [(0, 1)]) (jM_3_61 (d := 0)) (by rfl) (by rfl) (by decide +kernel) (by rfl) (by rfl) (by omega) (by omega) (by omega) (by omega) rfl ?_
  refine jT_xifF (t := 60) (pcN := 54) jIM_156_51 rfl (by decide +kernel) rfl rfl ?_
  refine jT_adv 1 (pcN := 57) (LN := [(9, (0, 0)), (8, (0, 0)), (6, (1, 1)), (4, (1, 0)), (0, (4, 0)), (1, (4, 1)), (2, (0, x2)), (3, (0, x3))]) (stN := [(1, 1000000000000000000)]) (hsN := jpM_97) (c1 := 0) (s1 := 0) (c2 := 0) (s2 := 0) (by exact rfl) ?_ (by omega) (by omega)
  refine jT_xgoto (pcN := 67) jIM_156_57 rfl ?_
  refine jT_xlstore (v := (1, 1000000000000000000)) (LN := [(10, (1, 1000000000000000000)), (9, (0, 0)), (8, (0, 0)), (6, (1, 1)), (4, (1, 0)), (0, (4, 0)), (1, (4, 1)), (2, (0, x2)), (3, (0, x3))]) (pcN := 69) jIM_156_67 rfl rfl rfl rfl ?_
  refine jT_xlload (v := (1, 1000000000000000000)) (pcN := 71) jIM_156_69 rfl rfl rfl ?_
  refine jT_xiload_n (v := (0, x3)) (pcN := 72) jIM_156_71 rfl rfl rfl ?_
  refine jT_xi2l (x := x3) (z := x3) (pcN := 73) jIM_156_72 rfl (jw_idd (by omega) (by omega)) rfl ?_
  refine jT_lcmp (a := 1000000000000000000) (b := x3) (z := 1) (by rfl) (by rfl) (jwl_idd (by omega) (by omega)) (jwl_idd (by omega) (by omega)) (by rw [decide_eq_true (show (x3 : Int) < 1000000000000000000 by omega)]; rfl) ?_
  refine jT_xifF (t := 81) (pcN := 77) jIM_156_74 rfl (by decide +kernel) rfl rfl ?_
  refine jT_adv 1 (pcN := 80) (LN := [(10, (1, 1000000000000000000)), (9, (0, 0)), (8, (0, 0)), (6, (1, 1)), (4, (1, 0)), (0, (4, 0)), (1, (4, 1)), (2, (0, x2)), (3, (0, x3))]) (stN := [(1, (-1))]) (hsN := jpM_97) (c1 := 0) (s1 := 0) (c2 := 0) (s2 := 0) (by exact rfl) ?_ (by omega) (by omega)
  exact jT_ret rfl (by decide) (by show 21 ≤ 21; omega) (by omega) (by omega) ⟨rfl, rfl, rfl⟩
theorem jM_155_63 {xs : List Int} {d : Nat} {x1 x2 x3 : Int} (h_x1 : 0 ≤ x1 ∧ x1 ≤ 7) (h_x2 : 1 ≤ x2 ∧ x2 ≤ 2147483647) (h_x3 : 1 ≤ x3 ∧ x3 ≤ 2000) : jT xs (d + 5) 155 26 0 [(0, (4, 0)), (1, (0, x1)), (2, (0, x2)), (3, (0, x3))] [] jpM_132 1 6 (fun k v hsN => k = 1 ∧ v = (0, 4) ∧ hsN = jpM_126) := by
  refine jT_xaload_n (v := (4, 0)) (pcN := 1) jIM_155_0 rfl rfl rfl ?_
  refine jT_xiload_n (v := (0, x1)) (pcN := 2) jIM_155_1 rfl rfl rfl ?_
  refine jT_xbipush (k := 8) (pcN := 4) jIM_155_2 (by decide) rfl ?_
  refine jT_fR [0] 26 (y := 115) (pcN := 7) (dC := 0) (bc1 := 0) (bc2 := 0) (c1 := 1) (c2 := 6) (as := [(4, 0), (0, x1), (0, 8)]) (asC := [(4, 0), (0, x1), (0, 8)]) (LN := [(0, (4, 0)), (1, (0, x1)), (2, (0, x2)), (3, (0, x3))]) (stN := []) (hsC := [jgh]) (v := (9, 0)) (st2 := []) (jM_115_9 (d := 0) (by omega)) (by rfl) (by rfl) (by decide +kernel) (by rfl) (by rfl) (by omega) (by omega) (by omega) (by omega) rfl ?_
  refine jT_xiload_n (v := (0, x2)) (pcN := 8) jIM_155_7 rfl rfl rfl ?_
  refine jT_ifT (a := x2) (t := 22) (by rfl) (by rfl) (by rfl) (jw_idd (by omega) (by omega)) (by simp only [jcP] <;> omega) ?_
  refine jT_xaload_n (v := (4, 0)) (pcN := 23) jIM_155_22 rfl rfl rfl ?_
  refine jT_xiload_n (v := (0, x3)) (pcN := 24) jIM_155_23 rfl rfl rfl ?_
  refine jT_xiconst (k := 1) (pcN := 25) jIM_155_24 rfl ?_
  refine jT_xsipush (k := 2000) (pcN := 28) jIM_155_25 (by decide) rfl ?_
  refine jT_fR [0] 26 (y := 116) (pcN := 31) (dC := 0) (bc1 := 0) (bc2 := 0) (c1 := 1) (c2 := 6) (as := [(4, 0), (0, x3), (0, 1), (0, 2000)]) (asC := [(4, 0), (0, x3), (0, 1), (0, 2000)]) (LN := [(0, (4, 0)), (1, (0, x1)), (2, (0, x2)), (3, (0, x3))]) (stN := []) (hsC := [jgh]) (v := (9, 0)) (st2 := []) (jM_116_22 (d := 0) (by omega)) (by rfl) (by rfl) (by decide +kernel) (by rfl) (by rfl) (by omega) (by omega) (by omega) (by omega) rfl ?_
  refine jT_xaload_n (v := (4, 0)) (pcN := 32) jIM_155_31 rfl rfl rfl ?_
  refine jT_xaload_n (v := (4, 0)) (pcN := 33) jIM_155_32 rfl rfl rfl ?_
  refine jT_xgetf (a := 0) (t := 1) (ci := 13) (fi := 11) (c := jzM_5) (v := (4, 11)) (pcN := 36) jIM_155_33 rfl rfl rfl rfl rfl rfl rfl ?_
  refine jT_xiload_n (v := (0, x1)) (pcN := 37) jIM_155_36 rfl rfl rfl ?_
  refine jT_fR [11, 16, 17, 18, 19, 20, 24] 26 (y := 57) (pcN := 40) (dC := 0) (bc1 := 0) (bc2 := 0) (c1 := 1) (c2 := 6) (as := [(4, 11), (0, x1)]) (asC := [(4, 0), (0, x1)]) (LN := [(0, (4, 0)), (1, (0, x1)), (2, (0, x2)), (3, (0, x3))]) (stN := [(4, 0)]) (hsC := jpM_58) (v := (4, 6)) (st2 := [(4, 24), (4, 0)]) (jM_57_23 (d := 0) (by omega)) (by rfl) (by rfl) (by decide +kernel) (by rfl) (by rfl) (by omega) (by omega) (by omega) (by omega) rfl ?_
  refine jT_xiload_n (v := (0, x2)) (pcN := 41) jIM_155_40 rfl rfl rfl ?_
  refine jT_xiload_n (v := (0, x3)) (pcN := 42) jIM_155_41 rfl rfl rfl ?_
  refine jT_fB [0, 24, 1, 2, 3, 4, 5, 6, 7, 8, 9, 10, 11, 25, 12, 13, 14, 15, 21, 22, 23] 26 (y := 156) (pcN := 45) (dC := 4) (bc1 := 0) (bc2 := 0) (c1 := 1) (c2 := 6) (as := [(4, 0), (4, 24), (0, x2), (0, x3)]) (asC := [(4, 0), (4, 1), (0, x2), (0, x3)]) (LN := [(0, (4, 0)), (1, (0, x1)), (2, (0, x2)), (3, (0, x3))]) (stN := []) (hsC := jpM_117) (hsD := jpM_97) (v := (1, (-1))) (st2 := [(1, (-1))]) (hs2 := jpM_126) (jM_156_62 (d := 0) (by omega) (by omega)) (by rfl) (by rfl) (by decide +kernel) (by rfl) (by rfl) (by omega) (by omega) (by omega) (by omega) rfl (by decide +kernel) ?_
  refine jT_xlstore (v := (1, (-1))) (LN := [(4, (1, (-1))), (0, (4, 0)), (1, (0, x1)), (2, (0, x2)), (3, (0, x3))]) (pcN := 47) jIM_155_45 rfl rfl rfl rfl ?_
  refine jT_xlload (v := (1, (-1))) (pcN := 49) jIM_155_47 rfl rfl rfl ?_
  refine jT_adv 1 (pcN := 52) (LN := [(4, (1, (-1))), (0, (4, 0)), (1, (0, x1)), (2, (0, x2)), (3, (0, x3))]) (stN := [(1, (-1)), (1, (-1))]) (hsN := jpM_126) (c1 := 0) (s1 := 0) (c2 := 1) (s2 := 6) (by exact rfl) ?_ (by omega) (by omega)
  refine jT_lcmp (a := (-1)) (b := (-1)) (z := 0) (by rfl) (by rfl) (by decide +kernel) (by decide +kernel) (by decide) ?_
  refine jT_xifF (t := 67) (pcN := 56) jIM_155_53 rfl (by decide +kernel) rfl rfl ?_
  exact jT_ret (c1 := 1) (s1 := 6) rfl (by decide) (by show 26 ≤ 26; omega) (by omega) (by omega) ⟨rfl, rfl, rfl⟩
def jpM_246 : List JC := [jzM_13, jgh, (8, [(4, 13), (4, 14)], []), (2, [(4, 16), (4, 15)], []), jgh, jgh, jgh, jgh, jgh, jgh, jgh, jgh, jzM_133, (3, [(4, 22), (1, 0)], []), (101, [], [0, 0, 0, 0, 0, 0]), (12, [(4, 23), (0, 0)], []), (12, [(4, 24), (0, 21)], []), jzM_134, jgh, jgh, jgh, jgh, (100, [], List.replicate 20 0), (100, [], List.replicate 48 0), jzM_82, (4, [(4, 26), (1, 1)], []), (101, [], [0, 0, 0, 0, 0, 0])]
def jpM_247 : List JC := [jzM_13, jgh, (8, [(4, 13), (4, 14)], []), (2, [(4, 15), (4, 16)], []), jgh, jgh, jgh, jgh, jgh, jgh, jgh, jgh, jzM_133, (3, [(4, 22), (1, 0)], []), (101, [], [0, 0, 0, 0, 0, 0]), (12, [(4, 23), (0, 0)], []), (12, [(4, 24), (0, 0)], []), jzM_134, jgh, jgh, jgh, jgh, (100, [], List.replicate 20 0), (100, [], List.replicate 48 0), (100, [], List.replicate 48 0), (4, [(4, 26), (1, 1)], []), (101, [], [0, 0, 0, 0, 0, 0])]
theorem jM_358_64 {xs : List Int} {d : Nat} {x1 x2 x3 : Int} (h_x1 : 0 ≤ x1 ∧ x1 ≤ 7) (h_x2 : 1 ≤ x2 ∧ x2 ≤ 2147483647) (h_x3 : 1 ≤ x3 ∧ x3 ≤ 2000) : jT xs (d + 6) 358 27 0 [(0, (4, 0)), (1, (0, x1)), (2, (0, x2)), (3, (0, x3)), (4, (4, 1))] [] jpM_247 1 6 (fun k v hsN => k = 0 ∧ v = (0, 3) ∧ hsN = jpM_246) := by
  refine jT_xaload (v := (4, 1)) (pcN := 2) jIM_358_0 rfl rfl rfl ?_
  refine jT_xiconst (k := 0) (pcN := 3) jIM_358_2 rfl ?_
  refine jT_xaload_n (v := (4, 0)) (pcN := 4) jIM_358_3 rfl rfl rfl ?_
  refine jT_xiload_n (v := (0, x1)) (pcN := 5) jIM_358_4 rfl rfl rfl ?_
  refine jT_xiload_n (v := (0, x2)) (pcN := 6) jIM_358_5 rfl rfl rfl ?_
  refine jT_xiload_n (v := (0, x3)) (pcN := 7) jIM_358_6 rfl rfl rfl ?_
  exact jT_fY [0, 2, 3, 4, 5, 6, 7, 8, 9, 10, 11, 12, 13, 14, 15, 16, 17, 18, 19, 20, 21, 22, 23, 24, 25, 26] 27 (y := 155) (pcN := 10) (dC := 5) (bc1 := 1) (bc2 := 6) (as := [(4, 0), (0, x1), (0, x2), (0, x3)]) (asC := [(4, 0), (0, x1), (0, x2), (0, x3)]) (LN := [(0, (4, 0)), (1, (0, x1)), (2, (0, x2)), (3, (0, x3)), (4, (4, 1))]) (stN := [(0, 0), (4, 1)]) (hsC := jpM_132) (hsD := jpM_126) (hs2 := jpM_246) (e := 4) (jM_155_63 (d := 0) (by omega) (by omega) (by omega)) (by rfl) (by rfl) (by decide +kernel) (by rfl) (by rfl) (by omega) (by omega) (by omega) (by omega) (by decide +kernel) (show _ from ⟨rfl, rfl, rfl⟩)
theorem jIM_218_0 : jmI (jm 218) 0 = (.bipush 6, 2) := by rfl
theorem jIM_218_4 : jmI (jm 218) 4 = (.astore_n 3, 1) := by rfl
theorem jIM_218_5 : jmI (jm 218) 5 = (.iconst 0, 1) := by rfl
theorem jIM_218_6 : jmI (jm 218) 6 = (.istore 4, 2) := by rfl
theorem jIM_218_8 : jmI (jm 218) 8 = (.iload 4, 2) := by rfl
theorem jIM_218_10 : jmI (jm 218) 10 = (.bipush 6, 2) := by rfl
theorem jIM_218_12 : jmI (jm 218) 12 = (.if_icmp .ge 22, 3) := by rfl
theorem jIM_218_15 : jmI (jm 218) 15 = (.aload_n 3, 1) := by rfl
theorem jIM_218_16 : jmI (jm 218) 16 = (.iload 4, 2) := by rfl
theorem jIM_218_18 : jmI (jm 218) 18 = (.lload_n 1, 1) := by rfl
theorem jIM_218_19 : jmI (jm 218) 19 = (.aload_n 0, 1) := by rfl
theorem jIM_218_20 : jmI (jm 218) 20 = (.getfield 31, 3) := by rfl
theorem jIM_218_23 : jmI (jm 218) 23 = (.iload 4, 2) := by rfl
theorem jIM_218_25 : jmI (jm 218) 25 = (.laload, 1) := by rfl
theorem jIM_218_26 : jmI (jm 218) 26 = (.lmul, 1) := by rfl
theorem jIM_218_28 : jmI (jm 218) 28 = (.iinc 4 1, 3) := by rfl
theorem jIM_218_31 : jmI (jm 218) 31 = (.goto (-23), 3) := by rfl
theorem jIM_218_34 : jmI (jm 218) 34 = (.aload_n 3, 1) := by rfl
theorem jM_218_65 {xs : List Int} {d : Nat} {t : Int} (h_t : 2 ≤ t ∧ t ≤ 2000) : jT xs d 218 16 0 [(0, (4, 0)), (1, (1, t))] [] jpM_172 1 6 (fun k v hsN => k = 0 ∧ v = (4, 16) ∧ hsN = jpM_172 ++ [(101, [], [0, 0, 0, 0, 0, 0])]) := by
  refine jT_xbipush (k := 6) (pcN := 2) jIM_218_0 (by decide) rfl ?_
  refine jT_adv 1 (pcN := 4) (LN := [(0, (4, 0)), (1, (1, t))]) (stN := [(4, 16)]) (hsN := jpM_171) (c1 := 1) (s1 := 6) (c2 := 0) (s2 := 0) (by exact rfl) ?_ (by omega) (by omega)
  refine jT_xastore_n (v := (4, 16)) (LN := [(3, (4, 16)), (0, (4, 0)), (1, (1, t))]) (pcN := 5) jIM_218_4 rfl rfl rfl rfl ?_
  refine jT_xiconst (k := 0) (pcN := 6) jIM_218_5 rfl ?_
  refine jT_xistore (v := (0, 0)) (LN := [(4, (0, 0)), (3, (4, 16)), (0, (4, 0)), (1, (1, t))]) (pcN := 8) jIM_218_6 rfl rfl rfl rfl ?_
  refine jT_xiload (v := (0, 0)) (pcN := 10) jIM_218_8 rfl rfl rfl ?_
  refine jT_xbipush (k := 6) (pcN := 12) jIM_218_10 (by decide) rfl ?_
  refine jT_xicF (t := 34) (pcN := 15) jIM_218_12 rfl (by decide +kernel) rfl rfl ?_
  refine jT_xaload_n (v := (4, 16)) (pcN := 16) jIM_218_15 rfl rfl rfl ?_
  refine jT_xiload (v := (0, 0)) (pcN := 18) jIM_218_16 rfl rfl rfl ?_
  refine jT_xlload_n (v := (1, t)) (pcN := 19) jIM_218_18 rfl rfl rfl ?_
  refine jT_xaload_n (v := (4, 0)) (pcN := 20) jIM_218_19 rfl rfl rfl ?_
  refine jT_xgetf (a := 0) (t := 1) (ci := 14) (fi := 9) (c := jzM_20) (v := (4, 7)) (pcN := 23) jIM_218_20 rfl rfl rfl rfl rfl rfl rfl ?_
  refine jT_xiload (v := (0, 0)) (pcN := 25) jIM_218_23 rfl rfl rfl ?_
  refine jT_lald (x := 0) (a := 7) (j := 0) (fs := []) (X := [0, 0, 0, 0, 0, 0]) jIM_218_25 rfl rfl rfl rfl ?_
  refine jT_eq (LN := [(4, (0, 0)), (3, (4, 16)), (0, (4, 0)), (1, (1, t))]) (stN := [(1, 0), (1, t), (0, 0), (4, 16)]) (hsN := jpM_171) rfl rfl rfl ?_
  refine jT_xlmul (x := t) (y := 0) (z := 0) (pcN := 27) jIM_218_26 rfl (by omega) rfl ?_
  refine jT_adv 1 (pcN := 28) (LN := [(4, (0, 0)), (3, (4, 16)), (0, (4, 0)), (1, (1, t))]) (stN := []) (hsN := jpM_171) (c1 := 0) (s1 := 0) (c2 := 0) (s2 := 0) (by exact rfl) ?_ (by omega) (by omega)
  refine jT_xiinc (x := 0) (z := 1) (LN := [(4, (0, 1)), (3, (4, 16)), (0, (4, 0)), (1, (1, t))]) (pcN := 31) jIM_218_28 rfl rfl (by decide) rfl rfl ?_
  refine jT_xgoto (pcN := 8) jIM_218_31 rfl ?_
  refine jT_xiload (v := (0, 1)) (pcN := 10) jIM_218_8 rfl rfl rfl ?_
  refine jT_xbipush (k := 6) (pcN := 12) jIM_218_10 (by decide) rfl ?_
  refine jT_xicF (t := 34) (pcN := 15) jIM_218_12 rfl (by decide +kernel) rfl rfl ?_
  refine jT_xaload_n (v := (4, 16)) (pcN := 16) jIM_218_15 rfl rfl rfl ?_
  refine jT_xiload (v := (0, 1)) (pcN := 18) jIM_218_16 rfl rfl rfl ?_
  refine jT_xlload_n (v := (1, t)) (pcN := 19) jIM_218_18 rfl rfl rfl ?_
  refine jT_xaload_n (v := (4, 0)) (pcN := 20) jIM_218_19 rfl rfl rfl ?_
  refine jT_xgetf (a := 0) (t := 1) (ci := 14) (fi := 9) (c := jzM_20) (v := (4, 7)) (pcN := 23) jIM_218_20 rfl rfl rfl rfl rfl rfl rfl ?_
  refine jT_xiload (v := (0, 1)) (pcN := 25) jIM_218_23 rfl rfl rfl ?_
  refine jT_lald (x := 0) (a := 7) (j := 1) (fs := []) (X := [0, 0, 0, 0, 0, 0]) jIM_218_25 rfl rfl rfl rfl ?_
  refine jT_eq (LN := [(4, (0, 1)), (3, (4, 16)), (0, (4, 0)), (1, (1, t))]) (stN := [(1, 0), (1, t), (0, 1), (4, 16)]) (hsN := jpM_171) rfl rfl rfl ?_
  refine jT_xlmul (x := t) (y := 0) (z := 0) (pcN := 27) jIM_218_26 rfl (by omega) rfl ?_
  refine jT_adv 1 (pcN := 28) (LN := [(4, (0, 1)), (3, (4, 16)), (0, (4, 0)), (1, (1, t))]) (stN := []) (hsN := jpM_171) (c1 := 0) (s1 := 0) (c2 := 0) (s2 := 0) (by exact rfl) ?_ (by omega) (by omega)
  refine jT_xiinc (x := 1) (z := 2) (LN := [(4, (0, 2)), (3, (4, 16)), (0, (4, 0)), (1, (1, t))]) (pcN := 31) jIM_218_28 rfl rfl (by decide) rfl rfl ?_
  refine jT_xgoto (pcN := 8) jIM_218_31 rfl ?_
  refine jT_xiload (v := (0, 2)) (pcN := 10) jIM_218_8 rfl rfl rfl ?_
  refine jT_xbipush (k := 6) (pcN := 12) jIM_218_10 (by decide) rfl ?_
  refine jT_xicF (t := 34) (pcN := 15) jIM_218_12 rfl (by decide +kernel) rfl rfl ?_
  refine jT_xaload_n (v := (4, 16)) (pcN := 16) jIM_218_15 rfl rfl rfl ?_
  refine jT_xiload (v := (0, 2)) (pcN := 18) jIM_218_16 rfl rfl rfl ?_
  refine jT_xlload_n (v := (1, t)) (pcN := 19) jIM_218_18 rfl rfl rfl ?_
  refine jT_xaload_n (v := (4, 0)) (pcN := 20) jIM_218_19 rfl rfl rfl ?_
  refine jT_xgetf (a := 0) (t := 1) (ci := 14) (fi := 9) (c := jzM_20) (v := (4, 7)) (pcN := 23) jIM_218_20 rfl rfl rfl rfl rfl rfl rfl ?_
  refine jT_xiload (v := (0, 2)) (pcN := 25) jIM_218_23 rfl rfl rfl ?_
  refine jT_lald (x := 0) (a := 7) (j := 2) (fs := []) (X := [0, 0, 0, 0, 0, 0]) jIM_218_25 rfl rfl rfl rfl ?_
  refine jT_eq (LN := [(4, (0, 2)), (3, (4, 16)), (0, (4, 0)), (1, (1, t))]) (stN := [(1, 0), (1, t), (0, 2), (4, 16)]) (hsN := jpM_171) rfl rfl rfl ?_
  refine jT_xlmul (x := t) (y := 0) (z := 0) (pcN := 27) jIM_218_26 rfl (by omega) rfl ?_
  refine jT_adv 1 (pcN := 28) (LN := [(4, (0, 2)), (3, (4, 16)), (0, (4, 0)), (1, (1, t))]) (stN := []) (hsN := jpM_171) (c1 := 0) (s1 := 0) (c2 := 0) (s2 := 0) (by exact rfl) ?_ (by omega) (by omega)
  refine jT_xiinc (x := 2) (z := 3) (LN := [(4, (0, 3)), (3, (4, 16)), (0, (4, 0)), (1, (1, t))]) (pcN := 31) jIM_218_28 rfl rfl (by decide) rfl rfl ?_
  refine jT_xgoto (pcN := 8) jIM_218_31 rfl ?_
  refine jT_xiload (v := (0, 3)) (pcN := 10) jIM_218_8 rfl rfl rfl ?_
  refine jT_xbipush (k := 6) (pcN := 12) jIM_218_10 (by decide) rfl ?_
  refine jT_xicF (t := 34) (pcN := 15) jIM_218_12 rfl (by decide +kernel) rfl rfl ?_
  refine jT_xaload_n (v := (4, 16)) (pcN := 16) jIM_218_15 rfl rfl rfl ?_
  refine jT_xiload (v := (0, 3)) (pcN := 18) jIM_218_16 rfl rfl rfl ?_
  refine jT_xlload_n (v := (1, t)) (pcN := 19) jIM_218_18 rfl rfl rfl ?_
  refine jT_xaload_n (v := (4, 0)) (pcN := 20) jIM_218_19 rfl rfl rfl ?_
  refine jT_xgetf (a := 0) (t := 1) (ci := 14) (fi := 9) (c := jzM_20) (v := (4, 7)) (pcN := 23) jIM_218_20 rfl rfl rfl rfl rfl rfl rfl ?_
  refine jT_xiload (v := (0, 3)) (pcN := 25) jIM_218_23 rfl rfl rfl ?_
  refine jT_lald (x := 0) (a := 7) (j := 3) (fs := []) (X := [0, 0, 0, 0, 0, 0]) jIM_218_25 rfl rfl rfl rfl ?_
  refine jT_eq (LN := [(4, (0, 3)), (3, (4, 16)), (0, (4, 0)), (1, (1, t))]) (stN := [(1, 0), (1, t), (0, 3), (4, 16)]) (hsN := jpM_171) rfl rfl rfl ?_
  refine jT_xlmul (x := t) (y := 0) (z := 0) (pcN := 27) jIM_218_26 rfl (by omega) rfl ?_
  refine jT_adv 1 (pcN := 28) (LN := [(4, (0, 3)), (3, (4, 16)), (0, (4, 0)), (1, (1, t))]) (stN := []) (hsN := jpM_171) (c1 := 0) (s1 := 0) (c2 := 0) (s2 := 0) (by exact rfl) ?_ (by omega) (by omega)
  refine jT_xiinc (x := 3) (z := 4) (LN := [(4, (0, 4)), (3, (4, 16)), (0, (4, 0)), (1, (1, t))]) (pcN := 31) jIM_218_28 rfl rfl (by decide) rfl rfl ?_
  refine jT_xgoto (pcN := 8) jIM_218_31 rfl ?_
  refine jT_xiload (v := (0, 4)) (pcN := 10) jIM_218_8 rfl rfl rfl ?_
  refine jT_xbipush (k := 6) (pcN := 12) jIM_218_10 (by decide) rfl ?_
  refine jT_xicF (t := 34) (pcN := 15) jIM_218_12 rfl (by decide +kernel) rfl rfl ?_
  refine jT_xaload_n (v := (4, 16)) (pcN := 16) jIM_218_15 rfl rfl rfl ?_
  refine jT_xiload (v := (0, 4)) (pcN := 18) jIM_218_16 rfl rfl rfl ?_
  refine jT_xlload_n (v := (1, t)) (pcN := 19) jIM_218_18 rfl rfl rfl ?_
  refine jT_xaload_n (v := (4, 0)) (pcN := 20) jIM_218_19 rfl rfl rfl ?_
  refine jT_xgetf (a := 0) (t := 1) (ci := 14) (fi := 9) (c := jzM_20) (v := (4, 7)) (pcN := 23) jIM_218_20 rfl rfl rfl rfl rfl rfl rfl ?_
  refine jT_xiload (v := (0, 4)) (pcN := 25) jIM_218_23 rfl rfl rfl ?_
  refine jT_lald (x := 0) (a := 7) (j := 4) (fs := []) (X := [0, 0, 0, 0, 0, 0]) jIM_218_25 rfl rfl rfl rfl ?_
  refine jT_eq (LN := [(4, (0, 4)), (3, (4, 16)), (0, (4, 0)), (1, (1, t))]) (stN := [(1, 0), (1, t), (0, 4), (4, 16)]) (hsN := jpM_171) rfl rfl rfl ?_
  refine jT_xlmul (x := t) (y := 0) (z := 0) (pcN := 27) jIM_218_26 rfl (by omega) rfl ?_
  refine jT_adv 1 (pcN := 28) (LN := [(4, (0, 4)), (3, (4, 16)), (0, (4, 0)), (1, (1, t))]) (stN := []) (hsN := jpM_171) (c1 := 0) (s1 := 0) (c2 := 0) (s2 := 0) (by exact rfl) ?_ (by omega) (by omega)
  refine jT_xiinc (x := 4) (z := 5) (LN := [(4, (0, 5)), (3, (4, 16)), (0, (4, 0)), (1, (1, t))]) (pcN := 31) jIM_218_28 rfl rfl (by decide) rfl rfl ?_
  refine jT_xgoto (pcN := 8) jIM_218_31 rfl ?_
  refine jT_xiload (v := (0, 5)) (pcN := 10) jIM_218_8 rfl rfl rfl ?_
  refine jT_xbipush (k := 6) (pcN := 12) jIM_218_10 (by decide) rfl ?_
  refine jT_xicF (t := 34) (pcN := 15) jIM_218_12 rfl (by decide +kernel) rfl rfl ?_
  refine jT_xaload_n (v := (4, 16)) (pcN := 16) jIM_218_15 rfl rfl rfl ?_
  refine jT_xiload (v := (0, 5)) (pcN := 18) jIM_218_16 rfl rfl rfl ?_
  refine jT_xlload_n (v := (1, t)) (pcN := 19) jIM_218_18 rfl rfl rfl ?_
  refine jT_xaload_n (v := (4, 0)) (pcN := 20) jIM_218_19 rfl rfl rfl ?_
  refine jT_xgetf (a := 0) (t := 1) (ci := 14) (fi := 9) (c := jzM_20) (v := (4, 7)) (pcN := 23) jIM_218_20 rfl rfl rfl rfl rfl rfl rfl ?_
  refine jT_xiload (v := (0, 5)) (pcN := 25) jIM_218_23 rfl rfl rfl ?_
  refine jT_lald (x := 0) (a := 7) (j := 5) (fs := []) (X := [0, 0, 0, 0, 0, 0]) jIM_218_25 rfl rfl rfl rfl ?_
  refine jT_eq (LN := [(4, (0, 5)), (3, (4, 16)), (0, (4, 0)), (1, (1, t))]) (stN := [(1, 0), (1, t), (0, 5), (4, 16)]) (hsN := jpM_171) rfl rfl rfl ?_
  refine jT_xlmul (x := t) (y := 0) (z := 0) (pcN := 27) jIM_218_26 rfl (by omega) rfl ?_
  refine jT_adv 1 (pcN := 28) (LN := [(4, (0, 5)), (3, (4, 16)), (0, (4, 0)), (1, (1, t))]) (stN := []) (hsN := jpM_171) (c1 := 0) (s1 := 0) (c2 := 0) (s2 := 0) (by exact rfl) ?_ (by omega) (by omega)
  refine jT_xiinc (x := 5) (z := 6) (LN := [(4, (0, 6)), (3, (4, 16)), (0, (4, 0)), (1, (1, t))]) (pcN := 31) jIM_218_28 rfl rfl (by decide) rfl rfl ?_
  refine jT_xgoto (pcN := 8) jIM_218_31 rfl ?_
  refine jT_xiload (v := (0, 6)) (pcN := 10) jIM_218_8 rfl rfl rfl ?_
  refine jT_xbipush (k := 6) (pcN := 12) jIM_218_10 (by decide) rfl ?_
  refine jT_xicT (pcN := 34) jIM_218_12 rfl (by decide +kernel) rfl ?_
  refine jT_xaload_n (v := (4, 16)) (pcN := 35) jIM_218_34 rfl rfl rfl ?_
  exact jT_ret rfl (by decide) (by show 16 ≤ 17; omega) (by omega) (by omega) ⟨rfl, rfl, rfl⟩
theorem jM_200_66 {xs : List Int} {d : Nat} : jT xs d 200 1 0 [(0, (4, 0))] [] [(101, [], [0, 0, 0, 0, 0, 0])] 0 0 (fun k v hsN => k = 0 ∧ v = (0, 1) ∧ hsN = [(101, [], [0, 0, 0, 0, 0, 0])] ++ []) := by
  refine jT_advK 72 (pcN := 25) (LN := [(1, (0, 6)), (0, (4, 0))]) (stN := [(0, 1)]) (hsN := [(101, [], [0, 0, 0, 0, 0, 0])]) (c1 := 0) (s1 := 0) (c2 := 0) (s2 := 0) (by decide +kernel) ?_ (by omega) (by omega)
  exact jT_ret rfl (by decide) (by show 1 ≤ 1; omega) (by omega) (by omega) ⟨rfl, rfl, rfl⟩
theorem jM_213_67 {xs : List Int} {d : Nat} : jT xs (d + 1) 213 2 0 [(0, (4, 0)), (1, (4, 1))] [] [jgh, (101, [], [0, 0, 0, 0, 0, 0])] 0 0 (fun k v hsN => k = 0 ∧ v = (0, 0) ∧ hsN = [jgh, (101, [], [0, 0, 0, 0, 0, 0])] ++ []) := by
  refine jT_advK 1 (pcN := 1) (LN := [(0, (4, 0)), (1, (4, 1))]) (stN := [(4, 1)]) (hsN := [jgh, (101, [], [0, 0, 0, 0, 0, 0])]) (c1 := 0) (s1 := 0) (c2 := 0) (s2 := 0) (by decide +kernel) ?_ (by omega) (by omega)
  refine jT_fR [1] 2 (y := 200) (pcN := 4) (dC := 0) (bc1 := 0) (bc2 := 0) (c1 := 0) (c2 := 0) (as := [(4, 1)]) (asC := [(4, 0)]) (LN := [(0, (4, 0)), (1, (4, 1))]) (stN := []) (hsC := [(101, [], [0, 0, 0, 0, 0, 0])]) (v := (0, 1)) (st2 := [(0, 1)]) (jM_200_66 (d := 0)) (by rfl) (by rfl) (by decide +kernel) (by rfl) (by rfl) (by omega) (by omega) (by omega) (by omega) rfl ?_
  refine jT_advK 3 (pcN := 18) (LN := [(0, (4, 0)), (1, (4, 1))]) (stN := [(0, 0)]) (hsN := [jgh, (101, [], [0, 0, 0, 0, 0, 0])]) (c1 := 0) (s1 := 0) (c2 := 0) (s2 := 0) (by decide +kernel) ?_ (by omega) (by omega)
  exact jT_ret rfl (by decide) (by show 2 ≤ 2; omega) (by omega) (by omega) ⟨rfl, rfl, rfl⟩
def jzM_266 : JC := (14, [(0, 0), (4, 3), (4, 4), (4, 5), (4, 6), (0, 0), (4, 7), (0, 0), (4, 8), (4, 9), (1, 1), (4, 10), (0, 0), (4, 11), (0, 0), (0, 0), (0, 0), (0, 0), (0, 0), (0, 0), (0, 0), (4, 12), (4, 13), (4, 14), (4, 15), (4, 16), (4, 17), (0, 0)], [])
def jpM_267 : List JC := [jzM_266, (101, [], [0, 0, 0, 0, 0, 0]), (101, [], [0, 0, 0, 0, 0, 0]), jgh, jgh, jgh, jgh, jgh, jgh, jgh, jgh, jgh, jgh, jgh, jgh, jgh, jgh, jgh]
def jpM_268 : List JC := [jzM_266, (101, [], [0, 0, 0, 0, 0, 0]), (101, [], [0, 0, 0, 0, 0, 0]), jgh, jgh, jgh, jgh, jgh, jgh, jgh, jgh, jgh, jgh, jgh, jgh, jgh, jgh, jgh, (101, [], [0, 0, 0, 0, 0, 0])]
theorem jM_288_68 {xs : List Int} {d : Nat} : jT xs (d + 2) 288 18 0 [(0, (4, 0)), (1, (4, 1)), (2, (4, 2))] [] jpM_267 1 6 (fun k v hsN => k = 0 ∧ v = (0, 0) ∧ hsN = jpM_267 ++ [(101, [], [0, 0, 0, 0, 0, 0])]) := by
  refine jT_advK 2 (pcN := 2) (LN := [(0, (4, 0)), (1, (4, 1)), (2, (4, 2))]) (stN := [(4, 1), (4, 0)]) (hsN := jpM_267) (c1 := 0) (s1 := 0) (c2 := 1) (s2 := 6) (by decide +kernel) ?_ (by omega) (by omega)
  refine jT_fR [0, 1] 18 (y := 213) (pcN := 5) (dC := 1) (bc1 := 0) (bc2 := 0) (c1 := 1) (c2 := 6) (as := [(4, 0), (4, 1)]) (asC := [(4, 0), (4, 1)]) (LN := [(0, (4, 0)), (1, (4, 1)), (2, (4, 2))]) (stN := []) (hsC := [jgh, (101, [], [0, 0, 0, 0, 0, 0])]) (v := (0, 0)) (st2 := [(0, 0)]) (jM_213_67 (d := 0)) (by rfl) (by rfl) (by decide +kernel) (by rfl) (by rfl) (by omega) (by omega) (by omega) (by omega) rfl ?_
  refine jT_advK 5 (pcN := 18) (LN := [(3, (1, 1)), (0, (4, 0)), (1, (4, 1)), (2, (4, 2))]) (stN := [(4, 2), (4, 0)]) (hsN := jpM_267) (c1 := 0) (s1 := 0) (c2 := 1) (s2 := 6) (by decide +kernel) ?_ (by omega) (by omega)
  refine jT_fR [0, 2] 18 (y := 213) (pcN := 21) (dC := 1) (bc1 := 0) (bc2 := 0) (c1 := 1) (c2 := 6) (as := [(4, 0), (4, 2)]) (asC := [(4, 0), (4, 1)]) (LN := [(3, (1, 1)), (0, (4, 0)), (1, (4, 1)), (2, (4, 2))]) (stN := []) (hsC := [jgh, (101, [], [0, 0, 0, 0, 0, 0])]) (v := (0, 0)) (st2 := [(0, 0)]) (jM_213_67 (d := 0)) (by rfl) (by rfl) (by decide +kernel) (by rfl) (by rfl) (by omega) (by omega) (by omega) (by omega) rfl ?_
  refine jT_advK 127 (pcN := 77) (LN := [(8, (0, 6)), (7, (4, 18)), (5, (1, 1)), (3, (1, 1)), (0, (4, 0)), (1, (4, 1)), (2, (4, 2))]) (stN := [(4, 18), (4, 0)]) (hsN := jpM_268) (c1 := 1) (s1 := 6) (c2 := 0) (s2 := 0) (by decide +kernel) ?_ (by omega) (by omega)
  refine jT_fR [0, 18] 19 (y := 213) (pcN := 80) (dC := 1) (bc1 := 0) (bc2 := 0) (c1 := 0) (c2 := 0) (as := [(4, 0), (4, 18)]) (asC := [(4, 0), (4, 1)]) (LN := [(8, (0, 6)), (7, (4, 18)), (5, (1, 1)), (3, (1, 1)), (0, (4, 0)), (1, (4, 1)), (2, (4, 2))]) (stN := []) (hsC := [jgh, (101, [], [0, 0, 0, 0, 0, 0])]) (v := (0, 0)) (st2 := [(0, 0)]) (jM_213_67 (d := 0)) (by rfl) (by rfl) (by decide +kernel) (by rfl) (by rfl) (by omega) (by omega) (by omega) (by omega) rfl ?_
  exact jT_ret rfl (by decide) (by show 18 ≤ 19; omega) (by omega) (by omega) ⟨rfl, rfl, rfl⟩
def jzM_269 : JC := (14, [(0, 3), (4, 1), (4, 2), (4, 3), (4, 4), (0, 0), (4, 5), (0, 0), (4, 6), (4, 7), (1, 1), (4, 8), (0, 0), (4, 9), (0, 0), (0, 0), (0, 0), (0, 0), (0, 0), (0, 0), (0, 0), (4, 10), (4, 11), (4, 12), (4, 13), (4, 14), (4, 15), (0, 0)], [])
def jpM_270 : List JC := [jzM_269, jgh, jgh, jgh, jgh, jgh, jgh, jgh, jgh, jgh, jgh, jgh, jgh, jgh, jgh, jgh]
theorem jM_191_69 {xs : List Int} {d : Nat} : jT xs d 191 16 0 [(0, (4, 0)), (1, (0, 0)), (2, (0, 3))] [] jpM_21 0 0 (fun k v hsN => k = 0 ∧ v = (0, 1) ∧ hsN = jpM_270) := by
  refine jT_advK 9 (pcN := 18) (LN := [(0, (4, 0)), (1, (0, 0)), (2, (0, 3))]) (stN := [(0, 1)]) (hsN := jpM_270) (c1 := 0) (s1 := 0) (c2 := 0) (s2 := 0) (by decide +kernel) ?_ (by omega) (by omega)
  exact jT_ret rfl (by decide) (by show 16 ≤ 16; omega) (by omega) (by omega) ⟨rfl, rfl, rfl⟩
theorem jIM_287_124 : jmI (jm 287) 124 = (.iinc 5 (-1), 3) := by rfl
theorem jIM_287_127 : jmI (jm 287) 127 = (.aload 7, 2) := by rfl
theorem jIM_287_129 : jmI (jm 287) 129 = (.astore 4, 2) := by rfl
theorem jIM_287_131 : jmI (jm 287) 131 = (.iinc 6 1, 3) := by rfl
theorem jIM_287_134 : jmI (jm 287) 134 = (.goto (-75), 3) := by rfl
def jpM_276 : List JC := [jzM_20, (100, [], jS0), jgh, jgh, jgh, jgh, (130, [], [16, 17, 18, 19, 20, 21]), (101, [], [0, 0, 0, 0, 0, 0]), jgh, jgh, jgh, jgh, jgh, jgh, jgh, jgh, (100, [], (jenc (jlg 0))), jgh, jgh, jgh, jgh, jgh, (101, [], [0, 0, 0, 0, 0, 0]), (101, [], [0, 0, 0, 0, 0, 0]), (101, [], [1, 0, 0, 0, 0, 0]), (101, [], [1, 0, 0, 0, 0, 0]), (100, [], (jenc 0)), (100, [], (jenc 1)), (100, [], (jenc (1 * (jlg 0)))), (101, [], [(-1), 0, 0, 0, 0, 0]), (100, [], (jenc 0)), (100, [], (jenc (-1))), (100, [], (jenc ((-1) * (jlg 0)))), (101, [], [0, 0, 0, 0, 0, 0])]
def jpM_277 : List JC := [jzM_20, (100, [], jS0), jgh, jgh, jgh, jgh, (130, [], [16, 17, 18, 19, 20, 21]), (101, [], [0, 0, 0, 0, 0, 0]), jgh, jgh, jgh, jgh, jgh, jgh, jgh, jgh, (100, [], (jenc (jlg 0))), jgh, jgh, jgh, jgh, jgh, (101, [], [0, 0, 0, 0, 0, 0]), (101, [], [0, 0, 0, 0, 0, 0]), (101, [], [1, 0, 0, 0, 0, 0]), (101, [], [1, 0, 0, 0, 0, 0]), (100, [], (jenc 0)), (100, [], (jenc 1)), (100, [], (jenc (1 * (jlg 0)))), (101, [], [(-1), 0, 0, 0, 0, 0]), (100, [], (jenc 0)), (100, [], (jenc (-1))), (100, [], (jenc ((-1) * (jlg 0)))), (101, [], [0, 0, 0, 0, 0, 0]), (101, [], [1, 0, 0, 0, 0, 0]), (101, [], [1, 0, 0, 0, 0, 0]), (100, [], (jenc 0)), (100, [], (jenc 1)), (100, [], (jenc (1 * (jlg 0)))), (101, [], [(-1), 0, 0, 0, 0, 0]), (100, [], (jenc 0)), (100, [], (jenc (-1))), (100, [], (jenc ((-1) * (jlg 0))))]
def jpM_278 : List JC := [jzM_20, (100, [], jS0), jgh, jgh, jgh, jgh, (130, [], [16, 17, 18, 19, 20, 21]), (101, [], [0, 0, 0, 0, 0, 0]), jgh, jgh, jgh, jgh, jgh, jgh, jgh, jgh, (100, [], (jenc (jlg 0))), jgh, jgh, jgh, jgh, jgh, (101, [], [0, 0, 0, 0, 0, 0]), (101, [], [0, 0, 0, 0, 0, 0]), (101, [], [1, 0, 0, 0, 0, 0]), (101, [], [1, 0, 0, 0, 0, 0]), (100, [], (jenc 0)), (100, [], (jenc 1)), (100, [], (jenc (1 * (jlg 0)))), (101, [], [(-1), 0, 0, 0, 0, 0]), (100, [], (jenc 0)), (100, [], (jenc (-1))), (100, [], (jenc ((-1) * (jlg 0)))), (101, [], [0, 0, 0, 0, 0, 0]), (101, [], [1, 0, 0, 0, 0, 0]), (101, [], [1, 0, 0, 0, 0, 0]), (100, [], (jenc 0)), (100, [], (jenc 1)), (100, [], (jenc (1 * (jlg 0)))), (101, [], [(-1), 0, 0, 0, 0, 0]), (100, [], (jenc 0)), (100, [], (jenc (-1))), (100, [], (jenc ((-1) * (jlg 0)))), (101, [], [0, 0, 0, 0, 0, 0])]
theorem jIM_287_102 : jmI (jm 287) 102 = (.aload_n 0, 1) := by rfl
theorem jIM_287_103 : jmI (jm 287) 103 = (.aload 7, 2) := by rfl
theorem jIM_287_105 : jmI (jm 287) 105 = (.aload 4, 2) := by rfl
theorem jIM_287_110 : jmI (jm 287) 110 = (.ifCond .lt 6, 3) := by rfl
theorem jIM_287_113 : jmI (jm 287) 113 = (.goto 18, 3) := by rfl
def jpM_284 : List JC := [(101, [], [0, 0, 0, 0, 0, 0]), (101, [], [1, 0, 0, 0, 0, 0]), (101, [], [1, 0, 0, 0, 0, 0]), (100, [], (jenc 0)), (100, [], (jenc 1)), (100, [], (jenc (1 * (jlg 0)))), (101, [], [(-1), 0, 0, 0, 0, 0]), (100, [], (jenc 0)), (100, [], (jenc (-1))), (100, [], (jenc ((-1) * (jlg 0)))), (101, [], [0, 0, 0, 0, 0, 0])]
theorem jMl_gc_70 {xs : List Int} {d b1 b2 : Nat} {Q : Nat → JV → List JC → Prop} (hd : 7 < d) {z3 y5 : Int} (h_z3 : 1 ≤ z3 ∧ z3 ≤ 2000) (h_y5 : 0 ≤ y5 ∧ y5 ≤ 2147483647) (h : jT xs d 287 22 137 [(0, (4, 0))] [] [jzM_20, (100, [], jS0), jgh, jgh, jgh, jgh, (130, [], [16, 17, 18, 19, 20, 21]), (101, [], [0, 0, 0, 0, 0, 0]), jgh, jgh, jgh, jgh, jgh, jgh, jgh, jgh, (100, [], (jenc (jlg 0))), jgh, jgh, jgh, jgh, jgh, (101, [], [0, 0, 0, 0, 0, 0]), (101, [], [0, 0, 0, 0, 0, 0]), (101, [], [1, 0, 0, 0, 0, 0]), (101, [], [1, 0, 0, 0, 0, 0]), (100, [], (jenc 0)), (100, [], (jenc 1)), (100, [], (jenc (1 * (jlg 0)))), (101, [], [(-1), 0, 0, 0, 0, 0]), (100, [], (jenc 0)), (100, [], (jenc (-1))), (100, [], (jenc ((-1) * (jlg 0))))] b1 b2 Q) : ∀ (q : Nat) (t : Int), 2 ≤ t → t + (q : Int) = z3 + 1 → jT xs d 287 22 59 [(6, (0, t)), (5, (0, y5)), (4, (4, 23)), (0, (4, 0)), (3, (0, z3))] [] [jzM_20, (100, [], jS0), jgh, jgh, jgh, jgh, (130, [], [16, 17, 18, 19, 20, 21]), (101, [], [0, 0, 0, 0, 0, 0]), jgh, jgh, jgh, jgh, jgh, jgh, jgh, jgh, (100, [], (jenc (jlg 0))), jgh, jgh, jgh, jgh, jgh, (101, [], [0, 0, 0, 0, 0, 0]), (101, [], [0, 0, 0, 0, 0, 0]), (101, [], [1, 0, 0, 0, 0, 0]), (101, [], [1, 0, 0, 0, 0, 0]), (100, [], (jenc 0)), (100, [], (jenc 1)), (100, [], (jenc (1 * (jlg 0)))), (101, [], [(-1), 0, 0, 0, 0, 0]), (100, [], (jenc 0)), (100, [], (jenc (-1))), (100, [], (jenc ((-1) * (jlg 0))))] (b1 + 11 * q) (b2 + 366 * q) Q := by
  intro q
  induction q with
  | zero =>
    intro t h0 ht
    have e : t = z3 + 1 := by omega
    subst t
    refine jT.mono (b1 := b1) (b2 := b2) ?_ (Nat.le_refl _) (by omega) (by omega) (fun _ _ _ z => z)
    refine jT_xiload (v := (0, z3 + 1)) (pcN := 61) jIM_287_59 rfl rfl rfl ?_
    refine jT_xiload_n (v := (0, z3)) (pcN := 62) jIM_287_61 rfl rfl rfl ?_
    refine jT_icT (a := z3 + 1) (b := z3) (t := 137) (by rfl) (by rfl) (by rfl) (jw_idd (by omega) (by omega)) (jw_idd (by omega) (by omega)) (by simp only [jcP] <;> omega) ?_
    refine jT_loc (LN := [(0, (4, 0))]) (by show List.Nodup [0]; decide) (by intro q hq; simp only [List.mem_cons, List.not_mem_nil, or_false] at hq; rcases hq with rfl <;> rfl) ?_
    exact h
  | succ q ih =>
    intro t h0 ht
    have h_t : 2 ≤ t ∧ t ≤ 2000 := by omega
    have g_0 : t - z3 ≤ 0 := by omega
    refine jT.mono (b1 := b1 + 11 * q + 11) (b2 := b2 + 366 * q + 366) ?_ (Nat.le_refl _) (by omega) (by omega) (fun _ _ _ z => z)
    refine jT_xiload (v := (0, t)) (pcN := 61) jIM_287_59 rfl rfl rfl ?_
    refine jT_xiload_n (v := (0, z3)) (pcN := 62) jIM_287_61 rfl rfl rfl ?_
    refine jT_icF (a := t) (b := z3) (t := 137) (by rfl) (by rfl) (by rfl) (jw_idd (by omega) (by omega)) (jw_idd (by omega) (by omega)) (by simp only [jcP] <;> omega) ?_
    refine jT_xaload_n (v := (4, 0)) (pcN := 66) jIM_287_65 rfl rfl rfl ?_
    refine jT_xiload (v := (0, t)) (pcN := 68) jIM_287_66 rfl rfl rfl ?_
    refine jT_xi2l (x := t) (z := t) (pcN := 69) jIM_287_68 rfl (jw_idd (by omega) (by omega)) rfl ?_
    refine jT_fA [0, 1, 2, 3, 4, 5, 6, 7, 8, 9, 10, 11, 12, 13, 14, 15] 33 (y := 218) (pcN := 72) (dC := 0) (bc1 := 1) (bc2 := 6) (c1 := (b1 + 11 * q + 10)) (c2 := (b2 + 366 * q + 360)) (as := [(4, 0), (1, t)]) (asC := [(4, 0), (1, t)]) (LN := [(6, (0, t)), (5, (0, y5)), (4, (4, 23)), (0, (4, 0)), (3, (0, z3))]) (stN := []) (hsC := jpM_172) (ex := [(101, [], [0, 0, 0, 0, 0, 0])]) (v := (4, 16)) (st2 := [(4, 33)]) (hs2 := jpM_276) (jM_218_65 (d := 0) (by omega)) (by rfl) (by rfl) (by decide +kernel) (by rfl) (by rfl) (by omega) (by omega) (by omega) (by omega) rfl (by decide +kernel) ?_
    refine jT_xastore (v := (4, 33)) (LN := [(7, (4, 33)), (6, (0, t)), (5, (0, y5)), (4, (4, 23)), (0, (4, 0)), (3, (0, z3))]) (pcN := 74) jIM_287_72 rfl rfl rfl rfl ?_
    refine jT_xaload (v := (4, 33)) (pcN := 76) jIM_287_74 rfl rfl rfl ?_
    refine jT_xiconst (k := 0) (pcN := 77) jIM_287_76 rfl ?_
    refine jT_adv 1 (pcN := 78) (LN := [(7, (4, 33)), (6, (0, t)), (5, (0, y5)), (4, (4, 23)), (0, (4, 0)), (3, (0, z3))]) (stN := [(0, 0), (4, 33), (0, 0), (4, 33)]) (hsN := jpM_276) (c1 := 0) (s1 := 0) (c2 := (b1 + 11 * q + 10)) (s2 := (b2 + 366 * q + 360)) (by exact rfl) ?_ (by omega) (by omega)
    refine jT_lald (x := 0) (a := 33) (j := 0) (fs := []) (X := [0, 0, 0, 0, 0, 0]) jIM_287_78 rfl rfl rfl rfl ?_
    refine jT_eq (LN := [(7, (4, 33)), (6, (0, t)), (5, (0, y5)), (4, (4, 23)), (0, (4, 0)), (3, (0, z3))]) (stN := [(1, 0), (0, 0), (4, 33)]) (hsN := jpM_276) rfl rfl rfl ?_
    refine jT_xaload_n (v := (4, 0)) (pcN := 80) jIM_287_79 rfl rfl rfl ?_
    refine jT_xaload (v := (4, 33)) (pcN := 82) jIM_287_80 rfl rfl rfl ?_
    refine jT_xaload_n (v := (4, 0)) (pcN := 83) jIM_287_82 rfl rfl rfl ?_
    refine jT_xgetf (a := 0) (t := 1) (ci := 14) (fi := 10) (c := jzM_20) (v := (1, 1)) (pcN := 86) jIM_287_83 rfl rfl rfl rfl rfl rfl rfl ?_
    refine jT_fA [0, 33, 1, 2, 3, 4, 5, 6, 7, 8, 9, 10, 11, 12, 13, 14, 15, 16, 17, 18, 19, 20, 21] 34 (y := 216) (pcN := 89) (dC := 6) (bc1 := 9) (bc2 := 354) (c1 := (b1 + 11 * q + 1)) (c2 := (b2 + 366 * q + 6)) (as := [(4, 0), (4, 33), (1, 1)]) (asC := [(4, 0), (4, 1), (1, 1)]) (LN := [(7, (4, 33)), (6, (0, t)), (5, (0, y5)), (4, (4, 23)), (0, (4, 0)), (3, (0, z3))]) (stN := [(1, 0), (0, 0), (4, 33)]) (hsC := jpM_195) (ex := jpM_196) (v := (1, 0)) (st2 := [(1, 0), (1, 0), (0, 0), (4, 33)]) (hs2 := jpM_277) (jM_216_57 (d := 0)) (by rfl) (by rfl) (by decide +kernel) (by rfl) (by rfl) (by omega) (by omega) (by omega) (by omega) rfl (by decide +kernel) ?_
    refine jT_xaload_n (v := (4, 0)) (pcN := 90) jIM_287_89 rfl rfl rfl ?_
    refine jT_xgetf (a := 0) (t := 1) (ci := 14) (fi := 10) (c := jzM_20) (v := (1, 1)) (pcN := 93) jIM_287_90 rfl rfl rfl rfl rfl rfl rfl ?_
    refine jT_xlmul (x := 0) (y := 1) (z := 0) (pcN := 94) jIM_287_93 rfl (by decide) rfl ?_
    refine jT_xlsub (x := 0) (y := 0) (z := 0) (pcN := 95) jIM_287_94 rfl (by decide) rfl ?_
    refine jT_adv 1 (pcN := 96) (LN := [(7, (4, 33)), (6, (0, t)), (5, (0, y5)), (4, (4, 23)), (0, (4, 0)), (3, (0, z3))]) (stN := []) (hsN := jpM_277) (c1 := 0) (s1 := 0) (c2 := (b1 + 11 * q + 1)) (s2 := (b2 + 366 * q + 6)) (by exact rfl) ?_ (by omega) (by omega)
    refine jT_xiload (v := (0, t)) (pcN := 98) jIM_287_96 rfl rfl rfl ?_
    refine jT_xiconst (k := 1) (pcN := 99) jIM_287_98 rfl ?_
    refine jT_icF (a := t) (b := 1) (t := 116) (by rfl) (by rfl) (by rfl) (jw_idd (by omega) (by omega)) (jw_idd (by omega) (by omega)) (by simp only [jcP] <;> omega) ?_
    refine jT_xaload_n (v := (4, 0)) (pcN := 103) jIM_287_102 rfl rfl rfl ?_
    refine jT_xaload (v := (4, 33)) (pcN := 105) jIM_287_103 rfl rfl rfl ?_
    refine jT_xaload (v := (4, 23)) (pcN := 107) jIM_287_105 rfl rfl rfl ?_
    refine jT_fA [0, 33, 23, 1, 2, 3, 4, 5, 6, 7, 8, 9, 10, 11, 12, 13, 14, 15] 43 (y := 288) (pcN := 110) (dC := 2) (bc1 := 1) (bc2 := 6) (c1 := (b1 + 11 * q + 0)) (c2 := (b2 + 366 * q + 0)) (as := [(4, 0), (4, 33), (4, 23)]) (asC := [(4, 0), (4, 1), (4, 2)]) (LN := [(7, (4, 33)), (6, (0, t)), (5, (0, y5)), (4, (4, 23)), (0, (4, 0)), (3, (0, z3))]) (stN := []) (hsC := jpM_267) (ex := [(101, [], [0, 0, 0, 0, 0, 0])]) (v := (0, 0)) (st2 := [(0, 0)]) (hs2 := jpM_278) (jM_288_68 (d := 0)) (by rfl) (by rfl) (by decide +kernel) (by rfl) (by rfl) (by omega) (by omega) (by omega) (by omega) rfl (by decide +kernel) ?_
    refine jT_xifF (t := 116) (pcN := 113) jIM_287_110 rfl (by decide +kernel) rfl rfl ?_
    refine jT_xgoto (pcN := 131) jIM_287_113 rfl ?_
    refine jT_xiinc (x := t) (z := t + 1) (LN := [(6, (0, t + 1)), (7, (4, 33)), (5, (0, y5)), (4, (4, 23)), (0, (4, 0)), (3, (0, z3))]) (pcN := 134) jIM_287_131 rfl rfl (rfl) rfl rfl ?_
    refine jT_xgoto (pcN := 59) jIM_287_134 rfl ?_
    refine jT_loc (LN := [(6, (0, t + 1)), (5, (0, y5)), (4, (4, 23)), (0, (4, 0)), (3, (0, z3))]) (by show List.Nodup [6, 5, 4, 0, 3]; decide) (by intro q hq; simp only [List.mem_cons, List.not_mem_nil, or_false] at hq; rcases hq with rfl | rfl | rfl | rfl | rfl <;> rfl) ?_
    refine jT_drop 33 (hs0 := jpM_224) (ex := jpM_284) rfl rfl rfl (by decide) ?_
    exact ih (t + 1) (by omega) (by omega)
def jpM_285 : List JC := [jzM_269, (100, [], jS0), jgh, jgh, jgh, jgh, (130, [], [16, 17, 18, 19, 20, 21]), (101, [], [0, 0, 0, 0, 0, 0]), jgh, jgh, jgh, jgh, jgh, jgh, jgh, jgh, (100, [], (jenc (jlg 0))), jgh, jgh, jgh, jgh, jgh, (101, [], [0, 0, 0, 0, 0, 0]), (101, [], [0, 0, 0, 0, 0, 0]), (101, [], [1, 0, 0, 0, 0, 0]), (101, [], [1, 0, 0, 0, 0, 0]), (100, [], (jenc 0)), (100, [], (jenc 1)), (100, [], (jenc (1 * (jlg 0)))), (101, [], [(-1), 0, 0, 0, 0, 0]), (100, [], (jenc 0)), (100, [], (jenc (-1))), (100, [], (jenc ((-1) * (jlg 0))))]
theorem jM_287_71 {xs : List Int} {d : Nat} {x1 x2 x3 : Int} (h_x1 : 0 ≤ x1 ∧ x1 ≤ 7) (h_x2 : 1 ≤ x2 ∧ x2 ≤ 2147483647) (h_x3 : 1 ≤ x3 ∧ x3 ≤ 2000) : jT xs (d + 8) 287 22 0 [(0, (4, 0)), (1, (0, x1)), (2, (0, x2)), (3, (0, x3))] [] jpM_197 22000 732000 (fun k v hsN => k = 0 ∧ v = (0, 0) ∧ hsN = jpM_285) := by
  refine jT_xaload_n (v := (4, 0)) (pcN := 1) jIM_287_0 rfl rfl rfl ?_
  refine jT_xiload_n (v := (0, x1)) (pcN := 2) jIM_287_1 rfl rfl rfl ?_
  refine jT_fR [] 22 (y := 188) (pcN := 5) (dC := 1) (bc1 := 0) (bc2 := 0) (c1 := 22000) (c2 := 732000) (as := [(0, x1)]) (asC := [(0, x1)]) (LN := [(0, (4, 0)), (1, (0, x1)), (2, (0, x2)), (3, (0, x3))]) (stN := [(4, 0)]) (hsC := []) (v := (0, 1)) (st2 := [(0, 1), (4, 0)]) (jM_188_12 (d := 0) (by omega)) (by rfl) (by rfl) (by decide +kernel) (by rfl) (by rfl) (by omega) (by omega) (by omega) (by omega) rfl ?_
  refine jT_fR [0, 1, 2, 3, 4, 5, 6, 7, 8, 9, 10, 11, 12, 13, 14, 15] 22 (y := 190) (pcN := 8) (dC := 1) (bc1 := 0) (bc2 := 0) (c1 := 22000) (c2 := 732000) (as := [(4, 0), (0, 1)]) (asC := [(4, 0), (0, 1)]) (LN := [(0, (4, 0)), (1, (0, x1)), (2, (0, x2)), (3, (0, x3))]) (stN := []) (hsC := jpM_21) (v := (0, 0)) (st2 := [(0, 0)]) (jM_190_14 (d := 0)) (by rfl) (by rfl) (by decide +kernel) (by rfl) (by rfl) (by omega) (by omega) (by omega) (by omega) rfl ?_
  refine jT_xifF (t := 40) (pcN := 11) jIM_287_8 rfl (by decide +kernel) rfl rfl ?_
  refine jT_xaload_n (v := (4, 0)) (pcN := 12) jIM_287_11 rfl rfl rfl ?_
  refine jT_xiload_n (v := (0, x2)) (pcN := 13) jIM_287_12 rfl rfl rfl ?_
  refine jT_ifF (a := x2) (t := 32) (by rfl) (by rfl) (by rfl) (jw_idd (by omega) (by omega)) (by simp only [jcP] <;> omega) ?_
  refine jT_xiload_n (v := (0, x3)) (pcN := 17) jIM_287_16 rfl rfl rfl ?_
  refine jT_xi2l (x := x3) (z := x3) (pcN := 18) jIM_287_17 rfl (jw_idd (by omega) (by omega)) rfl ?_
  refine jT_xlconst (z := 1) (pcN := 19) jIM_287_18 rfl rfl ?_
  refine jT_adv 1 (pcN := 22) (LN := [(0, (4, 0)), (1, (0, x1)), (2, (0, x2)), (3, (0, x3))]) (stN := [(1, 2000), (1, 1), (1, x3), (4, 0)]) (hsN := jpM_197) (c1 := 0) (s1 := 0) (c2 := 22000) (s2 := 732000) (by exact rfl) ?_ (by omega) (by omega)
  refine jT_fR [] 22 (y := 189) (pcN := 25) (dC := 0) (bc1 := 0) (bc2 := 0) (c1 := 22000) (c2 := 732000) (as := [(1, x3), (1, 1), (1, 2000)]) (asC := [(1, x3), (1, 1), (1, 2000)]) (LN := [(0, (4, 0)), (1, (0, x1)), (2, (0, x2)), (3, (0, x3))]) (stN := [(4, 0)]) (hsC := []) (v := (0, 1)) (st2 := [(0, 1), (4, 0)]) (jT_in_ok (d := 0) (v := x3) (lo := 1) (hi := 2000) (by omega) (by omega) (by omega) (by omega) (by omega)) (by rfl) (by rfl) (by decide +kernel) (by rfl) (by rfl) (by omega) (by omega) (by omega) (by omega) rfl ?_
  refine jT_xifF (t := 32) (pcN := 28) jIM_287_25 rfl (by decide +kernel) rfl rfl ?_
  refine jT_xiconst (k := 1) (pcN := 29) jIM_287_28 rfl ?_
  refine jT_xgoto (pcN := 33) jIM_287_29 rfl ?_
  refine jT_xiconst (k := 2) (pcN := 34) jIM_287_33 rfl ?_
  refine jT_fR [0] 22 (y := 191) (pcN := 37) (dC := 0) (bc1 := 0) (bc2 := 0) (c1 := 22000) (c2 := 732000) (as := [(4, 0), (0, 1), (0, 2)]) (asC := [(4, 0), (0, 1), (0, 2)]) (LN := [(0, (4, 0)), (1, (0, x1)), (2, (0, x2)), (3, (0, x3))]) (stN := []) (hsC := [jgh]) (v := (0, 0)) (st2 := [(0, 0)]) (jM_191_43 (d := 0)) (by rfl) (by rfl) (by decide +kernel) (by rfl) (by rfl) (by omega) (by omega) (by omega) (by omega) rfl ?_
  refine jT_xifT (pcN := 42) jIM_287_37 rfl (by decide +kernel) rfl ?_
  refine jT_xaload_n (v := (4, 0)) (pcN := 43) jIM_287_42 rfl rfl rfl ?_
  refine jT_xiload_n (v := (0, x1)) (pcN := 44) jIM_287_43 rfl rfl rfl ?_
  refine jT_fR [0, 1, 2, 3, 4, 5, 6, 7, 8, 9, 10, 11, 12, 13, 14, 15] 22 (y := 202) (pcN := 47) (dC := 1) (bc1 := 0) (bc2 := 0) (c1 := 22000) (c2 := 732000) (as := [(4, 0), (0, x1)]) (asC := [(4, 0), (0, x1)]) (LN := [(0, (4, 0)), (1, (0, x1)), (2, (0, x2)), (3, (0, x3))]) (stN := []) (hsC := jpM_154) (v := (9, 0)) (st2 := []) (jM_202_45 (d := 0) (by omega)) (by rfl) (by rfl) (by decide +kernel) (by rfl) (by rfl) (by omega) (by omega) (by omega) (by omega) rfl ?_
  refine jT_xbipush (k := 6) (pcN := 49) jIM_287_47 (by decide) rfl ?_
  refine jT_adv 1 (pcN := 51) (LN := [(0, (4, 0)), (1, (0, x1)), (2, (0, x2)), (3, (0, x3))]) (stN := [(4, 22)]) (hsN := jpM_203) (c1 := 1) (s1 := 6) (c2 := 21999) (s2 := 731994) (by exact rfl) ?_ (by omega) (by omega)
  refine jT_xastore (v := (4, 22)) (LN := [(4, (4, 22)), (0, (4, 0)), (1, (0, x1)), (2, (0, x2)), (3, (0, x3))]) (pcN := 53) jIM_287_51 rfl rfl rfl rfl ?_
  refine jT_xiload_n (v := (0, x2)) (pcN := 54) jIM_287_53 rfl rfl rfl ?_
  refine jT_xistore (v := (0, x2)) (LN := [(5, (0, x2)), (4, (4, 22)), (0, (4, 0)), (1, (0, x1)), (2, (0, x2)), (3, (0, x3))]) (pcN := 56) jIM_287_54 rfl rfl rfl rfl ?_
  refine jT_xiconst (k := 1) (pcN := 57) jIM_287_56 rfl ?_
  refine jT_xistore (v := (0, 1)) (LN := [(6, (0, 1)), (5, (0, x2)), (4, (4, 22)), (0, (4, 0)), (1, (0, x1)), (2, (0, x2)), (3, (0, x3))]) (pcN := 59) jIM_287_57 rfl rfl rfl rfl ?_
  refine jT_xiload (v := (0, 1)) (pcN := 61) jIM_287_59 rfl rfl rfl ?_
  refine jT_xiload_n (v := (0, x3)) (pcN := 62) jIM_287_61 rfl rfl rfl ?_
  refine jT_icF (a := 1) (b := x3) (t := 137) (by rfl) (by rfl) (by rfl) (jw_idd (by omega) (by omega)) (jw_idd (by omega) (by omega)) (by simp only [jcP] <;> omega) ?_
  refine jT_xaload_n (v := (4, 0)) (pcN := 66) jIM_287_65 rfl rfl rfl ?_
  refine jT_xiload (v := (0, 1)) (pcN := 68) jIM_287_66 rfl rfl rfl ?_
  refine jT_xi2l (x := 1) (z := 1) (pcN := 69) jIM_287_68 rfl (by decide +kernel) rfl ?_
  refine jT_fA [0, 1, 2, 3, 4, 5, 6, 7, 8, 9, 10, 11, 12, 13, 14, 15] 23 (y := 218) (pcN := 72) (dC := 0) (bc1 := 1) (bc2 := 6) (c1 := 21998) (c2 := 731988) (as := [(4, 0), (1, 1)]) (asC := [(4, 0), (1, 1)]) (LN := [(6, (0, 1)), (5, (0, x2)), (4, (4, 22)), (0, (4, 0)), (1, (0, x1)), (2, (0, x2)), (3, (0, x3))]) (stN := []) (hsC := jpM_172) (ex := [(101, [], [0, 0, 0, 0, 0, 0])]) (v := (4, 16)) (st2 := [(4, 23)]) (hs2 := jpM_215) (jM_218_46 (d := 0)) (by rfl) (by rfl) (by decide +kernel) (by rfl) (by rfl) (by omega) (by omega) (by omega) (by omega) rfl (by decide +kernel) ?_
  refine jT_xastore (v := (4, 23)) (LN := [(7, (4, 23)), (6, (0, 1)), (5, (0, x2)), (4, (4, 22)), (0, (4, 0)), (1, (0, x1)), (2, (0, x2)), (3, (0, x3))]) (pcN := 74) jIM_287_72 rfl rfl rfl rfl ?_
  refine jT_xaload (v := (4, 23)) (pcN := 76) jIM_287_74 rfl rfl rfl ?_
  refine jT_xiconst (k := 0) (pcN := 77) jIM_287_76 rfl ?_
  refine jT_adv 1 (pcN := 78) (LN := [(7, (4, 23)), (6, (0, 1)), (5, (0, x2)), (4, (4, 22)), (0, (4, 0)), (1, (0, x1)), (2, (0, x2)), (3, (0, x3))]) (stN := [(0, 0), (4, 23), (0, 0), (4, 23)]) (hsN := jpM_215) (c1 := 0) (s1 := 0) (c2 := 21998) (s2 := 731988) (by exact rfl) ?_ (by omega) (by omega)
  refine jT_lald (x := 0) (a := 23) (j := 0) (fs := []) (X := [0, 0, 0, 0, 0, 0]) jIM_287_78 rfl rfl rfl rfl ?_
  refine jT_eq (LN := [(7, (4, 23)), (6, (0, 1)), (5, (0, x2)), (4, (4, 22)), (0, (4, 0)), (1, (0, x1)), (2, (0, x2)), (3, (0, x3))]) (stN := [(1, 0), (0, 0), (4, 23)]) (hsN := jpM_215) rfl rfl rfl ?_
  refine jT_xaload_n (v := (4, 0)) (pcN := 80) jIM_287_79 rfl rfl rfl ?_
  refine jT_xaload (v := (4, 23)) (pcN := 82) jIM_287_80 rfl rfl rfl ?_
  refine jT_xaload_n (v := (4, 0)) (pcN := 83) jIM_287_82 rfl rfl rfl ?_
  refine jT_xgetf (a := 0) (t := 1) (ci := 14) (fi := 10) (c := jzM_20) (v := (1, 1)) (pcN := 86) jIM_287_83 rfl rfl rfl rfl rfl rfl rfl ?_
  refine jT_fA [0, 23, 1, 2, 3, 4, 5, 6, 7, 8, 9, 10, 11, 12, 13, 14, 15, 16, 17, 18, 19, 20, 21] 24 (y := 216) (pcN := 89) (dC := 6) (bc1 := 9) (bc2 := 354) (c1 := 21989) (c2 := 731634) (as := [(4, 0), (4, 23), (1, 1)]) (asC := [(4, 0), (4, 1), (1, 1)]) (LN := [(7, (4, 23)), (6, (0, 1)), (5, (0, x2)), (4, (4, 22)), (0, (4, 0)), (1, (0, x1)), (2, (0, x2)), (3, (0, x3))]) (stN := [(1, 0), (0, 0), (4, 23)]) (hsC := jpM_195) (ex := jpM_196) (v := (1, 0)) (st2 := [(1, 0), (1, 0), (0, 0), (4, 23)]) (hs2 := jpM_224) (jM_216_57 (d := 0)) (by rfl) (by rfl) (by decide +kernel) (by rfl) (by rfl) (by omega) (by omega) (by omega) (by omega) rfl (by decide +kernel) ?_
  refine jT_xaload_n (v := (4, 0)) (pcN := 90) jIM_287_89 rfl rfl rfl ?_
  refine jT_xgetf (a := 0) (t := 1) (ci := 14) (fi := 10) (c := jzM_20) (v := (1, 1)) (pcN := 93) jIM_287_90 rfl rfl rfl rfl rfl rfl rfl ?_
  refine jT_xlmul (x := 0) (y := 1) (z := 0) (pcN := 94) jIM_287_93 rfl (by decide) rfl ?_
  refine jT_xlsub (x := 0) (y := 0) (z := 0) (pcN := 95) jIM_287_94 rfl (by decide) rfl ?_
  refine jT_adv 1 (pcN := 96) (LN := [(7, (4, 23)), (6, (0, 1)), (5, (0, x2)), (4, (4, 22)), (0, (4, 0)), (1, (0, x1)), (2, (0, x2)), (3, (0, x3))]) (stN := []) (hsN := jpM_224) (c1 := 0) (s1 := 0) (c2 := 21989) (s2 := 731634) (by exact rfl) ?_ (by omega) (by omega)
  refine jT_xiload (v := (0, 1)) (pcN := 98) jIM_287_96 rfl rfl rfl ?_
  refine jT_xiconst (k := 1) (pcN := 99) jIM_287_98 rfl ?_
  refine jT_xicT (pcN := 116) jIM_287_99 rfl (by decide +kernel) rfl ?_
  refine jT_xiload (v := (0, x2)) (pcN := 118) jIM_287_116 rfl rfl rfl ?_
  refine jT_ifT (a := x2) (t := 124) (by rfl) (by rfl) (by rfl) (jw_idd (by omega) (by omega)) (by simp only [jcP] <;> omega) ?_
  refine jT_xiinc (x := x2) (z := x2 - 1) (LN := [(5, (0, x2 - 1)), (7, (4, 23)), (6, (0, 1)), (4, (4, 22)), (0, (4, 0)), (1, (0, x1)), (2, (0, x2)), (3, (0, x3))]) (pcN := 127) jIM_287_124 rfl rfl (by omega) rfl rfl ?_
  refine jT_xaload (v := (4, 23)) (pcN := 129) jIM_287_127 rfl rfl rfl ?_
  refine jT_xastore (v := (4, 23)) (LN := [(4, (4, 23)), (5, (0, x2 - 1)), (7, (4, 23)), (6, (0, 1)), (0, (4, 0)), (1, (0, x1)), (2, (0, x2)), (3, (0, x3))]) (pcN := 131) jIM_287_129 rfl rfl rfl rfl ?_
  refine jT_xiinc (x := 1) (z := 2) (LN := [(6, (0, 2)), (4, (4, 23)), (5, (0, x2 - 1)), (7, (4, 23)), (0, (4, 0)), (1, (0, x1)), (2, (0, x2)), (3, (0, x3))]) (pcN := 134) jIM_287_131 rfl rfl (by decide) rfl rfl ?_
  refine jT_xgoto (pcN := 59) jIM_287_134 rfl ?_
  refine jT_loc (LN := [(6, (0, 2)), (5, (0, x2 - 1)), (4, (4, 23)), (0, (4, 0)), (3, (0, x3))]) (by show List.Nodup [6, 5, 4, 0, 3]; decide) (by intro q hq; simp only [List.mem_cons, List.not_mem_nil, or_false] at hq; rcases hq with rfl | rfl | rfl | rfl | rfl <;> rfl) ?_
  refine jT.mono (jMl_gc_70 (b1 := 0) (b2 := 0) (by omega) (z3 := x3) (y5 := x2 - 1) (by omega) (by omega) ?_ (x3 + 1 - 2).toNat 2 (by omega) (by omega)) (Nat.le_refl _) (by omega) (by omega) (fun _ _ _ z => z)
  refine jT_advK 3 (pcN := 140) (LN := [(0, (4, 0))]) (stN := [(0, 3), (0, 0), (4, 0)]) (hsN := jpM_224) (c1 := 0) (s1 := 0) (c2 := 0) (s2 := 0) (by decide +kernel) ?_ (by omega) (by omega)
  refine jT_fB [0, 1, 2, 3, 4, 5, 6, 7, 8, 9, 10, 11, 12, 13, 14, 15] 33 (y := 191) (pcN := 143) (dC := 0) (bc1 := 0) (bc2 := 0) (c1 := 0) (c2 := 0) (as := [(4, 0), (0, 0), (0, 3)]) (asC := [(4, 0), (0, 0), (0, 3)]) (LN := [(0, (4, 0))]) (stN := []) (hsC := jpM_21) (hsD := jpM_270) (v := (0, 1)) (st2 := [(0, 1)]) (hs2 := jpM_285) (jM_191_69 (d := 0)) (by rfl) (by rfl) (by decide +kernel) (by rfl) (by rfl) (by omega) (by omega) (by omega) (by omega) rfl (by decide +kernel) ?_
  refine jT_advK 3 (pcN := 151) (LN := [(0, (4, 0))]) (stN := [(0, 0)]) (hsN := jpM_285) (c1 := 0) (s1 := 0) (c2 := 0) (s2 := 0) (by decide +kernel) ?_ (by omega) (by omega)
  exact jT_ret rfl (by decide) (by show 22 ≤ 33; omega) (by omega) (by omega) ⟨rfl, rfl, rfl⟩
theorem jM_186_72 {xs : List Int} {d : Nat} : jT xs d 186 16 0 [(0, (4, 0))] [] jpM_270 0 0 (fun k v hsN => k = 0 ∧ v = (0, 3) ∧ hsN = jpM_270 ++ []) := by
  refine jT_advK 2 (pcN := 4) (LN := [(0, (4, 0))]) (stN := [(0, 3)]) (hsN := jpM_270) (c1 := 0) (s1 := 0) (c2 := 0) (s2 := 0) (by decide +kernel) ?_ (by omega) (by omega)
  exact jT_ret rfl (by decide) (by show 16 ≤ 16; omega) (by omega) (by omega) ⟨rfl, rfl, rfl⟩
theorem jM_116_73 {xs : List Int} {d : Nat} {x3 : Int} (h_x3 : 2001 ≤ x3 ∧ x3 ≤ 2147483647) : jT xs d 116 1 0 [(0, (4, 0)), (1, (0, x3)), (2, (0, 1)), (3, (0, 2000))] [] [jgh] 1 6 (fun k v hsN => k = 1 ∧ v = (0, 1) ∧ hsN = [jgh] ++ []) := by
  refine jT_xiload_n (v := (0, x3)) (pcN := 1) jIM_116_0 rfl rfl rfl ?_
  refine jT_xiload_n (v := (0, 1)) (pcN := 2) jIM_116_1 rfl rfl rfl ?_
  refine jT_icF (a := x3) (b := 1) (t := 10) (by rfl) (by rfl) (by rfl) (jw_idd (by omega) (by omega)) (jw_idd (by omega) (by omega)) (by simp only [jcP] <;> omega) ?_
  refine jT_xiload_n (v := (0, x3)) (pcN := 6) jIM_116_5 rfl rfl rfl ?_
  refine jT_xiload_n (v := (0, 2000)) (pcN := 7) jIM_116_6 rfl rfl rfl ?_
  refine jT_icF (a := x3) (b := 2000) (t := 21) (by rfl) (by rfl) (by rfl) (jw_idd (by omega) (by omega)) (jw_idd (by omega) (by omega)) (by simp only [jcP] <;> omega) ?_
  exact jT_ret (c1 := 1) (s1 := 6) rfl (by decide) (by show 1 ≤ 1; omega) (by omega) (by omega) ⟨rfl, rfl, rfl⟩
theorem jM_155_74 {xs : List Int} {d : Nat} {x1 x2 x3 : Int} (h_x1 : 0 ≤ x1 ∧ x1 ≤ 7) (h_x2 : 0 ≤ x2 ∧ x2 ≤ 2147483647) (h_x3 : 2001 ≤ x3 ∧ x3 ≤ 2147483647) : jT xs (d + 1) 155 12 0 [(0, (4, 0)), (1, (0, x1)), (2, (0, x2)), (3, (0, x3))] [] jpM_6 1 6 (fun k v hsN => k = 1 ∧ v = (0, 1) ∧ hsN = jpM_6 ++ []) := by
  refine jT_xaload_n (v := (4, 0)) (pcN := 1) jIM_155_0 rfl rfl rfl ?_
  refine jT_xiload_n (v := (0, x1)) (pcN := 2) jIM_155_1 rfl rfl rfl ?_
  refine jT_xbipush (k := 8) (pcN := 4) jIM_155_2 (by decide) rfl ?_
  refine jT_fR [0] 12 (y := 115) (pcN := 7) (dC := 0) (bc1 := 0) (bc2 := 0) (c1 := 1) (c2 := 6) (as := [(4, 0), (0, x1), (0, 8)]) (asC := [(4, 0), (0, x1), (0, 8)]) (LN := [(0, (4, 0)), (1, (0, x1)), (2, (0, x2)), (3, (0, x3))]) (stN := []) (hsC := [jgh]) (v := (9, 0)) (st2 := []) (jM_115_9 (d := 0) (by omega)) (by rfl) (by rfl) (by decide +kernel) (by rfl) (by rfl) (by omega) (by omega) (by omega) (by omega) rfl ?_
  refine jT_xiload_n (v := (0, x2)) (pcN := 8) jIM_155_7 rfl rfl rfl ?_
  refine jT_ifT (a := x2) (t := 22) (by rfl) (by rfl) (by rfl) (jw_idd (by omega) (by omega)) (by simp only [jcP] <;> omega) ?_
  refine jT_xaload_n (v := (4, 0)) (pcN := 23) jIM_155_22 rfl rfl rfl ?_
  refine jT_xiload_n (v := (0, x3)) (pcN := 24) jIM_155_23 rfl rfl rfl ?_
  refine jT_xiconst (k := 1) (pcN := 25) jIM_155_24 rfl ?_
  refine jT_xsipush (k := 2000) (pcN := 28) jIM_155_25 (by decide) rfl ?_
  exact jT_fX [0] 12 (y := 116) (pcN := 31) (dC := 0) (bc1 := 1) (bc2 := 6) (as := [(4, 0), (0, x3), (0, 1), (0, 2000)]) (asC := [(4, 0), (0, x3), (0, 1), (0, 2000)]) (LN := [(0, (4, 0)), (1, (0, x1)), (2, (0, x2)), (3, (0, x3))]) (stN := []) (hsC := [jgh]) (e := 1) (jM_116_73 (d := 0) (by omega)) (by rfl) (by rfl) (by decide +kernel) (by rfl) (by rfl) (by omega) (by omega) (by omega) (by omega) ⟨rfl, ⟨rfl, rfl, rfl⟩⟩
theorem jM_358_75 {xs : List Int} {d : Nat} {x1 x2 x3 : Int} (h_x1 : 0 ≤ x1 ∧ x1 ≤ 7) (h_x2 : 0 ≤ x2 ∧ x2 ≤ 2147483647) (h_x3 : 2001 ≤ x3 ∧ x3 ≤ 2147483647) : jT xs (d + 2) 358 13 0 [(0, (4, 0)), (1, (0, x1)), (2, (0, x2)), (3, (0, x3)), (4, (4, 1))] [] jpM_14 1 6 (fun k v hsN => k = 0 ∧ v = (0, 2) ∧ hsN = jpM_14 ++ []) := by
  refine jT_xaload (v := (4, 1)) (pcN := 2) jIM_358_0 rfl rfl rfl ?_
  refine jT_xiconst (k := 0) (pcN := 3) jIM_358_2 rfl ?_
  refine jT_xaload_n (v := (4, 0)) (pcN := 4) jIM_358_3 rfl rfl rfl ?_
  refine jT_xiload_n (v := (0, x1)) (pcN := 5) jIM_358_4 rfl rfl rfl ?_
  refine jT_xiload_n (v := (0, x2)) (pcN := 6) jIM_358_5 rfl rfl rfl ?_
  refine jT_xiload_n (v := (0, x3)) (pcN := 7) jIM_358_6 rfl rfl rfl ?_
  exact jT_fX [0, 2, 3, 4, 5, 6, 7, 8, 9, 10, 11, 12] 13 (y := 155) (pcN := 10) (dC := 1) (bc1 := 1) (bc2 := 6) (as := [(4, 0), (0, x1), (0, x2), (0, x3)]) (asC := [(4, 0), (0, x1), (0, x2), (0, x3)]) (LN := [(0, (4, 0)), (1, (0, x1)), (2, (0, x2)), (3, (0, x3)), (4, (4, 1))]) (stN := [(0, 0), (4, 1)]) (hsC := jpM_6) (e := 1) (jM_155_74 (d := 0) (by omega) (by omega) (by omega)) (by rfl) (by rfl) (by decide +kernel) (by rfl) (by rfl) (by omega) (by omega) (by omega) (by omega) (show _ from ⟨rfl, rfl, rfl⟩)
theorem jM_287_76 {xs : List Int} {d : Nat} {x1 x2 x3 : Int} (h_x1 : 0 ≤ x1 ∧ x1 ≤ 7) (h_x2 : 0 ≤ x2 ∧ x2 ≤ 2147483647) (h_x3 : 2001 ≤ x3 ∧ x3 ≤ 2147483647) : jT xs (d + 2) 287 16 0 [(0, (4, 0)), (1, (0, x1)), (2, (0, x2)), (3, (0, x3))] [] jpM_21 0 0 (fun k v hsN => k = 0 ∧ v = (0, 0) ∧ hsN = jpM_32) := by
  refine jT_xaload_n (v := (4, 0)) (pcN := 1) jIM_287_0 rfl rfl rfl ?_
  refine jT_xiload_n (v := (0, x1)) (pcN := 2) jIM_287_1 rfl rfl rfl ?_
  refine jT_fR [] 16 (y := 188) (pcN := 5) (dC := 1) (bc1 := 0) (bc2 := 0) (c1 := 0) (c2 := 0) (as := [(0, x1)]) (asC := [(0, x1)]) (LN := [(0, (4, 0)), (1, (0, x1)), (2, (0, x2)), (3, (0, x3))]) (stN := [(4, 0)]) (hsC := []) (v := (0, 1)) (st2 := [(0, 1), (4, 0)]) (jM_188_12 (d := 0) (by omega)) (by rfl) (by rfl) (by decide +kernel) (by rfl) (by rfl) (by omega) (by omega) (by omega) (by omega) rfl ?_
  refine jT_fR [0, 1, 2, 3, 4, 5, 6, 7, 8, 9, 10, 11, 12, 13, 14, 15] 16 (y := 190) (pcN := 8) (dC := 1) (bc1 := 0) (bc2 := 0) (c1 := 0) (c2 := 0) (as := [(4, 0), (0, 1)]) (asC := [(4, 0), (0, 1)]) (LN := [(0, (4, 0)), (1, (0, x1)), (2, (0, x2)), (3, (0, x3))]) (stN := []) (hsC := jpM_21) (v := (0, 0)) (st2 := [(0, 0)]) (jM_190_14 (d := 0)) (by rfl) (by rfl) (by decide +kernel) (by rfl) (by rfl) (by omega) (by omega) (by omega) (by omega) rfl ?_
  refine jT_xifF (t := 40) (pcN := 11) jIM_287_8 rfl (by decide +kernel) rfl rfl ?_
  refine jT_xaload_n (v := (4, 0)) (pcN := 12) jIM_287_11 rfl rfl rfl ?_
  refine jT_xiload_n (v := (0, x2)) (pcN := 13) jIM_287_12 rfl rfl rfl ?_
  refine jT_ifF (a := x2) (t := 32) (by rfl) (by rfl) (by rfl) (jw_idd (by omega) (by omega)) (by simp only [jcP] <;> omega) ?_
  refine jT_xiload_n (v := (0, x3)) (pcN := 17) jIM_287_16 rfl rfl rfl ?_
  refine jT_xi2l (x := x3) (z := x3) (pcN := 18) jIM_287_17 rfl (jw_idd (by omega) (by omega)) rfl ?_
  refine jT_xlconst (z := 1) (pcN := 19) jIM_287_18 rfl rfl ?_
  refine jT_adv 1 (pcN := 22) (LN := [(0, (4, 0)), (1, (0, x1)), (2, (0, x2)), (3, (0, x3))]) (stN := [(1, 2000), (1, 1), (1, x3), (4, 0)]) (hsN := jpM_21) (c1 := 0) (s1 := 0) (c2 := 0) (s2 := 0) (by exact rfl) ?_ (by omega) (by omega)
  refine jT_fR [] 16 (y := 189) (pcN := 25) (dC := 0) (bc1 := 0) (bc2 := 0) (c1 := 0) (c2 := 0) (as := [(1, x3), (1, 1), (1, 2000)]) (asC := [(1, x3), (1, 1), (1, 2000)]) (LN := [(0, (4, 0)), (1, (0, x1)), (2, (0, x2)), (3, (0, x3))]) (stN := [(4, 0)]) (hsC := []) (v := (0, 0)) (st2 := [(0, 0), (4, 0)]) (jT_in_hi (d := 0) (v := x3) (lo := 1) (hi := 2000) (by omega) (by omega) (by omega) (by omega) (by omega)) (by rfl) (by rfl) (by decide +kernel) (by rfl) (by rfl) (by omega) (by omega) (by omega) (by omega) rfl ?_
  refine jT_xifT (pcN := 32) jIM_287_25 rfl (by decide +kernel) rfl ?_
  refine jT_xiconst (k := 0) (pcN := 33) jIM_287_32 rfl ?_
  refine jT_xiconst (k := 2) (pcN := 34) jIM_287_33 rfl ?_
  refine jT_fB [0, 1, 2, 3, 4, 5, 6, 7, 8, 9, 10, 11, 12, 13, 14, 15] 16 (y := 191) (pcN := 37) (dC := 0) (bc1 := 0) (bc2 := 0) (c1 := 0) (c2 := 0) (as := [(4, 0), (0, 0), (0, 2)]) (asC := [(4, 0), (0, 0), (0, 2)]) (LN := [(0, (4, 0)), (1, (0, x1)), (2, (0, x2)), (3, (0, x3))]) (stN := []) (hsC := jpM_21) (hsD := jpM_32) (v := (0, 1)) (st2 := [(0, 1)]) (hs2 := jpM_32) (jM_191_15 (d := 0)) (by rfl) (by rfl) (by decide +kernel) (by rfl) (by rfl) (by omega) (by omega) (by omega) (by omega) rfl (by decide +kernel) ?_
  refine jT_xifF (t := 42) (pcN := 40) jIM_287_37 rfl (by decide +kernel) rfl rfl ?_
  refine jT_xiconst (k := 0) (pcN := 41) jIM_287_40 rfl ?_
  exact jT_ret rfl (by decide) (by show 16 ≤ 16; omega) (by omega) (by omega) ⟨rfl, rfl, rfl⟩
theorem jM_115_77 {xs : List Int} {d : Nat} {x1 : Int} (h_x1 : 8 ≤ x1 ∧ x1 ≤ 2147483647) : jT xs d 115 1 0 [(0, (4, 0)), (1, (0, x1)), (2, (0, 8))] [] [jgh] 1 6 (fun k v hsN => k = 1 ∧ v = (0, 0) ∧ hsN = [jgh] ++ []) := by
  refine jT_xiload_n (v := (0, x1)) (pcN := 1) jIM_115_0 rfl rfl rfl ?_
  refine jT_ifF (a := x1) (t := 9) (by rfl) (by rfl) (by rfl) (jw_idd (by omega) (by omega)) (by simp only [jcP] <;> omega) ?_
  refine jT_xiload_n (v := (0, x1)) (pcN := 5) jIM_115_4 rfl rfl rfl ?_
  refine jT_xiload_n (v := (0, 8)) (pcN := 6) jIM_115_5 rfl rfl rfl ?_
  refine jT_icF (a := x1) (b := 8) (t := 20) (by rfl) (by rfl) (by rfl) (jw_idd (by omega) (by omega)) (jw_idd (by omega) (by omega)) (by simp only [jcP] <;> omega) ?_
  exact jT_ret (c1 := 1) (s1 := 6) rfl (by decide) (by show 1 ≤ 1; omega) (by omega) (by omega) ⟨rfl, rfl, rfl⟩
theorem jM_155_78 {xs : List Int} {d : Nat} {x1 x2 x3 : Int} (h_x1 : 8 ≤ x1 ∧ x1 ≤ 2147483647) (h_x2 : (-2147483648) ≤ x2 ∧ x2 ≤ 2147483647) (h_x3 : (-2147483648) ≤ x3 ∧ x3 ≤ 2147483647) : jT xs (d + 1) 155 12 0 [(0, (4, 0)), (1, (0, x1)), (2, (0, x2)), (3, (0, x3))] [] jpM_6 1 6 (fun k v hsN => k = 1 ∧ v = (0, 0) ∧ hsN = jpM_6 ++ []) := by
  refine jT_xaload_n (v := (4, 0)) (pcN := 1) jIM_155_0 rfl rfl rfl ?_
  refine jT_xiload_n (v := (0, x1)) (pcN := 2) jIM_155_1 rfl rfl rfl ?_
  refine jT_xbipush (k := 8) (pcN := 4) jIM_155_2 (by decide) rfl ?_
  exact jT_fX [0] 12 (y := 115) (pcN := 7) (dC := 0) (bc1 := 1) (bc2 := 6) (as := [(4, 0), (0, x1), (0, 8)]) (asC := [(4, 0), (0, x1), (0, 8)]) (LN := [(0, (4, 0)), (1, (0, x1)), (2, (0, x2)), (3, (0, x3))]) (stN := []) (hsC := [jgh]) (e := 0) (jM_115_77 (d := 0) (by omega)) (by rfl) (by rfl) (by decide +kernel) (by rfl) (by rfl) (by omega) (by omega) (by omega) (by omega) ⟨rfl, ⟨rfl, rfl, rfl⟩⟩
theorem jM_358_79 {xs : List Int} {d : Nat} {x1 x2 x3 : Int} (h_x1 : 8 ≤ x1 ∧ x1 ≤ 2147483647) (h_x2 : (-2147483648) ≤ x2 ∧ x2 ≤ 2147483647) (h_x3 : (-2147483648) ≤ x3 ∧ x3 ≤ 2147483647) : jT xs (d + 2) 358 13 0 [(0, (4, 0)), (1, (0, x1)), (2, (0, x2)), (3, (0, x3)), (4, (4, 1))] [] jpM_14 1 6 (fun k v hsN => k = 0 ∧ v = (0, 1) ∧ hsN = jpM_14 ++ []) := by
  refine jT_xaload (v := (4, 1)) (pcN := 2) jIM_358_0 rfl rfl rfl ?_
  refine jT_xiconst (k := 0) (pcN := 3) jIM_358_2 rfl ?_
  refine jT_xaload_n (v := (4, 0)) (pcN := 4) jIM_358_3 rfl rfl rfl ?_
  refine jT_xiload_n (v := (0, x1)) (pcN := 5) jIM_358_4 rfl rfl rfl ?_
  refine jT_xiload_n (v := (0, x2)) (pcN := 6) jIM_358_5 rfl rfl rfl ?_
  refine jT_xiload_n (v := (0, x3)) (pcN := 7) jIM_358_6 rfl rfl rfl ?_
  exact jT_fX [0, 2, 3, 4, 5, 6, 7, 8, 9, 10, 11, 12] 13 (y := 155) (pcN := 10) (dC := 1) (bc1 := 1) (bc2 := 6) (as := [(4, 0), (0, x1), (0, x2), (0, x3)]) (asC := [(4, 0), (0, x1), (0, x2), (0, x3)]) (LN := [(0, (4, 0)), (1, (0, x1)), (2, (0, x2)), (3, (0, x3)), (4, (4, 1))]) (stN := [(0, 0), (4, 1)]) (hsC := jpM_6) (e := 0) (jM_155_78 (d := 0) (by omega) (by omega) (by omega)) (by rfl) (by rfl) (by decide +kernel) (by rfl) (by rfl) (by omega) (by omega) (by omega) (by omega) (show _ from ⟨rfl, rfl, rfl⟩)
theorem jM_188_80 {xs : List Int} {d : Nat} {x1 : Int} (h_x1 : 8 ≤ x1 ∧ x1 ≤ 2147483647) : jT xs (d + 1) 188 0 0 [(0, (0, x1))] [] [] 0 0 (fun k v hsN => k = 0 ∧ v = (0, 0) ∧ hsN = [] ++ []) := by
  refine jT_xiload_n (v := (0, x1)) (pcN := 1) jIM_188_0 rfl rfl rfl ?_
  refine jT_xi2l (x := x1) (z := x1) (pcN := 2) jIM_188_1 rfl (jw_idd (by omega) (by omega)) rfl ?_
  refine jT_xlconst (z := 0) (pcN := 3) jIM_188_2 rfl rfl ?_
  refine jT_adv 1 (pcN := 6) (LN := [(0, (0, x1))]) (stN := [(1, 7), (1, 0), (1, x1)]) (hsN := []) (c1 := 0) (s1 := 0) (c2 := 0) (s2 := 0) (by exact rfl) ?_ (by omega) (by omega)
  refine jT_fR [] 0 (y := 189) (pcN := 9) (dC := 0) (bc1 := 0) (bc2 := 0) (c1 := 0) (c2 := 0) (as := [(1, x1), (1, 0), (1, 7)]) (asC := [(1, x1), (1, 0), (1, 7)]) (LN := [(0, (0, x1))]) (stN := []) (hsC := []) (v := (0, 0)) (st2 := [(0, 0)]) (jT_in_hi (d := 0) (v := x1) (lo := 0) (hi := 7) (by omega) (by omega) (by omega) (by omega) (by omega)) (by rfl) (by rfl) (by decide +kernel) (by rfl) (by rfl) (by omega) (by omega) (by omega) (by omega) rfl ?_
  exact jT_ret rfl (by decide) (by show 0 ≤ 0; omega) (by omega) (by omega) ⟨rfl, rfl, rfl⟩
theorem jM_287_81 {xs : List Int} {d : Nat} {x1 x2 x3 : Int} (h_x1 : 8 ≤ x1 ∧ x1 ≤ 2147483647) (h_x2 : (-2147483648) ≤ x2 ∧ x2 ≤ 2147483647) (h_x3 : (-2147483648) ≤ x3 ∧ x3 ≤ 2147483647) : jT xs (d + 2) 287 16 0 [(0, (4, 0)), (1, (0, x1)), (2, (0, x2)), (3, (0, x3))] [] jpM_21 0 0 (fun k v hsN => k = 0 ∧ v = (0, 0) ∧ hsN = jpM_19) := by
  refine jT_xaload_n (v := (4, 0)) (pcN := 1) jIM_287_0 rfl rfl rfl ?_
  refine jT_xiload_n (v := (0, x1)) (pcN := 2) jIM_287_1 rfl rfl rfl ?_
  refine jT_fR [] 16 (y := 188) (pcN := 5) (dC := 1) (bc1 := 0) (bc2 := 0) (c1 := 0) (c2 := 0) (as := [(0, x1)]) (asC := [(0, x1)]) (LN := [(0, (4, 0)), (1, (0, x1)), (2, (0, x2)), (3, (0, x3))]) (stN := [(4, 0)]) (hsC := []) (v := (0, 0)) (st2 := [(0, 0), (4, 0)]) (jM_188_80 (d := 0) (by omega)) (by rfl) (by rfl) (by decide +kernel) (by rfl) (by rfl) (by omega) (by omega) (by omega) (by omega) rfl ?_
  refine jT_fB [0, 1, 2, 3, 4, 5, 6, 7, 8, 9, 10, 11, 12, 13, 14, 15] 16 (y := 190) (pcN := 8) (dC := 1) (bc1 := 0) (bc2 := 0) (c1 := 0) (c2 := 0) (as := [(4, 0), (0, 0)]) (asC := [(4, 0), (0, 0)]) (LN := [(0, (4, 0)), (1, (0, x1)), (2, (0, x2)), (3, (0, x3))]) (stN := []) (hsC := jpM_21) (hsD := jpM_19) (v := (0, 1)) (st2 := [(0, 1)]) (hs2 := jpM_19) (jM_190_6 (d := 0)) (by rfl) (by rfl) (by decide +kernel) (by rfl) (by rfl) (by omega) (by omega) (by omega) (by omega) rfl (by decide +kernel) ?_
  refine jT_xifT (pcN := 40) jIM_287_8 rfl (by decide +kernel) rfl ?_
  refine jT_xiconst (k := 0) (pcN := 41) jIM_287_40 rfl ?_
  exact jT_ret rfl (by decide) (by show 16 ≤ 16; omega) (by omega) (by omega) ⟨rfl, rfl, rfl⟩
theorem jIM_379_2598 : jmI (jm 379) 2598 = (.aload_n 1, 1) := by rfl
theorem jIM_379_2599 : jmI (jm 379) 2599 = (.aload_n 0, 1) := by rfl
theorem jIM_379_2600 : jmI (jm 379) 2600 = (.iload 5, 2) := by rfl
theorem jIM_379_2602 : jmI (jm 379) 2602 = (.iconst 1, 1) := by rfl
theorem jIM_379_2603 : jmI (jm 379) 2603 = (.iadd, 1) := by rfl
def jzM_291 : JC := (13, [(4, 4), (4, 5), (4, 6), (4, 7), (4, 8), (4, 9), (4, 10), (4, 11), (4, 12), (4, 13), (0, 0), (4, 14), (0, 0)], [])
def jzM_292 : JC := (14, [(0, 0), (4, 15), (4, 16), (4, 17), (4, 18), (0, 0), (4, 19), (0, 0), (4, 20), (4, 21), (1, 1), (4, 22), (0, 0), (4, 23), (0, 0), (0, 0), (0, 0), (0, 0), (0, 0), (0, 0), (0, 0), (4, 24), (4, 25), (4, 26), (4, 27), (4, 28), (4, 29), (0, 0)], [])
def jpM_293 : List JC := [jzM_291, jzM_292, jgh, jgh, jgh, jgh, jgh, jgh, jgh, jgh, jgh, jgh, jgh, jgh, jgh, jgh, jgh, jgh, jgh, jgh, jgh, jgh, jgh, jgh, jgh, jgh, jgh, jgh, jgh, jgh]
theorem jIM_379_2605 : jmI (jm 379) 2605 = (.aload_n 0, 1) := by rfl
theorem jIM_379_2606 : jmI (jm 379) 2606 = (.iload 5, 2) := by rfl
theorem jIM_379_2608 : jmI (jm 379) 2608 = (.iconst 2, 1) := by rfl
theorem jIM_379_2609 : jmI (jm 379) 2609 = (.iadd, 1) := by rfl
theorem jIM_379_2611 : jmI (jm 379) 2611 = (.aload_n 0, 1) := by rfl
theorem jIM_379_2612 : jmI (jm 379) 2612 = (.iload 5, 2) := by rfl
theorem jIM_379_2614 : jmI (jm 379) 2614 = (.iconst 3, 1) := by rfl
theorem jIM_379_2615 : jmI (jm 379) 2615 = (.iadd, 1) := by rfl
theorem jIM_379_2617 : jmI (jm 379) 2617 = (.aload_n 3, 1) := by rfl
theorem jIM_379_2621 : jmI (jm 379) 2621 = (.istore 6, 2) := by rfl
theorem jIM_379_2623 : jmI (jm 379) 2623 = (.aload_n 2, 1) := by rfl
theorem jIM_379_2624 : jmI (jm 379) 2624 = (.aload_n 0, 1) := by rfl
theorem jIM_379_2625 : jmI (jm 379) 2625 = (.iload 5, 2) := by rfl
theorem jIM_379_2627 : jmI (jm 379) 2627 = (.iconst 1, 1) := by rfl
theorem jIM_379_2628 : jmI (jm 379) 2628 = (.iadd, 1) := by rfl
theorem jIM_379_2630 : jmI (jm 379) 2630 = (.aload_n 0, 1) := by rfl
theorem jIM_379_2631 : jmI (jm 379) 2631 = (.iload 5, 2) := by rfl
theorem jIM_379_2633 : jmI (jm 379) 2633 = (.iconst 2, 1) := by rfl
theorem jIM_379_2634 : jmI (jm 379) 2634 = (.iadd, 1) := by rfl
theorem jIM_379_2636 : jmI (jm 379) 2636 = (.aload_n 0, 1) := by rfl
theorem jIM_379_2637 : jmI (jm 379) 2637 = (.iload 5, 2) := by rfl
theorem jIM_379_2639 : jmI (jm 379) 2639 = (.iconst 3, 1) := by rfl
theorem jIM_379_2640 : jmI (jm 379) 2640 = (.iadd, 1) := by rfl
def jzM_317 : JC := (14, [(0, 1), (4, 15), (4, 16), (4, 17), (4, 18), (0, 0), (4, 19), (0, 0), (4, 20), (4, 21), (1, 1), (4, 22), (0, 0), (4, 23), (0, 0), (0, 0), (0, 0), (0, 0), (0, 0), (0, 0), (0, 0), (4, 24), (4, 25), (4, 26), (4, 27), (4, 28), (4, 29), (0, 0)], [])
def jpM_318 : List JC := [jzM_291, jzM_317, jgh, jgh, jgh, jgh, jgh, jgh, jgh, jgh, jgh, jgh, jgh, jgh, jgh, jgh, jgh, jgh, jgh, jgh, jgh, jgh, jgh, jgh, jgh, jgh, jgh, jgh, jgh, jgh]
theorem jIM_379_2645 : jmI (jm 379) 2645 = (.istore 7, 2) := by rfl
theorem jIM_379_2647 : jmI (jm 379) 2647 = (.aload_n 2, 1) := by rfl
theorem jIM_379_2651 : jmI (jm 379) 2651 = (.iload 6, 2) := by rfl
theorem jIM_379_2653 : jmI (jm 379) 2653 = (.if_icmp .eq 5, 3) := by rfl
theorem jIM_379_2658 : jmI (jm 379) 2658 = (.iload 6, 2) := by rfl
theorem jIM_379_2660 : jmI (jm 379) 2660 = (.ifCond .ne 15, 3) := by rfl
theorem jIM_379_2675 : jmI (jm 379) 2675 = (.goto 1065, 3) := by rfl
theorem jIM_379_3740 : jmI (jm 379) 3740 = (.iinc 5 5, 3) := by rfl
theorem jIM_379_3743 : jmI (jm 379) 3743 = (.goto (-3715), 3) := by rfl
theorem jIM_379_28 : jmI (jm 379) 28 = (.iload 5, 2) := by rfl
theorem jIM_379_30 : jmI (jm 379) 30 = (.aload_n 0, 1) := by rfl
theorem jIM_379_32 : jmI (jm 379) 32 = (.iconst 5, 1) := by rfl
theorem jIM_379_33 : jmI (jm 379) 33 = (.isub, 1) := by rfl
theorem jIM_379_34 : jmI (jm 379) 34 = (.if_icmp .gt 3712, 3) := by rfl
theorem jIM_379_3746 : jmI (jm 379) 3746 = (.iconst 1, 1) := by rfl
set_option maxRecDepth 100000 in
theorem jL_34_0 {d : Nat} {x0 x1 x2 x3 x4 : Int} (h_x0 : (-2147483648) ≤ x0 ∧ x0 ≤ 2147483647) (h_x1 : (-2147483648) ≤ x1 ∧ x1 ≤ (-1)) (h_x2 : (-2147483648) ≤ x2 ∧ x2 ≤ 2147483647) (h_x3 : (-2147483648) ≤ x3 ∧ x3 ≤ 2147483647) (h_x4 : (-2147483648) ≤ x4 ∧ x4 ≤ 2147483647) : jT [x0, x1, x2, x3, x4] (d + 3) 379 30 2598 [(5, (0, 0)), (4, (4, 3)), (3, (4, 2)), (2, (4, 1)), (1, (4, 0)), (0, (6, 0))] [] jpM_293 1 6 (fun k v hsN => k = 0 ∧ v = (0, 1)) := by
  refine jT_xaload_n (v := (4, 0)) (pcN := 2599) jIM_379_2598 rfl rfl rfl ?_
  refine jT_xaload_n (v := (6, 0)) (pcN := 2600) jIM_379_2599 rfl rfl rfl ?_
  refine jT_xiload (v := (0, 0)) (pcN := 2602) jIM_379_2600 rfl rfl rfl ?_
  refine jT_xiconst (k := 1) (pcN := 2603) jIM_379_2602 rfl ?_
  refine jT_xiadd (x := 0) (y := 1) (z := 1) (pcN := 2604) jIM_379_2603 rfl (by decide) rfl ?_
  refine jT_adv 1 (pcN := 2605) (LN := [(5, (0, 0)), (4, (4, 3)), (3, (4, 2)), (2, (4, 1)), (1, (4, 0)), (0, (6, 0))]) (stN := [(0, x1), (4, 0)]) (hsN := jpM_293) (c1 := 0) (s1 := 0) (c2 := 1) (s2 := 6) (by exact rfl) ?_ (by omega) (by omega)
  refine jT_xaload_n (v := (6, 0)) (pcN := 2606) jIM_379_2605 rfl rfl rfl ?_
  refine jT_xiload (v := (0, 0)) (pcN := 2608) jIM_379_2606 rfl rfl rfl ?_
  refine jT_xiconst (k := 2) (pcN := 2609) jIM_379_2608 rfl ?_
  refine jT_xiadd (x := 0) (y := 2) (z := 2) (pcN := 2610) jIM_379_2609 rfl (by decide) rfl ?_
  refine jT_adv 1 (pcN := 2611) (LN := [(5, (0, 0)), (4, (4, 3)), (3, (4, 2)), (2, (4, 1)), (1, (4, 0)), (0, (6, 0))]) (stN := [(0, x2), (0, x1), (4, 0)]) (hsN := jpM_293) (c1 := 0) (s1 := 0) (c2 := 1) (s2 := 6) (by exact rfl) ?_ (by omega) (by omega)
  refine jT_xaload_n (v := (6, 0)) (pcN := 2612) jIM_379_2611 rfl rfl rfl ?_
  refine jT_xiload (v := (0, 0)) (pcN := 2614) jIM_379_2612 rfl rfl rfl ?_
  refine jT_xiconst (k := 3) (pcN := 2615) jIM_379_2614 rfl ?_
  refine jT_xiadd (x := 0) (y := 3) (z := 3) (pcN := 2616) jIM_379_2615 rfl (by decide) rfl ?_
  refine jT_adv 1 (pcN := 2617) (LN := [(5, (0, 0)), (4, (4, 3)), (3, (4, 2)), (2, (4, 1)), (1, (4, 0)), (0, (6, 0))]) (stN := [(0, x3), (0, x2), (0, x1), (4, 0)]) (hsN := jpM_293) (c1 := 0) (s1 := 0) (c2 := 1) (s2 := 6) (by exact rfl) ?_ (by omega) (by omega)
  refine jT_xaload_n (v := (4, 2)) (pcN := 2618) jIM_379_2617 rfl rfl rfl ?_
  refine jT_fR [0, 2, 4, 5, 6, 7, 8, 9, 10, 11, 12, 13, 14] 30 (y := 358) (pcN := 2621) (dC := 2) (bc1 := 1) (bc2 := 6) (c1 := 0) (c2 := 0) (as := [(4, 0), (0, x1), (0, x2), (0, x3), (4, 2)]) (asC := [(4, 0), (0, x1), (0, x2), (0, x3), (4, 1)]) (LN := [(5, (0, 0)), (4, (4, 3)), (3, (4, 2)), (2, (4, 1)), (1, (4, 0)), (0, (6, 0))]) (stN := []) (hsC := jpM_14) (v := (0, 1)) (st2 := [(0, 1)]) (jM_358_3 (d := 0) (by omega) (by omega) (by omega)) (by rfl) (by rfl) (by decide +kernel) (by rfl) (by rfl) (by omega) (by omega) (by omega) (by omega) rfl ?_
  refine jT_xistore (v := (0, 1)) (LN := [(6, (0, 1)), (5, (0, 0)), (4, (4, 3)), (3, (4, 2)), (2, (4, 1)), (1, (4, 0)), (0, (6, 0))]) (pcN := 2623) jIM_379_2621 rfl rfl rfl rfl ?_
  refine jT_xaload_n (v := (4, 1)) (pcN := 2624) jIM_379_2623 rfl rfl rfl ?_
  refine jT_xaload_n (v := (6, 0)) (pcN := 2625) jIM_379_2624 rfl rfl rfl ?_
  refine jT_xiload (v := (0, 0)) (pcN := 2627) jIM_379_2625 rfl rfl rfl ?_
  refine jT_xiconst (k := 1) (pcN := 2628) jIM_379_2627 rfl ?_
  refine jT_xiadd (x := 0) (y := 1) (z := 1) (pcN := 2629) jIM_379_2628 rfl (by decide) rfl ?_
  refine jT_adv 1 (pcN := 2630) (LN := [(6, (0, 1)), (5, (0, 0)), (4, (4, 3)), (3, (4, 2)), (2, (4, 1)), (1, (4, 0)), (0, (6, 0))]) (stN := [(0, x1), (4, 1)]) (hsN := jpM_293) (c1 := 0) (s1 := 0) (c2 := 0) (s2 := 0) (by exact rfl) ?_ (by omega) (by omega)
  refine jT_xaload_n (v := (6, 0)) (pcN := 2631) jIM_379_2630 rfl rfl rfl ?_
  refine jT_xiload (v := (0, 0)) (pcN := 2633) jIM_379_2631 rfl rfl rfl ?_
  refine jT_xiconst (k := 2) (pcN := 2634) jIM_379_2633 rfl ?_
  refine jT_xiadd (x := 0) (y := 2) (z := 2) (pcN := 2635) jIM_379_2634 rfl (by decide) rfl ?_
  refine jT_adv 1 (pcN := 2636) (LN := [(6, (0, 1)), (5, (0, 0)), (4, (4, 3)), (3, (4, 2)), (2, (4, 1)), (1, (4, 0)), (0, (6, 0))]) (stN := [(0, x2), (0, x1), (4, 1)]) (hsN := jpM_293) (c1 := 0) (s1 := 0) (c2 := 0) (s2 := 0) (by exact rfl) ?_ (by omega) (by omega)
  refine jT_xaload_n (v := (6, 0)) (pcN := 2637) jIM_379_2636 rfl rfl rfl ?_
  refine jT_xiload (v := (0, 0)) (pcN := 2639) jIM_379_2637 rfl rfl rfl ?_
  refine jT_xiconst (k := 3) (pcN := 2640) jIM_379_2639 rfl ?_
  refine jT_xiadd (x := 0) (y := 3) (z := 3) (pcN := 2641) jIM_379_2640 rfl (by decide) rfl ?_
  refine jT_adv 1 (pcN := 2642) (LN := [(6, (0, 1)), (5, (0, 0)), (4, (4, 3)), (3, (4, 2)), (2, (4, 1)), (1, (4, 0)), (0, (6, 0))]) (stN := [(0, x3), (0, x2), (0, x1), (4, 1)]) (hsN := jpM_293) (c1 := 0) (s1 := 0) (c2 := 0) (s2 := 0) (by exact rfl) ?_ (by omega) (by omega)
  refine jT_fB [1, 15, 16, 17, 18, 19, 20, 21, 22, 23, 24, 25, 26, 27, 28, 29] 30 (y := 287) (pcN := 2645) (dC := 2) (bc1 := 0) (bc2 := 0) (c1 := 0) (c2 := 0) (as := [(4, 1), (0, x1), (0, x2), (0, x3)]) (asC := [(4, 0), (0, x1), (0, x2), (0, x3)]) (LN := [(6, (0, 1)), (5, (0, 0)), (4, (4, 3)), (3, (4, 2)), (2, (4, 1)), (1, (4, 0)), (0, (6, 0))]) (stN := []) (hsC := jpM_21) (hsD := jpM_19) (v := (0, 0)) (st2 := [(0, 0)]) (hs2 := jpM_318) (jM_287_7 (d := 0) (by omega) (by omega) (by omega)) (by rfl) (by rfl) (by decide +kernel) (by rfl) (by rfl) (by omega) (by omega) (by omega) (by omega) rfl (by decide +kernel) ?_
  refine jT_xistore (v := (0, 0)) (LN := [(7, (0, 0)), (6, (0, 1)), (5, (0, 0)), (4, (4, 3)), (3, (4, 2)), (2, (4, 1)), (1, (4, 0)), (0, (6, 0))]) (pcN := 2647) jIM_379_2645 rfl rfl rfl rfl ?_
  refine jT_xaload_n (v := (4, 1)) (pcN := 2648) jIM_379_2647 rfl rfl rfl ?_
  refine jT_fR [1, 15, 16, 17, 18, 19, 20, 21, 22, 23, 24, 25, 26, 27, 28, 29] 30 (y := 186) (pcN := 2651) (dC := 0) (bc1 := 0) (bc2 := 0) (c1 := 0) (c2 := 0) (as := [(4, 1)]) (asC := [(4, 0)]) (LN := [(7, (0, 0)), (6, (0, 1)), (5, (0, 0)), (4, (4, 3)), (3, (4, 2)), (2, (4, 1)), (1, (4, 0)), (0, (6, 0))]) (stN := []) (hsC := jpM_19) (v := (0, 1)) (st2 := [(0, 1)]) (jM_186_8 (d := 0)) (by rfl) (by rfl) (by decide +kernel) (by rfl) (by rfl) (by omega) (by omega) (by omega) (by omega) rfl ?_
  refine jT_xiload (v := (0, 1)) (pcN := 2653) jIM_379_2651 rfl rfl rfl ?_
  refine jT_xicT (pcN := 2658) jIM_379_2653 rfl (by decide +kernel) rfl ?_
  refine jT_xiload (v := (0, 1)) (pcN := 2660) jIM_379_2658 rfl rfl rfl ?_
  refine jT_xifT (pcN := 2675) jIM_379_2660 rfl (by decide +kernel) rfl ?_
  refine jT_xgoto (pcN := 3740) jIM_379_2675 rfl ?_
  refine jT_xiinc (x := 0) (z := 5) (LN := [(5, (0, 5)), (7, (0, 0)), (6, (0, 1)), (4, (4, 3)), (3, (4, 2)), (2, (4, 1)), (1, (4, 0)), (0, (6, 0))]) (pcN := 3743) jIM_379_3740 rfl rfl (by decide) rfl rfl ?_
  refine jT_xgoto (pcN := 28) jIM_379_3743 rfl ?_
  refine jT_xiload (v := (0, 5)) (pcN := 30) jIM_379_28 rfl rfl rfl ?_
  refine jT_xaload_n (v := (6, 0)) (pcN := 31) jIM_379_30 rfl rfl rfl ?_
  refine jT_adv 1 (pcN := 32) (LN := [(5, (0, 5)), (7, (0, 0)), (6, (0, 1)), (4, (4, 3)), (3, (4, 2)), (2, (4, 1)), (1, (4, 0)), (0, (6, 0))]) (stN := [(0, 5), (0, 5)]) (hsN := jpM_318) (c1 := 0) (s1 := 0) (c2 := 0) (s2 := 0) (by exact rfl) ?_ (by omega) (by omega)
  refine jT_xiconst (k := 5) (pcN := 33) jIM_379_32 rfl ?_
  refine jT_xisub (x := 5) (y := 5) (z := 0) (pcN := 34) jIM_379_33 rfl (by decide) rfl ?_
  refine jT_xicT (pcN := 3746) jIM_379_34 rfl (by decide +kernel) rfl ?_
  refine jT_xiconst (k := 1) (pcN := 3747) jIM_379_3746 rfl ?_
  exact jT_ret rfl (by decide) (by show 30 ≤ 30; decide) (by omega) (by omega) ⟨rfl, rfl⟩
def jzM_334 : JC := (14, [(0, 2), (4, 15), (4, 16), (4, 17), (4, 18), (0, 0), (4, 19), (0, 0), (4, 20), (4, 21), (1, 1), (4, 22), (0, 0), (4, 23), (0, 0), (0, 0), (0, 0), (0, 0), (0, 0), (0, 0), (0, 0), (4, 24), (4, 25), (4, 26), (4, 27), (4, 28), (4, 29), (0, 0)], [])
def jpM_335 : List JC := [jzM_291, jzM_334, jgh, jgh, jgh, jgh, jgh, jgh, jgh, jgh, jgh, jgh, jgh, jgh, jgh, jgh, jgh, jgh, jgh, jgh, jgh, jgh, jgh, jgh, jgh, jgh, jgh, jgh, jgh, jgh]
set_option maxRecDepth 100000 in
theorem jL_34_1 {d : Nat} {x0 x1 x2 x3 x4 : Int} (h_x0 : (-2147483648) ≤ x0 ∧ x0 ≤ 2147483647) (h_x1 : 0 ≤ x1 ∧ x1 ≤ 7) (h_x2 : (-2147483648) ≤ x2 ∧ x2 ≤ (-1)) (h_x3 : (-2147483648) ≤ x3 ∧ x3 ≤ 2147483647) (h_x4 : (-2147483648) ≤ x4 ∧ x4 ≤ 2147483647) : jT [x0, x1, x2, x3, x4] (d + 3) 379 30 2598 [(5, (0, 0)), (4, (4, 3)), (3, (4, 2)), (2, (4, 1)), (1, (4, 0)), (0, (6, 0))] [] jpM_293 1 6 (fun k v hsN => k = 0 ∧ v = (0, 1)) := by
  refine jT_xaload_n (v := (4, 0)) (pcN := 2599) jIM_379_2598 rfl rfl rfl ?_
  refine jT_xaload_n (v := (6, 0)) (pcN := 2600) jIM_379_2599 rfl rfl rfl ?_
  refine jT_xiload (v := (0, 0)) (pcN := 2602) jIM_379_2600 rfl rfl rfl ?_
  refine jT_xiconst (k := 1) (pcN := 2603) jIM_379_2602 rfl ?_
  refine jT_xiadd (x := 0) (y := 1) (z := 1) (pcN := 2604) jIM_379_2603 rfl (by decide) rfl ?_
  refine jT_adv 1 (pcN := 2605) (LN := [(5, (0, 0)), (4, (4, 3)), (3, (4, 2)), (2, (4, 1)), (1, (4, 0)), (0, (6, 0))]) (stN := [(0, x1), (4, 0)]) (hsN := jpM_293) (c1 := 0) (s1 := 0) (c2 := 1) (s2 := 6) (by exact rfl) ?_ (by omega) (by omega)
  refine jT_xaload_n (v := (6, 0)) (pcN := 2606) jIM_379_2605 rfl rfl rfl ?_
  refine jT_xiload (v := (0, 0)) (pcN := 2608) jIM_379_2606 rfl rfl rfl ?_
  refine jT_xiconst (k := 2) (pcN := 2609) jIM_379_2608 rfl ?_
  refine jT_xiadd (x := 0) (y := 2) (z := 2) (pcN := 2610) jIM_379_2609 rfl (by decide) rfl ?_
  refine jT_adv 1 (pcN := 2611) (LN := [(5, (0, 0)), (4, (4, 3)), (3, (4, 2)), (2, (4, 1)), (1, (4, 0)), (0, (6, 0))]) (stN := [(0, x2), (0, x1), (4, 0)]) (hsN := jpM_293) (c1 := 0) (s1 := 0) (c2 := 1) (s2 := 6) (by exact rfl) ?_ (by omega) (by omega)
  refine jT_xaload_n (v := (6, 0)) (pcN := 2612) jIM_379_2611 rfl rfl rfl ?_
  refine jT_xiload (v := (0, 0)) (pcN := 2614) jIM_379_2612 rfl rfl rfl ?_
  refine jT_xiconst (k := 3) (pcN := 2615) jIM_379_2614 rfl ?_
  refine jT_xiadd (x := 0) (y := 3) (z := 3) (pcN := 2616) jIM_379_2615 rfl (by decide) rfl ?_
  refine jT_adv 1 (pcN := 2617) (LN := [(5, (0, 0)), (4, (4, 3)), (3, (4, 2)), (2, (4, 1)), (1, (4, 0)), (0, (6, 0))]) (stN := [(0, x3), (0, x2), (0, x1), (4, 0)]) (hsN := jpM_293) (c1 := 0) (s1 := 0) (c2 := 1) (s2 := 6) (by exact rfl) ?_ (by omega) (by omega)
  refine jT_xaload_n (v := (4, 2)) (pcN := 2618) jIM_379_2617 rfl rfl rfl ?_
  refine jT_fR [0, 2, 4, 5, 6, 7, 8, 9, 10, 11, 12, 13, 14] 30 (y := 358) (pcN := 2621) (dC := 2) (bc1 := 1) (bc2 := 6) (c1 := 0) (c2 := 0) (as := [(4, 0), (0, x1), (0, x2), (0, x3), (4, 2)]) (asC := [(4, 0), (0, x1), (0, x2), (0, x3), (4, 1)]) (LN := [(5, (0, 0)), (4, (4, 3)), (3, (4, 2)), (2, (4, 1)), (1, (4, 0)), (0, (6, 0))]) (stN := []) (hsC := jpM_14) (v := (0, 2)) (st2 := [(0, 2)]) (jM_358_11 (d := 0) (by omega) (by omega) (by omega)) (by rfl) (by rfl) (by decide +kernel) (by rfl) (by rfl) (by omega) (by omega) (by omega) (by omega) rfl ?_
  refine jT_xistore (v := (0, 2)) (LN := [(6, (0, 2)), (5, (0, 0)), (4, (4, 3)), (3, (4, 2)), (2, (4, 1)), (1, (4, 0)), (0, (6, 0))]) (pcN := 2623) jIM_379_2621 rfl rfl rfl rfl ?_
  refine jT_xaload_n (v := (4, 1)) (pcN := 2624) jIM_379_2623 rfl rfl rfl ?_
  refine jT_xaload_n (v := (6, 0)) (pcN := 2625) jIM_379_2624 rfl rfl rfl ?_
  refine jT_xiload (v := (0, 0)) (pcN := 2627) jIM_379_2625 rfl rfl rfl ?_
  refine jT_xiconst (k := 1) (pcN := 2628) jIM_379_2627 rfl ?_
  refine jT_xiadd (x := 0) (y := 1) (z := 1) (pcN := 2629) jIM_379_2628 rfl (by decide) rfl ?_
  refine jT_adv 1 (pcN := 2630) (LN := [(6, (0, 2)), (5, (0, 0)), (4, (4, 3)), (3, (4, 2)), (2, (4, 1)), (1, (4, 0)), (0, (6, 0))]) (stN := [(0, x1), (4, 1)]) (hsN := jpM_293) (c1 := 0) (s1 := 0) (c2 := 0) (s2 := 0) (by exact rfl) ?_ (by omega) (by omega)
  refine jT_xaload_n (v := (6, 0)) (pcN := 2631) jIM_379_2630 rfl rfl rfl ?_
  refine jT_xiload (v := (0, 0)) (pcN := 2633) jIM_379_2631 rfl rfl rfl ?_
  refine jT_xiconst (k := 2) (pcN := 2634) jIM_379_2633 rfl ?_
  refine jT_xiadd (x := 0) (y := 2) (z := 2) (pcN := 2635) jIM_379_2634 rfl (by decide) rfl ?_
  refine jT_adv 1 (pcN := 2636) (LN := [(6, (0, 2)), (5, (0, 0)), (4, (4, 3)), (3, (4, 2)), (2, (4, 1)), (1, (4, 0)), (0, (6, 0))]) (stN := [(0, x2), (0, x1), (4, 1)]) (hsN := jpM_293) (c1 := 0) (s1 := 0) (c2 := 0) (s2 := 0) (by exact rfl) ?_ (by omega) (by omega)
  refine jT_xaload_n (v := (6, 0)) (pcN := 2637) jIM_379_2636 rfl rfl rfl ?_
  refine jT_xiload (v := (0, 0)) (pcN := 2639) jIM_379_2637 rfl rfl rfl ?_
  refine jT_xiconst (k := 3) (pcN := 2640) jIM_379_2639 rfl ?_
  refine jT_xiadd (x := 0) (y := 3) (z := 3) (pcN := 2641) jIM_379_2640 rfl (by decide) rfl ?_
  refine jT_adv 1 (pcN := 2642) (LN := [(6, (0, 2)), (5, (0, 0)), (4, (4, 3)), (3, (4, 2)), (2, (4, 1)), (1, (4, 0)), (0, (6, 0))]) (stN := [(0, x3), (0, x2), (0, x1), (4, 1)]) (hsN := jpM_293) (c1 := 0) (s1 := 0) (c2 := 0) (s2 := 0) (by exact rfl) ?_ (by omega) (by omega)
  refine jT_fB [1, 15, 16, 17, 18, 19, 20, 21, 22, 23, 24, 25, 26, 27, 28, 29] 30 (y := 287) (pcN := 2645) (dC := 2) (bc1 := 0) (bc2 := 0) (c1 := 0) (c2 := 0) (as := [(4, 1), (0, x1), (0, x2), (0, x3)]) (asC := [(4, 0), (0, x1), (0, x2), (0, x3)]) (LN := [(6, (0, 2)), (5, (0, 0)), (4, (4, 3)), (3, (4, 2)), (2, (4, 1)), (1, (4, 0)), (0, (6, 0))]) (stN := []) (hsC := jpM_21) (hsD := jpM_32) (v := (0, 0)) (st2 := [(0, 0)]) (hs2 := jpM_335) (jM_287_16 (d := 0) (by omega) (by omega) (by omega)) (by rfl) (by rfl) (by decide +kernel) (by rfl) (by rfl) (by omega) (by omega) (by omega) (by omega) rfl (by decide +kernel) ?_
  refine jT_xistore (v := (0, 0)) (LN := [(7, (0, 0)), (6, (0, 2)), (5, (0, 0)), (4, (4, 3)), (3, (4, 2)), (2, (4, 1)), (1, (4, 0)), (0, (6, 0))]) (pcN := 2647) jIM_379_2645 rfl rfl rfl rfl ?_
  refine jT_xaload_n (v := (4, 1)) (pcN := 2648) jIM_379_2647 rfl rfl rfl ?_
  refine jT_fR [1, 15, 16, 17, 18, 19, 20, 21, 22, 23, 24, 25, 26, 27, 28, 29] 30 (y := 186) (pcN := 2651) (dC := 0) (bc1 := 0) (bc2 := 0) (c1 := 0) (c2 := 0) (as := [(4, 1)]) (asC := [(4, 0)]) (LN := [(7, (0, 0)), (6, (0, 2)), (5, (0, 0)), (4, (4, 3)), (3, (4, 2)), (2, (4, 1)), (1, (4, 0)), (0, (6, 0))]) (stN := []) (hsC := jpM_32) (v := (0, 2)) (st2 := [(0, 2)]) (jM_186_17 (d := 0)) (by rfl) (by rfl) (by decide +kernel) (by rfl) (by rfl) (by omega) (by omega) (by omega) (by omega) rfl ?_
  refine jT_xiload (v := (0, 2)) (pcN := 2653) jIM_379_2651 rfl rfl rfl ?_
  refine jT_xicT (pcN := 2658) jIM_379_2653 rfl (by decide +kernel) rfl ?_
  refine jT_xiload (v := (0, 2)) (pcN := 2660) jIM_379_2658 rfl rfl rfl ?_
  refine jT_xifT (pcN := 2675) jIM_379_2660 rfl (by decide +kernel) rfl ?_
  refine jT_xgoto (pcN := 3740) jIM_379_2675 rfl ?_
  refine jT_xiinc (x := 0) (z := 5) (LN := [(5, (0, 5)), (7, (0, 0)), (6, (0, 2)), (4, (4, 3)), (3, (4, 2)), (2, (4, 1)), (1, (4, 0)), (0, (6, 0))]) (pcN := 3743) jIM_379_3740 rfl rfl (by decide) rfl rfl ?_
  refine jT_xgoto (pcN := 28) jIM_379_3743 rfl ?_
  refine jT_xiload (v := (0, 5)) (pcN := 30) jIM_379_28 rfl rfl rfl ?_
  refine jT_xaload_n (v := (6, 0)) (pcN := 31) jIM_379_30 rfl rfl rfl ?_
  refine jT_adv 1 (pcN := 32) (LN := [(5, (0, 5)), (7, (0, 0)), (6, (0, 2)), (4, (4, 3)), (3, (4, 2)), (2, (4, 1)), (1, (4, 0)), (0, (6, 0))]) (stN := [(0, 5), (0, 5)]) (hsN := jpM_335) (c1 := 0) (s1 := 0) (c2 := 0) (s2 := 0) (by exact rfl) ?_ (by omega) (by omega)
  refine jT_xiconst (k := 5) (pcN := 33) jIM_379_32 rfl ?_
  refine jT_xisub (x := 5) (y := 5) (z := 0) (pcN := 34) jIM_379_33 rfl (by decide) rfl ?_
  refine jT_xicT (pcN := 3746) jIM_379_34 rfl (by decide +kernel) rfl ?_
  refine jT_xiconst (k := 1) (pcN := 3747) jIM_379_3746 rfl ?_
  exact jT_ret rfl (by decide) (by show 30 ≤ 30; decide) (by omega) (by omega) ⟨rfl, rfl⟩
set_option maxRecDepth 100000 in
theorem jL_34_2 {d : Nat} {x0 x1 x2 x3 x4 : Int} (h_x0 : (-2147483648) ≤ x0 ∧ x0 ≤ 2147483647) (h_x1 : 0 ≤ x1 ∧ x1 ≤ 7) (h_x2 : 0 ≤ x2 ∧ x2 ≤ 2147483647) (h_x3 : (-2147483648) ≤ x3 ∧ x3 ≤ 0) (h_x4 : (-2147483648) ≤ x4 ∧ x4 ≤ 2147483647) : jT [x0, x1, x2, x3, x4] (d + 3) 379 30 2598 [(5, (0, 0)), (4, (4, 3)), (3, (4, 2)), (2, (4, 1)), (1, (4, 0)), (0, (6, 0))] [] jpM_293 1 6 (fun k v hsN => k = 0 ∧ v = (0, 1)) := by
  refine jT_xaload_n (v := (4, 0)) (pcN := 2599) jIM_379_2598 rfl rfl rfl ?_
  refine jT_xaload_n (v := (6, 0)) (pcN := 2600) jIM_379_2599 rfl rfl rfl ?_
  refine jT_xiload (v := (0, 0)) (pcN := 2602) jIM_379_2600 rfl rfl rfl ?_
  refine jT_xiconst (k := 1) (pcN := 2603) jIM_379_2602 rfl ?_
  refine jT_xiadd (x := 0) (y := 1) (z := 1) (pcN := 2604) jIM_379_2603 rfl (by decide) rfl ?_
  refine jT_adv 1 (pcN := 2605) (LN := [(5, (0, 0)), (4, (4, 3)), (3, (4, 2)), (2, (4, 1)), (1, (4, 0)), (0, (6, 0))]) (stN := [(0, x1), (4, 0)]) (hsN := jpM_293) (c1 := 0) (s1 := 0) (c2 := 1) (s2 := 6) (by exact rfl) ?_ (by omega) (by omega)
  refine jT_xaload_n (v := (6, 0)) (pcN := 2606) jIM_379_2605 rfl rfl rfl ?_
  refine jT_xiload (v := (0, 0)) (pcN := 2608) jIM_379_2606 rfl rfl rfl ?_
  refine jT_xiconst (k := 2) (pcN := 2609) jIM_379_2608 rfl ?_
  refine jT_xiadd (x := 0) (y := 2) (z := 2) (pcN := 2610) jIM_379_2609 rfl (by decide) rfl ?_
  refine jT_adv 1 (pcN := 2611) (LN := [(5, (0, 0)), (4, (4, 3)), (3, (4, 2)), (2, (4, 1)), (1, (4, 0)), (0, (6, 0))]) (stN := [(0, x2), (0, x1), (4, 0)]) (hsN := jpM_293) (c1 := 0) (s1 := 0) (c2 := 1) (s2 := 6) (by exact rfl) ?_ (by omega) (by omega)
  refine jT_xaload_n (v := (6, 0)) (pcN := 2612) jIM_379_2611 rfl rfl rfl ?_
  refine jT_xiload (v := (0, 0)) (pcN := 2614) jIM_379_2612 rfl rfl rfl ?_
  refine jT_xiconst (k := 3) (pcN := 2615) jIM_379_2614 rfl ?_
  refine jT_xiadd (x := 0) (y := 3) (z := 3) (pcN := 2616) jIM_379_2615 rfl (by decide) rfl ?_
  refine jT_adv 1 (pcN := 2617) (LN := [(5, (0, 0)), (4, (4, 3)), (3, (4, 2)), (2, (4, 1)), (1, (4, 0)), (0, (6, 0))]) (stN := [(0, x3), (0, x2), (0, x1), (4, 0)]) (hsN := jpM_293) (c1 := 0) (s1 := 0) (c2 := 1) (s2 := 6) (by exact rfl) ?_ (by omega) (by omega)
  refine jT_xaload_n (v := (4, 2)) (pcN := 2618) jIM_379_2617 rfl rfl rfl ?_
  refine jT_fR [0, 2, 4, 5, 6, 7, 8, 9, 10, 11, 12, 13, 14] 30 (y := 358) (pcN := 2621) (dC := 2) (bc1 := 1) (bc2 := 6) (c1 := 0) (c2 := 0) (as := [(4, 0), (0, x1), (0, x2), (0, x3), (4, 2)]) (asC := [(4, 0), (0, x1), (0, x2), (0, x3), (4, 1)]) (LN := [(5, (0, 0)), (4, (4, 3)), (3, (4, 2)), (2, (4, 1)), (1, (4, 0)), (0, (6, 0))]) (stN := []) (hsC := jpM_14) (v := (0, 2)) (st2 := [(0, 2)]) (jM_358_20 (d := 0) (by omega) (by omega) (by omega)) (by rfl) (by rfl) (by decide +kernel) (by rfl) (by rfl) (by omega) (by omega) (by omega) (by omega) rfl ?_
  refine jT_xistore (v := (0, 2)) (LN := [(6, (0, 2)), (5, (0, 0)), (4, (4, 3)), (3, (4, 2)), (2, (4, 1)), (1, (4, 0)), (0, (6, 0))]) (pcN := 2623) jIM_379_2621 rfl rfl rfl rfl ?_
  refine jT_xaload_n (v := (4, 1)) (pcN := 2624) jIM_379_2623 rfl rfl rfl ?_
  refine jT_xaload_n (v := (6, 0)) (pcN := 2625) jIM_379_2624 rfl rfl rfl ?_
  refine jT_xiload (v := (0, 0)) (pcN := 2627) jIM_379_2625 rfl rfl rfl ?_
  refine jT_xiconst (k := 1) (pcN := 2628) jIM_379_2627 rfl ?_
  refine jT_xiadd (x := 0) (y := 1) (z := 1) (pcN := 2629) jIM_379_2628 rfl (by decide) rfl ?_
  refine jT_adv 1 (pcN := 2630) (LN := [(6, (0, 2)), (5, (0, 0)), (4, (4, 3)), (3, (4, 2)), (2, (4, 1)), (1, (4, 0)), (0, (6, 0))]) (stN := [(0, x1), (4, 1)]) (hsN := jpM_293) (c1 := 0) (s1 := 0) (c2 := 0) (s2 := 0) (by exact rfl) ?_ (by omega) (by omega)
  refine jT_xaload_n (v := (6, 0)) (pcN := 2631) jIM_379_2630 rfl rfl rfl ?_
  refine jT_xiload (v := (0, 0)) (pcN := 2633) jIM_379_2631 rfl rfl rfl ?_
  refine jT_xiconst (k := 2) (pcN := 2634) jIM_379_2633 rfl ?_
  refine jT_xiadd (x := 0) (y := 2) (z := 2) (pcN := 2635) jIM_379_2634 rfl (by decide) rfl ?_
  refine jT_adv 1 (pcN := 2636) (LN := [(6, (0, 2)), (5, (0, 0)), (4, (4, 3)), (3, (4, 2)), (2, (4, 1)), (1, (4, 0)), (0, (6, 0))]) (stN := [(0, x2), (0, x1), (4, 1)]) (hsN := jpM_293) (c1 := 0) (s1 := 0) (c2 := 0) (s2 := 0) (by exact rfl) ?_ (by omega) (by omega)
  refine jT_xaload_n (v := (6, 0)) (pcN := 2637) jIM_379_2636 rfl rfl rfl ?_
  refine jT_xiload (v := (0, 0)) (pcN := 2639) jIM_379_2637 rfl rfl rfl ?_
  refine jT_xiconst (k := 3) (pcN := 2640) jIM_379_2639 rfl ?_
  refine jT_xiadd (x := 0) (y := 3) (z := 3) (pcN := 2641) jIM_379_2640 rfl (by decide) rfl ?_
  refine jT_adv 1 (pcN := 2642) (LN := [(6, (0, 2)), (5, (0, 0)), (4, (4, 3)), (3, (4, 2)), (2, (4, 1)), (1, (4, 0)), (0, (6, 0))]) (stN := [(0, x3), (0, x2), (0, x1), (4, 1)]) (hsN := jpM_293) (c1 := 0) (s1 := 0) (c2 := 0) (s2 := 0) (by exact rfl) ?_ (by omega) (by omega)
  refine jT_fB [1, 15, 16, 17, 18, 19, 20, 21, 22, 23, 24, 25, 26, 27, 28, 29] 30 (y := 287) (pcN := 2645) (dC := 2) (bc1 := 0) (bc2 := 0) (c1 := 0) (c2 := 0) (as := [(4, 1), (0, x1), (0, x2), (0, x3)]) (asC := [(4, 0), (0, x1), (0, x2), (0, x3)]) (LN := [(6, (0, 2)), (5, (0, 0)), (4, (4, 3)), (3, (4, 2)), (2, (4, 1)), (1, (4, 0)), (0, (6, 0))]) (stN := []) (hsC := jpM_21) (hsD := jpM_32) (v := (0, 0)) (st2 := [(0, 0)]) (hs2 := jpM_335) (jM_287_21 (d := 0) (by omega) (by omega) (by omega)) (by rfl) (by rfl) (by decide +kernel) (by rfl) (by rfl) (by omega) (by omega) (by omega) (by omega) rfl (by decide +kernel) ?_
  refine jT_xistore (v := (0, 0)) (LN := [(7, (0, 0)), (6, (0, 2)), (5, (0, 0)), (4, (4, 3)), (3, (4, 2)), (2, (4, 1)), (1, (4, 0)), (0, (6, 0))]) (pcN := 2647) jIM_379_2645 rfl rfl rfl rfl ?_
  refine jT_xaload_n (v := (4, 1)) (pcN := 2648) jIM_379_2647 rfl rfl rfl ?_
  refine jT_fR [1, 15, 16, 17, 18, 19, 20, 21, 22, 23, 24, 25, 26, 27, 28, 29] 30 (y := 186) (pcN := 2651) (dC := 0) (bc1 := 0) (bc2 := 0) (c1 := 0) (c2 := 0) (as := [(4, 1)]) (asC := [(4, 0)]) (LN := [(7, (0, 0)), (6, (0, 2)), (5, (0, 0)), (4, (4, 3)), (3, (4, 2)), (2, (4, 1)), (1, (4, 0)), (0, (6, 0))]) (stN := []) (hsC := jpM_32) (v := (0, 2)) (st2 := [(0, 2)]) (jM_186_17 (d := 0)) (by rfl) (by rfl) (by decide +kernel) (by rfl) (by rfl) (by omega) (by omega) (by omega) (by omega) rfl ?_
  refine jT_xiload (v := (0, 2)) (pcN := 2653) jIM_379_2651 rfl rfl rfl ?_
  refine jT_xicT (pcN := 2658) jIM_379_2653 rfl (by decide +kernel) rfl ?_
  refine jT_xiload (v := (0, 2)) (pcN := 2660) jIM_379_2658 rfl rfl rfl ?_
  refine jT_xifT (pcN := 2675) jIM_379_2660 rfl (by decide +kernel) rfl ?_
  refine jT_xgoto (pcN := 3740) jIM_379_2675 rfl ?_
  refine jT_xiinc (x := 0) (z := 5) (LN := [(5, (0, 5)), (7, (0, 0)), (6, (0, 2)), (4, (4, 3)), (3, (4, 2)), (2, (4, 1)), (1, (4, 0)), (0, (6, 0))]) (pcN := 3743) jIM_379_3740 rfl rfl (by decide) rfl rfl ?_
  refine jT_xgoto (pcN := 28) jIM_379_3743 rfl ?_
  refine jT_xiload (v := (0, 5)) (pcN := 30) jIM_379_28 rfl rfl rfl ?_
  refine jT_xaload_n (v := (6, 0)) (pcN := 31) jIM_379_30 rfl rfl rfl ?_
  refine jT_adv 1 (pcN := 32) (LN := [(5, (0, 5)), (7, (0, 0)), (6, (0, 2)), (4, (4, 3)), (3, (4, 2)), (2, (4, 1)), (1, (4, 0)), (0, (6, 0))]) (stN := [(0, 5), (0, 5)]) (hsN := jpM_335) (c1 := 0) (s1 := 0) (c2 := 0) (s2 := 0) (by exact rfl) ?_ (by omega) (by omega)
  refine jT_xiconst (k := 5) (pcN := 33) jIM_379_32 rfl ?_
  refine jT_xisub (x := 5) (y := 5) (z := 0) (pcN := 34) jIM_379_33 rfl (by decide) rfl ?_
  refine jT_xicT (pcN := 3746) jIM_379_34 rfl (by decide +kernel) rfl ?_
  refine jT_xiconst (k := 1) (pcN := 3747) jIM_379_3746 rfl ?_
  exact jT_ret rfl (by decide) (by show 30 ≤ 30; decide) (by omega) (by omega) ⟨rfl, rfl⟩
def jzM_336 : JC := (9, [(4, 34), (4, 35), (4, 36), (4, 37), (4, 38)], [])
def jzM_337 : JC := (114, [], [48, 48, 48, 48, 48, 48, 48, 48])
def jpM_338 : List JC := [jzM_291, jzM_292, (101, [], [0]), jgh, (8, [(4, 30), (4, 31)], []), (2, [(4, 32), (4, 33)], []), jgh, jgh, jgh, jgh, jgh, jgh, jgh, jgh, jzM_336, (100, [], jS0), jgh, jgh, jgh, jgh, (130, [], [39, 40, 41, 42, 43, 44]), (101, [], [0, 0, 0, 0, 0, 0]), jgh, jgh, jgh, jgh, jgh, jgh, jgh, jgh, (3, [(4, 45), (1, 0)], []), (101, [], [0, 0, 0, 0, 0, 0]), (12, [(4, 46), (0, 0)], []), (12, [(4, 47), (0, 0)], []), jzM_337, jgh, jgh, jgh, jgh, (100, [], (jenc (jlg 0))), jgh, jgh, jgh, jgh, jgh, (100, [], List.replicate 20 0), (100, [], List.replicate 48 0), (100, [], List.replicate 48 0), (4, [(4, 49), (1, 1)], []), (101, [], [0, 0, 0, 0, 0, 0])]
def jpM_339 : List JC := [jzM_291, jzM_292, (101, [], [1]), jgh, (8, [(4, 30), (4, 31)], []), (2, [(4, 33), (4, 32)], []), jgh, jgh, jgh, jgh, jgh, jgh, jgh, jgh, jzM_336, (100, [], jS0), jgh, jgh, jgh, jgh, (130, [], [39, 40, 41, 42, 43, 44]), (101, [], [0, 0, 0, 0, 0, 0]), jgh, jgh, jgh, jgh, jgh, jgh, jgh, jgh, (3, [(4, 45), (1, 0)], []), (101, [], [0, 0, 0, 0, 0, 0]), (12, [(4, 46), (0, 0)], []), (12, [(4, 47), (0, 21)], []), jzM_337, jgh, jgh, jgh, jgh, (100, [], (jenc (jlg 0))), jgh, jgh, jgh, jgh, jgh, (100, [], List.replicate 20 0), (100, [], List.replicate 48 0), jzM_82, (4, [(4, 49), (1, 1)], []), (101, [], [0, 0, 0, 0, 0, 0])]
def jpM_340 : List JC := [jzM_291, jzM_292, (101, [], [1]), jgh, (8, [(4, 30), (4, 31)], []), (2, [(4, 33), (4, 32)], []), jgh, jgh, jgh, jgh, jgh, jgh, jgh, jgh, jzM_336, (100, [], jS0), jgh, jgh, jgh, jgh, (130, [], [39, 40, 41, 42, 43, 44]), (101, [], [0, 0, 0, 0, 0, 0]), jgh, jgh, jgh, jgh, jgh, jgh, jgh, jgh, (3, [(4, 45), (1, 0)], []), (101, [], [0, 0, 0, 0, 0, 0]), (12, [(4, 46), (0, 0)], []), (12, [(4, 47), (0, 21)], []), jzM_337, jgh, jgh, jgh, jgh, (100, [], (jenc (jlg 0))), jgh, jgh, jgh, jgh, jgh, (100, [], List.replicate 20 0), (100, [], List.replicate 48 0), jzM_82, (4, [(4, 49), (1, 1)], []), (101, [], [0, 0, 0, 0, 0, 0]), (101, [], [0, 0, 0, 0, 0, 0]), (101, [], [0, 0, 0, 0, 0, 0]), (101, [], [1, 0, 0, 0, 0, 0]), (101, [], [1, 0, 0, 0, 0, 0]), (100, [], (jenc 0)), (100, [], (jenc 1)), (100, [], (jenc (1 * (jlg 0)))), (101, [], [(-1), 0, 0, 0, 0, 0]), (100, [], (jenc 0)), (100, [], (jenc (-1))), (100, [], (jenc ((-1) * (jlg 0))))]
theorem jIM_379_2663 : jmI (jm 379) 2663 = (.aload_n 3, 1) := by rfl
theorem jIM_379_2664 : jmI (jm 379) 2664 = (.iconst 0, 1) := by rfl
theorem jIM_379_2665 : jmI (jm 379) 2665 = (.laload, 1) := by rfl
theorem jIM_379_2666 : jmI (jm 379) 2666 = (.iload 7, 2) := by rfl
theorem jIM_379_2668 : jmI (jm 379) 2668 = (.i2l, 1) := by rfl
theorem jIM_379_2670 : jmI (jm 379) 2670 = (.ifCond .eq 5, 3) := by rfl
set_option maxRecDepth 100000 in
theorem jL_34_3 {d : Nat} {x0 x1 x2 x3 x4 : Int} (h_x0 : (-2147483648) ≤ x0 ∧ x0 ≤ 2147483647) (h_x1 : 0 ≤ x1 ∧ x1 ≤ 7) (h_x2 : 0 ≤ x2 ∧ x2 ≤ 0) (h_x3 : 1 ≤ x3 ∧ x3 ≤ 2000) (h_x4 : (-2147483648) ≤ x4 ∧ x4 ≤ 2147483647) : jT [x0, x1, x2, x3, x4] (d + 8) 379 50 2598 [(5, (0, 0)), (4, (4, 3)), (3, (4, 2)), (2, (4, 1)), (1, (4, 0)), (0, (6, 0))] [] jpM_338 11 366 (fun k v hsN => k = 0 ∧ v = (0, 1)) := by
  refine jT_xaload_n (v := (4, 0)) (pcN := 2599) jIM_379_2598 rfl rfl rfl ?_
  refine jT_xaload_n (v := (6, 0)) (pcN := 2600) jIM_379_2599 rfl rfl rfl ?_
  refine jT_xiload (v := (0, 0)) (pcN := 2602) jIM_379_2600 rfl rfl rfl ?_
  refine jT_xiconst (k := 1) (pcN := 2603) jIM_379_2602 rfl ?_
  refine jT_xiadd (x := 0) (y := 1) (z := 1) (pcN := 2604) jIM_379_2603 rfl (by decide) rfl ?_
  refine jT_adv 1 (pcN := 2605) (LN := [(5, (0, 0)), (4, (4, 3)), (3, (4, 2)), (2, (4, 1)), (1, (4, 0)), (0, (6, 0))]) (stN := [(0, x1), (4, 0)]) (hsN := jpM_338) (c1 := 0) (s1 := 0) (c2 := 11) (s2 := 366) (by exact rfl) ?_ (by omega) (by omega)
  refine jT_xaload_n (v := (6, 0)) (pcN := 2606) jIM_379_2605 rfl rfl rfl ?_
  refine jT_xiload (v := (0, 0)) (pcN := 2608) jIM_379_2606 rfl rfl rfl ?_
  refine jT_xiconst (k := 2) (pcN := 2609) jIM_379_2608 rfl ?_
  refine jT_xiadd (x := 0) (y := 2) (z := 2) (pcN := 2610) jIM_379_2609 rfl (by decide) rfl ?_
  refine jT_adv 1 (pcN := 2611) (LN := [(5, (0, 0)), (4, (4, 3)), (3, (4, 2)), (2, (4, 1)), (1, (4, 0)), (0, (6, 0))]) (stN := [(0, x2), (0, x1), (4, 0)]) (hsN := jpM_338) (c1 := 0) (s1 := 0) (c2 := 11) (s2 := 366) (by exact rfl) ?_ (by omega) (by omega)
  refine jT_eq (LN := [(5, (0, 0)), (4, (4, 3)), (3, (4, 2)), (2, (4, 1)), (1, (4, 0)), (0, (6, 0))]) (stN := [(0, 0), (0, x1), (4, 0)]) (hsN := [jzM_291, jzM_292, (101, [], [0]), jgh, (8, [(4, 30), (4, 31)], []), (2, [(4, 32), (4, 33)], []), jgh, jgh, jgh, jgh, jgh, jgh, jgh, jgh, jzM_336, (100, [], jS0), jgh, jgh, jgh, jgh, (130, [], [39, 40, 41, 42, 43, 44]), (101, [], [0, 0, 0, 0, 0, 0]), jgh, jgh, jgh, jgh, jgh, jgh, jgh, jgh, (3, [(4, 45), (1, 0)], []), (101, [], [0, 0, 0, 0, 0, 0]), (12, [(4, 46), (0, 0)], []), (12, [(4, 47), (0, 0)], []), jzM_337, jgh, jgh, jgh, jgh, (100, [], (jenc (jlg 0))), jgh, jgh, jgh, jgh, jgh, (100, [], List.replicate 20 0), (100, [], List.replicate 48 0), (100, [], List.replicate 48 0), (4, [(4, 49), (1, 1)], []), (101, [], [0, 0, 0, 0, 0, 0])]) (rfl) (by simp only [List.cons.injEq, Prod.mk.injEq, and_true, true_and] <;> ((try unfold jw); (try unfold jwl); omega)) (rfl) ?_
  refine jT_xaload_n (v := (6, 0)) (pcN := 2612) jIM_379_2611 rfl rfl rfl ?_
  refine jT_xiload (v := (0, 0)) (pcN := 2614) jIM_379_2612 rfl rfl rfl ?_
  refine jT_xiconst (k := 3) (pcN := 2615) jIM_379_2614 rfl ?_
  refine jT_xiadd (x := 0) (y := 3) (z := 3) (pcN := 2616) jIM_379_2615 rfl (by decide) rfl ?_
  refine jT_adv 1 (pcN := 2617) (LN := [(5, (0, 0)), (4, (4, 3)), (3, (4, 2)), (2, (4, 1)), (1, (4, 0)), (0, (6, 0))]) (stN := [(0, x3), (0, 0), (0, x1), (4, 0)]) (hsN := jpM_338) (c1 := 0) (s1 := 0) (c2 := 11) (s2 := 366) (by exact rfl) ?_ (by omega) (by omega)
  refine jT_xaload_n (v := (4, 2)) (pcN := 2618) jIM_379_2617 rfl rfl rfl ?_
  refine jT_fB [0, 2, 4, 5, 6, 7, 8, 9, 10, 11, 12, 13, 14, 30, 31, 32, 33, 34, 35, 36, 37, 38, 45, 46, 47, 48, 49] 50 (y := 358) (pcN := 2621) (dC := 6) (bc1 := 0) (bc2 := 0) (c1 := 11) (c2 := 366) (as := [(4, 0), (0, x1), (0, 0), (0, x3), (4, 2)]) (asC := [(4, 0), (0, x1), (0, 0), (0, x3), (4, 1)]) (LN := [(5, (0, 0)), (4, (4, 3)), (3, (4, 2)), (2, (4, 1)), (1, (4, 0)), (0, (6, 0))]) (stN := []) (hsC := jpM_140) (hsD := jpM_137) (v := (0, 0)) (st2 := [(0, 0)]) (hs2 := jpM_339) (jM_358_42 (d := 0) (by omega) (by omega)) (by rfl) (by rfl) (by decide +kernel) (by rfl) (by rfl) (by omega) (by omega) (by omega) (by omega) rfl (by decide +kernel) ?_
  refine jT_xistore (v := (0, 0)) (LN := [(6, (0, 0)), (5, (0, 0)), (4, (4, 3)), (3, (4, 2)), (2, (4, 1)), (1, (4, 0)), (0, (6, 0))]) (pcN := 2623) jIM_379_2621 rfl rfl rfl rfl ?_
  refine jT_xaload_n (v := (4, 1)) (pcN := 2624) jIM_379_2623 rfl rfl rfl ?_
  refine jT_xaload_n (v := (6, 0)) (pcN := 2625) jIM_379_2624 rfl rfl rfl ?_
  refine jT_xiload (v := (0, 0)) (pcN := 2627) jIM_379_2625 rfl rfl rfl ?_
  refine jT_xiconst (k := 1) (pcN := 2628) jIM_379_2627 rfl ?_
  refine jT_xiadd (x := 0) (y := 1) (z := 1) (pcN := 2629) jIM_379_2628 rfl (by decide) rfl ?_
  refine jT_adv 1 (pcN := 2630) (LN := [(6, (0, 0)), (5, (0, 0)), (4, (4, 3)), (3, (4, 2)), (2, (4, 1)), (1, (4, 0)), (0, (6, 0))]) (stN := [(0, x1), (4, 1)]) (hsN := jpM_339) (c1 := 0) (s1 := 0) (c2 := 11) (s2 := 366) (by exact rfl) ?_ (by omega) (by omega)
  refine jT_xaload_n (v := (6, 0)) (pcN := 2631) jIM_379_2630 rfl rfl rfl ?_
  refine jT_xiload (v := (0, 0)) (pcN := 2633) jIM_379_2631 rfl rfl rfl ?_
  refine jT_xiconst (k := 2) (pcN := 2634) jIM_379_2633 rfl ?_
  refine jT_xiadd (x := 0) (y := 2) (z := 2) (pcN := 2635) jIM_379_2634 rfl (by decide) rfl ?_
  refine jT_adv 1 (pcN := 2636) (LN := [(6, (0, 0)), (5, (0, 0)), (4, (4, 3)), (3, (4, 2)), (2, (4, 1)), (1, (4, 0)), (0, (6, 0))]) (stN := [(0, x2), (0, x1), (4, 1)]) (hsN := jpM_339) (c1 := 0) (s1 := 0) (c2 := 11) (s2 := 366) (by exact rfl) ?_ (by omega) (by omega)
  refine jT_eq (LN := [(6, (0, 0)), (5, (0, 0)), (4, (4, 3)), (3, (4, 2)), (2, (4, 1)), (1, (4, 0)), (0, (6, 0))]) (stN := [(0, 0), (0, x1), (4, 1)]) (hsN := [jzM_291, jzM_292, (101, [], [1]), jgh, (8, [(4, 30), (4, 31)], []), (2, [(4, 33), (4, 32)], []), jgh, jgh, jgh, jgh, jgh, jgh, jgh, jgh, jzM_336, (100, [], jS0), jgh, jgh, jgh, jgh, (130, [], [39, 40, 41, 42, 43, 44]), (101, [], [0, 0, 0, 0, 0, 0]), jgh, jgh, jgh, jgh, jgh, jgh, jgh, jgh, (3, [(4, 45), (1, 0)], []), (101, [], [0, 0, 0, 0, 0, 0]), (12, [(4, 46), (0, 0)], []), (12, [(4, 47), (0, 21)], []), jzM_337, jgh, jgh, jgh, jgh, (100, [], (jenc (jlg 0))), jgh, jgh, jgh, jgh, jgh, (100, [], List.replicate 20 0), (100, [], List.replicate 48 0), jzM_82, (4, [(4, 49), (1, 1)], []), (101, [], [0, 0, 0, 0, 0, 0])]) (rfl) (by simp only [List.cons.injEq, Prod.mk.injEq, and_true, true_and] <;> ((try unfold jw); (try unfold jwl); omega)) (rfl) ?_
  refine jT_xaload_n (v := (6, 0)) (pcN := 2637) jIM_379_2636 rfl rfl rfl ?_
  refine jT_xiload (v := (0, 0)) (pcN := 2639) jIM_379_2637 rfl rfl rfl ?_
  refine jT_xiconst (k := 3) (pcN := 2640) jIM_379_2639 rfl ?_
  refine jT_xiadd (x := 0) (y := 3) (z := 3) (pcN := 2641) jIM_379_2640 rfl (by decide) rfl ?_
  refine jT_adv 1 (pcN := 2642) (LN := [(6, (0, 0)), (5, (0, 0)), (4, (4, 3)), (3, (4, 2)), (2, (4, 1)), (1, (4, 0)), (0, (6, 0))]) (stN := [(0, x3), (0, 0), (0, x1), (4, 1)]) (hsN := jpM_339) (c1 := 0) (s1 := 0) (c2 := 11) (s2 := 366) (by exact rfl) ?_ (by omega) (by omega)
  refine jT_fA [1, 15, 16, 17, 18, 19, 20, 21, 22, 23, 24, 25, 26, 27, 28, 29, 39, 40, 41, 42, 43, 44] 50 (y := 287) (pcN := 2645) (dC := 7) (bc1 := 11) (bc2 := 366) (c1 := 0) (c2 := 0) (as := [(4, 1), (0, x1), (0, 0), (0, x3)]) (asC := [(4, 0), (0, x1), (0, 0), (0, x3)]) (LN := [(6, (0, 0)), (5, (0, 0)), (4, (4, 3)), (3, (4, 2)), (2, (4, 1)), (1, (4, 0)), (0, (6, 0))]) (stN := []) (hsC := jpM_197) (ex := jpM_235) (v := (0, 1)) (st2 := [(0, 1)]) (hs2 := jpM_340) (jM_287_58 (d := 0) (by omega) (by omega)) (by rfl) (by rfl) (by decide +kernel) (by rfl) (by rfl) (by omega) (by omega) (by omega) (by omega) rfl (by decide +kernel) ?_
  refine jT_xistore (v := (0, 1)) (LN := [(7, (0, 1)), (6, (0, 0)), (5, (0, 0)), (4, (4, 3)), (3, (4, 2)), (2, (4, 1)), (1, (4, 0)), (0, (6, 0))]) (pcN := 2647) jIM_379_2645 rfl rfl rfl rfl ?_
  refine jT_xaload_n (v := (4, 1)) (pcN := 2648) jIM_379_2647 rfl rfl rfl ?_
  refine jT_fR [1, 15, 16, 17, 18, 19, 20, 21, 22, 23, 24, 25, 26, 27, 28, 29] 61 (y := 186) (pcN := 2651) (dC := 0) (bc1 := 0) (bc2 := 0) (c1 := 0) (c2 := 0) (as := [(4, 1)]) (asC := [(4, 0)]) (LN := [(7, (0, 1)), (6, (0, 0)), (5, (0, 0)), (4, (4, 3)), (3, (4, 2)), (2, (4, 1)), (1, (4, 0)), (0, (6, 0))]) (stN := []) (hsC := jpM_21) (v := (0, 0)) (st2 := [(0, 0)]) (jM_186_59 (d := 0)) (by rfl) (by rfl) (by decide +kernel) (by rfl) (by rfl) (by omega) (by omega) (by omega) (by omega) rfl ?_
  refine jT_xiload (v := (0, 0)) (pcN := 2653) jIM_379_2651 rfl rfl rfl ?_
  refine jT_xicT (pcN := 2658) jIM_379_2653 rfl (by decide +kernel) rfl ?_
  refine jT_xiload (v := (0, 0)) (pcN := 2660) jIM_379_2658 rfl rfl rfl ?_
  refine jT_xifF (t := 2675) (pcN := 2663) jIM_379_2660 rfl (by decide +kernel) rfl rfl ?_
  refine jT_xaload_n (v := (4, 2)) (pcN := 2664) jIM_379_2663 rfl rfl rfl ?_
  refine jT_xiconst (k := 0) (pcN := 2665) jIM_379_2664 rfl ?_
  refine jT_lald (x := 1) (a := 2) (j := 0) (fs := []) (X := [1]) jIM_379_2665 rfl rfl rfl rfl ?_
  refine jT_eq (LN := [(7, (0, 1)), (6, (0, 0)), (5, (0, 0)), (4, (4, 3)), (3, (4, 2)), (2, (4, 1)), (1, (4, 0)), (0, (6, 0))]) (stN := [(1, 1)]) (hsN := jpM_340) rfl rfl rfl ?_
  refine jT_xiload (v := (0, 1)) (pcN := 2668) jIM_379_2666 rfl rfl rfl ?_
  refine jT_xi2l (x := 1) (z := 1) (pcN := 2669) jIM_379_2668 rfl (by decide +kernel) rfl ?_
  refine jT_lcmp (a := 1) (b := 1) (z := 0) (by rfl) (by rfl) (by decide +kernel) (by decide +kernel) (by decide) ?_
  refine jT_xifT (pcN := 2675) jIM_379_2670 rfl (by decide +kernel) rfl ?_
  refine jT_xgoto (pcN := 3740) jIM_379_2675 rfl ?_
  refine jT_xiinc (x := 0) (z := 5) (LN := [(5, (0, 5)), (7, (0, 1)), (6, (0, 0)), (4, (4, 3)), (3, (4, 2)), (2, (4, 1)), (1, (4, 0)), (0, (6, 0))]) (pcN := 3743) jIM_379_3740 rfl rfl (by decide) rfl rfl ?_
  refine jT_xgoto (pcN := 28) jIM_379_3743 rfl ?_
  refine jT_xiload (v := (0, 5)) (pcN := 30) jIM_379_28 rfl rfl rfl ?_
  refine jT_xaload_n (v := (6, 0)) (pcN := 31) jIM_379_30 rfl rfl rfl ?_
  refine jT_adv 1 (pcN := 32) (LN := [(5, (0, 5)), (7, (0, 1)), (6, (0, 0)), (4, (4, 3)), (3, (4, 2)), (2, (4, 1)), (1, (4, 0)), (0, (6, 0))]) (stN := [(0, 5), (0, 5)]) (hsN := jpM_340) (c1 := 0) (s1 := 0) (c2 := 0) (s2 := 0) (by exact rfl) ?_ (by omega) (by omega)
  refine jT_xiconst (k := 5) (pcN := 33) jIM_379_32 rfl ?_
  refine jT_xisub (x := 5) (y := 5) (z := 0) (pcN := 34) jIM_379_33 rfl (by decide) rfl ?_
  refine jT_xicT (pcN := 3746) jIM_379_34 rfl (by decide +kernel) rfl ?_
  refine jT_xiconst (k := 1) (pcN := 3747) jIM_379_3746 rfl ?_
  exact jT_ret rfl (by decide) (by show 50 ≤ 61; decide) (by omega) (by omega) ⟨rfl, rfl⟩
def jpM_347 : List JC := [jzM_291, jzM_292, jgh, jgh, (8, [(4, 30), (4, 31)], []), (2, [(4, 32), (4, 33)], []), jgh, jgh, jgh, jgh, jgh, jgh, jgh, jgh, jzM_336, (100, [], jS0), jgh, jgh, jgh, jgh, (130, [], [39, 40, 41, 42, 43, 44]), (101, [], [0, 0, 0, 0, 0, 0]), jgh, jgh, jgh, jgh, jgh, jgh, jgh, jgh, (3, [(4, 45), (1, 0)], []), (101, [], [0, 0, 0, 0, 0, 0]), (12, [(4, 46), (0, 0)], []), (12, [(4, 47), (0, 0)], []), jzM_337, jgh, jgh, jgh, jgh, (100, [], (jenc (jlg 0))), jgh, jgh, jgh, jgh, jgh, (100, [], List.replicate 20 0), (100, [], List.replicate 48 0), (100, [], List.replicate 48 0), (4, [(4, 49), (1, 1)], []), (101, [], [0, 0, 0, 0, 0, 0])]
def jpM_348 : List JC := [jzM_291, jzM_292, jgh, jgh, (8, [(4, 30), (4, 31)], []), (2, [(4, 33), (4, 32)], []), jgh, jgh, jgh, jgh, jgh, jgh, jgh, jgh, jzM_336, (100, [], jS0), jgh, jgh, jgh, jgh, (130, [], [39, 40, 41, 42, 43, 44]), (101, [], [0, 0, 0, 0, 0, 0]), jgh, jgh, jgh, jgh, jgh, jgh, jgh, jgh, (3, [(4, 45), (1, 0)], []), (101, [], [0, 0, 0, 0, 0, 0]), (12, [(4, 46), (0, 0)], []), (12, [(4, 47), (0, 21)], []), jzM_337, jgh, jgh, jgh, jgh, (100, [], (jenc (jlg 0))), jgh, jgh, jgh, jgh, jgh, (100, [], List.replicate 20 0), (100, [], List.replicate 48 0), jzM_82, (4, [(4, 49), (1, 1)], []), (101, [], [0, 0, 0, 0, 0, 0])]
def jzM_349 : JC := (14, [(0, 3), (4, 15), (4, 16), (4, 17), (4, 18), (0, 0), (4, 19), (0, 0), (4, 20), (4, 21), (1, 1), (4, 22), (0, 0), (4, 23), (0, 0), (0, 0), (0, 0), (0, 0), (0, 0), (0, 0), (0, 0), (4, 24), (4, 25), (4, 26), (4, 27), (4, 28), (4, 29), (0, 0)], [])
def jpM_350 : List JC := [jzM_291, jzM_349, jgh, jgh, (8, [(4, 30), (4, 31)], []), (2, [(4, 33), (4, 32)], []), jgh, jgh, jgh, jgh, jgh, jgh, jgh, jgh, jzM_336, (100, [], jS0), jgh, jgh, jgh, jgh, (130, [], [39, 40, 41, 42, 43, 44]), (101, [], [0, 0, 0, 0, 0, 0]), jgh, jgh, jgh, jgh, jgh, jgh, jgh, jgh, (3, [(4, 45), (1, 0)], []), (101, [], [0, 0, 0, 0, 0, 0]), (12, [(4, 46), (0, 0)], []), (12, [(4, 47), (0, 21)], []), jzM_337, jgh, jgh, jgh, jgh, (100, [], (jenc (jlg 0))), jgh, jgh, jgh, jgh, jgh, (100, [], List.replicate 20 0), (100, [], List.replicate 48 0), jzM_82, (4, [(4, 49), (1, 1)], []), (101, [], [0, 0, 0, 0, 0, 0]), (101, [], [0, 0, 0, 0, 0, 0]), (101, [], [0, 0, 0, 0, 0, 0]), (101, [], [1, 0, 0, 0, 0, 0]), (101, [], [1, 0, 0, 0, 0, 0]), (100, [], (jenc 0)), (100, [], (jenc 1)), (100, [], (jenc (1 * (jlg 0)))), (101, [], [(-1), 0, 0, 0, 0, 0]), (100, [], (jenc 0)), (100, [], (jenc (-1))), (100, [], (jenc ((-1) * (jlg 0))))]
set_option maxRecDepth 100000 in
theorem jL_34_4 {d : Nat} {x0 x1 x2 x3 x4 : Int} (h_x0 : (-2147483648) ≤ x0 ∧ x0 ≤ 2147483647) (h_x1 : 0 ≤ x1 ∧ x1 ≤ 7) (h_x2 : 1 ≤ x2 ∧ x2 ≤ 2147483647) (h_x3 : 1 ≤ x3 ∧ x3 ≤ 2000) (h_x4 : (-2147483648) ≤ x4 ∧ x4 ≤ 2147483647) : jT [x0, x1, x2, x3, x4] (d + 9) 379 50 2598 [(5, (0, 0)), (4, (4, 3)), (3, (4, 2)), (2, (4, 1)), (1, (4, 0)), (0, (6, 0))] [] jpM_347 22001 732006 (fun k v hsN => k = 0 ∧ v = (0, 1)) := by
  refine jT_xaload_n (v := (4, 0)) (pcN := 2599) jIM_379_2598 rfl rfl rfl ?_
  refine jT_xaload_n (v := (6, 0)) (pcN := 2600) jIM_379_2599 rfl rfl rfl ?_
  refine jT_xiload (v := (0, 0)) (pcN := 2602) jIM_379_2600 rfl rfl rfl ?_
  refine jT_xiconst (k := 1) (pcN := 2603) jIM_379_2602 rfl ?_
  refine jT_xiadd (x := 0) (y := 1) (z := 1) (pcN := 2604) jIM_379_2603 rfl (by decide) rfl ?_
  refine jT_adv 1 (pcN := 2605) (LN := [(5, (0, 0)), (4, (4, 3)), (3, (4, 2)), (2, (4, 1)), (1, (4, 0)), (0, (6, 0))]) (stN := [(0, x1), (4, 0)]) (hsN := jpM_347) (c1 := 0) (s1 := 0) (c2 := 22001) (s2 := 732006) (by exact rfl) ?_ (by omega) (by omega)
  refine jT_xaload_n (v := (6, 0)) (pcN := 2606) jIM_379_2605 rfl rfl rfl ?_
  refine jT_xiload (v := (0, 0)) (pcN := 2608) jIM_379_2606 rfl rfl rfl ?_
  refine jT_xiconst (k := 2) (pcN := 2609) jIM_379_2608 rfl ?_
  refine jT_xiadd (x := 0) (y := 2) (z := 2) (pcN := 2610) jIM_379_2609 rfl (by decide) rfl ?_
  refine jT_adv 1 (pcN := 2611) (LN := [(5, (0, 0)), (4, (4, 3)), (3, (4, 2)), (2, (4, 1)), (1, (4, 0)), (0, (6, 0))]) (stN := [(0, x2), (0, x1), (4, 0)]) (hsN := jpM_347) (c1 := 0) (s1 := 0) (c2 := 22001) (s2 := 732006) (by exact rfl) ?_ (by omega) (by omega)
  refine jT_xaload_n (v := (6, 0)) (pcN := 2612) jIM_379_2611 rfl rfl rfl ?_
  refine jT_xiload (v := (0, 0)) (pcN := 2614) jIM_379_2612 rfl rfl rfl ?_
  refine jT_xiconst (k := 3) (pcN := 2615) jIM_379_2614 rfl ?_
  refine jT_xiadd (x := 0) (y := 3) (z := 3) (pcN := 2616) jIM_379_2615 rfl (by decide) rfl ?_
  refine jT_adv 1 (pcN := 2617) (LN := [(5, (0, 0)), (4, (4, 3)), (3, (4, 2)), (2, (4, 1)), (1, (4, 0)), (0, (6, 0))]) (stN := [(0, x3), (0, x2), (0, x1), (4, 0)]) (hsN := jpM_347) (c1 := 0) (s1 := 0) (c2 := 22001) (s2 := 732006) (by exact rfl) ?_ (by omega) (by omega)
  refine jT_xaload_n (v := (4, 2)) (pcN := 2618) jIM_379_2617 rfl rfl rfl ?_
  refine jT_fB [0, 2, 4, 5, 6, 7, 8, 9, 10, 11, 12, 13, 14, 30, 31, 32, 33, 34, 35, 36, 37, 38, 45, 46, 47, 48, 49] 50 (y := 358) (pcN := 2621) (dC := 6) (bc1 := 1) (bc2 := 6) (c1 := 22000) (c2 := 732000) (as := [(4, 0), (0, x1), (0, x2), (0, x3), (4, 2)]) (asC := [(4, 0), (0, x1), (0, x2), (0, x3), (4, 1)]) (LN := [(5, (0, 0)), (4, (4, 3)), (3, (4, 2)), (2, (4, 1)), (1, (4, 0)), (0, (6, 0))]) (stN := []) (hsC := jpM_247) (hsD := jpM_246) (v := (0, 3)) (st2 := [(0, 3)]) (hs2 := jpM_348) (jM_358_64 (d := 0) (by omega) (by omega) (by omega)) (by rfl) (by rfl) (by decide +kernel) (by rfl) (by rfl) (by omega) (by omega) (by omega) (by omega) rfl (by decide +kernel) ?_
  refine jT_xistore (v := (0, 3)) (LN := [(6, (0, 3)), (5, (0, 0)), (4, (4, 3)), (3, (4, 2)), (2, (4, 1)), (1, (4, 0)), (0, (6, 0))]) (pcN := 2623) jIM_379_2621 rfl rfl rfl rfl ?_
  refine jT_xaload_n (v := (4, 1)) (pcN := 2624) jIM_379_2623 rfl rfl rfl ?_
  refine jT_xaload_n (v := (6, 0)) (pcN := 2625) jIM_379_2624 rfl rfl rfl ?_
  refine jT_xiload (v := (0, 0)) (pcN := 2627) jIM_379_2625 rfl rfl rfl ?_
  refine jT_xiconst (k := 1) (pcN := 2628) jIM_379_2627 rfl ?_
  refine jT_xiadd (x := 0) (y := 1) (z := 1) (pcN := 2629) jIM_379_2628 rfl (by decide) rfl ?_
  refine jT_adv 1 (pcN := 2630) (LN := [(6, (0, 3)), (5, (0, 0)), (4, (4, 3)), (3, (4, 2)), (2, (4, 1)), (1, (4, 0)), (0, (6, 0))]) (stN := [(0, x1), (4, 1)]) (hsN := jpM_348) (c1 := 0) (s1 := 0) (c2 := 22000) (s2 := 732000) (by exact rfl) ?_ (by omega) (by omega)
  refine jT_xaload_n (v := (6, 0)) (pcN := 2631) jIM_379_2630 rfl rfl rfl ?_
  refine jT_xiload (v := (0, 0)) (pcN := 2633) jIM_379_2631 rfl rfl rfl ?_
  refine jT_xiconst (k := 2) (pcN := 2634) jIM_379_2633 rfl ?_
  refine jT_xiadd (x := 0) (y := 2) (z := 2) (pcN := 2635) jIM_379_2634 rfl (by decide) rfl ?_
  refine jT_adv 1 (pcN := 2636) (LN := [(6, (0, 3)), (5, (0, 0)), (4, (4, 3)), (3, (4, 2)), (2, (4, 1)), (1, (4, 0)), (0, (6, 0))]) (stN := [(0, x2), (0, x1), (4, 1)]) (hsN := jpM_348) (c1 := 0) (s1 := 0) (c2 := 22000) (s2 := 732000) (by exact rfl) ?_ (by omega) (by omega)
  refine jT_xaload_n (v := (6, 0)) (pcN := 2637) jIM_379_2636 rfl rfl rfl ?_
  refine jT_xiload (v := (0, 0)) (pcN := 2639) jIM_379_2637 rfl rfl rfl ?_
  refine jT_xiconst (k := 3) (pcN := 2640) jIM_379_2639 rfl ?_
  refine jT_xiadd (x := 0) (y := 3) (z := 3) (pcN := 2641) jIM_379_2640 rfl (by decide) rfl ?_
  refine jT_adv 1 (pcN := 2642) (LN := [(6, (0, 3)), (5, (0, 0)), (4, (4, 3)), (3, (4, 2)), (2, (4, 1)), (1, (4, 0)), (0, (6, 0))]) (stN := [(0, x3), (0, x2), (0, x1), (4, 1)]) (hsN := jpM_348) (c1 := 0) (s1 := 0) (c2 := 22000) (s2 := 732000) (by exact rfl) ?_ (by omega) (by omega)
  refine jT_fB [1, 15, 16, 17, 18, 19, 20, 21, 22, 23, 24, 25, 26, 27, 28, 29, 39, 40, 41, 42, 43, 44] 50 (y := 287) (pcN := 2645) (dC := 8) (bc1 := 22000) (bc2 := 732000) (c1 := 0) (c2 := 0) (as := [(4, 1), (0, x1), (0, x2), (0, x3)]) (asC := [(4, 0), (0, x1), (0, x2), (0, x3)]) (LN := [(6, (0, 3)), (5, (0, 0)), (4, (4, 3)), (3, (4, 2)), (2, (4, 1)), (1, (4, 0)), (0, (6, 0))]) (stN := []) (hsC := jpM_197) (hsD := jpM_285) (v := (0, 0)) (st2 := [(0, 0)]) (hs2 := jpM_350) (jM_287_71 (d := 0) (by omega) (by omega) (by omega)) (by rfl) (by rfl) (by decide +kernel) (by rfl) (by rfl) (by omega) (by omega) (by omega) (by omega) rfl (by decide +kernel) ?_
  refine jT_xistore (v := (0, 0)) (LN := [(7, (0, 0)), (6, (0, 3)), (5, (0, 0)), (4, (4, 3)), (3, (4, 2)), (2, (4, 1)), (1, (4, 0)), (0, (6, 0))]) (pcN := 2647) jIM_379_2645 rfl rfl rfl rfl ?_
  refine jT_xaload_n (v := (4, 1)) (pcN := 2648) jIM_379_2647 rfl rfl rfl ?_
  refine jT_fR [1, 15, 16, 17, 18, 19, 20, 21, 22, 23, 24, 25, 26, 27, 28, 29] 61 (y := 186) (pcN := 2651) (dC := 0) (bc1 := 0) (bc2 := 0) (c1 := 0) (c2 := 0) (as := [(4, 1)]) (asC := [(4, 0)]) (LN := [(7, (0, 0)), (6, (0, 3)), (5, (0, 0)), (4, (4, 3)), (3, (4, 2)), (2, (4, 1)), (1, (4, 0)), (0, (6, 0))]) (stN := []) (hsC := jpM_270) (v := (0, 3)) (st2 := [(0, 3)]) (jM_186_72 (d := 0)) (by rfl) (by rfl) (by decide +kernel) (by rfl) (by rfl) (by omega) (by omega) (by omega) (by omega) rfl ?_
  refine jT_xiload (v := (0, 3)) (pcN := 2653) jIM_379_2651 rfl rfl rfl ?_
  refine jT_xicT (pcN := 2658) jIM_379_2653 rfl (by decide +kernel) rfl ?_
  refine jT_xiload (v := (0, 3)) (pcN := 2660) jIM_379_2658 rfl rfl rfl ?_
  refine jT_xifT (pcN := 2675) jIM_379_2660 rfl (by decide +kernel) rfl ?_
  refine jT_xgoto (pcN := 3740) jIM_379_2675 rfl ?_
  refine jT_xiinc (x := 0) (z := 5) (LN := [(5, (0, 5)), (7, (0, 0)), (6, (0, 3)), (4, (4, 3)), (3, (4, 2)), (2, (4, 1)), (1, (4, 0)), (0, (6, 0))]) (pcN := 3743) jIM_379_3740 rfl rfl (by decide) rfl rfl ?_
  refine jT_xgoto (pcN := 28) jIM_379_3743 rfl ?_
  refine jT_xiload (v := (0, 5)) (pcN := 30) jIM_379_28 rfl rfl rfl ?_
  refine jT_xaload_n (v := (6, 0)) (pcN := 31) jIM_379_30 rfl rfl rfl ?_
  refine jT_adv 1 (pcN := 32) (LN := [(5, (0, 5)), (7, (0, 0)), (6, (0, 3)), (4, (4, 3)), (3, (4, 2)), (2, (4, 1)), (1, (4, 0)), (0, (6, 0))]) (stN := [(0, 5), (0, 5)]) (hsN := jpM_350) (c1 := 0) (s1 := 0) (c2 := 0) (s2 := 0) (by exact rfl) ?_ (by omega) (by omega)
  refine jT_xiconst (k := 5) (pcN := 33) jIM_379_32 rfl ?_
  refine jT_xisub (x := 5) (y := 5) (z := 0) (pcN := 34) jIM_379_33 rfl (by decide) rfl ?_
  refine jT_xicT (pcN := 3746) jIM_379_34 rfl (by decide +kernel) rfl ?_
  refine jT_xiconst (k := 1) (pcN := 3747) jIM_379_3746 rfl ?_
  exact jT_ret rfl (by decide) (by show 50 ≤ 61; decide) (by omega) (by omega) ⟨rfl, rfl⟩
set_option maxRecDepth 100000 in
theorem jL_34_5 {d : Nat} {x0 x1 x2 x3 x4 : Int} (h_x0 : (-2147483648) ≤ x0 ∧ x0 ≤ 2147483647) (h_x1 : 0 ≤ x1 ∧ x1 ≤ 7) (h_x2 : 0 ≤ x2 ∧ x2 ≤ 2147483647) (h_x3 : 2001 ≤ x3 ∧ x3 ≤ 2147483647) (h_x4 : (-2147483648) ≤ x4 ∧ x4 ≤ 2147483647) : jT [x0, x1, x2, x3, x4] (d + 3) 379 30 2598 [(5, (0, 0)), (4, (4, 3)), (3, (4, 2)), (2, (4, 1)), (1, (4, 0)), (0, (6, 0))] [] jpM_293 1 6 (fun k v hsN => k = 0 ∧ v = (0, 1)) := by
  refine jT_xaload_n (v := (4, 0)) (pcN := 2599) jIM_379_2598 rfl rfl rfl ?_
  refine jT_xaload_n (v := (6, 0)) (pcN := 2600) jIM_379_2599 rfl rfl rfl ?_
  refine jT_xiload (v := (0, 0)) (pcN := 2602) jIM_379_2600 rfl rfl rfl ?_
  refine jT_xiconst (k := 1) (pcN := 2603) jIM_379_2602 rfl ?_
  refine jT_xiadd (x := 0) (y := 1) (z := 1) (pcN := 2604) jIM_379_2603 rfl (by decide) rfl ?_
  refine jT_adv 1 (pcN := 2605) (LN := [(5, (0, 0)), (4, (4, 3)), (3, (4, 2)), (2, (4, 1)), (1, (4, 0)), (0, (6, 0))]) (stN := [(0, x1), (4, 0)]) (hsN := jpM_293) (c1 := 0) (s1 := 0) (c2 := 1) (s2 := 6) (by exact rfl) ?_ (by omega) (by omega)
  refine jT_xaload_n (v := (6, 0)) (pcN := 2606) jIM_379_2605 rfl rfl rfl ?_
  refine jT_xiload (v := (0, 0)) (pcN := 2608) jIM_379_2606 rfl rfl rfl ?_
  refine jT_xiconst (k := 2) (pcN := 2609) jIM_379_2608 rfl ?_
  refine jT_xiadd (x := 0) (y := 2) (z := 2) (pcN := 2610) jIM_379_2609 rfl (by decide) rfl ?_
  refine jT_adv 1 (pcN := 2611) (LN := [(5, (0, 0)), (4, (4, 3)), (3, (4, 2)), (2, (4, 1)), (1, (4, 0)), (0, (6, 0))]) (stN := [(0, x2), (0, x1), (4, 0)]) (hsN := jpM_293) (c1 := 0) (s1 := 0) (c2 := 1) (s2 := 6) (by exact rfl) ?_ (by omega) (by omega)
  refine jT_xaload_n (v := (6, 0)) (pcN := 2612) jIM_379_2611 rfl rfl rfl ?_
  refine jT_xiload (v := (0, 0)) (pcN := 2614) jIM_379_2612 rfl rfl rfl ?_
  refine jT_xiconst (k := 3) (pcN := 2615) jIM_379_2614 rfl ?_
  refine jT_xiadd (x := 0) (y := 3) (z := 3) (pcN := 2616) jIM_379_2615 rfl (by decide) rfl ?_
  refine jT_adv 1 (pcN := 2617) (LN := [(5, (0, 0)), (4, (4, 3)), (3, (4, 2)), (2, (4, 1)), (1, (4, 0)), (0, (6, 0))]) (stN := [(0, x3), (0, x2), (0, x1), (4, 0)]) (hsN := jpM_293) (c1 := 0) (s1 := 0) (c2 := 1) (s2 := 6) (by exact rfl) ?_ (by omega) (by omega)
  refine jT_xaload_n (v := (4, 2)) (pcN := 2618) jIM_379_2617 rfl rfl rfl ?_
  refine jT_fR [0, 2, 4, 5, 6, 7, 8, 9, 10, 11, 12, 13, 14] 30 (y := 358) (pcN := 2621) (dC := 2) (bc1 := 1) (bc2 := 6) (c1 := 0) (c2 := 0) (as := [(4, 0), (0, x1), (0, x2), (0, x3), (4, 2)]) (asC := [(4, 0), (0, x1), (0, x2), (0, x3), (4, 1)]) (LN := [(5, (0, 0)), (4, (4, 3)), (3, (4, 2)), (2, (4, 1)), (1, (4, 0)), (0, (6, 0))]) (stN := []) (hsC := jpM_14) (v := (0, 2)) (st2 := [(0, 2)]) (jM_358_75 (d := 0) (by omega) (by omega) (by omega)) (by rfl) (by rfl) (by decide +kernel) (by rfl) (by rfl) (by omega) (by omega) (by omega) (by omega) rfl ?_
  refine jT_xistore (v := (0, 2)) (LN := [(6, (0, 2)), (5, (0, 0)), (4, (4, 3)), (3, (4, 2)), (2, (4, 1)), (1, (4, 0)), (0, (6, 0))]) (pcN := 2623) jIM_379_2621 rfl rfl rfl rfl ?_
  refine jT_xaload_n (v := (4, 1)) (pcN := 2624) jIM_379_2623 rfl rfl rfl ?_
  refine jT_xaload_n (v := (6, 0)) (pcN := 2625) jIM_379_2624 rfl rfl rfl ?_
  refine jT_xiload (v := (0, 0)) (pcN := 2627) jIM_379_2625 rfl rfl rfl ?_
  refine jT_xiconst (k := 1) (pcN := 2628) jIM_379_2627 rfl ?_
  refine jT_xiadd (x := 0) (y := 1) (z := 1) (pcN := 2629) jIM_379_2628 rfl (by decide) rfl ?_
  refine jT_adv 1 (pcN := 2630) (LN := [(6, (0, 2)), (5, (0, 0)), (4, (4, 3)), (3, (4, 2)), (2, (4, 1)), (1, (4, 0)), (0, (6, 0))]) (stN := [(0, x1), (4, 1)]) (hsN := jpM_293) (c1 := 0) (s1 := 0) (c2 := 0) (s2 := 0) (by exact rfl) ?_ (by omega) (by omega)
  refine jT_xaload_n (v := (6, 0)) (pcN := 2631) jIM_379_2630 rfl rfl rfl ?_
  refine jT_xiload (v := (0, 0)) (pcN := 2633) jIM_379_2631 rfl rfl rfl ?_
  refine jT_xiconst (k := 2) (pcN := 2634) jIM_379_2633 rfl ?_
  refine jT_xiadd (x := 0) (y := 2) (z := 2) (pcN := 2635) jIM_379_2634 rfl (by decide) rfl ?_
  refine jT_adv 1 (pcN := 2636) (LN := [(6, (0, 2)), (5, (0, 0)), (4, (4, 3)), (3, (4, 2)), (2, (4, 1)), (1, (4, 0)), (0, (6, 0))]) (stN := [(0, x2), (0, x1), (4, 1)]) (hsN := jpM_293) (c1 := 0) (s1 := 0) (c2 := 0) (s2 := 0) (by exact rfl) ?_ (by omega) (by omega)
  refine jT_xaload_n (v := (6, 0)) (pcN := 2637) jIM_379_2636 rfl rfl rfl ?_
  refine jT_xiload (v := (0, 0)) (pcN := 2639) jIM_379_2637 rfl rfl rfl ?_
  refine jT_xiconst (k := 3) (pcN := 2640) jIM_379_2639 rfl ?_
  refine jT_xiadd (x := 0) (y := 3) (z := 3) (pcN := 2641) jIM_379_2640 rfl (by decide) rfl ?_
  refine jT_adv 1 (pcN := 2642) (LN := [(6, (0, 2)), (5, (0, 0)), (4, (4, 3)), (3, (4, 2)), (2, (4, 1)), (1, (4, 0)), (0, (6, 0))]) (stN := [(0, x3), (0, x2), (0, x1), (4, 1)]) (hsN := jpM_293) (c1 := 0) (s1 := 0) (c2 := 0) (s2 := 0) (by exact rfl) ?_ (by omega) (by omega)
  refine jT_fB [1, 15, 16, 17, 18, 19, 20, 21, 22, 23, 24, 25, 26, 27, 28, 29] 30 (y := 287) (pcN := 2645) (dC := 2) (bc1 := 0) (bc2 := 0) (c1 := 0) (c2 := 0) (as := [(4, 1), (0, x1), (0, x2), (0, x3)]) (asC := [(4, 0), (0, x1), (0, x2), (0, x3)]) (LN := [(6, (0, 2)), (5, (0, 0)), (4, (4, 3)), (3, (4, 2)), (2, (4, 1)), (1, (4, 0)), (0, (6, 0))]) (stN := []) (hsC := jpM_21) (hsD := jpM_32) (v := (0, 0)) (st2 := [(0, 0)]) (hs2 := jpM_335) (jM_287_76 (d := 0) (by omega) (by omega) (by omega)) (by rfl) (by rfl) (by decide +kernel) (by rfl) (by rfl) (by omega) (by omega) (by omega) (by omega) rfl (by decide +kernel) ?_
  refine jT_xistore (v := (0, 0)) (LN := [(7, (0, 0)), (6, (0, 2)), (5, (0, 0)), (4, (4, 3)), (3, (4, 2)), (2, (4, 1)), (1, (4, 0)), (0, (6, 0))]) (pcN := 2647) jIM_379_2645 rfl rfl rfl rfl ?_
  refine jT_xaload_n (v := (4, 1)) (pcN := 2648) jIM_379_2647 rfl rfl rfl ?_
  refine jT_fR [1, 15, 16, 17, 18, 19, 20, 21, 22, 23, 24, 25, 26, 27, 28, 29] 30 (y := 186) (pcN := 2651) (dC := 0) (bc1 := 0) (bc2 := 0) (c1 := 0) (c2 := 0) (as := [(4, 1)]) (asC := [(4, 0)]) (LN := [(7, (0, 0)), (6, (0, 2)), (5, (0, 0)), (4, (4, 3)), (3, (4, 2)), (2, (4, 1)), (1, (4, 0)), (0, (6, 0))]) (stN := []) (hsC := jpM_32) (v := (0, 2)) (st2 := [(0, 2)]) (jM_186_17 (d := 0)) (by rfl) (by rfl) (by decide +kernel) (by rfl) (by rfl) (by omega) (by omega) (by omega) (by omega) rfl ?_
  refine jT_xiload (v := (0, 2)) (pcN := 2653) jIM_379_2651 rfl rfl rfl ?_
  refine jT_xicT (pcN := 2658) jIM_379_2653 rfl (by decide +kernel) rfl ?_
  refine jT_xiload (v := (0, 2)) (pcN := 2660) jIM_379_2658 rfl rfl rfl ?_
  refine jT_xifT (pcN := 2675) jIM_379_2660 rfl (by decide +kernel) rfl ?_
  refine jT_xgoto (pcN := 3740) jIM_379_2675 rfl ?_
  refine jT_xiinc (x := 0) (z := 5) (LN := [(5, (0, 5)), (7, (0, 0)), (6, (0, 2)), (4, (4, 3)), (3, (4, 2)), (2, (4, 1)), (1, (4, 0)), (0, (6, 0))]) (pcN := 3743) jIM_379_3740 rfl rfl (by decide) rfl rfl ?_
  refine jT_xgoto (pcN := 28) jIM_379_3743 rfl ?_
  refine jT_xiload (v := (0, 5)) (pcN := 30) jIM_379_28 rfl rfl rfl ?_
  refine jT_xaload_n (v := (6, 0)) (pcN := 31) jIM_379_30 rfl rfl rfl ?_
  refine jT_adv 1 (pcN := 32) (LN := [(5, (0, 5)), (7, (0, 0)), (6, (0, 2)), (4, (4, 3)), (3, (4, 2)), (2, (4, 1)), (1, (4, 0)), (0, (6, 0))]) (stN := [(0, 5), (0, 5)]) (hsN := jpM_335) (c1 := 0) (s1 := 0) (c2 := 0) (s2 := 0) (by exact rfl) ?_ (by omega) (by omega)
  refine jT_xiconst (k := 5) (pcN := 33) jIM_379_32 rfl ?_
  refine jT_xisub (x := 5) (y := 5) (z := 0) (pcN := 34) jIM_379_33 rfl (by decide) rfl ?_
  refine jT_xicT (pcN := 3746) jIM_379_34 rfl (by decide +kernel) rfl ?_
  refine jT_xiconst (k := 1) (pcN := 3747) jIM_379_3746 rfl ?_
  exact jT_ret rfl (by decide) (by show 30 ≤ 30; decide) (by omega) (by omega) ⟨rfl, rfl⟩
set_option maxRecDepth 100000 in
theorem jL_34_6 {d : Nat} {x0 x1 x2 x3 x4 : Int} (h_x0 : (-2147483648) ≤ x0 ∧ x0 ≤ 2147483647) (h_x1 : 8 ≤ x1 ∧ x1 ≤ 2147483647) (h_x2 : (-2147483648) ≤ x2 ∧ x2 ≤ 2147483647) (h_x3 : (-2147483648) ≤ x3 ∧ x3 ≤ 2147483647) (h_x4 : (-2147483648) ≤ x4 ∧ x4 ≤ 2147483647) : jT [x0, x1, x2, x3, x4] (d + 3) 379 30 2598 [(5, (0, 0)), (4, (4, 3)), (3, (4, 2)), (2, (4, 1)), (1, (4, 0)), (0, (6, 0))] [] jpM_293 1 6 (fun k v hsN => k = 0 ∧ v = (0, 1)) := by
  refine jT_xaload_n (v := (4, 0)) (pcN := 2599) jIM_379_2598 rfl rfl rfl ?_
  refine jT_xaload_n (v := (6, 0)) (pcN := 2600) jIM_379_2599 rfl rfl rfl ?_
  refine jT_xiload (v := (0, 0)) (pcN := 2602) jIM_379_2600 rfl rfl rfl ?_
  refine jT_xiconst (k := 1) (pcN := 2603) jIM_379_2602 rfl ?_
  refine jT_xiadd (x := 0) (y := 1) (z := 1) (pcN := 2604) jIM_379_2603 rfl (by decide) rfl ?_
  refine jT_adv 1 (pcN := 2605) (LN := [(5, (0, 0)), (4, (4, 3)), (3, (4, 2)), (2, (4, 1)), (1, (4, 0)), (0, (6, 0))]) (stN := [(0, x1), (4, 0)]) (hsN := jpM_293) (c1 := 0) (s1 := 0) (c2 := 1) (s2 := 6) (by exact rfl) ?_ (by omega) (by omega)
  refine jT_xaload_n (v := (6, 0)) (pcN := 2606) jIM_379_2605 rfl rfl rfl ?_
  refine jT_xiload (v := (0, 0)) (pcN := 2608) jIM_379_2606 rfl rfl rfl ?_
  refine jT_xiconst (k := 2) (pcN := 2609) jIM_379_2608 rfl ?_
  refine jT_xiadd (x := 0) (y := 2) (z := 2) (pcN := 2610) jIM_379_2609 rfl (by decide) rfl ?_
  refine jT_adv 1 (pcN := 2611) (LN := [(5, (0, 0)), (4, (4, 3)), (3, (4, 2)), (2, (4, 1)), (1, (4, 0)), (0, (6, 0))]) (stN := [(0, x2), (0, x1), (4, 0)]) (hsN := jpM_293) (c1 := 0) (s1 := 0) (c2 := 1) (s2 := 6) (by exact rfl) ?_ (by omega) (by omega)
  refine jT_xaload_n (v := (6, 0)) (pcN := 2612) jIM_379_2611 rfl rfl rfl ?_
  refine jT_xiload (v := (0, 0)) (pcN := 2614) jIM_379_2612 rfl rfl rfl ?_
  refine jT_xiconst (k := 3) (pcN := 2615) jIM_379_2614 rfl ?_
  refine jT_xiadd (x := 0) (y := 3) (z := 3) (pcN := 2616) jIM_379_2615 rfl (by decide) rfl ?_
  refine jT_adv 1 (pcN := 2617) (LN := [(5, (0, 0)), (4, (4, 3)), (3, (4, 2)), (2, (4, 1)), (1, (4, 0)), (0, (6, 0))]) (stN := [(0, x3), (0, x2), (0, x1), (4, 0)]) (hsN := jpM_293) (c1 := 0) (s1 := 0) (c2 := 1) (s2 := 6) (by exact rfl) ?_ (by omega) (by omega)
  refine jT_xaload_n (v := (4, 2)) (pcN := 2618) jIM_379_2617 rfl rfl rfl ?_
  refine jT_fR [0, 2, 4, 5, 6, 7, 8, 9, 10, 11, 12, 13, 14] 30 (y := 358) (pcN := 2621) (dC := 2) (bc1 := 1) (bc2 := 6) (c1 := 0) (c2 := 0) (as := [(4, 0), (0, x1), (0, x2), (0, x3), (4, 2)]) (asC := [(4, 0), (0, x1), (0, x2), (0, x3), (4, 1)]) (LN := [(5, (0, 0)), (4, (4, 3)), (3, (4, 2)), (2, (4, 1)), (1, (4, 0)), (0, (6, 0))]) (stN := []) (hsC := jpM_14) (v := (0, 1)) (st2 := [(0, 1)]) (jM_358_79 (d := 0) (by omega) (by omega) (by omega)) (by rfl) (by rfl) (by decide +kernel) (by rfl) (by rfl) (by omega) (by omega) (by omega) (by omega) rfl ?_
  refine jT_xistore (v := (0, 1)) (LN := [(6, (0, 1)), (5, (0, 0)), (4, (4, 3)), (3, (4, 2)), (2, (4, 1)), (1, (4, 0)), (0, (6, 0))]) (pcN := 2623) jIM_379_2621 rfl rfl rfl rfl ?_
  refine jT_xaload_n (v := (4, 1)) (pcN := 2624) jIM_379_2623 rfl rfl rfl ?_
  refine jT_xaload_n (v := (6, 0)) (pcN := 2625) jIM_379_2624 rfl rfl rfl ?_
  refine jT_xiload (v := (0, 0)) (pcN := 2627) jIM_379_2625 rfl rfl rfl ?_
  refine jT_xiconst (k := 1) (pcN := 2628) jIM_379_2627 rfl ?_
  refine jT_xiadd (x := 0) (y := 1) (z := 1) (pcN := 2629) jIM_379_2628 rfl (by decide) rfl ?_
  refine jT_adv 1 (pcN := 2630) (LN := [(6, (0, 1)), (5, (0, 0)), (4, (4, 3)), (3, (4, 2)), (2, (4, 1)), (1, (4, 0)), (0, (6, 0))]) (stN := [(0, x1), (4, 1)]) (hsN := jpM_293) (c1 := 0) (s1 := 0) (c2 := 0) (s2 := 0) (by exact rfl) ?_ (by omega) (by omega)
  refine jT_xaload_n (v := (6, 0)) (pcN := 2631) jIM_379_2630 rfl rfl rfl ?_
  refine jT_xiload (v := (0, 0)) (pcN := 2633) jIM_379_2631 rfl rfl rfl ?_
  refine jT_xiconst (k := 2) (pcN := 2634) jIM_379_2633 rfl ?_
  refine jT_xiadd (x := 0) (y := 2) (z := 2) (pcN := 2635) jIM_379_2634 rfl (by decide) rfl ?_
  refine jT_adv 1 (pcN := 2636) (LN := [(6, (0, 1)), (5, (0, 0)), (4, (4, 3)), (3, (4, 2)), (2, (4, 1)), (1, (4, 0)), (0, (6, 0))]) (stN := [(0, x2), (0, x1), (4, 1)]) (hsN := jpM_293) (c1 := 0) (s1 := 0) (c2 := 0) (s2 := 0) (by exact rfl) ?_ (by omega) (by omega)
  refine jT_xaload_n (v := (6, 0)) (pcN := 2637) jIM_379_2636 rfl rfl rfl ?_
  refine jT_xiload (v := (0, 0)) (pcN := 2639) jIM_379_2637 rfl rfl rfl ?_
  refine jT_xiconst (k := 3) (pcN := 2640) jIM_379_2639 rfl ?_
  refine jT_xiadd (x := 0) (y := 3) (z := 3) (pcN := 2641) jIM_379_2640 rfl (by decide) rfl ?_
  refine jT_adv 1 (pcN := 2642) (LN := [(6, (0, 1)), (5, (0, 0)), (4, (4, 3)), (3, (4, 2)), (2, (4, 1)), (1, (4, 0)), (0, (6, 0))]) (stN := [(0, x3), (0, x2), (0, x1), (4, 1)]) (hsN := jpM_293) (c1 := 0) (s1 := 0) (c2 := 0) (s2 := 0) (by exact rfl) ?_ (by omega) (by omega)
  refine jT_fB [1, 15, 16, 17, 18, 19, 20, 21, 22, 23, 24, 25, 26, 27, 28, 29] 30 (y := 287) (pcN := 2645) (dC := 2) (bc1 := 0) (bc2 := 0) (c1 := 0) (c2 := 0) (as := [(4, 1), (0, x1), (0, x2), (0, x3)]) (asC := [(4, 0), (0, x1), (0, x2), (0, x3)]) (LN := [(6, (0, 1)), (5, (0, 0)), (4, (4, 3)), (3, (4, 2)), (2, (4, 1)), (1, (4, 0)), (0, (6, 0))]) (stN := []) (hsC := jpM_21) (hsD := jpM_19) (v := (0, 0)) (st2 := [(0, 0)]) (hs2 := jpM_318) (jM_287_81 (d := 0) (by omega) (by omega) (by omega)) (by rfl) (by rfl) (by decide +kernel) (by rfl) (by rfl) (by omega) (by omega) (by omega) (by omega) rfl (by decide +kernel) ?_
  refine jT_xistore (v := (0, 0)) (LN := [(7, (0, 0)), (6, (0, 1)), (5, (0, 0)), (4, (4, 3)), (3, (4, 2)), (2, (4, 1)), (1, (4, 0)), (0, (6, 0))]) (pcN := 2647) jIM_379_2645 rfl rfl rfl rfl ?_
  refine jT_xaload_n (v := (4, 1)) (pcN := 2648) jIM_379_2647 rfl rfl rfl ?_
  refine jT_fR [1, 15, 16, 17, 18, 19, 20, 21, 22, 23, 24, 25, 26, 27, 28, 29] 30 (y := 186) (pcN := 2651) (dC := 0) (bc1 := 0) (bc2 := 0) (c1 := 0) (c2 := 0) (as := [(4, 1)]) (asC := [(4, 0)]) (LN := [(7, (0, 0)), (6, (0, 1)), (5, (0, 0)), (4, (4, 3)), (3, (4, 2)), (2, (4, 1)), (1, (4, 0)), (0, (6, 0))]) (stN := []) (hsC := jpM_19) (v := (0, 1)) (st2 := [(0, 1)]) (jM_186_8 (d := 0)) (by rfl) (by rfl) (by decide +kernel) (by rfl) (by rfl) (by omega) (by omega) (by omega) (by omega) rfl ?_
  refine jT_xiload (v := (0, 1)) (pcN := 2653) jIM_379_2651 rfl rfl rfl ?_
  refine jT_xicT (pcN := 2658) jIM_379_2653 rfl (by decide +kernel) rfl ?_
  refine jT_xiload (v := (0, 1)) (pcN := 2660) jIM_379_2658 rfl rfl rfl ?_
  refine jT_xifT (pcN := 2675) jIM_379_2660 rfl (by decide +kernel) rfl ?_
  refine jT_xgoto (pcN := 3740) jIM_379_2675 rfl ?_
  refine jT_xiinc (x := 0) (z := 5) (LN := [(5, (0, 5)), (7, (0, 0)), (6, (0, 1)), (4, (4, 3)), (3, (4, 2)), (2, (4, 1)), (1, (4, 0)), (0, (6, 0))]) (pcN := 3743) jIM_379_3740 rfl rfl (by decide) rfl rfl ?_
  refine jT_xgoto (pcN := 28) jIM_379_3743 rfl ?_
  refine jT_xiload (v := (0, 5)) (pcN := 30) jIM_379_28 rfl rfl rfl ?_
  refine jT_xaload_n (v := (6, 0)) (pcN := 31) jIM_379_30 rfl rfl rfl ?_
  refine jT_adv 1 (pcN := 32) (LN := [(5, (0, 5)), (7, (0, 0)), (6, (0, 1)), (4, (4, 3)), (3, (4, 2)), (2, (4, 1)), (1, (4, 0)), (0, (6, 0))]) (stN := [(0, 5), (0, 5)]) (hsN := jpM_318) (c1 := 0) (s1 := 0) (c2 := 0) (s2 := 0) (by exact rfl) ?_ (by omega) (by omega)
  refine jT_xiconst (k := 5) (pcN := 33) jIM_379_32 rfl ?_
  refine jT_xisub (x := 5) (y := 5) (z := 0) (pcN := 34) jIM_379_33 rfl (by decide) rfl ?_
  refine jT_xicT (pcN := 3746) jIM_379_34 rfl (by decide +kernel) rfl ?_
  refine jT_xiconst (k := 1) (pcN := 3747) jIM_379_3746 rfl ?_
  exact jT_ret rfl (by decide) (by show 30 ≤ 30; decide) (by omega) (by omega) ⟨rfl, rfl⟩
