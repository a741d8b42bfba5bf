/-! the law, case by case: 43 -/
theorem jIG_116_0 : jmI (jm 116) 0 = (.iload_n 1, 1) := by rfl
theorem jIG_116_1 : jmI (jm 116) 1 = (.iload_n 2, 1) := by rfl
theorem jIG_116_2 : jmI (jm 116) 2 = (.if_icmp .lt 8, 3) := by rfl
theorem jG_116_1 {xs : List Int} {d : Nat} {x1 : Int} (h_x1 : (-2147483648) ≤ x1 ∧ x1 ≤ 0) : jT xs d 116 1 0 [(0, (4, 0)), (1, (0, x1)), (2, (0, 1)), (3, (0, 255))] [] [jgh] 1 6 (fun k v hsN => k = 1 ∧ v = (0, 1) ∧ hsN = [jgh] ++ []) := by
  refine jT_xiload_n (v := (0, x1)) (pcN := 1) jIG_116_0 rfl rfl rfl ?_
  refine jT_xiload_n (v := (0, 1)) (pcN := 2) jIG_116_1 rfl rfl rfl ?_
  refine jT_icT (a := x1) (b := 1) (t := 10) (by rfl) (by rfl) (by rfl) (jw_idd (by omega) (by omega)) (jw_idd (by omega) (by omega)) (by simp only [jcP] <;> omega) ?_
  exact jT_ret (c1 := 1) (s1 := 6) rfl (by decide) (by show 1 ≤ 1; omega) (by omega) (by omega) ⟨rfl, rfl, rfl⟩
theorem jIG_164_0 : jmI (jm 164) 0 = (.aload_n 0, 1) := by rfl
theorem jIG_164_1 : jmI (jm 164) 1 = (.iload_n 1, 1) := by rfl
theorem jIG_164_2 : jmI (jm 164) 2 = (.iconst 1, 1) := by rfl
theorem jIG_164_3 : jmI (jm 164) 3 = (.sipush 255, 3) := by rfl
def jzG_7 : JC := (13, [(4, 1), (4, 2), (4, 3), (4, 4), (4, 5), (4, 6), (4, 7), (4, 8), (4, 9), (4, 10), (0, 0), (4, 11), (0, 0)], [])
def jpG_8 : List JC := [jzG_7, jgh, jgh, jgh, jgh, jgh, jgh, jgh, jgh, jgh, jgh, jgh]
theorem jG_164_2 {xs : List Int} {d : Nat} {x1 x2 : Int} (h_x1 : (-2147483648) ≤ x1 ∧ x1 ≤ 0) (h_x2 : (-2147483648) ≤ x2 ∧ x2 ≤ 2147483647) : jT xs (d + 1) 164 12 0 [(0, (4, 0)), (1, (0, x1)), (2, (0, x2))] [] jpG_8 1 6 (fun k v hsN => k = 1 ∧ v = (0, 1) ∧ hsN = jpG_8 ++ []) := by
  refine jT_xaload_n (v := (4, 0)) (pcN := 1) jIG_164_0 rfl rfl rfl ?_
  refine jT_xiload_n (v := (0, x1)) (pcN := 2) jIG_164_1 rfl rfl rfl ?_
  refine jT_xiconst (k := 1) (pcN := 3) jIG_164_2 rfl ?_
  refine jT_xsipush (k := 255) (pcN := 6) jIG_164_3 (by decide) rfl ?_
  exact jT_fX [0] 12 (y := 116) (pcN := 9) (dC := 0) (bc1 := 1) (bc2 := 6) (as := [(4, 0), (0, x1), (0, 1), (0, 255)]) (asC := [(4, 0), (0, x1), (0, 1), (0, 255)]) (LN := [(0, (4, 0)), (1, (0, x1)), (2, (0, x2))]) (stN := []) (hsC := [jgh]) (e := 1) (jG_116_1 (d := 0) (by omega)) (by rfl) (by rfl) (by decide +kernel) (by rfl) (by rfl) (by omega) (by omega) (by omega) (by omega) ⟨rfl, ⟨rfl, rfl, rfl⟩⟩
theorem jIG_365_0 : jmI (jm 365) 0 = (.aload_n 3, 1) := by rfl
theorem jIG_365_1 : jmI (jm 365) 1 = (.iconst 0, 1) := by rfl
theorem jIG_365_2 : jmI (jm 365) 2 = (.aload_n 0, 1) := by rfl
theorem jIG_365_3 : jmI (jm 365) 3 = (.iload_n 1, 1) := by rfl
theorem jIG_365_4 : jmI (jm 365) 4 = (.iload_n 2, 1) := by rfl
def jzG_14 : JC := (13, [(4, 2), (4, 3), (4, 4), (4, 5), (4, 6), (4, 7), (4, 8), (4, 9), (4, 10), (4, 11), (0, 0), (4, 12), (0, 0)], [])
def jpG_15 : List JC := [jzG_14, jgh, jgh, jgh, jgh, jgh, jgh, jgh, jgh, jgh, jgh, jgh, jgh]
theorem jG_365_3 {xs : List Int} {d : Nat} {x1 x2 : Int} (h_x1 : (-2147483648) ≤ x1 ∧ x1 ≤ 0) (h_x2 : (-2147483648) ≤ x2 ∧ x2 ≤ 2147483647) : jT xs (d + 2) 365 13 0 [(0, (4, 0)), (1, (0, x1)), (2, (0, x2)), (3, (4, 1))] [] jpG_15 1 6 (fun k v hsN => k = 0 ∧ v = (0, 1) ∧ hsN = jpG_15 ++ []) := by
  refine jT_xaload_n (v := (4, 1)) (pcN := 1) jIG_365_0 rfl rfl rfl ?_
  refine jT_xiconst (k := 0) (pcN := 2) jIG_365_1 rfl ?_
  refine jT_xaload_n (v := (4, 0)) (pcN := 3) jIG_365_2 rfl rfl rfl ?_
  refine jT_xiload_n (v := (0, x1)) (pcN := 4) jIG_365_3 rfl rfl rfl ?_
  refine jT_xiload_n (v := (0, x2)) (pcN := 5) jIG_365_4 rfl rfl rfl ?_
  exact jT_fX [0, 2, 3, 4, 5, 6, 7, 8, 9, 10, 11, 12] 13 (y := 164) (pcN := 8) (dC := 1) (bc1 := 1) (bc2 := 6) (as := [(4, 0), (0, x1), (0, x2)]) (asC := [(4, 0), (0, x1), (0, x2)]) (LN := [(0, (4, 0)), (1, (0, x1)), (2, (0, x2)), (3, (4, 1))]) (stN := [(0, 0), (4, 1)]) (hsC := jpG_8) (e := 1) (jG_164_2 (d := 0) (by omega) (by omega)) (by rfl) (by rfl) (by decide +kernel) (by rfl) (by rfl) (by omega) (by omega) (by omega) (by omega) (show _ from ⟨rfl, rfl, rfl⟩)
def jzG_16 : JC := (14, [(0, 1), (4, 1), (4, 2), (4, 3), (4, 4), (0, 0), (4, 5), (0, 0), (4, 6), (4, 7), (1, 1), (4, 8), (0, 0), (4, 9), (0, 0), (0, 0), (0, 0), (0, 0), (0, 0), (0, 0), (0, 0), (4, 10), (4, 11), (4, 12), (4, 13), (4, 14), (4, 15), (0, 0)], [])
def jpG_17 : List JC := [jzG_16, jgh, jgh, jgh, jgh, jgh, jgh, jgh, jgh, jgh, jgh, jgh, jgh, jgh, jgh, jgh]
def jzG_18 : JC := (14, [(0, 0), (4, 1), (4, 2), (4, 3), (4, 4), (0, 0), (4, 5), (0, 0), (4, 6), (4, 7), (1, 1), (4, 8), (0, 0), (4, 9), (0, 0), (0, 0), (0, 0), (0, 0), (0, 0), (0, 0), (0, 0), (4, 10), (4, 11), (4, 12), (4, 13), (4, 14), (4, 15), (0, 0)], [])
def jpG_19 : List JC := [jzG_18, jgh, jgh, jgh, jgh, jgh, jgh, jgh, jgh, jgh, jgh, jgh, jgh, jgh, jgh, jgh]
theorem jG_191_4 {xs : List Int} {d : Nat} : jT xs d 191 16 0 [(0, (4, 0)), (1, (0, 0)), (2, (0, 1))] [] jpG_19 0 0 (fun k v hsN => k = 0 ∧ v = (0, 1) ∧ hsN = jpG_17) := by
  refine jT_advK 9 (pcN := 18) (LN := [(0, (4, 0)), (1, (0, 0)), (2, (0, 1))]) (stN := [(0, 1)]) (hsN := jpG_17) (c1 := 0) (s1 := 0) (c2 := 0) (s2 := 0) (by decide +kernel) ?_ (by omega) (by omega)
  exact jT_ret rfl (by decide) (by show 16 ≤ 16; omega) (by omega) (by omega) ⟨rfl, rfl, rfl⟩
theorem jIG_305_0 : jmI (jm 305) 0 = (.aload_n 0, 1) := by rfl
theorem jIG_305_1 : jmI (jm 305) 1 = (.iconst 0, 1) := by rfl
theorem jIG_305_5 : jmI (jm 305) 5 = (.aload_n 0, 1) := by rfl
theorem jIG_305_6 : jmI (jm 305) 6 = (.iload_n 1, 1) := by rfl
theorem jIG_305_7 : jmI (jm 305) 7 = (.i2l, 1) := by rfl
theorem jIG_305_8 : jmI (jm 305) 8 = (.lconst 1, 1) := by rfl
theorem jIG_305_15 : jmI (jm 305) 15 = (.iconst 1, 1) := by rfl
theorem jIG_305_19 : jmI (jm 305) 19 = (.ifCond .ne 16, 3) := by rfl
theorem jIG_305_35 : jmI (jm 305) 35 = (.iconst 0, 1) := by rfl
theorem jG_305_5 {xs : List Int} {d : Nat} {x1 x2 : Int} (h_x1 : (-2147483648) ≤ x1 ∧ x1 ≤ 0) (h_x2 : (-2147483648) ≤ x2 ∧ x2 ≤ 2147483647) : jT xs (d + 1) 305 16 0 [(0, (4, 0)), (1, (0, x1)), (2, (0, x2))] [] jpG_19 0 0 (fun k v hsN => k = 0 ∧ v = (0, 0) ∧ hsN = jpG_17) := by
  refine jT_xaload_n (v := (4, 0)) (pcN := 1) jIG_305_0 rfl rfl rfl ?_
  refine jT_xiconst (k := 0) (pcN := 2) jIG_305_1 rfl ?_
  refine jT_adv 1 (pcN := 5) (LN := [(0, (4, 0)), (1, (0, x1)), (2, (0, x2))]) (stN := []) (hsN := jpG_19) (c1 := 0) (s1 := 0) (c2 := 0) (s2 := 0) (by exact rfl) ?_ (by omega) (by omega)
  refine jT_xaload_n (v := (4, 0)) (pcN := 6) jIG_305_5 rfl rfl rfl ?_
  refine jT_xiload_n (v := (0, x1)) (pcN := 7) jIG_305_6 rfl rfl rfl ?_
  refine jT_xi2l (x := x1) (z := x1) (pcN := 8) jIG_305_7 rfl (jw_idd (by omega) (by omega)) rfl ?_
  refine jT_xlconst (z := 1) (pcN := 9) jIG_305_8 rfl rfl ?_
  refine jT_adv 1 (pcN := 12) (LN := [(0, (4, 0)), (1, (0, x1)), (2, (0, x2))]) (stN := [(1, 255), (1, 1), (1, x1), (4, 0)]) (hsN := jpG_19) (c1 := 0) (s1 := 0) (c2 := 0) (s2 := 0) (by exact rfl) ?_ (by omega) (by omega)
  refine jT_fR [] 16 (y := 189) (pcN := 15) (dC := 0) (bc1 := 0) (bc2 := 0) (c1 := 0) (c2 := 0) (as := [(1, x1), (1, 1), (1, 255)]) (asC := [(1, x1), (1, 1), (1, 255)]) (LN := [(0, (4, 0)), (1, (0, x1)), (2, (0, x2))]) (stN := [(4, 0)]) (hsC := []) (v := (0, 0)) (st2 := [(0, 0), (4, 0)]) (jT_in_lo (d := 0) (v := x1) (lo := 1) (hi := 255) (by omega) (by omega) (by omega) (by omega)) (by rfl) (by rfl) (by decide +kernel) (by rfl) (by rfl) (by omega) (by omega) (by omega) (by omega) rfl ?_
  refine jT_xiconst (k := 1) (pcN := 16) jIG_305_15 rfl ?_
  refine jT_fB [0, 1, 2, 3, 4, 5, 6, 7, 8, 9, 10, 11, 12, 13, 14, 15] 16 (y := 191) (pcN := 19) (dC := 0) (bc1 := 0) (bc2 := 0) (c1 := 0) (c2 := 0) (as := [(4, 0), (0, 0), (0, 1)]) (asC := [(4, 0), (0, 0), (0, 1)]) (LN := [(0, (4, 0)), (1, (0, x1)), (2, (0, x2))]) (stN := []) (hsC := jpG_19) (hsD := jpG_17) (v := (0, 1)) (st2 := [(0, 1)]) (hs2 := jpG_17) (jG_191_4 (d := 0)) (by rfl) (by rfl) (by decide +kernel) (by rfl) (by rfl) (by omega) (by omega) (by omega) (by omega) rfl (by decide +kernel) ?_
  refine jT_xifT (pcN := 35) jIG_305_19 rfl (by decide +kernel) rfl ?_
  refine jT_xiconst (k := 0) (pcN := 36) jIG_305_35 rfl ?_
  exact jT_ret rfl (by decide) (by show 16 ≤ 16; omega) (by omega) (by omega) ⟨rfl, rfl, rfl⟩
theorem jG_186_6 {xs : List Int} {d : Nat} : jT xs d 186 16 0 [(0, (4, 0))] [] jpG_17 0 0 (fun k v hsN => k = 0 ∧ v = (0, 1) ∧ hsN = jpG_17 ++ []) := by
  refine jT_advK 2 (pcN := 4) (LN := [(0, (4, 0))]) (stN := [(0, 1)]) (hsN := jpG_17) (c1 := 0) (s1 := 0) (c2 := 0) (s2 := 0) (by decide +kernel) ?_ (by omega) (by omega)
  exact jT_ret rfl (by decide) (by show 16 ≤ 16; omega) (by omega) (by omega) ⟨rfl, rfl, rfl⟩
theorem jIG_116_5 : jmI (jm 116) 5 = (.iload_n 1, 1) := by rfl
theorem jIG_116_6 : jmI (jm 116) 6 = (.iload_n 3, 1) := by rfl
theorem jIG_116_7 : jmI (jm 116) 7 = (.if_icmp .le 14, 3) := by rfl
theorem jG_116_7 {xs : List Int} {d : Nat} {x1 : Int} (h_x1 : 1 ≤ x1 ∧ x1 ≤ 255) : jT xs d 116 1 0 [(0, (4, 0)), (1, (0, x1)), (2, (0, 1)), (3, (0, 255))] [] [jgh] 0 0 (fun k v hsN => k = 0 ∧ v = (9, 0) ∧ hsN = [jgh] ++ []) := by
  refine jT_xiload_n (v := (0, x1)) (pcN := 1) jIG_116_0 rfl rfl rfl ?_
  refine jT_xiload_n (v := (0, 1)) (pcN := 2) jIG_116_1 rfl rfl rfl ?_
  refine jT_icF (a := x1) (b := 1) (t := 10) (by rfl) (by rfl) (by rfl) (jw_idd (by omega) (by omega)) (jw_idd (by omega) (by omega)) (by simp only [jcP] <;> omega) ?_
  refine jT_xiload_n (v := (0, x1)) (pcN := 6) jIG_116_5 rfl rfl rfl ?_
  refine jT_xiload_n (v := (0, 255)) (pcN := 7) jIG_116_6 rfl rfl rfl ?_
  refine jT_icT (a := x1) (b := 255) (t := 21) (by rfl) (by rfl) (by rfl) (jw_idd (by omega) (by omega)) (jw_idd (by omega) (by omega)) (by simp only [jcP] <;> omega) ?_
  exact jT_ret rfl (by decide) (by show 1 ≤ 1; omega) (by omega) (by omega) ⟨rfl, rfl, rfl⟩
theorem jIG_115_0 : jmI (jm 115) 0 = (.iload_n 1, 1) := by rfl
theorem jIG_115_1 : jmI (jm 115) 1 = (.ifCond .lt 8, 3) := by rfl
theorem jG_115_8 {xs : List Int} {d : Nat} {x2 : Int} (h_x2 : (-2147483648) ≤ x2 ∧ x2 ≤ (-1)) : jT xs d 115 1 0 [(0, (4, 0)), (1, (0, x2)), (2, (0, 8))] [] [jgh] 1 6 (fun k v hsN => k = 1 ∧ v = (0, 0) ∧ hsN = [jgh] ++ []) := by
  refine jT_xiload_n (v := (0, x2)) (pcN := 1) jIG_115_0 rfl rfl rfl ?_
  refine jT_ifT (a := x2) (t := 9) (by rfl) (by rfl) (by rfl) (jw_idd (by omega) (by omega)) (by simp only [jcP] <;> omega) ?_
  exact jT_ret (c1 := 1) (s1 := 6) rfl (by decide) (by show 1 ≤ 1; omega) (by omega) (by omega) ⟨rfl, rfl, rfl⟩
theorem jIG_164_9 : jmI (jm 164) 9 = (.aload_n 0, 1) := by rfl
theorem jIG_164_10 : jmI (jm 164) 10 = (.iload_n 2, 1) := by rfl
theorem jIG_164_11 : jmI (jm 164) 11 = (.bipush 8, 2) := by rfl
theorem jG_164_9 {xs : List Int} {d : Nat} {x1 x2 : Int} (h_x1 : 1 ≤ x1 ∧ x1 ≤ 255) (h_x2 : (-2147483648) ≤ x2 ∧ x2 ≤ (-1)) : jT xs (d + 1) 164 12 0 [(0, (4, 0)), (1, (0, x1)), (2, (0, x2))] [] jpG_8 1 6 (fun k v hsN => k = 1 ∧ v = (0, 0) ∧ hsN = jpG_8 ++ []) := by
  refine jT_xaload_n (v := (4, 0)) (pcN := 1) jIG_164_0 rfl rfl rfl ?_
  refine jT_xiload_n (v := (0, x1)) (pcN := 2) jIG_164_1 rfl rfl rfl ?_
  refine jT_xiconst (k := 1) (pcN := 3) jIG_164_2 rfl ?_
  refine jT_xsipush (k := 255) (pcN := 6) jIG_164_3 (by decide) rfl ?_
  refine jT_fR [0] 12 (y := 116) (pcN := 9) (dC := 0) (bc1 := 0) (bc2 := 0) (c1 := 1) (c2 := 6) (as := [(4, 0), (0, x1), (0, 1), (0, 255)]) (asC := [(4, 0), (0, x1), (0, 1), (0, 255)]) (LN := [(0, (4, 0)), (1, (0, x1)), (2, (0, x2))]) (stN := []) (hsC := [jgh]) (v := (9, 0)) (st2 := []) (jG_116_7 (d := 0) (by omega)) (by rfl) (by rfl) (by decide +kernel) (by rfl) (by rfl) (by omega) (by omega) (by omega) (by omega) rfl ?_
  refine jT_xaload_n (v := (4, 0)) (pcN := 10) jIG_164_9 rfl rfl rfl ?_
  refine jT_xiload_n (v := (0, x2)) (pcN := 11) jIG_164_10 rfl rfl rfl ?_
  refine jT_xbipush (k := 8) (pcN := 13) jIG_164_11 (by decide) rfl ?_
  exact jT_fX [0] 12 (y := 115) (pcN := 16) (dC := 0) (bc1 := 1) (bc2 := 6) (as := [(4, 0), (0, x2), (0, 8)]) (asC := [(4, 0), (0, x2), (0, 8)]) (LN := [(0, (4, 0)), (1, (0, x1)), (2, (0, x2))]) (stN := []) (hsC := [jgh]) (e := 0) (jG_115_8 (d := 0) (by omega)) (by rfl) (by rfl) (by decide +kernel) (by rfl) (by rfl) (by omega) (by omega) (by omega) (by omega) ⟨rfl, ⟨rfl, rfl, rfl⟩⟩
theorem jG_365_10 {xs : List Int} {d : Nat} {x1 x2 : Int} (h_x1 : 1 ≤ x1 ∧ x1 ≤ 255) (h_x2 : (-2147483648) ≤ x2 ∧ x2 ≤ (-1)) : jT xs (d + 2) 365 13 0 [(0, (4, 0)), (1, (0, x1)), (2, (0, x2)), (3, (4, 1))] [] jpG_15 1 6 (fun k v hsN => k = 0 ∧ v = (0, 2) ∧ hsN = jpG_15 ++ []) := by
  refine jT_xaload_n (v := (4, 1)) (pcN := 1) jIG_365_0 rfl rfl rfl ?_
  refine jT_xiconst (k := 0) (pcN := 2) jIG_365_1 rfl ?_
  refine jT_xaload_n (v := (4, 0)) (pcN := 3) jIG_365_2 rfl rfl rfl ?_
  refine jT_xiload_n (v := (0, x1)) (pcN := 4) jIG_365_3 rfl rfl rfl ?_
  refine jT_xiload_n (v := (0, x2)) (pcN := 5) jIG_365_4 rfl rfl rfl ?_
  exact jT_fX [0, 2, 3, 4, 5, 6, 7, 8, 9, 10, 11, 12] 13 (y := 164) (pcN := 8) (dC := 1) (bc1 := 1) (bc2 := 6) (as := [(4, 0), (0, x1), (0, x2)]) (asC := [(4, 0), (0, x1), (0, x2)]) (LN := [(0, (4, 0)), (1, (0, x1)), (2, (0, x2)), (3, (4, 1))]) (stN := [(0, 0), (4, 1)]) (hsC := jpG_8) (e := 0) (jG_164_9 (d := 0) (by omega) (by omega)) (by rfl) (by rfl) (by decide +kernel) (by rfl) (by rfl) (by omega) (by omega) (by omega) (by omega) (show _ from ⟨rfl, rfl, rfl⟩)
theorem jG_191_11 {xs : List Int} {d : Nat} : jT xs d 191 1 0 [(0, (4, 0)), (1, (0, 1)), (2, (0, 1))] [] [jgh] 0 0 (fun k v hsN => k = 0 ∧ v = (0, 0) ∧ hsN = [jgh] ++ []) := by
  refine jT_advK 5 (pcN := 18) (LN := [(0, (4, 0)), (1, (0, 1)), (2, (0, 1))]) (stN := [(0, 0)]) (hsN := [jgh]) (c1 := 0) (s1 := 0) (c2 := 0) (s2 := 0) (by decide +kernel) ?_ (by omega) (by omega)
  exact jT_ret rfl (by decide) (by show 1 ≤ 1; omega) (by omega) (by omega) ⟨rfl, rfl, rfl⟩
theorem jIG_188_0 : jmI (jm 188) 0 = (.iload_n 0, 1) := by rfl
theorem jIG_188_1 : jmI (jm 188) 1 = (.i2l, 1) := by rfl
theorem jIG_188_2 : jmI (jm 188) 2 = (.lconst 0, 1) := by rfl
theorem jG_188_12 {xs : List Int} {d : Nat} {x2 : Int} (h_x2 : (-2147483648) ≤ x2 ∧ x2 ≤ (-1)) : jT xs (d + 1) 188 0 0 [(0, (0, x2))] [] [] 0 0 (fun k v hsN => k = 0 ∧ v = (0, 0) ∧ hsN = [] ++ []) := by
  refine jT_xiload_n (v := (0, x2)) (pcN := 1) jIG_188_0 rfl rfl rfl ?_
  refine jT_xi2l (x := x2) (z := x2) (pcN := 2) jIG_188_1 rfl (jw_idd (by omega) (by omega)) rfl ?_
  refine jT_xlconst (z := 0) (pcN := 3) jIG_188_2 rfl rfl ?_
  refine jT_adv 1 (pcN := 6) (LN := [(0, (0, x2))]) (stN := [(1, 7), (1, 0), (1, x2)]) (hsN := []) (c1 := 0) (s1 := 0) (c2 := 0) (s2 := 0) (by exact rfl) ?_ (by omega) (by omega)
  refine jT_fR [] 0 (y := 189) (pcN := 9) (dC := 0) (bc1 := 0) (bc2 := 0) (c1 := 0) (c2 := 0) (as := [(1, x2), (1, 0), (1, 7)]) (asC := [(1, x2), (1, 0), (1, 7)]) (LN := [(0, (0, x2))]) (stN := []) (hsC := []) (v := (0, 0)) (st2 := [(0, 0)]) (jT_in_lo (d := 0) (v := x2) (lo := 0) (hi := 7) (by omega) (by omega) (by omega) (by omega)) (by rfl) (by rfl) (by decide +kernel) (by rfl) (by rfl) (by omega) (by omega) (by omega) (by omega) rfl ?_
  exact jT_ret rfl (by decide) (by show 0 ≤ 0; omega) (by omega) (by omega) ⟨rfl, rfl, rfl⟩
theorem jIG_306_0 : jmI (jm 306) 0 = (.iload_n 1, 1) := by rfl
theorem jIG_306_4 : jmI (jm 306) 4 = (.ifCond .eq 16, 3) := by rfl
theorem jIG_306_20 : jmI (jm 306) 20 = (.iconst 0, 1) := by rfl
theorem jG_306_13 {xs : List Int} {d : Nat} {x1 x2 : Int} (h_x1 : 1 ≤ x1 ∧ x1 ≤ 255) (h_x2 : (-2147483648) ≤ x2 ∧ x2 ≤ (-1)) : jT xs (d + 2) 306 0 0 [(0, (0, x1)), (1, (0, x2))] [] [] 0 0 (fun k v hsN => k = 0 ∧ v = (0, 0) ∧ hsN = [] ++ []) := by
  refine jT_xiload_n (v := (0, x2)) (pcN := 1) jIG_306_0 rfl rfl rfl ?_
  refine jT_fR [] 0 (y := 188) (pcN := 4) (dC := 1) (bc1 := 0) (bc2 := 0) (c1 := 0) (c2 := 0) (as := [(0, x2)]) (asC := [(0, x2)]) (LN := [(0, (0, x1)), (1, (0, x2))]) (stN := []) (hsC := []) (v := (0, 0)) (st2 := [(0, 0)]) (jG_188_12 (d := 0) (by omega)) (by rfl) (by rfl) (by decide +kernel) (by rfl) (by rfl) (by omega) (by omega) (by omega) (by omega) rfl ?_
  refine jT_xifT (pcN := 20) jIG_306_4 rfl (by decide +kernel) rfl ?_
  refine jT_xiconst (k := 0) (pcN := 21) jIG_306_20 rfl ?_
  exact jT_ret rfl (by decide) (by show 0 ≤ 0; omega) (by omega) (by omega) ⟨rfl, rfl, rfl⟩
def jzG_43 : JC := (14, [(0, 2), (4, 1), (4, 2), (4, 3), (4, 4), (0, 0), (4, 5), (0, 0), (4, 6), (4, 7), (1, 1), (4, 8), (0, 0), (4, 9), (0, 0), (0, 0), (0, 0), (0, 0), (0, 0), (0, 0), (0, 0), (4, 10), (4, 11), (4, 12), (4, 13), (4, 14), (4, 15), (0, 0)], [])
def jpG_44 : List JC := [jzG_43, jgh, jgh, jgh, jgh, jgh, jgh, jgh, jgh, jgh, jgh, jgh, jgh, jgh, jgh, jgh]
theorem jG_191_14 {xs : List Int} {d : Nat} : jT xs d 191 16 0 [(0, (4, 0)), (1, (0, 0)), (2, (0, 2))] [] jpG_19 0 0 (fun k v hsN => k = 0 ∧ v = (0, 1) ∧ hsN = jpG_44) := by
  refine jT_advK 9 (pcN := 18) (LN := [(0, (4, 0)), (1, (0, 0)), (2, (0, 2))]) (stN := [(0, 1)]) (hsN := jpG_44) (c1 := 0) (s1 := 0) (c2 := 0) (s2 := 0) (by decide +kernel) ?_ (by omega) (by omega)
  exact jT_ret rfl (by decide) (by show 16 ≤ 16; omega) (by omega) (by omega) ⟨rfl, rfl, rfl⟩
theorem jIG_305_22 : jmI (jm 305) 22 = (.aload_n 0, 1) := by rfl
theorem jIG_305_23 : jmI (jm 305) 23 = (.iload_n 1, 1) := by rfl
theorem jIG_305_24 : jmI (jm 305) 24 = (.iload_n 2, 1) := by rfl
theorem jIG_305_28 : jmI (jm 305) 28 = (.iconst 2, 1) := by rfl
theorem jIG_305_32 : jmI (jm 305) 32 = (.ifCond .eq 5, 3) := by rfl
theorem jG_305_15 {xs : List Int} {d : Nat} {x1 x2 : Int} (h_x1 : 1 ≤ x1 ∧ x1 ≤ 255) (h_x2 : (-2147483648) ≤ x2 ∧ x2 ≤ (-1)) : jT xs (d + 3) 305 16 0 [(0, (4, 0)), (1, (0, x1)), (2, (0, x2))] [] jpG_19 0 0 (fun k v hsN => k = 0 ∧ v = (0, 0) ∧ hsN = jpG_44) := by
  refine jT_xaload_n (v := (4, 0)) (pcN := 1) jIG_305_0 rfl rfl rfl ?_
  refine jT_xiconst (k := 0) (pcN := 2) jIG_305_1 rfl ?_
  refine jT_adv 1 (pcN := 5) (LN := [(0, (4, 0)), (1, (0, x1)), (2, (0, x2))]) (stN := []) (hsN := jpG_19) (c1 := 0) (s1 := 0) (c2 := 0) (s2 := 0) (by exact rfl) ?_ (by omega) (by omega)
  refine jT_xaload_n (v := (4, 0)) (pcN := 6) jIG_305_5 rfl rfl rfl ?_
  refine jT_xiload_n (v := (0, x1)) (pcN := 7) jIG_305_6 rfl rfl rfl ?_
  refine jT_xi2l (x := x1) (z := x1) (pcN := 8) jIG_305_7 rfl (jw_idd (by omega) (by omega)) rfl ?_
  refine jT_xlconst (z := 1) (pcN := 9) jIG_305_8 rfl rfl ?_
  refine jT_adv 1 (pcN := 12) (LN := [(0, (4, 0)), (1, (0, x1)), (2, (0, x2))]) (stN := [(1, 255), (1, 1), (1, x1), (4, 0)]) (hsN := jpG_19) (c1 := 0) (s1 := 0) (c2 := 0) (s2 := 0) (by exact rfl) ?_ (by omega) (by omega)
  refine jT_fR [] 16 (y := 189) (pcN := 15) (dC := 0) (bc1 := 0) (bc2 := 0) (c1 := 0) (c2 := 0) (as := [(1, x1), (1, 1), (1, 255)]) (asC := [(1, x1), (1, 1), (1, 255)]) (LN := [(0, (4, 0)), (1, (0, x1)), (2, (0, x2))]) (stN := [(4, 0)]) (hsC := []) (v := (0, 1)) (st2 := [(0, 1), (4, 0)]) (jT_in_ok (d := 0) (v := x1) (lo := 1) (hi := 255) (by omega) (by omega) (by omega) (by omega) (by omega)) (by rfl) (by rfl) (by decide +kernel) (by rfl) (by rfl) (by omega) (by omega) (by omega) (by omega) rfl ?_
  refine jT_xiconst (k := 1) (pcN := 16) jIG_305_15 rfl ?_
  refine jT_fR [0] 16 (y := 191) (pcN := 19) (dC := 0) (bc1 := 0) (bc2 := 0) (c1 := 0) (c2 := 0) (as := [(4, 0), (0, 1), (0, 1)]) (asC := [(4, 0), (0, 1), (0, 1)]) (LN := [(0, (4, 0)), (1, (0, x1)), (2, (0, x2))]) (stN := []) (hsC := [jgh]) (v := (0, 0)) (st2 := [(0, 0)]) (jG_191_11 (d := 0)) (by rfl) (by rfl) (by decide +kernel) (by rfl) (by rfl) (by omega) (by omega) (by omega) (by omega) rfl ?_
  refine jT_xifF (t := 35) (pcN := 22) jIG_305_19 rfl (by decide +kernel) rfl rfl ?_
  refine jT_xaload_n (v := (4, 0)) (pcN := 23) jIG_305_22 rfl rfl rfl ?_
  refine jT_xiload_n (v := (0, x1)) (pcN := 24) jIG_305_23 rfl rfl rfl ?_
  refine jT_xiload_n (v := (0, x2)) (pcN := 25) jIG_305_24 rfl rfl rfl ?_
  refine jT_fR [] 16 (y := 306) (pcN := 28) (dC := 2) (bc1 := 0) (bc2 := 0) (c1 := 0) (c2 := 0) (as := [(0, x1), (0, x2)]) (asC := [(0, x1), (0, x2)]) (LN := [(0, (4, 0)), (1, (0, x1)), (2, (0, x2))]) (stN := [(4, 0)]) (hsC := []) (v := (0, 0)) (st2 := [(0, 0), (4, 0)]) (jG_306_13 (d := 0) (by omega) (by omega)) (by rfl) (by rfl) (by decide +kernel) (by rfl) (by rfl) (by omega) (by omega) (by omega) (by omega) rfl ?_
  refine jT_xiconst (k := 2) (pcN := 29) jIG_305_28 rfl ?_
  refine jT_fB [0, 1, 2, 3, 4, 5, 6, 7, 8, 9, 10, 11, 12, 13, 14, 15] 16 (y := 191) (pcN := 32) (dC := 0) (bc1 := 0) (bc2 := 0) (c1 := 0) (c2 := 0) (as := [(4, 0), (0, 0), (0, 2)]) (asC := [(4, 0), (0, 0), (0, 2)]) (LN := [(0, (4, 0)), (1, (0, x1)), (2, (0, x2))]) (stN := []) (hsC := jpG_19) (hsD := jpG_44) (v := (0, 1)) (st2 := [(0, 1)]) (hs2 := jpG_44) (jG_191_14 (d := 0)) (by rfl) (by rfl) (by decide +kernel) (by rfl) (by rfl) (by omega) (by omega) (by omega) (by omega) rfl (by decide +kernel) ?_
  refine jT_xifF (t := 37) (pcN := 35) jIG_305_32 rfl (by decide +kernel) rfl rfl ?_
  refine jT_xiconst (k := 0) (pcN := 36) jIG_305_35 rfl ?_
  exact jT_ret rfl (by decide) (by show 16 ≤ 16; omega) (by omega) (by omega) ⟨rfl, rfl, rfl⟩
theorem jG_186_16 {xs : List Int} {d : Nat} : jT xs d 186 16 0 [(0, (4, 0))] [] jpG_44 0 0 (fun k v hsN => k = 0 ∧ v = (0, 2) ∧ hsN = jpG_44 ++ []) := by
  refine jT_advK 2 (pcN := 4) (LN := [(0, (4, 0))]) (stN := [(0, 2)]) (hsN := jpG_44) (c1 := 0) (s1 := 0) (c2 := 0) (s2 := 0) (by decide +kernel) ?_ (by omega) (by omega)
  exact jT_ret rfl (by decide) (by show 16 ≤ 16; omega) (by omega) (by omega) ⟨rfl, rfl, rfl⟩
theorem jIG_115_4 : jmI (jm 115) 4 = (.iload_n 1, 1) := by rfl
theorem jIG_115_5 : jmI (jm 115) 5 = (.iload_n 2, 1) := by rfl
theorem jIG_115_6 : jmI (jm 115) 6 = (.if_icmp .lt 14, 3) := by rfl
theorem jG_115_17 {xs : List Int} {d : Nat} {x2 : Int} (h_x2 : 0 ≤ x2 ∧ x2 ≤ 7) : jT xs d 115 1 0 [(0, (4, 0)), (1, (0, x2)), (2, (0, 8))] [] [jgh] 0 0 (fun k v hsN => k = 0 ∧ v = (9, 0) ∧ hsN = [jgh] ++ []) := by
  refine jT_xiload_n (v := (0, x2)) (pcN := 1) jIG_115_0 rfl rfl rfl ?_
  refine jT_ifF (a := x2) (t := 9) (by rfl) (by rfl) (by rfl) (jw_idd (by omega) (by omega)) (by simp only [jcP] <;> omega) ?_
  refine jT_xiload_n (v := (0, x2)) (pcN := 5) jIG_115_4 rfl rfl rfl ?_
  refine jT_xiload_n (v := (0, 8)) (pcN := 6) jIG_115_5 rfl rfl rfl ?_
  refine jT_icT (a := x2) (b := 8) (t := 20) (by rfl) (by rfl) (by rfl) (jw_idd (by omega) (by omega)) (jw_idd (by omega) (by omega)) (by simp only [jcP] <;> omega) ?_
  exact jT_ret rfl (by decide) (by show 1 ≤ 1; omega) (by omega) (by omega) ⟨rfl, rfl, rfl⟩
def jzG_53 : JC := (9, [(4, 1), (4, 2), (4, 3), (4, 4), (4, 5)], [])
def jpG_54 : List JC := [jzG_53, (114, [], [6, 6, 6, 6, 6, 6, 6, 6]), jgh, jgh, jgh, jgh, jgh]
theorem jG_57_18 {xs : List Int} {d : Nat} : jT xs d 57 7 0 [(0, (4, 0)), (1, (0, 0))] [] jpG_54 0 0 (fun k v hsN => k = 0 ∧ v = (4, 6) ∧ hsN = jpG_54 ++ []) := by
  refine jT_advK 4 (pcN := 6) (LN := [(0, (4, 0)), (1, (0, 0))]) (stN := [(4, 6)]) (hsN := jpG_54) (c1 := 0) (s1 := 0) (c2 := 0) (s2 := 0) (by decide +kernel) ?_ (by omega) (by omega)
  exact jT_ret rfl (by decide) (by show 7 ≤ 7; omega) (by omega) (by omega) ⟨rfl, rfl, rfl⟩
theorem jG_16_19 {xs : List Int} {d : Nat} : jT xs d 16 2 0 [(0, (4, 0))] [] [(4, [(4, 1), (1, 1)], []), (101, [], [0, 0, 0, 0, 0, 0])] 0 0 (fun k v hsN => k = 0 ∧ v = (1, 0) ∧ hsN = [(4, [(4, 1), (1, 1)], []), (101, [], [0, 0, 0, 0, 0, 0])] ++ []) := by
  refine jT_advK 86 (pcN := 31) (LN := [(3, (0, 6)), (1, (1, 0)), (0, (4, 0))]) (stN := [(1, 0)]) (hsN := [(4, [(4, 1), (1, 1)], []), (101, [], [0, 0, 0, 0, 0, 0])]) (c1 := 0) (s1 := 0) (c2 := 0) (s2 := 0) (by decide +kernel) ?_ (by omega) (by omega)
  exact jT_ret rfl (by decide) (by show 2 ≤ 2; omega) (by omega) (by omega) ⟨rfl, rfl, rfl⟩
theorem jG_142_20 {xs : List Int} {d : Nat} : jT xs (d + 1) 142 3 0 [(0, (4, 0)), (1, (4, 1)), (2, (0, 100))] [] [jgh, (4, [(4, 2), (1, 1)], []), (101, [], [0, 0, 0, 0, 0, 0])] 0 0 (fun k v hsN => k = 0 ∧ v = (9, 0) ∧ hsN = [jgh, (4, [(4, 2), (1, 1)], []), (101, [], [0, 0, 0, 0, 0, 0])] ++ []) := by
  refine jT_advK 6 (pcN := 10) (LN := [(0, (4, 0)), (1, (4, 1)), (2, (0, 100))]) (stN := [(4, 1)]) (hsN := [jgh, (4, [(4, 2), (1, 1)], []), (101, [], [0, 0, 0, 0, 0, 0])]) (c1 := 0) (s1 := 0) (c2 := 0) (s2 := 0) (by decide +kernel) ?_ (by omega) (by omega)
  refine jT_fR [1, 2] 3 (y := 16) (pcN := 13) (dC := 0) (bc1 := 0) (bc2 := 0) (c1 := 0) (c2 := 0) (as := [(4, 1)]) (asC := [(4, 0)]) (LN := [(0, (4, 0)), (1, (4, 1)), (2, (0, 100))]) (stN := []) (hsC := [(4, [(4, 1), (1, 1)], []), (101, [], [0, 0, 0, 0, 0, 0])]) (v := (1, 0)) (st2 := [(1, 0)]) (jG_16_19 (d := 0)) (by rfl) (by rfl) (by decide +kernel) (by rfl) (by rfl) (by omega) (by omega) (by omega) (by omega) rfl ?_
  refine jT_advK 4 (pcN := 30) (LN := [(0, (4, 0)), (1, (4, 1)), (2, (0, 100))]) (stN := []) (hsN := [jgh, (4, [(4, 2), (1, 1)], []), (101, [], [0, 0, 0, 0, 0, 0])]) (c1 := 0) (s1 := 0) (c2 := 0) (s2 := 0) (by decide +kernel) ?_ (by omega) (by omega)
  exact jT_ret rfl (by decide) (by show 3 ≤ 3; omega) (by omega) (by omega) ⟨rfl, rfl, rfl⟩
theorem jG_57_21 {xs : List Int} {d : Nat} : jT xs d 57 7 0 [(0, (4, 0)), (1, (0, 1))] [] jpG_54 0 0 (fun k v hsN => k = 0 ∧ v = (4, 6) ∧ hsN = jpG_54 ++ []) := by
  refine jT_advK 4 (pcN := 6) (LN := [(0, (4, 0)), (1, (0, 1))]) (stN := [(4, 6)]) (hsN := jpG_54) (c1 := 0) (s1 := 0) (c2 := 0) (s2 := 0) (by decide +kernel) ?_ (by omega) (by omega)
  exact jT_ret rfl (by decide) (by show 7 ≤ 7; omega) (by omega) (by omega) ⟨rfl, rfl, rfl⟩
theorem jG_57_22 {xs : List Int} {d : Nat} : jT xs d 57 7 0 [(0, (4, 0)), (1, (0, 2))] [] jpG_54 0 0 (fun k v hsN => k = 0 ∧ v = (4, 6) ∧ hsN = jpG_54 ++ []) := by
  refine jT_advK 4 (pcN := 6) (LN := [(0, (4, 0)), (1, (0, 2))]) (stN := [(4, 6)]) (hsN := jpG_54) (c1 := 0) (s1 := 0) (c2 := 0) (s2 := 0) (by decide +kernel) ?_ (by omega) (by omega)
  exact jT_ret rfl (by decide) (by show 7 ≤ 7; omega) (by omega) (by omega) ⟨rfl, rfl, rfl⟩
theorem jG_57_23 {xs : List Int} {d : Nat} : jT xs d 57 7 0 [(0, (4, 0)), (1, (0, 3))] [] jpG_54 0 0 (fun k v hsN => k = 0 ∧ v = (4, 6) ∧ hsN = jpG_54 ++ []) := by
  refine jT_advK 4 (pcN := 6) (LN := [(0, (4, 0)), (1, (0, 3))]) (stN := [(4, 6)]) (hsN := jpG_54) (c1 := 0) (s1 := 0) (c2 := 0) (s2 := 0) (by decide +kernel) ?_ (by omega) (by omega)
  exact jT_ret rfl (by decide) (by show 7 ≤ 7; omega) (by omega) (by omega) ⟨rfl, rfl, rfl⟩
theorem jG_57_24 {xs : List Int} {d : Nat} : jT xs d 57 7 0 [(0, (4, 0)), (1, (0, 4))] [] jpG_54 0 0 (fun k v hsN => k = 0 ∧ v = (4, 6) ∧ hsN = jpG_54 ++ []) := by
  refine jT_advK 4 (pcN := 6) (LN := [(0, (4, 0)), (1, (0, 4))]) (stN := [(4, 6)]) (hsN := jpG_54) (c1 := 0) (s1 := 0) (c2 := 0) (s2 := 0) (by decide +kernel) ?_ (by omega) (by omega)
  exact jT_ret rfl (by decide) (by show 7 ≤ 7; omega) (by omega) (by omega) ⟨rfl, rfl, rfl⟩
theorem jG_57_25 {xs : List Int} {d : Nat} : jT xs d 57 7 0 [(0, (4, 0)), (1, (0, 5))] [] jpG_54 0 0 (fun k v hsN => k = 0 ∧ v = (4, 6) ∧ hsN = jpG_54 ++ []) := by
  refine jT_advK 4 (pcN := 6) (LN := [(0, (4, 0)), (1, (0, 5))]) (stN := [(4, 6)]) (hsN := jpG_54) (c1 := 0) (s1 := 0) (c2 := 0) (s2 := 0) (by decide +kernel) ?_ (by omega) (by omega)
  exact jT_ret rfl (by decide) (by show 7 ≤ 7; omega) (by omega) (by omega) ⟨rfl, rfl, rfl⟩
theorem jG_57_26 {xs : List Int} {d : Nat} : jT xs d 57 7 0 [(0, (4, 0)), (1, (0, 6))] [] jpG_54 0 0 (fun k v hsN => k = 0 ∧ v = (4, 6) ∧ hsN = jpG_54 ++ []) := by
  refine jT_advK 4 (pcN := 6) (LN := [(0, (4, 0)), (1, (0, 6))]) (stN := [(4, 6)]) (hsN := jpG_54) (c1 := 0) (s1 := 0) (c2 := 0) (s2 := 0) (by decide +kernel) ?_ (by omega) (by omega)
  exact jT_ret rfl (by decide) (by show 7 ≤ 7; omega) (by omega) (by omega) ⟨rfl, rfl, rfl⟩
theorem jG_57_27 {xs : List Int} {d : Nat} : jT xs d 57 7 0 [(0, (4, 0)), (1, (0, 7))] [] jpG_54 0 0 (fun k v hsN => k = 0 ∧ v = (4, 6) ∧ hsN = jpG_54 ++ []) := by
  refine jT_advK 4 (pcN := 6) (LN := [(0, (4, 0)), (1, (0, 7))]) (stN := [(4, 6)]) (hsN := jpG_54) (c1 := 0) (s1 := 0) (c2 := 0) (s2 := 0) (by decide +kernel) ?_ (by omega) (by omega)
  exact jT_ret rfl (by decide) (by show 7 ≤ 7; omega) (by omega) (by omega) ⟨rfl, rfl, rfl⟩
theorem jIG_165_0 : jmI (jm 165) 0 = (.iconst 1, 1) := by rfl
theorem jIG_165_1 : jmI (jm 165) 1 = (.istore_n 2, 1) := by rfl
theorem jIG_165_2 : jmI (jm 165) 2 = (.iconst 0, 1) := by rfl
theorem jIG_165_3 : jmI (jm 165) 3 = (.istore_n 3, 1) := by rfl
def jzG_59 : JC := (9, [(4, 12), (4, 13), (4, 14), (4, 15), (4, 16)], [])
def jzG_60 : JC := (114, [], [17, 17, 17, 17, 17, 17, 17, 17])
def jpG_61 : List JC := [jzG_7, jgh, jgh, jgh, jgh, jgh, jgh, jgh, (101, [], [0, 0, 0, 0, 0, 0]), jgh, jgh, jzG_59, jzG_60, jgh, jgh, jgh, jgh, (4, [(4, 18), (1, 1)], []), (101, [], [0, 0, 0, 0, 0, 0])]
theorem jIG_165_4 : jmI (jm 165) 4 = (.iload_n 3, 1) := by rfl
theorem jIG_165_5 : jmI (jm 165) 5 = (.bipush 8, 2) := by rfl
theorem jIG_165_7 : jmI (jm 165) 7 = (.if_icmp .ge 94, 3) := by rfl
theorem jGl_ch_28_8 {xs : List Int} {d b1 b2 : Nat} {Q : Nat → JV → List JC → Prop} (hd : 2 < d) {r1 : Int} {u : Int} (h_u : 0 ≤ u ∧ u ≤ 1) (h_r1 : 1 ≤ r1 ∧ r1 ≤ 255) (h : jT xs d 165 19 101 [(0, (4, 0))] [] [jzG_7, jgh, jgh, jgh, jgh, jgh, jgh, jgh, (101, [], [0, 0, 0, 0, 0, 0]), jgh, jgh, jzG_59, jzG_60, jgh, jgh, jgh, jgh, (4, [(4, 18), (1, 1)], []), (101, [], [0, 0, 0, 0, 0, 0])] b1 b2 Q) : jT xs d 165 19 4 [(3, (0, 8)), (2, (0, u)), (0, (4, 0)), (1, (0, r1))] [] [jzG_7, jgh, jgh, jgh, jgh, jgh, jgh, jgh, (101, [], [0, 0, 0, 0, 0, 0]), jgh, jgh, jzG_59, jzG_60, jgh, jgh, jgh, jgh, (4, [(4, 18), (1, 1)], []), (101, [], [0, 0, 0, 0, 0, 0])] b1 b2 Q := by
  refine jT_xiload_n (v := (0, 8)) (pcN := 5) jIG_165_4 rfl rfl rfl ?_
  refine jT_xbipush (k := 8) (pcN := 7) jIG_165_5 (by decide) rfl ?_
  refine jT_xicT (pcN := 101) jIG_165_7 rfl (by decide +kernel) rfl ?_
  refine jT_loc (LN := [(0, (4, 0))]) (by show List.Nodup [0]; decide) (by intro q hq; simp only [List.mem_cons, List.not_mem_nil, or_false] at hq; rcases hq with rfl <;> rfl) ?_
  exact h
theorem jIG_165_10 : jmI (jm 165) 10 = (.iload_n 1, 1) := by rfl
theorem jIG_165_11 : jmI (jm 165) 11 = (.iload_n 3, 1) := by rfl
theorem jIG_165_13 : jmI (jm 165) 13 = (.iconst 1, 1) := by rfl
theorem jIG_165_15 : jmI (jm 165) 15 = (.iconst 1, 1) := by rfl
theorem jIG_165_16 : jmI (jm 165) 16 = (.if_icmp .ne 79, 3) := by rfl
theorem jIG_165_19 : jmI (jm 165) 19 = (.aload_n 0, 1) := by rfl
theorem jIG_165_20 : jmI (jm 165) 20 = (.getfield 67, 3) := by rfl
theorem jIG_165_23 : jmI (jm 165) 23 = (.iload_n 3, 1) := by rfl
theorem jIG_165_27 : jmI (jm 165) 27 = (.astore 4, 2) := by rfl
theorem jIG_165_29 : jmI (jm 165) 29 = (.aload_n 0, 1) := by rfl
theorem jIG_165_30 : jmI (jm 165) 30 = (.aload 4, 2) := by rfl
theorem jIG_165_32 : jmI (jm 165) 32 = (.bipush 100, 2) := by rfl
theorem jIG_165_37 : jmI (jm 165) 37 = (.iconst 0, 1) := by rfl
theorem jIG_165_38 : jmI (jm 165) 38 = (.istore 5, 2) := by rfl
theorem jIG_165_40 : jmI (jm 165) 40 = (.iload 5, 2) := by rfl
theorem jIG_165_42 : jmI (jm 165) 42 = (.bipush 6, 2) := by rfl
theorem jIG_165_44 : jmI (jm 165) 44 = (.if_icmp .ge 49, 3) := by rfl
theorem jIG_165_47 : jmI (jm 165) 47 = (.aload_n 0, 1) := by rfl
theorem jIG_165_48 : jmI (jm 165) 48 = (.getfield 50, 3) := by rfl
theorem jIG_165_51 : jmI (jm 165) 51 = (.iload 5, 2) := by rfl
theorem jIG_165_53 : jmI (jm 165) 53 = (.iload_n 2, 1) := by rfl
theorem jIG_165_54 : jmI (jm 165) 54 = (.ifCond .eq 14, 3) := by rfl
theorem jIG_165_57 : jmI (jm 165) 57 = (.aload 4, 2) := by rfl
theorem jIG_165_59 : jmI (jm 165) 59 = (.getfield 209, 3) := by rfl
theorem jIG_165_62 : jmI (jm 165) 62 = (.iload 5, 2) := by rfl
theorem jIG_165_64 : jmI (jm 165) 64 = (.laload, 1) := by rfl
theorem jIG_165_65 : jmI (jm 165) 65 = (.goto 21, 3) := by rfl
theorem jIG_165_87 : jmI (jm 165) 87 = (.iinc 5 1, 3) := by rfl
theorem jIG_165_90 : jmI (jm 165) 90 = (.goto (-50), 3) := by rfl
theorem jIG_165_93 : jmI (jm 165) 93 = (.iconst 0, 1) := by rfl
theorem jIG_165_94 : jmI (jm 165) 94 = (.istore_n 2, 1) := by rfl
theorem jIG_165_95 : jmI (jm 165) 95 = (.iinc 3 1, 3) := by rfl
theorem jIG_165_98 : jmI (jm 165) 98 = (.goto (-94), 3) := by rfl
theorem jIG_165_68 : jmI (jm 165) 68 = (.aload_n 0, 1) := by rfl
theorem jIG_165_69 : jmI (jm 165) 69 = (.getfield 50, 3) := by rfl
theorem jIG_165_72 : jmI (jm 165) 72 = (.iload 5, 2) := by rfl
theorem jIG_165_74 : jmI (jm 165) 74 = (.laload, 1) := by rfl
theorem jIG_165_75 : jmI (jm 165) 75 = (.aload 4, 2) := by rfl
theorem jIG_165_77 : jmI (jm 165) 77 = (.getfield 209, 3) := by rfl
theorem jIG_165_80 : jmI (jm 165) 80 = (.iload 5, 2) := by rfl
theorem jIG_165_82 : jmI (jm 165) 82 = (.laload, 1) := by rfl
theorem jGl_ch_28_7 {xs : List Int} {d b1 b2 : Nat} {Q : Nat → JV → List JC → Prop} (hd : 2 < d) {r1 : Int} {u : Int} (h_u : 0 ≤ u ∧ u ≤ 1) (h_r1 : 1 ≤ r1 ∧ r1 ≤ 255) (h : jT xs d 165 19 101 [(0, (4, 0))] [] [jzG_7, jgh, jgh, jgh, jgh, jgh, jgh, jgh, (101, [], [0, 0, 0, 0, 0, 0]), jgh, jgh, jzG_59, jzG_60, jgh, jgh, jgh, jgh, (4, [(4, 18), (1, 1)], []), (101, [], [0, 0, 0, 0, 0, 0])] b1 b2 Q) : jT xs d 165 19 4 [(3, (0, 7)), (2, (0, u)), (0, (4, 0)), (1, (0, r1))] [] [jzG_7, jgh, jgh, jgh, jgh, jgh, jgh, jgh, (101, [], [0, 0, 0, 0, 0, 0]), jgh, jgh, jzG_59, jzG_60, jgh, jgh, jgh, jgh, (4, [(4, 18), (1, 1)], []), (101, [], [0, 0, 0, 0, 0, 0])] b1 b2 Q := by
  rcases (show (0 ≤ (((Int32.ofInt r1 >>> (Int32.ofInt 7 &&& 31)).toInt) % 2) - 1) ∨ ((((Int32.ofInt r1 >>> (Int32.ofInt 7 &&& 31)).toInt) % 2) - 1 < 0) by omega) with g_0 | g_0
  · rcases (show (0 ≤ u - 1) ∨ (u - 1 < 0) by omega) with g_1 | g_1
    · refine jT_xiload_n (v := (0, 7)) (pcN := 5) jIG_165_4 rfl rfl rfl ?_
      refine jT_xbipush (k := 8) (pcN := 7) jIG_165_5 (by decide) rfl ?_
      refine jT_xicF (t := 101) (pcN := 10) jIG_165_7 rfl (by decide +kernel) rfl rfl ?_
      refine jT_xiload_n (v := (0, r1)) (pcN := 11) jIG_165_10 rfl rfl rfl ?_
      refine jT_xiload_n (v := (0, 7)) (pcN := 12) jIG_165_11 rfl rfl rfl ?_
      refine jT_ishr (x := r1) (y := 7) (z := (Int32.ofInt r1 >>> (Int32.ofInt 7 &&& 31)).toInt) (by rfl) (by rfl) rfl ?_
      have hb_q1 : (-2147483648) ≤ (Int32.ofInt r1 >>> (Int32.ofInt 7 &&& 31)).toInt ∧ (Int32.ofInt r1 >>> (Int32.ofInt 7 &&& 31)).toInt ≤ 2147483647 := ⟨Int32.le_toInt _, Int.le_of_lt_add_one (Int32.toInt_lt _)⟩
      generalize hq_q1 : (Int32.ofInt r1 >>> (Int32.ofInt 7 &&& 31)).toInt = q1 at hb_q1 g_0 ⊢
      refine jT_xiconst (k := 1) (pcN := 14) jIG_165_13 rfl ?_
      refine jT_iand (x := q1) (y := 1) (z := q1 % 2) (by rfl) (by rfl) (jiand_1 _) ?_
      have hb_q2 : 0 ≤ q1 % 2 ∧ q1 % 2 ≤ 1 := ⟨by omega, by omega⟩
      generalize hq_q2 : q1 % 2 = q2 at hb_q2 g_0 ⊢
      refine jT_xiconst (k := 1) (pcN := 16) jIG_165_15 rfl ?_
      refine jT_icF (a := q2) (b := 1) (t := 95) (by rfl) (by rfl) (by rfl) (jw_idd (by omega) (by omega)) (jw_idd (by omega) (by omega)) (by simp only [jcP] <;> omega) ?_
      refine jT_xaload_n (v := (4, 0)) (pcN := 20) jIG_165_19 rfl rfl rfl ?_
      refine jT_xgetf (a := 0) (t := 1) (ci := 13) (fi := 11) (c := jzG_7) (v := (4, 11)) (pcN := 23) jIG_165_20 rfl rfl rfl rfl rfl rfl rfl ?_
      refine jT_xiload_n (v := (0, 7)) (pcN := 24) jIG_165_23 rfl rfl rfl ?_
      refine jT_fR [11, 12, 13, 14, 15, 16, 17] 19 (y := 57) (pcN := 27) (dC := 0) (bc1 := 0) (bc2 := 0) (c1 := b1) (c2 := b2) (as := [(4, 11), (0, 7)]) (asC := [(4, 0), (0, 7)]) (LN := [(3, (0, 7)), (2, (0, u)), (0, (4, 0)), (1, (0, r1))]) (stN := []) (hsC := jpG_54) (v := (4, 6)) (st2 := [(4, 17)]) (jG_57_27 (d := 0)) (by rfl) (by rfl) (by decide +kernel) (by rfl) (by rfl) (by omega) (by omega) (by omega) (by omega) rfl ?_
      refine jT_xastore (v := (4, 17)) (LN := [(4, (4, 17)), (3, (0, 7)), (2, (0, u)), (0, (4, 0)), (1, (0, r1))]) (pcN := 29) jIG_165_27 rfl rfl rfl rfl ?_
      refine jT_xaload_n (v := (4, 0)) (pcN := 30) jIG_165_29 rfl rfl rfl ?_
      refine jT_xaload (v := (4, 17)) (pcN := 32) jIG_165_30 rfl rfl rfl ?_
      refine jT_xbipush (k := 100) (pcN := 34) jIG_165_32 (by decide) rfl ?_
      refine jT_fR [0, 17, 18] 19 (y := 142) (pcN := 37) (dC := 1) (bc1 := 0) (bc2 := 0) (c1 := b1) (c2 := b2) (as := [(4, 0), (4, 17), (0, 100)]) (asC := [(4, 0), (4, 1), (0, 100)]) (LN := [(4, (4, 17)), (3, (0, 7)), (2, (0, u)), (0, (4, 0)), (1, (0, r1))]) (stN := []) (hsC := [jgh, (4, [(4, 2), (1, 1)], []), (101, [], [0, 0, 0, 0, 0, 0])]) (v := (9, 0)) (st2 := []) (jG_142_20 (d := 0)) (by rfl) (by rfl) (by decide +kernel) (by rfl) (by rfl) (by omega) (by omega) (by omega) (by omega) rfl ?_
      refine jT_xiconst (k := 0) (pcN := 38) jIG_165_37 rfl ?_
      refine jT_xistore (v := (0, 0)) (LN := [(5, (0, 0)), (4, (4, 17)), (3, (0, 7)), (2, (0, u)), (0, (4, 0)), (1, (0, r1))]) (pcN := 40) jIG_165_38 rfl rfl rfl rfl ?_
      refine jT_xiload (v := (0, 0)) (pcN := 42) jIG_165_40 rfl rfl rfl ?_
      refine jT_xbipush (k := 6) (pcN := 44) jIG_165_42 (by decide) rfl ?_
      refine jT_xicF (t := 93) (pcN := 47) jIG_165_44 rfl (by decide +kernel) rfl rfl ?_
      refine jT_xaload_n (v := (4, 0)) (pcN := 48) jIG_165_47 rfl rfl rfl ?_
      refine jT_xgetf (a := 0) (t := 1) (ci := 13) (fi := 7) (c := jzG_7) (v := (4, 8)) (pcN := 51) jIG_165_48 rfl rfl rfl rfl rfl rfl rfl ?_
      refine jT_xiload (v := (0, 0)) (pcN := 53) jIG_165_51 rfl rfl rfl ?_
      refine jT_xiload_n (v := (0, u)) (pcN := 54) jIG_165_53 rfl rfl rfl ?_
      refine jT_ifF (a := u) (t := 68) (by rfl) (by rfl) (by rfl) (jw_idd (by omega) (by omega)) (by simp only [jcP] <;> omega) ?_
      refine jT_xaload (v := (4, 17)) (pcN := 59) jIG_165_57 rfl rfl rfl ?_
      refine jT_xgetf (a := 17) (t := 2) (ci := 4) (fi := 0) (c := (4, [(4, 18), (1, 1)], [])) (v := (4, 18)) (pcN := 62) jIG_165_59 rfl rfl rfl rfl rfl rfl rfl ?_
      refine jT_xiload (v := (0, 0)) (pcN := 64) jIG_165_62 rfl rfl rfl ?_
      refine jT_lald (x := 0) (a := 18) (j := 0) (fs := []) (X := [0, 0, 0, 0, 0, 0]) jIG_165_64 rfl rfl rfl rfl ?_
      refine jT_eq (LN := [(5, (0, 0)), (4, (4, 17)), (3, (0, 7)), (2, (0, u)), (0, (4, 0)), (1, (0, r1))]) (stN := [(1, 0), (0, 0), (4, 8)]) (hsN := jpG_61) rfl rfl rfl ?_
      refine jT_xgoto (pcN := 86) jIG_165_65 rfl ?_
      refine jT_adv 1 (pcN := 87) (LN := [(5, (0, 0)), (4, (4, 17)), (3, (0, 7)), (2, (0, u)), (0, (4, 0)), (1, (0, r1))]) (stN := []) (hsN := jpG_61) (c1 := 0) (s1 := 0) (c2 := b1) (s2 := b2) (by exact rfl) ?_ (by omega) (by omega)
      refine jT_xiinc (x := 0) (z := 1) (LN := [(5, (0, 1)), (4, (4, 17)), (3, (0, 7)), (2, (0, u)), (0, (4, 0)), (1, (0, r1))]) (pcN := 90) jIG_165_87 rfl rfl (by decide) rfl rfl ?_
      refine jT_xgoto (pcN := 40) jIG_165_90 rfl ?_
      refine jT_xiload (v := (0, 1)) (pcN := 42) jIG_165_40 rfl rfl rfl ?_
      refine jT_xbipush (k := 6) (pcN := 44) jIG_165_42 (by decide) rfl ?_
      refine jT_xicF (t := 93) (pcN := 47) jIG_165_44 rfl (by decide +kernel) rfl rfl ?_
      refine jT_xaload_n (v := (4, 0)) (pcN := 48) jIG_165_47 rfl rfl rfl ?_
      refine jT_xgetf (a := 0) (t := 1) (ci := 13) (fi := 7) (c := jzG_7) (v := (4, 8)) (pcN := 51) jIG_165_48 rfl rfl rfl rfl rfl rfl rfl ?_
      refine jT_xiload (v := (0, 1)) (pcN := 53) jIG_165_51 rfl rfl rfl ?_
      refine jT_xiload_n (v := (0, u)) (pcN := 54) jIG_165_53 rfl rfl rfl ?_
      refine jT_ifF (a := u) (t := 68) (by rfl) (by rfl) (by rfl) (jw_idd (by omega) (by omega)) (by simp only [jcP] <;> omega) ?_
      refine jT_xaload (v := (4, 17)) (pcN := 59) jIG_165_57 rfl rfl rfl ?_
      refine jT_xgetf (a := 17) (t := 2) (ci := 4) (fi := 0) (c := (4, [(4, 18), (1, 1)], [])) (v := (4, 18)) (pcN := 62) jIG_165_59 rfl rfl rfl rfl rfl rfl rfl ?_
      refine jT_xiload (v := (0, 1)) (pcN := 64) jIG_165_62 rfl rfl rfl ?_
      refine jT_lald (x := 0) (a := 18) (j := 1) (fs := []) (X := [0, 0, 0, 0, 0, 0]) jIG_165_64 rfl rfl rfl rfl ?_
      refine jT_eq (LN := [(5, (0, 1)), (4, (4, 17)), (3, (0, 7)), (2, (0, u)), (0, (4, 0)), (1, (0, r1))]) (stN := [(1, 0), (0, 1), (4, 8)]) (hsN := jpG_61) rfl rfl rfl ?_
      refine jT_xgoto (pcN := 86) jIG_165_65 rfl ?_
      refine jT_adv 1 (pcN := 87) (LN := [(5, (0, 1)), (4, (4, 17)), (3, (0, 7)), (2, (0, u)), (0, (4, 0)), (1, (0, r1))]) (stN := []) (hsN := jpG_61) (c1 := 0) (s1 := 0) (c2 := b1) (s2 := b2) (by exact rfl) ?_ (by omega) (by omega)
      refine jT_xiinc (x := 1) (z := 2) (LN := [(5, (0, 2)), (4, (4, 17)), (3, (0, 7)), (2, (0, u)), (0, (4, 0)), (1, (0, r1))]) (pcN := 90) jIG_165_87 rfl rfl (by decide) rfl rfl ?_
      refine jT_xgoto (pcN := 40) jIG_165_90 rfl ?_
      refine jT_xiload (v := (0, 2)) (pcN := 42) jIG_165_40 rfl rfl rfl ?_
      refine jT_xbipush (k := 6) (pcN := 44) jIG_165_42 (by decide) rfl ?_
      refine jT_xicF (t := 93) (pcN := 47) jIG_165_44 rfl (by decide +kernel) rfl rfl ?_
      refine jT_xaload_n (v := (4, 0)) (pcN := 48) jIG_165_47 rfl rfl rfl ?_
      refine jT_xgetf (a := 0) (t := 1) (ci := 13) (fi := 7) (c := jzG_7) (v := (4, 8)) (pcN := 51) jIG_165_48 rfl rfl rfl rfl rfl rfl rfl ?_
      refine jT_xiload (v := (0, 2)) (pcN := 53) jIG_165_51 rfl rfl rfl ?_
      refine jT_xiload_n (v := (0, u)) (pcN := 54) jIG_165_53 rfl rfl rfl ?_
      refine jT_ifF (a := u) (t := 68) (by rfl) (by rfl) (by rfl) (jw_idd (by omega) (by omega)) (by simp only [jcP] <;> omega) ?_
      refine jT_xaload (v := (4, 17)) (pcN := 59) jIG_165_57 rfl rfl rfl ?_
      refine jT_xgetf (a := 17) (t := 2) (ci := 4) (fi := 0) (c := (4, [(4, 18), (1, 1)], [])) (v := (4, 18)) (pcN := 62) jIG_165_59 rfl rfl rfl rfl rfl rfl rfl ?_
      refine jT_xiload (v := (0, 2)) (pcN := 64) jIG_165_62 rfl rfl rfl ?_
      refine jT_lald (x := 0) (a := 18) (j := 2) (fs := []) (X := [0, 0, 0, 0, 0, 0]) jIG_165_64 rfl rfl rfl rfl ?_
      refine jT_eq (LN := [(5, (0, 2)), (4, (4, 17)), (3, (0, 7)), (2, (0, u)), (0, (4, 0)), (1, (0, r1))]) (stN := [(1, 0), (0, 2), (4, 8)]) (hsN := jpG_61) rfl rfl rfl ?_
      refine jT_xgoto (pcN := 86) jIG_165_65 rfl ?_
      refine jT_adv 1 (pcN := 87) (LN := [(5, (0, 2)), (4, (4, 17)), (3, (0, 7)), (2, (0, u)), (0, (4, 0)), (1, (0, r1))]) (stN := []) (hsN := jpG_61) (c1 := 0) (s1 := 0) (c2 := b1) (s2 := b2) (by exact rfl) ?_ (by omega) (by omega)
      refine jT_xiinc (x := 2) (z := 3) (LN := [(5, (0, 3)), (4, (4, 17)), (3, (0, 7)), (2, (0, u)), (0, (4, 0)), (1, (0, r1))]) (pcN := 90) jIG_165_87 rfl rfl (by decide) rfl rfl ?_
      refine jT_xgoto (pcN := 40) jIG_165_90 rfl ?_
      refine jT_xiload (v := (0, 3)) (pcN := 42) jIG_165_40 rfl rfl rfl ?_
      refine jT_xbipush (k := 6) (pcN := 44) jIG_165_42 (by decide) rfl ?_
      refine jT_xicF (t := 93) (pcN := 47) jIG_165_44 rfl (by decide +kernel) rfl rfl ?_
      refine jT_xaload_n (v := (4, 0)) (pcN := 48) jIG_165_47 rfl rfl rfl ?_
      refine jT_xgetf (a := 0) (t := 1) (ci := 13) (fi := 7) (c := jzG_7) (v := (4, 8)) (pcN := 51) jIG_165_48 rfl rfl rfl rfl rfl rfl rfl ?_
      refine jT_xiload (v := (0, 3)) (pcN := 53) jIG_165_51 rfl rfl rfl ?_
      refine jT_xiload_n (v := (0, u)) (pcN := 54) jIG_165_53 rfl rfl rfl ?_
      refine jT_ifF (a := u) (t := 68) (by rfl) (by rfl) (by rfl) (jw_idd (by omega) (by omega)) (by simp only [jcP] <;> omega) ?_
      refine jT_xaload (v := (4, 17)) (pcN := 59) jIG_165_57 rfl rfl rfl ?_
      refine jT_xgetf (a := 17) (t := 2) (ci := 4) (fi := 0) (c := (4, [(4, 18), (1, 1)], [])) (v := (4, 18)) (pcN := 62) jIG_165_59 rfl rfl rfl rfl rfl rfl rfl ?_
      refine jT_xiload (v := (0, 3)) (pcN := 64) jIG_165_62 rfl rfl rfl ?_
      refine jT_lald (x := 0) (a := 18) (j := 3) (fs := []) (X := [0, 0, 0, 0, 0, 0]) jIG_165_64 rfl rfl rfl rfl ?_
      refine jT_eq (LN := [(5, (0, 3)), (4, (4, 17)), (3, (0, 7)), (2, (0, u)), (0, (4, 0)), (1, (0, r1))]) (stN := [(1, 0), (0, 3), (4, 8)]) (hsN := jpG_61) rfl rfl rfl ?_
      refine jT_xgoto (pcN := 86) jIG_165_65 rfl ?_
      refine jT_adv 1 (pcN := 87) (LN := [(5, (0, 3)), (4, (4, 17)), (3, (0, 7)), (2, (0, u)), (0, (4, 0)), (1, (0, r1))]) (stN := []) (hsN := jpG_61) (c1 := 0) (s1 := 0) (c2 := b1) (s2 := b2) (by exact rfl) ?_ (by omega) (by omega)
      refine jT_xiinc (x := 3) (z := 4) (LN := [(5, (0, 4)), (4, (4, 17)), (3, (0, 7)), (2, (0, u)), (0, (4, 0)), (1, (0, r1))]) (pcN := 90) jIG_165_87 rfl rfl (by decide) rfl rfl ?_
      refine jT_xgoto (pcN := 40) jIG_165_90 rfl ?_
      refine jT_xiload (v := (0, 4)) (pcN := 42) jIG_165_40 rfl rfl rfl ?_
      refine jT_xbipush (k := 6) (pcN := 44) jIG_165_42 (by decide) rfl ?_
      refine jT_xicF (t := 93) (pcN := 47) jIG_165_44 rfl (by decide +kernel) rfl rfl ?_
      refine jT_xaload_n (v := (4, 0)) (pcN := 48) jIG_165_47 rfl rfl rfl ?_
      refine jT_xgetf (a := 0) (t := 1) (ci := 13) (fi := 7) (c := jzG_7) (v := (4, 8)) (pcN := 51) jIG_165_48 rfl rfl rfl rfl rfl rfl rfl ?_
      refine jT_xiload (v := (0, 4)) (pcN := 53) jIG_165_51 rfl rfl rfl ?_
      refine jT_xiload_n (v := (0, u)) (pcN := 54) jIG_165_53 rfl rfl rfl ?_
      refine jT_ifF (a := u) (t := 68) (by rfl) (by rfl) (by rfl) (jw_idd (by omega) (by omega)) (by simp only [jcP] <;> omega) ?_
      refine jT_xaload (v := (4, 17)) (pcN := 59) jIG_165_57 rfl rfl rfl ?_
      refine jT_xgetf (a := 17) (t := 2) (ci := 4) (fi := 0) (c := (4, [(4, 18), (1, 1)], [])) (v := (4, 18)) (pcN := 62) jIG_165_59 rfl rfl rfl rfl rfl rfl rfl ?_
      refine jT_xiload (v := (0, 4)) (pcN := 64) jIG_165_62 rfl rfl rfl ?_
      refine jT_lald (x := 0) (a := 18) (j := 4) (fs := []) (X := [0, 0, 0, 0, 0, 0]) jIG_165_64 rfl rfl rfl rfl ?_
      refine jT_eq (LN := [(5, (0, 4)), (4, (4, 17)), (3, (0, 7)), (2, (0, u)), (0, (4, 0)), (1, (0, r1))]) (stN := [(1, 0), (0, 4), (4, 8)]) (hsN := jpG_61) rfl rfl rfl ?_
      refine jT_xgoto (pcN := 86) jIG_165_65 rfl ?_
      refine jT_adv 1 (pcN := 87) (LN := [(5, (0, 4)), (4, (4, 17)), (3, (0, 7)), (2, (0, u)), (0, (4, 0)), (1, (0, r1))]) (stN := []) (hsN := jpG_61) (c1 := 0) (s1 := 0) (c2 := b1) (s2 := b2) (by exact rfl) ?_ (by omega) (by omega)
      refine jT_xiinc (x := 4) (z := 5) (LN := [(5, (0, 5)), (4, (4, 17)), (3, (0, 7)), (2, (0, u)), (0, (4, 0)), (1, (0, r1))]) (pcN := 90) jIG_165_87 rfl rfl (by decide) rfl rfl ?_
      refine jT_xgoto (pcN := 40) jIG_165_90 rfl ?_
      refine jT_xiload (v := (0, 5)) (pcN := 42) jIG_165_40 rfl rfl rfl ?_
      refine jT_xbipush (k := 6) (pcN := 44) jIG_165_42 (by decide) rfl ?_
      refine jT_xicF (t := 93) (pcN := 47) jIG_165_44 rfl (by decide +kernel) rfl rfl ?_
      refine jT_xaload_n (v := (4, 0)) (pcN := 48) jIG_165_47 rfl rfl rfl ?_
      refine jT_xgetf (a := 0) (t := 1) (ci := 13) (fi := 7) (c := jzG_7) (v := (4, 8)) (pcN := 51) jIG_165_48 rfl rfl rfl rfl rfl rfl rfl ?_
      refine jT_xiload (v := (0, 5)) (pcN := 53) jIG_165_51 rfl rfl rfl ?_
      refine jT_xiload_n (v := (0, u)) (pcN := 54) jIG_165_53 rfl rfl rfl ?_
      refine jT_ifF (a := u) (t := 68) (by rfl) (by rfl) (by rfl) (jw_idd (by omega) (by omega)) (by simp only [jcP] <;> omega) ?_
      refine jT_xaload (v := (4, 17)) (pcN := 59) jIG_165_57 rfl rfl rfl ?_
      refine jT_xgetf (a := 17) (t := 2) (ci := 4) (fi := 0) (c := (4, [(4, 18), (1, 1)], [])) (v := (4, 18)) (pcN := 62) jIG_165_59 rfl rfl rfl rfl rfl rfl rfl ?_
      refine jT_xiload (v := (0, 5)) (pcN := 64) jIG_165_62 rfl rfl rfl ?_
      refine jT_lald (x := 0) (a := 18) (j := 5) (fs := []) (X := [0, 0, 0, 0, 0, 0]) jIG_165_64 rfl rfl rfl rfl ?_
      refine jT_eq (LN := [(5, (0, 5)), (4, (4, 17)), (3, (0, 7)), (2, (0, u)), (0, (4, 0)), (1, (0, r1))]) (stN := [(1, 0), (0, 5), (4, 8)]) (hsN := jpG_61) rfl rfl rfl ?_
      refine jT_xgoto (pcN := 86) jIG_165_65 rfl ?_
      refine jT_adv 1 (pcN := 87) (LN := [(5, (0, 5)), (4, (4, 17)), (3, (0, 7)), (2, (0, u)), (0, (4, 0)), (1, (0, r1))]) (stN := []) (hsN := jpG_61) (c1 := 0) (s1 := 0) (c2 := b1) (s2 := b2) (by exact rfl) ?_ (by omega) (by omega)
      refine jT_xiinc (x := 5) (z := 6) (LN := [(5, (0, 6)), (4, (4, 17)), (3, (0, 7)), (2, (0, u)), (0, (4, 0)), (1, (0, r1))]) (pcN := 90) jIG_165_87 rfl rfl (by decide) rfl rfl ?_
      refine jT_xgoto (pcN := 40) jIG_165_90 rfl ?_
      refine jT_xiload (v := (0, 6)) (pcN := 42) jIG_165_40 rfl rfl rfl ?_
      refine jT_xbipush (k := 6) (pcN := 44) jIG_165_42 (by decide) rfl ?_
      refine jT_xicT (pcN := 93) jIG_165_44 rfl (by decide +kernel) rfl ?_
      refine jT_xiconst (k := 0) (pcN := 94) jIG_165_93 rfl ?_
      refine jT_xistore_n (v := (0, 0)) (LN := [(2, (0, 0)), (5, (0, 6)), (4, (4, 17)), (3, (0, 7)), (0, (4, 0)), (1, (0, r1))]) (pcN := 95) jIG_165_94 rfl rfl rfl rfl ?_
      refine jT_xiinc (x := 7) (z := 8) (LN := [(3, (0, 8)), (2, (0, 0)), (5, (0, 6)), (4, (4, 17)), (0, (4, 0)), (1, (0, r1))]) (pcN := 98) jIG_165_95 rfl rfl (by decide) rfl rfl ?_
      refine jT_xgoto (pcN := 4) jIG_165_98 rfl ?_
      refine jT_loc (LN := [(3, (0, 8)), (2, (0, 0)), (0, (4, 0)), (1, (0, r1))]) (by show List.Nodup [3, 2, 0, 1]; decide) (by intro q hq; simp only [List.mem_cons, List.not_mem_nil, or_false] at hq; rcases hq with rfl | rfl | rfl | rfl <;> rfl) ?_
      exact jGl_ch_28_8 hd (u := 0) (by omega) h_r1 h
    · refine jT_xiload_n (v := (0, 7)) (pcN := 5) jIG_165_4 rfl rfl rfl ?_
      refine jT_xbipush (k := 8) (pcN := 7) jIG_165_5 (by decide) rfl ?_
      refine jT_xicF (t := 101) (pcN := 10) jIG_165_7 rfl (by decide +kernel) rfl rfl ?_
      refine jT_xiload_n (v := (0, r1)) (pcN := 11) jIG_165_10 rfl rfl rfl ?_
      refine jT_xiload_n (v := (0, 7)) (pcN := 12) jIG_165_11 rfl rfl rfl ?_
      refine jT_ishr (x := r1) (y := 7) (z := (Int32.ofInt r1 >>> (Int32.ofInt 7 &&& 31)).toInt) (by rfl) (by rfl) rfl ?_
      have hb_q1 : (-2147483648) ≤ (Int32.ofInt r1 >>> (Int32.ofInt 7 &&& 31)).toInt ∧ (Int32.ofInt r1 >>> (Int32.ofInt 7 &&& 31)).toInt ≤ 2147483647 := ⟨Int32.le_toInt _, Int.le_of_lt_add_one (Int32.toInt_lt _)⟩
      generalize hq_q1 : (Int32.ofInt r1 >>> (Int32.ofInt 7 &&& 31)).toInt = q1 at hb_q1 g_0 ⊢
      refine jT_xiconst (k := 1) (pcN := 14) jIG_165_13 rfl ?_
      refine jT_iand (x := q1) (y := 1) (z := q1 % 2) (by rfl) (by rfl) (jiand_1 _) ?_
      have hb_q2 : 0 ≤ q1 % 2 ∧ q1 % 2 ≤ 1 := ⟨by omega, by omega⟩
      generalize hq_q2 : q1 % 2 = q2 at hb_q2 g_0 ⊢
      refine jT_xiconst (k := 1) (pcN := 16) jIG_165_15 rfl ?_
      refine jT_icF (a := q2) (b := 1) (t := 95) (by rfl) (by rfl) (by rfl) (jw_idd (by omega) (by omega)) (jw_idd (by omega) (by omega)) (by simp only [jcP] <;> omega) ?_
      refine jT_xaload_n (v := (4, 0)) (pcN := 20) jIG_165_19 rfl rfl rfl ?_
      refine jT_xgetf (a := 0) (t := 1) (ci := 13) (fi := 11) (c := jzG_7) (v := (4, 11)) (pcN := 23) jIG_165_20 rfl rfl rfl rfl rfl rfl rfl ?_
      refine jT_xiload_n (v := (0, 7)) (pcN := 24) jIG_165_23 rfl rfl rfl ?_
      refine jT_fR [11, 12, 13, 14, 15, 16, 17] 19 (y := 57) (pcN := 27) (dC := 0) (bc1 := 0) (bc2 := 0) (c1 := b1) (c2 := b2) (as := [(4, 11), (0, 7)]) (asC := [(4, 0), (0, 7)]) (LN := [(3, (0, 7)), (2, (0, u)), (0, (4, 0)), (1, (0, r1))]) (stN := []) (hsC := jpG_54) (v := (4, 6)) (st2 := [(4, 17)]) (jG_57_27 (d := 0)) (by rfl) (by rfl) (by decide +kernel) (by rfl) (by rfl) (by omega) (by omega) (by omega) (by omega) rfl ?_
      refine jT_xastore (v := (4, 17)) (LN := [(4, (4, 17)), (3, (0, 7)), (2, (0, u)), (0, (4, 0)), (1, (0, r1))]) (pcN := 29) jIG_165_27 rfl rfl rfl rfl ?_
      refine jT_xaload_n (v := (4, 0)) (pcN := 30) jIG_165_29 rfl rfl rfl ?_
      refine jT_xaload (v := (4, 17)) (pcN := 32) jIG_165_30 rfl rfl rfl ?_
      refine jT_xbipush (k := 100) (pcN := 34) jIG_165_32 (by decide) rfl ?_
      refine jT_fR [0, 17, 18] 19 (y := 142) (pcN := 37) (dC := 1) (bc1 := 0) (bc2 := 0) (c1 := b1) (c2 := b2) (as := [(4, 0), (4, 17), (0, 100)]) (asC := [(4, 0), (4, 1), (0, 100)]) (LN := [(4, (4, 17)), (3, (0, 7)), (2, (0, u)), (0, (4, 0)), (1, (0, r1))]) (stN := []) (hsC := [jgh, (4, [(4, 2), (1, 1)], []), (101, [], [0, 0, 0, 0, 0, 0])]) (v := (9, 0)) (st2 := []) (jG_142_20 (d := 0)) (by rfl) (by rfl) (by decide +kernel) (by rfl) (by rfl) (by omega) (by omega) (by omega) (by omega) rfl ?_
      refine jT_xiconst (k := 0) (pcN := 38) jIG_165_37 rfl ?_
      refine jT_xistore (v := (0, 0)) (LN := [(5, (0, 0)), (4, (4, 17)), (3, (0, 7)), (2, (0, u)), (0, (4, 0)), (1, (0, r1))]) (pcN := 40) jIG_165_38 rfl rfl rfl rfl ?_
      refine jT_xiload (v := (0, 0)) (pcN := 42) jIG_165_40 rfl rfl rfl ?_
      refine jT_xbipush (k := 6) (pcN := 44) jIG_165_42 (by decide) rfl ?_
      refine jT_xicF (t := 93) (pcN := 47) jIG_165_44 rfl (by decide +kernel) rfl rfl ?_
      refine jT_xaload_n (v := (4, 0)) (pcN := 48) jIG_165_47 rfl rfl rfl ?_
      refine jT_xgetf (a := 0) (t := 1) (ci := 13) (fi := 7) (c := jzG_7) (v := (4, 8)) (pcN := 51) jIG_165_48 rfl rfl rfl rfl rfl rfl rfl ?_
      refine jT_xiload (v := (0, 0)) (pcN := 53) jIG_165_51 rfl rfl rfl ?_
      refine jT_xiload_n (v := (0, u)) (pcN := 54) jIG_165_53 rfl rfl rfl ?_
      refine jT_ifT (a := u) (t := 68) (by rfl) (by rfl) (by rfl) (jw_idd (by omega) (by omega)) (by simp only [jcP] <;> omega) ?_
      refine jT_xaload_n (v := (4, 0)) (pcN := 69) jIG_165_68 rfl rfl rfl ?_
      refine jT_xgetf (a := 0) (t := 1) (ci := 13) (fi := 7) (c := jzG_7) (v := (4, 8)) (pcN := 72) jIG_165_69 rfl rfl rfl rfl rfl rfl rfl ?_
      refine jT_xiload (v := (0, 0)) (pcN := 74) jIG_165_72 rfl rfl rfl ?_
      refine jT_lald (x := 0) (a := 8) (j := 0) (fs := []) (X := [0, 0, 0, 0, 0, 0]) jIG_165_74 rfl rfl rfl rfl ?_
      refine jT_eq (LN := [(5, (0, 0)), (4, (4, 17)), (3, (0, 7)), (2, (0, u)), (0, (4, 0)), (1, (0, r1))]) (stN := [(1, 0), (0, 0), (4, 8)]) (hsN := jpG_61) rfl rfl rfl ?_
      refine jT_xaload (v := (4, 17)) (pcN := 77) jIG_165_75 rfl rfl rfl ?_
      refine jT_xgetf (a := 17) (t := 2) (ci := 4) (fi := 0) (c := (4, [(4, 18), (1, 1)], [])) (v := (4, 18)) (pcN := 80) jIG_165_77 rfl rfl rfl rfl rfl rfl rfl ?_
      refine jT_xiload (v := (0, 0)) (pcN := 82) jIG_165_80 rfl rfl rfl ?_
      refine jT_lald (x := 0) (a := 18) (j := 0) (fs := []) (X := [0, 0, 0, 0, 0, 0]) jIG_165_82 rfl rfl rfl rfl ?_
      refine jT_eq (LN := [(5, (0, 0)), (4, (4, 17)), (3, (0, 7)), (2, (0, u)), (0, (4, 0)), (1, (0, r1))]) (stN := [(1, 0), (1, 0), (0, 0), (4, 8)]) (hsN := jpG_61) rfl rfl rfl ?_
      refine jT_mm4 (x := 0) (y := 0) (z := 0) (by rfl) (by rfl) (by rfl) (by rfl) (jwl_idd (by omega) (by omega)) (jwl_idd (by omega) (by omega)) (by rw [decide_eq_false (show ¬ ((0 : Int) < 0) by omega)]; rfl) ?_
      refine jT_adv 1 (pcN := 87) (LN := [(5, (0, 0)), (4, (4, 17)), (3, (0, 7)), (2, (0, u)), (0, (4, 0)), (1, (0, r1))]) (stN := []) (hsN := jpG_61) (c1 := 0) (s1 := 0) (c2 := b1) (s2 := b2) (by exact rfl) ?_ (by omega) (by omega)
      refine jT_xiinc (x := 0) (z := 1) (LN := [(5, (0, 1)), (4, (4, 17)), (3, (0, 7)), (2, (0, u)), (0, (4, 0)), (1, (0, r1))]) (pcN := 90) jIG_165_87 rfl rfl (by decide) rfl rfl ?_
      refine jT_xgoto (pcN := 40) jIG_165_90 rfl ?_
      refine jT_xiload (v := (0, 1)) (pcN := 42) jIG_165_40 rfl rfl rfl ?_
      refine jT_xbipush (k := 6) (pcN := 44) jIG_165_42 (by decide) rfl ?_
      refine jT_xicF (t := 93) (pcN := 47) jIG_165_44 rfl (by decide +kernel) rfl rfl ?_
      refine jT_xaload_n (v := (4, 0)) (pcN := 48) jIG_165_47 rfl rfl rfl ?_
      refine jT_xgetf (a := 0) (t := 1) (ci := 13) (fi := 7) (c := jzG_7) (v := (4, 8)) (pcN := 51) jIG_165_48 rfl rfl rfl rfl rfl rfl rfl ?_
      refine jT_xiload (v := (0, 1)) (pcN := 53) jIG_165_51 rfl rfl rfl ?_
      refine jT_xiload_n (v := (0, u)) (pcN := 54) jIG_165_53 rfl rfl rfl ?_
      refine jT_ifT (a := u) (t := 68) (by rfl) (by rfl) (by rfl) (jw_idd (by omega) (by omega)) (by simp only [jcP] <;> omega) ?_
      refine jT_xaload_n (v := (4, 0)) (pcN := 69) jIG_165_68 rfl rfl rfl ?_
      refine jT_xgetf (a := 0) (t := 1) (ci := 13) (fi := 7) (c := jzG_7) (v := (4, 8)) (pcN := 72) jIG_165_69 rfl rfl rfl rfl rfl rfl rfl ?_
      refine jT_xiload (v := (0, 1)) (pcN := 74) jIG_165_72 rfl rfl rfl ?_
      refine jT_lald (x := 0) (a := 8) (j := 1) (fs := []) (X := [0, 0, 0, 0, 0, 0]) jIG_165_74 rfl rfl rfl rfl ?_
      refine jT_eq (LN := [(5, (0, 1)), (4, (4, 17)), (3, (0, 7)), (2, (0, u)), (0, (4, 0)), (1, (0, r1))]) (stN := [(1, 0), (0, 1), (4, 8)]) (hsN := jpG_61) rfl rfl rfl ?_
      refine jT_xaload (v := (4, 17)) (pcN := 77) jIG_165_75 rfl rfl rfl ?_
      refine jT_xgetf (a := 17) (t := 2) (ci := 4) (fi := 0) (c := (4, [(4, 18), (1, 1)], [])) (v := (4, 18)) (pcN := 80) jIG_165_77 rfl rfl rfl rfl rfl rfl rfl ?_
      refine jT_xiload (v := (0, 1)) (pcN := 82) jIG_165_80 rfl rfl rfl ?_
      refine jT_lald (x := 0) (a := 18) (j := 1) (fs := []) (X := [0, 0, 0, 0, 0, 0]) jIG_165_82 rfl rfl rfl rfl ?_
      refine jT_eq (LN := [(5, (0, 1)), (4, (4, 17)), (3, (0, 7)), (2, (0, u)), (0, (4, 0)), (1, (0, r1))]) (stN := [(1, 0), (1, 0), (0, 1), (4, 8)]) (hsN := jpG_61) rfl rfl rfl ?_
      refine jT_mm4 (x := 0) (y := 0) (z := 0) (by rfl) (by rfl) (by rfl) (by rfl) (jwl_idd (by omega) (by omega)) (jwl_idd (by omega) (by omega)) (by rw [decide_eq_false (show ¬ ((0 : Int) < 0) by omega)]; rfl) ?_
      refine jT_adv 1 (pcN := 87) (LN := [(5, (0, 1)), (4, (4, 17)), (3, (0, 7)), (2, (0, u)), (0, (4, 0)), (1, (0, r1))]) (stN := []) (hsN := jpG_61) (c1 := 0) (s1 := 0) (c2 := b1) (s2 := b2) (by exact rfl) ?_ (by omega) (by omega)
      refine jT_xiinc (x := 1) (z := 2) (LN := [(5, (0, 2)), (4, (4, 17)), (3, (0, 7)), (2, (0, u)), (0, (4, 0)), (1, (0, r1))]) (pcN := 90) jIG_165_87 rfl rfl (by decide) rfl rfl ?_
      refine jT_xgoto (pcN := 40) jIG_165_90 rfl ?_
      refine jT_xiload (v := (0, 2)) (pcN := 42) jIG_165_40 rfl rfl rfl ?_
      refine jT_xbipush (k := 6) (pcN := 44) jIG_165_42 (by decide) rfl ?_
      refine jT_xicF (t := 93) (pcN := 47) jIG_165_44 rfl (by decide +kernel) rfl rfl ?_
      refine jT_xaload_n (v := (4, 0)) (pcN := 48) jIG_165_47 rfl rfl rfl ?_
      refine jT_xgetf (a := 0) (t := 1) (ci := 13) (fi := 7) (c := jzG_7) (v := (4, 8)) (pcN := 51) jIG_165_48 rfl rfl rfl rfl rfl rfl rfl ?_
      refine jT_xiload (v := (0, 2)) (pcN := 53) jIG_165_51 rfl rfl rfl ?_
      refine jT_xiload_n (v := (0, u)) (pcN := 54) jIG_165_53 rfl rfl rfl ?_
      refine jT_ifT (a := u) (t := 68) (by rfl) (by rfl) (by rfl) (jw_idd (by omega) (by omega)) (by simp only [jcP] <;> omega) ?_
      refine jT_xaload_n (v := (4, 0)) (pcN := 69) jIG_165_68 rfl rfl rfl ?_
      refine jT_xgetf (a := 0) (t := 1) (ci := 13) (fi := 7) (c := jzG_7) (v := (4, 8)) (pcN := 72) jIG_165_69 rfl rfl rfl rfl rfl rfl rfl ?_
      refine jT_xiload (v := (0, 2)) (pcN := 74) jIG_165_72 rfl rfl rfl ?_
      refine jT_lald (x := 0) (a := 8) (j := 2) (fs := []) (X := [0, 0, 0, 0, 0, 0]) jIG_165_74 rfl rfl rfl rfl ?_
      refine jT_eq (LN := [(5, (0, 2)), (4, (4, 17)), (3, (0, 7)), (2, (0, u)), (0, (4, 0)), (1, (0, r1))]) (stN := [(1, 0), (0, 2), (4, 8)]) (hsN := jpG_61) rfl rfl rfl ?_
      refine jT_xaload (v := (4, 17)) (pcN := 77) jIG_165_75 rfl rfl rfl ?_
      refine jT_xgetf (a := 17) (t := 2) (ci := 4) (fi := 0) (c := (4, [(4, 18), (1, 1)], [])) (v := (4, 18)) (pcN := 80) jIG_165_77 rfl rfl rfl rfl rfl rfl rfl ?_
      refine jT_xiload (v := (0, 2)) (pcN := 82) jIG_165_80 rfl rfl rfl ?_
      refine jT_lald (x := 0) (a := 18) (j := 2) (fs := []) (X := [0, 0, 0, 0, 0, 0]) jIG_165_82 rfl rfl rfl rfl ?_
      refine jT_eq (LN := [(5, (0, 2)), (4, (4, 17)), (3, (0, 7)), (2, (0, u)), (0, (4, 0)), (1, (0, r1))]) (stN := [(1, 0), (1, 0), (0, 2), (4, 8)]) (hsN := jpG_61) rfl rfl rfl ?_
      refine jT_mm4 (x := 0) (y := 0) (z := 0) (by rfl) (by rfl) (by rfl) (by rfl) (jwl_idd (by omega) (by omega)) (jwl_idd (by omega) (by omega)) (by rw [decide_eq_false (show ¬ ((0 : Int) < 0) by omega)]; rfl) ?_
      refine jT_adv 1 (pcN := 87) (LN := [(5, (0, 2)), (4, (4, 17)), (3, (0, 7)), (2, (0, u)), (0, (4, 0)), (1, (0, r1))]) (stN := []) (hsN := jpG_61) (c1 := 0) (s1 := 0) (c2 := b1) (s2 := b2) (by exact rfl) ?_ (by omega) (by omega)
      refine jT_xiinc (x := 2) (z := 3) (LN := [(5, (0, 3)), (4, (4, 17)), (3, (0, 7)), (2, (0, u)), (0, (4, 0)), (1, (0, r1))]) (pcN := 90) jIG_165_87 rfl rfl (by decide) rfl rfl ?_
      refine jT_xgoto (pcN := 40) jIG_165_90 rfl ?_
      refine jT_xiload (v := (0, 3)) (pcN := 42) jIG_165_40 rfl rfl rfl ?_
      refine jT_xbipush (k := 6) (pcN := 44) jIG_165_42 (by decide) rfl ?_
      refine jT_xicF (t := 93) (pcN := 47) jIG_165_44 rfl (by decide +kernel) rfl rfl ?_
      refine jT_xaload_n (v := (4, 0)) (pcN := 48) jIG_165_47 rfl rfl rfl ?_
      refine jT_xgetf (a := 0) (t := 1) (ci := 13) (fi := 7) (c := jzG_7) (v := (4, 8)) (pcN := 51) jIG_165_48 rfl rfl rfl rfl rfl rfl rfl ?_
      refine jT_xiload (v := (0, 3)) (pcN := 53) jIG_165_51 rfl rfl rfl ?_
      refine jT_xiload_n (v := (0, u)) (pcN := 54) jIG_165_53 rfl rfl rfl ?_
      refine jT_ifT (a := u) (t := 68) (by rfl) (by rfl) (by rfl) (jw_idd (by omega) (by omega)) (by simp only [jcP] <;> omega) ?_
      refine jT_xaload_n (v := (4, 0)) (pcN := 69) jIG_165_68 rfl rfl rfl ?_
      refine jT_xgetf (a := 0) (t := 1) (ci := 13) (fi := 7) (c := jzG_7) (v := (4, 8)) (pcN := 72) jIG_165_69 rfl rfl rfl rfl rfl rfl rfl ?_
      refine jT_xiload (v := (0, 3)) (pcN := 74) jIG_165_72 rfl rfl rfl ?_
      refine jT_lald (x := 0) (a := 8) (j := 3) (fs := []) (X := [0, 0, 0, 0, 0, 0]) jIG_165_74 rfl rfl rfl rfl ?_
      refine jT_eq (LN := [(5, (0, 3)), (4, (4, 17)), (3, (0, 7)), (2, (0, u)), (0, (4, 0)), (1, (0, r1))]) (stN := [(1, 0), (0, 3), (4, 8)]) (hsN := jpG_61) rfl rfl rfl ?_
      refine jT_xaload (v := (4, 17)) (pcN := 77) jIG_165_75 rfl rfl rfl ?_
      refine jT_xgetf (a := 17) (t := 2) (ci := 4) (fi := 0) (c := (4, [(4, 18), (1, 1)], [])) (v := (4, 18)) (pcN := 80) jIG_165_77 rfl rfl rfl rfl rfl rfl rfl ?_
      refine jT_xiload (v := (0, 3)) (pcN := 82) jIG_165_80 rfl rfl rfl ?_
      refine jT_lald (x := 0) (a := 18) (j := 3) (fs := []) (X := [0, 0, 0, 0, 0, 0]) jIG_165_82 rfl rfl rfl rfl ?_
      refine jT_eq (LN := [(5, (0, 3)), (4, (4, 17)), (3, (0, 7)), (2, (0, u)), (0, (4, 0)), (1, (0, r1))]) (stN := [(1, 0), (1, 0), (0, 3), (4, 8)]) (hsN := jpG_61) rfl rfl rfl ?_
      refine jT_mm4 (x := 0) (y := 0) (z := 0) (by rfl) (by rfl) (by rfl) (by rfl) (jwl_idd (by omega) (by omega)) (jwl_idd (by omega) (by omega)) (by rw [decide_eq_false (show ¬ ((0 : Int) < 0) by omega)]; rfl) ?_
      refine jT_adv 1 (pcN := 87) (LN := [(5, (0, 3)), (4, (4, 17)), (3, (0, 7)), (2, (0, u)), (0, (4, 0)), (1, (0, r1))]) (stN := []) (hsN := jpG_61) (c1 := 0) (s1 := 0) (c2 := b1) (s2 := b2) (by exact rfl) ?_ (by omega) (by omega)
      refine jT_xiinc (x := 3) (z := 4) (LN := [(5, (0, 4)), (4, (4, 17)), (3, (0, 7)), (2, (0, u)), (0, (4, 0)), (1, (0, r1))]) (pcN := 90) jIG_165_87 rfl rfl (by decide) rfl rfl ?_
      refine jT_xgoto (pcN := 40) jIG_165_90 rfl ?_
      refine jT_xiload (v := (0, 4)) (pcN := 42) jIG_165_40 rfl rfl rfl ?_
      refine jT_xbipush (k := 6) (pcN := 44) jIG_165_42 (by decide) rfl ?_
      refine jT_xicF (t := 93) (pcN := 47) jIG_165_44 rfl (by decide +kernel) rfl rfl ?_
      refine jT_xaload_n (v := (4, 0)) (pcN := 48) jIG_165_47 rfl rfl rfl ?_
      refine jT_xgetf (a := 0) (t := 1) (ci := 13) (fi := 7) (c := jzG_7) (v := (4, 8)) (pcN := 51) jIG_165_48 rfl rfl rfl rfl rfl rfl rfl ?_
      refine jT_xiload (v := (0, 4)) (pcN := 53) jIG_165_51 rfl rfl rfl ?_
      refine jT_xiload_n (v := (0, u)) (pcN := 54) jIG_165_53 rfl rfl rfl ?_
      refine jT_ifT (a := u) (t := 68) (by rfl) (by rfl) (by rfl) (jw_idd (by omega) (by omega)) (by simp only [jcP] <;> omega) ?_
      refine jT_xaload_n (v := (4, 0)) (pcN := 69) jIG_165_68 rfl rfl rfl ?_
      refine jT_xgetf (a := 0) (t := 1) (ci := 13) (fi := 7) (c := jzG_7) (v := (4, 8)) (pcN := 72) jIG_165_69 rfl rfl rfl rfl rfl rfl rfl ?_
      refine jT_xiload (v := (0, 4)) (pcN := 74) jIG_165_72 rfl rfl rfl ?_
      refine jT_lald (x := 0) (a := 8) (j := 4) (fs := []) (X := [0, 0, 0, 0, 0, 0]) jIG_165_74 rfl rfl rfl rfl ?_
      refine jT_eq (LN := [(5, (0, 4)), (4, (4, 17)), (3, (0, 7)), (2, (0, u)), (0, (4, 0)), (1, (0, r1))]) (stN := [(1, 0), (0, 4), (4, 8)]) (hsN := jpG_61) rfl rfl rfl ?_
      refine jT_xaload (v := (4, 17)) (pcN := 77) jIG_165_75 rfl rfl rfl ?_
      refine jT_xgetf (a := 17) (t := 2) (ci := 4) (fi := 0) (c := (4, [(4, 18), (1, 1)], [])) (v := (4, 18)) (pcN := 80) jIG_165_77 rfl rfl rfl rfl rfl rfl rfl ?_
      refine jT_xiload (v := (0, 4)) (pcN := 82) jIG_165_80 rfl rfl rfl ?_
      refine jT_lald (x := 0) (a := 18) (j := 4) (fs := []) (X := [0, 0, 0, 0, 0, 0]) jIG_165_82 rfl rfl rfl rfl ?_
      refine jT_eq (LN := [(5, (0, 4)), (4, (4, 17)), (3, (0, 7)), (2, (0, u)), (0, (4, 0)), (1, (0, r1))]) (stN := [(1, 0), (1, 0), (0, 4), (4, 8)]) (hsN := jpG_61) rfl rfl rfl ?_
      refine jT_mm4 (x := 0) (y := 0) (z := 0) (by rfl) (by rfl) (by rfl) (by rfl) (jwl_idd (by omega) (by omega)) (jwl_idd (by omega) (by omega)) (by rw [decide_eq_false (show ¬ ((0 : Int) < 0) by omega)]; rfl) ?_
      refine jT_adv 1 (pcN := 87) (LN := [(5, (0, 4)), (4, (4, 17)), (3, (0, 7)), (2, (0, u)), (0, (4, 0)), (1, (0, r1))]) (stN := []) (hsN := jpG_61) (c1 := 0) (s1 := 0) (c2 := b1) (s2 := b2) (by exact rfl) ?_ (by omega) (by omega)
      refine jT_xiinc (x := 4) (z := 5) (LN := [(5, (0, 5)), (4, (4, 17)), (3, (0, 7)), (2, (0, u)), (0, (4, 0)), (1, (0, r1))]) (pcN := 90) jIG_165_87 rfl rfl (by decide) rfl rfl ?_
      refine jT_xgoto (pcN := 40) jIG_165_90 rfl ?_
      refine jT_xiload (v := (0, 5)) (pcN := 42) jIG_165_40 rfl rfl rfl ?_
      refine jT_xbipush (k := 6) (pcN := 44) jIG_165_42 (by decide) rfl ?_
      refine jT_xicF (t := 93) (pcN := 47) jIG_165_44 rfl (by decide +kernel) rfl rfl ?_
      refine jT_xaload_n (v := (4, 0)) (pcN := 48) jIG_165_47 rfl rfl rfl ?_
      refine jT_xgetf (a := 0) (t := 1) (ci := 13) (fi := 7) (c := jzG_7) (v := (4, 8)) (pcN := 51) jIG_165_48 rfl rfl rfl rfl rfl rfl rfl ?_
      refine jT_xiload (v := (0, 5)) (pcN := 53) jIG_165_51 rfl rfl rfl ?_
      refine jT_xiload_n (v := (0, u)) (pcN := 54) jIG_165_53 rfl rfl rfl ?_
      refine jT_ifT (a := u) (t := 68) (by rfl) (by rfl) (by rfl) (jw_idd (by omega) (by omega)) (by simp only [jcP] <;> omega) ?_
      refine jT_xaload_n (v := (4, 0)) (pcN := 69) jIG_165_68 rfl rfl rfl ?_
      refine jT_xgetf (a := 0) (t := 1) (ci := 13) (fi := 7) (c := jzG_7) (v := (4, 8)) (pcN := 72) jIG_165_69 rfl rfl rfl rfl rfl rfl rfl ?_
      refine jT_xiload (v := (0, 5)) (pcN := 74) jIG_165_72 rfl rfl rfl ?_
      refine jT_lald (x := 0) (a := 8) (j := 5) (fs := []) (X := [0, 0, 0, 0, 0, 0]) jIG_165_74 rfl rfl rfl rfl ?_
      refine jT_eq (LN := [(5, (0, 5)), (4, (4, 17)), (3, (0, 7)), (2, (0, u)), (0, (4, 0)), (1, (0, r1))]) (stN := [(1, 0), (0, 5), (4, 8)]) (hsN := jpG_61) rfl rfl rfl ?_
      refine jT_xaload (v := (4, 17)) (pcN := 77) jIG_165_75 rfl rfl rfl ?_
      refine jT_xgetf (a := 17) (t := 2) (ci := 4) (fi := 0) (c := (4, [(4, 18), (1, 1)], [])) (v := (4, 18)) (pcN := 80) jIG_165_77 rfl rfl rfl rfl rfl rfl rfl ?_
      refine jT_xiload (v := (0, 5)) (pcN := 82) jIG_165_80 rfl rfl rfl ?_
      refine jT_lald (x := 0) (a := 18) (j := 5) (fs := []) (X := [0, 0, 0, 0, 0, 0]) jIG_165_82 rfl rfl rfl rfl ?_
      refine jT_eq (LN := [(5, (0, 5)), (4, (4, 17)), (3, (0, 7)), (2, (0, u)), (0, (4, 0)), (1, (0, r1))]) (stN := [(1, 0), (1, 0), (0, 5), (4, 8)]) (hsN := jpG_61) rfl rfl rfl ?_
      refine jT_mm4 (x := 0) (y := 0) (z := 0) (by rfl) (by rfl) (by rfl) (by rfl) (jwl_idd (by omega) (by omega)) (jwl_idd (by omega) (by omega)) (by rw [decide_eq_false (show ¬ ((0 : Int) < 0) by omega)]; rfl) ?_
      refine jT_adv 1 (pcN := 87) (LN := [(5, (0, 5)), (4, (4, 17)), (3, (0, 7)), (2, (0, u)), (0, (4, 0)), (1, (0, r1))]) (stN := []) (hsN := jpG_61) (c1 := 0) (s1 := 0) (c2 := b1) (s2 := b2) (by exact rfl) ?_ (by omega) (by omega)
      refine jT_xiinc (x := 5) (z := 6) (LN := [(5, (0, 6)), (4, (4, 17)), (3, (0, 7)), (2, (0, u)), (0, (4, 0)), (1, (0, r1))]) (pcN := 90) jIG_165_87 rfl rfl (by decide) rfl rfl ?_
      refine jT_xgoto (pcN := 40) jIG_165_90 rfl ?_
      refine jT_xiload (v := (0, 6)) (pcN := 42) jIG_165_40 rfl rfl rfl ?_
      refine jT_xbipush (k := 6) (pcN := 44) jIG_165_42 (by decide) rfl ?_
      refine jT_xicT (pcN := 93) jIG_165_44 rfl (by decide +kernel) rfl ?_
      refine jT_xiconst (k := 0) (pcN := 94) jIG_165_93 rfl ?_
      refine jT_xistore_n (v := (0, 0)) (LN := [(2, (0, 0)), (5, (0, 6)), (4, (4, 17)), (3, (0, 7)), (0, (4, 0)), (1, (0, r1))]) (pcN := 95) jIG_165_94 rfl rfl rfl rfl ?_
      refine jT_xiinc (x := 7) (z := 8) (LN := [(3, (0, 8)), (2, (0, 0)), (5, (0, 6)), (4, (4, 17)), (0, (4, 0)), (1, (0, r1))]) (pcN := 98) jIG_165_95 rfl rfl (by decide) rfl rfl ?_
      refine jT_xgoto (pcN := 4) jIG_165_98 rfl ?_
      refine jT_loc (LN := [(3, (0, 8)), (2, (0, 0)), (0, (4, 0)), (1, (0, r1))]) (by show List.Nodup [3, 2, 0, 1]; decide) (by intro q hq; simp only [List.mem_cons, List.not_mem_nil, or_false] at hq; rcases hq with rfl | rfl | rfl | rfl <;> rfl) ?_
      exact jGl_ch_28_8 hd (u := 0) (by omega) h_r1 h
  · refine jT_xiload_n (v := (0, 7)) (pcN := 5) jIG_165_4 rfl rfl rfl ?_
    refine jT_xbipush (k := 8) (pcN := 7) jIG_165_5 (by decide) rfl ?_
    refine jT_xicF (t := 101) (pcN := 10) jIG_165_7 rfl (by decide +kernel) rfl rfl ?_
    refine jT_xiload_n (v := (0, r1)) (pcN := 11) jIG_165_10 rfl rfl rfl ?_
    refine jT_xiload_n (v := (0, 7)) (pcN := 12) jIG_165_11 rfl rfl rfl ?_
    refine jT_ishr (x := r1) (y := 7) (z := (Int32.ofInt r1 >>> (Int32.ofInt 7 &&& 31)).toInt) (by rfl) (by rfl) rfl ?_
    have hb_q1 : (-2147483648) ≤ (Int32.ofInt r1 >>> (Int32.ofInt 7 &&& 31)).toInt ∧ (Int32.ofInt r1 >>> (Int32.ofInt 7 &&& 31)).toInt ≤ 2147483647 := ⟨Int32.le_toInt _, Int.le_of_lt_add_one (Int32.toInt_lt _)⟩
    generalize hq_q1 : (Int32.ofInt r1 >>> (Int32.ofInt 7 &&& 31)).toInt = q1 at hb_q1 g_0 ⊢
    refine jT_xiconst (k := 1) (pcN := 14) jIG_165_13 rfl ?_
    refine jT_iand (x := q1) (y := 1) (z := q1 % 2) (by rfl) (by rfl) (jiand_1 _) ?_
    have hb_q2 : 0 ≤ q1 % 2 ∧ q1 % 2 ≤ 1 := ⟨by omega, by omega⟩
    generalize hq_q2 : q1 % 2 = q2 at hb_q2 g_0 ⊢
    refine jT_xiconst (k := 1) (pcN := 16) jIG_165_15 rfl ?_
    refine jT_icT (a := q2) (b := 1) (t := 95) (by rfl) (by rfl) (by rfl) (jw_idd (by omega) (by omega)) (jw_idd (by omega) (by omega)) (by simp only [jcP] <;> omega) ?_
    refine jT_xiinc (x := 7) (z := 8) (LN := [(3, (0, 8)), (2, (0, u)), (0, (4, 0)), (1, (0, r1))]) (pcN := 98) jIG_165_95 rfl rfl (by decide) rfl rfl ?_
    refine jT_xgoto (pcN := 4) jIG_165_98 rfl ?_
    refine jT_loc (LN := [(3, (0, 8)), (2, (0, u)), (0, (4, 0)), (1, (0, r1))]) (by show List.Nodup [3, 2, 0, 1]; decide) (by intro q hq; simp only [List.mem_cons, List.not_mem_nil, or_false] at hq; rcases hq with rfl | rfl | rfl | rfl <;> rfl) ?_
    exact jGl_ch_28_8 hd (u := u) (by omega) h_r1 h
theorem jGl_ch_28_6 {xs : List Int} {d b1 b2 : Nat} {Q : Nat → JV → List JC → Prop} (hd : 2 < d) {r1 : Int} {u : Int} (h_u : 0 ≤ u ∧ u ≤ 1) (h_r1 : 1 ≤ r1 ∧ r1 ≤ 255) (h : jT xs d 165 19 101 [(0, (4, 0))] [] [jzG_7, jgh, jgh, jgh, jgh, jgh, jgh, jgh, (101, [], [0, 0, 0, 0, 0, 0]), jgh, jgh, jzG_59, jzG_60, jgh, jgh, jgh, jgh, (4, [(4, 18), (1, 1)], []), (101, [], [0, 0, 0, 0, 0, 0])] b1 b2 Q) : jT xs d 165 19 4 [(3, (0, 6)), (2, (0, u)), (0, (4, 0)), (1, (0, r1))] [] [jzG_7, jgh, jgh, jgh, jgh, jgh, jgh, jgh, (101, [], [0, 0, 0, 0, 0, 0]), jgh, jgh, jzG_59, jzG_60, jgh, jgh, jgh, jgh, (4, [(4, 18), (1, 1)], []), (101, [], [0, 0, 0, 0, 0, 0])] b1 b2 Q := by
  rcases (show (0 ≤ (((Int32.ofInt r1 >>> (Int32.ofInt 6 &&& 31)).toInt) % 2) - 1) ∨ ((((Int32.ofInt r1 >>> (Int32.ofInt 6 &&& 31)).toInt) % 2) - 1 < 0) by omega) with g_0 | g_0
  · rcases (show (0 ≤ u - 1) ∨ (u - 1 < 0) by omega) with g_1 | g_1
    · refine jT_xiload_n (v := (0, 6)) (pcN := 5) jIG_165_4 rfl rfl rfl ?_
      refine jT_xbipush (k := 8) (pcN := 7) jIG_165_5 (by decide) rfl ?_
      refine jT_xicF (t := 101) (pcN := 10) jIG_165_7 rfl (by decide +kernel) rfl rfl ?_
      refine jT_xiload_n (v := (0, r1)) (pcN := 11) jIG_165_10 rfl rfl rfl ?_
      refine jT_xiload_n (v := (0, 6)) (pcN := 12) jIG_165_11 rfl rfl rfl ?_
      refine jT_ishr (x := r1) (y := 6) (z := (Int32.ofInt r1 >>> (Int32.ofInt 6 &&& 31)).toInt) (by rfl) (by rfl) rfl ?_
      have hb_q1 : (-2147483648) ≤ (Int32.ofInt r1 >>> (Int32.ofInt 6 &&& 31)).toInt ∧ (Int32.ofInt r1 >>> (Int32.ofInt 6 &&& 31)).toInt ≤ 2147483647 := ⟨Int32.le_toInt _, Int.le_of_lt_add_one (Int32.toInt_lt _)⟩
      generalize hq_q1 : (Int32.ofInt r1 >>> (Int32.ofInt 6 &&& 31)).toInt = q1 at hb_q1 g_0 ⊢
      refine jT_xiconst (k := 1) (pcN := 14) jIG_165_13 rfl ?_
      refine jT_iand (x := q1) (y := 1) (z := q1 % 2) (by rfl) (by rfl) (jiand_1 _) ?_
      have hb_q2 : 0 ≤ q1 % 2 ∧ q1 % 2 ≤ 1 := ⟨by omega, by omega⟩
      generalize hq_q2 : q1 % 2 = q2 at hb_q2 g_0 ⊢
      refine jT_xiconst (k := 1) (pcN := 16) jIG_165_15 rfl ?_
      refine jT_icF (a := q2) (b := 1) (t := 95) (by rfl) (by rfl) (by rfl) (jw_idd (by omega) (by omega)) (jw_idd (by omega) (by omega)) (by simp only [jcP] <;> omega) ?_
      refine jT_xaload_n (v := (4, 0)) (pcN := 20) jIG_165_19 rfl rfl rfl ?_
      refine jT_xgetf (a := 0) (t := 1) (ci := 13) (fi := 11) (c := jzG_7) (v := (4, 11)) (pcN := 23) jIG_165_20 rfl rfl rfl rfl rfl rfl rfl ?_
      refine jT_xiload_n (v := (0, 6)) (pcN := 24) jIG_165_23 rfl rfl rfl ?_
      refine jT_fR [11, 12, 13, 14, 15, 16, 17] 19 (y := 57) (pcN := 27) (dC := 0) (bc1 := 0) (bc2 := 0) (c1 := b1) (c2 := b2) (as := [(4, 11), (0, 6)]) (asC := [(4, 0), (0, 6)]) (LN := [(3, (0, 6)), (2, (0, u)), (0, (4, 0)), (1, (0, r1))]) (stN := []) (hsC := jpG_54) (v := (4, 6)) (st2 := [(4, 17)]) (jG_57_26 (d := 0)) (by rfl) (by rfl) (by decide +kernel) (by rfl) (by rfl) (by omega) (by omega) (by omega) (by omega) rfl ?_
      refine jT_xastore (v := (4, 17)) (LN := [(4, (4, 17)), (3, (0, 6)), (2, (0, u)), (0, (4, 0)), (1, (0, r1))]) (pcN := 29) jIG_165_27 rfl rfl rfl rfl ?_
      refine jT_xaload_n (v := (4, 0)) (pcN := 30) jIG_165_29 rfl rfl rfl ?_
      refine jT_xaload (v := (4, 17)) (pcN := 32) jIG_165_30 rfl rfl rfl ?_
      refine jT_xbipush (k := 100) (pcN := 34) jIG_165_32 (by decide) rfl ?_
      refine jT_fR [0, 17, 18] 19 (y := 142) (pcN := 37) (dC := 1) (bc1 := 0) (bc2 := 0) (c1 := b1) (c2 := b2) (as := [(4, 0), (4, 17), (0, 100)]) (asC := [(4, 0), (4, 1), (0, 100)]) (LN := [(4, (4, 17)), (3, (0, 6)), (2, (0, u)), (0, (4, 0)), (1, (0, r1))]) (stN := []) (hsC := [jgh, (4, [(4, 2), (1, 1)], []), (101, [], [0, 0, 0, 0, 0, 0])]) (v := (9, 0)) (st2 := []) (jG_142_20 (d := 0)) (by rfl) (by rfl) (by decide +kernel) (by rfl) (by rfl) (by omega) (by omega) (by omega) (by omega) rfl ?_
      refine jT_xiconst (k := 0) (pcN := 38) jIG_165_37 rfl ?_
      refine jT_xistore (v := (0, 0)) (LN := [(5, (0, 0)), (4, (4, 17)), (3, (0, 6)), (2, (0, u)), (0, (4, 0)), (1, (0, r1))]) (pcN := 40) jIG_165_38 rfl rfl rfl rfl ?_
      refine jT_xiload (v := (0, 0)) (pcN := 42) jIG_165_40 rfl rfl rfl ?_
      refine jT_xbipush (k := 6) (pcN := 44) jIG_165_42 (by decide) rfl ?_
      refine jT_xicF (t := 93) (pcN := 47) jIG_165_44 rfl (by decide +kernel) rfl rfl ?_
      refine jT_xaload_n (v := (4, 0)) (pcN := 48) jIG_165_47 rfl rfl rfl ?_
      refine jT_xgetf (a := 0) (t := 1) (ci := 13) (fi := 7) (c := jzG_7) (v := (4, 8)) (pcN := 51) jIG_165_48 rfl rfl rfl rfl rfl rfl rfl ?_
      refine jT_xiload (v := (0, 0)) (pcN := 53) jIG_165_51 rfl rfl rfl ?_
      refine jT_xiload_n (v := (0, u)) (pcN := 54) jIG_165_53 rfl rfl rfl ?_
      refine jT_ifF (a := u) (t := 68) (by rfl) (by rfl) (by rfl) (jw_idd (by omega) (by omega)) (by simp only [jcP] <;> omega) ?_
      refine jT_xaload (v := (4, 17)) (pcN := 59) jIG_165_57 rfl rfl rfl ?_
      refine jT_xgetf (a := 17) (t := 2) (ci := 4) (fi := 0) (c := (4, [(4, 18), (1, 1)], [])) (v := (4, 18)) (pcN := 62) jIG_165_59 rfl rfl rfl rfl rfl rfl rfl ?_
      refine jT_xiload (v := (0, 0)) (pcN := 64) jIG_165_62 rfl rfl rfl ?_
      refine jT_lald (x := 0) (a := 18) (j := 0) (fs := []) (X := [0, 0, 0, 0, 0, 0]) jIG_165_64 rfl rfl rfl rfl ?_
      refine jT_eq (LN := [(5, (0, 0)), (4, (4, 17)), (3, (0, 6)), (2, (0, u)), (0, (4, 0)), (1, (0, r1))]) (stN := [(1, 0), (0, 0), (4, 8)]) (hsN := jpG_61) rfl rfl rfl ?_
      refine jT_xgoto (pcN := 86) jIG_165_65 rfl ?_
      refine jT_adv 1 (pcN := 87) (LN := [(5, (0, 0)), (4, (4, 17)), (3, (0, 6)), (2, (0, u)), (0, (4, 0)), (1, (0, r1))]) (stN := []) (hsN := jpG_61) (c1 := 0) (s1 := 0) (c2 := b1) (s2 := b2) (by exact rfl) ?_ (by omega) (by omega)
      refine jT_xiinc (x := 0) (z := 1) (LN := [(5, (0, 1)), (4, (4, 17)), (3, (0, 6)), (2, (0, u)), (0, (4, 0)), (1, (0, r1))]) (pcN := 90) jIG_165_87 rfl rfl (by decide) rfl rfl ?_
      refine jT_xgoto (pcN := 40) jIG_165_90 rfl ?_
      refine jT_xiload (v := (0, 1)) (pcN := 42) jIG_165_40 rfl rfl rfl ?_
      refine jT_xbipush (k := 6) (pcN := 44) jIG_165_42 (by decide) rfl ?_
      refine jT_xicF (t := 93) (pcN := 47) jIG_165_44 rfl (by decide +kernel) rfl rfl ?_
      refine jT_xaload_n (v := (4, 0)) (pcN := 48) jIG_165_47 rfl rfl rfl ?_
      refine jT_xgetf (a := 0) (t := 1) (ci := 13) (fi := 7) (c := jzG_7) (v := (4, 8)) (pcN := 51) jIG_165_48 rfl rfl rfl rfl rfl rfl rfl ?_
      refine jT_xiload (v := (0, 1)) (pcN := 53) jIG_165_51 rfl rfl rfl ?_
      refine jT_xiload_n (v := (0, u)) (pcN := 54) jIG_165_53 rfl rfl rfl ?_
      refine jT_ifF (a := u) (t := 68) (by rfl) (by rfl) (by rfl) (jw_idd (by omega) (by omega)) (by simp only [jcP] <;> omega) ?_
      refine jT_xaload (v := (4, 17)) (pcN := 59) jIG_165_57 rfl rfl rfl ?_
      refine jT_xgetf (a := 17) (t := 2) (ci := 4) (fi := 0) (c := (4, [(4, 18), (1, 1)], [])) (v := (4, 18)) (pcN := 62) jIG_165_59 rfl rfl rfl rfl rfl rfl rfl ?_
      refine jT_xiload (v := (0, 1)) (pcN := 64) jIG_165_62 rfl rfl rfl ?_
      refine jT_lald (x := 0) (a := 18) (j := 1) (fs := []) (X := [0, 0, 0, 0, 0, 0]) jIG_165_64 rfl rfl rfl rfl ?_
      refine jT_eq (LN := [(5, (0, 1)), (4, (4, 17)), (3, (0, 6)), (2, (0, u)), (0, (4, 0)), (1, (0, r1))]) (stN := [(1, 0), (0, 1), (4, 8)]) (hsN := jpG_61) rfl rfl rfl ?_
      refine jT_xgoto (pcN := 86) jIG_165_65 rfl ?_
      refine jT_adv 1 (pcN := 87) (LN := [(5, (0, 1)), (4, (4, 17)), (3, (0, 6)), (2, (0, u)), (0, (4, 0)), (1, (0, r1))]) (stN := []) (hsN := jpG_61) (c1 := 0) (s1 := 0) (c2 := b1) (s2 := b2) (by exact rfl) ?_ (by omega) (by omega)
      refine jT_xiinc (x := 1) (z := 2) (LN := [(5, (0, 2)), (4, (4, 17)), (3, (0, 6)), (2, (0, u)), (0, (4, 0)), (1, (0, r1))]) (pcN := 90) jIG_165_87 rfl rfl (by decide) rfl rfl ?_
      refine jT_xgoto (pcN := 40) jIG_165_90 rfl ?_
      refine jT_xiload (v := (0, 2)) (pcN := 42) jIG_165_40 rfl rfl rfl ?_
      refine jT_xbipush (k := 6) (pcN := 44) jIG_165_42 (by decide) rfl ?_
      refine jT_xicF (t := 93) (pcN := 47) jIG_165_44 rfl (by decide +kernel) rfl rfl ?_
      refine jT_xaload_n (v := (4, 0)) (pcN := 48) jIG_165_47 rfl rfl rfl ?_
      refine jT_xgetf (a := 0) (t := 1) (ci := 13) (fi := 7) (c := jzG_7) (v := (4, 8)) (pcN := 51) jIG_165_48 rfl rfl rfl rfl rfl rfl rfl ?_
      refine jT_xiload (v := (0, 2)) (pcN := 53) jIG_165_51 rfl rfl rfl ?_
      refine jT_xiload_n (v := (0, u)) (pcN := 54) jIG_165_53 rfl rfl rfl ?_
      refine jT_ifF (a := u) (t := 68) (by rfl) (by rfl) (by rfl) (jw_idd (by omega) (by omega)) (by simp only [jcP] <;> omega) ?_
      refine jT_xaload (v := (4, 17)) (pcN := 59) jIG_165_57 rfl rfl rfl ?_
      refine jT_xgetf (a := 17) (t := 2) (ci := 4) (fi := 0) (c := (4, [(4, 18), (1, 1)], [])) (v := (4, 18)) (pcN := 62) jIG_165_59 rfl rfl rfl rfl rfl rfl rfl ?_
      refine jT_xiload (v := (0, 2)) (pcN := 64) jIG_165_62 rfl rfl rfl ?_
      refine jT_lald (x := 0) (a := 18) (j := 2) (fs := []) (X := [0, 0, 0, 0, 0, 0]) jIG_165_64 rfl rfl rfl rfl ?_
      refine jT_eq (LN := [(5, (0, 2)), (4, (4, 17)), (3, (0, 6)), (2, (0, u)), (0, (4, 0)), (1, (0, r1))]) (stN := [(1, 0), (0, 2), (4, 8)]) (hsN := jpG_61) rfl rfl rfl ?_
      refine jT_xgoto (pcN := 86) jIG_165_65 rfl ?_
      refine jT_adv 1 (pcN := 87) (LN := [(5, (0, 2)), (4, (4, 17)), (3, (0, 6)), (2, (0, u)), (0, (4, 0)), (1, (0, r1))]) (stN := []) (hsN := jpG_61) (c1 := 0) (s1 := 0) (c2 := b1) (s2 := b2) (by exact rfl) ?_ (by omega) (by omega)
      refine jT_xiinc (x := 2) (z := 3) (LN := [(5, (0, 3)), (4, (4, 17)), (3, (0, 6)), (2, (0, u)), (0, (4, 0)), (1, (0, r1))]) (pcN := 90) jIG_165_87 rfl rfl (by decide) rfl rfl ?_
      refine jT_xgoto (pcN := 40) jIG_165_90 rfl ?_
      refine jT_xiload (v := (0, 3)) (pcN := 42) jIG_165_40 rfl rfl rfl ?_
      refine jT_xbipush (k := 6) (pcN := 44) jIG_165_42 (by decide) rfl ?_
      refine jT_xicF (t := 93) (pcN := 47) jIG_165_44 rfl (by decide +kernel) rfl rfl ?_
      refine jT_xaload_n (v := (4, 0)) (pcN := 48) jIG_165_47 rfl rfl rfl ?_
      refine jT_xgetf (a := 0) (t := 1) (ci := 13) (fi := 7) (c := jzG_7) (v := (4, 8)) (pcN := 51) jIG_165_48 rfl rfl rfl rfl rfl rfl rfl ?_
      refine jT_xiload (v := (0, 3)) (pcN := 53) jIG_165_51 rfl rfl rfl ?_
      refine jT_xiload_n (v := (0, u)) (pcN := 54) jIG_165_53 rfl rfl rfl ?_
      refine jT_ifF (a := u) (t := 68) (by rfl) (by rfl) (by rfl) (jw_idd (by omega) (by omega)) (by simp only [jcP] <;> omega) ?_
      refine jT_xaload (v := (4, 17)) (pcN := 59) jIG_165_57 rfl rfl rfl ?_
      refine jT_xgetf (a := 17) (t := 2) (ci := 4) (fi := 0) (c := (4, [(4, 18), (1, 1)], [])) (v := (4, 18)) (pcN := 62) jIG_165_59 rfl rfl rfl rfl rfl rfl rfl ?_
      refine jT_xiload (v := (0, 3)) (pcN := 64) jIG_165_62 rfl rfl rfl ?_
      refine jT_lald (x := 0) (a := 18) (j := 3) (fs := []) (X := [0, 0, 0, 0, 0, 0]) jIG_165_64 rfl rfl rfl rfl ?_
      refine jT_eq (LN := [(5, (0, 3)), (4, (4, 17)), (3, (0, 6)), (2, (0, u)), (0, (4, 0)), (1, (0, r1))]) (stN := [(1, 0), (0, 3), (4, 8)]) (hsN := jpG_61) rfl rfl rfl ?_
      refine jT_xgoto (pcN := 86) jIG_165_65 rfl ?_
      refine jT_adv 1 (pcN := 87) (LN := [(5, (0, 3)), (4, (4, 17)), (3, (0, 6)), (2, (0, u)), (0, (4, 0)), (1, (0, r1))]) (stN := []) (hsN := jpG_61) (c1 := 0) (s1 := 0) (c2 := b1) (s2 := b2) (by exact rfl) ?_ (by omega) (by omega)
      refine jT_xiinc (x := 3) (z := 4) (LN := [(5, (0, 4)), (4, (4, 17)), (3, (0, 6)), (2, (0, u)), (0, (4, 0)), (1, (0, r1))]) (pcN := 90) jIG_165_87 rfl rfl (by decide) rfl rfl ?_
      refine jT_xgoto (pcN := 40) jIG_165_90 rfl ?_
      refine jT_xiload (v := (0, 4)) (pcN := 42) jIG_165_40 rfl rfl rfl ?_
      refine jT_xbipush (k := 6) (pcN := 44) jIG_165_42 (by decide) rfl ?_
      refine jT_xicF (t := 93) (pcN := 47) jIG_165_44 rfl (by decide +kernel) rfl rfl ?_
      refine jT_xaload_n (v := (4, 0)) (pcN := 48) jIG_165_47 rfl rfl rfl ?_
      refine jT_xgetf (a := 0) (t := 1) (ci := 13) (fi := 7) (c := jzG_7) (v := (4, 8)) (pcN := 51) jIG_165_48 rfl rfl rfl rfl rfl rfl rfl ?_
      refine jT_xiload (v := (0, 4)) (pcN := 53) jIG_165_51 rfl rfl rfl ?_
      refine jT_xiload_n (v := (0, u)) (pcN := 54) jIG_165_53 rfl rfl rfl ?_
      refine jT_ifF (a := u) (t := 68) (by rfl) (by rfl) (by rfl) (jw_idd (by omega) (by omega)) (by simp only [jcP] <;> omega) ?_
      refine jT_xaload (v := (4, 17)) (pcN := 59) jIG_165_57 rfl rfl rfl ?_
      refine jT_xgetf (a := 17) (t := 2) (ci := 4) (fi := 0) (c := (4, [(4, 18), (1, 1)], [])) (v := (4, 18)) (pcN := 62) jIG_165_59 rfl rfl rfl rfl rfl rfl rfl ?_
      refine jT_xiload (v := (0, 4)) (pcN := 64) jIG_165_62 rfl rfl rfl ?_
      refine jT_lald (x := 0) (a := 18) (j := 4) (fs := []) (X := [0, 0, 0, 0, 0, 0]) jIG_165_64 rfl rfl rfl rfl ?_
      refine jT_eq (LN := [(5, (0, 4)), (4, (4, 17)), (3, (0, 6)), (2, (0, u)), (0, (4, 0)), (1, (0, r1))]) (stN := [(1, 0), (0, 4), (4, 8)]) (hsN := jpG_61) rfl rfl rfl ?_
      refine jT_xgoto (pcN := 86) jIG_165_65 rfl ?_
      refine jT_adv 1 (pcN := 87) (LN := [(5, (0, 4)), (4, (4, 17)), (3, (0, 6)), (2, (0, u)), (0, (4, 0)), (1, (0, r1))]) (stN := []) (hsN := jpG_61) (c1 := 0) (s1 := 0) (c2 := b1) (s2 := b2) (by exact rfl) ?_ (by omega) (by omega)
      refine jT_xiinc (x := 4) (z := 5) (LN := [(5, (0, 5)), (4, (4, 17)), (3, (0, 6)), (2, (0, u)), (0, (4, 0)), (1, (0, r1))]) (pcN := 90) jIG_165_87 rfl rfl (by decide) rfl rfl ?_
      refine jT_xgoto (pcN := 40) jIG_165_90 rfl ?_
      refine jT_xiload (v := (0, 5)) (pcN := 42) jIG_165_40 rfl rfl rfl ?_
      refine jT_xbipush (k := 6) (pcN := 44) jIG_165_42 (by decide) rfl ?_
      refine jT_xicF (t := 93) (pcN := 47) jIG_165_44 rfl (by decide +kernel) rfl rfl ?_
      refine jT_xaload_n (v := (4, 0)) (pcN := 48) jIG_165_47 rfl rfl rfl ?_
      refine jT_xgetf (a := 0) (t := 1) (ci := 13) (fi := 7) (c := jzG_7) (v := (4, 8)) (pcN := 51) jIG_165_48 rfl rfl rfl rfl rfl rfl rfl ?_
      refine jT_xiload (v := (0, 5)) (pcN := 53) jIG_165_51 rfl rfl rfl ?_
      refine jT_xiload_n (v := (0, u)) (pcN := 54) jIG_165_53 rfl rfl rfl ?_
      refine jT_ifF (a := u) (t := 68) (by rfl) (by rfl) (by rfl) (jw_idd (by omega) (by omega)) (by simp only [jcP] <;> omega) ?_
      refine jT_xaload (v := (4, 17)) (pcN := 59) jIG_165_57 rfl rfl rfl ?_
      refine jT_xgetf (a := 17) (t := 2) (ci := 4) (fi := 0) (c := (4, [(4, 18), (1, 1)], [])) (v := (4, 18)) (pcN := 62) jIG_165_59 rfl rfl rfl rfl rfl rfl rfl ?_
      refine jT_xiload (v := (0, 5)) (pcN := 64) jIG_165_62 rfl rfl rfl ?_
      refine jT_lald (x := 0) (a := 18) (j := 5) (fs := []) (X := [0, 0, 0, 0, 0, 0]) jIG_165_64 rfl rfl rfl rfl ?_
      refine jT_eq (LN := [(5, (0, 5)), (4, (4, 17)), (3, (0, 6)), (2, (0, u)), (0, (4, 0)), (1, (0, r1))]) (stN := [(1, 0), (0, 5), (4, 8)]) (hsN := jpG_61) rfl rfl rfl ?_
      refine jT_xgoto (pcN := 86) jIG_165_65 rfl ?_
      refine jT_adv 1 (pcN := 87) (LN := [(5, (0, 5)), (4, (4, 17)), (3, (0, 6)), (2, (0, u)), (0, (4, 0)), (1, (0, r1))]) (stN := []) (hsN := jpG_61) (c1 := 0) (s1 := 0) (c2 := b1) (s2 := b2) (by exact rfl) ?_ (by omega) (by omega)
      refine jT_xiinc (x := 5) (z := 6) (LN := [(5, (0, 6)), (4, (4, 17)), (3, (0, 6)), (2, (0, u)), (0, (4, 0)), (1, (0, r1))]) (pcN := 90) jIG_165_87 rfl rfl (by decide) rfl rfl ?_
      refine jT_xgoto (pcN := 40) jIG_165_90 rfl ?_
      refine jT_xiload (v := (0, 6)) (pcN := 42) jIG_165_40 rfl rfl rfl ?_
      refine jT_xbipush (k := 6) (pcN := 44) jIG_165_42 (by decide) rfl ?_
      refine jT_xicT (pcN := 93) jIG_165_44 rfl (by decide +kernel) rfl ?_
      refine jT_xiconst (k := 0) (pcN := 94) jIG_165_93 rfl ?_
      refine jT_xistore_n (v := (0, 0)) (LN := [(2, (0, 0)), (5, (0, 6)), (4, (4, 17)), (3, (0, 6)), (0, (4, 0)), (1, (0, r1))]) (pcN := 95) jIG_165_94 rfl rfl rfl rfl ?_
      refine jT_xiinc (x := 6) (z := 7) (LN := [(3, (0, 7)), (2, (0, 0)), (5, (0, 6)), (4, (4, 17)), (0, (4, 0)), (1, (0, r1))]) (pcN := 98) jIG_165_95 rfl rfl (by decide) rfl rfl ?_
      refine jT_xgoto (pcN := 4) jIG_165_98 rfl ?_
      refine jT_loc (LN := [(3, (0, 7)), (2, (0, 0)), (0, (4, 0)), (1, (0, r1))]) (by show List.Nodup [3, 2, 0, 1]; decide) (by intro q hq; simp only [List.mem_cons, List.not_mem_nil, or_false] at hq; rcases hq with rfl | rfl | rfl | rfl <;> rfl) ?_
      exact jGl_ch_28_7 hd (u := 0) (by omega) h_r1 h
    · refine jT_xiload_n (v := (0, 6)) (pcN := 5) jIG_165_4 rfl rfl rfl ?_
      refine jT_xbipush (k := 8) (pcN := 7) jIG_165_5 (by decide) rfl ?_
      refine jT_xicF (t := 101) (pcN := 10) jIG_165_7 rfl (by decide +kernel) rfl rfl ?_
      refine jT_xiload_n (v := (0, r1)) (pcN := 11) jIG_165_10 rfl rfl rfl ?_
      refine jT_xiload_n (v := (0, 6)) (pcN := 12) jIG_165_11 rfl rfl rfl ?_
      refine jT_ishr (x := r1) (y := 6) (z := (Int32.ofInt r1 >>> (Int32.ofInt 6 &&& 31)).toInt) (by rfl) (by rfl) rfl ?_
      have hb_q1 : (-2147483648) ≤ (Int32.ofInt r1 >>> (Int32.ofInt 6 &&& 31)).toInt ∧ (Int32.ofInt r1 >>> (Int32.ofInt 6 &&& 31)).toInt ≤ 2147483647 := ⟨Int32.le_toInt _, Int.le_of_lt_add_one (Int32.toInt_lt _)⟩
      generalize hq_q1 : (Int32.ofInt r1 >>> (Int32.ofInt 6 &&& 31)).toInt = q1 at hb_q1 g_0 ⊢
      refine jT_xiconst (k := 1) (pcN := 14) jIG_165_13 rfl ?_
      refine jT_iand (x := q1) (y := 1) (z := q1 % 2) (by rfl) (by rfl) (jiand_1 _) ?_
      have hb_q2 : 0 ≤ q1 % 2 ∧ q1 % 2 ≤ 1 := ⟨by omega, by omega⟩
      generalize hq_q2 : q1 % 2 = q2 at hb_q2 g_0 ⊢
      refine jT_xiconst (k := 1) (pcN := 16) jIG_165_15 rfl ?_
      refine jT_icF (a := q2) (b := 1) (t := 95) (by rfl) (by rfl) (by rfl) (jw_idd (by omega) (by omega)) (jw_idd (by omega) (by omega)) (by simp only [jcP] <;> omega) ?_
      refine jT_xaload_n (v := (4, 0)) (pcN := 20) jIG_165_19 rfl rfl rfl ?_
      refine jT_xgetf (a := 0) (t := 1) (ci := 13) (fi := 11) (c := jzG_7) (v := (4, 11)) (pcN := 23) jIG_165_20 rfl rfl rfl rfl rfl rfl rfl ?_
      refine jT_xiload_n (v := (0, 6)) (pcN := 24) jIG_165_23 rfl rfl rfl ?_
      refine jT_fR [11, 12, 13, 14, 15, 16, 17] 19 (y := 57) (pcN := 27) (dC := 0) (bc1 := 0) (bc2 := 0) (c1 := b1) (c2 := b2) (as := [(4, 11), (0, 6)]) (asC := [(4, 0), (0, 6)]) (LN := [(3, (0, 6)), (2, (0, u)), (0, (4, 0)), (1, (0, r1))]) (stN := []) (hsC := jpG_54) (v := (4, 6)) (st2 := [(4, 17)]) (jG_57_26 (d := 0)) (by rfl) (by rfl) (by decide +kernel) (by rfl) (by rfl) (by omega) (by omega) (by omega) (by omega) rfl ?_
      refine jT_xastore (v := (4, 17)) (LN := [(4, (4, 17)), (3, (0, 6)), (2, (0, u)), (0, (4, 0)), (1, (0, r1))]) (pcN := 29) jIG_165_27 rfl rfl rfl rfl ?_
      refine jT_xaload_n (v := (4, 0)) (pcN := 30) jIG_165_29 rfl rfl rfl ?_
      refine jT_xaload (v := (4, 17)) (pcN := 32) jIG_165_30 rfl rfl rfl ?_
      refine jT_xbipush (k := 100) (pcN := 34) jIG_165_32 (by decide) rfl ?_
      refine jT_fR [0, 17, 18] 19 (y := 142) (pcN := 37) (dC := 1) (bc1 := 0) (bc2 := 0) (c1 := b1) (c2 := b2) (as := [(4, 0), (4, 17), (0, 100)]) (asC := [(4, 0), (4, 1), (0, 100)]) (LN := [(4, (4, 17)), (3, (0, 6)), (2, (0, u)), (0, (4, 0)), (1, (0, r1))]) (stN := []) (hsC := [jgh, (4, [(4, 2), (1, 1)], []), (101, [], [0, 0, 0, 0, 0, 0])]) (v := (9, 0)) (st2 := []) (jG_142_20 (d := 0)) (by rfl) (by rfl) (by decide +kernel) (by rfl) (by rfl) (by omega) (by omega) (by omega) (by omega) rfl ?_
      refine jT_xiconst (k := 0) (pcN := 38) jIG_165_37 rfl ?_
      refine jT_xistore (v := (0, 0)) (LN := [(5, (0, 0)), (4, (4, 17)), (3, (0, 6)), (2, (0, u)), (0, (4, 0)), (1, (0, r1))]) (pcN := 40) jIG_165_38 rfl rfl rfl rfl ?_
      refine jT_xiload (v := (0, 0)) (pcN := 42) jIG_165_40 rfl rfl rfl ?_
      refine jT_xbipush (k := 6) (pcN := 44) jIG_165_42 (by decide) rfl ?_
      refine jT_xicF (t := 93) (pcN := 47) jIG_165_44 rfl (by decide +kernel) rfl rfl ?_
      refine jT_xaload_n (v := (4, 0)) (pcN := 48) jIG_165_47 rfl rfl rfl ?_
      refine jT_xgetf (a := 0) (t := 1) (ci := 13) (fi := 7) (c := jzG_7) (v := (4, 8)) (pcN := 51) jIG_165_48 rfl rfl rfl rfl rfl rfl rfl ?_
      refine jT_xiload (v := (0, 0)) (pcN := 53) jIG_165_51 rfl rfl rfl ?_
      refine jT_xiload_n (v := (0, u)) (pcN := 54) jIG_165_53 rfl rfl rfl ?_
      refine jT_ifT (a := u) (t := 68) (by rfl) (by rfl) (by rfl) (jw_idd (by omega) (by omega)) (by simp only [jcP] <;> omega) ?_
      refine jT_xaload_n (v := (4, 0)) (pcN := 69) jIG_165_68 rfl rfl rfl ?_
      refine jT_xgetf (a := 0) (t := 1) (ci := 13) (fi := 7) (c := jzG_7) (v := (4, 8)) (pcN := 72) jIG_165_69 rfl rfl rfl rfl rfl rfl rfl ?_
      refine jT_xiload (v := (0, 0)) (pcN := 74) jIG_165_72 rfl rfl rfl ?_
      refine jT_lald (x := 0) (a := 8) (j := 0) (fs := []) (X := [0, 0, 0, 0, 0, 0]) jIG_165_74 rfl rfl rfl rfl ?_
      refine jT_eq (LN := [(5, (0, 0)), (4, (4, 17)), (3, (0, 6)), (2, (0, u)), (0, (4, 0)), (1, (0, r1))]) (stN := [(1, 0), (0, 0), (4, 8)]) (hsN := jpG_61) rfl rfl rfl ?_
      refine jT_xaload (v := (4, 17)) (pcN := 77) jIG_165_75 rfl rfl rfl ?_
      refine jT_xgetf (a := 17) (t := 2) (ci := 4) (fi := 0) (c := (4, [(4, 18), (1, 1)], [])) (v := (4, 18)) (pcN := 80) jIG_165_77 rfl rfl rfl rfl rfl rfl rfl ?_
      refine jT_xiload (v := (0, 0)) (pcN := 82) jIG_165_80 rfl rfl rfl ?_
      refine jT_lald (x := 0) (a := 18) (j := 0) (fs := []) (X := [0, 0, 0, 0, 0, 0]) jIG_165_82 rfl rfl rfl rfl ?_
      refine jT_eq (LN := [(5, (0, 0)), (4, (4, 17)), (3, (0, 6)), (2, (0, u)), (0, (4, 0)), (1, (0, r1))]) (stN := [(1, 0), (1, 0), (0, 0), (4, 8)]) (hsN := jpG_61) rfl rfl rfl ?_
      refine jT_mm4 (x := 0) (y := 0) (z := 0) (by rfl) (by rfl) (by rfl) (by rfl) (jwl_idd (by omega) (by omega)) (jwl_idd (by omega) (by omega)) (by rw [decide_eq_false (show ¬ ((0 : Int) < 0) by omega)]; rfl) ?_
      refine jT_adv 1 (pcN := 87) (LN := [(5, (0, 0)), (4, (4, 17)), (3, (0, 6)), (2, (0, u)), (0, (4, 0)), (1, (0, r1))]) (stN := []) (hsN := jpG_61) (c1 := 0) (s1 := 0) (c2 := b1) (s2 := b2) (by exact rfl) ?_ (by omega) (by omega)
      refine jT_xiinc (x := 0) (z := 1) (LN := [(5, (0, 1)), (4, (4, 17)), (3, (0, 6)), (2, (0, u)), (0, (4, 0)), (1, (0, r1))]) (pcN := 90) jIG_165_87 rfl rfl (by decide) rfl rfl ?_
      refine jT_xgoto (pcN := 40) jIG_165_90 rfl ?_
      refine jT_xiload (v := (0, 1)) (pcN := 42) jIG_165_40 rfl rfl rfl ?_
      refine jT_xbipush (k := 6) (pcN := 44) jIG_165_42 (by decide) rfl ?_
      refine jT_xicF (t := 93) (pcN := 47) jIG_165_44 rfl (by decide +kernel) rfl rfl ?_
      refine jT_xaload_n (v := (4, 0)) (pcN := 48) jIG_165_47 rfl rfl rfl ?_
      refine jT_xgetf (a := 0) (t := 1) (ci := 13) (fi := 7) (c := jzG_7) (v := (4, 8)) (pcN := 51) jIG_165_48 rfl rfl rfl rfl rfl rfl rfl ?_
      refine jT_xiload (v := (0, 1)) (pcN := 53) jIG_165_51 rfl rfl rfl ?_
      refine jT_xiload_n (v := (0, u)) (pcN := 54) jIG_165_53 rfl rfl rfl ?_
      refine jT_ifT (a := u) (t := 68) (by rfl) (by rfl) (by rfl) (jw_idd (by omega) (by omega)) (by simp only [jcP] <;> omega) ?_
      refine jT_xaload_n (v := (4, 0)) (pcN := 69) jIG_165_68 rfl rfl rfl ?_
      refine jT_xgetf (a := 0) (t := 1) (ci := 13) (fi := 7) (c := jzG_7) (v := (4, 8)) (pcN := 72) jIG_165_69 rfl rfl rfl rfl rfl rfl rfl ?_
      refine jT_xiload (v := (0, 1)) (pcN := 74) jIG_165_72 rfl rfl rfl ?_
      refine jT_lald (x := 0) (a := 8) (j := 1) (fs := []) (X := [0, 0, 0, 0, 0, 0]) jIG_165_74 rfl rfl rfl rfl ?_
      refine jT_eq (LN := [(5, (0, 1)), (4, (4, 17)), (3, (0, 6)), (2, (0, u)), (0, (4, 0)), (1, (0, r1))]) (stN := [(1, 0), (0, 1), (4, 8)]) (hsN := jpG_61) rfl rfl rfl ?_
      refine jT_xaload (v := (4, 17)) (pcN := 77) jIG_165_75 rfl rfl rfl ?_
      refine jT_xgetf (a := 17) (t := 2) (ci := 4) (fi := 0) (c := (4, [(4, 18), (1, 1)], [])) (v := (4, 18)) (pcN := 80) jIG_165_77 rfl rfl rfl rfl rfl rfl rfl ?_
      refine jT_xiload (v := (0, 1)) (pcN := 82) jIG_165_80 rfl rfl rfl ?_
      refine jT_lald (x := 0) (a := 18) (j := 1) (fs := []) (X := [0, 0, 0, 0, 0, 0]) jIG_165_82 rfl rfl rfl rfl ?_
      refine jT_eq (LN := [(5, (0, 1)), (4, (4, 17)), (3, (0, 6)), (2, (0, u)), (0, (4, 0)), (1, (0, r1))]) (stN := [(1, 0), (1, 0), (0, 1), (4, 8)]) (hsN := jpG_61) rfl rfl rfl ?_
      refine jT_mm4 (x := 0) (y := 0) (z := 0) (by rfl) (by rfl) (by rfl) (by rfl) (jwl_idd (by omega) (by omega)) (jwl_idd (by omega) (by omega)) (by rw [decide_eq_false (show ¬ ((0 : Int) < 0) by omega)]; rfl) ?_
      refine jT_adv 1 (pcN := 87) (LN := [(5, (0, 1)), (4, (4, 17)), (3, (0, 6)), (2, (0, u)), (0, (4, 0)), (1, (0, r1))]) (stN := []) (hsN := jpG_61) (c1 := 0) (s1 := 0) (c2 := b1) (s2 := b2) (by exact rfl) ?_ (by omega) (by omega)
      refine jT_xiinc (x := 1) (z := 2) (LN := [(5, (0, 2)), (4, (4, 17)), (3, (0, 6)), (2, (0, u)), (0, (4, 0)), (1, (0, r1))]) (pcN := 90) jIG_165_87 rfl rfl (by decide) rfl rfl ?_
      refine jT_xgoto (pcN := 40) jIG_165_90 rfl ?_
      refine jT_xiload (v := (0, 2)) (pcN := 42) jIG_165_40 rfl rfl rfl ?_
      refine jT_xbipush (k := 6) (pcN := 44) jIG_165_42 (by decide) rfl ?_
      refine jT_xicF (t := 93) (pcN := 47) jIG_165_44 rfl (by decide +kernel) rfl rfl ?_
      refine jT_xaload_n (v := (4, 0)) (pcN := 48) jIG_165_47 rfl rfl rfl ?_
      refine jT_xgetf (a := 0) (t := 1) (ci := 13) (fi := 7) (c := jzG_7) (v := (4, 8)) (pcN := 51) jIG_165_48 rfl rfl rfl rfl rfl rfl rfl ?_
      refine jT_xiload (v := (0, 2)) (pcN := 53) jIG_165_51 rfl rfl rfl ?_
      refine jT_xiload_n (v := (0, u)) (pcN := 54) jIG_165_53 rfl rfl rfl ?_
      refine jT_ifT (a := u) (t := 68) (by rfl) (by rfl) (by rfl) (jw_idd (by omega) (by omega)) (by simp only [jcP] <;> omega) ?_
      refine jT_xaload_n (v := (4, 0)) (pcN := 69) jIG_165_68 rfl rfl rfl ?_
      refine jT_xgetf (a := 0) (t := 1) (ci := 13) (fi := 7) (c := jzG_7) (v := (4, 8)) (pcN := 72) jIG_165_69 rfl rfl rfl rfl rfl rfl rfl ?_
      refine jT_xiload (v := (0, 2)) (pcN := 74) jIG_165_72 rfl rfl rfl ?_
      refine jT_lald (x := 0) (a := 8) (j := 2) (fs := []) (X := [0, 0, 0, 0, 0, 0]) jIG_165_74 rfl rfl rfl rfl ?_
      refine jT_eq (LN := [(5, (0, 2)), (4, (4, 17)), (3, (0, 6)), (2, (0, u)), (0, (4, 0)), (1, (0, r1))]) (stN := [(1, 0), (0, 2), (4, 8)]) (hsN := jpG_61) rfl rfl rfl ?_
      refine jT_xaload (v := (4, 17)) (pcN := 77) jIG_165_75 rfl rfl rfl ?_
      refine jT_xgetf (a := 17) (t := 2) (ci := 4) (fi := 0) (c := (4, [(4, 18), (1, 1)], [])) (v := (4, 18)) (pcN := 80) jIG_165_77 rfl rfl rfl rfl rfl rfl rfl ?_
      refine jT_xiload (v := (0, 2)) (pcN := 82) jIG_165_80 rfl rfl rfl ?_
      refine jT_lald (x := 0) (a := 18) (j := 2) (fs := []) (X := [0, 0, 0, 0, 0, 0]) jIG_165_82 rfl rfl rfl rfl ?_
      refine jT_eq (LN := [(5, (0, 2)), (4, (4, 17)), (3, (0, 6)), (2, (0, u)), (0, (4, 0)), (1, (0, r1))]) (stN := [(1, 0), (1, 0), (0, 2), (4, 8)]) (hsN := jpG_61) rfl rfl rfl ?_
      refine jT_mm4 (x := 0) (y := 0) (z := 0) (by rfl) (by rfl) (by rfl) (by rfl) (jwl_idd (by omega) (by omega)) (jwl_idd (by omega) (by omega)) (by rw [decide_eq_false (show ¬ ((0 : Int) < 0) by omega)]; rfl) ?_
      refine jT_adv 1 (pcN := 87) (LN := [(5, (0, 2)), (4, (4, 17)), (3, (0, 6)), (2, (0, u)), (0, (4, 0)), (1, (0, r1))]) (stN := []) (hsN := jpG_61) (c1 := 0) (s1 := 0) (c2 := b1) (s2 := b2) (by exact rfl) ?_ (by omega) (by omega)
      refine jT_xiinc (x := 2) (z := 3) (LN := [(5, (0, 3)), (4, (4, 17)), (3, (0, 6)), (2, (0, u)), (0, (4, 0)), (1, (0, r1))]) (pcN := 90) jIG_165_87 rfl rfl (by decide) rfl rfl ?_
      refine jT_xgoto (pcN := 40) jIG_165_90 rfl ?_
      refine jT_xiload (v := (0, 3)) (pcN := 42) jIG_165_40 rfl rfl rfl ?_
      refine jT_xbipush (k := 6) (pcN := 44) jIG_165_42 (by decide) rfl ?_
      refine jT_xicF (t := 93) (pcN := 47) jIG_165_44 rfl (by decide +kernel) rfl rfl ?_
      refine jT_xaload_n (v := (4, 0)) (pcN := 48) jIG_165_47 rfl rfl rfl ?_
      refine jT_xgetf (a := 0) (t := 1) (ci := 13) (fi := 7) (c := jzG_7) (v := (4, 8)) (pcN := 51) jIG_165_48 rfl rfl rfl rfl rfl rfl rfl ?_
      refine jT_xiload (v := (0, 3)) (pcN := 53) jIG_165_51 rfl rfl rfl ?_
      refine jT_xiload_n (v := (0, u)) (pcN := 54) jIG_165_53 rfl rfl rfl ?_
      refine jT_ifT (a := u) (t := 68) (by rfl) (by rfl) (by rfl) (jw_idd (by omega) (by omega)) (by simp only [jcP] <;> omega) ?_
      refine jT_xaload_n (v := (4, 0)) (pcN := 69) jIG_165_68 rfl rfl rfl ?_
      refine jT_xgetf (a := 0) (t := 1) (ci := 13) (fi := 7) (c := jzG_7) (v := (4, 8)) (pcN := 72) jIG_165_69 rfl rfl rfl rfl rfl rfl rfl ?_
      refine jT_xiload (v := (0, 3)) (pcN := 74) jIG_165_72 rfl rfl rfl ?_
      refine jT_lald (x := 0) (a := 8) (j := 3) (fs := []) (X := [0, 0, 0, 0, 0, 0]) jIG_165_74 rfl rfl rfl rfl ?_
      refine jT_eq (LN := [(5, (0, 3)), (4, (4, 17)), (3, (0, 6)), (2, (0, u)), (0, (4, 0)), (1, (0, r1))]) (stN := [(1, 0), (0, 3), (4, 8)]) (hsN := jpG_61) rfl rfl rfl ?_
      refine jT_xaload (v := (4, 17)) (pcN := 77) jIG_165_75 rfl rfl rfl ?_
      refine jT_xgetf (a := 17) (t := 2) (ci := 4) (fi := 0) (c := (4, [(4, 18), (1, 1)], [])) (v := (4, 18)) (pcN := 80) jIG_165_77 rfl rfl rfl rfl rfl rfl rfl ?_
      refine jT_xiload (v := (0, 3)) (pcN := 82) jIG_165_80 rfl rfl rfl ?_
      refine jT_lald (x := 0) (a := 18) (j := 3) (fs := []) (X := [0, 0, 0, 0, 0, 0]) jIG_165_82 rfl rfl rfl rfl ?_
      refine jT_eq (LN := [(5, (0, 3)), (4, (4, 17)), (3, (0, 6)), (2, (0, u)), (0, (4, 0)), (1, (0, r1))]) (stN := [(1, 0), (1, 0), (0, 3), (4, 8)]) (hsN := jpG_61) rfl rfl rfl ?_
      refine jT_mm4 (x := 0) (y := 0) (z := 0) (by rfl) (by rfl) (by rfl) (by rfl) (jwl_idd (by omega) (by omega)) (jwl_idd (by omega) (by omega)) (by rw [decide_eq_false (show ¬ ((0 : Int) < 0) by omega)]; rfl) ?_
      refine jT_adv 1 (pcN := 87) (LN := [(5, (0, 3)), (4, (4, 17)), (3, (0, 6)), (2, (0, u)), (0, (4, 0)), (1, (0, r1))]) (stN := []) (hsN := jpG_61) (c1 := 0) (s1 := 0) (c2 := b1) (s2 := b2) (by exact rfl) ?_ (by omega) (by omega)
      refine jT_xiinc (x := 3) (z := 4) (LN := [(5, (0, 4)), (4, (4, 17)), (3, (0, 6)), (2, (0, u)), (0, (4, 0)), (1, (0, r1))]) (pcN := 90) jIG_165_87 rfl rfl (by decide) rfl rfl ?_
      refine jT_xgoto (pcN := 40) jIG_165_90 rfl ?_
      refine jT_xiload (v := (0, 4)) (pcN := 42) jIG_165_40 rfl rfl rfl ?_
      refine jT_xbipush (k := 6) (pcN := 44) jIG_165_42 (by decide) rfl ?_
      refine jT_xicF (t := 93) (pcN := 47) jIG_165_44 rfl (by decide +kernel) rfl rfl ?_
      refine jT_xaload_n (v := (4, 0)) (pcN := 48) jIG_165_47 rfl rfl rfl ?_
      refine jT_xgetf (a := 0) (t := 1) (ci := 13) (fi := 7) (c := jzG_7) (v := (4, 8)) (pcN := 51) jIG_165_48 rfl rfl rfl rfl rfl rfl rfl ?_
      refine jT_xiload (v := (0, 4)) (pcN := 53) jIG_165_51 rfl rfl rfl ?_
      refine jT_xiload_n (v := (0, u)) (pcN := 54) jIG_165_53 rfl rfl rfl ?_
      refine jT_ifT (a := u) (t := 68) (by rfl) (by rfl) (by rfl) (jw_idd (by omega) (by omega)) (by simp only [jcP] <;> omega) ?_
      refine jT_xaload_n (v := (4, 0)) (pcN := 69) jIG_165_68 rfl rfl rfl ?_
      refine jT_xgetf (a := 0) (t := 1) (ci := 13) (fi := 7) (c := jzG_7) (v := (4, 8)) (pcN := 72) jIG_165_69 rfl rfl rfl rfl rfl rfl rfl ?_
      refine jT_xiload (v := (0, 4)) (pcN := 74) jIG_165_72 rfl rfl rfl ?_
      refine jT_lald (x := 0) (a := 8) (j := 4) (fs := []) (X := [0, 0, 0, 0, 0, 0]) jIG_165_74 rfl rfl rfl rfl ?_
      refine jT_eq (LN := [(5, (0, 4)), (4, (4, 17)), (3, (0, 6)), (2, (0, u)), (0, (4, 0)), (1, (0, r1))]) (stN := [(1, 0), (0, 4), (4, 8)]) (hsN := jpG_61) rfl rfl rfl ?_
      refine jT_xaload (v := (4, 17)) (pcN := 77) jIG_165_75 rfl rfl rfl ?_
      refine jT_xgetf (a := 17) (t := 2) (ci := 4) (fi := 0) (c := (4, [(4, 18), (1, 1)], [])) (v := (4, 18)) (pcN := 80) jIG_165_77 rfl rfl rfl rfl rfl rfl rfl ?_
      refine jT_xiload (v := (0, 4)) (pcN := 82) jIG_165_80 rfl rfl rfl ?_
      refine jT_lald (x := 0) (a := 18) (j := 4) (fs := []) (X := [0, 0, 0, 0, 0, 0]) jIG_165_82 rfl rfl rfl rfl ?_
      refine jT_eq (LN := [(5, (0, 4)), (4, (4, 17)), (3, (0, 6)), (2, (0, u)), (0, (4, 0)), (1, (0, r1))]) (stN := [(1, 0), (1, 0), (0, 4), (4, 8)]) (hsN := jpG_61) rfl rfl rfl ?_
      refine jT_mm4 (x := 0) (y := 0) (z := 0) (by rfl) (by rfl) (by rfl) (by rfl) (jwl_idd (by omega) (by omega)) (jwl_idd (by omega) (by omega)) (by rw [decide_eq_false (show ¬ ((0 : Int) < 0) by omega)]; rfl) ?_
      refine jT_adv 1 (pcN := 87) (LN := [(5, (0, 4)), (4, (4, 17)), (3, (0, 6)), (2, (0, u)), (0, (4, 0)), (1, (0, r1))]) (stN := []) (hsN := jpG_61) (c1 := 0) (s1 := 0) (c2 := b1) (s2 := b2) (by exact rfl) ?_ (by omega) (by omega)
      refine jT_xiinc (x := 4) (z := 5) (LN := [(5, (0, 5)), (4, (4, 17)), (3, (0, 6)), (2, (0, u)), (0, (4, 0)), (1, (0, r1))]) (pcN := 90) jIG_165_87 rfl rfl (by decide) rfl rfl ?_
      refine jT_xgoto (pcN := 40) jIG_165_90 rfl ?_
      refine jT_xiload (v := (0, 5)) (pcN := 42) jIG_165_40 rfl rfl rfl ?_
      refine jT_xbipush (k := 6) (pcN := 44) jIG_165_42 (by decide) rfl ?_
      refine jT_xicF (t := 93) (pcN := 47) jIG_165_44 rfl (by decide +kernel) rfl rfl ?_
      refine jT_xaload_n (v := (4, 0)) (pcN := 48) jIG_165_47 rfl rfl rfl ?_
      refine jT_xgetf (a := 0) (t := 1) (ci := 13) (fi := 7) (c := jzG_7) (v := (4, 8)) (pcN := 51) jIG_165_48 rfl rfl rfl rfl rfl rfl rfl ?_
      refine jT_xiload (v := (0, 5)) (pcN := 53) jIG_165_51 rfl rfl rfl ?_
      refine jT_xiload_n (v := (0, u)) (pcN := 54) jIG_165_53 rfl rfl rfl ?_
      refine jT_ifT (a := u) (t := 68) (by rfl) (by rfl) (by rfl) (jw_idd (by omega) (by omega)) (by simp only [jcP] <;> omega) ?_
      refine jT_xaload_n (v := (4, 0)) (pcN := 69) jIG_165_68 rfl rfl rfl ?_
      refine jT_xgetf (a := 0) (t := 1) (ci := 13) (fi := 7) (c := jzG_7) (v := (4, 8)) (pcN := 72) jIG_165_69 rfl rfl rfl rfl rfl rfl rfl ?_
      refine jT_xiload (v := (0, 5)) (pcN := 74) jIG_165_72 rfl rfl rfl ?_
      refine jT_lald (x := 0) (a := 8) (j := 5) (fs := []) (X := [0, 0, 0, 0, 0, 0]) jIG_165_74 rfl rfl rfl rfl ?_
      refine jT_eq (LN := [(5, (0, 5)), (4, (4, 17)), (3, (0, 6)), (2, (0, u)), (0, (4, 0)), (1, (0, r1))]) (stN := [(1, 0), (0, 5), (4, 8)]) (hsN := jpG_61) rfl rfl rfl ?_
      refine jT_xaload (v := (4, 17)) (pcN := 77) jIG_165_75 rfl rfl rfl ?_
      refine jT_xgetf (a := 17) (t := 2) (ci := 4) (fi := 0) (c := (4, [(4, 18), (1, 1)], [])) (v := (4, 18)) (pcN := 80) jIG_165_77 rfl rfl rfl rfl rfl rfl rfl ?_
      refine jT_xiload (v := (0, 5)) (pcN := 82) jIG_165_80 rfl rfl rfl ?_
      refine jT_lald (x := 0) (a := 18) (j := 5) (fs := []) (X := [0, 0, 0, 0, 0, 0]) jIG_165_82 rfl rfl rfl rfl ?_
      refine jT_eq (LN := [(5, (0, 5)), (4, (4, 17)), (3, (0, 6)), (2, (0, u)), (0, (4, 0)), (1, (0, r1))]) (stN := [(1, 0), (1, 0), (0, 5), (4, 8)]) (hsN := jpG_61) rfl rfl rfl ?_
      refine jT_mm4 (x := 0) (y := 0) (z := 0) (by rfl) (by rfl) (by rfl) (by rfl) (jwl_idd (by omega) (by omega)) (jwl_idd (by omega) (by omega)) (by rw [decide_eq_false (show ¬ ((0 : Int) < 0) by omega)]; rfl) ?_
      refine jT_adv 1 (pcN := 87) (LN := [(5, (0, 5)), (4, (4, 17)), (3, (0, 6)), (2, (0, u)), (0, (4, 0)), (1, (0, r1))]) (stN := []) (hsN := jpG_61) (c1 := 0) (s1 := 0) (c2 := b1) (s2 := b2) (by exact rfl) ?_ (by omega) (by omega)
      refine jT_xiinc (x := 5) (z := 6) (LN := [(5, (0, 6)), (4, (4, 17)), (3, (0, 6)), (2, (0, u)), (0, (4, 0)), (1, (0, r1))]) (pcN := 90) jIG_165_87 rfl rfl (by decide) rfl rfl ?_
      refine jT_xgoto (pcN := 40) jIG_165_90 rfl ?_
      refine jT_xiload (v := (0, 6)) (pcN := 42) jIG_165_40 rfl rfl rfl ?_
      refine jT_xbipush (k := 6) (pcN := 44) jIG_165_42 (by decide) rfl ?_
      refine jT_xicT (pcN := 93) jIG_165_44 rfl (by decide +kernel) rfl ?_
      refine jT_xiconst (k := 0) (pcN := 94) jIG_165_93 rfl ?_
      refine jT_xistore_n (v := (0, 0)) (LN := [(2, (0, 0)), (5, (0, 6)), (4, (4, 17)), (3, (0, 6)), (0, (4, 0)), (1, (0, r1))]) (pcN := 95) jIG_165_94 rfl rfl rfl rfl ?_
      refine jT_xiinc (x := 6) (z := 7) (LN := [(3, (0, 7)), (2, (0, 0)), (5, (0, 6)), (4, (4, 17)), (0, (4, 0)), (1, (0, r1))]) (pcN := 98) jIG_165_95 rfl rfl (by decide) rfl rfl ?_
      refine jT_xgoto (pcN := 4) jIG_165_98 rfl ?_
      refine jT_loc (LN := [(3, (0, 7)), (2, (0, 0)), (0, (4, 0)), (1, (0, r1))]) (by show List.Nodup [3, 2, 0, 1]; decide) (by intro q hq; simp only [List.mem_cons, List.not_mem_nil, or_false] at hq; rcases hq with rfl | rfl | rfl | rfl <;> rfl) ?_
      exact jGl_ch_28_7 hd (u := 0) (by omega) h_r1 h
  · refine jT_xiload_n (v := (0, 6)) (pcN := 5) jIG_165_4 rfl rfl rfl ?_
    refine jT_xbipush (k := 8) (pcN := 7) jIG_165_5 (by decide) rfl ?_
    refine jT_xicF (t := 101) (pcN := 10) jIG_165_7 rfl (by decide +kernel) rfl rfl ?_
    refine jT_xiload_n (v := (0, r1)) (pcN := 11) jIG_165_10 rfl rfl rfl ?_
    refine jT_xiload_n (v := (0, 6)) (pcN := 12) jIG_165_11 rfl rfl rfl ?_
    refine jT_ishr (x := r1) (y := 6) (z := (Int32.ofInt r1 >>> (Int32.ofInt 6 &&& 31)).toInt) (by rfl) (by rfl) rfl ?_
    have hb_q1 : (-2147483648) ≤ (Int32.ofInt r1 >>> (Int32.ofInt 6 &&& 31)).toInt ∧ (Int32.ofInt r1 >>> (Int32.ofInt 6 &&& 31)).toInt ≤ 2147483647 := ⟨Int32.le_toInt _, Int.le_of_lt_add_one (Int32.toInt_lt _)⟩
    generalize hq_q1 : (Int32.ofInt r1 >>> (Int32.ofInt 6 &&& 31)).toInt = q1 at hb_q1 g_0 ⊢
    refine jT_xiconst (k := 1) (pcN := 14) jIG_165_13 rfl ?_
    refine jT_iand (x := q1) (y := 1) (z := q1 % 2) (by rfl) (by rfl) (jiand_1 _) ?_
    have hb_q2 : 0 ≤ q1 % 2 ∧ q1 % 2 ≤ 1 := ⟨by omega, by omega⟩
    generalize hq_q2 : q1 % 2 = q2 at hb_q2 g_0 ⊢
    refine jT_xiconst (k := 1) (pcN := 16) jIG_165_15 rfl ?_
    refine jT_icT (a := q2) (b := 1) (t := 95) (by rfl) (by rfl) (by rfl) (jw_idd (by omega) (by omega)) (jw_idd (by omega) (by omega)) (by simp only [jcP] <;> omega) ?_
    refine jT_xiinc (x := 6) (z := 7) (LN := [(3, (0, 7)), (2, (0, u)), (0, (4, 0)), (1, (0, r1))]) (pcN := 98) jIG_165_95 rfl rfl (by decide) rfl rfl ?_
    refine jT_xgoto (pcN := 4) jIG_165_98 rfl ?_
    refine jT_loc (LN := [(3, (0, 7)), (2, (0, u)), (0, (4, 0)), (1, (0, r1))]) (by show List.Nodup [3, 2, 0, 1]; decide) (by intro q hq; simp only [List.mem_cons, List.not_mem_nil, or_false] at hq; rcases hq with rfl | rfl | rfl | rfl <;> rfl) ?_
    exact jGl_ch_28_7 hd (u := u) (by omega) h_r1 h
theorem jGl_ch_28_5 {xs : List Int} {d b1 b2 : Nat} {Q : Nat → JV → List JC → Prop} (hd : 2 < d) {r1 : Int} {u : Int} (h_u : 0 ≤ u ∧ u ≤ 1) (h_r1 : 1 ≤ r1 ∧ r1 ≤ 255) (h : jT xs d 165 19 101 [(0, (4, 0))] [] [jzG_7, jgh, jgh, jgh, jgh, jgh, jgh, jgh, (101, [], [0, 0, 0, 0, 0, 0]), jgh, jgh, jzG_59, jzG_60, jgh, jgh, jgh, jgh, (4, [(4, 18), (1, 1)], []), (101, [], [0, 0, 0, 0, 0, 0])] b1 b2 Q) : jT xs d 165 19 4 [(3, (0, 5)), (2, (0, u)), (0, (4, 0)), (1, (0, r1))] [] [jzG_7, jgh, jgh, jgh, jgh, jgh, jgh, jgh, (101, [], [0, 0, 0, 0, 0, 0]), jgh, jgh, jzG_59, jzG_60, jgh, jgh, jgh, jgh, (4, [(4, 18), (1, 1)], []), (101, [], [0, 0, 0, 0, 0, 0])] b1 b2 Q := by
  rcases (show (0 ≤ (((Int32.ofInt r1 >>> (Int32.ofInt 5 &&& 31)).toInt) % 2) - 1) ∨ ((((Int32.ofInt r1 >>> (Int32.ofInt 5 &&& 31)).toInt) % 2) - 1 < 0) by omega) with g_0 | g_0
  · rcases (show (0 ≤ u - 1) ∨ (u - 1 < 0) by omega) with g_1 | g_1
    · refine jT_xiload_n (v := (0, 5)) (pcN := 5) jIG_165_4 rfl rfl rfl ?_
      refine jT_xbipush (k := 8) (pcN := 7) jIG_165_5 (by decide) rfl ?_
      refine jT_xicF (t := 101) (pcN := 10) jIG_165_7 rfl (by decide +kernel) rfl rfl ?_
      refine jT_xiload_n (v := (0, r1)) (pcN := 11) jIG_165_10 rfl rfl rfl ?_
      refine jT_xiload_n (v := (0, 5)) (pcN := 12) jIG_165_11 rfl rfl rfl ?_
      refine jT_ishr (x := r1) (y := 5) (z := (Int32.ofInt r1 >>> (Int32.ofInt 5 &&& 31)).toInt) (by rfl) (by rfl) rfl ?_
      have hb_q1 : (-2147483648) ≤ (Int32.ofInt r1 >>> (Int32.ofInt 5 &&& 31)).toInt ∧ (Int32.ofInt r1 >>> (Int32.ofInt 5 &&& 31)).toInt ≤ 2147483647 := ⟨Int32.le_toInt _, Int.le_of_lt_add_one (Int32.toInt_lt _)⟩
      generalize hq_q1 : (Int32.ofInt r1 >>> (Int32.ofInt 5 &&& 31)).toInt = q1 at hb_q1 g_0 ⊢
      refine jT_xiconst (k := 1) (pcN := 14) jIG_165_13 rfl ?_
      refine jT_iand (x := q1) (y := 1) (z := q1 % 2) (by rfl) (by rfl) (jiand_1 _) ?_
      have hb_q2 : 0 ≤ q1 % 2 ∧ q1 % 2 ≤ 1 := ⟨by omega, by omega⟩
      generalize hq_q2 : q1 % 2 = q2 at hb_q2 g_0 ⊢
      refine jT_xiconst (k := 1) (pcN := 16) jIG_165_15 rfl ?_
      refine jT_icF (a := q2) (b := 1) (t := 95) (by rfl) (by rfl) (by rfl) (jw_idd (by omega) (by omega)) (jw_idd (by omega) (by omega)) (by simp only [jcP] <;> omega) ?_
      refine jT_xaload_n (v := (4, 0)) (pcN := 20) jIG_165_19 rfl rfl rfl ?_
      refine jT_xgetf (a := 0) (t := 1) (ci := 13) (fi := 11) (c := jzG_7) (v := (4, 11)) (pcN := 23) jIG_165_20 rfl rfl rfl rfl rfl rfl rfl ?_
      refine jT_xiload_n (v := (0, 5)) (pcN := 24) jIG_165_23 rfl rfl rfl ?_
      refine jT_fR [11, 12, 13, 14, 15, 16, 17] 19 (y := 57) (pcN := 27) (dC := 0) (bc1 := 0) (bc2 := 0) (c1 := b1) (c2 := b2) (as := [(4, 11), (0, 5)]) (asC := [(4, 0), (0, 5)]) (LN := [(3, (0, 5)), (2, (0, u)), (0, (4, 0)), (1, (0, r1))]) (stN := []) (hsC := jpG_54) (v := (4, 6)) (st2 := [(4, 17)]) (jG_57_25 (d := 0)) (by rfl) (by rfl) (by decide +kernel) (by rfl) (by rfl) (by omega) (by omega) (by omega) (by omega) rfl ?_
      refine jT_xastore (v := (4, 17)) (LN := [(4, (4, 17)), (3, (0, 5)), (2, (0, u)), (0, (4, 0)), (1, (0, r1))]) (pcN := 29) jIG_165_27 rfl rfl rfl rfl ?_
      refine jT_xaload_n (v := (4, 0)) (pcN := 30) jIG_165_29 rfl rfl rfl ?_
      refine jT_xaload (v := (4, 17)) (pcN := 32) jIG_165_30 rfl rfl rfl ?_
      refine jT_xbipush (k := 100) (pcN := 34) jIG_165_32 (by decide) rfl ?_
      refine jT_fR [0, 17, 18] 19 (y := 142) (pcN := 37) (dC := 1) (bc1 := 0) (bc2 := 0) (c1 := b1) (c2 := b2) (as := [(4, 0), (4, 17), (0, 100)]) (asC := [(4, 0), (4, 1), (0, 100)]) (LN := [(4, (4, 17)), (3, (0, 5)), (2, (0, u)), (0, (4, 0)), (1, (0, r1))]) (stN := []) (hsC := [jgh, (4, [(4, 2), (1, 1)], []), (101, [], [0, 0, 0, 0, 0, 0])]) (v := (9, 0)) (st2 := []) (jG_142_20 (d := 0)) (by rfl) (by rfl) (by decide +kernel) (by rfl) (by rfl) (by omega) (by omega) (by omega) (by omega) rfl ?_
      refine jT_xiconst (k := 0) (pcN := 38) jIG_165_37 rfl ?_
      refine jT_xistore (v := (0, 0)) (LN := [(5, (0, 0)), (4, (4, 17)), (3, (0, 5)), (2, (0, u)), (0, (4, 0)), (1, (0, r1))]) (pcN := 40) jIG_165_38 rfl rfl rfl rfl ?_
      refine jT_xiload (v := (0, 0)) (pcN := 42) jIG_165_40 rfl rfl rfl ?_
      refine jT_xbipush (k := 6) (pcN := 44) jIG_165_42 (by decide) rfl ?_
      refine jT_xicF (t := 93) (pcN := 47) jIG_165_44 rfl (by decide +kernel) rfl rfl ?_
      refine jT_xaload_n (v := (4, 0)) (pcN := 48) jIG_165_47 rfl rfl rfl ?_
      refine jT_xgetf (a := 0) (t := 1) (ci := 13) (fi := 7) (c := jzG_7) (v := (4, 8)) (pcN := 51) jIG_165_48 rfl rfl rfl rfl rfl rfl rfl ?_
      refine jT_xiload (v := (0, 0)) (pcN := 53) jIG_165_51 rfl rfl rfl ?_
      refine jT_xiload_n (v := (0, u)) (pcN := 54) jIG_165_53 rfl rfl rfl ?_
      refine jT_ifF (a := u) (t := 68) (by rfl) (by rfl) (by rfl) (jw_idd (by omega) (by omega)) (by simp only [jcP] <;> omega) ?_
      refine jT_xaload (v := (4, 17)) (pcN := 59) jIG_165_57 rfl rfl rfl ?_
      refine jT_xgetf (a := 17) (t := 2) (ci := 4) (fi := 0) (c := (4, [(4, 18), (1, 1)], [])) (v := (4, 18)) (pcN := 62) jIG_165_59 rfl rfl rfl rfl rfl rfl rfl ?_
      refine jT_xiload (v := (0, 0)) (pcN := 64) jIG_165_62 rfl rfl rfl ?_
      refine jT_lald (x := 0) (a := 18) (j := 0) (fs := []) (X := [0, 0, 0, 0, 0, 0]) jIG_165_64 rfl rfl rfl rfl ?_
      refine jT_eq (LN := [(5, (0, 0)), (4, (4, 17)), (3, (0, 5)), (2, (0, u)), (0, (4, 0)), (1, (0, r1))]) (stN := [(1, 0), (0, 0), (4, 8)]) (hsN := jpG_61) rfl rfl rfl ?_
      refine jT_xgoto (pcN := 86) jIG_165_65 rfl ?_
      refine jT_adv 1 (pcN := 87) (LN := [(5, (0, 0)), (4, (4, 17)), (3, (0, 5)), (2, (0, u)), (0, (4, 0)), (1, (0, r1))]) (stN := []) (hsN := jpG_61) (c1 := 0) (s1 := 0) (c2 := b1) (s2 := b2) (by exact rfl) ?_ (by omega) (by omega)
      refine jT_xiinc (x := 0) (z := 1) (LN := [(5, (0, 1)), (4, (4, 17)), (3, (0, 5)), (2, (0, u)), (0, (4, 0)), (1, (0, r1))]) (pcN := 90) jIG_165_87 rfl rfl (by decide) rfl rfl ?_
      refine jT_xgoto (pcN := 40) jIG_165_90 rfl ?_
      refine jT_xiload (v := (0, 1)) (pcN := 42) jIG_165_40 rfl rfl rfl ?_
      refine jT_xbipush (k := 6) (pcN := 44) jIG_165_42 (by decide) rfl ?_
      refine jT_xicF (t := 93) (pcN := 47) jIG_165_44 rfl (by decide +kernel) rfl rfl ?_
      refine jT_xaload_n (v := (4, 0)) (pcN := 48) jIG_165_47 rfl rfl rfl ?_
      refine jT_xgetf (a := 0) (t := 1) (ci := 13) (fi := 7) (c := jzG_7) (v := (4, 8)) (pcN := 51) jIG_165_48 rfl rfl rfl rfl rfl rfl rfl ?_
      refine jT_xiload (v := (0, 1)) (pcN := 53) jIG_165_51 rfl rfl rfl ?_
      refine jT_xiload_n (v := (0, u)) (pcN := 54) jIG_165_53 rfl rfl rfl ?_
      refine jT_ifF (a := u) (t := 68) (by rfl) (by rfl) (by rfl) (jw_idd (by omega) (by omega)) (by simp only [jcP] <;> omega) ?_
      refine jT_xaload (v := (4, 17)) (pcN := 59) jIG_165_57 rfl rfl rfl ?_
      refine jT_xgetf (a := 17) (t := 2) (ci := 4) (fi := 0) (c := (4, [(4, 18), (1, 1)], [])) (v := (4, 18)) (pcN := 62) jIG_165_59 rfl rfl rfl rfl rfl rfl rfl ?_
      refine jT_xiload (v := (0, 1)) (pcN := 64) jIG_165_62 rfl rfl rfl ?_
      refine jT_lald (x := 0) (a := 18) (j := 1) (fs := []) (X := [0, 0, 0, 0, 0, 0]) jIG_165_64 rfl rfl rfl rfl ?_
      refine jT_eq (LN := [(5, (0, 1)), (4, (4, 17)), (3, (0, 5)), (2, (0, u)), (0, (4, 0)), (1, (0, r1))]) (stN := [(1, 0), (0, 1), (4, 8)]) (hsN := jpG_61) rfl rfl rfl ?_
      refine jT_xgoto (pcN := 86) jIG_165_65 rfl ?_
      refine jT_adv 1 (pcN := 87) (LN := [(5, (0, 1)), (4, (4, 17)), (3, (0, 5)), (2, (0, u)), (0, (4, 0)), (1, (0, r1))]) (stN := []) (hsN := jpG_61) (c1 := 0) (s1 := 0) (c2 := b1) (s2 := b2) (by exact rfl) ?_ (by omega) (by omega)
      refine jT_xiinc (x := 1) (z := 2) (LN := [(5, (0, 2)), (4, (4, 17)), (3, (0, 5)), (2, (0, u)), (0, (4, 0)), (1, (0, r1))]) (pcN := 90) jIG_165_87 rfl rfl (by decide) rfl rfl ?_
      refine jT_xgoto (pcN := 40) jIG_165_90 rfl ?_
      refine jT_xiload (v := (0, 2)) (pcN := 42) jIG_165_40 rfl rfl rfl ?_
      refine jT_xbipush (k := 6) (pcN := 44) jIG_165_42 (by decide) rfl ?_
      refine jT_xicF (t := 93) (pcN := 47) jIG_165_44 rfl (by decide +kernel) rfl rfl ?_
      refine jT_xaload_n (v := (4, 0)) (pcN := 48) jIG_165_47 rfl rfl rfl ?_
      refine jT_xgetf (a := 0) (t := 1) (ci := 13) (fi := 7) (c := jzG_7) (v := (4, 8)) (pcN := 51) jIG_165_48 rfl rfl rfl rfl rfl rfl rfl ?_
      refine jT_xiload (v := (0, 2)) (pcN := 53) jIG_165_51 rfl rfl rfl ?_
      refine jT_xiload_n (v := (0, u)) (pcN := 54) jIG_165_53 rfl rfl rfl ?_
      refine jT_ifF (a := u) (t := 68) (by rfl) (by rfl) (by rfl) (jw_idd (by omega) (by omega)) (by simp only [jcP] <;> omega) ?_
      refine jT_xaload (v := (4, 17)) (pcN := 59) jIG_165_57 rfl rfl rfl ?_
      refine jT_xgetf (a := 17) (t := 2) (ci := 4) (fi := 0) (c := (4, [(4, 18), (1, 1)], [])) (v := (4, 18)) (pcN := 62) jIG_165_59 rfl rfl rfl rfl rfl rfl rfl ?_
      refine jT_xiload (v := (0, 2)) (pcN := 64) jIG_165_62 rfl rfl rfl ?_
      refine jT_lald (x := 0) (a := 18) (j := 2) (fs := []) (X := [0, 0, 0, 0, 0, 0]) jIG_165_64 rfl rfl rfl rfl ?_
      refine jT_eq (LN := [(5, (0, 2)), (4, (4, 17)), (3, (0, 5)), (2, (0, u)), (0, (4, 0)), (1, (0, r1))]) (stN := [(1, 0), (0, 2), (4, 8)]) (hsN := jpG_61) rfl rfl rfl ?_
      refine jT_xgoto (pcN := 86) jIG_165_65 rfl ?_
      refine jT_adv 1 (pcN := 87) (LN := [(5, (0, 2)), (4, (4, 17)), (3, (0, 5)), (2, (0, u)), (0, (4, 0)), (1, (0, r1))]) (stN := []) (hsN := jpG_61) (c1 := 0) (s1 := 0) (c2 := b1) (s2 := b2) (by exact rfl) ?_ (by omega) (by omega)
      refine jT_xiinc (x := 2) (z := 3) (LN := [(5, (0, 3)), (4, (4, 17)), (3, (0, 5)), (2, (0, u)), (0, (4, 0)), (1, (0, r1))]) (pcN := 90) jIG_165_87 rfl rfl (by decide) rfl rfl ?_
      refine jT_xgoto (pcN := 40) jIG_165_90 rfl ?_
      refine jT_xiload (v := (0, 3)) (pcN := 42) jIG_165_40 rfl rfl rfl ?_
      refine jT_xbipush (k := 6) (pcN := 44) jIG_165_42 (by decide) rfl ?_
      refine jT_xicF (t := 93) (pcN := 47) jIG_165_44 rfl (by decide +kernel) rfl rfl ?_
      refine jT_xaload_n (v := (4, 0)) (pcN := 48) jIG_165_47 rfl rfl rfl ?_
      refine jT_xgetf (a := 0) (t := 1) (ci := 13) (fi := 7) (c := jzG_7) (v := (4, 8)) (pcN := 51) jIG_165_48 rfl rfl rfl rfl rfl rfl rfl ?_
      refine jT_xiload (v := (0, 3)) (pcN := 53) jIG_165_51 rfl rfl rfl ?_
      refine jT_xiload_n (v := (0, u)) (pcN := 54) jIG_165_53 rfl rfl rfl ?_
      refine jT_ifF (a := u) (t := 68) (by rfl) (by rfl) (by rfl) (jw_idd (by omega) (by omega)) (by simp only [jcP] <;> omega) ?_
      refine jT_xaload (v := (4, 17)) (pcN := 59) jIG_165_57 rfl rfl rfl ?_
      refine jT_xgetf (a := 17) (t := 2) (ci := 4) (fi := 0) (c := (4, [(4, 18), (1, 1)], [])) (v := (4, 18)) (pcN := 62) jIG_165_59 rfl rfl rfl rfl rfl rfl rfl ?_
      refine jT_xiload (v := (0, 3)) (pcN := 64) jIG_165_62 rfl rfl rfl ?_
      refine jT_lald (x := 0) (a := 18) (j := 3) (fs := []) (X := [0, 0, 0, 0, 0, 0]) jIG_165_64 rfl rfl rfl rfl ?_
      refine jT_eq (LN := [(5, (0, 3)), (4, (4, 17)), (3, (0, 5)), (2, (0, u)), (0, (4, 0)), (1, (0, r1))]) (stN := [(1, 0), (0, 3), (4, 8)]) (hsN := jpG_61) rfl rfl rfl ?_
      refine jT_xgoto (pcN := 86) jIG_165_65 rfl ?_
      refine jT_adv 1 (pcN := 87) (LN := [(5, (0, 3)), (4, (4, 17)), (3, (0, 5)), (2, (0, u)), (0, (4, 0)), (1, (0, r1))]) (stN := []) (hsN := jpG_61) (c1 := 0) (s1 := 0) (c2 := b1) (s2 := b2) (by exact rfl) ?_ (by omega) (by omega)
      refine jT_xiinc (x := 3) (z := 4) (LN := [(5, (0, 4)), (4, (4, 17)), (3, (0, 5)), (2, (0, u)), (0, (4, 0)), (1, (0, r1))]) (pcN := 90) jIG_165_87 rfl rfl (by decide) rfl rfl ?_
      refine jT_xgoto (pcN := 40) jIG_165_90 rfl ?_
      refine jT_xiload (v := (0, 4)) (pcN := 42) jIG_165_40 rfl rfl rfl ?_
      refine jT_xbipush (k := 6) (pcN := 44) jIG_165_42 (by decide) rfl ?_
      refine jT_xicF (t := 93) (pcN := 47) jIG_165_44 rfl (by decide +kernel) rfl rfl ?_
      refine jT_xaload_n (v := (4, 0)) (pcN := 48) jIG_165_47 rfl rfl rfl ?_
      refine jT_xgetf (a := 0) (t := 1) (ci := 13) (fi := 7) (c := jzG_7) (v := (4, 8)) (pcN := 51) jIG_165_48 rfl rfl rfl rfl rfl rfl rfl ?_
      refine jT_xiload (v := (0, 4)) (pcN := 53) jIG_165_51 rfl rfl rfl ?_
      refine jT_xiload_n (v := (0, u)) (pcN := 54) jIG_165_53 rfl rfl rfl ?_
      refine jT_ifF (a := u) (t := 68) (by rfl) (by rfl) (by rfl) (jw_idd (by omega) (by omega)) (by simp only [jcP] <;> omega) ?_
      refine jT_xaload (v := (4, 17)) (pcN := 59) jIG_165_57 rfl rfl rfl ?_
      refine jT_xgetf (a := 17) (t := 2) (ci := 4) (fi := 0) (c := (4, [(4, 18), (1, 1)], [])) (v := (4, 18)) (pcN := 62) jIG_165_59 rfl rfl rfl rfl rfl rfl rfl ?_
      refine jT_xiload (v := (0, 4)) (pcN := 64) jIG_165_62 rfl rfl rfl ?_
      refine jT_lald (x := 0) (a := 18) (j := 4) (fs := []) (X := [0, 0, 0, 0, 0, 0]) jIG_165_64 rfl rfl rfl rfl ?_
      refine jT_eq (LN := [(5, (0, 4)), (4, (4, 17)), (3, (0, 5)), (2, (0, u)), (0, (4, 0)), (1, (0, r1))]) (stN := [(1, 0), (0, 4), (4, 8)]) (hsN := jpG_61) rfl rfl rfl ?_
      refine jT_xgoto (pcN := 86) jIG_165_65 rfl ?_
      refine jT_adv 1 (pcN := 87) (LN := [(5, (0, 4)), (4, (4, 17)), (3, (0, 5)), (2, (0, u)), (0, (4, 0)), (1, (0, r1))]) (stN := []) (hsN := jpG_61) (c1 := 0) (s1 := 0) (c2 := b1) (s2 := b2) (by exact rfl) ?_ (by omega) (by omega)
      refine jT_xiinc (x := 4) (z := 5) (LN := [(5, (0, 5)), (4, (4, 17)), (3, (0, 5)), (2, (0, u)), (0, (4, 0)), (1, (0, r1))]) (pcN := 90) jIG_165_87 rfl rfl (by decide) rfl rfl ?_
      refine jT_xgoto (pcN := 40) jIG_165_90 rfl ?_
      refine jT_xiload (v := (0, 5)) (pcN := 42) jIG_165_40 rfl rfl rfl ?_
      refine jT_xbipush (k := 6) (pcN := 44) jIG_165_42 (by decide) rfl ?_
      refine jT_xicF (t := 93) (pcN := 47) jIG_165_44 rfl (by decide +kernel) rfl rfl ?_
      refine jT_xaload_n (v := (4, 0)) (pcN := 48) jIG_165_47 rfl rfl rfl ?_
      refine jT_xgetf (a := 0) (t := 1) (ci := 13) (fi := 7) (c := jzG_7) (v := (4, 8)) (pcN := 51) jIG_165_48 rfl rfl rfl rfl rfl rfl rfl ?_
      refine jT_xiload (v := (0, 5)) (pcN := 53) jIG_165_51 rfl rfl rfl ?_
      refine jT_xiload_n (v := (0, u)) (pcN := 54) jIG_165_53 rfl rfl rfl ?_
      refine jT_ifF (a := u) (t := 68) (by rfl) (by rfl) (by rfl) (jw_idd (by omega) (by omega)) (by simp only [jcP] <;> omega) ?_
      refine jT_xaload (v := (4, 17)) (pcN := 59) jIG_165_57 rfl rfl rfl ?_
      refine jT_xgetf (a := 17) (t := 2) (ci := 4) (fi := 0) (c := (4, [(4, 18), (1, 1)], [])) (v := (4, 18)) (pcN := 62) jIG_165_59 rfl rfl rfl rfl rfl rfl rfl ?_
      refine jT_xiload (v := (0, 5)) (pcN := 64) jIG_165_62 rfl rfl rfl ?_
      refine jT_lald (x := 0) (a := 18) (j := 5) (fs := []) (X := [0, 0, 0, 0, 0, 0]) jIG_165_64 rfl rfl rfl rfl ?_
      refine jT_eq (LN := [(5, (0, 5)), (4, (4, 17)), (3, (0, 5)), (2, (0, u)), (0, (4, 0)), (1, (0, r1))]) (stN := [(1, 0), (0, 5), (4, 8)]) (hsN := jpG_61) rfl rfl rfl ?_
      refine jT_xgoto (pcN := 86) jIG_165_65 rfl ?_
      refine jT_adv 1 (pcN := 87) (LN := [(5, (0, 5)), (4, (4, 17)), (3, (0, 5)), (2, (0, u)), (0, (4, 0)), (1, (0, r1))]) (stN := []) (hsN := jpG_61) (c1 := 0) (s1 := 0) (c2 := b1) (s2 := b2) (by exact rfl) ?_ (by omega) (by omega)
      refine jT_xiinc (x := 5) (z := 6) (LN := [(5, (0, 6)), (4, (4, 17)), (3, (0, 5)), (2, (0, u)), (0, (4, 0)), (1, (0, r1))]) (pcN := 90) jIG_165_87 rfl rfl (by decide) rfl rfl ?_
      refine jT_xgoto (pcN := 40) jIG_165_90 rfl ?_
      refine jT_xiload (v := (0, 6)) (pcN := 42) jIG_165_40 rfl rfl rfl ?_
      refine jT_xbipush (k := 6) (pcN := 44) jIG_165_42 (by decide) rfl ?_
      refine jT_xicT (pcN := 93) jIG_165_44 rfl (by decide +kernel) rfl ?_
      refine jT_xiconst (k := 0) (pcN := 94) jIG_165_93 rfl ?_
      refine jT_xistore_n (v := (0, 0)) (LN := [(2, (0, 0)), (5, (0, 6)), (4, (4, 17)), (3, (0, 5)), (0, (4, 0)), (1, (0, r1))]) (pcN := 95) jIG_165_94 rfl rfl rfl rfl ?_
      refine jT_xiinc (x := 5) (z := 6) (LN := [(3, (0, 6)), (2, (0, 0)), (5, (0, 6)), (4, (4, 17)), (0, (4, 0)), (1, (0, r1))]) (pcN := 98) jIG_165_95 rfl rfl (by decide) rfl rfl ?_
      refine jT_xgoto (pcN := 4) jIG_165_98 rfl ?_
      refine jT_loc (LN := [(3, (0, 6)), (2, (0, 0)), (0, (4, 0)), (1, (0, r1))]) (by show List.Nodup [3, 2, 0, 1]; decide) (by intro q hq; simp only [List.mem_cons, List.not_mem_nil, or_false] at hq; rcases hq with rfl | rfl | rfl | rfl <;> rfl) ?_
      exact jGl_ch_28_6 hd (u := 0) (by omega) h_r1 h
    · refine jT_xiload_n (v := (0, 5)) (pcN := 5) jIG_165_4 rfl rfl rfl ?_
      refine jT_xbipush (k := 8) (pcN := 7) jIG_165_5 (by decide) rfl ?_
      refine jT_xicF (t := 101) (pcN := 10) jIG_165_7 rfl (by decide +kernel) rfl rfl ?_
      refine jT_xiload_n (v := (0, r1)) (pcN := 11) jIG_165_10 rfl rfl rfl ?_
      refine jT_xiload_n (v := (0, 5)) (pcN := 12) jIG_165_11 rfl rfl rfl ?_
      refine jT_ishr (x := r1) (y := 5) (z := (Int32.ofInt r1 >>> (Int32.ofInt 5 &&& 31)).toInt) (by rfl) (by rfl) rfl ?_
      have hb_q1 : (-2147483648) ≤ (Int32.ofInt r1 >>> (Int32.ofInt 5 &&& 31)).toInt ∧ (Int32.ofInt r1 >>> (Int32.ofInt 5 &&& 31)).toInt ≤ 2147483647 := ⟨Int32.le_toInt _, Int.le_of_lt_add_one (Int32.toInt_lt _)⟩
      generalize hq_q1 : (Int32.ofInt r1 >>> (Int32.ofInt 5 &&& 31)).toInt = q1 at hb_q1 g_0 ⊢
      refine jT_xiconst (k := 1) (pcN := 14) jIG_165_13 rfl ?_
      refine jT_iand (x := q1) (y := 1) (z := q1 % 2) (by rfl) (by rfl) (jiand_1 _) ?_
      have hb_q2 : 0 ≤ q1 % 2 ∧ q1 % 2 ≤ 1 := ⟨by omega, by omega⟩
      generalize hq_q2 : q1 % 2 = q2 at hb_q2 g_0 ⊢
      refine jT_xiconst (k := 1) (pcN := 16) jIG_165_15 rfl ?_
      refine jT_icF (a := q2) (b := 1) (t := 95) (by rfl) (by rfl) (by rfl) (jw_idd (by omega) (by omega)) (jw_idd (by omega) (by omega)) (by simp only [jcP] <;> omega) ?_
      refine jT_xaload_n (v := (4, 0)) (pcN := 20) jIG_165_19 rfl rfl rfl ?_
      refine jT_xgetf (a := 0) (t := 1) (ci := 13) (fi := 11) (c := jzG_7) (v := (4, 11)) (pcN := 23) jIG_165_20 rfl rfl rfl rfl rfl rfl rfl ?_
      refine jT_xiload_n (v := (0, 5)) (pcN := 24) jIG_165_23 rfl rfl rfl ?_
      refine jT_fR [11, 12, 13, 14, 15, 16, 17] 19 (y := 57) (pcN := 27) (dC := 0) (bc1 := 0) (bc2 := 0) (c1 := b1) (c2 := b2) (as := [(4, 11), (0, 5)]) (asC := [(4, 0), (0, 5)]) (LN := [(3, (0, 5)), (2, (0, u)), (0, (4, 0)), (1, (0, r1))]) (stN := []) (hsC := jpG_54) (v := (4, 6)) (st2 := [(4, 17)]) (jG_57_25 (d := 0)) (by rfl) (by rfl) (by decide +kernel) (by rfl) (by rfl) (by omega) (by omega) (by omega) (by omega) rfl ?_
      refine jT_xastore (v := (4, 17)) (LN := [(4, (4, 17)), (3, (0, 5)), (2, (0, u)), (0, (4, 0)), (1, (0, r1))]) (pcN := 29) jIG_165_27 rfl rfl rfl rfl ?_
      refine jT_xaload_n (v := (4, 0)) (pcN := 30) jIG_165_29 rfl rfl rfl ?_
      refine jT_xaload (v := (4, 17)) (pcN := 32) jIG_165_30 rfl rfl rfl ?_
      refine jT_xbipush (k := 100) (pcN := 34) jIG_165_32 (by decide) rfl ?_
      refine jT_fR [0, 17, 18] 19 (y := 142) (pcN := 37) (dC := 1) (bc1 := 0) (bc2 := 0) (c1 := b1) (c2 := b2) (as := [(4, 0), (4, 17), (0, 100)]) (asC := [(4, 0), (4, 1), (0, 100)]) (LN := [(4, (4, 17)), (3, (0, 5)), (2, (0, u)), (0, (4, 0)), (1, (0, r1))]) (stN := []) (hsC := [jgh, (4, [(4, 2), (1, 1)], []), (101, [], [0, 0, 0, 0, 0, 0])]) (v := (9, 0)) (st2 := []) (jG_142_20 (d := 0)) (by rfl) (by rfl) (by decide +kernel) (by rfl) (by rfl) (by omega) (by omega) (by omega) (by omega) rfl ?_
      refine jT_xiconst (k := 0) (pcN := 38) jIG_165_37 rfl ?_
      refine jT_xistore (v := (0, 0)) (LN := [(5, (0, 0)), (4, (4, 17)), (3, (0, 5)), (2, (0, u)), (0, (4, 0)), (1, (0, r1))]) (pcN := 40) jIG_165_38 rfl rfl rfl rfl ?_
      refine jT_xiload (v := (0, 0)) (pcN := 42) jIG_165_40 rfl rfl rfl ?_
      refine jT_xbipush (k := 6) (pcN := 44) jIG_165_42 (by decide) rfl ?_
      refine jT_xicF (t := 93) (pcN := 47) jIG_165_44 rfl (by decide +kernel) rfl rfl ?_
      refine jT_xaload_n (v := (4, 0)) (pcN := 48) jIG_165_47 rfl rfl rfl ?_
      refine jT_xgetf (a := 0) (t := 1) (ci := 13) (fi := 7) (c := jzG_7) (v := (4, 8)) (pcN := 51) jIG_165_48 rfl rfl rfl rfl rfl rfl rfl ?_
      refine jT_xiload (v := (0, 0)) (pcN := 53) jIG_165_51 rfl rfl rfl ?_
      refine jT_xiload_n (v := (0, u)) (pcN := 54) jIG_165_53 rfl rfl rfl ?_
      refine jT_ifT (a := u) (t := 68) (by rfl) (by rfl) (by rfl) (jw_idd (by omega) (by omega)) (by simp only [jcP] <;> omega) ?_
      refine jT_xaload_n (v := (4, 0)) (pcN := 69) jIG_165_68 rfl rfl rfl ?_
      refine jT_xgetf (a := 0) (t := 1) (ci := 13) (fi := 7) (c := jzG_7) (v := (4, 8)) (pcN := 72) jIG_165_69 rfl rfl rfl rfl rfl rfl rfl ?_
      refine jT_xiload (v := (0, 0)) (pcN := 74) jIG_165_72 rfl rfl rfl ?_
      refine jT_lald (x := 0) (a := 8) (j := 0) (fs := []) (X := [0, 0, 0, 0, 0, 0]) jIG_165_74 rfl rfl rfl rfl ?_
      refine jT_eq (LN := [(5, (0, 0)), (4, (4, 17)), (3, (0, 5)), (2, (0, u)), (0, (4, 0)), (1, (0, r1))]) (stN := [(1, 0), (0, 0), (4, 8)]) (hsN := jpG_61) rfl rfl rfl ?_
      refine jT_xaload (v := (4, 17)) (pcN := 77) jIG_165_75 rfl rfl rfl ?_
      refine jT_xgetf (a := 17) (t := 2) (ci := 4) (fi := 0) (c := (4, [(4, 18), (1, 1)], [])) (v := (4, 18)) (pcN := 80) jIG_165_77 rfl rfl rfl rfl rfl rfl rfl ?_
      refine jT_xiload (v := (0, 0)) (pcN := 82) jIG_165_80 rfl rfl rfl ?_
      refine jT_lald (x := 0) (a := 18) (j := 0) (fs := []) (X := [0, 0, 0, 0, 0, 0]) jIG_165_82 rfl rfl rfl rfl ?_
      refine jT_eq (LN := [(5, (0, 0)), (4, (4, 17)), (3, (0, 5)), (2, (0, u)), (0, (4, 0)), (1, (0, r1))]) (stN := [(1, 0), (1, 0), (0, 0), (4, 8)]) (hsN := jpG_61) rfl rfl rfl ?_
      refine jT_mm4 (x := 0) (y := 0) (z := 0) (by rfl) (by rfl) (by rfl) (by rfl) (jwl_idd (by omega) (by omega)) (jwl_idd (by omega) (by omega)) (by rw [decide_eq_false (show ¬ ((0 : Int) < 0) by omega)]; rfl) ?_
      refine jT_adv 1 (pcN := 87) (LN := [(5, (0, 0)), (4, (4, 17)), (3, (0, 5)), (2, (0, u)), (0, (4, 0)), (1, (0, r1))]) (stN := []) (hsN := jpG_61) (c1 := 0) (s1 := 0) (c2 := b1) (s2 := b2) (by exact rfl) ?_ (by omega) (by omega)
      refine jT_xiinc (x := 0) (z := 1) (LN := [(5, (0, 1)), (4, (4, 17)), (3, (0, 5)), (2, (0, u)), (0, (4, 0)), (1, (0, r1))]) (pcN := 90) jIG_165_87 rfl rfl (by decide) rfl rfl ?_
      refine jT_xgoto (pcN := 40) jIG_165_90 rfl ?_
      refine jT_xiload (v := (0, 1)) (pcN := 42) jIG_165_40 rfl rfl rfl ?_
      refine jT_xbipush (k := 6) (pcN := 44) jIG_165_42 (by decide) rfl ?_
      refine jT_xicF (t := 93) (pcN := 47) jIG_165_44 rfl (by decide +kernel) rfl rfl ?_
      refine jT_xaload_n (v := (4, 0)) (pcN := 48) jIG_165_47 rfl rfl rfl ?_
      refine jT_xgetf (a := 0) (t := 1) (ci := 13) (fi := 7) (c := jzG_7) (v := (4, 8)) (pcN := 51) jIG_165_48 rfl rfl rfl rfl rfl rfl rfl ?_
      refine jT_xiload (v := (0, 1)) (pcN := 53) jIG_165_51 rfl rfl rfl ?_
      refine jT_xiload_n (v := (0, u)) (pcN := 54) jIG_165_53 rfl rfl rfl ?_
      refine jT_ifT (a := u) (t := 68) (by rfl) (by rfl) (by rfl) (jw_idd (by omega) (by omega)) (by simp only [jcP] <;> omega) ?_
      refine jT_xaload_n (v := (4, 0)) (pcN := 69) jIG_165_68 rfl rfl rfl ?_
      refine jT_xgetf (a := 0) (t := 1) (ci := 13) (fi := 7) (c := jzG_7) (v := (4, 8)) (pcN := 72) jIG_165_69 rfl rfl rfl rfl rfl rfl rfl ?_
      refine jT_xiload (v := (0, 1)) (pcN := 74) jIG_165_72 rfl rfl rfl ?_
      refine jT_lald (x := 0) (a := 8) (j := 1) (fs := []) (X := [0, 0, 0, 0, 0, 0]) jIG_165_74 rfl rfl rfl rfl ?_
      refine jT_eq (LN := [(5, (0, 1)), (4, (4, 17)), (3, (0, 5)), (2, (0, u)), (0, (4, 0)), (1, (0, r1))]) (stN := [(1, 0), (0, 1), (4, 8)]) (hsN := jpG_61) rfl rfl rfl ?_
      refine jT_xaload (v := (4, 17)) (pcN := 77) jIG_165_75 rfl rfl rfl ?_
      refine jT_xgetf (a := 17) (t := 2) (ci := 4) (fi := 0) (c := (4, [(4, 18), (1, 1)], [])) (v := (4, 18)) (pcN := 80) jIG_165_77 rfl rfl rfl rfl rfl rfl rfl ?_
      refine jT_xiload (v := (0, 1)) (pcN := 82) jIG_165_80 rfl rfl rfl ?_
      refine jT_lald (x := 0) (a := 18) (j := 1) (fs := []) (X := [0, 0, 0, 0, 0, 0]) jIG_165_82 rfl rfl rfl rfl ?_
      refine jT_eq (LN := [(5, (0, 1)), (4, (4, 17)), (3, (0, 5)), (2, (0, u)), (0, (4, 0)), (1, (0, r1))]) (stN := [(1, 0), (1, 0), (0, 1), (4, 8)]) (hsN := jpG_61) rfl rfl rfl ?_
      refine jT_mm4 (x := 0) (y := 0) (z := 0) (by rfl) (by rfl) (by rfl) (by rfl) (jwl_idd (by omega) (by omega)) (jwl_idd (by omega) (by omega)) (by rw [decide_eq_false (show ¬ ((0 : Int) < 0) by omega)]; rfl) ?_
      refine jT_adv 1 (pcN := 87) (LN := [(5, (0, 1)), (4, (4, 17)), (3, (0, 5)), (2, (0, u)), (0, (4, 0)), (1, (0, r1))]) (stN := []) (hsN := jpG_61) (c1 := 0) (s1 := 0) (c2 := b1) (s2 := b2) (by exact rfl) ?_ (by omega) (by omega)
      refine jT_xiinc (x := 1) (z := 2) (LN := [(5, (0, 2)), (4, (4, 17)), (3, (0, 5)), (2, (0, u)), (0, (4, 0)), (1, (0, r1))]) (pcN := 90) jIG_165_87 rfl rfl (by decide) rfl rfl ?_
      refine jT_xgoto (pcN := 40) jIG_165_90 rfl ?_
      refine jT_xiload (v := (0, 2)) (pcN := 42) jIG_165_40 rfl rfl rfl ?_
      refine jT_xbipush (k := 6) (pcN := 44) jIG_165_42 (by decide) rfl ?_
      refine jT_xicF (t := 93) (pcN := 47) jIG_165_44 rfl (by decide +kernel) rfl rfl ?_
      refine jT_xaload_n (v := (4, 0)) (pcN := 48) jIG_165_47 rfl rfl rfl ?_
      refine jT_xgetf (a := 0) (t := 1) (ci := 13) (fi := 7) (c := jzG_7) (v := (4, 8)) (pcN := 51) jIG_165_48 rfl rfl rfl rfl rfl rfl rfl ?_
      refine jT_xiload (v := (0, 2)) (pcN := 53) jIG_165_51 rfl rfl rfl ?_
      refine jT_xiload_n (v := (0, u)) (pcN := 54) jIG_165_53 rfl rfl rfl ?_
      refine jT_ifT (a := u) (t := 68) (by rfl) (by rfl) (by rfl) (jw_idd (by omega) (by omega)) (by simp only [jcP] <;> omega) ?_
      refine jT_xaload_n (v := (4, 0)) (pcN := 69) jIG_165_68 rfl rfl rfl ?_
      refine jT_xgetf (a := 0) (t := 1) (ci := 13) (fi := 7) (c := jzG_7) (v := (4, 8)) (pcN := 72) jIG_165_69 rfl rfl rfl rfl rfl rfl rfl ?_
      refine jT_xiload (v := (0, 2)) (pcN := 74) jIG_165_72 rfl rfl rfl ?_
      refine jT_lald (x := 0) (a := 8) (j := 2) (fs := []) (X := [0, 0, 0, 0, 0, 0]) jIG_165_74 rfl rfl rfl rfl ?_
      refine jT_eq (LN := [(5, (0, 2)), (4, (4, 17)), (3, (0, 5)), (2, (0, u)), (0, (4, 0)), (1, (0, r1))]) (stN := [(1, 0), (0, 2), (4, 8)]) (hsN := jpG_61) rfl rfl rfl ?_
      refine jT_xaload (v := (4, 17)) (pcN := 77) jIG_165_75 rfl rfl rfl ?_
      refine jT_xgetf (a := 17) (t := 2) (ci := 4) (fi := 0) (c := (4, [(4, 18), (1, 1)], [])) (v := (4, 18)) (pcN := 80) jIG_165_77 rfl rfl rfl rfl rfl rfl rfl ?_
      refine jT_xiload (v := (0, 2)) (pcN := 82) jIG_165_80 rfl rfl rfl ?_
      refine jT_lald (x := 0) (a := 18) (j := 2) (fs := []) (X := [0, 0, 0, 0, 0, 0]) jIG_165_82 rfl rfl rfl rfl ?_
      refine jT_eq (LN := [(5, (0, 2)), (4, (4, 17)), (3, (0, 5)), (2, (0, u)), (0, (4, 0)), (1, (0, r1))]) (stN := [(1, 0), (1, 0), (0, 2), (4, 8)]) (hsN := jpG_61) rfl rfl rfl ?_
      refine jT_mm4 (x := 0) (y := 0) (z := 0) (by rfl) (by rfl) (by rfl) (by rfl) (jwl_idd (by omega) (by omega)) (jwl_idd (by omega) (by omega)) (by rw [decide_eq_false (show ¬ ((0 : Int) < 0) by omega)]; rfl) ?_
      refine jT_adv 1 (pcN := 87) (LN := [(5, (0, 2)), (4, (4, 17)), (3, (0, 5)), (2, (0, u)), (0, (4, 0)), (1, (0, r1))]) (stN := []) (hsN := jpG_61) (c1 := 0) (s1 := 0) (c2 := b1) (s2 := b2) (by exact rfl) ?_ (by omega) (by omega)
      refine jT_xiinc (x := 2) (z := 3) (LN := [(5, (0, 3)), (4, (4, 17)), (3, (0, 5)), (2, (0, u)), (0, (4, 0)), (1, (0, r1))]) (pcN := 90) jIG_165_87 rfl rfl (by decide) rfl rfl ?_
      refine jT_xgoto (pcN := 40) jIG_165_90 rfl ?_
      refine jT_xiload (v := (0, 3)) (pcN := 42) jIG_165_40 rfl rfl rfl ?_
      refine jT_xbipush (k := 6) (pcN := 44) jIG_165_42 (by decide) rfl ?_
      refine jT_xicF (t := 93) (pcN := 47) jIG_165_44 rfl (by decide +kernel) rfl rfl ?_
      refine jT_xaload_n (v := (4, 0)) (pcN := 48) jIG_165_47 rfl rfl rfl ?_
      refine jT_xgetf (a := 0) (t := 1) (ci := 13) (fi := 7) (c := jzG_7) (v := (4, 8)) (pcN := 51) jIG_165_48 rfl rfl rfl rfl rfl rfl rfl ?_
      refine jT_xiload (v := (0, 3)) (pcN := 53) jIG_165_51 rfl rfl rfl ?_
      refine jT_xiload_n (v := (0, u)) (pcN := 54) jIG_165_53 rfl rfl rfl ?_
      refine jT_ifT (a := u) (t := 68) (by rfl) (by rfl) (by rfl) (jw_idd (by omega) (by omega)) (by simp only [jcP] <;> omega) ?_
      refine jT_xaload_n (v := (4, 0)) (pcN := 69) jIG_165_68 rfl rfl rfl ?_
      refine jT_xgetf (a := 0) (t := 1) (ci := 13) (fi := 7) (c := jzG_7) (v := (4, 8)) (pcN := 72) jIG_165_69 rfl rfl rfl rfl rfl rfl rfl ?_
      refine jT_xiload (v := (0, 3)) (pcN := 74) jIG_165_72 rfl rfl rfl ?_
      refine jT_lald (x := 0) (a := 8) (j := 3) (fs := []) (X := [0, 0, 0, 0, 0, 0]) jIG_165_74 rfl rfl rfl rfl ?_
      refine jT_eq (LN := [(5, (0, 3)), (4, (4, 17)), (3, (0, 5)), (2, (0, u)), (0, (4, 0)), (1, (0, r1))]) (stN := [(1, 0), (0, 3), (4, 8)]) (hsN := jpG_61) rfl rfl rfl ?_
      refine jT_xaload (v := (4, 17)) (pcN := 77) jIG_165_75 rfl rfl rfl ?_
      refine jT_xgetf (a := 17) (t := 2) (ci := 4) (fi := 0) (c := (4, [(4, 18), (1, 1)], [])) (v := (4, 18)) (pcN := 80) jIG_165_77 rfl rfl rfl rfl rfl rfl rfl ?_
      refine jT_xiload (v := (0, 3)) (pcN := 82) jIG_165_80 rfl rfl rfl ?_
      refine jT_lald (x := 0) (a := 18) (j := 3) (fs := []) (X := [0, 0, 0, 0, 0, 0]) jIG_165_82 rfl rfl rfl rfl ?_
      refine jT_eq (LN := [(5, (0, 3)), (4, (4, 17)), (3, (0, 5)), (2, (0, u)), (0, (4, 0)), (1, (0, r1))]) (stN := [(1, 0), (1, 0), (0, 3), (4, 8)]) (hsN := jpG_61) rfl rfl rfl ?_
      refine jT_mm4 (x := 0) (y := 0) (z := 0) (by rfl) (by rfl) (by rfl) (by rfl) (jwl_idd (by omega) (by omega)) (jwl_idd (by omega) (by omega)) (by rw [decide_eq_false (show ¬ ((0 : Int) < 0) by omega)]; rfl) ?_
      refine jT_adv 1 (pcN := 87) (LN := [(5, (0, 3)), (4, (4, 17)), (3, (0, 5)), (2, (0, u)), (0, (4, 0)), (1, (0, r1))]) (stN := []) (hsN := jpG_61) (c1 := 0) (s1 := 0) (c2 := b1) (s2 := b2) (by exact rfl) ?_ (by omega) (by omega)
      refine jT_xiinc (x := 3) (z := 4) (LN := [(5, (0, 4)), (4, (4, 17)), (3, (0, 5)), (2, (0, u)), (0, (4, 0)), (1, (0, r1))]) (pcN := 90) jIG_165_87 rfl rfl (by decide) rfl rfl ?_
      refine jT_xgoto (pcN := 40) jIG_165_90 rfl ?_
      refine jT_xiload (v := (0, 4)) (pcN := 42) jIG_165_40 rfl rfl rfl ?_
      refine jT_xbipush (k := 6) (pcN := 44) jIG_165_42 (by decide) rfl ?_
      refine jT_xicF (t := 93) (pcN := 47) jIG_165_44 rfl (by decide +kernel) rfl rfl ?_
      refine jT_xaload_n (v := (4, 0)) (pcN := 48) jIG_165_47 rfl rfl rfl ?_
      refine jT_xgetf (a := 0) (t := 1) (ci := 13) (fi := 7) (c := jzG_7) (v := (4, 8)) (pcN := 51) jIG_165_48 rfl rfl rfl rfl rfl rfl rfl ?_
      refine jT_xiload (v := (0, 4)) (pcN := 53) jIG_165_51 rfl rfl rfl ?_
      refine jT_xiload_n (v := (0, u)) (pcN := 54) jIG_165_53 rfl rfl rfl ?_
      refine jT_ifT (a := u) (t := 68) (by rfl) (by rfl) (by rfl) (jw_idd (by omega) (by omega)) (by simp only [jcP] <;> omega) ?_
      refine jT_xaload_n (v := (4, 0)) (pcN := 69) jIG_165_68 rfl rfl rfl ?_
      refine jT_xgetf (a := 0) (t := 1) (ci := 13) (fi := 7) (c := jzG_7) (v := (4, 8)) (pcN := 72) jIG_165_69 rfl rfl rfl rfl rfl rfl rfl ?_
      refine jT_xiload (v := (0, 4)) (pcN := 74) jIG_165_72 rfl rfl rfl ?_
      refine jT_lald (x := 0) (a := 8) (j := 4) (fs := []) (X := [0, 0, 0, 0, 0, 0]) jIG_165_74 rfl rfl rfl rfl ?_
      refine jT_eq (LN := [(5, (0, 4)), (4, (4, 17)), (3, (0, 5)), (2, (0, u)), (0, (4, 0)), (1, (0, r1))]) (stN := [(1, 0), (0, 4), (4, 8)]) (hsN := jpG_61) rfl rfl rfl ?_
      refine jT_xaload (v := (4, 17)) (pcN := 77) jIG_165_75 rfl rfl rfl ?_
      refine jT_xgetf (a := 17) (t := 2) (ci := 4) (fi := 0) (c := (4, [(4, 18), (1, 1)], [])) (v := (4, 18)) (pcN := 80) jIG_165_77 rfl rfl rfl rfl rfl rfl rfl ?_
      refine jT_xiload (v := (0, 4)) (pcN := 82) jIG_165_80 rfl rfl rfl ?_
      refine jT_lald (x := 0) (a := 18) (j := 4) (fs := []) (X := [0, 0, 0, 0, 0, 0]) jIG_165_82 rfl rfl rfl rfl ?_
      refine jT_eq (LN := [(5, (0, 4)), (4, (4, 17)), (3, (0, 5)), (2, (0, u)), (0, (4, 0)), (1, (0, r1))]) (stN := [(1, 0), (1, 0), (0, 4), (4, 8)]) (hsN := jpG_61) rfl rfl rfl ?_
      refine jT_mm4 (x := 0) (y := 0) (z := 0) (by rfl) (by rfl) (by rfl) (by rfl) (jwl_idd (by omega) (by omega)) (jwl_idd (by omega) (by omega)) (by rw [decide_eq_false (show ¬ ((0 : Int) < 0) by omega)]; rfl) ?_
      refine jT_adv 1 (pcN := 87) (LN := [(5, (0, 4)), (4, (4, 17)), (3, (0, 5)), (2, (0, u)), (0, (4, 0)), (1, (0, r1))]) (stN := []) (hsN := jpG_61) (c1 := 0) (s1 := 0) (c2 := b1) (s2 := b2) (by exact rfl) ?_ (by omega) (by omega)
      refine jT_xiinc (x := 4) (z := 5) (LN := [(5, (0, 5)), (4, (4, 17)), (3, (0, 5)), (2, (0, u)), (0, (4, 0)), (1, (0, r1))]) (pcN := 90) jIG_165_87 rfl rfl (by decide) rfl rfl ?_
      refine jT_xgoto (pcN := 40) jIG_165_90 rfl ?_
      refine jT_xiload (v := (0, 5)) (pcN := 42) jIG_165_40 rfl rfl rfl ?_
      refine jT_xbipush (k := 6) (pcN := 44) jIG_165_42 (by decide) rfl ?_
      refine jT_xicF (t := 93) (pcN := 47) jIG_165_44 rfl (by decide +kernel) rfl rfl ?_
      refine jT_xaload_n (v := (4, 0)) (pcN := 48) jIG_165_47 rfl rfl rfl ?_
      refine jT_xgetf (a := 0) (t := 1) (ci := 13) (fi := 7) (c := jzG_7) (v := (4, 8)) (pcN := 51) jIG_165_48 rfl rfl rfl rfl rfl rfl rfl ?_
      refine jT_xiload (v := (0, 5)) (pcN := 53) jIG_165_51 rfl rfl rfl ?_
      refine jT_xiload_n (v := (0, u)) (pcN := 54) jIG_165_53 rfl rfl rfl ?_
      refine jT_ifT (a := u) (t := 68) (by rfl) (by rfl) (by rfl) (jw_idd (by omega) (by omega)) (by simp only [jcP] <;> omega) ?_
      refine jT_xaload_n (v := (4, 0)) (pcN := 69) jIG_165_68 rfl rfl rfl ?_
      refine jT_xgetf (a := 0) (t := 1) (ci := 13) (fi := 7) (c := jzG_7) (v := (4, 8)) (pcN := 72) jIG_165_69 rfl rfl rfl rfl rfl rfl rfl ?_
      refine jT_xiload (v := (0, 5)) (pcN := 74) jIG_165_72 rfl rfl rfl ?_
      refine jT_lald (x := 0) (a := 8) (j := 5) (fs := []) (X := [0, 0, 0, 0, 0, 0]) jIG_165_74 rfl rfl rfl rfl ?_
      refine jT_eq (LN := [(5, (0, 5)), (4, (4, 17)), (3, (0, 5)), (2, (0, u)), (0, (4, 0)), (1, (0, r1))]) (stN := [(1, 0), (0, 5), (4, 8)]) (hsN := jpG_61) rfl rfl rfl ?_
      refine jT_xaload (v := (4, 17)) (pcN := 77) jIG_165_75 rfl rfl rfl ?_
      refine jT_xgetf (a := 17) (t := 2) (ci := 4) (fi := 0) (c := (4, [(4, 18), (1, 1)], [])) (v := (4, 18)) (pcN := 80) jIG_165_77 rfl rfl rfl rfl rfl rfl rfl ?_
      refine jT_xiload (v := (0, 5)) (pcN := 82) jIG_165_80 rfl rfl rfl ?_
      refine jT_lald (x := 0) (a := 18) (j := 5) (fs := []) (X := [0, 0, 0, 0, 0, 0]) jIG_165_82 rfl rfl rfl rfl ?_
      refine jT_eq (LN := [(5, (0, 5)), (4, (4, 17)), (3, (0, 5)), (2, (0, u)), (0, (4, 0)), (1, (0, r1))]) (stN := [(1, 0), (1, 0), (0, 5), (4, 8)]) (hsN := jpG_61) rfl rfl rfl ?_
      refine jT_mm4 (x := 0) (y := 0) (z := 0) (by rfl) (by rfl) (by rfl) (by rfl) (jwl_idd (by omega) (by omega)) (jwl_idd (by omega) (by omega)) (by rw [decide_eq_false (show ¬ ((0 : Int) < 0) by omega)]; rfl) ?_
      refine jT_adv 1 (pcN := 87) (LN := [(5, (0, 5)), (4, (4, 17)), (3, (0, 5)), (2, (0, u)), (0, (4, 0)), (1, (0, r1))]) (stN := []) (hsN := jpG_61) (c1 := 0) (s1 := 0) (c2 := b1) (s2 := b2) (by exact rfl) ?_ (by omega) (by omega)
      refine jT_xiinc (x := 5) (z := 6) (LN := [(5, (0, 6)), (4, (4, 17)), (3, (0, 5)), (2, (0, u)), (0, (4, 0)), (1, (0, r1))]) (pcN := 90) jIG_165_87 rfl rfl (by decide) rfl rfl ?_
      refine jT_xgoto (pcN := 40) jIG_165_90 rfl ?_
      refine jT_xiload (v := (0, 6)) (pcN := 42) jIG_165_40 rfl rfl rfl ?_
      refine jT_xbipush (k := 6) (pcN := 44) jIG_165_42 (by decide) rfl ?_
      refine jT_xicT (pcN := 93) jIG_165_44 rfl (by decide +kernel) rfl ?_
      refine jT_xiconst (k := 0) (pcN := 94) jIG_165_93 rfl ?_
      refine jT_xistore_n (v := (0, 0)) (LN := [(2, (0, 0)), (5, (0, 6)), (4, (4, 17)), (3, (0, 5)), (0, (4, 0)), (1, (0, r1))]) (pcN := 95) jIG_165_94 rfl rfl rfl rfl ?_
      refine jT_xiinc (x := 5) (z := 6) (LN := [(3, (0, 6)), (2, (0, 0)), (5, (0, 6)), (4, (4, 17)), (0, (4, 0)), (1, (0, r1))]) (pcN := 98) jIG_165_95 rfl rfl (by decide) rfl rfl ?_
      refine jT_xgoto (pcN := 4) jIG_165_98 rfl ?_
      refine jT_loc (LN := [(3, (0, 6)), (2, (0, 0)), (0, (4, 0)), (1, (0, r1))]) (by show List.Nodup [3, 2, 0, 1]; decide) (by intro q hq; simp only [List.mem_cons, List.not_mem_nil, or_false] at hq; rcases hq with rfl | rfl | rfl | rfl <;> rfl) ?_
      exact jGl_ch_28_6 hd (u := 0) (by omega) h_r1 h
  · refine jT_xiload_n (v := (0, 5)) (pcN := 5) jIG_165_4 rfl rfl rfl ?_
    refine jT_xbipush (k := 8) (pcN := 7) jIG_165_5 (by decide) rfl ?_
    refine jT_xicF (t := 101) (pcN := 10) jIG_165_7 rfl (by decide +kernel) rfl rfl ?_
    refine jT_xiload_n (v := (0, r1)) (pcN := 11) jIG_165_10 rfl rfl rfl ?_
    refine jT_xiload_n (v := (0, 5)) (pcN := 12) jIG_165_11 rfl rfl rfl ?_
    refine jT_ishr (x := r1) (y := 5) (z := (Int32.ofInt r1 >>> (Int32.ofInt 5 &&& 31)).toInt) (by rfl) (by rfl) rfl ?_
    have hb_q1 : (-2147483648) ≤ (Int32.ofInt r1 >>> (Int32.ofInt 5 &&& 31)).toInt ∧ (Int32.ofInt r1 >>> (Int32.ofInt 5 &&& 31)).toInt ≤ 2147483647 := ⟨Int32.le_toInt _, Int.le_of_lt_add_one (Int32.toInt_lt _)⟩
    generalize hq_q1 : (Int32.ofInt r1 >>> (Int32.ofInt 5 &&& 31)).toInt = q1 at hb_q1 g_0 ⊢
    refine jT_xiconst (k := 1) (pcN := 14) jIG_165_13 rfl ?_
    refine jT_iand (x := q1) (y := 1) (z := q1 % 2) (by rfl) (by rfl) (jiand_1 _) ?_
    have hb_q2 : 0 ≤ q1 % 2 ∧ q1 % 2 ≤ 1 := ⟨by omega, by omega⟩
    generalize hq_q2 : q1 % 2 = q2 at hb_q2 g_0 ⊢
    refine jT_xiconst (k := 1) (pcN := 16) jIG_165_15 rfl ?_
    refine jT_icT (a := q2) (b := 1) (t := 95) (by rfl) (by rfl) (by rfl) (jw_idd (by omega) (by omega)) (jw_idd (by omega) (by omega)) (by simp only [jcP] <;> omega) ?_
    refine jT_xiinc (x := 5) (z := 6) (LN := [(3, (0, 6)), (2, (0, u)), (0, (4, 0)), (1, (0, r1))]) (pcN := 98) jIG_165_95 rfl rfl (by decide) rfl rfl ?_
    refine jT_xgoto (pcN := 4) jIG_165_98 rfl ?_
    refine jT_loc (LN := [(3, (0, 6)), (2, (0, u)), (0, (4, 0)), (1, (0, r1))]) (by show List.Nodup [3, 2, 0, 1]; decide) (by intro q hq; simp only [List.mem_cons, List.not_mem_nil, or_false] at hq; rcases hq with rfl | rfl | rfl | rfl <;> rfl) ?_
    exact jGl_ch_28_6 hd (u := u) (by omega) h_r1 h
theorem jGl_ch_28_4 {xs : List Int} {d b1 b2 : Nat} {Q : Nat → JV → List JC → Prop} (hd : 2 < d) {r1 : Int} {u : Int} (h_u : 0 ≤ u ∧ u ≤ 1) (h_r1 : 1 ≤ r1 ∧ r1 ≤ 255) (h : jT xs d 165 19 101 [(0, (4, 0))] [] [jzG_7, jgh, jgh, jgh, jgh, jgh, jgh, jgh, (101, [], [0, 0, 0, 0, 0, 0]), jgh, jgh, jzG_59, jzG_60, jgh, jgh, jgh, jgh, (4, [(4, 18), (1, 1)], []), (101, [], [0, 0, 0, 0, 0, 0])] b1 b2 Q) : jT xs d 165 19 4 [(3, (0, 4)), (2, (0, u)), (0, (4, 0)), (1, (0, r1))] [] [jzG_7, jgh, jgh, jgh, jgh, jgh, jgh, jgh, (101, [], [0, 0, 0, 0, 0, 0]), jgh, jgh, jzG_59, jzG_60, jgh, jgh, jgh, jgh, (4, [(4, 18), (1, 1)], []), (101, [], [0, 0, 0, 0, 0, 0])] b1 b2 Q := by
  rcases (show (0 ≤ (((Int32.ofInt r1 >>> (Int32.ofInt 4 &&& 31)).toInt) % 2) - 1) ∨ ((((Int32.ofInt r1 >>> (Int32.ofInt 4 &&& 31)).toInt) % 2) - 1 < 0) by omega) with g_0 | g_0
  · rcases (show (0 ≤ u - 1) ∨ (u - 1 < 0) by omega) with g_1 | g_1
    · refine jT_xiload_n (v := (0, 4)) (pcN := 5) jIG_165_4 rfl rfl rfl ?_
      refine jT_xbipush (k := 8) (pcN := 7) jIG_165_5 (by decide) rfl ?_
      refine jT_xicF (t := 101) (pcN := 10) jIG_165_7 rfl (by decide +kernel) rfl rfl ?_
      refine jT_xiload_n (v := (0, r1)) (pcN := 11) jIG_165_10 rfl rfl rfl ?_
      refine jT_xiload_n (v := (0, 4)) (pcN := 12) jIG_165_11 rfl rfl rfl ?_
      refine jT_ishr (x := r1) (y := 4) (z := (Int32.ofInt r1 >>> (Int32.ofInt 4 &&& 31)).toInt) (by rfl) (by rfl) rfl ?_
      have hb_q1 : (-2147483648) ≤ (Int32.ofInt r1 >>> (Int32.ofInt 4 &&& 31)).toInt ∧ (Int32.ofInt r1 >>> (Int32.ofInt 4 &&& 31)).toInt ≤ 2147483647 := ⟨Int32.le_toInt _, Int.le_of_lt_add_one (Int32.toInt_lt _)⟩
      generalize hq_q1 : (Int32.ofInt r1 >>> (Int32.ofInt 4 &&& 31)).toInt = q1 at hb_q1 g_0 ⊢
      refine jT_xiconst (k := 1) (pcN := 14) jIG_165_13 rfl ?_
      refine jT_iand (x := q1) (y := 1) (z := q1 % 2) (by rfl) (by rfl) (jiand_1 _) ?_
      have hb_q2 : 0 ≤ q1 % 2 ∧ q1 % 2 ≤ 1 := ⟨by omega, by omega⟩
      generalize hq_q2 : q1 % 2 = q2 at hb_q2 g_0 ⊢
      refine jT_xiconst (k := 1) (pcN := 16) jIG_165_15 rfl ?_
      refine jT_icF (a := q2) (b := 1) (t := 95) (by rfl) (by rfl) (by rfl) (jw_idd (by omega) (by omega)) (jw_idd (by omega) (by omega)) (by simp only [jcP] <;> omega) ?_
      refine jT_xaload_n (v := (4, 0)) (pcN := 20) jIG_165_19 rfl rfl rfl ?_
      refine jT_xgetf (a := 0) (t := 1) (ci := 13) (fi := 11) (c := jzG_7) (v := (4, 11)) (pcN := 23) jIG_165_20 rfl rfl rfl rfl rfl rfl rfl ?_
      refine jT_xiload_n (v := (0, 4)) (pcN := 24) jIG_165_23 rfl rfl rfl ?_
      refine jT_fR [11, 12, 13, 14, 15, 16, 17] 19 (y := 57) (pcN := 27) (dC := 0) (bc1 := 0) (bc2 := 0) (c1 := b1) (c2 := b2) (as := [(4, 11), (0, 4)]) (asC := [(4, 0), (0, 4)]) (LN := [(3, (0, 4)), (2, (0, u)), (0, (4, 0)), (1, (0, r1))]) (stN := []) (hsC := jpG_54) (v := (4, 6)) (st2 := [(4, 17)]) (jG_57_24 (d := 0)) (by rfl) (by rfl) (by decide +kernel) (by rfl) (by rfl) (by omega) (by omega) (by omega) (by omega) rfl ?_
      refine jT_xastore (v := (4, 17)) (LN := [(4, (4, 17)), (3, (0, 4)), (2, (0, u)), (0, (4, 0)), (1, (0, r1))]) (pcN := 29) jIG_165_27 rfl rfl rfl rfl ?_
      refine jT_xaload_n (v := (4, 0)) (pcN := 30) jIG_165_29 rfl rfl rfl ?_
      refine jT_xaload (v := (4, 17)) (pcN := 32) jIG_165_30 rfl rfl rfl ?_
      refine jT_xbipush (k := 100) (pcN := 34) jIG_165_32 (by decide) rfl ?_
      refine jT_fR [0, 17, 18] 19 (y := 142) (pcN := 37) (dC := 1) (bc1 := 0) (bc2 := 0) (c1 := b1) (c2 := b2) (as := [(4, 0), (4, 17), (0, 100)]) (asC := [(4, 0), (4, 1), (0, 100)]) (LN := [(4, (4, 17)), (3, (0, 4)), (2, (0, u)), (0, (4, 0)), (1, (0, r1))]) (stN := []) (hsC := [jgh, (4, [(4, 2), (1, 1)], []), (101, [], [0, 0, 0, 0, 0, 0])]) (v := (9, 0)) (st2 := []) (jG_142_20 (d := 0)) (by rfl) (by rfl) (by decide +kernel) (by rfl) (by rfl) (by omega) (by omega) (by omega) (by omega) rfl ?_
      refine jT_xiconst (k := 0) (pcN := 38) jIG_165_37 rfl ?_
      refine jT_xistore (v := (0, 0)) (LN := [(5, (0, 0)), (4, (4, 17)), (3, (0, 4)), (2, (0, u)), (0, (4, 0)), (1, (0, r1))]) (pcN := 40) jIG_165_38 rfl rfl rfl rfl ?_
      refine jT_xiload (v := (0, 0)) (pcN := 42) jIG_165_40 rfl rfl rfl ?_
      refine jT_xbipush (k := 6) (pcN := 44) jIG_165_42 (by decide) rfl ?_
      refine jT_xicF (t := 93) (pcN := 47) jIG_165_44 rfl (by decide +kernel) rfl rfl ?_
      refine jT_xaload_n (v := (4, 0)) (pcN := 48) jIG_165_47 rfl rfl rfl ?_
      refine jT_xgetf (a := 0) (t := 1) (ci := 13) (fi := 7) (c := jzG_7) (v := (4, 8)) (pcN := 51) jIG_165_48 rfl rfl rfl rfl rfl rfl rfl ?_
      refine jT_xiload (v := (0, 0)) (pcN := 53) jIG_165_51 rfl rfl rfl ?_
      refine jT_xiload_n (v := (0, u)) (pcN := 54) jIG_165_53 rfl rfl rfl ?_
      refine jT_ifF (a := u) (t := 68) (by rfl) (by rfl) (by rfl) (jw_idd (by omega) (by omega)) (by simp only [jcP] <;> omega) ?_
      refine jT_xaload (v := (4, 17)) (pcN := 59) jIG_165_57 rfl rfl rfl ?_
      refine jT_xgetf (a := 17) (t := 2) (ci := 4) (fi := 0) (c := (4, [(4, 18), (1, 1)], [])) (v := (4, 18)) (pcN := 62) jIG_165_59 rfl rfl rfl rfl rfl rfl rfl ?_
      refine jT_xiload (v := (0, 0)) (pcN := 64) jIG_165_62 rfl rfl rfl ?_
      refine jT_lald (x := 0) (a := 18) (j := 0) (fs := []) (X := [0, 0, 0, 0, 0, 0]) jIG_165_64 rfl rfl rfl rfl ?_
      refine jT_eq (LN := [(5, (0, 0)), (4, (4, 17)), (3, (0, 4)), (2, (0, u)), (0, (4, 0)), (1, (0, r1))]) (stN := [(1, 0), (0, 0), (4, 8)]) (hsN := jpG_61) rfl rfl rfl ?_
      refine jT_xgoto (pcN := 86) jIG_165_65 rfl ?_
      refine jT_adv 1 (pcN := 87) (LN := [(5, (0, 0)), (4, (4, 17)), (3, (0, 4)), (2, (0, u)), (0, (4, 0)), (1, (0, r1))]) (stN := []) (hsN := jpG_61) (c1 := 0) (s1 := 0) (c2 := b1) (s2 := b2) (by exact rfl) ?_ (by omega) (by omega)
      refine jT_xiinc (x := 0) (z := 1) (LN := [(5, (0, 1)), (4, (4, 17)), (3, (0, 4)), (2, (0, u)), (0, (4, 0)), (1, (0, r1))]) (pcN := 90) jIG_165_87 rfl rfl (by decide) rfl rfl ?_
      refine jT_xgoto (pcN := 40) jIG_165_90 rfl ?_
      refine jT_xiload (v := (0, 1)) (pcN := 42) jIG_165_40 rfl rfl rfl ?_
      refine jT_xbipush (k := 6) (pcN := 44) jIG_165_42 (by decide) rfl ?_
      refine jT_xicF (t := 93) (pcN := 47) jIG_165_44 rfl (by decide +kernel) rfl rfl ?_
      refine jT_xaload_n (v := (4, 0)) (pcN := 48) jIG_165_47 rfl rfl rfl ?_
      refine jT_xgetf (a := 0) (t := 1) (ci := 13) (fi := 7) (c := jzG_7) (v := (4, 8)) (pcN := 51) jIG_165_48 rfl rfl rfl rfl rfl rfl rfl ?_
      refine jT_xiload (v := (0, 1)) (pcN := 53) jIG_165_51 rfl rfl rfl ?_
      refine jT_xiload_n (v := (0, u)) (pcN := 54) jIG_165_53 rfl rfl rfl ?_
      refine jT_ifF (a := u) (t := 68) (by rfl) (by rfl) (by rfl) (jw_idd (by omega) (by omega)) (by simp only [jcP] <;> omega) ?_
      refine jT_xaload (v := (4, 17)) (pcN := 59) jIG_165_57 rfl rfl rfl ?_
      refine jT_xgetf (a := 17) (t := 2) (ci := 4) (fi := 0) (c := (4, [(4, 18), (1, 1)], [])) (v := (4, 18)) (pcN := 62) jIG_165_59 rfl rfl rfl rfl rfl rfl rfl ?_
      refine jT_xiload (v := (0, 1)) (pcN := 64) jIG_165_62 rfl rfl rfl ?_
      refine jT_lald (x := 0) (a := 18) (j := 1) (fs := []) (X := [0, 0, 0, 0, 0, 0]) jIG_165_64 rfl rfl rfl rfl ?_
      refine jT_eq (LN := [(5, (0, 1)), (4, (4, 17)), (3, (0, 4)), (2, (0, u)), (0, (4, 0)), (1, (0, r1))]) (stN := [(1, 0), (0, 1), (4, 8)]) (hsN := jpG_61) rfl rfl rfl ?_
      refine jT_xgoto (pcN := 86) jIG_165_65 rfl ?_
      refine jT_adv 1 (pcN := 87) (LN := [(5, (0, 1)), (4, (4, 17)), (3, (0, 4)), (2, (0, u)), (0, (4, 0)), (1, (0, r1))]) (stN := []) (hsN := jpG_61) (c1 := 0) (s1 := 0) (c2 := b1) (s2 := b2) (by exact rfl) ?_ (by omega) (by omega)
      refine jT_xiinc (x := 1) (z := 2) (LN := [(5, (0, 2)), (4, (4, 17)), (3, (0, 4)), (2, (0, u)), (0, (4, 0)), (1, (0, r1))]) (pcN := 90) jIG_165_87 rfl rfl (by decide) rfl rfl ?_
      refine jT_xgoto (pcN := 40) jIG_165_90 rfl ?_
      refine jT_xiload (v := (0, 2)) (pcN := 42) jIG_165_40 rfl rfl rfl ?_
      refine jT_xbipush (k := 6) (pcN := 44) jIG_165_42 (by decide) rfl ?_
      refine jT_xicF (t := 93) (pcN := 47) jIG_165_44 rfl (by decide +kernel) rfl rfl ?_
      refine jT_xaload_n (v := (4, 0)) (pcN := 48) jIG_165_47 rfl rfl rfl ?_
      refine jT_xgetf (a := 0) (t := 1) (ci := 13) (fi := 7) (c := jzG_7) (v := (4, 8)) (pcN := 51) jIG_165_48 rfl rfl rfl rfl rfl rfl rfl ?_
      refine jT_xiload (v := (0, 2)) (pcN := 53) jIG_165_51 rfl rfl rfl ?_
      refine jT_xiload_n (v := (0, u)) (pcN := 54) jIG_165_53 rfl rfl rfl ?_
      refine jT_ifF (a := u) (t := 68) (by rfl) (by rfl) (by rfl) (jw_idd (by omega) (by omega)) (by simp only [jcP] <;> omega) ?_
      refine jT_xaload (v := (4, 17)) (pcN := 59) jIG_165_57 rfl rfl rfl ?_
      refine jT_xgetf (a := 17) (t := 2) (ci := 4) (fi := 0) (c := (4, [(4, 18), (1, 1)], [])) (v := (4, 18)) (pcN := 62) jIG_165_59 rfl rfl rfl rfl rfl rfl rfl ?_
      refine jT_xiload (v := (0, 2)) (pcN := 64) jIG_165_62 rfl rfl rfl ?_
      refine jT_lald (x := 0) (a := 18) (j := 2) (fs := []) (X := [0, 0, 0, 0, 0, 0]) jIG_165_64 rfl rfl rfl rfl ?_
      refine jT_eq (LN := [(5, (0, 2)), (4, (4, 17)), (3, (0, 4)), (2, (0, u)), (0, (4, 0)), (1, (0, r1))]) (stN := [(1, 0), (0, 2), (4, 8)]) (hsN := jpG_61) rfl rfl rfl ?_
      refine jT_xgoto (pcN := 86) jIG_165_65 rfl ?_
      refine jT_adv 1 (pcN := 87) (LN := [(5, (0, 2)), (4, (4, 17)), (3, (0, 4)), (2, (0, u)), (0, (4, 0)), (1, (0, r1))]) (stN := []) (hsN := jpG_61) (c1 := 0) (s1 := 0) (c2 := b1) (s2 := b2) (by exact rfl) ?_ (by omega) (by omega)
      refine jT_xiinc (x := 2) (z := 3) (LN := [(5, (0, 3)), (4, (4, 17)), (3, (0, 4)), (2, (0, u)), (0, (4, 0)), (1, (0, r1))]) (pcN := 90) jIG_165_87 rfl rfl (by decide) rfl rfl ?_
      refine jT_xgoto (pcN := 40) jIG_165_90 rfl ?_
      refine jT_xiload (v := (0, 3)) (pcN := 42) jIG_165_40 rfl rfl rfl ?_
      refine jT_xbipush (k := 6) (pcN := 44) jIG_165_42 (by decide) rfl ?_
      refine jT_xicF (t := 93) (pcN := 47) jIG_165_44 rfl (by decide +kernel) rfl rfl ?_
      refine jT_xaload_n (v := (4, 0)) (pcN := 48) jIG_165_47 rfl rfl rfl ?_
      refine jT_xgetf (a := 0) (t := 1) (ci := 13) (fi := 7) (c := jzG_7) (v := (4, 8)) (pcN := 51) jIG_165_48 rfl rfl rfl rfl rfl rfl rfl ?_
      refine jT_xiload (v := (0, 3)) (pcN := 53) jIG_165_51 rfl rfl rfl ?_
      refine jT_xiload_n (v := (0, u)) (pcN := 54) jIG_165_53 rfl rfl rfl ?_
      refine jT_ifF (a := u) (t := 68) (by rfl) (by rfl) (by rfl) (jw_idd (by omega) (by omega)) (by simp only [jcP] <;> omega) ?_
      refine jT_xaload (v := (4, 17)) (pcN := 59) jIG_165_57 rfl rfl rfl ?_
      refine jT_xgetf (a := 17) (t := 2) (ci := 4) (fi := 0) (c := (4, [(4, 18), (1, 1)], [])) (v := (4, 18)) (pcN := 62) jIG_165_59 rfl rfl rfl rfl rfl rfl rfl ?_
      refine jT_xiload (v := (0, 3)) (pcN := 64) jIG_165_62 rfl rfl rfl ?_
      refine jT_lald (x := 0) (a := 18) (j := 3) (fs := []) (X := [0, 0, 0, 0, 0, 0]) jIG_165_64 rfl rfl rfl rfl ?_
      refine jT_eq (LN := [(5, (0, 3)), (4, (4, 17)), (3, (0, 4)), (2, (0, u)), (0, (4, 0)), (1, (0, r1))]) (stN := [(1, 0), (0, 3), (4, 8)]) (hsN := jpG_61) rfl rfl rfl ?_
      refine jT_xgoto (pcN := 86) jIG_165_65 rfl ?_
      refine jT_adv 1 (pcN := 87) (LN := [(5, (0, 3)), (4, (4, 17)), (3, (0, 4)), (2, (0, u)), (0, (4, 0)), (1, (0, r1))]) (stN := []) (hsN := jpG_61) (c1 := 0) (s1 := 0) (c2 := b1) (s2 := b2) (by exact rfl) ?_ (by omega) (by omega)
      refine jT_xiinc (x := 3) (z := 4) (LN := [(5, (0, 4)), (4, (4, 17)), (3, (0, 4)), (2, (0, u)), (0, (4, 0)), (1, (0, r1))]) (pcN := 90) jIG_165_87 rfl rfl (by decide) rfl rfl ?_
      refine jT_xgoto (pcN := 40) jIG_165_90 rfl ?_
      refine jT_xiload (v := (0, 4)) (pcN := 42) jIG_165_40 rfl rfl rfl ?_
      refine jT_xbipush (k := 6) (pcN := 44) jIG_165_42 (by decide) rfl ?_
      refine jT_xicF (t := 93) (pcN := 47) jIG_165_44 rfl (by decide +kernel) rfl rfl ?_
      refine jT_xaload_n (v := (4, 0)) (pcN := 48) jIG_165_47 rfl rfl rfl ?_
      refine jT_xgetf (a := 0) (t := 1) (ci := 13) (fi := 7) (c := jzG_7) (v := (4, 8)) (pcN := 51) jIG_165_48 rfl rfl rfl rfl rfl rfl rfl ?_
      refine jT_xiload (v := (0, 4)) (pcN := 53) jIG_165_51 rfl rfl rfl ?_
      refine jT_xiload_n (v := (0, u)) (pcN := 54) jIG_165_53 rfl rfl rfl ?_
      refine jT_ifF (a := u) (t := 68) (by rfl) (by rfl) (by rfl) (jw_idd (by omega) (by omega)) (by simp only [jcP] <;> omega) ?_
      refine jT_xaload (v := (4, 17)) (pcN := 59) jIG_165_57 rfl rfl rfl ?_
      refine jT_xgetf (a := 17) (t := 2) (ci := 4) (fi := 0) (c := (4, [(4, 18), (1, 1)], [])) (v := (4, 18)) (pcN := 62) jIG_165_59 rfl rfl rfl rfl rfl rfl rfl ?_
      refine jT_xiload (v := (0, 4)) (pcN := 64) jIG_165_62 rfl rfl rfl ?_
      refine jT_lald (x := 0) (a := 18) (j := 4) (fs := []) (X := [0, 0, 0, 0, 0, 0]) jIG_165_64 rfl rfl rfl rfl ?_
      refine jT_eq (LN := [(5, (0, 4)), (4, (4, 17)), (3, (0, 4)), (2, (0, u)), (0, (4, 0)), (1, (0, r1))]) (stN := [(1, 0), (0, 4), (4, 8)]) (hsN := jpG_61) rfl rfl rfl ?_
      refine jT_xgoto (pcN := 86) jIG_165_65 rfl ?_
      refine jT_adv 1 (pcN := 87) (LN := [(5, (0, 4)), (4, (4, 17)), (3, (0, 4)), (2, (0, u)), (0, (4, 0)), (1, (0, r1))]) (stN := []) (hsN := jpG_61) (c1 := 0) (s1 := 0) (c2 := b1) (s2 := b2) (by exact rfl) ?_ (by omega) (by omega)
      refine jT_xiinc (x := 4) (z := 5) (LN := [(5, (0, 5)), (4, (4, 17)), (3, (0, 4)), (2, (0, u)), (0, (4, 0)), (1, (0, r1))]) (pcN := 90) jIG_165_87 rfl rfl (by decide) rfl rfl ?_
      refine jT_xgoto (pcN := 40) jIG_165_90 rfl ?_
      refine jT_xiload (v := (0, 5)) (pcN := 42) jIG_165_40 rfl rfl rfl ?_
      refine jT_xbipush (k := 6) (pcN := 44) jIG_165_42 (by decide) rfl ?_
      refine jT_xicF (t := 93) (pcN := 47) jIG_165_44 rfl (by decide +kernel) rfl rfl ?_
      refine jT_xaload_n (v := (4, 0)) (pcN := 48) jIG_165_47 rfl rfl rfl ?_
      refine jT_xgetf (a := 0) (t := 1) (ci := 13) (fi := 7) (c := jzG_7) (v := (4, 8)) (pcN := 51) jIG_165_48 rfl rfl rfl rfl rfl rfl rfl ?_
      refine jT_xiload (v := (0, 5)) (pcN := 53) jIG_165_51 rfl rfl rfl ?_
      refine jT_xiload_n (v := (0, u)) (pcN := 54) jIG_165_53 rfl rfl rfl ?_
      refine jT_ifF (a := u) (t := 68) (by rfl) (by rfl) (by rfl) (jw_idd (by omega) (by omega)) (by simp only [jcP] <;> omega) ?_
      refine jT_xaload (v := (4, 17)) (pcN := 59) jIG_165_57 rfl rfl rfl ?_
      refine jT_xgetf (a := 17) (t := 2) (ci := 4) (fi := 0) (c := (4, [(4, 18), (1, 1)], [])) (v := (4, 18)) (pcN := 62) jIG_165_59 rfl rfl rfl rfl rfl rfl rfl ?_
      refine jT_xiload (v := (0, 5)) (pcN := 64) jIG_165_62 rfl rfl rfl ?_
      refine jT_lald (x := 0) (a := 18) (j := 5) (fs := []) (X := [0, 0, 0, 0, 0, 0]) jIG_165_64 rfl rfl rfl rfl ?_
      refine jT_eq (LN := [(5, (0, 5)), (4, (4, 17)), (3, (0, 4)), (2, (0, u)), (0, (4, 0)), (1, (0, r1))]) (stN := [(1, 0), (0, 5), (4, 8)]) (hsN := jpG_61) rfl rfl rfl ?_
      refine jT_xgoto (pcN := 86) jIG_165_65 rfl ?_
      refine jT_adv 1 (pcN := 87) (LN := [(5, (0, 5)), (4, (4, 17)), (3, (0, 4)), (2, (0, u)), (0, (4, 0)), (1, (0, r1))]) (stN := []) (hsN := jpG_61) (c1 := 0) (s1 := 0) (c2 := b1) (s2 := b2) (by exact rfl) ?_ (by omega) (by omega)
      refine jT_xiinc (x := 5) (z := 6) (LN := [(5, (0, 6)), (4, (4, 17)), (3, (0, 4)), (2, (0, u)), (0, (4, 0)), (1, (0, r1))]) (pcN := 90) jIG_165_87 rfl rfl (by decide) rfl rfl ?_
      refine jT_xgoto (pcN := 40) jIG_165_90 rfl ?_
      refine jT_xiload (v := (0, 6)) (pcN := 42) jIG_165_40 rfl rfl rfl ?_
      refine jT_xbipush (k := 6) (pcN := 44) jIG_165_42 (by decide) rfl ?_
      refine jT_xicT (pcN := 93) jIG_165_44 rfl (by decide +kernel) rfl ?_
      refine jT_xiconst (k := 0) (pcN := 94) jIG_165_93 rfl ?_
      refine jT_xistore_n (v := (0, 0)) (LN := [(2, (0, 0)), (5, (0, 6)), (4, (4, 17)), (3, (0, 4)), (0, (4, 0)), (1, (0, r1))]) (pcN := 95) jIG_165_94 rfl rfl rfl rfl ?_
      refine jT_xiinc (x := 4) (z := 5) (LN := [(3, (0, 5)), (2, (0, 0)), (5, (0, 6)), (4, (4, 17)), (0, (4, 0)), (1, (0, r1))]) (pcN := 98) jIG_165_95 rfl rfl (by decide) rfl rfl ?_
      refine jT_xgoto (pcN := 4) jIG_165_98 rfl ?_
      refine jT_loc (LN := [(3, (0, 5)), (2, (0, 0)), (0, (4, 0)), (1, (0, r1))]) (by show List.Nodup [3, 2, 0, 1]; decide) (by intro q hq; simp only [List.mem_cons, List.not_mem_nil, or_false] at hq; rcases hq with rfl | rfl | rfl | rfl <;> rfl) ?_
      exact jGl_ch_28_5 hd (u := 0) (by omega) h_r1 h
    · refine jT_xiload_n (v := (0, 4)) (pcN := 5) jIG_165_4 rfl rfl rfl ?_
      refine jT_xbipush (k := 8) (pcN := 7) jIG_165_5 (by decide) rfl ?_
      refine jT_xicF (t := 101) (pcN := 10) jIG_165_7 rfl (by decide +kernel) rfl rfl ?_
      refine jT_xiload_n (v := (0, r1)) (pcN := 11) jIG_165_10 rfl rfl rfl ?_
      refine jT_xiload_n (v := (0, 4)) (pcN := 12) jIG_165_11 rfl rfl rfl ?_
      refine jT_ishr (x := r1) (y := 4) (z := (Int32.ofInt r1 >>> (Int32.ofInt 4 &&& 31)).toInt) (by rfl) (by rfl) rfl ?_
      have hb_q1 : (-2147483648) ≤ (Int32.ofInt r1 >>> (Int32.ofInt 4 &&& 31)).toInt ∧ (Int32.ofInt r1 >>> (Int32.ofInt 4 &&& 31)).toInt ≤ 2147483647 := ⟨Int32.le_toInt _, Int.le_of_lt_add_one (Int32.toInt_lt _)⟩
      generalize hq_q1 : (Int32.ofInt r1 >>> (Int32.ofInt 4 &&& 31)).toInt = q1 at hb_q1 g_0 ⊢
      refine jT_xiconst (k := 1) (pcN := 14) jIG_165_13 rfl ?_
      refine jT_iand (x := q1) (y := 1) (z := q1 % 2) (by rfl) (by rfl) (jiand_1 _) ?_
      have hb_q2 : 0 ≤ q1 % 2 ∧ q1 % 2 ≤ 1 := ⟨by omega, by omega⟩
      generalize hq_q2 : q1 % 2 = q2 at hb_q2 g_0 ⊢
      refine jT_xiconst (k := 1) (pcN := 16) jIG_165_15 rfl ?_
      refine jT_icF (a := q2) (b := 1) (t := 95) (by rfl) (by rfl) (by rfl) (jw_idd (by omega) (by omega)) (jw_idd (by omega) (by omega)) (by simp only [jcP] <;> omega) ?_
      refine jT_xaload_n (v := (4, 0)) (pcN := 20) jIG_165_19 rfl rfl rfl ?_
      refine jT_xgetf (a := 0) (t := 1) (ci := 13) (fi := 11) (c := jzG_7) (v := (4, 11)) (pcN := 23) jIG_165_20 rfl rfl rfl rfl rfl rfl rfl ?_
      refine jT_xiload_n (v := (0, 4)) (pcN := 24) jIG_165_23 rfl rfl rfl ?_
      refine jT_fR [11, 12, 13, 14, 15, 16, 17] 19 (y := 57) (pcN := 27) (dC := 0) (bc1 := 0) (bc2 := 0) (c1 := b1) (c2 := b2) (as := [(4, 11), (0, 4)]) (asC := [(4, 0), (0, 4)]) (LN := [(3, (0, 4)), (2, (0, u)), (0, (4, 0)), (1, (0, r1))]) (stN := []) (hsC := jpG_54) (v := (4, 6)) (st2 := [(4, 17)]) (jG_57_24 (d := 0)) (by rfl) (by rfl) (by decide +kernel) (by rfl) (by rfl) (by omega) (by omega) (by omega) (by omega) rfl ?_
      refine jT_xastore (v := (4, 17)) (LN := [(4, (4, 17)), (3, (0, 4)), (2, (0, u)), (0, (4, 0)), (1, (0, r1))]) (pcN := 29) jIG_165_27 rfl rfl rfl rfl ?_
      refine jT_xaload_n (v := (4, 0)) (pcN := 30) jIG_165_29 rfl rfl rfl ?_
      refine jT_xaload (v := (4, 17)) (pcN := 32) jIG_165_30 rfl rfl rfl ?_
      refine jT_xbipush (k := 100) (pcN := 34) jIG_165_32 (by decide) rfl ?_
      refine jT_fR [0, 17, 18] 19 (y := 142) (pcN := 37) (dC := 1) (bc1 := 0) (bc2 := 0) (c1 := b1) (c2 := b2) (as := [(4, 0), (4, 17), (0, 100)]) (asC := [(4, 0), (4, 1), (0, 100)]) (LN := [(4, (4, 17)), (3, (0, 4)), (2, (0, u)), (0, (4, 0)), (1, (0, r1))]) (stN := []) (hsC := [jgh, (4, [(4, 2), (1, 1)], []), (101, [], [0, 0, 0, 0, 0, 0])]) (v := (9, 0)) (st2 := []) (jG_142_20 (d := 0)) (by rfl) (by rfl) (by decide +kernel) (by rfl) (by rfl) (by omega) (by omega) (by omega) (by omega) rfl ?_
      refine jT_xiconst (k := 0) (pcN := 38) jIG_165_37 rfl ?_
      refine jT_xistore (v := (0, 0)) (LN := [(5, (0, 0)), (4, (4, 17)), (3, (0, 4)), (2, (0, u)), (0, (4, 0)), (1, (0, r1))]) (pcN := 40) jIG_165_38 rfl rfl rfl rfl ?_
      refine jT_xiload (v := (0, 0)) (pcN := 42) jIG_165_40 rfl rfl rfl ?_
      refine jT_xbipush (k := 6) (pcN := 44) jIG_165_42 (by decide) rfl ?_
      refine jT_xicF (t := 93) (pcN := 47) jIG_165_44 rfl (by decide +kernel) rfl rfl ?_
      refine jT_xaload_n (v := (4, 0)) (pcN := 48) jIG_165_47 rfl rfl rfl ?_
      refine jT_xgetf (a := 0) (t := 1) (ci := 13) (fi := 7) (c := jzG_7) (v := (4, 8)) (pcN := 51) jIG_165_48 rfl rfl rfl rfl rfl rfl rfl ?_
      refine jT_xiload (v := (0, 0)) (pcN := 53) jIG_165_51 rfl rfl rfl ?_
      refine jT_xiload_n (v := (0, u)) (pcN := 54) jIG_165_53 rfl rfl rfl ?_
      refine jT_ifT (a := u) (t := 68) (by rfl) (by rfl) (by rfl) (jw_idd (by omega) (by omega)) (by simp only [jcP] <;> omega) ?_
      refine jT_xaload_n (v := (4, 0)) (pcN := 69) jIG_165_68 rfl rfl rfl ?_
      refine jT_xgetf (a := 0) (t := 1) (ci := 13) (fi := 7) (c := jzG_7) (v := (4, 8)) (pcN := 72) jIG_165_69 rfl rfl rfl rfl rfl rfl rfl ?_
      refine jT_xiload (v := (0, 0)) (pcN := 74) jIG_165_72 rfl rfl rfl ?_
      refine jT_lald (x := 0) (a := 8) (j := 0) (fs := []) (X := [0, 0, 0, 0, 0, 0]) jIG_165_74 rfl rfl rfl rfl ?_
      refine jT_eq (LN := [(5, (0, 0)), (4, (4, 17)), (3, (0, 4)), (2, (0, u)), (0, (4, 0)), (1, (0, r1))]) (stN := [(1, 0), (0, 0), (4, 8)]) (hsN := jpG_61) rfl rfl rfl ?_
      refine jT_xaload (v := (4, 17)) (pcN := 77) jIG_165_75 rfl rfl rfl ?_
      refine jT_xgetf (a := 17) (t := 2) (ci := 4) (fi := 0) (c := (4, [(4, 18), (1, 1)], [])) (v := (4, 18)) (pcN := 80) jIG_165_77 rfl rfl rfl rfl rfl rfl rfl ?_
      refine jT_xiload (v := (0, 0)) (pcN := 82) jIG_165_80 rfl rfl rfl ?_
      refine jT_lald (x := 0) (a := 18) (j := 0) (fs := []) (X := [0, 0, 0, 0, 0, 0]) jIG_165_82 rfl rfl rfl rfl ?_
      refine jT_eq (LN := [(5, (0, 0)), (4, (4, 17)), (3, (0, 4)), (2, (0, u)), (0, (4, 0)), (1, (0, r1))]) (stN := [(1, 0), (1, 0), (0, 0), (4, 8)]) (hsN := jpG_61) rfl rfl rfl ?_
      refine jT_mm4 (x := 0) (y := 0) (z := 0) (by rfl) (by rfl) (by rfl) (by rfl) (jwl_idd (by omega) (by omega)) (jwl_idd (by omega) (by omega)) (by rw [decide_eq_false (show ¬ ((0 : Int) < 0) by omega)]; rfl) ?_
      refine jT_adv 1 (pcN := 87) (LN := [(5, (0, 0)), (4, (4, 17)), (3, (0, 4)), (2, (0, u)), (0, (4, 0)), (1, (0, r1))]) (stN := []) (hsN := jpG_61) (c1 := 0) (s1 := 0) (c2 := b1) (s2 := b2) (by exact rfl) ?_ (by omega) (by omega)
      refine jT_xiinc (x := 0) (z := 1) (LN := [(5, (0, 1)), (4, (4, 17)), (3, (0, 4)), (2, (0, u)), (0, (4, 0)), (1, (0, r1))]) (pcN := 90) jIG_165_87 rfl rfl (by decide) rfl rfl ?_
      refine jT_xgoto (pcN := 40) jIG_165_90 rfl ?_
      refine jT_xiload (v := (0, 1)) (pcN := 42) jIG_165_40 rfl rfl rfl ?_
      refine jT_xbipush (k := 6) (pcN := 44) jIG_165_42 (by decide) rfl ?_
      refine jT_xicF (t := 93) (pcN := 47) jIG_165_44 rfl (by decide +kernel) rfl rfl ?_
      refine jT_xaload_n (v := (4, 0)) (pcN := 48) jIG_165_47 rfl rfl rfl ?_
      refine jT_xgetf (a := 0) (t := 1) (ci := 13) (fi := 7) (c := jzG_7) (v := (4, 8)) (pcN := 51) jIG_165_48 rfl rfl rfl rfl rfl rfl rfl ?_
      refine jT_xiload (v := (0, 1)) (pcN := 53) jIG_165_51 rfl rfl rfl ?_
      refine jT_xiload_n (v := (0, u)) (pcN := 54) jIG_165_53 rfl rfl rfl ?_
      refine jT_ifT (a := u) (t := 68) (by rfl) (by rfl) (by rfl) (jw_idd (by omega) (by omega)) (by simp only [jcP] <;> omega) ?_
      refine jT_xaload_n (v := (4, 0)) (pcN := 69) jIG_165_68 rfl rfl rfl ?_
      refine jT_xgetf (a := 0) (t := 1) (ci := 13) (fi := 7) (c := jzG_7) (v := (4, 8)) (pcN := 72) jIG_165_69 rfl rfl rfl rfl rfl rfl rfl ?_
      refine jT_xiload (v := (0, 1)) (pcN := 74) jIG_165_72 rfl rfl rfl ?_
      refine jT_lald (x := 0) (a := 8) (j := 1) (fs := []) (X := [0, 0, 0, 0, 0, 0]) jIG_165_74 rfl rfl rfl rfl ?_
      refine jT_eq (LN := [(5, (0, 1)), (4, (4, 17)), (3, (0, 4)), (2, (0, u)), (0, (4, 0)), (1, (0, r1))]) (stN := [(1, 0), (0, 1), (4, 8)]) (hsN := jpG_61) rfl rfl rfl ?_
      refine jT_xaload (v := (4, 17)) (pcN := 77) jIG_165_75 rfl rfl rfl ?_
      refine jT_xgetf (a := 17) (t := 2) (ci := 4) (fi := 0) (c := (4, [(4, 18), (1, 1)], [])) (v := (4, 18)) (pcN := 80) jIG_165_77 rfl rfl rfl rfl rfl rfl rfl ?_
      refine jT_xiload (v := (0, 1)) (pcN := 82) jIG_165_80 rfl rfl rfl ?_
      refine jT_lald (x := 0) (a := 18) (j := 1) (fs := []) (X := [0, 0, 0, 0, 0, 0]) jIG_165_82 rfl rfl rfl rfl ?_
      refine jT_eq (LN := [(5, (0, 1)), (4, (4, 17)), (3, (0, 4)), (2, (0, u)), (0, (4, 0)), (1, (0, r1))]) (stN := [(1, 0), (1, 0), (0, 1), (4, 8)]) (hsN := jpG_61) rfl rfl rfl ?_
      refine jT_mm4 (x := 0) (y := 0) (z := 0) (by rfl) (by rfl) (by rfl) (by rfl) (jwl_idd (by omega) (by omega)) (jwl_idd (by omega) (by omega)) (by rw [decide_eq_false (show ¬ ((0 : Int) < 0) by omega)]; rfl) ?_
      refine jT_adv 1 (pcN := 87) (LN := [(5, (0, 1)), (4, (4, 17)), (3, (0, 4)), (2, (0, u)), (0, (4, 0)), (1, (0, r1))]) (stN := []) (hsN := jpG_61) (c1 := 0) (s1 := 0) (c2 := b1) (s2 := b2) (by exact rfl) ?_ (by omega) (by omega)
      refine jT_xiinc (x := 1) (z := 2) (LN := [(5, (0, 2)), (4, (4, 17)), (3, (0, 4)), (2, (0, u)), (0, (4, 0)), (1, (0, r1))]) (pcN := 90) jIG_165_87 rfl rfl (by decide) rfl rfl ?_
      refine jT_xgoto (pcN := 40) jIG_165_90 rfl ?_
      refine jT_xiload (v := (0, 2)) (pcN := 42) jIG_165_40 rfl rfl rfl ?_
      refine jT_xbipush (k := 6) (pcN := 44) jIG_165_42 (by decide) rfl ?_
      refine jT_xicF (t := 93) (pcN := 47) jIG_165_44 rfl (by decide +kernel) rfl rfl ?_
      refine jT_xaload_n (v := (4, 0)) (pcN := 48) jIG_165_47 rfl rfl rfl ?_
      refine jT_xgetf (a := 0) (t := 1) (ci := 13) (fi := 7) (c := jzG_7) (v := (4, 8)) (pcN := 51) jIG_165_48 rfl rfl rfl rfl rfl rfl rfl ?_
      refine jT_xiload (v := (0, 2)) (pcN := 53) jIG_165_51 rfl rfl rfl ?_
      refine jT_xiload_n (v := (0, u)) (pcN := 54) jIG_165_53 rfl rfl rfl ?_
      refine jT_ifT (a := u) (t := 68) (by rfl) (by rfl) (by rfl) (jw_idd (by omega) (by omega)) (by simp only [jcP] <;> omega) ?_
      refine jT_xaload_n (v := (4, 0)) (pcN := 69) jIG_165_68 rfl rfl rfl ?_
      refine jT_xgetf (a := 0) (t := 1) (ci := 13) (fi := 7) (c := jzG_7) (v := (4, 8)) (pcN := 72) jIG_165_69 rfl rfl rfl rfl rfl rfl rfl ?_
      refine jT_xiload (v := (0, 2)) (pcN := 74) jIG_165_72 rfl rfl rfl ?_
      refine jT_lald (x := 0) (a := 8) (j := 2) (fs := []) (X := [0, 0, 0, 0, 0, 0]) jIG_165_74 rfl rfl rfl rfl ?_
      refine jT_eq (LN := [(5, (0, 2)), (4, (4, 17)), (3, (0, 4)), (2, (0, u)), (0, (4, 0)), (1, (0, r1))]) (stN := [(1, 0), (0, 2), (4, 8)]) (hsN := jpG_61) rfl rfl rfl ?_
      refine jT_xaload (v := (4, 17)) (pcN := 77) jIG_165_75 rfl rfl rfl ?_
      refine jT_xgetf (a := 17) (t := 2) (ci := 4) (fi := 0) (c := (4, [(4, 18), (1, 1)], [])) (v := (4, 18)) (pcN := 80) jIG_165_77 rfl rfl rfl rfl rfl rfl rfl ?_
      refine jT_xiload (v := (0, 2)) (pcN := 82) jIG_165_80 rfl rfl rfl ?_
      refine jT_lald (x := 0) (a := 18) (j := 2) (fs := []) (X := [0, 0, 0, 0, 0, 0]) jIG_165_82 rfl rfl rfl rfl ?_
      refine jT_eq (LN := [(5, (0, 2)), (4, (4, 17)), (3, (0, 4)), (2, (0, u)), (0, (4, 0)), (1, (0, r1))]) (stN := [(1, 0), (1, 0), (0, 2), (4, 8)]) (hsN := jpG_61) rfl rfl rfl ?_
      refine jT_mm4 (x := 0) (y := 0) (z := 0) (by rfl) (by rfl) (by rfl) (by rfl) (jwl_idd (by omega) (by omega)) (jwl_idd (by omega) (by omega)) (by rw [decide_eq_false (show ¬ ((0 : Int) < 0) by omega)]; rfl) ?_
      refine jT_adv 1 (pcN := 87) (LN := [(5, (0, 2)), (4, (4, 17)), (3, (0, 4)), (2, (0, u)), (0, (4, 0)), (1, (0, r1))]) (stN := []) (hsN := jpG_61) (c1 := 0) (s1 := 0) (c2 := b1) (s2 := b2) (by exact rfl) ?_ (by omega) (by omega)
      refine jT_xiinc (x := 2) (z := 3) (LN := [(5, (0, 3)), (4, (4, 17)), (3, (0, 4)), (2, (0, u)), (0, (4, 0)), (1, (0, r1))]) (pcN := 90) jIG_165_87 rfl rfl (by decide) rfl rfl ?_
      refine jT_xgoto (pcN := 40) jIG_165_90 rfl ?_
      refine jT_xiload (v := (0, 3)) (pcN := 42) jIG_165_40 rfl rfl rfl ?_
      refine jT_xbipush (k := 6) (pcN := 44) jIG_165_42 (by decide) rfl ?_
      refine jT_xicF (t := 93) (pcN := 47) jIG_165_44 rfl (by decide +kernel) rfl rfl ?_
      refine jT_xaload_n (v := (4, 0)) (pcN := 48) jIG_165_47 rfl rfl rfl ?_
      refine jT_xgetf (a := 0) (t := 1) (ci := 13) (fi := 7) (c := jzG_7) (v := (4, 8)) (pcN := 51) jIG_165_48 rfl rfl rfl rfl rfl rfl rfl ?_
      refine jT_xiload (v := (0, 3)) (pcN := 53) jIG_165_51 rfl rfl rfl ?_
      refine jT_xiload_n (v := (0, u)) (pcN := 54) jIG_165_53 rfl rfl rfl ?_
      refine jT_ifT (a := u) (t := 68) (by rfl) (by rfl) (by rfl) (jw_idd (by omega) (by omega)) (by simp only [jcP] <;> omega) ?_
      refine jT_xaload_n (v := (4, 0)) (pcN := 69) jIG_165_68 rfl rfl rfl ?_
      refine jT_xgetf (a := 0) (t := 1) (ci := 13) (fi := 7) (c := jzG_7) (v := (4, 8)) (pcN := 72) jIG_165_69 rfl rfl rfl rfl rfl rfl rfl ?_
      refine jT_xiload (v := (0, 3)) (pcN := 74) jIG_165_72 rfl rfl rfl ?_
      refine jT_lald (x := 0) (a := 8) (j := 3) (fs := []) (X := [0, 0, 0, 0, 0, 0]) jIG_165_74 rfl rfl rfl rfl ?_
      refine jT_eq (LN := [(5, (0, 3)), (4, (4, 17)), (3, (0, 4)), (2, (0, u)), (0, (4, 0)), (1, (0, r1))]) (stN := [(1, 0), (0, 3), (4, 8)]) (hsN := jpG_61) rfl rfl rfl ?_
      refine jT_xaload (v := (4, 17)) (pcN := 77) jIG_165_75 rfl rfl rfl ?_
      refine jT_xgetf (a := 17) (t := 2) (ci := 4) (fi := 0) (c := (4, [(4, 18), (1, 1)], [])) (v := (4, 18)) (pcN := 80) jIG_165_77 rfl rfl rfl rfl rfl rfl rfl ?_
      refine jT_xiload (v := (0, 3)) (pcN := 82) jIG_165_80 rfl rfl rfl ?_
      refine jT_lald (x := 0) (a := 18) (j := 3) (fs := []) (X := [0, 0, 0, 0, 0, 0]) jIG_165_82 rfl rfl rfl rfl ?_
      refine jT_eq (LN := [(5, (0, 3)), (4, (4, 17)), (3, (0, 4)), (2, (0, u)), (0, (4, 0)), (1, (0, r1))]) (stN := [(1, 0), (1, 0), (0, 3), (4, 8)]) (hsN := jpG_61) rfl rfl rfl ?_
      refine jT_mm4 (x := 0) (y := 0) (z := 0) (by rfl) (by rfl) (by rfl) (by rfl) (jwl_idd (by omega) (by omega)) (jwl_idd (by omega) (by omega)) (by rw [decide_eq_false (show ¬ ((0 : Int) < 0) by omega)]; rfl) ?_
      refine jT_adv 1 (pcN := 87) (LN := [(5, (0, 3)), (4, (4, 17)), (3, (0, 4)), (2, (0, u)), (0, (4, 0)), (1, (0, r1))]) (stN := []) (hsN := jpG_61) (c1 := 0) (s1 := 0) (c2 := b1) (s2 := b2) (by exact rfl) ?_ (by omega) (by omega)
      refine jT_xiinc (x := 3) (z := 4) (LN := [(5, (0, 4)), (4, (4, 17)), (3, (0, 4)), (2, (0, u)), (0, (4, 0)), (1, (0, r1))]) (pcN := 90) jIG_165_87 rfl rfl (by decide) rfl rfl ?_
      refine jT_xgoto (pcN := 40) jIG_165_90 rfl ?_
      refine jT_xiload (v := (0, 4)) (pcN := 42) jIG_165_40 rfl rfl rfl ?_
      refine jT_xbipush (k := 6) (pcN := 44) jIG_165_42 (by decide) rfl ?_
      refine jT_xicF (t := 93) (pcN := 47) jIG_165_44 rfl (by decide +kernel) rfl rfl ?_
      refine jT_xaload_n (v := (4, 0)) (pcN := 48) jIG_165_47 rfl rfl rfl ?_
      refine jT_xgetf (a := 0) (t := 1) (ci := 13) (fi := 7) (c := jzG_7) (v := (4, 8)) (pcN := 51) jIG_165_48 rfl rfl rfl rfl rfl rfl rfl ?_
      refine jT_xiload (v := (0, 4)) (pcN := 53) jIG_165_51 rfl rfl rfl ?_
      refine jT_xiload_n (v := (0, u)) (pcN := 54) jIG_165_53 rfl rfl rfl ?_
      refine jT_ifT (a := u) (t := 68) (by rfl) (by rfl) (by rfl) (jw_idd (by omega) (by omega)) (by simp only [jcP] <;> omega) ?_
      refine jT_xaload_n (v := (4, 0)) (pcN := 69) jIG_165_68 rfl rfl rfl ?_
      refine jT_xgetf (a := 0) (t := 1) (ci := 13) (fi := 7) (c := jzG_7) (v := (4, 8)) (pcN := 72) jIG_165_69 rfl rfl rfl rfl rfl rfl rfl ?_
      refine jT_xiload (v := (0, 4)) (pcN := 74) jIG_165_72 rfl rfl rfl ?_
      refine jT_lald (x := 0) (a := 8) (j := 4) (fs := []) (X := [0, 0, 0, 0, 0, 0]) jIG_165_74 rfl rfl rfl rfl ?_
      refine jT_eq (LN := [(5, (0, 4)), (4, (4, 17)), (3, (0, 4)), (2, (0, u)), (0, (4, 0)), (1, (0, r1))]) (stN := [(1, 0), (0, 4), (4, 8)]) (hsN := jpG_61) rfl rfl rfl ?_
      refine jT_xaload (v := (4, 17)) (pcN := 77) jIG_165_75 rfl rfl rfl ?_
      refine jT_xgetf (a := 17) (t := 2) (ci := 4) (fi := 0) (c := (4, [(4, 18), (1, 1)], [])) (v := (4, 18)) (pcN := 80) jIG_165_77 rfl rfl rfl rfl rfl rfl rfl ?_
      refine jT_xiload (v := (0, 4)) (pcN := 82) jIG_165_80 rfl rfl rfl ?_
      refine jT_lald (x := 0) (a := 18) (j := 4) (fs := []) (X := [0, 0, 0, 0, 0, 0]) jIG_165_82 rfl rfl rfl rfl ?_
      refine jT_eq (LN := [(5, (0, 4)), (4, (4, 17)), (3, (0, 4)), (2, (0, u)), (0, (4, 0)), (1, (0, r1))]) (stN := [(1, 0), (1, 0), (0, 4), (4, 8)]) (hsN := jpG_61) rfl rfl rfl ?_
      refine jT_mm4 (x := 0) (y := 0) (z := 0) (by rfl) (by rfl) (by rfl) (by rfl) (jwl_idd (by omega) (by omega)) (jwl_idd (by omega) (by omega)) (by rw [decide_eq_false (show ¬ ((0 : Int) < 0) by omega)]; rfl) ?_
      refine jT_adv 1 (pcN := 87) (LN := [(5, (0, 4)), (4, (4, 17)), (3, (0, 4)), (2, (0, u)), (0, (4, 0)), (1, (0, r1))]) (stN := []) (hsN := jpG_61) (c1 := 0) (s1 := 0) (c2 := b1) (s2 := b2) (by exact rfl) ?_ (by omega) (by omega)
      refine jT_xiinc (x := 4) (z := 5) (LN := [(5, (0, 5)), (4, (4, 17)), (3, (0, 4)), (2, (0, u)), (0, (4, 0)), (1, (0, r1))]) (pcN := 90) jIG_165_87 rfl rfl (by decide) rfl rfl ?_
      refine jT_xgoto (pcN := 40) jIG_165_90 rfl ?_
      refine jT_xiload (v := (0, 5)) (pcN := 42) jIG_165_40 rfl rfl rfl ?_
      refine jT_xbipush (k := 6) (pcN := 44) jIG_165_42 (by decide) rfl ?_
      refine jT_xicF (t := 93) (pcN := 47) jIG_165_44 rfl (by decide +kernel) rfl rfl ?_
      refine jT_xaload_n (v := (4, 0)) (pcN := 48) jIG_165_47 rfl rfl rfl ?_
      refine jT_xgetf (a := 0) (t := 1) (ci := 13) (fi := 7) (c := jzG_7) (v := (4, 8)) (pcN := 51) jIG_165_48 rfl rfl rfl rfl rfl rfl rfl ?_
      refine jT_xiload (v := (0, 5)) (pcN := 53) jIG_165_51 rfl rfl rfl ?_
      refine jT_xiload_n (v := (0, u)) (pcN := 54) jIG_165_53 rfl rfl rfl ?_
      refine jT_ifT (a := u) (t := 68) (by rfl) (by rfl) (by rfl) (jw_idd (by omega) (by omega)) (by simp only [jcP] <;> omega) ?_
      refine jT_xaload_n (v := (4, 0)) (pcN := 69) jIG_165_68 rfl rfl rfl ?_
      refine jT_xgetf (a := 0) (t := 1) (ci := 13) (fi := 7) (c := jzG_7) (v := (4, 8)) (pcN := 72) jIG_165_69 rfl rfl rfl rfl rfl rfl rfl ?_
      refine jT_xiload (v := (0, 5)) (pcN := 74) jIG_165_72 rfl rfl rfl ?_
      refine jT_lald (x := 0) (a := 8) (j := 5) (fs := []) (X := [0, 0, 0, 0, 0, 0]) jIG_165_74 rfl rfl rfl rfl ?_
      refine jT_eq (LN := [(5, (0, 5)), (4, (4, 17)), (3, (0, 4)), (2, (0, u)), (0, (4, 0)), (1, (0, r1))]) (stN := [(1, 0), (0, 5), (4, 8)]) (hsN := jpG_61) rfl rfl rfl ?_
      refine jT_xaload (v := (4, 17)) (pcN := 77) jIG_165_75 rfl rfl rfl ?_
      refine jT_xgetf (a := 17) (t := 2) (ci := 4) (fi := 0) (c := (4, [(4, 18), (1, 1)], [])) (v := (4, 18)) (pcN := 80) jIG_165_77 rfl rfl rfl rfl rfl rfl rfl ?_
      refine jT_xiload (v := (0, 5)) (pcN := 82) jIG_165_80 rfl rfl rfl ?_
      refine jT_lald (x := 0) (a := 18) (j := 5) (fs := []) (X := [0, 0, 0, 0, 0, 0]) jIG_165_82 rfl rfl rfl rfl ?_
      refine jT_eq (LN := [(5, (0, 5)), (4, (4, 17)), (3, (0, 4)), (2, (0, u)), (0, (4, 0)), (1, (0, r1))]) (stN := [(1, 0), (1, 0), (0, 5), (4, 8)]) (hsN := jpG_61) rfl rfl rfl ?_
      refine jT_mm4 (x := 0) (y := 0) (z := 0) (by rfl) (by rfl) (by rfl) (by rfl) (jwl_idd (by omega) (by omega)) (jwl_idd (by omega) (by omega)) (by rw [decide_eq_false (show ¬ ((0 : Int) < 0) by omega)]; rfl) ?_
      refine jT_adv 1 (pcN := 87) (LN := [(5, (0, 5)), (4, (4, 17)), (3, (0, 4)), (2, (0, u)), (0, (4, 0)), (1, (0, r1))]) (stN := []) (hsN := jpG_61) (c1 := 0) (s1 := 0) (c2 := b1) (s2 := b2) (by exact rfl) ?_ (by omega) (by omega)
      refine jT_xiinc (x := 5) (z := 6) (LN := [(5, (0, 6)), (4, (4, 17)), (3, (0, 4)), (2, (0, u)), (0, (4, 0)), (1, (0, r1))]) (pcN := 90) jIG_165_87 rfl rfl (by decide) rfl rfl ?_
      refine jT_xgoto (pcN := 40) jIG_165_90 rfl ?_
      refine jT_xiload (v := (0, 6)) (pcN := 42) jIG_165_40 rfl rfl rfl ?_
      refine jT_xbipush (k := 6) (pcN := 44) jIG_165_42 (by decide) rfl ?_
      refine jT_xicT (pcN := 93) jIG_165_44 rfl (by decide +kernel) rfl ?_
      refine jT_xiconst (k := 0) (pcN := 94) jIG_165_93 rfl ?_
      refine jT_xistore_n (v := (0, 0)) (LN := [(2, (0, 0)), (5, (0, 6)), (4, (4, 17)), (3, (0, 4)), (0, (4, 0)), (1, (0, r1))]) (pcN := 95) jIG_165_94 rfl rfl rfl rfl ?_
      refine jT_xiinc (x := 4) (z := 5) (LN := [(3, (0, 5)), (2, (0, 0)), (5, (0, 6)), (4, (4, 17)), (0, (4, 0)), (1, (0, r1))]) (pcN := 98) jIG_165_95 rfl rfl (by decide) rfl rfl ?_
      refine jT_xgoto (pcN := 4) jIG_165_98 rfl ?_
      refine jT_loc (LN := [(3, (0, 5)), (2, (0, 0)), (0, (4, 0)), (1, (0, r1))]) (by show List.Nodup [3, 2, 0, 1]; decide) (by intro q hq; simp only [List.mem_cons, List.not_mem_nil, or_false] at hq; rcases hq with rfl | rfl | rfl | rfl <;> rfl) ?_
      exact jGl_ch_28_5 hd (u := 0) (by omega) h_r1 h
  · refine jT_xiload_n (v := (0, 4)) (pcN := 5) jIG_165_4 rfl rfl rfl ?_
    refine jT_xbipush (k := 8) (pcN := 7) jIG_165_5 (by decide) rfl ?_
    refine jT_xicF (t := 101) (pcN := 10) jIG_165_7 rfl (by decide +kernel) rfl rfl ?_
    refine jT_xiload_n (v := (0, r1)) (pcN := 11) jIG_165_10 rfl rfl rfl ?_
    refine jT_xiload_n (v := (0, 4)) (pcN := 12) jIG_165_11 rfl rfl rfl ?_
    refine jT_ishr (x := r1) (y := 4) (z := (Int32.ofInt r1 >>> (Int32.ofInt 4 &&& 31)).toInt) (by rfl) (by rfl) rfl ?_
    have hb_q1 : (-2147483648) ≤ (Int32.ofInt r1 >>> (Int32.ofInt 4 &&& 31)).toInt ∧ (Int32.ofInt r1 >>> (Int32.ofInt 4 &&& 31)).toInt ≤ 2147483647 := ⟨Int32.le_toInt _, Int.le_of_lt_add_one (Int32.toInt_lt _)⟩
    generalize hq_q1 : (Int32.ofInt r1 >>> (Int32.ofInt 4 &&& 31)).toInt = q1 at hb_q1 g_0 ⊢
    refine jT_xiconst (k := 1) (pcN := 14) jIG_165_13 rfl ?_
    refine jT_iand (x := q1) (y := 1) (z := q1 % 2) (by rfl) (by rfl) (jiand_1 _) ?_
    have hb_q2 : 0 ≤ q1 % 2 ∧ q1 % 2 ≤ 1 := ⟨by omega, by omega⟩
    generalize hq_q2 : q1 % 2 = q2 at hb_q2 g_0 ⊢
    refine jT_xiconst (k := 1) (pcN := 16) jIG_165_15 rfl ?_
    refine jT_icT (a := q2) (b := 1) (t := 95) (by rfl) (by rfl) (by rfl) (jw_idd (by omega) (by omega)) (jw_idd (by omega) (by omega)) (by simp only [jcP] <;> omega) ?_
    refine jT_xiinc (x := 4) (z := 5) (LN := [(3, (0, 5)), (2, (0, u)), (0, (4, 0)), (1, (0, r1))]) (pcN := 98) jIG_165_95 rfl rfl (by decide) rfl rfl ?_
    refine jT_xgoto (pcN := 4) jIG_165_98 rfl ?_
    refine jT_loc (LN := [(3, (0, 5)), (2, (0, u)), (0, (4, 0)), (1, (0, r1))]) (by show List.Nodup [3, 2, 0, 1]; decide) (by intro q hq; simp only [List.mem_cons, List.not_mem_nil, or_false] at hq; rcases hq with rfl | rfl | rfl | rfl <;> rfl) ?_
    exact jGl_ch_28_5 hd (u := u) (by omega) h_r1 h
theorem jGl_ch_28_3 {xs : List Int} {d b1 b2 : Nat} {Q : Nat → JV → List JC → Prop} (hd : 2 < d) {r1 : Int} {u : Int} (h_u : 0 ≤ u ∧ u ≤ 1) (h_r1 : 1 ≤ r1 ∧ r1 ≤ 255) (h : jT xs d 165 19 101 [(0, (4, 0))] [] [jzG_7, jgh, jgh, jgh, jgh, jgh, jgh, jgh, (101, [], [0, 0, 0, 0, 0, 0]), jgh, jgh, jzG_59, jzG_60, jgh, jgh, jgh, jgh, (4, [(4, 18), (1, 1)], []), (101, [], [0, 0, 0, 0, 0, 0])] b1 b2 Q) : jT xs d 165 19 4 [(3, (0, 3)), (2, (0, u)), (0, (4, 0)), (1, (0, r1))] [] [jzG_7, jgh, jgh, jgh, jgh, jgh, jgh, jgh, (101, [], [0, 0, 0, 0, 0, 0]), jgh, jgh, jzG_59, jzG_60, jgh, jgh, jgh, jgh, (4, [(4, 18), (1, 1)], []), (101, [], [0, 0, 0, 0, 0, 0])] b1 b2 Q := by
  rcases (show (0 ≤ (((Int32.ofInt r1 >>> (Int32.ofInt 3 &&& 31)).toInt) % 2) - 1) ∨ ((((Int32.ofInt r1 >>> (Int32.ofInt 3 &&& 31)).toInt) % 2) - 1 < 0) by omega) with g_0 | g_0
  · rcases (show (0 ≤ u - 1) ∨ (u - 1 < 0) by omega) with g_1 | g_1
    · refine jT_xiload_n (v := (0, 3)) (pcN := 5) jIG_165_4 rfl rfl rfl ?_
      refine jT_xbipush (k := 8) (pcN := 7) jIG_165_5 (by decide) rfl ?_
      refine jT_xicF (t := 101) (pcN := 10) jIG_165_7 rfl (by decide +kernel) rfl rfl ?_
      refine jT_xiload_n (v := (0, r1)) (pcN := 11) jIG_165_10 rfl rfl rfl ?_
      refine jT_xiload_n (v := (0, 3)) (pcN := 12) jIG_165_11 rfl rfl rfl ?_
      refine jT_ishr (x := r1) (y := 3) (z := (Int32.ofInt r1 >>> (Int32.ofInt 3 &&& 31)).toInt) (by rfl) (by rfl) rfl ?_
      have hb_q1 : (-2147483648) ≤ (Int32.ofInt r1 >>> (Int32.ofInt 3 &&& 31)).toInt ∧ (Int32.ofInt r1 >>> (Int32.ofInt 3 &&& 31)).toInt ≤ 2147483647 := ⟨Int32.le_toInt _, Int.le_of_lt_add_one (Int32.toInt_lt _)⟩
      generalize hq_q1 : (Int32.ofInt r1 >>> (Int32.ofInt 3 &&& 31)).toInt = q1 at hb_q1 g_0 ⊢
      refine jT_xiconst (k := 1) (pcN := 14) jIG_165_13 rfl ?_
      refine jT_iand (x := q1) (y := 1) (z := q1 % 2) (by rfl) (by rfl) (jiand_1 _) ?_
      have hb_q2 : 0 ≤ q1 % 2 ∧ q1 % 2 ≤ 1 := ⟨by omega, by omega⟩
      generalize hq_q2 : q1 % 2 = q2 at hb_q2 g_0 ⊢
      refine jT_xiconst (k := 1) (pcN := 16) jIG_165_15 rfl ?_
      refine jT_icF (a := q2) (b := 1) (t := 95) (by rfl) (by rfl) (by rfl) (jw_idd (by omega) (by omega)) (jw_idd (by omega) (by omega)) (by simp only [jcP] <;> omega) ?_
      refine jT_xaload_n (v := (4, 0)) (pcN := 20) jIG_165_19 rfl rfl rfl ?_
      refine jT_xgetf (a := 0) (t := 1) (ci := 13) (fi := 11) (c := jzG_7) (v := (4, 11)) (pcN := 23) jIG_165_20 rfl rfl rfl rfl rfl rfl rfl ?_
      refine jT_xiload_n (v := (0, 3)) (pcN := 24) jIG_165_23 rfl rfl rfl ?_
      refine jT_fR [11, 12, 13, 14, 15, 16, 17] 19 (y := 57) (pcN := 27) (dC := 0) (bc1 := 0) (bc2 := 0) (c1 := b1) (c2 := b2) (as := [(4, 11), (0, 3)]) (asC := [(4, 0), (0, 3)]) (LN := [(3, (0, 3)), (2, (0, u)), (0, (4, 0)), (1, (0, r1))]) (stN := []) (hsC := jpG_54) (v := (4, 6)) (st2 := [(4, 17)]) (jG_57_23 (d := 0)) (by rfl) (by rfl) (by decide +kernel) (by rfl) (by rfl) (by omega) (by omega) (by omega) (by omega) rfl ?_
      refine jT_xastore (v := (4, 17)) (LN := [(4, (4, 17)), (3, (0, 3)), (2, (0, u)), (0, (4, 0)), (1, (0, r1))]) (pcN := 29) jIG_165_27 rfl rfl rfl rfl ?_
      refine jT_xaload_n (v := (4, 0)) (pcN := 30) jIG_165_29 rfl rfl rfl ?_
      refine jT_xaload (v := (4, 17)) (pcN := 32) jIG_165_30 rfl rfl rfl ?_
      refine jT_xbipush (k := 100) (pcN := 34) jIG_165_32 (by decide) rfl ?_
      refine jT_fR [0, 17, 18] 19 (y := 142) (pcN := 37) (dC := 1) (bc1 := 0) (bc2 := 0) (c1 := b1) (c2 := b2) (as := [(4, 0), (4, 17), (0, 100)]) (asC := [(4, 0), (4, 1), (0, 100)]) (LN := [(4, (4, 17)), (3, (0, 3)), (2, (0, u)), (0, (4, 0)), (1, (0, r1))]) (stN := []) (hsC := [jgh, (4, [(4, 2), (1, 1)], []), (101, [], [0, 0, 0, 0, 0, 0])]) (v := (9, 0)) (st2 := []) (jG_142_20 (d := 0)) (by rfl) (by rfl) (by decide +kernel) (by rfl) (by rfl) (by omega) (by omega) (by omega) (by omega) rfl ?_
      refine jT_xiconst (k := 0) (pcN := 38) jIG_165_37 rfl ?_
      refine jT_xistore (v := (0, 0)) (LN := [(5, (0, 0)), (4, (4, 17)), (3, (0, 3)), (2, (0, u)), (0, (4, 0)), (1, (0, r1))]) (pcN := 40) jIG_165_38 rfl rfl rfl rfl ?_
      refine jT_xiload (v := (0, 0)) (pcN := 42) jIG_165_40 rfl rfl rfl ?_
      refine jT_xbipush (k := 6) (pcN := 44) jIG_165_42 (by decide) rfl ?_
      refine jT_xicF (t := 93) (pcN := 47) jIG_165_44 rfl (by decide +kernel) rfl rfl ?_
      refine jT_xaload_n (v := (4, 0)) (pcN := 48) jIG_165_47 rfl rfl rfl ?_
      refine jT_xgetf (a := 0) (t := 1) (ci := 13) (fi := 7) (c := jzG_7) (v := (4, 8)) (pcN := 51) jIG_165_48 rfl rfl rfl rfl rfl rfl rfl ?_
      refine jT_xiload (v := (0, 0)) (pcN := 53) jIG_165_51 rfl rfl rfl ?_
      refine jT_xiload_n (v := (0, u)) (pcN := 54) jIG_165_53 rfl rfl rfl ?_
      refine jT_ifF (a := u) (t := 68) (by rfl) (by rfl) (by rfl) (jw_idd (by omega) (by omega)) (by simp only [jcP] <;> omega) ?_
      refine jT_xaload (v := (4, 17)) (pcN := 59) jIG_165_57 rfl rfl rfl ?_
      refine jT_xgetf (a := 17) (t := 2) (ci := 4) (fi := 0) (c := (4, [(4, 18), (1, 1)], [])) (v := (4, 18)) (pcN := 62) jIG_165_59 rfl rfl rfl rfl rfl rfl rfl ?_
      refine jT_xiload (v := (0, 0)) (pcN := 64) jIG_165_62 rfl rfl rfl ?_
      refine jT_lald (x := 0) (a := 18) (j := 0) (fs := []) (X := [0, 0, 0, 0, 0, 0]) jIG_165_64 rfl rfl rfl rfl ?_
      refine jT_eq (LN := [(5, (0, 0)), (4, (4, 17)), (3, (0, 3)), (2, (0, u)), (0, (4, 0)), (1, (0, r1))]) (stN := [(1, 0), (0, 0), (4, 8)]) (hsN := jpG_61) rfl rfl rfl ?_
      refine jT_xgoto (pcN := 86) jIG_165_65 rfl ?_
      refine jT_adv 1 (pcN := 87) (LN := [(5, (0, 0)), (4, (4, 17)), (3, (0, 3)), (2, (0, u)), (0, (4, 0)), (1, (0, r1))]) (stN := []) (hsN := jpG_61) (c1 := 0) (s1 := 0) (c2 := b1) (s2 := b2) (by exact rfl) ?_ (by omega) (by omega)
      refine jT_xiinc (x := 0) (z := 1) (LN := [(5, (0, 1)), (4, (4, 17)), (3, (0, 3)), (2, (0, u)), (0, (4, 0)), (1, (0, r1))]) (pcN := 90) jIG_165_87 rfl rfl (by decide) rfl rfl ?_
      refine jT_xgoto (pcN := 40) jIG_165_90 rfl ?_
      refine jT_xiload (v := (0, 1)) (pcN := 42) jIG_165_40 rfl rfl rfl ?_
      refine jT_xbipush (k := 6) (pcN := 44) jIG_165_42 (by decide) rfl ?_
      refine jT_xicF (t := 93) (pcN := 47) jIG_165_44 rfl (by decide +kernel) rfl rfl ?_
      refine jT_xaload_n (v := (4, 0)) (pcN := 48) jIG_165_47 rfl rfl rfl ?_
      refine jT_xgetf (a := 0) (t := 1) (ci := 13) (fi := 7) (c := jzG_7) (v := (4, 8)) (pcN := 51) jIG_165_48 rfl rfl rfl rfl rfl rfl rfl ?_
      refine jT_xiload (v := (0, 1)) (pcN := 53) jIG_165_51 rfl rfl rfl ?_
      refine jT_xiload_n (v := (0, u)) (pcN := 54) jIG_165_53 rfl rfl rfl ?_
      refine jT_ifF (a := u) (t := 68) (by rfl) (by rfl) (by rfl) (jw_idd (by omega) (by omega)) (by simp only [jcP] <;> omega) ?_
      refine jT_xaload (v := (4, 17)) (pcN := 59) jIG_165_57 rfl rfl rfl ?_
      refine jT_xgetf (a := 17) (t := 2) (ci := 4) (fi := 0) (c := (4, [(4, 18), (1, 1)], [])) (v := (4, 18)) (pcN := 62) jIG_165_59 rfl rfl rfl rfl rfl rfl rfl ?_
      refine jT_xiload (v := (0, 1)) (pcN := 64) jIG_165_62 rfl rfl rfl ?_
      refine jT_lald (x := 0) (a := 18) (j := 1) (fs := []) (X := [0, 0, 0, 0, 0, 0]) jIG_165_64 rfl rfl rfl rfl ?_
      refine jT_eq (LN := [(5, (0, 1)), (4, (4, 17)), (3, (0, 3)), (2, (0, u)), (0, (4, 0)), (1, (0, r1))]) (stN := [(1, 0), (0, 1), (4, 8)]) (hsN := jpG_61) rfl rfl rfl ?_
      refine jT_xgoto (pcN := 86) jIG_165_65 rfl ?_
      refine jT_adv 1 (pcN := 87) (LN := [(5, (0, 1)), (4, (4, 17)), (3, (0, 3)), (2, (0, u)), (0, (4, 0)), (1, (0, r1))]) (stN := []) (hsN := jpG_61) (c1 := 0) (s1 := 0) (c2 := b1) (s2 := b2) (by exact rfl) ?_ (by omega) (by omega)
      refine jT_xiinc (x := 1) (z := 2) (LN := [(5, (0, 2)), (4, (4, 17)), (3, (0, 3)), (2, (0, u)), (0, (4, 0)), (1, (0, r1))]) (pcN := 90) jIG_165_87 rfl rfl (by decide) rfl rfl ?_
      refine jT_xgoto (pcN := 40) jIG_165_90 rfl ?_
      refine jT_xiload (v := (0, 2)) (pcN := 42) jIG_165_40 rfl rfl rfl ?_
      refine jT_xbipush (k := 6) (pcN := 44) jIG_165_42 (by decide) rfl ?_
      refine jT_xicF (t := 93) (pcN := 47) jIG_165_44 rfl (by decide +kernel) rfl rfl ?_
      refine jT_xaload_n (v := (4, 0)) (pcN := 48) jIG_165_47 rfl rfl rfl ?_
      refine jT_xgetf (a := 0) (t := 1) (ci := 13) (fi := 7) (c := jzG_7) (v := (4, 8)) (pcN := 51) jIG_165_48 rfl rfl rfl rfl rfl rfl rfl ?_
      refine jT_xiload (v := (0, 2)) (pcN := 53) jIG_165_51 rfl rfl rfl ?_
      refine jT_xiload_n (v := (0, u)) (pcN := 54) jIG_165_53 rfl rfl rfl ?_
      refine jT_ifF (a := u) (t := 68) (by rfl) (by rfl) (by rfl) (jw_idd (by omega) (by omega)) (by simp only [jcP] <;> omega) ?_
      refine jT_xaload (v := (4, 17)) (pcN := 59) jIG_165_57 rfl rfl rfl ?_
      refine jT_xgetf (a := 17) (t := 2) (ci := 4) (fi := 0) (c := (4, [(4, 18), (1, 1)], [])) (v := (4, 18)) (pcN := 62) jIG_165_59 rfl rfl rfl rfl rfl rfl rfl ?_
      refine jT_xiload (v := (0, 2)) (pcN := 64) jIG_165_62 rfl rfl rfl ?_
      refine jT_lald (x := 0) (a := 18) (j := 2) (fs := []) (X := [0, 0, 0, 0, 0, 0]) jIG_165_64 rfl rfl rfl rfl ?_
      refine jT_eq (LN := [(5, (0, 2)), (4, (4, 17)), (3, (0, 3)), (2, (0, u)), (0, (4, 0)), (1, (0, r1))]) (stN := [(1, 0), (0, 2), (4, 8)]) (hsN := jpG_61) rfl rfl rfl ?_
      refine jT_xgoto (pcN := 86) jIG_165_65 rfl ?_
      refine jT_adv 1 (pcN := 87) (LN := [(5, (0, 2)), (4, (4, 17)), (3, (0, 3)), (2, (0, u)), (0, (4, 0)), (1, (0, r1))]) (stN := []) (hsN := jpG_61) (c1 := 0) (s1 := 0) (c2 := b1) (s2 := b2) (by exact rfl) ?_ (by omega) (by omega)
      refine jT_xiinc (x := 2) (z := 3) (LN := [(5, (0, 3)), (4, (4, 17)), (3, (0, 3)), (2, (0, u)), (0, (4, 0)), (1, (0, r1))]) (pcN := 90) jIG_165_87 rfl rfl (by decide) rfl rfl ?_
      refine jT_xgoto (pcN := 40) jIG_165_90 rfl ?_
      refine jT_xiload (v := (0, 3)) (pcN := 42) jIG_165_40 rfl rfl rfl ?_
      refine jT_xbipush (k := 6) (pcN := 44) jIG_165_42 (by decide) rfl ?_
      refine jT_xicF (t := 93) (pcN := 47) jIG_165_44 rfl (by decide +kernel) rfl rfl ?_
      refine jT_xaload_n (v := (4, 0)) (pcN := 48) jIG_165_47 rfl rfl rfl ?_
      refine jT_xgetf (a := 0) (t := 1) (ci := 13) (fi := 7) (c := jzG_7) (v := (4, 8)) (pcN := 51) jIG_165_48 rfl rfl rfl rfl rfl rfl rfl ?_
      refine jT_xiload (v := (0, 3)) (pcN := 53) jIG_165_51 rfl rfl rfl ?_
      refine jT_xiload_n (v := (0, u)) (pcN := 54) jIG_165_53 rfl rfl rfl ?_
      refine jT_ifF (a := u) (t := 68) (by rfl) (by rfl) (by rfl) (jw_idd (by omega) (by omega)) (by simp only [jcP] <;> omega) ?_
      refine jT_xaload (v := (4, 17)) (pcN := 59) jIG_165_57 rfl rfl rfl ?_
      refine jT_xgetf (a := 17) (t := 2) (ci := 4) (fi := 0) (c := (4, [(4, 18), (1, 1)], [])) (v := (4, 18)) (pcN := 62) jIG_165_59 rfl rfl rfl rfl rfl rfl rfl ?_
      refine jT_xiload (v := (0, 3)) (pcN := 64) jIG_165_62 rfl rfl rfl ?_
      refine jT_lald (x := 0) (a := 18) (j := 3) (fs := []) (X := [0, 0, 0, 0, 0, 0]) jIG_165_64 rfl rfl rfl rfl ?_
      refine jT_eq (LN := [(5, (0, 3)), (4, (4, 17)), (3, (0, 3)), (2, (0, u)), (0, (4, 0)), (1, (0, r1))]) (stN := [(1, 0), (0, 3), (4, 8)]) (hsN := jpG_61) rfl rfl rfl ?_
      refine jT_xgoto (pcN := 86) jIG_165_65 rfl ?_
      refine jT_adv 1 (pcN := 87) (LN := [(5, (0, 3)), (4, (4, 17)), (3, (0, 3)), (2, (0, u)), (0, (4, 0)), (1, (0, r1))]) (stN := []) (hsN := jpG_61) (c1 := 0) (s1 := 0) (c2 := b1) (s2 := b2) (by exact rfl) ?_ (by omega) (by omega)
      refine jT_xiinc (x := 3) (z := 4) (LN := [(5, (0, 4)), (4, (4, 17)), (3, (0, 3)), (2, (0, u)), (0, (4, 0)), (1, (0, r1))]) (pcN := 90) jIG_165_87 rfl rfl (by decide) rfl rfl ?_
      refine jT_xgoto (pcN := 40) jIG_165_90 rfl ?_
      refine jT_xiload (v := (0, 4)) (pcN := 42) jIG_165_40 rfl rfl rfl ?_
      refine jT_xbipush (k := 6) (pcN := 44) jIG_165_42 (by decide) rfl ?_
      refine jT_xicF (t := 93) (pcN := 47) jIG_165_44 rfl (by decide +kernel) rfl rfl ?_
      refine jT_xaload_n (v := (4, 0)) (pcN := 48) jIG_165_47 rfl rfl rfl ?_
      refine jT_xgetf (a := 0) (t := 1) (ci := 13) (fi := 7) (c := jzG_7) (v := (4, 8)) (pcN := 51) jIG_165_48 rfl rfl rfl rfl rfl rfl rfl ?_
      refine jT_xiload (v := (0, 4)) (pcN := 53) jIG_165_51 rfl rfl rfl ?_
      refine jT_xiload_n (v := (0, u)) (pcN := 54) jIG_165_53 rfl rfl rfl ?_
      refine jT_ifF (a := u) (t := 68) (by rfl) (by rfl) (by rfl) (jw_idd (by omega) (by omega)) (by simp only [jcP] <;> omega) ?_
      refine jT_xaload (v := (4, 17)) (pcN := 59) jIG_165_57 rfl rfl rfl ?_
      refine jT_xgetf (a := 17) (t := 2) (ci := 4) (fi := 0) (c := (4, [(4, 18), (1, 1)], [])) (v := (4, 18)) (pcN := 62) jIG_165_59 rfl rfl rfl rfl rfl rfl rfl ?_
      refine jT_xiload (v := (0, 4)) (pcN := 64) jIG_165_62 rfl rfl rfl ?_
      refine jT_lald (x := 0) (a := 18) (j := 4) (fs := []) (X := [0, 0, 0, 0, 0, 0]) jIG_165_64 rfl rfl rfl rfl ?_
      refine jT_eq (LN := [(5, (0, 4)), (4, (4, 17)), (3, (0, 3)), (2, (0, u)), (0, (4, 0)), (1, (0, r1))]) (stN := [(1, 0), (0, 4), (4, 8)]) (hsN := jpG_61) rfl rfl rfl ?_
      refine jT_xgoto (pcN := 86) jIG_165_65 rfl ?_
      refine jT_adv 1 (pcN := 87) (LN := [(5, (0, 4)), (4, (4, 17)), (3, (0, 3)), (2, (0, u)), (0, (4, 0)), (1, (0, r1))]) (stN := []) (hsN := jpG_61) (c1 := 0) (s1 := 0) (c2 := b1) (s2 := b2) (by exact rfl) ?_ (by omega) (by omega)
      refine jT_xiinc (x := 4) (z := 5) (LN := [(5, (0, 5)), (4, (4, 17)), (3, (0, 3)), (2, (0, u)), (0, (4, 0)), (1, (0, r1))]) (pcN := 90) jIG_165_87 rfl rfl (by decide) rfl rfl ?_
      refine jT_xgoto (pcN := 40) jIG_165_90 rfl ?_
      refine jT_xiload (v := (0, 5)) (pcN := 42) jIG_165_40 rfl rfl rfl ?_
      refine jT_xbipush (k := 6) (pcN := 44) jIG_165_42 (by decide) rfl ?_
      refine jT_xicF (t := 93) (pcN := 47) jIG_165_44 rfl (by decide +kernel) rfl rfl ?_
      refine jT_xaload_n (v := (4, 0)) (pcN := 48) jIG_165_47 rfl rfl rfl ?_
      refine jT_xgetf (a := 0) (t := 1) (ci := 13) (fi := 7) (c := jzG_7) (v := (4, 8)) (pcN := 51) jIG_165_48 rfl rfl rfl rfl rfl rfl rfl ?_
      refine jT_xiload (v := (0, 5)) (pcN := 53) jIG_165_51 rfl rfl rfl ?_
      refine jT_xiload_n (v := (0, u)) (pcN := 54) jIG_165_53 rfl rfl rfl ?_
      refine jT_ifF (a := u) (t := 68) (by rfl) (by rfl) (by rfl) (jw_idd (by omega) (by omega)) (by simp only [jcP] <;> omega) ?_
      refine jT_xaload (v := (4, 17)) (pcN := 59) jIG_165_57 rfl rfl rfl ?_
      refine jT_xgetf (a := 17) (t := 2) (ci := 4) (fi := 0) (c := (4, [(4, 18), (1, 1)], [])) (v := (4, 18)) (pcN := 62) jIG_165_59 rfl rfl rfl rfl rfl rfl rfl ?_
      refine jT_xiload (v := (0, 5)) (pcN := 64) jIG_165_62 rfl rfl rfl ?_
      refine jT_lald (x := 0) (a := 18) (j := 5) (fs := []) (X := [0, 0, 0, 0, 0, 0]) jIG_165_64 rfl rfl rfl rfl ?_
      refine jT_eq (LN := [(5, (0, 5)), (4, (4, 17)), (3, (0, 3)), (2, (0, u)), (0, (4, 0)), (1, (0, r1))]) (stN := [(1, 0), (0, 5), (4, 8)]) (hsN := jpG_61) rfl rfl rfl ?_
      refine jT_xgoto (pcN := 86) jIG_165_65 rfl ?_
      refine jT_adv 1 (pcN := 87) (LN := [(5, (0, 5)), (4, (4, 17)), (3, (0, 3)), (2, (0, u)), (0, (4, 0)), (1, (0, r1))]) (stN := []) (hsN := jpG_61) (c1 := 0) (s1 := 0) (c2 := b1) (s2 := b2) (by exact rfl) ?_ (by omega) (by omega)
      refine jT_xiinc (x := 5) (z := 6) (LN := [(5, (0, 6)), (4, (4, 17)), (3, (0, 3)), (2, (0, u)), (0, (4, 0)), (1, (0, r1))]) (pcN := 90) jIG_165_87 rfl rfl (by decide) rfl rfl ?_
      refine jT_xgoto (pcN := 40) jIG_165_90 rfl ?_
      refine jT_xiload (v := (0, 6)) (pcN := 42) jIG_165_40 rfl rfl rfl ?_
      refine jT_xbipush (k := 6) (pcN := 44) jIG_165_42 (by decide) rfl ?_
      refine jT_xicT (pcN := 93) jIG_165_44 rfl (by decide +kernel) rfl ?_
      refine jT_xiconst (k := 0) (pcN := 94) jIG_165_93 rfl ?_
      refine jT_xistore_n (v := (0, 0)) (LN := [(2, (0, 0)), (5, (0, 6)), (4, (4, 17)), (3, (0, 3)), (0, (4, 0)), (1, (0, r1))]) (pcN := 95) jIG_165_94 rfl rfl rfl rfl ?_
      refine jT_xiinc (x := 3) (z := 4) (LN := [(3, (0, 4)), (2, (0, 0)), (5, (0, 6)), (4, (4, 17)), (0, (4, 0)), (1, (0, r1))]) (pcN := 98) jIG_165_95 rfl rfl (by decide) rfl rfl ?_
      refine jT_xgoto (pcN := 4) jIG_165_98 rfl ?_
      refine jT_loc (LN := [(3, (0, 4)), (2, (0, 0)), (0, (4, 0)), (1, (0, r1))]) (by show List.Nodup [3, 2, 0, 1]; decide) (by intro q hq; simp only [List.mem_cons, List.not_mem_nil, or_false] at hq; rcases hq with rfl | rfl | rfl | rfl <;> rfl) ?_
      exact jGl_ch_28_4 hd (u := 0) (by omega) h_r1 h
    · refine jT_xiload_n (v := (0, 3)) (pcN := 5) jIG_165_4 rfl rfl rfl ?_
      refine jT_xbipush (k := 8) (pcN := 7) jIG_165_5 (by decide) rfl ?_
      refine jT_xicF (t := 101) (pcN := 10) jIG_165_7 rfl (by decide +kernel) rfl rfl ?_
      refine jT_xiload_n (v := (0, r1)) (pcN := 11) jIG_165_10 rfl rfl rfl ?_
      refine jT_xiload_n (v := (0, 3)) (pcN := 12) jIG_165_11 rfl rfl rfl ?_
      refine jT_ishr (x := r1) (y := 3) (z := (Int32.ofInt r1 >>> (Int32.ofInt 3 &&& 31)).toInt) (by rfl) (by rfl) rfl ?_
      have hb_q1 : (-2147483648) ≤ (Int32.ofInt r1 >>> (Int32.ofInt 3 &&& 31)).toInt ∧ (Int32.ofInt r1 >>> (Int32.ofInt 3 &&& 31)).toInt ≤ 2147483647 := ⟨Int32.le_toInt _, Int.le_of_lt_add_one (Int32.toInt_lt _)⟩
      generalize hq_q1 : (Int32.ofInt r1 >>> (Int32.ofInt 3 &&& 31)).toInt = q1 at hb_q1 g_0 ⊢
      refine jT_xiconst (k := 1) (pcN := 14) jIG_165_13 rfl ?_
      refine jT_iand (x := q1) (y := 1) (z := q1 % 2) (by rfl) (by rfl) (jiand_1 _) ?_
      have hb_q2 : 0 ≤ q1 % 2 ∧ q1 % 2 ≤ 1 := ⟨by omega, by omega⟩
      generalize hq_q2 : q1 % 2 = q2 at hb_q2 g_0 ⊢
      refine jT_xiconst (k := 1) (pcN := 16) jIG_165_15 rfl ?_
      refine jT_icF (a := q2) (b := 1) (t := 95) (by rfl) (by rfl) (by rfl) (jw_idd (by omega) (by omega)) (jw_idd (by omega) (by omega)) (by simp only [jcP] <;> omega) ?_
      refine jT_xaload_n (v := (4, 0)) (pcN := 20) jIG_165_19 rfl rfl rfl ?_
      refine jT_xgetf (a := 0) (t := 1) (ci := 13) (fi := 11) (c := jzG_7) (v := (4, 11)) (pcN := 23) jIG_165_20 rfl rfl rfl rfl rfl rfl rfl ?_
      refine jT_xiload_n (v := (0, 3)) (pcN := 24) jIG_165_23 rfl rfl rfl ?_
      refine jT_fR [11, 12, 13, 14, 15, 16, 17] 19 (y := 57) (pcN := 27) (dC := 0) (bc1 := 0) (bc2 := 0) (c1 := b1) (c2 := b2) (as := [(4, 11), (0, 3)]) (asC := [(4, 0), (0, 3)]) (LN := [(3, (0, 3)), (2, (0, u)), (0, (4, 0)), (1, (0, r1))]) (stN := []) (hsC := jpG_54) (v := (4, 6)) (st2 := [(4, 17)]) (jG_57_23 (d := 0)) (by rfl) (by rfl) (by decide +kernel) (by rfl) (by rfl) (by omega) (by omega) (by omega) (by omega) rfl ?_
      refine jT_xastore (v := (4, 17)) (LN := [(4, (4, 17)), (3, (0, 3)), (2, (0, u)), (0, (4, 0)), (1, (0, r1))]) (pcN := 29) jIG_165_27 rfl rfl rfl rfl ?_
      refine jT_xaload_n (v := (4, 0)) (pcN := 30) jIG_165_29 rfl rfl rfl ?_
      refine jT_xaload (v := (4, 17)) (pcN := 32) jIG_165_30 rfl rfl rfl ?_
      refine jT_xbipush (k := 100) (pcN := 34) jIG_165_32 (by decide) rfl ?_
      refine jT_fR [0, 17, 18] 19 (y := 142) (pcN := 37) (dC := 1) (bc1 := 0) (bc2 := 0) (c1 := b1) (c2 := b2) (as := [(4, 0), (4, 17), (0, 100)]) (asC := [(4, 0), (4, 1), (0, 100)]) (LN := [(4, (4, 17)), (3, (0, 3)), (2, (0, u)), (0, (4, 0)), (1, (0, r1))]) (stN := []) (hsC := [jgh, (4, [(4, 2), (1, 1)], []), (101, [], [0, 0, 0, 0, 0, 0])]) (v := (9, 0)) (st2 := []) (jG_142_20 (d := 0)) (by rfl) (by rfl) (by decide +kernel) (by rfl) (by rfl) (by omega) (by omega) (by omega) (by omega) rfl ?_
      refine jT_xiconst (k := 0) (pcN := 38) jIG_165_37 rfl ?_
      refine jT_xistore (v := (0, 0)) (LN := [(5, (0, 0)), (4, (4, 17)), (3, (0, 3)), (2, (0, u)), (0, (4, 0)), (1, (0, r1))]) (pcN := 40) jIG_165_38 rfl rfl rfl rfl ?_
      refine jT_xiload (v := (0, 0)) (pcN := 42) jIG_165_40 rfl rfl rfl ?_
      refine jT_xbipush (k := 6) (pcN := 44) jIG_165_42 (by decide) rfl ?_
      refine jT_xicF (t := 93) (pcN := 47) jIG_165_44 rfl (by decide +kernel) rfl rfl ?_
      refine jT_xaload_n (v := (4, 0)) (pcN := 48) jIG_165_47 rfl rfl rfl ?_
      refine jT_xgetf (a := 0) (t := 1) (ci := 13) (fi := 7) (c := jzG_7) (v := (4, 8)) (pcN := 51) jIG_165_48 rfl rfl rfl rfl rfl rfl rfl ?_
      refine jT_xiload (v := (0, 0)) (pcN := 53) jIG_165_51 rfl rfl rfl ?_
      refine jT_xiload_n (v := (0, u)) (pcN := 54) jIG_165_53 rfl rfl rfl ?_
      refine jT_ifT (a := u) (t := 68) (by rfl) (by rfl) (by rfl) (jw_idd (by omega) (by omega)) (by simp only [jcP] <;> omega) ?_
      refine jT_xaload_n (v := (4, 0)) (pcN := 69) jIG_165_68 rfl rfl rfl ?_
      refine jT_xgetf (a := 0) (t := 1) (ci := 13) (fi := 7) (c := jzG_7) (v := (4, 8)) (pcN := 72) jIG_165_69 rfl rfl rfl rfl rfl rfl rfl ?_
      refine jT_xiload (v := (0, 0)) (pcN := 74) jIG_165_72 rfl rfl rfl ?_
      refine jT_lald (x := 0) (a := 8) (j := 0) (fs := []) (X := [0, 0, 0, 0, 0, 0]) jIG_165_74 rfl rfl rfl rfl ?_
      refine jT_eq (LN := [(5, (0, 0)), (4, (4, 17)), (3, (0, 3)), (2, (0, u)), (0, (4, 0)), (1, (0, r1))]) (stN := [(1, 0), (0, 0), (4, 8)]) (hsN := jpG_61) rfl rfl rfl ?_
      refine jT_xaload (v := (4, 17)) (pcN := 77) jIG_165_75 rfl rfl rfl ?_
      refine jT_xgetf (a := 17) (t := 2) (ci := 4) (fi := 0) (c := (4, [(4, 18), (1, 1)], [])) (v := (4, 18)) (pcN := 80) jIG_165_77 rfl rfl rfl rfl rfl rfl rfl ?_
      refine jT_xiload (v := (0, 0)) (pcN := 82) jIG_165_80 rfl rfl rfl ?_
      refine jT_lald (x := 0) (a := 18) (j := 0) (fs := []) (X := [0, 0, 0, 0, 0, 0]) jIG_165_82 rfl rfl rfl rfl ?_
      refine jT_eq (LN := [(5, (0, 0)), (4, (4, 17)), (3, (0, 3)), (2, (0, u)), (0, (4, 0)), (1, (0, r1))]) (stN := [(1, 0), (1, 0), (0, 0), (4, 8)]) (hsN := jpG_61) rfl rfl rfl ?_
      refine jT_mm4 (x := 0) (y := 0) (z := 0) (by rfl) (by rfl) (by rfl) (by rfl) (jwl_idd (by omega) (by omega)) (jwl_idd (by omega) (by omega)) (by rw [decide_eq_false (show ¬ ((0 : Int) < 0) by omega)]; rfl) ?_
      refine jT_adv 1 (pcN := 87) (LN := [(5, (0, 0)), (4, (4, 17)), (3, (0, 3)), (2, (0, u)), (0, (4, 0)), (1, (0, r1))]) (stN := []) (hsN := jpG_61) (c1 := 0) (s1 := 0) (c2 := b1) (s2 := b2) (by exact rfl) ?_ (by omega) (by omega)
      refine jT_xiinc (x := 0) (z := 1) (LN := [(5, (0, 1)), (4, (4, 17)), (3, (0, 3)), (2, (0, u)), (0, (4, 0)), (1, (0, r1))]) (pcN := 90) jIG_165_87 rfl rfl (by decide) rfl rfl ?_
      refine jT_xgoto (pcN := 40) jIG_165_90 rfl ?_
      refine jT_xiload (v := (0, 1)) (pcN := 42) jIG_165_40 rfl rfl rfl ?_
      refine jT_xbipush (k := 6) (pcN := 44) jIG_165_42 (by decide) rfl ?_
      refine jT_xicF (t := 93) (pcN := 47) jIG_165_44 rfl (by decide +kernel) rfl rfl ?_
      refine jT_xaload_n (v := (4, 0)) (pcN := 48) jIG_165_47 rfl rfl rfl ?_
      refine jT_xgetf (a := 0) (t := 1) (ci := 13) (fi := 7) (c := jzG_7) (v := (4, 8)) (pcN := 51) jIG_165_48 rfl rfl rfl rfl rfl rfl rfl ?_
      refine jT_xiload (v := (0, 1)) (pcN := 53) jIG_165_51 rfl rfl rfl ?_
      refine jT_xiload_n (v := (0, u)) (pcN := 54) jIG_165_53 rfl rfl rfl ?_
      refine jT_ifT (a := u) (t := 68) (by rfl) (by rfl) (by rfl) (jw_idd (by omega) (by omega)) (by simp only [jcP] <;> omega) ?_
      refine jT_xaload_n (v := (4, 0)) (pcN := 69) jIG_165_68 rfl rfl rfl ?_
      refine jT_xgetf (a := 0) (t := 1) (ci := 13) (fi := 7) (c := jzG_7) (v := (4, 8)) (pcN := 72) jIG_165_69 rfl rfl rfl rfl rfl rfl rfl ?_
      refine jT_xiload (v := (0, 1)) (pcN := 74) jIG_165_72 rfl rfl rfl ?_
      refine jT_lald (x := 0) (a := 8) (j := 1) (fs := []) (X := [0, 0, 0, 0, 0, 0]) jIG_165_74 rfl rfl rfl rfl ?_
      refine jT_eq (LN := [(5, (0, 1)), (4, (4, 17)), (3, (0, 3)), (2, (0, u)), (0, (4, 0)), (1, (0, r1))]) (stN := [(1, 0), (0, 1), (4, 8)]) (hsN := jpG_61) rfl rfl rfl ?_
      refine jT_xaload (v := (4, 17)) (pcN := 77) jIG_165_75 rfl rfl rfl ?_
      refine jT_xgetf (a := 17) (t := 2) (ci := 4) (fi := 0) (c := (4, [(4, 18), (1, 1)], [])) (v := (4, 18)) (pcN := 80) jIG_165_77 rfl rfl rfl rfl rfl rfl rfl ?_
      refine jT_xiload (v := (0, 1)) (pcN := 82) jIG_165_80 rfl rfl rfl ?_
      refine jT_lald (x := 0) (a := 18) (j := 1) (fs := []) (X := [0, 0, 0, 0, 0, 0]) jIG_165_82 rfl rfl rfl rfl ?_
      refine jT_eq (LN := [(5, (0, 1)), (4, (4, 17)), (3, (0, 3)), (2, (0, u)), (0, (4, 0)), (1, (0, r1))]) (stN := [(1, 0), (1, 0), (0, 1), (4, 8)]) (hsN := jpG_61) rfl rfl rfl ?_
      refine jT_mm4 (x := 0) (y := 0) (z := 0) (by rfl) (by rfl) (by rfl) (by rfl) (jwl_idd (by omega) (by omega)) (jwl_idd (by omega) (by omega)) (by rw [decide_eq_false (show ¬ ((0 : Int) < 0) by omega)]; rfl) ?_
      refine jT_adv 1 (pcN := 87) (LN := [(5, (0, 1)), (4, (4, 17)), (3, (0, 3)), (2, (0, u)), (0, (4, 0)), (1, (0, r1))]) (stN := []) (hsN := jpG_61) (c1 := 0) (s1 := 0) (c2 := b1) (s2 := b2) (by exact rfl) ?_ (by omega) (by omega)
      refine jT_xiinc (x := 1) (z := 2) (LN := [(5, (0, 2)), (4, (4, 17)), (3, (0, 3)), (2, (0, u)), (0, (4, 0)), (1, (0, r1))]) (pcN := 90) jIG_165_87 rfl rfl (by decide) rfl rfl ?_
      refine jT_xgoto (pcN := 40) jIG_165_90 rfl ?_
      refine jT_xiload (v := (0, 2)) (pcN := 42) jIG_165_40 rfl rfl rfl ?_
      refine jT_xbipush (k := 6) (pcN := 44) jIG_165_42 (by decide) rfl ?_
      refine jT_xicF (t := 93) (pcN := 47) jIG_165_44 rfl (by decide +kernel) rfl rfl ?_
      refine jT_xaload_n (v := (4, 0)) (pcN := 48) jIG_165_47 rfl rfl rfl ?_
      refine jT_xgetf (a := 0) (t := 1) (ci := 13) (fi := 7) (c := jzG_7) (v := (4, 8)) (pcN := 51) jIG_165_48 rfl rfl rfl rfl rfl rfl rfl ?_
      refine jT_xiload (v := (0, 2)) (pcN := 53) jIG_165_51 rfl rfl rfl ?_
      refine jT_xiload_n (v := (0, u)) (pcN := 54) jIG_165_53 rfl rfl rfl ?_
      refine jT_ifT (a := u) (t := 68) (by rfl) (by rfl) (by rfl) (jw_idd (by omega) (by omega)) (by simp only [jcP] <;> omega) ?_
      refine jT_xaload_n (v := (4, 0)) (pcN := 69) jIG_165_68 rfl rfl rfl ?_
      refine jT_xgetf (a := 0) (t := 1) (ci := 13) (fi := 7) (c := jzG_7) (v := (4, 8)) (pcN := 72) jIG_165_69 rfl rfl rfl rfl rfl rfl rfl ?_
      refine jT_xiload (v := (0, 2)) (pcN := 74) jIG_165_72 rfl rfl rfl ?_
      refine jT_lald (x := 0) (a := 8) (j := 2) (fs := []) (X := [0, 0, 0, 0, 0, 0]) jIG_165_74 rfl rfl rfl rfl ?_
      refine jT_eq (LN := [(5, (0, 2)), (4, (4, 17)), (3, (0, 3)), (2, (0, u)), (0, (4, 0)), (1, (0, r1))]) (stN := [(1, 0), (0, 2), (4, 8)]) (hsN := jpG_61) rfl rfl rfl ?_
      refine jT_xaload (v := (4, 17)) (pcN := 77) jIG_165_75 rfl rfl rfl ?_
      refine jT_xgetf (a := 17) (t := 2) (ci := 4) (fi := 0) (c := (4, [(4, 18), (1, 1)], [])) (v := (4, 18)) (pcN := 80) jIG_165_77 rfl rfl rfl rfl rfl rfl rfl ?_
      refine jT_xiload (v := (0, 2)) (pcN := 82) jIG_165_80 rfl rfl rfl ?_
      refine jT_lald (x := 0) (a := 18) (j := 2) (fs := []) (X := [0, 0, 0, 0, 0, 0]) jIG_165_82 rfl rfl rfl rfl ?_
      refine jT_eq (LN := [(5, (0, 2)), (4, (4, 17)), (3, (0, 3)), (2, (0, u)), (0, (4, 0)), (1, (0, r1))]) (stN := [(1, 0), (1, 0), (0, 2), (4, 8)]) (hsN := jpG_61) rfl rfl rfl ?_
      refine jT_mm4 (x := 0) (y := 0) (z := 0) (by rfl) (by rfl) (by rfl) (by rfl) (jwl_idd (by omega) (by omega)) (jwl_idd (by omega) (by omega)) (by rw [decide_eq_false (show ¬ ((0 : Int) < 0) by omega)]; rfl) ?_
      refine jT_adv 1 (pcN := 87) (LN := [(5, (0, 2)), (4, (4, 17)), (3, (0, 3)), (2, (0, u)), (0, (4, 0)), (1, (0, r1))]) (stN := []) (hsN := jpG_61) (c1 := 0) (s1 := 0) (c2 := b1) (s2 := b2) (by exact rfl) ?_ (by omega) (by omega)
      refine jT_xiinc (x := 2) (z := 3) (LN := [(5, (0, 3)), (4, (4, 17)), (3, (0, 3)), (2, (0, u)), (0, (4, 0)), (1, (0, r1))]) (pcN := 90) jIG_165_87 rfl rfl (by decide) rfl rfl ?_
      refine jT_xgoto (pcN := 40) jIG_165_90 rfl ?_
      refine jT_xiload (v := (0, 3)) (pcN := 42) jIG_165_40 rfl rfl rfl ?_
      refine jT_xbipush (k := 6) (pcN := 44) jIG_165_42 (by decide) rfl ?_
      refine jT_xicF (t := 93) (pcN := 47) jIG_165_44 rfl (by decide +kernel) rfl rfl ?_
      refine jT_xaload_n (v := (4, 0)) (pcN := 48) jIG_165_47 rfl rfl rfl ?_
      refine jT_xgetf (a := 0) (t := 1) (ci := 13) (fi := 7) (c := jzG_7) (v := (4, 8)) (pcN := 51) jIG_165_48 rfl rfl rfl rfl rfl rfl rfl ?_
      refine jT_xiload (v := (0, 3)) (pcN := 53) jIG_165_51 rfl rfl rfl ?_
      refine jT_xiload_n (v := (0, u)) (pcN := 54) jIG_165_53 rfl rfl rfl ?_
      refine jT_ifT (a := u) (t := 68) (by rfl) (by rfl) (by rfl) (jw_idd (by omega) (by omega)) (by simp only [jcP] <;> omega) ?_
      refine jT_xaload_n (v := (4, 0)) (pcN := 69) jIG_165_68 rfl rfl rfl ?_
      refine jT_xgetf (a := 0) (t := 1) (ci := 13) (fi := 7) (c := jzG_7) (v := (4, 8)) (pcN := 72) jIG_165_69 rfl rfl rfl rfl rfl rfl rfl ?_
      refine jT_xiload (v := (0, 3)) (pcN := 74) jIG_165_72 rfl rfl rfl ?_
      refine jT_lald (x := 0) (a := 8) (j := 3) (fs := []) (X := [0, 0, 0, 0, 0, 0]) jIG_165_74 rfl rfl rfl rfl ?_
      refine jT_eq (LN := [(5, (0, 3)), (4, (4, 17)), (3, (0, 3)), (2, (0, u)), (0, (4, 0)), (1, (0, r1))]) (stN := [(1, 0), (0, 3), (4, 8)]) (hsN := jpG_61) rfl rfl rfl ?_
      refine jT_xaload (v := (4, 17)) (pcN := 77) jIG_165_75 rfl rfl rfl ?_
      refine jT_xgetf (a := 17) (t := 2) (ci := 4) (fi := 0) (c := (4, [(4, 18), (1, 1)], [])) (v := (4, 18)) (pcN := 80) jIG_165_77 rfl rfl rfl rfl rfl rfl rfl ?_
      refine jT_xiload (v := (0, 3)) (pcN := 82) jIG_165_80 rfl rfl rfl ?_
      refine jT_lald (x := 0) (a := 18) (j := 3) (fs := []) (X := [0, 0, 0, 0, 0, 0]) jIG_165_82 rfl rfl rfl rfl ?_
      refine jT_eq (LN := [(5, (0, 3)), (4, (4, 17)), (3, (0, 3)), (2, (0, u)), (0, (4, 0)), (1, (0, r1))]) (stN := [(1, 0), (1, 0), (0, 3), (4, 8)]) (hsN := jpG_61) rfl rfl rfl ?_
      refine jT_mm4 (x := 0) (y := 0) (z := 0) (by rfl) (by rfl) (by rfl) (by rfl) (jwl_idd (by omega) (by omega)) (jwl_idd (by omega) (by omega)) (by rw [decide_eq_false (show ¬ ((0 : Int) < 0) by omega)]; rfl) ?_
      refine jT_adv 1 (pcN := 87) (LN := [(5, (0, 3)), (4, (4, 17)), (3, (0, 3)), (2, (0, u)), (0, (4, 0)), (1, (0, r1))]) (stN := []) (hsN := jpG_61) (c1 := 0) (s1 := 0) (c2 := b1) (s2 := b2) (by exact rfl) ?_ (by omega) (by omega)
      refine jT_xiinc (x := 3) (z := 4) (LN := [(5, (0, 4)), (4, (4, 17)), (3, (0, 3)), (2, (0, u)), (0, (4, 0)), (1, (0, r1))]) (pcN := 90) jIG_165_87 rfl rfl (by decide) rfl rfl ?_
      refine jT_xgoto (pcN := 40) jIG_165_90 rfl ?_
      refine jT_xiload (v := (0, 4)) (pcN := 42) jIG_165_40 rfl rfl rfl ?_
      refine jT_xbipush (k := 6) (pcN := 44) jIG_165_42 (by decide) rfl ?_
      refine jT_xicF (t := 93) (pcN := 47) jIG_165_44 rfl (by decide +kernel) rfl rfl ?_
      refine jT_xaload_n (v := (4, 0)) (pcN := 48) jIG_165_47 rfl rfl rfl ?_
      refine jT_xgetf (a := 0) (t := 1) (ci := 13) (fi := 7) (c := jzG_7) (v := (4, 8)) (pcN := 51) jIG_165_48 rfl rfl rfl rfl rfl rfl rfl ?_
      refine jT_xiload (v := (0, 4)) (pcN := 53) jIG_165_51 rfl rfl rfl ?_
      refine jT_xiload_n (v := (0, u)) (pcN := 54) jIG_165_53 rfl rfl rfl ?_
      refine jT_ifT (a := u) (t := 68) (by rfl) (by rfl) (by rfl) (jw_idd (by omega) (by omega)) (by simp only [jcP] <;> omega) ?_
      refine jT_xaload_n (v := (4, 0)) (pcN := 69) jIG_165_68 rfl rfl rfl ?_
      refine jT_xgetf (a := 0) (t := 1) (ci := 13) (fi := 7) (c := jzG_7) (v := (4, 8)) (pcN := 72) jIG_165_69 rfl rfl rfl rfl rfl rfl rfl ?_
      refine jT_xiload (v := (0, 4)) (pcN := 74) jIG_165_72 rfl rfl rfl ?_
      refine jT_lald (x := 0) (a := 8) (j := 4) (fs := []) (X := [0, 0, 0, 0, 0, 0]) jIG_165_74 rfl rfl rfl rfl ?_
      refine jT_eq (LN := [(5, (0, 4)), (4, (4, 17)), (3, (0, 3)), (2, (0, u)), (0, (4, 0)), (1, (0, r1))]) (stN := [(1, 0), (0, 4), (4, 8)]) (hsN := jpG_61) rfl rfl rfl ?_
      refine jT_xaload (v := (4, 17)) (pcN := 77) jIG_165_75 rfl rfl rfl ?_
      refine jT_xgetf (a := 17) (t := 2) (ci := 4) (fi := 0) (c := (4, [(4, 18), (1, 1)], [])) (v := (4, 18)) (pcN := 80) jIG_165_77 rfl rfl rfl rfl rfl rfl rfl ?_
      refine jT_xiload (v := (0, 4)) (pcN := 82) jIG_165_80 rfl rfl rfl ?_
      refine jT_lald (x := 0) (a := 18) (j := 4) (fs := []) (X := [0, 0, 0, 0, 0, 0]) jIG_165_82 rfl rfl rfl rfl ?_
      refine jT_eq (LN := [(5, (0, 4)), (4, (4, 17)), (3, (0, 3)), (2, (0, u)), (0, (4, 0)), (1, (0, r1))]) (stN := [(1, 0), (1, 0), (0, 4), (4, 8)]) (hsN := jpG_61) rfl rfl rfl ?_
      refine jT_mm4 (x := 0) (y := 0) (z := 0) (by rfl) (by rfl) (by rfl) (by rfl) (jwl_idd (by omega) (by omega)) (jwl_idd (by omega) (by omega)) (by rw [decide_eq_false (show ¬ ((0 : Int) < 0) by omega)]; rfl) ?_
      refine jT_adv 1 (pcN := 87) (LN := [(5, (0, 4)), (4, (4, 17)), (3, (0, 3)), (2, (0, u)), (0, (4, 0)), (1, (0, r1))]) (stN := []) (hsN := jpG_61) (c1 := 0) (s1 := 0) (c2 := b1) (s2 := b2) (by exact rfl) ?_ (by omega) (by omega)
      refine jT_xiinc (x := 4) (z := 5) (LN := [(5, (0, 5)), (4, (4, 17)), (3, (0, 3)), (2, (0, u)), (0, (4, 0)), (1, (0, r1))]) (pcN := 90) jIG_165_87 rfl rfl (by decide) rfl rfl ?_
      refine jT_xgoto (pcN := 40) jIG_165_90 rfl ?_
      refine jT_xiload (v := (0, 5)) (pcN := 42) jIG_165_40 rfl rfl rfl ?_
      refine jT_xbipush (k := 6) (pcN := 44) jIG_165_42 (by decide) rfl ?_
      refine jT_xicF (t := 93) (pcN := 47) jIG_165_44 rfl (by decide +kernel) rfl rfl ?_
      refine jT_xaload_n (v := (4, 0)) (pcN := 48) jIG_165_47 rfl rfl rfl ?_
      refine jT_xgetf (a := 0) (t := 1) (ci := 13) (fi := 7) (c := jzG_7) (v := (4, 8)) (pcN := 51) jIG_165_48 rfl rfl rfl rfl rfl rfl rfl ?_
      refine jT_xiload (v := (0, 5)) (pcN := 53) jIG_165_51 rfl rfl rfl ?_
      refine jT_xiload_n (v := (0, u)) (pcN := 54) jIG_165_53 rfl rfl rfl ?_
      refine jT_ifT (a := u) (t := 68) (by rfl) (by rfl) (by rfl) (jw_idd (by omega) (by omega)) (by simp only [jcP] <;> omega) ?_
      refine jT_xaload_n (v := (4, 0)) (pcN := 69) jIG_165_68 rfl rfl rfl ?_
      refine jT_xgetf (a := 0) (t := 1) (ci := 13) (fi := 7) (c := jzG_7) (v := (4, 8)) (pcN := 72) jIG_165_69 rfl rfl rfl rfl rfl rfl rfl ?_
      refine jT_xiload (v := (0, 5)) (pcN := 74) jIG_165_72 rfl rfl rfl ?_
      refine jT_lald (x := 0) (a := 8) (j := 5) (fs := []) (X := [0, 0, 0, 0, 0, 0]) jIG_165_74 rfl rfl rfl rfl ?_
      refine jT_eq (LN := [(5, (0, 5)), (4, (4, 17)), (3, (0, 3)), (2, (0, u)), (0, (4, 0)), (1, (0, r1))]) (stN := [(1, 0), (0, 5), (4, 8)]) (hsN := jpG_61) rfl rfl rfl ?_
      refine jT_xaload (v := (4, 17)) (pcN := 77) jIG_165_75 rfl rfl rfl ?_
      refine jT_xgetf (a := 17) (t := 2) (ci := 4) (fi := 0) (c := (4, [(4, 18), (1, 1)], [])) (v := (4, 18)) (pcN := 80) jIG_165_77 rfl rfl rfl rfl rfl rfl rfl ?_
      refine jT_xiload (v := (0, 5)) (pcN := 82) jIG_165_80 rfl rfl rfl ?_
      refine jT_lald (x := 0) (a := 18) (j := 5) (fs := []) (X := [0, 0, 0, 0, 0, 0]) jIG_165_82 rfl rfl rfl rfl ?_
      refine jT_eq (LN := [(5, (0, 5)), (4, (4, 17)), (3, (0, 3)), (2, (0, u)), (0, (4, 0)), (1, (0, r1))]) (stN := [(1, 0), (1, 0), (0, 5), (4, 8)]) (hsN := jpG_61) rfl rfl rfl ?_
      refine jT_mm4 (x := 0) (y := 0) (z := 0) (by rfl) (by rfl) (by rfl) (by rfl) (jwl_idd (by omega) (by omega)) (jwl_idd (by omega) (by omega)) (by rw [decide_eq_false (show ¬ ((0 : Int) < 0) by omega)]; rfl) ?_
      refine jT_adv 1 (pcN := 87) (LN := [(5, (0, 5)), (4, (4, 17)), (3, (0, 3)), (2, (0, u)), (0, (4, 0)), (1, (0, r1))]) (stN := []) (hsN := jpG_61) (c1 := 0) (s1 := 0) (c2 := b1) (s2 := b2) (by exact rfl) ?_ (by omega) (by omega)
      refine jT_xiinc (x := 5) (z := 6) (LN := [(5, (0, 6)), (4, (4, 17)), (3, (0, 3)), (2, (0, u)), (0, (4, 0)), (1, (0, r1))]) (pcN := 90) jIG_165_87 rfl rfl (by decide) rfl rfl ?_
      refine jT_xgoto (pcN := 40) jIG_165_90 rfl ?_
      refine jT_xiload (v := (0, 6)) (pcN := 42) jIG_165_40 rfl rfl rfl ?_
      refine jT_xbipush (k := 6) (pcN := 44) jIG_165_42 (by decide) rfl ?_
      refine jT_xicT (pcN := 93) jIG_165_44 rfl (by decide +kernel) rfl ?_
      refine jT_xiconst (k := 0) (pcN := 94) jIG_165_93 rfl ?_
      refine jT_xistore_n (v := (0, 0)) (LN := [(2, (0, 0)), (5, (0, 6)), (4, (4, 17)), (3, (0, 3)), (0, (4, 0)), (1, (0, r1))]) (pcN := 95) jIG_165_94 rfl rfl rfl rfl ?_
      refine jT_xiinc (x := 3) (z := 4) (LN := [(3, (0, 4)), (2, (0, 0)), (5, (0, 6)), (4, (4, 17)), (0, (4, 0)), (1, (0, r1))]) (pcN := 98) jIG_165_95 rfl rfl (by decide) rfl rfl ?_
      refine jT_xgoto (pcN := 4) jIG_165_98 rfl ?_
      refine jT_loc (LN := [(3, (0, 4)), (2, (0, 0)), (0, (4, 0)), (1, (0, r1))]) (by show List.Nodup [3, 2, 0, 1]; decide) (by intro q hq; simp only [List.mem_cons, List.not_mem_nil, or_false] at hq; rcases hq with rfl | rfl | rfl | rfl <;> rfl) ?_
      exact jGl_ch_28_4 hd (u := 0) (by omega) h_r1 h
  · refine jT_xiload_n (v := (0, 3)) (pcN := 5) jIG_165_4 rfl rfl rfl ?_
    refine jT_xbipush (k := 8) (pcN := 7) jIG_165_5 (by decide) rfl ?_
    refine jT_xicF (t := 101) (pcN := 10) jIG_165_7 rfl (by decide +kernel) rfl rfl ?_
    refine jT_xiload_n (v := (0, r1)) (pcN := 11) jIG_165_10 rfl rfl rfl ?_
    refine jT_xiload_n (v := (0, 3)) (pcN := 12) jIG_165_11 rfl rfl rfl ?_
    refine jT_ishr (x := r1) (y := 3) (z := (Int32.ofInt r1 >>> (Int32.ofInt 3 &&& 31)).toInt) (by rfl) (by rfl) rfl ?_
    have hb_q1 : (-2147483648) ≤ (Int32.ofInt r1 >>> (Int32.ofInt 3 &&& 31)).toInt ∧ (Int32.ofInt r1 >>> (Int32.ofInt 3 &&& 31)).toInt ≤ 2147483647 := ⟨Int32.le_toInt _, Int.le_of_lt_add_one (Int32.toInt_lt _)⟩
    generalize hq_q1 : (Int32.ofInt r1 >>> (Int32.ofInt 3 &&& 31)).toInt = q1 at hb_q1 g_0 ⊢
    refine jT_xiconst (k := 1) (pcN := 14) jIG_165_13 rfl ?_
    refine jT_iand (x := q1) (y := 1) (z := q1 % 2) (by rfl) (by rfl) (jiand_1 _) ?_
    have hb_q2 : 0 ≤ q1 % 2 ∧ q1 % 2 ≤ 1 := ⟨by omega, by omega⟩
    generalize hq_q2 : q1 % 2 = q2 at hb_q2 g_0 ⊢
    refine jT_xiconst (k := 1) (pcN := 16) jIG_165_15 rfl ?_
    refine jT_icT (a := q2) (b := 1) (t := 95) (by rfl) (by rfl) (by rfl) (jw_idd (by omega) (by omega)) (jw_idd (by omega) (by omega)) (by simp only [jcP] <;> omega) ?_
    refine jT_xiinc (x := 3) (z := 4) (LN := [(3, (0, 4)), (2, (0, u)), (0, (4, 0)), (1, (0, r1))]) (pcN := 98) jIG_165_95 rfl rfl (by decide) rfl rfl ?_
    refine jT_xgoto (pcN := 4) jIG_165_98 rfl ?_
    refine jT_loc (LN := [(3, (0, 4)), (2, (0, u)), (0, (4, 0)), (1, (0, r1))]) (by show List.Nodup [3, 2, 0, 1]; decide) (by intro q hq; simp only [List.mem_cons, List.not_mem_nil, or_false] at hq; rcases hq with rfl | rfl | rfl | rfl <;> rfl) ?_
    exact jGl_ch_28_4 hd (u := u) (by omega) h_r1 h
theorem jGl_ch_28_2 {xs : List Int} {d b1 b2 : Nat} {Q : Nat → JV → List JC → Prop} (hd : 2 < d) {r1 : Int} {u : Int} (h_u : 0 ≤ u ∧ u ≤ 1) (h_r1 : 1 ≤ r1 ∧ r1 ≤ 255) (h : jT xs d 165 19 101 [(0, (4, 0))] [] [jzG_7, jgh, jgh, jgh, jgh, jgh, jgh, jgh, (101, [], [0, 0, 0, 0, 0, 0]), jgh, jgh, jzG_59, jzG_60, jgh, jgh, jgh, jgh, (4, [(4, 18), (1, 1)], []), (101, [], [0, 0, 0, 0, 0, 0])] b1 b2 Q) : jT xs d 165 19 4 [(3, (0, 2)), (2, (0, u)), (0, (4, 0)), (1, (0, r1))] [] [jzG_7, jgh, jgh, jgh, jgh, jgh, jgh, jgh, (101, [], [0, 0, 0, 0, 0, 0]), jgh, jgh, jzG_59, jzG_60, jgh, jgh, jgh, jgh, (4, [(4, 18), (1, 1)], []), (101, [], [0, 0, 0, 0, 0, 0])] b1 b2 Q := by
  rcases (show (0 ≤ (((Int32.ofInt r1 >>> (Int32.ofInt 2 &&& 31)).toInt) % 2) - 1) ∨ ((((Int32.ofInt r1 >>> (Int32.ofInt 2 &&& 31)).toInt) % 2) - 1 < 0) by omega) with g_0 | g_0
  · rcases (show (0 ≤ u - 1) ∨ (u - 1 < 0) by omega) with g_1 | g_1
    · refine jT_xiload_n (v := (0, 2)) (pcN := 5) jIG_165_4 rfl rfl rfl ?_
      refine jT_xbipush (k := 8) (pcN := 7) jIG_165_5 (by decide) rfl ?_
      refine jT_xicF (t := 101) (pcN := 10) jIG_165_7 rfl (by decide +kernel) rfl rfl ?_
      refine jT_xiload_n (v := (0, r1)) (pcN := 11) jIG_165_10 rfl rfl rfl ?_
      refine jT_xiload_n (v := (0, 2)) (pcN := 12) jIG_165_11 rfl rfl rfl ?_
      refine jT_ishr (x := r1) (y := 2) (z := (Int32.ofInt r1 >>> (Int32.ofInt 2 &&& 31)).toInt) (by rfl) (by rfl) rfl ?_
      have hb_q1 : (-2147483648) ≤ (Int32.ofInt r1 >>> (Int32.ofInt 2 &&& 31)).toInt ∧ (Int32.ofInt r1 >>> (Int32.ofInt 2 &&& 31)).toInt ≤ 2147483647 := ⟨Int32.le_toInt _, Int.le_of_lt_add_one (Int32.toInt_lt _)⟩
      generalize hq_q1 : (Int32.ofInt r1 >>> (Int32.ofInt 2 &&& 31)).toInt = q1 at hb_q1 g_0 ⊢
      refine jT_xiconst (k := 1) (pcN := 14) jIG_165_13 rfl ?_
      refine jT_iand (x := q1) (y := 1) (z := q1 % 2) (by rfl) (by rfl) (jiand_1 _) ?_
      have hb_q2 : 0 ≤ q1 % 2 ∧ q1 % 2 ≤ 1 := ⟨by omega, by omega⟩
      generalize hq_q2 : q1 % 2 = q2 at hb_q2 g_0 ⊢
      refine jT_xiconst (k := 1) (pcN := 16) jIG_165_15 rfl ?_
      refine jT_icF (a := q2) (b := 1) (t := 95) (by rfl) (by rfl) (by rfl) (jw_idd (by omega) (by omega)) (jw_idd (by omega) (by omega)) (by simp only [jcP] <;> omega) ?_
      refine jT_xaload_n (v := (4, 0)) (pcN := 20) jIG_165_19 rfl rfl rfl ?_
      refine jT_xgetf (a := 0) (t := 1) (ci := 13) (fi := 11) (c := jzG_7) (v := (4, 11)) (pcN := 23) jIG_165_20 rfl rfl rfl rfl rfl rfl rfl ?_
      refine jT_xiload_n (v := (0, 2)) (pcN := 24) jIG_165_23 rfl rfl rfl ?_
      refine jT_fR [11, 12, 13, 14, 15, 16, 17] 19 (y := 57) (pcN := 27) (dC := 0) (bc1 := 0) (bc2 := 0) (c1 := b1) (c2 := b2) (as := [(4, 11), (0, 2)]) (asC := [(4, 0), (0, 2)]) (LN := [(3, (0, 2)), (2, (0, u)), (0, (4, 0)), (1, (0, r1))]) (stN := []) (hsC := jpG_54) (v := (4, 6)) (st2 := [(4, 17)]) (jG_57_22 (d := 0)) (by rfl) (by rfl) (by decide +kernel) (by rfl) (by rfl) (by omega) (by omega) (by omega) (by omega) rfl ?_
      refine jT_xastore (v := (4, 17)) (LN := [(4, (4, 17)), (3, (0, 2)), (2, (0, u)), (0, (4, 0)), (1, (0, r1))]) (pcN := 29) jIG_165_27 rfl rfl rfl rfl ?_
      refine jT_xaload_n (v := (4, 0)) (pcN := 30) jIG_165_29 rfl rfl rfl ?_
      refine jT_xaload (v := (4, 17)) (pcN := 32) jIG_165_30 rfl rfl rfl ?_
      refine jT_xbipush (k := 100) (pcN := 34) jIG_165_32 (by decide) rfl ?_
      refine jT_fR [0, 17, 18] 19 (y := 142) (pcN := 37) (dC := 1) (bc1 := 0) (bc2 := 0) (c1 := b1) (c2 := b2) (as := [(4, 0), (4, 17), (0, 100)]) (asC := [(4, 0), (4, 1), (0, 100)]) (LN := [(4, (4, 17)), (3, (0, 2)), (2, (0, u)), (0, (4, 0)), (1, (0, r1))]) (stN := []) (hsC := [jgh, (4, [(4, 2), (1, 1)], []), (101, [], [0, 0, 0, 0, 0, 0])]) (v := (9, 0)) (st2 := []) (jG_142_20 (d := 0)) (by rfl) (by rfl) (by decide +kernel) (by rfl) (by rfl) (by omega) (by omega) (by omega) (by omega) rfl ?_
      refine jT_xiconst (k := 0) (pcN := 38) jIG_165_37 rfl ?_
      refine jT_xistore (v := (0, 0)) (LN := [(5, (0, 0)), (4, (4, 17)), (3, (0, 2)), (2, (0, u)), (0, (4, 0)), (1, (0, r1))]) (pcN := 40) jIG_165_38 rfl rfl rfl rfl ?_
      refine jT_xiload (v := (0, 0)) (pcN := 42) jIG_165_40 rfl rfl rfl ?_
      refine jT_xbipush (k := 6) (pcN := 44) jIG_165_42 (by decide) rfl ?_
      refine jT_xicF (t := 93) (pcN := 47) jIG_165_44 rfl (by decide +kernel) rfl rfl ?_
      refine jT_xaload_n (v := (4, 0)) (pcN := 48) jIG_165_47 rfl rfl rfl ?_
      refine jT_xgetf (a := 0) (t := 1) (ci := 13) (fi := 7) (c := jzG_7) (v := (4, 8)) (pcN := 51) jIG_165_48 rfl rfl rfl rfl rfl rfl rfl ?_
      refine jT_xiload (v := (0, 0)) (pcN := 53) jIG_165_51 rfl rfl rfl ?_
      refine jT_xiload_n (v := (0, u)) (pcN := 54) jIG_165_53 rfl rfl rfl ?_
      refine jT_ifF (a := u) (t := 68) (by rfl) (by rfl) (by rfl) (jw_idd (by omega) (by omega)) (by simp only [jcP] <;> omega) ?_
      refine jT_xaload (v := (4, 17)) (pcN := 59) jIG_165_57 rfl rfl rfl ?_
      refine jT_xgetf (a := 17) (t := 2) (ci := 4) (fi := 0) (c := (4, [(4, 18), (1, 1)], [])) (v := (4, 18)) (pcN := 62) jIG_165_59 rfl rfl rfl rfl rfl rfl rfl ?_
      refine jT_xiload (v := (0, 0)) (pcN := 64) jIG_165_62 rfl rfl rfl ?_
      refine jT_lald (x := 0) (a := 18) (j := 0) (fs := []) (X := [0, 0, 0, 0, 0, 0]) jIG_165_64 rfl rfl rfl rfl ?_
      refine jT_eq (LN := [(5, (0, 0)), (4, (4, 17)), (3, (0, 2)), (2, (0, u)), (0, (4, 0)), (1, (0, r1))]) (stN := [(1, 0), (0, 0), (4, 8)]) (hsN := jpG_61) rfl rfl rfl ?_
      refine jT_xgoto (pcN := 86) jIG_165_65 rfl ?_
      refine jT_adv 1 (pcN := 87) (LN := [(5, (0, 0)), (4, (4, 17)), (3, (0, 2)), (2, (0, u)), (0, (4, 0)), (1, (0, r1))]) (stN := []) (hsN := jpG_61) (c1 := 0) (s1 := 0) (c2 := b1) (s2 := b2) (by exact rfl) ?_ (by omega) (by omega)
      refine jT_xiinc (x := 0) (z := 1) (LN := [(5, (0, 1)), (4, (4, 17)), (3, (0, 2)), (2, (0, u)), (0, (4, 0)), (1, (0, r1))]) (pcN := 90) jIG_165_87 rfl rfl (by decide) rfl rfl ?_
      refine jT_xgoto (pcN := 40) jIG_165_90 rfl ?_
      refine jT_xiload (v := (0, 1)) (pcN := 42) jIG_165_40 rfl rfl rfl ?_
      refine jT_xbipush (k := 6) (pcN := 44) jIG_165_42 (by decide) rfl ?_
      refine jT_xicF (t := 93) (pcN := 47) jIG_165_44 rfl (by decide +kernel) rfl rfl ?_
      refine jT_xaload_n (v := (4, 0)) (pcN := 48) jIG_165_47 rfl rfl rfl ?_
      refine jT_xgetf (a := 0) (t := 1) (ci := 13) (fi := 7) (c := jzG_7) (v := (4, 8)) (pcN := 51) jIG_165_48 rfl rfl rfl rfl rfl rfl rfl ?_
      refine jT_xiload (v := (0, 1)) (pcN := 53) jIG_165_51 rfl rfl rfl ?_
      refine jT_xiload_n (v := (0, u)) (pcN := 54) jIG_165_53 rfl rfl rfl ?_
      refine jT_ifF (a := u) (t := 68) (by rfl) (by rfl) (by rfl) (jw_idd (by omega) (by omega)) (by simp only [jcP] <;> omega) ?_
      refine jT_xaload (v := (4, 17)) (pcN := 59) jIG_165_57 rfl rfl rfl ?_
      refine jT_xgetf (a := 17) (t := 2) (ci := 4) (fi := 0) (c := (4, [(4, 18), (1, 1)], [])) (v := (4, 18)) (pcN := 62) jIG_165_59 rfl rfl rfl rfl rfl rfl rfl ?_
      refine jT_xiload (v := (0, 1)) (pcN := 64) jIG_165_62 rfl rfl rfl ?_
      refine jT_lald (x := 0) (a := 18) (j := 1) (fs := []) (X := [0, 0, 0, 0, 0, 0]) jIG_165_64 rfl rfl rfl rfl ?_
      refine jT_eq (LN := [(5, (0, 1)), (4, (4, 17)), (3, (0, 2)), (2, (0, u)), (0, (4, 0)), (1, (0, r1))]) (stN := [(1, 0), (0, 1), (4, 8)]) (hsN := jpG_61) rfl rfl rfl ?_
      refine jT_xgoto (pcN := 86) jIG_165_65 rfl ?_
      refine jT_adv 1 (pcN := 87) (LN := [(5, (0, 1)), (4, (4, 17)), (3, (0, 2)), (2, (0, u)), (0, (4, 0)), (1, (0, r1))]) (stN := []) (hsN := jpG_61) (c1 := 0) (s1 := 0) (c2 := b1) (s2 := b2) (by exact rfl) ?_ (by omega) (by omega)
      refine jT_xiinc (x := 1) (z := 2) (LN := [(5, (0, 2)), (4, (4, 17)), (3, (0, 2)), (2, (0, u)), (0, (4, 0)), (1, (0, r1))]) (pcN := 90) jIG_165_87 rfl rfl (by decide) rfl rfl ?_
      refine jT_xgoto (pcN := 40) jIG_165_90 rfl ?_
      refine jT_xiload (v := (0, 2)) (pcN := 42) jIG_165_40 rfl rfl rfl ?_
      refine jT_xbipush (k := 6) (pcN := 44) jIG_165_42 (by decide) rfl ?_
      refine jT_xicF (t := 93) (pcN := 47) jIG_165_44 rfl (by decide +kernel) rfl rfl ?_
      refine jT_xaload_n (v := (4, 0)) (pcN := 48) jIG_165_47 rfl rfl rfl ?_
      refine jT_xgetf (a := 0) (t := 1) (ci := 13) (fi := 7) (c := jzG_7) (v := (4, 8)) (pcN := 51) jIG_165_48 rfl rfl rfl rfl rfl rfl rfl ?_
      refine jT_xiload (v := (0, 2)) (pcN := 53) jIG_165_51 rfl rfl rfl ?_
      refine jT_xiload_n (v := (0, u)) (pcN := 54) jIG_165_53 rfl rfl rfl ?_
      refine jT_ifF (a := u) (t := 68) (by rfl) (by rfl) (by rfl) (jw_idd (by omega) (by omega)) (by simp only [jcP] <;> omega) ?_
      refine jT_xaload (v := (4, 17)) (pcN := 59) jIG_165_57 rfl rfl rfl ?_
      refine jT_xgetf (a := 17) (t := 2) (ci := 4) (fi := 0) (c := (4, [(4, 18), (1, 1)], [])) (v := (4, 18)) (pcN := 62) jIG_165_59 rfl rfl rfl rfl rfl rfl rfl ?_
      refine jT_xiload (v := (0, 2)) (pcN := 64) jIG_165_62 rfl rfl rfl ?_
      refine jT_lald (x := 0) (a := 18) (j := 2) (fs := []) (X := [0, 0, 0, 0, 0, 0]) jIG_165_64 rfl rfl rfl rfl ?_
      refine jT_eq (LN := [(5, (0, 2)), (4, (4, 17)), (3, (0, 2)), (2, (0, u)), (0, (4, 0)), (1, (0, r1))]) (stN := [(1, 0), (0, 2), (4, 8)]) (hsN := jpG_61) rfl rfl rfl ?_
      refine jT_xgoto (pcN := 86) jIG_165_65 rfl ?_
      refine jT_adv 1 (pcN := 87) (LN := [(5, (0, 2)), (4, (4, 17)), (3, (0, 2)), (2, (0, u)), (0, (4, 0)), (1, (0, r1))]) (stN := []) (hsN := jpG_61) (c1 := 0) (s1 := 0) (c2 := b1) (s2 := b2) (by exact rfl) ?_ (by omega) (by omega)
      refine jT_xiinc (x := 2) (z := 3) (LN := [(5, (0, 3)), (4, (4, 17)), (3, (0, 2)), (2, (0, u)), (0, (4, 0)), (1, (0, r1))]) (pcN := 90) jIG_165_87 rfl rfl (by decide) rfl rfl ?_
      refine jT_xgoto (pcN := 40) jIG_165_90 rfl ?_
      refine jT_xiload (v := (0, 3)) (pcN := 42) jIG_165_40 rfl rfl rfl ?_
      refine jT_xbipush (k := 6) (pcN := 44) jIG_165_42 (by decide) rfl ?_
      refine jT_xicF (t := 93) (pcN := 47) jIG_165_44 rfl (by decide +kernel) rfl rfl ?_
      refine jT_xaload_n (v := (4, 0)) (pcN := 48) jIG_165_47 rfl rfl rfl ?_
      refine jT_xgetf (a := 0) (t := 1) (ci := 13) (fi := 7) (c := jzG_7) (v := (4, 8)) (pcN := 51) jIG_165_48 rfl rfl rfl rfl rfl rfl rfl ?_
      refine jT_xiload (v := (0, 3)) (pcN := 53) jIG_165_51 rfl rfl rfl ?_
      refine jT_xiload_n (v := (0, u)) (pcN := 54) jIG_165_53 rfl rfl rfl ?_
      refine jT_ifF (a := u) (t := 68) (by rfl) (by rfl) (by rfl) (jw_idd (by omega) (by omega)) (by simp only [jcP] <;> omega) ?_
      refine jT_xaload (v := (4, 17)) (pcN := 59) jIG_165_57 rfl rfl rfl ?_
      refine jT_xgetf (a := 17) (t := 2) (ci := 4) (fi := 0) (c := (4, [(4, 18), (1, 1)], [])) (v := (4, 18)) (pcN := 62) jIG_165_59 rfl rfl rfl rfl rfl rfl rfl ?_
      refine jT_xiload (v := (0, 3)) (pcN := 64) jIG_165_62 rfl rfl rfl ?_
      refine jT_lald (x := 0) (a := 18) (j := 3) (fs := []) (X := [0, 0, 0, 0, 0, 0]) jIG_165_64 rfl rfl rfl rfl ?_
      refine jT_eq (LN := [(5, (0, 3)), (4, (4, 17)), (3, (0, 2)), (2, (0, u)), (0, (4, 0)), (1, (0, r1))]) (stN := [(1, 0), (0, 3), (4, 8)]) (hsN := jpG_61) rfl rfl rfl ?_
      refine jT_xgoto (pcN := 86) jIG_165_65 rfl ?_
      refine jT_adv 1 (pcN := 87) (LN := [(5, (0, 3)), (4, (4, 17)), (3, (0, 2)), (2, (0, u)), (0, (4, 0)), (1, (0, r1))]) (stN := []) (hsN := jpG_61) (c1 := 0) (s1 := 0) (c2 := b1) (s2 := b2) (by exact rfl) ?_ (by omega) (by omega)
      refine jT_xiinc (x := 3) (z := 4) (LN := [(5, (0, 4)), (4, (4, 17)), (3, (0, 2)), (2, (0, u)), (0, (4, 0)), (1, (0, r1))]) (pcN := 90) jIG_165_87 rfl rfl (by decide) rfl rfl ?_
      refine jT_xgoto (pcN := 40) jIG_165_90 rfl ?_
      refine jT_xiload (v := (0, 4)) (pcN := 42) jIG_165_40 rfl rfl rfl ?_
      refine jT_xbipush (k := 6) (pcN := 44) jIG_165_42 (by decide) rfl ?_
      refine jT_xicF (t := 93) (pcN := 47) jIG_165_44 rfl (by decide +kernel) rfl rfl ?_
      refine jT_xaload_n (v := (4, 0)) (pcN := 48) jIG_165_47 rfl rfl rfl ?_
      refine jT_xgetf (a := 0) (t := 1) (ci := 13) (fi := 7) (c := jzG_7) (v := (4, 8)) (pcN := 51) jIG_165_48 rfl rfl rfl rfl rfl rfl rfl ?_
      refine jT_xiload (v := (0, 4)) (pcN := 53) jIG_165_51 rfl rfl rfl ?_
      refine jT_xiload_n (v := (0, u)) (pcN := 54) jIG_165_53 rfl rfl rfl ?_
      refine jT_ifF (a := u) (t := 68) (by rfl) (by rfl) (by rfl) (jw_idd (by omega) (by omega)) (by simp only [jcP] <;> omega) ?_
      refine jT_xaload (v := (4, 17)) (pcN := 59) jIG_165_57 rfl rfl rfl ?_
      refine jT_xgetf (a := 17) (t := 2) (ci := 4) (fi := 0) (c := (4, [(4, 18), (1, 1)], [])) (v := (4, 18)) (pcN := 62) jIG_165_59 rfl rfl rfl rfl rfl rfl rfl ?_
      refine jT_xiload (v := (0, 4)) (pcN := 64) jIG_165_62 rfl rfl rfl ?_
      refine jT_lald (x := 0) (a := 18) (j := 4) (fs := []) (X := [0, 0, 0, 0, 0, 0]) jIG_165_64 rfl rfl rfl rfl ?_
      refine jT_eq (LN := [(5, (0, 4)), (4, (4, 17)), (3, (0, 2)), (2, (0, u)), (0, (4, 0)), (1, (0, r1))]) (stN := [(1, 0), (0, 4), (4, 8)]) (hsN := jpG_61) rfl rfl rfl ?_
      refine jT_xgoto (pcN := 86) jIG_165_65 rfl ?_
      refine jT_adv 1 (pcN := 87) (LN := [(5, (0, 4)), (4, (4, 17)), (3, (0, 2)), (2, (0, u)), (0, (4, 0)), (1, (0, r1))]) (stN := []) (hsN := jpG_61) (c1 := 0) (s1 := 0) (c2 := b1) (s2 := b2) (by exact rfl) ?_ (by omega) (by omega)
      refine jT_xiinc (x := 4) (z := 5) (LN := [(5, (0, 5)), (4, (4, 17)), (3, (0, 2)), (2, (0, u)), (0, (4, 0)), (1, (0, r1))]) (pcN := 90) jIG_165_87 rfl rfl (by decide) rfl rfl ?_
      refine jT_xgoto (pcN := 40) jIG_165_90 rfl ?_
      refine jT_xiload (v := (0, 5)) (pcN := 42) jIG_165_40 rfl rfl rfl ?_
      refine jT_xbipush (k := 6) (pcN := 44) jIG_165_42 (by decide) rfl ?_
      refine jT_xicF (t := 93) (pcN := 47) jIG_165_44 rfl (by decide +kernel) rfl rfl ?_
      refine jT_xaload_n (v := (4, 0)) (pcN := 48) jIG_165_47 rfl rfl rfl ?_
      refine jT_xgetf (a := 0) (t := 1) (ci := 13) (fi := 7) (c := jzG_7) (v := (4, 8)) (pcN := 51) jIG_165_48 rfl rfl rfl rfl rfl rfl rfl ?_
      refine jT_xiload (v := (0, 5)) (pcN := 53) jIG_165_51 rfl rfl rfl ?_
      refine jT_xiload_n (v := (0, u)) (pcN := 54) jIG_165_53 rfl rfl rfl ?_
      refine jT_ifF (a := u) (t := 68) (by rfl) (by rfl) (by rfl) (jw_idd (by omega) (by omega)) (by simp only [jcP] <;> omega) ?_
      refine jT_xaload (v := (4, 17)) (pcN := 59) jIG_165_57 rfl rfl rfl ?_
      refine jT_xgetf (a := 17) (t := 2) (ci := 4) (fi := 0) (c := (4, [(4, 18), (1, 1)], [])) (v := (4, 18)) (pcN := 62) jIG_165_59 rfl rfl rfl rfl rfl rfl rfl ?_
      refine jT_xiload (v := (0, 5)) (pcN := 64) jIG_165_62 rfl rfl rfl ?_
      refine jT_lald (x := 0) (a := 18) (j := 5) (fs := []) (X := [0, 0, 0, 0, 0, 0]) jIG_165_64 rfl rfl rfl rfl ?_
      refine jT_eq (LN := [(5, (0, 5)), (4, (4, 17)), (3, (0, 2)), (2, (0, u)), (0, (4, 0)), (1, (0, r1))]) (stN := [(1, 0), (0, 5), (4, 8)]) (hsN := jpG_61) rfl rfl rfl ?_
      refine jT_xgoto (pcN := 86) jIG_165_65 rfl ?_
      refine jT_adv 1 (pcN := 87) (LN := [(5, (0, 5)), (4, (4, 17)), (3, (0, 2)), (2, (0, u)), (0, (4, 0)), (1, (0, r1))]) (stN := []) (hsN := jpG_61) (c1 := 0) (s1 := 0) (c2 := b1) (s2 := b2) (by exact rfl) ?_ (by omega) (by omega)
      refine jT_xiinc (x := 5) (z := 6) (LN := [(5, (0, 6)), (4, (4, 17)), (3, (0, 2)), (2, (0, u)), (0, (4, 0)), (1, (0, r1))]) (pcN := 90) jIG_165_87 rfl rfl (by decide) rfl rfl ?_
      refine jT_xgoto (pcN := 40) jIG_165_90 rfl ?_
      refine jT_xiload (v := (0, 6)) (pcN := 42) jIG_165_40 rfl rfl rfl ?_
      refine jT_xbipush (k := 6) (pcN := 44) jIG_165_42 (by decide) rfl ?_
      refine jT_xicT (pcN := 93) jIG_165_44 rfl (by decide +kernel) rfl ?_
      refine jT_xiconst (k := 0) (pcN := 94) jIG_165_93 rfl ?_
      refine jT_xistore_n (v := (0, 0)) (LN := [(2, (0, 0)), (5, (0, 6)), (4, (4, 17)), (3, (0, 2)), (0, (4, 0)), (1, (0, r1))]) (pcN := 95) jIG_165_94 rfl rfl rfl rfl ?_
      refine jT_xiinc (x := 2) (z := 3) (LN := [(3, (0, 3)), (2, (0, 0)), (5, (0, 6)), (4, (4, 17)), (0, (4, 0)), (1, (0, r1))]) (pcN := 98) jIG_165_95 rfl rfl (by decide) rfl rfl ?_
      refine jT_xgoto (pcN := 4) jIG_165_98 rfl ?_
      refine jT_loc (LN := [(3, (0, 3)), (2, (0, 0)), (0, (4, 0)), (1, (0, r1))]) (by show List.Nodup [3, 2, 0, 1]; decide) (by intro q hq; simp only [List.mem_cons, List.not_mem_nil, or_false] at hq; rcases hq with rfl | rfl | rfl | rfl <;> rfl) ?_
      exact jGl_ch_28_3 hd (u := 0) (by omega) h_r1 h
    · refine jT_xiload_n (v := (0, 2)) (pcN := 5) jIG_165_4 rfl rfl rfl ?_
      refine jT_xbipush (k := 8) (pcN := 7) jIG_165_5 (by decide) rfl ?_
      refine jT_xicF (t := 101) (pcN := 10) jIG_165_7 rfl (by decide +kernel) rfl rfl ?_
      refine jT_xiload_n (v := (0, r1)) (pcN := 11) jIG_165_10 rfl rfl rfl ?_
      refine jT_xiload_n (v := (0, 2)) (pcN := 12) jIG_165_11 rfl rfl rfl ?_
      refine jT_ishr (x := r1) (y := 2) (z := (Int32.ofInt r1 >>> (Int32.ofInt 2 &&& 31)).toInt) (by rfl) (by rfl) rfl ?_
      have hb_q1 : (-2147483648) ≤ (Int32.ofInt r1 >>> (Int32.ofInt 2 &&& 31)).toInt ∧ (Int32.ofInt r1 >>> (Int32.ofInt 2 &&& 31)).toInt ≤ 2147483647 := ⟨Int32.le_toInt _, Int.le_of_lt_add_one (Int32.toInt_lt _)⟩
      generalize hq_q1 : (Int32.ofInt r1 >>> (Int32.ofInt 2 &&& 31)).toInt = q1 at hb_q1 g_0 ⊢
      refine jT_xiconst (k := 1) (pcN := 14) jIG_165_13 rfl ?_
      refine jT_iand (x := q1) (y := 1) (z := q1 % 2) (by rfl) (by rfl) (jiand_1 _) ?_
      have hb_q2 : 0 ≤ q1 % 2 ∧ q1 % 2 ≤ 1 := ⟨by omega, by omega⟩
      generalize hq_q2 : q1 % 2 = q2 at hb_q2 g_0 ⊢
      refine jT_xiconst (k := 1) (pcN := 16) jIG_165_15 rfl ?_
      refine jT_icF (a := q2) (b := 1) (t := 95) (by rfl) (by rfl) (by rfl) (jw_idd (by omega) (by omega)) (jw_idd (by omega) (by omega)) (by simp only [jcP] <;> omega) ?_
      refine jT_xaload_n (v := (4, 0)) (pcN := 20) jIG_165_19 rfl rfl rfl ?_
      refine jT_xgetf (a := 0) (t := 1) (ci := 13) (fi := 11) (c := jzG_7) (v := (4, 11)) (pcN := 23) jIG_165_20 rfl rfl rfl rfl rfl rfl rfl ?_
      refine jT_xiload_n (v := (0, 2)) (pcN := 24) jIG_165_23 rfl rfl rfl ?_
      refine jT_fR [11, 12, 13, 14, 15, 16, 17] 19 (y := 57) (pcN := 27) (dC := 0) (bc1 := 0) (bc2 := 0) (c1 := b1) (c2 := b2) (as := [(4, 11), (0, 2)]) (asC := [(4, 0), (0, 2)]) (LN := [(3, (0, 2)), (2, (0, u)), (0, (4, 0)), (1, (0, r1))]) (stN := []) (hsC := jpG_54) (v := (4, 6)) (st2 := [(4, 17)]) (jG_57_22 (d := 0)) (by rfl) (by rfl) (by decide +kernel) (by rfl) (by rfl) (by omega) (by omega) (by omega) (by omega) rfl ?_
      refine jT_xastore (v := (4, 17)) (LN := [(4, (4, 17)), (3, (0, 2)), (2, (0, u)), (0, (4, 0)), (1, (0, r1))]) (pcN := 29) jIG_165_27 rfl rfl rfl rfl ?_
      refine jT_xaload_n (v := (4, 0)) (pcN := 30) jIG_165_29 rfl rfl rfl ?_
      refine jT_xaload (v := (4, 17)) (pcN := 32) jIG_165_30 rfl rfl rfl ?_
      refine jT_xbipush (k := 100) (pcN := 34) jIG_165_32 (by decide) rfl ?_
      refine jT_fR [0, 17, 18] 19 (y := 142) (pcN := 37) (dC := 1) (bc1 := 0) (bc2 := 0) (c1 := b1) (c2 := b2) (as := [(4, 0), (4, 17), (0, 100)]) (asC := [(4, 0), (4, 1), (0, 100)]) (LN := [(4, (4, 17)), (3, (0, 2)), (2, (0, u)), (0, (4, 0)), (1, (0, r1))]) (stN := []) (hsC := [jgh, (4, [(4, 2), (1, 1)], []), (101, [], [0, 0, 0, 0, 0, 0])]) (v := (9, 0)) (st2 := []) (jG_142_20 (d := 0)) (by rfl) (by rfl) (by decide +kernel) (by rfl) (by rfl) (by omega) (by omega) (by omega) (by omega) rfl ?_
      refine jT_xiconst (k := 0) (pcN := 38) jIG_165_37 rfl ?_
      refine jT_xistore (v := (0, 0)) (LN := [(5, (0, 0)), (4, (4, 17)), (3, (0, 2)), (2, (0, u)), (0, (4, 0)), (1, (0, r1))]) (pcN := 40) jIG_165_38 rfl rfl rfl rfl ?_
      refine jT_xiload (v := (0, 0)) (pcN := 42) jIG_165_40 rfl rfl rfl ?_
      refine jT_xbipush (k := 6) (pcN := 44) jIG_165_42 (by decide) rfl ?_
      refine jT_xicF (t := 93) (pcN := 47) jIG_165_44 rfl (by decide +kernel) rfl rfl ?_
      refine jT_xaload_n (v := (4, 0)) (pcN := 48) jIG_165_47 rfl rfl rfl ?_
      refine jT_xgetf (a := 0) (t := 1) (ci := 13) (fi := 7) (c := jzG_7) (v := (4, 8)) (pcN := 51) jIG_165_48 rfl rfl rfl rfl rfl rfl rfl ?_
      refine jT_xiload (v := (0, 0)) (pcN := 53) jIG_165_51 rfl rfl rfl ?_
      refine jT_xiload_n (v := (0, u)) (pcN := 54) jIG_165_53 rfl rfl rfl ?_
      refine jT_ifT (a := u) (t := 68) (by rfl) (by rfl) (by rfl) (jw_idd (by omega) (by omega)) (by simp only [jcP] <;> omega) ?_
      refine jT_xaload_n (v := (4, 0)) (pcN := 69) jIG_165_68 rfl rfl rfl ?_
      refine jT_xgetf (a := 0) (t := 1) (ci := 13) (fi := 7) (c := jzG_7) (v := (4, 8)) (pcN := 72) jIG_165_69 rfl rfl rfl rfl rfl rfl rfl ?_
      refine jT_xiload (v := (0, 0)) (pcN := 74) jIG_165_72 rfl rfl rfl ?_
      refine jT_lald (x := 0) (a := 8) (j := 0) (fs := []) (X := [0, 0, 0, 0, 0, 0]) jIG_165_74 rfl rfl rfl rfl ?_
      refine jT_eq (LN := [(5, (0, 0)), (4, (4, 17)), (3, (0, 2)), (2, (0, u)), (0, (4, 0)), (1, (0, r1))]) (stN := [(1, 0), (0, 0), (4, 8)]) (hsN := jpG_61) rfl rfl rfl ?_
      refine jT_xaload (v := (4, 17)) (pcN := 77) jIG_165_75 rfl rfl rfl ?_
      refine jT_xgetf (a := 17) (t := 2) (ci := 4) (fi := 0) (c := (4, [(4, 18), (1, 1)], [])) (v := (4, 18)) (pcN := 80) jIG_165_77 rfl rfl rfl rfl rfl rfl rfl ?_
      refine jT_xiload (v := (0, 0)) (pcN := 82) jIG_165_80 rfl rfl rfl ?_
      refine jT_lald (x := 0) (a := 18) (j := 0) (fs := []) (X := [0, 0, 0, 0, 0, 0]) jIG_165_82 rfl rfl rfl rfl ?_
      refine jT_eq (LN := [(5, (0, 0)), (4, (4, 17)), (3, (0, 2)), (2, (0, u)), (0, (4, 0)), (1, (0, r1))]) (stN := [(1, 0), (1, 0), (0, 0), (4, 8)]) (hsN := jpG_61) rfl rfl rfl ?_
      refine jT_mm4 (x := 0) (y := 0) (z := 0) (by rfl) (by rfl) (by rfl) (by rfl) (jwl_idd (by omega) (by omega)) (jwl_idd (by omega) (by omega)) (by rw [decide_eq_false (show ¬ ((0 : Int) < 0) by omega)]; rfl) ?_
      refine jT_adv 1 (pcN := 87) (LN := [(5, (0, 0)), (4, (4, 17)), (3, (0, 2)), (2, (0, u)), (0, (4, 0)), (1, (0, r1))]) (stN := []) (hsN := jpG_61) (c1 := 0) (s1 := 0) (c2 := b1) (s2 := b2) (by exact rfl) ?_ (by omega) (by omega)
      refine jT_xiinc (x := 0) (z := 1) (LN := [(5, (0, 1)), (4, (4, 17)), (3, (0, 2)), (2, (0, u)), (0, (4, 0)), (1, (0, r1))]) (pcN := 90) jIG_165_87 rfl rfl (by decide) rfl rfl ?_
      refine jT_xgoto (pcN := 40) jIG_165_90 rfl ?_
      refine jT_xiload (v := (0, 1)) (pcN := 42) jIG_165_40 rfl rfl rfl ?_
      refine jT_xbipush (k := 6) (pcN := 44) jIG_165_42 (by decide) rfl ?_
      refine jT_xicF (t := 93) (pcN := 47) jIG_165_44 rfl (by decide +kernel) rfl rfl ?_
      refine jT_xaload_n (v := (4, 0)) (pcN := 48) jIG_165_47 rfl rfl rfl ?_
      refine jT_xgetf (a := 0) (t := 1) (ci := 13) (fi := 7) (c := jzG_7) (v := (4, 8)) (pcN := 51) jIG_165_48 rfl rfl rfl rfl rfl rfl rfl ?_
      refine jT_xiload (v := (0, 1)) (pcN := 53) jIG_165_51 rfl rfl rfl ?_
      refine jT_xiload_n (v := (0, u)) (pcN := 54) jIG_165_53 rfl rfl rfl ?_
      refine jT_ifT (a := u) (t := 68) (by rfl) (by rfl) (by rfl) (jw_idd (by omega) (by omega)) (by simp only [jcP] <;> omega) ?_
      refine jT_xaload_n (v := (4, 0)) (pcN := 69) jIG_165_68 rfl rfl rfl ?_
      refine jT_xgetf (a := 0) (t := 1) (ci := 13) (fi := 7) (c := jzG_7) (v := (4, 8)) (pcN := 72) jIG_165_69 rfl rfl rfl rfl rfl rfl rfl ?_
      refine jT_xiload (v := (0, 1)) (pcN := 74) jIG_165_72 rfl rfl rfl ?_
      refine jT_lald (x := 0) (a := 8) (j := 1) (fs := []) (X := [0, 0, 0, 0, 0, 0]) jIG_165_74 rfl rfl rfl rfl ?_
      refine jT_eq (LN := [(5, (0, 1)), (4, (4, 17)), (3, (0, 2)), (2, (0, u)), (0, (4, 0)), (1, (0, r1))]) (stN := [(1, 0), (0, 1), (4, 8)]) (hsN := jpG_61) rfl rfl rfl ?_
      refine jT_xaload (v := (4, 17)) (pcN := 77) jIG_165_75 rfl rfl rfl ?_
      refine jT_xgetf (a := 17) (t := 2) (ci := 4) (fi := 0) (c := (4, [(4, 18), (1, 1)], [])) (v := (4, 18)) (pcN := 80) jIG_165_77 rfl rfl rfl rfl rfl rfl rfl ?_
      refine jT_xiload (v := (0, 1)) (pcN := 82) jIG_165_80 rfl rfl rfl ?_
      refine jT_lald (x := 0) (a := 18) (j := 1) (fs := []) (X := [0, 0, 0, 0, 0, 0]) jIG_165_82 rfl rfl rfl rfl ?_
      refine jT_eq (LN := [(5, (0, 1)), (4, (4, 17)), (3, (0, 2)), (2, (0, u)), (0, (4, 0)), (1, (0, r1))]) (stN := [(1, 0), (1, 0), (0, 1), (4, 8)]) (hsN := jpG_61) rfl rfl rfl ?_
      refine jT_mm4 (x := 0) (y := 0) (z := 0) (by rfl) (by rfl) (by rfl) (by rfl) (jwl_idd (by omega) (by omega)) (jwl_idd (by omega) (by omega)) (by rw [decide_eq_false (show ¬ ((0 : Int) < 0) by omega)]; rfl) ?_
      refine jT_adv 1 (pcN := 87) (LN := [(5, (0, 1)), (4, (4, 17)), (3, (0, 2)), (2, (0, u)), (0, (4, 0)), (1, (0, r1))]) (stN := []) (hsN := jpG_61) (c1 := 0) (s1 := 0) (c2 := b1) (s2 := b2) (by exact rfl) ?_ (by omega) (by omega)
      refine jT_xiinc (x := 1) (z := 2) (LN := [(5, (0, 2)), (4, (4, 17)), (3, (0, 2)), (2, (0, u)), (0, (4, 0)), (1, (0, r1))]) (pcN := 90) jIG_165_87 rfl rfl (by decide) rfl rfl ?_
      refine jT_xgoto (pcN := 40) jIG_165_90 rfl ?_
      refine jT_xiload (v := (0, 2)) (pcN := 42) jIG_165_40 rfl rfl rfl ?_
      refine jT_xbipush (k := 6) (pcN := 44) jIG_165_42 (by decide) rfl ?_
      refine jT_xicF (t := 93) (pcN := 47) jIG_165_44 rfl (by decide +kernel) rfl rfl ?_
      refine jT_xaload_n (v := (4, 0)) (pcN := 48) jIG_165_47 rfl rfl rfl ?_
      refine jT_xgetf (a := 0) (t := 1) (ci := 13) (fi := 7) (c := jzG_7) (v := (4, 8)) (pcN := 51) jIG_165_48 rfl rfl rfl rfl rfl rfl rfl ?_
      refine jT_xiload (v := (0, 2)) (pcN := 53) jIG_165_51 rfl rfl rfl ?_
      refine jT_xiload_n (v := (0, u)) (pcN := 54) jIG_165_53 rfl rfl rfl ?_
      refine jT_ifT (a := u) (t := 68) (by rfl) (by rfl) (by rfl) (jw_idd (by omega) (by omega)) (by simp only [jcP] <;> omega) ?_
      refine jT_xaload_n (v := (4, 0)) (pcN := 69) jIG_165_68 rfl rfl rfl ?_
      refine jT_xgetf (a := 0) (t := 1) (ci := 13) (fi := 7) (c := jzG_7) (v := (4, 8)) (pcN := 72) jIG_165_69 rfl rfl rfl rfl rfl rfl rfl ?_
      refine jT_xiload (v := (0, 2)) (pcN := 74) jIG_165_72 rfl rfl rfl ?_
      refine jT_lald (x := 0) (a := 8) (j := 2) (fs := []) (X := [0, 0, 0, 0, 0, 0]) jIG_165_74 rfl rfl rfl rfl ?_
      refine jT_eq (LN := [(5, (0, 2)), (4, (4, 17)), (3, (0, 2)), (2, (0, u)), (0, (4, 0)), (1, (0, r1))]) (stN := [(1, 0), (0, 2), (4, 8)]) (hsN := jpG_61) rfl rfl rfl ?_
      refine jT_xaload (v := (4, 17)) (pcN := 77) jIG_165_75 rfl rfl rfl ?_
      refine jT_xgetf (a := 17) (t := 2) (ci := 4) (fi := 0) (c := (4, [(4, 18), (1, 1)], [])) (v := (4, 18)) (pcN := 80) jIG_165_77 rfl rfl rfl rfl rfl rfl rfl ?_
      refine jT_xiload (v := (0, 2)) (pcN := 82) jIG_165_80 rfl rfl rfl ?_
      refine jT_lald (x := 0) (a := 18) (j := 2) (fs := []) (X := [0, 0, 0, 0, 0, 0]) jIG_165_82 rfl rfl rfl rfl ?_
      refine jT_eq (LN := [(5, (0, 2)), (4, (4, 17)), (3, (0, 2)), (2, (0, u)), (0, (4, 0)), (1, (0, r1))]) (stN := [(1, 0), (1, 0), (0, 2), (4, 8)]) (hsN := jpG_61) rfl rfl rfl ?_
      refine jT_mm4 (x := 0) (y := 0) (z := 0) (by rfl) (by rfl) (by rfl) (by rfl) (jwl_idd (by omega) (by omega)) (jwl_idd (by omega) (by omega)) (by rw [decide_eq_false (show ¬ ((0 : Int) < 0) by omega)]; rfl) ?_
      refine jT_adv 1 (pcN := 87) (LN := [(5, (0, 2)), (4, (4, 17)), (3, (0, 2)), (2, (0, u)), (0, (4, 0)), (1, (0, r1))]) (stN := []) (hsN := jpG_61) (c1 := 0) (s1 := 0) (c2 := b1) (s2 := b2) (by exact rfl) ?_ (by omega) (by omega)
      refine jT_xiinc (x := 2) (z := 3) (LN := [(5, (0, 3)), (4, (4, 17)), (3, (0, 2)), (2, (0, u)), (0, (4, 0)), (1, (0, r1))]) (pcN := 90) jIG_165_87 rfl rfl (by decide) rfl rfl ?_
      refine jT_xgoto (pcN := 40) jIG_165_90 rfl ?_
      refine jT_xiload (v := (0, 3)) (pcN := 42) jIG_165_40 rfl rfl rfl ?_
      refine jT_xbipush (k := 6) (pcN := 44) jIG_165_42 (by decide) rfl ?_
      refine jT_xicF (t := 93) (pcN := 47) jIG_165_44 rfl (by decide +kernel) rfl rfl ?_
      refine jT_xaload_n (v := (4, 0)) (pcN := 48) jIG_165_47 rfl rfl rfl ?_
      refine jT_xgetf (a := 0) (t := 1) (ci := 13) (fi := 7) (c := jzG_7) (v := (4, 8)) (pcN := 51) jIG_165_48 rfl rfl rfl rfl rfl rfl rfl ?_
      refine jT_xiload (v := (0, 3)) (pcN := 53) jIG_165_51 rfl rfl rfl ?_
      refine jT_xiload_n (v := (0, u)) (pcN := 54) jIG_165_53 rfl rfl rfl ?_
      refine jT_ifT (a := u) (t := 68) (by rfl) (by rfl) (by rfl) (jw_idd (by omega) (by omega)) (by simp only [jcP] <;> omega) ?_
      refine jT_xaload_n (v := (4, 0)) (pcN := 69) jIG_165_68 rfl rfl rfl ?_
      refine jT_xgetf (a := 0) (t := 1) (ci := 13) (fi := 7) (c := jzG_7) (v := (4, 8)) (pcN := 72) jIG_165_69 rfl rfl rfl rfl rfl rfl rfl ?_
      refine jT_xiload (v := (0, 3)) (pcN := 74) jIG_165_72 rfl rfl rfl ?_
      refine jT_lald (x := 0) (a := 8) (j := 3) (fs := []) (X := [0, 0, 0, 0, 0, 0]) jIG_165_74 rfl rfl rfl rfl ?_
      refine jT_eq (LN := [(5, (0, 3)), (4, (4, 17)), (3, (0, 2)), (2, (0, u)), (0, (4, 0)), (1, (0, r1))]) (stN := [(1, 0), (0, 3), (4, 8)]) (hsN := jpG_61) rfl rfl rfl ?_
      refine jT_xaload (v := (4, 17)) (pcN := 77) jIG_165_75 rfl rfl rfl ?_
      refine jT_xgetf (a := 17) (t := 2) (ci := 4) (fi := 0) (c := (4, [(4, 18), (1, 1)], [])) (v := (4, 18)) (pcN := 80) jIG_165_77 rfl rfl rfl rfl rfl rfl rfl ?_
      refine jT_xiload (v := (0, 3)) (pcN := 82) jIG_165_80 rfl rfl rfl ?_
      refine jT_lald (x := 0) (a := 18) (j := 3) (fs := []) (X := [0, 0, 0, 0, 0, 0]) jIG_165_82 rfl rfl rfl rfl ?_
      refine jT_eq (LN := [(5, (0, 3)), (4, (4, 17)), (3, (0, 2)), (2, (0, u)), (0, (4, 0)), (1, (0, r1))]) (stN := [(1, 0), (1, 0), (0, 3), (4, 8)]) (hsN := jpG_61) rfl rfl rfl ?_
      refine jT_mm4 (x := 0) (y := 0) (z := 0) (by rfl) (by rfl) (by rfl) (by rfl) (jwl_idd (by omega) (by omega)) (jwl_idd (by omega) (by omega)) (by rw [decide_eq_false (show ¬ ((0 : Int) < 0) by omega)]; rfl) ?_
      refine jT_adv 1 (pcN := 87) (LN := [(5, (0, 3)), (4, (4, 17)), (3, (0, 2)), (2, (0, u)), (0, (4, 0)), (1, (0, r1))]) (stN := []) (hsN := jpG_61) (c1 := 0) (s1 := 0) (c2 := b1) (s2 := b2) (by exact rfl) ?_ (by omega) (by omega)
      refine jT_xiinc (x := 3) (z := 4) (LN := [(5, (0, 4)), (4, (4, 17)), (3, (0, 2)), (2, (0, u)), (0, (4, 0)), (1, (0, r1))]) (pcN := 90) jIG_165_87 rfl rfl (by decide) rfl rfl ?_
      refine jT_xgoto (pcN := 40) jIG_165_90 rfl ?_
      refine jT_xiload (v := (0, 4)) (pcN := 42) jIG_165_40 rfl rfl rfl ?_
      refine jT_xbipush (k := 6) (pcN := 44) jIG_165_42 (by decide) rfl ?_
      refine jT_xicF (t := 93) (pcN := 47) jIG_165_44 rfl (by decide +kernel) rfl rfl ?_
      refine jT_xaload_n (v := (4, 0)) (pcN := 48) jIG_165_47 rfl rfl rfl ?_
      refine jT_xgetf (a := 0) (t := 1) (ci := 13) (fi := 7) (c := jzG_7) (v := (4, 8)) (pcN := 51) jIG_165_48 rfl rfl rfl rfl rfl rfl rfl ?_
      refine jT_xiload (v := (0, 4)) (pcN := 53) jIG_165_51 rfl rfl rfl ?_
      refine jT_xiload_n (v := (0, u)) (pcN := 54) jIG_165_53 rfl rfl rfl ?_
      refine jT_ifT (a := u) (t := 68) (by rfl) (by rfl) (by rfl) (jw_idd (by omega) (by omega)) (by simp only [jcP] <;> omega) ?_
      refine jT_xaload_n (v := (4, 0)) (pcN := 69) jIG_165_68 rfl rfl rfl ?_
      refine jT_xgetf (a := 0) (t := 1) (ci := 13) (fi := 7) (c := jzG_7) (v := (4, 8)) (pcN := 72) jIG_165_69 rfl rfl rfl rfl rfl rfl rfl ?_
      refine jT_xiload (v := (0, 4)) (pcN := 74) jIG_165_72 rfl rfl rfl ?_
      refine jT_lald (x := 0) (a := 8) (j := 4) (fs := []) (X := [0, 0, 0, 0, 0, 0]) jIG_165_74 rfl rfl rfl rfl ?_
      refine jT_eq (LN := [(5, (0, 4)), (4, (4, 17)), (3, (0, 2)), (2, (0, u)), (0, (4, 0)), (1, (0, r1))]) (stN := [(1, 0), (0, 4), (4, 8)]) (hsN := jpG_61) rfl rfl rfl ?_
      refine jT_xaload (v := (4, 17)) (pcN := 77) jIG_165_75 rfl rfl rfl ?_
      refine jT_xgetf (a := 17) (t := 2) (ci := 4) (fi := 0) (c := (4, [(4, 18), (1, 1)], [])) (v := (4, 18)) (pcN := 80) jIG_165_77 rfl rfl rfl rfl rfl rfl rfl ?_
      refine jT_xiload (v := (0, 4)) (pcN := 82) jIG_165_80 rfl rfl rfl ?_
      refine jT_lald (x := 0) (a := 18) (j := 4) (fs := []) (X := [0, 0, 0, 0, 0, 0]) jIG_165_82 rfl rfl rfl rfl ?_
      refine jT_eq (LN := [(5, (0, 4)), (4, (4, 17)), (3, (0, 2)), (2, (0, u)), (0, (4, 0)), (1, (0, r1))]) (stN := [(1, 0), (1, 0), (0, 4), (4, 8)]) (hsN := jpG_61) rfl rfl rfl ?_
      refine jT_mm4 (x := 0) (y := 0) (z := 0) (by rfl) (by rfl) (by rfl) (by rfl) (jwl_idd (by omega) (by omega)) (jwl_idd (by omega) (by omega)) (by rw [decide_eq_false (show ¬ ((0 : Int) < 0) by omega)]; rfl) ?_
      refine jT_adv 1 (pcN := 87) (LN := [(5, (0, 4)), (4, (4, 17)), (3, (0, 2)), (2, (0, u)), (0, (4, 0)), (1, (0, r1))]) (stN := []) (hsN := jpG_61) (c1 := 0) (s1 := 0) (c2 := b1) (s2 := b2) (by exact rfl) ?_ (by omega) (by omega)
      refine jT_xiinc (x := 4) (z := 5) (LN := [(5, (0, 5)), (4, (4, 17)), (3, (0, 2)), (2, (0, u)), (0, (4, 0)), (1, (0, r1))]) (pcN := 90) jIG_165_87 rfl rfl (by decide) rfl rfl ?_
      refine jT_xgoto (pcN := 40) jIG_165_90 rfl ?_
      refine jT_xiload (v := (0, 5)) (pcN := 42) jIG_165_40 rfl rfl rfl ?_
      refine jT_xbipush (k := 6) (pcN := 44) jIG_165_42 (by decide) rfl ?_
      refine jT_xicF (t := 93) (pcN := 47) jIG_165_44 rfl (by decide +kernel) rfl rfl ?_
      refine jT_xaload_n (v := (4, 0)) (pcN := 48) jIG_165_47 rfl rfl rfl ?_
      refine jT_xgetf (a := 0) (t := 1) (ci := 13) (fi := 7) (c := jzG_7) (v := (4, 8)) (pcN := 51) jIG_165_48 rfl rfl rfl rfl rfl rfl rfl ?_
      refine jT_xiload (v := (0, 5)) (pcN := 53) jIG_165_51 rfl rfl rfl ?_
      refine jT_xiload_n (v := (0, u)) (pcN := 54) jIG_165_53 rfl rfl rfl ?_
      refine jT_ifT (a := u) (t := 68) (by rfl) (by rfl) (by rfl) (jw_idd (by omega) (by omega)) (by simp only [jcP] <;> omega) ?_
      refine jT_xaload_n (v := (4, 0)) (pcN := 69) jIG_165_68 rfl rfl rfl ?_
      refine jT_xgetf (a := 0) (t := 1) (ci := 13) (fi := 7) (c := jzG_7) (v := (4, 8)) (pcN := 72) jIG_165_69 rfl rfl rfl rfl rfl rfl rfl ?_
      refine jT_xiload (v := (0, 5)) (pcN := 74) jIG_165_72 rfl rfl rfl ?_
      refine jT_lald (x := 0) (a := 8) (j := 5) (fs := []) (X := [0, 0, 0, 0, 0, 0]) jIG_165_74 rfl rfl rfl rfl ?_
      refine jT_eq (LN := [(5, (0, 5)), (4, (4, 17)), (3, (0, 2)), (2, (0, u)), (0, (4, 0)), (1, (0, r1))]) (stN := [(1, 0), (0, 5), (4, 8)]) (hsN := jpG_61) rfl rfl rfl ?_
      refine jT_xaload (v := (4, 17)) (pcN := 77) jIG_165_75 rfl rfl rfl ?_
      refine jT_xgetf (a := 17) (t := 2) (ci := 4) (fi := 0) (c := (4, [(4, 18), (1, 1)], [])) (v := (4, 18)) (pcN := 80) jIG_165_77 rfl rfl rfl rfl rfl rfl rfl ?_
      refine jT_xiload (v := (0, 5)) (pcN := 82) jIG_165_80 rfl rfl rfl ?_
      refine jT_lald (x := 0) (a := 18) (j := 5) (fs := []) (X := [0, 0, 0, 0, 0, 0]) jIG_165_82 rfl rfl rfl rfl ?_
      refine jT_eq (LN := [(5, (0, 5)), (4, (4, 17)), (3, (0, 2)), (2, (0, u)), (0, (4, 0)), (1, (0, r1))]) (stN := [(1, 0), (1, 0), (0, 5), (4, 8)]) (hsN := jpG_61) rfl rfl rfl ?_
      refine jT_mm4 (x := 0) (y := 0) (z := 0) (by rfl) (by rfl) (by rfl) (by rfl) (jwl_idd (by omega) (by omega)) (jwl_idd (by omega) (by omega)) (by rw [decide_eq_false (show ¬ ((0 : Int) < 0) by omega)]; rfl) ?_
      refine jT_adv 1 (pcN := 87) (LN := [(5, (0, 5)), (4, (4, 17)), (3, (0, 2)), (2, (0, u)), (0, (4, 0)), (1, (0, r1))]) (stN := []) (hsN := jpG_61) (c1 := 0) (s1 := 0) (c2 := b1) (s2 := b2) (by exact rfl) ?_ (by omega) (by omega)
      refine jT_xiinc (x := 5) (z := 6) (LN := [(5, (0, 6)), (4, (4, 17)), (3, (0, 2)), (2, (0, u)), (0, (4, 0)), (1, (0, r1))]) (pcN := 90) jIG_165_87 rfl rfl (by decide) rfl rfl ?_
      refine jT_xgoto (pcN := 40) jIG_165_90 rfl ?_
      refine jT_xiload (v := (0, 6)) (pcN := 42) jIG_165_40 rfl rfl rfl ?_
      refine jT_xbipush (k := 6) (pcN := 44) jIG_165_42 (by decide) rfl ?_
      refine jT_xicT (pcN := 93) jIG_165_44 rfl (by decide +kernel) rfl ?_
      refine jT_xiconst (k := 0) (pcN := 94) jIG_165_93 rfl ?_
      refine jT_xistore_n (v := (0, 0)) (LN := [(2, (0, 0)), (5, (0, 6)), (4, (4, 17)), (3, (0, 2)), (0, (4, 0)), (1, (0, r1))]) (pcN := 95) jIG_165_94 rfl rfl rfl rfl ?_
      refine jT_xiinc (x := 2) (z := 3) (LN := [(3, (0, 3)), (2, (0, 0)), (5, (0, 6)), (4, (4, 17)), (0, (4, 0)), (1, (0, r1))]) (pcN := 98) jIG_165_95 rfl rfl (by decide) rfl rfl ?_
      refine jT_xgoto (pcN := 4) jIG_165_98 rfl ?_
      refine jT_loc (LN := [(3, (0, 3)), (2, (0, 0)), (0, (4, 0)), (1, (0, r1))]) (by show List.Nodup [3, 2, 0, 1]; decide) (by intro q hq; simp only [List.mem_cons, List.not_mem_nil, or_false] at hq; rcases hq with rfl | rfl | rfl | rfl <;> rfl) ?_
      exact jGl_ch_28_3 hd (u := 0) (by omega) h_r1 h
  · refine jT_xiload_n (v := (0, 2)) (pcN := 5) jIG_165_4 rfl rfl rfl ?_
    refine jT_xbipush (k := 8) (pcN := 7) jIG_165_5 (by decide) rfl ?_
    refine jT_xicF (t := 101) (pcN := 10) jIG_165_7 rfl (by decide +kernel) rfl rfl ?_
    refine jT_xiload_n (v := (0, r1)) (pcN := 11) jIG_165_10 rfl rfl rfl ?_
    refine jT_xiload_n (v := (0, 2)) (pcN := 12) jIG_165_11 rfl rfl rfl ?_
    refine jT_ishr (x := r1) (y := 2) (z := (Int32.ofInt r1 >>> (Int32.ofInt 2 &&& 31)).toInt) (by rfl) (by rfl) rfl ?_
    have hb_q1 : (-2147483648) ≤ (Int32.ofInt r1 >>> (Int32.ofInt 2 &&& 31)).toInt ∧ (Int32.ofInt r1 >>> (Int32.ofInt 2 &&& 31)).toInt ≤ 2147483647 := ⟨Int32.le_toInt _, Int.le_of_lt_add_one (Int32.toInt_lt _)⟩
    generalize hq_q1 : (Int32.ofInt r1 >>> (Int32.ofInt 2 &&& 31)).toInt = q1 at hb_q1 g_0 ⊢
    refine jT_xiconst (k := 1) (pcN := 14) jIG_165_13 rfl ?_
    refine jT_iand (x := q1) (y := 1) (z := q1 % 2) (by rfl) (by rfl) (jiand_1 _) ?_
    have hb_q2 : 0 ≤ q1 % 2 ∧ q1 % 2 ≤ 1 := ⟨by omega, by omega⟩
    generalize hq_q2 : q1 % 2 = q2 at hb_q2 g_0 ⊢
    refine jT_xiconst (k := 1) (pcN := 16) jIG_165_15 rfl ?_
    refine jT_icT (a := q2) (b := 1) (t := 95) (by rfl) (by rfl) (by rfl) (jw_idd (by omega) (by omega)) (jw_idd (by omega) (by omega)) (by simp only [jcP] <;> omega) ?_
    refine jT_xiinc (x := 2) (z := 3) (LN := [(3, (0, 3)), (2, (0, u)), (0, (4, 0)), (1, (0, r1))]) (pcN := 98) jIG_165_95 rfl rfl (by decide) rfl rfl ?_
    refine jT_xgoto (pcN := 4) jIG_165_98 rfl ?_
    refine jT_loc (LN := [(3, (0, 3)), (2, (0, u)), (0, (4, 0)), (1, (0, r1))]) (by show List.Nodup [3, 2, 0, 1]; decide) (by intro q hq; simp only [List.mem_cons, List.not_mem_nil, or_false] at hq; rcases hq with rfl | rfl | rfl | rfl <;> rfl) ?_
    exact jGl_ch_28_3 hd (u := u) (by omega) h_r1 h
theorem jGl_ch_28_1 {xs : List Int} {d b1 b2 : Nat} {Q : Nat → JV → List JC → Prop} (hd : 2 < d) {r1 : Int} {u : Int} (h_u : 0 ≤ u ∧ u ≤ 1) (h_r1 : 1 ≤ r1 ∧ r1 ≤ 255) (h : jT xs d 165 19 101 [(0, (4, 0))] [] [jzG_7, jgh, jgh, jgh, jgh, jgh, jgh, jgh, (101, [], [0, 0, 0, 0, 0, 0]), jgh, jgh, jzG_59, jzG_60, jgh, jgh, jgh, jgh, (4, [(4, 18), (1, 1)], []), (101, [], [0, 0, 0, 0, 0, 0])] b1 b2 Q) : jT xs d 165 19 4 [(3, (0, 1)), (2, (0, u)), (0, (4, 0)), (1, (0, r1))] [] [jzG_7, jgh, jgh, jgh, jgh, jgh, jgh, jgh, (101, [], [0, 0, 0, 0, 0, 0]), jgh, jgh, jzG_59, jzG_60, jgh, jgh, jgh, jgh, (4, [(4, 18), (1, 1)], []), (101, [], [0, 0, 0, 0, 0, 0])] b1 b2 Q := by
  rcases (show (0 ≤ (((Int32.ofInt r1 >>> (Int32.ofInt 1 &&& 31)).toInt) % 2) - 1) ∨ ((((Int32.ofInt r1 >>> (Int32.ofInt 1 &&& 31)).toInt) % 2) - 1 < 0) by omega) with g_0 | g_0
  · rcases (show (0 ≤ u - 1) ∨ (u - 1 < 0) by omega) with g_1 | g_1
    · refine jT_xiload_n (v := (0, 1)) (pcN := 5) jIG_165_4 rfl rfl rfl ?_
      refine jT_xbipush (k := 8) (pcN := 7) jIG_165_5 (by decide) rfl ?_
      refine jT_xicF (t := 101) (pcN := 10) jIG_165_7 rfl (by decide +kernel) rfl rfl ?_
      refine jT_xiload_n (v := (0, r1)) (pcN := 11) jIG_165_10 rfl rfl rfl ?_
      refine jT_xiload_n (v := (0, 1)) (pcN := 12) jIG_165_11 rfl rfl rfl ?_
      refine jT_ishr (x := r1) (y := 1) (z := (Int32.ofInt r1 >>> (Int32.ofInt 1 &&& 31)).toInt) (by rfl) (by rfl) rfl ?_
      have hb_q1 : (-2147483648) ≤ (Int32.ofInt r1 >>> (Int32.ofInt 1 &&& 31)).toInt ∧ (Int32.ofInt r1 >>> (Int32.ofInt 1 &&& 31)).toInt ≤ 2147483647 := ⟨Int32.le_toInt _, Int.le_of_lt_add_one (Int32.toInt_lt _)⟩
      generalize hq_q1 : (Int32.ofInt r1 >>> (Int32.ofInt 1 &&& 31)).toInt = q1 at hb_q1 g_0 ⊢
      refine jT_xiconst (k := 1) (pcN := 14) jIG_165_13 rfl ?_
      refine jT_iand (x := q1) (y := 1) (z := q1 % 2) (by rfl) (by rfl) (jiand_1 _) ?_
      have hb_q2 : 0 ≤ q1 % 2 ∧ q1 % 2 ≤ 1 := ⟨by omega, by omega⟩
      generalize hq_q2 : q1 % 2 = q2 at hb_q2 g_0 ⊢
      refine jT_xiconst (k := 1) (pcN := 16) jIG_165_15 rfl ?_
      refine jT_icF (a := q2) (b := 1) (t := 95) (by rfl) (by rfl) (by rfl) (jw_idd (by omega) (by omega)) (jw_idd (by omega) (by omega)) (by simp only [jcP] <;> omega) ?_
      refine jT_xaload_n (v := (4, 0)) (pcN := 20) jIG_165_19 rfl rfl rfl ?_
      refine jT_xgetf (a := 0) (t := 1) (ci := 13) (fi := 11) (c := jzG_7) (v := (4, 11)) (pcN := 23) jIG_165_20 rfl rfl rfl rfl rfl rfl rfl ?_
      refine jT_xiload_n (v := (0, 1)) (pcN := 24) jIG_165_23 rfl rfl rfl ?_
      refine jT_fR [11, 12, 13, 14, 15, 16, 17] 19 (y := 57) (pcN := 27) (dC := 0) (bc1 := 0) (bc2 := 0) (c1 := b1) (c2 := b2) (as := [(4, 11), (0, 1)]) (asC := [(4, 0), (0, 1)]) (LN := [(3, (0, 1)), (2, (0, u)), (0, (4, 0)), (1, (0, r1))]) (stN := []) (hsC := jpG_54) (v := (4, 6)) (st2 := [(4, 17)]) (jG_57_21 (d := 0)) (by rfl) (by rfl) (by decide +kernel) (by rfl) (by rfl) (by omega) (by omega) (by omega) (by omega) rfl ?_
      refine jT_xastore (v := (4, 17)) (LN := [(4, (4, 17)), (3, (0, 1)), (2, (0, u)), (0, (4, 0)), (1, (0, r1))]) (pcN := 29) jIG_165_27 rfl rfl rfl rfl ?_
      refine jT_xaload_n (v := (4, 0)) (pcN := 30) jIG_165_29 rfl rfl rfl ?_
      refine jT_xaload (v := (4, 17)) (pcN := 32) jIG_165_30 rfl rfl rfl ?_
      refine jT_xbipush (k := 100) (pcN := 34) jIG_165_32 (by decide) rfl ?_
      refine jT_fR [0, 17, 18] 19 (y := 142) (pcN := 37) (dC := 1) (bc1 := 0) (bc2 := 0) (c1 := b1) (c2 := b2) (as := [(4, 0), (4, 17), (0, 100)]) (asC := [(4, 0), (4, 1), (0, 100)]) (LN := [(4, (4, 17)), (3, (0, 1)), (2, (0, u)), (0, (4, 0)), (1, (0, r1))]) (stN := []) (hsC := [jgh, (4, [(4, 2), (1, 1)], []), (101, [], [0, 0, 0, 0, 0, 0])]) (v := (9, 0)) (st2 := []) (jG_142_20 (d := 0)) (by rfl) (by rfl) (by decide +kernel) (by rfl) (by rfl) (by omega) (by omega) (by omega) (by omega) rfl ?_
      refine jT_xiconst (k := 0) (pcN := 38) jIG_165_37 rfl ?_
      refine jT_xistore (v := (0, 0)) (LN := [(5, (0, 0)), (4, (4, 17)), (3, (0, 1)), (2, (0, u)), (0, (4, 0)), (1, (0, r1))]) (pcN := 40) jIG_165_38 rfl rfl rfl rfl ?_
      refine jT_xiload (v := (0, 0)) (pcN := 42) jIG_165_40 rfl rfl rfl ?_
      refine jT_xbipush (k := 6) (pcN := 44) jIG_165_42 (by decide) rfl ?_
      refine jT_xicF (t := 93) (pcN := 47) jIG_165_44 rfl (by decide +kernel) rfl rfl ?_
      refine jT_xaload_n (v := (4, 0)) (pcN := 48) jIG_165_47 rfl rfl rfl ?_
      refine jT_xgetf (a := 0) (t := 1) (ci := 13) (fi := 7) (c := jzG_7) (v := (4, 8)) (pcN := 51) jIG_165_48 rfl rfl rfl rfl rfl rfl rfl ?_
      refine jT_xiload (v := (0, 0)) (pcN := 53) jIG_165_51 rfl rfl rfl ?_
      refine jT_xiload_n (v := (0, u)) (pcN := 54) jIG_165_53 rfl rfl rfl ?_
      refine jT_ifF (a := u) (t := 68) (by rfl) (by rfl) (by rfl) (jw_idd (by omega) (by omega)) (by simp only [jcP] <;> omega) ?_
      refine jT_xaload (v := (4, 17)) (pcN := 59) jIG_165_57 rfl rfl rfl ?_
      refine jT_xgetf (a := 17) (t := 2) (ci := 4) (fi := 0) (c := (4, [(4, 18), (1, 1)], [])) (v := (4, 18)) (pcN := 62) jIG_165_59 rfl rfl rfl rfl rfl rfl rfl ?_
      refine jT_xiload (v := (0, 0)) (pcN := 64) jIG_165_62 rfl rfl rfl ?_
      refine jT_lald (x := 0) (a := 18) (j := 0) (fs := []) (X := [0, 0, 0, 0, 0, 0]) jIG_165_64 rfl rfl rfl rfl ?_
      refine jT_eq (LN := [(5, (0, 0)), (4, (4, 17)), (3, (0, 1)), (2, (0, u)), (0, (4, 0)), (1, (0, r1))]) (stN := [(1, 0), (0, 0), (4, 8)]) (hsN := jpG_61) rfl rfl rfl ?_
      refine jT_xgoto (pcN := 86) jIG_165_65 rfl ?_
      refine jT_adv 1 (pcN := 87) (LN := [(5, (0, 0)), (4, (4, 17)), (3, (0, 1)), (2, (0, u)), (0, (4, 0)), (1, (0, r1))]) (stN := []) (hsN := jpG_61) (c1 := 0) (s1 := 0) (c2 := b1) (s2 := b2) (by exact rfl) ?_ (by omega) (by omega)
      refine jT_xiinc (x := 0) (z := 1) (LN := [(5, (0, 1)), (4, (4, 17)), (3, (0, 1)), (2, (0, u)), (0, (4, 0)), (1, (0, r1))]) (pcN := 90) jIG_165_87 rfl rfl (by decide) rfl rfl ?_
      refine jT_xgoto (pcN := 40) jIG_165_90 rfl ?_
      refine jT_xiload (v := (0, 1)) (pcN := 42) jIG_165_40 rfl rfl rfl ?_
      refine jT_xbipush (k := 6) (pcN := 44) jIG_165_42 (by decide) rfl ?_
      refine jT_xicF (t := 93) (pcN := 47) jIG_165_44 rfl (by decide +kernel) rfl rfl ?_
      refine jT_xaload_n (v := (4, 0)) (pcN := 48) jIG_165_47 rfl rfl rfl ?_
      refine jT_xgetf (a := 0) (t := 1) (ci := 13) (fi := 7) (c := jzG_7) (v := (4, 8)) (pcN := 51) jIG_165_48 rfl rfl rfl rfl rfl rfl rfl ?_
      refine jT_xiload (v := (0, 1)) (pcN := 53) jIG_165_51 rfl rfl rfl ?_
      refine jT_xiload_n (v := (0, u)) (pcN := 54) jIG_165_53 rfl rfl rfl ?_
      refine jT_ifF (a := u) (t := 68) (by rfl) (by rfl) (by rfl) (jw_idd (by omega) (by omega)) (by simp only [jcP] <;> omega) ?_
      refine jT_xaload (v := (4, 17)) (pcN := 59) jIG_165_57 rfl rfl rfl ?_
      refine jT_xgetf (a := 17) (t := 2) (ci := 4) (fi := 0) (c := (4, [(4, 18), (1, 1)], [])) (v := (4, 18)) (pcN := 62) jIG_165_59 rfl rfl rfl rfl rfl rfl rfl ?_
      refine jT_xiload (v := (0, 1)) (pcN := 64) jIG_165_62 rfl rfl rfl ?_
      refine jT_lald (x := 0) (a := 18) (j := 1) (fs := []) (X := [0, 0, 0, 0, 0, 0]) jIG_165_64 rfl rfl rfl rfl ?_
      refine jT_eq (LN := [(5, (0, 1)), (4, (4, 17)), (3, (0, 1)), (2, (0, u)), (0, (4, 0)), (1, (0, r1))]) (stN := [(1, 0), (0, 1), (4, 8)]) (hsN := jpG_61) rfl rfl rfl ?_
      refine jT_xgoto (pcN := 86) jIG_165_65 rfl ?_
      refine jT_adv 1 (pcN := 87) (LN := [(5, (0, 1)), (4, (4, 17)), (3, (0, 1)), (2, (0, u)), (0, (4, 0)), (1, (0, r1))]) (stN := []) (hsN := jpG_61) (c1 := 0) (s1 := 0) (c2 := b1) (s2 := b2) (by exact rfl) ?_ (by omega) (by omega)
      refine jT_xiinc (x := 1) (z := 2) (LN := [(5, (0, 2)), (4, (4, 17)), (3, (0, 1)), (2, (0, u)), (0, (4, 0)), (1, (0, r1))]) (pcN := 90) jIG_165_87 rfl rfl (by decide) rfl rfl ?_
      refine jT_xgoto (pcN := 40) jIG_165_90 rfl ?_
      refine jT_xiload (v := (0, 2)) (pcN := 42) jIG_165_40 rfl rfl rfl ?_
      refine jT_xbipush (k := 6) (pcN := 44) jIG_165_42 (by decide) rfl ?_
      refine jT_xicF (t := 93) (pcN := 47) jIG_165_44 rfl (by decide +kernel) rfl rfl ?_
      refine jT_xaload_n (v := (4, 0)) (pcN := 48) jIG_165_47 rfl rfl rfl ?_
      refine jT_xgetf (a := 0) (t := 1) (ci := 13) (fi := 7) (c := jzG_7) (v := (4, 8)) (pcN := 51) jIG_165_48 rfl rfl rfl rfl rfl rfl rfl ?_
      refine jT_xiload (v := (0, 2)) (pcN := 53) jIG_165_51 rfl rfl rfl ?_
      refine jT_xiload_n (v := (0, u)) (pcN := 54) jIG_165_53 rfl rfl rfl ?_
      refine jT_ifF (a := u) (t := 68) (by rfl) (by rfl) (by rfl) (jw_idd (by omega) (by omega)) (by simp only [jcP] <;> omega) ?_
      refine jT_xaload (v := (4, 17)) (pcN := 59) jIG_165_57 rfl rfl rfl ?_
      refine jT_xgetf (a := 17) (t := 2) (ci := 4) (fi := 0) (c := (4, [(4, 18), (1, 1)], [])) (v := (4, 18)) (pcN := 62) jIG_165_59 rfl rfl rfl rfl rfl rfl rfl ?_
      refine jT_xiload (v := (0, 2)) (pcN := 64) jIG_165_62 rfl rfl rfl ?_
      refine jT_lald (x := 0) (a := 18) (j := 2) (fs := []) (X := [0, 0, 0, 0, 0, 0]) jIG_165_64 rfl rfl rfl rfl ?_
      refine jT_eq (LN := [(5, (0, 2)), (4, (4, 17)), (3, (0, 1)), (2, (0, u)), (0, (4, 0)), (1, (0, r1))]) (stN := [(1, 0), (0, 2), (4, 8)]) (hsN := jpG_61) rfl rfl rfl ?_
      refine jT_xgoto (pcN := 86) jIG_165_65 rfl ?_
      refine jT_adv 1 (pcN := 87) (LN := [(5, (0, 2)), (4, (4, 17)), (3, (0, 1)), (2, (0, u)), (0, (4, 0)), (1, (0, r1))]) (stN := []) (hsN := jpG_61) (c1 := 0) (s1 := 0) (c2 := b1) (s2 := b2) (by exact rfl) ?_ (by omega) (by omega)
      refine jT_xiinc (x := 2) (z := 3) (LN := [(5, (0, 3)), (4, (4, 17)), (3, (0, 1)), (2, (0, u)), (0, (4, 0)), (1, (0, r1))]) (pcN := 90) jIG_165_87 rfl rfl (by decide) rfl rfl ?_
      refine jT_xgoto (pcN := 40) jIG_165_90 rfl ?_
      refine jT_xiload (v := (0, 3)) (pcN := 42) jIG_165_40 rfl rfl rfl ?_
      refine jT_xbipush (k := 6) (pcN := 44) jIG_165_42 (by decide) rfl ?_
      refine jT_xicF (t := 93) (pcN := 47) jIG_165_44 rfl (by decide +kernel) rfl rfl ?_
      refine jT_xaload_n (v := (4, 0)) (pcN := 48) jIG_165_47 rfl rfl rfl ?_
      refine jT_xgetf (a := 0) (t := 1) (ci := 13) (fi := 7) (c := jzG_7) (v := (4, 8)) (pcN := 51) jIG_165_48 rfl rfl rfl rfl rfl rfl rfl ?_
      refine jT_xiload (v := (0, 3)) (pcN := 53) jIG_165_51 rfl rfl rfl ?_
      refine jT_xiload_n (v := (0, u)) (pcN := 54) jIG_165_53 rfl rfl rfl ?_
      refine jT_ifF (a := u) (t := 68) (by rfl) (by rfl) (by rfl) (jw_idd (by omega) (by omega)) (by simp only [jcP] <;> omega) ?_
      refine jT_xaload (v := (4, 17)) (pcN := 59) jIG_165_57 rfl rfl rfl ?_
      refine jT_xgetf (a := 17) (t := 2) (ci := 4) (fi := 0) (c := (4, [(4, 18), (1, 1)], [])) (v := (4, 18)) (pcN := 62) jIG_165_59 rfl rfl rfl rfl rfl rfl rfl ?_
      refine jT_xiload (v := (0, 3)) (pcN := 64) jIG_165_62 rfl rfl rfl ?_
      refine jT_lald (x := 0) (a := 18) (j := 3) (fs := []) (X := [0, 0, 0, 0, 0, 0]) jIG_165_64 rfl rfl rfl rfl ?_
      refine jT_eq (LN := [(5, (0, 3)), (4, (4, 17)), (3, (0, 1)), (2, (0, u)), (0, (4, 0)), (1, (0, r1))]) (stN := [(1, 0), (0, 3), (4, 8)]) (hsN := jpG_61) rfl rfl rfl ?_
      refine jT_xgoto (pcN := 86) jIG_165_65 rfl ?_
      refine jT_adv 1 (pcN := 87) (LN := [(5, (0, 3)), (4, (4, 17)), (3, (0, 1)), (2, (0, u)), (0, (4, 0)), (1, (0, r1))]) (stN := []) (hsN := jpG_61) (c1 := 0) (s1 := 0) (c2 := b1) (s2 := b2) (by exact rfl) ?_ (by omega) (by omega)
      refine jT_xiinc (x := 3) (z := 4) (LN := [(5, (0, 4)), (4, (4, 17)), (3, (0, 1)), (2, (0, u)), (0, (4, 0)), (1, (0, r1))]) (pcN := 90) jIG_165_87 rfl rfl (by decide) rfl rfl ?_
      refine jT_xgoto (pcN := 40) jIG_165_90 rfl ?_
      refine jT_xiload (v := (0, 4)) (pcN := 42) jIG_165_40 rfl rfl rfl ?_
      refine jT_xbipush (k := 6) (pcN := 44) jIG_165_42 (by decide) rfl ?_
      refine jT_xicF (t := 93) (pcN := 47) jIG_165_44 rfl (by decide +kernel) rfl rfl ?_
      refine jT_xaload_n (v := (4, 0)) (pcN := 48) jIG_165_47 rfl rfl rfl ?_
      refine jT_xgetf (a := 0) (t := 1) (ci := 13) (fi := 7) (c := jzG_7) (v := (4, 8)) (pcN := 51) jIG_165_48 rfl rfl rfl rfl rfl rfl rfl ?_
      refine jT_xiload (v := (0, 4)) (pcN := 53) jIG_165_51 rfl rfl rfl ?_
      refine jT_xiload_n (v := (0, u)) (pcN := 54) jIG_165_53 rfl rfl rfl ?_
      refine jT_ifF (a := u) (t := 68) (by rfl) (by rfl) (by rfl) (jw_idd (by omega) (by omega)) (by simp only [jcP] <;> omega) ?_
      refine jT_xaload (v := (4, 17)) (pcN := 59) jIG_165_57 rfl rfl rfl ?_
      refine jT_xgetf (a := 17) (t := 2) (ci := 4) (fi := 0) (c := (4, [(4, 18), (1, 1)], [])) (v := (4, 18)) (pcN := 62) jIG_165_59 rfl rfl rfl rfl rfl rfl rfl ?_
      refine jT_xiload (v := (0, 4)) (pcN := 64) jIG_165_62 rfl rfl rfl ?_
      refine jT_lald (x := 0) (a := 18) (j := 4) (fs := []) (X := [0, 0, 0, 0, 0, 0]) jIG_165_64 rfl rfl rfl rfl ?_
      refine jT_eq (LN := [(5, (0, 4)), (4, (4, 17)), (3, (0, 1)), (2, (0, u)), (0, (4, 0)), (1, (0, r1))]) (stN := [(1, 0), (0, 4), (4, 8)]) (hsN := jpG_61) rfl rfl rfl ?_
      refine jT_xgoto (pcN := 86) jIG_165_65 rfl ?_
      refine jT_adv 1 (pcN := 87) (LN := [(5, (0, 4)), (4, (4, 17)), (3, (0, 1)), (2, (0, u)), (0, (4, 0)), (1, (0, r1))]) (stN := []) (hsN := jpG_61) (c1 := 0) (s1 := 0) (c2 := b1) (s2 := b2) (by exact rfl) ?_ (by omega) (by omega)
      refine jT_xiinc (x := 4) (z := 5) (LN := [(5, (0, 5)), (4, (4, 17)), (3, (0, 1)), (2, (0, u)), (0, (4, 0)), (1, (0, r1))]) (pcN := 90) jIG_165_87 rfl rfl (by decide) rfl rfl ?_
      refine jT_xgoto (pcN := 40) jIG_165_90 rfl ?_
      refine jT_xiload (v := (0, 5)) (pcN := 42) jIG_165_40 rfl rfl rfl ?_
      refine jT_xbipush (k := 6) (pcN := 44) jIG_165_42 (by decide) rfl ?_
      refine jT_xicF (t := 93) (pcN := 47) jIG_165_44 rfl (by decide +kernel) rfl rfl ?_
      refine jT_xaload_n (v := (4, 0)) (pcN := 48) jIG_165_47 rfl rfl rfl ?_
      refine jT_xgetf (a := 0) (t := 1) (ci := 13) (fi := 7) (c := jzG_7) (v := (4, 8)) (pcN := 51) jIG_165_48 rfl rfl rfl rfl rfl rfl rfl ?_
      refine jT_xiload (v := (0, 5)) (pcN := 53) jIG_165_51 rfl rfl rfl ?_
      refine jT_xiload_n (v := (0, u)) (pcN := 54) jIG_165_53 rfl rfl rfl ?_
      refine jT_ifF (a := u) (t := 68) (by rfl) (by rfl) (by rfl) (jw_idd (by omega) (by omega)) (by simp only [jcP] <;> omega) ?_
      refine jT_xaload (v := (4, 17)) (pcN := 59) jIG_165_57 rfl rfl rfl ?_
      refine jT_xgetf (a := 17) (t := 2) (ci := 4) (fi := 0) (c := (4, [(4, 18), (1, 1)], [])) (v := (4, 18)) (pcN := 62) jIG_165_59 rfl rfl rfl rfl rfl rfl rfl ?_
      refine jT_xiload (v := (0, 5)) (pcN := 64) jIG_165_62 rfl rfl rfl ?_
      refine jT_lald (x := 0) (a := 18) (j := 5) (fs := []) (X := [0, 0, 0, 0, 0, 0]) jIG_165_64 rfl rfl rfl rfl ?_
      refine jT_eq (LN := [(5, (0, 5)), (4, (4, 17)), (3, (0, 1)), (2, (0, u)), (0, (4, 0)), (1, (0, r1))]) (stN := [(1, 0), (0, 5), (4, 8)]) (hsN := jpG_61) rfl rfl rfl ?_
      refine jT_xgoto (pcN := 86) jIG_165_65 rfl ?_
      refine jT_adv 1 (pcN := 87) (LN := [(5, (0, 5)), (4, (4, 17)), (3, (0, 1)), (2, (0, u)), (0, (4, 0)), (1, (0, r1))]) (stN := []) (hsN := jpG_61) (c1 := 0) (s1 := 0) (c2 := b1) (s2 := b2) (by exact rfl) ?_ (by omega) (by omega)
      refine jT_xiinc (x := 5) (z := 6) (LN := [(5, (0, 6)), (4, (4, 17)), (3, (0, 1)), (2, (0, u)), (0, (4, 0)), (1, (0, r1))]) (pcN := 90) jIG_165_87 rfl rfl (by decide) rfl rfl ?_
      refine jT_xgoto (pcN := 40) jIG_165_90 rfl ?_
      refine jT_xiload (v := (0, 6)) (pcN := 42) jIG_165_40 rfl rfl rfl ?_
      refine jT_xbipush (k := 6) (pcN := 44) jIG_165_42 (by decide) rfl ?_
      refine jT_xicT (pcN := 93) jIG_165_44 rfl (by decide +kernel) rfl ?_
      refine jT_xiconst (k := 0) (pcN := 94) jIG_165_93 rfl ?_
      refine jT_xistore_n (v := (0, 0)) (LN := [(2, (0, 0)), (5, (0, 6)), (4, (4, 17)), (3, (0, 1)), (0, (4, 0)), (1, (0, r1))]) (pcN := 95) jIG_165_94 rfl rfl rfl rfl ?_
      refine jT_xiinc (x := 1) (z := 2) (LN := [(3, (0, 2)), (2, (0, 0)), (5, (0, 6)), (4, (4, 17)), (0, (4, 0)), (1, (0, r1))]) (pcN := 98) jIG_165_95 rfl rfl (by decide) rfl rfl ?_
      refine jT_xgoto (pcN := 4) jIG_165_98 rfl ?_
      refine jT_loc (LN := [(3, (0, 2)), (2, (0, 0)), (0, (4, 0)), (1, (0, r1))]) (by show List.Nodup [3, 2, 0, 1]; decide) (by intro q hq; simp only [List.mem_cons, List.not_mem_nil, or_false] at hq; rcases hq with rfl | rfl | rfl | rfl <;> rfl) ?_
      exact jGl_ch_28_2 hd (u := 0) (by omega) h_r1 h
    · refine jT_xiload_n (v := (0, 1)) (pcN := 5) jIG_165_4 rfl rfl rfl ?_
      refine jT_xbipush (k := 8) (pcN := 7) jIG_165_5 (by decide) rfl ?_
      refine jT_xicF (t := 101) (pcN := 10) jIG_165_7 rfl (by decide +kernel) rfl rfl ?_
      refine jT_xiload_n (v := (0, r1)) (pcN := 11) jIG_165_10 rfl rfl rfl ?_
      refine jT_xiload_n (v := (0, 1)) (pcN := 12) jIG_165_11 rfl rfl rfl ?_
      refine jT_ishr (x := r1) (y := 1) (z := (Int32.ofInt r1 >>> (Int32.ofInt 1 &&& 31)).toInt) (by rfl) (by rfl) rfl ?_
      have hb_q1 : (-2147483648) ≤ (Int32.ofInt r1 >>> (Int32.ofInt 1 &&& 31)).toInt ∧ (Int32.ofInt r1 >>> (Int32.ofInt 1 &&& 31)).toInt ≤ 2147483647 := ⟨Int32.le_toInt _, Int.le_of_lt_add_one (Int32.toInt_lt _)⟩
      generalize hq_q1 : (Int32.ofInt r1 >>> (Int32.ofInt 1 &&& 31)).toInt = q1 at hb_q1 g_0 ⊢
      refine jT_xiconst (k := 1) (pcN := 14) jIG_165_13 rfl ?_
      refine jT_iand (x := q1) (y := 1) (z := q1 % 2) (by rfl) (by rfl) (jiand_1 _) ?_
      have hb_q2 : 0 ≤ q1 % 2 ∧ q1 % 2 ≤ 1 := ⟨by omega, by omega⟩
      generalize hq_q2 : q1 % 2 = q2 at hb_q2 g_0 ⊢
      refine jT_xiconst (k := 1) (pcN := 16) jIG_165_15 rfl ?_
      refine jT_icF (a := q2) (b := 1) (t := 95) (by rfl) (by rfl) (by rfl) (jw_idd (by omega) (by omega)) (jw_idd (by omega) (by omega)) (by simp only [jcP] <;> omega) ?_
      refine jT_xaload_n (v := (4, 0)) (pcN := 20) jIG_165_19 rfl rfl rfl ?_
      refine jT_xgetf (a := 0) (t := 1) (ci := 13) (fi := 11) (c := jzG_7) (v := (4, 11)) (pcN := 23) jIG_165_20 rfl rfl rfl rfl rfl rfl rfl ?_
      refine jT_xiload_n (v := (0, 1)) (pcN := 24) jIG_165_23 rfl rfl rfl ?_
      refine jT_fR [11, 12, 13, 14, 15, 16, 17] 19 (y := 57) (pcN := 27) (dC := 0) (bc1 := 0) (bc2 := 0) (c1 := b1) (c2 := b2) (as := [(4, 11), (0, 1)]) (asC := [(4, 0), (0, 1)]) (LN := [(3, (0, 1)), (2, (0, u)), (0, (4, 0)), (1, (0, r1))]) (stN := []) (hsC := jpG_54) (v := (4, 6)) (st2 := [(4, 17)]) (jG_57_21 (d := 0)) (by rfl) (by rfl) (by decide +kernel) (by rfl) (by rfl) (by omega) (by omega) (by omega) (by omega) rfl ?_
      refine jT_xastore (v := (4, 17)) (LN := [(4, (4, 17)), (3, (0, 1)), (2, (0, u)), (0, (4, 0)), (1, (0, r1))]) (pcN := 29) jIG_165_27 rfl rfl rfl rfl ?_
      refine jT_xaload_n (v := (4, 0)) (pcN := 30) jIG_165_29 rfl rfl rfl ?_
      refine jT_xaload (v := (4, 17)) (pcN := 32) jIG_165_30 rfl rfl rfl ?_
      refine jT_xbipush (k := 100) (pcN := 34) jIG_165_32 (by decide) rfl ?_
      refine jT_fR [0, 17, 18] 19 (y := 142) (pcN := 37) (dC := 1) (bc1 := 0) (bc2 := 0) (c1 := b1) (c2 := b2) (as := [(4, 0), (4, 17), (0, 100)]) (asC := [(4, 0), (4, 1), (0, 100)]) (LN := [(4, (4, 17)), (3, (0, 1)), (2, (0, u)), (0, (4, 0)), (1, (0, r1))]) (stN := []) (hsC := [jgh, (4, [(4, 2), (1, 1)], []), (101, [], [0, 0, 0, 0, 0, 0])]) (v := (9, 0)) (st2 := []) (jG_142_20 (d := 0)) (by rfl) (by rfl) (by decide +kernel) (by rfl) (by rfl) (by omega) (by omega) (by omega) (by omega) rfl ?_
      refine jT_xiconst (k := 0) (pcN := 38) jIG_165_37 rfl ?_
      refine jT_xistore (v := (0, 0)) (LN := [(5, (0, 0)), (4, (4, 17)), (3, (0, 1)), (2, (0, u)), (0, (4, 0)), (1, (0, r1))]) (pcN := 40) jIG_165_38 rfl rfl rfl rfl ?_
      refine jT_xiload (v := (0, 0)) (pcN := 42) jIG_165_40 rfl rfl rfl ?_
      refine jT_xbipush (k := 6) (pcN := 44) jIG_165_42 (by decide) rfl ?_
      refine jT_xicF (t := 93) (pcN := 47) jIG_165_44 rfl (by decide +kernel) rfl rfl ?_
      refine jT_xaload_n (v := (4, 0)) (pcN := 48) jIG_165_47 rfl rfl rfl ?_
      refine jT_xgetf (a := 0) (t := 1) (ci := 13) (fi := 7) (c := jzG_7) (v := (4, 8)) (pcN := 51) jIG_165_48 rfl rfl rfl rfl rfl rfl rfl ?_
      refine jT_xiload (v := (0, 0)) (pcN := 53) jIG_165_51 rfl rfl rfl ?_
      refine jT_xiload_n (v := (0, u)) (pcN := 54) jIG_165_53 rfl rfl rfl ?_
      refine jT_ifT (a := u) (t := 68) (by rfl) (by rfl) (by rfl) (jw_idd (by omega) (by omega)) (by simp only [jcP] <;> omega) ?_
      refine jT_xaload_n (v := (4, 0)) (pcN := 69) jIG_165_68 rfl rfl rfl ?_
      refine jT_xgetf (a := 0) (t := 1) (ci := 13) (fi := 7) (c := jzG_7) (v := (4, 8)) (pcN := 72) jIG_165_69 rfl rfl rfl rfl rfl rfl rfl ?_
      refine jT_xiload (v := (0, 0)) (pcN := 74) jIG_165_72 rfl rfl rfl ?_
      refine jT_lald (x := 0) (a := 8) (j := 0) (fs := []) (X := [0, 0, 0, 0, 0, 0]) jIG_165_74 rfl rfl rfl rfl ?_
      refine jT_eq (LN := [(5, (0, 0)), (4, (4, 17)), (3, (0, 1)), (2, (0, u)), (0, (4, 0)), (1, (0, r1))]) (stN := [(1, 0), (0, 0), (4, 8)]) (hsN := jpG_61) rfl rfl rfl ?_
      refine jT_xaload (v := (4, 17)) (pcN := 77) jIG_165_75 rfl rfl rfl ?_
      refine jT_xgetf (a := 17) (t := 2) (ci := 4) (fi := 0) (c := (4, [(4, 18), (1, 1)], [])) (v := (4, 18)) (pcN := 80) jIG_165_77 rfl rfl rfl rfl rfl rfl rfl ?_
      refine jT_xiload (v := (0, 0)) (pcN := 82) jIG_165_80 rfl rfl rfl ?_
      refine jT_lald (x := 0) (a := 18) (j := 0) (fs := []) (X := [0, 0, 0, 0, 0, 0]) jIG_165_82 rfl rfl rfl rfl ?_
      refine jT_eq (LN := [(5, (0, 0)), (4, (4, 17)), (3, (0, 1)), (2, (0, u)), (0, (4, 0)), (1, (0, r1))]) (stN := [(1, 0), (1, 0), (0, 0), (4, 8)]) (hsN := jpG_61) rfl rfl rfl ?_
      refine jT_mm4 (x := 0) (y := 0) (z := 0) (by rfl) (by rfl) (by rfl) (by rfl) (jwl_idd (by omega) (by omega)) (jwl_idd (by omega) (by omega)) (by rw [decide_eq_false (show ¬ ((0 : Int) < 0) by omega)]; rfl) ?_
      refine jT_adv 1 (pcN := 87) (LN := [(5, (0, 0)), (4, (4, 17)), (3, (0, 1)), (2, (0, u)), (0, (4, 0)), (1, (0, r1))]) (stN := []) (hsN := jpG_61) (c1 := 0) (s1 := 0) (c2 := b1) (s2 := b2) (by exact rfl) ?_ (by omega) (by omega)
      refine jT_xiinc (x := 0) (z := 1) (LN := [(5, (0, 1)), (4, (4, 17)), (3, (0, 1)), (2, (0, u)), (0, (4, 0)), (1, (0, r1))]) (pcN := 90) jIG_165_87 rfl rfl (by decide) rfl rfl ?_
      refine jT_xgoto (pcN := 40) jIG_165_90 rfl ?_
      refine jT_xiload (v := (0, 1)) (pcN := 42) jIG_165_40 rfl rfl rfl ?_
      refine jT_xbipush (k := 6) (pcN := 44) jIG_165_42 (by decide) rfl ?_
      refine jT_xicF (t := 93) (pcN := 47) jIG_165_44 rfl (by decide +kernel) rfl rfl ?_
      refine jT_xaload_n (v := (4, 0)) (pcN := 48) jIG_165_47 rfl rfl rfl ?_
      refine jT_xgetf (a := 0) (t := 1) (ci := 13) (fi := 7) (c := jzG_7) (v := (4, 8)) (pcN := 51) jIG_165_48 rfl rfl rfl rfl rfl rfl rfl ?_
      refine jT_xiload (v := (0, 1)) (pcN := 53) jIG_165_51 rfl rfl rfl ?_
      refine jT_xiload_n (v := (0, u)) (pcN := 54) jIG_165_53 rfl rfl rfl ?_
      refine jT_ifT (a := u) (t := 68) (by rfl) (by rfl) (by rfl) (jw_idd (by omega) (by omega)) (by simp only [jcP] <;> omega) ?_
      refine jT_xaload_n (v := (4, 0)) (pcN := 69) jIG_165_68 rfl rfl rfl ?_
      refine jT_xgetf (a := 0) (t := 1) (ci := 13) (fi := 7) (c := jzG_7) (v := (4, 8)) (pcN := 72) jIG_165_69 rfl rfl rfl rfl rfl rfl rfl ?_
      refine jT_xiload (v := (0, 1)) (pcN := 74) jIG_165_72 rfl rfl rfl ?_
      refine jT_lald (x := 0) (a := 8) (j := 1) (fs := []) (X := [0, 0, 0, 0, 0, 0]) jIG_165_74 rfl rfl rfl rfl ?_
      refine jT_eq (LN := [(5, (0, 1)), (4, (4, 17)), (3, (0, 1)), (2, (0, u)), (0, (4, 0)), (1, (0, r1))]) (stN := [(1, 0), (0, 1), (4, 8)]) (hsN := jpG_61) rfl rfl rfl ?_
      refine jT_xaload (v := (4, 17)) (pcN := 77) jIG_165_75 rfl rfl rfl ?_
      refine jT_xgetf (a := 17) (t := 2) (ci := 4) (fi := 0) (c := (4, [(4, 18), (1, 1)], [])) (v := (4, 18)) (pcN := 80) jIG_165_77 rfl rfl rfl rfl rfl rfl rfl ?_
      refine jT_xiload (v := (0, 1)) (pcN := 82) jIG_165_80 rfl rfl rfl ?_
      refine jT_lald (x := 0) (a := 18) (j := 1) (fs := []) (X := [0, 0, 0, 0, 0, 0]) jIG_165_82 rfl rfl rfl rfl ?_
      refine jT_eq (LN := [(5, (0, 1)), (4, (4, 17)), (3, (0, 1)), (2, (0, u)), (0, (4, 0)), (1, (0, r1))]) (stN := [(1, 0), (1, 0), (0, 1), (4, 8)]) (hsN := jpG_61) rfl rfl rfl ?_
      refine jT_mm4 (x := 0) (y := 0) (z := 0) (by rfl) (by rfl) (by rfl) (by rfl) (jwl_idd (by omega) (by omega)) (jwl_idd (by omega) (by omega)) (by rw [decide_eq_false (show ¬ ((0 : Int) < 0) by omega)]; rfl) ?_
      refine jT_adv 1 (pcN := 87) (LN := [(5, (0, 1)), (4, (4, 17)), (3, (0, 1)), (2, (0, u)), (0, (4, 0)), (1, (0, r1))]) (stN := []) (hsN := jpG_61) (c1 := 0) (s1 := 0) (c2 := b1) (s2 := b2) (by exact rfl) ?_ (by omega) (by omega)
      refine jT_xiinc (x := 1) (z := 2) (LN := [(5, (0, 2)), (4, (4, 17)), (3, (0, 1)), (2, (0, u)), (0, (4, 0)), (1, (0, r1))]) (pcN := 90) jIG_165_87 rfl rfl (by decide) rfl rfl ?_
      refine jT_xgoto (pcN := 40) jIG_165_90 rfl ?_
      refine jT_xiload (v := (0, 2)) (pcN := 42) jIG_165_40 rfl rfl rfl ?_
      refine jT_xbipush (k := 6) (pcN := 44) jIG_165_42 (by decide) rfl ?_
      refine jT_xicF (t := 93) (pcN := 47) jIG_165_44 rfl (by decide +kernel) rfl rfl ?_
      refine jT_xaload_n (v := (4, 0)) (pcN := 48) jIG_165_47 rfl rfl rfl ?_
      refine jT_xgetf (a := 0) (t := 1) (ci := 13) (fi := 7) (c := jzG_7) (v := (4, 8)) (pcN := 51) jIG_165_48 rfl rfl rfl rfl rfl rfl rfl ?_
      refine jT_xiload (v := (0, 2)) (pcN := 53) jIG_165_51 rfl rfl rfl ?_
      refine jT_xiload_n (v := (0, u)) (pcN := 54) jIG_165_53 rfl rfl rfl ?_
      refine jT_ifT (a := u) (t := 68) (by rfl) (by rfl) (by rfl) (jw_idd (by omega) (by omega)) (by simp only [jcP] <;> omega) ?_
      refine jT_xaload_n (v := (4, 0)) (pcN := 69) jIG_165_68 rfl rfl rfl ?_
      refine jT_xgetf (a := 0) (t := 1) (ci := 13) (fi := 7) (c := jzG_7) (v := (4, 8)) (pcN := 72) jIG_165_69 rfl rfl rfl rfl rfl rfl rfl ?_
      refine jT_xiload (v := (0, 2)) (pcN := 74) jIG_165_72 rfl rfl rfl ?_
      refine jT_lald (x := 0) (a := 8) (j := 2) (fs := []) (X := [0, 0, 0, 0, 0, 0]) jIG_165_74 rfl rfl rfl rfl ?_
      refine jT_eq (LN := [(5, (0, 2)), (4, (4, 17)), (3, (0, 1)), (2, (0, u)), (0, (4, 0)), (1, (0, r1))]) (stN := [(1, 0), (0, 2), (4, 8)]) (hsN := jpG_61) rfl rfl rfl ?_
      refine jT_xaload (v := (4, 17)) (pcN := 77) jIG_165_75 rfl rfl rfl ?_
      refine jT_xgetf (a := 17) (t := 2) (ci := 4) (fi := 0) (c := (4, [(4, 18), (1, 1)], [])) (v := (4, 18)) (pcN := 80) jIG_165_77 rfl rfl rfl rfl rfl rfl rfl ?_
      refine jT_xiload (v := (0, 2)) (pcN := 82) jIG_165_80 rfl rfl rfl ?_
      refine jT_lald (x := 0) (a := 18) (j := 2) (fs := []) (X := [0, 0, 0, 0, 0, 0]) jIG_165_82 rfl rfl rfl rfl ?_
      refine jT_eq (LN := [(5, (0, 2)), (4, (4, 17)), (3, (0, 1)), (2, (0, u)), (0, (4, 0)), (1, (0, r1))]) (stN := [(1, 0), (1, 0), (0, 2), (4, 8)]) (hsN := jpG_61) rfl rfl rfl ?_
      refine jT_mm4 (x := 0) (y := 0) (z := 0) (by rfl) (by rfl) (by rfl) (by rfl) (jwl_idd (by omega) (by omega)) (jwl_idd (by omega) (by omega)) (by rw [decide_eq_false (show ¬ ((0 : Int) < 0) by omega)]; rfl) ?_
      refine jT_adv 1 (pcN := 87) (LN := [(5, (0, 2)), (4, (4, 17)), (3, (0, 1)), (2, (0, u)), (0, (4, 0)), (1, (0, r1))]) (stN := []) (hsN := jpG_61) (c1 := 0) (s1 := 0) (c2 := b1) (s2 := b2) (by exact rfl) ?_ (by omega) (by omega)
      refine jT_xiinc (x := 2) (z := 3) (LN := [(5, (0, 3)), (4, (4, 17)), (3, (0, 1)), (2, (0, u)), (0, (4, 0)), (1, (0, r1))]) (pcN := 90) jIG_165_87 rfl rfl (by decide) rfl rfl ?_
      refine jT_xgoto (pcN := 40) jIG_165_90 rfl ?_
      refine jT_xiload (v := (0, 3)) (pcN := 42) jIG_165_40 rfl rfl rfl ?_
      refine jT_xbipush (k := 6) (pcN := 44) jIG_165_42 (by decide) rfl ?_
      refine jT_xicF (t := 93) (pcN := 47) jIG_165_44 rfl (by decide +kernel) rfl rfl ?_
      refine jT_xaload_n (v := (4, 0)) (pcN := 48) jIG_165_47 rfl rfl rfl ?_
      refine jT_xgetf (a := 0) (t := 1) (ci := 13) (fi := 7) (c := jzG_7) (v := (4, 8)) (pcN := 51) jIG_165_48 rfl rfl rfl rfl rfl rfl rfl ?_
      refine jT_xiload (v := (0, 3)) (pcN := 53) jIG_165_51 rfl rfl rfl ?_
      refine jT_xiload_n (v := (0, u)) (pcN := 54) jIG_165_53 rfl rfl rfl ?_
      refine jT_ifT (a := u) (t := 68) (by rfl) (by rfl) (by rfl) (jw_idd (by omega) (by omega)) (by simp only [jcP] <;> omega) ?_
      refine jT_xaload_n (v := (4, 0)) (pcN := 69) jIG_165_68 rfl rfl rfl ?_
      refine jT_xgetf (a := 0) (t := 1) (ci := 13) (fi := 7) (c := jzG_7) (v := (4, 8)) (pcN := 72) jIG_165_69 rfl rfl rfl rfl rfl rfl rfl ?_
      refine jT_xiload (v := (0, 3)) (pcN := 74) jIG_165_72 rfl rfl rfl ?_
      refine jT_lald (x := 0) (a := 8) (j := 3) (fs := []) (X := [0, 0, 0, 0, 0, 0]) jIG_165_74 rfl rfl rfl rfl ?_
      refine jT_eq (LN := [(5, (0, 3)), (4, (4, 17)), (3, (0, 1)), (2, (0, u)), (0, (4, 0)), (1, (0, r1))]) (stN := [(1, 0), (0, 3), (4, 8)]) (hsN := jpG_61) rfl rfl rfl ?_
      refine jT_xaload (v := (4, 17)) (pcN := 77) jIG_165_75 rfl rfl rfl ?_
      refine jT_xgetf (a := 17) (t := 2) (ci := 4) (fi := 0) (c := (4, [(4, 18), (1, 1)], [])) (v := (4, 18)) (pcN := 80) jIG_165_77 rfl rfl rfl rfl rfl rfl rfl ?_
      refine jT_xiload (v := (0, 3)) (pcN := 82) jIG_165_80 rfl rfl rfl ?_
      refine jT_lald (x := 0) (a := 18) (j := 3) (fs := []) (X := [0, 0, 0, 0, 0, 0]) jIG_165_82 rfl rfl rfl rfl ?_
      refine jT_eq (LN := [(5, (0, 3)), (4, (4, 17)), (3, (0, 1)), (2, (0, u)), (0, (4, 0)), (1, (0, r1))]) (stN := [(1, 0), (1, 0), (0, 3), (4, 8)]) (hsN := jpG_61) rfl rfl rfl ?_
      refine jT_mm4 (x := 0) (y := 0) (z := 0) (by rfl) (by rfl) (by rfl) (by rfl) (jwl_idd (by omega) (by omega)) (jwl_idd (by omega) (by omega)) (by rw [decide_eq_false (show ¬ ((0 : Int) < 0) by omega)]; rfl) ?_
      refine jT_adv 1 (pcN := 87) (LN := [(5, (0, 3)), (4, (4, 17)), (3, (0, 1)), (2, (0, u)), (0, (4, 0)), (1, (0, r1))]) (stN := []) (hsN := jpG_61) (c1 := 0) (s1 := 0) (c2 := b1) (s2 := b2) (by exact rfl) ?_ (by omega) (by omega)
      refine jT_xiinc (x := 3) (z := 4) (LN := [(5, (0, 4)), (4, (4, 17)), (3, (0, 1)), (2, (0, u)), (0, (4, 0)), (1, (0, r1))]) (pcN := 90) jIG_165_87 rfl rfl (by decide) rfl rfl ?_
      refine jT_xgoto (pcN := 40) jIG_165_90 rfl ?_
      refine jT_xiload (v := (0, 4)) (pcN := 42) jIG_165_40 rfl rfl rfl ?_
      refine jT_xbipush (k := 6) (pcN := 44) jIG_165_42 (by decide) rfl ?_
      refine jT_xicF (t := 93) (pcN := 47) jIG_165_44 rfl (by decide +kernel) rfl rfl ?_
      refine jT_xaload_n (v := (4, 0)) (pcN := 48) jIG_165_47 rfl rfl rfl ?_
      refine jT_xgetf (a := 0) (t := 1) (ci := 13) (fi := 7) (c := jzG_7) (v := (4, 8)) (pcN := 51) jIG_165_48 rfl rfl rfl rfl rfl rfl rfl ?_
      refine jT_xiload (v := (0, 4)) (pcN := 53) jIG_165_51 rfl rfl rfl ?_
      refine jT_xiload_n (v := (0, u)) (pcN := 54) jIG_165_53 rfl rfl rfl ?_
      refine jT_ifT (a := u) (t := 68) (by rfl) (by rfl) (by rfl) (jw_idd (by omega) (by omega)) (by simp only [jcP] <;> omega) ?_
      refine jT_xaload_n (v := (4, 0)) (pcN := 69) jIG_165_68 rfl rfl rfl ?_
      refine jT_xgetf (a := 0) (t := 1) (ci := 13) (fi := 7) (c := jzG_7) (v := (4, 8)) (pcN := 72) jIG_165_69 rfl rfl rfl rfl rfl rfl rfl ?_
      refine jT_xiload (v := (0, 4)) (pcN := 74) jIG_165_72 rfl rfl rfl ?_
      refine jT_lald (x := 0) (a := 8) (j := 4) (fs := []) (X := [0, 0, 0, 0, 0, 0]) jIG_165_74 rfl rfl rfl rfl ?_
      refine jT_eq (LN := [(5, (0, 4)), (4, (4, 17)), (3, (0, 1)), (2, (0, u)), (0, (4, 0)), (1, (0, r1))]) (stN := [(1, 0), (0, 4), (4, 8)]) (hsN := jpG_61) rfl rfl rfl ?_
      refine jT_xaload (v := (4, 17)) (pcN := 77) jIG_165_75 rfl rfl rfl ?_
      refine jT_xgetf (a := 17) (t := 2) (ci := 4) (fi := 0) (c := (4, [(4, 18), (1, 1)], [])) (v := (4, 18)) (pcN := 80) jIG_165_77 rfl rfl rfl rfl rfl rfl rfl ?_
      refine jT_xiload (v := (0, 4)) (pcN := 82) jIG_165_80 rfl rfl rfl ?_
      refine jT_lald (x := 0) (a := 18) (j := 4) (fs := []) (X := [0, 0, 0, 0, 0, 0]) jIG_165_82 rfl rfl rfl rfl ?_
      refine jT_eq (LN := [(5, (0, 4)), (4, (4, 17)), (3, (0, 1)), (2, (0, u)), (0, (4, 0)), (1, (0, r1))]) (stN := [(1, 0), (1, 0), (0, 4), (4, 8)]) (hsN := jpG_61) rfl rfl rfl ?_
      refine jT_mm4 (x := 0) (y := 0) (z := 0) (by rfl) (by rfl) (by rfl) (by rfl) (jwl_idd (by omega) (by omega)) (jwl_idd (by omega) (by omega)) (by rw [decide_eq_false (show ¬ ((0 : Int) < 0) by omega)]; rfl) ?_
      refine jT_adv 1 (pcN := 87) (LN := [(5, (0, 4)), (4, (4, 17)), (3, (0, 1)), (2, (0, u)), (0, (4, 0)), (1, (0, r1))]) (stN := []) (hsN := jpG_61) (c1 := 0) (s1 := 0) (c2 := b1) (s2 := b2) (by exact rfl) ?_ (by omega) (by omega)
      refine jT_xiinc (x := 4) (z := 5) (LN := [(5, (0, 5)), (4, (4, 17)), (3, (0, 1)), (2, (0, u)), (0, (4, 0)), (1, (0, r1))]) (pcN := 90) jIG_165_87 rfl rfl (by decide) rfl rfl ?_
      refine jT_xgoto (pcN := 40) jIG_165_90 rfl ?_
      refine jT_xiload (v := (0, 5)) (pcN := 42) jIG_165_40 rfl rfl rfl ?_
      refine jT_xbipush (k := 6) (pcN := 44) jIG_165_42 (by decide) rfl ?_
      refine jT_xicF (t := 93) (pcN := 47) jIG_165_44 rfl (by decide +kernel) rfl rfl ?_
      refine jT_xaload_n (v := (4, 0)) (pcN := 48) jIG_165_47 rfl rfl rfl ?_
      refine jT_xgetf (a := 0) (t := 1) (ci := 13) (fi := 7) (c := jzG_7) (v := (4, 8)) (pcN := 51) jIG_165_48 rfl rfl rfl rfl rfl rfl rfl ?_
      refine jT_xiload (v := (0, 5)) (pcN := 53) jIG_165_51 rfl rfl rfl ?_
      refine jT_xiload_n (v := (0, u)) (pcN := 54) jIG_165_53 rfl rfl rfl ?_
      refine jT_ifT (a := u) (t := 68) (by rfl) (by rfl) (by rfl) (jw_idd (by omega) (by omega)) (by simp only [jcP] <;> omega) ?_
      refine jT_xaload_n (v := (4, 0)) (pcN := 69) jIG_165_68 rfl rfl rfl ?_
      refine jT_xgetf (a := 0) (t := 1) (ci := 13) (fi := 7) (c := jzG_7) (v := (4, 8)) (pcN := 72) jIG_165_69 rfl rfl rfl rfl rfl rfl rfl ?_
      refine jT_xiload (v := (0, 5)) (pcN := 74) jIG_165_72 rfl rfl rfl ?_
      refine jT_lald (x := 0) (a := 8) (j := 5) (fs := []) (X := [0, 0, 0, 0, 0, 0]) jIG_165_74 rfl rfl rfl rfl ?_
      refine jT_eq (LN := [(5, (0, 5)), (4, (4, 17)), (3, (0, 1)), (2, (0, u)), (0, (4, 0)), (1, (0, r1))]) (stN := [(1, 0), (0, 5), (4, 8)]) (hsN := jpG_61) rfl rfl rfl ?_
      refine jT_xaload (v := (4, 17)) (pcN := 77) jIG_165_75 rfl rfl rfl ?_
      refine jT_xgetf (a := 17) (t := 2) (ci := 4) (fi := 0) (c := (4, [(4, 18), (1, 1)], [])) (v := (4, 18)) (pcN := 80) jIG_165_77 rfl rfl rfl rfl rfl rfl rfl ?_
      refine jT_xiload (v := (0, 5)) (pcN := 82) jIG_165_80 rfl rfl rfl ?_
      refine jT_lald (x := 0) (a := 18) (j := 5) (fs := []) (X := [0, 0, 0, 0, 0, 0]) jIG_165_82 rfl rfl rfl rfl ?_
      refine jT_eq (LN := [(5, (0, 5)), (4, (4, 17)), (3, (0, 1)), (2, (0, u)), (0, (4, 0)), (1, (0, r1))]) (stN := [(1, 0), (1, 0), (0, 5), (4, 8)]) (hsN := jpG_61) rfl rfl rfl ?_
      refine jT_mm4 (x := 0) (y := 0) (z := 0) (by rfl) (by rfl) (by rfl) (by rfl) (jwl_idd (by omega) (by omega)) (jwl_idd (by omega) (by omega)) (by rw [decide_eq_false (show ¬ ((0 : Int) < 0) by omega)]; rfl) ?_
      refine jT_adv 1 (pcN := 87) (LN := [(5, (0, 5)), (4, (4, 17)), (3, (0, 1)), (2, (0, u)), (0, (4, 0)), (1, (0, r1))]) (stN := []) (hsN := jpG_61) (c1 := 0) (s1 := 0) (c2 := b1) (s2 := b2) (by exact rfl) ?_ (by omega) (by omega)
      refine jT_xiinc (x := 5) (z := 6) (LN := [(5, (0, 6)), (4, (4, 17)), (3, (0, 1)), (2, (0, u)), (0, (4, 0)), (1, (0, r1))]) (pcN := 90) jIG_165_87 rfl rfl (by decide) rfl rfl ?_
      refine jT_xgoto (pcN := 40) jIG_165_90 rfl ?_
      refine jT_xiload (v := (0, 6)) (pcN := 42) jIG_165_40 rfl rfl rfl ?_
      refine jT_xbipush (k := 6) (pcN := 44) jIG_165_42 (by decide) rfl ?_
      refine jT_xicT (pcN := 93) jIG_165_44 rfl (by decide +kernel) rfl ?_
      refine jT_xiconst (k := 0) (pcN := 94) jIG_165_93 rfl ?_
      refine jT_xistore_n (v := (0, 0)) (LN := [(2, (0, 0)), (5, (0, 6)), (4, (4, 17)), (3, (0, 1)), (0, (4, 0)), (1, (0, r1))]) (pcN := 95) jIG_165_94 rfl rfl rfl rfl ?_
      refine jT_xiinc (x := 1) (z := 2) (LN := [(3, (0, 2)), (2, (0, 0)), (5, (0, 6)), (4, (4, 17)), (0, (4, 0)), (1, (0, r1))]) (pcN := 98) jIG_165_95 rfl rfl (by decide) rfl rfl ?_
      refine jT_xgoto (pcN := 4) jIG_165_98 rfl ?_
      refine jT_loc (LN := [(3, (0, 2)), (2, (0, 0)), (0, (4, 0)), (1, (0, r1))]) (by show List.Nodup [3, 2, 0, 1]; decide) (by intro q hq; simp only [List.mem_cons, List.not_mem_nil, or_false] at hq; rcases hq with rfl | rfl | rfl | rfl <;> rfl) ?_
      exact jGl_ch_28_2 hd (u := 0) (by omega) h_r1 h
  · refine jT_xiload_n (v := (0, 1)) (pcN := 5) jIG_165_4 rfl rfl rfl ?_
    refine jT_xbipush (k := 8) (pcN := 7) jIG_165_5 (by decide) rfl ?_
    refine jT_xicF (t := 101) (pcN := 10) jIG_165_7 rfl (by decide +kernel) rfl rfl ?_
    refine jT_xiload_n (v := (0, r1)) (pcN := 11) jIG_165_10 rfl rfl rfl ?_
    refine jT_xiload_n (v := (0, 1)) (pcN := 12) jIG_165_11 rfl rfl rfl ?_
    refine jT_ishr (x := r1) (y := 1) (z := (Int32.ofInt r1 >>> (Int32.ofInt 1 &&& 31)).toInt) (by rfl) (by rfl) rfl ?_
    have hb_q1 : (-2147483648) ≤ (Int32.ofInt r1 >>> (Int32.ofInt 1 &&& 31)).toInt ∧ (Int32.ofInt r1 >>> (Int32.ofInt 1 &&& 31)).toInt ≤ 2147483647 := ⟨Int32.le_toInt _, Int.le_of_lt_add_one (Int32.toInt_lt _)⟩
    generalize hq_q1 : (Int32.ofInt r1 >>> (Int32.ofInt 1 &&& 31)).toInt = q1 at hb_q1 g_0 ⊢
    refine jT_xiconst (k := 1) (pcN := 14) jIG_165_13 rfl ?_
    refine jT_iand (x := q1) (y := 1) (z := q1 % 2) (by rfl) (by rfl) (jiand_1 _) ?_
    have hb_q2 : 0 ≤ q1 % 2 ∧ q1 % 2 ≤ 1 := ⟨by omega, by omega⟩
    generalize hq_q2 : q1 % 2 = q2 at hb_q2 g_0 ⊢
    refine jT_xiconst (k := 1) (pcN := 16) jIG_165_15 rfl ?_
    refine jT_icT (a := q2) (b := 1) (t := 95) (by rfl) (by rfl) (by rfl) (jw_idd (by omega) (by omega)) (jw_idd (by omega) (by omega)) (by simp only [jcP] <;> omega) ?_
    refine jT_xiinc (x := 1) (z := 2) (LN := [(3, (0, 2)), (2, (0, u)), (0, (4, 0)), (1, (0, r1))]) (pcN := 98) jIG_165_95 rfl rfl (by decide) rfl rfl ?_
    refine jT_xgoto (pcN := 4) jIG_165_98 rfl ?_
    refine jT_loc (LN := [(3, (0, 2)), (2, (0, u)), (0, (4, 0)), (1, (0, r1))]) (by show List.Nodup [3, 2, 0, 1]; decide) (by intro q hq; simp only [List.mem_cons, List.not_mem_nil, or_false] at hq; rcases hq with rfl | rfl | rfl | rfl <;> rfl) ?_
    exact jGl_ch_28_2 hd (u := u) (by omega) h_r1 h
theorem jGl_ch_28_0 {xs : List Int} {d b1 b2 : Nat} {Q : Nat → JV → List JC → Prop} (hd : 2 < d) {r1 : Int} {u : Int} (h_u : 0 ≤ u ∧ u ≤ 1) (h_r1 : 1 ≤ r1 ∧ r1 ≤ 255) (h : jT xs d 165 19 101 [(0, (4, 0))] [] [jzG_7, jgh, jgh, jgh, jgh, jgh, jgh, jgh, (101, [], [0, 0, 0, 0, 0, 0]), jgh, jgh, jzG_59, jzG_60, jgh, jgh, jgh, jgh, (4, [(4, 18), (1, 1)], []), (101, [], [0, 0, 0, 0, 0, 0])] b1 b2 Q) : jT xs d 165 19 4 [(3, (0, 0)), (2, (0, u)), (0, (4, 0)), (1, (0, r1))] [] [jzG_7, jgh, jgh, jgh, jgh, jgh, jgh, jgh, (101, [], [0, 0, 0, 0, 0, 0]), jgh, jgh, jzG_59, jzG_60, jgh, jgh, jgh, jgh, (4, [(4, 18), (1, 1)], []), (101, [], [0, 0, 0, 0, 0, 0])] b1 b2 Q := by
  rcases (show (0 ≤ (((Int32.ofInt r1 >>> (Int32.ofInt 0 &&& 31)).toInt) % 2) - 1) ∨ ((((Int32.ofInt r1 >>> (Int32.ofInt 0 &&& 31)).toInt) % 2) - 1 < 0) by omega) with g_0 | g_0
  · rcases (show (0 ≤ u - 1) ∨ (u - 1 < 0) by omega) with g_1 | g_1
    · refine jT_xiload_n (v := (0, 0)) (pcN := 5) jIG_165_4 rfl rfl rfl ?_
      refine jT_xbipush (k := 8) (pcN := 7) jIG_165_5 (by decide) rfl ?_
      refine jT_xicF (t := 101) (pcN := 10) jIG_165_7 rfl (by decide +kernel) rfl rfl ?_
      refine jT_xiload_n (v := (0, r1)) (pcN := 11) jIG_165_10 rfl rfl rfl ?_
      refine jT_xiload_n (v := (0, 0)) (pcN := 12) jIG_165_11 rfl rfl rfl ?_
      refine jT_ishr (x := r1) (y := 0) (z := (Int32.ofInt r1 >>> (Int32.ofInt 0 &&& 31)).toInt) (by rfl) (by rfl) rfl ?_
      have hb_q1 : (-2147483648) ≤ (Int32.ofInt r1 >>> (Int32.ofInt 0 &&& 31)).toInt ∧ (Int32.ofInt r1 >>> (Int32.ofInt 0 &&& 31)).toInt ≤ 2147483647 := ⟨Int32.le_toInt _, Int.le_of_lt_add_one (Int32.toInt_lt _)⟩
      generalize hq_q1 : (Int32.ofInt r1 >>> (Int32.ofInt 0 &&& 31)).toInt = q1 at hb_q1 g_0 ⊢
      refine jT_xiconst (k := 1) (pcN := 14) jIG_165_13 rfl ?_
      refine jT_iand (x := q1) (y := 1) (z := q1 % 2) (by rfl) (by rfl) (jiand_1 _) ?_
      have hb_q2 : 0 ≤ q1 % 2 ∧ q1 % 2 ≤ 1 := ⟨by omega, by omega⟩
      generalize hq_q2 : q1 % 2 = q2 at hb_q2 g_0 ⊢
      refine jT_xiconst (k := 1) (pcN := 16) jIG_165_15 rfl ?_
      refine jT_icF (a := q2) (b := 1) (t := 95) (by rfl) (by rfl) (by rfl) (jw_idd (by omega) (by omega)) (jw_idd (by omega) (by omega)) (by simp only [jcP] <;> omega) ?_
      refine jT_xaload_n (v := (4, 0)) (pcN := 20) jIG_165_19 rfl rfl rfl ?_
      refine jT_xgetf (a := 0) (t := 1) (ci := 13) (fi := 11) (c := jzG_7) (v := (4, 11)) (pcN := 23) jIG_165_20 rfl rfl rfl rfl rfl rfl rfl ?_
      refine jT_xiload_n (v := (0, 0)) (pcN := 24) jIG_165_23 rfl rfl rfl ?_
      refine jT_fR [11, 12, 13, 14, 15, 16, 17] 19 (y := 57) (pcN := 27) (dC := 0) (bc1 := 0) (bc2 := 0) (c1 := b1) (c2 := b2) (as := [(4, 11), (0, 0)]) (asC := [(4, 0), (0, 0)]) (LN := [(3, (0, 0)), (2, (0, u)), (0, (4, 0)), (1, (0, r1))]) (stN := []) (hsC := jpG_54) (v := (4, 6)) (st2 := [(4, 17)]) (jG_57_18 (d := 0)) (by rfl) (by rfl) (by decide +kernel) (by rfl) (by rfl) (by omega) (by omega) (by omega) (by omega) rfl ?_
      refine jT_xastore (v := (4, 17)) (LN := [(4, (4, 17)), (3, (0, 0)), (2, (0, u)), (0, (4, 0)), (1, (0, r1))]) (pcN := 29) jIG_165_27 rfl rfl rfl rfl ?_
      refine jT_xaload_n (v := (4, 0)) (pcN := 30) jIG_165_29 rfl rfl rfl ?_
      refine jT_xaload (v := (4, 17)) (pcN := 32) jIG_165_30 rfl rfl rfl ?_
      refine jT_xbipush (k := 100) (pcN := 34) jIG_165_32 (by decide) rfl ?_
      refine jT_fR [0, 17, 18] 19 (y := 142) (pcN := 37) (dC := 1) (bc1 := 0) (bc2 := 0) (c1 := b1) (c2 := b2) (as := [(4, 0), (4, 17), (0, 100)]) (asC := [(4, 0), (4, 1), (0, 100)]) (LN := [(4, (4, 17)), (3, (0, 0)), (2, (0, u)), (0, (4, 0)), (1, (0, r1))]) (stN := []) (hsC := [jgh, (4, [(4, 2), (1, 1)], []), (101, [], [0, 0, 0, 0, 0, 0])]) (v := (9, 0)) (st2 := []) (jG_142_20 (d := 0)) (by rfl) (by rfl) (by decide +kernel) (by rfl) (by rfl) (by omega) (by omega) (by omega) (by omega) rfl ?_
      refine jT_xiconst (k := 0) (pcN := 38) jIG_165_37 rfl ?_
      refine jT_xistore (v := (0, 0)) (LN := [(5, (0, 0)), (4, (4, 17)), (3, (0, 0)), (2, (0, u)), (0, (4, 0)), (1, (0, r1))]) (pcN := 40) jIG_165_38 rfl rfl rfl rfl ?_
      refine jT_xiload (v := (0, 0)) (pcN := 42) jIG_165_40 rfl rfl rfl ?_
      refine jT_xbipush (k := 6) (pcN := 44) jIG_165_42 (by decide) rfl ?_
      refine jT_xicF (t := 93) (pcN := 47) jIG_165_44 rfl (by decide +kernel) rfl rfl ?_
      refine jT_xaload_n (v := (4, 0)) (pcN := 48) jIG_165_47 rfl rfl rfl ?_
      refine jT_xgetf (a := 0) (t := 1) (ci := 13) (fi := 7) (c := jzG_7) (v := (4, 8)) (pcN := 51) jIG_165_48 rfl rfl rfl rfl rfl rfl rfl ?_
      refine jT_xiload (v := (0, 0)) (pcN := 53) jIG_165_51 rfl rfl rfl ?_
      refine jT_xiload_n (v := (0, u)) (pcN := 54) jIG_165_53 rfl rfl rfl ?_
      refine jT_ifF (a := u) (t := 68) (by rfl) (by rfl) (by rfl) (jw_idd (by omega) (by omega)) (by simp only [jcP] <;> omega) ?_
      refine jT_xaload (v := (4, 17)) (pcN := 59) jIG_165_57 rfl rfl rfl ?_
      refine jT_xgetf (a := 17) (t := 2) (ci := 4) (fi := 0) (c := (4, [(4, 18), (1, 1)], [])) (v := (4, 18)) (pcN := 62) jIG_165_59 rfl rfl rfl rfl rfl rfl rfl ?_
      refine jT_xiload (v := (0, 0)) (pcN := 64) jIG_165_62 rfl rfl rfl ?_
      refine jT_lald (x := 0) (a := 18) (j := 0) (fs := []) (X := [0, 0, 0, 0, 0, 0]) jIG_165_64 rfl rfl rfl rfl ?_
      refine jT_eq (LN := [(5, (0, 0)), (4, (4, 17)), (3, (0, 0)), (2, (0, u)), (0, (4, 0)), (1, (0, r1))]) (stN := [(1, 0), (0, 0), (4, 8)]) (hsN := jpG_61) rfl rfl rfl ?_
      refine jT_xgoto (pcN := 86) jIG_165_65 rfl ?_
      refine jT_adv 1 (pcN := 87) (LN := [(5, (0, 0)), (4, (4, 17)), (3, (0, 0)), (2, (0, u)), (0, (4, 0)), (1, (0, r1))]) (stN := []) (hsN := jpG_61) (c1 := 0) (s1 := 0) (c2 := b1) (s2 := b2) (by exact rfl) ?_ (by omega) (by omega)
      refine jT_xiinc (x := 0) (z := 1) (LN := [(5, (0, 1)), (4, (4, 17)), (3, (0, 0)), (2, (0, u)), (0, (4, 0)), (1, (0, r1))]) (pcN := 90) jIG_165_87 rfl rfl (by decide) rfl rfl ?_
      refine jT_xgoto (pcN := 40) jIG_165_90 rfl ?_
      refine jT_xiload (v := (0, 1)) (pcN := 42) jIG_165_40 rfl rfl rfl ?_
      refine jT_xbipush (k := 6) (pcN := 44) jIG_165_42 (by decide) rfl ?_
      refine jT_xicF (t := 93) (pcN := 47) jIG_165_44 rfl (by decide +kernel) rfl rfl ?_
      refine jT_xaload_n (v := (4, 0)) (pcN := 48) jIG_165_47 rfl rfl rfl ?_
      refine jT_xgetf (a := 0) (t := 1) (ci := 13) (fi := 7) (c := jzG_7) (v := (4, 8)) (pcN := 51) jIG_165_48 rfl rfl rfl rfl rfl rfl rfl ?_
      refine jT_xiload (v := (0, 1)) (pcN := 53) jIG_165_51 rfl rfl rfl ?_
      refine jT_xiload_n (v := (0, u)) (pcN := 54) jIG_165_53 rfl rfl rfl ?_
      refine jT_ifF (a := u) (t := 68) (by rfl) (by rfl) (by rfl) (jw_idd (by omega) (by omega)) (by simp only [jcP] <;> omega) ?_
      refine jT_xaload (v := (4, 17)) (pcN := 59) jIG_165_57 rfl rfl rfl ?_
      refine jT_xgetf (a := 17) (t := 2) (ci := 4) (fi := 0) (c := (4, [(4, 18), (1, 1)], [])) (v := (4, 18)) (pcN := 62) jIG_165_59 rfl rfl rfl rfl rfl rfl rfl ?_
      refine jT_xiload (v := (0, 1)) (pcN := 64) jIG_165_62 rfl rfl rfl ?_
      refine jT_lald (x := 0) (a := 18) (j := 1) (fs := []) (X := [0, 0, 0, 0, 0, 0]) jIG_165_64 rfl rfl rfl rfl ?_
      refine jT_eq (LN := [(5, (0, 1)), (4, (4, 17)), (3, (0, 0)), (2, (0, u)), (0, (4, 0)), (1, (0, r1))]) (stN := [(1, 0), (0, 1), (4, 8)]) (hsN := jpG_61) rfl rfl rfl ?_
      refine jT_xgoto (pcN := 86) jIG_165_65 rfl ?_
      refine jT_adv 1 (pcN := 87) (LN := [(5, (0, 1)), (4, (4, 17)), (3, (0, 0)), (2, (0, u)), (0, (4, 0)), (1, (0, r1))]) (stN := []) (hsN := jpG_61) (c1 := 0) (s1 := 0) (c2 := b1) (s2 := b2) (by exact rfl) ?_ (by omega) (by omega)
      refine jT_xiinc (x := 1) (z := 2) (LN := [(5, (0, 2)), (4, (4, 17)), (3, (0, 0)), (2, (0, u)), (0, (4, 0)), (1, (0, r1))]) (pcN := 90) jIG_165_87 rfl rfl (by decide) rfl rfl ?_
      refine jT_xgoto (pcN := 40) jIG_165_90 rfl ?_
      refine jT_xiload (v := (0, 2)) (pcN := 42) jIG_165_40 rfl rfl rfl ?_
      refine jT_xbipush (k := 6) (pcN := 44) jIG_165_42 (by decide) rfl ?_
      refine jT_xicF (t := 93) (pcN := 47) jIG_165_44 rfl (by decide +kernel) rfl rfl ?_
      refine jT_xaload_n (v := (4, 0)) (pcN := 48) jIG_165_47 rfl rfl rfl ?_
      refine jT_xgetf (a := 0) (t := 1) (ci := 13) (fi := 7) (c := jzG_7) (v := (4, 8)) (pcN := 51) jIG_165_48 rfl rfl rfl rfl rfl rfl rfl ?_
      refine jT_xiload (v := (0, 2)) (pcN := 53) jIG_165_51 rfl rfl rfl ?_
      refine jT_xiload_n (v := (0, u)) (pcN := 54) jIG_165_53 rfl rfl rfl ?_
      refine jT_ifF (a := u) (t := 68) (by rfl) (by rfl) (by rfl) (jw_idd (by omega) (by omega)) (by simp only [jcP] <;> omega) ?_
      refine jT_xaload (v := (4, 17)) (pcN := 59) jIG_165_57 rfl rfl rfl ?_
      refine jT_xgetf (a := 17) (t := 2) (ci := 4) (fi := 0) (c := (4, [(4, 18), (1, 1)], [])) (v := (4, 18)) (pcN := 62) jIG_165_59 rfl rfl rfl rfl rfl rfl rfl ?_
      refine jT_xiload (v := (0, 2)) (pcN := 64) jIG_165_62 rfl rfl rfl ?_
      refine jT_lald (x := 0) (a := 18) (j := 2) (fs := []) (X := [0, 0, 0, 0, 0, 0]) jIG_165_64 rfl rfl rfl rfl ?_
      refine jT_eq (LN := [(5, (0, 2)), (4, (4, 17)), (3, (0, 0)), (2, (0, u)), (0, (4, 0)), (1, (0, r1))]) (stN := [(1, 0), (0, 2), (4, 8)]) (hsN := jpG_61) rfl rfl rfl ?_
      refine jT_xgoto (pcN := 86) jIG_165_65 rfl ?_
      refine jT_adv 1 (pcN := 87) (LN := [(5, (0, 2)), (4, (4, 17)), (3, (0, 0)), (2, (0, u)), (0, (4, 0)), (1, (0, r1))]) (stN := []) (hsN := jpG_61) (c1 := 0) (s1 := 0) (c2 := b1) (s2 := b2) (by exact rfl) ?_ (by omega) (by omega)
      refine jT_xiinc (x := 2) (z := 3) (LN := [(5, (0, 3)), (4, (4, 17)), (3, (0, 0)), (2, (0, u)), (0, (4, 0)), (1, (0, r1))]) (pcN := 90) jIG_165_87 rfl rfl (by decide) rfl rfl ?_
      refine jT_xgoto (pcN := 40) jIG_165_90 rfl ?_
      refine jT_xiload (v := (0, 3)) (pcN := 42) jIG_165_40 rfl rfl rfl ?_
      refine jT_xbipush (k := 6) (pcN := 44) jIG_165_42 (by decide) rfl ?_
      refine jT_xicF (t := 93) (pcN := 47) jIG_165_44 rfl (by decide +kernel) rfl rfl ?_
      refine jT_xaload_n (v := (4, 0)) (pcN := 48) jIG_165_47 rfl rfl rfl ?_
      refine jT_xgetf (a := 0) (t := 1) (ci := 13) (fi := 7) (c := jzG_7) (v := (4, 8)) (pcN := 51) jIG_165_48 rfl rfl rfl rfl rfl rfl rfl ?_
      refine jT_xiload (v := (0, 3)) (pcN := 53) jIG_165_51 rfl rfl rfl ?_
      refine jT_xiload_n (v := (0, u)) (pcN := 54) jIG_165_53 rfl rfl rfl ?_
      refine jT_ifF (a := u) (t := 68) (by rfl) (by rfl) (by rfl) (jw_idd (by omega) (by omega)) (by simp only [jcP] <;> omega) ?_
      refine jT_xaload (v := (4, 17)) (pcN := 59) jIG_165_57 rfl rfl rfl ?_
      refine jT_xgetf (a := 17) (t := 2) (ci := 4) (fi := 0) (c := (4, [(4, 18), (1, 1)], [])) (v := (4, 18)) (pcN := 62) jIG_165_59 rfl rfl rfl rfl rfl rfl rfl ?_
      refine jT_xiload (v := (0, 3)) (pcN := 64) jIG_165_62 rfl rfl rfl ?_
      refine jT_lald (x := 0) (a := 18) (j := 3) (fs := []) (X := [0, 0, 0, 0, 0, 0]) jIG_165_64 rfl rfl rfl rfl ?_
      refine jT_eq (LN := [(5, (0, 3)), (4, (4, 17)), (3, (0, 0)), (2, (0, u)), (0, (4, 0)), (1, (0, r1))]) (stN := [(1, 0), (0, 3), (4, 8)]) (hsN := jpG_61) rfl rfl rfl ?_
      refine jT_xgoto (pcN := 86) jIG_165_65 rfl ?_
      refine jT_adv 1 (pcN := 87) (LN := [(5, (0, 3)), (4, (4, 17)), (3, (0, 0)), (2, (0, u)), (0, (4, 0)), (1, (0, r1))]) (stN := []) (hsN := jpG_61) (c1 := 0) (s1 := 0) (c2 := b1) (s2 := b2) (by exact rfl) ?_ (by omega) (by omega)
      refine jT_xiinc (x := 3) (z := 4) (LN := [(5, (0, 4)), (4, (4, 17)), (3, (0, 0)), (2, (0, u)), (0, (4, 0)), (1, (0, r1))]) (pcN := 90) jIG_165_87 rfl rfl (by decide) rfl rfl ?_
      refine jT_xgoto (pcN := 40) jIG_165_90 rfl ?_
      refine jT_xiload (v := (0, 4)) (pcN := 42) jIG_165_40 rfl rfl rfl ?_
      refine jT_xbipush (k := 6) (pcN := 44) jIG_165_42 (by decide) rfl ?_
      refine jT_xicF (t := 93) (pcN := 47) jIG_165_44 rfl (by decide +kernel) rfl rfl ?_
      refine jT_xaload_n (v := (4, 0)) (pcN := 48) jIG_165_47 rfl rfl rfl ?_
      refine jT_xgetf (a := 0) (t := 1) (ci := 13) (fi := 7) (c := jzG_7) (v := (4, 8)) (pcN := 51) jIG_165_48 rfl rfl rfl rfl rfl rfl rfl ?_
      refine jT_xiload (v := (0, 4)) (pcN := 53) jIG_165_51 rfl rfl rfl ?_
      refine jT_xiload_n (v := (0, u)) (pcN := 54) jIG_165_53 rfl rfl rfl ?_
      refine jT_ifF (a := u) (t := 68) (by rfl) (by rfl) (by rfl) (jw_idd (by omega) (by omega)) (by simp only [jcP] <;> omega) ?_
      refine jT_xaload (v := (4, 17)) (pcN := 59) jIG_165_57 rfl rfl rfl ?_
      refine jT_xgetf (a := 17) (t := 2) (ci := 4) (fi := 0) (c := (4, [(4, 18), (1, 1)], [])) (v := (4, 18)) (pcN := 62) jIG_165_59 rfl rfl rfl rfl rfl rfl rfl ?_
      refine jT_xiload (v := (0, 4)) (pcN := 64) jIG_165_62 rfl rfl rfl ?_
      refine jT_lald (x := 0) (a := 18) (j := 4) (fs := []) (X := [0, 0, 0, 0, 0, 0]) jIG_165_64 rfl rfl rfl rfl ?_
      refine jT_eq (LN := [(5, (0, 4)), (4, (4, 17)), (3, (0, 0)), (2, (0, u)), (0, (4, 0)), (1, (0, r1))]) (stN := [(1, 0), (0, 4), (4, 8)]) (hsN := jpG_61) rfl rfl rfl ?_
      refine jT_xgoto (pcN := 86) jIG_165_65 rfl ?_
      refine jT_adv 1 (pcN := 87) (LN := [(5, (0, 4)), (4, (4, 17)), (3, (0, 0)), (2, (0, u)), (0, (4, 0)), (1, (0, r1))]) (stN := []) (hsN := jpG_61) (c1 := 0) (s1 := 0) (c2 := b1) (s2 := b2) (by exact rfl) ?_ (by omega) (by omega)
      refine jT_xiinc (x := 4) (z := 5) (LN := [(5, (0, 5)), (4, (4, 17)), (3, (0, 0)), (2, (0, u)), (0, (4, 0)), (1, (0, r1))]) (pcN := 90) jIG_165_87 rfl rfl (by decide) rfl rfl ?_
      refine jT_xgoto (pcN := 40) jIG_165_90 rfl ?_
      refine jT_xiload (v := (0, 5)) (pcN := 42) jIG_165_40 rfl rfl rfl ?_
      refine jT_xbipush (k := 6) (pcN := 44) jIG_165_42 (by decide) rfl ?_
      refine jT_xicF (t := 93) (pcN := 47) jIG_165_44 rfl (by decide +kernel) rfl rfl ?_
      refine jT_xaload_n (v := (4, 0)) (pcN := 48) jIG_165_47 rfl rfl rfl ?_
      refine jT_xgetf (a := 0) (t := 1) (ci := 13) (fi := 7) (c := jzG_7) (v := (4, 8)) (pcN := 51) jIG_165_48 rfl rfl rfl rfl rfl rfl rfl ?_
      refine jT_xiload (v := (0, 5)) (pcN := 53) jIG_165_51 rfl rfl rfl ?_
      refine jT_xiload_n (v := (0, u)) (pcN := 54) jIG_165_53 rfl rfl rfl ?_
      refine jT_ifF (a := u) (t := 68) (by rfl) (by rfl) (by rfl) (jw_idd (by omega) (by omega)) (by simp only [jcP] <;> omega) ?_
      refine jT_xaload (v := (4, 17)) (pcN := 59) jIG_165_57 rfl rfl rfl ?_
      refine jT_xgetf (a := 17) (t := 2) (ci := 4) (fi := 0) (c := (4, [(4, 18), (1, 1)], [])) (v := (4, 18)) (pcN := 62) jIG_165_59 rfl rfl rfl rfl rfl rfl rfl ?_
      refine jT_xiload (v := (0, 5)) (pcN := 64) jIG_165_62 rfl rfl rfl ?_
      refine jT_lald (x := 0) (a := 18) (j := 5) (fs := []) (X := [0, 0, 0, 0, 0, 0]) jIG_165_64 rfl rfl rfl rfl ?_
      refine jT_eq (LN := [(5, (0, 5)), (4, (4, 17)), (3, (0, 0)), (2, (0, u)), (0, (4, 0)), (1, (0, r1))]) (stN := [(1, 0), (0, 5), (4, 8)]) (hsN := jpG_61) rfl rfl rfl ?_
      refine jT_xgoto (pcN := 86) jIG_165_65 rfl ?_
      refine jT_adv 1 (pcN := 87) (LN := [(5, (0, 5)), (4, (4, 17)), (3, (0, 0)), (2, (0, u)), (0, (4, 0)), (1, (0, r1))]) (stN := []) (hsN := jpG_61) (c1 := 0) (s1 := 0) (c2 := b1) (s2 := b2) (by exact rfl) ?_ (by omega) (by omega)
      refine jT_xiinc (x := 5) (z := 6) (LN := [(5, (0, 6)), (4, (4, 17)), (3, (0, 0)), (2, (0, u)), (0, (4, 0)), (1, (0, r1))]) (pcN := 90) jIG_165_87 rfl rfl (by decide) rfl rfl ?_
      refine jT_xgoto (pcN := 40) jIG_165_90 rfl ?_
      refine jT_xiload (v := (0, 6)) (pcN := 42) jIG_165_40 rfl rfl rfl ?_
      refine jT_xbipush (k := 6) (pcN := 44) jIG_165_42 (by decide) rfl ?_
      refine jT_xicT (pcN := 93) jIG_165_44 rfl (by decide +kernel) rfl ?_
      refine jT_xiconst (k := 0) (pcN := 94) jIG_165_93 rfl ?_
      refine jT_xistore_n (v := (0, 0)) (LN := [(2, (0, 0)), (5, (0, 6)), (4, (4, 17)), (3, (0, 0)), (0, (4, 0)), (1, (0, r1))]) (pcN := 95) jIG_165_94 rfl rfl rfl rfl ?_
      refine jT_xiinc (x := 0) (z := 1) (LN := [(3, (0, 1)), (2, (0, 0)), (5, (0, 6)), (4, (4, 17)), (0, (4, 0)), (1, (0, r1))]) (pcN := 98) jIG_165_95 rfl rfl (by decide) rfl rfl ?_
      refine jT_xgoto (pcN := 4) jIG_165_98 rfl ?_
      refine jT_loc (LN := [(3, (0, 1)), (2, (0, 0)), (0, (4, 0)), (1, (0, r1))]) (by show List.Nodup [3, 2, 0, 1]; decide) (by intro q hq; simp only [List.mem_cons, List.not_mem_nil, or_false] at hq; rcases hq with rfl | rfl | rfl | rfl <;> rfl) ?_
      exact jGl_ch_28_1 hd (u := 0) (by omega) h_r1 h
    · refine jT_xiload_n (v := (0, 0)) (pcN := 5) jIG_165_4 rfl rfl rfl ?_
      refine jT_xbipush (k := 8) (pcN := 7) jIG_165_5 (by decide) rfl ?_
      refine jT_xicF (t := 101) (pcN := 10) jIG_165_7 rfl (by decide +kernel) rfl rfl ?_
      refine jT_xiload_n (v := (0, r1)) (pcN := 11) jIG_165_10 rfl rfl rfl ?_
      refine jT_xiload_n (v := (0, 0)) (pcN := 12) jIG_165_11 rfl rfl rfl ?_
      refine jT_ishr (x := r1) (y := 0) (z := (Int32.ofInt r1 >>> (Int32.ofInt 0 &&& 31)).toInt) (by rfl) (by rfl) rfl ?_
      have hb_q1 : (-2147483648) ≤ (Int32.ofInt r1 >>> (Int32.ofInt 0 &&& 31)).toInt ∧ (Int32.ofInt r1 >>> (Int32.ofInt 0 &&& 31)).toInt ≤ 2147483647 := ⟨Int32.le_toInt _, Int.le_of_lt_add_one (Int32.toInt_lt _)⟩
      generalize hq_q1 : (Int32.ofInt r1 >>> (Int32.ofInt 0 &&& 31)).toInt = q1 at hb_q1 g_0 ⊢
      refine jT_xiconst (k := 1) (pcN := 14) jIG_165_13 rfl ?_
      refine jT_iand (x := q1) (y := 1) (z := q1 % 2) (by rfl) (by rfl) (jiand_1 _) ?_
      have hb_q2 : 0 ≤ q1 % 2 ∧ q1 % 2 ≤ 1 := ⟨by omega, by omega⟩
      generalize hq_q2 : q1 % 2 = q2 at hb_q2 g_0 ⊢
      refine jT_xiconst (k := 1) (pcN := 16) jIG_165_15 rfl ?_
      refine jT_icF (a := q2) (b := 1) (t := 95) (by rfl) (by rfl) (by rfl) (jw_idd (by omega) (by omega)) (jw_idd (by omega) (by omega)) (by simp only [jcP] <;> omega) ?_
      refine jT_xaload_n (v := (4, 0)) (pcN := 20) jIG_165_19 rfl rfl rfl ?_
      refine jT_xgetf (a := 0) (t := 1) (ci := 13) (fi := 11) (c := jzG_7) (v := (4, 11)) (pcN := 23) jIG_165_20 rfl rfl rfl rfl rfl rfl rfl ?_
      refine jT_xiload_n (v := (0, 0)) (pcN := 24) jIG_165_23 rfl rfl rfl ?_
      refine jT_fR [11, 12, 13, 14, 15, 16, 17] 19 (y := 57) (pcN := 27) (dC := 0) (bc1 := 0) (bc2 := 0) (c1 := b1) (c2 := b2) (as := [(4, 11), (0, 0)]) (asC := [(4, 0), (0, 0)]) (LN := [(3, (0, 0)), (2, (0, u)), (0, (4, 0)), (1, (0, r1))]) (stN := []) (hsC := jpG_54) (v := (4, 6)) (st2 := [(4, 17)]) (jG_57_18 (d := 0)) (by rfl) (by rfl) (by decide +kernel) (by rfl) (by rfl) (by omega) (by omega) (by omega) (by omega) rfl ?_
      refine jT_xastore (v := (4, 17)) (LN := [(4, (4, 17)), (3, (0, 0)), (2, (0, u)), (0, (4, 0)), (1, (0, r1))]) (pcN := 29) jIG_165_27 rfl rfl rfl rfl ?_
      refine jT_xaload_n (v := (4, 0)) (pcN := 30) jIG_165_29 rfl rfl rfl ?_
      refine jT_xaload (v := (4, 17)) (pcN := 32) jIG_165_30 rfl rfl rfl ?_
      refine jT_xbipush (k := 100) (pcN := 34) jIG_165_32 (by decide) rfl ?_
      refine jT_fR [0, 17, 18] 19 (y := 142) (pcN := 37) (dC := 1) (bc1 := 0) (bc2 := 0) (c1 := b1) (c2 := b2) (as := [(4, 0), (4, 17), (0, 100)]) (asC := [(4, 0), (4, 1), (0, 100)]) (LN := [(4, (4, 17)), (3, (0, 0)), (2, (0, u)), (0, (4, 0)), (1, (0, r1))]) (stN := []) (hsC := [jgh, (4, [(4, 2), (1, 1)], []), (101, [], [0, 0, 0, 0, 0, 0])]) (v := (9, 0)) (st2 := []) (jG_142_20 (d := 0)) (by rfl) (by rfl) (by decide +kernel) (by rfl) (by rfl) (by omega) (by omega) (by omega) (by omega) rfl ?_
      refine jT_xiconst (k := 0) (pcN := 38) jIG_165_37 rfl ?_
      refine jT_xistore (v := (0, 0)) (LN := [(5, (0, 0)), (4, (4, 17)), (3, (0, 0)), (2, (0, u)), (0, (4, 0)), (1, (0, r1))]) (pcN := 40) jIG_165_38 rfl rfl rfl rfl ?_
      refine jT_xiload (v := (0, 0)) (pcN := 42) jIG_165_40 rfl rfl rfl ?_
      refine jT_xbipush (k := 6) (pcN := 44) jIG_165_42 (by decide) rfl ?_
      refine jT_xicF (t := 93) (pcN := 47) jIG_165_44 rfl (by decide +kernel) rfl rfl ?_
      refine jT_xaload_n (v := (4, 0)) (pcN := 48) jIG_165_47 rfl rfl rfl ?_
      refine jT_xgetf (a := 0) (t := 1) (ci := 13) (fi := 7) (c := jzG_7) (v := (4, 8)) (pcN := 51) jIG_165_48 rfl rfl rfl rfl rfl rfl rfl ?_
      refine jT_xiload (v := (0, 0)) (pcN := 53) jIG_165_51 rfl rfl rfl ?_
      refine jT_xiload_n (v := (0, u)) (pcN := 54) jIG_165_53 rfl rfl rfl ?_
      refine jT_ifT (a := u) (t := 68) (by rfl) (by rfl) (by rfl) (jw_idd (by omega) (by omega)) (by simp only [jcP] <;> omega) ?_
      refine jT_xaload_n (v := (4, 0)) (pcN := 69) jIG_165_68 rfl rfl rfl ?_
      refine jT_xgetf (a := 0) (t := 1) (ci := 13) (fi := 7) (c := jzG_7) (v := (4, 8)) (pcN := 72) jIG_165_69 rfl rfl rfl rfl rfl rfl rfl ?_
      refine jT_xiload (v := (0, 0)) (pcN := 74) jIG_165_72 rfl rfl rfl ?_
      refine jT_lald (x := 0) (a := 8) (j := 0) (fs := []) (X := [0, 0, 0, 0, 0, 0]) jIG_165_74 rfl rfl rfl rfl ?_
      refine jT_eq (LN := [(5, (0, 0)), (4, (4, 17)), (3, (0, 0)), (2, (0, u)), (0, (4, 0)), (1, (0, r1))]) (stN := [(1, 0), (0, 0), (4, 8)]) (hsN := jpG_61) rfl rfl rfl ?_
      refine jT_xaload (v := (4, 17)) (pcN := 77) jIG_165_75 rfl rfl rfl ?_
      refine jT_xgetf (a := 17) (t := 2) (ci := 4) (fi := 0) (c := (4, [(4, 18), (1, 1)], [])) (v := (4, 18)) (pcN := 80) jIG_165_77 rfl rfl rfl rfl rfl rfl rfl ?_
      refine jT_xiload (v := (0, 0)) (pcN := 82) jIG_165_80 rfl rfl rfl ?_
      refine jT_lald (x := 0) (a := 18) (j := 0) (fs := []) (X := [0, 0, 0, 0, 0, 0]) jIG_165_82 rfl rfl rfl rfl ?_
      refine jT_eq (LN := [(5, (0, 0)), (4, (4, 17)), (3, (0, 0)), (2, (0, u)), (0, (4, 0)), (1, (0, r1))]) (stN := [(1, 0), (1, 0), (0, 0), (4, 8)]) (hsN := jpG_61) rfl rfl rfl ?_
      refine jT_mm4 (x := 0) (y := 0) (z := 0) (by rfl) (by rfl) (by rfl) (by rfl) (jwl_idd (by omega) (by omega)) (jwl_idd (by omega) (by omega)) (by rw [decide_eq_false (show ¬ ((0 : Int) < 0) by omega)]; rfl) ?_
      refine jT_adv 1 (pcN := 87) (LN := [(5, (0, 0)), (4, (4, 17)), (3, (0, 0)), (2, (0, u)), (0, (4, 0)), (1, (0, r1))]) (stN := []) (hsN := jpG_61) (c1 := 0) (s1 := 0) (c2 := b1) (s2 := b2) (by exact rfl) ?_ (by omega) (by omega)
      refine jT_xiinc (x := 0) (z := 1) (LN := [(5, (0, 1)), (4, (4, 17)), (3, (0, 0)), (2, (0, u)), (0, (4, 0)), (1, (0, r1))]) (pcN := 90) jIG_165_87 rfl rfl (by decide) rfl rfl ?_
      refine jT_xgoto (pcN := 40) jIG_165_90 rfl ?_
      refine jT_xiload (v := (0, 1)) (pcN := 42) jIG_165_40 rfl rfl rfl ?_
      refine jT_xbipush (k := 6) (pcN := 44) jIG_165_42 (by decide) rfl ?_
      refine jT_xicF (t := 93) (pcN := 47) jIG_165_44 rfl (by decide +kernel) rfl rfl ?_
      refine jT_xaload_n (v := (4, 0)) (pcN := 48) jIG_165_47 rfl rfl rfl ?_
      refine jT_xgetf (a := 0) (t := 1) (ci := 13) (fi := 7) (c := jzG_7) (v := (4, 8)) (pcN := 51) jIG_165_48 rfl rfl rfl rfl rfl rfl rfl ?_
      refine jT_xiload (v := (0, 1)) (pcN := 53) jIG_165_51 rfl rfl rfl ?_
      refine jT_xiload_n (v := (0, u)) (pcN := 54) jIG_165_53 rfl rfl rfl ?_
      refine jT_ifT (a := u) (t := 68) (by rfl) (by rfl) (by rfl) (jw_idd (by omega) (by omega)) (by simp only [jcP] <;> omega) ?_
      refine jT_xaload_n (v := (4, 0)) (pcN := 69) jIG_165_68 rfl rfl rfl ?_
      refine jT_xgetf (a := 0) (t := 1) (ci := 13) (fi := 7) (c := jzG_7) (v := (4, 8)) (pcN := 72) jIG_165_69 rfl rfl rfl rfl rfl rfl rfl ?_
      refine jT_xiload (v := (0, 1)) (pcN := 74) jIG_165_72 rfl rfl rfl ?_
      refine jT_lald (x := 0) (a := 8) (j := 1) (fs := []) (X := [0, 0, 0, 0, 0, 0]) jIG_165_74 rfl rfl rfl rfl ?_
      refine jT_eq (LN := [(5, (0, 1)), (4, (4, 17)), (3, (0, 0)), (2, (0, u)), (0, (4, 0)), (1, (0, r1))]) (stN := [(1, 0), (0, 1), (4, 8)]) (hsN := jpG_61) rfl rfl rfl ?_
      refine jT_xaload (v := (4, 17)) (pcN := 77) jIG_165_75 rfl rfl rfl ?_
      refine jT_xgetf (a := 17) (t := 2) (ci := 4) (fi := 0) (c := (4, [(4, 18), (1, 1)], [])) (v := (4, 18)) (pcN := 80) jIG_165_77 rfl rfl rfl rfl rfl rfl rfl ?_
      refine jT_xiload (v := (0, 1)) (pcN := 82) jIG_165_80 rfl rfl rfl ?_
      refine jT_lald (x := 0) (a := 18) (j := 1) (fs := []) (X := [0, 0, 0, 0, 0, 0]) jIG_165_82 rfl rfl rfl rfl ?_
      refine jT_eq (LN := [(5, (0, 1)), (4, (4, 17)), (3, (0, 0)), (2, (0, u)), (0, (4, 0)), (1, (0, r1))]) (stN := [(1, 0), (1, 0), (0, 1), (4, 8)]) (hsN := jpG_61) rfl rfl rfl ?_
      refine jT_mm4 (x := 0) (y := 0) (z := 0) (by rfl) (by rfl) (by rfl) (by rfl) (jwl_idd (by omega) (by omega)) (jwl_idd (by omega) (by omega)) (by rw [decide_eq_false (show ¬ ((0 : Int) < 0) by omega)]; rfl) ?_
      refine jT_adv 1 (pcN := 87) (LN := [(5, (0, 1)), (4, (4, 17)), (3, (0, 0)), (2, (0, u)), (0, (4, 0)), (1, (0, r1))]) (stN := []) (hsN := jpG_61) (c1 := 0) (s1 := 0) (c2 := b1) (s2 := b2) (by exact rfl) ?_ (by omega) (by omega)
      refine jT_xiinc (x := 1) (z := 2) (LN := [(5, (0, 2)), (4, (4, 17)), (3, (0, 0)), (2, (0, u)), (0, (4, 0)), (1, (0, r1))]) (pcN := 90) jIG_165_87 rfl rfl (by decide) rfl rfl ?_
      refine jT_xgoto (pcN := 40) jIG_165_90 rfl ?_
      refine jT_xiload (v := (0, 2)) (pcN := 42) jIG_165_40 rfl rfl rfl ?_
      refine jT_xbipush (k := 6) (pcN := 44) jIG_165_42 (by decide) rfl ?_
      refine jT_xicF (t := 93) (pcN := 47) jIG_165_44 rfl (by decide +kernel) rfl rfl ?_
      refine jT_xaload_n (v := (4, 0)) (pcN := 48) jIG_165_47 rfl rfl rfl ?_
      refine jT_xgetf (a := 0) (t := 1) (ci := 13) (fi := 7) (c := jzG_7) (v := (4, 8)) (pcN := 51) jIG_165_48 rfl rfl rfl rfl rfl rfl rfl ?_
      refine jT_xiload (v := (0, 2)) (pcN := 53) jIG_165_51 rfl rfl rfl ?_
      refine jT_xiload_n (v := (0, u)) (pcN := 54) jIG_165_53 rfl rfl rfl ?_
      refine jT_ifT (a := u) (t := 68) (by rfl) (by rfl) (by rfl) (jw_idd (by omega) (by omega)) (by simp only [jcP] <;> omega) ?_
      refine jT_xaload_n (v := (4, 0)) (pcN := 69) jIG_165_68 rfl rfl rfl ?_
      refine jT_xgetf (a := 0) (t := 1) (ci := 13) (fi := 7) (c := jzG_7) (v := (4, 8)) (pcN := 72) jIG_165_69 rfl rfl rfl rfl rfl rfl rfl ?_
      refine jT_xiload (v := (0, 2)) (pcN := 74) jIG_165_72 rfl rfl rfl ?_
      refine jT_lald (x := 0) (a := 8) (j := 2) (fs := []) (X := [0, 0, 0, 0, 0, 0]) jIG_165_74 rfl rfl rfl rfl ?_
      refine jT_eq (LN := [(5, (0, 2)), (4, (4, 17)), (3, (0, 0)), (2, (0, u)), (0, (4, 0)), (1, (0, r1))]) (stN := [(1, 0), (0, 2), (4, 8)]) (hsN := jpG_61) rfl rfl rfl ?_
      refine jT_xaload (v := (4, 17)) (pcN := 77) jIG_165_75 rfl rfl rfl ?_
      refine jT_xgetf (a := 17) (t := 2) (ci := 4) (fi := 0) (c := (4, [(4, 18), (1, 1)], [])) (v := (4, 18)) (pcN := 80) jIG_165_77 rfl rfl rfl rfl rfl rfl rfl ?_
      refine jT_xiload (v := (0, 2)) (pcN := 82) jIG_165_80 rfl rfl rfl ?_
      refine jT_lald (x := 0) (a := 18) (j := 2) (fs := []) (X := [0, 0, 0, 0, 0, 0]) jIG_165_82 rfl rfl rfl rfl ?_
      refine jT_eq (LN := [(5, (0, 2)), (4, (4, 17)), (3, (0, 0)), (2, (0, u)), (0, (4, 0)), (1, (0, r1))]) (stN := [(1, 0), (1, 0), (0, 2), (4, 8)]) (hsN := jpG_61) rfl rfl rfl ?_
      refine jT_mm4 (x := 0) (y := 0) (z := 0) (by rfl) (by rfl) (by rfl) (by rfl) (jwl_idd (by omega) (by omega)) (jwl_idd (by omega) (by omega)) (by rw [decide_eq_false (show ¬ ((0 : Int) < 0) by omega)]; rfl) ?_
      refine jT_adv 1 (pcN := 87) (LN := [(5, (0, 2)), (4, (4, 17)), (3, (0, 0)), (2, (0, u)), (0, (4, 0)), (1, (0, r1))]) (stN := []) (hsN := jpG_61) (c1 := 0) (s1 := 0) (c2 := b1) (s2 := b2) (by exact rfl) ?_ (by omega) (by omega)
      refine jT_xiinc (x := 2) (z := 3) (LN := [(5, (0, 3)), (4, (4, 17)), (3, (0, 0)), (2, (0, u)), (0, (4, 0)), (1, (0, r1))]) (pcN := 90) jIG_165_87 rfl rfl (by decide) rfl rfl ?_
      refine jT_xgoto (pcN := 40) jIG_165_90 rfl ?_
      refine jT_xiload (v := (0, 3)) (pcN := 42) jIG_165_40 rfl rfl rfl ?_
      refine jT_xbipush (k := 6) (pcN := 44) jIG_165_42 (by decide) rfl ?_
      refine jT_xicF (t := 93) (pcN := 47) jIG_165_44 rfl (by decide +kernel) rfl rfl ?_
      refine jT_xaload_n (v := (4, 0)) (pcN := 48) jIG_165_47 rfl rfl rfl ?_
      refine jT_xgetf (a := 0) (t := 1) (ci := 13) (fi := 7) (c := jzG_7) (v := (4, 8)) (pcN := 51) jIG_165_48 rfl rfl rfl rfl rfl rfl rfl ?_
      refine jT_xiload (v := (0, 3)) (pcN := 53) jIG_165_51 rfl rfl rfl ?_
      refine jT_xiload_n (v := (0, u)) (pcN := 54) jIG_165_53 rfl rfl rfl ?_
      refine jT_ifT (a := u) (t := 68) (by rfl) (by rfl) (by rfl) (jw_idd (by omega) (by omega)) (by simp only [jcP] <;> omega) ?_
      refine jT_xaload_n (v := (4, 0)) (pcN := 69) jIG_165_68 rfl rfl rfl ?_
      refine jT_xgetf (a := 0) (t := 1) (ci := 13) (fi := 7) (c := jzG_7) (v := (4, 8)) (pcN := 72) jIG_165_69 rfl rfl rfl rfl rfl rfl rfl ?_
      refine jT_xiload (v := (0, 3)) (pcN := 74) jIG_165_72 rfl rfl rfl ?_
      refine jT_lald (x := 0) (a := 8) (j := 3) (fs := []) (X := [0, 0, 0, 0, 0, 0]) jIG_165_74 rfl rfl rfl rfl ?_
      refine jT_eq (LN := [(5, (0, 3)), (4, (4, 17)), (3, (0, 0)), (2, (0, u)), (0, (4, 0)), (1, (0, r1))]) (stN := [(1, 0), (0, 3), (4, 8)]) (hsN := jpG_61) rfl rfl rfl ?_
      refine jT_xaload (v := (4, 17)) (pcN := 77) jIG_165_75 rfl rfl rfl ?_
      refine jT_xgetf (a := 17) (t := 2) (ci := 4) (fi := 0) (c := (4, [(4, 18), (1, 1)], [])) (v := (4, 18)) (pcN := 80) jIG_165_77 rfl rfl rfl rfl rfl rfl rfl ?_
      refine jT_xiload (v := (0, 3)) (pcN := 82) jIG_165_80 rfl rfl rfl ?_
      refine jT_lald (x := 0) (a := 18) (j := 3) (fs := []) (X := [0, 0, 0, 0, 0, 0]) jIG_165_82 rfl rfl rfl rfl ?_
      refine jT_eq (LN := [(5, (0, 3)), (4, (4, 17)), (3, (0, 0)), (2, (0, u)), (0, (4, 0)), (1, (0, r1))]) (stN := [(1, 0), (1, 0), (0, 3), (4, 8)]) (hsN := jpG_61) rfl rfl rfl ?_
      refine jT_mm4 (x := 0) (y := 0) (z := 0) (by rfl) (by rfl) (by rfl) (by rfl) (jwl_idd (by omega) (by omega)) (jwl_idd (by omega) (by omega)) (by rw [decide_eq_false (show ¬ ((0 : Int) < 0) by omega)]; rfl) ?_
      refine jT_adv 1 (pcN := 87) (LN := [(5, (0, 3)), (4, (4, 17)), (3, (0, 0)), (2, (0, u)), (0, (4, 0)), (1, (0, r1))]) (stN := []) (hsN := jpG_61) (c1 := 0) (s1 := 0) (c2 := b1) (s2 := b2) (by exact rfl) ?_ (by omega) (by omega)
      refine jT_xiinc (x := 3) (z := 4) (LN := [(5, (0, 4)), (4, (4, 17)), (3, (0, 0)), (2, (0, u)), (0, (4, 0)), (1, (0, r1))]) (pcN := 90) jIG_165_87 rfl rfl (by decide) rfl rfl ?_
      refine jT_xgoto (pcN := 40) jIG_165_90 rfl ?_
      refine jT_xiload (v := (0, 4)) (pcN := 42) jIG_165_40 rfl rfl rfl ?_
      refine jT_xbipush (k := 6) (pcN := 44) jIG_165_42 (by decide) rfl ?_
      refine jT_xicF (t := 93) (pcN := 47) jIG_165_44 rfl (by decide +kernel) rfl rfl ?_
      refine jT_xaload_n (v := (4, 0)) (pcN := 48) jIG_165_47 rfl rfl rfl ?_
      refine jT_xgetf (a := 0) (t := 1) (ci := 13) (fi := 7) (c := jzG_7) (v := (4, 8)) (pcN := 51) jIG_165_48 rfl rfl rfl rfl rfl rfl rfl ?_
      refine jT_xiload (v := (0, 4)) (pcN := 53) jIG_165_51 rfl rfl rfl ?_
      refine jT_xiload_n (v := (0, u)) (pcN := 54) jIG_165_53 rfl rfl rfl ?_
      refine jT_ifT (a := u) (t := 68) (by rfl) (by rfl) (by rfl) (jw_idd (by omega) (by omega)) (by simp only [jcP] <;> omega) ?_
      refine jT_xaload_n (v := (4, 0)) (pcN := 69) jIG_165_68 rfl rfl rfl ?_
      refine jT_xgetf (a := 0) (t := 1) (ci := 13) (fi := 7) (c := jzG_7) (v := (4, 8)) (pcN := 72) jIG_165_69 rfl rfl rfl rfl rfl rfl rfl ?_
      refine jT_xiload (v := (0, 4)) (pcN := 74) jIG_165_72 rfl rfl rfl ?_
      refine jT_lald (x := 0) (a := 8) (j := 4) (fs := []) (X := [0, 0, 0, 0, 0, 0]) jIG_165_74 rfl rfl rfl rfl ?_
      refine jT_eq (LN := [(5, (0, 4)), (4, (4, 17)), (3, (0, 0)), (2, (0, u)), (0, (4, 0)), (1, (0, r1))]) (stN := [(1, 0), (0, 4), (4, 8)]) (hsN := jpG_61) rfl rfl rfl ?_
      refine jT_xaload (v := (4, 17)) (pcN := 77) jIG_165_75 rfl rfl rfl ?_
      refine jT_xgetf (a := 17) (t := 2) (ci := 4) (fi := 0) (c := (4, [(4, 18), (1, 1)], [])) (v := (4, 18)) (pcN := 80) jIG_165_77 rfl rfl rfl rfl rfl rfl rfl ?_
      refine jT_xiload (v := (0, 4)) (pcN := 82) jIG_165_80 rfl rfl rfl ?_
      refine jT_lald (x := 0) (a := 18) (j := 4) (fs := []) (X := [0, 0, 0, 0, 0, 0]) jIG_165_82 rfl rfl rfl rfl ?_
      refine jT_eq (LN := [(5, (0, 4)), (4, (4, 17)), (3, (0, 0)), (2, (0, u)), (0, (4, 0)), (1, (0, r1))]) (stN := [(1, 0), (1, 0), (0, 4), (4, 8)]) (hsN := jpG_61) rfl rfl rfl ?_
      refine jT_mm4 (x := 0) (y := 0) (z := 0) (by rfl) (by rfl) (by rfl) (by rfl) (jwl_idd (by omega) (by omega)) (jwl_idd (by omega) (by omega)) (by rw [decide_eq_false (show ¬ ((0 : Int) < 0) by omega)]; rfl) ?_
      refine jT_adv 1 (pcN := 87) (LN := [(5, (0, 4)), (4, (4, 17)), (3, (0, 0)), (2, (0, u)), (0, (4, 0)), (1, (0, r1))]) (stN := []) (hsN := jpG_61) (c1 := 0) (s1 := 0) (c2 := b1) (s2 := b2) (by exact rfl) ?_ (by omega) (by omega)
      refine jT_xiinc (x := 4) (z := 5) (LN := [(5, (0, 5)), (4, (4, 17)), (3, (0, 0)), (2, (0, u)), (0, (4, 0)), (1, (0, r1))]) (pcN := 90) jIG_165_87 rfl rfl (by decide) rfl rfl ?_
      refine jT_xgoto (pcN := 40) jIG_165_90 rfl ?_
      refine jT_xiload (v := (0, 5)) (pcN := 42) jIG_165_40 rfl rfl rfl ?_
      refine jT_xbipush (k := 6) (pcN := 44) jIG_165_42 (by decide) rfl ?_
      refine jT_xicF (t := 93) (pcN := 47) jIG_165_44 rfl (by decide +kernel) rfl rfl ?_
      refine jT_xaload_n (v := (4, 0)) (pcN := 48) jIG_165_47 rfl rfl rfl ?_
      refine jT_xgetf (a := 0) (t := 1) (ci := 13) (fi := 7) (c := jzG_7) (v := (4, 8)) (pcN := 51) jIG_165_48 rfl rfl rfl rfl rfl rfl rfl ?_
      refine jT_xiload (v := (0, 5)) (pcN := 53) jIG_165_51 rfl rfl rfl ?_
      refine jT_xiload_n (v := (0, u)) (pcN := 54) jIG_165_53 rfl rfl rfl ?_
      refine jT_ifT (a := u) (t := 68) (by rfl) (by rfl) (by rfl) (jw_idd (by omega) (by omega)) (by simp only [jcP] <;> omega) ?_
      refine jT_xaload_n (v := (4, 0)) (pcN := 69) jIG_165_68 rfl rfl rfl ?_
      refine jT_xgetf (a := 0) (t := 1) (ci := 13) (fi := 7) (c := jzG_7) (v := (4, 8)) (pcN := 72) jIG_165_69 rfl rfl rfl rfl rfl rfl rfl ?_
      refine jT_xiload (v := (0, 5)) (pcN := 74) jIG_165_72 rfl rfl rfl ?_
      refine jT_lald (x := 0) (a := 8) (j := 5) (fs := []) (X := [0, 0, 0, 0, 0, 0]) jIG_165_74 rfl rfl rfl rfl ?_
      refine jT_eq (LN := [(5, (0, 5)), (4, (4, 17)), (3, (0, 0)), (2, (0, u)), (0, (4, 0)), (1, (0, r1))]) (stN := [(1, 0), (0, 5), (4, 8)]) (hsN := jpG_61) rfl rfl rfl ?_
      refine jT_xaload (v := (4, 17)) (pcN := 77) jIG_165_75 rfl rfl rfl ?_
      refine jT_xgetf (a := 17) (t := 2) (ci := 4) (fi := 0) (c := (4, [(4, 18), (1, 1)], [])) (v := (4, 18)) (pcN := 80) jIG_165_77 rfl rfl rfl rfl rfl rfl rfl ?_
      refine jT_xiload (v := (0, 5)) (pcN := 82) jIG_165_80 rfl rfl rfl ?_
      refine jT_lald (x := 0) (a := 18) (j := 5) (fs := []) (X := [0, 0, 0, 0, 0, 0]) jIG_165_82 rfl rfl rfl rfl ?_
      refine jT_eq (LN := [(5, (0, 5)), (4, (4, 17)), (3, (0, 0)), (2, (0, u)), (0, (4, 0)), (1, (0, r1))]) (stN := [(1, 0), (1, 0), (0, 5), (4, 8)]) (hsN := jpG_61) rfl rfl rfl ?_
      refine jT_mm4 (x := 0) (y := 0) (z := 0) (by rfl) (by rfl) (by rfl) (by rfl) (jwl_idd (by omega) (by omega)) (jwl_idd (by omega) (by omega)) (by rw [decide_eq_false (show ¬ ((0 : Int) < 0) by omega)]; rfl) ?_
      refine jT_adv 1 (pcN := 87) (LN := [(5, (0, 5)), (4, (4, 17)), (3, (0, 0)), (2, (0, u)), (0, (4, 0)), (1, (0, r1))]) (stN := []) (hsN := jpG_61) (c1 := 0) (s1 := 0) (c2 := b1) (s2 := b2) (by exact rfl) ?_ (by omega) (by omega)
      refine jT_xiinc (x := 5) (z := 6) (LN := [(5, (0, 6)), (4, (4, 17)), (3, (0, 0)), (2, (0, u)), (0, (4, 0)), (1, (0, r1))]) (pcN := 90) jIG_165_87 rfl rfl (by decide) rfl rfl ?_
      refine jT_xgoto (pcN := 40) jIG_165_90 rfl ?_
      refine jT_xiload (v := (0, 6)) (pcN := 42) jIG_165_40 rfl rfl rfl ?_
      refine jT_xbipush (k := 6) (pcN := 44) jIG_165_42 (by decide) rfl ?_
      refine jT_xicT (pcN := 93) jIG_165_44 rfl (by decide +kernel) rfl ?_
      refine jT_xiconst (k := 0) (pcN := 94) jIG_165_93 rfl ?_
      refine jT_xistore_n (v := (0, 0)) (LN := [(2, (0, 0)), (5, (0, 6)), (4, (4, 17)), (3, (0, 0)), (0, (4, 0)), (1, (0, r1))]) (pcN := 95) jIG_165_94 rfl rfl rfl rfl ?_
      refine jT_xiinc (x := 0) (z := 1) (LN := [(3, (0, 1)), (2, (0, 0)), (5, (0, 6)), (4, (4, 17)), (0, (4, 0)), (1, (0, r1))]) (pcN := 98) jIG_165_95 rfl rfl (by decide) rfl rfl ?_
      refine jT_xgoto (pcN := 4) jIG_165_98 rfl ?_
      refine jT_loc (LN := [(3, (0, 1)), (2, (0, 0)), (0, (4, 0)), (1, (0, r1))]) (by show List.Nodup [3, 2, 0, 1]; decide) (by intro q hq; simp only [List.mem_cons, List.not_mem_nil, or_false] at hq; rcases hq with rfl | rfl | rfl | rfl <;> rfl) ?_
      exact jGl_ch_28_1 hd (u := 0) (by omega) h_r1 h
  · refine jT_xiload_n (v := (0, 0)) (pcN := 5) jIG_165_4 rfl rfl rfl ?_
    refine jT_xbipush (k := 8) (pcN := 7) jIG_165_5 (by decide) rfl ?_
    refine jT_xicF (t := 101) (pcN := 10) jIG_165_7 rfl (by decide +kernel) rfl rfl ?_
    refine jT_xiload_n (v := (0, r1)) (pcN := 11) jIG_165_10 rfl rfl rfl ?_
    refine jT_xiload_n (v := (0, 0)) (pcN := 12) jIG_165_11 rfl rfl rfl ?_
    refine jT_ishr (x := r1) (y := 0) (z := (Int32.ofInt r1 >>> (Int32.ofInt 0 &&& 31)).toInt) (by rfl) (by rfl) rfl ?_
    have hb_q1 : (-2147483648) ≤ (Int32.ofInt r1 >>> (Int32.ofInt 0 &&& 31)).toInt ∧ (Int32.ofInt r1 >>> (Int32.ofInt 0 &&& 31)).toInt ≤ 2147483647 := ⟨Int32.le_toInt _, Int.le_of_lt_add_one (Int32.toInt_lt _)⟩
    generalize hq_q1 : (Int32.ofInt r1 >>> (Int32.ofInt 0 &&& 31)).toInt = q1 at hb_q1 g_0 ⊢
    refine jT_xiconst (k := 1) (pcN := 14) jIG_165_13 rfl ?_
    refine jT_iand (x := q1) (y := 1) (z := q1 % 2) (by rfl) (by rfl) (jiand_1 _) ?_
    have hb_q2 : 0 ≤ q1 % 2 ∧ q1 % 2 ≤ 1 := ⟨by omega, by omega⟩
    generalize hq_q2 : q1 % 2 = q2 at hb_q2 g_0 ⊢
    refine jT_xiconst (k := 1) (pcN := 16) jIG_165_15 rfl ?_
    refine jT_icT (a := q2) (b := 1) (t := 95) (by rfl) (by rfl) (by rfl) (jw_idd (by omega) (by omega)) (jw_idd (by omega) (by omega)) (by simp only [jcP] <;> omega) ?_
    refine jT_xiinc (x := 0) (z := 1) (LN := [(3, (0, 1)), (2, (0, u)), (0, (4, 0)), (1, (0, r1))]) (pcN := 98) jIG_165_95 rfl rfl (by decide) rfl rfl ?_
    refine jT_xgoto (pcN := 4) jIG_165_98 rfl ?_
    refine jT_loc (LN := [(3, (0, 1)), (2, (0, u)), (0, (4, 0)), (1, (0, r1))]) (by show List.Nodup [3, 2, 0, 1]; decide) (by intro q hq; simp only [List.mem_cons, List.not_mem_nil, or_false] at hq; rcases hq with rfl | rfl | rfl | rfl <;> rfl) ?_
    exact jGl_ch_28_1 hd (u := u) (by omega) h_r1 h
theorem jG_165_29 {xs : List Int} {d : Nat} {x1 : Int} (h_x1 : 1 ≤ x1 ∧ x1 ≤ 255) : jT xs (d + 3) 165 19 0 [(0, (4, 0)), (1, (0, x1))] [] jpG_61 0 0 (fun k v hsN => k = 0 ∧ v = (9, 0) ∧ hsN = jpG_61 ++ []) := by
  refine jT_xiconst (k := 1) (pcN := 1) jIG_165_0 rfl ?_
  refine jT_xistore_n (v := (0, 1)) (LN := [(2, (0, 1)), (0, (4, 0)), (1, (0, x1))]) (pcN := 2) jIG_165_1 rfl rfl rfl rfl ?_
  refine jT_xiconst (k := 0) (pcN := 3) jIG_165_2 rfl ?_
  refine jT_xistore_n (v := (0, 0)) (LN := [(3, (0, 0)), (2, (0, 1)), (0, (4, 0)), (1, (0, x1))]) (pcN := 4) jIG_165_3 rfl rfl rfl rfl ?_
  refine jT_loc (LN := [(3, (0, 0)), (2, (0, 1)), (0, (4, 0)), (1, (0, x1))]) (by show List.Nodup [3, 2, 0, 1]; decide) (by intro q hq; simp only [List.mem_cons, List.not_mem_nil, or_false] at hq; rcases hq with rfl | rfl | rfl | rfl <;> rfl) ?_
  refine jGl_ch_28_0 (by omega) (u := 1) (by omega) (r1 := x1) (by omega) ?_
  exact jT_ret rfl (by decide) (by show 19 ≤ 19; omega) (by omega) (by omega) ⟨rfl, rfl, rfl⟩
theorem jIG_57_0 : jmI (jm 57) 0 = (.aload_n 0, 1) := by rfl
theorem jIG_57_1 : jmI (jm 57) 1 = (.getfield 9, 3) := by rfl
theorem jIG_57_4 : jmI (jm 57) 4 = (.iload_n 1, 1) := by rfl
theorem jIG_57_5 : jmI (jm 57) 5 = (.aaload, 1) := by rfl
theorem jG_57_30 {xs : List Int} {d : Nat} {x2 : Int} (h_x2 : 0 ≤ x2 ∧ x2 ≤ 7) : jT xs d 57 7 0 [(0, (4, 0)), (1, (0, x2))] [] jpG_54 0 0 (fun k v hsN => k = 0 ∧ v = (4, 6) ∧ hsN = jpG_54 ++ []) := by
  refine jT_xaload_n (v := (4, 0)) (pcN := 1) jIG_57_0 rfl rfl rfl ?_
  refine jT_xgetf (a := 0) (t := 1) (ci := 9) (fi := 0) (c := jzG_53) (v := (4, 1)) (pcN := 4) jIG_57_1 rfl rfl rfl rfl rfl rfl rfl ?_
  refine jT_xiload_n (v := (0, x2)) (pcN := 5) jIG_57_4 rfl rfl rfl ?_
  refine jT_aald (x := 6) (a := 1) (j := (x2).toNat) (fs := []) (X := [6, 6, 6, 6, 6, 6, 6, 6]) (kd := 114) (by rfl) (by rfl) (by rfl) (jw_nn (by omega) (by omega)) (jall_get 8 (by decide) (by omega)) (by rfl) ?_
  refine jT_eq (LN := [(0, (4, 0)), (1, (0, x2))]) (stN := [(4, 6)]) (hsN := jpG_54) rfl rfl rfl ?_
  exact jT_ret rfl (by decide) (by show 7 ≤ 7; omega) (by omega) (by omega) ⟨rfl, rfl, rfl⟩
theorem jIG_164_16 : jmI (jm 164) 16 = (.iload_n 1, 1) := by rfl
theorem jIG_164_17 : jmI (jm 164) 17 = (.iload_n 2, 1) := by rfl
theorem jIG_164_19 : jmI (jm 164) 19 = (.iconst 1, 1) := by rfl
theorem jIG_164_21 : jmI (jm 164) 21 = (.ifCond .ne 14, 3) := by rfl
theorem jIG_164_35 : jmI (jm 164) 35 = (.aload_n 0, 1) := by rfl
theorem jIG_164_36 : jmI (jm 164) 36 = (.iload_n 1, 1) := by rfl
theorem jIG_164_40 : jmI (jm 164) 40 = (.aload_n 0, 1) := by rfl
theorem jIG_164_41 : jmI (jm 164) 41 = (.getfield 67, 3) := by rfl
theorem jIG_164_44 : jmI (jm 164) 44 = (.iload_n 2, 1) := by rfl
theorem jIG_164_48 : jmI (jm 164) 48 = (.astore_n 3, 1) := by rfl
theorem jIG_164_49 : jmI (jm 164) 49 = (.lconst 1, 1) := by rfl
theorem jIG_164_50 : jmI (jm 164) 50 = (.lstore 4, 2) := by rfl
theorem jIG_164_52 : jmI (jm 164) 52 = (.iconst 0, 1) := by rfl
theorem jIG_164_53 : jmI (jm 164) 53 = (.istore 6, 2) := by rfl
theorem jIG_164_55 : jmI (jm 164) 55 = (.iload 6, 2) := by rfl
theorem jIG_164_57 : jmI (jm 164) 57 = (.bipush 6, 2) := by rfl
theorem jIG_164_59 : jmI (jm 164) 59 = (.if_icmp .ge 72, 3) := by rfl
theorem jIG_164_62 : jmI (jm 164) 62 = (.aload_n 0, 1) := by rfl
theorem jIG_164_63 : jmI (jm 164) 63 = (.getfield 50, 3) := by rfl
theorem jIG_164_66 : jmI (jm 164) 66 = (.iload 6, 2) := by rfl
theorem jIG_164_68 : jmI (jm 164) 68 = (.laload, 1) := by rfl
theorem jIG_164_69 : jmI (jm 164) 69 = (.lstore 7, 2) := by rfl
theorem jIG_164_71 : jmI (jm 164) 71 = (.lload 7, 2) := by rfl
theorem jIG_164_73 : jmI (jm 164) 73 = (.aload_n 3, 1) := by rfl
theorem jIG_164_74 : jmI (jm 164) 74 = (.getfield 209, 3) := by rfl
theorem jIG_164_77 : jmI (jm 164) 77 = (.iload 6, 2) := by rfl
theorem jIG_164_79 : jmI (jm 164) 79 = (.laload, 1) := by rfl
theorem jIG_164_81 : jmI (jm 164) 81 = (.ifCond .ge 44, 3) := by rfl
theorem jIG_164_125 : jmI (jm 164) 125 = (.iinc 6 1, 3) := by rfl
theorem jIG_164_128 : jmI (jm 164) 128 = (.goto (-73), 3) := by rfl
theorem jIG_164_131 : jmI (jm 164) 131 = (.lload 4, 2) := by rfl
theorem jIG_164_133 : jmI (jm 164) 133 = (.l2i, 1) := by rfl
theorem jG_164_31 {xs : List Int} {d : Nat} {x1 x2 : Int} (h_x1 : 1 ≤ x1 ∧ x1 ≤ 255) (h_x2 : 0 ≤ x2 ∧ x2 ≤ 7) (g_0 : 0 ≤ (((Int32.ofInt x1 >>> (Int32.ofInt x2 &&& 31)).toInt) % 2) - 1) : jT xs (d + 4) 164 19 0 [(0, (4, 0)), (1, (0, x1)), (2, (0, x2))] [] jpG_61 0 0 (fun k v hsN => k = 0 ∧ v = (0, 1) ∧ hsN = jpG_61 ++ []) := by
  refine jT_xaload_n (v := (4, 0)) (pcN := 1) jIG_164_0 rfl rfl rfl ?_
  refine jT_xiload_n (v := (0, x1)) (pcN := 2) jIG_164_1 rfl rfl rfl ?_
  refine jT_xiconst (k := 1) (pcN := 3) jIG_164_2 rfl ?_
  refine jT_xsipush (k := 255) (pcN := 6) jIG_164_3 (by decide) rfl ?_
  refine jT_fR [0] 19 (y := 116) (pcN := 9) (dC := 0) (bc1 := 0) (bc2 := 0) (c1 := 0) (c2 := 0) (as := [(4, 0), (0, x1), (0, 1), (0, 255)]) (asC := [(4, 0), (0, x1), (0, 1), (0, 255)]) (LN := [(0, (4, 0)), (1, (0, x1)), (2, (0, x2))]) (stN := []) (hsC := [jgh]) (v := (9, 0)) (st2 := []) (jG_116_7 (d := 0) (by omega)) (by rfl) (by rfl) (by decide +kernel) (by rfl) (by rfl) (by omega) (by omega) (by omega) (by omega) rfl ?_
  refine jT_xaload_n (v := (4, 0)) (pcN := 10) jIG_164_9 rfl rfl rfl ?_
  refine jT_xiload_n (v := (0, x2)) (pcN := 11) jIG_164_10 rfl rfl rfl ?_
  refine jT_xbipush (k := 8) (pcN := 13) jIG_164_11 (by decide) rfl ?_
  refine jT_fR [0] 19 (y := 115) (pcN := 16) (dC := 0) (bc1 := 0) (bc2 := 0) (c1 := 0) (c2 := 0) (as := [(4, 0), (0, x2), (0, 8)]) (asC := [(4, 0), (0, x2), (0, 8)]) (LN := [(0, (4, 0)), (1, (0, x1)), (2, (0, x2))]) (stN := []) (hsC := [jgh]) (v := (9, 0)) (st2 := []) (jG_115_17 (d := 0) (by omega)) (by rfl) (by rfl) (by decide +kernel) (by rfl) (by rfl) (by omega) (by omega) (by omega) (by omega) rfl ?_
  refine jT_xiload_n (v := (0, x1)) (pcN := 17) jIG_164_16 rfl rfl rfl ?_
  refine jT_xiload_n (v := (0, x2)) (pcN := 18) jIG_164_17 rfl rfl rfl ?_
  refine jT_ishr (x := x1) (y := x2) (z := (Int32.ofInt x1 >>> (Int32.ofInt x2 &&& 31)).toInt) (by rfl) (by rfl) rfl ?_
  have hb_q1 : (-2147483648) ≤ (Int32.ofInt x1 >>> (Int32.ofInt x2 &&& 31)).toInt ∧ (Int32.ofInt x1 >>> (Int32.ofInt x2 &&& 31)).toInt ≤ 2147483647 := ⟨Int32.le_toInt _, Int.le_of_lt_add_one (Int32.toInt_lt _)⟩
  generalize hq_q1 : (Int32.ofInt x1 >>> (Int32.ofInt x2 &&& 31)).toInt = q1 at hb_q1 g_0 ⊢
  refine jT_xiconst (k := 1) (pcN := 20) jIG_164_19 rfl ?_
  refine jT_iand (x := q1) (y := 1) (z := q1 % 2) (by rfl) (by rfl) (jiand_1 _) ?_
  have hb_q2 : 0 ≤ q1 % 2 ∧ q1 % 2 ≤ 1 := ⟨by omega, by omega⟩
  generalize hq_q2 : q1 % 2 = q2 at hb_q2 g_0 ⊢
  refine jT_ifT (a := q2) (t := 35) (by rfl) (by rfl) (by rfl) (jw_idd (by omega) (by omega)) (by simp only [jcP] <;> omega) ?_
  refine jT_xaload_n (v := (4, 0)) (pcN := 36) jIG_164_35 rfl rfl rfl ?_
  refine jT_xiload_n (v := (0, x1)) (pcN := 37) jIG_164_36 rfl rfl rfl ?_
  refine jT_fR [0, 1, 2, 3, 4, 5, 6, 7, 8, 9, 10, 11, 12, 13, 14, 15, 16, 17, 18] 19 (y := 165) (pcN := 40) (dC := 3) (bc1 := 0) (bc2 := 0) (c1 := 0) (c2 := 0) (as := [(4, 0), (0, x1)]) (asC := [(4, 0), (0, x1)]) (LN := [(0, (4, 0)), (1, (0, x1)), (2, (0, x2))]) (stN := []) (hsC := jpG_61) (v := (9, 0)) (st2 := []) (jG_165_29 (d := 0) (by omega)) (by rfl) (by rfl) (by decide +kernel) (by rfl) (by rfl) (by omega) (by omega) (by omega) (by omega) rfl ?_
  refine jT_xaload_n (v := (4, 0)) (pcN := 41) jIG_164_40 rfl rfl rfl ?_
  refine jT_xgetf (a := 0) (t := 1) (ci := 13) (fi := 11) (c := jzG_7) (v := (4, 11)) (pcN := 44) jIG_164_41 rfl rfl rfl rfl rfl rfl rfl ?_
  refine jT_xiload_n (v := (0, x2)) (pcN := 45) jIG_164_44 rfl rfl rfl ?_
  refine jT_fR [11, 12, 13, 14, 15, 16, 17] 19 (y := 57) (pcN := 48) (dC := 0) (bc1 := 0) (bc2 := 0) (c1 := 0) (c2 := 0) (as := [(4, 11), (0, x2)]) (asC := [(4, 0), (0, x2)]) (LN := [(0, (4, 0)), (1, (0, x1)), (2, (0, x2))]) (stN := []) (hsC := jpG_54) (v := (4, 6)) (st2 := [(4, 17)]) (jG_57_30 (d := 0) (by omega)) (by rfl) (by rfl) (by decide +kernel) (by rfl) (by rfl) (by omega) (by omega) (by omega) (by omega) rfl ?_
  refine jT_xastore_n (v := (4, 17)) (LN := [(3, (4, 17)), (0, (4, 0)), (1, (0, x1)), (2, (0, x2))]) (pcN := 49) jIG_164_48 rfl rfl rfl rfl ?_
  refine jT_xlconst (z := 1) (pcN := 50) jIG_164_49 rfl rfl ?_
  refine jT_xlstore (v := (1, 1)) (LN := [(4, (1, 1)), (3, (4, 17)), (0, (4, 0)), (1, (0, x1)), (2, (0, x2))]) (pcN := 52) jIG_164_50 rfl rfl rfl rfl ?_
  refine jT_xiconst (k := 0) (pcN := 53) jIG_164_52 rfl ?_
  refine jT_xistore (v := (0, 0)) (LN := [(6, (0, 0)), (4, (1, 1)), (3, (4, 17)), (0, (4, 0)), (1, (0, x1)), (2, (0, x2))]) (pcN := 55) jIG_164_53 rfl rfl rfl rfl ?_
  refine jT_xiload (v := (0, 0)) (pcN := 57) jIG_164_55 rfl rfl rfl ?_
  refine jT_xbipush (k := 6) (pcN := 59) jIG_164_57 (by decide) rfl ?_
  refine jT_xicF (t := 131) (pcN := 62) jIG_164_59 rfl (by decide +kernel) rfl rfl ?_
  refine jT_xaload_n (v := (4, 0)) (pcN := 63) jIG_164_62 rfl rfl rfl ?_
  refine jT_xgetf (a := 0) (t := 1) (ci := 13) (fi := 7) (c := jzG_7) (v := (4, 8)) (pcN := 66) jIG_164_63 rfl rfl rfl rfl rfl rfl rfl ?_
  refine jT_xiload (v := (0, 0)) (pcN := 68) jIG_164_66 rfl rfl rfl ?_
  refine jT_lald (x := 0) (a := 8) (j := 0) (fs := []) (X := [0, 0, 0, 0, 0, 0]) jIG_164_68 rfl rfl rfl rfl ?_
  refine jT_eq (LN := [(6, (0, 0)), (4, (1, 1)), (3, (4, 17)), (0, (4, 0)), (1, (0, x1)), (2, (0, x2))]) (stN := [(1, 0)]) (hsN := jpG_61) rfl rfl rfl ?_
  refine jT_xlstore (v := (1, 0)) (LN := [(7, (1, 0)), (6, (0, 0)), (4, (1, 1)), (3, (4, 17)), (0, (4, 0)), (1, (0, x1)), (2, (0, x2))]) (pcN := 71) jIG_164_69 rfl rfl rfl rfl ?_
  refine jT_xlload (v := (1, 0)) (pcN := 73) jIG_164_71 rfl rfl rfl ?_
  refine jT_xaload_n (v := (4, 17)) (pcN := 74) jIG_164_73 rfl rfl rfl ?_
  refine jT_xgetf (a := 17) (t := 2) (ci := 4) (fi := 0) (c := (4, [(4, 18), (1, 1)], [])) (v := (4, 18)) (pcN := 77) jIG_164_74 rfl rfl rfl rfl rfl rfl rfl ?_
  refine jT_xiload (v := (0, 0)) (pcN := 79) jIG_164_77 rfl rfl rfl ?_
  refine jT_lald (x := 0) (a := 18) (j := 0) (fs := []) (X := [0, 0, 0, 0, 0, 0]) jIG_164_79 rfl rfl rfl rfl ?_
  refine jT_eq (LN := [(7, (1, 0)), (6, (0, 0)), (4, (1, 1)), (3, (4, 17)), (0, (4, 0)), (1, (0, x1)), (2, (0, x2))]) (stN := [(1, 0), (1, 0)]) (hsN := jpG_61) rfl rfl rfl ?_
  refine jT_lcmp (a := 0) (b := 0) (z := 0) (by rfl) (by rfl) (by decide +kernel) (by decide +kernel) (by decide) ?_
  refine jT_xifT (pcN := 125) jIG_164_81 rfl (by decide +kernel) rfl ?_
  refine jT_xiinc (x := 0) (z := 1) (LN := [(6, (0, 1)), (7, (1, 0)), (4, (1, 1)), (3, (4, 17)), (0, (4, 0)), (1, (0, x1)), (2, (0, x2))]) (pcN := 128) jIG_164_125 rfl rfl (by decide) rfl rfl ?_
  refine jT_xgoto (pcN := 55) jIG_164_128 rfl ?_
  refine jT_xiload (v := (0, 1)) (pcN := 57) jIG_164_55 rfl rfl rfl ?_
  refine jT_xbipush (k := 6) (pcN := 59) jIG_164_57 (by decide) rfl ?_
  refine jT_xicF (t := 131) (pcN := 62) jIG_164_59 rfl (by decide +kernel) rfl rfl ?_
  refine jT_xaload_n (v := (4, 0)) (pcN := 63) jIG_164_62 rfl rfl rfl ?_
  refine jT_xgetf (a := 0) (t := 1) (ci := 13) (fi := 7) (c := jzG_7) (v := (4, 8)) (pcN := 66) jIG_164_63 rfl rfl rfl rfl rfl rfl rfl ?_
  refine jT_xiload (v := (0, 1)) (pcN := 68) jIG_164_66 rfl rfl rfl ?_
  refine jT_lald (x := 0) (a := 8) (j := 1) (fs := []) (X := [0, 0, 0, 0, 0, 0]) jIG_164_68 rfl rfl rfl rfl ?_
  refine jT_eq (LN := [(6, (0, 1)), (7, (1, 0)), (4, (1, 1)), (3, (4, 17)), (0, (4, 0)), (1, (0, x1)), (2, (0, x2))]) (stN := [(1, 0)]) (hsN := jpG_61) rfl rfl rfl ?_
  refine jT_xlstore (v := (1, 0)) (LN := [(7, (1, 0)), (6, (0, 1)), (4, (1, 1)), (3, (4, 17)), (0, (4, 0)), (1, (0, x1)), (2, (0, x2))]) (pcN := 71) jIG_164_69 rfl rfl rfl rfl ?_
  refine jT_xlload (v := (1, 0)) (pcN := 73) jIG_164_71 rfl rfl rfl ?_
  refine jT_xaload_n (v := (4, 17)) (pcN := 74) jIG_164_73 rfl rfl rfl ?_
  refine jT_xgetf (a := 17) (t := 2) (ci := 4) (fi := 0) (c := (4, [(4, 18), (1, 1)], [])) (v := (4, 18)) (pcN := 77) jIG_164_74 rfl rfl rfl rfl rfl rfl rfl ?_
  refine jT_xiload (v := (0, 1)) (pcN := 79) jIG_164_77 rfl rfl rfl ?_
  refine jT_lald (x := 0) (a := 18) (j := 1) (fs := []) (X := [0, 0, 0, 0, 0, 0]) jIG_164_79 rfl rfl rfl rfl ?_
  refine jT_eq (LN := [(7, (1, 0)), (6, (0, 1)), (4, (1, 1)), (3, (4, 17)), (0, (4, 0)), (1, (0, x1)), (2, (0, x2))]) (stN := [(1, 0), (1, 0)]) (hsN := jpG_61) rfl rfl rfl ?_
  refine jT_lcmp (a := 0) (b := 0) (z := 0) (by rfl) (by rfl) (by decide +kernel) (by decide +kernel) (by decide) ?_
  refine jT_xifT (pcN := 125) jIG_164_81 rfl (by decide +kernel) rfl ?_
  refine jT_xiinc (x := 1) (z := 2) (LN := [(6, (0, 2)), (7, (1, 0)), (4, (1, 1)), (3, (4, 17)), (0, (4, 0)), (1, (0, x1)), (2, (0, x2))]) (pcN := 128) jIG_164_125 rfl rfl (by decide) rfl rfl ?_
  refine jT_xgoto (pcN := 55) jIG_164_128 rfl ?_
  refine jT_xiload (v := (0, 2)) (pcN := 57) jIG_164_55 rfl rfl rfl ?_
  refine jT_xbipush (k := 6) (pcN := 59) jIG_164_57 (by decide) rfl ?_
  refine jT_xicF (t := 131) (pcN := 62) jIG_164_59 rfl (by decide +kernel) rfl rfl ?_
  refine jT_xaload_n (v := (4, 0)) (pcN := 63) jIG_164_62 rfl rfl rfl ?_
  refine jT_xgetf (a := 0) (t := 1) (ci := 13) (fi := 7) (c := jzG_7) (v := (4, 8)) (pcN := 66) jIG_164_63 rfl rfl rfl rfl rfl rfl rfl ?_
  refine jT_xiload (v := (0, 2)) (pcN := 68) jIG_164_66 rfl rfl rfl ?_
  refine jT_lald (x := 0) (a := 8) (j := 2) (fs := []) (X := [0, 0, 0, 0, 0, 0]) jIG_164_68 rfl rfl rfl rfl ?_
  refine jT_eq (LN := [(6, (0, 2)), (7, (1, 0)), (4, (1, 1)), (3, (4, 17)), (0, (4, 0)), (1, (0, x1)), (2, (0, x2))]) (stN := [(1, 0)]) (hsN := jpG_61) rfl rfl rfl ?_
  refine jT_xlstore (v := (1, 0)) (LN := [(7, (1, 0)), (6, (0, 2)), (4, (1, 1)), (3, (4, 17)), (0, (4, 0)), (1, (0, x1)), (2, (0, x2))]) (pcN := 71) jIG_164_69 rfl rfl rfl rfl ?_
  refine jT_xlload (v := (1, 0)) (pcN := 73) jIG_164_71 rfl rfl rfl ?_
  refine jT_xaload_n (v := (4, 17)) (pcN := 74) jIG_164_73 rfl rfl rfl ?_
  refine jT_xgetf (a := 17) (t := 2) (ci := 4) (fi := 0) (c := (4, [(4, 18), (1, 1)], [])) (v := (4, 18)) (pcN := 77) jIG_164_74 rfl rfl rfl rfl rfl rfl rfl ?_
  refine jT_xiload (v := (0, 2)) (pcN := 79) jIG_164_77 rfl rfl rfl ?_
  refine jT_lald (x := 0) (a := 18) (j := 2) (fs := []) (X := [0, 0, 0, 0, 0, 0]) jIG_164_79 rfl rfl rfl rfl ?_
  refine jT_eq (LN := [(7, (1, 0)), (6, (0, 2)), (4, (1, 1)), (3, (4, 17)), (0, (4, 0)), (1, (0, x1)), (2, (0, x2))]) (stN := [(1, 0), (1, 0)]) (hsN := jpG_61) rfl rfl rfl ?_
  refine jT_lcmp (a := 0) (b := 0) (z := 0) (by rfl) (by rfl) (by decide +kernel) (by decide +kernel) (by decide) ?_
  refine jT_xifT (pcN := 125) jIG_164_81 rfl (by decide +kernel) rfl ?_
  refine jT_xiinc (x := 2) (z := 3) (LN := [(6, (0, 3)), (7, (1, 0)), (4, (1, 1)), (3, (4, 17)), (0, (4, 0)), (1, (0, x1)), (2, (0, x2))]) (pcN := 128) jIG_164_125 rfl rfl (by decide) rfl rfl ?_
  refine jT_xgoto (pcN := 55) jIG_164_128 rfl ?_
  refine jT_xiload (v := (0, 3)) (pcN := 57) jIG_164_55 rfl rfl rfl ?_
  refine jT_xbipush (k := 6) (pcN := 59) jIG_164_57 (by decide) rfl ?_
  refine jT_xicF (t := 131) (pcN := 62) jIG_164_59 rfl (by decide +kernel) rfl rfl ?_
  refine jT_xaload_n (v := (4, 0)) (pcN := 63) jIG_164_62 rfl rfl rfl ?_
  refine jT_xgetf (a := 0) (t := 1) (ci := 13) (fi := 7) (c := jzG_7) (v := (4, 8)) (pcN := 66) jIG_164_63 rfl rfl rfl rfl rfl rfl rfl ?_
  refine jT_xiload (v := (0, 3)) (pcN := 68) jIG_164_66 rfl rfl rfl ?_
  refine jT_lald (x := 0) (a := 8) (j := 3) (fs := []) (X := [0, 0, 0, 0, 0, 0]) jIG_164_68 rfl rfl rfl rfl ?_
  refine jT_eq (LN := [(6, (0, 3)), (7, (1, 0)), (4, (1, 1)), (3, (4, 17)), (0, (4, 0)), (1, (0, x1)), (2, (0, x2))]) (stN := [(1, 0)]) (hsN := jpG_61) rfl rfl rfl ?_
  refine jT_xlstore (v := (1, 0)) (LN := [(7, (1, 0)), (6, (0, 3)), (4, (1, 1)), (3, (4, 17)), (0, (4, 0)), (1, (0, x1)), (2, (0, x2))]) (pcN := 71) jIG_164_69 rfl rfl rfl rfl ?_
  refine jT_xlload (v := (1, 0)) (pcN := 73) jIG_164_71 rfl rfl rfl ?_
  refine jT_xaload_n (v := (4, 17)) (pcN := 74) jIG_164_73 rfl rfl rfl ?_
  refine jT_xgetf (a := 17) (t := 2) (ci := 4) (fi := 0) (c := (4, [(4, 18), (1, 1)], [])) (v := (4, 18)) (pcN := 77) jIG_164_74 rfl rfl rfl rfl rfl rfl rfl ?_
  refine jT_xiload (v := (0, 3)) (pcN := 79) jIG_164_77 rfl rfl rfl ?_
  refine jT_lald (x := 0) (a := 18) (j := 3) (fs := []) (X := [0, 0, 0, 0, 0, 0]) jIG_164_79 rfl rfl rfl rfl ?_
  refine jT_eq (LN := [(7, (1, 0)), (6, (0, 3)), (4, (1, 1)), (3, (4, 17)), (0, (4, 0)), (1, (0, x1)), (2, (0, x2))]) (stN := [(1, 0), (1, 0)]) (hsN := jpG_61) rfl rfl rfl ?_
  refine jT_lcmp (a := 0) (b := 0) (z := 0) (by rfl) (by rfl) (by decide +kernel) (by decide +kernel) (by decide) ?_
  refine jT_xifT (pcN := 125) jIG_164_81 rfl (by decide +kernel) rfl ?_
  refine jT_xiinc (x := 3) (z := 4) (LN := [(6, (0, 4)), (7, (1, 0)), (4, (1, 1)), (3, (4, 17)), (0, (4, 0)), (1, (0, x1)), (2, (0, x2))]) (pcN := 128) jIG_164_125 rfl rfl (by decide) rfl rfl ?_
  refine jT_xgoto (pcN := 55) jIG_164_128 rfl ?_
  refine jT_xiload (v := (0, 4)) (pcN := 57) jIG_164_55 rfl rfl rfl ?_
  refine jT_xbipush (k := 6) (pcN := 59) jIG_164_57 (by decide) rfl ?_
  refine jT_xicF (t := 131) (pcN := 62) jIG_164_59 rfl (by decide +kernel) rfl rfl ?_
  refine jT_xaload_n (v := (4, 0)) (pcN := 63) jIG_164_62 rfl rfl rfl ?_
  refine jT_xgetf (a := 0) (t := 1) (ci := 13) (fi := 7) (c := jzG_7) (v := (4, 8)) (pcN := 66) jIG_164_63 rfl rfl rfl rfl rfl rfl rfl ?_
  refine jT_xiload (v := (0, 4)) (pcN := 68) jIG_164_66 rfl rfl rfl ?_
  refine jT_lald (x := 0) (a := 8) (j := 4) (fs := []) (X := [0, 0, 0, 0, 0, 0]) jIG_164_68 rfl rfl rfl rfl ?_
  refine jT_eq (LN := [(6, (0, 4)), (7, (1, 0)), (4, (1, 1)), (3, (4, 17)), (0, (4, 0)), (1, (0, x1)), (2, (0, x2))]) (stN := [(1, 0)]) (hsN := jpG_61) rfl rfl rfl ?_
  refine jT_xlstore (v := (1, 0)) (LN := [(7, (1, 0)), (6, (0, 4)), (4, (1, 1)), (3, (4, 17)), (0, (4, 0)), (1, (0, x1)), (2, (0, x2))]) (pcN := 71) jIG_164_69 rfl rfl rfl rfl ?_
  refine jT_xlload (v := (1, 0)) (pcN := 73) jIG_164_71 rfl rfl rfl ?_
  refine jT_xaload_n (v := (4, 17)) (pcN := 74) jIG_164_73 rfl rfl rfl ?_
  refine jT_xgetf (a := 17) (t := 2) (ci := 4) (fi := 0) (c := (4, [(4, 18), (1, 1)], [])) (v := (4, 18)) (pcN := 77) jIG_164_74 rfl rfl rfl rfl rfl rfl rfl ?_
  refine jT_xiload (v := (0, 4)) (pcN := 79) jIG_164_77 rfl rfl rfl ?_
  refine jT_lald (x := 0) (a := 18) (j := 4) (fs := []) (X := [0, 0, 0, 0, 0, 0]) jIG_164_79 rfl rfl rfl rfl ?_
  refine jT_eq (LN := [(7, (1, 0)), (6, (0, 4)), (4, (1, 1)), (3, (4, 17)), (0, (4, 0)), (1, (0, x1)), (2, (0, x2))]) (stN := [(1, 0), (1, 0)]) (hsN := jpG_61) rfl rfl rfl ?_
  refine jT_lcmp (a := 0) (b := 0) (z := 0) (by rfl) (by rfl) (by decide +kernel) (by decide +kernel) (by decide) ?_
  refine jT_xifT (pcN := 125) jIG_164_81 rfl (by decide +kernel) rfl ?_
  refine jT_xiinc (x := 4) (z := 5) (LN := [(6, (0, 5)), (7, (1, 0)), (4, (1, 1)), (3, (4, 17)), (0, (4, 0)), (1, (0, x1)), (2, (0, x2))]) (pcN := 128) jIG_164_125 rfl rfl (by decide) rfl rfl ?_
  refine jT_xgoto (pcN := 55) jIG_164_128 rfl ?_
  refine jT_xiload (v := (0, 5)) (pcN := 57) jIG_164_55 rfl rfl rfl ?_
  refine jT_xbipush (k := 6) (pcN := 59) jIG_164_57 (by decide) rfl ?_
  refine jT_xicF (t := 131) (pcN := 62) jIG_164_59 rfl (by decide +kernel) rfl rfl ?_
  refine jT_xaload_n (v := (4, 0)) (pcN := 63) jIG_164_62 rfl rfl rfl ?_
  refine jT_xgetf (a := 0) (t := 1) (ci := 13) (fi := 7) (c := jzG_7) (v := (4, 8)) (pcN := 66) jIG_164_63 rfl rfl rfl rfl rfl rfl rfl ?_
  refine jT_xiload (v := (0, 5)) (pcN := 68) jIG_164_66 rfl rfl rfl ?_
  refine jT_lald (x := 0) (a := 8) (j := 5) (fs := []) (X := [0, 0, 0, 0, 0, 0]) jIG_164_68 rfl rfl rfl rfl ?_
  refine jT_eq (LN := [(6, (0, 5)), (7, (1, 0)), (4, (1, 1)), (3, (4, 17)), (0, (4, 0)), (1, (0, x1)), (2, (0, x2))]) (stN := [(1, 0)]) (hsN := jpG_61) rfl rfl rfl ?_
  refine jT_xlstore (v := (1, 0)) (LN := [(7, (1, 0)), (6, (0, 5)), (4, (1, 1)), (3, (4, 17)), (0, (4, 0)), (1, (0, x1)), (2, (0, x2))]) (pcN := 71) jIG_164_69 rfl rfl rfl rfl ?_
  refine jT_xlload (v := (1, 0)) (pcN := 73) jIG_164_71 rfl rfl rfl ?_
  refine jT_xaload_n (v := (4, 17)) (pcN := 74) jIG_164_73 rfl rfl rfl ?_
  refine jT_xgetf (a := 17) (t := 2) (ci := 4) (fi := 0) (c := (4, [(4, 18), (1, 1)], [])) (v := (4, 18)) (pcN := 77) jIG_164_74 rfl rfl rfl rfl rfl rfl rfl ?_
  refine jT_xiload (v := (0, 5)) (pcN := 79) jIG_164_77 rfl rfl rfl ?_
  refine jT_lald (x := 0) (a := 18) (j := 5) (fs := []) (X := [0, 0, 0, 0, 0, 0]) jIG_164_79 rfl rfl rfl rfl ?_
  refine jT_eq (LN := [(7, (1, 0)), (6, (0, 5)), (4, (1, 1)), (3, (4, 17)), (0, (4, 0)), (1, (0, x1)), (2, (0, x2))]) (stN := [(1, 0), (1, 0)]) (hsN := jpG_61) rfl rfl rfl ?_
  refine jT_lcmp (a := 0) (b := 0) (z := 0) (by rfl) (by rfl) (by decide +kernel) (by decide +kernel) (by decide) ?_
  refine jT_xifT (pcN := 125) jIG_164_81 rfl (by decide +kernel) rfl ?_
  refine jT_xiinc (x := 5) (z := 6) (LN := [(6, (0, 6)), (7, (1, 0)), (4, (1, 1)), (3, (4, 17)), (0, (4, 0)), (1, (0, x1)), (2, (0, x2))]) (pcN := 128) jIG_164_125 rfl rfl (by decide) rfl rfl ?_
  refine jT_xgoto (pcN := 55) jIG_164_128 rfl ?_
  refine jT_xiload (v := (0, 6)) (pcN := 57) jIG_164_55 rfl rfl rfl ?_
  refine jT_xbipush (k := 6) (pcN := 59) jIG_164_57 (by decide) rfl ?_
  refine jT_xicT (pcN := 131) jIG_164_59 rfl (by decide +kernel) rfl ?_
  refine jT_xlload (v := (1, 1)) (pcN := 133) jIG_164_131 rfl rfl rfl ?_
  refine jT_xl2i (pcN := 134) jIG_164_133 rfl rfl ?_
  subst hq_q2
  subst hq_q1
  exact jT_ret rfl (by decide) (by show 19 ≤ 19; omega) (by omega) (by omega) ⟨rfl, rfl, rfl⟩
theorem jIG_365_8 : jmI (jm 365) 8 = (.i2l, 1) := by rfl
def jzG_143 : JC := (9, [(4, 13), (4, 14), (4, 15), (4, 16), (4, 17)], [])
def jzG_144 : JC := (114, [], [18, 18, 18, 18, 18, 18, 18, 18])
def jpG_145 : List JC := [jzG_14, (101, [], [1]), jgh, jgh, jgh, jgh, jgh, jgh, jgh, (101, [], [0, 0, 0, 0, 0, 0]), jgh, jgh, jzG_143, jzG_144, jgh, jgh, jgh, jgh, (4, [(4, 19), (1, 1)], []), (101, [], [0, 0, 0, 0, 0, 0])]
theorem jIG_365_10 : jmI (jm 365) 10 = (.goto 15, 3) := by rfl
theorem jIG_365_25 : jmI (jm 365) 25 = (.iconst 0, 1) := by rfl
def jpG_148 : List JC := [jzG_14, (101, [], [0]), jgh, jgh, jgh, jgh, jgh, jgh, jgh, (101, [], [0, 0, 0, 0, 0, 0]), jgh, jgh, jzG_143, jzG_144, jgh, jgh, jgh, jgh, (4, [(4, 19), (1, 1)], []), (101, [], [0, 0, 0, 0, 0, 0])]
theorem jG_365_32 {xs : List Int} {d : Nat} {x1 x2 : Int} (h_x1 : 1 ≤ x1 ∧ x1 ≤ 255) (h_x2 : 0 ≤ x2 ∧ x2 ≤ 7) (g_0 : 0 ≤ (((Int32.ofInt x1 >>> (Int32.ofInt x2 &&& 31)).toInt) % 2) - 1) : jT xs (d + 5) 365 20 0 [(0, (4, 0)), (1, (0, x1)), (2, (0, x2)), (3, (4, 1))] [] jpG_148 0 0 (fun k v hsN => k = 0 ∧ v = (0, 0) ∧ hsN = jpG_145) := by
  refine jT_xaload_n (v := (4, 1)) (pcN := 1) jIG_365_0 rfl rfl rfl ?_
  refine jT_xiconst (k := 0) (pcN := 2) jIG_365_1 rfl ?_
  refine jT_xaload_n (v := (4, 0)) (pcN := 3) jIG_365_2 rfl rfl rfl ?_
  refine jT_xiload_n (v := (0, x1)) (pcN := 4) jIG_365_3 rfl rfl rfl ?_
  refine jT_xiload_n (v := (0, x2)) (pcN := 5) jIG_365_4 rfl rfl rfl ?_
  refine jT_fR [0, 2, 3, 4, 5, 6, 7, 8, 9, 10, 11, 12, 13, 14, 15, 16, 17, 18, 19] 20 (y := 164) (pcN := 8) (dC := 4) (bc1 := 0) (bc2 := 0) (c1 := 0) (c2 := 0) (as := [(4, 0), (0, x1), (0, x2)]) (asC := [(4, 0), (0, x1), (0, x2)]) (LN := [(0, (4, 0)), (1, (0, x1)), (2, (0, x2)), (3, (4, 1))]) (stN := [(0, 0), (4, 1)]) (hsC := jpG_61) (v := (0, 1)) (st2 := [(0, 1), (0, 0), (4, 1)]) (jG_164_31 (d := 0) (by omega) (by omega) (by omega)) (by rfl) (by rfl) (by decide +kernel) (by rfl) (by rfl) (by omega) (by omega) (by omega) (by omega) rfl ?_
  refine jT_xi2l (x := 1) (z := 1) (pcN := 9) jIG_365_8 rfl (by decide +kernel) rfl ?_
  refine jT_adv 1 (pcN := 10) (LN := [(0, (4, 0)), (1, (0, x1)), (2, (0, x2)), (3, (4, 1))]) (stN := []) (hsN := jpG_145) (c1 := 0) (s1 := 0) (c2 := 0) (s2 := 0) (by exact rfl) ?_ (by omega) (by omega)
  refine jT_xgoto (pcN := 25) jIG_365_10 rfl ?_
  refine jT_xiconst (k := 0) (pcN := 26) jIG_365_25 rfl ?_
  exact jT_ret rfl (by decide) (by show 20 ≤ 20; omega) (by omega) (by omega) ⟨rfl, rfl, rfl⟩
theorem jG_188_33 {xs : List Int} {d : Nat} {x2 : Int} (h_x2 : 0 ≤ x2 ∧ x2 ≤ 7) : jT xs (d + 1) 188 0 0 [(0, (0, x2))] [] [] 0 0 (fun k v hsN => k = 0 ∧ v = (0, 1) ∧ hsN = [] ++ []) := by
  refine jT_xiload_n (v := (0, x2)) (pcN := 1) jIG_188_0 rfl rfl rfl ?_
  refine jT_xi2l (x := x2) (z := x2) (pcN := 2) jIG_188_1 rfl (jw_idd (by omega) (by omega)) rfl ?_
  refine jT_xlconst (z := 0) (pcN := 3) jIG_188_2 rfl rfl ?_
  refine jT_adv 1 (pcN := 6) (LN := [(0, (0, x2))]) (stN := [(1, 7), (1, 0), (1, x2)]) (hsN := []) (c1 := 0) (s1 := 0) (c2 := 0) (s2 := 0) (by exact rfl) ?_ (by omega) (by omega)
  refine jT_fR [] 0 (y := 189) (pcN := 9) (dC := 0) (bc1 := 0) (bc2 := 0) (c1 := 0) (c2 := 0) (as := [(1, x2), (1, 0), (1, 7)]) (asC := [(1, x2), (1, 0), (1, 7)]) (LN := [(0, (0, x2))]) (stN := []) (hsC := []) (v := (0, 1)) (st2 := [(0, 1)]) (jT_in_ok (d := 0) (v := x2) (lo := 0) (hi := 7) (by omega) (by omega) (by omega) (by omega) (by omega)) (by rfl) (by rfl) (by decide +kernel) (by rfl) (by rfl) (by omega) (by omega) (by omega) (by omega) rfl ?_
  exact jT_ret rfl (by decide) (by show 0 ≤ 0; omega) (by omega) (by omega) ⟨rfl, rfl, rfl⟩
theorem jIG_306_7 : jmI (jm 306) 7 = (.iload_n 0, 1) := by rfl
theorem jIG_306_8 : jmI (jm 306) 8 = (.iload_n 1, 1) := by rfl
theorem jIG_306_10 : jmI (jm 306) 10 = (.iconst 1, 1) := by rfl
theorem jIG_306_12 : jmI (jm 306) 12 = (.iconst 1, 1) := by rfl
theorem jIG_306_13 : jmI (jm 306) 13 = (.if_icmp .ne 7, 3) := by rfl
theorem jIG_306_16 : jmI (jm 306) 16 = (.iconst 1, 1) := by rfl
theorem jIG_306_17 : jmI (jm 306) 17 = (.goto 4, 3) := by rfl
theorem jG_306_34 {xs : List Int} {d : Nat} {x1 x2 : Int} (h_x1 : 1 ≤ x1 ∧ x1 ≤ 255) (h_x2 : 0 ≤ x2 ∧ x2 ≤ 7) (g_0 : 0 ≤ (((Int32.ofInt x1 >>> (Int32.ofInt x2 &&& 31)).toInt) % 2) - 1) : jT xs (d + 2) 306 0 0 [(0, (0, x1)), (1, (0, x2))] [] [] 0 0 (fun k v hsN => k = 0 ∧ v = (0, 1) ∧ hsN = [] ++ []) := by
  refine jT_xiload_n (v := (0, x2)) (pcN := 1) jIG_306_0 rfl rfl rfl ?_
  refine jT_fR [] 0 (y := 188) (pcN := 4) (dC := 1) (bc1 := 0) (bc2 := 0) (c1 := 0) (c2 := 0) (as := [(0, x2)]) (asC := [(0, x2)]) (LN := [(0, (0, x1)), (1, (0, x2))]) (stN := []) (hsC := []) (v := (0, 1)) (st2 := [(0, 1)]) (jG_188_33 (d := 0) (by omega)) (by rfl) (by rfl) (by decide +kernel) (by rfl) (by rfl) (by omega) (by omega) (by omega) (by omega) rfl ?_
  refine jT_xifF (t := 20) (pcN := 7) jIG_306_4 rfl (by decide +kernel) rfl rfl ?_
  refine jT_xiload_n (v := (0, x1)) (pcN := 8) jIG_306_7 rfl rfl rfl ?_
  refine jT_xiload_n (v := (0, x2)) (pcN := 9) jIG_306_8 rfl rfl rfl ?_
  refine jT_ishr (x := x1) (y := x2) (z := (Int32.ofInt x1 >>> (Int32.ofInt x2 &&& 31)).toInt) (by rfl) (by rfl) rfl ?_
  have hb_q1 : (-2147483648) ≤ (Int32.ofInt x1 >>> (Int32.ofInt x2 &&& 31)).toInt ∧ (Int32.ofInt x1 >>> (Int32.ofInt x2 &&& 31)).toInt ≤ 2147483647 := ⟨Int32.le_toInt _, Int.le_of_lt_add_one (Int32.toInt_lt _)⟩
  generalize hq_q1 : (Int32.ofInt x1 >>> (Int32.ofInt x2 &&& 31)).toInt = q1 at hb_q1 g_0 ⊢
  refine jT_xiconst (k := 1) (pcN := 11) jIG_306_10 rfl ?_
  refine jT_iand (x := q1) (y := 1) (z := q1 % 2) (by rfl) (by rfl) (jiand_1 _) ?_
  have hb_q2 : 0 ≤ q1 % 2 ∧ q1 % 2 ≤ 1 := ⟨by omega, by omega⟩
  generalize hq_q2 : q1 % 2 = q2 at hb_q2 g_0 ⊢
  refine jT_xiconst (k := 1) (pcN := 13) jIG_306_12 rfl ?_
  refine jT_icF (a := q2) (b := 1) (t := 20) (by rfl) (by rfl) (by rfl) (jw_idd (by omega) (by omega)) (jw_idd (by omega) (by omega)) (by simp only [jcP] <;> omega) ?_
  refine jT_xiconst (k := 1) (pcN := 17) jIG_306_16 rfl ?_
  refine jT_xgoto (pcN := 21) jIG_306_17 rfl ?_
  subst hq_q2
  subst hq_q1
  exact jT_ret rfl (by decide) (by show 0 ≤ 0; omega) (by omega) (by omega) ⟨rfl, rfl, rfl⟩
theorem jG_191_35 {xs : List Int} {d : Nat} : jT xs d 191 1 0 [(0, (4, 0)), (1, (0, 1)), (2, (0, 2))] [] [jgh] 0 0 (fun k v hsN => k = 0 ∧ v = (0, 0) ∧ hsN = [jgh] ++ []) := by
  refine jT_advK 5 (pcN := 18) (LN := [(0, (4, 0)), (1, (0, 1)), (2, (0, 2))]) (stN := [(0, 0)]) (hsN := [jgh]) (c1 := 0) (s1 := 0) (c2 := 0) (s2 := 0) (by decide +kernel) ?_ (by omega) (by omega)
  exact jT_ret rfl (by decide) (by show 1 ≤ 1; omega) (by omega) (by omega) ⟨rfl, rfl, rfl⟩
theorem jG_189_36 {xs : List Int} {d : Nat} : jT xs d 189 0 0 [(0, (1, 0)), (2, (1, 0)), (4, (1, 7))] [] [] 0 0 (fun k v hsN => k = 0 ∧ v = (0, 1) ∧ hsN = [] ++ []) := by
  refine jT_advK 10 (pcN := 18) (LN := [(0, (1, 0)), (2, (1, 0)), (4, (1, 7))]) (stN := [(0, 1)]) (hsN := []) (c1 := 0) (s1 := 0) (c2 := 0) (s2 := 0) (by decide +kernel) ?_ (by omega) (by omega)
  exact jT_ret rfl (by decide) (by show 0 ≤ 0; omega) (by omega) (by omega) ⟨rfl, rfl, rfl⟩
theorem jG_188_37 {xs : List Int} {d : Nat} : jT xs (d + 1) 188 0 0 [(0, (0, 0))] [] [] 0 0 (fun k v hsN => k = 0 ∧ v = (0, 1) ∧ hsN = [] ++ []) := by
  refine jT_advK 4 (pcN := 6) (LN := [(0, (0, 0))]) (stN := [(1, 7), (1, 0), (1, 0)]) (hsN := []) (c1 := 0) (s1 := 0) (c2 := 0) (s2 := 0) (by decide +kernel) ?_ (by omega) (by omega)
  refine jT_fR [] 0 (y := 189) (pcN := 9) (dC := 0) (bc1 := 0) (bc2 := 0) (c1 := 0) (c2 := 0) (as := [(1, 0), (1, 0), (1, 7)]) (asC := [(1, 0), (1, 0), (1, 7)]) (LN := [(0, (0, 0))]) (stN := []) (hsC := []) (v := (0, 1)) (st2 := [(0, 1)]) (jG_189_36 (d := 0)) (by rfl) (by rfl) (by decide +kernel) (by rfl) (by rfl) (by omega) (by omega) (by omega) (by omega) rfl ?_
  exact jT_ret rfl (by decide) (by show 0 ≤ 0; omega) (by omega) (by omega) ⟨rfl, rfl, rfl⟩
theorem jG_306_38 {xs : List Int} {d : Nat} {r1 : Int} (h_r1 : 1 ≤ r1 ∧ r1 ≤ 255) (g_0 : (((Int32.ofInt r1 >>> (Int32.ofInt 0 &&& 31)).toInt) % 2) - 1 < 0) : jT xs (d + 2) 306 0 0 [(0, (0, r1)), (1, (0, 0))] [] [] 0 0 (fun k v hsN => k = 0 ∧ v = (0, 0) ∧ hsN = [] ++ []) := by
  refine jT_xiload_n (v := (0, 0)) (pcN := 1) jIG_306_0 rfl rfl rfl ?_
  refine jT_fR [] 0 (y := 188) (pcN := 4) (dC := 1) (bc1 := 0) (bc2 := 0) (c1 := 0) (c2 := 0) (as := [(0, 0)]) (asC := [(0, 0)]) (LN := [(0, (0, r1)), (1, (0, 0))]) (stN := []) (hsC := []) (v := (0, 1)) (st2 := [(0, 1)]) (jG_188_37 (d := 0)) (by rfl) (by rfl) (by decide +kernel) (by rfl) (by rfl) (by omega) (by omega) (by omega) (by omega) rfl ?_
  refine jT_xifF (t := 20) (pcN := 7) jIG_306_4 rfl (by decide +kernel) rfl rfl ?_
  refine jT_xiload_n (v := (0, r1)) (pcN := 8) jIG_306_7 rfl rfl rfl ?_
  refine jT_xiload_n (v := (0, 0)) (pcN := 9) jIG_306_8 rfl rfl rfl ?_
  refine jT_ishr (x := r1) (y := 0) (z := (Int32.ofInt r1 >>> (Int32.ofInt 0 &&& 31)).toInt) (by rfl) (by rfl) rfl ?_
  have hb_q1 : (-2147483648) ≤ (Int32.ofInt r1 >>> (Int32.ofInt 0 &&& 31)).toInt ∧ (Int32.ofInt r1 >>> (Int32.ofInt 0 &&& 31)).toInt ≤ 2147483647 := ⟨Int32.le_toInt _, Int.le_of_lt_add_one (Int32.toInt_lt _)⟩
  generalize hq_q1 : (Int32.ofInt r1 >>> (Int32.ofInt 0 &&& 31)).toInt = q1 at hb_q1 g_0 ⊢
  refine jT_xiconst (k := 1) (pcN := 11) jIG_306_10 rfl ?_
  refine jT_iand (x := q1) (y := 1) (z := q1 % 2) (by rfl) (by rfl) (jiand_1 _) ?_
  have hb_q2 : 0 ≤ q1 % 2 ∧ q1 % 2 ≤ 1 := ⟨by omega, by omega⟩
  generalize hq_q2 : q1 % 2 = q2 at hb_q2 g_0 ⊢
  refine jT_xiconst (k := 1) (pcN := 13) jIG_306_12 rfl ?_
  refine jT_icT (a := q2) (b := 1) (t := 20) (by rfl) (by rfl) (by rfl) (jw_idd (by omega) (by omega)) (jw_idd (by omega) (by omega)) (by simp only [jcP] <;> omega) ?_
  refine jT_xiconst (k := 0) (pcN := 21) jIG_306_20 rfl ?_
  subst hq_q2
  subst hq_q1
  exact jT_ret rfl (by decide) (by show 0 ≤ 0; omega) (by omega) (by omega) ⟨rfl, rfl, rfl⟩
theorem jG_306_39 {xs : List Int} {d : Nat} {r1 : Int} (h_r1 : 1 ≤ r1 ∧ r1 ≤ 255) (g_0 : 0 ≤ (((Int32.ofInt r1 >>> (Int32.ofInt 0 &&& 31)).toInt) % 2) - 1) : jT xs (d + 2) 306 0 0 [(0, (0, r1)), (1, (0, 0))] [] [] 0 0 (fun k v hsN => k = 0 ∧ v = (0, 1) ∧ hsN = [] ++ []) := by
  refine jT_xiload_n (v := (0, 0)) (pcN := 1) jIG_306_0 rfl rfl rfl ?_
  refine jT_fR [] 0 (y := 188) (pcN := 4) (dC := 1) (bc1 := 0) (bc2 := 0) (c1 := 0) (c2 := 0) (as := [(0, 0)]) (asC := [(0, 0)]) (LN := [(0, (0, r1)), (1, (0, 0))]) (stN := []) (hsC := []) (v := (0, 1)) (st2 := [(0, 1)]) (jG_188_37 (d := 0)) (by rfl) (by rfl) (by decide +kernel) (by rfl) (by rfl) (by omega) (by omega) (by omega) (by omega) rfl ?_
  refine jT_xifF (t := 20) (pcN := 7) jIG_306_4 rfl (by decide +kernel) rfl rfl ?_
  refine jT_xiload_n (v := (0, r1)) (pcN := 8) jIG_306_7 rfl rfl rfl ?_
  refine jT_xiload_n (v := (0, 0)) (pcN := 9) jIG_306_8 rfl rfl rfl ?_
  refine jT_ishr (x := r1) (y := 0) (z := (Int32.ofInt r1 >>> (Int32.ofInt 0 &&& 31)).toInt) (by rfl) (by rfl) rfl ?_
  have hb_q1 : (-2147483648) ≤ (Int32.ofInt r1 >>> (Int32.ofInt 0 &&& 31)).toInt ∧ (Int32.ofInt r1 >>> (Int32.ofInt 0 &&& 31)).toInt ≤ 2147483647 := ⟨Int32.le_toInt _, Int.le_of_lt_add_one (Int32.toInt_lt _)⟩
  generalize hq_q1 : (Int32.ofInt r1 >>> (Int32.ofInt 0 &&& 31)).toInt = q1 at hb_q1 g_0 ⊢
  refine jT_xiconst (k := 1) (pcN := 11) jIG_306_10 rfl ?_
  refine jT_iand (x := q1) (y := 1) (z := q1 % 2) (by rfl) (by rfl) (jiand_1 _) ?_
  have hb_q2 : 0 ≤ q1 % 2 ∧ q1 % 2 ≤ 1 := ⟨by omega, by omega⟩
  generalize hq_q2 : q1 % 2 = q2 at hb_q2 g_0 ⊢
  refine jT_xiconst (k := 1) (pcN := 13) jIG_306_12 rfl ?_
  refine jT_icF (a := q2) (b := 1) (t := 20) (by rfl) (by rfl) (by rfl) (jw_idd (by omega) (by omega)) (jw_idd (by omega) (by omega)) (by simp only [jcP] <;> omega) ?_
  refine jT_xiconst (k := 1) (pcN := 17) jIG_306_16 rfl ?_
  refine jT_xgoto (pcN := 21) jIG_306_17 rfl ?_
  subst hq_q2
  subst hq_q1
  exact jT_ret rfl (by decide) (by show 0 ≤ 0; omega) (by omega) (by omega) ⟨rfl, rfl, rfl⟩
theorem jG_189_40 {xs : List Int} {d : Nat} : jT xs d 189 0 0 [(0, (1, 0)), (2, (1, (-100))), (4, (1, 100))] [] [] 0 0 (fun k v hsN => k = 0 ∧ v = (0, 1) ∧ hsN = [] ++ []) := by
  refine jT_advK 10 (pcN := 18) (LN := [(0, (1, 0)), (2, (1, (-100))), (4, (1, 100))]) (stN := [(0, 1)]) (hsN := []) (c1 := 0) (s1 := 0) (c2 := 0) (s2 := 0) (by decide +kernel) ?_ (by omega) (by omega)
  exact jT_ret rfl (by decide) (by show 0 ≤ 0; omega) (by omega) (by omega) ⟨rfl, rfl, rfl⟩
def jpG_156 : List JC := [jzG_18, (100, [], jS0), jgh, jgh, jgh, jgh, jgh, jgh, jgh, jgh, jgh, jgh, jgh, jgh, jgh, jgh]
theorem jIG_267_11 : jmI (jm 267) 11 = (.iaload, 1) := by rfl
theorem jIG_267_47 : jmI (jm 267) 47 = (.iaload, 1) := by rfl
theorem jG_267_41 {xs : List Int} {d : Nat} : jT xs (d + 1) 267 16 0 [(0, (4, 0)), (1, (0, 0)), (2, (0, 100))] [] jpG_156 0 0 (fun k v hsN => k = 0 ∧ v = (0, 1) ∧ hsN = jpG_156 ++ []) := by
  refine jT_advK 7 (pcN := 11) (LN := [(0, (4, 0)), (1, (0, 0)), (2, (0, 100))]) (stN := [(0, 6), (4, 1)]) (hsN := jpG_156) (c1 := 0) (s1 := 0) (c2 := 0) (s2 := 0) (by decide +kernel) ?_ (by omega) (by omega)
  refine jT_iald (x := 1) (a := 1) (j := 6) (fs := []) (X := jS0) (by rfl) (by rfl) (by rfl) (by rfl) (by decide +kernel) ?_
  refine jT_eq (LN := [(0, (4, 0)), (1, (0, 0)), (2, (0, 100))]) (stN := [(0, 1)]) (hsN := jpG_156) rfl rfl rfl ?_
  refine jT_advK 19 (pcN := 47) (LN := [(4, (0, 0)), (3, (0, 1)), (0, (4, 0)), (1, (0, 0)), (2, (0, 100))]) (stN := [(0, 0), (4, 1)]) (hsN := jpG_156) (c1 := 0) (s1 := 0) (c2 := 0) (s2 := 0) (by decide +kernel) ?_ (by omega) (by omega)
  refine jT_iald (x := 0) (a := 1) (j := 0) (fs := []) (X := jS0) (by rfl) (by rfl) (by rfl) (by rfl) (by decide +kernel) ?_
  refine jT_eq (LN := [(4, (0, 0)), (3, (0, 1)), (0, (4, 0)), (1, (0, 0)), (2, (0, 100))]) (stN := [(0, 0)]) (hsN := jpG_156) rfl rfl rfl ?_
  refine jT_advK 6 (pcN := 54) (LN := [(4, (0, 0)), (3, (0, 1)), (0, (4, 0)), (1, (0, 0)), (2, (0, 100))]) (stN := [(1, 100), (1, (-100)), (1, 0)]) (hsN := jpG_156) (c1 := 0) (s1 := 0) (c2 := 0) (s2 := 0) (by decide +kernel) ?_ (by omega) (by omega)
  refine jT_fR [] 16 (y := 189) (pcN := 57) (dC := 0) (bc1 := 0) (bc2 := 0) (c1 := 0) (c2 := 0) (as := [(1, 0), (1, (-100)), (1, 100)]) (asC := [(1, 0), (1, (-100)), (1, 100)]) (LN := [(4, (0, 0)), (3, (0, 1)), (0, (4, 0)), (1, (0, 0)), (2, (0, 100))]) (stN := []) (hsC := []) (v := (0, 1)) (st2 := [(0, 1)]) (jG_189_40 (d := 0)) (by rfl) (by rfl) (by decide +kernel) (by rfl) (by rfl) (by omega) (by omega) (by omega) (by omega) rfl ?_
  refine jT_advK 18 (pcN := 47) (LN := [(4, (0, 1)), (3, (0, 1)), (0, (4, 0)), (1, (0, 0)), (2, (0, 100))]) (stN := [(0, 1), (4, 1)]) (hsN := jpG_156) (c1 := 0) (s1 := 0) (c2 := 0) (s2 := 0) (by decide +kernel) ?_ (by omega) (by omega)
  refine jT_iald (x := 0) (a := 1) (j := 1) (fs := []) (X := jS0) (by rfl) (by rfl) (by rfl) (by rfl) (by decide +kernel) ?_
  refine jT_eq (LN := [(4, (0, 1)), (3, (0, 1)), (0, (4, 0)), (1, (0, 0)), (2, (0, 100))]) (stN := [(0, 0)]) (hsN := jpG_156) rfl rfl rfl ?_
  refine jT_advK 6 (pcN := 54) (LN := [(4, (0, 1)), (3, (0, 1)), (0, (4, 0)), (1, (0, 0)), (2, (0, 100))]) (stN := [(1, 100), (1, (-100)), (1, 0)]) (hsN := jpG_156) (c1 := 0) (s1 := 0) (c2 := 0) (s2 := 0) (by decide +kernel) ?_ (by omega) (by omega)
  refine jT_fR [] 16 (y := 189) (pcN := 57) (dC := 0) (bc1 := 0) (bc2 := 0) (c1 := 0) (c2 := 0) (as := [(1, 0), (1, (-100)), (1, 100)]) (asC := [(1, 0), (1, (-100)), (1, 100)]) (LN := [(4, (0, 1)), (3, (0, 1)), (0, (4, 0)), (1, (0, 0)), (2, (0, 100))]) (stN := []) (hsC := []) (v := (0, 1)) (st2 := [(0, 1)]) (jG_189_40 (d := 0)) (by rfl) (by rfl) (by decide +kernel) (by rfl) (by rfl) (by omega) (by omega) (by omega) (by omega) rfl ?_
  refine jT_advK 18 (pcN := 47) (LN := [(4, (0, 2)), (3, (0, 1)), (0, (4, 0)), (1, (0, 0)), (2, (0, 100))]) (stN := [(0, 2), (4, 1)]) (hsN := jpG_156) (c1 := 0) (s1 := 0) (c2 := 0) (s2 := 0) (by decide +kernel) ?_ (by omega) (by omega)
  refine jT_iald (x := 0) (a := 1) (j := 2) (fs := []) (X := jS0) (by rfl) (by rfl) (by rfl) (by rfl) (by decide +kernel) ?_
  refine jT_eq (LN := [(4, (0, 2)), (3, (0, 1)), (0, (4, 0)), (1, (0, 0)), (2, (0, 100))]) (stN := [(0, 0)]) (hsN := jpG_156) rfl rfl rfl ?_
  refine jT_advK 6 (pcN := 54) (LN := [(4, (0, 2)), (3, (0, 1)), (0, (4, 0)), (1, (0, 0)), (2, (0, 100))]) (stN := [(1, 100), (1, (-100)), (1, 0)]) (hsN := jpG_156) (c1 := 0) (s1 := 0) (c2 := 0) (s2 := 0) (by decide +kernel) ?_ (by omega) (by omega)
  refine jT_fR [] 16 (y := 189) (pcN := 57) (dC := 0) (bc1 := 0) (bc2 := 0) (c1 := 0) (c2 := 0) (as := [(1, 0), (1, (-100)), (1, 100)]) (asC := [(1, 0), (1, (-100)), (1, 100)]) (LN := [(4, (0, 2)), (3, (0, 1)), (0, (4, 0)), (1, (0, 0)), (2, (0, 100))]) (stN := []) (hsC := []) (v := (0, 1)) (st2 := [(0, 1)]) (jG_189_40 (d := 0)) (by rfl) (by rfl) (by decide +kernel) (by rfl) (by rfl) (by omega) (by omega) (by omega) (by omega) rfl ?_
  refine jT_advK 18 (pcN := 47) (LN := [(4, (0, 3)), (3, (0, 1)), (0, (4, 0)), (1, (0, 0)), (2, (0, 100))]) (stN := [(0, 3), (4, 1)]) (hsN := jpG_156) (c1 := 0) (s1 := 0) (c2 := 0) (s2 := 0) (by decide +kernel) ?_ (by omega) (by omega)
  refine jT_iald (x := 0) (a := 1) (j := 3) (fs := []) (X := jS0) (by rfl) (by rfl) (by rfl) (by rfl) (by decide +kernel) ?_
  refine jT_eq (LN := [(4, (0, 3)), (3, (0, 1)), (0, (4, 0)), (1, (0, 0)), (2, (0, 100))]) (stN := [(0, 0)]) (hsN := jpG_156) rfl rfl rfl ?_
  refine jT_advK 6 (pcN := 54) (LN := [(4, (0, 3)), (3, (0, 1)), (0, (4, 0)), (1, (0, 0)), (2, (0, 100))]) (stN := [(1, 100), (1, (-100)), (1, 0)]) (hsN := jpG_156) (c1 := 0) (s1 := 0) (c2 := 0) (s2 := 0) (by decide +kernel) ?_ (by omega) (by omega)
  refine jT_fR [] 16 (y := 189) (pcN := 57) (dC := 0) (bc1 := 0) (bc2 := 0) (c1 := 0) (c2 := 0) (as := [(1, 0), (1, (-100)), (1, 100)]) (asC := [(1, 0), (1, (-100)), (1, 100)]) (LN := [(4, (0, 3)), (3, (0, 1)), (0, (4, 0)), (1, (0, 0)), (2, (0, 100))]) (stN := []) (hsC := []) (v := (0, 1)) (st2 := [(0, 1)]) (jG_189_40 (d := 0)) (by rfl) (by rfl) (by decide +kernel) (by rfl) (by rfl) (by omega) (by omega) (by omega) (by omega) rfl ?_
  refine jT_advK 18 (pcN := 47) (LN := [(4, (0, 4)), (3, (0, 1)), (0, (4, 0)), (1, (0, 0)), (2, (0, 100))]) (stN := [(0, 4), (4, 1)]) (hsN := jpG_156) (c1 := 0) (s1 := 0) (c2 := 0) (s2 := 0) (by decide +kernel) ?_ (by omega) (by omega)
  refine jT_iald (x := 0) (a := 1) (j := 4) (fs := []) (X := jS0) (by rfl) (by rfl) (by rfl) (by rfl) (by decide +kernel) ?_
  refine jT_eq (LN := [(4, (0, 4)), (3, (0, 1)), (0, (4, 0)), (1, (0, 0)), (2, (0, 100))]) (stN := [(0, 0)]) (hsN := jpG_156) rfl rfl rfl ?_
  refine jT_advK 6 (pcN := 54) (LN := [(4, (0, 4)), (3, (0, 1)), (0, (4, 0)), (1, (0, 0)), (2, (0, 100))]) (stN := [(1, 100), (1, (-100)), (1, 0)]) (hsN := jpG_156) (c1 := 0) (s1 := 0) (c2 := 0) (s2 := 0) (by decide +kernel) ?_ (by omega) (by omega)
  refine jT_fR [] 16 (y := 189) (pcN := 57) (dC := 0) (bc1 := 0) (bc2 := 0) (c1 := 0) (c2 := 0) (as := [(1, 0), (1, (-100)), (1, 100)]) (asC := [(1, 0), (1, (-100)), (1, 100)]) (LN := [(4, (0, 4)), (3, (0, 1)), (0, (4, 0)), (1, (0, 0)), (2, (0, 100))]) (stN := []) (hsC := []) (v := (0, 1)) (st2 := [(0, 1)]) (jG_189_40 (d := 0)) (by rfl) (by rfl) (by decide +kernel) (by rfl) (by rfl) (by omega) (by omega) (by omega) (by omega) rfl ?_
  refine jT_advK 18 (pcN := 47) (LN := [(4, (0, 5)), (3, (0, 1)), (0, (4, 0)), (1, (0, 0)), (2, (0, 100))]) (stN := [(0, 5), (4, 1)]) (hsN := jpG_156) (c1 := 0) (s1 := 0) (c2 := 0) (s2 := 0) (by decide +kernel) ?_ (by omega) (by omega)
  refine jT_iald (x := 0) (a := 1) (j := 5) (fs := []) (X := jS0) (by rfl) (by rfl) (by rfl) (by rfl) (by decide +kernel) ?_
  refine jT_eq (LN := [(4, (0, 5)), (3, (0, 1)), (0, (4, 0)), (1, (0, 0)), (2, (0, 100))]) (stN := [(0, 0)]) (hsN := jpG_156) rfl rfl rfl ?_
  refine jT_advK 6 (pcN := 54) (LN := [(4, (0, 5)), (3, (0, 1)), (0, (4, 0)), (1, (0, 0)), (2, (0, 100))]) (stN := [(1, 100), (1, (-100)), (1, 0)]) (hsN := jpG_156) (c1 := 0) (s1 := 0) (c2 := 0) (s2 := 0) (by decide +kernel) ?_ (by omega) (by omega)
  refine jT_fR [] 16 (y := 189) (pcN := 57) (dC := 0) (bc1 := 0) (bc2 := 0) (c1 := 0) (c2 := 0) (as := [(1, 0), (1, (-100)), (1, 100)]) (asC := [(1, 0), (1, (-100)), (1, 100)]) (LN := [(4, (0, 5)), (3, (0, 1)), (0, (4, 0)), (1, (0, 0)), (2, (0, 100))]) (stN := []) (hsC := []) (v := (0, 1)) (st2 := [(0, 1)]) (jG_189_40 (d := 0)) (by rfl) (by rfl) (by decide +kernel) (by rfl) (by rfl) (by omega) (by omega) (by omega) (by omega) rfl ?_
  refine jT_advK 10 (pcN := 73) (LN := [(4, (0, 6)), (3, (0, 1)), (0, (4, 0)), (1, (0, 0)), (2, (0, 100))]) (stN := [(0, 1)]) (hsN := jpG_156) (c1 := 0) (s1 := 0) (c2 := 0) (s2 := 0) (by decide +kernel) ?_ (by omega) (by omega)
  exact jT_ret rfl (by decide) (by show 16 ≤ 16; omega) (by omega) (by omega) ⟨rfl, rfl, rfl⟩
theorem jG_189_42 {xs : List Int} {d : Nat} : jT xs d 189 0 0 [(0, (1, 1)), (2, (1, 0)), (4, (1, 7))] [] [] 0 0 (fun k v hsN => k = 0 ∧ v = (0, 1) ∧ hsN = [] ++ []) := by
  refine jT_advK 10 (pcN := 18) (LN := [(0, (1, 1)), (2, (1, 0)), (4, (1, 7))]) (stN := [(0, 1)]) (hsN := []) (c1 := 0) (s1 := 0) (c2 := 0) (s2 := 0) (by decide +kernel) ?_ (by omega) (by omega)
  exact jT_ret rfl (by decide) (by show 0 ≤ 0; omega) (by omega) (by omega) ⟨rfl, rfl, rfl⟩
theorem jG_188_43 {xs : List Int} {d : Nat} : jT xs (d + 1) 188 0 0 [(0, (0, 1))] [] [] 0 0 (fun k v hsN => k = 0 ∧ v = (0, 1) ∧ hsN = [] ++ []) := by
  refine jT_advK 4 (pcN := 6) (LN := [(0, (0, 1))]) (stN := [(1, 7), (1, 0), (1, 1)]) (hsN := []) (c1 := 0) (s1 := 0) (c2 := 0) (s2 := 0) (by decide +kernel) ?_ (by omega) (by omega)
  refine jT_fR [] 0 (y := 189) (pcN := 9) (dC := 0) (bc1 := 0) (bc2 := 0) (c1 := 0) (c2 := 0) (as := [(1, 1), (1, 0), (1, 7)]) (asC := [(1, 1), (1, 0), (1, 7)]) (LN := [(0, (0, 1))]) (stN := []) (hsC := []) (v := (0, 1)) (st2 := [(0, 1)]) (jG_189_42 (d := 0)) (by rfl) (by rfl) (by decide +kernel) (by rfl) (by rfl) (by omega) (by omega) (by omega) (by omega) rfl ?_
  exact jT_ret rfl (by decide) (by show 0 ≤ 0; omega) (by omega) (by omega) ⟨rfl, rfl, rfl⟩
theorem jG_306_44 {xs : List Int} {d : Nat} {r1 : Int} (h_r1 : 1 ≤ r1 ∧ r1 ≤ 255) (g_0 : (((Int32.ofInt r1 >>> (Int32.ofInt 1 &&& 31)).toInt) % 2) - 1 < 0) : jT xs (d + 2) 306 0 0 [(0, (0, r1)), (1, (0, 1))] [] [] 0 0 (fun k v hsN => k = 0 ∧ v = (0, 0) ∧ hsN = [] ++ []) := by
  refine jT_xiload_n (v := (0, 1)) (pcN := 1) jIG_306_0 rfl rfl rfl ?_
  refine jT_fR [] 0 (y := 188) (pcN := 4) (dC := 1) (bc1 := 0) (bc2 := 0) (c1 := 0) (c2 := 0) (as := [(0, 1)]) (asC := [(0, 1)]) (LN := [(0, (0, r1)), (1, (0, 1))]) (stN := []) (hsC := []) (v := (0, 1)) (st2 := [(0, 1)]) (jG_188_43 (d := 0)) (by rfl) (by rfl) (by decide +kernel) (by rfl) (by rfl) (by omega) (by omega) (by omega) (by omega) rfl ?_
  refine jT_xifF (t := 20) (pcN := 7) jIG_306_4 rfl (by decide +kernel) rfl rfl ?_
  refine jT_xiload_n (v := (0, r1)) (pcN := 8) jIG_306_7 rfl rfl rfl ?_
  refine jT_xiload_n (v := (0, 1)) (pcN := 9) jIG_306_8 rfl rfl rfl ?_
  refine jT_ishr (x := r1) (y := 1) (z := (Int32.ofInt r1 >>> (Int32.ofInt 1 &&& 31)).toInt) (by rfl) (by rfl) rfl ?_
  have hb_q1 : (-2147483648) ≤ (Int32.ofInt r1 >>> (Int32.ofInt 1 &&& 31)).toInt ∧ (Int32.ofInt r1 >>> (Int32.ofInt 1 &&& 31)).toInt ≤ 2147483647 := ⟨Int32.le_toInt _, Int.le_of_lt_add_one (Int32.toInt_lt _)⟩
  generalize hq_q1 : (Int32.ofInt r1 >>> (Int32.ofInt 1 &&& 31)).toInt = q1 at hb_q1 g_0 ⊢
  refine jT_xiconst (k := 1) (pcN := 11) jIG_306_10 rfl ?_
  refine jT_iand (x := q1) (y := 1) (z := q1 % 2) (by rfl) (by rfl) (jiand_1 _) ?_
  have hb_q2 : 0 ≤ q1 % 2 ∧ q1 % 2 ≤ 1 := ⟨by omega, by omega⟩
  generalize hq_q2 : q1 % 2 = q2 at hb_q2 g_0 ⊢
  refine jT_xiconst (k := 1) (pcN := 13) jIG_306_12 rfl ?_
  refine jT_icT (a := q2) (b := 1) (t := 20) (by rfl) (by rfl) (by rfl) (jw_idd (by omega) (by omega)) (jw_idd (by omega) (by omega)) (by simp only [jcP] <;> omega) ?_
  refine jT_xiconst (k := 0) (pcN := 21) jIG_306_20 rfl ?_
  subst hq_q2
  subst hq_q1
  exact jT_ret rfl (by decide) (by show 0 ≤ 0; omega) (by omega) (by omega) ⟨rfl, rfl, rfl⟩
theorem jG_306_45 {xs : List Int} {d : Nat} {r1 : Int} (h_r1 : 1 ≤ r1 ∧ r1 ≤ 255) (g_0 : 0 ≤ (((Int32.ofInt r1 >>> (Int32.ofInt 1 &&& 31)).toInt) % 2) - 1) : jT xs (d + 2) 306 0 0 [(0, (0, r1)), (1, (0, 1))] [] [] 0 0 (fun k v hsN => k = 0 ∧ v = (0, 1) ∧ hsN = [] ++ []) := by
  refine jT_xiload_n (v := (0, 1)) (pcN := 1) jIG_306_0 rfl rfl rfl ?_
  refine jT_fR [] 0 (y := 188) (pcN := 4) (dC := 1) (bc1 := 0) (bc2 := 0) (c1 := 0) (c2 := 0) (as := [(0, 1)]) (asC := [(0, 1)]) (LN := [(0, (0, r1)), (1, (0, 1))]) (stN := []) (hsC := []) (v := (0, 1)) (st2 := [(0, 1)]) (jG_188_43 (d := 0)) (by rfl) (by rfl) (by decide +kernel) (by rfl) (by rfl) (by omega) (by omega) (by omega) (by omega) rfl ?_
  refine jT_xifF (t := 20) (pcN := 7) jIG_306_4 rfl (by decide +kernel) rfl rfl ?_
  refine jT_xiload_n (v := (0, r1)) (pcN := 8) jIG_306_7 rfl rfl rfl ?_
  refine jT_xiload_n (v := (0, 1)) (pcN := 9) jIG_306_8 rfl rfl rfl ?_
  refine jT_ishr (x := r1) (y := 1) (z := (Int32.ofInt r1 >>> (Int32.ofInt 1 &&& 31)).toInt) (by rfl) (by rfl) rfl ?_
  have hb_q1 : (-2147483648) ≤ (Int32.ofInt r1 >>> (Int32.ofInt 1 &&& 31)).toInt ∧ (Int32.ofInt r1 >>> (Int32.ofInt 1 &&& 31)).toInt ≤ 2147483647 := ⟨Int32.le_toInt _, Int.le_of_lt_add_one (Int32.toInt_lt _)⟩
  generalize hq_q1 : (Int32.ofInt r1 >>> (Int32.ofInt 1 &&& 31)).toInt = q1 at hb_q1 g_0 ⊢
  refine jT_xiconst (k := 1) (pcN := 11) jIG_306_10 rfl ?_
  refine jT_iand (x := q1) (y := 1) (z := q1 % 2) (by rfl) (by rfl) (jiand_1 _) ?_
  have hb_q2 : 0 ≤ q1 % 2 ∧ q1 % 2 ≤ 1 := ⟨by omega, by omega⟩
  generalize hq_q2 : q1 % 2 = q2 at hb_q2 g_0 ⊢
  refine jT_xiconst (k := 1) (pcN := 13) jIG_306_12 rfl ?_
  refine jT_icF (a := q2) (b := 1) (t := 20) (by rfl) (by rfl) (by rfl) (jw_idd (by omega) (by omega)) (jw_idd (by omega) (by omega)) (by simp only [jcP] <;> omega) ?_
  refine jT_xiconst (k := 1) (pcN := 17) jIG_306_16 rfl ?_
  refine jT_xgoto (pcN := 21) jIG_306_17 rfl ?_
  subst hq_q2
  subst hq_q1
  exact jT_ret rfl (by decide) (by show 0 ≤ 0; omega) (by omega) (by omega) ⟨rfl, rfl, rfl⟩
theorem jG_267_46 {xs : List Int} {d : Nat} : jT xs (d + 1) 267 16 0 [(0, (4, 0)), (1, (0, 1)), (2, (0, 100))] [] jpG_156 0 0 (fun k v hsN => k = 0 ∧ v = (0, 1) ∧ hsN = jpG_156 ++ []) := by
  refine jT_advK 7 (pcN := 11) (LN := [(0, (4, 0)), (1, (0, 1)), (2, (0, 100))]) (stN := [(0, 13), (4, 1)]) (hsN := jpG_156) (c1 := 0) (s1 := 0) (c2 := 0) (s2 := 0) (by decide +kernel) ?_ (by omega) (by omega)
  refine jT_iald (x := 1) (a := 1) (j := 13) (fs := []) (X := jS0) (by rfl) (by rfl) (by rfl) (by rfl) (by decide +kernel) ?_
  refine jT_eq (LN := [(0, (4, 0)), (1, (0, 1)), (2, (0, 100))]) (stN := [(0, 1)]) (hsN := jpG_156) rfl rfl rfl ?_
  refine jT_advK 19 (pcN := 47) (LN := [(4, (0, 0)), (3, (0, 1)), (0, (4, 0)), (1, (0, 1)), (2, (0, 100))]) (stN := [(0, 7), (4, 1)]) (hsN := jpG_156) (c1 := 0) (s1 := 0) (c2 := 0) (s2 := 0) (by decide +kernel) ?_ (by omega) (by omega)
  refine jT_iald (x := 0) (a := 1) (j := 7) (fs := []) (X := jS0) (by rfl) (by rfl) (by rfl) (by rfl) (by decide +kernel) ?_
  refine jT_eq (LN := [(4, (0, 0)), (3, (0, 1)), (0, (4, 0)), (1, (0, 1)), (2, (0, 100))]) (stN := [(0, 0)]) (hsN := jpG_156) rfl rfl rfl ?_
  refine jT_advK 6 (pcN := 54) (LN := [(4, (0, 0)), (3, (0, 1)), (0, (4, 0)), (1, (0, 1)), (2, (0, 100))]) (stN := [(1, 100), (1, (-100)), (1, 0)]) (hsN := jpG_156) (c1 := 0) (s1 := 0) (c2 := 0) (s2 := 0) (by decide +kernel) ?_ (by omega) (by omega)
  refine jT_fR [] 16 (y := 189) (pcN := 57) (dC := 0) (bc1 := 0) (bc2 := 0) (c1 := 0) (c2 := 0) (as := [(1, 0), (1, (-100)), (1, 100)]) (asC := [(1, 0), (1, (-100)), (1, 100)]) (LN := [(4, (0, 0)), (3, (0, 1)), (0, (4, 0)), (1, (0, 1)), (2, (0, 100))]) (stN := []) (hsC := []) (v := (0, 1)) (st2 := [(0, 1)]) (jG_189_40 (d := 0)) (by rfl) (by rfl) (by decide +kernel) (by rfl) (by rfl) (by omega) (by omega) (by omega) (by omega) rfl ?_
  refine jT_advK 18 (pcN := 47) (LN := [(4, (0, 1)), (3, (0, 1)), (0, (4, 0)), (1, (0, 1)), (2, (0, 100))]) (stN := [(0, 8), (4, 1)]) (hsN := jpG_156) (c1 := 0) (s1 := 0) (c2 := 0) (s2 := 0) (by decide +kernel) ?_ (by omega) (by omega)
  refine jT_iald (x := 0) (a := 1) (j := 8) (fs := []) (X := jS0) (by rfl) (by rfl) (by rfl) (by rfl) (by decide +kernel) ?_
  refine jT_eq (LN := [(4, (0, 1)), (3, (0, 1)), (0, (4, 0)), (1, (0, 1)), (2, (0, 100))]) (stN := [(0, 0)]) (hsN := jpG_156) rfl rfl rfl ?_
  refine jT_advK 6 (pcN := 54) (LN := [(4, (0, 1)), (3, (0, 1)), (0, (4, 0)), (1, (0, 1)), (2, (0, 100))]) (stN := [(1, 100), (1, (-100)), (1, 0)]) (hsN := jpG_156) (c1 := 0) (s1 := 0) (c2 := 0) (s2 := 0) (by decide +kernel) ?_ (by omega) (by omega)
  refine jT_fR [] 16 (y := 189) (pcN := 57) (dC := 0) (bc1 := 0) (bc2 := 0) (c1 := 0) (c2 := 0) (as := [(1, 0), (1, (-100)), (1, 100)]) (asC := [(1, 0), (1, (-100)), (1, 100)]) (LN := [(4, (0, 1)), (3, (0, 1)), (0, (4, 0)), (1, (0, 1)), (2, (0, 100))]) (stN := []) (hsC := []) (v := (0, 1)) (st2 := [(0, 1)]) (jG_189_40 (d := 0)) (by rfl) (by rfl) (by decide +kernel) (by rfl) (by rfl) (by omega) (by omega) (by omega) (by omega) rfl ?_
  refine jT_advK 18 (pcN := 47) (LN := [(4, (0, 2)), (3, (0, 1)), (0, (4, 0)), (1, (0, 1)), (2, (0, 100))]) (stN := [(0, 9), (4, 1)]) (hsN := jpG_156) (c1 := 0) (s1 := 0) (c2 := 0) (s2 := 0) (by decide +kernel) ?_ (by omega) (by omega)
  refine jT_iald (x := 0) (a := 1) (j := 9) (fs := []) (X := jS0) (by rfl) (by rfl) (by rfl) (by rfl) (by decide +kernel) ?_
  refine jT_eq (LN := [(4, (0, 2)), (3, (0, 1)), (0, (4, 0)), (1, (0, 1)), (2, (0, 100))]) (stN := [(0, 0)]) (hsN := jpG_156) rfl rfl rfl ?_
  refine jT_advK 6 (pcN := 54) (LN := [(4, (0, 2)), (3, (0, 1)), (0, (4, 0)), (1, (0, 1)), (2, (0, 100))]) (stN := [(1, 100), (1, (-100)), (1, 0)]) (hsN := jpG_156) (c1 := 0) (s1 := 0) (c2 := 0) (s2 := 0) (by decide +kernel) ?_ (by omega) (by omega)
  refine jT_fR [] 16 (y := 189) (pcN := 57) (dC := 0) (bc1 := 0) (bc2 := 0) (c1 := 0) (c2 := 0) (as := [(1, 0), (1, (-100)), (1, 100)]) (asC := [(1, 0), (1, (-100)), (1, 100)]) (LN := [(4, (0, 2)), (3, (0, 1)), (0, (4, 0)), (1, (0, 1)), (2, (0, 100))]) (stN := []) (hsC := []) (v := (0, 1)) (st2 := [(0, 1)]) (jG_189_40 (d := 0)) (by rfl) (by rfl) (by decide +kernel) (by rfl) (by rfl) (by omega) (by omega) (by omega) (by omega) rfl ?_
  refine jT_advK 18 (pcN := 47) (LN := [(4, (0, 3)), (3, (0, 1)), (0, (4, 0)), (1, (0, 1)), (2, (0, 100))]) (stN := [(0, 10), (4, 1)]) (hsN := jpG_156) (c1 := 0) (s1 := 0) (c2 := 0) (s2 := 0) (by decide +kernel) ?_ (by omega) (by omega)
  refine jT_iald (x := 0) (a := 1) (j := 10) (fs := []) (X := jS0) (by rfl) (by rfl) (by rfl) (by rfl) (by decide +kernel) ?_
  refine jT_eq (LN := [(4, (0, 3)), (3, (0, 1)), (0, (4, 0)), (1, (0, 1)), (2, (0, 100))]) (stN := [(0, 0)]) (hsN := jpG_156) rfl rfl rfl ?_
  refine jT_advK 6 (pcN := 54) (LN := [(4, (0, 3)), (3, (0, 1)), (0, (4, 0)), (1, (0, 1)), (2, (0, 100))]) (stN := [(1, 100), (1, (-100)), (1, 0)]) (hsN := jpG_156) (c1 := 0) (s1 := 0) (c2 := 0) (s2 := 0) (by decide +kernel) ?_ (by omega) (by omega)
  refine jT_fR [] 16 (y := 189) (pcN := 57) (dC := 0) (bc1 := 0) (bc2 := 0) (c1 := 0) (c2 := 0) (as := [(1, 0), (1, (-100)), (1, 100)]) (asC := [(1, 0), (1, (-100)), (1, 100)]) (LN := [(4, (0, 3)), (3, (0, 1)), (0, (4, 0)), (1, (0, 1)), (2, (0, 100))]) (stN := []) (hsC := []) (v := (0, 1)) (st2 := [(0, 1)]) (jG_189_40 (d := 0)) (by rfl) (by rfl) (by decide +kernel) (by rfl) (by rfl) (by omega) (by omega) (by omega) (by omega) rfl ?_
  refine jT_advK 18 (pcN := 47) (LN := [(4, (0, 4)), (3, (0, 1)), (0, (4, 0)), (1, (0, 1)), (2, (0, 100))]) (stN := [(0, 11), (4, 1)]) (hsN := jpG_156) (c1 := 0) (s1 := 0) (c2 := 0) (s2 := 0) (by decide +kernel) ?_ (by omega) (by omega)
  refine jT_iald (x := 0) (a := 1) (j := 11) (fs := []) (X := jS0) (by rfl) (by rfl) (by rfl) (by rfl) (by decide +kernel) ?_
  refine jT_eq (LN := [(4, (0, 4)), (3, (0, 1)), (0, (4, 0)), (1, (0, 1)), (2, (0, 100))]) (stN := [(0, 0)]) (hsN := jpG_156) rfl rfl rfl ?_
  refine jT_advK 6 (pcN := 54) (LN := [(4, (0, 4)), (3, (0, 1)), (0, (4, 0)), (1, (0, 1)), (2, (0, 100))]) (stN := [(1, 100), (1, (-100)), (1, 0)]) (hsN := jpG_156) (c1 := 0) (s1 := 0) (c2 := 0) (s2 := 0) (by decide +kernel) ?_ (by omega) (by omega)
  refine jT_fR [] 16 (y := 189) (pcN := 57) (dC := 0) (bc1 := 0) (bc2 := 0) (c1 := 0) (c2 := 0) (as := [(1, 0), (1, (-100)), (1, 100)]) (asC := [(1, 0), (1, (-100)), (1, 100)]) (LN := [(4, (0, 4)), (3, (0, 1)), (0, (4, 0)), (1, (0, 1)), (2, (0, 100))]) (stN := []) (hsC := []) (v := (0, 1)) (st2 := [(0, 1)]) (jG_189_40 (d := 0)) (by rfl) (by rfl) (by decide +kernel) (by rfl) (by rfl) (by omega) (by omega) (by omega) (by omega) rfl ?_
  refine jT_advK 18 (pcN := 47) (LN := [(4, (0, 5)), (3, (0, 1)), (0, (4, 0)), (1, (0, 1)), (2, (0, 100))]) (stN := [(0, 12), (4, 1)]) (hsN := jpG_156) (c1 := 0) (s1 := 0) (c2 := 0) (s2 := 0) (by decide +kernel) ?_ (by omega) (by omega)
  refine jT_iald (x := 0) (a := 1) (j := 12) (fs := []) (X := jS0) (by rfl) (by rfl) (by rfl) (by rfl) (by decide +kernel) ?_
  refine jT_eq (LN := [(4, (0, 5)), (3, (0, 1)), (0, (4, 0)), (1, (0, 1)), (2, (0, 100))]) (stN := [(0, 0)]) (hsN := jpG_156) rfl rfl rfl ?_
  refine jT_advK 6 (pcN := 54) (LN := [(4, (0, 5)), (3, (0, 1)), (0, (4, 0)), (1, (0, 1)), (2, (0, 100))]) (stN := [(1, 100), (1, (-100)), (1, 0)]) (hsN := jpG_156) (c1 := 0) (s1 := 0) (c2 := 0) (s2 := 0) (by decide +kernel) ?_ (by omega) (by omega)
  refine jT_fR [] 16 (y := 189) (pcN := 57) (dC := 0) (bc1 := 0) (bc2 := 0) (c1 := 0) (c2 := 0) (as := [(1, 0), (1, (-100)), (1, 100)]) (asC := [(1, 0), (1, (-100)), (1, 100)]) (LN := [(4, (0, 5)), (3, (0, 1)), (0, (4, 0)), (1, (0, 1)), (2, (0, 100))]) (stN := []) (hsC := []) (v := (0, 1)) (st2 := [(0, 1)]) (jG_189_40 (d := 0)) (by rfl) (by rfl) (by decide +kernel) (by rfl) (by rfl) (by omega) (by omega) (by omega) (by omega) rfl ?_
  refine jT_advK 10 (pcN := 73) (LN := [(4, (0, 6)), (3, (0, 1)), (0, (4, 0)), (1, (0, 1)), (2, (0, 100))]) (stN := [(0, 1)]) (hsN := jpG_156) (c1 := 0) (s1 := 0) (c2 := 0) (s2 := 0) (by decide +kernel) ?_ (by omega) (by omega)
  exact jT_ret rfl (by decide) (by show 16 ≤ 16; omega) (by omega) (by omega) ⟨rfl, rfl, rfl⟩
theorem jG_189_47 {xs : List Int} {d : Nat} : jT xs d 189 0 0 [(0, (1, 2)), (2, (1, 0)), (4, (1, 7))] [] [] 0 0 (fun k v hsN => k = 0 ∧ v = (0, 1) ∧ hsN = [] ++ []) := by
  refine jT_advK 10 (pcN := 18) (LN := [(0, (1, 2)), (2, (1, 0)), (4, (1, 7))]) (stN := [(0, 1)]) (hsN := []) (c1 := 0) (s1 := 0) (c2 := 0) (s2 := 0) (by decide +kernel) ?_ (by omega) (by omega)
  exact jT_ret rfl (by decide) (by show 0 ≤ 0; omega) (by omega) (by omega) ⟨rfl, rfl, rfl⟩
theorem jG_188_48 {xs : List Int} {d : Nat} : jT xs (d + 1) 188 0 0 [(0, (0, 2))] [] [] 0 0 (fun k v hsN => k = 0 ∧ v = (0, 1) ∧ hsN = [] ++ []) := by
  refine jT_advK 4 (pcN := 6) (LN := [(0, (0, 2))]) (stN := [(1, 7), (1, 0), (1, 2)]) (hsN := []) (c1 := 0) (s1 := 0) (c2 := 0) (s2 := 0) (by decide +kernel) ?_ (by omega) (by omega)
  refine jT_fR [] 0 (y := 189) (pcN := 9) (dC := 0) (bc1 := 0) (bc2 := 0) (c1 := 0) (c2 := 0) (as := [(1, 2), (1, 0), (1, 7)]) (asC := [(1, 2), (1, 0), (1, 7)]) (LN := [(0, (0, 2))]) (stN := []) (hsC := []) (v := (0, 1)) (st2 := [(0, 1)]) (jG_189_47 (d := 0)) (by rfl) (by rfl) (by decide +kernel) (by rfl) (by rfl) (by omega) (by omega) (by omega) (by omega) rfl ?_
  exact jT_ret rfl (by decide) (by show 0 ≤ 0; omega) (by omega) (by omega) ⟨rfl, rfl, rfl⟩
theorem jG_306_49 {xs : List Int} {d : Nat} {r1 : Int} (h_r1 : 1 ≤ r1 ∧ r1 ≤ 255) (g_0 : (((Int32.ofInt r1 >>> (Int32.ofInt 2 &&& 31)).toInt) % 2) - 1 < 0) : jT xs (d + 2) 306 0 0 [(0, (0, r1)), (1, (0, 2))] [] [] 0 0 (fun k v hsN => k = 0 ∧ v = (0, 0) ∧ hsN = [] ++ []) := by
  refine jT_xiload_n (v := (0, 2)) (pcN := 1) jIG_306_0 rfl rfl rfl ?_
  refine jT_fR [] 0 (y := 188) (pcN := 4) (dC := 1) (bc1 := 0) (bc2 := 0) (c1 := 0) (c2 := 0) (as := [(0, 2)]) (asC := [(0, 2)]) (LN := [(0, (0, r1)), (1, (0, 2))]) (stN := []) (hsC := []) (v := (0, 1)) (st2 := [(0, 1)]) (jG_188_48 (d := 0)) (by rfl) (by rfl) (by decide +kernel) (by rfl) (by rfl) (by omega) (by omega) (by omega) (by omega) rfl ?_
  refine jT_xifF (t := 20) (pcN := 7) jIG_306_4 rfl (by decide +kernel) rfl rfl ?_
  refine jT_xiload_n (v := (0, r1)) (pcN := 8) jIG_306_7 rfl rfl rfl ?_
  refine jT_xiload_n (v := (0, 2)) (pcN := 9) jIG_306_8 rfl rfl rfl ?_
  refine jT_ishr (x := r1) (y := 2) (z := (Int32.ofInt r1 >>> (Int32.ofInt 2 &&& 31)).toInt) (by rfl) (by rfl) rfl ?_
  have hb_q1 : (-2147483648) ≤ (Int32.ofInt r1 >>> (Int32.ofInt 2 &&& 31)).toInt ∧ (Int32.ofInt r1 >>> (Int32.ofInt 2 &&& 31)).toInt ≤ 2147483647 := ⟨Int32.le_toInt _, Int.le_of_lt_add_one (Int32.toInt_lt _)⟩
  generalize hq_q1 : (Int32.ofInt r1 >>> (Int32.ofInt 2 &&& 31)).toInt = q1 at hb_q1 g_0 ⊢
  refine jT_xiconst (k := 1) (pcN := 11) jIG_306_10 rfl ?_
  refine jT_iand (x := q1) (y := 1) (z := q1 % 2) (by rfl) (by rfl) (jiand_1 _) ?_
  have hb_q2 : 0 ≤ q1 % 2 ∧ q1 % 2 ≤ 1 := ⟨by omega, by omega⟩
  generalize hq_q2 : q1 % 2 = q2 at hb_q2 g_0 ⊢
  refine jT_xiconst (k := 1) (pcN := 13) jIG_306_12 rfl ?_
  refine jT_icT (a := q2) (b := 1) (t := 20) (by rfl) (by rfl) (by rfl) (jw_idd (by omega) (by omega)) (jw_idd (by omega) (by omega)) (by simp only [jcP] <;> omega) ?_
  refine jT_xiconst (k := 0) (pcN := 21) jIG_306_20 rfl ?_
  subst hq_q2
  subst hq_q1
  exact jT_ret rfl (by decide) (by show 0 ≤ 0; omega) (by omega) (by omega) ⟨rfl, rfl, rfl⟩
theorem jG_306_50 {xs : List Int} {d : Nat} {r1 : Int} (h_r1 : 1 ≤ r1 ∧ r1 ≤ 255) (g_0 : 0 ≤ (((Int32.ofInt r1 >>> (Int32.ofInt 2 &&& 31)).toInt) % 2) - 1) : jT xs (d + 2) 306 0 0 [(0, (0, r1)), (1, (0, 2))] [] [] 0 0 (fun k v hsN => k = 0 ∧ v = (0, 1) ∧ hsN = [] ++ []) := by
  refine jT_xiload_n (v := (0, 2)) (pcN := 1) jIG_306_0 rfl rfl rfl ?_
  refine jT_fR [] 0 (y := 188) (pcN := 4) (dC := 1) (bc1 := 0) (bc2 := 0) (c1 := 0) (c2 := 0) (as := [(0, 2)]) (asC := [(0, 2)]) (LN := [(0, (0, r1)), (1, (0, 2))]) (stN := []) (hsC := []) (v := (0, 1)) (st2 := [(0, 1)]) (jG_188_48 (d := 0)) (by rfl) (by rfl) (by decide +kernel) (by rfl) (by rfl) (by omega) (by omega) (by omega) (by omega) rfl ?_
  refine jT_xifF (t := 20) (pcN := 7) jIG_306_4 rfl (by decide +kernel) rfl rfl ?_
  refine jT_xiload_n (v := (0, r1)) (pcN := 8) jIG_306_7 rfl rfl rfl ?_
  refine jT_xiload_n (v := (0, 2)) (pcN := 9) jIG_306_8 rfl rfl rfl ?_
  refine jT_ishr (x := r1) (y := 2) (z := (Int32.ofInt r1 >>> (Int32.ofInt 2 &&& 31)).toInt) (by rfl) (by rfl) rfl ?_
  have hb_q1 : (-2147483648) ≤ (Int32.ofInt r1 >>> (Int32.ofInt 2 &&& 31)).toInt ∧ (Int32.ofInt r1 >>> (Int32.ofInt 2 &&& 31)).toInt ≤ 2147483647 := ⟨Int32.le_toInt _, Int.le_of_lt_add_one (Int32.toInt_lt _)⟩
  generalize hq_q1 : (Int32.ofInt r1 >>> (Int32.ofInt 2 &&& 31)).toInt = q1 at hb_q1 g_0 ⊢
  refine jT_xiconst (k := 1) (pcN := 11) jIG_306_10 rfl ?_
  refine jT_iand (x := q1) (y := 1) (z := q1 % 2) (by rfl) (by rfl) (jiand_1 _) ?_
  have hb_q2 : 0 ≤ q1 % 2 ∧ q1 % 2 ≤ 1 := ⟨by omega, by omega⟩
  generalize hq_q2 : q1 % 2 = q2 at hb_q2 g_0 ⊢
  refine jT_xiconst (k := 1) (pcN := 13) jIG_306_12 rfl ?_
  refine jT_icF (a := q2) (b := 1) (t := 20) (by rfl) (by rfl) (by rfl) (jw_idd (by omega) (by omega)) (jw_idd (by omega) (by omega)) (by simp only [jcP] <;> omega) ?_
  refine jT_xiconst (k := 1) (pcN := 17) jIG_306_16 rfl ?_
  refine jT_xgoto (pcN := 21) jIG_306_17 rfl ?_
  subst hq_q2
  subst hq_q1
  exact jT_ret rfl (by decide) (by show 0 ≤ 0; omega) (by omega) (by omega) ⟨rfl, rfl, rfl⟩
theorem jG_267_51 {xs : List Int} {d : Nat} : jT xs (d + 1) 267 16 0 [(0, (4, 0)), (1, (0, 2)), (2, (0, 100))] [] jpG_156 0 0 (fun k v hsN => k = 0 ∧ v = (0, 1) ∧ hsN = jpG_156 ++ []) := by
  refine jT_advK 7 (pcN := 11) (LN := [(0, (4, 0)), (1, (0, 2)), (2, (0, 100))]) (stN := [(0, 20), (4, 1)]) (hsN := jpG_156) (c1 := 0) (s1 := 0) (c2 := 0) (s2 := 0) (by decide +kernel) ?_ (by omega) (by omega)
  refine jT_iald (x := 1) (a := 1) (j := 20) (fs := []) (X := jS0) (by rfl) (by rfl) (by rfl) (by rfl) (by decide +kernel) ?_
  refine jT_eq (LN := [(0, (4, 0)), (1, (0, 2)), (2, (0, 100))]) (stN := [(0, 1)]) (hsN := jpG_156) rfl rfl rfl ?_
  refine jT_advK 19 (pcN := 47) (LN := [(4, (0, 0)), (3, (0, 1)), (0, (4, 0)), (1, (0, 2)), (2, (0, 100))]) (stN := [(0, 14), (4, 1)]) (hsN := jpG_156) (c1 := 0) (s1 := 0) (c2 := 0) (s2 := 0) (by decide +kernel) ?_ (by omega) (by omega)
  refine jT_iald (x := 0) (a := 1) (j := 14) (fs := []) (X := jS0) (by rfl) (by rfl) (by rfl) (by rfl) (by decide +kernel) ?_
  refine jT_eq (LN := [(4, (0, 0)), (3, (0, 1)), (0, (4, 0)), (1, (0, 2)), (2, (0, 100))]) (stN := [(0, 0)]) (hsN := jpG_156) rfl rfl rfl ?_
  refine jT_advK 6 (pcN := 54) (LN := [(4, (0, 0)), (3, (0, 1)), (0, (4, 0)), (1, (0, 2)), (2, (0, 100))]) (stN := [(1, 100), (1, (-100)), (1, 0)]) (hsN := jpG_156) (c1 := 0) (s1 := 0) (c2 := 0) (s2 := 0) (by decide +kernel) ?_ (by omega) (by omega)
  refine jT_fR [] 16 (y := 189) (pcN := 57) (dC := 0) (bc1 := 0) (bc2 := 0) (c1 := 0) (c2 := 0) (as := [(1, 0), (1, (-100)), (1, 100)]) (asC := [(1, 0), (1, (-100)), (1, 100)]) (LN := [(4, (0, 0)), (3, (0, 1)), (0, (4, 0)), (1, (0, 2)), (2, (0, 100))]) (stN := []) (hsC := []) (v := (0, 1)) (st2 := [(0, 1)]) (jG_189_40 (d := 0)) (by rfl) (by rfl) (by decide +kernel) (by rfl) (by rfl) (by omega) (by omega) (by omega) (by omega) rfl ?_
  refine jT_advK 18 (pcN := 47) (LN := [(4, (0, 1)), (3, (0, 1)), (0, (4, 0)), (1, (0, 2)), (2, (0, 100))]) (stN := [(0, 15), (4, 1)]) (hsN := jpG_156) (c1 := 0) (s1 := 0) (c2 := 0) (s2 := 0) (by decide +kernel) ?_ (by omega) (by omega)
  refine jT_iald (x := 0) (a := 1) (j := 15) (fs := []) (X := jS0) (by rfl) (by rfl) (by rfl) (by rfl) (by decide +kernel) ?_
  refine jT_eq (LN := [(4, (0, 1)), (3, (0, 1)), (0, (4, 0)), (1, (0, 2)), (2, (0, 100))]) (stN := [(0, 0)]) (hsN := jpG_156) rfl rfl rfl ?_
  refine jT_advK 6 (pcN := 54) (LN := [(4, (0, 1)), (3, (0, 1)), (0, (4, 0)), (1, (0, 2)), (2, (0, 100))]) (stN := [(1, 100), (1, (-100)), (1, 0)]) (hsN := jpG_156) (c1 := 0) (s1 := 0) (c2 := 0) (s2 := 0) (by decide +kernel) ?_ (by omega) (by omega)
  refine jT_fR [] 16 (y := 189) (pcN := 57) (dC := 0) (bc1 := 0) (bc2 := 0) (c1 := 0) (c2 := 0) (as := [(1, 0), (1, (-100)), (1, 100)]) (asC := [(1, 0), (1, (-100)), (1, 100)]) (LN := [(4, (0, 1)), (3, (0, 1)), (0, (4, 0)), (1, (0, 2)), (2, (0, 100))]) (stN := []) (hsC := []) (v := (0, 1)) (st2 := [(0, 1)]) (jG_189_40 (d := 0)) (by rfl) (by rfl) (by decide +kernel) (by rfl) (by rfl) (by omega) (by omega) (by omega) (by omega) rfl ?_
  refine jT_advK 18 (pcN := 47) (LN := [(4, (0, 2)), (3, (0, 1)), (0, (4, 0)), (1, (0, 2)), (2, (0, 100))]) (stN := [(0, 16), (4, 1)]) (hsN := jpG_156) (c1 := 0) (s1 := 0) (c2 := 0) (s2 := 0) (by decide +kernel) ?_ (by omega) (by omega)
  refine jT_iald (x := 0) (a := 1) (j := 16) (fs := []) (X := jS0) (by rfl) (by rfl) (by rfl) (by rfl) (by decide +kernel) ?_
  refine jT_eq (LN := [(4, (0, 2)), (3, (0, 1)), (0, (4, 0)), (1, (0, 2)), (2, (0, 100))]) (stN := [(0, 0)]) (hsN := jpG_156) rfl rfl rfl ?_
  refine jT_advK 6 (pcN := 54) (LN := [(4, (0, 2)), (3, (0, 1)), (0, (4, 0)), (1, (0, 2)), (2, (0, 100))]) (stN := [(1, 100), (1, (-100)), (1, 0)]) (hsN := jpG_156) (c1 := 0) (s1 := 0) (c2 := 0) (s2 := 0) (by decide +kernel) ?_ (by omega) (by omega)
  refine jT_fR [] 16 (y := 189) (pcN := 57) (dC := 0) (bc1 := 0) (bc2 := 0) (c1 := 0) (c2 := 0) (as := [(1, 0), (1, (-100)), (1, 100)]) (asC := [(1, 0), (1, (-100)), (1, 100)]) (LN := [(4, (0, 2)), (3, (0, 1)), (0, (4, 0)), (1, (0, 2)), (2, (0, 100))]) (stN := []) (hsC := []) (v := (0, 1)) (st2 := [(0, 1)]) (jG_189_40 (d := 0)) (by rfl) (by rfl) (by decide +kernel) (by rfl) (by rfl) (by omega) (by omega) (by omega) (by omega) rfl ?_
  refine jT_advK 18 (pcN := 47) (LN := [(4, (0, 3)), (3, (0, 1)), (0, (4, 0)), (1, (0, 2)), (2, (0, 100))]) (stN := [(0, 17), (4, 1)]) (hsN := jpG_156) (c1 := 0) (s1 := 0) (c2 := 0) (s2 := 0) (by decide +kernel) ?_ (by omega) (by omega)
  refine jT_iald (x := 0) (a := 1) (j := 17) (fs := []) (X := jS0) (by rfl) (by rfl) (by rfl) (by rfl) (by decide +kernel) ?_
  refine jT_eq (LN := [(4, (0, 3)), (3, (0, 1)), (0, (4, 0)), (1, (0, 2)), (2, (0, 100))]) (stN := [(0, 0)]) (hsN := jpG_156) rfl rfl rfl ?_
  refine jT_advK 6 (pcN := 54) (LN := [(4, (0, 3)), (3, (0, 1)), (0, (4, 0)), (1, (0, 2)), (2, (0, 100))]) (stN := [(1, 100), (1, (-100)), (1, 0)]) (hsN := jpG_156) (c1 := 0) (s1 := 0) (c2 := 0) (s2 := 0) (by decide +kernel) ?_ (by omega) (by omega)
  refine jT_fR [] 16 (y := 189) (pcN := 57) (dC := 0) (bc1 := 0) (bc2 := 0) (c1 := 0) (c2 := 0) (as := [(1, 0), (1, (-100)), (1, 100)]) (asC := [(1, 0), (1, (-100)), (1, 100)]) (LN := [(4, (0, 3)), (3, (0, 1)), (0, (4, 0)), (1, (0, 2)), (2, (0, 100))]) (stN := []) (hsC := []) (v := (0, 1)) (st2 := [(0, 1)]) (jG_189_40 (d := 0)) (by rfl) (by rfl) (by decide +kernel) (by rfl) (by rfl) (by omega) (by omega) (by omega) (by omega) rfl ?_
  refine jT_advK 18 (pcN := 47) (LN := [(4, (0, 4)), (3, (0, 1)), (0, (4, 0)), (1, (0, 2)), (2, (0, 100))]) (stN := [(0, 18), (4, 1)]) (hsN := jpG_156) (c1 := 0) (s1 := 0) (c2 := 0) (s2 := 0) (by decide +kernel) ?_ (by omega) (by omega)
  refine jT_iald (x := 0) (a := 1) (j := 18) (fs := []) (X := jS0) (by rfl) (by rfl) (by rfl) (by rfl) (by decide +kernel) ?_
  refine jT_eq (LN := [(4, (0, 4)), (3, (0, 1)), (0, (4, 0)), (1, (0, 2)), (2, (0, 100))]) (stN := [(0, 0)]) (hsN := jpG_156) rfl rfl rfl ?_
  refine jT_advK 6 (pcN := 54) (LN := [(4, (0, 4)), (3, (0, 1)), (0, (4, 0)), (1, (0, 2)), (2, (0, 100))]) (stN := [(1, 100), (1, (-100)), (1, 0)]) (hsN := jpG_156) (c1 := 0) (s1 := 0) (c2 := 0) (s2 := 0) (by decide +kernel) ?_ (by omega) (by omega)
  refine jT_fR [] 16 (y := 189) (pcN := 57) (dC := 0) (bc1 := 0) (bc2 := 0) (c1 := 0) (c2 := 0) (as := [(1, 0), (1, (-100)), (1, 100)]) (asC := [(1, 0), (1, (-100)), (1, 100)]) (LN := [(4, (0, 4)), (3, (0, 1)), (0, (4, 0)), (1, (0, 2)), (2, (0, 100))]) (stN := []) (hsC := []) (v := (0, 1)) (st2 := [(0, 1)]) (jG_189_40 (d := 0)) (by rfl) (by rfl) (by decide +kernel) (by rfl) (by rfl) (by omega) (by omega) (by omega) (by omega) rfl ?_
  refine jT_advK 18 (pcN := 47) (LN := [(4, (0, 5)), (3, (0, 1)), (0, (4, 0)), (1, (0, 2)), (2, (0, 100))]) (stN := [(0, 19), (4, 1)]) (hsN := jpG_156) (c1 := 0) (s1 := 0) (c2 := 0) (s2 := 0) (by decide +kernel) ?_ (by omega) (by omega)
  refine jT_iald (x := 0) (a := 1) (j := 19) (fs := []) (X := jS0) (by rfl) (by rfl) (by rfl) (by rfl) (by decide +kernel) ?_
  refine jT_eq (LN := [(4, (0, 5)), (3, (0, 1)), (0, (4, 0)), (1, (0, 2)), (2, (0, 100))]) (stN := [(0, 0)]) (hsN := jpG_156) rfl rfl rfl ?_
  refine jT_advK 6 (pcN := 54) (LN := [(4, (0, 5)), (3, (0, 1)), (0, (4, 0)), (1, (0, 2)), (2, (0, 100))]) (stN := [(1, 100), (1, (-100)), (1, 0)]) (hsN := jpG_156) (c1 := 0) (s1 := 0) (c2 := 0) (s2 := 0) (by decide +kernel) ?_ (by omega) (by omega)
  refine jT_fR [] 16 (y := 189) (pcN := 57) (dC := 0) (bc1 := 0) (bc2 := 0) (c1 := 0) (c2 := 0) (as := [(1, 0), (1, (-100)), (1, 100)]) (asC := [(1, 0), (1, (-100)), (1, 100)]) (LN := [(4, (0, 5)), (3, (0, 1)), (0, (4, 0)), (1, (0, 2)), (2, (0, 100))]) (stN := []) (hsC := []) (v := (0, 1)) (st2 := [(0, 1)]) (jG_189_40 (d := 0)) (by rfl) (by rfl) (by decide +kernel) (by rfl) (by rfl) (by omega) (by omega) (by omega) (by omega) rfl ?_
  refine jT_advK 10 (pcN := 73) (LN := [(4, (0, 6)), (3, (0, 1)), (0, (4, 0)), (1, (0, 2)), (2, (0, 100))]) (stN := [(0, 1)]) (hsN := jpG_156) (c1 := 0) (s1 := 0) (c2 := 0) (s2 := 0) (by decide +kernel) ?_ (by omega) (by omega)
  exact jT_ret rfl (by decide) (by show 16 ≤ 16; omega) (by omega) (by omega) ⟨rfl, rfl, rfl⟩
theorem jG_189_52 {xs : List Int} {d : Nat} : jT xs d 189 0 0 [(0, (1, 3)), (2, (1, 0)), (4, (1, 7))] [] [] 0 0 (fun k v hsN => k = 0 ∧ v = (0, 1) ∧ hsN = [] ++ []) := by
  refine jT_advK 10 (pcN := 18) (LN := [(0, (1, 3)), (2, (1, 0)), (4, (1, 7))]) (stN := [(0, 1)]) (hsN := []) (c1 := 0) (s1 := 0) (c2 := 0) (s2 := 0) (by decide +kernel) ?_ (by omega) (by omega)
  exact jT_ret rfl (by decide) (by show 0 ≤ 0; omega) (by omega) (by omega) ⟨rfl, rfl, rfl⟩
theorem jG_188_53 {xs : List Int} {d : Nat} : jT xs (d + 1) 188 0 0 [(0, (0, 3))] [] [] 0 0 (fun k v hsN => k = 0 ∧ v = (0, 1) ∧ hsN = [] ++ []) := by
  refine jT_advK 4 (pcN := 6) (LN := [(0, (0, 3))]) (stN := [(1, 7), (1, 0), (1, 3)]) (hsN := []) (c1 := 0) (s1 := 0) (c2 := 0) (s2 := 0) (by decide +kernel) ?_ (by omega) (by omega)
  refine jT_fR [] 0 (y := 189) (pcN := 9) (dC := 0) (bc1 := 0) (bc2 := 0) (c1 := 0) (c2 := 0) (as := [(1, 3), (1, 0), (1, 7)]) (asC := [(1, 3), (1, 0), (1, 7)]) (LN := [(0, (0, 3))]) (stN := []) (hsC := []) (v := (0, 1)) (st2 := [(0, 1)]) (jG_189_52 (d := 0)) (by rfl) (by rfl) (by decide +kernel) (by rfl) (by rfl) (by omega) (by omega) (by omega) (by omega) rfl ?_
  exact jT_ret rfl (by decide) (by show 0 ≤ 0; omega) (by omega) (by omega) ⟨rfl, rfl, rfl⟩
theorem jG_306_54 {xs : List Int} {d : Nat} {r1 : Int} (h_r1 : 1 ≤ r1 ∧ r1 ≤ 255) (g_0 : (((Int32.ofInt r1 >>> (Int32.ofInt 3 &&& 31)).toInt) % 2) - 1 < 0) : jT xs (d + 2) 306 0 0 [(0, (0, r1)), (1, (0, 3))] [] [] 0 0 (fun k v hsN => k = 0 ∧ v = (0, 0) ∧ hsN = [] ++ []) := by
  refine jT_xiload_n (v := (0, 3)) (pcN := 1) jIG_306_0 rfl rfl rfl ?_
  refine jT_fR [] 0 (y := 188) (pcN := 4) (dC := 1) (bc1 := 0) (bc2 := 0) (c1 := 0) (c2 := 0) (as := [(0, 3)]) (asC := [(0, 3)]) (LN := [(0, (0, r1)), (1, (0, 3))]) (stN := []) (hsC := []) (v := (0, 1)) (st2 := [(0, 1)]) (jG_188_53 (d := 0)) (by rfl) (by rfl) (by decide +kernel) (by rfl) (by rfl) (by omega) (by omega) (by omega) (by omega) rfl ?_
  refine jT_xifF (t := 20) (pcN := 7) jIG_306_4 rfl (by decide +kernel) rfl rfl ?_
  refine jT_xiload_n (v := (0, r1)) (pcN := 8) jIG_306_7 rfl rfl rfl ?_
  refine jT_xiload_n (v := (0, 3)) (pcN := 9) jIG_306_8 rfl rfl rfl ?_
  refine jT_ishr (x := r1) (y := 3) (z := (Int32.ofInt r1 >>> (Int32.ofInt 3 &&& 31)).toInt) (by rfl) (by rfl) rfl ?_
  have hb_q1 : (-2147483648) ≤ (Int32.ofInt r1 >>> (Int32.ofInt 3 &&& 31)).toInt ∧ (Int32.ofInt r1 >>> (Int32.ofInt 3 &&& 31)).toInt ≤ 2147483647 := ⟨Int32.le_toInt _, Int.le_of_lt_add_one (Int32.toInt_lt _)⟩
  generalize hq_q1 : (Int32.ofInt r1 >>> (Int32.ofInt 3 &&& 31)).toInt = q1 at hb_q1 g_0 ⊢
  refine jT_xiconst (k := 1) (pcN := 11) jIG_306_10 rfl ?_
  refine jT_iand (x := q1) (y := 1) (z := q1 % 2) (by rfl) (by rfl) (jiand_1 _) ?_
  have hb_q2 : 0 ≤ q1 % 2 ∧ q1 % 2 ≤ 1 := ⟨by omega, by omega⟩
  generalize hq_q2 : q1 % 2 = q2 at hb_q2 g_0 ⊢
  refine jT_xiconst (k := 1) (pcN := 13) jIG_306_12 rfl ?_
  refine jT_icT (a := q2) (b := 1) (t := 20) (by rfl) (by rfl) (by rfl) (jw_idd (by omega) (by omega)) (jw_idd (by omega) (by omega)) (by simp only [jcP] <;> omega) ?_
  refine jT_xiconst (k := 0) (pcN := 21) jIG_306_20 rfl ?_
  subst hq_q2
  subst hq_q1
  exact jT_ret rfl (by decide) (by show 0 ≤ 0; omega) (by omega) (by omega) ⟨rfl, rfl, rfl⟩
theorem jG_306_55 {xs : List Int} {d : Nat} {r1 : Int} (h_r1 : 1 ≤ r1 ∧ r1 ≤ 255) (g_0 : 0 ≤ (((Int32.ofInt r1 >>> (Int32.ofInt 3 &&& 31)).toInt) % 2) - 1) : jT xs (d + 2) 306 0 0 [(0, (0, r1)), (1, (0, 3))] [] [] 0 0 (fun k v hsN => k = 0 ∧ v = (0, 1) ∧ hsN = [] ++ []) := by
  refine jT_xiload_n (v := (0, 3)) (pcN := 1) jIG_306_0 rfl rfl rfl ?_
  refine jT_fR [] 0 (y := 188) (pcN := 4) (dC := 1) (bc1 := 0) (bc2 := 0) (c1 := 0) (c2 := 0) (as := [(0, 3)]) (asC := [(0, 3)]) (LN := [(0, (0, r1)), (1, (0, 3))]) (stN := []) (hsC := []) (v := (0, 1)) (st2 := [(0, 1)]) (jG_188_53 (d := 0)) (by rfl) (by rfl) (by decide +kernel) (by rfl) (by rfl) (by omega) (by omega) (by omega) (by omega) rfl ?_
  refine jT_xifF (t := 20) (pcN := 7) jIG_306_4 rfl (by decide +kernel) rfl rfl ?_
  refine jT_xiload_n (v := (0, r1)) (pcN := 8) jIG_306_7 rfl rfl rfl ?_
  refine jT_xiload_n (v := (0, 3)) (pcN := 9) jIG_306_8 rfl rfl rfl ?_
  refine jT_ishr (x := r1) (y := 3) (z := (Int32.ofInt r1 >>> (Int32.ofInt 3 &&& 31)).toInt) (by rfl) (by rfl) rfl ?_
  have hb_q1 : (-2147483648) ≤ (Int32.ofInt r1 >>> (Int32.ofInt 3 &&& 31)).toInt ∧ (Int32.ofInt r1 >>> (Int32.ofInt 3 &&& 31)).toInt ≤ 2147483647 := ⟨Int32.le_toInt _, Int.le_of_lt_add_one (Int32.toInt_lt _)⟩
  generalize hq_q1 : (Int32.ofInt r1 >>> (Int32.ofInt 3 &&& 31)).toInt = q1 at hb_q1 g_0 ⊢
  refine jT_xiconst (k := 1) (pcN := 11) jIG_306_10 rfl ?_
  refine jT_iand (x := q1) (y := 1) (z := q1 % 2) (by rfl) (by rfl) (jiand_1 _) ?_
  have hb_q2 : 0 ≤ q1 % 2 ∧ q1 % 2 ≤ 1 := ⟨by omega, by omega⟩
  generalize hq_q2 : q1 % 2 = q2 at hb_q2 g_0 ⊢
  refine jT_xiconst (k := 1) (pcN := 13) jIG_306_12 rfl ?_
  refine jT_icF (a := q2) (b := 1) (t := 20) (by rfl) (by rfl) (by rfl) (jw_idd (by omega) (by omega)) (jw_idd (by omega) (by omega)) (by simp only [jcP] <;> omega) ?_
  refine jT_xiconst (k := 1) (pcN := 17) jIG_306_16 rfl ?_
  refine jT_xgoto (pcN := 21) jIG_306_17 rfl ?_
  subst hq_q2
  subst hq_q1
  exact jT_ret rfl (by decide) (by show 0 ≤ 0; omega) (by omega) (by omega) ⟨rfl, rfl, rfl⟩
theorem jG_267_56 {xs : List Int} {d : Nat} : jT xs (d + 1) 267 16 0 [(0, (4, 0)), (1, (0, 3)), (2, (0, 100))] [] jpG_156 0 0 (fun k v hsN => k = 0 ∧ v = (0, 1) ∧ hsN = jpG_156 ++ []) := by
  refine jT_advK 7 (pcN := 11) (LN := [(0, (4, 0)), (1, (0, 3)), (2, (0, 100))]) (stN := [(0, 27), (4, 1)]) (hsN := jpG_156) (c1 := 0) (s1 := 0) (c2 := 0) (s2 := 0) (by decide +kernel) ?_ (by omega) (by omega)
  refine jT_iald (x := 1) (a := 1) (j := 27) (fs := []) (X := jS0) (by rfl) (by rfl) (by rfl) (by rfl) (by decide +kernel) ?_
  refine jT_eq (LN := [(0, (4, 0)), (1, (0, 3)), (2, (0, 100))]) (stN := [(0, 1)]) (hsN := jpG_156) rfl rfl rfl ?_
  refine jT_advK 19 (pcN := 47) (LN := [(4, (0, 0)), (3, (0, 1)), (0, (4, 0)), (1, (0, 3)), (2, (0, 100))]) (stN := [(0, 21), (4, 1)]) (hsN := jpG_156) (c1 := 0) (s1 := 0) (c2 := 0) (s2 := 0) (by decide +kernel) ?_ (by omega) (by omega)
  refine jT_iald (x := 0) (a := 1) (j := 21) (fs := []) (X := jS0) (by rfl) (by rfl) (by rfl) (by rfl) (by decide +kernel) ?_
  refine jT_eq (LN := [(4, (0, 0)), (3, (0, 1)), (0, (4, 0)), (1, (0, 3)), (2, (0, 100))]) (stN := [(0, 0)]) (hsN := jpG_156) rfl rfl rfl ?_
  refine jT_advK 6 (pcN := 54) (LN := [(4, (0, 0)), (3, (0, 1)), (0, (4, 0)), (1, (0, 3)), (2, (0, 100))]) (stN := [(1, 100), (1, (-100)), (1, 0)]) (hsN := jpG_156) (c1 := 0) (s1 := 0) (c2 := 0) (s2 := 0) (by decide +kernel) ?_ (by omega) (by omega)
  refine jT_fR [] 16 (y := 189) (pcN := 57) (dC := 0) (bc1 := 0) (bc2 := 0) (c1 := 0) (c2 := 0) (as := [(1, 0), (1, (-100)), (1, 100)]) (asC := [(1, 0), (1, (-100)), (1, 100)]) (LN := [(4, (0, 0)), (3, (0, 1)), (0, (4, 0)), (1, (0, 3)), (2, (0, 100))]) (stN := []) (hsC := []) (v := (0, 1)) (st2 := [(0, 1)]) (jG_189_40 (d := 0)) (by rfl) (by rfl) (by decide +kernel) (by rfl) (by rfl) (by omega) (by omega) (by omega) (by omega) rfl ?_
  refine jT_advK 18 (pcN := 47) (LN := [(4, (0, 1)), (3, (0, 1)), (0, (4, 0)), (1, (0, 3)), (2, (0, 100))]) (stN := [(0, 22), (4, 1)]) (hsN := jpG_156) (c1 := 0) (s1 := 0) (c2 := 0) (s2 := 0) (by decide +kernel) ?_ (by omega) (by omega)
  refine jT_iald (x := 0) (a := 1) (j := 22) (fs := []) (X := jS0) (by rfl) (by rfl) (by rfl) (by rfl) (by decide +kernel) ?_
  refine jT_eq (LN := [(4, (0, 1)), (3, (0, 1)), (0, (4, 0)), (1, (0, 3)), (2, (0, 100))]) (stN := [(0, 0)]) (hsN := jpG_156) rfl rfl rfl ?_
  refine jT_advK 6 (pcN := 54) (LN := [(4, (0, 1)), (3, (0, 1)), (0, (4, 0)), (1, (0, 3)), (2, (0, 100))]) (stN := [(1, 100), (1, (-100)), (1, 0)]) (hsN := jpG_156) (c1 := 0) (s1 := 0) (c2 := 0) (s2 := 0) (by decide +kernel) ?_ (by omega) (by omega)
  refine jT_fR [] 16 (y := 189) (pcN := 57) (dC := 0) (bc1 := 0) (bc2 := 0) (c1 := 0) (c2 := 0) (as := [(1, 0), (1, (-100)), (1, 100)]) (asC := [(1, 0), (1, (-100)), (1, 100)]) (LN := [(4, (0, 1)), (3, (0, 1)), (0, (4, 0)), (1, (0, 3)), (2, (0, 100))]) (stN := []) (hsC := []) (v := (0, 1)) (st2 := [(0, 1)]) (jG_189_40 (d := 0)) (by rfl) (by rfl) (by decide +kernel) (by rfl) (by rfl) (by omega) (by omega) (by omega) (by omega) rfl ?_
  refine jT_advK 18 (pcN := 47) (LN := [(4, (0, 2)), (3, (0, 1)), (0, (4, 0)), (1, (0, 3)), (2, (0, 100))]) (stN := [(0, 23), (4, 1)]) (hsN := jpG_156) (c1 := 0) (s1 := 0) (c2 := 0) (s2 := 0) (by decide +kernel) ?_ (by omega) (by omega)
  refine jT_iald (x := 0) (a := 1) (j := 23) (fs := []) (X := jS0) (by rfl) (by rfl) (by rfl) (by rfl) (by decide +kernel) ?_
  refine jT_eq (LN := [(4, (0, 2)), (3, (0, 1)), (0, (4, 0)), (1, (0, 3)), (2, (0, 100))]) (stN := [(0, 0)]) (hsN := jpG_156) rfl rfl rfl ?_
  refine jT_advK 6 (pcN := 54) (LN := [(4, (0, 2)), (3, (0, 1)), (0, (4, 0)), (1, (0, 3)), (2, (0, 100))]) (stN := [(1, 100), (1, (-100)), (1, 0)]) (hsN := jpG_156) (c1 := 0) (s1 := 0) (c2 := 0) (s2 := 0) (by decide +kernel) ?_ (by omega) (by omega)
  refine jT_fR [] 16 (y := 189) (pcN := 57) (dC := 0) (bc1 := 0) (bc2 := 0) (c1 := 0) (c2 := 0) (as := [(1, 0), (1, (-100)), (1, 100)]) (asC := [(1, 0), (1, (-100)), (1, 100)]) (LN := [(4, (0, 2)), (3, (0, 1)), (0, (4, 0)), (1, (0, 3)), (2, (0, 100))]) (stN := []) (hsC := []) (v := (0, 1)) (st2 := [(0, 1)]) (jG_189_40 (d := 0)) (by rfl) (by rfl) (by decide +kernel) (by rfl) (by rfl) (by omega) (by omega) (by omega) (by omega) rfl ?_
  refine jT_advK 18 (pcN := 47) (LN := [(4, (0, 3)), (3, (0, 1)), (0, (4, 0)), (1, (0, 3)), (2, (0, 100))]) (stN := [(0, 24), (4, 1)]) (hsN := jpG_156) (c1 := 0) (s1 := 0) (c2 := 0) (s2 := 0) (by decide +kernel) ?_ (by omega) (by omega)
  refine jT_iald (x := 0) (a := 1) (j := 24) (fs := []) (X := jS0) (by rfl) (by rfl) (by rfl) (by rfl) (by decide +kernel) ?_
  refine jT_eq (LN := [(4, (0, 3)), (3, (0, 1)), (0, (4, 0)), (1, (0, 3)), (2, (0, 100))]) (stN := [(0, 0)]) (hsN := jpG_156) rfl rfl rfl ?_
  refine jT_advK 6 (pcN := 54) (LN := [(4, (0, 3)), (3, (0, 1)), (0, (4, 0)), (1, (0, 3)), (2, (0, 100))]) (stN := [(1, 100), (1, (-100)), (1, 0)]) (hsN := jpG_156) (c1 := 0) (s1 := 0) (c2 := 0) (s2 := 0) (by decide +kernel) ?_ (by omega) (by omega)
  refine jT_fR [] 16 (y := 189) (pcN := 57) (dC := 0) (bc1 := 0) (bc2 := 0) (c1 := 0) (c2 := 0) (as := [(1, 0), (1, (-100)), (1, 100)]) (asC := [(1, 0), (1, (-100)), (1, 100)]) (LN := [(4, (0, 3)), (3, (0, 1)), (0, (4, 0)), (1, (0, 3)), (2, (0, 100))]) (stN := []) (hsC := []) (v := (0, 1)) (st2 := [(0, 1)]) (jG_189_40 (d := 0)) (by rfl) (by rfl) (by decide +kernel) (by rfl) (by rfl) (by omega) (by omega) (by omega) (by omega) rfl ?_
  refine jT_advK 18 (pcN := 47) (LN := [(4, (0, 4)), (3, (0, 1)), (0, (4, 0)), (1, (0, 3)), (2, (0, 100))]) (stN := [(0, 25), (4, 1)]) (hsN := jpG_156) (c1 := 0) (s1 := 0) (c2 := 0) (s2 := 0) (by decide +kernel) ?_ (by omega) (by omega)
  refine jT_iald (x := 0) (a := 1) (j := 25) (fs := []) (X := jS0) (by rfl) (by rfl) (by rfl) (by rfl) (by decide +kernel) ?_
  refine jT_eq (LN := [(4, (0, 4)), (3, (0, 1)), (0, (4, 0)), (1, (0, 3)), (2, (0, 100))]) (stN := [(0, 0)]) (hsN := jpG_156) rfl rfl rfl ?_
  refine jT_advK 6 (pcN := 54) (LN := [(4, (0, 4)), (3, (0, 1)), (0, (4, 0)), (1, (0, 3)), (2, (0, 100))]) (stN := [(1, 100), (1, (-100)), (1, 0)]) (hsN := jpG_156) (c1 := 0) (s1 := 0) (c2 := 0) (s2 := 0) (by decide +kernel) ?_ (by omega) (by omega)
  refine jT_fR [] 16 (y := 189) (pcN := 57) (dC := 0) (bc1 := 0) (bc2 := 0) (c1 := 0) (c2 := 0) (as := [(1, 0), (1, (-100)), (1, 100)]) (asC := [(1, 0), (1, (-100)), (1, 100)]) (LN := [(4, (0, 4)), (3, (0, 1)), (0, (4, 0)), (1, (0, 3)), (2, (0, 100))]) (stN := []) (hsC := []) (v := (0, 1)) (st2 := [(0, 1)]) (jG_189_40 (d := 0)) (by rfl) (by rfl) (by decide +kernel) (by rfl) (by rfl) (by omega) (by omega) (by omega) (by omega) rfl ?_
  refine jT_advK 18 (pcN := 47) (LN := [(4, (0, 5)), (3, (0, 1)), (0, (4, 0)), (1, (0, 3)), (2, (0, 100))]) (stN := [(0, 26), (4, 1)]) (hsN := jpG_156) (c1 := 0) (s1 := 0) (c2 := 0) (s2 := 0) (by decide +kernel) ?_ (by omega) (by omega)
  refine jT_iald (x := 0) (a := 1) (j := 26) (fs := []) (X := jS0) (by rfl) (by rfl) (by rfl) (by rfl) (by decide +kernel) ?_
  refine jT_eq (LN := [(4, (0, 5)), (3, (0, 1)), (0, (4, 0)), (1, (0, 3)), (2, (0, 100))]) (stN := [(0, 0)]) (hsN := jpG_156) rfl rfl rfl ?_
  refine jT_advK 6 (pcN := 54) (LN := [(4, (0, 5)), (3, (0, 1)), (0, (4, 0)), (1, (0, 3)), (2, (0, 100))]) (stN := [(1, 100), (1, (-100)), (1, 0)]) (hsN := jpG_156) (c1 := 0) (s1 := 0) (c2 := 0) (s2 := 0) (by decide +kernel) ?_ (by omega) (by omega)
  refine jT_fR [] 16 (y := 189) (pcN := 57) (dC := 0) (bc1 := 0) (bc2 := 0) (c1 := 0) (c2 := 0) (as := [(1, 0), (1, (-100)), (1, 100)]) (asC := [(1, 0), (1, (-100)), (1, 100)]) (LN := [(4, (0, 5)), (3, (0, 1)), (0, (4, 0)), (1, (0, 3)), (2, (0, 100))]) (stN := []) (hsC := []) (v := (0, 1)) (st2 := [(0, 1)]) (jG_189_40 (d := 0)) (by rfl) (by rfl) (by decide +kernel) (by rfl) (by rfl) (by omega) (by omega) (by omega) (by omega) rfl ?_
  refine jT_advK 10 (pcN := 73) (LN := [(4, (0, 6)), (3, (0, 1)), (0, (4, 0)), (1, (0, 3)), (2, (0, 100))]) (stN := [(0, 1)]) (hsN := jpG_156) (c1 := 0) (s1 := 0) (c2 := 0) (s2 := 0) (by decide +kernel) ?_ (by omega) (by omega)
  exact jT_ret rfl (by decide) (by show 16 ≤ 16; omega) (by omega) (by omega) ⟨rfl, rfl, rfl⟩
theorem jG_189_57 {xs : List Int} {d : Nat} : jT xs d 189 0 0 [(0, (1, 4)), (2, (1, 0)), (4, (1, 7))] [] [] 0 0 (fun k v hsN => k = 0 ∧ v = (0, 1) ∧ hsN = [] ++ []) := by
  refine jT_advK 10 (pcN := 18) (LN := [(0, (1, 4)), (2, (1, 0)), (4, (1, 7))]) (stN := [(0, 1)]) (hsN := []) (c1 := 0) (s1 := 0) (c2 := 0) (s2 := 0) (by decide +kernel) ?_ (by omega) (by omega)
  exact jT_ret rfl (by decide) (by show 0 ≤ 0; omega) (by omega) (by omega) ⟨rfl, rfl, rfl⟩
theorem jG_188_58 {xs : List Int} {d : Nat} : jT xs (d + 1) 188 0 0 [(0, (0, 4))] [] [] 0 0 (fun k v hsN => k = 0 ∧ v = (0, 1) ∧ hsN = [] ++ []) := by
  refine jT_advK 4 (pcN := 6) (LN := [(0, (0, 4))]) (stN := [(1, 7), (1, 0), (1, 4)]) (hsN := []) (c1 := 0) (s1 := 0) (c2 := 0) (s2 := 0) (by decide +kernel) ?_ (by omega) (by omega)
  refine jT_fR [] 0 (y := 189) (pcN := 9) (dC := 0) (bc1 := 0) (bc2 := 0) (c1 := 0) (c2 := 0) (as := [(1, 4), (1, 0), (1, 7)]) (asC := [(1, 4), (1, 0), (1, 7)]) (LN := [(0, (0, 4))]) (stN := []) (hsC := []) (v := (0, 1)) (st2 := [(0, 1)]) (jG_189_57 (d := 0)) (by rfl) (by rfl) (by decide +kernel) (by rfl) (by rfl) (by omega) (by omega) (by omega) (by omega) rfl ?_
  exact jT_ret rfl (by decide) (by show 0 ≤ 0; omega) (by omega) (by omega) ⟨rfl, rfl, rfl⟩
theorem jG_306_59 {xs : List Int} {d : Nat} {r1 : Int} (h_r1 : 1 ≤ r1 ∧ r1 ≤ 255) (g_0 : (((Int32.ofInt r1 >>> (Int32.ofInt 4 &&& 31)).toInt) % 2) - 1 < 0) : jT xs (d + 2) 306 0 0 [(0, (0, r1)), (1, (0, 4))] [] [] 0 0 (fun k v hsN => k = 0 ∧ v = (0, 0) ∧ hsN = [] ++ []) := by
  refine jT_xiload_n (v := (0, 4)) (pcN := 1) jIG_306_0 rfl rfl rfl ?_
  refine jT_fR [] 0 (y := 188) (pcN := 4) (dC := 1) (bc1 := 0) (bc2 := 0) (c1 := 0) (c2 := 0) (as := [(0, 4)]) (asC := [(0, 4)]) (LN := [(0, (0, r1)), (1, (0, 4))]) (stN := []) (hsC := []) (v := (0, 1)) (st2 := [(0, 1)]) (jG_188_58 (d := 0)) (by rfl) (by rfl) (by decide +kernel) (by rfl) (by rfl) (by omega) (by omega) (by omega) (by omega) rfl ?_
  refine jT_xifF (t := 20) (pcN := 7) jIG_306_4 rfl (by decide +kernel) rfl rfl ?_
  refine jT_xiload_n (v := (0, r1)) (pcN := 8) jIG_306_7 rfl rfl rfl ?_
  refine jT_xiload_n (v := (0, 4)) (pcN := 9) jIG_306_8 rfl rfl rfl ?_
  refine jT_ishr (x := r1) (y := 4) (z := (Int32.ofInt r1 >>> (Int32.ofInt 4 &&& 31)).toInt) (by rfl) (by rfl) rfl ?_
  have hb_q1 : (-2147483648) ≤ (Int32.ofInt r1 >>> (Int32.ofInt 4 &&& 31)).toInt ∧ (Int32.ofInt r1 >>> (Int32.ofInt 4 &&& 31)).toInt ≤ 2147483647 := ⟨Int32.le_toInt _, Int.le_of_lt_add_one (Int32.toInt_lt _)⟩
  generalize hq_q1 : (Int32.ofInt r1 >>> (Int32.ofInt 4 &&& 31)).toInt = q1 at hb_q1 g_0 ⊢
  refine jT_xiconst (k := 1) (pcN := 11) jIG_306_10 rfl ?_
  refine jT_iand (x := q1) (y := 1) (z := q1 % 2) (by rfl) (by rfl) (jiand_1 _) ?_
  have hb_q2 : 0 ≤ q1 % 2 ∧ q1 % 2 ≤ 1 := ⟨by omega, by omega⟩
  generalize hq_q2 : q1 % 2 = q2 at hb_q2 g_0 ⊢
  refine jT_xiconst (k := 1) (pcN := 13) jIG_306_12 rfl ?_
  refine jT_icT (a := q2) (b := 1) (t := 20) (by rfl) (by rfl) (by rfl) (jw_idd (by omega) (by omega)) (jw_idd (by omega) (by omega)) (by simp only [jcP] <;> omega) ?_
  refine jT_xiconst (k := 0) (pcN := 21) jIG_306_20 rfl ?_
  subst hq_q2
  subst hq_q1
  exact jT_ret rfl (by decide) (by show 0 ≤ 0; omega) (by omega) (by omega) ⟨rfl, rfl, rfl⟩
theorem jG_306_60 {xs : List Int} {d : Nat} {r1 : Int} (h_r1 : 1 ≤ r1 ∧ r1 ≤ 255) (g_0 : 0 ≤ (((Int32.ofInt r1 >>> (Int32.ofInt 4 &&& 31)).toInt) % 2) - 1) : jT xs (d + 2) 306 0 0 [(0, (0, r1)), (1, (0, 4))] [] [] 0 0 (fun k v hsN => k = 0 ∧ v = (0, 1) ∧ hsN = [] ++ []) := by
  refine jT_xiload_n (v := (0, 4)) (pcN := 1) jIG_306_0 rfl rfl rfl ?_
  refine jT_fR [] 0 (y := 188) (pcN := 4) (dC := 1) (bc1 := 0) (bc2 := 0) (c1 := 0) (c2 := 0) (as := [(0, 4)]) (asC := [(0, 4)]) (LN := [(0, (0, r1)), (1, (0, 4))]) (stN := []) (hsC := []) (v := (0, 1)) (st2 := [(0, 1)]) (jG_188_58 (d := 0)) (by rfl) (by rfl) (by decide +kernel) (by rfl) (by rfl) (by omega) (by omega) (by omega) (by omega) rfl ?_
  refine jT_xifF (t := 20) (pcN := 7) jIG_306_4 rfl (by decide +kernel) rfl rfl ?_
  refine jT_xiload_n (v := (0, r1)) (pcN := 8) jIG_306_7 rfl rfl rfl ?_
  refine jT_xiload_n (v := (0, 4)) (pcN := 9) jIG_306_8 rfl rfl rfl ?_
  refine jT_ishr (x := r1) (y := 4) (z := (Int32.ofInt r1 >>> (Int32.ofInt 4 &&& 31)).toInt) (by rfl) (by rfl) rfl ?_
  have hb_q1 : (-2147483648) ≤ (Int32.ofInt r1 >>> (Int32.ofInt 4 &&& 31)).toInt ∧ (Int32.ofInt r1 >>> (Int32.ofInt 4 &&& 31)).toInt ≤ 2147483647 := ⟨Int32.le_toInt _, Int.le_of_lt_add_one (Int32.toInt_lt _)⟩
  generalize hq_q1 : (Int32.ofInt r1 >>> (Int32.ofInt 4 &&& 31)).toInt = q1 at hb_q1 g_0 ⊢
  refine jT_xiconst (k := 1) (pcN := 11) jIG_306_10 rfl ?_
  refine jT_iand (x := q1) (y := 1) (z := q1 % 2) (by rfl) (by rfl) (jiand_1 _) ?_
  have hb_q2 : 0 ≤ q1 % 2 ∧ q1 % 2 ≤ 1 := ⟨by omega, by omega⟩
  generalize hq_q2 : q1 % 2 = q2 at hb_q2 g_0 ⊢
  refine jT_xiconst (k := 1) (pcN := 13) jIG_306_12 rfl ?_
  refine jT_icF (a := q2) (b := 1) (t := 20) (by rfl) (by rfl) (by rfl) (jw_idd (by omega) (by omega)) (jw_idd (by omega) (by omega)) (by simp only [jcP] <;> omega) ?_
  refine jT_xiconst (k := 1) (pcN := 17) jIG_306_16 rfl ?_
  refine jT_xgoto (pcN := 21) jIG_306_17 rfl ?_
  subst hq_q2
  subst hq_q1
  exact jT_ret rfl (by decide) (by show 0 ≤ 0; omega) (by omega) (by omega) ⟨rfl, rfl, rfl⟩
theorem jG_267_61 {xs : List Int} {d : Nat} : jT xs (d + 1) 267 16 0 [(0, (4, 0)), (1, (0, 4)), (2, (0, 100))] [] jpG_156 0 0 (fun k v hsN => k = 0 ∧ v = (0, 1) ∧ hsN = jpG_156 ++ []) := by
  refine jT_advK 7 (pcN := 11) (LN := [(0, (4, 0)), (1, (0, 4)), (2, (0, 100))]) (stN := [(0, 34), (4, 1)]) (hsN := jpG_156) (c1 := 0) (s1 := 0) (c2 := 0) (s2 := 0) (by decide +kernel) ?_ (by omega) (by omega)
  refine jT_iald (x := 1) (a := 1) (j := 34) (fs := []) (X := jS0) (by rfl) (by rfl) (by rfl) (by rfl) (by decide +kernel) ?_
  refine jT_eq (LN := [(0, (4, 0)), (1, (0, 4)), (2, (0, 100))]) (stN := [(0, 1)]) (hsN := jpG_156) rfl rfl rfl ?_
  refine jT_advK 19 (pcN := 47) (LN := [(4, (0, 0)), (3, (0, 1)), (0, (4, 0)), (1, (0, 4)), (2, (0, 100))]) (stN := [(0, 28), (4, 1)]) (hsN := jpG_156) (c1 := 0) (s1 := 0) (c2 := 0) (s2 := 0) (by decide +kernel) ?_ (by omega) (by omega)
  refine jT_iald (x := 0) (a := 1) (j := 28) (fs := []) (X := jS0) (by rfl) (by rfl) (by rfl) (by rfl) (by decide +kernel) ?_
  refine jT_eq (LN := [(4, (0, 0)), (3, (0, 1)), (0, (4, 0)), (1, (0, 4)), (2, (0, 100))]) (stN := [(0, 0)]) (hsN := jpG_156) rfl rfl rfl ?_
  refine jT_advK 6 (pcN := 54) (LN := [(4, (0, 0)), (3, (0, 1)), (0, (4, 0)), (1, (0, 4)), (2, (0, 100))]) (stN := [(1, 100), (1, (-100)), (1, 0)]) (hsN := jpG_156) (c1 := 0) (s1 := 0) (c2 := 0) (s2 := 0) (by decide +kernel) ?_ (by omega) (by omega)
  refine jT_fR [] 16 (y := 189) (pcN := 57) (dC := 0) (bc1 := 0) (bc2 := 0) (c1 := 0) (c2 := 0) (as := [(1, 0), (1, (-100)), (1, 100)]) (asC := [(1, 0), (1, (-100)), (1, 100)]) (LN := [(4, (0, 0)), (3, (0, 1)), (0, (4, 0)), (1, (0, 4)), (2, (0, 100))]) (stN := []) (hsC := []) (v := (0, 1)) (st2 := [(0, 1)]) (jG_189_40 (d := 0)) (by rfl) (by rfl) (by decide +kernel) (by rfl) (by rfl) (by omega) (by omega) (by omega) (by omega) rfl ?_
  refine jT_advK 18 (pcN := 47) (LN := [(4, (0, 1)), (3, (0, 1)), (0, (4, 0)), (1, (0, 4)), (2, (0, 100))]) (stN := [(0, 29), (4, 1)]) (hsN := jpG_156) (c1 := 0) (s1 := 0) (c2 := 0) (s2 := 0) (by decide +kernel) ?_ (by omega) (by omega)
  refine jT_iald (x := 0) (a := 1) (j := 29) (fs := []) (X := jS0) (by rfl) (by rfl) (by rfl) (by rfl) (by decide +kernel) ?_
  refine jT_eq (LN := [(4, (0, 1)), (3, (0, 1)), (0, (4, 0)), (1, (0, 4)), (2, (0, 100))]) (stN := [(0, 0)]) (hsN := jpG_156) rfl rfl rfl ?_
  refine jT_advK 6 (pcN := 54) (LN := [(4, (0, 1)), (3, (0, 1)), (0, (4, 0)), (1, (0, 4)), (2, (0, 100))]) (stN := [(1, 100), (1, (-100)), (1, 0)]) (hsN := jpG_156) (c1 := 0) (s1 := 0) (c2 := 0) (s2 := 0) (by decide +kernel) ?_ (by omega) (by omega)
  refine jT_fR [] 16 (y := 189) (pcN := 57) (dC := 0) (bc1 := 0) (bc2 := 0) (c1 := 0) (c2 := 0) (as := [(1, 0), (1, (-100)), (1, 100)]) (asC := [(1, 0), (1, (-100)), (1, 100)]) (LN := [(4, (0, 1)), (3, (0, 1)), (0, (4, 0)), (1, (0, 4)), (2, (0, 100))]) (stN := []) (hsC := []) (v := (0, 1)) (st2 := [(0, 1)]) (jG_189_40 (d := 0)) (by rfl) (by rfl) (by decide +kernel) (by rfl) (by rfl) (by omega) (by omega) (by omega) (by omega) rfl ?_
  refine jT_advK 18 (pcN := 47) (LN := [(4, (0, 2)), (3, (0, 1)), (0, (4, 0)), (1, (0, 4)), (2, (0, 100))]) (stN := [(0, 30), (4, 1)]) (hsN := jpG_156) (c1 := 0) (s1 := 0) (c2 := 0) (s2 := 0) (by decide +kernel) ?_ (by omega) (by omega)
  refine jT_iald (x := 0) (a := 1) (j := 30) (fs := []) (X := jS0) (by rfl) (by rfl) (by rfl) (by rfl) (by decide +kernel) ?_
  refine jT_eq (LN := [(4, (0, 2)), (3, (0, 1)), (0, (4, 0)), (1, (0, 4)), (2, (0, 100))]) (stN := [(0, 0)]) (hsN := jpG_156) rfl rfl rfl ?_
  refine jT_advK 6 (pcN := 54) (LN := [(4, (0, 2)), (3, (0, 1)), (0, (4, 0)), (1, (0, 4)), (2, (0, 100))]) (stN := [(1, 100), (1, (-100)), (1, 0)]) (hsN := jpG_156) (c1 := 0) (s1 := 0) (c2 := 0) (s2 := 0) (by decide +kernel) ?_ (by omega) (by omega)
  refine jT_fR [] 16 (y := 189) (pcN := 57) (dC := 0) (bc1 := 0) (bc2 := 0) (c1 := 0) (c2 := 0) (as := [(1, 0), (1, (-100)), (1, 100)]) (asC := [(1, 0), (1, (-100)), (1, 100)]) (LN := [(4, (0, 2)), (3, (0, 1)), (0, (4, 0)), (1, (0, 4)), (2, (0, 100))]) (stN := []) (hsC := []) (v := (0, 1)) (st2 := [(0, 1)]) (jG_189_40 (d := 0)) (by rfl) (by rfl) (by decide +kernel) (by rfl) (by rfl) (by omega) (by omega) (by omega) (by omega) rfl ?_
  refine jT_advK 18 (pcN := 47) (LN := [(4, (0, 3)), (3, (0, 1)), (0, (4, 0)), (1, (0, 4)), (2, (0, 100))]) (stN := [(0, 31), (4, 1)]) (hsN := jpG_156) (c1 := 0) (s1 := 0) (c2 := 0) (s2 := 0) (by decide +kernel) ?_ (by omega) (by omega)
  refine jT_iald (x := 0) (a := 1) (j := 31) (fs := []) (X := jS0) (by rfl) (by rfl) (by rfl) (by rfl) (by decide +kernel) ?_
  refine jT_eq (LN := [(4, (0, 3)), (3, (0, 1)), (0, (4, 0)), (1, (0, 4)), (2, (0, 100))]) (stN := [(0, 0)]) (hsN := jpG_156) rfl rfl rfl ?_
  refine jT_advK 6 (pcN := 54) (LN := [(4, (0, 3)), (3, (0, 1)), (0, (4, 0)), (1, (0, 4)), (2, (0, 100))]) (stN := [(1, 100), (1, (-100)), (1, 0)]) (hsN := jpG_156) (c1 := 0) (s1 := 0) (c2 := 0) (s2 := 0) (by decide +kernel) ?_ (by omega) (by omega)
  refine jT_fR [] 16 (y := 189) (pcN := 57) (dC := 0) (bc1 := 0) (bc2 := 0) (c1 := 0) (c2 := 0) (as := [(1, 0), (1, (-100)), (1, 100)]) (asC := [(1, 0), (1, (-100)), (1, 100)]) (LN := [(4, (0, 3)), (3, (0, 1)), (0, (4, 0)), (1, (0, 4)), (2, (0, 100))]) (stN := []) (hsC := []) (v := (0, 1)) (st2 := [(0, 1)]) (jG_189_40 (d := 0)) (by rfl) (by rfl) (by decide +kernel) (by rfl) (by rfl) (by omega) (by omega) (by omega) (by omega) rfl ?_
  refine jT_advK 18 (pcN := 47) (LN := [(4, (0, 4)), (3, (0, 1)), (0, (4, 0)), (1, (0, 4)), (2, (0, 100))]) (stN := [(0, 32), (4, 1)]) (hsN := jpG_156) (c1 := 0) (s1 := 0) (c2 := 0) (s2 := 0) (by decide +kernel) ?_ (by omega) (by omega)
  refine jT_iald (x := 0) (a := 1) (j := 32) (fs := []) (X := jS0) (by rfl) (by rfl) (by rfl) (by rfl) (by decide +kernel) ?_
  refine jT_eq (LN := [(4, (0, 4)), (3, (0, 1)), (0, (4, 0)), (1, (0, 4)), (2, (0, 100))]) (stN := [(0, 0)]) (hsN := jpG_156) rfl rfl rfl ?_
  refine jT_advK 6 (pcN := 54) (LN := [(4, (0, 4)), (3, (0, 1)), (0, (4, 0)), (1, (0, 4)), (2, (0, 100))]) (stN := [(1, 100), (1, (-100)), (1, 0)]) (hsN := jpG_156) (c1 := 0) (s1 := 0) (c2 := 0) (s2 := 0) (by decide +kernel) ?_ (by omega) (by omega)
  refine jT_fR [] 16 (y := 189) (pcN := 57) (dC := 0) (bc1 := 0) (bc2 := 0) (c1 := 0) (c2 := 0) (as := [(1, 0), (1, (-100)), (1, 100)]) (asC := [(1, 0), (1, (-100)), (1, 100)]) (LN := [(4, (0, 4)), (3, (0, 1)), (0, (4, 0)), (1, (0, 4)), (2, (0, 100))]) (stN := []) (hsC := []) (v := (0, 1)) (st2 := [(0, 1)]) (jG_189_40 (d := 0)) (by rfl) (by rfl) (by decide +kernel) (by rfl) (by rfl) (by omega) (by omega) (by omega) (by omega) rfl ?_
  refine jT_advK 18 (pcN := 47) (LN := [(4, (0, 5)), (3, (0, 1)), (0, (4, 0)), (1, (0, 4)), (2, (0, 100))]) (stN := [(0, 33), (4, 1)]) (hsN := jpG_156) (c1 := 0) (s1 := 0) (c2 := 0) (s2 := 0) (by decide +kernel) ?_ (by omega) (by omega)
  refine jT_iald (x := 0) (a := 1) (j := 33) (fs := []) (X := jS0) (by rfl) (by rfl) (by rfl) (by rfl) (by decide +kernel) ?_
  refine jT_eq (LN := [(4, (0, 5)), (3, (0, 1)), (0, (4, 0)), (1, (0, 4)), (2, (0, 100))]) (stN := [(0, 0)]) (hsN := jpG_156) rfl rfl rfl ?_
  refine jT_advK 6 (pcN := 54) (LN := [(4, (0, 5)), (3, (0, 1)), (0, (4, 0)), (1, (0, 4)), (2, (0, 100))]) (stN := [(1, 100), (1, (-100)), (1, 0)]) (hsN := jpG_156) (c1 := 0) (s1 := 0) (c2 := 0) (s2 := 0) (by decide +kernel) ?_ (by omega) (by omega)
  refine jT_fR [] 16 (y := 189) (pcN := 57) (dC := 0) (bc1 := 0) (bc2 := 0) (c1 := 0) (c2 := 0) (as := [(1, 0), (1, (-100)), (1, 100)]) (asC := [(1, 0), (1, (-100)), (1, 100)]) (LN := [(4, (0, 5)), (3, (0, 1)), (0, (4, 0)), (1, (0, 4)), (2, (0, 100))]) (stN := []) (hsC := []) (v := (0, 1)) (st2 := [(0, 1)]) (jG_189_40 (d := 0)) (by rfl) (by rfl) (by decide +kernel) (by rfl) (by rfl) (by omega) (by omega) (by omega) (by omega) rfl ?_
  refine jT_advK 10 (pcN := 73) (LN := [(4, (0, 6)), (3, (0, 1)), (0, (4, 0)), (1, (0, 4)), (2, (0, 100))]) (stN := [(0, 1)]) (hsN := jpG_156) (c1 := 0) (s1 := 0) (c2 := 0) (s2 := 0) (by decide +kernel) ?_ (by omega) (by omega)
  exact jT_ret rfl (by decide) (by show 16 ≤ 16; omega) (by omega) (by omega) ⟨rfl, rfl, rfl⟩
theorem jG_189_62 {xs : List Int} {d : Nat} : jT xs d 189 0 0 [(0, (1, 5)), (2, (1, 0)), (4, (1, 7))] [] [] 0 0 (fun k v hsN => k = 0 ∧ v = (0, 1) ∧ hsN = [] ++ []) := by
  refine jT_advK 10 (pcN := 18) (LN := [(0, (1, 5)), (2, (1, 0)), (4, (1, 7))]) (stN := [(0, 1)]) (hsN := []) (c1 := 0) (s1 := 0) (c2 := 0) (s2 := 0) (by decide +kernel) ?_ (by omega) (by omega)
  exact jT_ret rfl (by decide) (by show 0 ≤ 0; omega) (by omega) (by omega) ⟨rfl, rfl, rfl⟩
theorem jG_188_63 {xs : List Int} {d : Nat} : jT xs (d + 1) 188 0 0 [(0, (0, 5))] [] [] 0 0 (fun k v hsN => k = 0 ∧ v = (0, 1) ∧ hsN = [] ++ []) := by
  refine jT_advK 4 (pcN := 6) (LN := [(0, (0, 5))]) (stN := [(1, 7), (1, 0), (1, 5)]) (hsN := []) (c1 := 0) (s1 := 0) (c2 := 0) (s2 := 0) (by decide +kernel) ?_ (by omega) (by omega)
  refine jT_fR [] 0 (y := 189) (pcN := 9) (dC := 0) (bc1 := 0) (bc2 := 0) (c1 := 0) (c2 := 0) (as := [(1, 5), (1, 0), (1, 7)]) (asC := [(1, 5), (1, 0), (1, 7)]) (LN := [(0, (0, 5))]) (stN := []) (hsC := []) (v := (0, 1)) (st2 := [(0, 1)]) (jG_189_62 (d := 0)) (by rfl) (by rfl) (by decide +kernel) (by rfl) (by rfl) (by omega) (by omega) (by omega) (by omega) rfl ?_
  exact jT_ret rfl (by decide) (by show 0 ≤ 0; omega) (by omega) (by omega) ⟨rfl, rfl, rfl⟩
theorem jG_306_64 {xs : List Int} {d : Nat} {r1 : Int} (h_r1 : 1 ≤ r1 ∧ r1 ≤ 255) (g_0 : (((Int32.ofInt r1 >>> (Int32.ofInt 5 &&& 31)).toInt) % 2) - 1 < 0) : jT xs (d + 2) 306 0 0 [(0, (0, r1)), (1, (0, 5))] [] [] 0 0 (fun k v hsN => k = 0 ∧ v = (0, 0) ∧ hsN = [] ++ []) := by
  refine jT_xiload_n (v := (0, 5)) (pcN := 1) jIG_306_0 rfl rfl rfl ?_
  refine jT_fR [] 0 (y := 188) (pcN := 4) (dC := 1) (bc1 := 0) (bc2 := 0) (c1 := 0) (c2 := 0) (as := [(0, 5)]) (asC := [(0, 5)]) (LN := [(0, (0, r1)), (1, (0, 5))]) (stN := []) (hsC := []) (v := (0, 1)) (st2 := [(0, 1)]) (jG_188_63 (d := 0)) (by rfl) (by rfl) (by decide +kernel) (by rfl) (by rfl) (by omega) (by omega) (by omega) (by omega) rfl ?_
  refine jT_xifF (t := 20) (pcN := 7) jIG_306_4 rfl (by decide +kernel) rfl rfl ?_
  refine jT_xiload_n (v := (0, r1)) (pcN := 8) jIG_306_7 rfl rfl rfl ?_
  refine jT_xiload_n (v := (0, 5)) (pcN := 9) jIG_306_8 rfl rfl rfl ?_
  refine jT_ishr (x := r1) (y := 5) (z := (Int32.ofInt r1 >>> (Int32.ofInt 5 &&& 31)).toInt) (by rfl) (by rfl) rfl ?_
  have hb_q1 : (-2147483648) ≤ (Int32.ofInt r1 >>> (Int32.ofInt 5 &&& 31)).toInt ∧ (Int32.ofInt r1 >>> (Int32.ofInt 5 &&& 31)).toInt ≤ 2147483647 := ⟨Int32.le_toInt _, Int.le_of_lt_add_one (Int32.toInt_lt _)⟩
  generalize hq_q1 : (Int32.ofInt r1 >>> (Int32.ofInt 5 &&& 31)).toInt = q1 at hb_q1 g_0 ⊢
  refine jT_xiconst (k := 1) (pcN := 11) jIG_306_10 rfl ?_
  refine jT_iand (x := q1) (y := 1) (z := q1 % 2) (by rfl) (by rfl) (jiand_1 _) ?_
  have hb_q2 : 0 ≤ q1 % 2 ∧ q1 % 2 ≤ 1 := ⟨by omega, by omega⟩
  generalize hq_q2 : q1 % 2 = q2 at hb_q2 g_0 ⊢
  refine jT_xiconst (k := 1) (pcN := 13) jIG_306_12 rfl ?_
  refine jT_icT (a := q2) (b := 1) (t := 20) (by rfl) (by rfl) (by rfl) (jw_idd (by omega) (by omega)) (jw_idd (by omega) (by omega)) (by simp only [jcP] <;> omega) ?_
  refine jT_xiconst (k := 0) (pcN := 21) jIG_306_20 rfl ?_
  subst hq_q2
  subst hq_q1
  exact jT_ret rfl (by decide) (by show 0 ≤ 0; omega) (by omega) (by omega) ⟨rfl, rfl, rfl⟩
theorem jG_306_65 {xs : List Int} {d : Nat} {r1 : Int} (h_r1 : 1 ≤ r1 ∧ r1 ≤ 255) (g_0 : 0 ≤ (((Int32.ofInt r1 >>> (Int32.ofInt 5 &&& 31)).toInt) % 2) - 1) : jT xs (d + 2) 306 0 0 [(0, (0, r1)), (1, (0, 5))] [] [] 0 0 (fun k v hsN => k = 0 ∧ v = (0, 1) ∧ hsN = [] ++ []) := by
  refine jT_xiload_n (v := (0, 5)) (pcN := 1) jIG_306_0 rfl rfl rfl ?_
  refine jT_fR [] 0 (y := 188) (pcN := 4) (dC := 1) (bc1 := 0) (bc2 := 0) (c1 := 0) (c2 := 0) (as := [(0, 5)]) (asC := [(0, 5)]) (LN := [(0, (0, r1)), (1, (0, 5))]) (stN := []) (hsC := []) (v := (0, 1)) (st2 := [(0, 1)]) (jG_188_63 (d := 0)) (by rfl) (by rfl) (by decide +kernel) (by rfl) (by rfl) (by omega) (by omega) (by omega) (by omega) rfl ?_
  refine jT_xifF (t := 20) (pcN := 7) jIG_306_4 rfl (by decide +kernel) rfl rfl ?_
  refine jT_xiload_n (v := (0, r1)) (pcN := 8) jIG_306_7 rfl rfl rfl ?_
  refine jT_xiload_n (v := (0, 5)) (pcN := 9) jIG_306_8 rfl rfl rfl ?_
  refine jT_ishr (x := r1) (y := 5) (z := (Int32.ofInt r1 >>> (Int32.ofInt 5 &&& 31)).toInt) (by rfl) (by rfl) rfl ?_
  have hb_q1 : (-2147483648) ≤ (Int32.ofInt r1 >>> (Int32.ofInt 5 &&& 31)).toInt ∧ (Int32.ofInt r1 >>> (Int32.ofInt 5 &&& 31)).toInt ≤ 2147483647 := ⟨Int32.le_toInt _, Int.le_of_lt_add_one (Int32.toInt_lt _)⟩
  generalize hq_q1 : (Int32.ofInt r1 >>> (Int32.ofInt 5 &&& 31)).toInt = q1 at hb_q1 g_0 ⊢
  refine jT_xiconst (k := 1) (pcN := 11) jIG_306_10 rfl ?_
  refine jT_iand (x := q1) (y := 1) (z := q1 % 2) (by rfl) (by rfl) (jiand_1 _) ?_
  have hb_q2 : 0 ≤ q1 % 2 ∧ q1 % 2 ≤ 1 := ⟨by omega, by omega⟩
  generalize hq_q2 : q1 % 2 = q2 at hb_q2 g_0 ⊢
  refine jT_xiconst (k := 1) (pcN := 13) jIG_306_12 rfl ?_
  refine jT_icF (a := q2) (b := 1) (t := 20) (by rfl) (by rfl) (by rfl) (jw_idd (by omega) (by omega)) (jw_idd (by omega) (by omega)) (by simp only [jcP] <;> omega) ?_
  refine jT_xiconst (k := 1) (pcN := 17) jIG_306_16 rfl ?_
  refine jT_xgoto (pcN := 21) jIG_306_17 rfl ?_
  subst hq_q2
  subst hq_q1
  exact jT_ret rfl (by decide) (by show 0 ≤ 0; omega) (by omega) (by omega) ⟨rfl, rfl, rfl⟩
theorem jG_267_66 {xs : List Int} {d : Nat} : jT xs (d + 1) 267 16 0 [(0, (4, 0)), (1, (0, 5)), (2, (0, 100))] [] jpG_156 0 0 (fun k v hsN => k = 0 ∧ v = (0, 1) ∧ hsN = jpG_156 ++ []) := by
  refine jT_advK 7 (pcN := 11) (LN := [(0, (4, 0)), (1, (0, 5)), (2, (0, 100))]) (stN := [(0, 41), (4, 1)]) (hsN := jpG_156) (c1 := 0) (s1 := 0) (c2 := 0) (s2 := 0) (by decide +kernel) ?_ (by omega) (by omega)
  refine jT_iald (x := 1) (a := 1) (j := 41) (fs := []) (X := jS0) (by rfl) (by rfl) (by rfl) (by rfl) (by decide +kernel) ?_
  refine jT_eq (LN := [(0, (4, 0)), (1, (0, 5)), (2, (0, 100))]) (stN := [(0, 1)]) (hsN := jpG_156) rfl rfl rfl ?_
  refine jT_advK 19 (pcN := 47) (LN := [(4, (0, 0)), (3, (0, 1)), (0, (4, 0)), (1, (0, 5)), (2, (0, 100))]) (stN := [(0, 35), (4, 1)]) (hsN := jpG_156) (c1 := 0) (s1 := 0) (c2 := 0) (s2 := 0) (by decide +kernel) ?_ (by omega) (by omega)
  refine jT_iald (x := 0) (a := 1) (j := 35) (fs := []) (X := jS0) (by rfl) (by rfl) (by rfl) (by rfl) (by decide +kernel) ?_
  refine jT_eq (LN := [(4, (0, 0)), (3, (0, 1)), (0, (4, 0)), (1, (0, 5)), (2, (0, 100))]) (stN := [(0, 0)]) (hsN := jpG_156) rfl rfl rfl ?_
  refine jT_advK 6 (pcN := 54) (LN := [(4, (0, 0)), (3, (0, 1)), (0, (4, 0)), (1, (0, 5)), (2, (0, 100))]) (stN := [(1, 100), (1, (-100)), (1, 0)]) (hsN := jpG_156) (c1 := 0) (s1 := 0) (c2 := 0) (s2 := 0) (by decide +kernel) ?_ (by omega) (by omega)
  refine jT_fR [] 16 (y := 189) (pcN := 57) (dC := 0) (bc1 := 0) (bc2 := 0) (c1 := 0) (c2 := 0) (as := [(1, 0), (1, (-100)), (1, 100)]) (asC := [(1, 0), (1, (-100)), (1, 100)]) (LN := [(4, (0, 0)), (3, (0, 1)), (0, (4, 0)), (1, (0, 5)), (2, (0, 100))]) (stN := []) (hsC := []) (v := (0, 1)) (st2 := [(0, 1)]) (jG_189_40 (d := 0)) (by rfl) (by rfl) (by decide +kernel) (by rfl) (by rfl) (by omega) (by omega) (by omega) (by omega) rfl ?_
  refine jT_advK 18 (pcN := 47) (LN := [(4, (0, 1)), (3, (0, 1)), (0, (4, 0)), (1, (0, 5)), (2, (0, 100))]) (stN := [(0, 36), (4, 1)]) (hsN := jpG_156) (c1 := 0) (s1 := 0) (c2 := 0) (s2 := 0) (by decide +kernel) ?_ (by omega) (by omega)
  refine jT_iald (x := 0) (a := 1) (j := 36) (fs := []) (X := jS0) (by rfl) (by rfl) (by rfl) (by rfl) (by decide +kernel) ?_
  refine jT_eq (LN := [(4, (0, 1)), (3, (0, 1)), (0, (4, 0)), (1, (0, 5)), (2, (0, 100))]) (stN := [(0, 0)]) (hsN := jpG_156) rfl rfl rfl ?_
  refine jT_advK 6 (pcN := 54) (LN := [(4, (0, 1)), (3, (0, 1)), (0, (4, 0)), (1, (0, 5)), (2, (0, 100))]) (stN := [(1, 100), (1, (-100)), (1, 0)]) (hsN := jpG_156) (c1 := 0) (s1 := 0) (c2 := 0) (s2 := 0) (by decide +kernel) ?_ (by omega) (by omega)
  refine jT_fR [] 16 (y := 189) (pcN := 57) (dC := 0) (bc1 := 0) (bc2 := 0) (c1 := 0) (c2 := 0) (as := [(1, 0), (1, (-100)), (1, 100)]) (asC := [(1, 0), (1, (-100)), (1, 100)]) (LN := [(4, (0, 1)), (3, (0, 1)), (0, (4, 0)), (1, (0, 5)), (2, (0, 100))]) (stN := []) (hsC := []) (v := (0, 1)) (st2 := [(0, 1)]) (jG_189_40 (d := 0)) (by rfl) (by rfl) (by decide +kernel) (by rfl) (by rfl) (by omega) (by omega) (by omega) (by omega) rfl ?_
  refine jT_advK 18 (pcN := 47) (LN := [(4, (0, 2)), (3, (0, 1)), (0, (4, 0)), (1, (0, 5)), (2, (0, 100))]) (stN := [(0, 37), (4, 1)]) (hsN := jpG_156) (c1 := 0) (s1 := 0) (c2 := 0) (s2 := 0) (by decide +kernel) ?_ (by omega) (by omega)
  refine jT_iald (x := 0) (a := 1) (j := 37) (fs := []) (X := jS0) (by rfl) (by rfl) (by rfl) (by rfl) (by decide +kernel) ?_
  refine jT_eq (LN := [(4, (0, 2)), (3, (0, 1)), (0, (4, 0)), (1, (0, 5)), (2, (0, 100))]) (stN := [(0, 0)]) (hsN := jpG_156) rfl rfl rfl ?_
  refine jT_advK 6 (pcN := 54) (LN := [(4, (0, 2)), (3, (0, 1)), (0, (4, 0)), (1, (0, 5)), (2, (0, 100))]) (stN := [(1, 100), (1, (-100)), (1, 0)]) (hsN := jpG_156) (c1 := 0) (s1 := 0) (c2 := 0) (s2 := 0) (by decide +kernel) ?_ (by omega) (by omega)
  refine jT_fR [] 16 (y := 189) (pcN := 57) (dC := 0) (bc1 := 0) (bc2 := 0) (c1 := 0) (c2 := 0) (as := [(1, 0), (1, (-100)), (1, 100)]) (asC := [(1, 0), (1, (-100)), (1, 100)]) (LN := [(4, (0, 2)), (3, (0, 1)), (0, (4, 0)), (1, (0, 5)), (2, (0, 100))]) (stN := []) (hsC := []) (v := (0, 1)) (st2 := [(0, 1)]) (jG_189_40 (d := 0)) (by rfl) (by rfl) (by decide +kernel) (by rfl) (by rfl) (by omega) (by omega) (by omega) (by omega) rfl ?_
  refine jT_advK 18 (pcN := 47) (LN := [(4, (0, 3)), (3, (0, 1)), (0, (4, 0)), (1, (0, 5)), (2, (0, 100))]) (stN := [(0, 38), (4, 1)]) (hsN := jpG_156) (c1 := 0) (s1 := 0) (c2 := 0) (s2 := 0) (by decide +kernel) ?_ (by omega) (by omega)
  refine jT_iald (x := 0) (a := 1) (j := 38) (fs := []) (X := jS0) (by rfl) (by rfl) (by rfl) (by rfl) (by decide +kernel) ?_
  refine jT_eq (LN := [(4, (0, 3)), (3, (0, 1)), (0, (4, 0)), (1, (0, 5)), (2, (0, 100))]) (stN := [(0, 0)]) (hsN := jpG_156) rfl rfl rfl ?_
  refine jT_advK 6 (pcN := 54) (LN := [(4, (0, 3)), (3, (0, 1)), (0, (4, 0)), (1, (0, 5)), (2, (0, 100))]) (stN := [(1, 100), (1, (-100)), (1, 0)]) (hsN := jpG_156) (c1 := 0) (s1 := 0) (c2 := 0) (s2 := 0) (by decide +kernel) ?_ (by omega) (by omega)
  refine jT_fR [] 16 (y := 189) (pcN := 57) (dC := 0) (bc1 := 0) (bc2 := 0) (c1 := 0) (c2 := 0) (as := [(1, 0), (1, (-100)), (1, 100)]) (asC := [(1, 0), (1, (-100)), (1, 100)]) (LN := [(4, (0, 3)), (3, (0, 1)), (0, (4, 0)), (1, (0, 5)), (2, (0, 100))]) (stN := []) (hsC := []) (v := (0, 1)) (st2 := [(0, 1)]) (jG_189_40 (d := 0)) (by rfl) (by rfl) (by decide +kernel) (by rfl) (by rfl) (by omega) (by omega) (by omega) (by omega) rfl ?_
  refine jT_advK 18 (pcN := 47) (LN := [(4, (0, 4)), (3, (0, 1)), (0, (4, 0)), (1, (0, 5)), (2, (0, 100))]) (stN := [(0, 39), (4, 1)]) (hsN := jpG_156) (c1 := 0) (s1 := 0) (c2 := 0) (s2 := 0) (by decide +kernel) ?_ (by omega) (by omega)
  refine jT_iald (x := 0) (a := 1) (j := 39) (fs := []) (X := jS0) (by rfl) (by rfl) (by rfl) (by rfl) (by decide +kernel) ?_
  refine jT_eq (LN := [(4, (0, 4)), (3, (0, 1)), (0, (4, 0)), (1, (0, 5)), (2, (0, 100))]) (stN := [(0, 0)]) (hsN := jpG_156) rfl rfl rfl ?_
  refine jT_advK 6 (pcN := 54) (LN := [(4, (0, 4)), (3, (0, 1)), (0, (4, 0)), (1, (0, 5)), (2, (0, 100))]) (stN := [(1, 100), (1, (-100)), (1, 0)]) (hsN := jpG_156) (c1 := 0) (s1 := 0) (c2 := 0) (s2 := 0) (by decide +kernel) ?_ (by omega) (by omega)
  refine jT_fR [] 16 (y := 189) (pcN := 57) (dC := 0) (bc1 := 0) (bc2 := 0) (c1 := 0) (c2 := 0) (as := [(1, 0), (1, (-100)), (1, 100)]) (asC := [(1, 0), (1, (-100)), (1, 100)]) (LN := [(4, (0, 4)), (3, (0, 1)), (0, (4, 0)), (1, (0, 5)), (2, (0, 100))]) (stN := []) (hsC := []) (v := (0, 1)) (st2 := [(0, 1)]) (jG_189_40 (d := 0)) (by rfl) (by rfl) (by decide +kernel) (by rfl) (by rfl) (by omega) (by omega) (by omega) (by omega) rfl ?_
  refine jT_advK 18 (pcN := 47) (LN := [(4, (0, 5)), (3, (0, 1)), (0, (4, 0)), (1, (0, 5)), (2, (0, 100))]) (stN := [(0, 40), (4, 1)]) (hsN := jpG_156) (c1 := 0) (s1 := 0) (c2 := 0) (s2 := 0) (by decide +kernel) ?_ (by omega) (by omega)
  refine jT_iald (x := 0) (a := 1) (j := 40) (fs := []) (X := jS0) (by rfl) (by rfl) (by rfl) (by rfl) (by decide +kernel) ?_
  refine jT_eq (LN := [(4, (0, 5)), (3, (0, 1)), (0, (4, 0)), (1, (0, 5)), (2, (0, 100))]) (stN := [(0, 0)]) (hsN := jpG_156) rfl rfl rfl ?_
  refine jT_advK 6 (pcN := 54) (LN := [(4, (0, 5)), (3, (0, 1)), (0, (4, 0)), (1, (0, 5)), (2, (0, 100))]) (stN := [(1, 100), (1, (-100)), (1, 0)]) (hsN := jpG_156) (c1 := 0) (s1 := 0) (c2 := 0) (s2 := 0) (by decide +kernel) ?_ (by omega) (by omega)
  refine jT_fR [] 16 (y := 189) (pcN := 57) (dC := 0) (bc1 := 0) (bc2 := 0) (c1 := 0) (c2 := 0) (as := [(1, 0), (1, (-100)), (1, 100)]) (asC := [(1, 0), (1, (-100)), (1, 100)]) (LN := [(4, (0, 5)), (3, (0, 1)), (0, (4, 0)), (1, (0, 5)), (2, (0, 100))]) (stN := []) (hsC := []) (v := (0, 1)) (st2 := [(0, 1)]) (jG_189_40 (d := 0)) (by rfl) (by rfl) (by decide +kernel) (by rfl) (by rfl) (by omega) (by omega) (by omega) (by omega) rfl ?_
  refine jT_advK 10 (pcN := 73) (LN := [(4, (0, 6)), (3, (0, 1)), (0, (4, 0)), (1, (0, 5)), (2, (0, 100))]) (stN := [(0, 1)]) (hsN := jpG_156) (c1 := 0) (s1 := 0) (c2 := 0) (s2 := 0) (by decide +kernel) ?_ (by omega) (by omega)
  exact jT_ret rfl (by decide) (by show 16 ≤ 16; omega) (by omega) (by omega) ⟨rfl, rfl, rfl⟩
theorem jG_189_67 {xs : List Int} {d : Nat} : jT xs d 189 0 0 [(0, (1, 6)), (2, (1, 0)), (4, (1, 7))] [] [] 0 0 (fun k v hsN => k = 0 ∧ v = (0, 1) ∧ hsN = [] ++ []) := by
  refine jT_advK 10 (pcN := 18) (LN := [(0, (1, 6)), (2, (1, 0)), (4, (1, 7))]) (stN := [(0, 1)]) (hsN := []) (c1 := 0) (s1 := 0) (c2 := 0) (s2 := 0) (by decide +kernel) ?_ (by omega) (by omega)
  exact jT_ret rfl (by decide) (by show 0 ≤ 0; omega) (by omega) (by omega) ⟨rfl, rfl, rfl⟩
theorem jG_188_68 {xs : List Int} {d : Nat} : jT xs (d + 1) 188 0 0 [(0, (0, 6))] [] [] 0 0 (fun k v hsN => k = 0 ∧ v = (0, 1) ∧ hsN = [] ++ []) := by
  refine jT_advK 4 (pcN := 6) (LN := [(0, (0, 6))]) (stN := [(1, 7), (1, 0), (1, 6)]) (hsN := []) (c1 := 0) (s1 := 0) (c2 := 0) (s2 := 0) (by decide +kernel) ?_ (by omega) (by omega)
  refine jT_fR [] 0 (y := 189) (pcN := 9) (dC := 0) (bc1 := 0) (bc2 := 0) (c1 := 0) (c2 := 0) (as := [(1, 6), (1, 0), (1, 7)]) (asC := [(1, 6), (1, 0), (1, 7)]) (LN := [(0, (0, 6))]) (stN := []) (hsC := []) (v := (0, 1)) (st2 := [(0, 1)]) (jG_189_67 (d := 0)) (by rfl) (by rfl) (by decide +kernel) (by rfl) (by rfl) (by omega) (by omega) (by omega) (by omega) rfl ?_
  exact jT_ret rfl (by decide) (by show 0 ≤ 0; omega) (by omega) (by omega) ⟨rfl, rfl, rfl⟩
theorem jG_306_69 {xs : List Int} {d : Nat} {r1 : Int} (h_r1 : 1 ≤ r1 ∧ r1 ≤ 255) (g_0 : (((Int32.ofInt r1 >>> (Int32.ofInt 6 &&& 31)).toInt) % 2) - 1 < 0) : jT xs (d + 2) 306 0 0 [(0, (0, r1)), (1, (0, 6))] [] [] 0 0 (fun k v hsN => k = 0 ∧ v = (0, 0) ∧ hsN = [] ++ []) := by
  refine jT_xiload_n (v := (0, 6)) (pcN := 1) jIG_306_0 rfl rfl rfl ?_
  refine jT_fR [] 0 (y := 188) (pcN := 4) (dC := 1) (bc1 := 0) (bc2 := 0) (c1 := 0) (c2 := 0) (as := [(0, 6)]) (asC := [(0, 6)]) (LN := [(0, (0, r1)), (1, (0, 6))]) (stN := []) (hsC := []) (v := (0, 1)) (st2 := [(0, 1)]) (jG_188_68 (d := 0)) (by rfl) (by rfl) (by decide +kernel) (by rfl) (by rfl) (by omega) (by omega) (by omega) (by omega) rfl ?_
  refine jT_xifF (t := 20) (pcN := 7) jIG_306_4 rfl (by decide +kernel) rfl rfl ?_
  refine jT_xiload_n (v := (0, r1)) (pcN := 8) jIG_306_7 rfl rfl rfl ?_
  refine jT_xiload_n (v := (0, 6)) (pcN := 9) jIG_306_8 rfl rfl rfl ?_
  refine jT_ishr (x := r1) (y := 6) (z := (Int32.ofInt r1 >>> (Int32.ofInt 6 &&& 31)).toInt) (by rfl) (by rfl) rfl ?_
  have hb_q1 : (-2147483648) ≤ (Int32.ofInt r1 >>> (Int32.ofInt 6 &&& 31)).toInt ∧ (Int32.ofInt r1 >>> (Int32.ofInt 6 &&& 31)).toInt ≤ 2147483647 := ⟨Int32.le_toInt _, Int.le_of_lt_add_one (Int32.toInt_lt _)⟩
  generalize hq_q1 : (Int32.ofInt r1 >>> (Int32.ofInt 6 &&& 31)).toInt = q1 at hb_q1 g_0 ⊢
  refine jT_xiconst (k := 1) (pcN := 11) jIG_306_10 rfl ?_
  refine jT_iand (x := q1) (y := 1) (z := q1 % 2) (by rfl) (by rfl) (jiand_1 _) ?_
  have hb_q2 : 0 ≤ q1 % 2 ∧ q1 % 2 ≤ 1 := ⟨by omega, by omega⟩
  generalize hq_q2 : q1 % 2 = q2 at hb_q2 g_0 ⊢
  refine jT_xiconst (k := 1) (pcN := 13) jIG_306_12 rfl ?_
  refine jT_icT (a := q2) (b := 1) (t := 20) (by rfl) (by rfl) (by rfl) (jw_idd (by omega) (by omega)) (jw_idd (by omega) (by omega)) (by simp only [jcP] <;> omega) ?_
  refine jT_xiconst (k := 0) (pcN := 21) jIG_306_20 rfl ?_
  subst hq_q2
  subst hq_q1
  exact jT_ret rfl (by decide) (by show 0 ≤ 0; omega) (by omega) (by omega) ⟨rfl, rfl, rfl⟩
theorem jG_306_70 {xs : List Int} {d : Nat} {r1 : Int} (h_r1 : 1 ≤ r1 ∧ r1 ≤ 255) (g_0 : 0 ≤ (((Int32.ofInt r1 >>> (Int32.ofInt 6 &&& 31)).toInt) % 2) - 1) : jT xs (d + 2) 306 0 0 [(0, (0, r1)), (1, (0, 6))] [] [] 0 0 (fun k v hsN => k = 0 ∧ v = (0, 1) ∧ hsN = [] ++ []) := by
  refine jT_xiload_n (v := (0, 6)) (pcN := 1) jIG_306_0 rfl rfl rfl ?_
  refine jT_fR [] 0 (y := 188) (pcN := 4) (dC := 1) (bc1 := 0) (bc2 := 0) (c1 := 0) (c2 := 0) (as := [(0, 6)]) (asC := [(0, 6)]) (LN := [(0, (0, r1)), (1, (0, 6))]) (stN := []) (hsC := []) (v := (0, 1)) (st2 := [(0, 1)]) (jG_188_68 (d := 0)) (by rfl) (by rfl) (by decide +kernel) (by rfl) (by rfl) (by omega) (by omega) (by omega) (by omega) rfl ?_
  refine jT_xifF (t := 20) (pcN := 7) jIG_306_4 rfl (by decide +kernel) rfl rfl ?_
  refine jT_xiload_n (v := (0, r1)) (pcN := 8) jIG_306_7 rfl rfl rfl ?_
  refine jT_xiload_n (v := (0, 6)) (pcN := 9) jIG_306_8 rfl rfl rfl ?_
  refine jT_ishr (x := r1) (y := 6) (z := (Int32.ofInt r1 >>> (Int32.ofInt 6 &&& 31)).toInt) (by rfl) (by rfl) rfl ?_
  have hb_q1 : (-2147483648) ≤ (Int32.ofInt r1 >>> (Int32.ofInt 6 &&& 31)).toInt ∧ (Int32.ofInt r1 >>> (Int32.ofInt 6 &&& 31)).toInt ≤ 2147483647 := ⟨Int32.le_toInt _, Int.le_of_lt_add_one (Int32.toInt_lt _)⟩
  generalize hq_q1 : (Int32.ofInt r1 >>> (Int32.ofInt 6 &&& 31)).toInt = q1 at hb_q1 g_0 ⊢
  refine jT_xiconst (k := 1) (pcN := 11) jIG_306_10 rfl ?_
  refine jT_iand (x := q1) (y := 1) (z := q1 % 2) (by rfl) (by rfl) (jiand_1 _) ?_
  have hb_q2 : 0 ≤ q1 % 2 ∧ q1 % 2 ≤ 1 := ⟨by omega, by omega⟩
  generalize hq_q2 : q1 % 2 = q2 at hb_q2 g_0 ⊢
  refine jT_xiconst (k := 1) (pcN := 13) jIG_306_12 rfl ?_
  refine jT_icF (a := q2) (b := 1) (t := 20) (by rfl) (by rfl) (by rfl) (jw_idd (by omega) (by omega)) (jw_idd (by omega) (by omega)) (by simp only [jcP] <;> omega) ?_
  refine jT_xiconst (k := 1) (pcN := 17) jIG_306_16 rfl ?_
  refine jT_xgoto (pcN := 21) jIG_306_17 rfl ?_
  subst hq_q2
  subst hq_q1
  exact jT_ret rfl (by decide) (by show 0 ≤ 0; omega) (by omega) (by omega) ⟨rfl, rfl, rfl⟩
theorem jG_267_71 {xs : List Int} {d : Nat} : jT xs (d + 1) 267 16 0 [(0, (4, 0)), (1, (0, 6)), (2, (0, 100))] [] jpG_156 0 0 (fun k v hsN => k = 0 ∧ v = (0, 1) ∧ hsN = jpG_156 ++ []) := by
  refine jT_advK 7 (pcN := 11) (LN := [(0, (4, 0)), (1, (0, 6)), (2, (0, 100))]) (stN := [(0, 48), (4, 1)]) (hsN := jpG_156) (c1 := 0) (s1 := 0) (c2 := 0) (s2 := 0) (by decide +kernel) ?_ (by omega) (by omega)
  refine jT_iald (x := 1) (a := 1) (j := 48) (fs := []) (X := jS0) (by rfl) (by rfl) (by rfl) (by rfl) (by decide +kernel) ?_
  refine jT_eq (LN := [(0, (4, 0)), (1, (0, 6)), (2, (0, 100))]) (stN := [(0, 1)]) (hsN := jpG_156) rfl rfl rfl ?_
  refine jT_advK 19 (pcN := 47) (LN := [(4, (0, 0)), (3, (0, 1)), (0, (4, 0)), (1, (0, 6)), (2, (0, 100))]) (stN := [(0, 42), (4, 1)]) (hsN := jpG_156) (c1 := 0) (s1 := 0) (c2 := 0) (s2 := 0) (by decide +kernel) ?_ (by omega) (by omega)
  refine jT_iald (x := 0) (a := 1) (j := 42) (fs := []) (X := jS0) (by rfl) (by rfl) (by rfl) (by rfl) (by decide +kernel) ?_
  refine jT_eq (LN := [(4, (0, 0)), (3, (0, 1)), (0, (4, 0)), (1, (0, 6)), (2, (0, 100))]) (stN := [(0, 0)]) (hsN := jpG_156) rfl rfl rfl ?_
  refine jT_advK 6 (pcN := 54) (LN := [(4, (0, 0)), (3, (0, 1)), (0, (4, 0)), (1, (0, 6)), (2, (0, 100))]) (stN := [(1, 100), (1, (-100)), (1, 0)]) (hsN := jpG_156) (c1 := 0) (s1 := 0) (c2 := 0) (s2 := 0) (by decide +kernel) ?_ (by omega) (by omega)
  refine jT_fR [] 16 (y := 189) (pcN := 57) (dC := 0) (bc1 := 0) (bc2 := 0) (c1 := 0) (c2 := 0) (as := [(1, 0), (1, (-100)), (1, 100)]) (asC := [(1, 0), (1, (-100)), (1, 100)]) (LN := [(4, (0, 0)), (3, (0, 1)), (0, (4, 0)), (1, (0, 6)), (2, (0, 100))]) (stN := []) (hsC := []) (v := (0, 1)) (st2 := [(0, 1)]) (jG_189_40 (d := 0)) (by rfl) (by rfl) (by decide +kernel) (by rfl) (by rfl) (by omega) (by omega) (by omega) (by omega) rfl ?_
  refine jT_advK 18 (pcN := 47) (LN := [(4, (0, 1)), (3, (0, 1)), (0, (4, 0)), (1, (0, 6)), (2, (0, 100))]) (stN := [(0, 43), (4, 1)]) (hsN := jpG_156) (c1 := 0) (s1 := 0) (c2 := 0) (s2 := 0) (by decide +kernel) ?_ (by omega) (by omega)
  refine jT_iald (x := 0) (a := 1) (j := 43) (fs := []) (X := jS0) (by rfl) (by rfl) (by rfl) (by rfl) (by decide +kernel) ?_
  refine jT_eq (LN := [(4, (0, 1)), (3, (0, 1)), (0, (4, 0)), (1, (0, 6)), (2, (0, 100))]) (stN := [(0, 0)]) (hsN := jpG_156) rfl rfl rfl ?_
  refine jT_advK 6 (pcN := 54) (LN := [(4, (0, 1)), (3, (0, 1)), (0, (4, 0)), (1, (0, 6)), (2, (0, 100))]) (stN := [(1, 100), (1, (-100)), (1, 0)]) (hsN := jpG_156) (c1 := 0) (s1 := 0) (c2 := 0) (s2 := 0) (by decide +kernel) ?_ (by omega) (by omega)
  refine jT_fR [] 16 (y := 189) (pcN := 57) (dC := 0) (bc1 := 0) (bc2 := 0) (c1 := 0) (c2 := 0) (as := [(1, 0), (1, (-100)), (1, 100)]) (asC := [(1, 0), (1, (-100)), (1, 100)]) (LN := [(4, (0, 1)), (3, (0, 1)), (0, (4, 0)), (1, (0, 6)), (2, (0, 100))]) (stN := []) (hsC := []) (v := (0, 1)) (st2 := [(0, 1)]) (jG_189_40 (d := 0)) (by rfl) (by rfl) (by decide +kernel) (by rfl) (by rfl) (by omega) (by omega) (by omega) (by omega) rfl ?_
  refine jT_advK 18 (pcN := 47) (LN := [(4, (0, 2)), (3, (0, 1)), (0, (4, 0)), (1, (0, 6)), (2, (0, 100))]) (stN := [(0, 44), (4, 1)]) (hsN := jpG_156) (c1 := 0) (s1 := 0) (c2 := 0) (s2 := 0) (by decide +kernel) ?_ (by omega) (by omega)
  refine jT_iald (x := 0) (a := 1) (j := 44) (fs := []) (X := jS0) (by rfl) (by rfl) (by rfl) (by rfl) (by decide +kernel) ?_
  refine jT_eq (LN := [(4, (0, 2)), (3, (0, 1)), (0, (4, 0)), (1, (0, 6)), (2, (0, 100))]) (stN := [(0, 0)]) (hsN := jpG_156) rfl rfl rfl ?_
  refine jT_advK 6 (pcN := 54) (LN := [(4, (0, 2)), (3, (0, 1)), (0, (4, 0)), (1, (0, 6)), (2, (0, 100))]) (stN := [(1, 100), (1, (-100)), (1, 0)]) (hsN := jpG_156) (c1 := 0) (s1 := 0) (c2 := 0) (s2 := 0) (by decide +kernel) ?_ (by omega) (by omega)
  refine jT_fR [] 16 (y := 189) (pcN := 57) (dC := 0) (bc1 := 0) (bc2 := 0) (c1 := 0) (c2 := 0) (as := [(1, 0), (1, (-100)), (1, 100)]) (asC := [(1, 0), (1, (-100)), (1, 100)]) (LN := [(4, (0, 2)), (3, (0, 1)), (0, (4, 0)), (1, (0, 6)), (2, (0, 100))]) (stN := []) (hsC := []) (v := (0, 1)) (st2 := [(0, 1)]) (jG_189_40 (d := 0)) (by rfl) (by rfl) (by decide +kernel) (by rfl) (by rfl) (by omega) (by omega) (by omega) (by omega) rfl ?_
  refine jT_advK 18 (pcN := 47) (LN := [(4, (0, 3)), (3, (0, 1)), (0, (4, 0)), (1, (0, 6)), (2, (0, 100))]) (stN := [(0, 45), (4, 1)]) (hsN := jpG_156) (c1 := 0) (s1 := 0) (c2 := 0) (s2 := 0) (by decide +kernel) ?_ (by omega) (by omega)
  refine jT_iald (x := 0) (a := 1) (j := 45) (fs := []) (X := jS0) (by rfl) (by rfl) (by rfl) (by rfl) (by decide +kernel) ?_
  refine jT_eq (LN := [(4, (0, 3)), (3, (0, 1)), (0, (4, 0)), (1, (0, 6)), (2, (0, 100))]) (stN := [(0, 0)]) (hsN := jpG_156) rfl rfl rfl ?_
  refine jT_advK 6 (pcN := 54) (LN := [(4, (0, 3)), (3, (0, 1)), (0, (4, 0)), (1, (0, 6)), (2, (0, 100))]) (stN := [(1, 100), (1, (-100)), (1, 0)]) (hsN := jpG_156) (c1 := 0) (s1 := 0) (c2 := 0) (s2 := 0) (by decide +kernel) ?_ (by omega) (by omega)
  refine jT_fR [] 16 (y := 189) (pcN := 57) (dC := 0) (bc1 := 0) (bc2 := 0) (c1 := 0) (c2 := 0) (as := [(1, 0), (1, (-100)), (1, 100)]) (asC := [(1, 0), (1, (-100)), (1, 100)]) (LN := [(4, (0, 3)), (3, (0, 1)), (0, (4, 0)), (1, (0, 6)), (2, (0, 100))]) (stN := []) (hsC := []) (v := (0, 1)) (st2 := [(0, 1)]) (jG_189_40 (d := 0)) (by rfl) (by rfl) (by decide +kernel) (by rfl) (by rfl) (by omega) (by omega) (by omega) (by omega) rfl ?_
  refine jT_advK 18 (pcN := 47) (LN := [(4, (0, 4)), (3, (0, 1)), (0, (4, 0)), (1, (0, 6)), (2, (0, 100))]) (stN := [(0, 46), (4, 1)]) (hsN := jpG_156) (c1 := 0) (s1 := 0) (c2 := 0) (s2 := 0) (by decide +kernel) ?_ (by omega) (by omega)
  refine jT_iald (x := 0) (a := 1) (j := 46) (fs := []) (X := jS0) (by rfl) (by rfl) (by rfl) (by rfl) (by decide +kernel) ?_
  refine jT_eq (LN := [(4, (0, 4)), (3, (0, 1)), (0, (4, 0)), (1, (0, 6)), (2, (0, 100))]) (stN := [(0, 0)]) (hsN := jpG_156) rfl rfl rfl ?_
  refine jT_advK 6 (pcN := 54) (LN := [(4, (0, 4)), (3, (0, 1)), (0, (4, 0)), (1, (0, 6)), (2, (0, 100))]) (stN := [(1, 100), (1, (-100)), (1, 0)]) (hsN := jpG_156) (c1 := 0) (s1 := 0) (c2 := 0) (s2 := 0) (by decide +kernel) ?_ (by omega) (by omega)
  refine jT_fR [] 16 (y := 189) (pcN := 57) (dC := 0) (bc1 := 0) (bc2 := 0) (c1 := 0) (c2 := 0) (as := [(1, 0), (1, (-100)), (1, 100)]) (asC := [(1, 0), (1, (-100)), (1, 100)]) (LN := [(4, (0, 4)), (3, (0, 1)), (0, (4, 0)), (1, (0, 6)), (2, (0, 100))]) (stN := []) (hsC := []) (v := (0, 1)) (st2 := [(0, 1)]) (jG_189_40 (d := 0)) (by rfl) (by rfl) (by decide +kernel) (by rfl) (by rfl) (by omega) (by omega) (by omega) (by omega) rfl ?_
  refine jT_advK 18 (pcN := 47) (LN := [(4, (0, 5)), (3, (0, 1)), (0, (4, 0)), (1, (0, 6)), (2, (0, 100))]) (stN := [(0, 47), (4, 1)]) (hsN := jpG_156) (c1 := 0) (s1 := 0) (c2 := 0) (s2 := 0) (by decide +kernel) ?_ (by omega) (by omega)
  refine jT_iald (x := 0) (a := 1) (j := 47) (fs := []) (X := jS0) (by rfl) (by rfl) (by rfl) (by rfl) (by decide +kernel) ?_
  refine jT_eq (LN := [(4, (0, 5)), (3, (0, 1)), (0, (4, 0)), (1, (0, 6)), (2, (0, 100))]) (stN := [(0, 0)]) (hsN := jpG_156) rfl rfl rfl ?_
  refine jT_advK 6 (pcN := 54) (LN := [(4, (0, 5)), (3, (0, 1)), (0, (4, 0)), (1, (0, 6)), (2, (0, 100))]) (stN := [(1, 100), (1, (-100)), (1, 0)]) (hsN := jpG_156) (c1 := 0) (s1 := 0) (c2 := 0) (s2 := 0) (by decide +kernel) ?_ (by omega) (by omega)
  refine jT_fR [] 16 (y := 189) (pcN := 57) (dC := 0) (bc1 := 0) (bc2 := 0) (c1 := 0) (c2 := 0) (as := [(1, 0), (1, (-100)), (1, 100)]) (asC := [(1, 0), (1, (-100)), (1, 100)]) (LN := [(4, (0, 5)), (3, (0, 1)), (0, (4, 0)), (1, (0, 6)), (2, (0, 100))]) (stN := []) (hsC := []) (v := (0, 1)) (st2 := [(0, 1)]) (jG_189_40 (d := 0)) (by rfl) (by rfl) (by decide +kernel) (by rfl) (by rfl) (by omega) (by omega) (by omega) (by omega) rfl ?_
  refine jT_advK 10 (pcN := 73) (LN := [(4, (0, 6)), (3, (0, 1)), (0, (4, 0)), (1, (0, 6)), (2, (0, 100))]) (stN := [(0, 1)]) (hsN := jpG_156) (c1 := 0) (s1 := 0) (c2 := 0) (s2 := 0) (by decide +kernel) ?_ (by omega) (by omega)
  exact jT_ret rfl (by decide) (by show 16 ≤ 16; omega) (by omega) (by omega) ⟨rfl, rfl, rfl⟩
theorem jG_189_72 {xs : List Int} {d : Nat} : jT xs d 189 0 0 [(0, (1, 7)), (2, (1, 0)), (4, (1, 7))] [] [] 0 0 (fun k v hsN => k = 0 ∧ v = (0, 1) ∧ hsN = [] ++ []) := by
  refine jT_advK 10 (pcN := 18) (LN := [(0, (1, 7)), (2, (1, 0)), (4, (1, 7))]) (stN := [(0, 1)]) (hsN := []) (c1 := 0) (s1 := 0) (c2 := 0) (s2 := 0) (by decide +kernel) ?_ (by omega) (by omega)
  exact jT_ret rfl (by decide) (by show 0 ≤ 0; omega) (by omega) (by omega) ⟨rfl, rfl, rfl⟩
theorem jG_188_73 {xs : List Int} {d : Nat} : jT xs (d + 1) 188 0 0 [(0, (0, 7))] [] [] 0 0 (fun k v hsN => k = 0 ∧ v = (0, 1) ∧ hsN = [] ++ []) := by
  refine jT_advK 4 (pcN := 6) (LN := [(0, (0, 7))]) (stN := [(1, 7), (1, 0), (1, 7)]) (hsN := []) (c1 := 0) (s1 := 0) (c2 := 0) (s2 := 0) (by decide +kernel) ?_ (by omega) (by omega)
  refine jT_fR [] 0 (y := 189) (pcN := 9) (dC := 0) (bc1 := 0) (bc2 := 0) (c1 := 0) (c2 := 0) (as := [(1, 7), (1, 0), (1, 7)]) (asC := [(1, 7), (1, 0), (1, 7)]) (LN := [(0, (0, 7))]) (stN := []) (hsC := []) (v := (0, 1)) (st2 := [(0, 1)]) (jG_189_72 (d := 0)) (by rfl) (by rfl) (by decide +kernel) (by rfl) (by rfl) (by omega) (by omega) (by omega) (by omega) rfl ?_
  exact jT_ret rfl (by decide) (by show 0 ≤ 0; omega) (by omega) (by omega) ⟨rfl, rfl, rfl⟩
theorem jG_306_74 {xs : List Int} {d : Nat} {r1 : Int} (h_r1 : 1 ≤ r1 ∧ r1 ≤ 255) (g_0 : (((Int32.ofInt r1 >>> (Int32.ofInt 7 &&& 31)).toInt) % 2) - 1 < 0) : jT xs (d + 2) 306 0 0 [(0, (0, r1)), (1, (0, 7))] [] [] 0 0 (fun k v hsN => k = 0 ∧ v = (0, 0) ∧ hsN = [] ++ []) := by
  refine jT_xiload_n (v := (0, 7)) (pcN := 1) jIG_306_0 rfl rfl rfl ?_
  refine jT_fR [] 0 (y := 188) (pcN := 4) (dC := 1) (bc1 := 0) (bc2 := 0) (c1 := 0) (c2 := 0) (as := [(0, 7)]) (asC := [(0, 7)]) (LN := [(0, (0, r1)), (1, (0, 7))]) (stN := []) (hsC := []) (v := (0, 1)) (st2 := [(0, 1)]) (jG_188_73 (d := 0)) (by rfl) (by rfl) (by decide +kernel) (by rfl) (by rfl) (by omega) (by omega) (by omega) (by omega) rfl ?_
  refine jT_xifF (t := 20) (pcN := 7) jIG_306_4 rfl (by decide +kernel) rfl rfl ?_
  refine jT_xiload_n (v := (0, r1)) (pcN := 8) jIG_306_7 rfl rfl rfl ?_
  refine jT_xiload_n (v := (0, 7)) (pcN := 9) jIG_306_8 rfl rfl rfl ?_
  refine jT_ishr (x := r1) (y := 7) (z := (Int32.ofInt r1 >>> (Int32.ofInt 7 &&& 31)).toInt) (by rfl) (by rfl) rfl ?_
  have hb_q1 : (-2147483648) ≤ (Int32.ofInt r1 >>> (Int32.ofInt 7 &&& 31)).toInt ∧ (Int32.ofInt r1 >>> (Int32.ofInt 7 &&& 31)).toInt ≤ 2147483647 := ⟨Int32.le_toInt _, Int.le_of_lt_add_one (Int32.toInt_lt _)⟩
  generalize hq_q1 : (Int32.ofInt r1 >>> (Int32.ofInt 7 &&& 31)).toInt = q1 at hb_q1 g_0 ⊢
  refine jT_xiconst (k := 1) (pcN := 11) jIG_306_10 rfl ?_
  refine jT_iand (x := q1) (y := 1) (z := q1 % 2) (by rfl) (by rfl) (jiand_1 _) ?_
  have hb_q2 : 0 ≤ q1 % 2 ∧ q1 % 2 ≤ 1 := ⟨by omega, by omega⟩
  generalize hq_q2 : q1 % 2 = q2 at hb_q2 g_0 ⊢
  refine jT_xiconst (k := 1) (pcN := 13) jIG_306_12 rfl ?_
  refine jT_icT (a := q2) (b := 1) (t := 20) (by rfl) (by rfl) (by rfl) (jw_idd (by omega) (by omega)) (jw_idd (by omega) (by omega)) (by simp only [jcP] <;> omega) ?_
  refine jT_xiconst (k := 0) (pcN := 21) jIG_306_20 rfl ?_
  subst hq_q2
  subst hq_q1
  exact jT_ret rfl (by decide) (by show 0 ≤ 0; omega) (by omega) (by omega) ⟨rfl, rfl, rfl⟩
theorem jG_306_75 {xs : List Int} {d : Nat} {r1 : Int} (h_r1 : 1 ≤ r1 ∧ r1 ≤ 255) (g_0 : 0 ≤ (((Int32.ofInt r1 >>> (Int32.ofInt 7 &&& 31)).toInt) % 2) - 1) : jT xs (d + 2) 306 0 0 [(0, (0, r1)), (1, (0, 7))] [] [] 0 0 (fun k v hsN => k = 0 ∧ v = (0, 1) ∧ hsN = [] ++ []) := by
  refine jT_xiload_n (v := (0, 7)) (pcN := 1) jIG_306_0 rfl rfl rfl ?_
  refine jT_fR [] 0 (y := 188) (pcN := 4) (dC := 1) (bc1 := 0) (bc2 := 0) (c1 := 0) (c2 := 0) (as := [(0, 7)]) (asC := [(0, 7)]) (LN := [(0, (0, r1)), (1, (0, 7))]) (stN := []) (hsC := []) (v := (0, 1)) (st2 := [(0, 1)]) (jG_188_73 (d := 0)) (by rfl) (by rfl) (by decide +kernel) (by rfl) (by rfl) (by omega) (by omega) (by omega) (by omega) rfl ?_
  refine jT_xifF (t := 20) (pcN := 7) jIG_306_4 rfl (by decide +kernel) rfl rfl ?_
  refine jT_xiload_n (v := (0, r1)) (pcN := 8) jIG_306_7 rfl rfl rfl ?_
  refine jT_xiload_n (v := (0, 7)) (pcN := 9) jIG_306_8 rfl rfl rfl ?_
  refine jT_ishr (x := r1) (y := 7) (z := (Int32.ofInt r1 >>> (Int32.ofInt 7 &&& 31)).toInt) (by rfl) (by rfl) rfl ?_
  have hb_q1 : (-2147483648) ≤ (Int32.ofInt r1 >>> (Int32.ofInt 7 &&& 31)).toInt ∧ (Int32.ofInt r1 >>> (Int32.ofInt 7 &&& 31)).toInt ≤ 2147483647 := ⟨Int32.le_toInt _, Int.le_of_lt_add_one (Int32.toInt_lt _)⟩
  generalize hq_q1 : (Int32.ofInt r1 >>> (Int32.ofInt 7 &&& 31)).toInt = q1 at hb_q1 g_0 ⊢
  refine jT_xiconst (k := 1) (pcN := 11) jIG_306_10 rfl ?_
  refine jT_iand (x := q1) (y := 1) (z := q1 % 2) (by rfl) (by rfl) (jiand_1 _) ?_
  have hb_q2 : 0 ≤ q1 % 2 ∧ q1 % 2 ≤ 1 := ⟨by omega, by omega⟩
  generalize hq_q2 : q1 % 2 = q2 at hb_q2 g_0 ⊢
  refine jT_xiconst (k := 1) (pcN := 13) jIG_306_12 rfl ?_
  refine jT_icF (a := q2) (b := 1) (t := 20) (by rfl) (by rfl) (by rfl) (jw_idd (by omega) (by omega)) (jw_idd (by omega) (by omega)) (by simp only [jcP] <;> omega) ?_
  refine jT_xiconst (k := 1) (pcN := 17) jIG_306_16 rfl ?_
  refine jT_xgoto (pcN := 21) jIG_306_17 rfl ?_
  subst hq_q2
  subst hq_q1
  exact jT_ret rfl (by decide) (by show 0 ≤ 0; omega) (by omega) (by omega) ⟨rfl, rfl, rfl⟩
theorem jG_267_76 {xs : List Int} {d : Nat} : jT xs (d + 1) 267 16 0 [(0, (4, 0)), (1, (0, 7)), (2, (0, 100))] [] jpG_156 0 0 (fun k v hsN => k = 0 ∧ v = (0, 1) ∧ hsN = jpG_156 ++ []) := by
  refine jT_advK 7 (pcN := 11) (LN := [(0, (4, 0)), (1, (0, 7)), (2, (0, 100))]) (stN := [(0, 55), (4, 1)]) (hsN := jpG_156) (c1 := 0) (s1 := 0) (c2 := 0) (s2 := 0) (by decide +kernel) ?_ (by omega) (by omega)
  refine jT_iald (x := 1) (a := 1) (j := 55) (fs := []) (X := jS0) (by rfl) (by rfl) (by rfl) (by rfl) (by decide +kernel) ?_
  refine jT_eq (LN := [(0, (4, 0)), (1, (0, 7)), (2, (0, 100))]) (stN := [(0, 1)]) (hsN := jpG_156) rfl rfl rfl ?_
  refine jT_advK 19 (pcN := 47) (LN := [(4, (0, 0)), (3, (0, 1)), (0, (4, 0)), (1, (0, 7)), (2, (0, 100))]) (stN := [(0, 49), (4, 1)]) (hsN := jpG_156) (c1 := 0) (s1 := 0) (c2 := 0) (s2 := 0) (by decide +kernel) ?_ (by omega) (by omega)
  refine jT_iald (x := 0) (a := 1) (j := 49) (fs := []) (X := jS0) (by rfl) (by rfl) (by rfl) (by rfl) (by decide +kernel) ?_
  refine jT_eq (LN := [(4, (0, 0)), (3, (0, 1)), (0, (4, 0)), (1, (0, 7)), (2, (0, 100))]) (stN := [(0, 0)]) (hsN := jpG_156) rfl rfl rfl ?_
  refine jT_advK 6 (pcN := 54) (LN := [(4, (0, 0)), (3, (0, 1)), (0, (4, 0)), (1, (0, 7)), (2, (0, 100))]) (stN := [(1, 100), (1, (-100)), (1, 0)]) (hsN := jpG_156) (c1 := 0) (s1 := 0) (c2 := 0) (s2 := 0) (by decide +kernel) ?_ (by omega) (by omega)
  refine jT_fR [] 16 (y := 189) (pcN := 57) (dC := 0) (bc1 := 0) (bc2 := 0) (c1 := 0) (c2 := 0) (as := [(1, 0), (1, (-100)), (1, 100)]) (asC := [(1, 0), (1, (-100)), (1, 100)]) (LN := [(4, (0, 0)), (3, (0, 1)), (0, (4, 0)), (1, (0, 7)), (2, (0, 100))]) (stN := []) (hsC := []) (v := (0, 1)) (st2 := [(0, 1)]) (jG_189_40 (d := 0)) (by rfl) (by rfl) (by decide +kernel) (by rfl) (by rfl) (by omega) (by omega) (by omega) (by omega) rfl ?_
  refine jT_advK 18 (pcN := 47) (LN := [(4, (0, 1)), (3, (0, 1)), (0, (4, 0)), (1, (0, 7)), (2, (0, 100))]) (stN := [(0, 50), (4, 1)]) (hsN := jpG_156) (c1 := 0) (s1 := 0) (c2 := 0) (s2 := 0) (by decide +kernel) ?_ (by omega) (by omega)
  refine jT_iald (x := 0) (a := 1) (j := 50) (fs := []) (X := jS0) (by rfl) (by rfl) (by rfl) (by rfl) (by decide +kernel) ?_
  refine jT_eq (LN := [(4, (0, 1)), (3, (0, 1)), (0, (4, 0)), (1, (0, 7)), (2, (0, 100))]) (stN := [(0, 0)]) (hsN := jpG_156) rfl rfl rfl ?_
  refine jT_advK 6 (pcN := 54) (LN := [(4, (0, 1)), (3, (0, 1)), (0, (4, 0)), (1, (0, 7)), (2, (0, 100))]) (stN := [(1, 100), (1, (-100)), (1, 0)]) (hsN := jpG_156) (c1 := 0) (s1 := 0) (c2 := 0) (s2 := 0) (by decide +kernel) ?_ (by omega) (by omega)
  refine jT_fR [] 16 (y := 189) (pcN := 57) (dC := 0) (bc1 := 0) (bc2 := 0) (c1 := 0) (c2 := 0) (as := [(1, 0), (1, (-100)), (1, 100)]) (asC := [(1, 0), (1, (-100)), (1, 100)]) (LN := [(4, (0, 1)), (3, (0, 1)), (0, (4, 0)), (1, (0, 7)), (2, (0, 100))]) (stN := []) (hsC := []) (v := (0, 1)) (st2 := [(0, 1)]) (jG_189_40 (d := 0)) (by rfl) (by rfl) (by decide +kernel) (by rfl) (by rfl) (by omega) (by omega) (by omega) (by omega) rfl ?_
  refine jT_advK 18 (pcN := 47) (LN := [(4, (0, 2)), (3, (0, 1)), (0, (4, 0)), (1, (0, 7)), (2, (0, 100))]) (stN := [(0, 51), (4, 1)]) (hsN := jpG_156) (c1 := 0) (s1 := 0) (c2 := 0) (s2 := 0) (by decide +kernel) ?_ (by omega) (by omega)
  refine jT_iald (x := 0) (a := 1) (j := 51) (fs := []) (X := jS0) (by rfl) (by rfl) (by rfl) (by rfl) (by decide +kernel) ?_
  refine jT_eq (LN := [(4, (0, 2)), (3, (0, 1)), (0, (4, 0)), (1, (0, 7)), (2, (0, 100))]) (stN := [(0, 0)]) (hsN := jpG_156) rfl rfl rfl ?_
  refine jT_advK 6 (pcN := 54) (LN := [(4, (0, 2)), (3, (0, 1)), (0, (4, 0)), (1, (0, 7)), (2, (0, 100))]) (stN := [(1, 100), (1, (-100)), (1, 0)]) (hsN := jpG_156) (c1 := 0) (s1 := 0) (c2 := 0) (s2 := 0) (by decide +kernel) ?_ (by omega) (by omega)
  refine jT_fR [] 16 (y := 189) (pcN := 57) (dC := 0) (bc1 := 0) (bc2 := 0) (c1 := 0) (c2 := 0) (as := [(1, 0), (1, (-100)), (1, 100)]) (asC := [(1, 0), (1, (-100)), (1, 100)]) (LN := [(4, (0, 2)), (3, (0, 1)), (0, (4, 0)), (1, (0, 7)), (2, (0, 100))]) (stN := []) (hsC := []) (v := (0, 1)) (st2 := [(0, 1)]) (jG_189_40 (d := 0)) (by rfl) (by rfl) (by decide +kernel) (by rfl) (by rfl) (by omega) (by omega) (by omega) (by omega) rfl ?_
  refine jT_advK 18 (pcN := 47) (LN := [(4, (0, 3)), (3, (0, 1)), (0, (4, 0)), (1, (0, 7)), (2, (0, 100))]) (stN := [(0, 52), (4, 1)]) (hsN := jpG_156) (c1 := 0) (s1 := 0) (c2 := 0) (s2 := 0) (by decide +kernel) ?_ (by omega) (by omega)
  refine jT_iald (x := 0) (a := 1) (j := 52) (fs := []) (X := jS0) (by rfl) (by rfl) (by rfl) (by rfl) (by decide +kernel) ?_
  refine jT_eq (LN := [(4, (0, 3)), (3, (0, 1)), (0, (4, 0)), (1, (0, 7)), (2, (0, 100))]) (stN := [(0, 0)]) (hsN := jpG_156) rfl rfl rfl ?_
  refine jT_advK 6 (pcN := 54) (LN := [(4, (0, 3)), (3, (0, 1)), (0, (4, 0)), (1, (0, 7)), (2, (0, 100))]) (stN := [(1, 100), (1, (-100)), (1, 0)]) (hsN := jpG_156) (c1 := 0) (s1 := 0) (c2 := 0) (s2 := 0) (by decide +kernel) ?_ (by omega) (by omega)
  refine jT_fR [] 16 (y := 189) (pcN := 57) (dC := 0) (bc1 := 0) (bc2 := 0) (c1 := 0) (c2 := 0) (as := [(1, 0), (1, (-100)), (1, 100)]) (asC := [(1, 0), (1, (-100)), (1, 100)]) (LN := [(4, (0, 3)), (3, (0, 1)), (0, (4, 0)), (1, (0, 7)), (2, (0, 100))]) (stN := []) (hsC := []) (v := (0, 1)) (st2 := [(0, 1)]) (jG_189_40 (d := 0)) (by rfl) (by rfl) (by decide +kernel) (by rfl) (by rfl) (by omega) (by omega) (by omega) (by omega) rfl ?_
  refine jT_advK 18 (pcN := 47) (LN := [(4, (0, 4)), (3, (0, 1)), (0, (4, 0)), (1, (0, 7)), (2, (0, 100))]) (stN := [(0, 53), (4, 1)]) (hsN := jpG_156) (c1 := 0) (s1 := 0) (c2 := 0) (s2 := 0) (by decide +kernel) ?_ (by omega) (by omega)
  refine jT_iald (x := 0) (a := 1) (j := 53) (fs := []) (X := jS0) (by rfl) (by rfl) (by rfl) (by rfl) (by decide +kernel) ?_
  refine jT_eq (LN := [(4, (0, 4)), (3, (0, 1)), (0, (4, 0)), (1, (0, 7)), (2, (0, 100))]) (stN := [(0, 0)]) (hsN := jpG_156) rfl rfl rfl ?_
  refine jT_advK 6 (pcN := 54) (LN := [(4, (0, 4)), (3, (0, 1)), (0, (4, 0)), (1, (0, 7)), (2, (0, 100))]) (stN := [(1, 100), (1, (-100)), (1, 0)]) (hsN := jpG_156) (c1 := 0) (s1 := 0) (c2 := 0) (s2 := 0) (by decide +kernel) ?_ (by omega) (by omega)
  refine jT_fR [] 16 (y := 189) (pcN := 57) (dC := 0) (bc1 := 0) (bc2 := 0) (c1 := 0) (c2 := 0) (as := [(1, 0), (1, (-100)), (1, 100)]) (asC := [(1, 0), (1, (-100)), (1, 100)]) (LN := [(4, (0, 4)), (3, (0, 1)), (0, (4, 0)), (1, (0, 7)), (2, (0, 100))]) (stN := []) (hsC := []) (v := (0, 1)) (st2 := [(0, 1)]) (jG_189_40 (d := 0)) (by rfl) (by rfl) (by decide +kernel) (by rfl) (by rfl) (by omega) (by omega) (by omega) (by omega) rfl ?_
  refine jT_advK 18 (pcN := 47) (LN := [(4, (0, 5)), (3, (0, 1)), (0, (4, 0)), (1, (0, 7)), (2, (0, 100))]) (stN := [(0, 54), (4, 1)]) (hsN := jpG_156) (c1 := 0) (s1 := 0) (c2 := 0) (s2 := 0) (by decide +kernel) ?_ (by omega) (by omega)
  refine jT_iald (x := 0) (a := 1) (j := 54) (fs := []) (X := jS0) (by rfl) (by rfl) (by rfl) (by rfl) (by decide +kernel) ?_
  refine jT_eq (LN := [(4, (0, 5)), (3, (0, 1)), (0, (4, 0)), (1, (0, 7)), (2, (0, 100))]) (stN := [(0, 0)]) (hsN := jpG_156) rfl rfl rfl ?_
  refine jT_advK 6 (pcN := 54) (LN := [(4, (0, 5)), (3, (0, 1)), (0, (4, 0)), (1, (0, 7)), (2, (0, 100))]) (stN := [(1, 100), (1, (-100)), (1, 0)]) (hsN := jpG_156) (c1 := 0) (s1 := 0) (c2 := 0) (s2 := 0) (by decide +kernel) ?_ (by omega) (by omega)
  refine jT_fR [] 16 (y := 189) (pcN := 57) (dC := 0) (bc1 := 0) (bc2 := 0) (c1 := 0) (c2 := 0) (as := [(1, 0), (1, (-100)), (1, 100)]) (asC := [(1, 0), (1, (-100)), (1, 100)]) (LN := [(4, (0, 5)), (3, (0, 1)), (0, (4, 0)), (1, (0, 7)), (2, (0, 100))]) (stN := []) (hsC := []) (v := (0, 1)) (st2 := [(0, 1)]) (jG_189_40 (d := 0)) (by rfl) (by rfl) (by decide +kernel) (by rfl) (by rfl) (by omega) (by omega) (by omega) (by omega) rfl ?_
  refine jT_advK 10 (pcN := 73) (LN := [(4, (0, 6)), (3, (0, 1)), (0, (4, 0)), (1, (0, 7)), (2, (0, 100))]) (stN := [(0, 1)]) (hsN := jpG_156) (c1 := 0) (s1 := 0) (c2 := 0) (s2 := 0) (by decide +kernel) ?_ (by omega) (by omega)
  exact jT_ret rfl (by decide) (by show 16 ≤ 16; omega) (by omega) (by omega) ⟨rfl, rfl, rfl⟩
theorem jIG_307_3 : jmI (jm 307) 3 = (.istore_n 3, 1) := by rfl
theorem jIG_307_4 : jmI (jm 307) 4 = (.iconst 0, 1) := by rfl
theorem jIG_307_5 : jmI (jm 307) 5 = (.istore 4, 2) := by rfl
theorem jIG_307_7 : jmI (jm 307) 7 = (.iload 4, 2) := by rfl
theorem jIG_307_9 : jmI (jm 307) 9 = (.bipush 8, 2) := by rfl
theorem jIG_307_11 : jmI (jm 307) 11 = (.if_icmp .ge 35, 3) := by rfl
theorem jGl_ch_77_8 {xs : List Int} {d b1 b2 : Nat} {Q : Nat → JV → List JC → Prop} (hd : 3 < d) {r1 : Int} {u : Int} (h_u : 0 ≤ u ∧ u ≤ 2147483647) (h_r1 : 1 ≤ r1 ∧ r1 ≤ 255) {w : Int} (hw : jlw r1 [] u = w) (h : jT xs d 307 16 46 [(3, (0, w)), (0, (4, 0))] [] [jzG_18, (100, [], jS0), jgh, jgh, jgh, jgh, jgh, jgh, jgh, jgh, jgh, jgh, jgh, jgh, jgh, jgh] b1 b2 Q) : jT xs d 307 16 7 [(4, (0, 8)), (3, (0, u)), (0, (4, 0)), (1, (0, r1)), (2, (0, 0))] [] [jzG_18, (100, [], jS0), jgh, jgh, jgh, jgh, jgh, jgh, jgh, jgh, jgh, jgh, jgh, jgh, jgh, jgh] b1 b2 Q := by
  have e : u = w := hw
  subst e
  refine jT_xiload (v := (0, 8)) (pcN := 9) jIG_307_7 rfl rfl rfl ?_
  refine jT_xbipush (k := 8) (pcN := 11) jIG_307_9 (by decide) rfl ?_
  refine jT_xicT (pcN := 46) jIG_307_11 rfl (by decide +kernel) rfl ?_
  refine jT_loc (LN := [(3, (0, u)), (0, (4, 0))]) (by show List.Nodup [3, 0]; decide) (by intro q hq; simp only [List.mem_cons, List.not_mem_nil, or_false] at hq; rcases hq with rfl | rfl <;> rfl) ?_
  exact h
theorem jIG_307_14 : jmI (jm 307) 14 = (.iload_n 1, 1) := by rfl
theorem jIG_307_15 : jmI (jm 307) 15 = (.iload 4, 2) := by rfl
theorem jIG_307_20 : jmI (jm 307) 20 = (.ifCond .eq 20, 3) := by rfl
theorem jIG_307_23 : jmI (jm 307) 23 = (.iload_n 3, 1) := by rfl
theorem jIG_307_24 : jmI (jm 307) 24 = (.aload_n 0, 1) := by rfl
theorem jIG_307_25 : jmI (jm 307) 25 = (.getfield 9, 3) := by rfl
theorem jIG_307_28 : jmI (jm 307) 28 = (.bipush 7, 2) := by rfl
theorem jIG_307_30 : jmI (jm 307) 30 = (.iload 4, 2) := by rfl
theorem jIG_307_32 : jmI (jm 307) 32 = (.imul, 1) := by rfl
theorem jIG_307_33 : jmI (jm 307) 33 = (.iload_n 2, 1) := by rfl
theorem jIG_307_34 : jmI (jm 307) 34 = (.iadd, 1) := by rfl
theorem jIG_307_35 : jmI (jm 307) 35 = (.iaload, 1) := by rfl
theorem jIG_307_39 : jmI (jm 307) 39 = (.istore_n 3, 1) := by rfl
theorem jIG_307_40 : jmI (jm 307) 40 = (.iinc 4 1, 3) := by rfl
theorem jIG_307_43 : jmI (jm 307) 43 = (.goto (-36), 3) := by rfl
theorem jGl_ch_77_7 {xs : List Int} {d b1 b2 : Nat} {Q : Nat → JV → List JC → Prop} (hd : 3 < d) {r1 : Int} {u : Int} (h_u : 0 ≤ u ∧ u ≤ 2147483647) (h_r1 : 1 ≤ r1 ∧ r1 ≤ 255) {w : Int} (hw : jlw r1 [7] u = w) (h : jT xs d 307 16 46 [(3, (0, w)), (0, (4, 0))] [] [jzG_18, (100, [], jS0), jgh, jgh, jgh, jgh, jgh, jgh, jgh, jgh, jgh, jgh, jgh, jgh, jgh, jgh] b1 b2 Q) : jT xs d 307 16 7 [(4, (0, 7)), (3, (0, u)), (0, (4, 0)), (1, (0, r1)), (2, (0, 0))] [] [jzG_18, (100, [], jS0), jgh, jgh, jgh, jgh, jgh, jgh, jgh, jgh, jgh, jgh, jgh, jgh, jgh, jgh] b1 b2 Q := by
  rcases (show (0 ≤ (((Int32.ofInt r1 >>> (Int32.ofInt 7 &&& 31)).toInt) % 2) - 1) ∨ ((((Int32.ofInt r1 >>> (Int32.ofInt 7 &&& 31)).toInt) % 2) - 1 < 0) by omega) with g_0 | g_0
  · refine jT_xiload (v := (0, 7)) (pcN := 9) jIG_307_7 rfl rfl rfl ?_
    refine jT_xbipush (k := 8) (pcN := 11) jIG_307_9 (by decide) rfl ?_
    refine jT_xicF (t := 46) (pcN := 14) jIG_307_11 rfl (by decide +kernel) rfl rfl ?_
    refine jT_xiload_n (v := (0, r1)) (pcN := 15) jIG_307_14 rfl rfl rfl ?_
    refine jT_xiload (v := (0, 7)) (pcN := 17) jIG_307_15 rfl rfl rfl ?_
    refine jT_fR [] 16 (y := 306) (pcN := 20) (dC := 2) (bc1 := 0) (bc2 := 0) (c1 := b1) (c2 := b2) (as := [(0, r1), (0, 7)]) (asC := [(0, r1), (0, 7)]) (LN := [(4, (0, 7)), (3, (0, u)), (0, (4, 0)), (1, (0, r1)), (2, (0, 0))]) (stN := []) (hsC := []) (v := (0, 1)) (st2 := [(0, 1)]) (jG_306_75 (d := 0) (by omega) (by omega)) (by rfl) (by rfl) (by decide +kernel) (by rfl) (by rfl) (by omega) (by omega) (by omega) (by omega) rfl ?_
    refine jT_xifF (t := 40) (pcN := 23) jIG_307_20 rfl (by decide +kernel) rfl rfl ?_
    refine jT_xiload_n (v := (0, u)) (pcN := 24) jIG_307_23 rfl rfl rfl ?_
    refine jT_xaload_n (v := (4, 0)) (pcN := 25) jIG_307_24 rfl rfl rfl ?_
    refine jT_xgetf (a := 0) (t := 1) (ci := 14) (fi := 1) (c := jzG_18) (v := (4, 1)) (pcN := 28) jIG_307_25 rfl rfl rfl rfl rfl rfl rfl ?_
    refine jT_xbipush (k := 7) (pcN := 30) jIG_307_28 (by decide) rfl ?_
    refine jT_xiload (v := (0, 7)) (pcN := 32) jIG_307_30 rfl rfl rfl ?_
    refine jT_ximul (x := 7) (y := 7) (z := 49) (pcN := 33) jIG_307_32 rfl (by decide) rfl ?_
    refine jT_xiload_n (v := (0, 0)) (pcN := 34) jIG_307_33 rfl rfl rfl ?_
    refine jT_xiadd (x := 49) (y := 0) (z := 49) (pcN := 35) jIG_307_34 rfl (by decide) rfl ?_
    refine jT_iald (x := 0) (a := 1) (j := 49) (fs := []) (X := jS0) (by rfl) (by rfl) (by rfl) (by rfl) (by decide +kernel) ?_
    refine jT_eq (LN := [(4, (0, 7)), (3, (0, u)), (0, (4, 0)), (1, (0, r1)), (2, (0, 0))]) (stN := [(0, 0), (0, u)]) (hsN := jpG_156) rfl rfl rfl ?_
    refine jT_mm1 (x := u) (y := 0) (z := 0) (by rfl) (by rfl) (by rfl) (by rfl) (jw_idd (by omega) (by omega)) (jw_idd (by omega) (by omega)) (by rw [decide_eq_false (show ¬ ((u : Int) < 0) by omega)]; rfl) ?_
    refine jT_xistore_n (v := (0, 0)) (LN := [(3, (0, 0)), (4, (0, 7)), (0, (4, 0)), (1, (0, r1)), (2, (0, 0))]) (pcN := 40) jIG_307_39 rfl rfl rfl rfl ?_
    refine jT_xiinc (x := 7) (z := 8) (LN := [(4, (0, 8)), (3, (0, 0)), (0, (4, 0)), (1, (0, r1)), (2, (0, 0))]) (pcN := 43) jIG_307_40 rfl rfl (by decide) rfl rfl ?_
    refine jT_xgoto (pcN := 7) jIG_307_43 rfl ?_
    refine jT_loc (LN := [(4, (0, 8)), (3, (0, 0)), (0, (4, 0)), (1, (0, r1)), (2, (0, 0))]) (by show List.Nodup [4, 3, 0, 1, 2]; decide) (by intro q hq; simp only [List.mem_cons, List.not_mem_nil, or_false] at hq; rcases hq with rfl | rfl | rfl | rfl | rfl <;> rfl) ?_
    exact jGl_ch_77_8 hd (u := 0) (by omega) h_r1 (by rw [← hw]; exact (jlw_1 (by omega)).symm) h
  · refine jT_xiload (v := (0, 7)) (pcN := 9) jIG_307_7 rfl rfl rfl ?_
    refine jT_xbipush (k := 8) (pcN := 11) jIG_307_9 (by decide) rfl ?_
    refine jT_xicF (t := 46) (pcN := 14) jIG_307_11 rfl (by decide +kernel) rfl rfl ?_
    refine jT_xiload_n (v := (0, r1)) (pcN := 15) jIG_307_14 rfl rfl rfl ?_
    refine jT_xiload (v := (0, 7)) (pcN := 17) jIG_307_15 rfl rfl rfl ?_
    refine jT_fR [] 16 (y := 306) (pcN := 20) (dC := 2) (bc1 := 0) (bc2 := 0) (c1 := b1) (c2 := b2) (as := [(0, r1), (0, 7)]) (asC := [(0, r1), (0, 7)]) (LN := [(4, (0, 7)), (3, (0, u)), (0, (4, 0)), (1, (0, r1)), (2, (0, 0))]) (stN := []) (hsC := []) (v := (0, 0)) (st2 := [(0, 0)]) (jG_306_74 (d := 0) (by omega) (by omega)) (by rfl) (by rfl) (by decide +kernel) (by rfl) (by rfl) (by omega) (by omega) (by omega) (by omega) rfl ?_
    refine jT_xifT (pcN := 40) jIG_307_20 rfl (by decide +kernel) rfl ?_
    refine jT_xiinc (x := 7) (z := 8) (LN := [(4, (0, 8)), (3, (0, u)), (0, (4, 0)), (1, (0, r1)), (2, (0, 0))]) (pcN := 43) jIG_307_40 rfl rfl (by decide) rfl rfl ?_
    refine jT_xgoto (pcN := 7) jIG_307_43 rfl ?_
    refine jT_loc (LN := [(4, (0, 8)), (3, (0, u)), (0, (4, 0)), (1, (0, r1)), (2, (0, 0))]) (by show List.Nodup [4, 3, 0, 1, 2]; decide) (by intro q hq; simp only [List.mem_cons, List.not_mem_nil, or_false] at hq; rcases hq with rfl | rfl | rfl | rfl | rfl <;> rfl) ?_
    exact jGl_ch_77_8 hd (u := u) (by omega) h_r1 (by rw [← hw]; exact (jlw_0 (by omega)).symm) h
theorem jGl_ch_77_6 {xs : List Int} {d b1 b2 : Nat} {Q : Nat → JV → List JC → Prop} (hd : 3 < d) {r1 : Int} {u : Int} (h_u : 0 ≤ u ∧ u ≤ 2147483647) (h_r1 : 1 ≤ r1 ∧ r1 ≤ 255) {w : Int} (hw : jlw r1 [6, 7] u = w) (h : jT xs d 307 16 46 [(3, (0, w)), (0, (4, 0))] [] [jzG_18, (100, [], jS0), jgh, jgh, jgh, jgh, jgh, jgh, jgh, jgh, jgh, jgh, jgh, jgh, jgh, jgh] b1 b2 Q) : jT xs d 307 16 7 [(4, (0, 6)), (3, (0, u)), (0, (4, 0)), (1, (0, r1)), (2, (0, 0))] [] [jzG_18, (100, [], jS0), jgh, jgh, jgh, jgh, jgh, jgh, jgh, jgh, jgh, jgh, jgh, jgh, jgh, jgh] b1 b2 Q := by
  rcases (show (0 ≤ (((Int32.ofInt r1 >>> (Int32.ofInt 6 &&& 31)).toInt) % 2) - 1) ∨ ((((Int32.ofInt r1 >>> (Int32.ofInt 6 &&& 31)).toInt) % 2) - 1 < 0) by omega) with g_0 | g_0
  · refine jT_xiload (v := (0, 6)) (pcN := 9) jIG_307_7 rfl rfl rfl ?_
    refine jT_xbipush (k := 8) (pcN := 11) jIG_307_9 (by decide) rfl ?_
    refine jT_xicF (t := 46) (pcN := 14) jIG_307_11 rfl (by decide +kernel) rfl rfl ?_
    refine jT_xiload_n (v := (0, r1)) (pcN := 15) jIG_307_14 rfl rfl rfl ?_
    refine jT_xiload (v := (0, 6)) (pcN := 17) jIG_307_15 rfl rfl rfl ?_
    refine jT_fR [] 16 (y := 306) (pcN := 20) (dC := 2) (bc1 := 0) (bc2 := 0) (c1 := b1) (c2 := b2) (as := [(0, r1), (0, 6)]) (asC := [(0, r1), (0, 6)]) (LN := [(4, (0, 6)), (3, (0, u)), (0, (4, 0)), (1, (0, r1)), (2, (0, 0))]) (stN := []) (hsC := []) (v := (0, 1)) (st2 := [(0, 1)]) (jG_306_70 (d := 0) (by omega) (by omega)) (by rfl) (by rfl) (by decide +kernel) (by rfl) (by rfl) (by omega) (by omega) (by omega) (by omega) rfl ?_
    refine jT_xifF (t := 40) (pcN := 23) jIG_307_20 rfl (by decide +kernel) rfl rfl ?_
    refine jT_xiload_n (v := (0, u)) (pcN := 24) jIG_307_23 rfl rfl rfl ?_
    refine jT_xaload_n (v := (4, 0)) (pcN := 25) jIG_307_24 rfl rfl rfl ?_
    refine jT_xgetf (a := 0) (t := 1) (ci := 14) (fi := 1) (c := jzG_18) (v := (4, 1)) (pcN := 28) jIG_307_25 rfl rfl rfl rfl rfl rfl rfl ?_
    refine jT_xbipush (k := 7) (pcN := 30) jIG_307_28 (by decide) rfl ?_
    refine jT_xiload (v := (0, 6)) (pcN := 32) jIG_307_30 rfl rfl rfl ?_
    refine jT_ximul (x := 7) (y := 6) (z := 42) (pcN := 33) jIG_307_32 rfl (by decide) rfl ?_
    refine jT_xiload_n (v := (0, 0)) (pcN := 34) jIG_307_33 rfl rfl rfl ?_
    refine jT_xiadd (x := 42) (y := 0) (z := 42) (pcN := 35) jIG_307_34 rfl (by decide) rfl ?_
    refine jT_iald (x := 0) (a := 1) (j := 42) (fs := []) (X := jS0) (by rfl) (by rfl) (by rfl) (by rfl) (by decide +kernel) ?_
    refine jT_eq (LN := [(4, (0, 6)), (3, (0, u)), (0, (4, 0)), (1, (0, r1)), (2, (0, 0))]) (stN := [(0, 0), (0, u)]) (hsN := jpG_156) rfl rfl rfl ?_
    refine jT_mm1 (x := u) (y := 0) (z := 0) (by rfl) (by rfl) (by rfl) (by rfl) (jw_idd (by omega) (by omega)) (jw_idd (by omega) (by omega)) (by rw [decide_eq_false (show ¬ ((u : Int) < 0) by omega)]; rfl) ?_
    refine jT_xistore_n (v := (0, 0)) (LN := [(3, (0, 0)), (4, (0, 6)), (0, (4, 0)), (1, (0, r1)), (2, (0, 0))]) (pcN := 40) jIG_307_39 rfl rfl rfl rfl ?_
    refine jT_xiinc (x := 6) (z := 7) (LN := [(4, (0, 7)), (3, (0, 0)), (0, (4, 0)), (1, (0, r1)), (2, (0, 0))]) (pcN := 43) jIG_307_40 rfl rfl (by decide) rfl rfl ?_
    refine jT_xgoto (pcN := 7) jIG_307_43 rfl ?_
    refine jT_loc (LN := [(4, (0, 7)), (3, (0, 0)), (0, (4, 0)), (1, (0, r1)), (2, (0, 0))]) (by show List.Nodup [4, 3, 0, 1, 2]; decide) (by intro q hq; simp only [List.mem_cons, List.not_mem_nil, or_false] at hq; rcases hq with rfl | rfl | rfl | rfl | rfl <;> rfl) ?_
    exact jGl_ch_77_7 hd (u := 0) (by omega) h_r1 (by rw [← hw]; exact (jlw_1 (by omega)).symm) h
  · refine jT_xiload (v := (0, 6)) (pcN := 9) jIG_307_7 rfl rfl rfl ?_
    refine jT_xbipush (k := 8) (pcN := 11) jIG_307_9 (by decide) rfl ?_
    refine jT_xicF (t := 46) (pcN := 14) jIG_307_11 rfl (by decide +kernel) rfl rfl ?_
    refine jT_xiload_n (v := (0, r1)) (pcN := 15) jIG_307_14 rfl rfl rfl ?_
    refine jT_xiload (v := (0, 6)) (pcN := 17) jIG_307_15 rfl rfl rfl ?_
    refine jT_fR [] 16 (y := 306) (pcN := 20) (dC := 2) (bc1 := 0) (bc2 := 0) (c1 := b1) (c2 := b2) (as := [(0, r1), (0, 6)]) (asC := [(0, r1), (0, 6)]) (LN := [(4, (0, 6)), (3, (0, u)), (0, (4, 0)), (1, (0, r1)), (2, (0, 0))]) (stN := []) (hsC := []) (v := (0, 0)) (st2 := [(0, 0)]) (jG_306_69 (d := 0) (by omega) (by omega)) (by rfl) (by rfl) (by decide +kernel) (by rfl) (by rfl) (by omega) (by omega) (by omega) (by omega) rfl ?_
    refine jT_xifT (pcN := 40) jIG_307_20 rfl (by decide +kernel) rfl ?_
    refine jT_xiinc (x := 6) (z := 7) (LN := [(4, (0, 7)), (3, (0, u)), (0, (4, 0)), (1, (0, r1)), (2, (0, 0))]) (pcN := 43) jIG_307_40 rfl rfl (by decide) rfl rfl ?_
    refine jT_xgoto (pcN := 7) jIG_307_43 rfl ?_
    refine jT_loc (LN := [(4, (0, 7)), (3, (0, u)), (0, (4, 0)), (1, (0, r1)), (2, (0, 0))]) (by show List.Nodup [4, 3, 0, 1, 2]; decide) (by intro q hq; simp only [List.mem_cons, List.not_mem_nil, or_false] at hq; rcases hq with rfl | rfl | rfl | rfl | rfl <;> rfl) ?_
    exact jGl_ch_77_7 hd (u := u) (by omega) h_r1 (by rw [← hw]; exact (jlw_0 (by omega)).symm) h
theorem jGl_ch_77_5 {xs : List Int} {d b1 b2 : Nat} {Q : Nat → JV → List JC → Prop} (hd : 3 < d) {r1 : Int} {u : Int} (h_u : 0 ≤ u ∧ u ≤ 2147483647) (h_r1 : 1 ≤ r1 ∧ r1 ≤ 255) {w : Int} (hw : jlw r1 [5, 6, 7] u = w) (h : jT xs d 307 16 46 [(3, (0, w)), (0, (4, 0))] [] [jzG_18, (100, [], jS0), jgh, jgh, jgh, jgh, jgh, jgh, jgh, jgh, jgh, jgh, jgh, jgh, jgh, jgh] b1 b2 Q) : jT xs d 307 16 7 [(4, (0, 5)), (3, (0, u)), (0, (4, 0)), (1, (0, r1)), (2, (0, 0))] [] [jzG_18, (100, [], jS0), jgh, jgh, jgh, jgh, jgh, jgh, jgh, jgh, jgh, jgh, jgh, jgh, jgh, jgh] b1 b2 Q := by
  rcases (show (0 ≤ (((Int32.ofInt r1 >>> (Int32.ofInt 5 &&& 31)).toInt) % 2) - 1) ∨ ((((Int32.ofInt r1 >>> (Int32.ofInt 5 &&& 31)).toInt) % 2) - 1 < 0) by omega) with g_0 | g_0
  · refine jT_xiload (v := (0, 5)) (pcN := 9) jIG_307_7 rfl rfl rfl ?_
    refine jT_xbipush (k := 8) (pcN := 11) jIG_307_9 (by decide) rfl ?_
    refine jT_xicF (t := 46) (pcN := 14) jIG_307_11 rfl (by decide +kernel) rfl rfl ?_
    refine jT_xiload_n (v := (0, r1)) (pcN := 15) jIG_307_14 rfl rfl rfl ?_
    refine jT_xiload (v := (0, 5)) (pcN := 17) jIG_307_15 rfl rfl rfl ?_
    refine jT_fR [] 16 (y := 306) (pcN := 20) (dC := 2) (bc1 := 0) (bc2 := 0) (c1 := b1) (c2 := b2) (as := [(0, r1), (0, 5)]) (asC := [(0, r1), (0, 5)]) (LN := [(4, (0, 5)), (3, (0, u)), (0, (4, 0)), (1, (0, r1)), (2, (0, 0))]) (stN := []) (hsC := []) (v := (0, 1)) (st2 := [(0, 1)]) (jG_306_65 (d := 0) (by omega) (by omega)) (by rfl) (by rfl) (by decide +kernel) (by rfl) (by rfl) (by omega) (by omega) (by omega) (by omega) rfl ?_
    refine jT_xifF (t := 40) (pcN := 23) jIG_307_20 rfl (by decide +kernel) rfl rfl ?_
    refine jT_xiload_n (v := (0, u)) (pcN := 24) jIG_307_23 rfl rfl rfl ?_
    refine jT_xaload_n (v := (4, 0)) (pcN := 25) jIG_307_24 rfl rfl rfl ?_
    refine jT_xgetf (a := 0) (t := 1) (ci := 14) (fi := 1) (c := jzG_18) (v := (4, 1)) (pcN := 28) jIG_307_25 rfl rfl rfl rfl rfl rfl rfl ?_
    refine jT_xbipush (k := 7) (pcN := 30) jIG_307_28 (by decide) rfl ?_
    refine jT_xiload (v := (0, 5)) (pcN := 32) jIG_307_30 rfl rfl rfl ?_
    refine jT_ximul (x := 7) (y := 5) (z := 35) (pcN := 33) jIG_307_32 rfl (by decide) rfl ?_
    refine jT_xiload_n (v := (0, 0)) (pcN := 34) jIG_307_33 rfl rfl rfl ?_
    refine jT_xiadd (x := 35) (y := 0) (z := 35) (pcN := 35) jIG_307_34 rfl (by decide) rfl ?_
    refine jT_iald (x := 0) (a := 1) (j := 35) (fs := []) (X := jS0) (by rfl) (by rfl) (by rfl) (by rfl) (by decide +kernel) ?_
    refine jT_eq (LN := [(4, (0, 5)), (3, (0, u)), (0, (4, 0)), (1, (0, r1)), (2, (0, 0))]) (stN := [(0, 0), (0, u)]) (hsN := jpG_156) rfl rfl rfl ?_
    refine jT_mm1 (x := u) (y := 0) (z := 0) (by rfl) (by rfl) (by rfl) (by rfl) (jw_idd (by omega) (by omega)) (jw_idd (by omega) (by omega)) (by rw [decide_eq_false (show ¬ ((u : Int) < 0) by omega)]; rfl) ?_
    refine jT_xistore_n (v := (0, 0)) (LN := [(3, (0, 0)), (4, (0, 5)), (0, (4, 0)), (1, (0, r1)), (2, (0, 0))]) (pcN := 40) jIG_307_39 rfl rfl rfl rfl ?_
    refine jT_xiinc (x := 5) (z := 6) (LN := [(4, (0, 6)), (3, (0, 0)), (0, (4, 0)), (1, (0, r1)), (2, (0, 0))]) (pcN := 43) jIG_307_40 rfl rfl (by decide) rfl rfl ?_
    refine jT_xgoto (pcN := 7) jIG_307_43 rfl ?_
    refine jT_loc (LN := [(4, (0, 6)), (3, (0, 0)), (0, (4, 0)), (1, (0, r1)), (2, (0, 0))]) (by show List.Nodup [4, 3, 0, 1, 2]; decide) (by intro q hq; simp only [List.mem_cons, List.not_mem_nil, or_false] at hq; rcases hq with rfl | rfl | rfl | rfl | rfl <;> rfl) ?_
    exact jGl_ch_77_6 hd (u := 0) (by omega) h_r1 (by rw [← hw]; exact (jlw_1 (by omega)).symm) h
  · refine jT_xiload (v := (0, 5)) (pcN := 9) jIG_307_7 rfl rfl rfl ?_
    refine jT_xbipush (k := 8) (pcN := 11) jIG_307_9 (by decide) rfl ?_
    refine jT_xicF (t := 46) (pcN := 14) jIG_307_11 rfl (by decide +kernel) rfl rfl ?_
    refine jT_xiload_n (v := (0, r1)) (pcN := 15) jIG_307_14 rfl rfl rfl ?_
    refine jT_xiload (v := (0, 5)) (pcN := 17) jIG_307_15 rfl rfl rfl ?_
    refine jT_fR [] 16 (y := 306) (pcN := 20) (dC := 2) (bc1 := 0) (bc2 := 0) (c1 := b1) (c2 := b2) (as := [(0, r1), (0, 5)]) (asC := [(0, r1), (0, 5)]) (LN := [(4, (0, 5)), (3, (0, u)), (0, (4, 0)), (1, (0, r1)), (2, (0, 0))]) (stN := []) (hsC := []) (v := (0, 0)) (st2 := [(0, 0)]) (jG_306_64 (d := 0) (by omega) (by omega)) (by rfl) (by rfl) (by decide +kernel) (by rfl) (by rfl) (by omega) (by omega) (by omega) (by omega) rfl ?_
    refine jT_xifT (pcN := 40) jIG_307_20 rfl (by decide +kernel) rfl ?_
    refine jT_xiinc (x := 5) (z := 6) (LN := [(4, (0, 6)), (3, (0, u)), (0, (4, 0)), (1, (0, r1)), (2, (0, 0))]) (pcN := 43) jIG_307_40 rfl rfl (by decide) rfl rfl ?_
    refine jT_xgoto (pcN := 7) jIG_307_43 rfl ?_
    refine jT_loc (LN := [(4, (0, 6)), (3, (0, u)), (0, (4, 0)), (1, (0, r1)), (2, (0, 0))]) (by show List.Nodup [4, 3, 0, 1, 2]; decide) (by intro q hq; simp only [List.mem_cons, List.not_mem_nil, or_false] at hq; rcases hq with rfl | rfl | rfl | rfl | rfl <;> rfl) ?_
    exact jGl_ch_77_6 hd (u := u) (by omega) h_r1 (by rw [← hw]; exact (jlw_0 (by omega)).symm) h
theorem jGl_ch_77_4 {xs : List Int} {d b1 b2 : Nat} {Q : Nat → JV → List JC → Prop} (hd : 3 < d) {r1 : Int} {u : Int} (h_u : 0 ≤ u ∧ u ≤ 2147483647) (h_r1 : 1 ≤ r1 ∧ r1 ≤ 255) {w : Int} (hw : jlw r1 [4, 5, 6, 7] u = w) (h : jT xs d 307 16 46 [(3, (0, w)), (0, (4, 0))] [] [jzG_18, (100, [], jS0), jgh, jgh, jgh, jgh, jgh, jgh, jgh, jgh, jgh, jgh, jgh, jgh, jgh, jgh] b1 b2 Q) : jT xs d 307 16 7 [(4, (0, 4)), (3, (0, u)), (0, (4, 0)), (1, (0, r1)), (2, (0, 0))] [] [jzG_18, (100, [], jS0), jgh, jgh, jgh, jgh, jgh, jgh, jgh, jgh, jgh, jgh, jgh, jgh, jgh, jgh] b1 b2 Q := by
  rcases (show (0 ≤ (((Int32.ofInt r1 >>> (Int32.ofInt 4 &&& 31)).toInt) % 2) - 1) ∨ ((((Int32.ofInt r1 >>> (Int32.ofInt 4 &&& 31)).toInt) % 2) - 1 < 0) by omega) with g_0 | g_0
  · refine jT_xiload (v := (0, 4)) (pcN := 9) jIG_307_7 rfl rfl rfl ?_
    refine jT_xbipush (k := 8) (pcN := 11) jIG_307_9 (by decide) rfl ?_
    refine jT_xicF (t := 46) (pcN := 14) jIG_307_11 rfl (by decide +kernel) rfl rfl ?_
    refine jT_xiload_n (v := (0, r1)) (pcN := 15) jIG_307_14 rfl rfl rfl ?_
    refine jT_xiload (v := (0, 4)) (pcN := 17) jIG_307_15 rfl rfl rfl ?_
    refine jT_fR [] 16 (y := 306) (pcN := 20) (dC := 2) (bc1 := 0) (bc2 := 0) (c1 := b1) (c2 := b2) (as := [(0, r1), (0, 4)]) (asC := [(0, r1), (0, 4)]) (LN := [(4, (0, 4)), (3, (0, u)), (0, (4, 0)), (1, (0, r1)), (2, (0, 0))]) (stN := []) (hsC := []) (v := (0, 1)) (st2 := [(0, 1)]) (jG_306_60 (d := 0) (by omega) (by omega)) (by rfl) (by rfl) (by decide +kernel) (by rfl) (by rfl) (by omega) (by omega) (by omega) (by omega) rfl ?_
    refine jT_xifF (t := 40) (pcN := 23) jIG_307_20 rfl (by decide +kernel) rfl rfl ?_
    refine jT_xiload_n (v := (0, u)) (pcN := 24) jIG_307_23 rfl rfl rfl ?_
    refine jT_xaload_n (v := (4, 0)) (pcN := 25) jIG_307_24 rfl rfl rfl ?_
    refine jT_xgetf (a := 0) (t := 1) (ci := 14) (fi := 1) (c := jzG_18) (v := (4, 1)) (pcN := 28) jIG_307_25 rfl rfl rfl rfl rfl rfl rfl ?_
    refine jT_xbipush (k := 7) (pcN := 30) jIG_307_28 (by decide) rfl ?_
    refine jT_xiload (v := (0, 4)) (pcN := 32) jIG_307_30 rfl rfl rfl ?_
    refine jT_ximul (x := 7) (y := 4) (z := 28) (pcN := 33) jIG_307_32 rfl (by decide) rfl ?_
    refine jT_xiload_n (v := (0, 0)) (pcN := 34) jIG_307_33 rfl rfl rfl ?_
    refine jT_xiadd (x := 28) (y := 0) (z := 28) (pcN := 35) jIG_307_34 rfl (by decide) rfl ?_
    refine jT_iald (x := 0) (a := 1) (j := 28) (fs := []) (X := jS0) (by rfl) (by rfl) (by rfl) (by rfl) (by decide +kernel) ?_
    refine jT_eq (LN := [(4, (0, 4)), (3, (0, u)), (0, (4, 0)), (1, (0, r1)), (2, (0, 0))]) (stN := [(0, 0), (0, u)]) (hsN := jpG_156) rfl rfl rfl ?_
    refine jT_mm1 (x := u) (y := 0) (z := 0) (by rfl) (by rfl) (by rfl) (by rfl) (jw_idd (by omega) (by omega)) (jw_idd (by omega) (by omega)) (by rw [decide_eq_false (show ¬ ((u : Int) < 0) by omega)]; rfl) ?_
    refine jT_xistore_n (v := (0, 0)) (LN := [(3, (0, 0)), (4, (0, 4)), (0, (4, 0)), (1, (0, r1)), (2, (0, 0))]) (pcN := 40) jIG_307_39 rfl rfl rfl rfl ?_
    refine jT_xiinc (x := 4) (z := 5) (LN := [(4, (0, 5)), (3, (0, 0)), (0, (4, 0)), (1, (0, r1)), (2, (0, 0))]) (pcN := 43) jIG_307_40 rfl rfl (by decide) rfl rfl ?_
    refine jT_xgoto (pcN := 7) jIG_307_43 rfl ?_
    refine jT_loc (LN := [(4, (0, 5)), (3, (0, 0)), (0, (4, 0)), (1, (0, r1)), (2, (0, 0))]) (by show List.Nodup [4, 3, 0, 1, 2]; decide) (by intro q hq; simp only [List.mem_cons, List.not_mem_nil, or_false] at hq; rcases hq with rfl | rfl | rfl | rfl | rfl <;> rfl) ?_
    exact jGl_ch_77_5 hd (u := 0) (by omega) h_r1 (by rw [← hw]; exact (jlw_1 (by omega)).symm) h
  · refine jT_xiload (v := (0, 4)) (pcN := 9) jIG_307_7 rfl rfl rfl ?_
    refine jT_xbipush (k := 8) (pcN := 11) jIG_307_9 (by decide) rfl ?_
    refine jT_xicF (t := 46) (pcN := 14) jIG_307_11 rfl (by decide +kernel) rfl rfl ?_
    refine jT_xiload_n (v := (0, r1)) (pcN := 15) jIG_307_14 rfl rfl rfl ?_
    refine jT_xiload (v := (0, 4)) (pcN := 17) jIG_307_15 rfl rfl rfl ?_
    refine jT_fR [] 16 (y := 306) (pcN := 20) (dC := 2) (bc1 := 0) (bc2 := 0) (c1 := b1) (c2 := b2) (as := [(0, r1), (0, 4)]) (asC := [(0, r1), (0, 4)]) (LN := [(4, (0, 4)), (3, (0, u)), (0, (4, 0)), (1, (0, r1)), (2, (0, 0))]) (stN := []) (hsC := []) (v := (0, 0)) (st2 := [(0, 0)]) (jG_306_59 (d := 0) (by omega) (by omega)) (by rfl) (by rfl) (by decide +kernel) (by rfl) (by rfl) (by omega) (by omega) (by omega) (by omega) rfl ?_
    refine jT_xifT (pcN := 40) jIG_307_20 rfl (by decide +kernel) rfl ?_
    refine jT_xiinc (x := 4) (z := 5) (LN := [(4, (0, 5)), (3, (0, u)), (0, (4, 0)), (1, (0, r1)), (2, (0, 0))]) (pcN := 43) jIG_307_40 rfl rfl (by decide) rfl rfl ?_
    refine jT_xgoto (pcN := 7) jIG_307_43 rfl ?_
    refine jT_loc (LN := [(4, (0, 5)), (3, (0, u)), (0, (4, 0)), (1, (0, r1)), (2, (0, 0))]) (by show List.Nodup [4, 3, 0, 1, 2]; decide) (by intro q hq; simp only [List.mem_cons, List.not_mem_nil, or_false] at hq; rcases hq with rfl | rfl | rfl | rfl | rfl <;> rfl) ?_
    exact jGl_ch_77_5 hd (u := u) (by omega) h_r1 (by rw [← hw]; exact (jlw_0 (by omega)).symm) h
theorem jGl_ch_77_3 {xs : List Int} {d b1 b2 : Nat} {Q : Nat → JV → List JC → Prop} (hd : 3 < d) {r1 : Int} {u : Int} (h_u : 0 ≤ u ∧ u ≤ 2147483647) (h_r1 : 1 ≤ r1 ∧ r1 ≤ 255) {w : Int} (hw : jlw r1 [3, 4, 5, 6, 7] u = w) (h : jT xs d 307 16 46 [(3, (0, w)), (0, (4, 0))] [] [jzG_18, (100, [], jS0), jgh, jgh, jgh, jgh, jgh, jgh, jgh, jgh, jgh, jgh, jgh, jgh, jgh, jgh] b1 b2 Q) : jT xs d 307 16 7 [(4, (0, 3)), (3, (0, u)), (0, (4, 0)), (1, (0, r1)), (2, (0, 0))] [] [jzG_18, (100, [], jS0), jgh, jgh, jgh, jgh, jgh, jgh, jgh, jgh, jgh, jgh, jgh, jgh, jgh, jgh] b1 b2 Q := by
  rcases (show (0 ≤ (((Int32.ofInt r1 >>> (Int32.ofInt 3 &&& 31)).toInt) % 2) - 1) ∨ ((((Int32.ofInt r1 >>> (Int32.ofInt 3 &&& 31)).toInt) % 2) - 1 < 0) by omega) with g_0 | g_0
  · refine jT_xiload (v := (0, 3)) (pcN := 9) jIG_307_7 rfl rfl rfl ?_
    refine jT_xbipush (k := 8) (pcN := 11) jIG_307_9 (by decide) rfl ?_
    refine jT_xicF (t := 46) (pcN := 14) jIG_307_11 rfl (by decide +kernel) rfl rfl ?_
    refine jT_xiload_n (v := (0, r1)) (pcN := 15) jIG_307_14 rfl rfl rfl ?_
    refine jT_xiload (v := (0, 3)) (pcN := 17) jIG_307_15 rfl rfl rfl ?_
    refine jT_fR [] 16 (y := 306) (pcN := 20) (dC := 2) (bc1 := 0) (bc2 := 0) (c1 := b1) (c2 := b2) (as := [(0, r1), (0, 3)]) (asC := [(0, r1), (0, 3)]) (LN := [(4, (0, 3)), (3, (0, u)), (0, (4, 0)), (1, (0, r1)), (2, (0, 0))]) (stN := []) (hsC := []) (v := (0, 1)) (st2 := [(0, 1)]) (jG_306_55 (d := 0) (by omega) (by omega)) (by rfl) (by rfl) (by decide +kernel) (by rfl) (by rfl) (by omega) (by omega) (by omega) (by omega) rfl ?_
    refine jT_xifF (t := 40) (pcN := 23) jIG_307_20 rfl (by decide +kernel) rfl rfl ?_
    refine jT_xiload_n (v := (0, u)) (pcN := 24) jIG_307_23 rfl rfl rfl ?_
    refine jT_xaload_n (v := (4, 0)) (pcN := 25) jIG_307_24 rfl rfl rfl ?_
    refine jT_xgetf (a := 0) (t := 1) (ci := 14) (fi := 1) (c := jzG_18) (v := (4, 1)) (pcN := 28) jIG_307_25 rfl rfl rfl rfl rfl rfl rfl ?_
    refine jT_xbipush (k := 7) (pcN := 30) jIG_307_28 (by decide) rfl ?_
    refine jT_xiload (v := (0, 3)) (pcN := 32) jIG_307_30 rfl rfl rfl ?_
    refine jT_ximul (x := 7) (y := 3) (z := 21) (pcN := 33) jIG_307_32 rfl (by decide) rfl ?_
    refine jT_xiload_n (v := (0, 0)) (pcN := 34) jIG_307_33 rfl rfl rfl ?_
    refine jT_xiadd (x := 21) (y := 0) (z := 21) (pcN := 35) jIG_307_34 rfl (by decide) rfl ?_
    refine jT_iald (x := 0) (a := 1) (j := 21) (fs := []) (X := jS0) (by rfl) (by rfl) (by rfl) (by rfl) (by decide +kernel) ?_
    refine jT_eq (LN := [(4, (0, 3)), (3, (0, u)), (0, (4, 0)), (1, (0, r1)), (2, (0, 0))]) (stN := [(0, 0), (0, u)]) (hsN := jpG_156) rfl rfl rfl ?_
    refine jT_mm1 (x := u) (y := 0) (z := 0) (by rfl) (by rfl) (by rfl) (by rfl) (jw_idd (by omega) (by omega)) (jw_idd (by omega) (by omega)) (by rw [decide_eq_false (show ¬ ((u : Int) < 0) by omega)]; rfl) ?_
    refine jT_xistore_n (v := (0, 0)) (LN := [(3, (0, 0)), (4, (0, 3)), (0, (4, 0)), (1, (0, r1)), (2, (0, 0))]) (pcN := 40) jIG_307_39 rfl rfl rfl rfl ?_
    refine jT_xiinc (x := 3) (z := 4) (LN := [(4, (0, 4)), (3, (0, 0)), (0, (4, 0)), (1, (0, r1)), (2, (0, 0))]) (pcN := 43) jIG_307_40 rfl rfl (by decide) rfl rfl ?_
    refine jT_xgoto (pcN := 7) jIG_307_43 rfl ?_
    refine jT_loc (LN := [(4, (0, 4)), (3, (0, 0)), (0, (4, 0)), (1, (0, r1)), (2, (0, 0))]) (by show List.Nodup [4, 3, 0, 1, 2]; decide) (by intro q hq; simp only [List.mem_cons, List.not_mem_nil, or_false] at hq; rcases hq with rfl | rfl | rfl | rfl | rfl <;> rfl) ?_
    exact jGl_ch_77_4 hd (u := 0) (by omega) h_r1 (by rw [← hw]; exact (jlw_1 (by omega)).symm) h
  · refine jT_xiload (v := (0, 3)) (pcN := 9) jIG_307_7 rfl rfl rfl ?_
    refine jT_xbipush (k := 8) (pcN := 11) jIG_307_9 (by decide) rfl ?_
    refine jT_xicF (t := 46) (pcN := 14) jIG_307_11 rfl (by decide +kernel) rfl rfl ?_
    refine jT_xiload_n (v := (0, r1)) (pcN := 15) jIG_307_14 rfl rfl rfl ?_
    refine jT_xiload (v := (0, 3)) (pcN := 17) jIG_307_15 rfl rfl rfl ?_
    refine jT_fR [] 16 (y := 306) (pcN := 20) (dC := 2) (bc1 := 0) (bc2 := 0) (c1 := b1) (c2 := b2) (as := [(0, r1), (0, 3)]) (asC := [(0, r1), (0, 3)]) (LN := [(4, (0, 3)), (3, (0, u)), (0, (4, 0)), (1, (0, r1)), (2, (0, 0))]) (stN := []) (hsC := []) (v := (0, 0)) (st2 := [(0, 0)]) (jG_306_54 (d := 0) (by omega) (by omega)) (by rfl) (by rfl) (by decide +kernel) (by rfl) (by rfl) (by omega) (by omega) (by omega) (by omega) rfl ?_
    refine jT_xifT (pcN := 40) jIG_307_20 rfl (by decide +kernel) rfl ?_
    refine jT_xiinc (x := 3) (z := 4) (LN := [(4, (0, 4)), (3, (0, u)), (0, (4, 0)), (1, (0, r1)), (2, (0, 0))]) (pcN := 43) jIG_307_40 rfl rfl (by decide) rfl rfl ?_
    refine jT_xgoto (pcN := 7) jIG_307_43 rfl ?_
    refine jT_loc (LN := [(4, (0, 4)), (3, (0, u)), (0, (4, 0)), (1, (0, r1)), (2, (0, 0))]) (by show List.Nodup [4, 3, 0, 1, 2]; decide) (by intro q hq; simp only [List.mem_cons, List.not_mem_nil, or_false] at hq; rcases hq with rfl | rfl | rfl | rfl | rfl <;> rfl) ?_
    exact jGl_ch_77_4 hd (u := u) (by omega) h_r1 (by rw [← hw]; exact (jlw_0 (by omega)).symm) h
theorem jGl_ch_77_2 {xs : List Int} {d b1 b2 : Nat} {Q : Nat → JV → List JC → Prop} (hd : 3 < d) {r1 : Int} {u : Int} (h_u : 0 ≤ u ∧ u ≤ 2147483647) (h_r1 : 1 ≤ r1 ∧ r1 ≤ 255) {w : Int} (hw : jlw r1 [2, 3, 4, 5, 6, 7] u = w) (h : jT xs d 307 16 46 [(3, (0, w)), (0, (4, 0))] [] [jzG_18, (100, [], jS0), jgh, jgh, jgh, jgh, jgh, jgh, jgh, jgh, jgh, jgh, jgh, jgh, jgh, jgh] b1 b2 Q) : jT xs d 307 16 7 [(4, (0, 2)), (3, (0, u)), (0, (4, 0)), (1, (0, r1)), (2, (0, 0))] [] [jzG_18, (100, [], jS0), jgh, jgh, jgh, jgh, jgh, jgh, jgh, jgh, jgh, jgh, jgh, jgh, jgh, jgh] b1 b2 Q := by
  rcases (show (0 ≤ (((Int32.ofInt r1 >>> (Int32.ofInt 2 &&& 31)).toInt) % 2) - 1) ∨ ((((Int32.ofInt r1 >>> (Int32.ofInt 2 &&& 31)).toInt) % 2) - 1 < 0) by omega) with g_0 | g_0
  · refine jT_xiload (v := (0, 2)) (pcN := 9) jIG_307_7 rfl rfl rfl ?_
    refine jT_xbipush (k := 8) (pcN := 11) jIG_307_9 (by decide) rfl ?_
    refine jT_xicF (t := 46) (pcN := 14) jIG_307_11 rfl (by decide +kernel) rfl rfl ?_
    refine jT_xiload_n (v := (0, r1)) (pcN := 15) jIG_307_14 rfl rfl rfl ?_
    refine jT_xiload (v := (0, 2)) (pcN := 17) jIG_307_15 rfl rfl rfl ?_
    refine jT_fR [] 16 (y := 306) (pcN := 20) (dC := 2) (bc1 := 0) (bc2 := 0) (c1 := b1) (c2 := b2) (as := [(0, r1), (0, 2)]) (asC := [(0, r1), (0, 2)]) (LN := [(4, (0, 2)), (3, (0, u)), (0, (4, 0)), (1, (0, r1)), (2, (0, 0))]) (stN := []) (hsC := []) (v := (0, 1)) (st2 := [(0, 1)]) (jG_306_50 (d := 0) (by omega) (by omega)) (by rfl) (by rfl) (by decide +kernel) (by rfl) (by rfl) (by omega) (by omega) (by omega) (by omega) rfl ?_
    refine jT_xifF (t := 40) (pcN := 23) jIG_307_20 rfl (by decide +kernel) rfl rfl ?_
    refine jT_xiload_n (v := (0, u)) (pcN := 24) jIG_307_23 rfl rfl rfl ?_
    refine jT_xaload_n (v := (4, 0)) (pcN := 25) jIG_307_24 rfl rfl rfl ?_
    refine jT_xgetf (a := 0) (t := 1) (ci := 14) (fi := 1) (c := jzG_18) (v := (4, 1)) (pcN := 28) jIG_307_25 rfl rfl rfl rfl rfl rfl rfl ?_
    refine jT_xbipush (k := 7) (pcN := 30) jIG_307_28 (by decide) rfl ?_
    refine jT_xiload (v := (0, 2)) (pcN := 32) jIG_307_30 rfl rfl rfl ?_
    refine jT_ximul (x := 7) (y := 2) (z := 14) (pcN := 33) jIG_307_32 rfl (by decide) rfl ?_
    refine jT_xiload_n (v := (0, 0)) (pcN := 34) jIG_307_33 rfl rfl rfl ?_
    refine jT_xiadd (x := 14) (y := 0) (z := 14) (pcN := 35) jIG_307_34 rfl (by decide) rfl ?_
    refine jT_iald (x := 0) (a := 1) (j := 14) (fs := []) (X := jS0) (by rfl) (by rfl) (by rfl) (by rfl) (by decide +kernel) ?_
    refine jT_eq (LN := [(4, (0, 2)), (3, (0, u)), (0, (4, 0)), (1, (0, r1)), (2, (0, 0))]) (stN := [(0, 0), (0, u)]) (hsN := jpG_156) rfl rfl rfl ?_
    refine jT_mm1 (x := u) (y := 0) (z := 0) (by rfl) (by rfl) (by rfl) (by rfl) (jw_idd (by omega) (by omega)) (jw_idd (by omega) (by omega)) (by rw [decide_eq_false (show ¬ ((u : Int) < 0) by omega)]; rfl) ?_
    refine jT_xistore_n (v := (0, 0)) (LN := [(3, (0, 0)), (4, (0, 2)), (0, (4, 0)), (1, (0, r1)), (2, (0, 0))]) (pcN := 40) jIG_307_39 rfl rfl rfl rfl ?_
    refine jT_xiinc (x := 2) (z := 3) (LN := [(4, (0, 3)), (3, (0, 0)), (0, (4, 0)), (1, (0, r1)), (2, (0, 0))]) (pcN := 43) jIG_307_40 rfl rfl (by decide) rfl rfl ?_
    refine jT_xgoto (pcN := 7) jIG_307_43 rfl ?_
    refine jT_loc (LN := [(4, (0, 3)), (3, (0, 0)), (0, (4, 0)), (1, (0, r1)), (2, (0, 0))]) (by show List.Nodup [4, 3, 0, 1, 2]; decide) (by intro q hq; simp only [List.mem_cons, List.not_mem_nil, or_false] at hq; rcases hq with rfl | rfl | rfl | rfl | rfl <;> rfl) ?_
    exact jGl_ch_77_3 hd (u := 0) (by omega) h_r1 (by rw [← hw]; exact (jlw_1 (by omega)).symm) h
  · refine jT_xiload (v := (0, 2)) (pcN := 9) jIG_307_7 rfl rfl rfl ?_
    refine jT_xbipush (k := 8) (pcN := 11) jIG_307_9 (by decide) rfl ?_
    refine jT_xicF (t := 46) (pcN := 14) jIG_307_11 rfl (by decide +kernel) rfl rfl ?_
    refine jT_xiload_n (v := (0, r1)) (pcN := 15) jIG_307_14 rfl rfl rfl ?_
    refine jT_xiload (v := (0, 2)) (pcN := 17) jIG_307_15 rfl rfl rfl ?_
    refine jT_fR [] 16 (y := 306) (pcN := 20) (dC := 2) (bc1 := 0) (bc2 := 0) (c1 := b1) (c2 := b2) (as := [(0, r1), (0, 2)]) (asC := [(0, r1), (0, 2)]) (LN := [(4, (0, 2)), (3, (0, u)), (0, (4, 0)), (1, (0, r1)), (2, (0, 0))]) (stN := []) (hsC := []) (v := (0, 0)) (st2 := [(0, 0)]) (jG_306_49 (d := 0) (by omega) (by omega)) (by rfl) (by rfl) (by decide +kernel) (by rfl) (by rfl) (by omega) (by omega) (by omega) (by omega) rfl ?_
    refine jT_xifT (pcN := 40) jIG_307_20 rfl (by decide +kernel) rfl ?_
    refine jT_xiinc (x := 2) (z := 3) (LN := [(4, (0, 3)), (3, (0, u)), (0, (4, 0)), (1, (0, r1)), (2, (0, 0))]) (pcN := 43) jIG_307_40 rfl rfl (by decide) rfl rfl ?_
    refine jT_xgoto (pcN := 7) jIG_307_43 rfl ?_
    refine jT_loc (LN := [(4, (0, 3)), (3, (0, u)), (0, (4, 0)), (1, (0, r1)), (2, (0, 0))]) (by show List.Nodup [4, 3, 0, 1, 2]; decide) (by intro q hq; simp only [List.mem_cons, List.not_mem_nil, or_false] at hq; rcases hq with rfl | rfl | rfl | rfl | rfl <;> rfl) ?_
    exact jGl_ch_77_3 hd (u := u) (by omega) h_r1 (by rw [← hw]; exact (jlw_0 (by omega)).symm) h
theorem jGl_ch_77_1 {xs : List Int} {d b1 b2 : Nat} {Q : Nat → JV → List JC → Prop} (hd : 3 < d) {r1 : Int} {u : Int} (h_u : 0 ≤ u ∧ u ≤ 2147483647) (h_r1 : 1 ≤ r1 ∧ r1 ≤ 255) {w : Int} (hw : jlw r1 [1, 2, 3, 4, 5, 6, 7] u = w) (h : jT xs d 307 16 46 [(3, (0, w)), (0, (4, 0))] [] [jzG_18, (100, [], jS0), jgh, jgh, jgh, jgh, jgh, jgh, jgh, jgh, jgh, jgh, jgh, jgh, jgh, jgh] b1 b2 Q) : jT xs d 307 16 7 [(4, (0, 1)), (3, (0, u)), (0, (4, 0)), (1, (0, r1)), (2, (0, 0))] [] [jzG_18, (100, [], jS0), jgh, jgh, jgh, jgh, jgh, jgh, jgh, jgh, jgh, jgh, jgh, jgh, jgh, jgh] b1 b2 Q := by
  rcases (show (0 ≤ (((Int32.ofInt r1 >>> (Int32.ofInt 1 &&& 31)).toInt) % 2) - 1) ∨ ((((Int32.ofInt r1 >>> (Int32.ofInt 1 &&& 31)).toInt) % 2) - 1 < 0) by omega) with g_0 | g_0
  · refine jT_xiload (v := (0, 1)) (pcN := 9) jIG_307_7 rfl rfl rfl ?_
    refine jT_xbipush (k := 8) (pcN := 11) jIG_307_9 (by decide) rfl ?_
    refine jT_xicF (t := 46) (pcN := 14) jIG_307_11 rfl (by decide +kernel) rfl rfl ?_
    refine jT_xiload_n (v := (0, r1)) (pcN := 15) jIG_307_14 rfl rfl rfl ?_
    refine jT_xiload (v := (0, 1)) (pcN := 17) jIG_307_15 rfl rfl rfl ?_
    refine jT_fR [] 16 (y := 306) (pcN := 20) (dC := 2) (bc1 := 0) (bc2 := 0) (c1 := b1) (c2 := b2) (as := [(0, r1), (0, 1)]) (asC := [(0, r1), (0, 1)]) (LN := [(4, (0, 1)), (3, (0, u)), (0, (4, 0)), (1, (0, r1)), (2, (0, 0))]) (stN := []) (hsC := []) (v := (0, 1)) (st2 := [(0, 1)]) (jG_306_45 (d := 0) (by omega) (by omega)) (by rfl) (by rfl) (by decide +kernel) (by rfl) (by rfl) (by omega) (by omega) (by omega) (by omega) rfl ?_
    refine jT_xifF (t := 40) (pcN := 23) jIG_307_20 rfl (by decide +kernel) rfl rfl ?_
    refine jT_xiload_n (v := (0, u)) (pcN := 24) jIG_307_23 rfl rfl rfl ?_
    refine jT_xaload_n (v := (4, 0)) (pcN := 25) jIG_307_24 rfl rfl rfl ?_
    refine jT_xgetf (a := 0) (t := 1) (ci := 14) (fi := 1) (c := jzG_18) (v := (4, 1)) (pcN := 28) jIG_307_25 rfl rfl rfl rfl rfl rfl rfl ?_
    refine jT_xbipush (k := 7) (pcN := 30) jIG_307_28 (by decide) rfl ?_
    refine jT_xiload (v := (0, 1)) (pcN := 32) jIG_307_30 rfl rfl rfl ?_
    refine jT_ximul (x := 7) (y := 1) (z := 7) (pcN := 33) jIG_307_32 rfl (by decide) rfl ?_
    refine jT_xiload_n (v := (0, 0)) (pcN := 34) jIG_307_33 rfl rfl rfl ?_
    refine jT_xiadd (x := 7) (y := 0) (z := 7) (pcN := 35) jIG_307_34 rfl (by decide) rfl ?_
    refine jT_iald (x := 0) (a := 1) (j := 7) (fs := []) (X := jS0) (by rfl) (by rfl) (by rfl) (by rfl) (by decide +kernel) ?_
    refine jT_eq (LN := [(4, (0, 1)), (3, (0, u)), (0, (4, 0)), (1, (0, r1)), (2, (0, 0))]) (stN := [(0, 0), (0, u)]) (hsN := jpG_156) rfl rfl rfl ?_
    refine jT_mm1 (x := u) (y := 0) (z := 0) (by rfl) (by rfl) (by rfl) (by rfl) (jw_idd (by omega) (by omega)) (jw_idd (by omega) (by omega)) (by rw [decide_eq_false (show ¬ ((u : Int) < 0) by omega)]; rfl) ?_
    refine jT_xistore_n (v := (0, 0)) (LN := [(3, (0, 0)), (4, (0, 1)), (0, (4, 0)), (1, (0, r1)), (2, (0, 0))]) (pcN := 40) jIG_307_39 rfl rfl rfl rfl ?_
    refine jT_xiinc (x := 1) (z := 2) (LN := [(4, (0, 2)), (3, (0, 0)), (0, (4, 0)), (1, (0, r1)), (2, (0, 0))]) (pcN := 43) jIG_307_40 rfl rfl (by decide) rfl rfl ?_
    refine jT_xgoto (pcN := 7) jIG_307_43 rfl ?_
    refine jT_loc (LN := [(4, (0, 2)), (3, (0, 0)), (0, (4, 0)), (1, (0, r1)), (2, (0, 0))]) (by show List.Nodup [4, 3, 0, 1, 2]; decide) (by intro q hq; simp only [List.mem_cons, List.not_mem_nil, or_false] at hq; rcases hq with rfl | rfl | rfl | rfl | rfl <;> rfl) ?_
    exact jGl_ch_77_2 hd (u := 0) (by omega) h_r1 (by rw [← hw]; exact (jlw_1 (by omega)).symm) h
  · refine jT_xiload (v := (0, 1)) (pcN := 9) jIG_307_7 rfl rfl rfl ?_
    refine jT_xbipush (k := 8) (pcN := 11) jIG_307_9 (by decide) rfl ?_
    refine jT_xicF (t := 46) (pcN := 14) jIG_307_11 rfl (by decide +kernel) rfl rfl ?_
    refine jT_xiload_n (v := (0, r1)) (pcN := 15) jIG_307_14 rfl rfl rfl ?_
    refine jT_xiload (v := (0, 1)) (pcN := 17) jIG_307_15 rfl rfl rfl ?_
    refine jT_fR [] 16 (y := 306) (pcN := 20) (dC := 2) (bc1 := 0) (bc2 := 0) (c1 := b1) (c2 := b2) (as := [(0, r1), (0, 1)]) (asC := [(0, r1), (0, 1)]) (LN := [(4, (0, 1)), (3, (0, u)), (0, (4, 0)), (1, (0, r1)), (2, (0, 0))]) (stN := []) (hsC := []) (v := (0, 0)) (st2 := [(0, 0)]) (jG_306_44 (d := 0) (by omega) (by omega)) (by rfl) (by rfl) (by decide +kernel) (by rfl) (by rfl) (by omega) (by omega) (by omega) (by omega) rfl ?_
    refine jT_xifT (pcN := 40) jIG_307_20 rfl (by decide +kernel) rfl ?_
    refine jT_xiinc (x := 1) (z := 2) (LN := [(4, (0, 2)), (3, (0, u)), (0, (4, 0)), (1, (0, r1)), (2, (0, 0))]) (pcN := 43) jIG_307_40 rfl rfl (by decide) rfl rfl ?_
    refine jT_xgoto (pcN := 7) jIG_307_43 rfl ?_
    refine jT_loc (LN := [(4, (0, 2)), (3, (0, u)), (0, (4, 0)), (1, (0, r1)), (2, (0, 0))]) (by show List.Nodup [4, 3, 0, 1, 2]; decide) (by intro q hq; simp only [List.mem_cons, List.not_mem_nil, or_false] at hq; rcases hq with rfl | rfl | rfl | rfl | rfl <;> rfl) ?_
    exact jGl_ch_77_2 hd (u := u) (by omega) h_r1 (by rw [← hw]; exact (jlw_0 (by omega)).symm) h
theorem jGl_ch_77_0 {xs : List Int} {d b1 b2 : Nat} {Q : Nat → JV → List JC → Prop} (hd : 3 < d) {r1 : Int} {u : Int} (h_u : 0 ≤ u ∧ u ≤ 2147483647) (h_r1 : 1 ≤ r1 ∧ r1 ≤ 255) {w : Int} (hw : jlw r1 [0, 1, 2, 3, 4, 5, 6, 7] u = w) (h : jT xs d 307 16 46 [(3, (0, w)), (0, (4, 0))] [] [jzG_18, (100, [], jS0), jgh, jgh, jgh, jgh, jgh, jgh, jgh, jgh, jgh, jgh, jgh, jgh, jgh, jgh] b1 b2 Q) : jT xs d 307 16 7 [(4, (0, 0)), (3, (0, u)), (0, (4, 0)), (1, (0, r1)), (2, (0, 0))] [] [jzG_18, (100, [], jS0), jgh, jgh, jgh, jgh, jgh, jgh, jgh, jgh, jgh, jgh, jgh, jgh, jgh, jgh] b1 b2 Q := by
  rcases (show (0 ≤ (((Int32.ofInt r1 >>> (Int32.ofInt 0 &&& 31)).toInt) % 2) - 1) ∨ ((((Int32.ofInt r1 >>> (Int32.ofInt 0 &&& 31)).toInt) % 2) - 1 < 0) by omega) with g_0 | g_0
  · refine jT_xiload (v := (0, 0)) (pcN := 9) jIG_307_7 rfl rfl rfl ?_
    refine jT_xbipush (k := 8) (pcN := 11) jIG_307_9 (by decide) rfl ?_
    refine jT_xicF (t := 46) (pcN := 14) jIG_307_11 rfl (by decide +kernel) rfl rfl ?_
    refine jT_xiload_n (v := (0, r1)) (pcN := 15) jIG_307_14 rfl rfl rfl ?_
    refine jT_xiload (v := (0, 0)) (pcN := 17) jIG_307_15 rfl rfl rfl ?_
    refine jT_fR [] 16 (y := 306) (pcN := 20) (dC := 2) (bc1 := 0) (bc2 := 0) (c1 := b1) (c2 := b2) (as := [(0, r1), (0, 0)]) (asC := [(0, r1), (0, 0)]) (LN := [(4, (0, 0)), (3, (0, u)), (0, (4, 0)), (1, (0, r1)), (2, (0, 0))]) (stN := []) (hsC := []) (v := (0, 1)) (st2 := [(0, 1)]) (jG_306_39 (d := 0) (by omega) (by omega)) (by rfl) (by rfl) (by decide +kernel) (by rfl) (by rfl) (by omega) (by omega) (by omega) (by omega) rfl ?_
    refine jT_xifF (t := 40) (pcN := 23) jIG_307_20 rfl (by decide +kernel) rfl rfl ?_
    refine jT_xiload_n (v := (0, u)) (pcN := 24) jIG_307_23 rfl rfl rfl ?_
    refine jT_xaload_n (v := (4, 0)) (pcN := 25) jIG_307_24 rfl rfl rfl ?_
    refine jT_xgetf (a := 0) (t := 1) (ci := 14) (fi := 1) (c := jzG_18) (v := (4, 1)) (pcN := 28) jIG_307_25 rfl rfl rfl rfl rfl rfl rfl ?_
    refine jT_xbipush (k := 7) (pcN := 30) jIG_307_28 (by decide) rfl ?_
    refine jT_xiload (v := (0, 0)) (pcN := 32) jIG_307_30 rfl rfl rfl ?_
    refine jT_ximul (x := 7) (y := 0) (z := 0) (pcN := 33) jIG_307_32 rfl (by decide) rfl ?_
    refine jT_xiload_n (v := (0, 0)) (pcN := 34) jIG_307_33 rfl rfl rfl ?_
    refine jT_xiadd (x := 0) (y := 0) (z := 0) (pcN := 35) jIG_307_34 rfl (by decide) rfl ?_
    refine jT_iald (x := 0) (a := 1) (j := 0) (fs := []) (X := jS0) (by rfl) (by rfl) (by rfl) (by rfl) (by decide +kernel) ?_
    refine jT_eq (LN := [(4, (0, 0)), (3, (0, u)), (0, (4, 0)), (1, (0, r1)), (2, (0, 0))]) (stN := [(0, 0), (0, u)]) (hsN := jpG_156) rfl rfl rfl ?_
    refine jT_mm1 (x := u) (y := 0) (z := 0) (by rfl) (by rfl) (by rfl) (by rfl) (jw_idd (by omega) (by omega)) (jw_idd (by omega) (by omega)) (by rw [decide_eq_false (show ¬ ((u : Int) < 0) by omega)]; rfl) ?_
    refine jT_xistore_n (v := (0, 0)) (LN := [(3, (0, 0)), (4, (0, 0)), (0, (4, 0)), (1, (0, r1)), (2, (0, 0))]) (pcN := 40) jIG_307_39 rfl rfl rfl rfl ?_
    refine jT_xiinc (x := 0) (z := 1) (LN := [(4, (0, 1)), (3, (0, 0)), (0, (4, 0)), (1, (0, r1)), (2, (0, 0))]) (pcN := 43) jIG_307_40 rfl rfl (by decide) rfl rfl ?_
    refine jT_xgoto (pcN := 7) jIG_307_43 rfl ?_
    refine jT_loc (LN := [(4, (0, 1)), (3, (0, 0)), (0, (4, 0)), (1, (0, r1)), (2, (0, 0))]) (by show List.Nodup [4, 3, 0, 1, 2]; decide) (by intro q hq; simp only [List.mem_cons, List.not_mem_nil, or_false] at hq; rcases hq with rfl | rfl | rfl | rfl | rfl <;> rfl) ?_
    exact jGl_ch_77_1 hd (u := 0) (by omega) h_r1 (by rw [← hw]; exact (jlw_1 (by omega)).symm) h
  · refine jT_xiload (v := (0, 0)) (pcN := 9) jIG_307_7 rfl rfl rfl ?_
    refine jT_xbipush (k := 8) (pcN := 11) jIG_307_9 (by decide) rfl ?_
    refine jT_xicF (t := 46) (pcN := 14) jIG_307_11 rfl (by decide +kernel) rfl rfl ?_
    refine jT_xiload_n (v := (0, r1)) (pcN := 15) jIG_307_14 rfl rfl rfl ?_
    refine jT_xiload (v := (0, 0)) (pcN := 17) jIG_307_15 rfl rfl rfl ?_
    refine jT_fR [] 16 (y := 306) (pcN := 20) (dC := 2) (bc1 := 0) (bc2 := 0) (c1 := b1) (c2 := b2) (as := [(0, r1), (0, 0)]) (asC := [(0, r1), (0, 0)]) (LN := [(4, (0, 0)), (3, (0, u)), (0, (4, 0)), (1, (0, r1)), (2, (0, 0))]) (stN := []) (hsC := []) (v := (0, 0)) (st2 := [(0, 0)]) (jG_306_38 (d := 0) (by omega) (by omega)) (by rfl) (by rfl) (by decide +kernel) (by rfl) (by rfl) (by omega) (by omega) (by omega) (by omega) rfl ?_
    refine jT_xifT (pcN := 40) jIG_307_20 rfl (by decide +kernel) rfl ?_
    refine jT_xiinc (x := 0) (z := 1) (LN := [(4, (0, 1)), (3, (0, u)), (0, (4, 0)), (1, (0, r1)), (2, (0, 0))]) (pcN := 43) jIG_307_40 rfl rfl (by decide) rfl rfl ?_
    refine jT_xgoto (pcN := 7) jIG_307_43 rfl ?_
    refine jT_loc (LN := [(4, (0, 1)), (3, (0, u)), (0, (4, 0)), (1, (0, r1)), (2, (0, 0))]) (by show List.Nodup [4, 3, 0, 1, 2]; decide) (by intro q hq; simp only [List.mem_cons, List.not_mem_nil, or_false] at hq; rcases hq with rfl | rfl | rfl | rfl | rfl <;> rfl) ?_
    exact jGl_ch_77_1 hd (u := u) (by omega) h_r1 (by rw [← hw]; exact (jlw_0 (by omega)).symm) h
theorem jIG_307_46 : jmI (jm 307) 46 = (.iload_n 3, 1) := by rfl
theorem jG_307_78 {xs : List Int} {d : Nat} {x1 : Int} (h_x1 : 1 ≤ x1 ∧ x1 ≤ 255) : jT xs (d + 4) 307 16 0 [(0, (4, 0)), (1, (0, x1)), (2, (0, 0))] [] jpG_156 0 0 (fun k v hsN => k = 0 ∧ v = (0, jlw x1 [0, 1, 2, 3, 4, 5, 6, 7] 2147483647) ∧ hsN = jpG_156 ++ []) := by
  refine jT_adv 1 (pcN := 3) (LN := [(0, (4, 0)), (1, (0, x1)), (2, (0, 0))]) (stN := [(0, 2147483647)]) (hsN := jpG_156) (c1 := 0) (s1 := 0) (c2 := 0) (s2 := 0) (by exact rfl) ?_ (by omega) (by omega)
  refine jT_xistore_n (v := (0, 2147483647)) (LN := [(3, (0, 2147483647)), (0, (4, 0)), (1, (0, x1)), (2, (0, 0))]) (pcN := 4) jIG_307_3 rfl rfl rfl rfl ?_
  refine jT_xiconst (k := 0) (pcN := 5) jIG_307_4 rfl ?_
  refine jT_xistore (v := (0, 0)) (LN := [(4, (0, 0)), (3, (0, 2147483647)), (0, (4, 0)), (1, (0, x1)), (2, (0, 0))]) (pcN := 7) jIG_307_5 rfl rfl rfl rfl ?_
  refine jT_loc (LN := [(4, (0, 0)), (3, (0, 2147483647)), (0, (4, 0)), (1, (0, x1)), (2, (0, 0))]) (by show List.Nodup [4, 3, 0, 1, 2]; decide) (by intro q hq; simp only [List.mem_cons, List.not_mem_nil, or_false] at hq; rcases hq with rfl | rfl | rfl | rfl | rfl <;> rfl) ?_
  refine jGl_ch_77_0 (by omega) (u := 2147483647) (by omega) (r1 := x1) (by omega) rfl ?_
  have hb_q1 := jlw_b (c := x1) (r := [0, 1, 2, 3, 4, 5, 6, 7]) (l := 2147483647) (by decide) (by decide)
  generalize hq_q1 : jlw x1 [0, 1, 2, 3, 4, 5, 6, 7] 2147483647 = q1 at hb_q1 ⊢
  refine jT_xiload_n (v := (0, q1)) (pcN := 47) jIG_307_46 rfl rfl rfl ?_
  subst hq_q1
  exact jT_ret rfl (by decide) (by show 16 ≤ 16; omega) (by omega) (by omega) ⟨rfl, rfl, rfl⟩
theorem jGl_ch_79_8 {xs : List Int} {d b1 b2 : Nat} {Q : Nat → JV → List JC → Prop} (hd : 3 < d) {r1 : Int} {u : Int} (h_u : 0 ≤ u ∧ u ≤ 2147483647) (h_r1 : 1 ≤ r1 ∧ r1 ≤ 255) {w : Int} (hw : jlw r1 [] u = w) (h : jT xs d 307 16 46 [(3, (0, w)), (0, (4, 0))] [] [jzG_18, (100, [], jS0), jgh, jgh, jgh, jgh, jgh, jgh, jgh, jgh, jgh, jgh, jgh, jgh, jgh, jgh] b1 b2 Q) : jT xs d 307 16 7 [(4, (0, 8)), (3, (0, u)), (0, (4, 0)), (1, (0, r1)), (2, (0, 1))] [] [jzG_18, (100, [], jS0), jgh, jgh, jgh, jgh, jgh, jgh, jgh, jgh, jgh, jgh, jgh, jgh, jgh, jgh] b1 b2 Q := by
  have e : u = w := hw
  subst e
  refine jT_xiload (v := (0, 8)) (pcN := 9) jIG_307_7 rfl rfl rfl ?_
  refine jT_xbipush (k := 8) (pcN := 11) jIG_307_9 (by decide) rfl ?_
  refine jT_xicT (pcN := 46) jIG_307_11 rfl (by decide +kernel) rfl ?_
  refine jT_loc (LN := [(3, (0, u)), (0, (4, 0))]) (by show List.Nodup [3, 0]; decide) (by intro q hq; simp only [List.mem_cons, List.not_mem_nil, or_false] at hq; rcases hq with rfl | rfl <;> rfl) ?_
  exact h
theorem jGl_ch_79_7 {xs : List Int} {d b1 b2 : Nat} {Q : Nat → JV → List JC → Prop} (hd : 3 < d) {r1 : Int} {u : Int} (h_u : 0 ≤ u ∧ u ≤ 2147483647) (h_r1 : 1 ≤ r1 ∧ r1 ≤ 255) {w : Int} (hw : jlw r1 [7] u = w) (h : jT xs d 307 16 46 [(3, (0, w)), (0, (4, 0))] [] [jzG_18, (100, [], jS0), jgh, jgh, jgh, jgh, jgh, jgh, jgh, jgh, jgh, jgh, jgh, jgh, jgh, jgh] b1 b2 Q) : jT xs d 307 16 7 [(4, (0, 7)), (3, (0, u)), (0, (4, 0)), (1, (0, r1)), (2, (0, 1))] [] [jzG_18, (100, [], jS0), jgh, jgh, jgh, jgh, jgh, jgh, jgh, jgh, jgh, jgh, jgh, jgh, jgh, jgh] b1 b2 Q := by
  rcases (show (0 ≤ (((Int32.ofInt r1 >>> (Int32.ofInt 7 &&& 31)).toInt) % 2) - 1) ∨ ((((Int32.ofInt r1 >>> (Int32.ofInt 7 &&& 31)).toInt) % 2) - 1 < 0) by omega) with g_0 | g_0
  · refine jT_xiload (v := (0, 7)) (pcN := 9) jIG_307_7 rfl rfl rfl ?_
    refine jT_xbipush (k := 8) (pcN := 11) jIG_307_9 (by decide) rfl ?_
    refine jT_xicF (t := 46) (pcN := 14) jIG_307_11 rfl (by decide +kernel) rfl rfl ?_
    refine jT_xiload_n (v := (0, r1)) (pcN := 15) jIG_307_14 rfl rfl rfl ?_
    refine jT_xiload (v := (0, 7)) (pcN := 17) jIG_307_15 rfl rfl rfl ?_
    refine jT_fR [] 16 (y := 306) (pcN := 20) (dC := 2) (bc1 := 0) (bc2 := 0) (c1 := b1) (c2 := b2) (as := [(0, r1), (0, 7)]) (asC := [(0, r1), (0, 7)]) (LN := [(4, (0, 7)), (3, (0, u)), (0, (4, 0)), (1, (0, r1)), (2, (0, 1))]) (stN := []) (hsC := []) (v := (0, 1)) (st2 := [(0, 1)]) (jG_306_75 (d := 0) (by omega) (by omega)) (by rfl) (by rfl) (by decide +kernel) (by rfl) (by rfl) (by omega) (by omega) (by omega) (by omega) rfl ?_
    refine jT_xifF (t := 40) (pcN := 23) jIG_307_20 rfl (by decide +kernel) rfl rfl ?_
    refine jT_xiload_n (v := (0, u)) (pcN := 24) jIG_307_23 rfl rfl rfl ?_
    refine jT_xaload_n (v := (4, 0)) (pcN := 25) jIG_307_24 rfl rfl rfl ?_
    refine jT_xgetf (a := 0) (t := 1) (ci := 14) (fi := 1) (c := jzG_18) (v := (4, 1)) (pcN := 28) jIG_307_25 rfl rfl rfl rfl rfl rfl rfl ?_
    refine jT_xbipush (k := 7) (pcN := 30) jIG_307_28 (by decide) rfl ?_
    refine jT_xiload (v := (0, 7)) (pcN := 32) jIG_307_30 rfl rfl rfl ?_
    refine jT_ximul (x := 7) (y := 7) (z := 49) (pcN := 33) jIG_307_32 rfl (by decide) rfl ?_
    refine jT_xiload_n (v := (0, 1)) (pcN := 34) jIG_307_33 rfl rfl rfl ?_
    refine jT_xiadd (x := 49) (y := 1) (z := 50) (pcN := 35) jIG_307_34 rfl (by decide) rfl ?_
    refine jT_iald (x := 0) (a := 1) (j := 50) (fs := []) (X := jS0) (by rfl) (by rfl) (by rfl) (by rfl) (by decide +kernel) ?_
    refine jT_eq (LN := [(4, (0, 7)), (3, (0, u)), (0, (4, 0)), (1, (0, r1)), (2, (0, 1))]) (stN := [(0, 0), (0, u)]) (hsN := jpG_156) rfl rfl rfl ?_
    refine jT_mm1 (x := u) (y := 0) (z := 0) (by rfl) (by rfl) (by rfl) (by rfl) (jw_idd (by omega) (by omega)) (jw_idd (by omega) (by omega)) (by rw [decide_eq_false (show ¬ ((u : Int) < 0) by omega)]; rfl) ?_
    refine jT_xistore_n (v := (0, 0)) (LN := [(3, (0, 0)), (4, (0, 7)), (0, (4, 0)), (1, (0, r1)), (2, (0, 1))]) (pcN := 40) jIG_307_39 rfl rfl rfl rfl ?_
    refine jT_xiinc (x := 7) (z := 8) (LN := [(4, (0, 8)), (3, (0, 0)), (0, (4, 0)), (1, (0, r1)), (2, (0, 1))]) (pcN := 43) jIG_307_40 rfl rfl (by decide) rfl rfl ?_
    refine jT_xgoto (pcN := 7) jIG_307_43 rfl ?_
    refine jT_loc (LN := [(4, (0, 8)), (3, (0, 0)), (0, (4, 0)), (1, (0, r1)), (2, (0, 1))]) (by show List.Nodup [4, 3, 0, 1, 2]; decide) (by intro q hq; simp only [List.mem_cons, List.not_mem_nil, or_false] at hq; rcases hq with rfl | rfl | rfl | rfl | rfl <;> rfl) ?_
    exact jGl_ch_79_8 hd (u := 0) (by omega) h_r1 (by rw [← hw]; exact (jlw_1 (by omega)).symm) h
  · refine jT_xiload (v := (0, 7)) (pcN := 9) jIG_307_7 rfl rfl rfl ?_
    refine jT_xbipush (k := 8) (pcN := 11) jIG_307_9 (by decide) rfl ?_
    refine jT_xicF (t := 46) (pcN := 14) jIG_307_11 rfl (by decide +kernel) rfl rfl ?_
    refine jT_xiload_n (v := (0, r1)) (pcN := 15) jIG_307_14 rfl rfl rfl ?_
    refine jT_xiload (v := (0, 7)) (pcN := 17) jIG_307_15 rfl rfl rfl ?_
    refine jT_fR [] 16 (y := 306) (pcN := 20) (dC := 2) (bc1 := 0) (bc2 := 0) (c1 := b1) (c2 := b2) (as := [(0, r1), (0, 7)]) (asC := [(0, r1), (0, 7)]) (LN := [(4, (0, 7)), (3, (0, u)), (0, (4, 0)), (1, (0, r1)), (2, (0, 1))]) (stN := []) (hsC := []) (v := (0, 0)) (st2 := [(0, 0)]) (jG_306_74 (d := 0) (by omega) (by omega)) (by rfl) (by rfl) (by decide +kernel) (by rfl) (by rfl) (by omega) (by omega) (by omega) (by omega) rfl ?_
    refine jT_xifT (pcN := 40) jIG_307_20 rfl (by decide +kernel) rfl ?_
    refine jT_xiinc (x := 7) (z := 8) (LN := [(4, (0, 8)), (3, (0, u)), (0, (4, 0)), (1, (0, r1)), (2, (0, 1))]) (pcN := 43) jIG_307_40 rfl rfl (by decide) rfl rfl ?_
    refine jT_xgoto (pcN := 7) jIG_307_43 rfl ?_
    refine jT_loc (LN := [(4, (0, 8)), (3, (0, u)), (0, (4, 0)), (1, (0, r1)), (2, (0, 1))]) (by show List.Nodup [4, 3, 0, 1, 2]; decide) (by intro q hq; simp only [List.mem_cons, List.not_mem_nil, or_false] at hq; rcases hq with rfl | rfl | rfl | rfl | rfl <;> rfl) ?_
    exact jGl_ch_79_8 hd (u := u) (by omega) h_r1 (by rw [← hw]; exact (jlw_0 (by omega)).symm) h
theorem jGl_ch_79_6 {xs : List Int} {d b1 b2 : Nat} {Q : Nat → JV → List JC → Prop} (hd : 3 < d) {r1 : Int} {u : Int} (h_u : 0 ≤ u ∧ u ≤ 2147483647) (h_r1 : 1 ≤ r1 ∧ r1 ≤ 255) {w : Int} (hw : jlw r1 [6, 7] u = w) (h : jT xs d 307 16 46 [(3, (0, w)), (0, (4, 0))] [] [jzG_18, (100, [], jS0), jgh, jgh, jgh, jgh, jgh, jgh, jgh, jgh, jgh, jgh, jgh, jgh, jgh, jgh] b1 b2 Q) : jT xs d 307 16 7 [(4, (0, 6)), (3, (0, u)), (0, (4, 0)), (1, (0, r1)), (2, (0, 1))] [] [jzG_18, (100, [], jS0), jgh, jgh, jgh, jgh, jgh, jgh, jgh, jgh, jgh, jgh, jgh, jgh, jgh, jgh] b1 b2 Q := by
  rcases (show (0 ≤ (((Int32.ofInt r1 >>> (Int32.ofInt 6 &&& 31)).toInt) % 2) - 1) ∨ ((((Int32.ofInt r1 >>> (Int32.ofInt 6 &&& 31)).toInt) % 2) - 1 < 0) by omega) with g_0 | g_0
  · refine jT_xiload (v := (0, 6)) (pcN := 9) jIG_307_7 rfl rfl rfl ?_
    refine jT_xbipush (k := 8) (pcN := 11) jIG_307_9 (by decide) rfl ?_
    refine jT_xicF (t := 46) (pcN := 14) jIG_307_11 rfl (by decide +kernel) rfl rfl ?_
    refine jT_xiload_n (v := (0, r1)) (pcN := 15) jIG_307_14 rfl rfl rfl ?_
    refine jT_xiload (v := (0, 6)) (pcN := 17) jIG_307_15 rfl rfl rfl ?_
    refine jT_fR [] 16 (y := 306) (pcN := 20) (dC := 2) (bc1 := 0) (bc2 := 0) (c1 := b1) (c2 := b2) (as := [(0, r1), (0, 6)]) (asC := [(0, r1), (0, 6)]) (LN := [(4, (0, 6)), (3, (0, u)), (0, (4, 0)), (1, (0, r1)), (2, (0, 1))]) (stN := []) (hsC := []) (v := (0, 1)) (st2 := [(0, 1)]) (jG_306_70 (d := 0) (by omega) (by omega)) (by rfl) (by rfl) (by decide +kernel) (by rfl) (by rfl) (by omega) (by omega) (by omega) (by omega) rfl ?_
    refine jT_xifF (t := 40) (pcN := 23) jIG_307_20 rfl (by decide +kernel) rfl rfl ?_
    refine jT_xiload_n (v := (0, u)) (pcN := 24) jIG_307_23 rfl rfl rfl ?_
    refine jT_xaload_n (v := (4, 0)) (pcN := 25) jIG_307_24 rfl rfl rfl ?_
    refine jT_xgetf (a := 0) (t := 1) (ci := 14) (fi := 1) (c := jzG_18) (v := (4, 1)) (pcN := 28) jIG_307_25 rfl rfl rfl rfl rfl rfl rfl ?_
    refine jT_xbipush (k := 7) (pcN := 30) jIG_307_28 (by decide) rfl ?_
    refine jT_xiload (v := (0, 6)) (pcN := 32) jIG_307_30 rfl rfl rfl ?_
    refine jT_ximul (x := 7) (y := 6) (z := 42) (pcN := 33) jIG_307_32 rfl (by decide) rfl ?_
    refine jT_xiload_n (v := (0, 1)) (pcN := 34) jIG_307_33 rfl rfl rfl ?_
    refine jT_xiadd (x := 42) (y := 1) (z := 43) (pcN := 35) jIG_307_34 rfl (by decide) rfl ?_
    refine jT_iald (x := 0) (a := 1) (j := 43) (fs := []) (X := jS0) (by rfl) (by rfl) (by rfl) (by rfl) (by decide +kernel) ?_
    refine jT_eq (LN := [(4, (0, 6)), (3, (0, u)), (0, (4, 0)), (1, (0, r1)), (2, (0, 1))]) (stN := [(0, 0), (0, u)]) (hsN := jpG_156) rfl rfl rfl ?_
    refine jT_mm1 (x := u) (y := 0) (z := 0) (by rfl) (by rfl) (by rfl) (by rfl) (jw_idd (by omega) (by omega)) (jw_idd (by omega) (by omega)) (by rw [decide_eq_false (show ¬ ((u : Int) < 0) by omega)]; rfl) ?_
    refine jT_xistore_n (v := (0, 0)) (LN := [(3, (0, 0)), (4, (0, 6)), (0, (4, 0)), (1, (0, r1)), (2, (0, 1))]) (pcN := 40) jIG_307_39 rfl rfl rfl rfl ?_
    refine jT_xiinc (x := 6) (z := 7) (LN := [(4, (0, 7)), (3, (0, 0)), (0, (4, 0)), (1, (0, r1)), (2, (0, 1))]) (pcN := 43) jIG_307_40 rfl rfl (by decide) rfl rfl ?_
    refine jT_xgoto (pcN := 7) jIG_307_43 rfl ?_
    refine jT_loc (LN := [(4, (0, 7)), (3, (0, 0)), (0, (4, 0)), (1, (0, r1)), (2, (0, 1))]) (by show List.Nodup [4, 3, 0, 1, 2]; decide) (by intro q hq; simp only [List.mem_cons, List.not_mem_nil, or_false] at hq; rcases hq with rfl | rfl | rfl | rfl | rfl <;> rfl) ?_
    exact jGl_ch_79_7 hd (u := 0) (by omega) h_r1 (by rw [← hw]; exact (jlw_1 (by omega)).symm) h
  · refine jT_xiload (v := (0, 6)) (pcN := 9) jIG_307_7 rfl rfl rfl ?_
    refine jT_xbipush (k := 8) (pcN := 11) jIG_307_9 (by decide) rfl ?_
    refine jT_xicF (t := 46) (pcN := 14) jIG_307_11 rfl (by decide +kernel) rfl rfl ?_
    refine jT_xiload_n (v := (0, r1)) (pcN := 15) jIG_307_14 rfl rfl rfl ?_
    refine jT_xiload (v := (0, 6)) (pcN := 17) jIG_307_15 rfl rfl rfl ?_
    refine jT_fR [] 16 (y := 306) (pcN := 20) (dC := 2) (bc1 := 0) (bc2 := 0) (c1 := b1) (c2 := b2) (as := [(0, r1), (0, 6)]) (asC := [(0, r1), (0, 6)]) (LN := [(4, (0, 6)), (3, (0, u)), (0, (4, 0)), (1, (0, r1)), (2, (0, 1))]) (stN := []) (hsC := []) (v := (0, 0)) (st2 := [(0, 0)]) (jG_306_69 (d := 0) (by omega) (by omega)) (by rfl) (by rfl) (by decide +kernel) (by rfl) (by rfl) (by omega) (by omega) (by omega) (by omega) rfl ?_
    refine jT_xifT (pcN := 40) jIG_307_20 rfl (by decide +kernel) rfl ?_
    refine jT_xiinc (x := 6) (z := 7) (LN := [(4, (0, 7)), (3, (0, u)), (0, (4, 0)), (1, (0, r1)), (2, (0, 1))]) (pcN := 43) jIG_307_40 rfl rfl (by decide) rfl rfl ?_
    refine jT_xgoto (pcN := 7) jIG_307_43 rfl ?_
    refine jT_loc (LN := [(4, (0, 7)), (3, (0, u)), (0, (4, 0)), (1, (0, r1)), (2, (0, 1))]) (by show List.Nodup [4, 3, 0, 1, 2]; decide) (by intro q hq; simp only [List.mem_cons, List.not_mem_nil, or_false] at hq; rcases hq with rfl | rfl | rfl | rfl | rfl <;> rfl) ?_
    exact jGl_ch_79_7 hd (u := u) (by omega) h_r1 (by rw [← hw]; exact (jlw_0 (by omega)).symm) h
theorem jGl_ch_79_5 {xs : List Int} {d b1 b2 : Nat} {Q : Nat → JV → List JC → Prop} (hd : 3 < d) {r1 : Int} {u : Int} (h_u : 0 ≤ u ∧ u ≤ 2147483647) (h_r1 : 1 ≤ r1 ∧ r1 ≤ 255) {w : Int} (hw : jlw r1 [5, 6, 7] u = w) (h : jT xs d 307 16 46 [(3, (0, w)), (0, (4, 0))] [] [jzG_18, (100, [], jS0), jgh, jgh, jgh, jgh, jgh, jgh, jgh, jgh, jgh, jgh, jgh, jgh, jgh, jgh] b1 b2 Q) : jT xs d 307 16 7 [(4, (0, 5)), (3, (0, u)), (0, (4, 0)), (1, (0, r1)), (2, (0, 1))] [] [jzG_18, (100, [], jS0), jgh, jgh, jgh, jgh, jgh, jgh, jgh, jgh, jgh, jgh, jgh, jgh, jgh, jgh] b1 b2 Q := by
  rcases (show (0 ≤ (((Int32.ofInt r1 >>> (Int32.ofInt 5 &&& 31)).toInt) % 2) - 1) ∨ ((((Int32.ofInt r1 >>> (Int32.ofInt 5 &&& 31)).toInt) % 2) - 1 < 0) by omega) with g_0 | g_0
  · refine jT_xiload (v := (0, 5)) (pcN := 9) jIG_307_7 rfl rfl rfl ?_
    refine jT_xbipush (k := 8) (pcN := 11) jIG_307_9 (by decide) rfl ?_
    refine jT_xicF (t := 46) (pcN := 14) jIG_307_11 rfl (by decide +kernel) rfl rfl ?_
    refine jT_xiload_n (v := (0, r1)) (pcN := 15) jIG_307_14 rfl rfl rfl ?_
    refine jT_xiload (v := (0, 5)) (pcN := 17) jIG_307_15 rfl rfl rfl ?_
    refine jT_fR [] 16 (y := 306) (pcN := 20) (dC := 2) (bc1 := 0) (bc2 := 0) (c1 := b1) (c2 := b2) (as := [(0, r1), (0, 5)]) (asC := [(0, r1), (0, 5)]) (LN := [(4, (0, 5)), (3, (0, u)), (0, (4, 0)), (1, (0, r1)), (2, (0, 1))]) (stN := []) (hsC := []) (v := (0, 1)) (st2 := [(0, 1)]) (jG_306_65 (d := 0) (by omega) (by omega)) (by rfl) (by rfl) (by decide +kernel) (by rfl) (by rfl) (by omega) (by omega) (by omega) (by omega) rfl ?_
    refine jT_xifF (t := 40) (pcN := 23) jIG_307_20 rfl (by decide +kernel) rfl rfl ?_
    refine jT_xiload_n (v := (0, u)) (pcN := 24) jIG_307_23 rfl rfl rfl ?_
    refine jT_xaload_n (v := (4, 0)) (pcN := 25) jIG_307_24 rfl rfl rfl ?_
    refine jT_xgetf (a := 0) (t := 1) (ci := 14) (fi := 1) (c := jzG_18) (v := (4, 1)) (pcN := 28) jIG_307_25 rfl rfl rfl rfl rfl rfl rfl ?_
    refine jT_xbipush (k := 7) (pcN := 30) jIG_307_28 (by decide) rfl ?_
    refine jT_xiload (v := (0, 5)) (pcN := 32) jIG_307_30 rfl rfl rfl ?_
    refine jT_ximul (x := 7) (y := 5) (z := 35) (pcN := 33) jIG_307_32 rfl (by decide) rfl ?_
    refine jT_xiload_n (v := (0, 1)) (pcN := 34) jIG_307_33 rfl rfl rfl ?_
    refine jT_xiadd (x := 35) (y := 1) (z := 36) (pcN := 35) jIG_307_34 rfl (by decide) rfl ?_
    refine jT_iald (x := 0) (a := 1) (j := 36) (fs := []) (X := jS0) (by rfl) (by rfl) (by rfl) (by rfl) (by decide +kernel) ?_
    refine jT_eq (LN := [(4, (0, 5)), (3, (0, u)), (0, (4, 0)), (1, (0, r1)), (2, (0, 1))]) (stN := [(0, 0), (0, u)]) (hsN := jpG_156) rfl rfl rfl ?_
    refine jT_mm1 (x := u) (y := 0) (z := 0) (by rfl) (by rfl) (by rfl) (by rfl) (jw_idd (by omega) (by omega)) (jw_idd (by omega) (by omega)) (by rw [decide_eq_false (show ¬ ((u : Int) < 0) by omega)]; rfl) ?_
    refine jT_xistore_n (v := (0, 0)) (LN := [(3, (0, 0)), (4, (0, 5)), (0, (4, 0)), (1, (0, r1)), (2, (0, 1))]) (pcN := 40) jIG_307_39 rfl rfl rfl rfl ?_
    refine jT_xiinc (x := 5) (z := 6) (LN := [(4, (0, 6)), (3, (0, 0)), (0, (4, 0)), (1, (0, r1)), (2, (0, 1))]) (pcN := 43) jIG_307_40 rfl rfl (by decide) rfl rfl ?_
    refine jT_xgoto (pcN := 7) jIG_307_43 rfl ?_
    refine jT_loc (LN := [(4, (0, 6)), (3, (0, 0)), (0, (4, 0)), (1, (0, r1)), (2, (0, 1))]) (by show List.Nodup [4, 3, 0, 1, 2]; decide) (by intro q hq; simp only [List.mem_cons, List.not_mem_nil, or_false] at hq; rcases hq with rfl | rfl | rfl | rfl | rfl <;> rfl) ?_
    exact jGl_ch_79_6 hd (u := 0) (by omega) h_r1 (by rw [← hw]; exact (jlw_1 (by omega)).symm) h
  · refine jT_xiload (v := (0, 5)) (pcN := 9) jIG_307_7 rfl rfl rfl ?_
    refine jT_xbipush (k := 8) (pcN := 11) jIG_307_9 (by decide) rfl ?_
    refine jT_xicF (t := 46) (pcN := 14) jIG_307_11 rfl (by decide +kernel) rfl rfl ?_
    refine jT_xiload_n (v := (0, r1)) (pcN := 15) jIG_307_14 rfl rfl rfl ?_
    refine jT_xiload (v := (0, 5)) (pcN := 17) jIG_307_15 rfl rfl rfl ?_
    refine jT_fR [] 16 (y := 306) (pcN := 20) (dC := 2) (bc1 := 0) (bc2 := 0) (c1 := b1) (c2 := b2) (as := [(0, r1), (0, 5)]) (asC := [(0, r1), (0, 5)]) (LN := [(4, (0, 5)), (3, (0, u)), (0, (4, 0)), (1, (0, r1)), (2, (0, 1))]) (stN := []) (hsC := []) (v := (0, 0)) (st2 := [(0, 0)]) (jG_306_64 (d := 0) (by omega) (by omega)) (by rfl) (by rfl) (by decide +kernel) (by rfl) (by rfl) (by omega) (by omega) (by omega) (by omega) rfl ?_
    refine jT_xifT (pcN := 40) jIG_307_20 rfl (by decide +kernel) rfl ?_
    refine jT_xiinc (x := 5) (z := 6) (LN := [(4, (0, 6)), (3, (0, u)), (0, (4, 0)), (1, (0, r1)), (2, (0, 1))]) (pcN := 43) jIG_307_40 rfl rfl (by decide) rfl rfl ?_
    refine jT_xgoto (pcN := 7) jIG_307_43 rfl ?_
    refine jT_loc (LN := [(4, (0, 6)), (3, (0, u)), (0, (4, 0)), (1, (0, r1)), (2, (0, 1))]) (by show List.Nodup [4, 3, 0, 1, 2]; decide) (by intro q hq; simp only [List.mem_cons, List.not_mem_nil, or_false] at hq; rcases hq with rfl | rfl | rfl | rfl | rfl <;> rfl) ?_
    exact jGl_ch_79_6 hd (u := u) (by omega) h_r1 (by rw [← hw]; exact (jlw_0 (by omega)).symm) h
theorem jGl_ch_79_4 {xs : List Int} {d b1 b2 : Nat} {Q : Nat → JV → List JC → Prop} (hd : 3 < d) {r1 : Int} {u : Int} (h_u : 0 ≤ u ∧ u ≤ 2147483647) (h_r1 : 1 ≤ r1 ∧ r1 ≤ 255) {w : Int} (hw : jlw r1 [4, 5, 6, 7] u = w) (h : jT xs d 307 16 46 [(3, (0, w)), (0, (4, 0))] [] [jzG_18, (100, [], jS0), jgh, jgh, jgh, jgh, jgh, jgh, jgh, jgh, jgh, jgh, jgh, jgh, jgh, jgh] b1 b2 Q) : jT xs d 307 16 7 [(4, (0, 4)), (3, (0, u)), (0, (4, 0)), (1, (0, r1)), (2, (0, 1))] [] [jzG_18, (100, [], jS0), jgh, jgh, jgh, jgh, jgh, jgh, jgh, jgh, jgh, jgh, jgh, jgh, jgh, jgh] b1 b2 Q := by
  rcases (show (0 ≤ (((Int32.ofInt r1 >>> (Int32.ofInt 4 &&& 31)).toInt) % 2) - 1) ∨ ((((Int32.ofInt r1 >>> (Int32.ofInt 4 &&& 31)).toInt) % 2) - 1 < 0) by omega) with g_0 | g_0
  · refine jT_xiload (v := (0, 4)) (pcN := 9) jIG_307_7 rfl rfl rfl ?_
    refine jT_xbipush (k := 8) (pcN := 11) jIG_307_9 (by decide) rfl ?_
    refine jT_xicF (t := 46) (pcN := 14) jIG_307_11 rfl (by decide +kernel) rfl rfl ?_
    refine jT_xiload_n (v := (0, r1)) (pcN := 15) jIG_307_14 rfl rfl rfl ?_
    refine jT_xiload (v := (0, 4)) (pcN := 17) jIG_307_15 rfl rfl rfl ?_
    refine jT_fR [] 16 (y := 306) (pcN := 20) (dC := 2) (bc1 := 0) (bc2 := 0) (c1 := b1) (c2 := b2) (as := [(0, r1), (0, 4)]) (asC := [(0, r1), (0, 4)]) (LN := [(4, (0, 4)), (3, (0, u)), (0, (4, 0)), (1, (0, r1)), (2, (0, 1))]) (stN := []) (hsC := []) (v := (0, 1)) (st2 := [(0, 1)]) (jG_306_60 (d := 0) (by omega) (by omega)) (by rfl) (by rfl) (by decide +kernel) (by rfl) (by rfl) (by omega) (by omega) (by omega) (by omega) rfl ?_
    refine jT_xifF (t := 40) (pcN := 23) jIG_307_20 rfl (by decide +kernel) rfl rfl ?_
    refine jT_xiload_n (v := (0, u)) (pcN := 24) jIG_307_23 rfl rfl rfl ?_
    refine jT_xaload_n (v := (4, 0)) (pcN := 25) jIG_307_24 rfl rfl rfl ?_
    refine jT_xgetf (a := 0) (t := 1) (ci := 14) (fi := 1) (c := jzG_18) (v := (4, 1)) (pcN := 28) jIG_307_25 rfl rfl rfl rfl rfl rfl rfl ?_
    refine jT_xbipush (k := 7) (pcN := 30) jIG_307_28 (by decide) rfl ?_
    refine jT_xiload (v := (0, 4)) (pcN := 32) jIG_307_30 rfl rfl rfl ?_
    refine jT_ximul (x := 7) (y := 4) (z := 28) (pcN := 33) jIG_307_32 rfl (by decide) rfl ?_
    refine jT_xiload_n (v := (0, 1)) (pcN := 34) jIG_307_33 rfl rfl rfl ?_
    refine jT_xiadd (x := 28) (y := 1) (z := 29) (pcN := 35) jIG_307_34 rfl (by decide) rfl ?_
    refine jT_iald (x := 0) (a := 1) (j := 29) (fs := []) (X := jS0) (by rfl) (by rfl) (by rfl) (by rfl) (by decide +kernel) ?_
    refine jT_eq (LN := [(4, (0, 4)), (3, (0, u)), (0, (4, 0)), (1, (0, r1)), (2, (0, 1))]) (stN := [(0, 0), (0, u)]) (hsN := jpG_156) rfl rfl rfl ?_
    refine jT_mm1 (x := u) (y := 0) (z := 0) (by rfl) (by rfl) (by rfl) (by rfl) (jw_idd (by omega) (by omega)) (jw_idd (by omega) (by omega)) (by rw [decide_eq_false (show ¬ ((u : Int) < 0) by omega)]; rfl) ?_
    refine jT_xistore_n (v := (0, 0)) (LN := [(3, (0, 0)), (4, (0, 4)), (0, (4, 0)), (1, (0, r1)), (2, (0, 1))]) (pcN := 40) jIG_307_39 rfl rfl rfl rfl ?_
    refine jT_xiinc (x := 4) (z := 5) (LN := [(4, (0, 5)), (3, (0, 0)), (0, (4, 0)), (1, (0, r1)), (2, (0, 1))]) (pcN := 43) jIG_307_40 rfl rfl (by decide) rfl rfl ?_
    refine jT_xgoto (pcN := 7) jIG_307_43 rfl ?_
    refine jT_loc (LN := [(4, (0, 5)), (3, (0, 0)), (0, (4, 0)), (1, (0, r1)), (2, (0, 1))]) (by show List.Nodup [4, 3, 0, 1, 2]; decide) (by intro q hq; simp only [List.mem_cons, List.not_mem_nil, or_false] at hq; rcases hq with rfl | rfl | rfl | rfl | rfl <;> rfl) ?_
    exact jGl_ch_79_5 hd (u := 0) (by omega) h_r1 (by rw [← hw]; exact (jlw_1 (by omega)).symm) h
  · refine jT_xiload (v := (0, 4)) (pcN := 9) jIG_307_7 rfl rfl rfl ?_
    refine jT_xbipush (k := 8) (pcN := 11) jIG_307_9 (by decide) rfl ?_
    refine jT_xicF (t := 46) (pcN := 14) jIG_307_11 rfl (by decide +kernel) rfl rfl ?_
    refine jT_xiload_n (v := (0, r1)) (pcN := 15) jIG_307_14 rfl rfl rfl ?_
    refine jT_xiload (v := (0, 4)) (pcN := 17) jIG_307_15 rfl rfl rfl ?_
    refine jT_fR [] 16 (y := 306) (pcN := 20) (dC := 2) (bc1 := 0) (bc2 := 0) (c1 := b1) (c2 := b2) (as := [(0, r1), (0, 4)]) (asC := [(0, r1), (0, 4)]) (LN := [(4, (0, 4)), (3, (0, u)), (0, (4, 0)), (1, (0, r1)), (2, (0, 1))]) (stN := []) (hsC := []) (v := (0, 0)) (st2 := [(0, 0)]) (jG_306_59 (d := 0) (by omega) (by omega)) (by rfl) (by rfl) (by decide +kernel) (by rfl) (by rfl) (by omega) (by omega) (by omega) (by omega) rfl ?_
    refine jT_xifT (pcN := 40) jIG_307_20 rfl (by decide +kernel) rfl ?_
    refine jT_xiinc (x := 4) (z := 5) (LN := [(4, (0, 5)), (3, (0, u)), (0, (4, 0)), (1, (0, r1)), (2, (0, 1))]) (pcN := 43) jIG_307_40 rfl rfl (by decide) rfl rfl ?_
    refine jT_xgoto (pcN := 7) jIG_307_43 rfl ?_
    refine jT_loc (LN := [(4, (0, 5)), (3, (0, u)), (0, (4, 0)), (1, (0, r1)), (2, (0, 1))]) (by show List.Nodup [4, 3, 0, 1, 2]; decide) (by intro q hq; simp only [List.mem_cons, List.not_mem_nil, or_false] at hq; rcases hq with rfl | rfl | rfl | rfl | rfl <;> rfl) ?_
    exact jGl_ch_79_5 hd (u := u) (by omega) h_r1 (by rw [← hw]; exact (jlw_0 (by omega)).symm) h
theorem jGl_ch_79_3 {xs : List Int} {d b1 b2 : Nat} {Q : Nat → JV → List JC → Prop} (hd : 3 < d) {r1 : Int} {u : Int} (h_u : 0 ≤ u ∧ u ≤ 2147483647) (h_r1 : 1 ≤ r1 ∧ r1 ≤ 255) {w : Int} (hw : jlw r1 [3, 4, 5, 6, 7] u = w) (h : jT xs d 307 16 46 [(3, (0, w)), (0, (4, 0))] [] [jzG_18, (100, [], jS0), jgh, jgh, jgh, jgh, jgh, jgh, jgh, jgh, jgh, jgh, jgh, jgh, jgh, jgh] b1 b2 Q) : jT xs d 307 16 7 [(4, (0, 3)), (3, (0, u)), (0, (4, 0)), (1, (0, r1)), (2, (0, 1))] [] [jzG_18, (100, [], jS0), jgh, jgh, jgh, jgh, jgh, jgh, jgh, jgh, jgh, jgh, jgh, jgh, jgh, jgh] b1 b2 Q := by
  rcases (show (0 ≤ (((Int32.ofInt r1 >>> (Int32.ofInt 3 &&& 31)).toInt) % 2) - 1) ∨ ((((Int32.ofInt r1 >>> (Int32.ofInt 3 &&& 31)).toInt) % 2) - 1 < 0) by omega) with g_0 | g_0
  · refine jT_xiload (v := (0, 3)) (pcN := 9) jIG_307_7 rfl rfl rfl ?_
    refine jT_xbipush (k := 8) (pcN := 11) jIG_307_9 (by decide) rfl ?_
    refine jT_xicF (t := 46) (pcN := 14) jIG_307_11 rfl (by decide +kernel) rfl rfl ?_
    refine jT_xiload_n (v := (0, r1)) (pcN := 15) jIG_307_14 rfl rfl rfl ?_
    refine jT_xiload (v := (0, 3)) (pcN := 17) jIG_307_15 rfl rfl rfl ?_
    refine jT_fR [] 16 (y := 306) (pcN := 20) (dC := 2) (bc1 := 0) (bc2 := 0) (c1 := b1) (c2 := b2) (as := [(0, r1), (0, 3)]) (asC := [(0, r1), (0, 3)]) (LN := [(4, (0, 3)), (3, (0, u)), (0, (4, 0)), (1, (0, r1)), (2, (0, 1))]) (stN := []) (hsC := []) (v := (0, 1)) (st2 := [(0, 1)]) (jG_306_55 (d := 0) (by omega) (by omega)) (by rfl) (by rfl) (by decide +kernel) (by rfl) (by rfl) (by omega) (by omega) (by omega) (by omega) rfl ?_
    refine jT_xifF (t := 40) (pcN := 23) jIG_307_20 rfl (by decide +kernel) rfl rfl ?_
    refine jT_xiload_n (v := (0, u)) (pcN := 24) jIG_307_23 rfl rfl rfl ?_
    refine jT_xaload_n (v := (4, 0)) (pcN := 25) jIG_307_24 rfl rfl rfl ?_
    refine jT_xgetf (a := 0) (t := 1) (ci := 14) (fi := 1) (c := jzG_18) (v := (4, 1)) (pcN := 28) jIG_307_25 rfl rfl rfl rfl rfl rfl rfl ?_
    refine jT_xbipush (k := 7) (pcN := 30) jIG_307_28 (by decide) rfl ?_
    refine jT_xiload (v := (0, 3)) (pcN := 32) jIG_307_30 rfl rfl rfl ?_
    refine jT_ximul (x := 7) (y := 3) (z := 21) (pcN := 33) jIG_307_32 rfl (by decide) rfl ?_
    refine jT_xiload_n (v := (0, 1)) (pcN := 34) jIG_307_33 rfl rfl rfl ?_
    refine jT_xiadd (x := 21) (y := 1) (z := 22) (pcN := 35) jIG_307_34 rfl (by decide) rfl ?_
    refine jT_iald (x := 0) (a := 1) (j := 22) (fs := []) (X := jS0) (by rfl) (by rfl) (by rfl) (by rfl) (by decide +kernel) ?_
    refine jT_eq (LN := [(4, (0, 3)), (3, (0, u)), (0, (4, 0)), (1, (0, r1)), (2, (0, 1))]) (stN := [(0, 0), (0, u)]) (hsN := jpG_156) rfl rfl rfl ?_
    refine jT_mm1 (x := u) (y := 0) (z := 0) (by rfl) (by rfl) (by rfl) (by rfl) (jw_idd (by omega) (by omega)) (jw_idd (by omega) (by omega)) (by rw [decide_eq_false (show ¬ ((u : Int) < 0) by omega)]; rfl) ?_
    refine jT_xistore_n (v := (0, 0)) (LN := [(3, (0, 0)), (4, (0, 3)), (0, (4, 0)), (1, (0, r1)), (2, (0, 1))]) (pcN := 40) jIG_307_39 rfl rfl rfl rfl ?_
    refine jT_xiinc (x := 3) (z := 4) (LN := [(4, (0, 4)), (3, (0, 0)), (0, (4, 0)), (1, (0, r1)), (2, (0, 1))]) (pcN := 43) jIG_307_40 rfl rfl (by decide) rfl rfl ?_
    refine jT_xgoto (pcN := 7) jIG_307_43 rfl ?_
    refine jT_loc (LN := [(4, (0, 4)), (3, (0, 0)), (0, (4, 0)), (1, (0, r1)), (2, (0, 1))]) (by show List.Nodup [4, 3, 0, 1, 2]; decide) (by intro q hq; simp only [List.mem_cons, List.not_mem_nil, or_false] at hq; rcases hq with rfl | rfl | rfl | rfl | rfl <;> rfl) ?_
    exact jGl_ch_79_4 hd (u := 0) (by omega) h_r1 (by rw [← hw]; exact (jlw_1 (by omega)).symm) h
  · refine jT_xiload (v := (0, 3)) (pcN := 9) jIG_307_7 rfl rfl rfl ?_
    refine jT_xbipush (k := 8) (pcN := 11) jIG_307_9 (by decide) rfl ?_
    refine jT_xicF (t := 46) (pcN := 14) jIG_307_11 rfl (by decide +kernel) rfl rfl ?_
    refine jT_xiload_n (v := (0, r1)) (pcN := 15) jIG_307_14 rfl rfl rfl ?_
    refine jT_xiload (v := (0, 3)) (pcN := 17) jIG_307_15 rfl rfl rfl ?_
    refine jT_fR [] 16 (y := 306) (pcN := 20) (dC := 2) (bc1 := 0) (bc2 := 0) (c1 := b1) (c2 := b2) (as := [(0, r1), (0, 3)]) (asC := [(0, r1), (0, 3)]) (LN := [(4, (0, 3)), (3, (0, u)), (0, (4, 0)), (1, (0, r1)), (2, (0, 1))]) (stN := []) (hsC := []) (v := (0, 0)) (st2 := [(0, 0)]) (jG_306_54 (d := 0) (by omega) (by omega)) (by rfl) (by rfl) (by decide +kernel) (by rfl) (by rfl) (by omega) (by omega) (by omega) (by omega) rfl ?_
    refine jT_xifT (pcN := 40) jIG_307_20 rfl (by decide +kernel) rfl ?_
    refine jT_xiinc (x := 3) (z := 4) (LN := [(4, (0, 4)), (3, (0, u)), (0, (4, 0)), (1, (0, r1)), (2, (0, 1))]) (pcN := 43) jIG_307_40 rfl rfl (by decide) rfl rfl ?_
    refine jT_xgoto (pcN := 7) jIG_307_43 rfl ?_
    refine jT_loc (LN := [(4, (0, 4)), (3, (0, u)), (0, (4, 0)), (1, (0, r1)), (2, (0, 1))]) (by show List.Nodup [4, 3, 0, 1, 2]; decide) (by intro q hq; simp only [List.mem_cons, List.not_mem_nil, or_false] at hq; rcases hq with rfl | rfl | rfl | rfl | rfl <;> rfl) ?_
    exact jGl_ch_79_4 hd (u := u) (by omega) h_r1 (by rw [← hw]; exact (jlw_0 (by omega)).symm) h
theorem jGl_ch_79_2 {xs : List Int} {d b1 b2 : Nat} {Q : Nat → JV → List JC → Prop} (hd : 3 < d) {r1 : Int} {u : Int} (h_u : 0 ≤ u ∧ u ≤ 2147483647) (h_r1 : 1 ≤ r1 ∧ r1 ≤ 255) {w : Int} (hw : jlw r1 [2, 3, 4, 5, 6, 7] u = w) (h : jT xs d 307 16 46 [(3, (0, w)), (0, (4, 0))] [] [jzG_18, (100, [], jS0), jgh, jgh, jgh, jgh, jgh, jgh, jgh, jgh, jgh, jgh, jgh, jgh, jgh, jgh] b1 b2 Q) : jT xs d 307 16 7 [(4, (0, 2)), (3, (0, u)), (0, (4, 0)), (1, (0, r1)), (2, (0, 1))] [] [jzG_18, (100, [], jS0), jgh, jgh, jgh, jgh, jgh, jgh, jgh, jgh, jgh, jgh, jgh, jgh, jgh, jgh] b1 b2 Q := by
  rcases (show (0 ≤ (((Int32.ofInt r1 >>> (Int32.ofInt 2 &&& 31)).toInt) % 2) - 1) ∨ ((((Int32.ofInt r1 >>> (Int32.ofInt 2 &&& 31)).toInt) % 2) - 1 < 0) by omega) with g_0 | g_0
  · refine jT_xiload (v := (0, 2)) (pcN := 9) jIG_307_7 rfl rfl rfl ?_
    refine jT_xbipush (k := 8) (pcN := 11) jIG_307_9 (by decide) rfl ?_
    refine jT_xicF (t := 46) (pcN := 14) jIG_307_11 rfl (by decide +kernel) rfl rfl ?_
    refine jT_xiload_n (v := (0, r1)) (pcN := 15) jIG_307_14 rfl rfl rfl ?_
    refine jT_xiload (v := (0, 2)) (pcN := 17) jIG_307_15 rfl rfl rfl ?_
    refine jT_fR [] 16 (y := 306) (pcN := 20) (dC := 2) (bc1 := 0) (bc2 := 0) (c1 := b1) (c2 := b2) (as := [(0, r1), (0, 2)]) (asC := [(0, r1), (0, 2)]) (LN := [(4, (0, 2)), (3, (0, u)), (0, (4, 0)), (1, (0, r1)), (2, (0, 1))]) (stN := []) (hsC := []) (v := (0, 1)) (st2 := [(0, 1)]) (jG_306_50 (d := 0) (by omega) (by omega)) (by rfl) (by rfl) (by decide +kernel) (by rfl) (by rfl) (by omega) (by omega) (by omega) (by omega) rfl ?_
    refine jT_xifF (t := 40) (pcN := 23) jIG_307_20 rfl (by decide +kernel) rfl rfl ?_
    refine jT_xiload_n (v := (0, u)) (pcN := 24) jIG_307_23 rfl rfl rfl ?_
    refine jT_xaload_n (v := (4, 0)) (pcN := 25) jIG_307_24 rfl rfl rfl ?_
    refine jT_xgetf (a := 0) (t := 1) (ci := 14) (fi := 1) (c := jzG_18) (v := (4, 1)) (pcN := 28) jIG_307_25 rfl rfl rfl rfl rfl rfl rfl ?_
    refine jT_xbipush (k := 7) (pcN := 30) jIG_307_28 (by decide) rfl ?_
    refine jT_xiload (v := (0, 2)) (pcN := 32) jIG_307_30 rfl rfl rfl ?_
    refine jT_ximul (x := 7) (y := 2) (z := 14) (pcN := 33) jIG_307_32 rfl (by decide) rfl ?_
    refine jT_xiload_n (v := (0, 1)) (pcN := 34) jIG_307_33 rfl rfl rfl ?_
    refine jT_xiadd (x := 14) (y := 1) (z := 15) (pcN := 35) jIG_307_34 rfl (by decide) rfl ?_
    refine jT_iald (x := 0) (a := 1) (j := 15) (fs := []) (X := jS0) (by rfl) (by rfl) (by rfl) (by rfl) (by decide +kernel) ?_
    refine jT_eq (LN := [(4, (0, 2)), (3, (0, u)), (0, (4, 0)), (1, (0, r1)), (2, (0, 1))]) (stN := [(0, 0), (0, u)]) (hsN := jpG_156) rfl rfl rfl ?_
    refine jT_mm1 (x := u) (y := 0) (z := 0) (by rfl) (by rfl) (by rfl) (by rfl) (jw_idd (by omega) (by omega)) (jw_idd (by omega) (by omega)) (by rw [decide_eq_false (show ¬ ((u : Int) < 0) by omega)]; rfl) ?_
    refine jT_xistore_n (v := (0, 0)) (LN := [(3, (0, 0)), (4, (0, 2)), (0, (4, 0)), (1, (0, r1)), (2, (0, 1))]) (pcN := 40) jIG_307_39 rfl rfl rfl rfl ?_
    refine jT_xiinc (x := 2) (z := 3) (LN := [(4, (0, 3)), (3, (0, 0)), (0, (4, 0)), (1, (0, r1)), (2, (0, 1))]) (pcN := 43) jIG_307_40 rfl rfl (by decide) rfl rfl ?_
    refine jT_xgoto (pcN := 7) jIG_307_43 rfl ?_
    refine jT_loc (LN := [(4, (0, 3)), (3, (0, 0)), (0, (4, 0)), (1, (0, r1)), (2, (0, 1))]) (by show List.Nodup [4, 3, 0, 1, 2]; decide) (by intro q hq; simp only [List.mem_cons, List.not_mem_nil, or_false] at hq; rcases hq with rfl | rfl | rfl | rfl | rfl <;> rfl) ?_
    exact jGl_ch_79_3 hd (u := 0) (by omega) h_r1 (by rw [← hw]; exact (jlw_1 (by omega)).symm) h
  · refine jT_xiload (v := (0, 2)) (pcN := 9) jIG_307_7 rfl rfl rfl ?_
    refine jT_xbipush (k := 8) (pcN := 11) jIG_307_9 (by decide) rfl ?_
    refine jT_xicF (t := 46) (pcN := 14) jIG_307_11 rfl (by decide +kernel) rfl rfl ?_
    refine jT_xiload_n (v := (0, r1)) (pcN := 15) jIG_307_14 rfl rfl rfl ?_
    refine jT_xiload (v := (0, 2)) (pcN := 17) jIG_307_15 rfl rfl rfl ?_
    refine jT_fR [] 16 (y := 306) (pcN := 20) (dC := 2) (bc1 := 0) (bc2 := 0) (c1 := b1) (c2 := b2) (as := [(0, r1), (0, 2)]) (asC := [(0, r1), (0, 2)]) (LN := [(4, (0, 2)), (3, (0, u)), (0, (4, 0)), (1, (0, r1)), (2, (0, 1))]) (stN := []) (hsC := []) (v := (0, 0)) (st2 := [(0, 0)]) (jG_306_49 (d := 0) (by omega) (by omega)) (by rfl) (by rfl) (by decide +kernel) (by rfl) (by rfl) (by omega) (by omega) (by omega) (by omega) rfl ?_
    refine jT_xifT (pcN := 40) jIG_307_20 rfl (by decide +kernel) rfl ?_
    refine jT_xiinc (x := 2) (z := 3) (LN := [(4, (0, 3)), (3, (0, u)), (0, (4, 0)), (1, (0, r1)), (2, (0, 1))]) (pcN := 43) jIG_307_40 rfl rfl (by decide) rfl rfl ?_
    refine jT_xgoto (pcN := 7) jIG_307_43 rfl ?_
    refine jT_loc (LN := [(4, (0, 3)), (3, (0, u)), (0, (4, 0)), (1, (0, r1)), (2, (0, 1))]) (by show List.Nodup [4, 3, 0, 1, 2]; decide) (by intro q hq; simp only [List.mem_cons, List.not_mem_nil, or_false] at hq; rcases hq with rfl | rfl | rfl | rfl | rfl <;> rfl) ?_
    exact jGl_ch_79_3 hd (u := u) (by omega) h_r1 (by rw [← hw]; exact (jlw_0 (by omega)).symm) h
theorem jGl_ch_79_1 {xs : List Int} {d b1 b2 : Nat} {Q : Nat → JV → List JC → Prop} (hd : 3 < d) {r1 : Int} {u : Int} (h_u : 0 ≤ u ∧ u ≤ 2147483647) (h_r1 : 1 ≤ r1 ∧ r1 ≤ 255) {w : Int} (hw : jlw r1 [1, 2, 3, 4, 5, 6, 7] u = w) (h : jT xs d 307 16 46 [(3, (0, w)), (0, (4, 0))] [] [jzG_18, (100, [], jS0), jgh, jgh, jgh, jgh, jgh, jgh, jgh, jgh, jgh, jgh, jgh, jgh, jgh, jgh] b1 b2 Q) : jT xs d 307 16 7 [(4, (0, 1)), (3, (0, u)), (0, (4, 0)), (1, (0, r1)), (2, (0, 1))] [] [jzG_18, (100, [], jS0), jgh, jgh, jgh, jgh, jgh, jgh, jgh, jgh, jgh, jgh, jgh, jgh, jgh, jgh] b1 b2 Q := by
  rcases (show (0 ≤ (((Int32.ofInt r1 >>> (Int32.ofInt 1 &&& 31)).toInt) % 2) - 1) ∨ ((((Int32.ofInt r1 >>> (Int32.ofInt 1 &&& 31)).toInt) % 2) - 1 < 0) by omega) with g_0 | g_0
  · refine jT_xiload (v := (0, 1)) (pcN := 9) jIG_307_7 rfl rfl rfl ?_
    refine jT_xbipush (k := 8) (pcN := 11) jIG_307_9 (by decide) rfl ?_
    refine jT_xicF (t := 46) (pcN := 14) jIG_307_11 rfl (by decide +kernel) rfl rfl ?_
    refine jT_xiload_n (v := (0, r1)) (pcN := 15) jIG_307_14 rfl rfl rfl ?_
    refine jT_xiload (v := (0, 1)) (pcN := 17) jIG_307_15 rfl rfl rfl ?_
    refine jT_fR [] 16 (y := 306) (pcN := 20) (dC := 2) (bc1 := 0) (bc2 := 0) (c1 := b1) (c2 := b2) (as := [(0, r1), (0, 1)]) (asC := [(0, r1), (0, 1)]) (LN := [(4, (0, 1)), (3, (0, u)), (0, (4, 0)), (1, (0, r1)), (2, (0, 1))]) (stN := []) (hsC := []) (v := (0, 1)) (st2 := [(0, 1)]) (jG_306_45 (d := 0) (by omega) (by omega)) (by rfl) (by rfl) (by decide +kernel) (by rfl) (by rfl) (by omega) (by omega) (by omega) (by omega) rfl ?_
    refine jT_xifF (t := 40) (pcN := 23) jIG_307_20 rfl (by decide +kernel) rfl rfl ?_
    refine jT_xiload_n (v := (0, u)) (pcN := 24) jIG_307_23 rfl rfl rfl ?_
    refine jT_xaload_n (v := (4, 0)) (pcN := 25) jIG_307_24 rfl rfl rfl ?_
    refine jT_xgetf (a := 0) (t := 1) (ci := 14) (fi := 1) (c := jzG_18) (v := (4, 1)) (pcN := 28) jIG_307_25 rfl rfl rfl rfl rfl rfl rfl ?_
    refine jT_xbipush (k := 7) (pcN := 30) jIG_307_28 (by decide) rfl ?_
    refine jT_xiload (v := (0, 1)) (pcN := 32) jIG_307_30 rfl rfl rfl ?_
    refine jT_ximul (x := 7) (y := 1) (z := 7) (pcN := 33) jIG_307_32 rfl (by decide) rfl ?_
    refine jT_xiload_n (v := (0, 1)) (pcN := 34) jIG_307_33 rfl rfl rfl ?_
    refine jT_xiadd (x := 7) (y := 1) (z := 8) (pcN := 35) jIG_307_34 rfl (by decide) rfl ?_
    refine jT_iald (x := 0) (a := 1) (j := 8) (fs := []) (X := jS0) (by rfl) (by rfl) (by rfl) (by rfl) (by decide +kernel) ?_
    refine jT_eq (LN := [(4, (0, 1)), (3, (0, u)), (0, (4, 0)), (1, (0, r1)), (2, (0, 1))]) (stN := [(0, 0), (0, u)]) (hsN := jpG_156) rfl rfl rfl ?_
    refine jT_mm1 (x := u) (y := 0) (z := 0) (by rfl) (by rfl) (by rfl) (by rfl) (jw_idd (by omega) (by omega)) (jw_idd (by omega) (by omega)) (by rw [decide_eq_false (show ¬ ((u : Int) < 0) by omega)]; rfl) ?_
    refine jT_xistore_n (v := (0, 0)) (LN := [(3, (0, 0)), (4, (0, 1)), (0, (4, 0)), (1, (0, r1)), (2, (0, 1))]) (pcN := 40) jIG_307_39 rfl rfl rfl rfl ?_
    refine jT_xiinc (x := 1) (z := 2) (LN := [(4, (0, 2)), (3, (0, 0)), (0, (4, 0)), (1, (0, r1)), (2, (0, 1))]) (pcN := 43) jIG_307_40 rfl rfl (by decide) rfl rfl ?_
    refine jT_xgoto (pcN := 7) jIG_307_43 rfl ?_
    refine jT_loc (LN := [(4, (0, 2)), (3, (0, 0)), (0, (4, 0)), (1, (0, r1)), (2, (0, 1))]) (by show List.Nodup [4, 3, 0, 1, 2]; decide) (by intro q hq; simp only [List.mem_cons, List.not_mem_nil, or_false] at hq; rcases hq with rfl | rfl | rfl | rfl | rfl <;> rfl) ?_
    exact jGl_ch_79_2 hd (u := 0) (by omega) h_r1 (by rw [← hw]; exact (jlw_1 (by omega)).symm) h
  · refine jT_xiload (v := (0, 1)) (pcN := 9) jIG_307_7 rfl rfl rfl ?_
    refine jT_xbipush (k := 8) (pcN := 11) jIG_307_9 (by decide) rfl ?_
    refine jT_xicF (t := 46) (pcN := 14) jIG_307_11 rfl (by decide +kernel) rfl rfl ?_
    refine jT_xiload_n (v := (0, r1)) (pcN := 15) jIG_307_14 rfl rfl rfl ?_
    refine jT_xiload (v := (0, 1)) (pcN := 17) jIG_307_15 rfl rfl rfl ?_
    refine jT_fR [] 16 (y := 306) (pcN := 20) (dC := 2) (bc1 := 0) (bc2 := 0) (c1 := b1) (c2 := b2) (as := [(0, r1), (0, 1)]) (asC := [(0, r1), (0, 1)]) (LN := [(4, (0, 1)), (3, (0, u)), (0, (4, 0)), (1, (0, r1)), (2, (0, 1))]) (stN := []) (hsC := []) (v := (0, 0)) (st2 := [(0, 0)]) (jG_306_44 (d := 0) (by omega) (by omega)) (by rfl) (by rfl) (by decide +kernel) (by rfl) (by rfl) (by omega) (by omega) (by omega) (by omega) rfl ?_
    refine jT_xifT (pcN := 40) jIG_307_20 rfl (by decide +kernel) rfl ?_
    refine jT_xiinc (x := 1) (z := 2) (LN := [(4, (0, 2)), (3, (0, u)), (0, (4, 0)), (1, (0, r1)), (2, (0, 1))]) (pcN := 43) jIG_307_40 rfl rfl (by decide) rfl rfl ?_
    refine jT_xgoto (pcN := 7) jIG_307_43 rfl ?_
    refine jT_loc (LN := [(4, (0, 2)), (3, (0, u)), (0, (4, 0)), (1, (0, r1)), (2, (0, 1))]) (by show List.Nodup [4, 3, 0, 1, 2]; decide) (by intro q hq; simp only [List.mem_cons, List.not_mem_nil, or_false] at hq; rcases hq with rfl | rfl | rfl | rfl | rfl <;> rfl) ?_
    exact jGl_ch_79_2 hd (u := u) (by omega) h_r1 (by rw [← hw]; exact (jlw_0 (by omega)).symm) h
theorem jGl_ch_79_0 {xs : List Int} {d b1 b2 : Nat} {Q : Nat → JV → List JC → Prop} (hd : 3 < d) {r1 : Int} {u : Int} (h_u : 0 ≤ u ∧ u ≤ 2147483647) (h_r1 : 1 ≤ r1 ∧ r1 ≤ 255) {w : Int} (hw : jlw r1 [0, 1, 2, 3, 4, 5, 6, 7] u = w) (h : jT xs d 307 16 46 [(3, (0, w)), (0, (4, 0))] [] [jzG_18, (100, [], jS0), jgh, jgh, jgh, jgh, jgh, jgh, jgh, jgh, jgh, jgh, jgh, jgh, jgh, jgh] b1 b2 Q) : jT xs d 307 16 7 [(4, (0, 0)), (3, (0, u)), (0, (4, 0)), (1, (0, r1)), (2, (0, 1))] [] [jzG_18, (100, [], jS0), jgh, jgh, jgh, jgh, jgh, jgh, jgh, jgh, jgh, jgh, jgh, jgh, jgh, jgh] b1 b2 Q := by
  rcases (show (0 ≤ (((Int32.ofInt r1 >>> (Int32.ofInt 0 &&& 31)).toInt) % 2) - 1) ∨ ((((Int32.ofInt r1 >>> (Int32.ofInt 0 &&& 31)).toInt) % 2) - 1 < 0) by omega) with g_0 | g_0
  · refine jT_xiload (v := (0, 0)) (pcN := 9) jIG_307_7 rfl rfl rfl ?_
    refine jT_xbipush (k := 8) (pcN := 11) jIG_307_9 (by decide) rfl ?_
    refine jT_xicF (t := 46) (pcN := 14) jIG_307_11 rfl (by decide +kernel) rfl rfl ?_
    refine jT_xiload_n (v := (0, r1)) (pcN := 15) jIG_307_14 rfl rfl rfl ?_
    refine jT_xiload (v := (0, 0)) (pcN := 17) jIG_307_15 rfl rfl rfl ?_
    refine jT_fR [] 16 (y := 306) (pcN := 20) (dC := 2) (bc1 := 0) (bc2 := 0) (c1 := b1) (c2 := b2) (as := [(0, r1), (0, 0)]) (asC := [(0, r1), (0, 0)]) (LN := [(4, (0, 0)), (3, (0, u)), (0, (4, 0)), (1, (0, r1)), (2, (0, 1))]) (stN := []) (hsC := []) (v := (0, 1)) (st2 := [(0, 1)]) (jG_306_39 (d := 0) (by omega) (by omega)) (by rfl) (by rfl) (by decide +kernel) (by rfl) (by rfl) (by omega) (by omega) (by omega) (by omega) rfl ?_
    refine jT_xifF (t := 40) (pcN := 23) jIG_307_20 rfl (by decide +kernel) rfl rfl ?_
    refine jT_xiload_n (v := (0, u)) (pcN := 24) jIG_307_23 rfl rfl rfl ?_
    refine jT_xaload_n (v := (4, 0)) (pcN := 25) jIG_307_24 rfl rfl rfl ?_
    refine jT_xgetf (a := 0) (t := 1) (ci := 14) (fi := 1) (c := jzG_18) (v := (4, 1)) (pcN := 28) jIG_307_25 rfl rfl rfl rfl rfl rfl rfl ?_
    refine jT_xbipush (k := 7) (pcN := 30) jIG_307_28 (by decide) rfl ?_
    refine jT_xiload (v := (0, 0)) (pcN := 32) jIG_307_30 rfl rfl rfl ?_
    refine jT_ximul (x := 7) (y := 0) (z := 0) (pcN := 33) jIG_307_32 rfl (by decide) rfl ?_
    refine jT_xiload_n (v := (0, 1)) (pcN := 34) jIG_307_33 rfl rfl rfl ?_
    refine jT_xiadd (x := 0) (y := 1) (z := 1) (pcN := 35) jIG_307_34 rfl (by decide) rfl ?_
    refine jT_iald (x := 0) (a := 1) (j := 1) (fs := []) (X := jS0) (by rfl) (by rfl) (by rfl) (by rfl) (by decide +kernel) ?_
    refine jT_eq (LN := [(4, (0, 0)), (3, (0, u)), (0, (4, 0)), (1, (0, r1)), (2, (0, 1))]) (stN := [(0, 0), (0, u)]) (hsN := jpG_156) rfl rfl rfl ?_
    refine jT_mm1 (x := u) (y := 0) (z := 0) (by rfl) (by rfl) (by rfl) (by rfl) (jw_idd (by omega) (by omega)) (jw_idd (by omega) (by omega)) (by rw [decide_eq_false (show ¬ ((u : Int) < 0) by omega)]; rfl) ?_
    refine jT_xistore_n (v := (0, 0)) (LN := [(3, (0, 0)), (4, (0, 0)), (0, (4, 0)), (1, (0, r1)), (2, (0, 1))]) (pcN := 40) jIG_307_39 rfl rfl rfl rfl ?_
    refine jT_xiinc (x := 0) (z := 1) (LN := [(4, (0, 1)), (3, (0, 0)), (0, (4, 0)), (1, (0, r1)), (2, (0, 1))]) (pcN := 43) jIG_307_40 rfl rfl (by decide) rfl rfl ?_
    refine jT_xgoto (pcN := 7) jIG_307_43 rfl ?_
    refine jT_loc (LN := [(4, (0, 1)), (3, (0, 0)), (0, (4, 0)), (1, (0, r1)), (2, (0, 1))]) (by show List.Nodup [4, 3, 0, 1, 2]; decide) (by intro q hq; simp only [List.mem_cons, List.not_mem_nil, or_false] at hq; rcases hq with rfl | rfl | rfl | rfl | rfl <;> rfl) ?_
    exact jGl_ch_79_1 hd (u := 0) (by omega) h_r1 (by rw [← hw]; exact (jlw_1 (by omega)).symm) h
  · refine jT_xiload (v := (0, 0)) (pcN := 9) jIG_307_7 rfl rfl rfl ?_
    refine jT_xbipush (k := 8) (pcN := 11) jIG_307_9 (by decide) rfl ?_
    refine jT_xicF (t := 46) (pcN := 14) jIG_307_11 rfl (by decide +kernel) rfl rfl ?_
    refine jT_xiload_n (v := (0, r1)) (pcN := 15) jIG_307_14 rfl rfl rfl ?_
    refine jT_xiload (v := (0, 0)) (pcN := 17) jIG_307_15 rfl rfl rfl ?_
    refine jT_fR [] 16 (y := 306) (pcN := 20) (dC := 2) (bc1 := 0) (bc2 := 0) (c1 := b1) (c2 := b2) (as := [(0, r1), (0, 0)]) (asC := [(0, r1), (0, 0)]) (LN := [(4, (0, 0)), (3, (0, u)), (0, (4, 0)), (1, (0, r1)), (2, (0, 1))]) (stN := []) (hsC := []) (v := (0, 0)) (st2 := [(0, 0)]) (jG_306_38 (d := 0) (by omega) (by omega)) (by rfl) (by rfl) (by decide +kernel) (by rfl) (by rfl) (by omega) (by omega) (by omega) (by omega) rfl ?_
    refine jT_xifT (pcN := 40) jIG_307_20 rfl (by decide +kernel) rfl ?_
    refine jT_xiinc (x := 0) (z := 1) (LN := [(4, (0, 1)), (3, (0, u)), (0, (4, 0)), (1, (0, r1)), (2, (0, 1))]) (pcN := 43) jIG_307_40 rfl rfl (by decide) rfl rfl ?_
    refine jT_xgoto (pcN := 7) jIG_307_43 rfl ?_
    refine jT_loc (LN := [(4, (0, 1)), (3, (0, u)), (0, (4, 0)), (1, (0, r1)), (2, (0, 1))]) (by show List.Nodup [4, 3, 0, 1, 2]; decide) (by intro q hq; simp only [List.mem_cons, List.not_mem_nil, or_false] at hq; rcases hq with rfl | rfl | rfl | rfl | rfl <;> rfl) ?_
    exact jGl_ch_79_1 hd (u := u) (by omega) h_r1 (by rw [← hw]; exact (jlw_0 (by omega)).symm) h
theorem jG_307_80 {xs : List Int} {d : Nat} {x1 : Int} (h_x1 : 1 ≤ x1 ∧ x1 ≤ 255) : jT xs (d + 4) 307 16 0 [(0, (4, 0)), (1, (0, x1)), (2, (0, 1))] [] jpG_156 0 0 (fun k v hsN => k = 0 ∧ v = (0, jlw x1 [0, 1, 2, 3, 4, 5, 6, 7] 2147483647) ∧ hsN = jpG_156 ++ []) := by
  refine jT_adv 1 (pcN := 3) (LN := [(0, (4, 0)), (1, (0, x1)), (2, (0, 1))]) (stN := [(0, 2147483647)]) (hsN := jpG_156) (c1 := 0) (s1 := 0) (c2 := 0) (s2 := 0) (by exact rfl) ?_ (by omega) (by omega)
  refine jT_xistore_n (v := (0, 2147483647)) (LN := [(3, (0, 2147483647)), (0, (4, 0)), (1, (0, x1)), (2, (0, 1))]) (pcN := 4) jIG_307_3 rfl rfl rfl rfl ?_
  refine jT_xiconst (k := 0) (pcN := 5) jIG_307_4 rfl ?_
  refine jT_xistore (v := (0, 0)) (LN := [(4, (0, 0)), (3, (0, 2147483647)), (0, (4, 0)), (1, (0, x1)), (2, (0, 1))]) (pcN := 7) jIG_307_5 rfl rfl rfl rfl ?_
  refine jT_loc (LN := [(4, (0, 0)), (3, (0, 2147483647)), (0, (4, 0)), (1, (0, x1)), (2, (0, 1))]) (by show List.Nodup [4, 3, 0, 1, 2]; decide) (by intro q hq; simp only [List.mem_cons, List.not_mem_nil, or_false] at hq; rcases hq with rfl | rfl | rfl | rfl | rfl <;> rfl) ?_
  refine jGl_ch_79_0 (by omega) (u := 2147483647) (by omega) (r1 := x1) (by omega) rfl ?_
  have hb_q1 := jlw_b (c := x1) (r := [0, 1, 2, 3, 4, 5, 6, 7]) (l := 2147483647) (by decide) (by decide)
  generalize hq_q1 : jlw x1 [0, 1, 2, 3, 4, 5, 6, 7] 2147483647 = q1 at hb_q1 ⊢
  refine jT_xiload_n (v := (0, q1)) (pcN := 47) jIG_307_46 rfl rfl rfl ?_
  subst hq_q1
  exact jT_ret rfl (by decide) (by show 16 ≤ 16; omega) (by omega) (by omega) ⟨rfl, rfl, rfl⟩
theorem jGl_ch_81_8 {xs : List Int} {d b1 b2 : Nat} {Q : Nat → JV → List JC → Prop} (hd : 3 < d) {r1 : Int} {u : Int} (h_u : 0 ≤ u ∧ u ≤ 2147483647) (h_r1 : 1 ≤ r1 ∧ r1 ≤ 255) {w : Int} (hw : jlw r1 [] u = w) (h : jT xs d 307 16 46 [(3, (0, w)), (0, (4, 0))] [] [jzG_18, (100, [], jS0), jgh, jgh, jgh, jgh, jgh, jgh, jgh, jgh, jgh, jgh, jgh, jgh, jgh, jgh] b1 b2 Q) : jT xs d 307 16 7 [(4, (0, 8)), (3, (0, u)), (0, (4, 0)), (1, (0, r1)), (2, (0, 2))] [] [jzG_18, (100, [], jS0), jgh, jgh, jgh, jgh, jgh, jgh, jgh, jgh, jgh, jgh, jgh, jgh, jgh, jgh] b1 b2 Q := by
  have e : u = w := hw
  subst e
  refine jT_xiload (v := (0, 8)) (pcN := 9) jIG_307_7 rfl rfl rfl ?_
  refine jT_xbipush (k := 8) (pcN := 11) jIG_307_9 (by decide) rfl ?_
  refine jT_xicT (pcN := 46) jIG_307_11 rfl (by decide +kernel) rfl ?_
  refine jT_loc (LN := [(3, (0, u)), (0, (4, 0))]) (by show List.Nodup [3, 0]; decide) (by intro q hq; simp only [List.mem_cons, List.not_mem_nil, or_false] at hq; rcases hq with rfl | rfl <;> rfl) ?_
  exact h
theorem jGl_ch_81_7 {xs : List Int} {d b1 b2 : Nat} {Q : Nat → JV → List JC → Prop} (hd : 3 < d) {r1 : Int} {u : Int} (h_u : 0 ≤ u ∧ u ≤ 2147483647) (h_r1 : 1 ≤ r1 ∧ r1 ≤ 255) {w : Int} (hw : jlw r1 [7] u = w) (h : jT xs d 307 16 46 [(3, (0, w)), (0, (4, 0))] [] [jzG_18, (100, [], jS0), jgh, jgh, jgh, jgh, jgh, jgh, jgh, jgh, jgh, jgh, jgh, jgh, jgh, jgh] b1 b2 Q) : jT xs d 307 16 7 [(4, (0, 7)), (3, (0, u)), (0, (4, 0)), (1, (0, r1)), (2, (0, 2))] [] [jzG_18, (100, [], jS0), jgh, jgh, jgh, jgh, jgh, jgh, jgh, jgh, jgh, jgh, jgh, jgh, jgh, jgh] b1 b2 Q := by
  rcases (show (0 ≤ (((Int32.ofInt r1 >>> (Int32.ofInt 7 &&& 31)).toInt) % 2) - 1) ∨ ((((Int32.ofInt r1 >>> (Int32.ofInt 7 &&& 31)).toInt) % 2) - 1 < 0) by omega) with g_0 | g_0
  · refine jT_xiload (v := (0, 7)) (pcN := 9) jIG_307_7 rfl rfl rfl ?_
    refine jT_xbipush (k := 8) (pcN := 11) jIG_307_9 (by decide) rfl ?_
    refine jT_xicF (t := 46) (pcN := 14) jIG_307_11 rfl (by decide +kernel) rfl rfl ?_
    refine jT_xiload_n (v := (0, r1)) (pcN := 15) jIG_307_14 rfl rfl rfl ?_
    refine jT_xiload (v := (0, 7)) (pcN := 17) jIG_307_15 rfl rfl rfl ?_
    refine jT_fR [] 16 (y := 306) (pcN := 20) (dC := 2) (bc1 := 0) (bc2 := 0) (c1 := b1) (c2 := b2) (as := [(0, r1), (0, 7)]) (asC := [(0, r1), (0, 7)]) (LN := [(4, (0, 7)), (3, (0, u)), (0, (4, 0)), (1, (0, r1)), (2, (0, 2))]) (stN := []) (hsC := []) (v := (0, 1)) (st2 := [(0, 1)]) (jG_306_75 (d := 0) (by omega) (by omega)) (by rfl) (by rfl) (by decide +kernel) (by rfl) (by rfl) (by omega) (by omega) (by omega) (by omega) rfl ?_
    refine jT_xifF (t := 40) (pcN := 23) jIG_307_20 rfl (by decide +kernel) rfl rfl ?_
    refine jT_xiload_n (v := (0, u)) (pcN := 24) jIG_307_23 rfl rfl rfl ?_
    refine jT_xaload_n (v := (4, 0)) (pcN := 25) jIG_307_24 rfl rfl rfl ?_
    refine jT_xgetf (a := 0) (t := 1) (ci := 14) (fi := 1) (c := jzG_18) (v := (4, 1)) (pcN := 28) jIG_307_25 rfl rfl rfl rfl rfl rfl rfl ?_
    refine jT_xbipush (k := 7) (pcN := 30) jIG_307_28 (by decide) rfl ?_
    refine jT_xiload (v := (0, 7)) (pcN := 32) jIG_307_30 rfl rfl rfl ?_
    refine jT_ximul (x := 7) (y := 7) (z := 49) (pcN := 33) jIG_307_32 rfl (by decide) rfl ?_
    refine jT_xiload_n (v := (0, 2)) (pcN := 34) jIG_307_33 rfl rfl rfl ?_
    refine jT_xiadd (x := 49) (y := 2) (z := 51) (pcN := 35) jIG_307_34 rfl (by decide) rfl ?_
    refine jT_iald (x := 0) (a := 1) (j := 51) (fs := []) (X := jS0) (by rfl) (by rfl) (by rfl) (by rfl) (by decide +kernel) ?_
    refine jT_eq (LN := [(4, (0, 7)), (3, (0, u)), (0, (4, 0)), (1, (0, r1)), (2, (0, 2))]) (stN := [(0, 0), (0, u)]) (hsN := jpG_156) rfl rfl rfl ?_
    refine jT_mm1 (x := u) (y := 0) (z := 0) (by rfl) (by rfl) (by rfl) (by rfl) (jw_idd (by omega) (by omega)) (jw_idd (by omega) (by omega)) (by rw [decide_eq_false (show ¬ ((u : Int) < 0) by omega)]; rfl) ?_
    refine jT_xistore_n (v := (0, 0)) (LN := [(3, (0, 0)), (4, (0, 7)), (0, (4, 0)), (1, (0, r1)), (2, (0, 2))]) (pcN := 40) jIG_307_39 rfl rfl rfl rfl ?_
    refine jT_xiinc (x := 7) (z := 8) (LN := [(4, (0, 8)), (3, (0, 0)), (0, (4, 0)), (1, (0, r1)), (2, (0, 2))]) (pcN := 43) jIG_307_40 rfl rfl (by decide) rfl rfl ?_
    refine jT_xgoto (pcN := 7) jIG_307_43 rfl ?_
    refine jT_loc (LN := [(4, (0, 8)), (3, (0, 0)), (0, (4, 0)), (1, (0, r1)), (2, (0, 2))]) (by show List.Nodup [4, 3, 0, 1, 2]; decide) (by intro q hq; simp only [List.mem_cons, List.not_mem_nil, or_false] at hq; rcases hq with rfl | rfl | rfl | rfl | rfl <;> rfl) ?_
    exact jGl_ch_81_8 hd (u := 0) (by omega) h_r1 (by rw [← hw]; exact (jlw_1 (by omega)).symm) h
  · refine jT_xiload (v := (0, 7)) (pcN := 9) jIG_307_7 rfl rfl rfl ?_
    refine jT_xbipush (k := 8) (pcN := 11) jIG_307_9 (by decide) rfl ?_
    refine jT_xicF (t := 46) (pcN := 14) jIG_307_11 rfl (by decide +kernel) rfl rfl ?_
    refine jT_xiload_n (v := (0, r1)) (pcN := 15) jIG_307_14 rfl rfl rfl ?_
    refine jT_xiload (v := (0, 7)) (pcN := 17) jIG_307_15 rfl rfl rfl ?_
    refine jT_fR [] 16 (y := 306) (pcN := 20) (dC := 2) (bc1 := 0) (bc2 := 0) (c1 := b1) (c2 := b2) (as := [(0, r1), (0, 7)]) (asC := [(0, r1), (0, 7)]) (LN := [(4, (0, 7)), (3, (0, u)), (0, (4, 0)), (1, (0, r1)), (2, (0, 2))]) (stN := []) (hsC := []) (v := (0, 0)) (st2 := [(0, 0)]) (jG_306_74 (d := 0) (by omega) (by omega)) (by rfl) (by rfl) (by decide +kernel) (by rfl) (by rfl) (by omega) (by omega) (by omega) (by omega) rfl ?_
    refine jT_xifT (pcN := 40) jIG_307_20 rfl (by decide +kernel) rfl ?_
    refine jT_xiinc (x := 7) (z := 8) (LN := [(4, (0, 8)), (3, (0, u)), (0, (4, 0)), (1, (0, r1)), (2, (0, 2))]) (pcN := 43) jIG_307_40 rfl rfl (by decide) rfl rfl ?_
    refine jT_xgoto (pcN := 7) jIG_307_43 rfl ?_
    refine jT_loc (LN := [(4, (0, 8)), (3, (0, u)), (0, (4, 0)), (1, (0, r1)), (2, (0, 2))]) (by show List.Nodup [4, 3, 0, 1, 2]; decide) (by intro q hq; simp only [List.mem_cons, List.not_mem_nil, or_false] at hq; rcases hq with rfl | rfl | rfl | rfl | rfl <;> rfl) ?_
    exact jGl_ch_81_8 hd (u := u) (by omega) h_r1 (by rw [← hw]; exact (jlw_0 (by omega)).symm) h
theorem jGl_ch_81_6 {xs : List Int} {d b1 b2 : Nat} {Q : Nat → JV → List JC → Prop} (hd : 3 < d) {r1 : Int} {u : Int} (h_u : 0 ≤ u ∧ u ≤ 2147483647) (h_r1 : 1 ≤ r1 ∧ r1 ≤ 255) {w : Int} (hw : jlw r1 [6, 7] u = w) (h : jT xs d 307 16 46 [(3, (0, w)), (0, (4, 0))] [] [jzG_18, (100, [], jS0), jgh, jgh, jgh, jgh, jgh, jgh, jgh, jgh, jgh, jgh, jgh, jgh, jgh, jgh] b1 b2 Q) : jT xs d 307 16 7 [(4, (0, 6)), (3, (0, u)), (0, (4, 0)), (1, (0, r1)), (2, (0, 2))] [] [jzG_18, (100, [], jS0), jgh, jgh, jgh, jgh, jgh, jgh, jgh, jgh, jgh, jgh, jgh, jgh, jgh, jgh] b1 b2 Q := by
  rcases (show (0 ≤ (((Int32.ofInt r1 >>> (Int32.ofInt 6 &&& 31)).toInt) % 2) - 1) ∨ ((((Int32.ofInt r1 >>> (Int32.ofInt 6 &&& 31)).toInt) % 2) - 1 < 0) by omega) with g_0 | g_0
  · refine jT_xiload (v := (0, 6)) (pcN := 9) jIG_307_7 rfl rfl rfl ?_
    refine jT_xbipush (k := 8) (pcN := 11) jIG_307_9 (by decide) rfl ?_
    refine jT_xicF (t := 46) (pcN := 14) jIG_307_11 rfl (by decide +kernel) rfl rfl ?_
    refine jT_xiload_n (v := (0, r1)) (pcN := 15) jIG_307_14 rfl rfl rfl ?_
    refine jT_xiload (v := (0, 6)) (pcN := 17) jIG_307_15 rfl rfl rfl ?_
    refine jT_fR [] 16 (y := 306) (pcN := 20) (dC := 2) (bc1 := 0) (bc2 := 0) (c1 := b1) (c2 := b2) (as := [(0, r1), (0, 6)]) (asC := [(0, r1), (0, 6)]) (LN := [(4, (0, 6)), (3, (0, u)), (0, (4, 0)), (1, (0, r1)), (2, (0, 2))]) (stN := []) (hsC := []) (v := (0, 1)) (st2 := [(0, 1)]) (jG_306_70 (d := 0) (by omega) (by omega)) (by rfl) (by rfl) (by decide +kernel) (by rfl) (by rfl) (by omega) (by omega) (by omega) (by omega) rfl ?_
    refine jT_xifF (t := 40) (pcN := 23) jIG_307_20 rfl (by decide +kernel) rfl rfl ?_
    refine jT_xiload_n (v := (0, u)) (pcN := 24) jIG_307_23 rfl rfl rfl ?_
    refine jT_xaload_n (v := (4, 0)) (pcN := 25) jIG_307_24 rfl rfl rfl ?_
    refine jT_xgetf (a := 0) (t := 1) (ci := 14) (fi := 1) (c := jzG_18) (v := (4, 1)) (pcN := 28) jIG_307_25 rfl rfl rfl rfl rfl rfl rfl ?_
    refine jT_xbipush (k := 7) (pcN := 30) jIG_307_28 (by decide) rfl ?_
    refine jT_xiload (v := (0, 6)) (pcN := 32) jIG_307_30 rfl rfl rfl ?_
    refine jT_ximul (x := 7) (y := 6) (z := 42) (pcN := 33) jIG_307_32 rfl (by decide) rfl ?_
    refine jT_xiload_n (v := (0, 2)) (pcN := 34) jIG_307_33 rfl rfl rfl ?_
    refine jT_xiadd (x := 42) (y := 2) (z := 44) (pcN := 35) jIG_307_34 rfl (by decide) rfl ?_
    refine jT_iald (x := 0) (a := 1) (j := 44) (fs := []) (X := jS0) (by rfl) (by rfl) (by rfl) (by rfl) (by decide +kernel) ?_
    refine jT_eq (LN := [(4, (0, 6)), (3, (0, u)), (0, (4, 0)), (1, (0, r1)), (2, (0, 2))]) (stN := [(0, 0), (0, u)]) (hsN := jpG_156) rfl rfl rfl ?_
    refine jT_mm1 (x := u) (y := 0) (z := 0) (by rfl) (by rfl) (by rfl) (by rfl) (jw_idd (by omega) (by omega)) (jw_idd (by omega) (by omega)) (by rw [decide_eq_false (show ¬ ((u : Int) < 0) by omega)]; rfl) ?_
    refine jT_xistore_n (v := (0, 0)) (LN := [(3, (0, 0)), (4, (0, 6)), (0, (4, 0)), (1, (0, r1)), (2, (0, 2))]) (pcN := 40) jIG_307_39 rfl rfl rfl rfl ?_
    refine jT_xiinc (x := 6) (z := 7) (LN := [(4, (0, 7)), (3, (0, 0)), (0, (4, 0)), (1, (0, r1)), (2, (0, 2))]) (pcN := 43) jIG_307_40 rfl rfl (by decide) rfl rfl ?_
    refine jT_xgoto (pcN := 7) jIG_307_43 rfl ?_
    refine jT_loc (LN := [(4, (0, 7)), (3, (0, 0)), (0, (4, 0)), (1, (0, r1)), (2, (0, 2))]) (by show List.Nodup [4, 3, 0, 1, 2]; decide) (by intro q hq; simp only [List.mem_cons, List.not_mem_nil, or_false] at hq; rcases hq with rfl | rfl | rfl | rfl | rfl <;> rfl) ?_
    exact jGl_ch_81_7 hd (u := 0) (by omega) h_r1 (by rw [← hw]; exact (jlw_1 (by omega)).symm) h
  · refine jT_xiload (v := (0, 6)) (pcN := 9) jIG_307_7 rfl rfl rfl ?_
    refine jT_xbipush (k := 8) (pcN := 11) jIG_307_9 (by decide) rfl ?_
    refine jT_xicF (t := 46) (pcN := 14) jIG_307_11 rfl (by decide +kernel) rfl rfl ?_
    refine jT_xiload_n (v := (0, r1)) (pcN := 15) jIG_307_14 rfl rfl rfl ?_
    refine jT_xiload (v := (0, 6)) (pcN := 17) jIG_307_15 rfl rfl rfl ?_
    refine jT_fR [] 16 (y := 306) (pcN := 20) (dC := 2) (bc1 := 0) (bc2 := 0) (c1 := b1) (c2 := b2) (as := [(0, r1), (0, 6)]) (asC := [(0, r1), (0, 6)]) (LN := [(4, (0, 6)), (3, (0, u)), (0, (4, 0)), (1, (0, r1)), (2, (0, 2))]) (stN := []) (hsC := []) (v := (0, 0)) (st2 := [(0, 0)]) (jG_306_69 (d := 0) (by omega) (by omega)) (by rfl) (by rfl) (by decide +kernel) (by rfl) (by rfl) (by omega) (by omega) (by omega) (by omega) rfl ?_
    refine jT_xifT (pcN := 40) jIG_307_20 rfl (by decide +kernel) rfl ?_
    refine jT_xiinc (x := 6) (z := 7) (LN := [(4, (0, 7)), (3, (0, u)), (0, (4, 0)), (1, (0, r1)), (2, (0, 2))]) (pcN := 43) jIG_307_40 rfl rfl (by decide) rfl rfl ?_
    refine jT_xgoto (pcN := 7) jIG_307_43 rfl ?_
    refine jT_loc (LN := [(4, (0, 7)), (3, (0, u)), (0, (4, 0)), (1, (0, r1)), (2, (0, 2))]) (by show List.Nodup [4, 3, 0, 1, 2]; decide) (by intro q hq; simp only [List.mem_cons, List.not_mem_nil, or_false] at hq; rcases hq with rfl | rfl | rfl | rfl | rfl <;> rfl) ?_
    exact jGl_ch_81_7 hd (u := u) (by omega) h_r1 (by rw [← hw]; exact (jlw_0 (by omega)).symm) h
theorem jGl_ch_81_5 {xs : List Int} {d b1 b2 : Nat} {Q : Nat → JV → List JC → Prop} (hd : 3 < d) {r1 : Int} {u : Int} (h_u : 0 ≤ u ∧ u ≤ 2147483647) (h_r1 : 1 ≤ r1 ∧ r1 ≤ 255) {w : Int} (hw : jlw r1 [5, 6, 7] u = w) (h : jT xs d 307 16 46 [(3, (0, w)), (0, (4, 0))] [] [jzG_18, (100, [], jS0), jgh, jgh, jgh, jgh, jgh, jgh, jgh, jgh, jgh, jgh, jgh, jgh, jgh, jgh] b1 b2 Q) : jT xs d 307 16 7 [(4, (0, 5)), (3, (0, u)), (0, (4, 0)), (1, (0, r1)), (2, (0, 2))] [] [jzG_18, (100, [], jS0), jgh, jgh, jgh, jgh, jgh, jgh, jgh, jgh, jgh, jgh, jgh, jgh, jgh, jgh] b1 b2 Q := by
  rcases (show (0 ≤ (((Int32.ofInt r1 >>> (Int32.ofInt 5 &&& 31)).toInt) % 2) - 1) ∨ ((((Int32.ofInt r1 >>> (Int32.ofInt 5 &&& 31)).toInt) % 2) - 1 < 0) by omega) with g_0 | g_0
  · refine jT_xiload (v := (0, 5)) (pcN := 9) jIG_307_7 rfl rfl rfl ?_
    refine jT_xbipush (k := 8) (pcN := 11) jIG_307_9 (by decide) rfl ?_
    refine jT_xicF (t := 46) (pcN := 14) jIG_307_11 rfl (by decide +kernel) rfl rfl ?_
    refine jT_xiload_n (v := (0, r1)) (pcN := 15) jIG_307_14 rfl rfl rfl ?_
    refine jT_xiload (v := (0, 5)) (pcN := 17) jIG_307_15 rfl rfl rfl ?_
    refine jT_fR [] 16 (y := 306) (pcN := 20) (dC := 2) (bc1 := 0) (bc2 := 0) (c1 := b1) (c2 := b2) (as := [(0, r1), (0, 5)]) (asC := [(0, r1), (0, 5)]) (LN := [(4, (0, 5)), (3, (0, u)), (0, (4, 0)), (1, (0, r1)), (2, (0, 2))]) (stN := []) (hsC := []) (v := (0, 1)) (st2 := [(0, 1)]) (jG_306_65 (d := 0) (by omega) (by omega)) (by rfl) (by rfl) (by decide +kernel) (by rfl) (by rfl) (by omega) (by omega) (by omega) (by omega) rfl ?_
    refine jT_xifF (t := 40) (pcN := 23) jIG_307_20 rfl (by decide +kernel) rfl rfl ?_
    refine jT_xiload_n (v := (0, u)) (pcN := 24) jIG_307_23 rfl rfl rfl ?_
    refine jT_xaload_n (v := (4, 0)) (pcN := 25) jIG_307_24 rfl rfl rfl ?_
    refine jT_xgetf (a := 0) (t := 1) (ci := 14) (fi := 1) (c := jzG_18) (v := (4, 1)) (pcN := 28) jIG_307_25 rfl rfl rfl rfl rfl rfl rfl ?_
    refine jT_xbipush (k := 7) (pcN := 30) jIG_307_28 (by decide) rfl ?_
    refine jT_xiload (v := (0, 5)) (pcN := 32) jIG_307_30 rfl rfl rfl ?_
    refine jT_ximul (x := 7) (y := 5) (z := 35) (pcN := 33) jIG_307_32 rfl (by decide) rfl ?_
    refine jT_xiload_n (v := (0, 2)) (pcN := 34) jIG_307_33 rfl rfl rfl ?_
    refine jT_xiadd (x := 35) (y := 2) (z := 37) (pcN := 35) jIG_307_34 rfl (by decide) rfl ?_
    refine jT_iald (x := 0) (a := 1) (j := 37) (fs := []) (X := jS0) (by rfl) (by rfl) (by rfl) (by rfl) (by decide +kernel) ?_
    refine jT_eq (LN := [(4, (0, 5)), (3, (0, u)), (0, (4, 0)), (1, (0, r1)), (2, (0, 2))]) (stN := [(0, 0), (0, u)]) (hsN := jpG_156) rfl rfl rfl ?_
    refine jT_mm1 (x := u) (y := 0) (z := 0) (by rfl) (by rfl) (by rfl) (by rfl) (jw_idd (by omega) (by omega)) (jw_idd (by omega) (by omega)) (by rw [decide_eq_false (show ¬ ((u : Int) < 0) by omega)]; rfl) ?_
    refine jT_xistore_n (v := (0, 0)) (LN := [(3, (0, 0)), (4, (0, 5)), (0, (4, 0)), (1, (0, r1)), (2, (0, 2))]) (pcN := 40) jIG_307_39 rfl rfl rfl rfl ?_
    refine jT_xiinc (x := 5) (z := 6) (LN := [(4, (0, 6)), (3, (0, 0)), (0, (4, 0)), (1, (0, r1)), (2, (0, 2))]) (pcN := 43) jIG_307_40 rfl rfl (by decide) rfl rfl ?_
    refine jT_xgoto (pcN := 7) jIG_307_43 rfl ?_
    refine jT_loc (LN := [(4, (0, 6)), (3, (0, 0)), (0, (4, 0)), (1, (0, r1)), (2, (0, 2))]) (by show List.Nodup [4, 3, 0, 1, 2]; decide) (by intro q hq; simp only [List.mem_cons, List.not_mem_nil, or_false] at hq; rcases hq with rfl | rfl | rfl | rfl | rfl <;> rfl) ?_
    exact jGl_ch_81_6 hd (u := 0) (by omega) h_r1 (by rw [← hw]; exact (jlw_1 (by omega)).symm) h
  · refine jT_xiload (v := (0, 5)) (pcN := 9) jIG_307_7 rfl rfl rfl ?_
    refine jT_xbipush (k := 8) (pcN := 11) jIG_307_9 (by decide) rfl ?_
    refine jT_xicF (t := 46) (pcN := 14) jIG_307_11 rfl (by decide +kernel) rfl rfl ?_
    refine jT_xiload_n (v := (0, r1)) (pcN := 15) jIG_307_14 rfl rfl rfl ?_
    refine jT_xiload (v := (0, 5)) (pcN := 17) jIG_307_15 rfl rfl rfl ?_
    refine jT_fR [] 16 (y := 306) (pcN := 20) (dC := 2) (bc1 := 0) (bc2 := 0) (c1 := b1) (c2 := b2) (as := [(0, r1), (0, 5)]) (asC := [(0, r1), (0, 5)]) (LN := [(4, (0, 5)), (3, (0, u)), (0, (4, 0)), (1, (0, r1)), (2, (0, 2))]) (stN := []) (hsC := []) (v := (0, 0)) (st2 := [(0, 0)]) (jG_306_64 (d := 0) (by omega) (by omega)) (by rfl) (by rfl) (by decide +kernel) (by rfl) (by rfl) (by omega) (by omega) (by omega) (by omega) rfl ?_
    refine jT_xifT (pcN := 40) jIG_307_20 rfl (by decide +kernel) rfl ?_
    refine jT_xiinc (x := 5) (z := 6) (LN := [(4, (0, 6)), (3, (0, u)), (0, (4, 0)), (1, (0, r1)), (2, (0, 2))]) (pcN := 43) jIG_307_40 rfl rfl (by decide) rfl rfl ?_
    refine jT_xgoto (pcN := 7) jIG_307_43 rfl ?_
    refine jT_loc (LN := [(4, (0, 6)), (3, (0, u)), (0, (4, 0)), (1, (0, r1)), (2, (0, 2))]) (by show List.Nodup [4, 3, 0, 1, 2]; decide) (by intro q hq; simp only [List.mem_cons, List.not_mem_nil, or_false] at hq; rcases hq with rfl | rfl | rfl | rfl | rfl <;> rfl) ?_
    exact jGl_ch_81_6 hd (u := u) (by omega) h_r1 (by rw [← hw]; exact (jlw_0 (by omega)).symm) h
theorem jGl_ch_81_4 {xs : List Int} {d b1 b2 : Nat} {Q : Nat → JV → List JC → Prop} (hd : 3 < d) {r1 : Int} {u : Int} (h_u : 0 ≤ u ∧ u ≤ 2147483647) (h_r1 : 1 ≤ r1 ∧ r1 ≤ 255) {w : Int} (hw : jlw r1 [4, 5, 6, 7] u = w) (h : jT xs d 307 16 46 [(3, (0, w)), (0, (4, 0))] [] [jzG_18, (100, [], jS0), jgh, jgh, jgh, jgh, jgh, jgh, jgh, jgh, jgh, jgh, jgh, jgh, jgh, jgh] b1 b2 Q) : jT xs d 307 16 7 [(4, (0, 4)), (3, (0, u)), (0, (4, 0)), (1, (0, r1)), (2, (0, 2))] [] [jzG_18, (100, [], jS0), jgh, jgh, jgh, jgh, jgh, jgh, jgh, jgh, jgh, jgh, jgh, jgh, jgh, jgh] b1 b2 Q := by
  rcases (show (0 ≤ (((Int32.ofInt r1 >>> (Int32.ofInt 4 &&& 31)).toInt) % 2) - 1) ∨ ((((Int32.ofInt r1 >>> (Int32.ofInt 4 &&& 31)).toInt) % 2) - 1 < 0) by omega) with g_0 | g_0
  · refine jT_xiload (v := (0, 4)) (pcN := 9) jIG_307_7 rfl rfl rfl ?_
    refine jT_xbipush (k := 8) (pcN := 11) jIG_307_9 (by decide) rfl ?_
    refine jT_xicF (t := 46) (pcN := 14) jIG_307_11 rfl (by decide +kernel) rfl rfl ?_
    refine jT_xiload_n (v := (0, r1)) (pcN := 15) jIG_307_14 rfl rfl rfl ?_
    refine jT_xiload (v := (0, 4)) (pcN := 17) jIG_307_15 rfl rfl rfl ?_
    refine jT_fR [] 16 (y := 306) (pcN := 20) (dC := 2) (bc1 := 0) (bc2 := 0) (c1 := b1) (c2 := b2) (as := [(0, r1), (0, 4)]) (asC := [(0, r1), (0, 4)]) (LN := [(4, (0, 4)), (3, (0, u)), (0, (4, 0)), (1, (0, r1)), (2, (0, 2))]) (stN := []) (hsC := []) (v := (0, 1)) (st2 := [(0, 1)]) (jG_306_60 (d := 0) (by omega) (by omega)) (by rfl) (by rfl) (by decide +kernel) (by rfl) (by rfl) (by omega) (by omega) (by omega) (by omega) rfl ?_
    refine jT_xifF (t := 40) (pcN := 23) jIG_307_20 rfl (by decide +kernel) rfl rfl ?_
    refine jT_xiload_n (v := (0, u)) (pcN := 24) jIG_307_23 rfl rfl rfl ?_
    refine jT_xaload_n (v := (4, 0)) (pcN := 25) jIG_307_24 rfl rfl rfl ?_
    refine jT_xgetf (a := 0) (t := 1) (ci := 14) (fi := 1) (c := jzG_18) (v := (4, 1)) (pcN := 28) jIG_307_25 rfl rfl rfl rfl rfl rfl rfl ?_
    refine jT_xbipush (k := 7) (pcN := 30) jIG_307_28 (by decide) rfl ?_
    refine jT_xiload (v := (0, 4)) (pcN := 32) jIG_307_30 rfl rfl rfl ?_
    refine jT_ximul (x := 7) (y := 4) (z := 28) (pcN := 33) jIG_307_32 rfl (by decide) rfl ?_
    refine jT_xiload_n (v := (0, 2)) (pcN := 34) jIG_307_33 rfl rfl rfl ?_
    refine jT_xiadd (x := 28) (y := 2) (z := 30) (pcN := 35) jIG_307_34 rfl (by decide) rfl ?_
    refine jT_iald (x := 0) (a := 1) (j := 30) (fs := []) (X := jS0) (by rfl) (by rfl) (by rfl) (by rfl) (by decide +kernel) ?_
    refine jT_eq (LN := [(4, (0, 4)), (3, (0, u)), (0, (4, 0)), (1, (0, r1)), (2, (0, 2))]) (stN := [(0, 0), (0, u)]) (hsN := jpG_156) rfl rfl rfl ?_
    refine jT_mm1 (x := u) (y := 0) (z := 0) (by rfl) (by rfl) (by rfl) (by rfl) (jw_idd (by omega) (by omega)) (jw_idd (by omega) (by omega)) (by rw [decide_eq_false (show ¬ ((u : Int) < 0) by omega)]; rfl) ?_
    refine jT_xistore_n (v := (0, 0)) (LN := [(3, (0, 0)), (4, (0, 4)), (0, (4, 0)), (1, (0, r1)), (2, (0, 2))]) (pcN := 40) jIG_307_39 rfl rfl rfl rfl ?_
    refine jT_xiinc (x := 4) (z := 5) (LN := [(4, (0, 5)), (3, (0, 0)), (0, (4, 0)), (1, (0, r1)), (2, (0, 2))]) (pcN := 43) jIG_307_40 rfl rfl (by decide) rfl rfl ?_
    refine jT_xgoto (pcN := 7) jIG_307_43 rfl ?_
    refine jT_loc (LN := [(4, (0, 5)), (3, (0, 0)), (0, (4, 0)), (1, (0, r1)), (2, (0, 2))]) (by show List.Nodup [4, 3, 0, 1, 2]; decide) (by intro q hq; simp only [List.mem_cons, List.not_mem_nil, or_false] at hq; rcases hq with rfl | rfl | rfl | rfl | rfl <;> rfl) ?_
    exact jGl_ch_81_5 hd (u := 0) (by omega) h_r1 (by rw [← hw]; exact (jlw_1 (by omega)).symm) h
  · refine jT_xiload (v := (0, 4)) (pcN := 9) jIG_307_7 rfl rfl rfl ?_
    refine jT_xbipush (k := 8) (pcN := 11) jIG_307_9 (by decide) rfl ?_
    refine jT_xicF (t := 46) (pcN := 14) jIG_307_11 rfl (by decide +kernel) rfl rfl ?_
    refine jT_xiload_n (v := (0, r1)) (pcN := 15) jIG_307_14 rfl rfl rfl ?_
    refine jT_xiload (v := (0, 4)) (pcN := 17) jIG_307_15 rfl rfl rfl ?_
    refine jT_fR [] 16 (y := 306) (pcN := 20) (dC := 2) (bc1 := 0) (bc2 := 0) (c1 := b1) (c2 := b2) (as := [(0, r1), (0, 4)]) (asC := [(0, r1), (0, 4)]) (LN := [(4, (0, 4)), (3, (0, u)), (0, (4, 0)), (1, (0, r1)), (2, (0, 2))]) (stN := []) (hsC := []) (v := (0, 0)) (st2 := [(0, 0)]) (jG_306_59 (d := 0) (by omega) (by omega)) (by rfl) (by rfl) (by decide +kernel) (by rfl) (by rfl) (by omega) (by omega) (by omega) (by omega) rfl ?_
    refine jT_xifT (pcN := 40) jIG_307_20 rfl (by decide +kernel) rfl ?_
    refine jT_xiinc (x := 4) (z := 5) (LN := [(4, (0, 5)), (3, (0, u)), (0, (4, 0)), (1, (0, r1)), (2, (0, 2))]) (pcN := 43) jIG_307_40 rfl rfl (by decide) rfl rfl ?_
    refine jT_xgoto (pcN := 7) jIG_307_43 rfl ?_
    refine jT_loc (LN := [(4, (0, 5)), (3, (0, u)), (0, (4, 0)), (1, (0, r1)), (2, (0, 2))]) (by show List.Nodup [4, 3, 0, 1, 2]; decide) (by intro q hq; simp only [List.mem_cons, List.not_mem_nil, or_false] at hq; rcases hq with rfl | rfl | rfl | rfl | rfl <;> rfl) ?_
    exact jGl_ch_81_5 hd (u := u) (by omega) h_r1 (by rw [← hw]; exact (jlw_0 (by omega)).symm) h
theorem jGl_ch_81_3 {xs : List Int} {d b1 b2 : Nat} {Q : Nat → JV → List JC → Prop} (hd : 3 < d) {r1 : Int} {u : Int} (h_u : 0 ≤ u ∧ u ≤ 2147483647) (h_r1 : 1 ≤ r1 ∧ r1 ≤ 255) {w : Int} (hw : jlw r1 [3, 4, 5, 6, 7] u = w) (h : jT xs d 307 16 46 [(3, (0, w)), (0, (4, 0))] [] [jzG_18, (100, [], jS0), jgh, jgh, jgh, jgh, jgh, jgh, jgh, jgh, jgh, jgh, jgh, jgh, jgh, jgh] b1 b2 Q) : jT xs d 307 16 7 [(4, (0, 3)), (3, (0, u)), (0, (4, 0)), (1, (0, r1)), (2, (0, 2))] [] [jzG_18, (100, [], jS0), jgh, jgh, jgh, jgh, jgh, jgh, jgh, jgh, jgh, jgh, jgh, jgh, jgh, jgh] b1 b2 Q := by
  rcases (show (0 ≤ (((Int32.ofInt r1 >>> (Int32.ofInt 3 &&& 31)).toInt) % 2) - 1) ∨ ((((Int32.ofInt r1 >>> (Int32.ofInt 3 &&& 31)).toInt) % 2) - 1 < 0) by omega) with g_0 | g_0
  · refine jT_xiload (v := (0, 3)) (pcN := 9) jIG_307_7 rfl rfl rfl ?_
    refine jT_xbipush (k := 8) (pcN := 11) jIG_307_9 (by decide) rfl ?_
    refine jT_xicF (t := 46) (pcN := 14) jIG_307_11 rfl (by decide +kernel) rfl rfl ?_
    refine jT_xiload_n (v := (0, r1)) (pcN := 15) jIG_307_14 rfl rfl rfl ?_
    refine jT_xiload (v := (0, 3)) (pcN := 17) jIG_307_15 rfl rfl rfl ?_
    refine jT_fR [] 16 (y := 306) (pcN := 20) (dC := 2) (bc1 := 0) (bc2 := 0) (c1 := b1) (c2 := b2) (as := [(0, r1), (0, 3)]) (asC := [(0, r1), (0, 3)]) (LN := [(4, (0, 3)), (3, (0, u)), (0, (4, 0)), (1, (0, r1)), (2, (0, 2))]) (stN := []) (hsC := []) (v := (0, 1)) (st2 := [(0, 1)]) (jG_306_55 (d := 0) (by omega) (by omega)) (by rfl) (by rfl) (by decide +kernel) (by rfl) (by rfl) (by omega) (by omega) (by omega) (by omega) rfl ?_
    refine jT_xifF (t := 40) (pcN := 23) jIG_307_20 rfl (by decide +kernel) rfl rfl ?_
    refine jT_xiload_n (v := (0, u)) (pcN := 24) jIG_307_23 rfl rfl rfl ?_
    refine jT_xaload_n (v := (4, 0)) (pcN := 25) jIG_307_24 rfl rfl rfl ?_
    refine jT_xgetf (a := 0) (t := 1) (ci := 14) (fi := 1) (c := jzG_18) (v := (4, 1)) (pcN := 28) jIG_307_25 rfl rfl rfl rfl rfl rfl rfl ?_
    refine jT_xbipush (k := 7) (pcN := 30) jIG_307_28 (by decide) rfl ?_
    refine jT_xiload (v := (0, 3)) (pcN := 32) jIG_307_30 rfl rfl rfl ?_
    refine jT_ximul (x := 7) (y := 3) (z := 21) (pcN := 33) jIG_307_32 rfl (by decide) rfl ?_
    refine jT_xiload_n (v := (0, 2)) (pcN := 34) jIG_307_33 rfl rfl rfl ?_
    refine jT_xiadd (x := 21) (y := 2) (z := 23) (pcN := 35) jIG_307_34 rfl (by decide) rfl ?_
    refine jT_iald (x := 0) (a := 1) (j := 23) (fs := []) (X := jS0) (by rfl) (by rfl) (by rfl) (by rfl) (by decide +kernel) ?_
    refine jT_eq (LN := [(4, (0, 3)), (3, (0, u)), (0, (4, 0)), (1, (0, r1)), (2, (0, 2))]) (stN := [(0, 0), (0, u)]) (hsN := jpG_156) rfl rfl rfl ?_
    refine jT_mm1 (x := u) (y := 0) (z := 0) (by rfl) (by rfl) (by rfl) (by rfl) (jw_idd (by omega) (by omega)) (jw_idd (by omega) (by omega)) (by rw [decide_eq_false (show ¬ ((u : Int) < 0) by omega)]; rfl) ?_
    refine jT_xistore_n (v := (0, 0)) (LN := [(3, (0, 0)), (4, (0, 3)), (0, (4, 0)), (1, (0, r1)), (2, (0, 2))]) (pcN := 40) jIG_307_39 rfl rfl rfl rfl ?_
    refine jT_xiinc (x := 3) (z := 4) (LN := [(4, (0, 4)), (3, (0, 0)), (0, (4, 0)), (1, (0, r1)), (2, (0, 2))]) (pcN := 43) jIG_307_40 rfl rfl (by decide) rfl rfl ?_
    refine jT_xgoto (pcN := 7) jIG_307_43 rfl ?_
    refine jT_loc (LN := [(4, (0, 4)), (3, (0, 0)), (0, (4, 0)), (1, (0, r1)), (2, (0, 2))]) (by show List.Nodup [4, 3, 0, 1, 2]; decide) (by intro q hq; simp only [List.mem_cons, List.not_mem_nil, or_false] at hq; rcases hq with rfl | rfl | rfl | rfl | rfl <;> rfl) ?_
    exact jGl_ch_81_4 hd (u := 0) (by omega) h_r1 (by rw [← hw]; exact (jlw_1 (by omega)).symm) h
  · refine jT_xiload (v := (0, 3)) (pcN := 9) jIG_307_7 rfl rfl rfl ?_
    refine jT_xbipush (k := 8) (pcN := 11) jIG_307_9 (by decide) rfl ?_
    refine jT_xicF (t := 46) (pcN := 14) jIG_307_11 rfl (by decide +kernel) rfl rfl ?_
    refine jT_xiload_n (v := (0, r1)) (pcN := 15) jIG_307_14 rfl rfl rfl ?_
    refine jT_xiload (v := (0, 3)) (pcN := 17) jIG_307_15 rfl rfl rfl ?_
    refine jT_fR [] 16 (y := 306) (pcN := 20) (dC := 2) (bc1 := 0) (bc2 := 0) (c1 := b1) (c2 := b2) (as := [(0, r1), (0, 3)]) (asC := [(0, r1), (0, 3)]) (LN := [(4, (0, 3)), (3, (0, u)), (0, (4, 0)), (1, (0, r1)), (2, (0, 2))]) (stN := []) (hsC := []) (v := (0, 0)) (st2 := [(0, 0)]) (jG_306_54 (d := 0) (by omega) (by omega)) (by rfl) (by rfl) (by decide +kernel) (by rfl) (by rfl) (by omega) (by omega) (by omega) (by omega) rfl ?_
    refine jT_xifT (pcN := 40) jIG_307_20 rfl (by decide +kernel) rfl ?_
    refine jT_xiinc (x := 3) (z := 4) (LN := [(4, (0, 4)), (3, (0, u)), (0, (4, 0)), (1, (0, r1)), (2, (0, 2))]) (pcN := 43) jIG_307_40 rfl rfl (by decide) rfl rfl ?_
    refine jT_xgoto (pcN := 7) jIG_307_43 rfl ?_
    refine jT_loc (LN := [(4, (0, 4)), (3, (0, u)), (0, (4, 0)), (1, (0, r1)), (2, (0, 2))]) (by show List.Nodup [4, 3, 0, 1, 2]; decide) (by intro q hq; simp only [List.mem_cons, List.not_mem_nil, or_false] at hq; rcases hq with rfl | rfl | rfl | rfl | rfl <;> rfl) ?_
    exact jGl_ch_81_4 hd (u := u) (by omega) h_r1 (by rw [← hw]; exact (jlw_0 (by omega)).symm) h
theorem jGl_ch_81_2 {xs : List Int} {d b1 b2 : Nat} {Q : Nat → JV → List JC → Prop} (hd : 3 < d) {r1 : Int} {u : Int} (h_u : 0 ≤ u ∧ u ≤ 2147483647) (h_r1 : 1 ≤ r1 ∧ r1 ≤ 255) {w : Int} (hw : jlw r1 [2, 3, 4, 5, 6, 7] u = w) (h : jT xs d 307 16 46 [(3, (0, w)), (0, (4, 0))] [] [jzG_18, (100, [], jS0), jgh, jgh, jgh, jgh, jgh, jgh, jgh, jgh, jgh, jgh, jgh, jgh, jgh, jgh] b1 b2 Q) : jT xs d 307 16 7 [(4, (0, 2)), (3, (0, u)), (0, (4, 0)), (1, (0, r1)), (2, (0, 2))] [] [jzG_18, (100, [], jS0), jgh, jgh, jgh, jgh, jgh, jgh, jgh, jgh, jgh, jgh, jgh, jgh, jgh, jgh] b1 b2 Q := by
  rcases (show (0 ≤ (((Int32.ofInt r1 >>> (Int32.ofInt 2 &&& 31)).toInt) % 2) - 1) ∨ ((((Int32.ofInt r1 >>> (Int32.ofInt 2 &&& 31)).toInt) % 2) - 1 < 0) by omega) with g_0 | g_0
  · refine jT_xiload (v := (0, 2)) (pcN := 9) jIG_307_7 rfl rfl rfl ?_
    refine jT_xbipush (k := 8) (pcN := 11) jIG_307_9 (by decide) rfl ?_
    refine jT_xicF (t := 46) (pcN := 14) jIG_307_11 rfl (by decide +kernel) rfl rfl ?_
    refine jT_xiload_n (v := (0, r1)) (pcN := 15) jIG_307_14 rfl rfl rfl ?_
    refine jT_xiload (v := (0, 2)) (pcN := 17) jIG_307_15 rfl rfl rfl ?_
    refine jT_fR [] 16 (y := 306) (pcN := 20) (dC := 2) (bc1 := 0) (bc2 := 0) (c1 := b1) (c2 := b2) (as := [(0, r1), (0, 2)]) (asC := [(0, r1), (0, 2)]) (LN := [(4, (0, 2)), (3, (0, u)), (0, (4, 0)), (1, (0, r1)), (2, (0, 2))]) (stN := []) (hsC := []) (v := (0, 1)) (st2 := [(0, 1)]) (jG_306_50 (d := 0) (by omega) (by omega)) (by rfl) (by rfl) (by decide +kernel) (by rfl) (by rfl) (by omega) (by omega) (by omega) (by omega) rfl ?_
    refine jT_xifF (t := 40) (pcN := 23) jIG_307_20 rfl (by decide +kernel) rfl rfl ?_
    refine jT_xiload_n (v := (0, u)) (pcN := 24) jIG_307_23 rfl rfl rfl ?_
    refine jT_xaload_n (v := (4, 0)) (pcN := 25) jIG_307_24 rfl rfl rfl ?_
    refine jT_xgetf (a := 0) (t := 1) (ci := 14) (fi := 1) (c := jzG_18) (v := (4, 1)) (pcN := 28) jIG_307_25 rfl rfl rfl rfl rfl rfl rfl ?_
    refine jT_xbipush (k := 7) (pcN := 30) jIG_307_28 (by decide) rfl ?_
    refine jT_xiload (v := (0, 2)) (pcN := 32) jIG_307_30 rfl rfl rfl ?_
    refine jT_ximul (x := 7) (y := 2) (z := 14) (pcN := 33) jIG_307_32 rfl (by decide) rfl ?_
    refine jT_xiload_n (v := (0, 2)) (pcN := 34) jIG_307_33 rfl rfl rfl ?_
    refine jT_xiadd (x := 14) (y := 2) (z := 16) (pcN := 35) jIG_307_34 rfl (by decide) rfl ?_
    refine jT_iald (x := 0) (a := 1) (j := 16) (fs := []) (X := jS0) (by rfl) (by rfl) (by rfl) (by rfl) (by decide +kernel) ?_
    refine jT_eq (LN := [(4, (0, 2)), (3, (0, u)), (0, (4, 0)), (1, (0, r1)), (2, (0, 2))]) (stN := [(0, 0), (0, u)]) (hsN := jpG_156) rfl rfl rfl ?_
    refine jT_mm1 (x := u) (y := 0) (z := 0) (by rfl) (by rfl) (by rfl) (by rfl) (jw_idd (by omega) (by omega)) (jw_idd (by omega) (by omega)) (by rw [decide_eq_false (show ¬ ((u : Int) < 0) by omega)]; rfl) ?_
    refine jT_xistore_n (v := (0, 0)) (LN := [(3, (0, 0)), (4, (0, 2)), (0, (4, 0)), (1, (0, r1)), (2, (0, 2))]) (pcN := 40) jIG_307_39 rfl rfl rfl rfl ?_
    refine jT_xiinc (x := 2) (z := 3) (LN := [(4, (0, 3)), (3, (0, 0)), (0, (4, 0)), (1, (0, r1)), (2, (0, 2))]) (pcN := 43) jIG_307_40 rfl rfl (by decide) rfl rfl ?_
    refine jT_xgoto (pcN := 7) jIG_307_43 rfl ?_
    refine jT_loc (LN := [(4, (0, 3)), (3, (0, 0)), (0, (4, 0)), (1, (0, r1)), (2, (0, 2))]) (by show List.Nodup [4, 3, 0, 1, 2]; decide) (by intro q hq; simp only [List.mem_cons, List.not_mem_nil, or_false] at hq; rcases hq with rfl | rfl | rfl | rfl | rfl <;> rfl) ?_
    exact jGl_ch_81_3 hd (u := 0) (by omega) h_r1 (by rw [← hw]; exact (jlw_1 (by omega)).symm) h
  · refine jT_xiload (v := (0, 2)) (pcN := 9) jIG_307_7 rfl rfl rfl ?_
    refine jT_xbipush (k := 8) (pcN := 11) jIG_307_9 (by decide) rfl ?_
    refine jT_xicF (t := 46) (pcN := 14) jIG_307_11 rfl (by decide +kernel) rfl rfl ?_
    refine jT_xiload_n (v := (0, r1)) (pcN := 15) jIG_307_14 rfl rfl rfl ?_
    refine jT_xiload (v := (0, 2)) (pcN := 17) jIG_307_15 rfl rfl rfl ?_
    refine jT_fR [] 16 (y := 306) (pcN := 20) (dC := 2) (bc1 := 0) (bc2 := 0) (c1 := b1) (c2 := b2) (as := [(0, r1), (0, 2)]) (asC := [(0, r1), (0, 2)]) (LN := [(4, (0, 2)), (3, (0, u)), (0, (4, 0)), (1, (0, r1)), (2, (0, 2))]) (stN := []) (hsC := []) (v := (0, 0)) (st2 := [(0, 0)]) (jG_306_49 (d := 0) (by omega) (by omega)) (by rfl) (by rfl) (by decide +kernel) (by rfl) (by rfl) (by omega) (by omega) (by omega) (by omega) rfl ?_
    refine jT_xifT (pcN := 40) jIG_307_20 rfl (by decide +kernel) rfl ?_
    refine jT_xiinc (x := 2) (z := 3) (LN := [(4, (0, 3)), (3, (0, u)), (0, (4, 0)), (1, (0, r1)), (2, (0, 2))]) (pcN := 43) jIG_307_40 rfl rfl (by decide) rfl rfl ?_
    refine jT_xgoto (pcN := 7) jIG_307_43 rfl ?_
    refine jT_loc (LN := [(4, (0, 3)), (3, (0, u)), (0, (4, 0)), (1, (0, r1)), (2, (0, 2))]) (by show List.Nodup [4, 3, 0, 1, 2]; decide) (by intro q hq; simp only [List.mem_cons, List.not_mem_nil, or_false] at hq; rcases hq with rfl | rfl | rfl | rfl | rfl <;> rfl) ?_
    exact jGl_ch_81_3 hd (u := u) (by omega) h_r1 (by rw [← hw]; exact (jlw_0 (by omega)).symm) h
theorem jGl_ch_81_1 {xs : List Int} {d b1 b2 : Nat} {Q : Nat → JV → List JC → Prop} (hd : 3 < d) {r1 : Int} {u : Int} (h_u : 0 ≤ u ∧ u ≤ 2147483647) (h_r1 : 1 ≤ r1 ∧ r1 ≤ 255) {w : Int} (hw : jlw r1 [1, 2, 3, 4, 5, 6, 7] u = w) (h : jT xs d 307 16 46 [(3, (0, w)), (0, (4, 0))] [] [jzG_18, (100, [], jS0), jgh, jgh, jgh, jgh, jgh, jgh, jgh, jgh, jgh, jgh, jgh, jgh, jgh, jgh] b1 b2 Q) : jT xs d 307 16 7 [(4, (0, 1)), (3, (0, u)), (0, (4, 0)), (1, (0, r1)), (2, (0, 2))] [] [jzG_18, (100, [], jS0), jgh, jgh, jgh, jgh, jgh, jgh, jgh, jgh, jgh, jgh, jgh, jgh, jgh, jgh] b1 b2 Q := by
  rcases (show (0 ≤ (((Int32.ofInt r1 >>> (Int32.ofInt 1 &&& 31)).toInt) % 2) - 1) ∨ ((((Int32.ofInt r1 >>> (Int32.ofInt 1 &&& 31)).toInt) % 2) - 1 < 0) by omega) with g_0 | g_0
  · refine jT_xiload (v := (0, 1)) (pcN := 9) jIG_307_7 rfl rfl rfl ?_
    refine jT_xbipush (k := 8) (pcN := 11) jIG_307_9 (by decide) rfl ?_
    refine jT_xicF (t := 46) (pcN := 14) jIG_307_11 rfl (by decide +kernel) rfl rfl ?_
    refine jT_xiload_n (v := (0, r1)) (pcN := 15) jIG_307_14 rfl rfl rfl ?_
    refine jT_xiload (v := (0, 1)) (pcN := 17) jIG_307_15 rfl rfl rfl ?_
    refine jT_fR [] 16 (y := 306) (pcN := 20) (dC := 2) (bc1 := 0) (bc2 := 0) (c1 := b1) (c2 := b2) (as := [(0, r1), (0, 1)]) (asC := [(0, r1), (0, 1)]) (LN := [(4, (0, 1)), (3, (0, u)), (0, (4, 0)), (1, (0, r1)), (2, (0, 2))]) (stN := []) (hsC := []) (v := (0, 1)) (st2 := [(0, 1)]) (jG_306_45 (d := 0) (by omega) (by omega)) (by rfl) (by rfl) (by decide +kernel) (by rfl) (by rfl) (by omega) (by omega) (by omega) (by omega) rfl ?_
    refine jT_xifF (t := 40) (pcN := 23) jIG_307_20 rfl (by decide +kernel) rfl rfl ?_
    refine jT_xiload_n (v := (0, u)) (pcN := 24) jIG_307_23 rfl rfl rfl ?_
    refine jT_xaload_n (v := (4, 0)) (pcN := 25) jIG_307_24 rfl rfl rfl ?_
    refine jT_xgetf (a := 0) (t := 1) (ci := 14) (fi := 1) (c := jzG_18) (v := (4, 1)) (pcN := 28) jIG_307_25 rfl rfl rfl rfl rfl rfl rfl ?_
    refine jT_xbipush (k := 7) (pcN := 30) jIG_307_28 (by decide) rfl ?_
    refine jT_xiload (v := (0, 1)) (pcN := 32) jIG_307_30 rfl rfl rfl ?_
    refine jT_ximul (x := 7) (y := 1) (z := 7) (pcN := 33) jIG_307_32 rfl (by decide) rfl ?_
    refine jT_xiload_n (v := (0, 2)) (pcN := 34) jIG_307_33 rfl rfl rfl ?_
    refine jT_xiadd (x := 7) (y := 2) (z := 9) (pcN := 35) jIG_307_34 rfl (by decide) rfl ?_
    refine jT_iald (x := 0) (a := 1) (j := 9) (fs := []) (X := jS0) (by rfl) (by rfl) (by rfl) (by rfl) (by decide +kernel) ?_
    refine jT_eq (LN := [(4, (0, 1)), (3, (0, u)), (0, (4, 0)), (1, (0, r1)), (2, (0, 2))]) (stN := [(0, 0), (0, u)]) (hsN := jpG_156) rfl rfl rfl ?_
    refine jT_mm1 (x := u) (y := 0) (z := 0) (by rfl) (by rfl) (by rfl) (by rfl) (jw_idd (by omega) (by omega)) (jw_idd (by omega) (by omega)) (by rw [decide_eq_false (show ¬ ((u : Int) < 0) by omega)]; rfl) ?_
    refine jT_xistore_n (v := (0, 0)) (LN := [(3, (0, 0)), (4, (0, 1)), (0, (4, 0)), (1, (0, r1)), (2, (0, 2))]) (pcN := 40) jIG_307_39 rfl rfl rfl rfl ?_
    refine jT_xiinc (x := 1) (z := 2) (LN := [(4, (0, 2)), (3, (0, 0)), (0, (4, 0)), (1, (0, r1)), (2, (0, 2))]) (pcN := 43) jIG_307_40 rfl rfl (by decide) rfl rfl ?_
    refine jT_xgoto (pcN := 7) jIG_307_43 rfl ?_
    refine jT_loc (LN := [(4, (0, 2)), (3, (0, 0)), (0, (4, 0)), (1, (0, r1)), (2, (0, 2))]) (by show List.Nodup [4, 3, 0, 1, 2]; decide) (by intro q hq; simp only [List.mem_cons, List.not_mem_nil, or_false] at hq; rcases hq with rfl | rfl | rfl | rfl | rfl <;> rfl) ?_
    exact jGl_ch_81_2 hd (u := 0) (by omega) h_r1 (by rw [← hw]; exact (jlw_1 (by omega)).symm) h
  · refine jT_xiload (v := (0, 1)) (pcN := 9) jIG_307_7 rfl rfl rfl ?_
    refine jT_xbipush (k := 8) (pcN := 11) jIG_307_9 (by decide) rfl ?_
    refine jT_xicF (t := 46) (pcN := 14) jIG_307_11 rfl (by decide +kernel) rfl rfl ?_
    refine jT_xiload_n (v := (0, r1)) (pcN := 15) jIG_307_14 rfl rfl rfl ?_
    refine jT_xiload (v := (0, 1)) (pcN := 17) jIG_307_15 rfl rfl rfl ?_
    refine jT_fR [] 16 (y := 306) (pcN := 20) (dC := 2) (bc1 := 0) (bc2 := 0) (c1 := b1) (c2 := b2) (as := [(0, r1), (0, 1)]) (asC := [(0, r1), (0, 1)]) (LN := [(4, (0, 1)), (3, (0, u)), (0, (4, 0)), (1, (0, r1)), (2, (0, 2))]) (stN := []) (hsC := []) (v := (0, 0)) (st2 := [(0, 0)]) (jG_306_44 (d := 0) (by omega) (by omega)) (by rfl) (by rfl) (by decide +kernel) (by rfl) (by rfl) (by omega) (by omega) (by omega) (by omega) rfl ?_
    refine jT_xifT (pcN := 40) jIG_307_20 rfl (by decide +kernel) rfl ?_
    refine jT_xiinc (x := 1) (z := 2) (LN := [(4, (0, 2)), (3, (0, u)), (0, (4, 0)), (1, (0, r1)), (2, (0, 2))]) (pcN := 43) jIG_307_40 rfl rfl (by decide) rfl rfl ?_
    refine jT_xgoto (pcN := 7) jIG_307_43 rfl ?_
    refine jT_loc (LN := [(4, (0, 2)), (3, (0, u)), (0, (4, 0)), (1, (0, r1)), (2, (0, 2))]) (by show List.Nodup [4, 3, 0, 1, 2]; decide) (by intro q hq; simp only [List.mem_cons, List.not_mem_nil, or_false] at hq; rcases hq with rfl | rfl | rfl | rfl | rfl <;> rfl) ?_
    exact jGl_ch_81_2 hd (u := u) (by omega) h_r1 (by rw [← hw]; exact (jlw_0 (by omega)).symm) h
theorem jGl_ch_81_0 {xs : List Int} {d b1 b2 : Nat} {Q : Nat → JV → List JC → Prop} (hd : 3 < d) {r1 : Int} {u : Int} (h_u : 0 ≤ u ∧ u ≤ 2147483647) (h_r1 : 1 ≤ r1 ∧ r1 ≤ 255) {w : Int} (hw : jlw r1 [0, 1, 2, 3, 4, 5, 6, 7] u = w) (h : jT xs d 307 16 46 [(3, (0, w)), (0, (4, 0))] [] [jzG_18, (100, [], jS0), jgh, jgh, jgh, jgh, jgh, jgh, jgh, jgh, jgh, jgh, jgh, jgh, jgh, jgh] b1 b2 Q) : jT xs d 307 16 7 [(4, (0, 0)), (3, (0, u)), (0, (4, 0)), (1, (0, r1)), (2, (0, 2))] [] [jzG_18, (100, [], jS0), jgh, jgh, jgh, jgh, jgh, jgh, jgh, jgh, jgh, jgh, jgh, jgh, jgh, jgh] b1 b2 Q := by
  rcases (show (0 ≤ (((Int32.ofInt r1 >>> (Int32.ofInt 0 &&& 31)).toInt) % 2) - 1) ∨ ((((Int32.ofInt r1 >>> (Int32.ofInt 0 &&& 31)).toInt) % 2) - 1 < 0) by omega) with g_0 | g_0
  · refine jT_xiload (v := (0, 0)) (pcN := 9) jIG_307_7 rfl rfl rfl ?_
    refine jT_xbipush (k := 8) (pcN := 11) jIG_307_9 (by decide) rfl ?_
    refine jT_xicF (t := 46) (pcN := 14) jIG_307_11 rfl (by decide +kernel) rfl rfl ?_
    refine jT_xiload_n (v := (0, r1)) (pcN := 15) jIG_307_14 rfl rfl rfl ?_
    refine jT_xiload (v := (0, 0)) (pcN := 17) jIG_307_15 rfl rfl rfl ?_
    refine jT_fR [] 16 (y := 306) (pcN := 20) (dC := 2) (bc1 := 0) (bc2 := 0) (c1 := b1) (c2 := b2) (as := [(0, r1), (0, 0)]) (asC := [(0, r1), (0, 0)]) (LN := [(4, (0, 0)), (3, (0, u)), (0, (4, 0)), (1, (0, r1)), (2, (0, 2))]) (stN := []) (hsC := []) (v := (0, 1)) (st2 := [(0, 1)]) (jG_306_39 (d := 0) (by omega) (by omega)) (by rfl) (by rfl) (by decide +kernel) (by rfl) (by rfl) (by omega) (by omega) (by omega) (by omega) rfl ?_
    refine jT_xifF (t := 40) (pcN := 23) jIG_307_20 rfl (by decide +kernel) rfl rfl ?_
    refine jT_xiload_n (v := (0, u)) (pcN := 24) jIG_307_23 rfl rfl rfl ?_
    refine jT_xaload_n (v := (4, 0)) (pcN := 25) jIG_307_24 rfl rfl rfl ?_
    refine jT_xgetf (a := 0) (t := 1) (ci := 14) (fi := 1) (c := jzG_18) (v := (4, 1)) (pcN := 28) jIG_307_25 rfl rfl rfl rfl rfl rfl rfl ?_
    refine jT_xbipush (k := 7) (pcN := 30) jIG_307_28 (by decide) rfl ?_
    refine jT_xiload (v := (0, 0)) (pcN := 32) jIG_307_30 rfl rfl rfl ?_
    refine jT_ximul (x := 7) (y := 0) (z := 0) (pcN := 33) jIG_307_32 rfl (by decide) rfl ?_
    refine jT_xiload_n (v := (0, 2)) (pcN := 34) jIG_307_33 rfl rfl rfl ?_
    refine jT_xiadd (x := 0) (y := 2) (z := 2) (pcN := 35) jIG_307_34 rfl (by decide) rfl ?_
    refine jT_iald (x := 0) (a := 1) (j := 2) (fs := []) (X := jS0) (by rfl) (by rfl) (by rfl) (by rfl) (by decide +kernel) ?_
    refine jT_eq (LN := [(4, (0, 0)), (3, (0, u)), (0, (4, 0)), (1, (0, r1)), (2, (0, 2))]) (stN := [(0, 0), (0, u)]) (hsN := jpG_156) rfl rfl rfl ?_
    refine jT_mm1 (x := u) (y := 0) (z := 0) (by rfl) (by rfl) (by rfl) (by rfl) (jw_idd (by omega) (by omega)) (jw_idd (by omega) (by omega)) (by rw [decide_eq_false (show ¬ ((u : Int) < 0) by omega)]; rfl) ?_
    refine jT_xistore_n (v := (0, 0)) (LN := [(3, (0, 0)), (4, (0, 0)), (0, (4, 0)), (1, (0, r1)), (2, (0, 2))]) (pcN := 40) jIG_307_39 rfl rfl rfl rfl ?_
    refine jT_xiinc (x := 0) (z := 1) (LN := [(4, (0, 1)), (3, (0, 0)), (0, (4, 0)), (1, (0, r1)), (2, (0, 2))]) (pcN := 43) jIG_307_40 rfl rfl (by decide) rfl rfl ?_
    refine jT_xgoto (pcN := 7) jIG_307_43 rfl ?_
    refine jT_loc (LN := [(4, (0, 1)), (3, (0, 0)), (0, (4, 0)), (1, (0, r1)), (2, (0, 2))]) (by show List.Nodup [4, 3, 0, 1, 2]; decide) (by intro q hq; simp only [List.mem_cons, List.not_mem_nil, or_false] at hq; rcases hq with rfl | rfl | rfl | rfl | rfl <;> rfl) ?_
    exact jGl_ch_81_1 hd (u := 0) (by omega) h_r1 (by rw [← hw]; exact (jlw_1 (by omega)).symm) h
  · refine jT_xiload (v := (0, 0)) (pcN := 9) jIG_307_7 rfl rfl rfl ?_
    refine jT_xbipush (k := 8) (pcN := 11) jIG_307_9 (by decide) rfl ?_
    refine jT_xicF (t := 46) (pcN := 14) jIG_307_11 rfl (by decide +kernel) rfl rfl ?_
    refine jT_xiload_n (v := (0, r1)) (pcN := 15) jIG_307_14 rfl rfl rfl ?_
    refine jT_xiload (v := (0, 0)) (pcN := 17) jIG_307_15 rfl rfl rfl ?_
    refine jT_fR [] 16 (y := 306) (pcN := 20) (dC := 2) (bc1 := 0) (bc2 := 0) (c1 := b1) (c2 := b2) (as := [(0, r1), (0, 0)]) (asC := [(0, r1), (0, 0)]) (LN := [(4, (0, 0)), (3, (0, u)), (0, (4, 0)), (1, (0, r1)), (2, (0, 2))]) (stN := []) (hsC := []) (v := (0, 0)) (st2 := [(0, 0)]) (jG_306_38 (d := 0) (by omega) (by omega)) (by rfl) (by rfl) (by decide +kernel) (by rfl) (by rfl) (by omega) (by omega) (by omega) (by omega) rfl ?_
    refine jT_xifT (pcN := 40) jIG_307_20 rfl (by decide +kernel) rfl ?_
    refine jT_xiinc (x := 0) (z := 1) (LN := [(4, (0, 1)), (3, (0, u)), (0, (4, 0)), (1, (0, r1)), (2, (0, 2))]) (pcN := 43) jIG_307_40 rfl rfl (by decide) rfl rfl ?_
    refine jT_xgoto (pcN := 7) jIG_307_43 rfl ?_
    refine jT_loc (LN := [(4, (0, 1)), (3, (0, u)), (0, (4, 0)), (1, (0, r1)), (2, (0, 2))]) (by show List.Nodup [4, 3, 0, 1, 2]; decide) (by intro q hq; simp only [List.mem_cons, List.not_mem_nil, or_false] at hq; rcases hq with rfl | rfl | rfl | rfl | rfl <;> rfl) ?_
    exact jGl_ch_81_1 hd (u := u) (by omega) h_r1 (by rw [← hw]; exact (jlw_0 (by omega)).symm) h
theorem jG_307_82 {xs : List Int} {d : Nat} {x1 : Int} (h_x1 : 1 ≤ x1 ∧ x1 ≤ 255) : jT xs (d + 4) 307 16 0 [(0, (4, 0)), (1, (0, x1)), (2, (0, 2))] [] jpG_156 0 0 (fun k v hsN => k = 0 ∧ v = (0, jlw x1 [0, 1, 2, 3, 4, 5, 6, 7] 2147483647) ∧ hsN = jpG_156 ++ []) := by
  refine jT_adv 1 (pcN := 3) (LN := [(0, (4, 0)), (1, (0, x1)), (2, (0, 2))]) (stN := [(0, 2147483647)]) (hsN := jpG_156) (c1 := 0) (s1 := 0) (c2 := 0) (s2 := 0) (by exact rfl) ?_ (by omega) (by omega)
  refine jT_xistore_n (v := (0, 2147483647)) (LN := [(3, (0, 2147483647)), (0, (4, 0)), (1, (0, x1)), (2, (0, 2))]) (pcN := 4) jIG_307_3 rfl rfl rfl rfl ?_
  refine jT_xiconst (k := 0) (pcN := 5) jIG_307_4 rfl ?_
  refine jT_xistore (v := (0, 0)) (LN := [(4, (0, 0)), (3, (0, 2147483647)), (0, (4, 0)), (1, (0, x1)), (2, (0, 2))]) (pcN := 7) jIG_307_5 rfl rfl rfl rfl ?_
  refine jT_loc (LN := [(4, (0, 0)), (3, (0, 2147483647)), (0, (4, 0)), (1, (0, x1)), (2, (0, 2))]) (by show List.Nodup [4, 3, 0, 1, 2]; decide) (by intro q hq; simp only [List.mem_cons, List.not_mem_nil, or_false] at hq; rcases hq with rfl | rfl | rfl | rfl | rfl <;> rfl) ?_
  refine jGl_ch_81_0 (by omega) (u := 2147483647) (by omega) (r1 := x1) (by omega) rfl ?_
  have hb_q1 := jlw_b (c := x1) (r := [0, 1, 2, 3, 4, 5, 6, 7]) (l := 2147483647) (by decide) (by decide)
  generalize hq_q1 : jlw x1 [0, 1, 2, 3, 4, 5, 6, 7] 2147483647 = q1 at hb_q1 ⊢
  refine jT_xiload_n (v := (0, q1)) (pcN := 47) jIG_307_46 rfl rfl rfl ?_
  subst hq_q1
  exact jT_ret rfl (by decide) (by show 16 ≤ 16; omega) (by omega) (by omega) ⟨rfl, rfl, rfl⟩
theorem jGl_ch_83_8 {xs : List Int} {d b1 b2 : Nat} {Q : Nat → JV → List JC → Prop} (hd : 3 < d) {r1 : Int} {u : Int} (h_u : 0 ≤ u ∧ u ≤ 2147483647) (h_r1 : 1 ≤ r1 ∧ r1 ≤ 255) {w : Int} (hw : jlw r1 [] u = w) (h : jT xs d 307 16 46 [(3, (0, w)), (0, (4, 0))] [] [jzG_18, (100, [], jS0), jgh, jgh, jgh, jgh, jgh, jgh, jgh, jgh, jgh, jgh, jgh, jgh, jgh, jgh] b1 b2 Q) : jT xs d 307 16 7 [(4, (0, 8)), (3, (0, u)), (0, (4, 0)), (1, (0, r1)), (2, (0, 3))] [] [jzG_18, (100, [], jS0), jgh, jgh, jgh, jgh, jgh, jgh, jgh, jgh, jgh, jgh, jgh, jgh, jgh, jgh] b1 b2 Q := by
  have e : u = w := hw
  subst e
  refine jT_xiload (v := (0, 8)) (pcN := 9) jIG_307_7 rfl rfl rfl ?_
  refine jT_xbipush (k := 8) (pcN := 11) jIG_307_9 (by decide) rfl ?_
  refine jT_xicT (pcN := 46) jIG_307_11 rfl (by decide +kernel) rfl ?_
  refine jT_loc (LN := [(3, (0, u)), (0, (4, 0))]) (by show List.Nodup [3, 0]; decide) (by intro q hq; simp only [List.mem_cons, List.not_mem_nil, or_false] at hq; rcases hq with rfl | rfl <;> rfl) ?_
  exact h
theorem jGl_ch_83_7 {xs : List Int} {d b1 b2 : Nat} {Q : Nat → JV → List JC → Prop} (hd : 3 < d) {r1 : Int} {u : Int} (h_u : 0 ≤ u ∧ u ≤ 2147483647) (h_r1 : 1 ≤ r1 ∧ r1 ≤ 255) {w : Int} (hw : jlw r1 [7] u = w) (h : jT xs d 307 16 46 [(3, (0, w)), (0, (4, 0))] [] [jzG_18, (100, [], jS0), jgh, jgh, jgh, jgh, jgh, jgh, jgh, jgh, jgh, jgh, jgh, jgh, jgh, jgh] b1 b2 Q) : jT xs d 307 16 7 [(4, (0, 7)), (3, (0, u)), (0, (4, 0)), (1, (0, r1)), (2, (0, 3))] [] [jzG_18, (100, [], jS0), jgh, jgh, jgh, jgh, jgh, jgh, jgh, jgh, jgh, jgh, jgh, jgh, jgh, jgh] b1 b2 Q := by
  rcases (show (0 ≤ (((Int32.ofInt r1 >>> (Int32.ofInt 7 &&& 31)).toInt) % 2) - 1) ∨ ((((Int32.ofInt r1 >>> (Int32.ofInt 7 &&& 31)).toInt) % 2) - 1 < 0) by omega) with g_0 | g_0
  · refine jT_xiload (v := (0, 7)) (pcN := 9) jIG_307_7 rfl rfl rfl ?_
    refine jT_xbipush (k := 8) (pcN := 11) jIG_307_9 (by decide) rfl ?_
    refine jT_xicF (t := 46) (pcN := 14) jIG_307_11 rfl (by decide +kernel) rfl rfl ?_
    refine jT_xiload_n (v := (0, r1)) (pcN := 15) jIG_307_14 rfl rfl rfl ?_
    refine jT_xiload (v := (0, 7)) (pcN := 17) jIG_307_15 rfl rfl rfl ?_
    refine jT_fR [] 16 (y := 306) (pcN := 20) (dC := 2) (bc1 := 0) (bc2 := 0) (c1 := b1) (c2 := b2) (as := [(0, r1), (0, 7)]) (asC := [(0, r1), (0, 7)]) (LN := [(4, (0, 7)), (3, (0, u)), (0, (4, 0)), (1, (0, r1)), (2, (0, 3))]) (stN := []) (hsC := []) (v := (0, 1)) (st2 := [(0, 1)]) (jG_306_75 (d := 0) (by omega) (by omega)) (by rfl) (by rfl) (by decide +kernel) (by rfl) (by rfl) (by omega) (by omega) (by omega) (by omega) rfl ?_
    refine jT_xifF (t := 40) (pcN := 23) jIG_307_20 rfl (by decide +kernel) rfl rfl ?_
    refine jT_xiload_n (v := (0, u)) (pcN := 24) jIG_307_23 rfl rfl rfl ?_
    refine jT_xaload_n (v := (4, 0)) (pcN := 25) jIG_307_24 rfl rfl rfl ?_
    refine jT_xgetf (a := 0) (t := 1) (ci := 14) (fi := 1) (c := jzG_18) (v := (4, 1)) (pcN := 28) jIG_307_25 rfl rfl rfl rfl rfl rfl rfl ?_
    refine jT_xbipush (k := 7) (pcN := 30) jIG_307_28 (by decide) rfl ?_
    refine jT_xiload (v := (0, 7)) (pcN := 32) jIG_307_30 rfl rfl rfl ?_
    refine jT_ximul (x := 7) (y := 7) (z := 49) (pcN := 33) jIG_307_32 rfl (by decide) rfl ?_
    refine jT_xiload_n (v := (0, 3)) (pcN := 34) jIG_307_33 rfl rfl rfl ?_
    refine jT_xiadd (x := 49) (y := 3) (z := 52) (pcN := 35) jIG_307_34 rfl (by decide) rfl ?_
    refine jT_iald (x := 0) (a := 1) (j := 52) (fs := []) (X := jS0) (by rfl) (by rfl) (by rfl) (by rfl) (by decide +kernel) ?_
    refine jT_eq (LN := [(4, (0, 7)), (3, (0, u)), (0, (4, 0)), (1, (0, r1)), (2, (0, 3))]) (stN := [(0, 0), (0, u)]) (hsN := jpG_156) rfl rfl rfl ?_
    refine jT_mm1 (x := u) (y := 0) (z := 0) (by rfl) (by rfl) (by rfl) (by rfl) (jw_idd (by omega) (by omega)) (jw_idd (by omega) (by omega)) (by rw [decide_eq_false (show ¬ ((u : Int) < 0) by omega)]; rfl) ?_
    refine jT_xistore_n (v := (0, 0)) (LN := [(3, (0, 0)), (4, (0, 7)), (0, (4, 0)), (1, (0, r1)), (2, (0, 3))]) (pcN := 40) jIG_307_39 rfl rfl rfl rfl ?_
    refine jT_xiinc (x := 7) (z := 8) (LN := [(4, (0, 8)), (3, (0, 0)), (0, (4, 0)), (1, (0, r1)), (2, (0, 3))]) (pcN := 43) jIG_307_40 rfl rfl (by decide) rfl rfl ?_
    refine jT_xgoto (pcN := 7) jIG_307_43 rfl ?_
    refine jT_loc (LN := [(4, (0, 8)), (3, (0, 0)), (0, (4, 0)), (1, (0, r1)), (2, (0, 3))]) (by show List.Nodup [4, 3, 0, 1, 2]; decide) (by intro q hq; simp only [List.mem_cons, List.not_mem_nil, or_false] at hq; rcases hq with rfl | rfl | rfl | rfl | rfl <;> rfl) ?_
    exact jGl_ch_83_8 hd (u := 0) (by omega) h_r1 (by rw [← hw]; exact (jlw_1 (by omega)).symm) h
  · refine jT_xiload (v := (0, 7)) (pcN := 9) jIG_307_7 rfl rfl rfl ?_
    refine jT_xbipush (k := 8) (pcN := 11) jIG_307_9 (by decide) rfl ?_
    refine jT_xicF (t := 46) (pcN := 14) jIG_307_11 rfl (by decide +kernel) rfl rfl ?_
    refine jT_xiload_n (v := (0, r1)) (pcN := 15) jIG_307_14 rfl rfl rfl ?_
    refine jT_xiload (v := (0, 7)) (pcN := 17) jIG_307_15 rfl rfl rfl ?_
    refine jT_fR [] 16 (y := 306) (pcN := 20) (dC := 2) (bc1 := 0) (bc2 := 0) (c1 := b1) (c2 := b2) (as := [(0, r1), (0, 7)]) (asC := [(0, r1), (0, 7)]) (LN := [(4, (0, 7)), (3, (0, u)), (0, (4, 0)), (1, (0, r1)), (2, (0, 3))]) (stN := []) (hsC := []) (v := (0, 0)) (st2 := [(0, 0)]) (jG_306_74 (d := 0) (by omega) (by omega)) (by rfl) (by rfl) (by decide +kernel) (by rfl) (by rfl) (by omega) (by omega) (by omega) (by omega) rfl ?_
    refine jT_xifT (pcN := 40) jIG_307_20 rfl (by decide +kernel) rfl ?_
    refine jT_xiinc (x := 7) (z := 8) (LN := [(4, (0, 8)), (3, (0, u)), (0, (4, 0)), (1, (0, r1)), (2, (0, 3))]) (pcN := 43) jIG_307_40 rfl rfl (by decide) rfl rfl ?_
    refine jT_xgoto (pcN := 7) jIG_307_43 rfl ?_
    refine jT_loc (LN := [(4, (0, 8)), (3, (0, u)), (0, (4, 0)), (1, (0, r1)), (2, (0, 3))]) (by show List.Nodup [4, 3, 0, 1, 2]; decide) (by intro q hq; simp only [List.mem_cons, List.not_mem_nil, or_false] at hq; rcases hq with rfl | rfl | rfl | rfl | rfl <;> rfl) ?_
    exact jGl_ch_83_8 hd (u := u) (by omega) h_r1 (by rw [← hw]; exact (jlw_0 (by omega)).symm) h
theorem jGl_ch_83_6 {xs : List Int} {d b1 b2 : Nat} {Q : Nat → JV → List JC → Prop} (hd : 3 < d) {r1 : Int} {u : Int} (h_u : 0 ≤ u ∧ u ≤ 2147483647) (h_r1 : 1 ≤ r1 ∧ r1 ≤ 255) {w : Int} (hw : jlw r1 [6, 7] u = w) (h : jT xs d 307 16 46 [(3, (0, w)), (0, (4, 0))] [] [jzG_18, (100, [], jS0), jgh, jgh, jgh, jgh, jgh, jgh, jgh, jgh, jgh, jgh, jgh, jgh, jgh, jgh] b1 b2 Q) : jT xs d 307 16 7 [(4, (0, 6)), (3, (0, u)), (0, (4, 0)), (1, (0, r1)), (2, (0, 3))] [] [jzG_18, (100, [], jS0), jgh, jgh, jgh, jgh, jgh, jgh, jgh, jgh, jgh, jgh, jgh, jgh, jgh, jgh] b1 b2 Q := by
  rcases (show (0 ≤ (((Int32.ofInt r1 >>> (Int32.ofInt 6 &&& 31)).toInt) % 2) - 1) ∨ ((((Int32.ofInt r1 >>> (Int32.ofInt 6 &&& 31)).toInt) % 2) - 1 < 0) by omega) with g_0 | g_0
  · refine jT_xiload (v := (0, 6)) (pcN := 9) jIG_307_7 rfl rfl rfl ?_
    refine jT_xbipush (k := 8) (pcN := 11) jIG_307_9 (by decide) rfl ?_
    refine jT_xicF (t := 46) (pcN := 14) jIG_307_11 rfl (by decide +kernel) rfl rfl ?_
    refine jT_xiload_n (v := (0, r1)) (pcN := 15) jIG_307_14 rfl rfl rfl ?_
    refine jT_xiload (v := (0, 6)) (pcN := 17) jIG_307_15 rfl rfl rfl ?_
    refine jT_fR [] 16 (y := 306) (pcN := 20) (dC := 2) (bc1 := 0) (bc2 := 0) (c1 := b1) (c2 := b2) (as := [(0, r1), (0, 6)]) (asC := [(0, r1), (0, 6)]) (LN := [(4, (0, 6)), (3, (0, u)), (0, (4, 0)), (1, (0, r1)), (2, (0, 3))]) (stN := []) (hsC := []) (v := (0, 1)) (st2 := [(0, 1)]) (jG_306_70 (d := 0) (by omega) (by omega)) (by rfl) (by rfl) (by decide +kernel) (by rfl) (by rfl) (by omega) (by omega) (by omega) (by omega) rfl ?_
    refine jT_xifF (t := 40) (pcN := 23) jIG_307_20 rfl (by decide +kernel) rfl rfl ?_
    refine jT_xiload_n (v := (0, u)) (pcN := 24) jIG_307_23 rfl rfl rfl ?_
    refine jT_xaload_n (v := (4, 0)) (pcN := 25) jIG_307_24 rfl rfl rfl ?_
    refine jT_xgetf (a := 0) (t := 1) (ci := 14) (fi := 1) (c := jzG_18) (v := (4, 1)) (pcN := 28) jIG_307_25 rfl rfl rfl rfl rfl rfl rfl ?_
    refine jT_xbipush (k := 7) (pcN := 30) jIG_307_28 (by decide) rfl ?_
    refine jT_xiload (v := (0, 6)) (pcN := 32) jIG_307_30 rfl rfl rfl ?_
    refine jT_ximul (x := 7) (y := 6) (z := 42) (pcN := 33) jIG_307_32 rfl (by decide) rfl ?_
    refine jT_xiload_n (v := (0, 3)) (pcN := 34) jIG_307_33 rfl rfl rfl ?_
    refine jT_xiadd (x := 42) (y := 3) (z := 45) (pcN := 35) jIG_307_34 rfl (by decide) rfl ?_
    refine jT_iald (x := 0) (a := 1) (j := 45) (fs := []) (X := jS0) (by rfl) (by rfl) (by rfl) (by rfl) (by decide +kernel) ?_
    refine jT_eq (LN := [(4, (0, 6)), (3, (0, u)), (0, (4, 0)), (1, (0, r1)), (2, (0, 3))]) (stN := [(0, 0), (0, u)]) (hsN := jpG_156) rfl rfl rfl ?_
    refine jT_mm1 (x := u) (y := 0) (z := 0) (by rfl) (by rfl) (by rfl) (by rfl) (jw_idd (by omega) (by omega)) (jw_idd (by omega) (by omega)) (by rw [decide_eq_false (show ¬ ((u : Int) < 0) by omega)]; rfl) ?_
    refine jT_xistore_n (v := (0, 0)) (LN := [(3, (0, 0)), (4, (0, 6)), (0, (4, 0)), (1, (0, r1)), (2, (0, 3))]) (pcN := 40) jIG_307_39 rfl rfl rfl rfl ?_
    refine jT_xiinc (x := 6) (z := 7) (LN := [(4, (0, 7)), (3, (0, 0)), (0, (4, 0)), (1, (0, r1)), (2, (0, 3))]) (pcN := 43) jIG_307_40 rfl rfl (by decide) rfl rfl ?_
    refine jT_xgoto (pcN := 7) jIG_307_43 rfl ?_
    refine jT_loc (LN := [(4, (0, 7)), (3, (0, 0)), (0, (4, 0)), (1, (0, r1)), (2, (0, 3))]) (by show List.Nodup [4, 3, 0, 1, 2]; decide) (by intro q hq; simp only [List.mem_cons, List.not_mem_nil, or_false] at hq; rcases hq with rfl | rfl | rfl | rfl | rfl <;> rfl) ?_
    exact jGl_ch_83_7 hd (u := 0) (by omega) h_r1 (by rw [← hw]; exact (jlw_1 (by omega)).symm) h
  · refine jT_xiload (v := (0, 6)) (pcN := 9) jIG_307_7 rfl rfl rfl ?_
    refine jT_xbipush (k := 8) (pcN := 11) jIG_307_9 (by decide) rfl ?_
    refine jT_xicF (t := 46) (pcN := 14) jIG_307_11 rfl (by decide +kernel) rfl rfl ?_
    refine jT_xiload_n (v := (0, r1)) (pcN := 15) jIG_307_14 rfl rfl rfl ?_
    refine jT_xiload (v := (0, 6)) (pcN := 17) jIG_307_15 rfl rfl rfl ?_
    refine jT_fR [] 16 (y := 306) (pcN := 20) (dC := 2) (bc1 := 0) (bc2 := 0) (c1 := b1) (c2 := b2) (as := [(0, r1), (0, 6)]) (asC := [(0, r1), (0, 6)]) (LN := [(4, (0, 6)), (3, (0, u)), (0, (4, 0)), (1, (0, r1)), (2, (0, 3))]) (stN := []) (hsC := []) (v := (0, 0)) (st2 := [(0, 0)]) (jG_306_69 (d := 0) (by omega) (by omega)) (by rfl) (by rfl) (by decide +kernel) (by rfl) (by rfl) (by omega) (by omega) (by omega) (by omega) rfl ?_
    refine jT_xifT (pcN := 40) jIG_307_20 rfl (by decide +kernel) rfl ?_
    refine jT_xiinc (x := 6) (z := 7) (LN := [(4, (0, 7)), (3, (0, u)), (0, (4, 0)), (1, (0, r1)), (2, (0, 3))]) (pcN := 43) jIG_307_40 rfl rfl (by decide) rfl rfl ?_
    refine jT_xgoto (pcN := 7) jIG_307_43 rfl ?_
    refine jT_loc (LN := [(4, (0, 7)), (3, (0, u)), (0, (4, 0)), (1, (0, r1)), (2, (0, 3))]) (by show List.Nodup [4, 3, 0, 1, 2]; decide) (by intro q hq; simp only [List.mem_cons, List.not_mem_nil, or_false] at hq; rcases hq with rfl | rfl | rfl | rfl | rfl <;> rfl) ?_
    exact jGl_ch_83_7 hd (u := u) (by omega) h_r1 (by rw [← hw]; exact (jlw_0 (by omega)).symm) h
theorem jGl_ch_83_5 {xs : List Int} {d b1 b2 : Nat} {Q : Nat → JV → List JC → Prop} (hd : 3 < d) {r1 : Int} {u : Int} (h_u : 0 ≤ u ∧ u ≤ 2147483647) (h_r1 : 1 ≤ r1 ∧ r1 ≤ 255) {w : Int} (hw : jlw r1 [5, 6, 7] u = w) (h : jT xs d 307 16 46 [(3, (0, w)), (0, (4, 0))] [] [jzG_18, (100, [], jS0), jgh, jgh, jgh, jgh, jgh, jgh, jgh, jgh, jgh, jgh, jgh, jgh, jgh, jgh] b1 b2 Q) : jT xs d 307 16 7 [(4, (0, 5)), (3, (0, u)), (0, (4, 0)), (1, (0, r1)), (2, (0, 3))] [] [jzG_18, (100, [], jS0), jgh, jgh, jgh, jgh, jgh, jgh, jgh, jgh, jgh, jgh, jgh, jgh, jgh, jgh] b1 b2 Q := by
  rcases (show (0 ≤ (((Int32.ofInt r1 >>> (Int32.ofInt 5 &&& 31)).toInt) % 2) - 1) ∨ ((((Int32.ofInt r1 >>> (Int32.ofInt 5 &&& 31)).toInt) % 2) - 1 < 0) by omega) with g_0 | g_0
  · refine jT_xiload (v := (0, 5)) (pcN := 9) jIG_307_7 rfl rfl rfl ?_
    refine jT_xbipush (k := 8) (pcN := 11) jIG_307_9 (by decide) rfl ?_
    refine jT_xicF (t := 46) (pcN := 14) jIG_307_11 rfl (by decide +kernel) rfl rfl ?_
    refine jT_xiload_n (v := (0, r1)) (pcN := 15) jIG_307_14 rfl rfl rfl ?_
    refine jT_xiload (v := (0, 5)) (pcN := 17) jIG_307_15 rfl rfl rfl ?_
    refine jT_fR [] 16 (y := 306) (pcN := 20) (dC := 2) (bc1 := 0) (bc2 := 0) (c1 := b1) (c2 := b2) (as := [(0, r1), (0, 5)]) (asC := [(0, r1), (0, 5)]) (LN := [(4, (0, 5)), (3, (0, u)), (0, (4, 0)), (1, (0, r1)), (2, (0, 3))]) (stN := []) (hsC := []) (v := (0, 1)) (st2 := [(0, 1)]) (jG_306_65 (d := 0) (by omega) (by omega)) (by rfl) (by rfl) (by decide +kernel) (by rfl) (by rfl) (by omega) (by omega) (by omega) (by omega) rfl ?_
    refine jT_xifF (t := 40) (pcN := 23) jIG_307_20 rfl (by decide +kernel) rfl rfl ?_
    refine jT_xiload_n (v := (0, u)) (pcN := 24) jIG_307_23 rfl rfl rfl ?_
    refine jT_xaload_n (v := (4, 0)) (pcN := 25) jIG_307_24 rfl rfl rfl ?_
    refine jT_xgetf (a := 0) (t := 1) (ci := 14) (fi := 1) (c := jzG_18) (v := (4, 1)) (pcN := 28) jIG_307_25 rfl rfl rfl rfl rfl rfl rfl ?_
    refine jT_xbipush (k := 7) (pcN := 30) jIG_307_28 (by decide) rfl ?_
    refine jT_xiload (v := (0, 5)) (pcN := 32) jIG_307_30 rfl rfl rfl ?_
    refine jT_ximul (x := 7) (y := 5) (z := 35) (pcN := 33) jIG_307_32 rfl (by decide) rfl ?_
    refine jT_xiload_n (v := (0, 3)) (pcN := 34) jIG_307_33 rfl rfl rfl ?_
    refine jT_xiadd (x := 35) (y := 3) (z := 38) (pcN := 35) jIG_307_34 rfl (by decide) rfl ?_
    refine jT_iald (x := 0) (a := 1) (j := 38) (fs := []) (X := jS0) (by rfl) (by rfl) (by rfl) (by rfl) (by decide +kernel) ?_
    refine jT_eq (LN := [(4, (0, 5)), (3, (0, u)), (0, (4, 0)), (1, (0, r1)), (2, (0, 3))]) (stN := [(0, 0), (0, u)]) (hsN := jpG_156) rfl rfl rfl ?_
    refine jT_mm1 (x := u) (y := 0) (z := 0) (by rfl) (by rfl) (by rfl) (by rfl) (jw_idd (by omega) (by omega)) (jw_idd (by omega) (by omega)) (by rw [decide_eq_false (show ¬ ((u : Int) < 0) by omega)]; rfl) ?_
    refine jT_xistore_n (v := (0, 0)) (LN := [(3, (0, 0)), (4, (0, 5)), (0, (4, 0)), (1, (0, r1)), (2, (0, 3))]) (pcN := 40) jIG_307_39 rfl rfl rfl rfl ?_
    refine jT_xiinc (x := 5) (z := 6) (LN := [(4, (0, 6)), (3, (0, 0)), (0, (4, 0)), (1, (0, r1)), (2, (0, 3))]) (pcN := 43) jIG_307_40 rfl rfl (by decide) rfl rfl ?_
    refine jT_xgoto (pcN := 7) jIG_307_43 rfl ?_
    refine jT_loc (LN := [(4, (0, 6)), (3, (0, 0)), (0, (4, 0)), (1, (0, r1)), (2, (0, 3))]) (by show List.Nodup [4, 3, 0, 1, 2]; decide) (by intro q hq; simp only [List.mem_cons, List.not_mem_nil, or_false] at hq; rcases hq with rfl | rfl | rfl | rfl | rfl <;> rfl) ?_
    exact jGl_ch_83_6 hd (u := 0) (by omega) h_r1 (by rw [← hw]; exact (jlw_1 (by omega)).symm) h
  · refine jT_xiload (v := (0, 5)) (pcN := 9) jIG_307_7 rfl rfl rfl ?_
    refine jT_xbipush (k := 8) (pcN := 11) jIG_307_9 (by decide) rfl ?_
    refine jT_xicF (t := 46) (pcN := 14) jIG_307_11 rfl (by decide +kernel) rfl rfl ?_
    refine jT_xiload_n (v := (0, r1)) (pcN := 15) jIG_307_14 rfl rfl rfl ?_
    refine jT_xiload (v := (0, 5)) (pcN := 17) jIG_307_15 rfl rfl rfl ?_
    refine jT_fR [] 16 (y := 306) (pcN := 20) (dC := 2) (bc1 := 0) (bc2 := 0) (c1 := b1) (c2 := b2) (as := [(0, r1), (0, 5)]) (asC := [(0, r1), (0, 5)]) (LN := [(4, (0, 5)), (3, (0, u)), (0, (4, 0)), (1, (0, r1)), (2, (0, 3))]) (stN := []) (hsC := []) (v := (0, 0)) (st2 := [(0, 0)]) (jG_306_64 (d := 0) (by omega) (by omega)) (by rfl) (by rfl) (by decide +kernel) (by rfl) (by rfl) (by omega) (by omega) (by omega) (by omega) rfl ?_
    refine jT_xifT (pcN := 40) jIG_307_20 rfl (by decide +kernel) rfl ?_
    refine jT_xiinc (x := 5) (z := 6) (LN := [(4, (0, 6)), (3, (0, u)), (0, (4, 0)), (1, (0, r1)), (2, (0, 3))]) (pcN := 43) jIG_307_40 rfl rfl (by decide) rfl rfl ?_
    refine jT_xgoto (pcN := 7) jIG_307_43 rfl ?_
    refine jT_loc (LN := [(4, (0, 6)), (3, (0, u)), (0, (4, 0)), (1, (0, r1)), (2, (0, 3))]) (by show List.Nodup [4, 3, 0, 1, 2]; decide) (by intro q hq; simp only [List.mem_cons, List.not_mem_nil, or_false] at hq; rcases hq with rfl | rfl | rfl | rfl | rfl <;> rfl) ?_
    exact jGl_ch_83_6 hd (u := u) (by omega) h_r1 (by rw [← hw]; exact (jlw_0 (by omega)).symm) h
theorem jGl_ch_83_4 {xs : List Int} {d b1 b2 : Nat} {Q : Nat → JV → List JC → Prop} (hd : 3 < d) {r1 : Int} {u : Int} (h_u : 0 ≤ u ∧ u ≤ 2147483647) (h_r1 : 1 ≤ r1 ∧ r1 ≤ 255) {w : Int} (hw : jlw r1 [4, 5, 6, 7] u = w) (h : jT xs d 307 16 46 [(3, (0, w)), (0, (4, 0))] [] [jzG_18, (100, [], jS0), jgh, jgh, jgh, jgh, jgh, jgh, jgh, jgh, jgh, jgh, jgh, jgh, jgh, jgh] b1 b2 Q) : jT xs d 307 16 7 [(4, (0, 4)), (3, (0, u)), (0, (4, 0)), (1, (0, r1)), (2, (0, 3))] [] [jzG_18, (100, [], jS0), jgh, jgh, jgh, jgh, jgh, jgh, jgh, jgh, jgh, jgh, jgh, jgh, jgh, jgh] b1 b2 Q := by
  rcases (show (0 ≤ (((Int32.ofInt r1 >>> (Int32.ofInt 4 &&& 31)).toInt) % 2) - 1) ∨ ((((Int32.ofInt r1 >>> (Int32.ofInt 4 &&& 31)).toInt) % 2) - 1 < 0) by omega) with g_0 | g_0
  · refine jT_xiload (v := (0, 4)) (pcN := 9) jIG_307_7 rfl rfl rfl ?_
    refine jT_xbipush (k := 8) (pcN := 11) jIG_307_9 (by decide) rfl ?_
    refine jT_xicF (t := 46) (pcN := 14) jIG_307_11 rfl (by decide +kernel) rfl rfl ?_
    refine jT_xiload_n (v := (0, r1)) (pcN := 15) jIG_307_14 rfl rfl rfl ?_
    refine jT_xiload (v := (0, 4)) (pcN := 17) jIG_307_15 rfl rfl rfl ?_
    refine jT_fR [] 16 (y := 306) (pcN := 20) (dC := 2) (bc1 := 0) (bc2 := 0) (c1 := b1) (c2 := b2) (as := [(0, r1), (0, 4)]) (asC := [(0, r1), (0, 4)]) (LN := [(4, (0, 4)), (3, (0, u)), (0, (4, 0)), (1, (0, r1)), (2, (0, 3))]) (stN := []) (hsC := []) (v := (0, 1)) (st2 := [(0, 1)]) (jG_306_60 (d := 0) (by omega) (by omega)) (by rfl) (by rfl) (by decide +kernel) (by rfl) (by rfl) (by omega) (by omega) (by omega) (by omega) rfl ?_
    refine jT_xifF (t := 40) (pcN := 23) jIG_307_20 rfl (by decide +kernel) rfl rfl ?_
    refine jT_xiload_n (v := (0, u)) (pcN := 24) jIG_307_23 rfl rfl rfl ?_
    refine jT_xaload_n (v := (4, 0)) (pcN := 25) jIG_307_24 rfl rfl rfl ?_
    refine jT_xgetf (a := 0) (t := 1) (ci := 14) (fi := 1) (c := jzG_18) (v := (4, 1)) (pcN := 28) jIG_307_25 rfl rfl rfl rfl rfl rfl rfl ?_
    refine jT_xbipush (k := 7) (pcN := 30) jIG_307_28 (by decide) rfl ?_
    refine jT_xiload (v := (0, 4)) (pcN := 32) jIG_307_30 rfl rfl rfl ?_
    refine jT_ximul (x := 7) (y := 4) (z := 28) (pcN := 33) jIG_307_32 rfl (by decide) rfl ?_
    refine jT_xiload_n (v := (0, 3)) (pcN := 34) jIG_307_33 rfl rfl rfl ?_
    refine jT_xiadd (x := 28) (y := 3) (z := 31) (pcN := 35) jIG_307_34 rfl (by decide) rfl ?_
    refine jT_iald (x := 0) (a := 1) (j := 31) (fs := []) (X := jS0) (by rfl) (by rfl) (by rfl) (by rfl) (by decide +kernel) ?_
    refine jT_eq (LN := [(4, (0, 4)), (3, (0, u)), (0, (4, 0)), (1, (0, r1)), (2, (0, 3))]) (stN := [(0, 0), (0, u)]) (hsN := jpG_156) rfl rfl rfl ?_
    refine jT_mm1 (x := u) (y := 0) (z := 0) (by rfl) (by rfl) (by rfl) (by rfl) (jw_idd (by omega) (by omega)) (jw_idd (by omega) (by omega)) (by rw [decide_eq_false (show ¬ ((u : Int) < 0) by omega)]; rfl) ?_
    refine jT_xistore_n (v := (0, 0)) (LN := [(3, (0, 0)), (4, (0, 4)), (0, (4, 0)), (1, (0, r1)), (2, (0, 3))]) (pcN := 40) jIG_307_39 rfl rfl rfl rfl ?_
    refine jT_xiinc (x := 4) (z := 5) (LN := [(4, (0, 5)), (3, (0, 0)), (0, (4, 0)), (1, (0, r1)), (2, (0, 3))]) (pcN := 43) jIG_307_40 rfl rfl (by decide) rfl rfl ?_
    refine jT_xgoto (pcN := 7) jIG_307_43 rfl ?_
    refine jT_loc (LN := [(4, (0, 5)), (3, (0, 0)), (0, (4, 0)), (1, (0, r1)), (2, (0, 3))]) (by show List.Nodup [4, 3, 0, 1, 2]; decide) (by intro q hq; simp only [List.mem_cons, List.not_mem_nil, or_false] at hq; rcases hq with rfl | rfl | rfl | rfl | rfl <;> rfl) ?_
    exact jGl_ch_83_5 hd (u := 0) (by omega) h_r1 (by rw [← hw]; exact (jlw_1 (by omega)).symm) h
  · refine jT_xiload (v := (0, 4)) (pcN := 9) jIG_307_7 rfl rfl rfl ?_
    refine jT_xbipush (k := 8) (pcN := 11) jIG_307_9 (by decide) rfl ?_
    refine jT_xicF (t := 46) (pcN := 14) jIG_307_11 rfl (by decide +kernel) rfl rfl ?_
    refine jT_xiload_n (v := (0, r1)) (pcN := 15) jIG_307_14 rfl rfl rfl ?_
    refine jT_xiload (v := (0, 4)) (pcN := 17) jIG_307_15 rfl rfl rfl ?_
    refine jT_fR [] 16 (y := 306) (pcN := 20) (dC := 2) (bc1 := 0) (bc2 := 0) (c1 := b1) (c2 := b2) (as := [(0, r1), (0, 4)]) (asC := [(0, r1), (0, 4)]) (LN := [(4, (0, 4)), (3, (0, u)), (0, (4, 0)), (1, (0, r1)), (2, (0, 3))]) (stN := []) (hsC := []) (v := (0, 0)) (st2 := [(0, 0)]) (jG_306_59 (d := 0) (by omega) (by omega)) (by rfl) (by rfl) (by decide +kernel) (by rfl) (by rfl) (by omega) (by omega) (by omega) (by omega) rfl ?_
    refine jT_xifT (pcN := 40) jIG_307_20 rfl (by decide +kernel) rfl ?_
    refine jT_xiinc (x := 4) (z := 5) (LN := [(4, (0, 5)), (3, (0, u)), (0, (4, 0)), (1, (0, r1)), (2, (0, 3))]) (pcN := 43) jIG_307_40 rfl rfl (by decide) rfl rfl ?_
    refine jT_xgoto (pcN := 7) jIG_307_43 rfl ?_
    refine jT_loc (LN := [(4, (0, 5)), (3, (0, u)), (0, (4, 0)), (1, (0, r1)), (2, (0, 3))]) (by show List.Nodup [4, 3, 0, 1, 2]; decide) (by intro q hq; simp only [List.mem_cons, List.not_mem_nil, or_false] at hq; rcases hq with rfl | rfl | rfl | rfl | rfl <;> rfl) ?_
    exact jGl_ch_83_5 hd (u := u) (by omega) h_r1 (by rw [← hw]; exact (jlw_0 (by omega)).symm) h
theorem jGl_ch_83_3 {xs : List Int} {d b1 b2 : Nat} {Q : Nat → JV → List JC → Prop} (hd : 3 < d) {r1 : Int} {u : Int} (h_u : 0 ≤ u ∧ u ≤ 2147483647) (h_r1 : 1 ≤ r1 ∧ r1 ≤ 255) {w : Int} (hw : jlw r1 [3, 4, 5, 6, 7] u = w) (h : jT xs d 307 16 46 [(3, (0, w)), (0, (4, 0))] [] [jzG_18, (100, [], jS0), jgh, jgh, jgh, jgh, jgh, jgh, jgh, jgh, jgh, jgh, jgh, jgh, jgh, jgh] b1 b2 Q) : jT xs d 307 16 7 [(4, (0, 3)), (3, (0, u)), (0, (4, 0)), (1, (0, r1)), (2, (0, 3))] [] [jzG_18, (100, [], jS0), jgh, jgh, jgh, jgh, jgh, jgh, jgh, jgh, jgh, jgh, jgh, jgh, jgh, jgh] b1 b2 Q := by
  rcases (show (0 ≤ (((Int32.ofInt r1 >>> (Int32.ofInt 3 &&& 31)).toInt) % 2) - 1) ∨ ((((Int32.ofInt r1 >>> (Int32.ofInt 3 &&& 31)).toInt) % 2) - 1 < 0) by omega) with g_0 | g_0
  · refine jT_xiload (v := (0, 3)) (pcN := 9) jIG_307_7 rfl rfl rfl ?_
    refine jT_xbipush (k := 8) (pcN := 11) jIG_307_9 (by decide) rfl ?_
    refine jT_xicF (t := 46) (pcN := 14) jIG_307_11 rfl (by decide +kernel) rfl rfl ?_
    refine jT_xiload_n (v := (0, r1)) (pcN := 15) jIG_307_14 rfl rfl rfl ?_
    refine jT_xiload (v := (0, 3)) (pcN := 17) jIG_307_15 rfl rfl rfl ?_
    refine jT_fR [] 16 (y := 306) (pcN := 20) (dC := 2) (bc1 := 0) (bc2 := 0) (c1 := b1) (c2 := b2) (as := [(0, r1), (0, 3)]) (asC := [(0, r1), (0, 3)]) (LN := [(4, (0, 3)), (3, (0, u)), (0, (4, 0)), (1, (0, r1)), (2, (0, 3))]) (stN := []) (hsC := []) (v := (0, 1)) (st2 := [(0, 1)]) (jG_306_55 (d := 0) (by omega) (by omega)) (by rfl) (by rfl) (by decide +kernel) (by rfl) (by rfl) (by omega) (by omega) (by omega) (by omega) rfl ?_
    refine jT_xifF (t := 40) (pcN := 23) jIG_307_20 rfl (by decide +kernel) rfl rfl ?_
    refine jT_xiload_n (v := (0, u)) (pcN := 24) jIG_307_23 rfl rfl rfl ?_
    refine jT_xaload_n (v := (4, 0)) (pcN := 25) jIG_307_24 rfl rfl rfl ?_
    refine jT_xgetf (a := 0) (t := 1) (ci := 14) (fi := 1) (c := jzG_18) (v := (4, 1)) (pcN := 28) jIG_307_25 rfl rfl rfl rfl rfl rfl rfl ?_
    refine jT_xbipush (k := 7) (pcN := 30) jIG_307_28 (by decide) rfl ?_
    refine jT_xiload (v := (0, 3)) (pcN := 32) jIG_307_30 rfl rfl rfl ?_
    refine jT_ximul (x := 7) (y := 3) (z := 21) (pcN := 33) jIG_307_32 rfl (by decide) rfl ?_
    refine jT_xiload_n (v := (0, 3)) (pcN := 34) jIG_307_33 rfl rfl rfl ?_
    refine jT_xiadd (x := 21) (y := 3) (z := 24) (pcN := 35) jIG_307_34 rfl (by decide) rfl ?_
    refine jT_iald (x := 0) (a := 1) (j := 24) (fs := []) (X := jS0) (by rfl) (by rfl) (by rfl) (by rfl) (by decide +kernel) ?_
    refine jT_eq (LN := [(4, (0, 3)), (3, (0, u)), (0, (4, 0)), (1, (0, r1)), (2, (0, 3))]) (stN := [(0, 0), (0, u)]) (hsN := jpG_156) rfl rfl rfl ?_
    refine jT_mm1 (x := u) (y := 0) (z := 0) (by rfl) (by rfl) (by rfl) (by rfl) (jw_idd (by omega) (by omega)) (jw_idd (by omega) (by omega)) (by rw [decide_eq_false (show ¬ ((u : Int) < 0) by omega)]; rfl) ?_
    refine jT_xistore_n (v := (0, 0)) (LN := [(3, (0, 0)), (4, (0, 3)), (0, (4, 0)), (1, (0, r1)), (2, (0, 3))]) (pcN := 40) jIG_307_39 rfl rfl rfl rfl ?_
    refine jT_xiinc (x := 3) (z := 4) (LN := [(4, (0, 4)), (3, (0, 0)), (0, (4, 0)), (1, (0, r1)), (2, (0, 3))]) (pcN := 43) jIG_307_40 rfl rfl (by decide) rfl rfl ?_
    refine jT_xgoto (pcN := 7) jIG_307_43 rfl ?_
    refine jT_loc (LN := [(4, (0, 4)), (3, (0, 0)), (0, (4, 0)), (1, (0, r1)), (2, (0, 3))]) (by show List.Nodup [4, 3, 0, 1, 2]; decide) (by intro q hq; simp only [List.mem_cons, List.not_mem_nil, or_false] at hq; rcases hq with rfl | rfl | rfl | rfl | rfl <;> rfl) ?_
    exact jGl_ch_83_4 hd (u := 0) (by omega) h_r1 (by rw [← hw]; exact (jlw_1 (by omega)).symm) h
  · refine jT_xiload (v := (0, 3)) (pcN := 9) jIG_307_7 rfl rfl rfl ?_
    refine jT_xbipush (k := 8) (pcN := 11) jIG_307_9 (by decide) rfl ?_
    refine jT_xicF (t := 46) (pcN := 14) jIG_307_11 rfl (by decide +kernel) rfl rfl ?_
    refine jT_xiload_n (v := (0, r1)) (pcN := 15) jIG_307_14 rfl rfl rfl ?_
    refine jT_xiload (v := (0, 3)) (pcN := 17) jIG_307_15 rfl rfl rfl ?_
    refine jT_fR [] 16 (y := 306) (pcN := 20) (dC := 2) (bc1 := 0) (bc2 := 0) (c1 := b1) (c2 := b2) (as := [(0, r1), (0, 3)]) (asC := [(0, r1), (0, 3)]) (LN := [(4, (0, 3)), (3, (0, u)), (0, (4, 0)), (1, (0, r1)), (2, (0, 3))]) (stN := []) (hsC := []) (v := (0, 0)) (st2 := [(0, 0)]) (jG_306_54 (d := 0) (by omega) (by omega)) (by rfl) (by rfl) (by decide +kernel) (by rfl) (by rfl) (by omega) (by omega) (by omega) (by omega) rfl ?_
    refine jT_xifT (pcN := 40) jIG_307_20 rfl (by decide +kernel) rfl ?_
    refine jT_xiinc (x := 3) (z := 4) (LN := [(4, (0, 4)), (3, (0, u)), (0, (4, 0)), (1, (0, r1)), (2, (0, 3))]) (pcN := 43) jIG_307_40 rfl rfl (by decide) rfl rfl ?_
    refine jT_xgoto (pcN := 7) jIG_307_43 rfl ?_
    refine jT_loc (LN := [(4, (0, 4)), (3, (0, u)), (0, (4, 0)), (1, (0, r1)), (2, (0, 3))]) (by show List.Nodup [4, 3, 0, 1, 2]; decide) (by intro q hq; simp only [List.mem_cons, List.not_mem_nil, or_false] at hq; rcases hq with rfl | rfl | rfl | rfl | rfl <;> rfl) ?_
    exact jGl_ch_83_4 hd (u := u) (by omega) h_r1 (by rw [← hw]; exact (jlw_0 (by omega)).symm) h
theorem jGl_ch_83_2 {xs : List Int} {d b1 b2 : Nat} {Q : Nat → JV → List JC → Prop} (hd : 3 < d) {r1 : Int} {u : Int} (h_u : 0 ≤ u ∧ u ≤ 2147483647) (h_r1 : 1 ≤ r1 ∧ r1 ≤ 255) {w : Int} (hw : jlw r1 [2, 3, 4, 5, 6, 7] u = w) (h : jT xs d 307 16 46 [(3, (0, w)), (0, (4, 0))] [] [jzG_18, (100, [], jS0), jgh, jgh, jgh, jgh, jgh, jgh, jgh, jgh, jgh, jgh, jgh, jgh, jgh, jgh] b1 b2 Q) : jT xs d 307 16 7 [(4, (0, 2)), (3, (0, u)), (0, (4, 0)), (1, (0, r1)), (2, (0, 3))] [] [jzG_18, (100, [], jS0), jgh, jgh, jgh, jgh, jgh, jgh, jgh, jgh, jgh, jgh, jgh, jgh, jgh, jgh] b1 b2 Q := by
  rcases (show (0 ≤ (((Int32.ofInt r1 >>> (Int32.ofInt 2 &&& 31)).toInt) % 2) - 1) ∨ ((((Int32.ofInt r1 >>> (Int32.ofInt 2 &&& 31)).toInt) % 2) - 1 < 0) by omega) with g_0 | g_0
  · refine jT_xiload (v := (0, 2)) (pcN := 9) jIG_307_7 rfl rfl rfl ?_
    refine jT_xbipush (k := 8) (pcN := 11) jIG_307_9 (by decide) rfl ?_
    refine jT_xicF (t := 46) (pcN := 14) jIG_307_11 rfl (by decide +kernel) rfl rfl ?_
    refine jT_xiload_n (v := (0, r1)) (pcN := 15) jIG_307_14 rfl rfl rfl ?_
    refine jT_xiload (v := (0, 2)) (pcN := 17) jIG_307_15 rfl rfl rfl ?_
    refine jT_fR [] 16 (y := 306) (pcN := 20) (dC := 2) (bc1 := 0) (bc2 := 0) (c1 := b1) (c2 := b2) (as := [(0, r1), (0, 2)]) (asC := [(0, r1), (0, 2)]) (LN := [(4, (0, 2)), (3, (0, u)), (0, (4, 0)), (1, (0, r1)), (2, (0, 3))]) (stN := []) (hsC := []) (v := (0, 1)) (st2 := [(0, 1)]) (jG_306_50 (d := 0) (by omega) (by omega)) (by rfl) (by rfl) (by decide +kernel) (by rfl) (by rfl) (by omega) (by omega) (by omega) (by omega) rfl ?_
    refine jT_xifF (t := 40) (pcN := 23) jIG_307_20 rfl (by decide +kernel) rfl rfl ?_
    refine jT_xiload_n (v := (0, u)) (pcN := 24) jIG_307_23 rfl rfl rfl ?_
    refine jT_xaload_n (v := (4, 0)) (pcN := 25) jIG_307_24 rfl rfl rfl ?_
    refine jT_xgetf (a := 0) (t := 1) (ci := 14) (fi := 1) (c := jzG_18) (v := (4, 1)) (pcN := 28) jIG_307_25 rfl rfl rfl rfl rfl rfl rfl ?_
    refine jT_xbipush (k := 7) (pcN := 30) jIG_307_28 (by decide) rfl ?_
    refine jT_xiload (v := (0, 2)) (pcN := 32) jIG_307_30 rfl rfl rfl ?_
    refine jT_ximul (x := 7) (y := 2) (z := 14) (pcN := 33) jIG_307_32 rfl (by decide) rfl ?_
    refine jT_xiload_n (v := (0, 3)) (pcN := 34) jIG_307_33 rfl rfl rfl ?_
    refine jT_xiadd (x := 14) (y := 3) (z := 17) (pcN := 35) jIG_307_34 rfl (by decide) rfl ?_
    refine jT_iald (x := 0) (a := 1) (j := 17) (fs := []) (X := jS0) (by rfl) (by rfl) (by rfl) (by rfl) (by decide +kernel) ?_
    refine jT_eq (LN := [(4, (0, 2)), (3, (0, u)), (0, (4, 0)), (1, (0, r1)), (2, (0, 3))]) (stN := [(0, 0), (0, u)]) (hsN := jpG_156) rfl rfl rfl ?_
    refine jT_mm1 (x := u) (y := 0) (z := 0) (by rfl) (by rfl) (by rfl) (by rfl) (jw_idd (by omega) (by omega)) (jw_idd (by omega) (by omega)) (by rw [decide_eq_false (show ¬ ((u : Int) < 0) by omega)]; rfl) ?_
    refine jT_xistore_n (v := (0, 0)) (LN := [(3, (0, 0)), (4, (0, 2)), (0, (4, 0)), (1, (0, r1)), (2, (0, 3))]) (pcN := 40) jIG_307_39 rfl rfl rfl rfl ?_
    refine jT_xiinc (x := 2) (z := 3) (LN := [(4, (0, 3)), (3, (0, 0)), (0, (4, 0)), (1, (0, r1)), (2, (0, 3))]) (pcN := 43) jIG_307_40 rfl rfl (by decide) rfl rfl ?_
    refine jT_xgoto (pcN := 7) jIG_307_43 rfl ?_
    refine jT_loc (LN := [(4, (0, 3)), (3, (0, 0)), (0, (4, 0)), (1, (0, r1)), (2, (0, 3))]) (by show List.Nodup [4, 3, 0, 1, 2]; decide) (by intro q hq; simp only [List.mem_cons, List.not_mem_nil, or_false] at hq; rcases hq with rfl | rfl | rfl | rfl | rfl <;> rfl) ?_
    exact jGl_ch_83_3 hd (u := 0) (by omega) h_r1 (by rw [← hw]; exact (jlw_1 (by omega)).symm) h
  · refine jT_xiload (v := (0, 2)) (pcN := 9) jIG_307_7 rfl rfl rfl ?_
    refine jT_xbipush (k := 8) (pcN := 11) jIG_307_9 (by decide) rfl ?_
    refine jT_xicF (t := 46) (pcN := 14) jIG_307_11 rfl (by decide +kernel) rfl rfl ?_
    refine jT_xiload_n (v := (0, r1)) (pcN := 15) jIG_307_14 rfl rfl rfl ?_
    refine jT_xiload (v := (0, 2)) (pcN := 17) jIG_307_15 rfl rfl rfl ?_
    refine jT_fR [] 16 (y := 306) (pcN := 20) (dC := 2) (bc1 := 0) (bc2 := 0) (c1 := b1) (c2 := b2) (as := [(0, r1), (0, 2)]) (asC := [(0, r1), (0, 2)]) (LN := [(4, (0, 2)), (3, (0, u)), (0, (4, 0)), (1, (0, r1)), (2, (0, 3))]) (stN := []) (hsC := []) (v := (0, 0)) (st2 := [(0, 0)]) (jG_306_49 (d := 0) (by omega) (by omega)) (by rfl) (by rfl) (by decide +kernel) (by rfl) (by rfl) (by omega) (by omega) (by omega) (by omega) rfl ?_
    refine jT_xifT (pcN := 40) jIG_307_20 rfl (by decide +kernel) rfl ?_
    refine jT_xiinc (x := 2) (z := 3) (LN := [(4, (0, 3)), (3, (0, u)), (0, (4, 0)), (1, (0, r1)), (2, (0, 3))]) (pcN := 43) jIG_307_40 rfl rfl (by decide) rfl rfl ?_
    refine jT_xgoto (pcN := 7) jIG_307_43 rfl ?_
    refine jT_loc (LN := [(4, (0, 3)), (3, (0, u)), (0, (4, 0)), (1, (0, r1)), (2, (0, 3))]) (by show List.Nodup [4, 3, 0, 1, 2]; decide) (by intro q hq; simp only [List.mem_cons, List.not_mem_nil, or_false] at hq; rcases hq with rfl | rfl | rfl | rfl | rfl <;> rfl) ?_
    exact jGl_ch_83_3 hd (u := u) (by omega) h_r1 (by rw [← hw]; exact (jlw_0 (by omega)).symm) h
theorem jGl_ch_83_1 {xs : List Int} {d b1 b2 : Nat} {Q : Nat → JV → List JC → Prop} (hd : 3 < d) {r1 : Int} {u : Int} (h_u : 0 ≤ u ∧ u ≤ 2147483647) (h_r1 : 1 ≤ r1 ∧ r1 ≤ 255) {w : Int} (hw : jlw r1 [1, 2, 3, 4, 5, 6, 7] u = w) (h : jT xs d 307 16 46 [(3, (0, w)), (0, (4, 0))] [] [jzG_18, (100, [], jS0), jgh, jgh, jgh, jgh, jgh, jgh, jgh, jgh, jgh, jgh, jgh, jgh, jgh, jgh] b1 b2 Q) : jT xs d 307 16 7 [(4, (0, 1)), (3, (0, u)), (0, (4, 0)), (1, (0, r1)), (2, (0, 3))] [] [jzG_18, (100, [], jS0), jgh, jgh, jgh, jgh, jgh, jgh, jgh, jgh, jgh, jgh, jgh, jgh, jgh, jgh] b1 b2 Q := by
  rcases (show (0 ≤ (((Int32.ofInt r1 >>> (Int32.ofInt 1 &&& 31)).toInt) % 2) - 1) ∨ ((((Int32.ofInt r1 >>> (Int32.ofInt 1 &&& 31)).toInt) % 2) - 1 < 0) by omega) with g_0 | g_0
  · refine jT_xiload (v := (0, 1)) (pcN := 9) jIG_307_7 rfl rfl rfl ?_
    refine jT_xbipush (k := 8) (pcN := 11) jIG_307_9 (by decide) rfl ?_
    refine jT_xicF (t := 46) (pcN := 14) jIG_307_11 rfl (by decide +kernel) rfl rfl ?_
    refine jT_xiload_n (v := (0, r1)) (pcN := 15) jIG_307_14 rfl rfl rfl ?_
    refine jT_xiload (v := (0, 1)) (pcN := 17) jIG_307_15 rfl rfl rfl ?_
    refine jT_fR [] 16 (y := 306) (pcN := 20) (dC := 2) (bc1 := 0) (bc2 := 0) (c1 := b1) (c2 := b2) (as := [(0, r1), (0, 1)]) (asC := [(0, r1), (0, 1)]) (LN := [(4, (0, 1)), (3, (0, u)), (0, (4, 0)), (1, (0, r1)), (2, (0, 3))]) (stN := []) (hsC := []) (v := (0, 1)) (st2 := [(0, 1)]) (jG_306_45 (d := 0) (by omega) (by omega)) (by rfl) (by rfl) (by decide +kernel) (by rfl) (by rfl) (by omega) (by omega) (by omega) (by omega) rfl ?_
    refine jT_xifF (t := 40) (pcN := 23) jIG_307_20 rfl (by decide +kernel) rfl rfl ?_
    refine jT_xiload_n (v := (0, u)) (pcN := 24) jIG_307_23 rfl rfl rfl ?_
    refine jT_xaload_n (v := (4, 0)) (pcN := 25) jIG_307_24 rfl rfl rfl ?_
    refine jT_xgetf (a := 0) (t := 1) (ci := 14) (fi := 1) (c := jzG_18) (v := (4, 1)) (pcN := 28) jIG_307_25 rfl rfl rfl rfl rfl rfl rfl ?_
    refine jT_xbipush (k := 7) (pcN := 30) jIG_307_28 (by decide) rfl ?_
    refine jT_xiload (v := (0, 1)) (pcN := 32) jIG_307_30 rfl rfl rfl ?_
    refine jT_ximul (x := 7) (y := 1) (z := 7) (pcN := 33) jIG_307_32 rfl (by decide) rfl ?_
    refine jT_xiload_n (v := (0, 3)) (pcN := 34) jIG_307_33 rfl rfl rfl ?_
    refine jT_xiadd (x := 7) (y := 3) (z := 10) (pcN := 35) jIG_307_34 rfl (by decide) rfl ?_
    refine jT_iald (x := 0) (a := 1) (j := 10) (fs := []) (X := jS0) (by rfl) (by rfl) (by rfl) (by rfl) (by decide +kernel) ?_
    refine jT_eq (LN := [(4, (0, 1)), (3, (0, u)), (0, (4, 0)), (1, (0, r1)), (2, (0, 3))]) (stN := [(0, 0), (0, u)]) (hsN := jpG_156) rfl rfl rfl ?_
    refine jT_mm1 (x := u) (y := 0) (z := 0) (by rfl) (by rfl) (by rfl) (by rfl) (jw_idd (by omega) (by omega)) (jw_idd (by omega) (by omega)) (by rw [decide_eq_false (show ¬ ((u : Int) < 0) by omega)]; rfl) ?_
    refine jT_xistore_n (v := (0, 0)) (LN := [(3, (0, 0)), (4, (0, 1)), (0, (4, 0)), (1, (0, r1)), (2, (0, 3))]) (pcN := 40) jIG_307_39 rfl rfl rfl rfl ?_
    refine jT_xiinc (x := 1) (z := 2) (LN := [(4, (0, 2)), (3, (0, 0)), (0, (4, 0)), (1, (0, r1)), (2, (0, 3))]) (pcN := 43) jIG_307_40 rfl rfl (by decide) rfl rfl ?_
    refine jT_xgoto (pcN := 7) jIG_307_43 rfl ?_
    refine jT_loc (LN := [(4, (0, 2)), (3, (0, 0)), (0, (4, 0)), (1, (0, r1)), (2, (0, 3))]) (by show List.Nodup [4, 3, 0, 1, 2]; decide) (by intro q hq; simp only [List.mem_cons, List.not_mem_nil, or_false] at hq; rcases hq with rfl | rfl | rfl | rfl | rfl <;> rfl) ?_
    exact jGl_ch_83_2 hd (u := 0) (by omega) h_r1 (by rw [← hw]; exact (jlw_1 (by omega)).symm) h
  · refine jT_xiload (v := (0, 1)) (pcN := 9) jIG_307_7 rfl rfl rfl ?_
    refine jT_xbipush (k := 8) (pcN := 11) jIG_307_9 (by decide) rfl ?_
    refine jT_xicF (t := 46) (pcN := 14) jIG_307_11 rfl (by decide +kernel) rfl rfl ?_
    refine jT_xiload_n (v := (0, r1)) (pcN := 15) jIG_307_14 rfl rfl rfl ?_
    refine jT_xiload (v := (0, 1)) (pcN := 17) jIG_307_15 rfl rfl rfl ?_
    refine jT_fR [] 16 (y := 306) (pcN := 20) (dC := 2) (bc1 := 0) (bc2 := 0) (c1 := b1) (c2 := b2) (as := [(0, r1), (0, 1)]) (asC := [(0, r1), (0, 1)]) (LN := [(4, (0, 1)), (3, (0, u)), (0, (4, 0)), (1, (0, r1)), (2, (0, 3))]) (stN := []) (hsC := []) (v := (0, 0)) (st2 := [(0, 0)]) (jG_306_44 (d := 0) (by omega) (by omega)) (by rfl) (by rfl) (by decide +kernel) (by rfl) (by rfl) (by omega) (by omega) (by omega) (by omega) rfl ?_
    refine jT_xifT (pcN := 40) jIG_307_20 rfl (by decide +kernel) rfl ?_
    refine jT_xiinc (x := 1) (z := 2) (LN := [(4, (0, 2)), (3, (0, u)), (0, (4, 0)), (1, (0, r1)), (2, (0, 3))]) (pcN := 43) jIG_307_40 rfl rfl (by decide) rfl rfl ?_
    refine jT_xgoto (pcN := 7) jIG_307_43 rfl ?_
    refine jT_loc (LN := [(4, (0, 2)), (3, (0, u)), (0, (4, 0)), (1, (0, r1)), (2, (0, 3))]) (by show List.Nodup [4, 3, 0, 1, 2]; decide) (by intro q hq; simp only [List.mem_cons, List.not_mem_nil, or_false] at hq; rcases hq with rfl | rfl | rfl | rfl | rfl <;> rfl) ?_
    exact jGl_ch_83_2 hd (u := u) (by omega) h_r1 (by rw [← hw]; exact (jlw_0 (by omega)).symm) h
theorem jGl_ch_83_0 {xs : List Int} {d b1 b2 : Nat} {Q : Nat → JV → List JC → Prop} (hd : 3 < d) {r1 : Int} {u : Int} (h_u : 0 ≤ u ∧ u ≤ 2147483647) (h_r1 : 1 ≤ r1 ∧ r1 ≤ 255) {w : Int} (hw : jlw r1 [0, 1, 2, 3, 4, 5, 6, 7] u = w) (h : jT xs d 307 16 46 [(3, (0, w)), (0, (4, 0))] [] [jzG_18, (100, [], jS0), jgh, jgh, jgh, jgh, jgh, jgh, jgh, jgh, jgh, jgh, jgh, jgh, jgh, jgh] b1 b2 Q) : jT xs d 307 16 7 [(4, (0, 0)), (3, (0, u)), (0, (4, 0)), (1, (0, r1)), (2, (0, 3))] [] [jzG_18, (100, [], jS0), jgh, jgh, jgh, jgh, jgh, jgh, jgh, jgh, jgh, jgh, jgh, jgh, jgh, jgh] b1 b2 Q := by
  rcases (show (0 ≤ (((Int32.ofInt r1 >>> (Int32.ofInt 0 &&& 31)).toInt) % 2) - 1) ∨ ((((Int32.ofInt r1 >>> (Int32.ofInt 0 &&& 31)).toInt) % 2) - 1 < 0) by omega) with g_0 | g_0
  · refine jT_xiload (v := (0, 0)) (pcN := 9) jIG_307_7 rfl rfl rfl ?_
    refine jT_xbipush (k := 8) (pcN := 11) jIG_307_9 (by decide) rfl ?_
    refine jT_xicF (t := 46) (pcN := 14) jIG_307_11 rfl (by decide +kernel) rfl rfl ?_
    refine jT_xiload_n (v := (0, r1)) (pcN := 15) jIG_307_14 rfl rfl rfl ?_
    refine jT_xiload (v := (0, 0)) (pcN := 17) jIG_307_15 rfl rfl rfl ?_
    refine jT_fR [] 16 (y := 306) (pcN := 20) (dC := 2) (bc1 := 0) (bc2 := 0) (c1 := b1) (c2 := b2) (as := [(0, r1), (0, 0)]) (asC := [(0, r1), (0, 0)]) (LN := [(4, (0, 0)), (3, (0, u)), (0, (4, 0)), (1, (0, r1)), (2, (0, 3))]) (stN := []) (hsC := []) (v := (0, 1)) (st2 := [(0, 1)]) (jG_306_39 (d := 0) (by omega) (by omega)) (by rfl) (by rfl) (by decide +kernel) (by rfl) (by rfl) (by omega) (by omega) (by omega) (by omega) rfl ?_
    refine jT_xifF (t := 40) (pcN := 23) jIG_307_20 rfl (by decide +kernel) rfl rfl ?_
    refine jT_xiload_n (v := (0, u)) (pcN := 24) jIG_307_23 rfl rfl rfl ?_
    refine jT_xaload_n (v := (4, 0)) (pcN := 25) jIG_307_24 rfl rfl rfl ?_
    refine jT_xgetf (a := 0) (t := 1) (ci := 14) (fi := 1) (c := jzG_18) (v := (4, 1)) (pcN := 28) jIG_307_25 rfl rfl rfl rfl rfl rfl rfl ?_
    refine jT_xbipush (k := 7) (pcN := 30) jIG_307_28 (by decide) rfl ?_
    refine jT_xiload (v := (0, 0)) (pcN := 32) jIG_307_30 rfl rfl rfl ?_
    refine jT_ximul (x := 7) (y := 0) (z := 0) (pcN := 33) jIG_307_32 rfl (by decide) rfl ?_
    refine jT_xiload_n (v := (0, 3)) (pcN := 34) jIG_307_33 rfl rfl rfl ?_
    refine jT_xiadd (x := 0) (y := 3) (z := 3) (pcN := 35) jIG_307_34 rfl (by decide) rfl ?_
    refine jT_iald (x := 0) (a := 1) (j := 3) (fs := []) (X := jS0) (by rfl) (by rfl) (by rfl) (by rfl) (by decide +kernel) ?_
    refine jT_eq (LN := [(4, (0, 0)), (3, (0, u)), (0, (4, 0)), (1, (0, r1)), (2, (0, 3))]) (stN := [(0, 0), (0, u)]) (hsN := jpG_156) rfl rfl rfl ?_
    refine jT_mm1 (x := u) (y := 0) (z := 0) (by rfl) (by rfl) (by rfl) (by rfl) (jw_idd (by omega) (by omega)) (jw_idd (by omega) (by omega)) (by rw [decide_eq_false (show ¬ ((u : Int) < 0) by omega)]; rfl) ?_
    refine jT_xistore_n (v := (0, 0)) (LN := [(3, (0, 0)), (4, (0, 0)), (0, (4, 0)), (1, (0, r1)), (2, (0, 3))]) (pcN := 40) jIG_307_39 rfl rfl rfl rfl ?_
    refine jT_xiinc (x := 0) (z := 1) (LN := [(4, (0, 1)), (3, (0, 0)), (0, (4, 0)), (1, (0, r1)), (2, (0, 3))]) (pcN := 43) jIG_307_40 rfl rfl (by decide) rfl rfl ?_
    refine jT_xgoto (pcN := 7) jIG_307_43 rfl ?_
    refine jT_loc (LN := [(4, (0, 1)), (3, (0, 0)), (0, (4, 0)), (1, (0, r1)), (2, (0, 3))]) (by show List.Nodup [4, 3, 0, 1, 2]; decide) (by intro q hq; simp only [List.mem_cons, List.not_mem_nil, or_false] at hq; rcases hq with rfl | rfl | rfl | rfl | rfl <;> rfl) ?_
    exact jGl_ch_83_1 hd (u := 0) (by omega) h_r1 (by rw [← hw]; exact (jlw_1 (by omega)).symm) h
  · refine jT_xiload (v := (0, 0)) (pcN := 9) jIG_307_7 rfl rfl rfl ?_
    refine jT_xbipush (k := 8) (pcN := 11) jIG_307_9 (by decide) rfl ?_
    refine jT_xicF (t := 46) (pcN := 14) jIG_307_11 rfl (by decide +kernel) rfl rfl ?_
    refine jT_xiload_n (v := (0, r1)) (pcN := 15) jIG_307_14 rfl rfl rfl ?_
    refine jT_xiload (v := (0, 0)) (pcN := 17) jIG_307_15 rfl rfl rfl ?_
    refine jT_fR [] 16 (y := 306) (pcN := 20) (dC := 2) (bc1 := 0) (bc2 := 0) (c1 := b1) (c2 := b2) (as := [(0, r1), (0, 0)]) (asC := [(0, r1), (0, 0)]) (LN := [(4, (0, 0)), (3, (0, u)), (0, (4, 0)), (1, (0, r1)), (2, (0, 3))]) (stN := []) (hsC := []) (v := (0, 0)) (st2 := [(0, 0)]) (jG_306_38 (d := 0) (by omega) (by omega)) (by rfl) (by rfl) (by decide +kernel) (by rfl) (by rfl) (by omega) (by omega) (by omega) (by omega) rfl ?_
    refine jT_xifT (pcN := 40) jIG_307_20 rfl (by decide +kernel) rfl ?_
    refine jT_xiinc (x := 0) (z := 1) (LN := [(4, (0, 1)), (3, (0, u)), (0, (4, 0)), (1, (0, r1)), (2, (0, 3))]) (pcN := 43) jIG_307_40 rfl rfl (by decide) rfl rfl ?_
    refine jT_xgoto (pcN := 7) jIG_307_43 rfl ?_
    refine jT_loc (LN := [(4, (0, 1)), (3, (0, u)), (0, (4, 0)), (1, (0, r1)), (2, (0, 3))]) (by show List.Nodup [4, 3, 0, 1, 2]; decide) (by intro q hq; simp only [List.mem_cons, List.not_mem_nil, or_false] at hq; rcases hq with rfl | rfl | rfl | rfl | rfl <;> rfl) ?_
    exact jGl_ch_83_1 hd (u := u) (by omega) h_r1 (by rw [← hw]; exact (jlw_0 (by omega)).symm) h
theorem jG_307_84 {xs : List Int} {d : Nat} {x1 : Int} (h_x1 : 1 ≤ x1 ∧ x1 ≤ 255) : jT xs (d + 4) 307 16 0 [(0, (4, 0)), (1, (0, x1)), (2, (0, 3))] [] jpG_156 0 0 (fun k v hsN => k = 0 ∧ v = (0, jlw x1 [0, 1, 2, 3, 4, 5, 6, 7] 2147483647) ∧ hsN = jpG_156 ++ []) := by
  refine jT_adv 1 (pcN := 3) (LN := [(0, (4, 0)), (1, (0, x1)), (2, (0, 3))]) (stN := [(0, 2147483647)]) (hsN := jpG_156) (c1 := 0) (s1 := 0) (c2 := 0) (s2 := 0) (by exact rfl) ?_ (by omega) (by omega)
  refine jT_xistore_n (v := (0, 2147483647)) (LN := [(3, (0, 2147483647)), (0, (4, 0)), (1, (0, x1)), (2, (0, 3))]) (pcN := 4) jIG_307_3 rfl rfl rfl rfl ?_
  refine jT_xiconst (k := 0) (pcN := 5) jIG_307_4 rfl ?_
  refine jT_xistore (v := (0, 0)) (LN := [(4, (0, 0)), (3, (0, 2147483647)), (0, (4, 0)), (1, (0, x1)), (2, (0, 3))]) (pcN := 7) jIG_307_5 rfl rfl rfl rfl ?_
  refine jT_loc (LN := [(4, (0, 0)), (3, (0, 2147483647)), (0, (4, 0)), (1, (0, x1)), (2, (0, 3))]) (by show List.Nodup [4, 3, 0, 1, 2]; decide) (by intro q hq; simp only [List.mem_cons, List.not_mem_nil, or_false] at hq; rcases hq with rfl | rfl | rfl | rfl | rfl <;> rfl) ?_
  refine jGl_ch_83_0 (by omega) (u := 2147483647) (by omega) (r1 := x1) (by omega) rfl ?_
  have hb_q1 := jlw_b (c := x1) (r := [0, 1, 2, 3, 4, 5, 6, 7]) (l := 2147483647) (by decide) (by decide)
  generalize hq_q1 : jlw x1 [0, 1, 2, 3, 4, 5, 6, 7] 2147483647 = q1 at hb_q1 ⊢
  refine jT_xiload_n (v := (0, q1)) (pcN := 47) jIG_307_46 rfl rfl rfl ?_
  subst hq_q1
  exact jT_ret rfl (by decide) (by show 16 ≤ 16; omega) (by omega) (by omega) ⟨rfl, rfl, rfl⟩
theorem jGl_ch_85_8 {xs : List Int} {d b1 b2 : Nat} {Q : Nat → JV → List JC → Prop} (hd : 3 < d) {r1 : Int} {u : Int} (h_u : 0 ≤ u ∧ u ≤ 2147483647) (h_r1 : 1 ≤ r1 ∧ r1 ≤ 255) {w : Int} (hw : jlw r1 [] u = w) (h : jT xs d 307 16 46 [(3, (0, w)), (0, (4, 0))] [] [jzG_18, (100, [], jS0), jgh, jgh, jgh, jgh, jgh, jgh, jgh, jgh, jgh, jgh, jgh, jgh, jgh, jgh] b1 b2 Q) : jT xs d 307 16 7 [(4, (0, 8)), (3, (0, u)), (0, (4, 0)), (1, (0, r1)), (2, (0, 4))] [] [jzG_18, (100, [], jS0), jgh, jgh, jgh, jgh, jgh, jgh, jgh, jgh, jgh, jgh, jgh, jgh, jgh, jgh] b1 b2 Q := by
  have e : u = w := hw
  subst e
  refine jT_xiload (v := (0, 8)) (pcN := 9) jIG_307_7 rfl rfl rfl ?_
  refine jT_xbipush (k := 8) (pcN := 11) jIG_307_9 (by decide) rfl ?_
  refine jT_xicT (pcN := 46) jIG_307_11 rfl (by decide +kernel) rfl ?_
  refine jT_loc (LN := [(3, (0, u)), (0, (4, 0))]) (by show List.Nodup [3, 0]; decide) (by intro q hq; simp only [List.mem_cons, List.not_mem_nil, or_false] at hq; rcases hq with rfl | rfl <;> rfl) ?_
  exact h
theorem jGl_ch_85_7 {xs : List Int} {d b1 b2 : Nat} {Q : Nat → JV → List JC → Prop} (hd : 3 < d) {r1 : Int} {u : Int} (h_u : 0 ≤ u ∧ u ≤ 2147483647) (h_r1 : 1 ≤ r1 ∧ r1 ≤ 255) {w : Int} (hw : jlw r1 [7] u = w) (h : jT xs d 307 16 46 [(3, (0, w)), (0, (4, 0))] [] [jzG_18, (100, [], jS0), jgh, jgh, jgh, jgh, jgh, jgh, jgh, jgh, jgh, jgh, jgh, jgh, jgh, jgh] b1 b2 Q) : jT xs d 307 16 7 [(4, (0, 7)), (3, (0, u)), (0, (4, 0)), (1, (0, r1)), (2, (0, 4))] [] [jzG_18, (100, [], jS0), jgh, jgh, jgh, jgh, jgh, jgh, jgh, jgh, jgh, jgh, jgh, jgh, jgh, jgh] b1 b2 Q := by
  rcases (show (0 ≤ (((Int32.ofInt r1 >>> (Int32.ofInt 7 &&& 31)).toInt) % 2) - 1) ∨ ((((Int32.ofInt r1 >>> (Int32.ofInt 7 &&& 31)).toInt) % 2) - 1 < 0) by omega) with g_0 | g_0
  · refine jT_xiload (v := (0, 7)) (pcN := 9) jIG_307_7 rfl rfl rfl ?_
    refine jT_xbipush (k := 8) (pcN := 11) jIG_307_9 (by decide) rfl ?_
    refine jT_xicF (t := 46) (pcN := 14) jIG_307_11 rfl (by decide +kernel) rfl rfl ?_
    refine jT_xiload_n (v := (0, r1)) (pcN := 15) jIG_307_14 rfl rfl rfl ?_
    refine jT_xiload (v := (0, 7)) (pcN := 17) jIG_307_15 rfl rfl rfl ?_
    refine jT_fR [] 16 (y := 306) (pcN := 20) (dC := 2) (bc1 := 0) (bc2 := 0) (c1 := b1) (c2 := b2) (as := [(0, r1), (0, 7)]) (asC := [(0, r1), (0, 7)]) (LN := [(4, (0, 7)), (3, (0, u)), (0, (4, 0)), (1, (0, r1)), (2, (0, 4))]) (stN := []) (hsC := []) (v := (0, 1)) (st2 := [(0, 1)]) (jG_306_75 (d := 0) (by omega) (by omega)) (by rfl) (by rfl) (by decide +kernel) (by rfl) (by rfl) (by omega) (by omega) (by omega) (by omega) rfl ?_
    refine jT_xifF (t := 40) (pcN := 23) jIG_307_20 rfl (by decide +kernel) rfl rfl ?_
    refine jT_xiload_n (v := (0, u)) (pcN := 24) jIG_307_23 rfl rfl rfl ?_
    refine jT_xaload_n (v := (4, 0)) (pcN := 25) jIG_307_24 rfl rfl rfl ?_
    refine jT_xgetf (a := 0) (t := 1) (ci := 14) (fi := 1) (c := jzG_18) (v := (4, 1)) (pcN := 28) jIG_307_25 rfl rfl rfl rfl rfl rfl rfl ?_
    refine jT_xbipush (k := 7) (pcN := 30) jIG_307_28 (by decide) rfl ?_
    refine jT_xiload (v := (0, 7)) (pcN := 32) jIG_307_30 rfl rfl rfl ?_
    refine jT_ximul (x := 7) (y := 7) (z := 49) (pcN := 33) jIG_307_32 rfl (by decide) rfl ?_
    refine jT_xiload_n (v := (0, 4)) (pcN := 34) jIG_307_33 rfl rfl rfl ?_
    refine jT_xiadd (x := 49) (y := 4) (z := 53) (pcN := 35) jIG_307_34 rfl (by decide) rfl ?_
    refine jT_iald (x := 0) (a := 1) (j := 53) (fs := []) (X := jS0) (by rfl) (by rfl) (by rfl) (by rfl) (by decide +kernel) ?_
    refine jT_eq (LN := [(4, (0, 7)), (3, (0, u)), (0, (4, 0)), (1, (0, r1)), (2, (0, 4))]) (stN := [(0, 0), (0, u)]) (hsN := jpG_156) rfl rfl rfl ?_
    refine jT_mm1 (x := u) (y := 0) (z := 0) (by rfl) (by rfl) (by rfl) (by rfl) (jw_idd (by omega) (by omega)) (jw_idd (by omega) (by omega)) (by rw [decide_eq_false (show ¬ ((u : Int) < 0) by omega)]; rfl) ?_
    refine jT_xistore_n (v := (0, 0)) (LN := [(3, (0, 0)), (4, (0, 7)), (0, (4, 0)), (1, (0, r1)), (2, (0, 4))]) (pcN := 40) jIG_307_39 rfl rfl rfl rfl ?_
    refine jT_xiinc (x := 7) (z := 8) (LN := [(4, (0, 8)), (3, (0, 0)), (0, (4, 0)), (1, (0, r1)), (2, (0, 4))]) (pcN := 43) jIG_307_40 rfl rfl (by decide) rfl rfl ?_
    refine jT_xgoto (pcN := 7) jIG_307_43 rfl ?_
    refine jT_loc (LN := [(4, (0, 8)), (3, (0, 0)), (0, (4, 0)), (1, (0, r1)), (2, (0, 4))]) (by show List.Nodup [4, 3, 0, 1, 2]; decide) (by intro q hq; simp only [List.mem_cons, List.not_mem_nil, or_false] at hq; rcases hq with rfl | rfl | rfl | rfl | rfl <;> rfl) ?_
    exact jGl_ch_85_8 hd (u := 0) (by omega) h_r1 (by rw [← hw]; exact (jlw_1 (by omega)).symm) h
  · refine jT_xiload (v := (0, 7)) (pcN := 9) jIG_307_7 rfl rfl rfl ?_
    refine jT_xbipush (k := 8) (pcN := 11) jIG_307_9 (by decide) rfl ?_
    refine jT_xicF (t := 46) (pcN := 14) jIG_307_11 rfl (by decide +kernel) rfl rfl ?_
    refine jT_xiload_n (v := (0, r1)) (pcN := 15) jIG_307_14 rfl rfl rfl ?_
    refine jT_xiload (v := (0, 7)) (pcN := 17) jIG_307_15 rfl rfl rfl ?_
    refine jT_fR [] 16 (y := 306) (pcN := 20) (dC := 2) (bc1 := 0) (bc2 := 0) (c1 := b1) (c2 := b2) (as := [(0, r1), (0, 7)]) (asC := [(0, r1), (0, 7)]) (LN := [(4, (0, 7)), (3, (0, u)), (0, (4, 0)), (1, (0, r1)), (2, (0, 4))]) (stN := []) (hsC := []) (v := (0, 0)) (st2 := [(0, 0)]) (jG_306_74 (d := 0) (by omega) (by omega)) (by rfl) (by rfl) (by decide +kernel) (by rfl) (by rfl) (by omega) (by omega) (by omega) (by omega) rfl ?_
    refine jT_xifT (pcN := 40) jIG_307_20 rfl (by decide +kernel) rfl ?_
    refine jT_xiinc (x := 7) (z := 8) (LN := [(4, (0, 8)), (3, (0, u)), (0, (4, 0)), (1, (0, r1)), (2, (0, 4))]) (pcN := 43) jIG_307_40 rfl rfl (by decide) rfl rfl ?_
    refine jT_xgoto (pcN := 7) jIG_307_43 rfl ?_
    refine jT_loc (LN := [(4, (0, 8)), (3, (0, u)), (0, (4, 0)), (1, (0, r1)), (2, (0, 4))]) (by show List.Nodup [4, 3, 0, 1, 2]; decide) (by intro q hq; simp only [List.mem_cons, List.not_mem_nil, or_false] at hq; rcases hq with rfl | rfl | rfl | rfl | rfl <;> rfl) ?_
    exact jGl_ch_85_8 hd (u := u) (by omega) h_r1 (by rw [← hw]; exact (jlw_0 (by omega)).symm) h
theorem jGl_ch_85_6 {xs : List Int} {d b1 b2 : Nat} {Q : Nat → JV → List JC → Prop} (hd : 3 < d) {r1 : Int} {u : Int} (h_u : 0 ≤ u ∧ u ≤ 2147483647) (h_r1 : 1 ≤ r1 ∧ r1 ≤ 255) {w : Int} (hw : jlw r1 [6, 7] u = w) (h : jT xs d 307 16 46 [(3, (0, w)), (0, (4, 0))] [] [jzG_18, (100, [], jS0), jgh, jgh, jgh, jgh, jgh, jgh, jgh, jgh, jgh, jgh, jgh, jgh, jgh, jgh] b1 b2 Q) : jT xs d 307 16 7 [(4, (0, 6)), (3, (0, u)), (0, (4, 0)), (1, (0, r1)), (2, (0, 4))] [] [jzG_18, (100, [], jS0), jgh, jgh, jgh, jgh, jgh, jgh, jgh, jgh, jgh, jgh, jgh, jgh, jgh, jgh] b1 b2 Q := by
  rcases (show (0 ≤ (((Int32.ofInt r1 >>> (Int32.ofInt 6 &&& 31)).toInt) % 2) - 1) ∨ ((((Int32.ofInt r1 >>> (Int32.ofInt 6 &&& 31)).toInt) % 2) - 1 < 0) by omega) with g_0 | g_0
  · refine jT_xiload (v := (0, 6)) (pcN := 9) jIG_307_7 rfl rfl rfl ?_
    refine jT_xbipush (k := 8) (pcN := 11) jIG_307_9 (by decide) rfl ?_
    refine jT_xicF (t := 46) (pcN := 14) jIG_307_11 rfl (by decide +kernel) rfl rfl ?_
    refine jT_xiload_n (v := (0, r1)) (pcN := 15) jIG_307_14 rfl rfl rfl ?_
    refine jT_xiload (v := (0, 6)) (pcN := 17) jIG_307_15 rfl rfl rfl ?_
    refine jT_fR [] 16 (y := 306) (pcN := 20) (dC := 2) (bc1 := 0) (bc2 := 0) (c1 := b1) (c2 := b2) (as := [(0, r1), (0, 6)]) (asC := [(0, r1), (0, 6)]) (LN := [(4, (0, 6)), (3, (0, u)), (0, (4, 0)), (1, (0, r1)), (2, (0, 4))]) (stN := []) (hsC := []) (v := (0, 1)) (st2 := [(0, 1)]) (jG_306_70 (d := 0) (by omega) (by omega)) (by rfl) (by rfl) (by decide +kernel) (by rfl) (by rfl) (by omega) (by omega) (by omega) (by omega) rfl ?_
    refine jT_xifF (t := 40) (pcN := 23) jIG_307_20 rfl (by decide +kernel) rfl rfl ?_
    refine jT_xiload_n (v := (0, u)) (pcN := 24) jIG_307_23 rfl rfl rfl ?_
    refine jT_xaload_n (v := (4, 0)) (pcN := 25) jIG_307_24 rfl rfl rfl ?_
    refine jT_xgetf (a := 0) (t := 1) (ci := 14) (fi := 1) (c := jzG_18) (v := (4, 1)) (pcN := 28) jIG_307_25 rfl rfl rfl rfl rfl rfl rfl ?_
    refine jT_xbipush (k := 7) (pcN := 30) jIG_307_28 (by decide) rfl ?_
    refine jT_xiload (v := (0, 6)) (pcN := 32) jIG_307_30 rfl rfl rfl ?_
    refine jT_ximul (x := 7) (y := 6) (z := 42) (pcN := 33) jIG_307_32 rfl (by decide) rfl ?_
    refine jT_xiload_n (v := (0, 4)) (pcN := 34) jIG_307_33 rfl rfl rfl ?_
    refine jT_xiadd (x := 42) (y := 4) (z := 46) (pcN := 35) jIG_307_34 rfl (by decide) rfl ?_
    refine jT_iald (x := 0) (a := 1) (j := 46) (fs := []) (X := jS0) (by rfl) (by rfl) (by rfl) (by rfl) (by decide +kernel) ?_
    refine jT_eq (LN := [(4, (0, 6)), (3, (0, u)), (0, (4, 0)), (1, (0, r1)), (2, (0, 4))]) (stN := [(0, 0), (0, u)]) (hsN := jpG_156) rfl rfl rfl ?_
    refine jT_mm1 (x := u) (y := 0) (z := 0) (by rfl) (by rfl) (by rfl) (by rfl) (jw_idd (by omega) (by omega)) (jw_idd (by omega) (by omega)) (by rw [decide_eq_false (show ¬ ((u : Int) < 0) by omega)]; rfl) ?_
    refine jT_xistore_n (v := (0, 0)) (LN := [(3, (0, 0)), (4, (0, 6)), (0, (4, 0)), (1, (0, r1)), (2, (0, 4))]) (pcN := 40) jIG_307_39 rfl rfl rfl rfl ?_
    refine jT_xiinc (x := 6) (z := 7) (LN := [(4, (0, 7)), (3, (0, 0)), (0, (4, 0)), (1, (0, r1)), (2, (0, 4))]) (pcN := 43) jIG_307_40 rfl rfl (by decide) rfl rfl ?_
    refine jT_xgoto (pcN := 7) jIG_307_43 rfl ?_
    refine jT_loc (LN := [(4, (0, 7)), (3, (0, 0)), (0, (4, 0)), (1, (0, r1)), (2, (0, 4))]) (by show List.Nodup [4, 3, 0, 1, 2]; decide) (by intro q hq; simp only [List.mem_cons, List.not_mem_nil, or_false] at hq; rcases hq with rfl | rfl | rfl | rfl | rfl <;> rfl) ?_
    exact jGl_ch_85_7 hd (u := 0) (by omega) h_r1 (by rw [← hw]; exact (jlw_1 (by omega)).symm) h
  · refine jT_xiload (v := (0, 6)) (pcN := 9) jIG_307_7 rfl rfl rfl ?_
    refine jT_xbipush (k := 8) (pcN := 11) jIG_307_9 (by decide) rfl ?_
    refine jT_xicF (t := 46) (pcN := 14) jIG_307_11 rfl (by decide +kernel) rfl rfl ?_
    refine jT_xiload_n (v := (0, r1)) (pcN := 15) jIG_307_14 rfl rfl rfl ?_
    refine jT_xiload (v := (0, 6)) (pcN := 17) jIG_307_15 rfl rfl rfl ?_
    refine jT_fR [] 16 (y := 306) (pcN := 20) (dC := 2) (bc1 := 0) (bc2 := 0) (c1 := b1) (c2 := b2) (as := [(0, r1), (0, 6)]) (asC := [(0, r1), (0, 6)]) (LN := [(4, (0, 6)), (3, (0, u)), (0, (4, 0)), (1, (0, r1)), (2, (0, 4))]) (stN := []) (hsC := []) (v := (0, 0)) (st2 := [(0, 0)]) (jG_306_69 (d := 0) (by omega) (by omega)) (by rfl) (by rfl) (by decide +kernel) (by rfl) (by rfl) (by omega) (by omega) (by omega) (by omega) rfl ?_
    refine jT_xifT (pcN := 40) jIG_307_20 rfl (by decide +kernel) rfl ?_
    refine jT_xiinc (x := 6) (z := 7) (LN := [(4, (0, 7)), (3, (0, u)), (0, (4, 0)), (1, (0, r1)), (2, (0, 4))]) (pcN := 43) jIG_307_40 rfl rfl (by decide) rfl rfl ?_
    refine jT_xgoto (pcN := 7) jIG_307_43 rfl ?_
    refine jT_loc (LN := [(4, (0, 7)), (3, (0, u)), (0, (4, 0)), (1, (0, r1)), (2, (0, 4))]) (by show List.Nodup [4, 3, 0, 1, 2]; decide) (by intro q hq; simp only [List.mem_cons, List.not_mem_nil, or_false] at hq; rcases hq with rfl | rfl | rfl | rfl | rfl <;> rfl) ?_
    exact jGl_ch_85_7 hd (u := u) (by omega) h_r1 (by rw [← hw]; exact (jlw_0 (by omega)).symm) h
theorem jGl_ch_85_5 {xs : List Int} {d b1 b2 : Nat} {Q : Nat → JV → List JC → Prop} (hd : 3 < d) {r1 : Int} {u : Int} (h_u : 0 ≤ u ∧ u ≤ 2147483647) (h_r1 : 1 ≤ r1 ∧ r1 ≤ 255) {w : Int} (hw : jlw r1 [5, 6, 7] u = w) (h : jT xs d 307 16 46 [(3, (0, w)), (0, (4, 0))] [] [jzG_18, (100, [], jS0), jgh, jgh, jgh, jgh, jgh, jgh, jgh, jgh, jgh, jgh, jgh, jgh, jgh, jgh] b1 b2 Q) : jT xs d 307 16 7 [(4, (0, 5)), (3, (0, u)), (0, (4, 0)), (1, (0, r1)), (2, (0, 4))] [] [jzG_18, (100, [], jS0), jgh, jgh, jgh, jgh, jgh, jgh, jgh, jgh, jgh, jgh, jgh, jgh, jgh, jgh] b1 b2 Q := by
  rcases (show (0 ≤ (((Int32.ofInt r1 >>> (Int32.ofInt 5 &&& 31)).toInt) % 2) - 1) ∨ ((((Int32.ofInt r1 >>> (Int32.ofInt 5 &&& 31)).toInt) % 2) - 1 < 0) by omega) with g_0 | g_0
  · refine jT_xiload (v := (0, 5)) (pcN := 9) jIG_307_7 rfl rfl rfl ?_
    refine jT_xbipush (k := 8) (pcN := 11) jIG_307_9 (by decide) rfl ?_
    refine jT_xicF (t := 46) (pcN := 14) jIG_307_11 rfl (by decide +kernel) rfl rfl ?_
    refine jT_xiload_n (v := (0, r1)) (pcN := 15) jIG_307_14 rfl rfl rfl ?_
    refine jT_xiload (v := (0, 5)) (pcN := 17) jIG_307_15 rfl rfl rfl ?_
    refine jT_fR [] 16 (y := 306) (pcN := 20) (dC := 2) (bc1 := 0) (bc2 := 0) (c1 := b1) (c2 := b2) (as := [(0, r1), (0, 5)]) (asC := [(0, r1), (0, 5)]) (LN := [(4, (0, 5)), (3, (0, u)), (0, (4, 0)), (1, (0, r1)), (2, (0, 4))]) (stN := []) (hsC := []) (v := (0, 1)) (st2 := [(0, 1)]) (jG_306_65 (d := 0) (by omega) (by omega)) (by rfl) (by rfl) (by decide +kernel) (by rfl) (by rfl) (by omega) (by omega) (by omega) (by omega) rfl ?_
    refine jT_xifF (t := 40) (pcN := 23) jIG_307_20 rfl (by decide +kernel) rfl rfl ?_
    refine jT_xiload_n (v := (0, u)) (pcN := 24) jIG_307_23 rfl rfl rfl ?_
    refine jT_xaload_n (v := (4, 0)) (pcN := 25) jIG_307_24 rfl rfl rfl ?_
    refine jT_xgetf (a := 0) (t := 1) (ci := 14) (fi := 1) (c := jzG_18) (v := (4, 1)) (pcN := 28) jIG_307_25 rfl rfl rfl rfl rfl rfl rfl ?_
    refine jT_xbipush (k := 7) (pcN := 30) jIG_307_28 (by decide) rfl ?_
    refine jT_xiload (v := (0, 5)) (pcN := 32) jIG_307_30 rfl rfl rfl ?_
    refine jT_ximul (x := 7) (y := 5) (z := 35) (pcN := 33) jIG_307_32 rfl (by decide) rfl ?_
    refine jT_xiload_n (v := (0, 4)) (pcN := 34) jIG_307_33 rfl rfl rfl ?_
    refine jT_xiadd (x := 35) (y := 4) (z := 39) (pcN := 35) jIG_307_34 rfl (by decide) rfl ?_
    refine jT_iald (x := 0) (a := 1) (j := 39) (fs := []) (X := jS0) (by rfl) (by rfl) (by rfl) (by rfl) (by decide +kernel) ?_
    refine jT_eq (LN := [(4, (0, 5)), (3, (0, u)), (0, (4, 0)), (1, (0, r1)), (2, (0, 4))]) (stN := [(0, 0), (0, u)]) (hsN := jpG_156) rfl rfl rfl ?_
    refine jT_mm1 (x := u) (y := 0) (z := 0) (by rfl) (by rfl) (by rfl) (by rfl) (jw_idd (by omega) (by omega)) (jw_idd (by omega) (by omega)) (by rw [decide_eq_false (show ¬ ((u : Int) < 0) by omega)]; rfl) ?_
    refine jT_xistore_n (v := (0, 0)) (LN := [(3, (0, 0)), (4, (0, 5)), (0, (4, 0)), (1, (0, r1)), (2, (0, 4))]) (pcN := 40) jIG_307_39 rfl rfl rfl rfl ?_
    refine jT_xiinc (x := 5) (z := 6) (LN := [(4, (0, 6)), (3, (0, 0)), (0, (4, 0)), (1, (0, r1)), (2, (0, 4))]) (pcN := 43) jIG_307_40 rfl rfl (by decide) rfl rfl ?_
    refine jT_xgoto (pcN := 7) jIG_307_43 rfl ?_
    refine jT_loc (LN := [(4, (0, 6)), (3, (0, 0)), (0, (4, 0)), (1, (0, r1)), (2, (0, 4))]) (by show List.Nodup [4, 3, 0, 1, 2]; decide) (by intro q hq; simp only [List.mem_cons, List.not_mem_nil, or_false] at hq; rcases hq with rfl | rfl | rfl | rfl | rfl <;> rfl) ?_
    exact jGl_ch_85_6 hd (u := 0) (by omega) h_r1 (by rw [← hw]; exact (jlw_1 (by omega)).symm) h
  · refine jT_xiload (v := (0, 5)) (pcN := 9) jIG_307_7 rfl rfl rfl ?_
    refine jT_xbipush (k := 8) (pcN := 11) jIG_307_9 (by decide) rfl ?_
    refine jT_xicF (t := 46) (pcN := 14) jIG_307_11 rfl (by decide +kernel) rfl rfl ?_
    refine jT_xiload_n (v := (0, r1)) (pcN := 15) jIG_307_14 rfl rfl rfl ?_
    refine jT_xiload (v := (0, 5)) (pcN := 17) jIG_307_15 rfl rfl rfl ?_
    refine jT_fR [] 16 (y := 306) (pcN := 20) (dC := 2) (bc1 := 0) (bc2 := 0) (c1 := b1) (c2 := b2) (as := [(0, r1), (0, 5)]) (asC := [(0, r1), (0, 5)]) (LN := [(4, (0, 5)), (3, (0, u)), (0, (4, 0)), (1, (0, r1)), (2, (0, 4))]) (stN := []) (hsC := []) (v := (0, 0)) (st2 := [(0, 0)]) (jG_306_64 (d := 0) (by omega) (by omega)) (by rfl) (by rfl) (by decide +kernel) (by rfl) (by rfl) (by omega) (by omega) (by omega) (by omega) rfl ?_
    refine jT_xifT (pcN := 40) jIG_307_20 rfl (by decide +kernel) rfl ?_
    refine jT_xiinc (x := 5) (z := 6) (LN := [(4, (0, 6)), (3, (0, u)), (0, (4, 0)), (1, (0, r1)), (2, (0, 4))]) (pcN := 43) jIG_307_40 rfl rfl (by decide) rfl rfl ?_
    refine jT_xgoto (pcN := 7) jIG_307_43 rfl ?_
    refine jT_loc (LN := [(4, (0, 6)), (3, (0, u)), (0, (4, 0)), (1, (0, r1)), (2, (0, 4))]) (by show List.Nodup [4, 3, 0, 1, 2]; decide) (by intro q hq; simp only [List.mem_cons, List.not_mem_nil, or_false] at hq; rcases hq with rfl | rfl | rfl | rfl | rfl <;> rfl) ?_
    exact jGl_ch_85_6 hd (u := u) (by omega) h_r1 (by rw [← hw]; exact (jlw_0 (by omega)).symm) h
theorem jGl_ch_85_4 {xs : List Int} {d b1 b2 : Nat} {Q : Nat → JV → List JC → Prop} (hd : 3 < d) {r1 : Int} {u : Int} (h_u : 0 ≤ u ∧ u ≤ 2147483647) (h_r1 : 1 ≤ r1 ∧ r1 ≤ 255) {w : Int} (hw : jlw r1 [4, 5, 6, 7] u = w) (h : jT xs d 307 16 46 [(3, (0, w)), (0, (4, 0))] [] [jzG_18, (100, [], jS0), jgh, jgh, jgh, jgh, jgh, jgh, jgh, jgh, jgh, jgh, jgh, jgh, jgh, jgh] b1 b2 Q) : jT xs d 307 16 7 [(4, (0, 4)), (3, (0, u)), (0, (4, 0)), (1, (0, r1)), (2, (0, 4))] [] [jzG_18, (100, [], jS0), jgh, jgh, jgh, jgh, jgh, jgh, jgh, jgh, jgh, jgh, jgh, jgh, jgh, jgh] b1 b2 Q := by
  rcases (show (0 ≤ (((Int32.ofInt r1 >>> (Int32.ofInt 4 &&& 31)).toInt) % 2) - 1) ∨ ((((Int32.ofInt r1 >>> (Int32.ofInt 4 &&& 31)).toInt) % 2) - 1 < 0) by omega) with g_0 | g_0
  · refine jT_xiload (v := (0, 4)) (pcN := 9) jIG_307_7 rfl rfl rfl ?_
    refine jT_xbipush (k := 8) (pcN := 11) jIG_307_9 (by decide) rfl ?_
    refine jT_xicF (t := 46) (pcN := 14) jIG_307_11 rfl (by decide +kernel) rfl rfl ?_
    refine jT_xiload_n (v := (0, r1)) (pcN := 15) jIG_307_14 rfl rfl rfl ?_
    refine jT_xiload (v := (0, 4)) (pcN := 17) jIG_307_15 rfl rfl rfl ?_
    refine jT_fR [] 16 (y := 306) (pcN := 20) (dC := 2) (bc1 := 0) (bc2 := 0) (c1 := b1) (c2 := b2) (as := [(0, r1), (0, 4)]) (asC := [(0, r1), (0, 4)]) (LN := [(4, (0, 4)), (3, (0, u)), (0, (4, 0)), (1, (0, r1)), (2, (0, 4))]) (stN := []) (hsC := []) (v := (0, 1)) (st2 := [(0, 1)]) (jG_306_60 (d := 0) (by omega) (by omega)) (by rfl) (by rfl) (by decide +kernel) (by rfl) (by rfl) (by omega) (by omega) (by omega) (by omega) rfl ?_
    refine jT_xifF (t := 40) (pcN := 23) jIG_307_20 rfl (by decide +kernel) rfl rfl ?_
    refine jT_xiload_n (v := (0, u)) (pcN := 24) jIG_307_23 rfl rfl rfl ?_
    refine jT_xaload_n (v := (4, 0)) (pcN := 25) jIG_307_24 rfl rfl rfl ?_
    refine jT_xgetf (a := 0) (t := 1) (ci := 14) (fi := 1) (c := jzG_18) (v := (4, 1)) (pcN := 28) jIG_307_25 rfl rfl rfl rfl rfl rfl rfl ?_
    refine jT_xbipush (k := 7) (pcN := 30) jIG_307_28 (by decide) rfl ?_
    refine jT_xiload (v := (0, 4)) (pcN := 32) jIG_307_30 rfl rfl rfl ?_
    refine jT_ximul (x := 7) (y := 4) (z := 28) (pcN := 33) jIG_307_32 rfl (by decide) rfl ?_
    refine jT_xiload_n (v := (0, 4)) (pcN := 34) jIG_307_33 rfl rfl rfl ?_
    refine jT_xiadd (x := 28) (y := 4) (z := 32) (pcN := 35) jIG_307_34 rfl (by decide) rfl ?_
    refine jT_iald (x := 0) (a := 1) (j := 32) (fs := []) (X := jS0) (by rfl) (by rfl) (by rfl) (by rfl) (by decide +kernel) ?_
    refine jT_eq (LN := [(4, (0, 4)), (3, (0, u)), (0, (4, 0)), (1, (0, r1)), (2, (0, 4))]) (stN := [(0, 0), (0, u)]) (hsN := jpG_156) rfl rfl rfl ?_
    refine jT_mm1 (x := u) (y := 0) (z := 0) (by rfl) (by rfl) (by rfl) (by rfl) (jw_idd (by omega) (by omega)) (jw_idd (by omega) (by omega)) (by rw [decide_eq_false (show ¬ ((u : Int) < 0) by omega)]; rfl) ?_
    refine jT_xistore_n (v := (0, 0)) (LN := [(3, (0, 0)), (4, (0, 4)), (0, (4, 0)), (1, (0, r1)), (2, (0, 4))]) (pcN := 40) jIG_307_39 rfl rfl rfl rfl ?_
    refine jT_xiinc (x := 4) (z := 5) (LN := [(4, (0, 5)), (3, (0, 0)), (0, (4, 0)), (1, (0, r1)), (2, (0, 4))]) (pcN := 43) jIG_307_40 rfl rfl (by decide) rfl rfl ?_
    refine jT_xgoto (pcN := 7) jIG_307_43 rfl ?_
    refine jT_loc (LN := [(4, (0, 5)), (3, (0, 0)), (0, (4, 0)), (1, (0, r1)), (2, (0, 4))]) (by show List.Nodup [4, 3, 0, 1, 2]; decide) (by intro q hq; simp only [List.mem_cons, List.not_mem_nil, or_false] at hq; rcases hq with rfl | rfl | rfl | rfl | rfl <;> rfl) ?_
    exact jGl_ch_85_5 hd (u := 0) (by omega) h_r1 (by rw [← hw]; exact (jlw_1 (by omega)).symm) h
  · refine jT_xiload (v := (0, 4)) (pcN := 9) jIG_307_7 rfl rfl rfl ?_
    refine jT_xbipush (k := 8) (pcN := 11) jIG_307_9 (by decide) rfl ?_
    refine jT_xicF (t := 46) (pcN := 14) jIG_307_11 rfl (by decide +kernel) rfl rfl ?_
    refine jT_xiload_n (v := (0, r1)) (pcN := 15) jIG_307_14 rfl rfl rfl ?_
    refine jT_xiload (v := (0, 4)) (pcN := 17) jIG_307_15 rfl rfl rfl ?_
    refine jT_fR [] 16 (y := 306) (pcN := 20) (dC := 2) (bc1 := 0) (bc2 := 0) (c1 := b1) (c2 := b2) (as := [(0, r1), (0, 4)]) (asC := [(0, r1), (0, 4)]) (LN := [(4, (0, 4)), (3, (0, u)), (0, (4, 0)), (1, (0, r1)), (2, (0, 4))]) (stN := []) (hsC := []) (v := (0, 0)) (st2 := [(0, 0)]) (jG_306_59 (d := 0) (by omega) (by omega)) (by rfl) (by rfl) (by decide +kernel) (by rfl) (by rfl) (by omega) (by omega) (by omega) (by omega) rfl ?_
    refine jT_xifT (pcN := 40) jIG_307_20 rfl (by decide +kernel) rfl ?_
    refine jT_xiinc (x := 4) (z := 5) (LN := [(4, (0, 5)), (3, (0, u)), (0, (4, 0)), (1, (0, r1)), (2, (0, 4))]) (pcN := 43) jIG_307_40 rfl rfl (by decide) rfl rfl ?_
    refine jT_xgoto (pcN := 7) jIG_307_43 rfl ?_
    refine jT_loc (LN := [(4, (0, 5)), (3, (0, u)), (0, (4, 0)), (1, (0, r1)), (2, (0, 4))]) (by show List.Nodup [4, 3, 0, 1, 2]; decide) (by intro q hq; simp only [List.mem_cons, List.not_mem_nil, or_false] at hq; rcases hq with rfl | rfl | rfl | rfl | rfl <;> rfl) ?_
    exact jGl_ch_85_5 hd (u := u) (by omega) h_r1 (by rw [← hw]; exact (jlw_0 (by omega)).symm) h
theorem jGl_ch_85_3 {xs : List Int} {d b1 b2 : Nat} {Q : Nat → JV → List JC → Prop} (hd : 3 < d) {r1 : Int} {u : Int} (h_u : 0 ≤ u ∧ u ≤ 2147483647) (h_r1 : 1 ≤ r1 ∧ r1 ≤ 255) {w : Int} (hw : jlw r1 [3, 4, 5, 6, 7] u = w) (h : jT xs d 307 16 46 [(3, (0, w)), (0, (4, 0))] [] [jzG_18, (100, [], jS0), jgh, jgh, jgh, jgh, jgh, jgh, jgh, jgh, jgh, jgh, jgh, jgh, jgh, jgh] b1 b2 Q) : jT xs d 307 16 7 [(4, (0, 3)), (3, (0, u)), (0, (4, 0)), (1, (0, r1)), (2, (0, 4))] [] [jzG_18, (100, [], jS0), jgh, jgh, jgh, jgh, jgh, jgh, jgh, jgh, jgh, jgh, jgh, jgh, jgh, jgh] b1 b2 Q := by
  rcases (show (0 ≤ (((Int32.ofInt r1 >>> (Int32.ofInt 3 &&& 31)).toInt) % 2) - 1) ∨ ((((Int32.ofInt r1 >>> (Int32.ofInt 3 &&& 31)).toInt) % 2) - 1 < 0) by omega) with g_0 | g_0
  · refine jT_xiload (v := (0, 3)) (pcN := 9) jIG_307_7 rfl rfl rfl ?_
    refine jT_xbipush (k := 8) (pcN := 11) jIG_307_9 (by decide) rfl ?_
    refine jT_xicF (t := 46) (pcN := 14) jIG_307_11 rfl (by decide +kernel) rfl rfl ?_
    refine jT_xiload_n (v := (0, r1)) (pcN := 15) jIG_307_14 rfl rfl rfl ?_
    refine jT_xiload (v := (0, 3)) (pcN := 17) jIG_307_15 rfl rfl rfl ?_
    refine jT_fR [] 16 (y := 306) (pcN := 20) (dC := 2) (bc1 := 0) (bc2 := 0) (c1 := b1) (c2 := b2) (as := [(0, r1), (0, 3)]) (asC := [(0, r1), (0, 3)]) (LN := [(4, (0, 3)), (3, (0, u)), (0, (4, 0)), (1, (0, r1)), (2, (0, 4))]) (stN := []) (hsC := []) (v := (0, 1)) (st2 := [(0, 1)]) (jG_306_55 (d := 0) (by omega) (by omega)) (by rfl) (by rfl) (by decide +kernel) (by rfl) (by rfl) (by omega) (by omega) (by omega) (by omega) rfl ?_
    refine jT_xifF (t := 40) (pcN := 23) jIG_307_20 rfl (by decide +kernel) rfl rfl ?_
    refine jT_xiload_n (v := (0, u)) (pcN := 24) jIG_307_23 rfl rfl rfl ?_
    refine jT_xaload_n (v := (4, 0)) (pcN := 25) jIG_307_24 rfl rfl rfl ?_
    refine jT_xgetf (a := 0) (t := 1) (ci := 14) (fi := 1) (c := jzG_18) (v := (4, 1)) (pcN := 28) jIG_307_25 rfl rfl rfl rfl rfl rfl rfl ?_
    refine jT_xbipush (k := 7) (pcN := 30) jIG_307_28 (by decide) rfl ?_
    refine jT_xiload (v := (0, 3)) (pcN := 32) jIG_307_30 rfl rfl rfl ?_
    refine jT_ximul (x := 7) (y := 3) (z := 21) (pcN := 33) jIG_307_32 rfl (by decide) rfl ?_
    refine jT_xiload_n (v := (0, 4)) (pcN := 34) jIG_307_33 rfl rfl rfl ?_
    refine jT_xiadd (x := 21) (y := 4) (z := 25) (pcN := 35) jIG_307_34 rfl (by decide) rfl ?_
    refine jT_iald (x := 0) (a := 1) (j := 25) (fs := []) (X := jS0) (by rfl) (by rfl) (by rfl) (by rfl) (by decide +kernel) ?_
    refine jT_eq (LN := [(4, (0, 3)), (3, (0, u)), (0, (4, 0)), (1, (0, r1)), (2, (0, 4))]) (stN := [(0, 0), (0, u)]) (hsN := jpG_156) rfl rfl rfl ?_
    refine jT_mm1 (x := u) (y := 0) (z := 0) (by rfl) (by rfl) (by rfl) (by rfl) (jw_idd (by omega) (by omega)) (jw_idd (by omega) (by omega)) (by rw [decide_eq_false (show ¬ ((u : Int) < 0) by omega)]; rfl) ?_
    refine jT_xistore_n (v := (0, 0)) (LN := [(3, (0, 0)), (4, (0, 3)), (0, (4, 0)), (1, (0, r1)), (2, (0, 4))]) (pcN := 40) jIG_307_39 rfl rfl rfl rfl ?_
    refine jT_xiinc (x := 3) (z := 4) (LN := [(4, (0, 4)), (3, (0, 0)), (0, (4, 0)), (1, (0, r1)), (2, (0, 4))]) (pcN := 43) jIG_307_40 rfl rfl (by decide) rfl rfl ?_
    refine jT_xgoto (pcN := 7) jIG_307_43 rfl ?_
    refine jT_loc (LN := [(4, (0, 4)), (3, (0, 0)), (0, (4, 0)), (1, (0, r1)), (2, (0, 4))]) (by show List.Nodup [4, 3, 0, 1, 2]; decide) (by intro q hq; simp only [List.mem_cons, List.not_mem_nil, or_false] at hq; rcases hq with rfl | rfl | rfl | rfl | rfl <;> rfl) ?_
    exact jGl_ch_85_4 hd (u := 0) (by omega) h_r1 (by rw [← hw]; exact (jlw_1 (by omega)).symm) h
  · refine jT_xiload (v := (0, 3)) (pcN := 9) jIG_307_7 rfl rfl rfl ?_
    refine jT_xbipush (k := 8) (pcN := 11) jIG_307_9 (by decide) rfl ?_
    refine jT_xicF (t := 46) (pcN := 14) jIG_307_11 rfl (by decide +kernel) rfl rfl ?_
    refine jT_xiload_n (v := (0, r1)) (pcN := 15) jIG_307_14 rfl rfl rfl ?_
    refine jT_xiload (v := (0, 3)) (pcN := 17) jIG_307_15 rfl rfl rfl ?_
    refine jT_fR [] 16 (y := 306) (pcN := 20) (dC := 2) (bc1 := 0) (bc2 := 0) (c1 := b1) (c2 := b2) (as := [(0, r1), (0, 3)]) (asC := [(0, r1), (0, 3)]) (LN := [(4, (0, 3)), (3, (0, u)), (0, (4, 0)), (1, (0, r1)), (2, (0, 4))]) (stN := []) (hsC := []) (v := (0, 0)) (st2 := [(0, 0)]) (jG_306_54 (d := 0) (by omega) (by omega)) (by rfl) (by rfl) (by decide +kernel) (by rfl) (by rfl) (by omega) (by omega) (by omega) (by omega) rfl ?_
    refine jT_xifT (pcN := 40) jIG_307_20 rfl (by decide +kernel) rfl ?_
    refine jT_xiinc (x := 3) (z := 4) (LN := [(4, (0, 4)), (3, (0, u)), (0, (4, 0)), (1, (0, r1)), (2, (0, 4))]) (pcN := 43) jIG_307_40 rfl rfl (by decide) rfl rfl ?_
    refine jT_xgoto (pcN := 7) jIG_307_43 rfl ?_
    refine jT_loc (LN := [(4, (0, 4)), (3, (0, u)), (0, (4, 0)), (1, (0, r1)), (2, (0, 4))]) (by show List.Nodup [4, 3, 0, 1, 2]; decide) (by intro q hq; simp only [List.mem_cons, List.not_mem_nil, or_false] at hq; rcases hq with rfl | rfl | rfl | rfl | rfl <;> rfl) ?_
    exact jGl_ch_85_4 hd (u := u) (by omega) h_r1 (by rw [← hw]; exact (jlw_0 (by omega)).symm) h
theorem jGl_ch_85_2 {xs : List Int} {d b1 b2 : Nat} {Q : Nat → JV → List JC → Prop} (hd : 3 < d) {r1 : Int} {u : Int} (h_u : 0 ≤ u ∧ u ≤ 2147483647) (h_r1 : 1 ≤ r1 ∧ r1 ≤ 255) {w : Int} (hw : jlw r1 [2, 3, 4, 5, 6, 7] u = w) (h : jT xs d 307 16 46 [(3, (0, w)), (0, (4, 0))] [] [jzG_18, (100, [], jS0), jgh, jgh, jgh, jgh, jgh, jgh, jgh, jgh, jgh, jgh, jgh, jgh, jgh, jgh] b1 b2 Q) : jT xs d 307 16 7 [(4, (0, 2)), (3, (0, u)), (0, (4, 0)), (1, (0, r1)), (2, (0, 4))] [] [jzG_18, (100, [], jS0), jgh, jgh, jgh, jgh, jgh, jgh, jgh, jgh, jgh, jgh, jgh, jgh, jgh, jgh] b1 b2 Q := by
  rcases (show (0 ≤ (((Int32.ofInt r1 >>> (Int32.ofInt 2 &&& 31)).toInt) % 2) - 1) ∨ ((((Int32.ofInt r1 >>> (Int32.ofInt 2 &&& 31)).toInt) % 2) - 1 < 0) by omega) with g_0 | g_0
  · refine jT_xiload (v := (0, 2)) (pcN := 9) jIG_307_7 rfl rfl rfl ?_
    refine jT_xbipush (k := 8) (pcN := 11) jIG_307_9 (by decide) rfl ?_
    refine jT_xicF (t := 46) (pcN := 14) jIG_307_11 rfl (by decide +kernel) rfl rfl ?_
    refine jT_xiload_n (v := (0, r1)) (pcN := 15) jIG_307_14 rfl rfl rfl ?_
    refine jT_xiload (v := (0, 2)) (pcN := 17) jIG_307_15 rfl rfl rfl ?_
    refine jT_fR [] 16 (y := 306) (pcN := 20) (dC := 2) (bc1 := 0) (bc2 := 0) (c1 := b1) (c2 := b2) (as := [(0, r1), (0, 2)]) (asC := [(0, r1), (0, 2)]) (LN := [(4, (0, 2)), (3, (0, u)), (0, (4, 0)), (1, (0, r1)), (2, (0, 4))]) (stN := []) (hsC := []) (v := (0, 1)) (st2 := [(0, 1)]) (jG_306_50 (d := 0) (by omega) (by omega)) (by rfl) (by rfl) (by decide +kernel) (by rfl) (by rfl) (by omega) (by omega) (by omega) (by omega) rfl ?_
    refine jT_xifF (t := 40) (pcN := 23) jIG_307_20 rfl (by decide +kernel) rfl rfl ?_
    refine jT_xiload_n (v := (0, u)) (pcN := 24) jIG_307_23 rfl rfl rfl ?_
    refine jT_xaload_n (v := (4, 0)) (pcN := 25) jIG_307_24 rfl rfl rfl ?_
    refine jT_xgetf (a := 0) (t := 1) (ci := 14) (fi := 1) (c := jzG_18) (v := (4, 1)) (pcN := 28) jIG_307_25 rfl rfl rfl rfl rfl rfl rfl ?_
    refine jT_xbipush (k := 7) (pcN := 30) jIG_307_28 (by decide) rfl ?_
    refine jT_xiload (v := (0, 2)) (pcN := 32) jIG_307_30 rfl rfl rfl ?_
    refine jT_ximul (x := 7) (y := 2) (z := 14) (pcN := 33) jIG_307_32 rfl (by decide) rfl ?_
    refine jT_xiload_n (v := (0, 4)) (pcN := 34) jIG_307_33 rfl rfl rfl ?_
    refine jT_xiadd (x := 14) (y := 4) (z := 18) (pcN := 35) jIG_307_34 rfl (by decide) rfl ?_
    refine jT_iald (x := 0) (a := 1) (j := 18) (fs := []) (X := jS0) (by rfl) (by rfl) (by rfl) (by rfl) (by decide +kernel) ?_
    refine jT_eq (LN := [(4, (0, 2)), (3, (0, u)), (0, (4, 0)), (1, (0, r1)), (2, (0, 4))]) (stN := [(0, 0), (0, u)]) (hsN := jpG_156) rfl rfl rfl ?_
    refine jT_mm1 (x := u) (y := 0) (z := 0) (by rfl) (by rfl) (by rfl) (by rfl) (jw_idd (by omega) (by omega)) (jw_idd (by omega) (by omega)) (by rw [decide_eq_false (show ¬ ((u : Int) < 0) by omega)]; rfl) ?_
    refine jT_xistore_n (v := (0, 0)) (LN := [(3, (0, 0)), (4, (0, 2)), (0, (4, 0)), (1, (0, r1)), (2, (0, 4))]) (pcN := 40) jIG_307_39 rfl rfl rfl rfl ?_
    refine jT_xiinc (x := 2) (z := 3) (LN := [(4, (0, 3)), (3, (0, 0)), (0, (4, 0)), (1, (0, r1)), (2, (0, 4))]) (pcN := 43) jIG_307_40 rfl rfl (by decide) rfl rfl ?_
    refine jT_xgoto (pcN := 7) jIG_307_43 rfl ?_
    refine jT_loc (LN := [(4, (0, 3)), (3, (0, 0)), (0, (4, 0)), (1, (0, r1)), (2, (0, 4))]) (by show List.Nodup [4, 3, 0, 1, 2]; decide) (by intro q hq; simp only [List.mem_cons, List.not_mem_nil, or_false] at hq; rcases hq with rfl | rfl | rfl | rfl | rfl <;> rfl) ?_
    exact jGl_ch_85_3 hd (u := 0) (by omega) h_r1 (by rw [← hw]; exact (jlw_1 (by omega)).symm) h
  · refine jT_xiload (v := (0, 2)) (pcN := 9) jIG_307_7 rfl rfl rfl ?_
    refine jT_xbipush (k := 8) (pcN := 11) jIG_307_9 (by decide) rfl ?_
    refine jT_xicF (t := 46) (pcN := 14) jIG_307_11 rfl (by decide +kernel) rfl rfl ?_
    refine jT_xiload_n (v := (0, r1)) (pcN := 15) jIG_307_14 rfl rfl rfl ?_
    refine jT_xiload (v := (0, 2)) (pcN := 17) jIG_307_15 rfl rfl rfl ?_
    refine jT_fR [] 16 (y := 306) (pcN := 20) (dC := 2) (bc1 := 0) (bc2 := 0) (c1 := b1) (c2 := b2) (as := [(0, r1), (0, 2)]) (asC := [(0, r1), (0, 2)]) (LN := [(4, (0, 2)), (3, (0, u)), (0, (4, 0)), (1, (0, r1)), (2, (0, 4))]) (stN := []) (hsC := []) (v := (0, 0)) (st2 := [(0, 0)]) (jG_306_49 (d := 0) (by omega) (by omega)) (by rfl) (by rfl) (by decide +kernel) (by rfl) (by rfl) (by omega) (by omega) (by omega) (by omega) rfl ?_
    refine jT_xifT (pcN := 40) jIG_307_20 rfl (by decide +kernel) rfl ?_
    refine jT_xiinc (x := 2) (z := 3) (LN := [(4, (0, 3)), (3, (0, u)), (0, (4, 0)), (1, (0, r1)), (2, (0, 4))]) (pcN := 43) jIG_307_40 rfl rfl (by decide) rfl rfl ?_
    refine jT_xgoto (pcN := 7) jIG_307_43 rfl ?_
    refine jT_loc (LN := [(4, (0, 3)), (3, (0, u)), (0, (4, 0)), (1, (0, r1)), (2, (0, 4))]) (by show List.Nodup [4, 3, 0, 1, 2]; decide) (by intro q hq; simp only [List.mem_cons, List.not_mem_nil, or_false] at hq; rcases hq with rfl | rfl | rfl | rfl | rfl <;> rfl) ?_
    exact jGl_ch_85_3 hd (u := u) (by omega) h_r1 (by rw [← hw]; exact (jlw_0 (by omega)).symm) h
theorem jGl_ch_85_1 {xs : List Int} {d b1 b2 : Nat} {Q : Nat → JV → List JC → Prop} (hd : 3 < d) {r1 : Int} {u : Int} (h_u : 0 ≤ u ∧ u ≤ 2147483647) (h_r1 : 1 ≤ r1 ∧ r1 ≤ 255) {w : Int} (hw : jlw r1 [1, 2, 3, 4, 5, 6, 7] u = w) (h : jT xs d 307 16 46 [(3, (0, w)), (0, (4, 0))] [] [jzG_18, (100, [], jS0), jgh, jgh, jgh, jgh, jgh, jgh, jgh, jgh, jgh, jgh, jgh, jgh, jgh, jgh] b1 b2 Q) : jT xs d 307 16 7 [(4, (0, 1)), (3, (0, u)), (0, (4, 0)), (1, (0, r1)), (2, (0, 4))] [] [jzG_18, (100, [], jS0), jgh, jgh, jgh, jgh, jgh, jgh, jgh, jgh, jgh, jgh, jgh, jgh, jgh, jgh] b1 b2 Q := by
  rcases (show (0 ≤ (((Int32.ofInt r1 >>> (Int32.ofInt 1 &&& 31)).toInt) % 2) - 1) ∨ ((((Int32.ofInt r1 >>> (Int32.ofInt 1 &&& 31)).toInt) % 2) - 1 < 0) by omega) with g_0 | g_0
  · refine jT_xiload (v := (0, 1)) (pcN := 9) jIG_307_7 rfl rfl rfl ?_
    refine jT_xbipush (k := 8) (pcN := 11) jIG_307_9 (by decide) rfl ?_
    refine jT_xicF (t := 46) (pcN := 14) jIG_307_11 rfl (by decide +kernel) rfl rfl ?_
    refine jT_xiload_n (v := (0, r1)) (pcN := 15) jIG_307_14 rfl rfl rfl ?_
    refine jT_xiload (v := (0, 1)) (pcN := 17) jIG_307_15 rfl rfl rfl ?_
    refine jT_fR [] 16 (y := 306) (pcN := 20) (dC := 2) (bc1 := 0) (bc2 := 0) (c1 := b1) (c2 := b2) (as := [(0, r1), (0, 1)]) (asC := [(0, r1), (0, 1)]) (LN := [(4, (0, 1)), (3, (0, u)), (0, (4, 0)), (1, (0, r1)), (2, (0, 4))]) (stN := []) (hsC := []) (v := (0, 1)) (st2 := [(0, 1)]) (jG_306_45 (d := 0) (by omega) (by omega)) (by rfl) (by rfl) (by decide +kernel) (by rfl) (by rfl) (by omega) (by omega) (by omega) (by omega) rfl ?_
    refine jT_xifF (t := 40) (pcN := 23) jIG_307_20 rfl (by decide +kernel) rfl rfl ?_
    refine jT_xiload_n (v := (0, u)) (pcN := 24) jIG_307_23 rfl rfl rfl ?_
    refine jT_xaload_n (v := (4, 0)) (pcN := 25) jIG_307_24 rfl rfl rfl ?_
    refine jT_xgetf (a := 0) (t := 1) (ci := 14) (fi := 1) (c := jzG_18) (v := (4, 1)) (pcN := 28) jIG_307_25 rfl rfl rfl rfl rfl rfl rfl ?_
    refine jT_xbipush (k := 7) (pcN := 30) jIG_307_28 (by decide) rfl ?_
    refine jT_xiload (v := (0, 1)) (pcN := 32) jIG_307_30 rfl rfl rfl ?_
    refine jT_ximul (x := 7) (y := 1) (z := 7) (pcN := 33) jIG_307_32 rfl (by decide) rfl ?_
    refine jT_xiload_n (v := (0, 4)) (pcN := 34) jIG_307_33 rfl rfl rfl ?_
    refine jT_xiadd (x := 7) (y := 4) (z := 11) (pcN := 35) jIG_307_34 rfl (by decide) rfl ?_
    refine jT_iald (x := 0) (a := 1) (j := 11) (fs := []) (X := jS0) (by rfl) (by rfl) (by rfl) (by rfl) (by decide +kernel) ?_
    refine jT_eq (LN := [(4, (0, 1)), (3, (0, u)), (0, (4, 0)), (1, (0, r1)), (2, (0, 4))]) (stN := [(0, 0), (0, u)]) (hsN := jpG_156) rfl rfl rfl ?_
    refine jT_mm1 (x := u) (y := 0) (z := 0) (by rfl) (by rfl) (by rfl) (by rfl) (jw_idd (by omega) (by omega)) (jw_idd (by omega) (by omega)) (by rw [decide_eq_false (show ¬ ((u : Int) < 0) by omega)]; rfl) ?_
    refine jT_xistore_n (v := (0, 0)) (LN := [(3, (0, 0)), (4, (0, 1)), (0, (4, 0)), (1, (0, r1)), (2, (0, 4))]) (pcN := 40) jIG_307_39 rfl rfl rfl rfl ?_
    refine jT_xiinc (x := 1) (z := 2) (LN := [(4, (0, 2)), (3, (0, 0)), (0, (4, 0)), (1, (0, r1)), (2, (0, 4))]) (pcN := 43) jIG_307_40 rfl rfl (by decide) rfl rfl ?_
    refine jT_xgoto (pcN := 7) jIG_307_43 rfl ?_
    refine jT_loc (LN := [(4, (0, 2)), (3, (0, 0)), (0, (4, 0)), (1, (0, r1)), (2, (0, 4))]) (by show List.Nodup [4, 3, 0, 1, 2]; decide) (by intro q hq; simp only [List.mem_cons, List.not_mem_nil, or_false] at hq; rcases hq with rfl | rfl | rfl | rfl | rfl <;> rfl) ?_
    exact jGl_ch_85_2 hd (u := 0) (by omega) h_r1 (by rw [← hw]; exact (jlw_1 (by omega)).symm) h
  · refine jT_xiload (v := (0, 1)) (pcN := 9) jIG_307_7 rfl rfl rfl ?_
    refine jT_xbipush (k := 8) (pcN := 11) jIG_307_9 (by decide) rfl ?_
    refine jT_xicF (t := 46) (pcN := 14) jIG_307_11 rfl (by decide +kernel) rfl rfl ?_
    refine jT_xiload_n (v := (0, r1)) (pcN := 15) jIG_307_14 rfl rfl rfl ?_
    refine jT_xiload (v := (0, 1)) (pcN := 17) jIG_307_15 rfl rfl rfl ?_
    refine jT_fR [] 16 (y := 306) (pcN := 20) (dC := 2) (bc1 := 0) (bc2 := 0) (c1 := b1) (c2 := b2) (as := [(0, r1), (0, 1)]) (asC := [(0, r1), (0, 1)]) (LN := [(4, (0, 1)), (3, (0, u)), (0, (4, 0)), (1, (0, r1)), (2, (0, 4))]) (stN := []) (hsC := []) (v := (0, 0)) (st2 := [(0, 0)]) (jG_306_44 (d := 0) (by omega) (by omega)) (by rfl) (by rfl) (by decide +kernel) (by rfl) (by rfl) (by omega) (by omega) (by omega) (by omega) rfl ?_
    refine jT_xifT (pcN := 40) jIG_307_20 rfl (by decide +kernel) rfl ?_
    refine jT_xiinc (x := 1) (z := 2) (LN := [(4, (0, 2)), (3, (0, u)), (0, (4, 0)), (1, (0, r1)), (2, (0, 4))]) (pcN := 43) jIG_307_40 rfl rfl (by decide) rfl rfl ?_
    refine jT_xgoto (pcN := 7) jIG_307_43 rfl ?_
    refine jT_loc (LN := [(4, (0, 2)), (3, (0, u)), (0, (4, 0)), (1, (0, r1)), (2, (0, 4))]) (by show List.Nodup [4, 3, 0, 1, 2]; decide) (by intro q hq; simp only [List.mem_cons, List.not_mem_nil, or_false] at hq; rcases hq with rfl | rfl | rfl | rfl | rfl <;> rfl) ?_
    exact jGl_ch_85_2 hd (u := u) (by omega) h_r1 (by rw [← hw]; exact (jlw_0 (by omega)).symm) h
theorem jGl_ch_85_0 {xs : List Int} {d b1 b2 : Nat} {Q : Nat → JV → List JC → Prop} (hd : 3 < d) {r1 : Int} {u : Int} (h_u : 0 ≤ u ∧ u ≤ 2147483647) (h_r1 : 1 ≤ r1 ∧ r1 ≤ 255) {w : Int} (hw : jlw r1 [0, 1, 2, 3, 4, 5, 6, 7] u = w) (h : jT xs d 307 16 46 [(3, (0, w)), (0, (4, 0))] [] [jzG_18, (100, [], jS0), jgh, jgh, jgh, jgh, jgh, jgh, jgh, jgh, jgh, jgh, jgh, jgh, jgh, jgh] b1 b2 Q) : jT xs d 307 16 7 [(4, (0, 0)), (3, (0, u)), (0, (4, 0)), (1, (0, r1)), (2, (0, 4))] [] [jzG_18, (100, [], jS0), jgh, jgh, jgh, jgh, jgh, jgh, jgh, jgh, jgh, jgh, jgh, jgh, jgh, jgh] b1 b2 Q := by
  rcases (show (0 ≤ (((Int32.ofInt r1 >>> (Int32.ofInt 0 &&& 31)).toInt) % 2) - 1) ∨ ((((Int32.ofInt r1 >>> (Int32.ofInt 0 &&& 31)).toInt) % 2) - 1 < 0) by omega) with g_0 | g_0
  · refine jT_xiload (v := (0, 0)) (pcN := 9) jIG_307_7 rfl rfl rfl ?_
    refine jT_xbipush (k := 8) (pcN := 11) jIG_307_9 (by decide) rfl ?_
    refine jT_xicF (t := 46) (pcN := 14) jIG_307_11 rfl (by decide +kernel) rfl rfl ?_
    refine jT_xiload_n (v := (0, r1)) (pcN := 15) jIG_307_14 rfl rfl rfl ?_
    refine jT_xiload (v := (0, 0)) (pcN := 17) jIG_307_15 rfl rfl rfl ?_
    refine jT_fR [] 16 (y := 306) (pcN := 20) (dC := 2) (bc1 := 0) (bc2 := 0) (c1 := b1) (c2 := b2) (as := [(0, r1), (0, 0)]) (asC := [(0, r1), (0, 0)]) (LN := [(4, (0, 0)), (3, (0, u)), (0, (4, 0)), (1, (0, r1)), (2, (0, 4))]) (stN := []) (hsC := []) (v := (0, 1)) (st2 := [(0, 1)]) (jG_306_39 (d := 0) (by omega) (by omega)) (by rfl) (by rfl) (by decide +kernel) (by rfl) (by rfl) (by omega) (by omega) (by omega) (by omega) rfl ?_
    refine jT_xifF (t := 40) (pcN := 23) jIG_307_20 rfl (by decide +kernel) rfl rfl ?_
    refine jT_xiload_n (v := (0, u)) (pcN := 24) jIG_307_23 rfl rfl rfl ?_
    refine jT_xaload_n (v := (4, 0)) (pcN := 25) jIG_307_24 rfl rfl rfl ?_
    refine jT_xgetf (a := 0) (t := 1) (ci := 14) (fi := 1) (c := jzG_18) (v := (4, 1)) (pcN := 28) jIG_307_25 rfl rfl rfl rfl rfl rfl rfl ?_
    refine jT_xbipush (k := 7) (pcN := 30) jIG_307_28 (by decide) rfl ?_
    refine jT_xiload (v := (0, 0)) (pcN := 32) jIG_307_30 rfl rfl rfl ?_
    refine jT_ximul (x := 7) (y := 0) (z := 0) (pcN := 33) jIG_307_32 rfl (by decide) rfl ?_
    refine jT_xiload_n (v := (0, 4)) (pcN := 34) jIG_307_33 rfl rfl rfl ?_
    refine jT_xiadd (x := 0) (y := 4) (z := 4) (pcN := 35) jIG_307_34 rfl (by decide) rfl ?_
    refine jT_iald (x := 0) (a := 1) (j := 4) (fs := []) (X := jS0) (by rfl) (by rfl) (by rfl) (by rfl) (by decide +kernel) ?_
    refine jT_eq (LN := [(4, (0, 0)), (3, (0, u)), (0, (4, 0)), (1, (0, r1)), (2, (0, 4))]) (stN := [(0, 0), (0, u)]) (hsN := jpG_156) rfl rfl rfl ?_
    refine jT_mm1 (x := u) (y := 0) (z := 0) (by rfl) (by rfl) (by rfl) (by rfl) (jw_idd (by omega) (by omega)) (jw_idd (by omega) (by omega)) (by rw [decide_eq_false (show ¬ ((u : Int) < 0) by omega)]; rfl) ?_
    refine jT_xistore_n (v := (0, 0)) (LN := [(3, (0, 0)), (4, (0, 0)), (0, (4, 0)), (1, (0, r1)), (2, (0, 4))]) (pcN := 40) jIG_307_39 rfl rfl rfl rfl ?_
    refine jT_xiinc (x := 0) (z := 1) (LN := [(4, (0, 1)), (3, (0, 0)), (0, (4, 0)), (1, (0, r1)), (2, (0, 4))]) (pcN := 43) jIG_307_40 rfl rfl (by decide) rfl rfl ?_
    refine jT_xgoto (pcN := 7) jIG_307_43 rfl ?_
    refine jT_loc (LN := [(4, (0, 1)), (3, (0, 0)), (0, (4, 0)), (1, (0, r1)), (2, (0, 4))]) (by show List.Nodup [4, 3, 0, 1, 2]; decide) (by intro q hq; simp only [List.mem_cons, List.not_mem_nil, or_false] at hq; rcases hq with rfl | rfl | rfl | rfl | rfl <;> rfl) ?_
    exact jGl_ch_85_1 hd (u := 0) (by omega) h_r1 (by rw [← hw]; exact (jlw_1 (by omega)).symm) h
  · refine jT_xiload (v := (0, 0)) (pcN := 9) jIG_307_7 rfl rfl rfl ?_
    refine jT_xbipush (k := 8) (pcN := 11) jIG_307_9 (by decide) rfl ?_
    refine jT_xicF (t := 46) (pcN := 14) jIG_307_11 rfl (by decide +kernel) rfl rfl ?_
    refine jT_xiload_n (v := (0, r1)) (pcN := 15) jIG_307_14 rfl rfl rfl ?_
    refine jT_xiload (v := (0, 0)) (pcN := 17) jIG_307_15 rfl rfl rfl ?_
    refine jT_fR [] 16 (y := 306) (pcN := 20) (dC := 2) (bc1 := 0) (bc2 := 0) (c1 := b1) (c2 := b2) (as := [(0, r1), (0, 0)]) (asC := [(0, r1), (0, 0)]) (LN := [(4, (0, 0)), (3, (0, u)), (0, (4, 0)), (1, (0, r1)), (2, (0, 4))]) (stN := []) (hsC := []) (v := (0, 0)) (st2 := [(0, 0)]) (jG_306_38 (d := 0) (by omega) (by omega)) (by rfl) (by rfl) (by decide +kernel) (by rfl) (by rfl) (by omega) (by omega) (by omega) (by omega) rfl ?_
    refine jT_xifT (pcN := 40) jIG_307_20 rfl (by decide +kernel) rfl ?_
    refine jT_xiinc (x := 0) (z := 1) (LN := [(4, (0, 1)), (3, (0, u)), (0, (4, 0)), (1, (0, r1)), (2, (0, 4))]) (pcN := 43) jIG_307_40 rfl rfl (by decide) rfl rfl ?_
    refine jT_xgoto (pcN := 7) jIG_307_43 rfl ?_
    refine jT_loc (LN := [(4, (0, 1)), (3, (0, u)), (0, (4, 0)), (1, (0, r1)), (2, (0, 4))]) (by show List.Nodup [4, 3, 0, 1, 2]; decide) (by intro q hq; simp only [List.mem_cons, List.not_mem_nil, or_false] at hq; rcases hq with rfl | rfl | rfl | rfl | rfl <;> rfl) ?_
    exact jGl_ch_85_1 hd (u := u) (by omega) h_r1 (by rw [← hw]; exact (jlw_0 (by omega)).symm) h
theorem jG_307_86 {xs : List Int} {d : Nat} {x1 : Int} (h_x1 : 1 ≤ x1 ∧ x1 ≤ 255) : jT xs (d + 4) 307 16 0 [(0, (4, 0)), (1, (0, x1)), (2, (0, 4))] [] jpG_156 0 0 (fun k v hsN => k = 0 ∧ v = (0, jlw x1 [0, 1, 2, 3, 4, 5, 6, 7] 2147483647) ∧ hsN = jpG_156 ++ []) := by
  refine jT_adv 1 (pcN := 3) (LN := [(0, (4, 0)), (1, (0, x1)), (2, (0, 4))]) (stN := [(0, 2147483647)]) (hsN := jpG_156) (c1 := 0) (s1 := 0) (c2 := 0) (s2 := 0) (by exact rfl) ?_ (by omega) (by omega)
  refine jT_xistore_n (v := (0, 2147483647)) (LN := [(3, (0, 2147483647)), (0, (4, 0)), (1, (0, x1)), (2, (0, 4))]) (pcN := 4) jIG_307_3 rfl rfl rfl rfl ?_
  refine jT_xiconst (k := 0) (pcN := 5) jIG_307_4 rfl ?_
  refine jT_xistore (v := (0, 0)) (LN := [(4, (0, 0)), (3, (0, 2147483647)), (0, (4, 0)), (1, (0, x1)), (2, (0, 4))]) (pcN := 7) jIG_307_5 rfl rfl rfl rfl ?_
  refine jT_loc (LN := [(4, (0, 0)), (3, (0, 2147483647)), (0, (4, 0)), (1, (0, x1)), (2, (0, 4))]) (by show List.Nodup [4, 3, 0, 1, 2]; decide) (by intro q hq; simp only [List.mem_cons, List.not_mem_nil, or_false] at hq; rcases hq with rfl | rfl | rfl | rfl | rfl <;> rfl) ?_
  refine jGl_ch_85_0 (by omega) (u := 2147483647) (by omega) (r1 := x1) (by omega) rfl ?_
  have hb_q1 := jlw_b (c := x1) (r := [0, 1, 2, 3, 4, 5, 6, 7]) (l := 2147483647) (by decide) (by decide)
  generalize hq_q1 : jlw x1 [0, 1, 2, 3, 4, 5, 6, 7] 2147483647 = q1 at hb_q1 ⊢
  refine jT_xiload_n (v := (0, q1)) (pcN := 47) jIG_307_46 rfl rfl rfl ?_
  subst hq_q1
  exact jT_ret rfl (by decide) (by show 16 ≤ 16; omega) (by omega) (by omega) ⟨rfl, rfl, rfl⟩
theorem jGl_ch_87_8 {xs : List Int} {d b1 b2 : Nat} {Q : Nat → JV → List JC → Prop} (hd : 3 < d) {r1 : Int} {u : Int} (h_u : 0 ≤ u ∧ u ≤ 2147483647) (h_r1 : 1 ≤ r1 ∧ r1 ≤ 255) {w : Int} (hw : jlw r1 [] u = w) (h : jT xs d 307 16 46 [(3, (0, w)), (0, (4, 0))] [] [jzG_18, (100, [], jS0), jgh, jgh, jgh, jgh, jgh, jgh, jgh, jgh, jgh, jgh, jgh, jgh, jgh, jgh] b1 b2 Q) : jT xs d 307 16 7 [(4, (0, 8)), (3, (0, u)), (0, (4, 0)), (1, (0, r1)), (2, (0, 5))] [] [jzG_18, (100, [], jS0), jgh, jgh, jgh, jgh, jgh, jgh, jgh, jgh, jgh, jgh, jgh, jgh, jgh, jgh] b1 b2 Q := by
  have e : u = w := hw
  subst e
  refine jT_xiload (v := (0, 8)) (pcN := 9) jIG_307_7 rfl rfl rfl ?_
  refine jT_xbipush (k := 8) (pcN := 11) jIG_307_9 (by decide) rfl ?_
  refine jT_xicT (pcN := 46) jIG_307_11 rfl (by decide +kernel) rfl ?_
  refine jT_loc (LN := [(3, (0, u)), (0, (4, 0))]) (by show List.Nodup [3, 0]; decide) (by intro q hq; simp only [List.mem_cons, List.not_mem_nil, or_false] at hq; rcases hq with rfl | rfl <;> rfl) ?_
  exact h
theorem jGl_ch_87_7 {xs : List Int} {d b1 b2 : Nat} {Q : Nat → JV → List JC → Prop} (hd : 3 < d) {r1 : Int} {u : Int} (h_u : 0 ≤ u ∧ u ≤ 2147483647) (h_r1 : 1 ≤ r1 ∧ r1 ≤ 255) {w : Int} (hw : jlw r1 [7] u = w) (h : jT xs d 307 16 46 [(3, (0, w)), (0, (4, 0))] [] [jzG_18, (100, [], jS0), jgh, jgh, jgh, jgh, jgh, jgh, jgh, jgh, jgh, jgh, jgh, jgh, jgh, jgh] b1 b2 Q) : jT xs d 307 16 7 [(4, (0, 7)), (3, (0, u)), (0, (4, 0)), (1, (0, r1)), (2, (0, 5))] [] [jzG_18, (100, [], jS0), jgh, jgh, jgh, jgh, jgh, jgh, jgh, jgh, jgh, jgh, jgh, jgh, jgh, jgh] b1 b2 Q := by
  rcases (show (0 ≤ (((Int32.ofInt r1 >>> (Int32.ofInt 7 &&& 31)).toInt) % 2) - 1) ∨ ((((Int32.ofInt r1 >>> (Int32.ofInt 7 &&& 31)).toInt) % 2) - 1 < 0) by omega) with g_0 | g_0
  · refine jT_xiload (v := (0, 7)) (pcN := 9) jIG_307_7 rfl rfl rfl ?_
    refine jT_xbipush (k := 8) (pcN := 11) jIG_307_9 (by decide) rfl ?_
    refine jT_xicF (t := 46) (pcN := 14) jIG_307_11 rfl (by decide +kernel) rfl rfl ?_
    refine jT_xiload_n (v := (0, r1)) (pcN := 15) jIG_307_14 rfl rfl rfl ?_
    refine jT_xiload (v := (0, 7)) (pcN := 17) jIG_307_15 rfl rfl rfl ?_
    refine jT_fR [] 16 (y := 306) (pcN := 20) (dC := 2) (bc1 := 0) (bc2 := 0) (c1 := b1) (c2 := b2) (as := [(0, r1), (0, 7)]) (asC := [(0, r1), (0, 7)]) (LN := [(4, (0, 7)), (3, (0, u)), (0, (4, 0)), (1, (0, r1)), (2, (0, 5))]) (stN := []) (hsC := []) (v := (0, 1)) (st2 := [(0, 1)]) (jG_306_75 (d := 0) (by omega) (by omega)) (by rfl) (by rfl) (by decide +kernel) (by rfl) (by rfl) (by omega) (by omega) (by omega) (by omega) rfl ?_
    refine jT_xifF (t := 40) (pcN := 23) jIG_307_20 rfl (by decide +kernel) rfl rfl ?_
    refine jT_xiload_n (v := (0, u)) (pcN := 24) jIG_307_23 rfl rfl rfl ?_
    refine jT_xaload_n (v := (4, 0)) (pcN := 25) jIG_307_24 rfl rfl rfl ?_
    refine jT_xgetf (a := 0) (t := 1) (ci := 14) (fi := 1) (c := jzG_18) (v := (4, 1)) (pcN := 28) jIG_307_25 rfl rfl rfl rfl rfl rfl rfl ?_
    refine jT_xbipush (k := 7) (pcN := 30) jIG_307_28 (by decide) rfl ?_
    refine jT_xiload (v := (0, 7)) (pcN := 32) jIG_307_30 rfl rfl rfl ?_
    refine jT_ximul (x := 7) (y := 7) (z := 49) (pcN := 33) jIG_307_32 rfl (by decide) rfl ?_
    refine jT_xiload_n (v := (0, 5)) (pcN := 34) jIG_307_33 rfl rfl rfl ?_
    refine jT_xiadd (x := 49) (y := 5) (z := 54) (pcN := 35) jIG_307_34 rfl (by decide) rfl ?_
    refine jT_iald (x := 0) (a := 1) (j := 54) (fs := []) (X := jS0) (by rfl) (by rfl) (by rfl) (by rfl) (by decide +kernel) ?_
    refine jT_eq (LN := [(4, (0, 7)), (3, (0, u)), (0, (4, 0)), (1, (0, r1)), (2, (0, 5))]) (stN := [(0, 0), (0, u)]) (hsN := jpG_156) rfl rfl rfl ?_
    refine jT_mm1 (x := u) (y := 0) (z := 0) (by rfl) (by rfl) (by rfl) (by rfl) (jw_idd (by omega) (by omega)) (jw_idd (by omega) (by omega)) (by rw [decide_eq_false (show ¬ ((u : Int) < 0) by omega)]; rfl) ?_
    refine jT_xistore_n (v := (0, 0)) (LN := [(3, (0, 0)), (4, (0, 7)), (0, (4, 0)), (1, (0, r1)), (2, (0, 5))]) (pcN := 40) jIG_307_39 rfl rfl rfl rfl ?_
    refine jT_xiinc (x := 7) (z := 8) (LN := [(4, (0, 8)), (3, (0, 0)), (0, (4, 0)), (1, (0, r1)), (2, (0, 5))]) (pcN := 43) jIG_307_40 rfl rfl (by decide) rfl rfl ?_
    refine jT_xgoto (pcN := 7) jIG_307_43 rfl ?_
    refine jT_loc (LN := [(4, (0, 8)), (3, (0, 0)), (0, (4, 0)), (1, (0, r1)), (2, (0, 5))]) (by show List.Nodup [4, 3, 0, 1, 2]; decide) (by intro q hq; simp only [List.mem_cons, List.not_mem_nil, or_false] at hq; rcases hq with rfl | rfl | rfl | rfl | rfl <;> rfl) ?_
    exact jGl_ch_87_8 hd (u := 0) (by omega) h_r1 (by rw [← hw]; exact (jlw_1 (by omega)).symm) h
  · refine jT_xiload (v := (0, 7)) (pcN := 9) jIG_307_7 rfl rfl rfl ?_
    refine jT_xbipush (k := 8) (pcN := 11) jIG_307_9 (by decide) rfl ?_
    refine jT_xicF (t := 46) (pcN := 14) jIG_307_11 rfl (by decide +kernel) rfl rfl ?_
    refine jT_xiload_n (v := (0, r1)) (pcN := 15) jIG_307_14 rfl rfl rfl ?_
    refine jT_xiload (v := (0, 7)) (pcN := 17) jIG_307_15 rfl rfl rfl ?_
    refine jT_fR [] 16 (y := 306) (pcN := 20) (dC := 2) (bc1 := 0) (bc2 := 0) (c1 := b1) (c2 := b2) (as := [(0, r1), (0, 7)]) (asC := [(0, r1), (0, 7)]) (LN := [(4, (0, 7)), (3, (0, u)), (0, (4, 0)), (1, (0, r1)), (2, (0, 5))]) (stN := []) (hsC := []) (v := (0, 0)) (st2 := [(0, 0)]) (jG_306_74 (d := 0) (by omega) (by omega)) (by rfl) (by rfl) (by decide +kernel) (by rfl) (by rfl) (by omega) (by omega) (by omega) (by omega) rfl ?_
    refine jT_xifT (pcN := 40) jIG_307_20 rfl (by decide +kernel) rfl ?_
    refine jT_xiinc (x := 7) (z := 8) (LN := [(4, (0, 8)), (3, (0, u)), (0, (4, 0)), (1, (0, r1)), (2, (0, 5))]) (pcN := 43) jIG_307_40 rfl rfl (by decide) rfl rfl ?_
    refine jT_xgoto (pcN := 7) jIG_307_43 rfl ?_
    refine jT_loc (LN := [(4, (0, 8)), (3, (0, u)), (0, (4, 0)), (1, (0, r1)), (2, (0, 5))]) (by show List.Nodup [4, 3, 0, 1, 2]; decide) (by intro q hq; simp only [List.mem_cons, List.not_mem_nil, or_false] at hq; rcases hq with rfl | rfl | rfl | rfl | rfl <;> rfl) ?_
    exact jGl_ch_87_8 hd (u := u) (by omega) h_r1 (by rw [← hw]; exact (jlw_0 (by omega)).symm) h
theorem jGl_ch_87_6 {xs : List Int} {d b1 b2 : Nat} {Q : Nat → JV → List JC → Prop} (hd : 3 < d) {r1 : Int} {u : Int} (h_u : 0 ≤ u ∧ u ≤ 2147483647) (h_r1 : 1 ≤ r1 ∧ r1 ≤ 255) {w : Int} (hw : jlw r1 [6, 7] u = w) (h : jT xs d 307 16 46 [(3, (0, w)), (0, (4, 0))] [] [jzG_18, (100, [], jS0), jgh, jgh, jgh, jgh, jgh, jgh, jgh, jgh, jgh, jgh, jgh, jgh, jgh, jgh] b1 b2 Q) : jT xs d 307 16 7 [(4, (0, 6)), (3, (0, u)), (0, (4, 0)), (1, (0, r1)), (2, (0, 5))] [] [jzG_18, (100, [], jS0), jgh, jgh, jgh, jgh, jgh, jgh, jgh, jgh, jgh, jgh, jgh, jgh, jgh, jgh] b1 b2 Q := by
  rcases (show (0 ≤ (((Int32.ofInt r1 >>> (Int32.ofInt 6 &&& 31)).toInt) % 2) - 1) ∨ ((((Int32.ofInt r1 >>> (Int32.ofInt 6 &&& 31)).toInt) % 2) - 1 < 0) by omega) with g_0 | g_0
  · refine jT_xiload (v := (0, 6)) (pcN := 9) jIG_307_7 rfl rfl rfl ?_
    refine jT_xbipush (k := 8) (pcN := 11) jIG_307_9 (by decide) rfl ?_
    refine jT_xicF (t := 46) (pcN := 14) jIG_307_11 rfl (by decide +kernel) rfl rfl ?_
    refine jT_xiload_n (v := (0, r1)) (pcN := 15) jIG_307_14 rfl rfl rfl ?_
    refine jT_xiload (v := (0, 6)) (pcN := 17) jIG_307_15 rfl rfl rfl ?_
    refine jT_fR [] 16 (y := 306) (pcN := 20) (dC := 2) (bc1 := 0) (bc2 := 0) (c1 := b1) (c2 := b2) (as := [(0, r1), (0, 6)]) (asC := [(0, r1), (0, 6)]) (LN := [(4, (0, 6)), (3, (0, u)), (0, (4, 0)), (1, (0, r1)), (2, (0, 5))]) (stN := []) (hsC := []) (v := (0, 1)) (st2 := [(0, 1)]) (jG_306_70 (d := 0) (by omega) (by omega)) (by rfl) (by rfl) (by decide +kernel) (by rfl) (by rfl) (by omega) (by omega) (by omega) (by omega) rfl ?_
    refine jT_xifF (t := 40) (pcN := 23) jIG_307_20 rfl (by decide +kernel) rfl rfl ?_
    refine jT_xiload_n (v := (0, u)) (pcN := 24) jIG_307_23 rfl rfl rfl ?_
    refine jT_xaload_n (v := (4, 0)) (pcN := 25) jIG_307_24 rfl rfl rfl ?_
    refine jT_xgetf (a := 0) (t := 1) (ci := 14) (fi := 1) (c := jzG_18) (v := (4, 1)) (pcN := 28) jIG_307_25 rfl rfl rfl rfl rfl rfl rfl ?_
    refine jT_xbipush (k := 7) (pcN := 30) jIG_307_28 (by decide) rfl ?_
    refine jT_xiload (v := (0, 6)) (pcN := 32) jIG_307_30 rfl rfl rfl ?_
    refine jT_ximul (x := 7) (y := 6) (z := 42) (pcN := 33) jIG_307_32 rfl (by decide) rfl ?_
    refine jT_xiload_n (v := (0, 5)) (pcN := 34) jIG_307_33 rfl rfl rfl ?_
    refine jT_xiadd (x := 42) (y := 5) (z := 47) (pcN := 35) jIG_307_34 rfl (by decide) rfl ?_
    refine jT_iald (x := 0) (a := 1) (j := 47) (fs := []) (X := jS0) (by rfl) (by rfl) (by rfl) (by rfl) (by decide +kernel) ?_
    refine jT_eq (LN := [(4, (0, 6)), (3, (0, u)), (0, (4, 0)), (1, (0, r1)), (2, (0, 5))]) (stN := [(0, 0), (0, u)]) (hsN := jpG_156) rfl rfl rfl ?_
    refine jT_mm1 (x := u) (y := 0) (z := 0) (by rfl) (by rfl) (by rfl) (by rfl) (jw_idd (by omega) (by omega)) (jw_idd (by omega) (by omega)) (by rw [decide_eq_false (show ¬ ((u : Int) < 0) by omega)]; rfl) ?_
    refine jT_xistore_n (v := (0, 0)) (LN := [(3, (0, 0)), (4, (0, 6)), (0, (4, 0)), (1, (0, r1)), (2, (0, 5))]) (pcN := 40) jIG_307_39 rfl rfl rfl rfl ?_
    refine jT_xiinc (x := 6) (z := 7) (LN := [(4, (0, 7)), (3, (0, 0)), (0, (4, 0)), (1, (0, r1)), (2, (0, 5))]) (pcN := 43) jIG_307_40 rfl rfl (by decide) rfl rfl ?_
    refine jT_xgoto (pcN := 7) jIG_307_43 rfl ?_
    refine jT_loc (LN := [(4, (0, 7)), (3, (0, 0)), (0, (4, 0)), (1, (0, r1)), (2, (0, 5))]) (by show List.Nodup [4, 3, 0, 1, 2]; decide) (by intro q hq; simp only [List.mem_cons, List.not_mem_nil, or_false] at hq; rcases hq with rfl | rfl | rfl | rfl | rfl <;> rfl) ?_
    exact jGl_ch_87_7 hd (u := 0) (by omega) h_r1 (by rw [← hw]; exact (jlw_1 (by omega)).symm) h
  · refine jT_xiload (v := (0, 6)) (pcN := 9) jIG_307_7 rfl rfl rfl ?_
    refine jT_xbipush (k := 8) (pcN := 11) jIG_307_9 (by decide) rfl ?_
    refine jT_xicF (t := 46) (pcN := 14) jIG_307_11 rfl (by decide +kernel) rfl rfl ?_
    refine jT_xiload_n (v := (0, r1)) (pcN := 15) jIG_307_14 rfl rfl rfl ?_
    refine jT_xiload (v := (0, 6)) (pcN := 17) jIG_307_15 rfl rfl rfl ?_
    refine jT_fR [] 16 (y := 306) (pcN := 20) (dC := 2) (bc1 := 0) (bc2 := 0) (c1 := b1) (c2 := b2) (as := [(0, r1), (0, 6)]) (asC := [(0, r1), (0, 6)]) (LN := [(4, (0, 6)), (3, (0, u)), (0, (4, 0)), (1, (0, r1)), (2, (0, 5))]) (stN := []) (hsC := []) (v := (0, 0)) (st2 := [(0, 0)]) (jG_306_69 (d := 0) (by omega) (by omega)) (by rfl) (by rfl) (by decide +kernel) (by rfl) (by rfl) (by omega) (by omega) (by omega) (by omega) rfl ?_
    refine jT_xifT (pcN := 40) jIG_307_20 rfl (by decide +kernel) rfl ?_
    refine jT_xiinc (x := 6) (z := 7) (LN := [(4, (0, 7)), (3, (0, u)), (0, (4, 0)), (1, (0, r1)), (2, (0, 5))]) (pcN := 43) jIG_307_40 rfl rfl (by decide) rfl rfl ?_
    refine jT_xgoto (pcN := 7) jIG_307_43 rfl ?_
    refine jT_loc (LN := [(4, (0, 7)), (3, (0, u)), (0, (4, 0)), (1, (0, r1)), (2, (0, 5))]) (by show List.Nodup [4, 3, 0, 1, 2]; decide) (by intro q hq; simp only [List.mem_cons, List.not_mem_nil, or_false] at hq; rcases hq with rfl | rfl | rfl | rfl | rfl <;> rfl) ?_
    exact jGl_ch_87_7 hd (u := u) (by omega) h_r1 (by rw [← hw]; exact (jlw_0 (by omega)).symm) h
theorem jGl_ch_87_5 {xs : List Int} {d b1 b2 : Nat} {Q : Nat → JV → List JC → Prop} (hd : 3 < d) {r1 : Int} {u : Int} (h_u : 0 ≤ u ∧ u ≤ 2147483647) (h_r1 : 1 ≤ r1 ∧ r1 ≤ 255) {w : Int} (hw : jlw r1 [5, 6, 7] u = w) (h : jT xs d 307 16 46 [(3, (0, w)), (0, (4, 0))] [] [jzG_18, (100, [], jS0), jgh, jgh, jgh, jgh, jgh, jgh, jgh, jgh, jgh, jgh, jgh, jgh, jgh, jgh] b1 b2 Q) : jT xs d 307 16 7 [(4, (0, 5)), (3, (0, u)), (0, (4, 0)), (1, (0, r1)), (2, (0, 5))] [] [jzG_18, (100, [], jS0), jgh, jgh, jgh, jgh, jgh, jgh, jgh, jgh, jgh, jgh, jgh, jgh, jgh, jgh] b1 b2 Q := by
  rcases (show (0 ≤ (((Int32.ofInt r1 >>> (Int32.ofInt 5 &&& 31)).toInt) % 2) - 1) ∨ ((((Int32.ofInt r1 >>> (Int32.ofInt 5 &&& 31)).toInt) % 2) - 1 < 0) by omega) with g_0 | g_0
  · refine jT_xiload (v := (0, 5)) (pcN := 9) jIG_307_7 rfl rfl rfl ?_
    refine jT_xbipush (k := 8) (pcN := 11) jIG_307_9 (by decide) rfl ?_
    refine jT_xicF (t := 46) (pcN := 14) jIG_307_11 rfl (by decide +kernel) rfl rfl ?_
    refine jT_xiload_n (v := (0, r1)) (pcN := 15) jIG_307_14 rfl rfl rfl ?_
    refine jT_xiload (v := (0, 5)) (pcN := 17) jIG_307_15 rfl rfl rfl ?_
    refine jT_fR [] 16 (y := 306) (pcN := 20) (dC := 2) (bc1 := 0) (bc2 := 0) (c1 := b1) (c2 := b2) (as := [(0, r1), (0, 5)]) (asC := [(0, r1), (0, 5)]) (LN := [(4, (0, 5)), (3, (0, u)), (0, (4, 0)), (1, (0, r1)), (2, (0, 5))]) (stN := []) (hsC := []) (v := (0, 1)) (st2 := [(0, 1)]) (jG_306_65 (d := 0) (by omega) (by omega)) (by rfl) (by rfl) (by decide +kernel) (by rfl) (by rfl) (by omega) (by omega) (by omega) (by omega) rfl ?_
    refine jT_xifF (t := 40) (pcN := 23) jIG_307_20 rfl (by decide +kernel) rfl rfl ?_
    refine jT_xiload_n (v := (0, u)) (pcN := 24) jIG_307_23 rfl rfl rfl ?_
    refine jT_xaload_n (v := (4, 0)) (pcN := 25) jIG_307_24 rfl rfl rfl ?_
    refine jT_xgetf (a := 0) (t := 1) (ci := 14) (fi := 1) (c := jzG_18) (v := (4, 1)) (pcN := 28) jIG_307_25 rfl rfl rfl rfl rfl rfl rfl ?_
    refine jT_xbipush (k := 7) (pcN := 30) jIG_307_28 (by decide) rfl ?_
    refine jT_xiload (v := (0, 5)) (pcN := 32) jIG_307_30 rfl rfl rfl ?_
    refine jT_ximul (x := 7) (y := 5) (z := 35) (pcN := 33) jIG_307_32 rfl (by decide) rfl ?_
    refine jT_xiload_n (v := (0, 5)) (pcN := 34) jIG_307_33 rfl rfl rfl ?_
    refine jT_xiadd (x := 35) (y := 5) (z := 40) (pcN := 35) jIG_307_34 rfl (by decide) rfl ?_
    refine jT_iald (x := 0) (a := 1) (j := 40) (fs := []) (X := jS0) (by rfl) (by rfl) (by rfl) (by rfl) (by decide +kernel) ?_
    refine jT_eq (LN := [(4, (0, 5)), (3, (0, u)), (0, (4, 0)), (1, (0, r1)), (2, (0, 5))]) (stN := [(0, 0), (0, u)]) (hsN := jpG_156) rfl rfl rfl ?_
    refine jT_mm1 (x := u) (y := 0) (z := 0) (by rfl) (by rfl) (by rfl) (by rfl) (jw_idd (by omega) (by omega)) (jw_idd (by omega) (by omega)) (by rw [decide_eq_false (show ¬ ((u : Int) < 0) by omega)]; rfl) ?_
    refine jT_xistore_n (v := (0, 0)) (LN := [(3, (0, 0)), (4, (0, 5)), (0, (4, 0)), (1, (0, r1)), (2, (0, 5))]) (pcN := 40) jIG_307_39 rfl rfl rfl rfl ?_
    refine jT_xiinc (x := 5) (z := 6) (LN := [(4, (0, 6)), (3, (0, 0)), (0, (4, 0)), (1, (0, r1)), (2, (0, 5))]) (pcN := 43) jIG_307_40 rfl rfl (by decide) rfl rfl ?_
    refine jT_xgoto (pcN := 7) jIG_307_43 rfl ?_
    refine jT_loc (LN := [(4, (0, 6)), (3, (0, 0)), (0, (4, 0)), (1, (0, r1)), (2, (0, 5))]) (by show List.Nodup [4, 3, 0, 1, 2]; decide) (by intro q hq; simp only [List.mem_cons, List.not_mem_nil, or_false] at hq; rcases hq with rfl | rfl | rfl | rfl | rfl <;> rfl) ?_
    exact jGl_ch_87_6 hd (u := 0) (by omega) h_r1 (by rw [← hw]; exact (jlw_1 (by omega)).symm) h
  · refine jT_xiload (v := (0, 5)) (pcN := 9) jIG_307_7 rfl rfl rfl ?_
    refine jT_xbipush (k := 8) (pcN := 11) jIG_307_9 (by decide) rfl ?_
    refine jT_xicF (t := 46) (pcN := 14) jIG_307_11 rfl (by decide +kernel) rfl rfl ?_
    refine jT_xiload_n (v := (0, r1)) (pcN := 15) jIG_307_14 rfl rfl rfl ?_
    refine jT_xiload (v := (0, 5)) (pcN := 17) jIG_307_15 rfl rfl rfl ?_
    refine jT_fR [] 16 (y := 306) (pcN := 20) (dC := 2) (bc1 := 0) (bc2 := 0) (c1 := b1) (c2 := b2) (as := [(0, r1), (0, 5)]) (asC := [(0, r1), (0, 5)]) (LN := [(4, (0, 5)), (3, (0, u)), (0, (4, 0)), (1, (0, r1)), (2, (0, 5))]) (stN := []) (hsC := []) (v := (0, 0)) (st2 := [(0, 0)]) (jG_306_64 (d := 0) (by omega) (by omega)) (by rfl) (by rfl) (by decide +kernel) (by rfl) (by rfl) (by omega) (by omega) (by omega) (by omega) rfl ?_
    refine jT_xifT (pcN := 40) jIG_307_20 rfl (by decide +kernel) rfl ?_
    refine jT_xiinc (x := 5) (z := 6) (LN := [(4, (0, 6)), (3, (0, u)), (0, (4, 0)), (1, (0, r1)), (2, (0, 5))]) (pcN := 43) jIG_307_40 rfl rfl (by decide) rfl rfl ?_
    refine jT_xgoto (pcN := 7) jIG_307_43 rfl ?_
    refine jT_loc (LN := [(4, (0, 6)), (3, (0, u)), (0, (4, 0)), (1, (0, r1)), (2, (0, 5))]) (by show List.Nodup [4, 3, 0, 1, 2]; decide) (by intro q hq; simp only [List.mem_cons, List.not_mem_nil, or_false] at hq; rcases hq with rfl | rfl | rfl | rfl | rfl <;> rfl) ?_
    exact jGl_ch_87_6 hd (u := u) (by omega) h_r1 (by rw [← hw]; exact (jlw_0 (by omega)).symm) h
theorem jGl_ch_87_4 {xs : List Int} {d b1 b2 : Nat} {Q : Nat → JV → List JC → Prop} (hd : 3 < d) {r1 : Int} {u : Int} (h_u : 0 ≤ u ∧ u ≤ 2147483647) (h_r1 : 1 ≤ r1 ∧ r1 ≤ 255) {w : Int} (hw : jlw r1 [4, 5, 6, 7] u = w) (h : jT xs d 307 16 46 [(3, (0, w)), (0, (4, 0))] [] [jzG_18, (100, [], jS0), jgh, jgh, jgh, jgh, jgh, jgh, jgh, jgh, jgh, jgh, jgh, jgh, jgh, jgh] b1 b2 Q) : jT xs d 307 16 7 [(4, (0, 4)), (3, (0, u)), (0, (4, 0)), (1, (0, r1)), (2, (0, 5))] [] [jzG_18, (100, [], jS0), jgh, jgh, jgh, jgh, jgh, jgh, jgh, jgh, jgh, jgh, jgh, jgh, jgh, jgh] b1 b2 Q := by
  rcases (show (0 ≤ (((Int32.ofInt r1 >>> (Int32.ofInt 4 &&& 31)).toInt) % 2) - 1) ∨ ((((Int32.ofInt r1 >>> (Int32.ofInt 4 &&& 31)).toInt) % 2) - 1 < 0) by omega) with g_0 | g_0
  · refine jT_xiload (v := (0, 4)) (pcN := 9) jIG_307_7 rfl rfl rfl ?_
    refine jT_xbipush (k := 8) (pcN := 11) jIG_307_9 (by decide) rfl ?_
    refine jT_xicF (t := 46) (pcN := 14) jIG_307_11 rfl (by decide +kernel) rfl rfl ?_
    refine jT_xiload_n (v := (0, r1)) (pcN := 15) jIG_307_14 rfl rfl rfl ?_
    refine jT_xiload (v := (0, 4)) (pcN := 17) jIG_307_15 rfl rfl rfl ?_
    refine jT_fR [] 16 (y := 306) (pcN := 20) (dC := 2) (bc1 := 0) (bc2 := 0) (c1 := b1) (c2 := b2) (as := [(0, r1), (0, 4)]) (asC := [(0, r1), (0, 4)]) (LN := [(4, (0, 4)), (3, (0, u)), (0, (4, 0)), (1, (0, r1)), (2, (0, 5))]) (stN := []) (hsC := []) (v := (0, 1)) (st2 := [(0, 1)]) (jG_306_60 (d := 0) (by omega) (by omega)) (by rfl) (by rfl) (by decide +kernel) (by rfl) (by rfl) (by omega) (by omega) (by omega) (by omega) rfl ?_
    refine jT_xifF (t := 40) (pcN := 23) jIG_307_20 rfl (by decide +kernel) rfl rfl ?_
    refine jT_xiload_n (v := (0, u)) (pcN := 24) jIG_307_23 rfl rfl rfl ?_
    refine jT_xaload_n (v := (4, 0)) (pcN := 25) jIG_307_24 rfl rfl rfl ?_
    refine jT_xgetf (a := 0) (t := 1) (ci := 14) (fi := 1) (c := jzG_18) (v := (4, 1)) (pcN := 28) jIG_307_25 rfl rfl rfl rfl rfl rfl rfl ?_
    refine jT_xbipush (k := 7) (pcN := 30) jIG_307_28 (by decide) rfl ?_
    refine jT_xiload (v := (0, 4)) (pcN := 32) jIG_307_30 rfl rfl rfl ?_
    refine jT_ximul (x := 7) (y := 4) (z := 28) (pcN := 33) jIG_307_32 rfl (by decide) rfl ?_
    refine jT_xiload_n (v := (0, 5)) (pcN := 34) jIG_307_33 rfl rfl rfl ?_
    refine jT_xiadd (x := 28) (y := 5) (z := 33) (pcN := 35) jIG_307_34 rfl (by decide) rfl ?_
    refine jT_iald (x := 0) (a := 1) (j := 33) (fs := []) (X := jS0) (by rfl) (by rfl) (by rfl) (by rfl) (by decide +kernel) ?_
    refine jT_eq (LN := [(4, (0, 4)), (3, (0, u)), (0, (4, 0)), (1, (0, r1)), (2, (0, 5))]) (stN := [(0, 0), (0, u)]) (hsN := jpG_156) rfl rfl rfl ?_
    refine jT_mm1 (x := u) (y := 0) (z := 0) (by rfl) (by rfl) (by rfl) (by rfl) (jw_idd (by omega) (by omega)) (jw_idd (by omega) (by omega)) (by rw [decide_eq_false (show ¬ ((u : Int) < 0) by omega)]; rfl) ?_
    refine jT_xistore_n (v := (0, 0)) (LN := [(3, (0, 0)), (4, (0, 4)), (0, (4, 0)), (1, (0, r1)), (2, (0, 5))]) (pcN := 40) jIG_307_39 rfl rfl rfl rfl ?_
    refine jT_xiinc (x := 4) (z := 5) (LN := [(4, (0, 5)), (3, (0, 0)), (0, (4, 0)), (1, (0, r1)), (2, (0, 5))]) (pcN := 43) jIG_307_40 rfl rfl (by decide) rfl rfl ?_
    refine jT_xgoto (pcN := 7) jIG_307_43 rfl ?_
    refine jT_loc (LN := [(4, (0, 5)), (3, (0, 0)), (0, (4, 0)), (1, (0, r1)), (2, (0, 5))]) (by show List.Nodup [4, 3, 0, 1, 2]; decide) (by intro q hq; simp only [List.mem_cons, List.not_mem_nil, or_false] at hq; rcases hq with rfl | rfl | rfl | rfl | rfl <;> rfl) ?_
    exact jGl_ch_87_5 hd (u := 0) (by omega) h_r1 (by rw [← hw]; exact (jlw_1 (by omega)).symm) h
  · refine jT_xiload (v := (0, 4)) (pcN := 9) jIG_307_7 rfl rfl rfl ?_
    refine jT_xbipush (k := 8) (pcN := 11) jIG_307_9 (by decide) rfl ?_
    refine jT_xicF (t := 46) (pcN := 14) jIG_307_11 rfl (by decide +kernel) rfl rfl ?_
    refine jT_xiload_n (v := (0, r1)) (pcN := 15) jIG_307_14 rfl rfl rfl ?_
    refine jT_xiload (v := (0, 4)) (pcN := 17) jIG_307_15 rfl rfl rfl ?_
    refine jT_fR [] 16 (y := 306) (pcN := 20) (dC := 2) (bc1 := 0) (bc2 := 0) (c1 := b1) (c2 := b2) (as := [(0, r1), (0, 4)]) (asC := [(0, r1), (0, 4)]) (LN := [(4, (0, 4)), (3, (0, u)), (0, (4, 0)), (1, (0, r1)), (2, (0, 5))]) (stN := []) (hsC := []) (v := (0, 0)) (st2 := [(0, 0)]) (jG_306_59 (d := 0) (by omega) (by omega)) (by rfl) (by rfl) (by decide +kernel) (by rfl) (by rfl) (by omega) (by omega) (by omega) (by omega) rfl ?_
    refine jT_xifT (pcN := 40) jIG_307_20 rfl (by decide +kernel) rfl ?_
    refine jT_xiinc (x := 4) (z := 5) (LN := [(4, (0, 5)), (3, (0, u)), (0, (4, 0)), (1, (0, r1)), (2, (0, 5))]) (pcN := 43) jIG_307_40 rfl rfl (by decide) rfl rfl ?_
    refine jT_xgoto (pcN := 7) jIG_307_43 rfl ?_
    refine jT_loc (LN := [(4, (0, 5)), (3, (0, u)), (0, (4, 0)), (1, (0, r1)), (2, (0, 5))]) (by show List.Nodup [4, 3, 0, 1, 2]; decide) (by intro q hq; simp only [List.mem_cons, List.not_mem_nil, or_false] at hq; rcases hq with rfl | rfl | rfl | rfl | rfl <;> rfl) ?_
    exact jGl_ch_87_5 hd (u := u) (by omega) h_r1 (by rw [← hw]; exact (jlw_0 (by omega)).symm) h
theorem jGl_ch_87_3 {xs : List Int} {d b1 b2 : Nat} {Q : Nat → JV → List JC → Prop} (hd : 3 < d) {r1 : Int} {u : Int} (h_u : 0 ≤ u ∧ u ≤ 2147483647) (h_r1 : 1 ≤ r1 ∧ r1 ≤ 255) {w : Int} (hw : jlw r1 [3, 4, 5, 6, 7] u = w) (h : jT xs d 307 16 46 [(3, (0, w)), (0, (4, 0))] [] [jzG_18, (100, [], jS0), jgh, jgh, jgh, jgh, jgh, jgh, jgh, jgh, jgh, jgh, jgh, jgh, jgh, jgh] b1 b2 Q) : jT xs d 307 16 7 [(4, (0, 3)), (3, (0, u)), (0, (4, 0)), (1, (0, r1)), (2, (0, 5))] [] [jzG_18, (100, [], jS0), jgh, jgh, jgh, jgh, jgh, jgh, jgh, jgh, jgh, jgh, jgh, jgh, jgh, jgh] b1 b2 Q := by
  rcases (show (0 ≤ (((Int32.ofInt r1 >>> (Int32.ofInt 3 &&& 31)).toInt) % 2) - 1) ∨ ((((Int32.ofInt r1 >>> (Int32.ofInt 3 &&& 31)).toInt) % 2) - 1 < 0) by omega) with g_0 | g_0
  · refine jT_xiload (v := (0, 3)) (pcN := 9) jIG_307_7 rfl rfl rfl ?_
    refine jT_xbipush (k := 8) (pcN := 11) jIG_307_9 (by decide) rfl ?_
    refine jT_xicF (t := 46) (pcN := 14) jIG_307_11 rfl (by decide +kernel) rfl rfl ?_
    refine jT_xiload_n (v := (0, r1)) (pcN := 15) jIG_307_14 rfl rfl rfl ?_
    refine jT_xiload (v := (0, 3)) (pcN := 17) jIG_307_15 rfl rfl rfl ?_
    refine jT_fR [] 16 (y := 306) (pcN := 20) (dC := 2) (bc1 := 0) (bc2 := 0) (c1 := b1) (c2 := b2) (as := [(0, r1), (0, 3)]) (asC := [(0, r1), (0, 3)]) (LN := [(4, (0, 3)), (3, (0, u)), (0, (4, 0)), (1, (0, r1)), (2, (0, 5))]) (stN := []) (hsC := []) (v := (0, 1)) (st2 := [(0, 1)]) (jG_306_55 (d := 0) (by omega) (by omega)) (by rfl) (by rfl) (by decide +kernel) (by rfl) (by rfl) (by omega) (by omega) (by omega) (by omega) rfl ?_
    refine jT_xifF (t := 40) (pcN := 23) jIG_307_20 rfl (by decide +kernel) rfl rfl ?_
    refine jT_xiload_n (v := (0, u)) (pcN := 24) jIG_307_23 rfl rfl rfl ?_
    refine jT_xaload_n (v := (4, 0)) (pcN := 25) jIG_307_24 rfl rfl rfl ?_
    refine jT_xgetf (a := 0) (t := 1) (ci := 14) (fi := 1) (c := jzG_18) (v := (4, 1)) (pcN := 28) jIG_307_25 rfl rfl rfl rfl rfl rfl rfl ?_
    refine jT_xbipush (k := 7) (pcN := 30) jIG_307_28 (by decide) rfl ?_
    refine jT_xiload (v := (0, 3)) (pcN := 32) jIG_307_30 rfl rfl rfl ?_
    refine jT_ximul (x := 7) (y := 3) (z := 21) (pcN := 33) jIG_307_32 rfl (by decide) rfl ?_
    refine jT_xiload_n (v := (0, 5)) (pcN := 34) jIG_307_33 rfl rfl rfl ?_
    refine jT_xiadd (x := 21) (y := 5) (z := 26) (pcN := 35) jIG_307_34 rfl (by decide) rfl ?_
    refine jT_iald (x := 0) (a := 1) (j := 26) (fs := []) (X := jS0) (by rfl) (by rfl) (by rfl) (by rfl) (by decide +kernel) ?_
    refine jT_eq (LN := [(4, (0, 3)), (3, (0, u)), (0, (4, 0)), (1, (0, r1)), (2, (0, 5))]) (stN := [(0, 0), (0, u)]) (hsN := jpG_156) rfl rfl rfl ?_
    refine jT_mm1 (x := u) (y := 0) (z := 0) (by rfl) (by rfl) (by rfl) (by rfl) (jw_idd (by omega) (by omega)) (jw_idd (by omega) (by omega)) (by rw [decide_eq_false (show ¬ ((u : Int) < 0) by omega)]; rfl) ?_
    refine jT_xistore_n (v := (0, 0)) (LN := [(3, (0, 0)), (4, (0, 3)), (0, (4, 0)), (1, (0, r1)), (2, (0, 5))]) (pcN := 40) jIG_307_39 rfl rfl rfl rfl ?_
    refine jT_xiinc (x := 3) (z := 4) (LN := [(4, (0, 4)), (3, (0, 0)), (0, (4, 0)), (1, (0, r1)), (2, (0, 5))]) (pcN := 43) jIG_307_40 rfl rfl (by decide) rfl rfl ?_
    refine jT_xgoto (pcN := 7) jIG_307_43 rfl ?_
    refine jT_loc (LN := [(4, (0, 4)), (3, (0, 0)), (0, (4, 0)), (1, (0, r1)), (2, (0, 5))]) (by show List.Nodup [4, 3, 0, 1, 2]; decide) (by intro q hq; simp only [List.mem_cons, List.not_mem_nil, or_false] at hq; rcases hq with rfl | rfl | rfl | rfl | rfl <;> rfl) ?_
    exact jGl_ch_87_4 hd (u := 0) (by omega) h_r1 (by rw [← hw]; exact (jlw_1 (by omega)).symm) h
  · refine jT_xiload (v := (0, 3)) (pcN := 9) jIG_307_7 rfl rfl rfl ?_
    refine jT_xbipush (k := 8) (pcN := 11) jIG_307_9 (by decide) rfl ?_
    refine jT_xicF (t := 46) (pcN := 14) jIG_307_11 rfl (by decide +kernel) rfl rfl ?_
    refine jT_xiload_n (v := (0, r1)) (pcN := 15) jIG_307_14 rfl rfl rfl ?_
    refine jT_xiload (v := (0, 3)) (pcN := 17) jIG_307_15 rfl rfl rfl ?_
    refine jT_fR [] 16 (y := 306) (pcN := 20) (dC := 2) (bc1 := 0) (bc2 := 0) (c1 := b1) (c2 := b2) (as := [(0, r1), (0, 3)]) (asC := [(0, r1), (0, 3)]) (LN := [(4, (0, 3)), (3, (0, u)), (0, (4, 0)), (1, (0, r1)), (2, (0, 5))]) (stN := []) (hsC := []) (v := (0, 0)) (st2 := [(0, 0)]) (jG_306_54 (d := 0) (by omega) (by omega)) (by rfl) (by rfl) (by decide +kernel) (by rfl) (by rfl) (by omega) (by omega) (by omega) (by omega) rfl ?_
    refine jT_xifT (pcN := 40) jIG_307_20 rfl (by decide +kernel) rfl ?_
    refine jT_xiinc (x := 3) (z := 4) (LN := [(4, (0, 4)), (3, (0, u)), (0, (4, 0)), (1, (0, r1)), (2, (0, 5))]) (pcN := 43) jIG_307_40 rfl rfl (by decide) rfl rfl ?_
    refine jT_xgoto (pcN := 7) jIG_307_43 rfl ?_
    refine jT_loc (LN := [(4, (0, 4)), (3, (0, u)), (0, (4, 0)), (1, (0, r1)), (2, (0, 5))]) (by show List.Nodup [4, 3, 0, 1, 2]; decide) (by intro q hq; simp only [List.mem_cons, List.not_mem_nil, or_false] at hq; rcases hq with rfl | rfl | rfl | rfl | rfl <;> rfl) ?_
    exact jGl_ch_87_4 hd (u := u) (by omega) h_r1 (by rw [← hw]; exact (jlw_0 (by omega)).symm) h
theorem jGl_ch_87_2 {xs : List Int} {d b1 b2 : Nat} {Q : Nat → JV → List JC → Prop} (hd : 3 < d) {r1 : Int} {u : Int} (h_u : 0 ≤ u ∧ u ≤ 2147483647) (h_r1 : 1 ≤ r1 ∧ r1 ≤ 255) {w : Int} (hw : jlw r1 [2, 3, 4, 5, 6, 7] u = w) (h : jT xs d 307 16 46 [(3, (0, w)), (0, (4, 0))] [] [jzG_18, (100, [], jS0), jgh, jgh, jgh, jgh, jgh, jgh, jgh, jgh, jgh, jgh, jgh, jgh, jgh, jgh] b1 b2 Q) : jT xs d 307 16 7 [(4, (0, 2)), (3, (0, u)), (0, (4, 0)), (1, (0, r1)), (2, (0, 5))] [] [jzG_18, (100, [], jS0), jgh, jgh, jgh, jgh, jgh, jgh, jgh, jgh, jgh, jgh, jgh, jgh, jgh, jgh] b1 b2 Q := by
  rcases (show (0 ≤ (((Int32.ofInt r1 >>> (Int32.ofInt 2 &&& 31)).toInt) % 2) - 1) ∨ ((((Int32.ofInt r1 >>> (Int32.ofInt 2 &&& 31)).toInt) % 2) - 1 < 0) by omega) with g_0 | g_0
  · refine jT_xiload (v := (0, 2)) (pcN := 9) jIG_307_7 rfl rfl rfl ?_
    refine jT_xbipush (k := 8) (pcN := 11) jIG_307_9 (by decide) rfl ?_
    refine jT_xicF (t := 46) (pcN := 14) jIG_307_11 rfl (by decide +kernel) rfl rfl ?_
    refine jT_xiload_n (v := (0, r1)) (pcN := 15) jIG_307_14 rfl rfl rfl ?_
    refine jT_xiload (v := (0, 2)) (pcN := 17) jIG_307_15 rfl rfl rfl ?_
    refine jT_fR [] 16 (y := 306) (pcN := 20) (dC := 2) (bc1 := 0) (bc2 := 0) (c1 := b1) (c2 := b2) (as := [(0, r1), (0, 2)]) (asC := [(0, r1), (0, 2)]) (LN := [(4, (0, 2)), (3, (0, u)), (0, (4, 0)), (1, (0, r1)), (2, (0, 5))]) (stN := []) (hsC := []) (v := (0, 1)) (st2 := [(0, 1)]) (jG_306_50 (d := 0) (by omega) (by omega)) (by rfl) (by rfl) (by decide +kernel) (by rfl) (by rfl) (by omega) (by omega) (by omega) (by omega) rfl ?_
    refine jT_xifF (t := 40) (pcN := 23) jIG_307_20 rfl (by decide +kernel) rfl rfl ?_
    refine jT_xiload_n (v := (0, u)) (pcN := 24) jIG_307_23 rfl rfl rfl ?_
    refine jT_xaload_n (v := (4, 0)) (pcN := 25) jIG_307_24 rfl rfl rfl ?_
    refine jT_xgetf (a := 0) (t := 1) (ci := 14) (fi := 1) (c := jzG_18) (v := (4, 1)) (pcN := 28) jIG_307_25 rfl rfl rfl rfl rfl rfl rfl ?_
    refine jT_xbipush (k := 7) (pcN := 30) jIG_307_28 (by decide) rfl ?_
    refine jT_xiload (v := (0, 2)) (pcN := 32) jIG_307_30 rfl rfl rfl ?_
    refine jT_ximul (x := 7) (y := 2) (z := 14) (pcN := 33) jIG_307_32 rfl (by decide) rfl ?_
    refine jT_xiload_n (v := (0, 5)) (pcN := 34) jIG_307_33 rfl rfl rfl ?_
    refine jT_xiadd (x := 14) (y := 5) (z := 19) (pcN := 35) jIG_307_34 rfl (by decide) rfl ?_
    refine jT_iald (x := 0) (a := 1) (j := 19) (fs := []) (X := jS0) (by rfl) (by rfl) (by rfl) (by rfl) (by decide +kernel) ?_
    refine jT_eq (LN := [(4, (0, 2)), (3, (0, u)), (0, (4, 0)), (1, (0, r1)), (2, (0, 5))]) (stN := [(0, 0), (0, u)]) (hsN := jpG_156) rfl rfl rfl ?_
    refine jT_mm1 (x := u) (y := 0) (z := 0) (by rfl) (by rfl) (by rfl) (by rfl) (jw_idd (by omega) (by omega)) (jw_idd (by omega) (by omega)) (by rw [decide_eq_false (show ¬ ((u : Int) < 0) by omega)]; rfl) ?_
    refine jT_xistore_n (v := (0, 0)) (LN := [(3, (0, 0)), (4, (0, 2)), (0, (4, 0)), (1, (0, r1)), (2, (0, 5))]) (pcN := 40) jIG_307_39 rfl rfl rfl rfl ?_
    refine jT_xiinc (x := 2) (z := 3) (LN := [(4, (0, 3)), (3, (0, 0)), (0, (4, 0)), (1, (0, r1)), (2, (0, 5))]) (pcN := 43) jIG_307_40 rfl rfl (by decide) rfl rfl ?_
    refine jT_xgoto (pcN := 7) jIG_307_43 rfl ?_
    refine jT_loc (LN := [(4, (0, 3)), (3, (0, 0)), (0, (4, 0)), (1, (0, r1)), (2, (0, 5))]) (by show List.Nodup [4, 3, 0, 1, 2]; decide) (by intro q hq; simp only [List.mem_cons, List.not_mem_nil, or_false] at hq; rcases hq with rfl | rfl | rfl | rfl | rfl <;> rfl) ?_
    exact jGl_ch_87_3 hd (u := 0) (by omega) h_r1 (by rw [← hw]; exact (jlw_1 (by omega)).symm) h
  · refine jT_xiload (v := (0, 2)) (pcN := 9) jIG_307_7 rfl rfl rfl ?_
    refine jT_xbipush (k := 8) (pcN := 11) jIG_307_9 (by decide) rfl ?_
    refine jT_xicF (t := 46) (pcN := 14) jIG_307_11 rfl (by decide +kernel) rfl rfl ?_
    refine jT_xiload_n (v := (0, r1)) (pcN := 15) jIG_307_14 rfl rfl rfl ?_
    refine jT_xiload (v := (0, 2)) (pcN := 17) jIG_307_15 rfl rfl rfl ?_
    refine jT_fR [] 16 (y := 306) (pcN := 20) (dC := 2) (bc1 := 0) (bc2 := 0) (c1 := b1) (c2 := b2) (as := [(0, r1), (0, 2)]) (asC := [(0, r1), (0, 2)]) (LN := [(4, (0, 2)), (3, (0, u)), (0, (4, 0)), (1, (0, r1)), (2, (0, 5))]) (stN := []) (hsC := []) (v := (0, 0)) (st2 := [(0, 0)]) (jG_306_49 (d := 0) (by omega) (by omega)) (by rfl) (by rfl) (by decide +kernel) (by rfl) (by rfl) (by omega) (by omega) (by omega) (by omega) rfl ?_
    refine jT_xifT (pcN := 40) jIG_307_20 rfl (by decide +kernel) rfl ?_
    refine jT_xiinc (x := 2) (z := 3) (LN := [(4, (0, 3)), (3, (0, u)), (0, (4, 0)), (1, (0, r1)), (2, (0, 5))]) (pcN := 43) jIG_307_40 rfl rfl (by decide) rfl rfl ?_
    refine jT_xgoto (pcN := 7) jIG_307_43 rfl ?_
    refine jT_loc (LN := [(4, (0, 3)), (3, (0, u)), (0, (4, 0)), (1, (0, r1)), (2, (0, 5))]) (by show List.Nodup [4, 3, 0, 1, 2]; decide) (by intro q hq; simp only [List.mem_cons, List.not_mem_nil, or_false] at hq; rcases hq with rfl | rfl | rfl | rfl | rfl <;> rfl) ?_
    exact jGl_ch_87_3 hd (u := u) (by omega) h_r1 (by rw [← hw]; exact (jlw_0 (by omega)).symm) h
theorem jGl_ch_87_1 {xs : List Int} {d b1 b2 : Nat} {Q : Nat → JV → List JC → Prop} (hd : 3 < d) {r1 : Int} {u : Int} (h_u : 0 ≤ u ∧ u ≤ 2147483647) (h_r1 : 1 ≤ r1 ∧ r1 ≤ 255) {w : Int} (hw : jlw r1 [1, 2, 3, 4, 5, 6, 7] u = w) (h : jT xs d 307 16 46 [(3, (0, w)), (0, (4, 0))] [] [jzG_18, (100, [], jS0), jgh, jgh, jgh, jgh, jgh, jgh, jgh, jgh, jgh, jgh, jgh, jgh, jgh, jgh] b1 b2 Q) : jT xs d 307 16 7 [(4, (0, 1)), (3, (0, u)), (0, (4, 0)), (1, (0, r1)), (2, (0, 5))] [] [jzG_18, (100, [], jS0), jgh, jgh, jgh, jgh, jgh, jgh, jgh, jgh, jgh, jgh, jgh, jgh, jgh, jgh] b1 b2 Q := by
  rcases (show (0 ≤ (((Int32.ofInt r1 >>> (Int32.ofInt 1 &&& 31)).toInt) % 2) - 1) ∨ ((((Int32.ofInt r1 >>> (Int32.ofInt 1 &&& 31)).toInt) % 2) - 1 < 0) by omega) with g_0 | g_0
  · refine jT_xiload (v := (0, 1)) (pcN := 9) jIG_307_7 rfl rfl rfl ?_
    refine jT_xbipush (k := 8) (pcN := 11) jIG_307_9 (by decide) rfl ?_
    refine jT_xicF (t := 46) (pcN := 14) jIG_307_11 rfl (by decide +kernel) rfl rfl ?_
    refine jT_xiload_n (v := (0, r1)) (pcN := 15) jIG_307_14 rfl rfl rfl ?_
    refine jT_xiload (v := (0, 1)) (pcN := 17) jIG_307_15 rfl rfl rfl ?_
    refine jT_fR [] 16 (y := 306) (pcN := 20) (dC := 2) (bc1 := 0) (bc2 := 0) (c1 := b1) (c2 := b2) (as := [(0, r1), (0, 1)]) (asC := [(0, r1), (0, 1)]) (LN := [(4, (0, 1)), (3, (0, u)), (0, (4, 0)), (1, (0, r1)), (2, (0, 5))]) (stN := []) (hsC := []) (v := (0, 1)) (st2 := [(0, 1)]) (jG_306_45 (d := 0) (by omega) (by omega)) (by rfl) (by rfl) (by decide +kernel) (by rfl) (by rfl) (by omega) (by omega) (by omega) (by omega) rfl ?_
    refine jT_xifF (t := 40) (pcN := 23) jIG_307_20 rfl (by decide +kernel) rfl rfl ?_
    refine jT_xiload_n (v := (0, u)) (pcN := 24) jIG_307_23 rfl rfl rfl ?_
    refine jT_xaload_n (v := (4, 0)) (pcN := 25) jIG_307_24 rfl rfl rfl ?_
    refine jT_xgetf (a := 0) (t := 1) (ci := 14) (fi := 1) (c := jzG_18) (v := (4, 1)) (pcN := 28) jIG_307_25 rfl rfl rfl rfl rfl rfl rfl ?_
    refine jT_xbipush (k := 7) (pcN := 30) jIG_307_28 (by decide) rfl ?_
    refine jT_xiload (v := (0, 1)) (pcN := 32) jIG_307_30 rfl rfl rfl ?_
    refine jT_ximul (x := 7) (y := 1) (z := 7) (pcN := 33) jIG_307_32 rfl (by decide) rfl ?_
    refine jT_xiload_n (v := (0, 5)) (pcN := 34) jIG_307_33 rfl rfl rfl ?_
    refine jT_xiadd (x := 7) (y := 5) (z := 12) (pcN := 35) jIG_307_34 rfl (by decide) rfl ?_
    refine jT_iald (x := 0) (a := 1) (j := 12) (fs := []) (X := jS0) (by rfl) (by rfl) (by rfl) (by rfl) (by decide +kernel) ?_
    refine jT_eq (LN := [(4, (0, 1)), (3, (0, u)), (0, (4, 0)), (1, (0, r1)), (2, (0, 5))]) (stN := [(0, 0), (0, u)]) (hsN := jpG_156) rfl rfl rfl ?_
    refine jT_mm1 (x := u) (y := 0) (z := 0) (by rfl) (by rfl) (by rfl) (by rfl) (jw_idd (by omega) (by omega)) (jw_idd (by omega) (by omega)) (by rw [decide_eq_false (show ¬ ((u : Int) < 0) by omega)]; rfl) ?_
    refine jT_xistore_n (v := (0, 0)) (LN := [(3, (0, 0)), (4, (0, 1)), (0, (4, 0)), (1, (0, r1)), (2, (0, 5))]) (pcN := 40) jIG_307_39 rfl rfl rfl rfl ?_
    refine jT_xiinc (x := 1) (z := 2) (LN := [(4, (0, 2)), (3, (0, 0)), (0, (4, 0)), (1, (0, r1)), (2, (0, 5))]) (pcN := 43) jIG_307_40 rfl rfl (by decide) rfl rfl ?_
    refine jT_xgoto (pcN := 7) jIG_307_43 rfl ?_
    refine jT_loc (LN := [(4, (0, 2)), (3, (0, 0)), (0, (4, 0)), (1, (0, r1)), (2, (0, 5))]) (by show List.Nodup [4, 3, 0, 1, 2]; decide) (by intro q hq; simp only [List.mem_cons, List.not_mem_nil, or_false] at hq; rcases hq with rfl | rfl | rfl | rfl | rfl <;> rfl) ?_
    exact jGl_ch_87_2 hd (u := 0) (by omega) h_r1 (by rw [← hw]; exact (jlw_1 (by omega)).symm) h
  · refine jT_xiload (v := (0, 1)) (pcN := 9) jIG_307_7 rfl rfl rfl ?_
    refine jT_xbipush (k := 8) (pcN := 11) jIG_307_9 (by decide) rfl ?_
    refine jT_xicF (t := 46) (pcN := 14) jIG_307_11 rfl (by decide +kernel) rfl rfl ?_
    refine jT_xiload_n (v := (0, r1)) (pcN := 15) jIG_307_14 rfl rfl rfl ?_
    refine jT_xiload (v := (0, 1)) (pcN := 17) jIG_307_15 rfl rfl rfl ?_
    refine jT_fR [] 16 (y := 306) (pcN := 20) (dC := 2) (bc1 := 0) (bc2 := 0) (c1 := b1) (c2 := b2) (as := [(0, r1), (0, 1)]) (asC := [(0, r1), (0, 1)]) (LN := [(4, (0, 1)), (3, (0, u)), (0, (4, 0)), (1, (0, r1)), (2, (0, 5))]) (stN := []) (hsC := []) (v := (0, 0)) (st2 := [(0, 0)]) (jG_306_44 (d := 0) (by omega) (by omega)) (by rfl) (by rfl) (by decide +kernel) (by rfl) (by rfl) (by omega) (by omega) (by omega) (by omega) rfl ?_
    refine jT_xifT (pcN := 40) jIG_307_20 rfl (by decide +kernel) rfl ?_
    refine jT_xiinc (x := 1) (z := 2) (LN := [(4, (0, 2)), (3, (0, u)), (0, (4, 0)), (1, (0, r1)), (2, (0, 5))]) (pcN := 43) jIG_307_40 rfl rfl (by decide) rfl rfl ?_
    refine jT_xgoto (pcN := 7) jIG_307_43 rfl ?_
    refine jT_loc (LN := [(4, (0, 2)), (3, (0, u)), (0, (4, 0)), (1, (0, r1)), (2, (0, 5))]) (by show List.Nodup [4, 3, 0, 1, 2]; decide) (by intro q hq; simp only [List.mem_cons, List.not_mem_nil, or_false] at hq; rcases hq with rfl | rfl | rfl | rfl | rfl <;> rfl) ?_
    exact jGl_ch_87_2 hd (u := u) (by omega) h_r1 (by rw [← hw]; exact (jlw_0 (by omega)).symm) h
theorem jGl_ch_87_0 {xs : List Int} {d b1 b2 : Nat} {Q : Nat → JV → List JC → Prop} (hd : 3 < d) {r1 : Int} {u : Int} (h_u : 0 ≤ u ∧ u ≤ 2147483647) (h_r1 : 1 ≤ r1 ∧ r1 ≤ 255) {w : Int} (hw : jlw r1 [0, 1, 2, 3, 4, 5, 6, 7] u = w) (h : jT xs d 307 16 46 [(3, (0, w)), (0, (4, 0))] [] [jzG_18, (100, [], jS0), jgh, jgh, jgh, jgh, jgh, jgh, jgh, jgh, jgh, jgh, jgh, jgh, jgh, jgh] b1 b2 Q) : jT xs d 307 16 7 [(4, (0, 0)), (3, (0, u)), (0, (4, 0)), (1, (0, r1)), (2, (0, 5))] [] [jzG_18, (100, [], jS0), jgh, jgh, jgh, jgh, jgh, jgh, jgh, jgh, jgh, jgh, jgh, jgh, jgh, jgh] b1 b2 Q := by
  rcases (show (0 ≤ (((Int32.ofInt r1 >>> (Int32.ofInt 0 &&& 31)).toInt) % 2) - 1) ∨ ((((Int32.ofInt r1 >>> (Int32.ofInt 0 &&& 31)).toInt) % 2) - 1 < 0) by omega) with g_0 | g_0
  · refine jT_xiload (v := (0, 0)) (pcN := 9) jIG_307_7 rfl rfl rfl ?_
    refine jT_xbipush (k := 8) (pcN := 11) jIG_307_9 (by decide) rfl ?_
    refine jT_xicF (t := 46) (pcN := 14) jIG_307_11 rfl (by decide +kernel) rfl rfl ?_
    refine jT_xiload_n (v := (0, r1)) (pcN := 15) jIG_307_14 rfl rfl rfl ?_
    refine jT_xiload (v := (0, 0)) (pcN := 17) jIG_307_15 rfl rfl rfl ?_
    refine jT_fR [] 16 (y := 306) (pcN := 20) (dC := 2) (bc1 := 0) (bc2 := 0) (c1 := b1) (c2 := b2) (as := [(0, r1), (0, 0)]) (asC := [(0, r1), (0, 0)]) (LN := [(4, (0, 0)), (3, (0, u)), (0, (4, 0)), (1, (0, r1)), (2, (0, 5))]) (stN := []) (hsC := []) (v := (0, 1)) (st2 := [(0, 1)]) (jG_306_39 (d := 0) (by omega) (by omega)) (by rfl) (by rfl) (by decide +kernel) (by rfl) (by rfl) (by omega) (by omega) (by omega) (by omega) rfl ?_
    refine jT_xifF (t := 40) (pcN := 23) jIG_307_20 rfl (by decide +kernel) rfl rfl ?_
    refine jT_xiload_n (v := (0, u)) (pcN := 24) jIG_307_23 rfl rfl rfl ?_
    refine jT_xaload_n (v := (4, 0)) (pcN := 25) jIG_307_24 rfl rfl rfl ?_
    refine jT_xgetf (a := 0) (t := 1) (ci := 14) (fi := 1) (c := jzG_18) (v := (4, 1)) (pcN := 28) jIG_307_25 rfl rfl rfl rfl rfl rfl rfl ?_
    refine jT_xbipush (k := 7) (pcN := 30) jIG_307_28 (by decide) rfl ?_
    refine jT_xiload (v := (0, 0)) (pcN := 32) jIG_307_30 rfl rfl rfl ?_
    refine jT_ximul (x := 7) (y := 0) (z := 0) (pcN := 33) jIG_307_32 rfl (by decide) rfl ?_
    refine jT_xiload_n (v := (0, 5)) (pcN := 34) jIG_307_33 rfl rfl rfl ?_
    refine jT_xiadd (x := 0) (y := 5) (z := 5) (pcN := 35) jIG_307_34 rfl (by decide) rfl ?_
    refine jT_iald (x := 0) (a := 1) (j := 5) (fs := []) (X := jS0) (by rfl) (by rfl) (by rfl) (by rfl) (by decide +kernel) ?_
    refine jT_eq (LN := [(4, (0, 0)), (3, (0, u)), (0, (4, 0)), (1, (0, r1)), (2, (0, 5))]) (stN := [(0, 0), (0, u)]) (hsN := jpG_156) rfl rfl rfl ?_
    refine jT_mm1 (x := u) (y := 0) (z := 0) (by rfl) (by rfl) (by rfl) (by rfl) (jw_idd (by omega) (by omega)) (jw_idd (by omega) (by omega)) (by rw [decide_eq_false (show ¬ ((u : Int) < 0) by omega)]; rfl) ?_
    refine jT_xistore_n (v := (0, 0)) (LN := [(3, (0, 0)), (4, (0, 0)), (0, (4, 0)), (1, (0, r1)), (2, (0, 5))]) (pcN := 40) jIG_307_39 rfl rfl rfl rfl ?_
    refine jT_xiinc (x := 0) (z := 1) (LN := [(4, (0, 1)), (3, (0, 0)), (0, (4, 0)), (1, (0, r1)), (2, (0, 5))]) (pcN := 43) jIG_307_40 rfl rfl (by decide) rfl rfl ?_
    refine jT_xgoto (pcN := 7) jIG_307_43 rfl ?_
    refine jT_loc (LN := [(4, (0, 1)), (3, (0, 0)), (0, (4, 0)), (1, (0, r1)), (2, (0, 5))]) (by show List.Nodup [4, 3, 0, 1, 2]; decide) (by intro q hq; simp only [List.mem_cons, List.not_mem_nil, or_false] at hq; rcases hq with rfl | rfl | rfl | rfl | rfl <;> rfl) ?_
    exact jGl_ch_87_1 hd (u := 0) (by omega) h_r1 (by rw [← hw]; exact (jlw_1 (by omega)).symm) h
  · refine jT_xiload (v := (0, 0)) (pcN := 9) jIG_307_7 rfl rfl rfl ?_
    refine jT_xbipush (k := 8) (pcN := 11) jIG_307_9 (by decide) rfl ?_
    refine jT_xicF (t := 46) (pcN := 14) jIG_307_11 rfl (by decide +kernel) rfl rfl ?_
    refine jT_xiload_n (v := (0, r1)) (pcN := 15) jIG_307_14 rfl rfl rfl ?_
    refine jT_xiload (v := (0, 0)) (pcN := 17) jIG_307_15 rfl rfl rfl ?_
    refine jT_fR [] 16 (y := 306) (pcN := 20) (dC := 2) (bc1 := 0) (bc2 := 0) (c1 := b1) (c2 := b2) (as := [(0, r1), (0, 0)]) (asC := [(0, r1), (0, 0)]) (LN := [(4, (0, 0)), (3, (0, u)), (0, (4, 0)), (1, (0, r1)), (2, (0, 5))]) (stN := []) (hsC := []) (v := (0, 0)) (st2 := [(0, 0)]) (jG_306_38 (d := 0) (by omega) (by omega)) (by rfl) (by rfl) (by decide +kernel) (by rfl) (by rfl) (by omega) (by omega) (by omega) (by omega) rfl ?_
    refine jT_xifT (pcN := 40) jIG_307_20 rfl (by decide +kernel) rfl ?_
    refine jT_xiinc (x := 0) (z := 1) (LN := [(4, (0, 1)), (3, (0, u)), (0, (4, 0)), (1, (0, r1)), (2, (0, 5))]) (pcN := 43) jIG_307_40 rfl rfl (by decide) rfl rfl ?_
    refine jT_xgoto (pcN := 7) jIG_307_43 rfl ?_
    refine jT_loc (LN := [(4, (0, 1)), (3, (0, u)), (0, (4, 0)), (1, (0, r1)), (2, (0, 5))]) (by show List.Nodup [4, 3, 0, 1, 2]; decide) (by intro q hq; simp only [List.mem_cons, List.not_mem_nil, or_false] at hq; rcases hq with rfl | rfl | rfl | rfl | rfl <;> rfl) ?_
    exact jGl_ch_87_1 hd (u := u) (by omega) h_r1 (by rw [← hw]; exact (jlw_0 (by omega)).symm) h
theorem jG_307_88 {xs : List Int} {d : Nat} {x1 : Int} (h_x1 : 1 ≤ x1 ∧ x1 ≤ 255) : jT xs (d + 4) 307 16 0 [(0, (4, 0)), (1, (0, x1)), (2, (0, 5))] [] jpG_156 0 0 (fun k v hsN => k = 0 ∧ v = (0, jlw x1 [0, 1, 2, 3, 4, 5, 6, 7] 2147483647) ∧ hsN = jpG_156 ++ []) := by
  refine jT_adv 1 (pcN := 3) (LN := [(0, (4, 0)), (1, (0, x1)), (2, (0, 5))]) (stN := [(0, 2147483647)]) (hsN := jpG_156) (c1 := 0) (s1 := 0) (c2 := 0) (s2 := 0) (by exact rfl) ?_ (by omega) (by omega)
  refine jT_xistore_n (v := (0, 2147483647)) (LN := [(3, (0, 2147483647)), (0, (4, 0)), (1, (0, x1)), (2, (0, 5))]) (pcN := 4) jIG_307_3 rfl rfl rfl rfl ?_
  refine jT_xiconst (k := 0) (pcN := 5) jIG_307_4 rfl ?_
  refine jT_xistore (v := (0, 0)) (LN := [(4, (0, 0)), (3, (0, 2147483647)), (0, (4, 0)), (1, (0, x1)), (2, (0, 5))]) (pcN := 7) jIG_307_5 rfl rfl rfl rfl ?_
  refine jT_loc (LN := [(4, (0, 0)), (3, (0, 2147483647)), (0, (4, 0)), (1, (0, x1)), (2, (0, 5))]) (by show List.Nodup [4, 3, 0, 1, 2]; decide) (by intro q hq; simp only [List.mem_cons, List.not_mem_nil, or_false] at hq; rcases hq with rfl | rfl | rfl | rfl | rfl <;> rfl) ?_
  refine jGl_ch_87_0 (by omega) (u := 2147483647) (by omega) (r1 := x1) (by omega) rfl ?_
  have hb_q1 := jlw_b (c := x1) (r := [0, 1, 2, 3, 4, 5, 6, 7]) (l := 2147483647) (by decide) (by decide)
  generalize hq_q1 : jlw x1 [0, 1, 2, 3, 4, 5, 6, 7] 2147483647 = q1 at hb_q1 ⊢
  refine jT_xiload_n (v := (0, q1)) (pcN := 47) jIG_307_46 rfl rfl rfl ?_
  subst hq_q1
  exact jT_ret rfl (by decide) (by show 16 ≤ 16; omega) (by omega) (by omega) ⟨rfl, rfl, rfl⟩
theorem jG_191_89 {xs : List Int} {d : Nat} : jT xs d 191 1 0 [(0, (4, 0)), (1, (0, 1)), (2, (0, 3))] [] [jgh] 0 0 (fun k v hsN => k = 0 ∧ v = (0, 0) ∧ hsN = [jgh] ++ []) := by
  refine jT_advK 5 (pcN := 18) (LN := [(0, (4, 0)), (1, (0, 1)), (2, (0, 3))]) (stN := [(0, 0)]) (hsN := [jgh]) (c1 := 0) (s1 := 0) (c2 := 0) (s2 := 0) (by decide +kernel) ?_ (by omega) (by omega)
  exact jT_ret rfl (by decide) (by show 1 ≤ 1; omega) (by omega) (by omega) ⟨rfl, rfl, rfl⟩
theorem jIG_305_37 : jmI (jm 305) 37 = (.iconst 1, 1) := by rfl
theorem jIG_305_38 : jmI (jm 305) 38 = (.istore_n 3, 1) := by rfl
theorem jIG_305_39 : jmI (jm 305) 39 = (.iconst 0, 1) := by rfl
theorem jIG_305_40 : jmI (jm 305) 40 = (.istore 4, 2) := by rfl
theorem jIG_305_42 : jmI (jm 305) 42 = (.iload 4, 2) := by rfl
theorem jIG_305_44 : jmI (jm 305) 44 = (.bipush 8, 2) := by rfl
theorem jIG_305_46 : jmI (jm 305) 46 = (.if_icmp .ge 39, 3) := by rfl
theorem jGl_ch_90_8 {xs : List Int} {d b1 b2 : Nat} {Q : Nat → JV → List JC → Prop} (hd : 3 < d) {r1 y2 : Int} (h_r1 : 1 ≤ r1 ∧ r1 ≤ 255) (h : jT xs d 305 16 85 [(3, (0, 1)), (0, (4, 0)), (1, (0, r1)), (2, (0, y2))] [] [jzG_18, (100, [], jS0), jgh, jgh, jgh, jgh, jgh, jgh, jgh, jgh, jgh, jgh, jgh, jgh, jgh, jgh] b1 b2 Q) : jT xs d 305 16 42 [(4, (0, 8)), (3, (0, 1)), (0, (4, 0)), (1, (0, r1)), (2, (0, y2))] [] [jzG_18, (100, [], jS0), jgh, jgh, jgh, jgh, jgh, jgh, jgh, jgh, jgh, jgh, jgh, jgh, jgh, jgh] b1 b2 Q := by
  refine jT_xiload (v := (0, 8)) (pcN := 44) jIG_305_42 rfl rfl rfl ?_
  refine jT_xbipush (k := 8) (pcN := 46) jIG_305_44 (by decide) rfl ?_
  refine jT_xicT (pcN := 85) jIG_305_46 rfl (by decide +kernel) rfl ?_
  refine jT_loc (LN := [(3, (0, 1)), (0, (4, 0)), (1, (0, r1)), (2, (0, y2))]) (by show List.Nodup [3, 0, 1, 2]; decide) (by intro q hq; simp only [List.mem_cons, List.not_mem_nil, or_false] at hq; rcases hq with rfl | rfl | rfl | rfl <;> rfl) ?_
  exact h
theorem jIG_305_49 : jmI (jm 305) 49 = (.iload_n 3, 1) := by rfl
theorem jIG_305_50 : jmI (jm 305) 50 = (.ifCond .eq 27, 3) := by rfl
theorem jIG_305_53 : jmI (jm 305) 53 = (.iload_n 1, 1) := by rfl
theorem jIG_305_54 : jmI (jm 305) 54 = (.iload 4, 2) := by rfl
theorem jIG_305_59 : jmI (jm 305) 59 = (.ifCond .eq 14, 3) := by rfl
theorem jIG_305_62 : jmI (jm 305) 62 = (.aload_n 0, 1) := by rfl
theorem jIG_305_63 : jmI (jm 305) 63 = (.iload 4, 2) := by rfl
theorem jIG_305_65 : jmI (jm 305) 65 = (.bipush 100, 2) := by rfl
theorem jIG_305_70 : jmI (jm 305) 70 = (.ifCond .eq 7, 3) := by rfl
theorem jIG_305_73 : jmI (jm 305) 73 = (.iconst 1, 1) := by rfl
theorem jIG_305_74 : jmI (jm 305) 74 = (.goto 4, 3) := by rfl
theorem jIG_305_78 : jmI (jm 305) 78 = (.istore_n 3, 1) := by rfl
theorem jIG_305_79 : jmI (jm 305) 79 = (.iinc 4 1, 3) := by rfl
theorem jIG_305_82 : jmI (jm 305) 82 = (.goto (-40), 3) := by rfl
theorem jGl_ch_90_7 {xs : List Int} {d b1 b2 : Nat} {Q : Nat → JV → List JC → Prop} (hd : 3 < d) {r1 y2 : Int} (h_r1 : 1 ≤ r1 ∧ r1 ≤ 255) (h : jT xs d 305 16 85 [(3, (0, 1)), (0, (4, 0)), (1, (0, r1)), (2, (0, y2))] [] [jzG_18, (100, [], jS0), jgh, jgh, jgh, jgh, jgh, jgh, jgh, jgh, jgh, jgh, jgh, jgh, jgh, jgh] b1 b2 Q) : jT xs d 305 16 42 [(4, (0, 7)), (3, (0, 1)), (0, (4, 0)), (1, (0, r1)), (2, (0, y2))] [] [jzG_18, (100, [], jS0), jgh, jgh, jgh, jgh, jgh, jgh, jgh, jgh, jgh, jgh, jgh, jgh, jgh, jgh] b1 b2 Q := by
  rcases (show (0 ≤ (((Int32.ofInt r1 >>> (Int32.ofInt 7 &&& 31)).toInt) % 2) - 1) ∨ ((((Int32.ofInt r1 >>> (Int32.ofInt 7 &&& 31)).toInt) % 2) - 1 < 0) by omega) with g_0 | g_0
  · refine jT_xiload (v := (0, 7)) (pcN := 44) jIG_305_42 rfl rfl rfl ?_
    refine jT_xbipush (k := 8) (pcN := 46) jIG_305_44 (by decide) rfl ?_
    refine jT_xicF (t := 85) (pcN := 49) jIG_305_46 rfl (by decide +kernel) rfl rfl ?_
    refine jT_xiload_n (v := (0, 1)) (pcN := 50) jIG_305_49 rfl rfl rfl ?_
    refine jT_xifF (t := 77) (pcN := 53) jIG_305_50 rfl (by decide +kernel) rfl rfl ?_
    refine jT_xiload_n (v := (0, r1)) (pcN := 54) jIG_305_53 rfl rfl rfl ?_
    refine jT_xiload (v := (0, 7)) (pcN := 56) jIG_305_54 rfl rfl rfl ?_
    refine jT_fR [] 16 (y := 306) (pcN := 59) (dC := 2) (bc1 := 0) (bc2 := 0) (c1 := b1) (c2 := b2) (as := [(0, r1), (0, 7)]) (asC := [(0, r1), (0, 7)]) (LN := [(4, (0, 7)), (3, (0, 1)), (0, (4, 0)), (1, (0, r1)), (2, (0, y2))]) (stN := []) (hsC := []) (v := (0, 1)) (st2 := [(0, 1)]) (jG_306_75 (d := 0) (by omega) (by omega)) (by rfl) (by rfl) (by decide +kernel) (by rfl) (by rfl) (by omega) (by omega) (by omega) (by omega) rfl ?_
    refine jT_xifF (t := 73) (pcN := 62) jIG_305_59 rfl (by decide +kernel) rfl rfl ?_
    refine jT_xaload_n (v := (4, 0)) (pcN := 63) jIG_305_62 rfl rfl rfl ?_
    refine jT_xiload (v := (0, 7)) (pcN := 65) jIG_305_63 rfl rfl rfl ?_
    refine jT_xbipush (k := 100) (pcN := 67) jIG_305_65 (by decide) rfl ?_
    refine jT_fR [0, 1, 2, 3, 4, 5, 6, 7, 8, 9, 10, 11, 12, 13, 14, 15] 16 (y := 267) (pcN := 70) (dC := 1) (bc1 := 0) (bc2 := 0) (c1 := b1) (c2 := b2) (as := [(4, 0), (0, 7), (0, 100)]) (asC := [(4, 0), (0, 7), (0, 100)]) (LN := [(4, (0, 7)), (3, (0, 1)), (0, (4, 0)), (1, (0, r1)), (2, (0, y2))]) (stN := []) (hsC := jpG_156) (v := (0, 1)) (st2 := [(0, 1)]) (jG_267_76 (d := 0)) (by rfl) (by rfl) (by decide +kernel) (by rfl) (by rfl) (by omega) (by omega) (by omega) (by omega) rfl ?_
    refine jT_xifF (t := 77) (pcN := 73) jIG_305_70 rfl (by decide +kernel) rfl rfl ?_
    refine jT_xiconst (k := 1) (pcN := 74) jIG_305_73 rfl ?_
    refine jT_xgoto (pcN := 78) jIG_305_74 rfl ?_
    refine jT_xistore_n (v := (0, 1)) (LN := [(3, (0, 1)), (4, (0, 7)), (0, (4, 0)), (1, (0, r1)), (2, (0, y2))]) (pcN := 79) jIG_305_78 rfl rfl rfl rfl ?_
    refine jT_xiinc (x := 7) (z := 8) (LN := [(4, (0, 8)), (3, (0, 1)), (0, (4, 0)), (1, (0, r1)), (2, (0, y2))]) (pcN := 82) jIG_305_79 rfl rfl (by decide) rfl rfl ?_
    refine jT_xgoto (pcN := 42) jIG_305_82 rfl ?_
    refine jT_loc (LN := [(4, (0, 8)), (3, (0, 1)), (0, (4, 0)), (1, (0, r1)), (2, (0, y2))]) (by show List.Nodup [4, 3, 0, 1, 2]; decide) (by intro q hq; simp only [List.mem_cons, List.not_mem_nil, or_false] at hq; rcases hq with rfl | rfl | rfl | rfl | rfl <;> rfl) ?_
    exact jGl_ch_90_8 hd h_r1 h
  · refine jT_xiload (v := (0, 7)) (pcN := 44) jIG_305_42 rfl rfl rfl ?_
    refine jT_xbipush (k := 8) (pcN := 46) jIG_305_44 (by decide) rfl ?_
    refine jT_xicF (t := 85) (pcN := 49) jIG_305_46 rfl (by decide +kernel) rfl rfl ?_
    refine jT_xiload_n (v := (0, 1)) (pcN := 50) jIG_305_49 rfl rfl rfl ?_
    refine jT_xifF (t := 77) (pcN := 53) jIG_305_50 rfl (by decide +kernel) rfl rfl ?_
    refine jT_xiload_n (v := (0, r1)) (pcN := 54) jIG_305_53 rfl rfl rfl ?_
    refine jT_xiload (v := (0, 7)) (pcN := 56) jIG_305_54 rfl rfl rfl ?_
    refine jT_fR [] 16 (y := 306) (pcN := 59) (dC := 2) (bc1 := 0) (bc2 := 0) (c1 := b1) (c2 := b2) (as := [(0, r1), (0, 7)]) (asC := [(0, r1), (0, 7)]) (LN := [(4, (0, 7)), (3, (0, 1)), (0, (4, 0)), (1, (0, r1)), (2, (0, y2))]) (stN := []) (hsC := []) (v := (0, 0)) (st2 := [(0, 0)]) (jG_306_74 (d := 0) (by omega) (by omega)) (by rfl) (by rfl) (by decide +kernel) (by rfl) (by rfl) (by omega) (by omega) (by omega) (by omega) rfl ?_
    refine jT_xifT (pcN := 73) jIG_305_59 rfl (by decide +kernel) rfl ?_
    refine jT_xiconst (k := 1) (pcN := 74) jIG_305_73 rfl ?_
    refine jT_xgoto (pcN := 78) jIG_305_74 rfl ?_
    refine jT_xistore_n (v := (0, 1)) (LN := [(3, (0, 1)), (4, (0, 7)), (0, (4, 0)), (1, (0, r1)), (2, (0, y2))]) (pcN := 79) jIG_305_78 rfl rfl rfl rfl ?_
    refine jT_xiinc (x := 7) (z := 8) (LN := [(4, (0, 8)), (3, (0, 1)), (0, (4, 0)), (1, (0, r1)), (2, (0, y2))]) (pcN := 82) jIG_305_79 rfl rfl (by decide) rfl rfl ?_
    refine jT_xgoto (pcN := 42) jIG_305_82 rfl ?_
    refine jT_loc (LN := [(4, (0, 8)), (3, (0, 1)), (0, (4, 0)), (1, (0, r1)), (2, (0, y2))]) (by show List.Nodup [4, 3, 0, 1, 2]; decide) (by intro q hq; simp only [List.mem_cons, List.not_mem_nil, or_false] at hq; rcases hq with rfl | rfl | rfl | rfl | rfl <;> rfl) ?_
    exact jGl_ch_90_8 hd h_r1 h
theorem jGl_ch_90_6 {xs : List Int} {d b1 b2 : Nat} {Q : Nat → JV → List JC → Prop} (hd : 3 < d) {r1 y2 : Int} (h_r1 : 1 ≤ r1 ∧ r1 ≤ 255) (h : jT xs d 305 16 85 [(3, (0, 1)), (0, (4, 0)), (1, (0, r1)), (2, (0, y2))] [] [jzG_18, (100, [], jS0), jgh, jgh, jgh, jgh, jgh, jgh, jgh, jgh, jgh, jgh, jgh, jgh, jgh, jgh] b1 b2 Q) : jT xs d 305 16 42 [(4, (0, 6)), (3, (0, 1)), (0, (4, 0)), (1, (0, r1)), (2, (0, y2))] [] [jzG_18, (100, [], jS0), jgh, jgh, jgh, jgh, jgh, jgh, jgh, jgh, jgh, jgh, jgh, jgh, jgh, jgh] b1 b2 Q := by
  rcases (show (0 ≤ (((Int32.ofInt r1 >>> (Int32.ofInt 6 &&& 31)).toInt) % 2) - 1) ∨ ((((Int32.ofInt r1 >>> (Int32.ofInt 6 &&& 31)).toInt) % 2) - 1 < 0) by omega) with g_0 | g_0
  · refine jT_xiload (v := (0, 6)) (pcN := 44) jIG_305_42 rfl rfl rfl ?_
    refine jT_xbipush (k := 8) (pcN := 46) jIG_305_44 (by decide) rfl ?_
    refine jT_xicF (t := 85) (pcN := 49) jIG_305_46 rfl (by decide +kernel) rfl rfl ?_
    refine jT_xiload_n (v := (0, 1)) (pcN := 50) jIG_305_49 rfl rfl rfl ?_
    refine jT_xifF (t := 77) (pcN := 53) jIG_305_50 rfl (by decide +kernel) rfl rfl ?_
    refine jT_xiload_n (v := (0, r1)) (pcN := 54) jIG_305_53 rfl rfl rfl ?_
    refine jT_xiload (v := (0, 6)) (pcN := 56) jIG_305_54 rfl rfl rfl ?_
    refine jT_fR [] 16 (y := 306) (pcN := 59) (dC := 2) (bc1 := 0) (bc2 := 0) (c1 := b1) (c2 := b2) (as := [(0, r1), (0, 6)]) (asC := [(0, r1), (0, 6)]) (LN := [(4, (0, 6)), (3, (0, 1)), (0, (4, 0)), (1, (0, r1)), (2, (0, y2))]) (stN := []) (hsC := []) (v := (0, 1)) (st2 := [(0, 1)]) (jG_306_70 (d := 0) (by omega) (by omega)) (by rfl) (by rfl) (by decide +kernel) (by rfl) (by rfl) (by omega) (by omega) (by omega) (by omega) rfl ?_
    refine jT_xifF (t := 73) (pcN := 62) jIG_305_59 rfl (by decide +kernel) rfl rfl ?_
    refine jT_xaload_n (v := (4, 0)) (pcN := 63) jIG_305_62 rfl rfl rfl ?_
    refine jT_xiload (v := (0, 6)) (pcN := 65) jIG_305_63 rfl rfl rfl ?_
    refine jT_xbipush (k := 100) (pcN := 67) jIG_305_65 (by decide) rfl ?_
    refine jT_fR [0, 1, 2, 3, 4, 5, 6, 7, 8, 9, 10, 11, 12, 13, 14, 15] 16 (y := 267) (pcN := 70) (dC := 1) (bc1 := 0) (bc2 := 0) (c1 := b1) (c2 := b2) (as := [(4, 0), (0, 6), (0, 100)]) (asC := [(4, 0), (0, 6), (0, 100)]) (LN := [(4, (0, 6)), (3, (0, 1)), (0, (4, 0)), (1, (0, r1)), (2, (0, y2))]) (stN := []) (hsC := jpG_156) (v := (0, 1)) (st2 := [(0, 1)]) (jG_267_71 (d := 0)) (by rfl) (by rfl) (by decide +kernel) (by rfl) (by rfl) (by omega) (by omega) (by omega) (by omega) rfl ?_
    refine jT_xifF (t := 77) (pcN := 73) jIG_305_70 rfl (by decide +kernel) rfl rfl ?_
    refine jT_xiconst (k := 1) (pcN := 74) jIG_305_73 rfl ?_
    refine jT_xgoto (pcN := 78) jIG_305_74 rfl ?_
    refine jT_xistore_n (v := (0, 1)) (LN := [(3, (0, 1)), (4, (0, 6)), (0, (4, 0)), (1, (0, r1)), (2, (0, y2))]) (pcN := 79) jIG_305_78 rfl rfl rfl rfl ?_
    refine jT_xiinc (x := 6) (z := 7) (LN := [(4, (0, 7)), (3, (0, 1)), (0, (4, 0)), (1, (0, r1)), (2, (0, y2))]) (pcN := 82) jIG_305_79 rfl rfl (by decide) rfl rfl ?_
    refine jT_xgoto (pcN := 42) jIG_305_82 rfl ?_
    refine jT_loc (LN := [(4, (0, 7)), (3, (0, 1)), (0, (4, 0)), (1, (0, r1)), (2, (0, y2))]) (by show List.Nodup [4, 3, 0, 1, 2]; decide) (by intro q hq; simp only [List.mem_cons, List.not_mem_nil, or_false] at hq; rcases hq with rfl | rfl | rfl | rfl | rfl <;> rfl) ?_
    exact jGl_ch_90_7 hd h_r1 h
  · refine jT_xiload (v := (0, 6)) (pcN := 44) jIG_305_42 rfl rfl rfl ?_
    refine jT_xbipush (k := 8) (pcN := 46) jIG_305_44 (by decide) rfl ?_
    refine jT_xicF (t := 85) (pcN := 49) jIG_305_46 rfl (by decide +kernel) rfl rfl ?_
    refine jT_xiload_n (v := (0, 1)) (pcN := 50) jIG_305_49 rfl rfl rfl ?_
    refine jT_xifF (t := 77) (pcN := 53) jIG_305_50 rfl (by decide +kernel) rfl rfl ?_
    refine jT_xiload_n (v := (0, r1)) (pcN := 54) jIG_305_53 rfl rfl rfl ?_
    refine jT_xiload (v := (0, 6)) (pcN := 56) jIG_305_54 rfl rfl rfl ?_
    refine jT_fR [] 16 (y := 306) (pcN := 59) (dC := 2) (bc1 := 0) (bc2 := 0) (c1 := b1) (c2 := b2) (as := [(0, r1), (0, 6)]) (asC := [(0, r1), (0, 6)]) (LN := [(4, (0, 6)), (3, (0, 1)), (0, (4, 0)), (1, (0, r1)), (2, (0, y2))]) (stN := []) (hsC := []) (v := (0, 0)) (st2 := [(0, 0)]) (jG_306_69 (d := 0) (by omega) (by omega)) (by rfl) (by rfl) (by decide +kernel) (by rfl) (by rfl) (by omega) (by omega) (by omega) (by omega) rfl ?_
    refine jT_xifT (pcN := 73) jIG_305_59 rfl (by decide +kernel) rfl ?_
    refine jT_xiconst (k := 1) (pcN := 74) jIG_305_73 rfl ?_
    refine jT_xgoto (pcN := 78) jIG_305_74 rfl ?_
    refine jT_xistore_n (v := (0, 1)) (LN := [(3, (0, 1)), (4, (0, 6)), (0, (4, 0)), (1, (0, r1)), (2, (0, y2))]) (pcN := 79) jIG_305_78 rfl rfl rfl rfl ?_
    refine jT_xiinc (x := 6) (z := 7) (LN := [(4, (0, 7)), (3, (0, 1)), (0, (4, 0)), (1, (0, r1)), (2, (0, y2))]) (pcN := 82) jIG_305_79 rfl rfl (by decide) rfl rfl ?_
    refine jT_xgoto (pcN := 42) jIG_305_82 rfl ?_
    refine jT_loc (LN := [(4, (0, 7)), (3, (0, 1)), (0, (4, 0)), (1, (0, r1)), (2, (0, y2))]) (by show List.Nodup [4, 3, 0, 1, 2]; decide) (by intro q hq; simp only [List.mem_cons, List.not_mem_nil, or_false] at hq; rcases hq with rfl | rfl | rfl | rfl | rfl <;> rfl) ?_
    exact jGl_ch_90_7 hd h_r1 h
theorem jGl_ch_90_5 {xs : List Int} {d b1 b2 : Nat} {Q : Nat → JV → List JC → Prop} (hd : 3 < d) {r1 y2 : Int} (h_r1 : 1 ≤ r1 ∧ r1 ≤ 255) (h : jT xs d 305 16 85 [(3, (0, 1)), (0, (4, 0)), (1, (0, r1)), (2, (0, y2))] [] [jzG_18, (100, [], jS0), jgh, jgh, jgh, jgh, jgh, jgh, jgh, jgh, jgh, jgh, jgh, jgh, jgh, jgh] b1 b2 Q) : jT xs d 305 16 42 [(4, (0, 5)), (3, (0, 1)), (0, (4, 0)), (1, (0, r1)), (2, (0, y2))] [] [jzG_18, (100, [], jS0), jgh, jgh, jgh, jgh, jgh, jgh, jgh, jgh, jgh, jgh, jgh, jgh, jgh, jgh] b1 b2 Q := by
  rcases (show (0 ≤ (((Int32.ofInt r1 >>> (Int32.ofInt 5 &&& 31)).toInt) % 2) - 1) ∨ ((((Int32.ofInt r1 >>> (Int32.ofInt 5 &&& 31)).toInt) % 2) - 1 < 0) by omega) with g_0 | g_0
  · refine jT_xiload (v := (0, 5)) (pcN := 44) jIG_305_42 rfl rfl rfl ?_
    refine jT_xbipush (k := 8) (pcN := 46) jIG_305_44 (by decide) rfl ?_
    refine jT_xicF (t := 85) (pcN := 49) jIG_305_46 rfl (by decide +kernel) rfl rfl ?_
    refine jT_xiload_n (v := (0, 1)) (pcN := 50) jIG_305_49 rfl rfl rfl ?_
    refine jT_xifF (t := 77) (pcN := 53) jIG_305_50 rfl (by decide +kernel) rfl rfl ?_
    refine jT_xiload_n (v := (0, r1)) (pcN := 54) jIG_305_53 rfl rfl rfl ?_
    refine jT_xiload (v := (0, 5)) (pcN := 56) jIG_305_54 rfl rfl rfl ?_
    refine jT_fR [] 16 (y := 306) (pcN := 59) (dC := 2) (bc1 := 0) (bc2 := 0) (c1 := b1) (c2 := b2) (as := [(0, r1), (0, 5)]) (asC := [(0, r1), (0, 5)]) (LN := [(4, (0, 5)), (3, (0, 1)), (0, (4, 0)), (1, (0, r1)), (2, (0, y2))]) (stN := []) (hsC := []) (v := (0, 1)) (st2 := [(0, 1)]) (jG_306_65 (d := 0) (by omega) (by omega)) (by rfl) (by rfl) (by decide +kernel) (by rfl) (by rfl) (by omega) (by omega) (by omega) (by omega) rfl ?_
    refine jT_xifF (t := 73) (pcN := 62) jIG_305_59 rfl (by decide +kernel) rfl rfl ?_
    refine jT_xaload_n (v := (4, 0)) (pcN := 63) jIG_305_62 rfl rfl rfl ?_
    refine jT_xiload (v := (0, 5)) (pcN := 65) jIG_305_63 rfl rfl rfl ?_
    refine jT_xbipush (k := 100) (pcN := 67) jIG_305_65 (by decide) rfl ?_
    refine jT_fR [0, 1, 2, 3, 4, 5, 6, 7, 8, 9, 10, 11, 12, 13, 14, 15] 16 (y := 267) (pcN := 70) (dC := 1) (bc1 := 0) (bc2 := 0) (c1 := b1) (c2 := b2) (as := [(4, 0), (0, 5), (0, 100)]) (asC := [(4, 0), (0, 5), (0, 100)]) (LN := [(4, (0, 5)), (3, (0, 1)), (0, (4, 0)), (1, (0, r1)), (2, (0, y2))]) (stN := []) (hsC := jpG_156) (v := (0, 1)) (st2 := [(0, 1)]) (jG_267_66 (d := 0)) (by rfl) (by rfl) (by decide +kernel) (by rfl) (by rfl) (by omega) (by omega) (by omega) (by omega) rfl ?_
    refine jT_xifF (t := 77) (pcN := 73) jIG_305_70 rfl (by decide +kernel) rfl rfl ?_
    refine jT_xiconst (k := 1) (pcN := 74) jIG_305_73 rfl ?_
    refine jT_xgoto (pcN := 78) jIG_305_74 rfl ?_
    refine jT_xistore_n (v := (0, 1)) (LN := [(3, (0, 1)), (4, (0, 5)), (0, (4, 0)), (1, (0, r1)), (2, (0, y2))]) (pcN := 79) jIG_305_78 rfl rfl rfl rfl ?_
    refine jT_xiinc (x := 5) (z := 6) (LN := [(4, (0, 6)), (3, (0, 1)), (0, (4, 0)), (1, (0, r1)), (2, (0, y2))]) (pcN := 82) jIG_305_79 rfl rfl (by decide) rfl rfl ?_
    refine jT_xgoto (pcN := 42) jIG_305_82 rfl ?_
    refine jT_loc (LN := [(4, (0, 6)), (3, (0, 1)), (0, (4, 0)), (1, (0, r1)), (2, (0, y2))]) (by show List.Nodup [4, 3, 0, 1, 2]; decide) (by intro q hq; simp only [List.mem_cons, List.not_mem_nil, or_false] at hq; rcases hq with rfl | rfl | rfl | rfl | rfl <;> rfl) ?_
    exact jGl_ch_90_6 hd h_r1 h
  · refine jT_xiload (v := (0, 5)) (pcN := 44) jIG_305_42 rfl rfl rfl ?_
    refine jT_xbipush (k := 8) (pcN := 46) jIG_305_44 (by decide) rfl ?_
    refine jT_xicF (t := 85) (pcN := 49) jIG_305_46 rfl (by decide +kernel) rfl rfl ?_
    refine jT_xiload_n (v := (0, 1)) (pcN := 50) jIG_305_49 rfl rfl rfl ?_
    refine jT_xifF (t := 77) (pcN := 53) jIG_305_50 rfl (by decide +kernel) rfl rfl ?_
    refine jT_xiload_n (v := (0, r1)) (pcN := 54) jIG_305_53 rfl rfl rfl ?_
    refine jT_xiload (v := (0, 5)) (pcN := 56) jIG_305_54 rfl rfl rfl ?_
    refine jT_fR [] 16 (y := 306) (pcN := 59) (dC := 2) (bc1 := 0) (bc2 := 0) (c1 := b1) (c2 := b2) (as := [(0, r1), (0, 5)]) (asC := [(0, r1), (0, 5)]) (LN := [(4, (0, 5)), (3, (0, 1)), (0, (4, 0)), (1, (0, r1)), (2, (0, y2))]) (stN := []) (hsC := []) (v := (0, 0)) (st2 := [(0, 0)]) (jG_306_64 (d := 0) (by omega) (by omega)) (by rfl) (by rfl) (by decide +kernel) (by rfl) (by rfl) (by omega) (by omega) (by omega) (by omega) rfl ?_
    refine jT_xifT (pcN := 73) jIG_305_59 rfl (by decide +kernel) rfl ?_
    refine jT_xiconst (k := 1) (pcN := 74) jIG_305_73 rfl ?_
    refine jT_xgoto (pcN := 78) jIG_305_74 rfl ?_
    refine jT_xistore_n (v := (0, 1)) (LN := [(3, (0, 1)), (4, (0, 5)), (0, (4, 0)), (1, (0, r1)), (2, (0, y2))]) (pcN := 79) jIG_305_78 rfl rfl rfl rfl ?_
    refine jT_xiinc (x := 5) (z := 6) (LN := [(4, (0, 6)), (3, (0, 1)), (0, (4, 0)), (1, (0, r1)), (2, (0, y2))]) (pcN := 82) jIG_305_79 rfl rfl (by decide) rfl rfl ?_
    refine jT_xgoto (pcN := 42) jIG_305_82 rfl ?_
    refine jT_loc (LN := [(4, (0, 6)), (3, (0, 1)), (0, (4, 0)), (1, (0, r1)), (2, (0, y2))]) (by show List.Nodup [4, 3, 0, 1, 2]; decide) (by intro q hq; simp only [List.mem_cons, List.not_mem_nil, or_false] at hq; rcases hq with rfl | rfl | rfl | rfl | rfl <;> rfl) ?_
    exact jGl_ch_90_6 hd h_r1 h
theorem jGl_ch_90_4 {xs : List Int} {d b1 b2 : Nat} {Q : Nat → JV → List JC → Prop} (hd : 3 < d) {r1 y2 : Int} (h_r1 : 1 ≤ r1 ∧ r1 ≤ 255) (h : jT xs d 305 16 85 [(3, (0, 1)), (0, (4, 0)), (1, (0, r1)), (2, (0, y2))] [] [jzG_18, (100, [], jS0), jgh, jgh, jgh, jgh, jgh, jgh, jgh, jgh, jgh, jgh, jgh, jgh, jgh, jgh] b1 b2 Q) : jT xs d 305 16 42 [(4, (0, 4)), (3, (0, 1)), (0, (4, 0)), (1, (0, r1)), (2, (0, y2))] [] [jzG_18, (100, [], jS0), jgh, jgh, jgh, jgh, jgh, jgh, jgh, jgh, jgh, jgh, jgh, jgh, jgh, jgh] b1 b2 Q := by
  rcases (show (0 ≤ (((Int32.ofInt r1 >>> (Int32.ofInt 4 &&& 31)).toInt) % 2) - 1) ∨ ((((Int32.ofInt r1 >>> (Int32.ofInt 4 &&& 31)).toInt) % 2) - 1 < 0) by omega) with g_0 | g_0
  · refine jT_xiload (v := (0, 4)) (pcN := 44) jIG_305_42 rfl rfl rfl ?_
    refine jT_xbipush (k := 8) (pcN := 46) jIG_305_44 (by decide) rfl ?_
    refine jT_xicF (t := 85) (pcN := 49) jIG_305_46 rfl (by decide +kernel) rfl rfl ?_
    refine jT_xiload_n (v := (0, 1)) (pcN := 50) jIG_305_49 rfl rfl rfl ?_
    refine jT_xifF (t := 77) (pcN := 53) jIG_305_50 rfl (by decide +kernel) rfl rfl ?_
    refine jT_xiload_n (v := (0, r1)) (pcN := 54) jIG_305_53 rfl rfl rfl ?_
    refine jT_xiload (v := (0, 4)) (pcN := 56) jIG_305_54 rfl rfl rfl ?_
    refine jT_fR [] 16 (y := 306) (pcN := 59) (dC := 2) (bc1 := 0) (bc2 := 0) (c1 := b1) (c2 := b2) (as := [(0, r1), (0, 4)]) (asC := [(0, r1), (0, 4)]) (LN := [(4, (0, 4)), (3, (0, 1)), (0, (4, 0)), (1, (0, r1)), (2, (0, y2))]) (stN := []) (hsC := []) (v := (0, 1)) (st2 := [(0, 1)]) (jG_306_60 (d := 0) (by omega) (by omega)) (by rfl) (by rfl) (by decide +kernel) (by rfl) (by rfl) (by omega) (by omega) (by omega) (by omega) rfl ?_
    refine jT_xifF (t := 73) (pcN := 62) jIG_305_59 rfl (by decide +kernel) rfl rfl ?_
    refine jT_xaload_n (v := (4, 0)) (pcN := 63) jIG_305_62 rfl rfl rfl ?_
    refine jT_xiload (v := (0, 4)) (pcN := 65) jIG_305_63 rfl rfl rfl ?_
    refine jT_xbipush (k := 100) (pcN := 67) jIG_305_65 (by decide) rfl ?_
    refine jT_fR [0, 1, 2, 3, 4, 5, 6, 7, 8, 9, 10, 11, 12, 13, 14, 15] 16 (y := 267) (pcN := 70) (dC := 1) (bc1 := 0) (bc2 := 0) (c1 := b1) (c2 := b2) (as := [(4, 0), (0, 4), (0, 100)]) (asC := [(4, 0), (0, 4), (0, 100)]) (LN := [(4, (0, 4)), (3, (0, 1)), (0, (4, 0)), (1, (0, r1)), (2, (0, y2))]) (stN := []) (hsC := jpG_156) (v := (0, 1)) (st2 := [(0, 1)]) (jG_267_61 (d := 0)) (by rfl) (by rfl) (by decide +kernel) (by rfl) (by rfl) (by omega) (by omega) (by omega) (by omega) rfl ?_
    refine jT_xifF (t := 77) (pcN := 73) jIG_305_70 rfl (by decide +kernel) rfl rfl ?_
    refine jT_xiconst (k := 1) (pcN := 74) jIG_305_73 rfl ?_
    refine jT_xgoto (pcN := 78) jIG_305_74 rfl ?_
    refine jT_xistore_n (v := (0, 1)) (LN := [(3, (0, 1)), (4, (0, 4)), (0, (4, 0)), (1, (0, r1)), (2, (0, y2))]) (pcN := 79) jIG_305_78 rfl rfl rfl rfl ?_
    refine jT_xiinc (x := 4) (z := 5) (LN := [(4, (0, 5)), (3, (0, 1)), (0, (4, 0)), (1, (0, r1)), (2, (0, y2))]) (pcN := 82) jIG_305_79 rfl rfl (by decide) rfl rfl ?_
    refine jT_xgoto (pcN := 42) jIG_305_82 rfl ?_
    refine jT_loc (LN := [(4, (0, 5)), (3, (0, 1)), (0, (4, 0)), (1, (0, r1)), (2, (0, y2))]) (by show List.Nodup [4, 3, 0, 1, 2]; decide) (by intro q hq; simp only [List.mem_cons, List.not_mem_nil, or_false] at hq; rcases hq with rfl | rfl | rfl | rfl | rfl <;> rfl) ?_
    exact jGl_ch_90_5 hd h_r1 h
  · refine jT_xiload (v := (0, 4)) (pcN := 44) jIG_305_42 rfl rfl rfl ?_
    refine jT_xbipush (k := 8) (pcN := 46) jIG_305_44 (by decide) rfl ?_
    refine jT_xicF (t := 85) (pcN := 49) jIG_305_46 rfl (by decide +kernel) rfl rfl ?_
    refine jT_xiload_n (v := (0, 1)) (pcN := 50) jIG_305_49 rfl rfl rfl ?_
    refine jT_xifF (t := 77) (pcN := 53) jIG_305_50 rfl (by decide +kernel) rfl rfl ?_
    refine jT_xiload_n (v := (0, r1)) (pcN := 54) jIG_305_53 rfl rfl rfl ?_
    refine jT_xiload (v := (0, 4)) (pcN := 56) jIG_305_54 rfl rfl rfl ?_
    refine jT_fR [] 16 (y := 306) (pcN := 59) (dC := 2) (bc1 := 0) (bc2 := 0) (c1 := b1) (c2 := b2) (as := [(0, r1), (0, 4)]) (asC := [(0, r1), (0, 4)]) (LN := [(4, (0, 4)), (3, (0, 1)), (0, (4, 0)), (1, (0, r1)), (2, (0, y2))]) (stN := []) (hsC := []) (v := (0, 0)) (st2 := [(0, 0)]) (jG_306_59 (d := 0) (by omega) (by omega)) (by rfl) (by rfl) (by decide +kernel) (by rfl) (by rfl) (by omega) (by omega) (by omega) (by omega) rfl ?_
    refine jT_xifT (pcN := 73) jIG_305_59 rfl (by decide +kernel) rfl ?_
    refine jT_xiconst (k := 1) (pcN := 74) jIG_305_73 rfl ?_
    refine jT_xgoto (pcN := 78) jIG_305_74 rfl ?_
    refine jT_xistore_n (v := (0, 1)) (LN := [(3, (0, 1)), (4, (0, 4)), (0, (4, 0)), (1, (0, r1)), (2, (0, y2))]) (pcN := 79) jIG_305_78 rfl rfl rfl rfl ?_
    refine jT_xiinc (x := 4) (z := 5) (LN := [(4, (0, 5)), (3, (0, 1)), (0, (4, 0)), (1, (0, r1)), (2, (0, y2))]) (pcN := 82) jIG_305_79 rfl rfl (by decide) rfl rfl ?_
    refine jT_xgoto (pcN := 42) jIG_305_82 rfl ?_
    refine jT_loc (LN := [(4, (0, 5)), (3, (0, 1)), (0, (4, 0)), (1, (0, r1)), (2, (0, y2))]) (by show List.Nodup [4, 3, 0, 1, 2]; decide) (by intro q hq; simp only [List.mem_cons, List.not_mem_nil, or_false] at hq; rcases hq with rfl | rfl | rfl | rfl | rfl <;> rfl) ?_
    exact jGl_ch_90_5 hd h_r1 h
theorem jGl_ch_90_3 {xs : List Int} {d b1 b2 : Nat} {Q : Nat → JV → List JC → Prop} (hd : 3 < d) {r1 y2 : Int} (h_r1 : 1 ≤ r1 ∧ r1 ≤ 255) (h : jT xs d 305 16 85 [(3, (0, 1)), (0, (4, 0)), (1, (0, r1)), (2, (0, y2))] [] [jzG_18, (100, [], jS0), jgh, jgh, jgh, jgh, jgh, jgh, jgh, jgh, jgh, jgh, jgh, jgh, jgh, jgh] b1 b2 Q) : jT xs d 305 16 42 [(4, (0, 3)), (3, (0, 1)), (0, (4, 0)), (1, (0, r1)), (2, (0, y2))] [] [jzG_18, (100, [], jS0), jgh, jgh, jgh, jgh, jgh, jgh, jgh, jgh, jgh, jgh, jgh, jgh, jgh, jgh] b1 b2 Q := by
  rcases (show (0 ≤ (((Int32.ofInt r1 >>> (Int32.ofInt 3 &&& 31)).toInt) % 2) - 1) ∨ ((((Int32.ofInt r1 >>> (Int32.ofInt 3 &&& 31)).toInt) % 2) - 1 < 0) by omega) with g_0 | g_0
  · refine jT_xiload (v := (0, 3)) (pcN := 44) jIG_305_42 rfl rfl rfl ?_
    refine jT_xbipush (k := 8) (pcN := 46) jIG_305_44 (by decide) rfl ?_
    refine jT_xicF (t := 85) (pcN := 49) jIG_305_46 rfl (by decide +kernel) rfl rfl ?_
    refine jT_xiload_n (v := (0, 1)) (pcN := 50) jIG_305_49 rfl rfl rfl ?_
    refine jT_xifF (t := 77) (pcN := 53) jIG_305_50 rfl (by decide +kernel) rfl rfl ?_
    refine jT_xiload_n (v := (0, r1)) (pcN := 54) jIG_305_53 rfl rfl rfl ?_
    refine jT_xiload (v := (0, 3)) (pcN := 56) jIG_305_54 rfl rfl rfl ?_
    refine jT_fR [] 16 (y := 306) (pcN := 59) (dC := 2) (bc1 := 0) (bc2 := 0) (c1 := b1) (c2 := b2) (as := [(0, r1), (0, 3)]) (asC := [(0, r1), (0, 3)]) (LN := [(4, (0, 3)), (3, (0, 1)), (0, (4, 0)), (1, (0, r1)), (2, (0, y2))]) (stN := []) (hsC := []) (v := (0, 1)) (st2 := [(0, 1)]) (jG_306_55 (d := 0) (by omega) (by omega)) (by rfl) (by rfl) (by decide +kernel) (by rfl) (by rfl) (by omega) (by omega) (by omega) (by omega) rfl ?_
    refine jT_xifF (t := 73) (pcN := 62) jIG_305_59 rfl (by decide +kernel) rfl rfl ?_
    refine jT_xaload_n (v := (4, 0)) (pcN := 63) jIG_305_62 rfl rfl rfl ?_
    refine jT_xiload (v := (0, 3)) (pcN := 65) jIG_305_63 rfl rfl rfl ?_
    refine jT_xbipush (k := 100) (pcN := 67) jIG_305_65 (by decide) rfl ?_
    refine jT_fR [0, 1, 2, 3, 4, 5, 6, 7, 8, 9, 10, 11, 12, 13, 14, 15] 16 (y := 267) (pcN := 70) (dC := 1) (bc1 := 0) (bc2 := 0) (c1 := b1) (c2 := b2) (as := [(4, 0), (0, 3), (0, 100)]) (asC := [(4, 0), (0, 3), (0, 100)]) (LN := [(4, (0, 3)), (3, (0, 1)), (0, (4, 0)), (1, (0, r1)), (2, (0, y2))]) (stN := []) (hsC := jpG_156) (v := (0, 1)) (st2 := [(0, 1)]) (jG_267_56 (d := 0)) (by rfl) (by rfl) (by decide +kernel) (by rfl) (by rfl) (by omega) (by omega) (by omega) (by omega) rfl ?_
    refine jT_xifF (t := 77) (pcN := 73) jIG_305_70 rfl (by decide +kernel) rfl rfl ?_
    refine jT_xiconst (k := 1) (pcN := 74) jIG_305_73 rfl ?_
    refine jT_xgoto (pcN := 78) jIG_305_74 rfl ?_
    refine jT_xistore_n (v := (0, 1)) (LN := [(3, (0, 1)), (4, (0, 3)), (0, (4, 0)), (1, (0, r1)), (2, (0, y2))]) (pcN := 79) jIG_305_78 rfl rfl rfl rfl ?_
    refine jT_xiinc (x := 3) (z := 4) (LN := [(4, (0, 4)), (3, (0, 1)), (0, (4, 0)), (1, (0, r1)), (2, (0, y2))]) (pcN := 82) jIG_305_79 rfl rfl (by decide) rfl rfl ?_
    refine jT_xgoto (pcN := 42) jIG_305_82 rfl ?_
    refine jT_loc (LN := [(4, (0, 4)), (3, (0, 1)), (0, (4, 0)), (1, (0, r1)), (2, (0, y2))]) (by show List.Nodup [4, 3, 0, 1, 2]; decide) (by intro q hq; simp only [List.mem_cons, List.not_mem_nil, or_false] at hq; rcases hq with rfl | rfl | rfl | rfl | rfl <;> rfl) ?_
    exact jGl_ch_90_4 hd h_r1 h
  · refine jT_xiload (v := (0, 3)) (pcN := 44) jIG_305_42 rfl rfl rfl ?_
    refine jT_xbipush (k := 8) (pcN := 46) jIG_305_44 (by decide) rfl ?_
    refine jT_xicF (t := 85) (pcN := 49) jIG_305_46 rfl (by decide +kernel) rfl rfl ?_
    refine jT_xiload_n (v := (0, 1)) (pcN := 50) jIG_305_49 rfl rfl rfl ?_
    refine jT_xifF (t := 77) (pcN := 53) jIG_305_50 rfl (by decide +kernel) rfl rfl ?_
    refine jT_xiload_n (v := (0, r1)) (pcN := 54) jIG_305_53 rfl rfl rfl ?_
    refine jT_xiload (v := (0, 3)) (pcN := 56) jIG_305_54 rfl rfl rfl ?_
    refine jT_fR [] 16 (y := 306) (pcN := 59) (dC := 2) (bc1 := 0) (bc2 := 0) (c1 := b1) (c2 := b2) (as := [(0, r1), (0, 3)]) (asC := [(0, r1), (0, 3)]) (LN := [(4, (0, 3)), (3, (0, 1)), (0, (4, 0)), (1, (0, r1)), (2, (0, y2))]) (stN := []) (hsC := []) (v := (0, 0)) (st2 := [(0, 0)]) (jG_306_54 (d := 0) (by omega) (by omega)) (by rfl) (by rfl) (by decide +kernel) (by rfl) (by rfl) (by omega) (by omega) (by omega) (by omega) rfl ?_
    refine jT_xifT (pcN := 73) jIG_305_59 rfl (by decide +kernel) rfl ?_
    refine jT_xiconst (k := 1) (pcN := 74) jIG_305_73 rfl ?_
    refine jT_xgoto (pcN := 78) jIG_305_74 rfl ?_
    refine jT_xistore_n (v := (0, 1)) (LN := [(3, (0, 1)), (4, (0, 3)), (0, (4, 0)), (1, (0, r1)), (2, (0, y2))]) (pcN := 79) jIG_305_78 rfl rfl rfl rfl ?_
    refine jT_xiinc (x := 3) (z := 4) (LN := [(4, (0, 4)), (3, (0, 1)), (0, (4, 0)), (1, (0, r1)), (2, (0, y2))]) (pcN := 82) jIG_305_79 rfl rfl (by decide) rfl rfl ?_
    refine jT_xgoto (pcN := 42) jIG_305_82 rfl ?_
    refine jT_loc (LN := [(4, (0, 4)), (3, (0, 1)), (0, (4, 0)), (1, (0, r1)), (2, (0, y2))]) (by show List.Nodup [4, 3, 0, 1, 2]; decide) (by intro q hq; simp only [List.mem_cons, List.not_mem_nil, or_false] at hq; rcases hq with rfl | rfl | rfl | rfl | rfl <;> rfl) ?_
    exact jGl_ch_90_4 hd h_r1 h
theorem jGl_ch_90_2 {xs : List Int} {d b1 b2 : Nat} {Q : Nat → JV → List JC → Prop} (hd : 3 < d) {r1 y2 : Int} (h_r1 : 1 ≤ r1 ∧ r1 ≤ 255) (h : jT xs d 305 16 85 [(3, (0, 1)), (0, (4, 0)), (1, (0, r1)), (2, (0, y2))] [] [jzG_18, (100, [], jS0), jgh, jgh, jgh, jgh, jgh, jgh, jgh, jgh, jgh, jgh, jgh, jgh, jgh, jgh] b1 b2 Q) : jT xs d 305 16 42 [(4, (0, 2)), (3, (0, 1)), (0, (4, 0)), (1, (0, r1)), (2, (0, y2))] [] [jzG_18, (100, [], jS0), jgh, jgh, jgh, jgh, jgh, jgh, jgh, jgh, jgh, jgh, jgh, jgh, jgh, jgh] b1 b2 Q := by
  rcases (show (0 ≤ (((Int32.ofInt r1 >>> (Int32.ofInt 2 &&& 31)).toInt) % 2) - 1) ∨ ((((Int32.ofInt r1 >>> (Int32.ofInt 2 &&& 31)).toInt) % 2) - 1 < 0) by omega) with g_0 | g_0
  · refine jT_xiload (v := (0, 2)) (pcN := 44) jIG_305_42 rfl rfl rfl ?_
    refine jT_xbipush (k := 8) (pcN := 46) jIG_305_44 (by decide) rfl ?_
    refine jT_xicF (t := 85) (pcN := 49) jIG_305_46 rfl (by decide +kernel) rfl rfl ?_
    refine jT_xiload_n (v := (0, 1)) (pcN := 50) jIG_305_49 rfl rfl rfl ?_
    refine jT_xifF (t := 77) (pcN := 53) jIG_305_50 rfl (by decide +kernel) rfl rfl ?_
    refine jT_xiload_n (v := (0, r1)) (pcN := 54) jIG_305_53 rfl rfl rfl ?_
    refine jT_xiload (v := (0, 2)) (pcN := 56) jIG_305_54 rfl rfl rfl ?_
    refine jT_fR [] 16 (y := 306) (pcN := 59) (dC := 2) (bc1 := 0) (bc2 := 0) (c1 := b1) (c2 := b2) (as := [(0, r1), (0, 2)]) (asC := [(0, r1), (0, 2)]) (LN := [(4, (0, 2)), (3, (0, 1)), (0, (4, 0)), (1, (0, r1)), (2, (0, y2))]) (stN := []) (hsC := []) (v := (0, 1)) (st2 := [(0, 1)]) (jG_306_50 (d := 0) (by omega) (by omega)) (by rfl) (by rfl) (by decide +kernel) (by rfl) (by rfl) (by omega) (by omega) (by omega) (by omega) rfl ?_
    refine jT_xifF (t := 73) (pcN := 62) jIG_305_59 rfl (by decide +kernel) rfl rfl ?_
    refine jT_xaload_n (v := (4, 0)) (pcN := 63) jIG_305_62 rfl rfl rfl ?_
    refine jT_xiload (v := (0, 2)) (pcN := 65) jIG_305_63 rfl rfl rfl ?_
    refine jT_xbipush (k := 100) (pcN := 67) jIG_305_65 (by decide) rfl ?_
    refine jT_fR [0, 1, 2, 3, 4, 5, 6, 7, 8, 9, 10, 11, 12, 13, 14, 15] 16 (y := 267) (pcN := 70) (dC := 1) (bc1 := 0) (bc2 := 0) (c1 := b1) (c2 := b2) (as := [(4, 0), (0, 2), (0, 100)]) (asC := [(4, 0), (0, 2), (0, 100)]) (LN := [(4, (0, 2)), (3, (0, 1)), (0, (4, 0)), (1, (0, r1)), (2, (0, y2))]) (stN := []) (hsC := jpG_156) (v := (0, 1)) (st2 := [(0, 1)]) (jG_267_51 (d := 0)) (by rfl) (by rfl) (by decide +kernel) (by rfl) (by rfl) (by omega) (by omega) (by omega) (by omega) rfl ?_
    refine jT_xifF (t := 77) (pcN := 73) jIG_305_70 rfl (by decide +kernel) rfl rfl ?_
    refine jT_xiconst (k := 1) (pcN := 74) jIG_305_73 rfl ?_
    refine jT_xgoto (pcN := 78) jIG_305_74 rfl ?_
    refine jT_xistore_n (v := (0, 1)) (LN := [(3, (0, 1)), (4, (0, 2)), (0, (4, 0)), (1, (0, r1)), (2, (0, y2))]) (pcN := 79) jIG_305_78 rfl rfl rfl rfl ?_
    refine jT_xiinc (x := 2) (z := 3) (LN := [(4, (0, 3)), (3, (0, 1)), (0, (4, 0)), (1, (0, r1)), (2, (0, y2))]) (pcN := 82) jIG_305_79 rfl rfl (by decide) rfl rfl ?_
    refine jT_xgoto (pcN := 42) jIG_305_82 rfl ?_
    refine jT_loc (LN := [(4, (0, 3)), (3, (0, 1)), (0, (4, 0)), (1, (0, r1)), (2, (0, y2))]) (by show List.Nodup [4, 3, 0, 1, 2]; decide) (by intro q hq; simp only [List.mem_cons, List.not_mem_nil, or_false] at hq; rcases hq with rfl | rfl | rfl | rfl | rfl <;> rfl) ?_
    exact jGl_ch_90_3 hd h_r1 h
  · refine jT_xiload (v := (0, 2)) (pcN := 44) jIG_305_42 rfl rfl rfl ?_
    refine jT_xbipush (k := 8) (pcN := 46) jIG_305_44 (by decide) rfl ?_
    refine jT_xicF (t := 85) (pcN := 49) jIG_305_46 rfl (by decide +kernel) rfl rfl ?_
    refine jT_xiload_n (v := (0, 1)) (pcN := 50) jIG_305_49 rfl rfl rfl ?_
    refine jT_xifF (t := 77) (pcN := 53) jIG_305_50 rfl (by decide +kernel) rfl rfl ?_
    refine jT_xiload_n (v := (0, r1)) (pcN := 54) jIG_305_53 rfl rfl rfl ?_
    refine jT_xiload (v := (0, 2)) (pcN := 56) jIG_305_54 rfl rfl rfl ?_
    refine jT_fR [] 16 (y := 306) (pcN := 59) (dC := 2) (bc1 := 0) (bc2 := 0) (c1 := b1) (c2 := b2) (as := [(0, r1), (0, 2)]) (asC := [(0, r1), (0, 2)]) (LN := [(4, (0, 2)), (3, (0, 1)), (0, (4, 0)), (1, (0, r1)), (2, (0, y2))]) (stN := []) (hsC := []) (v := (0, 0)) (st2 := [(0, 0)]) (jG_306_49 (d := 0) (by omega) (by omega)) (by rfl) (by rfl) (by decide +kernel) (by rfl) (by rfl) (by omega) (by omega) (by omega) (by omega) rfl ?_
    refine jT_xifT (pcN := 73) jIG_305_59 rfl (by decide +kernel) rfl ?_
    refine jT_xiconst (k := 1) (pcN := 74) jIG_305_73 rfl ?_
    refine jT_xgoto (pcN := 78) jIG_305_74 rfl ?_
    refine jT_xistore_n (v := (0, 1)) (LN := [(3, (0, 1)), (4, (0, 2)), (0, (4, 0)), (1, (0, r1)), (2, (0, y2))]) (pcN := 79) jIG_305_78 rfl rfl rfl rfl ?_
    refine jT_xiinc (x := 2) (z := 3) (LN := [(4, (0, 3)), (3, (0, 1)), (0, (4, 0)), (1, (0, r1)), (2, (0, y2))]) (pcN := 82) jIG_305_79 rfl rfl (by decide) rfl rfl ?_
    refine jT_xgoto (pcN := 42) jIG_305_82 rfl ?_
    refine jT_loc (LN := [(4, (0, 3)), (3, (0, 1)), (0, (4, 0)), (1, (0, r1)), (2, (0, y2))]) (by show List.Nodup [4, 3, 0, 1, 2]; decide) (by intro q hq; simp only [List.mem_cons, List.not_mem_nil, or_false] at hq; rcases hq with rfl | rfl | rfl | rfl | rfl <;> rfl) ?_
    exact jGl_ch_90_3 hd h_r1 h
theorem jGl_ch_90_1 {xs : List Int} {d b1 b2 : Nat} {Q : Nat → JV → List JC → Prop} (hd : 3 < d) {r1 y2 : Int} (h_r1 : 1 ≤ r1 ∧ r1 ≤ 255) (h : jT xs d 305 16 85 [(3, (0, 1)), (0, (4, 0)), (1, (0, r1)), (2, (0, y2))] [] [jzG_18, (100, [], jS0), jgh, jgh, jgh, jgh, jgh, jgh, jgh, jgh, jgh, jgh, jgh, jgh, jgh, jgh] b1 b2 Q) : jT xs d 305 16 42 [(4, (0, 1)), (3, (0, 1)), (0, (4, 0)), (1, (0, r1)), (2, (0, y2))] [] [jzG_18, (100, [], jS0), jgh, jgh, jgh, jgh, jgh, jgh, jgh, jgh, jgh, jgh, jgh, jgh, jgh, jgh] b1 b2 Q := by
  rcases (show (0 ≤ (((Int32.ofInt r1 >>> (Int32.ofInt 1 &&& 31)).toInt) % 2) - 1) ∨ ((((Int32.ofInt r1 >>> (Int32.ofInt 1 &&& 31)).toInt) % 2) - 1 < 0) by omega) with g_0 | g_0
  · refine jT_xiload (v := (0, 1)) (pcN := 44) jIG_305_42 rfl rfl rfl ?_
    refine jT_xbipush (k := 8) (pcN := 46) jIG_305_44 (by decide) rfl ?_
    refine jT_xicF (t := 85) (pcN := 49) jIG_305_46 rfl (by decide +kernel) rfl rfl ?_
    refine jT_xiload_n (v := (0, 1)) (pcN := 50) jIG_305_49 rfl rfl rfl ?_
    refine jT_xifF (t := 77) (pcN := 53) jIG_305_50 rfl (by decide +kernel) rfl rfl ?_
    refine jT_xiload_n (v := (0, r1)) (pcN := 54) jIG_305_53 rfl rfl rfl ?_
    refine jT_xiload (v := (0, 1)) (pcN := 56) jIG_305_54 rfl rfl rfl ?_
    refine jT_fR [] 16 (y := 306) (pcN := 59) (dC := 2) (bc1 := 0) (bc2 := 0) (c1 := b1) (c2 := b2) (as := [(0, r1), (0, 1)]) (asC := [(0, r1), (0, 1)]) (LN := [(4, (0, 1)), (3, (0, 1)), (0, (4, 0)), (1, (0, r1)), (2, (0, y2))]) (stN := []) (hsC := []) (v := (0, 1)) (st2 := [(0, 1)]) (jG_306_45 (d := 0) (by omega) (by omega)) (by rfl) (by rfl) (by decide +kernel) (by rfl) (by rfl) (by omega) (by omega) (by omega) (by omega) rfl ?_
    refine jT_xifF (t := 73) (pcN := 62) jIG_305_59 rfl (by decide +kernel) rfl rfl ?_
    refine jT_xaload_n (v := (4, 0)) (pcN := 63) jIG_305_62 rfl rfl rfl ?_
    refine jT_xiload (v := (0, 1)) (pcN := 65) jIG_305_63 rfl rfl rfl ?_
    refine jT_xbipush (k := 100) (pcN := 67) jIG_305_65 (by decide) rfl ?_
    refine jT_fR [0, 1, 2, 3, 4, 5, 6, 7, 8, 9, 10, 11, 12, 13, 14, 15] 16 (y := 267) (pcN := 70) (dC := 1) (bc1 := 0) (bc2 := 0) (c1 := b1) (c2 := b2) (as := [(4, 0), (0, 1), (0, 100)]) (asC := [(4, 0), (0, 1), (0, 100)]) (LN := [(4, (0, 1)), (3, (0, 1)), (0, (4, 0)), (1, (0, r1)), (2, (0, y2))]) (stN := []) (hsC := jpG_156) (v := (0, 1)) (st2 := [(0, 1)]) (jG_267_46 (d := 0)) (by rfl) (by rfl) (by decide +kernel) (by rfl) (by rfl) (by omega) (by omega) (by omega) (by omega) rfl ?_
    refine jT_xifF (t := 77) (pcN := 73) jIG_305_70 rfl (by decide +kernel) rfl rfl ?_
    refine jT_xiconst (k := 1) (pcN := 74) jIG_305_73 rfl ?_
    refine jT_xgoto (pcN := 78) jIG_305_74 rfl ?_
    refine jT_xistore_n (v := (0, 1)) (LN := [(3, (0, 1)), (4, (0, 1)), (0, (4, 0)), (1, (0, r1)), (2, (0, y2))]) (pcN := 79) jIG_305_78 rfl rfl rfl rfl ?_
    refine jT_xiinc (x := 1) (z := 2) (LN := [(4, (0, 2)), (3, (0, 1)), (0, (4, 0)), (1, (0, r1)), (2, (0, y2))]) (pcN := 82) jIG_305_79 rfl rfl (by decide) rfl rfl ?_
    refine jT_xgoto (pcN := 42) jIG_305_82 rfl ?_
    refine jT_loc (LN := [(4, (0, 2)), (3, (0, 1)), (0, (4, 0)), (1, (0, r1)), (2, (0, y2))]) (by show List.Nodup [4, 3, 0, 1, 2]; decide) (by intro q hq; simp only [List.mem_cons, List.not_mem_nil, or_false] at hq; rcases hq with rfl | rfl | rfl | rfl | rfl <;> rfl) ?_
    exact jGl_ch_90_2 hd h_r1 h
  · refine jT_xiload (v := (0, 1)) (pcN := 44) jIG_305_42 rfl rfl rfl ?_
    refine jT_xbipush (k := 8) (pcN := 46) jIG_305_44 (by decide) rfl ?_
    refine jT_xicF (t := 85) (pcN := 49) jIG_305_46 rfl (by decide +kernel) rfl rfl ?_
    refine jT_xiload_n (v := (0, 1)) (pcN := 50) jIG_305_49 rfl rfl rfl ?_
    refine jT_xifF (t := 77) (pcN := 53) jIG_305_50 rfl (by decide +kernel) rfl rfl ?_
    refine jT_xiload_n (v := (0, r1)) (pcN := 54) jIG_305_53 rfl rfl rfl ?_
    refine jT_xiload (v := (0, 1)) (pcN := 56) jIG_305_54 rfl rfl rfl ?_
    refine jT_fR [] 16 (y := 306) (pcN := 59) (dC := 2) (bc1 := 0) (bc2 := 0) (c1 := b1) (c2 := b2) (as := [(0, r1), (0, 1)]) (asC := [(0, r1), (0, 1)]) (LN := [(4, (0, 1)), (3, (0, 1)), (0, (4, 0)), (1, (0, r1)), (2, (0, y2))]) (stN := []) (hsC := []) (v := (0, 0)) (st2 := [(0, 0)]) (jG_306_44 (d := 0) (by omega) (by omega)) (by rfl) (by rfl) (by decide +kernel) (by rfl) (by rfl) (by omega) (by omega) (by omega) (by omega) rfl ?_
    refine jT_xifT (pcN := 73) jIG_305_59 rfl (by decide +kernel) rfl ?_
    refine jT_xiconst (k := 1) (pcN := 74) jIG_305_73 rfl ?_
    refine jT_xgoto (pcN := 78) jIG_305_74 rfl ?_
    refine jT_xistore_n (v := (0, 1)) (LN := [(3, (0, 1)), (4, (0, 1)), (0, (4, 0)), (1, (0, r1)), (2, (0, y2))]) (pcN := 79) jIG_305_78 rfl rfl rfl rfl ?_
    refine jT_xiinc (x := 1) (z := 2) (LN := [(4, (0, 2)), (3, (0, 1)), (0, (4, 0)), (1, (0, r1)), (2, (0, y2))]) (pcN := 82) jIG_305_79 rfl rfl (by decide) rfl rfl ?_
    refine jT_xgoto (pcN := 42) jIG_305_82 rfl ?_
    refine jT_loc (LN := [(4, (0, 2)), (3, (0, 1)), (0, (4, 0)), (1, (0, r1)), (2, (0, y2))]) (by show List.Nodup [4, 3, 0, 1, 2]; decide) (by intro q hq; simp only [List.mem_cons, List.not_mem_nil, or_false] at hq; rcases hq with rfl | rfl | rfl | rfl | rfl <;> rfl) ?_
    exact jGl_ch_90_2 hd h_r1 h
theorem jGl_ch_90_0 {xs : List Int} {d b1 b2 : Nat} {Q : Nat → JV → List JC → Prop} (hd : 3 < d) {r1 y2 : Int} (h_r1 : 1 ≤ r1 ∧ r1 ≤ 255) (h : jT xs d 305 16 85 [(3, (0, 1)), (0, (4, 0)), (1, (0, r1)), (2, (0, y2))] [] [jzG_18, (100, [], jS0), jgh, jgh, jgh, jgh, jgh, jgh, jgh, jgh, jgh, jgh, jgh, jgh, jgh, jgh] b1 b2 Q) : jT xs d 305 16 42 [(4, (0, 0)), (3, (0, 1)), (0, (4, 0)), (1, (0, r1)), (2, (0, y2))] [] [jzG_18, (100, [], jS0), jgh, jgh, jgh, jgh, jgh, jgh, jgh, jgh, jgh, jgh, jgh, jgh, jgh, jgh] b1 b2 Q := by
  rcases (show (0 ≤ (((Int32.ofInt r1 >>> (Int32.ofInt 0 &&& 31)).toInt) % 2) - 1) ∨ ((((Int32.ofInt r1 >>> (Int32.ofInt 0 &&& 31)).toInt) % 2) - 1 < 0) by omega) with g_0 | g_0
  · refine jT_xiload (v := (0, 0)) (pcN := 44) jIG_305_42 rfl rfl rfl ?_
    refine jT_xbipush (k := 8) (pcN := 46) jIG_305_44 (by decide) rfl ?_
    refine jT_xicF (t := 85) (pcN := 49) jIG_305_46 rfl (by decide +kernel) rfl rfl ?_
    refine jT_xiload_n (v := (0, 1)) (pcN := 50) jIG_305_49 rfl rfl rfl ?_
    refine jT_xifF (t := 77) (pcN := 53) jIG_305_50 rfl (by decide +kernel) rfl rfl ?_
    refine jT_xiload_n (v := (0, r1)) (pcN := 54) jIG_305_53 rfl rfl rfl ?_
    refine jT_xiload (v := (0, 0)) (pcN := 56) jIG_305_54 rfl rfl rfl ?_
    refine jT_fR [] 16 (y := 306) (pcN := 59) (dC := 2) (bc1 := 0) (bc2 := 0) (c1 := b1) (c2 := b2) (as := [(0, r1), (0, 0)]) (asC := [(0, r1), (0, 0)]) (LN := [(4, (0, 0)), (3, (0, 1)), (0, (4, 0)), (1, (0, r1)), (2, (0, y2))]) (stN := []) (hsC := []) (v := (0, 1)) (st2 := [(0, 1)]) (jG_306_39 (d := 0) (by omega) (by omega)) (by rfl) (by rfl) (by decide +kernel) (by rfl) (by rfl) (by omega) (by omega) (by omega) (by omega) rfl ?_
    refine jT_xifF (t := 73) (pcN := 62) jIG_305_59 rfl (by decide +kernel) rfl rfl ?_
    refine jT_xaload_n (v := (4, 0)) (pcN := 63) jIG_305_62 rfl rfl rfl ?_
    refine jT_xiload (v := (0, 0)) (pcN := 65) jIG_305_63 rfl rfl rfl ?_
    refine jT_xbipush (k := 100) (pcN := 67) jIG_305_65 (by decide) rfl ?_
    refine jT_fR [0, 1, 2, 3, 4, 5, 6, 7, 8, 9, 10, 11, 12, 13, 14, 15] 16 (y := 267) (pcN := 70) (dC := 1) (bc1 := 0) (bc2 := 0) (c1 := b1) (c2 := b2) (as := [(4, 0), (0, 0), (0, 100)]) (asC := [(4, 0), (0, 0), (0, 100)]) (LN := [(4, (0, 0)), (3, (0, 1)), (0, (4, 0)), (1, (0, r1)), (2, (0, y2))]) (stN := []) (hsC := jpG_156) (v := (0, 1)) (st2 := [(0, 1)]) (jG_267_41 (d := 0)) (by rfl) (by rfl) (by decide +kernel) (by rfl) (by rfl) (by omega) (by omega) (by omega) (by omega) rfl ?_
    refine jT_xifF (t := 77) (pcN := 73) jIG_305_70 rfl (by decide +kernel) rfl rfl ?_
    refine jT_xiconst (k := 1) (pcN := 74) jIG_305_73 rfl ?_
    refine jT_xgoto (pcN := 78) jIG_305_74 rfl ?_
    refine jT_xistore_n (v := (0, 1)) (LN := [(3, (0, 1)), (4, (0, 0)), (0, (4, 0)), (1, (0, r1)), (2, (0, y2))]) (pcN := 79) jIG_305_78 rfl rfl rfl rfl ?_
    refine jT_xiinc (x := 0) (z := 1) (LN := [(4, (0, 1)), (3, (0, 1)), (0, (4, 0)), (1, (0, r1)), (2, (0, y2))]) (pcN := 82) jIG_305_79 rfl rfl (by decide) rfl rfl ?_
    refine jT_xgoto (pcN := 42) jIG_305_82 rfl ?_
    refine jT_loc (LN := [(4, (0, 1)), (3, (0, 1)), (0, (4, 0)), (1, (0, r1)), (2, (0, y2))]) (by show List.Nodup [4, 3, 0, 1, 2]; decide) (by intro q hq; simp only [List.mem_cons, List.not_mem_nil, or_false] at hq; rcases hq with rfl | rfl | rfl | rfl | rfl <;> rfl) ?_
    exact jGl_ch_90_1 hd h_r1 h
  · refine jT_xiload (v := (0, 0)) (pcN := 44) jIG_305_42 rfl rfl rfl ?_
    refine jT_xbipush (k := 8) (pcN := 46) jIG_305_44 (by decide) rfl ?_
    refine jT_xicF (t := 85) (pcN := 49) jIG_305_46 rfl (by decide +kernel) rfl rfl ?_
    refine jT_xiload_n (v := (0, 1)) (pcN := 50) jIG_305_49 rfl rfl rfl ?_
    refine jT_xifF (t := 77) (pcN := 53) jIG_305_50 rfl (by decide +kernel) rfl rfl ?_
    refine jT_xiload_n (v := (0, r1)) (pcN := 54) jIG_305_53 rfl rfl rfl ?_
    refine jT_xiload (v := (0, 0)) (pcN := 56) jIG_305_54 rfl rfl rfl ?_
    refine jT_fR [] 16 (y := 306) (pcN := 59) (dC := 2) (bc1 := 0) (bc2 := 0) (c1 := b1) (c2 := b2) (as := [(0, r1), (0, 0)]) (asC := [(0, r1), (0, 0)]) (LN := [(4, (0, 0)), (3, (0, 1)), (0, (4, 0)), (1, (0, r1)), (2, (0, y2))]) (stN := []) (hsC := []) (v := (0, 0)) (st2 := [(0, 0)]) (jG_306_38 (d := 0) (by omega) (by omega)) (by rfl) (by rfl) (by decide +kernel) (by rfl) (by rfl) (by omega) (by omega) (by omega) (by omega) rfl ?_
    refine jT_xifT (pcN := 73) jIG_305_59 rfl (by decide +kernel) rfl ?_
    refine jT_xiconst (k := 1) (pcN := 74) jIG_305_73 rfl ?_
    refine jT_xgoto (pcN := 78) jIG_305_74 rfl ?_
    refine jT_xistore_n (v := (0, 1)) (LN := [(3, (0, 1)), (4, (0, 0)), (0, (4, 0)), (1, (0, r1)), (2, (0, y2))]) (pcN := 79) jIG_305_78 rfl rfl rfl rfl ?_
    refine jT_xiinc (x := 0) (z := 1) (LN := [(4, (0, 1)), (3, (0, 1)), (0, (4, 0)), (1, (0, r1)), (2, (0, y2))]) (pcN := 82) jIG_305_79 rfl rfl (by decide) rfl rfl ?_
    refine jT_xgoto (pcN := 42) jIG_305_82 rfl ?_
    refine jT_loc (LN := [(4, (0, 1)), (3, (0, 1)), (0, (4, 0)), (1, (0, r1)), (2, (0, y2))]) (by show List.Nodup [4, 3, 0, 1, 2]; decide) (by intro q hq; simp only [List.mem_cons, List.not_mem_nil, or_false] at hq; rcases hq with rfl | rfl | rfl | rfl | rfl <;> rfl) ?_
    exact jGl_ch_90_1 hd h_r1 h
theorem jIG_305_85 : jmI (jm 305) 85 = (.lconst 1, 1) := by rfl
theorem jIG_305_86 : jmI (jm 305) 86 = (.lstore 4, 2) := by rfl
theorem jIG_305_88 : jmI (jm 305) 88 = (.iconst 0, 1) := by rfl
theorem jIG_305_89 : jmI (jm 305) 89 = (.istore 6, 2) := by rfl
theorem jIG_305_91 : jmI (jm 305) 91 = (.iload 6, 2) := by rfl
theorem jIG_305_93 : jmI (jm 305) 93 = (.bipush 6, 2) := by rfl
theorem jIG_305_95 : jmI (jm 305) 95 = (.if_icmp .ge 67, 3) := by rfl
theorem jIG_305_98 : jmI (jm 305) 98 = (.iload_n 3, 1) := by rfl
theorem jIG_305_99 : jmI (jm 305) 99 = (.ifCond .eq 63, 3) := by rfl
theorem jIG_305_102 : jmI (jm 305) 102 = (.aload_n 0, 1) := by rfl
theorem jIG_305_103 : jmI (jm 305) 103 = (.getfield 9, 3) := by rfl
theorem jIG_305_106 : jmI (jm 305) 106 = (.bipush 7, 2) := by rfl
theorem jIG_305_108 : jmI (jm 305) 108 = (.iload_n 2, 1) := by rfl
theorem jIG_305_109 : jmI (jm 305) 109 = (.imul, 1) := by rfl
theorem jIG_305_110 : jmI (jm 305) 110 = (.iload 6, 2) := by rfl
theorem jIG_305_112 : jmI (jm 305) 112 = (.iadd, 1) := by rfl
theorem jIG_305_113 : jmI (jm 305) 113 = (.iaload, 1) := by rfl
theorem jIG_305_114 : jmI (jm 305) 114 = (.aload_n 0, 1) := by rfl
theorem jIG_305_115 : jmI (jm 305) 115 = (.iload_n 1, 1) := by rfl
theorem jIG_305_116 : jmI (jm 305) 116 = (.iload 6, 2) := by rfl
theorem jIG_305_121 : jmI (jm 305) 121 = (.isub, 1) := by rfl
theorem jIG_305_122 : jmI (jm 305) 122 = (.istore 7, 2) := by rfl
theorem jIG_305_124 : jmI (jm 305) 124 = (.iload 7, 2) := by rfl
theorem jIG_305_126 : jmI (jm 305) 126 = (.ifCond .le 30, 3) := by rfl
theorem jIG_305_156 : jmI (jm 305) 156 = (.iinc 6 1, 3) := by rfl
theorem jIG_305_159 : jmI (jm 305) 159 = (.goto (-68), 3) := by rfl
theorem jIG_305_162 : jmI (jm 305) 162 = (.aload_n 0, 1) := by rfl
theorem jIG_305_163 : jmI (jm 305) 163 = (.iload_n 3, 1) := by rfl
theorem jIG_305_164 : jmI (jm 305) 164 = (.ifCond .eq 16, 3) := by rfl
theorem jIG_305_167 : jmI (jm 305) 167 = (.lload 4, 2) := by rfl
theorem jIG_305_173 : jmI (jm 305) 173 = (.ifCond .gt 7, 3) := by rfl
theorem jIG_305_176 : jmI (jm 305) 176 = (.iconst 1, 1) := by rfl
theorem jIG_305_177 : jmI (jm 305) 177 = (.goto 4, 3) := by rfl
theorem jIG_305_181 : jmI (jm 305) 181 = (.iconst 3, 1) := by rfl
theorem jIG_305_185 : jmI (jm 305) 185 = (.ifCond .eq 7, 3) := by rfl
theorem jIG_305_192 : jmI (jm 305) 192 = (.lload 4, 2) := by rfl
theorem jIG_305_194 : jmI (jm 305) 194 = (.l2i, 1) := by rfl
theorem jG_305_91 {xs : List Int} {d : Nat} {x1 x2 : Int} (h_x1 : 1 ≤ x1 ∧ x1 ≤ 255) (h_x2 : 0 ≤ x2 ∧ x2 ≤ 7) (g_0 : 0 ≤ (((Int32.ofInt x1 >>> (Int32.ofInt x2 &&& 31)).toInt) % 2) - 1) : jT xs (d + 5) 305 16 0 [(0, (4, 0)), (1, (0, x1)), (2, (0, x2))] [] jpG_156 0 0 (fun k v hsN => k = 0 ∧ v = (0, 1) ∧ hsN = jpG_156 ++ []) := by
  refine jT_xaload_n (v := (4, 0)) (pcN := 1) jIG_305_0 rfl rfl rfl ?_
  refine jT_xiconst (k := 0) (pcN := 2) jIG_305_1 rfl ?_
  refine jT_adv 1 (pcN := 5) (LN := [(0, (4, 0)), (1, (0, x1)), (2, (0, x2))]) (stN := []) (hsN := jpG_156) (c1 := 0) (s1 := 0) (c2 := 0) (s2 := 0) (by exact rfl) ?_ (by omega) (by omega)
  refine jT_xaload_n (v := (4, 0)) (pcN := 6) jIG_305_5 rfl rfl rfl ?_
  refine jT_xiload_n (v := (0, x1)) (pcN := 7) jIG_305_6 rfl rfl rfl ?_
  refine jT_xi2l (x := x1) (z := x1) (pcN := 8) jIG_305_7 rfl (jw_idd (by omega) (by omega)) rfl ?_
  refine jT_xlconst (z := 1) (pcN := 9) jIG_305_8 rfl rfl ?_
  refine jT_adv 1 (pcN := 12) (LN := [(0, (4, 0)), (1, (0, x1)), (2, (0, x2))]) (stN := [(1, 255), (1, 1), (1, x1), (4, 0)]) (hsN := jpG_156) (c1 := 0) (s1 := 0) (c2 := 0) (s2 := 0) (by exact rfl) ?_ (by omega) (by omega)
  refine jT_fR [] 16 (y := 189) (pcN := 15) (dC := 0) (bc1 := 0) (bc2 := 0) (c1 := 0) (c2 := 0) (as := [(1, x1), (1, 1), (1, 255)]) (asC := [(1, x1), (1, 1), (1, 255)]) (LN := [(0, (4, 0)), (1, (0, x1)), (2, (0, x2))]) (stN := [(4, 0)]) (hsC := []) (v := (0, 1)) (st2 := [(0, 1), (4, 0)]) (jT_in_ok (d := 0) (v := x1) (lo := 1) (hi := 255) (by omega) (by omega) (by omega) (by omega) (by omega)) (by rfl) (by rfl) (by decide +kernel) (by rfl) (by rfl) (by omega) (by omega) (by omega) (by omega) rfl ?_
  refine jT_xiconst (k := 1) (pcN := 16) jIG_305_15 rfl ?_
  refine jT_fR [0] 16 (y := 191) (pcN := 19) (dC := 0) (bc1 := 0) (bc2 := 0) (c1 := 0) (c2 := 0) (as := [(4, 0), (0, 1), (0, 1)]) (asC := [(4, 0), (0, 1), (0, 1)]) (LN := [(0, (4, 0)), (1, (0, x1)), (2, (0, x2))]) (stN := []) (hsC := [jgh]) (v := (0, 0)) (st2 := [(0, 0)]) (jG_191_11 (d := 0)) (by rfl) (by rfl) (by decide +kernel) (by rfl) (by rfl) (by omega) (by omega) (by omega) (by omega) rfl ?_
  refine jT_xifF (t := 35) (pcN := 22) jIG_305_19 rfl (by decide +kernel) rfl rfl ?_
  refine jT_xaload_n (v := (4, 0)) (pcN := 23) jIG_305_22 rfl rfl rfl ?_
  refine jT_xiload_n (v := (0, x1)) (pcN := 24) jIG_305_23 rfl rfl rfl ?_
  refine jT_xiload_n (v := (0, x2)) (pcN := 25) jIG_305_24 rfl rfl rfl ?_
  refine jT_fR [] 16 (y := 306) (pcN := 28) (dC := 2) (bc1 := 0) (bc2 := 0) (c1 := 0) (c2 := 0) (as := [(0, x1), (0, x2)]) (asC := [(0, x1), (0, x2)]) (LN := [(0, (4, 0)), (1, (0, x1)), (2, (0, x2))]) (stN := [(4, 0)]) (hsC := []) (v := (0, 1)) (st2 := [(0, 1), (4, 0)]) (jG_306_34 (d := 0) (by omega) (by omega) (by omega)) (by rfl) (by rfl) (by decide +kernel) (by rfl) (by rfl) (by omega) (by omega) (by omega) (by omega) rfl ?_
  refine jT_xiconst (k := 2) (pcN := 29) jIG_305_28 rfl ?_
  refine jT_fR [0] 16 (y := 191) (pcN := 32) (dC := 0) (bc1 := 0) (bc2 := 0) (c1 := 0) (c2 := 0) (as := [(4, 0), (0, 1), (0, 2)]) (asC := [(4, 0), (0, 1), (0, 2)]) (LN := [(0, (4, 0)), (1, (0, x1)), (2, (0, x2))]) (stN := []) (hsC := [jgh]) (v := (0, 0)) (st2 := [(0, 0)]) (jG_191_35 (d := 0)) (by rfl) (by rfl) (by decide +kernel) (by rfl) (by rfl) (by omega) (by omega) (by omega) (by omega) rfl ?_
  refine jT_xifT (pcN := 37) jIG_305_32 rfl (by decide +kernel) rfl ?_
  refine jT_xiconst (k := 1) (pcN := 38) jIG_305_37 rfl ?_
  refine jT_xistore_n (v := (0, 1)) (LN := [(3, (0, 1)), (0, (4, 0)), (1, (0, x1)), (2, (0, x2))]) (pcN := 39) jIG_305_38 rfl rfl rfl rfl ?_
  refine jT_xiconst (k := 0) (pcN := 40) jIG_305_39 rfl ?_
  refine jT_xistore (v := (0, 0)) (LN := [(4, (0, 0)), (3, (0, 1)), (0, (4, 0)), (1, (0, x1)), (2, (0, x2))]) (pcN := 42) jIG_305_40 rfl rfl rfl rfl ?_
  refine jT_loc (LN := [(4, (0, 0)), (3, (0, 1)), (0, (4, 0)), (1, (0, x1)), (2, (0, x2))]) (by show List.Nodup [4, 3, 0, 1, 2]; decide) (by intro q hq; simp only [List.mem_cons, List.not_mem_nil, or_false] at hq; rcases hq with rfl | rfl | rfl | rfl | rfl <;> rfl) ?_
  refine jGl_ch_90_0 (by omega) (r1 := x1) (by omega) ?_
  refine jT_xlconst (z := 1) (pcN := 86) jIG_305_85 rfl rfl ?_
  refine jT_xlstore (v := (1, 1)) (LN := [(4, (1, 1)), (3, (0, 1)), (0, (4, 0)), (1, (0, x1)), (2, (0, x2))]) (pcN := 88) jIG_305_86 rfl rfl rfl rfl ?_
  refine jT_xiconst (k := 0) (pcN := 89) jIG_305_88 rfl ?_
  refine jT_xistore (v := (0, 0)) (LN := [(6, (0, 0)), (4, (1, 1)), (3, (0, 1)), (0, (4, 0)), (1, (0, x1)), (2, (0, x2))]) (pcN := 91) jIG_305_89 rfl rfl rfl rfl ?_
  refine jT_xiload (v := (0, 0)) (pcN := 93) jIG_305_91 rfl rfl rfl ?_
  refine jT_xbipush (k := 6) (pcN := 95) jIG_305_93 (by decide) rfl ?_
  refine jT_xicF (t := 162) (pcN := 98) jIG_305_95 rfl (by decide +kernel) rfl rfl ?_
  refine jT_xiload_n (v := (0, 1)) (pcN := 99) jIG_305_98 rfl rfl rfl ?_
  refine jT_xifF (t := 162) (pcN := 102) jIG_305_99 rfl (by decide +kernel) rfl rfl ?_
  refine jT_xaload_n (v := (4, 0)) (pcN := 103) jIG_305_102 rfl rfl rfl ?_
  refine jT_xgetf (a := 0) (t := 1) (ci := 14) (fi := 1) (c := jzG_18) (v := (4, 1)) (pcN := 106) jIG_305_103 rfl rfl rfl rfl rfl rfl rfl ?_
  refine jT_xbipush (k := 7) (pcN := 108) jIG_305_106 (by decide) rfl ?_
  refine jT_xiload_n (v := (0, x2)) (pcN := 109) jIG_305_108 rfl rfl rfl ?_
  refine jT_ximul (x := 7) (y := x2) (z := 7 * x2) (pcN := 110) jIG_305_109 rfl (rfl) rfl ?_
  refine jT_xiload (v := (0, 0)) (pcN := 112) jIG_305_110 rfl rfl rfl ?_
  refine jT_xiadd (x := 7 * x2) (y := 0) (z := 7 * x2) (pcN := 113) jIG_305_112 rfl (by omega) rfl ?_
  refine jT_iald (x := 0) (a := 1) (j := (7 * x2).toNat) (fs := []) (X := jS0) (by rfl) (by rfl) (by rfl) (jw_nn (by omega) (by omega)) (jS0_r0 (by omega) (by omega)) ?_
  refine jT_eq (LN := [(6, (0, 0)), (4, (1, 1)), (3, (0, 1)), (0, (4, 0)), (1, (0, x1)), (2, (0, x2))]) (stN := [(0, 0)]) (hsN := jpG_156) rfl rfl rfl ?_
  refine jT_xaload_n (v := (4, 0)) (pcN := 115) jIG_305_114 rfl rfl rfl ?_
  refine jT_xiload_n (v := (0, x1)) (pcN := 116) jIG_305_115 rfl rfl rfl ?_
  refine jT_xiload (v := (0, 0)) (pcN := 118) jIG_305_116 rfl rfl rfl ?_
  refine jT_fR [0, 1, 2, 3, 4, 5, 6, 7, 8, 9, 10, 11, 12, 13, 14, 15] 16 (y := 307) (pcN := 121) (dC := 4) (bc1 := 0) (bc2 := 0) (c1 := 0) (c2 := 0) (as := [(4, 0), (0, x1), (0, 0)]) (asC := [(4, 0), (0, x1), (0, 0)]) (LN := [(6, (0, 0)), (4, (1, 1)), (3, (0, 1)), (0, (4, 0)), (1, (0, x1)), (2, (0, x2))]) (stN := [(0, 0)]) (hsC := jpG_156) (v := (0, jlw x1 [0, 1, 2, 3, 4, 5, 6, 7] 2147483647)) (st2 := [(0, jlw x1 [0, 1, 2, 3, 4, 5, 6, 7] 2147483647), (0, 0)]) (jG_307_78 (d := 0) (by omega)) (by rfl) (by rfl) (by decide +kernel) (by rfl) (by rfl) (by omega) (by omega) (by omega) (by omega) rfl ?_
  have hb_q1 := jlw_b (c := x1) (r := [0, 1, 2, 3, 4, 5, 6, 7]) (l := 2147483647) (by decide) (by decide)
  generalize hq_q1 : jlw x1 [0, 1, 2, 3, 4, 5, 6, 7] 2147483647 = q1 at hb_q1 ⊢
  refine jT_xisub (x := 0) (y := q1) (z := -q1) (pcN := 122) jIG_305_121 rfl (by omega) rfl ?_
  refine jT_xistore (v := (0, -q1)) (LN := [(7, (0, -q1)), (6, (0, 0)), (4, (1, 1)), (3, (0, 1)), (0, (4, 0)), (1, (0, x1)), (2, (0, x2))]) (pcN := 124) jIG_305_122 rfl rfl rfl rfl ?_
  refine jT_xiload (v := (0, -q1)) (pcN := 126) jIG_305_124 rfl rfl rfl ?_
  refine jT_ifT (a := -q1) (t := 156) (by rfl) (by rfl) (by rfl) (jw_idd (by omega) (by omega)) (by simp only [jcP] <;> omega) ?_
  refine jT_xiinc (x := 0) (z := 1) (LN := [(6, (0, 1)), (7, (0, -q1)), (4, (1, 1)), (3, (0, 1)), (0, (4, 0)), (1, (0, x1)), (2, (0, x2))]) (pcN := 159) jIG_305_156 rfl rfl (by decide) rfl rfl ?_
  refine jT_xgoto (pcN := 91) jIG_305_159 rfl ?_
  refine jT_xiload (v := (0, 1)) (pcN := 93) jIG_305_91 rfl rfl rfl ?_
  refine jT_xbipush (k := 6) (pcN := 95) jIG_305_93 (by decide) rfl ?_
  refine jT_xicF (t := 162) (pcN := 98) jIG_305_95 rfl (by decide +kernel) rfl rfl ?_
  refine jT_xiload_n (v := (0, 1)) (pcN := 99) jIG_305_98 rfl rfl rfl ?_
  refine jT_xifF (t := 162) (pcN := 102) jIG_305_99 rfl (by decide +kernel) rfl rfl ?_
  refine jT_xaload_n (v := (4, 0)) (pcN := 103) jIG_305_102 rfl rfl rfl ?_
  refine jT_xgetf (a := 0) (t := 1) (ci := 14) (fi := 1) (c := jzG_18) (v := (4, 1)) (pcN := 106) jIG_305_103 rfl rfl rfl rfl rfl rfl rfl ?_
  refine jT_xbipush (k := 7) (pcN := 108) jIG_305_106 (by decide) rfl ?_
  refine jT_xiload_n (v := (0, x2)) (pcN := 109) jIG_305_108 rfl rfl rfl ?_
  refine jT_ximul (x := 7) (y := x2) (z := 7 * x2) (pcN := 110) jIG_305_109 rfl (rfl) rfl ?_
  refine jT_xiload (v := (0, 1)) (pcN := 112) jIG_305_110 rfl rfl rfl ?_
  refine jT_xiadd (x := 7 * x2) (y := 1) (z := 7 * x2 + 1) (pcN := 113) jIG_305_112 rfl (by omega) rfl ?_
  refine jT_iald (x := 0) (a := 1) (j := (7 * x2 + 1).toNat) (fs := []) (X := jS0) (by rfl) (by rfl) (by rfl) (jw_nn (by omega) (by omega)) (jS0_r1 (by omega) (by omega)) ?_
  refine jT_eq (LN := [(6, (0, 1)), (7, (0, -q1)), (4, (1, 1)), (3, (0, 1)), (0, (4, 0)), (1, (0, x1)), (2, (0, x2))]) (stN := [(0, 0)]) (hsN := jpG_156) rfl rfl rfl ?_
  refine jT_xaload_n (v := (4, 0)) (pcN := 115) jIG_305_114 rfl rfl rfl ?_
  refine jT_xiload_n (v := (0, x1)) (pcN := 116) jIG_305_115 rfl rfl rfl ?_
  refine jT_xiload (v := (0, 1)) (pcN := 118) jIG_305_116 rfl rfl rfl ?_
  refine jT_fR [0, 1, 2, 3, 4, 5, 6, 7, 8, 9, 10, 11, 12, 13, 14, 15] 16 (y := 307) (pcN := 121) (dC := 4) (bc1 := 0) (bc2 := 0) (c1 := 0) (c2 := 0) (as := [(4, 0), (0, x1), (0, 1)]) (asC := [(4, 0), (0, x1), (0, 1)]) (LN := [(6, (0, 1)), (7, (0, -q1)), (4, (1, 1)), (3, (0, 1)), (0, (4, 0)), (1, (0, x1)), (2, (0, x2))]) (stN := [(0, 0)]) (hsC := jpG_156) (v := (0, jlw x1 [0, 1, 2, 3, 4, 5, 6, 7] 2147483647)) (st2 := [(0, jlw x1 [0, 1, 2, 3, 4, 5, 6, 7] 2147483647), (0, 0)]) (jG_307_80 (d := 0) (by omega)) (by rfl) (by rfl) (by decide +kernel) (by rfl) (by rfl) (by omega) (by omega) (by omega) (by omega) rfl ?_
  rw [hq_q1]
  refine jT_xisub (x := 0) (y := q1) (z := -q1) (pcN := 122) jIG_305_121 rfl (by omega) rfl ?_
  refine jT_xistore (v := (0, -q1)) (LN := [(7, (0, -q1)), (6, (0, 1)), (4, (1, 1)), (3, (0, 1)), (0, (4, 0)), (1, (0, x1)), (2, (0, x2))]) (pcN := 124) jIG_305_122 rfl rfl rfl rfl ?_
  refine jT_xiload (v := (0, -q1)) (pcN := 126) jIG_305_124 rfl rfl rfl ?_
  refine jT_ifT (a := -q1) (t := 156) (by rfl) (by rfl) (by rfl) (jw_idd (by omega) (by omega)) (by simp only [jcP] <;> omega) ?_
  refine jT_xiinc (x := 1) (z := 2) (LN := [(6, (0, 2)), (7, (0, -q1)), (4, (1, 1)), (3, (0, 1)), (0, (4, 0)), (1, (0, x1)), (2, (0, x2))]) (pcN := 159) jIG_305_156 rfl rfl (by decide) rfl rfl ?_
  refine jT_xgoto (pcN := 91) jIG_305_159 rfl ?_
  refine jT_xiload (v := (0, 2)) (pcN := 93) jIG_305_91 rfl rfl rfl ?_
  refine jT_xbipush (k := 6) (pcN := 95) jIG_305_93 (by decide) rfl ?_
  refine jT_xicF (t := 162) (pcN := 98) jIG_305_95 rfl (by decide +kernel) rfl rfl ?_
  refine jT_xiload_n (v := (0, 1)) (pcN := 99) jIG_305_98 rfl rfl rfl ?_
  refine jT_xifF (t := 162) (pcN := 102) jIG_305_99 rfl (by decide +kernel) rfl rfl ?_
  refine jT_xaload_n (v := (4, 0)) (pcN := 103) jIG_305_102 rfl rfl rfl ?_
  refine jT_xgetf (a := 0) (t := 1) (ci := 14) (fi := 1) (c := jzG_18) (v := (4, 1)) (pcN := 106) jIG_305_103 rfl rfl rfl rfl rfl rfl rfl ?_
  refine jT_xbipush (k := 7) (pcN := 108) jIG_305_106 (by decide) rfl ?_
  refine jT_xiload_n (v := (0, x2)) (pcN := 109) jIG_305_108 rfl rfl rfl ?_
  refine jT_ximul (x := 7) (y := x2) (z := 7 * x2) (pcN := 110) jIG_305_109 rfl (rfl) rfl ?_
  refine jT_xiload (v := (0, 2)) (pcN := 112) jIG_305_110 rfl rfl rfl ?_
  refine jT_xiadd (x := 7 * x2) (y := 2) (z := 7 * x2 + 2) (pcN := 113) jIG_305_112 rfl (by omega) rfl ?_
  refine jT_iald (x := 0) (a := 1) (j := (7 * x2 + 2).toNat) (fs := []) (X := jS0) (by rfl) (by rfl) (by rfl) (jw_nn (by omega) (by omega)) (jS0_r2 (by omega) (by omega)) ?_
  refine jT_eq (LN := [(6, (0, 2)), (7, (0, -q1)), (4, (1, 1)), (3, (0, 1)), (0, (4, 0)), (1, (0, x1)), (2, (0, x2))]) (stN := [(0, 0)]) (hsN := jpG_156) rfl rfl rfl ?_
  refine jT_xaload_n (v := (4, 0)) (pcN := 115) jIG_305_114 rfl rfl rfl ?_
  refine jT_xiload_n (v := (0, x1)) (pcN := 116) jIG_305_115 rfl rfl rfl ?_
  refine jT_xiload (v := (0, 2)) (pcN := 118) jIG_305_116 rfl rfl rfl ?_
  refine jT_fR [0, 1, 2, 3, 4, 5, 6, 7, 8, 9, 10, 11, 12, 13, 14, 15] 16 (y := 307) (pcN := 121) (dC := 4) (bc1 := 0) (bc2 := 0) (c1 := 0) (c2 := 0) (as := [(4, 0), (0, x1), (0, 2)]) (asC := [(4, 0), (0, x1), (0, 2)]) (LN := [(6, (0, 2)), (7, (0, -q1)), (4, (1, 1)), (3, (0, 1)), (0, (4, 0)), (1, (0, x1)), (2, (0, x2))]) (stN := [(0, 0)]) (hsC := jpG_156) (v := (0, jlw x1 [0, 1, 2, 3, 4, 5, 6, 7] 2147483647)) (st2 := [(0, jlw x1 [0, 1, 2, 3, 4, 5, 6, 7] 2147483647), (0, 0)]) (jG_307_82 (d := 0) (by omega)) (by rfl) (by rfl) (by decide +kernel) (by rfl) (by rfl) (by omega) (by omega) (by omega) (by omega) rfl ?_
  rw [hq_q1]
  refine jT_xisub (x := 0) (y := q1) (z := -q1) (pcN := 122) jIG_305_121 rfl (by omega) rfl ?_
  refine jT_xistore (v := (0, -q1)) (LN := [(7, (0, -q1)), (6, (0, 2)), (4, (1, 1)), (3, (0, 1)), (0, (4, 0)), (1, (0, x1)), (2, (0, x2))]) (pcN := 124) jIG_305_122 rfl rfl rfl rfl ?_
  refine jT_xiload (v := (0, -q1)) (pcN := 126) jIG_305_124 rfl rfl rfl ?_
  refine jT_ifT (a := -q1) (t := 156) (by rfl) (by rfl) (by rfl) (jw_idd (by omega) (by omega)) (by simp only [jcP] <;> omega) ?_
  refine jT_xiinc (x := 2) (z := 3) (LN := [(6, (0, 3)), (7, (0, -q1)), (4, (1, 1)), (3, (0, 1)), (0, (4, 0)), (1, (0, x1)), (2, (0, x2))]) (pcN := 159) jIG_305_156 rfl rfl (by decide) rfl rfl ?_
  refine jT_xgoto (pcN := 91) jIG_305_159 rfl ?_
  refine jT_xiload (v := (0, 3)) (pcN := 93) jIG_305_91 rfl rfl rfl ?_
  refine jT_xbipush (k := 6) (pcN := 95) jIG_305_93 (by decide) rfl ?_
  refine jT_xicF (t := 162) (pcN := 98) jIG_305_95 rfl (by decide +kernel) rfl rfl ?_
  refine jT_xiload_n (v := (0, 1)) (pcN := 99) jIG_305_98 rfl rfl rfl ?_
  refine jT_xifF (t := 162) (pcN := 102) jIG_305_99 rfl (by decide +kernel) rfl rfl ?_
  refine jT_xaload_n (v := (4, 0)) (pcN := 103) jIG_305_102 rfl rfl rfl ?_
  refine jT_xgetf (a := 0) (t := 1) (ci := 14) (fi := 1) (c := jzG_18) (v := (4, 1)) (pcN := 106) jIG_305_103 rfl rfl rfl rfl rfl rfl rfl ?_
  refine jT_xbipush (k := 7) (pcN := 108) jIG_305_106 (by decide) rfl ?_
  refine jT_xiload_n (v := (0, x2)) (pcN := 109) jIG_305_108 rfl rfl rfl ?_
  refine jT_ximul (x := 7) (y := x2) (z := 7 * x2) (pcN := 110) jIG_305_109 rfl (rfl) rfl ?_
  refine jT_xiload (v := (0, 3)) (pcN := 112) jIG_305_110 rfl rfl rfl ?_
  refine jT_xiadd (x := 7 * x2) (y := 3) (z := 7 * x2 + 3) (pcN := 113) jIG_305_112 rfl (by omega) rfl ?_
  refine jT_iald (x := 0) (a := 1) (j := (7 * x2 + 3).toNat) (fs := []) (X := jS0) (by rfl) (by rfl) (by rfl) (jw_nn (by omega) (by omega)) (jS0_r3 (by omega) (by omega)) ?_
  refine jT_eq (LN := [(6, (0, 3)), (7, (0, -q1)), (4, (1, 1)), (3, (0, 1)), (0, (4, 0)), (1, (0, x1)), (2, (0, x2))]) (stN := [(0, 0)]) (hsN := jpG_156) rfl rfl rfl ?_
  refine jT_xaload_n (v := (4, 0)) (pcN := 115) jIG_305_114 rfl rfl rfl ?_
  refine jT_xiload_n (v := (0, x1)) (pcN := 116) jIG_305_115 rfl rfl rfl ?_
  refine jT_xiload (v := (0, 3)) (pcN := 118) jIG_305_116 rfl rfl rfl ?_
  refine jT_fR [0, 1, 2, 3, 4, 5, 6, 7, 8, 9, 10, 11, 12, 13, 14, 15] 16 (y := 307) (pcN := 121) (dC := 4) (bc1 := 0) (bc2 := 0) (c1 := 0) (c2 := 0) (as := [(4, 0), (0, x1), (0, 3)]) (asC := [(4, 0), (0, x1), (0, 3)]) (LN := [(6, (0, 3)), (7, (0, -q1)), (4, (1, 1)), (3, (0, 1)), (0, (4, 0)), (1, (0, x1)), (2, (0, x2))]) (stN := [(0, 0)]) (hsC := jpG_156) (v := (0, jlw x1 [0, 1, 2, 3, 4, 5, 6, 7] 2147483647)) (st2 := [(0, jlw x1 [0, 1, 2, 3, 4, 5, 6, 7] 2147483647), (0, 0)]) (jG_307_84 (d := 0) (by omega)) (by rfl) (by rfl) (by decide +kernel) (by rfl) (by rfl) (by omega) (by omega) (by omega) (by omega) rfl ?_
  rw [hq_q1]
  refine jT_xisub (x := 0) (y := q1) (z := -q1) (pcN := 122) jIG_305_121 rfl (by omega) rfl ?_
  refine jT_xistore (v := (0, -q1)) (LN := [(7, (0, -q1)), (6, (0, 3)), (4, (1, 1)), (3, (0, 1)), (0, (4, 0)), (1, (0, x1)), (2, (0, x2))]) (pcN := 124) jIG_305_122 rfl rfl rfl rfl ?_
  refine jT_xiload (v := (0, -q1)) (pcN := 126) jIG_305_124 rfl rfl rfl ?_
  refine jT_ifT (a := -q1) (t := 156) (by rfl) (by rfl) (by rfl) (jw_idd (by omega) (by omega)) (by simp only [jcP] <;> omega) ?_
  refine jT_xiinc (x := 3) (z := 4) (LN := [(6, (0, 4)), (7, (0, -q1)), (4, (1, 1)), (3, (0, 1)), (0, (4, 0)), (1, (0, x1)), (2, (0, x2))]) (pcN := 159) jIG_305_156 rfl rfl (by decide) rfl rfl ?_
  refine jT_xgoto (pcN := 91) jIG_305_159 rfl ?_
  refine jT_xiload (v := (0, 4)) (pcN := 93) jIG_305_91 rfl rfl rfl ?_
  refine jT_xbipush (k := 6) (pcN := 95) jIG_305_93 (by decide) rfl ?_
  refine jT_xicF (t := 162) (pcN := 98) jIG_305_95 rfl (by decide +kernel) rfl rfl ?_
  refine jT_xiload_n (v := (0, 1)) (pcN := 99) jIG_305_98 rfl rfl rfl ?_
  refine jT_xifF (t := 162) (pcN := 102) jIG_305_99 rfl (by decide +kernel) rfl rfl ?_
  refine jT_xaload_n (v := (4, 0)) (pcN := 103) jIG_305_102 rfl rfl rfl ?_
  refine jT_xgetf (a := 0) (t := 1) (ci := 14) (fi := 1) (c := jzG_18) (v := (4, 1)) (pcN := 106) jIG_305_103 rfl rfl rfl rfl rfl rfl rfl ?_
  refine jT_xbipush (k := 7) (pcN := 108) jIG_305_106 (by decide) rfl ?_
  refine jT_xiload_n (v := (0, x2)) (pcN := 109) jIG_305_108 rfl rfl rfl ?_
  refine jT_ximul (x := 7) (y := x2) (z := 7 * x2) (pcN := 110) jIG_305_109 rfl (rfl) rfl ?_
  refine jT_xiload (v := (0, 4)) (pcN := 112) jIG_305_110 rfl rfl rfl ?_
  refine jT_xiadd (x := 7 * x2) (y := 4) (z := 7 * x2 + 4) (pcN := 113) jIG_305_112 rfl (by omega) rfl ?_
  refine jT_iald (x := 0) (a := 1) (j := (7 * x2 + 4).toNat) (fs := []) (X := jS0) (by rfl) (by rfl) (by rfl) (jw_nn (by omega) (by omega)) (jS0_r4 (by omega) (by omega)) ?_
  refine jT_eq (LN := [(6, (0, 4)), (7, (0, -q1)), (4, (1, 1)), (3, (0, 1)), (0, (4, 0)), (1, (0, x1)), (2, (0, x2))]) (stN := [(0, 0)]) (hsN := jpG_156) rfl rfl rfl ?_
  refine jT_xaload_n (v := (4, 0)) (pcN := 115) jIG_305_114 rfl rfl rfl ?_
  refine jT_xiload_n (v := (0, x1)) (pcN := 116) jIG_305_115 rfl rfl rfl ?_
  refine jT_xiload (v := (0, 4)) (pcN := 118) jIG_305_116 rfl rfl rfl ?_
  refine jT_fR [0, 1, 2, 3, 4, 5, 6, 7, 8, 9, 10, 11, 12, 13, 14, 15] 16 (y := 307) (pcN := 121) (dC := 4) (bc1 := 0) (bc2 := 0) (c1 := 0) (c2 := 0) (as := [(4, 0), (0, x1), (0, 4)]) (asC := [(4, 0), (0, x1), (0, 4)]) (LN := [(6, (0, 4)), (7, (0, -q1)), (4, (1, 1)), (3, (0, 1)), (0, (4, 0)), (1, (0, x1)), (2, (0, x2))]) (stN := [(0, 0)]) (hsC := jpG_156) (v := (0, jlw x1 [0, 1, 2, 3, 4, 5, 6, 7] 2147483647)) (st2 := [(0, jlw x1 [0, 1, 2, 3, 4, 5, 6, 7] 2147483647), (0, 0)]) (jG_307_86 (d := 0) (by omega)) (by rfl) (by rfl) (by decide +kernel) (by rfl) (by rfl) (by omega) (by omega) (by omega) (by omega) rfl ?_
  rw [hq_q1]
  refine jT_xisub (x := 0) (y := q1) (z := -q1) (pcN := 122) jIG_305_121 rfl (by omega) rfl ?_
  refine jT_xistore (v := (0, -q1)) (LN := [(7, (0, -q1)), (6, (0, 4)), (4, (1, 1)), (3, (0, 1)), (0, (4, 0)), (1, (0, x1)), (2, (0, x2))]) (pcN := 124) jIG_305_122 rfl rfl rfl rfl ?_
  refine jT_xiload (v := (0, -q1)) (pcN := 126) jIG_305_124 rfl rfl rfl ?_
  refine jT_ifT (a := -q1) (t := 156) (by rfl) (by rfl) (by rfl) (jw_idd (by omega) (by omega)) (by simp only [jcP] <;> omega) ?_
  refine jT_xiinc (x := 4) (z := 5) (LN := [(6, (0, 5)), (7, (0, -q1)), (4, (1, 1)), (3, (0, 1)), (0, (4, 0)), (1, (0, x1)), (2, (0, x2))]) (pcN := 159) jIG_305_156 rfl rfl (by decide) rfl rfl ?_
  refine jT_xgoto (pcN := 91) jIG_305_159 rfl ?_
  refine jT_xiload (v := (0, 5)) (pcN := 93) jIG_305_91 rfl rfl rfl ?_
  refine jT_xbipush (k := 6) (pcN := 95) jIG_305_93 (by decide) rfl ?_
  refine jT_xicF (t := 162) (pcN := 98) jIG_305_95 rfl (by decide +kernel) rfl rfl ?_
  refine jT_xiload_n (v := (0, 1)) (pcN := 99) jIG_305_98 rfl rfl rfl ?_
  refine jT_xifF (t := 162) (pcN := 102) jIG_305_99 rfl (by decide +kernel) rfl rfl ?_
  refine jT_xaload_n (v := (4, 0)) (pcN := 103) jIG_305_102 rfl rfl rfl ?_
  refine jT_xgetf (a := 0) (t := 1) (ci := 14) (fi := 1) (c := jzG_18) (v := (4, 1)) (pcN := 106) jIG_305_103 rfl rfl rfl rfl rfl rfl rfl ?_
  refine jT_xbipush (k := 7) (pcN := 108) jIG_305_106 (by decide) rfl ?_
  refine jT_xiload_n (v := (0, x2)) (pcN := 109) jIG_305_108 rfl rfl rfl ?_
  refine jT_ximul (x := 7) (y := x2) (z := 7 * x2) (pcN := 110) jIG_305_109 rfl (rfl) rfl ?_
  refine jT_xiload (v := (0, 5)) (pcN := 112) jIG_305_110 rfl rfl rfl ?_
  refine jT_xiadd (x := 7 * x2) (y := 5) (z := 7 * x2 + 5) (pcN := 113) jIG_305_112 rfl (by omega) rfl ?_
  refine jT_iald (x := 0) (a := 1) (j := (7 * x2 + 5).toNat) (fs := []) (X := jS0) (by rfl) (by rfl) (by rfl) (jw_nn (by omega) (by omega)) (jS0_r5 (by omega) (by omega)) ?_
  refine jT_eq (LN := [(6, (0, 5)), (7, (0, -q1)), (4, (1, 1)), (3, (0, 1)), (0, (4, 0)), (1, (0, x1)), (2, (0, x2))]) (stN := [(0, 0)]) (hsN := jpG_156) rfl rfl rfl ?_
  refine jT_xaload_n (v := (4, 0)) (pcN := 115) jIG_305_114 rfl rfl rfl ?_
  refine jT_xiload_n (v := (0, x1)) (pcN := 116) jIG_305_115 rfl rfl rfl ?_
  refine jT_xiload (v := (0, 5)) (pcN := 118) jIG_305_116 rfl rfl rfl ?_
  refine jT_fR [0, 1, 2, 3, 4, 5, 6, 7, 8, 9, 10, 11, 12, 13, 14, 15] 16 (y := 307) (pcN := 121) (dC := 4) (bc1 := 0) (bc2 := 0) (c1 := 0) (c2 := 0) (as := [(4, 0), (0, x1), (0, 5)]) (asC := [(4, 0), (0, x1), (0, 5)]) (LN := [(6, (0, 5)), (7, (0, -q1)), (4, (1, 1)), (3, (0, 1)), (0, (4, 0)), (1, (0, x1)), (2, (0, x2))]) (stN := [(0, 0)]) (hsC := jpG_156) (v := (0, jlw x1 [0, 1, 2, 3, 4, 5, 6, 7] 2147483647)) (st2 := [(0, jlw x1 [0, 1, 2, 3, 4, 5, 6, 7] 2147483647), (0, 0)]) (jG_307_88 (d := 0) (by omega)) (by rfl) (by rfl) (by decide +kernel) (by rfl) (by rfl) (by omega) (by omega) (by omega) (by omega) rfl ?_
  rw [hq_q1]
  refine jT_xisub (x := 0) (y := q1) (z := -q1) (pcN := 122) jIG_305_121 rfl (by omega) rfl ?_
  refine jT_xistore (v := (0, -q1)) (LN := [(7, (0, -q1)), (6, (0, 5)), (4, (1, 1)), (3, (0, 1)), (0, (4, 0)), (1, (0, x1)), (2, (0, x2))]) (pcN := 124) jIG_305_122 rfl rfl rfl rfl ?_
  refine jT_xiload (v := (0, -q1)) (pcN := 126) jIG_305_124 rfl rfl rfl ?_
  refine jT_ifT (a := -q1) (t := 156) (by rfl) (by rfl) (by rfl) (jw_idd (by omega) (by omega)) (by simp only [jcP] <;> omega) ?_
  refine jT_xiinc (x := 5) (z := 6) (LN := [(6, (0, 6)), (7, (0, -q1)), (4, (1, 1)), (3, (0, 1)), (0, (4, 0)), (1, (0, x1)), (2, (0, x2))]) (pcN := 159) jIG_305_156 rfl rfl (by decide) rfl rfl ?_
  refine jT_xgoto (pcN := 91) jIG_305_159 rfl ?_
  refine jT_xiload (v := (0, 6)) (pcN := 93) jIG_305_91 rfl rfl rfl ?_
  refine jT_xbipush (k := 6) (pcN := 95) jIG_305_93 (by decide) rfl ?_
  refine jT_xicT (pcN := 162) jIG_305_95 rfl (by decide +kernel) rfl ?_
  refine jT_xaload_n (v := (4, 0)) (pcN := 163) jIG_305_162 rfl rfl rfl ?_
  refine jT_xiload_n (v := (0, 1)) (pcN := 164) jIG_305_163 rfl rfl rfl ?_
  refine jT_xifF (t := 180) (pcN := 167) jIG_305_164 rfl (by decide +kernel) rfl rfl ?_
  refine jT_xlload (v := (1, 1)) (pcN := 169) jIG_305_167 rfl rfl rfl ?_
  refine jT_adv 1 (pcN := 172) (LN := [(6, (0, 6)), (7, (0, -q1)), (4, (1, 1)), (3, (0, 1)), (0, (4, 0)), (1, (0, x1)), (2, (0, x2))]) (stN := [(1, 2147483647), (1, 1), (4, 0)]) (hsN := jpG_156) (c1 := 0) (s1 := 0) (c2 := 0) (s2 := 0) (by exact rfl) ?_ (by omega) (by omega)
  refine jT_lcmp (a := 1) (b := 2147483647) (z := (-1)) (by rfl) (by rfl) (by decide +kernel) (by decide +kernel) (by decide) ?_
  refine jT_xifF (t := 180) (pcN := 176) jIG_305_173 rfl (by decide +kernel) rfl rfl ?_
  refine jT_xiconst (k := 1) (pcN := 177) jIG_305_176 rfl ?_
  refine jT_xgoto (pcN := 181) jIG_305_177 rfl ?_
  refine jT_xiconst (k := 3) (pcN := 182) jIG_305_181 rfl ?_
  refine jT_fR [0] 16 (y := 191) (pcN := 185) (dC := 0) (bc1 := 0) (bc2 := 0) (c1 := 0) (c2 := 0) (as := [(4, 0), (0, 1), (0, 3)]) (asC := [(4, 0), (0, 1), (0, 3)]) (LN := [(6, (0, 6)), (7, (0, -q1)), (4, (1, 1)), (3, (0, 1)), (0, (4, 0)), (1, (0, x1)), (2, (0, x2))]) (stN := []) (hsC := [jgh]) (v := (0, 0)) (st2 := [(0, 0)]) (jG_191_89 (d := 0)) (by rfl) (by rfl) (by decide +kernel) (by rfl) (by rfl) (by omega) (by omega) (by omega) (by omega) rfl ?_
  refine jT_xifT (pcN := 192) jIG_305_185 rfl (by decide +kernel) rfl ?_
  refine jT_xlload (v := (1, 1)) (pcN := 194) jIG_305_192 rfl rfl rfl ?_
  refine jT_xl2i (pcN := 195) jIG_305_194 rfl rfl ?_
  subst hq_q1
  exact jT_ret rfl (by decide) (by show 16 ≤ 16; omega) (by omega) (by omega) ⟨rfl, rfl, rfl⟩
theorem jG_186_92 {xs : List Int} {d : Nat} : jT xs d 186 16 0 [(0, (4, 0))] [] jpG_19 0 0 (fun k v hsN => k = 0 ∧ v = (0, 0) ∧ hsN = jpG_19 ++ []) := by
  refine jT_advK 2 (pcN := 4) (LN := [(0, (4, 0))]) (stN := [(0, 0)]) (hsN := jpG_19) (c1 := 0) (s1 := 0) (c2 := 0) (s2 := 0) (by decide +kernel) ?_ (by omega) (by omega)
  exact jT_ret rfl (by decide) (by show 16 ≤ 16; omega) (by omega) (by omega) ⟨rfl, rfl, rfl⟩
theorem jG_164_93 {xs : List Int} {d : Nat} {x1 x2 : Int} (h_x1 : 1 ≤ x1 ∧ x1 ≤ 255) (h_x2 : 0 ≤ x2 ∧ x2 ≤ 7) (g_0 : (((Int32.ofInt x1 >>> (Int32.ofInt x2 &&& 31)).toInt) % 2) - 1 < 0) : jT xs (d + 1) 164 12 0 [(0, (4, 0)), (1, (0, x1)), (2, (0, x2))] [] jpG_8 1 6 (fun k v hsN => k = 1 ∧ v = (0, 0) ∧ hsN = jpG_8 ++ []) := by
  refine jT_xaload_n (v := (4, 0)) (pcN := 1) jIG_164_0 rfl rfl rfl ?_
  refine jT_xiload_n (v := (0, x1)) (pcN := 2) jIG_164_1 rfl rfl rfl ?_
  refine jT_xiconst (k := 1) (pcN := 3) jIG_164_2 rfl ?_
  refine jT_xsipush (k := 255) (pcN := 6) jIG_164_3 (by decide) rfl ?_
  refine jT_fR [0] 12 (y := 116) (pcN := 9) (dC := 0) (bc1 := 0) (bc2 := 0) (c1 := 1) (c2 := 6) (as := [(4, 0), (0, x1), (0, 1), (0, 255)]) (asC := [(4, 0), (0, x1), (0, 1), (0, 255)]) (LN := [(0, (4, 0)), (1, (0, x1)), (2, (0, x2))]) (stN := []) (hsC := [jgh]) (v := (9, 0)) (st2 := []) (jG_116_7 (d := 0) (by omega)) (by rfl) (by rfl) (by decide +kernel) (by rfl) (by rfl) (by omega) (by omega) (by omega) (by omega) rfl ?_
  refine jT_xaload_n (v := (4, 0)) (pcN := 10) jIG_164_9 rfl rfl rfl ?_
  refine jT_xiload_n (v := (0, x2)) (pcN := 11) jIG_164_10 rfl rfl rfl ?_
  refine jT_xbipush (k := 8) (pcN := 13) jIG_164_11 (by decide) rfl ?_
  refine jT_fR [0] 12 (y := 115) (pcN := 16) (dC := 0) (bc1 := 0) (bc2 := 0) (c1 := 1) (c2 := 6) (as := [(4, 0), (0, x2), (0, 8)]) (asC := [(4, 0), (0, x2), (0, 8)]) (LN := [(0, (4, 0)), (1, (0, x1)), (2, (0, x2))]) (stN := []) (hsC := [jgh]) (v := (9, 0)) (st2 := []) (jG_115_17 (d := 0) (by omega)) (by rfl) (by rfl) (by decide +kernel) (by rfl) (by rfl) (by omega) (by omega) (by omega) (by omega) rfl ?_
  refine jT_xiload_n (v := (0, x1)) (pcN := 17) jIG_164_16 rfl rfl rfl ?_
  refine jT_xiload_n (v := (0, x2)) (pcN := 18) jIG_164_17 rfl rfl rfl ?_
  refine jT_ishr (x := x1) (y := x2) (z := (Int32.ofInt x1 >>> (Int32.ofInt x2 &&& 31)).toInt) (by rfl) (by rfl) rfl ?_
  have hb_q1 : (-2147483648) ≤ (Int32.ofInt x1 >>> (Int32.ofInt x2 &&& 31)).toInt ∧ (Int32.ofInt x1 >>> (Int32.ofInt x2 &&& 31)).toInt ≤ 2147483647 := ⟨Int32.le_toInt _, Int.le_of_lt_add_one (Int32.toInt_lt _)⟩
  generalize hq_q1 : (Int32.ofInt x1 >>> (Int32.ofInt x2 &&& 31)).toInt = q1 at hb_q1 g_0 ⊢
  refine jT_xiconst (k := 1) (pcN := 20) jIG_164_19 rfl ?_
  refine jT_iand (x := q1) (y := 1) (z := q1 % 2) (by rfl) (by rfl) (jiand_1 _) ?_
  have hb_q2 : 0 ≤ q1 % 2 ∧ q1 % 2 ≤ 1 := ⟨by omega, by omega⟩
  generalize hq_q2 : q1 % 2 = q2 at hb_q2 g_0 ⊢
  refine jT_ifF (a := q2) (t := 35) (by rfl) (by rfl) (by rfl) (jw_idd (by omega) (by omega)) (by simp only [jcP] <;> omega) ?_
  subst hq_q2
  subst hq_q1
  exact jT_ret (c1 := 1) (s1 := 6) rfl (by decide) (by show 12 ≤ 12; omega) (by omega) (by omega) ⟨rfl, rfl, rfl⟩
theorem jG_365_94 {xs : List Int} {d : Nat} {x1 x2 : Int} (h_x1 : 1 ≤ x1 ∧ x1 ≤ 255) (h_x2 : 0 ≤ x2 ∧ x2 ≤ 7) (g_0 : (((Int32.ofInt x1 >>> (Int32.ofInt x2 &&& 31)).toInt) % 2) - 1 < 0) : jT xs (d + 2) 365 13 0 [(0, (4, 0)), (1, (0, x1)), (2, (0, x2)), (3, (4, 1))] [] jpG_15 1 6 (fun k v hsN => k = 0 ∧ v = (0, 2) ∧ hsN = jpG_15 ++ []) := by
  refine jT_xaload_n (v := (4, 1)) (pcN := 1) jIG_365_0 rfl rfl rfl ?_
  refine jT_xiconst (k := 0) (pcN := 2) jIG_365_1 rfl ?_
  refine jT_xaload_n (v := (4, 0)) (pcN := 3) jIG_365_2 rfl rfl rfl ?_
  refine jT_xiload_n (v := (0, x1)) (pcN := 4) jIG_365_3 rfl rfl rfl ?_
  refine jT_xiload_n (v := (0, x2)) (pcN := 5) jIG_365_4 rfl rfl rfl ?_
  exact jT_fX [0, 2, 3, 4, 5, 6, 7, 8, 9, 10, 11, 12] 13 (y := 164) (pcN := 8) (dC := 1) (bc1 := 1) (bc2 := 6) (as := [(4, 0), (0, x1), (0, x2)]) (asC := [(4, 0), (0, x1), (0, x2)]) (LN := [(0, (4, 0)), (1, (0, x1)), (2, (0, x2)), (3, (4, 1))]) (stN := [(0, 0), (4, 1)]) (hsC := jpG_8) (e := 0) (jG_164_93 (d := 0) (by omega) (by omega) (by omega)) (by rfl) (by rfl) (by decide +kernel) (by rfl) (by rfl) (by omega) (by omega) (by omega) (by omega) (show _ from ⟨rfl, rfl, rfl⟩)
theorem jG_306_95 {xs : List Int} {d : Nat} {x1 x2 : Int} (h_x1 : 1 ≤ x1 ∧ x1 ≤ 255) (h_x2 : 0 ≤ x2 ∧ x2 ≤ 7) (g_0 : (((Int32.ofInt x1 >>> (Int32.ofInt x2 &&& 31)).toInt) % 2) - 1 < 0) : jT xs (d + 2) 306 0 0 [(0, (0, x1)), (1, (0, x2))] [] [] 0 0 (fun k v hsN => k = 0 ∧ v = (0, 0) ∧ hsN = [] ++ []) := by
  refine jT_xiload_n (v := (0, x2)) (pcN := 1) jIG_306_0 rfl rfl rfl ?_
  refine jT_fR [] 0 (y := 188) (pcN := 4) (dC := 1) (bc1 := 0) (bc2 := 0) (c1 := 0) (c2 := 0) (as := [(0, x2)]) (asC := [(0, x2)]) (LN := [(0, (0, x1)), (1, (0, x2))]) (stN := []) (hsC := []) (v := (0, 1)) (st2 := [(0, 1)]) (jG_188_33 (d := 0) (by omega)) (by rfl) (by rfl) (by decide +kernel) (by rfl) (by rfl) (by omega) (by omega) (by omega) (by omega) rfl ?_
  refine jT_xifF (t := 20) (pcN := 7) jIG_306_4 rfl (by decide +kernel) rfl rfl ?_
  refine jT_xiload_n (v := (0, x1)) (pcN := 8) jIG_306_7 rfl rfl rfl ?_
  refine jT_xiload_n (v := (0, x2)) (pcN := 9) jIG_306_8 rfl rfl rfl ?_
  refine jT_ishr (x := x1) (y := x2) (z := (Int32.ofInt x1 >>> (Int32.ofInt x2 &&& 31)).toInt) (by rfl) (by rfl) rfl ?_
  have hb_q1 : (-2147483648) ≤ (Int32.ofInt x1 >>> (Int32.ofInt x2 &&& 31)).toInt ∧ (Int32.ofInt x1 >>> (Int32.ofInt x2 &&& 31)).toInt ≤ 2147483647 := ⟨Int32.le_toInt _, Int.le_of_lt_add_one (Int32.toInt_lt _)⟩
  generalize hq_q1 : (Int32.ofInt x1 >>> (Int32.ofInt x2 &&& 31)).toInt = q1 at hb_q1 g_0 ⊢
  refine jT_xiconst (k := 1) (pcN := 11) jIG_306_10 rfl ?_
  refine jT_iand (x := q1) (y := 1) (z := q1 % 2) (by rfl) (by rfl) (jiand_1 _) ?_
  have hb_q2 : 0 ≤ q1 % 2 ∧ q1 % 2 ≤ 1 := ⟨by omega, by omega⟩
  generalize hq_q2 : q1 % 2 = q2 at hb_q2 g_0 ⊢
  refine jT_xiconst (k := 1) (pcN := 13) jIG_306_12 rfl ?_
  refine jT_icT (a := q2) (b := 1) (t := 20) (by rfl) (by rfl) (by rfl) (jw_idd (by omega) (by omega)) (jw_idd (by omega) (by omega)) (by simp only [jcP] <;> omega) ?_
  refine jT_xiconst (k := 0) (pcN := 21) jIG_306_20 rfl ?_
  subst hq_q2
  subst hq_q1
  exact jT_ret rfl (by decide) (by show 0 ≤ 0; omega) (by omega) (by omega) ⟨rfl, rfl, rfl⟩
theorem jG_305_96 {xs : List Int} {d : Nat} {x1 x2 : Int} (h_x1 : 1 ≤ x1 ∧ x1 ≤ 255) (h_x2 : 0 ≤ x2 ∧ x2 ≤ 7) (g_0 : (((Int32.ofInt x1 >>> (Int32.ofInt x2 &&& 31)).toInt) % 2) - 1 < 0) : jT xs (d + 3) 305 16 0 [(0, (4, 0)), (1, (0, x1)), (2, (0, x2))] [] jpG_19 0 0 (fun k v hsN => k = 0 ∧ v = (0, 0) ∧ hsN = jpG_44) := by
  refine jT_xaload_n (v := (4, 0)) (pcN := 1) jIG_305_0 rfl rfl rfl ?_
  refine jT_xiconst (k := 0) (pcN := 2) jIG_305_1 rfl ?_
  refine jT_adv 1 (pcN := 5) (LN := [(0, (4, 0)), (1, (0, x1)), (2, (0, x2))]) (stN := []) (hsN := jpG_19) (c1 := 0) (s1 := 0) (c2 := 0) (s2 := 0) (by exact rfl) ?_ (by omega) (by omega)
  refine jT_xaload_n (v := (4, 0)) (pcN := 6) jIG_305_5 rfl rfl rfl ?_
  refine jT_xiload_n (v := (0, x1)) (pcN := 7) jIG_305_6 rfl rfl rfl ?_
  refine jT_xi2l (x := x1) (z := x1) (pcN := 8) jIG_305_7 rfl (jw_idd (by omega) (by omega)) rfl ?_
  refine jT_xlconst (z := 1) (pcN := 9) jIG_305_8 rfl rfl ?_
  refine jT_adv 1 (pcN := 12) (LN := [(0, (4, 0)), (1, (0, x1)), (2, (0, x2))]) (stN := [(1, 255), (1, 1), (1, x1), (4, 0)]) (hsN := jpG_19) (c1 := 0) (s1 := 0) (c2 := 0) (s2 := 0) (by exact rfl) ?_ (by omega) (by omega)
  refine jT_fR [] 16 (y := 189) (pcN := 15) (dC := 0) (bc1 := 0) (bc2 := 0) (c1 := 0) (c2 := 0) (as := [(1, x1), (1, 1), (1, 255)]) (asC := [(1, x1), (1, 1), (1, 255)]) (LN := [(0, (4, 0)), (1, (0, x1)), (2, (0, x2))]) (stN := [(4, 0)]) (hsC := []) (v := (0, 1)) (st2 := [(0, 1), (4, 0)]) (jT_in_ok (d := 0) (v := x1) (lo := 1) (hi := 255) (by omega) (by omega) (by omega) (by omega) (by omega)) (by rfl) (by rfl) (by decide +kernel) (by rfl) (by rfl) (by omega) (by omega) (by omega) (by omega) rfl ?_
  refine jT_xiconst (k := 1) (pcN := 16) jIG_305_15 rfl ?_
  refine jT_fR [0] 16 (y := 191) (pcN := 19) (dC := 0) (bc1 := 0) (bc2 := 0) (c1 := 0) (c2 := 0) (as := [(4, 0), (0, 1), (0, 1)]) (asC := [(4, 0), (0, 1), (0, 1)]) (LN := [(0, (4, 0)), (1, (0, x1)), (2, (0, x2))]) (stN := []) (hsC := [jgh]) (v := (0, 0)) (st2 := [(0, 0)]) (jG_191_11 (d := 0)) (by rfl) (by rfl) (by decide +kernel) (by rfl) (by rfl) (by omega) (by omega) (by omega) (by omega) rfl ?_
  refine jT_xifF (t := 35) (pcN := 22) jIG_305_19 rfl (by decide +kernel) rfl rfl ?_
  refine jT_xaload_n (v := (4, 0)) (pcN := 23) jIG_305_22 rfl rfl rfl ?_
  refine jT_xiload_n (v := (0, x1)) (pcN := 24) jIG_305_23 rfl rfl rfl ?_
  refine jT_xiload_n (v := (0, x2)) (pcN := 25) jIG_305_24 rfl rfl rfl ?_
  refine jT_fR [] 16 (y := 306) (pcN := 28) (dC := 2) (bc1 := 0) (bc2 := 0) (c1 := 0) (c2 := 0) (as := [(0, x1), (0, x2)]) (asC := [(0, x1), (0, x2)]) (LN := [(0, (4, 0)), (1, (0, x1)), (2, (0, x2))]) (stN := [(4, 0)]) (hsC := []) (v := (0, 0)) (st2 := [(0, 0), (4, 0)]) (jG_306_95 (d := 0) (by omega) (by omega) (by omega)) (by rfl) (by rfl) (by decide +kernel) (by rfl) (by rfl) (by omega) (by omega) (by omega) (by omega) rfl ?_
  refine jT_xiconst (k := 2) (pcN := 29) jIG_305_28 rfl ?_
  refine jT_fB [0, 1, 2, 3, 4, 5, 6, 7, 8, 9, 10, 11, 12, 13, 14, 15] 16 (y := 191) (pcN := 32) (dC := 0) (bc1 := 0) (bc2 := 0) (c1 := 0) (c2 := 0) (as := [(4, 0), (0, 0), (0, 2)]) (asC := [(4, 0), (0, 0), (0, 2)]) (LN := [(0, (4, 0)), (1, (0, x1)), (2, (0, x2))]) (stN := []) (hsC := jpG_19) (hsD := jpG_44) (v := (0, 1)) (st2 := [(0, 1)]) (hs2 := jpG_44) (jG_191_14 (d := 0)) (by rfl) (by rfl) (by decide +kernel) (by rfl) (by rfl) (by omega) (by omega) (by omega) (by omega) rfl (by decide +kernel) ?_
  refine jT_xifF (t := 37) (pcN := 35) jIG_305_32 rfl (by decide +kernel) rfl rfl ?_
  refine jT_xiconst (k := 0) (pcN := 36) jIG_305_35 rfl ?_
  exact jT_ret rfl (by decide) (by show 16 ≤ 16; omega) (by omega) (by omega) ⟨rfl, rfl, rfl⟩
theorem jG_115_97 {xs : List Int} {d : Nat} {x2 : Int} (h_x2 : 8 ≤ x2 ∧ x2 ≤ 2147483647) : jT xs d 115 1 0 [(0, (4, 0)), (1, (0, x2)), (2, (0, 8))] [] [jgh] 1 6 (fun k v hsN => k = 1 ∧ v = (0, 0) ∧ hsN = [jgh] ++ []) := by
  refine jT_xiload_n (v := (0, x2)) (pcN := 1) jIG_115_0 rfl rfl rfl ?_
  refine jT_ifF (a := x2) (t := 9) (by rfl) (by rfl) (by rfl) (jw_idd (by omega) (by omega)) (by simp only [jcP] <;> omega) ?_
  refine jT_xiload_n (v := (0, x2)) (pcN := 5) jIG_115_4 rfl rfl rfl ?_
  refine jT_xiload_n (v := (0, 8)) (pcN := 6) jIG_115_5 rfl rfl rfl ?_
  refine jT_icF (a := x2) (b := 8) (t := 20) (by rfl) (by rfl) (by rfl) (jw_idd (by omega) (by omega)) (jw_idd (by omega) (by omega)) (by simp only [jcP] <;> omega) ?_
  exact jT_ret (c1 := 1) (s1 := 6) rfl (by decide) (by show 1 ≤ 1; omega) (by omega) (by omega) ⟨rfl, rfl, rfl⟩
theorem jG_164_98 {xs : List Int} {d : Nat} {x1 x2 : Int} (h_x1 : 1 ≤ x1 ∧ x1 ≤ 255) (h_x2 : 8 ≤ x2 ∧ x2 ≤ 2147483647) : jT xs (d + 1) 164 12 0 [(0, (4, 0)), (1, (0, x1)), (2, (0, x2))] [] jpG_8 1 6 (fun k v hsN => k = 1 ∧ v = (0, 0) ∧ hsN = jpG_8 ++ []) := by
  refine jT_xaload_n (v := (4, 0)) (pcN := 1) jIG_164_0 rfl rfl rfl ?_
  refine jT_xiload_n (v := (0, x1)) (pcN := 2) jIG_164_1 rfl rfl rfl ?_
  refine jT_xiconst (k := 1) (pcN := 3) jIG_164_2 rfl ?_
  refine jT_xsipush (k := 255) (pcN := 6) jIG_164_3 (by decide) rfl ?_
  refine jT_fR [0] 12 (y := 116) (pcN := 9) (dC := 0) (bc1 := 0) (bc2 := 0) (c1 := 1) (c2 := 6) (as := [(4, 0), (0, x1), (0, 1), (0, 255)]) (asC := [(4, 0), (0, x1), (0, 1), (0, 255)]) (LN := [(0, (4, 0)), (1, (0, x1)), (2, (0, x2))]) (stN := []) (hsC := [jgh]) (v := (9, 0)) (st2 := []) (jG_116_7 (d := 0) (by omega)) (by rfl) (by rfl) (by decide +kernel) (by rfl) (by rfl) (by omega) (by omega) (by omega) (by omega) rfl ?_
  refine jT_xaload_n (v := (4, 0)) (pcN := 10) jIG_164_9 rfl rfl rfl ?_
  refine jT_xiload_n (v := (0, x2)) (pcN := 11) jIG_164_10 rfl rfl rfl ?_
  refine jT_xbipush (k := 8) (pcN := 13) jIG_164_11 (by decide) rfl ?_
  exact jT_fX [0] 12 (y := 115) (pcN := 16) (dC := 0) (bc1 := 1) (bc2 := 6) (as := [(4, 0), (0, x2), (0, 8)]) (asC := [(4, 0), (0, x2), (0, 8)]) (LN := [(0, (4, 0)), (1, (0, x1)), (2, (0, x2))]) (stN := []) (hsC := [jgh]) (e := 0) (jG_115_97 (d := 0) (by omega)) (by rfl) (by rfl) (by decide +kernel) (by rfl) (by rfl) (by omega) (by omega) (by omega) (by omega) ⟨rfl, ⟨rfl, rfl, rfl⟩⟩
theorem jG_365_99 {xs : List Int} {d : Nat} {x1 x2 : Int} (h_x1 : 1 ≤ x1 ∧ x1 ≤ 255) (h_x2 : 8 ≤ x2 ∧ x2 ≤ 2147483647) : jT xs (d + 2) 365 13 0 [(0, (4, 0)), (1, (0, x1)), (2, (0, x2)), (3, (4, 1))] [] jpG_15 1 6 (fun k v hsN => k = 0 ∧ v = (0, 2) ∧ hsN = jpG_15 ++ []) := by
  refine jT_xaload_n (v := (4, 1)) (pcN := 1) jIG_365_0 rfl rfl rfl ?_
  refine jT_xiconst (k := 0) (pcN := 2) jIG_365_1 rfl ?_
  refine jT_xaload_n (v := (4, 0)) (pcN := 3) jIG_365_2 rfl rfl rfl ?_
  refine jT_xiload_n (v := (0, x1)) (pcN := 4) jIG_365_3 rfl rfl rfl ?_
  refine jT_xiload_n (v := (0, x2)) (pcN := 5) jIG_365_4 rfl rfl rfl ?_
  exact jT_fX [0, 2, 3, 4, 5, 6, 7, 8, 9, 10, 11, 12] 13 (y := 164) (pcN := 8) (dC := 1) (bc1 := 1) (bc2 := 6) (as := [(4, 0), (0, x1), (0, x2)]) (asC := [(4, 0), (0, x1), (0, x2)]) (LN := [(0, (4, 0)), (1, (0, x1)), (2, (0, x2)), (3, (4, 1))]) (stN := [(0, 0), (4, 1)]) (hsC := jpG_8) (e := 0) (jG_164_98 (d := 0) (by omega) (by omega)) (by rfl) (by rfl) (by decide +kernel) (by rfl) (by rfl) (by omega) (by omega) (by omega) (by omega) (show _ from ⟨rfl, rfl, rfl⟩)
theorem jG_188_100 {xs : List Int} {d : Nat} {x2 : Int} (h_x2 : 8 ≤ x2 ∧ x2 ≤ 2147483647) : jT xs (d + 1) 188 0 0 [(0, (0, x2))] [] [] 0 0 (fun k v hsN => k = 0 ∧ v = (0, 0) ∧ hsN = [] ++ []) := by
  refine jT_xiload_n (v := (0, x2)) (pcN := 1) jIG_188_0 rfl rfl rfl ?_
  refine jT_xi2l (x := x2) (z := x2) (pcN := 2) jIG_188_1 rfl (jw_idd (by omega) (by omega)) rfl ?_
  refine jT_xlconst (z := 0) (pcN := 3) jIG_188_2 rfl rfl ?_
  refine jT_adv 1 (pcN := 6) (LN := [(0, (0, x2))]) (stN := [(1, 7), (1, 0), (1, x2)]) (hsN := []) (c1 := 0) (s1 := 0) (c2 := 0) (s2 := 0) (by exact rfl) ?_ (by omega) (by omega)
  refine jT_fR [] 0 (y := 189) (pcN := 9) (dC := 0) (bc1 := 0) (bc2 := 0) (c1 := 0) (c2 := 0) (as := [(1, x2), (1, 0), (1, 7)]) (asC := [(1, x2), (1, 0), (1, 7)]) (LN := [(0, (0, x2))]) (stN := []) (hsC := []) (v := (0, 0)) (st2 := [(0, 0)]) (jT_in_hi (d := 0) (v := x2) (lo := 0) (hi := 7) (by omega) (by omega) (by omega) (by omega) (by omega)) (by rfl) (by rfl) (by decide +kernel) (by rfl) (by rfl) (by omega) (by omega) (by omega) (by omega) rfl ?_
  exact jT_ret rfl (by decide) (by show 0 ≤ 0; omega) (by omega) (by omega) ⟨rfl, rfl, rfl⟩
theorem jG_306_101 {xs : List Int} {d : Nat} {x1 x2 : Int} (h_x1 : 1 ≤ x1 ∧ x1 ≤ 255) (h_x2 : 8 ≤ x2 ∧ x2 ≤ 2147483647) : jT xs (d + 2) 306 0 0 [(0, (0, x1)), (1, (0, x2))] [] [] 0 0 (fun k v hsN => k = 0 ∧ v = (0, 0) ∧ hsN = [] ++ []) := by
  refine jT_xiload_n (v := (0, x2)) (pcN := 1) jIG_306_0 rfl rfl rfl ?_
  refine jT_fR [] 0 (y := 188) (pcN := 4) (dC := 1) (bc1 := 0) (bc2 := 0) (c1 := 0) (c2 := 0) (as := [(0, x2)]) (asC := [(0, x2)]) (LN := [(0, (0, x1)), (1, (0, x2))]) (stN := []) (hsC := []) (v := (0, 0)) (st2 := [(0, 0)]) (jG_188_100 (d := 0) (by omega)) (by rfl) (by rfl) (by decide +kernel) (by rfl) (by rfl) (by omega) (by omega) (by omega) (by omega) rfl ?_
  refine jT_xifT (pcN := 20) jIG_306_4 rfl (by decide +kernel) rfl ?_
  refine jT_xiconst (k := 0) (pcN := 21) jIG_306_20 rfl ?_
  exact jT_ret rfl (by decide) (by show 0 ≤ 0; omega) (by omega) (by omega) ⟨rfl, rfl, rfl⟩
theorem jG_305_102 {xs : List Int} {d : Nat} {x1 x2 : Int} (h_x1 : 1 ≤ x1 ∧ x1 ≤ 255) (h_x2 : 8 ≤ x2 ∧ x2 ≤ 2147483647) : jT xs (d + 3) 305 16 0 [(0, (4, 0)), (1, (0, x1)), (2, (0, x2))] [] jpG_19 0 0 (fun k v hsN => k = 0 ∧ v = (0, 0) ∧ hsN = jpG_44) := by
  refine jT_xaload_n (v := (4, 0)) (pcN := 1) jIG_305_0 rfl rfl rfl ?_
  refine jT_xiconst (k := 0) (pcN := 2) jIG_305_1 rfl ?_
  refine jT_adv 1 (pcN := 5) (LN := [(0, (4, 0)), (1, (0, x1)), (2, (0, x2))]) (stN := []) (hsN := jpG_19) (c1 := 0) (s1 := 0) (c2 := 0) (s2 := 0) (by exact rfl) ?_ (by omega) (by omega)
  refine jT_xaload_n (v := (4, 0)) (pcN := 6) jIG_305_5 rfl rfl rfl ?_
  refine jT_xiload_n (v := (0, x1)) (pcN := 7) jIG_305_6 rfl rfl rfl ?_
  refine jT_xi2l (x := x1) (z := x1) (pcN := 8) jIG_305_7 rfl (jw_idd (by omega) (by omega)) rfl ?_
  refine jT_xlconst (z := 1) (pcN := 9) jIG_305_8 rfl rfl ?_
  refine jT_adv 1 (pcN := 12) (LN := [(0, (4, 0)), (1, (0, x1)), (2, (0, x2))]) (stN := [(1, 255), (1, 1), (1, x1), (4, 0)]) (hsN := jpG_19) (c1 := 0) (s1 := 0) (c2 := 0) (s2 := 0) (by exact rfl) ?_ (by omega) (by omega)
  refine jT_fR [] 16 (y := 189) (pcN := 15) (dC := 0) (bc1 := 0) (bc2 := 0) (c1 := 0) (c2 := 0) (as := [(1, x1), (1, 1), (1, 255)]) (asC := [(1, x1), (1, 1), (1, 255)]) (LN := [(0, (4, 0)), (1, (0, x1)), (2, (0, x2))]) (stN := [(4, 0)]) (hsC := []) (v := (0, 1)) (st2 := [(0, 1), (4, 0)]) (jT_in_ok (d := 0) (v := x1) (lo := 1) (hi := 255) (by omega) (by omega) (by omega) (by omega) (by omega)) (by rfl) (by rfl) (by decide +kernel) (by rfl) (by rfl) (by omega) (by omega) (by omega) (by omega) rfl ?_
  refine jT_xiconst (k := 1) (pcN := 16) jIG_305_15 rfl ?_
  refine jT_fR [0] 16 (y := 191) (pcN := 19) (dC := 0) (bc1 := 0) (bc2 := 0) (c1 := 0) (c2 := 0) (as := [(4, 0), (0, 1), (0, 1)]) (asC := [(4, 0), (0, 1), (0, 1)]) (LN := [(0, (4, 0)), (1, (0, x1)), (2, (0, x2))]) (stN := []) (hsC := [jgh]) (v := (0, 0)) (st2 := [(0, 0)]) (jG_191_11 (d := 0)) (by rfl) (by rfl) (by decide +kernel) (by rfl) (by rfl) (by omega) (by omega) (by omega) (by omega) rfl ?_
  refine jT_xifF (t := 35) (pcN := 22) jIG_305_19 rfl (by decide +kernel) rfl rfl ?_
  refine jT_xaload_n (v := (4, 0)) (pcN := 23) jIG_305_22 rfl rfl rfl ?_
  refine jT_xiload_n (v := (0, x1)) (pcN := 24) jIG_305_23 rfl rfl rfl ?_
  refine jT_xiload_n (v := (0, x2)) (pcN := 25) jIG_305_24 rfl rfl rfl ?_
  refine jT_fR [] 16 (y := 306) (pcN := 28) (dC := 2) (bc1 := 0) (bc2 := 0) (c1 := 0) (c2 := 0) (as := [(0, x1), (0, x2)]) (asC := [(0, x1), (0, x2)]) (LN := [(0, (4, 0)), (1, (0, x1)), (2, (0, x2))]) (stN := [(4, 0)]) (hsC := []) (v := (0, 0)) (st2 := [(0, 0), (4, 0)]) (jG_306_101 (d := 0) (by omega) (by omega)) (by rfl) (by rfl) (by decide +kernel) (by rfl) (by rfl) (by omega) (by omega) (by omega) (by omega) rfl ?_
  refine jT_xiconst (k := 2) (pcN := 29) jIG_305_28 rfl ?_
  refine jT_fB [0, 1, 2, 3, 4, 5, 6, 7, 8, 9, 10, 11, 12, 13, 14, 15] 16 (y := 191) (pcN := 32) (dC := 0) (bc1 := 0) (bc2 := 0) (c1 := 0) (c2 := 0) (as := [(4, 0), (0, 0), (0, 2)]) (asC := [(4, 0), (0, 0), (0, 2)]) (LN := [(0, (4, 0)), (1, (0, x1)), (2, (0, x2))]) (stN := []) (hsC := jpG_19) (hsD := jpG_44) (v := (0, 1)) (st2 := [(0, 1)]) (hs2 := jpG_44) (jG_191_14 (d := 0)) (by rfl) (by rfl) (by decide +kernel) (by rfl) (by rfl) (by omega) (by omega) (by omega) (by omega) rfl (by decide +kernel) ?_
  refine jT_xifF (t := 37) (pcN := 35) jIG_305_32 rfl (by decide +kernel) rfl rfl ?_
  refine jT_xiconst (k := 0) (pcN := 36) jIG_305_35 rfl ?_
  exact jT_ret rfl (by decide) (by show 16 ≤ 16; omega) (by omega) (by omega) ⟨rfl, rfl, rfl⟩
theorem jG_116_103 {xs : List Int} {d : Nat} {x1 : Int} (h_x1 : 256 ≤ x1 ∧ x1 ≤ 2147483647) : jT xs d 116 1 0 [(0, (4, 0)), (1, (0, x1)), (2, (0, 1)), (3, (0, 255))] [] [jgh] 1 6 (fun k v hsN => k = 1 ∧ v = (0, 1) ∧ hsN = [jgh] ++ []) := by
  refine jT_xiload_n (v := (0, x1)) (pcN := 1) jIG_116_0 rfl rfl rfl ?_
  refine jT_xiload_n (v := (0, 1)) (pcN := 2) jIG_116_1 rfl rfl rfl ?_
  refine jT_icF (a := x1) (b := 1) (t := 10) (by rfl) (by rfl) (by rfl) (jw_idd (by omega) (by omega)) (jw_idd (by omega) (by omega)) (by simp only [jcP] <;> omega) ?_
  refine jT_xiload_n (v := (0, x1)) (pcN := 6) jIG_116_5 rfl rfl rfl ?_
  refine jT_xiload_n (v := (0, 255)) (pcN := 7) jIG_116_6 rfl rfl rfl ?_
  refine jT_icF (a := x1) (b := 255) (t := 21) (by rfl) (by rfl) (by rfl) (jw_idd (by omega) (by omega)) (jw_idd (by omega) (by omega)) (by simp only [jcP] <;> omega) ?_
  exact jT_ret (c1 := 1) (s1 := 6) rfl (by decide) (by show 1 ≤ 1; omega) (by omega) (by omega) ⟨rfl, rfl, rfl⟩
theorem jG_164_104 {xs : List Int} {d : Nat} {x1 x2 : Int} (h_x1 : 256 ≤ x1 ∧ x1 ≤ 2147483647) (h_x2 : (-2147483648) ≤ x2 ∧ x2 ≤ 2147483647) : jT xs (d + 1) 164 12 0 [(0, (4, 0)), (1, (0, x1)), (2, (0, x2))] [] jpG_8 1 6 (fun k v hsN => k = 1 ∧ v = (0, 1) ∧ hsN = jpG_8 ++ []) := by
  refine jT_xaload_n (v := (4, 0)) (pcN := 1) jIG_164_0 rfl rfl rfl ?_
  refine jT_xiload_n (v := (0, x1)) (pcN := 2) jIG_164_1 rfl rfl rfl ?_
  refine jT_xiconst (k := 1) (pcN := 3) jIG_164_2 rfl ?_
  refine jT_xsipush (k := 255) (pcN := 6) jIG_164_3 (by decide) rfl ?_
  exact jT_fX [0] 12 (y := 116) (pcN := 9) (dC := 0) (bc1 := 1) (bc2 := 6) (as := [(4, 0), (0, x1), (0, 1), (0, 255)]) (asC := [(4, 0), (0, x1), (0, 1), (0, 255)]) (LN := [(0, (4, 0)), (1, (0, x1)), (2, (0, x2))]) (stN := []) (hsC := [jgh]) (e := 1) (jG_116_103 (d := 0) (by omega)) (by rfl) (by rfl) (by decide +kernel) (by rfl) (by rfl) (by omega) (by omega) (by omega) (by omega) ⟨rfl, ⟨rfl, rfl, rfl⟩⟩
theorem jG_365_105 {xs : List Int} {d : Nat} {x1 x2 : Int} (h_x1 : 256 ≤ x1 ∧ x1 ≤ 2147483647) (h_x2 : (-2147483648) ≤ x2 ∧ x2 ≤ 2147483647) : jT xs (d + 2) 365 13 0 [(0, (4, 0)), (1, (0, x1)), (2, (0, x2)), (3, (4, 1))] [] jpG_15 1 6 (fun k v hsN => k = 0 ∧ v = (0, 1) ∧ hsN = jpG_15 ++ []) := by
  refine jT_xaload_n (v := (4, 1)) (pcN := 1) jIG_365_0 rfl rfl rfl ?_
  refine jT_xiconst (k := 0) (pcN := 2) jIG_365_1 rfl ?_
  refine jT_xaload_n (v := (4, 0)) (pcN := 3) jIG_365_2 rfl rfl rfl ?_
  refine jT_xiload_n (v := (0, x1)) (pcN := 4) jIG_365_3 rfl rfl rfl ?_
  refine jT_xiload_n (v := (0, x2)) (pcN := 5) jIG_365_4 rfl rfl rfl ?_
  exact jT_fX [0, 2, 3, 4, 5, 6, 7, 8, 9, 10, 11, 12] 13 (y := 164) (pcN := 8) (dC := 1) (bc1 := 1) (bc2 := 6) (as := [(4, 0), (0, x1), (0, x2)]) (asC := [(4, 0), (0, x1), (0, x2)]) (LN := [(0, (4, 0)), (1, (0, x1)), (2, (0, x2)), (3, (4, 1))]) (stN := [(0, 0), (4, 1)]) (hsC := jpG_8) (e := 1) (jG_164_104 (d := 0) (by omega) (by omega)) (by rfl) (by rfl) (by decide +kernel) (by rfl) (by rfl) (by omega) (by omega) (by omega) (by omega) (show _ from ⟨rfl, rfl, rfl⟩)
theorem jG_305_106 {xs : List Int} {d : Nat} {x1 x2 : Int} (h_x1 : 256 ≤ x1 ∧ x1 ≤ 2147483647) (h_x2 : (-2147483648) ≤ x2 ∧ x2 ≤ 2147483647) : jT xs (d + 1) 305 16 0 [(0, (4, 0)), (1, (0, x1)), (2, (0, x2))] [] jpG_19 0 0 (fun k v hsN => k = 0 ∧ v = (0, 0) ∧ hsN = jpG_17) := by
  refine jT_xaload_n (v := (4, 0)) (pcN := 1) jIG_305_0 rfl rfl rfl ?_
  refine jT_xiconst (k := 0) (pcN := 2) jIG_305_1 rfl ?_
  refine jT_adv 1 (pcN := 5) (LN := [(0, (4, 0)), (1, (0, x1)), (2, (0, x2))]) (stN := []) (hsN := jpG_19) (c1 := 0) (s1 := 0) (c2 := 0) (s2 := 0) (by exact rfl) ?_ (by omega) (by omega)
  refine jT_xaload_n (v := (4, 0)) (pcN := 6) jIG_305_5 rfl rfl rfl ?_
  refine jT_xiload_n (v := (0, x1)) (pcN := 7) jIG_305_6 rfl rfl rfl ?_
  refine jT_xi2l (x := x1) (z := x1) (pcN := 8) jIG_305_7 rfl (jw_idd (by omega) (by omega)) rfl ?_
  refine jT_xlconst (z := 1) (pcN := 9) jIG_305_8 rfl rfl ?_
  refine jT_adv 1 (pcN := 12) (LN := [(0, (4, 0)), (1, (0, x1)), (2, (0, x2))]) (stN := [(1, 255), (1, 1), (1, x1), (4, 0)]) (hsN := jpG_19) (c1 := 0) (s1 := 0) (c2 := 0) (s2 := 0) (by exact rfl) ?_ (by omega) (by omega)
  refine jT_fR [] 16 (y := 189) (pcN := 15) (dC := 0) (bc1 := 0) (bc2 := 0) (c1 := 0) (c2 := 0) (as := [(1, x1), (1, 1), (1, 255)]) (asC := [(1, x1), (1, 1), (1, 255)]) (LN := [(0, (4, 0)), (1, (0, x1)), (2, (0, x2))]) (stN := [(4, 0)]) (hsC := []) (v := (0, 0)) (st2 := [(0, 0), (4, 0)]) (jT_in_hi (d := 0) (v := x1) (lo := 1) (hi := 255) (by omega) (by omega) (by omega) (by omega) (by omega)) (by rfl) (by rfl) (by decide +kernel) (by rfl) (by rfl) (by omega) (by omega) (by omega) (by omega) rfl ?_
  refine jT_xiconst (k := 1) (pcN := 16) jIG_305_15 rfl ?_
  refine jT_fB [0, 1, 2, 3, 4, 5, 6, 7, 8, 9, 10, 11, 12, 13, 14, 15] 16 (y := 191) (pcN := 19) (dC := 0) (bc1 := 0) (bc2 := 0) (c1 := 0) (c2 := 0) (as := [(4, 0), (0, 0), (0, 1)]) (asC := [(4, 0), (0, 0), (0, 1)]) (LN := [(0, (4, 0)), (1, (0, x1)), (2, (0, x2))]) (stN := []) (hsC := jpG_19) (hsD := jpG_17) (v := (0, 1)) (st2 := [(0, 1)]) (hs2 := jpG_17) (jG_191_4 (d := 0)) (by rfl) (by rfl) (by decide +kernel) (by rfl) (by rfl) (by omega) (by omega) (by omega) (by omega) rfl (by decide +kernel) ?_
  refine jT_xifT (pcN := 35) jIG_305_19 rfl (by decide +kernel) rfl ?_
  refine jT_xiconst (k := 0) (pcN := 36) jIG_305_35 rfl ?_
  exact jT_ret rfl (by decide) (by show 16 ≤ 16; omega) (by omega) (by omega) ⟨rfl, rfl, rfl⟩
theorem jIG_379_3123 : jmI (jm 379) 3123 = (.aload_n 1, 1) := by rfl
theorem jIG_379_3124 : jmI (jm 379) 3124 = (.aload_n 0, 1) := by rfl
theorem jIG_379_3125 : jmI (jm 379) 3125 = (.iload 5, 2) := by rfl
theorem jIG_379_3127 : jmI (jm 379) 3127 = (.iconst 1, 1) := by rfl
theorem jIG_379_3128 : jmI (jm 379) 3128 = (.iadd, 1) := by rfl
def jzG_244 : JC := (13, [(4, 4), (4, 5), (4, 6), (4, 7), (4, 8), (4, 9), (4, 10), (4, 11), (4, 12), (4, 13), (0, 0), (4, 14), (0, 0)], [])
def jzG_245 : JC := (14, [(0, 0), (4, 15), (4, 16), (4, 17), (4, 18), (0, 0), (4, 19), (0, 0), (4, 20), (4, 21), (1, 1), (4, 22), (0, 0), (4, 23), (0, 0), (0, 0), (0, 0), (0, 0), (0, 0), (0, 0), (0, 0), (4, 24), (4, 25), (4, 26), (4, 27), (4, 28), (4, 29), (0, 0)], [])
def jpG_246 : List JC := [jzG_244, jzG_245, jgh, jgh, jgh, jgh, jgh, jgh, jgh, jgh, jgh, jgh, jgh, jgh, jgh, jgh, jgh, jgh, jgh, jgh, jgh, jgh, jgh, jgh, jgh, jgh, jgh, jgh, jgh, jgh]
theorem jIG_379_3130 : jmI (jm 379) 3130 = (.aload_n 0, 1) := by rfl
theorem jIG_379_3131 : jmI (jm 379) 3131 = (.iload 5, 2) := by rfl
theorem jIG_379_3133 : jmI (jm 379) 3133 = (.iconst 2, 1) := by rfl
theorem jIG_379_3134 : jmI (jm 379) 3134 = (.iadd, 1) := by rfl
theorem jIG_379_3136 : jmI (jm 379) 3136 = (.aload_n 3, 1) := by rfl
theorem jIG_379_3140 : jmI (jm 379) 3140 = (.istore 6, 2) := by rfl
theorem jIG_379_3142 : jmI (jm 379) 3142 = (.aload_n 2, 1) := by rfl
theorem jIG_379_3143 : jmI (jm 379) 3143 = (.aload_n 0, 1) := by rfl
theorem jIG_379_3144 : jmI (jm 379) 3144 = (.iload 5, 2) := by rfl
theorem jIG_379_3146 : jmI (jm 379) 3146 = (.iconst 1, 1) := by rfl
theorem jIG_379_3147 : jmI (jm 379) 3147 = (.iadd, 1) := by rfl
theorem jIG_379_3149 : jmI (jm 379) 3149 = (.aload_n 0, 1) := by rfl
theorem jIG_379_3150 : jmI (jm 379) 3150 = (.iload 5, 2) := by rfl
theorem jIG_379_3152 : jmI (jm 379) 3152 = (.iconst 2, 1) := by rfl
theorem jIG_379_3153 : jmI (jm 379) 3153 = (.iadd, 1) := by rfl
def jzG_262 : JC := (14, [(0, 1), (4, 15), (4, 16), (4, 17), (4, 18), (0, 0), (4, 19), (0, 0), (4, 20), (4, 21), (1, 1), (4, 22), (0, 0), (4, 23), (0, 0), (0, 0), (0, 0), (0, 0), (0, 0), (0, 0), (0, 0), (4, 24), (4, 25), (4, 26), (4, 27), (4, 28), (4, 29), (0, 0)], [])
def jpG_263 : List JC := [jzG_244, jzG_262, jgh, jgh, jgh, jgh, jgh, jgh, jgh, jgh, jgh, jgh, jgh, jgh, jgh, jgh, jgh, jgh, jgh, jgh, jgh, jgh, jgh, jgh, jgh, jgh, jgh, jgh, jgh, jgh]
theorem jIG_379_3158 : jmI (jm 379) 3158 = (.istore 7, 2) := by rfl
theorem jIG_379_3160 : jmI (jm 379) 3160 = (.aload_n 2, 1) := by rfl
theorem jIG_379_3164 : jmI (jm 379) 3164 = (.iload 6, 2) := by rfl
theorem jIG_379_3166 : jmI (jm 379) 3166 = (.if_icmp .eq 5, 3) := by rfl
theorem jIG_379_3171 : jmI (jm 379) 3171 = (.iload 6, 2) := by rfl
theorem jIG_379_3173 : jmI (jm 379) 3173 = (.ifCond .ne 15, 3) := by rfl
theorem jIG_379_3188 : jmI (jm 379) 3188 = (.goto 552, 3) := by rfl
theorem jIG_379_3740 : jmI (jm 379) 3740 = (.iinc 5 5, 3) := by rfl
theorem jIG_379_3743 : jmI (jm 379) 3743 = (.goto (-3715), 3) := by rfl
theorem jIG_379_28 : jmI (jm 379) 28 = (.iload 5, 2) := by rfl
theorem jIG_379_30 : jmI (jm 379) 30 = (.aload_n 0, 1) := by rfl
theorem jIG_379_32 : jmI (jm 379) 32 = (.iconst 5, 1) := by rfl
theorem jIG_379_33 : jmI (jm 379) 33 = (.isub, 1) := by rfl
theorem jIG_379_34 : jmI (jm 379) 34 = (.if_icmp .gt 3712, 3) := by rfl
theorem jIG_379_3746 : jmI (jm 379) 3746 = (.iconst 1, 1) := by rfl
set_option maxRecDepth 100000 in
theorem jL_43_0 {d : Nat} {x0 x1 x2 x3 x4 : Int} (h_x0 : (-2147483648) ≤ x0 ∧ x0 ≤ 2147483647) (h_x1 : (-2147483648) ≤ x1 ∧ x1 ≤ 0) (h_x2 : (-2147483648) ≤ x2 ∧ x2 ≤ 2147483647) (h_x3 : (-2147483648) ≤ x3 ∧ x3 ≤ 2147483647) (h_x4 : (-2147483648) ≤ x4 ∧ x4 ≤ 2147483647) : jT [x0, x1, x2, x3, x4] (d + 3) 379 30 3123 [(5, (0, 0)), (4, (4, 3)), (3, (4, 2)), (2, (4, 1)), (1, (4, 0)), (0, (6, 0))] [] jpG_246 1 6 (fun k v hsN => k = 0 ∧ v = (0, 1)) := by
  refine jT_xaload_n (v := (4, 0)) (pcN := 3124) jIG_379_3123 rfl rfl rfl ?_
  refine jT_xaload_n (v := (6, 0)) (pcN := 3125) jIG_379_3124 rfl rfl rfl ?_
  refine jT_xiload (v := (0, 0)) (pcN := 3127) jIG_379_3125 rfl rfl rfl ?_
  refine jT_xiconst (k := 1) (pcN := 3128) jIG_379_3127 rfl ?_
  refine jT_xiadd (x := 0) (y := 1) (z := 1) (pcN := 3129) jIG_379_3128 rfl (by decide) rfl ?_
  refine jT_adv 1 (pcN := 3130) (LN := [(5, (0, 0)), (4, (4, 3)), (3, (4, 2)), (2, (4, 1)), (1, (4, 0)), (0, (6, 0))]) (stN := [(0, x1), (4, 0)]) (hsN := jpG_246) (c1 := 0) (s1 := 0) (c2 := 1) (s2 := 6) (by exact rfl) ?_ (by omega) (by omega)
  refine jT_xaload_n (v := (6, 0)) (pcN := 3131) jIG_379_3130 rfl rfl rfl ?_
  refine jT_xiload (v := (0, 0)) (pcN := 3133) jIG_379_3131 rfl rfl rfl ?_
  refine jT_xiconst (k := 2) (pcN := 3134) jIG_379_3133 rfl ?_
  refine jT_xiadd (x := 0) (y := 2) (z := 2) (pcN := 3135) jIG_379_3134 rfl (by decide) rfl ?_
  refine jT_adv 1 (pcN := 3136) (LN := [(5, (0, 0)), (4, (4, 3)), (3, (4, 2)), (2, (4, 1)), (1, (4, 0)), (0, (6, 0))]) (stN := [(0, x2), (0, x1), (4, 0)]) (hsN := jpG_246) (c1 := 0) (s1 := 0) (c2 := 1) (s2 := 6) (by exact rfl) ?_ (by omega) (by omega)
  refine jT_xaload_n (v := (4, 2)) (pcN := 3137) jIG_379_3136 rfl rfl rfl ?_
  refine jT_fR [0, 2, 4, 5, 6, 7, 8, 9, 10, 11, 12, 13, 14] 30 (y := 365) (pcN := 3140) (dC := 2) (bc1 := 1) (bc2 := 6) (c1 := 0) (c2 := 0) (as := [(4, 0), (0, x1), (0, x2), (4, 2)]) (asC := [(4, 0), (0, x1), (0, x2), (4, 1)]) (LN := [(5, (0, 0)), (4, (4, 3)), (3, (4, 2)), (2, (4, 1)), (1, (4, 0)), (0, (6, 0))]) (stN := []) (hsC := jpG_15) (v := (0, 1)) (st2 := [(0, 1)]) (jG_365_3 (d := 0) (by omega) (by omega)) (by rfl) (by rfl) (by decide +kernel) (by rfl) (by rfl) (by omega) (by omega) (by omega) (by omega) rfl ?_
  refine jT_xistore (v := (0, 1)) (LN := [(6, (0, 1)), (5, (0, 0)), (4, (4, 3)), (3, (4, 2)), (2, (4, 1)), (1, (4, 0)), (0, (6, 0))]) (pcN := 3142) jIG_379_3140 rfl rfl rfl rfl ?_
  refine jT_xaload_n (v := (4, 1)) (pcN := 3143) jIG_379_3142 rfl rfl rfl ?_
  refine jT_xaload_n (v := (6, 0)) (pcN := 3144) jIG_379_3143 rfl rfl rfl ?_
  refine jT_xiload (v := (0, 0)) (pcN := 3146) jIG_379_3144 rfl rfl rfl ?_
  refine jT_xiconst (k := 1) (pcN := 3147) jIG_379_3146 rfl ?_
  refine jT_xiadd (x := 0) (y := 1) (z := 1) (pcN := 3148) jIG_379_3147 rfl (by decide) rfl ?_
  refine jT_adv 1 (pcN := 3149) (LN := [(6, (0, 1)), (5, (0, 0)), (4, (4, 3)), (3, (4, 2)), (2, (4, 1)), (1, (4, 0)), (0, (6, 0))]) (stN := [(0, x1), (4, 1)]) (hsN := jpG_246) (c1 := 0) (s1 := 0) (c2 := 0) (s2 := 0) (by exact rfl) ?_ (by omega) (by omega)
  refine jT_xaload_n (v := (6, 0)) (pcN := 3150) jIG_379_3149 rfl rfl rfl ?_
  refine jT_xiload (v := (0, 0)) (pcN := 3152) jIG_379_3150 rfl rfl rfl ?_
  refine jT_xiconst (k := 2) (pcN := 3153) jIG_379_3152 rfl ?_
  refine jT_xiadd (x := 0) (y := 2) (z := 2) (pcN := 3154) jIG_379_3153 rfl (by decide) rfl ?_
  refine jT_adv 1 (pcN := 3155) (LN := [(6, (0, 1)), (5, (0, 0)), (4, (4, 3)), (3, (4, 2)), (2, (4, 1)), (1, (4, 0)), (0, (6, 0))]) (stN := [(0, x2), (0, x1), (4, 1)]) (hsN := jpG_246) (c1 := 0) (s1 := 0) (c2 := 0) (s2 := 0) (by exact rfl) ?_ (by omega) (by omega)
  refine jT_fB [1, 15, 16, 17, 18, 19, 20, 21, 22, 23, 24, 25, 26, 27, 28, 29] 30 (y := 305) (pcN := 3158) (dC := 1) (bc1 := 0) (bc2 := 0) (c1 := 0) (c2 := 0) (as := [(4, 1), (0, x1), (0, x2)]) (asC := [(4, 0), (0, x1), (0, x2)]) (LN := [(6, (0, 1)), (5, (0, 0)), (4, (4, 3)), (3, (4, 2)), (2, (4, 1)), (1, (4, 0)), (0, (6, 0))]) (stN := []) (hsC := jpG_19) (hsD := jpG_17) (v := (0, 0)) (st2 := [(0, 0)]) (hs2 := jpG_263) (jG_305_5 (d := 0) (by omega) (by omega)) (by rfl) (by rfl) (by decide +kernel) (by rfl) (by rfl) (by omega) (by omega) (by omega) (by omega) rfl (by decide +kernel) ?_
  refine jT_xistore (v := (0, 0)) (LN := [(7, (0, 0)), (6, (0, 1)), (5, (0, 0)), (4, (4, 3)), (3, (4, 2)), (2, (4, 1)), (1, (4, 0)), (0, (6, 0))]) (pcN := 3160) jIG_379_3158 rfl rfl rfl rfl ?_
  refine jT_xaload_n (v := (4, 1)) (pcN := 3161) jIG_379_3160 rfl rfl rfl ?_
  refine jT_fR [1, 15, 16, 17, 18, 19, 20, 21, 22, 23, 24, 25, 26, 27, 28, 29] 30 (y := 186) (pcN := 3164) (dC := 0) (bc1 := 0) (bc2 := 0) (c1 := 0) (c2 := 0) (as := [(4, 1)]) (asC := [(4, 0)]) (LN := [(7, (0, 0)), (6, (0, 1)), (5, (0, 0)), (4, (4, 3)), (3, (4, 2)), (2, (4, 1)), (1, (4, 0)), (0, (6, 0))]) (stN := []) (hsC := jpG_17) (v := (0, 1)) (st2 := [(0, 1)]) (jG_186_6 (d := 0)) (by rfl) (by rfl) (by decide +kernel) (by rfl) (by rfl) (by omega) (by omega) (by omega) (by omega) rfl ?_
  refine jT_xiload (v := (0, 1)) (pcN := 3166) jIG_379_3164 rfl rfl rfl ?_
  refine jT_xicT (pcN := 3171) jIG_379_3166 rfl (by decide +kernel) rfl ?_
  refine jT_xiload (v := (0, 1)) (pcN := 3173) jIG_379_3171 rfl rfl rfl ?_
  refine jT_xifT (pcN := 3188) jIG_379_3173 rfl (by decide +kernel) rfl ?_
  refine jT_xgoto (pcN := 3740) jIG_379_3188 rfl ?_
  refine jT_xiinc (x := 0) (z := 5) (LN := [(5, (0, 5)), (7, (0, 0)), (6, (0, 1)), (4, (4, 3)), (3, (4, 2)), (2, (4, 1)), (1, (4, 0)), (0, (6, 0))]) (pcN := 3743) jIG_379_3740 rfl rfl (by decide) rfl rfl ?_
  refine jT_xgoto (pcN := 28) jIG_379_3743 rfl ?_
  refine jT_xiload (v := (0, 5)) (pcN := 30) jIG_379_28 rfl rfl rfl ?_
  refine jT_xaload_n (v := (6, 0)) (pcN := 31) jIG_379_30 rfl rfl rfl ?_
  refine jT_adv 1 (pcN := 32) (LN := [(5, (0, 5)), (7, (0, 0)), (6, (0, 1)), (4, (4, 3)), (3, (4, 2)), (2, (4, 1)), (1, (4, 0)), (0, (6, 0))]) (stN := [(0, 5), (0, 5)]) (hsN := jpG_263) (c1 := 0) (s1 := 0) (c2 := 0) (s2 := 0) (by exact rfl) ?_ (by omega) (by omega)
  refine jT_xiconst (k := 5) (pcN := 33) jIG_379_32 rfl ?_
  refine jT_xisub (x := 5) (y := 5) (z := 0) (pcN := 34) jIG_379_33 rfl (by decide) rfl ?_
  refine jT_xicT (pcN := 3746) jIG_379_34 rfl (by decide +kernel) rfl ?_
  refine jT_xiconst (k := 1) (pcN := 3747) jIG_379_3746 rfl ?_
  exact jT_ret rfl (by decide) (by show 30 ≤ 30; decide) (by omega) (by omega) ⟨rfl, rfl⟩
def jzG_279 : JC := (14, [(0, 2), (4, 15), (4, 16), (4, 17), (4, 18), (0, 0), (4, 19), (0, 0), (4, 20), (4, 21), (1, 1), (4, 22), (0, 0), (4, 23), (0, 0), (0, 0), (0, 0), (0, 0), (0, 0), (0, 0), (0, 0), (4, 24), (4, 25), (4, 26), (4, 27), (4, 28), (4, 29), (0, 0)], [])
def jpG_280 : List JC := [jzG_244, jzG_279, jgh, jgh, jgh, jgh, jgh, jgh, jgh, jgh, jgh, jgh, jgh, jgh, jgh, jgh, jgh, jgh, jgh, jgh, jgh, jgh, jgh, jgh, jgh, jgh, jgh, jgh, jgh, jgh]
set_option maxRecDepth 100000 in
theorem jL_43_1 {d : Nat} {x0 x1 x2 x3 x4 : Int} (h_x0 : (-2147483648) ≤ x0 ∧ x0 ≤ 2147483647) (h_x1 : 1 ≤ x1 ∧ x1 ≤ 255) (h_x2 : (-2147483648) ≤ x2 ∧ x2 ≤ (-1)) (h_x3 : (-2147483648) ≤ x3 ∧ x3 ≤ 2147483647) (h_x4 : (-2147483648) ≤ x4 ∧ x4 ≤ 2147483647) : jT [x0, x1, x2, x3, x4] (d + 4) 379 30 3123 [(5, (0, 0)), (4, (4, 3)), (3, (4, 2)), (2, (4, 1)), (1, (4, 0)), (0, (6, 0))] [] jpG_246 1 6 (fun k v hsN => k = 0 ∧ v = (0, 1)) := by
  refine jT_xaload_n (v := (4, 0)) (pcN := 3124) jIG_379_3123 rfl rfl rfl ?_
  refine jT_xaload_n (v := (6, 0)) (pcN := 3125) jIG_379_3124 rfl rfl rfl ?_
  refine jT_xiload (v := (0, 0)) (pcN := 3127) jIG_379_3125 rfl rfl rfl ?_
  refine jT_xiconst (k := 1) (pcN := 3128) jIG_379_3127 rfl ?_
  refine jT_xiadd (x := 0) (y := 1) (z := 1) (pcN := 3129) jIG_379_3128 rfl (by decide) rfl ?_
  refine jT_adv 1 (pcN := 3130) (LN := [(5, (0, 0)), (4, (4, 3)), (3, (4, 2)), (2, (4, 1)), (1, (4, 0)), (0, (6, 0))]) (stN := [(0, x1), (4, 0)]) (hsN := jpG_246) (c1 := 0) (s1 := 0) (c2 := 1) (s2 := 6) (by exact rfl) ?_ (by omega) (by omega)
  refine jT_xaload_n (v := (6, 0)) (pcN := 3131) jIG_379_3130 rfl rfl rfl ?_
  refine jT_xiload (v := (0, 0)) (pcN := 3133) jIG_379_3131 rfl rfl rfl ?_
  refine jT_xiconst (k := 2) (pcN := 3134) jIG_379_3133 rfl ?_
  refine jT_xiadd (x := 0) (y := 2) (z := 2) (pcN := 3135) jIG_379_3134 rfl (by decide) rfl ?_
  refine jT_adv 1 (pcN := 3136) (LN := [(5, (0, 0)), (4, (4, 3)), (3, (4, 2)), (2, (4, 1)), (1, (4, 0)), (0, (6, 0))]) (stN := [(0, x2), (0, x1), (4, 0)]) (hsN := jpG_246) (c1 := 0) (s1 := 0) (c2 := 1) (s2 := 6) (by exact rfl) ?_ (by omega) (by omega)
  refine jT_xaload_n (v := (4, 2)) (pcN := 3137) jIG_379_3136 rfl rfl rfl ?_
  refine jT_fR [0, 2, 4, 5, 6, 7, 8, 9, 10, 11, 12, 13, 14] 30 (y := 365) (pcN := 3140) (dC := 2) (bc1 := 1) (bc2 := 6) (c1 := 0) (c2 := 0) (as := [(4, 0), (0, x1), (0, x2), (4, 2)]) (asC := [(4, 0), (0, x1), (0, x2), (4, 1)]) (LN := [(5, (0, 0)), (4, (4, 3)), (3, (4, 2)), (2, (4, 1)), (1, (4, 0)), (0, (6, 0))]) (stN := []) (hsC := jpG_15) (v := (0, 2)) (st2 := [(0, 2)]) (jG_365_10 (d := 0) (by omega) (by omega)) (by rfl) (by rfl) (by decide +kernel) (by rfl) (by rfl) (by omega) (by omega) (by omega) (by omega) rfl ?_
  refine jT_xistore (v := (0, 2)) (LN := [(6, (0, 2)), (5, (0, 0)), (4, (4, 3)), (3, (4, 2)), (2, (4, 1)), (1, (4, 0)), (0, (6, 0))]) (pcN := 3142) jIG_379_3140 rfl rfl rfl rfl ?_
  refine jT_xaload_n (v := (4, 1)) (pcN := 3143) jIG_379_3142 rfl rfl rfl ?_
  refine jT_xaload_n (v := (6, 0)) (pcN := 3144) jIG_379_3143 rfl rfl rfl ?_
  refine jT_xiload (v := (0, 0)) (pcN := 3146) jIG_379_3144 rfl rfl rfl ?_
  refine jT_xiconst (k := 1) (pcN := 3147) jIG_379_3146 rfl ?_
  refine jT_xiadd (x := 0) (y := 1) (z := 1) (pcN := 3148) jIG_379_3147 rfl (by decide) rfl ?_
  refine jT_adv 1 (pcN := 3149) (LN := [(6, (0, 2)), (5, (0, 0)), (4, (4, 3)), (3, (4, 2)), (2, (4, 1)), (1, (4, 0)), (0, (6, 0))]) (stN := [(0, x1), (4, 1)]) (hsN := jpG_246) (c1 := 0) (s1 := 0) (c2 := 0) (s2 := 0) (by exact rfl) ?_ (by omega) (by omega)
  refine jT_xaload_n (v := (6, 0)) (pcN := 3150) jIG_379_3149 rfl rfl rfl ?_
  refine jT_xiload (v := (0, 0)) (pcN := 3152) jIG_379_3150 rfl rfl rfl ?_
  refine jT_xiconst (k := 2) (pcN := 3153) jIG_379_3152 rfl ?_
  refine jT_xiadd (x := 0) (y := 2) (z := 2) (pcN := 3154) jIG_379_3153 rfl (by decide) rfl ?_
  refine jT_adv 1 (pcN := 3155) (LN := [(6, (0, 2)), (5, (0, 0)), (4, (4, 3)), (3, (4, 2)), (2, (4, 1)), (1, (4, 0)), (0, (6, 0))]) (stN := [(0, x2), (0, x1), (4, 1)]) (hsN := jpG_246) (c1 := 0) (s1 := 0) (c2 := 0) (s2 := 0) (by exact rfl) ?_ (by omega) (by omega)
  refine jT_fB [1, 15, 16, 17, 18, 19, 20, 21, 22, 23, 24, 25, 26, 27, 28, 29] 30 (y := 305) (pcN := 3158) (dC := 3) (bc1 := 0) (bc2 := 0) (c1 := 0) (c2 := 0) (as := [(4, 1), (0, x1), (0, x2)]) (asC := [(4, 0), (0, x1), (0, x2)]) (LN := [(6, (0, 2)), (5, (0, 0)), (4, (4, 3)), (3, (4, 2)), (2, (4, 1)), (1, (4, 0)), (0, (6, 0))]) (stN := []) (hsC := jpG_19) (hsD := jpG_44) (v := (0, 0)) (st2 := [(0, 0)]) (hs2 := jpG_280) (jG_305_15 (d := 0) (by omega) (by omega)) (by rfl) (by rfl) (by decide +kernel) (by rfl) (by rfl) (by omega) (by omega) (by omega) (by omega) rfl (by decide +kernel) ?_
  refine jT_xistore (v := (0, 0)) (LN := [(7, (0, 0)), (6, (0, 2)), (5, (0, 0)), (4, (4, 3)), (3, (4, 2)), (2, (4, 1)), (1, (4, 0)), (0, (6, 0))]) (pcN := 3160) jIG_379_3158 rfl rfl rfl rfl ?_
  refine jT_xaload_n (v := (4, 1)) (pcN := 3161) jIG_379_3160 rfl rfl rfl ?_
  refine jT_fR [1, 15, 16, 17, 18, 19, 20, 21, 22, 23, 24, 25, 26, 27, 28, 29] 30 (y := 186) (pcN := 3164) (dC := 0) (bc1 := 0) (bc2 := 0) (c1 := 0) (c2 := 0) (as := [(4, 1)]) (asC := [(4, 0)]) (LN := [(7, (0, 0)), (6, (0, 2)), (5, (0, 0)), (4, (4, 3)), (3, (4, 2)), (2, (4, 1)), (1, (4, 0)), (0, (6, 0))]) (stN := []) (hsC := jpG_44) (v := (0, 2)) (st2 := [(0, 2)]) (jG_186_16 (d := 0)) (by rfl) (by rfl) (by decide +kernel) (by rfl) (by rfl) (by omega) (by omega) (by omega) (by omega) rfl ?_
  refine jT_xiload (v := (0, 2)) (pcN := 3166) jIG_379_3164 rfl rfl rfl ?_
  refine jT_xicT (pcN := 3171) jIG_379_3166 rfl (by decide +kernel) rfl ?_
  refine jT_xiload (v := (0, 2)) (pcN := 3173) jIG_379_3171 rfl rfl rfl ?_
  refine jT_xifT (pcN := 3188) jIG_379_3173 rfl (by decide +kernel) rfl ?_
  refine jT_xgoto (pcN := 3740) jIG_379_3188 rfl ?_
  refine jT_xiinc (x := 0) (z := 5) (LN := [(5, (0, 5)), (7, (0, 0)), (6, (0, 2)), (4, (4, 3)), (3, (4, 2)), (2, (4, 1)), (1, (4, 0)), (0, (6, 0))]) (pcN := 3743) jIG_379_3740 rfl rfl (by decide) rfl rfl ?_
  refine jT_xgoto (pcN := 28) jIG_379_3743 rfl ?_
  refine jT_xiload (v := (0, 5)) (pcN := 30) jIG_379_28 rfl rfl rfl ?_
  refine jT_xaload_n (v := (6, 0)) (pcN := 31) jIG_379_30 rfl rfl rfl ?_
  refine jT_adv 1 (pcN := 32) (LN := [(5, (0, 5)), (7, (0, 0)), (6, (0, 2)), (4, (4, 3)), (3, (4, 2)), (2, (4, 1)), (1, (4, 0)), (0, (6, 0))]) (stN := [(0, 5), (0, 5)]) (hsN := jpG_280) (c1 := 0) (s1 := 0) (c2 := 0) (s2 := 0) (by exact rfl) ?_ (by omega) (by omega)
  refine jT_xiconst (k := 5) (pcN := 33) jIG_379_32 rfl ?_
  refine jT_xisub (x := 5) (y := 5) (z := 0) (pcN := 34) jIG_379_33 rfl (by decide) rfl ?_
  refine jT_xicT (pcN := 3746) jIG_379_34 rfl (by decide +kernel) rfl ?_
  refine jT_xiconst (k := 1) (pcN := 3747) jIG_379_3746 rfl ?_
  exact jT_ret rfl (by decide) (by show 30 ≤ 30; decide) (by omega) (by omega) ⟨rfl, rfl⟩
def jzG_281 : JC := (9, [(4, 30), (4, 31), (4, 32), (4, 33), (4, 34)], [])
def jzG_282 : JC := (114, [], [35, 35, 35, 35, 35, 35, 35, 35])
def jpG_283 : List JC := [jzG_244, jzG_245, (101, [], [0]), jgh, jgh, jgh, jgh, jgh, jgh, jgh, jgh, (101, [], [0, 0, 0, 0, 0, 0]), jgh, jgh, jzG_281, (100, [], jS0), jgh, jgh, jgh, jgh, jgh, jgh, jgh, jgh, jgh, jgh, jgh, jgh, jgh, jgh, jzG_282, jgh, jgh, jgh, jgh, (4, [(4, 36), (1, 1)], []), (101, [], [0, 0, 0, 0, 0, 0])]
def jpG_284 : List JC := [jzG_244, jzG_245, (101, [], [1]), jgh, jgh, jgh, jgh, jgh, jgh, jgh, jgh, (101, [], [0, 0, 0, 0, 0, 0]), jgh, jgh, jzG_281, (100, [], jS0), jgh, jgh, jgh, jgh, jgh, jgh, jgh, jgh, jgh, jgh, jgh, jgh, jgh, jgh, jzG_282, jgh, jgh, jgh, jgh, (4, [(4, 36), (1, 1)], []), (101, [], [0, 0, 0, 0, 0, 0])]
theorem jIG_379_3176 : jmI (jm 379) 3176 = (.aload_n 3, 1) := by rfl
theorem jIG_379_3177 : jmI (jm 379) 3177 = (.iconst 0, 1) := by rfl
theorem jIG_379_3178 : jmI (jm 379) 3178 = (.laload, 1) := by rfl
theorem jIG_379_3179 : jmI (jm 379) 3179 = (.iload 7, 2) := by rfl
theorem jIG_379_3181 : jmI (jm 379) 3181 = (.i2l, 1) := by rfl
theorem jIG_379_3183 : jmI (jm 379) 3183 = (.ifCond .eq 5, 3) := by rfl
set_option maxRecDepth 100000 in
theorem jL_43_2 {d : Nat} {x0 x1 x2 x3 x4 : Int} (h_x0 : (-2147483648) ≤ x0 ∧ x0 ≤ 2147483647) (h_x1 : 1 ≤ x1 ∧ x1 ≤ 255) (h_x2 : 0 ≤ x2 ∧ x2 ≤ 7) (h_x3 : (-2147483648) ≤ x3 ∧ x3 ≤ 2147483647) (h_x4 : (-2147483648) ≤ x4 ∧ x4 ≤ 2147483647) (g_0 : 0 ≤ (((Int32.ofInt x1 >>> (Int32.ofInt x2 &&& 31)).toInt) % 2) - 1) : jT [x0, x1, x2, x3, x4] (d + 6) 379 37 3123 [(5, (0, 0)), (4, (4, 3)), (3, (4, 2)), (2, (4, 1)), (1, (4, 0)), (0, (6, 0))] [] jpG_283 0 0 (fun k v hsN => k = 0 ∧ v = (0, 1)) := by
  refine jT_xaload_n (v := (4, 0)) (pcN := 3124) jIG_379_3123 rfl rfl rfl ?_
  refine jT_xaload_n (v := (6, 0)) (pcN := 3125) jIG_379_3124 rfl rfl rfl ?_
  refine jT_xiload (v := (0, 0)) (pcN := 3127) jIG_379_3125 rfl rfl rfl ?_
  refine jT_xiconst (k := 1) (pcN := 3128) jIG_379_3127 rfl ?_
  refine jT_xiadd (x := 0) (y := 1) (z := 1) (pcN := 3129) jIG_379_3128 rfl (by decide) rfl ?_
  refine jT_adv 1 (pcN := 3130) (LN := [(5, (0, 0)), (4, (4, 3)), (3, (4, 2)), (2, (4, 1)), (1, (4, 0)), (0, (6, 0))]) (stN := [(0, x1), (4, 0)]) (hsN := jpG_283) (c1 := 0) (s1 := 0) (c2 := 0) (s2 := 0) (by exact rfl) ?_ (by omega) (by omega)
  refine jT_xaload_n (v := (6, 0)) (pcN := 3131) jIG_379_3130 rfl rfl rfl ?_
  refine jT_xiload (v := (0, 0)) (pcN := 3133) jIG_379_3131 rfl rfl rfl ?_
  refine jT_xiconst (k := 2) (pcN := 3134) jIG_379_3133 rfl ?_
  refine jT_xiadd (x := 0) (y := 2) (z := 2) (pcN := 3135) jIG_379_3134 rfl (by decide) rfl ?_
  refine jT_adv 1 (pcN := 3136) (LN := [(5, (0, 0)), (4, (4, 3)), (3, (4, 2)), (2, (4, 1)), (1, (4, 0)), (0, (6, 0))]) (stN := [(0, x2), (0, x1), (4, 0)]) (hsN := jpG_283) (c1 := 0) (s1 := 0) (c2 := 0) (s2 := 0) (by exact rfl) ?_ (by omega) (by omega)
  refine jT_xaload_n (v := (4, 2)) (pcN := 3137) jIG_379_3136 rfl rfl rfl ?_
  refine jT_fB [0, 2, 4, 5, 6, 7, 8, 9, 10, 11, 12, 13, 14, 30, 31, 32, 33, 34, 35, 36] 37 (y := 365) (pcN := 3140) (dC := 5) (bc1 := 0) (bc2 := 0) (c1 := 0) (c2 := 0) (as := [(4, 0), (0, x1), (0, x2), (4, 2)]) (asC := [(4, 0), (0, x1), (0, x2), (4, 1)]) (LN := [(5, (0, 0)), (4, (4, 3)), (3, (4, 2)), (2, (4, 1)), (1, (4, 0)), (0, (6, 0))]) (stN := []) (hsC := jpG_148) (hsD := jpG_145) (v := (0, 0)) (st2 := [(0, 0)]) (hs2 := jpG_284) (jG_365_32 (d := 0) (by omega) (by omega) (by omega)) (by rfl) (by rfl) (by decide +kernel) (by rfl) (by rfl) (by omega) (by omega) (by omega) (by omega) rfl (by decide +kernel) ?_
  refine jT_xistore (v := (0, 0)) (LN := [(6, (0, 0)), (5, (0, 0)), (4, (4, 3)), (3, (4, 2)), (2, (4, 1)), (1, (4, 0)), (0, (6, 0))]) (pcN := 3142) jIG_379_3140 rfl rfl rfl rfl ?_
  refine jT_xaload_n (v := (4, 1)) (pcN := 3143) jIG_379_3142 rfl rfl rfl ?_
  refine jT_xaload_n (v := (6, 0)) (pcN := 3144) jIG_379_3143 rfl rfl rfl ?_
  refine jT_xiload (v := (0, 0)) (pcN := 3146) jIG_379_3144 rfl rfl rfl ?_
  refine jT_xiconst (k := 1) (pcN := 3147) jIG_379_3146 rfl ?_
  refine jT_xiadd (x := 0) (y := 1) (z := 1) (pcN := 3148) jIG_379_3147 rfl (by decide) rfl ?_
  refine jT_adv 1 (pcN := 3149) (LN := [(6, (0, 0)), (5, (0, 0)), (4, (4, 3)), (3, (4, 2)), (2, (4, 1)), (1, (4, 0)), (0, (6, 0))]) (stN := [(0, x1), (4, 1)]) (hsN := jpG_284) (c1 := 0) (s1 := 0) (c2 := 0) (s2 := 0) (by exact rfl) ?_ (by omega) (by omega)
  refine jT_xaload_n (v := (6, 0)) (pcN := 3150) jIG_379_3149 rfl rfl rfl ?_
  refine jT_xiload (v := (0, 0)) (pcN := 3152) jIG_379_3150 rfl rfl rfl ?_
  refine jT_xiconst (k := 2) (pcN := 3153) jIG_379_3152 rfl ?_
  refine jT_xiadd (x := 0) (y := 2) (z := 2) (pcN := 3154) jIG_379_3153 rfl (by decide) rfl ?_
  refine jT_adv 1 (pcN := 3155) (LN := [(6, (0, 0)), (5, (0, 0)), (4, (4, 3)), (3, (4, 2)), (2, (4, 1)), (1, (4, 0)), (0, (6, 0))]) (stN := [(0, x2), (0, x1), (4, 1)]) (hsN := jpG_284) (c1 := 0) (s1 := 0) (c2 := 0) (s2 := 0) (by exact rfl) ?_ (by omega) (by omega)
  refine jT_fR [1, 15, 16, 17, 18, 19, 20, 21, 22, 23, 24, 25, 26, 27, 28, 29] 37 (y := 305) (pcN := 3158) (dC := 5) (bc1 := 0) (bc2 := 0) (c1 := 0) (c2 := 0) (as := [(4, 1), (0, x1), (0, x2)]) (asC := [(4, 0), (0, x1), (0, x2)]) (LN := [(6, (0, 0)), (5, (0, 0)), (4, (4, 3)), (3, (4, 2)), (2, (4, 1)), (1, (4, 0)), (0, (6, 0))]) (stN := []) (hsC := jpG_156) (v := (0, 1)) (st2 := [(0, 1)]) (jG_305_91 (d := 0) (by omega) (by omega) (by omega)) (by rfl) (by rfl) (by decide +kernel) (by rfl) (by rfl) (by omega) (by omega) (by omega) (by omega) rfl ?_
  refine jT_xistore (v := (0, 1)) (LN := [(7, (0, 1)), (6, (0, 0)), (5, (0, 0)), (4, (4, 3)), (3, (4, 2)), (2, (4, 1)), (1, (4, 0)), (0, (6, 0))]) (pcN := 3160) jIG_379_3158 rfl rfl rfl rfl ?_
  refine jT_xaload_n (v := (4, 1)) (pcN := 3161) jIG_379_3160 rfl rfl rfl ?_
  refine jT_fR [1, 15, 16, 17, 18, 19, 20, 21, 22, 23, 24, 25, 26, 27, 28, 29] 37 (y := 186) (pcN := 3164) (dC := 0) (bc1 := 0) (bc2 := 0) (c1 := 0) (c2 := 0) (as := [(4, 1)]) (asC := [(4, 0)]) (LN := [(7, (0, 1)), (6, (0, 0)), (5, (0, 0)), (4, (4, 3)), (3, (4, 2)), (2, (4, 1)), (1, (4, 0)), (0, (6, 0))]) (stN := []) (hsC := jpG_19) (v := (0, 0)) (st2 := [(0, 0)]) (jG_186_92 (d := 0)) (by rfl) (by rfl) (by decide +kernel) (by rfl) (by rfl) (by omega) (by omega) (by omega) (by omega) rfl ?_
  refine jT_xiload (v := (0, 0)) (pcN := 3166) jIG_379_3164 rfl rfl rfl ?_
  refine jT_xicT (pcN := 3171) jIG_379_3166 rfl (by decide +kernel) rfl ?_
  refine jT_xiload (v := (0, 0)) (pcN := 3173) jIG_379_3171 rfl rfl rfl ?_
  refine jT_xifF (t := 3188) (pcN := 3176) jIG_379_3173 rfl (by decide +kernel) rfl rfl ?_
  refine jT_xaload_n (v := (4, 2)) (pcN := 3177) jIG_379_3176 rfl rfl rfl ?_
  refine jT_xiconst (k := 0) (pcN := 3178) jIG_379_3177 rfl ?_
  refine jT_lald (x := 1) (a := 2) (j := 0) (fs := []) (X := [1]) jIG_379_3178 rfl rfl rfl rfl ?_
  refine jT_eq (LN := [(7, (0, 1)), (6, (0, 0)), (5, (0, 0)), (4, (4, 3)), (3, (4, 2)), (2, (4, 1)), (1, (4, 0)), (0, (6, 0))]) (stN := [(1, 1)]) (hsN := jpG_284) rfl rfl rfl ?_
  refine jT_xiload (v := (0, 1)) (pcN := 3181) jIG_379_3179 rfl rfl rfl ?_
  refine jT_xi2l (x := 1) (z := 1) (pcN := 3182) jIG_379_3181 rfl (by decide +kernel) rfl ?_
  refine jT_lcmp (a := 1) (b := 1) (z := 0) (by rfl) (by rfl) (by decide +kernel) (by decide +kernel) (by decide) ?_
  refine jT_xifT (pcN := 3188) jIG_379_3183 rfl (by decide +kernel) rfl ?_
  refine jT_xgoto (pcN := 3740) jIG_379_3188 rfl ?_
  refine jT_xiinc (x := 0) (z := 5) (LN := [(5, (0, 5)), (7, (0, 1)), (6, (0, 0)), (4, (4, 3)), (3, (4, 2)), (2, (4, 1)), (1, (4, 0)), (0, (6, 0))]) (pcN := 3743) jIG_379_3740 rfl rfl (by decide) rfl rfl ?_
  refine jT_xgoto (pcN := 28) jIG_379_3743 rfl ?_
  refine jT_xiload (v := (0, 5)) (pcN := 30) jIG_379_28 rfl rfl rfl ?_
  refine jT_xaload_n (v := (6, 0)) (pcN := 31) jIG_379_30 rfl rfl rfl ?_
  refine jT_adv 1 (pcN := 32) (LN := [(5, (0, 5)), (7, (0, 1)), (6, (0, 0)), (4, (4, 3)), (3, (4, 2)), (2, (4, 1)), (1, (4, 0)), (0, (6, 0))]) (stN := [(0, 5), (0, 5)]) (hsN := jpG_284) (c1 := 0) (s1 := 0) (c2 := 0) (s2 := 0) (by exact rfl) ?_ (by omega) (by omega)
  refine jT_xiconst (k := 5) (pcN := 33) jIG_379_32 rfl ?_
  refine jT_xisub (x := 5) (y := 5) (z := 0) (pcN := 34) jIG_379_33 rfl (by decide) rfl ?_
  refine jT_xicT (pcN := 3746) jIG_379_34 rfl (by decide +kernel) rfl ?_
  refine jT_xiconst (k := 1) (pcN := 3747) jIG_379_3746 rfl ?_
  exact jT_ret rfl (by decide) (by show 37 ≤ 37; decide) (by omega) (by omega) ⟨rfl, rfl⟩
set_option maxRecDepth 100000 in
theorem jL_43_3 {d : Nat} {x0 x1 x2 x3 x4 : Int} (h_x0 : (-2147483648) ≤ x0 ∧ x0 ≤ 2147483647) (h_x1 : 1 ≤ x1 ∧ x1 ≤ 255) (h_x2 : 0 ≤ x2 ∧ x2 ≤ 7) (h_x3 : (-2147483648) ≤ x3 ∧ x3 ≤ 2147483647) (h_x4 : (-2147483648) ≤ x4 ∧ x4 ≤ 2147483647) (g_0 : (((Int32.ofInt x1 >>> (Int32.ofInt x2 &&& 31)).toInt) % 2) - 1 < 0) : jT [x0, x1, x2, x3, x4] (d + 4) 379 30 3123 [(5, (0, 0)), (4, (4, 3)), (3, (4, 2)), (2, (4, 1)), (1, (4, 0)), (0, (6, 0))] [] jpG_246 1 6 (fun k v hsN => k = 0 ∧ v = (0, 1)) := by
  refine jT_xaload_n (v := (4, 0)) (pcN := 3124) jIG_379_3123 rfl rfl rfl ?_
  refine jT_xaload_n (v := (6, 0)) (pcN := 3125) jIG_379_3124 rfl rfl rfl ?_
  refine jT_xiload (v := (0, 0)) (pcN := 3127) jIG_379_3125 rfl rfl rfl ?_
  refine jT_xiconst (k := 1) (pcN := 3128) jIG_379_3127 rfl ?_
  refine jT_xiadd (x := 0) (y := 1) (z := 1) (pcN := 3129) jIG_379_3128 rfl (by decide) rfl ?_
  refine jT_adv 1 (pcN := 3130) (LN := [(5, (0, 0)), (4, (4, 3)), (3, (4, 2)), (2, (4, 1)), (1, (4, 0)), (0, (6, 0))]) (stN := [(0, x1), (4, 0)]) (hsN := jpG_246) (c1 := 0) (s1 := 0) (c2 := 1) (s2 := 6) (by exact rfl) ?_ (by omega) (by omega)
  refine jT_xaload_n (v := (6, 0)) (pcN := 3131) jIG_379_3130 rfl rfl rfl ?_
  refine jT_xiload (v := (0, 0)) (pcN := 3133) jIG_379_3131 rfl rfl rfl ?_
  refine jT_xiconst (k := 2) (pcN := 3134) jIG_379_3133 rfl ?_
  refine jT_xiadd (x := 0) (y := 2) (z := 2) (pcN := 3135) jIG_379_3134 rfl (by decide) rfl ?_
  refine jT_adv 1 (pcN := 3136) (LN := [(5, (0, 0)), (4, (4, 3)), (3, (4, 2)), (2, (4, 1)), (1, (4, 0)), (0, (6, 0))]) (stN := [(0, x2), (0, x1), (4, 0)]) (hsN := jpG_246) (c1 := 0) (s1 := 0) (c2 := 1) (s2 := 6) (by exact rfl) ?_ (by omega) (by omega)
  refine jT_xaload_n (v := (4, 2)) (pcN := 3137) jIG_379_3136 rfl rfl rfl ?_
  refine jT_fR [0, 2, 4, 5, 6, 7, 8, 9, 10, 11, 12, 13, 14] 30 (y := 365) (pcN := 3140) (dC := 2) (bc1 := 1) (bc2 := 6) (c1 := 0) (c2 := 0) (as := [(4, 0), (0, x1), (0, x2), (4, 2)]) (asC := [(4, 0), (0, x1), (0, x2), (4, 1)]) (LN := [(5, (0, 0)), (4, (4, 3)), (3, (4, 2)), (2, (4, 1)), (1, (4, 0)), (0, (6, 0))]) (stN := []) (hsC := jpG_15) (v := (0, 2)) (st2 := [(0, 2)]) (jG_365_94 (d := 0) (by omega) (by omega) (by omega)) (by rfl) (by rfl) (by decide +kernel) (by rfl) (by rfl) (by omega) (by omega) (by omega) (by omega) rfl ?_
  refine jT_xistore (v := (0, 2)) (LN := [(6, (0, 2)), (5, (0, 0)), (4, (4, 3)), (3, (4, 2)), (2, (4, 1)), (1, (4, 0)), (0, (6, 0))]) (pcN := 3142) jIG_379_3140 rfl rfl rfl rfl ?_
  refine jT_xaload_n (v := (4, 1)) (pcN := 3143) jIG_379_3142 rfl rfl rfl ?_
  refine jT_xaload_n (v := (6, 0)) (pcN := 3144) jIG_379_3143 rfl rfl rfl ?_
  refine jT_xiload (v := (0, 0)) (pcN := 3146) jIG_379_3144 rfl rfl rfl ?_
  refine jT_xiconst (k := 1) (pcN := 3147) jIG_379_3146 rfl ?_
  refine jT_xiadd (x := 0) (y := 1) (z := 1) (pcN := 3148) jIG_379_3147 rfl (by decide) rfl ?_
  refine jT_adv 1 (pcN := 3149) (LN := [(6, (0, 2)), (5, (0, 0)), (4, (4, 3)), (3, (4, 2)), (2, (4, 1)), (1, (4, 0)), (0, (6, 0))]) (stN := [(0, x1), (4, 1)]) (hsN := jpG_246) (c1 := 0) (s1 := 0) (c2 := 0) (s2 := 0) (by exact rfl) ?_ (by omega) (by omega)
  refine jT_xaload_n (v := (6, 0)) (pcN := 3150) jIG_379_3149 rfl rfl rfl ?_
  refine jT_xiload (v := (0, 0)) (pcN := 3152) jIG_379_3150 rfl rfl rfl ?_
  refine jT_xiconst (k := 2) (pcN := 3153) jIG_379_3152 rfl ?_
  refine jT_xiadd (x := 0) (y := 2) (z := 2) (pcN := 3154) jIG_379_3153 rfl (by decide) rfl ?_
  refine jT_adv 1 (pcN := 3155) (LN := [(6, (0, 2)), (5, (0, 0)), (4, (4, 3)), (3, (4, 2)), (2, (4, 1)), (1, (4, 0)), (0, (6, 0))]) (stN := [(0, x2), (0, x1), (4, 1)]) (hsN := jpG_246) (c1 := 0) (s1 := 0) (c2 := 0) (s2 := 0) (by exact rfl) ?_ (by omega) (by omega)
  refine jT_fB [1, 15, 16, 17, 18, 19, 20, 21, 22, 23, 24, 25, 26, 27, 28, 29] 30 (y := 305) (pcN := 3158) (dC := 3) (bc1 := 0) (bc2 := 0) (c1 := 0) (c2 := 0) (as := [(4, 1), (0, x1), (0, x2)]) (asC := [(4, 0), (0, x1), (0, x2)]) (LN := [(6, (0, 2)), (5, (0, 0)), (4, (4, 3)), (3, (4, 2)), (2, (4, 1)), (1, (4, 0)), (0, (6, 0))]) (stN := []) (hsC := jpG_19) (hsD := jpG_44) (v := (0, 0)) (st2 := [(0, 0)]) (hs2 := jpG_280) (jG_305_96 (d := 0) (by omega) (by omega) (by omega)) (by rfl) (by rfl) (by decide +kernel) (by rfl) (by rfl) (by omega) (by omega) (by omega) (by omega) rfl (by decide +kernel) ?_
  refine jT_xistore (v := (0, 0)) (LN := [(7, (0, 0)), (6, (0, 2)), (5, (0, 0)), (4, (4, 3)), (3, (4, 2)), (2, (4, 1)), (1, (4, 0)), (0, (6, 0))]) (pcN := 3160) jIG_379_3158 rfl rfl rfl rfl ?_
  refine jT_xaload_n (v := (4, 1)) (pcN := 3161) jIG_379_3160 rfl rfl rfl ?_
  refine jT_fR [1, 15, 16, 17, 18, 19, 20, 21, 22, 23, 24, 25, 26, 27, 28, 29] 30 (y := 186) (pcN := 3164) (dC := 0) (bc1 := 0) (bc2 := 0) (c1 := 0) (c2 := 0) (as := [(4, 1)]) (asC := [(4, 0)]) (LN := [(7, (0, 0)), (6, (0, 2)), (5, (0, 0)), (4, (4, 3)), (3, (4, 2)), (2, (4, 1)), (1, (4, 0)), (0, (6, 0))]) (stN := []) (hsC := jpG_44) (v := (0, 2)) (st2 := [(0, 2)]) (jG_186_16 (d := 0)) (by rfl) (by rfl) (by decide +kernel) (by rfl) (by rfl) (by omega) (by omega) (by omega) (by omega) rfl ?_
  refine jT_xiload (v := (0, 2)) (pcN := 3166) jIG_379_3164 rfl rfl rfl ?_
  refine jT_xicT (pcN := 3171) jIG_379_3166 rfl (by decide +kernel) rfl ?_
  refine jT_xiload (v := (0, 2)) (pcN := 3173) jIG_379_3171 rfl rfl rfl ?_
  refine jT_xifT (pcN := 3188) jIG_379_3173 rfl (by decide +kernel) rfl ?_
  refine jT_xgoto (pcN := 3740) jIG_379_3188 rfl ?_
  refine jT_xiinc (x := 0) (z := 5) (LN := [(5, (0, 5)), (7, (0, 0)), (6, (0, 2)), (4, (4, 3)), (3, (4, 2)), (2, (4, 1)), (1, (4, 0)), (0, (6, 0))]) (pcN := 3743) jIG_379_3740 rfl rfl (by decide) rfl rfl ?_
  refine jT_xgoto (pcN := 28) jIG_379_3743 rfl ?_
  refine jT_xiload (v := (0, 5)) (pcN := 30) jIG_379_28 rfl rfl rfl ?_
  refine jT_xaload_n (v := (6, 0)) (pcN := 31) jIG_379_30 rfl rfl rfl ?_
  refine jT_adv 1 (pcN := 32) (LN := [(5, (0, 5)), (7, (0, 0)), (6, (0, 2)), (4, (4, 3)), (3, (4, 2)), (2, (4, 1)), (1, (4, 0)), (0, (6, 0))]) (stN := [(0, 5), (0, 5)]) (hsN := jpG_280) (c1 := 0) (s1 := 0) (c2 := 0) (s2 := 0) (by exact rfl) ?_ (by omega) (by omega)
  refine jT_xiconst (k := 5) (pcN := 33) jIG_379_32 rfl ?_
  refine jT_xisub (x := 5) (y := 5) (z := 0) (pcN := 34) jIG_379_33 rfl (by decide) rfl ?_
  refine jT_xicT (pcN := 3746) jIG_379_34 rfl (by decide +kernel) rfl ?_
  refine jT_xiconst (k := 1) (pcN := 3747) jIG_379_3746 rfl ?_
  exact jT_ret rfl (by decide) (by show 30 ≤ 30; decide) (by omega) (by omega) ⟨rfl, rfl⟩
set_option maxRecDepth 100000 in
theorem jL_43_4 {d : Nat} {x0 x1 x2 x3 x4 : Int} (h_x0 : (-2147483648) ≤ x0 ∧ x0 ≤ 2147483647) (h_x1 : 1 ≤ x1 ∧ x1 ≤ 255) (h_x2 : 8 ≤ x2 ∧ x2 ≤ 2147483647) (h_x3 : (-2147483648) ≤ x3 ∧ x3 ≤ 2147483647) (h_x4 : (-2147483648) ≤ x4 ∧ x4 ≤ 2147483647) : jT [x0, x1, x2, x3, x4] (d + 4) 379 30 3123 [(5, (0, 0)), (4, (4, 3)), (3, (4, 2)), (2, (4, 1)), (1, (4, 0)), (0, (6, 0))] [] jpG_246 1 6 (fun k v hsN => k = 0 ∧ v = (0, 1)) := by
  refine jT_xaload_n (v := (4, 0)) (pcN := 3124) jIG_379_3123 rfl rfl rfl ?_
  refine jT_xaload_n (v := (6, 0)) (pcN := 3125) jIG_379_3124 rfl rfl rfl ?_
  refine jT_xiload (v := (0, 0)) (pcN := 3127) jIG_379_3125 rfl rfl rfl ?_
  refine jT_xiconst (k := 1) (pcN := 3128) jIG_379_3127 rfl ?_
  refine jT_xiadd (x := 0) (y := 1) (z := 1) (pcN := 3129) jIG_379_3128 rfl (by decide) rfl ?_
  refine jT_adv 1 (pcN := 3130) (LN := [(5, (0, 0)), (4, (4, 3)), (3, (4, 2)), (2, (4, 1)), (1, (4, 0)), (0, (6, 0))]) (stN := [(0, x1), (4, 0)]) (hsN := jpG_246) (c1 := 0) (s1 := 0) (c2 := 1) (s2 := 6) (by exact rfl) ?_ (by omega) (by omega)
  refine jT_xaload_n (v := (6, 0)) (pcN := 3131) jIG_379_3130 rfl rfl rfl ?_
  refine jT_xiload (v := (0, 0)) (pcN := 3133) jIG_379_3131 rfl rfl rfl ?_
  refine jT_xiconst (k := 2) (pcN := 3134) jIG_379_3133 rfl ?_
  refine jT_xiadd (x := 0) (y := 2) (z := 2) (pcN := 3135) jIG_379_3134 rfl (by decide) rfl ?_
  refine jT_adv 1 (pcN := 3136) (LN := [(5, (0, 0)), (4, (4, 3)), (3, (4, 2)), (2, (4, 1)), (1, (4, 0)), (0, (6, 0))]) (stN := [(0, x2), (0, x1), (4, 0)]) (hsN := jpG_246) (c1 := 0) (s1 := 0) (c2 := 1) (s2 := 6) (by exact rfl) ?_ (by omega) (by omega)
  refine jT_xaload_n (v := (4, 2)) (pcN := 3137) jIG_379_3136 rfl rfl rfl ?_
  refine jT_fR [0, 2, 4, 5, 6, 7, 8, 9, 10, 11, 12, 13, 14] 30 (y := 365) (pcN := 3140) (dC := 2) (bc1 := 1) (bc2 := 6) (c1 := 0) (c2 := 0) (as := [(4, 0), (0, x1), (0, x2), (4, 2)]) (asC := [(4, 0), (0, x1), (0, x2), (4, 1)]) (LN := [(5, (0, 0)), (4, (4, 3)), (3, (4, 2)), (2, (4, 1)), (1, (4, 0)), (0, (6, 0))]) (stN := []) (hsC := jpG_15) (v := (0, 2)) (st2 := [(0, 2)]) (jG_365_99 (d := 0) (by omega) (by omega)) (by rfl) (by rfl) (by decide +kernel) (by rfl) (by rfl) (by omega) (by omega) (by omega) (by omega) rfl ?_
  refine jT_xistore (v := (0, 2)) (LN := [(6, (0, 2)), (5, (0, 0)), (4, (4, 3)), (3, (4, 2)), (2, (4, 1)), (1, (4, 0)), (0, (6, 0))]) (pcN := 3142) jIG_379_3140 rfl rfl rfl rfl ?_
  refine jT_xaload_n (v := (4, 1)) (pcN := 3143) jIG_379_3142 rfl rfl rfl ?_
  refine jT_xaload_n (v := (6, 0)) (pcN := 3144) jIG_379_3143 rfl rfl rfl ?_
  refine jT_xiload (v := (0, 0)) (pcN := 3146) jIG_379_3144 rfl rfl rfl ?_
  refine jT_xiconst (k := 1) (pcN := 3147) jIG_379_3146 rfl ?_
  refine jT_xiadd (x := 0) (y := 1) (z := 1) (pcN := 3148) jIG_379_3147 rfl (by decide) rfl ?_
  refine jT_adv 1 (pcN := 3149) (LN := [(6, (0, 2)), (5, (0, 0)), (4, (4, 3)), (3, (4, 2)), (2, (4, 1)), (1, (4, 0)), (0, (6, 0))]) (stN := [(0, x1), (4, 1)]) (hsN := jpG_246) (c1 := 0) (s1 := 0) (c2 := 0) (s2 := 0) (by exact rfl) ?_ (by omega) (by omega)
  refine jT_xaload_n (v := (6, 0)) (pcN := 3150) jIG_379_3149 rfl rfl rfl ?_
  refine jT_xiload (v := (0, 0)) (pcN := 3152) jIG_379_3150 rfl rfl rfl ?_
  refine jT_xiconst (k := 2) (pcN := 3153) jIG_379_3152 rfl ?_
  refine jT_xiadd (x := 0) (y := 2) (z := 2) (pcN := 3154) jIG_379_3153 rfl (by decide) rfl ?_
  refine jT_adv 1 (pcN := 3155) (LN := [(6, (0, 2)), (5, (0, 0)), (4, (4, 3)), (3, (4, 2)), (2, (4, 1)), (1, (4, 0)), (0, (6, 0))]) (stN := [(0, x2), (0, x1), (4, 1)]) (hsN := jpG_246) (c1 := 0) (s1 := 0) (c2 := 0) (s2 := 0) (by exact rfl) ?_ (by omega) (by omega)
  refine jT_fB [1, 15, 16, 17, 18, 19, 20, 21, 22, 23, 24, 25, 26, 27, 28, 29] 30 (y := 305) (pcN := 3158) (dC := 3) (bc1 := 0) (bc2 := 0) (c1 := 0) (c2 := 0) (as := [(4, 1), (0, x1), (0, x2)]) (asC := [(4, 0), (0, x1), (0, x2)]) (LN := [(6, (0, 2)), (5, (0, 0)), (4, (4, 3)), (3, (4, 2)), (2, (4, 1)), (1, (4, 0)), (0, (6, 0))]) (stN := []) (hsC := jpG_19) (hsD := jpG_44) (v := (0, 0)) (st2 := [(0, 0)]) (hs2 := jpG_280) (jG_305_102 (d := 0) (by omega) (by omega)) (by rfl) (by rfl) (by decide +kernel) (by rfl) (by rfl) (by omega) (by omega) (by omega) (by omega) rfl (by decide +kernel) ?_
  refine jT_xistore (v := (0, 0)) (LN := [(7, (0, 0)), (6, (0, 2)), (5, (0, 0)), (4, (4, 3)), (3, (4, 2)), (2, (4, 1)), (1, (4, 0)), (0, (6, 0))]) (pcN := 3160) jIG_379_3158 rfl rfl rfl rfl ?_
  refine jT_xaload_n (v := (4, 1)) (pcN := 3161) jIG_379_3160 rfl rfl rfl ?_
  refine jT_fR [1, 15, 16, 17, 18, 19, 20, 21, 22, 23, 24, 25, 26, 27, 28, 29] 30 (y := 186) (pcN := 3164) (dC := 0) (bc1 := 0) (bc2 := 0) (c1 := 0) (c2 := 0) (as := [(4, 1)]) (asC := [(4, 0)]) (LN := [(7, (0, 0)), (6, (0, 2)), (5, (0, 0)), (4, (4, 3)), (3, (4, 2)), (2, (4, 1)), (1, (4, 0)), (0, (6, 0))]) (stN := []) (hsC := jpG_44) (v := (0, 2)) (st2 := [(0, 2)]) (jG_186_16 (d := 0)) (by rfl) (by rfl) (by decide +kernel) (by rfl) (by rfl) (by omega) (by omega) (by omega) (by omega) rfl ?_
  refine jT_xiload (v := (0, 2)) (pcN := 3166) jIG_379_3164 rfl rfl rfl ?_
  refine jT_xicT (pcN := 3171) jIG_379_3166 rfl (by decide +kernel) rfl ?_
  refine jT_xiload (v := (0, 2)) (pcN := 3173) jIG_379_3171 rfl rfl rfl ?_
  refine jT_xifT (pcN := 3188) jIG_379_3173 rfl (by decide +kernel) rfl ?_
  refine jT_xgoto (pcN := 3740) jIG_379_3188 rfl ?_
  refine jT_xiinc (x := 0) (z := 5) (LN := [(5, (0, 5)), (7, (0, 0)), (6, (0, 2)), (4, (4, 3)), (3, (4, 2)), (2, (4, 1)), (1, (4, 0)), (0, (6, 0))]) (pcN := 3743) jIG_379_3740 rfl rfl (by decide) rfl rfl ?_
  refine jT_xgoto (pcN := 28) jIG_379_3743 rfl ?_
  refine jT_xiload (v := (0, 5)) (pcN := 30) jIG_379_28 rfl rfl rfl ?_
  refine jT_xaload_n (v := (6, 0)) (pcN := 31) jIG_379_30 rfl rfl rfl ?_
  refine jT_adv 1 (pcN := 32) (LN := [(5, (0, 5)), (7, (0, 0)), (6, (0, 2)), (4, (4, 3)), (3, (4, 2)), (2, (4, 1)), (1, (4, 0)), (0, (6, 0))]) (stN := [(0, 5), (0, 5)]) (hsN := jpG_280) (c1 := 0) (s1 := 0) (c2 := 0) (s2 := 0) (by exact rfl) ?_ (by omega) (by omega)
  refine jT_xiconst (k := 5) (pcN := 33) jIG_379_32 rfl ?_
  refine jT_xisub (x := 5) (y := 5) (z := 0) (pcN := 34) jIG_379_33 rfl (by decide) rfl ?_
  refine jT_xicT (pcN := 3746) jIG_379_34 rfl (by decide +kernel) rfl ?_
  refine jT_xiconst (k := 1) (pcN := 3747) jIG_379_3746 rfl ?_
  exact jT_ret rfl (by decide) (by show 30 ≤ 30; decide) (by omega) (by omega) ⟨rfl, rfl⟩
set_option maxRecDepth 100000 in
theorem jL_43_5 {d : Nat} {x0 x1 x2 x3 x4 : Int} (h_x0 : (-2147483648) ≤ x0 ∧ x0 ≤ 2147483647) (h_x1 : 256 ≤ x1 ∧ x1 ≤ 2147483647) (h_x2 : (-2147483648) ≤ x2 ∧ x2 ≤ 2147483647) (h_x3 : (-2147483648) ≤ x3 ∧ x3 ≤ 2147483647) (h_x4 : (-2147483648) ≤ x4 ∧ x4 ≤ 2147483647) : jT [x0, x1, x2, x3, x4] (d + 3) 379 30 3123 [(5, (0, 0)), (4, (4, 3)), (3, (4, 2)), (2, (4, 1)), (1, (4, 0)), (0, (6, 0))] [] jpG_246 1 6 (fun k v hsN => k = 0 ∧ v = (0, 1)) := by
  refine jT_xaload_n (v := (4, 0)) (pcN := 3124) jIG_379_3123 rfl rfl rfl ?_
  refine jT_xaload_n (v := (6, 0)) (pcN := 3125) jIG_379_3124 rfl rfl rfl ?_
  refine jT_xiload (v := (0, 0)) (pcN := 3127) jIG_379_3125 rfl rfl rfl ?_
  refine jT_xiconst (k := 1) (pcN := 3128) jIG_379_3127 rfl ?_
  refine jT_xiadd (x := 0) (y := 1) (z := 1) (pcN := 3129) jIG_379_3128 rfl (by decide) rfl ?_
  refine jT_adv 1 (pcN := 3130) (LN := [(5, (0, 0)), (4, (4, 3)), (3, (4, 2)), (2, (4, 1)), (1, (4, 0)), (0, (6, 0))]) (stN := [(0, x1), (4, 0)]) (hsN := jpG_246) (c1 := 0) (s1 := 0) (c2 := 1) (s2 := 6) (by exact rfl) ?_ (by omega) (by omega)
  refine jT_xaload_n (v := (6, 0)) (pcN := 3131) jIG_379_3130 rfl rfl rfl ?_
  refine jT_xiload (v := (0, 0)) (pcN := 3133) jIG_379_3131 rfl rfl rfl ?_
  refine jT_xiconst (k := 2) (pcN := 3134) jIG_379_3133 rfl ?_
  refine jT_xiadd (x := 0) (y := 2) (z := 2) (pcN := 3135) jIG_379_3134 rfl (by decide) rfl ?_
  refine jT_adv 1 (pcN := 3136) (LN := [(5, (0, 0)), (4, (4, 3)), (3, (4, 2)), (2, (4, 1)), (1, (4, 0)), (0, (6, 0))]) (stN := [(0, x2), (0, x1), (4, 0)]) (hsN := jpG_246) (c1 := 0) (s1 := 0) (c2 := 1) (s2 := 6) (by exact rfl) ?_ (by omega) (by omega)
  refine jT_xaload_n (v := (4, 2)) (pcN := 3137) jIG_379_3136 rfl rfl rfl ?_
  refine jT_fR [0, 2, 4, 5, 6, 7, 8, 9, 10, 11, 12, 13, 14] 30 (y := 365) (pcN := 3140) (dC := 2) (bc1 := 1) (bc2 := 6) (c1 := 0) (c2 := 0) (as := [(4, 0), (0, x1), (0, x2), (4, 2)]) (asC := [(4, 0), (0, x1), (0, x2), (4, 1)]) (LN := [(5, (0, 0)), (4, (4, 3)), (3, (4, 2)), (2, (4, 1)), (1, (4, 0)), (0, (6, 0))]) (stN := []) (hsC := jpG_15) (v := (0, 1)) (st2 := [(0, 1)]) (jG_365_105 (d := 0) (by omega) (by omega)) (by rfl) (by rfl) (by decide +kernel) (by rfl) (by rfl) (by omega) (by omega) (by omega) (by omega) rfl ?_
  refine jT_xistore (v := (0, 1)) (LN := [(6, (0, 1)), (5, (0, 0)), (4, (4, 3)), (3, (4, 2)), (2, (4, 1)), (1, (4, 0)), (0, (6, 0))]) (pcN := 3142) jIG_379_3140 rfl rfl rfl rfl ?_
  refine jT_xaload_n (v := (4, 1)) (pcN := 3143) jIG_379_3142 rfl rfl rfl ?_
  refine jT_xaload_n (v := (6, 0)) (pcN := 3144) jIG_379_3143 rfl rfl rfl ?_
  refine jT_xiload (v := (0, 0)) (pcN := 3146) jIG_379_3144 rfl rfl rfl ?_
  refine jT_xiconst (k := 1) (pcN := 3147) jIG_379_3146 rfl ?_
  refine jT_xiadd (x := 0) (y := 1) (z := 1) (pcN := 3148) jIG_379_3147 rfl (by decide) rfl ?_
  refine jT_adv 1 (pcN := 3149) (LN := [(6, (0, 1)), (5, (0, 0)), (4, (4, 3)), (3, (4, 2)), (2, (4, 1)), (1, (4, 0)), (0, (6, 0))]) (stN := [(0, x1), (4, 1)]) (hsN := jpG_246) (c1 := 0) (s1 := 0) (c2 := 0) (s2 := 0) (by exact rfl) ?_ (by omega) (by omega)
  refine jT_xaload_n (v := (6, 0)) (pcN := 3150) jIG_379_3149 rfl rfl rfl ?_
  refine jT_xiload (v := (0, 0)) (pcN := 3152) jIG_379_3150 rfl rfl rfl ?_
  refine jT_xiconst (k := 2) (pcN := 3153) jIG_379_3152 rfl ?_
  refine jT_xiadd (x := 0) (y := 2) (z := 2) (pcN := 3154) jIG_379_3153 rfl (by decide) rfl ?_
  refine jT_adv 1 (pcN := 3155) (LN := [(6, (0, 1)), (5, (0, 0)), (4, (4, 3)), (3, (4, 2)), (2, (4, 1)), (1, (4, 0)), (0, (6, 0))]) (stN := [(0, x2), (0, x1), (4, 1)]) (hsN := jpG_246) (c1 := 0) (s1 := 0) (c2 := 0) (s2 := 0) (by exact rfl) ?_ (by omega) (by omega)
  refine jT_fB [1, 15, 16, 17, 18, 19, 20, 21, 22, 23, 24, 25, 26, 27, 28, 29] 30 (y := 305) (pcN := 3158) (dC := 1) (bc1 := 0) (bc2 := 0) (c1 := 0) (c2 := 0) (as := [(4, 1), (0, x1), (0, x2)]) (asC := [(4, 0), (0, x1), (0, x2)]) (LN := [(6, (0, 1)), (5, (0, 0)), (4, (4, 3)), (3, (4, 2)), (2, (4, 1)), (1, (4, 0)), (0, (6, 0))]) (stN := []) (hsC := jpG_19) (hsD := jpG_17) (v := (0, 0)) (st2 := [(0, 0)]) (hs2 := jpG_263) (jG_305_106 (d := 0) (by omega) (by omega)) (by rfl) (by rfl) (by decide +kernel) (by rfl) (by rfl) (by omega) (by omega) (by omega) (by omega) rfl (by decide +kernel) ?_
  refine jT_xistore (v := (0, 0)) (LN := [(7, (0, 0)), (6, (0, 1)), (5, (0, 0)), (4, (4, 3)), (3, (4, 2)), (2, (4, 1)), (1, (4, 0)), (0, (6, 0))]) (pcN := 3160) jIG_379_3158 rfl rfl rfl rfl ?_
  refine jT_xaload_n (v := (4, 1)) (pcN := 3161) jIG_379_3160 rfl rfl rfl ?_
  refine jT_fR [1, 15, 16, 17, 18, 19, 20, 21, 22, 23, 24, 25, 26, 27, 28, 29] 30 (y := 186) (pcN := 3164) (dC := 0) (bc1 := 0) (bc2 := 0) (c1 := 0) (c2 := 0) (as := [(4, 1)]) (asC := [(4, 0)]) (LN := [(7, (0, 0)), (6, (0, 1)), (5, (0, 0)), (4, (4, 3)), (3, (4, 2)), (2, (4, 1)), (1, (4, 0)), (0, (6, 0))]) (stN := []) (hsC := jpG_17) (v := (0, 1)) (st2 := [(0, 1)]) (jG_186_6 (d := 0)) (by rfl) (by rfl) (by decide +kernel) (by rfl) (by rfl) (by omega) (by omega) (by omega) (by omega) rfl ?_
  refine jT_xiload (v := (0, 1)) (pcN := 3166) jIG_379_3164 rfl rfl rfl ?_
  refine jT_xicT (pcN := 3171) jIG_379_3166 rfl (by decide +kernel) rfl ?_
  refine jT_xiload (v := (0, 1)) (pcN := 3173) jIG_379_3171 rfl rfl rfl ?_
  refine jT_xifT (pcN := 3188) jIG_379_3173 rfl (by decide +kernel) rfl ?_
  refine jT_xgoto (pcN := 3740) jIG_379_3188 rfl ?_
  refine jT_xiinc (x := 0) (z := 5) (LN := [(5, (0, 5)), (7, (0, 0)), (6, (0, 1)), (4, (4, 3)), (3, (4, 2)), (2, (4, 1)), (1, (4, 0)), (0, (6, 0))]) (pcN := 3743) jIG_379_3740 rfl rfl (by decide) rfl rfl ?_
  refine jT_xgoto (pcN := 28) jIG_379_3743 rfl ?_
  refine jT_xiload (v := (0, 5)) (pcN := 30) jIG_379_28 rfl rfl rfl ?_
  refine jT_xaload_n (v := (6, 0)) (pcN := 31) jIG_379_30 rfl rfl rfl ?_
  refine jT_adv 1 (pcN := 32) (LN := [(5, (0, 5)), (7, (0, 0)), (6, (0, 1)), (4, (4, 3)), (3, (4, 2)), (2, (4, 1)), (1, (4, 0)), (0, (6, 0))]) (stN := [(0, 5), (0, 5)]) (hsN := jpG_263) (c1 := 0) (s1 := 0) (c2 := 0) (s2 := 0) (by exact rfl) ?_ (by omega) (by omega)
  refine jT_xiconst (k := 5) (pcN := 33) jIG_379_32 rfl ?_
  refine jT_xisub (x := 5) (y := 5) (z := 0) (pcN := 34) jIG_379_33 rfl (by decide) rfl ?_
  refine jT_xicT (pcN := 3746) jIG_379_34 rfl (by decide +kernel) rfl ?_
  refine jT_xiconst (k := 1) (pcN := 3747) jIG_379_3746 rfl ?_
  exact jT_ret rfl (by decide) (by show 30 ≤ 30; decide) (by omega) (by omega) ⟨rfl, rfl⟩
