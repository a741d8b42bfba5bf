/-! the law, case by case: 47 -/
theorem jIF_116_0 : jmI (jm 116) 0 = (.iload_n 1, 1) := by rfl
theorem jIF_116_1 : jmI (jm 116) 1 = (.iload_n 2, 1) := by rfl
theorem jIF_116_2 : jmI (jm 116) 2 = (.if_icmp .lt 8, 3) := by rfl
theorem jF_116_1 {xs : List Int} {d : Nat} {x1 : Int} (h_x1 : (-2147483648) ≤ x1 ∧ x1 ≤ 0) : jT xs d 116 1 0 [(0, (4, 0)), (1, (0, x1)), (2, (0, 1)), (3, (0, 30))] [] [jgh] 1 6 (fun k v hsN => k = 1 ∧ v = (0, 1) ∧ hsN = [jgh] ++ []) := by
  refine jT_xiload_n (v := (0, x1)) (pcN := 1) jIF_116_0 rfl rfl rfl ?_
  refine jT_xiload_n (v := (0, 1)) (pcN := 2) jIF_116_1 rfl rfl rfl ?_
  refine jT_icT (a := x1) (b := 1) (t := 10) (by rfl) (by rfl) (by rfl) (jw_idd (by omega) (by omega)) (jw_idd (by omega) (by omega)) (by simp only [jcP] <;> omega) ?_
  exact jT_ret (c1 := 1) (s1 := 6) rfl (by decide) (by show 1 ≤ 1; omega) (by omega) (by omega) ⟨rfl, rfl, rfl⟩
theorem jIF_171_0 : jmI (jm 171) 0 = (.aload_n 0, 1) := by rfl
theorem jIF_171_1 : jmI (jm 171) 1 = (.iload_n 1, 1) := by rfl
theorem jIF_171_2 : jmI (jm 171) 2 = (.iconst 1, 1) := by rfl
theorem jIF_171_3 : jmI (jm 171) 3 = (.bipush 30, 2) := by rfl
def jzF_7 : JC := (13, [(4, 1), (4, 2), (4, 3), (4, 4), (4, 5), (4, 6), (4, 7), (4, 8), (4, 9), (4, 10), (0, 0), (4, 11), (0, 0)], [])
def jpF_8 : List JC := [jzF_7, jgh, jgh, jgh, jgh, jgh, jgh, jgh, jgh, jgh, jgh, jgh]
theorem jF_171_2 {xs : List Int} {d : Nat} {x1 x2 : Int} (h_x1 : (-2147483648) ≤ x1 ∧ x1 ≤ 0) (h_x2 : (-2147483648) ≤ x2 ∧ x2 ≤ 2147483647) : jT xs (d + 1) 171 12 0 [(0, (4, 0)), (1, (0, x1)), (2, (0, x2))] [] jpF_8 1 6 (fun k v hsN => k = 1 ∧ v = (0, 1) ∧ hsN = jpF_8 ++ []) := by
  refine jT_xaload_n (v := (4, 0)) (pcN := 1) jIF_171_0 rfl rfl rfl ?_
  refine jT_xiload_n (v := (0, x1)) (pcN := 2) jIF_171_1 rfl rfl rfl ?_
  refine jT_xiconst (k := 1) (pcN := 3) jIF_171_2 rfl ?_
  refine jT_xbipush (k := 30) (pcN := 5) jIF_171_3 (by decide) rfl ?_
  exact jT_fX [0] 12 (y := 116) (pcN := 8) (dC := 0) (bc1 := 1) (bc2 := 6) (as := [(4, 0), (0, x1), (0, 1), (0, 30)]) (asC := [(4, 0), (0, x1), (0, 1), (0, 30)]) (LN := [(0, (4, 0)), (1, (0, x1)), (2, (0, x2))]) (stN := []) (hsC := [jgh]) (e := 1) (jF_116_1 (d := 0) (by omega)) (by rfl) (by rfl) (by decide +kernel) (by rfl) (by rfl) (by omega) (by omega) (by omega) (by omega) ⟨rfl, ⟨rfl, rfl, rfl⟩⟩
theorem jIF_369_0 : jmI (jm 369) 0 = (.aload_n 3, 1) := by rfl
theorem jIF_369_1 : jmI (jm 369) 1 = (.iconst 0, 1) := by rfl
theorem jIF_369_2 : jmI (jm 369) 2 = (.aload_n 0, 1) := by rfl
theorem jIF_369_3 : jmI (jm 369) 3 = (.iload_n 1, 1) := by rfl
theorem jIF_369_4 : jmI (jm 369) 4 = (.iload_n 2, 1) := by rfl
def jzF_14 : JC := (13, [(4, 2), (4, 3), (4, 4), (4, 5), (4, 6), (4, 7), (4, 8), (4, 9), (4, 10), (4, 11), (0, 0), (4, 12), (0, 0)], [])
def jpF_15 : List JC := [jzF_14, jgh, jgh, jgh, jgh, jgh, jgh, jgh, jgh, jgh, jgh, jgh, jgh]
theorem jF_369_3 {xs : List Int} {d : Nat} {x1 x2 : Int} (h_x1 : (-2147483648) ≤ x1 ∧ x1 ≤ 0) (h_x2 : (-2147483648) ≤ x2 ∧ x2 ≤ 2147483647) : jT xs (d + 2) 369 13 0 [(0, (4, 0)), (1, (0, x1)), (2, (0, x2)), (3, (4, 1))] [] jpF_15 1 6 (fun k v hsN => k = 0 ∧ v = (0, 1) ∧ hsN = jpF_15 ++ []) := by
  refine jT_xaload_n (v := (4, 1)) (pcN := 1) jIF_369_0 rfl rfl rfl ?_
  refine jT_xiconst (k := 0) (pcN := 2) jIF_369_1 rfl ?_
  refine jT_xaload_n (v := (4, 0)) (pcN := 3) jIF_369_2 rfl rfl rfl ?_
  refine jT_xiload_n (v := (0, x1)) (pcN := 4) jIF_369_3 rfl rfl rfl ?_
  refine jT_xiload_n (v := (0, x2)) (pcN := 5) jIF_369_4 rfl rfl rfl ?_
  exact jT_fX [0, 2, 3, 4, 5, 6, 7, 8, 9, 10, 11, 12] 13 (y := 171) (pcN := 8) (dC := 1) (bc1 := 1) (bc2 := 6) (as := [(4, 0), (0, x1), (0, x2)]) (asC := [(4, 0), (0, x1), (0, x2)]) (LN := [(0, (4, 0)), (1, (0, x1)), (2, (0, x2)), (3, (4, 1))]) (stN := [(0, 0), (4, 1)]) (hsC := jpF_8) (e := 1) (jF_171_2 (d := 0) (by omega) (by omega)) (by rfl) (by rfl) (by decide +kernel) (by rfl) (by rfl) (by omega) (by omega) (by omega) (by omega) (show _ from ⟨rfl, rfl, rfl⟩)
def jzF_16 : JC := (14, [(0, 1), (4, 1), (4, 2), (4, 3), (4, 4), (0, 0), (4, 5), (0, 0), (4, 6), (4, 7), (1, 1), (4, 8), (0, 0), (4, 9), (0, 0), (0, 0), (0, 0), (0, 0), (0, 0), (0, 0), (0, 0), (4, 10), (4, 11), (4, 12), (4, 13), (4, 14), (4, 15), (0, 0)], [])
def jpF_17 : List JC := [jzF_16, jgh, jgh, jgh, jgh, jgh, jgh, jgh, jgh, jgh, jgh, jgh, jgh, jgh, jgh, jgh]
def jzF_18 : JC := (14, [(0, 0), (4, 1), (4, 2), (4, 3), (4, 4), (0, 0), (4, 5), (0, 0), (4, 6), (4, 7), (1, 1), (4, 8), (0, 0), (4, 9), (0, 0), (0, 0), (0, 0), (0, 0), (0, 0), (0, 0), (0, 0), (4, 10), (4, 11), (4, 12), (4, 13), (4, 14), (4, 15), (0, 0)], [])
def jpF_19 : List JC := [jzF_18, jgh, jgh, jgh, jgh, jgh, jgh, jgh, jgh, jgh, jgh, jgh, jgh, jgh, jgh, jgh]
theorem jF_191_4 {xs : List Int} {d : Nat} : jT xs d 191 16 0 [(0, (4, 0)), (1, (0, 0)), (2, (0, 1))] [] jpF_19 0 0 (fun k v hsN => k = 0 ∧ v = (0, 1) ∧ hsN = jpF_17) := by
  refine jT_advK 9 (pcN := 18) (LN := [(0, (4, 0)), (1, (0, 0)), (2, (0, 1))]) (stN := [(0, 1)]) (hsN := jpF_17) (c1 := 0) (s1 := 0) (c2 := 0) (s2 := 0) (by decide +kernel) ?_ (by omega) (by omega)
  exact jT_ret rfl (by decide) (by show 16 ≤ 16; omega) (by omega) (by omega) ⟨rfl, rfl, rfl⟩
theorem jF_190_5 {xs : List Int} {d : Nat} : jT xs (d + 1) 190 16 0 [(0, (4, 0)), (1, (0, 0))] [] jpF_19 0 0 (fun k v hsN => k = 0 ∧ v = (0, 1) ∧ hsN = jpF_17) := by
  refine jT_advK 6 (pcN := 8) (LN := [(0, (4, 0)), (1, (0, 0))]) (stN := [(0, 1), (0, 0), (4, 0)]) (hsN := jpF_19) (c1 := 0) (s1 := 0) (c2 := 0) (s2 := 0) (by decide +kernel) ?_ (by omega) (by omega)
  refine jT_fB [0, 1, 2, 3, 4, 5, 6, 7, 8, 9, 10, 11, 12, 13, 14, 15] 16 (y := 191) (pcN := 11) (dC := 0) (bc1 := 0) (bc2 := 0) (c1 := 0) (c2 := 0) (as := [(4, 0), (0, 0), (0, 1)]) (asC := [(4, 0), (0, 0), (0, 1)]) (LN := [(0, (4, 0)), (1, (0, 0))]) (stN := []) (hsC := jpF_19) (hsD := jpF_17) (v := (0, 1)) (st2 := [(0, 1)]) (hs2 := jpF_17) (jF_191_4 (d := 0)) (by rfl) (by rfl) (by decide +kernel) (by rfl) (by rfl) (by omega) (by omega) (by omega) (by omega) rfl (by decide +kernel) ?_
  exact jT_ret rfl (by decide) (by show 16 ≤ 16; omega) (by omega) (by omega) ⟨rfl, rfl, rfl⟩
theorem jIF_314_0 : jmI (jm 314) 0 = (.aload_n 0, 1) := by rfl
theorem jIF_314_1 : jmI (jm 314) 1 = (.iload_n 1, 1) := by rfl
theorem jIF_314_2 : jmI (jm 314) 2 = (.i2l, 1) := by rfl
theorem jIF_314_3 : jmI (jm 314) 3 = (.lconst 1, 1) := by rfl
theorem jIF_314_10 : jmI (jm 314) 10 = (.ifCond .eq 18, 3) := by rfl
theorem jIF_314_28 : jmI (jm 314) 28 = (.iconst 0, 1) := by rfl
theorem jIF_314_32 : jmI (jm 314) 32 = (.ifCond .eq 5, 3) := by rfl
theorem jIF_314_35 : jmI (jm 314) 35 = (.iconst 0, 1) := by rfl
theorem jF_314_6 {xs : List Int} {d : Nat} {x1 x2 : Int} (h_x1 : (-2147483648) ≤ x1 ∧ x1 ≤ 0) (h_x2 : (-2147483648) ≤ x2 ∧ x2 ≤ 2147483647) : jT xs (d + 2) 314 16 0 [(0, (4, 0)), (1, (0, x1)), (2, (0, x2))] [] jpF_19 0 0 (fun k v hsN => k = 0 ∧ v = (0, 0) ∧ hsN = jpF_17) := by
  refine jT_xaload_n (v := (4, 0)) (pcN := 1) jIF_314_0 rfl rfl rfl ?_
  refine jT_xiload_n (v := (0, x1)) (pcN := 2) jIF_314_1 rfl rfl rfl ?_
  refine jT_xi2l (x := x1) (z := x1) (pcN := 3) jIF_314_2 rfl (jw_idd (by omega) (by omega)) rfl ?_
  refine jT_xlconst (z := 1) (pcN := 4) jIF_314_3 rfl rfl ?_
  refine jT_adv 1 (pcN := 7) (LN := [(0, (4, 0)), (1, (0, x1)), (2, (0, x2))]) (stN := [(1, 30), (1, 1), (1, x1), (4, 0)]) (hsN := jpF_19) (c1 := 0) (s1 := 0) (c2 := 0) (s2 := 0) (by exact rfl) ?_ (by omega) (by omega)
  refine jT_fR [] 16 (y := 189) (pcN := 10) (dC := 0) (bc1 := 0) (bc2 := 0) (c1 := 0) (c2 := 0) (as := [(1, x1), (1, 1), (1, 30)]) (asC := [(1, x1), (1, 1), (1, 30)]) (LN := [(0, (4, 0)), (1, (0, x1)), (2, (0, x2))]) (stN := [(4, 0)]) (hsC := []) (v := (0, 0)) (st2 := [(0, 0), (4, 0)]) (jT_in_lo (d := 0) (v := x1) (lo := 1) (hi := 30) (by omega) (by omega) (by omega) (by omega)) (by rfl) (by rfl) (by decide +kernel) (by rfl) (by rfl) (by omega) (by omega) (by omega) (by omega) rfl ?_
  refine jT_xifT (pcN := 28) jIF_314_10 rfl (by decide +kernel) rfl ?_
  refine jT_xiconst (k := 0) (pcN := 29) jIF_314_28 rfl ?_
  refine jT_fB [0, 1, 2, 3, 4, 5, 6, 7, 8, 9, 10, 11, 12, 13, 14, 15] 16 (y := 190) (pcN := 32) (dC := 1) (bc1 := 0) (bc2 := 0) (c1 := 0) (c2 := 0) (as := [(4, 0), (0, 0)]) (asC := [(4, 0), (0, 0)]) (LN := [(0, (4, 0)), (1, (0, x1)), (2, (0, x2))]) (stN := []) (hsC := jpF_19) (hsD := jpF_17) (v := (0, 1)) (st2 := [(0, 1)]) (hs2 := jpF_17) (jF_190_5 (d := 0)) (by rfl) (by rfl) (by decide +kernel) (by rfl) (by rfl) (by omega) (by omega) (by omega) (by omega) rfl (by decide +kernel) ?_
  refine jT_xifF (t := 37) (pcN := 35) jIF_314_32 rfl (by decide +kernel) rfl rfl ?_
  refine jT_xiconst (k := 0) (pcN := 36) jIF_314_35 rfl ?_
  exact jT_ret rfl (by decide) (by show 16 ≤ 16; omega) (by omega) (by omega) ⟨rfl, rfl, rfl⟩
theorem jF_186_7 {xs : List Int} {d : Nat} : jT xs d 186 16 0 [(0, (4, 0))] [] jpF_17 0 0 (fun k v hsN => k = 0 ∧ v = (0, 1) ∧ hsN = jpF_17 ++ []) := by
  refine jT_advK 2 (pcN := 4) (LN := [(0, (4, 0))]) (stN := [(0, 1)]) (hsN := jpF_17) (c1 := 0) (s1 := 0) (c2 := 0) (s2 := 0) (by decide +kernel) ?_ (by omega) (by omega)
  exact jT_ret rfl (by decide) (by show 16 ≤ 16; omega) (by omega) (by omega) ⟨rfl, rfl, rfl⟩
theorem jIF_116_5 : jmI (jm 116) 5 = (.iload_n 1, 1) := by rfl
theorem jIF_116_6 : jmI (jm 116) 6 = (.iload_n 3, 1) := by rfl
theorem jIF_116_7 : jmI (jm 116) 7 = (.if_icmp .le 14, 3) := by rfl
theorem jF_116_8 {xs : List Int} {d : Nat} {x1 : Int} (h_x1 : 1 ≤ x1 ∧ x1 ≤ 30) : jT xs d 116 1 0 [(0, (4, 0)), (1, (0, x1)), (2, (0, 1)), (3, (0, 30))] [] [jgh] 0 0 (fun k v hsN => k = 0 ∧ v = (9, 0) ∧ hsN = [jgh] ++ []) := by
  refine jT_xiload_n (v := (0, x1)) (pcN := 1) jIF_116_0 rfl rfl rfl ?_
  refine jT_xiload_n (v := (0, 1)) (pcN := 2) jIF_116_1 rfl rfl rfl ?_
  refine jT_icF (a := x1) (b := 1) (t := 10) (by rfl) (by rfl) (by rfl) (jw_idd (by omega) (by omega)) (jw_idd (by omega) (by omega)) (by simp only [jcP] <;> omega) ?_
  refine jT_xiload_n (v := (0, x1)) (pcN := 6) jIF_116_5 rfl rfl rfl ?_
  refine jT_xiload_n (v := (0, 30)) (pcN := 7) jIF_116_6 rfl rfl rfl ?_
  refine jT_icT (a := x1) (b := 30) (t := 21) (by rfl) (by rfl) (by rfl) (jw_idd (by omega) (by omega)) (jw_idd (by omega) (by omega)) (by simp only [jcP] <;> omega) ?_
  exact jT_ret rfl (by decide) (by show 1 ≤ 1; omega) (by omega) (by omega) ⟨rfl, rfl, rfl⟩
theorem jF_116_9 {xs : List Int} {d : Nat} {x1 x2 : Int} (h_x1 : 1 ≤ x1 ∧ x1 ≤ 30) (h_x2 : (-2147483648) ≤ x2 ∧ x2 ≤ (-1)) : jT xs d 116 1 0 [(0, (4, 0)), (1, (0, x2)), (2, (0, 0)), (3, (0, x1))] [] [jgh] 1 6 (fun k v hsN => k = 1 ∧ v = (0, 1) ∧ hsN = [jgh] ++ []) := by
  refine jT_xiload_n (v := (0, x2)) (pcN := 1) jIF_116_0 rfl rfl rfl ?_
  refine jT_xiload_n (v := (0, 0)) (pcN := 2) jIF_116_1 rfl rfl rfl ?_
  refine jT_icT (a := x2) (b := 0) (t := 10) (by rfl) (by rfl) (by rfl) (jw_idd (by omega) (by omega)) (jw_idd (by omega) (by omega)) (by simp only [jcP] <;> omega) ?_
  exact jT_ret (c1 := 1) (s1 := 6) rfl (by decide) (by show 1 ≤ 1; omega) (by omega) (by omega) ⟨rfl, rfl, rfl⟩
theorem jIF_171_8 : jmI (jm 171) 8 = (.aload_n 0, 1) := by rfl
theorem jIF_171_9 : jmI (jm 171) 9 = (.iload_n 2, 1) := by rfl
theorem jIF_171_10 : jmI (jm 171) 10 = (.iconst 0, 1) := by rfl
theorem jIF_171_11 : jmI (jm 171) 11 = (.iload_n 1, 1) := by rfl
theorem jF_171_10 {xs : List Int} {d : Nat} {x1 x2 : Int} (h_x1 : 1 ≤ x1 ∧ x1 ≤ 30) (h_x2 : (-2147483648) ≤ x2 ∧ x2 ≤ (-1)) : jT xs (d + 1) 171 12 0 [(0, (4, 0)), (1, (0, x1)), (2, (0, x2))] [] jpF_8 1 6 (fun k v hsN => k = 1 ∧ v = (0, 1) ∧ hsN = jpF_8 ++ []) := by
  refine jT_xaload_n (v := (4, 0)) (pcN := 1) jIF_171_0 rfl rfl rfl ?_
  refine jT_xiload_n (v := (0, x1)) (pcN := 2) jIF_171_1 rfl rfl rfl ?_
  refine jT_xiconst (k := 1) (pcN := 3) jIF_171_2 rfl ?_
  refine jT_xbipush (k := 30) (pcN := 5) jIF_171_3 (by decide) rfl ?_
  refine jT_fR [0] 12 (y := 116) (pcN := 8) (dC := 0) (bc1 := 0) (bc2 := 0) (c1 := 1) (c2 := 6) (as := [(4, 0), (0, x1), (0, 1), (0, 30)]) (asC := [(4, 0), (0, x1), (0, 1), (0, 30)]) (LN := [(0, (4, 0)), (1, (0, x1)), (2, (0, x2))]) (stN := []) (hsC := [jgh]) (v := (9, 0)) (st2 := []) (jF_116_8 (d := 0) (by omega)) (by rfl) (by rfl) (by decide +kernel) (by rfl) (by rfl) (by omega) (by omega) (by omega) (by omega) rfl ?_
  refine jT_xaload_n (v := (4, 0)) (pcN := 9) jIF_171_8 rfl rfl rfl ?_
  refine jT_xiload_n (v := (0, x2)) (pcN := 10) jIF_171_9 rfl rfl rfl ?_
  refine jT_xiconst (k := 0) (pcN := 11) jIF_171_10 rfl ?_
  refine jT_xiload_n (v := (0, x1)) (pcN := 12) jIF_171_11 rfl rfl rfl ?_
  exact jT_fX [0] 12 (y := 116) (pcN := 15) (dC := 0) (bc1 := 1) (bc2 := 6) (as := [(4, 0), (0, x2), (0, 0), (0, x1)]) (asC := [(4, 0), (0, x2), (0, 0), (0, x1)]) (LN := [(0, (4, 0)), (1, (0, x1)), (2, (0, x2))]) (stN := []) (hsC := [jgh]) (e := 1) (jF_116_9 (d := 0) (by omega) (by omega)) (by rfl) (by rfl) (by decide +kernel) (by rfl) (by rfl) (by omega) (by omega) (by omega) (by omega) ⟨rfl, ⟨rfl, rfl, rfl⟩⟩
theorem jF_369_11 {xs : List Int} {d : Nat} {x1 x2 : Int} (h_x1 : 1 ≤ x1 ∧ x1 ≤ 30) (h_x2 : (-2147483648) ≤ x2 ∧ x2 ≤ (-1)) : jT xs (d + 2) 369 13 0 [(0, (4, 0)), (1, (0, x1)), (2, (0, x2)), (3, (4, 1))] [] jpF_15 1 6 (fun k v hsN => k = 0 ∧ v = (0, 1) ∧ hsN = jpF_15 ++ []) := by
  refine jT_xaload_n (v := (4, 1)) (pcN := 1) jIF_369_0 rfl rfl rfl ?_
  refine jT_xiconst (k := 0) (pcN := 2) jIF_369_1 rfl ?_
  refine jT_xaload_n (v := (4, 0)) (pcN := 3) jIF_369_2 rfl rfl rfl ?_
  refine jT_xiload_n (v := (0, x1)) (pcN := 4) jIF_369_3 rfl rfl rfl ?_
  refine jT_xiload_n (v := (0, x2)) (pcN := 5) jIF_369_4 rfl rfl rfl ?_
  exact jT_fX [0, 2, 3, 4, 5, 6, 7, 8, 9, 10, 11, 12] 13 (y := 171) (pcN := 8) (dC := 1) (bc1 := 1) (bc2 := 6) (as := [(4, 0), (0, x1), (0, x2)]) (asC := [(4, 0), (0, x1), (0, x2)]) (LN := [(0, (4, 0)), (1, (0, x1)), (2, (0, x2)), (3, (4, 1))]) (stN := [(0, 0), (4, 1)]) (hsC := jpF_8) (e := 1) (jF_171_10 (d := 0) (by omega) (by omega)) (by rfl) (by rfl) (by decide +kernel) (by rfl) (by rfl) (by omega) (by omega) (by omega) (by omega) (show _ from ⟨rfl, rfl, rfl⟩)
theorem jIF_314_13 : jmI (jm 314) 13 = (.iload_n 2, 1) := by rfl
theorem jIF_314_14 : jmI (jm 314) 14 = (.i2l, 1) := by rfl
theorem jIF_314_15 : jmI (jm 314) 15 = (.lconst 0, 1) := by rfl
theorem jIF_314_16 : jmI (jm 314) 16 = (.iload_n 1, 1) := by rfl
theorem jIF_314_17 : jmI (jm 314) 17 = (.i2l, 1) := by rfl
theorem jIF_314_21 : jmI (jm 314) 21 = (.ifCond .eq 7, 3) := by rfl
theorem jF_314_12 {xs : List Int} {d : Nat} {x1 x2 : Int} (h_x1 : 1 ≤ x1 ∧ x1 ≤ 30) (h_x2 : (-2147483648) ≤ x2 ∧ x2 ≤ (-1)) : jT xs (d + 2) 314 16 0 [(0, (4, 0)), (1, (0, x1)), (2, (0, x2))] [] jpF_19 0 0 (fun k v hsN => k = 0 ∧ v = (0, 0) ∧ hsN = jpF_17) := by
  refine jT_xaload_n (v := (4, 0)) (pcN := 1) jIF_314_0 rfl rfl rfl ?_
  refine jT_xiload_n (v := (0, x1)) (pcN := 2) jIF_314_1 rfl rfl rfl ?_
  refine jT_xi2l (x := x1) (z := x1) (pcN := 3) jIF_314_2 rfl (jw_idd (by omega) (by omega)) rfl ?_
  refine jT_xlconst (z := 1) (pcN := 4) jIF_314_3 rfl rfl ?_
  refine jT_adv 1 (pcN := 7) (LN := [(0, (4, 0)), (1, (0, x1)), (2, (0, x2))]) (stN := [(1, 30), (1, 1), (1, x1), (4, 0)]) (hsN := jpF_19) (c1 := 0) (s1 := 0) (c2 := 0) (s2 := 0) (by exact rfl) ?_ (by omega) (by omega)
  refine jT_fR [] 16 (y := 189) (pcN := 10) (dC := 0) (bc1 := 0) (bc2 := 0) (c1 := 0) (c2 := 0) (as := [(1, x1), (1, 1), (1, 30)]) (asC := [(1, x1), (1, 1), (1, 30)]) (LN := [(0, (4, 0)), (1, (0, x1)), (2, (0, x2))]) (stN := [(4, 0)]) (hsC := []) (v := (0, 1)) (st2 := [(0, 1), (4, 0)]) (jT_in_ok (d := 0) (v := x1) (lo := 1) (hi := 30) (by omega) (by omega) (by omega) (by omega) (by omega)) (by rfl) (by rfl) (by decide +kernel) (by rfl) (by rfl) (by omega) (by omega) (by omega) (by omega) rfl ?_
  refine jT_xifF (t := 28) (pcN := 13) jIF_314_10 rfl (by decide +kernel) rfl rfl ?_
  refine jT_xiload_n (v := (0, x2)) (pcN := 14) jIF_314_13 rfl rfl rfl ?_
  refine jT_xi2l (x := x2) (z := x2) (pcN := 15) jIF_314_14 rfl (jw_idd (by omega) (by omega)) rfl ?_
  refine jT_xlconst (z := 0) (pcN := 16) jIF_314_15 rfl rfl ?_
  refine jT_xiload_n (v := (0, x1)) (pcN := 17) jIF_314_16 rfl rfl rfl ?_
  refine jT_xi2l (x := x1) (z := x1) (pcN := 18) jIF_314_17 rfl (jw_idd (by omega) (by omega)) rfl ?_
  refine jT_fR [] 16 (y := 189) (pcN := 21) (dC := 0) (bc1 := 0) (bc2 := 0) (c1 := 0) (c2 := 0) (as := [(1, x2), (1, 0), (1, x1)]) (asC := [(1, x2), (1, 0), (1, x1)]) (LN := [(0, (4, 0)), (1, (0, x1)), (2, (0, x2))]) (stN := [(4, 0)]) (hsC := []) (v := (0, 0)) (st2 := [(0, 0), (4, 0)]) (jT_in_lo (d := 0) (v := x2) (lo := 0) (hi := x1) (by omega) (by omega) (by omega) (by omega)) (by rfl) (by rfl) (by decide +kernel) (by rfl) (by rfl) (by omega) (by omega) (by omega) (by omega) rfl ?_
  refine jT_xifT (pcN := 28) jIF_314_21 rfl (by decide +kernel) rfl ?_
  refine jT_xiconst (k := 0) (pcN := 29) jIF_314_28 rfl ?_
  refine jT_fB [0, 1, 2, 3, 4, 5, 6, 7, 8, 9, 10, 11, 12, 13, 14, 15] 16 (y := 190) (pcN := 32) (dC := 1) (bc1 := 0) (bc2 := 0) (c1 := 0) (c2 := 0) (as := [(4, 0), (0, 0)]) (asC := [(4, 0), (0, 0)]) (LN := [(0, (4, 0)), (1, (0, x1)), (2, (0, x2))]) (stN := []) (hsC := jpF_19) (hsD := jpF_17) (v := (0, 1)) (st2 := [(0, 1)]) (hs2 := jpF_17) (jF_190_5 (d := 0)) (by rfl) (by rfl) (by decide +kernel) (by rfl) (by rfl) (by omega) (by omega) (by omega) (by omega) rfl (by decide +kernel) ?_
  refine jT_xifF (t := 37) (pcN := 35) jIF_314_32 rfl (by decide +kernel) rfl rfl ?_
  refine jT_xiconst (k := 0) (pcN := 36) jIF_314_35 rfl ?_
  exact jT_ret rfl (by decide) (by show 16 ≤ 16; omega) (by omega) (by omega) ⟨rfl, rfl, rfl⟩
theorem jF_116_13 {xs : List Int} {d : Nat} {x1 x2 : Int} (h_x1 : 1 ≤ x1 ∧ x1 ≤ 30) (h_x2 : 0 ≤ x2 ∧ x2 ≤ 2147483647) (g_0 : 0 ≤ -x1 + x2 - 1) : jT xs d 116 1 0 [(0, (4, 0)), (1, (0, x2)), (2, (0, 0)), (3, (0, x1))] [] [jgh] 1 6 (fun k v hsN => k = 1 ∧ v = (0, 1) ∧ hsN = [jgh] ++ []) := by
  refine jT_xiload_n (v := (0, x2)) (pcN := 1) jIF_116_0 rfl rfl rfl ?_
  refine jT_xiload_n (v := (0, 0)) (pcN := 2) jIF_116_1 rfl rfl rfl ?_
  refine jT_icF (a := x2) (b := 0) (t := 10) (by rfl) (by rfl) (by rfl) (jw_idd (by omega) (by omega)) (jw_idd (by omega) (by omega)) (by simp only [jcP] <;> omega) ?_
  refine jT_xiload_n (v := (0, x2)) (pcN := 6) jIF_116_5 rfl rfl rfl ?_
  refine jT_xiload_n (v := (0, x1)) (pcN := 7) jIF_116_6 rfl rfl rfl ?_
  refine jT_icF (a := x2) (b := x1) (t := 21) (by rfl) (by rfl) (by rfl) (jw_idd (by omega) (by omega)) (jw_idd (by omega) (by omega)) (by simp only [jcP] <;> omega) ?_
  exact jT_ret (c1 := 1) (s1 := 6) rfl (by decide) (by show 1 ≤ 1; omega) (by omega) (by omega) ⟨rfl, rfl, rfl⟩
theorem jF_171_14 {xs : List Int} {d : Nat} {x1 x2 : Int} (h_x1 : 1 ≤ x1 ∧ x1 ≤ 30) (h_x2 : 0 ≤ x2 ∧ x2 ≤ 2147483647) (g_0 : 0 ≤ -x1 + x2 - 1) : jT xs (d + 1) 171 12 0 [(0, (4, 0)), (1, (0, x1)), (2, (0, x2))] [] jpF_8 1 6 (fun k v hsN => k = 1 ∧ v = (0, 1) ∧ hsN = jpF_8 ++ []) := by
  refine jT_xaload_n (v := (4, 0)) (pcN := 1) jIF_171_0 rfl rfl rfl ?_
  refine jT_xiload_n (v := (0, x1)) (pcN := 2) jIF_171_1 rfl rfl rfl ?_
  refine jT_xiconst (k := 1) (pcN := 3) jIF_171_2 rfl ?_
  refine jT_xbipush (k := 30) (pcN := 5) jIF_171_3 (by decide) rfl ?_
  refine jT_fR [0] 12 (y := 116) (pcN := 8) (dC := 0) (bc1 := 0) (bc2 := 0) (c1 := 1) (c2 := 6) (as := [(4, 0), (0, x1), (0, 1), (0, 30)]) (asC := [(4, 0), (0, x1), (0, 1), (0, 30)]) (LN := [(0, (4, 0)), (1, (0, x1)), (2, (0, x2))]) (stN := []) (hsC := [jgh]) (v := (9, 0)) (st2 := []) (jF_116_8 (d := 0) (by omega)) (by rfl) (by rfl) (by decide +kernel) (by rfl) (by rfl) (by omega) (by omega) (by omega) (by omega) rfl ?_
  refine jT_xaload_n (v := (4, 0)) (pcN := 9) jIF_171_8 rfl rfl rfl ?_
  refine jT_xiload_n (v := (0, x2)) (pcN := 10) jIF_171_9 rfl rfl rfl ?_
  refine jT_xiconst (k := 0) (pcN := 11) jIF_171_10 rfl ?_
  refine jT_xiload_n (v := (0, x1)) (pcN := 12) jIF_171_11 rfl rfl rfl ?_
  exact jT_fX [0] 12 (y := 116) (pcN := 15) (dC := 0) (bc1 := 1) (bc2 := 6) (as := [(4, 0), (0, x2), (0, 0), (0, x1)]) (asC := [(4, 0), (0, x2), (0, 0), (0, x1)]) (LN := [(0, (4, 0)), (1, (0, x1)), (2, (0, x2))]) (stN := []) (hsC := [jgh]) (e := 1) (jF_116_13 (d := 0) (by omega) (by omega) (by omega)) (by rfl) (by rfl) (by decide +kernel) (by rfl) (by rfl) (by omega) (by omega) (by omega) (by omega) ⟨rfl, ⟨rfl, rfl, rfl⟩⟩
theorem jF_369_15 {xs : List Int} {d : Nat} {x1 x2 : Int} (h_x1 : 1 ≤ x1 ∧ x1 ≤ 30) (h_x2 : 0 ≤ x2 ∧ x2 ≤ 2147483647) (g_0 : 0 ≤ -x1 + x2 - 1) : jT xs (d + 2) 369 13 0 [(0, (4, 0)), (1, (0, x1)), (2, (0, x2)), (3, (4, 1))] [] jpF_15 1 6 (fun k v hsN => k = 0 ∧ v = (0, 1) ∧ hsN = jpF_15 ++ []) := by
  refine jT_xaload_n (v := (4, 1)) (pcN := 1) jIF_369_0 rfl rfl rfl ?_
  refine jT_xiconst (k := 0) (pcN := 2) jIF_369_1 rfl ?_
  refine jT_xaload_n (v := (4, 0)) (pcN := 3) jIF_369_2 rfl rfl rfl ?_
  refine jT_xiload_n (v := (0, x1)) (pcN := 4) jIF_369_3 rfl rfl rfl ?_
  refine jT_xiload_n (v := (0, x2)) (pcN := 5) jIF_369_4 rfl rfl rfl ?_
  exact jT_fX [0, 2, 3, 4, 5, 6, 7, 8, 9, 10, 11, 12] 13 (y := 171) (pcN := 8) (dC := 1) (bc1 := 1) (bc2 := 6) (as := [(4, 0), (0, x1), (0, x2)]) (asC := [(4, 0), (0, x1), (0, x2)]) (LN := [(0, (4, 0)), (1, (0, x1)), (2, (0, x2)), (3, (4, 1))]) (stN := [(0, 0), (4, 1)]) (hsC := jpF_8) (e := 1) (jF_171_14 (d := 0) (by omega) (by omega) (by omega)) (by rfl) (by rfl) (by decide +kernel) (by rfl) (by rfl) (by omega) (by omega) (by omega) (by omega) (show _ from ⟨rfl, rfl, rfl⟩)
theorem jF_314_16 {xs : List Int} {d : Nat} {x1 x2 : Int} (h_x1 : 1 ≤ x1 ∧ x1 ≤ 30) (h_x2 : 0 ≤ x2 ∧ x2 ≤ 2147483647) (g_0 : 0 ≤ -x1 + x2 - 1) : jT xs (d + 2) 314 16 0 [(0, (4, 0)), (1, (0, x1)), (2, (0, x2))] [] jpF_19 0 0 (fun k v hsN => k = 0 ∧ v = (0, 0) ∧ hsN = jpF_17) := by
  refine jT_xaload_n (v := (4, 0)) (pcN := 1) jIF_314_0 rfl rfl rfl ?_
  refine jT_xiload_n (v := (0, x1)) (pcN := 2) jIF_314_1 rfl rfl rfl ?_
  refine jT_xi2l (x := x1) (z := x1) (pcN := 3) jIF_314_2 rfl (jw_idd (by omega) (by omega)) rfl ?_
  refine jT_xlconst (z := 1) (pcN := 4) jIF_314_3 rfl rfl ?_
  refine jT_adv 1 (pcN := 7) (LN := [(0, (4, 0)), (1, (0, x1)), (2, (0, x2))]) (stN := [(1, 30), (1, 1), (1, x1), (4, 0)]) (hsN := jpF_19) (c1 := 0) (s1 := 0) (c2 := 0) (s2 := 0) (by exact rfl) ?_ (by omega) (by omega)
  refine jT_fR [] 16 (y := 189) (pcN := 10) (dC := 0) (bc1 := 0) (bc2 := 0) (c1 := 0) (c2 := 0) (as := [(1, x1), (1, 1), (1, 30)]) (asC := [(1, x1), (1, 1), (1, 30)]) (LN := [(0, (4, 0)), (1, (0, x1)), (2, (0, x2))]) (stN := [(4, 0)]) (hsC := []) (v := (0, 1)) (st2 := [(0, 1), (4, 0)]) (jT_in_ok (d := 0) (v := x1) (lo := 1) (hi := 30) (by omega) (by omega) (by omega) (by omega) (by omega)) (by rfl) (by rfl) (by decide +kernel) (by rfl) (by rfl) (by omega) (by omega) (by omega) (by omega) rfl ?_
  refine jT_xifF (t := 28) (pcN := 13) jIF_314_10 rfl (by decide +kernel) rfl rfl ?_
  refine jT_xiload_n (v := (0, x2)) (pcN := 14) jIF_314_13 rfl rfl rfl ?_
  refine jT_xi2l (x := x2) (z := x2) (pcN := 15) jIF_314_14 rfl (jw_idd (by omega) (by omega)) rfl ?_
  refine jT_xlconst (z := 0) (pcN := 16) jIF_314_15 rfl rfl ?_
  refine jT_xiload_n (v := (0, x1)) (pcN := 17) jIF_314_16 rfl rfl rfl ?_
  refine jT_xi2l (x := x1) (z := x1) (pcN := 18) jIF_314_17 rfl (jw_idd (by omega) (by omega)) rfl ?_
  refine jT_fR [] 16 (y := 189) (pcN := 21) (dC := 0) (bc1 := 0) (bc2 := 0) (c1 := 0) (c2 := 0) (as := [(1, x2), (1, 0), (1, x1)]) (asC := [(1, x2), (1, 0), (1, x1)]) (LN := [(0, (4, 0)), (1, (0, x1)), (2, (0, x2))]) (stN := [(4, 0)]) (hsC := []) (v := (0, 0)) (st2 := [(0, 0), (4, 0)]) (jT_in_hi (d := 0) (v := x2) (lo := 0) (hi := x1) (by omega) (by omega) (by omega) (by omega) (by omega)) (by rfl) (by rfl) (by decide +kernel) (by rfl) (by rfl) (by omega) (by omega) (by omega) (by omega) rfl ?_
  refine jT_xifT (pcN := 28) jIF_314_21 rfl (by decide +kernel) rfl ?_
  refine jT_xiconst (k := 0) (pcN := 29) jIF_314_28 rfl ?_
  refine jT_fB [0, 1, 2, 3, 4, 5, 6, 7, 8, 9, 10, 11, 12, 13, 14, 15] 16 (y := 190) (pcN := 32) (dC := 1) (bc1 := 0) (bc2 := 0) (c1 := 0) (c2 := 0) (as := [(4, 0), (0, 0)]) (asC := [(4, 0), (0, 0)]) (LN := [(0, (4, 0)), (1, (0, x1)), (2, (0, x2))]) (stN := []) (hsC := jpF_19) (hsD := jpF_17) (v := (0, 1)) (st2 := [(0, 1)]) (hs2 := jpF_17) (jF_190_5 (d := 0)) (by rfl) (by rfl) (by decide +kernel) (by rfl) (by rfl) (by omega) (by omega) (by omega) (by omega) rfl (by decide +kernel) ?_
  refine jT_xifF (t := 37) (pcN := 35) jIF_314_32 rfl (by decide +kernel) rfl rfl ?_
  refine jT_xiconst (k := 0) (pcN := 36) jIF_314_35 rfl ?_
  exact jT_ret rfl (by decide) (by show 16 ≤ 16; omega) (by omega) (by omega) ⟨rfl, rfl, rfl⟩
theorem jF_116_17 {xs : List Int} {d : Nat} {x1 x2 : Int} (h_x1 : 1 ≤ x1 ∧ x1 ≤ 30) (h_x2 : 0 ≤ x2 ∧ x2 ≤ 2147483647) (g_0 : -x1 + x2 - 1 < 0) : jT xs d 116 1 0 [(0, (4, 0)), (1, (0, x2)), (2, (0, 0)), (3, (0, x1))] [] [jgh] 0 0 (fun k v hsN => k = 0 ∧ v = (9, 0) ∧ hsN = [jgh] ++ []) := by
  refine jT_xiload_n (v := (0, x2)) (pcN := 1) jIF_116_0 rfl rfl rfl ?_
  refine jT_xiload_n (v := (0, 0)) (pcN := 2) jIF_116_1 rfl rfl rfl ?_
  refine jT_icF (a := x2) (b := 0) (t := 10) (by rfl) (by rfl) (by rfl) (jw_idd (by omega) (by omega)) (jw_idd (by omega) (by omega)) (by simp only [jcP] <;> omega) ?_
  refine jT_xiload_n (v := (0, x2)) (pcN := 6) jIF_116_5 rfl rfl rfl ?_
  refine jT_xiload_n (v := (0, x1)) (pcN := 7) jIF_116_6 rfl rfl rfl ?_
  refine jT_icT (a := x2) (b := x1) (t := 21) (by rfl) (by rfl) (by rfl) (jw_idd (by omega) (by omega)) (jw_idd (by omega) (by omega)) (by simp only [jcP] <;> omega) ?_
  exact jT_ret rfl (by decide) (by show 1 ≤ 1; omega) (by omega) (by omega) ⟨rfl, rfl, rfl⟩
theorem jIF_171_15 : jmI (jm 171) 15 = (.lconst 0, 1) := by rfl
theorem jIF_171_16 : jmI (jm 171) 16 = (.lstore_n 3, 1) := by rfl
theorem jIF_171_17 : jmI (jm 171) 17 = (.iconst 1, 1) := by rfl
theorem jIF_171_18 : jmI (jm 171) 18 = (.istore 5, 2) := by rfl
theorem jIF_171_20 : jmI (jm 171) 20 = (.iload 5, 2) := by rfl
theorem jIF_171_22 : jmI (jm 171) 22 = (.iload_n 1, 1) := by rfl
theorem jIF_171_23 : jmI (jm 171) 23 = (.if_icmp .gt 45, 3) := by rfl
theorem jIF_171_26 : jmI (jm 171) 26 = (.iload_n 1, 1) := by rfl
theorem jIF_171_27 : jmI (jm 171) 27 = (.i2l, 1) := by rfl
theorem jIF_171_28 : jmI (jm 171) 28 = (.iload 5, 2) := by rfl
theorem jIF_171_30 : jmI (jm 171) 30 = (.i2l, 1) := by rfl
theorem jIF_171_34 : jmI (jm 171) 34 = (.l2i, 1) := by rfl
theorem jIF_171_35 : jmI (jm 171) 35 = (.istore 6, 2) := by rfl
theorem jIF_171_37 : jmI (jm 171) 37 = (.iload_n 1, 1) := by rfl
theorem jIF_171_38 : jmI (jm 171) 38 = (.iload 6, 2) := by rfl
theorem jIF_171_41 : jmI (jm 171) 41 = (.istore 7, 2) := by rfl
theorem jIF_171_43 : jmI (jm 171) 43 = (.iload_n 2, 1) := by rfl
theorem jIF_171_44 : jmI (jm 171) 44 = (.iload 7, 2) := by rfl
theorem jIF_171_47 : jmI (jm 171) 47 = (.ifCond .ne 15, 3) := by rfl
theorem jIF_171_62 : jmI (jm 171) 62 = (.iinc 5 1, 3) := by rfl
theorem jIF_171_65 : jmI (jm 171) 65 = (.goto (-45), 3) := by rfl
theorem jIF_171_50 : jmI (jm 171) 50 = (.lload_n 3, 1) := by rfl
theorem jIF_171_51 : jmI (jm 171) 51 = (.iload 6, 2) := by rfl
theorem jIF_171_53 : jmI (jm 171) 53 = (.iload_n 2, 1) := by rfl
theorem jIF_171_54 : jmI (jm 171) 54 = (.iload 7, 2) := by rfl
theorem jIF_171_60 : jmI (jm 171) 60 = (.ladd, 1) := by rfl
theorem jIF_171_61 : jmI (jm 171) 61 = (.lstore_n 3, 1) := by rfl
theorem jFl_un_18 {xs : List Int} {d b1 b2 : Nat} {Q : Nat → JV → List JC → Prop} {p a : Int} (hd : 1 < d) (h_p : 1 ≤ p ∧ p ≤ 30) (h_a : 0 ≤ a ∧ a ≤ 30) (g_0 : a - p ≤ 0) (h : jT xs d 171 12 68 [(5, (0, p + 1)), (3, (1, jus p a p.toNat)), (0, (4, 0)), (1, (0, p)), (2, (0, a))] [] [jzF_7, jgh, jgh, jgh, jgh, jgh, jgh, jgh, jgh, jgh, jgh, jgh] b1 b2 Q) : ∀ (q : Nat) (t z : Int), 1 ≤ t → t + (q : Int) = p + 1 → jus p a (t - 1).toNat = z → jT xs d 171 12 20 [(5, (0, t)), (3, (1, z)), (0, (4, 0)), (1, (0, p)), (2, (0, a))] [] [jzF_7, jgh, jgh, jgh, jgh, jgh, jgh, jgh, jgh, jgh, jgh, jgh] b1 b2 Q := by
  intro q
  induction q with
  | zero =>
    intro t z h0 ht hz
    have e : t = p + 1 := by omega
    subst t
    rw [show (p + 1 - 1).toNat = p.toNat by omega] at hz
    subst hz
    refine jT_xiload (v := (0, p + 1)) (pcN := 22) jIF_171_20 rfl rfl rfl ?_
    refine jT_xiload_n (v := (0, p)) (pcN := 23) jIF_171_22 rfl rfl rfl ?_
    refine jT_icT (a := p + 1) (b := p) (t := 68) (by rfl) (by rfl) (by rfl) (jw_idd (by omega) (by omega)) (jw_idd (by omega) (by omega)) (by simp only [jcP] <;> omega) ?_
    exact h
  | succ q ih =>
    intro t z h0 ht hz
    have h_t : 1 ≤ t ∧ t ≤ 30 := by omega
    have g_1 : t - p ≤ 0 := by omega
    have h_z := jus_b (p := p) (a := a) (n := (t - 1).toNat) h_p h_a (by omega)
    rw [hz] at h_z
    replace h_z : 0 ≤ z ∧ z ≤ 4498408080 := by omega
    rcases (show (0 ≤ (a.tmod (p.tdiv (((Nat.gcd (p).natAbs (t).natAbs : Nat) : Int)))) - 1) ∨ ((a.tmod (p.tdiv (((Nat.gcd (p).natAbs (t).natAbs : Nat) : Int)))) - 1 < 0) by omega) with g_2 | g_2
    · refine jT_xiload (v := (0, t)) (pcN := 22) jIF_171_20 rfl rfl rfl ?_
      refine jT_xiload_n (v := (0, p)) (pcN := 23) jIF_171_22 rfl rfl rfl ?_
      refine jT_icF (a := t) (b := p) (t := 68) (by rfl) (by rfl) (by rfl) (jw_idd (by omega) (by omega)) (jw_idd (by omega) (by omega)) (by simp only [jcP] <;> omega) ?_
      refine jT_xiload_n (v := (0, p)) (pcN := 27) jIF_171_26 rfl rfl rfl ?_
      refine jT_xi2l (x := p) (z := p) (pcN := 28) jIF_171_27 rfl (jw_idd (by omega) (by omega)) rfl ?_
      refine jT_xiload (v := (0, t)) (pcN := 30) jIF_171_28 rfl rfl rfl ?_
      refine jT_xi2l (x := t) (z := t) (pcN := 31) jIF_171_30 rfl (jw_idd (by omega) (by omega)) rfl ?_
      refine jT_fR [] 12 (y := 98) (pcN := 34) (dC := 0) (bc1 := 0) (bc2 := 0) (c1 := b1) (c2 := b2) (as := [(1, p), (1, t)]) (asC := [(1, p), (1, t)]) (LN := [(5, (0, t)), (3, (1, z)), (0, (4, 0)), (1, (0, p)), (2, (0, a))]) (stN := []) (hsC := []) (v := (1, ((Nat.gcd (p).natAbs (t).natAbs : Nat) : Int))) (st2 := [(1, ((Nat.gcd (p).natAbs (t).natAbs : Nat) : Int))]) (jT_div98 (d := 0) (x := p) (y := t) (by omega) (by omega)) (by rfl) (by rfl) (by decide +kernel) (by rfl) (by rfl) (by omega) (by omega) (by omega) (by omega) rfl ?_
      have hb_q1 := jgcd_l (x := p) (y := t) (by omega)
      have hb_q1 : 1 ≤ ((Nat.gcd (p).natAbs (t).natAbs : Nat) : Int) ∧ ((Nat.gcd (p).natAbs (t).natAbs : Nat) : Int) ≤ 30 := ⟨hb_q1.1, by omega⟩
      generalize hq_q1 : ((Nat.gcd (p).natAbs (t).natAbs : Nat) : Int) = q1 at hb_q1 g_2 ⊢
      refine jT_xl2i (pcN := 35) jIF_171_34 rfl rfl ?_
      refine jT_xistore (v := (0, q1)) (LN := [(6, (0, q1)), (5, (0, t)), (3, (1, z)), (0, (4, 0)), (1, (0, p)), (2, (0, a))]) (pcN := 37) jIF_171_35 rfl rfl rfl rfl ?_
      refine jT_xiload_n (v := (0, p)) (pcN := 38) jIF_171_37 rfl rfl rfl ?_
      refine jT_xiload (v := (0, q1)) (pcN := 40) jIF_171_38 rfl rfl rfl ?_
      refine jT_idiv (a := p) (b := q1) (by rfl) (by rfl) (jw_idd (by omega) (by omega)) (jw_idd (by omega) (by omega)) (by omega) ?_
      have hb_q2 := jun_b1 hq_q1 (by omega) (by omega)
      generalize hq_q2 : p.tdiv q1 = q2 at hb_q2 g_2 ⊢
      refine jT_xistore (v := (0, q2)) (LN := [(7, (0, q2)), (6, (0, q1)), (5, (0, t)), (3, (1, z)), (0, (4, 0)), (1, (0, p)), (2, (0, a))]) (pcN := 43) jIF_171_41 rfl rfl rfl rfl ?_
      refine jT_xiload_n (v := (0, a)) (pcN := 44) jIF_171_43 rfl rfl rfl ?_
      refine jT_xiload (v := (0, q2)) (pcN := 46) jIF_171_44 rfl rfl rfl ?_
      refine jT_irem (a := a) (b := q2) (by rfl) (by rfl) (jw_idd (by omega) (by omega)) (jw_idd (by omega) (by omega)) (by omega) ?_
      have hb_q3 := jtm_b (x := a) (y := q2) (by omega) (by omega)
      have hb_q3 : 0 ≤ a.tmod q2 ∧ a.tmod q2 ≤ 29 := ⟨hb_q3.1, by omega⟩
      generalize hq_q3 : a.tmod q2 = q3 at hb_q3 g_2 ⊢
      refine jT_ifT (a := q3) (t := 62) (by rfl) (by rfl) (by rfl) (jw_idd (by omega) (by omega)) (by simp only [jcP] <;> omega) ?_
      refine jT_xiinc (x := t) (z := t + 1) (LN := [(5, (0, t + 1)), (7, (0, q2)), (6, (0, q1)), (3, (1, z)), (0, (4, 0)), (1, (0, p)), (2, (0, a))]) (pcN := 65) jIF_171_62 rfl rfl (rfl) rfl rfl ?_
      refine jT_xgoto (pcN := 20) jIF_171_65 rfl ?_
      refine jT_loc (LN := [(5, (0, t + 1)), (3, (1, z)), (0, (4, 0)), (1, (0, p)), (2, (0, a))]) (by show List.Nodup [5, 3, 0, 1, 2]; decide) (by intro q hq; simp only [List.mem_cons, List.not_mem_nil, or_false] at hq; rcases hq with rfl | rfl | rfl | rfl | rfl <;> rfl) ?_
      exact ih (t + 1) z (by omega) (by omega) (by rw [jus_s (p := p) (a := a) (t := t) (by omega), hz]; unfold jut; rw [hq_q1, hq_q2, hq_q3, if_neg (by omega)]; omega)
    · refine jT_xiload (v := (0, t)) (pcN := 22) jIF_171_20 rfl rfl rfl ?_
      refine jT_xiload_n (v := (0, p)) (pcN := 23) jIF_171_22 rfl rfl rfl ?_
      refine jT_icF (a := t) (b := p) (t := 68) (by rfl) (by rfl) (by rfl) (jw_idd (by omega) (by omega)) (jw_idd (by omega) (by omega)) (by simp only [jcP] <;> omega) ?_
      refine jT_xiload_n (v := (0, p)) (pcN := 27) jIF_171_26 rfl rfl rfl ?_
      refine jT_xi2l (x := p) (z := p) (pcN := 28) jIF_171_27 rfl (jw_idd (by omega) (by omega)) rfl ?_
      refine jT_xiload (v := (0, t)) (pcN := 30) jIF_171_28 rfl rfl rfl ?_
      refine jT_xi2l (x := t) (z := t) (pcN := 31) jIF_171_30 rfl (jw_idd (by omega) (by omega)) rfl ?_
      refine jT_fR [] 12 (y := 98) (pcN := 34) (dC := 0) (bc1 := 0) (bc2 := 0) (c1 := b1) (c2 := b2) (as := [(1, p), (1, t)]) (asC := [(1, p), (1, t)]) (LN := [(5, (0, t)), (3, (1, z)), (0, (4, 0)), (1, (0, p)), (2, (0, a))]) (stN := []) (hsC := []) (v := (1, ((Nat.gcd (p).natAbs (t).natAbs : Nat) : Int))) (st2 := [(1, ((Nat.gcd (p).natAbs (t).natAbs : Nat) : Int))]) (jT_div98 (d := 0) (x := p) (y := t) (by omega) (by omega)) (by rfl) (by rfl) (by decide +kernel) (by rfl) (by rfl) (by omega) (by omega) (by omega) (by omega) rfl ?_
      have hb_q1 := jgcd_l (x := p) (y := t) (by omega)
      have hb_q1 : 1 ≤ ((Nat.gcd (p).natAbs (t).natAbs : Nat) : Int) ∧ ((Nat.gcd (p).natAbs (t).natAbs : Nat) : Int) ≤ 30 := ⟨hb_q1.1, by omega⟩
      generalize hq_q1 : ((Nat.gcd (p).natAbs (t).natAbs : Nat) : Int) = q1 at hb_q1 g_2 ⊢
      refine jT_xl2i (pcN := 35) jIF_171_34 rfl rfl ?_
      refine jT_xistore (v := (0, q1)) (LN := [(6, (0, q1)), (5, (0, t)), (3, (1, z)), (0, (4, 0)), (1, (0, p)), (2, (0, a))]) (pcN := 37) jIF_171_35 rfl rfl rfl rfl ?_
      refine jT_xiload_n (v := (0, p)) (pcN := 38) jIF_171_37 rfl rfl rfl ?_
      refine jT_xiload (v := (0, q1)) (pcN := 40) jIF_171_38 rfl rfl rfl ?_
      refine jT_idiv (a := p) (b := q1) (by rfl) (by rfl) (jw_idd (by omega) (by omega)) (jw_idd (by omega) (by omega)) (by omega) ?_
      have hb_q2 := jun_b1 hq_q1 (by omega) (by omega)
      generalize hq_q2 : p.tdiv q1 = q2 at hb_q2 g_2 ⊢
      refine jT_xistore (v := (0, q2)) (LN := [(7, (0, q2)), (6, (0, q1)), (5, (0, t)), (3, (1, z)), (0, (4, 0)), (1, (0, p)), (2, (0, a))]) (pcN := 43) jIF_171_41 rfl rfl rfl rfl ?_
      refine jT_xiload_n (v := (0, a)) (pcN := 44) jIF_171_43 rfl rfl rfl ?_
      refine jT_xiload (v := (0, q2)) (pcN := 46) jIF_171_44 rfl rfl rfl ?_
      refine jT_irem (a := a) (b := q2) (by rfl) (by rfl) (jw_idd (by omega) (by omega)) (jw_idd (by omega) (by omega)) (by omega) ?_
      have hb_q3 := jtm_b (x := a) (y := q2) (by omega) (by omega)
      have hb_q3 : 0 ≤ a.tmod q2 ∧ a.tmod q2 ≤ 29 := ⟨hb_q3.1, by omega⟩
      generalize hq_q3 : a.tmod q2 = q3 at hb_q3 g_2 ⊢
      refine jT_ifF (a := q3) (t := 62) (by rfl) (by rfl) (by rfl) (jw_idd (by omega) (by omega)) (by simp only [jcP] <;> omega) ?_
      refine jT_xlload_n (v := (1, z)) (pcN := 51) jIF_171_50 rfl rfl rfl ?_
      refine jT_xiload (v := (0, q1)) (pcN := 53) jIF_171_51 rfl rfl rfl ?_
      refine jT_xiload_n (v := (0, a)) (pcN := 54) jIF_171_53 rfl rfl rfl ?_
      refine jT_xiload (v := (0, q2)) (pcN := 56) jIF_171_54 rfl rfl rfl ?_
      refine jT_idiv (a := a) (b := q2) (by rfl) (by rfl) (jw_idd (by omega) (by omega)) (jw_idd (by omega) (by omega)) (by omega) ?_
      have hb_q4 := jtd_b0 (x := a) (y := q2) (by omega) (by omega)
      have hb_q4 : 0 ≤ a.tdiv q2 ∧ a.tdiv q2 ≤ 30 := ⟨hb_q4.1, by omega⟩
      generalize hq_q4 : a.tdiv q2 = q4 at hb_q4 ⊢
      refine jT_fR [] 12 (y := 172) (pcN := 60) (dC := 0) (bc1 := 0) (bc2 := 0) (c1 := b1) (c2 := b2) (as := [(0, q1), (0, q4)]) (asC := [(0, q1), (0, q4)]) (LN := [(7, (0, q2)), (6, (0, q1)), (5, (0, t)), (3, (1, z)), (0, (4, 0)), (1, (0, p)), (2, (0, a))]) (stN := [(1, z)]) (hsC := []) (v := (1, jchi q1 q4)) (st2 := [(1, jchi q1 q4), (1, z)]) (jT_chi172 (d := 0) (t := q1) (s := q4) (by omega) (jun_le hq_q1 hq_q2 hq_q4 (by omega) (by omega) (by omega) (by omega)) (by omega)) (by rfl) (by rfl) (by decide +kernel) (by rfl) (by rfl) (by omega) (by omega) (by omega) (by omega) rfl ?_
      have hb_q5 := jchi_b q1 q4 (by omega) (by omega) (by omega) (by omega)
      generalize hq_q5 : jchi q1 q4 = q5 at hb_q5 ⊢
      refine jT_xladd (x := z) (y := q5) (z := q5 + z) (pcN := 61) jIF_171_60 rfl (by omega) rfl ?_
      refine jT_xlstore_n (v := (1, q5 + z)) (LN := [(3, (1, q5 + z)), (7, (0, q2)), (6, (0, q1)), (5, (0, t)), (0, (4, 0)), (1, (0, p)), (2, (0, a))]) (pcN := 62) jIF_171_61 rfl rfl rfl rfl ?_
      refine jT_xiinc (x := t) (z := t + 1) (LN := [(5, (0, t + 1)), (3, (1, q5 + z)), (7, (0, q2)), (6, (0, q1)), (0, (4, 0)), (1, (0, p)), (2, (0, a))]) (pcN := 65) jIF_171_62 rfl rfl (rfl) rfl rfl ?_
      refine jT_xgoto (pcN := 20) jIF_171_65 rfl ?_
      refine jT_loc (LN := [(5, (0, t + 1)), (3, (1, q5 + z)), (0, (4, 0)), (1, (0, p)), (2, (0, a))]) (by show List.Nodup [5, 3, 0, 1, 2]; decide) (by intro q hq; simp only [List.mem_cons, List.not_mem_nil, or_false] at hq; rcases hq with rfl | rfl | rfl | rfl | rfl <;> rfl) ?_
      exact ih (t + 1) (q5 + z) (by omega) (by omega) (by rw [jus_s (p := p) (a := a) (t := t) (by omega), hz]; unfold jut; rw [hq_q1, hq_q2, hq_q3, if_pos (by omega), hq_q4, hq_q5]; omega)
theorem jIF_171_68 : jmI (jm 171) 68 = (.lload_n 3, 1) := by rfl
theorem jIF_171_69 : jmI (jm 171) 69 = (.iload_n 1, 1) := by rfl
theorem jIF_171_70 : jmI (jm 171) 70 = (.i2l, 1) := by rfl
theorem jIF_171_72 : jmI (jm 171) 72 = (.l2i, 1) := by rfl
theorem jF_171_19 {xs : List Int} {d : Nat} {x1 x2 : Int} (h_x1 : 1 ≤ x1 ∧ x1 ≤ 30) (h_x2 : 0 ≤ x2 ∧ x2 ≤ 2147483647) (g_0 : -x1 + x2 - 1 < 0) : jT xs (d + 2) 171 12 0 [(0, (4, 0)), (1, (0, x1)), (2, (0, x2))] [] jpF_8 0 0 (fun k v hsN => k = 0 ∧ v = (0, (jus x1 x2 x1.toNat).tdiv x1) ∧ hsN = jpF_8 ++ []) := by
  refine jT_xaload_n (v := (4, 0)) (pcN := 1) jIF_171_0 rfl rfl rfl ?_
  refine jT_xiload_n (v := (0, x1)) (pcN := 2) jIF_171_1 rfl rfl rfl ?_
  refine jT_xiconst (k := 1) (pcN := 3) jIF_171_2 rfl ?_
  refine jT_xbipush (k := 30) (pcN := 5) jIF_171_3 (by decide) rfl ?_
  refine jT_fR [0] 12 (y := 116) (pcN := 8) (dC := 0) (bc1 := 0) (bc2 := 0) (c1 := 0) (c2 := 0) (as := [(4, 0), (0, x1), (0, 1), (0, 30)]) (asC := [(4, 0), (0, x1), (0, 1), (0, 30)]) (LN := [(0, (4, 0)), (1, (0, x1)), (2, (0, x2))]) (stN := []) (hsC := [jgh]) (v := (9, 0)) (st2 := []) (jF_116_8 (d := 0) (by omega)) (by rfl) (by rfl) (by decide +kernel) (by rfl) (by rfl) (by omega) (by omega) (by omega) (by omega) rfl ?_
  refine jT_xaload_n (v := (4, 0)) (pcN := 9) jIF_171_8 rfl rfl rfl ?_
  refine jT_xiload_n (v := (0, x2)) (pcN := 10) jIF_171_9 rfl rfl rfl ?_
  refine jT_xiconst (k := 0) (pcN := 11) jIF_171_10 rfl ?_
  refine jT_xiload_n (v := (0, x1)) (pcN := 12) jIF_171_11 rfl rfl rfl ?_
  refine jT_fR [0] 12 (y := 116) (pcN := 15) (dC := 0) (bc1 := 0) (bc2 := 0) (c1 := 0) (c2 := 0) (as := [(4, 0), (0, x2), (0, 0), (0, x1)]) (asC := [(4, 0), (0, x2), (0, 0), (0, x1)]) (LN := [(0, (4, 0)), (1, (0, x1)), (2, (0, x2))]) (stN := []) (hsC := [jgh]) (v := (9, 0)) (st2 := []) (jF_116_17 (d := 0) (by omega) (by omega) (by omega)) (by rfl) (by rfl) (by decide +kernel) (by rfl) (by rfl) (by omega) (by omega) (by omega) (by omega) rfl ?_
  refine jT_xlconst (z := 0) (pcN := 16) jIF_171_15 rfl rfl ?_
  refine jT_xlstore_n (v := (1, 0)) (LN := [(3, (1, 0)), (0, (4, 0)), (1, (0, x1)), (2, (0, x2))]) (pcN := 17) jIF_171_16 rfl rfl rfl rfl ?_
  refine jT_xiconst (k := 1) (pcN := 18) jIF_171_17 rfl ?_
  refine jT_xistore (v := (0, 1)) (LN := [(5, (0, 1)), (3, (1, 0)), (0, (4, 0)), (1, (0, x1)), (2, (0, x2))]) (pcN := 20) jIF_171_18 rfl rfl rfl rfl ?_
  refine jT_loc (LN := [(5, (0, 1)), (3, (1, 0)), (0, (4, 0)), (1, (0, x1)), (2, (0, x2))]) (by show List.Nodup [5, 3, 0, 1, 2]; decide) (by intro q hq; simp only [List.mem_cons, List.not_mem_nil, or_false] at hq; rcases hq with rfl | rfl | rfl | rfl | rfl <;> rfl) ?_
  refine jFl_un_18 (p := x1) (a := x2) (by omega) (by omega) (by omega) (by omega) ?_ x1.toNat 1 0 (by omega) (by omega) (by rfl)
  have hb_q1 := jus_bp (p := x1) (a := x2) (by omega) (by omega) (by omega)
  generalize hq_q1 : jus x1 x2 x1.toNat = q1 at hb_q1 ⊢
  refine jT_xlload_n (v := (1, q1)) (pcN := 69) jIF_171_68 rfl rfl rfl ?_
  refine jT_xiload_n (v := (0, x1)) (pcN := 70) jIF_171_69 rfl rfl rfl ?_
  refine jT_xi2l (x := x1) (z := x1) (pcN := 71) jIF_171_70 rfl (jw_idd (by omega) (by omega)) rfl ?_
  refine jT_ldiv (a := q1) (b := x1) (by rfl) (by rfl) (jwl_idd (by omega) (by omega)) (jwl_idd (by omega) (by omega)) (by omega) ?_
  have hb_q2 := jun_q (p := x1) (a := x2) (q := q1) hq_q1 (by omega) (by omega) (by omega) (by omega)
  generalize hq_q2 : q1.tdiv x1 = q2 at hb_q2 ⊢
  refine jT_xl2i (pcN := 73) jIF_171_72 rfl rfl ?_
  subst hq_q2
  subst hq_q1
  exact jT_ret rfl (by decide) (by show 12 ≤ 12; omega) (by omega) (by omega) ⟨rfl, rfl, rfl⟩
theorem jIF_369_8 : jmI (jm 369) 8 = (.i2l, 1) := by rfl
theorem jIF_369_10 : jmI (jm 369) 10 = (.goto 7, 3) := by rfl
theorem jIF_369_17 : jmI (jm 369) 17 = (.iconst 0, 1) := by rfl
def jpF_75 : List JC := [jzF_14, (101, [], [0]), jgh, jgh, jgh, jgh, jgh, jgh, jgh, jgh, jgh, jgh, jgh]
theorem jF_369_20 {xs : List Int} {d : Nat} {x1 x2 : Int} (h_x1 : 1 ≤ x1 ∧ x1 ≤ 30) (h_x2 : 0 ≤ x2 ∧ x2 ≤ 2147483647) (g_0 : -x1 + x2 - 1 < 0) : jT xs (d + 3) 369 13 0 [(0, (4, 0)), (1, (0, x1)), (2, (0, x2)), (3, (4, 1))] [] jpF_75 0 0 (fun k v hsN => k = 0 ∧ v = (0, 0) ∧ hsN = [jzF_14, (101, [], [(jus x1 x2 x1.toNat).tdiv x1]), jgh, jgh, jgh, jgh, jgh, jgh, jgh, jgh, jgh, jgh, jgh]) := by
  refine jT_xaload_n (v := (4, 1)) (pcN := 1) jIF_369_0 rfl rfl rfl ?_
  refine jT_xiconst (k := 0) (pcN := 2) jIF_369_1 rfl ?_
  refine jT_xaload_n (v := (4, 0)) (pcN := 3) jIF_369_2 rfl rfl rfl ?_
  refine jT_xiload_n (v := (0, x1)) (pcN := 4) jIF_369_3 rfl rfl rfl ?_
  refine jT_xiload_n (v := (0, x2)) (pcN := 5) jIF_369_4 rfl rfl rfl ?_
  refine jT_fR [0, 2, 3, 4, 5, 6, 7, 8, 9, 10, 11, 12] 13 (y := 171) (pcN := 8) (dC := 2) (bc1 := 0) (bc2 := 0) (c1 := 0) (c2 := 0) (as := [(4, 0), (0, x1), (0, x2)]) (asC := [(4, 0), (0, x1), (0, x2)]) (LN := [(0, (4, 0)), (1, (0, x1)), (2, (0, x2)), (3, (4, 1))]) (stN := [(0, 0), (4, 1)]) (hsC := jpF_8) (v := (0, (jus x1 x2 x1.toNat).tdiv x1)) (st2 := [(0, (jus x1 x2 x1.toNat).tdiv x1), (0, 0), (4, 1)]) (jF_171_19 (d := 0) (by omega) (by omega) (by omega)) (by rfl) (by rfl) (by decide +kernel) (by rfl) (by rfl) (by omega) (by omega) (by omega) (by omega) rfl ?_
  have hb_q1 := jun_q (p := x1) (a := x2) (q := (jus x1 x2 x1.toNat)) rfl (by omega) (by omega) (by omega) (by omega)
  generalize hq_q1 : (jus x1 x2 x1.toNat).tdiv x1 = q1 at hb_q1 ⊢
  refine jT_xi2l (x := q1) (z := q1) (pcN := 9) jIF_369_8 rfl (jw_idd (by omega) (by omega)) rfl ?_
  refine jT_adv 1 (pcN := 10) (LN := [(0, (4, 0)), (1, (0, x1)), (2, (0, x2)), (3, (4, 1))]) (stN := []) (hsN := [jzF_14, (101, [], [q1]), jgh, jgh, jgh, jgh, jgh, jgh, jgh, jgh, jgh, jgh, jgh]) (c1 := 0) (s1 := 0) (c2 := 0) (s2 := 0) (by exact rfl) ?_ (by omega) (by omega)
  refine jT_xgoto (pcN := 17) jIF_369_10 rfl ?_
  refine jT_xiconst (k := 0) (pcN := 18) jIF_369_17 rfl ?_
  subst hq_q1
  exact jT_ret rfl (by decide) (by show 13 ≤ 13; omega) (by omega) (by omega) ⟨rfl, rfl, rfl⟩
theorem jF_191_21 {xs : List Int} {d : Nat} : jT xs d 191 1 0 [(0, (4, 0)), (1, (0, 1)), (2, (0, 1))] [] [jgh] 0 0 (fun k v hsN => k = 0 ∧ v = (0, 0) ∧ hsN = [jgh] ++ []) := by
  refine jT_advK 5 (pcN := 18) (LN := [(0, (4, 0)), (1, (0, 1)), (2, (0, 1))]) (stN := [(0, 0)]) (hsN := [jgh]) (c1 := 0) (s1 := 0) (c2 := 0) (s2 := 0) (by decide +kernel) ?_ (by omega) (by omega)
  exact jT_ret rfl (by decide) (by show 1 ≤ 1; omega) (by omega) (by omega) ⟨rfl, rfl, rfl⟩
theorem jF_190_22 {xs : List Int} {d : Nat} : jT xs (d + 1) 190 16 0 [(0, (4, 0)), (1, (0, 1))] [] jpF_19 0 0 (fun k v hsN => k = 0 ∧ v = (0, 0) ∧ hsN = jpF_19 ++ []) := by
  refine jT_advK 6 (pcN := 8) (LN := [(0, (4, 0)), (1, (0, 1))]) (stN := [(0, 1), (0, 1), (4, 0)]) (hsN := jpF_19) (c1 := 0) (s1 := 0) (c2 := 0) (s2 := 0) (by decide +kernel) ?_ (by omega) (by omega)
  refine jT_fR [0] 16 (y := 191) (pcN := 11) (dC := 0) (bc1 := 0) (bc2 := 0) (c1 := 0) (c2 := 0) (as := [(4, 0), (0, 1), (0, 1)]) (asC := [(4, 0), (0, 1), (0, 1)]) (LN := [(0, (4, 0)), (1, (0, 1))]) (stN := []) (hsC := [jgh]) (v := (0, 0)) (st2 := [(0, 0)]) (jF_191_21 (d := 0)) (by rfl) (by rfl) (by decide +kernel) (by rfl) (by rfl) (by omega) (by omega) (by omega) (by omega) rfl ?_
  exact jT_ret rfl (by decide) (by show 16 ≤ 16; omega) (by omega) (by omega) ⟨rfl, rfl, rfl⟩
theorem jIF_314_24 : jmI (jm 314) 24 = (.iconst 1, 1) := by rfl
theorem jIF_314_25 : jmI (jm 314) 25 = (.goto 4, 3) := by rfl
theorem jIF_314_37 : jmI (jm 314) 37 = (.lconst 0, 1) := by rfl
theorem jIF_314_38 : jmI (jm 314) 38 = (.lstore_n 3, 1) := by rfl
theorem jIF_314_39 : jmI (jm 314) 39 = (.iconst 0, 1) := by rfl
theorem jIF_314_40 : jmI (jm 314) 40 = (.istore 5, 2) := by rfl
theorem jIF_314_42 : jmI (jm 314) 42 = (.iload 5, 2) := by rfl
theorem jIF_314_44 : jmI (jm 314) 44 = (.iload_n 1, 1) := by rfl
theorem jIF_314_45 : jmI (jm 314) 45 = (.if_icmp .ge 45, 3) := by rfl
theorem jIF_314_48 : jmI (jm 314) 48 = (.iload_n 1, 1) := by rfl
theorem jIF_314_49 : jmI (jm 314) 49 = (.i2l, 1) := by rfl
theorem jIF_314_50 : jmI (jm 314) 50 = (.iload 5, 2) := by rfl
theorem jIF_314_52 : jmI (jm 314) 52 = (.i2l, 1) := by rfl
theorem jIF_314_56 : jmI (jm 314) 56 = (.l2i, 1) := by rfl
theorem jIF_314_57 : jmI (jm 314) 57 = (.istore 6, 2) := by rfl
theorem jIF_314_59 : jmI (jm 314) 59 = (.iload_n 1, 1) := by rfl
theorem jIF_314_60 : jmI (jm 314) 60 = (.iload 6, 2) := by rfl
theorem jIF_314_63 : jmI (jm 314) 63 = (.istore 7, 2) := by rfl
theorem jIF_314_65 : jmI (jm 314) 65 = (.iload_n 2, 1) := by rfl
theorem jIF_314_66 : jmI (jm 314) 66 = (.iload 7, 2) := by rfl
theorem jIF_314_69 : jmI (jm 314) 69 = (.ifCond .ne 15, 3) := by rfl
theorem jIF_314_84 : jmI (jm 314) 84 = (.iinc 5 1, 3) := by rfl
theorem jIF_314_87 : jmI (jm 314) 87 = (.goto (-45), 3) := by rfl
theorem jIF_314_72 : jmI (jm 314) 72 = (.lload_n 3, 1) := by rfl
theorem jIF_314_73 : jmI (jm 314) 73 = (.iload 6, 2) := by rfl
theorem jIF_314_75 : jmI (jm 314) 75 = (.iload_n 2, 1) := by rfl
theorem jIF_314_76 : jmI (jm 314) 76 = (.iload 7, 2) := by rfl
theorem jIF_314_82 : jmI (jm 314) 82 = (.ladd, 1) := by rfl
theorem jIF_314_83 : jmI (jm 314) 83 = (.lstore_n 3, 1) := by rfl
theorem jFl_un_23 {xs : List Int} {d b1 b2 : Nat} {Q : Nat → JV → List JC → Prop} {p a : Int} (hd : 12 < d) (h_p : 1 ≤ p ∧ p ≤ 30) (h_a : 0 ≤ a ∧ a ≤ 30) (g_0 : a - p ≤ 0) (h : jT xs d 314 16 90 [(5, (0, p)), (3, (1, jus p a p.toNat)), (0, (4, 0)), (1, (0, p)), (2, (0, a))] [] [jzF_18, jgh, jgh, jgh, jgh, jgh, jgh, jgh, jgh, jgh, jgh, jgh, jgh, jgh, jgh, jgh] b1 b2 Q) : ∀ (q : Nat) (t z : Int), 0 ≤ t → t + (q : Int) = p → jur p a t.toNat = z → jT xs d 314 16 42 [(5, (0, t)), (3, (1, z)), (0, (4, 0)), (1, (0, p)), (2, (0, a))] [] [jzF_18, jgh, jgh, jgh, jgh, jgh, jgh, jgh, jgh, jgh, jgh, jgh, jgh, jgh, jgh, jgh] b1 b2 Q := by
  intro q
  induction q with
  | zero =>
    intro t z h0 ht hz
    have e : t = p := by omega
    subst t
    rw [jur_eq (by omega)] at hz
    subst hz
    refine jT_xiload (v := (0, p)) (pcN := 44) jIF_314_42 rfl rfl rfl ?_
    refine jT_xiload_n (v := (0, p)) (pcN := 45) jIF_314_44 rfl rfl rfl ?_
    refine jT_icT (a := p) (b := p) (t := 90) (by rfl) (by rfl) (by rfl) (jw_idd (by omega) (by omega)) (jw_idd (by omega) (by omega)) (by simp only [jcP] <;> omega) ?_
    exact h
  | succ q ih =>
    intro t z h0 ht hz
    have h_t : 0 ≤ t ∧ t ≤ 29 := by omega
    have g_1 : t - p < 0 := by omega
    have h_z := jur_b (p := p) (a := a) (n := t.toNat) h_p h_a (by omega)
    rw [hz] at h_z
    replace h_z : 0 ≤ z ∧ z ≤ 4498408080 := by omega
    rcases (show (0 ≤ (a.tmod (p.tdiv (((Nat.gcd (p).natAbs (t).natAbs : Nat) : Int)))) - 1) ∨ ((a.tmod (p.tdiv (((Nat.gcd (p).natAbs (t).natAbs : Nat) : Int)))) - 1 < 0) by omega) with g_2 | g_2
    · refine jT_xiload (v := (0, t)) (pcN := 44) jIF_314_42 rfl rfl rfl ?_
      refine jT_xiload_n (v := (0, p)) (pcN := 45) jIF_314_44 rfl rfl rfl ?_
      refine jT_icF (a := t) (b := p) (t := 90) (by rfl) (by rfl) (by rfl) (jw_idd (by omega) (by omega)) (jw_idd (by omega) (by omega)) (by simp only [jcP] <;> omega) ?_
      refine jT_xiload_n (v := (0, p)) (pcN := 49) jIF_314_48 rfl rfl rfl ?_
      refine jT_xi2l (x := p) (z := p) (pcN := 50) jIF_314_49 rfl (jw_idd (by omega) (by omega)) rfl ?_
      refine jT_xiload (v := (0, t)) (pcN := 52) jIF_314_50 rfl rfl rfl ?_
      refine jT_xi2l (x := t) (z := t) (pcN := 53) jIF_314_52 rfl (jw_idd (by omega) (by omega)) rfl ?_
      refine jT_fR [] 16 (y := 194) (pcN := 56) (dC := 11) (bc1 := 0) (bc2 := 0) (c1 := b1) (c2 := b2) (as := [(1, p), (1, t)]) (asC := [(1, p), (1, t)]) (LN := [(5, (0, t)), (3, (1, z)), (0, (4, 0)), (1, (0, p)), (2, (0, a))]) (stN := []) (hsC := []) (v := (1, ((Nat.gcd (p).natAbs (t).natAbs : Nat) : Int))) (st2 := [(1, ((Nat.gcd (p).natAbs (t).natAbs : Nat) : Int))]) (jT_gcd 5 0 (p) (t) (by omega) (by omega) (show (t).natAbs < 32 by omega)) (by rfl) (by rfl) (by decide +kernel) (by rfl) (by rfl) (by omega) (by omega) (by omega) (by omega) rfl ?_
      have hb_q1 := jgcd_l (x := p) (y := t) (by omega)
      have hb_q1 : 1 ≤ ((Nat.gcd (p).natAbs (t).natAbs : Nat) : Int) ∧ ((Nat.gcd (p).natAbs (t).natAbs : Nat) : Int) ≤ 30 := ⟨hb_q1.1, by omega⟩
      generalize hq_q1 : ((Nat.gcd (p).natAbs (t).natAbs : Nat) : Int) = q1 at hb_q1 g_2 ⊢
      refine jT_xl2i (pcN := 57) jIF_314_56 rfl rfl ?_
      refine jT_xistore (v := (0, q1)) (LN := [(6, (0, q1)), (5, (0, t)), (3, (1, z)), (0, (4, 0)), (1, (0, p)), (2, (0, a))]) (pcN := 59) jIF_314_57 rfl rfl rfl rfl ?_
      refine jT_xiload_n (v := (0, p)) (pcN := 60) jIF_314_59 rfl rfl rfl ?_
      refine jT_xiload (v := (0, q1)) (pcN := 62) jIF_314_60 rfl rfl rfl ?_
      refine jT_idiv (a := p) (b := q1) (by rfl) (by rfl) (jw_idd (by omega) (by omega)) (jw_idd (by omega) (by omega)) (by omega) ?_
      have hb_q2 := jun_b1 hq_q1 (by omega) (by omega)
      generalize hq_q2 : p.tdiv q1 = q2 at hb_q2 g_2 ⊢
      refine jT_xistore (v := (0, q2)) (LN := [(7, (0, q2)), (6, (0, q1)), (5, (0, t)), (3, (1, z)), (0, (4, 0)), (1, (0, p)), (2, (0, a))]) (pcN := 65) jIF_314_63 rfl rfl rfl rfl ?_
      refine jT_xiload_n (v := (0, a)) (pcN := 66) jIF_314_65 rfl rfl rfl ?_
      refine jT_xiload (v := (0, q2)) (pcN := 68) jIF_314_66 rfl rfl rfl ?_
      refine jT_irem (a := a) (b := q2) (by rfl) (by rfl) (jw_idd (by omega) (by omega)) (jw_idd (by omega) (by omega)) (by omega) ?_
      have hb_q3 := jtm_b (x := a) (y := q2) (by omega) (by omega)
      have hb_q3 : 0 ≤ a.tmod q2 ∧ a.tmod q2 ≤ 29 := ⟨hb_q3.1, by omega⟩
      generalize hq_q3 : a.tmod q2 = q3 at hb_q3 g_2 ⊢
      refine jT_ifT (a := q3) (t := 84) (by rfl) (by rfl) (by rfl) (jw_idd (by omega) (by omega)) (by simp only [jcP] <;> omega) ?_
      refine jT_xiinc (x := t) (z := t + 1) (LN := [(5, (0, t + 1)), (7, (0, q2)), (6, (0, q1)), (3, (1, z)), (0, (4, 0)), (1, (0, p)), (2, (0, a))]) (pcN := 87) jIF_314_84 rfl rfl (rfl) rfl rfl ?_
      refine jT_xgoto (pcN := 42) jIF_314_87 rfl ?_
      refine jT_loc (LN := [(5, (0, t + 1)), (3, (1, z)), (0, (4, 0)), (1, (0, p)), (2, (0, a))]) (by show List.Nodup [5, 3, 0, 1, 2]; decide) (by intro q hq; simp only [List.mem_cons, List.not_mem_nil, or_false] at hq; rcases hq with rfl | rfl | rfl | rfl | rfl <;> rfl) ?_
      exact ih (t + 1) z (by omega) (by omega) (by rw [jur_s (p := p) (a := a) (t := t) (by omega), hz]; unfold jut; rw [hq_q1, hq_q2, hq_q3, if_neg (by omega)]; omega)
    · refine jT_xiload (v := (0, t)) (pcN := 44) jIF_314_42 rfl rfl rfl ?_
      refine jT_xiload_n (v := (0, p)) (pcN := 45) jIF_314_44 rfl rfl rfl ?_
      refine jT_icF (a := t) (b := p) (t := 90) (by rfl) (by rfl) (by rfl) (jw_idd (by omega) (by omega)) (jw_idd (by omega) (by omega)) (by simp only [jcP] <;> omega) ?_
      refine jT_xiload_n (v := (0, p)) (pcN := 49) jIF_314_48 rfl rfl rfl ?_
      refine jT_xi2l (x := p) (z := p) (pcN := 50) jIF_314_49 rfl (jw_idd (by omega) (by omega)) rfl ?_
      refine jT_xiload (v := (0, t)) (pcN := 52) jIF_314_50 rfl rfl rfl ?_
      refine jT_xi2l (x := t) (z := t) (pcN := 53) jIF_314_52 rfl (jw_idd (by omega) (by omega)) rfl ?_
      refine jT_fR [] 16 (y := 194) (pcN := 56) (dC := 11) (bc1 := 0) (bc2 := 0) (c1 := b1) (c2 := b2) (as := [(1, p), (1, t)]) (asC := [(1, p), (1, t)]) (LN := [(5, (0, t)), (3, (1, z)), (0, (4, 0)), (1, (0, p)), (2, (0, a))]) (stN := []) (hsC := []) (v := (1, ((Nat.gcd (p).natAbs (t).natAbs : Nat) : Int))) (st2 := [(1, ((Nat.gcd (p).natAbs (t).natAbs : Nat) : Int))]) (jT_gcd 5 0 (p) (t) (by omega) (by omega) (show (t).natAbs < 32 by omega)) (by rfl) (by rfl) (by decide +kernel) (by rfl) (by rfl) (by omega) (by omega) (by omega) (by omega) rfl ?_
      have hb_q1 := jgcd_l (x := p) (y := t) (by omega)
      have hb_q1 : 1 ≤ ((Nat.gcd (p).natAbs (t).natAbs : Nat) : Int) ∧ ((Nat.gcd (p).natAbs (t).natAbs : Nat) : Int) ≤ 30 := ⟨hb_q1.1, by omega⟩
      generalize hq_q1 : ((Nat.gcd (p).natAbs (t).natAbs : Nat) : Int) = q1 at hb_q1 g_2 ⊢
      refine jT_xl2i (pcN := 57) jIF_314_56 rfl rfl ?_
      refine jT_xistore (v := (0, q1)) (LN := [(6, (0, q1)), (5, (0, t)), (3, (1, z)), (0, (4, 0)), (1, (0, p)), (2, (0, a))]) (pcN := 59) jIF_314_57 rfl rfl rfl rfl ?_
      refine jT_xiload_n (v := (0, p)) (pcN := 60) jIF_314_59 rfl rfl rfl ?_
      refine jT_xiload (v := (0, q1)) (pcN := 62) jIF_314_60 rfl rfl rfl ?_
      refine jT_idiv (a := p) (b := q1) (by rfl) (by rfl) (jw_idd (by omega) (by omega)) (jw_idd (by omega) (by omega)) (by omega) ?_
      have hb_q2 := jun_b1 hq_q1 (by omega) (by omega)
      generalize hq_q2 : p.tdiv q1 = q2 at hb_q2 g_2 ⊢
      refine jT_xistore (v := (0, q2)) (LN := [(7, (0, q2)), (6, (0, q1)), (5, (0, t)), (3, (1, z)), (0, (4, 0)), (1, (0, p)), (2, (0, a))]) (pcN := 65) jIF_314_63 rfl rfl rfl rfl ?_
      refine jT_xiload_n (v := (0, a)) (pcN := 66) jIF_314_65 rfl rfl rfl ?_
      refine jT_xiload (v := (0, q2)) (pcN := 68) jIF_314_66 rfl rfl rfl ?_
      refine jT_irem (a := a) (b := q2) (by rfl) (by rfl) (jw_idd (by omega) (by omega)) (jw_idd (by omega) (by omega)) (by omega) ?_
      have hb_q3 := jtm_b (x := a) (y := q2) (by omega) (by omega)
      have hb_q3 : 0 ≤ a.tmod q2 ∧ a.tmod q2 ≤ 29 := ⟨hb_q3.1, by omega⟩
      generalize hq_q3 : a.tmod q2 = q3 at hb_q3 g_2 ⊢
      refine jT_ifF (a := q3) (t := 84) (by rfl) (by rfl) (by rfl) (jw_idd (by omega) (by omega)) (by simp only [jcP] <;> omega) ?_
      refine jT_xlload_n (v := (1, z)) (pcN := 73) jIF_314_72 rfl rfl rfl ?_
      refine jT_xiload (v := (0, q1)) (pcN := 75) jIF_314_73 rfl rfl rfl ?_
      refine jT_xiload_n (v := (0, a)) (pcN := 76) jIF_314_75 rfl rfl rfl ?_
      refine jT_xiload (v := (0, q2)) (pcN := 78) jIF_314_76 rfl rfl rfl ?_
      refine jT_idiv (a := a) (b := q2) (by rfl) (by rfl) (jw_idd (by omega) (by omega)) (jw_idd (by omega) (by omega)) (by omega) ?_
      have hb_q4 := jtd_b0 (x := a) (y := q2) (by omega) (by omega)
      have hb_q4 : 0 ≤ a.tdiv q2 ∧ a.tdiv q2 ≤ 30 := ⟨hb_q4.1, by omega⟩
      generalize hq_q4 : a.tdiv q2 = q4 at hb_q4 ⊢
      refine jT_fR [] 16 (y := 315) (pcN := 82) (dC := 0) (bc1 := 0) (bc2 := 0) (c1 := b1) (c2 := b2) (as := [(0, q1), (0, q4)]) (asC := [(0, q1), (0, q4)]) (LN := [(7, (0, q2)), (6, (0, q1)), (5, (0, t)), (3, (1, z)), (0, (4, 0)), (1, (0, p)), (2, (0, a))]) (stN := [(1, z)]) (hsC := []) (v := (1, jchi q1 q4)) (st2 := [(1, jchi q1 q4), (1, z)]) (jT_chi315 (d := 0) (t := q1) (s := q4) (by omega) (jun_le hq_q1 hq_q2 hq_q4 (by omega) (by omega) (by omega) (by omega)) (by omega)) (by rfl) (by rfl) (by decide +kernel) (by rfl) (by rfl) (by omega) (by omega) (by omega) (by omega) rfl ?_
      have hb_q5 := jchi_b q1 q4 (by omega) (by omega) (by omega) (by omega)
      generalize hq_q5 : jchi q1 q4 = q5 at hb_q5 ⊢
      refine jT_xladd (x := z) (y := q5) (z := q5 + z) (pcN := 83) jIF_314_82 rfl (by omega) rfl ?_
      refine jT_xlstore_n (v := (1, q5 + z)) (LN := [(3, (1, q5 + z)), (7, (0, q2)), (6, (0, q1)), (5, (0, t)), (0, (4, 0)), (1, (0, p)), (2, (0, a))]) (pcN := 84) jIF_314_83 rfl rfl rfl rfl ?_
      refine jT_xiinc (x := t) (z := t + 1) (LN := [(5, (0, t + 1)), (3, (1, q5 + z)), (7, (0, q2)), (6, (0, q1)), (0, (4, 0)), (1, (0, p)), (2, (0, a))]) (pcN := 87) jIF_314_84 rfl rfl (rfl) rfl rfl ?_
      refine jT_xgoto (pcN := 42) jIF_314_87 rfl ?_
      refine jT_loc (LN := [(5, (0, t + 1)), (3, (1, q5 + z)), (0, (4, 0)), (1, (0, p)), (2, (0, a))]) (by show List.Nodup [5, 3, 0, 1, 2]; decide) (by intro q hq; simp only [List.mem_cons, List.not_mem_nil, or_false] at hq; rcases hq with rfl | rfl | rfl | rfl | rfl <;> rfl) ?_
      exact ih (t + 1) (q5 + z) (by omega) (by omega) (by rw [jur_s (p := p) (a := a) (t := t) (by omega), hz]; unfold jut; rw [hq_q1, hq_q2, hq_q3, if_pos (by omega), hq_q4, hq_q5]; omega)
theorem jIF_314_90 : jmI (jm 314) 90 = (.lload_n 3, 1) := by rfl
theorem jIF_314_91 : jmI (jm 314) 91 = (.iload_n 1, 1) := by rfl
theorem jIF_314_92 : jmI (jm 314) 92 = (.i2l, 1) := by rfl
theorem jIF_314_94 : jmI (jm 314) 94 = (.l2i, 1) := by rfl
theorem jF_314_24 {xs : List Int} {d : Nat} {x1 x2 : Int} (h_x1 : 1 ≤ x1 ∧ x1 ≤ 30) (h_x2 : 0 ≤ x2 ∧ x2 ≤ 2147483647) (g_0 : -x1 + x2 - 1 < 0) : jT xs (d + 13) 314 16 0 [(0, (4, 0)), (1, (0, x1)), (2, (0, x2))] [] jpF_19 0 0 (fun k v hsN => k = 0 ∧ v = (0, (jus x1 x2 x1.toNat).tdiv x1) ∧ hsN = jpF_19 ++ []) := by
  refine jT_xaload_n (v := (4, 0)) (pcN := 1) jIF_314_0 rfl rfl rfl ?_
  refine jT_xiload_n (v := (0, x1)) (pcN := 2) jIF_314_1 rfl rfl rfl ?_
  refine jT_xi2l (x := x1) (z := x1) (pcN := 3) jIF_314_2 rfl (jw_idd (by omega) (by omega)) rfl ?_
  refine jT_xlconst (z := 1) (pcN := 4) jIF_314_3 rfl rfl ?_
  refine jT_adv 1 (pcN := 7) (LN := [(0, (4, 0)), (1, (0, x1)), (2, (0, x2))]) (stN := [(1, 30), (1, 1), (1, x1), (4, 0)]) (hsN := jpF_19) (c1 := 0) (s1 := 0) (c2 := 0) (s2 := 0) (by exact rfl) ?_ (by omega) (by omega)
  refine jT_fR [] 16 (y := 189) (pcN := 10) (dC := 0) (bc1 := 0) (bc2 := 0) (c1 := 0) (c2 := 0) (as := [(1, x1), (1, 1), (1, 30)]) (asC := [(1, x1), (1, 1), (1, 30)]) (LN := [(0, (4, 0)), (1, (0, x1)), (2, (0, x2))]) (stN := [(4, 0)]) (hsC := []) (v := (0, 1)) (st2 := [(0, 1), (4, 0)]) (jT_in_ok (d := 0) (v := x1) (lo := 1) (hi := 30) (by omega) (by omega) (by omega) (by omega) (by omega)) (by rfl) (by rfl) (by decide +kernel) (by rfl) (by rfl) (by omega) (by omega) (by omega) (by omega) rfl ?_
  refine jT_xifF (t := 28) (pcN := 13) jIF_314_10 rfl (by decide +kernel) rfl rfl ?_
  refine jT_xiload_n (v := (0, x2)) (pcN := 14) jIF_314_13 rfl rfl rfl ?_
  refine jT_xi2l (x := x2) (z := x2) (pcN := 15) jIF_314_14 rfl (jw_idd (by omega) (by omega)) rfl ?_
  refine jT_xlconst (z := 0) (pcN := 16) jIF_314_15 rfl rfl ?_
  refine jT_xiload_n (v := (0, x1)) (pcN := 17) jIF_314_16 rfl rfl rfl ?_
  refine jT_xi2l (x := x1) (z := x1) (pcN := 18) jIF_314_17 rfl (jw_idd (by omega) (by omega)) rfl ?_
  refine jT_fR [] 16 (y := 189) (pcN := 21) (dC := 0) (bc1 := 0) (bc2 := 0) (c1 := 0) (c2 := 0) (as := [(1, x2), (1, 0), (1, x1)]) (asC := [(1, x2), (1, 0), (1, x1)]) (LN := [(0, (4, 0)), (1, (0, x1)), (2, (0, x2))]) (stN := [(4, 0)]) (hsC := []) (v := (0, 1)) (st2 := [(0, 1), (4, 0)]) (jT_in_ok (d := 0) (v := x2) (lo := 0) (hi := x1) (by omega) (by omega) (by omega) (by omega) (by omega)) (by rfl) (by rfl) (by decide +kernel) (by rfl) (by rfl) (by omega) (by omega) (by omega) (by omega) rfl ?_
  refine jT_xifF (t := 28) (pcN := 24) jIF_314_21 rfl (by decide +kernel) rfl rfl ?_
  refine jT_xiconst (k := 1) (pcN := 25) jIF_314_24 rfl ?_
  refine jT_xgoto (pcN := 29) jIF_314_25 rfl ?_
  refine jT_fR [0, 1, 2, 3, 4, 5, 6, 7, 8, 9, 10, 11, 12, 13, 14, 15] 16 (y := 190) (pcN := 32) (dC := 1) (bc1 := 0) (bc2 := 0) (c1 := 0) (c2 := 0) (as := [(4, 0), (0, 1)]) (asC := [(4, 0), (0, 1)]) (LN := [(0, (4, 0)), (1, (0, x1)), (2, (0, x2))]) (stN := []) (hsC := jpF_19) (v := (0, 0)) (st2 := [(0, 0)]) (jF_190_22 (d := 0)) (by rfl) (by rfl) (by decide +kernel) (by rfl) (by rfl) (by omega) (by omega) (by omega) (by omega) rfl ?_
  refine jT_xifT (pcN := 37) jIF_314_32 rfl (by decide +kernel) rfl ?_
  refine jT_xlconst (z := 0) (pcN := 38) jIF_314_37 rfl rfl ?_
  refine jT_xlstore_n (v := (1, 0)) (LN := [(3, (1, 0)), (0, (4, 0)), (1, (0, x1)), (2, (0, x2))]) (pcN := 39) jIF_314_38 rfl rfl rfl rfl ?_
  refine jT_xiconst (k := 0) (pcN := 40) jIF_314_39 rfl ?_
  refine jT_xistore (v := (0, 0)) (LN := [(5, (0, 0)), (3, (1, 0)), (0, (4, 0)), (1, (0, x1)), (2, (0, x2))]) (pcN := 42) jIF_314_40 rfl rfl rfl rfl ?_
  refine jT_loc (LN := [(5, (0, 0)), (3, (1, 0)), (0, (4, 0)), (1, (0, x1)), (2, (0, x2))]) (by show List.Nodup [5, 3, 0, 1, 2]; decide) (by intro q hq; simp only [List.mem_cons, List.not_mem_nil, or_false] at hq; rcases hq with rfl | rfl | rfl | rfl | rfl <;> rfl) ?_
  refine jFl_un_23 (p := x1) (a := x2) (by omega) (by omega) (by omega) (by omega) ?_ x1.toNat 0 0 (by omega) (by omega) (by rfl)
  have hb_q1 := jus_bp (p := x1) (a := x2) (by omega) (by omega) (by omega)
  generalize hq_q1 : jus x1 x2 x1.toNat = q1 at hb_q1 ⊢
  refine jT_xlload_n (v := (1, q1)) (pcN := 91) jIF_314_90 rfl rfl rfl ?_
  refine jT_xiload_n (v := (0, x1)) (pcN := 92) jIF_314_91 rfl rfl rfl ?_
  refine jT_xi2l (x := x1) (z := x1) (pcN := 93) jIF_314_92 rfl (jw_idd (by omega) (by omega)) rfl ?_
  refine jT_ldiv (a := q1) (b := x1) (by rfl) (by rfl) (jwl_idd (by omega) (by omega)) (jwl_idd (by omega) (by omega)) (by omega) ?_
  have hb_q2 := jun_q (p := x1) (a := x2) (q := q1) hq_q1 (by omega) (by omega) (by omega) (by omega)
  generalize hq_q2 : q1.tdiv x1 = q2 at hb_q2 ⊢
  refine jT_xl2i (pcN := 95) jIF_314_94 rfl rfl ?_
  subst hq_q2
  subst hq_q1
  exact jT_ret rfl (by decide) (by show 16 ≤ 16; omega) (by omega) (by omega) ⟨rfl, rfl, rfl⟩
theorem jF_186_25 {xs : List Int} {d : Nat} : jT xs d 186 16 0 [(0, (4, 0))] [] jpF_19 0 0 (fun k v hsN => k = 0 ∧ v = (0, 0) ∧ hsN = jpF_19 ++ []) := by
  refine jT_advK 2 (pcN := 4) (LN := [(0, (4, 0))]) (stN := [(0, 0)]) (hsN := jpF_19) (c1 := 0) (s1 := 0) (c2 := 0) (s2 := 0) (by decide +kernel) ?_ (by omega) (by omega)
  exact jT_ret rfl (by decide) (by show 16 ≤ 16; omega) (by omega) (by omega) ⟨rfl, rfl, rfl⟩
theorem jF_116_26 {xs : List Int} {d : Nat} {x1 : Int} (h_x1 : 31 ≤ x1 ∧ x1 ≤ 2147483647) : jT xs d 116 1 0 [(0, (4, 0)), (1, (0, x1)), (2, (0, 1)), (3, (0, 30))] [] [jgh] 1 6 (fun k v hsN => k = 1 ∧ v = (0, 1) ∧ hsN = [jgh] ++ []) := by
  refine jT_xiload_n (v := (0, x1)) (pcN := 1) jIF_116_0 rfl rfl rfl ?_
  refine jT_xiload_n (v := (0, 1)) (pcN := 2) jIF_116_1 rfl rfl rfl ?_
  refine jT_icF (a := x1) (b := 1) (t := 10) (by rfl) (by rfl) (by rfl) (jw_idd (by omega) (by omega)) (jw_idd (by omega) (by omega)) (by simp only [jcP] <;> omega) ?_
  refine jT_xiload_n (v := (0, x1)) (pcN := 6) jIF_116_5 rfl rfl rfl ?_
  refine jT_xiload_n (v := (0, 30)) (pcN := 7) jIF_116_6 rfl rfl rfl ?_
  refine jT_icF (a := x1) (b := 30) (t := 21) (by rfl) (by rfl) (by rfl) (jw_idd (by omega) (by omega)) (jw_idd (by omega) (by omega)) (by simp only [jcP] <;> omega) ?_
  exact jT_ret (c1 := 1) (s1 := 6) rfl (by decide) (by show 1 ≤ 1; omega) (by omega) (by omega) ⟨rfl, rfl, rfl⟩
theorem jF_171_27 {xs : List Int} {d : Nat} {x1 x2 : Int} (h_x1 : 31 ≤ x1 ∧ x1 ≤ 2147483647) (h_x2 : (-2147483648) ≤ x2 ∧ x2 ≤ 2147483647) : jT xs (d + 1) 171 12 0 [(0, (4, 0)), (1, (0, x1)), (2, (0, x2))] [] jpF_8 1 6 (fun k v hsN => k = 1 ∧ v = (0, 1) ∧ hsN = jpF_8 ++ []) := by
  refine jT_xaload_n (v := (4, 0)) (pcN := 1) jIF_171_0 rfl rfl rfl ?_
  refine jT_xiload_n (v := (0, x1)) (pcN := 2) jIF_171_1 rfl rfl rfl ?_
  refine jT_xiconst (k := 1) (pcN := 3) jIF_171_2 rfl ?_
  refine jT_xbipush (k := 30) (pcN := 5) jIF_171_3 (by decide) rfl ?_
  exact jT_fX [0] 12 (y := 116) (pcN := 8) (dC := 0) (bc1 := 1) (bc2 := 6) (as := [(4, 0), (0, x1), (0, 1), (0, 30)]) (asC := [(4, 0), (0, x1), (0, 1), (0, 30)]) (LN := [(0, (4, 0)), (1, (0, x1)), (2, (0, x2))]) (stN := []) (hsC := [jgh]) (e := 1) (jF_116_26 (d := 0) (by omega)) (by rfl) (by rfl) (by decide +kernel) (by rfl) (by rfl) (by omega) (by omega) (by omega) (by omega) ⟨rfl, ⟨rfl, rfl, rfl⟩⟩
theorem jF_369_28 {xs : List Int} {d : Nat} {x1 x2 : Int} (h_x1 : 31 ≤ x1 ∧ x1 ≤ 2147483647) (h_x2 : (-2147483648) ≤ x2 ∧ x2 ≤ 2147483647) : jT xs (d + 2) 369 13 0 [(0, (4, 0)), (1, (0, x1)), (2, (0, x2)), (3, (4, 1))] [] jpF_15 1 6 (fun k v hsN => k = 0 ∧ v = (0, 1) ∧ hsN = jpF_15 ++ []) := by
  refine jT_xaload_n (v := (4, 1)) (pcN := 1) jIF_369_0 rfl rfl rfl ?_
  refine jT_xiconst (k := 0) (pcN := 2) jIF_369_1 rfl ?_
  refine jT_xaload_n (v := (4, 0)) (pcN := 3) jIF_369_2 rfl rfl rfl ?_
  refine jT_xiload_n (v := (0, x1)) (pcN := 4) jIF_369_3 rfl rfl rfl ?_
  refine jT_xiload_n (v := (0, x2)) (pcN := 5) jIF_369_4 rfl rfl rfl ?_
  exact jT_fX [0, 2, 3, 4, 5, 6, 7, 8, 9, 10, 11, 12] 13 (y := 171) (pcN := 8) (dC := 1) (bc1 := 1) (bc2 := 6) (as := [(4, 0), (0, x1), (0, x2)]) (asC := [(4, 0), (0, x1), (0, x2)]) (LN := [(0, (4, 0)), (1, (0, x1)), (2, (0, x2)), (3, (4, 1))]) (stN := [(0, 0), (4, 1)]) (hsC := jpF_8) (e := 1) (jF_171_27 (d := 0) (by omega) (by omega)) (by rfl) (by rfl) (by decide +kernel) (by rfl) (by rfl) (by omega) (by omega) (by omega) (by omega) (show _ from ⟨rfl, rfl, rfl⟩)
theorem jF_314_29 {xs : List Int} {d : Nat} {x1 x2 : Int} (h_x1 : 31 ≤ x1 ∧ x1 ≤ 2147483647) (h_x2 : (-2147483648) ≤ x2 ∧ x2 ≤ 2147483647) : jT xs (d + 2) 314 16 0 [(0, (4, 0)), (1, (0, x1)), (2, (0, x2))] [] jpF_19 0 0 (fun k v hsN => k = 0 ∧ v = (0, 0) ∧ hsN = jpF_17) := by
  refine jT_xaload_n (v := (4, 0)) (pcN := 1) jIF_314_0 rfl rfl rfl ?_
  refine jT_xiload_n (v := (0, x1)) (pcN := 2) jIF_314_1 rfl rfl rfl ?_
  refine jT_xi2l (x := x1) (z := x1) (pcN := 3) jIF_314_2 rfl (jw_idd (by omega) (by omega)) rfl ?_
  refine jT_xlconst (z := 1) (pcN := 4) jIF_314_3 rfl rfl ?_
  refine jT_adv 1 (pcN := 7) (LN := [(0, (4, 0)), (1, (0, x1)), (2, (0, x2))]) (stN := [(1, 30), (1, 1), (1, x1), (4, 0)]) (hsN := jpF_19) (c1 := 0) (s1 := 0) (c2 := 0) (s2 := 0) (by exact rfl) ?_ (by omega) (by omega)
  refine jT_fR [] 16 (y := 189) (pcN := 10) (dC := 0) (bc1 := 0) (bc2 := 0) (c1 := 0) (c2 := 0) (as := [(1, x1), (1, 1), (1, 30)]) (asC := [(1, x1), (1, 1), (1, 30)]) (LN := [(0, (4, 0)), (1, (0, x1)), (2, (0, x2))]) (stN := [(4, 0)]) (hsC := []) (v := (0, 0)) (st2 := [(0, 0), (4, 0)]) (jT_in_hi (d := 0) (v := x1) (lo := 1) (hi := 30) (by omega) (by omega) (by omega) (by omega) (by omega)) (by rfl) (by rfl) (by decide +kernel) (by rfl) (by rfl) (by omega) (by omega) (by omega) (by omega) rfl ?_
  refine jT_xifT (pcN := 28) jIF_314_10 rfl (by decide +kernel) rfl ?_
  refine jT_xiconst (k := 0) (pcN := 29) jIF_314_28 rfl ?_
  refine jT_fB [0, 1, 2, 3, 4, 5, 6, 7, 8, 9, 10, 11, 12, 13, 14, 15] 16 (y := 190) (pcN := 32) (dC := 1) (bc1 := 0) (bc2 := 0) (c1 := 0) (c2 := 0) (as := [(4, 0), (0, 0)]) (asC := [(4, 0), (0, 0)]) (LN := [(0, (4, 0)), (1, (0, x1)), (2, (0, x2))]) (stN := []) (hsC := jpF_19) (hsD := jpF_17) (v := (0, 1)) (st2 := [(0, 1)]) (hs2 := jpF_17) (jF_190_5 (d := 0)) (by rfl) (by rfl) (by decide +kernel) (by rfl) (by rfl) (by omega) (by omega) (by omega) (by omega) rfl (by decide +kernel) ?_
  refine jT_xifF (t := 37) (pcN := 35) jIF_314_32 rfl (by decide +kernel) rfl rfl ?_
  refine jT_xiconst (k := 0) (pcN := 36) jIF_314_35 rfl ?_
  exact jT_ret rfl (by decide) (by show 16 ≤ 16; omega) (by omega) (by omega) ⟨rfl, rfl, rfl⟩
theorem jIF_379_3426 : jmI (jm 379) 3426 = (.aload_n 1, 1) := by rfl
theorem jIF_379_3427 : jmI (jm 379) 3427 = (.aload_n 0, 1) := by rfl
theorem jIF_379_3428 : jmI (jm 379) 3428 = (.iload 5, 2) := by rfl
theorem jIF_379_3430 : jmI (jm 379) 3430 = (.iconst 1, 1) := by rfl
theorem jIF_379_3431 : jmI (jm 379) 3431 = (.iadd, 1) := by rfl
def jzF_114 : JC := (13, [(4, 4), (4, 5), (4, 6), (4, 7), (4, 8), (4, 9), (4, 10), (4, 11), (4, 12), (4, 13), (0, 0), (4, 14), (0, 0)], [])
def jzF_115 : JC := (14, [(0, 0), (4, 15), (4, 16), (4, 17), (4, 18), (0, 0), (4, 19), (0, 0), (4, 20), (4, 21), (1, 1), (4, 22), (0, 0), (4, 23), (0, 0), (0, 0), (0, 0), (0, 0), (0, 0), (0, 0), (0, 0), (4, 24), (4, 25), (4, 26), (4, 27), (4, 28), (4, 29), (0, 0)], [])
def jpF_116 : List JC := [jzF_114, jzF_115, jgh, jgh, jgh, jgh, jgh, jgh, jgh, jgh, jgh, jgh, jgh, jgh, jgh, jgh, jgh, jgh, jgh, jgh, jgh, jgh, jgh, jgh, jgh, jgh, jgh, jgh, jgh, jgh]
theorem jIF_379_3433 : jmI (jm 379) 3433 = (.aload_n 0, 1) := by rfl
theorem jIF_379_3434 : jmI (jm 379) 3434 = (.iload 5, 2) := by rfl
theorem jIF_379_3436 : jmI (jm 379) 3436 = (.iconst 2, 1) := by rfl
theorem jIF_379_3437 : jmI (jm 379) 3437 = (.iadd, 1) := by rfl
theorem jIF_379_3439 : jmI (jm 379) 3439 = (.aload_n 3, 1) := by rfl
theorem jIF_379_3443 : jmI (jm 379) 3443 = (.istore 6, 2) := by rfl
theorem jIF_379_3445 : jmI (jm 379) 3445 = (.aload_n 2, 1) := by rfl
theorem jIF_379_3446 : jmI (jm 379) 3446 = (.aload_n 0, 1) := by rfl
theorem jIF_379_3447 : jmI (jm 379) 3447 = (.iload 5, 2) := by rfl
theorem jIF_379_3449 : jmI (jm 379) 3449 = (.iconst 1, 1) := by rfl
theorem jIF_379_3450 : jmI (jm 379) 3450 = (.iadd, 1) := by rfl
theorem jIF_379_3452 : jmI (jm 379) 3452 = (.aload_n 0, 1) := by rfl
theorem jIF_379_3453 : jmI (jm 379) 3453 = (.iload 5, 2) := by rfl
theorem jIF_379_3455 : jmI (jm 379) 3455 = (.iconst 2, 1) := by rfl
theorem jIF_379_3456 : jmI (jm 379) 3456 = (.iadd, 1) := by rfl
def jzF_132 : JC := (14, [(0, 1), (4, 15), (4, 16), (4, 17), (4, 18), (0, 0), (4, 19), (0, 0), (4, 20), (4, 21), (1, 1), (4, 22), (0, 0), (4, 23), (0, 0), (0, 0), (0, 0), (0, 0), (0, 0), (0, 0), (0, 0), (4, 24), (4, 25), (4, 26), (4, 27), (4, 28), (4, 29), (0, 0)], [])
def jpF_133 : List JC := [jzF_114, jzF_132, jgh, jgh, jgh, jgh, jgh, jgh, jgh, jgh, jgh, jgh, jgh, jgh, jgh, jgh, jgh, jgh, jgh, jgh, jgh, jgh, jgh, jgh, jgh, jgh, jgh, jgh, jgh, jgh]
theorem jIF_379_3461 : jmI (jm 379) 3461 = (.istore 7, 2) := by rfl
theorem jIF_379_3463 : jmI (jm 379) 3463 = (.aload_n 2, 1) := by rfl
theorem jIF_379_3467 : jmI (jm 379) 3467 = (.iload 6, 2) := by rfl
theorem jIF_379_3469 : jmI (jm 379) 3469 = (.if_icmp .eq 5, 3) := by rfl
theorem jIF_379_3474 : jmI (jm 379) 3474 = (.iload 6, 2) := by rfl
theorem jIF_379_3476 : jmI (jm 379) 3476 = (.ifCond .ne 15, 3) := by rfl
theorem jIF_379_3491 : jmI (jm 379) 3491 = (.goto 249, 3) := by rfl
theorem jIF_379_3740 : jmI (jm 379) 3740 = (.iinc 5 5, 3) := by rfl
theorem jIF_379_3743 : jmI (jm 379) 3743 = (.goto (-3715), 3) := by rfl
theorem jIF_379_28 : jmI (jm 379) 28 = (.iload 5, 2) := by rfl
theorem jIF_379_30 : jmI (jm 379) 30 = (.aload_n 0, 1) := by rfl
theorem jIF_379_32 : jmI (jm 379) 32 = (.iconst 5, 1) := by rfl
theorem jIF_379_33 : jmI (jm 379) 33 = (.isub, 1) := by rfl
theorem jIF_379_34 : jmI (jm 379) 34 = (.if_icmp .gt 3712, 3) := by rfl
theorem jIF_379_3746 : jmI (jm 379) 3746 = (.iconst 1, 1) := by rfl
set_option maxRecDepth 100000 in
theorem jL_47_0 {d : Nat} {x0 x1 x2 x3 x4 : Int} (h_x0 : (-2147483648) ≤ x0 ∧ x0 ≤ 2147483647) (h_x1 : (-2147483648) ≤ x1 ∧ x1 ≤ 0) (h_x2 : (-2147483648) ≤ x2 ∧ x2 ≤ 2147483647) (h_x3 : (-2147483648) ≤ x3 ∧ x3 ≤ 2147483647) (h_x4 : (-2147483648) ≤ x4 ∧ x4 ≤ 2147483647) : jT [x0, x1, x2, x3, x4] (d + 3) 379 30 3426 [(5, (0, 0)), (4, (4, 3)), (3, (4, 2)), (2, (4, 1)), (1, (4, 0)), (0, (6, 0))] [] jpF_116 1 6 (fun k v hsN => k = 0 ∧ v = (0, 1)) := by
  refine jT_xaload_n (v := (4, 0)) (pcN := 3427) jIF_379_3426 rfl rfl rfl ?_
  refine jT_xaload_n (v := (6, 0)) (pcN := 3428) jIF_379_3427 rfl rfl rfl ?_
  refine jT_xiload (v := (0, 0)) (pcN := 3430) jIF_379_3428 rfl rfl rfl ?_
  refine jT_xiconst (k := 1) (pcN := 3431) jIF_379_3430 rfl ?_
  refine jT_xiadd (x := 0) (y := 1) (z := 1) (pcN := 3432) jIF_379_3431 rfl (by decide) rfl ?_
  refine jT_adv 1 (pcN := 3433) (LN := [(5, (0, 0)), (4, (4, 3)), (3, (4, 2)), (2, (4, 1)), (1, (4, 0)), (0, (6, 0))]) (stN := [(0, x1), (4, 0)]) (hsN := jpF_116) (c1 := 0) (s1 := 0) (c2 := 1) (s2 := 6) (by exact rfl) ?_ (by omega) (by omega)
  refine jT_xaload_n (v := (6, 0)) (pcN := 3434) jIF_379_3433 rfl rfl rfl ?_
  refine jT_xiload (v := (0, 0)) (pcN := 3436) jIF_379_3434 rfl rfl rfl ?_
  refine jT_xiconst (k := 2) (pcN := 3437) jIF_379_3436 rfl ?_
  refine jT_xiadd (x := 0) (y := 2) (z := 2) (pcN := 3438) jIF_379_3437 rfl (by decide) rfl ?_
  refine jT_adv 1 (pcN := 3439) (LN := [(5, (0, 0)), (4, (4, 3)), (3, (4, 2)), (2, (4, 1)), (1, (4, 0)), (0, (6, 0))]) (stN := [(0, x2), (0, x1), (4, 0)]) (hsN := jpF_116) (c1 := 0) (s1 := 0) (c2 := 1) (s2 := 6) (by exact rfl) ?_ (by omega) (by omega)
  refine jT_xaload_n (v := (4, 2)) (pcN := 3440) jIF_379_3439 rfl rfl rfl ?_
  refine jT_fR [0, 2, 4, 5, 6, 7, 8, 9, 10, 11, 12, 13, 14] 30 (y := 369) (pcN := 3443) (dC := 2) (bc1 := 1) (bc2 := 6) (c1 := 0) (c2 := 0) (as := [(4, 0), (0, x1), (0, x2), (4, 2)]) (asC := [(4, 0), (0, x1), (0, x2), (4, 1)]) (LN := [(5, (0, 0)), (4, (4, 3)), (3, (4, 2)), (2, (4, 1)), (1, (4, 0)), (0, (6, 0))]) (stN := []) (hsC := jpF_15) (v := (0, 1)) (st2 := [(0, 1)]) (jF_369_3 (d := 0) (by omega) (by omega)) (by rfl) (by rfl) (by decide +kernel) (by rfl) (by rfl) (by omega) (by omega) (by omega) (by omega) rfl ?_
  refine jT_xistore (v := (0, 1)) (LN := [(6, (0, 1)), (5, (0, 0)), (4, (4, 3)), (3, (4, 2)), (2, (4, 1)), (1, (4, 0)), (0, (6, 0))]) (pcN := 3445) jIF_379_3443 rfl rfl rfl rfl ?_
  refine jT_xaload_n (v := (4, 1)) (pcN := 3446) jIF_379_3445 rfl rfl rfl ?_
  refine jT_xaload_n (v := (6, 0)) (pcN := 3447) jIF_379_3446 rfl rfl rfl ?_
  refine jT_xiload (v := (0, 0)) (pcN := 3449) jIF_379_3447 rfl rfl rfl ?_
  refine jT_xiconst (k := 1) (pcN := 3450) jIF_379_3449 rfl ?_
  refine jT_xiadd (x := 0) (y := 1) (z := 1) (pcN := 3451) jIF_379_3450 rfl (by decide) rfl ?_
  refine jT_adv 1 (pcN := 3452) (LN := [(6, (0, 1)), (5, (0, 0)), (4, (4, 3)), (3, (4, 2)), (2, (4, 1)), (1, (4, 0)), (0, (6, 0))]) (stN := [(0, x1), (4, 1)]) (hsN := jpF_116) (c1 := 0) (s1 := 0) (c2 := 0) (s2 := 0) (by exact rfl) ?_ (by omega) (by omega)
  refine jT_xaload_n (v := (6, 0)) (pcN := 3453) jIF_379_3452 rfl rfl rfl ?_
  refine jT_xiload (v := (0, 0)) (pcN := 3455) jIF_379_3453 rfl rfl rfl ?_
  refine jT_xiconst (k := 2) (pcN := 3456) jIF_379_3455 rfl ?_
  refine jT_xiadd (x := 0) (y := 2) (z := 2) (pcN := 3457) jIF_379_3456 rfl (by decide) rfl ?_
  refine jT_adv 1 (pcN := 3458) (LN := [(6, (0, 1)), (5, (0, 0)), (4, (4, 3)), (3, (4, 2)), (2, (4, 1)), (1, (4, 0)), (0, (6, 0))]) (stN := [(0, x2), (0, x1), (4, 1)]) (hsN := jpF_116) (c1 := 0) (s1 := 0) (c2 := 0) (s2 := 0) (by exact rfl) ?_ (by omega) (by omega)
  refine jT_fB [1, 15, 16, 17, 18, 19, 20, 21, 22, 23, 24, 25, 26, 27, 28, 29] 30 (y := 314) (pcN := 3461) (dC := 2) (bc1 := 0) (bc2 := 0) (c1 := 0) (c2 := 0) (as := [(4, 1), (0, x1), (0, x2)]) (asC := [(4, 0), (0, x1), (0, x2)]) (LN := [(6, (0, 1)), (5, (0, 0)), (4, (4, 3)), (3, (4, 2)), (2, (4, 1)), (1, (4, 0)), (0, (6, 0))]) (stN := []) (hsC := jpF_19) (hsD := jpF_17) (v := (0, 0)) (st2 := [(0, 0)]) (hs2 := jpF_133) (jF_314_6 (d := 0) (by omega) (by omega)) (by rfl) (by rfl) (by decide +kernel) (by rfl) (by rfl) (by omega) (by omega) (by omega) (by omega) rfl (by decide +kernel) ?_
  refine jT_xistore (v := (0, 0)) (LN := [(7, (0, 0)), (6, (0, 1)), (5, (0, 0)), (4, (4, 3)), (3, (4, 2)), (2, (4, 1)), (1, (4, 0)), (0, (6, 0))]) (pcN := 3463) jIF_379_3461 rfl rfl rfl rfl ?_
  refine jT_xaload_n (v := (4, 1)) (pcN := 3464) jIF_379_3463 rfl rfl rfl ?_
  refine jT_fR [1, 15, 16, 17, 18, 19, 20, 21, 22, 23, 24, 25, 26, 27, 28, 29] 30 (y := 186) (pcN := 3467) (dC := 0) (bc1 := 0) (bc2 := 0) (c1 := 0) (c2 := 0) (as := [(4, 1)]) (asC := [(4, 0)]) (LN := [(7, (0, 0)), (6, (0, 1)), (5, (0, 0)), (4, (4, 3)), (3, (4, 2)), (2, (4, 1)), (1, (4, 0)), (0, (6, 0))]) (stN := []) (hsC := jpF_17) (v := (0, 1)) (st2 := [(0, 1)]) (jF_186_7 (d := 0)) (by rfl) (by rfl) (by decide +kernel) (by rfl) (by rfl) (by omega) (by omega) (by omega) (by omega) rfl ?_
  refine jT_xiload (v := (0, 1)) (pcN := 3469) jIF_379_3467 rfl rfl rfl ?_
  refine jT_xicT (pcN := 3474) jIF_379_3469 rfl (by decide +kernel) rfl ?_
  refine jT_xiload (v := (0, 1)) (pcN := 3476) jIF_379_3474 rfl rfl rfl ?_
  refine jT_xifT (pcN := 3491) jIF_379_3476 rfl (by decide +kernel) rfl ?_
  refine jT_xgoto (pcN := 3740) jIF_379_3491 rfl ?_
  refine jT_xiinc (x := 0) (z := 5) (LN := [(5, (0, 5)), (7, (0, 0)), (6, (0, 1)), (4, (4, 3)), (3, (4, 2)), (2, (4, 1)), (1, (4, 0)), (0, (6, 0))]) (pcN := 3743) jIF_379_3740 rfl rfl (by decide) rfl rfl ?_
  refine jT_xgoto (pcN := 28) jIF_379_3743 rfl ?_
  refine jT_xiload (v := (0, 5)) (pcN := 30) jIF_379_28 rfl rfl rfl ?_
  refine jT_xaload_n (v := (6, 0)) (pcN := 31) jIF_379_30 rfl rfl rfl ?_
  refine jT_adv 1 (pcN := 32) (LN := [(5, (0, 5)), (7, (0, 0)), (6, (0, 1)), (4, (4, 3)), (3, (4, 2)), (2, (4, 1)), (1, (4, 0)), (0, (6, 0))]) (stN := [(0, 5), (0, 5)]) (hsN := jpF_133) (c1 := 0) (s1 := 0) (c2 := 0) (s2 := 0) (by exact rfl) ?_ (by omega) (by omega)
  refine jT_xiconst (k := 5) (pcN := 33) jIF_379_32 rfl ?_
  refine jT_xisub (x := 5) (y := 5) (z := 0) (pcN := 34) jIF_379_33 rfl (by decide) rfl ?_
  refine jT_xicT (pcN := 3746) jIF_379_34 rfl (by decide +kernel) rfl ?_
  refine jT_xiconst (k := 1) (pcN := 3747) jIF_379_3746 rfl ?_
  exact jT_ret rfl (by decide) (by show 30 ≤ 30; decide) (by omega) (by omega) ⟨rfl, rfl⟩
set_option maxRecDepth 100000 in
theorem jL_47_1 {d : Nat} {x0 x1 x2 x3 x4 : Int} (h_x0 : (-2147483648) ≤ x0 ∧ x0 ≤ 2147483647) (h_x1 : 1 ≤ x1 ∧ x1 ≤ 30) (h_x2 : (-2147483648) ≤ x2 ∧ x2 ≤ (-1)) (h_x3 : (-2147483648) ≤ x3 ∧ x3 ≤ 2147483647) (h_x4 : (-2147483648) ≤ x4 ∧ x4 ≤ 2147483647) : jT [x0, x1, x2, x3, x4] (d + 3) 379 30 3426 [(5, (0, 0)), (4, (4, 3)), (3, (4, 2)), (2, (4, 1)), (1, (4, 0)), (0, (6, 0))] [] jpF_116 1 6 (fun k v hsN => k = 0 ∧ v = (0, 1)) := by
  refine jT_xaload_n (v := (4, 0)) (pcN := 3427) jIF_379_3426 rfl rfl rfl ?_
  refine jT_xaload_n (v := (6, 0)) (pcN := 3428) jIF_379_3427 rfl rfl rfl ?_
  refine jT_xiload (v := (0, 0)) (pcN := 3430) jIF_379_3428 rfl rfl rfl ?_
  refine jT_xiconst (k := 1) (pcN := 3431) jIF_379_3430 rfl ?_
  refine jT_xiadd (x := 0) (y := 1) (z := 1) (pcN := 3432) jIF_379_3431 rfl (by decide) rfl ?_
  refine jT_adv 1 (pcN := 3433) (LN := [(5, (0, 0)), (4, (4, 3)), (3, (4, 2)), (2, (4, 1)), (1, (4, 0)), (0, (6, 0))]) (stN := [(0, x1), (4, 0)]) (hsN := jpF_116) (c1 := 0) (s1 := 0) (c2 := 1) (s2 := 6) (by exact rfl) ?_ (by omega) (by omega)
  refine jT_xaload_n (v := (6, 0)) (pcN := 3434) jIF_379_3433 rfl rfl rfl ?_
  refine jT_xiload (v := (0, 0)) (pcN := 3436) jIF_379_3434 rfl rfl rfl ?_
  refine jT_xiconst (k := 2) (pcN := 3437) jIF_379_3436 rfl ?_
  refine jT_xiadd (x := 0) (y := 2) (z := 2) (pcN := 3438) jIF_379_3437 rfl (by decide) rfl ?_
  refine jT_adv 1 (pcN := 3439) (LN := [(5, (0, 0)), (4, (4, 3)), (3, (4, 2)), (2, (4, 1)), (1, (4, 0)), (0, (6, 0))]) (stN := [(0, x2), (0, x1), (4, 0)]) (hsN := jpF_116) (c1 := 0) (s1 := 0) (c2 := 1) (s2 := 6) (by exact rfl) ?_ (by omega) (by omega)
  refine jT_xaload_n (v := (4, 2)) (pcN := 3440) jIF_379_3439 rfl rfl rfl ?_
  refine jT_fR [0, 2, 4, 5, 6, 7, 8, 9, 10, 11, 12, 13, 14] 30 (y := 369) (pcN := 3443) (dC := 2) (bc1 := 1) (bc2 := 6) (c1 := 0) (c2 := 0) (as := [(4, 0), (0, x1), (0, x2), (4, 2)]) (asC := [(4, 0), (0, x1), (0, x2), (4, 1)]) (LN := [(5, (0, 0)), (4, (4, 3)), (3, (4, 2)), (2, (4, 1)), (1, (4, 0)), (0, (6, 0))]) (stN := []) (hsC := jpF_15) (v := (0, 1)) (st2 := [(0, 1)]) (jF_369_11 (d := 0) (by omega) (by omega)) (by rfl) (by rfl) (by decide +kernel) (by rfl) (by rfl) (by omega) (by omega) (by omega) (by omega) rfl ?_
  refine jT_xistore (v := (0, 1)) (LN := [(6, (0, 1)), (5, (0, 0)), (4, (4, 3)), (3, (4, 2)), (2, (4, 1)), (1, (4, 0)), (0, (6, 0))]) (pcN := 3445) jIF_379_3443 rfl rfl rfl rfl ?_
  refine jT_xaload_n (v := (4, 1)) (pcN := 3446) jIF_379_3445 rfl rfl rfl ?_
  refine jT_xaload_n (v := (6, 0)) (pcN := 3447) jIF_379_3446 rfl rfl rfl ?_
  refine jT_xiload (v := (0, 0)) (pcN := 3449) jIF_379_3447 rfl rfl rfl ?_
  refine jT_xiconst (k := 1) (pcN := 3450) jIF_379_3449 rfl ?_
  refine jT_xiadd (x := 0) (y := 1) (z := 1) (pcN := 3451) jIF_379_3450 rfl (by decide) rfl ?_
  refine jT_adv 1 (pcN := 3452) (LN := [(6, (0, 1)), (5, (0, 0)), (4, (4, 3)), (3, (4, 2)), (2, (4, 1)), (1, (4, 0)), (0, (6, 0))]) (stN := [(0, x1), (4, 1)]) (hsN := jpF_116) (c1 := 0) (s1 := 0) (c2 := 0) (s2 := 0) (by exact rfl) ?_ (by omega) (by omega)
  refine jT_xaload_n (v := (6, 0)) (pcN := 3453) jIF_379_3452 rfl rfl rfl ?_
  refine jT_xiload (v := (0, 0)) (pcN := 3455) jIF_379_3453 rfl rfl rfl ?_
  refine jT_xiconst (k := 2) (pcN := 3456) jIF_379_3455 rfl ?_
  refine jT_xiadd (x := 0) (y := 2) (z := 2) (pcN := 3457) jIF_379_3456 rfl (by decide) rfl ?_
  refine jT_adv 1 (pcN := 3458) (LN := [(6, (0, 1)), (5, (0, 0)), (4, (4, 3)), (3, (4, 2)), (2, (4, 1)), (1, (4, 0)), (0, (6, 0))]) (stN := [(0, x2), (0, x1), (4, 1)]) (hsN := jpF_116) (c1 := 0) (s1 := 0) (c2 := 0) (s2 := 0) (by exact rfl) ?_ (by omega) (by omega)
  refine jT_fB [1, 15, 16, 17, 18, 19, 20, 21, 22, 23, 24, 25, 26, 27, 28, 29] 30 (y := 314) (pcN := 3461) (dC := 2) (bc1 := 0) (bc2 := 0) (c1 := 0) (c2 := 0) (as := [(4, 1), (0, x1), (0, x2)]) (asC := [(4, 0), (0, x1), (0, x2)]) (LN := [(6, (0, 1)), (5, (0, 0)), (4, (4, 3)), (3, (4, 2)), (2, (4, 1)), (1, (4, 0)), (0, (6, 0))]) (stN := []) (hsC := jpF_19) (hsD := jpF_17) (v := (0, 0)) (st2 := [(0, 0)]) (hs2 := jpF_133) (jF_314_12 (d := 0) (by omega) (by omega)) (by rfl) (by rfl) (by decide +kernel) (by rfl) (by rfl) (by omega) (by omega) (by omega) (by omega) rfl (by decide +kernel) ?_
  refine jT_xistore (v := (0, 0)) (LN := [(7, (0, 0)), (6, (0, 1)), (5, (0, 0)), (4, (4, 3)), (3, (4, 2)), (2, (4, 1)), (1, (4, 0)), (0, (6, 0))]) (pcN := 3463) jIF_379_3461 rfl rfl rfl rfl ?_
  refine jT_xaload_n (v := (4, 1)) (pcN := 3464) jIF_379_3463 rfl rfl rfl ?_
  refine jT_fR [1, 15, 16, 17, 18, 19, 20, 21, 22, 23, 24, 25, 26, 27, 28, 29] 30 (y := 186) (pcN := 3467) (dC := 0) (bc1 := 0) (bc2 := 0) (c1 := 0) (c2 := 0) (as := [(4, 1)]) (asC := [(4, 0)]) (LN := [(7, (0, 0)), (6, (0, 1)), (5, (0, 0)), (4, (4, 3)), (3, (4, 2)), (2, (4, 1)), (1, (4, 0)), (0, (6, 0))]) (stN := []) (hsC := jpF_17) (v := (0, 1)) (st2 := [(0, 1)]) (jF_186_7 (d := 0)) (by rfl) (by rfl) (by decide +kernel) (by rfl) (by rfl) (by omega) (by omega) (by omega) (by omega) rfl ?_
  refine jT_xiload (v := (0, 1)) (pcN := 3469) jIF_379_3467 rfl rfl rfl ?_
  refine jT_xicT (pcN := 3474) jIF_379_3469 rfl (by decide +kernel) rfl ?_
  refine jT_xiload (v := (0, 1)) (pcN := 3476) jIF_379_3474 rfl rfl rfl ?_
  refine jT_xifT (pcN := 3491) jIF_379_3476 rfl (by decide +kernel) rfl ?_
  refine jT_xgoto (pcN := 3740) jIF_379_3491 rfl ?_
  refine jT_xiinc (x := 0) (z := 5) (LN := [(5, (0, 5)), (7, (0, 0)), (6, (0, 1)), (4, (4, 3)), (3, (4, 2)), (2, (4, 1)), (1, (4, 0)), (0, (6, 0))]) (pcN := 3743) jIF_379_3740 rfl rfl (by decide) rfl rfl ?_
  refine jT_xgoto (pcN := 28) jIF_379_3743 rfl ?_
  refine jT_xiload (v := (0, 5)) (pcN := 30) jIF_379_28 rfl rfl rfl ?_
  refine jT_xaload_n (v := (6, 0)) (pcN := 31) jIF_379_30 rfl rfl rfl ?_
  refine jT_adv 1 (pcN := 32) (LN := [(5, (0, 5)), (7, (0, 0)), (6, (0, 1)), (4, (4, 3)), (3, (4, 2)), (2, (4, 1)), (1, (4, 0)), (0, (6, 0))]) (stN := [(0, 5), (0, 5)]) (hsN := jpF_133) (c1 := 0) (s1 := 0) (c2 := 0) (s2 := 0) (by exact rfl) ?_ (by omega) (by omega)
  refine jT_xiconst (k := 5) (pcN := 33) jIF_379_32 rfl ?_
  refine jT_xisub (x := 5) (y := 5) (z := 0) (pcN := 34) jIF_379_33 rfl (by decide) rfl ?_
  refine jT_xicT (pcN := 3746) jIF_379_34 rfl (by decide +kernel) rfl ?_
  refine jT_xiconst (k := 1) (pcN := 3747) jIF_379_3746 rfl ?_
  exact jT_ret rfl (by decide) (by show 30 ≤ 30; decide) (by omega) (by omega) ⟨rfl, rfl⟩
set_option maxRecDepth 100000 in
theorem jL_47_2 {d : Nat} {x0 x1 x2 x3 x4 : Int} (h_x0 : (-2147483648) ≤ x0 ∧ x0 ≤ 2147483647) (h_x1 : 1 ≤ x1 ∧ x1 ≤ 30) (h_x2 : 0 ≤ x2 ∧ x2 ≤ 2147483647) (h_x3 : (-2147483648) ≤ x3 ∧ x3 ≤ 2147483647) (h_x4 : (-2147483648) ≤ x4 ∧ x4 ≤ 2147483647) (g_0 : 0 ≤ -x1 + x2 - 1) : jT [x0, x1, x2, x3, x4] (d + 3) 379 30 3426 [(5, (0, 0)), (4, (4, 3)), (3, (4, 2)), (2, (4, 1)), (1, (4, 0)), (0, (6, 0))] [] jpF_116 1 6 (fun k v hsN => k = 0 ∧ v = (0, 1)) := by
  refine jT_xaload_n (v := (4, 0)) (pcN := 3427) jIF_379_3426 rfl rfl rfl ?_
  refine jT_xaload_n (v := (6, 0)) (pcN := 3428) jIF_379_3427 rfl rfl rfl ?_
  refine jT_xiload (v := (0, 0)) (pcN := 3430) jIF_379_3428 rfl rfl rfl ?_
  refine jT_xiconst (k := 1) (pcN := 3431) jIF_379_3430 rfl ?_
  refine jT_xiadd (x := 0) (y := 1) (z := 1) (pcN := 3432) jIF_379_3431 rfl (by decide) rfl ?_
  refine jT_adv 1 (pcN := 3433) (LN := [(5, (0, 0)), (4, (4, 3)), (3, (4, 2)), (2, (4, 1)), (1, (4, 0)), (0, (6, 0))]) (stN := [(0, x1), (4, 0)]) (hsN := jpF_116) (c1 := 0) (s1 := 0) (c2 := 1) (s2 := 6) (by exact rfl) ?_ (by omega) (by omega)
  refine jT_xaload_n (v := (6, 0)) (pcN := 3434) jIF_379_3433 rfl rfl rfl ?_
  refine jT_xiload (v := (0, 0)) (pcN := 3436) jIF_379_3434 rfl rfl rfl ?_
  refine jT_xiconst (k := 2) (pcN := 3437) jIF_379_3436 rfl ?_
  refine jT_xiadd (x := 0) (y := 2) (z := 2) (pcN := 3438) jIF_379_3437 rfl (by decide) rfl ?_
  refine jT_adv 1 (pcN := 3439) (LN := [(5, (0, 0)), (4, (4, 3)), (3, (4, 2)), (2, (4, 1)), (1, (4, 0)), (0, (6, 0))]) (stN := [(0, x2), (0, x1), (4, 0)]) (hsN := jpF_116) (c1 := 0) (s1 := 0) (c2 := 1) (s2 := 6) (by exact rfl) ?_ (by omega) (by omega)
  refine jT_xaload_n (v := (4, 2)) (pcN := 3440) jIF_379_3439 rfl rfl rfl ?_
  refine jT_fR [0, 2, 4, 5, 6, 7, 8, 9, 10, 11, 12, 13, 14] 30 (y := 369) (pcN := 3443) (dC := 2) (bc1 := 1) (bc2 := 6) (c1 := 0) (c2 := 0) (as := [(4, 0), (0, x1), (0, x2), (4, 2)]) (asC := [(4, 0), (0, x1), (0, x2), (4, 1)]) (LN := [(5, (0, 0)), (4, (4, 3)), (3, (4, 2)), (2, (4, 1)), (1, (4, 0)), (0, (6, 0))]) (stN := []) (hsC := jpF_15) (v := (0, 1)) (st2 := [(0, 1)]) (jF_369_15 (d := 0) (by omega) (by omega) (by omega)) (by rfl) (by rfl) (by decide +kernel) (by rfl) (by rfl) (by omega) (by omega) (by omega) (by omega) rfl ?_
  refine jT_xistore (v := (0, 1)) (LN := [(6, (0, 1)), (5, (0, 0)), (4, (4, 3)), (3, (4, 2)), (2, (4, 1)), (1, (4, 0)), (0, (6, 0))]) (pcN := 3445) jIF_379_3443 rfl rfl rfl rfl ?_
  refine jT_xaload_n (v := (4, 1)) (pcN := 3446) jIF_379_3445 rfl rfl rfl ?_
  refine jT_xaload_n (v := (6, 0)) (pcN := 3447) jIF_379_3446 rfl rfl rfl ?_
  refine jT_xiload (v := (0, 0)) (pcN := 3449) jIF_379_3447 rfl rfl rfl ?_
  refine jT_xiconst (k := 1) (pcN := 3450) jIF_379_3449 rfl ?_
  refine jT_xiadd (x := 0) (y := 1) (z := 1) (pcN := 3451) jIF_379_3450 rfl (by decide) rfl ?_
  refine jT_adv 1 (pcN := 3452) (LN := [(6, (0, 1)), (5, (0, 0)), (4, (4, 3)), (3, (4, 2)), (2, (4, 1)), (1, (4, 0)), (0, (6, 0))]) (stN := [(0, x1), (4, 1)]) (hsN := jpF_116) (c1 := 0) (s1 := 0) (c2 := 0) (s2 := 0) (by exact rfl) ?_ (by omega) (by omega)
  refine jT_xaload_n (v := (6, 0)) (pcN := 3453) jIF_379_3452 rfl rfl rfl ?_
  refine jT_xiload (v := (0, 0)) (pcN := 3455) jIF_379_3453 rfl rfl rfl ?_
  refine jT_xiconst (k := 2) (pcN := 3456) jIF_379_3455 rfl ?_
  refine jT_xiadd (x := 0) (y := 2) (z := 2) (pcN := 3457) jIF_379_3456 rfl (by decide) rfl ?_
  refine jT_adv 1 (pcN := 3458) (LN := [(6, (0, 1)), (5, (0, 0)), (4, (4, 3)), (3, (4, 2)), (2, (4, 1)), (1, (4, 0)), (0, (6, 0))]) (stN := [(0, x2), (0, x1), (4, 1)]) (hsN := jpF_116) (c1 := 0) (s1 := 0) (c2 := 0) (s2 := 0) (by exact rfl) ?_ (by omega) (by omega)
  refine jT_fB [1, 15, 16, 17, 18, 19, 20, 21, 22, 23, 24, 25, 26, 27, 28, 29] 30 (y := 314) (pcN := 3461) (dC := 2) (bc1 := 0) (bc2 := 0) (c1 := 0) (c2 := 0) (as := [(4, 1), (0, x1), (0, x2)]) (asC := [(4, 0), (0, x1), (0, x2)]) (LN := [(6, (0, 1)), (5, (0, 0)), (4, (4, 3)), (3, (4, 2)), (2, (4, 1)), (1, (4, 0)), (0, (6, 0))]) (stN := []) (hsC := jpF_19) (hsD := jpF_17) (v := (0, 0)) (st2 := [(0, 0)]) (hs2 := jpF_133) (jF_314_16 (d := 0) (by omega) (by omega) (by omega)) (by rfl) (by rfl) (by decide +kernel) (by rfl) (by rfl) (by omega) (by omega) (by omega) (by omega) rfl (by decide +kernel) ?_
  refine jT_xistore (v := (0, 0)) (LN := [(7, (0, 0)), (6, (0, 1)), (5, (0, 0)), (4, (4, 3)), (3, (4, 2)), (2, (4, 1)), (1, (4, 0)), (0, (6, 0))]) (pcN := 3463) jIF_379_3461 rfl rfl rfl rfl ?_
  refine jT_xaload_n (v := (4, 1)) (pcN := 3464) jIF_379_3463 rfl rfl rfl ?_
  refine jT_fR [1, 15, 16, 17, 18, 19, 20, 21, 22, 23, 24, 25, 26, 27, 28, 29] 30 (y := 186) (pcN := 3467) (dC := 0) (bc1 := 0) (bc2 := 0) (c1 := 0) (c2 := 0) (as := [(4, 1)]) (asC := [(4, 0)]) (LN := [(7, (0, 0)), (6, (0, 1)), (5, (0, 0)), (4, (4, 3)), (3, (4, 2)), (2, (4, 1)), (1, (4, 0)), (0, (6, 0))]) (stN := []) (hsC := jpF_17) (v := (0, 1)) (st2 := [(0, 1)]) (jF_186_7 (d := 0)) (by rfl) (by rfl) (by decide +kernel) (by rfl) (by rfl) (by omega) (by omega) (by omega) (by omega) rfl ?_
  refine jT_xiload (v := (0, 1)) (pcN := 3469) jIF_379_3467 rfl rfl rfl ?_
  refine jT_xicT (pcN := 3474) jIF_379_3469 rfl (by decide +kernel) rfl ?_
  refine jT_xiload (v := (0, 1)) (pcN := 3476) jIF_379_3474 rfl rfl rfl ?_
  refine jT_xifT (pcN := 3491) jIF_379_3476 rfl (by decide +kernel) rfl ?_
  refine jT_xgoto (pcN := 3740) jIF_379_3491 rfl ?_
  refine jT_xiinc (x := 0) (z := 5) (LN := [(5, (0, 5)), (7, (0, 0)), (6, (0, 1)), (4, (4, 3)), (3, (4, 2)), (2, (4, 1)), (1, (4, 0)), (0, (6, 0))]) (pcN := 3743) jIF_379_3740 rfl rfl (by decide) rfl rfl ?_
  refine jT_xgoto (pcN := 28) jIF_379_3743 rfl ?_
  refine jT_xiload (v := (0, 5)) (pcN := 30) jIF_379_28 rfl rfl rfl ?_
  refine jT_xaload_n (v := (6, 0)) (pcN := 31) jIF_379_30 rfl rfl rfl ?_
  refine jT_adv 1 (pcN := 32) (LN := [(5, (0, 5)), (7, (0, 0)), (6, (0, 1)), (4, (4, 3)), (3, (4, 2)), (2, (4, 1)), (1, (4, 0)), (0, (6, 0))]) (stN := [(0, 5), (0, 5)]) (hsN := jpF_133) (c1 := 0) (s1 := 0) (c2 := 0) (s2 := 0) (by exact rfl) ?_ (by omega) (by omega)
  refine jT_xiconst (k := 5) (pcN := 33) jIF_379_32 rfl ?_
  refine jT_xisub (x := 5) (y := 5) (z := 0) (pcN := 34) jIF_379_33 rfl (by decide) rfl ?_
  refine jT_xicT (pcN := 3746) jIF_379_34 rfl (by decide +kernel) rfl ?_
  refine jT_xiconst (k := 1) (pcN := 3747) jIF_379_3746 rfl ?_
  exact jT_ret rfl (by decide) (by show 30 ≤ 30; decide) (by omega) (by omega) ⟨rfl, rfl⟩
def jpF_149 : List JC := [jzF_114, jzF_115, (101, [], [0]), jgh, jgh, jgh, jgh, jgh, jgh, jgh, jgh, jgh, jgh, jgh, jgh, jgh, jgh, jgh, jgh, jgh, jgh, jgh, jgh, jgh, jgh, jgh, jgh, jgh, jgh, jgh]
theorem jIF_379_3479 : jmI (jm 379) 3479 = (.aload_n 3, 1) := by rfl
theorem jIF_379_3480 : jmI (jm 379) 3480 = (.iconst 0, 1) := by rfl
theorem jIF_379_3481 : jmI (jm 379) 3481 = (.laload, 1) := by rfl
theorem jIF_379_3482 : jmI (jm 379) 3482 = (.iload 7, 2) := by rfl
theorem jIF_379_3484 : jmI (jm 379) 3484 = (.i2l, 1) := by rfl
theorem jIF_379_3486 : jmI (jm 379) 3486 = (.ifCond .eq 5, 3) := by rfl
set_option maxRecDepth 100000 in
theorem jL_47_3 {d : Nat} {x0 x1 x2 x3 x4 : Int} (h_x0 : (-2147483648) ≤ x0 ∧ x0 ≤ 2147483647) (h_x1 : 1 ≤ x1 ∧ x1 ≤ 30) (h_x2 : 0 ≤ x2 ∧ x2 ≤ 2147483647) (h_x3 : (-2147483648) ≤ x3 ∧ x3 ≤ 2147483647) (h_x4 : (-2147483648) ≤ x4 ∧ x4 ≤ 2147483647) (g_0 : -x1 + x2 - 1 < 0) : jT [x0, x1, x2, x3, x4] (d + 14) 379 30 3426 [(5, (0, 0)), (4, (4, 3)), (3, (4, 2)), (2, (4, 1)), (1, (4, 0)), (0, (6, 0))] [] jpF_149 0 0 (fun k v hsN => k = 0 ∧ v = (0, 1)) := by
  refine jT_xaload_n (v := (4, 0)) (pcN := 3427) jIF_379_3426 rfl rfl rfl ?_
  refine jT_xaload_n (v := (6, 0)) (pcN := 3428) jIF_379_3427 rfl rfl rfl ?_
  refine jT_xiload (v := (0, 0)) (pcN := 3430) jIF_379_3428 rfl rfl rfl ?_
  refine jT_xiconst (k := 1) (pcN := 3431) jIF_379_3430 rfl ?_
  refine jT_xiadd (x := 0) (y := 1) (z := 1) (pcN := 3432) jIF_379_3431 rfl (by decide) rfl ?_
  refine jT_adv 1 (pcN := 3433) (LN := [(5, (0, 0)), (4, (4, 3)), (3, (4, 2)), (2, (4, 1)), (1, (4, 0)), (0, (6, 0))]) (stN := [(0, x1), (4, 0)]) (hsN := jpF_149) (c1 := 0) (s1 := 0) (c2 := 0) (s2 := 0) (by exact rfl) ?_ (by omega) (by omega)
  refine jT_xaload_n (v := (6, 0)) (pcN := 3434) jIF_379_3433 rfl rfl rfl ?_
  refine jT_xiload (v := (0, 0)) (pcN := 3436) jIF_379_3434 rfl rfl rfl ?_
  refine jT_xiconst (k := 2) (pcN := 3437) jIF_379_3436 rfl ?_
  refine jT_xiadd (x := 0) (y := 2) (z := 2) (pcN := 3438) jIF_379_3437 rfl (by decide) rfl ?_
  refine jT_adv 1 (pcN := 3439) (LN := [(5, (0, 0)), (4, (4, 3)), (3, (4, 2)), (2, (4, 1)), (1, (4, 0)), (0, (6, 0))]) (stN := [(0, x2), (0, x1), (4, 0)]) (hsN := jpF_149) (c1 := 0) (s1 := 0) (c2 := 0) (s2 := 0) (by exact rfl) ?_ (by omega) (by omega)
  refine jT_xaload_n (v := (4, 2)) (pcN := 3440) jIF_379_3439 rfl rfl rfl ?_
  refine jT_fB [0, 2, 4, 5, 6, 7, 8, 9, 10, 11, 12, 13, 14] 30 (y := 369) (pcN := 3443) (dC := 3) (bc1 := 0) (bc2 := 0) (c1 := 0) (c2 := 0) (as := [(4, 0), (0, x1), (0, x2), (4, 2)]) (asC := [(4, 0), (0, x1), (0, x2), (4, 1)]) (LN := [(5, (0, 0)), (4, (4, 3)), (3, (4, 2)), (2, (4, 1)), (1, (4, 0)), (0, (6, 0))]) (stN := []) (hsC := jpF_75) (hsD := [jzF_14, (101, [], [(jus x1 x2 x1.toNat).tdiv x1]), jgh, jgh, jgh, jgh, jgh, jgh, jgh, jgh, jgh, jgh, jgh]) (v := (0, 0)) (st2 := [(0, 0)]) (hs2 := [jzF_114, jzF_115, (101, [], [(jus x1 x2 x1.toNat).tdiv x1]), jgh, jgh, jgh, jgh, jgh, jgh, jgh, jgh, jgh, jgh, jgh, jgh, jgh, jgh, jgh, jgh, jgh, jgh, jgh, jgh, jgh, jgh, jgh, jgh, jgh, jgh, jgh]) (jF_369_20 (d := 0) (by omega) (by omega) (by omega)) (by rfl) (by rfl) (by decide +kernel) (by rfl) (by rfl) (by omega) (by omega) (by omega) (by omega) rfl rfl ?_
  have hb_q1 := jun_q (p := x1) (a := x2) (q := (jus x1 x2 x1.toNat)) rfl (by omega) (by omega) (by omega) (by omega)
  generalize hq_q1 : (jus x1 x2 x1.toNat).tdiv x1 = q1 at hb_q1 ⊢
  refine jT_xistore (v := (0, 0)) (LN := [(6, (0, 0)), (5, (0, 0)), (4, (4, 3)), (3, (4, 2)), (2, (4, 1)), (1, (4, 0)), (0, (6, 0))]) (pcN := 3445) jIF_379_3443 rfl rfl rfl rfl ?_
  refine jT_xaload_n (v := (4, 1)) (pcN := 3446) jIF_379_3445 rfl rfl rfl ?_
  refine jT_xaload_n (v := (6, 0)) (pcN := 3447) jIF_379_3446 rfl rfl rfl ?_
  refine jT_xiload (v := (0, 0)) (pcN := 3449) jIF_379_3447 rfl rfl rfl ?_
  refine jT_xiconst (k := 1) (pcN := 3450) jIF_379_3449 rfl ?_
  refine jT_xiadd (x := 0) (y := 1) (z := 1) (pcN := 3451) jIF_379_3450 rfl (by decide) rfl ?_
  refine jT_adv 1 (pcN := 3452) (LN := [(6, (0, 0)), (5, (0, 0)), (4, (4, 3)), (3, (4, 2)), (2, (4, 1)), (1, (4, 0)), (0, (6, 0))]) (stN := [(0, x1), (4, 1)]) (hsN := [jzF_114, jzF_115, (101, [], [q1]), jgh, jgh, jgh, jgh, jgh, jgh, jgh, jgh, jgh, jgh, jgh, jgh, jgh, jgh, jgh, jgh, jgh, jgh, jgh, jgh, jgh, jgh, jgh, jgh, jgh, jgh, jgh]) (c1 := 0) (s1 := 0) (c2 := 0) (s2 := 0) (by exact rfl) ?_ (by omega) (by omega)
  refine jT_xaload_n (v := (6, 0)) (pcN := 3453) jIF_379_3452 rfl rfl rfl ?_
  refine jT_xiload (v := (0, 0)) (pcN := 3455) jIF_379_3453 rfl rfl rfl ?_
  refine jT_xiconst (k := 2) (pcN := 3456) jIF_379_3455 rfl ?_
  refine jT_xiadd (x := 0) (y := 2) (z := 2) (pcN := 3457) jIF_379_3456 rfl (by decide) rfl ?_
  refine jT_adv 1 (pcN := 3458) (LN := [(6, (0, 0)), (5, (0, 0)), (4, (4, 3)), (3, (4, 2)), (2, (4, 1)), (1, (4, 0)), (0, (6, 0))]) (stN := [(0, x2), (0, x1), (4, 1)]) (hsN := [jzF_114, jzF_115, (101, [], [q1]), jgh, jgh, jgh, jgh, jgh, jgh, jgh, jgh, jgh, jgh, jgh, jgh, jgh, jgh, jgh, jgh, jgh, jgh, jgh, jgh, jgh, jgh, jgh, jgh, jgh, jgh, jgh]) (c1 := 0) (s1 := 0) (c2 := 0) (s2 := 0) (by exact rfl) ?_ (by omega) (by omega)
  refine jT_callA [1, 15, 16, 17, 18, 19, 20, 21, 22, 23, 24, 25, 26, 27, 28, 29] (y := 314) (pcN := 3461) (dC := 13) (bc1 := 0) (bc2 := 0) (c1 := 0) (c2 := 0) (as := [(4, 1), (0, x1), (0, x2)]) (asC := [(4, 0), (0, x1), (0, x2)]) (LN := [(6, (0, 0)), (5, (0, 0)), (4, (4, 3)), (3, (4, 2)), (2, (4, 1)), (1, (4, 0)), (0, (6, 0))]) (stN := []) (hsC := jpF_19) (ex := []) (v := (0, (jus x1 x2 x1.toNat).tdiv x1)) (st2 := [(0, (jus x1 x2 x1.toNat).tdiv x1)]) (hs2 := [jzF_114, jzF_115, (101, [], [q1]), jgh, jgh, jgh, jgh, jgh, jgh, jgh, jgh, jgh, jgh, jgh, jgh, jgh, jgh, jgh, jgh, jgh, jgh, jgh, jgh, jgh, jgh, jgh, jgh, jgh, jgh, jgh]) (jF_314_24 (d := 0) (by omega) (by omega) (by omega)) (by rfl) (by rfl) (by rfl) (by rfl) ⟨rfl, rfl, rfl, rfl, rfl, rfl, rfl, rfl, rfl, rfl, rfl, rfl, rfl, rfl, rfl, rfl, trivial⟩ (by rfl) (by rfl) (by omega) (by show 30 ≤ 30; omega) (by omega) (by omega) rfl rfl ?_
  rw [hq_q1]
  refine jT_xistore (v := (0, q1)) (LN := [(7, (0, q1)), (6, (0, 0)), (5, (0, 0)), (4, (4, 3)), (3, (4, 2)), (2, (4, 1)), (1, (4, 0)), (0, (6, 0))]) (pcN := 3463) jIF_379_3461 rfl rfl rfl rfl ?_
  refine jT_xaload_n (v := (4, 1)) (pcN := 3464) jIF_379_3463 rfl rfl rfl ?_
  refine jT_callA [1, 15, 16, 17, 18, 19, 20, 21, 22, 23, 24, 25, 26, 27, 28, 29] (y := 186) (pcN := 3467) (dC := 0) (bc1 := 0) (bc2 := 0) (c1 := 0) (c2 := 0) (as := [(4, 1)]) (asC := [(4, 0)]) (LN := [(7, (0, q1)), (6, (0, 0)), (5, (0, 0)), (4, (4, 3)), (3, (4, 2)), (2, (4, 1)), (1, (4, 0)), (0, (6, 0))]) (stN := []) (hsC := jpF_19) (ex := []) (v := (0, 0)) (st2 := [(0, 0)]) (hs2 := [jzF_114, jzF_115, (101, [], [q1]), jgh, jgh, jgh, jgh, jgh, jgh, jgh, jgh, jgh, jgh, jgh, jgh, jgh, jgh, jgh, jgh, jgh, jgh, jgh, jgh, jgh, jgh, jgh, jgh, jgh, jgh, jgh]) (jF_186_25 (d := 0)) (by rfl) (by rfl) (by rfl) (by rfl) ⟨rfl, rfl, rfl, rfl, rfl, rfl, rfl, rfl, rfl, rfl, rfl, rfl, rfl, rfl, rfl, rfl, trivial⟩ (by rfl) (by rfl) (by omega) (by show 30 ≤ 30; omega) (by omega) (by omega) rfl rfl ?_
  refine jT_xiload (v := (0, 0)) (pcN := 3469) jIF_379_3467 rfl rfl rfl ?_
  refine jT_xicT (pcN := 3474) jIF_379_3469 rfl (by decide +kernel) rfl ?_
  refine jT_xiload (v := (0, 0)) (pcN := 3476) jIF_379_3474 rfl rfl rfl ?_
  refine jT_xifF (t := 3491) (pcN := 3479) jIF_379_3476 rfl (by decide +kernel) rfl rfl ?_
  refine jT_xaload_n (v := (4, 2)) (pcN := 3480) jIF_379_3479 rfl rfl rfl ?_
  refine jT_xiconst (k := 0) (pcN := 3481) jIF_379_3480 rfl ?_
  refine jT_lald (x := q1) (a := 2) (j := 0) (fs := []) (X := [q1]) jIF_379_3481 rfl rfl rfl rfl ?_
  refine jT_eq (LN := [(7, (0, q1)), (6, (0, 0)), (5, (0, 0)), (4, (4, 3)), (3, (4, 2)), (2, (4, 1)), (1, (4, 0)), (0, (6, 0))]) (stN := [(1, q1)]) (hsN := [jzF_114, jzF_115, (101, [], [q1]), jgh, jgh, jgh, jgh, jgh, jgh, jgh, jgh, jgh, jgh, jgh, jgh, jgh, jgh, jgh, jgh, jgh, jgh, jgh, jgh, jgh, jgh, jgh, jgh, jgh, jgh, jgh]) rfl rfl rfl ?_
  refine jT_xiload (v := (0, q1)) (pcN := 3484) jIF_379_3482 rfl rfl rfl ?_
  refine jT_xi2l (x := q1) (z := q1) (pcN := 3485) jIF_379_3484 rfl (jw_idd (by omega) (by omega)) rfl ?_
  refine jT_lcmp (a := q1) (b := q1) (z := 0) (by rfl) (by rfl) (jwl_idd (by omega) (by omega)) (jwl_idd (by omega) (by omega)) (by rw [decide_eq_false (show ¬ ((q1 : Int) < q1) by omega), decide_eq_true (show (q1 : Int) = q1 by omega)]; rfl) ?_
  refine jT_xifT (pcN := 3491) jIF_379_3486 rfl (by decide +kernel) rfl ?_
  refine jT_xgoto (pcN := 3740) jIF_379_3491 rfl ?_
  refine jT_xiinc (x := 0) (z := 5) (LN := [(5, (0, 5)), (7, (0, q1)), (6, (0, 0)), (4, (4, 3)), (3, (4, 2)), (2, (4, 1)), (1, (4, 0)), (0, (6, 0))]) (pcN := 3743) jIF_379_3740 rfl rfl (by decide) rfl rfl ?_
  refine jT_xgoto (pcN := 28) jIF_379_3743 rfl ?_
  refine jT_xiload (v := (0, 5)) (pcN := 30) jIF_379_28 rfl rfl rfl ?_
  refine jT_xaload_n (v := (6, 0)) (pcN := 31) jIF_379_30 rfl rfl rfl ?_
  refine jT_adv 1 (pcN := 32) (LN := [(5, (0, 5)), (7, (0, q1)), (6, (0, 0)), (4, (4, 3)), (3, (4, 2)), (2, (4, 1)), (1, (4, 0)), (0, (6, 0))]) (stN := [(0, 5), (0, 5)]) (hsN := [jzF_114, jzF_115, (101, [], [q1]), jgh, jgh, jgh, jgh, jgh, jgh, jgh, jgh, jgh, jgh, jgh, jgh, jgh, jgh, jgh, jgh, jgh, jgh, jgh, jgh, jgh, jgh, jgh, jgh, jgh, jgh, jgh]) (c1 := 0) (s1 := 0) (c2 := 0) (s2 := 0) (by exact rfl) ?_ (by omega) (by omega)
  refine jT_xiconst (k := 5) (pcN := 33) jIF_379_32 rfl ?_
  refine jT_xisub (x := 5) (y := 5) (z := 0) (pcN := 34) jIF_379_33 rfl (by decide) rfl ?_
  refine jT_xicT (pcN := 3746) jIF_379_34 rfl (by decide +kernel) rfl ?_
  refine jT_xiconst (k := 1) (pcN := 3747) jIF_379_3746 rfl ?_
  exact jT_ret rfl (by decide) (by show 30 ≤ 30; decide) (by omega) (by omega) ⟨rfl, rfl⟩
set_option maxRecDepth 100000 in
theorem jL_47_4 {d : Nat} {x0 x1 x2 x3 x4 : Int} (h_x0 : (-2147483648) ≤ x0 ∧ x0 ≤ 2147483647) (h_x1 : 31 ≤ x1 ∧ x1 ≤ 2147483647) (h_x2 : (-2147483648) ≤ x2 ∧ x2 ≤ 2147483647) (h_x3 : (-2147483648) ≤ x3 ∧ x3 ≤ 2147483647) (h_x4 : (-2147483648) ≤ x4 ∧ x4 ≤ 2147483647) : jT [x0, x1, x2, x3, x4] (d + 3) 379 30 3426 [(5, (0, 0)), (4, (4, 3)), (3, (4, 2)), (2, (4, 1)), (1, (4, 0)), (0, (6, 0))] [] jpF_116 1 6 (fun k v hsN => k = 0 ∧ v = (0, 1)) := by
  refine jT_xaload_n (v := (4, 0)) (pcN := 3427) jIF_379_3426 rfl rfl rfl ?_
  refine jT_xaload_n (v := (6, 0)) (pcN := 3428) jIF_379_3427 rfl rfl rfl ?_
  refine jT_xiload (v := (0, 0)) (pcN := 3430) jIF_379_3428 rfl rfl rfl ?_
  refine jT_xiconst (k := 1) (pcN := 3431) jIF_379_3430 rfl ?_
  refine jT_xiadd (x := 0) (y := 1) (z := 1) (pcN := 3432) jIF_379_3431 rfl (by decide) rfl ?_
  refine jT_adv 1 (pcN := 3433) (LN := [(5, (0, 0)), (4, (4, 3)), (3, (4, 2)), (2, (4, 1)), (1, (4, 0)), (0, (6, 0))]) (stN := [(0, x1), (4, 0)]) (hsN := jpF_116) (c1 := 0) (s1 := 0) (c2 := 1) (s2 := 6) (by exact rfl) ?_ (by omega) (by omega)
  refine jT_xaload_n (v := (6, 0)) (pcN := 3434) jIF_379_3433 rfl rfl rfl ?_
  refine jT_xiload (v := (0, 0)) (pcN := 3436) jIF_379_3434 rfl rfl rfl ?_
  refine jT_xiconst (k := 2) (pcN := 3437) jIF_379_3436 rfl ?_
  refine jT_xiadd (x := 0) (y := 2) (z := 2) (pcN := 3438) jIF_379_3437 rfl (by decide) rfl ?_
  refine jT_adv 1 (pcN := 3439) (LN := [(5, (0, 0)), (4, (4, 3)), (3, (4, 2)), (2, (4, 1)), (1, (4, 0)), (0, (6, 0))]) (stN := [(0, x2), (0, x1), (4, 0)]) (hsN := jpF_116) (c1 := 0) (s1 := 0) (c2 := 1) (s2 := 6) (by exact rfl) ?_ (by omega) (by omega)
  refine jT_xaload_n (v := (4, 2)) (pcN := 3440) jIF_379_3439 rfl rfl rfl ?_
  refine jT_fR [0, 2, 4, 5, 6, 7, 8, 9, 10, 11, 12, 13, 14] 30 (y := 369) (pcN := 3443) (dC := 2) (bc1 := 1) (bc2 := 6) (c1 := 0) (c2 := 0) (as := [(4, 0), (0, x1), (0, x2), (4, 2)]) (asC := [(4, 0), (0, x1), (0, x2), (4, 1)]) (LN := [(5, (0, 0)), (4, (4, 3)), (3, (4, 2)), (2, (4, 1)), (1, (4, 0)), (0, (6, 0))]) (stN := []) (hsC := jpF_15) (v := (0, 1)) (st2 := [(0, 1)]) (jF_369_28 (d := 0) (by omega) (by omega)) (by rfl) (by rfl) (by decide +kernel) (by rfl) (by rfl) (by omega) (by omega) (by omega) (by omega) rfl ?_
  refine jT_xistore (v := (0, 1)) (LN := [(6, (0, 1)), (5, (0, 0)), (4, (4, 3)), (3, (4, 2)), (2, (4, 1)), (1, (4, 0)), (0, (6, 0))]) (pcN := 3445) jIF_379_3443 rfl rfl rfl rfl ?_
  refine jT_xaload_n (v := (4, 1)) (pcN := 3446) jIF_379_3445 rfl rfl rfl ?_
  refine jT_xaload_n (v := (6, 0)) (pcN := 3447) jIF_379_3446 rfl rfl rfl ?_
  refine jT_xiload (v := (0, 0)) (pcN := 3449) jIF_379_3447 rfl rfl rfl ?_
  refine jT_xiconst (k := 1) (pcN := 3450) jIF_379_3449 rfl ?_
  refine jT_xiadd (x := 0) (y := 1) (z := 1) (pcN := 3451) jIF_379_3450 rfl (by decide) rfl ?_
  refine jT_adv 1 (pcN := 3452) (LN := [(6, (0, 1)), (5, (0, 0)), (4, (4, 3)), (3, (4, 2)), (2, (4, 1)), (1, (4, 0)), (0, (6, 0))]) (stN := [(0, x1), (4, 1)]) (hsN := jpF_116) (c1 := 0) (s1 := 0) (c2 := 0) (s2 := 0) (by exact rfl) ?_ (by omega) (by omega)
  refine jT_xaload_n (v := (6, 0)) (pcN := 3453) jIF_379_3452 rfl rfl rfl ?_
  refine jT_xiload (v := (0, 0)) (pcN := 3455) jIF_379_3453 rfl rfl rfl ?_
  refine jT_xiconst (k := 2) (pcN := 3456) jIF_379_3455 rfl ?_
  refine jT_xiadd (x := 0) (y := 2) (z := 2) (pcN := 3457) jIF_379_3456 rfl (by decide) rfl ?_
  refine jT_adv 1 (pcN := 3458) (LN := [(6, (0, 1)), (5, (0, 0)), (4, (4, 3)), (3, (4, 2)), (2, (4, 1)), (1, (4, 0)), (0, (6, 0))]) (stN := [(0, x2), (0, x1), (4, 1)]) (hsN := jpF_116) (c1 := 0) (s1 := 0) (c2 := 0) (s2 := 0) (by exact rfl) ?_ (by omega) (by omega)
  refine jT_fB [1, 15, 16, 17, 18, 19, 20, 21, 22, 23, 24, 25, 26, 27, 28, 29] 30 (y := 314) (pcN := 3461) (dC := 2) (bc1 := 0) (bc2 := 0) (c1 := 0) (c2 := 0) (as := [(4, 1), (0, x1), (0, x2)]) (asC := [(4, 0), (0, x1), (0, x2)]) (LN := [(6, (0, 1)), (5, (0, 0)), (4, (4, 3)), (3, (4, 2)), (2, (4, 1)), (1, (4, 0)), (0, (6, 0))]) (stN := []) (hsC := jpF_19) (hsD := jpF_17) (v := (0, 0)) (st2 := [(0, 0)]) (hs2 := jpF_133) (jF_314_29 (d := 0) (by omega) (by omega)) (by rfl) (by rfl) (by decide +kernel) (by rfl) (by rfl) (by omega) (by omega) (by omega) (by omega) rfl (by decide +kernel) ?_
  refine jT_xistore (v := (0, 0)) (LN := [(7, (0, 0)), (6, (0, 1)), (5, (0, 0)), (4, (4, 3)), (3, (4, 2)), (2, (4, 1)), (1, (4, 0)), (0, (6, 0))]) (pcN := 3463) jIF_379_3461 rfl rfl rfl rfl ?_
  refine jT_xaload_n (v := (4, 1)) (pcN := 3464) jIF_379_3463 rfl rfl rfl ?_
  refine jT_fR [1, 15, 16, 17, 18, 19, 20, 21, 22, 23, 24, 25, 26, 27, 28, 29] 30 (y := 186) (pcN := 3467) (dC := 0) (bc1 := 0) (bc2 := 0) (c1 := 0) (c2 := 0) (as := [(4, 1)]) (asC := [(4, 0)]) (LN := [(7, (0, 0)), (6, (0, 1)), (5, (0, 0)), (4, (4, 3)), (3, (4, 2)), (2, (4, 1)), (1, (4, 0)), (0, (6, 0))]) (stN := []) (hsC := jpF_17) (v := (0, 1)) (st2 := [(0, 1)]) (jF_186_7 (d := 0)) (by rfl) (by rfl) (by decide +kernel) (by rfl) (by rfl) (by omega) (by omega) (by omega) (by omega) rfl ?_
  refine jT_xiload (v := (0, 1)) (pcN := 3469) jIF_379_3467 rfl rfl rfl ?_
  refine jT_xicT (pcN := 3474) jIF_379_3469 rfl (by decide +kernel) rfl ?_
  refine jT_xiload (v := (0, 1)) (pcN := 3476) jIF_379_3474 rfl rfl rfl ?_
  refine jT_xifT (pcN := 3491) jIF_379_3476 rfl (by decide +kernel) rfl ?_
  refine jT_xgoto (pcN := 3740) jIF_379_3491 rfl ?_
  refine jT_xiinc (x := 0) (z := 5) (LN := [(5, (0, 5)), (7, (0, 0)), (6, (0, 1)), (4, (4, 3)), (3, (4, 2)), (2, (4, 1)), (1, (4, 0)), (0, (6, 0))]) (pcN := 3743) jIF_379_3740 rfl rfl (by decide) rfl rfl ?_
  refine jT_xgoto (pcN := 28) jIF_379_3743 rfl ?_
  refine jT_xiload (v := (0, 5)) (pcN := 30) jIF_379_28 rfl rfl rfl ?_
  refine jT_xaload_n (v := (6, 0)) (pcN := 31) jIF_379_30 rfl rfl rfl ?_
  refine jT_adv 1 (pcN := 32) (LN := [(5, (0, 5)), (7, (0, 0)), (6, (0, 1)), (4, (4, 3)), (3, (4, 2)), (2, (4, 1)), (1, (4, 0)), (0, (6, 0))]) (stN := [(0, 5), (0, 5)]) (hsN := jpF_133) (c1 := 0) (s1 := 0) (c2 := 0) (s2 := 0) (by exact rfl) ?_ (by omega) (by omega)
  refine jT_xiconst (k := 5) (pcN := 33) jIF_379_32 rfl ?_
  refine jT_xisub (x := 5) (y := 5) (z := 0) (pcN := 34) jIF_379_33 rfl (by decide) rfl ?_
  refine jT_xicT (pcN := 3746) jIF_379_34 rfl (by decide +kernel) rfl ?_
  refine jT_xiconst (k := 1) (pcN := 3747) jIF_379_3746 rfl ?_
  exact jT_ret rfl (by decide) (by show 30 ≤ 30; decide) (by omega) (by omega) ⟨rfl, rfl⟩
