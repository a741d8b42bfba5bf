/-! the refutation's run: the script, and what the law does on it from behind both constructors: at most so many cells -/
def jXS : List Int := [34, 0, 2147483647, 2000, 0, 34, 0, 2147483647, 2000, 0, 34, 0, 2147483647, 2000, 0, 34, 0, 2147483647, 2000, 0, 34, 0, 2147483647, 2000, 0, 34, 0, 2147483647, 2000, 0, 34, 0, 2147483647, 2000, 0, 34, 0, 2147483647, 2000, 0, 34, 0, 2147483647, 2000, 0, 34, 0, 2147483647, 2000, 0]
theorem jXS_len : jXS.length = 50 := by rfl
theorem jZ_115_1 {xs : List Int} {d : Nat} : jT xs d 115 1 0 [(0, (4, 0)), (1, (0, 0)), (2, (0, 8))] [] [jgh] 0 0 (fun k v hsN => k = 0 ∧ v = (9, 0) ∧ hsN = [jgh] ++ []) := by
  refine jT_advK 5 (pcN := 20) (LN := [(0, (4, 0)), (1, (0, 0)), (2, (0, 8))]) (stN := []) (hsN := [jgh]) (c1 := 0) (s1 := 0) (c2 := 0) (s2 := 0) (by decide +kernel) ?_ (by omega) (by omega)
  exact jT_ret rfl (by decide) (by show 1 ≤ 1; omega) (by omega) (by omega) ⟨rfl, rfl, rfl⟩
theorem jZ_116_2 {xs : List Int} {d : Nat} : jT xs d 116 1 0 [(0, (4, 0)), (1, (0, 2000)), (2, (0, 1)), (3, (0, 2000))] [] [jgh] 0 0 (fun k v hsN => k = 0 ∧ v = (9, 0) ∧ hsN = [jgh] ++ []) := by
  refine jT_advK 6 (pcN := 21) (LN := [(0, (4, 0)), (1, (0, 2000)), (2, (0, 1)), (3, (0, 2000))]) (stN := []) (hsN := [jgh]) (c1 := 0) (s1 := 0) (c2 := 0) (s2 := 0) (by decide +kernel) ?_ (by omega) (by omega)
  exact jT_ret rfl (by decide) (by show 1 ≤ 1; omega) (by omega) (by omega) ⟨rfl, rfl, rfl⟩
def jzZ_0 : JC := (9, [(4, 1), (4, 2), (4, 3), (4, 4), (4, 5)], [])
def jpZ_1 : List JC := [jzZ_0, (114, [], [6, 6, 6, 6, 6, 6, 6, 6]), jgh, jgh, jgh, jgh, jgh]
theorem jZ_57_3 {xs : List Int} {d : Nat} : jT xs d 57 7 0 [(0, (4, 0)), (1, (0, 0))] [] jpZ_1 0 0 (fun k v hsN => k = 0 ∧ v = (4, 6) ∧ hsN = jpZ_1 ++ []) := by
  refine jT_advK 4 (pcN := 6) (LN := [(0, (4, 0)), (1, (0, 0))]) (stN := [(4, 6)]) (hsN := jpZ_1) (c1 := 0) (s1 := 0) (c2 := 0) (s2 := 0) (by decide +kernel) ?_ (by omega) (by omega)
  exact jT_ret rfl (by decide) (by show 7 ≤ 7; omega) (by omega) (by omega) ⟨rfl, rfl, rfl⟩
theorem jZ_39_4 {xs : List Int} {d : Nat} : jT xs d 39 2 0 [(0, (4, 0)), (1, (4, 1))] [] [jgh, (101, [], [0, 0, 0, 0, 0, 0])] 0 0 (fun k v hsN => k = 0 ∧ v = (1, 0) ∧ hsN = [jgh, (101, [], [0, 0, 0, 0, 0, 0])] ++ []) := by
  refine jT_advK 68 (pcN := 29) (LN := [(4, (0, 6)), (2, (1, 0)), (0, (4, 0)), (1, (4, 1))]) (stN := [(1, 0)]) (hsN := [jgh, (101, [], [0, 0, 0, 0, 0, 0])]) (c1 := 0) (s1 := 0) (c2 := 0) (s2 := 0) (by decide +kernel) ?_ (by omega) (by omega)
  exact jT_ret rfl (by decide) (by show 2 ≤ 2; omega) (by omega) (by omega) ⟨rfl, rfl, rfl⟩
theorem jZ_372_5 {xs : List Int} {d : Nat} : jT xs d 372 0 0 [(0, (1, 0)), (2, (1, 0))] [] [] 0 0 (fun k v hsN => k = 0 ∧ v = (0, 0) ∧ hsN = [] ++ []) := by
  refine jT_advK 10 (pcN := 21) (LN := [(0, (1, 0)), (2, (1, 0))]) (stN := [(0, 0)]) (hsN := []) (c1 := 0) (s1 := 0) (c2 := 0) (s2 := 0) (by decide +kernel) ?_ (by omega) (by omega)
  exact jT_ret rfl (by decide) (by show 0 ≤ 0; omega) (by omega) (by omega) ⟨rfl, rfl, rfl⟩
def jpZ_2 : List JC := [(8, [(4, 2), (4, 3)], []), (101, [], [0, 0, 0, 0, 0, 0]), jgh, jgh]
theorem jZ_38_6 {xs : List Int} {d : Nat} : jT xs (d + 1) 38 4 0 [(0, (4, 0)), (1, (4, 1))] [] jpZ_2 0 0 (fun k v hsN => k = 0 ∧ v = (0, 0) ∧ hsN = jpZ_2 ++ []) := by
  refine jT_advK 2 (pcN := 2) (LN := [(0, (4, 0)), (1, (4, 1))]) (stN := [(4, 1), (4, 0)]) (hsN := jpZ_2) (c1 := 0) (s1 := 0) (c2 := 0) (s2 := 0) (by decide +kernel) ?_ (by omega) (by omega)
  refine jT_fR [0, 1] 4 (y := 39) (pcN := 5) (dC := 0) (bc1 := 0) (bc2 := 0) (c1 := 0) (c2 := 0) (as := [(4, 0), (4, 1)]) (asC := [(4, 0), (4, 1)]) (LN := [(0, (4, 0)), (1, (4, 1))]) (stN := []) (hsC := [jgh, (101, [], [0, 0, 0, 0, 0, 0])]) (v := (1, 0)) (st2 := [(1, 0)]) (jZ_39_4 (d := 0)) (by rfl) (by rfl) (by decide +kernel) (by rfl) (by rfl) (by omega) (by omega) (by omega) (by omega) rfl ?_
  refine jT_advK 9 (pcN := 16) (LN := [(2, (1, 0)), (0, (4, 0)), (1, (4, 1))]) (stN := [(1, 0), (1, 0)]) (hsN := jpZ_2) (c1 := 0) (s1 := 0) (c2 := 0) (s2 := 0) (by decide +kernel) ?_ (by omega) (by omega)
  refine jT_fR [] 4 (y := 372) (pcN := 19) (dC := 0) (bc1 := 0) (bc2 := 0) (c1 := 0) (c2 := 0) (as := [(1, 0), (1, 0)]) (asC := [(1, 0), (1, 0)]) (LN := [(2, (1, 0)), (0, (4, 0)), (1, (4, 1))]) (stN := []) (hsC := []) (v := (0, 0)) (st2 := [(0, 0)]) (jZ_372_5 (d := 0)) (by rfl) (by rfl) (by decide +kernel) (by rfl) (by rfl) (by omega) (by omega) (by omega) (by omega) rfl ?_
  exact jT_ret rfl (by decide) (by show 4 ≤ 4; omega) (by omega) (by omega) ⟨rfl, rfl, rfl⟩
def jpZ_3 : List JC := [(8, [(4, 2), (4, 1)], []), (101, [], [0, 0, 0, 0, 0, 0]), (3, [(4, 3), (1, 0)], []), (100, [], List.replicate 20 0)]
theorem jIZ_42_19 : jmI (jm 42) 19 = (.if_icmp .ge 41, 3) := by rfl
theorem jIZ_42_60 : jmI (jm 42) 60 = (.aload_n 0, 1) := by rfl
theorem jIZ_42_61 : jmI (jm 42) 61 = (.getfield 16, 3) := by rfl
theorem jIZ_42_64 : jmI (jm 42) 64 = (.getfield 93, 3) := by rfl
theorem jIZ_42_67 : jmI (jm 42) 67 = (.iload 4, 2) := by rfl
theorem jIZ_42_69 : jmI (jm 42) 69 = (.lload_n 2, 1) := by rfl
theorem jIZ_42_54 : jmI (jm 42) 54 = (.iinc 5 1, 3) := by rfl
theorem jIZ_42_57 : jmI (jm 42) 57 = (.goto (-42), 3) := by rfl
theorem jIZ_42_15 : jmI (jm 42) 15 = (.iload 5, 2) := by rfl
theorem jIZ_42_17 : jmI (jm 42) 17 = (.bipush 6, 2) := by rfl
theorem jZ_42_7 {xs : List Int} {d : Nat} : jT xs d 42 4 0 [(0, (4, 0)), (1, (4, 1))] [] jpZ_3 0 0 (fun k v hsN => k = 0 ∧ v = (9, 0) ∧ hsN = jpZ_3 ++ []) := by
  refine jT_advK 300 (pcN := 19) (LN := [(5, (0, 6)), (4, (0, 3)), (2, (1, 0)), (0, (4, 0)), (1, (4, 1))]) (stN := [(0, 6), (0, 6)]) (hsN := jpZ_3) (c1 := 0) (s1 := 0) (c2 := 0) (s2 := 0) (by decide +kernel) ?_ (by omega) (by omega)
  refine jT_xicT (pcN := 60) jIZ_42_19 rfl (by decide +kernel) rfl ?_
  refine jT_xaload_n (v := (4, 0)) (pcN := 61) jIZ_42_60 rfl rfl rfl ?_
  refine jT_xgetf (a := 0) (t := 1) (ci := 8) (fi := 0) (c := (8, [(4, 2), (4, 1)], [])) (v := (4, 2)) (pcN := 64) jIZ_42_61 rfl rfl rfl rfl rfl rfl rfl ?_
  refine jT_xgetf (a := 2) (t := 2) (ci := 3) (fi := 0) (c := (3, [(4, 3), (1, 0)], [])) (v := (4, 3)) (pcN := 67) jIZ_42_64 rfl rfl rfl rfl rfl rfl rfl ?_
  refine jT_xiload (v := (0, 3)) (pcN := 69) jIZ_42_67 rfl rfl rfl ?_
  refine jT_xlload_n (v := (1, 0)) (pcN := 70) jIZ_42_69 rfl rfl rfl ?_
  refine jT_adv 1 (pcN := 73) (LN := [(5, (0, 6)), (4, (0, 3)), (2, (1, 0)), (0, (4, 0)), (1, (4, 1))]) (stN := [(1, 65535), (1, 0), (0, 3), (4, 3)]) (hsN := jpZ_3) (c1 := 0) (s1 := 0) (c2 := 0) (s2 := 0) (by exact rfl) ?_ (by omega) (by omega)
  refine jT_land (x := 0) (y := 65535) (z := 0) (by rfl) (by rfl) (by decide +kernel) ?_
  refine jT_advK 300 (pcN := 54) (LN := [(5, (0, 5)), (4, (0, 7)), (2, (1, 0)), (0, (4, 0)), (1, (4, 1))]) (stN := []) (hsN := jpZ_3) (c1 := 0) (s1 := 0) (c2 := 0) (s2 := 0) (by decide +kernel) ?_ (by omega) (by omega)
  refine jT_xiinc (x := 5) (z := 6) (LN := [(5, (0, 6)), (4, (0, 7)), (2, (1, 0)), (0, (4, 0)), (1, (4, 1))]) (pcN := 57) jIZ_42_54 rfl rfl (by decide) rfl rfl ?_
  refine jT_xgoto (pcN := 15) jIZ_42_57 rfl ?_
  refine jT_xiload (v := (0, 6)) (pcN := 17) jIZ_42_15 rfl rfl rfl ?_
  refine jT_xbipush (k := 6) (pcN := 19) jIZ_42_17 (by decide) rfl ?_
  refine jT_xicT (pcN := 60) jIZ_42_19 rfl (by decide +kernel) rfl ?_
  refine jT_xaload_n (v := (4, 0)) (pcN := 61) jIZ_42_60 rfl rfl rfl ?_
  refine jT_xgetf (a := 0) (t := 1) (ci := 8) (fi := 0) (c := (8, [(4, 2), (4, 1)], [])) (v := (4, 2)) (pcN := 64) jIZ_42_61 rfl rfl rfl rfl rfl rfl rfl ?_
  refine jT_xgetf (a := 2) (t := 2) (ci := 3) (fi := 0) (c := (3, [(4, 3), (1, 0)], [])) (v := (4, 3)) (pcN := 67) jIZ_42_64 rfl rfl rfl rfl rfl rfl rfl ?_
  refine jT_xiload (v := (0, 7)) (pcN := 69) jIZ_42_67 rfl rfl rfl ?_
  refine jT_xlload_n (v := (1, 0)) (pcN := 70) jIZ_42_69 rfl rfl rfl ?_
  refine jT_adv 1 (pcN := 73) (LN := [(5, (0, 6)), (4, (0, 7)), (2, (1, 0)), (0, (4, 0)), (1, (4, 1))]) (stN := [(1, 65535), (1, 0), (0, 7), (4, 3)]) (hsN := jpZ_3) (c1 := 0) (s1 := 0) (c2 := 0) (s2 := 0) (by exact rfl) ?_ (by omega) (by omega)
  refine jT_land (x := 0) (y := 65535) (z := 0) (by rfl) (by rfl) (by decide +kernel) ?_
  refine jT_advK 300 (pcN := 54) (LN := [(5, (0, 5)), (4, (0, 11)), (2, (1, 0)), (0, (4, 0)), (1, (4, 1))]) (stN := []) (hsN := jpZ_3) (c1 := 0) (s1 := 0) (c2 := 0) (s2 := 0) (by decide +kernel) ?_ (by omega) (by omega)
  refine jT_xiinc (x := 5) (z := 6) (LN := [(5, (0, 6)), (4, (0, 11)), (2, (1, 0)), (0, (4, 0)), (1, (4, 1))]) (pcN := 57) jIZ_42_54 rfl rfl (by decide) rfl rfl ?_
  refine jT_xgoto (pcN := 15) jIZ_42_57 rfl ?_
  refine jT_xiload (v := (0, 6)) (pcN := 17) jIZ_42_15 rfl rfl rfl ?_
  refine jT_xbipush (k := 6) (pcN := 19) jIZ_42_17 (by decide) rfl ?_
  refine jT_xicT (pcN := 60) jIZ_42_19 rfl (by decide +kernel) rfl ?_
  refine jT_xaload_n (v := (4, 0)) (pcN := 61) jIZ_42_60 rfl rfl rfl ?_
  refine jT_xgetf (a := 0) (t := 1) (ci := 8) (fi := 0) (c := (8, [(4, 2), (4, 1)], [])) (v := (4, 2)) (pcN := 64) jIZ_42_61 rfl rfl rfl rfl rfl rfl rfl ?_
  refine jT_xgetf (a := 2) (t := 2) (ci := 3) (fi := 0) (c := (3, [(4, 3), (1, 0)], [])) (v := (4, 3)) (pcN := 67) jIZ_42_64 rfl rfl rfl rfl rfl rfl rfl ?_
  refine jT_xiload (v := (0, 11)) (pcN := 69) jIZ_42_67 rfl rfl rfl ?_
  refine jT_xlload_n (v := (1, 0)) (pcN := 70) jIZ_42_69 rfl rfl rfl ?_
  refine jT_adv 1 (pcN := 73) (LN := [(5, (0, 6)), (4, (0, 11)), (2, (1, 0)), (0, (4, 0)), (1, (4, 1))]) (stN := [(1, 65535), (1, 0), (0, 11), (4, 3)]) (hsN := jpZ_3) (c1 := 0) (s1 := 0) (c2 := 0) (s2 := 0) (by exact rfl) ?_ (by omega) (by omega)
  refine jT_land (x := 0) (y := 65535) (z := 0) (by rfl) (by rfl) (by decide +kernel) ?_
  refine jT_advK 300 (pcN := 54) (LN := [(5, (0, 5)), (4, (0, 15)), (2, (1, 0)), (0, (4, 0)), (1, (4, 1))]) (stN := []) (hsN := jpZ_3) (c1 := 0) (s1 := 0) (c2 := 0) (s2 := 0) (by decide +kernel) ?_ (by omega) (by omega)
  refine jT_xiinc (x := 5) (z := 6) (LN := [(5, (0, 6)), (4, (0, 15)), (2, (1, 0)), (0, (4, 0)), (1, (4, 1))]) (pcN := 57) jIZ_42_54 rfl rfl (by decide) rfl rfl ?_
  refine jT_xgoto (pcN := 15) jIZ_42_57 rfl ?_
  refine jT_xiload (v := (0, 6)) (pcN := 17) jIZ_42_15 rfl rfl rfl ?_
  refine jT_xbipush (k := 6) (pcN := 19) jIZ_42_17 (by decide) rfl ?_
  refine jT_xicT (pcN := 60) jIZ_42_19 rfl (by decide +kernel) rfl ?_
  refine jT_xaload_n (v := (4, 0)) (pcN := 61) jIZ_42_60 rfl rfl rfl ?_
  refine jT_xgetf (a := 0) (t := 1) (ci := 8) (fi := 0) (c := (8, [(4, 2), (4, 1)], [])) (v := (4, 2)) (pcN := 64) jIZ_42_61 rfl rfl rfl rfl rfl rfl rfl ?_
  refine jT_xgetf (a := 2) (t := 2) (ci := 3) (fi := 0) (c := (3, [(4, 3), (1, 0)], [])) (v := (4, 3)) (pcN := 67) jIZ_42_64 rfl rfl rfl rfl rfl rfl rfl ?_
  refine jT_xiload (v := (0, 15)) (pcN := 69) jIZ_42_67 rfl rfl rfl ?_
  refine jT_xlload_n (v := (1, 0)) (pcN := 70) jIZ_42_69 rfl rfl rfl ?_
  refine jT_adv 1 (pcN := 73) (LN := [(5, (0, 6)), (4, (0, 15)), (2, (1, 0)), (0, (4, 0)), (1, (4, 1))]) (stN := [(1, 65535), (1, 0), (0, 15), (4, 3)]) (hsN := jpZ_3) (c1 := 0) (s1 := 0) (c2 := 0) (s2 := 0) (by exact rfl) ?_ (by omega) (by omega)
  refine jT_land (x := 0) (y := 65535) (z := 0) (by rfl) (by rfl) (by decide +kernel) ?_
  refine jT_advK 300 (pcN := 54) (LN := [(5, (0, 5)), (4, (0, 19)), (2, (1, 0)), (0, (4, 0)), (1, (4, 1))]) (stN := []) (hsN := jpZ_3) (c1 := 0) (s1 := 0) (c2 := 0) (s2 := 0) (by decide +kernel) ?_ (by omega) (by omega)
  refine jT_xiinc (x := 5) (z := 6) (LN := [(5, (0, 6)), (4, (0, 19)), (2, (1, 0)), (0, (4, 0)), (1, (4, 1))]) (pcN := 57) jIZ_42_54 rfl rfl (by decide) rfl rfl ?_
  refine jT_xgoto (pcN := 15) jIZ_42_57 rfl ?_
  refine jT_xiload (v := (0, 6)) (pcN := 17) jIZ_42_15 rfl rfl rfl ?_
  refine jT_xbipush (k := 6) (pcN := 19) jIZ_42_17 (by decide) rfl ?_
  refine jT_xicT (pcN := 60) jIZ_42_19 rfl (by decide +kernel) rfl ?_
  refine jT_xaload_n (v := (4, 0)) (pcN := 61) jIZ_42_60 rfl rfl rfl ?_
  refine jT_xgetf (a := 0) (t := 1) (ci := 8) (fi := 0) (c := (8, [(4, 2), (4, 1)], [])) (v := (4, 2)) (pcN := 64) jIZ_42_61 rfl rfl rfl rfl rfl rfl rfl ?_
  refine jT_xgetf (a := 2) (t := 2) (ci := 3) (fi := 0) (c := (3, [(4, 3), (1, 0)], [])) (v := (4, 3)) (pcN := 67) jIZ_42_64 rfl rfl rfl rfl rfl rfl rfl ?_
  refine jT_xiload (v := (0, 19)) (pcN := 69) jIZ_42_67 rfl rfl rfl ?_
  refine jT_xlload_n (v := (1, 0)) (pcN := 70) jIZ_42_69 rfl rfl rfl ?_
  refine jT_adv 1 (pcN := 73) (LN := [(5, (0, 6)), (4, (0, 19)), (2, (1, 0)), (0, (4, 0)), (1, (4, 1))]) (stN := [(1, 65535), (1, 0), (0, 19), (4, 3)]) (hsN := jpZ_3) (c1 := 0) (s1 := 0) (c2 := 0) (s2 := 0) (by exact rfl) ?_ (by omega) (by omega)
  refine jT_land (x := 0) (y := 65535) (z := 0) (by rfl) (by rfl) (by decide +kernel) ?_
  refine jT_advK 134 (pcN := 135) (LN := [(4, (0, 6)), (2, (1, 0)), (5, (0, 6)), (0, (4, 0)), (1, (4, 1))]) (stN := []) (hsN := jpZ_3) (c1 := 0) (s1 := 0) (c2 := 0) (s2 := 0) (by decide +kernel) ?_ (by omega) (by omega)
  exact jT_ret rfl (by decide) (by show 4 ≤ 4; omega) (by omega) (by omega) ⟨rfl, rfl, rfl⟩
theorem jZ_81_8 {xs : List Int} {d : Nat} : jT xs d 81 2 0 [(0, (4, 0)), (1, (1, 0))] [] [(12, [(4, 1), (0, 0)], []), jgh] 0 0 (fun k v hsN => k = 0 ∧ v = (9, 0) ∧ hsN = [(12, [(4, 1), (0, 0)], []), jgh] ++ []) := by
  refine jT_advK 9 (pcN := 55) (LN := [(3, (1, 0)), (0, (4, 0)), (1, (1, 0))]) (stN := []) (hsN := [(12, [(4, 1), (0, 0)], []), jgh]) (c1 := 0) (s1 := 0) (c2 := 0) (s2 := 0) (by decide +kernel) ?_ (by omega) (by omega)
  exact jT_ret rfl (by decide) (by show 2 ≤ 2; omega) (by omega) (by omega) ⟨rfl, rfl, rfl⟩
theorem jZ_83_9 {xs : List Int} {d : Nat} : jT xs d 83 2 0 [(0, (4, 0))] [] [(12, [(4, 1), (0, 20)], []), (100, [], List.replicate 48 0)] 0 0 (fun k v hsN => k = 0 ∧ v = (9, 0) ∧ hsN = [(12, [(4, 1), (0, 0)], []), (100, [], List.replicate 48 0)]) := by
  refine jT_advK 300 (pcN := 22) (LN := [(0, (4, 0))]) (stN := [(4, 0)]) (hsN := [(12, [(4, 1), (0, 4)], []), (100, [], List.replicate 48 0)]) (c1 := 0) (s1 := 0) (c2 := 0) (s2 := 0) (by decide +kernel) ?_ (by omega) (by omega)
  refine jT_adv 1 (pcN := 23) (LN := [(0, (4, 0))]) (stN := [(4, 0), (4, 0)]) (hsN := [(12, [(4, 1), (0, 4)], []), (100, [], List.replicate 48 0)]) (c1 := 0) (s1 := 0) (c2 := 0) (s2 := 0) (by exact rfl) ?_ (by omega) (by omega)
  refine jT_advK 62 (pcN := 34) (LN := [(0, (4, 0))]) (stN := []) (hsN := [(12, [(4, 1), (0, 0)], []), (100, [], List.replicate 48 0)]) (c1 := 0) (s1 := 0) (c2 := 0) (s2 := 0) (by decide +kernel) ?_ (by omega) (by omega)
  exact jT_ret rfl (by decide) (by show 2 ≤ 2; omega) (by omega) (by omega) ⟨rfl, rfl, rfl⟩
theorem jIZ_90_77 : jmI (jm 90) 77 = (.iinc 3 1, 3) := by rfl
theorem jIZ_90_80 : jmI (jm 90) 80 = (.goto (-31), 3) := by rfl
theorem jIZ_90_49 : jmI (jm 90) 49 = (.iload_n 3, 1) := by rfl
theorem jIZ_90_50 : jmI (jm 90) 50 = (.iload_n 1, 1) := by rfl
theorem jIZ_90_51 : jmI (jm 90) 51 = (.if_icmp .ge 32, 3) := by rfl
theorem jIZ_90_54 : jmI (jm 90) 54 = (.aload_n 0, 1) := by rfl
theorem jIZ_90_55 : jmI (jm 90) 55 = (.getfield 11, 3) := by rfl
theorem jIZ_90_58 : jmI (jm 90) 58 = (.iload_n 3, 1) := by rfl
theorem jIZ_90_59 : jmI (jm 90) 59 = (.aload_n 2, 1) := by rfl
theorem jZ_90_10 {xs : List Int} {d : Nat} : jT xs (d + 1) 90 3 0 [(0, (4, 0)), (1, (0, 20)), (2, (4, 1))] [] [(12, [(4, 2), (0, 0)], []), (100, [], List.replicate 20 0), (100, [], List.replicate 48 0)] 0 0 (fun k v hsN => k = 0 ∧ v = (9, 0) ∧ hsN = [(12, [(4, 2), (0, 0)], []), (100, [], List.replicate 20 0), (100, [], List.replicate 48 0)] ++ []) := by
  refine jT_advK 300 (pcN := 77) (LN := [(3, (0, 14)), (0, (4, 0)), (1, (0, 20)), (2, (4, 1))]) (stN := []) (hsN := [(12, [(4, 2), (0, 0)], []), (100, [], List.replicate 20 0), (100, [], List.replicate 48 0)]) (c1 := 0) (s1 := 0) (c2 := 0) (s2 := 0) (by decide +kernel) ?_ (by omega) (by omega)
  refine jT_xiinc (x := 14) (z := 15) (LN := [(3, (0, 15)), (0, (4, 0)), (1, (0, 20)), (2, (4, 1))]) (pcN := 80) jIZ_90_77 rfl rfl (by decide) rfl rfl ?_
  refine jT_xgoto (pcN := 49) jIZ_90_80 rfl ?_
  refine jT_xiload_n (v := (0, 15)) (pcN := 50) jIZ_90_49 rfl rfl rfl ?_
  refine jT_xiload_n (v := (0, 20)) (pcN := 51) jIZ_90_50 rfl rfl rfl ?_
  refine jT_xicF (t := 83) (pcN := 54) jIZ_90_51 rfl (by decide +kernel) rfl rfl ?_
  refine jT_xaload_n (v := (4, 0)) (pcN := 55) jIZ_90_54 rfl rfl rfl ?_
  refine jT_xgetf (a := 0) (t := 1) (ci := 12) (fi := 0) (c := (12, [(4, 2), (0, 0)], [])) (v := (4, 2)) (pcN := 58) jIZ_90_55 rfl rfl rfl rfl rfl rfl rfl ?_
  refine jT_xiload_n (v := (0, 15)) (pcN := 59) jIZ_90_58 rfl rfl rfl ?_
  refine jT_xaload_n (v := (4, 1)) (pcN := 60) jIZ_90_59 rfl rfl rfl ?_
  refine jT_adv 1 (pcN := 63) (LN := [(3, (0, 15)), (0, (4, 0)), (1, (0, 20)), (2, (4, 1))]) (stN := [(0, 15), (4, 2)]) (hsN := [(12, [(4, 2), (0, 0)], []), (100, [], List.replicate 20 0), (100, [], List.replicate 48 0)]) (c1 := 0) (s1 := 0) (c2 := 0) (s2 := 0) (by exact rfl) ?_ (by omega) (by omega)
  refine jT_advK 97 (pcN := 94) (LN := [(3, (0, 20)), (0, (4, 0)), (1, (0, 20)), (2, (4, 1))]) (stN := [(4, 0)]) (hsN := [(12, [(4, 2), (0, 20)], []), (100, [], List.replicate 20 0), (100, [], List.replicate 48 0)]) (c1 := 0) (s1 := 0) (c2 := 0) (s2 := 0) (by decide +kernel) ?_ (by omega) (by omega)
  refine jT_fB [0, 2] 3 (y := 83) (pcN := 97) (dC := 0) (bc1 := 0) (bc2 := 0) (c1 := 0) (c2 := 0) (as := [(4, 0)]) (asC := [(4, 0)]) (LN := [(3, (0, 20)), (0, (4, 0)), (1, (0, 20)), (2, (4, 1))]) (stN := []) (hsC := [(12, [(4, 1), (0, 20)], []), (100, [], List.replicate 48 0)]) (hsD := [(12, [(4, 1), (0, 0)], []), (100, [], List.replicate 48 0)]) (v := (9, 0)) (st2 := []) (hs2 := [(12, [(4, 2), (0, 0)], []), (100, [], List.replicate 20 0), (100, [], List.replicate 48 0)]) (jZ_83_9 (d := 0)) (by rfl) (by rfl) (by decide +kernel) (by rfl) (by rfl) (by omega) (by omega) (by omega) (by omega) rfl (by decide +kernel) ?_
  exact jT_ret rfl (by decide) (by show 3 ≤ 3; omega) (by omega) (by omega) ⟨rfl, rfl, rfl⟩
def jpZ_23 : List JC := [(8, [(4, 3), (4, 4)], []), (4, [(4, 5), (1, 1)], []), (12, [(4, 6), (0, 0)], []), (3, [(4, 7), (1, 0)], []), (101, [], [0, 0, 0, 0, 0, 0]), (101, [], [0, 0, 0, 0, 0, 0]), (100, [], List.replicate 48 0), (100, [], List.replicate 20 0)]
theorem jZ_50_11 {xs : List Int} {d : Nat} : jT xs (d + 2) 50 8 0 [(0, (4, 0)), (1, (4, 1)), (2, (4, 2))] [] jpZ_23 0 0 (fun k v hsN => k = 0 ∧ v = (9, 0) ∧ hsN = jpZ_23 ++ []) := by
  refine jT_advK 3 (pcN := 5) (LN := [(0, (4, 0)), (1, (4, 1)), (2, (4, 2))]) (stN := [(4, 5), (4, 0)]) (hsN := jpZ_23) (c1 := 0) (s1 := 0) (c2 := 0) (s2 := 0) (by decide +kernel) ?_ (by omega) (by omega)
  refine jT_fR [0, 5, 3, 4] 8 (y := 38) (pcN := 8) (dC := 1) (bc1 := 0) (bc2 := 0) (c1 := 0) (c2 := 0) (as := [(4, 0), (4, 5)]) (asC := [(4, 0), (4, 1)]) (LN := [(0, (4, 0)), (1, (4, 1)), (2, (4, 2))]) (stN := []) (hsC := jpZ_2) (v := (0, 0)) (st2 := [(0, 0)]) (jZ_38_6 (d := 0)) (by rfl) (by rfl) (by decide +kernel) (by rfl) (by rfl) (by omega) (by omega) (by omega) (by omega) rfl ?_
  refine jT_advK 101 (pcN := 67) (LN := [(4, (0, 6)), (3, (0, 0)), (0, (4, 0)), (1, (4, 1)), (2, (4, 2))]) (stN := [(4, 4), (4, 0)]) (hsN := jpZ_23) (c1 := 0) (s1 := 0) (c2 := 0) (s2 := 0) (by decide +kernel) ?_ (by omega) (by omega)
  refine jT_fR [0, 4, 3, 7] 8 (y := 42) (pcN := 70) (dC := 0) (bc1 := 0) (bc2 := 0) (c1 := 0) (c2 := 0) (as := [(4, 0), (4, 4)]) (asC := [(4, 0), (4, 1)]) (LN := [(4, (0, 6)), (3, (0, 0)), (0, (4, 0)), (1, (4, 1)), (2, (4, 2))]) (stN := []) (hsC := jpZ_3) (v := (9, 0)) (st2 := []) (jZ_42_7 (d := 0)) (by rfl) (by rfl) (by decide +kernel) (by rfl) (by rfl) (by omega) (by omega) (by omega) (by omega) rfl ?_
  refine jT_advK 4 (pcN := 78) (LN := [(4, (0, 6)), (3, (0, 0)), (0, (4, 0)), (1, (4, 1)), (2, (4, 2))]) (stN := [(1, 0), (4, 2)]) (hsN := jpZ_23) (c1 := 0) (s1 := 0) (c2 := 0) (s2 := 0) (by decide +kernel) ?_ (by omega) (by omega)
  refine jT_fR [2, 6] 8 (y := 81) (pcN := 81) (dC := 0) (bc1 := 0) (bc2 := 0) (c1 := 0) (c2 := 0) (as := [(4, 2), (1, 0)]) (asC := [(4, 0), (1, 0)]) (LN := [(4, (0, 6)), (3, (0, 0)), (0, (4, 0)), (1, (4, 1)), (2, (4, 2))]) (stN := []) (hsC := [(12, [(4, 1), (0, 0)], []), jgh]) (v := (9, 0)) (st2 := []) (jZ_81_8 (d := 0)) (by rfl) (by rfl) (by decide +kernel) (by rfl) (by rfl) (by omega) (by omega) (by omega) (by omega) rfl ?_
  refine jT_advK 5 (pcN := 91) (LN := [(4, (0, 6)), (3, (0, 0)), (0, (4, 0)), (1, (4, 1)), (2, (4, 2))]) (stN := [(4, 7), (0, 20), (4, 2)]) (hsN := jpZ_23) (c1 := 0) (s1 := 0) (c2 := 0) (s2 := 0) (by decide +kernel) ?_ (by omega) (by omega)
  refine jT_fR [2, 7, 6] 8 (y := 90) (pcN := 94) (dC := 1) (bc1 := 0) (bc2 := 0) (c1 := 0) (c2 := 0) (as := [(4, 2), (0, 20), (4, 7)]) (asC := [(4, 0), (0, 20), (4, 1)]) (LN := [(4, (0, 6)), (3, (0, 0)), (0, (4, 0)), (1, (4, 1)), (2, (4, 2))]) (stN := []) (hsC := [(12, [(4, 2), (0, 0)], []), (100, [], List.replicate 20 0), (100, [], List.replicate 48 0)]) (v := (9, 0)) (st2 := []) (jZ_90_10 (d := 0)) (by rfl) (by rfl) (by decide +kernel) (by rfl) (by rfl) (by omega) (by omega) (by omega) (by omega) rfl ?_
  exact jT_ret rfl (by decide) (by show 8 ≤ 8; omega) (by omega) (by omega) ⟨rfl, rfl, rfl⟩
def jzZ_24 : JC := (100, [], [1, 0, 0, 0, 0, 0, 0, 0, 0, 0, 0, 0, 0, 0, 0, 0, 0, 0, 0, 0, 0, 0, 0, 0, 0, 0, 0, 0, 0, 0, 0, 0, 0, 0, 0, 0, 0, 0, 0, 0, 0, 0, 0, 0, 0, 0, 0, 0])
theorem jZ_81_12 {xs : List Int} {d : Nat} : jT xs d 81 2 0 [(0, (4, 0)), (1, (1, 1))] [] [(12, [(4, 1), (0, 0)], []), (100, [], List.replicate 48 0)] 0 0 (fun k v hsN => k = 0 ∧ v = (9, 0) ∧ hsN = [(12, [(4, 1), (0, 1)], []), jzZ_24]) := by
  refine jT_advK 37 (pcN := 55) (LN := [(3, (1, 0)), (0, (4, 0)), (1, (1, 1))]) (stN := []) (hsN := [(12, [(4, 1), (0, 1)], []), jzZ_24]) (c1 := 0) (s1 := 0) (c2 := 0) (s2 := 0) (by decide +kernel) ?_ (by omega) (by omega)
  exact jT_ret rfl (by decide) (by show 2 ≤ 2; omega) (by omega) (by omega) ⟨rfl, rfl, rfl⟩
def jzZ_25 : JC := (100, [], [0, 0, 0, 0, 0, 0, 0, 0, 0, 0, 0, 0, 0, 0, 0, 0, 0, 0, 0, 0, 1, 0, 0, 0, 0, 0, 0, 0, 0, 0, 0, 0, 0, 0, 0, 0, 0, 0, 0, 0, 0, 0, 0, 0, 0, 0, 0, 0])
theorem jZ_83_13 {xs : List Int} {d : Nat} : jT xs d 83 2 0 [(0, (4, 0))] [] [(12, [(4, 1), (0, 21)], []), jzZ_25] 0 0 (fun k v hsN => k = 0 ∧ v = (9, 0) ∧ hsN = [(12, [(4, 1), (0, 21)], []), jzZ_25] ++ []) := by
  refine jT_advK 11 (pcN := 34) (LN := [(0, (4, 0))]) (stN := []) (hsN := [(12, [(4, 1), (0, 21)], []), jzZ_25]) (c1 := 0) (s1 := 0) (c2 := 0) (s2 := 0) (by decide +kernel) ?_ (by omega) (by omega)
  exact jT_ret rfl (by decide) (by show 2 ≤ 2; omega) (by omega) (by omega) ⟨rfl, rfl, rfl⟩
theorem jZ_90_14 {xs : List Int} {d : Nat} : jT xs (d + 1) 90 2 0 [(0, (4, 0)), (1, (0, 20)), (2, (4, (-1)))] [] [(12, [(4, 1), (0, 1)], []), jzZ_24] 0 0 (fun k v hsN => k = 0 ∧ v = (9, 0) ∧ hsN = [(12, [(4, 1), (0, 21)], []), jzZ_25]) := by
  refine jT_advK 281 (pcN := 94) (LN := [(3, (0, 20)), (0, (4, 0)), (1, (0, 20)), (2, (4, (-1)))]) (stN := [(4, 0)]) (hsN := [(12, [(4, 1), (0, 21)], []), jzZ_25]) (c1 := 0) (s1 := 0) (c2 := 0) (s2 := 0) (by decide +kernel) ?_ (by omega) (by omega)
  refine jT_fR [0, 1] 2 (y := 83) (pcN := 97) (dC := 0) (bc1 := 0) (bc2 := 0) (c1 := 0) (c2 := 0) (as := [(4, 0)]) (asC := [(4, 0)]) (LN := [(3, (0, 20)), (0, (4, 0)), (1, (0, 20)), (2, (4, (-1)))]) (stN := []) (hsC := [(12, [(4, 1), (0, 21)], []), jzZ_25]) (v := (9, 0)) (st2 := []) (jZ_83_13 (d := 0)) (by rfl) (by rfl) (by decide +kernel) (by rfl) (by rfl) (by omega) (by omega) (by omega) (by omega) rfl ?_
  exact jT_ret rfl (by decide) (by show 2 ≤ 2; omega) (by omega) (by omega) ⟨rfl, rfl, rfl⟩
def jpZ_26 : List JC := [(2, [(4, 3), (4, 4)], []), (4, [(4, 5), (1, 1)], []), (8, [(4, 6), (4, 7)], []), (12, [(4, 8), (0, 0)], []), (12, [(4, 9), (0, 0)], []), (101, [], [0, 0, 0, 0, 0, 0]), (3, [(4, 10), (1, 0)], []), (101, [], [0, 0, 0, 0, 0, 0]), (100, [], List.replicate 48 0), (100, [], List.replicate 48 0), (100, [], List.replicate 20 0)]
def jpZ_27 : List JC := [(2, [(4, 3), (4, 4)], []), (4, [(4, 5), (1, 1)], []), (8, [(4, 6), (4, 7)], []), (12, [(4, 8), (0, 0)], []), (12, [(4, 9), (0, 1)], []), (101, [], [0, 0, 0, 0, 0, 0]), (3, [(4, 10), (1, 0)], []), (101, [], [0, 0, 0, 0, 0, 0]), (100, [], List.replicate 48 0), jzZ_24, (100, [], List.replicate 20 0)]
def jpZ_28 : List JC := [(2, [(4, 3), (4, 4)], []), (4, [(4, 5), (1, 1)], []), (8, [(4, 6), (4, 7)], []), (12, [(4, 8), (0, 0)], []), (12, [(4, 9), (0, 21)], []), (101, [], [0, 0, 0, 0, 0, 0]), (3, [(4, 10), (1, 0)], []), (101, [], [0, 0, 0, 0, 0, 0]), (100, [], List.replicate 48 0), jzZ_25, (100, [], List.replicate 20 0)]
theorem jZ_1_15 {xs : List Int} {d : Nat} : jT xs (d + 3) 1 11 0 [(0, (4, 0)), (1, (4, 1)), (2, (4, 2))] [] jpZ_26 0 0 (fun k v hsN => k = 0 ∧ v = (9, 0) ∧ hsN = jpZ_28) := by
  refine jT_advK 4 (pcN := 6) (LN := [(0, (4, 0)), (1, (4, 1)), (2, (4, 2))]) (stN := [(4, 3), (4, 1), (4, 2)]) (hsN := jpZ_26) (c1 := 0) (s1 := 0) (c2 := 0) (s2 := 0) (by decide +kernel) ?_ (by omega) (by omega)
  refine jT_fR [2, 1, 3, 6, 7, 5, 8, 10] 11 (y := 50) (pcN := 9) (dC := 2) (bc1 := 0) (bc2 := 0) (c1 := 0) (c2 := 0) (as := [(4, 2), (4, 1), (4, 3)]) (asC := [(4, 0), (4, 1), (4, 2)]) (LN := [(0, (4, 0)), (1, (4, 1)), (2, (4, 2))]) (stN := []) (hsC := jpZ_23) (v := (9, 0)) (st2 := []) (jZ_50_11 (d := 0)) (by rfl) (by rfl) (by decide +kernel) (by rfl) (by rfl) (by omega) (by omega) (by omega) (by omega) rfl ?_
  refine jT_advK 4 (pcN := 17) (LN := [(0, (4, 0)), (1, (4, 1)), (2, (4, 2))]) (stN := [(1, 1), (4, 4)]) (hsN := jpZ_26) (c1 := 0) (s1 := 0) (c2 := 0) (s2 := 0) (by decide +kernel) ?_ (by omega) (by omega)
  refine jT_fB [4, 9] 11 (y := 81) (pcN := 20) (dC := 0) (bc1 := 0) (bc2 := 0) (c1 := 0) (c2 := 0) (as := [(4, 4), (1, 1)]) (asC := [(4, 0), (1, 1)]) (LN := [(0, (4, 0)), (1, (4, 1)), (2, (4, 2))]) (stN := []) (hsC := [(12, [(4, 1), (0, 0)], []), (100, [], List.replicate 48 0)]) (hsD := [(12, [(4, 1), (0, 1)], []), jzZ_24]) (v := (9, 0)) (st2 := []) (hs2 := jpZ_27) (jZ_81_12 (d := 0)) (by rfl) (by rfl) (by decide +kernel) (by rfl) (by rfl) (by omega) (by omega) (by omega) (by omega) rfl (by decide +kernel) ?_
  refine jT_advK 4 (pcN := 27) (LN := [(0, (4, 0)), (1, (4, 1)), (2, (4, 2))]) (stN := [(4, (-1)), (0, 20), (4, 4)]) (hsN := jpZ_27) (c1 := 0) (s1 := 0) (c2 := 0) (s2 := 0) (by decide +kernel) ?_ (by omega) (by omega)
  refine jT_fB [4, 9] 11 (y := 90) (pcN := 30) (dC := 1) (bc1 := 0) (bc2 := 0) (c1 := 0) (c2 := 0) (as := [(4, 4), (0, 20), (4, (-1))]) (asC := [(4, 0), (0, 20), (4, (-1))]) (LN := [(0, (4, 0)), (1, (4, 1)), (2, (4, 2))]) (stN := []) (hsC := [(12, [(4, 1), (0, 1)], []), jzZ_24]) (hsD := [(12, [(4, 1), (0, 21)], []), jzZ_25]) (v := (9, 0)) (st2 := []) (hs2 := jpZ_28) (jZ_90_14 (d := 0)) (by rfl) (by rfl) (by decide +kernel) (by rfl) (by rfl) (by omega) (by omega) (by omega) (by omega) rfl (by decide +kernel) ?_
  exact jT_ret rfl (by decide) (by show 11 ≤ 11; omega) (by omega) (by omega) ⟨rfl, rfl, rfl⟩
theorem jZ_88_16 {xs : List Int} {d : Nat} : jT xs d 88 2 0 [(0, (4, 0))] [] [(12, [(4, 1), (0, 0)], []), jgh] 0 0 (fun k v hsN => k = 0 ∧ v = (0, 0) ∧ hsN = [(12, [(4, 1), (0, 0)], []), jgh] ++ []) := by
  refine jT_advK 4 (pcN := 8) (LN := [(0, (4, 0))]) (stN := [(0, 0)]) (hsN := [(12, [(4, 1), (0, 0)], []), jgh]) (c1 := 0) (s1 := 0) (c2 := 0) (s2 := 0) (by decide +kernel) ?_ (by omega) (by omega)
  exact jT_ret rfl (by decide) (by show 2 ≤ 2; omega) (by omega) (by omega) ⟨rfl, rfl, rfl⟩
theorem jZ_88_17 {xs : List Int} {d : Nat} : jT xs d 88 2 0 [(0, (4, 0))] [] [(12, [(4, 1), (0, 21)], []), jzZ_25] 0 0 (fun k v hsN => k = 0 ∧ v = (0, 321) ∧ hsN = [(12, [(4, 1), (0, 21)], []), jzZ_25] ++ []) := by
  refine jT_advK 29 (pcN := 46) (LN := [(2, (0, 0)), (1, (0, 321)), (0, (4, 0))]) (stN := [(0, 321)]) (hsN := [(12, [(4, 1), (0, 21)], []), jzZ_25]) (c1 := 0) (s1 := 0) (c2 := 0) (s2 := 0) (by decide +kernel) ?_ (by omega) (by omega)
  exact jT_ret rfl (by decide) (by show 2 ≤ 2; omega) (by omega) (by omega) ⟨rfl, rfl, rfl⟩
def jpZ_29 : List JC := [(12, [(4, 2), (0, 0)], []), (12, [(4, 3), (0, 21)], []), jgh, jzZ_25]
theorem jZ_91_18 {xs : List Int} {d : Nat} : jT xs (d + 1) 91 4 0 [(0, (4, 0)), (1, (4, 1)), (2, (1, 1000000000000000000))] [] jpZ_29 0 0 (fun k v hsN => k = 0 ∧ v = (1, 0) ∧ hsN = jpZ_29 ++ []) := by
  refine jT_advK 1 (pcN := 1) (LN := [(0, (4, 0)), (1, (4, 1)), (2, (1, 1000000000000000000))]) (stN := [(4, 0)]) (hsN := jpZ_29) (c1 := 0) (s1 := 0) (c2 := 0) (s2 := 0) (by decide +kernel) ?_ (by omega) (by omega)
  refine jT_fR [0, 2] 4 (y := 88) (pcN := 4) (dC := 0) (bc1 := 0) (bc2 := 0) (c1 := 0) (c2 := 0) (as := [(4, 0)]) (asC := [(4, 0)]) (LN := [(0, (4, 0)), (1, (4, 1)), (2, (1, 1000000000000000000))]) (stN := []) (hsC := [(12, [(4, 1), (0, 0)], []), jgh]) (v := (0, 0)) (st2 := [(0, 0)]) (jZ_88_16 (d := 0)) (by rfl) (by rfl) (by decide +kernel) (by rfl) (by rfl) (by omega) (by omega) (by omega) (by omega) rfl ?_
  refine jT_advK 1 (pcN := 5) (LN := [(0, (4, 0)), (1, (4, 1)), (2, (1, 1000000000000000000))]) (stN := [(4, 1), (0, 0)]) (hsN := jpZ_29) (c1 := 0) (s1 := 0) (c2 := 0) (s2 := 0) (by decide +kernel) ?_ (by omega) (by omega)
  refine jT_fR [1, 3] 4 (y := 88) (pcN := 8) (dC := 0) (bc1 := 0) (bc2 := 0) (c1 := 0) (c2 := 0) (as := [(4, 1)]) (asC := [(4, 0)]) (LN := [(0, (4, 0)), (1, (4, 1)), (2, (1, 1000000000000000000))]) (stN := [(0, 0)]) (hsC := [(12, [(4, 1), (0, 21)], []), jzZ_25]) (v := (0, 321)) (st2 := [(0, 321), (0, 0)]) (jZ_88_17 (d := 0)) (by rfl) (by rfl) (by decide +kernel) (by rfl) (by rfl) (by omega) (by omega) (by omega) (by omega) rfl ?_
  refine jT_advK 5 (pcN := 24) (LN := [(4, (0, (-321))), (0, (4, 0)), (1, (4, 1)), (2, (1, 1000000000000000000))]) (stN := [(1, 0)]) (hsN := jpZ_29) (c1 := 0) (s1 := 0) (c2 := 0) (s2 := 0) (by decide +kernel) ?_ (by omega) (by omega)
  exact jT_ret rfl (by decide) (by show 4 ≤ 4; omega) (by omega) (by omega) ⟨rfl, rfl, rfl⟩
def jpZ_30 : List JC := [(2, [(4, 1), (4, 2)], []), (12, [(4, 3), (0, 0)], []), (12, [(4, 4), (0, 21)], []), jgh, jzZ_25]
def jpZ_31 : List JC := [(2, [(4, 2), (4, 1)], []), (12, [(4, 3), (0, 0)], []), (12, [(4, 4), (0, 21)], []), jgh, jzZ_25]
theorem jZ_2_19 {xs : List Int} {d : Nat} : jT xs (d + 2) 2 5 0 [(0, (4, 0))] [] jpZ_30 0 0 (fun k v hsN => k = 0 ∧ v = (1, 0) ∧ hsN = jpZ_31) := by
  refine jT_advK 5 (pcN := 11) (LN := [(0, (4, 0))]) (stN := [(1, 1000000000000000000), (4, 2), (4, 1)]) (hsN := jpZ_30) (c1 := 0) (s1 := 0) (c2 := 0) (s2 := 0) (by decide +kernel) ?_ (by omega) (by omega)
  refine jT_fR [1, 2, 3, 4] 5 (y := 91) (pcN := 14) (dC := 1) (bc1 := 0) (bc2 := 0) (c1 := 0) (c2 := 0) (as := [(4, 1), (4, 2), (1, 1000000000000000000)]) (asC := [(4, 0), (4, 1), (1, 1000000000000000000)]) (LN := [(0, (4, 0))]) (stN := []) (hsC := jpZ_29) (v := (1, 0)) (st2 := [(1, 0)]) (jZ_91_18 (d := 0)) (by rfl) (by rfl) (by decide +kernel) (by rfl) (by rfl) (by omega) (by omega) (by omega) (by omega) rfl ?_
  refine jT_advK 12 (pcN := 34) (LN := [(3, (4, 1)), (1, (1, 0)), (0, (4, 0))]) (stN := [(1, 0)]) (hsN := jpZ_31) (c1 := 0) (s1 := 0) (c2 := 0) (s2 := 0) (by decide +kernel) ?_ (by omega) (by omega)
  exact jT_ret rfl (by decide) (by show 5 ≤ 5; omega) (by omega) (by omega) ⟨rfl, rfl, rfl⟩
theorem jZ_92_20 {xs : List Int} {d : Nat} : jT xs d 92 2 0 [(0, (4, 0))] [] [(12, [(4, 1), (0, 0)], []), jgh] 0 0 (fun k v hsN => k = 0 ∧ v = (0, 1) ∧ hsN = [(12, [(4, 1), (0, 0)], []), jgh] ++ []) := by
  refine jT_advK 5 (pcN := 12) (LN := [(0, (4, 0))]) (stN := [(0, 1)]) (hsN := [(12, [(4, 1), (0, 0)], []), jgh]) (c1 := 0) (s1 := 0) (c2 := 0) (s2 := 0) (by decide +kernel) ?_ (by omega) (by omega)
  exact jT_ret rfl (by decide) (by show 2 ≤ 2; omega) (by omega) (by omega) ⟨rfl, rfl, rfl⟩
def jpZ_32 : List JC := [(2, [(4, 1), (4, 2)], []), jgh, (12, [(4, 3), (0, 0)], []), jgh]
theorem jZ_3_21 {xs : List Int} {d : Nat} : jT xs (d + 1) 3 4 0 [(0, (4, 0))] [] jpZ_32 0 0 (fun k v hsN => k = 0 ∧ v = (0, 1) ∧ hsN = jpZ_32 ++ []) := by
  refine jT_advK 2 (pcN := 4) (LN := [(0, (4, 0))]) (stN := [(4, 2)]) (hsN := jpZ_32) (c1 := 0) (s1 := 0) (c2 := 0) (s2 := 0) (by decide +kernel) ?_ (by omega) (by omega)
  refine jT_fR [2, 3] 4 (y := 92) (pcN := 7) (dC := 0) (bc1 := 0) (bc2 := 0) (c1 := 0) (c2 := 0) (as := [(4, 2)]) (asC := [(4, 0)]) (LN := [(0, (4, 0))]) (stN := []) (hsC := [(12, [(4, 1), (0, 0)], []), jgh]) (v := (0, 1)) (st2 := [(0, 1)]) (jZ_92_20 (d := 0)) (by rfl) (by rfl) (by decide +kernel) (by rfl) (by rfl) (by omega) (by omega) (by omega) (by omega) rfl ?_
  exact jT_ret rfl (by decide) (by show 4 ≤ 4; omega) (by omega) (by omega) ⟨rfl, rfl, rfl⟩
def jzZ_33 : JC := (13, [(4, 2), (4, 3), (4, 4), (4, 5), (4, 6), (4, 7), (4, 8), (4, 9), (4, 10), (4, 11), (0, 0), (4, 12), (0, 0)], [])
def jpZ_34 : List JC := [jzZ_33, (4, [(4, 13), (1, 1)], []), (8, [(4, 14), (4, 15)], []), (2, [(4, 16), (4, 17)], []), jgh, jgh, jgh, jgh, jgh, jgh, jgh, jgh, jgh, (101, [], [0, 0, 0, 0, 0, 0]), (3, [(4, 18), (1, 0)], []), (101, [], [0, 0, 0, 0, 0, 0]), (12, [(4, 19), (0, 0)], []), (12, [(4, 20), (0, 0)], []), (100, [], List.replicate 20 0), (100, [], List.replicate 48 0), (100, [], List.replicate 48 0)]
def jpZ_35 : List JC := [jzZ_33, (4, [(4, 13), (1, 1)], []), (8, [(4, 14), (4, 15)], []), (2, [(4, 16), (4, 17)], []), jgh, jgh, jgh, jgh, jgh, jgh, jgh, jgh, jgh, (101, [], [0, 0, 0, 0, 0, 0]), (3, [(4, 18), (1, 0)], []), (101, [], [0, 0, 0, 0, 0, 0]), (12, [(4, 19), (0, 0)], []), (12, [(4, 20), (0, 21)], []), (100, [], List.replicate 20 0), (100, [], List.replicate 48 0), jzZ_25]
def jpZ_36 : List JC := [jzZ_33, (4, [(4, 13), (1, 1)], []), (8, [(4, 14), (4, 15)], []), (2, [(4, 17), (4, 16)], []), jgh, jgh, jgh, jgh, jgh, jgh, jgh, jgh, jgh, (101, [], [0, 0, 0, 0, 0, 0]), (3, [(4, 18), (1, 0)], []), (101, [], [0, 0, 0, 0, 0, 0]), (12, [(4, 19), (0, 0)], []), (12, [(4, 20), (0, 21)], []), (100, [], List.replicate 20 0), (100, [], List.replicate 48 0), jzZ_25]
theorem jZ_156_22 {xs : List Int} {d : Nat} : jT xs (d + 4) 156 21 0 [(0, (4, 0)), (1, (4, 1)), (2, (0, 2147483647)), (3, (0, 2000))] [] jpZ_34 0 0 (fun k v hsN => k = 0 ∧ v = (1, (-1)) ∧ hsN = jpZ_36) := by
  refine jT_advK 5 (pcN := 9) (LN := [(0, (4, 0)), (1, (4, 1)), (2, (0, 2147483647)), (3, (0, 2000))]) (stN := [(4, 2), (4, 1), (4, 3)]) (hsN := jpZ_34) (c1 := 0) (s1 := 0) (c2 := 0) (s2 := 0) (by decide +kernel) ?_ (by omega) (by omega)
  refine jT_fB [3, 1, 2, 16, 17, 13, 14, 15, 19, 20, 18] 21 (y := 1) (pcN := 12) (dC := 3) (bc1 := 0) (bc2 := 0) (c1 := 0) (c2 := 0) (as := [(4, 3), (4, 1), (4, 2)]) (asC := [(4, 0), (4, 1), (4, 2)]) (LN := [(0, (4, 0)), (1, (4, 1)), (2, (0, 2147483647)), (3, (0, 2000))]) (stN := []) (hsC := jpZ_26) (hsD := jpZ_28) (v := (9, 0)) (st2 := []) (hs2 := jpZ_35) (jZ_1_15 (d := 0)) (by rfl) (by rfl) (by decide +kernel) (by rfl) (by rfl) (by omega) (by omega) (by omega) (by omega) rfl (by decide +kernel) ?_
  refine jT_advK 2 (pcN := 16) (LN := [(0, (4, 0)), (1, (4, 1)), (2, (0, 2147483647)), (3, (0, 2000))]) (stN := [(4, 3)]) (hsN := jpZ_35) (c1 := 0) (s1 := 0) (c2 := 0) (s2 := 0) (by decide +kernel) ?_ (by omega) (by omega)
  refine jT_fB [3, 16, 17, 19, 20] 21 (y := 2) (pcN := 19) (dC := 2) (bc1 := 0) (bc2 := 0) (c1 := 0) (c2 := 0) (as := [(4, 3)]) (asC := [(4, 0)]) (LN := [(0, (4, 0)), (1, (4, 1)), (2, (0, 2147483647)), (3, (0, 2000))]) (stN := []) (hsC := jpZ_30) (hsD := jpZ_31) (v := (1, 0)) (st2 := [(1, 0)]) (hs2 := jpZ_36) (jZ_2_19 (d := 0)) (by rfl) (by rfl) (by decide +kernel) (by rfl) (by rfl) (by omega) (by omega) (by omega) (by omega) rfl (by decide +kernel) ?_
  refine jT_advK 17 (pcN := 48) (LN := [(9, (0, 0)), (8, (0, 0)), (6, (1, 1)), (4, (1, 0)), (0, (4, 0)), (1, (4, 1)), (2, (0, 2147483647)), (3, (0, 2000))]) (stN := [(4, 3)]) (hsN := jpZ_36) (c1 := 0) (s1 := 0) (c2 := 0) (s2 := 0) (by decide +kernel) ?_ (by omega) (by omega)
  refine jT_fR [3, 17, 16, 19] 21 (y := 3) (pcN := 51) (dC := 1) (bc1 := 0) (bc2 := 0) (c1 := 0) (c2 := 0) (as := [(4, 3)]) (asC := [(4, 0)]) (LN := [(9, (0, 0)), (8, (0, 0)), (6, (1, 1)), (4, (1, 0)), (0, (4, 0)), (1, (4, 1)), (2, (0, 2147483647)), (3, (0, 2000))]) (stN := []) (hsC := jpZ_32) (v := (0, 1)) (st2 := [(0, 1)]) (jZ_3_21 (d := 0)) (by rfl) (by rfl) (by decide +kernel) (by rfl) (by rfl) (by omega) (by omega) (by omega) (by omega) rfl ?_
  refine jT_advK 10 (pcN := 80) (LN := [(10, (1, 1000000000000000000)), (9, (0, 0)), (8, (0, 0)), (6, (1, 1)), (4, (1, 0)), (0, (4, 0)), (1, (4, 1)), (2, (0, 2147483647)), (3, (0, 2000))]) (stN := [(1, (-1))]) (hsN := jpZ_36) (c1 := 0) (s1 := 0) (c2 := 0) (s2 := 0) (by decide +kernel) ?_ (by omega) (by omega)
  exact jT_ret rfl (by decide) (by show 21 ≤ 21; omega) (by omega) (by omega) ⟨rfl, rfl, rfl⟩
def jzZ_37 : JC := (13, [(4, 1), (4, 2), (4, 3), (4, 4), (4, 5), (4, 6), (4, 7), (4, 8), (4, 9), (4, 10), (0, 0), (4, 11), (0, 0)], [])
def jzZ_38 : JC := (9, [(4, 16), (4, 17), (4, 18), (4, 19), (4, 20)], [])
def jzZ_39 : JC := (114, [], [24, 24, 24, 24, 24, 24, 24, 24])
def jpZ_40 : List JC := [jzZ_37, (8, [(4, 12), (4, 13)], []), (2, [(4, 14), (4, 15)], []), jgh, jgh, jgh, jgh, jgh, jgh, jgh, jgh, jzZ_38, (3, [(4, 21), (1, 0)], []), (101, [], [0, 0, 0, 0, 0, 0]), (12, [(4, 22), (0, 0)], []), (12, [(4, 23), (0, 0)], []), jzZ_39, jgh, jgh, jgh, jgh, (100, [], List.replicate 20 0), (100, [], List.replicate 48 0), (100, [], List.replicate 48 0), (4, [(4, 25), (1, 1)], []), (101, [], [0, 0, 0, 0, 0, 0])]
def jpZ_41 : List JC := [jzZ_37, (8, [(4, 12), (4, 13)], []), (2, [(4, 15), (4, 14)], []), jgh, jgh, jgh, jgh, jgh, jgh, jgh, jgh, jzZ_38, (3, [(4, 21), (1, 0)], []), (101, [], [0, 0, 0, 0, 0, 0]), (12, [(4, 22), (0, 0)], []), (12, [(4, 23), (0, 21)], []), jzZ_39, jgh, jgh, jgh, jgh, (100, [], List.replicate 20 0), (100, [], List.replicate 48 0), jzZ_25, (4, [(4, 25), (1, 1)], []), (101, [], [0, 0, 0, 0, 0, 0])]
theorem jZ_155_23 {xs : List Int} {d : Nat} : jT xs (d + 5) 155 26 0 [(0, (4, 0)), (1, (0, 0)), (2, (0, 2147483647)), (3, (0, 2000))] [] jpZ_40 1 6 (fun k v hsN => k = 1 ∧ v = (0, 4) ∧ hsN = jpZ_41) := by
  refine jT_advK 3 (pcN := 4) (LN := [(0, (4, 0)), (1, (0, 0)), (2, (0, 2147483647)), (3, (0, 2000))]) (stN := [(0, 8), (0, 0), (4, 0)]) (hsN := jpZ_40) (c1 := 0) (s1 := 0) (c2 := 1) (s2 := 6) (by decide +kernel) ?_ (by omega) (by omega)
  refine jT_fR [0] 26 (y := 115) (pcN := 7) (dC := 0) (bc1 := 0) (bc2 := 0) (c1 := 1) (c2 := 6) (as := [(4, 0), (0, 0), (0, 8)]) (asC := [(4, 0), (0, 0), (0, 8)]) (LN := [(0, (4, 0)), (1, (0, 0)), (2, (0, 2147483647)), (3, (0, 2000))]) (stN := []) (hsC := [jgh]) (v := (9, 0)) (st2 := []) (jZ_115_1 (d := 0)) (by rfl) (by rfl) (by decide +kernel) (by rfl) (by rfl) (by omega) (by omega) (by omega) (by omega) rfl ?_
  refine jT_advK 6 (pcN := 28) (LN := [(0, (4, 0)), (1, (0, 0)), (2, (0, 2147483647)), (3, (0, 2000))]) (stN := [(0, 2000), (0, 1), (0, 2000), (4, 0)]) (hsN := jpZ_40) (c1 := 0) (s1 := 0) (c2 := 1) (s2 := 6) (by decide +kernel) ?_ (by omega) (by omega)
  refine jT_fR [0] 26 (y := 116) (pcN := 31) (dC := 0) (bc1 := 0) (bc2 := 0) (c1 := 1) (c2 := 6) (as := [(4, 0), (0, 2000), (0, 1), (0, 2000)]) (asC := [(4, 0), (0, 2000), (0, 1), (0, 2000)]) (LN := [(0, (4, 0)), (1, (0, 0)), (2, (0, 2147483647)), (3, (0, 2000))]) (stN := []) (hsC := [jgh]) (v := (9, 0)) (st2 := []) (jZ_116_2 (d := 0)) (by rfl) (by rfl) (by decide +kernel) (by rfl) (by rfl) (by omega) (by omega) (by omega) (by omega) rfl ?_
  refine jT_advK 4 (pcN := 37) (LN := [(0, (4, 0)), (1, (0, 0)), (2, (0, 2147483647)), (3, (0, 2000))]) (stN := [(0, 0), (4, 11), (4, 0)]) (hsN := jpZ_40) (c1 := 0) (s1 := 0) (c2 := 1) (s2 := 6) (by decide +kernel) ?_ (by omega) (by omega)
  refine jT_fR [11, 16, 17, 18, 19, 20, 24] 26 (y := 57) (pcN := 40) (dC := 0) (bc1 := 0) (bc2 := 0) (c1 := 1) (c2 := 6) (as := [(4, 11), (0, 0)]) (asC := [(4, 0), (0, 0)]) (LN := [(0, (4, 0)), (1, (0, 0)), (2, (0, 2147483647)), (3, (0, 2000))]) (stN := [(4, 0)]) (hsC := jpZ_1) (v := (4, 6)) (st2 := [(4, 24), (4, 0)]) (jZ_57_3 (d := 0)) (by rfl) (by rfl) (by decide +kernel) (by rfl) (by rfl) (by omega) (by omega) (by omega) (by omega) rfl ?_
  refine jT_advK 2 (pcN := 42) (LN := [(0, (4, 0)), (1, (0, 0)), (2, (0, 2147483647)), (3, (0, 2000))]) (stN := [(0, 2000), (0, 2147483647), (4, 24), (4, 0)]) (hsN := jpZ_40) (c1 := 0) (s1 := 0) (c2 := 1) (s2 := 6) (by decide +kernel) ?_ (by omega) (by omega)
  refine jT_fB [0, 24, 1, 2, 3, 4, 5, 6, 7, 8, 9, 10, 11, 25, 12, 13, 14, 15, 21, 22, 23] 26 (y := 156) (pcN := 45) (dC := 4) (bc1 := 0) (bc2 := 0) (c1 := 1) (c2 := 6) (as := [(4, 0), (4, 24), (0, 2147483647), (0, 2000)]) (asC := [(4, 0), (4, 1), (0, 2147483647), (0, 2000)]) (LN := [(0, (4, 0)), (1, (0, 0)), (2, (0, 2147483647)), (3, (0, 2000))]) (stN := []) (hsC := jpZ_34) (hsD := jpZ_36) (v := (1, (-1))) (st2 := [(1, (-1))]) (hs2 := jpZ_41) (jZ_156_22 (d := 0)) (by rfl) (by rfl) (by decide +kernel) (by rfl) (by rfl) (by omega) (by omega) (by omega) (by omega) rfl (by decide +kernel) ?_
  refine jT_advK 5 (pcN := 56) (LN := [(4, (1, (-1))), (0, (4, 0)), (1, (0, 0)), (2, (0, 2147483647)), (3, (0, 2000))]) (stN := []) (hsN := jpZ_41) (c1 := 0) (s1 := 0) (c2 := 1) (s2 := 6) (by decide +kernel) ?_ (by omega) (by omega)
  exact jT_ret (c1 := 1) (s1 := 6) rfl (by decide) (by show 26 ≤ 26; omega) (by omega) (by omega) ⟨rfl, rfl, rfl⟩
def jzZ_42 : JC := (9, [(4, 17), (4, 18), (4, 19), (4, 20), (4, 21)], [])
def jzZ_43 : JC := (114, [], [25, 25, 25, 25, 25, 25, 25, 25])
def jpZ_44 : List JC := [jzZ_33, jgh, (8, [(4, 13), (4, 14)], []), (2, [(4, 15), (4, 16)], []), jgh, jgh, jgh, jgh, jgh, jgh, jgh, jgh, jzZ_42, (3, [(4, 22), (1, 0)], []), (101, [], [0, 0, 0, 0, 0, 0]), (12, [(4, 23), (0, 0)], []), (12, [(4, 24), (0, 0)], []), jzZ_43, jgh, jgh, jgh, jgh, (100, [], List.replicate 20 0), (100, [], List.replicate 48 0), (100, [], List.replicate 48 0), (4, [(4, 26), (1, 1)], []), (101, [], [0, 0, 0, 0, 0, 0])]
def jpZ_45 : List JC := [jzZ_33, jgh, (8, [(4, 13), (4, 14)], []), (2, [(4, 16), (4, 15)], []), jgh, jgh, jgh, jgh, jgh, jgh, jgh, jgh, jzZ_42, (3, [(4, 22), (1, 0)], []), (101, [], [0, 0, 0, 0, 0, 0]), (12, [(4, 23), (0, 0)], []), (12, [(4, 24), (0, 21)], []), jzZ_43, jgh, jgh, jgh, jgh, (100, [], List.replicate 20 0), (100, [], List.replicate 48 0), jzZ_25, (4, [(4, 26), (1, 1)], []), (101, [], [0, 0, 0, 0, 0, 0])]
theorem jZ_358_24 {xs : List Int} {d : Nat} : jT xs (d + 6) 358 27 0 [(0, (4, 0)), (1, (0, 0)), (2, (0, 2147483647)), (3, (0, 2000)), (4, (4, 1))] [] jpZ_44 1 6 (fun k v hsN => k = 0 ∧ v = (0, 3) ∧ hsN = jpZ_45) := by
  refine jT_advK 6 (pcN := 7) (LN := [(0, (4, 0)), (1, (0, 0)), (2, (0, 2147483647)), (3, (0, 2000)), (4, (4, 1))]) (stN := [(0, 2000), (0, 2147483647), (0, 0), (4, 0), (0, 0), (4, 1)]) (hsN := jpZ_44) (c1 := 0) (s1 := 0) (c2 := 1) (s2 := 6) (by decide +kernel) ?_ (by omega) (by omega)
  exact jT_fY [0, 2, 3, 4, 5, 6, 7, 8, 9, 10, 11, 12, 13, 14, 15, 16, 17, 18, 19, 20, 21, 22, 23, 24, 25, 26] 27 (y := 155) (pcN := 10) (dC := 5) (bc1 := 1) (bc2 := 6) (as := [(4, 0), (0, 0), (0, 2147483647), (0, 2000)]) (asC := [(4, 0), (0, 0), (0, 2147483647), (0, 2000)]) (LN := [(0, (4, 0)), (1, (0, 0)), (2, (0, 2147483647)), (3, (0, 2000)), (4, (4, 1))]) (stN := [(0, 0), (4, 1)]) (hsC := jpZ_40) (hsD := jpZ_41) (hs2 := jpZ_45) (e := 4) (jZ_155_23 (d := 0)) (by rfl) (by rfl) (by decide +kernel) (by rfl) (by rfl) (by omega) (by omega) (by omega) (by omega) (by decide +kernel) (show _ from ⟨rfl, rfl, rfl⟩)
theorem jZ_189_25 {xs : List Int} {d : Nat} : jT xs d 189 0 0 [(0, (1, 0)), (2, (1, 0)), (4, (1, 7))] [] [] 0 0 (fun k v hsN => k = 0 ∧ v = (0, 1) ∧ hsN = [] ++ []) := by
  refine jT_advK 10 (pcN := 18) (LN := [(0, (1, 0)), (2, (1, 0)), (4, (1, 7))]) (stN := [(0, 1)]) (hsN := []) (c1 := 0) (s1 := 0) (c2 := 0) (s2 := 0) (by decide +kernel) ?_ (by omega) (by omega)
  exact jT_ret rfl (by decide) (by show 0 ≤ 0; omega) (by omega) (by omega) ⟨rfl, rfl, rfl⟩
theorem jZ_188_26 {xs : List Int} {d : Nat} : jT xs (d + 1) 188 0 0 [(0, (0, 0))] [] [] 0 0 (fun k v hsN => k = 0 ∧ v = (0, 1) ∧ hsN = [] ++ []) := by
  refine jT_advK 4 (pcN := 6) (LN := [(0, (0, 0))]) (stN := [(1, 7), (1, 0), (1, 0)]) (hsN := []) (c1 := 0) (s1 := 0) (c2 := 0) (s2 := 0) (by decide +kernel) ?_ (by omega) (by omega)
  refine jT_fR [] 0 (y := 189) (pcN := 9) (dC := 0) (bc1 := 0) (bc2 := 0) (c1 := 0) (c2 := 0) (as := [(1, 0), (1, 0), (1, 7)]) (asC := [(1, 0), (1, 0), (1, 7)]) (LN := [(0, (0, 0))]) (stN := []) (hsC := []) (v := (0, 1)) (st2 := [(0, 1)]) (jZ_189_25 (d := 0)) (by rfl) (by rfl) (by decide +kernel) (by rfl) (by rfl) (by omega) (by omega) (by omega) (by omega) rfl ?_
  exact jT_ret rfl (by decide) (by show 0 ≤ 0; omega) (by omega) (by omega) ⟨rfl, rfl, rfl⟩
theorem jZ_191_27 {xs : List Int} {d : Nat} : jT xs d 191 1 0 [(0, (4, 0)), (1, (0, 1)), (2, (0, 1))] [] [jgh] 0 0 (fun k v hsN => k = 0 ∧ v = (0, 0) ∧ hsN = [jgh] ++ []) := by
  refine jT_advK 5 (pcN := 18) (LN := [(0, (4, 0)), (1, (0, 1)), (2, (0, 1))]) (stN := [(0, 0)]) (hsN := [jgh]) (c1 := 0) (s1 := 0) (c2 := 0) (s2 := 0) (by decide +kernel) ?_ (by omega) (by omega)
  exact jT_ret rfl (by decide) (by show 1 ≤ 1; omega) (by omega) (by omega) ⟨rfl, rfl, rfl⟩
def jzZ_46 : JC := (14, [(0, 0), (4, 1), (4, 2), (4, 3), (4, 4), (0, 0), (4, 5), (0, 0), (4, 6), (4, 7), (1, 1), (4, 8), (0, 0), (4, 9), (0, 0), (0, 0), (0, 0), (0, 0), (0, 0), (0, 0), (0, 0), (4, 10), (4, 11), (4, 12), (4, 13), (4, 14), (4, 15), (0, 0)], [])
def jpZ_47 : List JC := [jzZ_46, jgh, jgh, jgh, jgh, jgh, jgh, jgh, jgh, jgh, jgh, jgh, jgh, jgh, jgh, jgh]
theorem jZ_190_28 {xs : List Int} {d : Nat} : jT xs (d + 1) 190 16 0 [(0, (4, 0)), (1, (0, 1))] [] jpZ_47 0 0 (fun k v hsN => k = 0 ∧ v = (0, 0) ∧ hsN = jpZ_47 ++ []) := by
  refine jT_advK 6 (pcN := 8) (LN := [(0, (4, 0)), (1, (0, 1))]) (stN := [(0, 1), (0, 1), (4, 0)]) (hsN := jpZ_47) (c1 := 0) (s1 := 0) (c2 := 0) (s2 := 0) (by decide +kernel) ?_ (by omega) (by omega)
  refine jT_fR [0] 16 (y := 191) (pcN := 11) (dC := 0) (bc1 := 0) (bc2 := 0) (c1 := 0) (c2 := 0) (as := [(4, 0), (0, 1), (0, 1)]) (asC := [(4, 0), (0, 1), (0, 1)]) (LN := [(0, (4, 0)), (1, (0, 1))]) (stN := []) (hsC := [jgh]) (v := (0, 0)) (st2 := [(0, 0)]) (jZ_191_27 (d := 0)) (by rfl) (by rfl) (by decide +kernel) (by rfl) (by rfl) (by omega) (by omega) (by omega) (by omega) rfl ?_
  exact jT_ret rfl (by decide) (by show 16 ≤ 16; omega) (by omega) (by omega) ⟨rfl, rfl, rfl⟩
theorem jZ_189_29 {xs : List Int} {d : Nat} : jT xs d 189 0 0 [(0, (1, 2000)), (2, (1, 1)), (4, (1, 2000))] [] [] 0 0 (fun k v hsN => k = 0 ∧ v = (0, 1) ∧ hsN = [] ++ []) := by
  refine jT_advK 10 (pcN := 18) (LN := [(0, (1, 2000)), (2, (1, 1)), (4, (1, 2000))]) (stN := [(0, 1)]) (hsN := []) (c1 := 0) (s1 := 0) (c2 := 0) (s2 := 0) (by decide +kernel) ?_ (by omega) (by omega)
  exact jT_ret rfl (by decide) (by show 0 ≤ 0; omega) (by omega) (by omega) ⟨rfl, rfl, rfl⟩
theorem jZ_191_30 {xs : List Int} {d : Nat} : jT xs d 191 1 0 [(0, (4, 0)), (1, (0, 1)), (2, (0, 2))] [] [jgh] 0 0 (fun k v hsN => k = 0 ∧ v = (0, 0) ∧ hsN = [jgh] ++ []) := by
  refine jT_advK 5 (pcN := 18) (LN := [(0, (4, 0)), (1, (0, 1)), (2, (0, 2))]) (stN := [(0, 0)]) (hsN := [jgh]) (c1 := 0) (s1 := 0) (c2 := 0) (s2 := 0) (by decide +kernel) ?_ (by omega) (by omega)
  exact jT_ret rfl (by decide) (by show 1 ≤ 1; omega) (by omega) (by omega) ⟨rfl, rfl, rfl⟩
def jpZ_48 : List JC := [jzZ_46, (100, [], jS0), jgh, jgh, jgh, jgh, jgh, (101, [], [0, 0, 0, 0, 0, 0]), jgh, jgh, jgh, jgh, jgh, jgh, jgh, jgh]
theorem jIZ_203_17 : jmI (jm 203) 17 = (.iaload, 1) := by rfl
theorem jIZ_203_32 : jmI (jm 203) 32 = (.iaload, 1) := by rfl
theorem jZ_203_31 {xs : List Int} {d : Nat} : jT xs d 203 16 0 [(0, (4, 0)), (1, (4, 1)), (2, (0, 0))] [] jpZ_48 0 0 (fun k v hsN => k = 0 ∧ v = (9, 0) ∧ hsN = jpZ_48 ++ []) := by
  refine jT_advK 12 (pcN := 17) (LN := [(3, (0, 0)), (0, (4, 0)), (1, (4, 1)), (2, (0, 0))]) (stN := [(0, 0), (4, 1), (0, 0), (4, 7)]) (hsN := jpZ_48) (c1 := 0) (s1 := 0) (c2 := 0) (s2 := 0) (by decide +kernel) ?_ (by omega) (by omega)
  refine jT_iald (x := 0) (a := 1) (j := 0) (fs := []) (X := jS0) (by rfl) (by rfl) (by rfl) (by rfl) (by decide +kernel) ?_
  refine jT_eq (LN := [(3, (0, 0)), (0, (4, 0)), (1, (4, 1)), (2, (0, 0))]) (stN := [(0, 0), (0, 0), (4, 7)]) (hsN := jpZ_48) rfl rfl rfl ?_
  refine jT_advK 14 (pcN := 17) (LN := [(3, (0, 1)), (0, (4, 0)), (1, (4, 1)), (2, (0, 0))]) (stN := [(0, 1), (4, 1), (0, 1), (4, 7)]) (hsN := jpZ_48) (c1 := 0) (s1 := 0) (c2 := 0) (s2 := 0) (by decide +kernel) ?_ (by omega) (by omega)
  refine jT_iald (x := 0) (a := 1) (j := 1) (fs := []) (X := jS0) (by rfl) (by rfl) (by rfl) (by rfl) (by decide +kernel) ?_
  refine jT_eq (LN := [(3, (0, 1)), (0, (4, 0)), (1, (4, 1)), (2, (0, 0))]) (stN := [(0, 0), (0, 1), (4, 7)]) (hsN := jpZ_48) rfl rfl rfl ?_
  refine jT_advK 14 (pcN := 17) (LN := [(3, (0, 2)), (0, (4, 0)), (1, (4, 1)), (2, (0, 0))]) (stN := [(0, 2), (4, 1), (0, 2), (4, 7)]) (hsN := jpZ_48) (c1 := 0) (s1 := 0) (c2 := 0) (s2 := 0) (by decide +kernel) ?_ (by omega) (by omega)
  refine jT_iald (x := 0) (a := 1) (j := 2) (fs := []) (X := jS0) (by rfl) (by rfl) (by rfl) (by rfl) (by decide +kernel) ?_
  refine jT_eq (LN := [(3, (0, 2)), (0, (4, 0)), (1, (4, 1)), (2, (0, 0))]) (stN := [(0, 0), (0, 2), (4, 7)]) (hsN := jpZ_48) rfl rfl rfl ?_
  refine jT_advK 14 (pcN := 17) (LN := [(3, (0, 3)), (0, (4, 0)), (1, (4, 1)), (2, (0, 0))]) (stN := [(0, 3), (4, 1), (0, 3), (4, 7)]) (hsN := jpZ_48) (c1 := 0) (s1 := 0) (c2 := 0) (s2 := 0) (by decide +kernel) ?_ (by omega) (by omega)
  refine jT_iald (x := 0) (a := 1) (j := 3) (fs := []) (X := jS0) (by rfl) (by rfl) (by rfl) (by rfl) (by decide +kernel) ?_
  refine jT_eq (LN := [(3, (0, 3)), (0, (4, 0)), (1, (4, 1)), (2, (0, 0))]) (stN := [(0, 0), (0, 3), (4, 7)]) (hsN := jpZ_48) rfl rfl rfl ?_
  refine jT_advK 14 (pcN := 17) (LN := [(3, (0, 4)), (0, (4, 0)), (1, (4, 1)), (2, (0, 0))]) (stN := [(0, 4), (4, 1), (0, 4), (4, 7)]) (hsN := jpZ_48) (c1 := 0) (s1 := 0) (c2 := 0) (s2 := 0) (by decide +kernel) ?_ (by omega) (by omega)
  refine jT_iald (x := 0) (a := 1) (j := 4) (fs := []) (X := jS0) (by rfl) (by rfl) (by rfl) (by rfl) (by decide +kernel) ?_
  refine jT_eq (LN := [(3, (0, 4)), (0, (4, 0)), (1, (4, 1)), (2, (0, 0))]) (stN := [(0, 0), (0, 4), (4, 7)]) (hsN := jpZ_48) rfl rfl rfl ?_
  refine jT_advK 14 (pcN := 17) (LN := [(3, (0, 5)), (0, (4, 0)), (1, (4, 1)), (2, (0, 0))]) (stN := [(0, 5), (4, 1), (0, 5), (4, 7)]) (hsN := jpZ_48) (c1 := 0) (s1 := 0) (c2 := 0) (s2 := 0) (by decide +kernel) ?_ (by omega) (by omega)
  refine jT_iald (x := 0) (a := 1) (j := 5) (fs := []) (X := jS0) (by rfl) (by rfl) (by rfl) (by rfl) (by decide +kernel) ?_
  refine jT_eq (LN := [(3, (0, 5)), (0, (4, 0)), (1, (4, 1)), (2, (0, 0))]) (stN := [(0, 0), (0, 5), (4, 7)]) (hsN := jpZ_48) rfl rfl rfl ?_
  refine jT_advK 12 (pcN := 32) (LN := [(3, (0, 6)), (0, (4, 0)), (1, (4, 1)), (2, (0, 0))]) (stN := [(0, 6), (4, 1), (4, 0)]) (hsN := jpZ_48) (c1 := 0) (s1 := 0) (c2 := 0) (s2 := 0) (by decide +kernel) ?_ (by omega) (by omega)
  refine jT_iald (x := 1) (a := 1) (j := 6) (fs := []) (X := jS0) (by rfl) (by rfl) (by rfl) (by rfl) (by decide +kernel) ?_
  refine jT_eq (LN := [(3, (0, 6)), (0, (4, 0)), (1, (4, 1)), (2, (0, 0))]) (stN := [(0, 1), (4, 0)]) (hsN := jpZ_48) rfl rfl rfl ?_
  refine jT_advK 2 (pcN := 37) (LN := [(3, (0, 6)), (0, (4, 0)), (1, (4, 1)), (2, (0, 0))]) (stN := []) (hsN := jpZ_48) (c1 := 0) (s1 := 0) (c2 := 0) (s2 := 0) (by decide +kernel) ?_ (by omega) (by omega)
  exact jT_ret rfl (by decide) (by show 16 ≤ 16; omega) (by omega) (by omega) ⟨rfl, rfl, rfl⟩
theorem jZ_202_32 {xs : List Int} {d : Nat} : jT xs (d + 1) 202 16 0 [(0, (4, 0)), (1, (0, 0))] [] jpZ_48 0 0 (fun k v hsN => k = 0 ∧ v = (9, 0) ∧ hsN = jpZ_48 ++ []) := by
  refine jT_advK 6 (pcN := 9) (LN := [(0, (4, 0)), (1, (0, 0))]) (stN := [(0, 0), (4, 1), (4, 0)]) (hsN := jpZ_48) (c1 := 0) (s1 := 0) (c2 := 0) (s2 := 0) (by decide +kernel) ?_ (by omega) (by omega)
  refine jT_fR [0, 1, 2, 3, 4, 5, 6, 7, 8, 9, 10, 11, 12, 13, 14, 15] 16 (y := 203) (pcN := 12) (dC := 0) (bc1 := 0) (bc2 := 0) (c1 := 0) (c2 := 0) (as := [(4, 0), (4, 1), (0, 0)]) (asC := [(4, 0), (4, 1), (0, 0)]) (LN := [(0, (4, 0)), (1, (0, 0))]) (stN := []) (hsC := jpZ_48) (v := (9, 0)) (st2 := []) (jZ_203_31 (d := 0)) (by rfl) (by rfl) (by decide +kernel) (by rfl) (by rfl) (by omega) (by omega) (by omega) (by omega) rfl ?_
  exact jT_ret rfl (by decide) (by show 16 ≤ 16; omega) (by omega) (by omega) ⟨rfl, rfl, rfl⟩
def jpZ_51 : List JC := [jzZ_46, jgh, jgh, jgh, jgh, jgh, jgh, (101, [], [0, 0, 0, 0, 0, 0]), jgh, jgh, jgh, jgh, jgh, jgh, jgh, jgh, (101, [], [0, 0, 0, 0, 0, 0])]
def jpZ_52 : List JC := [jzZ_46, jgh, jgh, jgh, jgh, jgh, jgh, (101, [], [0, 0, 0, 0, 0, 0]), jgh, jgh, jgh, jgh, jgh, jgh, jgh, jgh]
theorem jZ_218_33 {xs : List Int} {d : Nat} : jT xs d 218 16 0 [(0, (4, 0)), (1, (1, 1))] [] jpZ_52 1 6 (fun k v hsN => k = 0 ∧ v = (4, 16) ∧ hsN = jpZ_52 ++ [(101, [], [0, 0, 0, 0, 0, 0])]) := by
  refine jT_advK 93 (pcN := 35) (LN := [(4, (0, 6)), (3, (4, 16)), (0, (4, 0)), (1, (1, 1))]) (stN := [(4, 16)]) (hsN := jpZ_51) (c1 := 1) (s1 := 6) (c2 := 0) (s2 := 0) (by decide +kernel) ?_ (by omega) (by omega)
  exact jT_ret rfl (by decide) (by show 16 ≤ 17; omega) (by omega) (by omega) ⟨rfl, rfl, rfl⟩
theorem jZ_211_34 {xs : List Int} {d : Nat} : jT xs d 211 1 0 [(0, (4, 0))] [] [(101, [], [1, 0, 0, 0, 0, 0])] 0 0 (fun k v hsN => k = 0 ∧ v = (3, 4607182418800017408) ∧ hsN = [(101, [], [1, 0, 0, 0, 0, 0])] ++ []) := by
  refine jT_advK 3 (pcN := 3) (LN := [(0, (4, 0))]) (stN := [(1, 1)]) (hsN := [(101, [], [1, 0, 0, 0, 0, 0])]) (c1 := 0) (s1 := 0) (c2 := 0) (s2 := 0) (by decide +kernel) ?_ (by omega) (by omega)
  refine jT_l2d (x := 1) (z := 4607182418800017408) (by rfl) (by rfl) (by decide +kernel) ?_
  refine jT_advK 4 (pcN := 10) (LN := [(0, (4, 0))]) (stN := [(1, 0), (3, 4609816855700290920), (3, 4607182418800017408)]) (hsN := [(101, [], [1, 0, 0, 0, 0, 0])]) (c1 := 0) (s1 := 0) (c2 := 0) (s2 := 0) (by decide +kernel) ?_ (by omega) (by omega)
  refine jT_l2d (x := 0) (z := 0) (by rfl) (by rfl) (by decide +kernel) ?_
  refine jT_dmul (x := 4609816855700290920) (y := 0) (z := 0) (by rfl) (by rfl) (by decide +kernel) ?_
  refine jT_dadd (x := 4607182418800017408) (y := 0) (z := 4607182418800017408) (by rfl) (by rfl) (by decide +kernel) ?_
  refine jT_advK 4 (pcN := 19) (LN := [(0, (4, 0))]) (stN := [(1, 0), (3, 4612410936051475313), (3, 4607182418800017408)]) (hsN := [(101, [], [1, 0, 0, 0, 0, 0])]) (c1 := 0) (s1 := 0) (c2 := 0) (s2 := 0) (by decide +kernel) ?_ (by omega) (by omega)
  refine jT_l2d (x := 0) (z := 0) (by rfl) (by rfl) (by decide +kernel) ?_
  refine jT_dmul (x := 4612410936051475313) (y := 0) (z := 0) (by rfl) (by rfl) (by decide +kernel) ?_
  refine jT_dadd (x := 4607182418800017408) (y := 0) (z := 4607182418800017408) (by rfl) (by rfl) (by decide +kernel) ?_
  refine jT_advK 4 (pcN := 28) (LN := [(0, (4, 0))]) (stN := [(1, 0), (3, 4613504020090455085), (3, 4607182418800017408)]) (hsN := [(101, [], [1, 0, 0, 0, 0, 0])]) (c1 := 0) (s1 := 0) (c2 := 0) (s2 := 0) (by decide +kernel) ?_ (by omega) (by omega)
  refine jT_l2d (x := 0) (z := 0) (by rfl) (by rfl) (by decide +kernel) ?_
  refine jT_dmul (x := 4613504020090455085) (y := 0) (z := 0) (by rfl) (by rfl) (by decide +kernel) ?_
  refine jT_dadd (x := 4607182418800017408) (y := 0) (z := 4607182418800017408) (by rfl) (by rfl) (by decide +kernel) ?_
  refine jT_advK 4 (pcN := 37) (LN := [(0, (4, 0))]) (stN := [(1, 0), (3, 4614972366274321729), (3, 4607182418800017408)]) (hsN := [(101, [], [1, 0, 0, 0, 0, 0])]) (c1 := 0) (s1 := 0) (c2 := 0) (s2 := 0) (by decide +kernel) ?_ (by omega) (by omega)
  refine jT_l2d (x := 0) (z := 0) (by rfl) (by rfl) (by decide +kernel) ?_
  refine jT_dmul (x := 4614972366274321729) (y := 0) (z := 0) (by rfl) (by rfl) (by decide +kernel) ?_
  refine jT_dadd (x := 4607182418800017408) (y := 0) (z := 4607182418800017408) (by rfl) (by rfl) (by decide +kernel) ?_
  refine jT_advK 4 (pcN := 46) (LN := [(0, (4, 0))]) (stN := [(1, 0), (3, 4615515068267881011), (3, 4607182418800017408)]) (hsN := [(101, [], [1, 0, 0, 0, 0, 0])]) (c1 := 0) (s1 := 0) (c2 := 0) (s2 := 0) (by decide +kernel) ?_ (by omega) (by omega)
  refine jT_l2d (x := 0) (z := 0) (by rfl) (by rfl) (by decide +kernel) ?_
  refine jT_dmul (x := 4615515068267881011) (y := 0) (z := 0) (by rfl) (by rfl) (by decide +kernel) ?_
  refine jT_dadd (x := 4607182418800017408) (y := 0) (z := 4607182418800017408) (by rfl) (by rfl) (by decide +kernel) ?_
  exact jT_ret rfl (by decide) (by show 1 ≤ 1; omega) (by omega) (by omega) ⟨rfl, rfl, rfl⟩
theorem jZ_200_35 {xs : List Int} {d : Nat} : jT xs d 200 1 0 [(0, (4, 0))] [] [(101, [], [1, 0, 0, 0, 0, 0])] 0 0 (fun k v hsN => k = 0 ∧ v = (0, 0) ∧ hsN = [(101, [], [1, 0, 0, 0, 0, 0])] ++ []) := by
  refine jT_advK 12 (pcN := 17) (LN := [(1, (0, 0)), (0, (4, 0))]) (stN := [(0, 0)]) (hsN := [(101, [], [1, 0, 0, 0, 0, 0])]) (c1 := 0) (s1 := 0) (c2 := 0) (s2 := 0) (by decide +kernel) ?_ (by omega) (by omega)
  exact jT_ret rfl (by decide) (by show 1 ≤ 1; omega) (by omega) (by omega) ⟨rfl, rfl, rfl⟩
def jzZ_53 : JC := (14, [(0, 0), (4, 2), (4, 3), (4, 4), (4, 5), (0, 0), (4, 6), (0, 0), (4, 7), (4, 8), (1, 1), (4, 9), (0, 0), (4, 10), (0, 0), (0, 0), (0, 0), (0, 0), (0, 0), (0, 0), (0, 0), (4, 11), (4, 12), (4, 13), (4, 14), (4, 15), (4, 16), (0, 0)], [])
def jpZ_54 : List JC := [jzZ_53, (101, [], [1, 0, 0, 0, 0, 0]), jgh, jgh, jgh, jgh, jgh, (130, [], [17, 18, 19, 20, 21, 22]), jgh, jgh, jgh, jgh, jgh, jgh, jgh, jgh, jgh, (100, [], (jenc (jlg 0))), jgh, jgh, jgh, jgh, jgh, (100, [], List.replicate 56 0)]
def jpZ_55 : List JC := [jzZ_53, (101, [], [1, 0, 0, 0, 0, 0]), jgh, jgh, jgh, jgh, jgh, (130, [], [17, 18, 19, 20, 21, 22]), jgh, jgh, jgh, jgh, jgh, jgh, jgh, jgh, jgh, (100, [], (jenc (jlg 0))), jgh, jgh, jgh, jgh, jgh, (100, [], List.replicate 56 0), (100, [], (jenc 1))]
def jpZ_56 : List JC := [jzZ_53, (101, [], [1, 0, 0, 0, 0, 0]), jgh, jgh, jgh, jgh, jgh, (130, [], [17, 18, 19, 20, 21, 22]), jgh, jgh, jgh, jgh, jgh, jgh, jgh, jgh, jgh, (100, [], (jenc (jlg 0))), jgh, jgh, jgh, jgh, jgh, (100, [], List.replicate 56 0), (100, [], (jenc 1)), (100, [], (jenc (1 * (jlg 0))))]
def jpZ_57 : List JC := [jzZ_53, (101, [], [1, 0, 0, 0, 0, 0]), jgh, jgh, jgh, jgh, jgh, (130, [], [17, 18, 19, 20, 21, 22]), jgh, jgh, jgh, jgh, jgh, jgh, jgh, jgh, jgh, (100, [], (jenc (jlg 0))), jgh, jgh, jgh, jgh, jgh, (100, [], (jenc 0)), (100, [], (jenc 1)), (100, [], (jenc (1 * (jlg 0))))]
def jpZ_58 : List JC := [jzZ_53, (101, [], [1, 0, 0, 0, 0, 0]), jgh, jgh, jgh, jgh, jgh, (130, [], [17, 18, 19, 20, 21, 22]), jgh, jgh, jgh, jgh, jgh, jgh, jgh, jgh, jgh, (100, [], (jenc (jlg 0))), jgh, jgh, jgh, jgh, jgh]
theorem jZ_214_36 {xs : List Int} {d : Nat} : jT xs (d + 2) 214 23 0 [(0, (4, 0)), (1, (4, 1))] [] jpZ_58 3 168 (fun k v hsN => k = 0 ∧ v = (4, 25) ∧ hsN = jpZ_58 ++ [(100, [], (jenc 0)), (100, [], (jenc 1)), (100, [], (jenc (1 * (jlg 0))))]) := by
  refine jT_advK 18 (pcN := 25) (LN := [(3, (0, 0)), (2, (4, 23)), (0, (4, 0)), (1, (4, 1))]) (stN := [(1, 1), (4, 23)]) (hsN := jpZ_54) (c1 := 1) (s1 := 56) (c2 := 2) (s2 := 112) (by decide +kernel) ?_ (by omega) (by omega)
  refine jT_fA [] 24 (y := 178) (pcN := 28) (dC := 1) (bc1 := 1) (bc2 := 56) (c1 := 1) (c2 := 56) (as := [(1, 1)]) (asC := [(1, 1)]) (LN := [(3, (0, 0)), (2, (4, 23)), (0, (4, 0)), (1, (4, 1))]) (stN := [(4, 23)]) (hsC := []) (ex := [(100, [], (jenc 1))]) (v := (4, 0)) (st2 := [(4, 24), (4, 23)]) (hs2 := jpZ_55) (jT_big (d := 0) (v := 1) (by omega) (by omega)) (by rfl) (by rfl) (by decide +kernel) (by rfl) (by rfl) (by omega) (by omega) (by omega) (by omega) rfl (by decide +kernel) ?_
  refine jT_advK 4 (pcN := 34) (LN := [(3, (0, 0)), (2, (4, 23)), (0, (4, 0)), (1, (4, 1))]) (stN := [(4, 17), (4, 24), (4, 23)]) (hsN := jpZ_55) (c1 := 0) (s1 := 0) (c2 := 1) (s2 := 56) (by decide +kernel) ?_ (by omega) (by omega)
  refine jT_fA [24, 17] 25 (y := 179) (pcN := 37) (dC := 1) (bc1 := 1) (bc2 := 56) (c1 := 0) (c2 := 0) (as := [(4, 24), (4, 17)]) (asC := [(4, 0), (4, 1)]) (LN := [(3, (0, 0)), (2, (4, 23)), (0, (4, 0)), (1, (4, 1))]) (stN := [(4, 23)]) (hsC := [(100, [], (jenc 1)), (100, [], (jenc (jlg 0)))]) (ex := [(100, [], (jenc (1 * (jlg 0))))]) (v := (4, 2)) (st2 := [(4, 25), (4, 23)]) (hs2 := jpZ_56) (jT_product (d := 0) (a := 1) (b := jlg 0) (by decide +kernel) (by decide +kernel)) (by rfl) (by rfl) (by decide +kernel) (by rfl) (by rfl) (by omega) (by omega) (by omega) (by omega) rfl (by decide +kernel) ?_
  refine jT_eq (LN := [(3, (0, 0)), (2, (4, 23)), (0, (4, 0)), (1, (4, 1))]) (stN := [(4, 25), (4, 23)]) (hsN := [jzZ_53, (101, [], [1, 0, 0, 0, 0, 0]), jgh, jgh, jgh, jgh, jgh, (130, [], [17, 18, 19, 20, 21, 22]), jgh, jgh, jgh, jgh, jgh, jgh, jgh, jgh, jgh, (100, [], (jenc (jlg 0))), jgh, jgh, jgh, jgh, jgh, (100, [], (jenc 0)), (100, [], (jenc 1)), (100, [], (jenc (1 * (jlg 0))))]) rfl rfl (by show [jzZ_53, (101, [], [1, 0, 0, 0, 0, 0]), jgh, jgh, jgh, jgh, jgh, (130, [], [17, 18, 19, 20, 21, 22]), jgh, jgh, jgh, jgh, jgh, jgh, jgh, jgh, jgh, (100, [], (jenc (jlg 0))), jgh, jgh, jgh, jgh, jgh, (100, [], List.replicate 56 0), (100, [], (jenc 1)), (100, [], (jenc (1 * (jlg 0))))] = _; rw [jrep56e]) ?_
  refine jT_fR [23, 25] 26 (y := 181) (pcN := 40) (dC := 0) (bc1 := 0) (bc2 := 0) (c1 := 0) (c2 := 0) (as := [(4, 23), (4, 25)]) (asC := [(4, 0), (4, 1)]) (LN := [(3, (0, 0)), (2, (4, 23)), (0, (4, 0)), (1, (4, 1))]) (stN := []) (hsC := [(100, [], (jenc 0)), (100, [], (jenc (1 * (jlg 0))))]) (v := (4, 1)) (st2 := [(4, 25)]) (jT_added_0l (d := 0) (b := 1 * (jlg 0))) (by rfl) (by rfl) (by decide +kernel) (by rfl) (by rfl) (by omega) (by omega) (by omega) (by omega) rfl ?_
  refine jT_advK 62 (pcN := 48) (LN := [(3, (0, 6)), (2, (4, 25)), (0, (4, 0)), (1, (4, 1))]) (stN := [(4, 25)]) (hsN := jpZ_57) (c1 := 0) (s1 := 0) (c2 := 0) (s2 := 0) (by decide +kernel) ?_ (by omega) (by omega)
  exact jT_ret rfl (by decide) (by show 23 ≤ 26; omega) (by omega) (by omega) ⟨rfl, rfl, rfl⟩
theorem jIZ_213_17 : jmI (jm 213) 17 = (.iaload, 1) := by rfl
theorem jZ_213_37 {xs : List Int} {d : Nat} : jT xs (d + 3) 213 23 0 [(0, (4, 0)), (1, (4, 1))] [] jpZ_58 3 168 (fun k v hsN => k = 0 ∧ v = (0, 1) ∧ hsN = jpZ_58 ++ [(100, [], (jenc 0)), (100, [], (jenc 1)), (100, [], (jenc (1 * (jlg 0))))]) := by
  refine jT_advK 1 (pcN := 1) (LN := [(0, (4, 0)), (1, (4, 1))]) (stN := [(4, 1)]) (hsN := jpZ_58) (c1 := 0) (s1 := 0) (c2 := 3) (s2 := 168) (by decide +kernel) ?_ (by omega) (by omega)
  refine jT_fR [1] 23 (y := 200) (pcN := 4) (dC := 0) (bc1 := 0) (bc2 := 0) (c1 := 3) (c2 := 168) (as := [(4, 1)]) (asC := [(4, 0)]) (LN := [(0, (4, 0)), (1, (4, 1))]) (stN := []) (hsC := [(101, [], [1, 0, 0, 0, 0, 0])]) (v := (0, 0)) (st2 := [(0, 0)]) (jZ_200_35 (d := 0)) (by rfl) (by rfl) (by decide +kernel) (by rfl) (by rfl) (by omega) (by omega) (by omega) (by omega) rfl ?_
  refine jT_advK 3 (pcN := 13) (LN := [(0, (4, 0)), (1, (4, 1))]) (stN := [(4, 1), (4, 0)]) (hsN := jpZ_58) (c1 := 0) (s1 := 0) (c2 := 3) (s2 := 168) (by decide +kernel) ?_ (by omega) (by omega)
  refine jT_fA [0, 1, 2, 3, 4, 5, 6, 7, 8, 9, 10, 11, 12, 13, 14, 15, 16, 17, 18, 19, 20, 21, 22] 23 (y := 214) (pcN := 16) (dC := 2) (bc1 := 3) (bc2 := 168) (c1 := 0) (c2 := 0) (as := [(4, 0), (4, 1)]) (asC := [(4, 0), (4, 1)]) (LN := [(0, (4, 0)), (1, (4, 1))]) (stN := []) (hsC := jpZ_58) (ex := [(100, [], (jenc 0)), (100, [], (jenc 1)), (100, [], (jenc (1 * (jlg 0))))]) (v := (4, 25)) (st2 := [(4, 25)]) (hs2 := jpZ_57) (jZ_214_36 (d := 0)) (by rfl) (by rfl) (by decide +kernel) (by rfl) (by rfl) (by omega) (by omega) (by omega) (by omega) rfl (by decide +kernel) ?_
  refine jT_advK 1 (pcN := 17) (LN := [(0, (4, 0)), (1, (4, 1))]) (stN := [(0, 0), (4, 25)]) (hsN := jpZ_57) (c1 := 0) (s1 := 0) (c2 := 0) (s2 := 0) (by decide +kernel) ?_ (by omega) (by omega)
  refine jT_iald (x := 1) (a := 25) (j := 0) (fs := []) (X := (jenc (1 * (jlg 0)))) (by rfl) (by rfl) (by rfl) (by rfl) (jenc_sg (by decide +kernel)) ?_
  refine jT_eq (LN := [(0, (4, 0)), (1, (4, 1))]) (stN := [(0, 1)]) (hsN := jpZ_57) rfl rfl rfl ?_
  exact jT_ret rfl (by decide) (by show 23 ≤ 26; omega) (by omega) (by omega) ⟨rfl, rfl, rfl⟩
def jpZ_60 : List JC := [jzZ_53, (101, [], [1, 0, 0, 0, 0, 0]), jgh, jgh, jgh, jgh, jgh, (130, [], [17, 18, 19, 20, 21, 22]), jgh, jgh, jgh, jgh, jgh, jgh, jgh, jgh, jgh, (100, [], (jenc (jlg 0))), jgh, jgh, jgh, jgh, jgh, (101, [], [1, 0, 0, 0, 0, 0])]
def jpZ_61 : List JC := [jzZ_53, (101, [], [1, 0, 0, 0, 0, 0]), jgh, jgh, jgh, jgh, jgh, (130, [], [17, 18, 19, 20, 21, 22]), jgh, jgh, jgh, jgh, jgh, jgh, jgh, jgh, jgh, (100, [], (jenc (jlg 0))), jgh, jgh, jgh, jgh, jgh, (101, [], [1, 0, 0, 0, 0, 0]), (100, [], (jenc 0)), (100, [], (jenc 1)), (100, [], (jenc (1 * (jlg 0))))]
def jpZ_62 : List JC := [(101, [], [1, 0, 0, 0, 0, 0]), (100, [], (jenc 0)), (100, [], (jenc 1)), (100, [], (jenc (1 * (jlg 0))))]
theorem jZ_212_38 {xs : List Int} {d : Nat} : jT xs (d + 4) 212 23 0 [(0, (4, 0)), (1, (4, 1)), (2, (1, 0))] [] jpZ_58 4 174 (fun k v hsN => k = 0 ∧ v = (0, 1) ∧ hsN = jpZ_58 ++ jpZ_62) := by
  refine jT_advK 18 (pcN := 27) (LN := [(4, (4, 23)), (0, (4, 0)), (1, (4, 1)), (2, (1, 0))]) (stN := [(4, 23), (4, 0)]) (hsN := jpZ_60) (c1 := 1) (s1 := 6) (c2 := 3) (s2 := 168) (by decide +kernel) ?_ (by omega) (by omega)
  refine jT_fA [0, 23, 2, 3, 4, 5, 6, 7, 8, 9, 10, 11, 12, 13, 14, 15, 16, 17, 18, 19, 20, 21, 22] 24 (y := 213) (pcN := 30) (dC := 3) (bc1 := 3) (bc2 := 168) (c1 := 0) (c2 := 0) (as := [(4, 0), (4, 23)]) (asC := [(4, 0), (4, 1)]) (LN := [(4, (4, 23)), (0, (4, 0)), (1, (4, 1)), (2, (1, 0))]) (stN := []) (hsC := jpZ_58) (ex := [(100, [], (jenc 0)), (100, [], (jenc 1)), (100, [], (jenc (1 * (jlg 0))))]) (v := (0, 1)) (st2 := [(0, 1)]) (hs2 := jpZ_61) (jZ_213_37 (d := 0)) (by rfl) (by rfl) (by decide +kernel) (by rfl) (by rfl) (by omega) (by omega) (by omega) (by omega) rfl (by decide +kernel) ?_
  exact jT_ret rfl (by decide) (by show 23 ≤ 27; omega) (by omega) (by omega) ⟨rfl, rfl, rfl⟩
theorem jZ_200_39 {xs : List Int} {d : Nat} : jT xs d 200 1 0 [(0, (4, 0))] [] [(101, [], [(-1), 0, 0, 0, 0, 0])] 0 0 (fun k v hsN => k = 0 ∧ v = (0, 0) ∧ hsN = [(101, [], [(-1), 0, 0, 0, 0, 0])] ++ []) := by
  refine jT_advK 12 (pcN := 17) (LN := [(1, (0, 0)), (0, (4, 0))]) (stN := [(0, 0)]) (hsN := [(101, [], [(-1), 0, 0, 0, 0, 0])]) (c1 := 0) (s1 := 0) (c2 := 0) (s2 := 0) (by decide +kernel) ?_ (by omega) (by omega)
  exact jT_ret rfl (by decide) (by show 1 ≤ 1; omega) (by omega) (by omega) ⟨rfl, rfl, rfl⟩
def jpZ_63 : List JC := [jzZ_53, (101, [], [(-1), 0, 0, 0, 0, 0]), jgh, jgh, jgh, jgh, jgh, (130, [], [17, 18, 19, 20, 21, 22]), jgh, jgh, jgh, jgh, jgh, jgh, jgh, jgh, jgh, (100, [], (jenc (jlg 0))), jgh, jgh, jgh, jgh, jgh, (100, [], List.replicate 56 0)]
def jpZ_64 : List JC := [jzZ_53, (101, [], [(-1), 0, 0, 0, 0, 0]), jgh, jgh, jgh, jgh, jgh, (130, [], [17, 18, 19, 20, 21, 22]), jgh, jgh, jgh, jgh, jgh, jgh, jgh, jgh, jgh, (100, [], (jenc (jlg 0))), jgh, jgh, jgh, jgh, jgh, (100, [], List.replicate 56 0), (100, [], (jenc (-1)))]
def jpZ_65 : List JC := [jzZ_53, (101, [], [(-1), 0, 0, 0, 0, 0]), jgh, jgh, jgh, jgh, jgh, (130, [], [17, 18, 19, 20, 21, 22]), jgh, jgh, jgh, jgh, jgh, jgh, jgh, jgh, jgh, (100, [], (jenc (jlg 0))), jgh, jgh, jgh, jgh, jgh, (100, [], List.replicate 56 0), (100, [], (jenc (-1))), (100, [], (jenc ((-1) * (jlg 0))))]
def jpZ_66 : List JC := [jzZ_53, (101, [], [(-1), 0, 0, 0, 0, 0]), jgh, jgh, jgh, jgh, jgh, (130, [], [17, 18, 19, 20, 21, 22]), jgh, jgh, jgh, jgh, jgh, jgh, jgh, jgh, jgh, (100, [], (jenc (jlg 0))), jgh, jgh, jgh, jgh, jgh, (100, [], (jenc 0)), (100, [], (jenc (-1))), (100, [], (jenc ((-1) * (jlg 0))))]
def jpZ_67 : List JC := [jzZ_53, (101, [], [(-1), 0, 0, 0, 0, 0]), jgh, jgh, jgh, jgh, jgh, (130, [], [17, 18, 19, 20, 21, 22]), jgh, jgh, jgh, jgh, jgh, jgh, jgh, jgh, jgh, (100, [], (jenc (jlg 0))), jgh, jgh, jgh, jgh, jgh]
theorem jZ_214_40 {xs : List Int} {d : Nat} : jT xs (d + 2) 214 23 0 [(0, (4, 0)), (1, (4, 1))] [] jpZ_67 3 168 (fun k v hsN => k = 0 ∧ v = (4, 25) ∧ hsN = jpZ_67 ++ [(100, [], (jenc 0)), (100, [], (jenc (-1))), (100, [], (jenc ((-1) * (jlg 0))))]) := by
  refine jT_advK 18 (pcN := 25) (LN := [(3, (0, 0)), (2, (4, 23)), (0, (4, 0)), (1, (4, 1))]) (stN := [(1, (-1)), (4, 23)]) (hsN := jpZ_63) (c1 := 1) (s1 := 56) (c2 := 2) (s2 := 112) (by decide +kernel) ?_ (by omega) (by omega)
  refine jT_fA [] 24 (y := 178) (pcN := 28) (dC := 1) (bc1 := 1) (bc2 := 56) (c1 := 1) (c2 := 56) (as := [(1, (-1))]) (asC := [(1, (-1))]) (LN := [(3, (0, 0)), (2, (4, 23)), (0, (4, 0)), (1, (4, 1))]) (stN := [(4, 23)]) (hsC := []) (ex := [(100, [], (jenc (-1)))]) (v := (4, 0)) (st2 := [(4, 24), (4, 23)]) (hs2 := jpZ_64) (jT_big (d := 0) (v := (-1)) (by omega) (by omega)) (by rfl) (by rfl) (by decide +kernel) (by rfl) (by rfl) (by omega) (by omega) (by omega) (by omega) rfl (by decide +kernel) ?_
  refine jT_advK 4 (pcN := 34) (LN := [(3, (0, 0)), (2, (4, 23)), (0, (4, 0)), (1, (4, 1))]) (stN := [(4, 17), (4, 24), (4, 23)]) (hsN := jpZ_64) (c1 := 0) (s1 := 0) (c2 := 1) (s2 := 56) (by decide +kernel) ?_ (by omega) (by omega)
  refine jT_fA [24, 17] 25 (y := 179) (pcN := 37) (dC := 1) (bc1 := 1) (bc2 := 56) (c1 := 0) (c2 := 0) (as := [(4, 24), (4, 17)]) (asC := [(4, 0), (4, 1)]) (LN := [(3, (0, 0)), (2, (4, 23)), (0, (4, 0)), (1, (4, 1))]) (stN := [(4, 23)]) (hsC := [(100, [], (jenc (-1))), (100, [], (jenc (jlg 0)))]) (ex := [(100, [], (jenc ((-1) * (jlg 0))))]) (v := (4, 2)) (st2 := [(4, 25), (4, 23)]) (hs2 := jpZ_65) (jT_product (d := 0) (a := (-1)) (b := jlg 0) (by decide +kernel) (by decide +kernel)) (by rfl) (by rfl) (by decide +kernel) (by rfl) (by rfl) (by omega) (by omega) (by omega) (by omega) rfl (by decide +kernel) ?_
  refine jT_eq (LN := [(3, (0, 0)), (2, (4, 23)), (0, (4, 0)), (1, (4, 1))]) (stN := [(4, 25), (4, 23)]) (hsN := [jzZ_53, (101, [], [(-1), 0, 0, 0, 0, 0]), jgh, jgh, jgh, jgh, jgh, (130, [], [17, 18, 19, 20, 21, 22]), jgh, jgh, jgh, jgh, jgh, jgh, jgh, jgh, jgh, (100, [], (jenc (jlg 0))), jgh, jgh, jgh, jgh, jgh, (100, [], (jenc 0)), (100, [], (jenc (-1))), (100, [], (jenc ((-1) * (jlg 0))))]) rfl rfl (by show [jzZ_53, (101, [], [(-1), 0, 0, 0, 0, 0]), jgh, jgh, jgh, jgh, jgh, (130, [], [17, 18, 19, 20, 21, 22]), jgh, jgh, jgh, jgh, jgh, jgh, jgh, jgh, jgh, (100, [], (jenc (jlg 0))), jgh, jgh, jgh, jgh, jgh, (100, [], List.replicate 56 0), (100, [], (jenc (-1))), (100, [], (jenc ((-1) * (jlg 0))))] = _; rw [jrep56e]) ?_
  refine jT_fR [23, 25] 26 (y := 181) (pcN := 40) (dC := 0) (bc1 := 0) (bc2 := 0) (c1 := 0) (c2 := 0) (as := [(4, 23), (4, 25)]) (asC := [(4, 0), (4, 1)]) (LN := [(3, (0, 0)), (2, (4, 23)), (0, (4, 0)), (1, (4, 1))]) (stN := []) (hsC := [(100, [], (jenc 0)), (100, [], (jenc ((-1) * (jlg 0))))]) (v := (4, 1)) (st2 := [(4, 25)]) (jT_added_0l (d := 0) (b := (-1) * (jlg 0))) (by rfl) (by rfl) (by decide +kernel) (by rfl) (by rfl) (by omega) (by omega) (by omega) (by omega) rfl ?_
  refine jT_advK 62 (pcN := 48) (LN := [(3, (0, 6)), (2, (4, 25)), (0, (4, 0)), (1, (4, 1))]) (stN := [(4, 25)]) (hsN := jpZ_66) (c1 := 0) (s1 := 0) (c2 := 0) (s2 := 0) (by decide +kernel) ?_ (by omega) (by omega)
  exact jT_ret rfl (by decide) (by show 23 ≤ 26; omega) (by omega) (by omega) ⟨rfl, rfl, rfl⟩
theorem jZ_213_41 {xs : List Int} {d : Nat} : jT xs (d + 3) 213 23 0 [(0, (4, 0)), (1, (4, 1))] [] jpZ_67 3 168 (fun k v hsN => k = 0 ∧ v = (0, (-1)) ∧ hsN = jpZ_67 ++ [(100, [], (jenc 0)), (100, [], (jenc (-1))), (100, [], (jenc ((-1) * (jlg 0))))]) := by
  refine jT_advK 1 (pcN := 1) (LN := [(0, (4, 0)), (1, (4, 1))]) (stN := [(4, 1)]) (hsN := jpZ_67) (c1 := 0) (s1 := 0) (c2 := 3) (s2 := 168) (by decide +kernel) ?_ (by omega) (by omega)
  refine jT_fR [1] 23 (y := 200) (pcN := 4) (dC := 0) (bc1 := 0) (bc2 := 0) (c1 := 3) (c2 := 168) (as := [(4, 1)]) (asC := [(4, 0)]) (LN := [(0, (4, 0)), (1, (4, 1))]) (stN := []) (hsC := [(101, [], [(-1), 0, 0, 0, 0, 0])]) (v := (0, 0)) (st2 := [(0, 0)]) (jZ_200_39 (d := 0)) (by rfl) (by rfl) (by decide +kernel) (by rfl) (by rfl) (by omega) (by omega) (by omega) (by omega) rfl ?_
  refine jT_advK 3 (pcN := 13) (LN := [(0, (4, 0)), (1, (4, 1))]) (stN := [(4, 1), (4, 0)]) (hsN := jpZ_67) (c1 := 0) (s1 := 0) (c2 := 3) (s2 := 168) (by decide +kernel) ?_ (by omega) (by omega)
  refine jT_fA [0, 1, 2, 3, 4, 5, 6, 7, 8, 9, 10, 11, 12, 13, 14, 15, 16, 17, 18, 19, 20, 21, 22] 23 (y := 214) (pcN := 16) (dC := 2) (bc1 := 3) (bc2 := 168) (c1 := 0) (c2 := 0) (as := [(4, 0), (4, 1)]) (asC := [(4, 0), (4, 1)]) (LN := [(0, (4, 0)), (1, (4, 1))]) (stN := []) (hsC := jpZ_67) (ex := [(100, [], (jenc 0)), (100, [], (jenc (-1))), (100, [], (jenc ((-1) * (jlg 0))))]) (v := (4, 25)) (st2 := [(4, 25)]) (hs2 := jpZ_66) (jZ_214_40 (d := 0)) (by rfl) (by rfl) (by decide +kernel) (by rfl) (by rfl) (by omega) (by omega) (by omega) (by omega) rfl (by decide +kernel) ?_
  refine jT_advK 1 (pcN := 17) (LN := [(0, (4, 0)), (1, (4, 1))]) (stN := [(0, 0), (4, 25)]) (hsN := jpZ_66) (c1 := 0) (s1 := 0) (c2 := 0) (s2 := 0) (by decide +kernel) ?_ (by omega) (by omega)
  refine jT_iald (x := (-1)) (a := 25) (j := 0) (fs := []) (X := (jenc ((-1) * (jlg 0)))) (by rfl) (by rfl) (by rfl) (by rfl) (jenc_sg (by decide +kernel)) ?_
  refine jT_eq (LN := [(0, (4, 0)), (1, (4, 1))]) (stN := [(0, (-1))]) (hsN := jpZ_66) rfl rfl rfl ?_
  exact jT_ret rfl (by decide) (by show 23 ≤ 26; omega) (by omega) (by omega) ⟨rfl, rfl, rfl⟩
def jpZ_68 : List JC := [jzZ_53, (101, [], [1, 0, 0, 0, 0, 0]), jgh, jgh, jgh, jgh, jgh, (130, [], [17, 18, 19, 20, 21, 22]), jgh, jgh, jgh, jgh, jgh, jgh, jgh, jgh, jgh, (100, [], (jenc (jlg 0))), jgh, jgh, jgh, jgh, jgh, (101, [], [(-1), 0, 0, 0, 0, 0])]
def jpZ_69 : List JC := [jzZ_53, (101, [], [1, 0, 0, 0, 0, 0]), jgh, jgh, jgh, jgh, jgh, (130, [], [17, 18, 19, 20, 21, 22]), jgh, jgh, jgh, jgh, jgh, jgh, jgh, jgh, jgh, (100, [], (jenc (jlg 0))), jgh, jgh, jgh, jgh, jgh, (101, [], [(-1), 0, 0, 0, 0, 0]), (100, [], (jenc 0)), (100, [], (jenc (-1))), (100, [], (jenc ((-1) * (jlg 0))))]
def jpZ_70 : List JC := [(101, [], [(-1), 0, 0, 0, 0, 0]), (100, [], (jenc 0)), (100, [], (jenc (-1))), (100, [], (jenc ((-1) * (jlg 0))))]
theorem jZ_212_42 {xs : List Int} {d : Nat} : jT xs (d + 4) 212 23 0 [(0, (4, 0)), (1, (4, 1)), (2, (1, 2))] [] jpZ_58 4 174 (fun k v hsN => k = 0 ∧ v = (0, (-1)) ∧ hsN = jpZ_58 ++ jpZ_70) := by
  refine jT_advK 18 (pcN := 27) (LN := [(4, (4, 23)), (0, (4, 0)), (1, (4, 1)), (2, (1, 2))]) (stN := [(4, 23), (4, 0)]) (hsN := jpZ_68) (c1 := 1) (s1 := 6) (c2 := 3) (s2 := 168) (by decide +kernel) ?_ (by omega) (by omega)
  refine jT_fA [0, 23, 2, 3, 4, 5, 6, 7, 8, 9, 10, 11, 12, 13, 14, 15, 16, 17, 18, 19, 20, 21, 22] 24 (y := 213) (pcN := 30) (dC := 3) (bc1 := 3) (bc2 := 168) (c1 := 0) (c2 := 0) (as := [(4, 0), (4, 23)]) (asC := [(4, 0), (4, 1)]) (LN := [(4, (4, 23)), (0, (4, 0)), (1, (4, 1)), (2, (1, 2))]) (stN := []) (hsC := jpZ_67) (ex := [(100, [], (jenc 0)), (100, [], (jenc (-1))), (100, [], (jenc ((-1) * (jlg 0))))]) (v := (0, (-1))) (st2 := [(0, (-1))]) (hs2 := jpZ_69) (jZ_213_41 (d := 0)) (by rfl) (by rfl) (by decide +kernel) (by rfl) (by rfl) (by omega) (by omega) (by omega) (by omega) rfl (by decide +kernel) ?_
  exact jT_ret rfl (by decide) (by show 23 ≤ 27; omega) (by omega) (by omega) ⟨rfl, rfl, rfl⟩
def jpZ_71 : List JC := [jzZ_53, (101, [], [1, 0, 0, 0, 0, 0]), jgh, jgh, jgh, jgh, jgh, (130, [], [17, 18, 19, 20, 21, 22]), jgh, jgh, jgh, jgh, jgh, jgh, jgh, jgh, jgh, (100, [], (jenc (jlg 0))), jgh, jgh, jgh, jgh, jgh, (101, [], [1, 0, 0, 0, 0, 0]), (100, [], (jenc 0)), (100, [], (jenc 1)), (100, [], (jenc (1 * (jlg 0)))), (101, [], [(-1), 0, 0, 0, 0, 0]), (100, [], (jenc 0)), (100, [], (jenc (-1))), (100, [], (jenc ((-1) * (jlg 0))))]
def jpZ_72 : List JC := [(101, [], [1, 0, 0, 0, 0, 0]), (100, [], (jenc 0)), (100, [], (jenc 1)), (100, [], (jenc (1 * (jlg 0)))), (101, [], [(-1), 0, 0, 0, 0, 0]), (100, [], (jenc 0)), (100, [], (jenc (-1))), (100, [], (jenc ((-1) * (jlg 0))))]
theorem jZ_210_43 {xs : List Int} {d : Nat} : jT xs (d + 5) 210 23 0 [(0, (4, 0)), (1, (4, 1)), (2, (1, 2))] [] jpZ_58 8 348 (fun k v hsN => k = 0 ∧ v = (1, 0) ∧ hsN = jpZ_58 ++ jpZ_72) := by
  refine jT_advK 1 (pcN := 1) (LN := [(0, (4, 0)), (1, (4, 1)), (2, (1, 2))]) (stN := [(4, 1)]) (hsN := jpZ_58) (c1 := 0) (s1 := 0) (c2 := 8) (s2 := 348) (by decide +kernel) ?_ (by omega) (by omega)
  refine jT_fR [1] 23 (y := 211) (pcN := 4) (dC := 0) (bc1 := 0) (bc2 := 0) (c1 := 8) (c2 := 348) (as := [(4, 1)]) (asC := [(4, 0)]) (LN := [(0, (4, 0)), (1, (4, 1)), (2, (1, 2))]) (stN := []) (hsC := [(101, [], [1, 0, 0, 0, 0, 0])]) (v := (3, 4607182418800017408)) (st2 := [(3, 4607182418800017408)]) (jZ_211_34 (d := 0)) (by rfl) (by rfl) (by decide +kernel) (by rfl) (by rfl) (by omega) (by omega) (by omega) (by omega) rfl ?_
  refine jT_advK 1 (pcN := 5) (LN := [(0, (4, 0)), (1, (4, 1)), (2, (1, 2))]) (stN := [(1, 2), (3, 4607182418800017408)]) (hsN := jpZ_58) (c1 := 0) (s1 := 0) (c2 := 8) (s2 := 348) (by decide +kernel) ?_ (by omega) (by omega)
  refine jT_l2d (x := 2) (z := 4611686018427387904) (by rfl) (by rfl) (by decide +kernel) ?_
  refine jT_ddiv (x := 4607182418800017408) (y := 4611686018427387904) (z := 4602678819172646912) (by rfl) (by rfl) (by decide +kernel) ?_
  refine jT_d2l (x := 4602678819172646912) (z := 0) (by rfl) (by rfl) (by decide +kernel) ?_
  refine jT_advK 6 (pcN := 16) (LN := [(4, (1, 0)), (0, (4, 0)), (1, (4, 1)), (2, (1, 2))]) (stN := [(1, 0), (4, 1), (4, 0)]) (hsN := jpZ_58) (c1 := 0) (s1 := 0) (c2 := 8) (s2 := 348) (by decide +kernel) ?_ (by omega) (by omega)
  refine jT_fA [0, 1, 2, 3, 4, 5, 6, 7, 8, 9, 10, 11, 12, 13, 14, 15, 16, 17, 18, 19, 20, 21, 22] 23 (y := 212) (pcN := 19) (dC := 4) (bc1 := 4) (bc2 := 174) (c1 := 4) (c2 := 174) (as := [(4, 0), (4, 1), (1, 0)]) (asC := [(4, 0), (4, 1), (1, 0)]) (LN := [(4, (1, 0)), (0, (4, 0)), (1, (4, 1)), (2, (1, 2))]) (stN := []) (hsC := jpZ_58) (ex := jpZ_62) (v := (0, 1)) (st2 := [(0, 1)]) (hs2 := jpZ_61) (jZ_212_38 (d := 0)) (by rfl) (by rfl) (by decide +kernel) (by rfl) (by rfl) (by omega) (by omega) (by omega) (by omega) rfl (by decide +kernel) ?_
  refine jT_advK 8 (pcN := 39) (LN := [(4, (1, 0)), (0, (4, 0)), (1, (4, 1)), (2, (1, 2))]) (stN := [(1, 2), (4, 1), (4, 0)]) (hsN := jpZ_61) (c1 := 0) (s1 := 0) (c2 := 4) (s2 := 174) (by decide +kernel) ?_ (by omega) (by omega)
  refine jT_fA [0, 1, 2, 3, 4, 5, 6, 7, 8, 9, 10, 11, 12, 13, 14, 15, 16, 17, 18, 19, 20, 21, 22] 27 (y := 212) (pcN := 42) (dC := 4) (bc1 := 4) (bc2 := 174) (c1 := 0) (c2 := 0) (as := [(4, 0), (4, 1), (1, 2)]) (asC := [(4, 0), (4, 1), (1, 2)]) (LN := [(4, (1, 0)), (0, (4, 0)), (1, (4, 1)), (2, (1, 2))]) (stN := []) (hsC := jpZ_58) (ex := jpZ_70) (v := (0, (-1))) (st2 := [(0, (-1))]) (hs2 := jpZ_71) (jZ_212_42 (d := 0)) (by rfl) (by rfl) (by decide +kernel) (by rfl) (by rfl) (by omega) (by omega) (by omega) (by omega) rfl (by decide +kernel) ?_
  refine jT_advK 2 (pcN := 56) (LN := [(4, (1, 0)), (0, (4, 0)), (1, (4, 1)), (2, (1, 2))]) (stN := [(1, 0)]) (hsN := jpZ_71) (c1 := 0) (s1 := 0) (c2 := 0) (s2 := 0) (by decide +kernel) ?_ (by omega) (by omega)
  exact jT_ret rfl (by decide) (by show 23 ≤ 31; omega) (by omega) (by omega) ⟨rfl, rfl, rfl⟩
def jpZ_73 : List JC := [jzZ_53, (101, [], [0, 0, 0, 0, 0, 0]), jgh, jgh, jgh, jgh, jgh, (130, [], [17, 18, 19, 20, 21, 22]), jgh, jgh, jgh, jgh, jgh, jgh, jgh, jgh, jgh, (100, [], (jenc (jlg 0))), jgh, jgh, jgh, jgh, jgh, (101, [], [1, 0, 0, 0, 0, 0])]
def jpZ_74 : List JC := [jzZ_53, (101, [], [0, 0, 0, 0, 0, 0]), jgh, jgh, jgh, jgh, jgh, (130, [], [17, 18, 19, 20, 21, 22]), jgh, jgh, jgh, jgh, jgh, jgh, jgh, jgh, jgh, (100, [], (jenc (jlg 0))), jgh, jgh, jgh, jgh, jgh, (101, [], [1, 0, 0, 0, 0, 0]), (101, [], [1, 0, 0, 0, 0, 0]), (100, [], (jenc 0)), (100, [], (jenc 1)), (100, [], (jenc (1 * (jlg 0)))), (101, [], [(-1), 0, 0, 0, 0, 0]), (100, [], (jenc 0)), (100, [], (jenc (-1))), (100, [], (jenc ((-1) * (jlg 0))))]
def jpZ_75 : List JC := [jzZ_53, (101, [], [0, 0, 0, 0, 0, 0]), jgh, jgh, jgh, jgh, jgh, (130, [], [17, 18, 19, 20, 21, 22]), jgh, jgh, jgh, jgh, jgh, jgh, jgh, jgh, jgh, (100, [], (jenc (jlg 0))), jgh, jgh, jgh, jgh, jgh]
def jpZ_76 : List JC := [(101, [], [1, 0, 0, 0, 0, 0]), (101, [], [1, 0, 0, 0, 0, 0]), (100, [], (jenc 0)), (100, [], (jenc 1)), (100, [], (jenc (1 * (jlg 0)))), (101, [], [(-1), 0, 0, 0, 0, 0]), (100, [], (jenc 0)), (100, [], (jenc (-1))), (100, [], (jenc ((-1) * (jlg 0))))]
theorem jZ_216_44 {xs : List Int} {d : Nat} : jT xs (d + 6) 216 23 0 [(0, (4, 0)), (1, (4, 1)), (2, (1, 1))] [] jpZ_75 9 354 (fun k v hsN => k = 0 ∧ v = (1, 0) ∧ hsN = jpZ_75 ++ jpZ_76) := by
  refine jT_advK 98 (pcN := 51) (LN := [(5, (0, 6)), (4, (4, 23)), (0, (4, 0)), (1, (4, 1)), (2, (1, 1))]) (stN := [(1, 2), (4, 23), (4, 0)]) (hsN := jpZ_73) (c1 := 1) (s1 := 6) (c2 := 8) (s2 := 348) (by decide +kernel) ?_ (by omega) (by omega)
  refine jT_fA [0, 23, 2, 3, 4, 5, 6, 7, 8, 9, 10, 11, 12, 13, 14, 15, 16, 17, 18, 19, 20, 21, 22] 24 (y := 210) (pcN := 54) (dC := 5) (bc1 := 8) (bc2 := 348) (c1 := 0) (c2 := 0) (as := [(4, 0), (4, 23), (1, 2)]) (asC := [(4, 0), (4, 1), (1, 2)]) (LN := [(5, (0, 6)), (4, (4, 23)), (0, (4, 0)), (1, (4, 1)), (2, (1, 1))]) (stN := []) (hsC := jpZ_58) (ex := jpZ_72) (v := (1, 0)) (st2 := [(1, 0)]) (hs2 := jpZ_74) (jZ_210_43 (d := 0)) (by rfl) (by rfl) (by decide +kernel) (by rfl) (by rfl) (by omega) (by omega) (by omega) (by omega) rfl (by decide +kernel) ?_
  exact jT_ret rfl (by decide) (by show 23 ≤ 32; omega) (by omega) (by omega) ⟨rfl, rfl, rfl⟩
theorem jIZ_218_0 : jmI (jm 218) 0 = (.bipush 6, 2) := by rfl
theorem jIZ_218_4 : jmI (jm 218) 4 = (.astore_n 3, 1) := by rfl
theorem jIZ_218_5 : jmI (jm 218) 5 = (.iconst 0, 1) := by rfl
theorem jIZ_218_6 : jmI (jm 218) 6 = (.istore 4, 2) := by rfl
theorem jIZ_218_8 : jmI (jm 218) 8 = (.iload 4, 2) := by rfl
theorem jIZ_218_10 : jmI (jm 218) 10 = (.bipush 6, 2) := by rfl
theorem jIZ_218_12 : jmI (jm 218) 12 = (.if_icmp .ge 22, 3) := by rfl
theorem jIZ_218_15 : jmI (jm 218) 15 = (.aload_n 3, 1) := by rfl
theorem jIZ_218_16 : jmI (jm 218) 16 = (.iload 4, 2) := by rfl
theorem jIZ_218_18 : jmI (jm 218) 18 = (.lload_n 1, 1) := by rfl
theorem jIZ_218_19 : jmI (jm 218) 19 = (.aload_n 0, 1) := by rfl
theorem jIZ_218_20 : jmI (jm 218) 20 = (.getfield 31, 3) := by rfl
theorem jIZ_218_23 : jmI (jm 218) 23 = (.iload 4, 2) := by rfl
theorem jIZ_218_25 : jmI (jm 218) 25 = (.laload, 1) := by rfl
theorem jIZ_218_26 : jmI (jm 218) 26 = (.lmul, 1) := by rfl
theorem jIZ_218_28 : jmI (jm 218) 28 = (.iinc 4 1, 3) := by rfl
theorem jIZ_218_31 : jmI (jm 218) 31 = (.goto (-23), 3) := by rfl
theorem jIZ_218_34 : jmI (jm 218) 34 = (.aload_n 3, 1) := by rfl
theorem jZ_218_45 {xs : List Int} {d : Nat} {t : Int} (h_t : 2 ≤ t ∧ t ≤ 2000) : jT xs d 218 16 0 [(0, (4, 0)), (1, (1, t))] [] jpZ_52 1 6 (fun k v hsN => k = 0 ∧ v = (4, 16) ∧ hsN = jpZ_52 ++ [(101, [], [0, 0, 0, 0, 0, 0])]) := by
  refine jT_xbipush (k := 6) (pcN := 2) jIZ_218_0 (by decide) rfl ?_
  refine jT_adv 1 (pcN := 4) (LN := [(0, (4, 0)), (1, (1, t))]) (stN := [(4, 16)]) (hsN := jpZ_51) (c1 := 1) (s1 := 6) (c2 := 0) (s2 := 0) (by exact rfl) ?_ (by omega) (by omega)
  refine jT_xastore_n (v := (4, 16)) (LN := [(3, (4, 16)), (0, (4, 0)), (1, (1, t))]) (pcN := 5) jIZ_218_4 rfl rfl rfl rfl ?_
  refine jT_xiconst (k := 0) (pcN := 6) jIZ_218_5 rfl ?_
  refine jT_xistore (v := (0, 0)) (LN := [(4, (0, 0)), (3, (4, 16)), (0, (4, 0)), (1, (1, t))]) (pcN := 8) jIZ_218_6 rfl rfl rfl rfl ?_
  refine jT_xiload (v := (0, 0)) (pcN := 10) jIZ_218_8 rfl rfl rfl ?_
  refine jT_xbipush (k := 6) (pcN := 12) jIZ_218_10 (by decide) rfl ?_
  refine jT_xicF (t := 34) (pcN := 15) jIZ_218_12 rfl (by decide +kernel) rfl rfl ?_
  refine jT_xaload_n (v := (4, 16)) (pcN := 16) jIZ_218_15 rfl rfl rfl ?_
  refine jT_xiload (v := (0, 0)) (pcN := 18) jIZ_218_16 rfl rfl rfl ?_
  refine jT_xlload_n (v := (1, t)) (pcN := 19) jIZ_218_18 rfl rfl rfl ?_
  refine jT_xaload_n (v := (4, 0)) (pcN := 20) jIZ_218_19 rfl rfl rfl ?_
  refine jT_xgetf (a := 0) (t := 1) (ci := 14) (fi := 9) (c := jzZ_46) (v := (4, 7)) (pcN := 23) jIZ_218_20 rfl rfl rfl rfl rfl rfl rfl ?_
  refine jT_xiload (v := (0, 0)) (pcN := 25) jIZ_218_23 rfl rfl rfl ?_
  refine jT_lald (x := 0) (a := 7) (j := 0) (fs := []) (X := [0, 0, 0, 0, 0, 0]) jIZ_218_25 rfl rfl rfl rfl ?_
  refine jT_eq (LN := [(4, (0, 0)), (3, (4, 16)), (0, (4, 0)), (1, (1, t))]) (stN := [(1, 0), (1, t), (0, 0), (4, 16)]) (hsN := jpZ_51) rfl rfl rfl ?_
  refine jT_xlmul (x := t) (y := 0) (z := 0) (pcN := 27) jIZ_218_26 rfl (by omega) rfl ?_
  refine jT_adv 1 (pcN := 28) (LN := [(4, (0, 0)), (3, (4, 16)), (0, (4, 0)), (1, (1, t))]) (stN := []) (hsN := jpZ_51) (c1 := 0) (s1 := 0) (c2 := 0) (s2 := 0) (by exact rfl) ?_ (by omega) (by omega)
  refine jT_xiinc (x := 0) (z := 1) (LN := [(4, (0, 1)), (3, (4, 16)), (0, (4, 0)), (1, (1, t))]) (pcN := 31) jIZ_218_28 rfl rfl (by decide) rfl rfl ?_
  refine jT_xgoto (pcN := 8) jIZ_218_31 rfl ?_
  refine jT_xiload (v := (0, 1)) (pcN := 10) jIZ_218_8 rfl rfl rfl ?_
  refine jT_xbipush (k := 6) (pcN := 12) jIZ_218_10 (by decide) rfl ?_
  refine jT_xicF (t := 34) (pcN := 15) jIZ_218_12 rfl (by decide +kernel) rfl rfl ?_
  refine jT_xaload_n (v := (4, 16)) (pcN := 16) jIZ_218_15 rfl rfl rfl ?_
  refine jT_xiload (v := (0, 1)) (pcN := 18) jIZ_218_16 rfl rfl rfl ?_
  refine jT_xlload_n (v := (1, t)) (pcN := 19) jIZ_218_18 rfl rfl rfl ?_
  refine jT_xaload_n (v := (4, 0)) (pcN := 20) jIZ_218_19 rfl rfl rfl ?_
  refine jT_xgetf (a := 0) (t := 1) (ci := 14) (fi := 9) (c := jzZ_46) (v := (4, 7)) (pcN := 23) jIZ_218_20 rfl rfl rfl rfl rfl rfl rfl ?_
  refine jT_xiload (v := (0, 1)) (pcN := 25) jIZ_218_23 rfl rfl rfl ?_
  refine jT_lald (x := 0) (a := 7) (j := 1) (fs := []) (X := [0, 0, 0, 0, 0, 0]) jIZ_218_25 rfl rfl rfl rfl ?_
  refine jT_eq (LN := [(4, (0, 1)), (3, (4, 16)), (0, (4, 0)), (1, (1, t))]) (stN := [(1, 0), (1, t), (0, 1), (4, 16)]) (hsN := jpZ_51) rfl rfl rfl ?_
  refine jT_xlmul (x := t) (y := 0) (z := 0) (pcN := 27) jIZ_218_26 rfl (by omega) rfl ?_
  refine jT_adv 1 (pcN := 28) (LN := [(4, (0, 1)), (3, (4, 16)), (0, (4, 0)), (1, (1, t))]) (stN := []) (hsN := jpZ_51) (c1 := 0) (s1 := 0) (c2 := 0) (s2 := 0) (by exact rfl) ?_ (by omega) (by omega)
  refine jT_xiinc (x := 1) (z := 2) (LN := [(4, (0, 2)), (3, (4, 16)), (0, (4, 0)), (1, (1, t))]) (pcN := 31) jIZ_218_28 rfl rfl (by decide) rfl rfl ?_
  refine jT_xgoto (pcN := 8) jIZ_218_31 rfl ?_
  refine jT_xiload (v := (0, 2)) (pcN := 10) jIZ_218_8 rfl rfl rfl ?_
  refine jT_xbipush (k := 6) (pcN := 12) jIZ_218_10 (by decide) rfl ?_
  refine jT_xicF (t := 34) (pcN := 15) jIZ_218_12 rfl (by decide +kernel) rfl rfl ?_
  refine jT_xaload_n (v := (4, 16)) (pcN := 16) jIZ_218_15 rfl rfl rfl ?_
  refine jT_xiload (v := (0, 2)) (pcN := 18) jIZ_218_16 rfl rfl rfl ?_
  refine jT_xlload_n (v := (1, t)) (pcN := 19) jIZ_218_18 rfl rfl rfl ?_
  refine jT_xaload_n (v := (4, 0)) (pcN := 20) jIZ_218_19 rfl rfl rfl ?_
  refine jT_xgetf (a := 0) (t := 1) (ci := 14) (fi := 9) (c := jzZ_46) (v := (4, 7)) (pcN := 23) jIZ_218_20 rfl rfl rfl rfl rfl rfl rfl ?_
  refine jT_xiload (v := (0, 2)) (pcN := 25) jIZ_218_23 rfl rfl rfl ?_
  refine jT_lald (x := 0) (a := 7) (j := 2) (fs := []) (X := [0, 0, 0, 0, 0, 0]) jIZ_218_25 rfl rfl rfl rfl ?_
  refine jT_eq (LN := [(4, (0, 2)), (3, (4, 16)), (0, (4, 0)), (1, (1, t))]) (stN := [(1, 0), (1, t), (0, 2), (4, 16)]) (hsN := jpZ_51) rfl rfl rfl ?_
  refine jT_xlmul (x := t) (y := 0) (z := 0) (pcN := 27) jIZ_218_26 rfl (by omega) rfl ?_
  refine jT_adv 1 (pcN := 28) (LN := [(4, (0, 2)), (3, (4, 16)), (0, (4, 0)), (1, (1, t))]) (stN := []) (hsN := jpZ_51) (c1 := 0) (s1 := 0) (c2 := 0) (s2 := 0) (by exact rfl) ?_ (by omega) (by omega)
  refine jT_xiinc (x := 2) (z := 3) (LN := [(4, (0, 3)), (3, (4, 16)), (0, (4, 0)), (1, (1, t))]) (pcN := 31) jIZ_218_28 rfl rfl (by decide) rfl rfl ?_
  refine jT_xgoto (pcN := 8) jIZ_218_31 rfl ?_
  refine jT_xiload (v := (0, 3)) (pcN := 10) jIZ_218_8 rfl rfl rfl ?_
  refine jT_xbipush (k := 6) (pcN := 12) jIZ_218_10 (by decide) rfl ?_
  refine jT_xicF (t := 34) (pcN := 15) jIZ_218_12 rfl (by decide +kernel) rfl rfl ?_
  refine jT_xaload_n (v := (4, 16)) (pcN := 16) jIZ_218_15 rfl rfl rfl ?_
  refine jT_xiload (v := (0, 3)) (pcN := 18) jIZ_218_16 rfl rfl rfl ?_
  refine jT_xlload_n (v := (1, t)) (pcN := 19) jIZ_218_18 rfl rfl rfl ?_
  refine jT_xaload_n (v := (4, 0)) (pcN := 20) jIZ_218_19 rfl rfl rfl ?_
  refine jT_xgetf (a := 0) (t := 1) (ci := 14) (fi := 9) (c := jzZ_46) (v := (4, 7)) (pcN := 23) jIZ_218_20 rfl rfl rfl rfl rfl rfl rfl ?_
  refine jT_xiload (v := (0, 3)) (pcN := 25) jIZ_218_23 rfl rfl rfl ?_
  refine jT_lald (x := 0) (a := 7) (j := 3) (fs := []) (X := [0, 0, 0, 0, 0, 0]) jIZ_218_25 rfl rfl rfl rfl ?_
  refine jT_eq (LN := [(4, (0, 3)), (3, (4, 16)), (0, (4, 0)), (1, (1, t))]) (stN := [(1, 0), (1, t), (0, 3), (4, 16)]) (hsN := jpZ_51) rfl rfl rfl ?_
  refine jT_xlmul (x := t) (y := 0) (z := 0) (pcN := 27) jIZ_218_26 rfl (by omega) rfl ?_
  refine jT_adv 1 (pcN := 28) (LN := [(4, (0, 3)), (3, (4, 16)), (0, (4, 0)), (1, (1, t))]) (stN := []) (hsN := jpZ_51) (c1 := 0) (s1 := 0) (c2 := 0) (s2 := 0) (by exact rfl) ?_ (by omega) (by omega)
  refine jT_xiinc (x := 3) (z := 4) (LN := [(4, (0, 4)), (3, (4, 16)), (0, (4, 0)), (1, (1, t))]) (pcN := 31) jIZ_218_28 rfl rfl (by decide) rfl rfl ?_
  refine jT_xgoto (pcN := 8) jIZ_218_31 rfl ?_
  refine jT_xiload (v := (0, 4)) (pcN := 10) jIZ_218_8 rfl rfl rfl ?_
  refine jT_xbipush (k := 6) (pcN := 12) jIZ_218_10 (by decide) rfl ?_
  refine jT_xicF (t := 34) (pcN := 15) jIZ_218_12 rfl (by decide +kernel) rfl rfl ?_
  refine jT_xaload_n (v := (4, 16)) (pcN := 16) jIZ_218_15 rfl rfl rfl ?_
  refine jT_xiload (v := (0, 4)) (pcN := 18) jIZ_218_16 rfl rfl rfl ?_
  refine jT_xlload_n (v := (1, t)) (pcN := 19) jIZ_218_18 rfl rfl rfl ?_
  refine jT_xaload_n (v := (4, 0)) (pcN := 20) jIZ_218_19 rfl rfl rfl ?_
  refine jT_xgetf (a := 0) (t := 1) (ci := 14) (fi := 9) (c := jzZ_46) (v := (4, 7)) (pcN := 23) jIZ_218_20 rfl rfl rfl rfl rfl rfl rfl ?_
  refine jT_xiload (v := (0, 4)) (pcN := 25) jIZ_218_23 rfl rfl rfl ?_
  refine jT_lald (x := 0) (a := 7) (j := 4) (fs := []) (X := [0, 0, 0, 0, 0, 0]) jIZ_218_25 rfl rfl rfl rfl ?_
  refine jT_eq (LN := [(4, (0, 4)), (3, (4, 16)), (0, (4, 0)), (1, (1, t))]) (stN := [(1, 0), (1, t), (0, 4), (4, 16)]) (hsN := jpZ_51) rfl rfl rfl ?_
  refine jT_xlmul (x := t) (y := 0) (z := 0) (pcN := 27) jIZ_218_26 rfl (by omega) rfl ?_
  refine jT_adv 1 (pcN := 28) (LN := [(4, (0, 4)), (3, (4, 16)), (0, (4, 0)), (1, (1, t))]) (stN := []) (hsN := jpZ_51) (c1 := 0) (s1 := 0) (c2 := 0) (s2 := 0) (by exact rfl) ?_ (by omega) (by omega)
  refine jT_xiinc (x := 4) (z := 5) (LN := [(4, (0, 5)), (3, (4, 16)), (0, (4, 0)), (1, (1, t))]) (pcN := 31) jIZ_218_28 rfl rfl (by decide) rfl rfl ?_
  refine jT_xgoto (pcN := 8) jIZ_218_31 rfl ?_
  refine jT_xiload (v := (0, 5)) (pcN := 10) jIZ_218_8 rfl rfl rfl ?_
  refine jT_xbipush (k := 6) (pcN := 12) jIZ_218_10 (by decide) rfl ?_
  refine jT_xicF (t := 34) (pcN := 15) jIZ_218_12 rfl (by decide +kernel) rfl rfl ?_
  refine jT_xaload_n (v := (4, 16)) (pcN := 16) jIZ_218_15 rfl rfl rfl ?_
  refine jT_xiload (v := (0, 5)) (pcN := 18) jIZ_218_16 rfl rfl rfl ?_
  refine jT_xlload_n (v := (1, t)) (pcN := 19) jIZ_218_18 rfl rfl rfl ?_
  refine jT_xaload_n (v := (4, 0)) (pcN := 20) jIZ_218_19 rfl rfl rfl ?_
  refine jT_xgetf (a := 0) (t := 1) (ci := 14) (fi := 9) (c := jzZ_46) (v := (4, 7)) (pcN := 23) jIZ_218_20 rfl rfl rfl rfl rfl rfl rfl ?_
  refine jT_xiload (v := (0, 5)) (pcN := 25) jIZ_218_23 rfl rfl rfl ?_
  refine jT_lald (x := 0) (a := 7) (j := 5) (fs := []) (X := [0, 0, 0, 0, 0, 0]) jIZ_218_25 rfl rfl rfl rfl ?_
  refine jT_eq (LN := [(4, (0, 5)), (3, (4, 16)), (0, (4, 0)), (1, (1, t))]) (stN := [(1, 0), (1, t), (0, 5), (4, 16)]) (hsN := jpZ_51) rfl rfl rfl ?_
  refine jT_xlmul (x := t) (y := 0) (z := 0) (pcN := 27) jIZ_218_26 rfl (by omega) rfl ?_
  refine jT_adv 1 (pcN := 28) (LN := [(4, (0, 5)), (3, (4, 16)), (0, (4, 0)), (1, (1, t))]) (stN := []) (hsN := jpZ_51) (c1 := 0) (s1 := 0) (c2 := 0) (s2 := 0) (by exact rfl) ?_ (by omega) (by omega)
  refine jT_xiinc (x := 5) (z := 6) (LN := [(4, (0, 6)), (3, (4, 16)), (0, (4, 0)), (1, (1, t))]) (pcN := 31) jIZ_218_28 rfl rfl (by decide) rfl rfl ?_
  refine jT_xgoto (pcN := 8) jIZ_218_31 rfl ?_
  refine jT_xiload (v := (0, 6)) (pcN := 10) jIZ_218_8 rfl rfl rfl ?_
  refine jT_xbipush (k := 6) (pcN := 12) jIZ_218_10 (by decide) rfl ?_
  refine jT_xicT (pcN := 34) jIZ_218_12 rfl (by decide +kernel) rfl ?_
  refine jT_xaload_n (v := (4, 16)) (pcN := 35) jIZ_218_34 rfl rfl rfl ?_
  exact jT_ret rfl (by decide) (by show 16 ≤ 17; omega) (by omega) (by omega) ⟨rfl, rfl, rfl⟩
theorem jZ_200_46 {xs : List Int} {d : Nat} : jT xs d 200 1 0 [(0, (4, 0))] [] [(101, [], [0, 0, 0, 0, 0, 0])] 0 0 (fun k v hsN => k = 0 ∧ v = (0, 1) ∧ hsN = [(101, [], [0, 0, 0, 0, 0, 0])] ++ []) := by
  refine jT_advK 72 (pcN := 25) (LN := [(1, (0, 6)), (0, (4, 0))]) (stN := [(0, 1)]) (hsN := [(101, [], [0, 0, 0, 0, 0, 0])]) (c1 := 0) (s1 := 0) (c2 := 0) (s2 := 0) (by decide +kernel) ?_ (by omega) (by omega)
  exact jT_ret rfl (by decide) (by show 1 ≤ 1; omega) (by omega) (by omega) ⟨rfl, rfl, rfl⟩
theorem jZ_213_47 {xs : List Int} {d : Nat} : jT xs (d + 1) 213 2 0 [(0, (4, 0)), (1, (4, 1))] [] [jgh, (101, [], [0, 0, 0, 0, 0, 0])] 0 0 (fun k v hsN => k = 0 ∧ v = (0, 0) ∧ hsN = [jgh, (101, [], [0, 0, 0, 0, 0, 0])] ++ []) := by
  refine jT_advK 1 (pcN := 1) (LN := [(0, (4, 0)), (1, (4, 1))]) (stN := [(4, 1)]) (hsN := [jgh, (101, [], [0, 0, 0, 0, 0, 0])]) (c1 := 0) (s1 := 0) (c2 := 0) (s2 := 0) (by decide +kernel) ?_ (by omega) (by omega)
  refine jT_fR [1] 2 (y := 200) (pcN := 4) (dC := 0) (bc1 := 0) (bc2 := 0) (c1 := 0) (c2 := 0) (as := [(4, 1)]) (asC := [(4, 0)]) (LN := [(0, (4, 0)), (1, (4, 1))]) (stN := []) (hsC := [(101, [], [0, 0, 0, 0, 0, 0])]) (v := (0, 1)) (st2 := [(0, 1)]) (jZ_200_46 (d := 0)) (by rfl) (by rfl) (by decide +kernel) (by rfl) (by rfl) (by omega) (by omega) (by omega) (by omega) rfl ?_
  refine jT_advK 3 (pcN := 18) (LN := [(0, (4, 0)), (1, (4, 1))]) (stN := [(0, 0)]) (hsN := [jgh, (101, [], [0, 0, 0, 0, 0, 0])]) (c1 := 0) (s1 := 0) (c2 := 0) (s2 := 0) (by decide +kernel) ?_ (by omega) (by omega)
  exact jT_ret rfl (by decide) (by show 2 ≤ 2; omega) (by omega) (by omega) ⟨rfl, rfl, rfl⟩
def jzZ_95 : JC := (14, [(0, 0), (4, 3), (4, 4), (4, 5), (4, 6), (0, 0), (4, 7), (0, 0), (4, 8), (4, 9), (1, 1), (4, 10), (0, 0), (4, 11), (0, 0), (0, 0), (0, 0), (0, 0), (0, 0), (0, 0), (0, 0), (4, 12), (4, 13), (4, 14), (4, 15), (4, 16), (4, 17), (0, 0)], [])
def jpZ_96 : List JC := [jzZ_95, (101, [], [0, 0, 0, 0, 0, 0]), (101, [], [0, 0, 0, 0, 0, 0]), jgh, jgh, jgh, jgh, jgh, jgh, jgh, jgh, jgh, jgh, jgh, jgh, jgh, jgh, jgh]
def jpZ_97 : List JC := [jzZ_95, (101, [], [0, 0, 0, 0, 0, 0]), (101, [], [0, 0, 0, 0, 0, 0]), jgh, jgh, jgh, jgh, jgh, jgh, jgh, jgh, jgh, jgh, jgh, jgh, jgh, jgh, jgh, (101, [], [0, 0, 0, 0, 0, 0])]
theorem jZ_288_48 {xs : List Int} {d : Nat} : jT xs (d + 2) 288 18 0 [(0, (4, 0)), (1, (4, 1)), (2, (4, 2))] [] jpZ_96 1 6 (fun k v hsN => k = 0 ∧ v = (0, 0) ∧ hsN = jpZ_96 ++ [(101, [], [0, 0, 0, 0, 0, 0])]) := by
  refine jT_advK 2 (pcN := 2) (LN := [(0, (4, 0)), (1, (4, 1)), (2, (4, 2))]) (stN := [(4, 1), (4, 0)]) (hsN := jpZ_96) (c1 := 0) (s1 := 0) (c2 := 1) (s2 := 6) (by decide +kernel) ?_ (by omega) (by omega)
  refine jT_fR [0, 1] 18 (y := 213) (pcN := 5) (dC := 1) (bc1 := 0) (bc2 := 0) (c1 := 1) (c2 := 6) (as := [(4, 0), (4, 1)]) (asC := [(4, 0), (4, 1)]) (LN := [(0, (4, 0)), (1, (4, 1)), (2, (4, 2))]) (stN := []) (hsC := [jgh, (101, [], [0, 0, 0, 0, 0, 0])]) (v := (0, 0)) (st2 := [(0, 0)]) (jZ_213_47 (d := 0)) (by rfl) (by rfl) (by decide +kernel) (by rfl) (by rfl) (by omega) (by omega) (by omega) (by omega) rfl ?_
  refine jT_advK 5 (pcN := 18) (LN := [(3, (1, 1)), (0, (4, 0)), (1, (4, 1)), (2, (4, 2))]) (stN := [(4, 2), (4, 0)]) (hsN := jpZ_96) (c1 := 0) (s1 := 0) (c2 := 1) (s2 := 6) (by decide +kernel) ?_ (by omega) (by omega)
  refine jT_fR [0, 2] 18 (y := 213) (pcN := 21) (dC := 1) (bc1 := 0) (bc2 := 0) (c1 := 1) (c2 := 6) (as := [(4, 0), (4, 2)]) (asC := [(4, 0), (4, 1)]) (LN := [(3, (1, 1)), (0, (4, 0)), (1, (4, 1)), (2, (4, 2))]) (stN := []) (hsC := [jgh, (101, [], [0, 0, 0, 0, 0, 0])]) (v := (0, 0)) (st2 := [(0, 0)]) (jZ_213_47 (d := 0)) (by rfl) (by rfl) (by decide +kernel) (by rfl) (by rfl) (by omega) (by omega) (by omega) (by omega) rfl ?_
  refine jT_advK 127 (pcN := 77) (LN := [(8, (0, 6)), (7, (4, 18)), (5, (1, 1)), (3, (1, 1)), (0, (4, 0)), (1, (4, 1)), (2, (4, 2))]) (stN := [(4, 18), (4, 0)]) (hsN := jpZ_97) (c1 := 1) (s1 := 6) (c2 := 0) (s2 := 0) (by decide +kernel) ?_ (by omega) (by omega)
  refine jT_fR [0, 18] 19 (y := 213) (pcN := 80) (dC := 1) (bc1 := 0) (bc2 := 0) (c1 := 0) (c2 := 0) (as := [(4, 0), (4, 18)]) (asC := [(4, 0), (4, 1)]) (LN := [(8, (0, 6)), (7, (4, 18)), (5, (1, 1)), (3, (1, 1)), (0, (4, 0)), (1, (4, 1)), (2, (4, 2))]) (stN := []) (hsC := [jgh, (101, [], [0, 0, 0, 0, 0, 0])]) (v := (0, 0)) (st2 := [(0, 0)]) (jZ_213_47 (d := 0)) (by rfl) (by rfl) (by decide +kernel) (by rfl) (by rfl) (by omega) (by omega) (by omega) (by omega) rfl ?_
  exact jT_ret rfl (by decide) (by show 18 ≤ 19; omega) (by omega) (by omega) ⟨rfl, rfl, rfl⟩
def jzZ_98 : JC := (14, [(0, 3), (4, 1), (4, 2), (4, 3), (4, 4), (0, 0), (4, 5), (0, 0), (4, 6), (4, 7), (1, 1), (4, 8), (0, 0), (4, 9), (0, 0), (0, 0), (0, 0), (0, 0), (0, 0), (0, 0), (0, 0), (4, 10), (4, 11), (4, 12), (4, 13), (4, 14), (4, 15), (0, 0)], [])
def jpZ_99 : List JC := [jzZ_98, jgh, jgh, jgh, jgh, jgh, jgh, jgh, jgh, jgh, jgh, jgh, jgh, jgh, jgh, jgh]
theorem jZ_191_49 {xs : List Int} {d : Nat} : jT xs d 191 16 0 [(0, (4, 0)), (1, (0, 0)), (2, (0, 3))] [] jpZ_47 0 0 (fun k v hsN => k = 0 ∧ v = (0, 1) ∧ hsN = jpZ_99) := by
  refine jT_advK 9 (pcN := 18) (LN := [(0, (4, 0)), (1, (0, 0)), (2, (0, 3))]) (stN := [(0, 1)]) (hsN := jpZ_99) (c1 := 0) (s1 := 0) (c2 := 0) (s2 := 0) (by decide +kernel) ?_ (by omega) (by omega)
  exact jT_ret rfl (by decide) (by show 16 ≤ 16; omega) (by omega) (by omega) ⟨rfl, rfl, rfl⟩
def jpZ_100 : List JC := [jzZ_46, (100, [], jS0), jgh, jgh, jgh, jgh, (130, [], [16, 17, 18, 19, 20, 21]), (101, [], [0, 0, 0, 0, 0, 0]), jgh, jgh, jgh, jgh, jgh, jgh, jgh, jgh, (100, [], (jenc (jlg 0))), jgh, jgh, jgh, jgh, jgh]
def jpZ_101 : List JC := [jzZ_46, (100, [], jS0), jgh, jgh, jgh, jgh, (130, [], [16, 17, 18, 19, 20, 21]), (101, [], [0, 0, 0, 0, 0, 0]), jgh, jgh, jgh, jgh, jgh, jgh, jgh, jgh, (100, [], (jenc (jlg 0))), jgh, jgh, jgh, jgh, jgh, (101, [], [0, 0, 0, 0, 0, 0])]
def jpZ_102 : List JC := [jzZ_46, (100, [], jS0), jgh, jgh, jgh, jgh, (130, [], [16, 17, 18, 19, 20, 21]), (101, [], [0, 0, 0, 0, 0, 0]), jgh, jgh, jgh, jgh, jgh, jgh, jgh, jgh, (100, [], (jenc (jlg 0))), jgh, jgh, jgh, jgh, jgh, (101, [], [0, 0, 0, 0, 0, 0]), (101, [], [0, 0, 0, 0, 0, 0])]
def jpZ_103 : List JC := [jzZ_46, (100, [], jS0), jgh, jgh, jgh, jgh, (130, [], [16, 17, 18, 19, 20, 21]), (101, [], [0, 0, 0, 0, 0, 0]), jgh, jgh, jgh, jgh, jgh, jgh, jgh, jgh, (100, [], (jenc (jlg 0))), jgh, jgh, jgh, jgh, jgh, (101, [], [0, 0, 0, 0, 0, 0]), (101, [], [0, 0, 0, 0, 0, 0]), (101, [], [1, 0, 0, 0, 0, 0]), (101, [], [1, 0, 0, 0, 0, 0]), (100, [], (jenc 0)), (100, [], (jenc 1)), (100, [], (jenc (1 * (jlg 0)))), (101, [], [(-1), 0, 0, 0, 0, 0]), (100, [], (jenc 0)), (100, [], (jenc (-1))), (100, [], (jenc ((-1) * (jlg 0))))]
theorem jIZ_287_59 : jmI (jm 287) 59 = (.iload 6, 2) := by rfl
theorem jIZ_287_61 : jmI (jm 287) 61 = (.iload_n 3, 1) := by rfl
theorem jIZ_287_62 : jmI (jm 287) 62 = (.if_icmp .gt 75, 3) := by rfl
theorem jIZ_287_65 : jmI (jm 287) 65 = (.aload_n 0, 1) := by rfl
theorem jIZ_287_66 : jmI (jm 287) 66 = (.iload 6, 2) := by rfl
theorem jIZ_287_68 : jmI (jm 287) 68 = (.i2l, 1) := by rfl
def jpZ_110 : List JC := [jzZ_46, (100, [], jS0), jgh, jgh, jgh, jgh, (130, [], [16, 17, 18, 19, 20, 21]), (101, [], [0, 0, 0, 0, 0, 0]), jgh, jgh, jgh, jgh, jgh, jgh, jgh, jgh, (100, [], (jenc (jlg 0))), jgh, jgh, jgh, jgh, jgh, (101, [], [0, 0, 0, 0, 0, 0]), (101, [], [0, 0, 0, 0, 0, 0]), (101, [], [1, 0, 0, 0, 0, 0]), (101, [], [1, 0, 0, 0, 0, 0]), (100, [], (jenc 0)), (100, [], (jenc 1)), (100, [], (jenc (1 * (jlg 0)))), (101, [], [(-1), 0, 0, 0, 0, 0]), (100, [], (jenc 0)), (100, [], (jenc (-1))), (100, [], (jenc ((-1) * (jlg 0)))), (101, [], [0, 0, 0, 0, 0, 0])]
theorem jIZ_287_72 : jmI (jm 287) 72 = (.astore 7, 2) := by rfl
theorem jIZ_287_74 : jmI (jm 287) 74 = (.aload 7, 2) := by rfl
theorem jIZ_287_76 : jmI (jm 287) 76 = (.iconst 0, 1) := by rfl
theorem jIZ_287_78 : jmI (jm 287) 78 = (.laload, 1) := by rfl
theorem jIZ_287_79 : jmI (jm 287) 79 = (.aload_n 0, 1) := by rfl
theorem jIZ_287_80 : jmI (jm 287) 80 = (.aload 7, 2) := by rfl
theorem jIZ_287_82 : jmI (jm 287) 82 = (.aload_n 0, 1) := by rfl
theorem jIZ_287_83 : jmI (jm 287) 83 = (.getfield 35, 3) := by rfl
def jpZ_119 : List JC := [jzZ_46, (100, [], jS0), jgh, jgh, jgh, jgh, (130, [], [16, 17, 18, 19, 20, 21]), (101, [], [0, 0, 0, 0, 0, 0]), jgh, jgh, jgh, jgh, jgh, jgh, jgh, jgh, (100, [], (jenc (jlg 0))), jgh, jgh, jgh, jgh, jgh, (101, [], [0, 0, 0, 0, 0, 0]), (101, [], [0, 0, 0, 0, 0, 0]), (101, [], [1, 0, 0, 0, 0, 0]), (101, [], [1, 0, 0, 0, 0, 0]), (100, [], (jenc 0)), (100, [], (jenc 1)), (100, [], (jenc (1 * (jlg 0)))), (101, [], [(-1), 0, 0, 0, 0, 0]), (100, [], (jenc 0)), (100, [], (jenc (-1))), (100, [], (jenc ((-1) * (jlg 0)))), (101, [], [0, 0, 0, 0, 0, 0]), (101, [], [1, 0, 0, 0, 0, 0]), (101, [], [1, 0, 0, 0, 0, 0]), (100, [], (jenc 0)), (100, [], (jenc 1)), (100, [], (jenc (1 * (jlg 0)))), (101, [], [(-1), 0, 0, 0, 0, 0]), (100, [], (jenc 0)), (100, [], (jenc (-1))), (100, [], (jenc ((-1) * (jlg 0))))]
theorem jIZ_287_89 : jmI (jm 287) 89 = (.aload_n 0, 1) := by rfl
theorem jIZ_287_90 : jmI (jm 287) 90 = (.getfield 35, 3) := by rfl
theorem jIZ_287_93 : jmI (jm 287) 93 = (.lmul, 1) := by rfl
theorem jIZ_287_94 : jmI (jm 287) 94 = (.lsub, 1) := by rfl
theorem jIZ_287_96 : jmI (jm 287) 96 = (.iload 6, 2) := by rfl
theorem jIZ_287_98 : jmI (jm 287) 98 = (.iconst 1, 1) := by rfl
theorem jIZ_287_99 : jmI (jm 287) 99 = (.if_icmp .le 17, 3) := by rfl
theorem jIZ_287_102 : jmI (jm 287) 102 = (.aload_n 0, 1) := by rfl
theorem jIZ_287_103 : jmI (jm 287) 103 = (.aload 7, 2) := by rfl
theorem jIZ_287_105 : jmI (jm 287) 105 = (.aload 4, 2) := by rfl
def jpZ_130 : List JC := [jzZ_46, (100, [], jS0), jgh, jgh, jgh, jgh, (130, [], [16, 17, 18, 19, 20, 21]), (101, [], [0, 0, 0, 0, 0, 0]), jgh, jgh, jgh, jgh, jgh, jgh, jgh, jgh, (100, [], (jenc (jlg 0))), jgh, jgh, jgh, jgh, jgh, (101, [], [0, 0, 0, 0, 0, 0]), (101, [], [0, 0, 0, 0, 0, 0]), (101, [], [1, 0, 0, 0, 0, 0]), (101, [], [1, 0, 0, 0, 0, 0]), (100, [], (jenc 0)), (100, [], (jenc 1)), (100, [], (jenc (1 * (jlg 0)))), (101, [], [(-1), 0, 0, 0, 0, 0]), (100, [], (jenc 0)), (100, [], (jenc (-1))), (100, [], (jenc ((-1) * (jlg 0)))), (101, [], [0, 0, 0, 0, 0, 0]), (101, [], [1, 0, 0, 0, 0, 0]), (101, [], [1, 0, 0, 0, 0, 0]), (100, [], (jenc 0)), (100, [], (jenc 1)), (100, [], (jenc (1 * (jlg 0)))), (101, [], [(-1), 0, 0, 0, 0, 0]), (100, [], (jenc 0)), (100, [], (jenc (-1))), (100, [], (jenc ((-1) * (jlg 0)))), (101, [], [0, 0, 0, 0, 0, 0])]
theorem jIZ_287_110 : jmI (jm 287) 110 = (.ifCond .lt 6, 3) := by rfl
theorem jIZ_287_113 : jmI (jm 287) 113 = (.goto 18, 3) := by rfl
theorem jIZ_287_131 : jmI (jm 287) 131 = (.iinc 6 1, 3) := by rfl
theorem jIZ_287_134 : jmI (jm 287) 134 = (.goto (-75), 3) := by rfl
def jpZ_135 : List JC := [(101, [], [0, 0, 0, 0, 0, 0]), (101, [], [1, 0, 0, 0, 0, 0]), (101, [], [1, 0, 0, 0, 0, 0]), (100, [], (jenc 0)), (100, [], (jenc 1)), (100, [], (jenc (1 * (jlg 0)))), (101, [], [(-1), 0, 0, 0, 0, 0]), (100, [], (jenc 0)), (100, [], (jenc (-1))), (100, [], (jenc ((-1) * (jlg 0)))), (101, [], [0, 0, 0, 0, 0, 0])]
theorem jZl_gc_50 {xs : List Int} {d b1 b2 : Nat} {Q : Nat → JV → List JC → Prop} (hd : 7 < d) {z3 y5 : Int} (h_z3 : 1 ≤ z3 ∧ z3 ≤ 2000) (h_y5 : 0 ≤ y5 ∧ y5 ≤ 2147483647) (h : jT xs d 287 22 137 [(0, (4, 0))] [] [jzZ_46, (100, [], jS0), jgh, jgh, jgh, jgh, (130, [], [16, 17, 18, 19, 20, 21]), (101, [], [0, 0, 0, 0, 0, 0]), jgh, jgh, jgh, jgh, jgh, jgh, jgh, jgh, (100, [], (jenc (jlg 0))), jgh, jgh, jgh, jgh, jgh, (101, [], [0, 0, 0, 0, 0, 0]), (101, [], [0, 0, 0, 0, 0, 0]), (101, [], [1, 0, 0, 0, 0, 0]), (101, [], [1, 0, 0, 0, 0, 0]), (100, [], (jenc 0)), (100, [], (jenc 1)), (100, [], (jenc (1 * (jlg 0)))), (101, [], [(-1), 0, 0, 0, 0, 0]), (100, [], (jenc 0)), (100, [], (jenc (-1))), (100, [], (jenc ((-1) * (jlg 0))))] b1 b2 Q) : ∀ (q : Nat) (t : Int), 2 ≤ t → t + (q : Int) = z3 + 1 → jT xs d 287 22 59 [(6, (0, t)), (5, (0, y5)), (4, (4, 23)), (0, (4, 0)), (3, (0, z3))] [] [jzZ_46, (100, [], jS0), jgh, jgh, jgh, jgh, (130, [], [16, 17, 18, 19, 20, 21]), (101, [], [0, 0, 0, 0, 0, 0]), jgh, jgh, jgh, jgh, jgh, jgh, jgh, jgh, (100, [], (jenc (jlg 0))), jgh, jgh, jgh, jgh, jgh, (101, [], [0, 0, 0, 0, 0, 0]), (101, [], [0, 0, 0, 0, 0, 0]), (101, [], [1, 0, 0, 0, 0, 0]), (101, [], [1, 0, 0, 0, 0, 0]), (100, [], (jenc 0)), (100, [], (jenc 1)), (100, [], (jenc (1 * (jlg 0)))), (101, [], [(-1), 0, 0, 0, 0, 0]), (100, [], (jenc 0)), (100, [], (jenc (-1))), (100, [], (jenc ((-1) * (jlg 0))))] (b1 + 11 * q) (b2 + 366 * q) Q := by
  intro q
  induction q with
  | zero =>
    intro t h0 ht
    have e : t = z3 + 1 := by omega
    subst t
    refine jT.mono (b1 := b1) (b2 := b2) ?_ (Nat.le_refl _) (by omega) (by omega) (fun _ _ _ z => z)
    refine jT_xiload (v := (0, z3 + 1)) (pcN := 61) jIZ_287_59 rfl rfl rfl ?_
    refine jT_xiload_n (v := (0, z3)) (pcN := 62) jIZ_287_61 rfl rfl rfl ?_
    refine jT_icT (a := z3 + 1) (b := z3) (t := 137) (by rfl) (by rfl) (by rfl) (jw_idd (by omega) (by omega)) (jw_idd (by omega) (by omega)) (by simp only [jcP] <;> omega) ?_
    refine jT_loc (LN := [(0, (4, 0))]) (by show List.Nodup [0]; decide) (by intro q hq; simp only [List.mem_cons, List.not_mem_nil, or_false] at hq; rcases hq with rfl <;> rfl) ?_
    exact h
  | succ q ih =>
    intro t h0 ht
    have h_t : 2 ≤ t ∧ t ≤ 2000 := by omega
    have g_0 : t - z3 ≤ 0 := by omega
    refine jT.mono (b1 := b1 + 11 * q + 11) (b2 := b2 + 366 * q + 366) ?_ (Nat.le_refl _) (by omega) (by omega) (fun _ _ _ z => z)
    refine jT_xiload (v := (0, t)) (pcN := 61) jIZ_287_59 rfl rfl rfl ?_
    refine jT_xiload_n (v := (0, z3)) (pcN := 62) jIZ_287_61 rfl rfl rfl ?_
    refine jT_icF (a := t) (b := z3) (t := 137) (by rfl) (by rfl) (by rfl) (jw_idd (by omega) (by omega)) (jw_idd (by omega) (by omega)) (by simp only [jcP] <;> omega) ?_
    refine jT_xaload_n (v := (4, 0)) (pcN := 66) jIZ_287_65 rfl rfl rfl ?_
    refine jT_xiload (v := (0, t)) (pcN := 68) jIZ_287_66 rfl rfl rfl ?_
    refine jT_xi2l (x := t) (z := t) (pcN := 69) jIZ_287_68 rfl (jw_idd (by omega) (by omega)) rfl ?_
    refine jT_fA [0, 1, 2, 3, 4, 5, 6, 7, 8, 9, 10, 11, 12, 13, 14, 15] 33 (y := 218) (pcN := 72) (dC := 0) (bc1 := 1) (bc2 := 6) (c1 := (b1 + 11 * q + 10)) (c2 := (b2 + 366 * q + 360)) (as := [(4, 0), (1, t)]) (asC := [(4, 0), (1, t)]) (LN := [(6, (0, t)), (5, (0, y5)), (4, (4, 23)), (0, (4, 0)), (3, (0, z3))]) (stN := []) (hsC := jpZ_52) (ex := [(101, [], [0, 0, 0, 0, 0, 0])]) (v := (4, 16)) (st2 := [(4, 33)]) (hs2 := jpZ_110) (jZ_218_45 (d := 0) (by omega)) (by rfl) (by rfl) (by decide +kernel) (by rfl) (by rfl) (by omega) (by omega) (by omega) (by omega) rfl (by decide +kernel) ?_
    refine jT_xastore (v := (4, 33)) (LN := [(7, (4, 33)), (6, (0, t)), (5, (0, y5)), (4, (4, 23)), (0, (4, 0)), (3, (0, z3))]) (pcN := 74) jIZ_287_72 rfl rfl rfl rfl ?_
    refine jT_xaload (v := (4, 33)) (pcN := 76) jIZ_287_74 rfl rfl rfl ?_
    refine jT_xiconst (k := 0) (pcN := 77) jIZ_287_76 rfl ?_
    refine jT_adv 1 (pcN := 78) (LN := [(7, (4, 33)), (6, (0, t)), (5, (0, y5)), (4, (4, 23)), (0, (4, 0)), (3, (0, z3))]) (stN := [(0, 0), (4, 33), (0, 0), (4, 33)]) (hsN := jpZ_110) (c1 := 0) (s1 := 0) (c2 := (b1 + 11 * q + 10)) (s2 := (b2 + 366 * q + 360)) (by exact rfl) ?_ (by omega) (by omega)
    refine jT_lald (x := 0) (a := 33) (j := 0) (fs := []) (X := [0, 0, 0, 0, 0, 0]) jIZ_287_78 rfl rfl rfl rfl ?_
    refine jT_eq (LN := [(7, (4, 33)), (6, (0, t)), (5, (0, y5)), (4, (4, 23)), (0, (4, 0)), (3, (0, z3))]) (stN := [(1, 0), (0, 0), (4, 33)]) (hsN := jpZ_110) rfl rfl rfl ?_
    refine jT_xaload_n (v := (4, 0)) (pcN := 80) jIZ_287_79 rfl rfl rfl ?_
    refine jT_xaload (v := (4, 33)) (pcN := 82) jIZ_287_80 rfl rfl rfl ?_
    refine jT_xaload_n (v := (4, 0)) (pcN := 83) jIZ_287_82 rfl rfl rfl ?_
    refine jT_xgetf (a := 0) (t := 1) (ci := 14) (fi := 10) (c := jzZ_46) (v := (1, 1)) (pcN := 86) jIZ_287_83 rfl rfl rfl rfl rfl rfl rfl ?_
    refine jT_fA [0, 33, 1, 2, 3, 4, 5, 6, 7, 8, 9, 10, 11, 12, 13, 14, 15, 16, 17, 18, 19, 20, 21] 34 (y := 216) (pcN := 89) (dC := 6) (bc1 := 9) (bc2 := 354) (c1 := (b1 + 11 * q + 1)) (c2 := (b2 + 366 * q + 6)) (as := [(4, 0), (4, 33), (1, 1)]) (asC := [(4, 0), (4, 1), (1, 1)]) (LN := [(7, (4, 33)), (6, (0, t)), (5, (0, y5)), (4, (4, 23)), (0, (4, 0)), (3, (0, z3))]) (stN := [(1, 0), (0, 0), (4, 33)]) (hsC := jpZ_75) (ex := jpZ_76) (v := (1, 0)) (st2 := [(1, 0), (1, 0), (0, 0), (4, 33)]) (hs2 := jpZ_119) (jZ_216_44 (d := 0)) (by rfl) (by rfl) (by decide +kernel) (by rfl) (by rfl) (by omega) (by omega) (by omega) (by omega) rfl (by decide +kernel) ?_
    refine jT_xaload_n (v := (4, 0)) (pcN := 90) jIZ_287_89 rfl rfl rfl ?_
    refine jT_xgetf (a := 0) (t := 1) (ci := 14) (fi := 10) (c := jzZ_46) (v := (1, 1)) (pcN := 93) jIZ_287_90 rfl rfl rfl rfl rfl rfl rfl ?_
    refine jT_xlmul (x := 0) (y := 1) (z := 0) (pcN := 94) jIZ_287_93 rfl (by decide) rfl ?_
    refine jT_xlsub (x := 0) (y := 0) (z := 0) (pcN := 95) jIZ_287_94 rfl (by decide) rfl ?_
    refine jT_adv 1 (pcN := 96) (LN := [(7, (4, 33)), (6, (0, t)), (5, (0, y5)), (4, (4, 23)), (0, (4, 0)), (3, (0, z3))]) (stN := []) (hsN := jpZ_119) (c1 := 0) (s1 := 0) (c2 := (b1 + 11 * q + 1)) (s2 := (b2 + 366 * q + 6)) (by exact rfl) ?_ (by omega) (by omega)
    refine jT_xiload (v := (0, t)) (pcN := 98) jIZ_287_96 rfl rfl rfl ?_
    refine jT_xiconst (k := 1) (pcN := 99) jIZ_287_98 rfl ?_
    refine jT_icF (a := t) (b := 1) (t := 116) (by rfl) (by rfl) (by rfl) (jw_idd (by omega) (by omega)) (jw_idd (by omega) (by omega)) (by simp only [jcP] <;> omega) ?_
    refine jT_xaload_n (v := (4, 0)) (pcN := 103) jIZ_287_102 rfl rfl rfl ?_
    refine jT_xaload (v := (4, 33)) (pcN := 105) jIZ_287_103 rfl rfl rfl ?_
    refine jT_xaload (v := (4, 23)) (pcN := 107) jIZ_287_105 rfl rfl rfl ?_
    refine jT_fA [0, 33, 23, 1, 2, 3, 4, 5, 6, 7, 8, 9, 10, 11, 12, 13, 14, 15] 43 (y := 288) (pcN := 110) (dC := 2) (bc1 := 1) (bc2 := 6) (c1 := (b1 + 11 * q + 0)) (c2 := (b2 + 366 * q + 0)) (as := [(4, 0), (4, 33), (4, 23)]) (asC := [(4, 0), (4, 1), (4, 2)]) (LN := [(7, (4, 33)), (6, (0, t)), (5, (0, y5)), (4, (4, 23)), (0, (4, 0)), (3, (0, z3))]) (stN := []) (hsC := jpZ_96) (ex := [(101, [], [0, 0, 0, 0, 0, 0])]) (v := (0, 0)) (st2 := [(0, 0)]) (hs2 := jpZ_130) (jZ_288_48 (d := 0)) (by rfl) (by rfl) (by decide +kernel) (by rfl) (by rfl) (by omega) (by omega) (by omega) (by omega) rfl (by decide +kernel) ?_
    refine jT_xifF (t := 116) (pcN := 113) jIZ_287_110 rfl (by decide +kernel) rfl rfl ?_
    refine jT_xgoto (pcN := 131) jIZ_287_113 rfl ?_
    refine jT_xiinc (x := t) (z := t + 1) (LN := [(6, (0, t + 1)), (7, (4, 33)), (5, (0, y5)), (4, (4, 23)), (0, (4, 0)), (3, (0, z3))]) (pcN := 134) jIZ_287_131 rfl rfl (rfl) rfl rfl ?_
    refine jT_xgoto (pcN := 59) jIZ_287_134 rfl ?_
    refine jT_loc (LN := [(6, (0, t + 1)), (5, (0, y5)), (4, (4, 23)), (0, (4, 0)), (3, (0, z3))]) (by show List.Nodup [6, 5, 4, 0, 3]; decide) (by intro q hq; simp only [List.mem_cons, List.not_mem_nil, or_false] at hq; rcases hq with rfl | rfl | rfl | rfl | rfl <;> rfl) ?_
    refine jT_drop 33 (hs0 := jpZ_103) (ex := jpZ_135) rfl rfl rfl (by decide) ?_
    exact ih (t + 1) (by omega) (by omega)
def jpZ_136 : List JC := [jzZ_98, (100, [], jS0), jgh, jgh, jgh, jgh, (130, [], [16, 17, 18, 19, 20, 21]), (101, [], [0, 0, 0, 0, 0, 0]), jgh, jgh, jgh, jgh, jgh, jgh, jgh, jgh, (100, [], (jenc (jlg 0))), jgh, jgh, jgh, jgh, jgh, (101, [], [0, 0, 0, 0, 0, 0]), (101, [], [0, 0, 0, 0, 0, 0]), (101, [], [1, 0, 0, 0, 0, 0]), (101, [], [1, 0, 0, 0, 0, 0]), (100, [], (jenc 0)), (100, [], (jenc 1)), (100, [], (jenc (1 * (jlg 0)))), (101, [], [(-1), 0, 0, 0, 0, 0]), (100, [], (jenc 0)), (100, [], (jenc (-1))), (100, [], (jenc ((-1) * (jlg 0))))]
theorem jZ_287_51 {xs : List Int} {d : Nat} : jT xs (d + 8) 287 22 0 [(0, (4, 0)), (1, (0, 0)), (2, (0, 2147483647)), (3, (0, 2000))] [] jpZ_100 22000 732000 (fun k v hsN => k = 0 ∧ v = (0, 0) ∧ hsN = jpZ_136) := by
  refine jT_advK 2 (pcN := 2) (LN := [(0, (4, 0)), (1, (0, 0)), (2, (0, 2147483647)), (3, (0, 2000))]) (stN := [(0, 0), (4, 0)]) (hsN := jpZ_100) (c1 := 0) (s1 := 0) (c2 := 22000) (s2 := 732000) (by decide +kernel) ?_ (by omega) (by omega)
  refine jT_fR [] 22 (y := 188) (pcN := 5) (dC := 1) (bc1 := 0) (bc2 := 0) (c1 := 22000) (c2 := 732000) (as := [(0, 0)]) (asC := [(0, 0)]) (LN := [(0, (4, 0)), (1, (0, 0)), (2, (0, 2147483647)), (3, (0, 2000))]) (stN := [(4, 0)]) (hsC := []) (v := (0, 1)) (st2 := [(0, 1), (4, 0)]) (jZ_188_26 (d := 0)) (by rfl) (by rfl) (by decide +kernel) (by rfl) (by rfl) (by omega) (by omega) (by omega) (by omega) rfl ?_
  refine jT_fR [0, 1, 2, 3, 4, 5, 6, 7, 8, 9, 10, 11, 12, 13, 14, 15] 22 (y := 190) (pcN := 8) (dC := 1) (bc1 := 0) (bc2 := 0) (c1 := 22000) (c2 := 732000) (as := [(4, 0), (0, 1)]) (asC := [(4, 0), (0, 1)]) (LN := [(0, (4, 0)), (1, (0, 0)), (2, (0, 2147483647)), (3, (0, 2000))]) (stN := []) (hsC := jpZ_47) (v := (0, 0)) (st2 := [(0, 0)]) (jZ_190_28 (d := 0)) (by rfl) (by rfl) (by decide +kernel) (by rfl) (by rfl) (by omega) (by omega) (by omega) (by omega) rfl ?_
  refine jT_advK 8 (pcN := 22) (LN := [(0, (4, 0)), (1, (0, 0)), (2, (0, 2147483647)), (3, (0, 2000))]) (stN := [(1, 2000), (1, 1), (1, 2000), (4, 0)]) (hsN := jpZ_100) (c1 := 0) (s1 := 0) (c2 := 22000) (s2 := 732000) (by decide +kernel) ?_ (by omega) (by omega)
  refine jT_fR [] 22 (y := 189) (pcN := 25) (dC := 0) (bc1 := 0) (bc2 := 0) (c1 := 22000) (c2 := 732000) (as := [(1, 2000), (1, 1), (1, 2000)]) (asC := [(1, 2000), (1, 1), (1, 2000)]) (LN := [(0, (4, 0)), (1, (0, 0)), (2, (0, 2147483647)), (3, (0, 2000))]) (stN := [(4, 0)]) (hsC := []) (v := (0, 1)) (st2 := [(0, 1), (4, 0)]) (jZ_189_29 (d := 0)) (by rfl) (by rfl) (by decide +kernel) (by rfl) (by rfl) (by omega) (by omega) (by omega) (by omega) rfl ?_
  refine jT_advK 4 (pcN := 34) (LN := [(0, (4, 0)), (1, (0, 0)), (2, (0, 2147483647)), (3, (0, 2000))]) (stN := [(0, 2), (0, 1), (4, 0)]) (hsN := jpZ_100) (c1 := 0) (s1 := 0) (c2 := 22000) (s2 := 732000) (by decide +kernel) ?_ (by omega) (by omega)
  refine jT_fR [0] 22 (y := 191) (pcN := 37) (dC := 0) (bc1 := 0) (bc2 := 0) (c1 := 22000) (c2 := 732000) (as := [(4, 0), (0, 1), (0, 2)]) (asC := [(4, 0), (0, 1), (0, 2)]) (LN := [(0, (4, 0)), (1, (0, 0)), (2, (0, 2147483647)), (3, (0, 2000))]) (stN := []) (hsC := [jgh]) (v := (0, 0)) (st2 := [(0, 0)]) (jZ_191_30 (d := 0)) (by rfl) (by rfl) (by decide +kernel) (by rfl) (by rfl) (by omega) (by omega) (by omega) (by omega) rfl ?_
  refine jT_advK 3 (pcN := 44) (LN := [(0, (4, 0)), (1, (0, 0)), (2, (0, 2147483647)), (3, (0, 2000))]) (stN := [(0, 0), (4, 0)]) (hsN := jpZ_100) (c1 := 0) (s1 := 0) (c2 := 22000) (s2 := 732000) (by decide +kernel) ?_ (by omega) (by omega)
  refine jT_fR [0, 1, 2, 3, 4, 5, 6, 7, 8, 9, 10, 11, 12, 13, 14, 15] 22 (y := 202) (pcN := 47) (dC := 1) (bc1 := 0) (bc2 := 0) (c1 := 22000) (c2 := 732000) (as := [(4, 0), (0, 0)]) (asC := [(4, 0), (0, 0)]) (LN := [(0, (4, 0)), (1, (0, 0)), (2, (0, 2147483647)), (3, (0, 2000))]) (stN := []) (hsC := jpZ_48) (v := (9, 0)) (st2 := []) (jZ_202_32 (d := 0)) (by rfl) (by rfl) (by decide +kernel) (by rfl) (by rfl) (by omega) (by omega) (by omega) (by omega) rfl ?_
  refine jT_advK 7 (pcN := 59) (LN := [(6, (0, 1)), (5, (0, 2147483647)), (4, (4, 22)), (0, (4, 0)), (1, (0, 0)), (2, (0, 2147483647)), (3, (0, 2000))]) (stN := []) (hsN := jpZ_101) (c1 := 1) (s1 := 6) (c2 := 21999) (s2 := 731994) (by decide +kernel) ?_ (by omega) (by omega)
  refine jT_advK 6 (pcN := 69) (LN := [(6, (0, 1)), (5, (0, 2147483647)), (4, (4, 22)), (0, (4, 0)), (1, (0, 0)), (2, (0, 2147483647)), (3, (0, 2000))]) (stN := [(1, 1), (4, 0)]) (hsN := jpZ_101) (c1 := 0) (s1 := 0) (c2 := 21999) (s2 := 731994) (by decide +kernel) ?_ (by omega) (by omega)
  refine jT_fA [0, 1, 2, 3, 4, 5, 6, 7, 8, 9, 10, 11, 12, 13, 14, 15] 23 (y := 218) (pcN := 72) (dC := 0) (bc1 := 1) (bc2 := 6) (c1 := 21998) (c2 := 731988) (as := [(4, 0), (1, 1)]) (asC := [(4, 0), (1, 1)]) (LN := [(6, (0, 1)), (5, (0, 2147483647)), (4, (4, 22)), (0, (4, 0)), (1, (0, 0)), (2, (0, 2147483647)), (3, (0, 2000))]) (stN := []) (hsC := jpZ_52) (ex := [(101, [], [0, 0, 0, 0, 0, 0])]) (v := (4, 16)) (st2 := [(4, 23)]) (hs2 := jpZ_102) (jZ_218_33 (d := 0)) (by rfl) (by rfl) (by decide +kernel) (by rfl) (by rfl) (by omega) (by omega) (by omega) (by omega) rfl (by decide +kernel) ?_
  refine jT_advK 9 (pcN := 86) (LN := [(7, (4, 23)), (6, (0, 1)), (5, (0, 2147483647)), (4, (4, 22)), (0, (4, 0)), (1, (0, 0)), (2, (0, 2147483647)), (3, (0, 2000))]) (stN := [(1, 1), (4, 23), (4, 0), (1, 0), (0, 0), (4, 23)]) (hsN := jpZ_102) (c1 := 0) (s1 := 0) (c2 := 21998) (s2 := 731988) (by decide +kernel) ?_ (by omega) (by omega)
  refine jT_fA [0, 23, 1, 2, 3, 4, 5, 6, 7, 8, 9, 10, 11, 12, 13, 14, 15, 16, 17, 18, 19, 20, 21] 24 (y := 216) (pcN := 89) (dC := 6) (bc1 := 9) (bc2 := 354) (c1 := 21989) (c2 := 731634) (as := [(4, 0), (4, 23), (1, 1)]) (asC := [(4, 0), (4, 1), (1, 1)]) (LN := [(7, (4, 23)), (6, (0, 1)), (5, (0, 2147483647)), (4, (4, 22)), (0, (4, 0)), (1, (0, 0)), (2, (0, 2147483647)), (3, (0, 2000))]) (stN := [(1, 0), (0, 0), (4, 23)]) (hsC := jpZ_75) (ex := jpZ_76) (v := (1, 0)) (st2 := [(1, 0), (1, 0), (0, 0), (4, 23)]) (hs2 := jpZ_103) (jZ_216_44 (d := 0)) (by rfl) (by rfl) (by decide +kernel) (by rfl) (by rfl) (by omega) (by omega) (by omega) (by omega) rfl (by decide +kernel) ?_
  refine jT_advK 15 (pcN := 59) (LN := [(6, (0, 2)), (4, (4, 23)), (5, (0, 2147483646)), (7, (4, 23)), (0, (4, 0)), (1, (0, 0)), (2, (0, 2147483647)), (3, (0, 2000))]) (stN := []) (hsN := jpZ_103) (c1 := 0) (s1 := 0) (c2 := 21989) (s2 := 731634) (by decide +kernel) ?_ (by omega) (by omega)
  refine jT_loc (LN := [(6, (0, 2)), (5, (0, 2147483646)), (4, (4, 23)), (0, (4, 0)), (3, (0, 2000))]) (by show List.Nodup [6, 5, 4, 0, 3]; decide) (by intro q hq; simp only [List.mem_cons, List.not_mem_nil, or_false] at hq; rcases hq with rfl | rfl | rfl | rfl | rfl <;> rfl) ?_
  refine jT.mono (jZl_gc_50 (b1 := 0) (b2 := 0) (by omega) (z3 := 2000) (y5 := 2147483646) (by omega) (by omega) ?_ ((2001 : Int) - 2).toNat 2 (by omega) (by omega)) (Nat.le_refl _) (by omega) (by omega) (fun _ _ _ z => z)
  refine jT_advK 3 (pcN := 140) (LN := [(0, (4, 0))]) (stN := [(0, 3), (0, 0), (4, 0)]) (hsN := jpZ_103) (c1 := 0) (s1 := 0) (c2 := 0) (s2 := 0) (by decide +kernel) ?_ (by omega) (by omega)
  refine jT_fB [0, 1, 2, 3, 4, 5, 6, 7, 8, 9, 10, 11, 12, 13, 14, 15] 33 (y := 191) (pcN := 143) (dC := 0) (bc1 := 0) (bc2 := 0) (c1 := 0) (c2 := 0) (as := [(4, 0), (0, 0), (0, 3)]) (asC := [(4, 0), (0, 0), (0, 3)]) (LN := [(0, (4, 0))]) (stN := []) (hsC := jpZ_47) (hsD := jpZ_99) (v := (0, 1)) (st2 := [(0, 1)]) (hs2 := jpZ_136) (jZ_191_49 (d := 0)) (by rfl) (by rfl) (by decide +kernel) (by rfl) (by rfl) (by omega) (by omega) (by omega) (by omega) rfl (by decide +kernel) ?_
  refine jT_advK 3 (pcN := 151) (LN := [(0, (4, 0))]) (stN := [(0, 0)]) (hsN := jpZ_136) (c1 := 0) (s1 := 0) (c2 := 0) (s2 := 0) (by decide +kernel) ?_ (by omega) (by omega)
  exact jT_ret rfl (by decide) (by show 22 ≤ 33; omega) (by omega) (by omega) ⟨rfl, rfl, rfl⟩
theorem jZ_186_52 {xs : List Int} {d : Nat} : jT xs d 186 16 0 [(0, (4, 0))] [] jpZ_99 0 0 (fun k v hsN => k = 0 ∧ v = (0, 3) ∧ hsN = jpZ_99 ++ []) := by
  refine jT_advK 2 (pcN := 4) (LN := [(0, (4, 0))]) (stN := [(0, 3)]) (hsN := jpZ_99) (c1 := 0) (s1 := 0) (c2 := 0) (s2 := 0) (by decide +kernel) ?_ (by omega) (by omega)
  exact jT_ret rfl (by decide) (by show 16 ≤ 16; omega) (by omega) (by omega) ⟨rfl, rfl, rfl⟩
theorem jZ_81_53 {xs : List Int} {d : Nat} : jT xs d 81 2 0 [(0, (4, 0)), (1, (1, 0))] [] [(12, [(4, 1), (0, 21)], []), jgh] 0 0 (fun k v hsN => k = 0 ∧ v = (9, 0) ∧ hsN = [(12, [(4, 1), (0, 0)], []), jgh]) := by
  refine jT_advK 9 (pcN := 55) (LN := [(3, (1, 0)), (0, (4, 0)), (1, (1, 0))]) (stN := []) (hsN := [(12, [(4, 1), (0, 0)], []), jgh]) (c1 := 0) (s1 := 0) (c2 := 0) (s2 := 0) (by decide +kernel) ?_ (by omega) (by omega)
  exact jT_ret rfl (by decide) (by show 2 ≤ 2; omega) (by omega) (by omega) ⟨rfl, rfl, rfl⟩
theorem jZ_83_54 {xs : List Int} {d : Nat} : jT xs d 83 2 0 [(0, (4, 0))] [] [(12, [(4, 1), (0, 20)], []), jzZ_25] 0 0 (fun k v hsN => k = 0 ∧ v = (9, 0) ∧ hsN = [(12, [(4, 1), (0, 0)], []), jzZ_25]) := by
  refine jT_advK 300 (pcN := 22) (LN := [(0, (4, 0))]) (stN := [(4, 0)]) (hsN := [(12, [(4, 1), (0, 4)], []), jzZ_25]) (c1 := 0) (s1 := 0) (c2 := 0) (s2 := 0) (by decide +kernel) ?_ (by omega) (by omega)
  refine jT_adv 1 (pcN := 23) (LN := [(0, (4, 0))]) (stN := [(4, 0), (4, 0)]) (hsN := [(12, [(4, 1), (0, 4)], []), jzZ_25]) (c1 := 0) (s1 := 0) (c2 := 0) (s2 := 0) (by exact rfl) ?_ (by omega) (by omega)
  refine jT_advK 62 (pcN := 34) (LN := [(0, (4, 0))]) (stN := []) (hsN := [(12, [(4, 1), (0, 0)], []), jzZ_25]) (c1 := 0) (s1 := 0) (c2 := 0) (s2 := 0) (by decide +kernel) ?_ (by omega) (by omega)
  exact jT_ret rfl (by decide) (by show 2 ≤ 2; omega) (by omega) (by omega) ⟨rfl, rfl, rfl⟩
theorem jZ_90_55 {xs : List Int} {d : Nat} : jT xs (d + 1) 90 3 0 [(0, (4, 0)), (1, (0, 20)), (2, (4, 1))] [] [(12, [(4, 2), (0, 0)], []), (100, [], List.replicate 20 0), jzZ_25] 0 0 (fun k v hsN => k = 0 ∧ v = (9, 0) ∧ hsN = [(12, [(4, 2), (0, 0)], []), (100, [], List.replicate 20 0), jzZ_25] ++ []) := by
  refine jT_advK 300 (pcN := 77) (LN := [(3, (0, 14)), (0, (4, 0)), (1, (0, 20)), (2, (4, 1))]) (stN := []) (hsN := [(12, [(4, 2), (0, 0)], []), (100, [], List.replicate 20 0), jzZ_25]) (c1 := 0) (s1 := 0) (c2 := 0) (s2 := 0) (by decide +kernel) ?_ (by omega) (by omega)
  refine jT_xiinc (x := 14) (z := 15) (LN := [(3, (0, 15)), (0, (4, 0)), (1, (0, 20)), (2, (4, 1))]) (pcN := 80) jIZ_90_77 rfl rfl (by decide) rfl rfl ?_
  refine jT_xgoto (pcN := 49) jIZ_90_80 rfl ?_
  refine jT_xiload_n (v := (0, 15)) (pcN := 50) jIZ_90_49 rfl rfl rfl ?_
  refine jT_xiload_n (v := (0, 20)) (pcN := 51) jIZ_90_50 rfl rfl rfl ?_
  refine jT_xicF (t := 83) (pcN := 54) jIZ_90_51 rfl (by decide +kernel) rfl rfl ?_
  refine jT_xaload_n (v := (4, 0)) (pcN := 55) jIZ_90_54 rfl rfl rfl ?_
  refine jT_xgetf (a := 0) (t := 1) (ci := 12) (fi := 0) (c := (12, [(4, 2), (0, 0)], [])) (v := (4, 2)) (pcN := 58) jIZ_90_55 rfl rfl rfl rfl rfl rfl rfl ?_
  refine jT_xiload_n (v := (0, 15)) (pcN := 59) jIZ_90_58 rfl rfl rfl ?_
  refine jT_xaload_n (v := (4, 1)) (pcN := 60) jIZ_90_59 rfl rfl rfl ?_
  refine jT_adv 1 (pcN := 63) (LN := [(3, (0, 15)), (0, (4, 0)), (1, (0, 20)), (2, (4, 1))]) (stN := [(0, 15), (4, 2)]) (hsN := [(12, [(4, 2), (0, 0)], []), (100, [], List.replicate 20 0), jzZ_25]) (c1 := 0) (s1 := 0) (c2 := 0) (s2 := 0) (by exact rfl) ?_ (by omega) (by omega)
  refine jT_advK 97 (pcN := 94) (LN := [(3, (0, 20)), (0, (4, 0)), (1, (0, 20)), (2, (4, 1))]) (stN := [(4, 0)]) (hsN := [(12, [(4, 2), (0, 20)], []), (100, [], List.replicate 20 0), jzZ_25]) (c1 := 0) (s1 := 0) (c2 := 0) (s2 := 0) (by decide +kernel) ?_ (by omega) (by omega)
  refine jT_fB [0, 2] 3 (y := 83) (pcN := 97) (dC := 0) (bc1 := 0) (bc2 := 0) (c1 := 0) (c2 := 0) (as := [(4, 0)]) (asC := [(4, 0)]) (LN := [(3, (0, 20)), (0, (4, 0)), (1, (0, 20)), (2, (4, 1))]) (stN := []) (hsC := [(12, [(4, 1), (0, 20)], []), jzZ_25]) (hsD := [(12, [(4, 1), (0, 0)], []), jzZ_25]) (v := (9, 0)) (st2 := []) (hs2 := [(12, [(4, 2), (0, 0)], []), (100, [], List.replicate 20 0), jzZ_25]) (jZ_83_54 (d := 0)) (by rfl) (by rfl) (by decide +kernel) (by rfl) (by rfl) (by omega) (by omega) (by omega) (by omega) rfl (by decide +kernel) ?_
  exact jT_ret rfl (by decide) (by show 3 ≤ 3; omega) (by omega) (by omega) ⟨rfl, rfl, rfl⟩
def jpZ_137 : List JC := [(8, [(4, 3), (4, 4)], []), (4, [(4, 5), (1, 1)], []), (12, [(4, 6), (0, 21)], []), (3, [(4, 7), (1, 0)], []), (101, [], [0, 0, 0, 0, 0, 0]), (101, [], [0, 0, 0, 0, 0, 0]), jzZ_25, (100, [], List.replicate 20 0)]
def jpZ_138 : List JC := [(8, [(4, 3), (4, 4)], []), (4, [(4, 5), (1, 1)], []), (12, [(4, 6), (0, 0)], []), (3, [(4, 7), (1, 0)], []), (101, [], [0, 0, 0, 0, 0, 0]), (101, [], [0, 0, 0, 0, 0, 0]), jzZ_25, (100, [], List.replicate 20 0)]
theorem jZ_50_56 {xs : List Int} {d : Nat} : jT xs (d + 2) 50 8 0 [(0, (4, 0)), (1, (4, 1)), (2, (4, 2))] [] jpZ_137 0 0 (fun k v hsN => k = 0 ∧ v = (9, 0) ∧ hsN = jpZ_138) := by
  refine jT_advK 3 (pcN := 5) (LN := [(0, (4, 0)), (1, (4, 1)), (2, (4, 2))]) (stN := [(4, 5), (4, 0)]) (hsN := jpZ_137) (c1 := 0) (s1 := 0) (c2 := 0) (s2 := 0) (by decide +kernel) ?_ (by omega) (by omega)
  refine jT_fR [0, 5, 3, 4] 8 (y := 38) (pcN := 8) (dC := 1) (bc1 := 0) (bc2 := 0) (c1 := 0) (c2 := 0) (as := [(4, 0), (4, 5)]) (asC := [(4, 0), (4, 1)]) (LN := [(0, (4, 0)), (1, (4, 1)), (2, (4, 2))]) (stN := []) (hsC := jpZ_2) (v := (0, 0)) (st2 := [(0, 0)]) (jZ_38_6 (d := 0)) (by rfl) (by rfl) (by decide +kernel) (by rfl) (by rfl) (by omega) (by omega) (by omega) (by omega) rfl ?_
  refine jT_advK 101 (pcN := 67) (LN := [(4, (0, 6)), (3, (0, 0)), (0, (4, 0)), (1, (4, 1)), (2, (4, 2))]) (stN := [(4, 4), (4, 0)]) (hsN := jpZ_137) (c1 := 0) (s1 := 0) (c2 := 0) (s2 := 0) (by decide +kernel) ?_ (by omega) (by omega)
  refine jT_fR [0, 4, 3, 7] 8 (y := 42) (pcN := 70) (dC := 0) (bc1 := 0) (bc2 := 0) (c1 := 0) (c2 := 0) (as := [(4, 0), (4, 4)]) (asC := [(4, 0), (4, 1)]) (LN := [(4, (0, 6)), (3, (0, 0)), (0, (4, 0)), (1, (4, 1)), (2, (4, 2))]) (stN := []) (hsC := jpZ_3) (v := (9, 0)) (st2 := []) (jZ_42_7 (d := 0)) (by rfl) (by rfl) (by decide +kernel) (by rfl) (by rfl) (by omega) (by omega) (by omega) (by omega) rfl ?_
  refine jT_advK 4 (pcN := 78) (LN := [(4, (0, 6)), (3, (0, 0)), (0, (4, 0)), (1, (4, 1)), (2, (4, 2))]) (stN := [(1, 0), (4, 2)]) (hsN := jpZ_137) (c1 := 0) (s1 := 0) (c2 := 0) (s2 := 0) (by decide +kernel) ?_ (by omega) (by omega)
  refine jT_fB [2, 6] 8 (y := 81) (pcN := 81) (dC := 0) (bc1 := 0) (bc2 := 0) (c1 := 0) (c2 := 0) (as := [(4, 2), (1, 0)]) (asC := [(4, 0), (1, 0)]) (LN := [(4, (0, 6)), (3, (0, 0)), (0, (4, 0)), (1, (4, 1)), (2, (4, 2))]) (stN := []) (hsC := [(12, [(4, 1), (0, 21)], []), jgh]) (hsD := [(12, [(4, 1), (0, 0)], []), jgh]) (v := (9, 0)) (st2 := []) (hs2 := jpZ_138) (jZ_81_53 (d := 0)) (by rfl) (by rfl) (by decide +kernel) (by rfl) (by rfl) (by omega) (by omega) (by omega) (by omega) rfl (by decide +kernel) ?_
  refine jT_advK 5 (pcN := 91) (LN := [(4, (0, 6)), (3, (0, 0)), (0, (4, 0)), (1, (4, 1)), (2, (4, 2))]) (stN := [(4, 7), (0, 20), (4, 2)]) (hsN := jpZ_138) (c1 := 0) (s1 := 0) (c2 := 0) (s2 := 0) (by decide +kernel) ?_ (by omega) (by omega)
  refine jT_fR [2, 7, 6] 8 (y := 90) (pcN := 94) (dC := 1) (bc1 := 0) (bc2 := 0) (c1 := 0) (c2 := 0) (as := [(4, 2), (0, 20), (4, 7)]) (asC := [(4, 0), (0, 20), (4, 1)]) (LN := [(4, (0, 6)), (3, (0, 0)), (0, (4, 0)), (1, (4, 1)), (2, (4, 2))]) (stN := []) (hsC := [(12, [(4, 2), (0, 0)], []), (100, [], List.replicate 20 0), jzZ_25]) (v := (9, 0)) (st2 := []) (jZ_90_55 (d := 0)) (by rfl) (by rfl) (by decide +kernel) (by rfl) (by rfl) (by omega) (by omega) (by omega) (by omega) rfl ?_
  exact jT_ret rfl (by decide) (by show 8 ≤ 8; omega) (by omega) (by omega) ⟨rfl, rfl, rfl⟩
def jpZ_139 : List JC := [(2, [(4, 3), (4, 4)], []), (4, [(4, 5), (1, 1)], []), (8, [(4, 6), (4, 7)], []), (12, [(4, 8), (0, 21)], []), (12, [(4, 9), (0, 0)], []), (101, [], [0, 0, 0, 0, 0, 0]), (3, [(4, 10), (1, 0)], []), (101, [], [0, 0, 0, 0, 0, 0]), jzZ_25, (100, [], List.replicate 48 0), (100, [], List.replicate 20 0)]
def jpZ_140 : List JC := [(2, [(4, 3), (4, 4)], []), (4, [(4, 5), (1, 1)], []), (8, [(4, 6), (4, 7)], []), (12, [(4, 8), (0, 0)], []), (12, [(4, 9), (0, 0)], []), (101, [], [0, 0, 0, 0, 0, 0]), (3, [(4, 10), (1, 0)], []), (101, [], [0, 0, 0, 0, 0, 0]), jzZ_25, (100, [], List.replicate 48 0), (100, [], List.replicate 20 0)]
def jpZ_141 : List JC := [(2, [(4, 3), (4, 4)], []), (4, [(4, 5), (1, 1)], []), (8, [(4, 6), (4, 7)], []), (12, [(4, 8), (0, 0)], []), (12, [(4, 9), (0, 1)], []), (101, [], [0, 0, 0, 0, 0, 0]), (3, [(4, 10), (1, 0)], []), (101, [], [0, 0, 0, 0, 0, 0]), jzZ_25, jzZ_24, (100, [], List.replicate 20 0)]
def jpZ_142 : List JC := [(2, [(4, 3), (4, 4)], []), (4, [(4, 5), (1, 1)], []), (8, [(4, 6), (4, 7)], []), (12, [(4, 8), (0, 0)], []), (12, [(4, 9), (0, 21)], []), (101, [], [0, 0, 0, 0, 0, 0]), (3, [(4, 10), (1, 0)], []), (101, [], [0, 0, 0, 0, 0, 0]), jzZ_25, jzZ_25, (100, [], List.replicate 20 0)]
theorem jZ_1_57 {xs : List Int} {d : Nat} : jT xs (d + 3) 1 11 0 [(0, (4, 0)), (1, (4, 1)), (2, (4, 2))] [] jpZ_139 0 0 (fun k v hsN => k = 0 ∧ v = (9, 0) ∧ hsN = jpZ_142) := by
  refine jT_advK 4 (pcN := 6) (LN := [(0, (4, 0)), (1, (4, 1)), (2, (4, 2))]) (stN := [(4, 3), (4, 1), (4, 2)]) (hsN := jpZ_139) (c1 := 0) (s1 := 0) (c2 := 0) (s2 := 0) (by decide +kernel) ?_ (by omega) (by omega)
  refine jT_fB [2, 1, 3, 6, 7, 5, 8, 10] 11 (y := 50) (pcN := 9) (dC := 2) (bc1 := 0) (bc2 := 0) (c1 := 0) (c2 := 0) (as := [(4, 2), (4, 1), (4, 3)]) (asC := [(4, 0), (4, 1), (4, 2)]) (LN := [(0, (4, 0)), (1, (4, 1)), (2, (4, 2))]) (stN := []) (hsC := jpZ_137) (hsD := jpZ_138) (v := (9, 0)) (st2 := []) (hs2 := jpZ_140) (jZ_50_56 (d := 0)) (by rfl) (by rfl) (by decide +kernel) (by rfl) (by rfl) (by omega) (by omega) (by omega) (by omega) rfl (by decide +kernel) ?_
  refine jT_advK 4 (pcN := 17) (LN := [(0, (4, 0)), (1, (4, 1)), (2, (4, 2))]) (stN := [(1, 1), (4, 4)]) (hsN := jpZ_140) (c1 := 0) (s1 := 0) (c2 := 0) (s2 := 0) (by decide +kernel) ?_ (by omega) (by omega)
  refine jT_fB [4, 9] 11 (y := 81) (pcN := 20) (dC := 0) (bc1 := 0) (bc2 := 0) (c1 := 0) (c2 := 0) (as := [(4, 4), (1, 1)]) (asC := [(4, 0), (1, 1)]) (LN := [(0, (4, 0)), (1, (4, 1)), (2, (4, 2))]) (stN := []) (hsC := [(12, [(4, 1), (0, 0)], []), (100, [], List.replicate 48 0)]) (hsD := [(12, [(4, 1), (0, 1)], []), jzZ_24]) (v := (9, 0)) (st2 := []) (hs2 := jpZ_141) (jZ_81_12 (d := 0)) (by rfl) (by rfl) (by decide +kernel) (by rfl) (by rfl) (by omega) (by omega) (by omega) (by omega) rfl (by decide +kernel) ?_
  refine jT_advK 4 (pcN := 27) (LN := [(0, (4, 0)), (1, (4, 1)), (2, (4, 2))]) (stN := [(4, (-1)), (0, 20), (4, 4)]) (hsN := jpZ_141) (c1 := 0) (s1 := 0) (c2 := 0) (s2 := 0) (by decide +kernel) ?_ (by omega) (by omega)
  refine jT_fB [4, 9] 11 (y := 90) (pcN := 30) (dC := 1) (bc1 := 0) (bc2 := 0) (c1 := 0) (c2 := 0) (as := [(4, 4), (0, 20), (4, (-1))]) (asC := [(4, 0), (0, 20), (4, (-1))]) (LN := [(0, (4, 0)), (1, (4, 1)), (2, (4, 2))]) (stN := []) (hsC := [(12, [(4, 1), (0, 1)], []), jzZ_24]) (hsD := [(12, [(4, 1), (0, 21)], []), jzZ_25]) (v := (9, 0)) (st2 := []) (hs2 := jpZ_142) (jZ_90_14 (d := 0)) (by rfl) (by rfl) (by decide +kernel) (by rfl) (by rfl) (by omega) (by omega) (by omega) (by omega) rfl (by decide +kernel) ?_
  exact jT_ret rfl (by decide) (by show 11 ≤ 11; omega) (by omega) (by omega) ⟨rfl, rfl, rfl⟩
def jpZ_143 : List JC := [jzZ_33, (4, [(4, 13), (1, 1)], []), (8, [(4, 14), (4, 15)], []), (2, [(4, 16), (4, 17)], []), jgh, jgh, jgh, jgh, jgh, jgh, jgh, jgh, jgh, (101, [], [0, 0, 0, 0, 0, 0]), (3, [(4, 18), (1, 0)], []), (101, [], [0, 0, 0, 0, 0, 0]), (12, [(4, 19), (0, 21)], []), (12, [(4, 20), (0, 0)], []), (100, [], List.replicate 20 0), jzZ_25, (100, [], List.replicate 48 0)]
def jpZ_144 : List JC := [jzZ_33, (4, [(4, 13), (1, 1)], []), (8, [(4, 14), (4, 15)], []), (2, [(4, 16), (4, 17)], []), jgh, jgh, jgh, jgh, jgh, jgh, jgh, jgh, jgh, (101, [], [0, 0, 0, 0, 0, 0]), (3, [(4, 18), (1, 0)], []), (101, [], [0, 0, 0, 0, 0, 0]), (12, [(4, 19), (0, 0)], []), (12, [(4, 20), (0, 21)], []), (100, [], List.replicate 20 0), jzZ_25, jzZ_25]
def jpZ_145 : List JC := [jzZ_33, (4, [(4, 13), (1, 1)], []), (8, [(4, 14), (4, 15)], []), (2, [(4, 17), (4, 16)], []), jgh, jgh, jgh, jgh, jgh, jgh, jgh, jgh, jgh, (101, [], [0, 0, 0, 0, 0, 0]), (3, [(4, 18), (1, 0)], []), (101, [], [0, 0, 0, 0, 0, 0]), (12, [(4, 19), (0, 0)], []), (12, [(4, 20), (0, 21)], []), (100, [], List.replicate 20 0), jzZ_25, jzZ_25]
theorem jZ_156_58 {xs : List Int} {d : Nat} : jT xs (d + 4) 156 21 0 [(0, (4, 0)), (1, (4, 1)), (2, (0, 2147483647)), (3, (0, 2000))] [] jpZ_143 0 0 (fun k v hsN => k = 0 ∧ v = (1, (-1)) ∧ hsN = jpZ_145) := by
  refine jT_advK 5 (pcN := 9) (LN := [(0, (4, 0)), (1, (4, 1)), (2, (0, 2147483647)), (3, (0, 2000))]) (stN := [(4, 2), (4, 1), (4, 3)]) (hsN := jpZ_143) (c1 := 0) (s1 := 0) (c2 := 0) (s2 := 0) (by decide +kernel) ?_ (by omega) (by omega)
  refine jT_fB [3, 1, 2, 16, 17, 13, 14, 15, 19, 20, 18] 21 (y := 1) (pcN := 12) (dC := 3) (bc1 := 0) (bc2 := 0) (c1 := 0) (c2 := 0) (as := [(4, 3), (4, 1), (4, 2)]) (asC := [(4, 0), (4, 1), (4, 2)]) (LN := [(0, (4, 0)), (1, (4, 1)), (2, (0, 2147483647)), (3, (0, 2000))]) (stN := []) (hsC := jpZ_139) (hsD := jpZ_142) (v := (9, 0)) (st2 := []) (hs2 := jpZ_144) (jZ_1_57 (d := 0)) (by rfl) (by rfl) (by decide +kernel) (by rfl) (by rfl) (by omega) (by omega) (by omega) (by omega) rfl (by decide +kernel) ?_
  refine jT_advK 2 (pcN := 16) (LN := [(0, (4, 0)), (1, (4, 1)), (2, (0, 2147483647)), (3, (0, 2000))]) (stN := [(4, 3)]) (hsN := jpZ_144) (c1 := 0) (s1 := 0) (c2 := 0) (s2 := 0) (by decide +kernel) ?_ (by omega) (by omega)
  refine jT_fB [3, 16, 17, 19, 20] 21 (y := 2) (pcN := 19) (dC := 2) (bc1 := 0) (bc2 := 0) (c1 := 0) (c2 := 0) (as := [(4, 3)]) (asC := [(4, 0)]) (LN := [(0, (4, 0)), (1, (4, 1)), (2, (0, 2147483647)), (3, (0, 2000))]) (stN := []) (hsC := jpZ_30) (hsD := jpZ_31) (v := (1, 0)) (st2 := [(1, 0)]) (hs2 := jpZ_145) (jZ_2_19 (d := 0)) (by rfl) (by rfl) (by decide +kernel) (by rfl) (by rfl) (by omega) (by omega) (by omega) (by omega) rfl (by decide +kernel) ?_
  refine jT_advK 17 (pcN := 48) (LN := [(9, (0, 0)), (8, (0, 0)), (6, (1, 1)), (4, (1, 0)), (0, (4, 0)), (1, (4, 1)), (2, (0, 2147483647)), (3, (0, 2000))]) (stN := [(4, 3)]) (hsN := jpZ_145) (c1 := 0) (s1 := 0) (c2 := 0) (s2 := 0) (by decide +kernel) ?_ (by omega) (by omega)
  refine jT_fR [3, 17, 16, 19] 21 (y := 3) (pcN := 51) (dC := 1) (bc1 := 0) (bc2 := 0) (c1 := 0) (c2 := 0) (as := [(4, 3)]) (asC := [(4, 0)]) (LN := [(9, (0, 0)), (8, (0, 0)), (6, (1, 1)), (4, (1, 0)), (0, (4, 0)), (1, (4, 1)), (2, (0, 2147483647)), (3, (0, 2000))]) (stN := []) (hsC := jpZ_32) (v := (0, 1)) (st2 := [(0, 1)]) (jZ_3_21 (d := 0)) (by rfl) (by rfl) (by decide +kernel) (by rfl) (by rfl) (by omega) (by omega) (by omega) (by omega) rfl ?_
  refine jT_advK 10 (pcN := 80) (LN := [(10, (1, 1000000000000000000)), (9, (0, 0)), (8, (0, 0)), (6, (1, 1)), (4, (1, 0)), (0, (4, 0)), (1, (4, 1)), (2, (0, 2147483647)), (3, (0, 2000))]) (stN := [(1, (-1))]) (hsN := jpZ_145) (c1 := 0) (s1 := 0) (c2 := 0) (s2 := 0) (by decide +kernel) ?_ (by omega) (by omega)
  exact jT_ret rfl (by decide) (by show 21 ≤ 21; omega) (by omega) (by omega) ⟨rfl, rfl, rfl⟩
def jpZ_146 : List JC := [jzZ_37, (8, [(4, 12), (4, 13)], []), (2, [(4, 14), (4, 15)], []), jgh, jgh, jgh, jgh, jgh, jgh, jgh, jgh, jzZ_38, (3, [(4, 21), (1, 0)], []), (101, [], [0, 0, 0, 0, 0, 0]), (12, [(4, 22), (0, 21)], []), (12, [(4, 23), (0, 0)], []), jzZ_39, jgh, jgh, jgh, jgh, (100, [], List.replicate 20 0), jzZ_25, (100, [], List.replicate 48 0), (4, [(4, 25), (1, 1)], []), (101, [], [0, 0, 0, 0, 0, 0])]
def jpZ_147 : List JC := [jzZ_37, (8, [(4, 12), (4, 13)], []), (2, [(4, 15), (4, 14)], []), jgh, jgh, jgh, jgh, jgh, jgh, jgh, jgh, jzZ_38, (3, [(4, 21), (1, 0)], []), (101, [], [0, 0, 0, 0, 0, 0]), (12, [(4, 22), (0, 0)], []), (12, [(4, 23), (0, 21)], []), jzZ_39, jgh, jgh, jgh, jgh, (100, [], List.replicate 20 0), jzZ_25, jzZ_25, (4, [(4, 25), (1, 1)], []), (101, [], [0, 0, 0, 0, 0, 0])]
theorem jZ_155_59 {xs : List Int} {d : Nat} : jT xs (d + 5) 155 26 0 [(0, (4, 0)), (1, (0, 0)), (2, (0, 2147483647)), (3, (0, 2000))] [] jpZ_146 1 6 (fun k v hsN => k = 1 ∧ v = (0, 4) ∧ hsN = jpZ_147) := by
  refine jT_advK 3 (pcN := 4) (LN := [(0, (4, 0)), (1, (0, 0)), (2, (0, 2147483647)), (3, (0, 2000))]) (stN := [(0, 8), (0, 0), (4, 0)]) (hsN := jpZ_146) (c1 := 0) (s1 := 0) (c2 := 1) (s2 := 6) (by decide +kernel) ?_ (by omega) (by omega)
  refine jT_fR [0] 26 (y := 115) (pcN := 7) (dC := 0) (bc1 := 0) (bc2 := 0) (c1 := 1) (c2 := 6) (as := [(4, 0), (0, 0), (0, 8)]) (asC := [(4, 0), (0, 0), (0, 8)]) (LN := [(0, (4, 0)), (1, (0, 0)), (2, (0, 2147483647)), (3, (0, 2000))]) (stN := []) (hsC := [jgh]) (v := (9, 0)) (st2 := []) (jZ_115_1 (d := 0)) (by rfl) (by rfl) (by decide +kernel) (by rfl) (by rfl) (by omega) (by omega) (by omega) (by omega) rfl ?_
  refine jT_advK 6 (pcN := 28) (LN := [(0, (4, 0)), (1, (0, 0)), (2, (0, 2147483647)), (3, (0, 2000))]) (stN := [(0, 2000), (0, 1), (0, 2000), (4, 0)]) (hsN := jpZ_146) (c1 := 0) (s1 := 0) (c2 := 1) (s2 := 6) (by decide +kernel) ?_ (by omega) (by omega)
  refine jT_fR [0] 26 (y := 116) (pcN := 31) (dC := 0) (bc1 := 0) (bc2 := 0) (c1 := 1) (c2 := 6) (as := [(4, 0), (0, 2000), (0, 1), (0, 2000)]) (asC := [(4, 0), (0, 2000), (0, 1), (0, 2000)]) (LN := [(0, (4, 0)), (1, (0, 0)), (2, (0, 2147483647)), (3, (0, 2000))]) (stN := []) (hsC := [jgh]) (v := (9, 0)) (st2 := []) (jZ_116_2 (d := 0)) (by rfl) (by rfl) (by decide +kernel) (by rfl) (by rfl) (by omega) (by omega) (by omega) (by omega) rfl ?_
  refine jT_advK 4 (pcN := 37) (LN := [(0, (4, 0)), (1, (0, 0)), (2, (0, 2147483647)), (3, (0, 2000))]) (stN := [(0, 0), (4, 11), (4, 0)]) (hsN := jpZ_146) (c1 := 0) (s1 := 0) (c2 := 1) (s2 := 6) (by decide +kernel) ?_ (by omega) (by omega)
  refine jT_fR [11, 16, 17, 18, 19, 20, 24] 26 (y := 57) (pcN := 40) (dC := 0) (bc1 := 0) (bc2 := 0) (c1 := 1) (c2 := 6) (as := [(4, 11), (0, 0)]) (asC := [(4, 0), (0, 0)]) (LN := [(0, (4, 0)), (1, (0, 0)), (2, (0, 2147483647)), (3, (0, 2000))]) (stN := [(4, 0)]) (hsC := jpZ_1) (v := (4, 6)) (st2 := [(4, 24), (4, 0)]) (jZ_57_3 (d := 0)) (by rfl) (by rfl) (by decide +kernel) (by rfl) (by rfl) (by omega) (by omega) (by omega) (by omega) rfl ?_
  refine jT_advK 2 (pcN := 42) (LN := [(0, (4, 0)), (1, (0, 0)), (2, (0, 2147483647)), (3, (0, 2000))]) (stN := [(0, 2000), (0, 2147483647), (4, 24), (4, 0)]) (hsN := jpZ_146) (c1 := 0) (s1 := 0) (c2 := 1) (s2 := 6) (by decide +kernel) ?_ (by omega) (by omega)
  refine jT_fB [0, 24, 1, 2, 3, 4, 5, 6, 7, 8, 9, 10, 11, 25, 12, 13, 14, 15, 21, 22, 23] 26 (y := 156) (pcN := 45) (dC := 4) (bc1 := 0) (bc2 := 0) (c1 := 1) (c2 := 6) (as := [(4, 0), (4, 24), (0, 2147483647), (0, 2000)]) (asC := [(4, 0), (4, 1), (0, 2147483647), (0, 2000)]) (LN := [(0, (4, 0)), (1, (0, 0)), (2, (0, 2147483647)), (3, (0, 2000))]) (stN := []) (hsC := jpZ_143) (hsD := jpZ_145) (v := (1, (-1))) (st2 := [(1, (-1))]) (hs2 := jpZ_147) (jZ_156_58 (d := 0)) (by rfl) (by rfl) (by decide +kernel) (by rfl) (by rfl) (by omega) (by omega) (by omega) (by omega) rfl (by decide +kernel) ?_
  refine jT_advK 5 (pcN := 56) (LN := [(4, (1, (-1))), (0, (4, 0)), (1, (0, 0)), (2, (0, 2147483647)), (3, (0, 2000))]) (stN := []) (hsN := jpZ_147) (c1 := 0) (s1 := 0) (c2 := 1) (s2 := 6) (by decide +kernel) ?_ (by omega) (by omega)
  exact jT_ret (c1 := 1) (s1 := 6) rfl (by decide) (by show 26 ≤ 26; omega) (by omega) (by omega) ⟨rfl, rfl, rfl⟩
def jpZ_148 : List JC := [jzZ_33, jgh, (8, [(4, 13), (4, 14)], []), (2, [(4, 15), (4, 16)], []), jgh, jgh, jgh, jgh, jgh, jgh, jgh, jgh, jzZ_42, (3, [(4, 22), (1, 0)], []), (101, [], [0, 0, 0, 0, 0, 0]), (12, [(4, 23), (0, 21)], []), (12, [(4, 24), (0, 0)], []), jzZ_43, jgh, jgh, jgh, jgh, (100, [], List.replicate 20 0), jzZ_25, (100, [], List.replicate 48 0), (4, [(4, 26), (1, 1)], []), (101, [], [0, 0, 0, 0, 0, 0])]
def jpZ_149 : List JC := [jzZ_33, jgh, (8, [(4, 13), (4, 14)], []), (2, [(4, 16), (4, 15)], []), jgh, jgh, jgh, jgh, jgh, jgh, jgh, jgh, jzZ_42, (3, [(4, 22), (1, 0)], []), (101, [], [0, 0, 0, 0, 0, 0]), (12, [(4, 23), (0, 0)], []), (12, [(4, 24), (0, 21)], []), jzZ_43, jgh, jgh, jgh, jgh, (100, [], List.replicate 20 0), jzZ_25, jzZ_25, (4, [(4, 26), (1, 1)], []), (101, [], [0, 0, 0, 0, 0, 0])]
theorem jZ_358_60 {xs : List Int} {d : Nat} : jT xs (d + 6) 358 27 0 [(0, (4, 0)), (1, (0, 0)), (2, (0, 2147483647)), (3, (0, 2000)), (4, (4, 1))] [] jpZ_148 1 6 (fun k v hsN => k = 0 ∧ v = (0, 3) ∧ hsN = jpZ_149) := by
  refine jT_advK 6 (pcN := 7) (LN := [(0, (4, 0)), (1, (0, 0)), (2, (0, 2147483647)), (3, (0, 2000)), (4, (4, 1))]) (stN := [(0, 2000), (0, 2147483647), (0, 0), (4, 0), (0, 0), (4, 1)]) (hsN := jpZ_148) (c1 := 0) (s1 := 0) (c2 := 1) (s2 := 6) (by decide +kernel) ?_ (by omega) (by omega)
  exact jT_fY [0, 2, 3, 4, 5, 6, 7, 8, 9, 10, 11, 12, 13, 14, 15, 16, 17, 18, 19, 20, 21, 22, 23, 24, 25, 26] 27 (y := 155) (pcN := 10) (dC := 5) (bc1 := 1) (bc2 := 6) (as := [(4, 0), (0, 0), (0, 2147483647), (0, 2000)]) (asC := [(4, 0), (0, 0), (0, 2147483647), (0, 2000)]) (LN := [(0, (4, 0)), (1, (0, 0)), (2, (0, 2147483647)), (3, (0, 2000)), (4, (4, 1))]) (stN := [(0, 0), (4, 1)]) (hsC := jpZ_146) (hsD := jpZ_147) (hs2 := jpZ_149) (e := 4) (jZ_155_59 (d := 0)) (by rfl) (by rfl) (by decide +kernel) (by rfl) (by rfl) (by omega) (by omega) (by omega) (by omega) (by decide +kernel) (show _ from ⟨rfl, rfl, rfl⟩)
theorem jZ_190_61 {xs : List Int} {d : Nat} : jT xs (d + 1) 190 16 0 [(0, (4, 0)), (1, (0, 1))] [] jpZ_99 0 0 (fun k v hsN => k = 0 ∧ v = (0, 0) ∧ hsN = jpZ_47) := by
  refine jT_advK 6 (pcN := 8) (LN := [(0, (4, 0)), (1, (0, 1))]) (stN := [(0, 1), (0, 1), (4, 0)]) (hsN := jpZ_47) (c1 := 0) (s1 := 0) (c2 := 0) (s2 := 0) (by decide +kernel) ?_ (by omega) (by omega)
  refine jT_fR [0] 16 (y := 191) (pcN := 11) (dC := 0) (bc1 := 0) (bc2 := 0) (c1 := 0) (c2 := 0) (as := [(4, 0), (0, 1), (0, 1)]) (asC := [(4, 0), (0, 1), (0, 1)]) (LN := [(0, (4, 0)), (1, (0, 1))]) (stN := []) (hsC := [jgh]) (v := (0, 0)) (st2 := [(0, 0)]) (jZ_191_27 (d := 0)) (by rfl) (by rfl) (by decide +kernel) (by rfl) (by rfl) (by omega) (by omega) (by omega) (by omega) rfl ?_
  exact jT_ret rfl (by decide) (by show 16 ≤ 16; omega) (by omega) (by omega) ⟨rfl, rfl, rfl⟩
def jpZ_150 : List JC := [jzZ_98, (100, [], jS0), jgh, jgh, jgh, jgh, (130, [], [16, 17, 18, 19, 20, 21]), (101, [], [0, 0, 0, 0, 0, 0]), jgh, jgh, jgh, jgh, jgh, jgh, jgh, jgh, (100, [], (jenc (jlg 0))), jgh, jgh, jgh, jgh, jgh]
def jpZ_151 : List JC := [(101, [], [0, 0, 0, 0, 0, 0]), (101, [], [0, 0, 0, 0, 0, 0]), (101, [], [1, 0, 0, 0, 0, 0]), (101, [], [1, 0, 0, 0, 0, 0]), (100, [], (jenc 0)), (100, [], (jenc 1)), (100, [], (jenc (1 * (jlg 0)))), (101, [], [(-1), 0, 0, 0, 0, 0]), (100, [], (jenc 0)), (100, [], (jenc (-1))), (100, [], (jenc ((-1) * (jlg 0))))]
theorem jZ_287_62 {xs : List Int} {d : Nat} : jT xs (d + 8) 287 22 0 [(0, (4, 0)), (1, (0, 0)), (2, (0, 2147483647)), (3, (0, 2000))] [] jpZ_150 22000 732000 (fun k v hsN => k = 0 ∧ v = (0, 0) ∧ hsN = jpZ_150 ++ jpZ_151) := by
  refine jT_advK 2 (pcN := 2) (LN := [(0, (4, 0)), (1, (0, 0)), (2, (0, 2147483647)), (3, (0, 2000))]) (stN := [(0, 0), (4, 0)]) (hsN := jpZ_150) (c1 := 0) (s1 := 0) (c2 := 22000) (s2 := 732000) (by decide +kernel) ?_ (by omega) (by omega)
  refine jT_fR [] 22 (y := 188) (pcN := 5) (dC := 1) (bc1 := 0) (bc2 := 0) (c1 := 22000) (c2 := 732000) (as := [(0, 0)]) (asC := [(0, 0)]) (LN := [(0, (4, 0)), (1, (0, 0)), (2, (0, 2147483647)), (3, (0, 2000))]) (stN := [(4, 0)]) (hsC := []) (v := (0, 1)) (st2 := [(0, 1), (4, 0)]) (jZ_188_26 (d := 0)) (by rfl) (by rfl) (by decide +kernel) (by rfl) (by rfl) (by omega) (by omega) (by omega) (by omega) rfl ?_
  refine jT_fB [0, 1, 2, 3, 4, 5, 6, 7, 8, 9, 10, 11, 12, 13, 14, 15] 22 (y := 190) (pcN := 8) (dC := 1) (bc1 := 0) (bc2 := 0) (c1 := 22000) (c2 := 732000) (as := [(4, 0), (0, 1)]) (asC := [(4, 0), (0, 1)]) (LN := [(0, (4, 0)), (1, (0, 0)), (2, (0, 2147483647)), (3, (0, 2000))]) (stN := []) (hsC := jpZ_99) (hsD := jpZ_47) (v := (0, 0)) (st2 := [(0, 0)]) (hs2 := jpZ_100) (jZ_190_61 (d := 0)) (by rfl) (by rfl) (by decide +kernel) (by rfl) (by rfl) (by omega) (by omega) (by omega) (by omega) rfl (by decide +kernel) ?_
  refine jT_advK 8 (pcN := 22) (LN := [(0, (4, 0)), (1, (0, 0)), (2, (0, 2147483647)), (3, (0, 2000))]) (stN := [(1, 2000), (1, 1), (1, 2000), (4, 0)]) (hsN := jpZ_100) (c1 := 0) (s1 := 0) (c2 := 22000) (s2 := 732000) (by decide +kernel) ?_ (by omega) (by omega)
  refine jT_fR [] 22 (y := 189) (pcN := 25) (dC := 0) (bc1 := 0) (bc2 := 0) (c1 := 22000) (c2 := 732000) (as := [(1, 2000), (1, 1), (1, 2000)]) (asC := [(1, 2000), (1, 1), (1, 2000)]) (LN := [(0, (4, 0)), (1, (0, 0)), (2, (0, 2147483647)), (3, (0, 2000))]) (stN := [(4, 0)]) (hsC := []) (v := (0, 1)) (st2 := [(0, 1), (4, 0)]) (jZ_189_29 (d := 0)) (by rfl) (by rfl) (by decide +kernel) (by rfl) (by rfl) (by omega) (by omega) (by omega) (by omega) rfl ?_
  refine jT_advK 4 (pcN := 34) (LN := [(0, (4, 0)), (1, (0, 0)), (2, (0, 2147483647)), (3, (0, 2000))]) (stN := [(0, 2), (0, 1), (4, 0)]) (hsN := jpZ_100) (c1 := 0) (s1 := 0) (c2 := 22000) (s2 := 732000) (by decide +kernel) ?_ (by omega) (by omega)
  refine jT_fR [0] 22 (y := 191) (pcN := 37) (dC := 0) (bc1 := 0) (bc2 := 0) (c1 := 22000) (c2 := 732000) (as := [(4, 0), (0, 1), (0, 2)]) (asC := [(4, 0), (0, 1), (0, 2)]) (LN := [(0, (4, 0)), (1, (0, 0)), (2, (0, 2147483647)), (3, (0, 2000))]) (stN := []) (hsC := [jgh]) (v := (0, 0)) (st2 := [(0, 0)]) (jZ_191_30 (d := 0)) (by rfl) (by rfl) (by decide +kernel) (by rfl) (by rfl) (by omega) (by omega) (by omega) (by omega) rfl ?_
  refine jT_advK 3 (pcN := 44) (LN := [(0, (4, 0)), (1, (0, 0)), (2, (0, 2147483647)), (3, (0, 2000))]) (stN := [(0, 0), (4, 0)]) (hsN := jpZ_100) (c1 := 0) (s1 := 0) (c2 := 22000) (s2 := 732000) (by decide +kernel) ?_ (by omega) (by omega)
  refine jT_fR [0, 1, 2, 3, 4, 5, 6, 7, 8, 9, 10, 11, 12, 13, 14, 15] 22 (y := 202) (pcN := 47) (dC := 1) (bc1 := 0) (bc2 := 0) (c1 := 22000) (c2 := 732000) (as := [(4, 0), (0, 0)]) (asC := [(4, 0), (0, 0)]) (LN := [(0, (4, 0)), (1, (0, 0)), (2, (0, 2147483647)), (3, (0, 2000))]) (stN := []) (hsC := jpZ_48) (v := (9, 0)) (st2 := []) (jZ_202_32 (d := 0)) (by rfl) (by rfl) (by decide +kernel) (by rfl) (by rfl) (by omega) (by omega) (by omega) (by omega) rfl ?_
  refine jT_advK 7 (pcN := 59) (LN := [(6, (0, 1)), (5, (0, 2147483647)), (4, (4, 22)), (0, (4, 0)), (1, (0, 0)), (2, (0, 2147483647)), (3, (0, 2000))]) (stN := []) (hsN := jpZ_101) (c1 := 1) (s1 := 6) (c2 := 21999) (s2 := 731994) (by decide +kernel) ?_ (by omega) (by omega)
  refine jT_advK 6 (pcN := 69) (LN := [(6, (0, 1)), (5, (0, 2147483647)), (4, (4, 22)), (0, (4, 0)), (1, (0, 0)), (2, (0, 2147483647)), (3, (0, 2000))]) (stN := [(1, 1), (4, 0)]) (hsN := jpZ_101) (c1 := 0) (s1 := 0) (c2 := 21999) (s2 := 731994) (by decide +kernel) ?_ (by omega) (by omega)
  refine jT_fA [0, 1, 2, 3, 4, 5, 6, 7, 8, 9, 10, 11, 12, 13, 14, 15] 23 (y := 218) (pcN := 72) (dC := 0) (bc1 := 1) (bc2 := 6) (c1 := 21998) (c2 := 731988) (as := [(4, 0), (1, 1)]) (asC := [(4, 0), (1, 1)]) (LN := [(6, (0, 1)), (5, (0, 2147483647)), (4, (4, 22)), (0, (4, 0)), (1, (0, 0)), (2, (0, 2147483647)), (3, (0, 2000))]) (stN := []) (hsC := jpZ_52) (ex := [(101, [], [0, 0, 0, 0, 0, 0])]) (v := (4, 16)) (st2 := [(4, 23)]) (hs2 := jpZ_102) (jZ_218_33 (d := 0)) (by rfl) (by rfl) (by decide +kernel) (by rfl) (by rfl) (by omega) (by omega) (by omega) (by omega) rfl (by decide +kernel) ?_
  refine jT_advK 9 (pcN := 86) (LN := [(7, (4, 23)), (6, (0, 1)), (5, (0, 2147483647)), (4, (4, 22)), (0, (4, 0)), (1, (0, 0)), (2, (0, 2147483647)), (3, (0, 2000))]) (stN := [(1, 1), (4, 23), (4, 0), (1, 0), (0, 0), (4, 23)]) (hsN := jpZ_102) (c1 := 0) (s1 := 0) (c2 := 21998) (s2 := 731988) (by decide +kernel) ?_ (by omega) (by omega)
  refine jT_fA [0, 23, 1, 2, 3, 4, 5, 6, 7, 8, 9, 10, 11, 12, 13, 14, 15, 16, 17, 18, 19, 20, 21] 24 (y := 216) (pcN := 89) (dC := 6) (bc1 := 9) (bc2 := 354) (c1 := 21989) (c2 := 731634) (as := [(4, 0), (4, 23), (1, 1)]) (asC := [(4, 0), (4, 1), (1, 1)]) (LN := [(7, (4, 23)), (6, (0, 1)), (5, (0, 2147483647)), (4, (4, 22)), (0, (4, 0)), (1, (0, 0)), (2, (0, 2147483647)), (3, (0, 2000))]) (stN := [(1, 0), (0, 0), (4, 23)]) (hsC := jpZ_75) (ex := jpZ_76) (v := (1, 0)) (st2 := [(1, 0), (1, 0), (0, 0), (4, 23)]) (hs2 := jpZ_103) (jZ_216_44 (d := 0)) (by rfl) (by rfl) (by decide +kernel) (by rfl) (by rfl) (by omega) (by omega) (by omega) (by omega) rfl (by decide +kernel) ?_
  refine jT_advK 15 (pcN := 59) (LN := [(6, (0, 2)), (4, (4, 23)), (5, (0, 2147483646)), (7, (4, 23)), (0, (4, 0)), (1, (0, 0)), (2, (0, 2147483647)), (3, (0, 2000))]) (stN := []) (hsN := jpZ_103) (c1 := 0) (s1 := 0) (c2 := 21989) (s2 := 731634) (by decide +kernel) ?_ (by omega) (by omega)
  refine jT_loc (LN := [(6, (0, 2)), (5, (0, 2147483646)), (4, (4, 23)), (0, (4, 0)), (3, (0, 2000))]) (by show List.Nodup [6, 5, 4, 0, 3]; decide) (by intro q hq; simp only [List.mem_cons, List.not_mem_nil, or_false] at hq; rcases hq with rfl | rfl | rfl | rfl | rfl <;> rfl) ?_
  refine jT.mono (jZl_gc_50 (b1 := 0) (b2 := 0) (by omega) (z3 := 2000) (y5 := 2147483646) (by omega) (by omega) ?_ ((2001 : Int) - 2).toNat 2 (by omega) (by omega)) (Nat.le_refl _) (by omega) (by omega) (fun _ _ _ z => z)
  refine jT_advK 3 (pcN := 140) (LN := [(0, (4, 0))]) (stN := [(0, 3), (0, 0), (4, 0)]) (hsN := jpZ_103) (c1 := 0) (s1 := 0) (c2 := 0) (s2 := 0) (by decide +kernel) ?_ (by omega) (by omega)
  refine jT_fB [0, 1, 2, 3, 4, 5, 6, 7, 8, 9, 10, 11, 12, 13, 14, 15] 33 (y := 191) (pcN := 143) (dC := 0) (bc1 := 0) (bc2 := 0) (c1 := 0) (c2 := 0) (as := [(4, 0), (0, 0), (0, 3)]) (asC := [(4, 0), (0, 0), (0, 3)]) (LN := [(0, (4, 0))]) (stN := []) (hsC := jpZ_47) (hsD := jpZ_99) (v := (0, 1)) (st2 := [(0, 1)]) (hs2 := jpZ_136) (jZ_191_49 (d := 0)) (by rfl) (by rfl) (by decide +kernel) (by rfl) (by rfl) (by omega) (by omega) (by omega) (by omega) rfl (by decide +kernel) ?_
  refine jT_advK 3 (pcN := 151) (LN := [(0, (4, 0))]) (stN := [(0, 0)]) (hsN := jpZ_136) (c1 := 0) (s1 := 0) (c2 := 0) (s2 := 0) (by decide +kernel) ?_ (by omega) (by omega)
  exact jT_ret rfl (by decide) (by show 22 ≤ 33; omega) (by omega) (by omega) ⟨rfl, rfl, rfl⟩
def jzZ_152 : JC := (100, [], [1, 0, 0, 0, 0, 0, 0, 0, 0, 0, 0, 0, 0, 0, 0, 0, 0, 0, 0, 0, 1, 0, 0, 0, 0, 0, 0, 0, 0, 0, 0, 0, 0, 0, 0, 0, 0, 0, 0, 0, 0, 0, 0, 0, 0, 0, 0, 0])
theorem jZ_81_63 {xs : List Int} {d : Nat} : jT xs d 81 2 0 [(0, (4, 0)), (1, (1, 1))] [] [(12, [(4, 1), (0, 0)], []), jzZ_25] 0 0 (fun k v hsN => k = 0 ∧ v = (9, 0) ∧ hsN = [(12, [(4, 1), (0, 1)], []), jzZ_152]) := by
  refine jT_advK 37 (pcN := 55) (LN := [(3, (1, 0)), (0, (4, 0)), (1, (1, 1))]) (stN := []) (hsN := [(12, [(4, 1), (0, 1)], []), jzZ_152]) (c1 := 0) (s1 := 0) (c2 := 0) (s2 := 0) (by decide +kernel) ?_ (by omega) (by omega)
  exact jT_ret rfl (by decide) (by show 2 ≤ 2; omega) (by omega) (by omega) ⟨rfl, rfl, rfl⟩
theorem jZ_90_64 {xs : List Int} {d : Nat} : jT xs (d + 1) 90 2 0 [(0, (4, 0)), (1, (0, 20)), (2, (4, (-1)))] [] [(12, [(4, 1), (0, 1)], []), jzZ_152] 0 0 (fun k v hsN => k = 0 ∧ v = (9, 0) ∧ hsN = [(12, [(4, 1), (0, 21)], []), jzZ_25]) := by
  refine jT_advK 281 (pcN := 94) (LN := [(3, (0, 20)), (0, (4, 0)), (1, (0, 20)), (2, (4, (-1)))]) (stN := [(4, 0)]) (hsN := [(12, [(4, 1), (0, 21)], []), jzZ_25]) (c1 := 0) (s1 := 0) (c2 := 0) (s2 := 0) (by decide +kernel) ?_ (by omega) (by omega)
  refine jT_fR [0, 1] 2 (y := 83) (pcN := 97) (dC := 0) (bc1 := 0) (bc2 := 0) (c1 := 0) (c2 := 0) (as := [(4, 0)]) (asC := [(4, 0)]) (LN := [(3, (0, 20)), (0, (4, 0)), (1, (0, 20)), (2, (4, (-1)))]) (stN := []) (hsC := [(12, [(4, 1), (0, 21)], []), jzZ_25]) (v := (9, 0)) (st2 := []) (jZ_83_13 (d := 0)) (by rfl) (by rfl) (by decide +kernel) (by rfl) (by rfl) (by omega) (by omega) (by omega) (by omega) rfl ?_
  exact jT_ret rfl (by decide) (by show 2 ≤ 2; omega) (by omega) (by omega) ⟨rfl, rfl, rfl⟩
def jpZ_153 : List JC := [(2, [(4, 3), (4, 4)], []), (4, [(4, 5), (1, 1)], []), (8, [(4, 6), (4, 7)], []), (12, [(4, 8), (0, 21)], []), (12, [(4, 9), (0, 0)], []), (101, [], [0, 0, 0, 0, 0, 0]), (3, [(4, 10), (1, 0)], []), (101, [], [0, 0, 0, 0, 0, 0]), jzZ_25, jzZ_25, (100, [], List.replicate 20 0)]
def jpZ_154 : List JC := [(2, [(4, 3), (4, 4)], []), (4, [(4, 5), (1, 1)], []), (8, [(4, 6), (4, 7)], []), (12, [(4, 8), (0, 0)], []), (12, [(4, 9), (0, 0)], []), (101, [], [0, 0, 0, 0, 0, 0]), (3, [(4, 10), (1, 0)], []), (101, [], [0, 0, 0, 0, 0, 0]), jzZ_25, jzZ_25, (100, [], List.replicate 20 0)]
def jpZ_155 : List JC := [(2, [(4, 3), (4, 4)], []), (4, [(4, 5), (1, 1)], []), (8, [(4, 6), (4, 7)], []), (12, [(4, 8), (0, 0)], []), (12, [(4, 9), (0, 1)], []), (101, [], [0, 0, 0, 0, 0, 0]), (3, [(4, 10), (1, 0)], []), (101, [], [0, 0, 0, 0, 0, 0]), jzZ_25, jzZ_152, (100, [], List.replicate 20 0)]
theorem jZ_1_65 {xs : List Int} {d : Nat} : jT xs (d + 3) 1 11 0 [(0, (4, 0)), (1, (4, 1)), (2, (4, 2))] [] jpZ_153 0 0 (fun k v hsN => k = 0 ∧ v = (9, 0) ∧ hsN = jpZ_142) := by
  refine jT_advK 4 (pcN := 6) (LN := [(0, (4, 0)), (1, (4, 1)), (2, (4, 2))]) (stN := [(4, 3), (4, 1), (4, 2)]) (hsN := jpZ_153) (c1 := 0) (s1 := 0) (c2 := 0) (s2 := 0) (by decide +kernel) ?_ (by omega) (by omega)
  refine jT_fB [2, 1, 3, 6, 7, 5, 8, 10] 11 (y := 50) (pcN := 9) (dC := 2) (bc1 := 0) (bc2 := 0) (c1 := 0) (c2 := 0) (as := [(4, 2), (4, 1), (4, 3)]) (asC := [(4, 0), (4, 1), (4, 2)]) (LN := [(0, (4, 0)), (1, (4, 1)), (2, (4, 2))]) (stN := []) (hsC := jpZ_137) (hsD := jpZ_138) (v := (9, 0)) (st2 := []) (hs2 := jpZ_154) (jZ_50_56 (d := 0)) (by rfl) (by rfl) (by decide +kernel) (by rfl) (by rfl) (by omega) (by omega) (by omega) (by omega) rfl (by decide +kernel) ?_
  refine jT_advK 4 (pcN := 17) (LN := [(0, (4, 0)), (1, (4, 1)), (2, (4, 2))]) (stN := [(1, 1), (4, 4)]) (hsN := jpZ_154) (c1 := 0) (s1 := 0) (c2 := 0) (s2 := 0) (by decide +kernel) ?_ (by omega) (by omega)
  refine jT_fB [4, 9] 11 (y := 81) (pcN := 20) (dC := 0) (bc1 := 0) (bc2 := 0) (c1 := 0) (c2 := 0) (as := [(4, 4), (1, 1)]) (asC := [(4, 0), (1, 1)]) (LN := [(0, (4, 0)), (1, (4, 1)), (2, (4, 2))]) (stN := []) (hsC := [(12, [(4, 1), (0, 0)], []), jzZ_25]) (hsD := [(12, [(4, 1), (0, 1)], []), jzZ_152]) (v := (9, 0)) (st2 := []) (hs2 := jpZ_155) (jZ_81_63 (d := 0)) (by rfl) (by rfl) (by decide +kernel) (by rfl) (by rfl) (by omega) (by omega) (by omega) (by omega) rfl (by decide +kernel) ?_
  refine jT_advK 4 (pcN := 27) (LN := [(0, (4, 0)), (1, (4, 1)), (2, (4, 2))]) (stN := [(4, (-1)), (0, 20), (4, 4)]) (hsN := jpZ_155) (c1 := 0) (s1 := 0) (c2 := 0) (s2 := 0) (by decide +kernel) ?_ (by omega) (by omega)
  refine jT_fB [4, 9] 11 (y := 90) (pcN := 30) (dC := 1) (bc1 := 0) (bc2 := 0) (c1 := 0) (c2 := 0) (as := [(4, 4), (0, 20), (4, (-1))]) (asC := [(4, 0), (0, 20), (4, (-1))]) (LN := [(0, (4, 0)), (1, (4, 1)), (2, (4, 2))]) (stN := []) (hsC := [(12, [(4, 1), (0, 1)], []), jzZ_152]) (hsD := [(12, [(4, 1), (0, 21)], []), jzZ_25]) (v := (9, 0)) (st2 := []) (hs2 := jpZ_142) (jZ_90_64 (d := 0)) (by rfl) (by rfl) (by decide +kernel) (by rfl) (by rfl) (by omega) (by omega) (by omega) (by omega) rfl (by decide +kernel) ?_
  exact jT_ret rfl (by decide) (by show 11 ≤ 11; omega) (by omega) (by omega) ⟨rfl, rfl, rfl⟩
def jpZ_156 : List JC := [jzZ_33, (4, [(4, 13), (1, 1)], []), (8, [(4, 14), (4, 15)], []), (2, [(4, 16), (4, 17)], []), jgh, jgh, jgh, jgh, jgh, jgh, jgh, jgh, jgh, (101, [], [0, 0, 0, 0, 0, 0]), (3, [(4, 18), (1, 0)], []), (101, [], [0, 0, 0, 0, 0, 0]), (12, [(4, 19), (0, 21)], []), (12, [(4, 20), (0, 0)], []), (100, [], List.replicate 20 0), jzZ_25, jzZ_25]
theorem jZ_156_66 {xs : List Int} {d : Nat} : jT xs (d + 4) 156 21 0 [(0, (4, 0)), (1, (4, 1)), (2, (0, 2147483647)), (3, (0, 2000))] [] jpZ_156 0 0 (fun k v hsN => k = 0 ∧ v = (1, (-1)) ∧ hsN = jpZ_145) := by
  refine jT_advK 5 (pcN := 9) (LN := [(0, (4, 0)), (1, (4, 1)), (2, (0, 2147483647)), (3, (0, 2000))]) (stN := [(4, 2), (4, 1), (4, 3)]) (hsN := jpZ_156) (c1 := 0) (s1 := 0) (c2 := 0) (s2 := 0) (by decide +kernel) ?_ (by omega) (by omega)
  refine jT_fB [3, 1, 2, 16, 17, 13, 14, 15, 19, 20, 18] 21 (y := 1) (pcN := 12) (dC := 3) (bc1 := 0) (bc2 := 0) (c1 := 0) (c2 := 0) (as := [(4, 3), (4, 1), (4, 2)]) (asC := [(4, 0), (4, 1), (4, 2)]) (LN := [(0, (4, 0)), (1, (4, 1)), (2, (0, 2147483647)), (3, (0, 2000))]) (stN := []) (hsC := jpZ_153) (hsD := jpZ_142) (v := (9, 0)) (st2 := []) (hs2 := jpZ_144) (jZ_1_65 (d := 0)) (by rfl) (by rfl) (by decide +kernel) (by rfl) (by rfl) (by omega) (by omega) (by omega) (by omega) rfl (by decide +kernel) ?_
  refine jT_advK 2 (pcN := 16) (LN := [(0, (4, 0)), (1, (4, 1)), (2, (0, 2147483647)), (3, (0, 2000))]) (stN := [(4, 3)]) (hsN := jpZ_144) (c1 := 0) (s1 := 0) (c2 := 0) (s2 := 0) (by decide +kernel) ?_ (by omega) (by omega)
  refine jT_fB [3, 16, 17, 19, 20] 21 (y := 2) (pcN := 19) (dC := 2) (bc1 := 0) (bc2 := 0) (c1 := 0) (c2 := 0) (as := [(4, 3)]) (asC := [(4, 0)]) (LN := [(0, (4, 0)), (1, (4, 1)), (2, (0, 2147483647)), (3, (0, 2000))]) (stN := []) (hsC := jpZ_30) (hsD := jpZ_31) (v := (1, 0)) (st2 := [(1, 0)]) (hs2 := jpZ_145) (jZ_2_19 (d := 0)) (by rfl) (by rfl) (by decide +kernel) (by rfl) (by rfl) (by omega) (by omega) (by omega) (by omega) rfl (by decide +kernel) ?_
  refine jT_advK 17 (pcN := 48) (LN := [(9, (0, 0)), (8, (0, 0)), (6, (1, 1)), (4, (1, 0)), (0, (4, 0)), (1, (4, 1)), (2, (0, 2147483647)), (3, (0, 2000))]) (stN := [(4, 3)]) (hsN := jpZ_145) (c1 := 0) (s1 := 0) (c2 := 0) (s2 := 0) (by decide +kernel) ?_ (by omega) (by omega)
  refine jT_fR [3, 17, 16, 19] 21 (y := 3) (pcN := 51) (dC := 1) (bc1 := 0) (bc2 := 0) (c1 := 0) (c2 := 0) (as := [(4, 3)]) (asC := [(4, 0)]) (LN := [(9, (0, 0)), (8, (0, 0)), (6, (1, 1)), (4, (1, 0)), (0, (4, 0)), (1, (4, 1)), (2, (0, 2147483647)), (3, (0, 2000))]) (stN := []) (hsC := jpZ_32) (v := (0, 1)) (st2 := [(0, 1)]) (jZ_3_21 (d := 0)) (by rfl) (by rfl) (by decide +kernel) (by rfl) (by rfl) (by omega) (by omega) (by omega) (by omega) rfl ?_
  refine jT_advK 10 (pcN := 80) (LN := [(10, (1, 1000000000000000000)), (9, (0, 0)), (8, (0, 0)), (6, (1, 1)), (4, (1, 0)), (0, (4, 0)), (1, (4, 1)), (2, (0, 2147483647)), (3, (0, 2000))]) (stN := [(1, (-1))]) (hsN := jpZ_145) (c1 := 0) (s1 := 0) (c2 := 0) (s2 := 0) (by decide +kernel) ?_ (by omega) (by omega)
  exact jT_ret rfl (by decide) (by show 21 ≤ 21; omega) (by omega) (by omega) ⟨rfl, rfl, rfl⟩
def jpZ_157 : List JC := [jzZ_37, (8, [(4, 12), (4, 13)], []), (2, [(4, 14), (4, 15)], []), jgh, jgh, jgh, jgh, jgh, jgh, jgh, jgh, jzZ_38, (3, [(4, 21), (1, 0)], []), (101, [], [0, 0, 0, 0, 0, 0]), (12, [(4, 22), (0, 21)], []), (12, [(4, 23), (0, 0)], []), jzZ_39, jgh, jgh, jgh, jgh, (100, [], List.replicate 20 0), jzZ_25, jzZ_25, (4, [(4, 25), (1, 1)], []), (101, [], [0, 0, 0, 0, 0, 0])]
theorem jZ_155_67 {xs : List Int} {d : Nat} : jT xs (d + 5) 155 26 0 [(0, (4, 0)), (1, (0, 0)), (2, (0, 2147483647)), (3, (0, 2000))] [] jpZ_157 1 6 (fun k v hsN => k = 1 ∧ v = (0, 4) ∧ hsN = jpZ_147) := by
  refine jT_advK 3 (pcN := 4) (LN := [(0, (4, 0)), (1, (0, 0)), (2, (0, 2147483647)), (3, (0, 2000))]) (stN := [(0, 8), (0, 0), (4, 0)]) (hsN := jpZ_157) (c1 := 0) (s1 := 0) (c2 := 1) (s2 := 6) (by decide +kernel) ?_ (by omega) (by omega)
  refine jT_fR [0] 26 (y := 115) (pcN := 7) (dC := 0) (bc1 := 0) (bc2 := 0) (c1 := 1) (c2 := 6) (as := [(4, 0), (0, 0), (0, 8)]) (asC := [(4, 0), (0, 0), (0, 8)]) (LN := [(0, (4, 0)), (1, (0, 0)), (2, (0, 2147483647)), (3, (0, 2000))]) (stN := []) (hsC := [jgh]) (v := (9, 0)) (st2 := []) (jZ_115_1 (d := 0)) (by rfl) (by rfl) (by decide +kernel) (by rfl) (by rfl) (by omega) (by omega) (by omega) (by omega) rfl ?_
  refine jT_advK 6 (pcN := 28) (LN := [(0, (4, 0)), (1, (0, 0)), (2, (0, 2147483647)), (3, (0, 2000))]) (stN := [(0, 2000), (0, 1), (0, 2000), (4, 0)]) (hsN := jpZ_157) (c1 := 0) (s1 := 0) (c2 := 1) (s2 := 6) (by decide +kernel) ?_ (by omega) (by omega)
  refine jT_fR [0] 26 (y := 116) (pcN := 31) (dC := 0) (bc1 := 0) (bc2 := 0) (c1 := 1) (c2 := 6) (as := [(4, 0), (0, 2000), (0, 1), (0, 2000)]) (asC := [(4, 0), (0, 2000), (0, 1), (0, 2000)]) (LN := [(0, (4, 0)), (1, (0, 0)), (2, (0, 2147483647)), (3, (0, 2000))]) (stN := []) (hsC := [jgh]) (v := (9, 0)) (st2 := []) (jZ_116_2 (d := 0)) (by rfl) (by rfl) (by decide +kernel) (by rfl) (by rfl) (by omega) (by omega) (by omega) (by omega) rfl ?_
  refine jT_advK 4 (pcN := 37) (LN := [(0, (4, 0)), (1, (0, 0)), (2, (0, 2147483647)), (3, (0, 2000))]) (stN := [(0, 0), (4, 11), (4, 0)]) (hsN := jpZ_157) (c1 := 0) (s1 := 0) (c2 := 1) (s2 := 6) (by decide +kernel) ?_ (by omega) (by omega)
  refine jT_fR [11, 16, 17, 18, 19, 20, 24] 26 (y := 57) (pcN := 40) (dC := 0) (bc1 := 0) (bc2 := 0) (c1 := 1) (c2 := 6) (as := [(4, 11), (0, 0)]) (asC := [(4, 0), (0, 0)]) (LN := [(0, (4, 0)), (1, (0, 0)), (2, (0, 2147483647)), (3, (0, 2000))]) (stN := [(4, 0)]) (hsC := jpZ_1) (v := (4, 6)) (st2 := [(4, 24), (4, 0)]) (jZ_57_3 (d := 0)) (by rfl) (by rfl) (by decide +kernel) (by rfl) (by rfl) (by omega) (by omega) (by omega) (by omega) rfl ?_
  refine jT_advK 2 (pcN := 42) (LN := [(0, (4, 0)), (1, (0, 0)), (2, (0, 2147483647)), (3, (0, 2000))]) (stN := [(0, 2000), (0, 2147483647), (4, 24), (4, 0)]) (hsN := jpZ_157) (c1 := 0) (s1 := 0) (c2 := 1) (s2 := 6) (by decide +kernel) ?_ (by omega) (by omega)
  refine jT_fB [0, 24, 1, 2, 3, 4, 5, 6, 7, 8, 9, 10, 11, 25, 12, 13, 14, 15, 21, 22, 23] 26 (y := 156) (pcN := 45) (dC := 4) (bc1 := 0) (bc2 := 0) (c1 := 1) (c2 := 6) (as := [(4, 0), (4, 24), (0, 2147483647), (0, 2000)]) (asC := [(4, 0), (4, 1), (0, 2147483647), (0, 2000)]) (LN := [(0, (4, 0)), (1, (0, 0)), (2, (0, 2147483647)), (3, (0, 2000))]) (stN := []) (hsC := jpZ_156) (hsD := jpZ_145) (v := (1, (-1))) (st2 := [(1, (-1))]) (hs2 := jpZ_147) (jZ_156_66 (d := 0)) (by rfl) (by rfl) (by decide +kernel) (by rfl) (by rfl) (by omega) (by omega) (by omega) (by omega) rfl (by decide +kernel) ?_
  refine jT_advK 5 (pcN := 56) (LN := [(4, (1, (-1))), (0, (4, 0)), (1, (0, 0)), (2, (0, 2147483647)), (3, (0, 2000))]) (stN := []) (hsN := jpZ_147) (c1 := 0) (s1 := 0) (c2 := 1) (s2 := 6) (by decide +kernel) ?_ (by omega) (by omega)
  exact jT_ret (c1 := 1) (s1 := 6) rfl (by decide) (by show 26 ≤ 26; omega) (by omega) (by omega) ⟨rfl, rfl, rfl⟩
def jpZ_158 : List JC := [jzZ_33, jgh, (8, [(4, 13), (4, 14)], []), (2, [(4, 15), (4, 16)], []), jgh, jgh, jgh, jgh, jgh, jgh, jgh, jgh, jzZ_42, (3, [(4, 22), (1, 0)], []), (101, [], [0, 0, 0, 0, 0, 0]), (12, [(4, 23), (0, 21)], []), (12, [(4, 24), (0, 0)], []), jzZ_43, jgh, jgh, jgh, jgh, (100, [], List.replicate 20 0), jzZ_25, jzZ_25, (4, [(4, 26), (1, 1)], []), (101, [], [0, 0, 0, 0, 0, 0])]
theorem jZ_358_68 {xs : List Int} {d : Nat} : jT xs (d + 6) 358 27 0 [(0, (4, 0)), (1, (0, 0)), (2, (0, 2147483647)), (3, (0, 2000)), (4, (4, 1))] [] jpZ_158 1 6 (fun k v hsN => k = 0 ∧ v = (0, 3) ∧ hsN = jpZ_149) := by
  refine jT_advK 6 (pcN := 7) (LN := [(0, (4, 0)), (1, (0, 0)), (2, (0, 2147483647)), (3, (0, 2000)), (4, (4, 1))]) (stN := [(0, 2000), (0, 2147483647), (0, 0), (4, 0), (0, 0), (4, 1)]) (hsN := jpZ_158) (c1 := 0) (s1 := 0) (c2 := 1) (s2 := 6) (by decide +kernel) ?_ (by omega) (by omega)
  exact jT_fY [0, 2, 3, 4, 5, 6, 7, 8, 9, 10, 11, 12, 13, 14, 15, 16, 17, 18, 19, 20, 21, 22, 23, 24, 25, 26] 27 (y := 155) (pcN := 10) (dC := 5) (bc1 := 1) (bc2 := 6) (as := [(4, 0), (0, 0), (0, 2147483647), (0, 2000)]) (asC := [(4, 0), (0, 0), (0, 2147483647), (0, 2000)]) (LN := [(0, (4, 0)), (1, (0, 0)), (2, (0, 2147483647)), (3, (0, 2000)), (4, (4, 1))]) (stN := [(0, 0), (4, 1)]) (hsC := jpZ_157) (hsD := jpZ_147) (hs2 := jpZ_149) (e := 4) (jZ_155_67 (d := 0)) (by rfl) (by rfl) (by decide +kernel) (by rfl) (by rfl) (by omega) (by omega) (by omega) (by omega) (by decide +kernel) (show _ from ⟨rfl, rfl, rfl⟩)
theorem jIZ_379_28 : jmI (jm 379) 28 = (.iload 5, 2) := by rfl
theorem jIZ_379_30 : jmI (jm 379) 30 = (.aload_n 0, 1) := by rfl
def jzZ_161 : JC := (13, [(4, 4), (4, 5), (4, 6), (4, 7), (4, 8), (4, 9), (4, 10), (4, 11), (4, 12), (4, 13), (0, 0), (4, 14), (0, 0)], [])
def jzZ_162 : JC := (14, [(0, 0), (4, 15), (4, 16), (4, 17), (4, 18), (0, 0), (4, 19), (0, 0), (4, 20), (4, 21), (1, 1), (4, 22), (0, 0), (4, 23), (0, 0), (0, 0), (0, 0), (0, 0), (0, 0), (0, 0), (0, 0), (4, 24), (4, 25), (4, 26), (4, 27), (4, 28), (4, 29), (0, 0)], [])
def jzZ_163 : JC := (9, [(4, 34), (4, 35), (4, 36), (4, 37), (4, 38)], [])
def jzZ_164 : JC := (114, [], [48, 48, 48, 48, 48, 48, 48, 48])
def jpZ_165 : List JC := [jzZ_161, jzZ_162, jgh, jgh, (8, [(4, 30), (4, 31)], []), (2, [(4, 32), (4, 33)], []), jgh, jgh, jgh, jgh, jgh, jgh, jgh, jgh, jzZ_163, (100, [], jS0), jgh, jgh, jgh, jgh, (130, [], [39, 40, 41, 42, 43, 44]), (101, [], [0, 0, 0, 0, 0, 0]), jgh, jgh, jgh, jgh, jgh, jgh, jgh, jgh, (3, [(4, 45), (1, 0)], []), (101, [], [0, 0, 0, 0, 0, 0]), (12, [(4, 46), (0, 0)], []), (12, [(4, 47), (0, 0)], []), jzZ_164, jgh, jgh, jgh, jgh, (100, [], (jenc (jlg 0))), jgh, jgh, jgh, jgh, jgh, (100, [], List.replicate 20 0), (100, [], List.replicate 48 0), (100, [], List.replicate 48 0), (4, [(4, 49), (1, 1)], []), (101, [], [0, 0, 0, 0, 0, 0])]
theorem jIZ_379_32 : jmI (jm 379) 32 = (.iconst 5, 1) := by rfl
theorem jIZ_379_33 : jmI (jm 379) 33 = (.isub, 1) := by rfl
theorem jIZ_379_34 : jmI (jm 379) 34 = (.if_icmp .gt 3712, 3) := by rfl
theorem jIZ_379_37 : jmI (jm 379) 37 = (.aload_n 0, 1) := by rfl
theorem jIZ_379_38 : jmI (jm 379) 38 = (.iload 5, 2) := by rfl
theorem jIZ_379_41 : jmI (jm 379) 41 = (.bipush 63, 2) := by rfl
theorem jIZ_379_2598 : jmI (jm 379) 2598 = (.aload_n 1, 1) := by rfl
theorem jIZ_379_2599 : jmI (jm 379) 2599 = (.aload_n 0, 1) := by rfl
theorem jIZ_379_2600 : jmI (jm 379) 2600 = (.iload 5, 2) := by rfl
theorem jIZ_379_2602 : jmI (jm 379) 2602 = (.iconst 1, 1) := by rfl
theorem jIZ_379_2603 : jmI (jm 379) 2603 = (.iadd, 1) := by rfl
theorem jIZ_379_2605 : jmI (jm 379) 2605 = (.aload_n 0, 1) := by rfl
theorem jIZ_379_2606 : jmI (jm 379) 2606 = (.iload 5, 2) := by rfl
theorem jIZ_379_2608 : jmI (jm 379) 2608 = (.iconst 2, 1) := by rfl
theorem jIZ_379_2609 : jmI (jm 379) 2609 = (.iadd, 1) := by rfl
theorem jIZ_379_2611 : jmI (jm 379) 2611 = (.aload_n 0, 1) := by rfl
theorem jIZ_379_2612 : jmI (jm 379) 2612 = (.iload 5, 2) := by rfl
theorem jIZ_379_2614 : jmI (jm 379) 2614 = (.iconst 3, 1) := by rfl
theorem jIZ_379_2615 : jmI (jm 379) 2615 = (.iadd, 1) := by rfl
theorem jIZ_379_2617 : jmI (jm 379) 2617 = (.aload_n 3, 1) := by rfl
def jpZ_186 : List JC := [jzZ_161, jzZ_162, jgh, jgh, (8, [(4, 30), (4, 31)], []), (2, [(4, 33), (4, 32)], []), jgh, jgh, jgh, jgh, jgh, jgh, jgh, jgh, jzZ_163, (100, [], jS0), jgh, jgh, jgh, jgh, (130, [], [39, 40, 41, 42, 43, 44]), (101, [], [0, 0, 0, 0, 0, 0]), jgh, jgh, jgh, jgh, jgh, jgh, jgh, jgh, (3, [(4, 45), (1, 0)], []), (101, [], [0, 0, 0, 0, 0, 0]), (12, [(4, 46), (0, 0)], []), (12, [(4, 47), (0, 21)], []), jzZ_164, jgh, jgh, jgh, jgh, (100, [], (jenc (jlg 0))), jgh, jgh, jgh, jgh, jgh, (100, [], List.replicate 20 0), (100, [], List.replicate 48 0), jzZ_25, (4, [(4, 49), (1, 1)], []), (101, [], [0, 0, 0, 0, 0, 0])]
theorem jIZ_379_2621 : jmI (jm 379) 2621 = (.istore 6, 2) := by rfl
theorem jIZ_379_2623 : jmI (jm 379) 2623 = (.aload_n 2, 1) := by rfl
theorem jIZ_379_2624 : jmI (jm 379) 2624 = (.aload_n 0, 1) := by rfl
theorem jIZ_379_2625 : jmI (jm 379) 2625 = (.iload 5, 2) := by rfl
theorem jIZ_379_2627 : jmI (jm 379) 2627 = (.iconst 1, 1) := by rfl
theorem jIZ_379_2628 : jmI (jm 379) 2628 = (.iadd, 1) := by rfl
theorem jIZ_379_2630 : jmI (jm 379) 2630 = (.aload_n 0, 1) := by rfl
theorem jIZ_379_2631 : jmI (jm 379) 2631 = (.iload 5, 2) := by rfl
theorem jIZ_379_2633 : jmI (jm 379) 2633 = (.iconst 2, 1) := by rfl
theorem jIZ_379_2634 : jmI (jm 379) 2634 = (.iadd, 1) := by rfl
theorem jIZ_379_2636 : jmI (jm 379) 2636 = (.aload_n 0, 1) := by rfl
theorem jIZ_379_2637 : jmI (jm 379) 2637 = (.iload 5, 2) := by rfl
theorem jIZ_379_2639 : jmI (jm 379) 2639 = (.iconst 3, 1) := by rfl
theorem jIZ_379_2640 : jmI (jm 379) 2640 = (.iadd, 1) := by rfl
def jzZ_201 : JC := (14, [(0, 3), (4, 15), (4, 16), (4, 17), (4, 18), (0, 0), (4, 19), (0, 0), (4, 20), (4, 21), (1, 1), (4, 22), (0, 0), (4, 23), (0, 0), (0, 0), (0, 0), (0, 0), (0, 0), (0, 0), (0, 0), (4, 24), (4, 25), (4, 26), (4, 27), (4, 28), (4, 29), (0, 0)], [])
def jpZ_202 : List JC := [jzZ_161, jzZ_201, jgh, jgh, (8, [(4, 30), (4, 31)], []), (2, [(4, 33), (4, 32)], []), jgh, jgh, jgh, jgh, jgh, jgh, jgh, jgh, jzZ_163, (100, [], jS0), jgh, jgh, jgh, jgh, (130, [], [39, 40, 41, 42, 43, 44]), (101, [], [0, 0, 0, 0, 0, 0]), jgh, jgh, jgh, jgh, jgh, jgh, jgh, jgh, (3, [(4, 45), (1, 0)], []), (101, [], [0, 0, 0, 0, 0, 0]), (12, [(4, 46), (0, 0)], []), (12, [(4, 47), (0, 21)], []), jzZ_164, jgh, jgh, jgh, jgh, (100, [], (jenc (jlg 0))), jgh, jgh, jgh, jgh, jgh, (100, [], List.replicate 20 0), (100, [], List.replicate 48 0), jzZ_25, (4, [(4, 49), (1, 1)], []), (101, [], [0, 0, 0, 0, 0, 0]), (101, [], [0, 0, 0, 0, 0, 0]), (101, [], [0, 0, 0, 0, 0, 0]), (101, [], [1, 0, 0, 0, 0, 0]), (101, [], [1, 0, 0, 0, 0, 0]), (100, [], (jenc 0)), (100, [], (jenc 1)), (100, [], (jenc (1 * (jlg 0)))), (101, [], [(-1), 0, 0, 0, 0, 0]), (100, [], (jenc 0)), (100, [], (jenc (-1))), (100, [], (jenc ((-1) * (jlg 0))))]
theorem jIZ_379_2645 : jmI (jm 379) 2645 = (.istore 7, 2) := by rfl
theorem jIZ_379_2647 : jmI (jm 379) 2647 = (.aload_n 2, 1) := by rfl
theorem jIZ_379_2651 : jmI (jm 379) 2651 = (.iload 6, 2) := by rfl
theorem jIZ_379_2653 : jmI (jm 379) 2653 = (.if_icmp .eq 5, 3) := by rfl
theorem jIZ_379_2658 : jmI (jm 379) 2658 = (.iload 6, 2) := by rfl
theorem jIZ_379_2660 : jmI (jm 379) 2660 = (.ifCond .ne 15, 3) := by rfl
theorem jIZ_379_2675 : jmI (jm 379) 2675 = (.goto 1065, 3) := by rfl
theorem jIZ_379_3740 : jmI (jm 379) 3740 = (.iinc 5 5, 3) := by rfl
theorem jIZ_379_3743 : jmI (jm 379) 3743 = (.goto (-3715), 3) := by rfl
def jpZ_212 : List JC := [jzZ_161, jzZ_201, jgh, jgh, (8, [(4, 30), (4, 31)], []), (2, [(4, 32), (4, 33)], []), jgh, jgh, jgh, jgh, jgh, jgh, jgh, jgh, jzZ_163, (100, [], jS0), jgh, jgh, jgh, jgh, (130, [], [39, 40, 41, 42, 43, 44]), (101, [], [0, 0, 0, 0, 0, 0]), jgh, jgh, jgh, jgh, jgh, jgh, jgh, jgh, (3, [(4, 45), (1, 0)], []), (101, [], [0, 0, 0, 0, 0, 0]), (12, [(4, 46), (0, 21)], []), (12, [(4, 47), (0, 0)], []), jzZ_164, jgh, jgh, jgh, jgh, (100, [], (jenc (jlg 0))), jgh, jgh, jgh, jgh, jgh, (100, [], List.replicate 20 0), jzZ_25, jzZ_25, (4, [(4, 49), (1, 1)], []), (101, [], [0, 0, 0, 0, 0, 0]), (101, [], [0, 0, 0, 0, 0, 0]), (101, [], [0, 0, 0, 0, 0, 0]), (101, [], [1, 0, 0, 0, 0, 0]), (101, [], [1, 0, 0, 0, 0, 0]), (100, [], (jenc 0)), (100, [], (jenc 1)), (100, [], (jenc (1 * (jlg 0)))), (101, [], [(-1), 0, 0, 0, 0, 0]), (100, [], (jenc 0)), (100, [], (jenc (-1))), (100, [], (jenc ((-1) * (jlg 0))))]
def jpZ_213 : List JC := [jzZ_161, jzZ_201, jgh, jgh, (8, [(4, 30), (4, 31)], []), (2, [(4, 32), (4, 33)], []), jgh, jgh, jgh, jgh, jgh, jgh, jgh, jgh, jzZ_163, (100, [], jS0), jgh, jgh, jgh, jgh, (130, [], [39, 40, 41, 42, 43, 44]), (101, [], [0, 0, 0, 0, 0, 0]), jgh, jgh, jgh, jgh, jgh, jgh, jgh, jgh, (3, [(4, 45), (1, 0)], []), (101, [], [0, 0, 0, 0, 0, 0]), (12, [(4, 46), (0, 21)], []), (12, [(4, 47), (0, 0)], []), jzZ_164, jgh, jgh, jgh, jgh, (100, [], (jenc (jlg 0))), jgh, jgh, jgh, jgh, jgh, (100, [], List.replicate 20 0), jzZ_25, jzZ_25, (4, [(4, 49), (1, 1)], []), (101, [], [0, 0, 0, 0, 0, 0]), (101, [], [0, 0, 0, 0, 0, 0]), (101, [], [0, 0, 0, 0, 0, 0]), (101, [], [1, 0, 0, 0, 0, 0]), (101, [], [1, 0, 0, 0, 0, 0]), (100, [], (jenc 0)), (100, [], (jenc 1)), (100, [], (jenc (1 * (jlg 0)))), (101, [], [(-1), 0, 0, 0, 0, 0]), (100, [], (jenc 0)), (100, [], (jenc (-1))), (100, [], (jenc ((-1) * (jlg 0)))), (101, [], [0, 0, 0, 0, 0, 0]), (101, [], [0, 0, 0, 0, 0, 0]), (101, [], [1, 0, 0, 0, 0, 0]), (101, [], [1, 0, 0, 0, 0, 0]), (100, [], (jenc 0)), (100, [], (jenc 1)), (100, [], (jenc (1 * (jlg 0)))), (101, [], [(-1), 0, 0, 0, 0, 0]), (100, [], (jenc 0)), (100, [], (jenc (-1))), (100, [], (jenc ((-1) * (jlg 0))))]
def jpZ_214 : List JC := [jzZ_161, jzZ_201, jgh, jgh, (8, [(4, 30), (4, 31)], []), (2, [(4, 33), (4, 32)], []), jgh, jgh, jgh, jgh, jgh, jgh, jgh, jgh, jzZ_163, (100, [], jS0), jgh, jgh, jgh, jgh, (130, [], [39, 40, 41, 42, 43, 44]), (101, [], [0, 0, 0, 0, 0, 0]), jgh, jgh, jgh, jgh, jgh, jgh, jgh, jgh, (3, [(4, 45), (1, 0)], []), (101, [], [0, 0, 0, 0, 0, 0]), (12, [(4, 46), (0, 0)], []), (12, [(4, 47), (0, 21)], []), jzZ_164, jgh, jgh, jgh, jgh, (100, [], (jenc (jlg 0))), jgh, jgh, jgh, jgh, jgh, (100, [], List.replicate 20 0), jzZ_25, jzZ_25, (4, [(4, 49), (1, 1)], []), (101, [], [0, 0, 0, 0, 0, 0]), (101, [], [0, 0, 0, 0, 0, 0]), (101, [], [0, 0, 0, 0, 0, 0]), (101, [], [1, 0, 0, 0, 0, 0]), (101, [], [1, 0, 0, 0, 0, 0]), (100, [], (jenc 0)), (100, [], (jenc 1)), (100, [], (jenc (1 * (jlg 0)))), (101, [], [(-1), 0, 0, 0, 0, 0]), (100, [], (jenc 0)), (100, [], (jenc (-1))), (100, [], (jenc ((-1) * (jlg 0)))), (101, [], [0, 0, 0, 0, 0, 0]), (101, [], [0, 0, 0, 0, 0, 0]), (101, [], [1, 0, 0, 0, 0, 0]), (101, [], [1, 0, 0, 0, 0, 0]), (100, [], (jenc 0)), (100, [], (jenc 1)), (100, [], (jenc (1 * (jlg 0)))), (101, [], [(-1), 0, 0, 0, 0, 0]), (100, [], (jenc 0)), (100, [], (jenc (-1))), (100, [], (jenc ((-1) * (jlg 0))))]
def jpZ_215 : List JC := [jzZ_161, jzZ_201, jgh, jgh, (8, [(4, 30), (4, 31)], []), (2, [(4, 33), (4, 32)], []), jgh, jgh, jgh, jgh, jgh, jgh, jgh, jgh, jzZ_163, (100, [], jS0), jgh, jgh, jgh, jgh, (130, [], [39, 40, 41, 42, 43, 44]), (101, [], [0, 0, 0, 0, 0, 0]), jgh, jgh, jgh, jgh, jgh, jgh, jgh, jgh, (3, [(4, 45), (1, 0)], []), (101, [], [0, 0, 0, 0, 0, 0]), (12, [(4, 46), (0, 0)], []), (12, [(4, 47), (0, 21)], []), jzZ_164, jgh, jgh, jgh, jgh, (100, [], (jenc (jlg 0))), jgh, jgh, jgh, jgh, jgh, (100, [], List.replicate 20 0), jzZ_25, jzZ_25, (4, [(4, 49), (1, 1)], []), (101, [], [0, 0, 0, 0, 0, 0]), (101, [], [0, 0, 0, 0, 0, 0]), (101, [], [0, 0, 0, 0, 0, 0]), (101, [], [1, 0, 0, 0, 0, 0]), (101, [], [1, 0, 0, 0, 0, 0]), (100, [], (jenc 0)), (100, [], (jenc 1)), (100, [], (jenc (1 * (jlg 0)))), (101, [], [(-1), 0, 0, 0, 0, 0]), (100, [], (jenc 0)), (100, [], (jenc (-1))), (100, [], (jenc ((-1) * (jlg 0)))), (101, [], [0, 0, 0, 0, 0, 0]), (101, [], [0, 0, 0, 0, 0, 0]), (101, [], [1, 0, 0, 0, 0, 0]), (101, [], [1, 0, 0, 0, 0, 0]), (100, [], (jenc 0)), (100, [], (jenc 1)), (100, [], (jenc (1 * (jlg 0)))), (101, [], [(-1), 0, 0, 0, 0, 0]), (100, [], (jenc 0)), (100, [], (jenc (-1))), (100, [], (jenc ((-1) * (jlg 0)))), (101, [], [0, 0, 0, 0, 0, 0]), (101, [], [0, 0, 0, 0, 0, 0]), (101, [], [1, 0, 0, 0, 0, 0]), (101, [], [1, 0, 0, 0, 0, 0]), (100, [], (jenc 0)), (100, [], (jenc 1)), (100, [], (jenc (1 * (jlg 0)))), (101, [], [(-1), 0, 0, 0, 0, 0]), (100, [], (jenc 0)), (100, [], (jenc (-1))), (100, [], (jenc ((-1) * (jlg 0))))]
def jpZ_216 : List JC := [jzZ_161, jzZ_201, jgh, jgh, (8, [(4, 30), (4, 31)], []), (2, [(4, 32), (4, 33)], []), jgh, jgh, jgh, jgh, jgh, jgh, jgh, jgh, jzZ_163, (100, [], jS0), jgh, jgh, jgh, jgh, (130, [], [39, 40, 41, 42, 43, 44]), (101, [], [0, 0, 0, 0, 0, 0]), jgh, jgh, jgh, jgh, jgh, jgh, jgh, jgh, (3, [(4, 45), (1, 0)], []), (101, [], [0, 0, 0, 0, 0, 0]), (12, [(4, 46), (0, 21)], []), (12, [(4, 47), (0, 0)], []), jzZ_164, jgh, jgh, jgh, jgh, (100, [], (jenc (jlg 0))), jgh, jgh, jgh, jgh, jgh, (100, [], List.replicate 20 0), jzZ_25, jzZ_25, (4, [(4, 49), (1, 1)], []), (101, [], [0, 0, 0, 0, 0, 0]), (101, [], [0, 0, 0, 0, 0, 0]), (101, [], [0, 0, 0, 0, 0, 0]), (101, [], [1, 0, 0, 0, 0, 0]), (101, [], [1, 0, 0, 0, 0, 0]), (100, [], (jenc 0)), (100, [], (jenc 1)), (100, [], (jenc (1 * (jlg 0)))), (101, [], [(-1), 0, 0, 0, 0, 0]), (100, [], (jenc 0)), (100, [], (jenc (-1))), (100, [], (jenc ((-1) * (jlg 0)))), (101, [], [0, 0, 0, 0, 0, 0]), (101, [], [0, 0, 0, 0, 0, 0]), (101, [], [1, 0, 0, 0, 0, 0]), (101, [], [1, 0, 0, 0, 0, 0]), (100, [], (jenc 0)), (100, [], (jenc 1)), (100, [], (jenc (1 * (jlg 0)))), (101, [], [(-1), 0, 0, 0, 0, 0]), (100, [], (jenc 0)), (100, [], (jenc (-1))), (100, [], (jenc ((-1) * (jlg 0)))), (101, [], [0, 0, 0, 0, 0, 0]), (101, [], [0, 0, 0, 0, 0, 0]), (101, [], [1, 0, 0, 0, 0, 0]), (101, [], [1, 0, 0, 0, 0, 0]), (100, [], (jenc 0)), (100, [], (jenc 1)), (100, [], (jenc (1 * (jlg 0)))), (101, [], [(-1), 0, 0, 0, 0, 0]), (100, [], (jenc 0)), (100, [], (jenc (-1))), (100, [], (jenc ((-1) * (jlg 0))))]
def jpZ_217 : List JC := [jzZ_161, jzZ_201, jgh, jgh, (8, [(4, 30), (4, 31)], []), (2, [(4, 32), (4, 33)], []), jgh, jgh, jgh, jgh, jgh, jgh, jgh, jgh, jzZ_163, (100, [], jS0), jgh, jgh, jgh, jgh, (130, [], [39, 40, 41, 42, 43, 44]), (101, [], [0, 0, 0, 0, 0, 0]), jgh, jgh, jgh, jgh, jgh, jgh, jgh, jgh, (3, [(4, 45), (1, 0)], []), (101, [], [0, 0, 0, 0, 0, 0]), (12, [(4, 46), (0, 21)], []), (12, [(4, 47), (0, 0)], []), jzZ_164, jgh, jgh, jgh, jgh, (100, [], (jenc (jlg 0))), jgh, jgh, jgh, jgh, jgh, (100, [], List.replicate 20 0), jzZ_25, jzZ_25, (4, [(4, 49), (1, 1)], []), (101, [], [0, 0, 0, 0, 0, 0]), (101, [], [0, 0, 0, 0, 0, 0]), (101, [], [0, 0, 0, 0, 0, 0]), (101, [], [1, 0, 0, 0, 0, 0]), (101, [], [1, 0, 0, 0, 0, 0]), (100, [], (jenc 0)), (100, [], (jenc 1)), (100, [], (jenc (1 * (jlg 0)))), (101, [], [(-1), 0, 0, 0, 0, 0]), (100, [], (jenc 0)), (100, [], (jenc (-1))), (100, [], (jenc ((-1) * (jlg 0)))), (101, [], [0, 0, 0, 0, 0, 0]), (101, [], [0, 0, 0, 0, 0, 0]), (101, [], [1, 0, 0, 0, 0, 0]), (101, [], [1, 0, 0, 0, 0, 0]), (100, [], (jenc 0)), (100, [], (jenc 1)), (100, [], (jenc (1 * (jlg 0)))), (101, [], [(-1), 0, 0, 0, 0, 0]), (100, [], (jenc 0)), (100, [], (jenc (-1))), (100, [], (jenc ((-1) * (jlg 0)))), (101, [], [0, 0, 0, 0, 0, 0]), (101, [], [0, 0, 0, 0, 0, 0]), (101, [], [1, 0, 0, 0, 0, 0]), (101, [], [1, 0, 0, 0, 0, 0]), (100, [], (jenc 0)), (100, [], (jenc 1)), (100, [], (jenc (1 * (jlg 0)))), (101, [], [(-1), 0, 0, 0, 0, 0]), (100, [], (jenc 0)), (100, [], (jenc (-1))), (100, [], (jenc ((-1) * (jlg 0)))), (101, [], [0, 0, 0, 0, 0, 0]), (101, [], [0, 0, 0, 0, 0, 0]), (101, [], [1, 0, 0, 0, 0, 0]), (101, [], [1, 0, 0, 0, 0, 0]), (100, [], (jenc 0)), (100, [], (jenc 1)), (100, [], (jenc (1 * (jlg 0)))), (101, [], [(-1), 0, 0, 0, 0, 0]), (100, [], (jenc 0)), (100, [], (jenc (-1))), (100, [], (jenc ((-1) * (jlg 0))))]
def jpZ_218 : List JC := [jzZ_161, jzZ_201, jgh, jgh, (8, [(4, 30), (4, 31)], []), (2, [(4, 33), (4, 32)], []), jgh, jgh, jgh, jgh, jgh, jgh, jgh, jgh, jzZ_163, (100, [], jS0), jgh, jgh, jgh, jgh, (130, [], [39, 40, 41, 42, 43, 44]), (101, [], [0, 0, 0, 0, 0, 0]), jgh, jgh, jgh, jgh, jgh, jgh, jgh, jgh, (3, [(4, 45), (1, 0)], []), (101, [], [0, 0, 0, 0, 0, 0]), (12, [(4, 46), (0, 0)], []), (12, [(4, 47), (0, 21)], []), jzZ_164, jgh, jgh, jgh, jgh, (100, [], (jenc (jlg 0))), jgh, jgh, jgh, jgh, jgh, (100, [], List.replicate 20 0), jzZ_25, jzZ_25, (4, [(4, 49), (1, 1)], []), (101, [], [0, 0, 0, 0, 0, 0]), (101, [], [0, 0, 0, 0, 0, 0]), (101, [], [0, 0, 0, 0, 0, 0]), (101, [], [1, 0, 0, 0, 0, 0]), (101, [], [1, 0, 0, 0, 0, 0]), (100, [], (jenc 0)), (100, [], (jenc 1)), (100, [], (jenc (1 * (jlg 0)))), (101, [], [(-1), 0, 0, 0, 0, 0]), (100, [], (jenc 0)), (100, [], (jenc (-1))), (100, [], (jenc ((-1) * (jlg 0)))), (101, [], [0, 0, 0, 0, 0, 0]), (101, [], [0, 0, 0, 0, 0, 0]), (101, [], [1, 0, 0, 0, 0, 0]), (101, [], [1, 0, 0, 0, 0, 0]), (100, [], (jenc 0)), (100, [], (jenc 1)), (100, [], (jenc (1 * (jlg 0)))), (101, [], [(-1), 0, 0, 0, 0, 0]), (100, [], (jenc 0)), (100, [], (jenc (-1))), (100, [], (jenc ((-1) * (jlg 0)))), (101, [], [0, 0, 0, 0, 0, 0]), (101, [], [0, 0, 0, 0, 0, 0]), (101, [], [1, 0, 0, 0, 0, 0]), (101, [], [1, 0, 0, 0, 0, 0]), (100, [], (jenc 0)), (100, [], (jenc 1)), (100, [], (jenc (1 * (jlg 0)))), (101, [], [(-1), 0, 0, 0, 0, 0]), (100, [], (jenc 0)), (100, [], (jenc (-1))), (100, [], (jenc ((-1) * (jlg 0)))), (101, [], [0, 0, 0, 0, 0, 0]), (101, [], [0, 0, 0, 0, 0, 0]), (101, [], [1, 0, 0, 0, 0, 0]), (101, [], [1, 0, 0, 0, 0, 0]), (100, [], (jenc 0)), (100, [], (jenc 1)), (100, [], (jenc (1 * (jlg 0)))), (101, [], [(-1), 0, 0, 0, 0, 0]), (100, [], (jenc 0)), (100, [], (jenc (-1))), (100, [], (jenc ((-1) * (jlg 0))))]
def jpZ_219 : List JC := [jzZ_161, jzZ_201, jgh, jgh, (8, [(4, 30), (4, 31)], []), (2, [(4, 33), (4, 32)], []), jgh, jgh, jgh, jgh, jgh, jgh, jgh, jgh, jzZ_163, (100, [], jS0), jgh, jgh, jgh, jgh, (130, [], [39, 40, 41, 42, 43, 44]), (101, [], [0, 0, 0, 0, 0, 0]), jgh, jgh, jgh, jgh, jgh, jgh, jgh, jgh, (3, [(4, 45), (1, 0)], []), (101, [], [0, 0, 0, 0, 0, 0]), (12, [(4, 46), (0, 0)], []), (12, [(4, 47), (0, 21)], []), jzZ_164, jgh, jgh, jgh, jgh, (100, [], (jenc (jlg 0))), jgh, jgh, jgh, jgh, jgh, (100, [], List.replicate 20 0), jzZ_25, jzZ_25, (4, [(4, 49), (1, 1)], []), (101, [], [0, 0, 0, 0, 0, 0]), (101, [], [0, 0, 0, 0, 0, 0]), (101, [], [0, 0, 0, 0, 0, 0]), (101, [], [1, 0, 0, 0, 0, 0]), (101, [], [1, 0, 0, 0, 0, 0]), (100, [], (jenc 0)), (100, [], (jenc 1)), (100, [], (jenc (1 * (jlg 0)))), (101, [], [(-1), 0, 0, 0, 0, 0]), (100, [], (jenc 0)), (100, [], (jenc (-1))), (100, [], (jenc ((-1) * (jlg 0)))), (101, [], [0, 0, 0, 0, 0, 0]), (101, [], [0, 0, 0, 0, 0, 0]), (101, [], [1, 0, 0, 0, 0, 0]), (101, [], [1, 0, 0, 0, 0, 0]), (100, [], (jenc 0)), (100, [], (jenc 1)), (100, [], (jenc (1 * (jlg 0)))), (101, [], [(-1), 0, 0, 0, 0, 0]), (100, [], (jenc 0)), (100, [], (jenc (-1))), (100, [], (jenc ((-1) * (jlg 0)))), (101, [], [0, 0, 0, 0, 0, 0]), (101, [], [0, 0, 0, 0, 0, 0]), (101, [], [1, 0, 0, 0, 0, 0]), (101, [], [1, 0, 0, 0, 0, 0]), (100, [], (jenc 0)), (100, [], (jenc 1)), (100, [], (jenc (1 * (jlg 0)))), (101, [], [(-1), 0, 0, 0, 0, 0]), (100, [], (jenc 0)), (100, [], (jenc (-1))), (100, [], (jenc ((-1) * (jlg 0)))), (101, [], [0, 0, 0, 0, 0, 0]), (101, [], [0, 0, 0, 0, 0, 0]), (101, [], [1, 0, 0, 0, 0, 0]), (101, [], [1, 0, 0, 0, 0, 0]), (100, [], (jenc 0)), (100, [], (jenc 1)), (100, [], (jenc (1 * (jlg 0)))), (101, [], [(-1), 0, 0, 0, 0, 0]), (100, [], (jenc 0)), (100, [], (jenc (-1))), (100, [], (jenc ((-1) * (jlg 0)))), (101, [], [0, 0, 0, 0, 0, 0]), (101, [], [0, 0, 0, 0, 0, 0]), (101, [], [1, 0, 0, 0, 0, 0]), (101, [], [1, 0, 0, 0, 0, 0]), (100, [], (jenc 0)), (100, [], (jenc 1)), (100, [], (jenc (1 * (jlg 0)))), (101, [], [(-1), 0, 0, 0, 0, 0]), (100, [], (jenc 0)), (100, [], (jenc (-1))), (100, [], (jenc ((-1) * (jlg 0))))]
def jpZ_220 : List JC := [jzZ_161, jzZ_201, jgh, jgh, (8, [(4, 30), (4, 31)], []), (2, [(4, 32), (4, 33)], []), jgh, jgh, jgh, jgh, jgh, jgh, jgh, jgh, jzZ_163, (100, [], jS0), jgh, jgh, jgh, jgh, (130, [], [39, 40, 41, 42, 43, 44]), (101, [], [0, 0, 0, 0, 0, 0]), jgh, jgh, jgh, jgh, jgh, jgh, jgh, jgh, (3, [(4, 45), (1, 0)], []), (101, [], [0, 0, 0, 0, 0, 0]), (12, [(4, 46), (0, 21)], []), (12, [(4, 47), (0, 0)], []), jzZ_164, jgh, jgh, jgh, jgh, (100, [], (jenc (jlg 0))), jgh, jgh, jgh, jgh, jgh, (100, [], List.replicate 20 0), jzZ_25, jzZ_25, (4, [(4, 49), (1, 1)], []), (101, [], [0, 0, 0, 0, 0, 0]), (101, [], [0, 0, 0, 0, 0, 0]), (101, [], [0, 0, 0, 0, 0, 0]), (101, [], [1, 0, 0, 0, 0, 0]), (101, [], [1, 0, 0, 0, 0, 0]), (100, [], (jenc 0)), (100, [], (jenc 1)), (100, [], (jenc (1 * (jlg 0)))), (101, [], [(-1), 0, 0, 0, 0, 0]), (100, [], (jenc 0)), (100, [], (jenc (-1))), (100, [], (jenc ((-1) * (jlg 0)))), (101, [], [0, 0, 0, 0, 0, 0]), (101, [], [0, 0, 0, 0, 0, 0]), (101, [], [1, 0, 0, 0, 0, 0]), (101, [], [1, 0, 0, 0, 0, 0]), (100, [], (jenc 0)), (100, [], (jenc 1)), (100, [], (jenc (1 * (jlg 0)))), (101, [], [(-1), 0, 0, 0, 0, 0]), (100, [], (jenc 0)), (100, [], (jenc (-1))), (100, [], (jenc ((-1) * (jlg 0)))), (101, [], [0, 0, 0, 0, 0, 0]), (101, [], [0, 0, 0, 0, 0, 0]), (101, [], [1, 0, 0, 0, 0, 0]), (101, [], [1, 0, 0, 0, 0, 0]), (100, [], (jenc 0)), (100, [], (jenc 1)), (100, [], (jenc (1 * (jlg 0)))), (101, [], [(-1), 0, 0, 0, 0, 0]), (100, [], (jenc 0)), (100, [], (jenc (-1))), (100, [], (jenc ((-1) * (jlg 0)))), (101, [], [0, 0, 0, 0, 0, 0]), (101, [], [0, 0, 0, 0, 0, 0]), (101, [], [1, 0, 0, 0, 0, 0]), (101, [], [1, 0, 0, 0, 0, 0]), (100, [], (jenc 0)), (100, [], (jenc 1)), (100, [], (jenc (1 * (jlg 0)))), (101, [], [(-1), 0, 0, 0, 0, 0]), (100, [], (jenc 0)), (100, [], (jenc (-1))), (100, [], (jenc ((-1) * (jlg 0)))), (101, [], [0, 0, 0, 0, 0, 0]), (101, [], [0, 0, 0, 0, 0, 0]), (101, [], [1, 0, 0, 0, 0, 0]), (101, [], [1, 0, 0, 0, 0, 0]), (100, [], (jenc 0)), (100, [], (jenc 1)), (100, [], (jenc (1 * (jlg 0)))), (101, [], [(-1), 0, 0, 0, 0, 0]), (100, [], (jenc 0)), (100, [], (jenc (-1))), (100, [], (jenc ((-1) * (jlg 0))))]
def jpZ_221 : List JC := [jzZ_161, jzZ_201, jgh, jgh, (8, [(4, 30), (4, 31)], []), (2, [(4, 32), (4, 33)], []), jgh, jgh, jgh, jgh, jgh, jgh, jgh, jgh, jzZ_163, (100, [], jS0), jgh, jgh, jgh, jgh, (130, [], [39, 40, 41, 42, 43, 44]), (101, [], [0, 0, 0, 0, 0, 0]), jgh, jgh, jgh, jgh, jgh, jgh, jgh, jgh, (3, [(4, 45), (1, 0)], []), (101, [], [0, 0, 0, 0, 0, 0]), (12, [(4, 46), (0, 21)], []), (12, [(4, 47), (0, 0)], []), jzZ_164, jgh, jgh, jgh, jgh, (100, [], (jenc (jlg 0))), jgh, jgh, jgh, jgh, jgh, (100, [], List.replicate 20 0), jzZ_25, jzZ_25, (4, [(4, 49), (1, 1)], []), (101, [], [0, 0, 0, 0, 0, 0]), (101, [], [0, 0, 0, 0, 0, 0]), (101, [], [0, 0, 0, 0, 0, 0]), (101, [], [1, 0, 0, 0, 0, 0]), (101, [], [1, 0, 0, 0, 0, 0]), (100, [], (jenc 0)), (100, [], (jenc 1)), (100, [], (jenc (1 * (jlg 0)))), (101, [], [(-1), 0, 0, 0, 0, 0]), (100, [], (jenc 0)), (100, [], (jenc (-1))), (100, [], (jenc ((-1) * (jlg 0)))), (101, [], [0, 0, 0, 0, 0, 0]), (101, [], [0, 0, 0, 0, 0, 0]), (101, [], [1, 0, 0, 0, 0, 0]), (101, [], [1, 0, 0, 0, 0, 0]), (100, [], (jenc 0)), (100, [], (jenc 1)), (100, [], (jenc (1 * (jlg 0)))), (101, [], [(-1), 0, 0, 0, 0, 0]), (100, [], (jenc 0)), (100, [], (jenc (-1))), (100, [], (jenc ((-1) * (jlg 0)))), (101, [], [0, 0, 0, 0, 0, 0]), (101, [], [0, 0, 0, 0, 0, 0]), (101, [], [1, 0, 0, 0, 0, 0]), (101, [], [1, 0, 0, 0, 0, 0]), (100, [], (jenc 0)), (100, [], (jenc 1)), (100, [], (jenc (1 * (jlg 0)))), (101, [], [(-1), 0, 0, 0, 0, 0]), (100, [], (jenc 0)), (100, [], (jenc (-1))), (100, [], (jenc ((-1) * (jlg 0)))), (101, [], [0, 0, 0, 0, 0, 0]), (101, [], [0, 0, 0, 0, 0, 0]), (101, [], [1, 0, 0, 0, 0, 0]), (101, [], [1, 0, 0, 0, 0, 0]), (100, [], (jenc 0)), (100, [], (jenc 1)), (100, [], (jenc (1 * (jlg 0)))), (101, [], [(-1), 0, 0, 0, 0, 0]), (100, [], (jenc 0)), (100, [], (jenc (-1))), (100, [], (jenc ((-1) * (jlg 0)))), (101, [], [0, 0, 0, 0, 0, 0]), (101, [], [0, 0, 0, 0, 0, 0]), (101, [], [1, 0, 0, 0, 0, 0]), (101, [], [1, 0, 0, 0, 0, 0]), (100, [], (jenc 0)), (100, [], (jenc 1)), (100, [], (jenc (1 * (jlg 0)))), (101, [], [(-1), 0, 0, 0, 0, 0]), (100, [], (jenc 0)), (100, [], (jenc (-1))), (100, [], (jenc ((-1) * (jlg 0)))), (101, [], [0, 0, 0, 0, 0, 0]), (101, [], [0, 0, 0, 0, 0, 0]), (101, [], [1, 0, 0, 0, 0, 0]), (101, [], [1, 0, 0, 0, 0, 0]), (100, [], (jenc 0)), (100, [], (jenc 1)), (100, [], (jenc (1 * (jlg 0)))), (101, [], [(-1), 0, 0, 0, 0, 0]), (100, [], (jenc 0)), (100, [], (jenc (-1))), (100, [], (jenc ((-1) * (jlg 0))))]
def jpZ_222 : List JC := [jzZ_161, jzZ_201, jgh, jgh, (8, [(4, 30), (4, 31)], []), (2, [(4, 33), (4, 32)], []), jgh, jgh, jgh, jgh, jgh, jgh, jgh, jgh, jzZ_163, (100, [], jS0), jgh, jgh, jgh, jgh, (130, [], [39, 40, 41, 42, 43, 44]), (101, [], [0, 0, 0, 0, 0, 0]), jgh, jgh, jgh, jgh, jgh, jgh, jgh, jgh, (3, [(4, 45), (1, 0)], []), (101, [], [0, 0, 0, 0, 0, 0]), (12, [(4, 46), (0, 0)], []), (12, [(4, 47), (0, 21)], []), jzZ_164, jgh, jgh, jgh, jgh, (100, [], (jenc (jlg 0))), jgh, jgh, jgh, jgh, jgh, (100, [], List.replicate 20 0), jzZ_25, jzZ_25, (4, [(4, 49), (1, 1)], []), (101, [], [0, 0, 0, 0, 0, 0]), (101, [], [0, 0, 0, 0, 0, 0]), (101, [], [0, 0, 0, 0, 0, 0]), (101, [], [1, 0, 0, 0, 0, 0]), (101, [], [1, 0, 0, 0, 0, 0]), (100, [], (jenc 0)), (100, [], (jenc 1)), (100, [], (jenc (1 * (jlg 0)))), (101, [], [(-1), 0, 0, 0, 0, 0]), (100, [], (jenc 0)), (100, [], (jenc (-1))), (100, [], (jenc ((-1) * (jlg 0)))), (101, [], [0, 0, 0, 0, 0, 0]), (101, [], [0, 0, 0, 0, 0, 0]), (101, [], [1, 0, 0, 0, 0, 0]), (101, [], [1, 0, 0, 0, 0, 0]), (100, [], (jenc 0)), (100, [], (jenc 1)), (100, [], (jenc (1 * (jlg 0)))), (101, [], [(-1), 0, 0, 0, 0, 0]), (100, [], (jenc 0)), (100, [], (jenc (-1))), (100, [], (jenc ((-1) * (jlg 0)))), (101, [], [0, 0, 0, 0, 0, 0]), (101, [], [0, 0, 0, 0, 0, 0]), (101, [], [1, 0, 0, 0, 0, 0]), (101, [], [1, 0, 0, 0, 0, 0]), (100, [], (jenc 0)), (100, [], (jenc 1)), (100, [], (jenc (1 * (jlg 0)))), (101, [], [(-1), 0, 0, 0, 0, 0]), (100, [], (jenc 0)), (100, [], (jenc (-1))), (100, [], (jenc ((-1) * (jlg 0)))), (101, [], [0, 0, 0, 0, 0, 0]), (101, [], [0, 0, 0, 0, 0, 0]), (101, [], [1, 0, 0, 0, 0, 0]), (101, [], [1, 0, 0, 0, 0, 0]), (100, [], (jenc 0)), (100, [], (jenc 1)), (100, [], (jenc (1 * (jlg 0)))), (101, [], [(-1), 0, 0, 0, 0, 0]), (100, [], (jenc 0)), (100, [], (jenc (-1))), (100, [], (jenc ((-1) * (jlg 0)))), (101, [], [0, 0, 0, 0, 0, 0]), (101, [], [0, 0, 0, 0, 0, 0]), (101, [], [1, 0, 0, 0, 0, 0]), (101, [], [1, 0, 0, 0, 0, 0]), (100, [], (jenc 0)), (100, [], (jenc 1)), (100, [], (jenc (1 * (jlg 0)))), (101, [], [(-1), 0, 0, 0, 0, 0]), (100, [], (jenc 0)), (100, [], (jenc (-1))), (100, [], (jenc ((-1) * (jlg 0)))), (101, [], [0, 0, 0, 0, 0, 0]), (101, [], [0, 0, 0, 0, 0, 0]), (101, [], [1, 0, 0, 0, 0, 0]), (101, [], [1, 0, 0, 0, 0, 0]), (100, [], (jenc 0)), (100, [], (jenc 1)), (100, [], (jenc (1 * (jlg 0)))), (101, [], [(-1), 0, 0, 0, 0, 0]), (100, [], (jenc 0)), (100, [], (jenc (-1))), (100, [], (jenc ((-1) * (jlg 0))))]
def jpZ_223 : List JC := [jzZ_161, jzZ_201, jgh, jgh, (8, [(4, 30), (4, 31)], []), (2, [(4, 33), (4, 32)], []), jgh, jgh, jgh, jgh, jgh, jgh, jgh, jgh, jzZ_163, (100, [], jS0), jgh, jgh, jgh, jgh, (130, [], [39, 40, 41, 42, 43, 44]), (101, [], [0, 0, 0, 0, 0, 0]), jgh, jgh, jgh, jgh, jgh, jgh, jgh, jgh, (3, [(4, 45), (1, 0)], []), (101, [], [0, 0, 0, 0, 0, 0]), (12, [(4, 46), (0, 0)], []), (12, [(4, 47), (0, 21)], []), jzZ_164, jgh, jgh, jgh, jgh, (100, [], (jenc (jlg 0))), jgh, jgh, jgh, jgh, jgh, (100, [], List.replicate 20 0), jzZ_25, jzZ_25, (4, [(4, 49), (1, 1)], []), (101, [], [0, 0, 0, 0, 0, 0]), (101, [], [0, 0, 0, 0, 0, 0]), (101, [], [0, 0, 0, 0, 0, 0]), (101, [], [1, 0, 0, 0, 0, 0]), (101, [], [1, 0, 0, 0, 0, 0]), (100, [], (jenc 0)), (100, [], (jenc 1)), (100, [], (jenc (1 * (jlg 0)))), (101, [], [(-1), 0, 0, 0, 0, 0]), (100, [], (jenc 0)), (100, [], (jenc (-1))), (100, [], (jenc ((-1) * (jlg 0)))), (101, [], [0, 0, 0, 0, 0, 0]), (101, [], [0, 0, 0, 0, 0, 0]), (101, [], [1, 0, 0, 0, 0, 0]), (101, [], [1, 0, 0, 0, 0, 0]), (100, [], (jenc 0)), (100, [], (jenc 1)), (100, [], (jenc (1 * (jlg 0)))), (101, [], [(-1), 0, 0, 0, 0, 0]), (100, [], (jenc 0)), (100, [], (jenc (-1))), (100, [], (jenc ((-1) * (jlg 0)))), (101, [], [0, 0, 0, 0, 0, 0]), (101, [], [0, 0, 0, 0, 0, 0]), (101, [], [1, 0, 0, 0, 0, 0]), (101, [], [1, 0, 0, 0, 0, 0]), (100, [], (jenc 0)), (100, [], (jenc 1)), (100, [], (jenc (1 * (jlg 0)))), (101, [], [(-1), 0, 0, 0, 0, 0]), (100, [], (jenc 0)), (100, [], (jenc (-1))), (100, [], (jenc ((-1) * (jlg 0)))), (101, [], [0, 0, 0, 0, 0, 0]), (101, [], [0, 0, 0, 0, 0, 0]), (101, [], [1, 0, 0, 0, 0, 0]), (101, [], [1, 0, 0, 0, 0, 0]), (100, [], (jenc 0)), (100, [], (jenc 1)), (100, [], (jenc (1 * (jlg 0)))), (101, [], [(-1), 0, 0, 0, 0, 0]), (100, [], (jenc 0)), (100, [], (jenc (-1))), (100, [], (jenc ((-1) * (jlg 0)))), (101, [], [0, 0, 0, 0, 0, 0]), (101, [], [0, 0, 0, 0, 0, 0]), (101, [], [1, 0, 0, 0, 0, 0]), (101, [], [1, 0, 0, 0, 0, 0]), (100, [], (jenc 0)), (100, [], (jenc 1)), (100, [], (jenc (1 * (jlg 0)))), (101, [], [(-1), 0, 0, 0, 0, 0]), (100, [], (jenc 0)), (100, [], (jenc (-1))), (100, [], (jenc ((-1) * (jlg 0)))), (101, [], [0, 0, 0, 0, 0, 0]), (101, [], [0, 0, 0, 0, 0, 0]), (101, [], [1, 0, 0, 0, 0, 0]), (101, [], [1, 0, 0, 0, 0, 0]), (100, [], (jenc 0)), (100, [], (jenc 1)), (100, [], (jenc (1 * (jlg 0)))), (101, [], [(-1), 0, 0, 0, 0, 0]), (100, [], (jenc 0)), (100, [], (jenc (-1))), (100, [], (jenc ((-1) * (jlg 0)))), (101, [], [0, 0, 0, 0, 0, 0]), (101, [], [0, 0, 0, 0, 0, 0]), (101, [], [1, 0, 0, 0, 0, 0]), (101, [], [1, 0, 0, 0, 0, 0]), (100, [], (jenc 0)), (100, [], (jenc 1)), (100, [], (jenc (1 * (jlg 0)))), (101, [], [(-1), 0, 0, 0, 0, 0]), (100, [], (jenc 0)), (100, [], (jenc (-1))), (100, [], (jenc ((-1) * (jlg 0))))]
def jpZ_224 : List JC := [jzZ_161, jzZ_201, jgh, jgh, (8, [(4, 30), (4, 31)], []), (2, [(4, 32), (4, 33)], []), jgh, jgh, jgh, jgh, jgh, jgh, jgh, jgh, jzZ_163, (100, [], jS0), jgh, jgh, jgh, jgh, (130, [], [39, 40, 41, 42, 43, 44]), (101, [], [0, 0, 0, 0, 0, 0]), jgh, jgh, jgh, jgh, jgh, jgh, jgh, jgh, (3, [(4, 45), (1, 0)], []), (101, [], [0, 0, 0, 0, 0, 0]), (12, [(4, 46), (0, 21)], []), (12, [(4, 47), (0, 0)], []), jzZ_164, jgh, jgh, jgh, jgh, (100, [], (jenc (jlg 0))), jgh, jgh, jgh, jgh, jgh, (100, [], List.replicate 20 0), jzZ_25, jzZ_25, (4, [(4, 49), (1, 1)], []), (101, [], [0, 0, 0, 0, 0, 0]), (101, [], [0, 0, 0, 0, 0, 0]), (101, [], [0, 0, 0, 0, 0, 0]), (101, [], [1, 0, 0, 0, 0, 0]), (101, [], [1, 0, 0, 0, 0, 0]), (100, [], (jenc 0)), (100, [], (jenc 1)), (100, [], (jenc (1 * (jlg 0)))), (101, [], [(-1), 0, 0, 0, 0, 0]), (100, [], (jenc 0)), (100, [], (jenc (-1))), (100, [], (jenc ((-1) * (jlg 0)))), (101, [], [0, 0, 0, 0, 0, 0]), (101, [], [0, 0, 0, 0, 0, 0]), (101, [], [1, 0, 0, 0, 0, 0]), (101, [], [1, 0, 0, 0, 0, 0]), (100, [], (jenc 0)), (100, [], (jenc 1)), (100, [], (jenc (1 * (jlg 0)))), (101, [], [(-1), 0, 0, 0, 0, 0]), (100, [], (jenc 0)), (100, [], (jenc (-1))), (100, [], (jenc ((-1) * (jlg 0)))), (101, [], [0, 0, 0, 0, 0, 0]), (101, [], [0, 0, 0, 0, 0, 0]), (101, [], [1, 0, 0, 0, 0, 0]), (101, [], [1, 0, 0, 0, 0, 0]), (100, [], (jenc 0)), (100, [], (jenc 1)), (100, [], (jenc (1 * (jlg 0)))), (101, [], [(-1), 0, 0, 0, 0, 0]), (100, [], (jenc 0)), (100, [], (jenc (-1))), (100, [], (jenc ((-1) * (jlg 0)))), (101, [], [0, 0, 0, 0, 0, 0]), (101, [], [0, 0, 0, 0, 0, 0]), (101, [], [1, 0, 0, 0, 0, 0]), (101, [], [1, 0, 0, 0, 0, 0]), (100, [], (jenc 0)), (100, [], (jenc 1)), (100, [], (jenc (1 * (jlg 0)))), (101, [], [(-1), 0, 0, 0, 0, 0]), (100, [], (jenc 0)), (100, [], (jenc (-1))), (100, [], (jenc ((-1) * (jlg 0)))), (101, [], [0, 0, 0, 0, 0, 0]), (101, [], [0, 0, 0, 0, 0, 0]), (101, [], [1, 0, 0, 0, 0, 0]), (101, [], [1, 0, 0, 0, 0, 0]), (100, [], (jenc 0)), (100, [], (jenc 1)), (100, [], (jenc (1 * (jlg 0)))), (101, [], [(-1), 0, 0, 0, 0, 0]), (100, [], (jenc 0)), (100, [], (jenc (-1))), (100, [], (jenc ((-1) * (jlg 0)))), (101, [], [0, 0, 0, 0, 0, 0]), (101, [], [0, 0, 0, 0, 0, 0]), (101, [], [1, 0, 0, 0, 0, 0]), (101, [], [1, 0, 0, 0, 0, 0]), (100, [], (jenc 0)), (100, [], (jenc 1)), (100, [], (jenc (1 * (jlg 0)))), (101, [], [(-1), 0, 0, 0, 0, 0]), (100, [], (jenc 0)), (100, [], (jenc (-1))), (100, [], (jenc ((-1) * (jlg 0)))), (101, [], [0, 0, 0, 0, 0, 0]), (101, [], [0, 0, 0, 0, 0, 0]), (101, [], [1, 0, 0, 0, 0, 0]), (101, [], [1, 0, 0, 0, 0, 0]), (100, [], (jenc 0)), (100, [], (jenc 1)), (100, [], (jenc (1 * (jlg 0)))), (101, [], [(-1), 0, 0, 0, 0, 0]), (100, [], (jenc 0)), (100, [], (jenc (-1))), (100, [], (jenc ((-1) * (jlg 0))))]
def jpZ_225 : List JC := [jzZ_161, jzZ_201, jgh, jgh, (8, [(4, 30), (4, 31)], []), (2, [(4, 32), (4, 33)], []), jgh, jgh, jgh, jgh, jgh, jgh, jgh, jgh, jzZ_163, (100, [], jS0), jgh, jgh, jgh, jgh, (130, [], [39, 40, 41, 42, 43, 44]), (101, [], [0, 0, 0, 0, 0, 0]), jgh, jgh, jgh, jgh, jgh, jgh, jgh, jgh, (3, [(4, 45), (1, 0)], []), (101, [], [0, 0, 0, 0, 0, 0]), (12, [(4, 46), (0, 21)], []), (12, [(4, 47), (0, 0)], []), jzZ_164, jgh, jgh, jgh, jgh, (100, [], (jenc (jlg 0))), jgh, jgh, jgh, jgh, jgh, (100, [], List.replicate 20 0), jzZ_25, jzZ_25, (4, [(4, 49), (1, 1)], []), (101, [], [0, 0, 0, 0, 0, 0]), (101, [], [0, 0, 0, 0, 0, 0]), (101, [], [0, 0, 0, 0, 0, 0]), (101, [], [1, 0, 0, 0, 0, 0]), (101, [], [1, 0, 0, 0, 0, 0]), (100, [], (jenc 0)), (100, [], (jenc 1)), (100, [], (jenc (1 * (jlg 0)))), (101, [], [(-1), 0, 0, 0, 0, 0]), (100, [], (jenc 0)), (100, [], (jenc (-1))), (100, [], (jenc ((-1) * (jlg 0)))), (101, [], [0, 0, 0, 0, 0, 0]), (101, [], [0, 0, 0, 0, 0, 0]), (101, [], [1, 0, 0, 0, 0, 0]), (101, [], [1, 0, 0, 0, 0, 0]), (100, [], (jenc 0)), (100, [], (jenc 1)), (100, [], (jenc (1 * (jlg 0)))), (101, [], [(-1), 0, 0, 0, 0, 0]), (100, [], (jenc 0)), (100, [], (jenc (-1))), (100, [], (jenc ((-1) * (jlg 0)))), (101, [], [0, 0, 0, 0, 0, 0]), (101, [], [0, 0, 0, 0, 0, 0]), (101, [], [1, 0, 0, 0, 0, 0]), (101, [], [1, 0, 0, 0, 0, 0]), (100, [], (jenc 0)), (100, [], (jenc 1)), (100, [], (jenc (1 * (jlg 0)))), (101, [], [(-1), 0, 0, 0, 0, 0]), (100, [], (jenc 0)), (100, [], (jenc (-1))), (100, [], (jenc ((-1) * (jlg 0)))), (101, [], [0, 0, 0, 0, 0, 0]), (101, [], [0, 0, 0, 0, 0, 0]), (101, [], [1, 0, 0, 0, 0, 0]), (101, [], [1, 0, 0, 0, 0, 0]), (100, [], (jenc 0)), (100, [], (jenc 1)), (100, [], (jenc (1 * (jlg 0)))), (101, [], [(-1), 0, 0, 0, 0, 0]), (100, [], (jenc 0)), (100, [], (jenc (-1))), (100, [], (jenc ((-1) * (jlg 0)))), (101, [], [0, 0, 0, 0, 0, 0]), (101, [], [0, 0, 0, 0, 0, 0]), (101, [], [1, 0, 0, 0, 0, 0]), (101, [], [1, 0, 0, 0, 0, 0]), (100, [], (jenc 0)), (100, [], (jenc 1)), (100, [], (jenc (1 * (jlg 0)))), (101, [], [(-1), 0, 0, 0, 0, 0]), (100, [], (jenc 0)), (100, [], (jenc (-1))), (100, [], (jenc ((-1) * (jlg 0)))), (101, [], [0, 0, 0, 0, 0, 0]), (101, [], [0, 0, 0, 0, 0, 0]), (101, [], [1, 0, 0, 0, 0, 0]), (101, [], [1, 0, 0, 0, 0, 0]), (100, [], (jenc 0)), (100, [], (jenc 1)), (100, [], (jenc (1 * (jlg 0)))), (101, [], [(-1), 0, 0, 0, 0, 0]), (100, [], (jenc 0)), (100, [], (jenc (-1))), (100, [], (jenc ((-1) * (jlg 0)))), (101, [], [0, 0, 0, 0, 0, 0]), (101, [], [0, 0, 0, 0, 0, 0]), (101, [], [1, 0, 0, 0, 0, 0]), (101, [], [1, 0, 0, 0, 0, 0]), (100, [], (jenc 0)), (100, [], (jenc 1)), (100, [], (jenc (1 * (jlg 0)))), (101, [], [(-1), 0, 0, 0, 0, 0]), (100, [], (jenc 0)), (100, [], (jenc (-1))), (100, [], (jenc ((-1) * (jlg 0)))), (101, [], [0, 0, 0, 0, 0, 0]), (101, [], [0, 0, 0, 0, 0, 0]), (101, [], [1, 0, 0, 0, 0, 0]), (101, [], [1, 0, 0, 0, 0, 0]), (100, [], (jenc 0)), (100, [], (jenc 1)), (100, [], (jenc (1 * (jlg 0)))), (101, [], [(-1), 0, 0, 0, 0, 0]), (100, [], (jenc 0)), (100, [], (jenc (-1))), (100, [], (jenc ((-1) * (jlg 0))))]
def jpZ_226 : List JC := [jzZ_161, jzZ_201, jgh, jgh, (8, [(4, 30), (4, 31)], []), (2, [(4, 33), (4, 32)], []), jgh, jgh, jgh, jgh, jgh, jgh, jgh, jgh, jzZ_163, (100, [], jS0), jgh, jgh, jgh, jgh, (130, [], [39, 40, 41, 42, 43, 44]), (101, [], [0, 0, 0, 0, 0, 0]), jgh, jgh, jgh, jgh, jgh, jgh, jgh, jgh, (3, [(4, 45), (1, 0)], []), (101, [], [0, 0, 0, 0, 0, 0]), (12, [(4, 46), (0, 0)], []), (12, [(4, 47), (0, 21)], []), jzZ_164, jgh, jgh, jgh, jgh, (100, [], (jenc (jlg 0))), jgh, jgh, jgh, jgh, jgh, (100, [], List.replicate 20 0), jzZ_25, jzZ_25, (4, [(4, 49), (1, 1)], []), (101, [], [0, 0, 0, 0, 0, 0]), (101, [], [0, 0, 0, 0, 0, 0]), (101, [], [0, 0, 0, 0, 0, 0]), (101, [], [1, 0, 0, 0, 0, 0]), (101, [], [1, 0, 0, 0, 0, 0]), (100, [], (jenc 0)), (100, [], (jenc 1)), (100, [], (jenc (1 * (jlg 0)))), (101, [], [(-1), 0, 0, 0, 0, 0]), (100, [], (jenc 0)), (100, [], (jenc (-1))), (100, [], (jenc ((-1) * (jlg 0)))), (101, [], [0, 0, 0, 0, 0, 0]), (101, [], [0, 0, 0, 0, 0, 0]), (101, [], [1, 0, 0, 0, 0, 0]), (101, [], [1, 0, 0, 0, 0, 0]), (100, [], (jenc 0)), (100, [], (jenc 1)), (100, [], (jenc (1 * (jlg 0)))), (101, [], [(-1), 0, 0, 0, 0, 0]), (100, [], (jenc 0)), (100, [], (jenc (-1))), (100, [], (jenc ((-1) * (jlg 0)))), (101, [], [0, 0, 0, 0, 0, 0]), (101, [], [0, 0, 0, 0, 0, 0]), (101, [], [1, 0, 0, 0, 0, 0]), (101, [], [1, 0, 0, 0, 0, 0]), (100, [], (jenc 0)), (100, [], (jenc 1)), (100, [], (jenc (1 * (jlg 0)))), (101, [], [(-1), 0, 0, 0, 0, 0]), (100, [], (jenc 0)), (100, [], (jenc (-1))), (100, [], (jenc ((-1) * (jlg 0)))), (101, [], [0, 0, 0, 0, 0, 0]), (101, [], [0, 0, 0, 0, 0, 0]), (101, [], [1, 0, 0, 0, 0, 0]), (101, [], [1, 0, 0, 0, 0, 0]), (100, [], (jenc 0)), (100, [], (jenc 1)), (100, [], (jenc (1 * (jlg 0)))), (101, [], [(-1), 0, 0, 0, 0, 0]), (100, [], (jenc 0)), (100, [], (jenc (-1))), (100, [], (jenc ((-1) * (jlg 0)))), (101, [], [0, 0, 0, 0, 0, 0]), (101, [], [0, 0, 0, 0, 0, 0]), (101, [], [1, 0, 0, 0, 0, 0]), (101, [], [1, 0, 0, 0, 0, 0]), (100, [], (jenc 0)), (100, [], (jenc 1)), (100, [], (jenc (1 * (jlg 0)))), (101, [], [(-1), 0, 0, 0, 0, 0]), (100, [], (jenc 0)), (100, [], (jenc (-1))), (100, [], (jenc ((-1) * (jlg 0)))), (101, [], [0, 0, 0, 0, 0, 0]), (101, [], [0, 0, 0, 0, 0, 0]), (101, [], [1, 0, 0, 0, 0, 0]), (101, [], [1, 0, 0, 0, 0, 0]), (100, [], (jenc 0)), (100, [], (jenc 1)), (100, [], (jenc (1 * (jlg 0)))), (101, [], [(-1), 0, 0, 0, 0, 0]), (100, [], (jenc 0)), (100, [], (jenc (-1))), (100, [], (jenc ((-1) * (jlg 0)))), (101, [], [0, 0, 0, 0, 0, 0]), (101, [], [0, 0, 0, 0, 0, 0]), (101, [], [1, 0, 0, 0, 0, 0]), (101, [], [1, 0, 0, 0, 0, 0]), (100, [], (jenc 0)), (100, [], (jenc 1)), (100, [], (jenc (1 * (jlg 0)))), (101, [], [(-1), 0, 0, 0, 0, 0]), (100, [], (jenc 0)), (100, [], (jenc (-1))), (100, [], (jenc ((-1) * (jlg 0)))), (101, [], [0, 0, 0, 0, 0, 0]), (101, [], [0, 0, 0, 0, 0, 0]), (101, [], [1, 0, 0, 0, 0, 0]), (101, [], [1, 0, 0, 0, 0, 0]), (100, [], (jenc 0)), (100, [], (jenc 1)), (100, [], (jenc (1 * (jlg 0)))), (101, [], [(-1), 0, 0, 0, 0, 0]), (100, [], (jenc 0)), (100, [], (jenc (-1))), (100, [], (jenc ((-1) * (jlg 0))))]
def jpZ_227 : List JC := [jzZ_161, jzZ_201, jgh, jgh, (8, [(4, 30), (4, 31)], []), (2, [(4, 33), (4, 32)], []), jgh, jgh, jgh, jgh, jgh, jgh, jgh, jgh, jzZ_163, (100, [], jS0), jgh, jgh, jgh, jgh, (130, [], [39, 40, 41, 42, 43, 44]), (101, [], [0, 0, 0, 0, 0, 0]), jgh, jgh, jgh, jgh, jgh, jgh, jgh, jgh, (3, [(4, 45), (1, 0)], []), (101, [], [0, 0, 0, 0, 0, 0]), (12, [(4, 46), (0, 0)], []), (12, [(4, 47), (0, 21)], []), jzZ_164, jgh, jgh, jgh, jgh, (100, [], (jenc (jlg 0))), jgh, jgh, jgh, jgh, jgh, (100, [], List.replicate 20 0), jzZ_25, jzZ_25, (4, [(4, 49), (1, 1)], []), (101, [], [0, 0, 0, 0, 0, 0]), (101, [], [0, 0, 0, 0, 0, 0]), (101, [], [0, 0, 0, 0, 0, 0]), (101, [], [1, 0, 0, 0, 0, 0]), (101, [], [1, 0, 0, 0, 0, 0]), (100, [], (jenc 0)), (100, [], (jenc 1)), (100, [], (jenc (1 * (jlg 0)))), (101, [], [(-1), 0, 0, 0, 0, 0]), (100, [], (jenc 0)), (100, [], (jenc (-1))), (100, [], (jenc ((-1) * (jlg 0)))), (101, [], [0, 0, 0, 0, 0, 0]), (101, [], [0, 0, 0, 0, 0, 0]), (101, [], [1, 0, 0, 0, 0, 0]), (101, [], [1, 0, 0, 0, 0, 0]), (100, [], (jenc 0)), (100, [], (jenc 1)), (100, [], (jenc (1 * (jlg 0)))), (101, [], [(-1), 0, 0, 0, 0, 0]), (100, [], (jenc 0)), (100, [], (jenc (-1))), (100, [], (jenc ((-1) * (jlg 0)))), (101, [], [0, 0, 0, 0, 0, 0]), (101, [], [0, 0, 0, 0, 0, 0]), (101, [], [1, 0, 0, 0, 0, 0]), (101, [], [1, 0, 0, 0, 0, 0]), (100, [], (jenc 0)), (100, [], (jenc 1)), (100, [], (jenc (1 * (jlg 0)))), (101, [], [(-1), 0, 0, 0, 0, 0]), (100, [], (jenc 0)), (100, [], (jenc (-1))), (100, [], (jenc ((-1) * (jlg 0)))), (101, [], [0, 0, 0, 0, 0, 0]), (101, [], [0, 0, 0, 0, 0, 0]), (101, [], [1, 0, 0, 0, 0, 0]), (101, [], [1, 0, 0, 0, 0, 0]), (100, [], (jenc 0)), (100, [], (jenc 1)), (100, [], (jenc (1 * (jlg 0)))), (101, [], [(-1), 0, 0, 0, 0, 0]), (100, [], (jenc 0)), (100, [], (jenc (-1))), (100, [], (jenc ((-1) * (jlg 0)))), (101, [], [0, 0, 0, 0, 0, 0]), (101, [], [0, 0, 0, 0, 0, 0]), (101, [], [1, 0, 0, 0, 0, 0]), (101, [], [1, 0, 0, 0, 0, 0]), (100, [], (jenc 0)), (100, [], (jenc 1)), (100, [], (jenc (1 * (jlg 0)))), (101, [], [(-1), 0, 0, 0, 0, 0]), (100, [], (jenc 0)), (100, [], (jenc (-1))), (100, [], (jenc ((-1) * (jlg 0)))), (101, [], [0, 0, 0, 0, 0, 0]), (101, [], [0, 0, 0, 0, 0, 0]), (101, [], [1, 0, 0, 0, 0, 0]), (101, [], [1, 0, 0, 0, 0, 0]), (100, [], (jenc 0)), (100, [], (jenc 1)), (100, [], (jenc (1 * (jlg 0)))), (101, [], [(-1), 0, 0, 0, 0, 0]), (100, [], (jenc 0)), (100, [], (jenc (-1))), (100, [], (jenc ((-1) * (jlg 0)))), (101, [], [0, 0, 0, 0, 0, 0]), (101, [], [0, 0, 0, 0, 0, 0]), (101, [], [1, 0, 0, 0, 0, 0]), (101, [], [1, 0, 0, 0, 0, 0]), (100, [], (jenc 0)), (100, [], (jenc 1)), (100, [], (jenc (1 * (jlg 0)))), (101, [], [(-1), 0, 0, 0, 0, 0]), (100, [], (jenc 0)), (100, [], (jenc (-1))), (100, [], (jenc ((-1) * (jlg 0)))), (101, [], [0, 0, 0, 0, 0, 0]), (101, [], [0, 0, 0, 0, 0, 0]), (101, [], [1, 0, 0, 0, 0, 0]), (101, [], [1, 0, 0, 0, 0, 0]), (100, [], (jenc 0)), (100, [], (jenc 1)), (100, [], (jenc (1 * (jlg 0)))), (101, [], [(-1), 0, 0, 0, 0, 0]), (100, [], (jenc 0)), (100, [], (jenc (-1))), (100, [], (jenc ((-1) * (jlg 0)))), (101, [], [0, 0, 0, 0, 0, 0]), (101, [], [0, 0, 0, 0, 0, 0]), (101, [], [1, 0, 0, 0, 0, 0]), (101, [], [1, 0, 0, 0, 0, 0]), (100, [], (jenc 0)), (100, [], (jenc 1)), (100, [], (jenc (1 * (jlg 0)))), (101, [], [(-1), 0, 0, 0, 0, 0]), (100, [], (jenc 0)), (100, [], (jenc (-1))), (100, [], (jenc ((-1) * (jlg 0))))]
def jpZ_228 : List JC := [jzZ_161, jzZ_201, jgh, jgh, (8, [(4, 30), (4, 31)], []), (2, [(4, 32), (4, 33)], []), jgh, jgh, jgh, jgh, jgh, jgh, jgh, jgh, jzZ_163, (100, [], jS0), jgh, jgh, jgh, jgh, (130, [], [39, 40, 41, 42, 43, 44]), (101, [], [0, 0, 0, 0, 0, 0]), jgh, jgh, jgh, jgh, jgh, jgh, jgh, jgh, (3, [(4, 45), (1, 0)], []), (101, [], [0, 0, 0, 0, 0, 0]), (12, [(4, 46), (0, 21)], []), (12, [(4, 47), (0, 0)], []), jzZ_164, jgh, jgh, jgh, jgh, (100, [], (jenc (jlg 0))), jgh, jgh, jgh, jgh, jgh, (100, [], List.replicate 20 0), jzZ_25, jzZ_25, (4, [(4, 49), (1, 1)], []), (101, [], [0, 0, 0, 0, 0, 0]), (101, [], [0, 0, 0, 0, 0, 0]), (101, [], [0, 0, 0, 0, 0, 0]), (101, [], [1, 0, 0, 0, 0, 0]), (101, [], [1, 0, 0, 0, 0, 0]), (100, [], (jenc 0)), (100, [], (jenc 1)), (100, [], (jenc (1 * (jlg 0)))), (101, [], [(-1), 0, 0, 0, 0, 0]), (100, [], (jenc 0)), (100, [], (jenc (-1))), (100, [], (jenc ((-1) * (jlg 0)))), (101, [], [0, 0, 0, 0, 0, 0]), (101, [], [0, 0, 0, 0, 0, 0]), (101, [], [1, 0, 0, 0, 0, 0]), (101, [], [1, 0, 0, 0, 0, 0]), (100, [], (jenc 0)), (100, [], (jenc 1)), (100, [], (jenc (1 * (jlg 0)))), (101, [], [(-1), 0, 0, 0, 0, 0]), (100, [], (jenc 0)), (100, [], (jenc (-1))), (100, [], (jenc ((-1) * (jlg 0)))), (101, [], [0, 0, 0, 0, 0, 0]), (101, [], [0, 0, 0, 0, 0, 0]), (101, [], [1, 0, 0, 0, 0, 0]), (101, [], [1, 0, 0, 0, 0, 0]), (100, [], (jenc 0)), (100, [], (jenc 1)), (100, [], (jenc (1 * (jlg 0)))), (101, [], [(-1), 0, 0, 0, 0, 0]), (100, [], (jenc 0)), (100, [], (jenc (-1))), (100, [], (jenc ((-1) * (jlg 0)))), (101, [], [0, 0, 0, 0, 0, 0]), (101, [], [0, 0, 0, 0, 0, 0]), (101, [], [1, 0, 0, 0, 0, 0]), (101, [], [1, 0, 0, 0, 0, 0]), (100, [], (jenc 0)), (100, [], (jenc 1)), (100, [], (jenc (1 * (jlg 0)))), (101, [], [(-1), 0, 0, 0, 0, 0]), (100, [], (jenc 0)), (100, [], (jenc (-1))), (100, [], (jenc ((-1) * (jlg 0)))), (101, [], [0, 0, 0, 0, 0, 0]), (101, [], [0, 0, 0, 0, 0, 0]), (101, [], [1, 0, 0, 0, 0, 0]), (101, [], [1, 0, 0, 0, 0, 0]), (100, [], (jenc 0)), (100, [], (jenc 1)), (100, [], (jenc (1 * (jlg 0)))), (101, [], [(-1), 0, 0, 0, 0, 0]), (100, [], (jenc 0)), (100, [], (jenc (-1))), (100, [], (jenc ((-1) * (jlg 0)))), (101, [], [0, 0, 0, 0, 0, 0]), (101, [], [0, 0, 0, 0, 0, 0]), (101, [], [1, 0, 0, 0, 0, 0]), (101, [], [1, 0, 0, 0, 0, 0]), (100, [], (jenc 0)), (100, [], (jenc 1)), (100, [], (jenc (1 * (jlg 0)))), (101, [], [(-1), 0, 0, 0, 0, 0]), (100, [], (jenc 0)), (100, [], (jenc (-1))), (100, [], (jenc ((-1) * (jlg 0)))), (101, [], [0, 0, 0, 0, 0, 0]), (101, [], [0, 0, 0, 0, 0, 0]), (101, [], [1, 0, 0, 0, 0, 0]), (101, [], [1, 0, 0, 0, 0, 0]), (100, [], (jenc 0)), (100, [], (jenc 1)), (100, [], (jenc (1 * (jlg 0)))), (101, [], [(-1), 0, 0, 0, 0, 0]), (100, [], (jenc 0)), (100, [], (jenc (-1))), (100, [], (jenc ((-1) * (jlg 0)))), (101, [], [0, 0, 0, 0, 0, 0]), (101, [], [0, 0, 0, 0, 0, 0]), (101, [], [1, 0, 0, 0, 0, 0]), (101, [], [1, 0, 0, 0, 0, 0]), (100, [], (jenc 0)), (100, [], (jenc 1)), (100, [], (jenc (1 * (jlg 0)))), (101, [], [(-1), 0, 0, 0, 0, 0]), (100, [], (jenc 0)), (100, [], (jenc (-1))), (100, [], (jenc ((-1) * (jlg 0)))), (101, [], [0, 0, 0, 0, 0, 0]), (101, [], [0, 0, 0, 0, 0, 0]), (101, [], [1, 0, 0, 0, 0, 0]), (101, [], [1, 0, 0, 0, 0, 0]), (100, [], (jenc 0)), (100, [], (jenc 1)), (100, [], (jenc (1 * (jlg 0)))), (101, [], [(-1), 0, 0, 0, 0, 0]), (100, [], (jenc 0)), (100, [], (jenc (-1))), (100, [], (jenc ((-1) * (jlg 0))))]
def jpZ_229 : List JC := [jzZ_161, jzZ_201, jgh, jgh, (8, [(4, 30), (4, 31)], []), (2, [(4, 32), (4, 33)], []), jgh, jgh, jgh, jgh, jgh, jgh, jgh, jgh, jzZ_163, (100, [], jS0), jgh, jgh, jgh, jgh, (130, [], [39, 40, 41, 42, 43, 44]), (101, [], [0, 0, 0, 0, 0, 0]), jgh, jgh, jgh, jgh, jgh, jgh, jgh, jgh, (3, [(4, 45), (1, 0)], []), (101, [], [0, 0, 0, 0, 0, 0]), (12, [(4, 46), (0, 21)], []), (12, [(4, 47), (0, 0)], []), jzZ_164, jgh, jgh, jgh, jgh, (100, [], (jenc (jlg 0))), jgh, jgh, jgh, jgh, jgh, (100, [], List.replicate 20 0), jzZ_25, jzZ_25, (4, [(4, 49), (1, 1)], []), (101, [], [0, 0, 0, 0, 0, 0]), (101, [], [0, 0, 0, 0, 0, 0]), (101, [], [0, 0, 0, 0, 0, 0]), (101, [], [1, 0, 0, 0, 0, 0]), (101, [], [1, 0, 0, 0, 0, 0]), (100, [], (jenc 0)), (100, [], (jenc 1)), (100, [], (jenc (1 * (jlg 0)))), (101, [], [(-1), 0, 0, 0, 0, 0]), (100, [], (jenc 0)), (100, [], (jenc (-1))), (100, [], (jenc ((-1) * (jlg 0)))), (101, [], [0, 0, 0, 0, 0, 0]), (101, [], [0, 0, 0, 0, 0, 0]), (101, [], [1, 0, 0, 0, 0, 0]), (101, [], [1, 0, 0, 0, 0, 0]), (100, [], (jenc 0)), (100, [], (jenc 1)), (100, [], (jenc (1 * (jlg 0)))), (101, [], [(-1), 0, 0, 0, 0, 0]), (100, [], (jenc 0)), (100, [], (jenc (-1))), (100, [], (jenc ((-1) * (jlg 0)))), (101, [], [0, 0, 0, 0, 0, 0]), (101, [], [0, 0, 0, 0, 0, 0]), (101, [], [1, 0, 0, 0, 0, 0]), (101, [], [1, 0, 0, 0, 0, 0]), (100, [], (jenc 0)), (100, [], (jenc 1)), (100, [], (jenc (1 * (jlg 0)))), (101, [], [(-1), 0, 0, 0, 0, 0]), (100, [], (jenc 0)), (100, [], (jenc (-1))), (100, [], (jenc ((-1) * (jlg 0)))), (101, [], [0, 0, 0, 0, 0, 0]), (101, [], [0, 0, 0, 0, 0, 0]), (101, [], [1, 0, 0, 0, 0, 0]), (101, [], [1, 0, 0, 0, 0, 0]), (100, [], (jenc 0)), (100, [], (jenc 1)), (100, [], (jenc (1 * (jlg 0)))), (101, [], [(-1), 0, 0, 0, 0, 0]), (100, [], (jenc 0)), (100, [], (jenc (-1))), (100, [], (jenc ((-1) * (jlg 0)))), (101, [], [0, 0, 0, 0, 0, 0]), (101, [], [0, 0, 0, 0, 0, 0]), (101, [], [1, 0, 0, 0, 0, 0]), (101, [], [1, 0, 0, 0, 0, 0]), (100, [], (jenc 0)), (100, [], (jenc 1)), (100, [], (jenc (1 * (jlg 0)))), (101, [], [(-1), 0, 0, 0, 0, 0]), (100, [], (jenc 0)), (100, [], (jenc (-1))), (100, [], (jenc ((-1) * (jlg 0)))), (101, [], [0, 0, 0, 0, 0, 0]), (101, [], [0, 0, 0, 0, 0, 0]), (101, [], [1, 0, 0, 0, 0, 0]), (101, [], [1, 0, 0, 0, 0, 0]), (100, [], (jenc 0)), (100, [], (jenc 1)), (100, [], (jenc (1 * (jlg 0)))), (101, [], [(-1), 0, 0, 0, 0, 0]), (100, [], (jenc 0)), (100, [], (jenc (-1))), (100, [], (jenc ((-1) * (jlg 0)))), (101, [], [0, 0, 0, 0, 0, 0]), (101, [], [0, 0, 0, 0, 0, 0]), (101, [], [1, 0, 0, 0, 0, 0]), (101, [], [1, 0, 0, 0, 0, 0]), (100, [], (jenc 0)), (100, [], (jenc 1)), (100, [], (jenc (1 * (jlg 0)))), (101, [], [(-1), 0, 0, 0, 0, 0]), (100, [], (jenc 0)), (100, [], (jenc (-1))), (100, [], (jenc ((-1) * (jlg 0)))), (101, [], [0, 0, 0, 0, 0, 0]), (101, [], [0, 0, 0, 0, 0, 0]), (101, [], [1, 0, 0, 0, 0, 0]), (101, [], [1, 0, 0, 0, 0, 0]), (100, [], (jenc 0)), (100, [], (jenc 1)), (100, [], (jenc (1 * (jlg 0)))), (101, [], [(-1), 0, 0, 0, 0, 0]), (100, [], (jenc 0)), (100, [], (jenc (-1))), (100, [], (jenc ((-1) * (jlg 0)))), (101, [], [0, 0, 0, 0, 0, 0]), (101, [], [0, 0, 0, 0, 0, 0]), (101, [], [1, 0, 0, 0, 0, 0]), (101, [], [1, 0, 0, 0, 0, 0]), (100, [], (jenc 0)), (100, [], (jenc 1)), (100, [], (jenc (1 * (jlg 0)))), (101, [], [(-1), 0, 0, 0, 0, 0]), (100, [], (jenc 0)), (100, [], (jenc (-1))), (100, [], (jenc ((-1) * (jlg 0)))), (101, [], [0, 0, 0, 0, 0, 0]), (101, [], [0, 0, 0, 0, 0, 0]), (101, [], [1, 0, 0, 0, 0, 0]), (101, [], [1, 0, 0, 0, 0, 0]), (100, [], (jenc 0)), (100, [], (jenc 1)), (100, [], (jenc (1 * (jlg 0)))), (101, [], [(-1), 0, 0, 0, 0, 0]), (100, [], (jenc 0)), (100, [], (jenc (-1))), (100, [], (jenc ((-1) * (jlg 0))))]
theorem jIZ_379_3746 : jmI (jm 379) 3746 = (.iconst 1, 1) := by rfl
set_option maxRecDepth 100000 in
set_option maxHeartbeats 4000000 in
theorem jZ_run {d : Nat} : jT jXS (d + 9) 379 50 28 [(5, (0, 0)), (4, (4, 3)), (3, (4, 2)), (2, (4, 1)), (1, (4, 0)), (0, (6, 0))] [] jpZ_165 220010 7320060 (fun k v hsN => k = 0 ∧ v = (0, 1)) := by
  refine jT_xiload (v := (0, 0)) (pcN := 30) jIZ_379_28 rfl rfl rfl ?_
  refine jT_xaload_n (v := (6, 0)) (pcN := 31) jIZ_379_30 rfl rfl rfl ?_
  refine jT_adv 1 (pcN := 32) (LN := [(5, (0, 0)), (4, (4, 3)), (3, (4, 2)), (2, (4, 1)), (1, (4, 0)), (0, (6, 0))]) (stN := [(0, 50), (0, 0)]) (hsN := jpZ_165) (c1 := 0) (s1 := 0) (c2 := 220010) (s2 := 7320060) (by exact rfl) ?_ (by omega) (by omega)
  refine jT_xiconst (k := 5) (pcN := 33) jIZ_379_32 rfl ?_
  refine jT_xisub (x := 50) (y := 5) (z := 45) (pcN := 34) jIZ_379_33 rfl (by decide) rfl ?_
  refine jT_xicF (t := 3746) (pcN := 37) jIZ_379_34 rfl (by decide +kernel) rfl rfl ?_
  refine jT_xaload_n (v := (6, 0)) (pcN := 38) jIZ_379_37 rfl rfl rfl ?_
  refine jT_xiload (v := (0, 0)) (pcN := 40) jIZ_379_38 rfl rfl rfl ?_
  refine jT_adv 1 (pcN := 41) (LN := [(5, (0, 0)), (4, (4, 3)), (3, (4, 2)), (2, (4, 1)), (1, (4, 0)), (0, (6, 0))]) (stN := [(0, 34)]) (hsN := jpZ_165) (c1 := 0) (s1 := 0) (c2 := 220010) (s2 := 7320060) (by exact rfl) ?_ (by omega) (by omega)
  refine jT_xbipush (k := 63) (pcN := 43) jIZ_379_41 (by decide) rfl ?_
  refine jT_iand (x := 34) (y := 63) (z := 34) (by rfl) (by rfl) (by decide +kernel) ?_
  refine jT_adv 1 (pcN := 2598) (LN := [(5, (0, 0)), (4, (4, 3)), (3, (4, 2)), (2, (4, 1)), (1, (4, 0)), (0, (6, 0))]) (stN := []) (hsN := jpZ_165) (c1 := 0) (s1 := 0) (c2 := 220010) (s2 := 7320060) (by exact rfl) ?_ (by omega) (by omega)
  refine jT_xaload_n (v := (4, 0)) (pcN := 2599) jIZ_379_2598 rfl rfl rfl ?_
  refine jT_xaload_n (v := (6, 0)) (pcN := 2600) jIZ_379_2599 rfl rfl rfl ?_
  refine jT_xiload (v := (0, 0)) (pcN := 2602) jIZ_379_2600 rfl rfl rfl ?_
  refine jT_xiconst (k := 1) (pcN := 2603) jIZ_379_2602 rfl ?_
  refine jT_xiadd (x := 0) (y := 1) (z := 1) (pcN := 2604) jIZ_379_2603 rfl (by decide) rfl ?_
  refine jT_adv 1 (pcN := 2605) (LN := [(5, (0, 0)), (4, (4, 3)), (3, (4, 2)), (2, (4, 1)), (1, (4, 0)), (0, (6, 0))]) (stN := [(0, 0), (4, 0)]) (hsN := jpZ_165) (c1 := 0) (s1 := 0) (c2 := 220010) (s2 := 7320060) (by exact rfl) ?_ (by omega) (by omega)
  refine jT_xaload_n (v := (6, 0)) (pcN := 2606) jIZ_379_2605 rfl rfl rfl ?_
  refine jT_xiload (v := (0, 0)) (pcN := 2608) jIZ_379_2606 rfl rfl rfl ?_
  refine jT_xiconst (k := 2) (pcN := 2609) jIZ_379_2608 rfl ?_
  refine jT_xiadd (x := 0) (y := 2) (z := 2) (pcN := 2610) jIZ_379_2609 rfl (by decide) rfl ?_
  refine jT_adv 1 (pcN := 2611) (LN := [(5, (0, 0)), (4, (4, 3)), (3, (4, 2)), (2, (4, 1)), (1, (4, 0)), (0, (6, 0))]) (stN := [(0, 2147483647), (0, 0), (4, 0)]) (hsN := jpZ_165) (c1 := 0) (s1 := 0) (c2 := 220010) (s2 := 7320060) (by exact rfl) ?_ (by omega) (by omega)
  refine jT_xaload_n (v := (6, 0)) (pcN := 2612) jIZ_379_2611 rfl rfl rfl ?_
  refine jT_xiload (v := (0, 0)) (pcN := 2614) jIZ_379_2612 rfl rfl rfl ?_
  refine jT_xiconst (k := 3) (pcN := 2615) jIZ_379_2614 rfl ?_
  refine jT_xiadd (x := 0) (y := 3) (z := 3) (pcN := 2616) jIZ_379_2615 rfl (by decide) rfl ?_
  refine jT_adv 1 (pcN := 2617) (LN := [(5, (0, 0)), (4, (4, 3)), (3, (4, 2)), (2, (4, 1)), (1, (4, 0)), (0, (6, 0))]) (stN := [(0, 2000), (0, 2147483647), (0, 0), (4, 0)]) (hsN := jpZ_165) (c1 := 0) (s1 := 0) (c2 := 220010) (s2 := 7320060) (by exact rfl) ?_ (by omega) (by omega)
  refine jT_xaload_n (v := (4, 2)) (pcN := 2618) jIZ_379_2617 rfl rfl rfl ?_
  refine jT_fB [0, 2, 4, 5, 6, 7, 8, 9, 10, 11, 12, 13, 14, 30, 31, 32, 33, 34, 35, 36, 37, 38, 45, 46, 47, 48, 49] 50 (y := 358) (pcN := 2621) (dC := 6) (bc1 := 1) (bc2 := 6) (c1 := 220009) (c2 := 7320054) (as := [(4, 0), (0, 0), (0, 2147483647), (0, 2000), (4, 2)]) (asC := [(4, 0), (0, 0), (0, 2147483647), (0, 2000), (4, 1)]) (LN := [(5, (0, 0)), (4, (4, 3)), (3, (4, 2)), (2, (4, 1)), (1, (4, 0)), (0, (6, 0))]) (stN := []) (hsC := jpZ_44) (hsD := jpZ_45) (v := (0, 3)) (st2 := [(0, 3)]) (hs2 := jpZ_186) (jZ_358_24 (d := 0)) (by rfl) (by rfl) (by decide +kernel) (by rfl) (by rfl) (by omega) (by omega) (by omega) (by omega) rfl (by decide +kernel) ?_
  refine jT_xistore (v := (0, 3)) (LN := [(6, (0, 3)), (5, (0, 0)), (4, (4, 3)), (3, (4, 2)), (2, (4, 1)), (1, (4, 0)), (0, (6, 0))]) (pcN := 2623) jIZ_379_2621 rfl rfl rfl rfl ?_
  refine jT_xaload_n (v := (4, 1)) (pcN := 2624) jIZ_379_2623 rfl rfl rfl ?_
  refine jT_xaload_n (v := (6, 0)) (pcN := 2625) jIZ_379_2624 rfl rfl rfl ?_
  refine jT_xiload (v := (0, 0)) (pcN := 2627) jIZ_379_2625 rfl rfl rfl ?_
  refine jT_xiconst (k := 1) (pcN := 2628) jIZ_379_2627 rfl ?_
  refine jT_xiadd (x := 0) (y := 1) (z := 1) (pcN := 2629) jIZ_379_2628 rfl (by decide) rfl ?_
  refine jT_adv 1 (pcN := 2630) (LN := [(6, (0, 3)), (5, (0, 0)), (4, (4, 3)), (3, (4, 2)), (2, (4, 1)), (1, (4, 0)), (0, (6, 0))]) (stN := [(0, 0), (4, 1)]) (hsN := jpZ_186) (c1 := 0) (s1 := 0) (c2 := 220009) (s2 := 7320054) (by exact rfl) ?_ (by omega) (by omega)
  refine jT_xaload_n (v := (6, 0)) (pcN := 2631) jIZ_379_2630 rfl rfl rfl ?_
  refine jT_xiload (v := (0, 0)) (pcN := 2633) jIZ_379_2631 rfl rfl rfl ?_
  refine jT_xiconst (k := 2) (pcN := 2634) jIZ_379_2633 rfl ?_
  refine jT_xiadd (x := 0) (y := 2) (z := 2) (pcN := 2635) jIZ_379_2634 rfl (by decide) rfl ?_
  refine jT_adv 1 (pcN := 2636) (LN := [(6, (0, 3)), (5, (0, 0)), (4, (4, 3)), (3, (4, 2)), (2, (4, 1)), (1, (4, 0)), (0, (6, 0))]) (stN := [(0, 2147483647), (0, 0), (4, 1)]) (hsN := jpZ_186) (c1 := 0) (s1 := 0) (c2 := 220009) (s2 := 7320054) (by exact rfl) ?_ (by omega) (by omega)
  refine jT_xaload_n (v := (6, 0)) (pcN := 2637) jIZ_379_2636 rfl rfl rfl ?_
  refine jT_xiload (v := (0, 0)) (pcN := 2639) jIZ_379_2637 rfl rfl rfl ?_
  refine jT_xiconst (k := 3) (pcN := 2640) jIZ_379_2639 rfl ?_
  refine jT_xiadd (x := 0) (y := 3) (z := 3) (pcN := 2641) jIZ_379_2640 rfl (by decide) rfl ?_
  refine jT_adv 1 (pcN := 2642) (LN := [(6, (0, 3)), (5, (0, 0)), (4, (4, 3)), (3, (4, 2)), (2, (4, 1)), (1, (4, 0)), (0, (6, 0))]) (stN := [(0, 2000), (0, 2147483647), (0, 0), (4, 1)]) (hsN := jpZ_186) (c1 := 0) (s1 := 0) (c2 := 220009) (s2 := 7320054) (by exact rfl) ?_ (by omega) (by omega)
  refine jT_fB [1, 15, 16, 17, 18, 19, 20, 21, 22, 23, 24, 25, 26, 27, 28, 29, 39, 40, 41, 42, 43, 44] 50 (y := 287) (pcN := 2645) (dC := 8) (bc1 := 22000) (bc2 := 732000) (c1 := 198009) (c2 := 6588054) (as := [(4, 1), (0, 0), (0, 2147483647), (0, 2000)]) (asC := [(4, 0), (0, 0), (0, 2147483647), (0, 2000)]) (LN := [(6, (0, 3)), (5, (0, 0)), (4, (4, 3)), (3, (4, 2)), (2, (4, 1)), (1, (4, 0)), (0, (6, 0))]) (stN := []) (hsC := jpZ_100) (hsD := jpZ_136) (v := (0, 0)) (st2 := [(0, 0)]) (hs2 := jpZ_202) (jZ_287_51 (d := 0)) (by rfl) (by rfl) (by decide +kernel) (by rfl) (by rfl) (by omega) (by omega) (by omega) (by omega) rfl (by decide +kernel) ?_
  refine jT_xistore (v := (0, 0)) (LN := [(7, (0, 0)), (6, (0, 3)), (5, (0, 0)), (4, (4, 3)), (3, (4, 2)), (2, (4, 1)), (1, (4, 0)), (0, (6, 0))]) (pcN := 2647) jIZ_379_2645 rfl rfl rfl rfl ?_
  refine jT_xaload_n (v := (4, 1)) (pcN := 2648) jIZ_379_2647 rfl rfl rfl ?_
  refine jT_fR [1, 15, 16, 17, 18, 19, 20, 21, 22, 23, 24, 25, 26, 27, 28, 29] 61 (y := 186) (pcN := 2651) (dC := 0) (bc1 := 0) (bc2 := 0) (c1 := 198009) (c2 := 6588054) (as := [(4, 1)]) (asC := [(4, 0)]) (LN := [(7, (0, 0)), (6, (0, 3)), (5, (0, 0)), (4, (4, 3)), (3, (4, 2)), (2, (4, 1)), (1, (4, 0)), (0, (6, 0))]) (stN := []) (hsC := jpZ_99) (v := (0, 3)) (st2 := [(0, 3)]) (jZ_186_52 (d := 0)) (by rfl) (by rfl) (by decide +kernel) (by rfl) (by rfl) (by omega) (by omega) (by omega) (by omega) rfl ?_
  refine jT_xiload (v := (0, 3)) (pcN := 2653) jIZ_379_2651 rfl rfl rfl ?_
  refine jT_xicT (pcN := 2658) jIZ_379_2653 rfl (by decide +kernel) rfl ?_
  refine jT_xiload (v := (0, 3)) (pcN := 2660) jIZ_379_2658 rfl rfl rfl ?_
  refine jT_xifT (pcN := 2675) jIZ_379_2660 rfl (by decide +kernel) rfl ?_
  refine jT_xgoto (pcN := 3740) jIZ_379_2675 rfl ?_
  refine jT_xiinc (x := 0) (z := 5) (LN := [(5, (0, 5)), (7, (0, 0)), (6, (0, 3)), (4, (4, 3)), (3, (4, 2)), (2, (4, 1)), (1, (4, 0)), (0, (6, 0))]) (pcN := 3743) jIZ_379_3740 rfl rfl (by decide) rfl rfl ?_
  refine jT_xgoto (pcN := 28) jIZ_379_3743 rfl ?_
  refine jT_xiload (v := (0, 5)) (pcN := 30) jIZ_379_28 rfl rfl rfl ?_
  refine jT_xaload_n (v := (6, 0)) (pcN := 31) jIZ_379_30 rfl rfl rfl ?_
  refine jT_adv 1 (pcN := 32) (LN := [(5, (0, 5)), (7, (0, 0)), (6, (0, 3)), (4, (4, 3)), (3, (4, 2)), (2, (4, 1)), (1, (4, 0)), (0, (6, 0))]) (stN := [(0, 50), (0, 5)]) (hsN := jpZ_202) (c1 := 0) (s1 := 0) (c2 := 198009) (s2 := 6588054) (by exact rfl) ?_ (by omega) (by omega)
  refine jT_xiconst (k := 5) (pcN := 33) jIZ_379_32 rfl ?_
  refine jT_xisub (x := 50) (y := 5) (z := 45) (pcN := 34) jIZ_379_33 rfl (by decide) rfl ?_
  refine jT_xicF (t := 3746) (pcN := 37) jIZ_379_34 rfl (by decide +kernel) rfl rfl ?_
  refine jT_xaload_n (v := (6, 0)) (pcN := 38) jIZ_379_37 rfl rfl rfl ?_
  refine jT_xiload (v := (0, 5)) (pcN := 40) jIZ_379_38 rfl rfl rfl ?_
  refine jT_adv 1 (pcN := 41) (LN := [(5, (0, 5)), (7, (0, 0)), (6, (0, 3)), (4, (4, 3)), (3, (4, 2)), (2, (4, 1)), (1, (4, 0)), (0, (6, 0))]) (stN := [(0, 34)]) (hsN := jpZ_202) (c1 := 0) (s1 := 0) (c2 := 198009) (s2 := 6588054) (by exact rfl) ?_ (by omega) (by omega)
  refine jT_xbipush (k := 63) (pcN := 43) jIZ_379_41 (by decide) rfl ?_
  refine jT_iand (x := 34) (y := 63) (z := 34) (by rfl) (by rfl) (by decide +kernel) ?_
  refine jT_adv 1 (pcN := 2598) (LN := [(5, (0, 5)), (7, (0, 0)), (6, (0, 3)), (4, (4, 3)), (3, (4, 2)), (2, (4, 1)), (1, (4, 0)), (0, (6, 0))]) (stN := []) (hsN := jpZ_202) (c1 := 0) (s1 := 0) (c2 := 198009) (s2 := 6588054) (by exact rfl) ?_ (by omega) (by omega)
  refine jT_xaload_n (v := (4, 0)) (pcN := 2599) jIZ_379_2598 rfl rfl rfl ?_
  refine jT_xaload_n (v := (6, 0)) (pcN := 2600) jIZ_379_2599 rfl rfl rfl ?_
  refine jT_xiload (v := (0, 5)) (pcN := 2602) jIZ_379_2600 rfl rfl rfl ?_
  refine jT_xiconst (k := 1) (pcN := 2603) jIZ_379_2602 rfl ?_
  refine jT_xiadd (x := 5) (y := 1) (z := 6) (pcN := 2604) jIZ_379_2603 rfl (by decide) rfl ?_
  refine jT_adv 1 (pcN := 2605) (LN := [(5, (0, 5)), (7, (0, 0)), (6, (0, 3)), (4, (4, 3)), (3, (4, 2)), (2, (4, 1)), (1, (4, 0)), (0, (6, 0))]) (stN := [(0, 0), (4, 0)]) (hsN := jpZ_202) (c1 := 0) (s1 := 0) (c2 := 198009) (s2 := 6588054) (by exact rfl) ?_ (by omega) (by omega)
  refine jT_xaload_n (v := (6, 0)) (pcN := 2606) jIZ_379_2605 rfl rfl rfl ?_
  refine jT_xiload (v := (0, 5)) (pcN := 2608) jIZ_379_2606 rfl rfl rfl ?_
  refine jT_xiconst (k := 2) (pcN := 2609) jIZ_379_2608 rfl ?_
  refine jT_xiadd (x := 5) (y := 2) (z := 7) (pcN := 2610) jIZ_379_2609 rfl (by decide) rfl ?_
  refine jT_adv 1 (pcN := 2611) (LN := [(5, (0, 5)), (7, (0, 0)), (6, (0, 3)), (4, (4, 3)), (3, (4, 2)), (2, (4, 1)), (1, (4, 0)), (0, (6, 0))]) (stN := [(0, 2147483647), (0, 0), (4, 0)]) (hsN := jpZ_202) (c1 := 0) (s1 := 0) (c2 := 198009) (s2 := 6588054) (by exact rfl) ?_ (by omega) (by omega)
  refine jT_xaload_n (v := (6, 0)) (pcN := 2612) jIZ_379_2611 rfl rfl rfl ?_
  refine jT_xiload (v := (0, 5)) (pcN := 2614) jIZ_379_2612 rfl rfl rfl ?_
  refine jT_xiconst (k := 3) (pcN := 2615) jIZ_379_2614 rfl ?_
  refine jT_xiadd (x := 5) (y := 3) (z := 8) (pcN := 2616) jIZ_379_2615 rfl (by decide) rfl ?_
  refine jT_adv 1 (pcN := 2617) (LN := [(5, (0, 5)), (7, (0, 0)), (6, (0, 3)), (4, (4, 3)), (3, (4, 2)), (2, (4, 1)), (1, (4, 0)), (0, (6, 0))]) (stN := [(0, 2000), (0, 2147483647), (0, 0), (4, 0)]) (hsN := jpZ_202) (c1 := 0) (s1 := 0) (c2 := 198009) (s2 := 6588054) (by exact rfl) ?_ (by omega) (by omega)
  refine jT_xaload_n (v := (4, 2)) (pcN := 2618) jIZ_379_2617 rfl rfl rfl ?_
  refine jT_fB [0, 2, 4, 5, 6, 7, 8, 9, 10, 11, 12, 13, 14, 30, 31, 33, 32, 34, 35, 36, 37, 38, 45, 47, 46, 48, 49] 61 (y := 358) (pcN := 2621) (dC := 6) (bc1 := 1) (bc2 := 6) (c1 := 198008) (c2 := 6588048) (as := [(4, 0), (0, 0), (0, 2147483647), (0, 2000), (4, 2)]) (asC := [(4, 0), (0, 0), (0, 2147483647), (0, 2000), (4, 1)]) (LN := [(5, (0, 5)), (7, (0, 0)), (6, (0, 3)), (4, (4, 3)), (3, (4, 2)), (2, (4, 1)), (1, (4, 0)), (0, (6, 0))]) (stN := []) (hsC := jpZ_148) (hsD := jpZ_149) (v := (0, 3)) (st2 := [(0, 3)]) (hs2 := jpZ_212) (jZ_358_60 (d := 0)) (by rfl) (by rfl) (by decide +kernel) (by rfl) (by rfl) (by omega) (by omega) (by omega) (by omega) rfl (by decide +kernel) ?_
  refine jT_xistore (v := (0, 3)) (LN := [(6, (0, 3)), (5, (0, 5)), (7, (0, 0)), (4, (4, 3)), (3, (4, 2)), (2, (4, 1)), (1, (4, 0)), (0, (6, 0))]) (pcN := 2623) jIZ_379_2621 rfl rfl rfl rfl ?_
  refine jT_xaload_n (v := (4, 1)) (pcN := 2624) jIZ_379_2623 rfl rfl rfl ?_
  refine jT_xaload_n (v := (6, 0)) (pcN := 2625) jIZ_379_2624 rfl rfl rfl ?_
  refine jT_xiload (v := (0, 5)) (pcN := 2627) jIZ_379_2625 rfl rfl rfl ?_
  refine jT_xiconst (k := 1) (pcN := 2628) jIZ_379_2627 rfl ?_
  refine jT_xiadd (x := 5) (y := 1) (z := 6) (pcN := 2629) jIZ_379_2628 rfl (by decide) rfl ?_
  refine jT_adv 1 (pcN := 2630) (LN := [(6, (0, 3)), (5, (0, 5)), (7, (0, 0)), (4, (4, 3)), (3, (4, 2)), (2, (4, 1)), (1, (4, 0)), (0, (6, 0))]) (stN := [(0, 0), (4, 1)]) (hsN := jpZ_212) (c1 := 0) (s1 := 0) (c2 := 198008) (s2 := 6588048) (by exact rfl) ?_ (by omega) (by omega)
  refine jT_xaload_n (v := (6, 0)) (pcN := 2631) jIZ_379_2630 rfl rfl rfl ?_
  refine jT_xiload (v := (0, 5)) (pcN := 2633) jIZ_379_2631 rfl rfl rfl ?_
  refine jT_xiconst (k := 2) (pcN := 2634) jIZ_379_2633 rfl ?_
  refine jT_xiadd (x := 5) (y := 2) (z := 7) (pcN := 2635) jIZ_379_2634 rfl (by decide) rfl ?_
  refine jT_adv 1 (pcN := 2636) (LN := [(6, (0, 3)), (5, (0, 5)), (7, (0, 0)), (4, (4, 3)), (3, (4, 2)), (2, (4, 1)), (1, (4, 0)), (0, (6, 0))]) (stN := [(0, 2147483647), (0, 0), (4, 1)]) (hsN := jpZ_212) (c1 := 0) (s1 := 0) (c2 := 198008) (s2 := 6588048) (by exact rfl) ?_ (by omega) (by omega)
  refine jT_xaload_n (v := (6, 0)) (pcN := 2637) jIZ_379_2636 rfl rfl rfl ?_
  refine jT_xiload (v := (0, 5)) (pcN := 2639) jIZ_379_2637 rfl rfl rfl ?_
  refine jT_xiconst (k := 3) (pcN := 2640) jIZ_379_2639 rfl ?_
  refine jT_xiadd (x := 5) (y := 3) (z := 8) (pcN := 2641) jIZ_379_2640 rfl (by decide) rfl ?_
  refine jT_adv 1 (pcN := 2642) (LN := [(6, (0, 3)), (5, (0, 5)), (7, (0, 0)), (4, (4, 3)), (3, (4, 2)), (2, (4, 1)), (1, (4, 0)), (0, (6, 0))]) (stN := [(0, 2000), (0, 2147483647), (0, 0), (4, 1)]) (hsN := jpZ_212) (c1 := 0) (s1 := 0) (c2 := 198008) (s2 := 6588048) (by exact rfl) ?_ (by omega) (by omega)
  refine jT_fA [1, 15, 16, 17, 18, 19, 20, 21, 22, 23, 24, 25, 26, 27, 28, 29, 39, 40, 41, 42, 43, 44] 61 (y := 287) (pcN := 2645) (dC := 8) (bc1 := 22000) (bc2 := 732000) (c1 := 176008) (c2 := 5856048) (as := [(4, 1), (0, 0), (0, 2147483647), (0, 2000)]) (asC := [(4, 0), (0, 0), (0, 2147483647), (0, 2000)]) (LN := [(6, (0, 3)), (5, (0, 5)), (7, (0, 0)), (4, (4, 3)), (3, (4, 2)), (2, (4, 1)), (1, (4, 0)), (0, (6, 0))]) (stN := []) (hsC := jpZ_150) (ex := jpZ_151) (v := (0, 0)) (st2 := [(0, 0)]) (hs2 := jpZ_213) (jZ_287_62 (d := 0)) (by rfl) (by rfl) (by decide +kernel) (by rfl) (by rfl) (by omega) (by omega) (by omega) (by omega) rfl (by decide +kernel) ?_
  refine jT_xistore (v := (0, 0)) (LN := [(7, (0, 0)), (6, (0, 3)), (5, (0, 5)), (4, (4, 3)), (3, (4, 2)), (2, (4, 1)), (1, (4, 0)), (0, (6, 0))]) (pcN := 2647) jIZ_379_2645 rfl rfl rfl rfl ?_
  refine jT_xaload_n (v := (4, 1)) (pcN := 2648) jIZ_379_2647 rfl rfl rfl ?_
  refine jT_fR [1, 15, 16, 17, 18, 19, 20, 21, 22, 23, 24, 25, 26, 27, 28, 29] 72 (y := 186) (pcN := 2651) (dC := 0) (bc1 := 0) (bc2 := 0) (c1 := 176008) (c2 := 5856048) (as := [(4, 1)]) (asC := [(4, 0)]) (LN := [(7, (0, 0)), (6, (0, 3)), (5, (0, 5)), (4, (4, 3)), (3, (4, 2)), (2, (4, 1)), (1, (4, 0)), (0, (6, 0))]) (stN := []) (hsC := jpZ_99) (v := (0, 3)) (st2 := [(0, 3)]) (jZ_186_52 (d := 0)) (by rfl) (by rfl) (by decide +kernel) (by rfl) (by rfl) (by omega) (by omega) (by omega) (by omega) rfl ?_
  refine jT_xiload (v := (0, 3)) (pcN := 2653) jIZ_379_2651 rfl rfl rfl ?_
  refine jT_xicT (pcN := 2658) jIZ_379_2653 rfl (by decide +kernel) rfl ?_
  refine jT_xiload (v := (0, 3)) (pcN := 2660) jIZ_379_2658 rfl rfl rfl ?_
  refine jT_xifT (pcN := 2675) jIZ_379_2660 rfl (by decide +kernel) rfl ?_
  refine jT_xgoto (pcN := 3740) jIZ_379_2675 rfl ?_
  refine jT_xiinc (x := 5) (z := 10) (LN := [(5, (0, 10)), (7, (0, 0)), (6, (0, 3)), (4, (4, 3)), (3, (4, 2)), (2, (4, 1)), (1, (4, 0)), (0, (6, 0))]) (pcN := 3743) jIZ_379_3740 rfl rfl (by decide) rfl rfl ?_
  refine jT_xgoto (pcN := 28) jIZ_379_3743 rfl ?_
  refine jT_xiload (v := (0, 10)) (pcN := 30) jIZ_379_28 rfl rfl rfl ?_
  refine jT_xaload_n (v := (6, 0)) (pcN := 31) jIZ_379_30 rfl rfl rfl ?_
  refine jT_adv 1 (pcN := 32) (LN := [(5, (0, 10)), (7, (0, 0)), (6, (0, 3)), (4, (4, 3)), (3, (4, 2)), (2, (4, 1)), (1, (4, 0)), (0, (6, 0))]) (stN := [(0, 50), (0, 10)]) (hsN := jpZ_213) (c1 := 0) (s1 := 0) (c2 := 176008) (s2 := 5856048) (by exact rfl) ?_ (by omega) (by omega)
  refine jT_xiconst (k := 5) (pcN := 33) jIZ_379_32 rfl ?_
  refine jT_xisub (x := 50) (y := 5) (z := 45) (pcN := 34) jIZ_379_33 rfl (by decide) rfl ?_
  refine jT_xicF (t := 3746) (pcN := 37) jIZ_379_34 rfl (by decide +kernel) rfl rfl ?_
  refine jT_xaload_n (v := (6, 0)) (pcN := 38) jIZ_379_37 rfl rfl rfl ?_
  refine jT_xiload (v := (0, 10)) (pcN := 40) jIZ_379_38 rfl rfl rfl ?_
  refine jT_adv 1 (pcN := 41) (LN := [(5, (0, 10)), (7, (0, 0)), (6, (0, 3)), (4, (4, 3)), (3, (4, 2)), (2, (4, 1)), (1, (4, 0)), (0, (6, 0))]) (stN := [(0, 34)]) (hsN := jpZ_213) (c1 := 0) (s1 := 0) (c2 := 176008) (s2 := 5856048) (by exact rfl) ?_ (by omega) (by omega)
  refine jT_xbipush (k := 63) (pcN := 43) jIZ_379_41 (by decide) rfl ?_
  refine jT_iand (x := 34) (y := 63) (z := 34) (by rfl) (by rfl) (by decide +kernel) ?_
  refine jT_adv 1 (pcN := 2598) (LN := [(5, (0, 10)), (7, (0, 0)), (6, (0, 3)), (4, (4, 3)), (3, (4, 2)), (2, (4, 1)), (1, (4, 0)), (0, (6, 0))]) (stN := []) (hsN := jpZ_213) (c1 := 0) (s1 := 0) (c2 := 176008) (s2 := 5856048) (by exact rfl) ?_ (by omega) (by omega)
  refine jT_xaload_n (v := (4, 0)) (pcN := 2599) jIZ_379_2598 rfl rfl rfl ?_
  refine jT_xaload_n (v := (6, 0)) (pcN := 2600) jIZ_379_2599 rfl rfl rfl ?_
  refine jT_xiload (v := (0, 10)) (pcN := 2602) jIZ_379_2600 rfl rfl rfl ?_
  refine jT_xiconst (k := 1) (pcN := 2603) jIZ_379_2602 rfl ?_
  refine jT_xiadd (x := 10) (y := 1) (z := 11) (pcN := 2604) jIZ_379_2603 rfl (by decide) rfl ?_
  refine jT_adv 1 (pcN := 2605) (LN := [(5, (0, 10)), (7, (0, 0)), (6, (0, 3)), (4, (4, 3)), (3, (4, 2)), (2, (4, 1)), (1, (4, 0)), (0, (6, 0))]) (stN := [(0, 0), (4, 0)]) (hsN := jpZ_213) (c1 := 0) (s1 := 0) (c2 := 176008) (s2 := 5856048) (by exact rfl) ?_ (by omega) (by omega)
  refine jT_xaload_n (v := (6, 0)) (pcN := 2606) jIZ_379_2605 rfl rfl rfl ?_
  refine jT_xiload (v := (0, 10)) (pcN := 2608) jIZ_379_2606 rfl rfl rfl ?_
  refine jT_xiconst (k := 2) (pcN := 2609) jIZ_379_2608 rfl ?_
  refine jT_xiadd (x := 10) (y := 2) (z := 12) (pcN := 2610) jIZ_379_2609 rfl (by decide) rfl ?_
  refine jT_adv 1 (pcN := 2611) (LN := [(5, (0, 10)), (7, (0, 0)), (6, (0, 3)), (4, (4, 3)), (3, (4, 2)), (2, (4, 1)), (1, (4, 0)), (0, (6, 0))]) (stN := [(0, 2147483647), (0, 0), (4, 0)]) (hsN := jpZ_213) (c1 := 0) (s1 := 0) (c2 := 176008) (s2 := 5856048) (by exact rfl) ?_ (by omega) (by omega)
  refine jT_xaload_n (v := (6, 0)) (pcN := 2612) jIZ_379_2611 rfl rfl rfl ?_
  refine jT_xiload (v := (0, 10)) (pcN := 2614) jIZ_379_2612 rfl rfl rfl ?_
  refine jT_xiconst (k := 3) (pcN := 2615) jIZ_379_2614 rfl ?_
  refine jT_xiadd (x := 10) (y := 3) (z := 13) (pcN := 2616) jIZ_379_2615 rfl (by decide) rfl ?_
  refine jT_adv 1 (pcN := 2617) (LN := [(5, (0, 10)), (7, (0, 0)), (6, (0, 3)), (4, (4, 3)), (3, (4, 2)), (2, (4, 1)), (1, (4, 0)), (0, (6, 0))]) (stN := [(0, 2000), (0, 2147483647), (0, 0), (4, 0)]) (hsN := jpZ_213) (c1 := 0) (s1 := 0) (c2 := 176008) (s2 := 5856048) (by exact rfl) ?_ (by omega) (by omega)
  refine jT_xaload_n (v := (4, 2)) (pcN := 2618) jIZ_379_2617 rfl rfl rfl ?_
  refine jT_fB [0, 2, 4, 5, 6, 7, 8, 9, 10, 11, 12, 13, 14, 30, 31, 32, 33, 34, 35, 36, 37, 38, 45, 46, 47, 48, 49] 72 (y := 358) (pcN := 2621) (dC := 6) (bc1 := 1) (bc2 := 6) (c1 := 176007) (c2 := 5856042) (as := [(4, 0), (0, 0), (0, 2147483647), (0, 2000), (4, 2)]) (asC := [(4, 0), (0, 0), (0, 2147483647), (0, 2000), (4, 1)]) (LN := [(5, (0, 10)), (7, (0, 0)), (6, (0, 3)), (4, (4, 3)), (3, (4, 2)), (2, (4, 1)), (1, (4, 0)), (0, (6, 0))]) (stN := []) (hsC := jpZ_158) (hsD := jpZ_149) (v := (0, 3)) (st2 := [(0, 3)]) (hs2 := jpZ_214) (jZ_358_68 (d := 0)) (by rfl) (by rfl) (by decide +kernel) (by rfl) (by rfl) (by omega) (by omega) (by omega) (by omega) rfl (by decide +kernel) ?_
  refine jT_xistore (v := (0, 3)) (LN := [(6, (0, 3)), (5, (0, 10)), (7, (0, 0)), (4, (4, 3)), (3, (4, 2)), (2, (4, 1)), (1, (4, 0)), (0, (6, 0))]) (pcN := 2623) jIZ_379_2621 rfl rfl rfl rfl ?_
  refine jT_xaload_n (v := (4, 1)) (pcN := 2624) jIZ_379_2623 rfl rfl rfl ?_
  refine jT_xaload_n (v := (6, 0)) (pcN := 2625) jIZ_379_2624 rfl rfl rfl ?_
  refine jT_xiload (v := (0, 10)) (pcN := 2627) jIZ_379_2625 rfl rfl rfl ?_
  refine jT_xiconst (k := 1) (pcN := 2628) jIZ_379_2627 rfl ?_
  refine jT_xiadd (x := 10) (y := 1) (z := 11) (pcN := 2629) jIZ_379_2628 rfl (by decide) rfl ?_
  refine jT_adv 1 (pcN := 2630) (LN := [(6, (0, 3)), (5, (0, 10)), (7, (0, 0)), (4, (4, 3)), (3, (4, 2)), (2, (4, 1)), (1, (4, 0)), (0, (6, 0))]) (stN := [(0, 0), (4, 1)]) (hsN := jpZ_214) (c1 := 0) (s1 := 0) (c2 := 176007) (s2 := 5856042) (by exact rfl) ?_ (by omega) (by omega)
  refine jT_xaload_n (v := (6, 0)) (pcN := 2631) jIZ_379_2630 rfl rfl rfl ?_
  refine jT_xiload (v := (0, 10)) (pcN := 2633) jIZ_379_2631 rfl rfl rfl ?_
  refine jT_xiconst (k := 2) (pcN := 2634) jIZ_379_2633 rfl ?_
  refine jT_xiadd (x := 10) (y := 2) (z := 12) (pcN := 2635) jIZ_379_2634 rfl (by decide) rfl ?_
  refine jT_adv 1 (pcN := 2636) (LN := [(6, (0, 3)), (5, (0, 10)), (7, (0, 0)), (4, (4, 3)), (3, (4, 2)), (2, (4, 1)), (1, (4, 0)), (0, (6, 0))]) (stN := [(0, 2147483647), (0, 0), (4, 1)]) (hsN := jpZ_214) (c1 := 0) (s1 := 0) (c2 := 176007) (s2 := 5856042) (by exact rfl) ?_ (by omega) (by omega)
  refine jT_xaload_n (v := (6, 0)) (pcN := 2637) jIZ_379_2636 rfl rfl rfl ?_
  refine jT_xiload (v := (0, 10)) (pcN := 2639) jIZ_379_2637 rfl rfl rfl ?_
  refine jT_xiconst (k := 3) (pcN := 2640) jIZ_379_2639 rfl ?_
  refine jT_xiadd (x := 10) (y := 3) (z := 13) (pcN := 2641) jIZ_379_2640 rfl (by decide) rfl ?_
  refine jT_adv 1 (pcN := 2642) (LN := [(6, (0, 3)), (5, (0, 10)), (7, (0, 0)), (4, (4, 3)), (3, (4, 2)), (2, (4, 1)), (1, (4, 0)), (0, (6, 0))]) (stN := [(0, 2000), (0, 2147483647), (0, 0), (4, 1)]) (hsN := jpZ_214) (c1 := 0) (s1 := 0) (c2 := 176007) (s2 := 5856042) (by exact rfl) ?_ (by omega) (by omega)
  refine jT_fA [1, 15, 16, 17, 18, 19, 20, 21, 22, 23, 24, 25, 26, 27, 28, 29, 39, 40, 41, 42, 43, 44] 72 (y := 287) (pcN := 2645) (dC := 8) (bc1 := 22000) (bc2 := 732000) (c1 := 154007) (c2 := 5124042) (as := [(4, 1), (0, 0), (0, 2147483647), (0, 2000)]) (asC := [(4, 0), (0, 0), (0, 2147483647), (0, 2000)]) (LN := [(6, (0, 3)), (5, (0, 10)), (7, (0, 0)), (4, (4, 3)), (3, (4, 2)), (2, (4, 1)), (1, (4, 0)), (0, (6, 0))]) (stN := []) (hsC := jpZ_150) (ex := jpZ_151) (v := (0, 0)) (st2 := [(0, 0)]) (hs2 := jpZ_215) (jZ_287_62 (d := 0)) (by rfl) (by rfl) (by decide +kernel) (by rfl) (by rfl) (by omega) (by omega) (by omega) (by omega) rfl (by decide +kernel) ?_
  refine jT_xistore (v := (0, 0)) (LN := [(7, (0, 0)), (6, (0, 3)), (5, (0, 10)), (4, (4, 3)), (3, (4, 2)), (2, (4, 1)), (1, (4, 0)), (0, (6, 0))]) (pcN := 2647) jIZ_379_2645 rfl rfl rfl rfl ?_
  refine jT_xaload_n (v := (4, 1)) (pcN := 2648) jIZ_379_2647 rfl rfl rfl ?_
  refine jT_fR [1, 15, 16, 17, 18, 19, 20, 21, 22, 23, 24, 25, 26, 27, 28, 29] 83 (y := 186) (pcN := 2651) (dC := 0) (bc1 := 0) (bc2 := 0) (c1 := 154007) (c2 := 5124042) (as := [(4, 1)]) (asC := [(4, 0)]) (LN := [(7, (0, 0)), (6, (0, 3)), (5, (0, 10)), (4, (4, 3)), (3, (4, 2)), (2, (4, 1)), (1, (4, 0)), (0, (6, 0))]) (stN := []) (hsC := jpZ_99) (v := (0, 3)) (st2 := [(0, 3)]) (jZ_186_52 (d := 0)) (by rfl) (by rfl) (by decide +kernel) (by rfl) (by rfl) (by omega) (by omega) (by omega) (by omega) rfl ?_
  refine jT_xiload (v := (0, 3)) (pcN := 2653) jIZ_379_2651 rfl rfl rfl ?_
  refine jT_xicT (pcN := 2658) jIZ_379_2653 rfl (by decide +kernel) rfl ?_
  refine jT_xiload (v := (0, 3)) (pcN := 2660) jIZ_379_2658 rfl rfl rfl ?_
  refine jT_xifT (pcN := 2675) jIZ_379_2660 rfl (by decide +kernel) rfl ?_
  refine jT_xgoto (pcN := 3740) jIZ_379_2675 rfl ?_
  refine jT_xiinc (x := 10) (z := 15) (LN := [(5, (0, 15)), (7, (0, 0)), (6, (0, 3)), (4, (4, 3)), (3, (4, 2)), (2, (4, 1)), (1, (4, 0)), (0, (6, 0))]) (pcN := 3743) jIZ_379_3740 rfl rfl (by decide) rfl rfl ?_
  refine jT_xgoto (pcN := 28) jIZ_379_3743 rfl ?_
  refine jT_xiload (v := (0, 15)) (pcN := 30) jIZ_379_28 rfl rfl rfl ?_
  refine jT_xaload_n (v := (6, 0)) (pcN := 31) jIZ_379_30 rfl rfl rfl ?_
  refine jT_adv 1 (pcN := 32) (LN := [(5, (0, 15)), (7, (0, 0)), (6, (0, 3)), (4, (4, 3)), (3, (4, 2)), (2, (4, 1)), (1, (4, 0)), (0, (6, 0))]) (stN := [(0, 50), (0, 15)]) (hsN := jpZ_215) (c1 := 0) (s1 := 0) (c2 := 154007) (s2 := 5124042) (by exact rfl) ?_ (by omega) (by omega)
  refine jT_xiconst (k := 5) (pcN := 33) jIZ_379_32 rfl ?_
  refine jT_xisub (x := 50) (y := 5) (z := 45) (pcN := 34) jIZ_379_33 rfl (by decide) rfl ?_
  refine jT_xicF (t := 3746) (pcN := 37) jIZ_379_34 rfl (by decide +kernel) rfl rfl ?_
  refine jT_xaload_n (v := (6, 0)) (pcN := 38) jIZ_379_37 rfl rfl rfl ?_
  refine jT_xiload (v := (0, 15)) (pcN := 40) jIZ_379_38 rfl rfl rfl ?_
  refine jT_adv 1 (pcN := 41) (LN := [(5, (0, 15)), (7, (0, 0)), (6, (0, 3)), (4, (4, 3)), (3, (4, 2)), (2, (4, 1)), (1, (4, 0)), (0, (6, 0))]) (stN := [(0, 34)]) (hsN := jpZ_215) (c1 := 0) (s1 := 0) (c2 := 154007) (s2 := 5124042) (by exact rfl) ?_ (by omega) (by omega)
  refine jT_xbipush (k := 63) (pcN := 43) jIZ_379_41 (by decide) rfl ?_
  refine jT_iand (x := 34) (y := 63) (z := 34) (by rfl) (by rfl) (by decide +kernel) ?_
  refine jT_adv 1 (pcN := 2598) (LN := [(5, (0, 15)), (7, (0, 0)), (6, (0, 3)), (4, (4, 3)), (3, (4, 2)), (2, (4, 1)), (1, (4, 0)), (0, (6, 0))]) (stN := []) (hsN := jpZ_215) (c1 := 0) (s1 := 0) (c2 := 154007) (s2 := 5124042) (by exact rfl) ?_ (by omega) (by omega)
  refine jT_xaload_n (v := (4, 0)) (pcN := 2599) jIZ_379_2598 rfl rfl rfl ?_
  refine jT_xaload_n (v := (6, 0)) (pcN := 2600) jIZ_379_2599 rfl rfl rfl ?_
  refine jT_xiload (v := (0, 15)) (pcN := 2602) jIZ_379_2600 rfl rfl rfl ?_
  refine jT_xiconst (k := 1) (pcN := 2603) jIZ_379_2602 rfl ?_
  refine jT_xiadd (x := 15) (y := 1) (z := 16) (pcN := 2604) jIZ_379_2603 rfl (by decide) rfl ?_
  refine jT_adv 1 (pcN := 2605) (LN := [(5, (0, 15)), (7, (0, 0)), (6, (0, 3)), (4, (4, 3)), (3, (4, 2)), (2, (4, 1)), (1, (4, 0)), (0, (6, 0))]) (stN := [(0, 0), (4, 0)]) (hsN := jpZ_215) (c1 := 0) (s1 := 0) (c2 := 154007) (s2 := 5124042) (by exact rfl) ?_ (by omega) (by omega)
  refine jT_xaload_n (v := (6, 0)) (pcN := 2606) jIZ_379_2605 rfl rfl rfl ?_
  refine jT_xiload (v := (0, 15)) (pcN := 2608) jIZ_379_2606 rfl rfl rfl ?_
  refine jT_xiconst (k := 2) (pcN := 2609) jIZ_379_2608 rfl ?_
  refine jT_xiadd (x := 15) (y := 2) (z := 17) (pcN := 2610) jIZ_379_2609 rfl (by decide) rfl ?_
  refine jT_adv 1 (pcN := 2611) (LN := [(5, (0, 15)), (7, (0, 0)), (6, (0, 3)), (4, (4, 3)), (3, (4, 2)), (2, (4, 1)), (1, (4, 0)), (0, (6, 0))]) (stN := [(0, 2147483647), (0, 0), (4, 0)]) (hsN := jpZ_215) (c1 := 0) (s1 := 0) (c2 := 154007) (s2 := 5124042) (by exact rfl) ?_ (by omega) (by omega)
  refine jT_xaload_n (v := (6, 0)) (pcN := 2612) jIZ_379_2611 rfl rfl rfl ?_
  refine jT_xiload (v := (0, 15)) (pcN := 2614) jIZ_379_2612 rfl rfl rfl ?_
  refine jT_xiconst (k := 3) (pcN := 2615) jIZ_379_2614 rfl ?_
  refine jT_xiadd (x := 15) (y := 3) (z := 18) (pcN := 2616) jIZ_379_2615 rfl (by decide) rfl ?_
  refine jT_adv 1 (pcN := 2617) (LN := [(5, (0, 15)), (7, (0, 0)), (6, (0, 3)), (4, (4, 3)), (3, (4, 2)), (2, (4, 1)), (1, (4, 0)), (0, (6, 0))]) (stN := [(0, 2000), (0, 2147483647), (0, 0), (4, 0)]) (hsN := jpZ_215) (c1 := 0) (s1 := 0) (c2 := 154007) (s2 := 5124042) (by exact rfl) ?_ (by omega) (by omega)
  refine jT_xaload_n (v := (4, 2)) (pcN := 2618) jIZ_379_2617 rfl rfl rfl ?_
  refine jT_fB [0, 2, 4, 5, 6, 7, 8, 9, 10, 11, 12, 13, 14, 30, 31, 33, 32, 34, 35, 36, 37, 38, 45, 47, 46, 48, 49] 83 (y := 358) (pcN := 2621) (dC := 6) (bc1 := 1) (bc2 := 6) (c1 := 154006) (c2 := 5124036) (as := [(4, 0), (0, 0), (0, 2147483647), (0, 2000), (4, 2)]) (asC := [(4, 0), (0, 0), (0, 2147483647), (0, 2000), (4, 1)]) (LN := [(5, (0, 15)), (7, (0, 0)), (6, (0, 3)), (4, (4, 3)), (3, (4, 2)), (2, (4, 1)), (1, (4, 0)), (0, (6, 0))]) (stN := []) (hsC := jpZ_158) (hsD := jpZ_149) (v := (0, 3)) (st2 := [(0, 3)]) (hs2 := jpZ_216) (jZ_358_68 (d := 0)) (by rfl) (by rfl) (by decide +kernel) (by rfl) (by rfl) (by omega) (by omega) (by omega) (by omega) rfl (by decide +kernel) ?_
  refine jT_xistore (v := (0, 3)) (LN := [(6, (0, 3)), (5, (0, 15)), (7, (0, 0)), (4, (4, 3)), (3, (4, 2)), (2, (4, 1)), (1, (4, 0)), (0, (6, 0))]) (pcN := 2623) jIZ_379_2621 rfl rfl rfl rfl ?_
  refine jT_xaload_n (v := (4, 1)) (pcN := 2624) jIZ_379_2623 rfl rfl rfl ?_
  refine jT_xaload_n (v := (6, 0)) (pcN := 2625) jIZ_379_2624 rfl rfl rfl ?_
  refine jT_xiload (v := (0, 15)) (pcN := 2627) jIZ_379_2625 rfl rfl rfl ?_
  refine jT_xiconst (k := 1) (pcN := 2628) jIZ_379_2627 rfl ?_
  refine jT_xiadd (x := 15) (y := 1) (z := 16) (pcN := 2629) jIZ_379_2628 rfl (by decide) rfl ?_
  refine jT_adv 1 (pcN := 2630) (LN := [(6, (0, 3)), (5, (0, 15)), (7, (0, 0)), (4, (4, 3)), (3, (4, 2)), (2, (4, 1)), (1, (4, 0)), (0, (6, 0))]) (stN := [(0, 0), (4, 1)]) (hsN := jpZ_216) (c1 := 0) (s1 := 0) (c2 := 154006) (s2 := 5124036) (by exact rfl) ?_ (by omega) (by omega)
  refine jT_xaload_n (v := (6, 0)) (pcN := 2631) jIZ_379_2630 rfl rfl rfl ?_
  refine jT_xiload (v := (0, 15)) (pcN := 2633) jIZ_379_2631 rfl rfl rfl ?_
  refine jT_xiconst (k := 2) (pcN := 2634) jIZ_379_2633 rfl ?_
  refine jT_xiadd (x := 15) (y := 2) (z := 17) (pcN := 2635) jIZ_379_2634 rfl (by decide) rfl ?_
  refine jT_adv 1 (pcN := 2636) (LN := [(6, (0, 3)), (5, (0, 15)), (7, (0, 0)), (4, (4, 3)), (3, (4, 2)), (2, (4, 1)), (1, (4, 0)), (0, (6, 0))]) (stN := [(0, 2147483647), (0, 0), (4, 1)]) (hsN := jpZ_216) (c1 := 0) (s1 := 0) (c2 := 154006) (s2 := 5124036) (by exact rfl) ?_ (by omega) (by omega)
  refine jT_xaload_n (v := (6, 0)) (pcN := 2637) jIZ_379_2636 rfl rfl rfl ?_
  refine jT_xiload (v := (0, 15)) (pcN := 2639) jIZ_379_2637 rfl rfl rfl ?_
  refine jT_xiconst (k := 3) (pcN := 2640) jIZ_379_2639 rfl ?_
  refine jT_xiadd (x := 15) (y := 3) (z := 18) (pcN := 2641) jIZ_379_2640 rfl (by decide) rfl ?_
  refine jT_adv 1 (pcN := 2642) (LN := [(6, (0, 3)), (5, (0, 15)), (7, (0, 0)), (4, (4, 3)), (3, (4, 2)), (2, (4, 1)), (1, (4, 0)), (0, (6, 0))]) (stN := [(0, 2000), (0, 2147483647), (0, 0), (4, 1)]) (hsN := jpZ_216) (c1 := 0) (s1 := 0) (c2 := 154006) (s2 := 5124036) (by exact rfl) ?_ (by omega) (by omega)
  refine jT_fA [1, 15, 16, 17, 18, 19, 20, 21, 22, 23, 24, 25, 26, 27, 28, 29, 39, 40, 41, 42, 43, 44] 83 (y := 287) (pcN := 2645) (dC := 8) (bc1 := 22000) (bc2 := 732000) (c1 := 132006) (c2 := 4392036) (as := [(4, 1), (0, 0), (0, 2147483647), (0, 2000)]) (asC := [(4, 0), (0, 0), (0, 2147483647), (0, 2000)]) (LN := [(6, (0, 3)), (5, (0, 15)), (7, (0, 0)), (4, (4, 3)), (3, (4, 2)), (2, (4, 1)), (1, (4, 0)), (0, (6, 0))]) (stN := []) (hsC := jpZ_150) (ex := jpZ_151) (v := (0, 0)) (st2 := [(0, 0)]) (hs2 := jpZ_217) (jZ_287_62 (d := 0)) (by rfl) (by rfl) (by decide +kernel) (by rfl) (by rfl) (by omega) (by omega) (by omega) (by omega) rfl (by decide +kernel) ?_
  refine jT_xistore (v := (0, 0)) (LN := [(7, (0, 0)), (6, (0, 3)), (5, (0, 15)), (4, (4, 3)), (3, (4, 2)), (2, (4, 1)), (1, (4, 0)), (0, (6, 0))]) (pcN := 2647) jIZ_379_2645 rfl rfl rfl rfl ?_
  refine jT_xaload_n (v := (4, 1)) (pcN := 2648) jIZ_379_2647 rfl rfl rfl ?_
  refine jT_fR [1, 15, 16, 17, 18, 19, 20, 21, 22, 23, 24, 25, 26, 27, 28, 29] 94 (y := 186) (pcN := 2651) (dC := 0) (bc1 := 0) (bc2 := 0) (c1 := 132006) (c2 := 4392036) (as := [(4, 1)]) (asC := [(4, 0)]) (LN := [(7, (0, 0)), (6, (0, 3)), (5, (0, 15)), (4, (4, 3)), (3, (4, 2)), (2, (4, 1)), (1, (4, 0)), (0, (6, 0))]) (stN := []) (hsC := jpZ_99) (v := (0, 3)) (st2 := [(0, 3)]) (jZ_186_52 (d := 0)) (by rfl) (by rfl) (by decide +kernel) (by rfl) (by rfl) (by omega) (by omega) (by omega) (by omega) rfl ?_
  refine jT_xiload (v := (0, 3)) (pcN := 2653) jIZ_379_2651 rfl rfl rfl ?_
  refine jT_xicT (pcN := 2658) jIZ_379_2653 rfl (by decide +kernel) rfl ?_
  refine jT_xiload (v := (0, 3)) (pcN := 2660) jIZ_379_2658 rfl rfl rfl ?_
  refine jT_xifT (pcN := 2675) jIZ_379_2660 rfl (by decide +kernel) rfl ?_
  refine jT_xgoto (pcN := 3740) jIZ_379_2675 rfl ?_
  refine jT_xiinc (x := 15) (z := 20) (LN := [(5, (0, 20)), (7, (0, 0)), (6, (0, 3)), (4, (4, 3)), (3, (4, 2)), (2, (4, 1)), (1, (4, 0)), (0, (6, 0))]) (pcN := 3743) jIZ_379_3740 rfl rfl (by decide) rfl rfl ?_
  refine jT_xgoto (pcN := 28) jIZ_379_3743 rfl ?_
  refine jT_xiload (v := (0, 20)) (pcN := 30) jIZ_379_28 rfl rfl rfl ?_
  refine jT_xaload_n (v := (6, 0)) (pcN := 31) jIZ_379_30 rfl rfl rfl ?_
  refine jT_adv 1 (pcN := 32) (LN := [(5, (0, 20)), (7, (0, 0)), (6, (0, 3)), (4, (4, 3)), (3, (4, 2)), (2, (4, 1)), (1, (4, 0)), (0, (6, 0))]) (stN := [(0, 50), (0, 20)]) (hsN := jpZ_217) (c1 := 0) (s1 := 0) (c2 := 132006) (s2 := 4392036) (by exact rfl) ?_ (by omega) (by omega)
  refine jT_xiconst (k := 5) (pcN := 33) jIZ_379_32 rfl ?_
  refine jT_xisub (x := 50) (y := 5) (z := 45) (pcN := 34) jIZ_379_33 rfl (by decide) rfl ?_
  refine jT_xicF (t := 3746) (pcN := 37) jIZ_379_34 rfl (by decide +kernel) rfl rfl ?_
  refine jT_xaload_n (v := (6, 0)) (pcN := 38) jIZ_379_37 rfl rfl rfl ?_
  refine jT_xiload (v := (0, 20)) (pcN := 40) jIZ_379_38 rfl rfl rfl ?_
  refine jT_adv 1 (pcN := 41) (LN := [(5, (0, 20)), (7, (0, 0)), (6, (0, 3)), (4, (4, 3)), (3, (4, 2)), (2, (4, 1)), (1, (4, 0)), (0, (6, 0))]) (stN := [(0, 34)]) (hsN := jpZ_217) (c1 := 0) (s1 := 0) (c2 := 132006) (s2 := 4392036) (by exact rfl) ?_ (by omega) (by omega)
  refine jT_xbipush (k := 63) (pcN := 43) jIZ_379_41 (by decide) rfl ?_
  refine jT_iand (x := 34) (y := 63) (z := 34) (by rfl) (by rfl) (by decide +kernel) ?_
  refine jT_adv 1 (pcN := 2598) (LN := [(5, (0, 20)), (7, (0, 0)), (6, (0, 3)), (4, (4, 3)), (3, (4, 2)), (2, (4, 1)), (1, (4, 0)), (0, (6, 0))]) (stN := []) (hsN := jpZ_217) (c1 := 0) (s1 := 0) (c2 := 132006) (s2 := 4392036) (by exact rfl) ?_ (by omega) (by omega)
  refine jT_xaload_n (v := (4, 0)) (pcN := 2599) jIZ_379_2598 rfl rfl rfl ?_
  refine jT_xaload_n (v := (6, 0)) (pcN := 2600) jIZ_379_2599 rfl rfl rfl ?_
  refine jT_xiload (v := (0, 20)) (pcN := 2602) jIZ_379_2600 rfl rfl rfl ?_
  refine jT_xiconst (k := 1) (pcN := 2603) jIZ_379_2602 rfl ?_
  refine jT_xiadd (x := 20) (y := 1) (z := 21) (pcN := 2604) jIZ_379_2603 rfl (by decide) rfl ?_
  refine jT_adv 1 (pcN := 2605) (LN := [(5, (0, 20)), (7, (0, 0)), (6, (0, 3)), (4, (4, 3)), (3, (4, 2)), (2, (4, 1)), (1, (4, 0)), (0, (6, 0))]) (stN := [(0, 0), (4, 0)]) (hsN := jpZ_217) (c1 := 0) (s1 := 0) (c2 := 132006) (s2 := 4392036) (by exact rfl) ?_ (by omega) (by omega)
  refine jT_xaload_n (v := (6, 0)) (pcN := 2606) jIZ_379_2605 rfl rfl rfl ?_
  refine jT_xiload (v := (0, 20)) (pcN := 2608) jIZ_379_2606 rfl rfl rfl ?_
  refine jT_xiconst (k := 2) (pcN := 2609) jIZ_379_2608 rfl ?_
  refine jT_xiadd (x := 20) (y := 2) (z := 22) (pcN := 2610) jIZ_379_2609 rfl (by decide) rfl ?_
  refine jT_adv 1 (pcN := 2611) (LN := [(5, (0, 20)), (7, (0, 0)), (6, (0, 3)), (4, (4, 3)), (3, (4, 2)), (2, (4, 1)), (1, (4, 0)), (0, (6, 0))]) (stN := [(0, 2147483647), (0, 0), (4, 0)]) (hsN := jpZ_217) (c1 := 0) (s1 := 0) (c2 := 132006) (s2 := 4392036) (by exact rfl) ?_ (by omega) (by omega)
  refine jT_xaload_n (v := (6, 0)) (pcN := 2612) jIZ_379_2611 rfl rfl rfl ?_
  refine jT_xiload (v := (0, 20)) (pcN := 2614) jIZ_379_2612 rfl rfl rfl ?_
  refine jT_xiconst (k := 3) (pcN := 2615) jIZ_379_2614 rfl ?_
  refine jT_xiadd (x := 20) (y := 3) (z := 23) (pcN := 2616) jIZ_379_2615 rfl (by decide) rfl ?_
  refine jT_adv 1 (pcN := 2617) (LN := [(5, (0, 20)), (7, (0, 0)), (6, (0, 3)), (4, (4, 3)), (3, (4, 2)), (2, (4, 1)), (1, (4, 0)), (0, (6, 0))]) (stN := [(0, 2000), (0, 2147483647), (0, 0), (4, 0)]) (hsN := jpZ_217) (c1 := 0) (s1 := 0) (c2 := 132006) (s2 := 4392036) (by exact rfl) ?_ (by omega) (by omega)
  refine jT_xaload_n (v := (4, 2)) (pcN := 2618) jIZ_379_2617 rfl rfl rfl ?_
  refine jT_fB [0, 2, 4, 5, 6, 7, 8, 9, 10, 11, 12, 13, 14, 30, 31, 32, 33, 34, 35, 36, 37, 38, 45, 46, 47, 48, 49] 94 (y := 358) (pcN := 2621) (dC := 6) (bc1 := 1) (bc2 := 6) (c1 := 132005) (c2 := 4392030) (as := [(4, 0), (0, 0), (0, 2147483647), (0, 2000), (4, 2)]) (asC := [(4, 0), (0, 0), (0, 2147483647), (0, 2000), (4, 1)]) (LN := [(5, (0, 20)), (7, (0, 0)), (6, (0, 3)), (4, (4, 3)), (3, (4, 2)), (2, (4, 1)), (1, (4, 0)), (0, (6, 0))]) (stN := []) (hsC := jpZ_158) (hsD := jpZ_149) (v := (0, 3)) (st2 := [(0, 3)]) (hs2 := jpZ_218) (jZ_358_68 (d := 0)) (by rfl) (by rfl) (by decide +kernel) (by rfl) (by rfl) (by omega) (by omega) (by omega) (by omega) rfl (by decide +kernel) ?_
  refine jT_xistore (v := (0, 3)) (LN := [(6, (0, 3)), (5, (0, 20)), (7, (0, 0)), (4, (4, 3)), (3, (4, 2)), (2, (4, 1)), (1, (4, 0)), (0, (6, 0))]) (pcN := 2623) jIZ_379_2621 rfl rfl rfl rfl ?_
  refine jT_xaload_n (v := (4, 1)) (pcN := 2624) jIZ_379_2623 rfl rfl rfl ?_
  refine jT_xaload_n (v := (6, 0)) (pcN := 2625) jIZ_379_2624 rfl rfl rfl ?_
  refine jT_xiload (v := (0, 20)) (pcN := 2627) jIZ_379_2625 rfl rfl rfl ?_
  refine jT_xiconst (k := 1) (pcN := 2628) jIZ_379_2627 rfl ?_
  refine jT_xiadd (x := 20) (y := 1) (z := 21) (pcN := 2629) jIZ_379_2628 rfl (by decide) rfl ?_
  refine jT_adv 1 (pcN := 2630) (LN := [(6, (0, 3)), (5, (0, 20)), (7, (0, 0)), (4, (4, 3)), (3, (4, 2)), (2, (4, 1)), (1, (4, 0)), (0, (6, 0))]) (stN := [(0, 0), (4, 1)]) (hsN := jpZ_218) (c1 := 0) (s1 := 0) (c2 := 132005) (s2 := 4392030) (by exact rfl) ?_ (by omega) (by omega)
  refine jT_xaload_n (v := (6, 0)) (pcN := 2631) jIZ_379_2630 rfl rfl rfl ?_
  refine jT_xiload (v := (0, 20)) (pcN := 2633) jIZ_379_2631 rfl rfl rfl ?_
  refine jT_xiconst (k := 2) (pcN := 2634) jIZ_379_2633 rfl ?_
  refine jT_xiadd (x := 20) (y := 2) (z := 22) (pcN := 2635) jIZ_379_2634 rfl (by decide) rfl ?_
  refine jT_adv 1 (pcN := 2636) (LN := [(6, (0, 3)), (5, (0, 20)), (7, (0, 0)), (4, (4, 3)), (3, (4, 2)), (2, (4, 1)), (1, (4, 0)), (0, (6, 0))]) (stN := [(0, 2147483647), (0, 0), (4, 1)]) (hsN := jpZ_218) (c1 := 0) (s1 := 0) (c2 := 132005) (s2 := 4392030) (by exact rfl) ?_ (by omega) (by omega)
  refine jT_xaload_n (v := (6, 0)) (pcN := 2637) jIZ_379_2636 rfl rfl rfl ?_
  refine jT_xiload (v := (0, 20)) (pcN := 2639) jIZ_379_2637 rfl rfl rfl ?_
  refine jT_xiconst (k := 3) (pcN := 2640) jIZ_379_2639 rfl ?_
  refine jT_xiadd (x := 20) (y := 3) (z := 23) (pcN := 2641) jIZ_379_2640 rfl (by decide) rfl ?_
  refine jT_adv 1 (pcN := 2642) (LN := [(6, (0, 3)), (5, (0, 20)), (7, (0, 0)), (4, (4, 3)), (3, (4, 2)), (2, (4, 1)), (1, (4, 0)), (0, (6, 0))]) (stN := [(0, 2000), (0, 2147483647), (0, 0), (4, 1)]) (hsN := jpZ_218) (c1 := 0) (s1 := 0) (c2 := 132005) (s2 := 4392030) (by exact rfl) ?_ (by omega) (by omega)
  refine jT_fA [1, 15, 16, 17, 18, 19, 20, 21, 22, 23, 24, 25, 26, 27, 28, 29, 39, 40, 41, 42, 43, 44] 94 (y := 287) (pcN := 2645) (dC := 8) (bc1 := 22000) (bc2 := 732000) (c1 := 110005) (c2 := 3660030) (as := [(4, 1), (0, 0), (0, 2147483647), (0, 2000)]) (asC := [(4, 0), (0, 0), (0, 2147483647), (0, 2000)]) (LN := [(6, (0, 3)), (5, (0, 20)), (7, (0, 0)), (4, (4, 3)), (3, (4, 2)), (2, (4, 1)), (1, (4, 0)), (0, (6, 0))]) (stN := []) (hsC := jpZ_150) (ex := jpZ_151) (v := (0, 0)) (st2 := [(0, 0)]) (hs2 := jpZ_219) (jZ_287_62 (d := 0)) (by rfl) (by rfl) (by decide +kernel) (by rfl) (by rfl) (by omega) (by omega) (by omega) (by omega) rfl (by decide +kernel) ?_
  refine jT_xistore (v := (0, 0)) (LN := [(7, (0, 0)), (6, (0, 3)), (5, (0, 20)), (4, (4, 3)), (3, (4, 2)), (2, (4, 1)), (1, (4, 0)), (0, (6, 0))]) (pcN := 2647) jIZ_379_2645 rfl rfl rfl rfl ?_
  refine jT_xaload_n (v := (4, 1)) (pcN := 2648) jIZ_379_2647 rfl rfl rfl ?_
  refine jT_fR [1, 15, 16, 17, 18, 19, 20, 21, 22, 23, 24, 25, 26, 27, 28, 29] 105 (y := 186) (pcN := 2651) (dC := 0) (bc1 := 0) (bc2 := 0) (c1 := 110005) (c2 := 3660030) (as := [(4, 1)]) (asC := [(4, 0)]) (LN := [(7, (0, 0)), (6, (0, 3)), (5, (0, 20)), (4, (4, 3)), (3, (4, 2)), (2, (4, 1)), (1, (4, 0)), (0, (6, 0))]) (stN := []) (hsC := jpZ_99) (v := (0, 3)) (st2 := [(0, 3)]) (jZ_186_52 (d := 0)) (by rfl) (by rfl) (by decide +kernel) (by rfl) (by rfl) (by omega) (by omega) (by omega) (by omega) rfl ?_
  refine jT_xiload (v := (0, 3)) (pcN := 2653) jIZ_379_2651 rfl rfl rfl ?_
  refine jT_xicT (pcN := 2658) jIZ_379_2653 rfl (by decide +kernel) rfl ?_
  refine jT_xiload (v := (0, 3)) (pcN := 2660) jIZ_379_2658 rfl rfl rfl ?_
  refine jT_xifT (pcN := 2675) jIZ_379_2660 rfl (by decide +kernel) rfl ?_
  refine jT_xgoto (pcN := 3740) jIZ_379_2675 rfl ?_
  refine jT_xiinc (x := 20) (z := 25) (LN := [(5, (0, 25)), (7, (0, 0)), (6, (0, 3)), (4, (4, 3)), (3, (4, 2)), (2, (4, 1)), (1, (4, 0)), (0, (6, 0))]) (pcN := 3743) jIZ_379_3740 rfl rfl (by decide) rfl rfl ?_
  refine jT_xgoto (pcN := 28) jIZ_379_3743 rfl ?_
  refine jT_xiload (v := (0, 25)) (pcN := 30) jIZ_379_28 rfl rfl rfl ?_
  refine jT_xaload_n (v := (6, 0)) (pcN := 31) jIZ_379_30 rfl rfl rfl ?_
  refine jT_adv 1 (pcN := 32) (LN := [(5, (0, 25)), (7, (0, 0)), (6, (0, 3)), (4, (4, 3)), (3, (4, 2)), (2, (4, 1)), (1, (4, 0)), (0, (6, 0))]) (stN := [(0, 50), (0, 25)]) (hsN := jpZ_219) (c1 := 0) (s1 := 0) (c2 := 110005) (s2 := 3660030) (by exact rfl) ?_ (by omega) (by omega)
  refine jT_xiconst (k := 5) (pcN := 33) jIZ_379_32 rfl ?_
  refine jT_xisub (x := 50) (y := 5) (z := 45) (pcN := 34) jIZ_379_33 rfl (by decide) rfl ?_
  refine jT_xicF (t := 3746) (pcN := 37) jIZ_379_34 rfl (by decide +kernel) rfl rfl ?_
  refine jT_xaload_n (v := (6, 0)) (pcN := 38) jIZ_379_37 rfl rfl rfl ?_
  refine jT_xiload (v := (0, 25)) (pcN := 40) jIZ_379_38 rfl rfl rfl ?_
  refine jT_adv 1 (pcN := 41) (LN := [(5, (0, 25)), (7, (0, 0)), (6, (0, 3)), (4, (4, 3)), (3, (4, 2)), (2, (4, 1)), (1, (4, 0)), (0, (6, 0))]) (stN := [(0, 34)]) (hsN := jpZ_219) (c1 := 0) (s1 := 0) (c2 := 110005) (s2 := 3660030) (by exact rfl) ?_ (by omega) (by omega)
  refine jT_xbipush (k := 63) (pcN := 43) jIZ_379_41 (by decide) rfl ?_
  refine jT_iand (x := 34) (y := 63) (z := 34) (by rfl) (by rfl) (by decide +kernel) ?_
  refine jT_adv 1 (pcN := 2598) (LN := [(5, (0, 25)), (7, (0, 0)), (6, (0, 3)), (4, (4, 3)), (3, (4, 2)), (2, (4, 1)), (1, (4, 0)), (0, (6, 0))]) (stN := []) (hsN := jpZ_219) (c1 := 0) (s1 := 0) (c2 := 110005) (s2 := 3660030) (by exact rfl) ?_ (by omega) (by omega)
  refine jT_xaload_n (v := (4, 0)) (pcN := 2599) jIZ_379_2598 rfl rfl rfl ?_
  refine jT_xaload_n (v := (6, 0)) (pcN := 2600) jIZ_379_2599 rfl rfl rfl ?_
  refine jT_xiload (v := (0, 25)) (pcN := 2602) jIZ_379_2600 rfl rfl rfl ?_
  refine jT_xiconst (k := 1) (pcN := 2603) jIZ_379_2602 rfl ?_
  refine jT_xiadd (x := 25) (y := 1) (z := 26) (pcN := 2604) jIZ_379_2603 rfl (by decide) rfl ?_
  refine jT_adv 1 (pcN := 2605) (LN := [(5, (0, 25)), (7, (0, 0)), (6, (0, 3)), (4, (4, 3)), (3, (4, 2)), (2, (4, 1)), (1, (4, 0)), (0, (6, 0))]) (stN := [(0, 0), (4, 0)]) (hsN := jpZ_219) (c1 := 0) (s1 := 0) (c2 := 110005) (s2 := 3660030) (by exact rfl) ?_ (by omega) (by omega)
  refine jT_xaload_n (v := (6, 0)) (pcN := 2606) jIZ_379_2605 rfl rfl rfl ?_
  refine jT_xiload (v := (0, 25)) (pcN := 2608) jIZ_379_2606 rfl rfl rfl ?_
  refine jT_xiconst (k := 2) (pcN := 2609) jIZ_379_2608 rfl ?_
  refine jT_xiadd (x := 25) (y := 2) (z := 27) (pcN := 2610) jIZ_379_2609 rfl (by decide) rfl ?_
  refine jT_adv 1 (pcN := 2611) (LN := [(5, (0, 25)), (7, (0, 0)), (6, (0, 3)), (4, (4, 3)), (3, (4, 2)), (2, (4, 1)), (1, (4, 0)), (0, (6, 0))]) (stN := [(0, 2147483647), (0, 0), (4, 0)]) (hsN := jpZ_219) (c1 := 0) (s1 := 0) (c2 := 110005) (s2 := 3660030) (by exact rfl) ?_ (by omega) (by omega)
  refine jT_xaload_n (v := (6, 0)) (pcN := 2612) jIZ_379_2611 rfl rfl rfl ?_
  refine jT_xiload (v := (0, 25)) (pcN := 2614) jIZ_379_2612 rfl rfl rfl ?_
  refine jT_xiconst (k := 3) (pcN := 2615) jIZ_379_2614 rfl ?_
  refine jT_xiadd (x := 25) (y := 3) (z := 28) (pcN := 2616) jIZ_379_2615 rfl (by decide) rfl ?_
  refine jT_adv 1 (pcN := 2617) (LN := [(5, (0, 25)), (7, (0, 0)), (6, (0, 3)), (4, (4, 3)), (3, (4, 2)), (2, (4, 1)), (1, (4, 0)), (0, (6, 0))]) (stN := [(0, 2000), (0, 2147483647), (0, 0), (4, 0)]) (hsN := jpZ_219) (c1 := 0) (s1 := 0) (c2 := 110005) (s2 := 3660030) (by exact rfl) ?_ (by omega) (by omega)
  refine jT_xaload_n (v := (4, 2)) (pcN := 2618) jIZ_379_2617 rfl rfl rfl ?_
  refine jT_fB [0, 2, 4, 5, 6, 7, 8, 9, 10, 11, 12, 13, 14, 30, 31, 33, 32, 34, 35, 36, 37, 38, 45, 47, 46, 48, 49] 105 (y := 358) (pcN := 2621) (dC := 6) (bc1 := 1) (bc2 := 6) (c1 := 110004) (c2 := 3660024) (as := [(4, 0), (0, 0), (0, 2147483647), (0, 2000), (4, 2)]) (asC := [(4, 0), (0, 0), (0, 2147483647), (0, 2000), (4, 1)]) (LN := [(5, (0, 25)), (7, (0, 0)), (6, (0, 3)), (4, (4, 3)), (3, (4, 2)), (2, (4, 1)), (1, (4, 0)), (0, (6, 0))]) (stN := []) (hsC := jpZ_158) (hsD := jpZ_149) (v := (0, 3)) (st2 := [(0, 3)]) (hs2 := jpZ_220) (jZ_358_68 (d := 0)) (by rfl) (by rfl) (by decide +kernel) (by rfl) (by rfl) (by omega) (by omega) (by omega) (by omega) rfl (by decide +kernel) ?_
  refine jT_xistore (v := (0, 3)) (LN := [(6, (0, 3)), (5, (0, 25)), (7, (0, 0)), (4, (4, 3)), (3, (4, 2)), (2, (4, 1)), (1, (4, 0)), (0, (6, 0))]) (pcN := 2623) jIZ_379_2621 rfl rfl rfl rfl ?_
  refine jT_xaload_n (v := (4, 1)) (pcN := 2624) jIZ_379_2623 rfl rfl rfl ?_
  refine jT_xaload_n (v := (6, 0)) (pcN := 2625) jIZ_379_2624 rfl rfl rfl ?_
  refine jT_xiload (v := (0, 25)) (pcN := 2627) jIZ_379_2625 rfl rfl rfl ?_
  refine jT_xiconst (k := 1) (pcN := 2628) jIZ_379_2627 rfl ?_
  refine jT_xiadd (x := 25) (y := 1) (z := 26) (pcN := 2629) jIZ_379_2628 rfl (by decide) rfl ?_
  refine jT_adv 1 (pcN := 2630) (LN := [(6, (0, 3)), (5, (0, 25)), (7, (0, 0)), (4, (4, 3)), (3, (4, 2)), (2, (4, 1)), (1, (4, 0)), (0, (6, 0))]) (stN := [(0, 0), (4, 1)]) (hsN := jpZ_220) (c1 := 0) (s1 := 0) (c2 := 110004) (s2 := 3660024) (by exact rfl) ?_ (by omega) (by omega)
  refine jT_xaload_n (v := (6, 0)) (pcN := 2631) jIZ_379_2630 rfl rfl rfl ?_
  refine jT_xiload (v := (0, 25)) (pcN := 2633) jIZ_379_2631 rfl rfl rfl ?_
  refine jT_xiconst (k := 2) (pcN := 2634) jIZ_379_2633 rfl ?_
  refine jT_xiadd (x := 25) (y := 2) (z := 27) (pcN := 2635) jIZ_379_2634 rfl (by decide) rfl ?_
  refine jT_adv 1 (pcN := 2636) (LN := [(6, (0, 3)), (5, (0, 25)), (7, (0, 0)), (4, (4, 3)), (3, (4, 2)), (2, (4, 1)), (1, (4, 0)), (0, (6, 0))]) (stN := [(0, 2147483647), (0, 0), (4, 1)]) (hsN := jpZ_220) (c1 := 0) (s1 := 0) (c2 := 110004) (s2 := 3660024) (by exact rfl) ?_ (by omega) (by omega)
  refine jT_xaload_n (v := (6, 0)) (pcN := 2637) jIZ_379_2636 rfl rfl rfl ?_
  refine jT_xiload (v := (0, 25)) (pcN := 2639) jIZ_379_2637 rfl rfl rfl ?_
  refine jT_xiconst (k := 3) (pcN := 2640) jIZ_379_2639 rfl ?_
  refine jT_xiadd (x := 25) (y := 3) (z := 28) (pcN := 2641) jIZ_379_2640 rfl (by decide) rfl ?_
  refine jT_adv 1 (pcN := 2642) (LN := [(6, (0, 3)), (5, (0, 25)), (7, (0, 0)), (4, (4, 3)), (3, (4, 2)), (2, (4, 1)), (1, (4, 0)), (0, (6, 0))]) (stN := [(0, 2000), (0, 2147483647), (0, 0), (4, 1)]) (hsN := jpZ_220) (c1 := 0) (s1 := 0) (c2 := 110004) (s2 := 3660024) (by exact rfl) ?_ (by omega) (by omega)
  refine jT_fA [1, 15, 16, 17, 18, 19, 20, 21, 22, 23, 24, 25, 26, 27, 28, 29, 39, 40, 41, 42, 43, 44] 105 (y := 287) (pcN := 2645) (dC := 8) (bc1 := 22000) (bc2 := 732000) (c1 := 88004) (c2 := 2928024) (as := [(4, 1), (0, 0), (0, 2147483647), (0, 2000)]) (asC := [(4, 0), (0, 0), (0, 2147483647), (0, 2000)]) (LN := [(6, (0, 3)), (5, (0, 25)), (7, (0, 0)), (4, (4, 3)), (3, (4, 2)), (2, (4, 1)), (1, (4, 0)), (0, (6, 0))]) (stN := []) (hsC := jpZ_150) (ex := jpZ_151) (v := (0, 0)) (st2 := [(0, 0)]) (hs2 := jpZ_221) (jZ_287_62 (d := 0)) (by rfl) (by rfl) (by decide +kernel) (by rfl) (by rfl) (by omega) (by omega) (by omega) (by omega) rfl (by decide +kernel) ?_
  refine jT_xistore (v := (0, 0)) (LN := [(7, (0, 0)), (6, (0, 3)), (5, (0, 25)), (4, (4, 3)), (3, (4, 2)), (2, (4, 1)), (1, (4, 0)), (0, (6, 0))]) (pcN := 2647) jIZ_379_2645 rfl rfl rfl rfl ?_
  refine jT_xaload_n (v := (4, 1)) (pcN := 2648) jIZ_379_2647 rfl rfl rfl ?_
  refine jT_fR [1, 15, 16, 17, 18, 19, 20, 21, 22, 23, 24, 25, 26, 27, 28, 29] 116 (y := 186) (pcN := 2651) (dC := 0) (bc1 := 0) (bc2 := 0) (c1 := 88004) (c2 := 2928024) (as := [(4, 1)]) (asC := [(4, 0)]) (LN := [(7, (0, 0)), (6, (0, 3)), (5, (0, 25)), (4, (4, 3)), (3, (4, 2)), (2, (4, 1)), (1, (4, 0)), (0, (6, 0))]) (stN := []) (hsC := jpZ_99) (v := (0, 3)) (st2 := [(0, 3)]) (jZ_186_52 (d := 0)) (by rfl) (by rfl) (by decide +kernel) (by rfl) (by rfl) (by omega) (by omega) (by omega) (by omega) rfl ?_
  refine jT_xiload (v := (0, 3)) (pcN := 2653) jIZ_379_2651 rfl rfl rfl ?_
  refine jT_xicT (pcN := 2658) jIZ_379_2653 rfl (by decide +kernel) rfl ?_
  refine jT_xiload (v := (0, 3)) (pcN := 2660) jIZ_379_2658 rfl rfl rfl ?_
  refine jT_xifT (pcN := 2675) jIZ_379_2660 rfl (by decide +kernel) rfl ?_
  refine jT_xgoto (pcN := 3740) jIZ_379_2675 rfl ?_
  refine jT_xiinc (x := 25) (z := 30) (LN := [(5, (0, 30)), (7, (0, 0)), (6, (0, 3)), (4, (4, 3)), (3, (4, 2)), (2, (4, 1)), (1, (4, 0)), (0, (6, 0))]) (pcN := 3743) jIZ_379_3740 rfl rfl (by decide) rfl rfl ?_
  refine jT_xgoto (pcN := 28) jIZ_379_3743 rfl ?_
  refine jT_xiload (v := (0, 30)) (pcN := 30) jIZ_379_28 rfl rfl rfl ?_
  refine jT_xaload_n (v := (6, 0)) (pcN := 31) jIZ_379_30 rfl rfl rfl ?_
  refine jT_adv 1 (pcN := 32) (LN := [(5, (0, 30)), (7, (0, 0)), (6, (0, 3)), (4, (4, 3)), (3, (4, 2)), (2, (4, 1)), (1, (4, 0)), (0, (6, 0))]) (stN := [(0, 50), (0, 30)]) (hsN := jpZ_221) (c1 := 0) (s1 := 0) (c2 := 88004) (s2 := 2928024) (by exact rfl) ?_ (by omega) (by omega)
  refine jT_xiconst (k := 5) (pcN := 33) jIZ_379_32 rfl ?_
  refine jT_xisub (x := 50) (y := 5) (z := 45) (pcN := 34) jIZ_379_33 rfl (by decide) rfl ?_
  refine jT_xicF (t := 3746) (pcN := 37) jIZ_379_34 rfl (by decide +kernel) rfl rfl ?_
  refine jT_xaload_n (v := (6, 0)) (pcN := 38) jIZ_379_37 rfl rfl rfl ?_
  refine jT_xiload (v := (0, 30)) (pcN := 40) jIZ_379_38 rfl rfl rfl ?_
  refine jT_adv 1 (pcN := 41) (LN := [(5, (0, 30)), (7, (0, 0)), (6, (0, 3)), (4, (4, 3)), (3, (4, 2)), (2, (4, 1)), (1, (4, 0)), (0, (6, 0))]) (stN := [(0, 34)]) (hsN := jpZ_221) (c1 := 0) (s1 := 0) (c2 := 88004) (s2 := 2928024) (by exact rfl) ?_ (by omega) (by omega)
  refine jT_xbipush (k := 63) (pcN := 43) jIZ_379_41 (by decide) rfl ?_
  refine jT_iand (x := 34) (y := 63) (z := 34) (by rfl) (by rfl) (by decide +kernel) ?_
  refine jT_adv 1 (pcN := 2598) (LN := [(5, (0, 30)), (7, (0, 0)), (6, (0, 3)), (4, (4, 3)), (3, (4, 2)), (2, (4, 1)), (1, (4, 0)), (0, (6, 0))]) (stN := []) (hsN := jpZ_221) (c1 := 0) (s1 := 0) (c2 := 88004) (s2 := 2928024) (by exact rfl) ?_ (by omega) (by omega)
  refine jT_xaload_n (v := (4, 0)) (pcN := 2599) jIZ_379_2598 rfl rfl rfl ?_
  refine jT_xaload_n (v := (6, 0)) (pcN := 2600) jIZ_379_2599 rfl rfl rfl ?_
  refine jT_xiload (v := (0, 30)) (pcN := 2602) jIZ_379_2600 rfl rfl rfl ?_
  refine jT_xiconst (k := 1) (pcN := 2603) jIZ_379_2602 rfl ?_
  refine jT_xiadd (x := 30) (y := 1) (z := 31) (pcN := 2604) jIZ_379_2603 rfl (by decide) rfl ?_
  refine jT_adv 1 (pcN := 2605) (LN := [(5, (0, 30)), (7, (0, 0)), (6, (0, 3)), (4, (4, 3)), (3, (4, 2)), (2, (4, 1)), (1, (4, 0)), (0, (6, 0))]) (stN := [(0, 0), (4, 0)]) (hsN := jpZ_221) (c1 := 0) (s1 := 0) (c2 := 88004) (s2 := 2928024) (by exact rfl) ?_ (by omega) (by omega)
  refine jT_xaload_n (v := (6, 0)) (pcN := 2606) jIZ_379_2605 rfl rfl rfl ?_
  refine jT_xiload (v := (0, 30)) (pcN := 2608) jIZ_379_2606 rfl rfl rfl ?_
  refine jT_xiconst (k := 2) (pcN := 2609) jIZ_379_2608 rfl ?_
  refine jT_xiadd (x := 30) (y := 2) (z := 32) (pcN := 2610) jIZ_379_2609 rfl (by decide) rfl ?_
  refine jT_adv 1 (pcN := 2611) (LN := [(5, (0, 30)), (7, (0, 0)), (6, (0, 3)), (4, (4, 3)), (3, (4, 2)), (2, (4, 1)), (1, (4, 0)), (0, (6, 0))]) (stN := [(0, 2147483647), (0, 0), (4, 0)]) (hsN := jpZ_221) (c1 := 0) (s1 := 0) (c2 := 88004) (s2 := 2928024) (by exact rfl) ?_ (by omega) (by omega)
  refine jT_xaload_n (v := (6, 0)) (pcN := 2612) jIZ_379_2611 rfl rfl rfl ?_
  refine jT_xiload (v := (0, 30)) (pcN := 2614) jIZ_379_2612 rfl rfl rfl ?_
  refine jT_xiconst (k := 3) (pcN := 2615) jIZ_379_2614 rfl ?_
  refine jT_xiadd (x := 30) (y := 3) (z := 33) (pcN := 2616) jIZ_379_2615 rfl (by decide) rfl ?_
  refine jT_adv 1 (pcN := 2617) (LN := [(5, (0, 30)), (7, (0, 0)), (6, (0, 3)), (4, (4, 3)), (3, (4, 2)), (2, (4, 1)), (1, (4, 0)), (0, (6, 0))]) (stN := [(0, 2000), (0, 2147483647), (0, 0), (4, 0)]) (hsN := jpZ_221) (c1 := 0) (s1 := 0) (c2 := 88004) (s2 := 2928024) (by exact rfl) ?_ (by omega) (by omega)
  refine jT_xaload_n (v := (4, 2)) (pcN := 2618) jIZ_379_2617 rfl rfl rfl ?_
  refine jT_fB [0, 2, 4, 5, 6, 7, 8, 9, 10, 11, 12, 13, 14, 30, 31, 32, 33, 34, 35, 36, 37, 38, 45, 46, 47, 48, 49] 116 (y := 358) (pcN := 2621) (dC := 6) (bc1 := 1) (bc2 := 6) (c1 := 88003) (c2 := 2928018) (as := [(4, 0), (0, 0), (0, 2147483647), (0, 2000), (4, 2)]) (asC := [(4, 0), (0, 0), (0, 2147483647), (0, 2000), (4, 1)]) (LN := [(5, (0, 30)), (7, (0, 0)), (6, (0, 3)), (4, (4, 3)), (3, (4, 2)), (2, (4, 1)), (1, (4, 0)), (0, (6, 0))]) (stN := []) (hsC := jpZ_158) (hsD := jpZ_149) (v := (0, 3)) (st2 := [(0, 3)]) (hs2 := jpZ_222) (jZ_358_68 (d := 0)) (by rfl) (by rfl) (by decide +kernel) (by rfl) (by rfl) (by omega) (by omega) (by omega) (by omega) rfl (by decide +kernel) ?_
  refine jT_xistore (v := (0, 3)) (LN := [(6, (0, 3)), (5, (0, 30)), (7, (0, 0)), (4, (4, 3)), (3, (4, 2)), (2, (4, 1)), (1, (4, 0)), (0, (6, 0))]) (pcN := 2623) jIZ_379_2621 rfl rfl rfl rfl ?_
  refine jT_xaload_n (v := (4, 1)) (pcN := 2624) jIZ_379_2623 rfl rfl rfl ?_
  refine jT_xaload_n (v := (6, 0)) (pcN := 2625) jIZ_379_2624 rfl rfl rfl ?_
  refine jT_xiload (v := (0, 30)) (pcN := 2627) jIZ_379_2625 rfl rfl rfl ?_
  refine jT_xiconst (k := 1) (pcN := 2628) jIZ_379_2627 rfl ?_
  refine jT_xiadd (x := 30) (y := 1) (z := 31) (pcN := 2629) jIZ_379_2628 rfl (by decide) rfl ?_
  refine jT_adv 1 (pcN := 2630) (LN := [(6, (0, 3)), (5, (0, 30)), (7, (0, 0)), (4, (4, 3)), (3, (4, 2)), (2, (4, 1)), (1, (4, 0)), (0, (6, 0))]) (stN := [(0, 0), (4, 1)]) (hsN := jpZ_222) (c1 := 0) (s1 := 0) (c2 := 88003) (s2 := 2928018) (by exact rfl) ?_ (by omega) (by omega)
  refine jT_xaload_n (v := (6, 0)) (pcN := 2631) jIZ_379_2630 rfl rfl rfl ?_
  refine jT_xiload (v := (0, 30)) (pcN := 2633) jIZ_379_2631 rfl rfl rfl ?_
  refine jT_xiconst (k := 2) (pcN := 2634) jIZ_379_2633 rfl ?_
  refine jT_xiadd (x := 30) (y := 2) (z := 32) (pcN := 2635) jIZ_379_2634 rfl (by decide) rfl ?_
  refine jT_adv 1 (pcN := 2636) (LN := [(6, (0, 3)), (5, (0, 30)), (7, (0, 0)), (4, (4, 3)), (3, (4, 2)), (2, (4, 1)), (1, (4, 0)), (0, (6, 0))]) (stN := [(0, 2147483647), (0, 0), (4, 1)]) (hsN := jpZ_222) (c1 := 0) (s1 := 0) (c2 := 88003) (s2 := 2928018) (by exact rfl) ?_ (by omega) (by omega)
  refine jT_xaload_n (v := (6, 0)) (pcN := 2637) jIZ_379_2636 rfl rfl rfl ?_
  refine jT_xiload (v := (0, 30)) (pcN := 2639) jIZ_379_2637 rfl rfl rfl ?_
  refine jT_xiconst (k := 3) (pcN := 2640) jIZ_379_2639 rfl ?_
  refine jT_xiadd (x := 30) (y := 3) (z := 33) (pcN := 2641) jIZ_379_2640 rfl (by decide) rfl ?_
  refine jT_adv 1 (pcN := 2642) (LN := [(6, (0, 3)), (5, (0, 30)), (7, (0, 0)), (4, (4, 3)), (3, (4, 2)), (2, (4, 1)), (1, (4, 0)), (0, (6, 0))]) (stN := [(0, 2000), (0, 2147483647), (0, 0), (4, 1)]) (hsN := jpZ_222) (c1 := 0) (s1 := 0) (c2 := 88003) (s2 := 2928018) (by exact rfl) ?_ (by omega) (by omega)
  refine jT_fA [1, 15, 16, 17, 18, 19, 20, 21, 22, 23, 24, 25, 26, 27, 28, 29, 39, 40, 41, 42, 43, 44] 116 (y := 287) (pcN := 2645) (dC := 8) (bc1 := 22000) (bc2 := 732000) (c1 := 66003) (c2 := 2196018) (as := [(4, 1), (0, 0), (0, 2147483647), (0, 2000)]) (asC := [(4, 0), (0, 0), (0, 2147483647), (0, 2000)]) (LN := [(6, (0, 3)), (5, (0, 30)), (7, (0, 0)), (4, (4, 3)), (3, (4, 2)), (2, (4, 1)), (1, (4, 0)), (0, (6, 0))]) (stN := []) (hsC := jpZ_150) (ex := jpZ_151) (v := (0, 0)) (st2 := [(0, 0)]) (hs2 := jpZ_223) (jZ_287_62 (d := 0)) (by rfl) (by rfl) (by decide +kernel) (by rfl) (by rfl) (by omega) (by omega) (by omega) (by omega) rfl (by decide +kernel) ?_
  refine jT_xistore (v := (0, 0)) (LN := [(7, (0, 0)), (6, (0, 3)), (5, (0, 30)), (4, (4, 3)), (3, (4, 2)), (2, (4, 1)), (1, (4, 0)), (0, (6, 0))]) (pcN := 2647) jIZ_379_2645 rfl rfl rfl rfl ?_
  refine jT_xaload_n (v := (4, 1)) (pcN := 2648) jIZ_379_2647 rfl rfl rfl ?_
  refine jT_fR [1, 15, 16, 17, 18, 19, 20, 21, 22, 23, 24, 25, 26, 27, 28, 29] 127 (y := 186) (pcN := 2651) (dC := 0) (bc1 := 0) (bc2 := 0) (c1 := 66003) (c2 := 2196018) (as := [(4, 1)]) (asC := [(4, 0)]) (LN := [(7, (0, 0)), (6, (0, 3)), (5, (0, 30)), (4, (4, 3)), (3, (4, 2)), (2, (4, 1)), (1, (4, 0)), (0, (6, 0))]) (stN := []) (hsC := jpZ_99) (v := (0, 3)) (st2 := [(0, 3)]) (jZ_186_52 (d := 0)) (by rfl) (by rfl) (by decide +kernel) (by rfl) (by rfl) (by omega) (by omega) (by omega) (by omega) rfl ?_
  refine jT_xiload (v := (0, 3)) (pcN := 2653) jIZ_379_2651 rfl rfl rfl ?_
  refine jT_xicT (pcN := 2658) jIZ_379_2653 rfl (by decide +kernel) rfl ?_
  refine jT_xiload (v := (0, 3)) (pcN := 2660) jIZ_379_2658 rfl rfl rfl ?_
  refine jT_xifT (pcN := 2675) jIZ_379_2660 rfl (by decide +kernel) rfl ?_
  refine jT_xgoto (pcN := 3740) jIZ_379_2675 rfl ?_
  refine jT_xiinc (x := 30) (z := 35) (LN := [(5, (0, 35)), (7, (0, 0)), (6, (0, 3)), (4, (4, 3)), (3, (4, 2)), (2, (4, 1)), (1, (4, 0)), (0, (6, 0))]) (pcN := 3743) jIZ_379_3740 rfl rfl (by decide) rfl rfl ?_
  refine jT_xgoto (pcN := 28) jIZ_379_3743 rfl ?_
  refine jT_xiload (v := (0, 35)) (pcN := 30) jIZ_379_28 rfl rfl rfl ?_
  refine jT_xaload_n (v := (6, 0)) (pcN := 31) jIZ_379_30 rfl rfl rfl ?_
  refine jT_adv 1 (pcN := 32) (LN := [(5, (0, 35)), (7, (0, 0)), (6, (0, 3)), (4, (4, 3)), (3, (4, 2)), (2, (4, 1)), (1, (4, 0)), (0, (6, 0))]) (stN := [(0, 50), (0, 35)]) (hsN := jpZ_223) (c1 := 0) (s1 := 0) (c2 := 66003) (s2 := 2196018) (by exact rfl) ?_ (by omega) (by omega)
  refine jT_xiconst (k := 5) (pcN := 33) jIZ_379_32 rfl ?_
  refine jT_xisub (x := 50) (y := 5) (z := 45) (pcN := 34) jIZ_379_33 rfl (by decide) rfl ?_
  refine jT_xicF (t := 3746) (pcN := 37) jIZ_379_34 rfl (by decide +kernel) rfl rfl ?_
  refine jT_xaload_n (v := (6, 0)) (pcN := 38) jIZ_379_37 rfl rfl rfl ?_
  refine jT_xiload (v := (0, 35)) (pcN := 40) jIZ_379_38 rfl rfl rfl ?_
  refine jT_adv 1 (pcN := 41) (LN := [(5, (0, 35)), (7, (0, 0)), (6, (0, 3)), (4, (4, 3)), (3, (4, 2)), (2, (4, 1)), (1, (4, 0)), (0, (6, 0))]) (stN := [(0, 34)]) (hsN := jpZ_223) (c1 := 0) (s1 := 0) (c2 := 66003) (s2 := 2196018) (by exact rfl) ?_ (by omega) (by omega)
  refine jT_xbipush (k := 63) (pcN := 43) jIZ_379_41 (by decide) rfl ?_
  refine jT_iand (x := 34) (y := 63) (z := 34) (by rfl) (by rfl) (by decide +kernel) ?_
  refine jT_adv 1 (pcN := 2598) (LN := [(5, (0, 35)), (7, (0, 0)), (6, (0, 3)), (4, (4, 3)), (3, (4, 2)), (2, (4, 1)), (1, (4, 0)), (0, (6, 0))]) (stN := []) (hsN := jpZ_223) (c1 := 0) (s1 := 0) (c2 := 66003) (s2 := 2196018) (by exact rfl) ?_ (by omega) (by omega)
  refine jT_xaload_n (v := (4, 0)) (pcN := 2599) jIZ_379_2598 rfl rfl rfl ?_
  refine jT_xaload_n (v := (6, 0)) (pcN := 2600) jIZ_379_2599 rfl rfl rfl ?_
  refine jT_xiload (v := (0, 35)) (pcN := 2602) jIZ_379_2600 rfl rfl rfl ?_
  refine jT_xiconst (k := 1) (pcN := 2603) jIZ_379_2602 rfl ?_
  refine jT_xiadd (x := 35) (y := 1) (z := 36) (pcN := 2604) jIZ_379_2603 rfl (by decide) rfl ?_
  refine jT_adv 1 (pcN := 2605) (LN := [(5, (0, 35)), (7, (0, 0)), (6, (0, 3)), (4, (4, 3)), (3, (4, 2)), (2, (4, 1)), (1, (4, 0)), (0, (6, 0))]) (stN := [(0, 0), (4, 0)]) (hsN := jpZ_223) (c1 := 0) (s1 := 0) (c2 := 66003) (s2 := 2196018) (by exact rfl) ?_ (by omega) (by omega)
  refine jT_xaload_n (v := (6, 0)) (pcN := 2606) jIZ_379_2605 rfl rfl rfl ?_
  refine jT_xiload (v := (0, 35)) (pcN := 2608) jIZ_379_2606 rfl rfl rfl ?_
  refine jT_xiconst (k := 2) (pcN := 2609) jIZ_379_2608 rfl ?_
  refine jT_xiadd (x := 35) (y := 2) (z := 37) (pcN := 2610) jIZ_379_2609 rfl (by decide) rfl ?_
  refine jT_adv 1 (pcN := 2611) (LN := [(5, (0, 35)), (7, (0, 0)), (6, (0, 3)), (4, (4, 3)), (3, (4, 2)), (2, (4, 1)), (1, (4, 0)), (0, (6, 0))]) (stN := [(0, 2147483647), (0, 0), (4, 0)]) (hsN := jpZ_223) (c1 := 0) (s1 := 0) (c2 := 66003) (s2 := 2196018) (by exact rfl) ?_ (by omega) (by omega)
  refine jT_xaload_n (v := (6, 0)) (pcN := 2612) jIZ_379_2611 rfl rfl rfl ?_
  refine jT_xiload (v := (0, 35)) (pcN := 2614) jIZ_379_2612 rfl rfl rfl ?_
  refine jT_xiconst (k := 3) (pcN := 2615) jIZ_379_2614 rfl ?_
  refine jT_xiadd (x := 35) (y := 3) (z := 38) (pcN := 2616) jIZ_379_2615 rfl (by decide) rfl ?_
  refine jT_adv 1 (pcN := 2617) (LN := [(5, (0, 35)), (7, (0, 0)), (6, (0, 3)), (4, (4, 3)), (3, (4, 2)), (2, (4, 1)), (1, (4, 0)), (0, (6, 0))]) (stN := [(0, 2000), (0, 2147483647), (0, 0), (4, 0)]) (hsN := jpZ_223) (c1 := 0) (s1 := 0) (c2 := 66003) (s2 := 2196018) (by exact rfl) ?_ (by omega) (by omega)
  refine jT_xaload_n (v := (4, 2)) (pcN := 2618) jIZ_379_2617 rfl rfl rfl ?_
  refine jT_fB [0, 2, 4, 5, 6, 7, 8, 9, 10, 11, 12, 13, 14, 30, 31, 33, 32, 34, 35, 36, 37, 38, 45, 47, 46, 48, 49] 127 (y := 358) (pcN := 2621) (dC := 6) (bc1 := 1) (bc2 := 6) (c1 := 66002) (c2 := 2196012) (as := [(4, 0), (0, 0), (0, 2147483647), (0, 2000), (4, 2)]) (asC := [(4, 0), (0, 0), (0, 2147483647), (0, 2000), (4, 1)]) (LN := [(5, (0, 35)), (7, (0, 0)), (6, (0, 3)), (4, (4, 3)), (3, (4, 2)), (2, (4, 1)), (1, (4, 0)), (0, (6, 0))]) (stN := []) (hsC := jpZ_158) (hsD := jpZ_149) (v := (0, 3)) (st2 := [(0, 3)]) (hs2 := jpZ_224) (jZ_358_68 (d := 0)) (by rfl) (by rfl) (by decide +kernel) (by rfl) (by rfl) (by omega) (by omega) (by omega) (by omega) rfl (by decide +kernel) ?_
  refine jT_xistore (v := (0, 3)) (LN := [(6, (0, 3)), (5, (0, 35)), (7, (0, 0)), (4, (4, 3)), (3, (4, 2)), (2, (4, 1)), (1, (4, 0)), (0, (6, 0))]) (pcN := 2623) jIZ_379_2621 rfl rfl rfl rfl ?_
  refine jT_xaload_n (v := (4, 1)) (pcN := 2624) jIZ_379_2623 rfl rfl rfl ?_
  refine jT_xaload_n (v := (6, 0)) (pcN := 2625) jIZ_379_2624 rfl rfl rfl ?_
  refine jT_xiload (v := (0, 35)) (pcN := 2627) jIZ_379_2625 rfl rfl rfl ?_
  refine jT_xiconst (k := 1) (pcN := 2628) jIZ_379_2627 rfl ?_
  refine jT_xiadd (x := 35) (y := 1) (z := 36) (pcN := 2629) jIZ_379_2628 rfl (by decide) rfl ?_
  refine jT_adv 1 (pcN := 2630) (LN := [(6, (0, 3)), (5, (0, 35)), (7, (0, 0)), (4, (4, 3)), (3, (4, 2)), (2, (4, 1)), (1, (4, 0)), (0, (6, 0))]) (stN := [(0, 0), (4, 1)]) (hsN := jpZ_224) (c1 := 0) (s1 := 0) (c2 := 66002) (s2 := 2196012) (by exact rfl) ?_ (by omega) (by omega)
  refine jT_xaload_n (v := (6, 0)) (pcN := 2631) jIZ_379_2630 rfl rfl rfl ?_
  refine jT_xiload (v := (0, 35)) (pcN := 2633) jIZ_379_2631 rfl rfl rfl ?_
  refine jT_xiconst (k := 2) (pcN := 2634) jIZ_379_2633 rfl ?_
  refine jT_xiadd (x := 35) (y := 2) (z := 37) (pcN := 2635) jIZ_379_2634 rfl (by decide) rfl ?_
  refine jT_adv 1 (pcN := 2636) (LN := [(6, (0, 3)), (5, (0, 35)), (7, (0, 0)), (4, (4, 3)), (3, (4, 2)), (2, (4, 1)), (1, (4, 0)), (0, (6, 0))]) (stN := [(0, 2147483647), (0, 0), (4, 1)]) (hsN := jpZ_224) (c1 := 0) (s1 := 0) (c2 := 66002) (s2 := 2196012) (by exact rfl) ?_ (by omega) (by omega)
  refine jT_xaload_n (v := (6, 0)) (pcN := 2637) jIZ_379_2636 rfl rfl rfl ?_
  refine jT_xiload (v := (0, 35)) (pcN := 2639) jIZ_379_2637 rfl rfl rfl ?_
  refine jT_xiconst (k := 3) (pcN := 2640) jIZ_379_2639 rfl ?_
  refine jT_xiadd (x := 35) (y := 3) (z := 38) (pcN := 2641) jIZ_379_2640 rfl (by decide) rfl ?_
  refine jT_adv 1 (pcN := 2642) (LN := [(6, (0, 3)), (5, (0, 35)), (7, (0, 0)), (4, (4, 3)), (3, (4, 2)), (2, (4, 1)), (1, (4, 0)), (0, (6, 0))]) (stN := [(0, 2000), (0, 2147483647), (0, 0), (4, 1)]) (hsN := jpZ_224) (c1 := 0) (s1 := 0) (c2 := 66002) (s2 := 2196012) (by exact rfl) ?_ (by omega) (by omega)
  refine jT_fA [1, 15, 16, 17, 18, 19, 20, 21, 22, 23, 24, 25, 26, 27, 28, 29, 39, 40, 41, 42, 43, 44] 127 (y := 287) (pcN := 2645) (dC := 8) (bc1 := 22000) (bc2 := 732000) (c1 := 44002) (c2 := 1464012) (as := [(4, 1), (0, 0), (0, 2147483647), (0, 2000)]) (asC := [(4, 0), (0, 0), (0, 2147483647), (0, 2000)]) (LN := [(6, (0, 3)), (5, (0, 35)), (7, (0, 0)), (4, (4, 3)), (3, (4, 2)), (2, (4, 1)), (1, (4, 0)), (0, (6, 0))]) (stN := []) (hsC := jpZ_150) (ex := jpZ_151) (v := (0, 0)) (st2 := [(0, 0)]) (hs2 := jpZ_225) (jZ_287_62 (d := 0)) (by rfl) (by rfl) (by decide +kernel) (by rfl) (by rfl) (by omega) (by omega) (by omega) (by omega) rfl (by decide +kernel) ?_
  refine jT_xistore (v := (0, 0)) (LN := [(7, (0, 0)), (6, (0, 3)), (5, (0, 35)), (4, (4, 3)), (3, (4, 2)), (2, (4, 1)), (1, (4, 0)), (0, (6, 0))]) (pcN := 2647) jIZ_379_2645 rfl rfl rfl rfl ?_
  refine jT_xaload_n (v := (4, 1)) (pcN := 2648) jIZ_379_2647 rfl rfl rfl ?_
  refine jT_fR [1, 15, 16, 17, 18, 19, 20, 21, 22, 23, 24, 25, 26, 27, 28, 29] 138 (y := 186) (pcN := 2651) (dC := 0) (bc1 := 0) (bc2 := 0) (c1 := 44002) (c2 := 1464012) (as := [(4, 1)]) (asC := [(4, 0)]) (LN := [(7, (0, 0)), (6, (0, 3)), (5, (0, 35)), (4, (4, 3)), (3, (4, 2)), (2, (4, 1)), (1, (4, 0)), (0, (6, 0))]) (stN := []) (hsC := jpZ_99) (v := (0, 3)) (st2 := [(0, 3)]) (jZ_186_52 (d := 0)) (by rfl) (by rfl) (by decide +kernel) (by rfl) (by rfl) (by omega) (by omega) (by omega) (by omega) rfl ?_
  refine jT_xiload (v := (0, 3)) (pcN := 2653) jIZ_379_2651 rfl rfl rfl ?_
  refine jT_xicT (pcN := 2658) jIZ_379_2653 rfl (by decide +kernel) rfl ?_
  refine jT_xiload (v := (0, 3)) (pcN := 2660) jIZ_379_2658 rfl rfl rfl ?_
  refine jT_xifT (pcN := 2675) jIZ_379_2660 rfl (by decide +kernel) rfl ?_
  refine jT_xgoto (pcN := 3740) jIZ_379_2675 rfl ?_
  refine jT_xiinc (x := 35) (z := 40) (LN := [(5, (0, 40)), (7, (0, 0)), (6, (0, 3)), (4, (4, 3)), (3, (4, 2)), (2, (4, 1)), (1, (4, 0)), (0, (6, 0))]) (pcN := 3743) jIZ_379_3740 rfl rfl (by decide) rfl rfl ?_
  refine jT_xgoto (pcN := 28) jIZ_379_3743 rfl ?_
  refine jT_xiload (v := (0, 40)) (pcN := 30) jIZ_379_28 rfl rfl rfl ?_
  refine jT_xaload_n (v := (6, 0)) (pcN := 31) jIZ_379_30 rfl rfl rfl ?_
  refine jT_adv 1 (pcN := 32) (LN := [(5, (0, 40)), (7, (0, 0)), (6, (0, 3)), (4, (4, 3)), (3, (4, 2)), (2, (4, 1)), (1, (4, 0)), (0, (6, 0))]) (stN := [(0, 50), (0, 40)]) (hsN := jpZ_225) (c1 := 0) (s1 := 0) (c2 := 44002) (s2 := 1464012) (by exact rfl) ?_ (by omega) (by omega)
  refine jT_xiconst (k := 5) (pcN := 33) jIZ_379_32 rfl ?_
  refine jT_xisub (x := 50) (y := 5) (z := 45) (pcN := 34) jIZ_379_33 rfl (by decide) rfl ?_
  refine jT_xicF (t := 3746) (pcN := 37) jIZ_379_34 rfl (by decide +kernel) rfl rfl ?_
  refine jT_xaload_n (v := (6, 0)) (pcN := 38) jIZ_379_37 rfl rfl rfl ?_
  refine jT_xiload (v := (0, 40)) (pcN := 40) jIZ_379_38 rfl rfl rfl ?_
  refine jT_adv 1 (pcN := 41) (LN := [(5, (0, 40)), (7, (0, 0)), (6, (0, 3)), (4, (4, 3)), (3, (4, 2)), (2, (4, 1)), (1, (4, 0)), (0, (6, 0))]) (stN := [(0, 34)]) (hsN := jpZ_225) (c1 := 0) (s1 := 0) (c2 := 44002) (s2 := 1464012) (by exact rfl) ?_ (by omega) (by omega)
  refine jT_xbipush (k := 63) (pcN := 43) jIZ_379_41 (by decide) rfl ?_
  refine jT_iand (x := 34) (y := 63) (z := 34) (by rfl) (by rfl) (by decide +kernel) ?_
  refine jT_adv 1 (pcN := 2598) (LN := [(5, (0, 40)), (7, (0, 0)), (6, (0, 3)), (4, (4, 3)), (3, (4, 2)), (2, (4, 1)), (1, (4, 0)), (0, (6, 0))]) (stN := []) (hsN := jpZ_225) (c1 := 0) (s1 := 0) (c2 := 44002) (s2 := 1464012) (by exact rfl) ?_ (by omega) (by omega)
  refine jT_xaload_n (v := (4, 0)) (pcN := 2599) jIZ_379_2598 rfl rfl rfl ?_
  refine jT_xaload_n (v := (6, 0)) (pcN := 2600) jIZ_379_2599 rfl rfl rfl ?_
  refine jT_xiload (v := (0, 40)) (pcN := 2602) jIZ_379_2600 rfl rfl rfl ?_
  refine jT_xiconst (k := 1) (pcN := 2603) jIZ_379_2602 rfl ?_
  refine jT_xiadd (x := 40) (y := 1) (z := 41) (pcN := 2604) jIZ_379_2603 rfl (by decide) rfl ?_
  refine jT_adv 1 (pcN := 2605) (LN := [(5, (0, 40)), (7, (0, 0)), (6, (0, 3)), (4, (4, 3)), (3, (4, 2)), (2, (4, 1)), (1, (4, 0)), (0, (6, 0))]) (stN := [(0, 0), (4, 0)]) (hsN := jpZ_225) (c1 := 0) (s1 := 0) (c2 := 44002) (s2 := 1464012) (by exact rfl) ?_ (by omega) (by omega)
  refine jT_xaload_n (v := (6, 0)) (pcN := 2606) jIZ_379_2605 rfl rfl rfl ?_
  refine jT_xiload (v := (0, 40)) (pcN := 2608) jIZ_379_2606 rfl rfl rfl ?_
  refine jT_xiconst (k := 2) (pcN := 2609) jIZ_379_2608 rfl ?_
  refine jT_xiadd (x := 40) (y := 2) (z := 42) (pcN := 2610) jIZ_379_2609 rfl (by decide) rfl ?_
  refine jT_adv 1 (pcN := 2611) (LN := [(5, (0, 40)), (7, (0, 0)), (6, (0, 3)), (4, (4, 3)), (3, (4, 2)), (2, (4, 1)), (1, (4, 0)), (0, (6, 0))]) (stN := [(0, 2147483647), (0, 0), (4, 0)]) (hsN := jpZ_225) (c1 := 0) (s1 := 0) (c2 := 44002) (s2 := 1464012) (by exact rfl) ?_ (by omega) (by omega)
  refine jT_xaload_n (v := (6, 0)) (pcN := 2612) jIZ_379_2611 rfl rfl rfl ?_
  refine jT_xiload (v := (0, 40)) (pcN := 2614) jIZ_379_2612 rfl rfl rfl ?_
  refine jT_xiconst (k := 3) (pcN := 2615) jIZ_379_2614 rfl ?_
  refine jT_xiadd (x := 40) (y := 3) (z := 43) (pcN := 2616) jIZ_379_2615 rfl (by decide) rfl ?_
  refine jT_adv 1 (pcN := 2617) (LN := [(5, (0, 40)), (7, (0, 0)), (6, (0, 3)), (4, (4, 3)), (3, (4, 2)), (2, (4, 1)), (1, (4, 0)), (0, (6, 0))]) (stN := [(0, 2000), (0, 2147483647), (0, 0), (4, 0)]) (hsN := jpZ_225) (c1 := 0) (s1 := 0) (c2 := 44002) (s2 := 1464012) (by exact rfl) ?_ (by omega) (by omega)
  refine jT_xaload_n (v := (4, 2)) (pcN := 2618) jIZ_379_2617 rfl rfl rfl ?_
  refine jT_fB [0, 2, 4, 5, 6, 7, 8, 9, 10, 11, 12, 13, 14, 30, 31, 32, 33, 34, 35, 36, 37, 38, 45, 46, 47, 48, 49] 138 (y := 358) (pcN := 2621) (dC := 6) (bc1 := 1) (bc2 := 6) (c1 := 44001) (c2 := 1464006) (as := [(4, 0), (0, 0), (0, 2147483647), (0, 2000), (4, 2)]) (asC := [(4, 0), (0, 0), (0, 2147483647), (0, 2000), (4, 1)]) (LN := [(5, (0, 40)), (7, (0, 0)), (6, (0, 3)), (4, (4, 3)), (3, (4, 2)), (2, (4, 1)), (1, (4, 0)), (0, (6, 0))]) (stN := []) (hsC := jpZ_158) (hsD := jpZ_149) (v := (0, 3)) (st2 := [(0, 3)]) (hs2 := jpZ_226) (jZ_358_68 (d := 0)) (by rfl) (by rfl) (by decide +kernel) (by rfl) (by rfl) (by omega) (by omega) (by omega) (by omega) rfl (by decide +kernel) ?_
  refine jT_xistore (v := (0, 3)) (LN := [(6, (0, 3)), (5, (0, 40)), (7, (0, 0)), (4, (4, 3)), (3, (4, 2)), (2, (4, 1)), (1, (4, 0)), (0, (6, 0))]) (pcN := 2623) jIZ_379_2621 rfl rfl rfl rfl ?_
  refine jT_xaload_n (v := (4, 1)) (pcN := 2624) jIZ_379_2623 rfl rfl rfl ?_
  refine jT_xaload_n (v := (6, 0)) (pcN := 2625) jIZ_379_2624 rfl rfl rfl ?_
  refine jT_xiload (v := (0, 40)) (pcN := 2627) jIZ_379_2625 rfl rfl rfl ?_
  refine jT_xiconst (k := 1) (pcN := 2628) jIZ_379_2627 rfl ?_
  refine jT_xiadd (x := 40) (y := 1) (z := 41) (pcN := 2629) jIZ_379_2628 rfl (by decide) rfl ?_
  refine jT_adv 1 (pcN := 2630) (LN := [(6, (0, 3)), (5, (0, 40)), (7, (0, 0)), (4, (4, 3)), (3, (4, 2)), (2, (4, 1)), (1, (4, 0)), (0, (6, 0))]) (stN := [(0, 0), (4, 1)]) (hsN := jpZ_226) (c1 := 0) (s1 := 0) (c2 := 44001) (s2 := 1464006) (by exact rfl) ?_ (by omega) (by omega)
  refine jT_xaload_n (v := (6, 0)) (pcN := 2631) jIZ_379_2630 rfl rfl rfl ?_
  refine jT_xiload (v := (0, 40)) (pcN := 2633) jIZ_379_2631 rfl rfl rfl ?_
  refine jT_xiconst (k := 2) (pcN := 2634) jIZ_379_2633 rfl ?_
  refine jT_xiadd (x := 40) (y := 2) (z := 42) (pcN := 2635) jIZ_379_2634 rfl (by decide) rfl ?_
  refine jT_adv 1 (pcN := 2636) (LN := [(6, (0, 3)), (5, (0, 40)), (7, (0, 0)), (4, (4, 3)), (3, (4, 2)), (2, (4, 1)), (1, (4, 0)), (0, (6, 0))]) (stN := [(0, 2147483647), (0, 0), (4, 1)]) (hsN := jpZ_226) (c1 := 0) (s1 := 0) (c2 := 44001) (s2 := 1464006) (by exact rfl) ?_ (by omega) (by omega)
  refine jT_xaload_n (v := (6, 0)) (pcN := 2637) jIZ_379_2636 rfl rfl rfl ?_
  refine jT_xiload (v := (0, 40)) (pcN := 2639) jIZ_379_2637 rfl rfl rfl ?_
  refine jT_xiconst (k := 3) (pcN := 2640) jIZ_379_2639 rfl ?_
  refine jT_xiadd (x := 40) (y := 3) (z := 43) (pcN := 2641) jIZ_379_2640 rfl (by decide) rfl ?_
  refine jT_adv 1 (pcN := 2642) (LN := [(6, (0, 3)), (5, (0, 40)), (7, (0, 0)), (4, (4, 3)), (3, (4, 2)), (2, (4, 1)), (1, (4, 0)), (0, (6, 0))]) (stN := [(0, 2000), (0, 2147483647), (0, 0), (4, 1)]) (hsN := jpZ_226) (c1 := 0) (s1 := 0) (c2 := 44001) (s2 := 1464006) (by exact rfl) ?_ (by omega) (by omega)
  refine jT_fA [1, 15, 16, 17, 18, 19, 20, 21, 22, 23, 24, 25, 26, 27, 28, 29, 39, 40, 41, 42, 43, 44] 138 (y := 287) (pcN := 2645) (dC := 8) (bc1 := 22000) (bc2 := 732000) (c1 := 22001) (c2 := 732006) (as := [(4, 1), (0, 0), (0, 2147483647), (0, 2000)]) (asC := [(4, 0), (0, 0), (0, 2147483647), (0, 2000)]) (LN := [(6, (0, 3)), (5, (0, 40)), (7, (0, 0)), (4, (4, 3)), (3, (4, 2)), (2, (4, 1)), (1, (4, 0)), (0, (6, 0))]) (stN := []) (hsC := jpZ_150) (ex := jpZ_151) (v := (0, 0)) (st2 := [(0, 0)]) (hs2 := jpZ_227) (jZ_287_62 (d := 0)) (by rfl) (by rfl) (by decide +kernel) (by rfl) (by rfl) (by omega) (by omega) (by omega) (by omega) rfl (by decide +kernel) ?_
  refine jT_xistore (v := (0, 0)) (LN := [(7, (0, 0)), (6, (0, 3)), (5, (0, 40)), (4, (4, 3)), (3, (4, 2)), (2, (4, 1)), (1, (4, 0)), (0, (6, 0))]) (pcN := 2647) jIZ_379_2645 rfl rfl rfl rfl ?_
  refine jT_xaload_n (v := (4, 1)) (pcN := 2648) jIZ_379_2647 rfl rfl rfl ?_
  refine jT_fR [1, 15, 16, 17, 18, 19, 20, 21, 22, 23, 24, 25, 26, 27, 28, 29] 149 (y := 186) (pcN := 2651) (dC := 0) (bc1 := 0) (bc2 := 0) (c1 := 22001) (c2 := 732006) (as := [(4, 1)]) (asC := [(4, 0)]) (LN := [(7, (0, 0)), (6, (0, 3)), (5, (0, 40)), (4, (4, 3)), (3, (4, 2)), (2, (4, 1)), (1, (4, 0)), (0, (6, 0))]) (stN := []) (hsC := jpZ_99) (v := (0, 3)) (st2 := [(0, 3)]) (jZ_186_52 (d := 0)) (by rfl) (by rfl) (by decide +kernel) (by rfl) (by rfl) (by omega) (by omega) (by omega) (by omega) rfl ?_
  refine jT_xiload (v := (0, 3)) (pcN := 2653) jIZ_379_2651 rfl rfl rfl ?_
  refine jT_xicT (pcN := 2658) jIZ_379_2653 rfl (by decide +kernel) rfl ?_
  refine jT_xiload (v := (0, 3)) (pcN := 2660) jIZ_379_2658 rfl rfl rfl ?_
  refine jT_xifT (pcN := 2675) jIZ_379_2660 rfl (by decide +kernel) rfl ?_
  refine jT_xgoto (pcN := 3740) jIZ_379_2675 rfl ?_
  refine jT_xiinc (x := 40) (z := 45) (LN := [(5, (0, 45)), (7, (0, 0)), (6, (0, 3)), (4, (4, 3)), (3, (4, 2)), (2, (4, 1)), (1, (4, 0)), (0, (6, 0))]) (pcN := 3743) jIZ_379_3740 rfl rfl (by decide) rfl rfl ?_
  refine jT_xgoto (pcN := 28) jIZ_379_3743 rfl ?_
  refine jT_xiload (v := (0, 45)) (pcN := 30) jIZ_379_28 rfl rfl rfl ?_
  refine jT_xaload_n (v := (6, 0)) (pcN := 31) jIZ_379_30 rfl rfl rfl ?_
  refine jT_adv 1 (pcN := 32) (LN := [(5, (0, 45)), (7, (0, 0)), (6, (0, 3)), (4, (4, 3)), (3, (4, 2)), (2, (4, 1)), (1, (4, 0)), (0, (6, 0))]) (stN := [(0, 50), (0, 45)]) (hsN := jpZ_227) (c1 := 0) (s1 := 0) (c2 := 22001) (s2 := 732006) (by exact rfl) ?_ (by omega) (by omega)
  refine jT_xiconst (k := 5) (pcN := 33) jIZ_379_32 rfl ?_
  refine jT_xisub (x := 50) (y := 5) (z := 45) (pcN := 34) jIZ_379_33 rfl (by decide) rfl ?_
  refine jT_xicF (t := 3746) (pcN := 37) jIZ_379_34 rfl (by decide +kernel) rfl rfl ?_
  refine jT_xaload_n (v := (6, 0)) (pcN := 38) jIZ_379_37 rfl rfl rfl ?_
  refine jT_xiload (v := (0, 45)) (pcN := 40) jIZ_379_38 rfl rfl rfl ?_
  refine jT_adv 1 (pcN := 41) (LN := [(5, (0, 45)), (7, (0, 0)), (6, (0, 3)), (4, (4, 3)), (3, (4, 2)), (2, (4, 1)), (1, (4, 0)), (0, (6, 0))]) (stN := [(0, 34)]) (hsN := jpZ_227) (c1 := 0) (s1 := 0) (c2 := 22001) (s2 := 732006) (by exact rfl) ?_ (by omega) (by omega)
  refine jT_xbipush (k := 63) (pcN := 43) jIZ_379_41 (by decide) rfl ?_
  refine jT_iand (x := 34) (y := 63) (z := 34) (by rfl) (by rfl) (by decide +kernel) ?_
  refine jT_adv 1 (pcN := 2598) (LN := [(5, (0, 45)), (7, (0, 0)), (6, (0, 3)), (4, (4, 3)), (3, (4, 2)), (2, (4, 1)), (1, (4, 0)), (0, (6, 0))]) (stN := []) (hsN := jpZ_227) (c1 := 0) (s1 := 0) (c2 := 22001) (s2 := 732006) (by exact rfl) ?_ (by omega) (by omega)
  refine jT_xaload_n (v := (4, 0)) (pcN := 2599) jIZ_379_2598 rfl rfl rfl ?_
  refine jT_xaload_n (v := (6, 0)) (pcN := 2600) jIZ_379_2599 rfl rfl rfl ?_
  refine jT_xiload (v := (0, 45)) (pcN := 2602) jIZ_379_2600 rfl rfl rfl ?_
  refine jT_xiconst (k := 1) (pcN := 2603) jIZ_379_2602 rfl ?_
  refine jT_xiadd (x := 45) (y := 1) (z := 46) (pcN := 2604) jIZ_379_2603 rfl (by decide) rfl ?_
  refine jT_adv 1 (pcN := 2605) (LN := [(5, (0, 45)), (7, (0, 0)), (6, (0, 3)), (4, (4, 3)), (3, (4, 2)), (2, (4, 1)), (1, (4, 0)), (0, (6, 0))]) (stN := [(0, 0), (4, 0)]) (hsN := jpZ_227) (c1 := 0) (s1 := 0) (c2 := 22001) (s2 := 732006) (by exact rfl) ?_ (by omega) (by omega)
  refine jT_xaload_n (v := (6, 0)) (pcN := 2606) jIZ_379_2605 rfl rfl rfl ?_
  refine jT_xiload (v := (0, 45)) (pcN := 2608) jIZ_379_2606 rfl rfl rfl ?_
  refine jT_xiconst (k := 2) (pcN := 2609) jIZ_379_2608 rfl ?_
  refine jT_xiadd (x := 45) (y := 2) (z := 47) (pcN := 2610) jIZ_379_2609 rfl (by decide) rfl ?_
  refine jT_adv 1 (pcN := 2611) (LN := [(5, (0, 45)), (7, (0, 0)), (6, (0, 3)), (4, (4, 3)), (3, (4, 2)), (2, (4, 1)), (1, (4, 0)), (0, (6, 0))]) (stN := [(0, 2147483647), (0, 0), (4, 0)]) (hsN := jpZ_227) (c1 := 0) (s1 := 0) (c2 := 22001) (s2 := 732006) (by exact rfl) ?_ (by omega) (by omega)
  refine jT_xaload_n (v := (6, 0)) (pcN := 2612) jIZ_379_2611 rfl rfl rfl ?_
  refine jT_xiload (v := (0, 45)) (pcN := 2614) jIZ_379_2612 rfl rfl rfl ?_
  refine jT_xiconst (k := 3) (pcN := 2615) jIZ_379_2614 rfl ?_
  refine jT_xiadd (x := 45) (y := 3) (z := 48) (pcN := 2616) jIZ_379_2615 rfl (by decide) rfl ?_
  refine jT_adv 1 (pcN := 2617) (LN := [(5, (0, 45)), (7, (0, 0)), (6, (0, 3)), (4, (4, 3)), (3, (4, 2)), (2, (4, 1)), (1, (4, 0)), (0, (6, 0))]) (stN := [(0, 2000), (0, 2147483647), (0, 0), (4, 0)]) (hsN := jpZ_227) (c1 := 0) (s1 := 0) (c2 := 22001) (s2 := 732006) (by exact rfl) ?_ (by omega) (by omega)
  refine jT_xaload_n (v := (4, 2)) (pcN := 2618) jIZ_379_2617 rfl rfl rfl ?_
  refine jT_fB [0, 2, 4, 5, 6, 7, 8, 9, 10, 11, 12, 13, 14, 30, 31, 33, 32, 34, 35, 36, 37, 38, 45, 47, 46, 48, 49] 149 (y := 358) (pcN := 2621) (dC := 6) (bc1 := 1) (bc2 := 6) (c1 := 22000) (c2 := 732000) (as := [(4, 0), (0, 0), (0, 2147483647), (0, 2000), (4, 2)]) (asC := [(4, 0), (0, 0), (0, 2147483647), (0, 2000), (4, 1)]) (LN := [(5, (0, 45)), (7, (0, 0)), (6, (0, 3)), (4, (4, 3)), (3, (4, 2)), (2, (4, 1)), (1, (4, 0)), (0, (6, 0))]) (stN := []) (hsC := jpZ_158) (hsD := jpZ_149) (v := (0, 3)) (st2 := [(0, 3)]) (hs2 := jpZ_228) (jZ_358_68 (d := 0)) (by rfl) (by rfl) (by decide +kernel) (by rfl) (by rfl) (by omega) (by omega) (by omega) (by omega) rfl (by decide +kernel) ?_
  refine jT_xistore (v := (0, 3)) (LN := [(6, (0, 3)), (5, (0, 45)), (7, (0, 0)), (4, (4, 3)), (3, (4, 2)), (2, (4, 1)), (1, (4, 0)), (0, (6, 0))]) (pcN := 2623) jIZ_379_2621 rfl rfl rfl rfl ?_
  refine jT_xaload_n (v := (4, 1)) (pcN := 2624) jIZ_379_2623 rfl rfl rfl ?_
  refine jT_xaload_n (v := (6, 0)) (pcN := 2625) jIZ_379_2624 rfl rfl rfl ?_
  refine jT_xiload (v := (0, 45)) (pcN := 2627) jIZ_379_2625 rfl rfl rfl ?_
  refine jT_xiconst (k := 1) (pcN := 2628) jIZ_379_2627 rfl ?_
  refine jT_xiadd (x := 45) (y := 1) (z := 46) (pcN := 2629) jIZ_379_2628 rfl (by decide) rfl ?_
  refine jT_adv 1 (pcN := 2630) (LN := [(6, (0, 3)), (5, (0, 45)), (7, (0, 0)), (4, (4, 3)), (3, (4, 2)), (2, (4, 1)), (1, (4, 0)), (0, (6, 0))]) (stN := [(0, 0), (4, 1)]) (hsN := jpZ_228) (c1 := 0) (s1 := 0) (c2 := 22000) (s2 := 732000) (by exact rfl) ?_ (by omega) (by omega)
  refine jT_xaload_n (v := (6, 0)) (pcN := 2631) jIZ_379_2630 rfl rfl rfl ?_
  refine jT_xiload (v := (0, 45)) (pcN := 2633) jIZ_379_2631 rfl rfl rfl ?_
  refine jT_xiconst (k := 2) (pcN := 2634) jIZ_379_2633 rfl ?_
  refine jT_xiadd (x := 45) (y := 2) (z := 47) (pcN := 2635) jIZ_379_2634 rfl (by decide) rfl ?_
  refine jT_adv 1 (pcN := 2636) (LN := [(6, (0, 3)), (5, (0, 45)), (7, (0, 0)), (4, (4, 3)), (3, (4, 2)), (2, (4, 1)), (1, (4, 0)), (0, (6, 0))]) (stN := [(0, 2147483647), (0, 0), (4, 1)]) (hsN := jpZ_228) (c1 := 0) (s1 := 0) (c2 := 22000) (s2 := 732000) (by exact rfl) ?_ (by omega) (by omega)
  refine jT_xaload_n (v := (6, 0)) (pcN := 2637) jIZ_379_2636 rfl rfl rfl ?_
  refine jT_xiload (v := (0, 45)) (pcN := 2639) jIZ_379_2637 rfl rfl rfl ?_
  refine jT_xiconst (k := 3) (pcN := 2640) jIZ_379_2639 rfl ?_
  refine jT_xiadd (x := 45) (y := 3) (z := 48) (pcN := 2641) jIZ_379_2640 rfl (by decide) rfl ?_
  refine jT_adv 1 (pcN := 2642) (LN := [(6, (0, 3)), (5, (0, 45)), (7, (0, 0)), (4, (4, 3)), (3, (4, 2)), (2, (4, 1)), (1, (4, 0)), (0, (6, 0))]) (stN := [(0, 2000), (0, 2147483647), (0, 0), (4, 1)]) (hsN := jpZ_228) (c1 := 0) (s1 := 0) (c2 := 22000) (s2 := 732000) (by exact rfl) ?_ (by omega) (by omega)
  refine jT_fA [1, 15, 16, 17, 18, 19, 20, 21, 22, 23, 24, 25, 26, 27, 28, 29, 39, 40, 41, 42, 43, 44] 149 (y := 287) (pcN := 2645) (dC := 8) (bc1 := 22000) (bc2 := 732000) (c1 := 0) (c2 := 0) (as := [(4, 1), (0, 0), (0, 2147483647), (0, 2000)]) (asC := [(4, 0), (0, 0), (0, 2147483647), (0, 2000)]) (LN := [(6, (0, 3)), (5, (0, 45)), (7, (0, 0)), (4, (4, 3)), (3, (4, 2)), (2, (4, 1)), (1, (4, 0)), (0, (6, 0))]) (stN := []) (hsC := jpZ_150) (ex := jpZ_151) (v := (0, 0)) (st2 := [(0, 0)]) (hs2 := jpZ_229) (jZ_287_62 (d := 0)) (by rfl) (by rfl) (by decide +kernel) (by rfl) (by rfl) (by omega) (by omega) (by omega) (by omega) rfl (by decide +kernel) ?_
  refine jT_xistore (v := (0, 0)) (LN := [(7, (0, 0)), (6, (0, 3)), (5, (0, 45)), (4, (4, 3)), (3, (4, 2)), (2, (4, 1)), (1, (4, 0)), (0, (6, 0))]) (pcN := 2647) jIZ_379_2645 rfl rfl rfl rfl ?_
  refine jT_xaload_n (v := (4, 1)) (pcN := 2648) jIZ_379_2647 rfl rfl rfl ?_
  refine jT_fR [1, 15, 16, 17, 18, 19, 20, 21, 22, 23, 24, 25, 26, 27, 28, 29] 160 (y := 186) (pcN := 2651) (dC := 0) (bc1 := 0) (bc2 := 0) (c1 := 0) (c2 := 0) (as := [(4, 1)]) (asC := [(4, 0)]) (LN := [(7, (0, 0)), (6, (0, 3)), (5, (0, 45)), (4, (4, 3)), (3, (4, 2)), (2, (4, 1)), (1, (4, 0)), (0, (6, 0))]) (stN := []) (hsC := jpZ_99) (v := (0, 3)) (st2 := [(0, 3)]) (jZ_186_52 (d := 0)) (by rfl) (by rfl) (by decide +kernel) (by rfl) (by rfl) (by omega) (by omega) (by omega) (by omega) rfl ?_
  refine jT_xiload (v := (0, 3)) (pcN := 2653) jIZ_379_2651 rfl rfl rfl ?_
  refine jT_xicT (pcN := 2658) jIZ_379_2653 rfl (by decide +kernel) rfl ?_
  refine jT_xiload (v := (0, 3)) (pcN := 2660) jIZ_379_2658 rfl rfl rfl ?_
  refine jT_xifT (pcN := 2675) jIZ_379_2660 rfl (by decide +kernel) rfl ?_
  refine jT_xgoto (pcN := 3740) jIZ_379_2675 rfl ?_
  refine jT_xiinc (x := 45) (z := 50) (LN := [(5, (0, 50)), (7, (0, 0)), (6, (0, 3)), (4, (4, 3)), (3, (4, 2)), (2, (4, 1)), (1, (4, 0)), (0, (6, 0))]) (pcN := 3743) jIZ_379_3740 rfl rfl (by decide) rfl rfl ?_
  refine jT_xgoto (pcN := 28) jIZ_379_3743 rfl ?_
  refine jT_xiload (v := (0, 50)) (pcN := 30) jIZ_379_28 rfl rfl rfl ?_
  refine jT_xaload_n (v := (6, 0)) (pcN := 31) jIZ_379_30 rfl rfl rfl ?_
  refine jT_adv 1 (pcN := 32) (LN := [(5, (0, 50)), (7, (0, 0)), (6, (0, 3)), (4, (4, 3)), (3, (4, 2)), (2, (4, 1)), (1, (4, 0)), (0, (6, 0))]) (stN := [(0, 50), (0, 50)]) (hsN := jpZ_229) (c1 := 0) (s1 := 0) (c2 := 0) (s2 := 0) (by exact rfl) ?_ (by omega) (by omega)
  refine jT_xiconst (k := 5) (pcN := 33) jIZ_379_32 rfl ?_
  refine jT_xisub (x := 50) (y := 5) (z := 45) (pcN := 34) jIZ_379_33 rfl (by decide) rfl ?_
  refine jT_xicT (pcN := 3746) jIZ_379_34 rfl (by decide +kernel) rfl ?_
  refine jT_xiconst (k := 1) (pcN := 3747) jIZ_379_3746 rfl ?_
  exact jT_ret rfl (by decide) (by show 50 ≤ 160; decide) (by omega) (by omega) ⟨rfl, rfl⟩
