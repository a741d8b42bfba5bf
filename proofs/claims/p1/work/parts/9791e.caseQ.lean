/-! the law, case by case: 38 -/
theorem jQ_161_249 {xs : List Int} {d : Nat} {k10_0 k10_1 k10_2 k10_3 k10_4 k10_5 o4 r7 r8 u9_0 u9_1 u9_2 u9_3 u9_4 u9_5 : Int} (h_k10_0 : 1 ≤ k10_0 ∧ k10_0 ≤ 100) (h_k10_1 : 2 ≤ k10_1 ∧ k10_1 ≤ 158) (h_k10_2 : 2 ≤ k10_2 ∧ k10_2 ≤ 232) (h_k10_3 : 3 ≤ k10_3 ∧ k10_3 ≤ 281) (h_k10_4 : 3 ≤ k10_4 ∧ k10_4 ≤ 346) (h_k10_5 : 4 ≤ k10_5 ∧ k10_5 ≤ 370) (h_o4 : 1 ≤ o4 ∧ o4 ≤ 100) (h_r7 : (-20) ≤ r7 ∧ r7 ≤ 20) (h_r8 : (-10) ≤ r8 ∧ r8 ≤ 10) (g_0 : 0 < r7) (g_1 : -(((108917793695 * r7 + 159561683699 * r8) / 68719476736) * o4) + (r7 * k10_1) + (r8 * k10_2) - 1 < 0) (g_2 : -(((108917793695 * r7 + 159561683699 * r8) / 68719476736) * o4) + (r7 * k10_1) + (r8 * k10_2) < 0) : jT xs (d + 2) 161 15 0 [(0, (4, 0)), (1, (0, r7)), (2, (0, r8)), (3, (4, 1)), (4, (0, o4))] [] [jzQ_16, jgh, (8, [(4, 13), (4, 14)], []), jgh, jgh, jgh, jgh, jgh, jgh, (101, [], [u9_0, u9_1, u9_2, u9_3, u9_4, u9_5]), (101, [], [k10_0, k10_1, k10_2, k10_3, k10_4, k10_5]), jgh, jgh, jgh, jgh] 0 0 (fun k v hsN => k = 0 ∧ v = (0, 0) ∧ hsN = [jzQ_16, jgh, (8, [(4, 13), (4, 14)], []), jgh, jgh, jgh, jgh, jgh, jgh, (101, [], [0, r7, r8, 0, 0, 0]), (101, [], [k10_0, k10_1, k10_2, k10_3, k10_4, k10_5]), jgh, jgh, jgh, jgh]) := by
  refine jT_xiload_n (v := (0, r7)) (pcN := 1) jIQ_161_0 rfl rfl rfl ?_
  refine jT_ifT (a := r7) (t := 10) (by rfl) (by rfl) (by rfl) (jw_idd (by omega) (by omega)) (by simp only [jcP] <;> omega) ?_
  refine jT_xiconst (k := 0) (pcN := 11) jIQ_161_10 rfl ?_
  refine jT_xistore (v := (0, 0)) (LN := [(5, (0, 0)), (0, (4, 0)), (1, (0, r7)), (2, (0, r8)), (3, (4, 1)), (4, (0, o4))]) (pcN := 13) jIQ_161_11 rfl rfl rfl rfl ?_
  refine jT_xiload (v := (0, 0)) (pcN := 15) jIQ_161_13 rfl rfl rfl ?_
  refine jT_xbipush (k := 6) (pcN := 17) jIQ_161_15 (by decide) rfl ?_
  refine jT_xicF (t := 56) (pcN := 20) jIQ_161_17 rfl (by decide +kernel) rfl rfl ?_
  refine jT_xaload_n (v := (4, 0)) (pcN := 21) jIQ_161_20 rfl rfl rfl ?_
  refine jT_xgetf (a := 0) (t := 1) (ci := 13) (fi := 7) (c := jzQ_16) (v := (4, 9)) (pcN := 24) jIQ_161_21 rfl rfl rfl rfl rfl rfl rfl ?_
  refine jT_xiload (v := (0, 0)) (pcN := 26) jIQ_161_24 rfl rfl rfl ?_
  refine jT_xiload (v := (0, 0)) (pcN := 28) jIQ_161_26 rfl rfl rfl ?_
  refine jT_xiconst (k := 1) (pcN := 29) jIQ_161_28 rfl ?_
  refine jT_xicT (pcN := 37) jIQ_161_29 rfl (by decide +kernel) rfl ?_
  refine jT_xiload (v := (0, 0)) (pcN := 39) jIQ_161_37 rfl rfl rfl ?_
  refine jT_xiconst (k := 2) (pcN := 40) jIQ_161_39 rfl ?_
  refine jT_xicT (pcN := 48) jIQ_161_40 rfl (by decide +kernel) rfl ?_
  refine jT_xlconst (z := 0) (pcN := 49) jIQ_161_48 rfl rfl ?_
  refine jT_adv 1 (pcN := 50) (LN := [(5, (0, 0)), (0, (4, 0)), (1, (0, r7)), (2, (0, r8)), (3, (4, 1)), (4, (0, o4))]) (stN := []) (hsN := [jzQ_16, jgh, (8, [(4, 13), (4, 14)], []), jgh, jgh, jgh, jgh, jgh, jgh, (101, [], [0, u9_1, u9_2, u9_3, u9_4, u9_5]), (101, [], [k10_0, k10_1, k10_2, k10_3, k10_4, k10_5]), jgh, jgh, jgh, jgh]) (c1 := 0) (s1 := 0) (c2 := 0) (s2 := 0) (by exact rfl) ?_ (by omega) (by omega)
  refine jT_xiinc (x := 0) (z := 1) (LN := [(5, (0, 1)), (0, (4, 0)), (1, (0, r7)), (2, (0, r8)), (3, (4, 1)), (4, (0, o4))]) (pcN := 53) jIQ_161_50 rfl rfl (by decide) rfl rfl ?_
  refine jT_xgoto (pcN := 13) jIQ_161_53 rfl ?_
  refine jT_xiload (v := (0, 1)) (pcN := 15) jIQ_161_13 rfl rfl rfl ?_
  refine jT_xbipush (k := 6) (pcN := 17) jIQ_161_15 (by decide) rfl ?_
  refine jT_xicF (t := 56) (pcN := 20) jIQ_161_17 rfl (by decide +kernel) rfl rfl ?_
  refine jT_xaload_n (v := (4, 0)) (pcN := 21) jIQ_161_20 rfl rfl rfl ?_
  refine jT_xgetf (a := 0) (t := 1) (ci := 13) (fi := 7) (c := jzQ_16) (v := (4, 9)) (pcN := 24) jIQ_161_21 rfl rfl rfl rfl rfl rfl rfl ?_
  refine jT_xiload (v := (0, 1)) (pcN := 26) jIQ_161_24 rfl rfl rfl ?_
  refine jT_xiload (v := (0, 1)) (pcN := 28) jIQ_161_26 rfl rfl rfl ?_
  refine jT_xiconst (k := 1) (pcN := 29) jIQ_161_28 rfl ?_
  refine jT_xicF (t := 37) (pcN := 32) jIQ_161_29 rfl (by decide +kernel) rfl rfl ?_
  refine jT_xiload_n (v := (0, r7)) (pcN := 33) jIQ_161_32 rfl rfl rfl ?_
  refine jT_xi2l (x := r7) (z := r7) (pcN := 34) jIQ_161_33 rfl (jw_idd (by omega) (by omega)) rfl ?_
  refine jT_xgoto (pcN := 49) jIQ_161_34 rfl ?_
  refine jT_adv 1 (pcN := 50) (LN := [(5, (0, 1)), (0, (4, 0)), (1, (0, r7)), (2, (0, r8)), (3, (4, 1)), (4, (0, o4))]) (stN := []) (hsN := [jzQ_16, jgh, (8, [(4, 13), (4, 14)], []), jgh, jgh, jgh, jgh, jgh, jgh, (101, [], [0, r7, u9_2, u9_3, u9_4, u9_5]), (101, [], [k10_0, k10_1, k10_2, k10_3, k10_4, k10_5]), jgh, jgh, jgh, jgh]) (c1 := 0) (s1 := 0) (c2 := 0) (s2 := 0) (by exact rfl) ?_ (by omega) (by omega)
  refine jT_xiinc (x := 1) (z := 2) (LN := [(5, (0, 2)), (0, (4, 0)), (1, (0, r7)), (2, (0, r8)), (3, (4, 1)), (4, (0, o4))]) (pcN := 53) jIQ_161_50 rfl rfl (by decide) rfl rfl ?_
  refine jT_xgoto (pcN := 13) jIQ_161_53 rfl ?_
  refine jT_xiload (v := (0, 2)) (pcN := 15) jIQ_161_13 rfl rfl rfl ?_
  refine jT_xbipush (k := 6) (pcN := 17) jIQ_161_15 (by decide) rfl ?_
  refine jT_xicF (t := 56) (pcN := 20) jIQ_161_17 rfl (by decide +kernel) rfl rfl ?_
  refine jT_xaload_n (v := (4, 0)) (pcN := 21) jIQ_161_20 rfl rfl rfl ?_
  refine jT_xgetf (a := 0) (t := 1) (ci := 13) (fi := 7) (c := jzQ_16) (v := (4, 9)) (pcN := 24) jIQ_161_21 rfl rfl rfl rfl rfl rfl rfl ?_
  refine jT_xiload (v := (0, 2)) (pcN := 26) jIQ_161_24 rfl rfl rfl ?_
  refine jT_xiload (v := (0, 2)) (pcN := 28) jIQ_161_26 rfl rfl rfl ?_
  refine jT_xiconst (k := 1) (pcN := 29) jIQ_161_28 rfl ?_
  refine jT_xicT (pcN := 37) jIQ_161_29 rfl (by decide +kernel) rfl ?_
  refine jT_xiload (v := (0, 2)) (pcN := 39) jIQ_161_37 rfl rfl rfl ?_
  refine jT_xiconst (k := 2) (pcN := 40) jIQ_161_39 rfl ?_
  refine jT_xicF (t := 48) (pcN := 43) jIQ_161_40 rfl (by decide +kernel) rfl rfl ?_
  refine jT_xiload_n (v := (0, r8)) (pcN := 44) jIQ_161_43 rfl rfl rfl ?_
  refine jT_xi2l (x := r8) (z := r8) (pcN := 45) jIQ_161_44 rfl (jw_idd (by omega) (by omega)) rfl ?_
  refine jT_xgoto (pcN := 49) jIQ_161_45 rfl ?_
  refine jT_adv 1 (pcN := 50) (LN := [(5, (0, 2)), (0, (4, 0)), (1, (0, r7)), (2, (0, r8)), (3, (4, 1)), (4, (0, o4))]) (stN := []) (hsN := [jzQ_16, jgh, (8, [(4, 13), (4, 14)], []), jgh, jgh, jgh, jgh, jgh, jgh, (101, [], [0, r7, r8, u9_3, u9_4, u9_5]), (101, [], [k10_0, k10_1, k10_2, k10_3, k10_4, k10_5]), jgh, jgh, jgh, jgh]) (c1 := 0) (s1 := 0) (c2 := 0) (s2 := 0) (by exact rfl) ?_ (by omega) (by omega)
  refine jT_xiinc (x := 2) (z := 3) (LN := [(5, (0, 3)), (0, (4, 0)), (1, (0, r7)), (2, (0, r8)), (3, (4, 1)), (4, (0, o4))]) (pcN := 53) jIQ_161_50 rfl rfl (by decide) rfl rfl ?_
  refine jT_xgoto (pcN := 13) jIQ_161_53 rfl ?_
  refine jT_xiload (v := (0, 3)) (pcN := 15) jIQ_161_13 rfl rfl rfl ?_
  refine jT_xbipush (k := 6) (pcN := 17) jIQ_161_15 (by decide) rfl ?_
  refine jT_xicF (t := 56) (pcN := 20) jIQ_161_17 rfl (by decide +kernel) rfl rfl ?_
  refine jT_xaload_n (v := (4, 0)) (pcN := 21) jIQ_161_20 rfl rfl rfl ?_
  refine jT_xgetf (a := 0) (t := 1) (ci := 13) (fi := 7) (c := jzQ_16) (v := (4, 9)) (pcN := 24) jIQ_161_21 rfl rfl rfl rfl rfl rfl rfl ?_
  refine jT_xiload (v := (0, 3)) (pcN := 26) jIQ_161_24 rfl rfl rfl ?_
  refine jT_xiload (v := (0, 3)) (pcN := 28) jIQ_161_26 rfl rfl rfl ?_
  refine jT_xiconst (k := 1) (pcN := 29) jIQ_161_28 rfl ?_
  refine jT_xicT (pcN := 37) jIQ_161_29 rfl (by decide +kernel) rfl ?_
  refine jT_xiload (v := (0, 3)) (pcN := 39) jIQ_161_37 rfl rfl rfl ?_
  refine jT_xiconst (k := 2) (pcN := 40) jIQ_161_39 rfl ?_
  refine jT_xicT (pcN := 48) jIQ_161_40 rfl (by decide +kernel) rfl ?_
  refine jT_xlconst (z := 0) (pcN := 49) jIQ_161_48 rfl rfl ?_
  refine jT_adv 1 (pcN := 50) (LN := [(5, (0, 3)), (0, (4, 0)), (1, (0, r7)), (2, (0, r8)), (3, (4, 1)), (4, (0, o4))]) (stN := []) (hsN := [jzQ_16, jgh, (8, [(4, 13), (4, 14)], []), jgh, jgh, jgh, jgh, jgh, jgh, (101, [], [0, r7, r8, 0, u9_4, u9_5]), (101, [], [k10_0, k10_1, k10_2, k10_3, k10_4, k10_5]), jgh, jgh, jgh, jgh]) (c1 := 0) (s1 := 0) (c2 := 0) (s2 := 0) (by exact rfl) ?_ (by omega) (by omega)
  refine jT_xiinc (x := 3) (z := 4) (LN := [(5, (0, 4)), (0, (4, 0)), (1, (0, r7)), (2, (0, r8)), (3, (4, 1)), (4, (0, o4))]) (pcN := 53) jIQ_161_50 rfl rfl (by decide) rfl rfl ?_
  refine jT_xgoto (pcN := 13) jIQ_161_53 rfl ?_
  refine jT_xiload (v := (0, 4)) (pcN := 15) jIQ_161_13 rfl rfl rfl ?_
  refine jT_xbipush (k := 6) (pcN := 17) jIQ_161_15 (by decide) rfl ?_
  refine jT_xicF (t := 56) (pcN := 20) jIQ_161_17 rfl (by decide +kernel) rfl rfl ?_
  refine jT_xaload_n (v := (4, 0)) (pcN := 21) jIQ_161_20 rfl rfl rfl ?_
  refine jT_xgetf (a := 0) (t := 1) (ci := 13) (fi := 7) (c := jzQ_16) (v := (4, 9)) (pcN := 24) jIQ_161_21 rfl rfl rfl rfl rfl rfl rfl ?_
  refine jT_xiload (v := (0, 4)) (pcN := 26) jIQ_161_24 rfl rfl rfl ?_
  refine jT_xiload (v := (0, 4)) (pcN := 28) jIQ_161_26 rfl rfl rfl ?_
  refine jT_xiconst (k := 1) (pcN := 29) jIQ_161_28 rfl ?_
  refine jT_xicT (pcN := 37) jIQ_161_29 rfl (by decide +kernel) rfl ?_
  refine jT_xiload (v := (0, 4)) (pcN := 39) jIQ_161_37 rfl rfl rfl ?_
  refine jT_xiconst (k := 2) (pcN := 40) jIQ_161_39 rfl ?_
  refine jT_xicT (pcN := 48) jIQ_161_40 rfl (by decide +kernel) rfl ?_
  refine jT_xlconst (z := 0) (pcN := 49) jIQ_161_48 rfl rfl ?_
  refine jT_adv 1 (pcN := 50) (LN := [(5, (0, 4)), (0, (4, 0)), (1, (0, r7)), (2, (0, r8)), (3, (4, 1)), (4, (0, o4))]) (stN := []) (hsN := [jzQ_16, jgh, (8, [(4, 13), (4, 14)], []), jgh, jgh, jgh, jgh, jgh, jgh, (101, [], [0, r7, r8, 0, 0, u9_5]), (101, [], [k10_0, k10_1, k10_2, k10_3, k10_4, k10_5]), jgh, jgh, jgh, jgh]) (c1 := 0) (s1 := 0) (c2 := 0) (s2 := 0) (by exact rfl) ?_ (by omega) (by omega)
  refine jT_xiinc (x := 4) (z := 5) (LN := [(5, (0, 5)), (0, (4, 0)), (1, (0, r7)), (2, (0, r8)), (3, (4, 1)), (4, (0, o4))]) (pcN := 53) jIQ_161_50 rfl rfl (by decide) rfl rfl ?_
  refine jT_xgoto (pcN := 13) jIQ_161_53 rfl ?_
  refine jT_xiload (v := (0, 5)) (pcN := 15) jIQ_161_13 rfl rfl rfl ?_
  refine jT_xbipush (k := 6) (pcN := 17) jIQ_161_15 (by decide) rfl ?_
  refine jT_xicF (t := 56) (pcN := 20) jIQ_161_17 rfl (by decide +kernel) rfl rfl ?_
  refine jT_xaload_n (v := (4, 0)) (pcN := 21) jIQ_161_20 rfl rfl rfl ?_
  refine jT_xgetf (a := 0) (t := 1) (ci := 13) (fi := 7) (c := jzQ_16) (v := (4, 9)) (pcN := 24) jIQ_161_21 rfl rfl rfl rfl rfl rfl rfl ?_
  refine jT_xiload (v := (0, 5)) (pcN := 26) jIQ_161_24 rfl rfl rfl ?_
  refine jT_xiload (v := (0, 5)) (pcN := 28) jIQ_161_26 rfl rfl rfl ?_
  refine jT_xiconst (k := 1) (pcN := 29) jIQ_161_28 rfl ?_
  refine jT_xicT (pcN := 37) jIQ_161_29 rfl (by decide +kernel) rfl ?_
  refine jT_xiload (v := (0, 5)) (pcN := 39) jIQ_161_37 rfl rfl rfl ?_
  refine jT_xiconst (k := 2) (pcN := 40) jIQ_161_39 rfl ?_
  refine jT_xicT (pcN := 48) jIQ_161_40 rfl (by decide +kernel) rfl ?_
  refine jT_xlconst (z := 0) (pcN := 49) jIQ_161_48 rfl rfl ?_
  refine jT_adv 1 (pcN := 50) (LN := [(5, (0, 5)), (0, (4, 0)), (1, (0, r7)), (2, (0, r8)), (3, (4, 1)), (4, (0, o4))]) (stN := []) (hsN := [jzQ_16, jgh, (8, [(4, 13), (4, 14)], []), jgh, jgh, jgh, jgh, jgh, jgh, (101, [], [0, r7, r8, 0, 0, 0]), (101, [], [k10_0, k10_1, k10_2, k10_3, k10_4, k10_5]), jgh, jgh, jgh, jgh]) (c1 := 0) (s1 := 0) (c2 := 0) (s2 := 0) (by exact rfl) ?_ (by omega) (by omega)
  refine jT_xiinc (x := 5) (z := 6) (LN := [(5, (0, 6)), (0, (4, 0)), (1, (0, r7)), (2, (0, r8)), (3, (4, 1)), (4, (0, o4))]) (pcN := 53) jIQ_161_50 rfl rfl (by decide) rfl rfl ?_
  refine jT_xgoto (pcN := 13) jIQ_161_53 rfl ?_
  refine jT_xiload (v := (0, 6)) (pcN := 15) jIQ_161_13 rfl rfl rfl ?_
  refine jT_xbipush (k := 6) (pcN := 17) jIQ_161_15 (by decide) rfl ?_
  refine jT_xicT (pcN := 56) jIQ_161_17 rfl (by decide +kernel) rfl ?_
  refine jT_xaload_n (v := (4, 0)) (pcN := 57) jIQ_161_56 rfl rfl rfl ?_
  refine jT_xgetf (a := 0) (t := 1) (ci := 13) (fi := 0) (c := jzQ_16) (v := (4, 2)) (pcN := 60) jIQ_161_57 rfl rfl rfl rfl rfl rfl rfl ?_
  refine jT_xaload_n (v := (4, 0)) (pcN := 61) jIQ_161_60 rfl rfl rfl ?_
  refine jT_xgetf (a := 0) (t := 1) (ci := 13) (fi := 7) (c := jzQ_16) (v := (4, 9)) (pcN := 64) jIQ_161_61 rfl rfl rfl rfl rfl rfl rfl ?_
  refine jT_xlconst (z := 1) (pcN := 65) jIQ_161_64 rfl rfl ?_
  refine jT_xlconst (z := 1) (pcN := 66) jIQ_161_65 rfl rfl ?_
  refine jT_callA [2, 9, 13, 14] (y := 45) (pcN := 69) (dC := 1) (bc1 := 0) (bc2 := 0) (c1 := 0) (c2 := 0) (as := [(4, 2), (4, 9), (1, 1), (1, 1)]) (asC := [(4, 0), (4, 1), (1, 1), (1, 1)]) (LN := [(5, (0, 6)), (0, (4, 0)), (1, (0, r7)), (2, (0, r8)), (3, (4, 1)), (4, (0, o4))]) (stN := []) (hsC := [(8, [(4, 2), (4, 3)], []), (101, [], [0, r7, r8, 0, 0, 0]), jgh, jgh]) (ex := []) (v := (1, (108917793695 * r7 + 159561683699 * r8) / 68719476736)) (st2 := [(1, (108917793695 * r7 + 159561683699 * r8) / 68719476736)]) (hs2 := [jzQ_16, jgh, (8, [(4, 13), (4, 14)], []), jgh, jgh, jgh, jgh, jgh, jgh, (101, [], [0, r7, r8, 0, 0, 0]), (101, [], [k10_0, k10_1, k10_2, k10_3, k10_4, k10_5]), jgh, jgh, jgh, jgh]) (jQl_sp45_116 (d := 0) (by omega) (by omega)) (by rfl) (by rfl) (by rfl) (by rfl) ⟨rfl, rfl, rfl, rfl, trivial⟩ (by rfl) (by rfl) (by omega) (by show 15 ≤ 15; omega) (by omega) (by omega) rfl rfl ?_
  have hb_q1 : (-60) ≤ (108917793695 * r7 + 159561683699 * r8) / 68719476736 ∧ (108917793695 * r7 + 159561683699 * r8) / 68719476736 ≤ 60 := ⟨by omega, by omega⟩
  generalize hq_q1 : (108917793695 * r7 + 159561683699 * r8) / 68719476736 = q1 at hb_q1 g_1 g_2 ⊢
  refine jT_xlstore (v := (1, q1)) (LN := [(5, (1, q1)), (0, (4, 0)), (1, (0, r7)), (2, (0, r8)), (3, (4, 1)), (4, (0, o4))]) (pcN := 71) jIQ_161_69 rfl rfl rfl rfl ?_
  have g_3 : 0 ≤ (-68719476736) * q1 + 108917793694 * r7 + 159561683698 * r8 - 1 := by have := jcg (b := r7) (c := r8) (by omega) (by omega) (by omega); rw [hq_q1] at this; omega
  have g_4 : 0 ≤ (-68719476736) * q1 + 108917793694 * r7 + 159561683700 * r8 - 1 := by have := jcg (b := r7) (c := r8) (by omega) (by omega) (by omega); rw [hq_q1] at this; omega
  have g_5 : 0 ≤ (-68719476736) * q1 + 108917793696 * r7 + 159561683698 * r8 - 1 := by have := jcg (b := r7) (c := r8) (by omega) (by omega) (by omega); rw [hq_q1] at this; omega
  have g_6 : 0 ≤ (-68719476736) * q1 + 108917793696 * r7 + 159561683700 * r8 - 1 := by have := jcg (b := r7) (c := r8) (by omega) (by omega) (by omega); rw [hq_q1] at this; omega
  refine jT_xiload (v := (0, o4)) (pcN := 73) jIQ_161_71 rfl rfl rfl ?_
  refine jT_ifF (a := o4) (t := 107) (by rfl) (by rfl) (by rfl) (jw_idd (by omega) (by omega)) (by simp only [jcP] <;> omega) ?_
  refine jT_xiload_n (v := (0, r7)) (pcN := 77) jIQ_161_76 rfl rfl rfl ?_
  refine jT_xi2l (x := r7) (z := r7) (pcN := 78) jIQ_161_77 rfl (jw_idd (by omega) (by omega)) rfl ?_
  refine jT_xaload_n (v := (4, 0)) (pcN := 79) jIQ_161_78 rfl rfl rfl ?_
  refine jT_xgetf (a := 0) (t := 1) (ci := 13) (fi := 8) (c := jzQ_16) (v := (4, 10)) (pcN := 82) jIQ_161_79 rfl rfl rfl rfl rfl rfl rfl ?_
  refine jT_xiconst (k := 1) (pcN := 83) jIQ_161_82 rfl ?_
  refine jT_lald (x := k10_1) (a := 10) (j := 1) (fs := []) (X := [k10_0, k10_1, k10_2, k10_3, k10_4, k10_5]) jIQ_161_83 rfl rfl rfl rfl ?_
  refine jT_eq (LN := [(5, (1, q1)), (0, (4, 0)), (1, (0, r7)), (2, (0, r8)), (3, (4, 1)), (4, (0, o4))]) (stN := [(1, k10_1), (1, r7)]) (hsN := [jzQ_16, jgh, (8, [(4, 13), (4, 14)], []), jgh, jgh, jgh, jgh, jgh, jgh, (101, [], [0, r7, r8, 0, 0, 0]), (101, [], [k10_0, k10_1, k10_2, k10_3, k10_4, k10_5]), jgh, jgh, jgh, jgh]) rfl rfl rfl ?_
  refine jT_xlmul (x := r7) (y := k10_1) (z := r7 * k10_1) (pcN := 85) jIQ_161_84 rfl rfl rfl ?_
  have hb_q2 := jmul_b2 (x := r7) (y := k10_1) (k := 1) (l := 2) (m := 20) (n := 158) (by omega) (by omega) (by omega) (by omega) (by omega) (by omega)
  have hb_q2 : 2 ≤ r7 * k10_1 ∧ r7 * k10_1 ≤ 3160 := ⟨by omega, by omega⟩
  generalize hq_q2 : r7 * k10_1 = q2 at hb_q2 g_1 g_2 ⊢
  refine jT_xiload_n (v := (0, r8)) (pcN := 86) jIQ_161_85 rfl rfl rfl ?_
  refine jT_xi2l (x := r8) (z := r8) (pcN := 87) jIQ_161_86 rfl (jw_idd (by omega) (by omega)) rfl ?_
  refine jT_xaload_n (v := (4, 0)) (pcN := 88) jIQ_161_87 rfl rfl rfl ?_
  refine jT_xgetf (a := 0) (t := 1) (ci := 13) (fi := 8) (c := jzQ_16) (v := (4, 10)) (pcN := 91) jIQ_161_88 rfl rfl rfl rfl rfl rfl rfl ?_
  refine jT_xiconst (k := 2) (pcN := 92) jIQ_161_91 rfl ?_
  refine jT_lald (x := k10_2) (a := 10) (j := 2) (fs := []) (X := [k10_0, k10_1, k10_2, k10_3, k10_4, k10_5]) jIQ_161_92 rfl rfl rfl rfl ?_
  refine jT_eq (LN := [(5, (1, q1)), (0, (4, 0)), (1, (0, r7)), (2, (0, r8)), (3, (4, 1)), (4, (0, o4))]) (stN := [(1, k10_2), (1, r8), (1, q2)]) (hsN := [jzQ_16, jgh, (8, [(4, 13), (4, 14)], []), jgh, jgh, jgh, jgh, jgh, jgh, (101, [], [0, r7, r8, 0, 0, 0]), (101, [], [k10_0, k10_1, k10_2, k10_3, k10_4, k10_5]), jgh, jgh, jgh, jgh]) rfl rfl rfl ?_
  refine jT_xlmul (x := r8) (y := k10_2) (z := r8 * k10_2) (pcN := 94) jIQ_161_93 rfl rfl rfl ?_
  have hb_q3 := jmul_bs (x := r8) (y := k10_2) (m := 10) (n := 232) (by omega) (by omega) (by omega) (by omega)
  have hb_q3 : (-2320) ≤ r8 * k10_2 ∧ r8 * k10_2 ≤ 2320 := ⟨by omega, by omega⟩
  generalize hq_q3 : r8 * k10_2 = q3 at hb_q3 g_1 g_2 ⊢
  refine jT_xladd (x := q2) (y := q3) (z := q2 + q3) (pcN := 95) jIQ_161_94 rfl (rfl) rfl ?_
  refine jT_xlload (v := (1, q1)) (pcN := 97) jIQ_161_95 rfl rfl rfl ?_
  refine jT_xiload (v := (0, o4)) (pcN := 99) jIQ_161_97 rfl rfl rfl ?_
  refine jT_xi2l (x := o4) (z := o4) (pcN := 100) jIQ_161_99 rfl (jw_idd (by omega) (by omega)) rfl ?_
  refine jT_xlmul (x := q1) (y := o4) (z := q1 * o4) (pcN := 101) jIQ_161_100 rfl rfl rfl ?_
  have hb_q4 := jmul_bs (x := q1) (y := o4) (m := 60) (n := 100) (by omega) (by omega) (by omega) (by omega)
  have hb_q4 : (-6000) ≤ q1 * o4 ∧ q1 * o4 ≤ 6000 := ⟨by omega, by omega⟩
  generalize hq_q4 : q1 * o4 = q4 at hb_q4 g_1 g_2 ⊢
  refine jT_lcmp (a := q2 + q3) (b := q4) (z := (-1)) (by rfl) (by rfl) (jwl_idd (by omega) (by omega)) (jwl_idd (by omega) (by omega)) (by rw [decide_eq_false (show ¬ ((q4 : Int) < q2 + q3) by omega), decide_eq_false (show ¬ ((q2 + q3 : Int) = q4) by omega)]; rfl) ?_
  refine jT_xifF (t := 107) (pcN := 105) jIQ_161_102 rfl (by decide +kernel) rfl rfl ?_
  refine jT_xiconst (k := 0) (pcN := 106) jIQ_161_105 rfl ?_
  subst hq_q4
  subst hq_q3
  subst hq_q2
  subst hq_q1
  exact jT_ret rfl (by decide) (by show 15 ≤ 15; omega) (by omega) (by omega) ⟨rfl, rfl, rfl⟩
theorem jQ_161_250 {xs : List Int} {d : Nat} {k10_0 k10_1 k10_2 k10_3 k10_4 k10_5 o4 r7 r8 u9_0 u9_1 u9_2 u9_3 u9_4 u9_5 : Int} (h_k10_0 : 1 ≤ k10_0 ∧ k10_0 ≤ 100) (h_k10_1 : 2 ≤ k10_1 ∧ k10_1 ≤ 158) (h_k10_2 : 2 ≤ k10_2 ∧ k10_2 ≤ 232) (h_k10_3 : 3 ≤ k10_3 ∧ k10_3 ≤ 281) (h_k10_4 : 3 ≤ k10_4 ∧ k10_4 ≤ 346) (h_k10_5 : 4 ≤ k10_5 ∧ k10_5 ≤ 370) (h_o4 : 1 ≤ o4 ∧ o4 ≤ 100) (h_r7 : (-20) ≤ r7 ∧ r7 ≤ 20) (h_r8 : (-10) ≤ r8 ∧ r8 ≤ 10) (g_0 : 0 < r7) (g_1 : -(((108917793695 * r7 + 159561683699 * r8) / 68719476736) * o4) + (r7 * k10_1) + (r8 * k10_2) - 1 < 0) (g_2 : 0 ≤ -(((108917793695 * r7 + 159561683699 * r8) / 68719476736) * o4) + (r7 * k10_1) + (r8 * k10_2)) : jT xs (d + 2) 161 16 0 [(0, (4, 0)), (1, (0, r7)), (2, (0, r8)), (3, (4, 1)), (4, (0, o4))] [] [jzQ_16, (4, [(4, 13), (1, 1)], []), (8, [(4, 14), (4, 15)], []), jgh, jgh, jgh, jgh, jgh, jgh, (101, [], [u9_0, u9_1, u9_2, u9_3, u9_4, u9_5]), (101, [], [k10_0, k10_1, k10_2, k10_3, k10_4, k10_5]), jgh, jgh, (101, [], [0, 0, 0, 0, 0, 0]), jgh, jgh] 0 0 (fun k v hsN => k = 0 ∧ v = (0, 0) ∧ hsN = [jzQ_16, (4, [(4, 13), (1, 1)], []), (8, [(4, 14), (4, 15)], []), jgh, jgh, jgh, jgh, jgh, jgh, (101, [], [(108917793695 * r7 + 159561683699 * r8) / 68719476736, -r7, -r8, 0, 0, 0]), (101, [], [k10_0, k10_1, k10_2, k10_3, k10_4, k10_5]), jgh, jgh, (101, [], [0, 0, 0, 0, 0, 0]), jgh, jgh]) := by
  refine jT_xiload_n (v := (0, r7)) (pcN := 1) jIQ_161_0 rfl rfl rfl ?_
  refine jT_ifT (a := r7) (t := 10) (by rfl) (by rfl) (by rfl) (jw_idd (by omega) (by omega)) (by simp only [jcP] <;> omega) ?_
  refine jT_xiconst (k := 0) (pcN := 11) jIQ_161_10 rfl ?_
  refine jT_xistore (v := (0, 0)) (LN := [(5, (0, 0)), (0, (4, 0)), (1, (0, r7)), (2, (0, r8)), (3, (4, 1)), (4, (0, o4))]) (pcN := 13) jIQ_161_11 rfl rfl rfl rfl ?_
  refine jT_xiload (v := (0, 0)) (pcN := 15) jIQ_161_13 rfl rfl rfl ?_
  refine jT_xbipush (k := 6) (pcN := 17) jIQ_161_15 (by decide) rfl ?_
  refine jT_xicF (t := 56) (pcN := 20) jIQ_161_17 rfl (by decide +kernel) rfl rfl ?_
  refine jT_xaload_n (v := (4, 0)) (pcN := 21) jIQ_161_20 rfl rfl rfl ?_
  refine jT_xgetf (a := 0) (t := 1) (ci := 13) (fi := 7) (c := jzQ_16) (v := (4, 9)) (pcN := 24) jIQ_161_21 rfl rfl rfl rfl rfl rfl rfl ?_
  refine jT_xiload (v := (0, 0)) (pcN := 26) jIQ_161_24 rfl rfl rfl ?_
  refine jT_xiload (v := (0, 0)) (pcN := 28) jIQ_161_26 rfl rfl rfl ?_
  refine jT_xiconst (k := 1) (pcN := 29) jIQ_161_28 rfl ?_
  refine jT_xicT (pcN := 37) jIQ_161_29 rfl (by decide +kernel) rfl ?_
  refine jT_xiload (v := (0, 0)) (pcN := 39) jIQ_161_37 rfl rfl rfl ?_
  refine jT_xiconst (k := 2) (pcN := 40) jIQ_161_39 rfl ?_
  refine jT_xicT (pcN := 48) jIQ_161_40 rfl (by decide +kernel) rfl ?_
  refine jT_xlconst (z := 0) (pcN := 49) jIQ_161_48 rfl rfl ?_
  refine jT_adv 1 (pcN := 50) (LN := [(5, (0, 0)), (0, (4, 0)), (1, (0, r7)), (2, (0, r8)), (3, (4, 1)), (4, (0, o4))]) (stN := []) (hsN := [jzQ_16, (4, [(4, 13), (1, 1)], []), (8, [(4, 14), (4, 15)], []), jgh, jgh, jgh, jgh, jgh, jgh, (101, [], [0, u9_1, u9_2, u9_3, u9_4, u9_5]), (101, [], [k10_0, k10_1, k10_2, k10_3, k10_4, k10_5]), jgh, jgh, (101, [], [0, 0, 0, 0, 0, 0]), jgh, jgh]) (c1 := 0) (s1 := 0) (c2 := 0) (s2 := 0) (by exact rfl) ?_ (by omega) (by omega)
  refine jT_xiinc (x := 0) (z := 1) (LN := [(5, (0, 1)), (0, (4, 0)), (1, (0, r7)), (2, (0, r8)), (3, (4, 1)), (4, (0, o4))]) (pcN := 53) jIQ_161_50 rfl rfl (by decide) rfl rfl ?_
  refine jT_xgoto (pcN := 13) jIQ_161_53 rfl ?_
  refine jT_xiload (v := (0, 1)) (pcN := 15) jIQ_161_13 rfl rfl rfl ?_
  refine jT_xbipush (k := 6) (pcN := 17) jIQ_161_15 (by decide) rfl ?_
  refine jT_xicF (t := 56) (pcN := 20) jIQ_161_17 rfl (by decide +kernel) rfl rfl ?_
  refine jT_xaload_n (v := (4, 0)) (pcN := 21) jIQ_161_20 rfl rfl rfl ?_
  refine jT_xgetf (a := 0) (t := 1) (ci := 13) (fi := 7) (c := jzQ_16) (v := (4, 9)) (pcN := 24) jIQ_161_21 rfl rfl rfl rfl rfl rfl rfl ?_
  refine jT_xiload (v := (0, 1)) (pcN := 26) jIQ_161_24 rfl rfl rfl ?_
  refine jT_xiload (v := (0, 1)) (pcN := 28) jIQ_161_26 rfl rfl rfl ?_
  refine jT_xiconst (k := 1) (pcN := 29) jIQ_161_28 rfl ?_
  refine jT_xicF (t := 37) (pcN := 32) jIQ_161_29 rfl (by decide +kernel) rfl rfl ?_
  refine jT_xiload_n (v := (0, r7)) (pcN := 33) jIQ_161_32 rfl rfl rfl ?_
  refine jT_xi2l (x := r7) (z := r7) (pcN := 34) jIQ_161_33 rfl (jw_idd (by omega) (by omega)) rfl ?_
  refine jT_xgoto (pcN := 49) jIQ_161_34 rfl ?_
  refine jT_adv 1 (pcN := 50) (LN := [(5, (0, 1)), (0, (4, 0)), (1, (0, r7)), (2, (0, r8)), (3, (4, 1)), (4, (0, o4))]) (stN := []) (hsN := [jzQ_16, (4, [(4, 13), (1, 1)], []), (8, [(4, 14), (4, 15)], []), jgh, jgh, jgh, jgh, jgh, jgh, (101, [], [0, r7, u9_2, u9_3, u9_4, u9_5]), (101, [], [k10_0, k10_1, k10_2, k10_3, k10_4, k10_5]), jgh, jgh, (101, [], [0, 0, 0, 0, 0, 0]), jgh, jgh]) (c1 := 0) (s1 := 0) (c2 := 0) (s2 := 0) (by exact rfl) ?_ (by omega) (by omega)
  refine jT_xiinc (x := 1) (z := 2) (LN := [(5, (0, 2)), (0, (4, 0)), (1, (0, r7)), (2, (0, r8)), (3, (4, 1)), (4, (0, o4))]) (pcN := 53) jIQ_161_50 rfl rfl (by decide) rfl rfl ?_
  refine jT_xgoto (pcN := 13) jIQ_161_53 rfl ?_
  refine jT_xiload (v := (0, 2)) (pcN := 15) jIQ_161_13 rfl rfl rfl ?_
  refine jT_xbipush (k := 6) (pcN := 17) jIQ_161_15 (by decide) rfl ?_
  refine jT_xicF (t := 56) (pcN := 20) jIQ_161_17 rfl (by decide +kernel) rfl rfl ?_
  refine jT_xaload_n (v := (4, 0)) (pcN := 21) jIQ_161_20 rfl rfl rfl ?_
  refine jT_xgetf (a := 0) (t := 1) (ci := 13) (fi := 7) (c := jzQ_16) (v := (4, 9)) (pcN := 24) jIQ_161_21 rfl rfl rfl rfl rfl rfl rfl ?_
  refine jT_xiload (v := (0, 2)) (pcN := 26) jIQ_161_24 rfl rfl rfl ?_
  refine jT_xiload (v := (0, 2)) (pcN := 28) jIQ_161_26 rfl rfl rfl ?_
  refine jT_xiconst (k := 1) (pcN := 29) jIQ_161_28 rfl ?_
  refine jT_xicT (pcN := 37) jIQ_161_29 rfl (by decide +kernel) rfl ?_
  refine jT_xiload (v := (0, 2)) (pcN := 39) jIQ_161_37 rfl rfl rfl ?_
  refine jT_xiconst (k := 2) (pcN := 40) jIQ_161_39 rfl ?_
  refine jT_xicF (t := 48) (pcN := 43) jIQ_161_40 rfl (by decide +kernel) rfl rfl ?_
  refine jT_xiload_n (v := (0, r8)) (pcN := 44) jIQ_161_43 rfl rfl rfl ?_
  refine jT_xi2l (x := r8) (z := r8) (pcN := 45) jIQ_161_44 rfl (jw_idd (by omega) (by omega)) rfl ?_
  refine jT_xgoto (pcN := 49) jIQ_161_45 rfl ?_
  refine jT_adv 1 (pcN := 50) (LN := [(5, (0, 2)), (0, (4, 0)), (1, (0, r7)), (2, (0, r8)), (3, (4, 1)), (4, (0, o4))]) (stN := []) (hsN := [jzQ_16, (4, [(4, 13), (1, 1)], []), (8, [(4, 14), (4, 15)], []), jgh, jgh, jgh, jgh, jgh, jgh, (101, [], [0, r7, r8, u9_3, u9_4, u9_5]), (101, [], [k10_0, k10_1, k10_2, k10_3, k10_4, k10_5]), jgh, jgh, (101, [], [0, 0, 0, 0, 0, 0]), jgh, jgh]) (c1 := 0) (s1 := 0) (c2 := 0) (s2 := 0) (by exact rfl) ?_ (by omega) (by omega)
  refine jT_xiinc (x := 2) (z := 3) (LN := [(5, (0, 3)), (0, (4, 0)), (1, (0, r7)), (2, (0, r8)), (3, (4, 1)), (4, (0, o4))]) (pcN := 53) jIQ_161_50 rfl rfl (by decide) rfl rfl ?_
  refine jT_xgoto (pcN := 13) jIQ_161_53 rfl ?_
  refine jT_xiload (v := (0, 3)) (pcN := 15) jIQ_161_13 rfl rfl rfl ?_
  refine jT_xbipush (k := 6) (pcN := 17) jIQ_161_15 (by decide) rfl ?_
  refine jT_xicF (t := 56) (pcN := 20) jIQ_161_17 rfl (by decide +kernel) rfl rfl ?_
  refine jT_xaload_n (v := (4, 0)) (pcN := 21) jIQ_161_20 rfl rfl rfl ?_
  refine jT_xgetf (a := 0) (t := 1) (ci := 13) (fi := 7) (c := jzQ_16) (v := (4, 9)) (pcN := 24) jIQ_161_21 rfl rfl rfl rfl rfl rfl rfl ?_
  refine jT_xiload (v := (0, 3)) (pcN := 26) jIQ_161_24 rfl rfl rfl ?_
  refine jT_xiload (v := (0, 3)) (pcN := 28) jIQ_161_26 rfl rfl rfl ?_
  refine jT_xiconst (k := 1) (pcN := 29) jIQ_161_28 rfl ?_
  refine jT_xicT (pcN := 37) jIQ_161_29 rfl (by decide +kernel) rfl ?_
  refine jT_xiload (v := (0, 3)) (pcN := 39) jIQ_161_37 rfl rfl rfl ?_
  refine jT_xiconst (k := 2) (pcN := 40) jIQ_161_39 rfl ?_
  refine jT_xicT (pcN := 48) jIQ_161_40 rfl (by decide +kernel) rfl ?_
  refine jT_xlconst (z := 0) (pcN := 49) jIQ_161_48 rfl rfl ?_
  refine jT_adv 1 (pcN := 50) (LN := [(5, (0, 3)), (0, (4, 0)), (1, (0, r7)), (2, (0, r8)), (3, (4, 1)), (4, (0, o4))]) (stN := []) (hsN := [jzQ_16, (4, [(4, 13), (1, 1)], []), (8, [(4, 14), (4, 15)], []), jgh, jgh, jgh, jgh, jgh, jgh, (101, [], [0, r7, r8, 0, u9_4, u9_5]), (101, [], [k10_0, k10_1, k10_2, k10_3, k10_4, k10_5]), jgh, jgh, (101, [], [0, 0, 0, 0, 0, 0]), jgh, jgh]) (c1 := 0) (s1 := 0) (c2 := 0) (s2 := 0) (by exact rfl) ?_ (by omega) (by omega)
  refine jT_xiinc (x := 3) (z := 4) (LN := [(5, (0, 4)), (0, (4, 0)), (1, (0, r7)), (2, (0, r8)), (3, (4, 1)), (4, (0, o4))]) (pcN := 53) jIQ_161_50 rfl rfl (by decide) rfl rfl ?_
  refine jT_xgoto (pcN := 13) jIQ_161_53 rfl ?_
  refine jT_xiload (v := (0, 4)) (pcN := 15) jIQ_161_13 rfl rfl rfl ?_
  refine jT_xbipush (k := 6) (pcN := 17) jIQ_161_15 (by decide) rfl ?_
  refine jT_xicF (t := 56) (pcN := 20) jIQ_161_17 rfl (by decide +kernel) rfl rfl ?_
  refine jT_xaload_n (v := (4, 0)) (pcN := 21) jIQ_161_20 rfl rfl rfl ?_
  refine jT_xgetf (a := 0) (t := 1) (ci := 13) (fi := 7) (c := jzQ_16) (v := (4, 9)) (pcN := 24) jIQ_161_21 rfl rfl rfl rfl rfl rfl rfl ?_
  refine jT_xiload (v := (0, 4)) (pcN := 26) jIQ_161_24 rfl rfl rfl ?_
  refine jT_xiload (v := (0, 4)) (pcN := 28) jIQ_161_26 rfl rfl rfl ?_
  refine jT_xiconst (k := 1) (pcN := 29) jIQ_161_28 rfl ?_
  refine jT_xicT (pcN := 37) jIQ_161_29 rfl (by decide +kernel) rfl ?_
  refine jT_xiload (v := (0, 4)) (pcN := 39) jIQ_161_37 rfl rfl rfl ?_
  refine jT_xiconst (k := 2) (pcN := 40) jIQ_161_39 rfl ?_
  refine jT_xicT (pcN := 48) jIQ_161_40 rfl (by decide +kernel) rfl ?_
  refine jT_xlconst (z := 0) (pcN := 49) jIQ_161_48 rfl rfl ?_
  refine jT_adv 1 (pcN := 50) (LN := [(5, (0, 4)), (0, (4, 0)), (1, (0, r7)), (2, (0, r8)), (3, (4, 1)), (4, (0, o4))]) (stN := []) (hsN := [jzQ_16, (4, [(4, 13), (1, 1)], []), (8, [(4, 14), (4, 15)], []), jgh, jgh, jgh, jgh, jgh, jgh, (101, [], [0, r7, r8, 0, 0, u9_5]), (101, [], [k10_0, k10_1, k10_2, k10_3, k10_4, k10_5]), jgh, jgh, (101, [], [0, 0, 0, 0, 0, 0]), jgh, jgh]) (c1 := 0) (s1 := 0) (c2 := 0) (s2 := 0) (by exact rfl) ?_ (by omega) (by omega)
  refine jT_xiinc (x := 4) (z := 5) (LN := [(5, (0, 5)), (0, (4, 0)), (1, (0, r7)), (2, (0, r8)), (3, (4, 1)), (4, (0, o4))]) (pcN := 53) jIQ_161_50 rfl rfl (by decide) rfl rfl ?_
  refine jT_xgoto (pcN := 13) jIQ_161_53 rfl ?_
  refine jT_xiload (v := (0, 5)) (pcN := 15) jIQ_161_13 rfl rfl rfl ?_
  refine jT_xbipush (k := 6) (pcN := 17) jIQ_161_15 (by decide) rfl ?_
  refine jT_xicF (t := 56) (pcN := 20) jIQ_161_17 rfl (by decide +kernel) rfl rfl ?_
  refine jT_xaload_n (v := (4, 0)) (pcN := 21) jIQ_161_20 rfl rfl rfl ?_
  refine jT_xgetf (a := 0) (t := 1) (ci := 13) (fi := 7) (c := jzQ_16) (v := (4, 9)) (pcN := 24) jIQ_161_21 rfl rfl rfl rfl rfl rfl rfl ?_
  refine jT_xiload (v := (0, 5)) (pcN := 26) jIQ_161_24 rfl rfl rfl ?_
  refine jT_xiload (v := (0, 5)) (pcN := 28) jIQ_161_26 rfl rfl rfl ?_
  refine jT_xiconst (k := 1) (pcN := 29) jIQ_161_28 rfl ?_
  refine jT_xicT (pcN := 37) jIQ_161_29 rfl (by decide +kernel) rfl ?_
  refine jT_xiload (v := (0, 5)) (pcN := 39) jIQ_161_37 rfl rfl rfl ?_
  refine jT_xiconst (k := 2) (pcN := 40) jIQ_161_39 rfl ?_
  refine jT_xicT (pcN := 48) jIQ_161_40 rfl (by decide +kernel) rfl ?_
  refine jT_xlconst (z := 0) (pcN := 49) jIQ_161_48 rfl rfl ?_
  refine jT_adv 1 (pcN := 50) (LN := [(5, (0, 5)), (0, (4, 0)), (1, (0, r7)), (2, (0, r8)), (3, (4, 1)), (4, (0, o4))]) (stN := []) (hsN := [jzQ_16, (4, [(4, 13), (1, 1)], []), (8, [(4, 14), (4, 15)], []), jgh, jgh, jgh, jgh, jgh, jgh, (101, [], [0, r7, r8, 0, 0, 0]), (101, [], [k10_0, k10_1, k10_2, k10_3, k10_4, k10_5]), jgh, jgh, (101, [], [0, 0, 0, 0, 0, 0]), jgh, jgh]) (c1 := 0) (s1 := 0) (c2 := 0) (s2 := 0) (by exact rfl) ?_ (by omega) (by omega)
  refine jT_xiinc (x := 5) (z := 6) (LN := [(5, (0, 6)), (0, (4, 0)), (1, (0, r7)), (2, (0, r8)), (3, (4, 1)), (4, (0, o4))]) (pcN := 53) jIQ_161_50 rfl rfl (by decide) rfl rfl ?_
  refine jT_xgoto (pcN := 13) jIQ_161_53 rfl ?_
  refine jT_xiload (v := (0, 6)) (pcN := 15) jIQ_161_13 rfl rfl rfl ?_
  refine jT_xbipush (k := 6) (pcN := 17) jIQ_161_15 (by decide) rfl ?_
  refine jT_xicT (pcN := 56) jIQ_161_17 rfl (by decide +kernel) rfl ?_
  refine jT_xaload_n (v := (4, 0)) (pcN := 57) jIQ_161_56 rfl rfl rfl ?_
  refine jT_xgetf (a := 0) (t := 1) (ci := 13) (fi := 0) (c := jzQ_16) (v := (4, 2)) (pcN := 60) jIQ_161_57 rfl rfl rfl rfl rfl rfl rfl ?_
  refine jT_xaload_n (v := (4, 0)) (pcN := 61) jIQ_161_60 rfl rfl rfl ?_
  refine jT_xgetf (a := 0) (t := 1) (ci := 13) (fi := 7) (c := jzQ_16) (v := (4, 9)) (pcN := 64) jIQ_161_61 rfl rfl rfl rfl rfl rfl rfl ?_
  refine jT_xlconst (z := 1) (pcN := 65) jIQ_161_64 rfl rfl ?_
  refine jT_xlconst (z := 1) (pcN := 66) jIQ_161_65 rfl rfl ?_
  refine jT_callA [2, 9, 14, 15] (y := 45) (pcN := 69) (dC := 1) (bc1 := 0) (bc2 := 0) (c1 := 0) (c2 := 0) (as := [(4, 2), (4, 9), (1, 1), (1, 1)]) (asC := [(4, 0), (4, 1), (1, 1), (1, 1)]) (LN := [(5, (0, 6)), (0, (4, 0)), (1, (0, r7)), (2, (0, r8)), (3, (4, 1)), (4, (0, o4))]) (stN := []) (hsC := [(8, [(4, 2), (4, 3)], []), (101, [], [0, r7, r8, 0, 0, 0]), jgh, jgh]) (ex := []) (v := (1, (108917793695 * r7 + 159561683699 * r8) / 68719476736)) (st2 := [(1, (108917793695 * r7 + 159561683699 * r8) / 68719476736)]) (hs2 := [jzQ_16, (4, [(4, 13), (1, 1)], []), (8, [(4, 14), (4, 15)], []), jgh, jgh, jgh, jgh, jgh, jgh, (101, [], [0, r7, r8, 0, 0, 0]), (101, [], [k10_0, k10_1, k10_2, k10_3, k10_4, k10_5]), jgh, jgh, (101, [], [0, 0, 0, 0, 0, 0]), jgh, jgh]) (jQl_sp45_116 (d := 0) (by omega) (by omega)) (by rfl) (by rfl) (by rfl) (by rfl) ⟨rfl, rfl, rfl, rfl, trivial⟩ (by rfl) (by rfl) (by omega) (by show 16 ≤ 16; omega) (by omega) (by omega) rfl rfl ?_
  have hb_q1 : (-60) ≤ (108917793695 * r7 + 159561683699 * r8) / 68719476736 ∧ (108917793695 * r7 + 159561683699 * r8) / 68719476736 ≤ 60 := ⟨by omega, by omega⟩
  generalize hq_q1 : (108917793695 * r7 + 159561683699 * r8) / 68719476736 = q1 at hb_q1 g_1 g_2 ⊢
  refine jT_xlstore (v := (1, q1)) (LN := [(5, (1, q1)), (0, (4, 0)), (1, (0, r7)), (2, (0, r8)), (3, (4, 1)), (4, (0, o4))]) (pcN := 71) jIQ_161_69 rfl rfl rfl rfl ?_
  have g_3 : 0 ≤ (-68719476736) * q1 + 108917793694 * r7 + 159561683698 * r8 - 1 := by have := jcg (b := r7) (c := r8) (by omega) (by omega) (by omega); rw [hq_q1] at this; omega
  have g_4 : 0 ≤ (-68719476736) * q1 + 108917793694 * r7 + 159561683700 * r8 - 1 := by have := jcg (b := r7) (c := r8) (by omega) (by omega) (by omega); rw [hq_q1] at this; omega
  have g_5 : 0 ≤ (-68719476736) * q1 + 108917793696 * r7 + 159561683698 * r8 - 1 := by have := jcg (b := r7) (c := r8) (by omega) (by omega) (by omega); rw [hq_q1] at this; omega
  have g_6 : 0 ≤ (-68719476736) * q1 + 108917793696 * r7 + 159561683700 * r8 - 1 := by have := jcg (b := r7) (c := r8) (by omega) (by omega) (by omega); rw [hq_q1] at this; omega
  refine jT_xiload (v := (0, o4)) (pcN := 73) jIQ_161_71 rfl rfl rfl ?_
  refine jT_ifF (a := o4) (t := 107) (by rfl) (by rfl) (by rfl) (jw_idd (by omega) (by omega)) (by simp only [jcP] <;> omega) ?_
  refine jT_xiload_n (v := (0, r7)) (pcN := 77) jIQ_161_76 rfl rfl rfl ?_
  refine jT_xi2l (x := r7) (z := r7) (pcN := 78) jIQ_161_77 rfl (jw_idd (by omega) (by omega)) rfl ?_
  refine jT_xaload_n (v := (4, 0)) (pcN := 79) jIQ_161_78 rfl rfl rfl ?_
  refine jT_xgetf (a := 0) (t := 1) (ci := 13) (fi := 8) (c := jzQ_16) (v := (4, 10)) (pcN := 82) jIQ_161_79 rfl rfl rfl rfl rfl rfl rfl ?_
  refine jT_xiconst (k := 1) (pcN := 83) jIQ_161_82 rfl ?_
  refine jT_lald (x := k10_1) (a := 10) (j := 1) (fs := []) (X := [k10_0, k10_1, k10_2, k10_3, k10_4, k10_5]) jIQ_161_83 rfl rfl rfl rfl ?_
  refine jT_eq (LN := [(5, (1, q1)), (0, (4, 0)), (1, (0, r7)), (2, (0, r8)), (3, (4, 1)), (4, (0, o4))]) (stN := [(1, k10_1), (1, r7)]) (hsN := [jzQ_16, (4, [(4, 13), (1, 1)], []), (8, [(4, 14), (4, 15)], []), jgh, jgh, jgh, jgh, jgh, jgh, (101, [], [0, r7, r8, 0, 0, 0]), (101, [], [k10_0, k10_1, k10_2, k10_3, k10_4, k10_5]), jgh, jgh, (101, [], [0, 0, 0, 0, 0, 0]), jgh, jgh]) rfl rfl rfl ?_
  refine jT_xlmul (x := r7) (y := k10_1) (z := r7 * k10_1) (pcN := 85) jIQ_161_84 rfl rfl rfl ?_
  have hb_q2 := jmul_b2 (x := r7) (y := k10_1) (k := 1) (l := 2) (m := 20) (n := 158) (by omega) (by omega) (by omega) (by omega) (by omega) (by omega)
  have hb_q2 : 2 ≤ r7 * k10_1 ∧ r7 * k10_1 ≤ 3160 := ⟨by omega, by omega⟩
  generalize hq_q2 : r7 * k10_1 = q2 at hb_q2 g_1 g_2 ⊢
  refine jT_xiload_n (v := (0, r8)) (pcN := 86) jIQ_161_85 rfl rfl rfl ?_
  refine jT_xi2l (x := r8) (z := r8) (pcN := 87) jIQ_161_86 rfl (jw_idd (by omega) (by omega)) rfl ?_
  refine jT_xaload_n (v := (4, 0)) (pcN := 88) jIQ_161_87 rfl rfl rfl ?_
  refine jT_xgetf (a := 0) (t := 1) (ci := 13) (fi := 8) (c := jzQ_16) (v := (4, 10)) (pcN := 91) jIQ_161_88 rfl rfl rfl rfl rfl rfl rfl ?_
  refine jT_xiconst (k := 2) (pcN := 92) jIQ_161_91 rfl ?_
  refine jT_lald (x := k10_2) (a := 10) (j := 2) (fs := []) (X := [k10_0, k10_1, k10_2, k10_3, k10_4, k10_5]) jIQ_161_92 rfl rfl rfl rfl ?_
  refine jT_eq (LN := [(5, (1, q1)), (0, (4, 0)), (1, (0, r7)), (2, (0, r8)), (3, (4, 1)), (4, (0, o4))]) (stN := [(1, k10_2), (1, r8), (1, q2)]) (hsN := [jzQ_16, (4, [(4, 13), (1, 1)], []), (8, [(4, 14), (4, 15)], []), jgh, jgh, jgh, jgh, jgh, jgh, (101, [], [0, r7, r8, 0, 0, 0]), (101, [], [k10_0, k10_1, k10_2, k10_3, k10_4, k10_5]), jgh, jgh, (101, [], [0, 0, 0, 0, 0, 0]), jgh, jgh]) rfl rfl rfl ?_
  refine jT_xlmul (x := r8) (y := k10_2) (z := r8 * k10_2) (pcN := 94) jIQ_161_93 rfl rfl rfl ?_
  have hb_q3 := jmul_bs (x := r8) (y := k10_2) (m := 10) (n := 232) (by omega) (by omega) (by omega) (by omega)
  have hb_q3 : (-2320) ≤ r8 * k10_2 ∧ r8 * k10_2 ≤ 2320 := ⟨by omega, by omega⟩
  generalize hq_q3 : r8 * k10_2 = q3 at hb_q3 g_1 g_2 ⊢
  refine jT_xladd (x := q2) (y := q3) (z := q2 + q3) (pcN := 95) jIQ_161_94 rfl (rfl) rfl ?_
  refine jT_xlload (v := (1, q1)) (pcN := 97) jIQ_161_95 rfl rfl rfl ?_
  refine jT_xiload (v := (0, o4)) (pcN := 99) jIQ_161_97 rfl rfl rfl ?_
  refine jT_xi2l (x := o4) (z := o4) (pcN := 100) jIQ_161_99 rfl (jw_idd (by omega) (by omega)) rfl ?_
  refine jT_xlmul (x := q1) (y := o4) (z := q1 * o4) (pcN := 101) jIQ_161_100 rfl rfl rfl ?_
  have hb_q4 := jmul_bs (x := q1) (y := o4) (m := 60) (n := 100) (by omega) (by omega) (by omega) (by omega)
  have hb_q4 : (-6000) ≤ q1 * o4 ∧ q1 * o4 ≤ 6000 := ⟨by omega, by omega⟩
  generalize hq_q4 : q1 * o4 = q4 at hb_q4 g_1 g_2 ⊢
  refine jT_lcmp (a := q2 + q3) (b := q4) (z := 0) (by rfl) (by rfl) (jwl_idd (by omega) (by omega)) (jwl_idd (by omega) (by omega)) (by rw [decide_eq_false (show ¬ ((q4 : Int) < q2 + q3) by omega), decide_eq_true (show (q2 + q3 : Int) = q4 by omega)]; rfl) ?_
  refine jT_xifT (pcN := 107) jIQ_161_102 rfl (by decide +kernel) rfl ?_
  refine jT_xaload_n (v := (4, 0)) (pcN := 108) jIQ_161_107 rfl rfl rfl ?_
  refine jT_xgetf (a := 0) (t := 1) (ci := 13) (fi := 7) (c := jzQ_16) (v := (4, 9)) (pcN := 111) jIQ_161_108 rfl rfl rfl rfl rfl rfl rfl ?_
  refine jT_xiconst (k := 0) (pcN := 112) jIQ_161_111 rfl ?_
  refine jT_xlload (v := (1, q1)) (pcN := 114) jIQ_161_112 rfl rfl rfl ?_
  refine jT_adv 2 (pcN := 116) (LN := [(5, (1, q1)), (0, (4, 0)), (1, (0, r7)), (2, (0, r8)), (3, (4, 1)), (4, (0, o4))]) (stN := []) (hsN := [jzQ_16, (4, [(4, 13), (1, 1)], []), (8, [(4, 14), (4, 15)], []), jgh, jgh, jgh, jgh, jgh, jgh, (101, [], [-q1, r7, r8, 0, 0, 0]), (101, [], [k10_0, k10_1, k10_2, k10_3, k10_4, k10_5]), jgh, jgh, (101, [], [0, 0, 0, 0, 0, 0]), jgh, jgh]) (c1 := 0) (s1 := 0) (c2 := 0) (s2 := 0) (by exact rfl) ?_ (by omega) (by omega)
  refine jT_xiconst (k := 0) (pcN := 117) jIQ_161_116 rfl ?_
  refine jT_xistore (v := (0, 0)) (LN := [(7, (0, 0)), (5, (1, q1)), (0, (4, 0)), (1, (0, r7)), (2, (0, r8)), (3, (4, 1)), (4, (0, o4))]) (pcN := 119) jIQ_161_117 rfl rfl rfl rfl ?_
  refine jT_xiload (v := (0, 0)) (pcN := 121) jIQ_161_119 rfl rfl rfl ?_
  refine jT_xbipush (k := 6) (pcN := 123) jIQ_161_121 (by decide) rfl ?_
  refine jT_xicF (t := 159) (pcN := 126) jIQ_161_123 rfl (by decide +kernel) rfl rfl ?_
  refine jT_xaload_n (v := (4, 0)) (pcN := 127) jIQ_161_126 rfl rfl rfl ?_
  refine jT_xgetf (a := 0) (t := 1) (ci := 13) (fi := 7) (c := jzQ_16) (v := (4, 9)) (pcN := 130) jIQ_161_127 rfl rfl rfl rfl rfl rfl rfl ?_
  refine jT_xiload (v := (0, 0)) (pcN := 132) jIQ_161_130 rfl rfl rfl ?_
  refine jT_xaload_n (v := (4, 1)) (pcN := 133) jIQ_161_132 rfl rfl rfl ?_
  refine jT_xgetf (a := 1) (t := 2) (ci := 4) (fi := 0) (c := (4, [(4, 13), (1, 1)], [])) (v := (4, 13)) (pcN := 136) jIQ_161_133 rfl rfl rfl rfl rfl rfl rfl ?_
  refine jT_xiload (v := (0, 0)) (pcN := 138) jIQ_161_136 rfl rfl rfl ?_
  refine jT_lald (x := 0) (a := 13) (j := 0) (fs := []) (X := [0, 0, 0, 0, 0, 0]) jIQ_161_138 rfl rfl rfl rfl ?_
  refine jT_eq (LN := [(7, (0, 0)), (5, (1, q1)), (0, (4, 0)), (1, (0, r7)), (2, (0, r8)), (3, (4, 1)), (4, (0, o4))]) (stN := [(1, 0), (0, 0), (4, 9)]) (hsN := [jzQ_16, (4, [(4, 13), (1, 1)], []), (8, [(4, 14), (4, 15)], []), jgh, jgh, jgh, jgh, jgh, jgh, (101, [], [-q1, r7, r8, 0, 0, 0]), (101, [], [k10_0, k10_1, k10_2, k10_3, k10_4, k10_5]), jgh, jgh, (101, [], [0, 0, 0, 0, 0, 0]), jgh, jgh]) rfl rfl rfl ?_
  refine jT_xaload_n (v := (4, 0)) (pcN := 140) jIQ_161_139 rfl rfl rfl ?_
  refine jT_xgetf (a := 0) (t := 1) (ci := 13) (fi := 7) (c := jzQ_16) (v := (4, 9)) (pcN := 143) jIQ_161_140 rfl rfl rfl rfl rfl rfl rfl ?_
  refine jT_xiload (v := (0, 0)) (pcN := 145) jIQ_161_143 rfl rfl rfl ?_
  refine jT_lald (x := -q1) (a := 9) (j := 0) (fs := []) (X := [-q1, r7, r8, 0, 0, 0]) jIQ_161_145 rfl rfl rfl rfl ?_
  refine jT_eq (LN := [(7, (0, 0)), (5, (1, q1)), (0, (4, 0)), (1, (0, r7)), (2, (0, r8)), (3, (4, 1)), (4, (0, o4))]) (stN := [(1, -q1), (1, 0), (0, 0), (4, 9)]) (hsN := [jzQ_16, (4, [(4, 13), (1, 1)], []), (8, [(4, 14), (4, 15)], []), jgh, jgh, jgh, jgh, jgh, jgh, (101, [], [-q1, r7, r8, 0, 0, 0]), (101, [], [k10_0, k10_1, k10_2, k10_3, k10_4, k10_5]), jgh, jgh, (101, [], [0, 0, 0, 0, 0, 0]), jgh, jgh]) rfl rfl rfl ?_
  refine jT_xaload_n (v := (4, 1)) (pcN := 147) jIQ_161_146 rfl rfl rfl ?_
  refine jT_xgetf (a := 1) (t := 2) (ci := 4) (fi := 1) (c := (4, [(4, 13), (1, 1)], [])) (v := (1, 1)) (pcN := 150) jIQ_161_147 rfl rfl rfl rfl rfl rfl rfl ?_
  refine jT_xlmul (x := -q1) (y := 1) (z := -q1) (pcN := 151) jIQ_161_150 rfl (by omega) rfl ?_
  refine jT_xlsub (x := 0) (y := -q1) (z := q1) (pcN := 152) jIQ_161_151 rfl (by omega) rfl ?_
  refine jT_adv 1 (pcN := 153) (LN := [(7, (0, 0)), (5, (1, q1)), (0, (4, 0)), (1, (0, r7)), (2, (0, r8)), (3, (4, 1)), (4, (0, o4))]) (stN := []) (hsN := [jzQ_16, (4, [(4, 13), (1, 1)], []), (8, [(4, 14), (4, 15)], []), jgh, jgh, jgh, jgh, jgh, jgh, (101, [], [q1, r7, r8, 0, 0, 0]), (101, [], [k10_0, k10_1, k10_2, k10_3, k10_4, k10_5]), jgh, jgh, (101, [], [0, 0, 0, 0, 0, 0]), jgh, jgh]) (c1 := 0) (s1 := 0) (c2 := 0) (s2 := 0) (by exact rfl) ?_ (by omega) (by omega)
  refine jT_xiinc (x := 0) (z := 1) (LN := [(7, (0, 1)), (5, (1, q1)), (0, (4, 0)), (1, (0, r7)), (2, (0, r8)), (3, (4, 1)), (4, (0, o4))]) (pcN := 156) jIQ_161_153 rfl rfl (by decide) rfl rfl ?_
  refine jT_xgoto (pcN := 119) jIQ_161_156 rfl ?_
  refine jT_xiload (v := (0, 1)) (pcN := 121) jIQ_161_119 rfl rfl rfl ?_
  refine jT_xbipush (k := 6) (pcN := 123) jIQ_161_121 (by decide) rfl ?_
  refine jT_xicF (t := 159) (pcN := 126) jIQ_161_123 rfl (by decide +kernel) rfl rfl ?_
  refine jT_xaload_n (v := (4, 0)) (pcN := 127) jIQ_161_126 rfl rfl rfl ?_
  refine jT_xgetf (a := 0) (t := 1) (ci := 13) (fi := 7) (c := jzQ_16) (v := (4, 9)) (pcN := 130) jIQ_161_127 rfl rfl rfl rfl rfl rfl rfl ?_
  refine jT_xiload (v := (0, 1)) (pcN := 132) jIQ_161_130 rfl rfl rfl ?_
  refine jT_xaload_n (v := (4, 1)) (pcN := 133) jIQ_161_132 rfl rfl rfl ?_
  refine jT_xgetf (a := 1) (t := 2) (ci := 4) (fi := 0) (c := (4, [(4, 13), (1, 1)], [])) (v := (4, 13)) (pcN := 136) jIQ_161_133 rfl rfl rfl rfl rfl rfl rfl ?_
  refine jT_xiload (v := (0, 1)) (pcN := 138) jIQ_161_136 rfl rfl rfl ?_
  refine jT_lald (x := 0) (a := 13) (j := 1) (fs := []) (X := [0, 0, 0, 0, 0, 0]) jIQ_161_138 rfl rfl rfl rfl ?_
  refine jT_eq (LN := [(7, (0, 1)), (5, (1, q1)), (0, (4, 0)), (1, (0, r7)), (2, (0, r8)), (3, (4, 1)), (4, (0, o4))]) (stN := [(1, 0), (0, 1), (4, 9)]) (hsN := [jzQ_16, (4, [(4, 13), (1, 1)], []), (8, [(4, 14), (4, 15)], []), jgh, jgh, jgh, jgh, jgh, jgh, (101, [], [q1, r7, r8, 0, 0, 0]), (101, [], [k10_0, k10_1, k10_2, k10_3, k10_4, k10_5]), jgh, jgh, (101, [], [0, 0, 0, 0, 0, 0]), jgh, jgh]) rfl rfl rfl ?_
  refine jT_xaload_n (v := (4, 0)) (pcN := 140) jIQ_161_139 rfl rfl rfl ?_
  refine jT_xgetf (a := 0) (t := 1) (ci := 13) (fi := 7) (c := jzQ_16) (v := (4, 9)) (pcN := 143) jIQ_161_140 rfl rfl rfl rfl rfl rfl rfl ?_
  refine jT_xiload (v := (0, 1)) (pcN := 145) jIQ_161_143 rfl rfl rfl ?_
  refine jT_lald (x := r7) (a := 9) (j := 1) (fs := []) (X := [q1, r7, r8, 0, 0, 0]) jIQ_161_145 rfl rfl rfl rfl ?_
  refine jT_eq (LN := [(7, (0, 1)), (5, (1, q1)), (0, (4, 0)), (1, (0, r7)), (2, (0, r8)), (3, (4, 1)), (4, (0, o4))]) (stN := [(1, r7), (1, 0), (0, 1), (4, 9)]) (hsN := [jzQ_16, (4, [(4, 13), (1, 1)], []), (8, [(4, 14), (4, 15)], []), jgh, jgh, jgh, jgh, jgh, jgh, (101, [], [q1, r7, r8, 0, 0, 0]), (101, [], [k10_0, k10_1, k10_2, k10_3, k10_4, k10_5]), jgh, jgh, (101, [], [0, 0, 0, 0, 0, 0]), jgh, jgh]) rfl rfl rfl ?_
  refine jT_xaload_n (v := (4, 1)) (pcN := 147) jIQ_161_146 rfl rfl rfl ?_
  refine jT_xgetf (a := 1) (t := 2) (ci := 4) (fi := 1) (c := (4, [(4, 13), (1, 1)], [])) (v := (1, 1)) (pcN := 150) jIQ_161_147 rfl rfl rfl rfl rfl rfl rfl ?_
  refine jT_xlmul (x := r7) (y := 1) (z := r7) (pcN := 151) jIQ_161_150 rfl (by omega) rfl ?_
  refine jT_xlsub (x := 0) (y := r7) (z := -r7) (pcN := 152) jIQ_161_151 rfl (by omega) rfl ?_
  refine jT_adv 1 (pcN := 153) (LN := [(7, (0, 1)), (5, (1, q1)), (0, (4, 0)), (1, (0, r7)), (2, (0, r8)), (3, (4, 1)), (4, (0, o4))]) (stN := []) (hsN := [jzQ_16, (4, [(4, 13), (1, 1)], []), (8, [(4, 14), (4, 15)], []), jgh, jgh, jgh, jgh, jgh, jgh, (101, [], [q1, -r7, r8, 0, 0, 0]), (101, [], [k10_0, k10_1, k10_2, k10_3, k10_4, k10_5]), jgh, jgh, (101, [], [0, 0, 0, 0, 0, 0]), jgh, jgh]) (c1 := 0) (s1 := 0) (c2 := 0) (s2 := 0) (by exact rfl) ?_ (by omega) (by omega)
  refine jT_xiinc (x := 1) (z := 2) (LN := [(7, (0, 2)), (5, (1, q1)), (0, (4, 0)), (1, (0, r7)), (2, (0, r8)), (3, (4, 1)), (4, (0, o4))]) (pcN := 156) jIQ_161_153 rfl rfl (by decide) rfl rfl ?_
  refine jT_xgoto (pcN := 119) jIQ_161_156 rfl ?_
  refine jT_xiload (v := (0, 2)) (pcN := 121) jIQ_161_119 rfl rfl rfl ?_
  refine jT_xbipush (k := 6) (pcN := 123) jIQ_161_121 (by decide) rfl ?_
  refine jT_xicF (t := 159) (pcN := 126) jIQ_161_123 rfl (by decide +kernel) rfl rfl ?_
  refine jT_xaload_n (v := (4, 0)) (pcN := 127) jIQ_161_126 rfl rfl rfl ?_
  refine jT_xgetf (a := 0) (t := 1) (ci := 13) (fi := 7) (c := jzQ_16) (v := (4, 9)) (pcN := 130) jIQ_161_127 rfl rfl rfl rfl rfl rfl rfl ?_
  refine jT_xiload (v := (0, 2)) (pcN := 132) jIQ_161_130 rfl rfl rfl ?_
  refine jT_xaload_n (v := (4, 1)) (pcN := 133) jIQ_161_132 rfl rfl rfl ?_
  refine jT_xgetf (a := 1) (t := 2) (ci := 4) (fi := 0) (c := (4, [(4, 13), (1, 1)], [])) (v := (4, 13)) (pcN := 136) jIQ_161_133 rfl rfl rfl rfl rfl rfl rfl ?_
  refine jT_xiload (v := (0, 2)) (pcN := 138) jIQ_161_136 rfl rfl rfl ?_
  refine jT_lald (x := 0) (a := 13) (j := 2) (fs := []) (X := [0, 0, 0, 0, 0, 0]) jIQ_161_138 rfl rfl rfl rfl ?_
  refine jT_eq (LN := [(7, (0, 2)), (5, (1, q1)), (0, (4, 0)), (1, (0, r7)), (2, (0, r8)), (3, (4, 1)), (4, (0, o4))]) (stN := [(1, 0), (0, 2), (4, 9)]) (hsN := [jzQ_16, (4, [(4, 13), (1, 1)], []), (8, [(4, 14), (4, 15)], []), jgh, jgh, jgh, jgh, jgh, jgh, (101, [], [q1, -r7, r8, 0, 0, 0]), (101, [], [k10_0, k10_1, k10_2, k10_3, k10_4, k10_5]), jgh, jgh, (101, [], [0, 0, 0, 0, 0, 0]), jgh, jgh]) rfl rfl rfl ?_
  refine jT_xaload_n (v := (4, 0)) (pcN := 140) jIQ_161_139 rfl rfl rfl ?_
  refine jT_xgetf (a := 0) (t := 1) (ci := 13) (fi := 7) (c := jzQ_16) (v := (4, 9)) (pcN := 143) jIQ_161_140 rfl rfl rfl rfl rfl rfl rfl ?_
  refine jT_xiload (v := (0, 2)) (pcN := 145) jIQ_161_143 rfl rfl rfl ?_
  refine jT_lald (x := r8) (a := 9) (j := 2) (fs := []) (X := [q1, -r7, r8, 0, 0, 0]) jIQ_161_145 rfl rfl rfl rfl ?_
  refine jT_eq (LN := [(7, (0, 2)), (5, (1, q1)), (0, (4, 0)), (1, (0, r7)), (2, (0, r8)), (3, (4, 1)), (4, (0, o4))]) (stN := [(1, r8), (1, 0), (0, 2), (4, 9)]) (hsN := [jzQ_16, (4, [(4, 13), (1, 1)], []), (8, [(4, 14), (4, 15)], []), jgh, jgh, jgh, jgh, jgh, jgh, (101, [], [q1, -r7, r8, 0, 0, 0]), (101, [], [k10_0, k10_1, k10_2, k10_3, k10_4, k10_5]), jgh, jgh, (101, [], [0, 0, 0, 0, 0, 0]), jgh, jgh]) rfl rfl rfl ?_
  refine jT_xaload_n (v := (4, 1)) (pcN := 147) jIQ_161_146 rfl rfl rfl ?_
  refine jT_xgetf (a := 1) (t := 2) (ci := 4) (fi := 1) (c := (4, [(4, 13), (1, 1)], [])) (v := (1, 1)) (pcN := 150) jIQ_161_147 rfl rfl rfl rfl rfl rfl rfl ?_
  refine jT_xlmul (x := r8) (y := 1) (z := r8) (pcN := 151) jIQ_161_150 rfl (by omega) rfl ?_
  refine jT_xlsub (x := 0) (y := r8) (z := -r8) (pcN := 152) jIQ_161_151 rfl (by omega) rfl ?_
  refine jT_adv 1 (pcN := 153) (LN := [(7, (0, 2)), (5, (1, q1)), (0, (4, 0)), (1, (0, r7)), (2, (0, r8)), (3, (4, 1)), (4, (0, o4))]) (stN := []) (hsN := [jzQ_16, (4, [(4, 13), (1, 1)], []), (8, [(4, 14), (4, 15)], []), jgh, jgh, jgh, jgh, jgh, jgh, (101, [], [q1, -r7, -r8, 0, 0, 0]), (101, [], [k10_0, k10_1, k10_2, k10_3, k10_4, k10_5]), jgh, jgh, (101, [], [0, 0, 0, 0, 0, 0]), jgh, jgh]) (c1 := 0) (s1 := 0) (c2 := 0) (s2 := 0) (by exact rfl) ?_ (by omega) (by omega)
  refine jT_xiinc (x := 2) (z := 3) (LN := [(7, (0, 3)), (5, (1, q1)), (0, (4, 0)), (1, (0, r7)), (2, (0, r8)), (3, (4, 1)), (4, (0, o4))]) (pcN := 156) jIQ_161_153 rfl rfl (by decide) rfl rfl ?_
  refine jT_xgoto (pcN := 119) jIQ_161_156 rfl ?_
  refine jT_xiload (v := (0, 3)) (pcN := 121) jIQ_161_119 rfl rfl rfl ?_
  refine jT_xbipush (k := 6) (pcN := 123) jIQ_161_121 (by decide) rfl ?_
  refine jT_xicF (t := 159) (pcN := 126) jIQ_161_123 rfl (by decide +kernel) rfl rfl ?_
  refine jT_xaload_n (v := (4, 0)) (pcN := 127) jIQ_161_126 rfl rfl rfl ?_
  refine jT_xgetf (a := 0) (t := 1) (ci := 13) (fi := 7) (c := jzQ_16) (v := (4, 9)) (pcN := 130) jIQ_161_127 rfl rfl rfl rfl rfl rfl rfl ?_
  refine jT_xiload (v := (0, 3)) (pcN := 132) jIQ_161_130 rfl rfl rfl ?_
  refine jT_xaload_n (v := (4, 1)) (pcN := 133) jIQ_161_132 rfl rfl rfl ?_
  refine jT_xgetf (a := 1) (t := 2) (ci := 4) (fi := 0) (c := (4, [(4, 13), (1, 1)], [])) (v := (4, 13)) (pcN := 136) jIQ_161_133 rfl rfl rfl rfl rfl rfl rfl ?_
  refine jT_xiload (v := (0, 3)) (pcN := 138) jIQ_161_136 rfl rfl rfl ?_
  refine jT_lald (x := 0) (a := 13) (j := 3) (fs := []) (X := [0, 0, 0, 0, 0, 0]) jIQ_161_138 rfl rfl rfl rfl ?_
  refine jT_eq (LN := [(7, (0, 3)), (5, (1, q1)), (0, (4, 0)), (1, (0, r7)), (2, (0, r8)), (3, (4, 1)), (4, (0, o4))]) (stN := [(1, 0), (0, 3), (4, 9)]) (hsN := [jzQ_16, (4, [(4, 13), (1, 1)], []), (8, [(4, 14), (4, 15)], []), jgh, jgh, jgh, jgh, jgh, jgh, (101, [], [q1, -r7, -r8, 0, 0, 0]), (101, [], [k10_0, k10_1, k10_2, k10_3, k10_4, k10_5]), jgh, jgh, (101, [], [0, 0, 0, 0, 0, 0]), jgh, jgh]) rfl rfl rfl ?_
  refine jT_xaload_n (v := (4, 0)) (pcN := 140) jIQ_161_139 rfl rfl rfl ?_
  refine jT_xgetf (a := 0) (t := 1) (ci := 13) (fi := 7) (c := jzQ_16) (v := (4, 9)) (pcN := 143) jIQ_161_140 rfl rfl rfl rfl rfl rfl rfl ?_
  refine jT_xiload (v := (0, 3)) (pcN := 145) jIQ_161_143 rfl rfl rfl ?_
  refine jT_lald (x := 0) (a := 9) (j := 3) (fs := []) (X := [q1, -r7, -r8, 0, 0, 0]) jIQ_161_145 rfl rfl rfl rfl ?_
  refine jT_eq (LN := [(7, (0, 3)), (5, (1, q1)), (0, (4, 0)), (1, (0, r7)), (2, (0, r8)), (3, (4, 1)), (4, (0, o4))]) (stN := [(1, 0), (1, 0), (0, 3), (4, 9)]) (hsN := [jzQ_16, (4, [(4, 13), (1, 1)], []), (8, [(4, 14), (4, 15)], []), jgh, jgh, jgh, jgh, jgh, jgh, (101, [], [q1, -r7, -r8, 0, 0, 0]), (101, [], [k10_0, k10_1, k10_2, k10_3, k10_4, k10_5]), jgh, jgh, (101, [], [0, 0, 0, 0, 0, 0]), jgh, jgh]) rfl rfl rfl ?_
  refine jT_xaload_n (v := (4, 1)) (pcN := 147) jIQ_161_146 rfl rfl rfl ?_
  refine jT_xgetf (a := 1) (t := 2) (ci := 4) (fi := 1) (c := (4, [(4, 13), (1, 1)], [])) (v := (1, 1)) (pcN := 150) jIQ_161_147 rfl rfl rfl rfl rfl rfl rfl ?_
  refine jT_xlmul (x := 0) (y := 1) (z := 0) (pcN := 151) jIQ_161_150 rfl (by decide) rfl ?_
  refine jT_xlsub (x := 0) (y := 0) (z := 0) (pcN := 152) jIQ_161_151 rfl (by decide) rfl ?_
  refine jT_adv 1 (pcN := 153) (LN := [(7, (0, 3)), (5, (1, q1)), (0, (4, 0)), (1, (0, r7)), (2, (0, r8)), (3, (4, 1)), (4, (0, o4))]) (stN := []) (hsN := [jzQ_16, (4, [(4, 13), (1, 1)], []), (8, [(4, 14), (4, 15)], []), jgh, jgh, jgh, jgh, jgh, jgh, (101, [], [q1, -r7, -r8, 0, 0, 0]), (101, [], [k10_0, k10_1, k10_2, k10_3, k10_4, k10_5]), jgh, jgh, (101, [], [0, 0, 0, 0, 0, 0]), jgh, jgh]) (c1 := 0) (s1 := 0) (c2 := 0) (s2 := 0) (by exact rfl) ?_ (by omega) (by omega)
  refine jT_xiinc (x := 3) (z := 4) (LN := [(7, (0, 4)), (5, (1, q1)), (0, (4, 0)), (1, (0, r7)), (2, (0, r8)), (3, (4, 1)), (4, (0, o4))]) (pcN := 156) jIQ_161_153 rfl rfl (by decide) rfl rfl ?_
  refine jT_xgoto (pcN := 119) jIQ_161_156 rfl ?_
  refine jT_xiload (v := (0, 4)) (pcN := 121) jIQ_161_119 rfl rfl rfl ?_
  refine jT_xbipush (k := 6) (pcN := 123) jIQ_161_121 (by decide) rfl ?_
  refine jT_xicF (t := 159) (pcN := 126) jIQ_161_123 rfl (by decide +kernel) rfl rfl ?_
  refine jT_xaload_n (v := (4, 0)) (pcN := 127) jIQ_161_126 rfl rfl rfl ?_
  refine jT_xgetf (a := 0) (t := 1) (ci := 13) (fi := 7) (c := jzQ_16) (v := (4, 9)) (pcN := 130) jIQ_161_127 rfl rfl rfl rfl rfl rfl rfl ?_
  refine jT_xiload (v := (0, 4)) (pcN := 132) jIQ_161_130 rfl rfl rfl ?_
  refine jT_xaload_n (v := (4, 1)) (pcN := 133) jIQ_161_132 rfl rfl rfl ?_
  refine jT_xgetf (a := 1) (t := 2) (ci := 4) (fi := 0) (c := (4, [(4, 13), (1, 1)], [])) (v := (4, 13)) (pcN := 136) jIQ_161_133 rfl rfl rfl rfl rfl rfl rfl ?_
  refine jT_xiload (v := (0, 4)) (pcN := 138) jIQ_161_136 rfl rfl rfl ?_
  refine jT_lald (x := 0) (a := 13) (j := 4) (fs := []) (X := [0, 0, 0, 0, 0, 0]) jIQ_161_138 rfl rfl rfl rfl ?_
  refine jT_eq (LN := [(7, (0, 4)), (5, (1, q1)), (0, (4, 0)), (1, (0, r7)), (2, (0, r8)), (3, (4, 1)), (4, (0, o4))]) (stN := [(1, 0), (0, 4), (4, 9)]) (hsN := [jzQ_16, (4, [(4, 13), (1, 1)], []), (8, [(4, 14), (4, 15)], []), jgh, jgh, jgh, jgh, jgh, jgh, (101, [], [q1, -r7, -r8, 0, 0, 0]), (101, [], [k10_0, k10_1, k10_2, k10_3, k10_4, k10_5]), jgh, jgh, (101, [], [0, 0, 0, 0, 0, 0]), jgh, jgh]) rfl rfl rfl ?_
  refine jT_xaload_n (v := (4, 0)) (pcN := 140) jIQ_161_139 rfl rfl rfl ?_
  refine jT_xgetf (a := 0) (t := 1) (ci := 13) (fi := 7) (c := jzQ_16) (v := (4, 9)) (pcN := 143) jIQ_161_140 rfl rfl rfl rfl rfl rfl rfl ?_
  refine jT_xiload (v := (0, 4)) (pcN := 145) jIQ_161_143 rfl rfl rfl ?_
  refine jT_lald (x := 0) (a := 9) (j := 4) (fs := []) (X := [q1, -r7, -r8, 0, 0, 0]) jIQ_161_145 rfl rfl rfl rfl ?_
  refine jT_eq (LN := [(7, (0, 4)), (5, (1, q1)), (0, (4, 0)), (1, (0, r7)), (2, (0, r8)), (3, (4, 1)), (4, (0, o4))]) (stN := [(1, 0), (1, 0), (0, 4), (4, 9)]) (hsN := [jzQ_16, (4, [(4, 13), (1, 1)], []), (8, [(4, 14), (4, 15)], []), jgh, jgh, jgh, jgh, jgh, jgh, (101, [], [q1, -r7, -r8, 0, 0, 0]), (101, [], [k10_0, k10_1, k10_2, k10_3, k10_4, k10_5]), jgh, jgh, (101, [], [0, 0, 0, 0, 0, 0]), jgh, jgh]) rfl rfl rfl ?_
  refine jT_xaload_n (v := (4, 1)) (pcN := 147) jIQ_161_146 rfl rfl rfl ?_
  refine jT_xgetf (a := 1) (t := 2) (ci := 4) (fi := 1) (c := (4, [(4, 13), (1, 1)], [])) (v := (1, 1)) (pcN := 150) jIQ_161_147 rfl rfl rfl rfl rfl rfl rfl ?_
  refine jT_xlmul (x := 0) (y := 1) (z := 0) (pcN := 151) jIQ_161_150 rfl (by decide) rfl ?_
  refine jT_xlsub (x := 0) (y := 0) (z := 0) (pcN := 152) jIQ_161_151 rfl (by decide) rfl ?_
  refine jT_adv 1 (pcN := 153) (LN := [(7, (0, 4)), (5, (1, q1)), (0, (4, 0)), (1, (0, r7)), (2, (0, r8)), (3, (4, 1)), (4, (0, o4))]) (stN := []) (hsN := [jzQ_16, (4, [(4, 13), (1, 1)], []), (8, [(4, 14), (4, 15)], []), jgh, jgh, jgh, jgh, jgh, jgh, (101, [], [q1, -r7, -r8, 0, 0, 0]), (101, [], [k10_0, k10_1, k10_2, k10_3, k10_4, k10_5]), jgh, jgh, (101, [], [0, 0, 0, 0, 0, 0]), jgh, jgh]) (c1 := 0) (s1 := 0) (c2 := 0) (s2 := 0) (by exact rfl) ?_ (by omega) (by omega)
  refine jT_xiinc (x := 4) (z := 5) (LN := [(7, (0, 5)), (5, (1, q1)), (0, (4, 0)), (1, (0, r7)), (2, (0, r8)), (3, (4, 1)), (4, (0, o4))]) (pcN := 156) jIQ_161_153 rfl rfl (by decide) rfl rfl ?_
  refine jT_xgoto (pcN := 119) jIQ_161_156 rfl ?_
  refine jT_xiload (v := (0, 5)) (pcN := 121) jIQ_161_119 rfl rfl rfl ?_
  refine jT_xbipush (k := 6) (pcN := 123) jIQ_161_121 (by decide) rfl ?_
  refine jT_xicF (t := 159) (pcN := 126) jIQ_161_123 rfl (by decide +kernel) rfl rfl ?_
  refine jT_xaload_n (v := (4, 0)) (pcN := 127) jIQ_161_126 rfl rfl rfl ?_
  refine jT_xgetf (a := 0) (t := 1) (ci := 13) (fi := 7) (c := jzQ_16) (v := (4, 9)) (pcN := 130) jIQ_161_127 rfl rfl rfl rfl rfl rfl rfl ?_
  refine jT_xiload (v := (0, 5)) (pcN := 132) jIQ_161_130 rfl rfl rfl ?_
  refine jT_xaload_n (v := (4, 1)) (pcN := 133) jIQ_161_132 rfl rfl rfl ?_
  refine jT_xgetf (a := 1) (t := 2) (ci := 4) (fi := 0) (c := (4, [(4, 13), (1, 1)], [])) (v := (4, 13)) (pcN := 136) jIQ_161_133 rfl rfl rfl rfl rfl rfl rfl ?_
  refine jT_xiload (v := (0, 5)) (pcN := 138) jIQ_161_136 rfl rfl rfl ?_
  refine jT_lald (x := 0) (a := 13) (j := 5) (fs := []) (X := [0, 0, 0, 0, 0, 0]) jIQ_161_138 rfl rfl rfl rfl ?_
  refine jT_eq (LN := [(7, (0, 5)), (5, (1, q1)), (0, (4, 0)), (1, (0, r7)), (2, (0, r8)), (3, (4, 1)), (4, (0, o4))]) (stN := [(1, 0), (0, 5), (4, 9)]) (hsN := [jzQ_16, (4, [(4, 13), (1, 1)], []), (8, [(4, 14), (4, 15)], []), jgh, jgh, jgh, jgh, jgh, jgh, (101, [], [q1, -r7, -r8, 0, 0, 0]), (101, [], [k10_0, k10_1, k10_2, k10_3, k10_4, k10_5]), jgh, jgh, (101, [], [0, 0, 0, 0, 0, 0]), jgh, jgh]) rfl rfl rfl ?_
  refine jT_xaload_n (v := (4, 0)) (pcN := 140) jIQ_161_139 rfl rfl rfl ?_
  refine jT_xgetf (a := 0) (t := 1) (ci := 13) (fi := 7) (c := jzQ_16) (v := (4, 9)) (pcN := 143) jIQ_161_140 rfl rfl rfl rfl rfl rfl rfl ?_
  refine jT_xiload (v := (0, 5)) (pcN := 145) jIQ_161_143 rfl rfl rfl ?_
  refine jT_lald (x := 0) (a := 9) (j := 5) (fs := []) (X := [q1, -r7, -r8, 0, 0, 0]) jIQ_161_145 rfl rfl rfl rfl ?_
  refine jT_eq (LN := [(7, (0, 5)), (5, (1, q1)), (0, (4, 0)), (1, (0, r7)), (2, (0, r8)), (3, (4, 1)), (4, (0, o4))]) (stN := [(1, 0), (1, 0), (0, 5), (4, 9)]) (hsN := [jzQ_16, (4, [(4, 13), (1, 1)], []), (8, [(4, 14), (4, 15)], []), jgh, jgh, jgh, jgh, jgh, jgh, (101, [], [q1, -r7, -r8, 0, 0, 0]), (101, [], [k10_0, k10_1, k10_2, k10_3, k10_4, k10_5]), jgh, jgh, (101, [], [0, 0, 0, 0, 0, 0]), jgh, jgh]) rfl rfl rfl ?_
  refine jT_xaload_n (v := (4, 1)) (pcN := 147) jIQ_161_146 rfl rfl rfl ?_
  refine jT_xgetf (a := 1) (t := 2) (ci := 4) (fi := 1) (c := (4, [(4, 13), (1, 1)], [])) (v := (1, 1)) (pcN := 150) jIQ_161_147 rfl rfl rfl rfl rfl rfl rfl ?_
  refine jT_xlmul (x := 0) (y := 1) (z := 0) (pcN := 151) jIQ_161_150 rfl (by decide) rfl ?_
  refine jT_xlsub (x := 0) (y := 0) (z := 0) (pcN := 152) jIQ_161_151 rfl (by decide) rfl ?_
  refine jT_adv 1 (pcN := 153) (LN := [(7, (0, 5)), (5, (1, q1)), (0, (4, 0)), (1, (0, r7)), (2, (0, r8)), (3, (4, 1)), (4, (0, o4))]) (stN := []) (hsN := [jzQ_16, (4, [(4, 13), (1, 1)], []), (8, [(4, 14), (4, 15)], []), jgh, jgh, jgh, jgh, jgh, jgh, (101, [], [q1, -r7, -r8, 0, 0, 0]), (101, [], [k10_0, k10_1, k10_2, k10_3, k10_4, k10_5]), jgh, jgh, (101, [], [0, 0, 0, 0, 0, 0]), jgh, jgh]) (c1 := 0) (s1 := 0) (c2 := 0) (s2 := 0) (by exact rfl) ?_ (by omega) (by omega)
  refine jT_xiinc (x := 5) (z := 6) (LN := [(7, (0, 6)), (5, (1, q1)), (0, (4, 0)), (1, (0, r7)), (2, (0, r8)), (3, (4, 1)), (4, (0, o4))]) (pcN := 156) jIQ_161_153 rfl rfl (by decide) rfl rfl ?_
  refine jT_xgoto (pcN := 119) jIQ_161_156 rfl ?_
  refine jT_xiload (v := (0, 6)) (pcN := 121) jIQ_161_119 rfl rfl rfl ?_
  refine jT_xbipush (k := 6) (pcN := 123) jIQ_161_121 (by decide) rfl ?_
  refine jT_xicT (pcN := 159) jIQ_161_123 rfl (by decide +kernel) rfl ?_
  refine jT_xaload_n (v := (4, 0)) (pcN := 160) jIQ_161_159 rfl rfl rfl ?_
  refine jT_xgetf (a := 0) (t := 1) (ci := 13) (fi := 0) (c := jzQ_16) (v := (4, 2)) (pcN := 163) jIQ_161_160 rfl rfl rfl rfl rfl rfl rfl ?_
  refine jT_xaload_n (v := (4, 0)) (pcN := 164) jIQ_161_163 rfl rfl rfl ?_
  refine jT_xgetf (a := 0) (t := 1) (ci := 13) (fi := 7) (c := jzQ_16) (v := (4, 9)) (pcN := 167) jIQ_161_164 rfl rfl rfl rfl rfl rfl rfl ?_
  refine jT_callA [2, 9, 14, 15] (y := 38) (pcN := 170) (dC := 1) (bc1 := 0) (bc2 := 0) (c1 := 0) (c2 := 0) (as := [(4, 2), (4, 9)]) (asC := [(4, 0), (4, 1)]) (LN := [(7, (0, 6)), (5, (1, q1)), (0, (4, 0)), (1, (0, r7)), (2, (0, r8)), (3, (4, 1)), (4, (0, o4))]) (stN := []) (hsC := [(8, [(4, 2), (4, 3)], []), (101, [], [q1, -r7, -r8, 0, 0, 0]), jgh, jgh]) (ex := []) (v := (0, (-1))) (st2 := [(0, (-1))]) (hs2 := [jzQ_16, (4, [(4, 13), (1, 1)], []), (8, [(4, 14), (4, 15)], []), jgh, jgh, jgh, jgh, jgh, jgh, (101, [], [q1, -r7, -r8, 0, 0, 0]), (101, [], [k10_0, k10_1, k10_2, k10_3, k10_4, k10_5]), jgh, jgh, (101, [], [0, 0, 0, 0, 0, 0]), jgh, jgh]) (jQl_sp38_117 (d := 0) (by omega) (by omega) (by omega) (by omega) (by omega) (by omega) (by omega)) (by rfl) (by rfl) (by rfl) (by rfl) ⟨rfl, rfl, rfl, rfl, trivial⟩ (by rfl) (by rfl) (by omega) (by show 16 ≤ 16; omega) (by omega) (by omega) rfl rfl ?_
  refine jT_xifT (pcN := 177) jIQ_161_170 rfl (by decide +kernel) rfl ?_
  refine jT_xiconst (k := 0) (pcN := 178) jIQ_161_177 rfl ?_
  subst hq_q4
  subst hq_q3
  subst hq_q2
  subst hq_q1
  exact jT_ret rfl (by decide) (by show 16 ≤ 16; omega) (by omega) (by omega) ⟨rfl, rfl, rfl⟩
theorem jQ_161_251 {xs : List Int} {d : Nat} {k10_0 k10_1 k10_2 k10_3 k10_4 k10_5 o4 r7 r8 u9_0 u9_1 u9_2 u9_3 u9_4 u9_5 : Int} (h_k10_0 : 1 ≤ k10_0 ∧ k10_0 ≤ 100) (h_k10_1 : 2 ≤ k10_1 ∧ k10_1 ≤ 158) (h_k10_2 : 2 ≤ k10_2 ∧ k10_2 ≤ 232) (h_k10_3 : 3 ≤ k10_3 ∧ k10_3 ≤ 281) (h_k10_4 : 3 ≤ k10_4 ∧ k10_4 ≤ 346) (h_k10_5 : 4 ≤ k10_5 ∧ k10_5 ≤ 370) (h_o4 : 1 ≤ o4 ∧ o4 ≤ 100) (h_r7 : (-20) ≤ r7 ∧ r7 ≤ 20) (h_r8 : (-10) ≤ r8 ∧ r8 ≤ 10) (g_0 : 0 < r7) (g_1 : 0 ≤ -(((108917793695 * r7 + 159561683699 * r8) / 68719476736) * o4) + (r7 * k10_1) + (r8 * k10_2) - 1) : jT xs (d + 2) 161 15 0 [(0, (4, 0)), (1, (0, r7)), (2, (0, r8)), (3, (4, 1)), (4, (0, o4))] [] [jzQ_16, jgh, (8, [(4, 13), (4, 14)], []), jgh, jgh, jgh, jgh, jgh, jgh, (101, [], [u9_0, u9_1, u9_2, u9_3, u9_4, u9_5]), (101, [], [k10_0, k10_1, k10_2, k10_3, k10_4, k10_5]), jgh, jgh, jgh, jgh] 0 0 (fun k v hsN => k = 0 ∧ v = (0, 0) ∧ hsN = [jzQ_16, jgh, (8, [(4, 13), (4, 14)], []), jgh, jgh, jgh, jgh, jgh, jgh, (101, [], [0, r7, r8, 0, 0, 0]), (101, [], [k10_0, k10_1, k10_2, k10_3, k10_4, k10_5]), jgh, jgh, jgh, jgh]) := by
  refine jT_xiload_n (v := (0, r7)) (pcN := 1) jIQ_161_0 rfl rfl rfl ?_
  refine jT_ifT (a := r7) (t := 10) (by rfl) (by rfl) (by rfl) (jw_idd (by omega) (by omega)) (by simp only [jcP] <;> omega) ?_
  refine jT_xiconst (k := 0) (pcN := 11) jIQ_161_10 rfl ?_
  refine jT_xistore (v := (0, 0)) (LN := [(5, (0, 0)), (0, (4, 0)), (1, (0, r7)), (2, (0, r8)), (3, (4, 1)), (4, (0, o4))]) (pcN := 13) jIQ_161_11 rfl rfl rfl rfl ?_
  refine jT_xiload (v := (0, 0)) (pcN := 15) jIQ_161_13 rfl rfl rfl ?_
  refine jT_xbipush (k := 6) (pcN := 17) jIQ_161_15 (by decide) rfl ?_
  refine jT_xicF (t := 56) (pcN := 20) jIQ_161_17 rfl (by decide +kernel) rfl rfl ?_
  refine jT_xaload_n (v := (4, 0)) (pcN := 21) jIQ_161_20 rfl rfl rfl ?_
  refine jT_xgetf (a := 0) (t := 1) (ci := 13) (fi := 7) (c := jzQ_16) (v := (4, 9)) (pcN := 24) jIQ_161_21 rfl rfl rfl rfl rfl rfl rfl ?_
  refine jT_xiload (v := (0, 0)) (pcN := 26) jIQ_161_24 rfl rfl rfl ?_
  refine jT_xiload (v := (0, 0)) (pcN := 28) jIQ_161_26 rfl rfl rfl ?_
  refine jT_xiconst (k := 1) (pcN := 29) jIQ_161_28 rfl ?_
  refine jT_xicT (pcN := 37) jIQ_161_29 rfl (by decide +kernel) rfl ?_
  refine jT_xiload (v := (0, 0)) (pcN := 39) jIQ_161_37 rfl rfl rfl ?_
  refine jT_xiconst (k := 2) (pcN := 40) jIQ_161_39 rfl ?_
  refine jT_xicT (pcN := 48) jIQ_161_40 rfl (by decide +kernel) rfl ?_
  refine jT_xlconst (z := 0) (pcN := 49) jIQ_161_48 rfl rfl ?_
  refine jT_adv 1 (pcN := 50) (LN := [(5, (0, 0)), (0, (4, 0)), (1, (0, r7)), (2, (0, r8)), (3, (4, 1)), (4, (0, o4))]) (stN := []) (hsN := [jzQ_16, jgh, (8, [(4, 13), (4, 14)], []), jgh, jgh, jgh, jgh, jgh, jgh, (101, [], [0, u9_1, u9_2, u9_3, u9_4, u9_5]), (101, [], [k10_0, k10_1, k10_2, k10_3, k10_4, k10_5]), jgh, jgh, jgh, jgh]) (c1 := 0) (s1 := 0) (c2 := 0) (s2 := 0) (by exact rfl) ?_ (by omega) (by omega)
  refine jT_xiinc (x := 0) (z := 1) (LN := [(5, (0, 1)), (0, (4, 0)), (1, (0, r7)), (2, (0, r8)), (3, (4, 1)), (4, (0, o4))]) (pcN := 53) jIQ_161_50 rfl rfl (by decide) rfl rfl ?_
  refine jT_xgoto (pcN := 13) jIQ_161_53 rfl ?_
  refine jT_xiload (v := (0, 1)) (pcN := 15) jIQ_161_13 rfl rfl rfl ?_
  refine jT_xbipush (k := 6) (pcN := 17) jIQ_161_15 (by decide) rfl ?_
  refine jT_xicF (t := 56) (pcN := 20) jIQ_161_17 rfl (by decide +kernel) rfl rfl ?_
  refine jT_xaload_n (v := (4, 0)) (pcN := 21) jIQ_161_20 rfl rfl rfl ?_
  refine jT_xgetf (a := 0) (t := 1) (ci := 13) (fi := 7) (c := jzQ_16) (v := (4, 9)) (pcN := 24) jIQ_161_21 rfl rfl rfl rfl rfl rfl rfl ?_
  refine jT_xiload (v := (0, 1)) (pcN := 26) jIQ_161_24 rfl rfl rfl ?_
  refine jT_xiload (v := (0, 1)) (pcN := 28) jIQ_161_26 rfl rfl rfl ?_
  refine jT_xiconst (k := 1) (pcN := 29) jIQ_161_28 rfl ?_
  refine jT_xicF (t := 37) (pcN := 32) jIQ_161_29 rfl (by decide +kernel) rfl rfl ?_
  refine jT_xiload_n (v := (0, r7)) (pcN := 33) jIQ_161_32 rfl rfl rfl ?_
  refine jT_xi2l (x := r7) (z := r7) (pcN := 34) jIQ_161_33 rfl (jw_idd (by omega) (by omega)) rfl ?_
  refine jT_xgoto (pcN := 49) jIQ_161_34 rfl ?_
  refine jT_adv 1 (pcN := 50) (LN := [(5, (0, 1)), (0, (4, 0)), (1, (0, r7)), (2, (0, r8)), (3, (4, 1)), (4, (0, o4))]) (stN := []) (hsN := [jzQ_16, jgh, (8, [(4, 13), (4, 14)], []), jgh, jgh, jgh, jgh, jgh, jgh, (101, [], [0, r7, u9_2, u9_3, u9_4, u9_5]), (101, [], [k10_0, k10_1, k10_2, k10_3, k10_4, k10_5]), jgh, jgh, jgh, jgh]) (c1 := 0) (s1 := 0) (c2 := 0) (s2 := 0) (by exact rfl) ?_ (by omega) (by omega)
  refine jT_xiinc (x := 1) (z := 2) (LN := [(5, (0, 2)), (0, (4, 0)), (1, (0, r7)), (2, (0, r8)), (3, (4, 1)), (4, (0, o4))]) (pcN := 53) jIQ_161_50 rfl rfl (by decide) rfl rfl ?_
  refine jT_xgoto (pcN := 13) jIQ_161_53 rfl ?_
  refine jT_xiload (v := (0, 2)) (pcN := 15) jIQ_161_13 rfl rfl rfl ?_
  refine jT_xbipush (k := 6) (pcN := 17) jIQ_161_15 (by decide) rfl ?_
  refine jT_xicF (t := 56) (pcN := 20) jIQ_161_17 rfl (by decide +kernel) rfl rfl ?_
  refine jT_xaload_n (v := (4, 0)) (pcN := 21) jIQ_161_20 rfl rfl rfl ?_
  refine jT_xgetf (a := 0) (t := 1) (ci := 13) (fi := 7) (c := jzQ_16) (v := (4, 9)) (pcN := 24) jIQ_161_21 rfl rfl rfl rfl rfl rfl rfl ?_
  refine jT_xiload (v := (0, 2)) (pcN := 26) jIQ_161_24 rfl rfl rfl ?_
  refine jT_xiload (v := (0, 2)) (pcN := 28) jIQ_161_26 rfl rfl rfl ?_
  refine jT_xiconst (k := 1) (pcN := 29) jIQ_161_28 rfl ?_
  refine jT_xicT (pcN := 37) jIQ_161_29 rfl (by decide +kernel) rfl ?_
  refine jT_xiload (v := (0, 2)) (pcN := 39) jIQ_161_37 rfl rfl rfl ?_
  refine jT_xiconst (k := 2) (pcN := 40) jIQ_161_39 rfl ?_
  refine jT_xicF (t := 48) (pcN := 43) jIQ_161_40 rfl (by decide +kernel) rfl rfl ?_
  refine jT_xiload_n (v := (0, r8)) (pcN := 44) jIQ_161_43 rfl rfl rfl ?_
  refine jT_xi2l (x := r8) (z := r8) (pcN := 45) jIQ_161_44 rfl (jw_idd (by omega) (by omega)) rfl ?_
  refine jT_xgoto (pcN := 49) jIQ_161_45 rfl ?_
  refine jT_adv 1 (pcN := 50) (LN := [(5, (0, 2)), (0, (4, 0)), (1, (0, r7)), (2, (0, r8)), (3, (4, 1)), (4, (0, o4))]) (stN := []) (hsN := [jzQ_16, jgh, (8, [(4, 13), (4, 14)], []), jgh, jgh, jgh, jgh, jgh, jgh, (101, [], [0, r7, r8, u9_3, u9_4, u9_5]), (101, [], [k10_0, k10_1, k10_2, k10_3, k10_4, k10_5]), jgh, jgh, jgh, jgh]) (c1 := 0) (s1 := 0) (c2 := 0) (s2 := 0) (by exact rfl) ?_ (by omega) (by omega)
  refine jT_xiinc (x := 2) (z := 3) (LN := [(5, (0, 3)), (0, (4, 0)), (1, (0, r7)), (2, (0, r8)), (3, (4, 1)), (4, (0, o4))]) (pcN := 53) jIQ_161_50 rfl rfl (by decide) rfl rfl ?_
  refine jT_xgoto (pcN := 13) jIQ_161_53 rfl ?_
  refine jT_xiload (v := (0, 3)) (pcN := 15) jIQ_161_13 rfl rfl rfl ?_
  refine jT_xbipush (k := 6) (pcN := 17) jIQ_161_15 (by decide) rfl ?_
  refine jT_xicF (t := 56) (pcN := 20) jIQ_161_17 rfl (by decide +kernel) rfl rfl ?_
  refine jT_xaload_n (v := (4, 0)) (pcN := 21) jIQ_161_20 rfl rfl rfl ?_
  refine jT_xgetf (a := 0) (t := 1) (ci := 13) (fi := 7) (c := jzQ_16) (v := (4, 9)) (pcN := 24) jIQ_161_21 rfl rfl rfl rfl rfl rfl rfl ?_
  refine jT_xiload (v := (0, 3)) (pcN := 26) jIQ_161_24 rfl rfl rfl ?_
  refine jT_xiload (v := (0, 3)) (pcN := 28) jIQ_161_26 rfl rfl rfl ?_
  refine jT_xiconst (k := 1) (pcN := 29) jIQ_161_28 rfl ?_
  refine jT_xicT (pcN := 37) jIQ_161_29 rfl (by decide +kernel) rfl ?_
  refine jT_xiload (v := (0, 3)) (pcN := 39) jIQ_161_37 rfl rfl rfl ?_
  refine jT_xiconst (k := 2) (pcN := 40) jIQ_161_39 rfl ?_
  refine jT_xicT (pcN := 48) jIQ_161_40 rfl (by decide +kernel) rfl ?_
  refine jT_xlconst (z := 0) (pcN := 49) jIQ_161_48 rfl rfl ?_
  refine jT_adv 1 (pcN := 50) (LN := [(5, (0, 3)), (0, (4, 0)), (1, (0, r7)), (2, (0, r8)), (3, (4, 1)), (4, (0, o4))]) (stN := []) (hsN := [jzQ_16, jgh, (8, [(4, 13), (4, 14)], []), jgh, jgh, jgh, jgh, jgh, jgh, (101, [], [0, r7, r8, 0, u9_4, u9_5]), (101, [], [k10_0, k10_1, k10_2, k10_3, k10_4, k10_5]), jgh, jgh, jgh, jgh]) (c1 := 0) (s1 := 0) (c2 := 0) (s2 := 0) (by exact rfl) ?_ (by omega) (by omega)
  refine jT_xiinc (x := 3) (z := 4) (LN := [(5, (0, 4)), (0, (4, 0)), (1, (0, r7)), (2, (0, r8)), (3, (4, 1)), (4, (0, o4))]) (pcN := 53) jIQ_161_50 rfl rfl (by decide) rfl rfl ?_
  refine jT_xgoto (pcN := 13) jIQ_161_53 rfl ?_
  refine jT_xiload (v := (0, 4)) (pcN := 15) jIQ_161_13 rfl rfl rfl ?_
  refine jT_xbipush (k := 6) (pcN := 17) jIQ_161_15 (by decide) rfl ?_
  refine jT_xicF (t := 56) (pcN := 20) jIQ_161_17 rfl (by decide +kernel) rfl rfl ?_
  refine jT_xaload_n (v := (4, 0)) (pcN := 21) jIQ_161_20 rfl rfl rfl ?_
  refine jT_xgetf (a := 0) (t := 1) (ci := 13) (fi := 7) (c := jzQ_16) (v := (4, 9)) (pcN := 24) jIQ_161_21 rfl rfl rfl rfl rfl rfl rfl ?_
  refine jT_xiload (v := (0, 4)) (pcN := 26) jIQ_161_24 rfl rfl rfl ?_
  refine jT_xiload (v := (0, 4)) (pcN := 28) jIQ_161_26 rfl rfl rfl ?_
  refine jT_xiconst (k := 1) (pcN := 29) jIQ_161_28 rfl ?_
  refine jT_xicT (pcN := 37) jIQ_161_29 rfl (by decide +kernel) rfl ?_
  refine jT_xiload (v := (0, 4)) (pcN := 39) jIQ_161_37 rfl rfl rfl ?_
  refine jT_xiconst (k := 2) (pcN := 40) jIQ_161_39 rfl ?_
  refine jT_xicT (pcN := 48) jIQ_161_40 rfl (by decide +kernel) rfl ?_
  refine jT_xlconst (z := 0) (pcN := 49) jIQ_161_48 rfl rfl ?_
  refine jT_adv 1 (pcN := 50) (LN := [(5, (0, 4)), (0, (4, 0)), (1, (0, r7)), (2, (0, r8)), (3, (4, 1)), (4, (0, o4))]) (stN := []) (hsN := [jzQ_16, jgh, (8, [(4, 13), (4, 14)], []), jgh, jgh, jgh, jgh, jgh, jgh, (101, [], [0, r7, r8, 0, 0, u9_5]), (101, [], [k10_0, k10_1, k10_2, k10_3, k10_4, k10_5]), jgh, jgh, jgh, jgh]) (c1 := 0) (s1 := 0) (c2 := 0) (s2 := 0) (by exact rfl) ?_ (by omega) (by omega)
  refine jT_xiinc (x := 4) (z := 5) (LN := [(5, (0, 5)), (0, (4, 0)), (1, (0, r7)), (2, (0, r8)), (3, (4, 1)), (4, (0, o4))]) (pcN := 53) jIQ_161_50 rfl rfl (by decide) rfl rfl ?_
  refine jT_xgoto (pcN := 13) jIQ_161_53 rfl ?_
  refine jT_xiload (v := (0, 5)) (pcN := 15) jIQ_161_13 rfl rfl rfl ?_
  refine jT_xbipush (k := 6) (pcN := 17) jIQ_161_15 (by decide) rfl ?_
  refine jT_xicF (t := 56) (pcN := 20) jIQ_161_17 rfl (by decide +kernel) rfl rfl ?_
  refine jT_xaload_n (v := (4, 0)) (pcN := 21) jIQ_161_20 rfl rfl rfl ?_
  refine jT_xgetf (a := 0) (t := 1) (ci := 13) (fi := 7) (c := jzQ_16) (v := (4, 9)) (pcN := 24) jIQ_161_21 rfl rfl rfl rfl rfl rfl rfl ?_
  refine jT_xiload (v := (0, 5)) (pcN := 26) jIQ_161_24 rfl rfl rfl ?_
  refine jT_xiload (v := (0, 5)) (pcN := 28) jIQ_161_26 rfl rfl rfl ?_
  refine jT_xiconst (k := 1) (pcN := 29) jIQ_161_28 rfl ?_
  refine jT_xicT (pcN := 37) jIQ_161_29 rfl (by decide +kernel) rfl ?_
  refine jT_xiload (v := (0, 5)) (pcN := 39) jIQ_161_37 rfl rfl rfl ?_
  refine jT_xiconst (k := 2) (pcN := 40) jIQ_161_39 rfl ?_
  refine jT_xicT (pcN := 48) jIQ_161_40 rfl (by decide +kernel) rfl ?_
  refine jT_xlconst (z := 0) (pcN := 49) jIQ_161_48 rfl rfl ?_
  refine jT_adv 1 (pcN := 50) (LN := [(5, (0, 5)), (0, (4, 0)), (1, (0, r7)), (2, (0, r8)), (3, (4, 1)), (4, (0, o4))]) (stN := []) (hsN := [jzQ_16, jgh, (8, [(4, 13), (4, 14)], []), jgh, jgh, jgh, jgh, jgh, jgh, (101, [], [0, r7, r8, 0, 0, 0]), (101, [], [k10_0, k10_1, k10_2, k10_3, k10_4, k10_5]), jgh, jgh, jgh, jgh]) (c1 := 0) (s1 := 0) (c2 := 0) (s2 := 0) (by exact rfl) ?_ (by omega) (by omega)
  refine jT_xiinc (x := 5) (z := 6) (LN := [(5, (0, 6)), (0, (4, 0)), (1, (0, r7)), (2, (0, r8)), (3, (4, 1)), (4, (0, o4))]) (pcN := 53) jIQ_161_50 rfl rfl (by decide) rfl rfl ?_
  refine jT_xgoto (pcN := 13) jIQ_161_53 rfl ?_
  refine jT_xiload (v := (0, 6)) (pcN := 15) jIQ_161_13 rfl rfl rfl ?_
  refine jT_xbipush (k := 6) (pcN := 17) jIQ_161_15 (by decide) rfl ?_
  refine jT_xicT (pcN := 56) jIQ_161_17 rfl (by decide +kernel) rfl ?_
  refine jT_xaload_n (v := (4, 0)) (pcN := 57) jIQ_161_56 rfl rfl rfl ?_
  refine jT_xgetf (a := 0) (t := 1) (ci := 13) (fi := 0) (c := jzQ_16) (v := (4, 2)) (pcN := 60) jIQ_161_57 rfl rfl rfl rfl rfl rfl rfl ?_
  refine jT_xaload_n (v := (4, 0)) (pcN := 61) jIQ_161_60 rfl rfl rfl ?_
  refine jT_xgetf (a := 0) (t := 1) (ci := 13) (fi := 7) (c := jzQ_16) (v := (4, 9)) (pcN := 64) jIQ_161_61 rfl rfl rfl rfl rfl rfl rfl ?_
  refine jT_xlconst (z := 1) (pcN := 65) jIQ_161_64 rfl rfl ?_
  refine jT_xlconst (z := 1) (pcN := 66) jIQ_161_65 rfl rfl ?_
  refine jT_callA [2, 9, 13, 14] (y := 45) (pcN := 69) (dC := 1) (bc1 := 0) (bc2 := 0) (c1 := 0) (c2 := 0) (as := [(4, 2), (4, 9), (1, 1), (1, 1)]) (asC := [(4, 0), (4, 1), (1, 1), (1, 1)]) (LN := [(5, (0, 6)), (0, (4, 0)), (1, (0, r7)), (2, (0, r8)), (3, (4, 1)), (4, (0, o4))]) (stN := []) (hsC := [(8, [(4, 2), (4, 3)], []), (101, [], [0, r7, r8, 0, 0, 0]), jgh, jgh]) (ex := []) (v := (1, (108917793695 * r7 + 159561683699 * r8) / 68719476736)) (st2 := [(1, (108917793695 * r7 + 159561683699 * r8) / 68719476736)]) (hs2 := [jzQ_16, jgh, (8, [(4, 13), (4, 14)], []), jgh, jgh, jgh, jgh, jgh, jgh, (101, [], [0, r7, r8, 0, 0, 0]), (101, [], [k10_0, k10_1, k10_2, k10_3, k10_4, k10_5]), jgh, jgh, jgh, jgh]) (jQl_sp45_116 (d := 0) (by omega) (by omega)) (by rfl) (by rfl) (by rfl) (by rfl) ⟨rfl, rfl, rfl, rfl, trivial⟩ (by rfl) (by rfl) (by omega) (by show 15 ≤ 15; omega) (by omega) (by omega) rfl rfl ?_
  have hb_q1 : (-60) ≤ (108917793695 * r7 + 159561683699 * r8) / 68719476736 ∧ (108917793695 * r7 + 159561683699 * r8) / 68719476736 ≤ 60 := ⟨by omega, by omega⟩
  generalize hq_q1 : (108917793695 * r7 + 159561683699 * r8) / 68719476736 = q1 at hb_q1 g_1 ⊢
  refine jT_xlstore (v := (1, q1)) (LN := [(5, (1, q1)), (0, (4, 0)), (1, (0, r7)), (2, (0, r8)), (3, (4, 1)), (4, (0, o4))]) (pcN := 71) jIQ_161_69 rfl rfl rfl rfl ?_
  have g_2 : 0 ≤ (-68719476736) * q1 + 108917793694 * r7 + 159561683698 * r8 - 1 := by have := jcg (b := r7) (c := r8) (by omega) (by omega) (by omega); rw [hq_q1] at this; omega
  have g_3 : 0 ≤ (-68719476736) * q1 + 108917793694 * r7 + 159561683700 * r8 - 1 := by have := jcg (b := r7) (c := r8) (by omega) (by omega) (by omega); rw [hq_q1] at this; omega
  have g_4 : 0 ≤ (-68719476736) * q1 + 108917793696 * r7 + 159561683698 * r8 - 1 := by have := jcg (b := r7) (c := r8) (by omega) (by omega) (by omega); rw [hq_q1] at this; omega
  have g_5 : 0 ≤ (-68719476736) * q1 + 108917793696 * r7 + 159561683700 * r8 - 1 := by have := jcg (b := r7) (c := r8) (by omega) (by omega) (by omega); rw [hq_q1] at this; omega
  refine jT_xiload (v := (0, o4)) (pcN := 73) jIQ_161_71 rfl rfl rfl ?_
  refine jT_ifF (a := o4) (t := 107) (by rfl) (by rfl) (by rfl) (jw_idd (by omega) (by omega)) (by simp only [jcP] <;> omega) ?_
  refine jT_xiload_n (v := (0, r7)) (pcN := 77) jIQ_161_76 rfl rfl rfl ?_
  refine jT_xi2l (x := r7) (z := r7) (pcN := 78) jIQ_161_77 rfl (jw_idd (by omega) (by omega)) rfl ?_
  refine jT_xaload_n (v := (4, 0)) (pcN := 79) jIQ_161_78 rfl rfl rfl ?_
  refine jT_xgetf (a := 0) (t := 1) (ci := 13) (fi := 8) (c := jzQ_16) (v := (4, 10)) (pcN := 82) jIQ_161_79 rfl rfl rfl rfl rfl rfl rfl ?_
  refine jT_xiconst (k := 1) (pcN := 83) jIQ_161_82 rfl ?_
  refine jT_lald (x := k10_1) (a := 10) (j := 1) (fs := []) (X := [k10_0, k10_1, k10_2, k10_3, k10_4, k10_5]) jIQ_161_83 rfl rfl rfl rfl ?_
  refine jT_eq (LN := [(5, (1, q1)), (0, (4, 0)), (1, (0, r7)), (2, (0, r8)), (3, (4, 1)), (4, (0, o4))]) (stN := [(1, k10_1), (1, r7)]) (hsN := [jzQ_16, jgh, (8, [(4, 13), (4, 14)], []), jgh, jgh, jgh, jgh, jgh, jgh, (101, [], [0, r7, r8, 0, 0, 0]), (101, [], [k10_0, k10_1, k10_2, k10_3, k10_4, k10_5]), jgh, jgh, jgh, jgh]) rfl rfl rfl ?_
  refine jT_xlmul (x := r7) (y := k10_1) (z := r7 * k10_1) (pcN := 85) jIQ_161_84 rfl rfl rfl ?_
  have hb_q2 := jmul_b2 (x := r7) (y := k10_1) (k := 1) (l := 2) (m := 20) (n := 158) (by omega) (by omega) (by omega) (by omega) (by omega) (by omega)
  have hb_q2 : 2 ≤ r7 * k10_1 ∧ r7 * k10_1 ≤ 3160 := ⟨by omega, by omega⟩
  generalize hq_q2 : r7 * k10_1 = q2 at hb_q2 g_1 ⊢
  refine jT_xiload_n (v := (0, r8)) (pcN := 86) jIQ_161_85 rfl rfl rfl ?_
  refine jT_xi2l (x := r8) (z := r8) (pcN := 87) jIQ_161_86 rfl (jw_idd (by omega) (by omega)) rfl ?_
  refine jT_xaload_n (v := (4, 0)) (pcN := 88) jIQ_161_87 rfl rfl rfl ?_
  refine jT_xgetf (a := 0) (t := 1) (ci := 13) (fi := 8) (c := jzQ_16) (v := (4, 10)) (pcN := 91) jIQ_161_88 rfl rfl rfl rfl rfl rfl rfl ?_
  refine jT_xiconst (k := 2) (pcN := 92) jIQ_161_91 rfl ?_
  refine jT_lald (x := k10_2) (a := 10) (j := 2) (fs := []) (X := [k10_0, k10_1, k10_2, k10_3, k10_4, k10_5]) jIQ_161_92 rfl rfl rfl rfl ?_
  refine jT_eq (LN := [(5, (1, q1)), (0, (4, 0)), (1, (0, r7)), (2, (0, r8)), (3, (4, 1)), (4, (0, o4))]) (stN := [(1, k10_2), (1, r8), (1, q2)]) (hsN := [jzQ_16, jgh, (8, [(4, 13), (4, 14)], []), jgh, jgh, jgh, jgh, jgh, jgh, (101, [], [0, r7, r8, 0, 0, 0]), (101, [], [k10_0, k10_1, k10_2, k10_3, k10_4, k10_5]), jgh, jgh, jgh, jgh]) rfl rfl rfl ?_
  refine jT_xlmul (x := r8) (y := k10_2) (z := r8 * k10_2) (pcN := 94) jIQ_161_93 rfl rfl rfl ?_
  have hb_q3 := jmul_bs (x := r8) (y := k10_2) (m := 10) (n := 232) (by omega) (by omega) (by omega) (by omega)
  have hb_q3 : (-2320) ≤ r8 * k10_2 ∧ r8 * k10_2 ≤ 2320 := ⟨by omega, by omega⟩
  generalize hq_q3 : r8 * k10_2 = q3 at hb_q3 g_1 ⊢
  refine jT_xladd (x := q2) (y := q3) (z := q2 + q3) (pcN := 95) jIQ_161_94 rfl (rfl) rfl ?_
  refine jT_xlload (v := (1, q1)) (pcN := 97) jIQ_161_95 rfl rfl rfl ?_
  refine jT_xiload (v := (0, o4)) (pcN := 99) jIQ_161_97 rfl rfl rfl ?_
  refine jT_xi2l (x := o4) (z := o4) (pcN := 100) jIQ_161_99 rfl (jw_idd (by omega) (by omega)) rfl ?_
  refine jT_xlmul (x := q1) (y := o4) (z := q1 * o4) (pcN := 101) jIQ_161_100 rfl rfl rfl ?_
  have hb_q4 := jmul_bs (x := q1) (y := o4) (m := 60) (n := 100) (by omega) (by omega) (by omega) (by omega)
  have hb_q4 : (-6000) ≤ q1 * o4 ∧ q1 * o4 ≤ 6000 := ⟨by omega, by omega⟩
  generalize hq_q4 : q1 * o4 = q4 at hb_q4 g_1 ⊢
  refine jT_lcmp (a := q2 + q3) (b := q4) (z := 1) (by rfl) (by rfl) (jwl_idd (by omega) (by omega)) (jwl_idd (by omega) (by omega)) (by rw [decide_eq_true (show (q4 : Int) < q2 + q3 by omega)]; rfl) ?_
  refine jT_xifF (t := 107) (pcN := 105) jIQ_161_102 rfl (by decide +kernel) rfl rfl ?_
  refine jT_xiconst (k := 0) (pcN := 106) jIQ_161_105 rfl ?_
  subst hq_q4
  subst hq_q3
  subst hq_q2
  subst hq_q1
  exact jT_ret rfl (by decide) (by show 15 ≤ 15; omega) (by omega) (by omega) ⟨rfl, rfl, rfl⟩
theorem jQ_161_252 {xs : List Int} {d : Nat} {k10_0 k10_1 k10_2 k10_3 k10_4 k10_5 o4 r7 r8 u9_0 u9_1 u9_2 u9_3 u9_4 u9_5 : Int} (h_k10_0 : 1 ≤ k10_0 ∧ k10_0 ≤ 100) (h_k10_1 : 2 ≤ k10_1 ∧ k10_1 ≤ 158) (h_k10_2 : 2 ≤ k10_2 ∧ k10_2 ≤ 232) (h_k10_3 : 3 ≤ k10_3 ∧ k10_3 ≤ 281) (h_k10_4 : 3 ≤ k10_4 ∧ k10_4 ≤ 346) (h_k10_5 : 4 ≤ k10_5 ∧ k10_5 ≤ 370) (h_o4 : 1 ≤ o4 ∧ o4 ≤ 100) (h_r7 : (-20) ≤ r7 ∧ r7 ≤ 20) (h_r8 : (-10) ≤ r8 ∧ r8 ≤ 10) (g_0 : 0 ≤ r7) (g_1 : r7 ≤ 0) (g_2 : 0 < r8) (g_3 : -(((108917793695 * r7 + 159561683699 * r8) / 68719476736) * o4) + (r7 * k10_1) + (r8 * k10_2) - 1 < 0) (g_4 : -(((108917793695 * r7 + 159561683699 * r8) / 68719476736) * o4) + (r7 * k10_1) + (r8 * k10_2) < 0) : jT xs (d + 2) 161 15 0 [(0, (4, 0)), (1, (0, r7)), (2, (0, r8)), (3, (4, 1)), (4, (0, o4))] [] [jzQ_16, jgh, (8, [(4, 13), (4, 14)], []), jgh, jgh, jgh, jgh, jgh, jgh, (101, [], [u9_0, u9_1, u9_2, u9_3, u9_4, u9_5]), (101, [], [k10_0, k10_1, k10_2, k10_3, k10_4, k10_5]), jgh, jgh, jgh, jgh] 0 0 (fun k v hsN => k = 0 ∧ v = (0, 0) ∧ hsN = [jzQ_16, jgh, (8, [(4, 13), (4, 14)], []), jgh, jgh, jgh, jgh, jgh, jgh, (101, [], [0, r7, r8, 0, 0, 0]), (101, [], [k10_0, k10_1, k10_2, k10_3, k10_4, k10_5]), jgh, jgh, jgh, jgh]) := by
  refine jT_xiload_n (v := (0, r7)) (pcN := 1) jIQ_161_0 rfl rfl rfl ?_
  refine jT_ifF (a := r7) (t := 10) (by rfl) (by rfl) (by rfl) (jw_idd (by omega) (by omega)) (by simp only [jcP] <;> omega) ?_
  refine jT_xiload_n (v := (0, r8)) (pcN := 5) jIQ_161_4 rfl rfl rfl ?_
  refine jT_ifT (a := r8) (t := 10) (by rfl) (by rfl) (by rfl) (jw_idd (by omega) (by omega)) (by simp only [jcP] <;> omega) ?_
  refine jT_xiconst (k := 0) (pcN := 11) jIQ_161_10 rfl ?_
  refine jT_xistore (v := (0, 0)) (LN := [(5, (0, 0)), (0, (4, 0)), (1, (0, r7)), (2, (0, r8)), (3, (4, 1)), (4, (0, o4))]) (pcN := 13) jIQ_161_11 rfl rfl rfl rfl ?_
  refine jT_xiload (v := (0, 0)) (pcN := 15) jIQ_161_13 rfl rfl rfl ?_
  refine jT_xbipush (k := 6) (pcN := 17) jIQ_161_15 (by decide) rfl ?_
  refine jT_xicF (t := 56) (pcN := 20) jIQ_161_17 rfl (by decide +kernel) rfl rfl ?_
  refine jT_xaload_n (v := (4, 0)) (pcN := 21) jIQ_161_20 rfl rfl rfl ?_
  refine jT_xgetf (a := 0) (t := 1) (ci := 13) (fi := 7) (c := jzQ_16) (v := (4, 9)) (pcN := 24) jIQ_161_21 rfl rfl rfl rfl rfl rfl rfl ?_
  refine jT_xiload (v := (0, 0)) (pcN := 26) jIQ_161_24 rfl rfl rfl ?_
  refine jT_xiload (v := (0, 0)) (pcN := 28) jIQ_161_26 rfl rfl rfl ?_
  refine jT_xiconst (k := 1) (pcN := 29) jIQ_161_28 rfl ?_
  refine jT_xicT (pcN := 37) jIQ_161_29 rfl (by decide +kernel) rfl ?_
  refine jT_xiload (v := (0, 0)) (pcN := 39) jIQ_161_37 rfl rfl rfl ?_
  refine jT_xiconst (k := 2) (pcN := 40) jIQ_161_39 rfl ?_
  refine jT_xicT (pcN := 48) jIQ_161_40 rfl (by decide +kernel) rfl ?_
  refine jT_xlconst (z := 0) (pcN := 49) jIQ_161_48 rfl rfl ?_
  refine jT_adv 1 (pcN := 50) (LN := [(5, (0, 0)), (0, (4, 0)), (1, (0, r7)), (2, (0, r8)), (3, (4, 1)), (4, (0, o4))]) (stN := []) (hsN := [jzQ_16, jgh, (8, [(4, 13), (4, 14)], []), jgh, jgh, jgh, jgh, jgh, jgh, (101, [], [0, u9_1, u9_2, u9_3, u9_4, u9_5]), (101, [], [k10_0, k10_1, k10_2, k10_3, k10_4, k10_5]), jgh, jgh, jgh, jgh]) (c1 := 0) (s1 := 0) (c2 := 0) (s2 := 0) (by exact rfl) ?_ (by omega) (by omega)
  refine jT_xiinc (x := 0) (z := 1) (LN := [(5, (0, 1)), (0, (4, 0)), (1, (0, r7)), (2, (0, r8)), (3, (4, 1)), (4, (0, o4))]) (pcN := 53) jIQ_161_50 rfl rfl (by decide) rfl rfl ?_
  refine jT_xgoto (pcN := 13) jIQ_161_53 rfl ?_
  refine jT_xiload (v := (0, 1)) (pcN := 15) jIQ_161_13 rfl rfl rfl ?_
  refine jT_xbipush (k := 6) (pcN := 17) jIQ_161_15 (by decide) rfl ?_
  refine jT_xicF (t := 56) (pcN := 20) jIQ_161_17 rfl (by decide +kernel) rfl rfl ?_
  refine jT_xaload_n (v := (4, 0)) (pcN := 21) jIQ_161_20 rfl rfl rfl ?_
  refine jT_xgetf (a := 0) (t := 1) (ci := 13) (fi := 7) (c := jzQ_16) (v := (4, 9)) (pcN := 24) jIQ_161_21 rfl rfl rfl rfl rfl rfl rfl ?_
  refine jT_xiload (v := (0, 1)) (pcN := 26) jIQ_161_24 rfl rfl rfl ?_
  refine jT_xiload (v := (0, 1)) (pcN := 28) jIQ_161_26 rfl rfl rfl ?_
  refine jT_xiconst (k := 1) (pcN := 29) jIQ_161_28 rfl ?_
  refine jT_xicF (t := 37) (pcN := 32) jIQ_161_29 rfl (by decide +kernel) rfl rfl ?_
  refine jT_xiload_n (v := (0, r7)) (pcN := 33) jIQ_161_32 rfl rfl rfl ?_
  refine jT_xi2l (x := r7) (z := r7) (pcN := 34) jIQ_161_33 rfl (jw_idd (by omega) (by omega)) rfl ?_
  refine jT_xgoto (pcN := 49) jIQ_161_34 rfl ?_
  refine jT_adv 1 (pcN := 50) (LN := [(5, (0, 1)), (0, (4, 0)), (1, (0, r7)), (2, (0, r8)), (3, (4, 1)), (4, (0, o4))]) (stN := []) (hsN := [jzQ_16, jgh, (8, [(4, 13), (4, 14)], []), jgh, jgh, jgh, jgh, jgh, jgh, (101, [], [0, r7, u9_2, u9_3, u9_4, u9_5]), (101, [], [k10_0, k10_1, k10_2, k10_3, k10_4, k10_5]), jgh, jgh, jgh, jgh]) (c1 := 0) (s1 := 0) (c2 := 0) (s2 := 0) (by exact rfl) ?_ (by omega) (by omega)
  refine jT_xiinc (x := 1) (z := 2) (LN := [(5, (0, 2)), (0, (4, 0)), (1, (0, r7)), (2, (0, r8)), (3, (4, 1)), (4, (0, o4))]) (pcN := 53) jIQ_161_50 rfl rfl (by decide) rfl rfl ?_
  refine jT_xgoto (pcN := 13) jIQ_161_53 rfl ?_
  refine jT_xiload (v := (0, 2)) (pcN := 15) jIQ_161_13 rfl rfl rfl ?_
  refine jT_xbipush (k := 6) (pcN := 17) jIQ_161_15 (by decide) rfl ?_
  refine jT_xicF (t := 56) (pcN := 20) jIQ_161_17 rfl (by decide +kernel) rfl rfl ?_
  refine jT_xaload_n (v := (4, 0)) (pcN := 21) jIQ_161_20 rfl rfl rfl ?_
  refine jT_xgetf (a := 0) (t := 1) (ci := 13) (fi := 7) (c := jzQ_16) (v := (4, 9)) (pcN := 24) jIQ_161_21 rfl rfl rfl rfl rfl rfl rfl ?_
  refine jT_xiload (v := (0, 2)) (pcN := 26) jIQ_161_24 rfl rfl rfl ?_
  refine jT_xiload (v := (0, 2)) (pcN := 28) jIQ_161_26 rfl rfl rfl ?_
  refine jT_xiconst (k := 1) (pcN := 29) jIQ_161_28 rfl ?_
  refine jT_xicT (pcN := 37) jIQ_161_29 rfl (by decide +kernel) rfl ?_
  refine jT_xiload (v := (0, 2)) (pcN := 39) jIQ_161_37 rfl rfl rfl ?_
  refine jT_xiconst (k := 2) (pcN := 40) jIQ_161_39 rfl ?_
  refine jT_xicF (t := 48) (pcN := 43) jIQ_161_40 rfl (by decide +kernel) rfl rfl ?_
  refine jT_xiload_n (v := (0, r8)) (pcN := 44) jIQ_161_43 rfl rfl rfl ?_
  refine jT_xi2l (x := r8) (z := r8) (pcN := 45) jIQ_161_44 rfl (jw_idd (by omega) (by omega)) rfl ?_
  refine jT_xgoto (pcN := 49) jIQ_161_45 rfl ?_
  refine jT_adv 1 (pcN := 50) (LN := [(5, (0, 2)), (0, (4, 0)), (1, (0, r7)), (2, (0, r8)), (3, (4, 1)), (4, (0, o4))]) (stN := []) (hsN := [jzQ_16, jgh, (8, [(4, 13), (4, 14)], []), jgh, jgh, jgh, jgh, jgh, jgh, (101, [], [0, r7, r8, u9_3, u9_4, u9_5]), (101, [], [k10_0, k10_1, k10_2, k10_3, k10_4, k10_5]), jgh, jgh, jgh, jgh]) (c1 := 0) (s1 := 0) (c2 := 0) (s2 := 0) (by exact rfl) ?_ (by omega) (by omega)
  refine jT_xiinc (x := 2) (z := 3) (LN := [(5, (0, 3)), (0, (4, 0)), (1, (0, r7)), (2, (0, r8)), (3, (4, 1)), (4, (0, o4))]) (pcN := 53) jIQ_161_50 rfl rfl (by decide) rfl rfl ?_
  refine jT_xgoto (pcN := 13) jIQ_161_53 rfl ?_
  refine jT_xiload (v := (0, 3)) (pcN := 15) jIQ_161_13 rfl rfl rfl ?_
  refine jT_xbipush (k := 6) (pcN := 17) jIQ_161_15 (by decide) rfl ?_
  refine jT_xicF (t := 56) (pcN := 20) jIQ_161_17 rfl (by decide +kernel) rfl rfl ?_
  refine jT_xaload_n (v := (4, 0)) (pcN := 21) jIQ_161_20 rfl rfl rfl ?_
  refine jT_xgetf (a := 0) (t := 1) (ci := 13) (fi := 7) (c := jzQ_16) (v := (4, 9)) (pcN := 24) jIQ_161_21 rfl rfl rfl rfl rfl rfl rfl ?_
  refine jT_xiload (v := (0, 3)) (pcN := 26) jIQ_161_24 rfl rfl rfl ?_
  refine jT_xiload (v := (0, 3)) (pcN := 28) jIQ_161_26 rfl rfl rfl ?_
  refine jT_xiconst (k := 1) (pcN := 29) jIQ_161_28 rfl ?_
  refine jT_xicT (pcN := 37) jIQ_161_29 rfl (by decide +kernel) rfl ?_
  refine jT_xiload (v := (0, 3)) (pcN := 39) jIQ_161_37 rfl rfl rfl ?_
  refine jT_xiconst (k := 2) (pcN := 40) jIQ_161_39 rfl ?_
  refine jT_xicT (pcN := 48) jIQ_161_40 rfl (by decide +kernel) rfl ?_
  refine jT_xlconst (z := 0) (pcN := 49) jIQ_161_48 rfl rfl ?_
  refine jT_adv 1 (pcN := 50) (LN := [(5, (0, 3)), (0, (4, 0)), (1, (0, r7)), (2, (0, r8)), (3, (4, 1)), (4, (0, o4))]) (stN := []) (hsN := [jzQ_16, jgh, (8, [(4, 13), (4, 14)], []), jgh, jgh, jgh, jgh, jgh, jgh, (101, [], [0, r7, r8, 0, u9_4, u9_5]), (101, [], [k10_0, k10_1, k10_2, k10_3, k10_4, k10_5]), jgh, jgh, jgh, jgh]) (c1 := 0) (s1 := 0) (c2 := 0) (s2 := 0) (by exact rfl) ?_ (by omega) (by omega)
  refine jT_xiinc (x := 3) (z := 4) (LN := [(5, (0, 4)), (0, (4, 0)), (1, (0, r7)), (2, (0, r8)), (3, (4, 1)), (4, (0, o4))]) (pcN := 53) jIQ_161_50 rfl rfl (by decide) rfl rfl ?_
  refine jT_xgoto (pcN := 13) jIQ_161_53 rfl ?_
  refine jT_xiload (v := (0, 4)) (pcN := 15) jIQ_161_13 rfl rfl rfl ?_
  refine jT_xbipush (k := 6) (pcN := 17) jIQ_161_15 (by decide) rfl ?_
  refine jT_xicF (t := 56) (pcN := 20) jIQ_161_17 rfl (by decide +kernel) rfl rfl ?_
  refine jT_xaload_n (v := (4, 0)) (pcN := 21) jIQ_161_20 rfl rfl rfl ?_
  refine jT_xgetf (a := 0) (t := 1) (ci := 13) (fi := 7) (c := jzQ_16) (v := (4, 9)) (pcN := 24) jIQ_161_21 rfl rfl rfl rfl rfl rfl rfl ?_
  refine jT_xiload (v := (0, 4)) (pcN := 26) jIQ_161_24 rfl rfl rfl ?_
  refine jT_xiload (v := (0, 4)) (pcN := 28) jIQ_161_26 rfl rfl rfl ?_
  refine jT_xiconst (k := 1) (pcN := 29) jIQ_161_28 rfl ?_
  refine jT_xicT (pcN := 37) jIQ_161_29 rfl (by decide +kernel) rfl ?_
  refine jT_xiload (v := (0, 4)) (pcN := 39) jIQ_161_37 rfl rfl rfl ?_
  refine jT_xiconst (k := 2) (pcN := 40) jIQ_161_39 rfl ?_
  refine jT_xicT (pcN := 48) jIQ_161_40 rfl (by decide +kernel) rfl ?_
  refine jT_xlconst (z := 0) (pcN := 49) jIQ_161_48 rfl rfl ?_
  refine jT_adv 1 (pcN := 50) (LN := [(5, (0, 4)), (0, (4, 0)), (1, (0, r7)), (2, (0, r8)), (3, (4, 1)), (4, (0, o4))]) (stN := []) (hsN := [jzQ_16, jgh, (8, [(4, 13), (4, 14)], []), jgh, jgh, jgh, jgh, jgh, jgh, (101, [], [0, r7, r8, 0, 0, u9_5]), (101, [], [k10_0, k10_1, k10_2, k10_3, k10_4, k10_5]), jgh, jgh, jgh, jgh]) (c1 := 0) (s1 := 0) (c2 := 0) (s2 := 0) (by exact rfl) ?_ (by omega) (by omega)
  refine jT_xiinc (x := 4) (z := 5) (LN := [(5, (0, 5)), (0, (4, 0)), (1, (0, r7)), (2, (0, r8)), (3, (4, 1)), (4, (0, o4))]) (pcN := 53) jIQ_161_50 rfl rfl (by decide) rfl rfl ?_
  refine jT_xgoto (pcN := 13) jIQ_161_53 rfl ?_
  refine jT_xiload (v := (0, 5)) (pcN := 15) jIQ_161_13 rfl rfl rfl ?_
  refine jT_xbipush (k := 6) (pcN := 17) jIQ_161_15 (by decide) rfl ?_
  refine jT_xicF (t := 56) (pcN := 20) jIQ_161_17 rfl (by decide +kernel) rfl rfl ?_
  refine jT_xaload_n (v := (4, 0)) (pcN := 21) jIQ_161_20 rfl rfl rfl ?_
  refine jT_xgetf (a := 0) (t := 1) (ci := 13) (fi := 7) (c := jzQ_16) (v := (4, 9)) (pcN := 24) jIQ_161_21 rfl rfl rfl rfl rfl rfl rfl ?_
  refine jT_xiload (v := (0, 5)) (pcN := 26) jIQ_161_24 rfl rfl rfl ?_
  refine jT_xiload (v := (0, 5)) (pcN := 28) jIQ_161_26 rfl rfl rfl ?_
  refine jT_xiconst (k := 1) (pcN := 29) jIQ_161_28 rfl ?_
  refine jT_xicT (pcN := 37) jIQ_161_29 rfl (by decide +kernel) rfl ?_
  refine jT_xiload (v := (0, 5)) (pcN := 39) jIQ_161_37 rfl rfl rfl ?_
  refine jT_xiconst (k := 2) (pcN := 40) jIQ_161_39 rfl ?_
  refine jT_xicT (pcN := 48) jIQ_161_40 rfl (by decide +kernel) rfl ?_
  refine jT_xlconst (z := 0) (pcN := 49) jIQ_161_48 rfl rfl ?_
  refine jT_adv 1 (pcN := 50) (LN := [(5, (0, 5)), (0, (4, 0)), (1, (0, r7)), (2, (0, r8)), (3, (4, 1)), (4, (0, o4))]) (stN := []) (hsN := [jzQ_16, jgh, (8, [(4, 13), (4, 14)], []), jgh, jgh, jgh, jgh, jgh, jgh, (101, [], [0, r7, r8, 0, 0, 0]), (101, [], [k10_0, k10_1, k10_2, k10_3, k10_4, k10_5]), jgh, jgh, jgh, jgh]) (c1 := 0) (s1 := 0) (c2 := 0) (s2 := 0) (by exact rfl) ?_ (by omega) (by omega)
  refine jT_xiinc (x := 5) (z := 6) (LN := [(5, (0, 6)), (0, (4, 0)), (1, (0, r7)), (2, (0, r8)), (3, (4, 1)), (4, (0, o4))]) (pcN := 53) jIQ_161_50 rfl rfl (by decide) rfl rfl ?_
  refine jT_xgoto (pcN := 13) jIQ_161_53 rfl ?_
  refine jT_xiload (v := (0, 6)) (pcN := 15) jIQ_161_13 rfl rfl rfl ?_
  refine jT_xbipush (k := 6) (pcN := 17) jIQ_161_15 (by decide) rfl ?_
  refine jT_xicT (pcN := 56) jIQ_161_17 rfl (by decide +kernel) rfl ?_
  refine jT_xaload_n (v := (4, 0)) (pcN := 57) jIQ_161_56 rfl rfl rfl ?_
  refine jT_xgetf (a := 0) (t := 1) (ci := 13) (fi := 0) (c := jzQ_16) (v := (4, 2)) (pcN := 60) jIQ_161_57 rfl rfl rfl rfl rfl rfl rfl ?_
  refine jT_xaload_n (v := (4, 0)) (pcN := 61) jIQ_161_60 rfl rfl rfl ?_
  refine jT_xgetf (a := 0) (t := 1) (ci := 13) (fi := 7) (c := jzQ_16) (v := (4, 9)) (pcN := 64) jIQ_161_61 rfl rfl rfl rfl rfl rfl rfl ?_
  refine jT_xlconst (z := 1) (pcN := 65) jIQ_161_64 rfl rfl ?_
  refine jT_xlconst (z := 1) (pcN := 66) jIQ_161_65 rfl rfl ?_
  refine jT_callA [2, 9, 13, 14] (y := 45) (pcN := 69) (dC := 1) (bc1 := 0) (bc2 := 0) (c1 := 0) (c2 := 0) (as := [(4, 2), (4, 9), (1, 1), (1, 1)]) (asC := [(4, 0), (4, 1), (1, 1), (1, 1)]) (LN := [(5, (0, 6)), (0, (4, 0)), (1, (0, r7)), (2, (0, r8)), (3, (4, 1)), (4, (0, o4))]) (stN := []) (hsC := [(8, [(4, 2), (4, 3)], []), (101, [], [0, r7, r8, 0, 0, 0]), jgh, jgh]) (ex := []) (v := (1, (108917793695 * r7 + 159561683699 * r8) / 68719476736)) (st2 := [(1, (108917793695 * r7 + 159561683699 * r8) / 68719476736)]) (hs2 := [jzQ_16, jgh, (8, [(4, 13), (4, 14)], []), jgh, jgh, jgh, jgh, jgh, jgh, (101, [], [0, r7, r8, 0, 0, 0]), (101, [], [k10_0, k10_1, k10_2, k10_3, k10_4, k10_5]), jgh, jgh, jgh, jgh]) (jQl_sp45_116 (d := 0) (by omega) (by omega)) (by rfl) (by rfl) (by rfl) (by rfl) ⟨rfl, rfl, rfl, rfl, trivial⟩ (by rfl) (by rfl) (by omega) (by show 15 ≤ 15; omega) (by omega) (by omega) rfl rfl ?_
  have hb_q1 : (-60) ≤ (108917793695 * r7 + 159561683699 * r8) / 68719476736 ∧ (108917793695 * r7 + 159561683699 * r8) / 68719476736 ≤ 60 := ⟨by omega, by omega⟩
  generalize hq_q1 : (108917793695 * r7 + 159561683699 * r8) / 68719476736 = q1 at hb_q1 g_3 g_4 ⊢
  refine jT_xlstore (v := (1, q1)) (LN := [(5, (1, q1)), (0, (4, 0)), (1, (0, r7)), (2, (0, r8)), (3, (4, 1)), (4, (0, o4))]) (pcN := 71) jIQ_161_69 rfl rfl rfl rfl ?_
  have g_5 : 0 ≤ (-68719476736) * q1 + 108917793694 * r7 + 159561683698 * r8 - 1 := by have := jcg (b := r7) (c := r8) (by omega) (by omega) (by omega); rw [hq_q1] at this; omega
  have g_6 : 0 ≤ (-68719476736) * q1 + 108917793694 * r7 + 159561683700 * r8 - 1 := by have := jcg (b := r7) (c := r8) (by omega) (by omega) (by omega); rw [hq_q1] at this; omega
  have g_7 : 0 ≤ (-68719476736) * q1 + 108917793696 * r7 + 159561683698 * r8 - 1 := by have := jcg (b := r7) (c := r8) (by omega) (by omega) (by omega); rw [hq_q1] at this; omega
  have g_8 : 0 ≤ (-68719476736) * q1 + 108917793696 * r7 + 159561683700 * r8 - 1 := by have := jcg (b := r7) (c := r8) (by omega) (by omega) (by omega); rw [hq_q1] at this; omega
  refine jT_xiload (v := (0, o4)) (pcN := 73) jIQ_161_71 rfl rfl rfl ?_
  refine jT_ifF (a := o4) (t := 107) (by rfl) (by rfl) (by rfl) (jw_idd (by omega) (by omega)) (by simp only [jcP] <;> omega) ?_
  refine jT_xiload_n (v := (0, r7)) (pcN := 77) jIQ_161_76 rfl rfl rfl ?_
  refine jT_xi2l (x := r7) (z := r7) (pcN := 78) jIQ_161_77 rfl (jw_idd (by omega) (by omega)) rfl ?_
  refine jT_xaload_n (v := (4, 0)) (pcN := 79) jIQ_161_78 rfl rfl rfl ?_
  refine jT_xgetf (a := 0) (t := 1) (ci := 13) (fi := 8) (c := jzQ_16) (v := (4, 10)) (pcN := 82) jIQ_161_79 rfl rfl rfl rfl rfl rfl rfl ?_
  refine jT_xiconst (k := 1) (pcN := 83) jIQ_161_82 rfl ?_
  refine jT_lald (x := k10_1) (a := 10) (j := 1) (fs := []) (X := [k10_0, k10_1, k10_2, k10_3, k10_4, k10_5]) jIQ_161_83 rfl rfl rfl rfl ?_
  refine jT_eq (LN := [(5, (1, q1)), (0, (4, 0)), (1, (0, r7)), (2, (0, r8)), (3, (4, 1)), (4, (0, o4))]) (stN := [(1, k10_1), (1, r7)]) (hsN := [jzQ_16, jgh, (8, [(4, 13), (4, 14)], []), jgh, jgh, jgh, jgh, jgh, jgh, (101, [], [0, r7, r8, 0, 0, 0]), (101, [], [k10_0, k10_1, k10_2, k10_3, k10_4, k10_5]), jgh, jgh, jgh, jgh]) rfl rfl rfl ?_
  refine jT_xlmul (x := r7) (y := k10_1) (z := r7 * k10_1) (pcN := 85) jIQ_161_84 rfl rfl rfl ?_
  have hb_q2 := jmul_b (x := r7) (y := k10_1) (m := 20) (n := 158) (by omega) (by omega) (by omega) (by omega)
  have hb_q2 : 0 ≤ r7 * k10_1 ∧ r7 * k10_1 ≤ 3160 := ⟨hb_q2.1, by omega⟩
  generalize hq_q2 : r7 * k10_1 = q2 at hb_q2 g_3 g_4 ⊢
  refine jT_xiload_n (v := (0, r8)) (pcN := 86) jIQ_161_85 rfl rfl rfl ?_
  refine jT_xi2l (x := r8) (z := r8) (pcN := 87) jIQ_161_86 rfl (jw_idd (by omega) (by omega)) rfl ?_
  refine jT_xaload_n (v := (4, 0)) (pcN := 88) jIQ_161_87 rfl rfl rfl ?_
  refine jT_xgetf (a := 0) (t := 1) (ci := 13) (fi := 8) (c := jzQ_16) (v := (4, 10)) (pcN := 91) jIQ_161_88 rfl rfl rfl rfl rfl rfl rfl ?_
  refine jT_xiconst (k := 2) (pcN := 92) jIQ_161_91 rfl ?_
  refine jT_lald (x := k10_2) (a := 10) (j := 2) (fs := []) (X := [k10_0, k10_1, k10_2, k10_3, k10_4, k10_5]) jIQ_161_92 rfl rfl rfl rfl ?_
  refine jT_eq (LN := [(5, (1, q1)), (0, (4, 0)), (1, (0, r7)), (2, (0, r8)), (3, (4, 1)), (4, (0, o4))]) (stN := [(1, k10_2), (1, r8), (1, q2)]) (hsN := [jzQ_16, jgh, (8, [(4, 13), (4, 14)], []), jgh, jgh, jgh, jgh, jgh, jgh, (101, [], [0, r7, r8, 0, 0, 0]), (101, [], [k10_0, k10_1, k10_2, k10_3, k10_4, k10_5]), jgh, jgh, jgh, jgh]) rfl rfl rfl ?_
  refine jT_xlmul (x := r8) (y := k10_2) (z := r8 * k10_2) (pcN := 94) jIQ_161_93 rfl rfl rfl ?_
  have hb_q3 := jmul_b2 (x := r8) (y := k10_2) (k := 1) (l := 2) (m := 10) (n := 232) (by omega) (by omega) (by omega) (by omega) (by omega) (by omega)
  have hb_q3 : 2 ≤ r8 * k10_2 ∧ r8 * k10_2 ≤ 2320 := ⟨by omega, by omega⟩
  generalize hq_q3 : r8 * k10_2 = q3 at hb_q3 g_3 g_4 ⊢
  refine jT_xladd (x := q2) (y := q3) (z := q2 + q3) (pcN := 95) jIQ_161_94 rfl (rfl) rfl ?_
  refine jT_xlload (v := (1, q1)) (pcN := 97) jIQ_161_95 rfl rfl rfl ?_
  refine jT_xiload (v := (0, o4)) (pcN := 99) jIQ_161_97 rfl rfl rfl ?_
  refine jT_xi2l (x := o4) (z := o4) (pcN := 100) jIQ_161_99 rfl (jw_idd (by omega) (by omega)) rfl ?_
  refine jT_xlmul (x := q1) (y := o4) (z := q1 * o4) (pcN := 101) jIQ_161_100 rfl rfl rfl ?_
  have hb_q4 := jmul_bs (x := q1) (y := o4) (m := 60) (n := 100) (by omega) (by omega) (by omega) (by omega)
  have hb_q4 : (-6000) ≤ q1 * o4 ∧ q1 * o4 ≤ 6000 := ⟨by omega, by omega⟩
  generalize hq_q4 : q1 * o4 = q4 at hb_q4 g_3 g_4 ⊢
  refine jT_lcmp (a := q2 + q3) (b := q4) (z := (-1)) (by rfl) (by rfl) (jwl_idd (by omega) (by omega)) (jwl_idd (by omega) (by omega)) (by rw [decide_eq_false (show ¬ ((q4 : Int) < q2 + q3) by omega), decide_eq_false (show ¬ ((q2 + q3 : Int) = q4) by omega)]; rfl) ?_
  refine jT_xifF (t := 107) (pcN := 105) jIQ_161_102 rfl (by decide +kernel) rfl rfl ?_
  refine jT_xiconst (k := 0) (pcN := 106) jIQ_161_105 rfl ?_
  subst hq_q4
  subst hq_q3
  subst hq_q2
  subst hq_q1
  exact jT_ret rfl (by decide) (by show 15 ≤ 15; omega) (by omega) (by omega) ⟨rfl, rfl, rfl⟩
theorem jQ_161_253 {xs : List Int} {d : Nat} {k10_0 k10_1 k10_2 k10_3 k10_4 k10_5 o4 r7 r8 u9_0 u9_1 u9_2 u9_3 u9_4 u9_5 : Int} (h_k10_0 : 1 ≤ k10_0 ∧ k10_0 ≤ 100) (h_k10_1 : 2 ≤ k10_1 ∧ k10_1 ≤ 158) (h_k10_2 : 2 ≤ k10_2 ∧ k10_2 ≤ 232) (h_k10_3 : 3 ≤ k10_3 ∧ k10_3 ≤ 281) (h_k10_4 : 3 ≤ k10_4 ∧ k10_4 ≤ 346) (h_k10_5 : 4 ≤ k10_5 ∧ k10_5 ≤ 370) (h_o4 : 1 ≤ o4 ∧ o4 ≤ 100) (h_r7 : (-20) ≤ r7 ∧ r7 ≤ 20) (h_r8 : (-10) ≤ r8 ∧ r8 ≤ 10) (g_0 : 0 ≤ r7) (g_1 : r7 ≤ 0) (g_2 : 0 < r8) (g_3 : -(((108917793695 * r7 + 159561683699 * r8) / 68719476736) * o4) + (r7 * k10_1) + (r8 * k10_2) - 1 < 0) (g_4 : 0 ≤ -(((108917793695 * r7 + 159561683699 * r8) / 68719476736) * o4) + (r7 * k10_1) + (r8 * k10_2)) : jT xs (d + 2) 161 16 0 [(0, (4, 0)), (1, (0, r7)), (2, (0, r8)), (3, (4, 1)), (4, (0, o4))] [] [jzQ_16, (4, [(4, 13), (1, 1)], []), (8, [(4, 14), (4, 15)], []), jgh, jgh, jgh, jgh, jgh, jgh, (101, [], [u9_0, u9_1, u9_2, u9_3, u9_4, u9_5]), (101, [], [k10_0, k10_1, k10_2, k10_3, k10_4, k10_5]), jgh, jgh, (101, [], [0, 0, 0, 0, 0, 0]), jgh, jgh] 0 0 (fun k v hsN => k = 0 ∧ v = (0, 0) ∧ hsN = [jzQ_16, (4, [(4, 13), (1, 1)], []), (8, [(4, 14), (4, 15)], []), jgh, jgh, jgh, jgh, jgh, jgh, (101, [], [(108917793695 * r7 + 159561683699 * r8) / 68719476736, -r7, -r8, 0, 0, 0]), (101, [], [k10_0, k10_1, k10_2, k10_3, k10_4, k10_5]), jgh, jgh, (101, [], [0, 0, 0, 0, 0, 0]), jgh, jgh]) := by
  refine jT_xiload_n (v := (0, r7)) (pcN := 1) jIQ_161_0 rfl rfl rfl ?_
  refine jT_ifF (a := r7) (t := 10) (by rfl) (by rfl) (by rfl) (jw_idd (by omega) (by omega)) (by simp only [jcP] <;> omega) ?_
  refine jT_xiload_n (v := (0, r8)) (pcN := 5) jIQ_161_4 rfl rfl rfl ?_
  refine jT_ifT (a := r8) (t := 10) (by rfl) (by rfl) (by rfl) (jw_idd (by omega) (by omega)) (by simp only [jcP] <;> omega) ?_
  refine jT_xiconst (k := 0) (pcN := 11) jIQ_161_10 rfl ?_
  refine jT_xistore (v := (0, 0)) (LN := [(5, (0, 0)), (0, (4, 0)), (1, (0, r7)), (2, (0, r8)), (3, (4, 1)), (4, (0, o4))]) (pcN := 13) jIQ_161_11 rfl rfl rfl rfl ?_
  refine jT_xiload (v := (0, 0)) (pcN := 15) jIQ_161_13 rfl rfl rfl ?_
  refine jT_xbipush (k := 6) (pcN := 17) jIQ_161_15 (by decide) rfl ?_
  refine jT_xicF (t := 56) (pcN := 20) jIQ_161_17 rfl (by decide +kernel) rfl rfl ?_
  refine jT_xaload_n (v := (4, 0)) (pcN := 21) jIQ_161_20 rfl rfl rfl ?_
  refine jT_xgetf (a := 0) (t := 1) (ci := 13) (fi := 7) (c := jzQ_16) (v := (4, 9)) (pcN := 24) jIQ_161_21 rfl rfl rfl rfl rfl rfl rfl ?_
  refine jT_xiload (v := (0, 0)) (pcN := 26) jIQ_161_24 rfl rfl rfl ?_
  refine jT_xiload (v := (0, 0)) (pcN := 28) jIQ_161_26 rfl rfl rfl ?_
  refine jT_xiconst (k := 1) (pcN := 29) jIQ_161_28 rfl ?_
  refine jT_xicT (pcN := 37) jIQ_161_29 rfl (by decide +kernel) rfl ?_
  refine jT_xiload (v := (0, 0)) (pcN := 39) jIQ_161_37 rfl rfl rfl ?_
  refine jT_xiconst (k := 2) (pcN := 40) jIQ_161_39 rfl ?_
  refine jT_xicT (pcN := 48) jIQ_161_40 rfl (by decide +kernel) rfl ?_
  refine jT_xlconst (z := 0) (pcN := 49) jIQ_161_48 rfl rfl ?_
  refine jT_adv 1 (pcN := 50) (LN := [(5, (0, 0)), (0, (4, 0)), (1, (0, r7)), (2, (0, r8)), (3, (4, 1)), (4, (0, o4))]) (stN := []) (hsN := [jzQ_16, (4, [(4, 13), (1, 1)], []), (8, [(4, 14), (4, 15)], []), jgh, jgh, jgh, jgh, jgh, jgh, (101, [], [0, u9_1, u9_2, u9_3, u9_4, u9_5]), (101, [], [k10_0, k10_1, k10_2, k10_3, k10_4, k10_5]), jgh, jgh, (101, [], [0, 0, 0, 0, 0, 0]), jgh, jgh]) (c1 := 0) (s1 := 0) (c2 := 0) (s2 := 0) (by exact rfl) ?_ (by omega) (by omega)
  refine jT_xiinc (x := 0) (z := 1) (LN := [(5, (0, 1)), (0, (4, 0)), (1, (0, r7)), (2, (0, r8)), (3, (4, 1)), (4, (0, o4))]) (pcN := 53) jIQ_161_50 rfl rfl (by decide) rfl rfl ?_
  refine jT_xgoto (pcN := 13) jIQ_161_53 rfl ?_
  refine jT_xiload (v := (0, 1)) (pcN := 15) jIQ_161_13 rfl rfl rfl ?_
  refine jT_xbipush (k := 6) (pcN := 17) jIQ_161_15 (by decide) rfl ?_
  refine jT_xicF (t := 56) (pcN := 20) jIQ_161_17 rfl (by decide +kernel) rfl rfl ?_
  refine jT_xaload_n (v := (4, 0)) (pcN := 21) jIQ_161_20 rfl rfl rfl ?_
  refine jT_xgetf (a := 0) (t := 1) (ci := 13) (fi := 7) (c := jzQ_16) (v := (4, 9)) (pcN := 24) jIQ_161_21 rfl rfl rfl rfl rfl rfl rfl ?_
  refine jT_xiload (v := (0, 1)) (pcN := 26) jIQ_161_24 rfl rfl rfl ?_
  refine jT_xiload (v := (0, 1)) (pcN := 28) jIQ_161_26 rfl rfl rfl ?_
  refine jT_xiconst (k := 1) (pcN := 29) jIQ_161_28 rfl ?_
  refine jT_xicF (t := 37) (pcN := 32) jIQ_161_29 rfl (by decide +kernel) rfl rfl ?_
  refine jT_xiload_n (v := (0, r7)) (pcN := 33) jIQ_161_32 rfl rfl rfl ?_
  refine jT_xi2l (x := r7) (z := r7) (pcN := 34) jIQ_161_33 rfl (jw_idd (by omega) (by omega)) rfl ?_
  refine jT_xgoto (pcN := 49) jIQ_161_34 rfl ?_
  refine jT_adv 1 (pcN := 50) (LN := [(5, (0, 1)), (0, (4, 0)), (1, (0, r7)), (2, (0, r8)), (3, (4, 1)), (4, (0, o4))]) (stN := []) (hsN := [jzQ_16, (4, [(4, 13), (1, 1)], []), (8, [(4, 14), (4, 15)], []), jgh, jgh, jgh, jgh, jgh, jgh, (101, [], [0, r7, u9_2, u9_3, u9_4, u9_5]), (101, [], [k10_0, k10_1, k10_2, k10_3, k10_4, k10_5]), jgh, jgh, (101, [], [0, 0, 0, 0, 0, 0]), jgh, jgh]) (c1 := 0) (s1 := 0) (c2 := 0) (s2 := 0) (by exact rfl) ?_ (by omega) (by omega)
  refine jT_xiinc (x := 1) (z := 2) (LN := [(5, (0, 2)), (0, (4, 0)), (1, (0, r7)), (2, (0, r8)), (3, (4, 1)), (4, (0, o4))]) (pcN := 53) jIQ_161_50 rfl rfl (by decide) rfl rfl ?_
  refine jT_xgoto (pcN := 13) jIQ_161_53 rfl ?_
  refine jT_xiload (v := (0, 2)) (pcN := 15) jIQ_161_13 rfl rfl rfl ?_
  refine jT_xbipush (k := 6) (pcN := 17) jIQ_161_15 (by decide) rfl ?_
  refine jT_xicF (t := 56) (pcN := 20) jIQ_161_17 rfl (by decide +kernel) rfl rfl ?_
  refine jT_xaload_n (v := (4, 0)) (pcN := 21) jIQ_161_20 rfl rfl rfl ?_
  refine jT_xgetf (a := 0) (t := 1) (ci := 13) (fi := 7) (c := jzQ_16) (v := (4, 9)) (pcN := 24) jIQ_161_21 rfl rfl rfl rfl rfl rfl rfl ?_
  refine jT_xiload (v := (0, 2)) (pcN := 26) jIQ_161_24 rfl rfl rfl ?_
  refine jT_xiload (v := (0, 2)) (pcN := 28) jIQ_161_26 rfl rfl rfl ?_
  refine jT_xiconst (k := 1) (pcN := 29) jIQ_161_28 rfl ?_
  refine jT_xicT (pcN := 37) jIQ_161_29 rfl (by decide +kernel) rfl ?_
  refine jT_xiload (v := (0, 2)) (pcN := 39) jIQ_161_37 rfl rfl rfl ?_
  refine jT_xiconst (k := 2) (pcN := 40) jIQ_161_39 rfl ?_
  refine jT_xicF (t := 48) (pcN := 43) jIQ_161_40 rfl (by decide +kernel) rfl rfl ?_
  refine jT_xiload_n (v := (0, r8)) (pcN := 44) jIQ_161_43 rfl rfl rfl ?_
  refine jT_xi2l (x := r8) (z := r8) (pcN := 45) jIQ_161_44 rfl (jw_idd (by omega) (by omega)) rfl ?_
  refine jT_xgoto (pcN := 49) jIQ_161_45 rfl ?_
  refine jT_adv 1 (pcN := 50) (LN := [(5, (0, 2)), (0, (4, 0)), (1, (0, r7)), (2, (0, r8)), (3, (4, 1)), (4, (0, o4))]) (stN := []) (hsN := [jzQ_16, (4, [(4, 13), (1, 1)], []), (8, [(4, 14), (4, 15)], []), jgh, jgh, jgh, jgh, jgh, jgh, (101, [], [0, r7, r8, u9_3, u9_4, u9_5]), (101, [], [k10_0, k10_1, k10_2, k10_3, k10_4, k10_5]), jgh, jgh, (101, [], [0, 0, 0, 0, 0, 0]), jgh, jgh]) (c1 := 0) (s1 := 0) (c2 := 0) (s2 := 0) (by exact rfl) ?_ (by omega) (by omega)
  refine jT_xiinc (x := 2) (z := 3) (LN := [(5, (0, 3)), (0, (4, 0)), (1, (0, r7)), (2, (0, r8)), (3, (4, 1)), (4, (0, o4))]) (pcN := 53) jIQ_161_50 rfl rfl (by decide) rfl rfl ?_
  refine jT_xgoto (pcN := 13) jIQ_161_53 rfl ?_
  refine jT_xiload (v := (0, 3)) (pcN := 15) jIQ_161_13 rfl rfl rfl ?_
  refine jT_xbipush (k := 6) (pcN := 17) jIQ_161_15 (by decide) rfl ?_
  refine jT_xicF (t := 56) (pcN := 20) jIQ_161_17 rfl (by decide +kernel) rfl rfl ?_
  refine jT_xaload_n (v := (4, 0)) (pcN := 21) jIQ_161_20 rfl rfl rfl ?_
  refine jT_xgetf (a := 0) (t := 1) (ci := 13) (fi := 7) (c := jzQ_16) (v := (4, 9)) (pcN := 24) jIQ_161_21 rfl rfl rfl rfl rfl rfl rfl ?_
  refine jT_xiload (v := (0, 3)) (pcN := 26) jIQ_161_24 rfl rfl rfl ?_
  refine jT_xiload (v := (0, 3)) (pcN := 28) jIQ_161_26 rfl rfl rfl ?_
  refine jT_xiconst (k := 1) (pcN := 29) jIQ_161_28 rfl ?_
  refine jT_xicT (pcN := 37) jIQ_161_29 rfl (by decide +kernel) rfl ?_
  refine jT_xiload (v := (0, 3)) (pcN := 39) jIQ_161_37 rfl rfl rfl ?_
  refine jT_xiconst (k := 2) (pcN := 40) jIQ_161_39 rfl ?_
  refine jT_xicT (pcN := 48) jIQ_161_40 rfl (by decide +kernel) rfl ?_
  refine jT_xlconst (z := 0) (pcN := 49) jIQ_161_48 rfl rfl ?_
  refine jT_adv 1 (pcN := 50) (LN := [(5, (0, 3)), (0, (4, 0)), (1, (0, r7)), (2, (0, r8)), (3, (4, 1)), (4, (0, o4))]) (stN := []) (hsN := [jzQ_16, (4, [(4, 13), (1, 1)], []), (8, [(4, 14), (4, 15)], []), jgh, jgh, jgh, jgh, jgh, jgh, (101, [], [0, r7, r8, 0, u9_4, u9_5]), (101, [], [k10_0, k10_1, k10_2, k10_3, k10_4, k10_5]), jgh, jgh, (101, [], [0, 0, 0, 0, 0, 0]), jgh, jgh]) (c1 := 0) (s1 := 0) (c2 := 0) (s2 := 0) (by exact rfl) ?_ (by omega) (by omega)
  refine jT_xiinc (x := 3) (z := 4) (LN := [(5, (0, 4)), (0, (4, 0)), (1, (0, r7)), (2, (0, r8)), (3, (4, 1)), (4, (0, o4))]) (pcN := 53) jIQ_161_50 rfl rfl (by decide) rfl rfl ?_
  refine jT_xgoto (pcN := 13) jIQ_161_53 rfl ?_
  refine jT_xiload (v := (0, 4)) (pcN := 15) jIQ_161_13 rfl rfl rfl ?_
  refine jT_xbipush (k := 6) (pcN := 17) jIQ_161_15 (by decide) rfl ?_
  refine jT_xicF (t := 56) (pcN := 20) jIQ_161_17 rfl (by decide +kernel) rfl rfl ?_
  refine jT_xaload_n (v := (4, 0)) (pcN := 21) jIQ_161_20 rfl rfl rfl ?_
  refine jT_xgetf (a := 0) (t := 1) (ci := 13) (fi := 7) (c := jzQ_16) (v := (4, 9)) (pcN := 24) jIQ_161_21 rfl rfl rfl rfl rfl rfl rfl ?_
  refine jT_xiload (v := (0, 4)) (pcN := 26) jIQ_161_24 rfl rfl rfl ?_
  refine jT_xiload (v := (0, 4)) (pcN := 28) jIQ_161_26 rfl rfl rfl ?_
  refine jT_xiconst (k := 1) (pcN := 29) jIQ_161_28 rfl ?_
  refine jT_xicT (pcN := 37) jIQ_161_29 rfl (by decide +kernel) rfl ?_
  refine jT_xiload (v := (0, 4)) (pcN := 39) jIQ_161_37 rfl rfl rfl ?_
  refine jT_xiconst (k := 2) (pcN := 40) jIQ_161_39 rfl ?_
  refine jT_xicT (pcN := 48) jIQ_161_40 rfl (by decide +kernel) rfl ?_
  refine jT_xlconst (z := 0) (pcN := 49) jIQ_161_48 rfl rfl ?_
  refine jT_adv 1 (pcN := 50) (LN := [(5, (0, 4)), (0, (4, 0)), (1, (0, r7)), (2, (0, r8)), (3, (4, 1)), (4, (0, o4))]) (stN := []) (hsN := [jzQ_16, (4, [(4, 13), (1, 1)], []), (8, [(4, 14), (4, 15)], []), jgh, jgh, jgh, jgh, jgh, jgh, (101, [], [0, r7, r8, 0, 0, u9_5]), (101, [], [k10_0, k10_1, k10_2, k10_3, k10_4, k10_5]), jgh, jgh, (101, [], [0, 0, 0, 0, 0, 0]), jgh, jgh]) (c1 := 0) (s1 := 0) (c2 := 0) (s2 := 0) (by exact rfl) ?_ (by omega) (by omega)
  refine jT_xiinc (x := 4) (z := 5) (LN := [(5, (0, 5)), (0, (4, 0)), (1, (0, r7)), (2, (0, r8)), (3, (4, 1)), (4, (0, o4))]) (pcN := 53) jIQ_161_50 rfl rfl (by decide) rfl rfl ?_
  refine jT_xgoto (pcN := 13) jIQ_161_53 rfl ?_
  refine jT_xiload (v := (0, 5)) (pcN := 15) jIQ_161_13 rfl rfl rfl ?_
  refine jT_xbipush (k := 6) (pcN := 17) jIQ_161_15 (by decide) rfl ?_
  refine jT_xicF (t := 56) (pcN := 20) jIQ_161_17 rfl (by decide +kernel) rfl rfl ?_
  refine jT_xaload_n (v := (4, 0)) (pcN := 21) jIQ_161_20 rfl rfl rfl ?_
  refine jT_xgetf (a := 0) (t := 1) (ci := 13) (fi := 7) (c := jzQ_16) (v := (4, 9)) (pcN := 24) jIQ_161_21 rfl rfl rfl rfl rfl rfl rfl ?_
  refine jT_xiload (v := (0, 5)) (pcN := 26) jIQ_161_24 rfl rfl rfl ?_
  refine jT_xiload (v := (0, 5)) (pcN := 28) jIQ_161_26 rfl rfl rfl ?_
  refine jT_xiconst (k := 1) (pcN := 29) jIQ_161_28 rfl ?_
  refine jT_xicT (pcN := 37) jIQ_161_29 rfl (by decide +kernel) rfl ?_
  refine jT_xiload (v := (0, 5)) (pcN := 39) jIQ_161_37 rfl rfl rfl ?_
  refine jT_xiconst (k := 2) (pcN := 40) jIQ_161_39 rfl ?_
  refine jT_xicT (pcN := 48) jIQ_161_40 rfl (by decide +kernel) rfl ?_
  refine jT_xlconst (z := 0) (pcN := 49) jIQ_161_48 rfl rfl ?_
  refine jT_adv 1 (pcN := 50) (LN := [(5, (0, 5)), (0, (4, 0)), (1, (0, r7)), (2, (0, r8)), (3, (4, 1)), (4, (0, o4))]) (stN := []) (hsN := [jzQ_16, (4, [(4, 13), (1, 1)], []), (8, [(4, 14), (4, 15)], []), jgh, jgh, jgh, jgh, jgh, jgh, (101, [], [0, r7, r8, 0, 0, 0]), (101, [], [k10_0, k10_1, k10_2, k10_3, k10_4, k10_5]), jgh, jgh, (101, [], [0, 0, 0, 0, 0, 0]), jgh, jgh]) (c1 := 0) (s1 := 0) (c2 := 0) (s2 := 0) (by exact rfl) ?_ (by omega) (by omega)
  refine jT_xiinc (x := 5) (z := 6) (LN := [(5, (0, 6)), (0, (4, 0)), (1, (0, r7)), (2, (0, r8)), (3, (4, 1)), (4, (0, o4))]) (pcN := 53) jIQ_161_50 rfl rfl (by decide) rfl rfl ?_
  refine jT_xgoto (pcN := 13) jIQ_161_53 rfl ?_
  refine jT_xiload (v := (0, 6)) (pcN := 15) jIQ_161_13 rfl rfl rfl ?_
  refine jT_xbipush (k := 6) (pcN := 17) jIQ_161_15 (by decide) rfl ?_
  refine jT_xicT (pcN := 56) jIQ_161_17 rfl (by decide +kernel) rfl ?_
  refine jT_xaload_n (v := (4, 0)) (pcN := 57) jIQ_161_56 rfl rfl rfl ?_
  refine jT_xgetf (a := 0) (t := 1) (ci := 13) (fi := 0) (c := jzQ_16) (v := (4, 2)) (pcN := 60) jIQ_161_57 rfl rfl rfl rfl rfl rfl rfl ?_
  refine jT_xaload_n (v := (4, 0)) (pcN := 61) jIQ_161_60 rfl rfl rfl ?_
  refine jT_xgetf (a := 0) (t := 1) (ci := 13) (fi := 7) (c := jzQ_16) (v := (4, 9)) (pcN := 64) jIQ_161_61 rfl rfl rfl rfl rfl rfl rfl ?_
  refine jT_xlconst (z := 1) (pcN := 65) jIQ_161_64 rfl rfl ?_
  refine jT_xlconst (z := 1) (pcN := 66) jIQ_161_65 rfl rfl ?_
  refine jT_callA [2, 9, 14, 15] (y := 45) (pcN := 69) (dC := 1) (bc1 := 0) (bc2 := 0) (c1 := 0) (c2 := 0) (as := [(4, 2), (4, 9), (1, 1), (1, 1)]) (asC := [(4, 0), (4, 1), (1, 1), (1, 1)]) (LN := [(5, (0, 6)), (0, (4, 0)), (1, (0, r7)), (2, (0, r8)), (3, (4, 1)), (4, (0, o4))]) (stN := []) (hsC := [(8, [(4, 2), (4, 3)], []), (101, [], [0, r7, r8, 0, 0, 0]), jgh, jgh]) (ex := []) (v := (1, (108917793695 * r7 + 159561683699 * r8) / 68719476736)) (st2 := [(1, (108917793695 * r7 + 159561683699 * r8) / 68719476736)]) (hs2 := [jzQ_16, (4, [(4, 13), (1, 1)], []), (8, [(4, 14), (4, 15)], []), jgh, jgh, jgh, jgh, jgh, jgh, (101, [], [0, r7, r8, 0, 0, 0]), (101, [], [k10_0, k10_1, k10_2, k10_3, k10_4, k10_5]), jgh, jgh, (101, [], [0, 0, 0, 0, 0, 0]), jgh, jgh]) (jQl_sp45_116 (d := 0) (by omega) (by omega)) (by rfl) (by rfl) (by rfl) (by rfl) ⟨rfl, rfl, rfl, rfl, trivial⟩ (by rfl) (by rfl) (by omega) (by show 16 ≤ 16; omega) (by omega) (by omega) rfl rfl ?_
  have hb_q1 : (-60) ≤ (108917793695 * r7 + 159561683699 * r8) / 68719476736 ∧ (108917793695 * r7 + 159561683699 * r8) / 68719476736 ≤ 60 := ⟨by omega, by omega⟩
  generalize hq_q1 : (108917793695 * r7 + 159561683699 * r8) / 68719476736 = q1 at hb_q1 g_3 g_4 ⊢
  refine jT_xlstore (v := (1, q1)) (LN := [(5, (1, q1)), (0, (4, 0)), (1, (0, r7)), (2, (0, r8)), (3, (4, 1)), (4, (0, o4))]) (pcN := 71) jIQ_161_69 rfl rfl rfl rfl ?_
  have g_5 : 0 ≤ (-68719476736) * q1 + 108917793694 * r7 + 159561683698 * r8 - 1 := by have := jcg (b := r7) (c := r8) (by omega) (by omega) (by omega); rw [hq_q1] at this; omega
  have g_6 : 0 ≤ (-68719476736) * q1 + 108917793694 * r7 + 159561683700 * r8 - 1 := by have := jcg (b := r7) (c := r8) (by omega) (by omega) (by omega); rw [hq_q1] at this; omega
  have g_7 : 0 ≤ (-68719476736) * q1 + 108917793696 * r7 + 159561683698 * r8 - 1 := by have := jcg (b := r7) (c := r8) (by omega) (by omega) (by omega); rw [hq_q1] at this; omega
  have g_8 : 0 ≤ (-68719476736) * q1 + 108917793696 * r7 + 159561683700 * r8 - 1 := by have := jcg (b := r7) (c := r8) (by omega) (by omega) (by omega); rw [hq_q1] at this; omega
  refine jT_xiload (v := (0, o4)) (pcN := 73) jIQ_161_71 rfl rfl rfl ?_
  refine jT_ifF (a := o4) (t := 107) (by rfl) (by rfl) (by rfl) (jw_idd (by omega) (by omega)) (by simp only [jcP] <;> omega) ?_
  refine jT_xiload_n (v := (0, r7)) (pcN := 77) jIQ_161_76 rfl rfl rfl ?_
  refine jT_xi2l (x := r7) (z := r7) (pcN := 78) jIQ_161_77 rfl (jw_idd (by omega) (by omega)) rfl ?_
  refine jT_xaload_n (v := (4, 0)) (pcN := 79) jIQ_161_78 rfl rfl rfl ?_
  refine jT_xgetf (a := 0) (t := 1) (ci := 13) (fi := 8) (c := jzQ_16) (v := (4, 10)) (pcN := 82) jIQ_161_79 rfl rfl rfl rfl rfl rfl rfl ?_
  refine jT_xiconst (k := 1) (pcN := 83) jIQ_161_82 rfl ?_
  refine jT_lald (x := k10_1) (a := 10) (j := 1) (fs := []) (X := [k10_0, k10_1, k10_2, k10_3, k10_4, k10_5]) jIQ_161_83 rfl rfl rfl rfl ?_
  refine jT_eq (LN := [(5, (1, q1)), (0, (4, 0)), (1, (0, r7)), (2, (0, r8)), (3, (4, 1)), (4, (0, o4))]) (stN := [(1, k10_1), (1, r7)]) (hsN := [jzQ_16, (4, [(4, 13), (1, 1)], []), (8, [(4, 14), (4, 15)], []), jgh, jgh, jgh, jgh, jgh, jgh, (101, [], [0, r7, r8, 0, 0, 0]), (101, [], [k10_0, k10_1, k10_2, k10_3, k10_4, k10_5]), jgh, jgh, (101, [], [0, 0, 0, 0, 0, 0]), jgh, jgh]) rfl rfl rfl ?_
  refine jT_xlmul (x := r7) (y := k10_1) (z := r7 * k10_1) (pcN := 85) jIQ_161_84 rfl rfl rfl ?_
  have hb_q2 := jmul_b (x := r7) (y := k10_1) (m := 20) (n := 158) (by omega) (by omega) (by omega) (by omega)
  have hb_q2 : 0 ≤ r7 * k10_1 ∧ r7 * k10_1 ≤ 3160 := ⟨hb_q2.1, by omega⟩
  generalize hq_q2 : r7 * k10_1 = q2 at hb_q2 g_3 g_4 ⊢
  refine jT_xiload_n (v := (0, r8)) (pcN := 86) jIQ_161_85 rfl rfl rfl ?_
  refine jT_xi2l (x := r8) (z := r8) (pcN := 87) jIQ_161_86 rfl (jw_idd (by omega) (by omega)) rfl ?_
  refine jT_xaload_n (v := (4, 0)) (pcN := 88) jIQ_161_87 rfl rfl rfl ?_
  refine jT_xgetf (a := 0) (t := 1) (ci := 13) (fi := 8) (c := jzQ_16) (v := (4, 10)) (pcN := 91) jIQ_161_88 rfl rfl rfl rfl rfl rfl rfl ?_
  refine jT_xiconst (k := 2) (pcN := 92) jIQ_161_91 rfl ?_
  refine jT_lald (x := k10_2) (a := 10) (j := 2) (fs := []) (X := [k10_0, k10_1, k10_2, k10_3, k10_4, k10_5]) jIQ_161_92 rfl rfl rfl rfl ?_
  refine jT_eq (LN := [(5, (1, q1)), (0, (4, 0)), (1, (0, r7)), (2, (0, r8)), (3, (4, 1)), (4, (0, o4))]) (stN := [(1, k10_2), (1, r8), (1, q2)]) (hsN := [jzQ_16, (4, [(4, 13), (1, 1)], []), (8, [(4, 14), (4, 15)], []), jgh, jgh, jgh, jgh, jgh, jgh, (101, [], [0, r7, r8, 0, 0, 0]), (101, [], [k10_0, k10_1, k10_2, k10_3, k10_4, k10_5]), jgh, jgh, (101, [], [0, 0, 0, 0, 0, 0]), jgh, jgh]) rfl rfl rfl ?_
  refine jT_xlmul (x := r8) (y := k10_2) (z := r8 * k10_2) (pcN := 94) jIQ_161_93 rfl rfl rfl ?_
  have hb_q3 := jmul_b2 (x := r8) (y := k10_2) (k := 1) (l := 2) (m := 10) (n := 232) (by omega) (by omega) (by omega) (by omega) (by omega) (by omega)
  have hb_q3 : 2 ≤ r8 * k10_2 ∧ r8 * k10_2 ≤ 2320 := ⟨by omega, by omega⟩
  generalize hq_q3 : r8 * k10_2 = q3 at hb_q3 g_3 g_4 ⊢
  refine jT_xladd (x := q2) (y := q3) (z := q2 + q3) (pcN := 95) jIQ_161_94 rfl (rfl) rfl ?_
  refine jT_xlload (v := (1, q1)) (pcN := 97) jIQ_161_95 rfl rfl rfl ?_
  refine jT_xiload (v := (0, o4)) (pcN := 99) jIQ_161_97 rfl rfl rfl ?_
  refine jT_xi2l (x := o4) (z := o4) (pcN := 100) jIQ_161_99 rfl (jw_idd (by omega) (by omega)) rfl ?_
  refine jT_xlmul (x := q1) (y := o4) (z := q1 * o4) (pcN := 101) jIQ_161_100 rfl rfl rfl ?_
  have hb_q4 := jmul_bs (x := q1) (y := o4) (m := 60) (n := 100) (by omega) (by omega) (by omega) (by omega)
  have hb_q4 : (-6000) ≤ q1 * o4 ∧ q1 * o4 ≤ 6000 := ⟨by omega, by omega⟩
  generalize hq_q4 : q1 * o4 = q4 at hb_q4 g_3 g_4 ⊢
  refine jT_lcmp (a := q2 + q3) (b := q4) (z := 0) (by rfl) (by rfl) (jwl_idd (by omega) (by omega)) (jwl_idd (by omega) (by omega)) (by rw [decide_eq_false (show ¬ ((q4 : Int) < q2 + q3) by omega), decide_eq_true (show (q2 + q3 : Int) = q4 by omega)]; rfl) ?_
  refine jT_xifT (pcN := 107) jIQ_161_102 rfl (by decide +kernel) rfl ?_
  refine jT_xaload_n (v := (4, 0)) (pcN := 108) jIQ_161_107 rfl rfl rfl ?_
  refine jT_xgetf (a := 0) (t := 1) (ci := 13) (fi := 7) (c := jzQ_16) (v := (4, 9)) (pcN := 111) jIQ_161_108 rfl rfl rfl rfl rfl rfl rfl ?_
  refine jT_xiconst (k := 0) (pcN := 112) jIQ_161_111 rfl ?_
  refine jT_xlload (v := (1, q1)) (pcN := 114) jIQ_161_112 rfl rfl rfl ?_
  refine jT_adv 2 (pcN := 116) (LN := [(5, (1, q1)), (0, (4, 0)), (1, (0, r7)), (2, (0, r8)), (3, (4, 1)), (4, (0, o4))]) (stN := []) (hsN := [jzQ_16, (4, [(4, 13), (1, 1)], []), (8, [(4, 14), (4, 15)], []), jgh, jgh, jgh, jgh, jgh, jgh, (101, [], [-q1, r7, r8, 0, 0, 0]), (101, [], [k10_0, k10_1, k10_2, k10_3, k10_4, k10_5]), jgh, jgh, (101, [], [0, 0, 0, 0, 0, 0]), jgh, jgh]) (c1 := 0) (s1 := 0) (c2 := 0) (s2 := 0) (by exact rfl) ?_ (by omega) (by omega)
  refine jT_xiconst (k := 0) (pcN := 117) jIQ_161_116 rfl ?_
  refine jT_xistore (v := (0, 0)) (LN := [(7, (0, 0)), (5, (1, q1)), (0, (4, 0)), (1, (0, r7)), (2, (0, r8)), (3, (4, 1)), (4, (0, o4))]) (pcN := 119) jIQ_161_117 rfl rfl rfl rfl ?_
  refine jT_xiload (v := (0, 0)) (pcN := 121) jIQ_161_119 rfl rfl rfl ?_
  refine jT_xbipush (k := 6) (pcN := 123) jIQ_161_121 (by decide) rfl ?_
  refine jT_xicF (t := 159) (pcN := 126) jIQ_161_123 rfl (by decide +kernel) rfl rfl ?_
  refine jT_xaload_n (v := (4, 0)) (pcN := 127) jIQ_161_126 rfl rfl rfl ?_
  refine jT_xgetf (a := 0) (t := 1) (ci := 13) (fi := 7) (c := jzQ_16) (v := (4, 9)) (pcN := 130) jIQ_161_127 rfl rfl rfl rfl rfl rfl rfl ?_
  refine jT_xiload (v := (0, 0)) (pcN := 132) jIQ_161_130 rfl rfl rfl ?_
  refine jT_xaload_n (v := (4, 1)) (pcN := 133) jIQ_161_132 rfl rfl rfl ?_
  refine jT_xgetf (a := 1) (t := 2) (ci := 4) (fi := 0) (c := (4, [(4, 13), (1, 1)], [])) (v := (4, 13)) (pcN := 136) jIQ_161_133 rfl rfl rfl rfl rfl rfl rfl ?_
  refine jT_xiload (v := (0, 0)) (pcN := 138) jIQ_161_136 rfl rfl rfl ?_
  refine jT_lald (x := 0) (a := 13) (j := 0) (fs := []) (X := [0, 0, 0, 0, 0, 0]) jIQ_161_138 rfl rfl rfl rfl ?_
  refine jT_eq (LN := [(7, (0, 0)), (5, (1, q1)), (0, (4, 0)), (1, (0, r7)), (2, (0, r8)), (3, (4, 1)), (4, (0, o4))]) (stN := [(1, 0), (0, 0), (4, 9)]) (hsN := [jzQ_16, (4, [(4, 13), (1, 1)], []), (8, [(4, 14), (4, 15)], []), jgh, jgh, jgh, jgh, jgh, jgh, (101, [], [-q1, r7, r8, 0, 0, 0]), (101, [], [k10_0, k10_1, k10_2, k10_3, k10_4, k10_5]), jgh, jgh, (101, [], [0, 0, 0, 0, 0, 0]), jgh, jgh]) rfl rfl rfl ?_
  refine jT_xaload_n (v := (4, 0)) (pcN := 140) jIQ_161_139 rfl rfl rfl ?_
  refine jT_xgetf (a := 0) (t := 1) (ci := 13) (fi := 7) (c := jzQ_16) (v := (4, 9)) (pcN := 143) jIQ_161_140 rfl rfl rfl rfl rfl rfl rfl ?_
  refine jT_xiload (v := (0, 0)) (pcN := 145) jIQ_161_143 rfl rfl rfl ?_
  refine jT_lald (x := -q1) (a := 9) (j := 0) (fs := []) (X := [-q1, r7, r8, 0, 0, 0]) jIQ_161_145 rfl rfl rfl rfl ?_
  refine jT_eq (LN := [(7, (0, 0)), (5, (1, q1)), (0, (4, 0)), (1, (0, r7)), (2, (0, r8)), (3, (4, 1)), (4, (0, o4))]) (stN := [(1, -q1), (1, 0), (0, 0), (4, 9)]) (hsN := [jzQ_16, (4, [(4, 13), (1, 1)], []), (8, [(4, 14), (4, 15)], []), jgh, jgh, jgh, jgh, jgh, jgh, (101, [], [-q1, r7, r8, 0, 0, 0]), (101, [], [k10_0, k10_1, k10_2, k10_3, k10_4, k10_5]), jgh, jgh, (101, [], [0, 0, 0, 0, 0, 0]), jgh, jgh]) rfl rfl rfl ?_
  refine jT_xaload_n (v := (4, 1)) (pcN := 147) jIQ_161_146 rfl rfl rfl ?_
  refine jT_xgetf (a := 1) (t := 2) (ci := 4) (fi := 1) (c := (4, [(4, 13), (1, 1)], [])) (v := (1, 1)) (pcN := 150) jIQ_161_147 rfl rfl rfl rfl rfl rfl rfl ?_
  refine jT_xlmul (x := -q1) (y := 1) (z := -q1) (pcN := 151) jIQ_161_150 rfl (by omega) rfl ?_
  refine jT_xlsub (x := 0) (y := -q1) (z := q1) (pcN := 152) jIQ_161_151 rfl (by omega) rfl ?_
  refine jT_adv 1 (pcN := 153) (LN := [(7, (0, 0)), (5, (1, q1)), (0, (4, 0)), (1, (0, r7)), (2, (0, r8)), (3, (4, 1)), (4, (0, o4))]) (stN := []) (hsN := [jzQ_16, (4, [(4, 13), (1, 1)], []), (8, [(4, 14), (4, 15)], []), jgh, jgh, jgh, jgh, jgh, jgh, (101, [], [q1, r7, r8, 0, 0, 0]), (101, [], [k10_0, k10_1, k10_2, k10_3, k10_4, k10_5]), jgh, jgh, (101, [], [0, 0, 0, 0, 0, 0]), jgh, jgh]) (c1 := 0) (s1 := 0) (c2 := 0) (s2 := 0) (by exact rfl) ?_ (by omega) (by omega)
  refine jT_xiinc (x := 0) (z := 1) (LN := [(7, (0, 1)), (5, (1, q1)), (0, (4, 0)), (1, (0, r7)), (2, (0, r8)), (3, (4, 1)), (4, (0, o4))]) (pcN := 156) jIQ_161_153 rfl rfl (by decide) rfl rfl ?_
  refine jT_xgoto (pcN := 119) jIQ_161_156 rfl ?_
  refine jT_xiload (v := (0, 1)) (pcN := 121) jIQ_161_119 rfl rfl rfl ?_
  refine jT_xbipush (k := 6) (pcN := 123) jIQ_161_121 (by decide) rfl ?_
  refine jT_xicF (t := 159) (pcN := 126) jIQ_161_123 rfl (by decide +kernel) rfl rfl ?_
  refine jT_xaload_n (v := (4, 0)) (pcN := 127) jIQ_161_126 rfl rfl rfl ?_
  refine jT_xgetf (a := 0) (t := 1) (ci := 13) (fi := 7) (c := jzQ_16) (v := (4, 9)) (pcN := 130) jIQ_161_127 rfl rfl rfl rfl rfl rfl rfl ?_
  refine jT_xiload (v := (0, 1)) (pcN := 132) jIQ_161_130 rfl rfl rfl ?_
  refine jT_xaload_n (v := (4, 1)) (pcN := 133) jIQ_161_132 rfl rfl rfl ?_
  refine jT_xgetf (a := 1) (t := 2) (ci := 4) (fi := 0) (c := (4, [(4, 13), (1, 1)], [])) (v := (4, 13)) (pcN := 136) jIQ_161_133 rfl rfl rfl rfl rfl rfl rfl ?_
  refine jT_xiload (v := (0, 1)) (pcN := 138) jIQ_161_136 rfl rfl rfl ?_
  refine jT_lald (x := 0) (a := 13) (j := 1) (fs := []) (X := [0, 0, 0, 0, 0, 0]) jIQ_161_138 rfl rfl rfl rfl ?_
  refine jT_eq (LN := [(7, (0, 1)), (5, (1, q1)), (0, (4, 0)), (1, (0, r7)), (2, (0, r8)), (3, (4, 1)), (4, (0, o4))]) (stN := [(1, 0), (0, 1), (4, 9)]) (hsN := [jzQ_16, (4, [(4, 13), (1, 1)], []), (8, [(4, 14), (4, 15)], []), jgh, jgh, jgh, jgh, jgh, jgh, (101, [], [q1, r7, r8, 0, 0, 0]), (101, [], [k10_0, k10_1, k10_2, k10_3, k10_4, k10_5]), jgh, jgh, (101, [], [0, 0, 0, 0, 0, 0]), jgh, jgh]) rfl rfl rfl ?_
  refine jT_xaload_n (v := (4, 0)) (pcN := 140) jIQ_161_139 rfl rfl rfl ?_
  refine jT_xgetf (a := 0) (t := 1) (ci := 13) (fi := 7) (c := jzQ_16) (v := (4, 9)) (pcN := 143) jIQ_161_140 rfl rfl rfl rfl rfl rfl rfl ?_
  refine jT_xiload (v := (0, 1)) (pcN := 145) jIQ_161_143 rfl rfl rfl ?_
  refine jT_lald (x := r7) (a := 9) (j := 1) (fs := []) (X := [q1, r7, r8, 0, 0, 0]) jIQ_161_145 rfl rfl rfl rfl ?_
  refine jT_eq (LN := [(7, (0, 1)), (5, (1, q1)), (0, (4, 0)), (1, (0, r7)), (2, (0, r8)), (3, (4, 1)), (4, (0, o4))]) (stN := [(1, r7), (1, 0), (0, 1), (4, 9)]) (hsN := [jzQ_16, (4, [(4, 13), (1, 1)], []), (8, [(4, 14), (4, 15)], []), jgh, jgh, jgh, jgh, jgh, jgh, (101, [], [q1, r7, r8, 0, 0, 0]), (101, [], [k10_0, k10_1, k10_2, k10_3, k10_4, k10_5]), jgh, jgh, (101, [], [0, 0, 0, 0, 0, 0]), jgh, jgh]) rfl rfl rfl ?_
  refine jT_xaload_n (v := (4, 1)) (pcN := 147) jIQ_161_146 rfl rfl rfl ?_
  refine jT_xgetf (a := 1) (t := 2) (ci := 4) (fi := 1) (c := (4, [(4, 13), (1, 1)], [])) (v := (1, 1)) (pcN := 150) jIQ_161_147 rfl rfl rfl rfl rfl rfl rfl ?_
  refine jT_xlmul (x := r7) (y := 1) (z := r7) (pcN := 151) jIQ_161_150 rfl (by omega) rfl ?_
  refine jT_xlsub (x := 0) (y := r7) (z := -r7) (pcN := 152) jIQ_161_151 rfl (by omega) rfl ?_
  refine jT_adv 1 (pcN := 153) (LN := [(7, (0, 1)), (5, (1, q1)), (0, (4, 0)), (1, (0, r7)), (2, (0, r8)), (3, (4, 1)), (4, (0, o4))]) (stN := []) (hsN := [jzQ_16, (4, [(4, 13), (1, 1)], []), (8, [(4, 14), (4, 15)], []), jgh, jgh, jgh, jgh, jgh, jgh, (101, [], [q1, -r7, r8, 0, 0, 0]), (101, [], [k10_0, k10_1, k10_2, k10_3, k10_4, k10_5]), jgh, jgh, (101, [], [0, 0, 0, 0, 0, 0]), jgh, jgh]) (c1 := 0) (s1 := 0) (c2 := 0) (s2 := 0) (by exact rfl) ?_ (by omega) (by omega)
  refine jT_xiinc (x := 1) (z := 2) (LN := [(7, (0, 2)), (5, (1, q1)), (0, (4, 0)), (1, (0, r7)), (2, (0, r8)), (3, (4, 1)), (4, (0, o4))]) (pcN := 156) jIQ_161_153 rfl rfl (by decide) rfl rfl ?_
  refine jT_xgoto (pcN := 119) jIQ_161_156 rfl ?_
  refine jT_xiload (v := (0, 2)) (pcN := 121) jIQ_161_119 rfl rfl rfl ?_
  refine jT_xbipush (k := 6) (pcN := 123) jIQ_161_121 (by decide) rfl ?_
  refine jT_xicF (t := 159) (pcN := 126) jIQ_161_123 rfl (by decide +kernel) rfl rfl ?_
  refine jT_xaload_n (v := (4, 0)) (pcN := 127) jIQ_161_126 rfl rfl rfl ?_
  refine jT_xgetf (a := 0) (t := 1) (ci := 13) (fi := 7) (c := jzQ_16) (v := (4, 9)) (pcN := 130) jIQ_161_127 rfl rfl rfl rfl rfl rfl rfl ?_
  refine jT_xiload (v := (0, 2)) (pcN := 132) jIQ_161_130 rfl rfl rfl ?_
  refine jT_xaload_n (v := (4, 1)) (pcN := 133) jIQ_161_132 rfl rfl rfl ?_
  refine jT_xgetf (a := 1) (t := 2) (ci := 4) (fi := 0) (c := (4, [(4, 13), (1, 1)], [])) (v := (4, 13)) (pcN := 136) jIQ_161_133 rfl rfl rfl rfl rfl rfl rfl ?_
  refine jT_xiload (v := (0, 2)) (pcN := 138) jIQ_161_136 rfl rfl rfl ?_
  refine jT_lald (x := 0) (a := 13) (j := 2) (fs := []) (X := [0, 0, 0, 0, 0, 0]) jIQ_161_138 rfl rfl rfl rfl ?_
  refine jT_eq (LN := [(7, (0, 2)), (5, (1, q1)), (0, (4, 0)), (1, (0, r7)), (2, (0, r8)), (3, (4, 1)), (4, (0, o4))]) (stN := [(1, 0), (0, 2), (4, 9)]) (hsN := [jzQ_16, (4, [(4, 13), (1, 1)], []), (8, [(4, 14), (4, 15)], []), jgh, jgh, jgh, jgh, jgh, jgh, (101, [], [q1, -r7, r8, 0, 0, 0]), (101, [], [k10_0, k10_1, k10_2, k10_3, k10_4, k10_5]), jgh, jgh, (101, [], [0, 0, 0, 0, 0, 0]), jgh, jgh]) rfl rfl rfl ?_
  refine jT_xaload_n (v := (4, 0)) (pcN := 140) jIQ_161_139 rfl rfl rfl ?_
  refine jT_xgetf (a := 0) (t := 1) (ci := 13) (fi := 7) (c := jzQ_16) (v := (4, 9)) (pcN := 143) jIQ_161_140 rfl rfl rfl rfl rfl rfl rfl ?_
  refine jT_xiload (v := (0, 2)) (pcN := 145) jIQ_161_143 rfl rfl rfl ?_
  refine jT_lald (x := r8) (a := 9) (j := 2) (fs := []) (X := [q1, -r7, r8, 0, 0, 0]) jIQ_161_145 rfl rfl rfl rfl ?_
  refine jT_eq (LN := [(7, (0, 2)), (5, (1, q1)), (0, (4, 0)), (1, (0, r7)), (2, (0, r8)), (3, (4, 1)), (4, (0, o4))]) (stN := [(1, r8), (1, 0), (0, 2), (4, 9)]) (hsN := [jzQ_16, (4, [(4, 13), (1, 1)], []), (8, [(4, 14), (4, 15)], []), jgh, jgh, jgh, jgh, jgh, jgh, (101, [], [q1, -r7, r8, 0, 0, 0]), (101, [], [k10_0, k10_1, k10_2, k10_3, k10_4, k10_5]), jgh, jgh, (101, [], [0, 0, 0, 0, 0, 0]), jgh, jgh]) rfl rfl rfl ?_
  refine jT_xaload_n (v := (4, 1)) (pcN := 147) jIQ_161_146 rfl rfl rfl ?_
  refine jT_xgetf (a := 1) (t := 2) (ci := 4) (fi := 1) (c := (4, [(4, 13), (1, 1)], [])) (v := (1, 1)) (pcN := 150) jIQ_161_147 rfl rfl rfl rfl rfl rfl rfl ?_
  refine jT_xlmul (x := r8) (y := 1) (z := r8) (pcN := 151) jIQ_161_150 rfl (by omega) rfl ?_
  refine jT_xlsub (x := 0) (y := r8) (z := -r8) (pcN := 152) jIQ_161_151 rfl (by omega) rfl ?_
  refine jT_adv 1 (pcN := 153) (LN := [(7, (0, 2)), (5, (1, q1)), (0, (4, 0)), (1, (0, r7)), (2, (0, r8)), (3, (4, 1)), (4, (0, o4))]) (stN := []) (hsN := [jzQ_16, (4, [(4, 13), (1, 1)], []), (8, [(4, 14), (4, 15)], []), jgh, jgh, jgh, jgh, jgh, jgh, (101, [], [q1, -r7, -r8, 0, 0, 0]), (101, [], [k10_0, k10_1, k10_2, k10_3, k10_4, k10_5]), jgh, jgh, (101, [], [0, 0, 0, 0, 0, 0]), jgh, jgh]) (c1 := 0) (s1 := 0) (c2 := 0) (s2 := 0) (by exact rfl) ?_ (by omega) (by omega)
  refine jT_xiinc (x := 2) (z := 3) (LN := [(7, (0, 3)), (5, (1, q1)), (0, (4, 0)), (1, (0, r7)), (2, (0, r8)), (3, (4, 1)), (4, (0, o4))]) (pcN := 156) jIQ_161_153 rfl rfl (by decide) rfl rfl ?_
  refine jT_xgoto (pcN := 119) jIQ_161_156 rfl ?_
  refine jT_xiload (v := (0, 3)) (pcN := 121) jIQ_161_119 rfl rfl rfl ?_
  refine jT_xbipush (k := 6) (pcN := 123) jIQ_161_121 (by decide) rfl ?_
  refine jT_xicF (t := 159) (pcN := 126) jIQ_161_123 rfl (by decide +kernel) rfl rfl ?_
  refine jT_xaload_n (v := (4, 0)) (pcN := 127) jIQ_161_126 rfl rfl rfl ?_
  refine jT_xgetf (a := 0) (t := 1) (ci := 13) (fi := 7) (c := jzQ_16) (v := (4, 9)) (pcN := 130) jIQ_161_127 rfl rfl rfl rfl rfl rfl rfl ?_
  refine jT_xiload (v := (0, 3)) (pcN := 132) jIQ_161_130 rfl rfl rfl ?_
  refine jT_xaload_n (v := (4, 1)) (pcN := 133) jIQ_161_132 rfl rfl rfl ?_
  refine jT_xgetf (a := 1) (t := 2) (ci := 4) (fi := 0) (c := (4, [(4, 13), (1, 1)], [])) (v := (4, 13)) (pcN := 136) jIQ_161_133 rfl rfl rfl rfl rfl rfl rfl ?_
  refine jT_xiload (v := (0, 3)) (pcN := 138) jIQ_161_136 rfl rfl rfl ?_
  refine jT_lald (x := 0) (a := 13) (j := 3) (fs := []) (X := [0, 0, 0, 0, 0, 0]) jIQ_161_138 rfl rfl rfl rfl ?_
  refine jT_eq (LN := [(7, (0, 3)), (5, (1, q1)), (0, (4, 0)), (1, (0, r7)), (2, (0, r8)), (3, (4, 1)), (4, (0, o4))]) (stN := [(1, 0), (0, 3), (4, 9)]) (hsN := [jzQ_16, (4, [(4, 13), (1, 1)], []), (8, [(4, 14), (4, 15)], []), jgh, jgh, jgh, jgh, jgh, jgh, (101, [], [q1, -r7, -r8, 0, 0, 0]), (101, [], [k10_0, k10_1, k10_2, k10_3, k10_4, k10_5]), jgh, jgh, (101, [], [0, 0, 0, 0, 0, 0]), jgh, jgh]) rfl rfl rfl ?_
  refine jT_xaload_n (v := (4, 0)) (pcN := 140) jIQ_161_139 rfl rfl rfl ?_
  refine jT_xgetf (a := 0) (t := 1) (ci := 13) (fi := 7) (c := jzQ_16) (v := (4, 9)) (pcN := 143) jIQ_161_140 rfl rfl rfl rfl rfl rfl rfl ?_
  refine jT_xiload (v := (0, 3)) (pcN := 145) jIQ_161_143 rfl rfl rfl ?_
  refine jT_lald (x := 0) (a := 9) (j := 3) (fs := []) (X := [q1, -r7, -r8, 0, 0, 0]) jIQ_161_145 rfl rfl rfl rfl ?_
  refine jT_eq (LN := [(7, (0, 3)), (5, (1, q1)), (0, (4, 0)), (1, (0, r7)), (2, (0, r8)), (3, (4, 1)), (4, (0, o4))]) (stN := [(1, 0), (1, 0), (0, 3), (4, 9)]) (hsN := [jzQ_16, (4, [(4, 13), (1, 1)], []), (8, [(4, 14), (4, 15)], []), jgh, jgh, jgh, jgh, jgh, jgh, (101, [], [q1, -r7, -r8, 0, 0, 0]), (101, [], [k10_0, k10_1, k10_2, k10_3, k10_4, k10_5]), jgh, jgh, (101, [], [0, 0, 0, 0, 0, 0]), jgh, jgh]) rfl rfl rfl ?_
  refine jT_xaload_n (v := (4, 1)) (pcN := 147) jIQ_161_146 rfl rfl rfl ?_
  refine jT_xgetf (a := 1) (t := 2) (ci := 4) (fi := 1) (c := (4, [(4, 13), (1, 1)], [])) (v := (1, 1)) (pcN := 150) jIQ_161_147 rfl rfl rfl rfl rfl rfl rfl ?_
  refine jT_xlmul (x := 0) (y := 1) (z := 0) (pcN := 151) jIQ_161_150 rfl (by decide) rfl ?_
  refine jT_xlsub (x := 0) (y := 0) (z := 0) (pcN := 152) jIQ_161_151 rfl (by decide) rfl ?_
  refine jT_adv 1 (pcN := 153) (LN := [(7, (0, 3)), (5, (1, q1)), (0, (4, 0)), (1, (0, r7)), (2, (0, r8)), (3, (4, 1)), (4, (0, o4))]) (stN := []) (hsN := [jzQ_16, (4, [(4, 13), (1, 1)], []), (8, [(4, 14), (4, 15)], []), jgh, jgh, jgh, jgh, jgh, jgh, (101, [], [q1, -r7, -r8, 0, 0, 0]), (101, [], [k10_0, k10_1, k10_2, k10_3, k10_4, k10_5]), jgh, jgh, (101, [], [0, 0, 0, 0, 0, 0]), jgh, jgh]) (c1 := 0) (s1 := 0) (c2 := 0) (s2 := 0) (by exact rfl) ?_ (by omega) (by omega)
  refine jT_xiinc (x := 3) (z := 4) (LN := [(7, (0, 4)), (5, (1, q1)), (0, (4, 0)), (1, (0, r7)), (2, (0, r8)), (3, (4, 1)), (4, (0, o4))]) (pcN := 156) jIQ_161_153 rfl rfl (by decide) rfl rfl ?_
  refine jT_xgoto (pcN := 119) jIQ_161_156 rfl ?_
  refine jT_xiload (v := (0, 4)) (pcN := 121) jIQ_161_119 rfl rfl rfl ?_
  refine jT_xbipush (k := 6) (pcN := 123) jIQ_161_121 (by decide) rfl ?_
  refine jT_xicF (t := 159) (pcN := 126) jIQ_161_123 rfl (by decide +kernel) rfl rfl ?_
  refine jT_xaload_n (v := (4, 0)) (pcN := 127) jIQ_161_126 rfl rfl rfl ?_
  refine jT_xgetf (a := 0) (t := 1) (ci := 13) (fi := 7) (c := jzQ_16) (v := (4, 9)) (pcN := 130) jIQ_161_127 rfl rfl rfl rfl rfl rfl rfl ?_
  refine jT_xiload (v := (0, 4)) (pcN := 132) jIQ_161_130 rfl rfl rfl ?_
  refine jT_xaload_n (v := (4, 1)) (pcN := 133) jIQ_161_132 rfl rfl rfl ?_
  refine jT_xgetf (a := 1) (t := 2) (ci := 4) (fi := 0) (c := (4, [(4, 13), (1, 1)], [])) (v := (4, 13)) (pcN := 136) jIQ_161_133 rfl rfl rfl rfl rfl rfl rfl ?_
  refine jT_xiload (v := (0, 4)) (pcN := 138) jIQ_161_136 rfl rfl rfl ?_
  refine jT_lald (x := 0) (a := 13) (j := 4) (fs := []) (X := [0, 0, 0, 0, 0, 0]) jIQ_161_138 rfl rfl rfl rfl ?_
  refine jT_eq (LN := [(7, (0, 4)), (5, (1, q1)), (0, (4, 0)), (1, (0, r7)), (2, (0, r8)), (3, (4, 1)), (4, (0, o4))]) (stN := [(1, 0), (0, 4), (4, 9)]) (hsN := [jzQ_16, (4, [(4, 13), (1, 1)], []), (8, [(4, 14), (4, 15)], []), jgh, jgh, jgh, jgh, jgh, jgh, (101, [], [q1, -r7, -r8, 0, 0, 0]), (101, [], [k10_0, k10_1, k10_2, k10_3, k10_4, k10_5]), jgh, jgh, (101, [], [0, 0, 0, 0, 0, 0]), jgh, jgh]) rfl rfl rfl ?_
  refine jT_xaload_n (v := (4, 0)) (pcN := 140) jIQ_161_139 rfl rfl rfl ?_
  refine jT_xgetf (a := 0) (t := 1) (ci := 13) (fi := 7) (c := jzQ_16) (v := (4, 9)) (pcN := 143) jIQ_161_140 rfl rfl rfl rfl rfl rfl rfl ?_
  refine jT_xiload (v := (0, 4)) (pcN := 145) jIQ_161_143 rfl rfl rfl ?_
  refine jT_lald (x := 0) (a := 9) (j := 4) (fs := []) (X := [q1, -r7, -r8, 0, 0, 0]) jIQ_161_145 rfl rfl rfl rfl ?_
  refine jT_eq (LN := [(7, (0, 4)), (5, (1, q1)), (0, (4, 0)), (1, (0, r7)), (2, (0, r8)), (3, (4, 1)), (4, (0, o4))]) (stN := [(1, 0), (1, 0), (0, 4), (4, 9)]) (hsN := [jzQ_16, (4, [(4, 13), (1, 1)], []), (8, [(4, 14), (4, 15)], []), jgh, jgh, jgh, jgh, jgh, jgh, (101, [], [q1, -r7, -r8, 0, 0, 0]), (101, [], [k10_0, k10_1, k10_2, k10_3, k10_4, k10_5]), jgh, jgh, (101, [], [0, 0, 0, 0, 0, 0]), jgh, jgh]) rfl rfl rfl ?_
  refine jT_xaload_n (v := (4, 1)) (pcN := 147) jIQ_161_146 rfl rfl rfl ?_
  refine jT_xgetf (a := 1) (t := 2) (ci := 4) (fi := 1) (c := (4, [(4, 13), (1, 1)], [])) (v := (1, 1)) (pcN := 150) jIQ_161_147 rfl rfl rfl rfl rfl rfl rfl ?_
  refine jT_xlmul (x := 0) (y := 1) (z := 0) (pcN := 151) jIQ_161_150 rfl (by decide) rfl ?_
  refine jT_xlsub (x := 0) (y := 0) (z := 0) (pcN := 152) jIQ_161_151 rfl (by decide) rfl ?_
  refine jT_adv 1 (pcN := 153) (LN := [(7, (0, 4)), (5, (1, q1)), (0, (4, 0)), (1, (0, r7)), (2, (0, r8)), (3, (4, 1)), (4, (0, o4))]) (stN := []) (hsN := [jzQ_16, (4, [(4, 13), (1, 1)], []), (8, [(4, 14), (4, 15)], []), jgh, jgh, jgh, jgh, jgh, jgh, (101, [], [q1, -r7, -r8, 0, 0, 0]), (101, [], [k10_0, k10_1, k10_2, k10_3, k10_4, k10_5]), jgh, jgh, (101, [], [0, 0, 0, 0, 0, 0]), jgh, jgh]) (c1 := 0) (s1 := 0) (c2 := 0) (s2 := 0) (by exact rfl) ?_ (by omega) (by omega)
  refine jT_xiinc (x := 4) (z := 5) (LN := [(7, (0, 5)), (5, (1, q1)), (0, (4, 0)), (1, (0, r7)), (2, (0, r8)), (3, (4, 1)), (4, (0, o4))]) (pcN := 156) jIQ_161_153 rfl rfl (by decide) rfl rfl ?_
  refine jT_xgoto (pcN := 119) jIQ_161_156 rfl ?_
  refine jT_xiload (v := (0, 5)) (pcN := 121) jIQ_161_119 rfl rfl rfl ?_
  refine jT_xbipush (k := 6) (pcN := 123) jIQ_161_121 (by decide) rfl ?_
  refine jT_xicF (t := 159) (pcN := 126) jIQ_161_123 rfl (by decide +kernel) rfl rfl ?_
  refine jT_xaload_n (v := (4, 0)) (pcN := 127) jIQ_161_126 rfl rfl rfl ?_
  refine jT_xgetf (a := 0) (t := 1) (ci := 13) (fi := 7) (c := jzQ_16) (v := (4, 9)) (pcN := 130) jIQ_161_127 rfl rfl rfl rfl rfl rfl rfl ?_
  refine jT_xiload (v := (0, 5)) (pcN := 132) jIQ_161_130 rfl rfl rfl ?_
  refine jT_xaload_n (v := (4, 1)) (pcN := 133) jIQ_161_132 rfl rfl rfl ?_
  refine jT_xgetf (a := 1) (t := 2) (ci := 4) (fi := 0) (c := (4, [(4, 13), (1, 1)], [])) (v := (4, 13)) (pcN := 136) jIQ_161_133 rfl rfl rfl rfl rfl rfl rfl ?_
  refine jT_xiload (v := (0, 5)) (pcN := 138) jIQ_161_136 rfl rfl rfl ?_
  refine jT_lald (x := 0) (a := 13) (j := 5) (fs := []) (X := [0, 0, 0, 0, 0, 0]) jIQ_161_138 rfl rfl rfl rfl ?_
  refine jT_eq (LN := [(7, (0, 5)), (5, (1, q1)), (0, (4, 0)), (1, (0, r7)), (2, (0, r8)), (3, (4, 1)), (4, (0, o4))]) (stN := [(1, 0), (0, 5), (4, 9)]) (hsN := [jzQ_16, (4, [(4, 13), (1, 1)], []), (8, [(4, 14), (4, 15)], []), jgh, jgh, jgh, jgh, jgh, jgh, (101, [], [q1, -r7, -r8, 0, 0, 0]), (101, [], [k10_0, k10_1, k10_2, k10_3, k10_4, k10_5]), jgh, jgh, (101, [], [0, 0, 0, 0, 0, 0]), jgh, jgh]) rfl rfl rfl ?_
  refine jT_xaload_n (v := (4, 0)) (pcN := 140) jIQ_161_139 rfl rfl rfl ?_
  refine jT_xgetf (a := 0) (t := 1) (ci := 13) (fi := 7) (c := jzQ_16) (v := (4, 9)) (pcN := 143) jIQ_161_140 rfl rfl rfl rfl rfl rfl rfl ?_
  refine jT_xiload (v := (0, 5)) (pcN := 145) jIQ_161_143 rfl rfl rfl ?_
  refine jT_lald (x := 0) (a := 9) (j := 5) (fs := []) (X := [q1, -r7, -r8, 0, 0, 0]) jIQ_161_145 rfl rfl rfl rfl ?_
  refine jT_eq (LN := [(7, (0, 5)), (5, (1, q1)), (0, (4, 0)), (1, (0, r7)), (2, (0, r8)), (3, (4, 1)), (4, (0, o4))]) (stN := [(1, 0), (1, 0), (0, 5), (4, 9)]) (hsN := [jzQ_16, (4, [(4, 13), (1, 1)], []), (8, [(4, 14), (4, 15)], []), jgh, jgh, jgh, jgh, jgh, jgh, (101, [], [q1, -r7, -r8, 0, 0, 0]), (101, [], [k10_0, k10_1, k10_2, k10_3, k10_4, k10_5]), jgh, jgh, (101, [], [0, 0, 0, 0, 0, 0]), jgh, jgh]) rfl rfl rfl ?_
  refine jT_xaload_n (v := (4, 1)) (pcN := 147) jIQ_161_146 rfl rfl rfl ?_
  refine jT_xgetf (a := 1) (t := 2) (ci := 4) (fi := 1) (c := (4, [(4, 13), (1, 1)], [])) (v := (1, 1)) (pcN := 150) jIQ_161_147 rfl rfl rfl rfl rfl rfl rfl ?_
  refine jT_xlmul (x := 0) (y := 1) (z := 0) (pcN := 151) jIQ_161_150 rfl (by decide) rfl ?_
  refine jT_xlsub (x := 0) (y := 0) (z := 0) (pcN := 152) jIQ_161_151 rfl (by decide) rfl ?_
  refine jT_adv 1 (pcN := 153) (LN := [(7, (0, 5)), (5, (1, q1)), (0, (4, 0)), (1, (0, r7)), (2, (0, r8)), (3, (4, 1)), (4, (0, o4))]) (stN := []) (hsN := [jzQ_16, (4, [(4, 13), (1, 1)], []), (8, [(4, 14), (4, 15)], []), jgh, jgh, jgh, jgh, jgh, jgh, (101, [], [q1, -r7, -r8, 0, 0, 0]), (101, [], [k10_0, k10_1, k10_2, k10_3, k10_4, k10_5]), jgh, jgh, (101, [], [0, 0, 0, 0, 0, 0]), jgh, jgh]) (c1 := 0) (s1 := 0) (c2 := 0) (s2 := 0) (by exact rfl) ?_ (by omega) (by omega)
  refine jT_xiinc (x := 5) (z := 6) (LN := [(7, (0, 6)), (5, (1, q1)), (0, (4, 0)), (1, (0, r7)), (2, (0, r8)), (3, (4, 1)), (4, (0, o4))]) (pcN := 156) jIQ_161_153 rfl rfl (by decide) rfl rfl ?_
  refine jT_xgoto (pcN := 119) jIQ_161_156 rfl ?_
  refine jT_xiload (v := (0, 6)) (pcN := 121) jIQ_161_119 rfl rfl rfl ?_
  refine jT_xbipush (k := 6) (pcN := 123) jIQ_161_121 (by decide) rfl ?_
  refine jT_xicT (pcN := 159) jIQ_161_123 rfl (by decide +kernel) rfl ?_
  refine jT_xaload_n (v := (4, 0)) (pcN := 160) jIQ_161_159 rfl rfl rfl ?_
  refine jT_xgetf (a := 0) (t := 1) (ci := 13) (fi := 0) (c := jzQ_16) (v := (4, 2)) (pcN := 163) jIQ_161_160 rfl rfl rfl rfl rfl rfl rfl ?_
  refine jT_xaload_n (v := (4, 0)) (pcN := 164) jIQ_161_163 rfl rfl rfl ?_
  refine jT_xgetf (a := 0) (t := 1) (ci := 13) (fi := 7) (c := jzQ_16) (v := (4, 9)) (pcN := 167) jIQ_161_164 rfl rfl rfl rfl rfl rfl rfl ?_
  refine jT_callA [2, 9, 14, 15] (y := 38) (pcN := 170) (dC := 1) (bc1 := 0) (bc2 := 0) (c1 := 0) (c2 := 0) (as := [(4, 2), (4, 9)]) (asC := [(4, 0), (4, 1)]) (LN := [(7, (0, 6)), (5, (1, q1)), (0, (4, 0)), (1, (0, r7)), (2, (0, r8)), (3, (4, 1)), (4, (0, o4))]) (stN := []) (hsC := [(8, [(4, 2), (4, 3)], []), (101, [], [q1, -r7, -r8, 0, 0, 0]), jgh, jgh]) (ex := []) (v := (0, (-1))) (st2 := [(0, (-1))]) (hs2 := [jzQ_16, (4, [(4, 13), (1, 1)], []), (8, [(4, 14), (4, 15)], []), jgh, jgh, jgh, jgh, jgh, jgh, (101, [], [q1, -r7, -r8, 0, 0, 0]), (101, [], [k10_0, k10_1, k10_2, k10_3, k10_4, k10_5]), jgh, jgh, (101, [], [0, 0, 0, 0, 0, 0]), jgh, jgh]) (jQl_sp38_117 (d := 0) (by omega) (by omega) (by omega) (by omega) (by omega) (by omega) (by omega)) (by rfl) (by rfl) (by rfl) (by rfl) ⟨rfl, rfl, rfl, rfl, trivial⟩ (by rfl) (by rfl) (by omega) (by show 16 ≤ 16; omega) (by omega) (by omega) rfl rfl ?_
  refine jT_xifT (pcN := 177) jIQ_161_170 rfl (by decide +kernel) rfl ?_
  refine jT_xiconst (k := 0) (pcN := 178) jIQ_161_177 rfl ?_
  subst hq_q4
  subst hq_q3
  subst hq_q2
  subst hq_q1
  exact jT_ret rfl (by decide) (by show 16 ≤ 16; omega) (by omega) (by omega) ⟨rfl, rfl, rfl⟩
theorem jQ_161_254 {xs : List Int} {d : Nat} {k10_0 k10_1 k10_2 k10_3 k10_4 k10_5 o4 r7 r8 u9_0 u9_1 u9_2 u9_3 u9_4 u9_5 : Int} (h_k10_0 : 1 ≤ k10_0 ∧ k10_0 ≤ 100) (h_k10_1 : 2 ≤ k10_1 ∧ k10_1 ≤ 158) (h_k10_2 : 2 ≤ k10_2 ∧ k10_2 ≤ 232) (h_k10_3 : 3 ≤ k10_3 ∧ k10_3 ≤ 281) (h_k10_4 : 3 ≤ k10_4 ∧ k10_4 ≤ 346) (h_k10_5 : 4 ≤ k10_5 ∧ k10_5 ≤ 370) (h_o4 : 1 ≤ o4 ∧ o4 ≤ 100) (h_r7 : (-20) ≤ r7 ∧ r7 ≤ 20) (h_r8 : (-10) ≤ r8 ∧ r8 ≤ 10) (g_0 : 0 ≤ r7) (g_1 : r7 ≤ 0) (g_2 : 0 < r8) (g_3 : 0 ≤ -(((108917793695 * r7 + 159561683699 * r8) / 68719476736) * o4) + (r7 * k10_1) + (r8 * k10_2) - 1) : jT xs (d + 2) 161 15 0 [(0, (4, 0)), (1, (0, r7)), (2, (0, r8)), (3, (4, 1)), (4, (0, o4))] [] [jzQ_16, jgh, (8, [(4, 13), (4, 14)], []), jgh, jgh, jgh, jgh, jgh, jgh, (101, [], [u9_0, u9_1, u9_2, u9_3, u9_4, u9_5]), (101, [], [k10_0, k10_1, k10_2, k10_3, k10_4, k10_5]), jgh, jgh, jgh, jgh] 0 0 (fun k v hsN => k = 0 ∧ v = (0, 0) ∧ hsN = [jzQ_16, jgh, (8, [(4, 13), (4, 14)], []), jgh, jgh, jgh, jgh, jgh, jgh, (101, [], [0, r7, r8, 0, 0, 0]), (101, [], [k10_0, k10_1, k10_2, k10_3, k10_4, k10_5]), jgh, jgh, jgh, jgh]) := by
  refine jT_xiload_n (v := (0, r7)) (pcN := 1) jIQ_161_0 rfl rfl rfl ?_
  refine jT_ifF (a := r7) (t := 10) (by rfl) (by rfl) (by rfl) (jw_idd (by omega) (by omega)) (by simp only [jcP] <;> omega) ?_
  refine jT_xiload_n (v := (0, r8)) (pcN := 5) jIQ_161_4 rfl rfl rfl ?_
  refine jT_ifT (a := r8) (t := 10) (by rfl) (by rfl) (by rfl) (jw_idd (by omega) (by omega)) (by simp only [jcP] <;> omega) ?_
  refine jT_xiconst (k := 0) (pcN := 11) jIQ_161_10 rfl ?_
  refine jT_xistore (v := (0, 0)) (LN := [(5, (0, 0)), (0, (4, 0)), (1, (0, r7)), (2, (0, r8)), (3, (4, 1)), (4, (0, o4))]) (pcN := 13) jIQ_161_11 rfl rfl rfl rfl ?_
  refine jT_xiload (v := (0, 0)) (pcN := 15) jIQ_161_13 rfl rfl rfl ?_
  refine jT_xbipush (k := 6) (pcN := 17) jIQ_161_15 (by decide) rfl ?_
  refine jT_xicF (t := 56) (pcN := 20) jIQ_161_17 rfl (by decide +kernel) rfl rfl ?_
  refine jT_xaload_n (v := (4, 0)) (pcN := 21) jIQ_161_20 rfl rfl rfl ?_
  refine jT_xgetf (a := 0) (t := 1) (ci := 13) (fi := 7) (c := jzQ_16) (v := (4, 9)) (pcN := 24) jIQ_161_21 rfl rfl rfl rfl rfl rfl rfl ?_
  refine jT_xiload (v := (0, 0)) (pcN := 26) jIQ_161_24 rfl rfl rfl ?_
  refine jT_xiload (v := (0, 0)) (pcN := 28) jIQ_161_26 rfl rfl rfl ?_
  refine jT_xiconst (k := 1) (pcN := 29) jIQ_161_28 rfl ?_
  refine jT_xicT (pcN := 37) jIQ_161_29 rfl (by decide +kernel) rfl ?_
  refine jT_xiload (v := (0, 0)) (pcN := 39) jIQ_161_37 rfl rfl rfl ?_
  refine jT_xiconst (k := 2) (pcN := 40) jIQ_161_39 rfl ?_
  refine jT_xicT (pcN := 48) jIQ_161_40 rfl (by decide +kernel) rfl ?_
  refine jT_xlconst (z := 0) (pcN := 49) jIQ_161_48 rfl rfl ?_
  refine jT_adv 1 (pcN := 50) (LN := [(5, (0, 0)), (0, (4, 0)), (1, (0, r7)), (2, (0, r8)), (3, (4, 1)), (4, (0, o4))]) (stN := []) (hsN := [jzQ_16, jgh, (8, [(4, 13), (4, 14)], []), jgh, jgh, jgh, jgh, jgh, jgh, (101, [], [0, u9_1, u9_2, u9_3, u9_4, u9_5]), (101, [], [k10_0, k10_1, k10_2, k10_3, k10_4, k10_5]), jgh, jgh, jgh, jgh]) (c1 := 0) (s1 := 0) (c2 := 0) (s2 := 0) (by exact rfl) ?_ (by omega) (by omega)
  refine jT_xiinc (x := 0) (z := 1) (LN := [(5, (0, 1)), (0, (4, 0)), (1, (0, r7)), (2, (0, r8)), (3, (4, 1)), (4, (0, o4))]) (pcN := 53) jIQ_161_50 rfl rfl (by decide) rfl rfl ?_
  refine jT_xgoto (pcN := 13) jIQ_161_53 rfl ?_
  refine jT_xiload (v := (0, 1)) (pcN := 15) jIQ_161_13 rfl rfl rfl ?_
  refine jT_xbipush (k := 6) (pcN := 17) jIQ_161_15 (by decide) rfl ?_
  refine jT_xicF (t := 56) (pcN := 20) jIQ_161_17 rfl (by decide +kernel) rfl rfl ?_
  refine jT_xaload_n (v := (4, 0)) (pcN := 21) jIQ_161_20 rfl rfl rfl ?_
  refine jT_xgetf (a := 0) (t := 1) (ci := 13) (fi := 7) (c := jzQ_16) (v := (4, 9)) (pcN := 24) jIQ_161_21 rfl rfl rfl rfl rfl rfl rfl ?_
  refine jT_xiload (v := (0, 1)) (pcN := 26) jIQ_161_24 rfl rfl rfl ?_
  refine jT_xiload (v := (0, 1)) (pcN := 28) jIQ_161_26 rfl rfl rfl ?_
  refine jT_xiconst (k := 1) (pcN := 29) jIQ_161_28 rfl ?_
  refine jT_xicF (t := 37) (pcN := 32) jIQ_161_29 rfl (by decide +kernel) rfl rfl ?_
  refine jT_xiload_n (v := (0, r7)) (pcN := 33) jIQ_161_32 rfl rfl rfl ?_
  refine jT_xi2l (x := r7) (z := r7) (pcN := 34) jIQ_161_33 rfl (jw_idd (by omega) (by omega)) rfl ?_
  refine jT_xgoto (pcN := 49) jIQ_161_34 rfl ?_
  refine jT_adv 1 (pcN := 50) (LN := [(5, (0, 1)), (0, (4, 0)), (1, (0, r7)), (2, (0, r8)), (3, (4, 1)), (4, (0, o4))]) (stN := []) (hsN := [jzQ_16, jgh, (8, [(4, 13), (4, 14)], []), jgh, jgh, jgh, jgh, jgh, jgh, (101, [], [0, r7, u9_2, u9_3, u9_4, u9_5]), (101, [], [k10_0, k10_1, k10_2, k10_3, k10_4, k10_5]), jgh, jgh, jgh, jgh]) (c1 := 0) (s1 := 0) (c2 := 0) (s2 := 0) (by exact rfl) ?_ (by omega) (by omega)
  refine jT_xiinc (x := 1) (z := 2) (LN := [(5, (0, 2)), (0, (4, 0)), (1, (0, r7)), (2, (0, r8)), (3, (4, 1)), (4, (0, o4))]) (pcN := 53) jIQ_161_50 rfl rfl (by decide) rfl rfl ?_
  refine jT_xgoto (pcN := 13) jIQ_161_53 rfl ?_
  refine jT_xiload (v := (0, 2)) (pcN := 15) jIQ_161_13 rfl rfl rfl ?_
  refine jT_xbipush (k := 6) (pcN := 17) jIQ_161_15 (by decide) rfl ?_
  refine jT_xicF (t := 56) (pcN := 20) jIQ_161_17 rfl (by decide +kernel) rfl rfl ?_
  refine jT_xaload_n (v := (4, 0)) (pcN := 21) jIQ_161_20 rfl rfl rfl ?_
  refine jT_xgetf (a := 0) (t := 1) (ci := 13) (fi := 7) (c := jzQ_16) (v := (4, 9)) (pcN := 24) jIQ_161_21 rfl rfl rfl rfl rfl rfl rfl ?_
  refine jT_xiload (v := (0, 2)) (pcN := 26) jIQ_161_24 rfl rfl rfl ?_
  refine jT_xiload (v := (0, 2)) (pcN := 28) jIQ_161_26 rfl rfl rfl ?_
  refine jT_xiconst (k := 1) (pcN := 29) jIQ_161_28 rfl ?_
  refine jT_xicT (pcN := 37) jIQ_161_29 rfl (by decide +kernel) rfl ?_
  refine jT_xiload (v := (0, 2)) (pcN := 39) jIQ_161_37 rfl rfl rfl ?_
  refine jT_xiconst (k := 2) (pcN := 40) jIQ_161_39 rfl ?_
  refine jT_xicF (t := 48) (pcN := 43) jIQ_161_40 rfl (by decide +kernel) rfl rfl ?_
  refine jT_xiload_n (v := (0, r8)) (pcN := 44) jIQ_161_43 rfl rfl rfl ?_
  refine jT_xi2l (x := r8) (z := r8) (pcN := 45) jIQ_161_44 rfl (jw_idd (by omega) (by omega)) rfl ?_
  refine jT_xgoto (pcN := 49) jIQ_161_45 rfl ?_
  refine jT_adv 1 (pcN := 50) (LN := [(5, (0, 2)), (0, (4, 0)), (1, (0, r7)), (2, (0, r8)), (3, (4, 1)), (4, (0, o4))]) (stN := []) (hsN := [jzQ_16, jgh, (8, [(4, 13), (4, 14)], []), jgh, jgh, jgh, jgh, jgh, jgh, (101, [], [0, r7, r8, u9_3, u9_4, u9_5]), (101, [], [k10_0, k10_1, k10_2, k10_3, k10_4, k10_5]), jgh, jgh, jgh, jgh]) (c1 := 0) (s1 := 0) (c2 := 0) (s2 := 0) (by exact rfl) ?_ (by omega) (by omega)
  refine jT_xiinc (x := 2) (z := 3) (LN := [(5, (0, 3)), (0, (4, 0)), (1, (0, r7)), (2, (0, r8)), (3, (4, 1)), (4, (0, o4))]) (pcN := 53) jIQ_161_50 rfl rfl (by decide) rfl rfl ?_
  refine jT_xgoto (pcN := 13) jIQ_161_53 rfl ?_
  refine jT_xiload (v := (0, 3)) (pcN := 15) jIQ_161_13 rfl rfl rfl ?_
  refine jT_xbipush (k := 6) (pcN := 17) jIQ_161_15 (by decide) rfl ?_
  refine jT_xicF (t := 56) (pcN := 20) jIQ_161_17 rfl (by decide +kernel) rfl rfl ?_
  refine jT_xaload_n (v := (4, 0)) (pcN := 21) jIQ_161_20 rfl rfl rfl ?_
  refine jT_xgetf (a := 0) (t := 1) (ci := 13) (fi := 7) (c := jzQ_16) (v := (4, 9)) (pcN := 24) jIQ_161_21 rfl rfl rfl rfl rfl rfl rfl ?_
  refine jT_xiload (v := (0, 3)) (pcN := 26) jIQ_161_24 rfl rfl rfl ?_
  refine jT_xiload (v := (0, 3)) (pcN := 28) jIQ_161_26 rfl rfl rfl ?_
  refine jT_xiconst (k := 1) (pcN := 29) jIQ_161_28 rfl ?_
  refine jT_xicT (pcN := 37) jIQ_161_29 rfl (by decide +kernel) rfl ?_
  refine jT_xiload (v := (0, 3)) (pcN := 39) jIQ_161_37 rfl rfl rfl ?_
  refine jT_xiconst (k := 2) (pcN := 40) jIQ_161_39 rfl ?_
  refine jT_xicT (pcN := 48) jIQ_161_40 rfl (by decide +kernel) rfl ?_
  refine jT_xlconst (z := 0) (pcN := 49) jIQ_161_48 rfl rfl ?_
  refine jT_adv 1 (pcN := 50) (LN := [(5, (0, 3)), (0, (4, 0)), (1, (0, r7)), (2, (0, r8)), (3, (4, 1)), (4, (0, o4))]) (stN := []) (hsN := [jzQ_16, jgh, (8, [(4, 13), (4, 14)], []), jgh, jgh, jgh, jgh, jgh, jgh, (101, [], [0, r7, r8, 0, u9_4, u9_5]), (101, [], [k10_0, k10_1, k10_2, k10_3, k10_4, k10_5]), jgh, jgh, jgh, jgh]) (c1 := 0) (s1 := 0) (c2 := 0) (s2 := 0) (by exact rfl) ?_ (by omega) (by omega)
  refine jT_xiinc (x := 3) (z := 4) (LN := [(5, (0, 4)), (0, (4, 0)), (1, (0, r7)), (2, (0, r8)), (3, (4, 1)), (4, (0, o4))]) (pcN := 53) jIQ_161_50 rfl rfl (by decide) rfl rfl ?_
  refine jT_xgoto (pcN := 13) jIQ_161_53 rfl ?_
  refine jT_xiload (v := (0, 4)) (pcN := 15) jIQ_161_13 rfl rfl rfl ?_
  refine jT_xbipush (k := 6) (pcN := 17) jIQ_161_15 (by decide) rfl ?_
  refine jT_xicF (t := 56) (pcN := 20) jIQ_161_17 rfl (by decide +kernel) rfl rfl ?_
  refine jT_xaload_n (v := (4, 0)) (pcN := 21) jIQ_161_20 rfl rfl rfl ?_
  refine jT_xgetf (a := 0) (t := 1) (ci := 13) (fi := 7) (c := jzQ_16) (v := (4, 9)) (pcN := 24) jIQ_161_21 rfl rfl rfl rfl rfl rfl rfl ?_
  refine jT_xiload (v := (0, 4)) (pcN := 26) jIQ_161_24 rfl rfl rfl ?_
  refine jT_xiload (v := (0, 4)) (pcN := 28) jIQ_161_26 rfl rfl rfl ?_
  refine jT_xiconst (k := 1) (pcN := 29) jIQ_161_28 rfl ?_
  refine jT_xicT (pcN := 37) jIQ_161_29 rfl (by decide +kernel) rfl ?_
  refine jT_xiload (v := (0, 4)) (pcN := 39) jIQ_161_37 rfl rfl rfl ?_
  refine jT_xiconst (k := 2) (pcN := 40) jIQ_161_39 rfl ?_
  refine jT_xicT (pcN := 48) jIQ_161_40 rfl (by decide +kernel) rfl ?_
  refine jT_xlconst (z := 0) (pcN := 49) jIQ_161_48 rfl rfl ?_
  refine jT_adv 1 (pcN := 50) (LN := [(5, (0, 4)), (0, (4, 0)), (1, (0, r7)), (2, (0, r8)), (3, (4, 1)), (4, (0, o4))]) (stN := []) (hsN := [jzQ_16, jgh, (8, [(4, 13), (4, 14)], []), jgh, jgh, jgh, jgh, jgh, jgh, (101, [], [0, r7, r8, 0, 0, u9_5]), (101, [], [k10_0, k10_1, k10_2, k10_3, k10_4, k10_5]), jgh, jgh, jgh, jgh]) (c1 := 0) (s1 := 0) (c2 := 0) (s2 := 0) (by exact rfl) ?_ (by omega) (by omega)
  refine jT_xiinc (x := 4) (z := 5) (LN := [(5, (0, 5)), (0, (4, 0)), (1, (0, r7)), (2, (0, r8)), (3, (4, 1)), (4, (0, o4))]) (pcN := 53) jIQ_161_50 rfl rfl (by decide) rfl rfl ?_
  refine jT_xgoto (pcN := 13) jIQ_161_53 rfl ?_
  refine jT_xiload (v := (0, 5)) (pcN := 15) jIQ_161_13 rfl rfl rfl ?_
  refine jT_xbipush (k := 6) (pcN := 17) jIQ_161_15 (by decide) rfl ?_
  refine jT_xicF (t := 56) (pcN := 20) jIQ_161_17 rfl (by decide +kernel) rfl rfl ?_
  refine jT_xaload_n (v := (4, 0)) (pcN := 21) jIQ_161_20 rfl rfl rfl ?_
  refine jT_xgetf (a := 0) (t := 1) (ci := 13) (fi := 7) (c := jzQ_16) (v := (4, 9)) (pcN := 24) jIQ_161_21 rfl rfl rfl rfl rfl rfl rfl ?_
  refine jT_xiload (v := (0, 5)) (pcN := 26) jIQ_161_24 rfl rfl rfl ?_
  refine jT_xiload (v := (0, 5)) (pcN := 28) jIQ_161_26 rfl rfl rfl ?_
  refine jT_xiconst (k := 1) (pcN := 29) jIQ_161_28 rfl ?_
  refine jT_xicT (pcN := 37) jIQ_161_29 rfl (by decide +kernel) rfl ?_
  refine jT_xiload (v := (0, 5)) (pcN := 39) jIQ_161_37 rfl rfl rfl ?_
  refine jT_xiconst (k := 2) (pcN := 40) jIQ_161_39 rfl ?_
  refine jT_xicT (pcN := 48) jIQ_161_40 rfl (by decide +kernel) rfl ?_
  refine jT_xlconst (z := 0) (pcN := 49) jIQ_161_48 rfl rfl ?_
  refine jT_adv 1 (pcN := 50) (LN := [(5, (0, 5)), (0, (4, 0)), (1, (0, r7)), (2, (0, r8)), (3, (4, 1)), (4, (0, o4))]) (stN := []) (hsN := [jzQ_16, jgh, (8, [(4, 13), (4, 14)], []), jgh, jgh, jgh, jgh, jgh, jgh, (101, [], [0, r7, r8, 0, 0, 0]), (101, [], [k10_0, k10_1, k10_2, k10_3, k10_4, k10_5]), jgh, jgh, jgh, jgh]) (c1 := 0) (s1 := 0) (c2 := 0) (s2 := 0) (by exact rfl) ?_ (by omega) (by omega)
  refine jT_xiinc (x := 5) (z := 6) (LN := [(5, (0, 6)), (0, (4, 0)), (1, (0, r7)), (2, (0, r8)), (3, (4, 1)), (4, (0, o4))]) (pcN := 53) jIQ_161_50 rfl rfl (by decide) rfl rfl ?_
  refine jT_xgoto (pcN := 13) jIQ_161_53 rfl ?_
  refine jT_xiload (v := (0, 6)) (pcN := 15) jIQ_161_13 rfl rfl rfl ?_
  refine jT_xbipush (k := 6) (pcN := 17) jIQ_161_15 (by decide) rfl ?_
  refine jT_xicT (pcN := 56) jIQ_161_17 rfl (by decide +kernel) rfl ?_
  refine jT_xaload_n (v := (4, 0)) (pcN := 57) jIQ_161_56 rfl rfl rfl ?_
  refine jT_xgetf (a := 0) (t := 1) (ci := 13) (fi := 0) (c := jzQ_16) (v := (4, 2)) (pcN := 60) jIQ_161_57 rfl rfl rfl rfl rfl rfl rfl ?_
  refine jT_xaload_n (v := (4, 0)) (pcN := 61) jIQ_161_60 rfl rfl rfl ?_
  refine jT_xgetf (a := 0) (t := 1) (ci := 13) (fi := 7) (c := jzQ_16) (v := (4, 9)) (pcN := 64) jIQ_161_61 rfl rfl rfl rfl rfl rfl rfl ?_
  refine jT_xlconst (z := 1) (pcN := 65) jIQ_161_64 rfl rfl ?_
  refine jT_xlconst (z := 1) (pcN := 66) jIQ_161_65 rfl rfl ?_
  refine jT_callA [2, 9, 13, 14] (y := 45) (pcN := 69) (dC := 1) (bc1 := 0) (bc2 := 0) (c1 := 0) (c2 := 0) (as := [(4, 2), (4, 9), (1, 1), (1, 1)]) (asC := [(4, 0), (4, 1), (1, 1), (1, 1)]) (LN := [(5, (0, 6)), (0, (4, 0)), (1, (0, r7)), (2, (0, r8)), (3, (4, 1)), (4, (0, o4))]) (stN := []) (hsC := [(8, [(4, 2), (4, 3)], []), (101, [], [0, r7, r8, 0, 0, 0]), jgh, jgh]) (ex := []) (v := (1, (108917793695 * r7 + 159561683699 * r8) / 68719476736)) (st2 := [(1, (108917793695 * r7 + 159561683699 * r8) / 68719476736)]) (hs2 := [jzQ_16, jgh, (8, [(4, 13), (4, 14)], []), jgh, jgh, jgh, jgh, jgh, jgh, (101, [], [0, r7, r8, 0, 0, 0]), (101, [], [k10_0, k10_1, k10_2, k10_3, k10_4, k10_5]), jgh, jgh, jgh, jgh]) (jQl_sp45_116 (d := 0) (by omega) (by omega)) (by rfl) (by rfl) (by rfl) (by rfl) ⟨rfl, rfl, rfl, rfl, trivial⟩ (by rfl) (by rfl) (by omega) (by show 15 ≤ 15; omega) (by omega) (by omega) rfl rfl ?_
  have hb_q1 : (-60) ≤ (108917793695 * r7 + 159561683699 * r8) / 68719476736 ∧ (108917793695 * r7 + 159561683699 * r8) / 68719476736 ≤ 60 := ⟨by omega, by omega⟩
  generalize hq_q1 : (108917793695 * r7 + 159561683699 * r8) / 68719476736 = q1 at hb_q1 g_3 ⊢
  refine jT_xlstore (v := (1, q1)) (LN := [(5, (1, q1)), (0, (4, 0)), (1, (0, r7)), (2, (0, r8)), (3, (4, 1)), (4, (0, o4))]) (pcN := 71) jIQ_161_69 rfl rfl rfl rfl ?_
  have g_4 : 0 ≤ (-68719476736) * q1 + 108917793694 * r7 + 159561683698 * r8 - 1 := by have := jcg (b := r7) (c := r8) (by omega) (by omega) (by omega); rw [hq_q1] at this; omega
  have g_5 : 0 ≤ (-68719476736) * q1 + 108917793694 * r7 + 159561683700 * r8 - 1 := by have := jcg (b := r7) (c := r8) (by omega) (by omega) (by omega); rw [hq_q1] at this; omega
  have g_6 : 0 ≤ (-68719476736) * q1 + 108917793696 * r7 + 159561683698 * r8 - 1 := by have := jcg (b := r7) (c := r8) (by omega) (by omega) (by omega); rw [hq_q1] at this; omega
  have g_7 : 0 ≤ (-68719476736) * q1 + 108917793696 * r7 + 159561683700 * r8 - 1 := by have := jcg (b := r7) (c := r8) (by omega) (by omega) (by omega); rw [hq_q1] at this; omega
  refine jT_xiload (v := (0, o4)) (pcN := 73) jIQ_161_71 rfl rfl rfl ?_
  refine jT_ifF (a := o4) (t := 107) (by rfl) (by rfl) (by rfl) (jw_idd (by omega) (by omega)) (by simp only [jcP] <;> omega) ?_
  refine jT_xiload_n (v := (0, r7)) (pcN := 77) jIQ_161_76 rfl rfl rfl ?_
  refine jT_xi2l (x := r7) (z := r7) (pcN := 78) jIQ_161_77 rfl (jw_idd (by omega) (by omega)) rfl ?_
  refine jT_xaload_n (v := (4, 0)) (pcN := 79) jIQ_161_78 rfl rfl rfl ?_
  refine jT_xgetf (a := 0) (t := 1) (ci := 13) (fi := 8) (c := jzQ_16) (v := (4, 10)) (pcN := 82) jIQ_161_79 rfl rfl rfl rfl rfl rfl rfl ?_
  refine jT_xiconst (k := 1) (pcN := 83) jIQ_161_82 rfl ?_
  refine jT_lald (x := k10_1) (a := 10) (j := 1) (fs := []) (X := [k10_0, k10_1, k10_2, k10_3, k10_4, k10_5]) jIQ_161_83 rfl rfl rfl rfl ?_
  refine jT_eq (LN := [(5, (1, q1)), (0, (4, 0)), (1, (0, r7)), (2, (0, r8)), (3, (4, 1)), (4, (0, o4))]) (stN := [(1, k10_1), (1, r7)]) (hsN := [jzQ_16, jgh, (8, [(4, 13), (4, 14)], []), jgh, jgh, jgh, jgh, jgh, jgh, (101, [], [0, r7, r8, 0, 0, 0]), (101, [], [k10_0, k10_1, k10_2, k10_3, k10_4, k10_5]), jgh, jgh, jgh, jgh]) rfl rfl rfl ?_
  refine jT_xlmul (x := r7) (y := k10_1) (z := r7 * k10_1) (pcN := 85) jIQ_161_84 rfl rfl rfl ?_
  have hb_q2 := jmul_b (x := r7) (y := k10_1) (m := 20) (n := 158) (by omega) (by omega) (by omega) (by omega)
  have hb_q2 : 0 ≤ r7 * k10_1 ∧ r7 * k10_1 ≤ 3160 := ⟨hb_q2.1, by omega⟩
  generalize hq_q2 : r7 * k10_1 = q2 at hb_q2 g_3 ⊢
  refine jT_xiload_n (v := (0, r8)) (pcN := 86) jIQ_161_85 rfl rfl rfl ?_
  refine jT_xi2l (x := r8) (z := r8) (pcN := 87) jIQ_161_86 rfl (jw_idd (by omega) (by omega)) rfl ?_
  refine jT_xaload_n (v := (4, 0)) (pcN := 88) jIQ_161_87 rfl rfl rfl ?_
  refine jT_xgetf (a := 0) (t := 1) (ci := 13) (fi := 8) (c := jzQ_16) (v := (4, 10)) (pcN := 91) jIQ_161_88 rfl rfl rfl rfl rfl rfl rfl ?_
  refine jT_xiconst (k := 2) (pcN := 92) jIQ_161_91 rfl ?_
  refine jT_lald (x := k10_2) (a := 10) (j := 2) (fs := []) (X := [k10_0, k10_1, k10_2, k10_3, k10_4, k10_5]) jIQ_161_92 rfl rfl rfl rfl ?_
  refine jT_eq (LN := [(5, (1, q1)), (0, (4, 0)), (1, (0, r7)), (2, (0, r8)), (3, (4, 1)), (4, (0, o4))]) (stN := [(1, k10_2), (1, r8), (1, q2)]) (hsN := [jzQ_16, jgh, (8, [(4, 13), (4, 14)], []), jgh, jgh, jgh, jgh, jgh, jgh, (101, [], [0, r7, r8, 0, 0, 0]), (101, [], [k10_0, k10_1, k10_2, k10_3, k10_4, k10_5]), jgh, jgh, jgh, jgh]) rfl rfl rfl ?_
  refine jT_xlmul (x := r8) (y := k10_2) (z := r8 * k10_2) (pcN := 94) jIQ_161_93 rfl rfl rfl ?_
  have hb_q3 := jmul_b2 (x := r8) (y := k10_2) (k := 1) (l := 2) (m := 10) (n := 232) (by omega) (by omega) (by omega) (by omega) (by omega) (by omega)
  have hb_q3 : 2 ≤ r8 * k10_2 ∧ r8 * k10_2 ≤ 2320 := ⟨by omega, by omega⟩
  generalize hq_q3 : r8 * k10_2 = q3 at hb_q3 g_3 ⊢
  refine jT_xladd (x := q2) (y := q3) (z := q2 + q3) (pcN := 95) jIQ_161_94 rfl (rfl) rfl ?_
  refine jT_xlload (v := (1, q1)) (pcN := 97) jIQ_161_95 rfl rfl rfl ?_
  refine jT_xiload (v := (0, o4)) (pcN := 99) jIQ_161_97 rfl rfl rfl ?_
  refine jT_xi2l (x := o4) (z := o4) (pcN := 100) jIQ_161_99 rfl (jw_idd (by omega) (by omega)) rfl ?_
  refine jT_xlmul (x := q1) (y := o4) (z := q1 * o4) (pcN := 101) jIQ_161_100 rfl rfl rfl ?_
  have hb_q4 := jmul_bs (x := q1) (y := o4) (m := 60) (n := 100) (by omega) (by omega) (by omega) (by omega)
  have hb_q4 : (-6000) ≤ q1 * o4 ∧ q1 * o4 ≤ 6000 := ⟨by omega, by omega⟩
  generalize hq_q4 : q1 * o4 = q4 at hb_q4 g_3 ⊢
  refine jT_lcmp (a := q2 + q3) (b := q4) (z := 1) (by rfl) (by rfl) (jwl_idd (by omega) (by omega)) (jwl_idd (by omega) (by omega)) (by rw [decide_eq_true (show (q4 : Int) < q2 + q3 by omega)]; rfl) ?_
  refine jT_xifF (t := 107) (pcN := 105) jIQ_161_102 rfl (by decide +kernel) rfl rfl ?_
  refine jT_xiconst (k := 0) (pcN := 106) jIQ_161_105 rfl ?_
  subst hq_q4
  subst hq_q3
  subst hq_q2
  subst hq_q1
  exact jT_ret rfl (by decide) (by show 15 ≤ 15; omega) (by omega) (by omega) ⟨rfl, rfl, rfl⟩
theorem jQ_161_255 {xs : List Int} {d : Nat} {k10_0 k10_1 k10_2 k10_3 k10_4 k10_5 o4 r7 r8 u9_0 u9_1 u9_2 u9_3 u9_4 u9_5 : Int} (h_k10_0 : 1 ≤ k10_0 ∧ k10_0 ≤ 100) (h_k10_1 : 2 ≤ k10_1 ∧ k10_1 ≤ 158) (h_k10_2 : 2 ≤ k10_2 ∧ k10_2 ≤ 232) (h_k10_3 : 3 ≤ k10_3 ∧ k10_3 ≤ 281) (h_k10_4 : 3 ≤ k10_4 ∧ k10_4 ≤ 346) (h_k10_5 : 4 ≤ k10_5 ∧ k10_5 ≤ 370) (h_o4 : 1 ≤ o4 ∧ o4 ≤ 100) (h_r7 : (-20) ≤ r7 ∧ r7 ≤ 20) (h_r8 : (-10) ≤ r8 ∧ r8 ≤ 10) (g_0 : 0 ≤ r7) (g_1 : r7 ≤ 0) (g_2 : r8 < 0) (g_3 : -(((108917793695 * r7 + 159561683699 * r8) / 68719476736) * o4) + (r7 * k10_1) + (r8 * k10_2) - 1 < 0) (g_4 : -(((108917793695 * r7 + 159561683699 * r8) / 68719476736) * o4) + (r7 * k10_1) + (r8 * k10_2) < 0) : jT xs (d + 2) 161 15 0 [(0, (4, 0)), (1, (0, r7)), (2, (0, r8)), (3, (4, 1)), (4, (0, o4))] [] [jzQ_16, jgh, (8, [(4, 13), (4, 14)], []), jgh, jgh, jgh, jgh, jgh, jgh, (101, [], [u9_0, u9_1, u9_2, u9_3, u9_4, u9_5]), (101, [], [k10_0, k10_1, k10_2, k10_3, k10_4, k10_5]), jgh, jgh, jgh, jgh] 0 0 (fun k v hsN => k = 0 ∧ v = (0, 0) ∧ hsN = [jzQ_16, jgh, (8, [(4, 13), (4, 14)], []), jgh, jgh, jgh, jgh, jgh, jgh, (101, [], [0, r7, r8, 0, 0, 0]), (101, [], [k10_0, k10_1, k10_2, k10_3, k10_4, k10_5]), jgh, jgh, jgh, jgh]) := by
  refine jT_xiload_n (v := (0, r7)) (pcN := 1) jIQ_161_0 rfl rfl rfl ?_
  refine jT_ifF (a := r7) (t := 10) (by rfl) (by rfl) (by rfl) (jw_idd (by omega) (by omega)) (by simp only [jcP] <;> omega) ?_
  refine jT_xiload_n (v := (0, r8)) (pcN := 5) jIQ_161_4 rfl rfl rfl ?_
  refine jT_ifT (a := r8) (t := 10) (by rfl) (by rfl) (by rfl) (jw_idd (by omega) (by omega)) (by simp only [jcP] <;> omega) ?_
  refine jT_xiconst (k := 0) (pcN := 11) jIQ_161_10 rfl ?_
  refine jT_xistore (v := (0, 0)) (LN := [(5, (0, 0)), (0, (4, 0)), (1, (0, r7)), (2, (0, r8)), (3, (4, 1)), (4, (0, o4))]) (pcN := 13) jIQ_161_11 rfl rfl rfl rfl ?_
  refine jT_xiload (v := (0, 0)) (pcN := 15) jIQ_161_13 rfl rfl rfl ?_
  refine jT_xbipush (k := 6) (pcN := 17) jIQ_161_15 (by decide) rfl ?_
  refine jT_xicF (t := 56) (pcN := 20) jIQ_161_17 rfl (by decide +kernel) rfl rfl ?_
  refine jT_xaload_n (v := (4, 0)) (pcN := 21) jIQ_161_20 rfl rfl rfl ?_
  refine jT_xgetf (a := 0) (t := 1) (ci := 13) (fi := 7) (c := jzQ_16) (v := (4, 9)) (pcN := 24) jIQ_161_21 rfl rfl rfl rfl rfl rfl rfl ?_
  refine jT_xiload (v := (0, 0)) (pcN := 26) jIQ_161_24 rfl rfl rfl ?_
  refine jT_xiload (v := (0, 0)) (pcN := 28) jIQ_161_26 rfl rfl rfl ?_
  refine jT_xiconst (k := 1) (pcN := 29) jIQ_161_28 rfl ?_
  refine jT_xicT (pcN := 37) jIQ_161_29 rfl (by decide +kernel) rfl ?_
  refine jT_xiload (v := (0, 0)) (pcN := 39) jIQ_161_37 rfl rfl rfl ?_
  refine jT_xiconst (k := 2) (pcN := 40) jIQ_161_39 rfl ?_
  refine jT_xicT (pcN := 48) jIQ_161_40 rfl (by decide +kernel) rfl ?_
  refine jT_xlconst (z := 0) (pcN := 49) jIQ_161_48 rfl rfl ?_
  refine jT_adv 1 (pcN := 50) (LN := [(5, (0, 0)), (0, (4, 0)), (1, (0, r7)), (2, (0, r8)), (3, (4, 1)), (4, (0, o4))]) (stN := []) (hsN := [jzQ_16, jgh, (8, [(4, 13), (4, 14)], []), jgh, jgh, jgh, jgh, jgh, jgh, (101, [], [0, u9_1, u9_2, u9_3, u9_4, u9_5]), (101, [], [k10_0, k10_1, k10_2, k10_3, k10_4, k10_5]), jgh, jgh, jgh, jgh]) (c1 := 0) (s1 := 0) (c2 := 0) (s2 := 0) (by exact rfl) ?_ (by omega) (by omega)
  refine jT_xiinc (x := 0) (z := 1) (LN := [(5, (0, 1)), (0, (4, 0)), (1, (0, r7)), (2, (0, r8)), (3, (4, 1)), (4, (0, o4))]) (pcN := 53) jIQ_161_50 rfl rfl (by decide) rfl rfl ?_
  refine jT_xgoto (pcN := 13) jIQ_161_53 rfl ?_
  refine jT_xiload (v := (0, 1)) (pcN := 15) jIQ_161_13 rfl rfl rfl ?_
  refine jT_xbipush (k := 6) (pcN := 17) jIQ_161_15 (by decide) rfl ?_
  refine jT_xicF (t := 56) (pcN := 20) jIQ_161_17 rfl (by decide +kernel) rfl rfl ?_
  refine jT_xaload_n (v := (4, 0)) (pcN := 21) jIQ_161_20 rfl rfl rfl ?_
  refine jT_xgetf (a := 0) (t := 1) (ci := 13) (fi := 7) (c := jzQ_16) (v := (4, 9)) (pcN := 24) jIQ_161_21 rfl rfl rfl rfl rfl rfl rfl ?_
  refine jT_xiload (v := (0, 1)) (pcN := 26) jIQ_161_24 rfl rfl rfl ?_
  refine jT_xiload (v := (0, 1)) (pcN := 28) jIQ_161_26 rfl rfl rfl ?_
  refine jT_xiconst (k := 1) (pcN := 29) jIQ_161_28 rfl ?_
  refine jT_xicF (t := 37) (pcN := 32) jIQ_161_29 rfl (by decide +kernel) rfl rfl ?_
  refine jT_xiload_n (v := (0, r7)) (pcN := 33) jIQ_161_32 rfl rfl rfl ?_
  refine jT_xi2l (x := r7) (z := r7) (pcN := 34) jIQ_161_33 rfl (jw_idd (by omega) (by omega)) rfl ?_
  refine jT_xgoto (pcN := 49) jIQ_161_34 rfl ?_
  refine jT_adv 1 (pcN := 50) (LN := [(5, (0, 1)), (0, (4, 0)), (1, (0, r7)), (2, (0, r8)), (3, (4, 1)), (4, (0, o4))]) (stN := []) (hsN := [jzQ_16, jgh, (8, [(4, 13), (4, 14)], []), jgh, jgh, jgh, jgh, jgh, jgh, (101, [], [0, r7, u9_2, u9_3, u9_4, u9_5]), (101, [], [k10_0, k10_1, k10_2, k10_3, k10_4, k10_5]), jgh, jgh, jgh, jgh]) (c1 := 0) (s1 := 0) (c2 := 0) (s2 := 0) (by exact rfl) ?_ (by omega) (by omega)
  refine jT_xiinc (x := 1) (z := 2) (LN := [(5, (0, 2)), (0, (4, 0)), (1, (0, r7)), (2, (0, r8)), (3, (4, 1)), (4, (0, o4))]) (pcN := 53) jIQ_161_50 rfl rfl (by decide) rfl rfl ?_
  refine jT_xgoto (pcN := 13) jIQ_161_53 rfl ?_
  refine jT_xiload (v := (0, 2)) (pcN := 15) jIQ_161_13 rfl rfl rfl ?_
  refine jT_xbipush (k := 6) (pcN := 17) jIQ_161_15 (by decide) rfl ?_
  refine jT_xicF (t := 56) (pcN := 20) jIQ_161_17 rfl (by decide +kernel) rfl rfl ?_
  refine jT_xaload_n (v := (4, 0)) (pcN := 21) jIQ_161_20 rfl rfl rfl ?_
  refine jT_xgetf (a := 0) (t := 1) (ci := 13) (fi := 7) (c := jzQ_16) (v := (4, 9)) (pcN := 24) jIQ_161_21 rfl rfl rfl rfl rfl rfl rfl ?_
  refine jT_xiload (v := (0, 2)) (pcN := 26) jIQ_161_24 rfl rfl rfl ?_
  refine jT_xiload (v := (0, 2)) (pcN := 28) jIQ_161_26 rfl rfl rfl ?_
  refine jT_xiconst (k := 1) (pcN := 29) jIQ_161_28 rfl ?_
  refine jT_xicT (pcN := 37) jIQ_161_29 rfl (by decide +kernel) rfl ?_
  refine jT_xiload (v := (0, 2)) (pcN := 39) jIQ_161_37 rfl rfl rfl ?_
  refine jT_xiconst (k := 2) (pcN := 40) jIQ_161_39 rfl ?_
  refine jT_xicF (t := 48) (pcN := 43) jIQ_161_40 rfl (by decide +kernel) rfl rfl ?_
  refine jT_xiload_n (v := (0, r8)) (pcN := 44) jIQ_161_43 rfl rfl rfl ?_
  refine jT_xi2l (x := r8) (z := r8) (pcN := 45) jIQ_161_44 rfl (jw_idd (by omega) (by omega)) rfl ?_
  refine jT_xgoto (pcN := 49) jIQ_161_45 rfl ?_
  refine jT_adv 1 (pcN := 50) (LN := [(5, (0, 2)), (0, (4, 0)), (1, (0, r7)), (2, (0, r8)), (3, (4, 1)), (4, (0, o4))]) (stN := []) (hsN := [jzQ_16, jgh, (8, [(4, 13), (4, 14)], []), jgh, jgh, jgh, jgh, jgh, jgh, (101, [], [0, r7, r8, u9_3, u9_4, u9_5]), (101, [], [k10_0, k10_1, k10_2, k10_3, k10_4, k10_5]), jgh, jgh, jgh, jgh]) (c1 := 0) (s1 := 0) (c2 := 0) (s2 := 0) (by exact rfl) ?_ (by omega) (by omega)
  refine jT_xiinc (x := 2) (z := 3) (LN := [(5, (0, 3)), (0, (4, 0)), (1, (0, r7)), (2, (0, r8)), (3, (4, 1)), (4, (0, o4))]) (pcN := 53) jIQ_161_50 rfl rfl (by decide) rfl rfl ?_
  refine jT_xgoto (pcN := 13) jIQ_161_53 rfl ?_
  refine jT_xiload (v := (0, 3)) (pcN := 15) jIQ_161_13 rfl rfl rfl ?_
  refine jT_xbipush (k := 6) (pcN := 17) jIQ_161_15 (by decide) rfl ?_
  refine jT_xicF (t := 56) (pcN := 20) jIQ_161_17 rfl (by decide +kernel) rfl rfl ?_
  refine jT_xaload_n (v := (4, 0)) (pcN := 21) jIQ_161_20 rfl rfl rfl ?_
  refine jT_xgetf (a := 0) (t := 1) (ci := 13) (fi := 7) (c := jzQ_16) (v := (4, 9)) (pcN := 24) jIQ_161_21 rfl rfl rfl rfl rfl rfl rfl ?_
  refine jT_xiload (v := (0, 3)) (pcN := 26) jIQ_161_24 rfl rfl rfl ?_
  refine jT_xiload (v := (0, 3)) (pcN := 28) jIQ_161_26 rfl rfl rfl ?_
  refine jT_xiconst (k := 1) (pcN := 29) jIQ_161_28 rfl ?_
  refine jT_xicT (pcN := 37) jIQ_161_29 rfl (by decide +kernel) rfl ?_
  refine jT_xiload (v := (0, 3)) (pcN := 39) jIQ_161_37 rfl rfl rfl ?_
  refine jT_xiconst (k := 2) (pcN := 40) jIQ_161_39 rfl ?_
  refine jT_xicT (pcN := 48) jIQ_161_40 rfl (by decide +kernel) rfl ?_
  refine jT_xlconst (z := 0) (pcN := 49) jIQ_161_48 rfl rfl ?_
  refine jT_adv 1 (pcN := 50) (LN := [(5, (0, 3)), (0, (4, 0)), (1, (0, r7)), (2, (0, r8)), (3, (4, 1)), (4, (0, o4))]) (stN := []) (hsN := [jzQ_16, jgh, (8, [(4, 13), (4, 14)], []), jgh, jgh, jgh, jgh, jgh, jgh, (101, [], [0, r7, r8, 0, u9_4, u9_5]), (101, [], [k10_0, k10_1, k10_2, k10_3, k10_4, k10_5]), jgh, jgh, jgh, jgh]) (c1 := 0) (s1 := 0) (c2 := 0) (s2 := 0) (by exact rfl) ?_ (by omega) (by omega)
  refine jT_xiinc (x := 3) (z := 4) (LN := [(5, (0, 4)), (0, (4, 0)), (1, (0, r7)), (2, (0, r8)), (3, (4, 1)), (4, (0, o4))]) (pcN := 53) jIQ_161_50 rfl rfl (by decide) rfl rfl ?_
  refine jT_xgoto (pcN := 13) jIQ_161_53 rfl ?_
  refine jT_xiload (v := (0, 4)) (pcN := 15) jIQ_161_13 rfl rfl rfl ?_
  refine jT_xbipush (k := 6) (pcN := 17) jIQ_161_15 (by decide) rfl ?_
  refine jT_xicF (t := 56) (pcN := 20) jIQ_161_17 rfl (by decide +kernel) rfl rfl ?_
  refine jT_xaload_n (v := (4, 0)) (pcN := 21) jIQ_161_20 rfl rfl rfl ?_
  refine jT_xgetf (a := 0) (t := 1) (ci := 13) (fi := 7) (c := jzQ_16) (v := (4, 9)) (pcN := 24) jIQ_161_21 rfl rfl rfl rfl rfl rfl rfl ?_
  refine jT_xiload (v := (0, 4)) (pcN := 26) jIQ_161_24 rfl rfl rfl ?_
  refine jT_xiload (v := (0, 4)) (pcN := 28) jIQ_161_26 rfl rfl rfl ?_
  refine jT_xiconst (k := 1) (pcN := 29) jIQ_161_28 rfl ?_
  refine jT_xicT (pcN := 37) jIQ_161_29 rfl (by decide +kernel) rfl ?_
  refine jT_xiload (v := (0, 4)) (pcN := 39) jIQ_161_37 rfl rfl rfl ?_
  refine jT_xiconst (k := 2) (pcN := 40) jIQ_161_39 rfl ?_
  refine jT_xicT (pcN := 48) jIQ_161_40 rfl (by decide +kernel) rfl ?_
  refine jT_xlconst (z := 0) (pcN := 49) jIQ_161_48 rfl rfl ?_
  refine jT_adv 1 (pcN := 50) (LN := [(5, (0, 4)), (0, (4, 0)), (1, (0, r7)), (2, (0, r8)), (3, (4, 1)), (4, (0, o4))]) (stN := []) (hsN := [jzQ_16, jgh, (8, [(4, 13), (4, 14)], []), jgh, jgh, jgh, jgh, jgh, jgh, (101, [], [0, r7, r8, 0, 0, u9_5]), (101, [], [k10_0, k10_1, k10_2, k10_3, k10_4, k10_5]), jgh, jgh, jgh, jgh]) (c1 := 0) (s1 := 0) (c2 := 0) (s2 := 0) (by exact rfl) ?_ (by omega) (by omega)
  refine jT_xiinc (x := 4) (z := 5) (LN := [(5, (0, 5)), (0, (4, 0)), (1, (0, r7)), (2, (0, r8)), (3, (4, 1)), (4, (0, o4))]) (pcN := 53) jIQ_161_50 rfl rfl (by decide) rfl rfl ?_
  refine jT_xgoto (pcN := 13) jIQ_161_53 rfl ?_
  refine jT_xiload (v := (0, 5)) (pcN := 15) jIQ_161_13 rfl rfl rfl ?_
  refine jT_xbipush (k := 6) (pcN := 17) jIQ_161_15 (by decide) rfl ?_
  refine jT_xicF (t := 56) (pcN := 20) jIQ_161_17 rfl (by decide +kernel) rfl rfl ?_
  refine jT_xaload_n (v := (4, 0)) (pcN := 21) jIQ_161_20 rfl rfl rfl ?_
  refine jT_xgetf (a := 0) (t := 1) (ci := 13) (fi := 7) (c := jzQ_16) (v := (4, 9)) (pcN := 24) jIQ_161_21 rfl rfl rfl rfl rfl rfl rfl ?_
  refine jT_xiload (v := (0, 5)) (pcN := 26) jIQ_161_24 rfl rfl rfl ?_
  refine jT_xiload (v := (0, 5)) (pcN := 28) jIQ_161_26 rfl rfl rfl ?_
  refine jT_xiconst (k := 1) (pcN := 29) jIQ_161_28 rfl ?_
  refine jT_xicT (pcN := 37) jIQ_161_29 rfl (by decide +kernel) rfl ?_
  refine jT_xiload (v := (0, 5)) (pcN := 39) jIQ_161_37 rfl rfl rfl ?_
  refine jT_xiconst (k := 2) (pcN := 40) jIQ_161_39 rfl ?_
  refine jT_xicT (pcN := 48) jIQ_161_40 rfl (by decide +kernel) rfl ?_
  refine jT_xlconst (z := 0) (pcN := 49) jIQ_161_48 rfl rfl ?_
  refine jT_adv 1 (pcN := 50) (LN := [(5, (0, 5)), (0, (4, 0)), (1, (0, r7)), (2, (0, r8)), (3, (4, 1)), (4, (0, o4))]) (stN := []) (hsN := [jzQ_16, jgh, (8, [(4, 13), (4, 14)], []), jgh, jgh, jgh, jgh, jgh, jgh, (101, [], [0, r7, r8, 0, 0, 0]), (101, [], [k10_0, k10_1, k10_2, k10_3, k10_4, k10_5]), jgh, jgh, jgh, jgh]) (c1 := 0) (s1 := 0) (c2 := 0) (s2 := 0) (by exact rfl) ?_ (by omega) (by omega)
  refine jT_xiinc (x := 5) (z := 6) (LN := [(5, (0, 6)), (0, (4, 0)), (1, (0, r7)), (2, (0, r8)), (3, (4, 1)), (4, (0, o4))]) (pcN := 53) jIQ_161_50 rfl rfl (by decide) rfl rfl ?_
  refine jT_xgoto (pcN := 13) jIQ_161_53 rfl ?_
  refine jT_xiload (v := (0, 6)) (pcN := 15) jIQ_161_13 rfl rfl rfl ?_
  refine jT_xbipush (k := 6) (pcN := 17) jIQ_161_15 (by decide) rfl ?_
  refine jT_xicT (pcN := 56) jIQ_161_17 rfl (by decide +kernel) rfl ?_
  refine jT_xaload_n (v := (4, 0)) (pcN := 57) jIQ_161_56 rfl rfl rfl ?_
  refine jT_xgetf (a := 0) (t := 1) (ci := 13) (fi := 0) (c := jzQ_16) (v := (4, 2)) (pcN := 60) jIQ_161_57 rfl rfl rfl rfl rfl rfl rfl ?_
  refine jT_xaload_n (v := (4, 0)) (pcN := 61) jIQ_161_60 rfl rfl rfl ?_
  refine jT_xgetf (a := 0) (t := 1) (ci := 13) (fi := 7) (c := jzQ_16) (v := (4, 9)) (pcN := 64) jIQ_161_61 rfl rfl rfl rfl rfl rfl rfl ?_
  refine jT_xlconst (z := 1) (pcN := 65) jIQ_161_64 rfl rfl ?_
  refine jT_xlconst (z := 1) (pcN := 66) jIQ_161_65 rfl rfl ?_
  refine jT_callA [2, 9, 13, 14] (y := 45) (pcN := 69) (dC := 1) (bc1 := 0) (bc2 := 0) (c1 := 0) (c2 := 0) (as := [(4, 2), (4, 9), (1, 1), (1, 1)]) (asC := [(4, 0), (4, 1), (1, 1), (1, 1)]) (LN := [(5, (0, 6)), (0, (4, 0)), (1, (0, r7)), (2, (0, r8)), (3, (4, 1)), (4, (0, o4))]) (stN := []) (hsC := [(8, [(4, 2), (4, 3)], []), (101, [], [0, r7, r8, 0, 0, 0]), jgh, jgh]) (ex := []) (v := (1, (108917793695 * r7 + 159561683699 * r8) / 68719476736)) (st2 := [(1, (108917793695 * r7 + 159561683699 * r8) / 68719476736)]) (hs2 := [jzQ_16, jgh, (8, [(4, 13), (4, 14)], []), jgh, jgh, jgh, jgh, jgh, jgh, (101, [], [0, r7, r8, 0, 0, 0]), (101, [], [k10_0, k10_1, k10_2, k10_3, k10_4, k10_5]), jgh, jgh, jgh, jgh]) (jQl_sp45_116 (d := 0) (by omega) (by omega)) (by rfl) (by rfl) (by rfl) (by rfl) ⟨rfl, rfl, rfl, rfl, trivial⟩ (by rfl) (by rfl) (by omega) (by show 15 ≤ 15; omega) (by omega) (by omega) rfl rfl ?_
  have hb_q1 : (-60) ≤ (108917793695 * r7 + 159561683699 * r8) / 68719476736 ∧ (108917793695 * r7 + 159561683699 * r8) / 68719476736 ≤ 60 := ⟨by omega, by omega⟩
  generalize hq_q1 : (108917793695 * r7 + 159561683699 * r8) / 68719476736 = q1 at hb_q1 g_3 g_4 ⊢
  refine jT_xlstore (v := (1, q1)) (LN := [(5, (1, q1)), (0, (4, 0)), (1, (0, r7)), (2, (0, r8)), (3, (4, 1)), (4, (0, o4))]) (pcN := 71) jIQ_161_69 rfl rfl rfl rfl ?_
  have g_5 : 0 ≤ (-68719476736) * q1 + 108917793694 * r7 + 159561683698 * r8 - 1 := by have := jcg (b := r7) (c := r8) (by omega) (by omega) (by omega); rw [hq_q1] at this; omega
  have g_6 : 0 ≤ (-68719476736) * q1 + 108917793694 * r7 + 159561683700 * r8 - 1 := by have := jcg (b := r7) (c := r8) (by omega) (by omega) (by omega); rw [hq_q1] at this; omega
  have g_7 : 0 ≤ (-68719476736) * q1 + 108917793696 * r7 + 159561683698 * r8 - 1 := by have := jcg (b := r7) (c := r8) (by omega) (by omega) (by omega); rw [hq_q1] at this; omega
  have g_8 : 0 ≤ (-68719476736) * q1 + 108917793696 * r7 + 159561683700 * r8 - 1 := by have := jcg (b := r7) (c := r8) (by omega) (by omega) (by omega); rw [hq_q1] at this; omega
  refine jT_xiload (v := (0, o4)) (pcN := 73) jIQ_161_71 rfl rfl rfl ?_
  refine jT_ifF (a := o4) (t := 107) (by rfl) (by rfl) (by rfl) (jw_idd (by omega) (by omega)) (by simp only [jcP] <;> omega) ?_
  refine jT_xiload_n (v := (0, r7)) (pcN := 77) jIQ_161_76 rfl rfl rfl ?_
  refine jT_xi2l (x := r7) (z := r7) (pcN := 78) jIQ_161_77 rfl (jw_idd (by omega) (by omega)) rfl ?_
  refine jT_xaload_n (v := (4, 0)) (pcN := 79) jIQ_161_78 rfl rfl rfl ?_
  refine jT_xgetf (a := 0) (t := 1) (ci := 13) (fi := 8) (c := jzQ_16) (v := (4, 10)) (pcN := 82) jIQ_161_79 rfl rfl rfl rfl rfl rfl rfl ?_
  refine jT_xiconst (k := 1) (pcN := 83) jIQ_161_82 rfl ?_
  refine jT_lald (x := k10_1) (a := 10) (j := 1) (fs := []) (X := [k10_0, k10_1, k10_2, k10_3, k10_4, k10_5]) jIQ_161_83 rfl rfl rfl rfl ?_
  refine jT_eq (LN := [(5, (1, q1)), (0, (4, 0)), (1, (0, r7)), (2, (0, r8)), (3, (4, 1)), (4, (0, o4))]) (stN := [(1, k10_1), (1, r7)]) (hsN := [jzQ_16, jgh, (8, [(4, 13), (4, 14)], []), jgh, jgh, jgh, jgh, jgh, jgh, (101, [], [0, r7, r8, 0, 0, 0]), (101, [], [k10_0, k10_1, k10_2, k10_3, k10_4, k10_5]), jgh, jgh, jgh, jgh]) rfl rfl rfl ?_
  refine jT_xlmul (x := r7) (y := k10_1) (z := r7 * k10_1) (pcN := 85) jIQ_161_84 rfl rfl rfl ?_
  have hb_q2 := jmul_b (x := r7) (y := k10_1) (m := 20) (n := 158) (by omega) (by omega) (by omega) (by omega)
  have hb_q2 : 0 ≤ r7 * k10_1 ∧ r7 * k10_1 ≤ 3160 := ⟨hb_q2.1, by omega⟩
  generalize hq_q2 : r7 * k10_1 = q2 at hb_q2 g_3 g_4 ⊢
  refine jT_xiload_n (v := (0, r8)) (pcN := 86) jIQ_161_85 rfl rfl rfl ?_
  refine jT_xi2l (x := r8) (z := r8) (pcN := 87) jIQ_161_86 rfl (jw_idd (by omega) (by omega)) rfl ?_
  refine jT_xaload_n (v := (4, 0)) (pcN := 88) jIQ_161_87 rfl rfl rfl ?_
  refine jT_xgetf (a := 0) (t := 1) (ci := 13) (fi := 8) (c := jzQ_16) (v := (4, 10)) (pcN := 91) jIQ_161_88 rfl rfl rfl rfl rfl rfl rfl ?_
  refine jT_xiconst (k := 2) (pcN := 92) jIQ_161_91 rfl ?_
  refine jT_lald (x := k10_2) (a := 10) (j := 2) (fs := []) (X := [k10_0, k10_1, k10_2, k10_3, k10_4, k10_5]) jIQ_161_92 rfl rfl rfl rfl ?_
  refine jT_eq (LN := [(5, (1, q1)), (0, (4, 0)), (1, (0, r7)), (2, (0, r8)), (3, (4, 1)), (4, (0, o4))]) (stN := [(1, k10_2), (1, r8), (1, q2)]) (hsN := [jzQ_16, jgh, (8, [(4, 13), (4, 14)], []), jgh, jgh, jgh, jgh, jgh, jgh, (101, [], [0, r7, r8, 0, 0, 0]), (101, [], [k10_0, k10_1, k10_2, k10_3, k10_4, k10_5]), jgh, jgh, jgh, jgh]) rfl rfl rfl ?_
  refine jT_xlmul (x := r8) (y := k10_2) (z := r8 * k10_2) (pcN := 94) jIQ_161_93 rfl rfl rfl ?_
  have hb_q3 := jmul_bs (x := r8) (y := k10_2) (m := 10) (n := 232) (by omega) (by omega) (by omega) (by omega)
  have hb_q3 : (-2320) ≤ r8 * k10_2 ∧ r8 * k10_2 ≤ 2320 := ⟨by omega, by omega⟩
  generalize hq_q3 : r8 * k10_2 = q3 at hb_q3 g_3 g_4 ⊢
  refine jT_xladd (x := q2) (y := q3) (z := q2 + q3) (pcN := 95) jIQ_161_94 rfl (rfl) rfl ?_
  refine jT_xlload (v := (1, q1)) (pcN := 97) jIQ_161_95 rfl rfl rfl ?_
  refine jT_xiload (v := (0, o4)) (pcN := 99) jIQ_161_97 rfl rfl rfl ?_
  refine jT_xi2l (x := o4) (z := o4) (pcN := 100) jIQ_161_99 rfl (jw_idd (by omega) (by omega)) rfl ?_
  refine jT_xlmul (x := q1) (y := o4) (z := q1 * o4) (pcN := 101) jIQ_161_100 rfl rfl rfl ?_
  have hb_q4 := jmul_bs (x := q1) (y := o4) (m := 60) (n := 100) (by omega) (by omega) (by omega) (by omega)
  have hb_q4 : (-6000) ≤ q1 * o4 ∧ q1 * o4 ≤ 6000 := ⟨by omega, by omega⟩
  generalize hq_q4 : q1 * o4 = q4 at hb_q4 g_3 g_4 ⊢
  refine jT_lcmp (a := q2 + q3) (b := q4) (z := (-1)) (by rfl) (by rfl) (jwl_idd (by omega) (by omega)) (jwl_idd (by omega) (by omega)) (by rw [decide_eq_false (show ¬ ((q4 : Int) < q2 + q3) by omega), decide_eq_false (show ¬ ((q2 + q3 : Int) = q4) by omega)]; rfl) ?_
  refine jT_xifF (t := 107) (pcN := 105) jIQ_161_102 rfl (by decide +kernel) rfl rfl ?_
  refine jT_xiconst (k := 0) (pcN := 106) jIQ_161_105 rfl ?_
  subst hq_q4
  subst hq_q3
  subst hq_q2
  subst hq_q1
  exact jT_ret rfl (by decide) (by show 15 ≤ 15; omega) (by omega) (by omega) ⟨rfl, rfl, rfl⟩
theorem jQ_161_256 {xs : List Int} {d : Nat} {k10_0 k10_1 k10_2 k10_3 k10_4 k10_5 o4 r7 r8 u9_0 u9_1 u9_2 u9_3 u9_4 u9_5 : Int} (h_k10_0 : 1 ≤ k10_0 ∧ k10_0 ≤ 100) (h_k10_1 : 2 ≤ k10_1 ∧ k10_1 ≤ 158) (h_k10_2 : 2 ≤ k10_2 ∧ k10_2 ≤ 232) (h_k10_3 : 3 ≤ k10_3 ∧ k10_3 ≤ 281) (h_k10_4 : 3 ≤ k10_4 ∧ k10_4 ≤ 346) (h_k10_5 : 4 ≤ k10_5 ∧ k10_5 ≤ 370) (h_o4 : 1 ≤ o4 ∧ o4 ≤ 100) (h_r7 : (-20) ≤ r7 ∧ r7 ≤ 20) (h_r8 : (-10) ≤ r8 ∧ r8 ≤ 10) (g_0 : 0 ≤ r7) (g_1 : r7 ≤ 0) (g_2 : r8 < 0) (g_3 : -(((108917793695 * r7 + 159561683699 * r8) / 68719476736) * o4) + (r7 * k10_1) + (r8 * k10_2) - 1 < 0) (g_4 : 0 ≤ -(((108917793695 * r7 + 159561683699 * r8) / 68719476736) * o4) + (r7 * k10_1) + (r8 * k10_2)) : jT xs (d + 2) 161 16 0 [(0, (4, 0)), (1, (0, r7)), (2, (0, r8)), (3, (4, 1)), (4, (0, o4))] [] [jzQ_16, (4, [(4, 13), (1, 1)], []), (8, [(4, 14), (4, 15)], []), jgh, jgh, jgh, jgh, jgh, jgh, (101, [], [u9_0, u9_1, u9_2, u9_3, u9_4, u9_5]), (101, [], [k10_0, k10_1, k10_2, k10_3, k10_4, k10_5]), jgh, jgh, (101, [], [0, 0, 0, 0, 0, 0]), jgh, jgh] 0 0 (fun k v hsN => k = 0 ∧ v = (0, 0) ∧ hsN = [jzQ_16, (4, [(4, 13), (1, 1)], []), (8, [(4, 14), (4, 15)], []), jgh, jgh, jgh, jgh, jgh, jgh, (101, [], [(108917793695 * r7 + 159561683699 * r8) / 68719476736, -r7, -r8, 0, 0, 0]), (101, [], [k10_0, k10_1, k10_2, k10_3, k10_4, k10_5]), jgh, jgh, (101, [], [0, 0, 0, 0, 0, 0]), jgh, jgh]) := by
  refine jT_xiload_n (v := (0, r7)) (pcN := 1) jIQ_161_0 rfl rfl rfl ?_
  refine jT_ifF (a := r7) (t := 10) (by rfl) (by rfl) (by rfl) (jw_idd (by omega) (by omega)) (by simp only [jcP] <;> omega) ?_
  refine jT_xiload_n (v := (0, r8)) (pcN := 5) jIQ_161_4 rfl rfl rfl ?_
  refine jT_ifT (a := r8) (t := 10) (by rfl) (by rfl) (by rfl) (jw_idd (by omega) (by omega)) (by simp only [jcP] <;> omega) ?_
  refine jT_xiconst (k := 0) (pcN := 11) jIQ_161_10 rfl ?_
  refine jT_xistore (v := (0, 0)) (LN := [(5, (0, 0)), (0, (4, 0)), (1, (0, r7)), (2, (0, r8)), (3, (4, 1)), (4, (0, o4))]) (pcN := 13) jIQ_161_11 rfl rfl rfl rfl ?_
  refine jT_xiload (v := (0, 0)) (pcN := 15) jIQ_161_13 rfl rfl rfl ?_
  refine jT_xbipush (k := 6) (pcN := 17) jIQ_161_15 (by decide) rfl ?_
  refine jT_xicF (t := 56) (pcN := 20) jIQ_161_17 rfl (by decide +kernel) rfl rfl ?_
  refine jT_xaload_n (v := (4, 0)) (pcN := 21) jIQ_161_20 rfl rfl rfl ?_
  refine jT_xgetf (a := 0) (t := 1) (ci := 13) (fi := 7) (c := jzQ_16) (v := (4, 9)) (pcN := 24) jIQ_161_21 rfl rfl rfl rfl rfl rfl rfl ?_
  refine jT_xiload (v := (0, 0)) (pcN := 26) jIQ_161_24 rfl rfl rfl ?_
  refine jT_xiload (v := (0, 0)) (pcN := 28) jIQ_161_26 rfl rfl rfl ?_
  refine jT_xiconst (k := 1) (pcN := 29) jIQ_161_28 rfl ?_
  refine jT_xicT (pcN := 37) jIQ_161_29 rfl (by decide +kernel) rfl ?_
  refine jT_xiload (v := (0, 0)) (pcN := 39) jIQ_161_37 rfl rfl rfl ?_
  refine jT_xiconst (k := 2) (pcN := 40) jIQ_161_39 rfl ?_
  refine jT_xicT (pcN := 48) jIQ_161_40 rfl (by decide +kernel) rfl ?_
  refine jT_xlconst (z := 0) (pcN := 49) jIQ_161_48 rfl rfl ?_
  refine jT_adv 1 (pcN := 50) (LN := [(5, (0, 0)), (0, (4, 0)), (1, (0, r7)), (2, (0, r8)), (3, (4, 1)), (4, (0, o4))]) (stN := []) (hsN := [jzQ_16, (4, [(4, 13), (1, 1)], []), (8, [(4, 14), (4, 15)], []), jgh, jgh, jgh, jgh, jgh, jgh, (101, [], [0, u9_1, u9_2, u9_3, u9_4, u9_5]), (101, [], [k10_0, k10_1, k10_2, k10_3, k10_4, k10_5]), jgh, jgh, (101, [], [0, 0, 0, 0, 0, 0]), jgh, jgh]) (c1 := 0) (s1 := 0) (c2 := 0) (s2 := 0) (by exact rfl) ?_ (by omega) (by omega)
  refine jT_xiinc (x := 0) (z := 1) (LN := [(5, (0, 1)), (0, (4, 0)), (1, (0, r7)), (2, (0, r8)), (3, (4, 1)), (4, (0, o4))]) (pcN := 53) jIQ_161_50 rfl rfl (by decide) rfl rfl ?_
  refine jT_xgoto (pcN := 13) jIQ_161_53 rfl ?_
  refine jT_xiload (v := (0, 1)) (pcN := 15) jIQ_161_13 rfl rfl rfl ?_
  refine jT_xbipush (k := 6) (pcN := 17) jIQ_161_15 (by decide) rfl ?_
  refine jT_xicF (t := 56) (pcN := 20) jIQ_161_17 rfl (by decide +kernel) rfl rfl ?_
  refine jT_xaload_n (v := (4, 0)) (pcN := 21) jIQ_161_20 rfl rfl rfl ?_
  refine jT_xgetf (a := 0) (t := 1) (ci := 13) (fi := 7) (c := jzQ_16) (v := (4, 9)) (pcN := 24) jIQ_161_21 rfl rfl rfl rfl rfl rfl rfl ?_
  refine jT_xiload (v := (0, 1)) (pcN := 26) jIQ_161_24 rfl rfl rfl ?_
  refine jT_xiload (v := (0, 1)) (pcN := 28) jIQ_161_26 rfl rfl rfl ?_
  refine jT_xiconst (k := 1) (pcN := 29) jIQ_161_28 rfl ?_
  refine jT_xicF (t := 37) (pcN := 32) jIQ_161_29 rfl (by decide +kernel) rfl rfl ?_
  refine jT_xiload_n (v := (0, r7)) (pcN := 33) jIQ_161_32 rfl rfl rfl ?_
  refine jT_xi2l (x := r7) (z := r7) (pcN := 34) jIQ_161_33 rfl (jw_idd (by omega) (by omega)) rfl ?_
  refine jT_xgoto (pcN := 49) jIQ_161_34 rfl ?_
  refine jT_adv 1 (pcN := 50) (LN := [(5, (0, 1)), (0, (4, 0)), (1, (0, r7)), (2, (0, r8)), (3, (4, 1)), (4, (0, o4))]) (stN := []) (hsN := [jzQ_16, (4, [(4, 13), (1, 1)], []), (8, [(4, 14), (4, 15)], []), jgh, jgh, jgh, jgh, jgh, jgh, (101, [], [0, r7, u9_2, u9_3, u9_4, u9_5]), (101, [], [k10_0, k10_1, k10_2, k10_3, k10_4, k10_5]), jgh, jgh, (101, [], [0, 0, 0, 0, 0, 0]), jgh, jgh]) (c1 := 0) (s1 := 0) (c2 := 0) (s2 := 0) (by exact rfl) ?_ (by omega) (by omega)
  refine jT_xiinc (x := 1) (z := 2) (LN := [(5, (0, 2)), (0, (4, 0)), (1, (0, r7)), (2, (0, r8)), (3, (4, 1)), (4, (0, o4))]) (pcN := 53) jIQ_161_50 rfl rfl (by decide) rfl rfl ?_
  refine jT_xgoto (pcN := 13) jIQ_161_53 rfl ?_
  refine jT_xiload (v := (0, 2)) (pcN := 15) jIQ_161_13 rfl rfl rfl ?_
  refine jT_xbipush (k := 6) (pcN := 17) jIQ_161_15 (by decide) rfl ?_
  refine jT_xicF (t := 56) (pcN := 20) jIQ_161_17 rfl (by decide +kernel) rfl rfl ?_
  refine jT_xaload_n (v := (4, 0)) (pcN := 21) jIQ_161_20 rfl rfl rfl ?_
  refine jT_xgetf (a := 0) (t := 1) (ci := 13) (fi := 7) (c := jzQ_16) (v := (4, 9)) (pcN := 24) jIQ_161_21 rfl rfl rfl rfl rfl rfl rfl ?_
  refine jT_xiload (v := (0, 2)) (pcN := 26) jIQ_161_24 rfl rfl rfl ?_
  refine jT_xiload (v := (0, 2)) (pcN := 28) jIQ_161_26 rfl rfl rfl ?_
  refine jT_xiconst (k := 1) (pcN := 29) jIQ_161_28 rfl ?_
  refine jT_xicT (pcN := 37) jIQ_161_29 rfl (by decide +kernel) rfl ?_
  refine jT_xiload (v := (0, 2)) (pcN := 39) jIQ_161_37 rfl rfl rfl ?_
  refine jT_xiconst (k := 2) (pcN := 40) jIQ_161_39 rfl ?_
  refine jT_xicF (t := 48) (pcN := 43) jIQ_161_40 rfl (by decide +kernel) rfl rfl ?_
  refine jT_xiload_n (v := (0, r8)) (pcN := 44) jIQ_161_43 rfl rfl rfl ?_
  refine jT_xi2l (x := r8) (z := r8) (pcN := 45) jIQ_161_44 rfl (jw_idd (by omega) (by omega)) rfl ?_
  refine jT_xgoto (pcN := 49) jIQ_161_45 rfl ?_
  refine jT_adv 1 (pcN := 50) (LN := [(5, (0, 2)), (0, (4, 0)), (1, (0, r7)), (2, (0, r8)), (3, (4, 1)), (4, (0, o4))]) (stN := []) (hsN := [jzQ_16, (4, [(4, 13), (1, 1)], []), (8, [(4, 14), (4, 15)], []), jgh, jgh, jgh, jgh, jgh, jgh, (101, [], [0, r7, r8, u9_3, u9_4, u9_5]), (101, [], [k10_0, k10_1, k10_2, k10_3, k10_4, k10_5]), jgh, jgh, (101, [], [0, 0, 0, 0, 0, 0]), jgh, jgh]) (c1 := 0) (s1 := 0) (c2 := 0) (s2 := 0) (by exact rfl) ?_ (by omega) (by omega)
  refine jT_xiinc (x := 2) (z := 3) (LN := [(5, (0, 3)), (0, (4, 0)), (1, (0, r7)), (2, (0, r8)), (3, (4, 1)), (4, (0, o4))]) (pcN := 53) jIQ_161_50 rfl rfl (by decide) rfl rfl ?_
  refine jT_xgoto (pcN := 13) jIQ_161_53 rfl ?_
  refine jT_xiload (v := (0, 3)) (pcN := 15) jIQ_161_13 rfl rfl rfl ?_
  refine jT_xbipush (k := 6) (pcN := 17) jIQ_161_15 (by decide) rfl ?_
  refine jT_xicF (t := 56) (pcN := 20) jIQ_161_17 rfl (by decide +kernel) rfl rfl ?_
  refine jT_xaload_n (v := (4, 0)) (pcN := 21) jIQ_161_20 rfl rfl rfl ?_
  refine jT_xgetf (a := 0) (t := 1) (ci := 13) (fi := 7) (c := jzQ_16) (v := (4, 9)) (pcN := 24) jIQ_161_21 rfl rfl rfl rfl rfl rfl rfl ?_
  refine jT_xiload (v := (0, 3)) (pcN := 26) jIQ_161_24 rfl rfl rfl ?_
  refine jT_xiload (v := (0, 3)) (pcN := 28) jIQ_161_26 rfl rfl rfl ?_
  refine jT_xiconst (k := 1) (pcN := 29) jIQ_161_28 rfl ?_
  refine jT_xicT (pcN := 37) jIQ_161_29 rfl (by decide +kernel) rfl ?_
  refine jT_xiload (v := (0, 3)) (pcN := 39) jIQ_161_37 rfl rfl rfl ?_
  refine jT_xiconst (k := 2) (pcN := 40) jIQ_161_39 rfl ?_
  refine jT_xicT (pcN := 48) jIQ_161_40 rfl (by decide +kernel) rfl ?_
  refine jT_xlconst (z := 0) (pcN := 49) jIQ_161_48 rfl rfl ?_
  refine jT_adv 1 (pcN := 50) (LN := [(5, (0, 3)), (0, (4, 0)), (1, (0, r7)), (2, (0, r8)), (3, (4, 1)), (4, (0, o4))]) (stN := []) (hsN := [jzQ_16, (4, [(4, 13), (1, 1)], []), (8, [(4, 14), (4, 15)], []), jgh, jgh, jgh, jgh, jgh, jgh, (101, [], [0, r7, r8, 0, u9_4, u9_5]), (101, [], [k10_0, k10_1, k10_2, k10_3, k10_4, k10_5]), jgh, jgh, (101, [], [0, 0, 0, 0, 0, 0]), jgh, jgh]) (c1 := 0) (s1 := 0) (c2 := 0) (s2 := 0) (by exact rfl) ?_ (by omega) (by omega)
  refine jT_xiinc (x := 3) (z := 4) (LN := [(5, (0, 4)), (0, (4, 0)), (1, (0, r7)), (2, (0, r8)), (3, (4, 1)), (4, (0, o4))]) (pcN := 53) jIQ_161_50 rfl rfl (by decide) rfl rfl ?_
  refine jT_xgoto (pcN := 13) jIQ_161_53 rfl ?_
  refine jT_xiload (v := (0, 4)) (pcN := 15) jIQ_161_13 rfl rfl rfl ?_
  refine jT_xbipush (k := 6) (pcN := 17) jIQ_161_15 (by decide) rfl ?_
  refine jT_xicF (t := 56) (pcN := 20) jIQ_161_17 rfl (by decide +kernel) rfl rfl ?_
  refine jT_xaload_n (v := (4, 0)) (pcN := 21) jIQ_161_20 rfl rfl rfl ?_
  refine jT_xgetf (a := 0) (t := 1) (ci := 13) (fi := 7) (c := jzQ_16) (v := (4, 9)) (pcN := 24) jIQ_161_21 rfl rfl rfl rfl rfl rfl rfl ?_
  refine jT_xiload (v := (0, 4)) (pcN := 26) jIQ_161_24 rfl rfl rfl ?_
  refine jT_xiload (v := (0, 4)) (pcN := 28) jIQ_161_26 rfl rfl rfl ?_
  refine jT_xiconst (k := 1) (pcN := 29) jIQ_161_28 rfl ?_
  refine jT_xicT (pcN := 37) jIQ_161_29 rfl (by decide +kernel) rfl ?_
  refine jT_xiload (v := (0, 4)) (pcN := 39) jIQ_161_37 rfl rfl rfl ?_
  refine jT_xiconst (k := 2) (pcN := 40) jIQ_161_39 rfl ?_
  refine jT_xicT (pcN := 48) jIQ_161_40 rfl (by decide +kernel) rfl ?_
  refine jT_xlconst (z := 0) (pcN := 49) jIQ_161_48 rfl rfl ?_
  refine jT_adv 1 (pcN := 50) (LN := [(5, (0, 4)), (0, (4, 0)), (1, (0, r7)), (2, (0, r8)), (3, (4, 1)), (4, (0, o4))]) (stN := []) (hsN := [jzQ_16, (4, [(4, 13), (1, 1)], []), (8, [(4, 14), (4, 15)], []), jgh, jgh, jgh, jgh, jgh, jgh, (101, [], [0, r7, r8, 0, 0, u9_5]), (101, [], [k10_0, k10_1, k10_2, k10_3, k10_4, k10_5]), jgh, jgh, (101, [], [0, 0, 0, 0, 0, 0]), jgh, jgh]) (c1 := 0) (s1 := 0) (c2 := 0) (s2 := 0) (by exact rfl) ?_ (by omega) (by omega)
  refine jT_xiinc (x := 4) (z := 5) (LN := [(5, (0, 5)), (0, (4, 0)), (1, (0, r7)), (2, (0, r8)), (3, (4, 1)), (4, (0, o4))]) (pcN := 53) jIQ_161_50 rfl rfl (by decide) rfl rfl ?_
  refine jT_xgoto (pcN := 13) jIQ_161_53 rfl ?_
  refine jT_xiload (v := (0, 5)) (pcN := 15) jIQ_161_13 rfl rfl rfl ?_
  refine jT_xbipush (k := 6) (pcN := 17) jIQ_161_15 (by decide) rfl ?_
  refine jT_xicF (t := 56) (pcN := 20) jIQ_161_17 rfl (by decide +kernel) rfl rfl ?_
  refine jT_xaload_n (v := (4, 0)) (pcN := 21) jIQ_161_20 rfl rfl rfl ?_
  refine jT_xgetf (a := 0) (t := 1) (ci := 13) (fi := 7) (c := jzQ_16) (v := (4, 9)) (pcN := 24) jIQ_161_21 rfl rfl rfl rfl rfl rfl rfl ?_
  refine jT_xiload (v := (0, 5)) (pcN := 26) jIQ_161_24 rfl rfl rfl ?_
  refine jT_xiload (v := (0, 5)) (pcN := 28) jIQ_161_26 rfl rfl rfl ?_
  refine jT_xiconst (k := 1) (pcN := 29) jIQ_161_28 rfl ?_
  refine jT_xicT (pcN := 37) jIQ_161_29 rfl (by decide +kernel) rfl ?_
  refine jT_xiload (v := (0, 5)) (pcN := 39) jIQ_161_37 rfl rfl rfl ?_
  refine jT_xiconst (k := 2) (pcN := 40) jIQ_161_39 rfl ?_
  refine jT_xicT (pcN := 48) jIQ_161_40 rfl (by decide +kernel) rfl ?_
  refine jT_xlconst (z := 0) (pcN := 49) jIQ_161_48 rfl rfl ?_
  refine jT_adv 1 (pcN := 50) (LN := [(5, (0, 5)), (0, (4, 0)), (1, (0, r7)), (2, (0, r8)), (3, (4, 1)), (4, (0, o4))]) (stN := []) (hsN := [jzQ_16, (4, [(4, 13), (1, 1)], []), (8, [(4, 14), (4, 15)], []), jgh, jgh, jgh, jgh, jgh, jgh, (101, [], [0, r7, r8, 0, 0, 0]), (101, [], [k10_0, k10_1, k10_2, k10_3, k10_4, k10_5]), jgh, jgh, (101, [], [0, 0, 0, 0, 0, 0]), jgh, jgh]) (c1 := 0) (s1 := 0) (c2 := 0) (s2 := 0) (by exact rfl) ?_ (by omega) (by omega)
  refine jT_xiinc (x := 5) (z := 6) (LN := [(5, (0, 6)), (0, (4, 0)), (1, (0, r7)), (2, (0, r8)), (3, (4, 1)), (4, (0, o4))]) (pcN := 53) jIQ_161_50 rfl rfl (by decide) rfl rfl ?_
  refine jT_xgoto (pcN := 13) jIQ_161_53 rfl ?_
  refine jT_xiload (v := (0, 6)) (pcN := 15) jIQ_161_13 rfl rfl rfl ?_
  refine jT_xbipush (k := 6) (pcN := 17) jIQ_161_15 (by decide) rfl ?_
  refine jT_xicT (pcN := 56) jIQ_161_17 rfl (by decide +kernel) rfl ?_
  refine jT_xaload_n (v := (4, 0)) (pcN := 57) jIQ_161_56 rfl rfl rfl ?_
  refine jT_xgetf (a := 0) (t := 1) (ci := 13) (fi := 0) (c := jzQ_16) (v := (4, 2)) (pcN := 60) jIQ_161_57 rfl rfl rfl rfl rfl rfl rfl ?_
  refine jT_xaload_n (v := (4, 0)) (pcN := 61) jIQ_161_60 rfl rfl rfl ?_
  refine jT_xgetf (a := 0) (t := 1) (ci := 13) (fi := 7) (c := jzQ_16) (v := (4, 9)) (pcN := 64) jIQ_161_61 rfl rfl rfl rfl rfl rfl rfl ?_
  refine jT_xlconst (z := 1) (pcN := 65) jIQ_161_64 rfl rfl ?_
  refine jT_xlconst (z := 1) (pcN := 66) jIQ_161_65 rfl rfl ?_
  refine jT_callA [2, 9, 14, 15] (y := 45) (pcN := 69) (dC := 1) (bc1 := 0) (bc2 := 0) (c1 := 0) (c2 := 0) (as := [(4, 2), (4, 9), (1, 1), (1, 1)]) (asC := [(4, 0), (4, 1), (1, 1), (1, 1)]) (LN := [(5, (0, 6)), (0, (4, 0)), (1, (0, r7)), (2, (0, r8)), (3, (4, 1)), (4, (0, o4))]) (stN := []) (hsC := [(8, [(4, 2), (4, 3)], []), (101, [], [0, r7, r8, 0, 0, 0]), jgh, jgh]) (ex := []) (v := (1, (108917793695 * r7 + 159561683699 * r8) / 68719476736)) (st2 := [(1, (108917793695 * r7 + 159561683699 * r8) / 68719476736)]) (hs2 := [jzQ_16, (4, [(4, 13), (1, 1)], []), (8, [(4, 14), (4, 15)], []), jgh, jgh, jgh, jgh, jgh, jgh, (101, [], [0, r7, r8, 0, 0, 0]), (101, [], [k10_0, k10_1, k10_2, k10_3, k10_4, k10_5]), jgh, jgh, (101, [], [0, 0, 0, 0, 0, 0]), jgh, jgh]) (jQl_sp45_116 (d := 0) (by omega) (by omega)) (by rfl) (by rfl) (by rfl) (by rfl) ⟨rfl, rfl, rfl, rfl, trivial⟩ (by rfl) (by rfl) (by omega) (by show 16 ≤ 16; omega) (by omega) (by omega) rfl rfl ?_
  have hb_q1 : (-60) ≤ (108917793695 * r7 + 159561683699 * r8) / 68719476736 ∧ (108917793695 * r7 + 159561683699 * r8) / 68719476736 ≤ 60 := ⟨by omega, by omega⟩
  generalize hq_q1 : (108917793695 * r7 + 159561683699 * r8) / 68719476736 = q1 at hb_q1 g_3 g_4 ⊢
  refine jT_xlstore (v := (1, q1)) (LN := [(5, (1, q1)), (0, (4, 0)), (1, (0, r7)), (2, (0, r8)), (3, (4, 1)), (4, (0, o4))]) (pcN := 71) jIQ_161_69 rfl rfl rfl rfl ?_
  have g_5 : 0 ≤ (-68719476736) * q1 + 108917793694 * r7 + 159561683698 * r8 - 1 := by have := jcg (b := r7) (c := r8) (by omega) (by omega) (by omega); rw [hq_q1] at this; omega
  have g_6 : 0 ≤ (-68719476736) * q1 + 108917793694 * r7 + 159561683700 * r8 - 1 := by have := jcg (b := r7) (c := r8) (by omega) (by omega) (by omega); rw [hq_q1] at this; omega
  have g_7 : 0 ≤ (-68719476736) * q1 + 108917793696 * r7 + 159561683698 * r8 - 1 := by have := jcg (b := r7) (c := r8) (by omega) (by omega) (by omega); rw [hq_q1] at this; omega
  have g_8 : 0 ≤ (-68719476736) * q1 + 108917793696 * r7 + 159561683700 * r8 - 1 := by have := jcg (b := r7) (c := r8) (by omega) (by omega) (by omega); rw [hq_q1] at this; omega
  refine jT_xiload (v := (0, o4)) (pcN := 73) jIQ_161_71 rfl rfl rfl ?_
  refine jT_ifF (a := o4) (t := 107) (by rfl) (by rfl) (by rfl) (jw_idd (by omega) (by omega)) (by simp only [jcP] <;> omega) ?_
  refine jT_xiload_n (v := (0, r7)) (pcN := 77) jIQ_161_76 rfl rfl rfl ?_
  refine jT_xi2l (x := r7) (z := r7) (pcN := 78) jIQ_161_77 rfl (jw_idd (by omega) (by omega)) rfl ?_
  refine jT_xaload_n (v := (4, 0)) (pcN := 79) jIQ_161_78 rfl rfl rfl ?_
  refine jT_xgetf (a := 0) (t := 1) (ci := 13) (fi := 8) (c := jzQ_16) (v := (4, 10)) (pcN := 82) jIQ_161_79 rfl rfl rfl rfl rfl rfl rfl ?_
  refine jT_xiconst (k := 1) (pcN := 83) jIQ_161_82 rfl ?_
  refine jT_lald (x := k10_1) (a := 10) (j := 1) (fs := []) (X := [k10_0, k10_1, k10_2, k10_3, k10_4, k10_5]) jIQ_161_83 rfl rfl rfl rfl ?_
  refine jT_eq (LN := [(5, (1, q1)), (0, (4, 0)), (1, (0, r7)), (2, (0, r8)), (3, (4, 1)), (4, (0, o4))]) (stN := [(1, k10_1), (1, r7)]) (hsN := [jzQ_16, (4, [(4, 13), (1, 1)], []), (8, [(4, 14), (4, 15)], []), jgh, jgh, jgh, jgh, jgh, jgh, (101, [], [0, r7, r8, 0, 0, 0]), (101, [], [k10_0, k10_1, k10_2, k10_3, k10_4, k10_5]), jgh, jgh, (101, [], [0, 0, 0, 0, 0, 0]), jgh, jgh]) rfl rfl rfl ?_
  refine jT_xlmul (x := r7) (y := k10_1) (z := r7 * k10_1) (pcN := 85) jIQ_161_84 rfl rfl rfl ?_
  have hb_q2 := jmul_b (x := r7) (y := k10_1) (m := 20) (n := 158) (by omega) (by omega) (by omega) (by omega)
  have hb_q2 : 0 ≤ r7 * k10_1 ∧ r7 * k10_1 ≤ 3160 := ⟨hb_q2.1, by omega⟩
  generalize hq_q2 : r7 * k10_1 = q2 at hb_q2 g_3 g_4 ⊢
  refine jT_xiload_n (v := (0, r8)) (pcN := 86) jIQ_161_85 rfl rfl rfl ?_
  refine jT_xi2l (x := r8) (z := r8) (pcN := 87) jIQ_161_86 rfl (jw_idd (by omega) (by omega)) rfl ?_
  refine jT_xaload_n (v := (4, 0)) (pcN := 88) jIQ_161_87 rfl rfl rfl ?_
  refine jT_xgetf (a := 0) (t := 1) (ci := 13) (fi := 8) (c := jzQ_16) (v := (4, 10)) (pcN := 91) jIQ_161_88 rfl rfl rfl rfl rfl rfl rfl ?_
  refine jT_xiconst (k := 2) (pcN := 92) jIQ_161_91 rfl ?_
  refine jT_lald (x := k10_2) (a := 10) (j := 2) (fs := []) (X := [k10_0, k10_1, k10_2, k10_3, k10_4, k10_5]) jIQ_161_92 rfl rfl rfl rfl ?_
  refine jT_eq (LN := [(5, (1, q1)), (0, (4, 0)), (1, (0, r7)), (2, (0, r8)), (3, (4, 1)), (4, (0, o4))]) (stN := [(1, k10_2), (1, r8), (1, q2)]) (hsN := [jzQ_16, (4, [(4, 13), (1, 1)], []), (8, [(4, 14), (4, 15)], []), jgh, jgh, jgh, jgh, jgh, jgh, (101, [], [0, r7, r8, 0, 0, 0]), (101, [], [k10_0, k10_1, k10_2, k10_3, k10_4, k10_5]), jgh, jgh, (101, [], [0, 0, 0, 0, 0, 0]), jgh, jgh]) rfl rfl rfl ?_
  refine jT_xlmul (x := r8) (y := k10_2) (z := r8 * k10_2) (pcN := 94) jIQ_161_93 rfl rfl rfl ?_
  have hb_q3 := jmul_bs (x := r8) (y := k10_2) (m := 10) (n := 232) (by omega) (by omega) (by omega) (by omega)
  have hb_q3 : (-2320) ≤ r8 * k10_2 ∧ r8 * k10_2 ≤ 2320 := ⟨by omega, by omega⟩
  generalize hq_q3 : r8 * k10_2 = q3 at hb_q3 g_3 g_4 ⊢
  refine jT_xladd (x := q2) (y := q3) (z := q2 + q3) (pcN := 95) jIQ_161_94 rfl (rfl) rfl ?_
  refine jT_xlload (v := (1, q1)) (pcN := 97) jIQ_161_95 rfl rfl rfl ?_
  refine jT_xiload (v := (0, o4)) (pcN := 99) jIQ_161_97 rfl rfl rfl ?_
  refine jT_xi2l (x := o4) (z := o4) (pcN := 100) jIQ_161_99 rfl (jw_idd (by omega) (by omega)) rfl ?_
  refine jT_xlmul (x := q1) (y := o4) (z := q1 * o4) (pcN := 101) jIQ_161_100 rfl rfl rfl ?_
  have hb_q4 := jmul_bs (x := q1) (y := o4) (m := 60) (n := 100) (by omega) (by omega) (by omega) (by omega)
  have hb_q4 : (-6000) ≤ q1 * o4 ∧ q1 * o4 ≤ 6000 := ⟨by omega, by omega⟩
  generalize hq_q4 : q1 * o4 = q4 at hb_q4 g_3 g_4 ⊢
  refine jT_lcmp (a := q2 + q3) (b := q4) (z := 0) (by rfl) (by rfl) (jwl_idd (by omega) (by omega)) (jwl_idd (by omega) (by omega)) (by rw [decide_eq_false (show ¬ ((q4 : Int) < q2 + q3) by omega), decide_eq_true (show (q2 + q3 : Int) = q4 by omega)]; rfl) ?_
  refine jT_xifT (pcN := 107) jIQ_161_102 rfl (by decide +kernel) rfl ?_
  refine jT_xaload_n (v := (4, 0)) (pcN := 108) jIQ_161_107 rfl rfl rfl ?_
  refine jT_xgetf (a := 0) (t := 1) (ci := 13) (fi := 7) (c := jzQ_16) (v := (4, 9)) (pcN := 111) jIQ_161_108 rfl rfl rfl rfl rfl rfl rfl ?_
  refine jT_xiconst (k := 0) (pcN := 112) jIQ_161_111 rfl ?_
  refine jT_xlload (v := (1, q1)) (pcN := 114) jIQ_161_112 rfl rfl rfl ?_
  refine jT_adv 2 (pcN := 116) (LN := [(5, (1, q1)), (0, (4, 0)), (1, (0, r7)), (2, (0, r8)), (3, (4, 1)), (4, (0, o4))]) (stN := []) (hsN := [jzQ_16, (4, [(4, 13), (1, 1)], []), (8, [(4, 14), (4, 15)], []), jgh, jgh, jgh, jgh, jgh, jgh, (101, [], [-q1, r7, r8, 0, 0, 0]), (101, [], [k10_0, k10_1, k10_2, k10_3, k10_4, k10_5]), jgh, jgh, (101, [], [0, 0, 0, 0, 0, 0]), jgh, jgh]) (c1 := 0) (s1 := 0) (c2 := 0) (s2 := 0) (by exact rfl) ?_ (by omega) (by omega)
  refine jT_xiconst (k := 0) (pcN := 117) jIQ_161_116 rfl ?_
  refine jT_xistore (v := (0, 0)) (LN := [(7, (0, 0)), (5, (1, q1)), (0, (4, 0)), (1, (0, r7)), (2, (0, r8)), (3, (4, 1)), (4, (0, o4))]) (pcN := 119) jIQ_161_117 rfl rfl rfl rfl ?_
  refine jT_xiload (v := (0, 0)) (pcN := 121) jIQ_161_119 rfl rfl rfl ?_
  refine jT_xbipush (k := 6) (pcN := 123) jIQ_161_121 (by decide) rfl ?_
  refine jT_xicF (t := 159) (pcN := 126) jIQ_161_123 rfl (by decide +kernel) rfl rfl ?_
  refine jT_xaload_n (v := (4, 0)) (pcN := 127) jIQ_161_126 rfl rfl rfl ?_
  refine jT_xgetf (a := 0) (t := 1) (ci := 13) (fi := 7) (c := jzQ_16) (v := (4, 9)) (pcN := 130) jIQ_161_127 rfl rfl rfl rfl rfl rfl rfl ?_
  refine jT_xiload (v := (0, 0)) (pcN := 132) jIQ_161_130 rfl rfl rfl ?_
  refine jT_xaload_n (v := (4, 1)) (pcN := 133) jIQ_161_132 rfl rfl rfl ?_
  refine jT_xgetf (a := 1) (t := 2) (ci := 4) (fi := 0) (c := (4, [(4, 13), (1, 1)], [])) (v := (4, 13)) (pcN := 136) jIQ_161_133 rfl rfl rfl rfl rfl rfl rfl ?_
  refine jT_xiload (v := (0, 0)) (pcN := 138) jIQ_161_136 rfl rfl rfl ?_
  refine jT_lald (x := 0) (a := 13) (j := 0) (fs := []) (X := [0, 0, 0, 0, 0, 0]) jIQ_161_138 rfl rfl rfl rfl ?_
  refine jT_eq (LN := [(7, (0, 0)), (5, (1, q1)), (0, (4, 0)), (1, (0, r7)), (2, (0, r8)), (3, (4, 1)), (4, (0, o4))]) (stN := [(1, 0), (0, 0), (4, 9)]) (hsN := [jzQ_16, (4, [(4, 13), (1, 1)], []), (8, [(4, 14), (4, 15)], []), jgh, jgh, jgh, jgh, jgh, jgh, (101, [], [-q1, r7, r8, 0, 0, 0]), (101, [], [k10_0, k10_1, k10_2, k10_3, k10_4, k10_5]), jgh, jgh, (101, [], [0, 0, 0, 0, 0, 0]), jgh, jgh]) rfl rfl rfl ?_
  refine jT_xaload_n (v := (4, 0)) (pcN := 140) jIQ_161_139 rfl rfl rfl ?_
  refine jT_xgetf (a := 0) (t := 1) (ci := 13) (fi := 7) (c := jzQ_16) (v := (4, 9)) (pcN := 143) jIQ_161_140 rfl rfl rfl rfl rfl rfl rfl ?_
  refine jT_xiload (v := (0, 0)) (pcN := 145) jIQ_161_143 rfl rfl rfl ?_
  refine jT_lald (x := -q1) (a := 9) (j := 0) (fs := []) (X := [-q1, r7, r8, 0, 0, 0]) jIQ_161_145 rfl rfl rfl rfl ?_
  refine jT_eq (LN := [(7, (0, 0)), (5, (1, q1)), (0, (4, 0)), (1, (0, r7)), (2, (0, r8)), (3, (4, 1)), (4, (0, o4))]) (stN := [(1, -q1), (1, 0), (0, 0), (4, 9)]) (hsN := [jzQ_16, (4, [(4, 13), (1, 1)], []), (8, [(4, 14), (4, 15)], []), jgh, jgh, jgh, jgh, jgh, jgh, (101, [], [-q1, r7, r8, 0, 0, 0]), (101, [], [k10_0, k10_1, k10_2, k10_3, k10_4, k10_5]), jgh, jgh, (101, [], [0, 0, 0, 0, 0, 0]), jgh, jgh]) rfl rfl rfl ?_
  refine jT_xaload_n (v := (4, 1)) (pcN := 147) jIQ_161_146 rfl rfl rfl ?_
  refine jT_xgetf (a := 1) (t := 2) (ci := 4) (fi := 1) (c := (4, [(4, 13), (1, 1)], [])) (v := (1, 1)) (pcN := 150) jIQ_161_147 rfl rfl rfl rfl rfl rfl rfl ?_
  refine jT_xlmul (x := -q1) (y := 1) (z := -q1) (pcN := 151) jIQ_161_150 rfl (by omega) rfl ?_
  refine jT_xlsub (x := 0) (y := -q1) (z := q1) (pcN := 152) jIQ_161_151 rfl (by omega) rfl ?_
  refine jT_adv 1 (pcN := 153) (LN := [(7, (0, 0)), (5, (1, q1)), (0, (4, 0)), (1, (0, r7)), (2, (0, r8)), (3, (4, 1)), (4, (0, o4))]) (stN := []) (hsN := [jzQ_16, (4, [(4, 13), (1, 1)], []), (8, [(4, 14), (4, 15)], []), jgh, jgh, jgh, jgh, jgh, jgh, (101, [], [q1, r7, r8, 0, 0, 0]), (101, [], [k10_0, k10_1, k10_2, k10_3, k10_4, k10_5]), jgh, jgh, (101, [], [0, 0, 0, 0, 0, 0]), jgh, jgh]) (c1 := 0) (s1 := 0) (c2 := 0) (s2 := 0) (by exact rfl) ?_ (by omega) (by omega)
  refine jT_xiinc (x := 0) (z := 1) (LN := [(7, (0, 1)), (5, (1, q1)), (0, (4, 0)), (1, (0, r7)), (2, (0, r8)), (3, (4, 1)), (4, (0, o4))]) (pcN := 156) jIQ_161_153 rfl rfl (by decide) rfl rfl ?_
  refine jT_xgoto (pcN := 119) jIQ_161_156 rfl ?_
  refine jT_xiload (v := (0, 1)) (pcN := 121) jIQ_161_119 rfl rfl rfl ?_
  refine jT_xbipush (k := 6) (pcN := 123) jIQ_161_121 (by decide) rfl ?_
  refine jT_xicF (t := 159) (pcN := 126) jIQ_161_123 rfl (by decide +kernel) rfl rfl ?_
  refine jT_xaload_n (v := (4, 0)) (pcN := 127) jIQ_161_126 rfl rfl rfl ?_
  refine jT_xgetf (a := 0) (t := 1) (ci := 13) (fi := 7) (c := jzQ_16) (v := (4, 9)) (pcN := 130) jIQ_161_127 rfl rfl rfl rfl rfl rfl rfl ?_
  refine jT_xiload (v := (0, 1)) (pcN := 132) jIQ_161_130 rfl rfl rfl ?_
  refine jT_xaload_n (v := (4, 1)) (pcN := 133) jIQ_161_132 rfl rfl rfl ?_
  refine jT_xgetf (a := 1) (t := 2) (ci := 4) (fi := 0) (c := (4, [(4, 13), (1, 1)], [])) (v := (4, 13)) (pcN := 136) jIQ_161_133 rfl rfl rfl rfl rfl rfl rfl ?_
  refine jT_xiload (v := (0, 1)) (pcN := 138) jIQ_161_136 rfl rfl rfl ?_
  refine jT_lald (x := 0) (a := 13) (j := 1) (fs := []) (X := [0, 0, 0, 0, 0, 0]) jIQ_161_138 rfl rfl rfl rfl ?_
  refine jT_eq (LN := [(7, (0, 1)), (5, (1, q1)), (0, (4, 0)), (1, (0, r7)), (2, (0, r8)), (3, (4, 1)), (4, (0, o4))]) (stN := [(1, 0), (0, 1), (4, 9)]) (hsN := [jzQ_16, (4, [(4, 13), (1, 1)], []), (8, [(4, 14), (4, 15)], []), jgh, jgh, jgh, jgh, jgh, jgh, (101, [], [q1, r7, r8, 0, 0, 0]), (101, [], [k10_0, k10_1, k10_2, k10_3, k10_4, k10_5]), jgh, jgh, (101, [], [0, 0, 0, 0, 0, 0]), jgh, jgh]) rfl rfl rfl ?_
  refine jT_xaload_n (v := (4, 0)) (pcN := 140) jIQ_161_139 rfl rfl rfl ?_
  refine jT_xgetf (a := 0) (t := 1) (ci := 13) (fi := 7) (c := jzQ_16) (v := (4, 9)) (pcN := 143) jIQ_161_140 rfl rfl rfl rfl rfl rfl rfl ?_
  refine jT_xiload (v := (0, 1)) (pcN := 145) jIQ_161_143 rfl rfl rfl ?_
  refine jT_lald (x := r7) (a := 9) (j := 1) (fs := []) (X := [q1, r7, r8, 0, 0, 0]) jIQ_161_145 rfl rfl rfl rfl ?_
  refine jT_eq (LN := [(7, (0, 1)), (5, (1, q1)), (0, (4, 0)), (1, (0, r7)), (2, (0, r8)), (3, (4, 1)), (4, (0, o4))]) (stN := [(1, r7), (1, 0), (0, 1), (4, 9)]) (hsN := [jzQ_16, (4, [(4, 13), (1, 1)], []), (8, [(4, 14), (4, 15)], []), jgh, jgh, jgh, jgh, jgh, jgh, (101, [], [q1, r7, r8, 0, 0, 0]), (101, [], [k10_0, k10_1, k10_2, k10_3, k10_4, k10_5]), jgh, jgh, (101, [], [0, 0, 0, 0, 0, 0]), jgh, jgh]) rfl rfl rfl ?_
  refine jT_xaload_n (v := (4, 1)) (pcN := 147) jIQ_161_146 rfl rfl rfl ?_
  refine jT_xgetf (a := 1) (t := 2) (ci := 4) (fi := 1) (c := (4, [(4, 13), (1, 1)], [])) (v := (1, 1)) (pcN := 150) jIQ_161_147 rfl rfl rfl rfl rfl rfl rfl ?_
  refine jT_xlmul (x := r7) (y := 1) (z := r7) (pcN := 151) jIQ_161_150 rfl (by omega) rfl ?_
  refine jT_xlsub (x := 0) (y := r7) (z := -r7) (pcN := 152) jIQ_161_151 rfl (by omega) rfl ?_
  refine jT_adv 1 (pcN := 153) (LN := [(7, (0, 1)), (5, (1, q1)), (0, (4, 0)), (1, (0, r7)), (2, (0, r8)), (3, (4, 1)), (4, (0, o4))]) (stN := []) (hsN := [jzQ_16, (4, [(4, 13), (1, 1)], []), (8, [(4, 14), (4, 15)], []), jgh, jgh, jgh, jgh, jgh, jgh, (101, [], [q1, -r7, r8, 0, 0, 0]), (101, [], [k10_0, k10_1, k10_2, k10_3, k10_4, k10_5]), jgh, jgh, (101, [], [0, 0, 0, 0, 0, 0]), jgh, jgh]) (c1 := 0) (s1 := 0) (c2 := 0) (s2 := 0) (by exact rfl) ?_ (by omega) (by omega)
  refine jT_xiinc (x := 1) (z := 2) (LN := [(7, (0, 2)), (5, (1, q1)), (0, (4, 0)), (1, (0, r7)), (2, (0, r8)), (3, (4, 1)), (4, (0, o4))]) (pcN := 156) jIQ_161_153 rfl rfl (by decide) rfl rfl ?_
  refine jT_xgoto (pcN := 119) jIQ_161_156 rfl ?_
  refine jT_xiload (v := (0, 2)) (pcN := 121) jIQ_161_119 rfl rfl rfl ?_
  refine jT_xbipush (k := 6) (pcN := 123) jIQ_161_121 (by decide) rfl ?_
  refine jT_xicF (t := 159) (pcN := 126) jIQ_161_123 rfl (by decide +kernel) rfl rfl ?_
  refine jT_xaload_n (v := (4, 0)) (pcN := 127) jIQ_161_126 rfl rfl rfl ?_
  refine jT_xgetf (a := 0) (t := 1) (ci := 13) (fi := 7) (c := jzQ_16) (v := (4, 9)) (pcN := 130) jIQ_161_127 rfl rfl rfl rfl rfl rfl rfl ?_
  refine jT_xiload (v := (0, 2)) (pcN := 132) jIQ_161_130 rfl rfl rfl ?_
  refine jT_xaload_n (v := (4, 1)) (pcN := 133) jIQ_161_132 rfl rfl rfl ?_
  refine jT_xgetf (a := 1) (t := 2) (ci := 4) (fi := 0) (c := (4, [(4, 13), (1, 1)], [])) (v := (4, 13)) (pcN := 136) jIQ_161_133 rfl rfl rfl rfl rfl rfl rfl ?_
  refine jT_xiload (v := (0, 2)) (pcN := 138) jIQ_161_136 rfl rfl rfl ?_
  refine jT_lald (x := 0) (a := 13) (j := 2) (fs := []) (X := [0, 0, 0, 0, 0, 0]) jIQ_161_138 rfl rfl rfl rfl ?_
  refine jT_eq (LN := [(7, (0, 2)), (5, (1, q1)), (0, (4, 0)), (1, (0, r7)), (2, (0, r8)), (3, (4, 1)), (4, (0, o4))]) (stN := [(1, 0), (0, 2), (4, 9)]) (hsN := [jzQ_16, (4, [(4, 13), (1, 1)], []), (8, [(4, 14), (4, 15)], []), jgh, jgh, jgh, jgh, jgh, jgh, (101, [], [q1, -r7, r8, 0, 0, 0]), (101, [], [k10_0, k10_1, k10_2, k10_3, k10_4, k10_5]), jgh, jgh, (101, [], [0, 0, 0, 0, 0, 0]), jgh, jgh]) rfl rfl rfl ?_
  refine jT_xaload_n (v := (4, 0)) (pcN := 140) jIQ_161_139 rfl rfl rfl ?_
  refine jT_xgetf (a := 0) (t := 1) (ci := 13) (fi := 7) (c := jzQ_16) (v := (4, 9)) (pcN := 143) jIQ_161_140 rfl rfl rfl rfl rfl rfl rfl ?_
  refine jT_xiload (v := (0, 2)) (pcN := 145) jIQ_161_143 rfl rfl rfl ?_
  refine jT_lald (x := r8) (a := 9) (j := 2) (fs := []) (X := [q1, -r7, r8, 0, 0, 0]) jIQ_161_145 rfl rfl rfl rfl ?_
  refine jT_eq (LN := [(7, (0, 2)), (5, (1, q1)), (0, (4, 0)), (1, (0, r7)), (2, (0, r8)), (3, (4, 1)), (4, (0, o4))]) (stN := [(1, r8), (1, 0), (0, 2), (4, 9)]) (hsN := [jzQ_16, (4, [(4, 13), (1, 1)], []), (8, [(4, 14), (4, 15)], []), jgh, jgh, jgh, jgh, jgh, jgh, (101, [], [q1, -r7, r8, 0, 0, 0]), (101, [], [k10_0, k10_1, k10_2, k10_3, k10_4, k10_5]), jgh, jgh, (101, [], [0, 0, 0, 0, 0, 0]), jgh, jgh]) rfl rfl rfl ?_
  refine jT_xaload_n (v := (4, 1)) (pcN := 147) jIQ_161_146 rfl rfl rfl ?_
  refine jT_xgetf (a := 1) (t := 2) (ci := 4) (fi := 1) (c := (4, [(4, 13), (1, 1)], [])) (v := (1, 1)) (pcN := 150) jIQ_161_147 rfl rfl rfl rfl rfl rfl rfl ?_
  refine jT_xlmul (x := r8) (y := 1) (z := r8) (pcN := 151) jIQ_161_150 rfl (by omega) rfl ?_
  refine jT_xlsub (x := 0) (y := r8) (z := -r8) (pcN := 152) jIQ_161_151 rfl (by omega) rfl ?_
  refine jT_adv 1 (pcN := 153) (LN := [(7, (0, 2)), (5, (1, q1)), (0, (4, 0)), (1, (0, r7)), (2, (0, r8)), (3, (4, 1)), (4, (0, o4))]) (stN := []) (hsN := [jzQ_16, (4, [(4, 13), (1, 1)], []), (8, [(4, 14), (4, 15)], []), jgh, jgh, jgh, jgh, jgh, jgh, (101, [], [q1, -r7, -r8, 0, 0, 0]), (101, [], [k10_0, k10_1, k10_2, k10_3, k10_4, k10_5]), jgh, jgh, (101, [], [0, 0, 0, 0, 0, 0]), jgh, jgh]) (c1 := 0) (s1 := 0) (c2 := 0) (s2 := 0) (by exact rfl) ?_ (by omega) (by omega)
  refine jT_xiinc (x := 2) (z := 3) (LN := [(7, (0, 3)), (5, (1, q1)), (0, (4, 0)), (1, (0, r7)), (2, (0, r8)), (3, (4, 1)), (4, (0, o4))]) (pcN := 156) jIQ_161_153 rfl rfl (by decide) rfl rfl ?_
  refine jT_xgoto (pcN := 119) jIQ_161_156 rfl ?_
  refine jT_xiload (v := (0, 3)) (pcN := 121) jIQ_161_119 rfl rfl rfl ?_
  refine jT_xbipush (k := 6) (pcN := 123) jIQ_161_121 (by decide) rfl ?_
  refine jT_xicF (t := 159) (pcN := 126) jIQ_161_123 rfl (by decide +kernel) rfl rfl ?_
  refine jT_xaload_n (v := (4, 0)) (pcN := 127) jIQ_161_126 rfl rfl rfl ?_
  refine jT_xgetf (a := 0) (t := 1) (ci := 13) (fi := 7) (c := jzQ_16) (v := (4, 9)) (pcN := 130) jIQ_161_127 rfl rfl rfl rfl rfl rfl rfl ?_
  refine jT_xiload (v := (0, 3)) (pcN := 132) jIQ_161_130 rfl rfl rfl ?_
  refine jT_xaload_n (v := (4, 1)) (pcN := 133) jIQ_161_132 rfl rfl rfl ?_
  refine jT_xgetf (a := 1) (t := 2) (ci := 4) (fi := 0) (c := (4, [(4, 13), (1, 1)], [])) (v := (4, 13)) (pcN := 136) jIQ_161_133 rfl rfl rfl rfl rfl rfl rfl ?_
  refine jT_xiload (v := (0, 3)) (pcN := 138) jIQ_161_136 rfl rfl rfl ?_
  refine jT_lald (x := 0) (a := 13) (j := 3) (fs := []) (X := [0, 0, 0, 0, 0, 0]) jIQ_161_138 rfl rfl rfl rfl ?_
  refine jT_eq (LN := [(7, (0, 3)), (5, (1, q1)), (0, (4, 0)), (1, (0, r7)), (2, (0, r8)), (3, (4, 1)), (4, (0, o4))]) (stN := [(1, 0), (0, 3), (4, 9)]) (hsN := [jzQ_16, (4, [(4, 13), (1, 1)], []), (8, [(4, 14), (4, 15)], []), jgh, jgh, jgh, jgh, jgh, jgh, (101, [], [q1, -r7, -r8, 0, 0, 0]), (101, [], [k10_0, k10_1, k10_2, k10_3, k10_4, k10_5]), jgh, jgh, (101, [], [0, 0, 0, 0, 0, 0]), jgh, jgh]) rfl rfl rfl ?_
  refine jT_xaload_n (v := (4, 0)) (pcN := 140) jIQ_161_139 rfl rfl rfl ?_
  refine jT_xgetf (a := 0) (t := 1) (ci := 13) (fi := 7) (c := jzQ_16) (v := (4, 9)) (pcN := 143) jIQ_161_140 rfl rfl rfl rfl rfl rfl rfl ?_
  refine jT_xiload (v := (0, 3)) (pcN := 145) jIQ_161_143 rfl rfl rfl ?_
  refine jT_lald (x := 0) (a := 9) (j := 3) (fs := []) (X := [q1, -r7, -r8, 0, 0, 0]) jIQ_161_145 rfl rfl rfl rfl ?_
  refine jT_eq (LN := [(7, (0, 3)), (5, (1, q1)), (0, (4, 0)), (1, (0, r7)), (2, (0, r8)), (3, (4, 1)), (4, (0, o4))]) (stN := [(1, 0), (1, 0), (0, 3), (4, 9)]) (hsN := [jzQ_16, (4, [(4, 13), (1, 1)], []), (8, [(4, 14), (4, 15)], []), jgh, jgh, jgh, jgh, jgh, jgh, (101, [], [q1, -r7, -r8, 0, 0, 0]), (101, [], [k10_0, k10_1, k10_2, k10_3, k10_4, k10_5]), jgh, jgh, (101, [], [0, 0, 0, 0, 0, 0]), jgh, jgh]) rfl rfl rfl ?_
  refine jT_xaload_n (v := (4, 1)) (pcN := 147) jIQ_161_146 rfl rfl rfl ?_
  refine jT_xgetf (a := 1) (t := 2) (ci := 4) (fi := 1) (c := (4, [(4, 13), (1, 1)], [])) (v := (1, 1)) (pcN := 150) jIQ_161_147 rfl rfl rfl rfl rfl rfl rfl ?_
  refine jT_xlmul (x := 0) (y := 1) (z := 0) (pcN := 151) jIQ_161_150 rfl (by decide) rfl ?_
  refine jT_xlsub (x := 0) (y := 0) (z := 0) (pcN := 152) jIQ_161_151 rfl (by decide) rfl ?_
  refine jT_adv 1 (pcN := 153) (LN := [(7, (0, 3)), (5, (1, q1)), (0, (4, 0)), (1, (0, r7)), (2, (0, r8)), (3, (4, 1)), (4, (0, o4))]) (stN := []) (hsN := [jzQ_16, (4, [(4, 13), (1, 1)], []), (8, [(4, 14), (4, 15)], []), jgh, jgh, jgh, jgh, jgh, jgh, (101, [], [q1, -r7, -r8, 0, 0, 0]), (101, [], [k10_0, k10_1, k10_2, k10_3, k10_4, k10_5]), jgh, jgh, (101, [], [0, 0, 0, 0, 0, 0]), jgh, jgh]) (c1 := 0) (s1 := 0) (c2 := 0) (s2 := 0) (by exact rfl) ?_ (by omega) (by omega)
  refine jT_xiinc (x := 3) (z := 4) (LN := [(7, (0, 4)), (5, (1, q1)), (0, (4, 0)), (1, (0, r7)), (2, (0, r8)), (3, (4, 1)), (4, (0, o4))]) (pcN := 156) jIQ_161_153 rfl rfl (by decide) rfl rfl ?_
  refine jT_xgoto (pcN := 119) jIQ_161_156 rfl ?_
  refine jT_xiload (v := (0, 4)) (pcN := 121) jIQ_161_119 rfl rfl rfl ?_
  refine jT_xbipush (k := 6) (pcN := 123) jIQ_161_121 (by decide) rfl ?_
  refine jT_xicF (t := 159) (pcN := 126) jIQ_161_123 rfl (by decide +kernel) rfl rfl ?_
  refine jT_xaload_n (v := (4, 0)) (pcN := 127) jIQ_161_126 rfl rfl rfl ?_
  refine jT_xgetf (a := 0) (t := 1) (ci := 13) (fi := 7) (c := jzQ_16) (v := (4, 9)) (pcN := 130) jIQ_161_127 rfl rfl rfl rfl rfl rfl rfl ?_
  refine jT_xiload (v := (0, 4)) (pcN := 132) jIQ_161_130 rfl rfl rfl ?_
  refine jT_xaload_n (v := (4, 1)) (pcN := 133) jIQ_161_132 rfl rfl rfl ?_
  refine jT_xgetf (a := 1) (t := 2) (ci := 4) (fi := 0) (c := (4, [(4, 13), (1, 1)], [])) (v := (4, 13)) (pcN := 136) jIQ_161_133 rfl rfl rfl rfl rfl rfl rfl ?_
  refine jT_xiload (v := (0, 4)) (pcN := 138) jIQ_161_136 rfl rfl rfl ?_
  refine jT_lald (x := 0) (a := 13) (j := 4) (fs := []) (X := [0, 0, 0, 0, 0, 0]) jIQ_161_138 rfl rfl rfl rfl ?_
  refine jT_eq (LN := [(7, (0, 4)), (5, (1, q1)), (0, (4, 0)), (1, (0, r7)), (2, (0, r8)), (3, (4, 1)), (4, (0, o4))]) (stN := [(1, 0), (0, 4), (4, 9)]) (hsN := [jzQ_16, (4, [(4, 13), (1, 1)], []), (8, [(4, 14), (4, 15)], []), jgh, jgh, jgh, jgh, jgh, jgh, (101, [], [q1, -r7, -r8, 0, 0, 0]), (101, [], [k10_0, k10_1, k10_2, k10_3, k10_4, k10_5]), jgh, jgh, (101, [], [0, 0, 0, 0, 0, 0]), jgh, jgh]) rfl rfl rfl ?_
  refine jT_xaload_n (v := (4, 0)) (pcN := 140) jIQ_161_139 rfl rfl rfl ?_
  refine jT_xgetf (a := 0) (t := 1) (ci := 13) (fi := 7) (c := jzQ_16) (v := (4, 9)) (pcN := 143) jIQ_161_140 rfl rfl rfl rfl rfl rfl rfl ?_
  refine jT_xiload (v := (0, 4)) (pcN := 145) jIQ_161_143 rfl rfl rfl ?_
  refine jT_lald (x := 0) (a := 9) (j := 4) (fs := []) (X := [q1, -r7, -r8, 0, 0, 0]) jIQ_161_145 rfl rfl rfl rfl ?_
  refine jT_eq (LN := [(7, (0, 4)), (5, (1, q1)), (0, (4, 0)), (1, (0, r7)), (2, (0, r8)), (3, (4, 1)), (4, (0, o4))]) (stN := [(1, 0), (1, 0), (0, 4), (4, 9)]) (hsN := [jzQ_16, (4, [(4, 13), (1, 1)], []), (8, [(4, 14), (4, 15)], []), jgh, jgh, jgh, jgh, jgh, jgh, (101, [], [q1, -r7, -r8, 0, 0, 0]), (101, [], [k10_0, k10_1, k10_2, k10_3, k10_4, k10_5]), jgh, jgh, (101, [], [0, 0, 0, 0, 0, 0]), jgh, jgh]) rfl rfl rfl ?_
  refine jT_xaload_n (v := (4, 1)) (pcN := 147) jIQ_161_146 rfl rfl rfl ?_
  refine jT_xgetf (a := 1) (t := 2) (ci := 4) (fi := 1) (c := (4, [(4, 13), (1, 1)], [])) (v := (1, 1)) (pcN := 150) jIQ_161_147 rfl rfl rfl rfl rfl rfl rfl ?_
  refine jT_xlmul (x := 0) (y := 1) (z := 0) (pcN := 151) jIQ_161_150 rfl (by decide) rfl ?_
  refine jT_xlsub (x := 0) (y := 0) (z := 0) (pcN := 152) jIQ_161_151 rfl (by decide) rfl ?_
  refine jT_adv 1 (pcN := 153) (LN := [(7, (0, 4)), (5, (1, q1)), (0, (4, 0)), (1, (0, r7)), (2, (0, r8)), (3, (4, 1)), (4, (0, o4))]) (stN := []) (hsN := [jzQ_16, (4, [(4, 13), (1, 1)], []), (8, [(4, 14), (4, 15)], []), jgh, jgh, jgh, jgh, jgh, jgh, (101, [], [q1, -r7, -r8, 0, 0, 0]), (101, [], [k10_0, k10_1, k10_2, k10_3, k10_4, k10_5]), jgh, jgh, (101, [], [0, 0, 0, 0, 0, 0]), jgh, jgh]) (c1 := 0) (s1 := 0) (c2 := 0) (s2 := 0) (by exact rfl) ?_ (by omega) (by omega)
  refine jT_xiinc (x := 4) (z := 5) (LN := [(7, (0, 5)), (5, (1, q1)), (0, (4, 0)), (1, (0, r7)), (2, (0, r8)), (3, (4, 1)), (4, (0, o4))]) (pcN := 156) jIQ_161_153 rfl rfl (by decide) rfl rfl ?_
  refine jT_xgoto (pcN := 119) jIQ_161_156 rfl ?_
  refine jT_xiload (v := (0, 5)) (pcN := 121) jIQ_161_119 rfl rfl rfl ?_
  refine jT_xbipush (k := 6) (pcN := 123) jIQ_161_121 (by decide) rfl ?_
  refine jT_xicF (t := 159) (pcN := 126) jIQ_161_123 rfl (by decide +kernel) rfl rfl ?_
  refine jT_xaload_n (v := (4, 0)) (pcN := 127) jIQ_161_126 rfl rfl rfl ?_
  refine jT_xgetf (a := 0) (t := 1) (ci := 13) (fi := 7) (c := jzQ_16) (v := (4, 9)) (pcN := 130) jIQ_161_127 rfl rfl rfl rfl rfl rfl rfl ?_
  refine jT_xiload (v := (0, 5)) (pcN := 132) jIQ_161_130 rfl rfl rfl ?_
  refine jT_xaload_n (v := (4, 1)) (pcN := 133) jIQ_161_132 rfl rfl rfl ?_
  refine jT_xgetf (a := 1) (t := 2) (ci := 4) (fi := 0) (c := (4, [(4, 13), (1, 1)], [])) (v := (4, 13)) (pcN := 136) jIQ_161_133 rfl rfl rfl rfl rfl rfl rfl ?_
  refine jT_xiload (v := (0, 5)) (pcN := 138) jIQ_161_136 rfl rfl rfl ?_
  refine jT_lald (x := 0) (a := 13) (j := 5) (fs := []) (X := [0, 0, 0, 0, 0, 0]) jIQ_161_138 rfl rfl rfl rfl ?_
  refine jT_eq (LN := [(7, (0, 5)), (5, (1, q1)), (0, (4, 0)), (1, (0, r7)), (2, (0, r8)), (3, (4, 1)), (4, (0, o4))]) (stN := [(1, 0), (0, 5), (4, 9)]) (hsN := [jzQ_16, (4, [(4, 13), (1, 1)], []), (8, [(4, 14), (4, 15)], []), jgh, jgh, jgh, jgh, jgh, jgh, (101, [], [q1, -r7, -r8, 0, 0, 0]), (101, [], [k10_0, k10_1, k10_2, k10_3, k10_4, k10_5]), jgh, jgh, (101, [], [0, 0, 0, 0, 0, 0]), jgh, jgh]) rfl rfl rfl ?_
  refine jT_xaload_n (v := (4, 0)) (pcN := 140) jIQ_161_139 rfl rfl rfl ?_
  refine jT_xgetf (a := 0) (t := 1) (ci := 13) (fi := 7) (c := jzQ_16) (v := (4, 9)) (pcN := 143) jIQ_161_140 rfl rfl rfl rfl rfl rfl rfl ?_
  refine jT_xiload (v := (0, 5)) (pcN := 145) jIQ_161_143 rfl rfl rfl ?_
  refine jT_lald (x := 0) (a := 9) (j := 5) (fs := []) (X := [q1, -r7, -r8, 0, 0, 0]) jIQ_161_145 rfl rfl rfl rfl ?_
  refine jT_eq (LN := [(7, (0, 5)), (5, (1, q1)), (0, (4, 0)), (1, (0, r7)), (2, (0, r8)), (3, (4, 1)), (4, (0, o4))]) (stN := [(1, 0), (1, 0), (0, 5), (4, 9)]) (hsN := [jzQ_16, (4, [(4, 13), (1, 1)], []), (8, [(4, 14), (4, 15)], []), jgh, jgh, jgh, jgh, jgh, jgh, (101, [], [q1, -r7, -r8, 0, 0, 0]), (101, [], [k10_0, k10_1, k10_2, k10_3, k10_4, k10_5]), jgh, jgh, (101, [], [0, 0, 0, 0, 0, 0]), jgh, jgh]) rfl rfl rfl ?_
  refine jT_xaload_n (v := (4, 1)) (pcN := 147) jIQ_161_146 rfl rfl rfl ?_
  refine jT_xgetf (a := 1) (t := 2) (ci := 4) (fi := 1) (c := (4, [(4, 13), (1, 1)], [])) (v := (1, 1)) (pcN := 150) jIQ_161_147 rfl rfl rfl rfl rfl rfl rfl ?_
  refine jT_xlmul (x := 0) (y := 1) (z := 0) (pcN := 151) jIQ_161_150 rfl (by decide) rfl ?_
  refine jT_xlsub (x := 0) (y := 0) (z := 0) (pcN := 152) jIQ_161_151 rfl (by decide) rfl ?_
  refine jT_adv 1 (pcN := 153) (LN := [(7, (0, 5)), (5, (1, q1)), (0, (4, 0)), (1, (0, r7)), (2, (0, r8)), (3, (4, 1)), (4, (0, o4))]) (stN := []) (hsN := [jzQ_16, (4, [(4, 13), (1, 1)], []), (8, [(4, 14), (4, 15)], []), jgh, jgh, jgh, jgh, jgh, jgh, (101, [], [q1, -r7, -r8, 0, 0, 0]), (101, [], [k10_0, k10_1, k10_2, k10_3, k10_4, k10_5]), jgh, jgh, (101, [], [0, 0, 0, 0, 0, 0]), jgh, jgh]) (c1 := 0) (s1 := 0) (c2 := 0) (s2 := 0) (by exact rfl) ?_ (by omega) (by omega)
  refine jT_xiinc (x := 5) (z := 6) (LN := [(7, (0, 6)), (5, (1, q1)), (0, (4, 0)), (1, (0, r7)), (2, (0, r8)), (3, (4, 1)), (4, (0, o4))]) (pcN := 156) jIQ_161_153 rfl rfl (by decide) rfl rfl ?_
  refine jT_xgoto (pcN := 119) jIQ_161_156 rfl ?_
  refine jT_xiload (v := (0, 6)) (pcN := 121) jIQ_161_119 rfl rfl rfl ?_
  refine jT_xbipush (k := 6) (pcN := 123) jIQ_161_121 (by decide) rfl ?_
  refine jT_xicT (pcN := 159) jIQ_161_123 rfl (by decide +kernel) rfl ?_
  refine jT_xaload_n (v := (4, 0)) (pcN := 160) jIQ_161_159 rfl rfl rfl ?_
  refine jT_xgetf (a := 0) (t := 1) (ci := 13) (fi := 0) (c := jzQ_16) (v := (4, 2)) (pcN := 163) jIQ_161_160 rfl rfl rfl rfl rfl rfl rfl ?_
  refine jT_xaload_n (v := (4, 0)) (pcN := 164) jIQ_161_163 rfl rfl rfl ?_
  refine jT_xgetf (a := 0) (t := 1) (ci := 13) (fi := 7) (c := jzQ_16) (v := (4, 9)) (pcN := 167) jIQ_161_164 rfl rfl rfl rfl rfl rfl rfl ?_
  refine jT_callA [2, 9, 14, 15] (y := 38) (pcN := 170) (dC := 1) (bc1 := 0) (bc2 := 0) (c1 := 0) (c2 := 0) (as := [(4, 2), (4, 9)]) (asC := [(4, 0), (4, 1)]) (LN := [(7, (0, 6)), (5, (1, q1)), (0, (4, 0)), (1, (0, r7)), (2, (0, r8)), (3, (4, 1)), (4, (0, o4))]) (stN := []) (hsC := [(8, [(4, 2), (4, 3)], []), (101, [], [q1, -r7, -r8, 0, 0, 0]), jgh, jgh]) (ex := []) (v := (0, (-1))) (st2 := [(0, (-1))]) (hs2 := [jzQ_16, (4, [(4, 13), (1, 1)], []), (8, [(4, 14), (4, 15)], []), jgh, jgh, jgh, jgh, jgh, jgh, (101, [], [q1, -r7, -r8, 0, 0, 0]), (101, [], [k10_0, k10_1, k10_2, k10_3, k10_4, k10_5]), jgh, jgh, (101, [], [0, 0, 0, 0, 0, 0]), jgh, jgh]) (jQl_sp38_117 (d := 0) (by omega) (by omega) (by omega) (by omega) (by omega) (by omega) (by omega)) (by rfl) (by rfl) (by rfl) (by rfl) ⟨rfl, rfl, rfl, rfl, trivial⟩ (by rfl) (by rfl) (by omega) (by show 16 ≤ 16; omega) (by omega) (by omega) rfl rfl ?_
  refine jT_xifT (pcN := 177) jIQ_161_170 rfl (by decide +kernel) rfl ?_
  refine jT_xiconst (k := 0) (pcN := 178) jIQ_161_177 rfl ?_
  subst hq_q4
  subst hq_q3
  subst hq_q2
  subst hq_q1
  exact jT_ret rfl (by decide) (by show 16 ≤ 16; omega) (by omega) (by omega) ⟨rfl, rfl, rfl⟩
theorem jQ_161_257 {xs : List Int} {d : Nat} {k10_0 k10_1 k10_2 k10_3 k10_4 k10_5 o4 r7 r8 u9_0 u9_1 u9_2 u9_3 u9_4 u9_5 : Int} (h_k10_0 : 1 ≤ k10_0 ∧ k10_0 ≤ 100) (h_k10_1 : 2 ≤ k10_1 ∧ k10_1 ≤ 158) (h_k10_2 : 2 ≤ k10_2 ∧ k10_2 ≤ 232) (h_k10_3 : 3 ≤ k10_3 ∧ k10_3 ≤ 281) (h_k10_4 : 3 ≤ k10_4 ∧ k10_4 ≤ 346) (h_k10_5 : 4 ≤ k10_5 ∧ k10_5 ≤ 370) (h_o4 : 1 ≤ o4 ∧ o4 ≤ 100) (h_r7 : (-20) ≤ r7 ∧ r7 ≤ 20) (h_r8 : (-10) ≤ r8 ∧ r8 ≤ 10) (g_0 : 0 ≤ r7) (g_1 : r7 ≤ 0) (g_2 : r8 < 0) (g_3 : 0 ≤ -(((108917793695 * r7 + 159561683699 * r8) / 68719476736) * o4) + (r7 * k10_1) + (r8 * k10_2) - 1) : jT xs (d + 2) 161 15 0 [(0, (4, 0)), (1, (0, r7)), (2, (0, r8)), (3, (4, 1)), (4, (0, o4))] [] [jzQ_16, jgh, (8, [(4, 13), (4, 14)], []), jgh, jgh, jgh, jgh, jgh, jgh, (101, [], [u9_0, u9_1, u9_2, u9_3, u9_4, u9_5]), (101, [], [k10_0, k10_1, k10_2, k10_3, k10_4, k10_5]), jgh, jgh, jgh, jgh] 0 0 (fun k v hsN => k = 0 ∧ v = (0, 0) ∧ hsN = [jzQ_16, jgh, (8, [(4, 13), (4, 14)], []), jgh, jgh, jgh, jgh, jgh, jgh, (101, [], [0, r7, r8, 0, 0, 0]), (101, [], [k10_0, k10_1, k10_2, k10_3, k10_4, k10_5]), jgh, jgh, jgh, jgh]) := by
  refine jT_xiload_n (v := (0, r7)) (pcN := 1) jIQ_161_0 rfl rfl rfl ?_
  refine jT_ifF (a := r7) (t := 10) (by rfl) (by rfl) (by rfl) (jw_idd (by omega) (by omega)) (by simp only [jcP] <;> omega) ?_
  refine jT_xiload_n (v := (0, r8)) (pcN := 5) jIQ_161_4 rfl rfl rfl ?_
  refine jT_ifT (a := r8) (t := 10) (by rfl) (by rfl) (by rfl) (jw_idd (by omega) (by omega)) (by simp only [jcP] <;> omega) ?_
  refine jT_xiconst (k := 0) (pcN := 11) jIQ_161_10 rfl ?_
  refine jT_xistore (v := (0, 0)) (LN := [(5, (0, 0)), (0, (4, 0)), (1, (0, r7)), (2, (0, r8)), (3, (4, 1)), (4, (0, o4))]) (pcN := 13) jIQ_161_11 rfl rfl rfl rfl ?_
  refine jT_xiload (v := (0, 0)) (pcN := 15) jIQ_161_13 rfl rfl rfl ?_
  refine jT_xbipush (k := 6) (pcN := 17) jIQ_161_15 (by decide) rfl ?_
  refine jT_xicF (t := 56) (pcN := 20) jIQ_161_17 rfl (by decide +kernel) rfl rfl ?_
  refine jT_xaload_n (v := (4, 0)) (pcN := 21) jIQ_161_20 rfl rfl rfl ?_
  refine jT_xgetf (a := 0) (t := 1) (ci := 13) (fi := 7) (c := jzQ_16) (v := (4, 9)) (pcN := 24) jIQ_161_21 rfl rfl rfl rfl rfl rfl rfl ?_
  refine jT_xiload (v := (0, 0)) (pcN := 26) jIQ_161_24 rfl rfl rfl ?_
  refine jT_xiload (v := (0, 0)) (pcN := 28) jIQ_161_26 rfl rfl rfl ?_
  refine jT_xiconst (k := 1) (pcN := 29) jIQ_161_28 rfl ?_
  refine jT_xicT (pcN := 37) jIQ_161_29 rfl (by decide +kernel) rfl ?_
  refine jT_xiload (v := (0, 0)) (pcN := 39) jIQ_161_37 rfl rfl rfl ?_
  refine jT_xiconst (k := 2) (pcN := 40) jIQ_161_39 rfl ?_
  refine jT_xicT (pcN := 48) jIQ_161_40 rfl (by decide +kernel) rfl ?_
  refine jT_xlconst (z := 0) (pcN := 49) jIQ_161_48 rfl rfl ?_
  refine jT_adv 1 (pcN := 50) (LN := [(5, (0, 0)), (0, (4, 0)), (1, (0, r7)), (2, (0, r8)), (3, (4, 1)), (4, (0, o4))]) (stN := []) (hsN := [jzQ_16, jgh, (8, [(4, 13), (4, 14)], []), jgh, jgh, jgh, jgh, jgh, jgh, (101, [], [0, u9_1, u9_2, u9_3, u9_4, u9_5]), (101, [], [k10_0, k10_1, k10_2, k10_3, k10_4, k10_5]), jgh, jgh, jgh, jgh]) (c1 := 0) (s1 := 0) (c2 := 0) (s2 := 0) (by exact rfl) ?_ (by omega) (by omega)
  refine jT_xiinc (x := 0) (z := 1) (LN := [(5, (0, 1)), (0, (4, 0)), (1, (0, r7)), (2, (0, r8)), (3, (4, 1)), (4, (0, o4))]) (pcN := 53) jIQ_161_50 rfl rfl (by decide) rfl rfl ?_
  refine jT_xgoto (pcN := 13) jIQ_161_53 rfl ?_
  refine jT_xiload (v := (0, 1)) (pcN := 15) jIQ_161_13 rfl rfl rfl ?_
  refine jT_xbipush (k := 6) (pcN := 17) jIQ_161_15 (by decide) rfl ?_
  refine jT_xicF (t := 56) (pcN := 20) jIQ_161_17 rfl (by decide +kernel) rfl rfl ?_
  refine jT_xaload_n (v := (4, 0)) (pcN := 21) jIQ_161_20 rfl rfl rfl ?_
  refine jT_xgetf (a := 0) (t := 1) (ci := 13) (fi := 7) (c := jzQ_16) (v := (4, 9)) (pcN := 24) jIQ_161_21 rfl rfl rfl rfl rfl rfl rfl ?_
  refine jT_xiload (v := (0, 1)) (pcN := 26) jIQ_161_24 rfl rfl rfl ?_
  refine jT_xiload (v := (0, 1)) (pcN := 28) jIQ_161_26 rfl rfl rfl ?_
  refine jT_xiconst (k := 1) (pcN := 29) jIQ_161_28 rfl ?_
  refine jT_xicF (t := 37) (pcN := 32) jIQ_161_29 rfl (by decide +kernel) rfl rfl ?_
  refine jT_xiload_n (v := (0, r7)) (pcN := 33) jIQ_161_32 rfl rfl rfl ?_
  refine jT_xi2l (x := r7) (z := r7) (pcN := 34) jIQ_161_33 rfl (jw_idd (by omega) (by omega)) rfl ?_
  refine jT_xgoto (pcN := 49) jIQ_161_34 rfl ?_
  refine jT_adv 1 (pcN := 50) (LN := [(5, (0, 1)), (0, (4, 0)), (1, (0, r7)), (2, (0, r8)), (3, (4, 1)), (4, (0, o4))]) (stN := []) (hsN := [jzQ_16, jgh, (8, [(4, 13), (4, 14)], []), jgh, jgh, jgh, jgh, jgh, jgh, (101, [], [0, r7, u9_2, u9_3, u9_4, u9_5]), (101, [], [k10_0, k10_1, k10_2, k10_3, k10_4, k10_5]), jgh, jgh, jgh, jgh]) (c1 := 0) (s1 := 0) (c2 := 0) (s2 := 0) (by exact rfl) ?_ (by omega) (by omega)
  refine jT_xiinc (x := 1) (z := 2) (LN := [(5, (0, 2)), (0, (4, 0)), (1, (0, r7)), (2, (0, r8)), (3, (4, 1)), (4, (0, o4))]) (pcN := 53) jIQ_161_50 rfl rfl (by decide) rfl rfl ?_
  refine jT_xgoto (pcN := 13) jIQ_161_53 rfl ?_
  refine jT_xiload (v := (0, 2)) (pcN := 15) jIQ_161_13 rfl rfl rfl ?_
  refine jT_xbipush (k := 6) (pcN := 17) jIQ_161_15 (by decide) rfl ?_
  refine jT_xicF (t := 56) (pcN := 20) jIQ_161_17 rfl (by decide +kernel) rfl rfl ?_
  refine jT_xaload_n (v := (4, 0)) (pcN := 21) jIQ_161_20 rfl rfl rfl ?_
  refine jT_xgetf (a := 0) (t := 1) (ci := 13) (fi := 7) (c := jzQ_16) (v := (4, 9)) (pcN := 24) jIQ_161_21 rfl rfl rfl rfl rfl rfl rfl ?_
  refine jT_xiload (v := (0, 2)) (pcN := 26) jIQ_161_24 rfl rfl rfl ?_
  refine jT_xiload (v := (0, 2)) (pcN := 28) jIQ_161_26 rfl rfl rfl ?_
  refine jT_xiconst (k := 1) (pcN := 29) jIQ_161_28 rfl ?_
  refine jT_xicT (pcN := 37) jIQ_161_29 rfl (by decide +kernel) rfl ?_
  refine jT_xiload (v := (0, 2)) (pcN := 39) jIQ_161_37 rfl rfl rfl ?_
  refine jT_xiconst (k := 2) (pcN := 40) jIQ_161_39 rfl ?_
  refine jT_xicF (t := 48) (pcN := 43) jIQ_161_40 rfl (by decide +kernel) rfl rfl ?_
  refine jT_xiload_n (v := (0, r8)) (pcN := 44) jIQ_161_43 rfl rfl rfl ?_
  refine jT_xi2l (x := r8) (z := r8) (pcN := 45) jIQ_161_44 rfl (jw_idd (by omega) (by omega)) rfl ?_
  refine jT_xgoto (pcN := 49) jIQ_161_45 rfl ?_
  refine jT_adv 1 (pcN := 50) (LN := [(5, (0, 2)), (0, (4, 0)), (1, (0, r7)), (2, (0, r8)), (3, (4, 1)), (4, (0, o4))]) (stN := []) (hsN := [jzQ_16, jgh, (8, [(4, 13), (4, 14)], []), jgh, jgh, jgh, jgh, jgh, jgh, (101, [], [0, r7, r8, u9_3, u9_4, u9_5]), (101, [], [k10_0, k10_1, k10_2, k10_3, k10_4, k10_5]), jgh, jgh, jgh, jgh]) (c1 := 0) (s1 := 0) (c2 := 0) (s2 := 0) (by exact rfl) ?_ (by omega) (by omega)
  refine jT_xiinc (x := 2) (z := 3) (LN := [(5, (0, 3)), (0, (4, 0)), (1, (0, r7)), (2, (0, r8)), (3, (4, 1)), (4, (0, o4))]) (pcN := 53) jIQ_161_50 rfl rfl (by decide) rfl rfl ?_
  refine jT_xgoto (pcN := 13) jIQ_161_53 rfl ?_
  refine jT_xiload (v := (0, 3)) (pcN := 15) jIQ_161_13 rfl rfl rfl ?_
  refine jT_xbipush (k := 6) (pcN := 17) jIQ_161_15 (by decide) rfl ?_
  refine jT_xicF (t := 56) (pcN := 20) jIQ_161_17 rfl (by decide +kernel) rfl rfl ?_
  refine jT_xaload_n (v := (4, 0)) (pcN := 21) jIQ_161_20 rfl rfl rfl ?_
  refine jT_xgetf (a := 0) (t := 1) (ci := 13) (fi := 7) (c := jzQ_16) (v := (4, 9)) (pcN := 24) jIQ_161_21 rfl rfl rfl rfl rfl rfl rfl ?_
  refine jT_xiload (v := (0, 3)) (pcN := 26) jIQ_161_24 rfl rfl rfl ?_
  refine jT_xiload (v := (0, 3)) (pcN := 28) jIQ_161_26 rfl rfl rfl ?_
  refine jT_xiconst (k := 1) (pcN := 29) jIQ_161_28 rfl ?_
  refine jT_xicT (pcN := 37) jIQ_161_29 rfl (by decide +kernel) rfl ?_
  refine jT_xiload (v := (0, 3)) (pcN := 39) jIQ_161_37 rfl rfl rfl ?_
  refine jT_xiconst (k := 2) (pcN := 40) jIQ_161_39 rfl ?_
  refine jT_xicT (pcN := 48) jIQ_161_40 rfl (by decide +kernel) rfl ?_
  refine jT_xlconst (z := 0) (pcN := 49) jIQ_161_48 rfl rfl ?_
  refine jT_adv 1 (pcN := 50) (LN := [(5, (0, 3)), (0, (4, 0)), (1, (0, r7)), (2, (0, r8)), (3, (4, 1)), (4, (0, o4))]) (stN := []) (hsN := [jzQ_16, jgh, (8, [(4, 13), (4, 14)], []), jgh, jgh, jgh, jgh, jgh, jgh, (101, [], [0, r7, r8, 0, u9_4, u9_5]), (101, [], [k10_0, k10_1, k10_2, k10_3, k10_4, k10_5]), jgh, jgh, jgh, jgh]) (c1 := 0) (s1 := 0) (c2 := 0) (s2 := 0) (by exact rfl) ?_ (by omega) (by omega)
  refine jT_xiinc (x := 3) (z := 4) (LN := [(5, (0, 4)), (0, (4, 0)), (1, (0, r7)), (2, (0, r8)), (3, (4, 1)), (4, (0, o4))]) (pcN := 53) jIQ_161_50 rfl rfl (by decide) rfl rfl ?_
  refine jT_xgoto (pcN := 13) jIQ_161_53 rfl ?_
  refine jT_xiload (v := (0, 4)) (pcN := 15) jIQ_161_13 rfl rfl rfl ?_
  refine jT_xbipush (k := 6) (pcN := 17) jIQ_161_15 (by decide) rfl ?_
  refine jT_xicF (t := 56) (pcN := 20) jIQ_161_17 rfl (by decide +kernel) rfl rfl ?_
  refine jT_xaload_n (v := (4, 0)) (pcN := 21) jIQ_161_20 rfl rfl rfl ?_
  refine jT_xgetf (a := 0) (t := 1) (ci := 13) (fi := 7) (c := jzQ_16) (v := (4, 9)) (pcN := 24) jIQ_161_21 rfl rfl rfl rfl rfl rfl rfl ?_
  refine jT_xiload (v := (0, 4)) (pcN := 26) jIQ_161_24 rfl rfl rfl ?_
  refine jT_xiload (v := (0, 4)) (pcN := 28) jIQ_161_26 rfl rfl rfl ?_
  refine jT_xiconst (k := 1) (pcN := 29) jIQ_161_28 rfl ?_
  refine jT_xicT (pcN := 37) jIQ_161_29 rfl (by decide +kernel) rfl ?_
  refine jT_xiload (v := (0, 4)) (pcN := 39) jIQ_161_37 rfl rfl rfl ?_
  refine jT_xiconst (k := 2) (pcN := 40) jIQ_161_39 rfl ?_
  refine jT_xicT (pcN := 48) jIQ_161_40 rfl (by decide +kernel) rfl ?_
  refine jT_xlconst (z := 0) (pcN := 49) jIQ_161_48 rfl rfl ?_
  refine jT_adv 1 (pcN := 50) (LN := [(5, (0, 4)), (0, (4, 0)), (1, (0, r7)), (2, (0, r8)), (3, (4, 1)), (4, (0, o4))]) (stN := []) (hsN := [jzQ_16, jgh, (8, [(4, 13), (4, 14)], []), jgh, jgh, jgh, jgh, jgh, jgh, (101, [], [0, r7, r8, 0, 0, u9_5]), (101, [], [k10_0, k10_1, k10_2, k10_3, k10_4, k10_5]), jgh, jgh, jgh, jgh]) (c1 := 0) (s1 := 0) (c2 := 0) (s2 := 0) (by exact rfl) ?_ (by omega) (by omega)
  refine jT_xiinc (x := 4) (z := 5) (LN := [(5, (0, 5)), (0, (4, 0)), (1, (0, r7)), (2, (0, r8)), (3, (4, 1)), (4, (0, o4))]) (pcN := 53) jIQ_161_50 rfl rfl (by decide) rfl rfl ?_
  refine jT_xgoto (pcN := 13) jIQ_161_53 rfl ?_
  refine jT_xiload (v := (0, 5)) (pcN := 15) jIQ_161_13 rfl rfl rfl ?_
  refine jT_xbipush (k := 6) (pcN := 17) jIQ_161_15 (by decide) rfl ?_
  refine jT_xicF (t := 56) (pcN := 20) jIQ_161_17 rfl (by decide +kernel) rfl rfl ?_
  refine jT_xaload_n (v := (4, 0)) (pcN := 21) jIQ_161_20 rfl rfl rfl ?_
  refine jT_xgetf (a := 0) (t := 1) (ci := 13) (fi := 7) (c := jzQ_16) (v := (4, 9)) (pcN := 24) jIQ_161_21 rfl rfl rfl rfl rfl rfl rfl ?_
  refine jT_xiload (v := (0, 5)) (pcN := 26) jIQ_161_24 rfl rfl rfl ?_
  refine jT_xiload (v := (0, 5)) (pcN := 28) jIQ_161_26 rfl rfl rfl ?_
  refine jT_xiconst (k := 1) (pcN := 29) jIQ_161_28 rfl ?_
  refine jT_xicT (pcN := 37) jIQ_161_29 rfl (by decide +kernel) rfl ?_
  refine jT_xiload (v := (0, 5)) (pcN := 39) jIQ_161_37 rfl rfl rfl ?_
  refine jT_xiconst (k := 2) (pcN := 40) jIQ_161_39 rfl ?_
  refine jT_xicT (pcN := 48) jIQ_161_40 rfl (by decide +kernel) rfl ?_
  refine jT_xlconst (z := 0) (pcN := 49) jIQ_161_48 rfl rfl ?_
  refine jT_adv 1 (pcN := 50) (LN := [(5, (0, 5)), (0, (4, 0)), (1, (0, r7)), (2, (0, r8)), (3, (4, 1)), (4, (0, o4))]) (stN := []) (hsN := [jzQ_16, jgh, (8, [(4, 13), (4, 14)], []), jgh, jgh, jgh, jgh, jgh, jgh, (101, [], [0, r7, r8, 0, 0, 0]), (101, [], [k10_0, k10_1, k10_2, k10_3, k10_4, k10_5]), jgh, jgh, jgh, jgh]) (c1 := 0) (s1 := 0) (c2 := 0) (s2 := 0) (by exact rfl) ?_ (by omega) (by omega)
  refine jT_xiinc (x := 5) (z := 6) (LN := [(5, (0, 6)), (0, (4, 0)), (1, (0, r7)), (2, (0, r8)), (3, (4, 1)), (4, (0, o4))]) (pcN := 53) jIQ_161_50 rfl rfl (by decide) rfl rfl ?_
  refine jT_xgoto (pcN := 13) jIQ_161_53 rfl ?_
  refine jT_xiload (v := (0, 6)) (pcN := 15) jIQ_161_13 rfl rfl rfl ?_
  refine jT_xbipush (k := 6) (pcN := 17) jIQ_161_15 (by decide) rfl ?_
  refine jT_xicT (pcN := 56) jIQ_161_17 rfl (by decide +kernel) rfl ?_
  refine jT_xaload_n (v := (4, 0)) (pcN := 57) jIQ_161_56 rfl rfl rfl ?_
  refine jT_xgetf (a := 0) (t := 1) (ci := 13) (fi := 0) (c := jzQ_16) (v := (4, 2)) (pcN := 60) jIQ_161_57 rfl rfl rfl rfl rfl rfl rfl ?_
  refine jT_xaload_n (v := (4, 0)) (pcN := 61) jIQ_161_60 rfl rfl rfl ?_
  refine jT_xgetf (a := 0) (t := 1) (ci := 13) (fi := 7) (c := jzQ_16) (v := (4, 9)) (pcN := 64) jIQ_161_61 rfl rfl rfl rfl rfl rfl rfl ?_
  refine jT_xlconst (z := 1) (pcN := 65) jIQ_161_64 rfl rfl ?_
  refine jT_xlconst (z := 1) (pcN := 66) jIQ_161_65 rfl rfl ?_
  refine jT_callA [2, 9, 13, 14] (y := 45) (pcN := 69) (dC := 1) (bc1 := 0) (bc2 := 0) (c1 := 0) (c2 := 0) (as := [(4, 2), (4, 9), (1, 1), (1, 1)]) (asC := [(4, 0), (4, 1), (1, 1), (1, 1)]) (LN := [(5, (0, 6)), (0, (4, 0)), (1, (0, r7)), (2, (0, r8)), (3, (4, 1)), (4, (0, o4))]) (stN := []) (hsC := [(8, [(4, 2), (4, 3)], []), (101, [], [0, r7, r8, 0, 0, 0]), jgh, jgh]) (ex := []) (v := (1, (108917793695 * r7 + 159561683699 * r8) / 68719476736)) (st2 := [(1, (108917793695 * r7 + 159561683699 * r8) / 68719476736)]) (hs2 := [jzQ_16, jgh, (8, [(4, 13), (4, 14)], []), jgh, jgh, jgh, jgh, jgh, jgh, (101, [], [0, r7, r8, 0, 0, 0]), (101, [], [k10_0, k10_1, k10_2, k10_3, k10_4, k10_5]), jgh, jgh, jgh, jgh]) (jQl_sp45_116 (d := 0) (by omega) (by omega)) (by rfl) (by rfl) (by rfl) (by rfl) ⟨rfl, rfl, rfl, rfl, trivial⟩ (by rfl) (by rfl) (by omega) (by show 15 ≤ 15; omega) (by omega) (by omega) rfl rfl ?_
  have hb_q1 : (-60) ≤ (108917793695 * r7 + 159561683699 * r8) / 68719476736 ∧ (108917793695 * r7 + 159561683699 * r8) / 68719476736 ≤ 60 := ⟨by omega, by omega⟩
  generalize hq_q1 : (108917793695 * r7 + 159561683699 * r8) / 68719476736 = q1 at hb_q1 g_3 ⊢
  refine jT_xlstore (v := (1, q1)) (LN := [(5, (1, q1)), (0, (4, 0)), (1, (0, r7)), (2, (0, r8)), (3, (4, 1)), (4, (0, o4))]) (pcN := 71) jIQ_161_69 rfl rfl rfl rfl ?_
  have g_4 : 0 ≤ (-68719476736) * q1 + 108917793694 * r7 + 159561683698 * r8 - 1 := by have := jcg (b := r7) (c := r8) (by omega) (by omega) (by omega); rw [hq_q1] at this; omega
  have g_5 : 0 ≤ (-68719476736) * q1 + 108917793694 * r7 + 159561683700 * r8 - 1 := by have := jcg (b := r7) (c := r8) (by omega) (by omega) (by omega); rw [hq_q1] at this; omega
  have g_6 : 0 ≤ (-68719476736) * q1 + 108917793696 * r7 + 159561683698 * r8 - 1 := by have := jcg (b := r7) (c := r8) (by omega) (by omega) (by omega); rw [hq_q1] at this; omega
  have g_7 : 0 ≤ (-68719476736) * q1 + 108917793696 * r7 + 159561683700 * r8 - 1 := by have := jcg (b := r7) (c := r8) (by omega) (by omega) (by omega); rw [hq_q1] at this; omega
  refine jT_xiload (v := (0, o4)) (pcN := 73) jIQ_161_71 rfl rfl rfl ?_
  refine jT_ifF (a := o4) (t := 107) (by rfl) (by rfl) (by rfl) (jw_idd (by omega) (by omega)) (by simp only [jcP] <;> omega) ?_
  refine jT_xiload_n (v := (0, r7)) (pcN := 77) jIQ_161_76 rfl rfl rfl ?_
  refine jT_xi2l (x := r7) (z := r7) (pcN := 78) jIQ_161_77 rfl (jw_idd (by omega) (by omega)) rfl ?_
  refine jT_xaload_n (v := (4, 0)) (pcN := 79) jIQ_161_78 rfl rfl rfl ?_
  refine jT_xgetf (a := 0) (t := 1) (ci := 13) (fi := 8) (c := jzQ_16) (v := (4, 10)) (pcN := 82) jIQ_161_79 rfl rfl rfl rfl rfl rfl rfl ?_
  refine jT_xiconst (k := 1) (pcN := 83) jIQ_161_82 rfl ?_
  refine jT_lald (x := k10_1) (a := 10) (j := 1) (fs := []) (X := [k10_0, k10_1, k10_2, k10_3, k10_4, k10_5]) jIQ_161_83 rfl rfl rfl rfl ?_
  refine jT_eq (LN := [(5, (1, q1)), (0, (4, 0)), (1, (0, r7)), (2, (0, r8)), (3, (4, 1)), (4, (0, o4))]) (stN := [(1, k10_1), (1, r7)]) (hsN := [jzQ_16, jgh, (8, [(4, 13), (4, 14)], []), jgh, jgh, jgh, jgh, jgh, jgh, (101, [], [0, r7, r8, 0, 0, 0]), (101, [], [k10_0, k10_1, k10_2, k10_3, k10_4, k10_5]), jgh, jgh, jgh, jgh]) rfl rfl rfl ?_
  refine jT_xlmul (x := r7) (y := k10_1) (z := r7 * k10_1) (pcN := 85) jIQ_161_84 rfl rfl rfl ?_
  have hb_q2 := jmul_b (x := r7) (y := k10_1) (m := 20) (n := 158) (by omega) (by omega) (by omega) (by omega)
  have hb_q2 : 0 ≤ r7 * k10_1 ∧ r7 * k10_1 ≤ 3160 := ⟨hb_q2.1, by omega⟩
  generalize hq_q2 : r7 * k10_1 = q2 at hb_q2 g_3 ⊢
  refine jT_xiload_n (v := (0, r8)) (pcN := 86) jIQ_161_85 rfl rfl rfl ?_
  refine jT_xi2l (x := r8) (z := r8) (pcN := 87) jIQ_161_86 rfl (jw_idd (by omega) (by omega)) rfl ?_
  refine jT_xaload_n (v := (4, 0)) (pcN := 88) jIQ_161_87 rfl rfl rfl ?_
  refine jT_xgetf (a := 0) (t := 1) (ci := 13) (fi := 8) (c := jzQ_16) (v := (4, 10)) (pcN := 91) jIQ_161_88 rfl rfl rfl rfl rfl rfl rfl ?_
  refine jT_xiconst (k := 2) (pcN := 92) jIQ_161_91 rfl ?_
  refine jT_lald (x := k10_2) (a := 10) (j := 2) (fs := []) (X := [k10_0, k10_1, k10_2, k10_3, k10_4, k10_5]) jIQ_161_92 rfl rfl rfl rfl ?_
  refine jT_eq (LN := [(5, (1, q1)), (0, (4, 0)), (1, (0, r7)), (2, (0, r8)), (3, (4, 1)), (4, (0, o4))]) (stN := [(1, k10_2), (1, r8), (1, q2)]) (hsN := [jzQ_16, jgh, (8, [(4, 13), (4, 14)], []), jgh, jgh, jgh, jgh, jgh, jgh, (101, [], [0, r7, r8, 0, 0, 0]), (101, [], [k10_0, k10_1, k10_2, k10_3, k10_4, k10_5]), jgh, jgh, jgh, jgh]) rfl rfl rfl ?_
  refine jT_xlmul (x := r8) (y := k10_2) (z := r8 * k10_2) (pcN := 94) jIQ_161_93 rfl rfl rfl ?_
  have hb_q3 := jmul_bs (x := r8) (y := k10_2) (m := 10) (n := 232) (by omega) (by omega) (by omega) (by omega)
  have hb_q3 : (-2320) ≤ r8 * k10_2 ∧ r8 * k10_2 ≤ 2320 := ⟨by omega, by omega⟩
  generalize hq_q3 : r8 * k10_2 = q3 at hb_q3 g_3 ⊢
  refine jT_xladd (x := q2) (y := q3) (z := q2 + q3) (pcN := 95) jIQ_161_94 rfl (rfl) rfl ?_
  refine jT_xlload (v := (1, q1)) (pcN := 97) jIQ_161_95 rfl rfl rfl ?_
  refine jT_xiload (v := (0, o4)) (pcN := 99) jIQ_161_97 rfl rfl rfl ?_
  refine jT_xi2l (x := o4) (z := o4) (pcN := 100) jIQ_161_99 rfl (jw_idd (by omega) (by omega)) rfl ?_
  refine jT_xlmul (x := q1) (y := o4) (z := q1 * o4) (pcN := 101) jIQ_161_100 rfl rfl rfl ?_
  have hb_q4 := jmul_bs (x := q1) (y := o4) (m := 60) (n := 100) (by omega) (by omega) (by omega) (by omega)
  have hb_q4 : (-6000) ≤ q1 * o4 ∧ q1 * o4 ≤ 6000 := ⟨by omega, by omega⟩
  generalize hq_q4 : q1 * o4 = q4 at hb_q4 g_3 ⊢
  refine jT_lcmp (a := q2 + q3) (b := q4) (z := 1) (by rfl) (by rfl) (jwl_idd (by omega) (by omega)) (jwl_idd (by omega) (by omega)) (by rw [decide_eq_true (show (q4 : Int) < q2 + q3 by omega)]; rfl) ?_
  refine jT_xifF (t := 107) (pcN := 105) jIQ_161_102 rfl (by decide +kernel) rfl rfl ?_
  refine jT_xiconst (k := 0) (pcN := 106) jIQ_161_105 rfl ?_
  subst hq_q4
  subst hq_q3
  subst hq_q2
  subst hq_q1
  exact jT_ret rfl (by decide) (by show 15 ≤ 15; omega) (by omega) (by omega) ⟨rfl, rfl, rfl⟩
theorem jQ_161_258 {xs : List Int} {d : Nat} {k10_0 k10_1 k10_2 k10_3 k10_4 k10_5 o4 r7 r8 u9_0 u9_1 u9_2 u9_3 u9_4 u9_5 : Int} (h_k10_0 : 1 ≤ k10_0 ∧ k10_0 ≤ 100) (h_k10_1 : 2 ≤ k10_1 ∧ k10_1 ≤ 158) (h_k10_2 : 2 ≤ k10_2 ∧ k10_2 ≤ 232) (h_k10_3 : 3 ≤ k10_3 ∧ k10_3 ≤ 281) (h_k10_4 : 3 ≤ k10_4 ∧ k10_4 ≤ 346) (h_k10_5 : 4 ≤ k10_5 ∧ k10_5 ≤ 370) (h_o4 : 1 ≤ o4 ∧ o4 ≤ 100) (h_r7 : (-20) ≤ r7 ∧ r7 ≤ 20) (h_r8 : (-10) ≤ r8 ∧ r8 ≤ 10) (g_0 : r7 < 0) (g_1 : -(((108917793695 * r7 + 159561683699 * r8) / 68719476736) * o4) + (r7 * k10_1) + (r8 * k10_2) - 1 < 0) (g_2 : -(((108917793695 * r7 + 159561683699 * r8) / 68719476736) * o4) + (r7 * k10_1) + (r8 * k10_2) < 0) : jT xs (d + 2) 161 15 0 [(0, (4, 0)), (1, (0, r7)), (2, (0, r8)), (3, (4, 1)), (4, (0, o4))] [] [jzQ_16, jgh, (8, [(4, 13), (4, 14)], []), jgh, jgh, jgh, jgh, jgh, jgh, (101, [], [u9_0, u9_1, u9_2, u9_3, u9_4, u9_5]), (101, [], [k10_0, k10_1, k10_2, k10_3, k10_4, k10_5]), jgh, jgh, jgh, jgh] 0 0 (fun k v hsN => k = 0 ∧ v = (0, 0) ∧ hsN = [jzQ_16, jgh, (8, [(4, 13), (4, 14)], []), jgh, jgh, jgh, jgh, jgh, jgh, (101, [], [0, r7, r8, 0, 0, 0]), (101, [], [k10_0, k10_1, k10_2, k10_3, k10_4, k10_5]), jgh, jgh, jgh, jgh]) := by
  refine jT_xiload_n (v := (0, r7)) (pcN := 1) jIQ_161_0 rfl rfl rfl ?_
  refine jT_ifT (a := r7) (t := 10) (by rfl) (by rfl) (by rfl) (jw_idd (by omega) (by omega)) (by simp only [jcP] <;> omega) ?_
  refine jT_xiconst (k := 0) (pcN := 11) jIQ_161_10 rfl ?_
  refine jT_xistore (v := (0, 0)) (LN := [(5, (0, 0)), (0, (4, 0)), (1, (0, r7)), (2, (0, r8)), (3, (4, 1)), (4, (0, o4))]) (pcN := 13) jIQ_161_11 rfl rfl rfl rfl ?_
  refine jT_xiload (v := (0, 0)) (pcN := 15) jIQ_161_13 rfl rfl rfl ?_
  refine jT_xbipush (k := 6) (pcN := 17) jIQ_161_15 (by decide) rfl ?_
  refine jT_xicF (t := 56) (pcN := 20) jIQ_161_17 rfl (by decide +kernel) rfl rfl ?_
  refine jT_xaload_n (v := (4, 0)) (pcN := 21) jIQ_161_20 rfl rfl rfl ?_
  refine jT_xgetf (a := 0) (t := 1) (ci := 13) (fi := 7) (c := jzQ_16) (v := (4, 9)) (pcN := 24) jIQ_161_21 rfl rfl rfl rfl rfl rfl rfl ?_
  refine jT_xiload (v := (0, 0)) (pcN := 26) jIQ_161_24 rfl rfl rfl ?_
  refine jT_xiload (v := (0, 0)) (pcN := 28) jIQ_161_26 rfl rfl rfl ?_
  refine jT_xiconst (k := 1) (pcN := 29) jIQ_161_28 rfl ?_
  refine jT_xicT (pcN := 37) jIQ_161_29 rfl (by decide +kernel) rfl ?_
  refine jT_xiload (v := (0, 0)) (pcN := 39) jIQ_161_37 rfl rfl rfl ?_
  refine jT_xiconst (k := 2) (pcN := 40) jIQ_161_39 rfl ?_
  refine jT_xicT (pcN := 48) jIQ_161_40 rfl (by decide +kernel) rfl ?_
  refine jT_xlconst (z := 0) (pcN := 49) jIQ_161_48 rfl rfl ?_
  refine jT_adv 1 (pcN := 50) (LN := [(5, (0, 0)), (0, (4, 0)), (1, (0, r7)), (2, (0, r8)), (3, (4, 1)), (4, (0, o4))]) (stN := []) (hsN := [jzQ_16, jgh, (8, [(4, 13), (4, 14)], []), jgh, jgh, jgh, jgh, jgh, jgh, (101, [], [0, u9_1, u9_2, u9_3, u9_4, u9_5]), (101, [], [k10_0, k10_1, k10_2, k10_3, k10_4, k10_5]), jgh, jgh, jgh, jgh]) (c1 := 0) (s1 := 0) (c2 := 0) (s2 := 0) (by exact rfl) ?_ (by omega) (by omega)
  refine jT_xiinc (x := 0) (z := 1) (LN := [(5, (0, 1)), (0, (4, 0)), (1, (0, r7)), (2, (0, r8)), (3, (4, 1)), (4, (0, o4))]) (pcN := 53) jIQ_161_50 rfl rfl (by decide) rfl rfl ?_
  refine jT_xgoto (pcN := 13) jIQ_161_53 rfl ?_
  refine jT_xiload (v := (0, 1)) (pcN := 15) jIQ_161_13 rfl rfl rfl ?_
  refine jT_xbipush (k := 6) (pcN := 17) jIQ_161_15 (by decide) rfl ?_
  refine jT_xicF (t := 56) (pcN := 20) jIQ_161_17 rfl (by decide +kernel) rfl rfl ?_
  refine jT_xaload_n (v := (4, 0)) (pcN := 21) jIQ_161_20 rfl rfl rfl ?_
  refine jT_xgetf (a := 0) (t := 1) (ci := 13) (fi := 7) (c := jzQ_16) (v := (4, 9)) (pcN := 24) jIQ_161_21 rfl rfl rfl rfl rfl rfl rfl ?_
  refine jT_xiload (v := (0, 1)) (pcN := 26) jIQ_161_24 rfl rfl rfl ?_
  refine jT_xiload (v := (0, 1)) (pcN := 28) jIQ_161_26 rfl rfl rfl ?_
  refine jT_xiconst (k := 1) (pcN := 29) jIQ_161_28 rfl ?_
  refine jT_xicF (t := 37) (pcN := 32) jIQ_161_29 rfl (by decide +kernel) rfl rfl ?_
  refine jT_xiload_n (v := (0, r7)) (pcN := 33) jIQ_161_32 rfl rfl rfl ?_
  refine jT_xi2l (x := r7) (z := r7) (pcN := 34) jIQ_161_33 rfl (jw_idd (by omega) (by omega)) rfl ?_
  refine jT_xgoto (pcN := 49) jIQ_161_34 rfl ?_
  refine jT_adv 1 (pcN := 50) (LN := [(5, (0, 1)), (0, (4, 0)), (1, (0, r7)), (2, (0, r8)), (3, (4, 1)), (4, (0, o4))]) (stN := []) (hsN := [jzQ_16, jgh, (8, [(4, 13), (4, 14)], []), jgh, jgh, jgh, jgh, jgh, jgh, (101, [], [0, r7, u9_2, u9_3, u9_4, u9_5]), (101, [], [k10_0, k10_1, k10_2, k10_3, k10_4, k10_5]), jgh, jgh, jgh, jgh]) (c1 := 0) (s1 := 0) (c2 := 0) (s2 := 0) (by exact rfl) ?_ (by omega) (by omega)
  refine jT_xiinc (x := 1) (z := 2) (LN := [(5, (0, 2)), (0, (4, 0)), (1, (0, r7)), (2, (0, r8)), (3, (4, 1)), (4, (0, o4))]) (pcN := 53) jIQ_161_50 rfl rfl (by decide) rfl rfl ?_
  refine jT_xgoto (pcN := 13) jIQ_161_53 rfl ?_
  refine jT_xiload (v := (0, 2)) (pcN := 15) jIQ_161_13 rfl rfl rfl ?_
  refine jT_xbipush (k := 6) (pcN := 17) jIQ_161_15 (by decide) rfl ?_
  refine jT_xicF (t := 56) (pcN := 20) jIQ_161_17 rfl (by decide +kernel) rfl rfl ?_
  refine jT_xaload_n (v := (4, 0)) (pcN := 21) jIQ_161_20 rfl rfl rfl ?_
  refine jT_xgetf (a := 0) (t := 1) (ci := 13) (fi := 7) (c := jzQ_16) (v := (4, 9)) (pcN := 24) jIQ_161_21 rfl rfl rfl rfl rfl rfl rfl ?_
  refine jT_xiload (v := (0, 2)) (pcN := 26) jIQ_161_24 rfl rfl rfl ?_
  refine jT_xiload (v := (0, 2)) (pcN := 28) jIQ_161_26 rfl rfl rfl ?_
  refine jT_xiconst (k := 1) (pcN := 29) jIQ_161_28 rfl ?_
  refine jT_xicT (pcN := 37) jIQ_161_29 rfl (by decide +kernel) rfl ?_
  refine jT_xiload (v := (0, 2)) (pcN := 39) jIQ_161_37 rfl rfl rfl ?_
  refine jT_xiconst (k := 2) (pcN := 40) jIQ_161_39 rfl ?_
  refine jT_xicF (t := 48) (pcN := 43) jIQ_161_40 rfl (by decide +kernel) rfl rfl ?_
  refine jT_xiload_n (v := (0, r8)) (pcN := 44) jIQ_161_43 rfl rfl rfl ?_
  refine jT_xi2l (x := r8) (z := r8) (pcN := 45) jIQ_161_44 rfl (jw_idd (by omega) (by omega)) rfl ?_
  refine jT_xgoto (pcN := 49) jIQ_161_45 rfl ?_
  refine jT_adv 1 (pcN := 50) (LN := [(5, (0, 2)), (0, (4, 0)), (1, (0, r7)), (2, (0, r8)), (3, (4, 1)), (4, (0, o4))]) (stN := []) (hsN := [jzQ_16, jgh, (8, [(4, 13), (4, 14)], []), jgh, jgh, jgh, jgh, jgh, jgh, (101, [], [0, r7, r8, u9_3, u9_4, u9_5]), (101, [], [k10_0, k10_1, k10_2, k10_3, k10_4, k10_5]), jgh, jgh, jgh, jgh]) (c1 := 0) (s1 := 0) (c2 := 0) (s2 := 0) (by exact rfl) ?_ (by omega) (by omega)
  refine jT_xiinc (x := 2) (z := 3) (LN := [(5, (0, 3)), (0, (4, 0)), (1, (0, r7)), (2, (0, r8)), (3, (4, 1)), (4, (0, o4))]) (pcN := 53) jIQ_161_50 rfl rfl (by decide) rfl rfl ?_
  refine jT_xgoto (pcN := 13) jIQ_161_53 rfl ?_
  refine jT_xiload (v := (0, 3)) (pcN := 15) jIQ_161_13 rfl rfl rfl ?_
  refine jT_xbipush (k := 6) (pcN := 17) jIQ_161_15 (by decide) rfl ?_
  refine jT_xicF (t := 56) (pcN := 20) jIQ_161_17 rfl (by decide +kernel) rfl rfl ?_
  refine jT_xaload_n (v := (4, 0)) (pcN := 21) jIQ_161_20 rfl rfl rfl ?_
  refine jT_xgetf (a := 0) (t := 1) (ci := 13) (fi := 7) (c := jzQ_16) (v := (4, 9)) (pcN := 24) jIQ_161_21 rfl rfl rfl rfl rfl rfl rfl ?_
  refine jT_xiload (v := (0, 3)) (pcN := 26) jIQ_161_24 rfl rfl rfl ?_
  refine jT_xiload (v := (0, 3)) (pcN := 28) jIQ_161_26 rfl rfl rfl ?_
  refine jT_xiconst (k := 1) (pcN := 29) jIQ_161_28 rfl ?_
  refine jT_xicT (pcN := 37) jIQ_161_29 rfl (by decide +kernel) rfl ?_
  refine jT_xiload (v := (0, 3)) (pcN := 39) jIQ_161_37 rfl rfl rfl ?_
  refine jT_xiconst (k := 2) (pcN := 40) jIQ_161_39 rfl ?_
  refine jT_xicT (pcN := 48) jIQ_161_40 rfl (by decide +kernel) rfl ?_
  refine jT_xlconst (z := 0) (pcN := 49) jIQ_161_48 rfl rfl ?_
  refine jT_adv 1 (pcN := 50) (LN := [(5, (0, 3)), (0, (4, 0)), (1, (0, r7)), (2, (0, r8)), (3, (4, 1)), (4, (0, o4))]) (stN := []) (hsN := [jzQ_16, jgh, (8, [(4, 13), (4, 14)], []), jgh, jgh, jgh, jgh, jgh, jgh, (101, [], [0, r7, r8, 0, u9_4, u9_5]), (101, [], [k10_0, k10_1, k10_2, k10_3, k10_4, k10_5]), jgh, jgh, jgh, jgh]) (c1 := 0) (s1 := 0) (c2 := 0) (s2 := 0) (by exact rfl) ?_ (by omega) (by omega)
  refine jT_xiinc (x := 3) (z := 4) (LN := [(5, (0, 4)), (0, (4, 0)), (1, (0, r7)), (2, (0, r8)), (3, (4, 1)), (4, (0, o4))]) (pcN := 53) jIQ_161_50 rfl rfl (by decide) rfl rfl ?_
  refine jT_xgoto (pcN := 13) jIQ_161_53 rfl ?_
  refine jT_xiload (v := (0, 4)) (pcN := 15) jIQ_161_13 rfl rfl rfl ?_
  refine jT_xbipush (k := 6) (pcN := 17) jIQ_161_15 (by decide) rfl ?_
  refine jT_xicF (t := 56) (pcN := 20) jIQ_161_17 rfl (by decide +kernel) rfl rfl ?_
  refine jT_xaload_n (v := (4, 0)) (pcN := 21) jIQ_161_20 rfl rfl rfl ?_
  refine jT_xgetf (a := 0) (t := 1) (ci := 13) (fi := 7) (c := jzQ_16) (v := (4, 9)) (pcN := 24) jIQ_161_21 rfl rfl rfl rfl rfl rfl rfl ?_
  refine jT_xiload (v := (0, 4)) (pcN := 26) jIQ_161_24 rfl rfl rfl ?_
  refine jT_xiload (v := (0, 4)) (pcN := 28) jIQ_161_26 rfl rfl rfl ?_
  refine jT_xiconst (k := 1) (pcN := 29) jIQ_161_28 rfl ?_
  refine jT_xicT (pcN := 37) jIQ_161_29 rfl (by decide +kernel) rfl ?_
  refine jT_xiload (v := (0, 4)) (pcN := 39) jIQ_161_37 rfl rfl rfl ?_
  refine jT_xiconst (k := 2) (pcN := 40) jIQ_161_39 rfl ?_
  refine jT_xicT (pcN := 48) jIQ_161_40 rfl (by decide +kernel) rfl ?_
  refine jT_xlconst (z := 0) (pcN := 49) jIQ_161_48 rfl rfl ?_
  refine jT_adv 1 (pcN := 50) (LN := [(5, (0, 4)), (0, (4, 0)), (1, (0, r7)), (2, (0, r8)), (3, (4, 1)), (4, (0, o4))]) (stN := []) (hsN := [jzQ_16, jgh, (8, [(4, 13), (4, 14)], []), jgh, jgh, jgh, jgh, jgh, jgh, (101, [], [0, r7, r8, 0, 0, u9_5]), (101, [], [k10_0, k10_1, k10_2, k10_3, k10_4, k10_5]), jgh, jgh, jgh, jgh]) (c1 := 0) (s1 := 0) (c2 := 0) (s2 := 0) (by exact rfl) ?_ (by omega) (by omega)
  refine jT_xiinc (x := 4) (z := 5) (LN := [(5, (0, 5)), (0, (4, 0)), (1, (0, r7)), (2, (0, r8)), (3, (4, 1)), (4, (0, o4))]) (pcN := 53) jIQ_161_50 rfl rfl (by decide) rfl rfl ?_
  refine jT_xgoto (pcN := 13) jIQ_161_53 rfl ?_
  refine jT_xiload (v := (0, 5)) (pcN := 15) jIQ_161_13 rfl rfl rfl ?_
  refine jT_xbipush (k := 6) (pcN := 17) jIQ_161_15 (by decide) rfl ?_
  refine jT_xicF (t := 56) (pcN := 20) jIQ_161_17 rfl (by decide +kernel) rfl rfl ?_
  refine jT_xaload_n (v := (4, 0)) (pcN := 21) jIQ_161_20 rfl rfl rfl ?_
  refine jT_xgetf (a := 0) (t := 1) (ci := 13) (fi := 7) (c := jzQ_16) (v := (4, 9)) (pcN := 24) jIQ_161_21 rfl rfl rfl rfl rfl rfl rfl ?_
  refine jT_xiload (v := (0, 5)) (pcN := 26) jIQ_161_24 rfl rfl rfl ?_
  refine jT_xiload (v := (0, 5)) (pcN := 28) jIQ_161_26 rfl rfl rfl ?_
  refine jT_xiconst (k := 1) (pcN := 29) jIQ_161_28 rfl ?_
  refine jT_xicT (pcN := 37) jIQ_161_29 rfl (by decide +kernel) rfl ?_
  refine jT_xiload (v := (0, 5)) (pcN := 39) jIQ_161_37 rfl rfl rfl ?_
  refine jT_xiconst (k := 2) (pcN := 40) jIQ_161_39 rfl ?_
  refine jT_xicT (pcN := 48) jIQ_161_40 rfl (by decide +kernel) rfl ?_
  refine jT_xlconst (z := 0) (pcN := 49) jIQ_161_48 rfl rfl ?_
  refine jT_adv 1 (pcN := 50) (LN := [(5, (0, 5)), (0, (4, 0)), (1, (0, r7)), (2, (0, r8)), (3, (4, 1)), (4, (0, o4))]) (stN := []) (hsN := [jzQ_16, jgh, (8, [(4, 13), (4, 14)], []), jgh, jgh, jgh, jgh, jgh, jgh, (101, [], [0, r7, r8, 0, 0, 0]), (101, [], [k10_0, k10_1, k10_2, k10_3, k10_4, k10_5]), jgh, jgh, jgh, jgh]) (c1 := 0) (s1 := 0) (c2 := 0) (s2 := 0) (by exact rfl) ?_ (by omega) (by omega)
  refine jT_xiinc (x := 5) (z := 6) (LN := [(5, (0, 6)), (0, (4, 0)), (1, (0, r7)), (2, (0, r8)), (3, (4, 1)), (4, (0, o4))]) (pcN := 53) jIQ_161_50 rfl rfl (by decide) rfl rfl ?_
  refine jT_xgoto (pcN := 13) jIQ_161_53 rfl ?_
  refine jT_xiload (v := (0, 6)) (pcN := 15) jIQ_161_13 rfl rfl rfl ?_
  refine jT_xbipush (k := 6) (pcN := 17) jIQ_161_15 (by decide) rfl ?_
  refine jT_xicT (pcN := 56) jIQ_161_17 rfl (by decide +kernel) rfl ?_
  refine jT_xaload_n (v := (4, 0)) (pcN := 57) jIQ_161_56 rfl rfl rfl ?_
  refine jT_xgetf (a := 0) (t := 1) (ci := 13) (fi := 0) (c := jzQ_16) (v := (4, 2)) (pcN := 60) jIQ_161_57 rfl rfl rfl rfl rfl rfl rfl ?_
  refine jT_xaload_n (v := (4, 0)) (pcN := 61) jIQ_161_60 rfl rfl rfl ?_
  refine jT_xgetf (a := 0) (t := 1) (ci := 13) (fi := 7) (c := jzQ_16) (v := (4, 9)) (pcN := 64) jIQ_161_61 rfl rfl rfl rfl rfl rfl rfl ?_
  refine jT_xlconst (z := 1) (pcN := 65) jIQ_161_64 rfl rfl ?_
  refine jT_xlconst (z := 1) (pcN := 66) jIQ_161_65 rfl rfl ?_
  refine jT_callA [2, 9, 13, 14] (y := 45) (pcN := 69) (dC := 1) (bc1 := 0) (bc2 := 0) (c1 := 0) (c2 := 0) (as := [(4, 2), (4, 9), (1, 1), (1, 1)]) (asC := [(4, 0), (4, 1), (1, 1), (1, 1)]) (LN := [(5, (0, 6)), (0, (4, 0)), (1, (0, r7)), (2, (0, r8)), (3, (4, 1)), (4, (0, o4))]) (stN := []) (hsC := [(8, [(4, 2), (4, 3)], []), (101, [], [0, r7, r8, 0, 0, 0]), jgh, jgh]) (ex := []) (v := (1, (108917793695 * r7 + 159561683699 * r8) / 68719476736)) (st2 := [(1, (108917793695 * r7 + 159561683699 * r8) / 68719476736)]) (hs2 := [jzQ_16, jgh, (8, [(4, 13), (4, 14)], []), jgh, jgh, jgh, jgh, jgh, jgh, (101, [], [0, r7, r8, 0, 0, 0]), (101, [], [k10_0, k10_1, k10_2, k10_3, k10_4, k10_5]), jgh, jgh, jgh, jgh]) (jQl_sp45_116 (d := 0) (by omega) (by omega)) (by rfl) (by rfl) (by rfl) (by rfl) ⟨rfl, rfl, rfl, rfl, trivial⟩ (by rfl) (by rfl) (by omega) (by show 15 ≤ 15; omega) (by omega) (by omega) rfl rfl ?_
  have hb_q1 : (-60) ≤ (108917793695 * r7 + 159561683699 * r8) / 68719476736 ∧ (108917793695 * r7 + 159561683699 * r8) / 68719476736 ≤ 60 := ⟨by omega, by omega⟩
  generalize hq_q1 : (108917793695 * r7 + 159561683699 * r8) / 68719476736 = q1 at hb_q1 g_1 g_2 ⊢
  refine jT_xlstore (v := (1, q1)) (LN := [(5, (1, q1)), (0, (4, 0)), (1, (0, r7)), (2, (0, r8)), (3, (4, 1)), (4, (0, o4))]) (pcN := 71) jIQ_161_69 rfl rfl rfl rfl ?_
  have g_3 : 0 ≤ (-68719476736) * q1 + 108917793694 * r7 + 159561683698 * r8 - 1 := by have := jcg (b := r7) (c := r8) (by omega) (by omega) (by omega); rw [hq_q1] at this; omega
  have g_4 : 0 ≤ (-68719476736) * q1 + 108917793694 * r7 + 159561683700 * r8 - 1 := by have := jcg (b := r7) (c := r8) (by omega) (by omega) (by omega); rw [hq_q1] at this; omega
  have g_5 : 0 ≤ (-68719476736) * q1 + 108917793696 * r7 + 159561683698 * r8 - 1 := by have := jcg (b := r7) (c := r8) (by omega) (by omega) (by omega); rw [hq_q1] at this; omega
  have g_6 : 0 ≤ (-68719476736) * q1 + 108917793696 * r7 + 159561683700 * r8 - 1 := by have := jcg (b := r7) (c := r8) (by omega) (by omega) (by omega); rw [hq_q1] at this; omega
  refine jT_xiload (v := (0, o4)) (pcN := 73) jIQ_161_71 rfl rfl rfl ?_
  refine jT_ifF (a := o4) (t := 107) (by rfl) (by rfl) (by rfl) (jw_idd (by omega) (by omega)) (by simp only [jcP] <;> omega) ?_
  refine jT_xiload_n (v := (0, r7)) (pcN := 77) jIQ_161_76 rfl rfl rfl ?_
  refine jT_xi2l (x := r7) (z := r7) (pcN := 78) jIQ_161_77 rfl (jw_idd (by omega) (by omega)) rfl ?_
  refine jT_xaload_n (v := (4, 0)) (pcN := 79) jIQ_161_78 rfl rfl rfl ?_
  refine jT_xgetf (a := 0) (t := 1) (ci := 13) (fi := 8) (c := jzQ_16) (v := (4, 10)) (pcN := 82) jIQ_161_79 rfl rfl rfl rfl rfl rfl rfl ?_
  refine jT_xiconst (k := 1) (pcN := 83) jIQ_161_82 rfl ?_
  refine jT_lald (x := k10_1) (a := 10) (j := 1) (fs := []) (X := [k10_0, k10_1, k10_2, k10_3, k10_4, k10_5]) jIQ_161_83 rfl rfl rfl rfl ?_
  refine jT_eq (LN := [(5, (1, q1)), (0, (4, 0)), (1, (0, r7)), (2, (0, r8)), (3, (4, 1)), (4, (0, o4))]) (stN := [(1, k10_1), (1, r7)]) (hsN := [jzQ_16, jgh, (8, [(4, 13), (4, 14)], []), jgh, jgh, jgh, jgh, jgh, jgh, (101, [], [0, r7, r8, 0, 0, 0]), (101, [], [k10_0, k10_1, k10_2, k10_3, k10_4, k10_5]), jgh, jgh, jgh, jgh]) rfl rfl rfl ?_
  refine jT_xlmul (x := r7) (y := k10_1) (z := r7 * k10_1) (pcN := 85) jIQ_161_84 rfl rfl rfl ?_
  have hb_q2 := jmul_bs (x := r7) (y := k10_1) (m := 20) (n := 158) (by omega) (by omega) (by omega) (by omega)
  have hb_q2 : (-3160) ≤ r7 * k10_1 ∧ r7 * k10_1 ≤ 3160 := ⟨by omega, by omega⟩
  generalize hq_q2 : r7 * k10_1 = q2 at hb_q2 g_1 g_2 ⊢
  refine jT_xiload_n (v := (0, r8)) (pcN := 86) jIQ_161_85 rfl rfl rfl ?_
  refine jT_xi2l (x := r8) (z := r8) (pcN := 87) jIQ_161_86 rfl (jw_idd (by omega) (by omega)) rfl ?_
  refine jT_xaload_n (v := (4, 0)) (pcN := 88) jIQ_161_87 rfl rfl rfl ?_
  refine jT_xgetf (a := 0) (t := 1) (ci := 13) (fi := 8) (c := jzQ_16) (v := (4, 10)) (pcN := 91) jIQ_161_88 rfl rfl rfl rfl rfl rfl rfl ?_
  refine jT_xiconst (k := 2) (pcN := 92) jIQ_161_91 rfl ?_
  refine jT_lald (x := k10_2) (a := 10) (j := 2) (fs := []) (X := [k10_0, k10_1, k10_2, k10_3, k10_4, k10_5]) jIQ_161_92 rfl rfl rfl rfl ?_
  refine jT_eq (LN := [(5, (1, q1)), (0, (4, 0)), (1, (0, r7)), (2, (0, r8)), (3, (4, 1)), (4, (0, o4))]) (stN := [(1, k10_2), (1, r8), (1, q2)]) (hsN := [jzQ_16, jgh, (8, [(4, 13), (4, 14)], []), jgh, jgh, jgh, jgh, jgh, jgh, (101, [], [0, r7, r8, 0, 0, 0]), (101, [], [k10_0, k10_1, k10_2, k10_3, k10_4, k10_5]), jgh, jgh, jgh, jgh]) rfl rfl rfl ?_
  refine jT_xlmul (x := r8) (y := k10_2) (z := r8 * k10_2) (pcN := 94) jIQ_161_93 rfl rfl rfl ?_
  have hb_q3 := jmul_bs (x := r8) (y := k10_2) (m := 10) (n := 232) (by omega) (by omega) (by omega) (by omega)
  have hb_q3 : (-2320) ≤ r8 * k10_2 ∧ r8 * k10_2 ≤ 2320 := ⟨by omega, by omega⟩
  generalize hq_q3 : r8 * k10_2 = q3 at hb_q3 g_1 g_2 ⊢
  refine jT_xladd (x := q2) (y := q3) (z := q2 + q3) (pcN := 95) jIQ_161_94 rfl (rfl) rfl ?_
  refine jT_xlload (v := (1, q1)) (pcN := 97) jIQ_161_95 rfl rfl rfl ?_
  refine jT_xiload (v := (0, o4)) (pcN := 99) jIQ_161_97 rfl rfl rfl ?_
  refine jT_xi2l (x := o4) (z := o4) (pcN := 100) jIQ_161_99 rfl (jw_idd (by omega) (by omega)) rfl ?_
  refine jT_xlmul (x := q1) (y := o4) (z := q1 * o4) (pcN := 101) jIQ_161_100 rfl rfl rfl ?_
  have hb_q4 := jmul_bs (x := q1) (y := o4) (m := 60) (n := 100) (by omega) (by omega) (by omega) (by omega)
  have hb_q4 : (-6000) ≤ q1 * o4 ∧ q1 * o4 ≤ 6000 := ⟨by omega, by omega⟩
  generalize hq_q4 : q1 * o4 = q4 at hb_q4 g_1 g_2 ⊢
  refine jT_lcmp (a := q2 + q3) (b := q4) (z := (-1)) (by rfl) (by rfl) (jwl_idd (by omega) (by omega)) (jwl_idd (by omega) (by omega)) (by rw [decide_eq_false (show ¬ ((q4 : Int) < q2 + q3) by omega), decide_eq_false (show ¬ ((q2 + q3 : Int) = q4) by omega)]; rfl) ?_
  refine jT_xifF (t := 107) (pcN := 105) jIQ_161_102 rfl (by decide +kernel) rfl rfl ?_
  refine jT_xiconst (k := 0) (pcN := 106) jIQ_161_105 rfl ?_
  subst hq_q4
  subst hq_q3
  subst hq_q2
  subst hq_q1
  exact jT_ret rfl (by decide) (by show 15 ≤ 15; omega) (by omega) (by omega) ⟨rfl, rfl, rfl⟩
theorem jQ_161_259 {xs : List Int} {d : Nat} {k10_0 k10_1 k10_2 k10_3 k10_4 k10_5 o4 r7 r8 u9_0 u9_1 u9_2 u9_3 u9_4 u9_5 : Int} (h_k10_0 : 1 ≤ k10_0 ∧ k10_0 ≤ 100) (h_k10_1 : 2 ≤ k10_1 ∧ k10_1 ≤ 158) (h_k10_2 : 2 ≤ k10_2 ∧ k10_2 ≤ 232) (h_k10_3 : 3 ≤ k10_3 ∧ k10_3 ≤ 281) (h_k10_4 : 3 ≤ k10_4 ∧ k10_4 ≤ 346) (h_k10_5 : 4 ≤ k10_5 ∧ k10_5 ≤ 370) (h_o4 : 1 ≤ o4 ∧ o4 ≤ 100) (h_r7 : (-20) ≤ r7 ∧ r7 ≤ 20) (h_r8 : (-10) ≤ r8 ∧ r8 ≤ 10) (g_0 : r7 < 0) (g_1 : -(((108917793695 * r7 + 159561683699 * r8) / 68719476736) * o4) + (r7 * k10_1) + (r8 * k10_2) - 1 < 0) (g_2 : 0 ≤ -(((108917793695 * r7 + 159561683699 * r8) / 68719476736) * o4) + (r7 * k10_1) + (r8 * k10_2)) : jT xs (d + 2) 161 16 0 [(0, (4, 0)), (1, (0, r7)), (2, (0, r8)), (3, (4, 1)), (4, (0, o4))] [] [jzQ_16, (4, [(4, 13), (1, 1)], []), (8, [(4, 14), (4, 15)], []), jgh, jgh, jgh, jgh, jgh, jgh, (101, [], [u9_0, u9_1, u9_2, u9_3, u9_4, u9_5]), (101, [], [k10_0, k10_1, k10_2, k10_3, k10_4, k10_5]), jgh, jgh, (101, [], [0, 0, 0, 0, 0, 0]), jgh, jgh] 0 0 (fun k v hsN => k = 0 ∧ v = (0, 0) ∧ hsN = [jzQ_16, (4, [(4, 13), (1, 1)], []), (8, [(4, 14), (4, 15)], []), jgh, jgh, jgh, jgh, jgh, jgh, (101, [], [(108917793695 * r7 + 159561683699 * r8) / 68719476736, -r7, -r8, 0, 0, 0]), (101, [], [k10_0, k10_1, k10_2, k10_3, k10_4, k10_5]), jgh, jgh, (101, [], [0, 0, 0, 0, 0, 0]), jgh, jgh]) := by
  refine jT_xiload_n (v := (0, r7)) (pcN := 1) jIQ_161_0 rfl rfl rfl ?_
  refine jT_ifT (a := r7) (t := 10) (by rfl) (by rfl) (by rfl) (jw_idd (by omega) (by omega)) (by simp only [jcP] <;> omega) ?_
  refine jT_xiconst (k := 0) (pcN := 11) jIQ_161_10 rfl ?_
  refine jT_xistore (v := (0, 0)) (LN := [(5, (0, 0)), (0, (4, 0)), (1, (0, r7)), (2, (0, r8)), (3, (4, 1)), (4, (0, o4))]) (pcN := 13) jIQ_161_11 rfl rfl rfl rfl ?_
  refine jT_xiload (v := (0, 0)) (pcN := 15) jIQ_161_13 rfl rfl rfl ?_
  refine jT_xbipush (k := 6) (pcN := 17) jIQ_161_15 (by decide) rfl ?_
  refine jT_xicF (t := 56) (pcN := 20) jIQ_161_17 rfl (by decide +kernel) rfl rfl ?_
  refine jT_xaload_n (v := (4, 0)) (pcN := 21) jIQ_161_20 rfl rfl rfl ?_
  refine jT_xgetf (a := 0) (t := 1) (ci := 13) (fi := 7) (c := jzQ_16) (v := (4, 9)) (pcN := 24) jIQ_161_21 rfl rfl rfl rfl rfl rfl rfl ?_
  refine jT_xiload (v := (0, 0)) (pcN := 26) jIQ_161_24 rfl rfl rfl ?_
  refine jT_xiload (v := (0, 0)) (pcN := 28) jIQ_161_26 rfl rfl rfl ?_
  refine jT_xiconst (k := 1) (pcN := 29) jIQ_161_28 rfl ?_
  refine jT_xicT (pcN := 37) jIQ_161_29 rfl (by decide +kernel) rfl ?_
  refine jT_xiload (v := (0, 0)) (pcN := 39) jIQ_161_37 rfl rfl rfl ?_
  refine jT_xiconst (k := 2) (pcN := 40) jIQ_161_39 rfl ?_
  refine jT_xicT (pcN := 48) jIQ_161_40 rfl (by decide +kernel) rfl ?_
  refine jT_xlconst (z := 0) (pcN := 49) jIQ_161_48 rfl rfl ?_
  refine jT_adv 1 (pcN := 50) (LN := [(5, (0, 0)), (0, (4, 0)), (1, (0, r7)), (2, (0, r8)), (3, (4, 1)), (4, (0, o4))]) (stN := []) (hsN := [jzQ_16, (4, [(4, 13), (1, 1)], []), (8, [(4, 14), (4, 15)], []), jgh, jgh, jgh, jgh, jgh, jgh, (101, [], [0, u9_1, u9_2, u9_3, u9_4, u9_5]), (101, [], [k10_0, k10_1, k10_2, k10_3, k10_4, k10_5]), jgh, jgh, (101, [], [0, 0, 0, 0, 0, 0]), jgh, jgh]) (c1 := 0) (s1 := 0) (c2 := 0) (s2 := 0) (by exact rfl) ?_ (by omega) (by omega)
  refine jT_xiinc (x := 0) (z := 1) (LN := [(5, (0, 1)), (0, (4, 0)), (1, (0, r7)), (2, (0, r8)), (3, (4, 1)), (4, (0, o4))]) (pcN := 53) jIQ_161_50 rfl rfl (by decide) rfl rfl ?_
  refine jT_xgoto (pcN := 13) jIQ_161_53 rfl ?_
  refine jT_xiload (v := (0, 1)) (pcN := 15) jIQ_161_13 rfl rfl rfl ?_
  refine jT_xbipush (k := 6) (pcN := 17) jIQ_161_15 (by decide) rfl ?_
  refine jT_xicF (t := 56) (pcN := 20) jIQ_161_17 rfl (by decide +kernel) rfl rfl ?_
  refine jT_xaload_n (v := (4, 0)) (pcN := 21) jIQ_161_20 rfl rfl rfl ?_
  refine jT_xgetf (a := 0) (t := 1) (ci := 13) (fi := 7) (c := jzQ_16) (v := (4, 9)) (pcN := 24) jIQ_161_21 rfl rfl rfl rfl rfl rfl rfl ?_
  refine jT_xiload (v := (0, 1)) (pcN := 26) jIQ_161_24 rfl rfl rfl ?_
  refine jT_xiload (v := (0, 1)) (pcN := 28) jIQ_161_26 rfl rfl rfl ?_
  refine jT_xiconst (k := 1) (pcN := 29) jIQ_161_28 rfl ?_
  refine jT_xicF (t := 37) (pcN := 32) jIQ_161_29 rfl (by decide +kernel) rfl rfl ?_
  refine jT_xiload_n (v := (0, r7)) (pcN := 33) jIQ_161_32 rfl rfl rfl ?_
  refine jT_xi2l (x := r7) (z := r7) (pcN := 34) jIQ_161_33 rfl (jw_idd (by omega) (by omega)) rfl ?_
  refine jT_xgoto (pcN := 49) jIQ_161_34 rfl ?_
  refine jT_adv 1 (pcN := 50) (LN := [(5, (0, 1)), (0, (4, 0)), (1, (0, r7)), (2, (0, r8)), (3, (4, 1)), (4, (0, o4))]) (stN := []) (hsN := [jzQ_16, (4, [(4, 13), (1, 1)], []), (8, [(4, 14), (4, 15)], []), jgh, jgh, jgh, jgh, jgh, jgh, (101, [], [0, r7, u9_2, u9_3, u9_4, u9_5]), (101, [], [k10_0, k10_1, k10_2, k10_3, k10_4, k10_5]), jgh, jgh, (101, [], [0, 0, 0, 0, 0, 0]), jgh, jgh]) (c1 := 0) (s1 := 0) (c2 := 0) (s2 := 0) (by exact rfl) ?_ (by omega) (by omega)
  refine jT_xiinc (x := 1) (z := 2) (LN := [(5, (0, 2)), (0, (4, 0)), (1, (0, r7)), (2, (0, r8)), (3, (4, 1)), (4, (0, o4))]) (pcN := 53) jIQ_161_50 rfl rfl (by decide) rfl rfl ?_
  refine jT_xgoto (pcN := 13) jIQ_161_53 rfl ?_
  refine jT_xiload (v := (0, 2)) (pcN := 15) jIQ_161_13 rfl rfl rfl ?_
  refine jT_xbipush (k := 6) (pcN := 17) jIQ_161_15 (by decide) rfl ?_
  refine jT_xicF (t := 56) (pcN := 20) jIQ_161_17 rfl (by decide +kernel) rfl rfl ?_
  refine jT_xaload_n (v := (4, 0)) (pcN := 21) jIQ_161_20 rfl rfl rfl ?_
  refine jT_xgetf (a := 0) (t := 1) (ci := 13) (fi := 7) (c := jzQ_16) (v := (4, 9)) (pcN := 24) jIQ_161_21 rfl rfl rfl rfl rfl rfl rfl ?_
  refine jT_xiload (v := (0, 2)) (pcN := 26) jIQ_161_24 rfl rfl rfl ?_
  refine jT_xiload (v := (0, 2)) (pcN := 28) jIQ_161_26 rfl rfl rfl ?_
  refine jT_xiconst (k := 1) (pcN := 29) jIQ_161_28 rfl ?_
  refine jT_xicT (pcN := 37) jIQ_161_29 rfl (by decide +kernel) rfl ?_
  refine jT_xiload (v := (0, 2)) (pcN := 39) jIQ_161_37 rfl rfl rfl ?_
  refine jT_xiconst (k := 2) (pcN := 40) jIQ_161_39 rfl ?_
  refine jT_xicF (t := 48) (pcN := 43) jIQ_161_40 rfl (by decide +kernel) rfl rfl ?_
  refine jT_xiload_n (v := (0, r8)) (pcN := 44) jIQ_161_43 rfl rfl rfl ?_
  refine jT_xi2l (x := r8) (z := r8) (pcN := 45) jIQ_161_44 rfl (jw_idd (by omega) (by omega)) rfl ?_
  refine jT_xgoto (pcN := 49) jIQ_161_45 rfl ?_
  refine jT_adv 1 (pcN := 50) (LN := [(5, (0, 2)), (0, (4, 0)), (1, (0, r7)), (2, (0, r8)), (3, (4, 1)), (4, (0, o4))]) (stN := []) (hsN := [jzQ_16, (4, [(4, 13), (1, 1)], []), (8, [(4, 14), (4, 15)], []), jgh, jgh, jgh, jgh, jgh, jgh, (101, [], [0, r7, r8, u9_3, u9_4, u9_5]), (101, [], [k10_0, k10_1, k10_2, k10_3, k10_4, k10_5]), jgh, jgh, (101, [], [0, 0, 0, 0, 0, 0]), jgh, jgh]) (c1 := 0) (s1 := 0) (c2 := 0) (s2 := 0) (by exact rfl) ?_ (by omega) (by omega)
  refine jT_xiinc (x := 2) (z := 3) (LN := [(5, (0, 3)), (0, (4, 0)), (1, (0, r7)), (2, (0, r8)), (3, (4, 1)), (4, (0, o4))]) (pcN := 53) jIQ_161_50 rfl rfl (by decide) rfl rfl ?_
  refine jT_xgoto (pcN := 13) jIQ_161_53 rfl ?_
  refine jT_xiload (v := (0, 3)) (pcN := 15) jIQ_161_13 rfl rfl rfl ?_
  refine jT_xbipush (k := 6) (pcN := 17) jIQ_161_15 (by decide) rfl ?_
  refine jT_xicF (t := 56) (pcN := 20) jIQ_161_17 rfl (by decide +kernel) rfl rfl ?_
  refine jT_xaload_n (v := (4, 0)) (pcN := 21) jIQ_161_20 rfl rfl rfl ?_
  refine jT_xgetf (a := 0) (t := 1) (ci := 13) (fi := 7) (c := jzQ_16) (v := (4, 9)) (pcN := 24) jIQ_161_21 rfl rfl rfl rfl rfl rfl rfl ?_
  refine jT_xiload (v := (0, 3)) (pcN := 26) jIQ_161_24 rfl rfl rfl ?_
  refine jT_xiload (v := (0, 3)) (pcN := 28) jIQ_161_26 rfl rfl rfl ?_
  refine jT_xiconst (k := 1) (pcN := 29) jIQ_161_28 rfl ?_
  refine jT_xicT (pcN := 37) jIQ_161_29 rfl (by decide +kernel) rfl ?_
  refine jT_xiload (v := (0, 3)) (pcN := 39) jIQ_161_37 rfl rfl rfl ?_
  refine jT_xiconst (k := 2) (pcN := 40) jIQ_161_39 rfl ?_
  refine jT_xicT (pcN := 48) jIQ_161_40 rfl (by decide +kernel) rfl ?_
  refine jT_xlconst (z := 0) (pcN := 49) jIQ_161_48 rfl rfl ?_
  refine jT_adv 1 (pcN := 50) (LN := [(5, (0, 3)), (0, (4, 0)), (1, (0, r7)), (2, (0, r8)), (3, (4, 1)), (4, (0, o4))]) (stN := []) (hsN := [jzQ_16, (4, [(4, 13), (1, 1)], []), (8, [(4, 14), (4, 15)], []), jgh, jgh, jgh, jgh, jgh, jgh, (101, [], [0, r7, r8, 0, u9_4, u9_5]), (101, [], [k10_0, k10_1, k10_2, k10_3, k10_4, k10_5]), jgh, jgh, (101, [], [0, 0, 0, 0, 0, 0]), jgh, jgh]) (c1 := 0) (s1 := 0) (c2 := 0) (s2 := 0) (by exact rfl) ?_ (by omega) (by omega)
  refine jT_xiinc (x := 3) (z := 4) (LN := [(5, (0, 4)), (0, (4, 0)), (1, (0, r7)), (2, (0, r8)), (3, (4, 1)), (4, (0, o4))]) (pcN := 53) jIQ_161_50 rfl rfl (by decide) rfl rfl ?_
  refine jT_xgoto (pcN := 13) jIQ_161_53 rfl ?_
  refine jT_xiload (v := (0, 4)) (pcN := 15) jIQ_161_13 rfl rfl rfl ?_
  refine jT_xbipush (k := 6) (pcN := 17) jIQ_161_15 (by decide) rfl ?_
  refine jT_xicF (t := 56) (pcN := 20) jIQ_161_17 rfl (by decide +kernel) rfl rfl ?_
  refine jT_xaload_n (v := (4, 0)) (pcN := 21) jIQ_161_20 rfl rfl rfl ?_
  refine jT_xgetf (a := 0) (t := 1) (ci := 13) (fi := 7) (c := jzQ_16) (v := (4, 9)) (pcN := 24) jIQ_161_21 rfl rfl rfl rfl rfl rfl rfl ?_
  refine jT_xiload (v := (0, 4)) (pcN := 26) jIQ_161_24 rfl rfl rfl ?_
  refine jT_xiload (v := (0, 4)) (pcN := 28) jIQ_161_26 rfl rfl rfl ?_
  refine jT_xiconst (k := 1) (pcN := 29) jIQ_161_28 rfl ?_
  refine jT_xicT (pcN := 37) jIQ_161_29 rfl (by decide +kernel) rfl ?_
  refine jT_xiload (v := (0, 4)) (pcN := 39) jIQ_161_37 rfl rfl rfl ?_
  refine jT_xiconst (k := 2) (pcN := 40) jIQ_161_39 rfl ?_
  refine jT_xicT (pcN := 48) jIQ_161_40 rfl (by decide +kernel) rfl ?_
  refine jT_xlconst (z := 0) (pcN := 49) jIQ_161_48 rfl rfl ?_
  refine jT_adv 1 (pcN := 50) (LN := [(5, (0, 4)), (0, (4, 0)), (1, (0, r7)), (2, (0, r8)), (3, (4, 1)), (4, (0, o4))]) (stN := []) (hsN := [jzQ_16, (4, [(4, 13), (1, 1)], []), (8, [(4, 14), (4, 15)], []), jgh, jgh, jgh, jgh, jgh, jgh, (101, [], [0, r7, r8, 0, 0, u9_5]), (101, [], [k10_0, k10_1, k10_2, k10_3, k10_4, k10_5]), jgh, jgh, (101, [], [0, 0, 0, 0, 0, 0]), jgh, jgh]) (c1 := 0) (s1 := 0) (c2 := 0) (s2 := 0) (by exact rfl) ?_ (by omega) (by omega)
  refine jT_xiinc (x := 4) (z := 5) (LN := [(5, (0, 5)), (0, (4, 0)), (1, (0, r7)), (2, (0, r8)), (3, (4, 1)), (4, (0, o4))]) (pcN := 53) jIQ_161_50 rfl rfl (by decide) rfl rfl ?_
  refine jT_xgoto (pcN := 13) jIQ_161_53 rfl ?_
  refine jT_xiload (v := (0, 5)) (pcN := 15) jIQ_161_13 rfl rfl rfl ?_
  refine jT_xbipush (k := 6) (pcN := 17) jIQ_161_15 (by decide) rfl ?_
  refine jT_xicF (t := 56) (pcN := 20) jIQ_161_17 rfl (by decide +kernel) rfl rfl ?_
  refine jT_xaload_n (v := (4, 0)) (pcN := 21) jIQ_161_20 rfl rfl rfl ?_
  refine jT_xgetf (a := 0) (t := 1) (ci := 13) (fi := 7) (c := jzQ_16) (v := (4, 9)) (pcN := 24) jIQ_161_21 rfl rfl rfl rfl rfl rfl rfl ?_
  refine jT_xiload (v := (0, 5)) (pcN := 26) jIQ_161_24 rfl rfl rfl ?_
  refine jT_xiload (v := (0, 5)) (pcN := 28) jIQ_161_26 rfl rfl rfl ?_
  refine jT_xiconst (k := 1) (pcN := 29) jIQ_161_28 rfl ?_
  refine jT_xicT (pcN := 37) jIQ_161_29 rfl (by decide +kernel) rfl ?_
  refine jT_xiload (v := (0, 5)) (pcN := 39) jIQ_161_37 rfl rfl rfl ?_
  refine jT_xiconst (k := 2) (pcN := 40) jIQ_161_39 rfl ?_
  refine jT_xicT (pcN := 48) jIQ_161_40 rfl (by decide +kernel) rfl ?_
  refine jT_xlconst (z := 0) (pcN := 49) jIQ_161_48 rfl rfl ?_
  refine jT_adv 1 (pcN := 50) (LN := [(5, (0, 5)), (0, (4, 0)), (1, (0, r7)), (2, (0, r8)), (3, (4, 1)), (4, (0, o4))]) (stN := []) (hsN := [jzQ_16, (4, [(4, 13), (1, 1)], []), (8, [(4, 14), (4, 15)], []), jgh, jgh, jgh, jgh, jgh, jgh, (101, [], [0, r7, r8, 0, 0, 0]), (101, [], [k10_0, k10_1, k10_2, k10_3, k10_4, k10_5]), jgh, jgh, (101, [], [0, 0, 0, 0, 0, 0]), jgh, jgh]) (c1 := 0) (s1 := 0) (c2 := 0) (s2 := 0) (by exact rfl) ?_ (by omega) (by omega)
  refine jT_xiinc (x := 5) (z := 6) (LN := [(5, (0, 6)), (0, (4, 0)), (1, (0, r7)), (2, (0, r8)), (3, (4, 1)), (4, (0, o4))]) (pcN := 53) jIQ_161_50 rfl rfl (by decide) rfl rfl ?_
  refine jT_xgoto (pcN := 13) jIQ_161_53 rfl ?_
  refine jT_xiload (v := (0, 6)) (pcN := 15) jIQ_161_13 rfl rfl rfl ?_
  refine jT_xbipush (k := 6) (pcN := 17) jIQ_161_15 (by decide) rfl ?_
  refine jT_xicT (pcN := 56) jIQ_161_17 rfl (by decide +kernel) rfl ?_
  refine jT_xaload_n (v := (4, 0)) (pcN := 57) jIQ_161_56 rfl rfl rfl ?_
  refine jT_xgetf (a := 0) (t := 1) (ci := 13) (fi := 0) (c := jzQ_16) (v := (4, 2)) (pcN := 60) jIQ_161_57 rfl rfl rfl rfl rfl rfl rfl ?_
  refine jT_xaload_n (v := (4, 0)) (pcN := 61) jIQ_161_60 rfl rfl rfl ?_
  refine jT_xgetf (a := 0) (t := 1) (ci := 13) (fi := 7) (c := jzQ_16) (v := (4, 9)) (pcN := 64) jIQ_161_61 rfl rfl rfl rfl rfl rfl rfl ?_
  refine jT_xlconst (z := 1) (pcN := 65) jIQ_161_64 rfl rfl ?_
  refine jT_xlconst (z := 1) (pcN := 66) jIQ_161_65 rfl rfl ?_
  refine jT_callA [2, 9, 14, 15] (y := 45) (pcN := 69) (dC := 1) (bc1 := 0) (bc2 := 0) (c1 := 0) (c2 := 0) (as := [(4, 2), (4, 9), (1, 1), (1, 1)]) (asC := [(4, 0), (4, 1), (1, 1), (1, 1)]) (LN := [(5, (0, 6)), (0, (4, 0)), (1, (0, r7)), (2, (0, r8)), (3, (4, 1)), (4, (0, o4))]) (stN := []) (hsC := [(8, [(4, 2), (4, 3)], []), (101, [], [0, r7, r8, 0, 0, 0]), jgh, jgh]) (ex := []) (v := (1, (108917793695 * r7 + 159561683699 * r8) / 68719476736)) (st2 := [(1, (108917793695 * r7 + 159561683699 * r8) / 68719476736)]) (hs2 := [jzQ_16, (4, [(4, 13), (1, 1)], []), (8, [(4, 14), (4, 15)], []), jgh, jgh, jgh, jgh, jgh, jgh, (101, [], [0, r7, r8, 0, 0, 0]), (101, [], [k10_0, k10_1, k10_2, k10_3, k10_4, k10_5]), jgh, jgh, (101, [], [0, 0, 0, 0, 0, 0]), jgh, jgh]) (jQl_sp45_116 (d := 0) (by omega) (by omega)) (by rfl) (by rfl) (by rfl) (by rfl) ⟨rfl, rfl, rfl, rfl, trivial⟩ (by rfl) (by rfl) (by omega) (by show 16 ≤ 16; omega) (by omega) (by omega) rfl rfl ?_
  have hb_q1 : (-60) ≤ (108917793695 * r7 + 159561683699 * r8) / 68719476736 ∧ (108917793695 * r7 + 159561683699 * r8) / 68719476736 ≤ 60 := ⟨by omega, by omega⟩
  generalize hq_q1 : (108917793695 * r7 + 159561683699 * r8) / 68719476736 = q1 at hb_q1 g_1 g_2 ⊢
  refine jT_xlstore (v := (1, q1)) (LN := [(5, (1, q1)), (0, (4, 0)), (1, (0, r7)), (2, (0, r8)), (3, (4, 1)), (4, (0, o4))]) (pcN := 71) jIQ_161_69 rfl rfl rfl rfl ?_
  have g_3 : 0 ≤ (-68719476736) * q1 + 108917793694 * r7 + 159561683698 * r8 - 1 := by have := jcg (b := r7) (c := r8) (by omega) (by omega) (by omega); rw [hq_q1] at this; omega
  have g_4 : 0 ≤ (-68719476736) * q1 + 108917793694 * r7 + 159561683700 * r8 - 1 := by have := jcg (b := r7) (c := r8) (by omega) (by omega) (by omega); rw [hq_q1] at this; omega
  have g_5 : 0 ≤ (-68719476736) * q1 + 108917793696 * r7 + 159561683698 * r8 - 1 := by have := jcg (b := r7) (c := r8) (by omega) (by omega) (by omega); rw [hq_q1] at this; omega
  have g_6 : 0 ≤ (-68719476736) * q1 + 108917793696 * r7 + 159561683700 * r8 - 1 := by have := jcg (b := r7) (c := r8) (by omega) (by omega) (by omega); rw [hq_q1] at this; omega
  refine jT_xiload (v := (0, o4)) (pcN := 73) jIQ_161_71 rfl rfl rfl ?_
  refine jT_ifF (a := o4) (t := 107) (by rfl) (by rfl) (by rfl) (jw_idd (by omega) (by omega)) (by simp only [jcP] <;> omega) ?_
  refine jT_xiload_n (v := (0, r7)) (pcN := 77) jIQ_161_76 rfl rfl rfl ?_
  refine jT_xi2l (x := r7) (z := r7) (pcN := 78) jIQ_161_77 rfl (jw_idd (by omega) (by omega)) rfl ?_
  refine jT_xaload_n (v := (4, 0)) (pcN := 79) jIQ_161_78 rfl rfl rfl ?_
  refine jT_xgetf (a := 0) (t := 1) (ci := 13) (fi := 8) (c := jzQ_16) (v := (4, 10)) (pcN := 82) jIQ_161_79 rfl rfl rfl rfl rfl rfl rfl ?_
  refine jT_xiconst (k := 1) (pcN := 83) jIQ_161_82 rfl ?_
  refine jT_lald (x := k10_1) (a := 10) (j := 1) (fs := []) (X := [k10_0, k10_1, k10_2, k10_3, k10_4, k10_5]) jIQ_161_83 rfl rfl rfl rfl ?_
  refine jT_eq (LN := [(5, (1, q1)), (0, (4, 0)), (1, (0, r7)), (2, (0, r8)), (3, (4, 1)), (4, (0, o4))]) (stN := [(1, k10_1), (1, r7)]) (hsN := [jzQ_16, (4, [(4, 13), (1, 1)], []), (8, [(4, 14), (4, 15)], []), jgh, jgh, jgh, jgh, jgh, jgh, (101, [], [0, r7, r8, 0, 0, 0]), (101, [], [k10_0, k10_1, k10_2, k10_3, k10_4, k10_5]), jgh, jgh, (101, [], [0, 0, 0, 0, 0, 0]), jgh, jgh]) rfl rfl rfl ?_
  refine jT_xlmul (x := r7) (y := k10_1) (z := r7 * k10_1) (pcN := 85) jIQ_161_84 rfl rfl rfl ?_
  have hb_q2 := jmul_bs (x := r7) (y := k10_1) (m := 20) (n := 158) (by omega) (by omega) (by omega) (by omega)
  have hb_q2 : (-3160) ≤ r7 * k10_1 ∧ r7 * k10_1 ≤ 3160 := ⟨by omega, by omega⟩
  generalize hq_q2 : r7 * k10_1 = q2 at hb_q2 g_1 g_2 ⊢
  refine jT_xiload_n (v := (0, r8)) (pcN := 86) jIQ_161_85 rfl rfl rfl ?_
  refine jT_xi2l (x := r8) (z := r8) (pcN := 87) jIQ_161_86 rfl (jw_idd (by omega) (by omega)) rfl ?_
  refine jT_xaload_n (v := (4, 0)) (pcN := 88) jIQ_161_87 rfl rfl rfl ?_
  refine jT_xgetf (a := 0) (t := 1) (ci := 13) (fi := 8) (c := jzQ_16) (v := (4, 10)) (pcN := 91) jIQ_161_88 rfl rfl rfl rfl rfl rfl rfl ?_
  refine jT_xiconst (k := 2) (pcN := 92) jIQ_161_91 rfl ?_
  refine jT_lald (x := k10_2) (a := 10) (j := 2) (fs := []) (X := [k10_0, k10_1, k10_2, k10_3, k10_4, k10_5]) jIQ_161_92 rfl rfl rfl rfl ?_
  refine jT_eq (LN := [(5, (1, q1)), (0, (4, 0)), (1, (0, r7)), (2, (0, r8)), (3, (4, 1)), (4, (0, o4))]) (stN := [(1, k10_2), (1, r8), (1, q2)]) (hsN := [jzQ_16, (4, [(4, 13), (1, 1)], []), (8, [(4, 14), (4, 15)], []), jgh, jgh, jgh, jgh, jgh, jgh, (101, [], [0, r7, r8, 0, 0, 0]), (101, [], [k10_0, k10_1, k10_2, k10_3, k10_4, k10_5]), jgh, jgh, (101, [], [0, 0, 0, 0, 0, 0]), jgh, jgh]) rfl rfl rfl ?_
  refine jT_xlmul (x := r8) (y := k10_2) (z := r8 * k10_2) (pcN := 94) jIQ_161_93 rfl rfl rfl ?_
  have hb_q3 := jmul_bs (x := r8) (y := k10_2) (m := 10) (n := 232) (by omega) (by omega) (by omega) (by omega)
  have hb_q3 : (-2320) ≤ r8 * k10_2 ∧ r8 * k10_2 ≤ 2320 := ⟨by omega, by omega⟩
  generalize hq_q3 : r8 * k10_2 = q3 at hb_q3 g_1 g_2 ⊢
  refine jT_xladd (x := q2) (y := q3) (z := q2 + q3) (pcN := 95) jIQ_161_94 rfl (rfl) rfl ?_
  refine jT_xlload (v := (1, q1)) (pcN := 97) jIQ_161_95 rfl rfl rfl ?_
  refine jT_xiload (v := (0, o4)) (pcN := 99) jIQ_161_97 rfl rfl rfl ?_
  refine jT_xi2l (x := o4) (z := o4) (pcN := 100) jIQ_161_99 rfl (jw_idd (by omega) (by omega)) rfl ?_
  refine jT_xlmul (x := q1) (y := o4) (z := q1 * o4) (pcN := 101) jIQ_161_100 rfl rfl rfl ?_
  have hb_q4 := jmul_bs (x := q1) (y := o4) (m := 60) (n := 100) (by omega) (by omega) (by omega) (by omega)
  have hb_q4 : (-6000) ≤ q1 * o4 ∧ q1 * o4 ≤ 6000 := ⟨by omega, by omega⟩
  generalize hq_q4 : q1 * o4 = q4 at hb_q4 g_1 g_2 ⊢
  refine jT_lcmp (a := q2 + q3) (b := q4) (z := 0) (by rfl) (by rfl) (jwl_idd (by omega) (by omega)) (jwl_idd (by omega) (by omega)) (by rw [decide_eq_false (show ¬ ((q4 : Int) < q2 + q3) by omega), decide_eq_true (show (q2 + q3 : Int) = q4 by omega)]; rfl) ?_
  refine jT_xifT (pcN := 107) jIQ_161_102 rfl (by decide +kernel) rfl ?_
  refine jT_xaload_n (v := (4, 0)) (pcN := 108) jIQ_161_107 rfl rfl rfl ?_
  refine jT_xgetf (a := 0) (t := 1) (ci := 13) (fi := 7) (c := jzQ_16) (v := (4, 9)) (pcN := 111) jIQ_161_108 rfl rfl rfl rfl rfl rfl rfl ?_
  refine jT_xiconst (k := 0) (pcN := 112) jIQ_161_111 rfl ?_
  refine jT_xlload (v := (1, q1)) (pcN := 114) jIQ_161_112 rfl rfl rfl ?_
  refine jT_adv 2 (pcN := 116) (LN := [(5, (1, q1)), (0, (4, 0)), (1, (0, r7)), (2, (0, r8)), (3, (4, 1)), (4, (0, o4))]) (stN := []) (hsN := [jzQ_16, (4, [(4, 13), (1, 1)], []), (8, [(4, 14), (4, 15)], []), jgh, jgh, jgh, jgh, jgh, jgh, (101, [], [-q1, r7, r8, 0, 0, 0]), (101, [], [k10_0, k10_1, k10_2, k10_3, k10_4, k10_5]), jgh, jgh, (101, [], [0, 0, 0, 0, 0, 0]), jgh, jgh]) (c1 := 0) (s1 := 0) (c2 := 0) (s2 := 0) (by exact rfl) ?_ (by omega) (by omega)
  refine jT_xiconst (k := 0) (pcN := 117) jIQ_161_116 rfl ?_
  refine jT_xistore (v := (0, 0)) (LN := [(7, (0, 0)), (5, (1, q1)), (0, (4, 0)), (1, (0, r7)), (2, (0, r8)), (3, (4, 1)), (4, (0, o4))]) (pcN := 119) jIQ_161_117 rfl rfl rfl rfl ?_
  refine jT_xiload (v := (0, 0)) (pcN := 121) jIQ_161_119 rfl rfl rfl ?_
  refine jT_xbipush (k := 6) (pcN := 123) jIQ_161_121 (by decide) rfl ?_
  refine jT_xicF (t := 159) (pcN := 126) jIQ_161_123 rfl (by decide +kernel) rfl rfl ?_
  refine jT_xaload_n (v := (4, 0)) (pcN := 127) jIQ_161_126 rfl rfl rfl ?_
  refine jT_xgetf (a := 0) (t := 1) (ci := 13) (fi := 7) (c := jzQ_16) (v := (4, 9)) (pcN := 130) jIQ_161_127 rfl rfl rfl rfl rfl rfl rfl ?_
  refine jT_xiload (v := (0, 0)) (pcN := 132) jIQ_161_130 rfl rfl rfl ?_
  refine jT_xaload_n (v := (4, 1)) (pcN := 133) jIQ_161_132 rfl rfl rfl ?_
  refine jT_xgetf (a := 1) (t := 2) (ci := 4) (fi := 0) (c := (4, [(4, 13), (1, 1)], [])) (v := (4, 13)) (pcN := 136) jIQ_161_133 rfl rfl rfl rfl rfl rfl rfl ?_
  refine jT_xiload (v := (0, 0)) (pcN := 138) jIQ_161_136 rfl rfl rfl ?_
  refine jT_lald (x := 0) (a := 13) (j := 0) (fs := []) (X := [0, 0, 0, 0, 0, 0]) jIQ_161_138 rfl rfl rfl rfl ?_
  refine jT_eq (LN := [(7, (0, 0)), (5, (1, q1)), (0, (4, 0)), (1, (0, r7)), (2, (0, r8)), (3, (4, 1)), (4, (0, o4))]) (stN := [(1, 0), (0, 0), (4, 9)]) (hsN := [jzQ_16, (4, [(4, 13), (1, 1)], []), (8, [(4, 14), (4, 15)], []), jgh, jgh, jgh, jgh, jgh, jgh, (101, [], [-q1, r7, r8, 0, 0, 0]), (101, [], [k10_0, k10_1, k10_2, k10_3, k10_4, k10_5]), jgh, jgh, (101, [], [0, 0, 0, 0, 0, 0]), jgh, jgh]) rfl rfl rfl ?_
  refine jT_xaload_n (v := (4, 0)) (pcN := 140) jIQ_161_139 rfl rfl rfl ?_
  refine jT_xgetf (a := 0) (t := 1) (ci := 13) (fi := 7) (c := jzQ_16) (v := (4, 9)) (pcN := 143) jIQ_161_140 rfl rfl rfl rfl rfl rfl rfl ?_
  refine jT_xiload (v := (0, 0)) (pcN := 145) jIQ_161_143 rfl rfl rfl ?_
  refine jT_lald (x := -q1) (a := 9) (j := 0) (fs := []) (X := [-q1, r7, r8, 0, 0, 0]) jIQ_161_145 rfl rfl rfl rfl ?_
  refine jT_eq (LN := [(7, (0, 0)), (5, (1, q1)), (0, (4, 0)), (1, (0, r7)), (2, (0, r8)), (3, (4, 1)), (4, (0, o4))]) (stN := [(1, -q1), (1, 0), (0, 0), (4, 9)]) (hsN := [jzQ_16, (4, [(4, 13), (1, 1)], []), (8, [(4, 14), (4, 15)], []), jgh, jgh, jgh, jgh, jgh, jgh, (101, [], [-q1, r7, r8, 0, 0, 0]), (101, [], [k10_0, k10_1, k10_2, k10_3, k10_4, k10_5]), jgh, jgh, (101, [], [0, 0, 0, 0, 0, 0]), jgh, jgh]) rfl rfl rfl ?_
  refine jT_xaload_n (v := (4, 1)) (pcN := 147) jIQ_161_146 rfl rfl rfl ?_
  refine jT_xgetf (a := 1) (t := 2) (ci := 4) (fi := 1) (c := (4, [(4, 13), (1, 1)], [])) (v := (1, 1)) (pcN := 150) jIQ_161_147 rfl rfl rfl rfl rfl rfl rfl ?_
  refine jT_xlmul (x := -q1) (y := 1) (z := -q1) (pcN := 151) jIQ_161_150 rfl (by omega) rfl ?_
  refine jT_xlsub (x := 0) (y := -q1) (z := q1) (pcN := 152) jIQ_161_151 rfl (by omega) rfl ?_
  refine jT_adv 1 (pcN := 153) (LN := [(7, (0, 0)), (5, (1, q1)), (0, (4, 0)), (1, (0, r7)), (2, (0, r8)), (3, (4, 1)), (4, (0, o4))]) (stN := []) (hsN := [jzQ_16, (4, [(4, 13), (1, 1)], []), (8, [(4, 14), (4, 15)], []), jgh, jgh, jgh, jgh, jgh, jgh, (101, [], [q1, r7, r8, 0, 0, 0]), (101, [], [k10_0, k10_1, k10_2, k10_3, k10_4, k10_5]), jgh, jgh, (101, [], [0, 0, 0, 0, 0, 0]), jgh, jgh]) (c1 := 0) (s1 := 0) (c2 := 0) (s2 := 0) (by exact rfl) ?_ (by omega) (by omega)
  refine jT_xiinc (x := 0) (z := 1) (LN := [(7, (0, 1)), (5, (1, q1)), (0, (4, 0)), (1, (0, r7)), (2, (0, r8)), (3, (4, 1)), (4, (0, o4))]) (pcN := 156) jIQ_161_153 rfl rfl (by decide) rfl rfl ?_
  refine jT_xgoto (pcN := 119) jIQ_161_156 rfl ?_
  refine jT_xiload (v := (0, 1)) (pcN := 121) jIQ_161_119 rfl rfl rfl ?_
  refine jT_xbipush (k := 6) (pcN := 123) jIQ_161_121 (by decide) rfl ?_
  refine jT_xicF (t := 159) (pcN := 126) jIQ_161_123 rfl (by decide +kernel) rfl rfl ?_
  refine jT_xaload_n (v := (4, 0)) (pcN := 127) jIQ_161_126 rfl rfl rfl ?_
  refine jT_xgetf (a := 0) (t := 1) (ci := 13) (fi := 7) (c := jzQ_16) (v := (4, 9)) (pcN := 130) jIQ_161_127 rfl rfl rfl rfl rfl rfl rfl ?_
  refine jT_xiload (v := (0, 1)) (pcN := 132) jIQ_161_130 rfl rfl rfl ?_
  refine jT_xaload_n (v := (4, 1)) (pcN := 133) jIQ_161_132 rfl rfl rfl ?_
  refine jT_xgetf (a := 1) (t := 2) (ci := 4) (fi := 0) (c := (4, [(4, 13), (1, 1)], [])) (v := (4, 13)) (pcN := 136) jIQ_161_133 rfl rfl rfl rfl rfl rfl rfl ?_
  refine jT_xiload (v := (0, 1)) (pcN := 138) jIQ_161_136 rfl rfl rfl ?_
  refine jT_lald (x := 0) (a := 13) (j := 1) (fs := []) (X := [0, 0, 0, 0, 0, 0]) jIQ_161_138 rfl rfl rfl rfl ?_
  refine jT_eq (LN := [(7, (0, 1)), (5, (1, q1)), (0, (4, 0)), (1, (0, r7)), (2, (0, r8)), (3, (4, 1)), (4, (0, o4))]) (stN := [(1, 0), (0, 1), (4, 9)]) (hsN := [jzQ_16, (4, [(4, 13), (1, 1)], []), (8, [(4, 14), (4, 15)], []), jgh, jgh, jgh, jgh, jgh, jgh, (101, [], [q1, r7, r8, 0, 0, 0]), (101, [], [k10_0, k10_1, k10_2, k10_3, k10_4, k10_5]), jgh, jgh, (101, [], [0, 0, 0, 0, 0, 0]), jgh, jgh]) rfl rfl rfl ?_
  refine jT_xaload_n (v := (4, 0)) (pcN := 140) jIQ_161_139 rfl rfl rfl ?_
  refine jT_xgetf (a := 0) (t := 1) (ci := 13) (fi := 7) (c := jzQ_16) (v := (4, 9)) (pcN := 143) jIQ_161_140 rfl rfl rfl rfl rfl rfl rfl ?_
  refine jT_xiload (v := (0, 1)) (pcN := 145) jIQ_161_143 rfl rfl rfl ?_
  refine jT_lald (x := r7) (a := 9) (j := 1) (fs := []) (X := [q1, r7, r8, 0, 0, 0]) jIQ_161_145 rfl rfl rfl rfl ?_
  refine jT_eq (LN := [(7, (0, 1)), (5, (1, q1)), (0, (4, 0)), (1, (0, r7)), (2, (0, r8)), (3, (4, 1)), (4, (0, o4))]) (stN := [(1, r7), (1, 0), (0, 1), (4, 9)]) (hsN := [jzQ_16, (4, [(4, 13), (1, 1)], []), (8, [(4, 14), (4, 15)], []), jgh, jgh, jgh, jgh, jgh, jgh, (101, [], [q1, r7, r8, 0, 0, 0]), (101, [], [k10_0, k10_1, k10_2, k10_3, k10_4, k10_5]), jgh, jgh, (101, [], [0, 0, 0, 0, 0, 0]), jgh, jgh]) rfl rfl rfl ?_
  refine jT_xaload_n (v := (4, 1)) (pcN := 147) jIQ_161_146 rfl rfl rfl ?_
  refine jT_xgetf (a := 1) (t := 2) (ci := 4) (fi := 1) (c := (4, [(4, 13), (1, 1)], [])) (v := (1, 1)) (pcN := 150) jIQ_161_147 rfl rfl rfl rfl rfl rfl rfl ?_
  refine jT_xlmul (x := r7) (y := 1) (z := r7) (pcN := 151) jIQ_161_150 rfl (by omega) rfl ?_
  refine jT_xlsub (x := 0) (y := r7) (z := -r7) (pcN := 152) jIQ_161_151 rfl (by omega) rfl ?_
  refine jT_adv 1 (pcN := 153) (LN := [(7, (0, 1)), (5, (1, q1)), (0, (4, 0)), (1, (0, r7)), (2, (0, r8)), (3, (4, 1)), (4, (0, o4))]) (stN := []) (hsN := [jzQ_16, (4, [(4, 13), (1, 1)], []), (8, [(4, 14), (4, 15)], []), jgh, jgh, jgh, jgh, jgh, jgh, (101, [], [q1, -r7, r8, 0, 0, 0]), (101, [], [k10_0, k10_1, k10_2, k10_3, k10_4, k10_5]), jgh, jgh, (101, [], [0, 0, 0, 0, 0, 0]), jgh, jgh]) (c1 := 0) (s1 := 0) (c2 := 0) (s2 := 0) (by exact rfl) ?_ (by omega) (by omega)
  refine jT_xiinc (x := 1) (z := 2) (LN := [(7, (0, 2)), (5, (1, q1)), (0, (4, 0)), (1, (0, r7)), (2, (0, r8)), (3, (4, 1)), (4, (0, o4))]) (pcN := 156) jIQ_161_153 rfl rfl (by decide) rfl rfl ?_
  refine jT_xgoto (pcN := 119) jIQ_161_156 rfl ?_
  refine jT_xiload (v := (0, 2)) (pcN := 121) jIQ_161_119 rfl rfl rfl ?_
  refine jT_xbipush (k := 6) (pcN := 123) jIQ_161_121 (by decide) rfl ?_
  refine jT_xicF (t := 159) (pcN := 126) jIQ_161_123 rfl (by decide +kernel) rfl rfl ?_
  refine jT_xaload_n (v := (4, 0)) (pcN := 127) jIQ_161_126 rfl rfl rfl ?_
  refine jT_xgetf (a := 0) (t := 1) (ci := 13) (fi := 7) (c := jzQ_16) (v := (4, 9)) (pcN := 130) jIQ_161_127 rfl rfl rfl rfl rfl rfl rfl ?_
  refine jT_xiload (v := (0, 2)) (pcN := 132) jIQ_161_130 rfl rfl rfl ?_
  refine jT_xaload_n (v := (4, 1)) (pcN := 133) jIQ_161_132 rfl rfl rfl ?_
  refine jT_xgetf (a := 1) (t := 2) (ci := 4) (fi := 0) (c := (4, [(4, 13), (1, 1)], [])) (v := (4, 13)) (pcN := 136) jIQ_161_133 rfl rfl rfl rfl rfl rfl rfl ?_
  refine jT_xiload (v := (0, 2)) (pcN := 138) jIQ_161_136 rfl rfl rfl ?_
  refine jT_lald (x := 0) (a := 13) (j := 2) (fs := []) (X := [0, 0, 0, 0, 0, 0]) jIQ_161_138 rfl rfl rfl rfl ?_
  refine jT_eq (LN := [(7, (0, 2)), (5, (1, q1)), (0, (4, 0)), (1, (0, r7)), (2, (0, r8)), (3, (4, 1)), (4, (0, o4))]) (stN := [(1, 0), (0, 2), (4, 9)]) (hsN := [jzQ_16, (4, [(4, 13), (1, 1)], []), (8, [(4, 14), (4, 15)], []), jgh, jgh, jgh, jgh, jgh, jgh, (101, [], [q1, -r7, r8, 0, 0, 0]), (101, [], [k10_0, k10_1, k10_2, k10_3, k10_4, k10_5]), jgh, jgh, (101, [], [0, 0, 0, 0, 0, 0]), jgh, jgh]) rfl rfl rfl ?_
  refine jT_xaload_n (v := (4, 0)) (pcN := 140) jIQ_161_139 rfl rfl rfl ?_
  refine jT_xgetf (a := 0) (t := 1) (ci := 13) (fi := 7) (c := jzQ_16) (v := (4, 9)) (pcN := 143) jIQ_161_140 rfl rfl rfl rfl rfl rfl rfl ?_
  refine jT_xiload (v := (0, 2)) (pcN := 145) jIQ_161_143 rfl rfl rfl ?_
  refine jT_lald (x := r8) (a := 9) (j := 2) (fs := []) (X := [q1, -r7, r8, 0, 0, 0]) jIQ_161_145 rfl rfl rfl rfl ?_
  refine jT_eq (LN := [(7, (0, 2)), (5, (1, q1)), (0, (4, 0)), (1, (0, r7)), (2, (0, r8)), (3, (4, 1)), (4, (0, o4))]) (stN := [(1, r8), (1, 0), (0, 2), (4, 9)]) (hsN := [jzQ_16, (4, [(4, 13), (1, 1)], []), (8, [(4, 14), (4, 15)], []), jgh, jgh, jgh, jgh, jgh, jgh, (101, [], [q1, -r7, r8, 0, 0, 0]), (101, [], [k10_0, k10_1, k10_2, k10_3, k10_4, k10_5]), jgh, jgh, (101, [], [0, 0, 0, 0, 0, 0]), jgh, jgh]) rfl rfl rfl ?_
  refine jT_xaload_n (v := (4, 1)) (pcN := 147) jIQ_161_146 rfl rfl rfl ?_
  refine jT_xgetf (a := 1) (t := 2) (ci := 4) (fi := 1) (c := (4, [(4, 13), (1, 1)], [])) (v := (1, 1)) (pcN := 150) jIQ_161_147 rfl rfl rfl rfl rfl rfl rfl ?_
  refine jT_xlmul (x := r8) (y := 1) (z := r8) (pcN := 151) jIQ_161_150 rfl (by omega) rfl ?_
  refine jT_xlsub (x := 0) (y := r8) (z := -r8) (pcN := 152) jIQ_161_151 rfl (by omega) rfl ?_
  refine jT_adv 1 (pcN := 153) (LN := [(7, (0, 2)), (5, (1, q1)), (0, (4, 0)), (1, (0, r7)), (2, (0, r8)), (3, (4, 1)), (4, (0, o4))]) (stN := []) (hsN := [jzQ_16, (4, [(4, 13), (1, 1)], []), (8, [(4, 14), (4, 15)], []), jgh, jgh, jgh, jgh, jgh, jgh, (101, [], [q1, -r7, -r8, 0, 0, 0]), (101, [], [k10_0, k10_1, k10_2, k10_3, k10_4, k10_5]), jgh, jgh, (101, [], [0, 0, 0, 0, 0, 0]), jgh, jgh]) (c1 := 0) (s1 := 0) (c2 := 0) (s2 := 0) (by exact rfl) ?_ (by omega) (by omega)
  refine jT_xiinc (x := 2) (z := 3) (LN := [(7, (0, 3)), (5, (1, q1)), (0, (4, 0)), (1, (0, r7)), (2, (0, r8)), (3, (4, 1)), (4, (0, o4))]) (pcN := 156) jIQ_161_153 rfl rfl (by decide) rfl rfl ?_
  refine jT_xgoto (pcN := 119) jIQ_161_156 rfl ?_
  refine jT_xiload (v := (0, 3)) (pcN := 121) jIQ_161_119 rfl rfl rfl ?_
  refine jT_xbipush (k := 6) (pcN := 123) jIQ_161_121 (by decide) rfl ?_
  refine jT_xicF (t := 159) (pcN := 126) jIQ_161_123 rfl (by decide +kernel) rfl rfl ?_
  refine jT_xaload_n (v := (4, 0)) (pcN := 127) jIQ_161_126 rfl rfl rfl ?_
  refine jT_xgetf (a := 0) (t := 1) (ci := 13) (fi := 7) (c := jzQ_16) (v := (4, 9)) (pcN := 130) jIQ_161_127 rfl rfl rfl rfl rfl rfl rfl ?_
  refine jT_xiload (v := (0, 3)) (pcN := 132) jIQ_161_130 rfl rfl rfl ?_
  refine jT_xaload_n (v := (4, 1)) (pcN := 133) jIQ_161_132 rfl rfl rfl ?_
  refine jT_xgetf (a := 1) (t := 2) (ci := 4) (fi := 0) (c := (4, [(4, 13), (1, 1)], [])) (v := (4, 13)) (pcN := 136) jIQ_161_133 rfl rfl rfl rfl rfl rfl rfl ?_
  refine jT_xiload (v := (0, 3)) (pcN := 138) jIQ_161_136 rfl rfl rfl ?_
  refine jT_lald (x := 0) (a := 13) (j := 3) (fs := []) (X := [0, 0, 0, 0, 0, 0]) jIQ_161_138 rfl rfl rfl rfl ?_
  refine jT_eq (LN := [(7, (0, 3)), (5, (1, q1)), (0, (4, 0)), (1, (0, r7)), (2, (0, r8)), (3, (4, 1)), (4, (0, o4))]) (stN := [(1, 0), (0, 3), (4, 9)]) (hsN := [jzQ_16, (4, [(4, 13), (1, 1)], []), (8, [(4, 14), (4, 15)], []), jgh, jgh, jgh, jgh, jgh, jgh, (101, [], [q1, -r7, -r8, 0, 0, 0]), (101, [], [k10_0, k10_1, k10_2, k10_3, k10_4, k10_5]), jgh, jgh, (101, [], [0, 0, 0, 0, 0, 0]), jgh, jgh]) rfl rfl rfl ?_
  refine jT_xaload_n (v := (4, 0)) (pcN := 140) jIQ_161_139 rfl rfl rfl ?_
  refine jT_xgetf (a := 0) (t := 1) (ci := 13) (fi := 7) (c := jzQ_16) (v := (4, 9)) (pcN := 143) jIQ_161_140 rfl rfl rfl rfl rfl rfl rfl ?_
  refine jT_xiload (v := (0, 3)) (pcN := 145) jIQ_161_143 rfl rfl rfl ?_
  refine jT_lald (x := 0) (a := 9) (j := 3) (fs := []) (X := [q1, -r7, -r8, 0, 0, 0]) jIQ_161_145 rfl rfl rfl rfl ?_
  refine jT_eq (LN := [(7, (0, 3)), (5, (1, q1)), (0, (4, 0)), (1, (0, r7)), (2, (0, r8)), (3, (4, 1)), (4, (0, o4))]) (stN := [(1, 0), (1, 0), (0, 3), (4, 9)]) (hsN := [jzQ_16, (4, [(4, 13), (1, 1)], []), (8, [(4, 14), (4, 15)], []), jgh, jgh, jgh, jgh, jgh, jgh, (101, [], [q1, -r7, -r8, 0, 0, 0]), (101, [], [k10_0, k10_1, k10_2, k10_3, k10_4, k10_5]), jgh, jgh, (101, [], [0, 0, 0, 0, 0, 0]), jgh, jgh]) rfl rfl rfl ?_
  refine jT_xaload_n (v := (4, 1)) (pcN := 147) jIQ_161_146 rfl rfl rfl ?_
  refine jT_xgetf (a := 1) (t := 2) (ci := 4) (fi := 1) (c := (4, [(4, 13), (1, 1)], [])) (v := (1, 1)) (pcN := 150) jIQ_161_147 rfl rfl rfl rfl rfl rfl rfl ?_
  refine jT_xlmul (x := 0) (y := 1) (z := 0) (pcN := 151) jIQ_161_150 rfl (by decide) rfl ?_
  refine jT_xlsub (x := 0) (y := 0) (z := 0) (pcN := 152) jIQ_161_151 rfl (by decide) rfl ?_
  refine jT_adv 1 (pcN := 153) (LN := [(7, (0, 3)), (5, (1, q1)), (0, (4, 0)), (1, (0, r7)), (2, (0, r8)), (3, (4, 1)), (4, (0, o4))]) (stN := []) (hsN := [jzQ_16, (4, [(4, 13), (1, 1)], []), (8, [(4, 14), (4, 15)], []), jgh, jgh, jgh, jgh, jgh, jgh, (101, [], [q1, -r7, -r8, 0, 0, 0]), (101, [], [k10_0, k10_1, k10_2, k10_3, k10_4, k10_5]), jgh, jgh, (101, [], [0, 0, 0, 0, 0, 0]), jgh, jgh]) (c1 := 0) (s1 := 0) (c2 := 0) (s2 := 0) (by exact rfl) ?_ (by omega) (by omega)
  refine jT_xiinc (x := 3) (z := 4) (LN := [(7, (0, 4)), (5, (1, q1)), (0, (4, 0)), (1, (0, r7)), (2, (0, r8)), (3, (4, 1)), (4, (0, o4))]) (pcN := 156) jIQ_161_153 rfl rfl (by decide) rfl rfl ?_
  refine jT_xgoto (pcN := 119) jIQ_161_156 rfl ?_
  refine jT_xiload (v := (0, 4)) (pcN := 121) jIQ_161_119 rfl rfl rfl ?_
  refine jT_xbipush (k := 6) (pcN := 123) jIQ_161_121 (by decide) rfl ?_
  refine jT_xicF (t := 159) (pcN := 126) jIQ_161_123 rfl (by decide +kernel) rfl rfl ?_
  refine jT_xaload_n (v := (4, 0)) (pcN := 127) jIQ_161_126 rfl rfl rfl ?_
  refine jT_xgetf (a := 0) (t := 1) (ci := 13) (fi := 7) (c := jzQ_16) (v := (4, 9)) (pcN := 130) jIQ_161_127 rfl rfl rfl rfl rfl rfl rfl ?_
  refine jT_xiload (v := (0, 4)) (pcN := 132) jIQ_161_130 rfl rfl rfl ?_
  refine jT_xaload_n (v := (4, 1)) (pcN := 133) jIQ_161_132 rfl rfl rfl ?_
  refine jT_xgetf (a := 1) (t := 2) (ci := 4) (fi := 0) (c := (4, [(4, 13), (1, 1)], [])) (v := (4, 13)) (pcN := 136) jIQ_161_133 rfl rfl rfl rfl rfl rfl rfl ?_
  refine jT_xiload (v := (0, 4)) (pcN := 138) jIQ_161_136 rfl rfl rfl ?_
  refine jT_lald (x := 0) (a := 13) (j := 4) (fs := []) (X := [0, 0, 0, 0, 0, 0]) jIQ_161_138 rfl rfl rfl rfl ?_
  refine jT_eq (LN := [(7, (0, 4)), (5, (1, q1)), (0, (4, 0)), (1, (0, r7)), (2, (0, r8)), (3, (4, 1)), (4, (0, o4))]) (stN := [(1, 0), (0, 4), (4, 9)]) (hsN := [jzQ_16, (4, [(4, 13), (1, 1)], []), (8, [(4, 14), (4, 15)], []), jgh, jgh, jgh, jgh, jgh, jgh, (101, [], [q1, -r7, -r8, 0, 0, 0]), (101, [], [k10_0, k10_1, k10_2, k10_3, k10_4, k10_5]), jgh, jgh, (101, [], [0, 0, 0, 0, 0, 0]), jgh, jgh]) rfl rfl rfl ?_
  refine jT_xaload_n (v := (4, 0)) (pcN := 140) jIQ_161_139 rfl rfl rfl ?_
  refine jT_xgetf (a := 0) (t := 1) (ci := 13) (fi := 7) (c := jzQ_16) (v := (4, 9)) (pcN := 143) jIQ_161_140 rfl rfl rfl rfl rfl rfl rfl ?_
  refine jT_xiload (v := (0, 4)) (pcN := 145) jIQ_161_143 rfl rfl rfl ?_
  refine jT_lald (x := 0) (a := 9) (j := 4) (fs := []) (X := [q1, -r7, -r8, 0, 0, 0]) jIQ_161_145 rfl rfl rfl rfl ?_
  refine jT_eq (LN := [(7, (0, 4)), (5, (1, q1)), (0, (4, 0)), (1, (0, r7)), (2, (0, r8)), (3, (4, 1)), (4, (0, o4))]) (stN := [(1, 0), (1, 0), (0, 4), (4, 9)]) (hsN := [jzQ_16, (4, [(4, 13), (1, 1)], []), (8, [(4, 14), (4, 15)], []), jgh, jgh, jgh, jgh, jgh, jgh, (101, [], [q1, -r7, -r8, 0, 0, 0]), (101, [], [k10_0, k10_1, k10_2, k10_3, k10_4, k10_5]), jgh, jgh, (101, [], [0, 0, 0, 0, 0, 0]), jgh, jgh]) rfl rfl rfl ?_
  refine jT_xaload_n (v := (4, 1)) (pcN := 147) jIQ_161_146 rfl rfl rfl ?_
  refine jT_xgetf (a := 1) (t := 2) (ci := 4) (fi := 1) (c := (4, [(4, 13), (1, 1)], [])) (v := (1, 1)) (pcN := 150) jIQ_161_147 rfl rfl rfl rfl rfl rfl rfl ?_
  refine jT_xlmul (x := 0) (y := 1) (z := 0) (pcN := 151) jIQ_161_150 rfl (by decide) rfl ?_
  refine jT_xlsub (x := 0) (y := 0) (z := 0) (pcN := 152) jIQ_161_151 rfl (by decide) rfl ?_
  refine jT_adv 1 (pcN := 153) (LN := [(7, (0, 4)), (5, (1, q1)), (0, (4, 0)), (1, (0, r7)), (2, (0, r8)), (3, (4, 1)), (4, (0, o4))]) (stN := []) (hsN := [jzQ_16, (4, [(4, 13), (1, 1)], []), (8, [(4, 14), (4, 15)], []), jgh, jgh, jgh, jgh, jgh, jgh, (101, [], [q1, -r7, -r8, 0, 0, 0]), (101, [], [k10_0, k10_1, k10_2, k10_3, k10_4, k10_5]), jgh, jgh, (101, [], [0, 0, 0, 0, 0, 0]), jgh, jgh]) (c1 := 0) (s1 := 0) (c2 := 0) (s2 := 0) (by exact rfl) ?_ (by omega) (by omega)
  refine jT_xiinc (x := 4) (z := 5) (LN := [(7, (0, 5)), (5, (1, q1)), (0, (4, 0)), (1, (0, r7)), (2, (0, r8)), (3, (4, 1)), (4, (0, o4))]) (pcN := 156) jIQ_161_153 rfl rfl (by decide) rfl rfl ?_
  refine jT_xgoto (pcN := 119) jIQ_161_156 rfl ?_
  refine jT_xiload (v := (0, 5)) (pcN := 121) jIQ_161_119 rfl rfl rfl ?_
  refine jT_xbipush (k := 6) (pcN := 123) jIQ_161_121 (by decide) rfl ?_
  refine jT_xicF (t := 159) (pcN := 126) jIQ_161_123 rfl (by decide +kernel) rfl rfl ?_
  refine jT_xaload_n (v := (4, 0)) (pcN := 127) jIQ_161_126 rfl rfl rfl ?_
  refine jT_xgetf (a := 0) (t := 1) (ci := 13) (fi := 7) (c := jzQ_16) (v := (4, 9)) (pcN := 130) jIQ_161_127 rfl rfl rfl rfl rfl rfl rfl ?_
  refine jT_xiload (v := (0, 5)) (pcN := 132) jIQ_161_130 rfl rfl rfl ?_
  refine jT_xaload_n (v := (4, 1)) (pcN := 133) jIQ_161_132 rfl rfl rfl ?_
  refine jT_xgetf (a := 1) (t := 2) (ci := 4) (fi := 0) (c := (4, [(4, 13), (1, 1)], [])) (v := (4, 13)) (pcN := 136) jIQ_161_133 rfl rfl rfl rfl rfl rfl rfl ?_
  refine jT_xiload (v := (0, 5)) (pcN := 138) jIQ_161_136 rfl rfl rfl ?_
  refine jT_lald (x := 0) (a := 13) (j := 5) (fs := []) (X := [0, 0, 0, 0, 0, 0]) jIQ_161_138 rfl rfl rfl rfl ?_
  refine jT_eq (LN := [(7, (0, 5)), (5, (1, q1)), (0, (4, 0)), (1, (0, r7)), (2, (0, r8)), (3, (4, 1)), (4, (0, o4))]) (stN := [(1, 0), (0, 5), (4, 9)]) (hsN := [jzQ_16, (4, [(4, 13), (1, 1)], []), (8, [(4, 14), (4, 15)], []), jgh, jgh, jgh, jgh, jgh, jgh, (101, [], [q1, -r7, -r8, 0, 0, 0]), (101, [], [k10_0, k10_1, k10_2, k10_3, k10_4, k10_5]), jgh, jgh, (101, [], [0, 0, 0, 0, 0, 0]), jgh, jgh]) rfl rfl rfl ?_
  refine jT_xaload_n (v := (4, 0)) (pcN := 140) jIQ_161_139 rfl rfl rfl ?_
  refine jT_xgetf (a := 0) (t := 1) (ci := 13) (fi := 7) (c := jzQ_16) (v := (4, 9)) (pcN := 143) jIQ_161_140 rfl rfl rfl rfl rfl rfl rfl ?_
  refine jT_xiload (v := (0, 5)) (pcN := 145) jIQ_161_143 rfl rfl rfl ?_
  refine jT_lald (x := 0) (a := 9) (j := 5) (fs := []) (X := [q1, -r7, -r8, 0, 0, 0]) jIQ_161_145 rfl rfl rfl rfl ?_
  refine jT_eq (LN := [(7, (0, 5)), (5, (1, q1)), (0, (4, 0)), (1, (0, r7)), (2, (0, r8)), (3, (4, 1)), (4, (0, o4))]) (stN := [(1, 0), (1, 0), (0, 5), (4, 9)]) (hsN := [jzQ_16, (4, [(4, 13), (1, 1)], []), (8, [(4, 14), (4, 15)], []), jgh, jgh, jgh, jgh, jgh, jgh, (101, [], [q1, -r7, -r8, 0, 0, 0]), (101, [], [k10_0, k10_1, k10_2, k10_3, k10_4, k10_5]), jgh, jgh, (101, [], [0, 0, 0, 0, 0, 0]), jgh, jgh]) rfl rfl rfl ?_
  refine jT_xaload_n (v := (4, 1)) (pcN := 147) jIQ_161_146 rfl rfl rfl ?_
  refine jT_xgetf (a := 1) (t := 2) (ci := 4) (fi := 1) (c := (4, [(4, 13), (1, 1)], [])) (v := (1, 1)) (pcN := 150) jIQ_161_147 rfl rfl rfl rfl rfl rfl rfl ?_
  refine jT_xlmul (x := 0) (y := 1) (z := 0) (pcN := 151) jIQ_161_150 rfl (by decide) rfl ?_
  refine jT_xlsub (x := 0) (y := 0) (z := 0) (pcN := 152) jIQ_161_151 rfl (by decide) rfl ?_
  refine jT_adv 1 (pcN := 153) (LN := [(7, (0, 5)), (5, (1, q1)), (0, (4, 0)), (1, (0, r7)), (2, (0, r8)), (3, (4, 1)), (4, (0, o4))]) (stN := []) (hsN := [jzQ_16, (4, [(4, 13), (1, 1)], []), (8, [(4, 14), (4, 15)], []), jgh, jgh, jgh, jgh, jgh, jgh, (101, [], [q1, -r7, -r8, 0, 0, 0]), (101, [], [k10_0, k10_1, k10_2, k10_3, k10_4, k10_5]), jgh, jgh, (101, [], [0, 0, 0, 0, 0, 0]), jgh, jgh]) (c1 := 0) (s1 := 0) (c2 := 0) (s2 := 0) (by exact rfl) ?_ (by omega) (by omega)
  refine jT_xiinc (x := 5) (z := 6) (LN := [(7, (0, 6)), (5, (1, q1)), (0, (4, 0)), (1, (0, r7)), (2, (0, r8)), (3, (4, 1)), (4, (0, o4))]) (pcN := 156) jIQ_161_153 rfl rfl (by decide) rfl rfl ?_
  refine jT_xgoto (pcN := 119) jIQ_161_156 rfl ?_
  refine jT_xiload (v := (0, 6)) (pcN := 121) jIQ_161_119 rfl rfl rfl ?_
  refine jT_xbipush (k := 6) (pcN := 123) jIQ_161_121 (by decide) rfl ?_
  refine jT_xicT (pcN := 159) jIQ_161_123 rfl (by decide +kernel) rfl ?_
  refine jT_xaload_n (v := (4, 0)) (pcN := 160) jIQ_161_159 rfl rfl rfl ?_
  refine jT_xgetf (a := 0) (t := 1) (ci := 13) (fi := 0) (c := jzQ_16) (v := (4, 2)) (pcN := 163) jIQ_161_160 rfl rfl rfl rfl rfl rfl rfl ?_
  refine jT_xaload_n (v := (4, 0)) (pcN := 164) jIQ_161_163 rfl rfl rfl ?_
  refine jT_xgetf (a := 0) (t := 1) (ci := 13) (fi := 7) (c := jzQ_16) (v := (4, 9)) (pcN := 167) jIQ_161_164 rfl rfl rfl rfl rfl rfl rfl ?_
  refine jT_callA [2, 9, 14, 15] (y := 38) (pcN := 170) (dC := 1) (bc1 := 0) (bc2 := 0) (c1 := 0) (c2 := 0) (as := [(4, 2), (4, 9)]) (asC := [(4, 0), (4, 1)]) (LN := [(7, (0, 6)), (5, (1, q1)), (0, (4, 0)), (1, (0, r7)), (2, (0, r8)), (3, (4, 1)), (4, (0, o4))]) (stN := []) (hsC := [(8, [(4, 2), (4, 3)], []), (101, [], [q1, -r7, -r8, 0, 0, 0]), jgh, jgh]) (ex := []) (v := (0, (-1))) (st2 := [(0, (-1))]) (hs2 := [jzQ_16, (4, [(4, 13), (1, 1)], []), (8, [(4, 14), (4, 15)], []), jgh, jgh, jgh, jgh, jgh, jgh, (101, [], [q1, -r7, -r8, 0, 0, 0]), (101, [], [k10_0, k10_1, k10_2, k10_3, k10_4, k10_5]), jgh, jgh, (101, [], [0, 0, 0, 0, 0, 0]), jgh, jgh]) (jQl_sp38_117 (d := 0) (by omega) (by omega) (by omega) (by omega) (by omega) (by omega) (by omega)) (by rfl) (by rfl) (by rfl) (by rfl) ⟨rfl, rfl, rfl, rfl, trivial⟩ (by rfl) (by rfl) (by omega) (by show 16 ≤ 16; omega) (by omega) (by omega) rfl rfl ?_
  refine jT_xifT (pcN := 177) jIQ_161_170 rfl (by decide +kernel) rfl ?_
  refine jT_xiconst (k := 0) (pcN := 178) jIQ_161_177 rfl ?_
  subst hq_q4
  subst hq_q3
  subst hq_q2
  subst hq_q1
  exact jT_ret rfl (by decide) (by show 16 ≤ 16; omega) (by omega) (by omega) ⟨rfl, rfl, rfl⟩
theorem jQ_161_260 {xs : List Int} {d : Nat} {k10_0 k10_1 k10_2 k10_3 k10_4 k10_5 o4 r7 r8 u9_0 u9_1 u9_2 u9_3 u9_4 u9_5 : Int} (h_k10_0 : 1 ≤ k10_0 ∧ k10_0 ≤ 100) (h_k10_1 : 2 ≤ k10_1 ∧ k10_1 ≤ 158) (h_k10_2 : 2 ≤ k10_2 ∧ k10_2 ≤ 232) (h_k10_3 : 3 ≤ k10_3 ∧ k10_3 ≤ 281) (h_k10_4 : 3 ≤ k10_4 ∧ k10_4 ≤ 346) (h_k10_5 : 4 ≤ k10_5 ∧ k10_5 ≤ 370) (h_o4 : 1 ≤ o4 ∧ o4 ≤ 100) (h_r7 : (-20) ≤ r7 ∧ r7 ≤ 20) (h_r8 : (-10) ≤ r8 ∧ r8 ≤ 10) (g_0 : r7 < 0) (g_1 : 0 ≤ -(((108917793695 * r7 + 159561683699 * r8) / 68719476736) * o4) + (r7 * k10_1) + (r8 * k10_2) - 1) : jT xs (d + 2) 161 15 0 [(0, (4, 0)), (1, (0, r7)), (2, (0, r8)), (3, (4, 1)), (4, (0, o4))] [] [jzQ_16, jgh, (8, [(4, 13), (4, 14)], []), jgh, jgh, jgh, jgh, jgh, jgh, (101, [], [u9_0, u9_1, u9_2, u9_3, u9_4, u9_5]), (101, [], [k10_0, k10_1, k10_2, k10_3, k10_4, k10_5]), jgh, jgh, jgh, jgh] 0 0 (fun k v hsN => k = 0 ∧ v = (0, 0) ∧ hsN = [jzQ_16, jgh, (8, [(4, 13), (4, 14)], []), jgh, jgh, jgh, jgh, jgh, jgh, (101, [], [0, r7, r8, 0, 0, 0]), (101, [], [k10_0, k10_1, k10_2, k10_3, k10_4, k10_5]), jgh, jgh, jgh, jgh]) := by
  refine jT_xiload_n (v := (0, r7)) (pcN := 1) jIQ_161_0 rfl rfl rfl ?_
  refine jT_ifT (a := r7) (t := 10) (by rfl) (by rfl) (by rfl) (jw_idd (by omega) (by omega)) (by simp only [jcP] <;> omega) ?_
  refine jT_xiconst (k := 0) (pcN := 11) jIQ_161_10 rfl ?_
  refine jT_xistore (v := (0, 0)) (LN := [(5, (0, 0)), (0, (4, 0)), (1, (0, r7)), (2, (0, r8)), (3, (4, 1)), (4, (0, o4))]) (pcN := 13) jIQ_161_11 rfl rfl rfl rfl ?_
  refine jT_xiload (v := (0, 0)) (pcN := 15) jIQ_161_13 rfl rfl rfl ?_
  refine jT_xbipush (k := 6) (pcN := 17) jIQ_161_15 (by decide) rfl ?_
  refine jT_xicF (t := 56) (pcN := 20) jIQ_161_17 rfl (by decide +kernel) rfl rfl ?_
  refine jT_xaload_n (v := (4, 0)) (pcN := 21) jIQ_161_20 rfl rfl rfl ?_
  refine jT_xgetf (a := 0) (t := 1) (ci := 13) (fi := 7) (c := jzQ_16) (v := (4, 9)) (pcN := 24) jIQ_161_21 rfl rfl rfl rfl rfl rfl rfl ?_
  refine jT_xiload (v := (0, 0)) (pcN := 26) jIQ_161_24 rfl rfl rfl ?_
  refine jT_xiload (v := (0, 0)) (pcN := 28) jIQ_161_26 rfl rfl rfl ?_
  refine jT_xiconst (k := 1) (pcN := 29) jIQ_161_28 rfl ?_
  refine jT_xicT (pcN := 37) jIQ_161_29 rfl (by decide +kernel) rfl ?_
  refine jT_xiload (v := (0, 0)) (pcN := 39) jIQ_161_37 rfl rfl rfl ?_
  refine jT_xiconst (k := 2) (pcN := 40) jIQ_161_39 rfl ?_
  refine jT_xicT (pcN := 48) jIQ_161_40 rfl (by decide +kernel) rfl ?_
  refine jT_xlconst (z := 0) (pcN := 49) jIQ_161_48 rfl rfl ?_
  refine jT_adv 1 (pcN := 50) (LN := [(5, (0, 0)), (0, (4, 0)), (1, (0, r7)), (2, (0, r8)), (3, (4, 1)), (4, (0, o4))]) (stN := []) (hsN := [jzQ_16, jgh, (8, [(4, 13), (4, 14)], []), jgh, jgh, jgh, jgh, jgh, jgh, (101, [], [0, u9_1, u9_2, u9_3, u9_4, u9_5]), (101, [], [k10_0, k10_1, k10_2, k10_3, k10_4, k10_5]), jgh, jgh, jgh, jgh]) (c1 := 0) (s1 := 0) (c2 := 0) (s2 := 0) (by exact rfl) ?_ (by omega) (by omega)
  refine jT_xiinc (x := 0) (z := 1) (LN := [(5, (0, 1)), (0, (4, 0)), (1, (0, r7)), (2, (0, r8)), (3, (4, 1)), (4, (0, o4))]) (pcN := 53) jIQ_161_50 rfl rfl (by decide) rfl rfl ?_
  refine jT_xgoto (pcN := 13) jIQ_161_53 rfl ?_
  refine jT_xiload (v := (0, 1)) (pcN := 15) jIQ_161_13 rfl rfl rfl ?_
  refine jT_xbipush (k := 6) (pcN := 17) jIQ_161_15 (by decide) rfl ?_
  refine jT_xicF (t := 56) (pcN := 20) jIQ_161_17 rfl (by decide +kernel) rfl rfl ?_
  refine jT_xaload_n (v := (4, 0)) (pcN := 21) jIQ_161_20 rfl rfl rfl ?_
  refine jT_xgetf (a := 0) (t := 1) (ci := 13) (fi := 7) (c := jzQ_16) (v := (4, 9)) (pcN := 24) jIQ_161_21 rfl rfl rfl rfl rfl rfl rfl ?_
  refine jT_xiload (v := (0, 1)) (pcN := 26) jIQ_161_24 rfl rfl rfl ?_
  refine jT_xiload (v := (0, 1)) (pcN := 28) jIQ_161_26 rfl rfl rfl ?_
  refine jT_xiconst (k := 1) (pcN := 29) jIQ_161_28 rfl ?_
  refine jT_xicF (t := 37) (pcN := 32) jIQ_161_29 rfl (by decide +kernel) rfl rfl ?_
  refine jT_xiload_n (v := (0, r7)) (pcN := 33) jIQ_161_32 rfl rfl rfl ?_
  refine jT_xi2l (x := r7) (z := r7) (pcN := 34) jIQ_161_33 rfl (jw_idd (by omega) (by omega)) rfl ?_
  refine jT_xgoto (pcN := 49) jIQ_161_34 rfl ?_
  refine jT_adv 1 (pcN := 50) (LN := [(5, (0, 1)), (0, (4, 0)), (1, (0, r7)), (2, (0, r8)), (3, (4, 1)), (4, (0, o4))]) (stN := []) (hsN := [jzQ_16, jgh, (8, [(4, 13), (4, 14)], []), jgh, jgh, jgh, jgh, jgh, jgh, (101, [], [0, r7, u9_2, u9_3, u9_4, u9_5]), (101, [], [k10_0, k10_1, k10_2, k10_3, k10_4, k10_5]), jgh, jgh, jgh, jgh]) (c1 := 0) (s1 := 0) (c2 := 0) (s2 := 0) (by exact rfl) ?_ (by omega) (by omega)
  refine jT_xiinc (x := 1) (z := 2) (LN := [(5, (0, 2)), (0, (4, 0)), (1, (0, r7)), (2, (0, r8)), (3, (4, 1)), (4, (0, o4))]) (pcN := 53) jIQ_161_50 rfl rfl (by decide) rfl rfl ?_
  refine jT_xgoto (pcN := 13) jIQ_161_53 rfl ?_
  refine jT_xiload (v := (0, 2)) (pcN := 15) jIQ_161_13 rfl rfl rfl ?_
  refine jT_xbipush (k := 6) (pcN := 17) jIQ_161_15 (by decide) rfl ?_
  refine jT_xicF (t := 56) (pcN := 20) jIQ_161_17 rfl (by decide +kernel) rfl rfl ?_
  refine jT_xaload_n (v := (4, 0)) (pcN := 21) jIQ_161_20 rfl rfl rfl ?_
  refine jT_xgetf (a := 0) (t := 1) (ci := 13) (fi := 7) (c := jzQ_16) (v := (4, 9)) (pcN := 24) jIQ_161_21 rfl rfl rfl rfl rfl rfl rfl ?_
  refine jT_xiload (v := (0, 2)) (pcN := 26) jIQ_161_24 rfl rfl rfl ?_
  refine jT_xiload (v := (0, 2)) (pcN := 28) jIQ_161_26 rfl rfl rfl ?_
  refine jT_xiconst (k := 1) (pcN := 29) jIQ_161_28 rfl ?_
  refine jT_xicT (pcN := 37) jIQ_161_29 rfl (by decide +kernel) rfl ?_
  refine jT_xiload (v := (0, 2)) (pcN := 39) jIQ_161_37 rfl rfl rfl ?_
  refine jT_xiconst (k := 2) (pcN := 40) jIQ_161_39 rfl ?_
  refine jT_xicF (t := 48) (pcN := 43) jIQ_161_40 rfl (by decide +kernel) rfl rfl ?_
  refine jT_xiload_n (v := (0, r8)) (pcN := 44) jIQ_161_43 rfl rfl rfl ?_
  refine jT_xi2l (x := r8) (z := r8) (pcN := 45) jIQ_161_44 rfl (jw_idd (by omega) (by omega)) rfl ?_
  refine jT_xgoto (pcN := 49) jIQ_161_45 rfl ?_
  refine jT_adv 1 (pcN := 50) (LN := [(5, (0, 2)), (0, (4, 0)), (1, (0, r7)), (2, (0, r8)), (3, (4, 1)), (4, (0, o4))]) (stN := []) (hsN := [jzQ_16, jgh, (8, [(4, 13), (4, 14)], []), jgh, jgh, jgh, jgh, jgh, jgh, (101, [], [0, r7, r8, u9_3, u9_4, u9_5]), (101, [], [k10_0, k10_1, k10_2, k10_3, k10_4, k10_5]), jgh, jgh, jgh, jgh]) (c1 := 0) (s1 := 0) (c2 := 0) (s2 := 0) (by exact rfl) ?_ (by omega) (by omega)
  refine jT_xiinc (x := 2) (z := 3) (LN := [(5, (0, 3)), (0, (4, 0)), (1, (0, r7)), (2, (0, r8)), (3, (4, 1)), (4, (0, o4))]) (pcN := 53) jIQ_161_50 rfl rfl (by decide) rfl rfl ?_
  refine jT_xgoto (pcN := 13) jIQ_161_53 rfl ?_
  refine jT_xiload (v := (0, 3)) (pcN := 15) jIQ_161_13 rfl rfl rfl ?_
  refine jT_xbipush (k := 6) (pcN := 17) jIQ_161_15 (by decide) rfl ?_
  refine jT_xicF (t := 56) (pcN := 20) jIQ_161_17 rfl (by decide +kernel) rfl rfl ?_
  refine jT_xaload_n (v := (4, 0)) (pcN := 21) jIQ_161_20 rfl rfl rfl ?_
  refine jT_xgetf (a := 0) (t := 1) (ci := 13) (fi := 7) (c := jzQ_16) (v := (4, 9)) (pcN := 24) jIQ_161_21 rfl rfl rfl rfl rfl rfl rfl ?_
  refine jT_xiload (v := (0, 3)) (pcN := 26) jIQ_161_24 rfl rfl rfl ?_
  refine jT_xiload (v := (0, 3)) (pcN := 28) jIQ_161_26 rfl rfl rfl ?_
  refine jT_xiconst (k := 1) (pcN := 29) jIQ_161_28 rfl ?_
  refine jT_xicT (pcN := 37) jIQ_161_29 rfl (by decide +kernel) rfl ?_
  refine jT_xiload (v := (0, 3)) (pcN := 39) jIQ_161_37 rfl rfl rfl ?_
  refine jT_xiconst (k := 2) (pcN := 40) jIQ_161_39 rfl ?_
  refine jT_xicT (pcN := 48) jIQ_161_40 rfl (by decide +kernel) rfl ?_
  refine jT_xlconst (z := 0) (pcN := 49) jIQ_161_48 rfl rfl ?_
  refine jT_adv 1 (pcN := 50) (LN := [(5, (0, 3)), (0, (4, 0)), (1, (0, r7)), (2, (0, r8)), (3, (4, 1)), (4, (0, o4))]) (stN := []) (hsN := [jzQ_16, jgh, (8, [(4, 13), (4, 14)], []), jgh, jgh, jgh, jgh, jgh, jgh, (101, [], [0, r7, r8, 0, u9_4, u9_5]), (101, [], [k10_0, k10_1, k10_2, k10_3, k10_4, k10_5]), jgh, jgh, jgh, jgh]) (c1 := 0) (s1 := 0) (c2 := 0) (s2 := 0) (by exact rfl) ?_ (by omega) (by omega)
  refine jT_xiinc (x := 3) (z := 4) (LN := [(5, (0, 4)), (0, (4, 0)), (1, (0, r7)), (2, (0, r8)), (3, (4, 1)), (4, (0, o4))]) (pcN := 53) jIQ_161_50 rfl rfl (by decide) rfl rfl ?_
  refine jT_xgoto (pcN := 13) jIQ_161_53 rfl ?_
  refine jT_xiload (v := (0, 4)) (pcN := 15) jIQ_161_13 rfl rfl rfl ?_
  refine jT_xbipush (k := 6) (pcN := 17) jIQ_161_15 (by decide) rfl ?_
  refine jT_xicF (t := 56) (pcN := 20) jIQ_161_17 rfl (by decide +kernel) rfl rfl ?_
  refine jT_xaload_n (v := (4, 0)) (pcN := 21) jIQ_161_20 rfl rfl rfl ?_
  refine jT_xgetf (a := 0) (t := 1) (ci := 13) (fi := 7) (c := jzQ_16) (v := (4, 9)) (pcN := 24) jIQ_161_21 rfl rfl rfl rfl rfl rfl rfl ?_
  refine jT_xiload (v := (0, 4)) (pcN := 26) jIQ_161_24 rfl rfl rfl ?_
  refine jT_xiload (v := (0, 4)) (pcN := 28) jIQ_161_26 rfl rfl rfl ?_
  refine jT_xiconst (k := 1) (pcN := 29) jIQ_161_28 rfl ?_
  refine jT_xicT (pcN := 37) jIQ_161_29 rfl (by decide +kernel) rfl ?_
  refine jT_xiload (v := (0, 4)) (pcN := 39) jIQ_161_37 rfl rfl rfl ?_
  refine jT_xiconst (k := 2) (pcN := 40) jIQ_161_39 rfl ?_
  refine jT_xicT (pcN := 48) jIQ_161_40 rfl (by decide +kernel) rfl ?_
  refine jT_xlconst (z := 0) (pcN := 49) jIQ_161_48 rfl rfl ?_
  refine jT_adv 1 (pcN := 50) (LN := [(5, (0, 4)), (0, (4, 0)), (1, (0, r7)), (2, (0, r8)), (3, (4, 1)), (4, (0, o4))]) (stN := []) (hsN := [jzQ_16, jgh, (8, [(4, 13), (4, 14)], []), jgh, jgh, jgh, jgh, jgh, jgh, (101, [], [0, r7, r8, 0, 0, u9_5]), (101, [], [k10_0, k10_1, k10_2, k10_3, k10_4, k10_5]), jgh, jgh, jgh, jgh]) (c1 := 0) (s1 := 0) (c2 := 0) (s2 := 0) (by exact rfl) ?_ (by omega) (by omega)
  refine jT_xiinc (x := 4) (z := 5) (LN := [(5, (0, 5)), (0, (4, 0)), (1, (0, r7)), (2, (0, r8)), (3, (4, 1)), (4, (0, o4))]) (pcN := 53) jIQ_161_50 rfl rfl (by decide) rfl rfl ?_
  refine jT_xgoto (pcN := 13) jIQ_161_53 rfl ?_
  refine jT_xiload (v := (0, 5)) (pcN := 15) jIQ_161_13 rfl rfl rfl ?_
  refine jT_xbipush (k := 6) (pcN := 17) jIQ_161_15 (by decide) rfl ?_
  refine jT_xicF (t := 56) (pcN := 20) jIQ_161_17 rfl (by decide +kernel) rfl rfl ?_
  refine jT_xaload_n (v := (4, 0)) (pcN := 21) jIQ_161_20 rfl rfl rfl ?_
  refine jT_xgetf (a := 0) (t := 1) (ci := 13) (fi := 7) (c := jzQ_16) (v := (4, 9)) (pcN := 24) jIQ_161_21 rfl rfl rfl rfl rfl rfl rfl ?_
  refine jT_xiload (v := (0, 5)) (pcN := 26) jIQ_161_24 rfl rfl rfl ?_
  refine jT_xiload (v := (0, 5)) (pcN := 28) jIQ_161_26 rfl rfl rfl ?_
  refine jT_xiconst (k := 1) (pcN := 29) jIQ_161_28 rfl ?_
  refine jT_xicT (pcN := 37) jIQ_161_29 rfl (by decide +kernel) rfl ?_
  refine jT_xiload (v := (0, 5)) (pcN := 39) jIQ_161_37 rfl rfl rfl ?_
  refine jT_xiconst (k := 2) (pcN := 40) jIQ_161_39 rfl ?_
  refine jT_xicT (pcN := 48) jIQ_161_40 rfl (by decide +kernel) rfl ?_
  refine jT_xlconst (z := 0) (pcN := 49) jIQ_161_48 rfl rfl ?_
  refine jT_adv 1 (pcN := 50) (LN := [(5, (0, 5)), (0, (4, 0)), (1, (0, r7)), (2, (0, r8)), (3, (4, 1)), (4, (0, o4))]) (stN := []) (hsN := [jzQ_16, jgh, (8, [(4, 13), (4, 14)], []), jgh, jgh, jgh, jgh, jgh, jgh, (101, [], [0, r7, r8, 0, 0, 0]), (101, [], [k10_0, k10_1, k10_2, k10_3, k10_4, k10_5]), jgh, jgh, jgh, jgh]) (c1 := 0) (s1 := 0) (c2 := 0) (s2 := 0) (by exact rfl) ?_ (by omega) (by omega)
  refine jT_xiinc (x := 5) (z := 6) (LN := [(5, (0, 6)), (0, (4, 0)), (1, (0, r7)), (2, (0, r8)), (3, (4, 1)), (4, (0, o4))]) (pcN := 53) jIQ_161_50 rfl rfl (by decide) rfl rfl ?_
  refine jT_xgoto (pcN := 13) jIQ_161_53 rfl ?_
  refine jT_xiload (v := (0, 6)) (pcN := 15) jIQ_161_13 rfl rfl rfl ?_
  refine jT_xbipush (k := 6) (pcN := 17) jIQ_161_15 (by decide) rfl ?_
  refine jT_xicT (pcN := 56) jIQ_161_17 rfl (by decide +kernel) rfl ?_
  refine jT_xaload_n (v := (4, 0)) (pcN := 57) jIQ_161_56 rfl rfl rfl ?_
  refine jT_xgetf (a := 0) (t := 1) (ci := 13) (fi := 0) (c := jzQ_16) (v := (4, 2)) (pcN := 60) jIQ_161_57 rfl rfl rfl rfl rfl rfl rfl ?_
  refine jT_xaload_n (v := (4, 0)) (pcN := 61) jIQ_161_60 rfl rfl rfl ?_
  refine jT_xgetf (a := 0) (t := 1) (ci := 13) (fi := 7) (c := jzQ_16) (v := (4, 9)) (pcN := 64) jIQ_161_61 rfl rfl rfl rfl rfl rfl rfl ?_
  refine jT_xlconst (z := 1) (pcN := 65) jIQ_161_64 rfl rfl ?_
  refine jT_xlconst (z := 1) (pcN := 66) jIQ_161_65 rfl rfl ?_
  refine jT_callA [2, 9, 13, 14] (y := 45) (pcN := 69) (dC := 1) (bc1 := 0) (bc2 := 0) (c1 := 0) (c2 := 0) (as := [(4, 2), (4, 9), (1, 1), (1, 1)]) (asC := [(4, 0), (4, 1), (1, 1), (1, 1)]) (LN := [(5, (0, 6)), (0, (4, 0)), (1, (0, r7)), (2, (0, r8)), (3, (4, 1)), (4, (0, o4))]) (stN := []) (hsC := [(8, [(4, 2), (4, 3)], []), (101, [], [0, r7, r8, 0, 0, 0]), jgh, jgh]) (ex := []) (v := (1, (108917793695 * r7 + 159561683699 * r8) / 68719476736)) (st2 := [(1, (108917793695 * r7 + 159561683699 * r8) / 68719476736)]) (hs2 := [jzQ_16, jgh, (8, [(4, 13), (4, 14)], []), jgh, jgh, jgh, jgh, jgh, jgh, (101, [], [0, r7, r8, 0, 0, 0]), (101, [], [k10_0, k10_1, k10_2, k10_3, k10_4, k10_5]), jgh, jgh, jgh, jgh]) (jQl_sp45_116 (d := 0) (by omega) (by omega)) (by rfl) (by rfl) (by rfl) (by rfl) ⟨rfl, rfl, rfl, rfl, trivial⟩ (by rfl) (by rfl) (by omega) (by show 15 ≤ 15; omega) (by omega) (by omega) rfl rfl ?_
  have hb_q1 : (-60) ≤ (108917793695 * r7 + 159561683699 * r8) / 68719476736 ∧ (108917793695 * r7 + 159561683699 * r8) / 68719476736 ≤ 60 := ⟨by omega, by omega⟩
  generalize hq_q1 : (108917793695 * r7 + 159561683699 * r8) / 68719476736 = q1 at hb_q1 g_1 ⊢
  refine jT_xlstore (v := (1, q1)) (LN := [(5, (1, q1)), (0, (4, 0)), (1, (0, r7)), (2, (0, r8)), (3, (4, 1)), (4, (0, o4))]) (pcN := 71) jIQ_161_69 rfl rfl rfl rfl ?_
  have g_2 : 0 ≤ (-68719476736) * q1 + 108917793694 * r7 + 159561683698 * r8 - 1 := by have := jcg (b := r7) (c := r8) (by omega) (by omega) (by omega); rw [hq_q1] at this; omega
  have g_3 : 0 ≤ (-68719476736) * q1 + 108917793694 * r7 + 159561683700 * r8 - 1 := by have := jcg (b := r7) (c := r8) (by omega) (by omega) (by omega); rw [hq_q1] at this; omega
  have g_4 : 0 ≤ (-68719476736) * q1 + 108917793696 * r7 + 159561683698 * r8 - 1 := by have := jcg (b := r7) (c := r8) (by omega) (by omega) (by omega); rw [hq_q1] at this; omega
  have g_5 : 0 ≤ (-68719476736) * q1 + 108917793696 * r7 + 159561683700 * r8 - 1 := by have := jcg (b := r7) (c := r8) (by omega) (by omega) (by omega); rw [hq_q1] at this; omega
  refine jT_xiload (v := (0, o4)) (pcN := 73) jIQ_161_71 rfl rfl rfl ?_
  refine jT_ifF (a := o4) (t := 107) (by rfl) (by rfl) (by rfl) (jw_idd (by omega) (by omega)) (by simp only [jcP] <;> omega) ?_
  refine jT_xiload_n (v := (0, r7)) (pcN := 77) jIQ_161_76 rfl rfl rfl ?_
  refine jT_xi2l (x := r7) (z := r7) (pcN := 78) jIQ_161_77 rfl (jw_idd (by omega) (by omega)) rfl ?_
  refine jT_xaload_n (v := (4, 0)) (pcN := 79) jIQ_161_78 rfl rfl rfl ?_
  refine jT_xgetf (a := 0) (t := 1) (ci := 13) (fi := 8) (c := jzQ_16) (v := (4, 10)) (pcN := 82) jIQ_161_79 rfl rfl rfl rfl rfl rfl rfl ?_
  refine jT_xiconst (k := 1) (pcN := 83) jIQ_161_82 rfl ?_
  refine jT_lald (x := k10_1) (a := 10) (j := 1) (fs := []) (X := [k10_0, k10_1, k10_2, k10_3, k10_4, k10_5]) jIQ_161_83 rfl rfl rfl rfl ?_
  refine jT_eq (LN := [(5, (1, q1)), (0, (4, 0)), (1, (0, r7)), (2, (0, r8)), (3, (4, 1)), (4, (0, o4))]) (stN := [(1, k10_1), (1, r7)]) (hsN := [jzQ_16, jgh, (8, [(4, 13), (4, 14)], []), jgh, jgh, jgh, jgh, jgh, jgh, (101, [], [0, r7, r8, 0, 0, 0]), (101, [], [k10_0, k10_1, k10_2, k10_3, k10_4, k10_5]), jgh, jgh, jgh, jgh]) rfl rfl rfl ?_
  refine jT_xlmul (x := r7) (y := k10_1) (z := r7 * k10_1) (pcN := 85) jIQ_161_84 rfl rfl rfl ?_
  have hb_q2 := jmul_bs (x := r7) (y := k10_1) (m := 20) (n := 158) (by omega) (by omega) (by omega) (by omega)
  have hb_q2 : (-3160) ≤ r7 * k10_1 ∧ r7 * k10_1 ≤ 3160 := ⟨by omega, by omega⟩
  generalize hq_q2 : r7 * k10_1 = q2 at hb_q2 g_1 ⊢
  refine jT_xiload_n (v := (0, r8)) (pcN := 86) jIQ_161_85 rfl rfl rfl ?_
  refine jT_xi2l (x := r8) (z := r8) (pcN := 87) jIQ_161_86 rfl (jw_idd (by omega) (by omega)) rfl ?_
  refine jT_xaload_n (v := (4, 0)) (pcN := 88) jIQ_161_87 rfl rfl rfl ?_
  refine jT_xgetf (a := 0) (t := 1) (ci := 13) (fi := 8) (c := jzQ_16) (v := (4, 10)) (pcN := 91) jIQ_161_88 rfl rfl rfl rfl rfl rfl rfl ?_
  refine jT_xiconst (k := 2) (pcN := 92) jIQ_161_91 rfl ?_
  refine jT_lald (x := k10_2) (a := 10) (j := 2) (fs := []) (X := [k10_0, k10_1, k10_2, k10_3, k10_4, k10_5]) jIQ_161_92 rfl rfl rfl rfl ?_
  refine jT_eq (LN := [(5, (1, q1)), (0, (4, 0)), (1, (0, r7)), (2, (0, r8)), (3, (4, 1)), (4, (0, o4))]) (stN := [(1, k10_2), (1, r8), (1, q2)]) (hsN := [jzQ_16, jgh, (8, [(4, 13), (4, 14)], []), jgh, jgh, jgh, jgh, jgh, jgh, (101, [], [0, r7, r8, 0, 0, 0]), (101, [], [k10_0, k10_1, k10_2, k10_3, k10_4, k10_5]), jgh, jgh, jgh, jgh]) rfl rfl rfl ?_
  refine jT_xlmul (x := r8) (y := k10_2) (z := r8 * k10_2) (pcN := 94) jIQ_161_93 rfl rfl rfl ?_
  have hb_q3 := jmul_bs (x := r8) (y := k10_2) (m := 10) (n := 232) (by omega) (by omega) (by omega) (by omega)
  have hb_q3 : (-2320) ≤ r8 * k10_2 ∧ r8 * k10_2 ≤ 2320 := ⟨by omega, by omega⟩
  generalize hq_q3 : r8 * k10_2 = q3 at hb_q3 g_1 ⊢
  refine jT_xladd (x := q2) (y := q3) (z := q2 + q3) (pcN := 95) jIQ_161_94 rfl (rfl) rfl ?_
  refine jT_xlload (v := (1, q1)) (pcN := 97) jIQ_161_95 rfl rfl rfl ?_
  refine jT_xiload (v := (0, o4)) (pcN := 99) jIQ_161_97 rfl rfl rfl ?_
  refine jT_xi2l (x := o4) (z := o4) (pcN := 100) jIQ_161_99 rfl (jw_idd (by omega) (by omega)) rfl ?_
  refine jT_xlmul (x := q1) (y := o4) (z := q1 * o4) (pcN := 101) jIQ_161_100 rfl rfl rfl ?_
  have hb_q4 := jmul_bs (x := q1) (y := o4) (m := 60) (n := 100) (by omega) (by omega) (by omega) (by omega)
  have hb_q4 : (-6000) ≤ q1 * o4 ∧ q1 * o4 ≤ 6000 := ⟨by omega, by omega⟩
  generalize hq_q4 : q1 * o4 = q4 at hb_q4 g_1 ⊢
  refine jT_lcmp (a := q2 + q3) (b := q4) (z := 1) (by rfl) (by rfl) (jwl_idd (by omega) (by omega)) (jwl_idd (by omega) (by omega)) (by rw [decide_eq_true (show (q4 : Int) < q2 + q3 by omega)]; rfl) ?_
  refine jT_xifF (t := 107) (pcN := 105) jIQ_161_102 rfl (by decide +kernel) rfl rfl ?_
  refine jT_xiconst (k := 0) (pcN := 106) jIQ_161_105 rfl ?_
  subst hq_q4
  subst hq_q3
  subst hq_q2
  subst hq_q1
  exact jT_ret rfl (by decide) (by show 15 ≤ 15; omega) (by omega) (by omega) ⟨rfl, rfl, rfl⟩
theorem jQ_362_261 {xs : List Int} {d : Nat} {x1 x2 x3 x4 : Int} (h_x1 : 0 ≤ x1 ∧ x1 ≤ 20) (h_x2 : 0 ≤ x2 ∧ x2 ≤ 10) (h_x3 : 0 ≤ x3 ∧ x3 ≤ 7) (h_x4 : 1 ≤ x4 ∧ x4 ≤ 100) : jT xs (d + 6) 362 22 0 [(0, (4, 0)), (1, (0, x1)), (2, (0, x2)), (3, (0, x3)), (4, (0, x4)), (5, (4, 1))] [] jpQ_340 2 8 (fun k v hsN => k = 0 ∧ v = (0, 0) ∧ hsN = [jzQ_16, (101, [], [0]), (8, [(4, 13), (4, 14)], []), jgh, jgh, jgh, jgh, jgh, jgh, jgh, (101, [], [(2 * x4 + 1) / 2, (((217835587388 * x4) / 68719476736) + 1) / 2, (((319123367396 * x4) / 68719476736) + 1) / 2, (((385839922510 * x4) / 68719476736) + 1) / 2, (((475460661270 * x4) / 68719476736) + 1) / 2, (((508584562244 * x4) / 68719476736) + 1) / 2]), jgh, jzQ_334, jgh, (101, [], [0, 0, 0, 0, 0, 0]), jzQ_335, jgh, jgh, jgh, jgh, (4, [(4, 21), (1, 1)], []), (101, [], [0, 0, 0, 0, 0, 0]), (101, [], [1, 0, 0, 0, 0, 0]), (4, [(4, 22), (1, 1)], [])]) := by
  refine jT_xaload (v := (4, 1)) (pcN := 2) jIQ_362_0 rfl rfl rfl ?_
  refine jT_xiconst (k := 0) (pcN := 3) jIQ_362_2 rfl ?_
  refine jT_xaload_n (v := (4, 0)) (pcN := 4) jIQ_362_3 rfl rfl rfl ?_
  refine jT_xiload_n (v := (0, x1)) (pcN := 5) jIQ_362_4 rfl rfl rfl ?_
  refine jT_xiload_n (v := (0, x2)) (pcN := 6) jIQ_362_5 rfl rfl rfl ?_
  refine jT_xiload_n (v := (0, x3)) (pcN := 7) jIQ_362_6 rfl rfl rfl ?_
  refine jT_xiload (v := (0, x4)) (pcN := 9) jIQ_362_7 rfl rfl rfl ?_
  refine jT_fB [0, 2, 3, 4, 5, 6, 7, 8, 9, 10, 11, 12, 13, 14, 15, 16, 17, 18, 19, 20, 21] 22 (y := 160) (pcN := 12) (dC := 5) (bc1 := 2) (bc2 := 8) (c1 := 0) (c2 := 0) (as := [(4, 0), (0, x1), (0, x2), (0, x3), (0, x4)]) (asC := [(4, 0), (0, x1), (0, x2), (0, x3), (0, x4)]) (LN := [(0, (4, 0)), (1, (0, x1)), (2, (0, x2)), (3, (0, x3)), (4, (0, x4)), (5, (4, 1))]) (stN := [(0, 0), (4, 1)]) (hsC := jpQ_333) (hsD := [jzQ_7, (8, [(4, 12), (4, 13)], []), jgh, jgh, jgh, jgh, jgh, jgh, jgh, (101, [], [(2 * x4 + 1) / 2, (((217835587388 * x4) / 68719476736) + 1) / 2, (((319123367396 * x4) / 68719476736) + 1) / 2, (((385839922510 * x4) / 68719476736) + 1) / 2, (((475460661270 * x4) / 68719476736) + 1) / 2, (((508584562244 * x4) / 68719476736) + 1) / 2]), jgh, jzQ_296, jgh, (101, [], [0, 0, 0, 0, 0, 0]), jzQ_297, jgh, jgh, jgh, jgh, (4, [(4, 20), (1, 1)], []), (101, [], [0, 0, 0, 0, 0, 0]), (101, [], [1, 0, 0, 0, 0, 0]), (4, [(4, 21), (1, 1)], [])]) (v := (0, 0)) (st2 := [(0, 0), (0, 0), (4, 1)]) (hs2 := [jzQ_16, (101, [], [0]), (8, [(4, 13), (4, 14)], []), jgh, jgh, jgh, jgh, jgh, jgh, jgh, (101, [], [(2 * x4 + 1) / 2, (((217835587388 * x4) / 68719476736) + 1) / 2, (((319123367396 * x4) / 68719476736) + 1) / 2, (((385839922510 * x4) / 68719476736) + 1) / 2, (((475460661270 * x4) / 68719476736) + 1) / 2, (((508584562244 * x4) / 68719476736) + 1) / 2]), jgh, jzQ_334, jgh, (101, [], [0, 0, 0, 0, 0, 0]), jzQ_335, jgh, jgh, jgh, jgh, (4, [(4, 21), (1, 1)], []), (101, [], [0, 0, 0, 0, 0, 0]), (101, [], [1, 0, 0, 0, 0, 0]), (4, [(4, 22), (1, 1)], [])]) (jQ_160_248 (d := 0) (by omega) (by omega) (by omega) (by omega)) (by rfl) (by rfl) (by decide +kernel) (by rfl) (by rfl) (by omega) (by omega) (by omega) (by omega) rfl rfl ?_
  have hb_q1 : 1 ≤ (2 * x4 + 1) / 2 ∧ (2 * x4 + 1) / 2 ≤ 100 := ⟨by omega, by omega⟩
  generalize hq_q1 : (2 * x4 + 1) / 2 = q1 at hb_q1 ⊢
  have hb_q2 : 2 ≤ (((217835587388 * x4) / 68719476736) + 1) / 2 ∧ (((217835587388 * x4) / 68719476736) + 1) / 2 ≤ 158 := ⟨by omega, by omega⟩
  generalize hq_q2 : (((217835587388 * x4) / 68719476736) + 1) / 2 = q2 at hb_q2 ⊢
  have hb_q3 : 2 ≤ (((319123367396 * x4) / 68719476736) + 1) / 2 ∧ (((319123367396 * x4) / 68719476736) + 1) / 2 ≤ 232 := ⟨by omega, by omega⟩
  generalize hq_q3 : (((319123367396 * x4) / 68719476736) + 1) / 2 = q3 at hb_q3 ⊢
  have hb_q4 : 3 ≤ (((385839922510 * x4) / 68719476736) + 1) / 2 ∧ (((385839922510 * x4) / 68719476736) + 1) / 2 ≤ 281 := ⟨by omega, by omega⟩
  generalize hq_q4 : (((385839922510 * x4) / 68719476736) + 1) / 2 = q4 at hb_q4 ⊢
  have hb_q5 : 3 ≤ (((475460661270 * x4) / 68719476736) + 1) / 2 ∧ (((475460661270 * x4) / 68719476736) + 1) / 2 ≤ 346 := ⟨by omega, by omega⟩
  generalize hq_q5 : (((475460661270 * x4) / 68719476736) + 1) / 2 = q5 at hb_q5 ⊢
  have hb_q6 : 4 ≤ (((508584562244 * x4) / 68719476736) + 1) / 2 ∧ (((508584562244 * x4) / 68719476736) + 1) / 2 ≤ 370 := ⟨by omega, by omega⟩
  generalize hq_q6 : (((508584562244 * x4) / 68719476736) + 1) / 2 = q6 at hb_q6 ⊢
  refine jT_xi2l (x := 0) (z := 0) (pcN := 13) jIQ_362_12 rfl (by decide +kernel) rfl ?_
  refine jT_adv 1 (pcN := 14) (LN := [(0, (4, 0)), (1, (0, x1)), (2, (0, x2)), (3, (0, x3)), (4, (0, x4)), (5, (4, 1))]) (stN := []) (hsN := [jzQ_16, (101, [], [0]), (8, [(4, 13), (4, 14)], []), jgh, jgh, jgh, jgh, jgh, jgh, jgh, (101, [], [q1, q2, q3, q4, q5, q6]), jgh, jzQ_334, jgh, (101, [], [0, 0, 0, 0, 0, 0]), jzQ_335, jgh, jgh, jgh, jgh, (4, [(4, 21), (1, 1)], []), (101, [], [0, 0, 0, 0, 0, 0]), (101, [], [1, 0, 0, 0, 0, 0]), (4, [(4, 22), (1, 1)], [])]) (c1 := 0) (s1 := 0) (c2 := 0) (s2 := 0) (by exact rfl) ?_ (by omega) (by omega)
  refine jT_xgoto (pcN := 29) jIQ_362_14 rfl ?_
  refine jT_xiconst (k := 0) (pcN := 30) jIQ_362_29 rfl ?_
  subst hq_q6
  subst hq_q5
  subst hq_q4
  subst hq_q3
  subst hq_q2
  subst hq_q1
  exact jT_ret rfl (by decide) (by show 22 ≤ 24; omega) (by omega) (by omega) ⟨rfl, rfl, rfl⟩
theorem jIQ_216_0 : jmI (jm 216) 0 = (.bipush 6, 2) := by rfl
theorem jIQ_216_4 : jmI (jm 216) 4 = (.astore 4, 2) := by rfl
theorem jIQ_216_6 : jmI (jm 216) 6 = (.iconst 0, 1) := by rfl
theorem jIQ_216_7 : jmI (jm 216) 7 = (.istore 5, 2) := by rfl
theorem jIQ_216_9 : jmI (jm 216) 9 = (.iload 5, 2) := by rfl
theorem jIQ_216_11 : jmI (jm 216) 11 = (.bipush 6, 2) := by rfl
theorem jIQ_216_13 : jmI (jm 216) 13 = (.if_icmp .ge 22, 3) := by rfl
theorem jIQ_216_16 : jmI (jm 216) 16 = (.aload 4, 2) := by rfl
theorem jIQ_216_18 : jmI (jm 216) 18 = (.iload 5, 2) := by rfl
theorem jIQ_216_23 : jmI (jm 216) 23 = (.aload_n 1, 1) := by rfl
theorem jIQ_216_24 : jmI (jm 216) 24 = (.iload 5, 2) := by rfl
theorem jIQ_216_26 : jmI (jm 216) 26 = (.laload, 1) := by rfl
theorem jIQ_216_27 : jmI (jm 216) 27 = (.lmul, 1) := by rfl
theorem jIQ_216_29 : jmI (jm 216) 29 = (.iinc 5 1, 3) := by rfl
theorem jIQ_216_32 : jmI (jm 216) 32 = (.goto (-23), 3) := by rfl
theorem jIQ_216_35 : jmI (jm 216) 35 = (.aload 4, 2) := by rfl
theorem jIQ_216_37 : jmI (jm 216) 37 = (.iconst 0, 1) := by rfl
theorem jIQ_216_39 : jmI (jm 216) 39 = (.laload, 1) := by rfl
theorem jIQ_216_40 : jmI (jm 216) 40 = (.lload_n 2, 1) := by rfl
theorem jIQ_216_41 : jmI (jm 216) 41 = (.ladd, 1) := by rfl
theorem jIQ_216_43 : jmI (jm 216) 43 = (.aload_n 0, 1) := by rfl
theorem jIQ_216_44 : jmI (jm 216) 44 = (.aload 4, 2) := by rfl
theorem jIQ_216_49 : jmI (jm 216) 49 = (.lload_n 2, 1) := by rfl
theorem jIQ_216_50 : jmI (jm 216) 50 = (.lmul, 1) := by rfl
theorem jQl_ro_262 {xs : List Int} {d : Nat} {x4 : Int} (h_x4 : 1 ≤ x4 ∧ x4 ≤ 100) {d1 d2 d3 d4 d5 d6 : Int} (fd1 : ((FP.l2d (Int64.ofInt (2 * x4 + 1))).toNat : Int) = d1) (fd2 : jn64 (FP.dadd (ju64 d1) (ju64 0)) = true ∧ ((FP.dadd (ju64 d1) (ju64 0)).toNat : Int) = d2) (fd3 : jn64 (FP.dadd (ju64 d2) (ju64 0)) = true ∧ ((FP.dadd (ju64 d2) (ju64 0)).toNat : Int) = d3) (fd4 : jn64 (FP.dadd (ju64 d3) (ju64 0)) = true ∧ ((FP.dadd (ju64 d3) (ju64 0)).toNat : Int) = d4) (fd5 : jn64 (FP.dadd (ju64 d4) (ju64 0)) = true ∧ ((FP.dadd (ju64 d4) (ju64 0)).toNat : Int) = d5) (fd6 : jn64 (FP.dadd (ju64 d5) (ju64 0)) = true ∧ ((FP.dadd (ju64 d5) (ju64 0)).toNat : Int) = d6) : jT xs d 211 1 0 [(0, (4, 0))] [] [(101, [], [2 * x4 + 1, 0, 0, 0, 0, 0])] 0 0 (fun k v hsN => k = 0 ∧ v = (3, d6) ∧ hsN = [(101, [], [2 * x4 + 1, 0, 0, 0, 0, 0])]) := by
  refine jT_xaload_n (v := (4, 0)) (pcN := 1) jIQ_211_0 rfl rfl rfl ?_
  refine jT_xiconst (k := 0) (pcN := 2) jIQ_211_1 rfl ?_
  refine jT_lald (x := 2 * x4 + 1) (a := 0) (j := 0) (fs := []) (X := [2 * x4 + 1, 0, 0, 0, 0, 0]) jIQ_211_2 rfl rfl rfl rfl ?_
  refine jT_eq (LN := [(0, (4, 0))]) (stN := [(1, 2 * x4 + 1)]) (hsN := [(101, [], [2 * x4 + 1, 0, 0, 0, 0, 0])]) rfl rfl rfl ?_
  refine jT_l2d (x := 2 * x4 + 1) (z := d1) (by rfl) (by rfl) fd1 ?_
  refine jT_adv 1 (pcN := 7) (LN := [(0, (4, 0))]) (stN := [(3, 4609816855700290920), (3, d1)]) (hsN := [(101, [], [2 * x4 + 1, 0, 0, 0, 0, 0])]) (c1 := 0) (s1 := 0) (c2 := 0) (s2 := 0) (by exact rfl) ?_ (by omega) (by omega)
  refine jT_xaload_n (v := (4, 0)) (pcN := 8) jIQ_211_7 rfl rfl rfl ?_
  refine jT_xiconst (k := 1) (pcN := 9) jIQ_211_8 rfl ?_
  refine jT_lald (x := 0) (a := 0) (j := 1) (fs := []) (X := [2 * x4 + 1, 0, 0, 0, 0, 0]) jIQ_211_9 rfl rfl rfl rfl ?_
  refine jT_eq (LN := [(0, (4, 0))]) (stN := [(1, 0), (3, 4609816855700290920), (3, d1)]) (hsN := [(101, [], [2 * x4 + 1, 0, 0, 0, 0, 0])]) rfl rfl rfl ?_
  refine jT_l2d (x := 0) (z := 0) (by rfl) (by rfl) (by decide +kernel) ?_
  refine jT_dmul (x := 4609816855700290920) (y := 0) (z := 0) (by rfl) (by rfl) (by decide +kernel) ?_
  refine jT_dadd (x := d1) (y := 0) (z := d2) (by rfl) (by rfl) fd2 ?_
  refine jT_adv 1 (pcN := 16) (LN := [(0, (4, 0))]) (stN := [(3, 4612410936051475313), (3, d2)]) (hsN := [(101, [], [2 * x4 + 1, 0, 0, 0, 0, 0])]) (c1 := 0) (s1 := 0) (c2 := 0) (s2 := 0) (by exact rfl) ?_ (by omega) (by omega)
  refine jT_xaload_n (v := (4, 0)) (pcN := 17) jIQ_211_16 rfl rfl rfl ?_
  refine jT_xiconst (k := 2) (pcN := 18) jIQ_211_17 rfl ?_
  refine jT_lald (x := 0) (a := 0) (j := 2) (fs := []) (X := [2 * x4 + 1, 0, 0, 0, 0, 0]) jIQ_211_18 rfl rfl rfl rfl ?_
  refine jT_eq (LN := [(0, (4, 0))]) (stN := [(1, 0), (3, 4612410936051475313), (3, d2)]) (hsN := [(101, [], [2 * x4 + 1, 0, 0, 0, 0, 0])]) rfl rfl rfl ?_
  refine jT_l2d (x := 0) (z := 0) (by rfl) (by rfl) (by decide +kernel) ?_
  refine jT_dmul (x := 4612410936051475313) (y := 0) (z := 0) (by rfl) (by rfl) (by decide +kernel) ?_
  refine jT_dadd (x := d2) (y := 0) (z := d3) (by rfl) (by rfl) fd3 ?_
  refine jT_adv 1 (pcN := 25) (LN := [(0, (4, 0))]) (stN := [(3, 4613504020090455085), (3, d3)]) (hsN := [(101, [], [2 * x4 + 1, 0, 0, 0, 0, 0])]) (c1 := 0) (s1 := 0) (c2 := 0) (s2 := 0) (by exact rfl) ?_ (by omega) (by omega)
  refine jT_xaload_n (v := (4, 0)) (pcN := 26) jIQ_211_25 rfl rfl rfl ?_
  refine jT_xiconst (k := 3) (pcN := 27) jIQ_211_26 rfl ?_
  refine jT_lald (x := 0) (a := 0) (j := 3) (fs := []) (X := [2 * x4 + 1, 0, 0, 0, 0, 0]) jIQ_211_27 rfl rfl rfl rfl ?_
  refine jT_eq (LN := [(0, (4, 0))]) (stN := [(1, 0), (3, 4613504020090455085), (3, d3)]) (hsN := [(101, [], [2 * x4 + 1, 0, 0, 0, 0, 0])]) rfl rfl rfl ?_
  refine jT_l2d (x := 0) (z := 0) (by rfl) (by rfl) (by decide +kernel) ?_
  refine jT_dmul (x := 4613504020090455085) (y := 0) (z := 0) (by rfl) (by rfl) (by decide +kernel) ?_
  refine jT_dadd (x := d3) (y := 0) (z := d4) (by rfl) (by rfl) fd4 ?_
  refine jT_adv 1 (pcN := 34) (LN := [(0, (4, 0))]) (stN := [(3, 4614972366274321729), (3, d4)]) (hsN := [(101, [], [2 * x4 + 1, 0, 0, 0, 0, 0])]) (c1 := 0) (s1 := 0) (c2 := 0) (s2 := 0) (by exact rfl) ?_ (by omega) (by omega)
  refine jT_xaload_n (v := (4, 0)) (pcN := 35) jIQ_211_34 rfl rfl rfl ?_
  refine jT_xiconst (k := 4) (pcN := 36) jIQ_211_35 rfl ?_
  refine jT_lald (x := 0) (a := 0) (j := 4) (fs := []) (X := [2 * x4 + 1, 0, 0, 0, 0, 0]) jIQ_211_36 rfl rfl rfl rfl ?_
  refine jT_eq (LN := [(0, (4, 0))]) (stN := [(1, 0), (3, 4614972366274321729), (3, d4)]) (hsN := [(101, [], [2 * x4 + 1, 0, 0, 0, 0, 0])]) rfl rfl rfl ?_
  refine jT_l2d (x := 0) (z := 0) (by rfl) (by rfl) (by decide +kernel) ?_
  refine jT_dmul (x := 4614972366274321729) (y := 0) (z := 0) (by rfl) (by rfl) (by decide +kernel) ?_
  refine jT_dadd (x := d4) (y := 0) (z := d5) (by rfl) (by rfl) fd5 ?_
  refine jT_adv 1 (pcN := 43) (LN := [(0, (4, 0))]) (stN := [(3, 4615515068267881011), (3, d5)]) (hsN := [(101, [], [2 * x4 + 1, 0, 0, 0, 0, 0])]) (c1 := 0) (s1 := 0) (c2 := 0) (s2 := 0) (by exact rfl) ?_ (by omega) (by omega)
  refine jT_xaload_n (v := (4, 0)) (pcN := 44) jIQ_211_43 rfl rfl rfl ?_
  refine jT_xiconst (k := 5) (pcN := 45) jIQ_211_44 rfl ?_
  refine jT_lald (x := 0) (a := 0) (j := 5) (fs := []) (X := [2 * x4 + 1, 0, 0, 0, 0, 0]) jIQ_211_45 rfl rfl rfl rfl ?_
  refine jT_eq (LN := [(0, (4, 0))]) (stN := [(1, 0), (3, 4615515068267881011), (3, d5)]) (hsN := [(101, [], [2 * x4 + 1, 0, 0, 0, 0, 0])]) rfl rfl rfl ?_
  refine jT_l2d (x := 0) (z := 0) (by rfl) (by rfl) (by decide +kernel) ?_
  refine jT_dmul (x := 4615515068267881011) (y := 0) (z := 0) (by rfl) (by rfl) (by decide +kernel) ?_
  refine jT_dadd (x := d5) (y := 0) (z := d6) (by rfl) (by rfl) fd6 ?_
  exact jT_ret rfl (by decide) (by show 1 ≤ 1; decide) (by omega) (by omega) ⟨rfl, rfl, rfl⟩
theorem jQ_212_264 {xs : List Int} {d : Nat} {N x4 : Int} (h_N : (-1099511627776) ≤ N ∧ N ≤ 1099511627776) (h_x4 : 1 ≤ x4 ∧ x4 ≤ 100) : jT xs (d + 4) 212 23 0 [(0, (4, 0)), (1, (4, 1)), (2, (1, 2 * N + 2))] [] [jzQ_371, (101, [], [2 * x4 + 1, 0, 0, 0, 0, 0]), jgh, jgh, jgh, jgh, jgh, (130, [], [17, 18, 19, 20, 21, 22]), jgh, jgh, jgh, jgh, jgh, jgh, jgh, jgh, jgh, (100, [], (jenc (jlg 0))), (100, [], (jenc (jlg 1))), (100, [], (jenc (jlg 2))), (100, [], (jenc (jlg 3))), (100, [], (jenc (jlg 4))), (100, [], (jenc (jlg 5)))] 20 1070 (fun k v hsN => k = 0 ∧ v = (0, (jlz ((-2) * N + 2 * x4 - 1) 0 0 0 0 0).sign) ∧ hsN = [jzQ_371, (101, [], [2 * x4 + 1, 0, 0, 0, 0, 0]), jgh, jgh, jgh, jgh, jgh, (130, [], [17, 18, 19, 20, 21, 22]), jgh, jgh, jgh, jgh, jgh, jgh, jgh, jgh, jgh, (100, [], (jenc (jlg 0))), (100, [], (jenc (jlg 1))), (100, [], (jenc (jlg 2))), (100, [], (jenc (jlg 3))), (100, [], (jenc (jlg 4))), (100, [], (jenc (jlg 5)))] ++ []) := by
  refine jT_xbipush (k := 6) (pcN := 2) jIQ_212_0 (by decide) rfl ?_
  refine jT_adv 1 (pcN := 4) (LN := [(0, (4, 0)), (1, (4, 1)), (2, (1, 2 * N + 2))]) (stN := [(4, 23)]) (hsN := [jzQ_371, (101, [], [2 * x4 + 1, 0, 0, 0, 0, 0]), jgh, jgh, jgh, jgh, jgh, (130, [], [17, 18, 19, 20, 21, 22]), jgh, jgh, jgh, jgh, jgh, jgh, jgh, jgh, jgh, (100, [], (jenc (jlg 0))), (100, [], (jenc (jlg 1))), (100, [], (jenc (jlg 2))), (100, [], (jenc (jlg 3))), (100, [], (jenc (jlg 4))), (100, [], (jenc (jlg 5))), (101, [], [0, 0, 0, 0, 0, 0])]) (c1 := 1) (s1 := 6) (c2 := 19) (s2 := 1064) (by exact rfl) ?_ (by omega) (by omega)
  refine jT_xastore (v := (4, 23)) (LN := [(4, (4, 23)), (0, (4, 0)), (1, (4, 1)), (2, (1, 2 * N + 2))]) (pcN := 6) jIQ_212_4 rfl rfl rfl rfl ?_
  refine jT_xaload_n (v := (4, 1)) (pcN := 7) jIQ_212_6 rfl rfl rfl ?_
  refine jT_xiconst (k := 0) (pcN := 8) jIQ_212_7 rfl ?_
  refine jT_xaload (v := (4, 23)) (pcN := 10) jIQ_212_8 rfl rfl rfl ?_
  refine jT_xiconst (k := 0) (pcN := 11) jIQ_212_10 rfl ?_
  refine jT_xbipush (k := 6) (pcN := 13) jIQ_212_11 (by decide) rfl ?_
  refine jT_adv 1 (pcN := 16) (LN := [(4, (4, 23)), (0, (4, 0)), (1, (4, 1)), (2, (1, 2 * N + 2))]) (stN := []) (hsN := [jzQ_371, (101, [], [2 * x4 + 1, 0, 0, 0, 0, 0]), jgh, jgh, jgh, jgh, jgh, (130, [], [17, 18, 19, 20, 21, 22]), jgh, jgh, jgh, jgh, jgh, jgh, jgh, jgh, jgh, (100, [], (jenc (jlg 0))), (100, [], (jenc (jlg 1))), (100, [], (jenc (jlg 2))), (100, [], (jenc (jlg 3))), (100, [], (jenc (jlg 4))), (100, [], (jenc (jlg 5))), (101, [], [2 * x4 + 1, 0, 0, 0, 0, 0])]) (c1 := 0) (s1 := 0) (c2 := 19) (s2 := 1064) (by exact rfl) ?_ (by omega) (by omega)
  refine jT_xaload (v := (4, 23)) (pcN := 18) jIQ_212_16 rfl rfl rfl ?_
  refine jT_xiconst (k := 0) (pcN := 19) jIQ_212_18 rfl ?_
  refine jT_adv 1 (pcN := 20) (LN := [(4, (4, 23)), (0, (4, 0)), (1, (4, 1)), (2, (1, 2 * N + 2))]) (stN := [(0, 0), (4, 23), (0, 0), (4, 23)]) (hsN := [jzQ_371, (101, [], [2 * x4 + 1, 0, 0, 0, 0, 0]), jgh, jgh, jgh, jgh, jgh, (130, [], [17, 18, 19, 20, 21, 22]), jgh, jgh, jgh, jgh, jgh, jgh, jgh, jgh, jgh, (100, [], (jenc (jlg 0))), (100, [], (jenc (jlg 1))), (100, [], (jenc (jlg 2))), (100, [], (jenc (jlg 3))), (100, [], (jenc (jlg 4))), (100, [], (jenc (jlg 5))), (101, [], [2 * x4 + 1, 0, 0, 0, 0, 0])]) (c1 := 0) (s1 := 0) (c2 := 19) (s2 := 1064) (by exact rfl) ?_ (by omega) (by omega)
  refine jT_lald (x := 2 * x4 + 1) (a := 23) (j := 0) (fs := []) (X := [2 * x4 + 1, 0, 0, 0, 0, 0]) jIQ_212_20 rfl rfl rfl rfl ?_
  refine jT_eq (LN := [(4, (4, 23)), (0, (4, 0)), (1, (4, 1)), (2, (1, 2 * N + 2))]) (stN := [(1, 2 * x4 + 1), (0, 0), (4, 23)]) (hsN := [jzQ_371, (101, [], [2 * x4 + 1, 0, 0, 0, 0, 0]), jgh, jgh, jgh, jgh, jgh, (130, [], [17, 18, 19, 20, 21, 22]), jgh, jgh, jgh, jgh, jgh, jgh, jgh, jgh, jgh, (100, [], (jenc (jlg 0))), (100, [], (jenc (jlg 1))), (100, [], (jenc (jlg 2))), (100, [], (jenc (jlg 3))), (100, [], (jenc (jlg 4))), (100, [], (jenc (jlg 5))), (101, [], [2 * x4 + 1, 0, 0, 0, 0, 0])]) rfl rfl rfl ?_
  refine jT_xlload_n (v := (1, 2 * N + 2)) (pcN := 22) jIQ_212_21 rfl rfl rfl ?_
  refine jT_xlsub (x := 2 * x4 + 1) (y := 2 * N + 2) (z := (-2) * N + 2 * x4 - 1) (pcN := 23) jIQ_212_22 rfl (by omega) rfl ?_
  refine jT_adv 1 (pcN := 24) (LN := [(4, (4, 23)), (0, (4, 0)), (1, (4, 1)), (2, (1, 2 * N + 2))]) (stN := []) (hsN := [jzQ_371, (101, [], [2 * x4 + 1, 0, 0, 0, 0, 0]), jgh, jgh, jgh, jgh, jgh, (130, [], [17, 18, 19, 20, 21, 22]), jgh, jgh, jgh, jgh, jgh, jgh, jgh, jgh, jgh, (100, [], (jenc (jlg 0))), (100, [], (jenc (jlg 1))), (100, [], (jenc (jlg 2))), (100, [], (jenc (jlg 3))), (100, [], (jenc (jlg 4))), (100, [], (jenc (jlg 5))), (101, [], [(-2) * N + 2 * x4 - 1, 0, 0, 0, 0, 0])]) (c1 := 0) (s1 := 0) (c2 := 19) (s2 := 1064) (by exact rfl) ?_ (by omega) (by omega)
  refine jT_xaload_n (v := (4, 0)) (pcN := 25) jIQ_212_24 rfl rfl rfl ?_
  refine jT_xaload (v := (4, 23)) (pcN := 27) jIQ_212_25 rfl rfl rfl ?_
  refine jT_callA [0, 23, 2, 3, 4, 5, 6, 7, 8, 9, 10, 11, 12, 13, 14, 15, 16, 17, 18, 19, 20, 21, 22] (y := 213) (pcN := 30) (dC := 3) (bc1 := 19) (bc2 := 1064) (c1 := 0) (c2 := 0) (as := [(4, 0), (4, 23)]) (asC := [(4, 0), (4, 1)]) (LN := [(4, (4, 23)), (0, (4, 0)), (1, (4, 1)), (2, (1, 2 * N + 2))]) (stN := []) (hsC := [jzQ_371, (101, [], [(-2) * N + 2 * x4 - 1, 0, 0, 0, 0, 0]), jgh, jgh, jgh, jgh, jgh, (130, [], [17, 18, 19, 20, 21, 22]), jgh, jgh, jgh, jgh, jgh, jgh, jgh, jgh, jgh, (100, [], (jenc (jlg 0))), (100, [], (jenc (jlg 1))), (100, [], (jenc (jlg 2))), (100, [], (jenc (jlg 3))), (100, [], (jenc (jlg 4))), (100, [], (jenc (jlg 5)))]) (ex := []) (v := (0, (jlz ((-2) * N + 2 * x4 - 1) 0 0 0 0 0).sign)) (st2 := [(0, (jlz ((-2) * N + 2 * x4 - 1) 0 0 0 0 0).sign)]) (hs2 := [jzQ_371, (101, [], [2 * x4 + 1, 0, 0, 0, 0, 0]), jgh, jgh, jgh, jgh, jgh, (130, [], [17, 18, 19, 20, 21, 22]), jgh, jgh, jgh, jgh, jgh, jgh, jgh, jgh, jgh, (100, [], (jenc (jlg 0))), (100, [], (jenc (jlg 1))), (100, [], (jenc (jlg 2))), (100, [], (jenc (jlg 3))), (100, [], (jenc (jlg 4))), (100, [], (jenc (jlg 5))), (101, [], [(-2) * N + 2 * x4 - 1, 0, 0, 0, 0, 0])]) (jQl_sg_148 (d := 0) (e0 := (-2) * N + 2 * x4 - 1) (e1 := 0) (e2 := 0) (e3 := 0) (e4 := 0) (e5 := 0) (by omega) (by omega) (by omega) (by omega) (by omega) (by omega)) (by rfl) (by rfl) (by rfl) (by rfl) ⟨rfl, rfl, rfl, rfl, rfl, rfl, rfl, rfl, rfl, rfl, rfl, rfl, rfl, rfl, rfl, rfl, rfl, rfl, rfl, rfl, rfl, rfl, rfl, trivial⟩ (by rfl) (by rfl) (by omega) (by show 23 ≤ 24; omega) (by omega) (by omega) rfl rfl ?_
  have hb_q1 := jsgn_b (jlz ((-2) * N + 2 * x4 - 1) 0 0 0 0 0)
  generalize hq_q1 : (jlz ((-2) * N + 2 * x4 - 1) 0 0 0 0 0).sign = q1 at hb_q1 ⊢
  refine jT_loc (LN := [(0, (4, 0))]) (by show List.Nodup [0]; decide) (by intro q hq; simp only [List.mem_cons, List.not_mem_nil, or_false] at hq; rcases hq with rfl <;> rfl) ?_
  refine jT_drop 23 (hs0 := [jzQ_371, (101, [], [2 * x4 + 1, 0, 0, 0, 0, 0]), jgh, jgh, jgh, jgh, jgh, (130, [], [17, 18, 19, 20, 21, 22]), jgh, jgh, jgh, jgh, jgh, jgh, jgh, jgh, jgh, (100, [], (jenc (jlg 0))), (100, [], (jenc (jlg 1))), (100, [], (jenc (jlg 2))), (100, [], (jenc (jlg 3))), (100, [], (jenc (jlg 4))), (100, [], (jenc (jlg 5)))]) (ex := [(101, [], [(-2) * N + 2 * x4 - 1, 0, 0, 0, 0, 0])]) rfl rfl rfl (by decide) ?_
  subst hq_q1
  exact jT_ret rfl (by decide) (by show 23 ≤ 23; omega) (by omega) (by omega) ⟨rfl, rfl, rfl⟩
theorem jQ_212_265 {xs : List Int} {d : Nat} {N x4 : Int} (h_N : (-1099511627776) ≤ N ∧ N ≤ 1099511627776) (h_x4 : 1 ≤ x4 ∧ x4 ≤ 100) (g_0 : (jlz ((-2) * N + 2 * x4 - 1) 0 0 0 0 0).sign < 0) : jT xs (d + 4) 212 23 0 [(0, (4, 0)), (1, (4, 1)), (2, (1, 2 * N + 2))] [] [jzQ_371, (101, [], [2 * x4 + 1, 0, 0, 0, 0, 0]), jgh, jgh, jgh, jgh, jgh, (130, [], [17, 18, 19, 20, 21, 22]), jgh, jgh, jgh, jgh, jgh, jgh, jgh, jgh, jgh, (100, [], (jenc (jlg 0))), (100, [], (jenc (jlg 1))), (100, [], (jenc (jlg 2))), (100, [], (jenc (jlg 3))), (100, [], (jenc (jlg 4))), (100, [], (jenc (jlg 5)))] 20 1070 (fun k v hsN => k = 0 ∧ v = (0, (jlz ((-2) * N + 2 * x4 - 1) 0 0 0 0 0).sign) ∧ hsN = [jzQ_371, (101, [], [2 * x4 + 1, 0, 0, 0, 0, 0]), jgh, jgh, jgh, jgh, jgh, (130, [], [17, 18, 19, 20, 21, 22]), jgh, jgh, jgh, jgh, jgh, jgh, jgh, jgh, jgh, (100, [], (jenc (jlg 0))), (100, [], (jenc (jlg 1))), (100, [], (jenc (jlg 2))), (100, [], (jenc (jlg 3))), (100, [], (jenc (jlg 4))), (100, [], (jenc (jlg 5)))] ++ []) := by
  refine jT_xbipush (k := 6) (pcN := 2) jIQ_212_0 (by decide) rfl ?_
  refine jT_adv 1 (pcN := 4) (LN := [(0, (4, 0)), (1, (4, 1)), (2, (1, 2 * N + 2))]) (stN := [(4, 23)]) (hsN := [jzQ_371, (101, [], [2 * x4 + 1, 0, 0, 0, 0, 0]), jgh, jgh, jgh, jgh, jgh, (130, [], [17, 18, 19, 20, 21, 22]), jgh, jgh, jgh, jgh, jgh, jgh, jgh, jgh, jgh, (100, [], (jenc (jlg 0))), (100, [], (jenc (jlg 1))), (100, [], (jenc (jlg 2))), (100, [], (jenc (jlg 3))), (100, [], (jenc (jlg 4))), (100, [], (jenc (jlg 5))), (101, [], [0, 0, 0, 0, 0, 0])]) (c1 := 1) (s1 := 6) (c2 := 19) (s2 := 1064) (by exact rfl) ?_ (by omega) (by omega)
  refine jT_xastore (v := (4, 23)) (LN := [(4, (4, 23)), (0, (4, 0)), (1, (4, 1)), (2, (1, 2 * N + 2))]) (pcN := 6) jIQ_212_4 rfl rfl rfl rfl ?_
  refine jT_xaload_n (v := (4, 1)) (pcN := 7) jIQ_212_6 rfl rfl rfl ?_
  refine jT_xiconst (k := 0) (pcN := 8) jIQ_212_7 rfl ?_
  refine jT_xaload (v := (4, 23)) (pcN := 10) jIQ_212_8 rfl rfl rfl ?_
  refine jT_xiconst (k := 0) (pcN := 11) jIQ_212_10 rfl ?_
  refine jT_xbipush (k := 6) (pcN := 13) jIQ_212_11 (by decide) rfl ?_
  refine jT_adv 1 (pcN := 16) (LN := [(4, (4, 23)), (0, (4, 0)), (1, (4, 1)), (2, (1, 2 * N + 2))]) (stN := []) (hsN := [jzQ_371, (101, [], [2 * x4 + 1, 0, 0, 0, 0, 0]), jgh, jgh, jgh, jgh, jgh, (130, [], [17, 18, 19, 20, 21, 22]), jgh, jgh, jgh, jgh, jgh, jgh, jgh, jgh, jgh, (100, [], (jenc (jlg 0))), (100, [], (jenc (jlg 1))), (100, [], (jenc (jlg 2))), (100, [], (jenc (jlg 3))), (100, [], (jenc (jlg 4))), (100, [], (jenc (jlg 5))), (101, [], [2 * x4 + 1, 0, 0, 0, 0, 0])]) (c1 := 0) (s1 := 0) (c2 := 19) (s2 := 1064) (by exact rfl) ?_ (by omega) (by omega)
  refine jT_xaload (v := (4, 23)) (pcN := 18) jIQ_212_16 rfl rfl rfl ?_
  refine jT_xiconst (k := 0) (pcN := 19) jIQ_212_18 rfl ?_
  refine jT_adv 1 (pcN := 20) (LN := [(4, (4, 23)), (0, (4, 0)), (1, (4, 1)), (2, (1, 2 * N + 2))]) (stN := [(0, 0), (4, 23), (0, 0), (4, 23)]) (hsN := [jzQ_371, (101, [], [2 * x4 + 1, 0, 0, 0, 0, 0]), jgh, jgh, jgh, jgh, jgh, (130, [], [17, 18, 19, 20, 21, 22]), jgh, jgh, jgh, jgh, jgh, jgh, jgh, jgh, jgh, (100, [], (jenc (jlg 0))), (100, [], (jenc (jlg 1))), (100, [], (jenc (jlg 2))), (100, [], (jenc (jlg 3))), (100, [], (jenc (jlg 4))), (100, [], (jenc (jlg 5))), (101, [], [2 * x4 + 1, 0, 0, 0, 0, 0])]) (c1 := 0) (s1 := 0) (c2 := 19) (s2 := 1064) (by exact rfl) ?_ (by omega) (by omega)
  refine jT_lald (x := 2 * x4 + 1) (a := 23) (j := 0) (fs := []) (X := [2 * x4 + 1, 0, 0, 0, 0, 0]) jIQ_212_20 rfl rfl rfl rfl ?_
  refine jT_eq (LN := [(4, (4, 23)), (0, (4, 0)), (1, (4, 1)), (2, (1, 2 * N + 2))]) (stN := [(1, 2 * x4 + 1), (0, 0), (4, 23)]) (hsN := [jzQ_371, (101, [], [2 * x4 + 1, 0, 0, 0, 0, 0]), jgh, jgh, jgh, jgh, jgh, (130, [], [17, 18, 19, 20, 21, 22]), jgh, jgh, jgh, jgh, jgh, jgh, jgh, jgh, jgh, (100, [], (jenc (jlg 0))), (100, [], (jenc (jlg 1))), (100, [], (jenc (jlg 2))), (100, [], (jenc (jlg 3))), (100, [], (jenc (jlg 4))), (100, [], (jenc (jlg 5))), (101, [], [2 * x4 + 1, 0, 0, 0, 0, 0])]) rfl rfl rfl ?_
  refine jT_xlload_n (v := (1, 2 * N + 2)) (pcN := 22) jIQ_212_21 rfl rfl rfl ?_
  refine jT_xlsub (x := 2 * x4 + 1) (y := 2 * N + 2) (z := (-2) * N + 2 * x4 - 1) (pcN := 23) jIQ_212_22 rfl (by omega) rfl ?_
  refine jT_adv 1 (pcN := 24) (LN := [(4, (4, 23)), (0, (4, 0)), (1, (4, 1)), (2, (1, 2 * N + 2))]) (stN := []) (hsN := [jzQ_371, (101, [], [2 * x4 + 1, 0, 0, 0, 0, 0]), jgh, jgh, jgh, jgh, jgh, (130, [], [17, 18, 19, 20, 21, 22]), jgh, jgh, jgh, jgh, jgh, jgh, jgh, jgh, jgh, (100, [], (jenc (jlg 0))), (100, [], (jenc (jlg 1))), (100, [], (jenc (jlg 2))), (100, [], (jenc (jlg 3))), (100, [], (jenc (jlg 4))), (100, [], (jenc (jlg 5))), (101, [], [(-2) * N + 2 * x4 - 1, 0, 0, 0, 0, 0])]) (c1 := 0) (s1 := 0) (c2 := 19) (s2 := 1064) (by exact rfl) ?_ (by omega) (by omega)
  refine jT_xaload_n (v := (4, 0)) (pcN := 25) jIQ_212_24 rfl rfl rfl ?_
  refine jT_xaload (v := (4, 23)) (pcN := 27) jIQ_212_25 rfl rfl rfl ?_
  refine jT_callA [0, 23, 2, 3, 4, 5, 6, 7, 8, 9, 10, 11, 12, 13, 14, 15, 16, 17, 18, 19, 20, 21, 22] (y := 213) (pcN := 30) (dC := 3) (bc1 := 19) (bc2 := 1064) (c1 := 0) (c2 := 0) (as := [(4, 0), (4, 23)]) (asC := [(4, 0), (4, 1)]) (LN := [(4, (4, 23)), (0, (4, 0)), (1, (4, 1)), (2, (1, 2 * N + 2))]) (stN := []) (hsC := [jzQ_371, (101, [], [(-2) * N + 2 * x4 - 1, 0, 0, 0, 0, 0]), jgh, jgh, jgh, jgh, jgh, (130, [], [17, 18, 19, 20, 21, 22]), jgh, jgh, jgh, jgh, jgh, jgh, jgh, jgh, jgh, (100, [], (jenc (jlg 0))), (100, [], (jenc (jlg 1))), (100, [], (jenc (jlg 2))), (100, [], (jenc (jlg 3))), (100, [], (jenc (jlg 4))), (100, [], (jenc (jlg 5)))]) (ex := []) (v := (0, (jlz ((-2) * N + 2 * x4 - 1) 0 0 0 0 0).sign)) (st2 := [(0, (jlz ((-2) * N + 2 * x4 - 1) 0 0 0 0 0).sign)]) (hs2 := [jzQ_371, (101, [], [2 * x4 + 1, 0, 0, 0, 0, 0]), jgh, jgh, jgh, jgh, jgh, (130, [], [17, 18, 19, 20, 21, 22]), jgh, jgh, jgh, jgh, jgh, jgh, jgh, jgh, jgh, (100, [], (jenc (jlg 0))), (100, [], (jenc (jlg 1))), (100, [], (jenc (jlg 2))), (100, [], (jenc (jlg 3))), (100, [], (jenc (jlg 4))), (100, [], (jenc (jlg 5))), (101, [], [(-2) * N + 2 * x4 - 1, 0, 0, 0, 0, 0])]) (jQl_sg_148 (d := 0) (e0 := (-2) * N + 2 * x4 - 1) (e1 := 0) (e2 := 0) (e3 := 0) (e4 := 0) (e5 := 0) (by omega) (by omega) (by omega) (by omega) (by omega) (by omega)) (by rfl) (by rfl) (by rfl) (by rfl) ⟨rfl, rfl, rfl, rfl, rfl, rfl, rfl, rfl, rfl, rfl, rfl, rfl, rfl, rfl, rfl, rfl, rfl, rfl, rfl, rfl, rfl, rfl, rfl, trivial⟩ (by rfl) (by rfl) (by omega) (by show 23 ≤ 24; omega) (by omega) (by omega) rfl rfl ?_
  have hb_q1 := jsgn_b (jlz ((-2) * N + 2 * x4 - 1) 0 0 0 0 0)
  generalize hq_q1 : (jlz ((-2) * N + 2 * x4 - 1) 0 0 0 0 0).sign = q1 at hb_q1 g_0 ⊢
  refine jT_loc (LN := [(0, (4, 0))]) (by show List.Nodup [0]; decide) (by intro q hq; simp only [List.mem_cons, List.not_mem_nil, or_false] at hq; rcases hq with rfl <;> rfl) ?_
  refine jT_drop 23 (hs0 := [jzQ_371, (101, [], [2 * x4 + 1, 0, 0, 0, 0, 0]), jgh, jgh, jgh, jgh, jgh, (130, [], [17, 18, 19, 20, 21, 22]), jgh, jgh, jgh, jgh, jgh, jgh, jgh, jgh, jgh, (100, [], (jenc (jlg 0))), (100, [], (jenc (jlg 1))), (100, [], (jenc (jlg 2))), (100, [], (jenc (jlg 3))), (100, [], (jenc (jlg 4))), (100, [], (jenc (jlg 5)))]) (ex := [(101, [], [(-2) * N + 2 * x4 - 1, 0, 0, 0, 0, 0])]) rfl rfl rfl (by decide) ?_
  subst hq_q1
  exact jT_ret rfl (by decide) (by show 23 ≤ 23; omega) (by omega) (by omega) ⟨rfl, rfl, rfl⟩
theorem jQ_212_266 {xs : List Int} {d : Nat} {N x4 : Int} (h_N : (-1099511627776) ≤ N ∧ N ≤ 1099511627776) (h_x4 : 1 ≤ x4 ∧ x4 ≤ 100) : jT xs (d + 4) 212 23 0 [(0, (4, 0)), (1, (4, 1)), (2, (1, 2 * N))] [] [jzQ_371, (101, [], [2 * x4 + 1, 0, 0, 0, 0, 0]), jgh, jgh, jgh, jgh, jgh, (130, [], [17, 18, 19, 20, 21, 22]), jgh, jgh, jgh, jgh, jgh, jgh, jgh, jgh, jgh, (100, [], (jenc (jlg 0))), (100, [], (jenc (jlg 1))), (100, [], (jenc (jlg 2))), (100, [], (jenc (jlg 3))), (100, [], (jenc (jlg 4))), (100, [], (jenc (jlg 5)))] 20 1070 (fun k v hsN => k = 0 ∧ v = (0, (jlz ((-2) * N + 2 * x4 + 1) 0 0 0 0 0).sign) ∧ hsN = [jzQ_371, (101, [], [2 * x4 + 1, 0, 0, 0, 0, 0]), jgh, jgh, jgh, jgh, jgh, (130, [], [17, 18, 19, 20, 21, 22]), jgh, jgh, jgh, jgh, jgh, jgh, jgh, jgh, jgh, (100, [], (jenc (jlg 0))), (100, [], (jenc (jlg 1))), (100, [], (jenc (jlg 2))), (100, [], (jenc (jlg 3))), (100, [], (jenc (jlg 4))), (100, [], (jenc (jlg 5)))] ++ []) := by
  refine jT_xbipush (k := 6) (pcN := 2) jIQ_212_0 (by decide) rfl ?_
  refine jT_adv 1 (pcN := 4) (LN := [(0, (4, 0)), (1, (4, 1)), (2, (1, 2 * N))]) (stN := [(4, 23)]) (hsN := [jzQ_371, (101, [], [2 * x4 + 1, 0, 0, 0, 0, 0]), jgh, jgh, jgh, jgh, jgh, (130, [], [17, 18, 19, 20, 21, 22]), jgh, jgh, jgh, jgh, jgh, jgh, jgh, jgh, jgh, (100, [], (jenc (jlg 0))), (100, [], (jenc (jlg 1))), (100, [], (jenc (jlg 2))), (100, [], (jenc (jlg 3))), (100, [], (jenc (jlg 4))), (100, [], (jenc (jlg 5))), (101, [], [0, 0, 0, 0, 0, 0])]) (c1 := 1) (s1 := 6) (c2 := 19) (s2 := 1064) (by exact rfl) ?_ (by omega) (by omega)
  refine jT_xastore (v := (4, 23)) (LN := [(4, (4, 23)), (0, (4, 0)), (1, (4, 1)), (2, (1, 2 * N))]) (pcN := 6) jIQ_212_4 rfl rfl rfl rfl ?_
  refine jT_xaload_n (v := (4, 1)) (pcN := 7) jIQ_212_6 rfl rfl rfl ?_
  refine jT_xiconst (k := 0) (pcN := 8) jIQ_212_7 rfl ?_
  refine jT_xaload (v := (4, 23)) (pcN := 10) jIQ_212_8 rfl rfl rfl ?_
  refine jT_xiconst (k := 0) (pcN := 11) jIQ_212_10 rfl ?_
  refine jT_xbipush (k := 6) (pcN := 13) jIQ_212_11 (by decide) rfl ?_
  refine jT_adv 1 (pcN := 16) (LN := [(4, (4, 23)), (0, (4, 0)), (1, (4, 1)), (2, (1, 2 * N))]) (stN := []) (hsN := [jzQ_371, (101, [], [2 * x4 + 1, 0, 0, 0, 0, 0]), jgh, jgh, jgh, jgh, jgh, (130, [], [17, 18, 19, 20, 21, 22]), jgh, jgh, jgh, jgh, jgh, jgh, jgh, jgh, jgh, (100, [], (jenc (jlg 0))), (100, [], (jenc (jlg 1))), (100, [], (jenc (jlg 2))), (100, [], (jenc (jlg 3))), (100, [], (jenc (jlg 4))), (100, [], (jenc (jlg 5))), (101, [], [2 * x4 + 1, 0, 0, 0, 0, 0])]) (c1 := 0) (s1 := 0) (c2 := 19) (s2 := 1064) (by exact rfl) ?_ (by omega) (by omega)
  refine jT_xaload (v := (4, 23)) (pcN := 18) jIQ_212_16 rfl rfl rfl ?_
  refine jT_xiconst (k := 0) (pcN := 19) jIQ_212_18 rfl ?_
  refine jT_adv 1 (pcN := 20) (LN := [(4, (4, 23)), (0, (4, 0)), (1, (4, 1)), (2, (1, 2 * N))]) (stN := [(0, 0), (4, 23), (0, 0), (4, 23)]) (hsN := [jzQ_371, (101, [], [2 * x4 + 1, 0, 0, 0, 0, 0]), jgh, jgh, jgh, jgh, jgh, (130, [], [17, 18, 19, 20, 21, 22]), jgh, jgh, jgh, jgh, jgh, jgh, jgh, jgh, jgh, (100, [], (jenc (jlg 0))), (100, [], (jenc (jlg 1))), (100, [], (jenc (jlg 2))), (100, [], (jenc (jlg 3))), (100, [], (jenc (jlg 4))), (100, [], (jenc (jlg 5))), (101, [], [2 * x4 + 1, 0, 0, 0, 0, 0])]) (c1 := 0) (s1 := 0) (c2 := 19) (s2 := 1064) (by exact rfl) ?_ (by omega) (by omega)
  refine jT_lald (x := 2 * x4 + 1) (a := 23) (j := 0) (fs := []) (X := [2 * x4 + 1, 0, 0, 0, 0, 0]) jIQ_212_20 rfl rfl rfl rfl ?_
  refine jT_eq (LN := [(4, (4, 23)), (0, (4, 0)), (1, (4, 1)), (2, (1, 2 * N))]) (stN := [(1, 2 * x4 + 1), (0, 0), (4, 23)]) (hsN := [jzQ_371, (101, [], [2 * x4 + 1, 0, 0, 0, 0, 0]), jgh, jgh, jgh, jgh, jgh, (130, [], [17, 18, 19, 20, 21, 22]), jgh, jgh, jgh, jgh, jgh, jgh, jgh, jgh, jgh, (100, [], (jenc (jlg 0))), (100, [], (jenc (jlg 1))), (100, [], (jenc (jlg 2))), (100, [], (jenc (jlg 3))), (100, [], (jenc (jlg 4))), (100, [], (jenc (jlg 5))), (101, [], [2 * x4 + 1, 0, 0, 0, 0, 0])]) rfl rfl rfl ?_
  refine jT_xlload_n (v := (1, 2 * N)) (pcN := 22) jIQ_212_21 rfl rfl rfl ?_
  refine jT_xlsub (x := 2 * x4 + 1) (y := 2 * N) (z := (-2) * N + 2 * x4 + 1) (pcN := 23) jIQ_212_22 rfl (by omega) rfl ?_
  refine jT_adv 1 (pcN := 24) (LN := [(4, (4, 23)), (0, (4, 0)), (1, (4, 1)), (2, (1, 2 * N))]) (stN := []) (hsN := [jzQ_371, (101, [], [2 * x4 + 1, 0, 0, 0, 0, 0]), jgh, jgh, jgh, jgh, jgh, (130, [], [17, 18, 19, 20, 21, 22]), jgh, jgh, jgh, jgh, jgh, jgh, jgh, jgh, jgh, (100, [], (jenc (jlg 0))), (100, [], (jenc (jlg 1))), (100, [], (jenc (jlg 2))), (100, [], (jenc (jlg 3))), (100, [], (jenc (jlg 4))), (100, [], (jenc (jlg 5))), (101, [], [(-2) * N + 2 * x4 + 1, 0, 0, 0, 0, 0])]) (c1 := 0) (s1 := 0) (c2 := 19) (s2 := 1064) (by exact rfl) ?_ (by omega) (by omega)
  refine jT_xaload_n (v := (4, 0)) (pcN := 25) jIQ_212_24 rfl rfl rfl ?_
  refine jT_xaload (v := (4, 23)) (pcN := 27) jIQ_212_25 rfl rfl rfl ?_
  refine jT_callA [0, 23, 2, 3, 4, 5, 6, 7, 8, 9, 10, 11, 12, 13, 14, 15, 16, 17, 18, 19, 20, 21, 22] (y := 213) (pcN := 30) (dC := 3) (bc1 := 19) (bc2 := 1064) (c1 := 0) (c2 := 0) (as := [(4, 0), (4, 23)]) (asC := [(4, 0), (4, 1)]) (LN := [(4, (4, 23)), (0, (4, 0)), (1, (4, 1)), (2, (1, 2 * N))]) (stN := []) (hsC := [jzQ_371, (101, [], [(-2) * N + 2 * x4 + 1, 0, 0, 0, 0, 0]), jgh, jgh, jgh, jgh, jgh, (130, [], [17, 18, 19, 20, 21, 22]), jgh, jgh, jgh, jgh, jgh, jgh, jgh, jgh, jgh, (100, [], (jenc (jlg 0))), (100, [], (jenc (jlg 1))), (100, [], (jenc (jlg 2))), (100, [], (jenc (jlg 3))), (100, [], (jenc (jlg 4))), (100, [], (jenc (jlg 5)))]) (ex := []) (v := (0, (jlz ((-2) * N + 2 * x4 + 1) 0 0 0 0 0).sign)) (st2 := [(0, (jlz ((-2) * N + 2 * x4 + 1) 0 0 0 0 0).sign)]) (hs2 := [jzQ_371, (101, [], [2 * x4 + 1, 0, 0, 0, 0, 0]), jgh, jgh, jgh, jgh, jgh, (130, [], [17, 18, 19, 20, 21, 22]), jgh, jgh, jgh, jgh, jgh, jgh, jgh, jgh, jgh, (100, [], (jenc (jlg 0))), (100, [], (jenc (jlg 1))), (100, [], (jenc (jlg 2))), (100, [], (jenc (jlg 3))), (100, [], (jenc (jlg 4))), (100, [], (jenc (jlg 5))), (101, [], [(-2) * N + 2 * x4 + 1, 0, 0, 0, 0, 0])]) (jQl_sg_148 (d := 0) (e0 := (-2) * N + 2 * x4 + 1) (e1 := 0) (e2 := 0) (e3 := 0) (e4 := 0) (e5 := 0) (by omega) (by omega) (by omega) (by omega) (by omega) (by omega)) (by rfl) (by rfl) (by rfl) (by rfl) ⟨rfl, rfl, rfl, rfl, rfl, rfl, rfl, rfl, rfl, rfl, rfl, rfl, rfl, rfl, rfl, rfl, rfl, rfl, rfl, rfl, rfl, rfl, rfl, trivial⟩ (by rfl) (by rfl) (by omega) (by show 23 ≤ 24; omega) (by omega) (by omega) rfl rfl ?_
  have hb_q1 := jsgn_b (jlz ((-2) * N + 2 * x4 + 1) 0 0 0 0 0)
  generalize hq_q1 : (jlz ((-2) * N + 2 * x4 + 1) 0 0 0 0 0).sign = q1 at hb_q1 ⊢
  refine jT_loc (LN := [(0, (4, 0))]) (by show List.Nodup [0]; decide) (by intro q hq; simp only [List.mem_cons, List.not_mem_nil, or_false] at hq; rcases hq with rfl <;> rfl) ?_
  refine jT_drop 23 (hs0 := [jzQ_371, (101, [], [2 * x4 + 1, 0, 0, 0, 0, 0]), jgh, jgh, jgh, jgh, jgh, (130, [], [17, 18, 19, 20, 21, 22]), jgh, jgh, jgh, jgh, jgh, jgh, jgh, jgh, jgh, (100, [], (jenc (jlg 0))), (100, [], (jenc (jlg 1))), (100, [], (jenc (jlg 2))), (100, [], (jenc (jlg 3))), (100, [], (jenc (jlg 4))), (100, [], (jenc (jlg 5)))]) (ex := [(101, [], [(-2) * N + 2 * x4 + 1, 0, 0, 0, 0, 0])]) rfl rfl rfl (by decide) ?_
  subst hq_q1
  exact jT_ret rfl (by decide) (by show 23 ≤ 23; omega) (by omega) (by omega) ⟨rfl, rfl, rfl⟩
theorem jQ_212_267 {xs : List Int} {d : Nat} {N x4 : Int} (h_N : (-1099511627776) ≤ N ∧ N ≤ 1099511627776) (h_x4 : 1 ≤ x4 ∧ x4 ≤ 100) (g_0 : (jlz ((-2) * N + 2 * x4 - 1) 0 0 0 0 0).sign < 0) (g_1 : 0 ≤ (jlz ((-2) * N + 2 * x4 + 1) 0 0 0 0 0).sign) : jT xs (d + 4) 212 23 0 [(0, (4, 0)), (1, (4, 1)), (2, (1, 2 * N + 2))] [] [jzQ_371, (101, [], [2 * x4 + 1, 0, 0, 0, 0, 0]), jgh, jgh, jgh, jgh, jgh, (130, [], [17, 18, 19, 20, 21, 22]), jgh, jgh, jgh, jgh, jgh, jgh, jgh, jgh, jgh, (100, [], (jenc (jlg 0))), (100, [], (jenc (jlg 1))), (100, [], (jenc (jlg 2))), (100, [], (jenc (jlg 3))), (100, [], (jenc (jlg 4))), (100, [], (jenc (jlg 5)))] 20 1070 (fun k v hsN => k = 0 ∧ v = (0, (jlz ((-2) * N + 2 * x4 - 1) 0 0 0 0 0).sign) ∧ hsN = [jzQ_371, (101, [], [2 * x4 + 1, 0, 0, 0, 0, 0]), jgh, jgh, jgh, jgh, jgh, (130, [], [17, 18, 19, 20, 21, 22]), jgh, jgh, jgh, jgh, jgh, jgh, jgh, jgh, jgh, (100, [], (jenc (jlg 0))), (100, [], (jenc (jlg 1))), (100, [], (jenc (jlg 2))), (100, [], (jenc (jlg 3))), (100, [], (jenc (jlg 4))), (100, [], (jenc (jlg 5)))] ++ []) := by
  refine jT_xbipush (k := 6) (pcN := 2) jIQ_212_0 (by decide) rfl ?_
  refine jT_adv 1 (pcN := 4) (LN := [(0, (4, 0)), (1, (4, 1)), (2, (1, 2 * N + 2))]) (stN := [(4, 23)]) (hsN := [jzQ_371, (101, [], [2 * x4 + 1, 0, 0, 0, 0, 0]), jgh, jgh, jgh, jgh, jgh, (130, [], [17, 18, 19, 20, 21, 22]), jgh, jgh, jgh, jgh, jgh, jgh, jgh, jgh, jgh, (100, [], (jenc (jlg 0))), (100, [], (jenc (jlg 1))), (100, [], (jenc (jlg 2))), (100, [], (jenc (jlg 3))), (100, [], (jenc (jlg 4))), (100, [], (jenc (jlg 5))), (101, [], [0, 0, 0, 0, 0, 0])]) (c1 := 1) (s1 := 6) (c2 := 19) (s2 := 1064) (by exact rfl) ?_ (by omega) (by omega)
  refine jT_xastore (v := (4, 23)) (LN := [(4, (4, 23)), (0, (4, 0)), (1, (4, 1)), (2, (1, 2 * N + 2))]) (pcN := 6) jIQ_212_4 rfl rfl rfl rfl ?_
  refine jT_xaload_n (v := (4, 1)) (pcN := 7) jIQ_212_6 rfl rfl rfl ?_
  refine jT_xiconst (k := 0) (pcN := 8) jIQ_212_7 rfl ?_
  refine jT_xaload (v := (4, 23)) (pcN := 10) jIQ_212_8 rfl rfl rfl ?_
  refine jT_xiconst (k := 0) (pcN := 11) jIQ_212_10 rfl ?_
  refine jT_xbipush (k := 6) (pcN := 13) jIQ_212_11 (by decide) rfl ?_
  refine jT_adv 1 (pcN := 16) (LN := [(4, (4, 23)), (0, (4, 0)), (1, (4, 1)), (2, (1, 2 * N + 2))]) (stN := []) (hsN := [jzQ_371, (101, [], [2 * x4 + 1, 0, 0, 0, 0, 0]), jgh, jgh, jgh, jgh, jgh, (130, [], [17, 18, 19, 20, 21, 22]), jgh, jgh, jgh, jgh, jgh, jgh, jgh, jgh, jgh, (100, [], (jenc (jlg 0))), (100, [], (jenc (jlg 1))), (100, [], (jenc (jlg 2))), (100, [], (jenc (jlg 3))), (100, [], (jenc (jlg 4))), (100, [], (jenc (jlg 5))), (101, [], [2 * x4 + 1, 0, 0, 0, 0, 0])]) (c1 := 0) (s1 := 0) (c2 := 19) (s2 := 1064) (by exact rfl) ?_ (by omega) (by omega)
  refine jT_xaload (v := (4, 23)) (pcN := 18) jIQ_212_16 rfl rfl rfl ?_
  refine jT_xiconst (k := 0) (pcN := 19) jIQ_212_18 rfl ?_
  refine jT_adv 1 (pcN := 20) (LN := [(4, (4, 23)), (0, (4, 0)), (1, (4, 1)), (2, (1, 2 * N + 2))]) (stN := [(0, 0), (4, 23), (0, 0), (4, 23)]) (hsN := [jzQ_371, (101, [], [2 * x4 + 1, 0, 0, 0, 0, 0]), jgh, jgh, jgh, jgh, jgh, (130, [], [17, 18, 19, 20, 21, 22]), jgh, jgh, jgh, jgh, jgh, jgh, jgh, jgh, jgh, (100, [], (jenc (jlg 0))), (100, [], (jenc (jlg 1))), (100, [], (jenc (jlg 2))), (100, [], (jenc (jlg 3))), (100, [], (jenc (jlg 4))), (100, [], (jenc (jlg 5))), (101, [], [2 * x4 + 1, 0, 0, 0, 0, 0])]) (c1 := 0) (s1 := 0) (c2 := 19) (s2 := 1064) (by exact rfl) ?_ (by omega) (by omega)
  refine jT_lald (x := 2 * x4 + 1) (a := 23) (j := 0) (fs := []) (X := [2 * x4 + 1, 0, 0, 0, 0, 0]) jIQ_212_20 rfl rfl rfl rfl ?_
  refine jT_eq (LN := [(4, (4, 23)), (0, (4, 0)), (1, (4, 1)), (2, (1, 2 * N + 2))]) (stN := [(1, 2 * x4 + 1), (0, 0), (4, 23)]) (hsN := [jzQ_371, (101, [], [2 * x4 + 1, 0, 0, 0, 0, 0]), jgh, jgh, jgh, jgh, jgh, (130, [], [17, 18, 19, 20, 21, 22]), jgh, jgh, jgh, jgh, jgh, jgh, jgh, jgh, jgh, (100, [], (jenc (jlg 0))), (100, [], (jenc (jlg 1))), (100, [], (jenc (jlg 2))), (100, [], (jenc (jlg 3))), (100, [], (jenc (jlg 4))), (100, [], (jenc (jlg 5))), (101, [], [2 * x4 + 1, 0, 0, 0, 0, 0])]) rfl rfl rfl ?_
  refine jT_xlload_n (v := (1, 2 * N + 2)) (pcN := 22) jIQ_212_21 rfl rfl rfl ?_
  refine jT_xlsub (x := 2 * x4 + 1) (y := 2 * N + 2) (z := (-2) * N + 2 * x4 - 1) (pcN := 23) jIQ_212_22 rfl (by omega) rfl ?_
  refine jT_adv 1 (pcN := 24) (LN := [(4, (4, 23)), (0, (4, 0)), (1, (4, 1)), (2, (1, 2 * N + 2))]) (stN := []) (hsN := [jzQ_371, (101, [], [2 * x4 + 1, 0, 0, 0, 0, 0]), jgh, jgh, jgh, jgh, jgh, (130, [], [17, 18, 19, 20, 21, 22]), jgh, jgh, jgh, jgh, jgh, jgh, jgh, jgh, jgh, (100, [], (jenc (jlg 0))), (100, [], (jenc (jlg 1))), (100, [], (jenc (jlg 2))), (100, [], (jenc (jlg 3))), (100, [], (jenc (jlg 4))), (100, [], (jenc (jlg 5))), (101, [], [(-2) * N + 2 * x4 - 1, 0, 0, 0, 0, 0])]) (c1 := 0) (s1 := 0) (c2 := 19) (s2 := 1064) (by exact rfl) ?_ (by omega) (by omega)
  refine jT_xaload_n (v := (4, 0)) (pcN := 25) jIQ_212_24 rfl rfl rfl ?_
  refine jT_xaload (v := (4, 23)) (pcN := 27) jIQ_212_25 rfl rfl rfl ?_
  refine jT_callA [0, 23, 2, 3, 4, 5, 6, 7, 8, 9, 10, 11, 12, 13, 14, 15, 16, 17, 18, 19, 20, 21, 22] (y := 213) (pcN := 30) (dC := 3) (bc1 := 19) (bc2 := 1064) (c1 := 0) (c2 := 0) (as := [(4, 0), (4, 23)]) (asC := [(4, 0), (4, 1)]) (LN := [(4, (4, 23)), (0, (4, 0)), (1, (4, 1)), (2, (1, 2 * N + 2))]) (stN := []) (hsC := [jzQ_371, (101, [], [(-2) * N + 2 * x4 - 1, 0, 0, 0, 0, 0]), jgh, jgh, jgh, jgh, jgh, (130, [], [17, 18, 19, 20, 21, 22]), jgh, jgh, jgh, jgh, jgh, jgh, jgh, jgh, jgh, (100, [], (jenc (jlg 0))), (100, [], (jenc (jlg 1))), (100, [], (jenc (jlg 2))), (100, [], (jenc (jlg 3))), (100, [], (jenc (jlg 4))), (100, [], (jenc (jlg 5)))]) (ex := []) (v := (0, (jlz ((-2) * N + 2 * x4 - 1) 0 0 0 0 0).sign)) (st2 := [(0, (jlz ((-2) * N + 2 * x4 - 1) 0 0 0 0 0).sign)]) (hs2 := [jzQ_371, (101, [], [2 * x4 + 1, 0, 0, 0, 0, 0]), jgh, jgh, jgh, jgh, jgh, (130, [], [17, 18, 19, 20, 21, 22]), jgh, jgh, jgh, jgh, jgh, jgh, jgh, jgh, jgh, (100, [], (jenc (jlg 0))), (100, [], (jenc (jlg 1))), (100, [], (jenc (jlg 2))), (100, [], (jenc (jlg 3))), (100, [], (jenc (jlg 4))), (100, [], (jenc (jlg 5))), (101, [], [(-2) * N + 2 * x4 - 1, 0, 0, 0, 0, 0])]) (jQl_sg_148 (d := 0) (e0 := (-2) * N + 2 * x4 - 1) (e1 := 0) (e2 := 0) (e3 := 0) (e4 := 0) (e5 := 0) (by omega) (by omega) (by omega) (by omega) (by omega) (by omega)) (by rfl) (by rfl) (by rfl) (by rfl) ⟨rfl, rfl, rfl, rfl, rfl, rfl, rfl, rfl, rfl, rfl, rfl, rfl, rfl, rfl, rfl, rfl, rfl, rfl, rfl, rfl, rfl, rfl, rfl, trivial⟩ (by rfl) (by rfl) (by omega) (by show 23 ≤ 24; omega) (by omega) (by omega) rfl rfl ?_
  have hb_q1 := jsgn_b (jlz ((-2) * N + 2 * x4 - 1) 0 0 0 0 0)
  generalize hq_q1 : (jlz ((-2) * N + 2 * x4 - 1) 0 0 0 0 0).sign = q1 at hb_q1 g_0 ⊢
  refine jT_loc (LN := [(0, (4, 0))]) (by show List.Nodup [0]; decide) (by intro q hq; simp only [List.mem_cons, List.not_mem_nil, or_false] at hq; rcases hq with rfl <;> rfl) ?_
  refine jT_drop 23 (hs0 := [jzQ_371, (101, [], [2 * x4 + 1, 0, 0, 0, 0, 0]), jgh, jgh, jgh, jgh, jgh, (130, [], [17, 18, 19, 20, 21, 22]), jgh, jgh, jgh, jgh, jgh, jgh, jgh, jgh, jgh, (100, [], (jenc (jlg 0))), (100, [], (jenc (jlg 1))), (100, [], (jenc (jlg 2))), (100, [], (jenc (jlg 3))), (100, [], (jenc (jlg 4))), (100, [], (jenc (jlg 5)))]) (ex := [(101, [], [(-2) * N + 2 * x4 - 1, 0, 0, 0, 0, 0])]) rfl rfl rfl (by decide) ?_
  subst hq_q1
  exact jT_ret rfl (by decide) (by show 23 ≤ 23; omega) (by omega) (by omega) ⟨rfl, rfl, rfl⟩
theorem jQ_212_268 {xs : List Int} {d : Nat} {N x4 : Int} (h_N : (-1099511627776) ≤ N ∧ N ≤ 1099511627776) (h_x4 : 1 ≤ x4 ∧ x4 ≤ 100) (g_0 : 0 ≤ (jlz ((-2) * N + 2 * x4 + 1) 0 0 0 0 0).sign) : jT xs (d + 4) 212 23 0 [(0, (4, 0)), (1, (4, 1)), (2, (1, 2 * N))] [] [jzQ_371, (101, [], [2 * x4 + 1, 0, 0, 0, 0, 0]), jgh, jgh, jgh, jgh, jgh, (130, [], [17, 18, 19, 20, 21, 22]), jgh, jgh, jgh, jgh, jgh, jgh, jgh, jgh, jgh, (100, [], (jenc (jlg 0))), (100, [], (jenc (jlg 1))), (100, [], (jenc (jlg 2))), (100, [], (jenc (jlg 3))), (100, [], (jenc (jlg 4))), (100, [], (jenc (jlg 5)))] 20 1070 (fun k v hsN => k = 0 ∧ v = (0, (jlz ((-2) * N + 2 * x4 + 1) 0 0 0 0 0).sign) ∧ hsN = [jzQ_371, (101, [], [2 * x4 + 1, 0, 0, 0, 0, 0]), jgh, jgh, jgh, jgh, jgh, (130, [], [17, 18, 19, 20, 21, 22]), jgh, jgh, jgh, jgh, jgh, jgh, jgh, jgh, jgh, (100, [], (jenc (jlg 0))), (100, [], (jenc (jlg 1))), (100, [], (jenc (jlg 2))), (100, [], (jenc (jlg 3))), (100, [], (jenc (jlg 4))), (100, [], (jenc (jlg 5)))] ++ []) := by
  refine jT_xbipush (k := 6) (pcN := 2) jIQ_212_0 (by decide) rfl ?_
  refine jT_adv 1 (pcN := 4) (LN := [(0, (4, 0)), (1, (4, 1)), (2, (1, 2 * N))]) (stN := [(4, 23)]) (hsN := [jzQ_371, (101, [], [2 * x4 + 1, 0, 0, 0, 0, 0]), jgh, jgh, jgh, jgh, jgh, (130, [], [17, 18, 19, 20, 21, 22]), jgh, jgh, jgh, jgh, jgh, jgh, jgh, jgh, jgh, (100, [], (jenc (jlg 0))), (100, [], (jenc (jlg 1))), (100, [], (jenc (jlg 2))), (100, [], (jenc (jlg 3))), (100, [], (jenc (jlg 4))), (100, [], (jenc (jlg 5))), (101, [], [0, 0, 0, 0, 0, 0])]) (c1 := 1) (s1 := 6) (c2 := 19) (s2 := 1064) (by exact rfl) ?_ (by omega) (by omega)
  refine jT_xastore (v := (4, 23)) (LN := [(4, (4, 23)), (0, (4, 0)), (1, (4, 1)), (2, (1, 2 * N))]) (pcN := 6) jIQ_212_4 rfl rfl rfl rfl ?_
  refine jT_xaload_n (v := (4, 1)) (pcN := 7) jIQ_212_6 rfl rfl rfl ?_
  refine jT_xiconst (k := 0) (pcN := 8) jIQ_212_7 rfl ?_
  refine jT_xaload (v := (4, 23)) (pcN := 10) jIQ_212_8 rfl rfl rfl ?_
  refine jT_xiconst (k := 0) (pcN := 11) jIQ_212_10 rfl ?_
  refine jT_xbipush (k := 6) (pcN := 13) jIQ_212_11 (by decide) rfl ?_
  refine jT_adv 1 (pcN := 16) (LN := [(4, (4, 23)), (0, (4, 0)), (1, (4, 1)), (2, (1, 2 * N))]) (stN := []) (hsN := [jzQ_371, (101, [], [2 * x4 + 1, 0, 0, 0, 0, 0]), jgh, jgh, jgh, jgh, jgh, (130, [], [17, 18, 19, 20, 21, 22]), jgh, jgh, jgh, jgh, jgh, jgh, jgh, jgh, jgh, (100, [], (jenc (jlg 0))), (100, [], (jenc (jlg 1))), (100, [], (jenc (jlg 2))), (100, [], (jenc (jlg 3))), (100, [], (jenc (jlg 4))), (100, [], (jenc (jlg 5))), (101, [], [2 * x4 + 1, 0, 0, 0, 0, 0])]) (c1 := 0) (s1 := 0) (c2 := 19) (s2 := 1064) (by exact rfl) ?_ (by omega) (by omega)
  refine jT_xaload (v := (4, 23)) (pcN := 18) jIQ_212_16 rfl rfl rfl ?_
  refine jT_xiconst (k := 0) (pcN := 19) jIQ_212_18 rfl ?_
  refine jT_adv 1 (pcN := 20) (LN := [(4, (4, 23)), (0, (4, 0)), (1, (4, 1)), (2, (1, 2 * N))]) (stN := [(0, 0), (4, 23), (0, 0), (4, 23)]) (hsN := [jzQ_371, (101, [], [2 * x4 + 1, 0, 0, 0, 0, 0]), jgh, jgh, jgh, jgh, jgh, (130, [], [17, 18, 19, 20, 21, 22]), jgh, jgh, jgh, jgh, jgh, jgh, jgh, jgh, jgh, (100, [], (jenc (jlg 0))), (100, [], (jenc (jlg 1))), (100, [], (jenc (jlg 2))), (100, [], (jenc (jlg 3))), (100, [], (jenc (jlg 4))), (100, [], (jenc (jlg 5))), (101, [], [2 * x4 + 1, 0, 0, 0, 0, 0])]) (c1 := 0) (s1 := 0) (c2 := 19) (s2 := 1064) (by exact rfl) ?_ (by omega) (by omega)
  refine jT_lald (x := 2 * x4 + 1) (a := 23) (j := 0) (fs := []) (X := [2 * x4 + 1, 0, 0, 0, 0, 0]) jIQ_212_20 rfl rfl rfl rfl ?_
  refine jT_eq (LN := [(4, (4, 23)), (0, (4, 0)), (1, (4, 1)), (2, (1, 2 * N))]) (stN := [(1, 2 * x4 + 1), (0, 0), (4, 23)]) (hsN := [jzQ_371, (101, [], [2 * x4 + 1, 0, 0, 0, 0, 0]), jgh, jgh, jgh, jgh, jgh, (130, [], [17, 18, 19, 20, 21, 22]), jgh, jgh, jgh, jgh, jgh, jgh, jgh, jgh, jgh, (100, [], (jenc (jlg 0))), (100, [], (jenc (jlg 1))), (100, [], (jenc (jlg 2))), (100, [], (jenc (jlg 3))), (100, [], (jenc (jlg 4))), (100, [], (jenc (jlg 5))), (101, [], [2 * x4 + 1, 0, 0, 0, 0, 0])]) rfl rfl rfl ?_
  refine jT_xlload_n (v := (1, 2 * N)) (pcN := 22) jIQ_212_21 rfl rfl rfl ?_
  refine jT_xlsub (x := 2 * x4 + 1) (y := 2 * N) (z := (-2) * N + 2 * x4 + 1) (pcN := 23) jIQ_212_22 rfl (by omega) rfl ?_
  refine jT_adv 1 (pcN := 24) (LN := [(4, (4, 23)), (0, (4, 0)), (1, (4, 1)), (2, (1, 2 * N))]) (stN := []) (hsN := [jzQ_371, (101, [], [2 * x4 + 1, 0, 0, 0, 0, 0]), jgh, jgh, jgh, jgh, jgh, (130, [], [17, 18, 19, 20, 21, 22]), jgh, jgh, jgh, jgh, jgh, jgh, jgh, jgh, jgh, (100, [], (jenc (jlg 0))), (100, [], (jenc (jlg 1))), (100, [], (jenc (jlg 2))), (100, [], (jenc (jlg 3))), (100, [], (jenc (jlg 4))), (100, [], (jenc (jlg 5))), (101, [], [(-2) * N + 2 * x4 + 1, 0, 0, 0, 0, 0])]) (c1 := 0) (s1 := 0) (c2 := 19) (s2 := 1064) (by exact rfl) ?_ (by omega) (by omega)
  refine jT_xaload_n (v := (4, 0)) (pcN := 25) jIQ_212_24 rfl rfl rfl ?_
  refine jT_xaload (v := (4, 23)) (pcN := 27) jIQ_212_25 rfl rfl rfl ?_
  refine jT_callA [0, 23, 2, 3, 4, 5, 6, 7, 8, 9, 10, 11, 12, 13, 14, 15, 16, 17, 18, 19, 20, 21, 22] (y := 213) (pcN := 30) (dC := 3) (bc1 := 19) (bc2 := 1064) (c1 := 0) (c2 := 0) (as := [(4, 0), (4, 23)]) (asC := [(4, 0), (4, 1)]) (LN := [(4, (4, 23)), (0, (4, 0)), (1, (4, 1)), (2, (1, 2 * N))]) (stN := []) (hsC := [jzQ_371, (101, [], [(-2) * N + 2 * x4 + 1, 0, 0, 0, 0, 0]), jgh, jgh, jgh, jgh, jgh, (130, [], [17, 18, 19, 20, 21, 22]), jgh, jgh, jgh, jgh, jgh, jgh, jgh, jgh, jgh, (100, [], (jenc (jlg 0))), (100, [], (jenc (jlg 1))), (100, [], (jenc (jlg 2))), (100, [], (jenc (jlg 3))), (100, [], (jenc (jlg 4))), (100, [], (jenc (jlg 5)))]) (ex := []) (v := (0, (jlz ((-2) * N + 2 * x4 + 1) 0 0 0 0 0).sign)) (st2 := [(0, (jlz ((-2) * N + 2 * x4 + 1) 0 0 0 0 0).sign)]) (hs2 := [jzQ_371, (101, [], [2 * x4 + 1, 0, 0, 0, 0, 0]), jgh, jgh, jgh, jgh, jgh, (130, [], [17, 18, 19, 20, 21, 22]), jgh, jgh, jgh, jgh, jgh, jgh, jgh, jgh, jgh, (100, [], (jenc (jlg 0))), (100, [], (jenc (jlg 1))), (100, [], (jenc (jlg 2))), (100, [], (jenc (jlg 3))), (100, [], (jenc (jlg 4))), (100, [], (jenc (jlg 5))), (101, [], [(-2) * N + 2 * x4 + 1, 0, 0, 0, 0, 0])]) (jQl_sg_148 (d := 0) (e0 := (-2) * N + 2 * x4 + 1) (e1 := 0) (e2 := 0) (e3 := 0) (e4 := 0) (e5 := 0) (by omega) (by omega) (by omega) (by omega) (by omega) (by omega)) (by rfl) (by rfl) (by rfl) (by rfl) ⟨rfl, rfl, rfl, rfl, rfl, rfl, rfl, rfl, rfl, rfl, rfl, rfl, rfl, rfl, rfl, rfl, rfl, rfl, rfl, rfl, rfl, rfl, rfl, trivial⟩ (by rfl) (by rfl) (by omega) (by show 23 ≤ 24; omega) (by omega) (by omega) rfl rfl ?_
  have hb_q1 := jsgn_b (jlz ((-2) * N + 2 * x4 + 1) 0 0 0 0 0)
  generalize hq_q1 : (jlz ((-2) * N + 2 * x4 + 1) 0 0 0 0 0).sign = q1 at hb_q1 g_0 ⊢
  refine jT_loc (LN := [(0, (4, 0))]) (by show List.Nodup [0]; decide) (by intro q hq; simp only [List.mem_cons, List.not_mem_nil, or_false] at hq; rcases hq with rfl <;> rfl) ?_
  refine jT_drop 23 (hs0 := [jzQ_371, (101, [], [2 * x4 + 1, 0, 0, 0, 0, 0]), jgh, jgh, jgh, jgh, jgh, (130, [], [17, 18, 19, 20, 21, 22]), jgh, jgh, jgh, jgh, jgh, jgh, jgh, jgh, jgh, (100, [], (jenc (jlg 0))), (100, [], (jenc (jlg 1))), (100, [], (jenc (jlg 2))), (100, [], (jenc (jlg 3))), (100, [], (jenc (jlg 4))), (100, [], (jenc (jlg 5)))]) (ex := [(101, [], [(-2) * N + 2 * x4 + 1, 0, 0, 0, 0, 0])]) rfl rfl rfl (by decide) ?_
  subst hq_q1
  exact jT_ret rfl (by decide) (by show 23 ≤ 23; omega) (by omega) (by omega) ⟨rfl, rfl, rfl⟩
theorem jQ_212_269 {xs : List Int} {d : Nat} {N x4 : Int} (h_N : (-1099511627776) ≤ N ∧ N ≤ 1099511627776) (h_x4 : 1 ≤ x4 ∧ x4 ≤ 100) (g_0 : 0 ≤ (jlz ((-2) * N + 2 * x4 + 1) 0 0 0 0 0).sign) (g_1 : (jlz ((-2) * N + 2 * x4 - 1) 0 0 0 0 0).sign < 0) : jT xs (d + 4) 212 23 0 [(0, (4, 0)), (1, (4, 1)), (2, (1, 2 * N))] [] [jzQ_371, (101, [], [2 * x4 + 1, 0, 0, 0, 0, 0]), jgh, jgh, jgh, jgh, jgh, (130, [], [17, 18, 19, 20, 21, 22]), jgh, jgh, jgh, jgh, jgh, jgh, jgh, jgh, jgh, (100, [], (jenc (jlg 0))), (100, [], (jenc (jlg 1))), (100, [], (jenc (jlg 2))), (100, [], (jenc (jlg 3))), (100, [], (jenc (jlg 4))), (100, [], (jenc (jlg 5)))] 20 1070 (fun k v hsN => k = 0 ∧ v = (0, (jlz ((-2) * N + 2 * x4 + 1) 0 0 0 0 0).sign) ∧ hsN = [jzQ_371, (101, [], [2 * x4 + 1, 0, 0, 0, 0, 0]), jgh, jgh, jgh, jgh, jgh, (130, [], [17, 18, 19, 20, 21, 22]), jgh, jgh, jgh, jgh, jgh, jgh, jgh, jgh, jgh, (100, [], (jenc (jlg 0))), (100, [], (jenc (jlg 1))), (100, [], (jenc (jlg 2))), (100, [], (jenc (jlg 3))), (100, [], (jenc (jlg 4))), (100, [], (jenc (jlg 5)))] ++ []) := by
  refine jT_xbipush (k := 6) (pcN := 2) jIQ_212_0 (by decide) rfl ?_
  refine jT_adv 1 (pcN := 4) (LN := [(0, (4, 0)), (1, (4, 1)), (2, (1, 2 * N))]) (stN := [(4, 23)]) (hsN := [jzQ_371, (101, [], [2 * x4 + 1, 0, 0, 0, 0, 0]), jgh, jgh, jgh, jgh, jgh, (130, [], [17, 18, 19, 20, 21, 22]), jgh, jgh, jgh, jgh, jgh, jgh, jgh, jgh, jgh, (100, [], (jenc (jlg 0))), (100, [], (jenc (jlg 1))), (100, [], (jenc (jlg 2))), (100, [], (jenc (jlg 3))), (100, [], (jenc (jlg 4))), (100, [], (jenc (jlg 5))), (101, [], [0, 0, 0, 0, 0, 0])]) (c1 := 1) (s1 := 6) (c2 := 19) (s2 := 1064) (by exact rfl) ?_ (by omega) (by omega)
  refine jT_xastore (v := (4, 23)) (LN := [(4, (4, 23)), (0, (4, 0)), (1, (4, 1)), (2, (1, 2 * N))]) (pcN := 6) jIQ_212_4 rfl rfl rfl rfl ?_
  refine jT_xaload_n (v := (4, 1)) (pcN := 7) jIQ_212_6 rfl rfl rfl ?_
  refine jT_xiconst (k := 0) (pcN := 8) jIQ_212_7 rfl ?_
  refine jT_xaload (v := (4, 23)) (pcN := 10) jIQ_212_8 rfl rfl rfl ?_
  refine jT_xiconst (k := 0) (pcN := 11) jIQ_212_10 rfl ?_
  refine jT_xbipush (k := 6) (pcN := 13) jIQ_212_11 (by decide) rfl ?_
  refine jT_adv 1 (pcN := 16) (LN := [(4, (4, 23)), (0, (4, 0)), (1, (4, 1)), (2, (1, 2 * N))]) (stN := []) (hsN := [jzQ_371, (101, [], [2 * x4 + 1, 0, 0, 0, 0, 0]), jgh, jgh, jgh, jgh, jgh, (130, [], [17, 18, 19, 20, 21, 22]), jgh, jgh, jgh, jgh, jgh, jgh, jgh, jgh, jgh, (100, [], (jenc (jlg 0))), (100, [], (jenc (jlg 1))), (100, [], (jenc (jlg 2))), (100, [], (jenc (jlg 3))), (100, [], (jenc (jlg 4))), (100, [], (jenc (jlg 5))), (101, [], [2 * x4 + 1, 0, 0, 0, 0, 0])]) (c1 := 0) (s1 := 0) (c2 := 19) (s2 := 1064) (by exact rfl) ?_ (by omega) (by omega)
  refine jT_xaload (v := (4, 23)) (pcN := 18) jIQ_212_16 rfl rfl rfl ?_
  refine jT_xiconst (k := 0) (pcN := 19) jIQ_212_18 rfl ?_
  refine jT_adv 1 (pcN := 20) (LN := [(4, (4, 23)), (0, (4, 0)), (1, (4, 1)), (2, (1, 2 * N))]) (stN := [(0, 0), (4, 23), (0, 0), (4, 23)]) (hsN := [jzQ_371, (101, [], [2 * x4 + 1, 0, 0, 0, 0, 0]), jgh, jgh, jgh, jgh, jgh, (130, [], [17, 18, 19, 20, 21, 22]), jgh, jgh, jgh, jgh, jgh, jgh, jgh, jgh, jgh, (100, [], (jenc (jlg 0))), (100, [], (jenc (jlg 1))), (100, [], (jenc (jlg 2))), (100, [], (jenc (jlg 3))), (100, [], (jenc (jlg 4))), (100, [], (jenc (jlg 5))), (101, [], [2 * x4 + 1, 0, 0, 0, 0, 0])]) (c1 := 0) (s1 := 0) (c2 := 19) (s2 := 1064) (by exact rfl) ?_ (by omega) (by omega)
  refine jT_lald (x := 2 * x4 + 1) (a := 23) (j := 0) (fs := []) (X := [2 * x4 + 1, 0, 0, 0, 0, 0]) jIQ_212_20 rfl rfl rfl rfl ?_
  refine jT_eq (LN := [(4, (4, 23)), (0, (4, 0)), (1, (4, 1)), (2, (1, 2 * N))]) (stN := [(1, 2 * x4 + 1), (0, 0), (4, 23)]) (hsN := [jzQ_371, (101, [], [2 * x4 + 1, 0, 0, 0, 0, 0]), jgh, jgh, jgh, jgh, jgh, (130, [], [17, 18, 19, 20, 21, 22]), jgh, jgh, jgh, jgh, jgh, jgh, jgh, jgh, jgh, (100, [], (jenc (jlg 0))), (100, [], (jenc (jlg 1))), (100, [], (jenc (jlg 2))), (100, [], (jenc (jlg 3))), (100, [], (jenc (jlg 4))), (100, [], (jenc (jlg 5))), (101, [], [2 * x4 + 1, 0, 0, 0, 0, 0])]) rfl rfl rfl ?_
  refine jT_xlload_n (v := (1, 2 * N)) (pcN := 22) jIQ_212_21 rfl rfl rfl ?_
  refine jT_xlsub (x := 2 * x4 + 1) (y := 2 * N) (z := (-2) * N + 2 * x4 + 1) (pcN := 23) jIQ_212_22 rfl (by omega) rfl ?_
  refine jT_adv 1 (pcN := 24) (LN := [(4, (4, 23)), (0, (4, 0)), (1, (4, 1)), (2, (1, 2 * N))]) (stN := []) (hsN := [jzQ_371, (101, [], [2 * x4 + 1, 0, 0, 0, 0, 0]), jgh, jgh, jgh, jgh, jgh, (130, [], [17, 18, 19, 20, 21, 22]), jgh, jgh, jgh, jgh, jgh, jgh, jgh, jgh, jgh, (100, [], (jenc (jlg 0))), (100, [], (jenc (jlg 1))), (100, [], (jenc (jlg 2))), (100, [], (jenc (jlg 3))), (100, [], (jenc (jlg 4))), (100, [], (jenc (jlg 5))), (101, [], [(-2) * N + 2 * x4 + 1, 0, 0, 0, 0, 0])]) (c1 := 0) (s1 := 0) (c2 := 19) (s2 := 1064) (by exact rfl) ?_ (by omega) (by omega)
  refine jT_xaload_n (v := (4, 0)) (pcN := 25) jIQ_212_24 rfl rfl rfl ?_
  refine jT_xaload (v := (4, 23)) (pcN := 27) jIQ_212_25 rfl rfl rfl ?_
  refine jT_callA [0, 23, 2, 3, 4, 5, 6, 7, 8, 9, 10, 11, 12, 13, 14, 15, 16, 17, 18, 19, 20, 21, 22] (y := 213) (pcN := 30) (dC := 3) (bc1 := 19) (bc2 := 1064) (c1 := 0) (c2 := 0) (as := [(4, 0), (4, 23)]) (asC := [(4, 0), (4, 1)]) (LN := [(4, (4, 23)), (0, (4, 0)), (1, (4, 1)), (2, (1, 2 * N))]) (stN := []) (hsC := [jzQ_371, (101, [], [(-2) * N + 2 * x4 + 1, 0, 0, 0, 0, 0]), jgh, jgh, jgh, jgh, jgh, (130, [], [17, 18, 19, 20, 21, 22]), jgh, jgh, jgh, jgh, jgh, jgh, jgh, jgh, jgh, (100, [], (jenc (jlg 0))), (100, [], (jenc (jlg 1))), (100, [], (jenc (jlg 2))), (100, [], (jenc (jlg 3))), (100, [], (jenc (jlg 4))), (100, [], (jenc (jlg 5)))]) (ex := []) (v := (0, (jlz ((-2) * N + 2 * x4 + 1) 0 0 0 0 0).sign)) (st2 := [(0, (jlz ((-2) * N + 2 * x4 + 1) 0 0 0 0 0).sign)]) (hs2 := [jzQ_371, (101, [], [2 * x4 + 1, 0, 0, 0, 0, 0]), jgh, jgh, jgh, jgh, jgh, (130, [], [17, 18, 19, 20, 21, 22]), jgh, jgh, jgh, jgh, jgh, jgh, jgh, jgh, jgh, (100, [], (jenc (jlg 0))), (100, [], (jenc (jlg 1))), (100, [], (jenc (jlg 2))), (100, [], (jenc (jlg 3))), (100, [], (jenc (jlg 4))), (100, [], (jenc (jlg 5))), (101, [], [(-2) * N + 2 * x4 + 1, 0, 0, 0, 0, 0])]) (jQl_sg_148 (d := 0) (e0 := (-2) * N + 2 * x4 + 1) (e1 := 0) (e2 := 0) (e3 := 0) (e4 := 0) (e5 := 0) (by omega) (by omega) (by omega) (by omega) (by omega) (by omega)) (by rfl) (by rfl) (by rfl) (by rfl) ⟨rfl, rfl, rfl, rfl, rfl, rfl, rfl, rfl, rfl, rfl, rfl, rfl, rfl, rfl, rfl, rfl, rfl, rfl, rfl, rfl, rfl, rfl, rfl, trivial⟩ (by rfl) (by rfl) (by omega) (by show 23 ≤ 24; omega) (by omega) (by omega) rfl rfl ?_
  have hb_q1 := jsgn_b (jlz ((-2) * N + 2 * x4 + 1) 0 0 0 0 0)
  generalize hq_q1 : (jlz ((-2) * N + 2 * x4 + 1) 0 0 0 0 0).sign = q1 at hb_q1 g_0 ⊢
  refine jT_loc (LN := [(0, (4, 0))]) (by show List.Nodup [0]; decide) (by intro q hq; simp only [List.mem_cons, List.not_mem_nil, or_false] at hq; rcases hq with rfl <;> rfl) ?_
  refine jT_drop 23 (hs0 := [jzQ_371, (101, [], [2 * x4 + 1, 0, 0, 0, 0, 0]), jgh, jgh, jgh, jgh, jgh, (130, [], [17, 18, 19, 20, 21, 22]), jgh, jgh, jgh, jgh, jgh, jgh, jgh, jgh, jgh, (100, [], (jenc (jlg 0))), (100, [], (jenc (jlg 1))), (100, [], (jenc (jlg 2))), (100, [], (jenc (jlg 3))), (100, [], (jenc (jlg 4))), (100, [], (jenc (jlg 5)))]) (ex := [(101, [], [(-2) * N + 2 * x4 + 1, 0, 0, 0, 0, 0])]) rfl rfl rfl (by decide) ?_
  subst hq_q1
  exact jT_ret rfl (by decide) (by show 23 ≤ 23; omega) (by omega) (by omega) ⟨rfl, rfl, rfl⟩
theorem jQl_pc_263 {xs : List Int} {d : Nat} {x4 : Int} (h_x4 : 1 ≤ x4 ∧ x4 ≤ 100) {N d1 d2 d3 d4 d5 d6 d7 d8 : Int} (fd1 : ((FP.l2d (Int64.ofInt (2 * x4 + 1))).toNat : Int) = d1) (fd2 : jn64 (FP.dadd (ju64 d1) (ju64 0)) = true ∧ ((FP.dadd (ju64 d1) (ju64 0)).toNat : Int) = d2) (fd3 : jn64 (FP.dadd (ju64 d2) (ju64 0)) = true ∧ ((FP.dadd (ju64 d2) (ju64 0)).toNat : Int) = d3) (fd4 : jn64 (FP.dadd (ju64 d3) (ju64 0)) = true ∧ ((FP.dadd (ju64 d3) (ju64 0)).toNat : Int) = d4) (fd5 : jn64 (FP.dadd (ju64 d4) (ju64 0)) = true ∧ ((FP.dadd (ju64 d4) (ju64 0)).toNat : Int) = d5) (fd6 : jn64 (FP.dadd (ju64 d5) (ju64 0)) = true ∧ ((FP.dadd (ju64 d5) (ju64 0)).toNat : Int) = d6) (fd7 : jn64 (FP.ddiv (ju64 d6) (ju64 4611686018427387904)) = true ∧ ((FP.ddiv (ju64 d6) (ju64 4611686018427387904)).toNat : Int) = d7) (fd8 : (FP.d2l (ju64 d7)).toInt = d8) (h_N : (-1099511627776) ≤ N ∧ N ≤ 1099511627776) (h1 : N ≤ d8) (h2 : d8 ≤ N + 1) (hA : 0 ≤ jlz ((-2) * N + 2 * x4 + 1) 0 0 0 0 0) (hB : jlz ((-2) * N + 2 * x4 - 1) 0 0 0 0 0 < 0) : jT xs (d + 5) 210 23 0 [(0, (4, 0)), (1, (4, 1)), (2, (1, 2))] [] [jzQ_371, (101, [], [2 * x4 + 1, 0, 0, 0, 0, 0]), jgh, jgh, jgh, jgh, jgh, (130, [], [17, 18, 19, 20, 21, 22]), jgh, jgh, jgh, jgh, jgh, jgh, jgh, jgh, jgh, (100, [], (jenc (jlg 0))), (100, [], (jenc (jlg 1))), (100, [], (jenc (jlg 2))), (100, [], (jenc (jlg 3))), (100, [], (jenc (jlg 4))), (100, [], (jenc (jlg 5)))] 60 3210 (fun k v hsN => k = 0 ∧ v = (1, N) ∧ hsN = [jzQ_371, (101, [], [2 * x4 + 1, 0, 0, 0, 0, 0]), jgh, jgh, jgh, jgh, jgh, (130, [], [17, 18, 19, 20, 21, 22]), jgh, jgh, jgh, jgh, jgh, jgh, jgh, jgh, jgh, (100, [], (jenc (jlg 0))), (100, [], (jenc (jlg 1))), (100, [], (jenc (jlg 2))), (100, [], (jenc (jlg 3))), (100, [], (jenc (jlg 4))), (100, [], (jenc (jlg 5)))]) := by
  rcases (show d8 = N + 1 ∨ d8 = N by omega) with g_n | g_n
  · have g_0 : (jlz ((-2) * N + 2 * x4 - 1) 0 0 0 0 0).sign < 0 := jsgn_n (Int.lt_of_le_of_lt (jlz_mono (by omega)) hB)
    have g_1 : 0 ≤ (jlz ((-2) * N + 2 * x4 + 1) 0 0 0 0 0).sign := jsgn_p (Int.le_trans hA (jlz_mono (by omega)))
    refine jT_xaload_n (v := (4, 1)) (pcN := 1) jIQ_210_0 rfl rfl rfl ?_
    refine jT_callA [1] (y := 211) (pcN := 4) (dC := 0) (bc1 := 0) (bc2 := 0) (c1 := 60) (c2 := 3210) (as := [(4, 1)]) (asC := [(4, 0)]) (LN := [(0, (4, 0)), (1, (4, 1)), (2, (1, 2))]) (stN := []) (hsC := [(101, [], [2 * x4 + 1, 0, 0, 0, 0, 0])]) (ex := []) (v := (3, d6)) (st2 := [(3, d6)]) (hs2 := [jzQ_371, (101, [], [2 * x4 + 1, 0, 0, 0, 0, 0]), jgh, jgh, jgh, jgh, jgh, (130, [], [17, 18, 19, 20, 21, 22]), jgh, jgh, jgh, jgh, jgh, jgh, jgh, jgh, jgh, (100, [], (jenc (jlg 0))), (100, [], (jenc (jlg 1))), (100, [], (jenc (jlg 2))), (100, [], (jenc (jlg 3))), (100, [], (jenc (jlg 4))), (100, [], (jenc (jlg 5)))]) (jQl_ro_262 (d := 0) (by omega) fd1 fd2 fd3 fd4 fd5 fd6) (by rfl) (by rfl) (by rfl) (by rfl) ⟨rfl, trivial⟩ (by rfl) (by rfl) (by omega) (by show 23 ≤ 23; omega) (by omega) (by omega) rfl rfl ?_
    refine jT_xlload_n (v := (1, 2)) (pcN := 5) jIQ_210_4 rfl rfl rfl ?_
    refine jT_l2d (x := 2) (z := 4611686018427387904) (by rfl) (by rfl) (by decide +kernel) ?_
    refine jT_ddiv (x := d6) (y := 4611686018427387904) (z := d7) (by rfl) (by rfl) fd7 ?_
    refine jT_d2l (x := d7) (z := d8) (by rfl) (by rfl) fd8 ?_
    refine jT_xlstore (v := (1, d8)) (LN := [(4, (1, d8)), (0, (4, 0)), (1, (4, 1)), (2, (1, 2))]) (pcN := 10) jIQ_210_8 rfl rfl rfl rfl ?_
    refine jT_eq (LN := [(4, (1, N + 1)), (0, (4, 0)), (1, (4, 1)), (2, (1, 2))]) (stN := []) (hsN := [jzQ_371, (101, [], [2 * x4 + 1, 0, 0, 0, 0, 0]), jgh, jgh, jgh, jgh, jgh, (130, [], [17, 18, 19, 20, 21, 22]), jgh, jgh, jgh, jgh, jgh, jgh, jgh, jgh, jgh, (100, [], (jenc (jlg 0))), (100, [], (jenc (jlg 1))), (100, [], (jenc (jlg 2))), (100, [], (jenc (jlg 3))), (100, [], (jenc (jlg 4))), (100, [], (jenc (jlg 5)))]) (by rw [g_n]) rfl rfl ?_
    refine jT_xaload_n (v := (4, 0)) (pcN := 11) jIQ_210_10 rfl rfl rfl ?_
    refine jT_xaload_n (v := (4, 1)) (pcN := 12) jIQ_210_11 rfl rfl rfl ?_
    refine jT_xlload (v := (1, N + 1)) (pcN := 14) jIQ_210_12 rfl rfl rfl ?_
    refine jT_xlload_n (v := (1, 2)) (pcN := 15) jIQ_210_14 rfl rfl rfl ?_
    refine jT_xlmul (x := N + 1) (y := 2) (z := 2 * N + 2) (pcN := 16) jIQ_210_15 rfl (by omega) rfl ?_
    refine jT_callA [0, 1, 2, 3, 4, 5, 6, 7, 8, 9, 10, 11, 12, 13, 14, 15, 16, 17, 18, 19, 20, 21, 22] (y := 212) (pcN := 19) (dC := 4) (bc1 := 20) (bc2 := 1070) (c1 := 40) (c2 := 2140) (as := [(4, 0), (4, 1), (1, 2 * N + 2)]) (asC := [(4, 0), (4, 1), (1, 2 * N + 2)]) (LN := [(4, (1, N + 1)), (0, (4, 0)), (1, (4, 1)), (2, (1, 2))]) (stN := []) (hsC := [jzQ_371, (101, [], [2 * x4 + 1, 0, 0, 0, 0, 0]), jgh, jgh, jgh, jgh, jgh, (130, [], [17, 18, 19, 20, 21, 22]), jgh, jgh, jgh, jgh, jgh, jgh, jgh, jgh, jgh, (100, [], (jenc (jlg 0))), (100, [], (jenc (jlg 1))), (100, [], (jenc (jlg 2))), (100, [], (jenc (jlg 3))), (100, [], (jenc (jlg 4))), (100, [], (jenc (jlg 5)))]) (ex := []) (v := (0, (jlz ((-2) * N + 2 * x4 - 1) 0 0 0 0 0).sign)) (st2 := [(0, (jlz ((-2) * N + 2 * x4 - 1) 0 0 0 0 0).sign)]) (hs2 := [jzQ_371, (101, [], [2 * x4 + 1, 0, 0, 0, 0, 0]), jgh, jgh, jgh, jgh, jgh, (130, [], [17, 18, 19, 20, 21, 22]), jgh, jgh, jgh, jgh, jgh, jgh, jgh, jgh, jgh, (100, [], (jenc (jlg 0))), (100, [], (jenc (jlg 1))), (100, [], (jenc (jlg 2))), (100, [], (jenc (jlg 3))), (100, [], (jenc (jlg 4))), (100, [], (jenc (jlg 5)))]) (jQ_212_267 (d := 0) (by omega) (by omega) (by omega) (by omega)) (by rfl) (by rfl) (by rfl) (by rfl) ⟨rfl, rfl, rfl, rfl, rfl, rfl, rfl, rfl, rfl, rfl, rfl, rfl, rfl, rfl, rfl, rfl, rfl, rfl, rfl, rfl, rfl, rfl, rfl, trivial⟩ (by rfl) (by rfl) (by omega) (by show 23 ≤ 23; omega) (by omega) (by omega) rfl rfl ?_
    have hb_q1 := jsgn_b (jlz ((-2) * N + 2 * x4 - 1) 0 0 0 0 0)
    generalize hq_q1 : (jlz ((-2) * N + 2 * x4 - 1) 0 0 0 0 0).sign = q1 at hb_q1 g_0 ⊢
    refine jT_ifF (a := q1) (t := 31) (by rfl) (by rfl) (by rfl) (jw_idd (by omega) (by omega)) (by simp only [jcP] <;> omega) ?_
    refine jT_xlload (v := (1, N + 1)) (pcN := 24) jIQ_210_22 rfl rfl rfl ?_
    refine jT_xlconst (z := 1) (pcN := 25) jIQ_210_24 rfl rfl ?_
    refine jT_xlsub (x := N + 1) (y := 1) (z := N) (pcN := 26) jIQ_210_25 rfl (by omega) rfl ?_
    refine jT_xlstore (v := (1, N)) (LN := [(4, (1, N)), (0, (4, 0)), (1, (4, 1)), (2, (1, 2))]) (pcN := 28) jIQ_210_26 rfl rfl rfl rfl ?_
    refine jT_xgoto (pcN := 10) jIQ_210_28 rfl ?_
    refine jT_xaload_n (v := (4, 0)) (pcN := 11) jIQ_210_10 rfl rfl rfl ?_
    refine jT_xaload_n (v := (4, 1)) (pcN := 12) jIQ_210_11 rfl rfl rfl ?_
    refine jT_xlload (v := (1, N)) (pcN := 14) jIQ_210_12 rfl rfl rfl ?_
    refine jT_xlload_n (v := (1, 2)) (pcN := 15) jIQ_210_14 rfl rfl rfl ?_
    refine jT_xlmul (x := N) (y := 2) (z := 2 * N) (pcN := 16) jIQ_210_15 rfl (by omega) rfl ?_
    refine jT_callA [0, 1, 2, 3, 4, 5, 6, 7, 8, 9, 10, 11, 12, 13, 14, 15, 16, 17, 18, 19, 20, 21, 22] (y := 212) (pcN := 19) (dC := 4) (bc1 := 20) (bc2 := 1070) (c1 := 20) (c2 := 1070) (as := [(4, 0), (4, 1), (1, 2 * N)]) (asC := [(4, 0), (4, 1), (1, 2 * N)]) (LN := [(4, (1, N)), (0, (4, 0)), (1, (4, 1)), (2, (1, 2))]) (stN := []) (hsC := [jzQ_371, (101, [], [2 * x4 + 1, 0, 0, 0, 0, 0]), jgh, jgh, jgh, jgh, jgh, (130, [], [17, 18, 19, 20, 21, 22]), jgh, jgh, jgh, jgh, jgh, jgh, jgh, jgh, jgh, (100, [], (jenc (jlg 0))), (100, [], (jenc (jlg 1))), (100, [], (jenc (jlg 2))), (100, [], (jenc (jlg 3))), (100, [], (jenc (jlg 4))), (100, [], (jenc (jlg 5)))]) (ex := []) (v := (0, (jlz ((-2) * N + 2 * x4 + 1) 0 0 0 0 0).sign)) (st2 := [(0, (jlz ((-2) * N + 2 * x4 + 1) 0 0 0 0 0).sign)]) (hs2 := [jzQ_371, (101, [], [2 * x4 + 1, 0, 0, 0, 0, 0]), jgh, jgh, jgh, jgh, jgh, (130, [], [17, 18, 19, 20, 21, 22]), jgh, jgh, jgh, jgh, jgh, jgh, jgh, jgh, jgh, (100, [], (jenc (jlg 0))), (100, [], (jenc (jlg 1))), (100, [], (jenc (jlg 2))), (100, [], (jenc (jlg 3))), (100, [], (jenc (jlg 4))), (100, [], (jenc (jlg 5)))]) (jQ_212_268 (d := 0) (by omega) (by omega) (by omega)) (by rfl) (by rfl) (by rfl) (by rfl) ⟨rfl, rfl, rfl, rfl, rfl, rfl, rfl, rfl, rfl, rfl, rfl, rfl, rfl, rfl, rfl, rfl, rfl, rfl, rfl, rfl, rfl, rfl, rfl, trivial⟩ (by rfl) (by rfl) (by omega) (by show 23 ≤ 23; omega) (by omega) (by omega) rfl rfl ?_
    have hb_q2 := jsgn_b (jlz ((-2) * N + 2 * x4 + 1) 0 0 0 0 0)
    generalize hq_q2 : (jlz ((-2) * N + 2 * x4 + 1) 0 0 0 0 0).sign = q2 at hb_q2 g_1 ⊢
    refine jT_ifT (a := q2) (t := 31) (by rfl) (by rfl) (by rfl) (jw_idd (by omega) (by omega)) (by simp only [jcP] <;> omega) ?_
    refine jT_xaload_n (v := (4, 0)) (pcN := 32) jIQ_210_31 rfl rfl rfl ?_
    refine jT_xaload_n (v := (4, 1)) (pcN := 33) jIQ_210_32 rfl rfl rfl ?_
    refine jT_xlload (v := (1, N)) (pcN := 35) jIQ_210_33 rfl rfl rfl ?_
    refine jT_xlconst (z := 1) (pcN := 36) jIQ_210_35 rfl rfl ?_
    refine jT_xladd (x := N) (y := 1) (z := N + 1) (pcN := 37) jIQ_210_36 rfl (rfl) rfl ?_
    refine jT_xlload_n (v := (1, 2)) (pcN := 38) jIQ_210_37 rfl rfl rfl ?_
    refine jT_xlmul (x := N + 1) (y := 2) (z := 2 * N + 2) (pcN := 39) jIQ_210_38 rfl (by omega) rfl ?_
    refine jT_callA [0, 1, 2, 3, 4, 5, 6, 7, 8, 9, 10, 11, 12, 13, 14, 15, 16, 17, 18, 19, 20, 21, 22] (y := 212) (pcN := 42) (dC := 4) (bc1 := 20) (bc2 := 1070) (c1 := 0) (c2 := 0) (as := [(4, 0), (4, 1), (1, 2 * N + 2)]) (asC := [(4, 0), (4, 1), (1, 2 * N + 2)]) (LN := [(4, (1, N)), (0, (4, 0)), (1, (4, 1)), (2, (1, 2))]) (stN := []) (hsC := [jzQ_371, (101, [], [2 * x4 + 1, 0, 0, 0, 0, 0]), jgh, jgh, jgh, jgh, jgh, (130, [], [17, 18, 19, 20, 21, 22]), jgh, jgh, jgh, jgh, jgh, jgh, jgh, jgh, jgh, (100, [], (jenc (jlg 0))), (100, [], (jenc (jlg 1))), (100, [], (jenc (jlg 2))), (100, [], (jenc (jlg 3))), (100, [], (jenc (jlg 4))), (100, [], (jenc (jlg 5)))]) (ex := []) (v := (0, (jlz ((-2) * N + 2 * x4 - 1) 0 0 0 0 0).sign)) (st2 := [(0, (jlz ((-2) * N + 2 * x4 - 1) 0 0 0 0 0).sign)]) (hs2 := [jzQ_371, (101, [], [2 * x4 + 1, 0, 0, 0, 0, 0]), jgh, jgh, jgh, jgh, jgh, (130, [], [17, 18, 19, 20, 21, 22]), jgh, jgh, jgh, jgh, jgh, jgh, jgh, jgh, jgh, (100, [], (jenc (jlg 0))), (100, [], (jenc (jlg 1))), (100, [], (jenc (jlg 2))), (100, [], (jenc (jlg 3))), (100, [], (jenc (jlg 4))), (100, [], (jenc (jlg 5)))]) (jQ_212_264 (d := 0) (by omega) (by omega)) (by rfl) (by rfl) (by rfl) (by rfl) ⟨rfl, rfl, rfl, rfl, rfl, rfl, rfl, rfl, rfl, rfl, rfl, rfl, rfl, rfl, rfl, rfl, rfl, rfl, rfl, rfl, rfl, rfl, rfl, trivial⟩ (by rfl) (by rfl) (by omega) (by show 23 ≤ 23; omega) (by omega) (by omega) rfl rfl ?_
    rw [hq_q1]
    refine jT_ifT (a := q1) (t := 54) (by rfl) (by rfl) (by rfl) (jw_idd (by omega) (by omega)) (by simp only [jcP] <;> omega) ?_
    refine jT_xlload (v := (1, N)) (pcN := 56) jIQ_210_54 rfl rfl rfl ?_
    exact jT_ret rfl (by decide) (by show 23 ≤ 23; decide) (by omega) (by omega) ⟨rfl, rfl, rfl⟩
  · have g_0 : 0 ≤ (jlz ((-2) * N + 2 * x4 + 1) 0 0 0 0 0).sign := jsgn_p (Int.le_trans hA (jlz_mono (by omega)))
    have g_1 : (jlz ((-2) * N + 2 * x4 - 1) 0 0 0 0 0).sign < 0 := jsgn_n (Int.lt_of_le_of_lt (jlz_mono (by omega)) hB)
    refine jT_xaload_n (v := (4, 1)) (pcN := 1) jIQ_210_0 rfl rfl rfl ?_
    refine jT_callA [1] (y := 211) (pcN := 4) (dC := 0) (bc1 := 0) (bc2 := 0) (c1 := 60) (c2 := 3210) (as := [(4, 1)]) (asC := [(4, 0)]) (LN := [(0, (4, 0)), (1, (4, 1)), (2, (1, 2))]) (stN := []) (hsC := [(101, [], [2 * x4 + 1, 0, 0, 0, 0, 0])]) (ex := []) (v := (3, d6)) (st2 := [(3, d6)]) (hs2 := [jzQ_371, (101, [], [2 * x4 + 1, 0, 0, 0, 0, 0]), jgh, jgh, jgh, jgh, jgh, (130, [], [17, 18, 19, 20, 21, 22]), jgh, jgh, jgh, jgh, jgh, jgh, jgh, jgh, jgh, (100, [], (jenc (jlg 0))), (100, [], (jenc (jlg 1))), (100, [], (jenc (jlg 2))), (100, [], (jenc (jlg 3))), (100, [], (jenc (jlg 4))), (100, [], (jenc (jlg 5)))]) (jQl_ro_262 (d := 0) (by omega) fd1 fd2 fd3 fd4 fd5 fd6) (by rfl) (by rfl) (by rfl) (by rfl) ⟨rfl, trivial⟩ (by rfl) (by rfl) (by omega) (by show 23 ≤ 23; omega) (by omega) (by omega) rfl rfl ?_
    refine jT_xlload_n (v := (1, 2)) (pcN := 5) jIQ_210_4 rfl rfl rfl ?_
    refine jT_l2d (x := 2) (z := 4611686018427387904) (by rfl) (by rfl) (by decide +kernel) ?_
    refine jT_ddiv (x := d6) (y := 4611686018427387904) (z := d7) (by rfl) (by rfl) fd7 ?_
    refine jT_d2l (x := d7) (z := d8) (by rfl) (by rfl) fd8 ?_
    refine jT_xlstore (v := (1, d8)) (LN := [(4, (1, d8)), (0, (4, 0)), (1, (4, 1)), (2, (1, 2))]) (pcN := 10) jIQ_210_8 rfl rfl rfl rfl ?_
    refine jT_eq (LN := [(4, (1, N)), (0, (4, 0)), (1, (4, 1)), (2, (1, 2))]) (stN := []) (hsN := [jzQ_371, (101, [], [2 * x4 + 1, 0, 0, 0, 0, 0]), jgh, jgh, jgh, jgh, jgh, (130, [], [17, 18, 19, 20, 21, 22]), jgh, jgh, jgh, jgh, jgh, jgh, jgh, jgh, jgh, (100, [], (jenc (jlg 0))), (100, [], (jenc (jlg 1))), (100, [], (jenc (jlg 2))), (100, [], (jenc (jlg 3))), (100, [], (jenc (jlg 4))), (100, [], (jenc (jlg 5)))]) (by rw [g_n]) rfl rfl ?_
    refine jT_xaload_n (v := (4, 0)) (pcN := 11) jIQ_210_10 rfl rfl rfl ?_
    refine jT_xaload_n (v := (4, 1)) (pcN := 12) jIQ_210_11 rfl rfl rfl ?_
    refine jT_xlload (v := (1, N)) (pcN := 14) jIQ_210_12 rfl rfl rfl ?_
    refine jT_xlload_n (v := (1, 2)) (pcN := 15) jIQ_210_14 rfl rfl rfl ?_
    refine jT_xlmul (x := N) (y := 2) (z := 2 * N) (pcN := 16) jIQ_210_15 rfl (by omega) rfl ?_
    refine jT_callA [0, 1, 2, 3, 4, 5, 6, 7, 8, 9, 10, 11, 12, 13, 14, 15, 16, 17, 18, 19, 20, 21, 22] (y := 212) (pcN := 19) (dC := 4) (bc1 := 20) (bc2 := 1070) (c1 := 40) (c2 := 2140) (as := [(4, 0), (4, 1), (1, 2 * N)]) (asC := [(4, 0), (4, 1), (1, 2 * N)]) (LN := [(4, (1, N)), (0, (4, 0)), (1, (4, 1)), (2, (1, 2))]) (stN := []) (hsC := [jzQ_371, (101, [], [2 * x4 + 1, 0, 0, 0, 0, 0]), jgh, jgh, jgh, jgh, jgh, (130, [], [17, 18, 19, 20, 21, 22]), jgh, jgh, jgh, jgh, jgh, jgh, jgh, jgh, jgh, (100, [], (jenc (jlg 0))), (100, [], (jenc (jlg 1))), (100, [], (jenc (jlg 2))), (100, [], (jenc (jlg 3))), (100, [], (jenc (jlg 4))), (100, [], (jenc (jlg 5)))]) (ex := []) (v := (0, (jlz ((-2) * N + 2 * x4 + 1) 0 0 0 0 0).sign)) (st2 := [(0, (jlz ((-2) * N + 2 * x4 + 1) 0 0 0 0 0).sign)]) (hs2 := [jzQ_371, (101, [], [2 * x4 + 1, 0, 0, 0, 0, 0]), jgh, jgh, jgh, jgh, jgh, (130, [], [17, 18, 19, 20, 21, 22]), jgh, jgh, jgh, jgh, jgh, jgh, jgh, jgh, jgh, (100, [], (jenc (jlg 0))), (100, [], (jenc (jlg 1))), (100, [], (jenc (jlg 2))), (100, [], (jenc (jlg 3))), (100, [], (jenc (jlg 4))), (100, [], (jenc (jlg 5)))]) (jQ_212_269 (d := 0) (by omega) (by omega) (by omega) (by omega)) (by rfl) (by rfl) (by rfl) (by rfl) ⟨rfl, rfl, rfl, rfl, rfl, rfl, rfl, rfl, rfl, rfl, rfl, rfl, rfl, rfl, rfl, rfl, rfl, rfl, rfl, rfl, rfl, rfl, rfl, trivial⟩ (by rfl) (by rfl) (by omega) (by show 23 ≤ 23; omega) (by omega) (by omega) rfl rfl ?_
    have hb_q1 := jsgn_b (jlz ((-2) * N + 2 * x4 + 1) 0 0 0 0 0)
    generalize hq_q1 : (jlz ((-2) * N + 2 * x4 + 1) 0 0 0 0 0).sign = q1 at hb_q1 g_0 ⊢
    refine jT_ifT (a := q1) (t := 31) (by rfl) (by rfl) (by rfl) (jw_idd (by omega) (by omega)) (by simp only [jcP] <;> omega) ?_
    refine jT_xaload_n (v := (4, 0)) (pcN := 32) jIQ_210_31 rfl rfl rfl ?_
    refine jT_xaload_n (v := (4, 1)) (pcN := 33) jIQ_210_32 rfl rfl rfl ?_
    refine jT_xlload (v := (1, N)) (pcN := 35) jIQ_210_33 rfl rfl rfl ?_
    refine jT_xlconst (z := 1) (pcN := 36) jIQ_210_35 rfl rfl ?_
    refine jT_xladd (x := N) (y := 1) (z := N + 1) (pcN := 37) jIQ_210_36 rfl (rfl) rfl ?_
    refine jT_xlload_n (v := (1, 2)) (pcN := 38) jIQ_210_37 rfl rfl rfl ?_
    refine jT_xlmul (x := N + 1) (y := 2) (z := 2 * N + 2) (pcN := 39) jIQ_210_38 rfl (by omega) rfl ?_
    refine jT_callA [0, 1, 2, 3, 4, 5, 6, 7, 8, 9, 10, 11, 12, 13, 14, 15, 16, 17, 18, 19, 20, 21, 22] (y := 212) (pcN := 42) (dC := 4) (bc1 := 20) (bc2 := 1070) (c1 := 20) (c2 := 1070) (as := [(4, 0), (4, 1), (1, 2 * N + 2)]) (asC := [(4, 0), (4, 1), (1, 2 * N + 2)]) (LN := [(4, (1, N)), (0, (4, 0)), (1, (4, 1)), (2, (1, 2))]) (stN := []) (hsC := [jzQ_371, (101, [], [2 * x4 + 1, 0, 0, 0, 0, 0]), jgh, jgh, jgh, jgh, jgh, (130, [], [17, 18, 19, 20, 21, 22]), jgh, jgh, jgh, jgh, jgh, jgh, jgh, jgh, jgh, (100, [], (jenc (jlg 0))), (100, [], (jenc (jlg 1))), (100, [], (jenc (jlg 2))), (100, [], (jenc (jlg 3))), (100, [], (jenc (jlg 4))), (100, [], (jenc (jlg 5)))]) (ex := []) (v := (0, (jlz ((-2) * N + 2 * x4 - 1) 0 0 0 0 0).sign)) (st2 := [(0, (jlz ((-2) * N + 2 * x4 - 1) 0 0 0 0 0).sign)]) (hs2 := [jzQ_371, (101, [], [2 * x4 + 1, 0, 0, 0, 0, 0]), jgh, jgh, jgh, jgh, jgh, (130, [], [17, 18, 19, 20, 21, 22]), jgh, jgh, jgh, jgh, jgh, jgh, jgh, jgh, jgh, (100, [], (jenc (jlg 0))), (100, [], (jenc (jlg 1))), (100, [], (jenc (jlg 2))), (100, [], (jenc (jlg 3))), (100, [], (jenc (jlg 4))), (100, [], (jenc (jlg 5)))]) (jQ_212_265 (d := 0) (by omega) (by omega) (by omega)) (by rfl) (by rfl) (by rfl) (by rfl) ⟨rfl, rfl, rfl, rfl, rfl, rfl, rfl, rfl, rfl, rfl, rfl, rfl, rfl, rfl, rfl, rfl, rfl, rfl, rfl, rfl, rfl, rfl, rfl, trivial⟩ (by rfl) (by rfl) (by omega) (by show 23 ≤ 23; omega) (by omega) (by omega) rfl rfl ?_
    have hb_q2 := jsgn_b (jlz ((-2) * N + 2 * x4 - 1) 0 0 0 0 0)
    generalize hq_q2 : (jlz ((-2) * N + 2 * x4 - 1) 0 0 0 0 0).sign = q2 at hb_q2 g_1 ⊢
    refine jT_ifT (a := q2) (t := 54) (by rfl) (by rfl) (by rfl) (jw_idd (by omega) (by omega)) (by simp only [jcP] <;> omega) ?_
    refine jT_xlload (v := (1, N)) (pcN := 56) jIQ_210_54 rfl rfl rfl ?_
    exact jT_ret rfl (by decide) (by show 23 ≤ 23; decide) (by omega) (by omega) ⟨rfl, rfl, rfl⟩
theorem jQl_ps_270 {xs : List Int} {d : Nat} {x4 : Int} (h_x4 : 1 ≤ x4 ∧ x4 ≤ 100) : jT xs (d + 5) 210 23 0 [(0, (4, 0)), (1, (4, 1)), (2, (1, 2))] [] [jzQ_371, (101, [], [2 * x4 + 1, 0, 0, 0, 0, 0]), jgh, jgh, jgh, jgh, jgh, (130, [], [17, 18, 19, 20, 21, 22]), jgh, jgh, jgh, jgh, jgh, jgh, jgh, jgh, jgh, (100, [], (jenc (jlg 0))), (100, [], (jenc (jlg 1))), (100, [], (jenc (jlg 2))), (100, [], (jenc (jlg 3))), (100, [], (jenc (jlg 4))), (100, [], (jenc (jlg 5)))] 60 3210 (fun k v hsN => k = 0 ∧ v = (1, jbp0 x4) ∧ hsN = [jzQ_371, (101, [], [2 * x4 + 1, 0, 0, 0, 0, 0]), jgh, jgh, jgh, jgh, jgh, (130, [], [17, 18, 19, 20, 21, 22]), jgh, jgh, jgh, jgh, jgh, jgh, jgh, jgh, jgh, (100, [], (jenc (jlg 0))), (100, [], (jenc (jlg 1))), (100, [], (jenc (jlg 2))), (100, [], (jenc (jlg 3))), (100, [], (jenc (jlg 4))), (100, [], (jenc (jlg 5)))]) := by
  obtain ⟨d1, d2, d3, d4, d5, d6, d7, d8, fd1, fd2, fd3, fd4, fd5, fd6, fd7, fd8, h1, h2, h3, hA, hB⟩ := jbx_0 (p := x4) (by omega)
  exact jQl_pc_263 (by omega) fd1 fd2 fd3 fd4 fd5 fd6 fd7 fd8 h3 h1 h2 hA hB
theorem jQ_216_271 {xs : List Int} {d : Nat} {x4 : Int} (h_x4 : 1 ≤ x4 ∧ x4 ≤ 100) : jT xs (d + 6) 216 23 0 [(0, (4, 0)), (1, (4, 1)), (2, (1, 1))] [] [jzQ_371, (101, [], [x4, 0, 0, 0, 0, 0]), jgh, jgh, jgh, jgh, jgh, (130, [], [17, 18, 19, 20, 21, 22]), jgh, jgh, jgh, jgh, jgh, jgh, jgh, jgh, jgh, (100, [], (jenc (jlg 0))), (100, [], (jenc (jlg 1))), (100, [], (jenc (jlg 2))), (100, [], (jenc (jlg 3))), (100, [], (jenc (jlg 4))), (100, [], (jenc (jlg 5)))] 61 3216 (fun k v hsN => k = 0 ∧ v = (1, jbp0 x4) ∧ hsN = [jzQ_371, (101, [], [x4, 0, 0, 0, 0, 0]), jgh, jgh, jgh, jgh, jgh, (130, [], [17, 18, 19, 20, 21, 22]), jgh, jgh, jgh, jgh, jgh, jgh, jgh, jgh, jgh, (100, [], (jenc (jlg 0))), (100, [], (jenc (jlg 1))), (100, [], (jenc (jlg 2))), (100, [], (jenc (jlg 3))), (100, [], (jenc (jlg 4))), (100, [], (jenc (jlg 5)))] ++ []) := by
  refine jT_xbipush (k := 6) (pcN := 2) jIQ_216_0 (by decide) rfl ?_
  refine jT_adv 1 (pcN := 4) (LN := [(0, (4, 0)), (1, (4, 1)), (2, (1, 1))]) (stN := [(4, 23)]) (hsN := [jzQ_371, (101, [], [x4, 0, 0, 0, 0, 0]), jgh, jgh, jgh, jgh, jgh, (130, [], [17, 18, 19, 20, 21, 22]), jgh, jgh, jgh, jgh, jgh, jgh, jgh, jgh, jgh, (100, [], (jenc (jlg 0))), (100, [], (jenc (jlg 1))), (100, [], (jenc (jlg 2))), (100, [], (jenc (jlg 3))), (100, [], (jenc (jlg 4))), (100, [], (jenc (jlg 5))), (101, [], [0, 0, 0, 0, 0, 0])]) (c1 := 1) (s1 := 6) (c2 := 60) (s2 := 3210) (by exact rfl) ?_ (by omega) (by omega)
  refine jT_xastore (v := (4, 23)) (LN := [(4, (4, 23)), (0, (4, 0)), (1, (4, 1)), (2, (1, 1))]) (pcN := 6) jIQ_216_4 rfl rfl rfl rfl ?_
  refine jT_xiconst (k := 0) (pcN := 7) jIQ_216_6 rfl ?_
  refine jT_xistore (v := (0, 0)) (LN := [(5, (0, 0)), (4, (4, 23)), (0, (4, 0)), (1, (4, 1)), (2, (1, 1))]) (pcN := 9) jIQ_216_7 rfl rfl rfl rfl ?_
  refine jT_xiload (v := (0, 0)) (pcN := 11) jIQ_216_9 rfl rfl rfl ?_
  refine jT_xbipush (k := 6) (pcN := 13) jIQ_216_11 (by decide) rfl ?_
  refine jT_xicF (t := 35) (pcN := 16) jIQ_216_13 rfl (by decide +kernel) rfl rfl ?_
  refine jT_xaload (v := (4, 23)) (pcN := 18) jIQ_216_16 rfl rfl rfl ?_
  refine jT_xiload (v := (0, 0)) (pcN := 20) jIQ_216_18 rfl rfl rfl ?_
  refine jT_adv 1 (pcN := 23) (LN := [(5, (0, 0)), (4, (4, 23)), (0, (4, 0)), (1, (4, 1)), (2, (1, 1))]) (stN := [(1, 2), (0, 0), (4, 23)]) (hsN := [jzQ_371, (101, [], [x4, 0, 0, 0, 0, 0]), jgh, jgh, jgh, jgh, jgh, (130, [], [17, 18, 19, 20, 21, 22]), jgh, jgh, jgh, jgh, jgh, jgh, jgh, jgh, jgh, (100, [], (jenc (jlg 0))), (100, [], (jenc (jlg 1))), (100, [], (jenc (jlg 2))), (100, [], (jenc (jlg 3))), (100, [], (jenc (jlg 4))), (100, [], (jenc (jlg 5))), (101, [], [0, 0, 0, 0, 0, 0])]) (c1 := 0) (s1 := 0) (c2 := 60) (s2 := 3210) (by exact rfl) ?_ (by omega) (by omega)
  refine jT_xaload_n (v := (4, 1)) (pcN := 24) jIQ_216_23 rfl rfl rfl ?_
  refine jT_xiload (v := (0, 0)) (pcN := 26) jIQ_216_24 rfl rfl rfl ?_
  refine jT_lald (x := x4) (a := 1) (j := 0) (fs := []) (X := [x4, 0, 0, 0, 0, 0]) jIQ_216_26 rfl rfl rfl rfl ?_
  refine jT_eq (LN := [(5, (0, 0)), (4, (4, 23)), (0, (4, 0)), (1, (4, 1)), (2, (1, 1))]) (stN := [(1, x4), (1, 2), (0, 0), (4, 23)]) (hsN := [jzQ_371, (101, [], [x4, 0, 0, 0, 0, 0]), jgh, jgh, jgh, jgh, jgh, (130, [], [17, 18, 19, 20, 21, 22]), jgh, jgh, jgh, jgh, jgh, jgh, jgh, jgh, jgh, (100, [], (jenc (jlg 0))), (100, [], (jenc (jlg 1))), (100, [], (jenc (jlg 2))), (100, [], (jenc (jlg 3))), (100, [], (jenc (jlg 4))), (100, [], (jenc (jlg 5))), (101, [], [0, 0, 0, 0, 0, 0])]) rfl rfl rfl ?_
  refine jT_xlmul (x := 2) (y := x4) (z := 2 * x4) (pcN := 28) jIQ_216_27 rfl (rfl) rfl ?_
  refine jT_adv 1 (pcN := 29) (LN := [(5, (0, 0)), (4, (4, 23)), (0, (4, 0)), (1, (4, 1)), (2, (1, 1))]) (stN := []) (hsN := [jzQ_371, (101, [], [x4, 0, 0, 0, 0, 0]), jgh, jgh, jgh, jgh, jgh, (130, [], [17, 18, 19, 20, 21, 22]), jgh, jgh, jgh, jgh, jgh, jgh, jgh, jgh, jgh, (100, [], (jenc (jlg 0))), (100, [], (jenc (jlg 1))), (100, [], (jenc (jlg 2))), (100, [], (jenc (jlg 3))), (100, [], (jenc (jlg 4))), (100, [], (jenc (jlg 5))), (101, [], [2 * x4, 0, 0, 0, 0, 0])]) (c1 := 0) (s1 := 0) (c2 := 60) (s2 := 3210) (by exact rfl) ?_ (by omega) (by omega)
  refine jT_xiinc (x := 0) (z := 1) (LN := [(5, (0, 1)), (4, (4, 23)), (0, (4, 0)), (1, (4, 1)), (2, (1, 1))]) (pcN := 32) jIQ_216_29 rfl rfl (by decide) rfl rfl ?_
  refine jT_xgoto (pcN := 9) jIQ_216_32 rfl ?_
  refine jT_xiload (v := (0, 1)) (pcN := 11) jIQ_216_9 rfl rfl rfl ?_
  refine jT_xbipush (k := 6) (pcN := 13) jIQ_216_11 (by decide) rfl ?_
  refine jT_xicF (t := 35) (pcN := 16) jIQ_216_13 rfl (by decide +kernel) rfl rfl ?_
  refine jT_xaload (v := (4, 23)) (pcN := 18) jIQ_216_16 rfl rfl rfl ?_
  refine jT_xiload (v := (0, 1)) (pcN := 20) jIQ_216_18 rfl rfl rfl ?_
  refine jT_adv 1 (pcN := 23) (LN := [(5, (0, 1)), (4, (4, 23)), (0, (4, 0)), (1, (4, 1)), (2, (1, 1))]) (stN := [(1, 2), (0, 1), (4, 23)]) (hsN := [jzQ_371, (101, [], [x4, 0, 0, 0, 0, 0]), jgh, jgh, jgh, jgh, jgh, (130, [], [17, 18, 19, 20, 21, 22]), jgh, jgh, jgh, jgh, jgh, jgh, jgh, jgh, jgh, (100, [], (jenc (jlg 0))), (100, [], (jenc (jlg 1))), (100, [], (jenc (jlg 2))), (100, [], (jenc (jlg 3))), (100, [], (jenc (jlg 4))), (100, [], (jenc (jlg 5))), (101, [], [2 * x4, 0, 0, 0, 0, 0])]) (c1 := 0) (s1 := 0) (c2 := 60) (s2 := 3210) (by exact rfl) ?_ (by omega) (by omega)
  refine jT_xaload_n (v := (4, 1)) (pcN := 24) jIQ_216_23 rfl rfl rfl ?_
  refine jT_xiload (v := (0, 1)) (pcN := 26) jIQ_216_24 rfl rfl rfl ?_
  refine jT_lald (x := 0) (a := 1) (j := 1) (fs := []) (X := [x4, 0, 0, 0, 0, 0]) jIQ_216_26 rfl rfl rfl rfl ?_
  refine jT_eq (LN := [(5, (0, 1)), (4, (4, 23)), (0, (4, 0)), (1, (4, 1)), (2, (1, 1))]) (stN := [(1, 0), (1, 2), (0, 1), (4, 23)]) (hsN := [jzQ_371, (101, [], [x4, 0, 0, 0, 0, 0]), jgh, jgh, jgh, jgh, jgh, (130, [], [17, 18, 19, 20, 21, 22]), jgh, jgh, jgh, jgh, jgh, jgh, jgh, jgh, jgh, (100, [], (jenc (jlg 0))), (100, [], (jenc (jlg 1))), (100, [], (jenc (jlg 2))), (100, [], (jenc (jlg 3))), (100, [], (jenc (jlg 4))), (100, [], (jenc (jlg 5))), (101, [], [2 * x4, 0, 0, 0, 0, 0])]) rfl rfl rfl ?_
  refine jT_xlmul (x := 2) (y := 0) (z := 0) (pcN := 28) jIQ_216_27 rfl (by decide) rfl ?_
  refine jT_adv 1 (pcN := 29) (LN := [(5, (0, 1)), (4, (4, 23)), (0, (4, 0)), (1, (4, 1)), (2, (1, 1))]) (stN := []) (hsN := [jzQ_371, (101, [], [x4, 0, 0, 0, 0, 0]), jgh, jgh, jgh, jgh, jgh, (130, [], [17, 18, 19, 20, 21, 22]), jgh, jgh, jgh, jgh, jgh, jgh, jgh, jgh, jgh, (100, [], (jenc (jlg 0))), (100, [], (jenc (jlg 1))), (100, [], (jenc (jlg 2))), (100, [], (jenc (jlg 3))), (100, [], (jenc (jlg 4))), (100, [], (jenc (jlg 5))), (101, [], [2 * x4, 0, 0, 0, 0, 0])]) (c1 := 0) (s1 := 0) (c2 := 60) (s2 := 3210) (by exact rfl) ?_ (by omega) (by omega)
  refine jT_xiinc (x := 1) (z := 2) (LN := [(5, (0, 2)), (4, (4, 23)), (0, (4, 0)), (1, (4, 1)), (2, (1, 1))]) (pcN := 32) jIQ_216_29 rfl rfl (by decide) rfl rfl ?_
  refine jT_xgoto (pcN := 9) jIQ_216_32 rfl ?_
  refine jT_xiload (v := (0, 2)) (pcN := 11) jIQ_216_9 rfl rfl rfl ?_
  refine jT_xbipush (k := 6) (pcN := 13) jIQ_216_11 (by decide) rfl ?_
  refine jT_xicF (t := 35) (pcN := 16) jIQ_216_13 rfl (by decide +kernel) rfl rfl ?_
  refine jT_xaload (v := (4, 23)) (pcN := 18) jIQ_216_16 rfl rfl rfl ?_
  refine jT_xiload (v := (0, 2)) (pcN := 20) jIQ_216_18 rfl rfl rfl ?_
  refine jT_adv 1 (pcN := 23) (LN := [(5, (0, 2)), (4, (4, 23)), (0, (4, 0)), (1, (4, 1)), (2, (1, 1))]) (stN := [(1, 2), (0, 2), (4, 23)]) (hsN := [jzQ_371, (101, [], [x4, 0, 0, 0, 0, 0]), jgh, jgh, jgh, jgh, jgh, (130, [], [17, 18, 19, 20, 21, 22]), jgh, jgh, jgh, jgh, jgh, jgh, jgh, jgh, jgh, (100, [], (jenc (jlg 0))), (100, [], (jenc (jlg 1))), (100, [], (jenc (jlg 2))), (100, [], (jenc (jlg 3))), (100, [], (jenc (jlg 4))), (100, [], (jenc (jlg 5))), (101, [], [2 * x4, 0, 0, 0, 0, 0])]) (c1 := 0) (s1 := 0) (c2 := 60) (s2 := 3210) (by exact rfl) ?_ (by omega) (by omega)
  refine jT_xaload_n (v := (4, 1)) (pcN := 24) jIQ_216_23 rfl rfl rfl ?_
  refine jT_xiload (v := (0, 2)) (pcN := 26) jIQ_216_24 rfl rfl rfl ?_
  refine jT_lald (x := 0) (a := 1) (j := 2) (fs := []) (X := [x4, 0, 0, 0, 0, 0]) jIQ_216_26 rfl rfl rfl rfl ?_
  refine jT_eq (LN := [(5, (0, 2)), (4, (4, 23)), (0, (4, 0)), (1, (4, 1)), (2, (1, 1))]) (stN := [(1, 0), (1, 2), (0, 2), (4, 23)]) (hsN := [jzQ_371, (101, [], [x4, 0, 0, 0, 0, 0]), jgh, jgh, jgh, jgh, jgh, (130, [], [17, 18, 19, 20, 21, 22]), jgh, jgh, jgh, jgh, jgh, jgh, jgh, jgh, jgh, (100, [], (jenc (jlg 0))), (100, [], (jenc (jlg 1))), (100, [], (jenc (jlg 2))), (100, [], (jenc (jlg 3))), (100, [], (jenc (jlg 4))), (100, [], (jenc (jlg 5))), (101, [], [2 * x4, 0, 0, 0, 0, 0])]) rfl rfl rfl ?_
  refine jT_xlmul (x := 2) (y := 0) (z := 0) (pcN := 28) jIQ_216_27 rfl (by decide) rfl ?_
  refine jT_adv 1 (pcN := 29) (LN := [(5, (0, 2)), (4, (4, 23)), (0, (4, 0)), (1, (4, 1)), (2, (1, 1))]) (stN := []) (hsN := [jzQ_371, (101, [], [x4, 0, 0, 0, 0, 0]), jgh, jgh, jgh, jgh, jgh, (130, [], [17, 18, 19, 20, 21, 22]), jgh, jgh, jgh, jgh, jgh, jgh, jgh, jgh, jgh, (100, [], (jenc (jlg 0))), (100, [], (jenc (jlg 1))), (100, [], (jenc (jlg 2))), (100, [], (jenc (jlg 3))), (100, [], (jenc (jlg 4))), (100, [], (jenc (jlg 5))), (101, [], [2 * x4, 0, 0, 0, 0, 0])]) (c1 := 0) (s1 := 0) (c2 := 60) (s2 := 3210) (by exact rfl) ?_ (by omega) (by omega)
  refine jT_xiinc (x := 2) (z := 3) (LN := [(5, (0, 3)), (4, (4, 23)), (0, (4, 0)), (1, (4, 1)), (2, (1, 1))]) (pcN := 32) jIQ_216_29 rfl rfl (by decide) rfl rfl ?_
  refine jT_xgoto (pcN := 9) jIQ_216_32 rfl ?_
  refine jT_xiload (v := (0, 3)) (pcN := 11) jIQ_216_9 rfl rfl rfl ?_
  refine jT_xbipush (k := 6) (pcN := 13) jIQ_216_11 (by decide) rfl ?_
  refine jT_xicF (t := 35) (pcN := 16) jIQ_216_13 rfl (by decide +kernel) rfl rfl ?_
  refine jT_xaload (v := (4, 23)) (pcN := 18) jIQ_216_16 rfl rfl rfl ?_
  refine jT_xiload (v := (0, 3)) (pcN := 20) jIQ_216_18 rfl rfl rfl ?_
  refine jT_adv 1 (pcN := 23) (LN := [(5, (0, 3)), (4, (4, 23)), (0, (4, 0)), (1, (4, 1)), (2, (1, 1))]) (stN := [(1, 2), (0, 3), (4, 23)]) (hsN := [jzQ_371, (101, [], [x4, 0, 0, 0, 0, 0]), jgh, jgh, jgh, jgh, jgh, (130, [], [17, 18, 19, 20, 21, 22]), jgh, jgh, jgh, jgh, jgh, jgh, jgh, jgh, jgh, (100, [], (jenc (jlg 0))), (100, [], (jenc (jlg 1))), (100, [], (jenc (jlg 2))), (100, [], (jenc (jlg 3))), (100, [], (jenc (jlg 4))), (100, [], (jenc (jlg 5))), (101, [], [2 * x4, 0, 0, 0, 0, 0])]) (c1 := 0) (s1 := 0) (c2 := 60) (s2 := 3210) (by exact rfl) ?_ (by omega) (by omega)
  refine jT_xaload_n (v := (4, 1)) (pcN := 24) jIQ_216_23 rfl rfl rfl ?_
  refine jT_xiload (v := (0, 3)) (pcN := 26) jIQ_216_24 rfl rfl rfl ?_
  refine jT_lald (x := 0) (a := 1) (j := 3) (fs := []) (X := [x4, 0, 0, 0, 0, 0]) jIQ_216_26 rfl rfl rfl rfl ?_
  refine jT_eq (LN := [(5, (0, 3)), (4, (4, 23)), (0, (4, 0)), (1, (4, 1)), (2, (1, 1))]) (stN := [(1, 0), (1, 2), (0, 3), (4, 23)]) (hsN := [jzQ_371, (101, [], [x4, 0, 0, 0, 0, 0]), jgh, jgh, jgh, jgh, jgh, (130, [], [17, 18, 19, 20, 21, 22]), jgh, jgh, jgh, jgh, jgh, jgh, jgh, jgh, jgh, (100, [], (jenc (jlg 0))), (100, [], (jenc (jlg 1))), (100, [], (jenc (jlg 2))), (100, [], (jenc (jlg 3))), (100, [], (jenc (jlg 4))), (100, [], (jenc (jlg 5))), (101, [], [2 * x4, 0, 0, 0, 0, 0])]) rfl rfl rfl ?_
  refine jT_xlmul (x := 2) (y := 0) (z := 0) (pcN := 28) jIQ_216_27 rfl (by decide) rfl ?_
  refine jT_adv 1 (pcN := 29) (LN := [(5, (0, 3)), (4, (4, 23)), (0, (4, 0)), (1, (4, 1)), (2, (1, 1))]) (stN := []) (hsN := [jzQ_371, (101, [], [x4, 0, 0, 0, 0, 0]), jgh, jgh, jgh, jgh, jgh, (130, [], [17, 18, 19, 20, 21, 22]), jgh, jgh, jgh, jgh, jgh, jgh, jgh, jgh, jgh, (100, [], (jenc (jlg 0))), (100, [], (jenc (jlg 1))), (100, [], (jenc (jlg 2))), (100, [], (jenc (jlg 3))), (100, [], (jenc (jlg 4))), (100, [], (jenc (jlg 5))), (101, [], [2 * x4, 0, 0, 0, 0, 0])]) (c1 := 0) (s1 := 0) (c2 := 60) (s2 := 3210) (by exact rfl) ?_ (by omega) (by omega)
  refine jT_xiinc (x := 3) (z := 4) (LN := [(5, (0, 4)), (4, (4, 23)), (0, (4, 0)), (1, (4, 1)), (2, (1, 1))]) (pcN := 32) jIQ_216_29 rfl rfl (by decide) rfl rfl ?_
  refine jT_xgoto (pcN := 9) jIQ_216_32 rfl ?_
  refine jT_xiload (v := (0, 4)) (pcN := 11) jIQ_216_9 rfl rfl rfl ?_
  refine jT_xbipush (k := 6) (pcN := 13) jIQ_216_11 (by decide) rfl ?_
  refine jT_xicF (t := 35) (pcN := 16) jIQ_216_13 rfl (by decide +kernel) rfl rfl ?_
  refine jT_xaload (v := (4, 23)) (pcN := 18) jIQ_216_16 rfl rfl rfl ?_
  refine jT_xiload (v := (0, 4)) (pcN := 20) jIQ_216_18 rfl rfl rfl ?_
  refine jT_adv 1 (pcN := 23) (LN := [(5, (0, 4)), (4, (4, 23)), (0, (4, 0)), (1, (4, 1)), (2, (1, 1))]) (stN := [(1, 2), (0, 4), (4, 23)]) (hsN := [jzQ_371, (101, [], [x4, 0, 0, 0, 0, 0]), jgh, jgh, jgh, jgh, jgh, (130, [], [17, 18, 19, 20, 21, 22]), jgh, jgh, jgh, jgh, jgh, jgh, jgh, jgh, jgh, (100, [], (jenc (jlg 0))), (100, [], (jenc (jlg 1))), (100, [], (jenc (jlg 2))), (100, [], (jenc (jlg 3))), (100, [], (jenc (jlg 4))), (100, [], (jenc (jlg 5))), (101, [], [2 * x4, 0, 0, 0, 0, 0])]) (c1 := 0) (s1 := 0) (c2 := 60) (s2 := 3210) (by exact rfl) ?_ (by omega) (by omega)
  refine jT_xaload_n (v := (4, 1)) (pcN := 24) jIQ_216_23 rfl rfl rfl ?_
  refine jT_xiload (v := (0, 4)) (pcN := 26) jIQ_216_24 rfl rfl rfl ?_
  refine jT_lald (x := 0) (a := 1) (j := 4) (fs := []) (X := [x4, 0, 0, 0, 0, 0]) jIQ_216_26 rfl rfl rfl rfl ?_
  refine jT_eq (LN := [(5, (0, 4)), (4, (4, 23)), (0, (4, 0)), (1, (4, 1)), (2, (1, 1))]) (stN := [(1, 0), (1, 2), (0, 4), (4, 23)]) (hsN := [jzQ_371, (101, [], [x4, 0, 0, 0, 0, 0]), jgh, jgh, jgh, jgh, jgh, (130, [], [17, 18, 19, 20, 21, 22]), jgh, jgh, jgh, jgh, jgh, jgh, jgh, jgh, jgh, (100, [], (jenc (jlg 0))), (100, [], (jenc (jlg 1))), (100, [], (jenc (jlg 2))), (100, [], (jenc (jlg 3))), (100, [], (jenc (jlg 4))), (100, [], (jenc (jlg 5))), (101, [], [2 * x4, 0, 0, 0, 0, 0])]) rfl rfl rfl ?_
  refine jT_xlmul (x := 2) (y := 0) (z := 0) (pcN := 28) jIQ_216_27 rfl (by decide) rfl ?_
  refine jT_adv 1 (pcN := 29) (LN := [(5, (0, 4)), (4, (4, 23)), (0, (4, 0)), (1, (4, 1)), (2, (1, 1))]) (stN := []) (hsN := [jzQ_371, (101, [], [x4, 0, 0, 0, 0, 0]), jgh, jgh, jgh, jgh, jgh, (130, [], [17, 18, 19, 20, 21, 22]), jgh, jgh, jgh, jgh, jgh, jgh, jgh, jgh, jgh, (100, [], (jenc (jlg 0))), (100, [], (jenc (jlg 1))), (100, [], (jenc (jlg 2))), (100, [], (jenc (jlg 3))), (100, [], (jenc (jlg 4))), (100, [], (jenc (jlg 5))), (101, [], [2 * x4, 0, 0, 0, 0, 0])]) (c1 := 0) (s1 := 0) (c2 := 60) (s2 := 3210) (by exact rfl) ?_ (by omega) (by omega)
  refine jT_xiinc (x := 4) (z := 5) (LN := [(5, (0, 5)), (4, (4, 23)), (0, (4, 0)), (1, (4, 1)), (2, (1, 1))]) (pcN := 32) jIQ_216_29 rfl rfl (by decide) rfl rfl ?_
  refine jT_xgoto (pcN := 9) jIQ_216_32 rfl ?_
  refine jT_xiload (v := (0, 5)) (pcN := 11) jIQ_216_9 rfl rfl rfl ?_
  refine jT_xbipush (k := 6) (pcN := 13) jIQ_216_11 (by decide) rfl ?_
  refine jT_xicF (t := 35) (pcN := 16) jIQ_216_13 rfl (by decide +kernel) rfl rfl ?_
  refine jT_xaload (v := (4, 23)) (pcN := 18) jIQ_216_16 rfl rfl rfl ?_
  refine jT_xiload (v := (0, 5)) (pcN := 20) jIQ_216_18 rfl rfl rfl ?_
  refine jT_adv 1 (pcN := 23) (LN := [(5, (0, 5)), (4, (4, 23)), (0, (4, 0)), (1, (4, 1)), (2, (1, 1))]) (stN := [(1, 2), (0, 5), (4, 23)]) (hsN := [jzQ_371, (101, [], [x4, 0, 0, 0, 0, 0]), jgh, jgh, jgh, jgh, jgh, (130, [], [17, 18, 19, 20, 21, 22]), jgh, jgh, jgh, jgh, jgh, jgh, jgh, jgh, jgh, (100, [], (jenc (jlg 0))), (100, [], (jenc (jlg 1))), (100, [], (jenc (jlg 2))), (100, [], (jenc (jlg 3))), (100, [], (jenc (jlg 4))), (100, [], (jenc (jlg 5))), (101, [], [2 * x4, 0, 0, 0, 0, 0])]) (c1 := 0) (s1 := 0) (c2 := 60) (s2 := 3210) (by exact rfl) ?_ (by omega) (by omega)
  refine jT_xaload_n (v := (4, 1)) (pcN := 24) jIQ_216_23 rfl rfl rfl ?_
  refine jT_xiload (v := (0, 5)) (pcN := 26) jIQ_216_24 rfl rfl rfl ?_
  refine jT_lald (x := 0) (a := 1) (j := 5) (fs := []) (X := [x4, 0, 0, 0, 0, 0]) jIQ_216_26 rfl rfl rfl rfl ?_
  refine jT_eq (LN := [(5, (0, 5)), (4, (4, 23)), (0, (4, 0)), (1, (4, 1)), (2, (1, 1))]) (stN := [(1, 0), (1, 2), (0, 5), (4, 23)]) (hsN := [jzQ_371, (101, [], [x4, 0, 0, 0, 0, 0]), jgh, jgh, jgh, jgh, jgh, (130, [], [17, 18, 19, 20, 21, 22]), jgh, jgh, jgh, jgh, jgh, jgh, jgh, jgh, jgh, (100, [], (jenc (jlg 0))), (100, [], (jenc (jlg 1))), (100, [], (jenc (jlg 2))), (100, [], (jenc (jlg 3))), (100, [], (jenc (jlg 4))), (100, [], (jenc (jlg 5))), (101, [], [2 * x4, 0, 0, 0, 0, 0])]) rfl rfl rfl ?_
  refine jT_xlmul (x := 2) (y := 0) (z := 0) (pcN := 28) jIQ_216_27 rfl (by decide) rfl ?_
  refine jT_adv 1 (pcN := 29) (LN := [(5, (0, 5)), (4, (4, 23)), (0, (4, 0)), (1, (4, 1)), (2, (1, 1))]) (stN := []) (hsN := [jzQ_371, (101, [], [x4, 0, 0, 0, 0, 0]), jgh, jgh, jgh, jgh, jgh, (130, [], [17, 18, 19, 20, 21, 22]), jgh, jgh, jgh, jgh, jgh, jgh, jgh, jgh, jgh, (100, [], (jenc (jlg 0))), (100, [], (jenc (jlg 1))), (100, [], (jenc (jlg 2))), (100, [], (jenc (jlg 3))), (100, [], (jenc (jlg 4))), (100, [], (jenc (jlg 5))), (101, [], [2 * x4, 0, 0, 0, 0, 0])]) (c1 := 0) (s1 := 0) (c2 := 60) (s2 := 3210) (by exact rfl) ?_ (by omega) (by omega)
  refine jT_xiinc (x := 5) (z := 6) (LN := [(5, (0, 6)), (4, (4, 23)), (0, (4, 0)), (1, (4, 1)), (2, (1, 1))]) (pcN := 32) jIQ_216_29 rfl rfl (by decide) rfl rfl ?_
  refine jT_xgoto (pcN := 9) jIQ_216_32 rfl ?_
  refine jT_xiload (v := (0, 6)) (pcN := 11) jIQ_216_9 rfl rfl rfl ?_
  refine jT_xbipush (k := 6) (pcN := 13) jIQ_216_11 (by decide) rfl ?_
  refine jT_xicT (pcN := 35) jIQ_216_13 rfl (by decide +kernel) rfl ?_
  refine jT_xaload (v := (4, 23)) (pcN := 37) jIQ_216_35 rfl rfl rfl ?_
  refine jT_xiconst (k := 0) (pcN := 38) jIQ_216_37 rfl ?_
  refine jT_adv 1 (pcN := 39) (LN := [(5, (0, 6)), (4, (4, 23)), (0, (4, 0)), (1, (4, 1)), (2, (1, 1))]) (stN := [(0, 0), (4, 23), (0, 0), (4, 23)]) (hsN := [jzQ_371, (101, [], [x4, 0, 0, 0, 0, 0]), jgh, jgh, jgh, jgh, jgh, (130, [], [17, 18, 19, 20, 21, 22]), jgh, jgh, jgh, jgh, jgh, jgh, jgh, jgh, jgh, (100, [], (jenc (jlg 0))), (100, [], (jenc (jlg 1))), (100, [], (jenc (jlg 2))), (100, [], (jenc (jlg 3))), (100, [], (jenc (jlg 4))), (100, [], (jenc (jlg 5))), (101, [], [2 * x4, 0, 0, 0, 0, 0])]) (c1 := 0) (s1 := 0) (c2 := 60) (s2 := 3210) (by exact rfl) ?_ (by omega) (by omega)
  refine jT_lald (x := 2 * x4) (a := 23) (j := 0) (fs := []) (X := [2 * x4, 0, 0, 0, 0, 0]) jIQ_216_39 rfl rfl rfl rfl ?_
  refine jT_eq (LN := [(5, (0, 6)), (4, (4, 23)), (0, (4, 0)), (1, (4, 1)), (2, (1, 1))]) (stN := [(1, 2 * x4), (0, 0), (4, 23)]) (hsN := [jzQ_371, (101, [], [x4, 0, 0, 0, 0, 0]), jgh, jgh, jgh, jgh, jgh, (130, [], [17, 18, 19, 20, 21, 22]), jgh, jgh, jgh, jgh, jgh, jgh, jgh, jgh, jgh, (100, [], (jenc (jlg 0))), (100, [], (jenc (jlg 1))), (100, [], (jenc (jlg 2))), (100, [], (jenc (jlg 3))), (100, [], (jenc (jlg 4))), (100, [], (jenc (jlg 5))), (101, [], [2 * x4, 0, 0, 0, 0, 0])]) rfl rfl rfl ?_
  refine jT_xlload_n (v := (1, 1)) (pcN := 41) jIQ_216_40 rfl rfl rfl ?_
  refine jT_xladd (x := 2 * x4) (y := 1) (z := 2 * x4 + 1) (pcN := 42) jIQ_216_41 rfl (by omega) rfl ?_
  refine jT_adv 1 (pcN := 43) (LN := [(5, (0, 6)), (4, (4, 23)), (0, (4, 0)), (1, (4, 1)), (2, (1, 1))]) (stN := []) (hsN := [jzQ_371, (101, [], [x4, 0, 0, 0, 0, 0]), jgh, jgh, jgh, jgh, jgh, (130, [], [17, 18, 19, 20, 21, 22]), jgh, jgh, jgh, jgh, jgh, jgh, jgh, jgh, jgh, (100, [], (jenc (jlg 0))), (100, [], (jenc (jlg 1))), (100, [], (jenc (jlg 2))), (100, [], (jenc (jlg 3))), (100, [], (jenc (jlg 4))), (100, [], (jenc (jlg 5))), (101, [], [2 * x4 + 1, 0, 0, 0, 0, 0])]) (c1 := 0) (s1 := 0) (c2 := 60) (s2 := 3210) (by exact rfl) ?_ (by omega) (by omega)
  refine jT_xaload_n (v := (4, 0)) (pcN := 44) jIQ_216_43 rfl rfl rfl ?_
  refine jT_xaload (v := (4, 23)) (pcN := 46) jIQ_216_44 rfl rfl rfl ?_
  refine jT_adv 1 (pcN := 49) (LN := [(5, (0, 6)), (4, (4, 23)), (0, (4, 0)), (1, (4, 1)), (2, (1, 1))]) (stN := [(1, 2), (4, 23), (4, 0)]) (hsN := [jzQ_371, (101, [], [x4, 0, 0, 0, 0, 0]), jgh, jgh, jgh, jgh, jgh, (130, [], [17, 18, 19, 20, 21, 22]), jgh, jgh, jgh, jgh, jgh, jgh, jgh, jgh, jgh, (100, [], (jenc (jlg 0))), (100, [], (jenc (jlg 1))), (100, [], (jenc (jlg 2))), (100, [], (jenc (jlg 3))), (100, [], (jenc (jlg 4))), (100, [], (jenc (jlg 5))), (101, [], [2 * x4 + 1, 0, 0, 0, 0, 0])]) (c1 := 0) (s1 := 0) (c2 := 60) (s2 := 3210) (by exact rfl) ?_ (by omega) (by omega)
  refine jT_xlload_n (v := (1, 1)) (pcN := 50) jIQ_216_49 rfl rfl rfl ?_
  refine jT_xlmul (x := 2) (y := 1) (z := 2) (pcN := 51) jIQ_216_50 rfl (by decide) rfl ?_
  refine jT_callA [0, 23, 2, 3, 4, 5, 6, 7, 8, 9, 10, 11, 12, 13, 14, 15, 16, 17, 18, 19, 20, 21, 22] (y := 210) (pcN := 54) (dC := 5) (bc1 := 60) (bc2 := 3210) (c1 := 0) (c2 := 0) (as := [(4, 0), (4, 23), (1, 2)]) (asC := [(4, 0), (4, 1), (1, 2)]) (LN := [(5, (0, 6)), (4, (4, 23)), (0, (4, 0)), (1, (4, 1)), (2, (1, 1))]) (stN := []) (hsC := [jzQ_371, (101, [], [2 * x4 + 1, 0, 0, 0, 0, 0]), jgh, jgh, jgh, jgh, jgh, (130, [], [17, 18, 19, 20, 21, 22]), jgh, jgh, jgh, jgh, jgh, jgh, jgh, jgh, jgh, (100, [], (jenc (jlg 0))), (100, [], (jenc (jlg 1))), (100, [], (jenc (jlg 2))), (100, [], (jenc (jlg 3))), (100, [], (jenc (jlg 4))), (100, [], (jenc (jlg 5)))]) (ex := []) (v := (1, jbp0 x4)) (st2 := [(1, jbp0 x4)]) (hs2 := [jzQ_371, (101, [], [x4, 0, 0, 0, 0, 0]), jgh, jgh, jgh, jgh, jgh, (130, [], [17, 18, 19, 20, 21, 22]), jgh, jgh, jgh, jgh, jgh, jgh, jgh, jgh, jgh, (100, [], (jenc (jlg 0))), (100, [], (jenc (jlg 1))), (100, [], (jenc (jlg 2))), (100, [], (jenc (jlg 3))), (100, [], (jenc (jlg 4))), (100, [], (jenc (jlg 5))), (101, [], [2 * x4 + 1, 0, 0, 0, 0, 0])]) (jQl_ps_270 (d := 0) (by omega)) (by rfl) (by rfl) (by rfl) (by rfl) ⟨rfl, rfl, rfl, rfl, rfl, rfl, rfl, rfl, rfl, rfl, rfl, rfl, rfl, rfl, rfl, rfl, rfl, rfl, rfl, rfl, rfl, rfl, rfl, trivial⟩ (by rfl) (by rfl) (by omega) (by show 23 ≤ 24; omega) (by omega) (by omega) rfl rfl ?_
  have hb_q1 := jbp_b0 (p := x4) (by omega)
  generalize hq_q1 : jbp0 x4 = q1 at hb_q1 ⊢
  refine jT_loc (LN := [(5, (0, 6))]) (by show List.Nodup [5]; decide) (by intro q hq; simp only [List.mem_cons, List.not_mem_nil, or_false] at hq; rcases hq with rfl <;> rfl) ?_
  refine jT_drop 23 (hs0 := [jzQ_371, (101, [], [x4, 0, 0, 0, 0, 0]), jgh, jgh, jgh, jgh, jgh, (130, [], [17, 18, 19, 20, 21, 22]), jgh, jgh, jgh, jgh, jgh, jgh, jgh, jgh, jgh, (100, [], (jenc (jlg 0))), (100, [], (jenc (jlg 1))), (100, [], (jenc (jlg 2))), (100, [], (jenc (jlg 3))), (100, [], (jenc (jlg 4))), (100, [], (jenc (jlg 5)))]) (ex := [(101, [], [2 * x4 + 1, 0, 0, 0, 0, 0])]) rfl rfl rfl (by decide) ?_
  subst hq_q1
  exact jT_ret rfl (by decide) (by show 23 ≤ 23; omega) (by omega) (by omega) ⟨rfl, rfl, rfl⟩
theorem jIQ_297_0 : jmI (jm 297) 0 = (.bipush 6, 2) := by rfl
def jpQ_720 : List JC := [jzQ_20, jgh, jgh, jgh, jgh, jgh, (130, [], [16, 17, 18, 19, 20, 21]), jgh, jgh, jgh, jgh, jgh, jgh, jgh, jgh, jgh, (100, [], (jenc (jlg 0))), (100, [], (jenc (jlg 1))), (100, [], (jenc (jlg 2))), (100, [], (jenc (jlg 3))), (100, [], (jenc (jlg 4))), (100, [], (jenc (jlg 5))), (101, [], [0, 0, 0, 0, 0, 0])]
theorem jIQ_297_4 : jmI (jm 297) 4 = (.astore_n 3, 1) := by rfl
theorem jIQ_297_5 : jmI (jm 297) 5 = (.aload_n 3, 1) := by rfl
theorem jIQ_297_6 : jmI (jm 297) 6 = (.iload_n 2, 1) := by rfl
theorem jIQ_297_7 : jmI (jm 297) 7 = (.iload_n 1, 1) := by rfl
theorem jIQ_297_8 : jmI (jm 297) 8 = (.i2l, 1) := by rfl
theorem jIQ_297_10 : jmI (jm 297) 10 = (.aload_n 0, 1) := by rfl
theorem jIQ_297_11 : jmI (jm 297) 11 = (.aload_n 3, 1) := by rfl
theorem jIQ_297_12 : jmI (jm 297) 12 = (.lconst 1, 1) := by rfl
theorem jIQ_297_16 : jmI (jm 297) 16 = (.l2i, 1) := by rfl
def jpQ_730 : List JC := [jzQ_20, jgh, jgh, jgh, jgh, jgh, (130, [], [16, 17, 18, 19, 20, 21]), jgh, jgh, jgh, jgh, jgh, jgh, jgh, jgh, jgh, (100, [], (jenc (jlg 0))), (100, [], (jenc (jlg 1))), (100, [], (jenc (jlg 2))), (100, [], (jenc (jlg 3))), (100, [], (jenc (jlg 4))), (100, [], (jenc (jlg 5)))]
theorem jQ_297_272 {xs : List Int} {d : Nat} {x4 : Int} (h_x4 : 1 ≤ x4 ∧ x4 ≤ 100) : jT xs (d + 7) 297 22 0 [(0, (4, 0)), (1, (0, x4)), (2, (0, 0))] [] jpQ_730 62 3222 (fun k v hsN => k = 0 ∧ v = (0, jbp0 x4) ∧ hsN = jpQ_730 ++ []) := by
  refine jT_xbipush (k := 6) (pcN := 2) jIQ_297_0 (by decide) rfl ?_
  refine jT_adv 1 (pcN := 4) (LN := [(0, (4, 0)), (1, (0, x4)), (2, (0, 0))]) (stN := [(4, 22)]) (hsN := jpQ_720) (c1 := 1) (s1 := 6) (c2 := 61) (s2 := 3216) (by exact rfl) ?_ (by omega) (by omega)
  refine jT_xastore_n (v := (4, 22)) (LN := [(3, (4, 22)), (0, (4, 0)), (1, (0, x4)), (2, (0, 0))]) (pcN := 5) jIQ_297_4 rfl rfl rfl rfl ?_
  refine jT_xaload_n (v := (4, 22)) (pcN := 6) jIQ_297_5 rfl rfl rfl ?_
  refine jT_xiload_n (v := (0, 0)) (pcN := 7) jIQ_297_6 rfl rfl rfl ?_
  refine jT_xiload_n (v := (0, x4)) (pcN := 8) jIQ_297_7 rfl rfl rfl ?_
  refine jT_xi2l (x := x4) (z := x4) (pcN := 9) jIQ_297_8 rfl (jw_idd (by omega) (by omega)) rfl ?_
  refine jT_adv 1 (pcN := 10) (LN := [(3, (4, 22)), (0, (4, 0)), (1, (0, x4)), (2, (0, 0))]) (stN := []) (hsN := [jzQ_20, jgh, jgh, jgh, jgh, jgh, (130, [], [16, 17, 18, 19, 20, 21]), jgh, jgh, jgh, jgh, jgh, jgh, jgh, jgh, jgh, (100, [], (jenc (jlg 0))), (100, [], (jenc (jlg 1))), (100, [], (jenc (jlg 2))), (100, [], (jenc (jlg 3))), (100, [], (jenc (jlg 4))), (100, [], (jenc (jlg 5))), (101, [], [x4, 0, 0, 0, 0, 0])]) (c1 := 0) (s1 := 0) (c2 := 61) (s2 := 3216) (by exact rfl) ?_ (by omega) (by omega)
  refine jT_xaload_n (v := (4, 0)) (pcN := 11) jIQ_297_10 rfl rfl rfl ?_
  refine jT_xaload_n (v := (4, 22)) (pcN := 12) jIQ_297_11 rfl rfl rfl ?_
  refine jT_xlconst (z := 1) (pcN := 13) jIQ_297_12 rfl rfl ?_
  refine jT_callA [0, 22, 1, 2, 3, 4, 5, 6, 7, 8, 9, 10, 11, 12, 13, 14, 15, 16, 17, 18, 19, 20, 21] (y := 216) (pcN := 16) (dC := 6) (bc1 := 61) (bc2 := 3216) (c1 := 0) (c2 := 0) (as := [(4, 0), (4, 22), (1, 1)]) (asC := [(4, 0), (4, 1), (1, 1)]) (LN := [(3, (4, 22)), (0, (4, 0)), (1, (0, x4)), (2, (0, 0))]) (stN := []) (hsC := [jzQ_371, (101, [], [x4, 0, 0, 0, 0, 0]), jgh, jgh, jgh, jgh, jgh, (130, [], [17, 18, 19, 20, 21, 22]), jgh, jgh, jgh, jgh, jgh, jgh, jgh, jgh, jgh, (100, [], (jenc (jlg 0))), (100, [], (jenc (jlg 1))), (100, [], (jenc (jlg 2))), (100, [], (jenc (jlg 3))), (100, [], (jenc (jlg 4))), (100, [], (jenc (jlg 5)))]) (ex := []) (v := (1, jbp0 x4)) (st2 := [(1, jbp0 x4)]) (hs2 := [jzQ_20, jgh, jgh, jgh, jgh, jgh, (130, [], [16, 17, 18, 19, 20, 21]), jgh, jgh, jgh, jgh, jgh, jgh, jgh, jgh, jgh, (100, [], (jenc (jlg 0))), (100, [], (jenc (jlg 1))), (100, [], (jenc (jlg 2))), (100, [], (jenc (jlg 3))), (100, [], (jenc (jlg 4))), (100, [], (jenc (jlg 5))), (101, [], [x4, 0, 0, 0, 0, 0])]) (jQ_216_271 (d := 0) (by omega)) (by rfl) (by rfl) (by rfl) (by rfl) ⟨rfl, rfl, rfl, rfl, rfl, rfl, rfl, rfl, rfl, rfl, rfl, rfl, rfl, rfl, rfl, rfl, rfl, rfl, rfl, rfl, rfl, rfl, rfl, trivial⟩ (by rfl) (by rfl) (by omega) (by show 22 ≤ 23; omega) (by omega) (by omega) rfl rfl ?_
  have hb_q1 := jbp_b0 (p := x4) (by omega)
  generalize hq_q1 : jbp0 x4 = q1 at hb_q1 ⊢
  refine jT_xl2i (pcN := 17) jIQ_297_16 rfl rfl ?_
  refine jT_loc (LN := [(0, (4, 0))]) (by show List.Nodup [0]; decide) (by intro q hq; simp only [List.mem_cons, List.not_mem_nil, or_false] at hq; rcases hq with rfl <;> rfl) ?_
  refine jT_drop 22 (hs0 := jpQ_730) (ex := [(101, [], [x4, 0, 0, 0, 0, 0])]) rfl rfl rfl (by decide) ?_
  subst hq_q1
  exact jT_ret rfl (by decide) (by show 22 ≤ 22; omega) (by omega) (by omega) ⟨rfl, rfl, rfl⟩
theorem jQl_ro_273 {xs : List Int} {d : Nat} {x4 : Int} (h_x4 : 1 ≤ x4 ∧ x4 ≤ 100) {d1 d2 d3 d4 d5 d6 d7 : Int} (fd1 : ((FP.l2d (Int64.ofInt (2 * x4))).toNat : Int) = d1) (fd2 : jn64 (FP.dmul (ju64 4609816855700290920) (ju64 d1)) = true ∧ ((FP.dmul (ju64 4609816855700290920) (ju64 d1)).toNat : Int) = d2) (fd3 : jn64 (FP.dadd (ju64 4607182418800017408) (ju64 d2)) = true ∧ ((FP.dadd (ju64 4607182418800017408) (ju64 d2)).toNat : Int) = d3) (fd4 : jn64 (FP.dadd (ju64 d3) (ju64 0)) = true ∧ ((FP.dadd (ju64 d3) (ju64 0)).toNat : Int) = d4) (fd5 : jn64 (FP.dadd (ju64 d4) (ju64 0)) = true ∧ ((FP.dadd (ju64 d4) (ju64 0)).toNat : Int) = d5) (fd6 : jn64 (FP.dadd (ju64 d5) (ju64 0)) = true ∧ ((FP.dadd (ju64 d5) (ju64 0)).toNat : Int) = d6) (fd7 : jn64 (FP.dadd (ju64 d6) (ju64 0)) = true ∧ ((FP.dadd (ju64 d6) (ju64 0)).toNat : Int) = d7) : jT xs d 211 1 0 [(0, (4, 0))] [] [(101, [], [1, 2 * x4, 0, 0, 0, 0])] 0 0 (fun k v hsN => k = 0 ∧ v = (3, d7) ∧ hsN = [(101, [], [1, 2 * x4, 0, 0, 0, 0])]) := by
  refine jT_xaload_n (v := (4, 0)) (pcN := 1) jIQ_211_0 rfl rfl rfl ?_
  refine jT_xiconst (k := 0) (pcN := 2) jIQ_211_1 rfl ?_
  refine jT_lald (x := 1) (a := 0) (j := 0) (fs := []) (X := [1, 2 * x4, 0, 0, 0, 0]) jIQ_211_2 rfl rfl rfl rfl ?_
  refine jT_eq (LN := [(0, (4, 0))]) (stN := [(1, 1)]) (hsN := [(101, [], [1, 2 * x4, 0, 0, 0, 0])]) rfl rfl rfl ?_
  refine jT_l2d (x := 1) (z := 4607182418800017408) (by rfl) (by rfl) (by decide +kernel) ?_
  refine jT_adv 1 (pcN := 7) (LN := [(0, (4, 0))]) (stN := [(3, 4609816855700290920), (3, 4607182418800017408)]) (hsN := [(101, [], [1, 2 * x4, 0, 0, 0, 0])]) (c1 := 0) (s1 := 0) (c2 := 0) (s2 := 0) (by exact rfl) ?_ (by omega) (by omega)
  refine jT_xaload_n (v := (4, 0)) (pcN := 8) jIQ_211_7 rfl rfl rfl ?_
  refine jT_xiconst (k := 1) (pcN := 9) jIQ_211_8 rfl ?_
  refine jT_lald (x := 2 * x4) (a := 0) (j := 1) (fs := []) (X := [1, 2 * x4, 0, 0, 0, 0]) jIQ_211_9 rfl rfl rfl rfl ?_
  refine jT_eq (LN := [(0, (4, 0))]) (stN := [(1, 2 * x4), (3, 4609816855700290920), (3, 4607182418800017408)]) (hsN := [(101, [], [1, 2 * x4, 0, 0, 0, 0])]) rfl rfl rfl ?_
  refine jT_l2d (x := 2 * x4) (z := d1) (by rfl) (by rfl) fd1 ?_
  refine jT_dmul (x := 4609816855700290920) (y := d1) (z := d2) (by rfl) (by rfl) fd2 ?_
  refine jT_dadd (x := 4607182418800017408) (y := d2) (z := d3) (by rfl) (by rfl) fd3 ?_
  refine jT_adv 1 (pcN := 16) (LN := [(0, (4, 0))]) (stN := [(3, 4612410936051475313), (3, d3)]) (hsN := [(101, [], [1, 2 * x4, 0, 0, 0, 0])]) (c1 := 0) (s1 := 0) (c2 := 0) (s2 := 0) (by exact rfl) ?_ (by omega) (by omega)
  refine jT_xaload_n (v := (4, 0)) (pcN := 17) jIQ_211_16 rfl rfl rfl ?_
  refine jT_xiconst (k := 2) (pcN := 18) jIQ_211_17 rfl ?_
  refine jT_lald (x := 0) (a := 0) (j := 2) (fs := []) (X := [1, 2 * x4, 0, 0, 0, 0]) jIQ_211_18 rfl rfl rfl rfl ?_
  refine jT_eq (LN := [(0, (4, 0))]) (stN := [(1, 0), (3, 4612410936051475313), (3, d3)]) (hsN := [(101, [], [1, 2 * x4, 0, 0, 0, 0])]) rfl rfl rfl ?_
  refine jT_l2d (x := 0) (z := 0) (by rfl) (by rfl) (by decide +kernel) ?_
  refine jT_dmul (x := 4612410936051475313) (y := 0) (z := 0) (by rfl) (by rfl) (by decide +kernel) ?_
  refine jT_dadd (x := d3) (y := 0) (z := d4) (by rfl) (by rfl) fd4 ?_
  refine jT_adv 1 (pcN := 25) (LN := [(0, (4, 0))]) (stN := [(3, 4613504020090455085), (3, d4)]) (hsN := [(101, [], [1, 2 * x4, 0, 0, 0, 0])]) (c1 := 0) (s1 := 0) (c2 := 0) (s2 := 0) (by exact rfl) ?_ (by omega) (by omega)
  refine jT_xaload_n (v := (4, 0)) (pcN := 26) jIQ_211_25 rfl rfl rfl ?_
  refine jT_xiconst (k := 3) (pcN := 27) jIQ_211_26 rfl ?_
  refine jT_lald (x := 0) (a := 0) (j := 3) (fs := []) (X := [1, 2 * x4, 0, 0, 0, 0]) jIQ_211_27 rfl rfl rfl rfl ?_
  refine jT_eq (LN := [(0, (4, 0))]) (stN := [(1, 0), (3, 4613504020090455085), (3, d4)]) (hsN := [(101, [], [1, 2 * x4, 0, 0, 0, 0])]) rfl rfl rfl ?_
  refine jT_l2d (x := 0) (z := 0) (by rfl) (by rfl) (by decide +kernel) ?_
  refine jT_dmul (x := 4613504020090455085) (y := 0) (z := 0) (by rfl) (by rfl) (by decide +kernel) ?_
  refine jT_dadd (x := d4) (y := 0) (z := d5) (by rfl) (by rfl) fd5 ?_
  refine jT_adv 1 (pcN := 34) (LN := [(0, (4, 0))]) (stN := [(3, 4614972366274321729), (3, d5)]) (hsN := [(101, [], [1, 2 * x4, 0, 0, 0, 0])]) (c1 := 0) (s1 := 0) (c2 := 0) (s2 := 0) (by exact rfl) ?_ (by omega) (by omega)
  refine jT_xaload_n (v := (4, 0)) (pcN := 35) jIQ_211_34 rfl rfl rfl ?_
  refine jT_xiconst (k := 4) (pcN := 36) jIQ_211_35 rfl ?_
  refine jT_lald (x := 0) (a := 0) (j := 4) (fs := []) (X := [1, 2 * x4, 0, 0, 0, 0]) jIQ_211_36 rfl rfl rfl rfl ?_
  refine jT_eq (LN := [(0, (4, 0))]) (stN := [(1, 0), (3, 4614972366274321729), (3, d5)]) (hsN := [(101, [], [1, 2 * x4, 0, 0, 0, 0])]) rfl rfl rfl ?_
  refine jT_l2d (x := 0) (z := 0) (by rfl) (by rfl) (by decide +kernel) ?_
  refine jT_dmul (x := 4614972366274321729) (y := 0) (z := 0) (by rfl) (by rfl) (by decide +kernel) ?_
  refine jT_dadd (x := d5) (y := 0) (z := d6) (by rfl) (by rfl) fd6 ?_
  refine jT_adv 1 (pcN := 43) (LN := [(0, (4, 0))]) (stN := [(3, 4615515068267881011), (3, d6)]) (hsN := [(101, [], [1, 2 * x4, 0, 0, 0, 0])]) (c1 := 0) (s1 := 0) (c2 := 0) (s2 := 0) (by exact rfl) ?_ (by omega) (by omega)
  refine jT_xaload_n (v := (4, 0)) (pcN := 44) jIQ_211_43 rfl rfl rfl ?_
  refine jT_xiconst (k := 5) (pcN := 45) jIQ_211_44 rfl ?_
  refine jT_lald (x := 0) (a := 0) (j := 5) (fs := []) (X := [1, 2 * x4, 0, 0, 0, 0]) jIQ_211_45 rfl rfl rfl rfl ?_
  refine jT_eq (LN := [(0, (4, 0))]) (stN := [(1, 0), (3, 4615515068267881011), (3, d6)]) (hsN := [(101, [], [1, 2 * x4, 0, 0, 0, 0])]) rfl rfl rfl ?_
  refine jT_l2d (x := 0) (z := 0) (by rfl) (by rfl) (by decide +kernel) ?_
  refine jT_dmul (x := 4615515068267881011) (y := 0) (z := 0) (by rfl) (by rfl) (by decide +kernel) ?_
  refine jT_dadd (x := d6) (y := 0) (z := d7) (by rfl) (by rfl) fd7 ?_
  exact jT_ret rfl (by decide) (by show 1 ≤ 1; decide) (by omega) (by omega) ⟨rfl, rfl, rfl⟩
theorem jQ_212_275 {xs : List Int} {d : Nat} {N x4 : Int} (h_N : (-1099511627776) ≤ N ∧ N ≤ 1099511627776) (h_x4 : 1 ≤ x4 ∧ x4 ≤ 100) : jT xs (d + 4) 212 23 0 [(0, (4, 0)), (1, (4, 1)), (2, (1, 2 * N + 2))] [] [jzQ_371, (101, [], [1, 2 * x4, 0, 0, 0, 0]), jgh, jgh, jgh, jgh, jgh, (130, [], [17, 18, 19, 20, 21, 22]), jgh, jgh, jgh, jgh, jgh, jgh, jgh, jgh, jgh, (100, [], (jenc (jlg 0))), (100, [], (jenc (jlg 1))), (100, [], (jenc (jlg 2))), (100, [], (jenc (jlg 3))), (100, [], (jenc (jlg 4))), (100, [], (jenc (jlg 5)))] 20 1070 (fun k v hsN => k = 0 ∧ v = (0, (jlz ((-2) * N - 1) (2 * x4) 0 0 0 0).sign) ∧ hsN = [jzQ_371, (101, [], [1, 2 * x4, 0, 0, 0, 0]), jgh, jgh, jgh, jgh, jgh, (130, [], [17, 18, 19, 20, 21, 22]), jgh, jgh, jgh, jgh, jgh, jgh, jgh, jgh, jgh, (100, [], (jenc (jlg 0))), (100, [], (jenc (jlg 1))), (100, [], (jenc (jlg 2))), (100, [], (jenc (jlg 3))), (100, [], (jenc (jlg 4))), (100, [], (jenc (jlg 5)))] ++ []) := by
  refine jT_xbipush (k := 6) (pcN := 2) jIQ_212_0 (by decide) rfl ?_
  refine jT_adv 1 (pcN := 4) (LN := [(0, (4, 0)), (1, (4, 1)), (2, (1, 2 * N + 2))]) (stN := [(4, 23)]) (hsN := [jzQ_371, (101, [], [1, 2 * x4, 0, 0, 0, 0]), jgh, jgh, jgh, jgh, jgh, (130, [], [17, 18, 19, 20, 21, 22]), jgh, jgh, jgh, jgh, jgh, jgh, jgh, jgh, jgh, (100, [], (jenc (jlg 0))), (100, [], (jenc (jlg 1))), (100, [], (jenc (jlg 2))), (100, [], (jenc (jlg 3))), (100, [], (jenc (jlg 4))), (100, [], (jenc (jlg 5))), (101, [], [0, 0, 0, 0, 0, 0])]) (c1 := 1) (s1 := 6) (c2 := 19) (s2 := 1064) (by exact rfl) ?_ (by omega) (by omega)
  refine jT_xastore (v := (4, 23)) (LN := [(4, (4, 23)), (0, (4, 0)), (1, (4, 1)), (2, (1, 2 * N + 2))]) (pcN := 6) jIQ_212_4 rfl rfl rfl rfl ?_
  refine jT_xaload_n (v := (4, 1)) (pcN := 7) jIQ_212_6 rfl rfl rfl ?_
  refine jT_xiconst (k := 0) (pcN := 8) jIQ_212_7 rfl ?_
  refine jT_xaload (v := (4, 23)) (pcN := 10) jIQ_212_8 rfl rfl rfl ?_
  refine jT_xiconst (k := 0) (pcN := 11) jIQ_212_10 rfl ?_
  refine jT_xbipush (k := 6) (pcN := 13) jIQ_212_11 (by decide) rfl ?_
  refine jT_adv 1 (pcN := 16) (LN := [(4, (4, 23)), (0, (4, 0)), (1, (4, 1)), (2, (1, 2 * N + 2))]) (stN := []) (hsN := [jzQ_371, (101, [], [1, 2 * x4, 0, 0, 0, 0]), jgh, jgh, jgh, jgh, jgh, (130, [], [17, 18, 19, 20, 21, 22]), jgh, jgh, jgh, jgh, jgh, jgh, jgh, jgh, jgh, (100, [], (jenc (jlg 0))), (100, [], (jenc (jlg 1))), (100, [], (jenc (jlg 2))), (100, [], (jenc (jlg 3))), (100, [], (jenc (jlg 4))), (100, [], (jenc (jlg 5))), (101, [], [1, 2 * x4, 0, 0, 0, 0])]) (c1 := 0) (s1 := 0) (c2 := 19) (s2 := 1064) (by exact rfl) ?_ (by omega) (by omega)
  refine jT_xaload (v := (4, 23)) (pcN := 18) jIQ_212_16 rfl rfl rfl ?_
  refine jT_xiconst (k := 0) (pcN := 19) jIQ_212_18 rfl ?_
  refine jT_adv 1 (pcN := 20) (LN := [(4, (4, 23)), (0, (4, 0)), (1, (4, 1)), (2, (1, 2 * N + 2))]) (stN := [(0, 0), (4, 23), (0, 0), (4, 23)]) (hsN := [jzQ_371, (101, [], [1, 2 * x4, 0, 0, 0, 0]), jgh, jgh, jgh, jgh, jgh, (130, [], [17, 18, 19, 20, 21, 22]), jgh, jgh, jgh, jgh, jgh, jgh, jgh, jgh, jgh, (100, [], (jenc (jlg 0))), (100, [], (jenc (jlg 1))), (100, [], (jenc (jlg 2))), (100, [], (jenc (jlg 3))), (100, [], (jenc (jlg 4))), (100, [], (jenc (jlg 5))), (101, [], [1, 2 * x4, 0, 0, 0, 0])]) (c1 := 0) (s1 := 0) (c2 := 19) (s2 := 1064) (by exact rfl) ?_ (by omega) (by omega)
  refine jT_lald (x := 1) (a := 23) (j := 0) (fs := []) (X := [1, 2 * x4, 0, 0, 0, 0]) jIQ_212_20 rfl rfl rfl rfl ?_
  refine jT_eq (LN := [(4, (4, 23)), (0, (4, 0)), (1, (4, 1)), (2, (1, 2 * N + 2))]) (stN := [(1, 1), (0, 0), (4, 23)]) (hsN := [jzQ_371, (101, [], [1, 2 * x4, 0, 0, 0, 0]), jgh, jgh, jgh, jgh, jgh, (130, [], [17, 18, 19, 20, 21, 22]), jgh, jgh, jgh, jgh, jgh, jgh, jgh, jgh, jgh, (100, [], (jenc (jlg 0))), (100, [], (jenc (jlg 1))), (100, [], (jenc (jlg 2))), (100, [], (jenc (jlg 3))), (100, [], (jenc (jlg 4))), (100, [], (jenc (jlg 5))), (101, [], [1, 2 * x4, 0, 0, 0, 0])]) rfl rfl rfl ?_
  refine jT_xlload_n (v := (1, 2 * N + 2)) (pcN := 22) jIQ_212_21 rfl rfl rfl ?_
  refine jT_xlsub (x := 1) (y := 2 * N + 2) (z := (-2) * N - 1) (pcN := 23) jIQ_212_22 rfl (by omega) rfl ?_
  refine jT_adv 1 (pcN := 24) (LN := [(4, (4, 23)), (0, (4, 0)), (1, (4, 1)), (2, (1, 2 * N + 2))]) (stN := []) (hsN := [jzQ_371, (101, [], [1, 2 * x4, 0, 0, 0, 0]), jgh, jgh, jgh, jgh, jgh, (130, [], [17, 18, 19, 20, 21, 22]), jgh, jgh, jgh, jgh, jgh, jgh, jgh, jgh, jgh, (100, [], (jenc (jlg 0))), (100, [], (jenc (jlg 1))), (100, [], (jenc (jlg 2))), (100, [], (jenc (jlg 3))), (100, [], (jenc (jlg 4))), (100, [], (jenc (jlg 5))), (101, [], [(-2) * N - 1, 2 * x4, 0, 0, 0, 0])]) (c1 := 0) (s1 := 0) (c2 := 19) (s2 := 1064) (by exact rfl) ?_ (by omega) (by omega)
  refine jT_xaload_n (v := (4, 0)) (pcN := 25) jIQ_212_24 rfl rfl rfl ?_
  refine jT_xaload (v := (4, 23)) (pcN := 27) jIQ_212_25 rfl rfl rfl ?_
  refine jT_callA [0, 23, 2, 3, 4, 5, 6, 7, 8, 9, 10, 11, 12, 13, 14, 15, 16, 17, 18, 19, 20, 21, 22] (y := 213) (pcN := 30) (dC := 3) (bc1 := 19) (bc2 := 1064) (c1 := 0) (c2 := 0) (as := [(4, 0), (4, 23)]) (asC := [(4, 0), (4, 1)]) (LN := [(4, (4, 23)), (0, (4, 0)), (1, (4, 1)), (2, (1, 2 * N + 2))]) (stN := []) (hsC := [jzQ_371, (101, [], [(-2) * N - 1, 2 * x4, 0, 0, 0, 0]), jgh, jgh, jgh, jgh, jgh, (130, [], [17, 18, 19, 20, 21, 22]), jgh, jgh, jgh, jgh, jgh, jgh, jgh, jgh, jgh, (100, [], (jenc (jlg 0))), (100, [], (jenc (jlg 1))), (100, [], (jenc (jlg 2))), (100, [], (jenc (jlg 3))), (100, [], (jenc (jlg 4))), (100, [], (jenc (jlg 5)))]) (ex := []) (v := (0, (jlz ((-2) * N - 1) (2 * x4) 0 0 0 0).sign)) (st2 := [(0, (jlz ((-2) * N - 1) (2 * x4) 0 0 0 0).sign)]) (hs2 := [jzQ_371, (101, [], [1, 2 * x4, 0, 0, 0, 0]), jgh, jgh, jgh, jgh, jgh, (130, [], [17, 18, 19, 20, 21, 22]), jgh, jgh, jgh, jgh, jgh, jgh, jgh, jgh, jgh, (100, [], (jenc (jlg 0))), (100, [], (jenc (jlg 1))), (100, [], (jenc (jlg 2))), (100, [], (jenc (jlg 3))), (100, [], (jenc (jlg 4))), (100, [], (jenc (jlg 5))), (101, [], [(-2) * N - 1, 2 * x4, 0, 0, 0, 0])]) (jQl_sg_148 (d := 0) (e0 := (-2) * N - 1) (e1 := 2 * x4) (e2 := 0) (e3 := 0) (e4 := 0) (e5 := 0) (by omega) (by omega) (by omega) (by omega) (by omega) (by omega)) (by rfl) (by rfl) (by rfl) (by rfl) ⟨rfl, rfl, rfl, rfl, rfl, rfl, rfl, rfl, rfl, rfl, rfl, rfl, rfl, rfl, rfl, rfl, rfl, rfl, rfl, rfl, rfl, rfl, rfl, trivial⟩ (by rfl) (by rfl) (by omega) (by show 23 ≤ 24; omega) (by omega) (by omega) rfl rfl ?_
  have hb_q1 := jsgn_b (jlz ((-2) * N - 1) (2 * x4) 0 0 0 0)
  generalize hq_q1 : (jlz ((-2) * N - 1) (2 * x4) 0 0 0 0).sign = q1 at hb_q1 ⊢
  refine jT_loc (LN := [(0, (4, 0))]) (by show List.Nodup [0]; decide) (by intro q hq; simp only [List.mem_cons, List.not_mem_nil, or_false] at hq; rcases hq with rfl <;> rfl) ?_
  refine jT_drop 23 (hs0 := [jzQ_371, (101, [], [1, 2 * x4, 0, 0, 0, 0]), jgh, jgh, jgh, jgh, jgh, (130, [], [17, 18, 19, 20, 21, 22]), jgh, jgh, jgh, jgh, jgh, jgh, jgh, jgh, jgh, (100, [], (jenc (jlg 0))), (100, [], (jenc (jlg 1))), (100, [], (jenc (jlg 2))), (100, [], (jenc (jlg 3))), (100, [], (jenc (jlg 4))), (100, [], (jenc (jlg 5)))]) (ex := [(101, [], [(-2) * N - 1, 2 * x4, 0, 0, 0, 0])]) rfl rfl rfl (by decide) ?_
  subst hq_q1
  exact jT_ret rfl (by decide) (by show 23 ≤ 23; omega) (by omega) (by omega) ⟨rfl, rfl, rfl⟩
theorem jQ_212_276 {xs : List Int} {d : Nat} {N x4 : Int} (h_N : (-1099511627776) ≤ N ∧ N ≤ 1099511627776) (h_x4 : 1 ≤ x4 ∧ x4 ≤ 100) (g_0 : (jlz ((-2) * N - 1) (2 * x4) 0 0 0 0).sign < 0) : jT xs (d + 4) 212 23 0 [(0, (4, 0)), (1, (4, 1)), (2, (1, 2 * N + 2))] [] [jzQ_371, (101, [], [1, 2 * x4, 0, 0, 0, 0]), jgh, jgh, jgh, jgh, jgh, (130, [], [17, 18, 19, 20, 21, 22]), jgh, jgh, jgh, jgh, jgh, jgh, jgh, jgh, jgh, (100, [], (jenc (jlg 0))), (100, [], (jenc (jlg 1))), (100, [], (jenc (jlg 2))), (100, [], (jenc (jlg 3))), (100, [], (jenc (jlg 4))), (100, [], (jenc (jlg 5)))] 20 1070 (fun k v hsN => k = 0 ∧ v = (0, (jlz ((-2) * N - 1) (2 * x4) 0 0 0 0).sign) ∧ hsN = [jzQ_371, (101, [], [1, 2 * x4, 0, 0, 0, 0]), jgh, jgh, jgh, jgh, jgh, (130, [], [17, 18, 19, 20, 21, 22]), jgh, jgh, jgh, jgh, jgh, jgh, jgh, jgh, jgh, (100, [], (jenc (jlg 0))), (100, [], (jenc (jlg 1))), (100, [], (jenc (jlg 2))), (100, [], (jenc (jlg 3))), (100, [], (jenc (jlg 4))), (100, [], (jenc (jlg 5)))] ++ []) := by
  refine jT_xbipush (k := 6) (pcN := 2) jIQ_212_0 (by decide) rfl ?_
  refine jT_adv 1 (pcN := 4) (LN := [(0, (4, 0)), (1, (4, 1)), (2, (1, 2 * N + 2))]) (stN := [(4, 23)]) (hsN := [jzQ_371, (101, [], [1, 2 * x4, 0, 0, 0, 0]), jgh, jgh, jgh, jgh, jgh, (130, [], [17, 18, 19, 20, 21, 22]), jgh, jgh, jgh, jgh, jgh, jgh, jgh, jgh, jgh, (100, [], (jenc (jlg 0))), (100, [], (jenc (jlg 1))), (100, [], (jenc (jlg 2))), (100, [], (jenc (jlg 3))), (100, [], (jenc (jlg 4))), (100, [], (jenc (jlg 5))), (101, [], [0, 0, 0, 0, 0, 0])]) (c1 := 1) (s1 := 6) (c2 := 19) (s2 := 1064) (by exact rfl) ?_ (by omega) (by omega)
  refine jT_xastore (v := (4, 23)) (LN := [(4, (4, 23)), (0, (4, 0)), (1, (4, 1)), (2, (1, 2 * N + 2))]) (pcN := 6) jIQ_212_4 rfl rfl rfl rfl ?_
  refine jT_xaload_n (v := (4, 1)) (pcN := 7) jIQ_212_6 rfl rfl rfl ?_
  refine jT_xiconst (k := 0) (pcN := 8) jIQ_212_7 rfl ?_
  refine jT_xaload (v := (4, 23)) (pcN := 10) jIQ_212_8 rfl rfl rfl ?_
  refine jT_xiconst (k := 0) (pcN := 11) jIQ_212_10 rfl ?_
  refine jT_xbipush (k := 6) (pcN := 13) jIQ_212_11 (by decide) rfl ?_
  refine jT_adv 1 (pcN := 16) (LN := [(4, (4, 23)), (0, (4, 0)), (1, (4, 1)), (2, (1, 2 * N + 2))]) (stN := []) (hsN := [jzQ_371, (101, [], [1, 2 * x4, 0, 0, 0, 0]), jgh, jgh, jgh, jgh, jgh, (130, [], [17, 18, 19, 20, 21, 22]), jgh, jgh, jgh, jgh, jgh, jgh, jgh, jgh, jgh, (100, [], (jenc (jlg 0))), (100, [], (jenc (jlg 1))), (100, [], (jenc (jlg 2))), (100, [], (jenc (jlg 3))), (100, [], (jenc (jlg 4))), (100, [], (jenc (jlg 5))), (101, [], [1, 2 * x4, 0, 0, 0, 0])]) (c1 := 0) (s1 := 0) (c2 := 19) (s2 := 1064) (by exact rfl) ?_ (by omega) (by omega)
  refine jT_xaload (v := (4, 23)) (pcN := 18) jIQ_212_16 rfl rfl rfl ?_
  refine jT_xiconst (k := 0) (pcN := 19) jIQ_212_18 rfl ?_
  refine jT_adv 1 (pcN := 20) (LN := [(4, (4, 23)), (0, (4, 0)), (1, (4, 1)), (2, (1, 2 * N + 2))]) (stN := [(0, 0), (4, 23), (0, 0), (4, 23)]) (hsN := [jzQ_371, (101, [], [1, 2 * x4, 0, 0, 0, 0]), jgh, jgh, jgh, jgh, jgh, (130, [], [17, 18, 19, 20, 21, 22]), jgh, jgh, jgh, jgh, jgh, jgh, jgh, jgh, jgh, (100, [], (jenc (jlg 0))), (100, [], (jenc (jlg 1))), (100, [], (jenc (jlg 2))), (100, [], (jenc (jlg 3))), (100, [], (jenc (jlg 4))), (100, [], (jenc (jlg 5))), (101, [], [1, 2 * x4, 0, 0, 0, 0])]) (c1 := 0) (s1 := 0) (c2 := 19) (s2 := 1064) (by exact rfl) ?_ (by omega) (by omega)
  refine jT_lald (x := 1) (a := 23) (j := 0) (fs := []) (X := [1, 2 * x4, 0, 0, 0, 0]) jIQ_212_20 rfl rfl rfl rfl ?_
  refine jT_eq (LN := [(4, (4, 23)), (0, (4, 0)), (1, (4, 1)), (2, (1, 2 * N + 2))]) (stN := [(1, 1), (0, 0), (4, 23)]) (hsN := [jzQ_371, (101, [], [1, 2 * x4, 0, 0, 0, 0]), jgh, jgh, jgh, jgh, jgh, (130, [], [17, 18, 19, 20, 21, 22]), jgh, jgh, jgh, jgh, jgh, jgh, jgh, jgh, jgh, (100, [], (jenc (jlg 0))), (100, [], (jenc (jlg 1))), (100, [], (jenc (jlg 2))), (100, [], (jenc (jlg 3))), (100, [], (jenc (jlg 4))), (100, [], (jenc (jlg 5))), (101, [], [1, 2 * x4, 0, 0, 0, 0])]) rfl rfl rfl ?_
  refine jT_xlload_n (v := (1, 2 * N + 2)) (pcN := 22) jIQ_212_21 rfl rfl rfl ?_
  refine jT_xlsub (x := 1) (y := 2 * N + 2) (z := (-2) * N - 1) (pcN := 23) jIQ_212_22 rfl (by omega) rfl ?_
  refine jT_adv 1 (pcN := 24) (LN := [(4, (4, 23)), (0, (4, 0)), (1, (4, 1)), (2, (1, 2 * N + 2))]) (stN := []) (hsN := [jzQ_371, (101, [], [1, 2 * x4, 0, 0, 0, 0]), jgh, jgh, jgh, jgh, jgh, (130, [], [17, 18, 19, 20, 21, 22]), jgh, jgh, jgh, jgh, jgh, jgh, jgh, jgh, jgh, (100, [], (jenc (jlg 0))), (100, [], (jenc (jlg 1))), (100, [], (jenc (jlg 2))), (100, [], (jenc (jlg 3))), (100, [], (jenc (jlg 4))), (100, [], (jenc (jlg 5))), (101, [], [(-2) * N - 1, 2 * x4, 0, 0, 0, 0])]) (c1 := 0) (s1 := 0) (c2 := 19) (s2 := 1064) (by exact rfl) ?_ (by omega) (by omega)
  refine jT_xaload_n (v := (4, 0)) (pcN := 25) jIQ_212_24 rfl rfl rfl ?_
  refine jT_xaload (v := (4, 23)) (pcN := 27) jIQ_212_25 rfl rfl rfl ?_
  refine jT_callA [0, 23, 2, 3, 4, 5, 6, 7, 8, 9, 10, 11, 12, 13, 14, 15, 16, 17, 18, 19, 20, 21, 22] (y := 213) (pcN := 30) (dC := 3) (bc1 := 19) (bc2 := 1064) (c1 := 0) (c2 := 0) (as := [(4, 0), (4, 23)]) (asC := [(4, 0), (4, 1)]) (LN := [(4, (4, 23)), (0, (4, 0)), (1, (4, 1)), (2, (1, 2 * N + 2))]) (stN := []) (hsC := [jzQ_371, (101, [], [(-2) * N - 1, 2 * x4, 0, 0, 0, 0]), jgh, jgh, jgh, jgh, jgh, (130, [], [17, 18, 19, 20, 21, 22]), jgh, jgh, jgh, jgh, jgh, jgh, jgh, jgh, jgh, (100, [], (jenc (jlg 0))), (100, [], (jenc (jlg 1))), (100, [], (jenc (jlg 2))), (100, [], (jenc (jlg 3))), (100, [], (jenc (jlg 4))), (100, [], (jenc (jlg 5)))]) (ex := []) (v := (0, (jlz ((-2) * N - 1) (2 * x4) 0 0 0 0).sign)) (st2 := [(0, (jlz ((-2) * N - 1) (2 * x4) 0 0 0 0).sign)]) (hs2 := [jzQ_371, (101, [], [1, 2 * x4, 0, 0, 0, 0]), jgh, jgh, jgh, jgh, jgh, (130, [], [17, 18, 19, 20, 21, 22]), jgh, jgh, jgh, jgh, jgh, jgh, jgh, jgh, jgh, (100, [], (jenc (jlg 0))), (100, [], (jenc (jlg 1))), (100, [], (jenc (jlg 2))), (100, [], (jenc (jlg 3))), (100, [], (jenc (jlg 4))), (100, [], (jenc (jlg 5))), (101, [], [(-2) * N - 1, 2 * x4, 0, 0, 0, 0])]) (jQl_sg_148 (d := 0) (e0 := (-2) * N - 1) (e1 := 2 * x4) (e2 := 0) (e3 := 0) (e4 := 0) (e5 := 0) (by omega) (by omega) (by omega) (by omega) (by omega) (by omega)) (by rfl) (by rfl) (by rfl) (by rfl) ⟨rfl, rfl, rfl, rfl, rfl, rfl, rfl, rfl, rfl, rfl, rfl, rfl, rfl, rfl, rfl, rfl, rfl, rfl, rfl, rfl, rfl, rfl, rfl, trivial⟩ (by rfl) (by rfl) (by omega) (by show 23 ≤ 24; omega) (by omega) (by omega) rfl rfl ?_
  have hb_q1 := jsgn_b (jlz ((-2) * N - 1) (2 * x4) 0 0 0 0)
  generalize hq_q1 : (jlz ((-2) * N - 1) (2 * x4) 0 0 0 0).sign = q1 at hb_q1 g_0 ⊢
  refine jT_loc (LN := [(0, (4, 0))]) (by show List.Nodup [0]; decide) (by intro q hq; simp only [List.mem_cons, List.not_mem_nil, or_false] at hq; rcases hq with rfl <;> rfl) ?_
  refine jT_drop 23 (hs0 := [jzQ_371, (101, [], [1, 2 * x4, 0, 0, 0, 0]), jgh, jgh, jgh, jgh, jgh, (130, [], [17, 18, 19, 20, 21, 22]), jgh, jgh, jgh, jgh, jgh, jgh, jgh, jgh, jgh, (100, [], (jenc (jlg 0))), (100, [], (jenc (jlg 1))), (100, [], (jenc (jlg 2))), (100, [], (jenc (jlg 3))), (100, [], (jenc (jlg 4))), (100, [], (jenc (jlg 5)))]) (ex := [(101, [], [(-2) * N - 1, 2 * x4, 0, 0, 0, 0])]) rfl rfl rfl (by decide) ?_
  subst hq_q1
  exact jT_ret rfl (by decide) (by show 23 ≤ 23; omega) (by omega) (by omega) ⟨rfl, rfl, rfl⟩
theorem jQ_212_277 {xs : List Int} {d : Nat} {N x4 : Int} (h_N : (-1099511627776) ≤ N ∧ N ≤ 1099511627776) (h_x4 : 1 ≤ x4 ∧ x4 ≤ 100) : jT xs (d + 4) 212 23 0 [(0, (4, 0)), (1, (4, 1)), (2, (1, 2 * N))] [] [jzQ_371, (101, [], [1, 2 * x4, 0, 0, 0, 0]), jgh, jgh, jgh, jgh, jgh, (130, [], [17, 18, 19, 20, 21, 22]), jgh, jgh, jgh, jgh, jgh, jgh, jgh, jgh, jgh, (100, [], (jenc (jlg 0))), (100, [], (jenc (jlg 1))), (100, [], (jenc (jlg 2))), (100, [], (jenc (jlg 3))), (100, [], (jenc (jlg 4))), (100, [], (jenc (jlg 5)))] 20 1070 (fun k v hsN => k = 0 ∧ v = (0, (jlz ((-2) * N + 1) (2 * x4) 0 0 0 0).sign) ∧ hsN = [jzQ_371, (101, [], [1, 2 * x4, 0, 0, 0, 0]), jgh, jgh, jgh, jgh, jgh, (130, [], [17, 18, 19, 20, 21, 22]), jgh, jgh, jgh, jgh, jgh, jgh, jgh, jgh, jgh, (100, [], (jenc (jlg 0))), (100, [], (jenc (jlg 1))), (100, [], (jenc (jlg 2))), (100, [], (jenc (jlg 3))), (100, [], (jenc (jlg 4))), (100, [], (jenc (jlg 5)))] ++ []) := by
  refine jT_xbipush (k := 6) (pcN := 2) jIQ_212_0 (by decide) rfl ?_
  refine jT_adv 1 (pcN := 4) (LN := [(0, (4, 0)), (1, (4, 1)), (2, (1, 2 * N))]) (stN := [(4, 23)]) (hsN := [jzQ_371, (101, [], [1, 2 * x4, 0, 0, 0, 0]), jgh, jgh, jgh, jgh, jgh, (130, [], [17, 18, 19, 20, 21, 22]), jgh, jgh, jgh, jgh, jgh, jgh, jgh, jgh, jgh, (100, [], (jenc (jlg 0))), (100, [], (jenc (jlg 1))), (100, [], (jenc (jlg 2))), (100, [], (jenc (jlg 3))), (100, [], (jenc (jlg 4))), (100, [], (jenc (jlg 5))), (101, [], [0, 0, 0, 0, 0, 0])]) (c1 := 1) (s1 := 6) (c2 := 19) (s2 := 1064) (by exact rfl) ?_ (by omega) (by omega)
  refine jT_xastore (v := (4, 23)) (LN := [(4, (4, 23)), (0, (4, 0)), (1, (4, 1)), (2, (1, 2 * N))]) (pcN := 6) jIQ_212_4 rfl rfl rfl rfl ?_
  refine jT_xaload_n (v := (4, 1)) (pcN := 7) jIQ_212_6 rfl rfl rfl ?_
  refine jT_xiconst (k := 0) (pcN := 8) jIQ_212_7 rfl ?_
  refine jT_xaload (v := (4, 23)) (pcN := 10) jIQ_212_8 rfl rfl rfl ?_
  refine jT_xiconst (k := 0) (pcN := 11) jIQ_212_10 rfl ?_
  refine jT_xbipush (k := 6) (pcN := 13) jIQ_212_11 (by decide) rfl ?_
  refine jT_adv 1 (pcN := 16) (LN := [(4, (4, 23)), (0, (4, 0)), (1, (4, 1)), (2, (1, 2 * N))]) (stN := []) (hsN := [jzQ_371, (101, [], [1, 2 * x4, 0, 0, 0, 0]), jgh, jgh, jgh, jgh, jgh, (130, [], [17, 18, 19, 20, 21, 22]), jgh, jgh, jgh, jgh, jgh, jgh, jgh, jgh, jgh, (100, [], (jenc (jlg 0))), (100, [], (jenc (jlg 1))), (100, [], (jenc (jlg 2))), (100, [], (jenc (jlg 3))), (100, [], (jenc (jlg 4))), (100, [], (jenc (jlg 5))), (101, [], [1, 2 * x4, 0, 0, 0, 0])]) (c1 := 0) (s1 := 0) (c2 := 19) (s2 := 1064) (by exact rfl) ?_ (by omega) (by omega)
  refine jT_xaload (v := (4, 23)) (pcN := 18) jIQ_212_16 rfl rfl rfl ?_
  refine jT_xiconst (k := 0) (pcN := 19) jIQ_212_18 rfl ?_
  refine jT_adv 1 (pcN := 20) (LN := [(4, (4, 23)), (0, (4, 0)), (1, (4, 1)), (2, (1, 2 * N))]) (stN := [(0, 0), (4, 23), (0, 0), (4, 23)]) (hsN := [jzQ_371, (101, [], [1, 2 * x4, 0, 0, 0, 0]), jgh, jgh, jgh, jgh, jgh, (130, [], [17, 18, 19, 20, 21, 22]), jgh, jgh, jgh, jgh, jgh, jgh, jgh, jgh, jgh, (100, [], (jenc (jlg 0))), (100, [], (jenc (jlg 1))), (100, [], (jenc (jlg 2))), (100, [], (jenc (jlg 3))), (100, [], (jenc (jlg 4))), (100, [], (jenc (jlg 5))), (101, [], [1, 2 * x4, 0, 0, 0, 0])]) (c1 := 0) (s1 := 0) (c2 := 19) (s2 := 1064) (by exact rfl) ?_ (by omega) (by omega)
  refine jT_lald (x := 1) (a := 23) (j := 0) (fs := []) (X := [1, 2 * x4, 0, 0, 0, 0]) jIQ_212_20 rfl rfl rfl rfl ?_
  refine jT_eq (LN := [(4, (4, 23)), (0, (4, 0)), (1, (4, 1)), (2, (1, 2 * N))]) (stN := [(1, 1), (0, 0), (4, 23)]) (hsN := [jzQ_371, (101, [], [1, 2 * x4, 0, 0, 0, 0]), jgh, jgh, jgh, jgh, jgh, (130, [], [17, 18, 19, 20, 21, 22]), jgh, jgh, jgh, jgh, jgh, jgh, jgh, jgh, jgh, (100, [], (jenc (jlg 0))), (100, [], (jenc (jlg 1))), (100, [], (jenc (jlg 2))), (100, [], (jenc (jlg 3))), (100, [], (jenc (jlg 4))), (100, [], (jenc (jlg 5))), (101, [], [1, 2 * x4, 0, 0, 0, 0])]) rfl rfl rfl ?_
  refine jT_xlload_n (v := (1, 2 * N)) (pcN := 22) jIQ_212_21 rfl rfl rfl ?_
  refine jT_xlsub (x := 1) (y := 2 * N) (z := (-2) * N + 1) (pcN := 23) jIQ_212_22 rfl (by omega) rfl ?_
  refine jT_adv 1 (pcN := 24) (LN := [(4, (4, 23)), (0, (4, 0)), (1, (4, 1)), (2, (1, 2 * N))]) (stN := []) (hsN := [jzQ_371, (101, [], [1, 2 * x4, 0, 0, 0, 0]), jgh, jgh, jgh, jgh, jgh, (130, [], [17, 18, 19, 20, 21, 22]), jgh, jgh, jgh, jgh, jgh, jgh, jgh, jgh, jgh, (100, [], (jenc (jlg 0))), (100, [], (jenc (jlg 1))), (100, [], (jenc (jlg 2))), (100, [], (jenc (jlg 3))), (100, [], (jenc (jlg 4))), (100, [], (jenc (jlg 5))), (101, [], [(-2) * N + 1, 2 * x4, 0, 0, 0, 0])]) (c1 := 0) (s1 := 0) (c2 := 19) (s2 := 1064) (by exact rfl) ?_ (by omega) (by omega)
  refine jT_xaload_n (v := (4, 0)) (pcN := 25) jIQ_212_24 rfl rfl rfl ?_
  refine jT_xaload (v := (4, 23)) (pcN := 27) jIQ_212_25 rfl rfl rfl ?_
  refine jT_callA [0, 23, 2, 3, 4, 5, 6, 7, 8, 9, 10, 11, 12, 13, 14, 15, 16, 17, 18, 19, 20, 21, 22] (y := 213) (pcN := 30) (dC := 3) (bc1 := 19) (bc2 := 1064) (c1 := 0) (c2 := 0) (as := [(4, 0), (4, 23)]) (asC := [(4, 0), (4, 1)]) (LN := [(4, (4, 23)), (0, (4, 0)), (1, (4, 1)), (2, (1, 2 * N))]) (stN := []) (hsC := [jzQ_371, (101, [], [(-2) * N + 1, 2 * x4, 0, 0, 0, 0]), jgh, jgh, jgh, jgh, jgh, (130, [], [17, 18, 19, 20, 21, 22]), jgh, jgh, jgh, jgh, jgh, jgh, jgh, jgh, jgh, (100, [], (jenc (jlg 0))), (100, [], (jenc (jlg 1))), (100, [], (jenc (jlg 2))), (100, [], (jenc (jlg 3))), (100, [], (jenc (jlg 4))), (100, [], (jenc (jlg 5)))]) (ex := []) (v := (0, (jlz ((-2) * N + 1) (2 * x4) 0 0 0 0).sign)) (st2 := [(0, (jlz ((-2) * N + 1) (2 * x4) 0 0 0 0).sign)]) (hs2 := [jzQ_371, (101, [], [1, 2 * x4, 0, 0, 0, 0]), jgh, jgh, jgh, jgh, jgh, (130, [], [17, 18, 19, 20, 21, 22]), jgh, jgh, jgh, jgh, jgh, jgh, jgh, jgh, jgh, (100, [], (jenc (jlg 0))), (100, [], (jenc (jlg 1))), (100, [], (jenc (jlg 2))), (100, [], (jenc (jlg 3))), (100, [], (jenc (jlg 4))), (100, [], (jenc (jlg 5))), (101, [], [(-2) * N + 1, 2 * x4, 0, 0, 0, 0])]) (jQl_sg_148 (d := 0) (e0 := (-2) * N + 1) (e1 := 2 * x4) (e2 := 0) (e3 := 0) (e4 := 0) (e5 := 0) (by omega) (by omega) (by omega) (by omega) (by omega) (by omega)) (by rfl) (by rfl) (by rfl) (by rfl) ⟨rfl, rfl, rfl, rfl, rfl, rfl, rfl, rfl, rfl, rfl, rfl, rfl, rfl, rfl, rfl, rfl, rfl, rfl, rfl, rfl, rfl, rfl, rfl, trivial⟩ (by rfl) (by rfl) (by omega) (by show 23 ≤ 24; omega) (by omega) (by omega) rfl rfl ?_
  have hb_q1 := jsgn_b (jlz ((-2) * N + 1) (2 * x4) 0 0 0 0)
  generalize hq_q1 : (jlz ((-2) * N + 1) (2 * x4) 0 0 0 0).sign = q1 at hb_q1 ⊢
  refine jT_loc (LN := [(0, (4, 0))]) (by show List.Nodup [0]; decide) (by intro q hq; simp only [List.mem_cons, List.not_mem_nil, or_false] at hq; rcases hq with rfl <;> rfl) ?_
  refine jT_drop 23 (hs0 := [jzQ_371, (101, [], [1, 2 * x4, 0, 0, 0, 0]), jgh, jgh, jgh, jgh, jgh, (130, [], [17, 18, 19, 20, 21, 22]), jgh, jgh, jgh, jgh, jgh, jgh, jgh, jgh, jgh, (100, [], (jenc (jlg 0))), (100, [], (jenc (jlg 1))), (100, [], (jenc (jlg 2))), (100, [], (jenc (jlg 3))), (100, [], (jenc (jlg 4))), (100, [], (jenc (jlg 5)))]) (ex := [(101, [], [(-2) * N + 1, 2 * x4, 0, 0, 0, 0])]) rfl rfl rfl (by decide) ?_
  subst hq_q1
  exact jT_ret rfl (by decide) (by show 23 ≤ 23; omega) (by omega) (by omega) ⟨rfl, rfl, rfl⟩
theorem jQ_212_278 {xs : List Int} {d : Nat} {N x4 : Int} (h_N : (-1099511627776) ≤ N ∧ N ≤ 1099511627776) (h_x4 : 1 ≤ x4 ∧ x4 ≤ 100) (g_0 : (jlz ((-2) * N - 1) (2 * x4) 0 0 0 0).sign < 0) (g_1 : 0 ≤ (jlz ((-2) * N + 1) (2 * x4) 0 0 0 0).sign) : jT xs (d + 4) 212 23 0 [(0, (4, 0)), (1, (4, 1)), (2, (1, 2 * N + 2))] [] [jzQ_371, (101, [], [1, 2 * x4, 0, 0, 0, 0]), jgh, jgh, jgh, jgh, jgh, (130, [], [17, 18, 19, 20, 21, 22]), jgh, jgh, jgh, jgh, jgh, jgh, jgh, jgh, jgh, (100, [], (jenc (jlg 0))), (100, [], (jenc (jlg 1))), (100, [], (jenc (jlg 2))), (100, [], (jenc (jlg 3))), (100, [], (jenc (jlg 4))), (100, [], (jenc (jlg 5)))] 20 1070 (fun k v hsN => k = 0 ∧ v = (0, (jlz ((-2) * N - 1) (2 * x4) 0 0 0 0).sign) ∧ hsN = [jzQ_371, (101, [], [1, 2 * x4, 0, 0, 0, 0]), jgh, jgh, jgh, jgh, jgh, (130, [], [17, 18, 19, 20, 21, 22]), jgh, jgh, jgh, jgh, jgh, jgh, jgh, jgh, jgh, (100, [], (jenc (jlg 0))), (100, [], (jenc (jlg 1))), (100, [], (jenc (jlg 2))), (100, [], (jenc (jlg 3))), (100, [], (jenc (jlg 4))), (100, [], (jenc (jlg 5)))] ++ []) := by
  refine jT_xbipush (k := 6) (pcN := 2) jIQ_212_0 (by decide) rfl ?_
  refine jT_adv 1 (pcN := 4) (LN := [(0, (4, 0)), (1, (4, 1)), (2, (1, 2 * N + 2))]) (stN := [(4, 23)]) (hsN := [jzQ_371, (101, [], [1, 2 * x4, 0, 0, 0, 0]), jgh, jgh, jgh, jgh, jgh, (130, [], [17, 18, 19, 20, 21, 22]), jgh, jgh, jgh, jgh, jgh, jgh, jgh, jgh, jgh, (100, [], (jenc (jlg 0))), (100, [], (jenc (jlg 1))), (100, [], (jenc (jlg 2))), (100, [], (jenc (jlg 3))), (100, [], (jenc (jlg 4))), (100, [], (jenc (jlg 5))), (101, [], [0, 0, 0, 0, 0, 0])]) (c1 := 1) (s1 := 6) (c2 := 19) (s2 := 1064) (by exact rfl) ?_ (by omega) (by omega)
  refine jT_xastore (v := (4, 23)) (LN := [(4, (4, 23)), (0, (4, 0)), (1, (4, 1)), (2, (1, 2 * N + 2))]) (pcN := 6) jIQ_212_4 rfl rfl rfl rfl ?_
  refine jT_xaload_n (v := (4, 1)) (pcN := 7) jIQ_212_6 rfl rfl rfl ?_
  refine jT_xiconst (k := 0) (pcN := 8) jIQ_212_7 rfl ?_
  refine jT_xaload (v := (4, 23)) (pcN := 10) jIQ_212_8 rfl rfl rfl ?_
  refine jT_xiconst (k := 0) (pcN := 11) jIQ_212_10 rfl ?_
  refine jT_xbipush (k := 6) (pcN := 13) jIQ_212_11 (by decide) rfl ?_
  refine jT_adv 1 (pcN := 16) (LN := [(4, (4, 23)), (0, (4, 0)), (1, (4, 1)), (2, (1, 2 * N + 2))]) (stN := []) (hsN := [jzQ_371, (101, [], [1, 2 * x4, 0, 0, 0, 0]), jgh, jgh, jgh, jgh, jgh, (130, [], [17, 18, 19, 20, 21, 22]), jgh, jgh, jgh, jgh, jgh, jgh, jgh, jgh, jgh, (100, [], (jenc (jlg 0))), (100, [], (jenc (jlg 1))), (100, [], (jenc (jlg 2))), (100, [], (jenc (jlg 3))), (100, [], (jenc (jlg 4))), (100, [], (jenc (jlg 5))), (101, [], [1, 2 * x4, 0, 0, 0, 0])]) (c1 := 0) (s1 := 0) (c2 := 19) (s2 := 1064) (by exact rfl) ?_ (by omega) (by omega)
  refine jT_xaload (v := (4, 23)) (pcN := 18) jIQ_212_16 rfl rfl rfl ?_
  refine jT_xiconst (k := 0) (pcN := 19) jIQ_212_18 rfl ?_
  refine jT_adv 1 (pcN := 20) (LN := [(4, (4, 23)), (0, (4, 0)), (1, (4, 1)), (2, (1, 2 * N + 2))]) (stN := [(0, 0), (4, 23), (0, 0), (4, 23)]) (hsN := [jzQ_371, (101, [], [1, 2 * x4, 0, 0, 0, 0]), jgh, jgh, jgh, jgh, jgh, (130, [], [17, 18, 19, 20, 21, 22]), jgh, jgh, jgh, jgh, jgh, jgh, jgh, jgh, jgh, (100, [], (jenc (jlg 0))), (100, [], (jenc (jlg 1))), (100, [], (jenc (jlg 2))), (100, [], (jenc (jlg 3))), (100, [], (jenc (jlg 4))), (100, [], (jenc (jlg 5))), (101, [], [1, 2 * x4, 0, 0, 0, 0])]) (c1 := 0) (s1 := 0) (c2 := 19) (s2 := 1064) (by exact rfl) ?_ (by omega) (by omega)
  refine jT_lald (x := 1) (a := 23) (j := 0) (fs := []) (X := [1, 2 * x4, 0, 0, 0, 0]) jIQ_212_20 rfl rfl rfl rfl ?_
  refine jT_eq (LN := [(4, (4, 23)), (0, (4, 0)), (1, (4, 1)), (2, (1, 2 * N + 2))]) (stN := [(1, 1), (0, 0), (4, 23)]) (hsN := [jzQ_371, (101, [], [1, 2 * x4, 0, 0, 0, 0]), jgh, jgh, jgh, jgh, jgh, (130, [], [17, 18, 19, 20, 21, 22]), jgh, jgh, jgh, jgh, jgh, jgh, jgh, jgh, jgh, (100, [], (jenc (jlg 0))), (100, [], (jenc (jlg 1))), (100, [], (jenc (jlg 2))), (100, [], (jenc (jlg 3))), (100, [], (jenc (jlg 4))), (100, [], (jenc (jlg 5))), (101, [], [1, 2 * x4, 0, 0, 0, 0])]) rfl rfl rfl ?_
  refine jT_xlload_n (v := (1, 2 * N + 2)) (pcN := 22) jIQ_212_21 rfl rfl rfl ?_
  refine jT_xlsub (x := 1) (y := 2 * N + 2) (z := (-2) * N - 1) (pcN := 23) jIQ_212_22 rfl (by omega) rfl ?_
  refine jT_adv 1 (pcN := 24) (LN := [(4, (4, 23)), (0, (4, 0)), (1, (4, 1)), (2, (1, 2 * N + 2))]) (stN := []) (hsN := [jzQ_371, (101, [], [1, 2 * x4, 0, 0, 0, 0]), jgh, jgh, jgh, jgh, jgh, (130, [], [17, 18, 19, 20, 21, 22]), jgh, jgh, jgh, jgh, jgh, jgh, jgh, jgh, jgh, (100, [], (jenc (jlg 0))), (100, [], (jenc (jlg 1))), (100, [], (jenc (jlg 2))), (100, [], (jenc (jlg 3))), (100, [], (jenc (jlg 4))), (100, [], (jenc (jlg 5))), (101, [], [(-2) * N - 1, 2 * x4, 0, 0, 0, 0])]) (c1 := 0) (s1 := 0) (c2 := 19) (s2 := 1064) (by exact rfl) ?_ (by omega) (by omega)
  refine jT_xaload_n (v := (4, 0)) (pcN := 25) jIQ_212_24 rfl rfl rfl ?_
  refine jT_xaload (v := (4, 23)) (pcN := 27) jIQ_212_25 rfl rfl rfl ?_
  refine jT_callA [0, 23, 2, 3, 4, 5, 6, 7, 8, 9, 10, 11, 12, 13, 14, 15, 16, 17, 18, 19, 20, 21, 22] (y := 213) (pcN := 30) (dC := 3) (bc1 := 19) (bc2 := 1064) (c1 := 0) (c2 := 0) (as := [(4, 0), (4, 23)]) (asC := [(4, 0), (4, 1)]) (LN := [(4, (4, 23)), (0, (4, 0)), (1, (4, 1)), (2, (1, 2 * N + 2))]) (stN := []) (hsC := [jzQ_371, (101, [], [(-2) * N - 1, 2 * x4, 0, 0, 0, 0]), jgh, jgh, jgh, jgh, jgh, (130, [], [17, 18, 19, 20, 21, 22]), jgh, jgh, jgh, jgh, jgh, jgh, jgh, jgh, jgh, (100, [], (jenc (jlg 0))), (100, [], (jenc (jlg 1))), (100, [], (jenc (jlg 2))), (100, [], (jenc (jlg 3))), (100, [], (jenc (jlg 4))), (100, [], (jenc (jlg 5)))]) (ex := []) (v := (0, (jlz ((-2) * N - 1) (2 * x4) 0 0 0 0).sign)) (st2 := [(0, (jlz ((-2) * N - 1) (2 * x4) 0 0 0 0).sign)]) (hs2 := [jzQ_371, (101, [], [1, 2 * x4, 0, 0, 0, 0]), jgh, jgh, jgh, jgh, jgh, (130, [], [17, 18, 19, 20, 21, 22]), jgh, jgh, jgh, jgh, jgh, jgh, jgh, jgh, jgh, (100, [], (jenc (jlg 0))), (100, [], (jenc (jlg 1))), (100, [], (jenc (jlg 2))), (100, [], (jenc (jlg 3))), (100, [], (jenc (jlg 4))), (100, [], (jenc (jlg 5))), (101, [], [(-2) * N - 1, 2 * x4, 0, 0, 0, 0])]) (jQl_sg_148 (d := 0) (e0 := (-2) * N - 1) (e1 := 2 * x4) (e2 := 0) (e3 := 0) (e4 := 0) (e5 := 0) (by omega) (by omega) (by omega) (by omega) (by omega) (by omega)) (by rfl) (by rfl) (by rfl) (by rfl) ⟨rfl, rfl, rfl, rfl, rfl, rfl, rfl, rfl, rfl, rfl, rfl, rfl, rfl, rfl, rfl, rfl, rfl, rfl, rfl, rfl, rfl, rfl, rfl, trivial⟩ (by rfl) (by rfl) (by omega) (by show 23 ≤ 24; omega) (by omega) (by omega) rfl rfl ?_
  have hb_q1 := jsgn_b (jlz ((-2) * N - 1) (2 * x4) 0 0 0 0)
  generalize hq_q1 : (jlz ((-2) * N - 1) (2 * x4) 0 0 0 0).sign = q1 at hb_q1 g_0 ⊢
  refine jT_loc (LN := [(0, (4, 0))]) (by show List.Nodup [0]; decide) (by intro q hq; simp only [List.mem_cons, List.not_mem_nil, or_false] at hq; rcases hq with rfl <;> rfl) ?_
  refine jT_drop 23 (hs0 := [jzQ_371, (101, [], [1, 2 * x4, 0, 0, 0, 0]), jgh, jgh, jgh, jgh, jgh, (130, [], [17, 18, 19, 20, 21, 22]), jgh, jgh, jgh, jgh, jgh, jgh, jgh, jgh, jgh, (100, [], (jenc (jlg 0))), (100, [], (jenc (jlg 1))), (100, [], (jenc (jlg 2))), (100, [], (jenc (jlg 3))), (100, [], (jenc (jlg 4))), (100, [], (jenc (jlg 5)))]) (ex := [(101, [], [(-2) * N - 1, 2 * x4, 0, 0, 0, 0])]) rfl rfl rfl (by decide) ?_
  subst hq_q1
  exact jT_ret rfl (by decide) (by show 23 ≤ 23; omega) (by omega) (by omega) ⟨rfl, rfl, rfl⟩
theorem jQ_212_279 {xs : List Int} {d : Nat} {N x4 : Int} (h_N : (-1099511627776) ≤ N ∧ N ≤ 1099511627776) (h_x4 : 1 ≤ x4 ∧ x4 ≤ 100) (g_0 : 0 ≤ (jlz ((-2) * N + 1) (2 * x4) 0 0 0 0).sign) : jT xs (d + 4) 212 23 0 [(0, (4, 0)), (1, (4, 1)), (2, (1, 2 * N))] [] [jzQ_371, (101, [], [1, 2 * x4, 0, 0, 0, 0]), jgh, jgh, jgh, jgh, jgh, (130, [], [17, 18, 19, 20, 21, 22]), jgh, jgh, jgh, jgh, jgh, jgh, jgh, jgh, jgh, (100, [], (jenc (jlg 0))), (100, [], (jenc (jlg 1))), (100, [], (jenc (jlg 2))), (100, [], (jenc (jlg 3))), (100, [], (jenc (jlg 4))), (100, [], (jenc (jlg 5)))] 20 1070 (fun k v hsN => k = 0 ∧ v = (0, (jlz ((-2) * N + 1) (2 * x4) 0 0 0 0).sign) ∧ hsN = [jzQ_371, (101, [], [1, 2 * x4, 0, 0, 0, 0]), jgh, jgh, jgh, jgh, jgh, (130, [], [17, 18, 19, 20, 21, 22]), jgh, jgh, jgh, jgh, jgh, jgh, jgh, jgh, jgh, (100, [], (jenc (jlg 0))), (100, [], (jenc (jlg 1))), (100, [], (jenc (jlg 2))), (100, [], (jenc (jlg 3))), (100, [], (jenc (jlg 4))), (100, [], (jenc (jlg 5)))] ++ []) := by
  refine jT_xbipush (k := 6) (pcN := 2) jIQ_212_0 (by decide) rfl ?_
  refine jT_adv 1 (pcN := 4) (LN := [(0, (4, 0)), (1, (4, 1)), (2, (1, 2 * N))]) (stN := [(4, 23)]) (hsN := [jzQ_371, (101, [], [1, 2 * x4, 0, 0, 0, 0]), jgh, jgh, jgh, jgh, jgh, (130, [], [17, 18, 19, 20, 21, 22]), jgh, jgh, jgh, jgh, jgh, jgh, jgh, jgh, jgh, (100, [], (jenc (jlg 0))), (100, [], (jenc (jlg 1))), (100, [], (jenc (jlg 2))), (100, [], (jenc (jlg 3))), (100, [], (jenc (jlg 4))), (100, [], (jenc (jlg 5))), (101, [], [0, 0, 0, 0, 0, 0])]) (c1 := 1) (s1 := 6) (c2 := 19) (s2 := 1064) (by exact rfl) ?_ (by omega) (by omega)
  refine jT_xastore (v := (4, 23)) (LN := [(4, (4, 23)), (0, (4, 0)), (1, (4, 1)), (2, (1, 2 * N))]) (pcN := 6) jIQ_212_4 rfl rfl rfl rfl ?_
  refine jT_xaload_n (v := (4, 1)) (pcN := 7) jIQ_212_6 rfl rfl rfl ?_
  refine jT_xiconst (k := 0) (pcN := 8) jIQ_212_7 rfl ?_
  refine jT_xaload (v := (4, 23)) (pcN := 10) jIQ_212_8 rfl rfl rfl ?_
  refine jT_xiconst (k := 0) (pcN := 11) jIQ_212_10 rfl ?_
  refine jT_xbipush (k := 6) (pcN := 13) jIQ_212_11 (by decide) rfl ?_
  refine jT_adv 1 (pcN := 16) (LN := [(4, (4, 23)), (0, (4, 0)), (1, (4, 1)), (2, (1, 2 * N))]) (stN := []) (hsN := [jzQ_371, (101, [], [1, 2 * x4, 0, 0, 0, 0]), jgh, jgh, jgh, jgh, jgh, (130, [], [17, 18, 19, 20, 21, 22]), jgh, jgh, jgh, jgh, jgh, jgh, jgh, jgh, jgh, (100, [], (jenc (jlg 0))), (100, [], (jenc (jlg 1))), (100, [], (jenc (jlg 2))), (100, [], (jenc (jlg 3))), (100, [], (jenc (jlg 4))), (100, [], (jenc (jlg 5))), (101, [], [1, 2 * x4, 0, 0, 0, 0])]) (c1 := 0) (s1 := 0) (c2 := 19) (s2 := 1064) (by exact rfl) ?_ (by omega) (by omega)
  refine jT_xaload (v := (4, 23)) (pcN := 18) jIQ_212_16 rfl rfl rfl ?_
  refine jT_xiconst (k := 0) (pcN := 19) jIQ_212_18 rfl ?_
  refine jT_adv 1 (pcN := 20) (LN := [(4, (4, 23)), (0, (4, 0)), (1, (4, 1)), (2, (1, 2 * N))]) (stN := [(0, 0), (4, 23), (0, 0), (4, 23)]) (hsN := [jzQ_371, (101, [], [1, 2 * x4, 0, 0, 0, 0]), jgh, jgh, jgh, jgh, jgh, (130, [], [17, 18, 19, 20, 21, 22]), jgh, jgh, jgh, jgh, jgh, jgh, jgh, jgh, jgh, (100, [], (jenc (jlg 0))), (100, [], (jenc (jlg 1))), (100, [], (jenc (jlg 2))), (100, [], (jenc (jlg 3))), (100, [], (jenc (jlg 4))), (100, [], (jenc (jlg 5))), (101, [], [1, 2 * x4, 0, 0, 0, 0])]) (c1 := 0) (s1 := 0) (c2 := 19) (s2 := 1064) (by exact rfl) ?_ (by omega) (by omega)
  refine jT_lald (x := 1) (a := 23) (j := 0) (fs := []) (X := [1, 2 * x4, 0, 0, 0, 0]) jIQ_212_20 rfl rfl rfl rfl ?_
  refine jT_eq (LN := [(4, (4, 23)), (0, (4, 0)), (1, (4, 1)), (2, (1, 2 * N))]) (stN := [(1, 1), (0, 0), (4, 23)]) (hsN := [jzQ_371, (101, [], [1, 2 * x4, 0, 0, 0, 0]), jgh, jgh, jgh, jgh, jgh, (130, [], [17, 18, 19, 20, 21, 22]), jgh, jgh, jgh, jgh, jgh, jgh, jgh, jgh, jgh, (100, [], (jenc (jlg 0))), (100, [], (jenc (jlg 1))), (100, [], (jenc (jlg 2))), (100, [], (jenc (jlg 3))), (100, [], (jenc (jlg 4))), (100, [], (jenc (jlg 5))), (101, [], [1, 2 * x4, 0, 0, 0, 0])]) rfl rfl rfl ?_
  refine jT_xlload_n (v := (1, 2 * N)) (pcN := 22) jIQ_212_21 rfl rfl rfl ?_
  refine jT_xlsub (x := 1) (y := 2 * N) (z := (-2) * N + 1) (pcN := 23) jIQ_212_22 rfl (by omega) rfl ?_
  refine jT_adv 1 (pcN := 24) (LN := [(4, (4, 23)), (0, (4, 0)), (1, (4, 1)), (2, (1, 2 * N))]) (stN := []) (hsN := [jzQ_371, (101, [], [1, 2 * x4, 0, 0, 0, 0]), jgh, jgh, jgh, jgh, jgh, (130, [], [17, 18, 19, 20, 21, 22]), jgh, jgh, jgh, jgh, jgh, jgh, jgh, jgh, jgh, (100, [], (jenc (jlg 0))), (100, [], (jenc (jlg 1))), (100, [], (jenc (jlg 2))), (100, [], (jenc (jlg 3))), (100, [], (jenc (jlg 4))), (100, [], (jenc (jlg 5))), (101, [], [(-2) * N + 1, 2 * x4, 0, 0, 0, 0])]) (c1 := 0) (s1 := 0) (c2 := 19) (s2 := 1064) (by exact rfl) ?_ (by omega) (by omega)
  refine jT_xaload_n (v := (4, 0)) (pcN := 25) jIQ_212_24 rfl rfl rfl ?_
  refine jT_xaload (v := (4, 23)) (pcN := 27) jIQ_212_25 rfl rfl rfl ?_
  refine jT_callA [0, 23, 2, 3, 4, 5, 6, 7, 8, 9, 10, 11, 12, 13, 14, 15, 16, 17, 18, 19, 20, 21, 22] (y := 213) (pcN := 30) (dC := 3) (bc1 := 19) (bc2 := 1064) (c1 := 0) (c2 := 0) (as := [(4, 0), (4, 23)]) (asC := [(4, 0), (4, 1)]) (LN := [(4, (4, 23)), (0, (4, 0)), (1, (4, 1)), (2, (1, 2 * N))]) (stN := []) (hsC := [jzQ_371, (101, [], [(-2) * N + 1, 2 * x4, 0, 0, 0, 0]), jgh, jgh, jgh, jgh, jgh, (130, [], [17, 18, 19, 20, 21, 22]), jgh, jgh, jgh, jgh, jgh, jgh, jgh, jgh, jgh, (100, [], (jenc (jlg 0))), (100, [], (jenc (jlg 1))), (100, [], (jenc (jlg 2))), (100, [], (jenc (jlg 3))), (100, [], (jenc (jlg 4))), (100, [], (jenc (jlg 5)))]) (ex := []) (v := (0, (jlz ((-2) * N + 1) (2 * x4) 0 0 0 0).sign)) (st2 := [(0, (jlz ((-2) * N + 1) (2 * x4) 0 0 0 0).sign)]) (hs2 := [jzQ_371, (101, [], [1, 2 * x4, 0, 0, 0, 0]), jgh, jgh, jgh, jgh, jgh, (130, [], [17, 18, 19, 20, 21, 22]), jgh, jgh, jgh, jgh, jgh, jgh, jgh, jgh, jgh, (100, [], (jenc (jlg 0))), (100, [], (jenc (jlg 1))), (100, [], (jenc (jlg 2))), (100, [], (jenc (jlg 3))), (100, [], (jenc (jlg 4))), (100, [], (jenc (jlg 5))), (101, [], [(-2) * N + 1, 2 * x4, 0, 0, 0, 0])]) (jQl_sg_148 (d := 0) (e0 := (-2) * N + 1) (e1 := 2 * x4) (e2 := 0) (e3 := 0) (e4 := 0) (e5 := 0) (by omega) (by omega) (by omega) (by omega) (by omega) (by omega)) (by rfl) (by rfl) (by rfl) (by rfl) ⟨rfl, rfl, rfl, rfl, rfl, rfl, rfl, rfl, rfl, rfl, rfl, rfl, rfl, rfl, rfl, rfl, rfl, rfl, rfl, rfl, rfl, rfl, rfl, trivial⟩ (by rfl) (by rfl) (by omega) (by show 23 ≤ 24; omega) (by omega) (by omega) rfl rfl ?_
  have hb_q1 := jsgn_b (jlz ((-2) * N + 1) (2 * x4) 0 0 0 0)
  generalize hq_q1 : (jlz ((-2) * N + 1) (2 * x4) 0 0 0 0).sign = q1 at hb_q1 g_0 ⊢
  refine jT_loc (LN := [(0, (4, 0))]) (by show List.Nodup [0]; decide) (by intro q hq; simp only [List.mem_cons, List.not_mem_nil, or_false] at hq; rcases hq with rfl <;> rfl) ?_
  refine jT_drop 23 (hs0 := [jzQ_371, (101, [], [1, 2 * x4, 0, 0, 0, 0]), jgh, jgh, jgh, jgh, jgh, (130, [], [17, 18, 19, 20, 21, 22]), jgh, jgh, jgh, jgh, jgh, jgh, jgh, jgh, jgh, (100, [], (jenc (jlg 0))), (100, [], (jenc (jlg 1))), (100, [], (jenc (jlg 2))), (100, [], (jenc (jlg 3))), (100, [], (jenc (jlg 4))), (100, [], (jenc (jlg 5)))]) (ex := [(101, [], [(-2) * N + 1, 2 * x4, 0, 0, 0, 0])]) rfl rfl rfl (by decide) ?_
  subst hq_q1
  exact jT_ret rfl (by decide) (by show 23 ≤ 23; omega) (by omega) (by omega) ⟨rfl, rfl, rfl⟩
theorem jQ_212_280 {xs : List Int} {d : Nat} {N x4 : Int} (h_N : (-1099511627776) ≤ N ∧ N ≤ 1099511627776) (h_x4 : 1 ≤ x4 ∧ x4 ≤ 100) (g_0 : 0 ≤ (jlz ((-2) * N + 1) (2 * x4) 0 0 0 0).sign) (g_1 : (jlz ((-2) * N - 1) (2 * x4) 0 0 0 0).sign < 0) : jT xs (d + 4) 212 23 0 [(0, (4, 0)), (1, (4, 1)), (2, (1, 2 * N))] [] [jzQ_371, (101, [], [1, 2 * x4, 0, 0, 0, 0]), jgh, jgh, jgh, jgh, jgh, (130, [], [17, 18, 19, 20, 21, 22]), jgh, jgh, jgh, jgh, jgh, jgh, jgh, jgh, jgh, (100, [], (jenc (jlg 0))), (100, [], (jenc (jlg 1))), (100, [], (jenc (jlg 2))), (100, [], (jenc (jlg 3))), (100, [], (jenc (jlg 4))), (100, [], (jenc (jlg 5)))] 20 1070 (fun k v hsN => k = 0 ∧ v = (0, (jlz ((-2) * N + 1) (2 * x4) 0 0 0 0).sign) ∧ hsN = [jzQ_371, (101, [], [1, 2 * x4, 0, 0, 0, 0]), jgh, jgh, jgh, jgh, jgh, (130, [], [17, 18, 19, 20, 21, 22]), jgh, jgh, jgh, jgh, jgh, jgh, jgh, jgh, jgh, (100, [], (jenc (jlg 0))), (100, [], (jenc (jlg 1))), (100, [], (jenc (jlg 2))), (100, [], (jenc (jlg 3))), (100, [], (jenc (jlg 4))), (100, [], (jenc (jlg 5)))] ++ []) := by
  refine jT_xbipush (k := 6) (pcN := 2) jIQ_212_0 (by decide) rfl ?_
  refine jT_adv 1 (pcN := 4) (LN := [(0, (4, 0)), (1, (4, 1)), (2, (1, 2 * N))]) (stN := [(4, 23)]) (hsN := [jzQ_371, (101, [], [1, 2 * x4, 0, 0, 0, 0]), jgh, jgh, jgh, jgh, jgh, (130, [], [17, 18, 19, 20, 21, 22]), jgh, jgh, jgh, jgh, jgh, jgh, jgh, jgh, jgh, (100, [], (jenc (jlg 0))), (100, [], (jenc (jlg 1))), (100, [], (jenc (jlg 2))), (100, [], (jenc (jlg 3))), (100, [], (jenc (jlg 4))), (100, [], (jenc (jlg 5))), (101, [], [0, 0, 0, 0, 0, 0])]) (c1 := 1) (s1 := 6) (c2 := 19) (s2 := 1064) (by exact rfl) ?_ (by omega) (by omega)
  refine jT_xastore (v := (4, 23)) (LN := [(4, (4, 23)), (0, (4, 0)), (1, (4, 1)), (2, (1, 2 * N))]) (pcN := 6) jIQ_212_4 rfl rfl rfl rfl ?_
  refine jT_xaload_n (v := (4, 1)) (pcN := 7) jIQ_212_6 rfl rfl rfl ?_
  refine jT_xiconst (k := 0) (pcN := 8) jIQ_212_7 rfl ?_
  refine jT_xaload (v := (4, 23)) (pcN := 10) jIQ_212_8 rfl rfl rfl ?_
  refine jT_xiconst (k := 0) (pcN := 11) jIQ_212_10 rfl ?_
  refine jT_xbipush (k := 6) (pcN := 13) jIQ_212_11 (by decide) rfl ?_
  refine jT_adv 1 (pcN := 16) (LN := [(4, (4, 23)), (0, (4, 0)), (1, (4, 1)), (2, (1, 2 * N))]) (stN := []) (hsN := [jzQ_371, (101, [], [1, 2 * x4, 0, 0, 0, 0]), jgh, jgh, jgh, jgh, jgh, (130, [], [17, 18, 19, 20, 21, 22]), jgh, jgh, jgh, jgh, jgh, jgh, jgh, jgh, jgh, (100, [], (jenc (jlg 0))), (100, [], (jenc (jlg 1))), (100, [], (jenc (jlg 2))), (100, [], (jenc (jlg 3))), (100, [], (jenc (jlg 4))), (100, [], (jenc (jlg 5))), (101, [], [1, 2 * x4, 0, 0, 0, 0])]) (c1 := 0) (s1 := 0) (c2 := 19) (s2 := 1064) (by exact rfl) ?_ (by omega) (by omega)
  refine jT_xaload (v := (4, 23)) (pcN := 18) jIQ_212_16 rfl rfl rfl ?_
  refine jT_xiconst (k := 0) (pcN := 19) jIQ_212_18 rfl ?_
  refine jT_adv 1 (pcN := 20) (LN := [(4, (4, 23)), (0, (4, 0)), (1, (4, 1)), (2, (1, 2 * N))]) (stN := [(0, 0), (4, 23), (0, 0), (4, 23)]) (hsN := [jzQ_371, (101, [], [1, 2 * x4, 0, 0, 0, 0]), jgh, jgh, jgh, jgh, jgh, (130, [], [17, 18, 19, 20, 21, 22]), jgh, jgh, jgh, jgh, jgh, jgh, jgh, jgh, jgh, (100, [], (jenc (jlg 0))), (100, [], (jenc (jlg 1))), (100, [], (jenc (jlg 2))), (100, [], (jenc (jlg 3))), (100, [], (jenc (jlg 4))), (100, [], (jenc (jlg 5))), (101, [], [1, 2 * x4, 0, 0, 0, 0])]) (c1 := 0) (s1 := 0) (c2 := 19) (s2 := 1064) (by exact rfl) ?_ (by omega) (by omega)
  refine jT_lald (x := 1) (a := 23) (j := 0) (fs := []) (X := [1, 2 * x4, 0, 0, 0, 0]) jIQ_212_20 rfl rfl rfl rfl ?_
  refine jT_eq (LN := [(4, (4, 23)), (0, (4, 0)), (1, (4, 1)), (2, (1, 2 * N))]) (stN := [(1, 1), (0, 0), (4, 23)]) (hsN := [jzQ_371, (101, [], [1, 2 * x4, 0, 0, 0, 0]), jgh, jgh, jgh, jgh, jgh, (130, [], [17, 18, 19, 20, 21, 22]), jgh, jgh, jgh, jgh, jgh, jgh, jgh, jgh, jgh, (100, [], (jenc (jlg 0))), (100, [], (jenc (jlg 1))), (100, [], (jenc (jlg 2))), (100, [], (jenc (jlg 3))), (100, [], (jenc (jlg 4))), (100, [], (jenc (jlg 5))), (101, [], [1, 2 * x4, 0, 0, 0, 0])]) rfl rfl rfl ?_
  refine jT_xlload_n (v := (1, 2 * N)) (pcN := 22) jIQ_212_21 rfl rfl rfl ?_
  refine jT_xlsub (x := 1) (y := 2 * N) (z := (-2) * N + 1) (pcN := 23) jIQ_212_22 rfl (by omega) rfl ?_
  refine jT_adv 1 (pcN := 24) (LN := [(4, (4, 23)), (0, (4, 0)), (1, (4, 1)), (2, (1, 2 * N))]) (stN := []) (hsN := [jzQ_371, (101, [], [1, 2 * x4, 0, 0, 0, 0]), jgh, jgh, jgh, jgh, jgh, (130, [], [17, 18, 19, 20, 21, 22]), jgh, jgh, jgh, jgh, jgh, jgh, jgh, jgh, jgh, (100, [], (jenc (jlg 0))), (100, [], (jenc (jlg 1))), (100, [], (jenc (jlg 2))), (100, [], (jenc (jlg 3))), (100, [], (jenc (jlg 4))), (100, [], (jenc (jlg 5))), (101, [], [(-2) * N + 1, 2 * x4, 0, 0, 0, 0])]) (c1 := 0) (s1 := 0) (c2 := 19) (s2 := 1064) (by exact rfl) ?_ (by omega) (by omega)
  refine jT_xaload_n (v := (4, 0)) (pcN := 25) jIQ_212_24 rfl rfl rfl ?_
  refine jT_xaload (v := (4, 23)) (pcN := 27) jIQ_212_25 rfl rfl rfl ?_
  refine jT_callA [0, 23, 2, 3, 4, 5, 6, 7, 8, 9, 10, 11, 12, 13, 14, 15, 16, 17, 18, 19, 20, 21, 22] (y := 213) (pcN := 30) (dC := 3) (bc1 := 19) (bc2 := 1064) (c1 := 0) (c2 := 0) (as := [(4, 0), (4, 23)]) (asC := [(4, 0), (4, 1)]) (LN := [(4, (4, 23)), (0, (4, 0)), (1, (4, 1)), (2, (1, 2 * N))]) (stN := []) (hsC := [jzQ_371, (101, [], [(-2) * N + 1, 2 * x4, 0, 0, 0, 0]), jgh, jgh, jgh, jgh, jgh, (130, [], [17, 18, 19, 20, 21, 22]), jgh, jgh, jgh, jgh, jgh, jgh, jgh, jgh, jgh, (100, [], (jenc (jlg 0))), (100, [], (jenc (jlg 1))), (100, [], (jenc (jlg 2))), (100, [], (jenc (jlg 3))), (100, [], (jenc (jlg 4))), (100, [], (jenc (jlg 5)))]) (ex := []) (v := (0, (jlz ((-2) * N + 1) (2 * x4) 0 0 0 0).sign)) (st2 := [(0, (jlz ((-2) * N + 1) (2 * x4) 0 0 0 0).sign)]) (hs2 := [jzQ_371, (101, [], [1, 2 * x4, 0, 0, 0, 0]), jgh, jgh, jgh, jgh, jgh, (130, [], [17, 18, 19, 20, 21, 22]), jgh, jgh, jgh, jgh, jgh, jgh, jgh, jgh, jgh, (100, [], (jenc (jlg 0))), (100, [], (jenc (jlg 1))), (100, [], (jenc (jlg 2))), (100, [], (jenc (jlg 3))), (100, [], (jenc (jlg 4))), (100, [], (jenc (jlg 5))), (101, [], [(-2) * N + 1, 2 * x4, 0, 0, 0, 0])]) (jQl_sg_148 (d := 0) (e0 := (-2) * N + 1) (e1 := 2 * x4) (e2 := 0) (e3 := 0) (e4 := 0) (e5 := 0) (by omega) (by omega) (by omega) (by omega) (by omega) (by omega)) (by rfl) (by rfl) (by rfl) (by rfl) ⟨rfl, rfl, rfl, rfl, rfl, rfl, rfl, rfl, rfl, rfl, rfl, rfl, rfl, rfl, rfl, rfl, rfl, rfl, rfl, rfl, rfl, rfl, rfl, trivial⟩ (by rfl) (by rfl) (by omega) (by show 23 ≤ 24; omega) (by omega) (by omega) rfl rfl ?_
  have hb_q1 := jsgn_b (jlz ((-2) * N + 1) (2 * x4) 0 0 0 0)
  generalize hq_q1 : (jlz ((-2) * N + 1) (2 * x4) 0 0 0 0).sign = q1 at hb_q1 g_0 ⊢
  refine jT_loc (LN := [(0, (4, 0))]) (by show List.Nodup [0]; decide) (by intro q hq; simp only [List.mem_cons, List.not_mem_nil, or_false] at hq; rcases hq with rfl <;> rfl) ?_
  refine jT_drop 23 (hs0 := [jzQ_371, (101, [], [1, 2 * x4, 0, 0, 0, 0]), jgh, jgh, jgh, jgh, jgh, (130, [], [17, 18, 19, 20, 21, 22]), jgh, jgh, jgh, jgh, jgh, jgh, jgh, jgh, jgh, (100, [], (jenc (jlg 0))), (100, [], (jenc (jlg 1))), (100, [], (jenc (jlg 2))), (100, [], (jenc (jlg 3))), (100, [], (jenc (jlg 4))), (100, [], (jenc (jlg 5)))]) (ex := [(101, [], [(-2) * N + 1, 2 * x4, 0, 0, 0, 0])]) rfl rfl rfl (by decide) ?_
  subst hq_q1
  exact jT_ret rfl (by decide) (by show 23 ≤ 23; omega) (by omega) (by omega) ⟨rfl, rfl, rfl⟩
theorem jQl_pc_274 {xs : List Int} {d : Nat} {x4 : Int} (h_x4 : 1 ≤ x4 ∧ x4 ≤ 100) {N d1 d2 d3 d4 d5 d6 d7 d8 d9 : Int} (fd1 : ((FP.l2d (Int64.ofInt (2 * x4))).toNat : Int) = d1) (fd2 : jn64 (FP.dmul (ju64 4609816855700290920) (ju64 d1)) = true ∧ ((FP.dmul (ju64 4609816855700290920) (ju64 d1)).toNat : Int) = d2) (fd3 : jn64 (FP.dadd (ju64 4607182418800017408) (ju64 d2)) = true ∧ ((FP.dadd (ju64 4607182418800017408) (ju64 d2)).toNat : Int) = d3) (fd4 : jn64 (FP.dadd (ju64 d3) (ju64 0)) = true ∧ ((FP.dadd (ju64 d3) (ju64 0)).toNat : Int) = d4) (fd5 : jn64 (FP.dadd (ju64 d4) (ju64 0)) = true ∧ ((FP.dadd (ju64 d4) (ju64 0)).toNat : Int) = d5) (fd6 : jn64 (FP.dadd (ju64 d5) (ju64 0)) = true ∧ ((FP.dadd (ju64 d5) (ju64 0)).toNat : Int) = d6) (fd7 : jn64 (FP.dadd (ju64 d6) (ju64 0)) = true ∧ ((FP.dadd (ju64 d6) (ju64 0)).toNat : Int) = d7) (fd8 : jn64 (FP.ddiv (ju64 d7) (ju64 4611686018427387904)) = true ∧ ((FP.ddiv (ju64 d7) (ju64 4611686018427387904)).toNat : Int) = d8) (fd9 : (FP.d2l (ju64 d8)).toInt = d9) (h_N : (-1099511627776) ≤ N ∧ N ≤ 1099511627776) (h1 : N ≤ d9) (h2 : d9 ≤ N + 1) (hA : 0 ≤ jlz ((-2) * N + 1) (2 * x4) 0 0 0 0) (hB : jlz ((-2) * N - 1) (2 * x4) 0 0 0 0 < 0) : jT xs (d + 5) 210 23 0 [(0, (4, 0)), (1, (4, 1)), (2, (1, 2))] [] [jzQ_371, (101, [], [1, 2 * x4, 0, 0, 0, 0]), jgh, jgh, jgh, jgh, jgh, (130, [], [17, 18, 19, 20, 21, 22]), jgh, jgh, jgh, jgh, jgh, jgh, jgh, jgh, jgh, (100, [], (jenc (jlg 0))), (100, [], (jenc (jlg 1))), (100, [], (jenc (jlg 2))), (100, [], (jenc (jlg 3))), (100, [], (jenc (jlg 4))), (100, [], (jenc (jlg 5)))] 60 3210 (fun k v hsN => k = 0 ∧ v = (1, N) ∧ hsN = [jzQ_371, (101, [], [1, 2 * x4, 0, 0, 0, 0]), jgh, jgh, jgh, jgh, jgh, (130, [], [17, 18, 19, 20, 21, 22]), jgh, jgh, jgh, jgh, jgh, jgh, jgh, jgh, jgh, (100, [], (jenc (jlg 0))), (100, [], (jenc (jlg 1))), (100, [], (jenc (jlg 2))), (100, [], (jenc (jlg 3))), (100, [], (jenc (jlg 4))), (100, [], (jenc (jlg 5)))]) := by
  rcases (show d9 = N + 1 ∨ d9 = N by omega) with g_n | g_n
  · have g_0 : (jlz ((-2) * N - 1) (2 * x4) 0 0 0 0).sign < 0 := jsgn_n (Int.lt_of_le_of_lt (jlz_mono (by omega)) hB)
    have g_1 : 0 ≤ (jlz ((-2) * N + 1) (2 * x4) 0 0 0 0).sign := jsgn_p (Int.le_trans hA (jlz_mono (by omega)))
    refine jT_xaload_n (v := (4, 1)) (pcN := 1) jIQ_210_0 rfl rfl rfl ?_
    refine jT_callA [1] (y := 211) (pcN := 4) (dC := 0) (bc1 := 0) (bc2 := 0) (c1 := 60) (c2 := 3210) (as := [(4, 1)]) (asC := [(4, 0)]) (LN := [(0, (4, 0)), (1, (4, 1)), (2, (1, 2))]) (stN := []) (hsC := [(101, [], [1, 2 * x4, 0, 0, 0, 0])]) (ex := []) (v := (3, d7)) (st2 := [(3, d7)]) (hs2 := [jzQ_371, (101, [], [1, 2 * x4, 0, 0, 0, 0]), jgh, jgh, jgh, jgh, jgh, (130, [], [17, 18, 19, 20, 21, 22]), jgh, jgh, jgh, jgh, jgh, jgh, jgh, jgh, jgh, (100, [], (jenc (jlg 0))), (100, [], (jenc (jlg 1))), (100, [], (jenc (jlg 2))), (100, [], (jenc (jlg 3))), (100, [], (jenc (jlg 4))), (100, [], (jenc (jlg 5)))]) (jQl_ro_273 (d := 0) (by omega) fd1 fd2 fd3 fd4 fd5 fd6 fd7) (by rfl) (by rfl) (by rfl) (by rfl) ⟨rfl, trivial⟩ (by rfl) (by rfl) (by omega) (by show 23 ≤ 23; omega) (by omega) (by omega) rfl rfl ?_
    refine jT_xlload_n (v := (1, 2)) (pcN := 5) jIQ_210_4 rfl rfl rfl ?_
    refine jT_l2d (x := 2) (z := 4611686018427387904) (by rfl) (by rfl) (by decide +kernel) ?_
    refine jT_ddiv (x := d7) (y := 4611686018427387904) (z := d8) (by rfl) (by rfl) fd8 ?_
    refine jT_d2l (x := d8) (z := d9) (by rfl) (by rfl) fd9 ?_
    refine jT_xlstore (v := (1, d9)) (LN := [(4, (1, d9)), (0, (4, 0)), (1, (4, 1)), (2, (1, 2))]) (pcN := 10) jIQ_210_8 rfl rfl rfl rfl ?_
    refine jT_eq (LN := [(4, (1, N + 1)), (0, (4, 0)), (1, (4, 1)), (2, (1, 2))]) (stN := []) (hsN := [jzQ_371, (101, [], [1, 2 * x4, 0, 0, 0, 0]), jgh, jgh, jgh, jgh, jgh, (130, [], [17, 18, 19, 20, 21, 22]), jgh, jgh, jgh, jgh, jgh, jgh, jgh, jgh, jgh, (100, [], (jenc (jlg 0))), (100, [], (jenc (jlg 1))), (100, [], (jenc (jlg 2))), (100, [], (jenc (jlg 3))), (100, [], (jenc (jlg 4))), (100, [], (jenc (jlg 5)))]) (by rw [g_n]) rfl rfl ?_
    refine jT_xaload_n (v := (4, 0)) (pcN := 11) jIQ_210_10 rfl rfl rfl ?_
    refine jT_xaload_n (v := (4, 1)) (pcN := 12) jIQ_210_11 rfl rfl rfl ?_
    refine jT_xlload (v := (1, N + 1)) (pcN := 14) jIQ_210_12 rfl rfl rfl ?_
    refine jT_xlload_n (v := (1, 2)) (pcN := 15) jIQ_210_14 rfl rfl rfl ?_
    refine jT_xlmul (x := N + 1) (y := 2) (z := 2 * N + 2) (pcN := 16) jIQ_210_15 rfl (by omega) rfl ?_
    refine jT_callA [0, 1, 2, 3, 4, 5, 6, 7, 8, 9, 10, 11, 12, 13, 14, 15, 16, 17, 18, 19, 20, 21, 22] (y := 212) (pcN := 19) (dC := 4) (bc1 := 20) (bc2 := 1070) (c1 := 40) (c2 := 2140) (as := [(4, 0), (4, 1), (1, 2 * N + 2)]) (asC := [(4, 0), (4, 1), (1, 2 * N + 2)]) (LN := [(4, (1, N + 1)), (0, (4, 0)), (1, (4, 1)), (2, (1, 2))]) (stN := []) (hsC := [jzQ_371, (101, [], [1, 2 * x4, 0, 0, 0, 0]), jgh, jgh, jgh, jgh, jgh, (130, [], [17, 18, 19, 20, 21, 22]), jgh, jgh, jgh, jgh, jgh, jgh, jgh, jgh, jgh, (100, [], (jenc (jlg 0))), (100, [], (jenc (jlg 1))), (100, [], (jenc (jlg 2))), (100, [], (jenc (jlg 3))), (100, [], (jenc (jlg 4))), (100, [], (jenc (jlg 5)))]) (ex := []) (v := (0, (jlz ((-2) * N - 1) (2 * x4) 0 0 0 0).sign)) (st2 := [(0, (jlz ((-2) * N - 1) (2 * x4) 0 0 0 0).sign)]) (hs2 := [jzQ_371, (101, [], [1, 2 * x4, 0, 0, 0, 0]), jgh, jgh, jgh, jgh, jgh, (130, [], [17, 18, 19, 20, 21, 22]), jgh, jgh, jgh, jgh, jgh, jgh, jgh, jgh, jgh, (100, [], (jenc (jlg 0))), (100, [], (jenc (jlg 1))), (100, [], (jenc (jlg 2))), (100, [], (jenc (jlg 3))), (100, [], (jenc (jlg 4))), (100, [], (jenc (jlg 5)))]) (jQ_212_278 (d := 0) (by omega) (by omega) (by omega) (by omega)) (by rfl) (by rfl) (by rfl) (by rfl) ⟨rfl, rfl, rfl, rfl, rfl, rfl, rfl, rfl, rfl, rfl, rfl, rfl, rfl, rfl, rfl, rfl, rfl, rfl, rfl, rfl, rfl, rfl, rfl, trivial⟩ (by rfl) (by rfl) (by omega) (by show 23 ≤ 23; omega) (by omega) (by omega) rfl rfl ?_
    have hb_q1 := jsgn_b (jlz ((-2) * N - 1) (2 * x4) 0 0 0 0)
    generalize hq_q1 : (jlz ((-2) * N - 1) (2 * x4) 0 0 0 0).sign = q1 at hb_q1 g_0 ⊢
    refine jT_ifF (a := q1) (t := 31) (by rfl) (by rfl) (by rfl) (jw_idd (by omega) (by omega)) (by simp only [jcP] <;> omega) ?_
    refine jT_xlload (v := (1, N + 1)) (pcN := 24) jIQ_210_22 rfl rfl rfl ?_
    refine jT_xlconst (z := 1) (pcN := 25) jIQ_210_24 rfl rfl ?_
    refine jT_xlsub (x := N + 1) (y := 1) (z := N) (pcN := 26) jIQ_210_25 rfl (by omega) rfl ?_
    refine jT_xlstore (v := (1, N)) (LN := [(4, (1, N)), (0, (4, 0)), (1, (4, 1)), (2, (1, 2))]) (pcN := 28) jIQ_210_26 rfl rfl rfl rfl ?_
    refine jT_xgoto (pcN := 10) jIQ_210_28 rfl ?_
    refine jT_xaload_n (v := (4, 0)) (pcN := 11) jIQ_210_10 rfl rfl rfl ?_
    refine jT_xaload_n (v := (4, 1)) (pcN := 12) jIQ_210_11 rfl rfl rfl ?_
    refine jT_xlload (v := (1, N)) (pcN := 14) jIQ_210_12 rfl rfl rfl ?_
    refine jT_xlload_n (v := (1, 2)) (pcN := 15) jIQ_210_14 rfl rfl rfl ?_
    refine jT_xlmul (x := N) (y := 2) (z := 2 * N) (pcN := 16) jIQ_210_15 rfl (by omega) rfl ?_
    refine jT_callA [0, 1, 2, 3, 4, 5, 6, 7, 8, 9, 10, 11, 12, 13, 14, 15, 16, 17, 18, 19, 20, 21, 22] (y := 212) (pcN := 19) (dC := 4) (bc1 := 20) (bc2 := 1070) (c1 := 20) (c2 := 1070) (as := [(4, 0), (4, 1), (1, 2 * N)]) (asC := [(4, 0), (4, 1), (1, 2 * N)]) (LN := [(4, (1, N)), (0, (4, 0)), (1, (4, 1)), (2, (1, 2))]) (stN := []) (hsC := [jzQ_371, (101, [], [1, 2 * x4, 0, 0, 0, 0]), jgh, jgh, jgh, jgh, jgh, (130, [], [17, 18, 19, 20, 21, 22]), jgh, jgh, jgh, jgh, jgh, jgh, jgh, jgh, jgh, (100, [], (jenc (jlg 0))), (100, [], (jenc (jlg 1))), (100, [], (jenc (jlg 2))), (100, [], (jenc (jlg 3))), (100, [], (jenc (jlg 4))), (100, [], (jenc (jlg 5)))]) (ex := []) (v := (0, (jlz ((-2) * N + 1) (2 * x4) 0 0 0 0).sign)) (st2 := [(0, (jlz ((-2) * N + 1) (2 * x4) 0 0 0 0).sign)]) (hs2 := [jzQ_371, (101, [], [1, 2 * x4, 0, 0, 0, 0]), jgh, jgh, jgh, jgh, jgh, (130, [], [17, 18, 19, 20, 21, 22]), jgh, jgh, jgh, jgh, jgh, jgh, jgh, jgh, jgh, (100, [], (jenc (jlg 0))), (100, [], (jenc (jlg 1))), (100, [], (jenc (jlg 2))), (100, [], (jenc (jlg 3))), (100, [], (jenc (jlg 4))), (100, [], (jenc (jlg 5)))]) (jQ_212_279 (d := 0) (by omega) (by omega) (by omega)) (by rfl) (by rfl) (by rfl) (by rfl) ⟨rfl, rfl, rfl, rfl, rfl, rfl, rfl, rfl, rfl, rfl, rfl, rfl, rfl, rfl, rfl, rfl, rfl, rfl, rfl, rfl, rfl, rfl, rfl, trivial⟩ (by rfl) (by rfl) (by omega) (by show 23 ≤ 23; omega) (by omega) (by omega) rfl rfl ?_
    have hb_q2 := jsgn_b (jlz ((-2) * N + 1) (2 * x4) 0 0 0 0)
    generalize hq_q2 : (jlz ((-2) * N + 1) (2 * x4) 0 0 0 0).sign = q2 at hb_q2 g_1 ⊢
    refine jT_ifT (a := q2) (t := 31) (by rfl) (by rfl) (by rfl) (jw_idd (by omega) (by omega)) (by simp only [jcP] <;> omega) ?_
    refine jT_xaload_n (v := (4, 0)) (pcN := 32) jIQ_210_31 rfl rfl rfl ?_
    refine jT_xaload_n (v := (4, 1)) (pcN := 33) jIQ_210_32 rfl rfl rfl ?_
    refine jT_xlload (v := (1, N)) (pcN := 35) jIQ_210_33 rfl rfl rfl ?_
    refine jT_xlconst (z := 1) (pcN := 36) jIQ_210_35 rfl rfl ?_
    refine jT_xladd (x := N) (y := 1) (z := N + 1) (pcN := 37) jIQ_210_36 rfl (rfl) rfl ?_
    refine jT_xlload_n (v := (1, 2)) (pcN := 38) jIQ_210_37 rfl rfl rfl ?_
    refine jT_xlmul (x := N + 1) (y := 2) (z := 2 * N + 2) (pcN := 39) jIQ_210_38 rfl (by omega) rfl ?_
    refine jT_callA [0, 1, 2, 3, 4, 5, 6, 7, 8, 9, 10, 11, 12, 13, 14, 15, 16, 17, 18, 19, 20, 21, 22] (y := 212) (pcN := 42) (dC := 4) (bc1 := 20) (bc2 := 1070) (c1 := 0) (c2 := 0) (as := [(4, 0), (4, 1), (1, 2 * N + 2)]) (asC := [(4, 0), (4, 1), (1, 2 * N + 2)]) (LN := [(4, (1, N)), (0, (4, 0)), (1, (4, 1)), (2, (1, 2))]) (stN := []) (hsC := [jzQ_371, (101, [], [1, 2 * x4, 0, 0, 0, 0]), jgh, jgh, jgh, jgh, jgh, (130, [], [17, 18, 19, 20, 21, 22]), jgh, jgh, jgh, jgh, jgh, jgh, jgh, jgh, jgh, (100, [], (jenc (jlg 0))), (100, [], (jenc (jlg 1))), (100, [], (jenc (jlg 2))), (100, [], (jenc (jlg 3))), (100, [], (jenc (jlg 4))), (100, [], (jenc (jlg 5)))]) (ex := []) (v := (0, (jlz ((-2) * N - 1) (2 * x4) 0 0 0 0).sign)) (st2 := [(0, (jlz ((-2) * N - 1) (2 * x4) 0 0 0 0).sign)]) (hs2 := [jzQ_371, (101, [], [1, 2 * x4, 0, 0, 0, 0]), jgh, jgh, jgh, jgh, jgh, (130, [], [17, 18, 19, 20, 21, 22]), jgh, jgh, jgh, jgh, jgh, jgh, jgh, jgh, jgh, (100, [], (jenc (jlg 0))), (100, [], (jenc (jlg 1))), (100, [], (jenc (jlg 2))), (100, [], (jenc (jlg 3))), (100, [], (jenc (jlg 4))), (100, [], (jenc (jlg 5)))]) (jQ_212_275 (d := 0) (by omega) (by omega)) (by rfl) (by rfl) (by rfl) (by rfl) ⟨rfl, rfl, rfl, rfl, rfl, rfl, rfl, rfl, rfl, rfl, rfl, rfl, rfl, rfl, rfl, rfl, rfl, rfl, rfl, rfl, rfl, rfl, rfl, trivial⟩ (by rfl) (by rfl) (by omega) (by show 23 ≤ 23; omega) (by omega) (by omega) rfl rfl ?_
    rw [hq_q1]
    refine jT_ifT (a := q1) (t := 54) (by rfl) (by rfl) (by rfl) (jw_idd (by omega) (by omega)) (by simp only [jcP] <;> omega) ?_
    refine jT_xlload (v := (1, N)) (pcN := 56) jIQ_210_54 rfl rfl rfl ?_
    exact jT_ret rfl (by decide) (by show 23 ≤ 23; decide) (by omega) (by omega) ⟨rfl, rfl, rfl⟩
  · have g_0 : 0 ≤ (jlz ((-2) * N + 1) (2 * x4) 0 0 0 0).sign := jsgn_p (Int.le_trans hA (jlz_mono (by omega)))
    have g_1 : (jlz ((-2) * N - 1) (2 * x4) 0 0 0 0).sign < 0 := jsgn_n (Int.lt_of_le_of_lt (jlz_mono (by omega)) hB)
    refine jT_xaload_n (v := (4, 1)) (pcN := 1) jIQ_210_0 rfl rfl rfl ?_
    refine jT_callA [1] (y := 211) (pcN := 4) (dC := 0) (bc1 := 0) (bc2 := 0) (c1 := 60) (c2 := 3210) (as := [(4, 1)]) (asC := [(4, 0)]) (LN := [(0, (4, 0)), (1, (4, 1)), (2, (1, 2))]) (stN := []) (hsC := [(101, [], [1, 2 * x4, 0, 0, 0, 0])]) (ex := []) (v := (3, d7)) (st2 := [(3, d7)]) (hs2 := [jzQ_371, (101, [], [1, 2 * x4, 0, 0, 0, 0]), jgh, jgh, jgh, jgh, jgh, (130, [], [17, 18, 19, 20, 21, 22]), jgh, jgh, jgh, jgh, jgh, jgh, jgh, jgh, jgh, (100, [], (jenc (jlg 0))), (100, [], (jenc (jlg 1))), (100, [], (jenc (jlg 2))), (100, [], (jenc (jlg 3))), (100, [], (jenc (jlg 4))), (100, [], (jenc (jlg 5)))]) (jQl_ro_273 (d := 0) (by omega) fd1 fd2 fd3 fd4 fd5 fd6 fd7) (by rfl) (by rfl) (by rfl) (by rfl) ⟨rfl, trivial⟩ (by rfl) (by rfl) (by omega) (by show 23 ≤ 23; omega) (by omega) (by omega) rfl rfl ?_
    refine jT_xlload_n (v := (1, 2)) (pcN := 5) jIQ_210_4 rfl rfl rfl ?_
    refine jT_l2d (x := 2) (z := 4611686018427387904) (by rfl) (by rfl) (by decide +kernel) ?_
    refine jT_ddiv (x := d7) (y := 4611686018427387904) (z := d8) (by rfl) (by rfl) fd8 ?_
    refine jT_d2l (x := d8) (z := d9) (by rfl) (by rfl) fd9 ?_
    refine jT_xlstore (v := (1, d9)) (LN := [(4, (1, d9)), (0, (4, 0)), (1, (4, 1)), (2, (1, 2))]) (pcN := 10) jIQ_210_8 rfl rfl rfl rfl ?_
    refine jT_eq (LN := [(4, (1, N)), (0, (4, 0)), (1, (4, 1)), (2, (1, 2))]) (stN := []) (hsN := [jzQ_371, (101, [], [1, 2 * x4, 0, 0, 0, 0]), jgh, jgh, jgh, jgh, jgh, (130, [], [17, 18, 19, 20, 21, 22]), jgh, jgh, jgh, jgh, jgh, jgh, jgh, jgh, jgh, (100, [], (jenc (jlg 0))), (100, [], (jenc (jlg 1))), (100, [], (jenc (jlg 2))), (100, [], (jenc (jlg 3))), (100, [], (jenc (jlg 4))), (100, [], (jenc (jlg 5)))]) (by rw [g_n]) rfl rfl ?_
    refine jT_xaload_n (v := (4, 0)) (pcN := 11) jIQ_210_10 rfl rfl rfl ?_
    refine jT_xaload_n (v := (4, 1)) (pcN := 12) jIQ_210_11 rfl rfl rfl ?_
    refine jT_xlload (v := (1, N)) (pcN := 14) jIQ_210_12 rfl rfl rfl ?_
    refine jT_xlload_n (v := (1, 2)) (pcN := 15) jIQ_210_14 rfl rfl rfl ?_
    refine jT_xlmul (x := N) (y := 2) (z := 2 * N) (pcN := 16) jIQ_210_15 rfl (by omega) rfl ?_
    refine jT_callA [0, 1, 2, 3, 4, 5, 6, 7, 8, 9, 10, 11, 12, 13, 14, 15, 16, 17, 18, 19, 20, 21, 22] (y := 212) (pcN := 19) (dC := 4) (bc1 := 20) (bc2 := 1070) (c1 := 40) (c2 := 2140) (as := [(4, 0), (4, 1), (1, 2 * N)]) (asC := [(4, 0), (4, 1), (1, 2 * N)]) (LN := [(4, (1, N)), (0, (4, 0)), (1, (4, 1)), (2, (1, 2))]) (stN := []) (hsC := [jzQ_371, (101, [], [1, 2 * x4, 0, 0, 0, 0]), jgh, jgh, jgh, jgh, jgh, (130, [], [17, 18, 19, 20, 21, 22]), jgh, jgh, jgh, jgh, jgh, jgh, jgh, jgh, jgh, (100, [], (jenc (jlg 0))), (100, [], (jenc (jlg 1))), (100, [], (jenc (jlg 2))), (100, [], (jenc (jlg 3))), (100, [], (jenc (jlg 4))), (100, [], (jenc (jlg 5)))]) (ex := []) (v := (0, (jlz ((-2) * N + 1) (2 * x4) 0 0 0 0).sign)) (st2 := [(0, (jlz ((-2) * N + 1) (2 * x4) 0 0 0 0).sign)]) (hs2 := [jzQ_371, (101, [], [1, 2 * x4, 0, 0, 0, 0]), jgh, jgh, jgh, jgh, jgh, (130, [], [17, 18, 19, 20, 21, 22]), jgh, jgh, jgh, jgh, jgh, jgh, jgh, jgh, jgh, (100, [], (jenc (jlg 0))), (100, [], (jenc (jlg 1))), (100, [], (jenc (jlg 2))), (100, [], (jenc (jlg 3))), (100, [], (jenc (jlg 4))), (100, [], (jenc (jlg 5)))]) (jQ_212_280 (d := 0) (by omega) (by omega) (by omega) (by omega)) (by rfl) (by rfl) (by rfl) (by rfl) ⟨rfl, rfl, rfl, rfl, rfl, rfl, rfl, rfl, rfl, rfl, rfl, rfl, rfl, rfl, rfl, rfl, rfl, rfl, rfl, rfl, rfl, rfl, rfl, trivial⟩ (by rfl) (by rfl) (by omega) (by show 23 ≤ 23; omega) (by omega) (by omega) rfl rfl ?_
    have hb_q1 := jsgn_b (jlz ((-2) * N + 1) (2 * x4) 0 0 0 0)
    generalize hq_q1 : (jlz ((-2) * N + 1) (2 * x4) 0 0 0 0).sign = q1 at hb_q1 g_0 ⊢
    refine jT_ifT (a := q1) (t := 31) (by rfl) (by rfl) (by rfl) (jw_idd (by omega) (by omega)) (by simp only [jcP] <;> omega) ?_
    refine jT_xaload_n (v := (4, 0)) (pcN := 32) jIQ_210_31 rfl rfl rfl ?_
    refine jT_xaload_n (v := (4, 1)) (pcN := 33) jIQ_210_32 rfl rfl rfl ?_
    refine jT_xlload (v := (1, N)) (pcN := 35) jIQ_210_33 rfl rfl rfl ?_
    refine jT_xlconst (z := 1) (pcN := 36) jIQ_210_35 rfl rfl ?_
    refine jT_xladd (x := N) (y := 1) (z := N + 1) (pcN := 37) jIQ_210_36 rfl (rfl) rfl ?_
    refine jT_xlload_n (v := (1, 2)) (pcN := 38) jIQ_210_37 rfl rfl rfl ?_
    refine jT_xlmul (x := N + 1) (y := 2) (z := 2 * N + 2) (pcN := 39) jIQ_210_38 rfl (by omega) rfl ?_
    refine jT_callA [0, 1, 2, 3, 4, 5, 6, 7, 8, 9, 10, 11, 12, 13, 14, 15, 16, 17, 18, 19, 20, 21, 22] (y := 212) (pcN := 42) (dC := 4) (bc1 := 20) (bc2 := 1070) (c1 := 20) (c2 := 1070) (as := [(4, 0), (4, 1), (1, 2 * N + 2)]) (asC := [(4, 0), (4, 1), (1, 2 * N + 2)]) (LN := [(4, (1, N)), (0, (4, 0)), (1, (4, 1)), (2, (1, 2))]) (stN := []) (hsC := [jzQ_371, (101, [], [1, 2 * x4, 0, 0, 0, 0]), jgh, jgh, jgh, jgh, jgh, (130, [], [17, 18, 19, 20, 21, 22]), jgh, jgh, jgh, jgh, jgh, jgh, jgh, jgh, jgh, (100, [], (jenc (jlg 0))), (100, [], (jenc (jlg 1))), (100, [], (jenc (jlg 2))), (100, [], (jenc (jlg 3))), (100, [], (jenc (jlg 4))), (100, [], (jenc (jlg 5)))]) (ex := []) (v := (0, (jlz ((-2) * N - 1) (2 * x4) 0 0 0 0).sign)) (st2 := [(0, (jlz ((-2) * N - 1) (2 * x4) 0 0 0 0).sign)]) (hs2 := [jzQ_371, (101, [], [1, 2 * x4, 0, 0, 0, 0]), jgh, jgh, jgh, jgh, jgh, (130, [], [17, 18, 19, 20, 21, 22]), jgh, jgh, jgh, jgh, jgh, jgh, jgh, jgh, jgh, (100, [], (jenc (jlg 0))), (100, [], (jenc (jlg 1))), (100, [], (jenc (jlg 2))), (100, [], (jenc (jlg 3))), (100, [], (jenc (jlg 4))), (100, [], (jenc (jlg 5)))]) (jQ_212_276 (d := 0) (by omega) (by omega) (by omega)) (by rfl) (by rfl) (by rfl) (by rfl) ⟨rfl, rfl, rfl, rfl, rfl, rfl, rfl, rfl, rfl, rfl, rfl, rfl, rfl, rfl, rfl, rfl, rfl, rfl, rfl, rfl, rfl, rfl, rfl, trivial⟩ (by rfl) (by rfl) (by omega) (by show 23 ≤ 23; omega) (by omega) (by omega) rfl rfl ?_
    have hb_q2 := jsgn_b (jlz ((-2) * N - 1) (2 * x4) 0 0 0 0)
    generalize hq_q2 : (jlz ((-2) * N - 1) (2 * x4) 0 0 0 0).sign = q2 at hb_q2 g_1 ⊢
    refine jT_ifT (a := q2) (t := 54) (by rfl) (by rfl) (by rfl) (jw_idd (by omega) (by omega)) (by simp only [jcP] <;> omega) ?_
    refine jT_xlload (v := (1, N)) (pcN := 56) jIQ_210_54 rfl rfl rfl ?_
    exact jT_ret rfl (by decide) (by show 23 ≤ 23; decide) (by omega) (by omega) ⟨rfl, rfl, rfl⟩
theorem jQl_ps_281 {xs : List Int} {d : Nat} {x4 : Int} (h_x4 : 1 ≤ x4 ∧ x4 ≤ 100) : jT xs (d + 5) 210 23 0 [(0, (4, 0)), (1, (4, 1)), (2, (1, 2))] [] [jzQ_371, (101, [], [1, 2 * x4, 0, 0, 0, 0]), jgh, jgh, jgh, jgh, jgh, (130, [], [17, 18, 19, 20, 21, 22]), jgh, jgh, jgh, jgh, jgh, jgh, jgh, jgh, jgh, (100, [], (jenc (jlg 0))), (100, [], (jenc (jlg 1))), (100, [], (jenc (jlg 2))), (100, [], (jenc (jlg 3))), (100, [], (jenc (jlg 4))), (100, [], (jenc (jlg 5)))] 60 3210 (fun k v hsN => k = 0 ∧ v = (1, jbp1 x4) ∧ hsN = [jzQ_371, (101, [], [1, 2 * x4, 0, 0, 0, 0]), jgh, jgh, jgh, jgh, jgh, (130, [], [17, 18, 19, 20, 21, 22]), jgh, jgh, jgh, jgh, jgh, jgh, jgh, jgh, jgh, (100, [], (jenc (jlg 0))), (100, [], (jenc (jlg 1))), (100, [], (jenc (jlg 2))), (100, [], (jenc (jlg 3))), (100, [], (jenc (jlg 4))), (100, [], (jenc (jlg 5)))]) := by
  obtain ⟨d1, d2, d3, d4, d5, d6, d7, d8, d9, fd1, fd2, fd3, fd4, fd5, fd6, fd7, fd8, fd9, h1, h2, h3, hA, hB⟩ := jbx_1 (p := x4) (by omega)
  exact jQl_pc_274 (by omega) fd1 fd2 fd3 fd4 fd5 fd6 fd7 fd8 fd9 h3 h1 h2 hA hB
theorem jQ_216_282 {xs : List Int} {d : Nat} {x4 : Int} (h_x4 : 1 ≤ x4 ∧ x4 ≤ 100) : jT xs (d + 6) 216 23 0 [(0, (4, 0)), (1, (4, 1)), (2, (1, 1))] [] [jzQ_371, (101, [], [0, x4, 0, 0, 0, 0]), jgh, jgh, jgh, jgh, jgh, (130, [], [17, 18, 19, 20, 21, 22]), jgh, jgh, jgh, jgh, jgh, jgh, jgh, jgh, jgh, (100, [], (jenc (jlg 0))), (100, [], (jenc (jlg 1))), (100, [], (jenc (jlg 2))), (100, [], (jenc (jlg 3))), (100, [], (jenc (jlg 4))), (100, [], (jenc (jlg 5)))] 61 3216 (fun k v hsN => k = 0 ∧ v = (1, jbp1 x4) ∧ hsN = [jzQ_371, (101, [], [0, x4, 0, 0, 0, 0]), jgh, jgh, jgh, jgh, jgh, (130, [], [17, 18, 19, 20, 21, 22]), jgh, jgh, jgh, jgh, jgh, jgh, jgh, jgh, jgh, (100, [], (jenc (jlg 0))), (100, [], (jenc (jlg 1))), (100, [], (jenc (jlg 2))), (100, [], (jenc (jlg 3))), (100, [], (jenc (jlg 4))), (100, [], (jenc (jlg 5)))] ++ []) := by
  refine jT_xbipush (k := 6) (pcN := 2) jIQ_216_0 (by decide) rfl ?_
  refine jT_adv 1 (pcN := 4) (LN := [(0, (4, 0)), (1, (4, 1)), (2, (1, 1))]) (stN := [(4, 23)]) (hsN := [jzQ_371, (101, [], [0, x4, 0, 0, 0, 0]), jgh, jgh, jgh, jgh, jgh, (130, [], [17, 18, 19, 20, 21, 22]), jgh, jgh, jgh, jgh, jgh, jgh, jgh, jgh, jgh, (100, [], (jenc (jlg 0))), (100, [], (jenc (jlg 1))), (100, [], (jenc (jlg 2))), (100, [], (jenc (jlg 3))), (100, [], (jenc (jlg 4))), (100, [], (jenc (jlg 5))), (101, [], [0, 0, 0, 0, 0, 0])]) (c1 := 1) (s1 := 6) (c2 := 60) (s2 := 3210) (by exact rfl) ?_ (by omega) (by omega)
  refine jT_xastore (v := (4, 23)) (LN := [(4, (4, 23)), (0, (4, 0)), (1, (4, 1)), (2, (1, 1))]) (pcN := 6) jIQ_216_4 rfl rfl rfl rfl ?_
  refine jT_xiconst (k := 0) (pcN := 7) jIQ_216_6 rfl ?_
  refine jT_xistore (v := (0, 0)) (LN := [(5, (0, 0)), (4, (4, 23)), (0, (4, 0)), (1, (4, 1)), (2, (1, 1))]) (pcN := 9) jIQ_216_7 rfl rfl rfl rfl ?_
  refine jT_xiload (v := (0, 0)) (pcN := 11) jIQ_216_9 rfl rfl rfl ?_
  refine jT_xbipush (k := 6) (pcN := 13) jIQ_216_11 (by decide) rfl ?_
  refine jT_xicF (t := 35) (pcN := 16) jIQ_216_13 rfl (by decide +kernel) rfl rfl ?_
  refine jT_xaload (v := (4, 23)) (pcN := 18) jIQ_216_16 rfl rfl rfl ?_
  refine jT_xiload (v := (0, 0)) (pcN := 20) jIQ_216_18 rfl rfl rfl ?_
  refine jT_adv 1 (pcN := 23) (LN := [(5, (0, 0)), (4, (4, 23)), (0, (4, 0)), (1, (4, 1)), (2, (1, 1))]) (stN := [(1, 2), (0, 0), (4, 23)]) (hsN := [jzQ_371, (101, [], [0, x4, 0, 0, 0, 0]), jgh, jgh, jgh, jgh, jgh, (130, [], [17, 18, 19, 20, 21, 22]), jgh, jgh, jgh, jgh, jgh, jgh, jgh, jgh, jgh, (100, [], (jenc (jlg 0))), (100, [], (jenc (jlg 1))), (100, [], (jenc (jlg 2))), (100, [], (jenc (jlg 3))), (100, [], (jenc (jlg 4))), (100, [], (jenc (jlg 5))), (101, [], [0, 0, 0, 0, 0, 0])]) (c1 := 0) (s1 := 0) (c2 := 60) (s2 := 3210) (by exact rfl) ?_ (by omega) (by omega)
  refine jT_xaload_n (v := (4, 1)) (pcN := 24) jIQ_216_23 rfl rfl rfl ?_
  refine jT_xiload (v := (0, 0)) (pcN := 26) jIQ_216_24 rfl rfl rfl ?_
  refine jT_lald (x := 0) (a := 1) (j := 0) (fs := []) (X := [0, x4, 0, 0, 0, 0]) jIQ_216_26 rfl rfl rfl rfl ?_
  refine jT_eq (LN := [(5, (0, 0)), (4, (4, 23)), (0, (4, 0)), (1, (4, 1)), (2, (1, 1))]) (stN := [(1, 0), (1, 2), (0, 0), (4, 23)]) (hsN := [jzQ_371, (101, [], [0, x4, 0, 0, 0, 0]), jgh, jgh, jgh, jgh, jgh, (130, [], [17, 18, 19, 20, 21, 22]), jgh, jgh, jgh, jgh, jgh, jgh, jgh, jgh, jgh, (100, [], (jenc (jlg 0))), (100, [], (jenc (jlg 1))), (100, [], (jenc (jlg 2))), (100, [], (jenc (jlg 3))), (100, [], (jenc (jlg 4))), (100, [], (jenc (jlg 5))), (101, [], [0, 0, 0, 0, 0, 0])]) rfl rfl rfl ?_
  refine jT_xlmul (x := 2) (y := 0) (z := 0) (pcN := 28) jIQ_216_27 rfl (by decide) rfl ?_
  refine jT_adv 1 (pcN := 29) (LN := [(5, (0, 0)), (4, (4, 23)), (0, (4, 0)), (1, (4, 1)), (2, (1, 1))]) (stN := []) (hsN := [jzQ_371, (101, [], [0, x4, 0, 0, 0, 0]), jgh, jgh, jgh, jgh, jgh, (130, [], [17, 18, 19, 20, 21, 22]), jgh, jgh, jgh, jgh, jgh, jgh, jgh, jgh, jgh, (100, [], (jenc (jlg 0))), (100, [], (jenc (jlg 1))), (100, [], (jenc (jlg 2))), (100, [], (jenc (jlg 3))), (100, [], (jenc (jlg 4))), (100, [], (jenc (jlg 5))), (101, [], [0, 0, 0, 0, 0, 0])]) (c1 := 0) (s1 := 0) (c2 := 60) (s2 := 3210) (by exact rfl) ?_ (by omega) (by omega)
  refine jT_xiinc (x := 0) (z := 1) (LN := [(5, (0, 1)), (4, (4, 23)), (0, (4, 0)), (1, (4, 1)), (2, (1, 1))]) (pcN := 32) jIQ_216_29 rfl rfl (by decide) rfl rfl ?_
  refine jT_xgoto (pcN := 9) jIQ_216_32 rfl ?_
  refine jT_xiload (v := (0, 1)) (pcN := 11) jIQ_216_9 rfl rfl rfl ?_
  refine jT_xbipush (k := 6) (pcN := 13) jIQ_216_11 (by decide) rfl ?_
  refine jT_xicF (t := 35) (pcN := 16) jIQ_216_13 rfl (by decide +kernel) rfl rfl ?_
  refine jT_xaload (v := (4, 23)) (pcN := 18) jIQ_216_16 rfl rfl rfl ?_
  refine jT_xiload (v := (0, 1)) (pcN := 20) jIQ_216_18 rfl rfl rfl ?_
  refine jT_adv 1 (pcN := 23) (LN := [(5, (0, 1)), (4, (4, 23)), (0, (4, 0)), (1, (4, 1)), (2, (1, 1))]) (stN := [(1, 2), (0, 1), (4, 23)]) (hsN := [jzQ_371, (101, [], [0, x4, 0, 0, 0, 0]), jgh, jgh, jgh, jgh, jgh, (130, [], [17, 18, 19, 20, 21, 22]), jgh, jgh, jgh, jgh, jgh, jgh, jgh, jgh, jgh, (100, [], (jenc (jlg 0))), (100, [], (jenc (jlg 1))), (100, [], (jenc (jlg 2))), (100, [], (jenc (jlg 3))), (100, [], (jenc (jlg 4))), (100, [], (jenc (jlg 5))), (101, [], [0, 0, 0, 0, 0, 0])]) (c1 := 0) (s1 := 0) (c2 := 60) (s2 := 3210) (by exact rfl) ?_ (by omega) (by omega)
  refine jT_xaload_n (v := (4, 1)) (pcN := 24) jIQ_216_23 rfl rfl rfl ?_
  refine jT_xiload (v := (0, 1)) (pcN := 26) jIQ_216_24 rfl rfl rfl ?_
  refine jT_lald (x := x4) (a := 1) (j := 1) (fs := []) (X := [0, x4, 0, 0, 0, 0]) jIQ_216_26 rfl rfl rfl rfl ?_
  refine jT_eq (LN := [(5, (0, 1)), (4, (4, 23)), (0, (4, 0)), (1, (4, 1)), (2, (1, 1))]) (stN := [(1, x4), (1, 2), (0, 1), (4, 23)]) (hsN := [jzQ_371, (101, [], [0, x4, 0, 0, 0, 0]), jgh, jgh, jgh, jgh, jgh, (130, [], [17, 18, 19, 20, 21, 22]), jgh, jgh, jgh, jgh, jgh, jgh, jgh, jgh, jgh, (100, [], (jenc (jlg 0))), (100, [], (jenc (jlg 1))), (100, [], (jenc (jlg 2))), (100, [], (jenc (jlg 3))), (100, [], (jenc (jlg 4))), (100, [], (jenc (jlg 5))), (101, [], [0, 0, 0, 0, 0, 0])]) rfl rfl rfl ?_
  refine jT_xlmul (x := 2) (y := x4) (z := 2 * x4) (pcN := 28) jIQ_216_27 rfl (rfl) rfl ?_
  refine jT_adv 1 (pcN := 29) (LN := [(5, (0, 1)), (4, (4, 23)), (0, (4, 0)), (1, (4, 1)), (2, (1, 1))]) (stN := []) (hsN := [jzQ_371, (101, [], [0, x4, 0, 0, 0, 0]), jgh, jgh, jgh, jgh, jgh, (130, [], [17, 18, 19, 20, 21, 22]), jgh, jgh, jgh, jgh, jgh, jgh, jgh, jgh, jgh, (100, [], (jenc (jlg 0))), (100, [], (jenc (jlg 1))), (100, [], (jenc (jlg 2))), (100, [], (jenc (jlg 3))), (100, [], (jenc (jlg 4))), (100, [], (jenc (jlg 5))), (101, [], [0, 2 * x4, 0, 0, 0, 0])]) (c1 := 0) (s1 := 0) (c2 := 60) (s2 := 3210) (by exact rfl) ?_ (by omega) (by omega)
  refine jT_xiinc (x := 1) (z := 2) (LN := [(5, (0, 2)), (4, (4, 23)), (0, (4, 0)), (1, (4, 1)), (2, (1, 1))]) (pcN := 32) jIQ_216_29 rfl rfl (by decide) rfl rfl ?_
  refine jT_xgoto (pcN := 9) jIQ_216_32 rfl ?_
  refine jT_xiload (v := (0, 2)) (pcN := 11) jIQ_216_9 rfl rfl rfl ?_
  refine jT_xbipush (k := 6) (pcN := 13) jIQ_216_11 (by decide) rfl ?_
  refine jT_xicF (t := 35) (pcN := 16) jIQ_216_13 rfl (by decide +kernel) rfl rfl ?_
  refine jT_xaload (v := (4, 23)) (pcN := 18) jIQ_216_16 rfl rfl rfl ?_
  refine jT_xiload (v := (0, 2)) (pcN := 20) jIQ_216_18 rfl rfl rfl ?_
  refine jT_adv 1 (pcN := 23) (LN := [(5, (0, 2)), (4, (4, 23)), (0, (4, 0)), (1, (4, 1)), (2, (1, 1))]) (stN := [(1, 2), (0, 2), (4, 23)]) (hsN := [jzQ_371, (101, [], [0, x4, 0, 0, 0, 0]), jgh, jgh, jgh, jgh, jgh, (130, [], [17, 18, 19, 20, 21, 22]), jgh, jgh, jgh, jgh, jgh, jgh, jgh, jgh, jgh, (100, [], (jenc (jlg 0))), (100, [], (jenc (jlg 1))), (100, [], (jenc (jlg 2))), (100, [], (jenc (jlg 3))), (100, [], (jenc (jlg 4))), (100, [], (jenc (jlg 5))), (101, [], [0, 2 * x4, 0, 0, 0, 0])]) (c1 := 0) (s1 := 0) (c2 := 60) (s2 := 3210) (by exact rfl) ?_ (by omega) (by omega)
  refine jT_xaload_n (v := (4, 1)) (pcN := 24) jIQ_216_23 rfl rfl rfl ?_
  refine jT_xiload (v := (0, 2)) (pcN := 26) jIQ_216_24 rfl rfl rfl ?_
  refine jT_lald (x := 0) (a := 1) (j := 2) (fs := []) (X := [0, x4, 0, 0, 0, 0]) jIQ_216_26 rfl rfl rfl rfl ?_
  refine jT_eq (LN := [(5, (0, 2)), (4, (4, 23)), (0, (4, 0)), (1, (4, 1)), (2, (1, 1))]) (stN := [(1, 0), (1, 2), (0, 2), (4, 23)]) (hsN := [jzQ_371, (101, [], [0, x4, 0, 0, 0, 0]), jgh, jgh, jgh, jgh, jgh, (130, [], [17, 18, 19, 20, 21, 22]), jgh, jgh, jgh, jgh, jgh, jgh, jgh, jgh, jgh, (100, [], (jenc (jlg 0))), (100, [], (jenc (jlg 1))), (100, [], (jenc (jlg 2))), (100, [], (jenc (jlg 3))), (100, [], (jenc (jlg 4))), (100, [], (jenc (jlg 5))), (101, [], [0, 2 * x4, 0, 0, 0, 0])]) rfl rfl rfl ?_
  refine jT_xlmul (x := 2) (y := 0) (z := 0) (pcN := 28) jIQ_216_27 rfl (by decide) rfl ?_
  refine jT_adv 1 (pcN := 29) (LN := [(5, (0, 2)), (4, (4, 23)), (0, (4, 0)), (1, (4, 1)), (2, (1, 1))]) (stN := []) (hsN := [jzQ_371, (101, [], [0, x4, 0, 0, 0, 0]), jgh, jgh, jgh, jgh, jgh, (130, [], [17, 18, 19, 20, 21, 22]), jgh, jgh, jgh, jgh, jgh, jgh, jgh, jgh, jgh, (100, [], (jenc (jlg 0))), (100, [], (jenc (jlg 1))), (100, [], (jenc (jlg 2))), (100, [], (jenc (jlg 3))), (100, [], (jenc (jlg 4))), (100, [], (jenc (jlg 5))), (101, [], [0, 2 * x4, 0, 0, 0, 0])]) (c1 := 0) (s1 := 0) (c2 := 60) (s2 := 3210) (by exact rfl) ?_ (by omega) (by omega)
  refine jT_xiinc (x := 2) (z := 3) (LN := [(5, (0, 3)), (4, (4, 23)), (0, (4, 0)), (1, (4, 1)), (2, (1, 1))]) (pcN := 32) jIQ_216_29 rfl rfl (by decide) rfl rfl ?_
  refine jT_xgoto (pcN := 9) jIQ_216_32 rfl ?_
  refine jT_xiload (v := (0, 3)) (pcN := 11) jIQ_216_9 rfl rfl rfl ?_
  refine jT_xbipush (k := 6) (pcN := 13) jIQ_216_11 (by decide) rfl ?_
  refine jT_xicF (t := 35) (pcN := 16) jIQ_216_13 rfl (by decide +kernel) rfl rfl ?_
  refine jT_xaload (v := (4, 23)) (pcN := 18) jIQ_216_16 rfl rfl rfl ?_
  refine jT_xiload (v := (0, 3)) (pcN := 20) jIQ_216_18 rfl rfl rfl ?_
  refine jT_adv 1 (pcN := 23) (LN := [(5, (0, 3)), (4, (4, 23)), (0, (4, 0)), (1, (4, 1)), (2, (1, 1))]) (stN := [(1, 2), (0, 3), (4, 23)]) (hsN := [jzQ_371, (101, [], [0, x4, 0, 0, 0, 0]), jgh, jgh, jgh, jgh, jgh, (130, [], [17, 18, 19, 20, 21, 22]), jgh, jgh, jgh, jgh, jgh, jgh, jgh, jgh, jgh, (100, [], (jenc (jlg 0))), (100, [], (jenc (jlg 1))), (100, [], (jenc (jlg 2))), (100, [], (jenc (jlg 3))), (100, [], (jenc (jlg 4))), (100, [], (jenc (jlg 5))), (101, [], [0, 2 * x4, 0, 0, 0, 0])]) (c1 := 0) (s1 := 0) (c2 := 60) (s2 := 3210) (by exact rfl) ?_ (by omega) (by omega)
  refine jT_xaload_n (v := (4, 1)) (pcN := 24) jIQ_216_23 rfl rfl rfl ?_
  refine jT_xiload (v := (0, 3)) (pcN := 26) jIQ_216_24 rfl rfl rfl ?_
  refine jT_lald (x := 0) (a := 1) (j := 3) (fs := []) (X := [0, x4, 0, 0, 0, 0]) jIQ_216_26 rfl rfl rfl rfl ?_
  refine jT_eq (LN := [(5, (0, 3)), (4, (4, 23)), (0, (4, 0)), (1, (4, 1)), (2, (1, 1))]) (stN := [(1, 0), (1, 2), (0, 3), (4, 23)]) (hsN := [jzQ_371, (101, [], [0, x4, 0, 0, 0, 0]), jgh, jgh, jgh, jgh, jgh, (130, [], [17, 18, 19, 20, 21, 22]), jgh, jgh, jgh, jgh, jgh, jgh, jgh, jgh, jgh, (100, [], (jenc (jlg 0))), (100, [], (jenc (jlg 1))), (100, [], (jenc (jlg 2))), (100, [], (jenc (jlg 3))), (100, [], (jenc (jlg 4))), (100, [], (jenc (jlg 5))), (101, [], [0, 2 * x4, 0, 0, 0, 0])]) rfl rfl rfl ?_
  refine jT_xlmul (x := 2) (y := 0) (z := 0) (pcN := 28) jIQ_216_27 rfl (by decide) rfl ?_
  refine jT_adv 1 (pcN := 29) (LN := [(5, (0, 3)), (4, (4, 23)), (0, (4, 0)), (1, (4, 1)), (2, (1, 1))]) (stN := []) (hsN := [jzQ_371, (101, [], [0, x4, 0, 0, 0, 0]), jgh, jgh, jgh, jgh, jgh, (130, [], [17, 18, 19, 20, 21, 22]), jgh, jgh, jgh, jgh, jgh, jgh, jgh, jgh, jgh, (100, [], (jenc (jlg 0))), (100, [], (jenc (jlg 1))), (100, [], (jenc (jlg 2))), (100, [], (jenc (jlg 3))), (100, [], (jenc (jlg 4))), (100, [], (jenc (jlg 5))), (101, [], [0, 2 * x4, 0, 0, 0, 0])]) (c1 := 0) (s1 := 0) (c2 := 60) (s2 := 3210) (by exact rfl) ?_ (by omega) (by omega)
  refine jT_xiinc (x := 3) (z := 4) (LN := [(5, (0, 4)), (4, (4, 23)), (0, (4, 0)), (1, (4, 1)), (2, (1, 1))]) (pcN := 32) jIQ_216_29 rfl rfl (by decide) rfl rfl ?_
  refine jT_xgoto (pcN := 9) jIQ_216_32 rfl ?_
  refine jT_xiload (v := (0, 4)) (pcN := 11) jIQ_216_9 rfl rfl rfl ?_
  refine jT_xbipush (k := 6) (pcN := 13) jIQ_216_11 (by decide) rfl ?_
  refine jT_xicF (t := 35) (pcN := 16) jIQ_216_13 rfl (by decide +kernel) rfl rfl ?_
  refine jT_xaload (v := (4, 23)) (pcN := 18) jIQ_216_16 rfl rfl rfl ?_
  refine jT_xiload (v := (0, 4)) (pcN := 20) jIQ_216_18 rfl rfl rfl ?_
  refine jT_adv 1 (pcN := 23) (LN := [(5, (0, 4)), (4, (4, 23)), (0, (4, 0)), (1, (4, 1)), (2, (1, 1))]) (stN := [(1, 2), (0, 4), (4, 23)]) (hsN := [jzQ_371, (101, [], [0, x4, 0, 0, 0, 0]), jgh, jgh, jgh, jgh, jgh, (130, [], [17, 18, 19, 20, 21, 22]), jgh, jgh, jgh, jgh, jgh, jgh, jgh, jgh, jgh, (100, [], (jenc (jlg 0))), (100, [], (jenc (jlg 1))), (100, [], (jenc (jlg 2))), (100, [], (jenc (jlg 3))), (100, [], (jenc (jlg 4))), (100, [], (jenc (jlg 5))), (101, [], [0, 2 * x4, 0, 0, 0, 0])]) (c1 := 0) (s1 := 0) (c2 := 60) (s2 := 3210) (by exact rfl) ?_ (by omega) (by omega)
  refine jT_xaload_n (v := (4, 1)) (pcN := 24) jIQ_216_23 rfl rfl rfl ?_
  refine jT_xiload (v := (0, 4)) (pcN := 26) jIQ_216_24 rfl rfl rfl ?_
  refine jT_lald (x := 0) (a := 1) (j := 4) (fs := []) (X := [0, x4, 0, 0, 0, 0]) jIQ_216_26 rfl rfl rfl rfl ?_
  refine jT_eq (LN := [(5, (0, 4)), (4, (4, 23)), (0, (4, 0)), (1, (4, 1)), (2, (1, 1))]) (stN := [(1, 0), (1, 2), (0, 4), (4, 23)]) (hsN := [jzQ_371, (101, [], [0, x4, 0, 0, 0, 0]), jgh, jgh, jgh, jgh, jgh, (130, [], [17, 18, 19, 20, 21, 22]), jgh, jgh, jgh, jgh, jgh, jgh, jgh, jgh, jgh, (100, [], (jenc (jlg 0))), (100, [], (jenc (jlg 1))), (100, [], (jenc (jlg 2))), (100, [], (jenc (jlg 3))), (100, [], (jenc (jlg 4))), (100, [], (jenc (jlg 5))), (101, [], [0, 2 * x4, 0, 0, 0, 0])]) rfl rfl rfl ?_
  refine jT_xlmul (x := 2) (y := 0) (z := 0) (pcN := 28) jIQ_216_27 rfl (by decide) rfl ?_
  refine jT_adv 1 (pcN := 29) (LN := [(5, (0, 4)), (4, (4, 23)), (0, (4, 0)), (1, (4, 1)), (2, (1, 1))]) (stN := []) (hsN := [jzQ_371, (101, [], [0, x4, 0, 0, 0, 0]), jgh, jgh, jgh, jgh, jgh, (130, [], [17, 18, 19, 20, 21, 22]), jgh, jgh, jgh, jgh, jgh, jgh, jgh, jgh, jgh, (100, [], (jenc (jlg 0))), (100, [], (jenc (jlg 1))), (100, [], (jenc (jlg 2))), (100, [], (jenc (jlg 3))), (100, [], (jenc (jlg 4))), (100, [], (jenc (jlg 5))), (101, [], [0, 2 * x4, 0, 0, 0, 0])]) (c1 := 0) (s1 := 0) (c2 := 60) (s2 := 3210) (by exact rfl) ?_ (by omega) (by omega)
  refine jT_xiinc (x := 4) (z := 5) (LN := [(5, (0, 5)), (4, (4, 23)), (0, (4, 0)), (1, (4, 1)), (2, (1, 1))]) (pcN := 32) jIQ_216_29 rfl rfl (by decide) rfl rfl ?_
  refine jT_xgoto (pcN := 9) jIQ_216_32 rfl ?_
  refine jT_xiload (v := (0, 5)) (pcN := 11) jIQ_216_9 rfl rfl rfl ?_
  refine jT_xbipush (k := 6) (pcN := 13) jIQ_216_11 (by decide) rfl ?_
  refine jT_xicF (t := 35) (pcN := 16) jIQ_216_13 rfl (by decide +kernel) rfl rfl ?_
  refine jT_xaload (v := (4, 23)) (pcN := 18) jIQ_216_16 rfl rfl rfl ?_
  refine jT_xiload (v := (0, 5)) (pcN := 20) jIQ_216_18 rfl rfl rfl ?_
  refine jT_adv 1 (pcN := 23) (LN := [(5, (0, 5)), (4, (4, 23)), (0, (4, 0)), (1, (4, 1)), (2, (1, 1))]) (stN := [(1, 2), (0, 5), (4, 23)]) (hsN := [jzQ_371, (101, [], [0, x4, 0, 0, 0, 0]), jgh, jgh, jgh, jgh, jgh, (130, [], [17, 18, 19, 20, 21, 22]), jgh, jgh, jgh, jgh, jgh, jgh, jgh, jgh, jgh, (100, [], (jenc (jlg 0))), (100, [], (jenc (jlg 1))), (100, [], (jenc (jlg 2))), (100, [], (jenc (jlg 3))), (100, [], (jenc (jlg 4))), (100, [], (jenc (jlg 5))), (101, [], [0, 2 * x4, 0, 0, 0, 0])]) (c1 := 0) (s1 := 0) (c2 := 60) (s2 := 3210) (by exact rfl) ?_ (by omega) (by omega)
  refine jT_xaload_n (v := (4, 1)) (pcN := 24) jIQ_216_23 rfl rfl rfl ?_
  refine jT_xiload (v := (0, 5)) (pcN := 26) jIQ_216_24 rfl rfl rfl ?_
  refine jT_lald (x := 0) (a := 1) (j := 5) (fs := []) (X := [0, x4, 0, 0, 0, 0]) jIQ_216_26 rfl rfl rfl rfl ?_
  refine jT_eq (LN := [(5, (0, 5)), (4, (4, 23)), (0, (4, 0)), (1, (4, 1)), (2, (1, 1))]) (stN := [(1, 0), (1, 2), (0, 5), (4, 23)]) (hsN := [jzQ_371, (101, [], [0, x4, 0, 0, 0, 0]), jgh, jgh, jgh, jgh, jgh, (130, [], [17, 18, 19, 20, 21, 22]), jgh, jgh, jgh, jgh, jgh, jgh, jgh, jgh, jgh, (100, [], (jenc (jlg 0))), (100, [], (jenc (jlg 1))), (100, [], (jenc (jlg 2))), (100, [], (jenc (jlg 3))), (100, [], (jenc (jlg 4))), (100, [], (jenc (jlg 5))), (101, [], [0, 2 * x4, 0, 0, 0, 0])]) rfl rfl rfl ?_
  refine jT_xlmul (x := 2) (y := 0) (z := 0) (pcN := 28) jIQ_216_27 rfl (by decide) rfl ?_
  refine jT_adv 1 (pcN := 29) (LN := [(5, (0, 5)), (4, (4, 23)), (0, (4, 0)), (1, (4, 1)), (2, (1, 1))]) (stN := []) (hsN := [jzQ_371, (101, [], [0, x4, 0, 0, 0, 0]), jgh, jgh, jgh, jgh, jgh, (130, [], [17, 18, 19, 20, 21, 22]), jgh, jgh, jgh, jgh, jgh, jgh, jgh, jgh, jgh, (100, [], (jenc (jlg 0))), (100, [], (jenc (jlg 1))), (100, [], (jenc (jlg 2))), (100, [], (jenc (jlg 3))), (100, [], (jenc (jlg 4))), (100, [], (jenc (jlg 5))), (101, [], [0, 2 * x4, 0, 0, 0, 0])]) (c1 := 0) (s1 := 0) (c2 := 60) (s2 := 3210) (by exact rfl) ?_ (by omega) (by omega)
  refine jT_xiinc (x := 5) (z := 6) (LN := [(5, (0, 6)), (4, (4, 23)), (0, (4, 0)), (1, (4, 1)), (2, (1, 1))]) (pcN := 32) jIQ_216_29 rfl rfl (by decide) rfl rfl ?_
  refine jT_xgoto (pcN := 9) jIQ_216_32 rfl ?_
  refine jT_xiload (v := (0, 6)) (pcN := 11) jIQ_216_9 rfl rfl rfl ?_
  refine jT_xbipush (k := 6) (pcN := 13) jIQ_216_11 (by decide) rfl ?_
  refine jT_xicT (pcN := 35) jIQ_216_13 rfl (by decide +kernel) rfl ?_
  refine jT_xaload (v := (4, 23)) (pcN := 37) jIQ_216_35 rfl rfl rfl ?_
  refine jT_xiconst (k := 0) (pcN := 38) jIQ_216_37 rfl ?_
  refine jT_adv 1 (pcN := 39) (LN := [(5, (0, 6)), (4, (4, 23)), (0, (4, 0)), (1, (4, 1)), (2, (1, 1))]) (stN := [(0, 0), (4, 23), (0, 0), (4, 23)]) (hsN := [jzQ_371, (101, [], [0, x4, 0, 0, 0, 0]), jgh, jgh, jgh, jgh, jgh, (130, [], [17, 18, 19, 20, 21, 22]), jgh, jgh, jgh, jgh, jgh, jgh, jgh, jgh, jgh, (100, [], (jenc (jlg 0))), (100, [], (jenc (jlg 1))), (100, [], (jenc (jlg 2))), (100, [], (jenc (jlg 3))), (100, [], (jenc (jlg 4))), (100, [], (jenc (jlg 5))), (101, [], [0, 2 * x4, 0, 0, 0, 0])]) (c1 := 0) (s1 := 0) (c2 := 60) (s2 := 3210) (by exact rfl) ?_ (by omega) (by omega)
  refine jT_lald (x := 0) (a := 23) (j := 0) (fs := []) (X := [0, 2 * x4, 0, 0, 0, 0]) jIQ_216_39 rfl rfl rfl rfl ?_
  refine jT_eq (LN := [(5, (0, 6)), (4, (4, 23)), (0, (4, 0)), (1, (4, 1)), (2, (1, 1))]) (stN := [(1, 0), (0, 0), (4, 23)]) (hsN := [jzQ_371, (101, [], [0, x4, 0, 0, 0, 0]), jgh, jgh, jgh, jgh, jgh, (130, [], [17, 18, 19, 20, 21, 22]), jgh, jgh, jgh, jgh, jgh, jgh, jgh, jgh, jgh, (100, [], (jenc (jlg 0))), (100, [], (jenc (jlg 1))), (100, [], (jenc (jlg 2))), (100, [], (jenc (jlg 3))), (100, [], (jenc (jlg 4))), (100, [], (jenc (jlg 5))), (101, [], [0, 2 * x4, 0, 0, 0, 0])]) rfl rfl rfl ?_
  refine jT_xlload_n (v := (1, 1)) (pcN := 41) jIQ_216_40 rfl rfl rfl ?_
  refine jT_xladd (x := 0) (y := 1) (z := 1) (pcN := 42) jIQ_216_41 rfl (by decide) rfl ?_
  refine jT_adv 1 (pcN := 43) (LN := [(5, (0, 6)), (4, (4, 23)), (0, (4, 0)), (1, (4, 1)), (2, (1, 1))]) (stN := []) (hsN := [jzQ_371, (101, [], [0, x4, 0, 0, 0, 0]), jgh, jgh, jgh, jgh, jgh, (130, [], [17, 18, 19, 20, 21, 22]), jgh, jgh, jgh, jgh, jgh, jgh, jgh, jgh, jgh, (100, [], (jenc (jlg 0))), (100, [], (jenc (jlg 1))), (100, [], (jenc (jlg 2))), (100, [], (jenc (jlg 3))), (100, [], (jenc (jlg 4))), (100, [], (jenc (jlg 5))), (101, [], [1, 2 * x4, 0, 0, 0, 0])]) (c1 := 0) (s1 := 0) (c2 := 60) (s2 := 3210) (by exact rfl) ?_ (by omega) (by omega)
  refine jT_xaload_n (v := (4, 0)) (pcN := 44) jIQ_216_43 rfl rfl rfl ?_
  refine jT_xaload (v := (4, 23)) (pcN := 46) jIQ_216_44 rfl rfl rfl ?_
  refine jT_adv 1 (pcN := 49) (LN := [(5, (0, 6)), (4, (4, 23)), (0, (4, 0)), (1, (4, 1)), (2, (1, 1))]) (stN := [(1, 2), (4, 23), (4, 0)]) (hsN := [jzQ_371, (101, [], [0, x4, 0, 0, 0, 0]), jgh, jgh, jgh, jgh, jgh, (130, [], [17, 18, 19, 20, 21, 22]), jgh, jgh, jgh, jgh, jgh, jgh, jgh, jgh, jgh, (100, [], (jenc (jlg 0))), (100, [], (jenc (jlg 1))), (100, [], (jenc (jlg 2))), (100, [], (jenc (jlg 3))), (100, [], (jenc (jlg 4))), (100, [], (jenc (jlg 5))), (101, [], [1, 2 * x4, 0, 0, 0, 0])]) (c1 := 0) (s1 := 0) (c2 := 60) (s2 := 3210) (by exact rfl) ?_ (by omega) (by omega)
  refine jT_xlload_n (v := (1, 1)) (pcN := 50) jIQ_216_49 rfl rfl rfl ?_
  refine jT_xlmul (x := 2) (y := 1) (z := 2) (pcN := 51) jIQ_216_50 rfl (by decide) rfl ?_
  refine jT_callA [0, 23, 2, 3, 4, 5, 6, 7, 8, 9, 10, 11, 12, 13, 14, 15, 16, 17, 18, 19, 20, 21, 22] (y := 210) (pcN := 54) (dC := 5) (bc1 := 60) (bc2 := 3210) (c1 := 0) (c2 := 0) (as := [(4, 0), (4, 23), (1, 2)]) (asC := [(4, 0), (4, 1), (1, 2)]) (LN := [(5, (0, 6)), (4, (4, 23)), (0, (4, 0)), (1, (4, 1)), (2, (1, 1))]) (stN := []) (hsC := [jzQ_371, (101, [], [1, 2 * x4, 0, 0, 0, 0]), jgh, jgh, jgh, jgh, jgh, (130, [], [17, 18, 19, 20, 21, 22]), jgh, jgh, jgh, jgh, jgh, jgh, jgh, jgh, jgh, (100, [], (jenc (jlg 0))), (100, [], (jenc (jlg 1))), (100, [], (jenc (jlg 2))), (100, [], (jenc (jlg 3))), (100, [], (jenc (jlg 4))), (100, [], (jenc (jlg 5)))]) (ex := []) (v := (1, jbp1 x4)) (st2 := [(1, jbp1 x4)]) (hs2 := [jzQ_371, (101, [], [0, x4, 0, 0, 0, 0]), jgh, jgh, jgh, jgh, jgh, (130, [], [17, 18, 19, 20, 21, 22]), jgh, jgh, jgh, jgh, jgh, jgh, jgh, jgh, jgh, (100, [], (jenc (jlg 0))), (100, [], (jenc (jlg 1))), (100, [], (jenc (jlg 2))), (100, [], (jenc (jlg 3))), (100, [], (jenc (jlg 4))), (100, [], (jenc (jlg 5))), (101, [], [1, 2 * x4, 0, 0, 0, 0])]) (jQl_ps_281 (d := 0) (by omega)) (by rfl) (by rfl) (by rfl) (by rfl) ⟨rfl, rfl, rfl, rfl, rfl, rfl, rfl, rfl, rfl, rfl, rfl, rfl, rfl, rfl, rfl, rfl, rfl, rfl, rfl, rfl, rfl, rfl, rfl, trivial⟩ (by rfl) (by rfl) (by omega) (by show 23 ≤ 24; omega) (by omega) (by omega) rfl rfl ?_
  have hb_q1 := jbp_b1 (p := x4) (by omega)
  generalize hq_q1 : jbp1 x4 = q1 at hb_q1 ⊢
  refine jT_loc (LN := [(5, (0, 6))]) (by show List.Nodup [5]; decide) (by intro q hq; simp only [List.mem_cons, List.not_mem_nil, or_false] at hq; rcases hq with rfl <;> rfl) ?_
  refine jT_drop 23 (hs0 := [jzQ_371, (101, [], [0, x4, 0, 0, 0, 0]), jgh, jgh, jgh, jgh, jgh, (130, [], [17, 18, 19, 20, 21, 22]), jgh, jgh, jgh, jgh, jgh, jgh, jgh, jgh, jgh, (100, [], (jenc (jlg 0))), (100, [], (jenc (jlg 1))), (100, [], (jenc (jlg 2))), (100, [], (jenc (jlg 3))), (100, [], (jenc (jlg 4))), (100, [], (jenc (jlg 5)))]) (ex := [(101, [], [1, 2 * x4, 0, 0, 0, 0])]) rfl rfl rfl (by decide) ?_
  subst hq_q1
  exact jT_ret rfl (by decide) (by show 23 ≤ 23; omega) (by omega) (by omega) ⟨rfl, rfl, rfl⟩
theorem jQ_297_283 {xs : List Int} {d : Nat} {x4 : Int} (h_x4 : 1 ≤ x4 ∧ x4 ≤ 100) : jT xs (d + 7) 297 22 0 [(0, (4, 0)), (1, (0, x4)), (2, (0, 1))] [] jpQ_730 62 3222 (fun k v hsN => k = 0 ∧ v = (0, jbp1 x4) ∧ hsN = jpQ_730 ++ []) := by
  refine jT_xbipush (k := 6) (pcN := 2) jIQ_297_0 (by decide) rfl ?_
  refine jT_adv 1 (pcN := 4) (LN := [(0, (4, 0)), (1, (0, x4)), (2, (0, 1))]) (stN := [(4, 22)]) (hsN := jpQ_720) (c1 := 1) (s1 := 6) (c2 := 61) (s2 := 3216) (by exact rfl) ?_ (by omega) (by omega)
  refine jT_xastore_n (v := (4, 22)) (LN := [(3, (4, 22)), (0, (4, 0)), (1, (0, x4)), (2, (0, 1))]) (pcN := 5) jIQ_297_4 rfl rfl rfl rfl ?_
  refine jT_xaload_n (v := (4, 22)) (pcN := 6) jIQ_297_5 rfl rfl rfl ?_
  refine jT_xiload_n (v := (0, 1)) (pcN := 7) jIQ_297_6 rfl rfl rfl ?_
  refine jT_xiload_n (v := (0, x4)) (pcN := 8) jIQ_297_7 rfl rfl rfl ?_
  refine jT_xi2l (x := x4) (z := x4) (pcN := 9) jIQ_297_8 rfl (jw_idd (by omega) (by omega)) rfl ?_
  refine jT_adv 1 (pcN := 10) (LN := [(3, (4, 22)), (0, (4, 0)), (1, (0, x4)), (2, (0, 1))]) (stN := []) (hsN := [jzQ_20, jgh, jgh, jgh, jgh, jgh, (130, [], [16, 17, 18, 19, 20, 21]), jgh, jgh, jgh, jgh, jgh, jgh, jgh, jgh, jgh, (100, [], (jenc (jlg 0))), (100, [], (jenc (jlg 1))), (100, [], (jenc (jlg 2))), (100, [], (jenc (jlg 3))), (100, [], (jenc (jlg 4))), (100, [], (jenc (jlg 5))), (101, [], [0, x4, 0, 0, 0, 0])]) (c1 := 0) (s1 := 0) (c2 := 61) (s2 := 3216) (by exact rfl) ?_ (by omega) (by omega)
  refine jT_xaload_n (v := (4, 0)) (pcN := 11) jIQ_297_10 rfl rfl rfl ?_
  refine jT_xaload_n (v := (4, 22)) (pcN := 12) jIQ_297_11 rfl rfl rfl ?_
  refine jT_xlconst (z := 1) (pcN := 13) jIQ_297_12 rfl rfl ?_
  refine jT_callA [0, 22, 1, 2, 3, 4, 5, 6, 7, 8, 9, 10, 11, 12, 13, 14, 15, 16, 17, 18, 19, 20, 21] (y := 216) (pcN := 16) (dC := 6) (bc1 := 61) (bc2 := 3216) (c1 := 0) (c2 := 0) (as := [(4, 0), (4, 22), (1, 1)]) (asC := [(4, 0), (4, 1), (1, 1)]) (LN := [(3, (4, 22)), (0, (4, 0)), (1, (0, x4)), (2, (0, 1))]) (stN := []) (hsC := [jzQ_371, (101, [], [0, x4, 0, 0, 0, 0]), jgh, jgh, jgh, jgh, jgh, (130, [], [17, 18, 19, 20, 21, 22]), jgh, jgh, jgh, jgh, jgh, jgh, jgh, jgh, jgh, (100, [], (jenc (jlg 0))), (100, [], (jenc (jlg 1))), (100, [], (jenc (jlg 2))), (100, [], (jenc (jlg 3))), (100, [], (jenc (jlg 4))), (100, [], (jenc (jlg 5)))]) (ex := []) (v := (1, jbp1 x4)) (st2 := [(1, jbp1 x4)]) (hs2 := [jzQ_20, jgh, jgh, jgh, jgh, jgh, (130, [], [16, 17, 18, 19, 20, 21]), jgh, jgh, jgh, jgh, jgh, jgh, jgh, jgh, jgh, (100, [], (jenc (jlg 0))), (100, [], (jenc (jlg 1))), (100, [], (jenc (jlg 2))), (100, [], (jenc (jlg 3))), (100, [], (jenc (jlg 4))), (100, [], (jenc (jlg 5))), (101, [], [0, x4, 0, 0, 0, 0])]) (jQ_216_282 (d := 0) (by omega)) (by rfl) (by rfl) (by rfl) (by rfl) ⟨rfl, rfl, rfl, rfl, rfl, rfl, rfl, rfl, rfl, rfl, rfl, rfl, rfl, rfl, rfl, rfl, rfl, rfl, rfl, rfl, rfl, rfl, rfl, trivial⟩ (by rfl) (by rfl) (by omega) (by show 22 ≤ 23; omega) (by omega) (by omega) rfl rfl ?_
  have hb_q1 := jbp_b1 (p := x4) (by omega)
  generalize hq_q1 : jbp1 x4 = q1 at hb_q1 ⊢
  refine jT_xl2i (pcN := 17) jIQ_297_16 rfl rfl ?_
  refine jT_loc (LN := [(0, (4, 0))]) (by show List.Nodup [0]; decide) (by intro q hq; simp only [List.mem_cons, List.not_mem_nil, or_false] at hq; rcases hq with rfl <;> rfl) ?_
  refine jT_drop 22 (hs0 := jpQ_730) (ex := [(101, [], [0, x4, 0, 0, 0, 0])]) rfl rfl rfl (by decide) ?_
  subst hq_q1
  exact jT_ret rfl (by decide) (by show 22 ≤ 22; omega) (by omega) (by omega) ⟨rfl, rfl, rfl⟩
theorem jQl_ro_284 {xs : List Int} {d : Nat} {x4 : Int} (h_x4 : 1 ≤ x4 ∧ x4 ≤ 100) {d1 d2 d3 d4 d5 d6 : Int} (fd1 : ((FP.l2d (Int64.ofInt (2 * x4))).toNat : Int) = d1) (fd2 : jn64 (FP.dmul (ju64 4612410936051475313) (ju64 d1)) = true ∧ ((FP.dmul (ju64 4612410936051475313) (ju64 d1)).toNat : Int) = d2) (fd3 : jn64 (FP.dadd (ju64 4607182418800017408) (ju64 d2)) = true ∧ ((FP.dadd (ju64 4607182418800017408) (ju64 d2)).toNat : Int) = d3) (fd4 : jn64 (FP.dadd (ju64 d3) (ju64 0)) = true ∧ ((FP.dadd (ju64 d3) (ju64 0)).toNat : Int) = d4) (fd5 : jn64 (FP.dadd (ju64 d4) (ju64 0)) = true ∧ ((FP.dadd (ju64 d4) (ju64 0)).toNat : Int) = d5) (fd6 : jn64 (FP.dadd (ju64 d5) (ju64 0)) = true ∧ ((FP.dadd (ju64 d5) (ju64 0)).toNat : Int) = d6) : jT xs d 211 1 0 [(0, (4, 0))] [] [(101, [], [1, 0, 2 * x4, 0, 0, 0])] 0 0 (fun k v hsN => k = 0 ∧ v = (3, d6) ∧ hsN = [(101, [], [1, 0, 2 * x4, 0, 0, 0])]) := by
  refine jT_xaload_n (v := (4, 0)) (pcN := 1) jIQ_211_0 rfl rfl rfl ?_
  refine jT_xiconst (k := 0) (pcN := 2) jIQ_211_1 rfl ?_
  refine jT_lald (x := 1) (a := 0) (j := 0) (fs := []) (X := [1, 0, 2 * x4, 0, 0, 0]) jIQ_211_2 rfl rfl rfl rfl ?_
  refine jT_eq (LN := [(0, (4, 0))]) (stN := [(1, 1)]) (hsN := [(101, [], [1, 0, 2 * x4, 0, 0, 0])]) rfl rfl rfl ?_
  refine jT_l2d (x := 1) (z := 4607182418800017408) (by rfl) (by rfl) (by decide +kernel) ?_
  refine jT_adv 1 (pcN := 7) (LN := [(0, (4, 0))]) (stN := [(3, 4609816855700290920), (3, 4607182418800017408)]) (hsN := [(101, [], [1, 0, 2 * x4, 0, 0, 0])]) (c1 := 0) (s1 := 0) (c2 := 0) (s2 := 0) (by exact rfl) ?_ (by omega) (by omega)
  refine jT_xaload_n (v := (4, 0)) (pcN := 8) jIQ_211_7 rfl rfl rfl ?_
  refine jT_xiconst (k := 1) (pcN := 9) jIQ_211_8 rfl ?_
  refine jT_lald (x := 0) (a := 0) (j := 1) (fs := []) (X := [1, 0, 2 * x4, 0, 0, 0]) jIQ_211_9 rfl rfl rfl rfl ?_
  refine jT_eq (LN := [(0, (4, 0))]) (stN := [(1, 0), (3, 4609816855700290920), (3, 4607182418800017408)]) (hsN := [(101, [], [1, 0, 2 * x4, 0, 0, 0])]) rfl rfl rfl ?_
  refine jT_l2d (x := 0) (z := 0) (by rfl) (by rfl) (by decide +kernel) ?_
  refine jT_dmul (x := 4609816855700290920) (y := 0) (z := 0) (by rfl) (by rfl) (by decide +kernel) ?_
  refine jT_dadd (x := 4607182418800017408) (y := 0) (z := 4607182418800017408) (by rfl) (by rfl) (by decide +kernel) ?_
  refine jT_adv 1 (pcN := 16) (LN := [(0, (4, 0))]) (stN := [(3, 4612410936051475313), (3, 4607182418800017408)]) (hsN := [(101, [], [1, 0, 2 * x4, 0, 0, 0])]) (c1 := 0) (s1 := 0) (c2 := 0) (s2 := 0) (by exact rfl) ?_ (by omega) (by omega)
  refine jT_xaload_n (v := (4, 0)) (pcN := 17) jIQ_211_16 rfl rfl rfl ?_
  refine jT_xiconst (k := 2) (pcN := 18) jIQ_211_17 rfl ?_
  refine jT_lald (x := 2 * x4) (a := 0) (j := 2) (fs := []) (X := [1, 0, 2 * x4, 0, 0, 0]) jIQ_211_18 rfl rfl rfl rfl ?_
  refine jT_eq (LN := [(0, (4, 0))]) (stN := [(1, 2 * x4), (3, 4612410936051475313), (3, 4607182418800017408)]) (hsN := [(101, [], [1, 0, 2 * x4, 0, 0, 0])]) rfl rfl rfl ?_
  refine jT_l2d (x := 2 * x4) (z := d1) (by rfl) (by rfl) fd1 ?_
  refine jT_dmul (x := 4612410936051475313) (y := d1) (z := d2) (by rfl) (by rfl) fd2 ?_
  refine jT_dadd (x := 4607182418800017408) (y := d2) (z := d3) (by rfl) (by rfl) fd3 ?_
  refine jT_adv 1 (pcN := 25) (LN := [(0, (4, 0))]) (stN := [(3, 4613504020090455085), (3, d3)]) (hsN := [(101, [], [1, 0, 2 * x4, 0, 0, 0])]) (c1 := 0) (s1 := 0) (c2 := 0) (s2 := 0) (by exact rfl) ?_ (by omega) (by omega)
  refine jT_xaload_n (v := (4, 0)) (pcN := 26) jIQ_211_25 rfl rfl rfl ?_
  refine jT_xiconst (k := 3) (pcN := 27) jIQ_211_26 rfl ?_
  refine jT_lald (x := 0) (a := 0) (j := 3) (fs := []) (X := [1, 0, 2 * x4, 0, 0, 0]) jIQ_211_27 rfl rfl rfl rfl ?_
  refine jT_eq (LN := [(0, (4, 0))]) (stN := [(1, 0), (3, 4613504020090455085), (3, d3)]) (hsN := [(101, [], [1, 0, 2 * x4, 0, 0, 0])]) rfl rfl rfl ?_
  refine jT_l2d (x := 0) (z := 0) (by rfl) (by rfl) (by decide +kernel) ?_
  refine jT_dmul (x := 4613504020090455085) (y := 0) (z := 0) (by rfl) (by rfl) (by decide +kernel) ?_
  refine jT_dadd (x := d3) (y := 0) (z := d4) (by rfl) (by rfl) fd4 ?_
  refine jT_adv 1 (pcN := 34) (LN := [(0, (4, 0))]) (stN := [(3, 4614972366274321729), (3, d4)]) (hsN := [(101, [], [1, 0, 2 * x4, 0, 0, 0])]) (c1 := 0) (s1 := 0) (c2 := 0) (s2 := 0) (by exact rfl) ?_ (by omega) (by omega)
  refine jT_xaload_n (v := (4, 0)) (pcN := 35) jIQ_211_34 rfl rfl rfl ?_
  refine jT_xiconst (k := 4) (pcN := 36) jIQ_211_35 rfl ?_
  refine jT_lald (x := 0) (a := 0) (j := 4) (fs := []) (X := [1, 0, 2 * x4, 0, 0, 0]) jIQ_211_36 rfl rfl rfl rfl ?_
  refine jT_eq (LN := [(0, (4, 0))]) (stN := [(1, 0), (3, 4614972366274321729), (3, d4)]) (hsN := [(101, [], [1, 0, 2 * x4, 0, 0, 0])]) rfl rfl rfl ?_
  refine jT_l2d (x := 0) (z := 0) (by rfl) (by rfl) (by decide +kernel) ?_
  refine jT_dmul (x := 4614972366274321729) (y := 0) (z := 0) (by rfl) (by rfl) (by decide +kernel) ?_
  refine jT_dadd (x := d4) (y := 0) (z := d5) (by rfl) (by rfl) fd5 ?_
  refine jT_adv 1 (pcN := 43) (LN := [(0, (4, 0))]) (stN := [(3, 4615515068267881011), (3, d5)]) (hsN := [(101, [], [1, 0, 2 * x4, 0, 0, 0])]) (c1 := 0) (s1 := 0) (c2 := 0) (s2 := 0) (by exact rfl) ?_ (by omega) (by omega)
  refine jT_xaload_n (v := (4, 0)) (pcN := 44) jIQ_211_43 rfl rfl rfl ?_
  refine jT_xiconst (k := 5) (pcN := 45) jIQ_211_44 rfl ?_
  refine jT_lald (x := 0) (a := 0) (j := 5) (fs := []) (X := [1, 0, 2 * x4, 0, 0, 0]) jIQ_211_45 rfl rfl rfl rfl ?_
  refine jT_eq (LN := [(0, (4, 0))]) (stN := [(1, 0), (3, 4615515068267881011), (3, d5)]) (hsN := [(101, [], [1, 0, 2 * x4, 0, 0, 0])]) rfl rfl rfl ?_
  refine jT_l2d (x := 0) (z := 0) (by rfl) (by rfl) (by decide +kernel) ?_
  refine jT_dmul (x := 4615515068267881011) (y := 0) (z := 0) (by rfl) (by rfl) (by decide +kernel) ?_
  refine jT_dadd (x := d5) (y := 0) (z := d6) (by rfl) (by rfl) fd6 ?_
  exact jT_ret rfl (by decide) (by show 1 ≤ 1; decide) (by omega) (by omega) ⟨rfl, rfl, rfl⟩
theorem jQ_212_286 {xs : List Int} {d : Nat} {N x4 : Int} (h_N : (-1099511627776) ≤ N ∧ N ≤ 1099511627776) (h_x4 : 1 ≤ x4 ∧ x4 ≤ 100) : jT xs (d + 4) 212 23 0 [(0, (4, 0)), (1, (4, 1)), (2, (1, 2 * N + 2))] [] [jzQ_371, (101, [], [1, 0, 2 * x4, 0, 0, 0]), jgh, jgh, jgh, jgh, jgh, (130, [], [17, 18, 19, 20, 21, 22]), jgh, jgh, jgh, jgh, jgh, jgh, jgh, jgh, jgh, (100, [], (jenc (jlg 0))), (100, [], (jenc (jlg 1))), (100, [], (jenc (jlg 2))), (100, [], (jenc (jlg 3))), (100, [], (jenc (jlg 4))), (100, [], (jenc (jlg 5)))] 20 1070 (fun k v hsN => k = 0 ∧ v = (0, (jlz ((-2) * N - 1) 0 (2 * x4) 0 0 0).sign) ∧ hsN = [jzQ_371, (101, [], [1, 0, 2 * x4, 0, 0, 0]), jgh, jgh, jgh, jgh, jgh, (130, [], [17, 18, 19, 20, 21, 22]), jgh, jgh, jgh, jgh, jgh, jgh, jgh, jgh, jgh, (100, [], (jenc (jlg 0))), (100, [], (jenc (jlg 1))), (100, [], (jenc (jlg 2))), (100, [], (jenc (jlg 3))), (100, [], (jenc (jlg 4))), (100, [], (jenc (jlg 5)))] ++ []) := by
  refine jT_xbipush (k := 6) (pcN := 2) jIQ_212_0 (by decide) rfl ?_
  refine jT_adv 1 (pcN := 4) (LN := [(0, (4, 0)), (1, (4, 1)), (2, (1, 2 * N + 2))]) (stN := [(4, 23)]) (hsN := [jzQ_371, (101, [], [1, 0, 2 * x4, 0, 0, 0]), jgh, jgh, jgh, jgh, jgh, (130, [], [17, 18, 19, 20, 21, 22]), jgh, jgh, jgh, jgh, jgh, jgh, jgh, jgh, jgh, (100, [], (jenc (jlg 0))), (100, [], (jenc (jlg 1))), (100, [], (jenc (jlg 2))), (100, [], (jenc (jlg 3))), (100, [], (jenc (jlg 4))), (100, [], (jenc (jlg 5))), (101, [], [0, 0, 0, 0, 0, 0])]) (c1 := 1) (s1 := 6) (c2 := 19) (s2 := 1064) (by exact rfl) ?_ (by omega) (by omega)
  refine jT_xastore (v := (4, 23)) (LN := [(4, (4, 23)), (0, (4, 0)), (1, (4, 1)), (2, (1, 2 * N + 2))]) (pcN := 6) jIQ_212_4 rfl rfl rfl rfl ?_
  refine jT_xaload_n (v := (4, 1)) (pcN := 7) jIQ_212_6 rfl rfl rfl ?_
  refine jT_xiconst (k := 0) (pcN := 8) jIQ_212_7 rfl ?_
  refine jT_xaload (v := (4, 23)) (pcN := 10) jIQ_212_8 rfl rfl rfl ?_
  refine jT_xiconst (k := 0) (pcN := 11) jIQ_212_10 rfl ?_
  refine jT_xbipush (k := 6) (pcN := 13) jIQ_212_11 (by decide) rfl ?_
  refine jT_adv 1 (pcN := 16) (LN := [(4, (4, 23)), (0, (4, 0)), (1, (4, 1)), (2, (1, 2 * N + 2))]) (stN := []) (hsN := [jzQ_371, (101, [], [1, 0, 2 * x4, 0, 0, 0]), jgh, jgh, jgh, jgh, jgh, (130, [], [17, 18, 19, 20, 21, 22]), jgh, jgh, jgh, jgh, jgh, jgh, jgh, jgh, jgh, (100, [], (jenc (jlg 0))), (100, [], (jenc (jlg 1))), (100, [], (jenc (jlg 2))), (100, [], (jenc (jlg 3))), (100, [], (jenc (jlg 4))), (100, [], (jenc (jlg 5))), (101, [], [1, 0, 2 * x4, 0, 0, 0])]) (c1 := 0) (s1 := 0) (c2 := 19) (s2 := 1064) (by exact rfl) ?_ (by omega) (by omega)
  refine jT_xaload (v := (4, 23)) (pcN := 18) jIQ_212_16 rfl rfl rfl ?_
  refine jT_xiconst (k := 0) (pcN := 19) jIQ_212_18 rfl ?_
  refine jT_adv 1 (pcN := 20) (LN := [(4, (4, 23)), (0, (4, 0)), (1, (4, 1)), (2, (1, 2 * N + 2))]) (stN := [(0, 0), (4, 23), (0, 0), (4, 23)]) (hsN := [jzQ_371, (101, [], [1, 0, 2 * x4, 0, 0, 0]), jgh, jgh, jgh, jgh, jgh, (130, [], [17, 18, 19, 20, 21, 22]), jgh, jgh, jgh, jgh, jgh, jgh, jgh, jgh, jgh, (100, [], (jenc (jlg 0))), (100, [], (jenc (jlg 1))), (100, [], (jenc (jlg 2))), (100, [], (jenc (jlg 3))), (100, [], (jenc (jlg 4))), (100, [], (jenc (jlg 5))), (101, [], [1, 0, 2 * x4, 0, 0, 0])]) (c1 := 0) (s1 := 0) (c2 := 19) (s2 := 1064) (by exact rfl) ?_ (by omega) (by omega)
  refine jT_lald (x := 1) (a := 23) (j := 0) (fs := []) (X := [1, 0, 2 * x4, 0, 0, 0]) jIQ_212_20 rfl rfl rfl rfl ?_
  refine jT_eq (LN := [(4, (4, 23)), (0, (4, 0)), (1, (4, 1)), (2, (1, 2 * N + 2))]) (stN := [(1, 1), (0, 0), (4, 23)]) (hsN := [jzQ_371, (101, [], [1, 0, 2 * x4, 0, 0, 0]), jgh, jgh, jgh, jgh, jgh, (130, [], [17, 18, 19, 20, 21, 22]), jgh, jgh, jgh, jgh, jgh, jgh, jgh, jgh, jgh, (100, [], (jenc (jlg 0))), (100, [], (jenc (jlg 1))), (100, [], (jenc (jlg 2))), (100, [], (jenc (jlg 3))), (100, [], (jenc (jlg 4))), (100, [], (jenc (jlg 5))), (101, [], [1, 0, 2 * x4, 0, 0, 0])]) rfl rfl rfl ?_
  refine jT_xlload_n (v := (1, 2 * N + 2)) (pcN := 22) jIQ_212_21 rfl rfl rfl ?_
  refine jT_xlsub (x := 1) (y := 2 * N + 2) (z := (-2) * N - 1) (pcN := 23) jIQ_212_22 rfl (by omega) rfl ?_
  refine jT_adv 1 (pcN := 24) (LN := [(4, (4, 23)), (0, (4, 0)), (1, (4, 1)), (2, (1, 2 * N + 2))]) (stN := []) (hsN := [jzQ_371, (101, [], [1, 0, 2 * x4, 0, 0, 0]), jgh, jgh, jgh, jgh, jgh, (130, [], [17, 18, 19, 20, 21, 22]), jgh, jgh, jgh, jgh, jgh, jgh, jgh, jgh, jgh, (100, [], (jenc (jlg 0))), (100, [], (jenc (jlg 1))), (100, [], (jenc (jlg 2))), (100, [], (jenc (jlg 3))), (100, [], (jenc (jlg 4))), (100, [], (jenc (jlg 5))), (101, [], [(-2) * N - 1, 0, 2 * x4, 0, 0, 0])]) (c1 := 0) (s1 := 0) (c2 := 19) (s2 := 1064) (by exact rfl) ?_ (by omega) (by omega)
  refine jT_xaload_n (v := (4, 0)) (pcN := 25) jIQ_212_24 rfl rfl rfl ?_
  refine jT_xaload (v := (4, 23)) (pcN := 27) jIQ_212_25 rfl rfl rfl ?_
  refine jT_callA [0, 23, 2, 3, 4, 5, 6, 7, 8, 9, 10, 11, 12, 13, 14, 15, 16, 17, 18, 19, 20, 21, 22] (y := 213) (pcN := 30) (dC := 3) (bc1 := 19) (bc2 := 1064) (c1 := 0) (c2 := 0) (as := [(4, 0), (4, 23)]) (asC := [(4, 0), (4, 1)]) (LN := [(4, (4, 23)), (0, (4, 0)), (1, (4, 1)), (2, (1, 2 * N + 2))]) (stN := []) (hsC := [jzQ_371, (101, [], [(-2) * N - 1, 0, 2 * x4, 0, 0, 0]), jgh, jgh, jgh, jgh, jgh, (130, [], [17, 18, 19, 20, 21, 22]), jgh, jgh, jgh, jgh, jgh, jgh, jgh, jgh, jgh, (100, [], (jenc (jlg 0))), (100, [], (jenc (jlg 1))), (100, [], (jenc (jlg 2))), (100, [], (jenc (jlg 3))), (100, [], (jenc (jlg 4))), (100, [], (jenc (jlg 5)))]) (ex := []) (v := (0, (jlz ((-2) * N - 1) 0 (2 * x4) 0 0 0).sign)) (st2 := [(0, (jlz ((-2) * N - 1) 0 (2 * x4) 0 0 0).sign)]) (hs2 := [jzQ_371, (101, [], [1, 0, 2 * x4, 0, 0, 0]), jgh, jgh, jgh, jgh, jgh, (130, [], [17, 18, 19, 20, 21, 22]), jgh, jgh, jgh, jgh, jgh, jgh, jgh, jgh, jgh, (100, [], (jenc (jlg 0))), (100, [], (jenc (jlg 1))), (100, [], (jenc (jlg 2))), (100, [], (jenc (jlg 3))), (100, [], (jenc (jlg 4))), (100, [], (jenc (jlg 5))), (101, [], [(-2) * N - 1, 0, 2 * x4, 0, 0, 0])]) (jQl_sg_148 (d := 0) (e0 := (-2) * N - 1) (e1 := 0) (e2 := 2 * x4) (e3 := 0) (e4 := 0) (e5 := 0) (by omega) (by omega) (by omega) (by omega) (by omega) (by omega)) (by rfl) (by rfl) (by rfl) (by rfl) ⟨rfl, rfl, rfl, rfl, rfl, rfl, rfl, rfl, rfl, rfl, rfl, rfl, rfl, rfl, rfl, rfl, rfl, rfl, rfl, rfl, rfl, rfl, rfl, trivial⟩ (by rfl) (by rfl) (by omega) (by show 23 ≤ 24; omega) (by omega) (by omega) rfl rfl ?_
  have hb_q1 := jsgn_b (jlz ((-2) * N - 1) 0 (2 * x4) 0 0 0)
  generalize hq_q1 : (jlz ((-2) * N - 1) 0 (2 * x4) 0 0 0).sign = q1 at hb_q1 ⊢
  refine jT_loc (LN := [(0, (4, 0))]) (by show List.Nodup [0]; decide) (by intro q hq; simp only [List.mem_cons, List.not_mem_nil, or_false] at hq; rcases hq with rfl <;> rfl) ?_
  refine jT_drop 23 (hs0 := [jzQ_371, (101, [], [1, 0, 2 * x4, 0, 0, 0]), jgh, jgh, jgh, jgh, jgh, (130, [], [17, 18, 19, 20, 21, 22]), jgh, jgh, jgh, jgh, jgh, jgh, jgh, jgh, jgh, (100, [], (jenc (jlg 0))), (100, [], (jenc (jlg 1))), (100, [], (jenc (jlg 2))), (100, [], (jenc (jlg 3))), (100, [], (jenc (jlg 4))), (100, [], (jenc (jlg 5)))]) (ex := [(101, [], [(-2) * N - 1, 0, 2 * x4, 0, 0, 0])]) rfl rfl rfl (by decide) ?_
  subst hq_q1
  exact jT_ret rfl (by decide) (by show 23 ≤ 23; omega) (by omega) (by omega) ⟨rfl, rfl, rfl⟩
theorem jQ_212_287 {xs : List Int} {d : Nat} {N x4 : Int} (h_N : (-1099511627776) ≤ N ∧ N ≤ 1099511627776) (h_x4 : 1 ≤ x4 ∧ x4 ≤ 100) (g_0 : (jlz ((-2) * N - 1) 0 (2 * x4) 0 0 0).sign < 0) : jT xs (d + 4) 212 23 0 [(0, (4, 0)), (1, (4, 1)), (2, (1, 2 * N + 2))] [] [jzQ_371, (101, [], [1, 0, 2 * x4, 0, 0, 0]), jgh, jgh, jgh, jgh, jgh, (130, [], [17, 18, 19, 20, 21, 22]), jgh, jgh, jgh, jgh, jgh, jgh, jgh, jgh, jgh, (100, [], (jenc (jlg 0))), (100, [], (jenc (jlg 1))), (100, [], (jenc (jlg 2))), (100, [], (jenc (jlg 3))), (100, [], (jenc (jlg 4))), (100, [], (jenc (jlg 5)))] 20 1070 (fun k v hsN => k = 0 ∧ v = (0, (jlz ((-2) * N - 1) 0 (2 * x4) 0 0 0).sign) ∧ hsN = [jzQ_371, (101, [], [1, 0, 2 * x4, 0, 0, 0]), jgh, jgh, jgh, jgh, jgh, (130, [], [17, 18, 19, 20, 21, 22]), jgh, jgh, jgh, jgh, jgh, jgh, jgh, jgh, jgh, (100, [], (jenc (jlg 0))), (100, [], (jenc (jlg 1))), (100, [], (jenc (jlg 2))), (100, [], (jenc (jlg 3))), (100, [], (jenc (jlg 4))), (100, [], (jenc (jlg 5)))] ++ []) := by
  refine jT_xbipush (k := 6) (pcN := 2) jIQ_212_0 (by decide) rfl ?_
  refine jT_adv 1 (pcN := 4) (LN := [(0, (4, 0)), (1, (4, 1)), (2, (1, 2 * N + 2))]) (stN := [(4, 23)]) (hsN := [jzQ_371, (101, [], [1, 0, 2 * x4, 0, 0, 0]), jgh, jgh, jgh, jgh, jgh, (130, [], [17, 18, 19, 20, 21, 22]), jgh, jgh, jgh, jgh, jgh, jgh, jgh, jgh, jgh, (100, [], (jenc (jlg 0))), (100, [], (jenc (jlg 1))), (100, [], (jenc (jlg 2))), (100, [], (jenc (jlg 3))), (100, [], (jenc (jlg 4))), (100, [], (jenc (jlg 5))), (101, [], [0, 0, 0, 0, 0, 0])]) (c1 := 1) (s1 := 6) (c2 := 19) (s2 := 1064) (by exact rfl) ?_ (by omega) (by omega)
  refine jT_xastore (v := (4, 23)) (LN := [(4, (4, 23)), (0, (4, 0)), (1, (4, 1)), (2, (1, 2 * N + 2))]) (pcN := 6) jIQ_212_4 rfl rfl rfl rfl ?_
  refine jT_xaload_n (v := (4, 1)) (pcN := 7) jIQ_212_6 rfl rfl rfl ?_
  refine jT_xiconst (k := 0) (pcN := 8) jIQ_212_7 rfl ?_
  refine jT_xaload (v := (4, 23)) (pcN := 10) jIQ_212_8 rfl rfl rfl ?_
  refine jT_xiconst (k := 0) (pcN := 11) jIQ_212_10 rfl ?_
  refine jT_xbipush (k := 6) (pcN := 13) jIQ_212_11 (by decide) rfl ?_
  refine jT_adv 1 (pcN := 16) (LN := [(4, (4, 23)), (0, (4, 0)), (1, (4, 1)), (2, (1, 2 * N + 2))]) (stN := []) (hsN := [jzQ_371, (101, [], [1, 0, 2 * x4, 0, 0, 0]), jgh, jgh, jgh, jgh, jgh, (130, [], [17, 18, 19, 20, 21, 22]), jgh, jgh, jgh, jgh, jgh, jgh, jgh, jgh, jgh, (100, [], (jenc (jlg 0))), (100, [], (jenc (jlg 1))), (100, [], (jenc (jlg 2))), (100, [], (jenc (jlg 3))), (100, [], (jenc (jlg 4))), (100, [], (jenc (jlg 5))), (101, [], [1, 0, 2 * x4, 0, 0, 0])]) (c1 := 0) (s1 := 0) (c2 := 19) (s2 := 1064) (by exact rfl) ?_ (by omega) (by omega)
  refine jT_xaload (v := (4, 23)) (pcN := 18) jIQ_212_16 rfl rfl rfl ?_
  refine jT_xiconst (k := 0) (pcN := 19) jIQ_212_18 rfl ?_
  refine jT_adv 1 (pcN := 20) (LN := [(4, (4, 23)), (0, (4, 0)), (1, (4, 1)), (2, (1, 2 * N + 2))]) (stN := [(0, 0), (4, 23), (0, 0), (4, 23)]) (hsN := [jzQ_371, (101, [], [1, 0, 2 * x4, 0, 0, 0]), jgh, jgh, jgh, jgh, jgh, (130, [], [17, 18, 19, 20, 21, 22]), jgh, jgh, jgh, jgh, jgh, jgh, jgh, jgh, jgh, (100, [], (jenc (jlg 0))), (100, [], (jenc (jlg 1))), (100, [], (jenc (jlg 2))), (100, [], (jenc (jlg 3))), (100, [], (jenc (jlg 4))), (100, [], (jenc (jlg 5))), (101, [], [1, 0, 2 * x4, 0, 0, 0])]) (c1 := 0) (s1 := 0) (c2 := 19) (s2 := 1064) (by exact rfl) ?_ (by omega) (by omega)
  refine jT_lald (x := 1) (a := 23) (j := 0) (fs := []) (X := [1, 0, 2 * x4, 0, 0, 0]) jIQ_212_20 rfl rfl rfl rfl ?_
  refine jT_eq (LN := [(4, (4, 23)), (0, (4, 0)), (1, (4, 1)), (2, (1, 2 * N + 2))]) (stN := [(1, 1), (0, 0), (4, 23)]) (hsN := [jzQ_371, (101, [], [1, 0, 2 * x4, 0, 0, 0]), jgh, jgh, jgh, jgh, jgh, (130, [], [17, 18, 19, 20, 21, 22]), jgh, jgh, jgh, jgh, jgh, jgh, jgh, jgh, jgh, (100, [], (jenc (jlg 0))), (100, [], (jenc (jlg 1))), (100, [], (jenc (jlg 2))), (100, [], (jenc (jlg 3))), (100, [], (jenc (jlg 4))), (100, [], (jenc (jlg 5))), (101, [], [1, 0, 2 * x4, 0, 0, 0])]) rfl rfl rfl ?_
  refine jT_xlload_n (v := (1, 2 * N + 2)) (pcN := 22) jIQ_212_21 rfl rfl rfl ?_
  refine jT_xlsub (x := 1) (y := 2 * N + 2) (z := (-2) * N - 1) (pcN := 23) jIQ_212_22 rfl (by omega) rfl ?_
  refine jT_adv 1 (pcN := 24) (LN := [(4, (4, 23)), (0, (4, 0)), (1, (4, 1)), (2, (1, 2 * N + 2))]) (stN := []) (hsN := [jzQ_371, (101, [], [1, 0, 2 * x4, 0, 0, 0]), jgh, jgh, jgh, jgh, jgh, (130, [], [17, 18, 19, 20, 21, 22]), jgh, jgh, jgh, jgh, jgh, jgh, jgh, jgh, jgh, (100, [], (jenc (jlg 0))), (100, [], (jenc (jlg 1))), (100, [], (jenc (jlg 2))), (100, [], (jenc (jlg 3))), (100, [], (jenc (jlg 4))), (100, [], (jenc (jlg 5))), (101, [], [(-2) * N - 1, 0, 2 * x4, 0, 0, 0])]) (c1 := 0) (s1 := 0) (c2 := 19) (s2 := 1064) (by exact rfl) ?_ (by omega) (by omega)
  refine jT_xaload_n (v := (4, 0)) (pcN := 25) jIQ_212_24 rfl rfl rfl ?_
  refine jT_xaload (v := (4, 23)) (pcN := 27) jIQ_212_25 rfl rfl rfl ?_
  refine jT_callA [0, 23, 2, 3, 4, 5, 6, 7, 8, 9, 10, 11, 12, 13, 14, 15, 16, 17, 18, 19, 20, 21, 22] (y := 213) (pcN := 30) (dC := 3) (bc1 := 19) (bc2 := 1064) (c1 := 0) (c2 := 0) (as := [(4, 0), (4, 23)]) (asC := [(4, 0), (4, 1)]) (LN := [(4, (4, 23)), (0, (4, 0)), (1, (4, 1)), (2, (1, 2 * N + 2))]) (stN := []) (hsC := [jzQ_371, (101, [], [(-2) * N - 1, 0, 2 * x4, 0, 0, 0]), jgh, jgh, jgh, jgh, jgh, (130, [], [17, 18, 19, 20, 21, 22]), jgh, jgh, jgh, jgh, jgh, jgh, jgh, jgh, jgh, (100, [], (jenc (jlg 0))), (100, [], (jenc (jlg 1))), (100, [], (jenc (jlg 2))), (100, [], (jenc (jlg 3))), (100, [], (jenc (jlg 4))), (100, [], (jenc (jlg 5)))]) (ex := []) (v := (0, (jlz ((-2) * N - 1) 0 (2 * x4) 0 0 0).sign)) (st2 := [(0, (jlz ((-2) * N - 1) 0 (2 * x4) 0 0 0).sign)]) (hs2 := [jzQ_371, (101, [], [1, 0, 2 * x4, 0, 0, 0]), jgh, jgh, jgh, jgh, jgh, (130, [], [17, 18, 19, 20, 21, 22]), jgh, jgh, jgh, jgh, jgh, jgh, jgh, jgh, jgh, (100, [], (jenc (jlg 0))), (100, [], (jenc (jlg 1))), (100, [], (jenc (jlg 2))), (100, [], (jenc (jlg 3))), (100, [], (jenc (jlg 4))), (100, [], (jenc (jlg 5))), (101, [], [(-2) * N - 1, 0, 2 * x4, 0, 0, 0])]) (jQl_sg_148 (d := 0) (e0 := (-2) * N - 1) (e1 := 0) (e2 := 2 * x4) (e3 := 0) (e4 := 0) (e5 := 0) (by omega) (by omega) (by omega) (by omega) (by omega) (by omega)) (by rfl) (by rfl) (by rfl) (by rfl) ⟨rfl, rfl, rfl, rfl, rfl, rfl, rfl, rfl, rfl, rfl, rfl, rfl, rfl, rfl, rfl, rfl, rfl, rfl, rfl, rfl, rfl, rfl, rfl, trivial⟩ (by rfl) (by rfl) (by omega) (by show 23 ≤ 24; omega) (by omega) (by omega) rfl rfl ?_
  have hb_q1 := jsgn_b (jlz ((-2) * N - 1) 0 (2 * x4) 0 0 0)
  generalize hq_q1 : (jlz ((-2) * N - 1) 0 (2 * x4) 0 0 0).sign = q1 at hb_q1 g_0 ⊢
  refine jT_loc (LN := [(0, (4, 0))]) (by show List.Nodup [0]; decide) (by intro q hq; simp only [List.mem_cons, List.not_mem_nil, or_false] at hq; rcases hq with rfl <;> rfl) ?_
  refine jT_drop 23 (hs0 := [jzQ_371, (101, [], [1, 0, 2 * x4, 0, 0, 0]), jgh, jgh, jgh, jgh, jgh, (130, [], [17, 18, 19, 20, 21, 22]), jgh, jgh, jgh, jgh, jgh, jgh, jgh, jgh, jgh, (100, [], (jenc (jlg 0))), (100, [], (jenc (jlg 1))), (100, [], (jenc (jlg 2))), (100, [], (jenc (jlg 3))), (100, [], (jenc (jlg 4))), (100, [], (jenc (jlg 5)))]) (ex := [(101, [], [(-2) * N - 1, 0, 2 * x4, 0, 0, 0])]) rfl rfl rfl (by decide) ?_
  subst hq_q1
  exact jT_ret rfl (by decide) (by show 23 ≤ 23; omega) (by omega) (by omega) ⟨rfl, rfl, rfl⟩
theorem jQ_212_288 {xs : List Int} {d : Nat} {N x4 : Int} (h_N : (-1099511627776) ≤ N ∧ N ≤ 1099511627776) (h_x4 : 1 ≤ x4 ∧ x4 ≤ 100) : jT xs (d + 4) 212 23 0 [(0, (4, 0)), (1, (4, 1)), (2, (1, 2 * N))] [] [jzQ_371, (101, [], [1, 0, 2 * x4, 0, 0, 0]), jgh, jgh, jgh, jgh, jgh, (130, [], [17, 18, 19, 20, 21, 22]), jgh, jgh, jgh, jgh, jgh, jgh, jgh, jgh, jgh, (100, [], (jenc (jlg 0))), (100, [], (jenc (jlg 1))), (100, [], (jenc (jlg 2))), (100, [], (jenc (jlg 3))), (100, [], (jenc (jlg 4))), (100, [], (jenc (jlg 5)))] 20 1070 (fun k v hsN => k = 0 ∧ v = (0, (jlz ((-2) * N + 1) 0 (2 * x4) 0 0 0).sign) ∧ hsN = [jzQ_371, (101, [], [1, 0, 2 * x4, 0, 0, 0]), jgh, jgh, jgh, jgh, jgh, (130, [], [17, 18, 19, 20, 21, 22]), jgh, jgh, jgh, jgh, jgh, jgh, jgh, jgh, jgh, (100, [], (jenc (jlg 0))), (100, [], (jenc (jlg 1))), (100, [], (jenc (jlg 2))), (100, [], (jenc (jlg 3))), (100, [], (jenc (jlg 4))), (100, [], (jenc (jlg 5)))] ++ []) := by
  refine jT_xbipush (k := 6) (pcN := 2) jIQ_212_0 (by decide) rfl ?_
  refine jT_adv 1 (pcN := 4) (LN := [(0, (4, 0)), (1, (4, 1)), (2, (1, 2 * N))]) (stN := [(4, 23)]) (hsN := [jzQ_371, (101, [], [1, 0, 2 * x4, 0, 0, 0]), jgh, jgh, jgh, jgh, jgh, (130, [], [17, 18, 19, 20, 21, 22]), jgh, jgh, jgh, jgh, jgh, jgh, jgh, jgh, jgh, (100, [], (jenc (jlg 0))), (100, [], (jenc (jlg 1))), (100, [], (jenc (jlg 2))), (100, [], (jenc (jlg 3))), (100, [], (jenc (jlg 4))), (100, [], (jenc (jlg 5))), (101, [], [0, 0, 0, 0, 0, 0])]) (c1 := 1) (s1 := 6) (c2 := 19) (s2 := 1064) (by exact rfl) ?_ (by omega) (by omega)
  refine jT_xastore (v := (4, 23)) (LN := [(4, (4, 23)), (0, (4, 0)), (1, (4, 1)), (2, (1, 2 * N))]) (pcN := 6) jIQ_212_4 rfl rfl rfl rfl ?_
  refine jT_xaload_n (v := (4, 1)) (pcN := 7) jIQ_212_6 rfl rfl rfl ?_
  refine jT_xiconst (k := 0) (pcN := 8) jIQ_212_7 rfl ?_
  refine jT_xaload (v := (4, 23)) (pcN := 10) jIQ_212_8 rfl rfl rfl ?_
  refine jT_xiconst (k := 0) (pcN := 11) jIQ_212_10 rfl ?_
  refine jT_xbipush (k := 6) (pcN := 13) jIQ_212_11 (by decide) rfl ?_
  refine jT_adv 1 (pcN := 16) (LN := [(4, (4, 23)), (0, (4, 0)), (1, (4, 1)), (2, (1, 2 * N))]) (stN := []) (hsN := [jzQ_371, (101, [], [1, 0, 2 * x4, 0, 0, 0]), jgh, jgh, jgh, jgh, jgh, (130, [], [17, 18, 19, 20, 21, 22]), jgh, jgh, jgh, jgh, jgh, jgh, jgh, jgh, jgh, (100, [], (jenc (jlg 0))), (100, [], (jenc (jlg 1))), (100, [], (jenc (jlg 2))), (100, [], (jenc (jlg 3))), (100, [], (jenc (jlg 4))), (100, [], (jenc (jlg 5))), (101, [], [1, 0, 2 * x4, 0, 0, 0])]) (c1 := 0) (s1 := 0) (c2 := 19) (s2 := 1064) (by exact rfl) ?_ (by omega) (by omega)
  refine jT_xaload (v := (4, 23)) (pcN := 18) jIQ_212_16 rfl rfl rfl ?_
  refine jT_xiconst (k := 0) (pcN := 19) jIQ_212_18 rfl ?_
  refine jT_adv 1 (pcN := 20) (LN := [(4, (4, 23)), (0, (4, 0)), (1, (4, 1)), (2, (1, 2 * N))]) (stN := [(0, 0), (4, 23), (0, 0), (4, 23)]) (hsN := [jzQ_371, (101, [], [1, 0, 2 * x4, 0, 0, 0]), jgh, jgh, jgh, jgh, jgh, (130, [], [17, 18, 19, 20, 21, 22]), jgh, jgh, jgh, jgh, jgh, jgh, jgh, jgh, jgh, (100, [], (jenc (jlg 0))), (100, [], (jenc (jlg 1))), (100, [], (jenc (jlg 2))), (100, [], (jenc (jlg 3))), (100, [], (jenc (jlg 4))), (100, [], (jenc (jlg 5))), (101, [], [1, 0, 2 * x4, 0, 0, 0])]) (c1 := 0) (s1 := 0) (c2 := 19) (s2 := 1064) (by exact rfl) ?_ (by omega) (by omega)
  refine jT_lald (x := 1) (a := 23) (j := 0) (fs := []) (X := [1, 0, 2 * x4, 0, 0, 0]) jIQ_212_20 rfl rfl rfl rfl ?_
  refine jT_eq (LN := [(4, (4, 23)), (0, (4, 0)), (1, (4, 1)), (2, (1, 2 * N))]) (stN := [(1, 1), (0, 0), (4, 23)]) (hsN := [jzQ_371, (101, [], [1, 0, 2 * x4, 0, 0, 0]), jgh, jgh, jgh, jgh, jgh, (130, [], [17, 18, 19, 20, 21, 22]), jgh, jgh, jgh, jgh, jgh, jgh, jgh, jgh, jgh, (100, [], (jenc (jlg 0))), (100, [], (jenc (jlg 1))), (100, [], (jenc (jlg 2))), (100, [], (jenc (jlg 3))), (100, [], (jenc (jlg 4))), (100, [], (jenc (jlg 5))), (101, [], [1, 0, 2 * x4, 0, 0, 0])]) rfl rfl rfl ?_
  refine jT_xlload_n (v := (1, 2 * N)) (pcN := 22) jIQ_212_21 rfl rfl rfl ?_
  refine jT_xlsub (x := 1) (y := 2 * N) (z := (-2) * N + 1) (pcN := 23) jIQ_212_22 rfl (by omega) rfl ?_
  refine jT_adv 1 (pcN := 24) (LN := [(4, (4, 23)), (0, (4, 0)), (1, (4, 1)), (2, (1, 2 * N))]) (stN := []) (hsN := [jzQ_371, (101, [], [1, 0, 2 * x4, 0, 0, 0]), jgh, jgh, jgh, jgh, jgh, (130, [], [17, 18, 19, 20, 21, 22]), jgh, jgh, jgh, jgh, jgh, jgh, jgh, jgh, jgh, (100, [], (jenc (jlg 0))), (100, [], (jenc (jlg 1))), (100, [], (jenc (jlg 2))), (100, [], (jenc (jlg 3))), (100, [], (jenc (jlg 4))), (100, [], (jenc (jlg 5))), (101, [], [(-2) * N + 1, 0, 2 * x4, 0, 0, 0])]) (c1 := 0) (s1 := 0) (c2 := 19) (s2 := 1064) (by exact rfl) ?_ (by omega) (by omega)
  refine jT_xaload_n (v := (4, 0)) (pcN := 25) jIQ_212_24 rfl rfl rfl ?_
  refine jT_xaload (v := (4, 23)) (pcN := 27) jIQ_212_25 rfl rfl rfl ?_
  refine jT_callA [0, 23, 2, 3, 4, 5, 6, 7, 8, 9, 10, 11, 12, 13, 14, 15, 16, 17, 18, 19, 20, 21, 22] (y := 213) (pcN := 30) (dC := 3) (bc1 := 19) (bc2 := 1064) (c1 := 0) (c2 := 0) (as := [(4, 0), (4, 23)]) (asC := [(4, 0), (4, 1)]) (LN := [(4, (4, 23)), (0, (4, 0)), (1, (4, 1)), (2, (1, 2 * N))]) (stN := []) (hsC := [jzQ_371, (101, [], [(-2) * N + 1, 0, 2 * x4, 0, 0, 0]), jgh, jgh, jgh, jgh, jgh, (130, [], [17, 18, 19, 20, 21, 22]), jgh, jgh, jgh, jgh, jgh, jgh, jgh, jgh, jgh, (100, [], (jenc (jlg 0))), (100, [], (jenc (jlg 1))), (100, [], (jenc (jlg 2))), (100, [], (jenc (jlg 3))), (100, [], (jenc (jlg 4))), (100, [], (jenc (jlg 5)))]) (ex := []) (v := (0, (jlz ((-2) * N + 1) 0 (2 * x4) 0 0 0).sign)) (st2 := [(0, (jlz ((-2) * N + 1) 0 (2 * x4) 0 0 0).sign)]) (hs2 := [jzQ_371, (101, [], [1, 0, 2 * x4, 0, 0, 0]), jgh, jgh, jgh, jgh, jgh, (130, [], [17, 18, 19, 20, 21, 22]), jgh, jgh, jgh, jgh, jgh, jgh, jgh, jgh, jgh, (100, [], (jenc (jlg 0))), (100, [], (jenc (jlg 1))), (100, [], (jenc (jlg 2))), (100, [], (jenc (jlg 3))), (100, [], (jenc (jlg 4))), (100, [], (jenc (jlg 5))), (101, [], [(-2) * N + 1, 0, 2 * x4, 0, 0, 0])]) (jQl_sg_148 (d := 0) (e0 := (-2) * N + 1) (e1 := 0) (e2 := 2 * x4) (e3 := 0) (e4 := 0) (e5 := 0) (by omega) (by omega) (by omega) (by omega) (by omega) (by omega)) (by rfl) (by rfl) (by rfl) (by rfl) ⟨rfl, rfl, rfl, rfl, rfl, rfl, rfl, rfl, rfl, rfl, rfl, rfl, rfl, rfl, rfl, rfl, rfl, rfl, rfl, rfl, rfl, rfl, rfl, trivial⟩ (by rfl) (by rfl) (by omega) (by show 23 ≤ 24; omega) (by omega) (by omega) rfl rfl ?_
  have hb_q1 := jsgn_b (jlz ((-2) * N + 1) 0 (2 * x4) 0 0 0)
  generalize hq_q1 : (jlz ((-2) * N + 1) 0 (2 * x4) 0 0 0).sign = q1 at hb_q1 ⊢
  refine jT_loc (LN := [(0, (4, 0))]) (by show List.Nodup [0]; decide) (by intro q hq; simp only [List.mem_cons, List.not_mem_nil, or_false] at hq; rcases hq with rfl <;> rfl) ?_
  refine jT_drop 23 (hs0 := [jzQ_371, (101, [], [1, 0, 2 * x4, 0, 0, 0]), jgh, jgh, jgh, jgh, jgh, (130, [], [17, 18, 19, 20, 21, 22]), jgh, jgh, jgh, jgh, jgh, jgh, jgh, jgh, jgh, (100, [], (jenc (jlg 0))), (100, [], (jenc (jlg 1))), (100, [], (jenc (jlg 2))), (100, [], (jenc (jlg 3))), (100, [], (jenc (jlg 4))), (100, [], (jenc (jlg 5)))]) (ex := [(101, [], [(-2) * N + 1, 0, 2 * x4, 0, 0, 0])]) rfl rfl rfl (by decide) ?_
  subst hq_q1
  exact jT_ret rfl (by decide) (by show 23 ≤ 23; omega) (by omega) (by omega) ⟨rfl, rfl, rfl⟩
theorem jQ_212_289 {xs : List Int} {d : Nat} {N x4 : Int} (h_N : (-1099511627776) ≤ N ∧ N ≤ 1099511627776) (h_x4 : 1 ≤ x4 ∧ x4 ≤ 100) (g_0 : (jlz ((-2) * N - 1) 0 (2 * x4) 0 0 0).sign < 0) (g_1 : 0 ≤ (jlz ((-2) * N + 1) 0 (2 * x4) 0 0 0).sign) : jT xs (d + 4) 212 23 0 [(0, (4, 0)), (1, (4, 1)), (2, (1, 2 * N + 2))] [] [jzQ_371, (101, [], [1, 0, 2 * x4, 0, 0, 0]), jgh, jgh, jgh, jgh, jgh, (130, [], [17, 18, 19, 20, 21, 22]), jgh, jgh, jgh, jgh, jgh, jgh, jgh, jgh, jgh, (100, [], (jenc (jlg 0))), (100, [], (jenc (jlg 1))), (100, [], (jenc (jlg 2))), (100, [], (jenc (jlg 3))), (100, [], (jenc (jlg 4))), (100, [], (jenc (jlg 5)))] 20 1070 (fun k v hsN => k = 0 ∧ v = (0, (jlz ((-2) * N - 1) 0 (2 * x4) 0 0 0).sign) ∧ hsN = [jzQ_371, (101, [], [1, 0, 2 * x4, 0, 0, 0]), jgh, jgh, jgh, jgh, jgh, (130, [], [17, 18, 19, 20, 21, 22]), jgh, jgh, jgh, jgh, jgh, jgh, jgh, jgh, jgh, (100, [], (jenc (jlg 0))), (100, [], (jenc (jlg 1))), (100, [], (jenc (jlg 2))), (100, [], (jenc (jlg 3))), (100, [], (jenc (jlg 4))), (100, [], (jenc (jlg 5)))] ++ []) := by
  refine jT_xbipush (k := 6) (pcN := 2) jIQ_212_0 (by decide) rfl ?_
  refine jT_adv 1 (pcN := 4) (LN := [(0, (4, 0)), (1, (4, 1)), (2, (1, 2 * N + 2))]) (stN := [(4, 23)]) (hsN := [jzQ_371, (101, [], [1, 0, 2 * x4, 0, 0, 0]), jgh, jgh, jgh, jgh, jgh, (130, [], [17, 18, 19, 20, 21, 22]), jgh, jgh, jgh, jgh, jgh, jgh, jgh, jgh, jgh, (100, [], (jenc (jlg 0))), (100, [], (jenc (jlg 1))), (100, [], (jenc (jlg 2))), (100, [], (jenc (jlg 3))), (100, [], (jenc (jlg 4))), (100, [], (jenc (jlg 5))), (101, [], [0, 0, 0, 0, 0, 0])]) (c1 := 1) (s1 := 6) (c2 := 19) (s2 := 1064) (by exact rfl) ?_ (by omega) (by omega)
  refine jT_xastore (v := (4, 23)) (LN := [(4, (4, 23)), (0, (4, 0)), (1, (4, 1)), (2, (1, 2 * N + 2))]) (pcN := 6) jIQ_212_4 rfl rfl rfl rfl ?_
  refine jT_xaload_n (v := (4, 1)) (pcN := 7) jIQ_212_6 rfl rfl rfl ?_
  refine jT_xiconst (k := 0) (pcN := 8) jIQ_212_7 rfl ?_
  refine jT_xaload (v := (4, 23)) (pcN := 10) jIQ_212_8 rfl rfl rfl ?_
  refine jT_xiconst (k := 0) (pcN := 11) jIQ_212_10 rfl ?_
  refine jT_xbipush (k := 6) (pcN := 13) jIQ_212_11 (by decide) rfl ?_
  refine jT_adv 1 (pcN := 16) (LN := [(4, (4, 23)), (0, (4, 0)), (1, (4, 1)), (2, (1, 2 * N + 2))]) (stN := []) (hsN := [jzQ_371, (101, [], [1, 0, 2 * x4, 0, 0, 0]), jgh, jgh, jgh, jgh, jgh, (130, [], [17, 18, 19, 20, 21, 22]), jgh, jgh, jgh, jgh, jgh, jgh, jgh, jgh, jgh, (100, [], (jenc (jlg 0))), (100, [], (jenc (jlg 1))), (100, [], (jenc (jlg 2))), (100, [], (jenc (jlg 3))), (100, [], (jenc (jlg 4))), (100, [], (jenc (jlg 5))), (101, [], [1, 0, 2 * x4, 0, 0, 0])]) (c1 := 0) (s1 := 0) (c2 := 19) (s2 := 1064) (by exact rfl) ?_ (by omega) (by omega)
  refine jT_xaload (v := (4, 23)) (pcN := 18) jIQ_212_16 rfl rfl rfl ?_
  refine jT_xiconst (k := 0) (pcN := 19) jIQ_212_18 rfl ?_
  refine jT_adv 1 (pcN := 20) (LN := [(4, (4, 23)), (0, (4, 0)), (1, (4, 1)), (2, (1, 2 * N + 2))]) (stN := [(0, 0), (4, 23), (0, 0), (4, 23)]) (hsN := [jzQ_371, (101, [], [1, 0, 2 * x4, 0, 0, 0]), jgh, jgh, jgh, jgh, jgh, (130, [], [17, 18, 19, 20, 21, 22]), jgh, jgh, jgh, jgh, jgh, jgh, jgh, jgh, jgh, (100, [], (jenc (jlg 0))), (100, [], (jenc (jlg 1))), (100, [], (jenc (jlg 2))), (100, [], (jenc (jlg 3))), (100, [], (jenc (jlg 4))), (100, [], (jenc (jlg 5))), (101, [], [1, 0, 2 * x4, 0, 0, 0])]) (c1 := 0) (s1 := 0) (c2 := 19) (s2 := 1064) (by exact rfl) ?_ (by omega) (by omega)
  refine jT_lald (x := 1) (a := 23) (j := 0) (fs := []) (X := [1, 0, 2 * x4, 0, 0, 0]) jIQ_212_20 rfl rfl rfl rfl ?_
  refine jT_eq (LN := [(4, (4, 23)), (0, (4, 0)), (1, (4, 1)), (2, (1, 2 * N + 2))]) (stN := [(1, 1), (0, 0), (4, 23)]) (hsN := [jzQ_371, (101, [], [1, 0, 2 * x4, 0, 0, 0]), jgh, jgh, jgh, jgh, jgh, (130, [], [17, 18, 19, 20, 21, 22]), jgh, jgh, jgh, jgh, jgh, jgh, jgh, jgh, jgh, (100, [], (jenc (jlg 0))), (100, [], (jenc (jlg 1))), (100, [], (jenc (jlg 2))), (100, [], (jenc (jlg 3))), (100, [], (jenc (jlg 4))), (100, [], (jenc (jlg 5))), (101, [], [1, 0, 2 * x4, 0, 0, 0])]) rfl rfl rfl ?_
  refine jT_xlload_n (v := (1, 2 * N + 2)) (pcN := 22) jIQ_212_21 rfl rfl rfl ?_
  refine jT_xlsub (x := 1) (y := 2 * N + 2) (z := (-2) * N - 1) (pcN := 23) jIQ_212_22 rfl (by omega) rfl ?_
  refine jT_adv 1 (pcN := 24) (LN := [(4, (4, 23)), (0, (4, 0)), (1, (4, 1)), (2, (1, 2 * N + 2))]) (stN := []) (hsN := [jzQ_371, (101, [], [1, 0, 2 * x4, 0, 0, 0]), jgh, jgh, jgh, jgh, jgh, (130, [], [17, 18, 19, 20, 21, 22]), jgh, jgh, jgh, jgh, jgh, jgh, jgh, jgh, jgh, (100, [], (jenc (jlg 0))), (100, [], (jenc (jlg 1))), (100, [], (jenc (jlg 2))), (100, [], (jenc (jlg 3))), (100, [], (jenc (jlg 4))), (100, [], (jenc (jlg 5))), (101, [], [(-2) * N - 1, 0, 2 * x4, 0, 0, 0])]) (c1 := 0) (s1 := 0) (c2 := 19) (s2 := 1064) (by exact rfl) ?_ (by omega) (by omega)
  refine jT_xaload_n (v := (4, 0)) (pcN := 25) jIQ_212_24 rfl rfl rfl ?_
  refine jT_xaload (v := (4, 23)) (pcN := 27) jIQ_212_25 rfl rfl rfl ?_
  refine jT_callA [0, 23, 2, 3, 4, 5, 6, 7, 8, 9, 10, 11, 12, 13, 14, 15, 16, 17, 18, 19, 20, 21, 22] (y := 213) (pcN := 30) (dC := 3) (bc1 := 19) (bc2 := 1064) (c1 := 0) (c2 := 0) (as := [(4, 0), (4, 23)]) (asC := [(4, 0), (4, 1)]) (LN := [(4, (4, 23)), (0, (4, 0)), (1, (4, 1)), (2, (1, 2 * N + 2))]) (stN := []) (hsC := [jzQ_371, (101, [], [(-2) * N - 1, 0, 2 * x4, 0, 0, 0]), jgh, jgh, jgh, jgh, jgh, (130, [], [17, 18, 19, 20, 21, 22]), jgh, jgh, jgh, jgh, jgh, jgh, jgh, jgh, jgh, (100, [], (jenc (jlg 0))), (100, [], (jenc (jlg 1))), (100, [], (jenc (jlg 2))), (100, [], (jenc (jlg 3))), (100, [], (jenc (jlg 4))), (100, [], (jenc (jlg 5)))]) (ex := []) (v := (0, (jlz ((-2) * N - 1) 0 (2 * x4) 0 0 0).sign)) (st2 := [(0, (jlz ((-2) * N - 1) 0 (2 * x4) 0 0 0).sign)]) (hs2 := [jzQ_371, (101, [], [1, 0, 2 * x4, 0, 0, 0]), jgh, jgh, jgh, jgh, jgh, (130, [], [17, 18, 19, 20, 21, 22]), jgh, jgh, jgh, jgh, jgh, jgh, jgh, jgh, jgh, (100, [], (jenc (jlg 0))), (100, [], (jenc (jlg 1))), (100, [], (jenc (jlg 2))), (100, [], (jenc (jlg 3))), (100, [], (jenc (jlg 4))), (100, [], (jenc (jlg 5))), (101, [], [(-2) * N - 1, 0, 2 * x4, 0, 0, 0])]) (jQl_sg_148 (d := 0) (e0 := (-2) * N - 1) (e1 := 0) (e2 := 2 * x4) (e3 := 0) (e4 := 0) (e5 := 0) (by omega) (by omega) (by omega) (by omega) (by omega) (by omega)) (by rfl) (by rfl) (by rfl) (by rfl) ⟨rfl, rfl, rfl, rfl, rfl, rfl, rfl, rfl, rfl, rfl, rfl, rfl, rfl, rfl, rfl, rfl, rfl, rfl, rfl, rfl, rfl, rfl, rfl, trivial⟩ (by rfl) (by rfl) (by omega) (by show 23 ≤ 24; omega) (by omega) (by omega) rfl rfl ?_
  have hb_q1 := jsgn_b (jlz ((-2) * N - 1) 0 (2 * x4) 0 0 0)
  generalize hq_q1 : (jlz ((-2) * N - 1) 0 (2 * x4) 0 0 0).sign = q1 at hb_q1 g_0 ⊢
  refine jT_loc (LN := [(0, (4, 0))]) (by show List.Nodup [0]; decide) (by intro q hq; simp only [List.mem_cons, List.not_mem_nil, or_false] at hq; rcases hq with rfl <;> rfl) ?_
  refine jT_drop 23 (hs0 := [jzQ_371, (101, [], [1, 0, 2 * x4, 0, 0, 0]), jgh, jgh, jgh, jgh, jgh, (130, [], [17, 18, 19, 20, 21, 22]), jgh, jgh, jgh, jgh, jgh, jgh, jgh, jgh, jgh, (100, [], (jenc (jlg 0))), (100, [], (jenc (jlg 1))), (100, [], (jenc (jlg 2))), (100, [], (jenc (jlg 3))), (100, [], (jenc (jlg 4))), (100, [], (jenc (jlg 5)))]) (ex := [(101, [], [(-2) * N - 1, 0, 2 * x4, 0, 0, 0])]) rfl rfl rfl (by decide) ?_
  subst hq_q1
  exact jT_ret rfl (by decide) (by show 23 ≤ 23; omega) (by omega) (by omega) ⟨rfl, rfl, rfl⟩
theorem jQ_212_290 {xs : List Int} {d : Nat} {N x4 : Int} (h_N : (-1099511627776) ≤ N ∧ N ≤ 1099511627776) (h_x4 : 1 ≤ x4 ∧ x4 ≤ 100) (g_0 : 0 ≤ (jlz ((-2) * N + 1) 0 (2 * x4) 0 0 0).sign) : jT xs (d + 4) 212 23 0 [(0, (4, 0)), (1, (4, 1)), (2, (1, 2 * N))] [] [jzQ_371, (101, [], [1, 0, 2 * x4, 0, 0, 0]), jgh, jgh, jgh, jgh, jgh, (130, [], [17, 18, 19, 20, 21, 22]), jgh, jgh, jgh, jgh, jgh, jgh, jgh, jgh, jgh, (100, [], (jenc (jlg 0))), (100, [], (jenc (jlg 1))), (100, [], (jenc (jlg 2))), (100, [], (jenc (jlg 3))), (100, [], (jenc (jlg 4))), (100, [], (jenc (jlg 5)))] 20 1070 (fun k v hsN => k = 0 ∧ v = (0, (jlz ((-2) * N + 1) 0 (2 * x4) 0 0 0).sign) ∧ hsN = [jzQ_371, (101, [], [1, 0, 2 * x4, 0, 0, 0]), jgh, jgh, jgh, jgh, jgh, (130, [], [17, 18, 19, 20, 21, 22]), jgh, jgh, jgh, jgh, jgh, jgh, jgh, jgh, jgh, (100, [], (jenc (jlg 0))), (100, [], (jenc (jlg 1))), (100, [], (jenc (jlg 2))), (100, [], (jenc (jlg 3))), (100, [], (jenc (jlg 4))), (100, [], (jenc (jlg 5)))] ++ []) := by
  refine jT_xbipush (k := 6) (pcN := 2) jIQ_212_0 (by decide) rfl ?_
  refine jT_adv 1 (pcN := 4) (LN := [(0, (4, 0)), (1, (4, 1)), (2, (1, 2 * N))]) (stN := [(4, 23)]) (hsN := [jzQ_371, (101, [], [1, 0, 2 * x4, 0, 0, 0]), jgh, jgh, jgh, jgh, jgh, (130, [], [17, 18, 19, 20, 21, 22]), jgh, jgh, jgh, jgh, jgh, jgh, jgh, jgh, jgh, (100, [], (jenc (jlg 0))), (100, [], (jenc (jlg 1))), (100, [], (jenc (jlg 2))), (100, [], (jenc (jlg 3))), (100, [], (jenc (jlg 4))), (100, [], (jenc (jlg 5))), (101, [], [0, 0, 0, 0, 0, 0])]) (c1 := 1) (s1 := 6) (c2 := 19) (s2 := 1064) (by exact rfl) ?_ (by omega) (by omega)
  refine jT_xastore (v := (4, 23)) (LN := [(4, (4, 23)), (0, (4, 0)), (1, (4, 1)), (2, (1, 2 * N))]) (pcN := 6) jIQ_212_4 rfl rfl rfl rfl ?_
  refine jT_xaload_n (v := (4, 1)) (pcN := 7) jIQ_212_6 rfl rfl rfl ?_
  refine jT_xiconst (k := 0) (pcN := 8) jIQ_212_7 rfl ?_
  refine jT_xaload (v := (4, 23)) (pcN := 10) jIQ_212_8 rfl rfl rfl ?_
  refine jT_xiconst (k := 0) (pcN := 11) jIQ_212_10 rfl ?_
  refine jT_xbipush (k := 6) (pcN := 13) jIQ_212_11 (by decide) rfl ?_
  refine jT_adv 1 (pcN := 16) (LN := [(4, (4, 23)), (0, (4, 0)), (1, (4, 1)), (2, (1, 2 * N))]) (stN := []) (hsN := [jzQ_371, (101, [], [1, 0, 2 * x4, 0, 0, 0]), jgh, jgh, jgh, jgh, jgh, (130, [], [17, 18, 19, 20, 21, 22]), jgh, jgh, jgh, jgh, jgh, jgh, jgh, jgh, jgh, (100, [], (jenc (jlg 0))), (100, [], (jenc (jlg 1))), (100, [], (jenc (jlg 2))), (100, [], (jenc (jlg 3))), (100, [], (jenc (jlg 4))), (100, [], (jenc (jlg 5))), (101, [], [1, 0, 2 * x4, 0, 0, 0])]) (c1 := 0) (s1 := 0) (c2 := 19) (s2 := 1064) (by exact rfl) ?_ (by omega) (by omega)
  refine jT_xaload (v := (4, 23)) (pcN := 18) jIQ_212_16 rfl rfl rfl ?_
  refine jT_xiconst (k := 0) (pcN := 19) jIQ_212_18 rfl ?_
  refine jT_adv 1 (pcN := 20) (LN := [(4, (4, 23)), (0, (4, 0)), (1, (4, 1)), (2, (1, 2 * N))]) (stN := [(0, 0), (4, 23), (0, 0), (4, 23)]) (hsN := [jzQ_371, (101, [], [1, 0, 2 * x4, 0, 0, 0]), jgh, jgh, jgh, jgh, jgh, (130, [], [17, 18, 19, 20, 21, 22]), jgh, jgh, jgh, jgh, jgh, jgh, jgh, jgh, jgh, (100, [], (jenc (jlg 0))), (100, [], (jenc (jlg 1))), (100, [], (jenc (jlg 2))), (100, [], (jenc (jlg 3))), (100, [], (jenc (jlg 4))), (100, [], (jenc (jlg 5))), (101, [], [1, 0, 2 * x4, 0, 0, 0])]) (c1 := 0) (s1 := 0) (c2 := 19) (s2 := 1064) (by exact rfl) ?_ (by omega) (by omega)
  refine jT_lald (x := 1) (a := 23) (j := 0) (fs := []) (X := [1, 0, 2 * x4, 0, 0, 0]) jIQ_212_20 rfl rfl rfl rfl ?_
  refine jT_eq (LN := [(4, (4, 23)), (0, (4, 0)), (1, (4, 1)), (2, (1, 2 * N))]) (stN := [(1, 1), (0, 0), (4, 23)]) (hsN := [jzQ_371, (101, [], [1, 0, 2 * x4, 0, 0, 0]), jgh, jgh, jgh, jgh, jgh, (130, [], [17, 18, 19, 20, 21, 22]), jgh, jgh, jgh, jgh, jgh, jgh, jgh, jgh, jgh, (100, [], (jenc (jlg 0))), (100, [], (jenc (jlg 1))), (100, [], (jenc (jlg 2))), (100, [], (jenc (jlg 3))), (100, [], (jenc (jlg 4))), (100, [], (jenc (jlg 5))), (101, [], [1, 0, 2 * x4, 0, 0, 0])]) rfl rfl rfl ?_
  refine jT_xlload_n (v := (1, 2 * N)) (pcN := 22) jIQ_212_21 rfl rfl rfl ?_
  refine jT_xlsub (x := 1) (y := 2 * N) (z := (-2) * N + 1) (pcN := 23) jIQ_212_22 rfl (by omega) rfl ?_
  refine jT_adv 1 (pcN := 24) (LN := [(4, (4, 23)), (0, (4, 0)), (1, (4, 1)), (2, (1, 2 * N))]) (stN := []) (hsN := [jzQ_371, (101, [], [1, 0, 2 * x4, 0, 0, 0]), jgh, jgh, jgh, jgh, jgh, (130, [], [17, 18, 19, 20, 21, 22]), jgh, jgh, jgh, jgh, jgh, jgh, jgh, jgh, jgh, (100, [], (jenc (jlg 0))), (100, [], (jenc (jlg 1))), (100, [], (jenc (jlg 2))), (100, [], (jenc (jlg 3))), (100, [], (jenc (jlg 4))), (100, [], (jenc (jlg 5))), (101, [], [(-2) * N + 1, 0, 2 * x4, 0, 0, 0])]) (c1 := 0) (s1 := 0) (c2 := 19) (s2 := 1064) (by exact rfl) ?_ (by omega) (by omega)
  refine jT_xaload_n (v := (4, 0)) (pcN := 25) jIQ_212_24 rfl rfl rfl ?_
  refine jT_xaload (v := (4, 23)) (pcN := 27) jIQ_212_25 rfl rfl rfl ?_
  refine jT_callA [0, 23, 2, 3, 4, 5, 6, 7, 8, 9, 10, 11, 12, 13, 14, 15, 16, 17, 18, 19, 20, 21, 22] (y := 213) (pcN := 30) (dC := 3) (bc1 := 19) (bc2 := 1064) (c1 := 0) (c2 := 0) (as := [(4, 0), (4, 23)]) (asC := [(4, 0), (4, 1)]) (LN := [(4, (4, 23)), (0, (4, 0)), (1, (4, 1)), (2, (1, 2 * N))]) (stN := []) (hsC := [jzQ_371, (101, [], [(-2) * N + 1, 0, 2 * x4, 0, 0, 0]), jgh, jgh, jgh, jgh, jgh, (130, [], [17, 18, 19, 20, 21, 22]), jgh, jgh, jgh, jgh, jgh, jgh, jgh, jgh, jgh, (100, [], (jenc (jlg 0))), (100, [], (jenc (jlg 1))), (100, [], (jenc (jlg 2))), (100, [], (jenc (jlg 3))), (100, [], (jenc (jlg 4))), (100, [], (jenc (jlg 5)))]) (ex := []) (v := (0, (jlz ((-2) * N + 1) 0 (2 * x4) 0 0 0).sign)) (st2 := [(0, (jlz ((-2) * N + 1) 0 (2 * x4) 0 0 0).sign)]) (hs2 := [jzQ_371, (101, [], [1, 0, 2 * x4, 0, 0, 0]), jgh, jgh, jgh, jgh, jgh, (130, [], [17, 18, 19, 20, 21, 22]), jgh, jgh, jgh, jgh, jgh, jgh, jgh, jgh, jgh, (100, [], (jenc (jlg 0))), (100, [], (jenc (jlg 1))), (100, [], (jenc (jlg 2))), (100, [], (jenc (jlg 3))), (100, [], (jenc (jlg 4))), (100, [], (jenc (jlg 5))), (101, [], [(-2) * N + 1, 0, 2 * x4, 0, 0, 0])]) (jQl_sg_148 (d := 0) (e0 := (-2) * N + 1) (e1 := 0) (e2 := 2 * x4) (e3 := 0) (e4 := 0) (e5 := 0) (by omega) (by omega) (by omega) (by omega) (by omega) (by omega)) (by rfl) (by rfl) (by rfl) (by rfl) ⟨rfl, rfl, rfl, rfl, rfl, rfl, rfl, rfl, rfl, rfl, rfl, rfl, rfl, rfl, rfl, rfl, rfl, rfl, rfl, rfl, rfl, rfl, rfl, trivial⟩ (by rfl) (by rfl) (by omega) (by show 23 ≤ 24; omega) (by omega) (by omega) rfl rfl ?_
  have hb_q1 := jsgn_b (jlz ((-2) * N + 1) 0 (2 * x4) 0 0 0)
  generalize hq_q1 : (jlz ((-2) * N + 1) 0 (2 * x4) 0 0 0).sign = q1 at hb_q1 g_0 ⊢
  refine jT_loc (LN := [(0, (4, 0))]) (by show List.Nodup [0]; decide) (by intro q hq; simp only [List.mem_cons, List.not_mem_nil, or_false] at hq; rcases hq with rfl <;> rfl) ?_
  refine jT_drop 23 (hs0 := [jzQ_371, (101, [], [1, 0, 2 * x4, 0, 0, 0]), jgh, jgh, jgh, jgh, jgh, (130, [], [17, 18, 19, 20, 21, 22]), jgh, jgh, jgh, jgh, jgh, jgh, jgh, jgh, jgh, (100, [], (jenc (jlg 0))), (100, [], (jenc (jlg 1))), (100, [], (jenc (jlg 2))), (100, [], (jenc (jlg 3))), (100, [], (jenc (jlg 4))), (100, [], (jenc (jlg 5)))]) (ex := [(101, [], [(-2) * N + 1, 0, 2 * x4, 0, 0, 0])]) rfl rfl rfl (by decide) ?_
  subst hq_q1
  exact jT_ret rfl (by decide) (by show 23 ≤ 23; omega) (by omega) (by omega) ⟨rfl, rfl, rfl⟩
theorem jQ_212_291 {xs : List Int} {d : Nat} {N x4 : Int} (h_N : (-1099511627776) ≤ N ∧ N ≤ 1099511627776) (h_x4 : 1 ≤ x4 ∧ x4 ≤ 100) (g_0 : 0 ≤ (jlz ((-2) * N + 1) 0 (2 * x4) 0 0 0).sign) (g_1 : (jlz ((-2) * N - 1) 0 (2 * x4) 0 0 0).sign < 0) : jT xs (d + 4) 212 23 0 [(0, (4, 0)), (1, (4, 1)), (2, (1, 2 * N))] [] [jzQ_371, (101, [], [1, 0, 2 * x4, 0, 0, 0]), jgh, jgh, jgh, jgh, jgh, (130, [], [17, 18, 19, 20, 21, 22]), jgh, jgh, jgh, jgh, jgh, jgh, jgh, jgh, jgh, (100, [], (jenc (jlg 0))), (100, [], (jenc (jlg 1))), (100, [], (jenc (jlg 2))), (100, [], (jenc (jlg 3))), (100, [], (jenc (jlg 4))), (100, [], (jenc (jlg 5)))] 20 1070 (fun k v hsN => k = 0 ∧ v = (0, (jlz ((-2) * N + 1) 0 (2 * x4) 0 0 0).sign) ∧ hsN = [jzQ_371, (101, [], [1, 0, 2 * x4, 0, 0, 0]), jgh, jgh, jgh, jgh, jgh, (130, [], [17, 18, 19, 20, 21, 22]), jgh, jgh, jgh, jgh, jgh, jgh, jgh, jgh, jgh, (100, [], (jenc (jlg 0))), (100, [], (jenc (jlg 1))), (100, [], (jenc (jlg 2))), (100, [], (jenc (jlg 3))), (100, [], (jenc (jlg 4))), (100, [], (jenc (jlg 5)))] ++ []) := by
  refine jT_xbipush (k := 6) (pcN := 2) jIQ_212_0 (by decide) rfl ?_
  refine jT_adv 1 (pcN := 4) (LN := [(0, (4, 0)), (1, (4, 1)), (2, (1, 2 * N))]) (stN := [(4, 23)]) (hsN := [jzQ_371, (101, [], [1, 0, 2 * x4, 0, 0, 0]), jgh, jgh, jgh, jgh, jgh, (130, [], [17, 18, 19, 20, 21, 22]), jgh, jgh, jgh, jgh, jgh, jgh, jgh, jgh, jgh, (100, [], (jenc (jlg 0))), (100, [], (jenc (jlg 1))), (100, [], (jenc (jlg 2))), (100, [], (jenc (jlg 3))), (100, [], (jenc (jlg 4))), (100, [], (jenc (jlg 5))), (101, [], [0, 0, 0, 0, 0, 0])]) (c1 := 1) (s1 := 6) (c2 := 19) (s2 := 1064) (by exact rfl) ?_ (by omega) (by omega)
  refine jT_xastore (v := (4, 23)) (LN := [(4, (4, 23)), (0, (4, 0)), (1, (4, 1)), (2, (1, 2 * N))]) (pcN := 6) jIQ_212_4 rfl rfl rfl rfl ?_
  refine jT_xaload_n (v := (4, 1)) (pcN := 7) jIQ_212_6 rfl rfl rfl ?_
  refine jT_xiconst (k := 0) (pcN := 8) jIQ_212_7 rfl ?_
  refine jT_xaload (v := (4, 23)) (pcN := 10) jIQ_212_8 rfl rfl rfl ?_
  refine jT_xiconst (k := 0) (pcN := 11) jIQ_212_10 rfl ?_
  refine jT_xbipush (k := 6) (pcN := 13) jIQ_212_11 (by decide) rfl ?_
  refine jT_adv 1 (pcN := 16) (LN := [(4, (4, 23)), (0, (4, 0)), (1, (4, 1)), (2, (1, 2 * N))]) (stN := []) (hsN := [jzQ_371, (101, [], [1, 0, 2 * x4, 0, 0, 0]), jgh, jgh, jgh, jgh, jgh, (130, [], [17, 18, 19, 20, 21, 22]), jgh, jgh, jgh, jgh, jgh, jgh, jgh, jgh, jgh, (100, [], (jenc (jlg 0))), (100, [], (jenc (jlg 1))), (100, [], (jenc (jlg 2))), (100, [], (jenc (jlg 3))), (100, [], (jenc (jlg 4))), (100, [], (jenc (jlg 5))), (101, [], [1, 0, 2 * x4, 0, 0, 0])]) (c1 := 0) (s1 := 0) (c2 := 19) (s2 := 1064) (by exact rfl) ?_ (by omega) (by omega)
  refine jT_xaload (v := (4, 23)) (pcN := 18) jIQ_212_16 rfl rfl rfl ?_
  refine jT_xiconst (k := 0) (pcN := 19) jIQ_212_18 rfl ?_
  refine jT_adv 1 (pcN := 20) (LN := [(4, (4, 23)), (0, (4, 0)), (1, (4, 1)), (2, (1, 2 * N))]) (stN := [(0, 0), (4, 23), (0, 0), (4, 23)]) (hsN := [jzQ_371, (101, [], [1, 0, 2 * x4, 0, 0, 0]), jgh, jgh, jgh, jgh, jgh, (130, [], [17, 18, 19, 20, 21, 22]), jgh, jgh, jgh, jgh, jgh, jgh, jgh, jgh, jgh, (100, [], (jenc (jlg 0))), (100, [], (jenc (jlg 1))), (100, [], (jenc (jlg 2))), (100, [], (jenc (jlg 3))), (100, [], (jenc (jlg 4))), (100, [], (jenc (jlg 5))), (101, [], [1, 0, 2 * x4, 0, 0, 0])]) (c1 := 0) (s1 := 0) (c2 := 19) (s2 := 1064) (by exact rfl) ?_ (by omega) (by omega)
  refine jT_lald (x := 1) (a := 23) (j := 0) (fs := []) (X := [1, 0, 2 * x4, 0, 0, 0]) jIQ_212_20 rfl rfl rfl rfl ?_
  refine jT_eq (LN := [(4, (4, 23)), (0, (4, 0)), (1, (4, 1)), (2, (1, 2 * N))]) (stN := [(1, 1), (0, 0), (4, 23)]) (hsN := [jzQ_371, (101, [], [1, 0, 2 * x4, 0, 0, 0]), jgh, jgh, jgh, jgh, jgh, (130, [], [17, 18, 19, 20, 21, 22]), jgh, jgh, jgh, jgh, jgh, jgh, jgh, jgh, jgh, (100, [], (jenc (jlg 0))), (100, [], (jenc (jlg 1))), (100, [], (jenc (jlg 2))), (100, [], (jenc (jlg 3))), (100, [], (jenc (jlg 4))), (100, [], (jenc (jlg 5))), (101, [], [1, 0, 2 * x4, 0, 0, 0])]) rfl rfl rfl ?_
  refine jT_xlload_n (v := (1, 2 * N)) (pcN := 22) jIQ_212_21 rfl rfl rfl ?_
  refine jT_xlsub (x := 1) (y := 2 * N) (z := (-2) * N + 1) (pcN := 23) jIQ_212_22 rfl (by omega) rfl ?_
  refine jT_adv 1 (pcN := 24) (LN := [(4, (4, 23)), (0, (4, 0)), (1, (4, 1)), (2, (1, 2 * N))]) (stN := []) (hsN := [jzQ_371, (101, [], [1, 0, 2 * x4, 0, 0, 0]), jgh, jgh, jgh, jgh, jgh, (130, [], [17, 18, 19, 20, 21, 22]), jgh, jgh, jgh, jgh, jgh, jgh, jgh, jgh, jgh, (100, [], (jenc (jlg 0))), (100, [], (jenc (jlg 1))), (100, [], (jenc (jlg 2))), (100, [], (jenc (jlg 3))), (100, [], (jenc (jlg 4))), (100, [], (jenc (jlg 5))), (101, [], [(-2) * N + 1, 0, 2 * x4, 0, 0, 0])]) (c1 := 0) (s1 := 0) (c2 := 19) (s2 := 1064) (by exact rfl) ?_ (by omega) (by omega)
  refine jT_xaload_n (v := (4, 0)) (pcN := 25) jIQ_212_24 rfl rfl rfl ?_
  refine jT_xaload (v := (4, 23)) (pcN := 27) jIQ_212_25 rfl rfl rfl ?_
  refine jT_callA [0, 23, 2, 3, 4, 5, 6, 7, 8, 9, 10, 11, 12, 13, 14, 15, 16, 17, 18, 19, 20, 21, 22] (y := 213) (pcN := 30) (dC := 3) (bc1 := 19) (bc2 := 1064) (c1 := 0) (c2 := 0) (as := [(4, 0), (4, 23)]) (asC := [(4, 0), (4, 1)]) (LN := [(4, (4, 23)), (0, (4, 0)), (1, (4, 1)), (2, (1, 2 * N))]) (stN := []) (hsC := [jzQ_371, (101, [], [(-2) * N + 1, 0, 2 * x4, 0, 0, 0]), jgh, jgh, jgh, jgh, jgh, (130, [], [17, 18, 19, 20, 21, 22]), jgh, jgh, jgh, jgh, jgh, jgh, jgh, jgh, jgh, (100, [], (jenc (jlg 0))), (100, [], (jenc (jlg 1))), (100, [], (jenc (jlg 2))), (100, [], (jenc (jlg 3))), (100, [], (jenc (jlg 4))), (100, [], (jenc (jlg 5)))]) (ex := []) (v := (0, (jlz ((-2) * N + 1) 0 (2 * x4) 0 0 0).sign)) (st2 := [(0, (jlz ((-2) * N + 1) 0 (2 * x4) 0 0 0).sign)]) (hs2 := [jzQ_371, (101, [], [1, 0, 2 * x4, 0, 0, 0]), jgh, jgh, jgh, jgh, jgh, (130, [], [17, 18, 19, 20, 21, 22]), jgh, jgh, jgh, jgh, jgh, jgh, jgh, jgh, jgh, (100, [], (jenc (jlg 0))), (100, [], (jenc (jlg 1))), (100, [], (jenc (jlg 2))), (100, [], (jenc (jlg 3))), (100, [], (jenc (jlg 4))), (100, [], (jenc (jlg 5))), (101, [], [(-2) * N + 1, 0, 2 * x4, 0, 0, 0])]) (jQl_sg_148 (d := 0) (e0 := (-2) * N + 1) (e1 := 0) (e2 := 2 * x4) (e3 := 0) (e4 := 0) (e5 := 0) (by omega) (by omega) (by omega) (by omega) (by omega) (by omega)) (by rfl) (by rfl) (by rfl) (by rfl) ⟨rfl, rfl, rfl, rfl, rfl, rfl, rfl, rfl, rfl, rfl, rfl, rfl, rfl, rfl, rfl, rfl, rfl, rfl, rfl, rfl, rfl, rfl, rfl, trivial⟩ (by rfl) (by rfl) (by omega) (by show 23 ≤ 24; omega) (by omega) (by omega) rfl rfl ?_
  have hb_q1 := jsgn_b (jlz ((-2) * N + 1) 0 (2 * x4) 0 0 0)
  generalize hq_q1 : (jlz ((-2) * N + 1) 0 (2 * x4) 0 0 0).sign = q1 at hb_q1 g_0 ⊢
  refine jT_loc (LN := [(0, (4, 0))]) (by show List.Nodup [0]; decide) (by intro q hq; simp only [List.mem_cons, List.not_mem_nil, or_false] at hq; rcases hq with rfl <;> rfl) ?_
  refine jT_drop 23 (hs0 := [jzQ_371, (101, [], [1, 0, 2 * x4, 0, 0, 0]), jgh, jgh, jgh, jgh, jgh, (130, [], [17, 18, 19, 20, 21, 22]), jgh, jgh, jgh, jgh, jgh, jgh, jgh, jgh, jgh, (100, [], (jenc (jlg 0))), (100, [], (jenc (jlg 1))), (100, [], (jenc (jlg 2))), (100, [], (jenc (jlg 3))), (100, [], (jenc (jlg 4))), (100, [], (jenc (jlg 5)))]) (ex := [(101, [], [(-2) * N + 1, 0, 2 * x4, 0, 0, 0])]) rfl rfl rfl (by decide) ?_
  subst hq_q1
  exact jT_ret rfl (by decide) (by show 23 ≤ 23; omega) (by omega) (by omega) ⟨rfl, rfl, rfl⟩
theorem jQl_pc_285 {xs : List Int} {d : Nat} {x4 : Int} (h_x4 : 1 ≤ x4 ∧ x4 ≤ 100) {N d1 d2 d3 d4 d5 d6 d7 d8 : Int} (fd1 : ((FP.l2d (Int64.ofInt (2 * x4))).toNat : Int) = d1) (fd2 : jn64 (FP.dmul (ju64 4612410936051475313) (ju64 d1)) = true ∧ ((FP.dmul (ju64 4612410936051475313) (ju64 d1)).toNat : Int) = d2) (fd3 : jn64 (FP.dadd (ju64 4607182418800017408) (ju64 d2)) = true ∧ ((FP.dadd (ju64 4607182418800017408) (ju64 d2)).toNat : Int) = d3) (fd4 : jn64 (FP.dadd (ju64 d3) (ju64 0)) = true ∧ ((FP.dadd (ju64 d3) (ju64 0)).toNat : Int) = d4) (fd5 : jn64 (FP.dadd (ju64 d4) (ju64 0)) = true ∧ ((FP.dadd (ju64 d4) (ju64 0)).toNat : Int) = d5) (fd6 : jn64 (FP.dadd (ju64 d5) (ju64 0)) = true ∧ ((FP.dadd (ju64 d5) (ju64 0)).toNat : Int) = d6) (fd7 : jn64 (FP.ddiv (ju64 d6) (ju64 4611686018427387904)) = true ∧ ((FP.ddiv (ju64 d6) (ju64 4611686018427387904)).toNat : Int) = d7) (fd8 : (FP.d2l (ju64 d7)).toInt = d8) (h_N : (-1099511627776) ≤ N ∧ N ≤ 1099511627776) (h1 : N ≤ d8) (h2 : d8 ≤ N + 1) (hA : 0 ≤ jlz ((-2) * N + 1) 0 (2 * x4) 0 0 0) (hB : jlz ((-2) * N - 1) 0 (2 * x4) 0 0 0 < 0) : jT xs (d + 5) 210 23 0 [(0, (4, 0)), (1, (4, 1)), (2, (1, 2))] [] [jzQ_371, (101, [], [1, 0, 2 * x4, 0, 0, 0]), jgh, jgh, jgh, jgh, jgh, (130, [], [17, 18, 19, 20, 21, 22]), jgh, jgh, jgh, jgh, jgh, jgh, jgh, jgh, jgh, (100, [], (jenc (jlg 0))), (100, [], (jenc (jlg 1))), (100, [], (jenc (jlg 2))), (100, [], (jenc (jlg 3))), (100, [], (jenc (jlg 4))), (100, [], (jenc (jlg 5)))] 60 3210 (fun k v hsN => k = 0 ∧ v = (1, N) ∧ hsN = [jzQ_371, (101, [], [1, 0, 2 * x4, 0, 0, 0]), jgh, jgh, jgh, jgh, jgh, (130, [], [17, 18, 19, 20, 21, 22]), jgh, jgh, jgh, jgh, jgh, jgh, jgh, jgh, jgh, (100, [], (jenc (jlg 0))), (100, [], (jenc (jlg 1))), (100, [], (jenc (jlg 2))), (100, [], (jenc (jlg 3))), (100, [], (jenc (jlg 4))), (100, [], (jenc (jlg 5)))]) := by
  rcases (show d8 = N + 1 ∨ d8 = N by omega) with g_n | g_n
  · have g_0 : (jlz ((-2) * N - 1) 0 (2 * x4) 0 0 0).sign < 0 := jsgn_n (Int.lt_of_le_of_lt (jlz_mono (by omega)) hB)
    have g_1 : 0 ≤ (jlz ((-2) * N + 1) 0 (2 * x4) 0 0 0).sign := jsgn_p (Int.le_trans hA (jlz_mono (by omega)))
    refine jT_xaload_n (v := (4, 1)) (pcN := 1) jIQ_210_0 rfl rfl rfl ?_
    refine jT_callA [1] (y := 211) (pcN := 4) (dC := 0) (bc1 := 0) (bc2 := 0) (c1 := 60) (c2 := 3210) (as := [(4, 1)]) (asC := [(4, 0)]) (LN := [(0, (4, 0)), (1, (4, 1)), (2, (1, 2))]) (stN := []) (hsC := [(101, [], [1, 0, 2 * x4, 0, 0, 0])]) (ex := []) (v := (3, d6)) (st2 := [(3, d6)]) (hs2 := [jzQ_371, (101, [], [1, 0, 2 * x4, 0, 0, 0]), jgh, jgh, jgh, jgh, jgh, (130, [], [17, 18, 19, 20, 21, 22]), jgh, jgh, jgh, jgh, jgh, jgh, jgh, jgh, jgh, (100, [], (jenc (jlg 0))), (100, [], (jenc (jlg 1))), (100, [], (jenc (jlg 2))), (100, [], (jenc (jlg 3))), (100, [], (jenc (jlg 4))), (100, [], (jenc (jlg 5)))]) (jQl_ro_284 (d := 0) (by omega) fd1 fd2 fd3 fd4 fd5 fd6) (by rfl) (by rfl) (by rfl) (by rfl) ⟨rfl, trivial⟩ (by rfl) (by rfl) (by omega) (by show 23 ≤ 23; omega) (by omega) (by omega) rfl rfl ?_
    refine jT_xlload_n (v := (1, 2)) (pcN := 5) jIQ_210_4 rfl rfl rfl ?_
    refine jT_l2d (x := 2) (z := 4611686018427387904) (by rfl) (by rfl) (by decide +kernel) ?_
    refine jT_ddiv (x := d6) (y := 4611686018427387904) (z := d7) (by rfl) (by rfl) fd7 ?_
    refine jT_d2l (x := d7) (z := d8) (by rfl) (by rfl) fd8 ?_
    refine jT_xlstore (v := (1, d8)) (LN := [(4, (1, d8)), (0, (4, 0)), (1, (4, 1)), (2, (1, 2))]) (pcN := 10) jIQ_210_8 rfl rfl rfl rfl ?_
    refine jT_eq (LN := [(4, (1, N + 1)), (0, (4, 0)), (1, (4, 1)), (2, (1, 2))]) (stN := []) (hsN := [jzQ_371, (101, [], [1, 0, 2 * x4, 0, 0, 0]), jgh, jgh, jgh, jgh, jgh, (130, [], [17, 18, 19, 20, 21, 22]), jgh, jgh, jgh, jgh, jgh, jgh, jgh, jgh, jgh, (100, [], (jenc (jlg 0))), (100, [], (jenc (jlg 1))), (100, [], (jenc (jlg 2))), (100, [], (jenc (jlg 3))), (100, [], (jenc (jlg 4))), (100, [], (jenc (jlg 5)))]) (by rw [g_n]) rfl rfl ?_
    refine jT_xaload_n (v := (4, 0)) (pcN := 11) jIQ_210_10 rfl rfl rfl ?_
    refine jT_xaload_n (v := (4, 1)) (pcN := 12) jIQ_210_11 rfl rfl rfl ?_
    refine jT_xlload (v := (1, N + 1)) (pcN := 14) jIQ_210_12 rfl rfl rfl ?_
    refine jT_xlload_n (v := (1, 2)) (pcN := 15) jIQ_210_14 rfl rfl rfl ?_
    refine jT_xlmul (x := N + 1) (y := 2) (z := 2 * N + 2) (pcN := 16) jIQ_210_15 rfl (by omega) rfl ?_
    refine jT_callA [0, 1, 2, 3, 4, 5, 6, 7, 8, 9, 10, 11, 12, 13, 14, 15, 16, 17, 18, 19, 20, 21, 22] (y := 212) (pcN := 19) (dC := 4) (bc1 := 20) (bc2 := 1070) (c1 := 40) (c2 := 2140) (as := [(4, 0), (4, 1), (1, 2 * N + 2)]) (asC := [(4, 0), (4, 1), (1, 2 * N + 2)]) (LN := [(4, (1, N + 1)), (0, (4, 0)), (1, (4, 1)), (2, (1, 2))]) (stN := []) (hsC := [jzQ_371, (101, [], [1, 0, 2 * x4, 0, 0, 0]), jgh, jgh, jgh, jgh, jgh, (130, [], [17, 18, 19, 20, 21, 22]), jgh, jgh, jgh, jgh, jgh, jgh, jgh, jgh, jgh, (100, [], (jenc (jlg 0))), (100, [], (jenc (jlg 1))), (100, [], (jenc (jlg 2))), (100, [], (jenc (jlg 3))), (100, [], (jenc (jlg 4))), (100, [], (jenc (jlg 5)))]) (ex := []) (v := (0, (jlz ((-2) * N - 1) 0 (2 * x4) 0 0 0).sign)) (st2 := [(0, (jlz ((-2) * N - 1) 0 (2 * x4) 0 0 0).sign)]) (hs2 := [jzQ_371, (101, [], [1, 0, 2 * x4, 0, 0, 0]), jgh, jgh, jgh, jgh, jgh, (130, [], [17, 18, 19, 20, 21, 22]), jgh, jgh, jgh, jgh, jgh, jgh, jgh, jgh, jgh, (100, [], (jenc (jlg 0))), (100, [], (jenc (jlg 1))), (100, [], (jenc (jlg 2))), (100, [], (jenc (jlg 3))), (100, [], (jenc (jlg 4))), (100, [], (jenc (jlg 5)))]) (jQ_212_289 (d := 0) (by omega) (by omega) (by omega) (by omega)) (by rfl) (by rfl) (by rfl) (by rfl) ⟨rfl, rfl, rfl, rfl, rfl, rfl, rfl, rfl, rfl, rfl, rfl, rfl, rfl, rfl, rfl, rfl, rfl, rfl, rfl, rfl, rfl, rfl, rfl, trivial⟩ (by rfl) (by rfl) (by omega) (by show 23 ≤ 23; omega) (by omega) (by omega) rfl rfl ?_
    have hb_q1 := jsgn_b (jlz ((-2) * N - 1) 0 (2 * x4) 0 0 0)
    generalize hq_q1 : (jlz ((-2) * N - 1) 0 (2 * x4) 0 0 0).sign = q1 at hb_q1 g_0 ⊢
    refine jT_ifF (a := q1) (t := 31) (by rfl) (by rfl) (by rfl) (jw_idd (by omega) (by omega)) (by simp only [jcP] <;> omega) ?_
    refine jT_xlload (v := (1, N + 1)) (pcN := 24) jIQ_210_22 rfl rfl rfl ?_
    refine jT_xlconst (z := 1) (pcN := 25) jIQ_210_24 rfl rfl ?_
    refine jT_xlsub (x := N + 1) (y := 1) (z := N) (pcN := 26) jIQ_210_25 rfl (by omega) rfl ?_
    refine jT_xlstore (v := (1, N)) (LN := [(4, (1, N)), (0, (4, 0)), (1, (4, 1)), (2, (1, 2))]) (pcN := 28) jIQ_210_26 rfl rfl rfl rfl ?_
    refine jT_xgoto (pcN := 10) jIQ_210_28 rfl ?_
    refine jT_xaload_n (v := (4, 0)) (pcN := 11) jIQ_210_10 rfl rfl rfl ?_
    refine jT_xaload_n (v := (4, 1)) (pcN := 12) jIQ_210_11 rfl rfl rfl ?_
    refine jT_xlload (v := (1, N)) (pcN := 14) jIQ_210_12 rfl rfl rfl ?_
    refine jT_xlload_n (v := (1, 2)) (pcN := 15) jIQ_210_14 rfl rfl rfl ?_
    refine jT_xlmul (x := N) (y := 2) (z := 2 * N) (pcN := 16) jIQ_210_15 rfl (by omega) rfl ?_
    refine jT_callA [0, 1, 2, 3, 4, 5, 6, 7, 8, 9, 10, 11, 12, 13, 14, 15, 16, 17, 18, 19, 20, 21, 22] (y := 212) (pcN := 19) (dC := 4) (bc1 := 20) (bc2 := 1070) (c1 := 20) (c2 := 1070) (as := [(4, 0), (4, 1), (1, 2 * N)]) (asC := [(4, 0), (4, 1), (1, 2 * N)]) (LN := [(4, (1, N)), (0, (4, 0)), (1, (4, 1)), (2, (1, 2))]) (stN := []) (hsC := [jzQ_371, (101, [], [1, 0, 2 * x4, 0, 0, 0]), jgh, jgh, jgh, jgh, jgh, (130, [], [17, 18, 19, 20, 21, 22]), jgh, jgh, jgh, jgh, jgh, jgh, jgh, jgh, jgh, (100, [], (jenc (jlg 0))), (100, [], (jenc (jlg 1))), (100, [], (jenc (jlg 2))), (100, [], (jenc (jlg 3))), (100, [], (jenc (jlg 4))), (100, [], (jenc (jlg 5)))]) (ex := []) (v := (0, (jlz ((-2) * N + 1) 0 (2 * x4) 0 0 0).sign)) (st2 := [(0, (jlz ((-2) * N + 1) 0 (2 * x4) 0 0 0).sign)]) (hs2 := [jzQ_371, (101, [], [1, 0, 2 * x4, 0, 0, 0]), jgh, jgh, jgh, jgh, jgh, (130, [], [17, 18, 19, 20, 21, 22]), jgh, jgh, jgh, jgh, jgh, jgh, jgh, jgh, jgh, (100, [], (jenc (jlg 0))), (100, [], (jenc (jlg 1))), (100, [], (jenc (jlg 2))), (100, [], (jenc (jlg 3))), (100, [], (jenc (jlg 4))), (100, [], (jenc (jlg 5)))]) (jQ_212_290 (d := 0) (by omega) (by omega) (by omega)) (by rfl) (by rfl) (by rfl) (by rfl) ⟨rfl, rfl, rfl, rfl, rfl, rfl, rfl, rfl, rfl, rfl, rfl, rfl, rfl, rfl, rfl, rfl, rfl, rfl, rfl, rfl, rfl, rfl, rfl, trivial⟩ (by rfl) (by rfl) (by omega) (by show 23 ≤ 23; omega) (by omega) (by omega) rfl rfl ?_
    have hb_q2 := jsgn_b (jlz ((-2) * N + 1) 0 (2 * x4) 0 0 0)
    generalize hq_q2 : (jlz ((-2) * N + 1) 0 (2 * x4) 0 0 0).sign = q2 at hb_q2 g_1 ⊢
    refine jT_ifT (a := q2) (t := 31) (by rfl) (by rfl) (by rfl) (jw_idd (by omega) (by omega)) (by simp only [jcP] <;> omega) ?_
    refine jT_xaload_n (v := (4, 0)) (pcN := 32) jIQ_210_31 rfl rfl rfl ?_
    refine jT_xaload_n (v := (4, 1)) (pcN := 33) jIQ_210_32 rfl rfl rfl ?_
    refine jT_xlload (v := (1, N)) (pcN := 35) jIQ_210_33 rfl rfl rfl ?_
    refine jT_xlconst (z := 1) (pcN := 36) jIQ_210_35 rfl rfl ?_
    refine jT_xladd (x := N) (y := 1) (z := N + 1) (pcN := 37) jIQ_210_36 rfl (rfl) rfl ?_
    refine jT_xlload_n (v := (1, 2)) (pcN := 38) jIQ_210_37 rfl rfl rfl ?_
    refine jT_xlmul (x := N + 1) (y := 2) (z := 2 * N + 2) (pcN := 39) jIQ_210_38 rfl (by omega) rfl ?_
    refine jT_callA [0, 1, 2, 3, 4, 5, 6, 7, 8, 9, 10, 11, 12, 13, 14, 15, 16, 17, 18, 19, 20, 21, 22] (y := 212) (pcN := 42) (dC := 4) (bc1 := 20) (bc2 := 1070) (c1 := 0) (c2 := 0) (as := [(4, 0), (4, 1), (1, 2 * N + 2)]) (asC := [(4, 0), (4, 1), (1, 2 * N + 2)]) (LN := [(4, (1, N)), (0, (4, 0)), (1, (4, 1)), (2, (1, 2))]) (stN := []) (hsC := [jzQ_371, (101, [], [1, 0, 2 * x4, 0, 0, 0]), jgh, jgh, jgh, jgh, jgh, (130, [], [17, 18, 19, 20, 21, 22]), jgh, jgh, jgh, jgh, jgh, jgh, jgh, jgh, jgh, (100, [], (jenc (jlg 0))), (100, [], (jenc (jlg 1))), (100, [], (jenc (jlg 2))), (100, [], (jenc (jlg 3))), (100, [], (jenc (jlg 4))), (100, [], (jenc (jlg 5)))]) (ex := []) (v := (0, (jlz ((-2) * N - 1) 0 (2 * x4) 0 0 0).sign)) (st2 := [(0, (jlz ((-2) * N - 1) 0 (2 * x4) 0 0 0).sign)]) (hs2 := [jzQ_371, (101, [], [1, 0, 2 * x4, 0, 0, 0]), jgh, jgh, jgh, jgh, jgh, (130, [], [17, 18, 19, 20, 21, 22]), jgh, jgh, jgh, jgh, jgh, jgh, jgh, jgh, jgh, (100, [], (jenc (jlg 0))), (100, [], (jenc (jlg 1))), (100, [], (jenc (jlg 2))), (100, [], (jenc (jlg 3))), (100, [], (jenc (jlg 4))), (100, [], (jenc (jlg 5)))]) (jQ_212_286 (d := 0) (by omega) (by omega)) (by rfl) (by rfl) (by rfl) (by rfl) ⟨rfl, rfl, rfl, rfl, rfl, rfl, rfl, rfl, rfl, rfl, rfl, rfl, rfl, rfl, rfl, rfl, rfl, rfl, rfl, rfl, rfl, rfl, rfl, trivial⟩ (by rfl) (by rfl) (by omega) (by show 23 ≤ 23; omega) (by omega) (by omega) rfl rfl ?_
    rw [hq_q1]
    refine jT_ifT (a := q1) (t := 54) (by rfl) (by rfl) (by rfl) (jw_idd (by omega) (by omega)) (by simp only [jcP] <;> omega) ?_
    refine jT_xlload (v := (1, N)) (pcN := 56) jIQ_210_54 rfl rfl rfl ?_
    exact jT_ret rfl (by decide) (by show 23 ≤ 23; decide) (by omega) (by omega) ⟨rfl, rfl, rfl⟩
  · have g_0 : 0 ≤ (jlz ((-2) * N + 1) 0 (2 * x4) 0 0 0).sign := jsgn_p (Int.le_trans hA (jlz_mono (by omega)))
    have g_1 : (jlz ((-2) * N - 1) 0 (2 * x4) 0 0 0).sign < 0 := jsgn_n (Int.lt_of_le_of_lt (jlz_mono (by omega)) hB)
    refine jT_xaload_n (v := (4, 1)) (pcN := 1) jIQ_210_0 rfl rfl rfl ?_
    refine jT_callA [1] (y := 211) (pcN := 4) (dC := 0) (bc1 := 0) (bc2 := 0) (c1 := 60) (c2 := 3210) (as := [(4, 1)]) (asC := [(4, 0)]) (LN := [(0, (4, 0)), (1, (4, 1)), (2, (1, 2))]) (stN := []) (hsC := [(101, [], [1, 0, 2 * x4, 0, 0, 0])]) (ex := []) (v := (3, d6)) (st2 := [(3, d6)]) (hs2 := [jzQ_371, (101, [], [1, 0, 2 * x4, 0, 0, 0]), jgh, jgh, jgh, jgh, jgh, (130, [], [17, 18, 19, 20, 21, 22]), jgh, jgh, jgh, jgh, jgh, jgh, jgh, jgh, jgh, (100, [], (jenc (jlg 0))), (100, [], (jenc (jlg 1))), (100, [], (jenc (jlg 2))), (100, [], (jenc (jlg 3))), (100, [], (jenc (jlg 4))), (100, [], (jenc (jlg 5)))]) (jQl_ro_284 (d := 0) (by omega) fd1 fd2 fd3 fd4 fd5 fd6) (by rfl) (by rfl) (by rfl) (by rfl) ⟨rfl, trivial⟩ (by rfl) (by rfl) (by omega) (by show 23 ≤ 23; omega) (by omega) (by omega) rfl rfl ?_
    refine jT_xlload_n (v := (1, 2)) (pcN := 5) jIQ_210_4 rfl rfl rfl ?_
    refine jT_l2d (x := 2) (z := 4611686018427387904) (by rfl) (by rfl) (by decide +kernel) ?_
    refine jT_ddiv (x := d6) (y := 4611686018427387904) (z := d7) (by rfl) (by rfl) fd7 ?_
    refine jT_d2l (x := d7) (z := d8) (by rfl) (by rfl) fd8 ?_
    refine jT_xlstore (v := (1, d8)) (LN := [(4, (1, d8)), (0, (4, 0)), (1, (4, 1)), (2, (1, 2))]) (pcN := 10) jIQ_210_8 rfl rfl rfl rfl ?_
    refine jT_eq (LN := [(4, (1, N)), (0, (4, 0)), (1, (4, 1)), (2, (1, 2))]) (stN := []) (hsN := [jzQ_371, (101, [], [1, 0, 2 * x4, 0, 0, 0]), jgh, jgh, jgh, jgh, jgh, (130, [], [17, 18, 19, 20, 21, 22]), jgh, jgh, jgh, jgh, jgh, jgh, jgh, jgh, jgh, (100, [], (jenc (jlg 0))), (100, [], (jenc (jlg 1))), (100, [], (jenc (jlg 2))), (100, [], (jenc (jlg 3))), (100, [], (jenc (jlg 4))), (100, [], (jenc (jlg 5)))]) (by rw [g_n]) rfl rfl ?_
    refine jT_xaload_n (v := (4, 0)) (pcN := 11) jIQ_210_10 rfl rfl rfl ?_
    refine jT_xaload_n (v := (4, 1)) (pcN := 12) jIQ_210_11 rfl rfl rfl ?_
    refine jT_xlload (v := (1, N)) (pcN := 14) jIQ_210_12 rfl rfl rfl ?_
    refine jT_xlload_n (v := (1, 2)) (pcN := 15) jIQ_210_14 rfl rfl rfl ?_
    refine jT_xlmul (x := N) (y := 2) (z := 2 * N) (pcN := 16) jIQ_210_15 rfl (by omega) rfl ?_
    refine jT_callA [0, 1, 2, 3, 4, 5, 6, 7, 8, 9, 10, 11, 12, 13, 14, 15, 16, 17, 18, 19, 20, 21, 22] (y := 212) (pcN := 19) (dC := 4) (bc1 := 20) (bc2 := 1070) (c1 := 40) (c2 := 2140) (as := [(4, 0), (4, 1), (1, 2 * N)]) (asC := [(4, 0), (4, 1), (1, 2 * N)]) (LN := [(4, (1, N)), (0, (4, 0)), (1, (4, 1)), (2, (1, 2))]) (stN := []) (hsC := [jzQ_371, (101, [], [1, 0, 2 * x4, 0, 0, 0]), jgh, jgh, jgh, jgh, jgh, (130, [], [17, 18, 19, 20, 21, 22]), jgh, jgh, jgh, jgh, jgh, jgh, jgh, jgh, jgh, (100, [], (jenc (jlg 0))), (100, [], (jenc (jlg 1))), (100, [], (jenc (jlg 2))), (100, [], (jenc (jlg 3))), (100, [], (jenc (jlg 4))), (100, [], (jenc (jlg 5)))]) (ex := []) (v := (0, (jlz ((-2) * N + 1) 0 (2 * x4) 0 0 0).sign)) (st2 := [(0, (jlz ((-2) * N + 1) 0 (2 * x4) 0 0 0).sign)]) (hs2 := [jzQ_371, (101, [], [1, 0, 2 * x4, 0, 0, 0]), jgh, jgh, jgh, jgh, jgh, (130, [], [17, 18, 19, 20, 21, 22]), jgh, jgh, jgh, jgh, jgh, jgh, jgh, jgh, jgh, (100, [], (jenc (jlg 0))), (100, [], (jenc (jlg 1))), (100, [], (jenc (jlg 2))), (100, [], (jenc (jlg 3))), (100, [], (jenc (jlg 4))), (100, [], (jenc (jlg 5)))]) (jQ_212_291 (d := 0) (by omega) (by omega) (by omega) (by omega)) (by rfl) (by rfl) (by rfl) (by rfl) ⟨rfl, rfl, rfl, rfl, rfl, rfl, rfl, rfl, rfl, rfl, rfl, rfl, rfl, rfl, rfl, rfl, rfl, rfl, rfl, rfl, rfl, rfl, rfl, trivial⟩ (by rfl) (by rfl) (by omega) (by show 23 ≤ 23; omega) (by omega) (by omega) rfl rfl ?_
    have hb_q1 := jsgn_b (jlz ((-2) * N + 1) 0 (2 * x4) 0 0 0)
    generalize hq_q1 : (jlz ((-2) * N + 1) 0 (2 * x4) 0 0 0).sign = q1 at hb_q1 g_0 ⊢
    refine jT_ifT (a := q1) (t := 31) (by rfl) (by rfl) (by rfl) (jw_idd (by omega) (by omega)) (by simp only [jcP] <;> omega) ?_
    refine jT_xaload_n (v := (4, 0)) (pcN := 32) jIQ_210_31 rfl rfl rfl ?_
    refine jT_xaload_n (v := (4, 1)) (pcN := 33) jIQ_210_32 rfl rfl rfl ?_
    refine jT_xlload (v := (1, N)) (pcN := 35) jIQ_210_33 rfl rfl rfl ?_
    refine jT_xlconst (z := 1) (pcN := 36) jIQ_210_35 rfl rfl ?_
    refine jT_xladd (x := N) (y := 1) (z := N + 1) (pcN := 37) jIQ_210_36 rfl (rfl) rfl ?_
    refine jT_xlload_n (v := (1, 2)) (pcN := 38) jIQ_210_37 rfl rfl rfl ?_
    refine jT_xlmul (x := N + 1) (y := 2) (z := 2 * N + 2) (pcN := 39) jIQ_210_38 rfl (by omega) rfl ?_
    refine jT_callA [0, 1, 2, 3, 4, 5, 6, 7, 8, 9, 10, 11, 12, 13, 14, 15, 16, 17, 18, 19, 20, 21, 22] (y := 212) (pcN := 42) (dC := 4) (bc1 := 20) (bc2 := 1070) (c1 := 20) (c2 := 1070) (as := [(4, 0), (4, 1), (1, 2 * N + 2)]) (asC := [(4, 0), (4, 1), (1, 2 * N + 2)]) (LN := [(4, (1, N)), (0, (4, 0)), (1, (4, 1)), (2, (1, 2))]) (stN := []) (hsC := [jzQ_371, (101, [], [1, 0, 2 * x4, 0, 0, 0]), jgh, jgh, jgh, jgh, jgh, (130, [], [17, 18, 19, 20, 21, 22]), jgh, jgh, jgh, jgh, jgh, jgh, jgh, jgh, jgh, (100, [], (jenc (jlg 0))), (100, [], (jenc (jlg 1))), (100, [], (jenc (jlg 2))), (100, [], (jenc (jlg 3))), (100, [], (jenc (jlg 4))), (100, [], (jenc (jlg 5)))]) (ex := []) (v := (0, (jlz ((-2) * N - 1) 0 (2 * x4) 0 0 0).sign)) (st2 := [(0, (jlz ((-2) * N - 1) 0 (2 * x4) 0 0 0).sign)]) (hs2 := [jzQ_371, (101, [], [1, 0, 2 * x4, 0, 0, 0]), jgh, jgh, jgh, jgh, jgh, (130, [], [17, 18, 19, 20, 21, 22]), jgh, jgh, jgh, jgh, jgh, jgh, jgh, jgh, jgh, (100, [], (jenc (jlg 0))), (100, [], (jenc (jlg 1))), (100, [], (jenc (jlg 2))), (100, [], (jenc (jlg 3))), (100, [], (jenc (jlg 4))), (100, [], (jenc (jlg 5)))]) (jQ_212_287 (d := 0) (by omega) (by omega) (by omega)) (by rfl) (by rfl) (by rfl) (by rfl) ⟨rfl, rfl, rfl, rfl, rfl, rfl, rfl, rfl, rfl, rfl, rfl, rfl, rfl, rfl, rfl, rfl, rfl, rfl, rfl, rfl, rfl, rfl, rfl, trivial⟩ (by rfl) (by rfl) (by omega) (by show 23 ≤ 23; omega) (by omega) (by omega) rfl rfl ?_
    have hb_q2 := jsgn_b (jlz ((-2) * N - 1) 0 (2 * x4) 0 0 0)
    generalize hq_q2 : (jlz ((-2) * N - 1) 0 (2 * x4) 0 0 0).sign = q2 at hb_q2 g_1 ⊢
    refine jT_ifT (a := q2) (t := 54) (by rfl) (by rfl) (by rfl) (jw_idd (by omega) (by omega)) (by simp only [jcP] <;> omega) ?_
    refine jT_xlload (v := (1, N)) (pcN := 56) jIQ_210_54 rfl rfl rfl ?_
    exact jT_ret rfl (by decide) (by show 23 ≤ 23; decide) (by omega) (by omega) ⟨rfl, rfl, rfl⟩
theorem jQl_ps_292 {xs : List Int} {d : Nat} {x4 : Int} (h_x4 : 1 ≤ x4 ∧ x4 ≤ 100) : jT xs (d + 5) 210 23 0 [(0, (4, 0)), (1, (4, 1)), (2, (1, 2))] [] [jzQ_371, (101, [], [1, 0, 2 * x4, 0, 0, 0]), jgh, jgh, jgh, jgh, jgh, (130, [], [17, 18, 19, 20, 21, 22]), jgh, jgh, jgh, jgh, jgh, jgh, jgh, jgh, jgh, (100, [], (jenc (jlg 0))), (100, [], (jenc (jlg 1))), (100, [], (jenc (jlg 2))), (100, [], (jenc (jlg 3))), (100, [], (jenc (jlg 4))), (100, [], (jenc (jlg 5)))] 60 3210 (fun k v hsN => k = 0 ∧ v = (1, jbp2 x4) ∧ hsN = [jzQ_371, (101, [], [1, 0, 2 * x4, 0, 0, 0]), jgh, jgh, jgh, jgh, jgh, (130, [], [17, 18, 19, 20, 21, 22]), jgh, jgh, jgh, jgh, jgh, jgh, jgh, jgh, jgh, (100, [], (jenc (jlg 0))), (100, [], (jenc (jlg 1))), (100, [], (jenc (jlg 2))), (100, [], (jenc (jlg 3))), (100, [], (jenc (jlg 4))), (100, [], (jenc (jlg 5)))]) := by
  obtain ⟨d1, d2, d3, d4, d5, d6, d7, d8, fd1, fd2, fd3, fd4, fd5, fd6, fd7, fd8, h1, h2, h3, hA, hB⟩ := jbx_2 (p := x4) (by omega)
  exact jQl_pc_285 (by omega) fd1 fd2 fd3 fd4 fd5 fd6 fd7 fd8 h3 h1 h2 hA hB
theorem jQ_216_293 {xs : List Int} {d : Nat} {x4 : Int} (h_x4 : 1 ≤ x4 ∧ x4 ≤ 100) : jT xs (d + 6) 216 23 0 [(0, (4, 0)), (1, (4, 1)), (2, (1, 1))] [] [jzQ_371, (101, [], [0, 0, x4, 0, 0, 0]), jgh, jgh, jgh, jgh, jgh, (130, [], [17, 18, 19, 20, 21, 22]), jgh, jgh, jgh, jgh, jgh, jgh, jgh, jgh, jgh, (100, [], (jenc (jlg 0))), (100, [], (jenc (jlg 1))), (100, [], (jenc (jlg 2))), (100, [], (jenc (jlg 3))), (100, [], (jenc (jlg 4))), (100, [], (jenc (jlg 5)))] 61 3216 (fun k v hsN => k = 0 ∧ v = (1, jbp2 x4) ∧ hsN = [jzQ_371, (101, [], [0, 0, x4, 0, 0, 0]), jgh, jgh, jgh, jgh, jgh, (130, [], [17, 18, 19, 20, 21, 22]), jgh, jgh, jgh, jgh, jgh, jgh, jgh, jgh, jgh, (100, [], (jenc (jlg 0))), (100, [], (jenc (jlg 1))), (100, [], (jenc (jlg 2))), (100, [], (jenc (jlg 3))), (100, [], (jenc (jlg 4))), (100, [], (jenc (jlg 5)))] ++ []) := by
  refine jT_xbipush (k := 6) (pcN := 2) jIQ_216_0 (by decide) rfl ?_
  refine jT_adv 1 (pcN := 4) (LN := [(0, (4, 0)), (1, (4, 1)), (2, (1, 1))]) (stN := [(4, 23)]) (hsN := [jzQ_371, (101, [], [0, 0, x4, 0, 0, 0]), jgh, jgh, jgh, jgh, jgh, (130, [], [17, 18, 19, 20, 21, 22]), jgh, jgh, jgh, jgh, jgh, jgh, jgh, jgh, jgh, (100, [], (jenc (jlg 0))), (100, [], (jenc (jlg 1))), (100, [], (jenc (jlg 2))), (100, [], (jenc (jlg 3))), (100, [], (jenc (jlg 4))), (100, [], (jenc (jlg 5))), (101, [], [0, 0, 0, 0, 0, 0])]) (c1 := 1) (s1 := 6) (c2 := 60) (s2 := 3210) (by exact rfl) ?_ (by omega) (by omega)
  refine jT_xastore (v := (4, 23)) (LN := [(4, (4, 23)), (0, (4, 0)), (1, (4, 1)), (2, (1, 1))]) (pcN := 6) jIQ_216_4 rfl rfl rfl rfl ?_
  refine jT_xiconst (k := 0) (pcN := 7) jIQ_216_6 rfl ?_
  refine jT_xistore (v := (0, 0)) (LN := [(5, (0, 0)), (4, (4, 23)), (0, (4, 0)), (1, (4, 1)), (2, (1, 1))]) (pcN := 9) jIQ_216_7 rfl rfl rfl rfl ?_
  refine jT_xiload (v := (0, 0)) (pcN := 11) jIQ_216_9 rfl rfl rfl ?_
  refine jT_xbipush (k := 6) (pcN := 13) jIQ_216_11 (by decide) rfl ?_
  refine jT_xicF (t := 35) (pcN := 16) jIQ_216_13 rfl (by decide +kernel) rfl rfl ?_
  refine jT_xaload (v := (4, 23)) (pcN := 18) jIQ_216_16 rfl rfl rfl ?_
  refine jT_xiload (v := (0, 0)) (pcN := 20) jIQ_216_18 rfl rfl rfl ?_
  refine jT_adv 1 (pcN := 23) (LN := [(5, (0, 0)), (4, (4, 23)), (0, (4, 0)), (1, (4, 1)), (2, (1, 1))]) (stN := [(1, 2), (0, 0), (4, 23)]) (hsN := [jzQ_371, (101, [], [0, 0, x4, 0, 0, 0]), jgh, jgh, jgh, jgh, jgh, (130, [], [17, 18, 19, 20, 21, 22]), jgh, jgh, jgh, jgh, jgh, jgh, jgh, jgh, jgh, (100, [], (jenc (jlg 0))), (100, [], (jenc (jlg 1))), (100, [], (jenc (jlg 2))), (100, [], (jenc (jlg 3))), (100, [], (jenc (jlg 4))), (100, [], (jenc (jlg 5))), (101, [], [0, 0, 0, 0, 0, 0])]) (c1 := 0) (s1 := 0) (c2 := 60) (s2 := 3210) (by exact rfl) ?_ (by omega) (by omega)
  refine jT_xaload_n (v := (4, 1)) (pcN := 24) jIQ_216_23 rfl rfl rfl ?_
  refine jT_xiload (v := (0, 0)) (pcN := 26) jIQ_216_24 rfl rfl rfl ?_
  refine jT_lald (x := 0) (a := 1) (j := 0) (fs := []) (X := [0, 0, x4, 0, 0, 0]) jIQ_216_26 rfl rfl rfl rfl ?_
  refine jT_eq (LN := [(5, (0, 0)), (4, (4, 23)), (0, (4, 0)), (1, (4, 1)), (2, (1, 1))]) (stN := [(1, 0), (1, 2), (0, 0), (4, 23)]) (hsN := [jzQ_371, (101, [], [0, 0, x4, 0, 0, 0]), jgh, jgh, jgh, jgh, jgh, (130, [], [17, 18, 19, 20, 21, 22]), jgh, jgh, jgh, jgh, jgh, jgh, jgh, jgh, jgh, (100, [], (jenc (jlg 0))), (100, [], (jenc (jlg 1))), (100, [], (jenc (jlg 2))), (100, [], (jenc (jlg 3))), (100, [], (jenc (jlg 4))), (100, [], (jenc (jlg 5))), (101, [], [0, 0, 0, 0, 0, 0])]) rfl rfl rfl ?_
  refine jT_xlmul (x := 2) (y := 0) (z := 0) (pcN := 28) jIQ_216_27 rfl (by decide) rfl ?_
  refine jT_adv 1 (pcN := 29) (LN := [(5, (0, 0)), (4, (4, 23)), (0, (4, 0)), (1, (4, 1)), (2, (1, 1))]) (stN := []) (hsN := [jzQ_371, (101, [], [0, 0, x4, 0, 0, 0]), jgh, jgh, jgh, jgh, jgh, (130, [], [17, 18, 19, 20, 21, 22]), jgh, jgh, jgh, jgh, jgh, jgh, jgh, jgh, jgh, (100, [], (jenc (jlg 0))), (100, [], (jenc (jlg 1))), (100, [], (jenc (jlg 2))), (100, [], (jenc (jlg 3))), (100, [], (jenc (jlg 4))), (100, [], (jenc (jlg 5))), (101, [], [0, 0, 0, 0, 0, 0])]) (c1 := 0) (s1 := 0) (c2 := 60) (s2 := 3210) (by exact rfl) ?_ (by omega) (by omega)
  refine jT_xiinc (x := 0) (z := 1) (LN := [(5, (0, 1)), (4, (4, 23)), (0, (4, 0)), (1, (4, 1)), (2, (1, 1))]) (pcN := 32) jIQ_216_29 rfl rfl (by decide) rfl rfl ?_
  refine jT_xgoto (pcN := 9) jIQ_216_32 rfl ?_
  refine jT_xiload (v := (0, 1)) (pcN := 11) jIQ_216_9 rfl rfl rfl ?_
  refine jT_xbipush (k := 6) (pcN := 13) jIQ_216_11 (by decide) rfl ?_
  refine jT_xicF (t := 35) (pcN := 16) jIQ_216_13 rfl (by decide +kernel) rfl rfl ?_
  refine jT_xaload (v := (4, 23)) (pcN := 18) jIQ_216_16 rfl rfl rfl ?_
  refine jT_xiload (v := (0, 1)) (pcN := 20) jIQ_216_18 rfl rfl rfl ?_
  refine jT_adv 1 (pcN := 23) (LN := [(5, (0, 1)), (4, (4, 23)), (0, (4, 0)), (1, (4, 1)), (2, (1, 1))]) (stN := [(1, 2), (0, 1), (4, 23)]) (hsN := [jzQ_371, (101, [], [0, 0, x4, 0, 0, 0]), jgh, jgh, jgh, jgh, jgh, (130, [], [17, 18, 19, 20, 21, 22]), jgh, jgh, jgh, jgh, jgh, jgh, jgh, jgh, jgh, (100, [], (jenc (jlg 0))), (100, [], (jenc (jlg 1))), (100, [], (jenc (jlg 2))), (100, [], (jenc (jlg 3))), (100, [], (jenc (jlg 4))), (100, [], (jenc (jlg 5))), (101, [], [0, 0, 0, 0, 0, 0])]) (c1 := 0) (s1 := 0) (c2 := 60) (s2 := 3210) (by exact rfl) ?_ (by omega) (by omega)
  refine jT_xaload_n (v := (4, 1)) (pcN := 24) jIQ_216_23 rfl rfl rfl ?_
  refine jT_xiload (v := (0, 1)) (pcN := 26) jIQ_216_24 rfl rfl rfl ?_
  refine jT_lald (x := 0) (a := 1) (j := 1) (fs := []) (X := [0, 0, x4, 0, 0, 0]) jIQ_216_26 rfl rfl rfl rfl ?_
  refine jT_eq (LN := [(5, (0, 1)), (4, (4, 23)), (0, (4, 0)), (1, (4, 1)), (2, (1, 1))]) (stN := [(1, 0), (1, 2), (0, 1), (4, 23)]) (hsN := [jzQ_371, (101, [], [0, 0, x4, 0, 0, 0]), jgh, jgh, jgh, jgh, jgh, (130, [], [17, 18, 19, 20, 21, 22]), jgh, jgh, jgh, jgh, jgh, jgh, jgh, jgh, jgh, (100, [], (jenc (jlg 0))), (100, [], (jenc (jlg 1))), (100, [], (jenc (jlg 2))), (100, [], (jenc (jlg 3))), (100, [], (jenc (jlg 4))), (100, [], (jenc (jlg 5))), (101, [], [0, 0, 0, 0, 0, 0])]) rfl rfl rfl ?_
  refine jT_xlmul (x := 2) (y := 0) (z := 0) (pcN := 28) jIQ_216_27 rfl (by decide) rfl ?_
  refine jT_adv 1 (pcN := 29) (LN := [(5, (0, 1)), (4, (4, 23)), (0, (4, 0)), (1, (4, 1)), (2, (1, 1))]) (stN := []) (hsN := [jzQ_371, (101, [], [0, 0, x4, 0, 0, 0]), jgh, jgh, jgh, jgh, jgh, (130, [], [17, 18, 19, 20, 21, 22]), jgh, jgh, jgh, jgh, jgh, jgh, jgh, jgh, jgh, (100, [], (jenc (jlg 0))), (100, [], (jenc (jlg 1))), (100, [], (jenc (jlg 2))), (100, [], (jenc (jlg 3))), (100, [], (jenc (jlg 4))), (100, [], (jenc (jlg 5))), (101, [], [0, 0, 0, 0, 0, 0])]) (c1 := 0) (s1 := 0) (c2 := 60) (s2 := 3210) (by exact rfl) ?_ (by omega) (by omega)
  refine jT_xiinc (x := 1) (z := 2) (LN := [(5, (0, 2)), (4, (4, 23)), (0, (4, 0)), (1, (4, 1)), (2, (1, 1))]) (pcN := 32) jIQ_216_29 rfl rfl (by decide) rfl rfl ?_
  refine jT_xgoto (pcN := 9) jIQ_216_32 rfl ?_
  refine jT_xiload (v := (0, 2)) (pcN := 11) jIQ_216_9 rfl rfl rfl ?_
  refine jT_xbipush (k := 6) (pcN := 13) jIQ_216_11 (by decide) rfl ?_
  refine jT_xicF (t := 35) (pcN := 16) jIQ_216_13 rfl (by decide +kernel) rfl rfl ?_
  refine jT_xaload (v := (4, 23)) (pcN := 18) jIQ_216_16 rfl rfl rfl ?_
  refine jT_xiload (v := (0, 2)) (pcN := 20) jIQ_216_18 rfl rfl rfl ?_
  refine jT_adv 1 (pcN := 23) (LN := [(5, (0, 2)), (4, (4, 23)), (0, (4, 0)), (1, (4, 1)), (2, (1, 1))]) (stN := [(1, 2), (0, 2), (4, 23)]) (hsN := [jzQ_371, (101, [], [0, 0, x4, 0, 0, 0]), jgh, jgh, jgh, jgh, jgh, (130, [], [17, 18, 19, 20, 21, 22]), jgh, jgh, jgh, jgh, jgh, jgh, jgh, jgh, jgh, (100, [], (jenc (jlg 0))), (100, [], (jenc (jlg 1))), (100, [], (jenc (jlg 2))), (100, [], (jenc (jlg 3))), (100, [], (jenc (jlg 4))), (100, [], (jenc (jlg 5))), (101, [], [0, 0, 0, 0, 0, 0])]) (c1 := 0) (s1 := 0) (c2 := 60) (s2 := 3210) (by exact rfl) ?_ (by omega) (by omega)
  refine jT_xaload_n (v := (4, 1)) (pcN := 24) jIQ_216_23 rfl rfl rfl ?_
  refine jT_xiload (v := (0, 2)) (pcN := 26) jIQ_216_24 rfl rfl rfl ?_
  refine jT_lald (x := x4) (a := 1) (j := 2) (fs := []) (X := [0, 0, x4, 0, 0, 0]) jIQ_216_26 rfl rfl rfl rfl ?_
  refine jT_eq (LN := [(5, (0, 2)), (4, (4, 23)), (0, (4, 0)), (1, (4, 1)), (2, (1, 1))]) (stN := [(1, x4), (1, 2), (0, 2), (4, 23)]) (hsN := [jzQ_371, (101, [], [0, 0, x4, 0, 0, 0]), jgh, jgh, jgh, jgh, jgh, (130, [], [17, 18, 19, 20, 21, 22]), jgh, jgh, jgh, jgh, jgh, jgh, jgh, jgh, jgh, (100, [], (jenc (jlg 0))), (100, [], (jenc (jlg 1))), (100, [], (jenc (jlg 2))), (100, [], (jenc (jlg 3))), (100, [], (jenc (jlg 4))), (100, [], (jenc (jlg 5))), (101, [], [0, 0, 0, 0, 0, 0])]) rfl rfl rfl ?_
  refine jT_xlmul (x := 2) (y := x4) (z := 2 * x4) (pcN := 28) jIQ_216_27 rfl (rfl) rfl ?_
  refine jT_adv 1 (pcN := 29) (LN := [(5, (0, 2)), (4, (4, 23)), (0, (4, 0)), (1, (4, 1)), (2, (1, 1))]) (stN := []) (hsN := [jzQ_371, (101, [], [0, 0, x4, 0, 0, 0]), jgh, jgh, jgh, jgh, jgh, (130, [], [17, 18, 19, 20, 21, 22]), jgh, jgh, jgh, jgh, jgh, jgh, jgh, jgh, jgh, (100, [], (jenc (jlg 0))), (100, [], (jenc (jlg 1))), (100, [], (jenc (jlg 2))), (100, [], (jenc (jlg 3))), (100, [], (jenc (jlg 4))), (100, [], (jenc (jlg 5))), (101, [], [0, 0, 2 * x4, 0, 0, 0])]) (c1 := 0) (s1 := 0) (c2 := 60) (s2 := 3210) (by exact rfl) ?_ (by omega) (by omega)
  refine jT_xiinc (x := 2) (z := 3) (LN := [(5, (0, 3)), (4, (4, 23)), (0, (4, 0)), (1, (4, 1)), (2, (1, 1))]) (pcN := 32) jIQ_216_29 rfl rfl (by decide) rfl rfl ?_
  refine jT_xgoto (pcN := 9) jIQ_216_32 rfl ?_
  refine jT_xiload (v := (0, 3)) (pcN := 11) jIQ_216_9 rfl rfl rfl ?_
  refine jT_xbipush (k := 6) (pcN := 13) jIQ_216_11 (by decide) rfl ?_
  refine jT_xicF (t := 35) (pcN := 16) jIQ_216_13 rfl (by decide +kernel) rfl rfl ?_
  refine jT_xaload (v := (4, 23)) (pcN := 18) jIQ_216_16 rfl rfl rfl ?_
  refine jT_xiload (v := (0, 3)) (pcN := 20) jIQ_216_18 rfl rfl rfl ?_
  refine jT_adv 1 (pcN := 23) (LN := [(5, (0, 3)), (4, (4, 23)), (0, (4, 0)), (1, (4, 1)), (2, (1, 1))]) (stN := [(1, 2), (0, 3), (4, 23)]) (hsN := [jzQ_371, (101, [], [0, 0, x4, 0, 0, 0]), jgh, jgh, jgh, jgh, jgh, (130, [], [17, 18, 19, 20, 21, 22]), jgh, jgh, jgh, jgh, jgh, jgh, jgh, jgh, jgh, (100, [], (jenc (jlg 0))), (100, [], (jenc (jlg 1))), (100, [], (jenc (jlg 2))), (100, [], (jenc (jlg 3))), (100, [], (jenc (jlg 4))), (100, [], (jenc (jlg 5))), (101, [], [0, 0, 2 * x4, 0, 0, 0])]) (c1 := 0) (s1 := 0) (c2 := 60) (s2 := 3210) (by exact rfl) ?_ (by omega) (by omega)
  refine jT_xaload_n (v := (4, 1)) (pcN := 24) jIQ_216_23 rfl rfl rfl ?_
  refine jT_xiload (v := (0, 3)) (pcN := 26) jIQ_216_24 rfl rfl rfl ?_
  refine jT_lald (x := 0) (a := 1) (j := 3) (fs := []) (X := [0, 0, x4, 0, 0, 0]) jIQ_216_26 rfl rfl rfl rfl ?_
  refine jT_eq (LN := [(5, (0, 3)), (4, (4, 23)), (0, (4, 0)), (1, (4, 1)), (2, (1, 1))]) (stN := [(1, 0), (1, 2), (0, 3), (4, 23)]) (hsN := [jzQ_371, (101, [], [0, 0, x4, 0, 0, 0]), jgh, jgh, jgh, jgh, jgh, (130, [], [17, 18, 19, 20, 21, 22]), jgh, jgh, jgh, jgh, jgh, jgh, jgh, jgh, jgh, (100, [], (jenc (jlg 0))), (100, [], (jenc (jlg 1))), (100, [], (jenc (jlg 2))), (100, [], (jenc (jlg 3))), (100, [], (jenc (jlg 4))), (100, [], (jenc (jlg 5))), (101, [], [0, 0, 2 * x4, 0, 0, 0])]) rfl rfl rfl ?_
  refine jT_xlmul (x := 2) (y := 0) (z := 0) (pcN := 28) jIQ_216_27 rfl (by decide) rfl ?_
  refine jT_adv 1 (pcN := 29) (LN := [(5, (0, 3)), (4, (4, 23)), (0, (4, 0)), (1, (4, 1)), (2, (1, 1))]) (stN := []) (hsN := [jzQ_371, (101, [], [0, 0, x4, 0, 0, 0]), jgh, jgh, jgh, jgh, jgh, (130, [], [17, 18, 19, 20, 21, 22]), jgh, jgh, jgh, jgh, jgh, jgh, jgh, jgh, jgh, (100, [], (jenc (jlg 0))), (100, [], (jenc (jlg 1))), (100, [], (jenc (jlg 2))), (100, [], (jenc (jlg 3))), (100, [], (jenc (jlg 4))), (100, [], (jenc (jlg 5))), (101, [], [0, 0, 2 * x4, 0, 0, 0])]) (c1 := 0) (s1 := 0) (c2 := 60) (s2 := 3210) (by exact rfl) ?_ (by omega) (by omega)
  refine jT_xiinc (x := 3) (z := 4) (LN := [(5, (0, 4)), (4, (4, 23)), (0, (4, 0)), (1, (4, 1)), (2, (1, 1))]) (pcN := 32) jIQ_216_29 rfl rfl (by decide) rfl rfl ?_
  refine jT_xgoto (pcN := 9) jIQ_216_32 rfl ?_
  refine jT_xiload (v := (0, 4)) (pcN := 11) jIQ_216_9 rfl rfl rfl ?_
  refine jT_xbipush (k := 6) (pcN := 13) jIQ_216_11 (by decide) rfl ?_
  refine jT_xicF (t := 35) (pcN := 16) jIQ_216_13 rfl (by decide +kernel) rfl rfl ?_
  refine jT_xaload (v := (4, 23)) (pcN := 18) jIQ_216_16 rfl rfl rfl ?_
  refine jT_xiload (v := (0, 4)) (pcN := 20) jIQ_216_18 rfl rfl rfl ?_
  refine jT_adv 1 (pcN := 23) (LN := [(5, (0, 4)), (4, (4, 23)), (0, (4, 0)), (1, (4, 1)), (2, (1, 1))]) (stN := [(1, 2), (0, 4), (4, 23)]) (hsN := [jzQ_371, (101, [], [0, 0, x4, 0, 0, 0]), jgh, jgh, jgh, jgh, jgh, (130, [], [17, 18, 19, 20, 21, 22]), jgh, jgh, jgh, jgh, jgh, jgh, jgh, jgh, jgh, (100, [], (jenc (jlg 0))), (100, [], (jenc (jlg 1))), (100, [], (jenc (jlg 2))), (100, [], (jenc (jlg 3))), (100, [], (jenc (jlg 4))), (100, [], (jenc (jlg 5))), (101, [], [0, 0, 2 * x4, 0, 0, 0])]) (c1 := 0) (s1 := 0) (c2 := 60) (s2 := 3210) (by exact rfl) ?_ (by omega) (by omega)
  refine jT_xaload_n (v := (4, 1)) (pcN := 24) jIQ_216_23 rfl rfl rfl ?_
  refine jT_xiload (v := (0, 4)) (pcN := 26) jIQ_216_24 rfl rfl rfl ?_
  refine jT_lald (x := 0) (a := 1) (j := 4) (fs := []) (X := [0, 0, x4, 0, 0, 0]) jIQ_216_26 rfl rfl rfl rfl ?_
  refine jT_eq (LN := [(5, (0, 4)), (4, (4, 23)), (0, (4, 0)), (1, (4, 1)), (2, (1, 1))]) (stN := [(1, 0), (1, 2), (0, 4), (4, 23)]) (hsN := [jzQ_371, (101, [], [0, 0, x4, 0, 0, 0]), jgh, jgh, jgh, jgh, jgh, (130, [], [17, 18, 19, 20, 21, 22]), jgh, jgh, jgh, jgh, jgh, jgh, jgh, jgh, jgh, (100, [], (jenc (jlg 0))), (100, [], (jenc (jlg 1))), (100, [], (jenc (jlg 2))), (100, [], (jenc (jlg 3))), (100, [], (jenc (jlg 4))), (100, [], (jenc (jlg 5))), (101, [], [0, 0, 2 * x4, 0, 0, 0])]) rfl rfl rfl ?_
  refine jT_xlmul (x := 2) (y := 0) (z := 0) (pcN := 28) jIQ_216_27 rfl (by decide) rfl ?_
  refine jT_adv 1 (pcN := 29) (LN := [(5, (0, 4)), (4, (4, 23)), (0, (4, 0)), (1, (4, 1)), (2, (1, 1))]) (stN := []) (hsN := [jzQ_371, (101, [], [0, 0, x4, 0, 0, 0]), jgh, jgh, jgh, jgh, jgh, (130, [], [17, 18, 19, 20, 21, 22]), jgh, jgh, jgh, jgh, jgh, jgh, jgh, jgh, jgh, (100, [], (jenc (jlg 0))), (100, [], (jenc (jlg 1))), (100, [], (jenc (jlg 2))), (100, [], (jenc (jlg 3))), (100, [], (jenc (jlg 4))), (100, [], (jenc (jlg 5))), (101, [], [0, 0, 2 * x4, 0, 0, 0])]) (c1 := 0) (s1 := 0) (c2 := 60) (s2 := 3210) (by exact rfl) ?_ (by omega) (by omega)
  refine jT_xiinc (x := 4) (z := 5) (LN := [(5, (0, 5)), (4, (4, 23)), (0, (4, 0)), (1, (4, 1)), (2, (1, 1))]) (pcN := 32) jIQ_216_29 rfl rfl (by decide) rfl rfl ?_
  refine jT_xgoto (pcN := 9) jIQ_216_32 rfl ?_
  refine jT_xiload (v := (0, 5)) (pcN := 11) jIQ_216_9 rfl rfl rfl ?_
  refine jT_xbipush (k := 6) (pcN := 13) jIQ_216_11 (by decide) rfl ?_
  refine jT_xicF (t := 35) (pcN := 16) jIQ_216_13 rfl (by decide +kernel) rfl rfl ?_
  refine jT_xaload (v := (4, 23)) (pcN := 18) jIQ_216_16 rfl rfl rfl ?_
  refine jT_xiload (v := (0, 5)) (pcN := 20) jIQ_216_18 rfl rfl rfl ?_
  refine jT_adv 1 (pcN := 23) (LN := [(5, (0, 5)), (4, (4, 23)), (0, (4, 0)), (1, (4, 1)), (2, (1, 1))]) (stN := [(1, 2), (0, 5), (4, 23)]) (hsN := [jzQ_371, (101, [], [0, 0, x4, 0, 0, 0]), jgh, jgh, jgh, jgh, jgh, (130, [], [17, 18, 19, 20, 21, 22]), jgh, jgh, jgh, jgh, jgh, jgh, jgh, jgh, jgh, (100, [], (jenc (jlg 0))), (100, [], (jenc (jlg 1))), (100, [], (jenc (jlg 2))), (100, [], (jenc (jlg 3))), (100, [], (jenc (jlg 4))), (100, [], (jenc (jlg 5))), (101, [], [0, 0, 2 * x4, 0, 0, 0])]) (c1 := 0) (s1 := 0) (c2 := 60) (s2 := 3210) (by exact rfl) ?_ (by omega) (by omega)
  refine jT_xaload_n (v := (4, 1)) (pcN := 24) jIQ_216_23 rfl rfl rfl ?_
  refine jT_xiload (v := (0, 5)) (pcN := 26) jIQ_216_24 rfl rfl rfl ?_
  refine jT_lald (x := 0) (a := 1) (j := 5) (fs := []) (X := [0, 0, x4, 0, 0, 0]) jIQ_216_26 rfl rfl rfl rfl ?_
  refine jT_eq (LN := [(5, (0, 5)), (4, (4, 23)), (0, (4, 0)), (1, (4, 1)), (2, (1, 1))]) (stN := [(1, 0), (1, 2), (0, 5), (4, 23)]) (hsN := [jzQ_371, (101, [], [0, 0, x4, 0, 0, 0]), jgh, jgh, jgh, jgh, jgh, (130, [], [17, 18, 19, 20, 21, 22]), jgh, jgh, jgh, jgh, jgh, jgh, jgh, jgh, jgh, (100, [], (jenc (jlg 0))), (100, [], (jenc (jlg 1))), (100, [], (jenc (jlg 2))), (100, [], (jenc (jlg 3))), (100, [], (jenc (jlg 4))), (100, [], (jenc (jlg 5))), (101, [], [0, 0, 2 * x4, 0, 0, 0])]) rfl rfl rfl ?_
  refine jT_xlmul (x := 2) (y := 0) (z := 0) (pcN := 28) jIQ_216_27 rfl (by decide) rfl ?_
  refine jT_adv 1 (pcN := 29) (LN := [(5, (0, 5)), (4, (4, 23)), (0, (4, 0)), (1, (4, 1)), (2, (1, 1))]) (stN := []) (hsN := [jzQ_371, (101, [], [0, 0, x4, 0, 0, 0]), jgh, jgh, jgh, jgh, jgh, (130, [], [17, 18, 19, 20, 21, 22]), jgh, jgh, jgh, jgh, jgh, jgh, jgh, jgh, jgh, (100, [], (jenc (jlg 0))), (100, [], (jenc (jlg 1))), (100, [], (jenc (jlg 2))), (100, [], (jenc (jlg 3))), (100, [], (jenc (jlg 4))), (100, [], (jenc (jlg 5))), (101, [], [0, 0, 2 * x4, 0, 0, 0])]) (c1 := 0) (s1 := 0) (c2 := 60) (s2 := 3210) (by exact rfl) ?_ (by omega) (by omega)
  refine jT_xiinc (x := 5) (z := 6) (LN := [(5, (0, 6)), (4, (4, 23)), (0, (4, 0)), (1, (4, 1)), (2, (1, 1))]) (pcN := 32) jIQ_216_29 rfl rfl (by decide) rfl rfl ?_
  refine jT_xgoto (pcN := 9) jIQ_216_32 rfl ?_
  refine jT_xiload (v := (0, 6)) (pcN := 11) jIQ_216_9 rfl rfl rfl ?_
  refine jT_xbipush (k := 6) (pcN := 13) jIQ_216_11 (by decide) rfl ?_
  refine jT_xicT (pcN := 35) jIQ_216_13 rfl (by decide +kernel) rfl ?_
  refine jT_xaload (v := (4, 23)) (pcN := 37) jIQ_216_35 rfl rfl rfl ?_
  refine jT_xiconst (k := 0) (pcN := 38) jIQ_216_37 rfl ?_
  refine jT_adv 1 (pcN := 39) (LN := [(5, (0, 6)), (4, (4, 23)), (0, (4, 0)), (1, (4, 1)), (2, (1, 1))]) (stN := [(0, 0), (4, 23), (0, 0), (4, 23)]) (hsN := [jzQ_371, (101, [], [0, 0, x4, 0, 0, 0]), jgh, jgh, jgh, jgh, jgh, (130, [], [17, 18, 19, 20, 21, 22]), jgh, jgh, jgh, jgh, jgh, jgh, jgh, jgh, jgh, (100, [], (jenc (jlg 0))), (100, [], (jenc (jlg 1))), (100, [], (jenc (jlg 2))), (100, [], (jenc (jlg 3))), (100, [], (jenc (jlg 4))), (100, [], (jenc (jlg 5))), (101, [], [0, 0, 2 * x4, 0, 0, 0])]) (c1 := 0) (s1 := 0) (c2 := 60) (s2 := 3210) (by exact rfl) ?_ (by omega) (by omega)
  refine jT_lald (x := 0) (a := 23) (j := 0) (fs := []) (X := [0, 0, 2 * x4, 0, 0, 0]) jIQ_216_39 rfl rfl rfl rfl ?_
  refine jT_eq (LN := [(5, (0, 6)), (4, (4, 23)), (0, (4, 0)), (1, (4, 1)), (2, (1, 1))]) (stN := [(1, 0), (0, 0), (4, 23)]) (hsN := [jzQ_371, (101, [], [0, 0, x4, 0, 0, 0]), jgh, jgh, jgh, jgh, jgh, (130, [], [17, 18, 19, 20, 21, 22]), jgh, jgh, jgh, jgh, jgh, jgh, jgh, jgh, jgh, (100, [], (jenc (jlg 0))), (100, [], (jenc (jlg 1))), (100, [], (jenc (jlg 2))), (100, [], (jenc (jlg 3))), (100, [], (jenc (jlg 4))), (100, [], (jenc (jlg 5))), (101, [], [0, 0, 2 * x4, 0, 0, 0])]) rfl rfl rfl ?_
  refine jT_xlload_n (v := (1, 1)) (pcN := 41) jIQ_216_40 rfl rfl rfl ?_
  refine jT_xladd (x := 0) (y := 1) (z := 1) (pcN := 42) jIQ_216_41 rfl (by decide) rfl ?_
  refine jT_adv 1 (pcN := 43) (LN := [(5, (0, 6)), (4, (4, 23)), (0, (4, 0)), (1, (4, 1)), (2, (1, 1))]) (stN := []) (hsN := [jzQ_371, (101, [], [0, 0, x4, 0, 0, 0]), jgh, jgh, jgh, jgh, jgh, (130, [], [17, 18, 19, 20, 21, 22]), jgh, jgh, jgh, jgh, jgh, jgh, jgh, jgh, jgh, (100, [], (jenc (jlg 0))), (100, [], (jenc (jlg 1))), (100, [], (jenc (jlg 2))), (100, [], (jenc (jlg 3))), (100, [], (jenc (jlg 4))), (100, [], (jenc (jlg 5))), (101, [], [1, 0, 2 * x4, 0, 0, 0])]) (c1 := 0) (s1 := 0) (c2 := 60) (s2 := 3210) (by exact rfl) ?_ (by omega) (by omega)
  refine jT_xaload_n (v := (4, 0)) (pcN := 44) jIQ_216_43 rfl rfl rfl ?_
  refine jT_xaload (v := (4, 23)) (pcN := 46) jIQ_216_44 rfl rfl rfl ?_
  refine jT_adv 1 (pcN := 49) (LN := [(5, (0, 6)), (4, (4, 23)), (0, (4, 0)), (1, (4, 1)), (2, (1, 1))]) (stN := [(1, 2), (4, 23), (4, 0)]) (hsN := [jzQ_371, (101, [], [0, 0, x4, 0, 0, 0]), jgh, jgh, jgh, jgh, jgh, (130, [], [17, 18, 19, 20, 21, 22]), jgh, jgh, jgh, jgh, jgh, jgh, jgh, jgh, jgh, (100, [], (jenc (jlg 0))), (100, [], (jenc (jlg 1))), (100, [], (jenc (jlg 2))), (100, [], (jenc (jlg 3))), (100, [], (jenc (jlg 4))), (100, [], (jenc (jlg 5))), (101, [], [1, 0, 2 * x4, 0, 0, 0])]) (c1 := 0) (s1 := 0) (c2 := 60) (s2 := 3210) (by exact rfl) ?_ (by omega) (by omega)
  refine jT_xlload_n (v := (1, 1)) (pcN := 50) jIQ_216_49 rfl rfl rfl ?_
  refine jT_xlmul (x := 2) (y := 1) (z := 2) (pcN := 51) jIQ_216_50 rfl (by decide) rfl ?_
  refine jT_callA [0, 23, 2, 3, 4, 5, 6, 7, 8, 9, 10, 11, 12, 13, 14, 15, 16, 17, 18, 19, 20, 21, 22] (y := 210) (pcN := 54) (dC := 5) (bc1 := 60) (bc2 := 3210) (c1 := 0) (c2 := 0) (as := [(4, 0), (4, 23), (1, 2)]) (asC := [(4, 0), (4, 1), (1, 2)]) (LN := [(5, (0, 6)), (4, (4, 23)), (0, (4, 0)), (1, (4, 1)), (2, (1, 1))]) (stN := []) (hsC := [jzQ_371, (101, [], [1, 0, 2 * x4, 0, 0, 0]), jgh, jgh, jgh, jgh, jgh, (130, [], [17, 18, 19, 20, 21, 22]), jgh, jgh, jgh, jgh, jgh, jgh, jgh, jgh, jgh, (100, [], (jenc (jlg 0))), (100, [], (jenc (jlg 1))), (100, [], (jenc (jlg 2))), (100, [], (jenc (jlg 3))), (100, [], (jenc (jlg 4))), (100, [], (jenc (jlg 5)))]) (ex := []) (v := (1, jbp2 x4)) (st2 := [(1, jbp2 x4)]) (hs2 := [jzQ_371, (101, [], [0, 0, x4, 0, 0, 0]), jgh, jgh, jgh, jgh, jgh, (130, [], [17, 18, 19, 20, 21, 22]), jgh, jgh, jgh, jgh, jgh, jgh, jgh, jgh, jgh, (100, [], (jenc (jlg 0))), (100, [], (jenc (jlg 1))), (100, [], (jenc (jlg 2))), (100, [], (jenc (jlg 3))), (100, [], (jenc (jlg 4))), (100, [], (jenc (jlg 5))), (101, [], [1, 0, 2 * x4, 0, 0, 0])]) (jQl_ps_292 (d := 0) (by omega)) (by rfl) (by rfl) (by rfl) (by rfl) ⟨rfl, rfl, rfl, rfl, rfl, rfl, rfl, rfl, rfl, rfl, rfl, rfl, rfl, rfl, rfl, rfl, rfl, rfl, rfl, rfl, rfl, rfl, rfl, trivial⟩ (by rfl) (by rfl) (by omega) (by show 23 ≤ 24; omega) (by omega) (by omega) rfl rfl ?_
  have hb_q1 := jbp_b2 (p := x4) (by omega)
  generalize hq_q1 : jbp2 x4 = q1 at hb_q1 ⊢
  refine jT_loc (LN := [(5, (0, 6))]) (by show List.Nodup [5]; decide) (by intro q hq; simp only [List.mem_cons, List.not_mem_nil, or_false] at hq; rcases hq with rfl <;> rfl) ?_
  refine jT_drop 23 (hs0 := [jzQ_371, (101, [], [0, 0, x4, 0, 0, 0]), jgh, jgh, jgh, jgh, jgh, (130, [], [17, 18, 19, 20, 21, 22]), jgh, jgh, jgh, jgh, jgh, jgh, jgh, jgh, jgh, (100, [], (jenc (jlg 0))), (100, [], (jenc (jlg 1))), (100, [], (jenc (jlg 2))), (100, [], (jenc (jlg 3))), (100, [], (jenc (jlg 4))), (100, [], (jenc (jlg 5)))]) (ex := [(101, [], [1, 0, 2 * x4, 0, 0, 0])]) rfl rfl rfl (by decide) ?_
  subst hq_q1
  exact jT_ret rfl (by decide) (by show 23 ≤ 23; omega) (by omega) (by omega) ⟨rfl, rfl, rfl⟩
theorem jQ_297_294 {xs : List Int} {d : Nat} {x4 : Int} (h_x4 : 1 ≤ x4 ∧ x4 ≤ 100) : jT xs (d + 7) 297 22 0 [(0, (4, 0)), (1, (0, x4)), (2, (0, 2))] [] jpQ_730 62 3222 (fun k v hsN => k = 0 ∧ v = (0, jbp2 x4) ∧ hsN = jpQ_730 ++ []) := by
  refine jT_xbipush (k := 6) (pcN := 2) jIQ_297_0 (by decide) rfl ?_
  refine jT_adv 1 (pcN := 4) (LN := [(0, (4, 0)), (1, (0, x4)), (2, (0, 2))]) (stN := [(4, 22)]) (hsN := jpQ_720) (c1 := 1) (s1 := 6) (c2 := 61) (s2 := 3216) (by exact rfl) ?_ (by omega) (by omega)
  refine jT_xastore_n (v := (4, 22)) (LN := [(3, (4, 22)), (0, (4, 0)), (1, (0, x4)), (2, (0, 2))]) (pcN := 5) jIQ_297_4 rfl rfl rfl rfl ?_
  refine jT_xaload_n (v := (4, 22)) (pcN := 6) jIQ_297_5 rfl rfl rfl ?_
  refine jT_xiload_n (v := (0, 2)) (pcN := 7) jIQ_297_6 rfl rfl rfl ?_
  refine jT_xiload_n (v := (0, x4)) (pcN := 8) jIQ_297_7 rfl rfl rfl ?_
  refine jT_xi2l (x := x4) (z := x4) (pcN := 9) jIQ_297_8 rfl (jw_idd (by omega) (by omega)) rfl ?_
  refine jT_adv 1 (pcN := 10) (LN := [(3, (4, 22)), (0, (4, 0)), (1, (0, x4)), (2, (0, 2))]) (stN := []) (hsN := [jzQ_20, jgh, jgh, jgh, jgh, jgh, (130, [], [16, 17, 18, 19, 20, 21]), jgh, jgh, jgh, jgh, jgh, jgh, jgh, jgh, jgh, (100, [], (jenc (jlg 0))), (100, [], (jenc (jlg 1))), (100, [], (jenc (jlg 2))), (100, [], (jenc (jlg 3))), (100, [], (jenc (jlg 4))), (100, [], (jenc (jlg 5))), (101, [], [0, 0, x4, 0, 0, 0])]) (c1 := 0) (s1 := 0) (c2 := 61) (s2 := 3216) (by exact rfl) ?_ (by omega) (by omega)
  refine jT_xaload_n (v := (4, 0)) (pcN := 11) jIQ_297_10 rfl rfl rfl ?_
  refine jT_xaload_n (v := (4, 22)) (pcN := 12) jIQ_297_11 rfl rfl rfl ?_
  refine jT_xlconst (z := 1) (pcN := 13) jIQ_297_12 rfl rfl ?_
  refine jT_callA [0, 22, 1, 2, 3, 4, 5, 6, 7, 8, 9, 10, 11, 12, 13, 14, 15, 16, 17, 18, 19, 20, 21] (y := 216) (pcN := 16) (dC := 6) (bc1 := 61) (bc2 := 3216) (c1 := 0) (c2 := 0) (as := [(4, 0), (4, 22), (1, 1)]) (asC := [(4, 0), (4, 1), (1, 1)]) (LN := [(3, (4, 22)), (0, (4, 0)), (1, (0, x4)), (2, (0, 2))]) (stN := []) (hsC := [jzQ_371, (101, [], [0, 0, x4, 0, 0, 0]), jgh, jgh, jgh, jgh, jgh, (130, [], [17, 18, 19, 20, 21, 22]), jgh, jgh, jgh, jgh, jgh, jgh, jgh, jgh, jgh, (100, [], (jenc (jlg 0))), (100, [], (jenc (jlg 1))), (100, [], (jenc (jlg 2))), (100, [], (jenc (jlg 3))), (100, [], (jenc (jlg 4))), (100, [], (jenc (jlg 5)))]) (ex := []) (v := (1, jbp2 x4)) (st2 := [(1, jbp2 x4)]) (hs2 := [jzQ_20, jgh, jgh, jgh, jgh, jgh, (130, [], [16, 17, 18, 19, 20, 21]), jgh, jgh, jgh, jgh, jgh, jgh, jgh, jgh, jgh, (100, [], (jenc (jlg 0))), (100, [], (jenc (jlg 1))), (100, [], (jenc (jlg 2))), (100, [], (jenc (jlg 3))), (100, [], (jenc (jlg 4))), (100, [], (jenc (jlg 5))), (101, [], [0, 0, x4, 0, 0, 0])]) (jQ_216_293 (d := 0) (by omega)) (by rfl) (by rfl) (by rfl) (by rfl) ⟨rfl, rfl, rfl, rfl, rfl, rfl, rfl, rfl, rfl, rfl, rfl, rfl, rfl, rfl, rfl, rfl, rfl, rfl, rfl, rfl, rfl, rfl, rfl, trivial⟩ (by rfl) (by rfl) (by omega) (by show 22 ≤ 23; omega) (by omega) (by omega) rfl rfl ?_
  have hb_q1 := jbp_b2 (p := x4) (by omega)
  generalize hq_q1 : jbp2 x4 = q1 at hb_q1 ⊢
  refine jT_xl2i (pcN := 17) jIQ_297_16 rfl rfl ?_
  refine jT_loc (LN := [(0, (4, 0))]) (by show List.Nodup [0]; decide) (by intro q hq; simp only [List.mem_cons, List.not_mem_nil, or_false] at hq; rcases hq with rfl <;> rfl) ?_
  refine jT_drop 22 (hs0 := jpQ_730) (ex := [(101, [], [0, 0, x4, 0, 0, 0])]) rfl rfl rfl (by decide) ?_
  subst hq_q1
  exact jT_ret rfl (by decide) (by show 22 ≤ 22; omega) (by omega) (by omega) ⟨rfl, rfl, rfl⟩
theorem jIQ_298_123 : jmI (jm 298) 123 = (.aload 5, 2) := by rfl
theorem jIQ_298_125 : jmI (jm 298) 125 = (.iload 6, 2) := by rfl
theorem jIQ_298_127 : jmI (jm 298) 127 = (.aload_n 0, 1) := by rfl
theorem jIQ_298_128 : jmI (jm 298) 128 = (.iload 4, 2) := by rfl
theorem jIQ_298_130 : jmI (jm 298) 130 = (.iload 6, 2) := by rfl
theorem jIQ_298_136 : jmI (jm 298) 136 = (.iinc 6 1, 3) := by rfl
theorem jIQ_298_139 : jmI (jm 298) 139 = (.goto (-27), 3) := by rfl
theorem jQl_gc_296 {xs : List Int} {d b1 b2 : Nat} {Q : Nat → JV → List JC → Prop} (hd : 8 < d) {y1 y2 r7 o3 k26_0 k26_1 k26_2 : Int} (h_y1 : 0 ≤ y1 ∧ y1 ≤ 20) (h_y2 : 0 ≤ y2 ∧ y2 ≤ 10) (h_r7 : (-20) ≤ r7 ∧ r7 ≤ 20) (h_o3 : 0 ≤ o3 ∧ o3 ≤ 7) (h_k26_0 : 1 ≤ k26_0 ∧ k26_0 ≤ 4001) (h_k26_1 : 1 ≤ k26_1 ∧ k26_1 ≤ 4001) (h_k26_2 : 1 ≤ k26_2 ∧ k26_2 ≤ 4001) (h : ∀ (u7_0 u7_1 u7_2 u7_3 u7_4 u7_5 : Int), jT xs d 298 22 205 [(7, (0, r7)), (6, (0, 0)), (5, (4, 26)), (0, (4, 0)), (1, (0, y1)), (2, (0, y2)), (3, (0, o3))] [] [jzQ_20, (100, [], jS0), jgh, jgh, jgh, jgh, (130, [], [16, 17, 18, 19, 20, 21]), (101, [], [u7_0, u7_1, u7_2, u7_3, u7_4, u7_5]), jgh, jgh, jgh, jgh, jgh, jgh, jgh, jgh, (100, [], (jenc (jlg 0))), (100, [], (jenc (jlg 1))), (100, [], (jenc (jlg 2))), (100, [], (jenc (jlg 3))), (100, [], (jenc (jlg 4))), (100, [], (jenc (jlg 5))), (101, [], [(-1), 0, 0, 0, 0, 0]), (100, [], (jenc 0)), (100, [], (jenc (-1))), (100, [], (jenc ((-1) * (jlg 0)))), (100, [], [k26_0, k26_1, k26_2])] b1 b2 Q) : ∀ (q : Nat) (r8 u7_0 u7_1 u7_2 u7_3 u7_4 u7_5 : Int), -y2 ≤ r8 → r8 + (q : Int) = y2 + 1 → jT xs d 298 22 159 [(8, (0, r8)), (7, (0, r7)), (6, (0, 0)), (5, (4, 26)), (0, (4, 0)), (1, (0, y1)), (2, (0, y2)), (3, (0, o3))] [] [jzQ_20, (100, [], jS0), jgh, jgh, jgh, jgh, (130, [], [16, 17, 18, 19, 20, 21]), (101, [], [u7_0, u7_1, u7_2, u7_3, u7_4, u7_5]), jgh, jgh, jgh, jgh, jgh, jgh, jgh, jgh, (100, [], (jenc (jlg 0))), (100, [], (jenc (jlg 1))), (100, [], (jenc (jlg 2))), (100, [], (jenc (jlg 3))), (100, [], (jenc (jlg 4))), (100, [], (jenc (jlg 5))), (101, [], [(-1), 0, 0, 0, 0, 0]), (100, [], (jenc 0)), (100, [], (jenc (-1))), (100, [], (jenc ((-1) * (jlg 0)))), (100, [], [k26_0, k26_1, k26_2])] (b1 + 80 * q) (b2 + 4280 * q) Q := by
  intro q
  induction q with
  | zero =>
    intro r8 u7_0 u7_1 u7_2 u7_3 u7_4 u7_5 h0 ht
    have e : r8 = y2 + 1 := by omega
    subst r8
    refine jT.mono (b1 := b1) (b2 := b2) ?_ (Nat.le_refl _) (by omega) (by omega) (fun _ _ _ z => z)
    refine jT_xiload (v := (0, y2 + 1)) (pcN := 161) jIQ_298_159 rfl rfl rfl ?_
    refine jT_xiload_n (v := (0, y2)) (pcN := 162) jIQ_298_161 rfl rfl rfl ?_
    refine jT_icT (a := y2 + 1) (b := y2) (t := 205) (by rfl) (by rfl) (by rfl) (jw_idd (by omega) (by omega)) (jw_idd (by omega) (by omega)) (by simp only [jcP] <;> omega) ?_
    refine jT_loc (LN := [(7, (0, r7)), (6, (0, 0)), (5, (4, 26)), (0, (4, 0)), (1, (0, y1)), (2, (0, y2)), (3, (0, o3))]) (by show List.Nodup [7, 6, 5, 0, 1, 2, 3]; decide) (by intro q hq; simp only [List.mem_cons, List.not_mem_nil, or_false] at hq; rcases hq with rfl | rfl | rfl | rfl | rfl | rfl | rfl <;> rfl) ?_
    exact h u7_0 u7_1 u7_2 u7_3 u7_4 u7_5
  | succ q ih =>
    intro r8 u7_0 u7_1 u7_2 u7_3 u7_4 u7_5 h0 ht
    have h_r8 : (-10) ≤ r8 ∧ r8 ≤ 10 := by omega
    have g_0 : r8 - y2 ≤ 0 := by omega
    refine jT.mono (b1 := b1 + 80 * q + 80) (b2 := b2 + 4280 * q + 4280) ?_ (Nat.le_refl _) (by omega) (by omega) (fun _ _ _ z => z)
    rcases (show (r7 < 0) ∨ (0 ≤ r7 ∧ r7 ≤ 0) ∨ (0 < r7) by omega) with g_1 | ⟨g_1, g_2⟩ | g_1
    · refine jT_xiload (v := (0, r8)) (pcN := 161) jIQ_298_159 rfl rfl rfl ?_
      refine jT_xiload_n (v := (0, y2)) (pcN := 162) jIQ_298_161 rfl rfl rfl ?_
      refine jT_icF (a := r8) (b := y2) (t := 205) (by rfl) (by rfl) (by rfl) (jw_idd (by omega) (by omega)) (jw_idd (by omega) (by omega)) (by simp only [jcP] <;> omega) ?_
      refine jT_xiload (v := (0, 0)) (pcN := 167) jIQ_298_165 rfl rfl rfl ?_
      refine jT_xiload (v := (0, r7)) (pcN := 169) jIQ_298_167 rfl rfl rfl ?_
      refine jT_ifT (a := r7) (t := 177) (by rfl) (by rfl) (by rfl) (jw_idd (by omega) (by omega)) (by simp only [jcP] <;> omega) ?_
      refine jT_xaload_n (v := (4, 0)) (pcN := 178) jIQ_298_177 rfl rfl rfl ?_
      refine jT_xiload (v := (0, r7)) (pcN := 180) jIQ_298_178 rfl rfl rfl ?_
      refine jT_xiload (v := (0, r8)) (pcN := 182) jIQ_298_180 rfl rfl rfl ?_
      refine jT_xiload_n (v := (0, o3)) (pcN := 183) jIQ_298_182 rfl rfl rfl ?_
      refine jT_xaload (v := (4, 26)) (pcN := 185) jIQ_298_183 rfl rfl rfl ?_
      refine jT_callB [0, 26, 1, 2, 3, 4, 5, 6, 7, 8, 9, 10, 11, 12, 13, 14, 15, 16, 17, 18, 19, 20, 21] (y := 299) (pcN := 188) (dC := 7) (bc1 := 80) (bc2 := 4280) (c1 := (b1 + 80 * q + 0)) (c2 := (b2 + 4280 * q + 0)) (as := [(4, 0), (0, r7), (0, r8), (0, o3), (4, 26)]) (asC := [(4, 0), (0, r7), (0, r8), (0, o3), (4, 1)]) (LN := [(8, (0, r8)), (7, (0, r7)), (6, (0, 0)), (5, (4, 26)), (0, (4, 0)), (1, (0, y1)), (2, (0, y2)), (3, (0, o3))]) (stN := [(0, 0)]) (hsC := [jzQ_371, jgh, (100, [], jS0), jgh, jgh, jgh, jgh, (130, [], [17, 18, 19, 20, 21, 22]), (101, [], [u7_0, u7_1, u7_2, u7_3, u7_4, u7_5]), jgh, jgh, jgh, jgh, jgh, jgh, jgh, jgh, (100, [], (jenc (jlg 0))), (100, [], (jenc (jlg 1))), (100, [], (jenc (jlg 2))), (100, [], (jenc (jlg 3))), (100, [], (jenc (jlg 4))), (100, [], (jenc (jlg 5)))]) (hsD := [jzQ_371, jgh, (100, [], jS0), jgh, jgh, jgh, jgh, (130, [], [17, 18, 19, 20, 21, 22]), (101, [], [-(jkn r7 r8), r7, r8, 0, 0, 0]), jgh, jgh, jgh, jgh, jgh, jgh, jgh, jgh, (100, [], (jenc (jlg 0))), (100, [], (jenc (jlg 1))), (100, [], (jenc (jlg 2))), (100, [], (jenc (jlg 3))), (100, [], (jenc (jlg 4))), (100, [], (jenc (jlg 5))), (101, [], [-(jkn r7 r8), r7, r8, 0, 0, 0])]) (v := (0, 0)) (st2 := [(0, 0), (0, 0)]) (hs2 := [jzQ_20, (100, [], jS0), jgh, jgh, jgh, jgh, (130, [], [16, 17, 18, 19, 20, 21]), (101, [], [-(jkn r7 r8), r7, r8, 0, 0, 0]), jgh, jgh, jgh, jgh, jgh, jgh, jgh, jgh, (100, [], (jenc (jlg 0))), (100, [], (jenc (jlg 1))), (100, [], (jenc (jlg 2))), (100, [], (jenc (jlg 3))), (100, [], (jenc (jlg 4))), (100, [], (jenc (jlg 5))), (101, [], [(-1), 0, 0, 0, 0, 0]), (100, [], (jenc 0)), (100, [], (jenc (-1))), (100, [], (jenc ((-1) * (jlg 0)))), (100, [], [k26_0, k26_1, k26_2]), (101, [], [-(jkn r7 r8), r7, r8, 0, 0, 0])]) (jQ_299_186 (d := 0) (by omega) (by omega) (by omega) (by omega)) (by rfl) (by rfl) (by rfl) (by rfl) ⟨rfl, rfl, rfl, rfl, rfl, rfl, rfl, rfl, rfl, rfl, rfl, rfl, rfl, rfl, rfl, rfl, rfl, rfl, rfl, rfl, rfl, rfl, rfl, trivial⟩ (by rfl) (by rfl) (by omega) (by show 22 ≤ 27; omega) (by omega) (by omega) rfl rfl ?_
      have hb_q1 := jkn_b (b := r7) (c := r8) (by omega) (by omega)
      generalize hq_q1 : jkn r7 r8 = q1 at hb_q1 ⊢
      refine jT_eq (LN := [(8, (0, r8)), (7, (0, r7)), (6, (0, 0)), (5, (4, 26)), (0, (4, 0)), (1, (0, y1)), (2, (0, y2)), (3, (0, o3))]) (stN := [(0, 0), (0, 0)]) (hsN := [jzQ_20, (100, [], jS0), jgh, jgh, jgh, jgh, (130, [], [16, 17, 18, 19, 20, 21]), (101, [], [-q1, r7, r8, 0, 0, 0]), jgh, jgh, jgh, jgh, jgh, jgh, jgh, jgh, (100, [], (jenc (jlg 0))), (100, [], (jenc (jlg 1))), (100, [], (jenc (jlg 2))), (100, [], (jenc (jlg 3))), (100, [], (jenc (jlg 4))), (100, [], (jenc (jlg 5))), (101, [], [(-1), 0, 0, 0, 0, 0]), (100, [], (jenc 0)), (100, [], (jenc (-1))), (100, [], (jenc ((-1) * (jlg 0)))), (100, [], [k26_0, k26_1, k26_2]), (101, [], [-q1, r7, r8, 0, 0, 0])]) (rfl) (rfl) (by simp only [List.cons.injEq, Prod.mk.injEq, and_true, true_and] <;> ((try unfold jw); (try unfold jwl); omega)) ?_
      refine jT_xifT (pcN := 195) jIQ_298_188 rfl (by decide +kernel) rfl ?_
      refine jT_xiconst (k := 0) (pcN := 196) jIQ_298_195 rfl ?_
      refine jT_xiadd (x := 0) (y := 0) (z := 0) (pcN := 197) jIQ_298_196 rfl (by decide) rfl ?_
      refine jT_xistore (v := (0, 0)) (LN := [(6, (0, 0)), (8, (0, r8)), (7, (0, r7)), (5, (4, 26)), (0, (4, 0)), (1, (0, y1)), (2, (0, y2)), (3, (0, o3))]) (pcN := 199) jIQ_298_197 rfl rfl rfl rfl ?_
      refine jT_xiinc (x := r8) (z := r8 + 1) (LN := [(8, (0, r8 + 1)), (6, (0, 0)), (7, (0, r7)), (5, (4, 26)), (0, (4, 0)), (1, (0, y1)), (2, (0, y2)), (3, (0, o3))]) (pcN := 202) jIQ_298_199 rfl rfl (rfl) rfl rfl ?_
      refine jT_xgoto (pcN := 159) jIQ_298_202 rfl ?_
      refine jT_loc (LN := [(8, (0, r8 + 1)), (7, (0, r7)), (6, (0, 0)), (5, (4, 26)), (0, (4, 0)), (1, (0, y1)), (2, (0, y2)), (3, (0, o3))]) (by show List.Nodup [8, 7, 6, 5, 0, 1, 2, 3]; decide) (by intro q hq; simp only [List.mem_cons, List.not_mem_nil, or_false] at hq; rcases hq with rfl | rfl | rfl | rfl | rfl | rfl | rfl | rfl <;> rfl) ?_
      refine jT_drop 27 (hs0 := [jzQ_20, (100, [], jS0), jgh, jgh, jgh, jgh, (130, [], [16, 17, 18, 19, 20, 21]), (101, [], [-q1, r7, r8, 0, 0, 0]), jgh, jgh, jgh, jgh, jgh, jgh, jgh, jgh, (100, [], (jenc (jlg 0))), (100, [], (jenc (jlg 1))), (100, [], (jenc (jlg 2))), (100, [], (jenc (jlg 3))), (100, [], (jenc (jlg 4))), (100, [], (jenc (jlg 5))), (101, [], [(-1), 0, 0, 0, 0, 0]), (100, [], (jenc 0)), (100, [], (jenc (-1))), (100, [], (jenc ((-1) * (jlg 0)))), (100, [], [k26_0, k26_1, k26_2])]) (ex := [(101, [], [-q1, r7, r8, 0, 0, 0])]) rfl rfl rfl (by decide) ?_
      exact ih (r8 + 1) (-q1) r7 r8 0 0 0 (by omega) (by omega)
    · rcases (show (r8 < 0) ∨ (0 ≤ r8 ∧ r8 ≤ 0) ∨ (0 < r8) by omega) with g_3 | ⟨g_3, g_4⟩ | g_3
      · refine jT_xiload (v := (0, r8)) (pcN := 161) jIQ_298_159 rfl rfl rfl ?_
        refine jT_xiload_n (v := (0, y2)) (pcN := 162) jIQ_298_161 rfl rfl rfl ?_
        refine jT_icF (a := r8) (b := y2) (t := 205) (by rfl) (by rfl) (by rfl) (jw_idd (by omega) (by omega)) (jw_idd (by omega) (by omega)) (by simp only [jcP] <;> omega) ?_
        refine jT_xiload (v := (0, 0)) (pcN := 167) jIQ_298_165 rfl rfl rfl ?_
        refine jT_xiload (v := (0, r7)) (pcN := 169) jIQ_298_167 rfl rfl rfl ?_
        refine jT_ifF (a := r7) (t := 177) (by rfl) (by rfl) (by rfl) (jw_idd (by omega) (by omega)) (by simp only [jcP] <;> omega) ?_
        refine jT_xiload (v := (0, r8)) (pcN := 174) jIQ_298_172 rfl rfl rfl ?_
        refine jT_ifF (a := r8) (t := 195) (by rfl) (by rfl) (by rfl) (jw_idd (by omega) (by omega)) (by simp only [jcP] <;> omega) ?_
        refine jT_xaload_n (v := (4, 0)) (pcN := 178) jIQ_298_177 rfl rfl rfl ?_
        refine jT_xiload (v := (0, r7)) (pcN := 180) jIQ_298_178 rfl rfl rfl ?_
        refine jT_xiload (v := (0, r8)) (pcN := 182) jIQ_298_180 rfl rfl rfl ?_
        refine jT_xiload_n (v := (0, o3)) (pcN := 183) jIQ_298_182 rfl rfl rfl ?_
        refine jT_xaload (v := (4, 26)) (pcN := 185) jIQ_298_183 rfl rfl rfl ?_
        refine jT_callB [0, 26, 1, 2, 3, 4, 5, 6, 7, 8, 9, 10, 11, 12, 13, 14, 15, 16, 17, 18, 19, 20, 21] (y := 299) (pcN := 188) (dC := 7) (bc1 := 80) (bc2 := 4280) (c1 := (b1 + 80 * q + 0)) (c2 := (b2 + 4280 * q + 0)) (as := [(4, 0), (0, r7), (0, r8), (0, o3), (4, 26)]) (asC := [(4, 0), (0, r7), (0, r8), (0, o3), (4, 1)]) (LN := [(8, (0, r8)), (7, (0, r7)), (6, (0, 0)), (5, (4, 26)), (0, (4, 0)), (1, (0, y1)), (2, (0, y2)), (3, (0, o3))]) (stN := [(0, 0)]) (hsC := [jzQ_371, jgh, (100, [], jS0), jgh, jgh, jgh, jgh, (130, [], [17, 18, 19, 20, 21, 22]), (101, [], [u7_0, u7_1, u7_2, u7_3, u7_4, u7_5]), jgh, jgh, jgh, jgh, jgh, jgh, jgh, jgh, (100, [], (jenc (jlg 0))), (100, [], (jenc (jlg 1))), (100, [], (jenc (jlg 2))), (100, [], (jenc (jlg 3))), (100, [], (jenc (jlg 4))), (100, [], (jenc (jlg 5)))]) (hsD := [jzQ_371, jgh, (100, [], jS0), jgh, jgh, jgh, jgh, (130, [], [17, 18, 19, 20, 21, 22]), (101, [], [-(jkn r7 r8), r7, r8, 0, 0, 0]), jgh, jgh, jgh, jgh, jgh, jgh, jgh, jgh, (100, [], (jenc (jlg 0))), (100, [], (jenc (jlg 1))), (100, [], (jenc (jlg 2))), (100, [], (jenc (jlg 3))), (100, [], (jenc (jlg 4))), (100, [], (jenc (jlg 5))), (101, [], [-(jkn r7 r8), r7, r8, 0, 0, 0])]) (v := (0, 0)) (st2 := [(0, 0), (0, 0)]) (hs2 := [jzQ_20, (100, [], jS0), jgh, jgh, jgh, jgh, (130, [], [16, 17, 18, 19, 20, 21]), (101, [], [-(jkn r7 r8), r7, r8, 0, 0, 0]), jgh, jgh, jgh, jgh, jgh, jgh, jgh, jgh, (100, [], (jenc (jlg 0))), (100, [], (jenc (jlg 1))), (100, [], (jenc (jlg 2))), (100, [], (jenc (jlg 3))), (100, [], (jenc (jlg 4))), (100, [], (jenc (jlg 5))), (101, [], [(-1), 0, 0, 0, 0, 0]), (100, [], (jenc 0)), (100, [], (jenc (-1))), (100, [], (jenc ((-1) * (jlg 0)))), (100, [], [k26_0, k26_1, k26_2]), (101, [], [-(jkn r7 r8), r7, r8, 0, 0, 0])]) (jQ_299_185 (d := 0) (by omega) (by omega) (by omega) (by omega) (by omega) (by omega)) (by rfl) (by rfl) (by rfl) (by rfl) ⟨rfl, rfl, rfl, rfl, rfl, rfl, rfl, rfl, rfl, rfl, rfl, rfl, rfl, rfl, rfl, rfl, rfl, rfl, rfl, rfl, rfl, rfl, rfl, trivial⟩ (by rfl) (by rfl) (by omega) (by show 22 ≤ 27; omega) (by omega) (by omega) rfl rfl ?_
        have hb_q1 := jkn_b (b := r7) (c := r8) (by omega) (by omega)
        generalize hq_q1 : jkn r7 r8 = q1 at hb_q1 ⊢
        refine jT_eq (LN := [(8, (0, r8)), (7, (0, r7)), (6, (0, 0)), (5, (4, 26)), (0, (4, 0)), (1, (0, y1)), (2, (0, y2)), (3, (0, o3))]) (stN := [(0, 0), (0, 0)]) (hsN := [jzQ_20, (100, [], jS0), jgh, jgh, jgh, jgh, (130, [], [16, 17, 18, 19, 20, 21]), (101, [], [-q1, r7, r8, 0, 0, 0]), jgh, jgh, jgh, jgh, jgh, jgh, jgh, jgh, (100, [], (jenc (jlg 0))), (100, [], (jenc (jlg 1))), (100, [], (jenc (jlg 2))), (100, [], (jenc (jlg 3))), (100, [], (jenc (jlg 4))), (100, [], (jenc (jlg 5))), (101, [], [(-1), 0, 0, 0, 0, 0]), (100, [], (jenc 0)), (100, [], (jenc (-1))), (100, [], (jenc ((-1) * (jlg 0)))), (100, [], [k26_0, k26_1, k26_2]), (101, [], [-q1, r7, r8, 0, 0, 0])]) (rfl) (rfl) (by simp only [List.cons.injEq, Prod.mk.injEq, and_true, true_and] <;> ((try unfold jw); (try unfold jwl); omega)) ?_
        refine jT_xifT (pcN := 195) jIQ_298_188 rfl (by decide +kernel) rfl ?_
        refine jT_xiconst (k := 0) (pcN := 196) jIQ_298_195 rfl ?_
        refine jT_xiadd (x := 0) (y := 0) (z := 0) (pcN := 197) jIQ_298_196 rfl (by decide) rfl ?_
        refine jT_xistore (v := (0, 0)) (LN := [(6, (0, 0)), (8, (0, r8)), (7, (0, r7)), (5, (4, 26)), (0, (4, 0)), (1, (0, y1)), (2, (0, y2)), (3, (0, o3))]) (pcN := 199) jIQ_298_197 rfl rfl rfl rfl ?_
        refine jT_xiinc (x := r8) (z := r8 + 1) (LN := [(8, (0, r8 + 1)), (6, (0, 0)), (7, (0, r7)), (5, (4, 26)), (0, (4, 0)), (1, (0, y1)), (2, (0, y2)), (3, (0, o3))]) (pcN := 202) jIQ_298_199 rfl rfl (rfl) rfl rfl ?_
        refine jT_xgoto (pcN := 159) jIQ_298_202 rfl ?_
        refine jT_loc (LN := [(8, (0, r8 + 1)), (7, (0, r7)), (6, (0, 0)), (5, (4, 26)), (0, (4, 0)), (1, (0, y1)), (2, (0, y2)), (3, (0, o3))]) (by show List.Nodup [8, 7, 6, 5, 0, 1, 2, 3]; decide) (by intro q hq; simp only [List.mem_cons, List.not_mem_nil, or_false] at hq; rcases hq with rfl | rfl | rfl | rfl | rfl | rfl | rfl | rfl <;> rfl) ?_
        refine jT_drop 27 (hs0 := [jzQ_20, (100, [], jS0), jgh, jgh, jgh, jgh, (130, [], [16, 17, 18, 19, 20, 21]), (101, [], [-q1, r7, r8, 0, 0, 0]), jgh, jgh, jgh, jgh, jgh, jgh, jgh, jgh, (100, [], (jenc (jlg 0))), (100, [], (jenc (jlg 1))), (100, [], (jenc (jlg 2))), (100, [], (jenc (jlg 3))), (100, [], (jenc (jlg 4))), (100, [], (jenc (jlg 5))), (101, [], [(-1), 0, 0, 0, 0, 0]), (100, [], (jenc 0)), (100, [], (jenc (-1))), (100, [], (jenc ((-1) * (jlg 0)))), (100, [], [k26_0, k26_1, k26_2])]) (ex := [(101, [], [-q1, r7, r8, 0, 0, 0])]) rfl rfl rfl (by decide) ?_
        exact ih (r8 + 1) (-q1) r7 r8 0 0 0 (by omega) (by omega)
      · refine jT_xiload (v := (0, r8)) (pcN := 161) jIQ_298_159 rfl rfl rfl ?_
        refine jT_xiload_n (v := (0, y2)) (pcN := 162) jIQ_298_161 rfl rfl rfl ?_
        refine jT_icF (a := r8) (b := y2) (t := 205) (by rfl) (by rfl) (by rfl) (jw_idd (by omega) (by omega)) (jw_idd (by omega) (by omega)) (by simp only [jcP] <;> omega) ?_
        refine jT_xiload (v := (0, 0)) (pcN := 167) jIQ_298_165 rfl rfl rfl ?_
        refine jT_xiload (v := (0, r7)) (pcN := 169) jIQ_298_167 rfl rfl rfl ?_
        refine jT_ifF (a := r7) (t := 177) (by rfl) (by rfl) (by rfl) (jw_idd (by omega) (by omega)) (by simp only [jcP] <;> omega) ?_
        refine jT_xiload (v := (0, r8)) (pcN := 174) jIQ_298_172 rfl rfl rfl ?_
        refine jT_ifT (a := r8) (t := 195) (by rfl) (by rfl) (by rfl) (jw_idd (by omega) (by omega)) (by simp only [jcP] <;> omega) ?_
        refine jT_xiconst (k := 0) (pcN := 196) jIQ_298_195 rfl ?_
        refine jT_xiadd (x := 0) (y := 0) (z := 0) (pcN := 197) jIQ_298_196 rfl (by decide) rfl ?_
        refine jT_xistore (v := (0, 0)) (LN := [(6, (0, 0)), (8, (0, r8)), (7, (0, r7)), (5, (4, 26)), (0, (4, 0)), (1, (0, y1)), (2, (0, y2)), (3, (0, o3))]) (pcN := 199) jIQ_298_197 rfl rfl rfl rfl ?_
        refine jT_xiinc (x := r8) (z := r8 + 1) (LN := [(8, (0, r8 + 1)), (6, (0, 0)), (7, (0, r7)), (5, (4, 26)), (0, (4, 0)), (1, (0, y1)), (2, (0, y2)), (3, (0, o3))]) (pcN := 202) jIQ_298_199 rfl rfl (rfl) rfl rfl ?_
        refine jT_xgoto (pcN := 159) jIQ_298_202 rfl ?_
        refine jT_loc (LN := [(8, (0, r8 + 1)), (7, (0, r7)), (6, (0, 0)), (5, (4, 26)), (0, (4, 0)), (1, (0, y1)), (2, (0, y2)), (3, (0, o3))]) (by show List.Nodup [8, 7, 6, 5, 0, 1, 2, 3]; decide) (by intro q hq; simp only [List.mem_cons, List.not_mem_nil, or_false] at hq; rcases hq with rfl | rfl | rfl | rfl | rfl | rfl | rfl | rfl <;> rfl) ?_
        exact jT.mono (ih (r8 + 1) u7_0 u7_1 u7_2 u7_3 u7_4 u7_5 (by omega) (by omega)) (Nat.le_refl _) (by omega) (by omega) (fun _ _ _ z => z)
      · refine jT_xiload (v := (0, r8)) (pcN := 161) jIQ_298_159 rfl rfl rfl ?_
        refine jT_xiload_n (v := (0, y2)) (pcN := 162) jIQ_298_161 rfl rfl rfl ?_
        refine jT_icF (a := r8) (b := y2) (t := 205) (by rfl) (by rfl) (by rfl) (jw_idd (by omega) (by omega)) (jw_idd (by omega) (by omega)) (by simp only [jcP] <;> omega) ?_
        refine jT_xiload (v := (0, 0)) (pcN := 167) jIQ_298_165 rfl rfl rfl ?_
        refine jT_xiload (v := (0, r7)) (pcN := 169) jIQ_298_167 rfl rfl rfl ?_
        refine jT_ifF (a := r7) (t := 177) (by rfl) (by rfl) (by rfl) (jw_idd (by omega) (by omega)) (by simp only [jcP] <;> omega) ?_
        refine jT_xiload (v := (0, r8)) (pcN := 174) jIQ_298_172 rfl rfl rfl ?_
        refine jT_ifF (a := r8) (t := 195) (by rfl) (by rfl) (by rfl) (jw_idd (by omega) (by omega)) (by simp only [jcP] <;> omega) ?_
        refine jT_xaload_n (v := (4, 0)) (pcN := 178) jIQ_298_177 rfl rfl rfl ?_
        refine jT_xiload (v := (0, r7)) (pcN := 180) jIQ_298_178 rfl rfl rfl ?_
        refine jT_xiload (v := (0, r8)) (pcN := 182) jIQ_298_180 rfl rfl rfl ?_
        refine jT_xiload_n (v := (0, o3)) (pcN := 183) jIQ_298_182 rfl rfl rfl ?_
        refine jT_xaload (v := (4, 26)) (pcN := 185) jIQ_298_183 rfl rfl rfl ?_
        refine jT_callB [0, 26, 1, 2, 3, 4, 5, 6, 7, 8, 9, 10, 11, 12, 13, 14, 15, 16, 17, 18, 19, 20, 21] (y := 299) (pcN := 188) (dC := 7) (bc1 := 80) (bc2 := 4280) (c1 := (b1 + 80 * q + 0)) (c2 := (b2 + 4280 * q + 0)) (as := [(4, 0), (0, r7), (0, r8), (0, o3), (4, 26)]) (asC := [(4, 0), (0, r7), (0, r8), (0, o3), (4, 1)]) (LN := [(8, (0, r8)), (7, (0, r7)), (6, (0, 0)), (5, (4, 26)), (0, (4, 0)), (1, (0, y1)), (2, (0, y2)), (3, (0, o3))]) (stN := [(0, 0)]) (hsC := [jzQ_371, jgh, (100, [], jS0), jgh, jgh, jgh, jgh, (130, [], [17, 18, 19, 20, 21, 22]), (101, [], [u7_0, u7_1, u7_2, u7_3, u7_4, u7_5]), jgh, jgh, jgh, jgh, jgh, jgh, jgh, jgh, (100, [], (jenc (jlg 0))), (100, [], (jenc (jlg 1))), (100, [], (jenc (jlg 2))), (100, [], (jenc (jlg 3))), (100, [], (jenc (jlg 4))), (100, [], (jenc (jlg 5)))]) (hsD := [jzQ_371, jgh, (100, [], jS0), jgh, jgh, jgh, jgh, (130, [], [17, 18, 19, 20, 21, 22]), (101, [], [-(jkn r7 r8), r7, r8, 0, 0, 0]), jgh, jgh, jgh, jgh, jgh, jgh, jgh, jgh, (100, [], (jenc (jlg 0))), (100, [], (jenc (jlg 1))), (100, [], (jenc (jlg 2))), (100, [], (jenc (jlg 3))), (100, [], (jenc (jlg 4))), (100, [], (jenc (jlg 5))), (101, [], [-(jkn r7 r8), r7, r8, 0, 0, 0])]) (v := (0, 0)) (st2 := [(0, 0), (0, 0)]) (hs2 := [jzQ_20, (100, [], jS0), jgh, jgh, jgh, jgh, (130, [], [16, 17, 18, 19, 20, 21]), (101, [], [-(jkn r7 r8), r7, r8, 0, 0, 0]), jgh, jgh, jgh, jgh, jgh, jgh, jgh, jgh, (100, [], (jenc (jlg 0))), (100, [], (jenc (jlg 1))), (100, [], (jenc (jlg 2))), (100, [], (jenc (jlg 3))), (100, [], (jenc (jlg 4))), (100, [], (jenc (jlg 5))), (101, [], [(-1), 0, 0, 0, 0, 0]), (100, [], (jenc 0)), (100, [], (jenc (-1))), (100, [], (jenc ((-1) * (jlg 0)))), (100, [], [k26_0, k26_1, k26_2]), (101, [], [-(jkn r7 r8), r7, r8, 0, 0, 0])]) (jQ_299_184 (d := 0) (by omega) (by omega) (by omega) (by omega) (by omega) (by omega)) (by rfl) (by rfl) (by rfl) (by rfl) ⟨rfl, rfl, rfl, rfl, rfl, rfl, rfl, rfl, rfl, rfl, rfl, rfl, rfl, rfl, rfl, rfl, rfl, rfl, rfl, rfl, rfl, rfl, rfl, trivial⟩ (by rfl) (by rfl) (by omega) (by show 22 ≤ 27; omega) (by omega) (by omega) rfl rfl ?_
        have hb_q1 := jkn_b (b := r7) (c := r8) (by omega) (by omega)
        generalize hq_q1 : jkn r7 r8 = q1 at hb_q1 ⊢
        refine jT_eq (LN := [(8, (0, r8)), (7, (0, r7)), (6, (0, 0)), (5, (4, 26)), (0, (4, 0)), (1, (0, y1)), (2, (0, y2)), (3, (0, o3))]) (stN := [(0, 0), (0, 0)]) (hsN := [jzQ_20, (100, [], jS0), jgh, jgh, jgh, jgh, (130, [], [16, 17, 18, 19, 20, 21]), (101, [], [-q1, r7, r8, 0, 0, 0]), jgh, jgh, jgh, jgh, jgh, jgh, jgh, jgh, (100, [], (jenc (jlg 0))), (100, [], (jenc (jlg 1))), (100, [], (jenc (jlg 2))), (100, [], (jenc (jlg 3))), (100, [], (jenc (jlg 4))), (100, [], (jenc (jlg 5))), (101, [], [(-1), 0, 0, 0, 0, 0]), (100, [], (jenc 0)), (100, [], (jenc (-1))), (100, [], (jenc ((-1) * (jlg 0)))), (100, [], [k26_0, k26_1, k26_2]), (101, [], [-q1, r7, r8, 0, 0, 0])]) (rfl) (rfl) (by simp only [List.cons.injEq, Prod.mk.injEq, and_true, true_and] <;> ((try unfold jw); (try unfold jwl); omega)) ?_
        refine jT_xifT (pcN := 195) jIQ_298_188 rfl (by decide +kernel) rfl ?_
        refine jT_xiconst (k := 0) (pcN := 196) jIQ_298_195 rfl ?_
        refine jT_xiadd (x := 0) (y := 0) (z := 0) (pcN := 197) jIQ_298_196 rfl (by decide) rfl ?_
        refine jT_xistore (v := (0, 0)) (LN := [(6, (0, 0)), (8, (0, r8)), (7, (0, r7)), (5, (4, 26)), (0, (4, 0)), (1, (0, y1)), (2, (0, y2)), (3, (0, o3))]) (pcN := 199) jIQ_298_197 rfl rfl rfl rfl ?_
        refine jT_xiinc (x := r8) (z := r8 + 1) (LN := [(8, (0, r8 + 1)), (6, (0, 0)), (7, (0, r7)), (5, (4, 26)), (0, (4, 0)), (1, (0, y1)), (2, (0, y2)), (3, (0, o3))]) (pcN := 202) jIQ_298_199 rfl rfl (rfl) rfl rfl ?_
        refine jT_xgoto (pcN := 159) jIQ_298_202 rfl ?_
        refine jT_loc (LN := [(8, (0, r8 + 1)), (7, (0, r7)), (6, (0, 0)), (5, (4, 26)), (0, (4, 0)), (1, (0, y1)), (2, (0, y2)), (3, (0, o3))]) (by show List.Nodup [8, 7, 6, 5, 0, 1, 2, 3]; decide) (by intro q hq; simp only [List.mem_cons, List.not_mem_nil, or_false] at hq; rcases hq with rfl | rfl | rfl | rfl | rfl | rfl | rfl | rfl <;> rfl) ?_
        refine jT_drop 27 (hs0 := [jzQ_20, (100, [], jS0), jgh, jgh, jgh, jgh, (130, [], [16, 17, 18, 19, 20, 21]), (101, [], [-q1, r7, r8, 0, 0, 0]), jgh, jgh, jgh, jgh, jgh, jgh, jgh, jgh, (100, [], (jenc (jlg 0))), (100, [], (jenc (jlg 1))), (100, [], (jenc (jlg 2))), (100, [], (jenc (jlg 3))), (100, [], (jenc (jlg 4))), (100, [], (jenc (jlg 5))), (101, [], [(-1), 0, 0, 0, 0, 0]), (100, [], (jenc 0)), (100, [], (jenc (-1))), (100, [], (jenc ((-1) * (jlg 0)))), (100, [], [k26_0, k26_1, k26_2])]) (ex := [(101, [], [-q1, r7, r8, 0, 0, 0])]) rfl rfl rfl (by decide) ?_
        exact ih (r8 + 1) (-q1) r7 r8 0 0 0 (by omega) (by omega)
    · refine jT_xiload (v := (0, r8)) (pcN := 161) jIQ_298_159 rfl rfl rfl ?_
      refine jT_xiload_n (v := (0, y2)) (pcN := 162) jIQ_298_161 rfl rfl rfl ?_
      refine jT_icF (a := r8) (b := y2) (t := 205) (by rfl) (by rfl) (by rfl) (jw_idd (by omega) (by omega)) (jw_idd (by omega) (by omega)) (by simp only [jcP] <;> omega) ?_
      refine jT_xiload (v := (0, 0)) (pcN := 167) jIQ_298_165 rfl rfl rfl ?_
      refine jT_xiload (v := (0, r7)) (pcN := 169) jIQ_298_167 rfl rfl rfl ?_
      refine jT_ifT (a := r7) (t := 177) (by rfl) (by rfl) (by rfl) (jw_idd (by omega) (by omega)) (by simp only [jcP] <;> omega) ?_
      refine jT_xaload_n (v := (4, 0)) (pcN := 178) jIQ_298_177 rfl rfl rfl ?_
      refine jT_xiload (v := (0, r7)) (pcN := 180) jIQ_298_178 rfl rfl rfl ?_
      refine jT_xiload (v := (0, r8)) (pcN := 182) jIQ_298_180 rfl rfl rfl ?_
      refine jT_xiload_n (v := (0, o3)) (pcN := 183) jIQ_298_182 rfl rfl rfl ?_
      refine jT_xaload (v := (4, 26)) (pcN := 185) jIQ_298_183 rfl rfl rfl ?_
      refine jT_callB [0, 26, 1, 2, 3, 4, 5, 6, 7, 8, 9, 10, 11, 12, 13, 14, 15, 16, 17, 18, 19, 20, 21] (y := 299) (pcN := 188) (dC := 7) (bc1 := 80) (bc2 := 4280) (c1 := (b1 + 80 * q + 0)) (c2 := (b2 + 4280 * q + 0)) (as := [(4, 0), (0, r7), (0, r8), (0, o3), (4, 26)]) (asC := [(4, 0), (0, r7), (0, r8), (0, o3), (4, 1)]) (LN := [(8, (0, r8)), (7, (0, r7)), (6, (0, 0)), (5, (4, 26)), (0, (4, 0)), (1, (0, y1)), (2, (0, y2)), (3, (0, o3))]) (stN := [(0, 0)]) (hsC := [jzQ_371, jgh, (100, [], jS0), jgh, jgh, jgh, jgh, (130, [], [17, 18, 19, 20, 21, 22]), (101, [], [u7_0, u7_1, u7_2, u7_3, u7_4, u7_5]), jgh, jgh, jgh, jgh, jgh, jgh, jgh, jgh, (100, [], (jenc (jlg 0))), (100, [], (jenc (jlg 1))), (100, [], (jenc (jlg 2))), (100, [], (jenc (jlg 3))), (100, [], (jenc (jlg 4))), (100, [], (jenc (jlg 5)))]) (hsD := [jzQ_371, jgh, (100, [], jS0), jgh, jgh, jgh, jgh, (130, [], [17, 18, 19, 20, 21, 22]), (101, [], [-(jkn r7 r8), r7, r8, 0, 0, 0]), jgh, jgh, jgh, jgh, jgh, jgh, jgh, jgh, (100, [], (jenc (jlg 0))), (100, [], (jenc (jlg 1))), (100, [], (jenc (jlg 2))), (100, [], (jenc (jlg 3))), (100, [], (jenc (jlg 4))), (100, [], (jenc (jlg 5))), (101, [], [-(jkn r7 r8), r7, r8, 0, 0, 0])]) (v := (0, 0)) (st2 := [(0, 0), (0, 0)]) (hs2 := [jzQ_20, (100, [], jS0), jgh, jgh, jgh, jgh, (130, [], [16, 17, 18, 19, 20, 21]), (101, [], [-(jkn r7 r8), r7, r8, 0, 0, 0]), jgh, jgh, jgh, jgh, jgh, jgh, jgh, jgh, (100, [], (jenc (jlg 0))), (100, [], (jenc (jlg 1))), (100, [], (jenc (jlg 2))), (100, [], (jenc (jlg 3))), (100, [], (jenc (jlg 4))), (100, [], (jenc (jlg 5))), (101, [], [(-1), 0, 0, 0, 0, 0]), (100, [], (jenc 0)), (100, [], (jenc (-1))), (100, [], (jenc ((-1) * (jlg 0)))), (100, [], [k26_0, k26_1, k26_2]), (101, [], [-(jkn r7 r8), r7, r8, 0, 0, 0])]) (jQ_299_183 (d := 0) (by omega) (by omega) (by omega) (by omega)) (by rfl) (by rfl) (by rfl) (by rfl) ⟨rfl, rfl, rfl, rfl, rfl, rfl, rfl, rfl, rfl, rfl, rfl, rfl, rfl, rfl, rfl, rfl, rfl, rfl, rfl, rfl, rfl, rfl, rfl, trivial⟩ (by rfl) (by rfl) (by omega) (by show 22 ≤ 27; omega) (by omega) (by omega) rfl rfl ?_
      have hb_q1 := jkn_b (b := r7) (c := r8) (by omega) (by omega)
      generalize hq_q1 : jkn r7 r8 = q1 at hb_q1 ⊢
      refine jT_eq (LN := [(8, (0, r8)), (7, (0, r7)), (6, (0, 0)), (5, (4, 26)), (0, (4, 0)), (1, (0, y1)), (2, (0, y2)), (3, (0, o3))]) (stN := [(0, 0), (0, 0)]) (hsN := [jzQ_20, (100, [], jS0), jgh, jgh, jgh, jgh, (130, [], [16, 17, 18, 19, 20, 21]), (101, [], [-q1, r7, r8, 0, 0, 0]), jgh, jgh, jgh, jgh, jgh, jgh, jgh, jgh, (100, [], (jenc (jlg 0))), (100, [], (jenc (jlg 1))), (100, [], (jenc (jlg 2))), (100, [], (jenc (jlg 3))), (100, [], (jenc (jlg 4))), (100, [], (jenc (jlg 5))), (101, [], [(-1), 0, 0, 0, 0, 0]), (100, [], (jenc 0)), (100, [], (jenc (-1))), (100, [], (jenc ((-1) * (jlg 0)))), (100, [], [k26_0, k26_1, k26_2]), (101, [], [-q1, r7, r8, 0, 0, 0])]) (rfl) (rfl) (by simp only [List.cons.injEq, Prod.mk.injEq, and_true, true_and] <;> ((try unfold jw); (try unfold jwl); omega)) ?_
      refine jT_xifT (pcN := 195) jIQ_298_188 rfl (by decide +kernel) rfl ?_
      refine jT_xiconst (k := 0) (pcN := 196) jIQ_298_195 rfl ?_
      refine jT_xiadd (x := 0) (y := 0) (z := 0) (pcN := 197) jIQ_298_196 rfl (by decide) rfl ?_
      refine jT_xistore (v := (0, 0)) (LN := [(6, (0, 0)), (8, (0, r8)), (7, (0, r7)), (5, (4, 26)), (0, (4, 0)), (1, (0, y1)), (2, (0, y2)), (3, (0, o3))]) (pcN := 199) jIQ_298_197 rfl rfl rfl rfl ?_
      refine jT_xiinc (x := r8) (z := r8 + 1) (LN := [(8, (0, r8 + 1)), (6, (0, 0)), (7, (0, r7)), (5, (4, 26)), (0, (4, 0)), (1, (0, y1)), (2, (0, y2)), (3, (0, o3))]) (pcN := 202) jIQ_298_199 rfl rfl (rfl) rfl rfl ?_
      refine jT_xgoto (pcN := 159) jIQ_298_202 rfl ?_
      refine jT_loc (LN := [(8, (0, r8 + 1)), (7, (0, r7)), (6, (0, 0)), (5, (4, 26)), (0, (4, 0)), (1, (0, y1)), (2, (0, y2)), (3, (0, o3))]) (by show List.Nodup [8, 7, 6, 5, 0, 1, 2, 3]; decide) (by intro q hq; simp only [List.mem_cons, List.not_mem_nil, or_false] at hq; rcases hq with rfl | rfl | rfl | rfl | rfl | rfl | rfl | rfl <;> rfl) ?_
      refine jT_drop 27 (hs0 := [jzQ_20, (100, [], jS0), jgh, jgh, jgh, jgh, (130, [], [16, 17, 18, 19, 20, 21]), (101, [], [-q1, r7, r8, 0, 0, 0]), jgh, jgh, jgh, jgh, jgh, jgh, jgh, jgh, (100, [], (jenc (jlg 0))), (100, [], (jenc (jlg 1))), (100, [], (jenc (jlg 2))), (100, [], (jenc (jlg 3))), (100, [], (jenc (jlg 4))), (100, [], (jenc (jlg 5))), (101, [], [(-1), 0, 0, 0, 0, 0]), (100, [], (jenc 0)), (100, [], (jenc (-1))), (100, [], (jenc ((-1) * (jlg 0)))), (100, [], [k26_0, k26_1, k26_2])]) (ex := [(101, [], [-q1, r7, r8, 0, 0, 0])]) rfl rfl rfl (by decide) ?_
      exact ih (r8 + 1) (-q1) r7 r8 0 0 0 (by omega) (by omega)
theorem jQl_gc_295 {xs : List Int} {d b1 b2 : Nat} {Q : Nat → JV → List JC → Prop} (hd : 9 < d) {y1 y2 o3 k26_0 k26_1 k26_2 : Int} (h_y1 : 0 ≤ y1 ∧ y1 ≤ 20) (h_y2 : 0 ≤ y2 ∧ y2 ≤ 10) (h_o3 : 0 ≤ o3 ∧ o3 ≤ 7) (h_k26_0 : 1 ≤ k26_0 ∧ k26_0 ≤ 4001) (h_k26_1 : 1 ≤ k26_1 ∧ k26_1 ≤ 4001) (h_k26_2 : 1 ≤ k26_2 ∧ k26_2 ≤ 4001) (h : ∀ (u7_0 u7_1 u7_2 u7_3 u7_4 u7_5 : Int), jT xs d 298 22 211 [(6, (0, 0))] [] [jzQ_20, (100, [], jS0), jgh, jgh, jgh, jgh, (130, [], [16, 17, 18, 19, 20, 21]), (101, [], [u7_0, u7_1, u7_2, u7_3, u7_4, u7_5]), jgh, jgh, jgh, jgh, jgh, jgh, jgh, jgh, (100, [], (jenc (jlg 0))), (100, [], (jenc (jlg 1))), (100, [], (jenc (jlg 2))), (100, [], (jenc (jlg 3))), (100, [], (jenc (jlg 4))), (100, [], (jenc (jlg 5))), (101, [], [(-1), 0, 0, 0, 0, 0]), (100, [], (jenc 0)), (100, [], (jenc (-1))), (100, [], (jenc ((-1) * (jlg 0)))), (100, [], [k26_0, k26_1, k26_2])] b1 b2 Q) : ∀ (q : Nat) (r7 u7_0 u7_1 u7_2 u7_3 u7_4 u7_5 : Int), -y1 ≤ r7 → r7 + (q : Int) = y1 + 1 → jT xs d 298 22 149 [(7, (0, r7)), (6, (0, 0)), (5, (4, 26)), (0, (4, 0)), (1, (0, y1)), (2, (0, y2)), (3, (0, o3))] [] [jzQ_20, (100, [], jS0), jgh, jgh, jgh, jgh, (130, [], [16, 17, 18, 19, 20, 21]), (101, [], [u7_0, u7_1, u7_2, u7_3, u7_4, u7_5]), jgh, jgh, jgh, jgh, jgh, jgh, jgh, jgh, (100, [], (jenc (jlg 0))), (100, [], (jenc (jlg 1))), (100, [], (jenc (jlg 2))), (100, [], (jenc (jlg 3))), (100, [], (jenc (jlg 4))), (100, [], (jenc (jlg 5))), (101, [], [(-1), 0, 0, 0, 0, 0]), (100, [], (jenc 0)), (100, [], (jenc (-1))), (100, [], (jenc ((-1) * (jlg 0)))), (100, [], [k26_0, k26_1, k26_2])] (b1 + 1680 * q) (b2 + 89880 * q) Q := by
  intro q
  induction q with
  | zero =>
    intro r7 u7_0 u7_1 u7_2 u7_3 u7_4 u7_5 h0 ht
    have e : r7 = y1 + 1 := by omega
    subst r7
    refine jT.mono (b1 := b1) (b2 := b2) ?_ (Nat.le_refl _) (by omega) (by omega) (fun _ _ _ z => z)
    refine jT_xiload (v := (0, y1 + 1)) (pcN := 151) jIQ_298_149 rfl rfl rfl ?_
    refine jT_xiload_n (v := (0, y1)) (pcN := 152) jIQ_298_151 rfl rfl rfl ?_
    refine jT_icT (a := y1 + 1) (b := y1) (t := 211) (by rfl) (by rfl) (by rfl) (jw_idd (by omega) (by omega)) (jw_idd (by omega) (by omega)) (by simp only [jcP] <;> omega) ?_
    refine jT_loc (LN := [(6, (0, 0))]) (by show List.Nodup [6]; decide) (by intro q hq; simp only [List.mem_cons, List.not_mem_nil, or_false] at hq; rcases hq with rfl <;> rfl) ?_
    exact h u7_0 u7_1 u7_2 u7_3 u7_4 u7_5
  | succ q ih =>
    intro r7 u7_0 u7_1 u7_2 u7_3 u7_4 u7_5 h0 ht
    have h_r7 : (-20) ≤ r7 ∧ r7 ≤ 20 := by omega
    have g_0 : r7 - y1 ≤ 0 := by omega
    refine jT.mono (b1 := b1 + 1680 * q + 1680) (b2 := b2 + 89880 * q + 89880) ?_ (Nat.le_refl _) (by omega) (by omega) (fun _ _ _ z => z)
    refine jT_xiload (v := (0, r7)) (pcN := 151) jIQ_298_149 rfl rfl rfl ?_
    refine jT_xiload_n (v := (0, y1)) (pcN := 152) jIQ_298_151 rfl rfl rfl ?_
    refine jT_icF (a := r7) (b := y1) (t := 211) (by rfl) (by rfl) (by rfl) (jw_idd (by omega) (by omega)) (jw_idd (by omega) (by omega)) (by simp only [jcP] <;> omega) ?_
    refine jT_xiload_n (v := (0, y2)) (pcN := 156) jIQ_298_155 rfl rfl rfl ?_
    refine jT_adv 1 (pcN := 157) (LN := [(7, (0, r7)), (6, (0, 0)), (5, (4, 26)), (0, (4, 0)), (1, (0, y1)), (2, (0, y2)), (3, (0, o3))]) (stN := [(0, -y2)]) (hsN := [jzQ_20, (100, [], jS0), jgh, jgh, jgh, jgh, (130, [], [16, 17, 18, 19, 20, 21]), (101, [], [u7_0, u7_1, u7_2, u7_3, u7_4, u7_5]), jgh, jgh, jgh, jgh, jgh, jgh, jgh, jgh, (100, [], (jenc (jlg 0))), (100, [], (jenc (jlg 1))), (100, [], (jenc (jlg 2))), (100, [], (jenc (jlg 3))), (100, [], (jenc (jlg 4))), (100, [], (jenc (jlg 5))), (101, [], [(-1), 0, 0, 0, 0, 0]), (100, [], (jenc 0)), (100, [], (jenc (-1))), (100, [], (jenc ((-1) * (jlg 0)))), (100, [], [k26_0, k26_1, k26_2])]) (c1 := 0) (s1 := 0) (c2 := (b1 + 1680 * q + 1680)) (s2 := (b2 + 89880 * q + 89880)) (by exact rfl) ?_ (by omega) (by omega)
    refine jT_xistore (v := (0, -y2)) (LN := [(8, (0, -y2)), (7, (0, r7)), (6, (0, 0)), (5, (4, 26)), (0, (4, 0)), (1, (0, y1)), (2, (0, y2)), (3, (0, o3))]) (pcN := 159) jIQ_298_157 rfl rfl rfl rfl ?_
    refine jT_loc (LN := [(8, (0, -y2)), (7, (0, r7)), (6, (0, 0)), (5, (4, 26)), (0, (4, 0)), (1, (0, y1)), (2, (0, y2)), (3, (0, o3))]) (by show List.Nodup [8, 7, 6, 5, 0, 1, 2, 3]; decide) (by intro q hq; simp only [List.mem_cons, List.not_mem_nil, or_false] at hq; rcases hq with rfl | rfl | rfl | rfl | rfl | rfl | rfl | rfl <;> rfl) ?_
    refine jT.mono (jQl_gc_296 (b1 := (b1 + 1680 * q + 0)) (b2 := (b2 + 89880 * q + 0)) (by omega) (y1 := y1) (y2 := y2) (r7 := r7) (o3 := o3) (k26_0 := k26_0) (k26_1 := k26_1) (k26_2 := k26_2) (by omega) (by omega) (by omega) (by omega) (by omega) (by omega) (by omega) (fun u7_0 u7_1 u7_2 u7_3 u7_4 u7_5 => ?_) ((y2 + 1 : Int) - (-y2)).toNat (-y2) u7_0 u7_1 u7_2 u7_3 u7_4 u7_5 (by omega) (by omega)) (Nat.le_refl _) (by omega) (by omega) (fun _ _ _ z => z)
    refine jT_xiinc (x := r7) (z := r7 + 1) (LN := [(7, (0, r7 + 1)), (6, (0, 0)), (5, (4, 26)), (0, (4, 0)), (1, (0, y1)), (2, (0, y2)), (3, (0, o3))]) (pcN := 208) jIQ_298_205 rfl rfl (rfl) rfl rfl ?_
    refine jT_xgoto (pcN := 149) jIQ_298_208 rfl ?_
    refine jT_loc (LN := [(7, (0, r7 + 1)), (6, (0, 0)), (5, (4, 26)), (0, (4, 0)), (1, (0, y1)), (2, (0, y2)), (3, (0, o3))]) (by show List.Nodup [7, 6, 5, 0, 1, 2, 3]; decide) (by intro q hq; simp only [List.mem_cons, List.not_mem_nil, or_false] at hq; rcases hq with rfl | rfl | rfl | rfl | rfl | rfl | rfl <;> rfl) ?_
    exact ih (r7 + 1) u7_0 u7_1 u7_2 u7_3 u7_4 u7_5 (by omega) (by omega)
theorem jIQ_298_211 : jmI (jm 298) 211 = (.iload 6, 2) := by rfl
theorem jQ_298_297 {xs : List Int} {d : Nat} {x1 x2 x3 x4 : Int} (h_x1 : 0 ≤ x1 ∧ x1 ≤ 20) (h_x2 : 0 ≤ x2 ∧ x2 ≤ 10) (h_x3 : 0 ≤ x3 ∧ x3 ≤ 7) (h_x4 : 1 ≤ x4 ∧ x4 ≤ 100) : jT xs (d + 10) 298 22 0 [(0, (4, 0)), (1, (0, x1)), (2, (0, x2)), (3, (0, x3)), (4, (0, x4))] [] jpQ_573 69071 3694923 (fun k v hsN => k = 0 ∧ v = (0, 0) ∧ hsN = [jzQ_20, (100, [], jS0), jgh, jgh, jgh, jgh, (130, [], [16, 17, 18, 19, 20, 21]), jgh, jgh, jgh, jgh, jgh, jgh, jgh, jgh, jgh, (100, [], (jenc (jlg 0))), (100, [], (jenc (jlg 1))), (100, [], (jenc (jlg 2))), (100, [], (jenc (jlg 3))), (100, [], (jenc (jlg 4))), (100, [], (jenc (jlg 5))), (101, [], [(-1), 0, 0, 0, 0, 0]), (100, [], (jenc 0)), (100, [], (jenc (-1))), (100, [], (jenc ((-1) * (jlg 0)))), (100, [], [jbp0 x4, jbp1 x4, jbp2 x4])]) := by
  refine jT_xaload_n (v := (4, 0)) (pcN := 1) jIQ_298_0 rfl rfl rfl ?_
  refine jT_xiconst (k := 0) (pcN := 2) jIQ_298_1 rfl ?_
  refine jT_adv 1 (pcN := 5) (LN := [(0, (4, 0)), (1, (0, x1)), (2, (0, x2)), (3, (0, x3)), (4, (0, x4))]) (stN := []) (hsN := jpQ_573) (c1 := 0) (s1 := 0) (c2 := 69071) (s2 := 3694923) (by exact rfl) ?_ (by omega) (by omega)
  refine jT_xaload_n (v := (4, 0)) (pcN := 6) jIQ_298_5 rfl rfl rfl ?_
  refine jT_xiload_n (v := (0, x1)) (pcN := 7) jIQ_298_6 rfl rfl rfl ?_
  refine jT_xi2l (x := x1) (z := x1) (pcN := 8) jIQ_298_7 rfl (jw_idd (by omega) (by omega)) rfl ?_
  refine jT_xlconst (z := 0) (pcN := 9) jIQ_298_8 rfl rfl ?_
  refine jT_adv 1 (pcN := 12) (LN := [(0, (4, 0)), (1, (0, x1)), (2, (0, x2)), (3, (0, x3)), (4, (0, x4))]) (stN := [(1, 20), (1, 0), (1, x1), (4, 0)]) (hsN := jpQ_573) (c1 := 0) (s1 := 0) (c2 := 69071) (s2 := 3694923) (by exact rfl) ?_ (by omega) (by omega)
  refine jT_fR [] 22 (y := 189) (pcN := 15) (dC := 0) (bc1 := 0) (bc2 := 0) (c1 := 69071) (c2 := 3694923) (as := [(1, x1), (1, 0), (1, 20)]) (asC := [(1, x1), (1, 0), (1, 20)]) (LN := [(0, (4, 0)), (1, (0, x1)), (2, (0, x2)), (3, (0, x3)), (4, (0, x4))]) (stN := [(4, 0)]) (hsC := []) (v := (0, 1)) (st2 := [(0, 1), (4, 0)]) (jT_in_ok (d := 0) (v := x1) (lo := 0) (hi := 20) (by omega) (by omega) (by omega) (by omega) (by omega)) (by rfl) (by rfl) (by decide +kernel) (by rfl) (by rfl) (by omega) (by omega) (by omega) (by omega) rfl ?_
  refine jT_xifF (t := 47) (pcN := 18) jIQ_298_15 rfl (by decide +kernel) rfl rfl ?_
  refine jT_xiload_n (v := (0, x2)) (pcN := 19) jIQ_298_18 rfl rfl rfl ?_
  refine jT_xi2l (x := x2) (z := x2) (pcN := 20) jIQ_298_19 rfl (jw_idd (by omega) (by omega)) rfl ?_
  refine jT_xlconst (z := 0) (pcN := 21) jIQ_298_20 rfl rfl ?_
  refine jT_adv 1 (pcN := 24) (LN := [(0, (4, 0)), (1, (0, x1)), (2, (0, x2)), (3, (0, x3)), (4, (0, x4))]) (stN := [(1, 10), (1, 0), (1, x2), (4, 0)]) (hsN := jpQ_573) (c1 := 0) (s1 := 0) (c2 := 69071) (s2 := 3694923) (by exact rfl) ?_ (by omega) (by omega)
  refine jT_fR [] 22 (y := 189) (pcN := 27) (dC := 0) (bc1 := 0) (bc2 := 0) (c1 := 69071) (c2 := 3694923) (as := [(1, x2), (1, 0), (1, 10)]) (asC := [(1, x2), (1, 0), (1, 10)]) (LN := [(0, (4, 0)), (1, (0, x1)), (2, (0, x2)), (3, (0, x3)), (4, (0, x4))]) (stN := [(4, 0)]) (hsC := []) (v := (0, 1)) (st2 := [(0, 1), (4, 0)]) (jT_in_ok (d := 0) (v := x2) (lo := 0) (hi := 10) (by omega) (by omega) (by omega) (by omega) (by omega)) (by rfl) (by rfl) (by decide +kernel) (by rfl) (by rfl) (by omega) (by omega) (by omega) (by omega) rfl ?_
  refine jT_xifF (t := 47) (pcN := 30) jIQ_298_27 rfl (by decide +kernel) rfl rfl ?_
  refine jT_xiload (v := (0, x4)) (pcN := 32) jIQ_298_30 rfl rfl rfl ?_
  refine jT_xi2l (x := x4) (z := x4) (pcN := 33) jIQ_298_32 rfl (jw_idd (by omega) (by omega)) rfl ?_
  refine jT_xlconst (z := 0) (pcN := 34) jIQ_298_33 rfl rfl ?_
  refine jT_adv 1 (pcN := 37) (LN := [(0, (4, 0)), (1, (0, x1)), (2, (0, x2)), (3, (0, x3)), (4, (0, x4))]) (stN := [(1, 100), (1, 0), (1, x4), (4, 0)]) (hsN := jpQ_573) (c1 := 0) (s1 := 0) (c2 := 69071) (s2 := 3694923) (by exact rfl) ?_ (by omega) (by omega)
  refine jT_fR [] 22 (y := 189) (pcN := 40) (dC := 0) (bc1 := 0) (bc2 := 0) (c1 := 69071) (c2 := 3694923) (as := [(1, x4), (1, 0), (1, 100)]) (asC := [(1, x4), (1, 0), (1, 100)]) (LN := [(0, (4, 0)), (1, (0, x1)), (2, (0, x2)), (3, (0, x3)), (4, (0, x4))]) (stN := [(4, 0)]) (hsC := []) (v := (0, 1)) (st2 := [(0, 1), (4, 0)]) (jT_in_ok (d := 0) (v := x4) (lo := 0) (hi := 100) (by omega) (by omega) (by omega) (by omega) (by omega)) (by rfl) (by rfl) (by decide +kernel) (by rfl) (by rfl) (by omega) (by omega) (by omega) (by omega) rfl ?_
  refine jT_xifF (t := 47) (pcN := 43) jIQ_298_40 rfl (by decide +kernel) rfl rfl ?_
  refine jT_xiconst (k := 1) (pcN := 44) jIQ_298_43 rfl ?_
  refine jT_xgoto (pcN := 48) jIQ_298_44 rfl ?_
  refine jT_xiconst (k := 1) (pcN := 49) jIQ_298_48 rfl ?_
  refine jT_fR [0] 22 (y := 191) (pcN := 52) (dC := 0) (bc1 := 0) (bc2 := 0) (c1 := 69071) (c2 := 3694923) (as := [(4, 0), (0, 1), (0, 1)]) (asC := [(4, 0), (0, 1), (0, 1)]) (LN := [(0, (4, 0)), (1, (0, x1)), (2, (0, x2)), (3, (0, x3)), (4, (0, x4))]) (stN := []) (hsC := [jgh]) (v := (0, 0)) (st2 := [(0, 0)]) (jQ_191_21 (d := 0)) (by rfl) (by rfl) (by decide +kernel) (by rfl) (by rfl) (by omega) (by omega) (by omega) (by omega) rfl ?_
  refine jT_xifF (t := 67) (pcN := 55) jIQ_298_52 rfl (by decide +kernel) rfl rfl ?_
  refine jT_xaload_n (v := (4, 0)) (pcN := 56) jIQ_298_55 rfl rfl rfl ?_
  refine jT_xiload_n (v := (0, x3)) (pcN := 57) jIQ_298_56 rfl rfl rfl ?_
  refine jT_fR [] 22 (y := 188) (pcN := 60) (dC := 1) (bc1 := 0) (bc2 := 0) (c1 := 69071) (c2 := 3694923) (as := [(0, x3)]) (asC := [(0, x3)]) (LN := [(0, (4, 0)), (1, (0, x1)), (2, (0, x2)), (3, (0, x3)), (4, (0, x4))]) (stN := [(4, 0)]) (hsC := []) (v := (0, 1)) (st2 := [(0, 1), (4, 0)]) (jQ_188_136 (d := 0) (by omega)) (by rfl) (by rfl) (by decide +kernel) (by rfl) (by rfl) (by omega) (by omega) (by omega) (by omega) rfl ?_
  refine jT_xiconst (k := 2) (pcN := 61) jIQ_298_60 rfl ?_
  refine jT_fR [0] 22 (y := 191) (pcN := 64) (dC := 0) (bc1 := 0) (bc2 := 0) (c1 := 69071) (c2 := 3694923) (as := [(4, 0), (0, 1), (0, 2)]) (asC := [(4, 0), (0, 1), (0, 2)]) (LN := [(0, (4, 0)), (1, (0, x1)), (2, (0, x2)), (3, (0, x3)), (4, (0, x4))]) (stN := []) (hsC := [jgh]) (v := (0, 0)) (st2 := [(0, 0)]) (jQ_191_137 (d := 0)) (by rfl) (by rfl) (by decide +kernel) (by rfl) (by rfl) (by omega) (by omega) (by omega) (by omega) rfl ?_
  refine jT_xifT (pcN := 69) jIQ_298_64 rfl (by decide +kernel) rfl ?_
  refine jT_xaload_n (v := (4, 0)) (pcN := 70) jIQ_298_69 rfl rfl rfl ?_
  refine jT_xiload_n (v := (0, x3)) (pcN := 71) jIQ_298_70 rfl rfl rfl ?_
  refine jT_fR [0, 1, 2, 3, 4, 5, 6, 7, 8, 9, 10, 11, 12, 13, 14, 15] 22 (y := 202) (pcN := 74) (dC := 1) (bc1 := 0) (bc2 := 0) (c1 := 69071) (c2 := 3694923) (as := [(4, 0), (0, x3)]) (asC := [(4, 0), (0, x3)]) (LN := [(0, (4, 0)), (1, (0, x1)), (2, (0, x2)), (3, (0, x3)), (4, (0, x4))]) (stN := []) (hsC := jpQ_354) (v := (9, 0)) (st2 := []) (jQ_202_139 (d := 0) (by omega)) (by rfl) (by rfl) (by decide +kernel) (by rfl) (by rfl) (by omega) (by omega) (by omega) (by omega) rfl ?_
  refine jT_xaload_n (v := (4, 0)) (pcN := 75) jIQ_298_74 rfl rfl rfl ?_
  refine jT_xaload_n (v := (4, 0)) (pcN := 76) jIQ_298_75 rfl rfl rfl ?_
  refine jT_xaload_n (v := (4, 0)) (pcN := 77) jIQ_298_76 rfl rfl rfl ?_
  refine jT_xgetf (a := 0) (t := 1) (ci := 14) (fi := 9) (c := jzQ_20) (v := (4, 7)) (pcN := 80) jIQ_298_77 rfl rfl rfl rfl rfl rfl rfl ?_
  refine jT_xaload_n (v := (4, 0)) (pcN := 81) jIQ_298_80 rfl rfl rfl ?_
  refine jT_xgetf (a := 0) (t := 1) (ci := 14) (fi := 10) (c := jzQ_20) (v := (1, 1)) (pcN := 84) jIQ_298_81 rfl rfl rfl rfl rfl rfl rfl ?_
  refine jT_fA [0, 7, 1, 2, 3, 4, 5, 6, 8, 9, 10, 11, 12, 13, 14, 15, 16, 17, 18, 19, 20, 21] 22 (y := 212) (pcN := 87) (dC := 4) (bc1 := 4) (bc2 := 174) (c1 := 69067) (c2 := 3694749) (as := [(4, 0), (4, 7), (1, 1)]) (asC := [(4, 0), (4, 1), (1, 1)]) (LN := [(0, (4, 0)), (1, (0, x1)), (2, (0, x2)), (3, (0, x3)), (4, (0, x4))]) (stN := [(4, 0)]) (hsC := jpQ_381) (ex := jpQ_382) (v := (0, (-1))) (st2 := [(0, (-1)), (4, 0)]) (hs2 := jpQ_582) (jQ_212_143 (d := 0)) (by rfl) (by rfl) (by decide +kernel) (by rfl) (by rfl) (by omega) (by omega) (by omega) (by omega) rfl (by decide +kernel) ?_
  refine jT_xifF (t := 94) (pcN := 90) jIQ_298_87 rfl (by decide +kernel) rfl rfl ?_
  refine jT_xiconst (k := 1) (pcN := 91) jIQ_298_90 rfl ?_
  refine jT_xgoto (pcN := 95) jIQ_298_91 rfl ?_
  refine jT_xiconst (k := 3) (pcN := 96) jIQ_298_95 rfl ?_
  refine jT_fR [0] 26 (y := 191) (pcN := 99) (dC := 0) (bc1 := 0) (bc2 := 0) (c1 := 69067) (c2 := 3694749) (as := [(4, 0), (0, 1), (0, 3)]) (asC := [(4, 0), (0, 1), (0, 3)]) (LN := [(0, (4, 0)), (1, (0, x1)), (2, (0, x2)), (3, (0, x3)), (4, (0, x4))]) (stN := []) (hsC := [jgh]) (v := (0, 0)) (st2 := [(0, 0)]) (jQ_191_144 (d := 0)) (by rfl) (by rfl) (by decide +kernel) (by rfl) (by rfl) (by omega) (by omega) (by omega) (by omega) rfl ?_
  refine jT_xifT (pcN := 104) jIQ_298_99 rfl (by decide +kernel) rfl ?_
  refine jT_xiconst (k := 3) (pcN := 105) jIQ_298_104 rfl ?_
  refine jT_adv 1 (pcN := 107) (LN := [(0, (4, 0)), (1, (0, x1)), (2, (0, x2)), (3, (0, x3)), (4, (0, x4))]) (stN := [(4, 26)]) (hsN := jpQ_589) (c1 := 1) (s1 := 3) (c2 := 69066) (s2 := 3694746) (by exact rfl) ?_ (by omega) (by omega)
  refine jT_xastore (v := (4, 26)) (LN := [(5, (4, 26)), (0, (4, 0)), (1, (0, x1)), (2, (0, x2)), (3, (0, x3)), (4, (0, x4))]) (pcN := 109) jIQ_298_107 rfl rfl rfl rfl ?_
  refine jT_xiconst (k := 0) (pcN := 110) jIQ_298_109 rfl ?_
  refine jT_xistore (v := (0, 0)) (LN := [(6, (0, 0)), (5, (4, 26)), (0, (4, 0)), (1, (0, x1)), (2, (0, x2)), (3, (0, x3)), (4, (0, x4))]) (pcN := 112) jIQ_298_110 rfl rfl rfl rfl ?_
  refine jT_xiload (v := (0, 0)) (pcN := 114) jIQ_298_112 rfl rfl rfl ?_
  refine jT_xiconst (k := 3) (pcN := 115) jIQ_298_114 rfl ?_
  refine jT_xicF (t := 142) (pcN := 118) jIQ_298_115 rfl (by decide +kernel) rfl rfl ?_
  refine jT_xiload (v := (0, x4)) (pcN := 120) jIQ_298_118 rfl rfl rfl ?_
  refine jT_ifF (a := x4) (t := 142) (by rfl) (by rfl) (by rfl) (jw_idd (by omega) (by omega)) (by simp only [jcP] <;> omega) ?_
  refine jT_xaload (v := (4, 26)) (pcN := 125) jIQ_298_123 rfl rfl rfl ?_
  refine jT_xiload (v := (0, 0)) (pcN := 127) jIQ_298_125 rfl rfl rfl ?_
  refine jT_xaload_n (v := (4, 0)) (pcN := 128) jIQ_298_127 rfl rfl rfl ?_
  refine jT_xiload (v := (0, x4)) (pcN := 130) jIQ_298_128 rfl rfl rfl ?_
  refine jT_xiload (v := (0, 0)) (pcN := 132) jIQ_298_130 rfl rfl rfl ?_
  refine jT_fR [0, 1, 2, 3, 4, 5, 6, 7, 8, 9, 10, 11, 12, 13, 14, 15, 16, 17, 18, 19, 20, 21] 27 (y := 297) (pcN := 135) (dC := 7) (bc1 := 62) (bc2 := 3222) (c1 := 69004) (c2 := 3691524) (as := [(4, 0), (0, x4), (0, 0)]) (asC := [(4, 0), (0, x4), (0, 0)]) (LN := [(6, (0, 0)), (5, (4, 26)), (0, (4, 0)), (1, (0, x1)), (2, (0, x2)), (3, (0, x3)), (4, (0, x4))]) (stN := [(0, 0), (4, 26)]) (hsC := jpQ_730) (v := (0, jbp0 x4)) (st2 := [(0, jbp0 x4), (0, 0), (4, 26)]) (jQ_297_272 (d := 0) (by omega)) (by rfl) (by rfl) (by decide +kernel) (by rfl) (by rfl) (by omega) (by omega) (by omega) (by omega) rfl ?_
  have hb_q1 := jbp_b0 (p := x4) (by omega)
  generalize hq_q1 : jbp0 x4 = q1 at hb_q1 ⊢
  refine jT_adv 1 (pcN := 136) (LN := [(6, (0, 0)), (5, (4, 26)), (0, (4, 0)), (1, (0, x1)), (2, (0, x2)), (3, (0, x3)), (4, (0, x4))]) (stN := []) (hsN := [jzQ_20, (100, [], jS0), jgh, jgh, jgh, jgh, (130, [], [16, 17, 18, 19, 20, 21]), (101, [], [0, 0, 0, 0, 0, 0]), jgh, jgh, jgh, jgh, jgh, jgh, jgh, jgh, (100, [], (jenc (jlg 0))), (100, [], (jenc (jlg 1))), (100, [], (jenc (jlg 2))), (100, [], (jenc (jlg 3))), (100, [], (jenc (jlg 4))), (100, [], (jenc (jlg 5))), (101, [], [(-1), 0, 0, 0, 0, 0]), (100, [], (jenc 0)), (100, [], (jenc (-1))), (100, [], (jenc ((-1) * (jlg 0)))), (100, [], [q1, 0, 0])]) (c1 := 0) (s1 := 0) (c2 := 69004) (s2 := 3691524) (by exact rfl) ?_ (by omega) (by omega)
  refine jT_xiinc (x := 0) (z := 1) (LN := [(6, (0, 1)), (5, (4, 26)), (0, (4, 0)), (1, (0, x1)), (2, (0, x2)), (3, (0, x3)), (4, (0, x4))]) (pcN := 139) jIQ_298_136 rfl rfl (by decide) rfl rfl ?_
  refine jT_xgoto (pcN := 112) jIQ_298_139 rfl ?_
  refine jT_xiload (v := (0, 1)) (pcN := 114) jIQ_298_112 rfl rfl rfl ?_
  refine jT_xiconst (k := 3) (pcN := 115) jIQ_298_114 rfl ?_
  refine jT_xicF (t := 142) (pcN := 118) jIQ_298_115 rfl (by decide +kernel) rfl rfl ?_
  refine jT_xiload (v := (0, x4)) (pcN := 120) jIQ_298_118 rfl rfl rfl ?_
  refine jT_ifF (a := x4) (t := 142) (by rfl) (by rfl) (by rfl) (jw_idd (by omega) (by omega)) (by simp only [jcP] <;> omega) ?_
  refine jT_xaload (v := (4, 26)) (pcN := 125) jIQ_298_123 rfl rfl rfl ?_
  refine jT_xiload (v := (0, 1)) (pcN := 127) jIQ_298_125 rfl rfl rfl ?_
  refine jT_xaload_n (v := (4, 0)) (pcN := 128) jIQ_298_127 rfl rfl rfl ?_
  refine jT_xiload (v := (0, x4)) (pcN := 130) jIQ_298_128 rfl rfl rfl ?_
  refine jT_xiload (v := (0, 1)) (pcN := 132) jIQ_298_130 rfl rfl rfl ?_
  refine jT_callA [0, 1, 2, 3, 4, 5, 6, 7, 8, 9, 10, 11, 12, 13, 14, 15, 16, 17, 18, 19, 20, 21] (y := 297) (pcN := 135) (dC := 7) (bc1 := 62) (bc2 := 3222) (c1 := 68942) (c2 := 3688302) (as := [(4, 0), (0, x4), (0, 1)]) (asC := [(4, 0), (0, x4), (0, 1)]) (LN := [(6, (0, 1)), (5, (4, 26)), (0, (4, 0)), (1, (0, x1)), (2, (0, x2)), (3, (0, x3)), (4, (0, x4))]) (stN := [(0, 1), (4, 26)]) (hsC := jpQ_730) (ex := []) (v := (0, jbp1 x4)) (st2 := [(0, jbp1 x4), (0, 1), (4, 26)]) (hs2 := [jzQ_20, (100, [], jS0), jgh, jgh, jgh, jgh, (130, [], [16, 17, 18, 19, 20, 21]), (101, [], [0, 0, 0, 0, 0, 0]), jgh, jgh, jgh, jgh, jgh, jgh, jgh, jgh, (100, [], (jenc (jlg 0))), (100, [], (jenc (jlg 1))), (100, [], (jenc (jlg 2))), (100, [], (jenc (jlg 3))), (100, [], (jenc (jlg 4))), (100, [], (jenc (jlg 5))), (101, [], [(-1), 0, 0, 0, 0, 0]), (100, [], (jenc 0)), (100, [], (jenc (-1))), (100, [], (jenc ((-1) * (jlg 0)))), (100, [], [q1, 0, 0])]) (jQ_297_283 (d := 0) (by omega)) (by rfl) (by rfl) (by rfl) (by rfl) ⟨rfl, rfl, rfl, rfl, rfl, rfl, rfl, rfl, rfl, rfl, rfl, rfl, rfl, rfl, rfl, rfl, rfl, rfl, rfl, rfl, rfl, rfl, trivial⟩ (by rfl) (by rfl) (by omega) (by show 22 ≤ 27; omega) (by omega) (by omega) rfl rfl ?_
  have hb_q2 := jbp_b1 (p := x4) (by omega)
  generalize hq_q2 : jbp1 x4 = q2 at hb_q2 ⊢
  refine jT_adv 1 (pcN := 136) (LN := [(6, (0, 1)), (5, (4, 26)), (0, (4, 0)), (1, (0, x1)), (2, (0, x2)), (3, (0, x3)), (4, (0, x4))]) (stN := []) (hsN := [jzQ_20, (100, [], jS0), jgh, jgh, jgh, jgh, (130, [], [16, 17, 18, 19, 20, 21]), (101, [], [0, 0, 0, 0, 0, 0]), jgh, jgh, jgh, jgh, jgh, jgh, jgh, jgh, (100, [], (jenc (jlg 0))), (100, [], (jenc (jlg 1))), (100, [], (jenc (jlg 2))), (100, [], (jenc (jlg 3))), (100, [], (jenc (jlg 4))), (100, [], (jenc (jlg 5))), (101, [], [(-1), 0, 0, 0, 0, 0]), (100, [], (jenc 0)), (100, [], (jenc (-1))), (100, [], (jenc ((-1) * (jlg 0)))), (100, [], [q1, q2, 0])]) (c1 := 0) (s1 := 0) (c2 := 68942) (s2 := 3688302) (by exact rfl) ?_ (by omega) (by omega)
  refine jT_xiinc (x := 1) (z := 2) (LN := [(6, (0, 2)), (5, (4, 26)), (0, (4, 0)), (1, (0, x1)), (2, (0, x2)), (3, (0, x3)), (4, (0, x4))]) (pcN := 139) jIQ_298_136 rfl rfl (by decide) rfl rfl ?_
  refine jT_xgoto (pcN := 112) jIQ_298_139 rfl ?_
  refine jT_xiload (v := (0, 2)) (pcN := 114) jIQ_298_112 rfl rfl rfl ?_
  refine jT_xiconst (k := 3) (pcN := 115) jIQ_298_114 rfl ?_
  refine jT_xicF (t := 142) (pcN := 118) jIQ_298_115 rfl (by decide +kernel) rfl rfl ?_
  refine jT_xiload (v := (0, x4)) (pcN := 120) jIQ_298_118 rfl rfl rfl ?_
  refine jT_ifF (a := x4) (t := 142) (by rfl) (by rfl) (by rfl) (jw_idd (by omega) (by omega)) (by simp only [jcP] <;> omega) ?_
  refine jT_xaload (v := (4, 26)) (pcN := 125) jIQ_298_123 rfl rfl rfl ?_
  refine jT_xiload (v := (0, 2)) (pcN := 127) jIQ_298_125 rfl rfl rfl ?_
  refine jT_xaload_n (v := (4, 0)) (pcN := 128) jIQ_298_127 rfl rfl rfl ?_
  refine jT_xiload (v := (0, x4)) (pcN := 130) jIQ_298_128 rfl rfl rfl ?_
  refine jT_xiload (v := (0, 2)) (pcN := 132) jIQ_298_130 rfl rfl rfl ?_
  refine jT_callA [0, 1, 2, 3, 4, 5, 6, 7, 8, 9, 10, 11, 12, 13, 14, 15, 16, 17, 18, 19, 20, 21] (y := 297) (pcN := 135) (dC := 7) (bc1 := 62) (bc2 := 3222) (c1 := 68880) (c2 := 3685080) (as := [(4, 0), (0, x4), (0, 2)]) (asC := [(4, 0), (0, x4), (0, 2)]) (LN := [(6, (0, 2)), (5, (4, 26)), (0, (4, 0)), (1, (0, x1)), (2, (0, x2)), (3, (0, x3)), (4, (0, x4))]) (stN := [(0, 2), (4, 26)]) (hsC := jpQ_730) (ex := []) (v := (0, jbp2 x4)) (st2 := [(0, jbp2 x4), (0, 2), (4, 26)]) (hs2 := [jzQ_20, (100, [], jS0), jgh, jgh, jgh, jgh, (130, [], [16, 17, 18, 19, 20, 21]), (101, [], [0, 0, 0, 0, 0, 0]), jgh, jgh, jgh, jgh, jgh, jgh, jgh, jgh, (100, [], (jenc (jlg 0))), (100, [], (jenc (jlg 1))), (100, [], (jenc (jlg 2))), (100, [], (jenc (jlg 3))), (100, [], (jenc (jlg 4))), (100, [], (jenc (jlg 5))), (101, [], [(-1), 0, 0, 0, 0, 0]), (100, [], (jenc 0)), (100, [], (jenc (-1))), (100, [], (jenc ((-1) * (jlg 0)))), (100, [], [q1, q2, 0])]) (jQ_297_294 (d := 0) (by omega)) (by rfl) (by rfl) (by rfl) (by rfl) ⟨rfl, rfl, rfl, rfl, rfl, rfl, rfl, rfl, rfl, rfl, rfl, rfl, rfl, rfl, rfl, rfl, rfl, rfl, rfl, rfl, rfl, rfl, trivial⟩ (by rfl) (by rfl) (by omega) (by show 22 ≤ 27; omega) (by omega) (by omega) rfl rfl ?_
  have hb_q3 := jbp_b2 (p := x4) (by omega)
  generalize hq_q3 : jbp2 x4 = q3 at hb_q3 ⊢
  refine jT_adv 1 (pcN := 136) (LN := [(6, (0, 2)), (5, (4, 26)), (0, (4, 0)), (1, (0, x1)), (2, (0, x2)), (3, (0, x3)), (4, (0, x4))]) (stN := []) (hsN := [jzQ_20, (100, [], jS0), jgh, jgh, jgh, jgh, (130, [], [16, 17, 18, 19, 20, 21]), (101, [], [0, 0, 0, 0, 0, 0]), jgh, jgh, jgh, jgh, jgh, jgh, jgh, jgh, (100, [], (jenc (jlg 0))), (100, [], (jenc (jlg 1))), (100, [], (jenc (jlg 2))), (100, [], (jenc (jlg 3))), (100, [], (jenc (jlg 4))), (100, [], (jenc (jlg 5))), (101, [], [(-1), 0, 0, 0, 0, 0]), (100, [], (jenc 0)), (100, [], (jenc (-1))), (100, [], (jenc ((-1) * (jlg 0)))), (100, [], [q1, q2, q3])]) (c1 := 0) (s1 := 0) (c2 := 68880) (s2 := 3685080) (by exact rfl) ?_ (by omega) (by omega)
  refine jT_xiinc (x := 2) (z := 3) (LN := [(6, (0, 3)), (5, (4, 26)), (0, (4, 0)), (1, (0, x1)), (2, (0, x2)), (3, (0, x3)), (4, (0, x4))]) (pcN := 139) jIQ_298_136 rfl rfl (by decide) rfl rfl ?_
  refine jT_xgoto (pcN := 112) jIQ_298_139 rfl ?_
  refine jT_xiload (v := (0, 3)) (pcN := 114) jIQ_298_112 rfl rfl rfl ?_
  refine jT_xiconst (k := 3) (pcN := 115) jIQ_298_114 rfl ?_
  refine jT_xicT (pcN := 142) jIQ_298_115 rfl (by decide +kernel) rfl ?_
  refine jT_xiconst (k := 0) (pcN := 143) jIQ_298_142 rfl ?_
  refine jT_xistore (v := (0, 0)) (LN := [(6, (0, 0)), (5, (4, 26)), (0, (4, 0)), (1, (0, x1)), (2, (0, x2)), (3, (0, x3)), (4, (0, x4))]) (pcN := 145) jIQ_298_143 rfl rfl rfl rfl ?_
  refine jT_xiload_n (v := (0, x1)) (pcN := 146) jIQ_298_145 rfl rfl rfl ?_
  refine jT_adv 1 (pcN := 147) (LN := [(6, (0, 0)), (5, (4, 26)), (0, (4, 0)), (1, (0, x1)), (2, (0, x2)), (3, (0, x3)), (4, (0, x4))]) (stN := [(0, -x1)]) (hsN := [jzQ_20, (100, [], jS0), jgh, jgh, jgh, jgh, (130, [], [16, 17, 18, 19, 20, 21]), (101, [], [0, 0, 0, 0, 0, 0]), jgh, jgh, jgh, jgh, jgh, jgh, jgh, jgh, (100, [], (jenc (jlg 0))), (100, [], (jenc (jlg 1))), (100, [], (jenc (jlg 2))), (100, [], (jenc (jlg 3))), (100, [], (jenc (jlg 4))), (100, [], (jenc (jlg 5))), (101, [], [(-1), 0, 0, 0, 0, 0]), (100, [], (jenc 0)), (100, [], (jenc (-1))), (100, [], (jenc ((-1) * (jlg 0)))), (100, [], [q1, q2, q3])]) (c1 := 0) (s1 := 0) (c2 := 68880) (s2 := 3685080) (by exact rfl) ?_ (by omega) (by omega)
  refine jT_xistore (v := (0, -x1)) (LN := [(7, (0, -x1)), (6, (0, 0)), (5, (4, 26)), (0, (4, 0)), (1, (0, x1)), (2, (0, x2)), (3, (0, x3)), (4, (0, x4))]) (pcN := 149) jIQ_298_147 rfl rfl rfl rfl ?_
  refine jT_loc (LN := [(7, (0, -x1)), (6, (0, 0)), (5, (4, 26)), (0, (4, 0)), (1, (0, x1)), (2, (0, x2)), (3, (0, x3))]) (by show List.Nodup [7, 6, 5, 0, 1, 2, 3]; decide) (by intro q hq; simp only [List.mem_cons, List.not_mem_nil, or_false] at hq; rcases hq with rfl | rfl | rfl | rfl | rfl | rfl | rfl <;> rfl) ?_
  refine jT.mono (jQl_gc_295 (b1 := 0) (b2 := 0) (by omega) (y1 := x1) (y2 := x2) (o3 := x3) (k26_0 := q1) (k26_1 := q2) (k26_2 := q3) (by omega) (by omega) (by omega) (by omega) (by omega) (by omega) (fun u7_0 u7_1 u7_2 u7_3 u7_4 u7_5 => ?_) ((x1 + 1 : Int) - (-x1)).toNat (-x1) 0 0 0 0 0 0 (by omega) (by omega)) (Nat.le_refl _) (by omega) (by omega) (fun _ _ _ z => z)
  refine jT_forget (a := 7) (c := (101, [], [u7_0, u7_1, u7_2, u7_3, u7_4, u7_5])) rfl rfl ?_
  refine jT_eq (LN := [(6, (0, 0))]) (stN := []) (hsN := [jzQ_20, (100, [], jS0), jgh, jgh, jgh, jgh, (130, [], [16, 17, 18, 19, 20, 21]), jgh, jgh, jgh, jgh, jgh, jgh, jgh, jgh, jgh, (100, [], (jenc (jlg 0))), (100, [], (jenc (jlg 1))), (100, [], (jenc (jlg 2))), (100, [], (jenc (jlg 3))), (100, [], (jenc (jlg 4))), (100, [], (jenc (jlg 5))), (101, [], [(-1), 0, 0, 0, 0, 0]), (100, [], (jenc 0)), (100, [], (jenc (-1))), (100, [], (jenc ((-1) * (jlg 0)))), (100, [], [q1, q2, q3])]) rfl rfl rfl ?_
  refine jT_xiload (v := (0, 0)) (pcN := 213) jIQ_298_211 rfl rfl rfl ?_
  subst hq_q3
  subst hq_q2
  subst hq_q1
  exact jT_ret rfl (by decide) (by show 22 ≤ 27; omega) (by omega) (by omega) ⟨rfl, rfl, rfl⟩
theorem jQ_115_298 {xs : List Int} {d : Nat} {x3 : Int} (h_x3 : 8 ≤ x3 ∧ x3 ≤ 2147483647) : jT xs d 115 1 0 [(0, (4, 0)), (1, (0, x3)), (2, (0, 8))] [] [jgh] 1 6 (fun k v hsN => k = 1 ∧ v = (0, 0) ∧ hsN = [jgh] ++ []) := by
  refine jT_xiload_n (v := (0, x3)) (pcN := 1) jIQ_115_0 rfl rfl rfl ?_
  refine jT_ifF (a := x3) (t := 9) (by rfl) (by rfl) (by rfl) (jw_idd (by omega) (by omega)) (by simp only [jcP] <;> omega) ?_
  refine jT_xiload_n (v := (0, x3)) (pcN := 5) jIQ_115_4 rfl rfl rfl ?_
  refine jT_xiload_n (v := (0, 8)) (pcN := 6) jIQ_115_5 rfl rfl rfl ?_
  refine jT_icF (a := x3) (b := 8) (t := 20) (by rfl) (by rfl) (by rfl) (jw_idd (by omega) (by omega)) (jw_idd (by omega) (by omega)) (by simp only [jcP] <;> omega) ?_
  exact jT_ret (c1 := 1) (s1 := 6) rfl (by decide) (by show 1 ≤ 1; omega) (by omega) (by omega) ⟨rfl, rfl, rfl⟩
theorem jQ_160_299 {xs : List Int} {d : Nat} {x1 x2 x3 x4 : Int} (h_x1 : 0 ≤ x1 ∧ x1 ≤ 20) (h_x2 : 0 ≤ x2 ∧ x2 ≤ 10) (h_x3 : 8 ≤ x3 ∧ x3 ≤ 2147483647) (h_x4 : 0 ≤ x4 ∧ x4 ≤ 100) : jT xs (d + 1) 160 12 0 [(0, (4, 0)), (1, (0, x1)), (2, (0, x2)), (3, (0, x3)), (4, (0, x4))] [] jpQ_8 1 6 (fun k v hsN => k = 1 ∧ v = (0, 0) ∧ hsN = jpQ_8 ++ []) := by
  refine jT_xaload_n (v := (4, 0)) (pcN := 1) jIQ_160_0 rfl rfl rfl ?_
  refine jT_xiload_n (v := (0, x1)) (pcN := 2) jIQ_160_1 rfl rfl rfl ?_
  refine jT_xiconst (k := 0) (pcN := 3) jIQ_160_2 rfl ?_
  refine jT_xbipush (k := 20) (pcN := 5) jIQ_160_3 (by decide) rfl ?_
  refine jT_fR [0] 12 (y := 116) (pcN := 8) (dC := 0) (bc1 := 0) (bc2 := 0) (c1 := 1) (c2 := 6) (as := [(4, 0), (0, x1), (0, 0), (0, 20)]) (asC := [(4, 0), (0, x1), (0, 0), (0, 20)]) (LN := [(0, (4, 0)), (1, (0, x1)), (2, (0, x2)), (3, (0, x3)), (4, (0, x4))]) (stN := []) (hsC := [jgh]) (v := (9, 0)) (st2 := []) (jQ_116_7 (d := 0) (by omega)) (by rfl) (by rfl) (by decide +kernel) (by rfl) (by rfl) (by omega) (by omega) (by omega) (by omega) rfl ?_
  refine jT_xaload_n (v := (4, 0)) (pcN := 9) jIQ_160_8 rfl rfl rfl ?_
  refine jT_xiload_n (v := (0, x2)) (pcN := 10) jIQ_160_9 rfl rfl rfl ?_
  refine jT_xiconst (k := 0) (pcN := 11) jIQ_160_10 rfl ?_
  refine jT_xbipush (k := 10) (pcN := 13) jIQ_160_11 (by decide) rfl ?_
  refine jT_fR [0] 12 (y := 116) (pcN := 16) (dC := 0) (bc1 := 0) (bc2 := 0) (c1 := 1) (c2 := 6) (as := [(4, 0), (0, x2), (0, 0), (0, 10)]) (asC := [(4, 0), (0, x2), (0, 0), (0, 10)]) (LN := [(0, (4, 0)), (1, (0, x1)), (2, (0, x2)), (3, (0, x3)), (4, (0, x4))]) (stN := []) (hsC := [jgh]) (v := (9, 0)) (st2 := []) (jQ_116_12 (d := 0) (by omega)) (by rfl) (by rfl) (by decide +kernel) (by rfl) (by rfl) (by omega) (by omega) (by omega) (by omega) rfl ?_
  refine jT_xaload_n (v := (4, 0)) (pcN := 17) jIQ_160_16 rfl rfl rfl ?_
  refine jT_xiload (v := (0, x4)) (pcN := 19) jIQ_160_17 rfl rfl rfl ?_
  refine jT_xiconst (k := 0) (pcN := 20) jIQ_160_19 rfl ?_
  refine jT_xbipush (k := 100) (pcN := 22) jIQ_160_20 (by decide) rfl ?_
  refine jT_fR [0] 12 (y := 116) (pcN := 25) (dC := 0) (bc1 := 0) (bc2 := 0) (c1 := 1) (c2 := 6) (as := [(4, 0), (0, x4), (0, 0), (0, 100)]) (asC := [(4, 0), (0, x4), (0, 0), (0, 100)]) (LN := [(0, (4, 0)), (1, (0, x1)), (2, (0, x2)), (3, (0, x3)), (4, (0, x4))]) (stN := []) (hsC := [jgh]) (v := (9, 0)) (st2 := []) (jQ_116_17 (d := 0) (by omega)) (by rfl) (by rfl) (by decide +kernel) (by rfl) (by rfl) (by omega) (by omega) (by omega) (by omega) rfl ?_
  refine jT_xaload_n (v := (4, 0)) (pcN := 26) jIQ_160_25 rfl rfl rfl ?_
  refine jT_xiload_n (v := (0, x3)) (pcN := 27) jIQ_160_26 rfl rfl rfl ?_
  refine jT_xbipush (k := 8) (pcN := 29) jIQ_160_27 (by decide) rfl ?_
  exact jT_fX [0] 12 (y := 115) (pcN := 32) (dC := 0) (bc1 := 1) (bc2 := 6) (as := [(4, 0), (0, x3), (0, 8)]) (asC := [(4, 0), (0, x3), (0, 8)]) (LN := [(0, (4, 0)), (1, (0, x1)), (2, (0, x2)), (3, (0, x3)), (4, (0, x4))]) (stN := []) (hsC := [jgh]) (e := 0) (jQ_115_298 (d := 0) (by omega)) (by rfl) (by rfl) (by decide +kernel) (by rfl) (by rfl) (by omega) (by omega) (by omega) (by omega) ⟨rfl, ⟨rfl, rfl, rfl⟩⟩
theorem jQ_362_300 {xs : List Int} {d : Nat} {x1 x2 x3 x4 : Int} (h_x1 : 0 ≤ x1 ∧ x1 ≤ 20) (h_x2 : 0 ≤ x2 ∧ x2 ≤ 10) (h_x3 : 8 ≤ x3 ∧ x3 ≤ 2147483647) (h_x4 : 0 ≤ x4 ∧ x4 ≤ 100) : jT xs (d + 2) 362 13 0 [(0, (4, 0)), (1, (0, x1)), (2, (0, x2)), (3, (0, x3)), (4, (0, x4)), (5, (4, 1))] [] jpQ_17 1 6 (fun k v hsN => k = 0 ∧ v = (0, 2) ∧ hsN = jpQ_17 ++ []) := by
  refine jT_xaload (v := (4, 1)) (pcN := 2) jIQ_362_0 rfl rfl rfl ?_
  refine jT_xiconst (k := 0) (pcN := 3) jIQ_362_2 rfl ?_
  refine jT_xaload_n (v := (4, 0)) (pcN := 4) jIQ_362_3 rfl rfl rfl ?_
  refine jT_xiload_n (v := (0, x1)) (pcN := 5) jIQ_362_4 rfl rfl rfl ?_
  refine jT_xiload_n (v := (0, x2)) (pcN := 6) jIQ_362_5 rfl rfl rfl ?_
  refine jT_xiload_n (v := (0, x3)) (pcN := 7) jIQ_362_6 rfl rfl rfl ?_
  refine jT_xiload (v := (0, x4)) (pcN := 9) jIQ_362_7 rfl rfl rfl ?_
  exact jT_fX [0, 2, 3, 4, 5, 6, 7, 8, 9, 10, 11, 12] 13 (y := 160) (pcN := 12) (dC := 1) (bc1 := 1) (bc2 := 6) (as := [(4, 0), (0, x1), (0, x2), (0, x3), (0, x4)]) (asC := [(4, 0), (0, x1), (0, x2), (0, x3), (0, x4)]) (LN := [(0, (4, 0)), (1, (0, x1)), (2, (0, x2)), (3, (0, x3)), (4, (0, x4)), (5, (4, 1))]) (stN := [(0, 0), (4, 1)]) (hsC := jpQ_8) (e := 0) (jQ_160_299 (d := 0) (by omega) (by omega) (by omega) (by omega)) (by rfl) (by rfl) (by decide +kernel) (by rfl) (by rfl) (by omega) (by omega) (by omega) (by omega) (show _ from ⟨rfl, rfl, rfl⟩)
theorem jQ_188_301 {xs : List Int} {d : Nat} {x3 : Int} (h_x3 : 8 ≤ x3 ∧ x3 ≤ 2147483647) : jT xs (d + 1) 188 0 0 [(0, (0, x3))] [] [] 0 0 (fun k v hsN => k = 0 ∧ v = (0, 0) ∧ hsN = [] ++ []) := by
  refine jT_xiload_n (v := (0, x3)) (pcN := 1) jIQ_188_0 rfl rfl rfl ?_
  refine jT_xi2l (x := x3) (z := x3) (pcN := 2) jIQ_188_1 rfl (jw_idd (by omega) (by omega)) rfl ?_
  refine jT_xlconst (z := 0) (pcN := 3) jIQ_188_2 rfl rfl ?_
  refine jT_adv 1 (pcN := 6) (LN := [(0, (0, x3))]) (stN := [(1, 7), (1, 0), (1, x3)]) (hsN := []) (c1 := 0) (s1 := 0) (c2 := 0) (s2 := 0) (by exact rfl) ?_ (by omega) (by omega)
  refine jT_fR [] 0 (y := 189) (pcN := 9) (dC := 0) (bc1 := 0) (bc2 := 0) (c1 := 0) (c2 := 0) (as := [(1, x3), (1, 0), (1, 7)]) (asC := [(1, x3), (1, 0), (1, 7)]) (LN := [(0, (0, x3))]) (stN := []) (hsC := []) (v := (0, 0)) (st2 := [(0, 0)]) (jT_in_hi (d := 0) (v := x3) (lo := 0) (hi := 7) (by omega) (by omega) (by omega) (by omega) (by omega)) (by rfl) (by rfl) (by decide +kernel) (by rfl) (by rfl) (by omega) (by omega) (by omega) (by omega) rfl ?_
  exact jT_ret rfl (by decide) (by show 0 ≤ 0; omega) (by omega) (by omega) ⟨rfl, rfl, rfl⟩
theorem jQ_298_302 {xs : List Int} {d : Nat} {x1 x2 x3 x4 : Int} (h_x1 : 0 ≤ x1 ∧ x1 ≤ 20) (h_x2 : 0 ≤ x2 ∧ x2 ≤ 10) (h_x3 : 8 ≤ x3 ∧ x3 ≤ 2147483647) (h_x4 : 0 ≤ x4 ∧ x4 ≤ 100) : jT xs (d + 2) 298 16 0 [(0, (4, 0)), (1, (0, x1)), (2, (0, x2)), (3, (0, x3)), (4, (0, x4))] [] jpQ_21 0 0 (fun k v hsN => k = 0 ∧ v = (0, 0) ∧ hsN = jpQ_61) := by
  refine jT_xaload_n (v := (4, 0)) (pcN := 1) jIQ_298_0 rfl rfl rfl ?_
  refine jT_xiconst (k := 0) (pcN := 2) jIQ_298_1 rfl ?_
  refine jT_adv 1 (pcN := 5) (LN := [(0, (4, 0)), (1, (0, x1)), (2, (0, x2)), (3, (0, x3)), (4, (0, x4))]) (stN := []) (hsN := jpQ_21) (c1 := 0) (s1 := 0) (c2 := 0) (s2 := 0) (by exact rfl) ?_ (by omega) (by omega)
  refine jT_xaload_n (v := (4, 0)) (pcN := 6) jIQ_298_5 rfl rfl rfl ?_
  refine jT_xiload_n (v := (0, x1)) (pcN := 7) jIQ_298_6 rfl rfl rfl ?_
  refine jT_xi2l (x := x1) (z := x1) (pcN := 8) jIQ_298_7 rfl (jw_idd (by omega) (by omega)) rfl ?_
  refine jT_xlconst (z := 0) (pcN := 9) jIQ_298_8 rfl rfl ?_
  refine jT_adv 1 (pcN := 12) (LN := [(0, (4, 0)), (1, (0, x1)), (2, (0, x2)), (3, (0, x3)), (4, (0, x4))]) (stN := [(1, 20), (1, 0), (1, x1), (4, 0)]) (hsN := jpQ_21) (c1 := 0) (s1 := 0) (c2 := 0) (s2 := 0) (by exact rfl) ?_ (by omega) (by omega)
  refine jT_fR [] 16 (y := 189) (pcN := 15) (dC := 0) (bc1 := 0) (bc2 := 0) (c1 := 0) (c2 := 0) (as := [(1, x1), (1, 0), (1, 20)]) (asC := [(1, x1), (1, 0), (1, 20)]) (LN := [(0, (4, 0)), (1, (0, x1)), (2, (0, x2)), (3, (0, x3)), (4, (0, x4))]) (stN := [(4, 0)]) (hsC := []) (v := (0, 1)) (st2 := [(0, 1), (4, 0)]) (jT_in_ok (d := 0) (v := x1) (lo := 0) (hi := 20) (by omega) (by omega) (by omega) (by omega) (by omega)) (by rfl) (by rfl) (by decide +kernel) (by rfl) (by rfl) (by omega) (by omega) (by omega) (by omega) rfl ?_
  refine jT_xifF (t := 47) (pcN := 18) jIQ_298_15 rfl (by decide +kernel) rfl rfl ?_
  refine jT_xiload_n (v := (0, x2)) (pcN := 19) jIQ_298_18 rfl rfl rfl ?_
  refine jT_xi2l (x := x2) (z := x2) (pcN := 20) jIQ_298_19 rfl (jw_idd (by omega) (by omega)) rfl ?_
  refine jT_xlconst (z := 0) (pcN := 21) jIQ_298_20 rfl rfl ?_
  refine jT_adv 1 (pcN := 24) (LN := [(0, (4, 0)), (1, (0, x1)), (2, (0, x2)), (3, (0, x3)), (4, (0, x4))]) (stN := [(1, 10), (1, 0), (1, x2), (4, 0)]) (hsN := jpQ_21) (c1 := 0) (s1 := 0) (c2 := 0) (s2 := 0) (by exact rfl) ?_ (by omega) (by omega)
  refine jT_fR [] 16 (y := 189) (pcN := 27) (dC := 0) (bc1 := 0) (bc2 := 0) (c1 := 0) (c2 := 0) (as := [(1, x2), (1, 0), (1, 10)]) (asC := [(1, x2), (1, 0), (1, 10)]) (LN := [(0, (4, 0)), (1, (0, x1)), (2, (0, x2)), (3, (0, x3)), (4, (0, x4))]) (stN := [(4, 0)]) (hsC := []) (v := (0, 1)) (st2 := [(0, 1), (4, 0)]) (jT_in_ok (d := 0) (v := x2) (lo := 0) (hi := 10) (by omega) (by omega) (by omega) (by omega) (by omega)) (by rfl) (by rfl) (by decide +kernel) (by rfl) (by rfl) (by omega) (by omega) (by omega) (by omega) rfl ?_
  refine jT_xifF (t := 47) (pcN := 30) jIQ_298_27 rfl (by decide +kernel) rfl rfl ?_
  refine jT_xiload (v := (0, x4)) (pcN := 32) jIQ_298_30 rfl rfl rfl ?_
  refine jT_xi2l (x := x4) (z := x4) (pcN := 33) jIQ_298_32 rfl (jw_idd (by omega) (by omega)) rfl ?_
  refine jT_xlconst (z := 0) (pcN := 34) jIQ_298_33 rfl rfl ?_
  refine jT_adv 1 (pcN := 37) (LN := [(0, (4, 0)), (1, (0, x1)), (2, (0, x2)), (3, (0, x3)), (4, (0, x4))]) (stN := [(1, 100), (1, 0), (1, x4), (4, 0)]) (hsN := jpQ_21) (c1 := 0) (s1 := 0) (c2 := 0) (s2 := 0) (by exact rfl) ?_ (by omega) (by omega)
  refine jT_fR [] 16 (y := 189) (pcN := 40) (dC := 0) (bc1 := 0) (bc2 := 0) (c1 := 0) (c2 := 0) (as := [(1, x4), (1, 0), (1, 100)]) (asC := [(1, x4), (1, 0), (1, 100)]) (LN := [(0, (4, 0)), (1, (0, x1)), (2, (0, x2)), (3, (0, x3)), (4, (0, x4))]) (stN := [(4, 0)]) (hsC := []) (v := (0, 1)) (st2 := [(0, 1), (4, 0)]) (jT_in_ok (d := 0) (v := x4) (lo := 0) (hi := 100) (by omega) (by omega) (by omega) (by omega) (by omega)) (by rfl) (by rfl) (by decide +kernel) (by rfl) (by rfl) (by omega) (by omega) (by omega) (by omega) rfl ?_
  refine jT_xifF (t := 47) (pcN := 43) jIQ_298_40 rfl (by decide +kernel) rfl rfl ?_
  refine jT_xiconst (k := 1) (pcN := 44) jIQ_298_43 rfl ?_
  refine jT_xgoto (pcN := 48) jIQ_298_44 rfl ?_
  refine jT_xiconst (k := 1) (pcN := 49) jIQ_298_48 rfl ?_
  refine jT_fR [0] 16 (y := 191) (pcN := 52) (dC := 0) (bc1 := 0) (bc2 := 0) (c1 := 0) (c2 := 0) (as := [(4, 0), (0, 1), (0, 1)]) (asC := [(4, 0), (0, 1), (0, 1)]) (LN := [(0, (4, 0)), (1, (0, x1)), (2, (0, x2)), (3, (0, x3)), (4, (0, x4))]) (stN := []) (hsC := [jgh]) (v := (0, 0)) (st2 := [(0, 0)]) (jQ_191_21 (d := 0)) (by rfl) (by rfl) (by decide +kernel) (by rfl) (by rfl) (by omega) (by omega) (by omega) (by omega) rfl ?_
  refine jT_xifF (t := 67) (pcN := 55) jIQ_298_52 rfl (by decide +kernel) rfl rfl ?_
  refine jT_xaload_n (v := (4, 0)) (pcN := 56) jIQ_298_55 rfl rfl rfl ?_
  refine jT_xiload_n (v := (0, x3)) (pcN := 57) jIQ_298_56 rfl rfl rfl ?_
  refine jT_fR [] 16 (y := 188) (pcN := 60) (dC := 1) (bc1 := 0) (bc2 := 0) (c1 := 0) (c2 := 0) (as := [(0, x3)]) (asC := [(0, x3)]) (LN := [(0, (4, 0)), (1, (0, x1)), (2, (0, x2)), (3, (0, x3)), (4, (0, x4))]) (stN := [(4, 0)]) (hsC := []) (v := (0, 0)) (st2 := [(0, 0), (4, 0)]) (jQ_188_301 (d := 0) (by omega)) (by rfl) (by rfl) (by decide +kernel) (by rfl) (by rfl) (by omega) (by omega) (by omega) (by omega) rfl ?_
  refine jT_xiconst (k := 2) (pcN := 61) jIQ_298_60 rfl ?_
  refine jT_fB [0, 1, 2, 3, 4, 5, 6, 7, 8, 9, 10, 11, 12, 13, 14, 15] 16 (y := 191) (pcN := 64) (dC := 0) (bc1 := 0) (bc2 := 0) (c1 := 0) (c2 := 0) (as := [(4, 0), (0, 0), (0, 2)]) (asC := [(4, 0), (0, 0), (0, 2)]) (LN := [(0, (4, 0)), (1, (0, x1)), (2, (0, x2)), (3, (0, x3)), (4, (0, x4))]) (stN := []) (hsC := jpQ_21) (hsD := jpQ_61) (v := (0, 1)) (st2 := [(0, 1)]) (hs2 := jpQ_61) (jQ_191_23 (d := 0)) (by rfl) (by rfl) (by decide +kernel) (by rfl) (by rfl) (by omega) (by omega) (by omega) (by omega) rfl (by decide +kernel) ?_
  refine jT_xifF (t := 69) (pcN := 67) jIQ_298_64 rfl (by decide +kernel) rfl rfl ?_
  refine jT_xiconst (k := 0) (pcN := 68) jIQ_298_67 rfl ?_
  exact jT_ret rfl (by decide) (by show 16 ≤ 16; omega) (by omega) (by omega) ⟨rfl, rfl, rfl⟩
theorem jQ_116_303 {xs : List Int} {d : Nat} {x4 : Int} (h_x4 : 101 ≤ x4 ∧ x4 ≤ 2147483647) : jT xs d 116 1 0 [(0, (4, 0)), (1, (0, x4)), (2, (0, 0)), (3, (0, 100))] [] [jgh] 1 6 (fun k v hsN => k = 1 ∧ v = (0, 1) ∧ hsN = [jgh] ++ []) := by
  refine jT_xiload_n (v := (0, x4)) (pcN := 1) jIQ_116_0 rfl rfl rfl ?_
  refine jT_xiload_n (v := (0, 0)) (pcN := 2) jIQ_116_1 rfl rfl rfl ?_
  refine jT_icF (a := x4) (b := 0) (t := 10) (by rfl) (by rfl) (by rfl) (jw_idd (by omega) (by omega)) (jw_idd (by omega) (by omega)) (by simp only [jcP] <;> omega) ?_
  refine jT_xiload_n (v := (0, x4)) (pcN := 6) jIQ_116_5 rfl rfl rfl ?_
  refine jT_xiload_n (v := (0, 100)) (pcN := 7) jIQ_116_6 rfl rfl rfl ?_
  refine jT_icF (a := x4) (b := 100) (t := 21) (by rfl) (by rfl) (by rfl) (jw_idd (by omega) (by omega)) (jw_idd (by omega) (by omega)) (by simp only [jcP] <;> omega) ?_
  exact jT_ret (c1 := 1) (s1 := 6) rfl (by decide) (by show 1 ≤ 1; omega) (by omega) (by omega) ⟨rfl, rfl, rfl⟩
theorem jQ_160_304 {xs : List Int} {d : Nat} {x1 x2 x3 x4 : Int} (h_x1 : 0 ≤ x1 ∧ x1 ≤ 20) (h_x2 : 0 ≤ x2 ∧ x2 ≤ 10) (h_x3 : (-2147483648) ≤ x3 ∧ x3 ≤ 2147483647) (h_x4 : 101 ≤ x4 ∧ x4 ≤ 2147483647) : jT xs (d + 1) 160 12 0 [(0, (4, 0)), (1, (0, x1)), (2, (0, x2)), (3, (0, x3)), (4, (0, x4))] [] jpQ_8 1 6 (fun k v hsN => k = 1 ∧ v = (0, 1) ∧ hsN = jpQ_8 ++ []) := by
  refine jT_xaload_n (v := (4, 0)) (pcN := 1) jIQ_160_0 rfl rfl rfl ?_
  refine jT_xiload_n (v := (0, x1)) (pcN := 2) jIQ_160_1 rfl rfl rfl ?_
  refine jT_xiconst (k := 0) (pcN := 3) jIQ_160_2 rfl ?_
  refine jT_xbipush (k := 20) (pcN := 5) jIQ_160_3 (by decide) rfl ?_
  refine jT_fR [0] 12 (y := 116) (pcN := 8) (dC := 0) (bc1 := 0) (bc2 := 0) (c1 := 1) (c2 := 6) (as := [(4, 0), (0, x1), (0, 0), (0, 20)]) (asC := [(4, 0), (0, x1), (0, 0), (0, 20)]) (LN := [(0, (4, 0)), (1, (0, x1)), (2, (0, x2)), (3, (0, x3)), (4, (0, x4))]) (stN := []) (hsC := [jgh]) (v := (9, 0)) (st2 := []) (jQ_116_7 (d := 0) (by omega)) (by rfl) (by rfl) (by decide +kernel) (by rfl) (by rfl) (by omega) (by omega) (by omega) (by omega) rfl ?_
  refine jT_xaload_n (v := (4, 0)) (pcN := 9) jIQ_160_8 rfl rfl rfl ?_
  refine jT_xiload_n (v := (0, x2)) (pcN := 10) jIQ_160_9 rfl rfl rfl ?_
  refine jT_xiconst (k := 0) (pcN := 11) jIQ_160_10 rfl ?_
  refine jT_xbipush (k := 10) (pcN := 13) jIQ_160_11 (by decide) rfl ?_
  refine jT_fR [0] 12 (y := 116) (pcN := 16) (dC := 0) (bc1 := 0) (bc2 := 0) (c1 := 1) (c2 := 6) (as := [(4, 0), (0, x2), (0, 0), (0, 10)]) (asC := [(4, 0), (0, x2), (0, 0), (0, 10)]) (LN := [(0, (4, 0)), (1, (0, x1)), (2, (0, x2)), (3, (0, x3)), (4, (0, x4))]) (stN := []) (hsC := [jgh]) (v := (9, 0)) (st2 := []) (jQ_116_12 (d := 0) (by omega)) (by rfl) (by rfl) (by decide +kernel) (by rfl) (by rfl) (by omega) (by omega) (by omega) (by omega) rfl ?_
  refine jT_xaload_n (v := (4, 0)) (pcN := 17) jIQ_160_16 rfl rfl rfl ?_
  refine jT_xiload (v := (0, x4)) (pcN := 19) jIQ_160_17 rfl rfl rfl ?_
  refine jT_xiconst (k := 0) (pcN := 20) jIQ_160_19 rfl ?_
  refine jT_xbipush (k := 100) (pcN := 22) jIQ_160_20 (by decide) rfl ?_
  exact jT_fX [0] 12 (y := 116) (pcN := 25) (dC := 0) (bc1 := 1) (bc2 := 6) (as := [(4, 0), (0, x4), (0, 0), (0, 100)]) (asC := [(4, 0), (0, x4), (0, 0), (0, 100)]) (LN := [(0, (4, 0)), (1, (0, x1)), (2, (0, x2)), (3, (0, x3)), (4, (0, x4))]) (stN := []) (hsC := [jgh]) (e := 1) (jQ_116_303 (d := 0) (by omega)) (by rfl) (by rfl) (by decide +kernel) (by rfl) (by rfl) (by omega) (by omega) (by omega) (by omega) ⟨rfl, ⟨rfl, rfl, rfl⟩⟩
theorem jQ_362_305 {xs : List Int} {d : Nat} {x1 x2 x3 x4 : Int} (h_x1 : 0 ≤ x1 ∧ x1 ≤ 20) (h_x2 : 0 ≤ x2 ∧ x2 ≤ 10) (h_x3 : (-2147483648) ≤ x3 ∧ x3 ≤ 2147483647) (h_x4 : 101 ≤ x4 ∧ x4 ≤ 2147483647) : jT xs (d + 2) 362 13 0 [(0, (4, 0)), (1, (0, x1)), (2, (0, x2)), (3, (0, x3)), (4, (0, x4)), (5, (4, 1))] [] jpQ_17 1 6 (fun k v hsN => k = 0 ∧ v = (0, 1) ∧ hsN = jpQ_17 ++ []) := by
  refine jT_xaload (v := (4, 1)) (pcN := 2) jIQ_362_0 rfl rfl rfl ?_
  refine jT_xiconst (k := 0) (pcN := 3) jIQ_362_2 rfl ?_
  refine jT_xaload_n (v := (4, 0)) (pcN := 4) jIQ_362_3 rfl rfl rfl ?_
  refine jT_xiload_n (v := (0, x1)) (pcN := 5) jIQ_362_4 rfl rfl rfl ?_
  refine jT_xiload_n (v := (0, x2)) (pcN := 6) jIQ_362_5 rfl rfl rfl ?_
  refine jT_xiload_n (v := (0, x3)) (pcN := 7) jIQ_362_6 rfl rfl rfl ?_
  refine jT_xiload (v := (0, x4)) (pcN := 9) jIQ_362_7 rfl rfl rfl ?_
  exact jT_fX [0, 2, 3, 4, 5, 6, 7, 8, 9, 10, 11, 12] 13 (y := 160) (pcN := 12) (dC := 1) (bc1 := 1) (bc2 := 6) (as := [(4, 0), (0, x1), (0, x2), (0, x3), (0, x4)]) (asC := [(4, 0), (0, x1), (0, x2), (0, x3), (0, x4)]) (LN := [(0, (4, 0)), (1, (0, x1)), (2, (0, x2)), (3, (0, x3)), (4, (0, x4)), (5, (4, 1))]) (stN := [(0, 0), (4, 1)]) (hsC := jpQ_8) (e := 1) (jQ_160_304 (d := 0) (by omega) (by omega) (by omega) (by omega)) (by rfl) (by rfl) (by decide +kernel) (by rfl) (by rfl) (by omega) (by omega) (by omega) (by omega) (show _ from ⟨rfl, rfl, rfl⟩)
theorem jQ_298_306 {xs : List Int} {d : Nat} {x1 x2 x3 x4 : Int} (h_x1 : 0 ≤ x1 ∧ x1 ≤ 20) (h_x2 : 0 ≤ x2 ∧ x2 ≤ 10) (h_x3 : (-2147483648) ≤ x3 ∧ x3 ≤ 2147483647) (h_x4 : 101 ≤ x4 ∧ x4 ≤ 2147483647) : jT xs (d + 1) 298 16 0 [(0, (4, 0)), (1, (0, x1)), (2, (0, x2)), (3, (0, x3)), (4, (0, x4))] [] jpQ_21 0 0 (fun k v hsN => k = 0 ∧ v = (0, 0) ∧ hsN = jpQ_19) := by
  refine jT_xaload_n (v := (4, 0)) (pcN := 1) jIQ_298_0 rfl rfl rfl ?_
  refine jT_xiconst (k := 0) (pcN := 2) jIQ_298_1 rfl ?_
  refine jT_adv 1 (pcN := 5) (LN := [(0, (4, 0)), (1, (0, x1)), (2, (0, x2)), (3, (0, x3)), (4, (0, x4))]) (stN := []) (hsN := jpQ_21) (c1 := 0) (s1 := 0) (c2 := 0) (s2 := 0) (by exact rfl) ?_ (by omega) (by omega)
  refine jT_xaload_n (v := (4, 0)) (pcN := 6) jIQ_298_5 rfl rfl rfl ?_
  refine jT_xiload_n (v := (0, x1)) (pcN := 7) jIQ_298_6 rfl rfl rfl ?_
  refine jT_xi2l (x := x1) (z := x1) (pcN := 8) jIQ_298_7 rfl (jw_idd (by omega) (by omega)) rfl ?_
  refine jT_xlconst (z := 0) (pcN := 9) jIQ_298_8 rfl rfl ?_
  refine jT_adv 1 (pcN := 12) (LN := [(0, (4, 0)), (1, (0, x1)), (2, (0, x2)), (3, (0, x3)), (4, (0, x4))]) (stN := [(1, 20), (1, 0), (1, x1), (4, 0)]) (hsN := jpQ_21) (c1 := 0) (s1 := 0) (c2 := 0) (s2 := 0) (by exact rfl) ?_ (by omega) (by omega)
  refine jT_fR [] 16 (y := 189) (pcN := 15) (dC := 0) (bc1 := 0) (bc2 := 0) (c1 := 0) (c2 := 0) (as := [(1, x1), (1, 0), (1, 20)]) (asC := [(1, x1), (1, 0), (1, 20)]) (LN := [(0, (4, 0)), (1, (0, x1)), (2, (0, x2)), (3, (0, x3)), (4, (0, x4))]) (stN := [(4, 0)]) (hsC := []) (v := (0, 1)) (st2 := [(0, 1), (4, 0)]) (jT_in_ok (d := 0) (v := x1) (lo := 0) (hi := 20) (by omega) (by omega) (by omega) (by omega) (by omega)) (by rfl) (by rfl) (by decide +kernel) (by rfl) (by rfl) (by omega) (by omega) (by omega) (by omega) rfl ?_
  refine jT_xifF (t := 47) (pcN := 18) jIQ_298_15 rfl (by decide +kernel) rfl rfl ?_
  refine jT_xiload_n (v := (0, x2)) (pcN := 19) jIQ_298_18 rfl rfl rfl ?_
  refine jT_xi2l (x := x2) (z := x2) (pcN := 20) jIQ_298_19 rfl (jw_idd (by omega) (by omega)) rfl ?_
  refine jT_xlconst (z := 0) (pcN := 21) jIQ_298_20 rfl rfl ?_
  refine jT_adv 1 (pcN := 24) (LN := [(0, (4, 0)), (1, (0, x1)), (2, (0, x2)), (3, (0, x3)), (4, (0, x4))]) (stN := [(1, 10), (1, 0), (1, x2), (4, 0)]) (hsN := jpQ_21) (c1 := 0) (s1 := 0) (c2 := 0) (s2 := 0) (by exact rfl) ?_ (by omega) (by omega)
  refine jT_fR [] 16 (y := 189) (pcN := 27) (dC := 0) (bc1 := 0) (bc2 := 0) (c1 := 0) (c2 := 0) (as := [(1, x2), (1, 0), (1, 10)]) (asC := [(1, x2), (1, 0), (1, 10)]) (LN := [(0, (4, 0)), (1, (0, x1)), (2, (0, x2)), (3, (0, x3)), (4, (0, x4))]) (stN := [(4, 0)]) (hsC := []) (v := (0, 1)) (st2 := [(0, 1), (4, 0)]) (jT_in_ok (d := 0) (v := x2) (lo := 0) (hi := 10) (by omega) (by omega) (by omega) (by omega) (by omega)) (by rfl) (by rfl) (by decide +kernel) (by rfl) (by rfl) (by omega) (by omega) (by omega) (by omega) rfl ?_
  refine jT_xifF (t := 47) (pcN := 30) jIQ_298_27 rfl (by decide +kernel) rfl rfl ?_
  refine jT_xiload (v := (0, x4)) (pcN := 32) jIQ_298_30 rfl rfl rfl ?_
  refine jT_xi2l (x := x4) (z := x4) (pcN := 33) jIQ_298_32 rfl (jw_idd (by omega) (by omega)) rfl ?_
  refine jT_xlconst (z := 0) (pcN := 34) jIQ_298_33 rfl rfl ?_
  refine jT_adv 1 (pcN := 37) (LN := [(0, (4, 0)), (1, (0, x1)), (2, (0, x2)), (3, (0, x3)), (4, (0, x4))]) (stN := [(1, 100), (1, 0), (1, x4), (4, 0)]) (hsN := jpQ_21) (c1 := 0) (s1 := 0) (c2 := 0) (s2 := 0) (by exact rfl) ?_ (by omega) (by omega)
  refine jT_fR [] 16 (y := 189) (pcN := 40) (dC := 0) (bc1 := 0) (bc2 := 0) (c1 := 0) (c2 := 0) (as := [(1, x4), (1, 0), (1, 100)]) (asC := [(1, x4), (1, 0), (1, 100)]) (LN := [(0, (4, 0)), (1, (0, x1)), (2, (0, x2)), (3, (0, x3)), (4, (0, x4))]) (stN := [(4, 0)]) (hsC := []) (v := (0, 0)) (st2 := [(0, 0), (4, 0)]) (jT_in_hi (d := 0) (v := x4) (lo := 0) (hi := 100) (by omega) (by omega) (by omega) (by omega) (by omega)) (by rfl) (by rfl) (by decide +kernel) (by rfl) (by rfl) (by omega) (by omega) (by omega) (by omega) rfl ?_
  refine jT_xifT (pcN := 47) jIQ_298_40 rfl (by decide +kernel) rfl ?_
  refine jT_xiconst (k := 0) (pcN := 48) jIQ_298_47 rfl ?_
  refine jT_xiconst (k := 1) (pcN := 49) jIQ_298_48 rfl ?_
  refine jT_fB [0, 1, 2, 3, 4, 5, 6, 7, 8, 9, 10, 11, 12, 13, 14, 15] 16 (y := 191) (pcN := 52) (dC := 0) (bc1 := 0) (bc2 := 0) (c1 := 0) (c2 := 0) (as := [(4, 0), (0, 0), (0, 1)]) (asC := [(4, 0), (0, 0), (0, 1)]) (LN := [(0, (4, 0)), (1, (0, x1)), (2, (0, x2)), (3, (0, x3)), (4, (0, x4))]) (stN := []) (hsC := jpQ_21) (hsD := jpQ_19) (v := (0, 1)) (st2 := [(0, 1)]) (hs2 := jpQ_19) (jQ_191_4 (d := 0)) (by rfl) (by rfl) (by decide +kernel) (by rfl) (by rfl) (by omega) (by omega) (by omega) (by omega) rfl (by decide +kernel) ?_
  refine jT_xifT (pcN := 67) jIQ_298_52 rfl (by decide +kernel) rfl ?_
  refine jT_xiconst (k := 0) (pcN := 68) jIQ_298_67 rfl ?_
  exact jT_ret rfl (by decide) (by show 16 ≤ 16; omega) (by omega) (by omega) ⟨rfl, rfl, rfl⟩
theorem jQ_116_307 {xs : List Int} {d : Nat} {x2 : Int} (h_x2 : 11 ≤ x2 ∧ x2 ≤ 2147483647) : jT xs d 116 1 0 [(0, (4, 0)), (1, (0, x2)), (2, (0, 0)), (3, (0, 10))] [] [jgh] 1 6 (fun k v hsN => k = 1 ∧ v = (0, 1) ∧ hsN = [jgh] ++ []) := by
  refine jT_xiload_n (v := (0, x2)) (pcN := 1) jIQ_116_0 rfl rfl rfl ?_
  refine jT_xiload_n (v := (0, 0)) (pcN := 2) jIQ_116_1 rfl rfl rfl ?_
  refine jT_icF (a := x2) (b := 0) (t := 10) (by rfl) (by rfl) (by rfl) (jw_idd (by omega) (by omega)) (jw_idd (by omega) (by omega)) (by simp only [jcP] <;> omega) ?_
  refine jT_xiload_n (v := (0, x2)) (pcN := 6) jIQ_116_5 rfl rfl rfl ?_
  refine jT_xiload_n (v := (0, 10)) (pcN := 7) jIQ_116_6 rfl rfl rfl ?_
  refine jT_icF (a := x2) (b := 10) (t := 21) (by rfl) (by rfl) (by rfl) (jw_idd (by omega) (by omega)) (jw_idd (by omega) (by omega)) (by simp only [jcP] <;> omega) ?_
  exact jT_ret (c1 := 1) (s1 := 6) rfl (by decide) (by show 1 ≤ 1; omega) (by omega) (by omega) ⟨rfl, rfl, rfl⟩
theorem jQ_160_308 {xs : List Int} {d : Nat} {x1 x2 x3 x4 : Int} (h_x1 : 0 ≤ x1 ∧ x1 ≤ 20) (h_x2 : 11 ≤ x2 ∧ x2 ≤ 2147483647) (h_x3 : (-2147483648) ≤ x3 ∧ x3 ≤ 2147483647) (h_x4 : (-2147483648) ≤ x4 ∧ x4 ≤ 2147483647) : jT xs (d + 1) 160 12 0 [(0, (4, 0)), (1, (0, x1)), (2, (0, x2)), (3, (0, x3)), (4, (0, x4))] [] jpQ_8 1 6 (fun k v hsN => k = 1 ∧ v = (0, 1) ∧ hsN = jpQ_8 ++ []) := by
  refine jT_xaload_n (v := (4, 0)) (pcN := 1) jIQ_160_0 rfl rfl rfl ?_
  refine jT_xiload_n (v := (0, x1)) (pcN := 2) jIQ_160_1 rfl rfl rfl ?_
  refine jT_xiconst (k := 0) (pcN := 3) jIQ_160_2 rfl ?_
  refine jT_xbipush (k := 20) (pcN := 5) jIQ_160_3 (by decide) rfl ?_
  refine jT_fR [0] 12 (y := 116) (pcN := 8) (dC := 0) (bc1 := 0) (bc2 := 0) (c1 := 1) (c2 := 6) (as := [(4, 0), (0, x1), (0, 0), (0, 20)]) (asC := [(4, 0), (0, x1), (0, 0), (0, 20)]) (LN := [(0, (4, 0)), (1, (0, x1)), (2, (0, x2)), (3, (0, x3)), (4, (0, x4))]) (stN := []) (hsC := [jgh]) (v := (9, 0)) (st2 := []) (jQ_116_7 (d := 0) (by omega)) (by rfl) (by rfl) (by decide +kernel) (by rfl) (by rfl) (by omega) (by omega) (by omega) (by omega) rfl ?_
  refine jT_xaload_n (v := (4, 0)) (pcN := 9) jIQ_160_8 rfl rfl rfl ?_
  refine jT_xiload_n (v := (0, x2)) (pcN := 10) jIQ_160_9 rfl rfl rfl ?_
  refine jT_xiconst (k := 0) (pcN := 11) jIQ_160_10 rfl ?_
  refine jT_xbipush (k := 10) (pcN := 13) jIQ_160_11 (by decide) rfl ?_
  exact jT_fX [0] 12 (y := 116) (pcN := 16) (dC := 0) (bc1 := 1) (bc2 := 6) (as := [(4, 0), (0, x2), (0, 0), (0, 10)]) (asC := [(4, 0), (0, x2), (0, 0), (0, 10)]) (LN := [(0, (4, 0)), (1, (0, x1)), (2, (0, x2)), (3, (0, x3)), (4, (0, x4))]) (stN := []) (hsC := [jgh]) (e := 1) (jQ_116_307 (d := 0) (by omega)) (by rfl) (by rfl) (by decide +kernel) (by rfl) (by rfl) (by omega) (by omega) (by omega) (by omega) ⟨rfl, ⟨rfl, rfl, rfl⟩⟩
theorem jQ_362_309 {xs : List Int} {d : Nat} {x1 x2 x3 x4 : Int} (h_x1 : 0 ≤ x1 ∧ x1 ≤ 20) (h_x2 : 11 ≤ x2 ∧ x2 ≤ 2147483647) (h_x3 : (-2147483648) ≤ x3 ∧ x3 ≤ 2147483647) (h_x4 : (-2147483648) ≤ x4 ∧ x4 ≤ 2147483647) : jT xs (d + 2) 362 13 0 [(0, (4, 0)), (1, (0, x1)), (2, (0, x2)), (3, (0, x3)), (4, (0, x4)), (5, (4, 1))] [] jpQ_17 1 6 (fun k v hsN => k = 0 ∧ v = (0, 1) ∧ hsN = jpQ_17 ++ []) := by
  refine jT_xaload (v := (4, 1)) (pcN := 2) jIQ_362_0 rfl rfl rfl ?_
  refine jT_xiconst (k := 0) (pcN := 3) jIQ_362_2 rfl ?_
  refine jT_xaload_n (v := (4, 0)) (pcN := 4) jIQ_362_3 rfl rfl rfl ?_
  refine jT_xiload_n (v := (0, x1)) (pcN := 5) jIQ_362_4 rfl rfl rfl ?_
  refine jT_xiload_n (v := (0, x2)) (pcN := 6) jIQ_362_5 rfl rfl rfl ?_
  refine jT_xiload_n (v := (0, x3)) (pcN := 7) jIQ_362_6 rfl rfl rfl ?_
  refine jT_xiload (v := (0, x4)) (pcN := 9) jIQ_362_7 rfl rfl rfl ?_
  exact jT_fX [0, 2, 3, 4, 5, 6, 7, 8, 9, 10, 11, 12] 13 (y := 160) (pcN := 12) (dC := 1) (bc1 := 1) (bc2 := 6) (as := [(4, 0), (0, x1), (0, x2), (0, x3), (0, x4)]) (asC := [(4, 0), (0, x1), (0, x2), (0, x3), (0, x4)]) (LN := [(0, (4, 0)), (1, (0, x1)), (2, (0, x2)), (3, (0, x3)), (4, (0, x4)), (5, (4, 1))]) (stN := [(0, 0), (4, 1)]) (hsC := jpQ_8) (e := 1) (jQ_160_308 (d := 0) (by omega) (by omega) (by omega) (by omega)) (by rfl) (by rfl) (by decide +kernel) (by rfl) (by rfl) (by omega) (by omega) (by omega) (by omega) (show _ from ⟨rfl, rfl, rfl⟩)
theorem jQ_298_310 {xs : List Int} {d : Nat} {x1 x2 x3 x4 : Int} (h_x1 : 0 ≤ x1 ∧ x1 ≤ 20) (h_x2 : 11 ≤ x2 ∧ x2 ≤ 2147483647) (h_x3 : (-2147483648) ≤ x3 ∧ x3 ≤ 2147483647) (h_x4 : (-2147483648) ≤ x4 ∧ x4 ≤ 2147483647) : jT xs (d + 1) 298 16 0 [(0, (4, 0)), (1, (0, x1)), (2, (0, x2)), (3, (0, x3)), (4, (0, x4))] [] jpQ_21 0 0 (fun k v hsN => k = 0 ∧ v = (0, 0) ∧ hsN = jpQ_19) := by
  refine jT_xaload_n (v := (4, 0)) (pcN := 1) jIQ_298_0 rfl rfl rfl ?_
  refine jT_xiconst (k := 0) (pcN := 2) jIQ_298_1 rfl ?_
  refine jT_adv 1 (pcN := 5) (LN := [(0, (4, 0)), (1, (0, x1)), (2, (0, x2)), (3, (0, x3)), (4, (0, x4))]) (stN := []) (hsN := jpQ_21) (c1 := 0) (s1 := 0) (c2 := 0) (s2 := 0) (by exact rfl) ?_ (by omega) (by omega)
  refine jT_xaload_n (v := (4, 0)) (pcN := 6) jIQ_298_5 rfl rfl rfl ?_
  refine jT_xiload_n (v := (0, x1)) (pcN := 7) jIQ_298_6 rfl rfl rfl ?_
  refine jT_xi2l (x := x1) (z := x1) (pcN := 8) jIQ_298_7 rfl (jw_idd (by omega) (by omega)) rfl ?_
  refine jT_xlconst (z := 0) (pcN := 9) jIQ_298_8 rfl rfl ?_
  refine jT_adv 1 (pcN := 12) (LN := [(0, (4, 0)), (1, (0, x1)), (2, (0, x2)), (3, (0, x3)), (4, (0, x4))]) (stN := [(1, 20), (1, 0), (1, x1), (4, 0)]) (hsN := jpQ_21) (c1 := 0) (s1 := 0) (c2 := 0) (s2 := 0) (by exact rfl) ?_ (by omega) (by omega)
  refine jT_fR [] 16 (y := 189) (pcN := 15) (dC := 0) (bc1 := 0) (bc2 := 0) (c1 := 0) (c2 := 0) (as := [(1, x1), (1, 0), (1, 20)]) (asC := [(1, x1), (1, 0), (1, 20)]) (LN := [(0, (4, 0)), (1, (0, x1)), (2, (0, x2)), (3, (0, x3)), (4, (0, x4))]) (stN := [(4, 0)]) (hsC := []) (v := (0, 1)) (st2 := [(0, 1), (4, 0)]) (jT_in_ok (d := 0) (v := x1) (lo := 0) (hi := 20) (by omega) (by omega) (by omega) (by omega) (by omega)) (by rfl) (by rfl) (by decide +kernel) (by rfl) (by rfl) (by omega) (by omega) (by omega) (by omega) rfl ?_
  refine jT_xifF (t := 47) (pcN := 18) jIQ_298_15 rfl (by decide +kernel) rfl rfl ?_
  refine jT_xiload_n (v := (0, x2)) (pcN := 19) jIQ_298_18 rfl rfl rfl ?_
  refine jT_xi2l (x := x2) (z := x2) (pcN := 20) jIQ_298_19 rfl (jw_idd (by omega) (by omega)) rfl ?_
  refine jT_xlconst (z := 0) (pcN := 21) jIQ_298_20 rfl rfl ?_
  refine jT_adv 1 (pcN := 24) (LN := [(0, (4, 0)), (1, (0, x1)), (2, (0, x2)), (3, (0, x3)), (4, (0, x4))]) (stN := [(1, 10), (1, 0), (1, x2), (4, 0)]) (hsN := jpQ_21) (c1 := 0) (s1 := 0) (c2 := 0) (s2 := 0) (by exact rfl) ?_ (by omega) (by omega)
  refine jT_fR [] 16 (y := 189) (pcN := 27) (dC := 0) (bc1 := 0) (bc2 := 0) (c1 := 0) (c2 := 0) (as := [(1, x2), (1, 0), (1, 10)]) (asC := [(1, x2), (1, 0), (1, 10)]) (LN := [(0, (4, 0)), (1, (0, x1)), (2, (0, x2)), (3, (0, x3)), (4, (0, x4))]) (stN := [(4, 0)]) (hsC := []) (v := (0, 0)) (st2 := [(0, 0), (4, 0)]) (jT_in_hi (d := 0) (v := x2) (lo := 0) (hi := 10) (by omega) (by omega) (by omega) (by omega) (by omega)) (by rfl) (by rfl) (by decide +kernel) (by rfl) (by rfl) (by omega) (by omega) (by omega) (by omega) rfl ?_
  refine jT_xifT (pcN := 47) jIQ_298_27 rfl (by decide +kernel) rfl ?_
  refine jT_xiconst (k := 0) (pcN := 48) jIQ_298_47 rfl ?_
  refine jT_xiconst (k := 1) (pcN := 49) jIQ_298_48 rfl ?_
  refine jT_fB [0, 1, 2, 3, 4, 5, 6, 7, 8, 9, 10, 11, 12, 13, 14, 15] 16 (y := 191) (pcN := 52) (dC := 0) (bc1 := 0) (bc2 := 0) (c1 := 0) (c2 := 0) (as := [(4, 0), (0, 0), (0, 1)]) (asC := [(4, 0), (0, 0), (0, 1)]) (LN := [(0, (4, 0)), (1, (0, x1)), (2, (0, x2)), (3, (0, x3)), (4, (0, x4))]) (stN := []) (hsC := jpQ_21) (hsD := jpQ_19) (v := (0, 1)) (st2 := [(0, 1)]) (hs2 := jpQ_19) (jQ_191_4 (d := 0)) (by rfl) (by rfl) (by decide +kernel) (by rfl) (by rfl) (by omega) (by omega) (by omega) (by omega) rfl (by decide +kernel) ?_
  refine jT_xifT (pcN := 67) jIQ_298_52 rfl (by decide +kernel) rfl ?_
  refine jT_xiconst (k := 0) (pcN := 68) jIQ_298_67 rfl ?_
  exact jT_ret rfl (by decide) (by show 16 ≤ 16; omega) (by omega) (by omega) ⟨rfl, rfl, rfl⟩
theorem jQ_116_311 {xs : List Int} {d : Nat} {x1 : Int} (h_x1 : 21 ≤ x1 ∧ x1 ≤ 2147483647) : jT xs d 116 1 0 [(0, (4, 0)), (1, (0, x1)), (2, (0, 0)), (3, (0, 20))] [] [jgh] 1 6 (fun k v hsN => k = 1 ∧ v = (0, 1) ∧ hsN = [jgh] ++ []) := by
  refine jT_xiload_n (v := (0, x1)) (pcN := 1) jIQ_116_0 rfl rfl rfl ?_
  refine jT_xiload_n (v := (0, 0)) (pcN := 2) jIQ_116_1 rfl rfl rfl ?_
  refine jT_icF (a := x1) (b := 0) (t := 10) (by rfl) (by rfl) (by rfl) (jw_idd (by omega) (by omega)) (jw_idd (by omega) (by omega)) (by simp only [jcP] <;> omega) ?_
  refine jT_xiload_n (v := (0, x1)) (pcN := 6) jIQ_116_5 rfl rfl rfl ?_
  refine jT_xiload_n (v := (0, 20)) (pcN := 7) jIQ_116_6 rfl rfl rfl ?_
  refine jT_icF (a := x1) (b := 20) (t := 21) (by rfl) (by rfl) (by rfl) (jw_idd (by omega) (by omega)) (jw_idd (by omega) (by omega)) (by simp only [jcP] <;> omega) ?_
  exact jT_ret (c1 := 1) (s1 := 6) rfl (by decide) (by show 1 ≤ 1; omega) (by omega) (by omega) ⟨rfl, rfl, rfl⟩
theorem jQ_160_312 {xs : List Int} {d : Nat} {x1 x2 x3 x4 : Int} (h_x1 : 21 ≤ x1 ∧ x1 ≤ 2147483647) (h_x2 : (-2147483648) ≤ x2 ∧ x2 ≤ 2147483647) (h_x3 : (-2147483648) ≤ x3 ∧ x3 ≤ 2147483647) (h_x4 : (-2147483648) ≤ x4 ∧ x4 ≤ 2147483647) : jT xs (d + 1) 160 12 0 [(0, (4, 0)), (1, (0, x1)), (2, (0, x2)), (3, (0, x3)), (4, (0, x4))] [] jpQ_8 1 6 (fun k v hsN => k = 1 ∧ v = (0, 1) ∧ hsN = jpQ_8 ++ []) := by
  refine jT_xaload_n (v := (4, 0)) (pcN := 1) jIQ_160_0 rfl rfl rfl ?_
  refine jT_xiload_n (v := (0, x1)) (pcN := 2) jIQ_160_1 rfl rfl rfl ?_
  refine jT_xiconst (k := 0) (pcN := 3) jIQ_160_2 rfl ?_
  refine jT_xbipush (k := 20) (pcN := 5) jIQ_160_3 (by decide) rfl ?_
  exact jT_fX [0] 12 (y := 116) (pcN := 8) (dC := 0) (bc1 := 1) (bc2 := 6) (as := [(4, 0), (0, x1), (0, 0), (0, 20)]) (asC := [(4, 0), (0, x1), (0, 0), (0, 20)]) (LN := [(0, (4, 0)), (1, (0, x1)), (2, (0, x2)), (3, (0, x3)), (4, (0, x4))]) (stN := []) (hsC := [jgh]) (e := 1) (jQ_116_311 (d := 0) (by omega)) (by rfl) (by rfl) (by decide +kernel) (by rfl) (by rfl) (by omega) (by omega) (by omega) (by omega) ⟨rfl, ⟨rfl, rfl, rfl⟩⟩
theorem jQ_362_313 {xs : List Int} {d : Nat} {x1 x2 x3 x4 : Int} (h_x1 : 21 ≤ x1 ∧ x1 ≤ 2147483647) (h_x2 : (-2147483648) ≤ x2 ∧ x2 ≤ 2147483647) (h_x3 : (-2147483648) ≤ x3 ∧ x3 ≤ 2147483647) (h_x4 : (-2147483648) ≤ x4 ∧ x4 ≤ 2147483647) : jT xs (d + 2) 362 13 0 [(0, (4, 0)), (1, (0, x1)), (2, (0, x2)), (3, (0, x3)), (4, (0, x4)), (5, (4, 1))] [] jpQ_17 1 6 (fun k v hsN => k = 0 ∧ v = (0, 1) ∧ hsN = jpQ_17 ++ []) := by
  refine jT_xaload (v := (4, 1)) (pcN := 2) jIQ_362_0 rfl rfl rfl ?_
  refine jT_xiconst (k := 0) (pcN := 3) jIQ_362_2 rfl ?_
  refine jT_xaload_n (v := (4, 0)) (pcN := 4) jIQ_362_3 rfl rfl rfl ?_
  refine jT_xiload_n (v := (0, x1)) (pcN := 5) jIQ_362_4 rfl rfl rfl ?_
  refine jT_xiload_n (v := (0, x2)) (pcN := 6) jIQ_362_5 rfl rfl rfl ?_
  refine jT_xiload_n (v := (0, x3)) (pcN := 7) jIQ_362_6 rfl rfl rfl ?_
  refine jT_xiload (v := (0, x4)) (pcN := 9) jIQ_362_7 rfl rfl rfl ?_
  exact jT_fX [0, 2, 3, 4, 5, 6, 7, 8, 9, 10, 11, 12] 13 (y := 160) (pcN := 12) (dC := 1) (bc1 := 1) (bc2 := 6) (as := [(4, 0), (0, x1), (0, x2), (0, x3), (0, x4)]) (asC := [(4, 0), (0, x1), (0, x2), (0, x3), (0, x4)]) (LN := [(0, (4, 0)), (1, (0, x1)), (2, (0, x2)), (3, (0, x3)), (4, (0, x4)), (5, (4, 1))]) (stN := [(0, 0), (4, 1)]) (hsC := jpQ_8) (e := 1) (jQ_160_312 (d := 0) (by omega) (by omega) (by omega) (by omega)) (by rfl) (by rfl) (by decide +kernel) (by rfl) (by rfl) (by omega) (by omega) (by omega) (by omega) (show _ from ⟨rfl, rfl, rfl⟩)
theorem jQ_298_314 {xs : List Int} {d : Nat} {x1 x2 x3 x4 : Int} (h_x1 : 21 ≤ x1 ∧ x1 ≤ 2147483647) (h_x2 : (-2147483648) ≤ x2 ∧ x2 ≤ 2147483647) (h_x3 : (-2147483648) ≤ x3 ∧ x3 ≤ 2147483647) (h_x4 : (-2147483648) ≤ x4 ∧ x4 ≤ 2147483647) : jT xs (d + 1) 298 16 0 [(0, (4, 0)), (1, (0, x1)), (2, (0, x2)), (3, (0, x3)), (4, (0, x4))] [] jpQ_21 0 0 (fun k v hsN => k = 0 ∧ v = (0, 0) ∧ hsN = jpQ_19) := by
  refine jT_xaload_n (v := (4, 0)) (pcN := 1) jIQ_298_0 rfl rfl rfl ?_
  refine jT_xiconst (k := 0) (pcN := 2) jIQ_298_1 rfl ?_
  refine jT_adv 1 (pcN := 5) (LN := [(0, (4, 0)), (1, (0, x1)), (2, (0, x2)), (3, (0, x3)), (4, (0, x4))]) (stN := []) (hsN := jpQ_21) (c1 := 0) (s1 := 0) (c2 := 0) (s2 := 0) (by exact rfl) ?_ (by omega) (by omega)
  refine jT_xaload_n (v := (4, 0)) (pcN := 6) jIQ_298_5 rfl rfl rfl ?_
  refine jT_xiload_n (v := (0, x1)) (pcN := 7) jIQ_298_6 rfl rfl rfl ?_
  refine jT_xi2l (x := x1) (z := x1) (pcN := 8) jIQ_298_7 rfl (jw_idd (by omega) (by omega)) rfl ?_
  refine jT_xlconst (z := 0) (pcN := 9) jIQ_298_8 rfl rfl ?_
  refine jT_adv 1 (pcN := 12) (LN := [(0, (4, 0)), (1, (0, x1)), (2, (0, x2)), (3, (0, x3)), (4, (0, x4))]) (stN := [(1, 20), (1, 0), (1, x1), (4, 0)]) (hsN := jpQ_21) (c1 := 0) (s1 := 0) (c2 := 0) (s2 := 0) (by exact rfl) ?_ (by omega) (by omega)
  refine jT_fR [] 16 (y := 189) (pcN := 15) (dC := 0) (bc1 := 0) (bc2 := 0) (c1 := 0) (c2 := 0) (as := [(1, x1), (1, 0), (1, 20)]) (asC := [(1, x1), (1, 0), (1, 20)]) (LN := [(0, (4, 0)), (1, (0, x1)), (2, (0, x2)), (3, (0, x3)), (4, (0, x4))]) (stN := [(4, 0)]) (hsC := []) (v := (0, 0)) (st2 := [(0, 0), (4, 0)]) (jT_in_hi (d := 0) (v := x1) (lo := 0) (hi := 20) (by omega) (by omega) (by omega) (by omega) (by omega)) (by rfl) (by rfl) (by decide +kernel) (by rfl) (by rfl) (by omega) (by omega) (by omega) (by omega) rfl ?_
  refine jT_xifT (pcN := 47) jIQ_298_15 rfl (by decide +kernel) rfl ?_
  refine jT_xiconst (k := 0) (pcN := 48) jIQ_298_47 rfl ?_
  refine jT_xiconst (k := 1) (pcN := 49) jIQ_298_48 rfl ?_
  refine jT_fB [0, 1, 2, 3, 4, 5, 6, 7, 8, 9, 10, 11, 12, 13, 14, 15] 16 (y := 191) (pcN := 52) (dC := 0) (bc1 := 0) (bc2 := 0) (c1 := 0) (c2 := 0) (as := [(4, 0), (0, 0), (0, 1)]) (asC := [(4, 0), (0, 0), (0, 1)]) (LN := [(0, (4, 0)), (1, (0, x1)), (2, (0, x2)), (3, (0, x3)), (4, (0, x4))]) (stN := []) (hsC := jpQ_21) (hsD := jpQ_19) (v := (0, 1)) (st2 := [(0, 1)]) (hs2 := jpQ_19) (jQ_191_4 (d := 0)) (by rfl) (by rfl) (by decide +kernel) (by rfl) (by rfl) (by omega) (by omega) (by omega) (by omega) rfl (by decide +kernel) ?_
  refine jT_xifT (pcN := 67) jIQ_298_52 rfl (by decide +kernel) rfl ?_
  refine jT_xiconst (k := 0) (pcN := 68) jIQ_298_67 rfl ?_
  exact jT_ret rfl (by decide) (by show 16 ≤ 16; omega) (by omega) (by omega) ⟨rfl, rfl, rfl⟩
theorem jIQ_379_2881 : jmI (jm 379) 2881 = (.aload_n 1, 1) := by rfl
theorem jIQ_379_2882 : jmI (jm 379) 2882 = (.aload_n 0, 1) := by rfl
theorem jIQ_379_2883 : jmI (jm 379) 2883 = (.iload 5, 2) := by rfl
theorem jIQ_379_2885 : jmI (jm 379) 2885 = (.iconst 1, 1) := by rfl
theorem jIQ_379_2886 : jmI (jm 379) 2886 = (.iadd, 1) := by rfl
def jzQ_744 : JC := (13, [(4, 4), (4, 5), (4, 6), (4, 7), (4, 8), (4, 9), (4, 10), (4, 11), (4, 12), (4, 13), (0, 0), (4, 14), (0, 0)], [])
def jzQ_745 : JC := (14, [(0, 0), (4, 15), (4, 16), (4, 17), (4, 18), (0, 0), (4, 19), (0, 0), (4, 20), (4, 21), (1, 1), (4, 22), (0, 0), (4, 23), (0, 0), (0, 0), (0, 0), (0, 0), (0, 0), (0, 0), (0, 0), (4, 24), (4, 25), (4, 26), (4, 27), (4, 28), (4, 29), (0, 0)], [])
def jpQ_746 : List JC := [jzQ_744, jzQ_745, jgh, jgh, jgh, jgh, jgh, jgh, jgh, jgh, jgh, jgh, jgh, jgh, jgh, jgh, jgh, jgh, jgh, jgh, jgh, jgh, jgh, jgh, jgh, jgh, jgh, jgh, jgh, jgh]
theorem jIQ_379_2888 : jmI (jm 379) 2888 = (.aload_n 0, 1) := by rfl
theorem jIQ_379_2889 : jmI (jm 379) 2889 = (.iload 5, 2) := by rfl
theorem jIQ_379_2891 : jmI (jm 379) 2891 = (.iconst 2, 1) := by rfl
theorem jIQ_379_2892 : jmI (jm 379) 2892 = (.iadd, 1) := by rfl
theorem jIQ_379_2894 : jmI (jm 379) 2894 = (.aload_n 0, 1) := by rfl
theorem jIQ_379_2895 : jmI (jm 379) 2895 = (.iload 5, 2) := by rfl
theorem jIQ_379_2897 : jmI (jm 379) 2897 = (.iconst 3, 1) := by rfl
theorem jIQ_379_2898 : jmI (jm 379) 2898 = (.iadd, 1) := by rfl
theorem jIQ_379_2900 : jmI (jm 379) 2900 = (.aload_n 0, 1) := by rfl
theorem jIQ_379_2901 : jmI (jm 379) 2901 = (.iload 5, 2) := by rfl
theorem jIQ_379_2903 : jmI (jm 379) 2903 = (.iconst 4, 1) := by rfl
theorem jIQ_379_2904 : jmI (jm 379) 2904 = (.iadd, 1) := by rfl
theorem jIQ_379_2906 : jmI (jm 379) 2906 = (.aload_n 3, 1) := by rfl
theorem jIQ_379_2910 : jmI (jm 379) 2910 = (.istore 6, 2) := by rfl
theorem jIQ_379_2912 : jmI (jm 379) 2912 = (.aload_n 2, 1) := by rfl
theorem jIQ_379_2913 : jmI (jm 379) 2913 = (.aload_n 0, 1) := by rfl
theorem jIQ_379_2914 : jmI (jm 379) 2914 = (.iload 5, 2) := by rfl
theorem jIQ_379_2916 : jmI (jm 379) 2916 = (.iconst 1, 1) := by rfl
theorem jIQ_379_2917 : jmI (jm 379) 2917 = (.iadd, 1) := by rfl
theorem jIQ_379_2919 : jmI (jm 379) 2919 = (.aload_n 0, 1) := by rfl
theorem jIQ_379_2920 : jmI (jm 379) 2920 = (.iload 5, 2) := by rfl
theorem jIQ_379_2922 : jmI (jm 379) 2922 = (.iconst 2, 1) := by rfl
theorem jIQ_379_2923 : jmI (jm 379) 2923 = (.iadd, 1) := by rfl
theorem jIQ_379_2925 : jmI (jm 379) 2925 = (.aload_n 0, 1) := by rfl
theorem jIQ_379_2926 : jmI (jm 379) 2926 = (.iload 5, 2) := by rfl
theorem jIQ_379_2928 : jmI (jm 379) 2928 = (.iconst 3, 1) := by rfl
theorem jIQ_379_2929 : jmI (jm 379) 2929 = (.iadd, 1) := by rfl
theorem jIQ_379_2931 : jmI (jm 379) 2931 = (.aload_n 0, 1) := by rfl
theorem jIQ_379_2932 : jmI (jm 379) 2932 = (.iload 5, 2) := by rfl
theorem jIQ_379_2934 : jmI (jm 379) 2934 = (.iconst 4, 1) := by rfl
theorem jIQ_379_2935 : jmI (jm 379) 2935 = (.iadd, 1) := by rfl
def jzQ_778 : JC := (14, [(0, 1), (4, 15), (4, 16), (4, 17), (4, 18), (0, 0), (4, 19), (0, 0), (4, 20), (4, 21), (1, 1), (4, 22), (0, 0), (4, 23), (0, 0), (0, 0), (0, 0), (0, 0), (0, 0), (0, 0), (0, 0), (4, 24), (4, 25), (4, 26), (4, 27), (4, 28), (4, 29), (0, 0)], [])
def jpQ_779 : List JC := [jzQ_744, jzQ_778, jgh, jgh, jgh, jgh, jgh, jgh, jgh, jgh, jgh, jgh, jgh, jgh, jgh, jgh, jgh, jgh, jgh, jgh, jgh, jgh, jgh, jgh, jgh, jgh, jgh, jgh, jgh, jgh]
theorem jIQ_379_2940 : jmI (jm 379) 2940 = (.istore 7, 2) := by rfl
theorem jIQ_379_2942 : jmI (jm 379) 2942 = (.aload_n 2, 1) := by rfl
theorem jIQ_379_2946 : jmI (jm 379) 2946 = (.iload 6, 2) := by rfl
theorem jIQ_379_2948 : jmI (jm 379) 2948 = (.if_icmp .eq 5, 3) := by rfl
theorem jIQ_379_2953 : jmI (jm 379) 2953 = (.iload 6, 2) := by rfl
theorem jIQ_379_2955 : jmI (jm 379) 2955 = (.ifCond .ne 15, 3) := by rfl
theorem jIQ_379_2970 : jmI (jm 379) 2970 = (.goto 770, 3) := by rfl
theorem jIQ_379_3740 : jmI (jm 379) 3740 = (.iinc 5 5, 3) := by rfl
theorem jIQ_379_3743 : jmI (jm 379) 3743 = (.goto (-3715), 3) := by rfl
theorem jIQ_379_28 : jmI (jm 379) 28 = (.iload 5, 2) := by rfl
theorem jIQ_379_30 : jmI (jm 379) 30 = (.aload_n 0, 1) := by rfl
theorem jIQ_379_32 : jmI (jm 379) 32 = (.iconst 5, 1) := by rfl
theorem jIQ_379_33 : jmI (jm 379) 33 = (.isub, 1) := by rfl
theorem jIQ_379_34 : jmI (jm 379) 34 = (.if_icmp .gt 3712, 3) := by rfl
theorem jIQ_379_3746 : jmI (jm 379) 3746 = (.iconst 1, 1) := by rfl
set_option maxRecDepth 100000 in
theorem jL_38_0 {d : Nat} {x0 x1 x2 x3 x4 : Int} (h_x0 : (-2147483648) ≤ x0 ∧ x0 ≤ 2147483647) (h_x1 : (-2147483648) ≤ x1 ∧ x1 ≤ (-1)) (h_x2 : (-2147483648) ≤ x2 ∧ x2 ≤ 2147483647) (h_x3 : (-2147483648) ≤ x3 ∧ x3 ≤ 2147483647) (h_x4 : (-2147483648) ≤ x4 ∧ x4 ≤ 2147483647) : jT [x0, x1, x2, x3, x4] (d + 3) 379 30 2881 [(5, (0, 0)), (4, (4, 3)), (3, (4, 2)), (2, (4, 1)), (1, (4, 0)), (0, (6, 0))] [] jpQ_746 1 6 (fun k v hsN => k = 0 ∧ v = (0, 1)) := by
  refine jT_xaload_n (v := (4, 0)) (pcN := 2882) jIQ_379_2881 rfl rfl rfl ?_
  refine jT_xaload_n (v := (6, 0)) (pcN := 2883) jIQ_379_2882 rfl rfl rfl ?_
  refine jT_xiload (v := (0, 0)) (pcN := 2885) jIQ_379_2883 rfl rfl rfl ?_
  refine jT_xiconst (k := 1) (pcN := 2886) jIQ_379_2885 rfl ?_
  refine jT_xiadd (x := 0) (y := 1) (z := 1) (pcN := 2887) jIQ_379_2886 rfl (by decide) rfl ?_
  refine jT_adv 1 (pcN := 2888) (LN := [(5, (0, 0)), (4, (4, 3)), (3, (4, 2)), (2, (4, 1)), (1, (4, 0)), (0, (6, 0))]) (stN := [(0, x1), (4, 0)]) (hsN := jpQ_746) (c1 := 0) (s1 := 0) (c2 := 1) (s2 := 6) (by exact rfl) ?_ (by omega) (by omega)
  refine jT_xaload_n (v := (6, 0)) (pcN := 2889) jIQ_379_2888 rfl rfl rfl ?_
  refine jT_xiload (v := (0, 0)) (pcN := 2891) jIQ_379_2889 rfl rfl rfl ?_
  refine jT_xiconst (k := 2) (pcN := 2892) jIQ_379_2891 rfl ?_
  refine jT_xiadd (x := 0) (y := 2) (z := 2) (pcN := 2893) jIQ_379_2892 rfl (by decide) rfl ?_
  refine jT_adv 1 (pcN := 2894) (LN := [(5, (0, 0)), (4, (4, 3)), (3, (4, 2)), (2, (4, 1)), (1, (4, 0)), (0, (6, 0))]) (stN := [(0, x2), (0, x1), (4, 0)]) (hsN := jpQ_746) (c1 := 0) (s1 := 0) (c2 := 1) (s2 := 6) (by exact rfl) ?_ (by omega) (by omega)
  refine jT_xaload_n (v := (6, 0)) (pcN := 2895) jIQ_379_2894 rfl rfl rfl ?_
  refine jT_xiload (v := (0, 0)) (pcN := 2897) jIQ_379_2895 rfl rfl rfl ?_
  refine jT_xiconst (k := 3) (pcN := 2898) jIQ_379_2897 rfl ?_
  refine jT_xiadd (x := 0) (y := 3) (z := 3) (pcN := 2899) jIQ_379_2898 rfl (by decide) rfl ?_
  refine jT_adv 1 (pcN := 2900) (LN := [(5, (0, 0)), (4, (4, 3)), (3, (4, 2)), (2, (4, 1)), (1, (4, 0)), (0, (6, 0))]) (stN := [(0, x3), (0, x2), (0, x1), (4, 0)]) (hsN := jpQ_746) (c1 := 0) (s1 := 0) (c2 := 1) (s2 := 6) (by exact rfl) ?_ (by omega) (by omega)
  refine jT_xaload_n (v := (6, 0)) (pcN := 2901) jIQ_379_2900 rfl rfl rfl ?_
  refine jT_xiload (v := (0, 0)) (pcN := 2903) jIQ_379_2901 rfl rfl rfl ?_
  refine jT_xiconst (k := 4) (pcN := 2904) jIQ_379_2903 rfl ?_
  refine jT_xiadd (x := 0) (y := 4) (z := 4) (pcN := 2905) jIQ_379_2904 rfl (by decide) rfl ?_
  refine jT_adv 1 (pcN := 2906) (LN := [(5, (0, 0)), (4, (4, 3)), (3, (4, 2)), (2, (4, 1)), (1, (4, 0)), (0, (6, 0))]) (stN := [(0, x4), (0, x3), (0, x2), (0, x1), (4, 0)]) (hsN := jpQ_746) (c1 := 0) (s1 := 0) (c2 := 1) (s2 := 6) (by exact rfl) ?_ (by omega) (by omega)
  refine jT_xaload_n (v := (4, 2)) (pcN := 2907) jIQ_379_2906 rfl rfl rfl ?_
  refine jT_fR [0, 2, 4, 5, 6, 7, 8, 9, 10, 11, 12, 13, 14] 30 (y := 362) (pcN := 2910) (dC := 2) (bc1 := 1) (bc2 := 6) (c1 := 0) (c2 := 0) (as := [(4, 0), (0, x1), (0, x2), (0, x3), (0, x4), (4, 2)]) (asC := [(4, 0), (0, x1), (0, x2), (0, x3), (0, x4), (4, 1)]) (LN := [(5, (0, 0)), (4, (4, 3)), (3, (4, 2)), (2, (4, 1)), (1, (4, 0)), (0, (6, 0))]) (stN := []) (hsC := jpQ_17) (v := (0, 1)) (st2 := [(0, 1)]) (jQ_362_3 (d := 0) (by omega) (by omega) (by omega) (by omega)) (by rfl) (by rfl) (by decide +kernel) (by rfl) (by rfl) (by omega) (by omega) (by omega) (by omega) rfl ?_
  refine jT_xistore (v := (0, 1)) (LN := [(6, (0, 1)), (5, (0, 0)), (4, (4, 3)), (3, (4, 2)), (2, (4, 1)), (1, (4, 0)), (0, (6, 0))]) (pcN := 2912) jIQ_379_2910 rfl rfl rfl rfl ?_
  refine jT_xaload_n (v := (4, 1)) (pcN := 2913) jIQ_379_2912 rfl rfl rfl ?_
  refine jT_xaload_n (v := (6, 0)) (pcN := 2914) jIQ_379_2913 rfl rfl rfl ?_
  refine jT_xiload (v := (0, 0)) (pcN := 2916) jIQ_379_2914 rfl rfl rfl ?_
  refine jT_xiconst (k := 1) (pcN := 2917) jIQ_379_2916 rfl ?_
  refine jT_xiadd (x := 0) (y := 1) (z := 1) (pcN := 2918) jIQ_379_2917 rfl (by decide) rfl ?_
  refine jT_adv 1 (pcN := 2919) (LN := [(6, (0, 1)), (5, (0, 0)), (4, (4, 3)), (3, (4, 2)), (2, (4, 1)), (1, (4, 0)), (0, (6, 0))]) (stN := [(0, x1), (4, 1)]) (hsN := jpQ_746) (c1 := 0) (s1 := 0) (c2 := 0) (s2 := 0) (by exact rfl) ?_ (by omega) (by omega)
  refine jT_xaload_n (v := (6, 0)) (pcN := 2920) jIQ_379_2919 rfl rfl rfl ?_
  refine jT_xiload (v := (0, 0)) (pcN := 2922) jIQ_379_2920 rfl rfl rfl ?_
  refine jT_xiconst (k := 2) (pcN := 2923) jIQ_379_2922 rfl ?_
  refine jT_xiadd (x := 0) (y := 2) (z := 2) (pcN := 2924) jIQ_379_2923 rfl (by decide) rfl ?_
  refine jT_adv 1 (pcN := 2925) (LN := [(6, (0, 1)), (5, (0, 0)), (4, (4, 3)), (3, (4, 2)), (2, (4, 1)), (1, (4, 0)), (0, (6, 0))]) (stN := [(0, x2), (0, x1), (4, 1)]) (hsN := jpQ_746) (c1 := 0) (s1 := 0) (c2 := 0) (s2 := 0) (by exact rfl) ?_ (by omega) (by omega)
  refine jT_xaload_n (v := (6, 0)) (pcN := 2926) jIQ_379_2925 rfl rfl rfl ?_
  refine jT_xiload (v := (0, 0)) (pcN := 2928) jIQ_379_2926 rfl rfl rfl ?_
  refine jT_xiconst (k := 3) (pcN := 2929) jIQ_379_2928 rfl ?_
  refine jT_xiadd (x := 0) (y := 3) (z := 3) (pcN := 2930) jIQ_379_2929 rfl (by decide) rfl ?_
  refine jT_adv 1 (pcN := 2931) (LN := [(6, (0, 1)), (5, (0, 0)), (4, (4, 3)), (3, (4, 2)), (2, (4, 1)), (1, (4, 0)), (0, (6, 0))]) (stN := [(0, x3), (0, x2), (0, x1), (4, 1)]) (hsN := jpQ_746) (c1 := 0) (s1 := 0) (c2 := 0) (s2 := 0) (by exact rfl) ?_ (by omega) (by omega)
  refine jT_xaload_n (v := (6, 0)) (pcN := 2932) jIQ_379_2931 rfl rfl rfl ?_
  refine jT_xiload (v := (0, 0)) (pcN := 2934) jIQ_379_2932 rfl rfl rfl ?_
  refine jT_xiconst (k := 4) (pcN := 2935) jIQ_379_2934 rfl ?_
  refine jT_xiadd (x := 0) (y := 4) (z := 4) (pcN := 2936) jIQ_379_2935 rfl (by decide) rfl ?_
  refine jT_adv 1 (pcN := 2937) (LN := [(6, (0, 1)), (5, (0, 0)), (4, (4, 3)), (3, (4, 2)), (2, (4, 1)), (1, (4, 0)), (0, (6, 0))]) (stN := [(0, x4), (0, x3), (0, x2), (0, x1), (4, 1)]) (hsN := jpQ_746) (c1 := 0) (s1 := 0) (c2 := 0) (s2 := 0) (by exact rfl) ?_ (by omega) (by omega)
  refine jT_fB [1, 15, 16, 17, 18, 19, 20, 21, 22, 23, 24, 25, 26, 27, 28, 29] 30 (y := 298) (pcN := 2940) (dC := 1) (bc1 := 0) (bc2 := 0) (c1 := 0) (c2 := 0) (as := [(4, 1), (0, x1), (0, x2), (0, x3), (0, x4)]) (asC := [(4, 0), (0, x1), (0, x2), (0, x3), (0, x4)]) (LN := [(6, (0, 1)), (5, (0, 0)), (4, (4, 3)), (3, (4, 2)), (2, (4, 1)), (1, (4, 0)), (0, (6, 0))]) (stN := []) (hsC := jpQ_21) (hsD := jpQ_19) (v := (0, 0)) (st2 := [(0, 0)]) (hs2 := jpQ_779) (jQ_298_5 (d := 0) (by omega) (by omega) (by omega) (by omega)) (by rfl) (by rfl) (by decide +kernel) (by rfl) (by rfl) (by omega) (by omega) (by omega) (by omega) rfl (by decide +kernel) ?_
  refine jT_xistore (v := (0, 0)) (LN := [(7, (0, 0)), (6, (0, 1)), (5, (0, 0)), (4, (4, 3)), (3, (4, 2)), (2, (4, 1)), (1, (4, 0)), (0, (6, 0))]) (pcN := 2942) jIQ_379_2940 rfl rfl rfl rfl ?_
  refine jT_xaload_n (v := (4, 1)) (pcN := 2943) jIQ_379_2942 rfl rfl rfl ?_
  refine jT_fR [1, 15, 16, 17, 18, 19, 20, 21, 22, 23, 24, 25, 26, 27, 28, 29] 30 (y := 186) (pcN := 2946) (dC := 0) (bc1 := 0) (bc2 := 0) (c1 := 0) (c2 := 0) (as := [(4, 1)]) (asC := [(4, 0)]) (LN := [(7, (0, 0)), (6, (0, 1)), (5, (0, 0)), (4, (4, 3)), (3, (4, 2)), (2, (4, 1)), (1, (4, 0)), (0, (6, 0))]) (stN := []) (hsC := jpQ_19) (v := (0, 1)) (st2 := [(0, 1)]) (jQ_186_6 (d := 0)) (by rfl) (by rfl) (by decide +kernel) (by rfl) (by rfl) (by omega) (by omega) (by omega) (by omega) rfl ?_
  refine jT_xiload (v := (0, 1)) (pcN := 2948) jIQ_379_2946 rfl rfl rfl ?_
  refine jT_xicT (pcN := 2953) jIQ_379_2948 rfl (by decide +kernel) rfl ?_
  refine jT_xiload (v := (0, 1)) (pcN := 2955) jIQ_379_2953 rfl rfl rfl ?_
  refine jT_xifT (pcN := 2970) jIQ_379_2955 rfl (by decide +kernel) rfl ?_
  refine jT_xgoto (pcN := 3740) jIQ_379_2970 rfl ?_
  refine jT_xiinc (x := 0) (z := 5) (LN := [(5, (0, 5)), (7, (0, 0)), (6, (0, 1)), (4, (4, 3)), (3, (4, 2)), (2, (4, 1)), (1, (4, 0)), (0, (6, 0))]) (pcN := 3743) jIQ_379_3740 rfl rfl (by decide) rfl rfl ?_
  refine jT_xgoto (pcN := 28) jIQ_379_3743 rfl ?_
  refine jT_xiload (v := (0, 5)) (pcN := 30) jIQ_379_28 rfl rfl rfl ?_
  refine jT_xaload_n (v := (6, 0)) (pcN := 31) jIQ_379_30 rfl rfl rfl ?_
  refine jT_adv 1 (pcN := 32) (LN := [(5, (0, 5)), (7, (0, 0)), (6, (0, 1)), (4, (4, 3)), (3, (4, 2)), (2, (4, 1)), (1, (4, 0)), (0, (6, 0))]) (stN := [(0, 5), (0, 5)]) (hsN := jpQ_779) (c1 := 0) (s1 := 0) (c2 := 0) (s2 := 0) (by exact rfl) ?_ (by omega) (by omega)
  refine jT_xiconst (k := 5) (pcN := 33) jIQ_379_32 rfl ?_
  refine jT_xisub (x := 5) (y := 5) (z := 0) (pcN := 34) jIQ_379_33 rfl (by decide) rfl ?_
  refine jT_xicT (pcN := 3746) jIQ_379_34 rfl (by decide +kernel) rfl ?_
  refine jT_xiconst (k := 1) (pcN := 3747) jIQ_379_3746 rfl ?_
  exact jT_ret rfl (by decide) (by show 30 ≤ 30; decide) (by omega) (by omega) ⟨rfl, rfl⟩
set_option maxRecDepth 100000 in
theorem jL_38_1 {d : Nat} {x0 x1 x2 x3 x4 : Int} (h_x0 : (-2147483648) ≤ x0 ∧ x0 ≤ 2147483647) (h_x1 : 0 ≤ x1 ∧ x1 ≤ 20) (h_x2 : (-2147483648) ≤ x2 ∧ x2 ≤ (-1)) (h_x3 : (-2147483648) ≤ x3 ∧ x3 ≤ 2147483647) (h_x4 : (-2147483648) ≤ x4 ∧ x4 ≤ 2147483647) : jT [x0, x1, x2, x3, x4] (d + 3) 379 30 2881 [(5, (0, 0)), (4, (4, 3)), (3, (4, 2)), (2, (4, 1)), (1, (4, 0)), (0, (6, 0))] [] jpQ_746 1 6 (fun k v hsN => k = 0 ∧ v = (0, 1)) := by
  refine jT_xaload_n (v := (4, 0)) (pcN := 2882) jIQ_379_2881 rfl rfl rfl ?_
  refine jT_xaload_n (v := (6, 0)) (pcN := 2883) jIQ_379_2882 rfl rfl rfl ?_
  refine jT_xiload (v := (0, 0)) (pcN := 2885) jIQ_379_2883 rfl rfl rfl ?_
  refine jT_xiconst (k := 1) (pcN := 2886) jIQ_379_2885 rfl ?_
  refine jT_xiadd (x := 0) (y := 1) (z := 1) (pcN := 2887) jIQ_379_2886 rfl (by decide) rfl ?_
  refine jT_adv 1 (pcN := 2888) (LN := [(5, (0, 0)), (4, (4, 3)), (3, (4, 2)), (2, (4, 1)), (1, (4, 0)), (0, (6, 0))]) (stN := [(0, x1), (4, 0)]) (hsN := jpQ_746) (c1 := 0) (s1 := 0) (c2 := 1) (s2 := 6) (by exact rfl) ?_ (by omega) (by omega)
  refine jT_xaload_n (v := (6, 0)) (pcN := 2889) jIQ_379_2888 rfl rfl rfl ?_
  refine jT_xiload (v := (0, 0)) (pcN := 2891) jIQ_379_2889 rfl rfl rfl ?_
  refine jT_xiconst (k := 2) (pcN := 2892) jIQ_379_2891 rfl ?_
  refine jT_xiadd (x := 0) (y := 2) (z := 2) (pcN := 2893) jIQ_379_2892 rfl (by decide) rfl ?_
  refine jT_adv 1 (pcN := 2894) (LN := [(5, (0, 0)), (4, (4, 3)), (3, (4, 2)), (2, (4, 1)), (1, (4, 0)), (0, (6, 0))]) (stN := [(0, x2), (0, x1), (4, 0)]) (hsN := jpQ_746) (c1 := 0) (s1 := 0) (c2 := 1) (s2 := 6) (by exact rfl) ?_ (by omega) (by omega)
  refine jT_xaload_n (v := (6, 0)) (pcN := 2895) jIQ_379_2894 rfl rfl rfl ?_
  refine jT_xiload (v := (0, 0)) (pcN := 2897) jIQ_379_2895 rfl rfl rfl ?_
  refine jT_xiconst (k := 3) (pcN := 2898) jIQ_379_2897 rfl ?_
  refine jT_xiadd (x := 0) (y := 3) (z := 3) (pcN := 2899) jIQ_379_2898 rfl (by decide) rfl ?_
  refine jT_adv 1 (pcN := 2900) (LN := [(5, (0, 0)), (4, (4, 3)), (3, (4, 2)), (2, (4, 1)), (1, (4, 0)), (0, (6, 0))]) (stN := [(0, x3), (0, x2), (0, x1), (4, 0)]) (hsN := jpQ_746) (c1 := 0) (s1 := 0) (c2 := 1) (s2 := 6) (by exact rfl) ?_ (by omega) (by omega)
  refine jT_xaload_n (v := (6, 0)) (pcN := 2901) jIQ_379_2900 rfl rfl rfl ?_
  refine jT_xiload (v := (0, 0)) (pcN := 2903) jIQ_379_2901 rfl rfl rfl ?_
  refine jT_xiconst (k := 4) (pcN := 2904) jIQ_379_2903 rfl ?_
  refine jT_xiadd (x := 0) (y := 4) (z := 4) (pcN := 2905) jIQ_379_2904 rfl (by decide) rfl ?_
  refine jT_adv 1 (pcN := 2906) (LN := [(5, (0, 0)), (4, (4, 3)), (3, (4, 2)), (2, (4, 1)), (1, (4, 0)), (0, (6, 0))]) (stN := [(0, x4), (0, x3), (0, x2), (0, x1), (4, 0)]) (hsN := jpQ_746) (c1 := 0) (s1 := 0) (c2 := 1) (s2 := 6) (by exact rfl) ?_ (by omega) (by omega)
  refine jT_xaload_n (v := (4, 2)) (pcN := 2907) jIQ_379_2906 rfl rfl rfl ?_
  refine jT_fR [0, 2, 4, 5, 6, 7, 8, 9, 10, 11, 12, 13, 14] 30 (y := 362) (pcN := 2910) (dC := 2) (bc1 := 1) (bc2 := 6) (c1 := 0) (c2 := 0) (as := [(4, 0), (0, x1), (0, x2), (0, x3), (0, x4), (4, 2)]) (asC := [(4, 0), (0, x1), (0, x2), (0, x3), (0, x4), (4, 1)]) (LN := [(5, (0, 0)), (4, (4, 3)), (3, (4, 2)), (2, (4, 1)), (1, (4, 0)), (0, (6, 0))]) (stN := []) (hsC := jpQ_17) (v := (0, 1)) (st2 := [(0, 1)]) (jQ_362_10 (d := 0) (by omega) (by omega) (by omega) (by omega)) (by rfl) (by rfl) (by decide +kernel) (by rfl) (by rfl) (by omega) (by omega) (by omega) (by omega) rfl ?_
  refine jT_xistore (v := (0, 1)) (LN := [(6, (0, 1)), (5, (0, 0)), (4, (4, 3)), (3, (4, 2)), (2, (4, 1)), (1, (4, 0)), (0, (6, 0))]) (pcN := 2912) jIQ_379_2910 rfl rfl rfl rfl ?_
  refine jT_xaload_n (v := (4, 1)) (pcN := 2913) jIQ_379_2912 rfl rfl rfl ?_
  refine jT_xaload_n (v := (6, 0)) (pcN := 2914) jIQ_379_2913 rfl rfl rfl ?_
  refine jT_xiload (v := (0, 0)) (pcN := 2916) jIQ_379_2914 rfl rfl rfl ?_
  refine jT_xiconst (k := 1) (pcN := 2917) jIQ_379_2916 rfl ?_
  refine jT_xiadd (x := 0) (y := 1) (z := 1) (pcN := 2918) jIQ_379_2917 rfl (by decide) rfl ?_
  refine jT_adv 1 (pcN := 2919) (LN := [(6, (0, 1)), (5, (0, 0)), (4, (4, 3)), (3, (4, 2)), (2, (4, 1)), (1, (4, 0)), (0, (6, 0))]) (stN := [(0, x1), (4, 1)]) (hsN := jpQ_746) (c1 := 0) (s1 := 0) (c2 := 0) (s2 := 0) (by exact rfl) ?_ (by omega) (by omega)
  refine jT_xaload_n (v := (6, 0)) (pcN := 2920) jIQ_379_2919 rfl rfl rfl ?_
  refine jT_xiload (v := (0, 0)) (pcN := 2922) jIQ_379_2920 rfl rfl rfl ?_
  refine jT_xiconst (k := 2) (pcN := 2923) jIQ_379_2922 rfl ?_
  refine jT_xiadd (x := 0) (y := 2) (z := 2) (pcN := 2924) jIQ_379_2923 rfl (by decide) rfl ?_
  refine jT_adv 1 (pcN := 2925) (LN := [(6, (0, 1)), (5, (0, 0)), (4, (4, 3)), (3, (4, 2)), (2, (4, 1)), (1, (4, 0)), (0, (6, 0))]) (stN := [(0, x2), (0, x1), (4, 1)]) (hsN := jpQ_746) (c1 := 0) (s1 := 0) (c2 := 0) (s2 := 0) (by exact rfl) ?_ (by omega) (by omega)
  refine jT_xaload_n (v := (6, 0)) (pcN := 2926) jIQ_379_2925 rfl rfl rfl ?_
  refine jT_xiload (v := (0, 0)) (pcN := 2928) jIQ_379_2926 rfl rfl rfl ?_
  refine jT_xiconst (k := 3) (pcN := 2929) jIQ_379_2928 rfl ?_
  refine jT_xiadd (x := 0) (y := 3) (z := 3) (pcN := 2930) jIQ_379_2929 rfl (by decide) rfl ?_
  refine jT_adv 1 (pcN := 2931) (LN := [(6, (0, 1)), (5, (0, 0)), (4, (4, 3)), (3, (4, 2)), (2, (4, 1)), (1, (4, 0)), (0, (6, 0))]) (stN := [(0, x3), (0, x2), (0, x1), (4, 1)]) (hsN := jpQ_746) (c1 := 0) (s1 := 0) (c2 := 0) (s2 := 0) (by exact rfl) ?_ (by omega) (by omega)
  refine jT_xaload_n (v := (6, 0)) (pcN := 2932) jIQ_379_2931 rfl rfl rfl ?_
  refine jT_xiload (v := (0, 0)) (pcN := 2934) jIQ_379_2932 rfl rfl rfl ?_
  refine jT_xiconst (k := 4) (pcN := 2935) jIQ_379_2934 rfl ?_
  refine jT_xiadd (x := 0) (y := 4) (z := 4) (pcN := 2936) jIQ_379_2935 rfl (by decide) rfl ?_
  refine jT_adv 1 (pcN := 2937) (LN := [(6, (0, 1)), (5, (0, 0)), (4, (4, 3)), (3, (4, 2)), (2, (4, 1)), (1, (4, 0)), (0, (6, 0))]) (stN := [(0, x4), (0, x3), (0, x2), (0, x1), (4, 1)]) (hsN := jpQ_746) (c1 := 0) (s1 := 0) (c2 := 0) (s2 := 0) (by exact rfl) ?_ (by omega) (by omega)
  refine jT_fB [1, 15, 16, 17, 18, 19, 20, 21, 22, 23, 24, 25, 26, 27, 28, 29] 30 (y := 298) (pcN := 2940) (dC := 1) (bc1 := 0) (bc2 := 0) (c1 := 0) (c2 := 0) (as := [(4, 1), (0, x1), (0, x2), (0, x3), (0, x4)]) (asC := [(4, 0), (0, x1), (0, x2), (0, x3), (0, x4)]) (LN := [(6, (0, 1)), (5, (0, 0)), (4, (4, 3)), (3, (4, 2)), (2, (4, 1)), (1, (4, 0)), (0, (6, 0))]) (stN := []) (hsC := jpQ_21) (hsD := jpQ_19) (v := (0, 0)) (st2 := [(0, 0)]) (hs2 := jpQ_779) (jQ_298_11 (d := 0) (by omega) (by omega) (by omega) (by omega)) (by rfl) (by rfl) (by decide +kernel) (by rfl) (by rfl) (by omega) (by omega) (by omega) (by omega) rfl (by decide +kernel) ?_
  refine jT_xistore (v := (0, 0)) (LN := [(7, (0, 0)), (6, (0, 1)), (5, (0, 0)), (4, (4, 3)), (3, (4, 2)), (2, (4, 1)), (1, (4, 0)), (0, (6, 0))]) (pcN := 2942) jIQ_379_2940 rfl rfl rfl rfl ?_
  refine jT_xaload_n (v := (4, 1)) (pcN := 2943) jIQ_379_2942 rfl rfl rfl ?_
  refine jT_fR [1, 15, 16, 17, 18, 19, 20, 21, 22, 23, 24, 25, 26, 27, 28, 29] 30 (y := 186) (pcN := 2946) (dC := 0) (bc1 := 0) (bc2 := 0) (c1 := 0) (c2 := 0) (as := [(4, 1)]) (asC := [(4, 0)]) (LN := [(7, (0, 0)), (6, (0, 1)), (5, (0, 0)), (4, (4, 3)), (3, (4, 2)), (2, (4, 1)), (1, (4, 0)), (0, (6, 0))]) (stN := []) (hsC := jpQ_19) (v := (0, 1)) (st2 := [(0, 1)]) (jQ_186_6 (d := 0)) (by rfl) (by rfl) (by decide +kernel) (by rfl) (by rfl) (by omega) (by omega) (by omega) (by omega) rfl ?_
  refine jT_xiload (v := (0, 1)) (pcN := 2948) jIQ_379_2946 rfl rfl rfl ?_
  refine jT_xicT (pcN := 2953) jIQ_379_2948 rfl (by decide +kernel) rfl ?_
  refine jT_xiload (v := (0, 1)) (pcN := 2955) jIQ_379_2953 rfl rfl rfl ?_
  refine jT_xifT (pcN := 2970) jIQ_379_2955 rfl (by decide +kernel) rfl ?_
  refine jT_xgoto (pcN := 3740) jIQ_379_2970 rfl ?_
  refine jT_xiinc (x := 0) (z := 5) (LN := [(5, (0, 5)), (7, (0, 0)), (6, (0, 1)), (4, (4, 3)), (3, (4, 2)), (2, (4, 1)), (1, (4, 0)), (0, (6, 0))]) (pcN := 3743) jIQ_379_3740 rfl rfl (by decide) rfl rfl ?_
  refine jT_xgoto (pcN := 28) jIQ_379_3743 rfl ?_
  refine jT_xiload (v := (0, 5)) (pcN := 30) jIQ_379_28 rfl rfl rfl ?_
  refine jT_xaload_n (v := (6, 0)) (pcN := 31) jIQ_379_30 rfl rfl rfl ?_
  refine jT_adv 1 (pcN := 32) (LN := [(5, (0, 5)), (7, (0, 0)), (6, (0, 1)), (4, (4, 3)), (3, (4, 2)), (2, (4, 1)), (1, (4, 0)), (0, (6, 0))]) (stN := [(0, 5), (0, 5)]) (hsN := jpQ_779) (c1 := 0) (s1 := 0) (c2 := 0) (s2 := 0) (by exact rfl) ?_ (by omega) (by omega)
  refine jT_xiconst (k := 5) (pcN := 33) jIQ_379_32 rfl ?_
  refine jT_xisub (x := 5) (y := 5) (z := 0) (pcN := 34) jIQ_379_33 rfl (by decide) rfl ?_
  refine jT_xicT (pcN := 3746) jIQ_379_34 rfl (by decide +kernel) rfl ?_
  refine jT_xiconst (k := 1) (pcN := 3747) jIQ_379_3746 rfl ?_
  exact jT_ret rfl (by decide) (by show 30 ≤ 30; decide) (by omega) (by omega) ⟨rfl, rfl⟩
set_option maxRecDepth 100000 in
theorem jL_38_2 {d : Nat} {x0 x1 x2 x3 x4 : Int} (h_x0 : (-2147483648) ≤ x0 ∧ x0 ≤ 2147483647) (h_x1 : 0 ≤ x1 ∧ x1 ≤ 20) (h_x2 : 0 ≤ x2 ∧ x2 ≤ 10) (h_x3 : (-2147483648) ≤ x3 ∧ x3 ≤ 2147483647) (h_x4 : (-2147483648) ≤ x4 ∧ x4 ≤ (-1)) : jT [x0, x1, x2, x3, x4] (d + 3) 379 30 2881 [(5, (0, 0)), (4, (4, 3)), (3, (4, 2)), (2, (4, 1)), (1, (4, 0)), (0, (6, 0))] [] jpQ_746 1 6 (fun k v hsN => k = 0 ∧ v = (0, 1)) := by
  refine jT_xaload_n (v := (4, 0)) (pcN := 2882) jIQ_379_2881 rfl rfl rfl ?_
  refine jT_xaload_n (v := (6, 0)) (pcN := 2883) jIQ_379_2882 rfl rfl rfl ?_
  refine jT_xiload (v := (0, 0)) (pcN := 2885) jIQ_379_2883 rfl rfl rfl ?_
  refine jT_xiconst (k := 1) (pcN := 2886) jIQ_379_2885 rfl ?_
  refine jT_xiadd (x := 0) (y := 1) (z := 1) (pcN := 2887) jIQ_379_2886 rfl (by decide) rfl ?_
  refine jT_adv 1 (pcN := 2888) (LN := [(5, (0, 0)), (4, (4, 3)), (3, (4, 2)), (2, (4, 1)), (1, (4, 0)), (0, (6, 0))]) (stN := [(0, x1), (4, 0)]) (hsN := jpQ_746) (c1 := 0) (s1 := 0) (c2 := 1) (s2 := 6) (by exact rfl) ?_ (by omega) (by omega)
  refine jT_xaload_n (v := (6, 0)) (pcN := 2889) jIQ_379_2888 rfl rfl rfl ?_
  refine jT_xiload (v := (0, 0)) (pcN := 2891) jIQ_379_2889 rfl rfl rfl ?_
  refine jT_xiconst (k := 2) (pcN := 2892) jIQ_379_2891 rfl ?_
  refine jT_xiadd (x := 0) (y := 2) (z := 2) (pcN := 2893) jIQ_379_2892 rfl (by decide) rfl ?_
  refine jT_adv 1 (pcN := 2894) (LN := [(5, (0, 0)), (4, (4, 3)), (3, (4, 2)), (2, (4, 1)), (1, (4, 0)), (0, (6, 0))]) (stN := [(0, x2), (0, x1), (4, 0)]) (hsN := jpQ_746) (c1 := 0) (s1 := 0) (c2 := 1) (s2 := 6) (by exact rfl) ?_ (by omega) (by omega)
  refine jT_xaload_n (v := (6, 0)) (pcN := 2895) jIQ_379_2894 rfl rfl rfl ?_
  refine jT_xiload (v := (0, 0)) (pcN := 2897) jIQ_379_2895 rfl rfl rfl ?_
  refine jT_xiconst (k := 3) (pcN := 2898) jIQ_379_2897 rfl ?_
  refine jT_xiadd (x := 0) (y := 3) (z := 3) (pcN := 2899) jIQ_379_2898 rfl (by decide) rfl ?_
  refine jT_adv 1 (pcN := 2900) (LN := [(5, (0, 0)), (4, (4, 3)), (3, (4, 2)), (2, (4, 1)), (1, (4, 0)), (0, (6, 0))]) (stN := [(0, x3), (0, x2), (0, x1), (4, 0)]) (hsN := jpQ_746) (c1 := 0) (s1 := 0) (c2 := 1) (s2 := 6) (by exact rfl) ?_ (by omega) (by omega)
  refine jT_xaload_n (v := (6, 0)) (pcN := 2901) jIQ_379_2900 rfl rfl rfl ?_
  refine jT_xiload (v := (0, 0)) (pcN := 2903) jIQ_379_2901 rfl rfl rfl ?_
  refine jT_xiconst (k := 4) (pcN := 2904) jIQ_379_2903 rfl ?_
  refine jT_xiadd (x := 0) (y := 4) (z := 4) (pcN := 2905) jIQ_379_2904 rfl (by decide) rfl ?_
  refine jT_adv 1 (pcN := 2906) (LN := [(5, (0, 0)), (4, (4, 3)), (3, (4, 2)), (2, (4, 1)), (1, (4, 0)), (0, (6, 0))]) (stN := [(0, x4), (0, x3), (0, x2), (0, x1), (4, 0)]) (hsN := jpQ_746) (c1 := 0) (s1 := 0) (c2 := 1) (s2 := 6) (by exact rfl) ?_ (by omega) (by omega)
  refine jT_xaload_n (v := (4, 2)) (pcN := 2907) jIQ_379_2906 rfl rfl rfl ?_
  refine jT_fR [0, 2, 4, 5, 6, 7, 8, 9, 10, 11, 12, 13, 14] 30 (y := 362) (pcN := 2910) (dC := 2) (bc1 := 1) (bc2 := 6) (c1 := 0) (c2 := 0) (as := [(4, 0), (0, x1), (0, x2), (0, x3), (0, x4), (4, 2)]) (asC := [(4, 0), (0, x1), (0, x2), (0, x3), (0, x4), (4, 1)]) (LN := [(5, (0, 0)), (4, (4, 3)), (3, (4, 2)), (2, (4, 1)), (1, (4, 0)), (0, (6, 0))]) (stN := []) (hsC := jpQ_17) (v := (0, 1)) (st2 := [(0, 1)]) (jQ_362_15 (d := 0) (by omega) (by omega) (by omega) (by omega)) (by rfl) (by rfl) (by decide +kernel) (by rfl) (by rfl) (by omega) (by omega) (by omega) (by omega) rfl ?_
  refine jT_xistore (v := (0, 1)) (LN := [(6, (0, 1)), (5, (0, 0)), (4, (4, 3)), (3, (4, 2)), (2, (4, 1)), (1, (4, 0)), (0, (6, 0))]) (pcN := 2912) jIQ_379_2910 rfl rfl rfl rfl ?_
  refine jT_xaload_n (v := (4, 1)) (pcN := 2913) jIQ_379_2912 rfl rfl rfl ?_
  refine jT_xaload_n (v := (6, 0)) (pcN := 2914) jIQ_379_2913 rfl rfl rfl ?_
  refine jT_xiload (v := (0, 0)) (pcN := 2916) jIQ_379_2914 rfl rfl rfl ?_
  refine jT_xiconst (k := 1) (pcN := 2917) jIQ_379_2916 rfl ?_
  refine jT_xiadd (x := 0) (y := 1) (z := 1) (pcN := 2918) jIQ_379_2917 rfl (by decide) rfl ?_
  refine jT_adv 1 (pcN := 2919) (LN := [(6, (0, 1)), (5, (0, 0)), (4, (4, 3)), (3, (4, 2)), (2, (4, 1)), (1, (4, 0)), (0, (6, 0))]) (stN := [(0, x1), (4, 1)]) (hsN := jpQ_746) (c1 := 0) (s1 := 0) (c2 := 0) (s2 := 0) (by exact rfl) ?_ (by omega) (by omega)
  refine jT_xaload_n (v := (6, 0)) (pcN := 2920) jIQ_379_2919 rfl rfl rfl ?_
  refine jT_xiload (v := (0, 0)) (pcN := 2922) jIQ_379_2920 rfl rfl rfl ?_
  refine jT_xiconst (k := 2) (pcN := 2923) jIQ_379_2922 rfl ?_
  refine jT_xiadd (x := 0) (y := 2) (z := 2) (pcN := 2924) jIQ_379_2923 rfl (by decide) rfl ?_
  refine jT_adv 1 (pcN := 2925) (LN := [(6, (0, 1)), (5, (0, 0)), (4, (4, 3)), (3, (4, 2)), (2, (4, 1)), (1, (4, 0)), (0, (6, 0))]) (stN := [(0, x2), (0, x1), (4, 1)]) (hsN := jpQ_746) (c1 := 0) (s1 := 0) (c2 := 0) (s2 := 0) (by exact rfl) ?_ (by omega) (by omega)
  refine jT_xaload_n (v := (6, 0)) (pcN := 2926) jIQ_379_2925 rfl rfl rfl ?_
  refine jT_xiload (v := (0, 0)) (pcN := 2928) jIQ_379_2926 rfl rfl rfl ?_
  refine jT_xiconst (k := 3) (pcN := 2929) jIQ_379_2928 rfl ?_
  refine jT_xiadd (x := 0) (y := 3) (z := 3) (pcN := 2930) jIQ_379_2929 rfl (by decide) rfl ?_
  refine jT_adv 1 (pcN := 2931) (LN := [(6, (0, 1)), (5, (0, 0)), (4, (4, 3)), (3, (4, 2)), (2, (4, 1)), (1, (4, 0)), (0, (6, 0))]) (stN := [(0, x3), (0, x2), (0, x1), (4, 1)]) (hsN := jpQ_746) (c1 := 0) (s1 := 0) (c2 := 0) (s2 := 0) (by exact rfl) ?_ (by omega) (by omega)
  refine jT_xaload_n (v := (6, 0)) (pcN := 2932) jIQ_379_2931 rfl rfl rfl ?_
  refine jT_xiload (v := (0, 0)) (pcN := 2934) jIQ_379_2932 rfl rfl rfl ?_
  refine jT_xiconst (k := 4) (pcN := 2935) jIQ_379_2934 rfl ?_
  refine jT_xiadd (x := 0) (y := 4) (z := 4) (pcN := 2936) jIQ_379_2935 rfl (by decide) rfl ?_
  refine jT_adv 1 (pcN := 2937) (LN := [(6, (0, 1)), (5, (0, 0)), (4, (4, 3)), (3, (4, 2)), (2, (4, 1)), (1, (4, 0)), (0, (6, 0))]) (stN := [(0, x4), (0, x3), (0, x2), (0, x1), (4, 1)]) (hsN := jpQ_746) (c1 := 0) (s1 := 0) (c2 := 0) (s2 := 0) (by exact rfl) ?_ (by omega) (by omega)
  refine jT_fB [1, 15, 16, 17, 18, 19, 20, 21, 22, 23, 24, 25, 26, 27, 28, 29] 30 (y := 298) (pcN := 2940) (dC := 1) (bc1 := 0) (bc2 := 0) (c1 := 0) (c2 := 0) (as := [(4, 1), (0, x1), (0, x2), (0, x3), (0, x4)]) (asC := [(4, 0), (0, x1), (0, x2), (0, x3), (0, x4)]) (LN := [(6, (0, 1)), (5, (0, 0)), (4, (4, 3)), (3, (4, 2)), (2, (4, 1)), (1, (4, 0)), (0, (6, 0))]) (stN := []) (hsC := jpQ_21) (hsD := jpQ_19) (v := (0, 0)) (st2 := [(0, 0)]) (hs2 := jpQ_779) (jQ_298_16 (d := 0) (by omega) (by omega) (by omega) (by omega)) (by rfl) (by rfl) (by decide +kernel) (by rfl) (by rfl) (by omega) (by omega) (by omega) (by omega) rfl (by decide +kernel) ?_
  refine jT_xistore (v := (0, 0)) (LN := [(7, (0, 0)), (6, (0, 1)), (5, (0, 0)), (4, (4, 3)), (3, (4, 2)), (2, (4, 1)), (1, (4, 0)), (0, (6, 0))]) (pcN := 2942) jIQ_379_2940 rfl rfl rfl rfl ?_
  refine jT_xaload_n (v := (4, 1)) (pcN := 2943) jIQ_379_2942 rfl rfl rfl ?_
  refine jT_fR [1, 15, 16, 17, 18, 19, 20, 21, 22, 23, 24, 25, 26, 27, 28, 29] 30 (y := 186) (pcN := 2946) (dC := 0) (bc1 := 0) (bc2 := 0) (c1 := 0) (c2 := 0) (as := [(4, 1)]) (asC := [(4, 0)]) (LN := [(7, (0, 0)), (6, (0, 1)), (5, (0, 0)), (4, (4, 3)), (3, (4, 2)), (2, (4, 1)), (1, (4, 0)), (0, (6, 0))]) (stN := []) (hsC := jpQ_19) (v := (0, 1)) (st2 := [(0, 1)]) (jQ_186_6 (d := 0)) (by rfl) (by rfl) (by decide +kernel) (by rfl) (by rfl) (by omega) (by omega) (by omega) (by omega) rfl ?_
  refine jT_xiload (v := (0, 1)) (pcN := 2948) jIQ_379_2946 rfl rfl rfl ?_
  refine jT_xicT (pcN := 2953) jIQ_379_2948 rfl (by decide +kernel) rfl ?_
  refine jT_xiload (v := (0, 1)) (pcN := 2955) jIQ_379_2953 rfl rfl rfl ?_
  refine jT_xifT (pcN := 2970) jIQ_379_2955 rfl (by decide +kernel) rfl ?_
  refine jT_xgoto (pcN := 3740) jIQ_379_2970 rfl ?_
  refine jT_xiinc (x := 0) (z := 5) (LN := [(5, (0, 5)), (7, (0, 0)), (6, (0, 1)), (4, (4, 3)), (3, (4, 2)), (2, (4, 1)), (1, (4, 0)), (0, (6, 0))]) (pcN := 3743) jIQ_379_3740 rfl rfl (by decide) rfl rfl ?_
  refine jT_xgoto (pcN := 28) jIQ_379_3743 rfl ?_
  refine jT_xiload (v := (0, 5)) (pcN := 30) jIQ_379_28 rfl rfl rfl ?_
  refine jT_xaload_n (v := (6, 0)) (pcN := 31) jIQ_379_30 rfl rfl rfl ?_
  refine jT_adv 1 (pcN := 32) (LN := [(5, (0, 5)), (7, (0, 0)), (6, (0, 1)), (4, (4, 3)), (3, (4, 2)), (2, (4, 1)), (1, (4, 0)), (0, (6, 0))]) (stN := [(0, 5), (0, 5)]) (hsN := jpQ_779) (c1 := 0) (s1 := 0) (c2 := 0) (s2 := 0) (by exact rfl) ?_ (by omega) (by omega)
  refine jT_xiconst (k := 5) (pcN := 33) jIQ_379_32 rfl ?_
  refine jT_xisub (x := 5) (y := 5) (z := 0) (pcN := 34) jIQ_379_33 rfl (by decide) rfl ?_
  refine jT_xicT (pcN := 3746) jIQ_379_34 rfl (by decide +kernel) rfl ?_
  refine jT_xiconst (k := 1) (pcN := 3747) jIQ_379_3746 rfl ?_
  exact jT_ret rfl (by decide) (by show 30 ≤ 30; decide) (by omega) (by omega) ⟨rfl, rfl⟩
def jzQ_795 : JC := (14, [(0, 2), (4, 15), (4, 16), (4, 17), (4, 18), (0, 0), (4, 19), (0, 0), (4, 20), (4, 21), (1, 1), (4, 22), (0, 0), (4, 23), (0, 0), (0, 0), (0, 0), (0, 0), (0, 0), (0, 0), (0, 0), (4, 24), (4, 25), (4, 26), (4, 27), (4, 28), (4, 29), (0, 0)], [])
def jpQ_796 : List JC := [jzQ_744, jzQ_795, jgh, jgh, jgh, jgh, jgh, jgh, jgh, jgh, jgh, jgh, jgh, jgh, jgh, jgh, jgh, jgh, jgh, jgh, jgh, jgh, jgh, jgh, jgh, jgh, jgh, jgh, jgh, jgh]
set_option maxRecDepth 100000 in
theorem jL_38_3 {d : Nat} {x0 x1 x2 x3 x4 : Int} (h_x0 : (-2147483648) ≤ x0 ∧ x0 ≤ 2147483647) (h_x1 : 0 ≤ x1 ∧ x1 ≤ 20) (h_x2 : 0 ≤ x2 ∧ x2 ≤ 10) (h_x3 : (-2147483648) ≤ x3 ∧ x3 ≤ (-1)) (h_x4 : 0 ≤ x4 ∧ x4 ≤ 100) : jT [x0, x1, x2, x3, x4] (d + 3) 379 30 2881 [(5, (0, 0)), (4, (4, 3)), (3, (4, 2)), (2, (4, 1)), (1, (4, 0)), (0, (6, 0))] [] jpQ_746 1 6 (fun k v hsN => k = 0 ∧ v = (0, 1)) := by
  refine jT_xaload_n (v := (4, 0)) (pcN := 2882) jIQ_379_2881 rfl rfl rfl ?_
  refine jT_xaload_n (v := (6, 0)) (pcN := 2883) jIQ_379_2882 rfl rfl rfl ?_
  refine jT_xiload (v := (0, 0)) (pcN := 2885) jIQ_379_2883 rfl rfl rfl ?_
  refine jT_xiconst (k := 1) (pcN := 2886) jIQ_379_2885 rfl ?_
  refine jT_xiadd (x := 0) (y := 1) (z := 1) (pcN := 2887) jIQ_379_2886 rfl (by decide) rfl ?_
  refine jT_adv 1 (pcN := 2888) (LN := [(5, (0, 0)), (4, (4, 3)), (3, (4, 2)), (2, (4, 1)), (1, (4, 0)), (0, (6, 0))]) (stN := [(0, x1), (4, 0)]) (hsN := jpQ_746) (c1 := 0) (s1 := 0) (c2 := 1) (s2 := 6) (by exact rfl) ?_ (by omega) (by omega)
  refine jT_xaload_n (v := (6, 0)) (pcN := 2889) jIQ_379_2888 rfl rfl rfl ?_
  refine jT_xiload (v := (0, 0)) (pcN := 2891) jIQ_379_2889 rfl rfl rfl ?_
  refine jT_xiconst (k := 2) (pcN := 2892) jIQ_379_2891 rfl ?_
  refine jT_xiadd (x := 0) (y := 2) (z := 2) (pcN := 2893) jIQ_379_2892 rfl (by decide) rfl ?_
  refine jT_adv 1 (pcN := 2894) (LN := [(5, (0, 0)), (4, (4, 3)), (3, (4, 2)), (2, (4, 1)), (1, (4, 0)), (0, (6, 0))]) (stN := [(0, x2), (0, x1), (4, 0)]) (hsN := jpQ_746) (c1 := 0) (s1 := 0) (c2 := 1) (s2 := 6) (by exact rfl) ?_ (by omega) (by omega)
  refine jT_xaload_n (v := (6, 0)) (pcN := 2895) jIQ_379_2894 rfl rfl rfl ?_
  refine jT_xiload (v := (0, 0)) (pcN := 2897) jIQ_379_2895 rfl rfl rfl ?_
  refine jT_xiconst (k := 3) (pcN := 2898) jIQ_379_2897 rfl ?_
  refine jT_xiadd (x := 0) (y := 3) (z := 3) (pcN := 2899) jIQ_379_2898 rfl (by decide) rfl ?_
  refine jT_adv 1 (pcN := 2900) (LN := [(5, (0, 0)), (4, (4, 3)), (3, (4, 2)), (2, (4, 1)), (1, (4, 0)), (0, (6, 0))]) (stN := [(0, x3), (0, x2), (0, x1), (4, 0)]) (hsN := jpQ_746) (c1 := 0) (s1 := 0) (c2 := 1) (s2 := 6) (by exact rfl) ?_ (by omega) (by omega)
  refine jT_xaload_n (v := (6, 0)) (pcN := 2901) jIQ_379_2900 rfl rfl rfl ?_
  refine jT_xiload (v := (0, 0)) (pcN := 2903) jIQ_379_2901 rfl rfl rfl ?_
  refine jT_xiconst (k := 4) (pcN := 2904) jIQ_379_2903 rfl ?_
  refine jT_xiadd (x := 0) (y := 4) (z := 4) (pcN := 2905) jIQ_379_2904 rfl (by decide) rfl ?_
  refine jT_adv 1 (pcN := 2906) (LN := [(5, (0, 0)), (4, (4, 3)), (3, (4, 2)), (2, (4, 1)), (1, (4, 0)), (0, (6, 0))]) (stN := [(0, x4), (0, x3), (0, x2), (0, x1), (4, 0)]) (hsN := jpQ_746) (c1 := 0) (s1 := 0) (c2 := 1) (s2 := 6) (by exact rfl) ?_ (by omega) (by omega)
  refine jT_xaload_n (v := (4, 2)) (pcN := 2907) jIQ_379_2906 rfl rfl rfl ?_
  refine jT_fR [0, 2, 4, 5, 6, 7, 8, 9, 10, 11, 12, 13, 14] 30 (y := 362) (pcN := 2910) (dC := 2) (bc1 := 1) (bc2 := 6) (c1 := 0) (c2 := 0) (as := [(4, 0), (0, x1), (0, x2), (0, x3), (0, x4), (4, 2)]) (asC := [(4, 0), (0, x1), (0, x2), (0, x3), (0, x4), (4, 1)]) (LN := [(5, (0, 0)), (4, (4, 3)), (3, (4, 2)), (2, (4, 1)), (1, (4, 0)), (0, (6, 0))]) (stN := []) (hsC := jpQ_17) (v := (0, 2)) (st2 := [(0, 2)]) (jQ_362_20 (d := 0) (by omega) (by omega) (by omega) (by omega)) (by rfl) (by rfl) (by decide +kernel) (by rfl) (by rfl) (by omega) (by omega) (by omega) (by omega) rfl ?_
  refine jT_xistore (v := (0, 2)) (LN := [(6, (0, 2)), (5, (0, 0)), (4, (4, 3)), (3, (4, 2)), (2, (4, 1)), (1, (4, 0)), (0, (6, 0))]) (pcN := 2912) jIQ_379_2910 rfl rfl rfl rfl ?_
  refine jT_xaload_n (v := (4, 1)) (pcN := 2913) jIQ_379_2912 rfl rfl rfl ?_
  refine jT_xaload_n (v := (6, 0)) (pcN := 2914) jIQ_379_2913 rfl rfl rfl ?_
  refine jT_xiload (v := (0, 0)) (pcN := 2916) jIQ_379_2914 rfl rfl rfl ?_
  refine jT_xiconst (k := 1) (pcN := 2917) jIQ_379_2916 rfl ?_
  refine jT_xiadd (x := 0) (y := 1) (z := 1) (pcN := 2918) jIQ_379_2917 rfl (by decide) rfl ?_
  refine jT_adv 1 (pcN := 2919) (LN := [(6, (0, 2)), (5, (0, 0)), (4, (4, 3)), (3, (4, 2)), (2, (4, 1)), (1, (4, 0)), (0, (6, 0))]) (stN := [(0, x1), (4, 1)]) (hsN := jpQ_746) (c1 := 0) (s1 := 0) (c2 := 0) (s2 := 0) (by exact rfl) ?_ (by omega) (by omega)
  refine jT_xaload_n (v := (6, 0)) (pcN := 2920) jIQ_379_2919 rfl rfl rfl ?_
  refine jT_xiload (v := (0, 0)) (pcN := 2922) jIQ_379_2920 rfl rfl rfl ?_
  refine jT_xiconst (k := 2) (pcN := 2923) jIQ_379_2922 rfl ?_
  refine jT_xiadd (x := 0) (y := 2) (z := 2) (pcN := 2924) jIQ_379_2923 rfl (by decide) rfl ?_
  refine jT_adv 1 (pcN := 2925) (LN := [(6, (0, 2)), (5, (0, 0)), (4, (4, 3)), (3, (4, 2)), (2, (4, 1)), (1, (4, 0)), (0, (6, 0))]) (stN := [(0, x2), (0, x1), (4, 1)]) (hsN := jpQ_746) (c1 := 0) (s1 := 0) (c2 := 0) (s2 := 0) (by exact rfl) ?_ (by omega) (by omega)
  refine jT_xaload_n (v := (6, 0)) (pcN := 2926) jIQ_379_2925 rfl rfl rfl ?_
  refine jT_xiload (v := (0, 0)) (pcN := 2928) jIQ_379_2926 rfl rfl rfl ?_
  refine jT_xiconst (k := 3) (pcN := 2929) jIQ_379_2928 rfl ?_
  refine jT_xiadd (x := 0) (y := 3) (z := 3) (pcN := 2930) jIQ_379_2929 rfl (by decide) rfl ?_
  refine jT_adv 1 (pcN := 2931) (LN := [(6, (0, 2)), (5, (0, 0)), (4, (4, 3)), (3, (4, 2)), (2, (4, 1)), (1, (4, 0)), (0, (6, 0))]) (stN := [(0, x3), (0, x2), (0, x1), (4, 1)]) (hsN := jpQ_746) (c1 := 0) (s1 := 0) (c2 := 0) (s2 := 0) (by exact rfl) ?_ (by omega) (by omega)
  refine jT_xaload_n (v := (6, 0)) (pcN := 2932) jIQ_379_2931 rfl rfl rfl ?_
  refine jT_xiload (v := (0, 0)) (pcN := 2934) jIQ_379_2932 rfl rfl rfl ?_
  refine jT_xiconst (k := 4) (pcN := 2935) jIQ_379_2934 rfl ?_
  refine jT_xiadd (x := 0) (y := 4) (z := 4) (pcN := 2936) jIQ_379_2935 rfl (by decide) rfl ?_
  refine jT_adv 1 (pcN := 2937) (LN := [(6, (0, 2)), (5, (0, 0)), (4, (4, 3)), (3, (4, 2)), (2, (4, 1)), (1, (4, 0)), (0, (6, 0))]) (stN := [(0, x4), (0, x3), (0, x2), (0, x1), (4, 1)]) (hsN := jpQ_746) (c1 := 0) (s1 := 0) (c2 := 0) (s2 := 0) (by exact rfl) ?_ (by omega) (by omega)
  refine jT_fB [1, 15, 16, 17, 18, 19, 20, 21, 22, 23, 24, 25, 26, 27, 28, 29] 30 (y := 298) (pcN := 2940) (dC := 2) (bc1 := 0) (bc2 := 0) (c1 := 0) (c2 := 0) (as := [(4, 1), (0, x1), (0, x2), (0, x3), (0, x4)]) (asC := [(4, 0), (0, x1), (0, x2), (0, x3), (0, x4)]) (LN := [(6, (0, 2)), (5, (0, 0)), (4, (4, 3)), (3, (4, 2)), (2, (4, 1)), (1, (4, 0)), (0, (6, 0))]) (stN := []) (hsC := jpQ_21) (hsD := jpQ_61) (v := (0, 0)) (st2 := [(0, 0)]) (hs2 := jpQ_796) (jQ_298_24 (d := 0) (by omega) (by omega) (by omega) (by omega)) (by rfl) (by rfl) (by decide +kernel) (by rfl) (by rfl) (by omega) (by omega) (by omega) (by omega) rfl (by decide +kernel) ?_
  refine jT_xistore (v := (0, 0)) (LN := [(7, (0, 0)), (6, (0, 2)), (5, (0, 0)), (4, (4, 3)), (3, (4, 2)), (2, (4, 1)), (1, (4, 0)), (0, (6, 0))]) (pcN := 2942) jIQ_379_2940 rfl rfl rfl rfl ?_
  refine jT_xaload_n (v := (4, 1)) (pcN := 2943) jIQ_379_2942 rfl rfl rfl ?_
  refine jT_fR [1, 15, 16, 17, 18, 19, 20, 21, 22, 23, 24, 25, 26, 27, 28, 29] 30 (y := 186) (pcN := 2946) (dC := 0) (bc1 := 0) (bc2 := 0) (c1 := 0) (c2 := 0) (as := [(4, 1)]) (asC := [(4, 0)]) (LN := [(7, (0, 0)), (6, (0, 2)), (5, (0, 0)), (4, (4, 3)), (3, (4, 2)), (2, (4, 1)), (1, (4, 0)), (0, (6, 0))]) (stN := []) (hsC := jpQ_61) (v := (0, 2)) (st2 := [(0, 2)]) (jQ_186_25 (d := 0)) (by rfl) (by rfl) (by decide +kernel) (by rfl) (by rfl) (by omega) (by omega) (by omega) (by omega) rfl ?_
  refine jT_xiload (v := (0, 2)) (pcN := 2948) jIQ_379_2946 rfl rfl rfl ?_
  refine jT_xicT (pcN := 2953) jIQ_379_2948 rfl (by decide +kernel) rfl ?_
  refine jT_xiload (v := (0, 2)) (pcN := 2955) jIQ_379_2953 rfl rfl rfl ?_
  refine jT_xifT (pcN := 2970) jIQ_379_2955 rfl (by decide +kernel) rfl ?_
  refine jT_xgoto (pcN := 3740) jIQ_379_2970 rfl ?_
  refine jT_xiinc (x := 0) (z := 5) (LN := [(5, (0, 5)), (7, (0, 0)), (6, (0, 2)), (4, (4, 3)), (3, (4, 2)), (2, (4, 1)), (1, (4, 0)), (0, (6, 0))]) (pcN := 3743) jIQ_379_3740 rfl rfl (by decide) rfl rfl ?_
  refine jT_xgoto (pcN := 28) jIQ_379_3743 rfl ?_
  refine jT_xiload (v := (0, 5)) (pcN := 30) jIQ_379_28 rfl rfl rfl ?_
  refine jT_xaload_n (v := (6, 0)) (pcN := 31) jIQ_379_30 rfl rfl rfl ?_
  refine jT_adv 1 (pcN := 32) (LN := [(5, (0, 5)), (7, (0, 0)), (6, (0, 2)), (4, (4, 3)), (3, (4, 2)), (2, (4, 1)), (1, (4, 0)), (0, (6, 0))]) (stN := [(0, 5), (0, 5)]) (hsN := jpQ_796) (c1 := 0) (s1 := 0) (c2 := 0) (s2 := 0) (by exact rfl) ?_ (by omega) (by omega)
  refine jT_xiconst (k := 5) (pcN := 33) jIQ_379_32 rfl ?_
  refine jT_xisub (x := 5) (y := 5) (z := 0) (pcN := 34) jIQ_379_33 rfl (by decide) rfl ?_
  refine jT_xicT (pcN := 3746) jIQ_379_34 rfl (by decide +kernel) rfl ?_
  refine jT_xiconst (k := 1) (pcN := 3747) jIQ_379_3746 rfl ?_
  exact jT_ret rfl (by decide) (by show 30 ≤ 30; decide) (by omega) (by omega) ⟨rfl, rfl⟩
