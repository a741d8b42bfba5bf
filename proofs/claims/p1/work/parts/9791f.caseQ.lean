/-! the law, case by case: 38 -/
theorem jQ_161_315 {xs : List Int} {d : Nat} {r7 r8 u11_0 u11_1 u11_2 u11_3 u11_4 u11_5 : Int} (h_r7 : (-20) ≤ r7 ∧ r7 ≤ 20) (h_r8 : (-10) ≤ r8 ∧ r8 ≤ 10) (g_0 : 0 < r7) : jT xs (d + 2) 161 16 0 [(0, (4, 0)), (1, (0, r7)), (2, (0, r8)), (3, (4, 1)), (4, (0, 0))] [] [jzQ_16, (4, [(4, 13), (1, 1)], []), (8, [(4, 14), (4, 15)], []), jgh, jgh, jgh, jgh, jgh, jgh, (101, [], [u11_0, u11_1, u11_2, u11_3, u11_4, u11_5]), jgh, jgh, jgh, (101, [], [0, 0, 0, 0, 0, 0]), jgh, jgh] 0 0 (fun k v hsN => k = 0 ∧ v = (0, 0) ∧ hsN = [jzQ_16, (4, [(4, 13), (1, 1)], []), (8, [(4, 14), (4, 15)], []), jgh, jgh, jgh, jgh, jgh, jgh, (101, [], [(108917793695 * r7 + 159561683699 * r8) / 68719476736, -r7, -r8, 0, 0, 0]), jgh, jgh, jgh, (101, [], [0, 0, 0, 0, 0, 0]), jgh, jgh]) := by
  refine jT_xiload_n (v := (0, r7)) (pcN := 1) jIQ_161_0 rfl rfl rfl ?_
  refine jT_ifT (a := r7) (t := 10) (by rfl) (by rfl) (by rfl) (jw_idd (by omega) (by omega)) (by simp only [jcP] <;> omega) ?_
  refine jT_xiconst (k := 0) (pcN := 11) jIQ_161_10 rfl ?_
  refine jT_xistore (v := (0, 0)) (LN := [(5, (0, 0)), (0, (4, 0)), (1, (0, r7)), (2, (0, r8)), (3, (4, 1)), (4, (0, 0))]) (pcN := 13) jIQ_161_11 rfl rfl rfl rfl ?_
  refine jT_xiload (v := (0, 0)) (pcN := 15) jIQ_161_13 rfl rfl rfl ?_
  refine jT_xbipush (k := 6) (pcN := 17) jIQ_161_15 (by decide) rfl ?_
  refine jT_xicF (t := 56) (pcN := 20) jIQ_161_17 rfl (by decide +kernel) rfl rfl ?_
  refine jT_xaload_n (v := (4, 0)) (pcN := 21) jIQ_161_20 rfl rfl rfl ?_
  refine jT_xgetf (a := 0) (t := 1) (ci := 13) (fi := 7) (c := jzQ_16) (v := (4, 9)) (pcN := 24) jIQ_161_21 rfl rfl rfl rfl rfl rfl rfl ?_
  refine jT_xiload (v := (0, 0)) (pcN := 26) jIQ_161_24 rfl rfl rfl ?_
  refine jT_xiload (v := (0, 0)) (pcN := 28) jIQ_161_26 rfl rfl rfl ?_
  refine jT_xiconst (k := 1) (pcN := 29) jIQ_161_28 rfl ?_
  refine jT_xicT (pcN := 37) jIQ_161_29 rfl (by decide +kernel) rfl ?_
  refine jT_xiload (v := (0, 0)) (pcN := 39) jIQ_161_37 rfl rfl rfl ?_
  refine jT_xiconst (k := 2) (pcN := 40) jIQ_161_39 rfl ?_
  refine jT_xicT (pcN := 48) jIQ_161_40 rfl (by decide +kernel) rfl ?_
  refine jT_xlconst (z := 0) (pcN := 49) jIQ_161_48 rfl rfl ?_
  refine jT_adv 1 (pcN := 50) (LN := [(5, (0, 0)), (0, (4, 0)), (1, (0, r7)), (2, (0, r8)), (3, (4, 1)), (4, (0, 0))]) (stN := []) (hsN := [jzQ_16, (4, [(4, 13), (1, 1)], []), (8, [(4, 14), (4, 15)], []), jgh, jgh, jgh, jgh, jgh, jgh, (101, [], [0, u11_1, u11_2, u11_3, u11_4, u11_5]), jgh, jgh, jgh, (101, [], [0, 0, 0, 0, 0, 0]), jgh, jgh]) (c1 := 0) (s1 := 0) (c2 := 0) (s2 := 0) (by exact rfl) ?_ (by omega) (by omega)
  refine jT_xiinc (x := 0) (z := 1) (LN := [(5, (0, 1)), (0, (4, 0)), (1, (0, r7)), (2, (0, r8)), (3, (4, 1)), (4, (0, 0))]) (pcN := 53) jIQ_161_50 rfl rfl (by decide) rfl rfl ?_
  refine jT_xgoto (pcN := 13) jIQ_161_53 rfl ?_
  refine jT_xiload (v := (0, 1)) (pcN := 15) jIQ_161_13 rfl rfl rfl ?_
  refine jT_xbipush (k := 6) (pcN := 17) jIQ_161_15 (by decide) rfl ?_
  refine jT_xicF (t := 56) (pcN := 20) jIQ_161_17 rfl (by decide +kernel) rfl rfl ?_
  refine jT_xaload_n (v := (4, 0)) (pcN := 21) jIQ_161_20 rfl rfl rfl ?_
  refine jT_xgetf (a := 0) (t := 1) (ci := 13) (fi := 7) (c := jzQ_16) (v := (4, 9)) (pcN := 24) jIQ_161_21 rfl rfl rfl rfl rfl rfl rfl ?_
  refine jT_xiload (v := (0, 1)) (pcN := 26) jIQ_161_24 rfl rfl rfl ?_
  refine jT_xiload (v := (0, 1)) (pcN := 28) jIQ_161_26 rfl rfl rfl ?_
  refine jT_xiconst (k := 1) (pcN := 29) jIQ_161_28 rfl ?_
  refine jT_xicF (t := 37) (pcN := 32) jIQ_161_29 rfl (by decide +kernel) rfl rfl ?_
  refine jT_xiload_n (v := (0, r7)) (pcN := 33) jIQ_161_32 rfl rfl rfl ?_
  refine jT_xi2l (x := r7) (z := r7) (pcN := 34) jIQ_161_33 rfl (jw_idd (by omega) (by omega)) rfl ?_
  refine jT_xgoto (pcN := 49) jIQ_161_34 rfl ?_
  refine jT_adv 1 (pcN := 50) (LN := [(5, (0, 1)), (0, (4, 0)), (1, (0, r7)), (2, (0, r8)), (3, (4, 1)), (4, (0, 0))]) (stN := []) (hsN := [jzQ_16, (4, [(4, 13), (1, 1)], []), (8, [(4, 14), (4, 15)], []), jgh, jgh, jgh, jgh, jgh, jgh, (101, [], [0, r7, u11_2, u11_3, u11_4, u11_5]), jgh, jgh, jgh, (101, [], [0, 0, 0, 0, 0, 0]), jgh, jgh]) (c1 := 0) (s1 := 0) (c2 := 0) (s2 := 0) (by exact rfl) ?_ (by omega) (by omega)
  refine jT_xiinc (x := 1) (z := 2) (LN := [(5, (0, 2)), (0, (4, 0)), (1, (0, r7)), (2, (0, r8)), (3, (4, 1)), (4, (0, 0))]) (pcN := 53) jIQ_161_50 rfl rfl (by decide) rfl rfl ?_
  refine jT_xgoto (pcN := 13) jIQ_161_53 rfl ?_
  refine jT_xiload (v := (0, 2)) (pcN := 15) jIQ_161_13 rfl rfl rfl ?_
  refine jT_xbipush (k := 6) (pcN := 17) jIQ_161_15 (by decide) rfl ?_
  refine jT_xicF (t := 56) (pcN := 20) jIQ_161_17 rfl (by decide +kernel) rfl rfl ?_
  refine jT_xaload_n (v := (4, 0)) (pcN := 21) jIQ_161_20 rfl rfl rfl ?_
  refine jT_xgetf (a := 0) (t := 1) (ci := 13) (fi := 7) (c := jzQ_16) (v := (4, 9)) (pcN := 24) jIQ_161_21 rfl rfl rfl rfl rfl rfl rfl ?_
  refine jT_xiload (v := (0, 2)) (pcN := 26) jIQ_161_24 rfl rfl rfl ?_
  refine jT_xiload (v := (0, 2)) (pcN := 28) jIQ_161_26 rfl rfl rfl ?_
  refine jT_xiconst (k := 1) (pcN := 29) jIQ_161_28 rfl ?_
  refine jT_xicT (pcN := 37) jIQ_161_29 rfl (by decide +kernel) rfl ?_
  refine jT_xiload (v := (0, 2)) (pcN := 39) jIQ_161_37 rfl rfl rfl ?_
  refine jT_xiconst (k := 2) (pcN := 40) jIQ_161_39 rfl ?_
  refine jT_xicF (t := 48) (pcN := 43) jIQ_161_40 rfl (by decide +kernel) rfl rfl ?_
  refine jT_xiload_n (v := (0, r8)) (pcN := 44) jIQ_161_43 rfl rfl rfl ?_
  refine jT_xi2l (x := r8) (z := r8) (pcN := 45) jIQ_161_44 rfl (jw_idd (by omega) (by omega)) rfl ?_
  refine jT_xgoto (pcN := 49) jIQ_161_45 rfl ?_
  refine jT_adv 1 (pcN := 50) (LN := [(5, (0, 2)), (0, (4, 0)), (1, (0, r7)), (2, (0, r8)), (3, (4, 1)), (4, (0, 0))]) (stN := []) (hsN := [jzQ_16, (4, [(4, 13), (1, 1)], []), (8, [(4, 14), (4, 15)], []), jgh, jgh, jgh, jgh, jgh, jgh, (101, [], [0, r7, r8, u11_3, u11_4, u11_5]), jgh, jgh, jgh, (101, [], [0, 0, 0, 0, 0, 0]), jgh, jgh]) (c1 := 0) (s1 := 0) (c2 := 0) (s2 := 0) (by exact rfl) ?_ (by omega) (by omega)
  refine jT_xiinc (x := 2) (z := 3) (LN := [(5, (0, 3)), (0, (4, 0)), (1, (0, r7)), (2, (0, r8)), (3, (4, 1)), (4, (0, 0))]) (pcN := 53) jIQ_161_50 rfl rfl (by decide) rfl rfl ?_
  refine jT_xgoto (pcN := 13) jIQ_161_53 rfl ?_
  refine jT_xiload (v := (0, 3)) (pcN := 15) jIQ_161_13 rfl rfl rfl ?_
  refine jT_xbipush (k := 6) (pcN := 17) jIQ_161_15 (by decide) rfl ?_
  refine jT_xicF (t := 56) (pcN := 20) jIQ_161_17 rfl (by decide +kernel) rfl rfl ?_
  refine jT_xaload_n (v := (4, 0)) (pcN := 21) jIQ_161_20 rfl rfl rfl ?_
  refine jT_xgetf (a := 0) (t := 1) (ci := 13) (fi := 7) (c := jzQ_16) (v := (4, 9)) (pcN := 24) jIQ_161_21 rfl rfl rfl rfl rfl rfl rfl ?_
  refine jT_xiload (v := (0, 3)) (pcN := 26) jIQ_161_24 rfl rfl rfl ?_
  refine jT_xiload (v := (0, 3)) (pcN := 28) jIQ_161_26 rfl rfl rfl ?_
  refine jT_xiconst (k := 1) (pcN := 29) jIQ_161_28 rfl ?_
  refine jT_xicT (pcN := 37) jIQ_161_29 rfl (by decide +kernel) rfl ?_
  refine jT_xiload (v := (0, 3)) (pcN := 39) jIQ_161_37 rfl rfl rfl ?_
  refine jT_xiconst (k := 2) (pcN := 40) jIQ_161_39 rfl ?_
  refine jT_xicT (pcN := 48) jIQ_161_40 rfl (by decide +kernel) rfl ?_
  refine jT_xlconst (z := 0) (pcN := 49) jIQ_161_48 rfl rfl ?_
  refine jT_adv 1 (pcN := 50) (LN := [(5, (0, 3)), (0, (4, 0)), (1, (0, r7)), (2, (0, r8)), (3, (4, 1)), (4, (0, 0))]) (stN := []) (hsN := [jzQ_16, (4, [(4, 13), (1, 1)], []), (8, [(4, 14), (4, 15)], []), jgh, jgh, jgh, jgh, jgh, jgh, (101, [], [0, r7, r8, 0, u11_4, u11_5]), jgh, jgh, jgh, (101, [], [0, 0, 0, 0, 0, 0]), jgh, jgh]) (c1 := 0) (s1 := 0) (c2 := 0) (s2 := 0) (by exact rfl) ?_ (by omega) (by omega)
  refine jT_xiinc (x := 3) (z := 4) (LN := [(5, (0, 4)), (0, (4, 0)), (1, (0, r7)), (2, (0, r8)), (3, (4, 1)), (4, (0, 0))]) (pcN := 53) jIQ_161_50 rfl rfl (by decide) rfl rfl ?_
  refine jT_xgoto (pcN := 13) jIQ_161_53 rfl ?_
  refine jT_xiload (v := (0, 4)) (pcN := 15) jIQ_161_13 rfl rfl rfl ?_
  refine jT_xbipush (k := 6) (pcN := 17) jIQ_161_15 (by decide) rfl ?_
  refine jT_xicF (t := 56) (pcN := 20) jIQ_161_17 rfl (by decide +kernel) rfl rfl ?_
  refine jT_xaload_n (v := (4, 0)) (pcN := 21) jIQ_161_20 rfl rfl rfl ?_
  refine jT_xgetf (a := 0) (t := 1) (ci := 13) (fi := 7) (c := jzQ_16) (v := (4, 9)) (pcN := 24) jIQ_161_21 rfl rfl rfl rfl rfl rfl rfl ?_
  refine jT_xiload (v := (0, 4)) (pcN := 26) jIQ_161_24 rfl rfl rfl ?_
  refine jT_xiload (v := (0, 4)) (pcN := 28) jIQ_161_26 rfl rfl rfl ?_
  refine jT_xiconst (k := 1) (pcN := 29) jIQ_161_28 rfl ?_
  refine jT_xicT (pcN := 37) jIQ_161_29 rfl (by decide +kernel) rfl ?_
  refine jT_xiload (v := (0, 4)) (pcN := 39) jIQ_161_37 rfl rfl rfl ?_
  refine jT_xiconst (k := 2) (pcN := 40) jIQ_161_39 rfl ?_
  refine jT_xicT (pcN := 48) jIQ_161_40 rfl (by decide +kernel) rfl ?_
  refine jT_xlconst (z := 0) (pcN := 49) jIQ_161_48 rfl rfl ?_
  refine jT_adv 1 (pcN := 50) (LN := [(5, (0, 4)), (0, (4, 0)), (1, (0, r7)), (2, (0, r8)), (3, (4, 1)), (4, (0, 0))]) (stN := []) (hsN := [jzQ_16, (4, [(4, 13), (1, 1)], []), (8, [(4, 14), (4, 15)], []), jgh, jgh, jgh, jgh, jgh, jgh, (101, [], [0, r7, r8, 0, 0, u11_5]), jgh, jgh, jgh, (101, [], [0, 0, 0, 0, 0, 0]), jgh, jgh]) (c1 := 0) (s1 := 0) (c2 := 0) (s2 := 0) (by exact rfl) ?_ (by omega) (by omega)
  refine jT_xiinc (x := 4) (z := 5) (LN := [(5, (0, 5)), (0, (4, 0)), (1, (0, r7)), (2, (0, r8)), (3, (4, 1)), (4, (0, 0))]) (pcN := 53) jIQ_161_50 rfl rfl (by decide) rfl rfl ?_
  refine jT_xgoto (pcN := 13) jIQ_161_53 rfl ?_
  refine jT_xiload (v := (0, 5)) (pcN := 15) jIQ_161_13 rfl rfl rfl ?_
  refine jT_xbipush (k := 6) (pcN := 17) jIQ_161_15 (by decide) rfl ?_
  refine jT_xicF (t := 56) (pcN := 20) jIQ_161_17 rfl (by decide +kernel) rfl rfl ?_
  refine jT_xaload_n (v := (4, 0)) (pcN := 21) jIQ_161_20 rfl rfl rfl ?_
  refine jT_xgetf (a := 0) (t := 1) (ci := 13) (fi := 7) (c := jzQ_16) (v := (4, 9)) (pcN := 24) jIQ_161_21 rfl rfl rfl rfl rfl rfl rfl ?_
  refine jT_xiload (v := (0, 5)) (pcN := 26) jIQ_161_24 rfl rfl rfl ?_
  refine jT_xiload (v := (0, 5)) (pcN := 28) jIQ_161_26 rfl rfl rfl ?_
  refine jT_xiconst (k := 1) (pcN := 29) jIQ_161_28 rfl ?_
  refine jT_xicT (pcN := 37) jIQ_161_29 rfl (by decide +kernel) rfl ?_
  refine jT_xiload (v := (0, 5)) (pcN := 39) jIQ_161_37 rfl rfl rfl ?_
  refine jT_xiconst (k := 2) (pcN := 40) jIQ_161_39 rfl ?_
  refine jT_xicT (pcN := 48) jIQ_161_40 rfl (by decide +kernel) rfl ?_
  refine jT_xlconst (z := 0) (pcN := 49) jIQ_161_48 rfl rfl ?_
  refine jT_adv 1 (pcN := 50) (LN := [(5, (0, 5)), (0, (4, 0)), (1, (0, r7)), (2, (0, r8)), (3, (4, 1)), (4, (0, 0))]) (stN := []) (hsN := [jzQ_16, (4, [(4, 13), (1, 1)], []), (8, [(4, 14), (4, 15)], []), jgh, jgh, jgh, jgh, jgh, jgh, (101, [], [0, r7, r8, 0, 0, 0]), jgh, jgh, jgh, (101, [], [0, 0, 0, 0, 0, 0]), jgh, jgh]) (c1 := 0) (s1 := 0) (c2 := 0) (s2 := 0) (by exact rfl) ?_ (by omega) (by omega)
  refine jT_xiinc (x := 5) (z := 6) (LN := [(5, (0, 6)), (0, (4, 0)), (1, (0, r7)), (2, (0, r8)), (3, (4, 1)), (4, (0, 0))]) (pcN := 53) jIQ_161_50 rfl rfl (by decide) rfl rfl ?_
  refine jT_xgoto (pcN := 13) jIQ_161_53 rfl ?_
  refine jT_xiload (v := (0, 6)) (pcN := 15) jIQ_161_13 rfl rfl rfl ?_
  refine jT_xbipush (k := 6) (pcN := 17) jIQ_161_15 (by decide) rfl ?_
  refine jT_xicT (pcN := 56) jIQ_161_17 rfl (by decide +kernel) rfl ?_
  refine jT_xaload_n (v := (4, 0)) (pcN := 57) jIQ_161_56 rfl rfl rfl ?_
  refine jT_xgetf (a := 0) (t := 1) (ci := 13) (fi := 0) (c := jzQ_16) (v := (4, 2)) (pcN := 60) jIQ_161_57 rfl rfl rfl rfl rfl rfl rfl ?_
  refine jT_xaload_n (v := (4, 0)) (pcN := 61) jIQ_161_60 rfl rfl rfl ?_
  refine jT_xgetf (a := 0) (t := 1) (ci := 13) (fi := 7) (c := jzQ_16) (v := (4, 9)) (pcN := 64) jIQ_161_61 rfl rfl rfl rfl rfl rfl rfl ?_
  refine jT_xlconst (z := 1) (pcN := 65) jIQ_161_64 rfl rfl ?_
  refine jT_xlconst (z := 1) (pcN := 66) jIQ_161_65 rfl rfl ?_
  refine jT_callA [2, 9, 14, 15] (y := 45) (pcN := 69) (dC := 1) (bc1 := 0) (bc2 := 0) (c1 := 0) (c2 := 0) (as := [(4, 2), (4, 9), (1, 1), (1, 1)]) (asC := [(4, 0), (4, 1), (1, 1), (1, 1)]) (LN := [(5, (0, 6)), (0, (4, 0)), (1, (0, r7)), (2, (0, r8)), (3, (4, 1)), (4, (0, 0))]) (stN := []) (hsC := [(8, [(4, 2), (4, 3)], []), (101, [], [0, r7, r8, 0, 0, 0]), jgh, jgh]) (ex := []) (v := (1, (108917793695 * r7 + 159561683699 * r8) / 68719476736)) (st2 := [(1, (108917793695 * r7 + 159561683699 * r8) / 68719476736)]) (hs2 := [jzQ_16, (4, [(4, 13), (1, 1)], []), (8, [(4, 14), (4, 15)], []), jgh, jgh, jgh, jgh, jgh, jgh, (101, [], [0, r7, r8, 0, 0, 0]), jgh, jgh, jgh, (101, [], [0, 0, 0, 0, 0, 0]), jgh, jgh]) (jQl_sp45_116 (d := 0) (by omega) (by omega)) (by rfl) (by rfl) (by rfl) (by rfl) ⟨rfl, rfl, rfl, rfl, trivial⟩ (by rfl) (by rfl) (by omega) (by show 16 ≤ 16; omega) (by omega) (by omega) rfl rfl ?_
  have hb_q1 : (-60) ≤ (108917793695 * r7 + 159561683699 * r8) / 68719476736 ∧ (108917793695 * r7 + 159561683699 * r8) / 68719476736 ≤ 60 := ⟨by omega, by omega⟩
  generalize hq_q1 : (108917793695 * r7 + 159561683699 * r8) / 68719476736 = q1 at hb_q1 ⊢
  refine jT_xlstore (v := (1, q1)) (LN := [(5, (1, q1)), (0, (4, 0)), (1, (0, r7)), (2, (0, r8)), (3, (4, 1)), (4, (0, 0))]) (pcN := 71) jIQ_161_69 rfl rfl rfl rfl ?_
  have g_1 : 0 ≤ (-68719476736) * q1 + 108917793694 * r7 + 159561683698 * r8 - 1 := by have := jcg (b := r7) (c := r8) (by omega) (by omega) (by omega); rw [hq_q1] at this; omega
  have g_2 : 0 ≤ (-68719476736) * q1 + 108917793694 * r7 + 159561683700 * r8 - 1 := by have := jcg (b := r7) (c := r8) (by omega) (by omega) (by omega); rw [hq_q1] at this; omega
  have g_3 : 0 ≤ (-68719476736) * q1 + 108917793696 * r7 + 159561683698 * r8 - 1 := by have := jcg (b := r7) (c := r8) (by omega) (by omega) (by omega); rw [hq_q1] at this; omega
  have g_4 : 0 ≤ (-68719476736) * q1 + 108917793696 * r7 + 159561683700 * r8 - 1 := by have := jcg (b := r7) (c := r8) (by omega) (by omega) (by omega); rw [hq_q1] at this; omega
  refine jT_xiload (v := (0, 0)) (pcN := 73) jIQ_161_71 rfl rfl rfl ?_
  refine jT_xifT (pcN := 107) jIQ_161_73 rfl (by decide +kernel) rfl ?_
  refine jT_xaload_n (v := (4, 0)) (pcN := 108) jIQ_161_107 rfl rfl rfl ?_
  refine jT_xgetf (a := 0) (t := 1) (ci := 13) (fi := 7) (c := jzQ_16) (v := (4, 9)) (pcN := 111) jIQ_161_108 rfl rfl rfl rfl rfl rfl rfl ?_
  refine jT_xiconst (k := 0) (pcN := 112) jIQ_161_111 rfl ?_
  refine jT_xlload (v := (1, q1)) (pcN := 114) jIQ_161_112 rfl rfl rfl ?_
  refine jT_adv 2 (pcN := 116) (LN := [(5, (1, q1)), (0, (4, 0)), (1, (0, r7)), (2, (0, r8)), (3, (4, 1)), (4, (0, 0))]) (stN := []) (hsN := [jzQ_16, (4, [(4, 13), (1, 1)], []), (8, [(4, 14), (4, 15)], []), jgh, jgh, jgh, jgh, jgh, jgh, (101, [], [-q1, r7, r8, 0, 0, 0]), jgh, jgh, jgh, (101, [], [0, 0, 0, 0, 0, 0]), jgh, jgh]) (c1 := 0) (s1 := 0) (c2 := 0) (s2 := 0) (by exact rfl) ?_ (by omega) (by omega)
  refine jT_xiconst (k := 0) (pcN := 117) jIQ_161_116 rfl ?_
  refine jT_xistore (v := (0, 0)) (LN := [(7, (0, 0)), (5, (1, q1)), (0, (4, 0)), (1, (0, r7)), (2, (0, r8)), (3, (4, 1)), (4, (0, 0))]) (pcN := 119) jIQ_161_117 rfl rfl rfl rfl ?_
  refine jT_xiload (v := (0, 0)) (pcN := 121) jIQ_161_119 rfl rfl rfl ?_
  refine jT_xbipush (k := 6) (pcN := 123) jIQ_161_121 (by decide) rfl ?_
  refine jT_xicF (t := 159) (pcN := 126) jIQ_161_123 rfl (by decide +kernel) rfl rfl ?_
  refine jT_xaload_n (v := (4, 0)) (pcN := 127) jIQ_161_126 rfl rfl rfl ?_
  refine jT_xgetf (a := 0) (t := 1) (ci := 13) (fi := 7) (c := jzQ_16) (v := (4, 9)) (pcN := 130) jIQ_161_127 rfl rfl rfl rfl rfl rfl rfl ?_
  refine jT_xiload (v := (0, 0)) (pcN := 132) jIQ_161_130 rfl rfl rfl ?_
  refine jT_xaload_n (v := (4, 1)) (pcN := 133) jIQ_161_132 rfl rfl rfl ?_
  refine jT_xgetf (a := 1) (t := 2) (ci := 4) (fi := 0) (c := (4, [(4, 13), (1, 1)], [])) (v := (4, 13)) (pcN := 136) jIQ_161_133 rfl rfl rfl rfl rfl rfl rfl ?_
  refine jT_xiload (v := (0, 0)) (pcN := 138) jIQ_161_136 rfl rfl rfl ?_
  refine jT_lald (x := 0) (a := 13) (j := 0) (fs := []) (X := [0, 0, 0, 0, 0, 0]) jIQ_161_138 rfl rfl rfl rfl ?_
  refine jT_eq (LN := [(7, (0, 0)), (5, (1, q1)), (0, (4, 0)), (1, (0, r7)), (2, (0, r8)), (3, (4, 1)), (4, (0, 0))]) (stN := [(1, 0), (0, 0), (4, 9)]) (hsN := [jzQ_16, (4, [(4, 13), (1, 1)], []), (8, [(4, 14), (4, 15)], []), jgh, jgh, jgh, jgh, jgh, jgh, (101, [], [-q1, r7, r8, 0, 0, 0]), jgh, jgh, jgh, (101, [], [0, 0, 0, 0, 0, 0]), jgh, jgh]) rfl rfl rfl ?_
  refine jT_xaload_n (v := (4, 0)) (pcN := 140) jIQ_161_139 rfl rfl rfl ?_
  refine jT_xgetf (a := 0) (t := 1) (ci := 13) (fi := 7) (c := jzQ_16) (v := (4, 9)) (pcN := 143) jIQ_161_140 rfl rfl rfl rfl rfl rfl rfl ?_
  refine jT_xiload (v := (0, 0)) (pcN := 145) jIQ_161_143 rfl rfl rfl ?_
  refine jT_lald (x := -q1) (a := 9) (j := 0) (fs := []) (X := [-q1, r7, r8, 0, 0, 0]) jIQ_161_145 rfl rfl rfl rfl ?_
  refine jT_eq (LN := [(7, (0, 0)), (5, (1, q1)), (0, (4, 0)), (1, (0, r7)), (2, (0, r8)), (3, (4, 1)), (4, (0, 0))]) (stN := [(1, -q1), (1, 0), (0, 0), (4, 9)]) (hsN := [jzQ_16, (4, [(4, 13), (1, 1)], []), (8, [(4, 14), (4, 15)], []), jgh, jgh, jgh, jgh, jgh, jgh, (101, [], [-q1, r7, r8, 0, 0, 0]), jgh, jgh, jgh, (101, [], [0, 0, 0, 0, 0, 0]), jgh, jgh]) rfl rfl rfl ?_
  refine jT_xaload_n (v := (4, 1)) (pcN := 147) jIQ_161_146 rfl rfl rfl ?_
  refine jT_xgetf (a := 1) (t := 2) (ci := 4) (fi := 1) (c := (4, [(4, 13), (1, 1)], [])) (v := (1, 1)) (pcN := 150) jIQ_161_147 rfl rfl rfl rfl rfl rfl rfl ?_
  refine jT_xlmul (x := -q1) (y := 1) (z := -q1) (pcN := 151) jIQ_161_150 rfl (by omega) rfl ?_
  refine jT_xlsub (x := 0) (y := -q1) (z := q1) (pcN := 152) jIQ_161_151 rfl (by omega) rfl ?_
  refine jT_adv 1 (pcN := 153) (LN := [(7, (0, 0)), (5, (1, q1)), (0, (4, 0)), (1, (0, r7)), (2, (0, r8)), (3, (4, 1)), (4, (0, 0))]) (stN := []) (hsN := [jzQ_16, (4, [(4, 13), (1, 1)], []), (8, [(4, 14), (4, 15)], []), jgh, jgh, jgh, jgh, jgh, jgh, (101, [], [q1, r7, r8, 0, 0, 0]), jgh, jgh, jgh, (101, [], [0, 0, 0, 0, 0, 0]), jgh, jgh]) (c1 := 0) (s1 := 0) (c2 := 0) (s2 := 0) (by exact rfl) ?_ (by omega) (by omega)
  refine jT_xiinc (x := 0) (z := 1) (LN := [(7, (0, 1)), (5, (1, q1)), (0, (4, 0)), (1, (0, r7)), (2, (0, r8)), (3, (4, 1)), (4, (0, 0))]) (pcN := 156) jIQ_161_153 rfl rfl (by decide) rfl rfl ?_
  refine jT_xgoto (pcN := 119) jIQ_161_156 rfl ?_
  refine jT_xiload (v := (0, 1)) (pcN := 121) jIQ_161_119 rfl rfl rfl ?_
  refine jT_xbipush (k := 6) (pcN := 123) jIQ_161_121 (by decide) rfl ?_
  refine jT_xicF (t := 159) (pcN := 126) jIQ_161_123 rfl (by decide +kernel) rfl rfl ?_
  refine jT_xaload_n (v := (4, 0)) (pcN := 127) jIQ_161_126 rfl rfl rfl ?_
  refine jT_xgetf (a := 0) (t := 1) (ci := 13) (fi := 7) (c := jzQ_16) (v := (4, 9)) (pcN := 130) jIQ_161_127 rfl rfl rfl rfl rfl rfl rfl ?_
  refine jT_xiload (v := (0, 1)) (pcN := 132) jIQ_161_130 rfl rfl rfl ?_
  refine jT_xaload_n (v := (4, 1)) (pcN := 133) jIQ_161_132 rfl rfl rfl ?_
  refine jT_xgetf (a := 1) (t := 2) (ci := 4) (fi := 0) (c := (4, [(4, 13), (1, 1)], [])) (v := (4, 13)) (pcN := 136) jIQ_161_133 rfl rfl rfl rfl rfl rfl rfl ?_
  refine jT_xiload (v := (0, 1)) (pcN := 138) jIQ_161_136 rfl rfl rfl ?_
  refine jT_lald (x := 0) (a := 13) (j := 1) (fs := []) (X := [0, 0, 0, 0, 0, 0]) jIQ_161_138 rfl rfl rfl rfl ?_
  refine jT_eq (LN := [(7, (0, 1)), (5, (1, q1)), (0, (4, 0)), (1, (0, r7)), (2, (0, r8)), (3, (4, 1)), (4, (0, 0))]) (stN := [(1, 0), (0, 1), (4, 9)]) (hsN := [jzQ_16, (4, [(4, 13), (1, 1)], []), (8, [(4, 14), (4, 15)], []), jgh, jgh, jgh, jgh, jgh, jgh, (101, [], [q1, r7, r8, 0, 0, 0]), jgh, jgh, jgh, (101, [], [0, 0, 0, 0, 0, 0]), jgh, jgh]) rfl rfl rfl ?_
  refine jT_xaload_n (v := (4, 0)) (pcN := 140) jIQ_161_139 rfl rfl rfl ?_
  refine jT_xgetf (a := 0) (t := 1) (ci := 13) (fi := 7) (c := jzQ_16) (v := (4, 9)) (pcN := 143) jIQ_161_140 rfl rfl rfl rfl rfl rfl rfl ?_
  refine jT_xiload (v := (0, 1)) (pcN := 145) jIQ_161_143 rfl rfl rfl ?_
  refine jT_lald (x := r7) (a := 9) (j := 1) (fs := []) (X := [q1, r7, r8, 0, 0, 0]) jIQ_161_145 rfl rfl rfl rfl ?_
  refine jT_eq (LN := [(7, (0, 1)), (5, (1, q1)), (0, (4, 0)), (1, (0, r7)), (2, (0, r8)), (3, (4, 1)), (4, (0, 0))]) (stN := [(1, r7), (1, 0), (0, 1), (4, 9)]) (hsN := [jzQ_16, (4, [(4, 13), (1, 1)], []), (8, [(4, 14), (4, 15)], []), jgh, jgh, jgh, jgh, jgh, jgh, (101, [], [q1, r7, r8, 0, 0, 0]), jgh, jgh, jgh, (101, [], [0, 0, 0, 0, 0, 0]), jgh, jgh]) rfl rfl rfl ?_
  refine jT_xaload_n (v := (4, 1)) (pcN := 147) jIQ_161_146 rfl rfl rfl ?_
  refine jT_xgetf (a := 1) (t := 2) (ci := 4) (fi := 1) (c := (4, [(4, 13), (1, 1)], [])) (v := (1, 1)) (pcN := 150) jIQ_161_147 rfl rfl rfl rfl rfl rfl rfl ?_
  refine jT_xlmul (x := r7) (y := 1) (z := r7) (pcN := 151) jIQ_161_150 rfl (by omega) rfl ?_
  refine jT_xlsub (x := 0) (y := r7) (z := -r7) (pcN := 152) jIQ_161_151 rfl (by omega) rfl ?_
  refine jT_adv 1 (pcN := 153) (LN := [(7, (0, 1)), (5, (1, q1)), (0, (4, 0)), (1, (0, r7)), (2, (0, r8)), (3, (4, 1)), (4, (0, 0))]) (stN := []) (hsN := [jzQ_16, (4, [(4, 13), (1, 1)], []), (8, [(4, 14), (4, 15)], []), jgh, jgh, jgh, jgh, jgh, jgh, (101, [], [q1, -r7, r8, 0, 0, 0]), jgh, jgh, jgh, (101, [], [0, 0, 0, 0, 0, 0]), jgh, jgh]) (c1 := 0) (s1 := 0) (c2 := 0) (s2 := 0) (by exact rfl) ?_ (by omega) (by omega)
  refine jT_xiinc (x := 1) (z := 2) (LN := [(7, (0, 2)), (5, (1, q1)), (0, (4, 0)), (1, (0, r7)), (2, (0, r8)), (3, (4, 1)), (4, (0, 0))]) (pcN := 156) jIQ_161_153 rfl rfl (by decide) rfl rfl ?_
  refine jT_xgoto (pcN := 119) jIQ_161_156 rfl ?_
  refine jT_xiload (v := (0, 2)) (pcN := 121) jIQ_161_119 rfl rfl rfl ?_
  refine jT_xbipush (k := 6) (pcN := 123) jIQ_161_121 (by decide) rfl ?_
  refine jT_xicF (t := 159) (pcN := 126) jIQ_161_123 rfl (by decide +kernel) rfl rfl ?_
  refine jT_xaload_n (v := (4, 0)) (pcN := 127) jIQ_161_126 rfl rfl rfl ?_
  refine jT_xgetf (a := 0) (t := 1) (ci := 13) (fi := 7) (c := jzQ_16) (v := (4, 9)) (pcN := 130) jIQ_161_127 rfl rfl rfl rfl rfl rfl rfl ?_
  refine jT_xiload (v := (0, 2)) (pcN := 132) jIQ_161_130 rfl rfl rfl ?_
  refine jT_xaload_n (v := (4, 1)) (pcN := 133) jIQ_161_132 rfl rfl rfl ?_
  refine jT_xgetf (a := 1) (t := 2) (ci := 4) (fi := 0) (c := (4, [(4, 13), (1, 1)], [])) (v := (4, 13)) (pcN := 136) jIQ_161_133 rfl rfl rfl rfl rfl rfl rfl ?_
  refine jT_xiload (v := (0, 2)) (pcN := 138) jIQ_161_136 rfl rfl rfl ?_
  refine jT_lald (x := 0) (a := 13) (j := 2) (fs := []) (X := [0, 0, 0, 0, 0, 0]) jIQ_161_138 rfl rfl rfl rfl ?_
  refine jT_eq (LN := [(7, (0, 2)), (5, (1, q1)), (0, (4, 0)), (1, (0, r7)), (2, (0, r8)), (3, (4, 1)), (4, (0, 0))]) (stN := [(1, 0), (0, 2), (4, 9)]) (hsN := [jzQ_16, (4, [(4, 13), (1, 1)], []), (8, [(4, 14), (4, 15)], []), jgh, jgh, jgh, jgh, jgh, jgh, (101, [], [q1, -r7, r8, 0, 0, 0]), jgh, jgh, jgh, (101, [], [0, 0, 0, 0, 0, 0]), jgh, jgh]) rfl rfl rfl ?_
  refine jT_xaload_n (v := (4, 0)) (pcN := 140) jIQ_161_139 rfl rfl rfl ?_
  refine jT_xgetf (a := 0) (t := 1) (ci := 13) (fi := 7) (c := jzQ_16) (v := (4, 9)) (pcN := 143) jIQ_161_140 rfl rfl rfl rfl rfl rfl rfl ?_
  refine jT_xiload (v := (0, 2)) (pcN := 145) jIQ_161_143 rfl rfl rfl ?_
  refine jT_lald (x := r8) (a := 9) (j := 2) (fs := []) (X := [q1, -r7, r8, 0, 0, 0]) jIQ_161_145 rfl rfl rfl rfl ?_
  refine jT_eq (LN := [(7, (0, 2)), (5, (1, q1)), (0, (4, 0)), (1, (0, r7)), (2, (0, r8)), (3, (4, 1)), (4, (0, 0))]) (stN := [(1, r8), (1, 0), (0, 2), (4, 9)]) (hsN := [jzQ_16, (4, [(4, 13), (1, 1)], []), (8, [(4, 14), (4, 15)], []), jgh, jgh, jgh, jgh, jgh, jgh, (101, [], [q1, -r7, r8, 0, 0, 0]), jgh, jgh, jgh, (101, [], [0, 0, 0, 0, 0, 0]), jgh, jgh]) rfl rfl rfl ?_
  refine jT_xaload_n (v := (4, 1)) (pcN := 147) jIQ_161_146 rfl rfl rfl ?_
  refine jT_xgetf (a := 1) (t := 2) (ci := 4) (fi := 1) (c := (4, [(4, 13), (1, 1)], [])) (v := (1, 1)) (pcN := 150) jIQ_161_147 rfl rfl rfl rfl rfl rfl rfl ?_
  refine jT_xlmul (x := r8) (y := 1) (z := r8) (pcN := 151) jIQ_161_150 rfl (by omega) rfl ?_
  refine jT_xlsub (x := 0) (y := r8) (z := -r8) (pcN := 152) jIQ_161_151 rfl (by omega) rfl ?_
  refine jT_adv 1 (pcN := 153) (LN := [(7, (0, 2)), (5, (1, q1)), (0, (4, 0)), (1, (0, r7)), (2, (0, r8)), (3, (4, 1)), (4, (0, 0))]) (stN := []) (hsN := [jzQ_16, (4, [(4, 13), (1, 1)], []), (8, [(4, 14), (4, 15)], []), jgh, jgh, jgh, jgh, jgh, jgh, (101, [], [q1, -r7, -r8, 0, 0, 0]), jgh, jgh, jgh, (101, [], [0, 0, 0, 0, 0, 0]), jgh, jgh]) (c1 := 0) (s1 := 0) (c2 := 0) (s2 := 0) (by exact rfl) ?_ (by omega) (by omega)
  refine jT_xiinc (x := 2) (z := 3) (LN := [(7, (0, 3)), (5, (1, q1)), (0, (4, 0)), (1, (0, r7)), (2, (0, r8)), (3, (4, 1)), (4, (0, 0))]) (pcN := 156) jIQ_161_153 rfl rfl (by decide) rfl rfl ?_
  refine jT_xgoto (pcN := 119) jIQ_161_156 rfl ?_
  refine jT_xiload (v := (0, 3)) (pcN := 121) jIQ_161_119 rfl rfl rfl ?_
  refine jT_xbipush (k := 6) (pcN := 123) jIQ_161_121 (by decide) rfl ?_
  refine jT_xicF (t := 159) (pcN := 126) jIQ_161_123 rfl (by decide +kernel) rfl rfl ?_
  refine jT_xaload_n (v := (4, 0)) (pcN := 127) jIQ_161_126 rfl rfl rfl ?_
  refine jT_xgetf (a := 0) (t := 1) (ci := 13) (fi := 7) (c := jzQ_16) (v := (4, 9)) (pcN := 130) jIQ_161_127 rfl rfl rfl rfl rfl rfl rfl ?_
  refine jT_xiload (v := (0, 3)) (pcN := 132) jIQ_161_130 rfl rfl rfl ?_
  refine jT_xaload_n (v := (4, 1)) (pcN := 133) jIQ_161_132 rfl rfl rfl ?_
  refine jT_xgetf (a := 1) (t := 2) (ci := 4) (fi := 0) (c := (4, [(4, 13), (1, 1)], [])) (v := (4, 13)) (pcN := 136) jIQ_161_133 rfl rfl rfl rfl rfl rfl rfl ?_
  refine jT_xiload (v := (0, 3)) (pcN := 138) jIQ_161_136 rfl rfl rfl ?_
  refine jT_lald (x := 0) (a := 13) (j := 3) (fs := []) (X := [0, 0, 0, 0, 0, 0]) jIQ_161_138 rfl rfl rfl rfl ?_
  refine jT_eq (LN := [(7, (0, 3)), (5, (1, q1)), (0, (4, 0)), (1, (0, r7)), (2, (0, r8)), (3, (4, 1)), (4, (0, 0))]) (stN := [(1, 0), (0, 3), (4, 9)]) (hsN := [jzQ_16, (4, [(4, 13), (1, 1)], []), (8, [(4, 14), (4, 15)], []), jgh, jgh, jgh, jgh, jgh, jgh, (101, [], [q1, -r7, -r8, 0, 0, 0]), jgh, jgh, jgh, (101, [], [0, 0, 0, 0, 0, 0]), jgh, jgh]) rfl rfl rfl ?_
  refine jT_xaload_n (v := (4, 0)) (pcN := 140) jIQ_161_139 rfl rfl rfl ?_
  refine jT_xgetf (a := 0) (t := 1) (ci := 13) (fi := 7) (c := jzQ_16) (v := (4, 9)) (pcN := 143) jIQ_161_140 rfl rfl rfl rfl rfl rfl rfl ?_
  refine jT_xiload (v := (0, 3)) (pcN := 145) jIQ_161_143 rfl rfl rfl ?_
  refine jT_lald (x := 0) (a := 9) (j := 3) (fs := []) (X := [q1, -r7, -r8, 0, 0, 0]) jIQ_161_145 rfl rfl rfl rfl ?_
  refine jT_eq (LN := [(7, (0, 3)), (5, (1, q1)), (0, (4, 0)), (1, (0, r7)), (2, (0, r8)), (3, (4, 1)), (4, (0, 0))]) (stN := [(1, 0), (1, 0), (0, 3), (4, 9)]) (hsN := [jzQ_16, (4, [(4, 13), (1, 1)], []), (8, [(4, 14), (4, 15)], []), jgh, jgh, jgh, jgh, jgh, jgh, (101, [], [q1, -r7, -r8, 0, 0, 0]), jgh, jgh, jgh, (101, [], [0, 0, 0, 0, 0, 0]), jgh, jgh]) rfl rfl rfl ?_
  refine jT_xaload_n (v := (4, 1)) (pcN := 147) jIQ_161_146 rfl rfl rfl ?_
  refine jT_xgetf (a := 1) (t := 2) (ci := 4) (fi := 1) (c := (4, [(4, 13), (1, 1)], [])) (v := (1, 1)) (pcN := 150) jIQ_161_147 rfl rfl rfl rfl rfl rfl rfl ?_
  refine jT_xlmul (x := 0) (y := 1) (z := 0) (pcN := 151) jIQ_161_150 rfl (by decide) rfl ?_
  refine jT_xlsub (x := 0) (y := 0) (z := 0) (pcN := 152) jIQ_161_151 rfl (by decide) rfl ?_
  refine jT_adv 1 (pcN := 153) (LN := [(7, (0, 3)), (5, (1, q1)), (0, (4, 0)), (1, (0, r7)), (2, (0, r8)), (3, (4, 1)), (4, (0, 0))]) (stN := []) (hsN := [jzQ_16, (4, [(4, 13), (1, 1)], []), (8, [(4, 14), (4, 15)], []), jgh, jgh, jgh, jgh, jgh, jgh, (101, [], [q1, -r7, -r8, 0, 0, 0]), jgh, jgh, jgh, (101, [], [0, 0, 0, 0, 0, 0]), jgh, jgh]) (c1 := 0) (s1 := 0) (c2 := 0) (s2 := 0) (by exact rfl) ?_ (by omega) (by omega)
  refine jT_xiinc (x := 3) (z := 4) (LN := [(7, (0, 4)), (5, (1, q1)), (0, (4, 0)), (1, (0, r7)), (2, (0, r8)), (3, (4, 1)), (4, (0, 0))]) (pcN := 156) jIQ_161_153 rfl rfl (by decide) rfl rfl ?_
  refine jT_xgoto (pcN := 119) jIQ_161_156 rfl ?_
  refine jT_xiload (v := (0, 4)) (pcN := 121) jIQ_161_119 rfl rfl rfl ?_
  refine jT_xbipush (k := 6) (pcN := 123) jIQ_161_121 (by decide) rfl ?_
  refine jT_xicF (t := 159) (pcN := 126) jIQ_161_123 rfl (by decide +kernel) rfl rfl ?_
  refine jT_xaload_n (v := (4, 0)) (pcN := 127) jIQ_161_126 rfl rfl rfl ?_
  refine jT_xgetf (a := 0) (t := 1) (ci := 13) (fi := 7) (c := jzQ_16) (v := (4, 9)) (pcN := 130) jIQ_161_127 rfl rfl rfl rfl rfl rfl rfl ?_
  refine jT_xiload (v := (0, 4)) (pcN := 132) jIQ_161_130 rfl rfl rfl ?_
  refine jT_xaload_n (v := (4, 1)) (pcN := 133) jIQ_161_132 rfl rfl rfl ?_
  refine jT_xgetf (a := 1) (t := 2) (ci := 4) (fi := 0) (c := (4, [(4, 13), (1, 1)], [])) (v := (4, 13)) (pcN := 136) jIQ_161_133 rfl rfl rfl rfl rfl rfl rfl ?_
  refine jT_xiload (v := (0, 4)) (pcN := 138) jIQ_161_136 rfl rfl rfl ?_
  refine jT_lald (x := 0) (a := 13) (j := 4) (fs := []) (X := [0, 0, 0, 0, 0, 0]) jIQ_161_138 rfl rfl rfl rfl ?_
  refine jT_eq (LN := [(7, (0, 4)), (5, (1, q1)), (0, (4, 0)), (1, (0, r7)), (2, (0, r8)), (3, (4, 1)), (4, (0, 0))]) (stN := [(1, 0), (0, 4), (4, 9)]) (hsN := [jzQ_16, (4, [(4, 13), (1, 1)], []), (8, [(4, 14), (4, 15)], []), jgh, jgh, jgh, jgh, jgh, jgh, (101, [], [q1, -r7, -r8, 0, 0, 0]), jgh, jgh, jgh, (101, [], [0, 0, 0, 0, 0, 0]), jgh, jgh]) rfl rfl rfl ?_
  refine jT_xaload_n (v := (4, 0)) (pcN := 140) jIQ_161_139 rfl rfl rfl ?_
  refine jT_xgetf (a := 0) (t := 1) (ci := 13) (fi := 7) (c := jzQ_16) (v := (4, 9)) (pcN := 143) jIQ_161_140 rfl rfl rfl rfl rfl rfl rfl ?_
  refine jT_xiload (v := (0, 4)) (pcN := 145) jIQ_161_143 rfl rfl rfl ?_
  refine jT_lald (x := 0) (a := 9) (j := 4) (fs := []) (X := [q1, -r7, -r8, 0, 0, 0]) jIQ_161_145 rfl rfl rfl rfl ?_
  refine jT_eq (LN := [(7, (0, 4)), (5, (1, q1)), (0, (4, 0)), (1, (0, r7)), (2, (0, r8)), (3, (4, 1)), (4, (0, 0))]) (stN := [(1, 0), (1, 0), (0, 4), (4, 9)]) (hsN := [jzQ_16, (4, [(4, 13), (1, 1)], []), (8, [(4, 14), (4, 15)], []), jgh, jgh, jgh, jgh, jgh, jgh, (101, [], [q1, -r7, -r8, 0, 0, 0]), jgh, jgh, jgh, (101, [], [0, 0, 0, 0, 0, 0]), jgh, jgh]) rfl rfl rfl ?_
  refine jT_xaload_n (v := (4, 1)) (pcN := 147) jIQ_161_146 rfl rfl rfl ?_
  refine jT_xgetf (a := 1) (t := 2) (ci := 4) (fi := 1) (c := (4, [(4, 13), (1, 1)], [])) (v := (1, 1)) (pcN := 150) jIQ_161_147 rfl rfl rfl rfl rfl rfl rfl ?_
  refine jT_xlmul (x := 0) (y := 1) (z := 0) (pcN := 151) jIQ_161_150 rfl (by decide) rfl ?_
  refine jT_xlsub (x := 0) (y := 0) (z := 0) (pcN := 152) jIQ_161_151 rfl (by decide) rfl ?_
  refine jT_adv 1 (pcN := 153) (LN := [(7, (0, 4)), (5, (1, q1)), (0, (4, 0)), (1, (0, r7)), (2, (0, r8)), (3, (4, 1)), (4, (0, 0))]) (stN := []) (hsN := [jzQ_16, (4, [(4, 13), (1, 1)], []), (8, [(4, 14), (4, 15)], []), jgh, jgh, jgh, jgh, jgh, jgh, (101, [], [q1, -r7, -r8, 0, 0, 0]), jgh, jgh, jgh, (101, [], [0, 0, 0, 0, 0, 0]), jgh, jgh]) (c1 := 0) (s1 := 0) (c2 := 0) (s2 := 0) (by exact rfl) ?_ (by omega) (by omega)
  refine jT_xiinc (x := 4) (z := 5) (LN := [(7, (0, 5)), (5, (1, q1)), (0, (4, 0)), (1, (0, r7)), (2, (0, r8)), (3, (4, 1)), (4, (0, 0))]) (pcN := 156) jIQ_161_153 rfl rfl (by decide) rfl rfl ?_
  refine jT_xgoto (pcN := 119) jIQ_161_156 rfl ?_
  refine jT_xiload (v := (0, 5)) (pcN := 121) jIQ_161_119 rfl rfl rfl ?_
  refine jT_xbipush (k := 6) (pcN := 123) jIQ_161_121 (by decide) rfl ?_
  refine jT_xicF (t := 159) (pcN := 126) jIQ_161_123 rfl (by decide +kernel) rfl rfl ?_
  refine jT_xaload_n (v := (4, 0)) (pcN := 127) jIQ_161_126 rfl rfl rfl ?_
  refine jT_xgetf (a := 0) (t := 1) (ci := 13) (fi := 7) (c := jzQ_16) (v := (4, 9)) (pcN := 130) jIQ_161_127 rfl rfl rfl rfl rfl rfl rfl ?_
  refine jT_xiload (v := (0, 5)) (pcN := 132) jIQ_161_130 rfl rfl rfl ?_
  refine jT_xaload_n (v := (4, 1)) (pcN := 133) jIQ_161_132 rfl rfl rfl ?_
  refine jT_xgetf (a := 1) (t := 2) (ci := 4) (fi := 0) (c := (4, [(4, 13), (1, 1)], [])) (v := (4, 13)) (pcN := 136) jIQ_161_133 rfl rfl rfl rfl rfl rfl rfl ?_
  refine jT_xiload (v := (0, 5)) (pcN := 138) jIQ_161_136 rfl rfl rfl ?_
  refine jT_lald (x := 0) (a := 13) (j := 5) (fs := []) (X := [0, 0, 0, 0, 0, 0]) jIQ_161_138 rfl rfl rfl rfl ?_
  refine jT_eq (LN := [(7, (0, 5)), (5, (1, q1)), (0, (4, 0)), (1, (0, r7)), (2, (0, r8)), (3, (4, 1)), (4, (0, 0))]) (stN := [(1, 0), (0, 5), (4, 9)]) (hsN := [jzQ_16, (4, [(4, 13), (1, 1)], []), (8, [(4, 14), (4, 15)], []), jgh, jgh, jgh, jgh, jgh, jgh, (101, [], [q1, -r7, -r8, 0, 0, 0]), jgh, jgh, jgh, (101, [], [0, 0, 0, 0, 0, 0]), jgh, jgh]) rfl rfl rfl ?_
  refine jT_xaload_n (v := (4, 0)) (pcN := 140) jIQ_161_139 rfl rfl rfl ?_
  refine jT_xgetf (a := 0) (t := 1) (ci := 13) (fi := 7) (c := jzQ_16) (v := (4, 9)) (pcN := 143) jIQ_161_140 rfl rfl rfl rfl rfl rfl rfl ?_
  refine jT_xiload (v := (0, 5)) (pcN := 145) jIQ_161_143 rfl rfl rfl ?_
  refine jT_lald (x := 0) (a := 9) (j := 5) (fs := []) (X := [q1, -r7, -r8, 0, 0, 0]) jIQ_161_145 rfl rfl rfl rfl ?_
  refine jT_eq (LN := [(7, (0, 5)), (5, (1, q1)), (0, (4, 0)), (1, (0, r7)), (2, (0, r8)), (3, (4, 1)), (4, (0, 0))]) (stN := [(1, 0), (1, 0), (0, 5), (4, 9)]) (hsN := [jzQ_16, (4, [(4, 13), (1, 1)], []), (8, [(4, 14), (4, 15)], []), jgh, jgh, jgh, jgh, jgh, jgh, (101, [], [q1, -r7, -r8, 0, 0, 0]), jgh, jgh, jgh, (101, [], [0, 0, 0, 0, 0, 0]), jgh, jgh]) rfl rfl rfl ?_
  refine jT_xaload_n (v := (4, 1)) (pcN := 147) jIQ_161_146 rfl rfl rfl ?_
  refine jT_xgetf (a := 1) (t := 2) (ci := 4) (fi := 1) (c := (4, [(4, 13), (1, 1)], [])) (v := (1, 1)) (pcN := 150) jIQ_161_147 rfl rfl rfl rfl rfl rfl rfl ?_
  refine jT_xlmul (x := 0) (y := 1) (z := 0) (pcN := 151) jIQ_161_150 rfl (by decide) rfl ?_
  refine jT_xlsub (x := 0) (y := 0) (z := 0) (pcN := 152) jIQ_161_151 rfl (by decide) rfl ?_
  refine jT_adv 1 (pcN := 153) (LN := [(7, (0, 5)), (5, (1, q1)), (0, (4, 0)), (1, (0, r7)), (2, (0, r8)), (3, (4, 1)), (4, (0, 0))]) (stN := []) (hsN := [jzQ_16, (4, [(4, 13), (1, 1)], []), (8, [(4, 14), (4, 15)], []), jgh, jgh, jgh, jgh, jgh, jgh, (101, [], [q1, -r7, -r8, 0, 0, 0]), jgh, jgh, jgh, (101, [], [0, 0, 0, 0, 0, 0]), jgh, jgh]) (c1 := 0) (s1 := 0) (c2 := 0) (s2 := 0) (by exact rfl) ?_ (by omega) (by omega)
  refine jT_xiinc (x := 5) (z := 6) (LN := [(7, (0, 6)), (5, (1, q1)), (0, (4, 0)), (1, (0, r7)), (2, (0, r8)), (3, (4, 1)), (4, (0, 0))]) (pcN := 156) jIQ_161_153 rfl rfl (by decide) rfl rfl ?_
  refine jT_xgoto (pcN := 119) jIQ_161_156 rfl ?_
  refine jT_xiload (v := (0, 6)) (pcN := 121) jIQ_161_119 rfl rfl rfl ?_
  refine jT_xbipush (k := 6) (pcN := 123) jIQ_161_121 (by decide) rfl ?_
  refine jT_xicT (pcN := 159) jIQ_161_123 rfl (by decide +kernel) rfl ?_
  refine jT_xaload_n (v := (4, 0)) (pcN := 160) jIQ_161_159 rfl rfl rfl ?_
  refine jT_xgetf (a := 0) (t := 1) (ci := 13) (fi := 0) (c := jzQ_16) (v := (4, 2)) (pcN := 163) jIQ_161_160 rfl rfl rfl rfl rfl rfl rfl ?_
  refine jT_xaload_n (v := (4, 0)) (pcN := 164) jIQ_161_163 rfl rfl rfl ?_
  refine jT_xgetf (a := 0) (t := 1) (ci := 13) (fi := 7) (c := jzQ_16) (v := (4, 9)) (pcN := 167) jIQ_161_164 rfl rfl rfl rfl rfl rfl rfl ?_
  refine jT_callA [2, 9, 14, 15] (y := 38) (pcN := 170) (dC := 1) (bc1 := 0) (bc2 := 0) (c1 := 0) (c2 := 0) (as := [(4, 2), (4, 9)]) (asC := [(4, 0), (4, 1)]) (LN := [(7, (0, 6)), (5, (1, q1)), (0, (4, 0)), (1, (0, r7)), (2, (0, r8)), (3, (4, 1)), (4, (0, 0))]) (stN := []) (hsC := [(8, [(4, 2), (4, 3)], []), (101, [], [q1, -r7, -r8, 0, 0, 0]), jgh, jgh]) (ex := []) (v := (0, (-1))) (st2 := [(0, (-1))]) (hs2 := [jzQ_16, (4, [(4, 13), (1, 1)], []), (8, [(4, 14), (4, 15)], []), jgh, jgh, jgh, jgh, jgh, jgh, (101, [], [q1, -r7, -r8, 0, 0, 0]), jgh, jgh, jgh, (101, [], [0, 0, 0, 0, 0, 0]), jgh, jgh]) (jQl_sp38_117 (d := 0) (by omega) (by omega) (by omega) (by omega) (by omega) (by omega) (by omega)) (by rfl) (by rfl) (by rfl) (by rfl) ⟨rfl, rfl, rfl, rfl, trivial⟩ (by rfl) (by rfl) (by omega) (by show 16 ≤ 16; omega) (by omega) (by omega) rfl rfl ?_
  refine jT_xifT (pcN := 177) jIQ_161_170 rfl (by decide +kernel) rfl ?_
  refine jT_xiconst (k := 0) (pcN := 178) jIQ_161_177 rfl ?_
  subst hq_q1
  exact jT_ret rfl (by decide) (by show 16 ≤ 16; omega) (by omega) (by omega) ⟨rfl, rfl, rfl⟩
theorem jQ_161_316 {xs : List Int} {d : Nat} {r7 r8 u11_0 u11_1 u11_2 u11_3 u11_4 u11_5 : Int} (h_r7 : (-20) ≤ r7 ∧ r7 ≤ 20) (h_r8 : (-10) ≤ r8 ∧ r8 ≤ 10) (g_0 : 0 ≤ r7) (g_1 : r7 ≤ 0) (g_2 : 0 < r8) : jT xs (d + 2) 161 16 0 [(0, (4, 0)), (1, (0, r7)), (2, (0, r8)), (3, (4, 1)), (4, (0, 0))] [] [jzQ_16, (4, [(4, 13), (1, 1)], []), (8, [(4, 14), (4, 15)], []), jgh, jgh, jgh, jgh, jgh, jgh, (101, [], [u11_0, u11_1, u11_2, u11_3, u11_4, u11_5]), jgh, jgh, jgh, (101, [], [0, 0, 0, 0, 0, 0]), jgh, jgh] 0 0 (fun k v hsN => k = 0 ∧ v = (0, 0) ∧ hsN = [jzQ_16, (4, [(4, 13), (1, 1)], []), (8, [(4, 14), (4, 15)], []), jgh, jgh, jgh, jgh, jgh, jgh, (101, [], [(108917793695 * r7 + 159561683699 * r8) / 68719476736, -r7, -r8, 0, 0, 0]), jgh, jgh, jgh, (101, [], [0, 0, 0, 0, 0, 0]), jgh, jgh]) := by
  refine jT_xiload_n (v := (0, r7)) (pcN := 1) jIQ_161_0 rfl rfl rfl ?_
  refine jT_ifF (a := r7) (t := 10) (by rfl) (by rfl) (by rfl) (jw_idd (by omega) (by omega)) (by simp only [jcP] <;> omega) ?_
  refine jT_xiload_n (v := (0, r8)) (pcN := 5) jIQ_161_4 rfl rfl rfl ?_
  refine jT_ifT (a := r8) (t := 10) (by rfl) (by rfl) (by rfl) (jw_idd (by omega) (by omega)) (by simp only [jcP] <;> omega) ?_
  refine jT_xiconst (k := 0) (pcN := 11) jIQ_161_10 rfl ?_
  refine jT_xistore (v := (0, 0)) (LN := [(5, (0, 0)), (0, (4, 0)), (1, (0, r7)), (2, (0, r8)), (3, (4, 1)), (4, (0, 0))]) (pcN := 13) jIQ_161_11 rfl rfl rfl rfl ?_
  refine jT_xiload (v := (0, 0)) (pcN := 15) jIQ_161_13 rfl rfl rfl ?_
  refine jT_xbipush (k := 6) (pcN := 17) jIQ_161_15 (by decide) rfl ?_
  refine jT_xicF (t := 56) (pcN := 20) jIQ_161_17 rfl (by decide +kernel) rfl rfl ?_
  refine jT_xaload_n (v := (4, 0)) (pcN := 21) jIQ_161_20 rfl rfl rfl ?_
  refine jT_xgetf (a := 0) (t := 1) (ci := 13) (fi := 7) (c := jzQ_16) (v := (4, 9)) (pcN := 24) jIQ_161_21 rfl rfl rfl rfl rfl rfl rfl ?_
  refine jT_xiload (v := (0, 0)) (pcN := 26) jIQ_161_24 rfl rfl rfl ?_
  refine jT_xiload (v := (0, 0)) (pcN := 28) jIQ_161_26 rfl rfl rfl ?_
  refine jT_xiconst (k := 1) (pcN := 29) jIQ_161_28 rfl ?_
  refine jT_xicT (pcN := 37) jIQ_161_29 rfl (by decide +kernel) rfl ?_
  refine jT_xiload (v := (0, 0)) (pcN := 39) jIQ_161_37 rfl rfl rfl ?_
  refine jT_xiconst (k := 2) (pcN := 40) jIQ_161_39 rfl ?_
  refine jT_xicT (pcN := 48) jIQ_161_40 rfl (by decide +kernel) rfl ?_
  refine jT_xlconst (z := 0) (pcN := 49) jIQ_161_48 rfl rfl ?_
  refine jT_adv 1 (pcN := 50) (LN := [(5, (0, 0)), (0, (4, 0)), (1, (0, r7)), (2, (0, r8)), (3, (4, 1)), (4, (0, 0))]) (stN := []) (hsN := [jzQ_16, (4, [(4, 13), (1, 1)], []), (8, [(4, 14), (4, 15)], []), jgh, jgh, jgh, jgh, jgh, jgh, (101, [], [0, u11_1, u11_2, u11_3, u11_4, u11_5]), jgh, jgh, jgh, (101, [], [0, 0, 0, 0, 0, 0]), jgh, jgh]) (c1 := 0) (s1 := 0) (c2 := 0) (s2 := 0) (by exact rfl) ?_ (by omega) (by omega)
  refine jT_xiinc (x := 0) (z := 1) (LN := [(5, (0, 1)), (0, (4, 0)), (1, (0, r7)), (2, (0, r8)), (3, (4, 1)), (4, (0, 0))]) (pcN := 53) jIQ_161_50 rfl rfl (by decide) rfl rfl ?_
  refine jT_xgoto (pcN := 13) jIQ_161_53 rfl ?_
  refine jT_xiload (v := (0, 1)) (pcN := 15) jIQ_161_13 rfl rfl rfl ?_
  refine jT_xbipush (k := 6) (pcN := 17) jIQ_161_15 (by decide) rfl ?_
  refine jT_xicF (t := 56) (pcN := 20) jIQ_161_17 rfl (by decide +kernel) rfl rfl ?_
  refine jT_xaload_n (v := (4, 0)) (pcN := 21) jIQ_161_20 rfl rfl rfl ?_
  refine jT_xgetf (a := 0) (t := 1) (ci := 13) (fi := 7) (c := jzQ_16) (v := (4, 9)) (pcN := 24) jIQ_161_21 rfl rfl rfl rfl rfl rfl rfl ?_
  refine jT_xiload (v := (0, 1)) (pcN := 26) jIQ_161_24 rfl rfl rfl ?_
  refine jT_xiload (v := (0, 1)) (pcN := 28) jIQ_161_26 rfl rfl rfl ?_
  refine jT_xiconst (k := 1) (pcN := 29) jIQ_161_28 rfl ?_
  refine jT_xicF (t := 37) (pcN := 32) jIQ_161_29 rfl (by decide +kernel) rfl rfl ?_
  refine jT_xiload_n (v := (0, r7)) (pcN := 33) jIQ_161_32 rfl rfl rfl ?_
  refine jT_xi2l (x := r7) (z := r7) (pcN := 34) jIQ_161_33 rfl (jw_idd (by omega) (by omega)) rfl ?_
  refine jT_xgoto (pcN := 49) jIQ_161_34 rfl ?_
  refine jT_adv 1 (pcN := 50) (LN := [(5, (0, 1)), (0, (4, 0)), (1, (0, r7)), (2, (0, r8)), (3, (4, 1)), (4, (0, 0))]) (stN := []) (hsN := [jzQ_16, (4, [(4, 13), (1, 1)], []), (8, [(4, 14), (4, 15)], []), jgh, jgh, jgh, jgh, jgh, jgh, (101, [], [0, r7, u11_2, u11_3, u11_4, u11_5]), jgh, jgh, jgh, (101, [], [0, 0, 0, 0, 0, 0]), jgh, jgh]) (c1 := 0) (s1 := 0) (c2 := 0) (s2 := 0) (by exact rfl) ?_ (by omega) (by omega)
  refine jT_xiinc (x := 1) (z := 2) (LN := [(5, (0, 2)), (0, (4, 0)), (1, (0, r7)), (2, (0, r8)), (3, (4, 1)), (4, (0, 0))]) (pcN := 53) jIQ_161_50 rfl rfl (by decide) rfl rfl ?_
  refine jT_xgoto (pcN := 13) jIQ_161_53 rfl ?_
  refine jT_xiload (v := (0, 2)) (pcN := 15) jIQ_161_13 rfl rfl rfl ?_
  refine jT_xbipush (k := 6) (pcN := 17) jIQ_161_15 (by decide) rfl ?_
  refine jT_xicF (t := 56) (pcN := 20) jIQ_161_17 rfl (by decide +kernel) rfl rfl ?_
  refine jT_xaload_n (v := (4, 0)) (pcN := 21) jIQ_161_20 rfl rfl rfl ?_
  refine jT_xgetf (a := 0) (t := 1) (ci := 13) (fi := 7) (c := jzQ_16) (v := (4, 9)) (pcN := 24) jIQ_161_21 rfl rfl rfl rfl rfl rfl rfl ?_
  refine jT_xiload (v := (0, 2)) (pcN := 26) jIQ_161_24 rfl rfl rfl ?_
  refine jT_xiload (v := (0, 2)) (pcN := 28) jIQ_161_26 rfl rfl rfl ?_
  refine jT_xiconst (k := 1) (pcN := 29) jIQ_161_28 rfl ?_
  refine jT_xicT (pcN := 37) jIQ_161_29 rfl (by decide +kernel) rfl ?_
  refine jT_xiload (v := (0, 2)) (pcN := 39) jIQ_161_37 rfl rfl rfl ?_
  refine jT_xiconst (k := 2) (pcN := 40) jIQ_161_39 rfl ?_
  refine jT_xicF (t := 48) (pcN := 43) jIQ_161_40 rfl (by decide +kernel) rfl rfl ?_
  refine jT_xiload_n (v := (0, r8)) (pcN := 44) jIQ_161_43 rfl rfl rfl ?_
  refine jT_xi2l (x := r8) (z := r8) (pcN := 45) jIQ_161_44 rfl (jw_idd (by omega) (by omega)) rfl ?_
  refine jT_xgoto (pcN := 49) jIQ_161_45 rfl ?_
  refine jT_adv 1 (pcN := 50) (LN := [(5, (0, 2)), (0, (4, 0)), (1, (0, r7)), (2, (0, r8)), (3, (4, 1)), (4, (0, 0))]) (stN := []) (hsN := [jzQ_16, (4, [(4, 13), (1, 1)], []), (8, [(4, 14), (4, 15)], []), jgh, jgh, jgh, jgh, jgh, jgh, (101, [], [0, r7, r8, u11_3, u11_4, u11_5]), jgh, jgh, jgh, (101, [], [0, 0, 0, 0, 0, 0]), jgh, jgh]) (c1 := 0) (s1 := 0) (c2 := 0) (s2 := 0) (by exact rfl) ?_ (by omega) (by omega)
  refine jT_xiinc (x := 2) (z := 3) (LN := [(5, (0, 3)), (0, (4, 0)), (1, (0, r7)), (2, (0, r8)), (3, (4, 1)), (4, (0, 0))]) (pcN := 53) jIQ_161_50 rfl rfl (by decide) rfl rfl ?_
  refine jT_xgoto (pcN := 13) jIQ_161_53 rfl ?_
  refine jT_xiload (v := (0, 3)) (pcN := 15) jIQ_161_13 rfl rfl rfl ?_
  refine jT_xbipush (k := 6) (pcN := 17) jIQ_161_15 (by decide) rfl ?_
  refine jT_xicF (t := 56) (pcN := 20) jIQ_161_17 rfl (by decide +kernel) rfl rfl ?_
  refine jT_xaload_n (v := (4, 0)) (pcN := 21) jIQ_161_20 rfl rfl rfl ?_
  refine jT_xgetf (a := 0) (t := 1) (ci := 13) (fi := 7) (c := jzQ_16) (v := (4, 9)) (pcN := 24) jIQ_161_21 rfl rfl rfl rfl rfl rfl rfl ?_
  refine jT_xiload (v := (0, 3)) (pcN := 26) jIQ_161_24 rfl rfl rfl ?_
  refine jT_xiload (v := (0, 3)) (pcN := 28) jIQ_161_26 rfl rfl rfl ?_
  refine jT_xiconst (k := 1) (pcN := 29) jIQ_161_28 rfl ?_
  refine jT_xicT (pcN := 37) jIQ_161_29 rfl (by decide +kernel) rfl ?_
  refine jT_xiload (v := (0, 3)) (pcN := 39) jIQ_161_37 rfl rfl rfl ?_
  refine jT_xiconst (k := 2) (pcN := 40) jIQ_161_39 rfl ?_
  refine jT_xicT (pcN := 48) jIQ_161_40 rfl (by decide +kernel) rfl ?_
  refine jT_xlconst (z := 0) (pcN := 49) jIQ_161_48 rfl rfl ?_
  refine jT_adv 1 (pcN := 50) (LN := [(5, (0, 3)), (0, (4, 0)), (1, (0, r7)), (2, (0, r8)), (3, (4, 1)), (4, (0, 0))]) (stN := []) (hsN := [jzQ_16, (4, [(4, 13), (1, 1)], []), (8, [(4, 14), (4, 15)], []), jgh, jgh, jgh, jgh, jgh, jgh, (101, [], [0, r7, r8, 0, u11_4, u11_5]), jgh, jgh, jgh, (101, [], [0, 0, 0, 0, 0, 0]), jgh, jgh]) (c1 := 0) (s1 := 0) (c2 := 0) (s2 := 0) (by exact rfl) ?_ (by omega) (by omega)
  refine jT_xiinc (x := 3) (z := 4) (LN := [(5, (0, 4)), (0, (4, 0)), (1, (0, r7)), (2, (0, r8)), (3, (4, 1)), (4, (0, 0))]) (pcN := 53) jIQ_161_50 rfl rfl (by decide) rfl rfl ?_
  refine jT_xgoto (pcN := 13) jIQ_161_53 rfl ?_
  refine jT_xiload (v := (0, 4)) (pcN := 15) jIQ_161_13 rfl rfl rfl ?_
  refine jT_xbipush (k := 6) (pcN := 17) jIQ_161_15 (by decide) rfl ?_
  refine jT_xicF (t := 56) (pcN := 20) jIQ_161_17 rfl (by decide +kernel) rfl rfl ?_
  refine jT_xaload_n (v := (4, 0)) (pcN := 21) jIQ_161_20 rfl rfl rfl ?_
  refine jT_xgetf (a := 0) (t := 1) (ci := 13) (fi := 7) (c := jzQ_16) (v := (4, 9)) (pcN := 24) jIQ_161_21 rfl rfl rfl rfl rfl rfl rfl ?_
  refine jT_xiload (v := (0, 4)) (pcN := 26) jIQ_161_24 rfl rfl rfl ?_
  refine jT_xiload (v := (0, 4)) (pcN := 28) jIQ_161_26 rfl rfl rfl ?_
  refine jT_xiconst (k := 1) (pcN := 29) jIQ_161_28 rfl ?_
  refine jT_xicT (pcN := 37) jIQ_161_29 rfl (by decide +kernel) rfl ?_
  refine jT_xiload (v := (0, 4)) (pcN := 39) jIQ_161_37 rfl rfl rfl ?_
  refine jT_xiconst (k := 2) (pcN := 40) jIQ_161_39 rfl ?_
  refine jT_xicT (pcN := 48) jIQ_161_40 rfl (by decide +kernel) rfl ?_
  refine jT_xlconst (z := 0) (pcN := 49) jIQ_161_48 rfl rfl ?_
  refine jT_adv 1 (pcN := 50) (LN := [(5, (0, 4)), (0, (4, 0)), (1, (0, r7)), (2, (0, r8)), (3, (4, 1)), (4, (0, 0))]) (stN := []) (hsN := [jzQ_16, (4, [(4, 13), (1, 1)], []), (8, [(4, 14), (4, 15)], []), jgh, jgh, jgh, jgh, jgh, jgh, (101, [], [0, r7, r8, 0, 0, u11_5]), jgh, jgh, jgh, (101, [], [0, 0, 0, 0, 0, 0]), jgh, jgh]) (c1 := 0) (s1 := 0) (c2 := 0) (s2 := 0) (by exact rfl) ?_ (by omega) (by omega)
  refine jT_xiinc (x := 4) (z := 5) (LN := [(5, (0, 5)), (0, (4, 0)), (1, (0, r7)), (2, (0, r8)), (3, (4, 1)), (4, (0, 0))]) (pcN := 53) jIQ_161_50 rfl rfl (by decide) rfl rfl ?_
  refine jT_xgoto (pcN := 13) jIQ_161_53 rfl ?_
  refine jT_xiload (v := (0, 5)) (pcN := 15) jIQ_161_13 rfl rfl rfl ?_
  refine jT_xbipush (k := 6) (pcN := 17) jIQ_161_15 (by decide) rfl ?_
  refine jT_xicF (t := 56) (pcN := 20) jIQ_161_17 rfl (by decide +kernel) rfl rfl ?_
  refine jT_xaload_n (v := (4, 0)) (pcN := 21) jIQ_161_20 rfl rfl rfl ?_
  refine jT_xgetf (a := 0) (t := 1) (ci := 13) (fi := 7) (c := jzQ_16) (v := (4, 9)) (pcN := 24) jIQ_161_21 rfl rfl rfl rfl rfl rfl rfl ?_
  refine jT_xiload (v := (0, 5)) (pcN := 26) jIQ_161_24 rfl rfl rfl ?_
  refine jT_xiload (v := (0, 5)) (pcN := 28) jIQ_161_26 rfl rfl rfl ?_
  refine jT_xiconst (k := 1) (pcN := 29) jIQ_161_28 rfl ?_
  refine jT_xicT (pcN := 37) jIQ_161_29 rfl (by decide +kernel) rfl ?_
  refine jT_xiload (v := (0, 5)) (pcN := 39) jIQ_161_37 rfl rfl rfl ?_
  refine jT_xiconst (k := 2) (pcN := 40) jIQ_161_39 rfl ?_
  refine jT_xicT (pcN := 48) jIQ_161_40 rfl (by decide +kernel) rfl ?_
  refine jT_xlconst (z := 0) (pcN := 49) jIQ_161_48 rfl rfl ?_
  refine jT_adv 1 (pcN := 50) (LN := [(5, (0, 5)), (0, (4, 0)), (1, (0, r7)), (2, (0, r8)), (3, (4, 1)), (4, (0, 0))]) (stN := []) (hsN := [jzQ_16, (4, [(4, 13), (1, 1)], []), (8, [(4, 14), (4, 15)], []), jgh, jgh, jgh, jgh, jgh, jgh, (101, [], [0, r7, r8, 0, 0, 0]), jgh, jgh, jgh, (101, [], [0, 0, 0, 0, 0, 0]), jgh, jgh]) (c1 := 0) (s1 := 0) (c2 := 0) (s2 := 0) (by exact rfl) ?_ (by omega) (by omega)
  refine jT_xiinc (x := 5) (z := 6) (LN := [(5, (0, 6)), (0, (4, 0)), (1, (0, r7)), (2, (0, r8)), (3, (4, 1)), (4, (0, 0))]) (pcN := 53) jIQ_161_50 rfl rfl (by decide) rfl rfl ?_
  refine jT_xgoto (pcN := 13) jIQ_161_53 rfl ?_
  refine jT_xiload (v := (0, 6)) (pcN := 15) jIQ_161_13 rfl rfl rfl ?_
  refine jT_xbipush (k := 6) (pcN := 17) jIQ_161_15 (by decide) rfl ?_
  refine jT_xicT (pcN := 56) jIQ_161_17 rfl (by decide +kernel) rfl ?_
  refine jT_xaload_n (v := (4, 0)) (pcN := 57) jIQ_161_56 rfl rfl rfl ?_
  refine jT_xgetf (a := 0) (t := 1) (ci := 13) (fi := 0) (c := jzQ_16) (v := (4, 2)) (pcN := 60) jIQ_161_57 rfl rfl rfl rfl rfl rfl rfl ?_
  refine jT_xaload_n (v := (4, 0)) (pcN := 61) jIQ_161_60 rfl rfl rfl ?_
  refine jT_xgetf (a := 0) (t := 1) (ci := 13) (fi := 7) (c := jzQ_16) (v := (4, 9)) (pcN := 64) jIQ_161_61 rfl rfl rfl rfl rfl rfl rfl ?_
  refine jT_xlconst (z := 1) (pcN := 65) jIQ_161_64 rfl rfl ?_
  refine jT_xlconst (z := 1) (pcN := 66) jIQ_161_65 rfl rfl ?_
  refine jT_callA [2, 9, 14, 15] (y := 45) (pcN := 69) (dC := 1) (bc1 := 0) (bc2 := 0) (c1 := 0) (c2 := 0) (as := [(4, 2), (4, 9), (1, 1), (1, 1)]) (asC := [(4, 0), (4, 1), (1, 1), (1, 1)]) (LN := [(5, (0, 6)), (0, (4, 0)), (1, (0, r7)), (2, (0, r8)), (3, (4, 1)), (4, (0, 0))]) (stN := []) (hsC := [(8, [(4, 2), (4, 3)], []), (101, [], [0, r7, r8, 0, 0, 0]), jgh, jgh]) (ex := []) (v := (1, (108917793695 * r7 + 159561683699 * r8) / 68719476736)) (st2 := [(1, (108917793695 * r7 + 159561683699 * r8) / 68719476736)]) (hs2 := [jzQ_16, (4, [(4, 13), (1, 1)], []), (8, [(4, 14), (4, 15)], []), jgh, jgh, jgh, jgh, jgh, jgh, (101, [], [0, r7, r8, 0, 0, 0]), jgh, jgh, jgh, (101, [], [0, 0, 0, 0, 0, 0]), jgh, jgh]) (jQl_sp45_116 (d := 0) (by omega) (by omega)) (by rfl) (by rfl) (by rfl) (by rfl) ⟨rfl, rfl, rfl, rfl, trivial⟩ (by rfl) (by rfl) (by omega) (by show 16 ≤ 16; omega) (by omega) (by omega) rfl rfl ?_
  have hb_q1 : (-60) ≤ (108917793695 * r7 + 159561683699 * r8) / 68719476736 ∧ (108917793695 * r7 + 159561683699 * r8) / 68719476736 ≤ 60 := ⟨by omega, by omega⟩
  generalize hq_q1 : (108917793695 * r7 + 159561683699 * r8) / 68719476736 = q1 at hb_q1 ⊢
  refine jT_xlstore (v := (1, q1)) (LN := [(5, (1, q1)), (0, (4, 0)), (1, (0, r7)), (2, (0, r8)), (3, (4, 1)), (4, (0, 0))]) (pcN := 71) jIQ_161_69 rfl rfl rfl rfl ?_
  have g_3 : 0 ≤ (-68719476736) * q1 + 108917793694 * r7 + 159561683698 * r8 - 1 := by have := jcg (b := r7) (c := r8) (by omega) (by omega) (by omega); rw [hq_q1] at this; omega
  have g_4 : 0 ≤ (-68719476736) * q1 + 108917793694 * r7 + 159561683700 * r8 - 1 := by have := jcg (b := r7) (c := r8) (by omega) (by omega) (by omega); rw [hq_q1] at this; omega
  have g_5 : 0 ≤ (-68719476736) * q1 + 108917793696 * r7 + 159561683698 * r8 - 1 := by have := jcg (b := r7) (c := r8) (by omega) (by omega) (by omega); rw [hq_q1] at this; omega
  have g_6 : 0 ≤ (-68719476736) * q1 + 108917793696 * r7 + 159561683700 * r8 - 1 := by have := jcg (b := r7) (c := r8) (by omega) (by omega) (by omega); rw [hq_q1] at this; omega
  refine jT_xiload (v := (0, 0)) (pcN := 73) jIQ_161_71 rfl rfl rfl ?_
  refine jT_xifT (pcN := 107) jIQ_161_73 rfl (by decide +kernel) rfl ?_
  refine jT_xaload_n (v := (4, 0)) (pcN := 108) jIQ_161_107 rfl rfl rfl ?_
  refine jT_xgetf (a := 0) (t := 1) (ci := 13) (fi := 7) (c := jzQ_16) (v := (4, 9)) (pcN := 111) jIQ_161_108 rfl rfl rfl rfl rfl rfl rfl ?_
  refine jT_xiconst (k := 0) (pcN := 112) jIQ_161_111 rfl ?_
  refine jT_xlload (v := (1, q1)) (pcN := 114) jIQ_161_112 rfl rfl rfl ?_
  refine jT_adv 2 (pcN := 116) (LN := [(5, (1, q1)), (0, (4, 0)), (1, (0, r7)), (2, (0, r8)), (3, (4, 1)), (4, (0, 0))]) (stN := []) (hsN := [jzQ_16, (4, [(4, 13), (1, 1)], []), (8, [(4, 14), (4, 15)], []), jgh, jgh, jgh, jgh, jgh, jgh, (101, [], [-q1, r7, r8, 0, 0, 0]), jgh, jgh, jgh, (101, [], [0, 0, 0, 0, 0, 0]), jgh, jgh]) (c1 := 0) (s1 := 0) (c2 := 0) (s2 := 0) (by exact rfl) ?_ (by omega) (by omega)
  refine jT_xiconst (k := 0) (pcN := 117) jIQ_161_116 rfl ?_
  refine jT_xistore (v := (0, 0)) (LN := [(7, (0, 0)), (5, (1, q1)), (0, (4, 0)), (1, (0, r7)), (2, (0, r8)), (3, (4, 1)), (4, (0, 0))]) (pcN := 119) jIQ_161_117 rfl rfl rfl rfl ?_
  refine jT_xiload (v := (0, 0)) (pcN := 121) jIQ_161_119 rfl rfl rfl ?_
  refine jT_xbipush (k := 6) (pcN := 123) jIQ_161_121 (by decide) rfl ?_
  refine jT_xicF (t := 159) (pcN := 126) jIQ_161_123 rfl (by decide +kernel) rfl rfl ?_
  refine jT_xaload_n (v := (4, 0)) (pcN := 127) jIQ_161_126 rfl rfl rfl ?_
  refine jT_xgetf (a := 0) (t := 1) (ci := 13) (fi := 7) (c := jzQ_16) (v := (4, 9)) (pcN := 130) jIQ_161_127 rfl rfl rfl rfl rfl rfl rfl ?_
  refine jT_xiload (v := (0, 0)) (pcN := 132) jIQ_161_130 rfl rfl rfl ?_
  refine jT_xaload_n (v := (4, 1)) (pcN := 133) jIQ_161_132 rfl rfl rfl ?_
  refine jT_xgetf (a := 1) (t := 2) (ci := 4) (fi := 0) (c := (4, [(4, 13), (1, 1)], [])) (v := (4, 13)) (pcN := 136) jIQ_161_133 rfl rfl rfl rfl rfl rfl rfl ?_
  refine jT_xiload (v := (0, 0)) (pcN := 138) jIQ_161_136 rfl rfl rfl ?_
  refine jT_lald (x := 0) (a := 13) (j := 0) (fs := []) (X := [0, 0, 0, 0, 0, 0]) jIQ_161_138 rfl rfl rfl rfl ?_
  refine jT_eq (LN := [(7, (0, 0)), (5, (1, q1)), (0, (4, 0)), (1, (0, r7)), (2, (0, r8)), (3, (4, 1)), (4, (0, 0))]) (stN := [(1, 0), (0, 0), (4, 9)]) (hsN := [jzQ_16, (4, [(4, 13), (1, 1)], []), (8, [(4, 14), (4, 15)], []), jgh, jgh, jgh, jgh, jgh, jgh, (101, [], [-q1, r7, r8, 0, 0, 0]), jgh, jgh, jgh, (101, [], [0, 0, 0, 0, 0, 0]), jgh, jgh]) rfl rfl rfl ?_
  refine jT_xaload_n (v := (4, 0)) (pcN := 140) jIQ_161_139 rfl rfl rfl ?_
  refine jT_xgetf (a := 0) (t := 1) (ci := 13) (fi := 7) (c := jzQ_16) (v := (4, 9)) (pcN := 143) jIQ_161_140 rfl rfl rfl rfl rfl rfl rfl ?_
  refine jT_xiload (v := (0, 0)) (pcN := 145) jIQ_161_143 rfl rfl rfl ?_
  refine jT_lald (x := -q1) (a := 9) (j := 0) (fs := []) (X := [-q1, r7, r8, 0, 0, 0]) jIQ_161_145 rfl rfl rfl rfl ?_
  refine jT_eq (LN := [(7, (0, 0)), (5, (1, q1)), (0, (4, 0)), (1, (0, r7)), (2, (0, r8)), (3, (4, 1)), (4, (0, 0))]) (stN := [(1, -q1), (1, 0), (0, 0), (4, 9)]) (hsN := [jzQ_16, (4, [(4, 13), (1, 1)], []), (8, [(4, 14), (4, 15)], []), jgh, jgh, jgh, jgh, jgh, jgh, (101, [], [-q1, r7, r8, 0, 0, 0]), jgh, jgh, jgh, (101, [], [0, 0, 0, 0, 0, 0]), jgh, jgh]) rfl rfl rfl ?_
  refine jT_xaload_n (v := (4, 1)) (pcN := 147) jIQ_161_146 rfl rfl rfl ?_
  refine jT_xgetf (a := 1) (t := 2) (ci := 4) (fi := 1) (c := (4, [(4, 13), (1, 1)], [])) (v := (1, 1)) (pcN := 150) jIQ_161_147 rfl rfl rfl rfl rfl rfl rfl ?_
  refine jT_xlmul (x := -q1) (y := 1) (z := -q1) (pcN := 151) jIQ_161_150 rfl (by omega) rfl ?_
  refine jT_xlsub (x := 0) (y := -q1) (z := q1) (pcN := 152) jIQ_161_151 rfl (by omega) rfl ?_
  refine jT_adv 1 (pcN := 153) (LN := [(7, (0, 0)), (5, (1, q1)), (0, (4, 0)), (1, (0, r7)), (2, (0, r8)), (3, (4, 1)), (4, (0, 0))]) (stN := []) (hsN := [jzQ_16, (4, [(4, 13), (1, 1)], []), (8, [(4, 14), (4, 15)], []), jgh, jgh, jgh, jgh, jgh, jgh, (101, [], [q1, r7, r8, 0, 0, 0]), jgh, jgh, jgh, (101, [], [0, 0, 0, 0, 0, 0]), jgh, jgh]) (c1 := 0) (s1 := 0) (c2 := 0) (s2 := 0) (by exact rfl) ?_ (by omega) (by omega)
  refine jT_xiinc (x := 0) (z := 1) (LN := [(7, (0, 1)), (5, (1, q1)), (0, (4, 0)), (1, (0, r7)), (2, (0, r8)), (3, (4, 1)), (4, (0, 0))]) (pcN := 156) jIQ_161_153 rfl rfl (by decide) rfl rfl ?_
  refine jT_xgoto (pcN := 119) jIQ_161_156 rfl ?_
  refine jT_xiload (v := (0, 1)) (pcN := 121) jIQ_161_119 rfl rfl rfl ?_
  refine jT_xbipush (k := 6) (pcN := 123) jIQ_161_121 (by decide) rfl ?_
  refine jT_xicF (t := 159) (pcN := 126) jIQ_161_123 rfl (by decide +kernel) rfl rfl ?_
  refine jT_xaload_n (v := (4, 0)) (pcN := 127) jIQ_161_126 rfl rfl rfl ?_
  refine jT_xgetf (a := 0) (t := 1) (ci := 13) (fi := 7) (c := jzQ_16) (v := (4, 9)) (pcN := 130) jIQ_161_127 rfl rfl rfl rfl rfl rfl rfl ?_
  refine jT_xiload (v := (0, 1)) (pcN := 132) jIQ_161_130 rfl rfl rfl ?_
  refine jT_xaload_n (v := (4, 1)) (pcN := 133) jIQ_161_132 rfl rfl rfl ?_
  refine jT_xgetf (a := 1) (t := 2) (ci := 4) (fi := 0) (c := (4, [(4, 13), (1, 1)], [])) (v := (4, 13)) (pcN := 136) jIQ_161_133 rfl rfl rfl rfl rfl rfl rfl ?_
  refine jT_xiload (v := (0, 1)) (pcN := 138) jIQ_161_136 rfl rfl rfl ?_
  refine jT_lald (x := 0) (a := 13) (j := 1) (fs := []) (X := [0, 0, 0, 0, 0, 0]) jIQ_161_138 rfl rfl rfl rfl ?_
  refine jT_eq (LN := [(7, (0, 1)), (5, (1, q1)), (0, (4, 0)), (1, (0, r7)), (2, (0, r8)), (3, (4, 1)), (4, (0, 0))]) (stN := [(1, 0), (0, 1), (4, 9)]) (hsN := [jzQ_16, (4, [(4, 13), (1, 1)], []), (8, [(4, 14), (4, 15)], []), jgh, jgh, jgh, jgh, jgh, jgh, (101, [], [q1, r7, r8, 0, 0, 0]), jgh, jgh, jgh, (101, [], [0, 0, 0, 0, 0, 0]), jgh, jgh]) rfl rfl rfl ?_
  refine jT_xaload_n (v := (4, 0)) (pcN := 140) jIQ_161_139 rfl rfl rfl ?_
  refine jT_xgetf (a := 0) (t := 1) (ci := 13) (fi := 7) (c := jzQ_16) (v := (4, 9)) (pcN := 143) jIQ_161_140 rfl rfl rfl rfl rfl rfl rfl ?_
  refine jT_xiload (v := (0, 1)) (pcN := 145) jIQ_161_143 rfl rfl rfl ?_
  refine jT_lald (x := r7) (a := 9) (j := 1) (fs := []) (X := [q1, r7, r8, 0, 0, 0]) jIQ_161_145 rfl rfl rfl rfl ?_
  refine jT_eq (LN := [(7, (0, 1)), (5, (1, q1)), (0, (4, 0)), (1, (0, r7)), (2, (0, r8)), (3, (4, 1)), (4, (0, 0))]) (stN := [(1, r7), (1, 0), (0, 1), (4, 9)]) (hsN := [jzQ_16, (4, [(4, 13), (1, 1)], []), (8, [(4, 14), (4, 15)], []), jgh, jgh, jgh, jgh, jgh, jgh, (101, [], [q1, r7, r8, 0, 0, 0]), jgh, jgh, jgh, (101, [], [0, 0, 0, 0, 0, 0]), jgh, jgh]) rfl rfl rfl ?_
  refine jT_xaload_n (v := (4, 1)) (pcN := 147) jIQ_161_146 rfl rfl rfl ?_
  refine jT_xgetf (a := 1) (t := 2) (ci := 4) (fi := 1) (c := (4, [(4, 13), (1, 1)], [])) (v := (1, 1)) (pcN := 150) jIQ_161_147 rfl rfl rfl rfl rfl rfl rfl ?_
  refine jT_xlmul (x := r7) (y := 1) (z := r7) (pcN := 151) jIQ_161_150 rfl (by omega) rfl ?_
  refine jT_xlsub (x := 0) (y := r7) (z := -r7) (pcN := 152) jIQ_161_151 rfl (by omega) rfl ?_
  refine jT_adv 1 (pcN := 153) (LN := [(7, (0, 1)), (5, (1, q1)), (0, (4, 0)), (1, (0, r7)), (2, (0, r8)), (3, (4, 1)), (4, (0, 0))]) (stN := []) (hsN := [jzQ_16, (4, [(4, 13), (1, 1)], []), (8, [(4, 14), (4, 15)], []), jgh, jgh, jgh, jgh, jgh, jgh, (101, [], [q1, -r7, r8, 0, 0, 0]), jgh, jgh, jgh, (101, [], [0, 0, 0, 0, 0, 0]), jgh, jgh]) (c1 := 0) (s1 := 0) (c2 := 0) (s2 := 0) (by exact rfl) ?_ (by omega) (by omega)
  refine jT_xiinc (x := 1) (z := 2) (LN := [(7, (0, 2)), (5, (1, q1)), (0, (4, 0)), (1, (0, r7)), (2, (0, r8)), (3, (4, 1)), (4, (0, 0))]) (pcN := 156) jIQ_161_153 rfl rfl (by decide) rfl rfl ?_
  refine jT_xgoto (pcN := 119) jIQ_161_156 rfl ?_
  refine jT_xiload (v := (0, 2)) (pcN := 121) jIQ_161_119 rfl rfl rfl ?_
  refine jT_xbipush (k := 6) (pcN := 123) jIQ_161_121 (by decide) rfl ?_
  refine jT_xicF (t := 159) (pcN := 126) jIQ_161_123 rfl (by decide +kernel) rfl rfl ?_
  refine jT_xaload_n (v := (4, 0)) (pcN := 127) jIQ_161_126 rfl rfl rfl ?_
  refine jT_xgetf (a := 0) (t := 1) (ci := 13) (fi := 7) (c := jzQ_16) (v := (4, 9)) (pcN := 130) jIQ_161_127 rfl rfl rfl rfl rfl rfl rfl ?_
  refine jT_xiload (v := (0, 2)) (pcN := 132) jIQ_161_130 rfl rfl rfl ?_
  refine jT_xaload_n (v := (4, 1)) (pcN := 133) jIQ_161_132 rfl rfl rfl ?_
  refine jT_xgetf (a := 1) (t := 2) (ci := 4) (fi := 0) (c := (4, [(4, 13), (1, 1)], [])) (v := (4, 13)) (pcN := 136) jIQ_161_133 rfl rfl rfl rfl rfl rfl rfl ?_
  refine jT_xiload (v := (0, 2)) (pcN := 138) jIQ_161_136 rfl rfl rfl ?_
  refine jT_lald (x := 0) (a := 13) (j := 2) (fs := []) (X := [0, 0, 0, 0, 0, 0]) jIQ_161_138 rfl rfl rfl rfl ?_
  refine jT_eq (LN := [(7, (0, 2)), (5, (1, q1)), (0, (4, 0)), (1, (0, r7)), (2, (0, r8)), (3, (4, 1)), (4, (0, 0))]) (stN := [(1, 0), (0, 2), (4, 9)]) (hsN := [jzQ_16, (4, [(4, 13), (1, 1)], []), (8, [(4, 14), (4, 15)], []), jgh, jgh, jgh, jgh, jgh, jgh, (101, [], [q1, -r7, r8, 0, 0, 0]), jgh, jgh, jgh, (101, [], [0, 0, 0, 0, 0, 0]), jgh, jgh]) rfl rfl rfl ?_
  refine jT_xaload_n (v := (4, 0)) (pcN := 140) jIQ_161_139 rfl rfl rfl ?_
  refine jT_xgetf (a := 0) (t := 1) (ci := 13) (fi := 7) (c := jzQ_16) (v := (4, 9)) (pcN := 143) jIQ_161_140 rfl rfl rfl rfl rfl rfl rfl ?_
  refine jT_xiload (v := (0, 2)) (pcN := 145) jIQ_161_143 rfl rfl rfl ?_
  refine jT_lald (x := r8) (a := 9) (j := 2) (fs := []) (X := [q1, -r7, r8, 0, 0, 0]) jIQ_161_145 rfl rfl rfl rfl ?_
  refine jT_eq (LN := [(7, (0, 2)), (5, (1, q1)), (0, (4, 0)), (1, (0, r7)), (2, (0, r8)), (3, (4, 1)), (4, (0, 0))]) (stN := [(1, r8), (1, 0), (0, 2), (4, 9)]) (hsN := [jzQ_16, (4, [(4, 13), (1, 1)], []), (8, [(4, 14), (4, 15)], []), jgh, jgh, jgh, jgh, jgh, jgh, (101, [], [q1, -r7, r8, 0, 0, 0]), jgh, jgh, jgh, (101, [], [0, 0, 0, 0, 0, 0]), jgh, jgh]) rfl rfl rfl ?_
  refine jT_xaload_n (v := (4, 1)) (pcN := 147) jIQ_161_146 rfl rfl rfl ?_
  refine jT_xgetf (a := 1) (t := 2) (ci := 4) (fi := 1) (c := (4, [(4, 13), (1, 1)], [])) (v := (1, 1)) (pcN := 150) jIQ_161_147 rfl rfl rfl rfl rfl rfl rfl ?_
  refine jT_xlmul (x := r8) (y := 1) (z := r8) (pcN := 151) jIQ_161_150 rfl (by omega) rfl ?_
  refine jT_xlsub (x := 0) (y := r8) (z := -r8) (pcN := 152) jIQ_161_151 rfl (by omega) rfl ?_
  refine jT_adv 1 (pcN := 153) (LN := [(7, (0, 2)), (5, (1, q1)), (0, (4, 0)), (1, (0, r7)), (2, (0, r8)), (3, (4, 1)), (4, (0, 0))]) (stN := []) (hsN := [jzQ_16, (4, [(4, 13), (1, 1)], []), (8, [(4, 14), (4, 15)], []), jgh, jgh, jgh, jgh, jgh, jgh, (101, [], [q1, -r7, -r8, 0, 0, 0]), jgh, jgh, jgh, (101, [], [0, 0, 0, 0, 0, 0]), jgh, jgh]) (c1 := 0) (s1 := 0) (c2 := 0) (s2 := 0) (by exact rfl) ?_ (by omega) (by omega)
  refine jT_xiinc (x := 2) (z := 3) (LN := [(7, (0, 3)), (5, (1, q1)), (0, (4, 0)), (1, (0, r7)), (2, (0, r8)), (3, (4, 1)), (4, (0, 0))]) (pcN := 156) jIQ_161_153 rfl rfl (by decide) rfl rfl ?_
  refine jT_xgoto (pcN := 119) jIQ_161_156 rfl ?_
  refine jT_xiload (v := (0, 3)) (pcN := 121) jIQ_161_119 rfl rfl rfl ?_
  refine jT_xbipush (k := 6) (pcN := 123) jIQ_161_121 (by decide) rfl ?_
  refine jT_xicF (t := 159) (pcN := 126) jIQ_161_123 rfl (by decide +kernel) rfl rfl ?_
  refine jT_xaload_n (v := (4, 0)) (pcN := 127) jIQ_161_126 rfl rfl rfl ?_
  refine jT_xgetf (a := 0) (t := 1) (ci := 13) (fi := 7) (c := jzQ_16) (v := (4, 9)) (pcN := 130) jIQ_161_127 rfl rfl rfl rfl rfl rfl rfl ?_
  refine jT_xiload (v := (0, 3)) (pcN := 132) jIQ_161_130 rfl rfl rfl ?_
  refine jT_xaload_n (v := (4, 1)) (pcN := 133) jIQ_161_132 rfl rfl rfl ?_
  refine jT_xgetf (a := 1) (t := 2) (ci := 4) (fi := 0) (c := (4, [(4, 13), (1, 1)], [])) (v := (4, 13)) (pcN := 136) jIQ_161_133 rfl rfl rfl rfl rfl rfl rfl ?_
  refine jT_xiload (v := (0, 3)) (pcN := 138) jIQ_161_136 rfl rfl rfl ?_
  refine jT_lald (x := 0) (a := 13) (j := 3) (fs := []) (X := [0, 0, 0, 0, 0, 0]) jIQ_161_138 rfl rfl rfl rfl ?_
  refine jT_eq (LN := [(7, (0, 3)), (5, (1, q1)), (0, (4, 0)), (1, (0, r7)), (2, (0, r8)), (3, (4, 1)), (4, (0, 0))]) (stN := [(1, 0), (0, 3), (4, 9)]) (hsN := [jzQ_16, (4, [(4, 13), (1, 1)], []), (8, [(4, 14), (4, 15)], []), jgh, jgh, jgh, jgh, jgh, jgh, (101, [], [q1, -r7, -r8, 0, 0, 0]), jgh, jgh, jgh, (101, [], [0, 0, 0, 0, 0, 0]), jgh, jgh]) rfl rfl rfl ?_
  refine jT_xaload_n (v := (4, 0)) (pcN := 140) jIQ_161_139 rfl rfl rfl ?_
  refine jT_xgetf (a := 0) (t := 1) (ci := 13) (fi := 7) (c := jzQ_16) (v := (4, 9)) (pcN := 143) jIQ_161_140 rfl rfl rfl rfl rfl rfl rfl ?_
  refine jT_xiload (v := (0, 3)) (pcN := 145) jIQ_161_143 rfl rfl rfl ?_
  refine jT_lald (x := 0) (a := 9) (j := 3) (fs := []) (X := [q1, -r7, -r8, 0, 0, 0]) jIQ_161_145 rfl rfl rfl rfl ?_
  refine jT_eq (LN := [(7, (0, 3)), (5, (1, q1)), (0, (4, 0)), (1, (0, r7)), (2, (0, r8)), (3, (4, 1)), (4, (0, 0))]) (stN := [(1, 0), (1, 0), (0, 3), (4, 9)]) (hsN := [jzQ_16, (4, [(4, 13), (1, 1)], []), (8, [(4, 14), (4, 15)], []), jgh, jgh, jgh, jgh, jgh, jgh, (101, [], [q1, -r7, -r8, 0, 0, 0]), jgh, jgh, jgh, (101, [], [0, 0, 0, 0, 0, 0]), jgh, jgh]) rfl rfl rfl ?_
  refine jT_xaload_n (v := (4, 1)) (pcN := 147) jIQ_161_146 rfl rfl rfl ?_
  refine jT_xgetf (a := 1) (t := 2) (ci := 4) (fi := 1) (c := (4, [(4, 13), (1, 1)], [])) (v := (1, 1)) (pcN := 150) jIQ_161_147 rfl rfl rfl rfl rfl rfl rfl ?_
  refine jT_xlmul (x := 0) (y := 1) (z := 0) (pcN := 151) jIQ_161_150 rfl (by decide) rfl ?_
  refine jT_xlsub (x := 0) (y := 0) (z := 0) (pcN := 152) jIQ_161_151 rfl (by decide) rfl ?_
  refine jT_adv 1 (pcN := 153) (LN := [(7, (0, 3)), (5, (1, q1)), (0, (4, 0)), (1, (0, r7)), (2, (0, r8)), (3, (4, 1)), (4, (0, 0))]) (stN := []) (hsN := [jzQ_16, (4, [(4, 13), (1, 1)], []), (8, [(4, 14), (4, 15)], []), jgh, jgh, jgh, jgh, jgh, jgh, (101, [], [q1, -r7, -r8, 0, 0, 0]), jgh, jgh, jgh, (101, [], [0, 0, 0, 0, 0, 0]), jgh, jgh]) (c1 := 0) (s1 := 0) (c2 := 0) (s2 := 0) (by exact rfl) ?_ (by omega) (by omega)
  refine jT_xiinc (x := 3) (z := 4) (LN := [(7, (0, 4)), (5, (1, q1)), (0, (4, 0)), (1, (0, r7)), (2, (0, r8)), (3, (4, 1)), (4, (0, 0))]) (pcN := 156) jIQ_161_153 rfl rfl (by decide) rfl rfl ?_
  refine jT_xgoto (pcN := 119) jIQ_161_156 rfl ?_
  refine jT_xiload (v := (0, 4)) (pcN := 121) jIQ_161_119 rfl rfl rfl ?_
  refine jT_xbipush (k := 6) (pcN := 123) jIQ_161_121 (by decide) rfl ?_
  refine jT_xicF (t := 159) (pcN := 126) jIQ_161_123 rfl (by decide +kernel) rfl rfl ?_
  refine jT_xaload_n (v := (4, 0)) (pcN := 127) jIQ_161_126 rfl rfl rfl ?_
  refine jT_xgetf (a := 0) (t := 1) (ci := 13) (fi := 7) (c := jzQ_16) (v := (4, 9)) (pcN := 130) jIQ_161_127 rfl rfl rfl rfl rfl rfl rfl ?_
  refine jT_xiload (v := (0, 4)) (pcN := 132) jIQ_161_130 rfl rfl rfl ?_
  refine jT_xaload_n (v := (4, 1)) (pcN := 133) jIQ_161_132 rfl rfl rfl ?_
  refine jT_xgetf (a := 1) (t := 2) (ci := 4) (fi := 0) (c := (4, [(4, 13), (1, 1)], [])) (v := (4, 13)) (pcN := 136) jIQ_161_133 rfl rfl rfl rfl rfl rfl rfl ?_
  refine jT_xiload (v := (0, 4)) (pcN := 138) jIQ_161_136 rfl rfl rfl ?_
  refine jT_lald (x := 0) (a := 13) (j := 4) (fs := []) (X := [0, 0, 0, 0, 0, 0]) jIQ_161_138 rfl rfl rfl rfl ?_
  refine jT_eq (LN := [(7, (0, 4)), (5, (1, q1)), (0, (4, 0)), (1, (0, r7)), (2, (0, r8)), (3, (4, 1)), (4, (0, 0))]) (stN := [(1, 0), (0, 4), (4, 9)]) (hsN := [jzQ_16, (4, [(4, 13), (1, 1)], []), (8, [(4, 14), (4, 15)], []), jgh, jgh, jgh, jgh, jgh, jgh, (101, [], [q1, -r7, -r8, 0, 0, 0]), jgh, jgh, jgh, (101, [], [0, 0, 0, 0, 0, 0]), jgh, jgh]) rfl rfl rfl ?_
  refine jT_xaload_n (v := (4, 0)) (pcN := 140) jIQ_161_139 rfl rfl rfl ?_
  refine jT_xgetf (a := 0) (t := 1) (ci := 13) (fi := 7) (c := jzQ_16) (v := (4, 9)) (pcN := 143) jIQ_161_140 rfl rfl rfl rfl rfl rfl rfl ?_
  refine jT_xiload (v := (0, 4)) (pcN := 145) jIQ_161_143 rfl rfl rfl ?_
  refine jT_lald (x := 0) (a := 9) (j := 4) (fs := []) (X := [q1, -r7, -r8, 0, 0, 0]) jIQ_161_145 rfl rfl rfl rfl ?_
  refine jT_eq (LN := [(7, (0, 4)), (5, (1, q1)), (0, (4, 0)), (1, (0, r7)), (2, (0, r8)), (3, (4, 1)), (4, (0, 0))]) (stN := [(1, 0), (1, 0), (0, 4), (4, 9)]) (hsN := [jzQ_16, (4, [(4, 13), (1, 1)], []), (8, [(4, 14), (4, 15)], []), jgh, jgh, jgh, jgh, jgh, jgh, (101, [], [q1, -r7, -r8, 0, 0, 0]), jgh, jgh, jgh, (101, [], [0, 0, 0, 0, 0, 0]), jgh, jgh]) rfl rfl rfl ?_
  refine jT_xaload_n (v := (4, 1)) (pcN := 147) jIQ_161_146 rfl rfl rfl ?_
  refine jT_xgetf (a := 1) (t := 2) (ci := 4) (fi := 1) (c := (4, [(4, 13), (1, 1)], [])) (v := (1, 1)) (pcN := 150) jIQ_161_147 rfl rfl rfl rfl rfl rfl rfl ?_
  refine jT_xlmul (x := 0) (y := 1) (z := 0) (pcN := 151) jIQ_161_150 rfl (by decide) rfl ?_
  refine jT_xlsub (x := 0) (y := 0) (z := 0) (pcN := 152) jIQ_161_151 rfl (by decide) rfl ?_
  refine jT_adv 1 (pcN := 153) (LN := [(7, (0, 4)), (5, (1, q1)), (0, (4, 0)), (1, (0, r7)), (2, (0, r8)), (3, (4, 1)), (4, (0, 0))]) (stN := []) (hsN := [jzQ_16, (4, [(4, 13), (1, 1)], []), (8, [(4, 14), (4, 15)], []), jgh, jgh, jgh, jgh, jgh, jgh, (101, [], [q1, -r7, -r8, 0, 0, 0]), jgh, jgh, jgh, (101, [], [0, 0, 0, 0, 0, 0]), jgh, jgh]) (c1 := 0) (s1 := 0) (c2 := 0) (s2 := 0) (by exact rfl) ?_ (by omega) (by omega)
  refine jT_xiinc (x := 4) (z := 5) (LN := [(7, (0, 5)), (5, (1, q1)), (0, (4, 0)), (1, (0, r7)), (2, (0, r8)), (3, (4, 1)), (4, (0, 0))]) (pcN := 156) jIQ_161_153 rfl rfl (by decide) rfl rfl ?_
  refine jT_xgoto (pcN := 119) jIQ_161_156 rfl ?_
  refine jT_xiload (v := (0, 5)) (pcN := 121) jIQ_161_119 rfl rfl rfl ?_
  refine jT_xbipush (k := 6) (pcN := 123) jIQ_161_121 (by decide) rfl ?_
  refine jT_xicF (t := 159) (pcN := 126) jIQ_161_123 rfl (by decide +kernel) rfl rfl ?_
  refine jT_xaload_n (v := (4, 0)) (pcN := 127) jIQ_161_126 rfl rfl rfl ?_
  refine jT_xgetf (a := 0) (t := 1) (ci := 13) (fi := 7) (c := jzQ_16) (v := (4, 9)) (pcN := 130) jIQ_161_127 rfl rfl rfl rfl rfl rfl rfl ?_
  refine jT_xiload (v := (0, 5)) (pcN := 132) jIQ_161_130 rfl rfl rfl ?_
  refine jT_xaload_n (v := (4, 1)) (pcN := 133) jIQ_161_132 rfl rfl rfl ?_
  refine jT_xgetf (a := 1) (t := 2) (ci := 4) (fi := 0) (c := (4, [(4, 13), (1, 1)], [])) (v := (4, 13)) (pcN := 136) jIQ_161_133 rfl rfl rfl rfl rfl rfl rfl ?_
  refine jT_xiload (v := (0, 5)) (pcN := 138) jIQ_161_136 rfl rfl rfl ?_
  refine jT_lald (x := 0) (a := 13) (j := 5) (fs := []) (X := [0, 0, 0, 0, 0, 0]) jIQ_161_138 rfl rfl rfl rfl ?_
  refine jT_eq (LN := [(7, (0, 5)), (5, (1, q1)), (0, (4, 0)), (1, (0, r7)), (2, (0, r8)), (3, (4, 1)), (4, (0, 0))]) (stN := [(1, 0), (0, 5), (4, 9)]) (hsN := [jzQ_16, (4, [(4, 13), (1, 1)], []), (8, [(4, 14), (4, 15)], []), jgh, jgh, jgh, jgh, jgh, jgh, (101, [], [q1, -r7, -r8, 0, 0, 0]), jgh, jgh, jgh, (101, [], [0, 0, 0, 0, 0, 0]), jgh, jgh]) rfl rfl rfl ?_
  refine jT_xaload_n (v := (4, 0)) (pcN := 140) jIQ_161_139 rfl rfl rfl ?_
  refine jT_xgetf (a := 0) (t := 1) (ci := 13) (fi := 7) (c := jzQ_16) (v := (4, 9)) (pcN := 143) jIQ_161_140 rfl rfl rfl rfl rfl rfl rfl ?_
  refine jT_xiload (v := (0, 5)) (pcN := 145) jIQ_161_143 rfl rfl rfl ?_
  refine jT_lald (x := 0) (a := 9) (j := 5) (fs := []) (X := [q1, -r7, -r8, 0, 0, 0]) jIQ_161_145 rfl rfl rfl rfl ?_
  refine jT_eq (LN := [(7, (0, 5)), (5, (1, q1)), (0, (4, 0)), (1, (0, r7)), (2, (0, r8)), (3, (4, 1)), (4, (0, 0))]) (stN := [(1, 0), (1, 0), (0, 5), (4, 9)]) (hsN := [jzQ_16, (4, [(4, 13), (1, 1)], []), (8, [(4, 14), (4, 15)], []), jgh, jgh, jgh, jgh, jgh, jgh, (101, [], [q1, -r7, -r8, 0, 0, 0]), jgh, jgh, jgh, (101, [], [0, 0, 0, 0, 0, 0]), jgh, jgh]) rfl rfl rfl ?_
  refine jT_xaload_n (v := (4, 1)) (pcN := 147) jIQ_161_146 rfl rfl rfl ?_
  refine jT_xgetf (a := 1) (t := 2) (ci := 4) (fi := 1) (c := (4, [(4, 13), (1, 1)], [])) (v := (1, 1)) (pcN := 150) jIQ_161_147 rfl rfl rfl rfl rfl rfl rfl ?_
  refine jT_xlmul (x := 0) (y := 1) (z := 0) (pcN := 151) jIQ_161_150 rfl (by decide) rfl ?_
  refine jT_xlsub (x := 0) (y := 0) (z := 0) (pcN := 152) jIQ_161_151 rfl (by decide) rfl ?_
  refine jT_adv 1 (pcN := 153) (LN := [(7, (0, 5)), (5, (1, q1)), (0, (4, 0)), (1, (0, r7)), (2, (0, r8)), (3, (4, 1)), (4, (0, 0))]) (stN := []) (hsN := [jzQ_16, (4, [(4, 13), (1, 1)], []), (8, [(4, 14), (4, 15)], []), jgh, jgh, jgh, jgh, jgh, jgh, (101, [], [q1, -r7, -r8, 0, 0, 0]), jgh, jgh, jgh, (101, [], [0, 0, 0, 0, 0, 0]), jgh, jgh]) (c1 := 0) (s1 := 0) (c2 := 0) (s2 := 0) (by exact rfl) ?_ (by omega) (by omega)
  refine jT_xiinc (x := 5) (z := 6) (LN := [(7, (0, 6)), (5, (1, q1)), (0, (4, 0)), (1, (0, r7)), (2, (0, r8)), (3, (4, 1)), (4, (0, 0))]) (pcN := 156) jIQ_161_153 rfl rfl (by decide) rfl rfl ?_
  refine jT_xgoto (pcN := 119) jIQ_161_156 rfl ?_
  refine jT_xiload (v := (0, 6)) (pcN := 121) jIQ_161_119 rfl rfl rfl ?_
  refine jT_xbipush (k := 6) (pcN := 123) jIQ_161_121 (by decide) rfl ?_
  refine jT_xicT (pcN := 159) jIQ_161_123 rfl (by decide +kernel) rfl ?_
  refine jT_xaload_n (v := (4, 0)) (pcN := 160) jIQ_161_159 rfl rfl rfl ?_
  refine jT_xgetf (a := 0) (t := 1) (ci := 13) (fi := 0) (c := jzQ_16) (v := (4, 2)) (pcN := 163) jIQ_161_160 rfl rfl rfl rfl rfl rfl rfl ?_
  refine jT_xaload_n (v := (4, 0)) (pcN := 164) jIQ_161_163 rfl rfl rfl ?_
  refine jT_xgetf (a := 0) (t := 1) (ci := 13) (fi := 7) (c := jzQ_16) (v := (4, 9)) (pcN := 167) jIQ_161_164 rfl rfl rfl rfl rfl rfl rfl ?_
  refine jT_callA [2, 9, 14, 15] (y := 38) (pcN := 170) (dC := 1) (bc1 := 0) (bc2 := 0) (c1 := 0) (c2 := 0) (as := [(4, 2), (4, 9)]) (asC := [(4, 0), (4, 1)]) (LN := [(7, (0, 6)), (5, (1, q1)), (0, (4, 0)), (1, (0, r7)), (2, (0, r8)), (3, (4, 1)), (4, (0, 0))]) (stN := []) (hsC := [(8, [(4, 2), (4, 3)], []), (101, [], [q1, -r7, -r8, 0, 0, 0]), jgh, jgh]) (ex := []) (v := (0, (-1))) (st2 := [(0, (-1))]) (hs2 := [jzQ_16, (4, [(4, 13), (1, 1)], []), (8, [(4, 14), (4, 15)], []), jgh, jgh, jgh, jgh, jgh, jgh, (101, [], [q1, -r7, -r8, 0, 0, 0]), jgh, jgh, jgh, (101, [], [0, 0, 0, 0, 0, 0]), jgh, jgh]) (jQl_sp38_117 (d := 0) (by omega) (by omega) (by omega) (by omega) (by omega) (by omega) (by omega)) (by rfl) (by rfl) (by rfl) (by rfl) ⟨rfl, rfl, rfl, rfl, trivial⟩ (by rfl) (by rfl) (by omega) (by show 16 ≤ 16; omega) (by omega) (by omega) rfl rfl ?_
  refine jT_xifT (pcN := 177) jIQ_161_170 rfl (by decide +kernel) rfl ?_
  refine jT_xiconst (k := 0) (pcN := 178) jIQ_161_177 rfl ?_
  subst hq_q1
  exact jT_ret rfl (by decide) (by show 16 ≤ 16; omega) (by omega) (by omega) ⟨rfl, rfl, rfl⟩
theorem jQ_161_317 {xs : List Int} {d : Nat} {r7 r8 u11_0 u11_1 u11_2 u11_3 u11_4 u11_5 : Int} (h_r7 : (-20) ≤ r7 ∧ r7 ≤ 20) (h_r8 : (-10) ≤ r8 ∧ r8 ≤ 10) (g_0 : 0 ≤ r7) (g_1 : r7 ≤ 0) (g_2 : r8 < 0) : jT xs (d + 2) 161 16 0 [(0, (4, 0)), (1, (0, r7)), (2, (0, r8)), (3, (4, 1)), (4, (0, 0))] [] [jzQ_16, (4, [(4, 13), (1, 1)], []), (8, [(4, 14), (4, 15)], []), jgh, jgh, jgh, jgh, jgh, jgh, (101, [], [u11_0, u11_1, u11_2, u11_3, u11_4, u11_5]), jgh, jgh, jgh, (101, [], [0, 0, 0, 0, 0, 0]), jgh, jgh] 0 0 (fun k v hsN => k = 0 ∧ v = (0, 0) ∧ hsN = [jzQ_16, (4, [(4, 13), (1, 1)], []), (8, [(4, 14), (4, 15)], []), jgh, jgh, jgh, jgh, jgh, jgh, (101, [], [(108917793695 * r7 + 159561683699 * r8) / 68719476736, -r7, -r8, 0, 0, 0]), jgh, jgh, jgh, (101, [], [0, 0, 0, 0, 0, 0]), jgh, jgh]) := by
  refine jT_xiload_n (v := (0, r7)) (pcN := 1) jIQ_161_0 rfl rfl rfl ?_
  refine jT_ifF (a := r7) (t := 10) (by rfl) (by rfl) (by rfl) (jw_idd (by omega) (by omega)) (by simp only [jcP] <;> omega) ?_
  refine jT_xiload_n (v := (0, r8)) (pcN := 5) jIQ_161_4 rfl rfl rfl ?_
  refine jT_ifT (a := r8) (t := 10) (by rfl) (by rfl) (by rfl) (jw_idd (by omega) (by omega)) (by simp only [jcP] <;> omega) ?_
  refine jT_xiconst (k := 0) (pcN := 11) jIQ_161_10 rfl ?_
  refine jT_xistore (v := (0, 0)) (LN := [(5, (0, 0)), (0, (4, 0)), (1, (0, r7)), (2, (0, r8)), (3, (4, 1)), (4, (0, 0))]) (pcN := 13) jIQ_161_11 rfl rfl rfl rfl ?_
  refine jT_xiload (v := (0, 0)) (pcN := 15) jIQ_161_13 rfl rfl rfl ?_
  refine jT_xbipush (k := 6) (pcN := 17) jIQ_161_15 (by decide) rfl ?_
  refine jT_xicF (t := 56) (pcN := 20) jIQ_161_17 rfl (by decide +kernel) rfl rfl ?_
  refine jT_xaload_n (v := (4, 0)) (pcN := 21) jIQ_161_20 rfl rfl rfl ?_
  refine jT_xgetf (a := 0) (t := 1) (ci := 13) (fi := 7) (c := jzQ_16) (v := (4, 9)) (pcN := 24) jIQ_161_21 rfl rfl rfl rfl rfl rfl rfl ?_
  refine jT_xiload (v := (0, 0)) (pcN := 26) jIQ_161_24 rfl rfl rfl ?_
  refine jT_xiload (v := (0, 0)) (pcN := 28) jIQ_161_26 rfl rfl rfl ?_
  refine jT_xiconst (k := 1) (pcN := 29) jIQ_161_28 rfl ?_
  refine jT_xicT (pcN := 37) jIQ_161_29 rfl (by decide +kernel) rfl ?_
  refine jT_xiload (v := (0, 0)) (pcN := 39) jIQ_161_37 rfl rfl rfl ?_
  refine jT_xiconst (k := 2) (pcN := 40) jIQ_161_39 rfl ?_
  refine jT_xicT (pcN := 48) jIQ_161_40 rfl (by decide +kernel) rfl ?_
  refine jT_xlconst (z := 0) (pcN := 49) jIQ_161_48 rfl rfl ?_
  refine jT_adv 1 (pcN := 50) (LN := [(5, (0, 0)), (0, (4, 0)), (1, (0, r7)), (2, (0, r8)), (3, (4, 1)), (4, (0, 0))]) (stN := []) (hsN := [jzQ_16, (4, [(4, 13), (1, 1)], []), (8, [(4, 14), (4, 15)], []), jgh, jgh, jgh, jgh, jgh, jgh, (101, [], [0, u11_1, u11_2, u11_3, u11_4, u11_5]), jgh, jgh, jgh, (101, [], [0, 0, 0, 0, 0, 0]), jgh, jgh]) (c1 := 0) (s1 := 0) (c2 := 0) (s2 := 0) (by exact rfl) ?_ (by omega) (by omega)
  refine jT_xiinc (x := 0) (z := 1) (LN := [(5, (0, 1)), (0, (4, 0)), (1, (0, r7)), (2, (0, r8)), (3, (4, 1)), (4, (0, 0))]) (pcN := 53) jIQ_161_50 rfl rfl (by decide) rfl rfl ?_
  refine jT_xgoto (pcN := 13) jIQ_161_53 rfl ?_
  refine jT_xiload (v := (0, 1)) (pcN := 15) jIQ_161_13 rfl rfl rfl ?_
  refine jT_xbipush (k := 6) (pcN := 17) jIQ_161_15 (by decide) rfl ?_
  refine jT_xicF (t := 56) (pcN := 20) jIQ_161_17 rfl (by decide +kernel) rfl rfl ?_
  refine jT_xaload_n (v := (4, 0)) (pcN := 21) jIQ_161_20 rfl rfl rfl ?_
  refine jT_xgetf (a := 0) (t := 1) (ci := 13) (fi := 7) (c := jzQ_16) (v := (4, 9)) (pcN := 24) jIQ_161_21 rfl rfl rfl rfl rfl rfl rfl ?_
  refine jT_xiload (v := (0, 1)) (pcN := 26) jIQ_161_24 rfl rfl rfl ?_
  refine jT_xiload (v := (0, 1)) (pcN := 28) jIQ_161_26 rfl rfl rfl ?_
  refine jT_xiconst (k := 1) (pcN := 29) jIQ_161_28 rfl ?_
  refine jT_xicF (t := 37) (pcN := 32) jIQ_161_29 rfl (by decide +kernel) rfl rfl ?_
  refine jT_xiload_n (v := (0, r7)) (pcN := 33) jIQ_161_32 rfl rfl rfl ?_
  refine jT_xi2l (x := r7) (z := r7) (pcN := 34) jIQ_161_33 rfl (jw_idd (by omega) (by omega)) rfl ?_
  refine jT_xgoto (pcN := 49) jIQ_161_34 rfl ?_
  refine jT_adv 1 (pcN := 50) (LN := [(5, (0, 1)), (0, (4, 0)), (1, (0, r7)), (2, (0, r8)), (3, (4, 1)), (4, (0, 0))]) (stN := []) (hsN := [jzQ_16, (4, [(4, 13), (1, 1)], []), (8, [(4, 14), (4, 15)], []), jgh, jgh, jgh, jgh, jgh, jgh, (101, [], [0, r7, u11_2, u11_3, u11_4, u11_5]), jgh, jgh, jgh, (101, [], [0, 0, 0, 0, 0, 0]), jgh, jgh]) (c1 := 0) (s1 := 0) (c2 := 0) (s2 := 0) (by exact rfl) ?_ (by omega) (by omega)
  refine jT_xiinc (x := 1) (z := 2) (LN := [(5, (0, 2)), (0, (4, 0)), (1, (0, r7)), (2, (0, r8)), (3, (4, 1)), (4, (0, 0))]) (pcN := 53) jIQ_161_50 rfl rfl (by decide) rfl rfl ?_
  refine jT_xgoto (pcN := 13) jIQ_161_53 rfl ?_
  refine jT_xiload (v := (0, 2)) (pcN := 15) jIQ_161_13 rfl rfl rfl ?_
  refine jT_xbipush (k := 6) (pcN := 17) jIQ_161_15 (by decide) rfl ?_
  refine jT_xicF (t := 56) (pcN := 20) jIQ_161_17 rfl (by decide +kernel) rfl rfl ?_
  refine jT_xaload_n (v := (4, 0)) (pcN := 21) jIQ_161_20 rfl rfl rfl ?_
  refine jT_xgetf (a := 0) (t := 1) (ci := 13) (fi := 7) (c := jzQ_16) (v := (4, 9)) (pcN := 24) jIQ_161_21 rfl rfl rfl rfl rfl rfl rfl ?_
  refine jT_xiload (v := (0, 2)) (pcN := 26) jIQ_161_24 rfl rfl rfl ?_
  refine jT_xiload (v := (0, 2)) (pcN := 28) jIQ_161_26 rfl rfl rfl ?_
  refine jT_xiconst (k := 1) (pcN := 29) jIQ_161_28 rfl ?_
  refine jT_xicT (pcN := 37) jIQ_161_29 rfl (by decide +kernel) rfl ?_
  refine jT_xiload (v := (0, 2)) (pcN := 39) jIQ_161_37 rfl rfl rfl ?_
  refine jT_xiconst (k := 2) (pcN := 40) jIQ_161_39 rfl ?_
  refine jT_xicF (t := 48) (pcN := 43) jIQ_161_40 rfl (by decide +kernel) rfl rfl ?_
  refine jT_xiload_n (v := (0, r8)) (pcN := 44) jIQ_161_43 rfl rfl rfl ?_
  refine jT_xi2l (x := r8) (z := r8) (pcN := 45) jIQ_161_44 rfl (jw_idd (by omega) (by omega)) rfl ?_
  refine jT_xgoto (pcN := 49) jIQ_161_45 rfl ?_
  refine jT_adv 1 (pcN := 50) (LN := [(5, (0, 2)), (0, (4, 0)), (1, (0, r7)), (2, (0, r8)), (3, (4, 1)), (4, (0, 0))]) (stN := []) (hsN := [jzQ_16, (4, [(4, 13), (1, 1)], []), (8, [(4, 14), (4, 15)], []), jgh, jgh, jgh, jgh, jgh, jgh, (101, [], [0, r7, r8, u11_3, u11_4, u11_5]), jgh, jgh, jgh, (101, [], [0, 0, 0, 0, 0, 0]), jgh, jgh]) (c1 := 0) (s1 := 0) (c2 := 0) (s2 := 0) (by exact rfl) ?_ (by omega) (by omega)
  refine jT_xiinc (x := 2) (z := 3) (LN := [(5, (0, 3)), (0, (4, 0)), (1, (0, r7)), (2, (0, r8)), (3, (4, 1)), (4, (0, 0))]) (pcN := 53) jIQ_161_50 rfl rfl (by decide) rfl rfl ?_
  refine jT_xgoto (pcN := 13) jIQ_161_53 rfl ?_
  refine jT_xiload (v := (0, 3)) (pcN := 15) jIQ_161_13 rfl rfl rfl ?_
  refine jT_xbipush (k := 6) (pcN := 17) jIQ_161_15 (by decide) rfl ?_
  refine jT_xicF (t := 56) (pcN := 20) jIQ_161_17 rfl (by decide +kernel) rfl rfl ?_
  refine jT_xaload_n (v := (4, 0)) (pcN := 21) jIQ_161_20 rfl rfl rfl ?_
  refine jT_xgetf (a := 0) (t := 1) (ci := 13) (fi := 7) (c := jzQ_16) (v := (4, 9)) (pcN := 24) jIQ_161_21 rfl rfl rfl rfl rfl rfl rfl ?_
  refine jT_xiload (v := (0, 3)) (pcN := 26) jIQ_161_24 rfl rfl rfl ?_
  refine jT_xiload (v := (0, 3)) (pcN := 28) jIQ_161_26 rfl rfl rfl ?_
  refine jT_xiconst (k := 1) (pcN := 29) jIQ_161_28 rfl ?_
  refine jT_xicT (pcN := 37) jIQ_161_29 rfl (by decide +kernel) rfl ?_
  refine jT_xiload (v := (0, 3)) (pcN := 39) jIQ_161_37 rfl rfl rfl ?_
  refine jT_xiconst (k := 2) (pcN := 40) jIQ_161_39 rfl ?_
  refine jT_xicT (pcN := 48) jIQ_161_40 rfl (by decide +kernel) rfl ?_
  refine jT_xlconst (z := 0) (pcN := 49) jIQ_161_48 rfl rfl ?_
  refine jT_adv 1 (pcN := 50) (LN := [(5, (0, 3)), (0, (4, 0)), (1, (0, r7)), (2, (0, r8)), (3, (4, 1)), (4, (0, 0))]) (stN := []) (hsN := [jzQ_16, (4, [(4, 13), (1, 1)], []), (8, [(4, 14), (4, 15)], []), jgh, jgh, jgh, jgh, jgh, jgh, (101, [], [0, r7, r8, 0, u11_4, u11_5]), jgh, jgh, jgh, (101, [], [0, 0, 0, 0, 0, 0]), jgh, jgh]) (c1 := 0) (s1 := 0) (c2 := 0) (s2 := 0) (by exact rfl) ?_ (by omega) (by omega)
  refine jT_xiinc (x := 3) (z := 4) (LN := [(5, (0, 4)), (0, (4, 0)), (1, (0, r7)), (2, (0, r8)), (3, (4, 1)), (4, (0, 0))]) (pcN := 53) jIQ_161_50 rfl rfl (by decide) rfl rfl ?_
  refine jT_xgoto (pcN := 13) jIQ_161_53 rfl ?_
  refine jT_xiload (v := (0, 4)) (pcN := 15) jIQ_161_13 rfl rfl rfl ?_
  refine jT_xbipush (k := 6) (pcN := 17) jIQ_161_15 (by decide) rfl ?_
  refine jT_xicF (t := 56) (pcN := 20) jIQ_161_17 rfl (by decide +kernel) rfl rfl ?_
  refine jT_xaload_n (v := (4, 0)) (pcN := 21) jIQ_161_20 rfl rfl rfl ?_
  refine jT_xgetf (a := 0) (t := 1) (ci := 13) (fi := 7) (c := jzQ_16) (v := (4, 9)) (pcN := 24) jIQ_161_21 rfl rfl rfl rfl rfl rfl rfl ?_
  refine jT_xiload (v := (0, 4)) (pcN := 26) jIQ_161_24 rfl rfl rfl ?_
  refine jT_xiload (v := (0, 4)) (pcN := 28) jIQ_161_26 rfl rfl rfl ?_
  refine jT_xiconst (k := 1) (pcN := 29) jIQ_161_28 rfl ?_
  refine jT_xicT (pcN := 37) jIQ_161_29 rfl (by decide +kernel) rfl ?_
  refine jT_xiload (v := (0, 4)) (pcN := 39) jIQ_161_37 rfl rfl rfl ?_
  refine jT_xiconst (k := 2) (pcN := 40) jIQ_161_39 rfl ?_
  refine jT_xicT (pcN := 48) jIQ_161_40 rfl (by decide +kernel) rfl ?_
  refine jT_xlconst (z := 0) (pcN := 49) jIQ_161_48 rfl rfl ?_
  refine jT_adv 1 (pcN := 50) (LN := [(5, (0, 4)), (0, (4, 0)), (1, (0, r7)), (2, (0, r8)), (3, (4, 1)), (4, (0, 0))]) (stN := []) (hsN := [jzQ_16, (4, [(4, 13), (1, 1)], []), (8, [(4, 14), (4, 15)], []), jgh, jgh, jgh, jgh, jgh, jgh, (101, [], [0, r7, r8, 0, 0, u11_5]), jgh, jgh, jgh, (101, [], [0, 0, 0, 0, 0, 0]), jgh, jgh]) (c1 := 0) (s1 := 0) (c2 := 0) (s2 := 0) (by exact rfl) ?_ (by omega) (by omega)
  refine jT_xiinc (x := 4) (z := 5) (LN := [(5, (0, 5)), (0, (4, 0)), (1, (0, r7)), (2, (0, r8)), (3, (4, 1)), (4, (0, 0))]) (pcN := 53) jIQ_161_50 rfl rfl (by decide) rfl rfl ?_
  refine jT_xgoto (pcN := 13) jIQ_161_53 rfl ?_
  refine jT_xiload (v := (0, 5)) (pcN := 15) jIQ_161_13 rfl rfl rfl ?_
  refine jT_xbipush (k := 6) (pcN := 17) jIQ_161_15 (by decide) rfl ?_
  refine jT_xicF (t := 56) (pcN := 20) jIQ_161_17 rfl (by decide +kernel) rfl rfl ?_
  refine jT_xaload_n (v := (4, 0)) (pcN := 21) jIQ_161_20 rfl rfl rfl ?_
  refine jT_xgetf (a := 0) (t := 1) (ci := 13) (fi := 7) (c := jzQ_16) (v := (4, 9)) (pcN := 24) jIQ_161_21 rfl rfl rfl rfl rfl rfl rfl ?_
  refine jT_xiload (v := (0, 5)) (pcN := 26) jIQ_161_24 rfl rfl rfl ?_
  refine jT_xiload (v := (0, 5)) (pcN := 28) jIQ_161_26 rfl rfl rfl ?_
  refine jT_xiconst (k := 1) (pcN := 29) jIQ_161_28 rfl ?_
  refine jT_xicT (pcN := 37) jIQ_161_29 rfl (by decide +kernel) rfl ?_
  refine jT_xiload (v := (0, 5)) (pcN := 39) jIQ_161_37 rfl rfl rfl ?_
  refine jT_xiconst (k := 2) (pcN := 40) jIQ_161_39 rfl ?_
  refine jT_xicT (pcN := 48) jIQ_161_40 rfl (by decide +kernel) rfl ?_
  refine jT_xlconst (z := 0) (pcN := 49) jIQ_161_48 rfl rfl ?_
  refine jT_adv 1 (pcN := 50) (LN := [(5, (0, 5)), (0, (4, 0)), (1, (0, r7)), (2, (0, r8)), (3, (4, 1)), (4, (0, 0))]) (stN := []) (hsN := [jzQ_16, (4, [(4, 13), (1, 1)], []), (8, [(4, 14), (4, 15)], []), jgh, jgh, jgh, jgh, jgh, jgh, (101, [], [0, r7, r8, 0, 0, 0]), jgh, jgh, jgh, (101, [], [0, 0, 0, 0, 0, 0]), jgh, jgh]) (c1 := 0) (s1 := 0) (c2 := 0) (s2 := 0) (by exact rfl) ?_ (by omega) (by omega)
  refine jT_xiinc (x := 5) (z := 6) (LN := [(5, (0, 6)), (0, (4, 0)), (1, (0, r7)), (2, (0, r8)), (3, (4, 1)), (4, (0, 0))]) (pcN := 53) jIQ_161_50 rfl rfl (by decide) rfl rfl ?_
  refine jT_xgoto (pcN := 13) jIQ_161_53 rfl ?_
  refine jT_xiload (v := (0, 6)) (pcN := 15) jIQ_161_13 rfl rfl rfl ?_
  refine jT_xbipush (k := 6) (pcN := 17) jIQ_161_15 (by decide) rfl ?_
  refine jT_xicT (pcN := 56) jIQ_161_17 rfl (by decide +kernel) rfl ?_
  refine jT_xaload_n (v := (4, 0)) (pcN := 57) jIQ_161_56 rfl rfl rfl ?_
  refine jT_xgetf (a := 0) (t := 1) (ci := 13) (fi := 0) (c := jzQ_16) (v := (4, 2)) (pcN := 60) jIQ_161_57 rfl rfl rfl rfl rfl rfl rfl ?_
  refine jT_xaload_n (v := (4, 0)) (pcN := 61) jIQ_161_60 rfl rfl rfl ?_
  refine jT_xgetf (a := 0) (t := 1) (ci := 13) (fi := 7) (c := jzQ_16) (v := (4, 9)) (pcN := 64) jIQ_161_61 rfl rfl rfl rfl rfl rfl rfl ?_
  refine jT_xlconst (z := 1) (pcN := 65) jIQ_161_64 rfl rfl ?_
  refine jT_xlconst (z := 1) (pcN := 66) jIQ_161_65 rfl rfl ?_
  refine jT_callA [2, 9, 14, 15] (y := 45) (pcN := 69) (dC := 1) (bc1 := 0) (bc2 := 0) (c1 := 0) (c2 := 0) (as := [(4, 2), (4, 9), (1, 1), (1, 1)]) (asC := [(4, 0), (4, 1), (1, 1), (1, 1)]) (LN := [(5, (0, 6)), (0, (4, 0)), (1, (0, r7)), (2, (0, r8)), (3, (4, 1)), (4, (0, 0))]) (stN := []) (hsC := [(8, [(4, 2), (4, 3)], []), (101, [], [0, r7, r8, 0, 0, 0]), jgh, jgh]) (ex := []) (v := (1, (108917793695 * r7 + 159561683699 * r8) / 68719476736)) (st2 := [(1, (108917793695 * r7 + 159561683699 * r8) / 68719476736)]) (hs2 := [jzQ_16, (4, [(4, 13), (1, 1)], []), (8, [(4, 14), (4, 15)], []), jgh, jgh, jgh, jgh, jgh, jgh, (101, [], [0, r7, r8, 0, 0, 0]), jgh, jgh, jgh, (101, [], [0, 0, 0, 0, 0, 0]), jgh, jgh]) (jQl_sp45_116 (d := 0) (by omega) (by omega)) (by rfl) (by rfl) (by rfl) (by rfl) ⟨rfl, rfl, rfl, rfl, trivial⟩ (by rfl) (by rfl) (by omega) (by show 16 ≤ 16; omega) (by omega) (by omega) rfl rfl ?_
  have hb_q1 : (-60) ≤ (108917793695 * r7 + 159561683699 * r8) / 68719476736 ∧ (108917793695 * r7 + 159561683699 * r8) / 68719476736 ≤ 60 := ⟨by omega, by omega⟩
  generalize hq_q1 : (108917793695 * r7 + 159561683699 * r8) / 68719476736 = q1 at hb_q1 ⊢
  refine jT_xlstore (v := (1, q1)) (LN := [(5, (1, q1)), (0, (4, 0)), (1, (0, r7)), (2, (0, r8)), (3, (4, 1)), (4, (0, 0))]) (pcN := 71) jIQ_161_69 rfl rfl rfl rfl ?_
  have g_3 : 0 ≤ (-68719476736) * q1 + 108917793694 * r7 + 159561683698 * r8 - 1 := by have := jcg (b := r7) (c := r8) (by omega) (by omega) (by omega); rw [hq_q1] at this; omega
  have g_4 : 0 ≤ (-68719476736) * q1 + 108917793694 * r7 + 159561683700 * r8 - 1 := by have := jcg (b := r7) (c := r8) (by omega) (by omega) (by omega); rw [hq_q1] at this; omega
  have g_5 : 0 ≤ (-68719476736) * q1 + 108917793696 * r7 + 159561683698 * r8 - 1 := by have := jcg (b := r7) (c := r8) (by omega) (by omega) (by omega); rw [hq_q1] at this; omega
  have g_6 : 0 ≤ (-68719476736) * q1 + 108917793696 * r7 + 159561683700 * r8 - 1 := by have := jcg (b := r7) (c := r8) (by omega) (by omega) (by omega); rw [hq_q1] at this; omega
  refine jT_xiload (v := (0, 0)) (pcN := 73) jIQ_161_71 rfl rfl rfl ?_
  refine jT_xifT (pcN := 107) jIQ_161_73 rfl (by decide +kernel) rfl ?_
  refine jT_xaload_n (v := (4, 0)) (pcN := 108) jIQ_161_107 rfl rfl rfl ?_
  refine jT_xgetf (a := 0) (t := 1) (ci := 13) (fi := 7) (c := jzQ_16) (v := (4, 9)) (pcN := 111) jIQ_161_108 rfl rfl rfl rfl rfl rfl rfl ?_
  refine jT_xiconst (k := 0) (pcN := 112) jIQ_161_111 rfl ?_
  refine jT_xlload (v := (1, q1)) (pcN := 114) jIQ_161_112 rfl rfl rfl ?_
  refine jT_adv 2 (pcN := 116) (LN := [(5, (1, q1)), (0, (4, 0)), (1, (0, r7)), (2, (0, r8)), (3, (4, 1)), (4, (0, 0))]) (stN := []) (hsN := [jzQ_16, (4, [(4, 13), (1, 1)], []), (8, [(4, 14), (4, 15)], []), jgh, jgh, jgh, jgh, jgh, jgh, (101, [], [-q1, r7, r8, 0, 0, 0]), jgh, jgh, jgh, (101, [], [0, 0, 0, 0, 0, 0]), jgh, jgh]) (c1 := 0) (s1 := 0) (c2 := 0) (s2 := 0) (by exact rfl) ?_ (by omega) (by omega)
  refine jT_xiconst (k := 0) (pcN := 117) jIQ_161_116 rfl ?_
  refine jT_xistore (v := (0, 0)) (LN := [(7, (0, 0)), (5, (1, q1)), (0, (4, 0)), (1, (0, r7)), (2, (0, r8)), (3, (4, 1)), (4, (0, 0))]) (pcN := 119) jIQ_161_117 rfl rfl rfl rfl ?_
  refine jT_xiload (v := (0, 0)) (pcN := 121) jIQ_161_119 rfl rfl rfl ?_
  refine jT_xbipush (k := 6) (pcN := 123) jIQ_161_121 (by decide) rfl ?_
  refine jT_xicF (t := 159) (pcN := 126) jIQ_161_123 rfl (by decide +kernel) rfl rfl ?_
  refine jT_xaload_n (v := (4, 0)) (pcN := 127) jIQ_161_126 rfl rfl rfl ?_
  refine jT_xgetf (a := 0) (t := 1) (ci := 13) (fi := 7) (c := jzQ_16) (v := (4, 9)) (pcN := 130) jIQ_161_127 rfl rfl rfl rfl rfl rfl rfl ?_
  refine jT_xiload (v := (0, 0)) (pcN := 132) jIQ_161_130 rfl rfl rfl ?_
  refine jT_xaload_n (v := (4, 1)) (pcN := 133) jIQ_161_132 rfl rfl rfl ?_
  refine jT_xgetf (a := 1) (t := 2) (ci := 4) (fi := 0) (c := (4, [(4, 13), (1, 1)], [])) (v := (4, 13)) (pcN := 136) jIQ_161_133 rfl rfl rfl rfl rfl rfl rfl ?_
  refine jT_xiload (v := (0, 0)) (pcN := 138) jIQ_161_136 rfl rfl rfl ?_
  refine jT_lald (x := 0) (a := 13) (j := 0) (fs := []) (X := [0, 0, 0, 0, 0, 0]) jIQ_161_138 rfl rfl rfl rfl ?_
  refine jT_eq (LN := [(7, (0, 0)), (5, (1, q1)), (0, (4, 0)), (1, (0, r7)), (2, (0, r8)), (3, (4, 1)), (4, (0, 0))]) (stN := [(1, 0), (0, 0), (4, 9)]) (hsN := [jzQ_16, (4, [(4, 13), (1, 1)], []), (8, [(4, 14), (4, 15)], []), jgh, jgh, jgh, jgh, jgh, jgh, (101, [], [-q1, r7, r8, 0, 0, 0]), jgh, jgh, jgh, (101, [], [0, 0, 0, 0, 0, 0]), jgh, jgh]) rfl rfl rfl ?_
  refine jT_xaload_n (v := (4, 0)) (pcN := 140) jIQ_161_139 rfl rfl rfl ?_
  refine jT_xgetf (a := 0) (t := 1) (ci := 13) (fi := 7) (c := jzQ_16) (v := (4, 9)) (pcN := 143) jIQ_161_140 rfl rfl rfl rfl rfl rfl rfl ?_
  refine jT_xiload (v := (0, 0)) (pcN := 145) jIQ_161_143 rfl rfl rfl ?_
  refine jT_lald (x := -q1) (a := 9) (j := 0) (fs := []) (X := [-q1, r7, r8, 0, 0, 0]) jIQ_161_145 rfl rfl rfl rfl ?_
  refine jT_eq (LN := [(7, (0, 0)), (5, (1, q1)), (0, (4, 0)), (1, (0, r7)), (2, (0, r8)), (3, (4, 1)), (4, (0, 0))]) (stN := [(1, -q1), (1, 0), (0, 0), (4, 9)]) (hsN := [jzQ_16, (4, [(4, 13), (1, 1)], []), (8, [(4, 14), (4, 15)], []), jgh, jgh, jgh, jgh, jgh, jgh, (101, [], [-q1, r7, r8, 0, 0, 0]), jgh, jgh, jgh, (101, [], [0, 0, 0, 0, 0, 0]), jgh, jgh]) rfl rfl rfl ?_
  refine jT_xaload_n (v := (4, 1)) (pcN := 147) jIQ_161_146 rfl rfl rfl ?_
  refine jT_xgetf (a := 1) (t := 2) (ci := 4) (fi := 1) (c := (4, [(4, 13), (1, 1)], [])) (v := (1, 1)) (pcN := 150) jIQ_161_147 rfl rfl rfl rfl rfl rfl rfl ?_
  refine jT_xlmul (x := -q1) (y := 1) (z := -q1) (pcN := 151) jIQ_161_150 rfl (by omega) rfl ?_
  refine jT_xlsub (x := 0) (y := -q1) (z := q1) (pcN := 152) jIQ_161_151 rfl (by omega) rfl ?_
  refine jT_adv 1 (pcN := 153) (LN := [(7, (0, 0)), (5, (1, q1)), (0, (4, 0)), (1, (0, r7)), (2, (0, r8)), (3, (4, 1)), (4, (0, 0))]) (stN := []) (hsN := [jzQ_16, (4, [(4, 13), (1, 1)], []), (8, [(4, 14), (4, 15)], []), jgh, jgh, jgh, jgh, jgh, jgh, (101, [], [q1, r7, r8, 0, 0, 0]), jgh, jgh, jgh, (101, [], [0, 0, 0, 0, 0, 0]), jgh, jgh]) (c1 := 0) (s1 := 0) (c2 := 0) (s2 := 0) (by exact rfl) ?_ (by omega) (by omega)
  refine jT_xiinc (x := 0) (z := 1) (LN := [(7, (0, 1)), (5, (1, q1)), (0, (4, 0)), (1, (0, r7)), (2, (0, r8)), (3, (4, 1)), (4, (0, 0))]) (pcN := 156) jIQ_161_153 rfl rfl (by decide) rfl rfl ?_
  refine jT_xgoto (pcN := 119) jIQ_161_156 rfl ?_
  refine jT_xiload (v := (0, 1)) (pcN := 121) jIQ_161_119 rfl rfl rfl ?_
  refine jT_xbipush (k := 6) (pcN := 123) jIQ_161_121 (by decide) rfl ?_
  refine jT_xicF (t := 159) (pcN := 126) jIQ_161_123 rfl (by decide +kernel) rfl rfl ?_
  refine jT_xaload_n (v := (4, 0)) (pcN := 127) jIQ_161_126 rfl rfl rfl ?_
  refine jT_xgetf (a := 0) (t := 1) (ci := 13) (fi := 7) (c := jzQ_16) (v := (4, 9)) (pcN := 130) jIQ_161_127 rfl rfl rfl rfl rfl rfl rfl ?_
  refine jT_xiload (v := (0, 1)) (pcN := 132) jIQ_161_130 rfl rfl rfl ?_
  refine jT_xaload_n (v := (4, 1)) (pcN := 133) jIQ_161_132 rfl rfl rfl ?_
  refine jT_xgetf (a := 1) (t := 2) (ci := 4) (fi := 0) (c := (4, [(4, 13), (1, 1)], [])) (v := (4, 13)) (pcN := 136) jIQ_161_133 rfl rfl rfl rfl rfl rfl rfl ?_
  refine jT_xiload (v := (0, 1)) (pcN := 138) jIQ_161_136 rfl rfl rfl ?_
  refine jT_lald (x := 0) (a := 13) (j := 1) (fs := []) (X := [0, 0, 0, 0, 0, 0]) jIQ_161_138 rfl rfl rfl rfl ?_
  refine jT_eq (LN := [(7, (0, 1)), (5, (1, q1)), (0, (4, 0)), (1, (0, r7)), (2, (0, r8)), (3, (4, 1)), (4, (0, 0))]) (stN := [(1, 0), (0, 1), (4, 9)]) (hsN := [jzQ_16, (4, [(4, 13), (1, 1)], []), (8, [(4, 14), (4, 15)], []), jgh, jgh, jgh, jgh, jgh, jgh, (101, [], [q1, r7, r8, 0, 0, 0]), jgh, jgh, jgh, (101, [], [0, 0, 0, 0, 0, 0]), jgh, jgh]) rfl rfl rfl ?_
  refine jT_xaload_n (v := (4, 0)) (pcN := 140) jIQ_161_139 rfl rfl rfl ?_
  refine jT_xgetf (a := 0) (t := 1) (ci := 13) (fi := 7) (c := jzQ_16) (v := (4, 9)) (pcN := 143) jIQ_161_140 rfl rfl rfl rfl rfl rfl rfl ?_
  refine jT_xiload (v := (0, 1)) (pcN := 145) jIQ_161_143 rfl rfl rfl ?_
  refine jT_lald (x := r7) (a := 9) (j := 1) (fs := []) (X := [q1, r7, r8, 0, 0, 0]) jIQ_161_145 rfl rfl rfl rfl ?_
  refine jT_eq (LN := [(7, (0, 1)), (5, (1, q1)), (0, (4, 0)), (1, (0, r7)), (2, (0, r8)), (3, (4, 1)), (4, (0, 0))]) (stN := [(1, r7), (1, 0), (0, 1), (4, 9)]) (hsN := [jzQ_16, (4, [(4, 13), (1, 1)], []), (8, [(4, 14), (4, 15)], []), jgh, jgh, jgh, jgh, jgh, jgh, (101, [], [q1, r7, r8, 0, 0, 0]), jgh, jgh, jgh, (101, [], [0, 0, 0, 0, 0, 0]), jgh, jgh]) rfl rfl rfl ?_
  refine jT_xaload_n (v := (4, 1)) (pcN := 147) jIQ_161_146 rfl rfl rfl ?_
  refine jT_xgetf (a := 1) (t := 2) (ci := 4) (fi := 1) (c := (4, [(4, 13), (1, 1)], [])) (v := (1, 1)) (pcN := 150) jIQ_161_147 rfl rfl rfl rfl rfl rfl rfl ?_
  refine jT_xlmul (x := r7) (y := 1) (z := r7) (pcN := 151) jIQ_161_150 rfl (by omega) rfl ?_
  refine jT_xlsub (x := 0) (y := r7) (z := -r7) (pcN := 152) jIQ_161_151 rfl (by omega) rfl ?_
  refine jT_adv 1 (pcN := 153) (LN := [(7, (0, 1)), (5, (1, q1)), (0, (4, 0)), (1, (0, r7)), (2, (0, r8)), (3, (4, 1)), (4, (0, 0))]) (stN := []) (hsN := [jzQ_16, (4, [(4, 13), (1, 1)], []), (8, [(4, 14), (4, 15)], []), jgh, jgh, jgh, jgh, jgh, jgh, (101, [], [q1, -r7, r8, 0, 0, 0]), jgh, jgh, jgh, (101, [], [0, 0, 0, 0, 0, 0]), jgh, jgh]) (c1 := 0) (s1 := 0) (c2 := 0) (s2 := 0) (by exact rfl) ?_ (by omega) (by omega)
  refine jT_xiinc (x := 1) (z := 2) (LN := [(7, (0, 2)), (5, (1, q1)), (0, (4, 0)), (1, (0, r7)), (2, (0, r8)), (3, (4, 1)), (4, (0, 0))]) (pcN := 156) jIQ_161_153 rfl rfl (by decide) rfl rfl ?_
  refine jT_xgoto (pcN := 119) jIQ_161_156 rfl ?_
  refine jT_xiload (v := (0, 2)) (pcN := 121) jIQ_161_119 rfl rfl rfl ?_
  refine jT_xbipush (k := 6) (pcN := 123) jIQ_161_121 (by decide) rfl ?_
  refine jT_xicF (t := 159) (pcN := 126) jIQ_161_123 rfl (by decide +kernel) rfl rfl ?_
  refine jT_xaload_n (v := (4, 0)) (pcN := 127) jIQ_161_126 rfl rfl rfl ?_
  refine jT_xgetf (a := 0) (t := 1) (ci := 13) (fi := 7) (c := jzQ_16) (v := (4, 9)) (pcN := 130) jIQ_161_127 rfl rfl rfl rfl rfl rfl rfl ?_
  refine jT_xiload (v := (0, 2)) (pcN := 132) jIQ_161_130 rfl rfl rfl ?_
  refine jT_xaload_n (v := (4, 1)) (pcN := 133) jIQ_161_132 rfl rfl rfl ?_
  refine jT_xgetf (a := 1) (t := 2) (ci := 4) (fi := 0) (c := (4, [(4, 13), (1, 1)], [])) (v := (4, 13)) (pcN := 136) jIQ_161_133 rfl rfl rfl rfl rfl rfl rfl ?_
  refine jT_xiload (v := (0, 2)) (pcN := 138) jIQ_161_136 rfl rfl rfl ?_
  refine jT_lald (x := 0) (a := 13) (j := 2) (fs := []) (X := [0, 0, 0, 0, 0, 0]) jIQ_161_138 rfl rfl rfl rfl ?_
  refine jT_eq (LN := [(7, (0, 2)), (5, (1, q1)), (0, (4, 0)), (1, (0, r7)), (2, (0, r8)), (3, (4, 1)), (4, (0, 0))]) (stN := [(1, 0), (0, 2), (4, 9)]) (hsN := [jzQ_16, (4, [(4, 13), (1, 1)], []), (8, [(4, 14), (4, 15)], []), jgh, jgh, jgh, jgh, jgh, jgh, (101, [], [q1, -r7, r8, 0, 0, 0]), jgh, jgh, jgh, (101, [], [0, 0, 0, 0, 0, 0]), jgh, jgh]) rfl rfl rfl ?_
  refine jT_xaload_n (v := (4, 0)) (pcN := 140) jIQ_161_139 rfl rfl rfl ?_
  refine jT_xgetf (a := 0) (t := 1) (ci := 13) (fi := 7) (c := jzQ_16) (v := (4, 9)) (pcN := 143) jIQ_161_140 rfl rfl rfl rfl rfl rfl rfl ?_
  refine jT_xiload (v := (0, 2)) (pcN := 145) jIQ_161_143 rfl rfl rfl ?_
  refine jT_lald (x := r8) (a := 9) (j := 2) (fs := []) (X := [q1, -r7, r8, 0, 0, 0]) jIQ_161_145 rfl rfl rfl rfl ?_
  refine jT_eq (LN := [(7, (0, 2)), (5, (1, q1)), (0, (4, 0)), (1, (0, r7)), (2, (0, r8)), (3, (4, 1)), (4, (0, 0))]) (stN := [(1, r8), (1, 0), (0, 2), (4, 9)]) (hsN := [jzQ_16, (4, [(4, 13), (1, 1)], []), (8, [(4, 14), (4, 15)], []), jgh, jgh, jgh, jgh, jgh, jgh, (101, [], [q1, -r7, r8, 0, 0, 0]), jgh, jgh, jgh, (101, [], [0, 0, 0, 0, 0, 0]), jgh, jgh]) rfl rfl rfl ?_
  refine jT_xaload_n (v := (4, 1)) (pcN := 147) jIQ_161_146 rfl rfl rfl ?_
  refine jT_xgetf (a := 1) (t := 2) (ci := 4) (fi := 1) (c := (4, [(4, 13), (1, 1)], [])) (v := (1, 1)) (pcN := 150) jIQ_161_147 rfl rfl rfl rfl rfl rfl rfl ?_
  refine jT_xlmul (x := r8) (y := 1) (z := r8) (pcN := 151) jIQ_161_150 rfl (by omega) rfl ?_
  refine jT_xlsub (x := 0) (y := r8) (z := -r8) (pcN := 152) jIQ_161_151 rfl (by omega) rfl ?_
  refine jT_adv 1 (pcN := 153) (LN := [(7, (0, 2)), (5, (1, q1)), (0, (4, 0)), (1, (0, r7)), (2, (0, r8)), (3, (4, 1)), (4, (0, 0))]) (stN := []) (hsN := [jzQ_16, (4, [(4, 13), (1, 1)], []), (8, [(4, 14), (4, 15)], []), jgh, jgh, jgh, jgh, jgh, jgh, (101, [], [q1, -r7, -r8, 0, 0, 0]), jgh, jgh, jgh, (101, [], [0, 0, 0, 0, 0, 0]), jgh, jgh]) (c1 := 0) (s1 := 0) (c2 := 0) (s2 := 0) (by exact rfl) ?_ (by omega) (by omega)
  refine jT_xiinc (x := 2) (z := 3) (LN := [(7, (0, 3)), (5, (1, q1)), (0, (4, 0)), (1, (0, r7)), (2, (0, r8)), (3, (4, 1)), (4, (0, 0))]) (pcN := 156) jIQ_161_153 rfl rfl (by decide) rfl rfl ?_
  refine jT_xgoto (pcN := 119) jIQ_161_156 rfl ?_
  refine jT_xiload (v := (0, 3)) (pcN := 121) jIQ_161_119 rfl rfl rfl ?_
  refine jT_xbipush (k := 6) (pcN := 123) jIQ_161_121 (by decide) rfl ?_
  refine jT_xicF (t := 159) (pcN := 126) jIQ_161_123 rfl (by decide +kernel) rfl rfl ?_
  refine jT_xaload_n (v := (4, 0)) (pcN := 127) jIQ_161_126 rfl rfl rfl ?_
  refine jT_xgetf (a := 0) (t := 1) (ci := 13) (fi := 7) (c := jzQ_16) (v := (4, 9)) (pcN := 130) jIQ_161_127 rfl rfl rfl rfl rfl rfl rfl ?_
  refine jT_xiload (v := (0, 3)) (pcN := 132) jIQ_161_130 rfl rfl rfl ?_
  refine jT_xaload_n (v := (4, 1)) (pcN := 133) jIQ_161_132 rfl rfl rfl ?_
  refine jT_xgetf (a := 1) (t := 2) (ci := 4) (fi := 0) (c := (4, [(4, 13), (1, 1)], [])) (v := (4, 13)) (pcN := 136) jIQ_161_133 rfl rfl rfl rfl rfl rfl rfl ?_
  refine jT_xiload (v := (0, 3)) (pcN := 138) jIQ_161_136 rfl rfl rfl ?_
  refine jT_lald (x := 0) (a := 13) (j := 3) (fs := []) (X := [0, 0, 0, 0, 0, 0]) jIQ_161_138 rfl rfl rfl rfl ?_
  refine jT_eq (LN := [(7, (0, 3)), (5, (1, q1)), (0, (4, 0)), (1, (0, r7)), (2, (0, r8)), (3, (4, 1)), (4, (0, 0))]) (stN := [(1, 0), (0, 3), (4, 9)]) (hsN := [jzQ_16, (4, [(4, 13), (1, 1)], []), (8, [(4, 14), (4, 15)], []), jgh, jgh, jgh, jgh, jgh, jgh, (101, [], [q1, -r7, -r8, 0, 0, 0]), jgh, jgh, jgh, (101, [], [0, 0, 0, 0, 0, 0]), jgh, jgh]) rfl rfl rfl ?_
  refine jT_xaload_n (v := (4, 0)) (pcN := 140) jIQ_161_139 rfl rfl rfl ?_
  refine jT_xgetf (a := 0) (t := 1) (ci := 13) (fi := 7) (c := jzQ_16) (v := (4, 9)) (pcN := 143) jIQ_161_140 rfl rfl rfl rfl rfl rfl rfl ?_
  refine jT_xiload (v := (0, 3)) (pcN := 145) jIQ_161_143 rfl rfl rfl ?_
  refine jT_lald (x := 0) (a := 9) (j := 3) (fs := []) (X := [q1, -r7, -r8, 0, 0, 0]) jIQ_161_145 rfl rfl rfl rfl ?_
  refine jT_eq (LN := [(7, (0, 3)), (5, (1, q1)), (0, (4, 0)), (1, (0, r7)), (2, (0, r8)), (3, (4, 1)), (4, (0, 0))]) (stN := [(1, 0), (1, 0), (0, 3), (4, 9)]) (hsN := [jzQ_16, (4, [(4, 13), (1, 1)], []), (8, [(4, 14), (4, 15)], []), jgh, jgh, jgh, jgh, jgh, jgh, (101, [], [q1, -r7, -r8, 0, 0, 0]), jgh, jgh, jgh, (101, [], [0, 0, 0, 0, 0, 0]), jgh, jgh]) rfl rfl rfl ?_
  refine jT_xaload_n (v := (4, 1)) (pcN := 147) jIQ_161_146 rfl rfl rfl ?_
  refine jT_xgetf (a := 1) (t := 2) (ci := 4) (fi := 1) (c := (4, [(4, 13), (1, 1)], [])) (v := (1, 1)) (pcN := 150) jIQ_161_147 rfl rfl rfl rfl rfl rfl rfl ?_
  refine jT_xlmul (x := 0) (y := 1) (z := 0) (pcN := 151) jIQ_161_150 rfl (by decide) rfl ?_
  refine jT_xlsub (x := 0) (y := 0) (z := 0) (pcN := 152) jIQ_161_151 rfl (by decide) rfl ?_
  refine jT_adv 1 (pcN := 153) (LN := [(7, (0, 3)), (5, (1, q1)), (0, (4, 0)), (1, (0, r7)), (2, (0, r8)), (3, (4, 1)), (4, (0, 0))]) (stN := []) (hsN := [jzQ_16, (4, [(4, 13), (1, 1)], []), (8, [(4, 14), (4, 15)], []), jgh, jgh, jgh, jgh, jgh, jgh, (101, [], [q1, -r7, -r8, 0, 0, 0]), jgh, jgh, jgh, (101, [], [0, 0, 0, 0, 0, 0]), jgh, jgh]) (c1 := 0) (s1 := 0) (c2 := 0) (s2 := 0) (by exact rfl) ?_ (by omega) (by omega)
  refine jT_xiinc (x := 3) (z := 4) (LN := [(7, (0, 4)), (5, (1, q1)), (0, (4, 0)), (1, (0, r7)), (2, (0, r8)), (3, (4, 1)), (4, (0, 0))]) (pcN := 156) jIQ_161_153 rfl rfl (by decide) rfl rfl ?_
  refine jT_xgoto (pcN := 119) jIQ_161_156 rfl ?_
  refine jT_xiload (v := (0, 4)) (pcN := 121) jIQ_161_119 rfl rfl rfl ?_
  refine jT_xbipush (k := 6) (pcN := 123) jIQ_161_121 (by decide) rfl ?_
  refine jT_xicF (t := 159) (pcN := 126) jIQ_161_123 rfl (by decide +kernel) rfl rfl ?_
  refine jT_xaload_n (v := (4, 0)) (pcN := 127) jIQ_161_126 rfl rfl rfl ?_
  refine jT_xgetf (a := 0) (t := 1) (ci := 13) (fi := 7) (c := jzQ_16) (v := (4, 9)) (pcN := 130) jIQ_161_127 rfl rfl rfl rfl rfl rfl rfl ?_
  refine jT_xiload (v := (0, 4)) (pcN := 132) jIQ_161_130 rfl rfl rfl ?_
  refine jT_xaload_n (v := (4, 1)) (pcN := 133) jIQ_161_132 rfl rfl rfl ?_
  refine jT_xgetf (a := 1) (t := 2) (ci := 4) (fi := 0) (c := (4, [(4, 13), (1, 1)], [])) (v := (4, 13)) (pcN := 136) jIQ_161_133 rfl rfl rfl rfl rfl rfl rfl ?_
  refine jT_xiload (v := (0, 4)) (pcN := 138) jIQ_161_136 rfl rfl rfl ?_
  refine jT_lald (x := 0) (a := 13) (j := 4) (fs := []) (X := [0, 0, 0, 0, 0, 0]) jIQ_161_138 rfl rfl rfl rfl ?_
  refine jT_eq (LN := [(7, (0, 4)), (5, (1, q1)), (0, (4, 0)), (1, (0, r7)), (2, (0, r8)), (3, (4, 1)), (4, (0, 0))]) (stN := [(1, 0), (0, 4), (4, 9)]) (hsN := [jzQ_16, (4, [(4, 13), (1, 1)], []), (8, [(4, 14), (4, 15)], []), jgh, jgh, jgh, jgh, jgh, jgh, (101, [], [q1, -r7, -r8, 0, 0, 0]), jgh, jgh, jgh, (101, [], [0, 0, 0, 0, 0, 0]), jgh, jgh]) rfl rfl rfl ?_
  refine jT_xaload_n (v := (4, 0)) (pcN := 140) jIQ_161_139 rfl rfl rfl ?_
  refine jT_xgetf (a := 0) (t := 1) (ci := 13) (fi := 7) (c := jzQ_16) (v := (4, 9)) (pcN := 143) jIQ_161_140 rfl rfl rfl rfl rfl rfl rfl ?_
  refine jT_xiload (v := (0, 4)) (pcN := 145) jIQ_161_143 rfl rfl rfl ?_
  refine jT_lald (x := 0) (a := 9) (j := 4) (fs := []) (X := [q1, -r7, -r8, 0, 0, 0]) jIQ_161_145 rfl rfl rfl rfl ?_
  refine jT_eq (LN := [(7, (0, 4)), (5, (1, q1)), (0, (4, 0)), (1, (0, r7)), (2, (0, r8)), (3, (4, 1)), (4, (0, 0))]) (stN := [(1, 0), (1, 0), (0, 4), (4, 9)]) (hsN := [jzQ_16, (4, [(4, 13), (1, 1)], []), (8, [(4, 14), (4, 15)], []), jgh, jgh, jgh, jgh, jgh, jgh, (101, [], [q1, -r7, -r8, 0, 0, 0]), jgh, jgh, jgh, (101, [], [0, 0, 0, 0, 0, 0]), jgh, jgh]) rfl rfl rfl ?_
  refine jT_xaload_n (v := (4, 1)) (pcN := 147) jIQ_161_146 rfl rfl rfl ?_
  refine jT_xgetf (a := 1) (t := 2) (ci := 4) (fi := 1) (c := (4, [(4, 13), (1, 1)], [])) (v := (1, 1)) (pcN := 150) jIQ_161_147 rfl rfl rfl rfl rfl rfl rfl ?_
  refine jT_xlmul (x := 0) (y := 1) (z := 0) (pcN := 151) jIQ_161_150 rfl (by decide) rfl ?_
  refine jT_xlsub (x := 0) (y := 0) (z := 0) (pcN := 152) jIQ_161_151 rfl (by decide) rfl ?_
  refine jT_adv 1 (pcN := 153) (LN := [(7, (0, 4)), (5, (1, q1)), (0, (4, 0)), (1, (0, r7)), (2, (0, r8)), (3, (4, 1)), (4, (0, 0))]) (stN := []) (hsN := [jzQ_16, (4, [(4, 13), (1, 1)], []), (8, [(4, 14), (4, 15)], []), jgh, jgh, jgh, jgh, jgh, jgh, (101, [], [q1, -r7, -r8, 0, 0, 0]), jgh, jgh, jgh, (101, [], [0, 0, 0, 0, 0, 0]), jgh, jgh]) (c1 := 0) (s1 := 0) (c2 := 0) (s2 := 0) (by exact rfl) ?_ (by omega) (by omega)
  refine jT_xiinc (x := 4) (z := 5) (LN := [(7, (0, 5)), (5, (1, q1)), (0, (4, 0)), (1, (0, r7)), (2, (0, r8)), (3, (4, 1)), (4, (0, 0))]) (pcN := 156) jIQ_161_153 rfl rfl (by decide) rfl rfl ?_
  refine jT_xgoto (pcN := 119) jIQ_161_156 rfl ?_
  refine jT_xiload (v := (0, 5)) (pcN := 121) jIQ_161_119 rfl rfl rfl ?_
  refine jT_xbipush (k := 6) (pcN := 123) jIQ_161_121 (by decide) rfl ?_
  refine jT_xicF (t := 159) (pcN := 126) jIQ_161_123 rfl (by decide +kernel) rfl rfl ?_
  refine jT_xaload_n (v := (4, 0)) (pcN := 127) jIQ_161_126 rfl rfl rfl ?_
  refine jT_xgetf (a := 0) (t := 1) (ci := 13) (fi := 7) (c := jzQ_16) (v := (4, 9)) (pcN := 130) jIQ_161_127 rfl rfl rfl rfl rfl rfl rfl ?_
  refine jT_xiload (v := (0, 5)) (pcN := 132) jIQ_161_130 rfl rfl rfl ?_
  refine jT_xaload_n (v := (4, 1)) (pcN := 133) jIQ_161_132 rfl rfl rfl ?_
  refine jT_xgetf (a := 1) (t := 2) (ci := 4) (fi := 0) (c := (4, [(4, 13), (1, 1)], [])) (v := (4, 13)) (pcN := 136) jIQ_161_133 rfl rfl rfl rfl rfl rfl rfl ?_
  refine jT_xiload (v := (0, 5)) (pcN := 138) jIQ_161_136 rfl rfl rfl ?_
  refine jT_lald (x := 0) (a := 13) (j := 5) (fs := []) (X := [0, 0, 0, 0, 0, 0]) jIQ_161_138 rfl rfl rfl rfl ?_
  refine jT_eq (LN := [(7, (0, 5)), (5, (1, q1)), (0, (4, 0)), (1, (0, r7)), (2, (0, r8)), (3, (4, 1)), (4, (0, 0))]) (stN := [(1, 0), (0, 5), (4, 9)]) (hsN := [jzQ_16, (4, [(4, 13), (1, 1)], []), (8, [(4, 14), (4, 15)], []), jgh, jgh, jgh, jgh, jgh, jgh, (101, [], [q1, -r7, -r8, 0, 0, 0]), jgh, jgh, jgh, (101, [], [0, 0, 0, 0, 0, 0]), jgh, jgh]) rfl rfl rfl ?_
  refine jT_xaload_n (v := (4, 0)) (pcN := 140) jIQ_161_139 rfl rfl rfl ?_
  refine jT_xgetf (a := 0) (t := 1) (ci := 13) (fi := 7) (c := jzQ_16) (v := (4, 9)) (pcN := 143) jIQ_161_140 rfl rfl rfl rfl rfl rfl rfl ?_
  refine jT_xiload (v := (0, 5)) (pcN := 145) jIQ_161_143 rfl rfl rfl ?_
  refine jT_lald (x := 0) (a := 9) (j := 5) (fs := []) (X := [q1, -r7, -r8, 0, 0, 0]) jIQ_161_145 rfl rfl rfl rfl ?_
  refine jT_eq (LN := [(7, (0, 5)), (5, (1, q1)), (0, (4, 0)), (1, (0, r7)), (2, (0, r8)), (3, (4, 1)), (4, (0, 0))]) (stN := [(1, 0), (1, 0), (0, 5), (4, 9)]) (hsN := [jzQ_16, (4, [(4, 13), (1, 1)], []), (8, [(4, 14), (4, 15)], []), jgh, jgh, jgh, jgh, jgh, jgh, (101, [], [q1, -r7, -r8, 0, 0, 0]), jgh, jgh, jgh, (101, [], [0, 0, 0, 0, 0, 0]), jgh, jgh]) rfl rfl rfl ?_
  refine jT_xaload_n (v := (4, 1)) (pcN := 147) jIQ_161_146 rfl rfl rfl ?_
  refine jT_xgetf (a := 1) (t := 2) (ci := 4) (fi := 1) (c := (4, [(4, 13), (1, 1)], [])) (v := (1, 1)) (pcN := 150) jIQ_161_147 rfl rfl rfl rfl rfl rfl rfl ?_
  refine jT_xlmul (x := 0) (y := 1) (z := 0) (pcN := 151) jIQ_161_150 rfl (by decide) rfl ?_
  refine jT_xlsub (x := 0) (y := 0) (z := 0) (pcN := 152) jIQ_161_151 rfl (by decide) rfl ?_
  refine jT_adv 1 (pcN := 153) (LN := [(7, (0, 5)), (5, (1, q1)), (0, (4, 0)), (1, (0, r7)), (2, (0, r8)), (3, (4, 1)), (4, (0, 0))]) (stN := []) (hsN := [jzQ_16, (4, [(4, 13), (1, 1)], []), (8, [(4, 14), (4, 15)], []), jgh, jgh, jgh, jgh, jgh, jgh, (101, [], [q1, -r7, -r8, 0, 0, 0]), jgh, jgh, jgh, (101, [], [0, 0, 0, 0, 0, 0]), jgh, jgh]) (c1 := 0) (s1 := 0) (c2 := 0) (s2 := 0) (by exact rfl) ?_ (by omega) (by omega)
  refine jT_xiinc (x := 5) (z := 6) (LN := [(7, (0, 6)), (5, (1, q1)), (0, (4, 0)), (1, (0, r7)), (2, (0, r8)), (3, (4, 1)), (4, (0, 0))]) (pcN := 156) jIQ_161_153 rfl rfl (by decide) rfl rfl ?_
  refine jT_xgoto (pcN := 119) jIQ_161_156 rfl ?_
  refine jT_xiload (v := (0, 6)) (pcN := 121) jIQ_161_119 rfl rfl rfl ?_
  refine jT_xbipush (k := 6) (pcN := 123) jIQ_161_121 (by decide) rfl ?_
  refine jT_xicT (pcN := 159) jIQ_161_123 rfl (by decide +kernel) rfl ?_
  refine jT_xaload_n (v := (4, 0)) (pcN := 160) jIQ_161_159 rfl rfl rfl ?_
  refine jT_xgetf (a := 0) (t := 1) (ci := 13) (fi := 0) (c := jzQ_16) (v := (4, 2)) (pcN := 163) jIQ_161_160 rfl rfl rfl rfl rfl rfl rfl ?_
  refine jT_xaload_n (v := (4, 0)) (pcN := 164) jIQ_161_163 rfl rfl rfl ?_
  refine jT_xgetf (a := 0) (t := 1) (ci := 13) (fi := 7) (c := jzQ_16) (v := (4, 9)) (pcN := 167) jIQ_161_164 rfl rfl rfl rfl rfl rfl rfl ?_
  refine jT_callA [2, 9, 14, 15] (y := 38) (pcN := 170) (dC := 1) (bc1 := 0) (bc2 := 0) (c1 := 0) (c2 := 0) (as := [(4, 2), (4, 9)]) (asC := [(4, 0), (4, 1)]) (LN := [(7, (0, 6)), (5, (1, q1)), (0, (4, 0)), (1, (0, r7)), (2, (0, r8)), (3, (4, 1)), (4, (0, 0))]) (stN := []) (hsC := [(8, [(4, 2), (4, 3)], []), (101, [], [q1, -r7, -r8, 0, 0, 0]), jgh, jgh]) (ex := []) (v := (0, (-1))) (st2 := [(0, (-1))]) (hs2 := [jzQ_16, (4, [(4, 13), (1, 1)], []), (8, [(4, 14), (4, 15)], []), jgh, jgh, jgh, jgh, jgh, jgh, (101, [], [q1, -r7, -r8, 0, 0, 0]), jgh, jgh, jgh, (101, [], [0, 0, 0, 0, 0, 0]), jgh, jgh]) (jQl_sp38_117 (d := 0) (by omega) (by omega) (by omega) (by omega) (by omega) (by omega) (by omega)) (by rfl) (by rfl) (by rfl) (by rfl) ⟨rfl, rfl, rfl, rfl, trivial⟩ (by rfl) (by rfl) (by omega) (by show 16 ≤ 16; omega) (by omega) (by omega) rfl rfl ?_
  refine jT_xifT (pcN := 177) jIQ_161_170 rfl (by decide +kernel) rfl ?_
  refine jT_xiconst (k := 0) (pcN := 178) jIQ_161_177 rfl ?_
  subst hq_q1
  exact jT_ret rfl (by decide) (by show 16 ≤ 16; omega) (by omega) (by omega) ⟨rfl, rfl, rfl⟩
theorem jQ_161_318 {xs : List Int} {d : Nat} {r7 r8 u11_0 u11_1 u11_2 u11_3 u11_4 u11_5 : Int} (h_r7 : (-20) ≤ r7 ∧ r7 ≤ 20) (h_r8 : (-10) ≤ r8 ∧ r8 ≤ 10) (g_0 : r7 < 0) : jT xs (d + 2) 161 16 0 [(0, (4, 0)), (1, (0, r7)), (2, (0, r8)), (3, (4, 1)), (4, (0, 0))] [] [jzQ_16, (4, [(4, 13), (1, 1)], []), (8, [(4, 14), (4, 15)], []), jgh, jgh, jgh, jgh, jgh, jgh, (101, [], [u11_0, u11_1, u11_2, u11_3, u11_4, u11_5]), jgh, jgh, jgh, (101, [], [0, 0, 0, 0, 0, 0]), jgh, jgh] 0 0 (fun k v hsN => k = 0 ∧ v = (0, 0) ∧ hsN = [jzQ_16, (4, [(4, 13), (1, 1)], []), (8, [(4, 14), (4, 15)], []), jgh, jgh, jgh, jgh, jgh, jgh, (101, [], [(108917793695 * r7 + 159561683699 * r8) / 68719476736, -r7, -r8, 0, 0, 0]), jgh, jgh, jgh, (101, [], [0, 0, 0, 0, 0, 0]), jgh, jgh]) := by
  refine jT_xiload_n (v := (0, r7)) (pcN := 1) jIQ_161_0 rfl rfl rfl ?_
  refine jT_ifT (a := r7) (t := 10) (by rfl) (by rfl) (by rfl) (jw_idd (by omega) (by omega)) (by simp only [jcP] <;> omega) ?_
  refine jT_xiconst (k := 0) (pcN := 11) jIQ_161_10 rfl ?_
  refine jT_xistore (v := (0, 0)) (LN := [(5, (0, 0)), (0, (4, 0)), (1, (0, r7)), (2, (0, r8)), (3, (4, 1)), (4, (0, 0))]) (pcN := 13) jIQ_161_11 rfl rfl rfl rfl ?_
  refine jT_xiload (v := (0, 0)) (pcN := 15) jIQ_161_13 rfl rfl rfl ?_
  refine jT_xbipush (k := 6) (pcN := 17) jIQ_161_15 (by decide) rfl ?_
  refine jT_xicF (t := 56) (pcN := 20) jIQ_161_17 rfl (by decide +kernel) rfl rfl ?_
  refine jT_xaload_n (v := (4, 0)) (pcN := 21) jIQ_161_20 rfl rfl rfl ?_
  refine jT_xgetf (a := 0) (t := 1) (ci := 13) (fi := 7) (c := jzQ_16) (v := (4, 9)) (pcN := 24) jIQ_161_21 rfl rfl rfl rfl rfl rfl rfl ?_
  refine jT_xiload (v := (0, 0)) (pcN := 26) jIQ_161_24 rfl rfl rfl ?_
  refine jT_xiload (v := (0, 0)) (pcN := 28) jIQ_161_26 rfl rfl rfl ?_
  refine jT_xiconst (k := 1) (pcN := 29) jIQ_161_28 rfl ?_
  refine jT_xicT (pcN := 37) jIQ_161_29 rfl (by decide +kernel) rfl ?_
  refine jT_xiload (v := (0, 0)) (pcN := 39) jIQ_161_37 rfl rfl rfl ?_
  refine jT_xiconst (k := 2) (pcN := 40) jIQ_161_39 rfl ?_
  refine jT_xicT (pcN := 48) jIQ_161_40 rfl (by decide +kernel) rfl ?_
  refine jT_xlconst (z := 0) (pcN := 49) jIQ_161_48 rfl rfl ?_
  refine jT_adv 1 (pcN := 50) (LN := [(5, (0, 0)), (0, (4, 0)), (1, (0, r7)), (2, (0, r8)), (3, (4, 1)), (4, (0, 0))]) (stN := []) (hsN := [jzQ_16, (4, [(4, 13), (1, 1)], []), (8, [(4, 14), (4, 15)], []), jgh, jgh, jgh, jgh, jgh, jgh, (101, [], [0, u11_1, u11_2, u11_3, u11_4, u11_5]), jgh, jgh, jgh, (101, [], [0, 0, 0, 0, 0, 0]), jgh, jgh]) (c1 := 0) (s1 := 0) (c2 := 0) (s2 := 0) (by exact rfl) ?_ (by omega) (by omega)
  refine jT_xiinc (x := 0) (z := 1) (LN := [(5, (0, 1)), (0, (4, 0)), (1, (0, r7)), (2, (0, r8)), (3, (4, 1)), (4, (0, 0))]) (pcN := 53) jIQ_161_50 rfl rfl (by decide) rfl rfl ?_
  refine jT_xgoto (pcN := 13) jIQ_161_53 rfl ?_
  refine jT_xiload (v := (0, 1)) (pcN := 15) jIQ_161_13 rfl rfl rfl ?_
  refine jT_xbipush (k := 6) (pcN := 17) jIQ_161_15 (by decide) rfl ?_
  refine jT_xicF (t := 56) (pcN := 20) jIQ_161_17 rfl (by decide +kernel) rfl rfl ?_
  refine jT_xaload_n (v := (4, 0)) (pcN := 21) jIQ_161_20 rfl rfl rfl ?_
  refine jT_xgetf (a := 0) (t := 1) (ci := 13) (fi := 7) (c := jzQ_16) (v := (4, 9)) (pcN := 24) jIQ_161_21 rfl rfl rfl rfl rfl rfl rfl ?_
  refine jT_xiload (v := (0, 1)) (pcN := 26) jIQ_161_24 rfl rfl rfl ?_
  refine jT_xiload (v := (0, 1)) (pcN := 28) jIQ_161_26 rfl rfl rfl ?_
  refine jT_xiconst (k := 1) (pcN := 29) jIQ_161_28 rfl ?_
  refine jT_xicF (t := 37) (pcN := 32) jIQ_161_29 rfl (by decide +kernel) rfl rfl ?_
  refine jT_xiload_n (v := (0, r7)) (pcN := 33) jIQ_161_32 rfl rfl rfl ?_
  refine jT_xi2l (x := r7) (z := r7) (pcN := 34) jIQ_161_33 rfl (jw_idd (by omega) (by omega)) rfl ?_
  refine jT_xgoto (pcN := 49) jIQ_161_34 rfl ?_
  refine jT_adv 1 (pcN := 50) (LN := [(5, (0, 1)), (0, (4, 0)), (1, (0, r7)), (2, (0, r8)), (3, (4, 1)), (4, (0, 0))]) (stN := []) (hsN := [jzQ_16, (4, [(4, 13), (1, 1)], []), (8, [(4, 14), (4, 15)], []), jgh, jgh, jgh, jgh, jgh, jgh, (101, [], [0, r7, u11_2, u11_3, u11_4, u11_5]), jgh, jgh, jgh, (101, [], [0, 0, 0, 0, 0, 0]), jgh, jgh]) (c1 := 0) (s1 := 0) (c2 := 0) (s2 := 0) (by exact rfl) ?_ (by omega) (by omega)
  refine jT_xiinc (x := 1) (z := 2) (LN := [(5, (0, 2)), (0, (4, 0)), (1, (0, r7)), (2, (0, r8)), (3, (4, 1)), (4, (0, 0))]) (pcN := 53) jIQ_161_50 rfl rfl (by decide) rfl rfl ?_
  refine jT_xgoto (pcN := 13) jIQ_161_53 rfl ?_
  refine jT_xiload (v := (0, 2)) (pcN := 15) jIQ_161_13 rfl rfl rfl ?_
  refine jT_xbipush (k := 6) (pcN := 17) jIQ_161_15 (by decide) rfl ?_
  refine jT_xicF (t := 56) (pcN := 20) jIQ_161_17 rfl (by decide +kernel) rfl rfl ?_
  refine jT_xaload_n (v := (4, 0)) (pcN := 21) jIQ_161_20 rfl rfl rfl ?_
  refine jT_xgetf (a := 0) (t := 1) (ci := 13) (fi := 7) (c := jzQ_16) (v := (4, 9)) (pcN := 24) jIQ_161_21 rfl rfl rfl rfl rfl rfl rfl ?_
  refine jT_xiload (v := (0, 2)) (pcN := 26) jIQ_161_24 rfl rfl rfl ?_
  refine jT_xiload (v := (0, 2)) (pcN := 28) jIQ_161_26 rfl rfl rfl ?_
  refine jT_xiconst (k := 1) (pcN := 29) jIQ_161_28 rfl ?_
  refine jT_xicT (pcN := 37) jIQ_161_29 rfl (by decide +kernel) rfl ?_
  refine jT_xiload (v := (0, 2)) (pcN := 39) jIQ_161_37 rfl rfl rfl ?_
  refine jT_xiconst (k := 2) (pcN := 40) jIQ_161_39 rfl ?_
  refine jT_xicF (t := 48) (pcN := 43) jIQ_161_40 rfl (by decide +kernel) rfl rfl ?_
  refine jT_xiload_n (v := (0, r8)) (pcN := 44) jIQ_161_43 rfl rfl rfl ?_
  refine jT_xi2l (x := r8) (z := r8) (pcN := 45) jIQ_161_44 rfl (jw_idd (by omega) (by omega)) rfl ?_
  refine jT_xgoto (pcN := 49) jIQ_161_45 rfl ?_
  refine jT_adv 1 (pcN := 50) (LN := [(5, (0, 2)), (0, (4, 0)), (1, (0, r7)), (2, (0, r8)), (3, (4, 1)), (4, (0, 0))]) (stN := []) (hsN := [jzQ_16, (4, [(4, 13), (1, 1)], []), (8, [(4, 14), (4, 15)], []), jgh, jgh, jgh, jgh, jgh, jgh, (101, [], [0, r7, r8, u11_3, u11_4, u11_5]), jgh, jgh, jgh, (101, [], [0, 0, 0, 0, 0, 0]), jgh, jgh]) (c1 := 0) (s1 := 0) (c2 := 0) (s2 := 0) (by exact rfl) ?_ (by omega) (by omega)
  refine jT_xiinc (x := 2) (z := 3) (LN := [(5, (0, 3)), (0, (4, 0)), (1, (0, r7)), (2, (0, r8)), (3, (4, 1)), (4, (0, 0))]) (pcN := 53) jIQ_161_50 rfl rfl (by decide) rfl rfl ?_
  refine jT_xgoto (pcN := 13) jIQ_161_53 rfl ?_
  refine jT_xiload (v := (0, 3)) (pcN := 15) jIQ_161_13 rfl rfl rfl ?_
  refine jT_xbipush (k := 6) (pcN := 17) jIQ_161_15 (by decide) rfl ?_
  refine jT_xicF (t := 56) (pcN := 20) jIQ_161_17 rfl (by decide +kernel) rfl rfl ?_
  refine jT_xaload_n (v := (4, 0)) (pcN := 21) jIQ_161_20 rfl rfl rfl ?_
  refine jT_xgetf (a := 0) (t := 1) (ci := 13) (fi := 7) (c := jzQ_16) (v := (4, 9)) (pcN := 24) jIQ_161_21 rfl rfl rfl rfl rfl rfl rfl ?_
  refine jT_xiload (v := (0, 3)) (pcN := 26) jIQ_161_24 rfl rfl rfl ?_
  refine jT_xiload (v := (0, 3)) (pcN := 28) jIQ_161_26 rfl rfl rfl ?_
  refine jT_xiconst (k := 1) (pcN := 29) jIQ_161_28 rfl ?_
  refine jT_xicT (pcN := 37) jIQ_161_29 rfl (by decide +kernel) rfl ?_
  refine jT_xiload (v := (0, 3)) (pcN := 39) jIQ_161_37 rfl rfl rfl ?_
  refine jT_xiconst (k := 2) (pcN := 40) jIQ_161_39 rfl ?_
  refine jT_xicT (pcN := 48) jIQ_161_40 rfl (by decide +kernel) rfl ?_
  refine jT_xlconst (z := 0) (pcN := 49) jIQ_161_48 rfl rfl ?_
  refine jT_adv 1 (pcN := 50) (LN := [(5, (0, 3)), (0, (4, 0)), (1, (0, r7)), (2, (0, r8)), (3, (4, 1)), (4, (0, 0))]) (stN := []) (hsN := [jzQ_16, (4, [(4, 13), (1, 1)], []), (8, [(4, 14), (4, 15)], []), jgh, jgh, jgh, jgh, jgh, jgh, (101, [], [0, r7, r8, 0, u11_4, u11_5]), jgh, jgh, jgh, (101, [], [0, 0, 0, 0, 0, 0]), jgh, jgh]) (c1 := 0) (s1 := 0) (c2 := 0) (s2 := 0) (by exact rfl) ?_ (by omega) (by omega)
  refine jT_xiinc (x := 3) (z := 4) (LN := [(5, (0, 4)), (0, (4, 0)), (1, (0, r7)), (2, (0, r8)), (3, (4, 1)), (4, (0, 0))]) (pcN := 53) jIQ_161_50 rfl rfl (by decide) rfl rfl ?_
  refine jT_xgoto (pcN := 13) jIQ_161_53 rfl ?_
  refine jT_xiload (v := (0, 4)) (pcN := 15) jIQ_161_13 rfl rfl rfl ?_
  refine jT_xbipush (k := 6) (pcN := 17) jIQ_161_15 (by decide) rfl ?_
  refine jT_xicF (t := 56) (pcN := 20) jIQ_161_17 rfl (by decide +kernel) rfl rfl ?_
  refine jT_xaload_n (v := (4, 0)) (pcN := 21) jIQ_161_20 rfl rfl rfl ?_
  refine jT_xgetf (a := 0) (t := 1) (ci := 13) (fi := 7) (c := jzQ_16) (v := (4, 9)) (pcN := 24) jIQ_161_21 rfl rfl rfl rfl rfl rfl rfl ?_
  refine jT_xiload (v := (0, 4)) (pcN := 26) jIQ_161_24 rfl rfl rfl ?_
  refine jT_xiload (v := (0, 4)) (pcN := 28) jIQ_161_26 rfl rfl rfl ?_
  refine jT_xiconst (k := 1) (pcN := 29) jIQ_161_28 rfl ?_
  refine jT_xicT (pcN := 37) jIQ_161_29 rfl (by decide +kernel) rfl ?_
  refine jT_xiload (v := (0, 4)) (pcN := 39) jIQ_161_37 rfl rfl rfl ?_
  refine jT_xiconst (k := 2) (pcN := 40) jIQ_161_39 rfl ?_
  refine jT_xicT (pcN := 48) jIQ_161_40 rfl (by decide +kernel) rfl ?_
  refine jT_xlconst (z := 0) (pcN := 49) jIQ_161_48 rfl rfl ?_
  refine jT_adv 1 (pcN := 50) (LN := [(5, (0, 4)), (0, (4, 0)), (1, (0, r7)), (2, (0, r8)), (3, (4, 1)), (4, (0, 0))]) (stN := []) (hsN := [jzQ_16, (4, [(4, 13), (1, 1)], []), (8, [(4, 14), (4, 15)], []), jgh, jgh, jgh, jgh, jgh, jgh, (101, [], [0, r7, r8, 0, 0, u11_5]), jgh, jgh, jgh, (101, [], [0, 0, 0, 0, 0, 0]), jgh, jgh]) (c1 := 0) (s1 := 0) (c2 := 0) (s2 := 0) (by exact rfl) ?_ (by omega) (by omega)
  refine jT_xiinc (x := 4) (z := 5) (LN := [(5, (0, 5)), (0, (4, 0)), (1, (0, r7)), (2, (0, r8)), (3, (4, 1)), (4, (0, 0))]) (pcN := 53) jIQ_161_50 rfl rfl (by decide) rfl rfl ?_
  refine jT_xgoto (pcN := 13) jIQ_161_53 rfl ?_
  refine jT_xiload (v := (0, 5)) (pcN := 15) jIQ_161_13 rfl rfl rfl ?_
  refine jT_xbipush (k := 6) (pcN := 17) jIQ_161_15 (by decide) rfl ?_
  refine jT_xicF (t := 56) (pcN := 20) jIQ_161_17 rfl (by decide +kernel) rfl rfl ?_
  refine jT_xaload_n (v := (4, 0)) (pcN := 21) jIQ_161_20 rfl rfl rfl ?_
  refine jT_xgetf (a := 0) (t := 1) (ci := 13) (fi := 7) (c := jzQ_16) (v := (4, 9)) (pcN := 24) jIQ_161_21 rfl rfl rfl rfl rfl rfl rfl ?_
  refine jT_xiload (v := (0, 5)) (pcN := 26) jIQ_161_24 rfl rfl rfl ?_
  refine jT_xiload (v := (0, 5)) (pcN := 28) jIQ_161_26 rfl rfl rfl ?_
  refine jT_xiconst (k := 1) (pcN := 29) jIQ_161_28 rfl ?_
  refine jT_xicT (pcN := 37) jIQ_161_29 rfl (by decide +kernel) rfl ?_
  refine jT_xiload (v := (0, 5)) (pcN := 39) jIQ_161_37 rfl rfl rfl ?_
  refine jT_xiconst (k := 2) (pcN := 40) jIQ_161_39 rfl ?_
  refine jT_xicT (pcN := 48) jIQ_161_40 rfl (by decide +kernel) rfl ?_
  refine jT_xlconst (z := 0) (pcN := 49) jIQ_161_48 rfl rfl ?_
  refine jT_adv 1 (pcN := 50) (LN := [(5, (0, 5)), (0, (4, 0)), (1, (0, r7)), (2, (0, r8)), (3, (4, 1)), (4, (0, 0))]) (stN := []) (hsN := [jzQ_16, (4, [(4, 13), (1, 1)], []), (8, [(4, 14), (4, 15)], []), jgh, jgh, jgh, jgh, jgh, jgh, (101, [], [0, r7, r8, 0, 0, 0]), jgh, jgh, jgh, (101, [], [0, 0, 0, 0, 0, 0]), jgh, jgh]) (c1 := 0) (s1 := 0) (c2 := 0) (s2 := 0) (by exact rfl) ?_ (by omega) (by omega)
  refine jT_xiinc (x := 5) (z := 6) (LN := [(5, (0, 6)), (0, (4, 0)), (1, (0, r7)), (2, (0, r8)), (3, (4, 1)), (4, (0, 0))]) (pcN := 53) jIQ_161_50 rfl rfl (by decide) rfl rfl ?_
  refine jT_xgoto (pcN := 13) jIQ_161_53 rfl ?_
  refine jT_xiload (v := (0, 6)) (pcN := 15) jIQ_161_13 rfl rfl rfl ?_
  refine jT_xbipush (k := 6) (pcN := 17) jIQ_161_15 (by decide) rfl ?_
  refine jT_xicT (pcN := 56) jIQ_161_17 rfl (by decide +kernel) rfl ?_
  refine jT_xaload_n (v := (4, 0)) (pcN := 57) jIQ_161_56 rfl rfl rfl ?_
  refine jT_xgetf (a := 0) (t := 1) (ci := 13) (fi := 0) (c := jzQ_16) (v := (4, 2)) (pcN := 60) jIQ_161_57 rfl rfl rfl rfl rfl rfl rfl ?_
  refine jT_xaload_n (v := (4, 0)) (pcN := 61) jIQ_161_60 rfl rfl rfl ?_
  refine jT_xgetf (a := 0) (t := 1) (ci := 13) (fi := 7) (c := jzQ_16) (v := (4, 9)) (pcN := 64) jIQ_161_61 rfl rfl rfl rfl rfl rfl rfl ?_
  refine jT_xlconst (z := 1) (pcN := 65) jIQ_161_64 rfl rfl ?_
  refine jT_xlconst (z := 1) (pcN := 66) jIQ_161_65 rfl rfl ?_
  refine jT_callA [2, 9, 14, 15] (y := 45) (pcN := 69) (dC := 1) (bc1 := 0) (bc2 := 0) (c1 := 0) (c2 := 0) (as := [(4, 2), (4, 9), (1, 1), (1, 1)]) (asC := [(4, 0), (4, 1), (1, 1), (1, 1)]) (LN := [(5, (0, 6)), (0, (4, 0)), (1, (0, r7)), (2, (0, r8)), (3, (4, 1)), (4, (0, 0))]) (stN := []) (hsC := [(8, [(4, 2), (4, 3)], []), (101, [], [0, r7, r8, 0, 0, 0]), jgh, jgh]) (ex := []) (v := (1, (108917793695 * r7 + 159561683699 * r8) / 68719476736)) (st2 := [(1, (108917793695 * r7 + 159561683699 * r8) / 68719476736)]) (hs2 := [jzQ_16, (4, [(4, 13), (1, 1)], []), (8, [(4, 14), (4, 15)], []), jgh, jgh, jgh, jgh, jgh, jgh, (101, [], [0, r7, r8, 0, 0, 0]), jgh, jgh, jgh, (101, [], [0, 0, 0, 0, 0, 0]), jgh, jgh]) (jQl_sp45_116 (d := 0) (by omega) (by omega)) (by rfl) (by rfl) (by rfl) (by rfl) ⟨rfl, rfl, rfl, rfl, trivial⟩ (by rfl) (by rfl) (by omega) (by show 16 ≤ 16; omega) (by omega) (by omega) rfl rfl ?_
  have hb_q1 : (-60) ≤ (108917793695 * r7 + 159561683699 * r8) / 68719476736 ∧ (108917793695 * r7 + 159561683699 * r8) / 68719476736 ≤ 60 := ⟨by omega, by omega⟩
  generalize hq_q1 : (108917793695 * r7 + 159561683699 * r8) / 68719476736 = q1 at hb_q1 ⊢
  refine jT_xlstore (v := (1, q1)) (LN := [(5, (1, q1)), (0, (4, 0)), (1, (0, r7)), (2, (0, r8)), (3, (4, 1)), (4, (0, 0))]) (pcN := 71) jIQ_161_69 rfl rfl rfl rfl ?_
  have g_1 : 0 ≤ (-68719476736) * q1 + 108917793694 * r7 + 159561683698 * r8 - 1 := by have := jcg (b := r7) (c := r8) (by omega) (by omega) (by omega); rw [hq_q1] at this; omega
  have g_2 : 0 ≤ (-68719476736) * q1 + 108917793694 * r7 + 159561683700 * r8 - 1 := by have := jcg (b := r7) (c := r8) (by omega) (by omega) (by omega); rw [hq_q1] at this; omega
  have g_3 : 0 ≤ (-68719476736) * q1 + 108917793696 * r7 + 159561683698 * r8 - 1 := by have := jcg (b := r7) (c := r8) (by omega) (by omega) (by omega); rw [hq_q1] at this; omega
  have g_4 : 0 ≤ (-68719476736) * q1 + 108917793696 * r7 + 159561683700 * r8 - 1 := by have := jcg (b := r7) (c := r8) (by omega) (by omega) (by omega); rw [hq_q1] at this; omega
  refine jT_xiload (v := (0, 0)) (pcN := 73) jIQ_161_71 rfl rfl rfl ?_
  refine jT_xifT (pcN := 107) jIQ_161_73 rfl (by decide +kernel) rfl ?_
  refine jT_xaload_n (v := (4, 0)) (pcN := 108) jIQ_161_107 rfl rfl rfl ?_
  refine jT_xgetf (a := 0) (t := 1) (ci := 13) (fi := 7) (c := jzQ_16) (v := (4, 9)) (pcN := 111) jIQ_161_108 rfl rfl rfl rfl rfl rfl rfl ?_
  refine jT_xiconst (k := 0) (pcN := 112) jIQ_161_111 rfl ?_
  refine jT_xlload (v := (1, q1)) (pcN := 114) jIQ_161_112 rfl rfl rfl ?_
  refine jT_adv 2 (pcN := 116) (LN := [(5, (1, q1)), (0, (4, 0)), (1, (0, r7)), (2, (0, r8)), (3, (4, 1)), (4, (0, 0))]) (stN := []) (hsN := [jzQ_16, (4, [(4, 13), (1, 1)], []), (8, [(4, 14), (4, 15)], []), jgh, jgh, jgh, jgh, jgh, jgh, (101, [], [-q1, r7, r8, 0, 0, 0]), jgh, jgh, jgh, (101, [], [0, 0, 0, 0, 0, 0]), jgh, jgh]) (c1 := 0) (s1 := 0) (c2 := 0) (s2 := 0) (by exact rfl) ?_ (by omega) (by omega)
  refine jT_xiconst (k := 0) (pcN := 117) jIQ_161_116 rfl ?_
  refine jT_xistore (v := (0, 0)) (LN := [(7, (0, 0)), (5, (1, q1)), (0, (4, 0)), (1, (0, r7)), (2, (0, r8)), (3, (4, 1)), (4, (0, 0))]) (pcN := 119) jIQ_161_117 rfl rfl rfl rfl ?_
  refine jT_xiload (v := (0, 0)) (pcN := 121) jIQ_161_119 rfl rfl rfl ?_
  refine jT_xbipush (k := 6) (pcN := 123) jIQ_161_121 (by decide) rfl ?_
  refine jT_xicF (t := 159) (pcN := 126) jIQ_161_123 rfl (by decide +kernel) rfl rfl ?_
  refine jT_xaload_n (v := (4, 0)) (pcN := 127) jIQ_161_126 rfl rfl rfl ?_
  refine jT_xgetf (a := 0) (t := 1) (ci := 13) (fi := 7) (c := jzQ_16) (v := (4, 9)) (pcN := 130) jIQ_161_127 rfl rfl rfl rfl rfl rfl rfl ?_
  refine jT_xiload (v := (0, 0)) (pcN := 132) jIQ_161_130 rfl rfl rfl ?_
  refine jT_xaload_n (v := (4, 1)) (pcN := 133) jIQ_161_132 rfl rfl rfl ?_
  refine jT_xgetf (a := 1) (t := 2) (ci := 4) (fi := 0) (c := (4, [(4, 13), (1, 1)], [])) (v := (4, 13)) (pcN := 136) jIQ_161_133 rfl rfl rfl rfl rfl rfl rfl ?_
  refine jT_xiload (v := (0, 0)) (pcN := 138) jIQ_161_136 rfl rfl rfl ?_
  refine jT_lald (x := 0) (a := 13) (j := 0) (fs := []) (X := [0, 0, 0, 0, 0, 0]) jIQ_161_138 rfl rfl rfl rfl ?_
  refine jT_eq (LN := [(7, (0, 0)), (5, (1, q1)), (0, (4, 0)), (1, (0, r7)), (2, (0, r8)), (3, (4, 1)), (4, (0, 0))]) (stN := [(1, 0), (0, 0), (4, 9)]) (hsN := [jzQ_16, (4, [(4, 13), (1, 1)], []), (8, [(4, 14), (4, 15)], []), jgh, jgh, jgh, jgh, jgh, jgh, (101, [], [-q1, r7, r8, 0, 0, 0]), jgh, jgh, jgh, (101, [], [0, 0, 0, 0, 0, 0]), jgh, jgh]) rfl rfl rfl ?_
  refine jT_xaload_n (v := (4, 0)) (pcN := 140) jIQ_161_139 rfl rfl rfl ?_
  refine jT_xgetf (a := 0) (t := 1) (ci := 13) (fi := 7) (c := jzQ_16) (v := (4, 9)) (pcN := 143) jIQ_161_140 rfl rfl rfl rfl rfl rfl rfl ?_
  refine jT_xiload (v := (0, 0)) (pcN := 145) jIQ_161_143 rfl rfl rfl ?_
  refine jT_lald (x := -q1) (a := 9) (j := 0) (fs := []) (X := [-q1, r7, r8, 0, 0, 0]) jIQ_161_145 rfl rfl rfl rfl ?_
  refine jT_eq (LN := [(7, (0, 0)), (5, (1, q1)), (0, (4, 0)), (1, (0, r7)), (2, (0, r8)), (3, (4, 1)), (4, (0, 0))]) (stN := [(1, -q1), (1, 0), (0, 0), (4, 9)]) (hsN := [jzQ_16, (4, [(4, 13), (1, 1)], []), (8, [(4, 14), (4, 15)], []), jgh, jgh, jgh, jgh, jgh, jgh, (101, [], [-q1, r7, r8, 0, 0, 0]), jgh, jgh, jgh, (101, [], [0, 0, 0, 0, 0, 0]), jgh, jgh]) rfl rfl rfl ?_
  refine jT_xaload_n (v := (4, 1)) (pcN := 147) jIQ_161_146 rfl rfl rfl ?_
  refine jT_xgetf (a := 1) (t := 2) (ci := 4) (fi := 1) (c := (4, [(4, 13), (1, 1)], [])) (v := (1, 1)) (pcN := 150) jIQ_161_147 rfl rfl rfl rfl rfl rfl rfl ?_
  refine jT_xlmul (x := -q1) (y := 1) (z := -q1) (pcN := 151) jIQ_161_150 rfl (by omega) rfl ?_
  refine jT_xlsub (x := 0) (y := -q1) (z := q1) (pcN := 152) jIQ_161_151 rfl (by omega) rfl ?_
  refine jT_adv 1 (pcN := 153) (LN := [(7, (0, 0)), (5, (1, q1)), (0, (4, 0)), (1, (0, r7)), (2, (0, r8)), (3, (4, 1)), (4, (0, 0))]) (stN := []) (hsN := [jzQ_16, (4, [(4, 13), (1, 1)], []), (8, [(4, 14), (4, 15)], []), jgh, jgh, jgh, jgh, jgh, jgh, (101, [], [q1, r7, r8, 0, 0, 0]), jgh, jgh, jgh, (101, [], [0, 0, 0, 0, 0, 0]), jgh, jgh]) (c1 := 0) (s1 := 0) (c2 := 0) (s2 := 0) (by exact rfl) ?_ (by omega) (by omega)
  refine jT_xiinc (x := 0) (z := 1) (LN := [(7, (0, 1)), (5, (1, q1)), (0, (4, 0)), (1, (0, r7)), (2, (0, r8)), (3, (4, 1)), (4, (0, 0))]) (pcN := 156) jIQ_161_153 rfl rfl (by decide) rfl rfl ?_
  refine jT_xgoto (pcN := 119) jIQ_161_156 rfl ?_
  refine jT_xiload (v := (0, 1)) (pcN := 121) jIQ_161_119 rfl rfl rfl ?_
  refine jT_xbipush (k := 6) (pcN := 123) jIQ_161_121 (by decide) rfl ?_
  refine jT_xicF (t := 159) (pcN := 126) jIQ_161_123 rfl (by decide +kernel) rfl rfl ?_
  refine jT_xaload_n (v := (4, 0)) (pcN := 127) jIQ_161_126 rfl rfl rfl ?_
  refine jT_xgetf (a := 0) (t := 1) (ci := 13) (fi := 7) (c := jzQ_16) (v := (4, 9)) (pcN := 130) jIQ_161_127 rfl rfl rfl rfl rfl rfl rfl ?_
  refine jT_xiload (v := (0, 1)) (pcN := 132) jIQ_161_130 rfl rfl rfl ?_
  refine jT_xaload_n (v := (4, 1)) (pcN := 133) jIQ_161_132 rfl rfl rfl ?_
  refine jT_xgetf (a := 1) (t := 2) (ci := 4) (fi := 0) (c := (4, [(4, 13), (1, 1)], [])) (v := (4, 13)) (pcN := 136) jIQ_161_133 rfl rfl rfl rfl rfl rfl rfl ?_
  refine jT_xiload (v := (0, 1)) (pcN := 138) jIQ_161_136 rfl rfl rfl ?_
  refine jT_lald (x := 0) (a := 13) (j := 1) (fs := []) (X := [0, 0, 0, 0, 0, 0]) jIQ_161_138 rfl rfl rfl rfl ?_
  refine jT_eq (LN := [(7, (0, 1)), (5, (1, q1)), (0, (4, 0)), (1, (0, r7)), (2, (0, r8)), (3, (4, 1)), (4, (0, 0))]) (stN := [(1, 0), (0, 1), (4, 9)]) (hsN := [jzQ_16, (4, [(4, 13), (1, 1)], []), (8, [(4, 14), (4, 15)], []), jgh, jgh, jgh, jgh, jgh, jgh, (101, [], [q1, r7, r8, 0, 0, 0]), jgh, jgh, jgh, (101, [], [0, 0, 0, 0, 0, 0]), jgh, jgh]) rfl rfl rfl ?_
  refine jT_xaload_n (v := (4, 0)) (pcN := 140) jIQ_161_139 rfl rfl rfl ?_
  refine jT_xgetf (a := 0) (t := 1) (ci := 13) (fi := 7) (c := jzQ_16) (v := (4, 9)) (pcN := 143) jIQ_161_140 rfl rfl rfl rfl rfl rfl rfl ?_
  refine jT_xiload (v := (0, 1)) (pcN := 145) jIQ_161_143 rfl rfl rfl ?_
  refine jT_lald (x := r7) (a := 9) (j := 1) (fs := []) (X := [q1, r7, r8, 0, 0, 0]) jIQ_161_145 rfl rfl rfl rfl ?_
  refine jT_eq (LN := [(7, (0, 1)), (5, (1, q1)), (0, (4, 0)), (1, (0, r7)), (2, (0, r8)), (3, (4, 1)), (4, (0, 0))]) (stN := [(1, r7), (1, 0), (0, 1), (4, 9)]) (hsN := [jzQ_16, (4, [(4, 13), (1, 1)], []), (8, [(4, 14), (4, 15)], []), jgh, jgh, jgh, jgh, jgh, jgh, (101, [], [q1, r7, r8, 0, 0, 0]), jgh, jgh, jgh, (101, [], [0, 0, 0, 0, 0, 0]), jgh, jgh]) rfl rfl rfl ?_
  refine jT_xaload_n (v := (4, 1)) (pcN := 147) jIQ_161_146 rfl rfl rfl ?_
  refine jT_xgetf (a := 1) (t := 2) (ci := 4) (fi := 1) (c := (4, [(4, 13), (1, 1)], [])) (v := (1, 1)) (pcN := 150) jIQ_161_147 rfl rfl rfl rfl rfl rfl rfl ?_
  refine jT_xlmul (x := r7) (y := 1) (z := r7) (pcN := 151) jIQ_161_150 rfl (by omega) rfl ?_
  refine jT_xlsub (x := 0) (y := r7) (z := -r7) (pcN := 152) jIQ_161_151 rfl (by omega) rfl ?_
  refine jT_adv 1 (pcN := 153) (LN := [(7, (0, 1)), (5, (1, q1)), (0, (4, 0)), (1, (0, r7)), (2, (0, r8)), (3, (4, 1)), (4, (0, 0))]) (stN := []) (hsN := [jzQ_16, (4, [(4, 13), (1, 1)], []), (8, [(4, 14), (4, 15)], []), jgh, jgh, jgh, jgh, jgh, jgh, (101, [], [q1, -r7, r8, 0, 0, 0]), jgh, jgh, jgh, (101, [], [0, 0, 0, 0, 0, 0]), jgh, jgh]) (c1 := 0) (s1 := 0) (c2 := 0) (s2 := 0) (by exact rfl) ?_ (by omega) (by omega)
  refine jT_xiinc (x := 1) (z := 2) (LN := [(7, (0, 2)), (5, (1, q1)), (0, (4, 0)), (1, (0, r7)), (2, (0, r8)), (3, (4, 1)), (4, (0, 0))]) (pcN := 156) jIQ_161_153 rfl rfl (by decide) rfl rfl ?_
  refine jT_xgoto (pcN := 119) jIQ_161_156 rfl ?_
  refine jT_xiload (v := (0, 2)) (pcN := 121) jIQ_161_119 rfl rfl rfl ?_
  refine jT_xbipush (k := 6) (pcN := 123) jIQ_161_121 (by decide) rfl ?_
  refine jT_xicF (t := 159) (pcN := 126) jIQ_161_123 rfl (by decide +kernel) rfl rfl ?_
  refine jT_xaload_n (v := (4, 0)) (pcN := 127) jIQ_161_126 rfl rfl rfl ?_
  refine jT_xgetf (a := 0) (t := 1) (ci := 13) (fi := 7) (c := jzQ_16) (v := (4, 9)) (pcN := 130) jIQ_161_127 rfl rfl rfl rfl rfl rfl rfl ?_
  refine jT_xiload (v := (0, 2)) (pcN := 132) jIQ_161_130 rfl rfl rfl ?_
  refine jT_xaload_n (v := (4, 1)) (pcN := 133) jIQ_161_132 rfl rfl rfl ?_
  refine jT_xgetf (a := 1) (t := 2) (ci := 4) (fi := 0) (c := (4, [(4, 13), (1, 1)], [])) (v := (4, 13)) (pcN := 136) jIQ_161_133 rfl rfl rfl rfl rfl rfl rfl ?_
  refine jT_xiload (v := (0, 2)) (pcN := 138) jIQ_161_136 rfl rfl rfl ?_
  refine jT_lald (x := 0) (a := 13) (j := 2) (fs := []) (X := [0, 0, 0, 0, 0, 0]) jIQ_161_138 rfl rfl rfl rfl ?_
  refine jT_eq (LN := [(7, (0, 2)), (5, (1, q1)), (0, (4, 0)), (1, (0, r7)), (2, (0, r8)), (3, (4, 1)), (4, (0, 0))]) (stN := [(1, 0), (0, 2), (4, 9)]) (hsN := [jzQ_16, (4, [(4, 13), (1, 1)], []), (8, [(4, 14), (4, 15)], []), jgh, jgh, jgh, jgh, jgh, jgh, (101, [], [q1, -r7, r8, 0, 0, 0]), jgh, jgh, jgh, (101, [], [0, 0, 0, 0, 0, 0]), jgh, jgh]) rfl rfl rfl ?_
  refine jT_xaload_n (v := (4, 0)) (pcN := 140) jIQ_161_139 rfl rfl rfl ?_
  refine jT_xgetf (a := 0) (t := 1) (ci := 13) (fi := 7) (c := jzQ_16) (v := (4, 9)) (pcN := 143) jIQ_161_140 rfl rfl rfl rfl rfl rfl rfl ?_
  refine jT_xiload (v := (0, 2)) (pcN := 145) jIQ_161_143 rfl rfl rfl ?_
  refine jT_lald (x := r8) (a := 9) (j := 2) (fs := []) (X := [q1, -r7, r8, 0, 0, 0]) jIQ_161_145 rfl rfl rfl rfl ?_
  refine jT_eq (LN := [(7, (0, 2)), (5, (1, q1)), (0, (4, 0)), (1, (0, r7)), (2, (0, r8)), (3, (4, 1)), (4, (0, 0))]) (stN := [(1, r8), (1, 0), (0, 2), (4, 9)]) (hsN := [jzQ_16, (4, [(4, 13), (1, 1)], []), (8, [(4, 14), (4, 15)], []), jgh, jgh, jgh, jgh, jgh, jgh, (101, [], [q1, -r7, r8, 0, 0, 0]), jgh, jgh, jgh, (101, [], [0, 0, 0, 0, 0, 0]), jgh, jgh]) rfl rfl rfl ?_
  refine jT_xaload_n (v := (4, 1)) (pcN := 147) jIQ_161_146 rfl rfl rfl ?_
  refine jT_xgetf (a := 1) (t := 2) (ci := 4) (fi := 1) (c := (4, [(4, 13), (1, 1)], [])) (v := (1, 1)) (pcN := 150) jIQ_161_147 rfl rfl rfl rfl rfl rfl rfl ?_
  refine jT_xlmul (x := r8) (y := 1) (z := r8) (pcN := 151) jIQ_161_150 rfl (by omega) rfl ?_
  refine jT_xlsub (x := 0) (y := r8) (z := -r8) (pcN := 152) jIQ_161_151 rfl (by omega) rfl ?_
  refine jT_adv 1 (pcN := 153) (LN := [(7, (0, 2)), (5, (1, q1)), (0, (4, 0)), (1, (0, r7)), (2, (0, r8)), (3, (4, 1)), (4, (0, 0))]) (stN := []) (hsN := [jzQ_16, (4, [(4, 13), (1, 1)], []), (8, [(4, 14), (4, 15)], []), jgh, jgh, jgh, jgh, jgh, jgh, (101, [], [q1, -r7, -r8, 0, 0, 0]), jgh, jgh, jgh, (101, [], [0, 0, 0, 0, 0, 0]), jgh, jgh]) (c1 := 0) (s1 := 0) (c2 := 0) (s2 := 0) (by exact rfl) ?_ (by omega) (by omega)
  refine jT_xiinc (x := 2) (z := 3) (LN := [(7, (0, 3)), (5, (1, q1)), (0, (4, 0)), (1, (0, r7)), (2, (0, r8)), (3, (4, 1)), (4, (0, 0))]) (pcN := 156) jIQ_161_153 rfl rfl (by decide) rfl rfl ?_
  refine jT_xgoto (pcN := 119) jIQ_161_156 rfl ?_
  refine jT_xiload (v := (0, 3)) (pcN := 121) jIQ_161_119 rfl rfl rfl ?_
  refine jT_xbipush (k := 6) (pcN := 123) jIQ_161_121 (by decide) rfl ?_
  refine jT_xicF (t := 159) (pcN := 126) jIQ_161_123 rfl (by decide +kernel) rfl rfl ?_
  refine jT_xaload_n (v := (4, 0)) (pcN := 127) jIQ_161_126 rfl rfl rfl ?_
  refine jT_xgetf (a := 0) (t := 1) (ci := 13) (fi := 7) (c := jzQ_16) (v := (4, 9)) (pcN := 130) jIQ_161_127 rfl rfl rfl rfl rfl rfl rfl ?_
  refine jT_xiload (v := (0, 3)) (pcN := 132) jIQ_161_130 rfl rfl rfl ?_
  refine jT_xaload_n (v := (4, 1)) (pcN := 133) jIQ_161_132 rfl rfl rfl ?_
  refine jT_xgetf (a := 1) (t := 2) (ci := 4) (fi := 0) (c := (4, [(4, 13), (1, 1)], [])) (v := (4, 13)) (pcN := 136) jIQ_161_133 rfl rfl rfl rfl rfl rfl rfl ?_
  refine jT_xiload (v := (0, 3)) (pcN := 138) jIQ_161_136 rfl rfl rfl ?_
  refine jT_lald (x := 0) (a := 13) (j := 3) (fs := []) (X := [0, 0, 0, 0, 0, 0]) jIQ_161_138 rfl rfl rfl rfl ?_
  refine jT_eq (LN := [(7, (0, 3)), (5, (1, q1)), (0, (4, 0)), (1, (0, r7)), (2, (0, r8)), (3, (4, 1)), (4, (0, 0))]) (stN := [(1, 0), (0, 3), (4, 9)]) (hsN := [jzQ_16, (4, [(4, 13), (1, 1)], []), (8, [(4, 14), (4, 15)], []), jgh, jgh, jgh, jgh, jgh, jgh, (101, [], [q1, -r7, -r8, 0, 0, 0]), jgh, jgh, jgh, (101, [], [0, 0, 0, 0, 0, 0]), jgh, jgh]) rfl rfl rfl ?_
  refine jT_xaload_n (v := (4, 0)) (pcN := 140) jIQ_161_139 rfl rfl rfl ?_
  refine jT_xgetf (a := 0) (t := 1) (ci := 13) (fi := 7) (c := jzQ_16) (v := (4, 9)) (pcN := 143) jIQ_161_140 rfl rfl rfl rfl rfl rfl rfl ?_
  refine jT_xiload (v := (0, 3)) (pcN := 145) jIQ_161_143 rfl rfl rfl ?_
  refine jT_lald (x := 0) (a := 9) (j := 3) (fs := []) (X := [q1, -r7, -r8, 0, 0, 0]) jIQ_161_145 rfl rfl rfl rfl ?_
  refine jT_eq (LN := [(7, (0, 3)), (5, (1, q1)), (0, (4, 0)), (1, (0, r7)), (2, (0, r8)), (3, (4, 1)), (4, (0, 0))]) (stN := [(1, 0), (1, 0), (0, 3), (4, 9)]) (hsN := [jzQ_16, (4, [(4, 13), (1, 1)], []), (8, [(4, 14), (4, 15)], []), jgh, jgh, jgh, jgh, jgh, jgh, (101, [], [q1, -r7, -r8, 0, 0, 0]), jgh, jgh, jgh, (101, [], [0, 0, 0, 0, 0, 0]), jgh, jgh]) rfl rfl rfl ?_
  refine jT_xaload_n (v := (4, 1)) (pcN := 147) jIQ_161_146 rfl rfl rfl ?_
  refine jT_xgetf (a := 1) (t := 2) (ci := 4) (fi := 1) (c := (4, [(4, 13), (1, 1)], [])) (v := (1, 1)) (pcN := 150) jIQ_161_147 rfl rfl rfl rfl rfl rfl rfl ?_
  refine jT_xlmul (x := 0) (y := 1) (z := 0) (pcN := 151) jIQ_161_150 rfl (by decide) rfl ?_
  refine jT_xlsub (x := 0) (y := 0) (z := 0) (pcN := 152) jIQ_161_151 rfl (by decide) rfl ?_
  refine jT_adv 1 (pcN := 153) (LN := [(7, (0, 3)), (5, (1, q1)), (0, (4, 0)), (1, (0, r7)), (2, (0, r8)), (3, (4, 1)), (4, (0, 0))]) (stN := []) (hsN := [jzQ_16, (4, [(4, 13), (1, 1)], []), (8, [(4, 14), (4, 15)], []), jgh, jgh, jgh, jgh, jgh, jgh, (101, [], [q1, -r7, -r8, 0, 0, 0]), jgh, jgh, jgh, (101, [], [0, 0, 0, 0, 0, 0]), jgh, jgh]) (c1 := 0) (s1 := 0) (c2 := 0) (s2 := 0) (by exact rfl) ?_ (by omega) (by omega)
  refine jT_xiinc (x := 3) (z := 4) (LN := [(7, (0, 4)), (5, (1, q1)), (0, (4, 0)), (1, (0, r7)), (2, (0, r8)), (3, (4, 1)), (4, (0, 0))]) (pcN := 156) jIQ_161_153 rfl rfl (by decide) rfl rfl ?_
  refine jT_xgoto (pcN := 119) jIQ_161_156 rfl ?_
  refine jT_xiload (v := (0, 4)) (pcN := 121) jIQ_161_119 rfl rfl rfl ?_
  refine jT_xbipush (k := 6) (pcN := 123) jIQ_161_121 (by decide) rfl ?_
  refine jT_xicF (t := 159) (pcN := 126) jIQ_161_123 rfl (by decide +kernel) rfl rfl ?_
  refine jT_xaload_n (v := (4, 0)) (pcN := 127) jIQ_161_126 rfl rfl rfl ?_
  refine jT_xgetf (a := 0) (t := 1) (ci := 13) (fi := 7) (c := jzQ_16) (v := (4, 9)) (pcN := 130) jIQ_161_127 rfl rfl rfl rfl rfl rfl rfl ?_
  refine jT_xiload (v := (0, 4)) (pcN := 132) jIQ_161_130 rfl rfl rfl ?_
  refine jT_xaload_n (v := (4, 1)) (pcN := 133) jIQ_161_132 rfl rfl rfl ?_
  refine jT_xgetf (a := 1) (t := 2) (ci := 4) (fi := 0) (c := (4, [(4, 13), (1, 1)], [])) (v := (4, 13)) (pcN := 136) jIQ_161_133 rfl rfl rfl rfl rfl rfl rfl ?_
  refine jT_xiload (v := (0, 4)) (pcN := 138) jIQ_161_136 rfl rfl rfl ?_
  refine jT_lald (x := 0) (a := 13) (j := 4) (fs := []) (X := [0, 0, 0, 0, 0, 0]) jIQ_161_138 rfl rfl rfl rfl ?_
  refine jT_eq (LN := [(7, (0, 4)), (5, (1, q1)), (0, (4, 0)), (1, (0, r7)), (2, (0, r8)), (3, (4, 1)), (4, (0, 0))]) (stN := [(1, 0), (0, 4), (4, 9)]) (hsN := [jzQ_16, (4, [(4, 13), (1, 1)], []), (8, [(4, 14), (4, 15)], []), jgh, jgh, jgh, jgh, jgh, jgh, (101, [], [q1, -r7, -r8, 0, 0, 0]), jgh, jgh, jgh, (101, [], [0, 0, 0, 0, 0, 0]), jgh, jgh]) rfl rfl rfl ?_
  refine jT_xaload_n (v := (4, 0)) (pcN := 140) jIQ_161_139 rfl rfl rfl ?_
  refine jT_xgetf (a := 0) (t := 1) (ci := 13) (fi := 7) (c := jzQ_16) (v := (4, 9)) (pcN := 143) jIQ_161_140 rfl rfl rfl rfl rfl rfl rfl ?_
  refine jT_xiload (v := (0, 4)) (pcN := 145) jIQ_161_143 rfl rfl rfl ?_
  refine jT_lald (x := 0) (a := 9) (j := 4) (fs := []) (X := [q1, -r7, -r8, 0, 0, 0]) jIQ_161_145 rfl rfl rfl rfl ?_
  refine jT_eq (LN := [(7, (0, 4)), (5, (1, q1)), (0, (4, 0)), (1, (0, r7)), (2, (0, r8)), (3, (4, 1)), (4, (0, 0))]) (stN := [(1, 0), (1, 0), (0, 4), (4, 9)]) (hsN := [jzQ_16, (4, [(4, 13), (1, 1)], []), (8, [(4, 14), (4, 15)], []), jgh, jgh, jgh, jgh, jgh, jgh, (101, [], [q1, -r7, -r8, 0, 0, 0]), jgh, jgh, jgh, (101, [], [0, 0, 0, 0, 0, 0]), jgh, jgh]) rfl rfl rfl ?_
  refine jT_xaload_n (v := (4, 1)) (pcN := 147) jIQ_161_146 rfl rfl rfl ?_
  refine jT_xgetf (a := 1) (t := 2) (ci := 4) (fi := 1) (c := (4, [(4, 13), (1, 1)], [])) (v := (1, 1)) (pcN := 150) jIQ_161_147 rfl rfl rfl rfl rfl rfl rfl ?_
  refine jT_xlmul (x := 0) (y := 1) (z := 0) (pcN := 151) jIQ_161_150 rfl (by decide) rfl ?_
  refine jT_xlsub (x := 0) (y := 0) (z := 0) (pcN := 152) jIQ_161_151 rfl (by decide) rfl ?_
  refine jT_adv 1 (pcN := 153) (LN := [(7, (0, 4)), (5, (1, q1)), (0, (4, 0)), (1, (0, r7)), (2, (0, r8)), (3, (4, 1)), (4, (0, 0))]) (stN := []) (hsN := [jzQ_16, (4, [(4, 13), (1, 1)], []), (8, [(4, 14), (4, 15)], []), jgh, jgh, jgh, jgh, jgh, jgh, (101, [], [q1, -r7, -r8, 0, 0, 0]), jgh, jgh, jgh, (101, [], [0, 0, 0, 0, 0, 0]), jgh, jgh]) (c1 := 0) (s1 := 0) (c2 := 0) (s2 := 0) (by exact rfl) ?_ (by omega) (by omega)
  refine jT_xiinc (x := 4) (z := 5) (LN := [(7, (0, 5)), (5, (1, q1)), (0, (4, 0)), (1, (0, r7)), (2, (0, r8)), (3, (4, 1)), (4, (0, 0))]) (pcN := 156) jIQ_161_153 rfl rfl (by decide) rfl rfl ?_
  refine jT_xgoto (pcN := 119) jIQ_161_156 rfl ?_
  refine jT_xiload (v := (0, 5)) (pcN := 121) jIQ_161_119 rfl rfl rfl ?_
  refine jT_xbipush (k := 6) (pcN := 123) jIQ_161_121 (by decide) rfl ?_
  refine jT_xicF (t := 159) (pcN := 126) jIQ_161_123 rfl (by decide +kernel) rfl rfl ?_
  refine jT_xaload_n (v := (4, 0)) (pcN := 127) jIQ_161_126 rfl rfl rfl ?_
  refine jT_xgetf (a := 0) (t := 1) (ci := 13) (fi := 7) (c := jzQ_16) (v := (4, 9)) (pcN := 130) jIQ_161_127 rfl rfl rfl rfl rfl rfl rfl ?_
  refine jT_xiload (v := (0, 5)) (pcN := 132) jIQ_161_130 rfl rfl rfl ?_
  refine jT_xaload_n (v := (4, 1)) (pcN := 133) jIQ_161_132 rfl rfl rfl ?_
  refine jT_xgetf (a := 1) (t := 2) (ci := 4) (fi := 0) (c := (4, [(4, 13), (1, 1)], [])) (v := (4, 13)) (pcN := 136) jIQ_161_133 rfl rfl rfl rfl rfl rfl rfl ?_
  refine jT_xiload (v := (0, 5)) (pcN := 138) jIQ_161_136 rfl rfl rfl ?_
  refine jT_lald (x := 0) (a := 13) (j := 5) (fs := []) (X := [0, 0, 0, 0, 0, 0]) jIQ_161_138 rfl rfl rfl rfl ?_
  refine jT_eq (LN := [(7, (0, 5)), (5, (1, q1)), (0, (4, 0)), (1, (0, r7)), (2, (0, r8)), (3, (4, 1)), (4, (0, 0))]) (stN := [(1, 0), (0, 5), (4, 9)]) (hsN := [jzQ_16, (4, [(4, 13), (1, 1)], []), (8, [(4, 14), (4, 15)], []), jgh, jgh, jgh, jgh, jgh, jgh, (101, [], [q1, -r7, -r8, 0, 0, 0]), jgh, jgh, jgh, (101, [], [0, 0, 0, 0, 0, 0]), jgh, jgh]) rfl rfl rfl ?_
  refine jT_xaload_n (v := (4, 0)) (pcN := 140) jIQ_161_139 rfl rfl rfl ?_
  refine jT_xgetf (a := 0) (t := 1) (ci := 13) (fi := 7) (c := jzQ_16) (v := (4, 9)) (pcN := 143) jIQ_161_140 rfl rfl rfl rfl rfl rfl rfl ?_
  refine jT_xiload (v := (0, 5)) (pcN := 145) jIQ_161_143 rfl rfl rfl ?_
  refine jT_lald (x := 0) (a := 9) (j := 5) (fs := []) (X := [q1, -r7, -r8, 0, 0, 0]) jIQ_161_145 rfl rfl rfl rfl ?_
  refine jT_eq (LN := [(7, (0, 5)), (5, (1, q1)), (0, (4, 0)), (1, (0, r7)), (2, (0, r8)), (3, (4, 1)), (4, (0, 0))]) (stN := [(1, 0), (1, 0), (0, 5), (4, 9)]) (hsN := [jzQ_16, (4, [(4, 13), (1, 1)], []), (8, [(4, 14), (4, 15)], []), jgh, jgh, jgh, jgh, jgh, jgh, (101, [], [q1, -r7, -r8, 0, 0, 0]), jgh, jgh, jgh, (101, [], [0, 0, 0, 0, 0, 0]), jgh, jgh]) rfl rfl rfl ?_
  refine jT_xaload_n (v := (4, 1)) (pcN := 147) jIQ_161_146 rfl rfl rfl ?_
  refine jT_xgetf (a := 1) (t := 2) (ci := 4) (fi := 1) (c := (4, [(4, 13), (1, 1)], [])) (v := (1, 1)) (pcN := 150) jIQ_161_147 rfl rfl rfl rfl rfl rfl rfl ?_
  refine jT_xlmul (x := 0) (y := 1) (z := 0) (pcN := 151) jIQ_161_150 rfl (by decide) rfl ?_
  refine jT_xlsub (x := 0) (y := 0) (z := 0) (pcN := 152) jIQ_161_151 rfl (by decide) rfl ?_
  refine jT_adv 1 (pcN := 153) (LN := [(7, (0, 5)), (5, (1, q1)), (0, (4, 0)), (1, (0, r7)), (2, (0, r8)), (3, (4, 1)), (4, (0, 0))]) (stN := []) (hsN := [jzQ_16, (4, [(4, 13), (1, 1)], []), (8, [(4, 14), (4, 15)], []), jgh, jgh, jgh, jgh, jgh, jgh, (101, [], [q1, -r7, -r8, 0, 0, 0]), jgh, jgh, jgh, (101, [], [0, 0, 0, 0, 0, 0]), jgh, jgh]) (c1 := 0) (s1 := 0) (c2 := 0) (s2 := 0) (by exact rfl) ?_ (by omega) (by omega)
  refine jT_xiinc (x := 5) (z := 6) (LN := [(7, (0, 6)), (5, (1, q1)), (0, (4, 0)), (1, (0, r7)), (2, (0, r8)), (3, (4, 1)), (4, (0, 0))]) (pcN := 156) jIQ_161_153 rfl rfl (by decide) rfl rfl ?_
  refine jT_xgoto (pcN := 119) jIQ_161_156 rfl ?_
  refine jT_xiload (v := (0, 6)) (pcN := 121) jIQ_161_119 rfl rfl rfl ?_
  refine jT_xbipush (k := 6) (pcN := 123) jIQ_161_121 (by decide) rfl ?_
  refine jT_xicT (pcN := 159) jIQ_161_123 rfl (by decide +kernel) rfl ?_
  refine jT_xaload_n (v := (4, 0)) (pcN := 160) jIQ_161_159 rfl rfl rfl ?_
  refine jT_xgetf (a := 0) (t := 1) (ci := 13) (fi := 0) (c := jzQ_16) (v := (4, 2)) (pcN := 163) jIQ_161_160 rfl rfl rfl rfl rfl rfl rfl ?_
  refine jT_xaload_n (v := (4, 0)) (pcN := 164) jIQ_161_163 rfl rfl rfl ?_
  refine jT_xgetf (a := 0) (t := 1) (ci := 13) (fi := 7) (c := jzQ_16) (v := (4, 9)) (pcN := 167) jIQ_161_164 rfl rfl rfl rfl rfl rfl rfl ?_
  refine jT_callA [2, 9, 14, 15] (y := 38) (pcN := 170) (dC := 1) (bc1 := 0) (bc2 := 0) (c1 := 0) (c2 := 0) (as := [(4, 2), (4, 9)]) (asC := [(4, 0), (4, 1)]) (LN := [(7, (0, 6)), (5, (1, q1)), (0, (4, 0)), (1, (0, r7)), (2, (0, r8)), (3, (4, 1)), (4, (0, 0))]) (stN := []) (hsC := [(8, [(4, 2), (4, 3)], []), (101, [], [q1, -r7, -r8, 0, 0, 0]), jgh, jgh]) (ex := []) (v := (0, (-1))) (st2 := [(0, (-1))]) (hs2 := [jzQ_16, (4, [(4, 13), (1, 1)], []), (8, [(4, 14), (4, 15)], []), jgh, jgh, jgh, jgh, jgh, jgh, (101, [], [q1, -r7, -r8, 0, 0, 0]), jgh, jgh, jgh, (101, [], [0, 0, 0, 0, 0, 0]), jgh, jgh]) (jQl_sp38_117 (d := 0) (by omega) (by omega) (by omega) (by omega) (by omega) (by omega) (by omega)) (by rfl) (by rfl) (by rfl) (by rfl) ⟨rfl, rfl, rfl, rfl, trivial⟩ (by rfl) (by rfl) (by omega) (by show 16 ≤ 16; omega) (by omega) (by omega) rfl rfl ?_
  refine jT_xifT (pcN := 177) jIQ_161_170 rfl (by decide +kernel) rfl ?_
  refine jT_xiconst (k := 0) (pcN := 178) jIQ_161_177 rfl ?_
  subst hq_q1
  exact jT_ret rfl (by decide) (by show 16 ≤ 16; omega) (by omega) (by omega) ⟨rfl, rfl, rfl⟩
theorem jQ_193_319 {xs : List Int} {d : Nat} {u21_0 u21_1 u21_2 u21_3 u21_4 u21_5 : Int} : jT xs d 193 16 0 [(0, (4, 0))] [] [jzQ_20, jgh, jgh, jgh, jgh, jgh, jgh, (101, [], [u21_0, u21_1, u21_2, u21_3, u21_4, u21_5]), jgh, jgh, jgh, jgh, jgh, jgh, jgh, jgh] 0 0 (fun k v hsN => k = 0 ∧ v = (9, 0) ∧ hsN = jpQ_394) := by
  refine jT_xiconst (k := 0) (pcN := 1) jIQ_193_0 rfl ?_
  refine jT_xistore_n (v := (0, 0)) (LN := [(1, (0, 0)), (0, (4, 0))]) (pcN := 2) jIQ_193_1 rfl rfl rfl rfl ?_
  refine jT_xiload_n (v := (0, 0)) (pcN := 3) jIQ_193_2 rfl rfl rfl ?_
  refine jT_xbipush (k := 6) (pcN := 5) jIQ_193_3 (by decide) rfl ?_
  refine jT_xicF (t := 21) (pcN := 8) jIQ_193_5 rfl (by decide +kernel) rfl rfl ?_
  refine jT_xaload_n (v := (4, 0)) (pcN := 9) jIQ_193_8 rfl rfl rfl ?_
  refine jT_xgetf (a := 0) (t := 1) (ci := 14) (fi := 9) (c := jzQ_20) (v := (4, 7)) (pcN := 12) jIQ_193_9 rfl rfl rfl rfl rfl rfl rfl ?_
  refine jT_xiload_n (v := (0, 0)) (pcN := 13) jIQ_193_12 rfl rfl rfl ?_
  refine jT_xlconst (z := 0) (pcN := 14) jIQ_193_13 rfl rfl ?_
  refine jT_adv 1 (pcN := 15) (LN := [(1, (0, 0)), (0, (4, 0))]) (stN := []) (hsN := [jzQ_20, jgh, jgh, jgh, jgh, jgh, jgh, (101, [], [0, u21_1, u21_2, u21_3, u21_4, u21_5]), jgh, jgh, jgh, jgh, jgh, jgh, jgh, jgh]) (c1 := 0) (s1 := 0) (c2 := 0) (s2 := 0) (by exact rfl) ?_ (by omega) (by omega)
  refine jT_xiinc (x := 0) (z := 1) (LN := [(1, (0, 1)), (0, (4, 0))]) (pcN := 18) jIQ_193_15 rfl rfl (by decide) rfl rfl ?_
  refine jT_xgoto (pcN := 2) jIQ_193_18 rfl ?_
  refine jT_xiload_n (v := (0, 1)) (pcN := 3) jIQ_193_2 rfl rfl rfl ?_
  refine jT_xbipush (k := 6) (pcN := 5) jIQ_193_3 (by decide) rfl ?_
  refine jT_xicF (t := 21) (pcN := 8) jIQ_193_5 rfl (by decide +kernel) rfl rfl ?_
  refine jT_xaload_n (v := (4, 0)) (pcN := 9) jIQ_193_8 rfl rfl rfl ?_
  refine jT_xgetf (a := 0) (t := 1) (ci := 14) (fi := 9) (c := jzQ_20) (v := (4, 7)) (pcN := 12) jIQ_193_9 rfl rfl rfl rfl rfl rfl rfl ?_
  refine jT_xiload_n (v := (0, 1)) (pcN := 13) jIQ_193_12 rfl rfl rfl ?_
  refine jT_xlconst (z := 0) (pcN := 14) jIQ_193_13 rfl rfl ?_
  refine jT_adv 1 (pcN := 15) (LN := [(1, (0, 1)), (0, (4, 0))]) (stN := []) (hsN := [jzQ_20, jgh, jgh, jgh, jgh, jgh, jgh, (101, [], [0, 0, u21_2, u21_3, u21_4, u21_5]), jgh, jgh, jgh, jgh, jgh, jgh, jgh, jgh]) (c1 := 0) (s1 := 0) (c2 := 0) (s2 := 0) (by exact rfl) ?_ (by omega) (by omega)
  refine jT_xiinc (x := 1) (z := 2) (LN := [(1, (0, 2)), (0, (4, 0))]) (pcN := 18) jIQ_193_15 rfl rfl (by decide) rfl rfl ?_
  refine jT_xgoto (pcN := 2) jIQ_193_18 rfl ?_
  refine jT_xiload_n (v := (0, 2)) (pcN := 3) jIQ_193_2 rfl rfl rfl ?_
  refine jT_xbipush (k := 6) (pcN := 5) jIQ_193_3 (by decide) rfl ?_
  refine jT_xicF (t := 21) (pcN := 8) jIQ_193_5 rfl (by decide +kernel) rfl rfl ?_
  refine jT_xaload_n (v := (4, 0)) (pcN := 9) jIQ_193_8 rfl rfl rfl ?_
  refine jT_xgetf (a := 0) (t := 1) (ci := 14) (fi := 9) (c := jzQ_20) (v := (4, 7)) (pcN := 12) jIQ_193_9 rfl rfl rfl rfl rfl rfl rfl ?_
  refine jT_xiload_n (v := (0, 2)) (pcN := 13) jIQ_193_12 rfl rfl rfl ?_
  refine jT_xlconst (z := 0) (pcN := 14) jIQ_193_13 rfl rfl ?_
  refine jT_adv 1 (pcN := 15) (LN := [(1, (0, 2)), (0, (4, 0))]) (stN := []) (hsN := [jzQ_20, jgh, jgh, jgh, jgh, jgh, jgh, (101, [], [0, 0, 0, u21_3, u21_4, u21_5]), jgh, jgh, jgh, jgh, jgh, jgh, jgh, jgh]) (c1 := 0) (s1 := 0) (c2 := 0) (s2 := 0) (by exact rfl) ?_ (by omega) (by omega)
  refine jT_xiinc (x := 2) (z := 3) (LN := [(1, (0, 3)), (0, (4, 0))]) (pcN := 18) jIQ_193_15 rfl rfl (by decide) rfl rfl ?_
  refine jT_xgoto (pcN := 2) jIQ_193_18 rfl ?_
  refine jT_xiload_n (v := (0, 3)) (pcN := 3) jIQ_193_2 rfl rfl rfl ?_
  refine jT_xbipush (k := 6) (pcN := 5) jIQ_193_3 (by decide) rfl ?_
  refine jT_xicF (t := 21) (pcN := 8) jIQ_193_5 rfl (by decide +kernel) rfl rfl ?_
  refine jT_xaload_n (v := (4, 0)) (pcN := 9) jIQ_193_8 rfl rfl rfl ?_
  refine jT_xgetf (a := 0) (t := 1) (ci := 14) (fi := 9) (c := jzQ_20) (v := (4, 7)) (pcN := 12) jIQ_193_9 rfl rfl rfl rfl rfl rfl rfl ?_
  refine jT_xiload_n (v := (0, 3)) (pcN := 13) jIQ_193_12 rfl rfl rfl ?_
  refine jT_xlconst (z := 0) (pcN := 14) jIQ_193_13 rfl rfl ?_
  refine jT_adv 1 (pcN := 15) (LN := [(1, (0, 3)), (0, (4, 0))]) (stN := []) (hsN := [jzQ_20, jgh, jgh, jgh, jgh, jgh, jgh, (101, [], [0, 0, 0, 0, u21_4, u21_5]), jgh, jgh, jgh, jgh, jgh, jgh, jgh, jgh]) (c1 := 0) (s1 := 0) (c2 := 0) (s2 := 0) (by exact rfl) ?_ (by omega) (by omega)
  refine jT_xiinc (x := 3) (z := 4) (LN := [(1, (0, 4)), (0, (4, 0))]) (pcN := 18) jIQ_193_15 rfl rfl (by decide) rfl rfl ?_
  refine jT_xgoto (pcN := 2) jIQ_193_18 rfl ?_
  refine jT_xiload_n (v := (0, 4)) (pcN := 3) jIQ_193_2 rfl rfl rfl ?_
  refine jT_xbipush (k := 6) (pcN := 5) jIQ_193_3 (by decide) rfl ?_
  refine jT_xicF (t := 21) (pcN := 8) jIQ_193_5 rfl (by decide +kernel) rfl rfl ?_
  refine jT_xaload_n (v := (4, 0)) (pcN := 9) jIQ_193_8 rfl rfl rfl ?_
  refine jT_xgetf (a := 0) (t := 1) (ci := 14) (fi := 9) (c := jzQ_20) (v := (4, 7)) (pcN := 12) jIQ_193_9 rfl rfl rfl rfl rfl rfl rfl ?_
  refine jT_xiload_n (v := (0, 4)) (pcN := 13) jIQ_193_12 rfl rfl rfl ?_
  refine jT_xlconst (z := 0) (pcN := 14) jIQ_193_13 rfl rfl ?_
  refine jT_adv 1 (pcN := 15) (LN := [(1, (0, 4)), (0, (4, 0))]) (stN := []) (hsN := [jzQ_20, jgh, jgh, jgh, jgh, jgh, jgh, (101, [], [0, 0, 0, 0, 0, u21_5]), jgh, jgh, jgh, jgh, jgh, jgh, jgh, jgh]) (c1 := 0) (s1 := 0) (c2 := 0) (s2 := 0) (by exact rfl) ?_ (by omega) (by omega)
  refine jT_xiinc (x := 4) (z := 5) (LN := [(1, (0, 5)), (0, (4, 0))]) (pcN := 18) jIQ_193_15 rfl rfl (by decide) rfl rfl ?_
  refine jT_xgoto (pcN := 2) jIQ_193_18 rfl ?_
  refine jT_xiload_n (v := (0, 5)) (pcN := 3) jIQ_193_2 rfl rfl rfl ?_
  refine jT_xbipush (k := 6) (pcN := 5) jIQ_193_3 (by decide) rfl ?_
  refine jT_xicF (t := 21) (pcN := 8) jIQ_193_5 rfl (by decide +kernel) rfl rfl ?_
  refine jT_xaload_n (v := (4, 0)) (pcN := 9) jIQ_193_8 rfl rfl rfl ?_
  refine jT_xgetf (a := 0) (t := 1) (ci := 14) (fi := 9) (c := jzQ_20) (v := (4, 7)) (pcN := 12) jIQ_193_9 rfl rfl rfl rfl rfl rfl rfl ?_
  refine jT_xiload_n (v := (0, 5)) (pcN := 13) jIQ_193_12 rfl rfl rfl ?_
  refine jT_xlconst (z := 0) (pcN := 14) jIQ_193_13 rfl rfl ?_
  refine jT_adv 1 (pcN := 15) (LN := [(1, (0, 5)), (0, (4, 0))]) (stN := []) (hsN := jpQ_394) (c1 := 0) (s1 := 0) (c2 := 0) (s2 := 0) (by exact rfl) ?_ (by omega) (by omega)
  refine jT_advK 8 (pcN := 26) (LN := [(1, (0, 6)), (0, (4, 0))]) (stN := []) (hsN := jpQ_394) (c1 := 0) (s1 := 0) (c2 := 0) (s2 := 0) (by decide +kernel) ?_ (by omega) (by omega)
  exact jT_ret rfl (by decide) (by show 16 ≤ 16; omega) (by omega) (by omega) ⟨rfl, rfl, rfl⟩
theorem jQ_299_320 {xs : List Int} {d : Nat} {o3 r7 r8 u21_0 u21_1 u21_2 u21_3 u21_4 u21_5 : Int} (h_o3 : 0 ≤ o3 ∧ o3 ≤ 7) (h_r7 : (-20) ≤ r7 ∧ r7 ≤ 20) (h_r8 : (-10) ≤ r8 ∧ r8 ≤ 10) (g_0 : 0 < r7) : jT xs (d + 7) 299 23 0 [(0, (4, 0)), (1, (0, r7)), (2, (0, r8)), (3, (0, o3)), (4, (4, 1))] [] [jzQ_371, jgh, (100, [], jS0), jgh, jgh, jgh, jgh, (130, [], [17, 18, 19, 20, 21, 22]), (101, [], [u21_0, u21_1, u21_2, u21_3, u21_4, u21_5]), jgh, jgh, jgh, jgh, jgh, jgh, jgh, jgh, (100, [], (jenc (jlg 0))), (100, [], (jenc (jlg 1))), (100, [], (jenc (jlg 2))), (100, [], (jenc (jlg 3))), (100, [], (jenc (jlg 4))), (100, [], (jenc (jlg 5)))] 80 4280 (fun k v hsN => k = 0 ∧ v = (0, 0) ∧ hsN = [jzQ_371, jgh, (100, [], jS0), jgh, jgh, jgh, jgh, (130, [], [17, 18, 19, 20, 21, 22]), (101, [], [-(jkn r7 r8), r7, r8, 0, 0, 0]), jgh, jgh, jgh, jgh, jgh, jgh, jgh, jgh, (100, [], (jenc (jlg 0))), (100, [], (jenc (jlg 1))), (100, [], (jenc (jlg 2))), (100, [], (jenc (jlg 3))), (100, [], (jenc (jlg 4))), (100, [], (jenc (jlg 5))), (101, [], [-(jkn r7 r8), r7, r8, 0, 0, 0])]) := by
  refine jT_xaload_n (v := (4, 0)) (pcN := 1) jIQ_299_0 rfl rfl rfl ?_
  refine jT_callB [0, 2, 3, 4, 5, 6, 7, 8, 9, 10, 11, 12, 13, 14, 15, 16] (y := 193) (pcN := 4) (dC := 0) (bc1 := 0) (bc2 := 0) (c1 := 80) (c2 := 4280) (as := [(4, 0)]) (asC := [(4, 0)]) (LN := [(0, (4, 0)), (1, (0, r7)), (2, (0, r8)), (3, (0, o3)), (4, (4, 1))]) (stN := []) (hsC := [jzQ_20, jgh, jgh, jgh, jgh, jgh, jgh, (101, [], [u21_0, u21_1, u21_2, u21_3, u21_4, u21_5]), jgh, jgh, jgh, jgh, jgh, jgh, jgh, jgh]) (hsD := jpQ_394) (v := (9, 0)) (st2 := []) (hs2 := jpQ_546) (jQ_193_319 (d := 0)) (by rfl) (by rfl) (by rfl) (by rfl) ⟨rfl, rfl, rfl, rfl, rfl, rfl, rfl, rfl, rfl, rfl, rfl, rfl, rfl, rfl, rfl, rfl, trivial⟩ (by rfl) (by rfl) (by omega) (by show 23 ≤ 23; omega) (by omega) (by omega) rfl rfl ?_
  refine jT_xaload_n (v := (4, 0)) (pcN := 5) jIQ_299_4 rfl rfl rfl ?_
  refine jT_xgetf (a := 0) (t := 1) (ci := 14) (fi := 9) (c := jzQ_371) (v := (4, 8)) (pcN := 8) jIQ_299_5 rfl rfl rfl rfl rfl rfl rfl ?_
  refine jT_xiconst (k := 1) (pcN := 9) jIQ_299_8 rfl ?_
  refine jT_xiload_n (v := (0, r7)) (pcN := 10) jIQ_299_9 rfl rfl rfl ?_
  refine jT_xi2l (x := r7) (z := r7) (pcN := 11) jIQ_299_10 rfl (jw_idd (by omega) (by omega)) rfl ?_
  refine jT_adv 1 (pcN := 12) (LN := [(0, (4, 0)), (1, (0, r7)), (2, (0, r8)), (3, (0, o3)), (4, (4, 1))]) (stN := []) (hsN := [jzQ_371, jgh, (100, [], jS0), jgh, jgh, jgh, jgh, (130, [], [17, 18, 19, 20, 21, 22]), (101, [], [0, r7, 0, 0, 0, 0]), jgh, jgh, jgh, jgh, jgh, jgh, jgh, jgh, (100, [], (jenc (jlg 0))), (100, [], (jenc (jlg 1))), (100, [], (jenc (jlg 2))), (100, [], (jenc (jlg 3))), (100, [], (jenc (jlg 4))), (100, [], (jenc (jlg 5)))]) (c1 := 0) (s1 := 0) (c2 := 80) (s2 := 4280) (by exact rfl) ?_ (by omega) (by omega)
  refine jT_xaload_n (v := (4, 0)) (pcN := 13) jIQ_299_12 rfl rfl rfl ?_
  refine jT_xgetf (a := 0) (t := 1) (ci := 14) (fi := 9) (c := jzQ_371) (v := (4, 8)) (pcN := 16) jIQ_299_13 rfl rfl rfl rfl rfl rfl rfl ?_
  refine jT_xiconst (k := 2) (pcN := 17) jIQ_299_16 rfl ?_
  refine jT_xiload_n (v := (0, r8)) (pcN := 18) jIQ_299_17 rfl rfl rfl ?_
  refine jT_xi2l (x := r8) (z := r8) (pcN := 19) jIQ_299_18 rfl (jw_idd (by omega) (by omega)) rfl ?_
  refine jT_adv 1 (pcN := 20) (LN := [(0, (4, 0)), (1, (0, r7)), (2, (0, r8)), (3, (0, o3)), (4, (4, 1))]) (stN := []) (hsN := [jzQ_371, jgh, (100, [], jS0), jgh, jgh, jgh, jgh, (130, [], [17, 18, 19, 20, 21, 22]), (101, [], [0, r7, r8, 0, 0, 0]), jgh, jgh, jgh, jgh, jgh, jgh, jgh, jgh, (100, [], (jenc (jlg 0))), (100, [], (jenc (jlg 1))), (100, [], (jenc (jlg 2))), (100, [], (jenc (jlg 3))), (100, [], (jenc (jlg 4))), (100, [], (jenc (jlg 5)))]) (c1 := 0) (s1 := 0) (c2 := 80) (s2 := 4280) (by exact rfl) ?_ (by omega) (by omega)
  refine jT_xaload_n (v := (4, 0)) (pcN := 21) jIQ_299_20 rfl rfl rfl ?_
  refine jT_callB [0, 2, 3, 4, 5, 6, 7, 8, 9, 10, 11, 12, 13, 14, 15, 16, 17, 18, 19, 20, 21, 22] (y := 209) (pcN := 24) (dC := 6) (bc1 := 60) (bc2 := 3210) (c1 := 20) (c2 := 1070) (as := [(4, 0)]) (asC := [(4, 0)]) (LN := [(0, (4, 0)), (1, (0, r7)), (2, (0, r8)), (3, (0, o3)), (4, (4, 1))]) (stN := []) (hsC := [jzQ_20, jgh, jgh, jgh, jgh, jgh, (130, [], [16, 17, 18, 19, 20, 21]), (101, [], [0, r7, r8, 0, 0, 0]), jgh, jgh, jgh, jgh, jgh, jgh, jgh, jgh, (100, [], (jenc (jlg 0))), (100, [], (jenc (jlg 1))), (100, [], (jenc (jlg 2))), (100, [], (jenc (jlg 3))), (100, [], (jenc (jlg 4))), (100, [], (jenc (jlg 5)))]) (hsD := [jzQ_20, jgh, jgh, jgh, jgh, jgh, (130, [], [16, 17, 18, 19, 20, 21]), (101, [], [-(jkn r7 r8), r7, r8, 0, 0, 0]), jgh, jgh, jgh, jgh, jgh, jgh, jgh, jgh, (100, [], (jenc (jlg 0))), (100, [], (jenc (jlg 1))), (100, [], (jenc (jlg 2))), (100, [], (jenc (jlg 3))), (100, [], (jenc (jlg 4))), (100, [], (jenc (jlg 5)))]) (v := (1, jkn r7 r8)) (st2 := [(1, jkn r7 r8)]) (hs2 := [jzQ_371, jgh, (100, [], jS0), jgh, jgh, jgh, jgh, (130, [], [17, 18, 19, 20, 21, 22]), (101, [], [-(jkn r7 r8), r7, r8, 0, 0, 0]), jgh, jgh, jgh, jgh, jgh, jgh, jgh, jgh, (100, [], (jenc (jlg 0))), (100, [], (jenc (jlg 1))), (100, [], (jenc (jlg 2))), (100, [], (jenc (jlg 3))), (100, [], (jenc (jlg 4))), (100, [], (jenc (jlg 5)))]) (jQ_209_170 (d := 0) (by omega) (by omega) (by omega)) (by rfl) (by rfl) (by rfl) (by rfl) ⟨rfl, rfl, rfl, rfl, rfl, rfl, rfl, rfl, rfl, rfl, rfl, rfl, rfl, rfl, rfl, rfl, rfl, rfl, rfl, rfl, rfl, rfl, trivial⟩ (by rfl) (by rfl) (by omega) (by show 23 ≤ 23; omega) (by omega) (by omega) rfl rfl ?_
  have hb_q1 := jkn_b (b := r7) (c := r8) (by omega) (by omega)
  generalize hq_q1 : jkn r7 r8 = q1 at hb_q1 ⊢
  refine jT_eq (LN := [(0, (4, 0)), (1, (0, r7)), (2, (0, r8)), (3, (0, o3)), (4, (4, 1))]) (stN := [(1, q1)]) (hsN := [jzQ_371, jgh, (100, [], jS0), jgh, jgh, jgh, jgh, (130, [], [17, 18, 19, 20, 21, 22]), (101, [], [-q1, r7, r8, 0, 0, 0]), jgh, jgh, jgh, jgh, jgh, jgh, jgh, jgh, (100, [], (jenc (jlg 0))), (100, [], (jenc (jlg 1))), (100, [], (jenc (jlg 2))), (100, [], (jenc (jlg 3))), (100, [], (jenc (jlg 4))), (100, [], (jenc (jlg 5)))]) (rfl) (rfl) (by simp only [List.cons.injEq, Prod.mk.injEq, and_true, true_and] <;> ((try unfold jw); (try unfold jwl); omega)) ?_
  refine jT_xlstore (v := (1, q1)) (LN := [(5, (1, q1)), (0, (4, 0)), (1, (0, r7)), (2, (0, r8)), (3, (0, o3)), (4, (4, 1))]) (pcN := 26) jIQ_299_24 rfl rfl rfl rfl ?_
  have g_1 : 0 ≤ (jlz (-q1) r7 r8 0 0 0).sign := by rw [← hq_q1]; exact jkn_s (by omega) (by omega)
  refine jT_xlload (v := (1, q1)) (pcN := 28) jIQ_299_26 rfl rfl rfl ?_
  refine jT_xaload_n (v := (4, 0)) (pcN := 29) jIQ_299_28 rfl rfl rfl ?_
  refine jT_xgetf (a := 0) (t := 1) (ci := 14) (fi := 9) (c := jzQ_371) (v := (4, 8)) (pcN := 32) jIQ_299_29 rfl rfl rfl rfl rfl rfl rfl ?_
  refine jT_xiconst (k := 0) (pcN := 33) jIQ_299_32 rfl ?_
  refine jT_lald (x := -q1) (a := 8) (j := 0) (fs := []) (X := [-q1, r7, r8, 0, 0, 0]) jIQ_299_33 rfl rfl rfl rfl ?_
  refine jT_eq (LN := [(5, (1, q1)), (0, (4, 0)), (1, (0, r7)), (2, (0, r8)), (3, (0, o3)), (4, (4, 1))]) (stN := [(1, -q1), (1, q1)]) (hsN := [jzQ_371, jgh, (100, [], jS0), jgh, jgh, jgh, jgh, (130, [], [17, 18, 19, 20, 21, 22]), (101, [], [-q1, r7, r8, 0, 0, 0]), jgh, jgh, jgh, jgh, jgh, jgh, jgh, jgh, (100, [], (jenc (jlg 0))), (100, [], (jenc (jlg 1))), (100, [], (jenc (jlg 2))), (100, [], (jenc (jlg 3))), (100, [], (jenc (jlg 4))), (100, [], (jenc (jlg 5)))]) rfl rfl rfl ?_
  refine jT_adv 1 (pcN := 35) (LN := [(5, (1, q1)), (0, (4, 0)), (1, (0, r7)), (2, (0, r8)), (3, (0, o3)), (4, (4, 1))]) (stN := [(1, -(-q1)), (1, q1)]) (hsN := [jzQ_371, jgh, (100, [], jS0), jgh, jgh, jgh, jgh, (130, [], [17, 18, 19, 20, 21, 22]), (101, [], [-q1, r7, r8, 0, 0, 0]), jgh, jgh, jgh, jgh, jgh, jgh, jgh, jgh, (100, [], (jenc (jlg 0))), (100, [], (jenc (jlg 1))), (100, [], (jenc (jlg 2))), (100, [], (jenc (jlg 3))), (100, [], (jenc (jlg 4))), (100, [], (jenc (jlg 5)))]) (c1 := 0) (s1 := 0) (c2 := 20) (s2 := 1070) (by exact rfl) ?_ (by omega) (by omega)
  refine jT_eq (LN := [(5, (1, q1)), (0, (4, 0)), (1, (0, r7)), (2, (0, r8)), (3, (0, o3)), (4, (4, 1))]) (stN := [(1, q1), (1, q1)]) (hsN := [jzQ_371, jgh, (100, [], jS0), jgh, jgh, jgh, jgh, (130, [], [17, 18, 19, 20, 21, 22]), (101, [], [-q1, r7, r8, 0, 0, 0]), jgh, jgh, jgh, jgh, jgh, jgh, jgh, jgh, (100, [], (jenc (jlg 0))), (100, [], (jenc (jlg 1))), (100, [], (jenc (jlg 2))), (100, [], (jenc (jlg 3))), (100, [], (jenc (jlg 4))), (100, [], (jenc (jlg 5)))]) (rfl) (by simp only [List.cons.injEq, Prod.mk.injEq, and_true, true_and] <;> ((try unfold jw); (try unfold jwl); omega)) (rfl) ?_
  refine jT_lcmp (a := q1) (b := q1) (z := 0) (by rfl) (by rfl) (jwl_idd (by omega) (by omega)) (jwl_idd (by omega) (by omega)) (by rw [decide_eq_false (show ¬ ((q1 : Int) < q1) by omega), decide_eq_true (show (q1 : Int) = q1 by omega)]; rfl) ?_
  refine jT_xifF (t := 54) (pcN := 39) jIQ_299_36 rfl (by decide +kernel) rfl rfl ?_
  refine jT_xaload_n (v := (4, 0)) (pcN := 40) jIQ_299_39 rfl rfl rfl ?_
  refine jT_xaload_n (v := (4, 0)) (pcN := 41) jIQ_299_40 rfl rfl rfl ?_
  refine jT_xgetf (a := 0) (t := 1) (ci := 14) (fi := 1) (c := jzQ_371) (v := (4, 2)) (pcN := 44) jIQ_299_41 rfl rfl rfl rfl rfl rfl rfl ?_
  refine jT_xbipush (k := 7) (pcN := 46) jIQ_299_44 (by decide) rfl ?_
  refine jT_xiload_n (v := (0, o3)) (pcN := 47) jIQ_299_46 rfl rfl rfl ?_
  refine jT_ximul (x := 7) (y := o3) (z := 7 * o3) (pcN := 48) jIQ_299_47 rfl (rfl) rfl ?_
  refine jT_callA [0, 2, 3, 4, 5, 6, 7, 8, 9, 10, 11, 12, 13, 14, 15, 16, 17, 18, 19, 20, 21, 22] (y := 240) (pcN := 51) (dC := 4) (bc1 := 20) (bc2 := 1070) (c1 := 0) (c2 := 0) (as := [(4, 0), (4, 2), (0, 7 * o3)]) (asC := [(4, 0), (4, 1), (0, 7 * o3)]) (LN := [(5, (1, q1)), (0, (4, 0)), (1, (0, r7)), (2, (0, r8)), (3, (0, o3)), (4, (4, 1))]) (stN := []) (hsC := [jzQ_20, (100, [], jS0), jgh, jgh, jgh, jgh, (130, [], [16, 17, 18, 19, 20, 21]), (101, [], [-q1, r7, r8, 0, 0, 0]), jgh, jgh, jgh, jgh, jgh, jgh, jgh, jgh, (100, [], (jenc (jlg 0))), (100, [], (jenc (jlg 1))), (100, [], (jenc (jlg 2))), (100, [], (jenc (jlg 3))), (100, [], (jenc (jlg 4))), (100, [], (jenc (jlg 5)))]) (ex := [(101, [], [-q1, r7, r8, 0, 0, 0])]) (v := (0, (jlz (-q1) r7 r8 0 0 0).sign)) (st2 := [(0, (jlz (-q1) r7 r8 0 0 0).sign)]) (hs2 := [jzQ_371, jgh, (100, [], jS0), jgh, jgh, jgh, jgh, (130, [], [17, 18, 19, 20, 21, 22]), (101, [], [-q1, r7, r8, 0, 0, 0]), jgh, jgh, jgh, jgh, jgh, jgh, jgh, jgh, (100, [], (jenc (jlg 0))), (100, [], (jenc (jlg 1))), (100, [], (jenc (jlg 2))), (100, [], (jenc (jlg 3))), (100, [], (jenc (jlg 4))), (100, [], (jenc (jlg 5))), (101, [], [-q1, r7, r8, 0, 0, 0])]) (jQ_240_171 (d := 0) (by omega) (by omega) (by omega) (by omega) (by omega) (by omega)) (by rfl) (by rfl) (by rfl) (by rfl) ⟨rfl, rfl, rfl, rfl, rfl, rfl, rfl, rfl, rfl, rfl, rfl, rfl, rfl, rfl, rfl, rfl, rfl, rfl, rfl, rfl, rfl, rfl, trivial⟩ (by rfl) (by rfl) (by omega) (by show 23 ≤ 23; omega) (by omega) (by omega) rfl rfl ?_
  have hb_q2 := jsgn_b (jlz (-q1) r7 r8 0 0 0)
  generalize hq_q2 : (jlz (-q1) r7 r8 0 0 0).sign = q2 at hb_q2 g_1 ⊢
  refine jT_ifF (a := q2) (t := 56) (by rfl) (by rfl) (by rfl) (jw_idd (by omega) (by omega)) (by simp only [jcP] <;> omega) ?_
  refine jT_xiconst (k := 0) (pcN := 55) jIQ_299_54 rfl ?_
  subst hq_q2
  subst hq_q1
  exact jT_ret rfl (by decide) (by show 23 ≤ 24; omega) (by omega) (by omega) ⟨rfl, rfl, rfl⟩
theorem jQ_299_321 {xs : List Int} {d : Nat} {o3 r7 r8 u21_0 u21_1 u21_2 u21_3 u21_4 u21_5 : Int} (h_o3 : 0 ≤ o3 ∧ o3 ≤ 7) (h_r7 : (-20) ≤ r7 ∧ r7 ≤ 20) (h_r8 : (-10) ≤ r8 ∧ r8 ≤ 10) (g_0 : 0 ≤ r7) (g_1 : r7 ≤ 0) (g_2 : 0 < r8) : jT xs (d + 7) 299 23 0 [(0, (4, 0)), (1, (0, r7)), (2, (0, r8)), (3, (0, o3)), (4, (4, 1))] [] [jzQ_371, jgh, (100, [], jS0), jgh, jgh, jgh, jgh, (130, [], [17, 18, 19, 20, 21, 22]), (101, [], [u21_0, u21_1, u21_2, u21_3, u21_4, u21_5]), jgh, jgh, jgh, jgh, jgh, jgh, jgh, jgh, (100, [], (jenc (jlg 0))), (100, [], (jenc (jlg 1))), (100, [], (jenc (jlg 2))), (100, [], (jenc (jlg 3))), (100, [], (jenc (jlg 4))), (100, [], (jenc (jlg 5)))] 80 4280 (fun k v hsN => k = 0 ∧ v = (0, 0) ∧ hsN = [jzQ_371, jgh, (100, [], jS0), jgh, jgh, jgh, jgh, (130, [], [17, 18, 19, 20, 21, 22]), (101, [], [-(jkn r7 r8), r7, r8, 0, 0, 0]), jgh, jgh, jgh, jgh, jgh, jgh, jgh, jgh, (100, [], (jenc (jlg 0))), (100, [], (jenc (jlg 1))), (100, [], (jenc (jlg 2))), (100, [], (jenc (jlg 3))), (100, [], (jenc (jlg 4))), (100, [], (jenc (jlg 5))), (101, [], [-(jkn r7 r8), r7, r8, 0, 0, 0])]) := by
  refine jT_xaload_n (v := (4, 0)) (pcN := 1) jIQ_299_0 rfl rfl rfl ?_
  refine jT_callB [0, 2, 3, 4, 5, 6, 7, 8, 9, 10, 11, 12, 13, 14, 15, 16] (y := 193) (pcN := 4) (dC := 0) (bc1 := 0) (bc2 := 0) (c1 := 80) (c2 := 4280) (as := [(4, 0)]) (asC := [(4, 0)]) (LN := [(0, (4, 0)), (1, (0, r7)), (2, (0, r8)), (3, (0, o3)), (4, (4, 1))]) (stN := []) (hsC := [jzQ_20, jgh, jgh, jgh, jgh, jgh, jgh, (101, [], [u21_0, u21_1, u21_2, u21_3, u21_4, u21_5]), jgh, jgh, jgh, jgh, jgh, jgh, jgh, jgh]) (hsD := jpQ_394) (v := (9, 0)) (st2 := []) (hs2 := jpQ_546) (jQ_193_319 (d := 0)) (by rfl) (by rfl) (by rfl) (by rfl) ⟨rfl, rfl, rfl, rfl, rfl, rfl, rfl, rfl, rfl, rfl, rfl, rfl, rfl, rfl, rfl, rfl, trivial⟩ (by rfl) (by rfl) (by omega) (by show 23 ≤ 23; omega) (by omega) (by omega) rfl rfl ?_
  refine jT_xaload_n (v := (4, 0)) (pcN := 5) jIQ_299_4 rfl rfl rfl ?_
  refine jT_xgetf (a := 0) (t := 1) (ci := 14) (fi := 9) (c := jzQ_371) (v := (4, 8)) (pcN := 8) jIQ_299_5 rfl rfl rfl rfl rfl rfl rfl ?_
  refine jT_xiconst (k := 1) (pcN := 9) jIQ_299_8 rfl ?_
  refine jT_xiload_n (v := (0, r7)) (pcN := 10) jIQ_299_9 rfl rfl rfl ?_
  refine jT_xi2l (x := r7) (z := r7) (pcN := 11) jIQ_299_10 rfl (jw_idd (by omega) (by omega)) rfl ?_
  refine jT_adv 1 (pcN := 12) (LN := [(0, (4, 0)), (1, (0, r7)), (2, (0, r8)), (3, (0, o3)), (4, (4, 1))]) (stN := []) (hsN := [jzQ_371, jgh, (100, [], jS0), jgh, jgh, jgh, jgh, (130, [], [17, 18, 19, 20, 21, 22]), (101, [], [0, r7, 0, 0, 0, 0]), jgh, jgh, jgh, jgh, jgh, jgh, jgh, jgh, (100, [], (jenc (jlg 0))), (100, [], (jenc (jlg 1))), (100, [], (jenc (jlg 2))), (100, [], (jenc (jlg 3))), (100, [], (jenc (jlg 4))), (100, [], (jenc (jlg 5)))]) (c1 := 0) (s1 := 0) (c2 := 80) (s2 := 4280) (by exact rfl) ?_ (by omega) (by omega)
  refine jT_xaload_n (v := (4, 0)) (pcN := 13) jIQ_299_12 rfl rfl rfl ?_
  refine jT_xgetf (a := 0) (t := 1) (ci := 14) (fi := 9) (c := jzQ_371) (v := (4, 8)) (pcN := 16) jIQ_299_13 rfl rfl rfl rfl rfl rfl rfl ?_
  refine jT_xiconst (k := 2) (pcN := 17) jIQ_299_16 rfl ?_
  refine jT_xiload_n (v := (0, r8)) (pcN := 18) jIQ_299_17 rfl rfl rfl ?_
  refine jT_xi2l (x := r8) (z := r8) (pcN := 19) jIQ_299_18 rfl (jw_idd (by omega) (by omega)) rfl ?_
  refine jT_adv 1 (pcN := 20) (LN := [(0, (4, 0)), (1, (0, r7)), (2, (0, r8)), (3, (0, o3)), (4, (4, 1))]) (stN := []) (hsN := [jzQ_371, jgh, (100, [], jS0), jgh, jgh, jgh, jgh, (130, [], [17, 18, 19, 20, 21, 22]), (101, [], [0, r7, r8, 0, 0, 0]), jgh, jgh, jgh, jgh, jgh, jgh, jgh, jgh, (100, [], (jenc (jlg 0))), (100, [], (jenc (jlg 1))), (100, [], (jenc (jlg 2))), (100, [], (jenc (jlg 3))), (100, [], (jenc (jlg 4))), (100, [], (jenc (jlg 5)))]) (c1 := 0) (s1 := 0) (c2 := 80) (s2 := 4280) (by exact rfl) ?_ (by omega) (by omega)
  refine jT_xaload_n (v := (4, 0)) (pcN := 21) jIQ_299_20 rfl rfl rfl ?_
  refine jT_callB [0, 2, 3, 4, 5, 6, 7, 8, 9, 10, 11, 12, 13, 14, 15, 16, 17, 18, 19, 20, 21, 22] (y := 209) (pcN := 24) (dC := 6) (bc1 := 60) (bc2 := 3210) (c1 := 20) (c2 := 1070) (as := [(4, 0)]) (asC := [(4, 0)]) (LN := [(0, (4, 0)), (1, (0, r7)), (2, (0, r8)), (3, (0, o3)), (4, (4, 1))]) (stN := []) (hsC := [jzQ_20, jgh, jgh, jgh, jgh, jgh, (130, [], [16, 17, 18, 19, 20, 21]), (101, [], [0, r7, r8, 0, 0, 0]), jgh, jgh, jgh, jgh, jgh, jgh, jgh, jgh, (100, [], (jenc (jlg 0))), (100, [], (jenc (jlg 1))), (100, [], (jenc (jlg 2))), (100, [], (jenc (jlg 3))), (100, [], (jenc (jlg 4))), (100, [], (jenc (jlg 5)))]) (hsD := [jzQ_20, jgh, jgh, jgh, jgh, jgh, (130, [], [16, 17, 18, 19, 20, 21]), (101, [], [-(jkn r7 r8), r7, r8, 0, 0, 0]), jgh, jgh, jgh, jgh, jgh, jgh, jgh, jgh, (100, [], (jenc (jlg 0))), (100, [], (jenc (jlg 1))), (100, [], (jenc (jlg 2))), (100, [], (jenc (jlg 3))), (100, [], (jenc (jlg 4))), (100, [], (jenc (jlg 5)))]) (v := (1, jkn r7 r8)) (st2 := [(1, jkn r7 r8)]) (hs2 := [jzQ_371, jgh, (100, [], jS0), jgh, jgh, jgh, jgh, (130, [], [17, 18, 19, 20, 21, 22]), (101, [], [-(jkn r7 r8), r7, r8, 0, 0, 0]), jgh, jgh, jgh, jgh, jgh, jgh, jgh, jgh, (100, [], (jenc (jlg 0))), (100, [], (jenc (jlg 1))), (100, [], (jenc (jlg 2))), (100, [], (jenc (jlg 3))), (100, [], (jenc (jlg 4))), (100, [], (jenc (jlg 5)))]) (jQ_209_173 (d := 0) (by omega) (by omega) (by omega) (by omega) (by omega)) (by rfl) (by rfl) (by rfl) (by rfl) ⟨rfl, rfl, rfl, rfl, rfl, rfl, rfl, rfl, rfl, rfl, rfl, rfl, rfl, rfl, rfl, rfl, rfl, rfl, rfl, rfl, rfl, rfl, trivial⟩ (by rfl) (by rfl) (by omega) (by show 23 ≤ 23; omega) (by omega) (by omega) rfl rfl ?_
  have hb_q1 := jkn_b (b := r7) (c := r8) (by omega) (by omega)
  generalize hq_q1 : jkn r7 r8 = q1 at hb_q1 ⊢
  refine jT_eq (LN := [(0, (4, 0)), (1, (0, r7)), (2, (0, r8)), (3, (0, o3)), (4, (4, 1))]) (stN := [(1, q1)]) (hsN := [jzQ_371, jgh, (100, [], jS0), jgh, jgh, jgh, jgh, (130, [], [17, 18, 19, 20, 21, 22]), (101, [], [-q1, r7, r8, 0, 0, 0]), jgh, jgh, jgh, jgh, jgh, jgh, jgh, jgh, (100, [], (jenc (jlg 0))), (100, [], (jenc (jlg 1))), (100, [], (jenc (jlg 2))), (100, [], (jenc (jlg 3))), (100, [], (jenc (jlg 4))), (100, [], (jenc (jlg 5)))]) (rfl) (rfl) (by simp only [List.cons.injEq, Prod.mk.injEq, and_true, true_and] <;> ((try unfold jw); (try unfold jwl); omega)) ?_
  refine jT_xlstore (v := (1, q1)) (LN := [(5, (1, q1)), (0, (4, 0)), (1, (0, r7)), (2, (0, r8)), (3, (0, o3)), (4, (4, 1))]) (pcN := 26) jIQ_299_24 rfl rfl rfl rfl ?_
  have g_3 : 0 ≤ (jlz (-q1) r7 r8 0 0 0).sign := by rw [← hq_q1]; exact jkn_s (by omega) (by omega)
  refine jT_xlload (v := (1, q1)) (pcN := 28) jIQ_299_26 rfl rfl rfl ?_
  refine jT_xaload_n (v := (4, 0)) (pcN := 29) jIQ_299_28 rfl rfl rfl ?_
  refine jT_xgetf (a := 0) (t := 1) (ci := 14) (fi := 9) (c := jzQ_371) (v := (4, 8)) (pcN := 32) jIQ_299_29 rfl rfl rfl rfl rfl rfl rfl ?_
  refine jT_xiconst (k := 0) (pcN := 33) jIQ_299_32 rfl ?_
  refine jT_lald (x := -q1) (a := 8) (j := 0) (fs := []) (X := [-q1, r7, r8, 0, 0, 0]) jIQ_299_33 rfl rfl rfl rfl ?_
  refine jT_eq (LN := [(5, (1, q1)), (0, (4, 0)), (1, (0, r7)), (2, (0, r8)), (3, (0, o3)), (4, (4, 1))]) (stN := [(1, -q1), (1, q1)]) (hsN := [jzQ_371, jgh, (100, [], jS0), jgh, jgh, jgh, jgh, (130, [], [17, 18, 19, 20, 21, 22]), (101, [], [-q1, r7, r8, 0, 0, 0]), jgh, jgh, jgh, jgh, jgh, jgh, jgh, jgh, (100, [], (jenc (jlg 0))), (100, [], (jenc (jlg 1))), (100, [], (jenc (jlg 2))), (100, [], (jenc (jlg 3))), (100, [], (jenc (jlg 4))), (100, [], (jenc (jlg 5)))]) rfl rfl rfl ?_
  refine jT_adv 1 (pcN := 35) (LN := [(5, (1, q1)), (0, (4, 0)), (1, (0, r7)), (2, (0, r8)), (3, (0, o3)), (4, (4, 1))]) (stN := [(1, -(-q1)), (1, q1)]) (hsN := [jzQ_371, jgh, (100, [], jS0), jgh, jgh, jgh, jgh, (130, [], [17, 18, 19, 20, 21, 22]), (101, [], [-q1, r7, r8, 0, 0, 0]), jgh, jgh, jgh, jgh, jgh, jgh, jgh, jgh, (100, [], (jenc (jlg 0))), (100, [], (jenc (jlg 1))), (100, [], (jenc (jlg 2))), (100, [], (jenc (jlg 3))), (100, [], (jenc (jlg 4))), (100, [], (jenc (jlg 5)))]) (c1 := 0) (s1 := 0) (c2 := 20) (s2 := 1070) (by exact rfl) ?_ (by omega) (by omega)
  refine jT_eq (LN := [(5, (1, q1)), (0, (4, 0)), (1, (0, r7)), (2, (0, r8)), (3, (0, o3)), (4, (4, 1))]) (stN := [(1, q1), (1, q1)]) (hsN := [jzQ_371, jgh, (100, [], jS0), jgh, jgh, jgh, jgh, (130, [], [17, 18, 19, 20, 21, 22]), (101, [], [-q1, r7, r8, 0, 0, 0]), jgh, jgh, jgh, jgh, jgh, jgh, jgh, jgh, (100, [], (jenc (jlg 0))), (100, [], (jenc (jlg 1))), (100, [], (jenc (jlg 2))), (100, [], (jenc (jlg 3))), (100, [], (jenc (jlg 4))), (100, [], (jenc (jlg 5)))]) (rfl) (by simp only [List.cons.injEq, Prod.mk.injEq, and_true, true_and] <;> ((try unfold jw); (try unfold jwl); omega)) (rfl) ?_
  refine jT_lcmp (a := q1) (b := q1) (z := 0) (by rfl) (by rfl) (jwl_idd (by omega) (by omega)) (jwl_idd (by omega) (by omega)) (by rw [decide_eq_false (show ¬ ((q1 : Int) < q1) by omega), decide_eq_true (show (q1 : Int) = q1 by omega)]; rfl) ?_
  refine jT_xifF (t := 54) (pcN := 39) jIQ_299_36 rfl (by decide +kernel) rfl rfl ?_
  refine jT_xaload_n (v := (4, 0)) (pcN := 40) jIQ_299_39 rfl rfl rfl ?_
  refine jT_xaload_n (v := (4, 0)) (pcN := 41) jIQ_299_40 rfl rfl rfl ?_
  refine jT_xgetf (a := 0) (t := 1) (ci := 14) (fi := 1) (c := jzQ_371) (v := (4, 2)) (pcN := 44) jIQ_299_41 rfl rfl rfl rfl rfl rfl rfl ?_
  refine jT_xbipush (k := 7) (pcN := 46) jIQ_299_44 (by decide) rfl ?_
  refine jT_xiload_n (v := (0, o3)) (pcN := 47) jIQ_299_46 rfl rfl rfl ?_
  refine jT_ximul (x := 7) (y := o3) (z := 7 * o3) (pcN := 48) jIQ_299_47 rfl (rfl) rfl ?_
  refine jT_callA [0, 2, 3, 4, 5, 6, 7, 8, 9, 10, 11, 12, 13, 14, 15, 16, 17, 18, 19, 20, 21, 22] (y := 240) (pcN := 51) (dC := 4) (bc1 := 20) (bc2 := 1070) (c1 := 0) (c2 := 0) (as := [(4, 0), (4, 2), (0, 7 * o3)]) (asC := [(4, 0), (4, 1), (0, 7 * o3)]) (LN := [(5, (1, q1)), (0, (4, 0)), (1, (0, r7)), (2, (0, r8)), (3, (0, o3)), (4, (4, 1))]) (stN := []) (hsC := [jzQ_20, (100, [], jS0), jgh, jgh, jgh, jgh, (130, [], [16, 17, 18, 19, 20, 21]), (101, [], [-q1, r7, r8, 0, 0, 0]), jgh, jgh, jgh, jgh, jgh, jgh, jgh, jgh, (100, [], (jenc (jlg 0))), (100, [], (jenc (jlg 1))), (100, [], (jenc (jlg 2))), (100, [], (jenc (jlg 3))), (100, [], (jenc (jlg 4))), (100, [], (jenc (jlg 5)))]) (ex := [(101, [], [-q1, r7, r8, 0, 0, 0])]) (v := (0, (jlz (-q1) r7 r8 0 0 0).sign)) (st2 := [(0, (jlz (-q1) r7 r8 0 0 0).sign)]) (hs2 := [jzQ_371, jgh, (100, [], jS0), jgh, jgh, jgh, jgh, (130, [], [17, 18, 19, 20, 21, 22]), (101, [], [-q1, r7, r8, 0, 0, 0]), jgh, jgh, jgh, jgh, jgh, jgh, jgh, jgh, (100, [], (jenc (jlg 0))), (100, [], (jenc (jlg 1))), (100, [], (jenc (jlg 2))), (100, [], (jenc (jlg 3))), (100, [], (jenc (jlg 4))), (100, [], (jenc (jlg 5))), (101, [], [-q1, r7, r8, 0, 0, 0])]) (jQ_240_174 (d := 0) (by omega) (by omega) (by omega) (by omega) (by omega) (by omega) (by omega) (by omega)) (by rfl) (by rfl) (by rfl) (by rfl) ⟨rfl, rfl, rfl, rfl, rfl, rfl, rfl, rfl, rfl, rfl, rfl, rfl, rfl, rfl, rfl, rfl, rfl, rfl, rfl, rfl, rfl, rfl, trivial⟩ (by rfl) (by rfl) (by omega) (by show 23 ≤ 23; omega) (by omega) (by omega) rfl rfl ?_
  have hb_q2 := jsgn_b (jlz (-q1) r7 r8 0 0 0)
  generalize hq_q2 : (jlz (-q1) r7 r8 0 0 0).sign = q2 at hb_q2 g_3 ⊢
  refine jT_ifF (a := q2) (t := 56) (by rfl) (by rfl) (by rfl) (jw_idd (by omega) (by omega)) (by simp only [jcP] <;> omega) ?_
  refine jT_xiconst (k := 0) (pcN := 55) jIQ_299_54 rfl ?_
  subst hq_q2
  subst hq_q1
  exact jT_ret rfl (by decide) (by show 23 ≤ 24; omega) (by omega) (by omega) ⟨rfl, rfl, rfl⟩
theorem jQ_299_322 {xs : List Int} {d : Nat} {o3 r7 r8 u21_0 u21_1 u21_2 u21_3 u21_4 u21_5 : Int} (h_o3 : 0 ≤ o3 ∧ o3 ≤ 7) (h_r7 : (-20) ≤ r7 ∧ r7 ≤ 20) (h_r8 : (-10) ≤ r8 ∧ r8 ≤ 10) (g_0 : 0 ≤ r7) (g_1 : r7 ≤ 0) (g_2 : r8 < 0) : jT xs (d + 7) 299 23 0 [(0, (4, 0)), (1, (0, r7)), (2, (0, r8)), (3, (0, o3)), (4, (4, 1))] [] [jzQ_371, jgh, (100, [], jS0), jgh, jgh, jgh, jgh, (130, [], [17, 18, 19, 20, 21, 22]), (101, [], [u21_0, u21_1, u21_2, u21_3, u21_4, u21_5]), jgh, jgh, jgh, jgh, jgh, jgh, jgh, jgh, (100, [], (jenc (jlg 0))), (100, [], (jenc (jlg 1))), (100, [], (jenc (jlg 2))), (100, [], (jenc (jlg 3))), (100, [], (jenc (jlg 4))), (100, [], (jenc (jlg 5)))] 80 4280 (fun k v hsN => k = 0 ∧ v = (0, 0) ∧ hsN = [jzQ_371, jgh, (100, [], jS0), jgh, jgh, jgh, jgh, (130, [], [17, 18, 19, 20, 21, 22]), (101, [], [-(jkn r7 r8), r7, r8, 0, 0, 0]), jgh, jgh, jgh, jgh, jgh, jgh, jgh, jgh, (100, [], (jenc (jlg 0))), (100, [], (jenc (jlg 1))), (100, [], (jenc (jlg 2))), (100, [], (jenc (jlg 3))), (100, [], (jenc (jlg 4))), (100, [], (jenc (jlg 5))), (101, [], [-(jkn r7 r8), r7, r8, 0, 0, 0])]) := by
  refine jT_xaload_n (v := (4, 0)) (pcN := 1) jIQ_299_0 rfl rfl rfl ?_
  refine jT_callB [0, 2, 3, 4, 5, 6, 7, 8, 9, 10, 11, 12, 13, 14, 15, 16] (y := 193) (pcN := 4) (dC := 0) (bc1 := 0) (bc2 := 0) (c1 := 80) (c2 := 4280) (as := [(4, 0)]) (asC := [(4, 0)]) (LN := [(0, (4, 0)), (1, (0, r7)), (2, (0, r8)), (3, (0, o3)), (4, (4, 1))]) (stN := []) (hsC := [jzQ_20, jgh, jgh, jgh, jgh, jgh, jgh, (101, [], [u21_0, u21_1, u21_2, u21_3, u21_4, u21_5]), jgh, jgh, jgh, jgh, jgh, jgh, jgh, jgh]) (hsD := jpQ_394) (v := (9, 0)) (st2 := []) (hs2 := jpQ_546) (jQ_193_319 (d := 0)) (by rfl) (by rfl) (by rfl) (by rfl) ⟨rfl, rfl, rfl, rfl, rfl, rfl, rfl, rfl, rfl, rfl, rfl, rfl, rfl, rfl, rfl, rfl, trivial⟩ (by rfl) (by rfl) (by omega) (by show 23 ≤ 23; omega) (by omega) (by omega) rfl rfl ?_
  refine jT_xaload_n (v := (4, 0)) (pcN := 5) jIQ_299_4 rfl rfl rfl ?_
  refine jT_xgetf (a := 0) (t := 1) (ci := 14) (fi := 9) (c := jzQ_371) (v := (4, 8)) (pcN := 8) jIQ_299_5 rfl rfl rfl rfl rfl rfl rfl ?_
  refine jT_xiconst (k := 1) (pcN := 9) jIQ_299_8 rfl ?_
  refine jT_xiload_n (v := (0, r7)) (pcN := 10) jIQ_299_9 rfl rfl rfl ?_
  refine jT_xi2l (x := r7) (z := r7) (pcN := 11) jIQ_299_10 rfl (jw_idd (by omega) (by omega)) rfl ?_
  refine jT_adv 1 (pcN := 12) (LN := [(0, (4, 0)), (1, (0, r7)), (2, (0, r8)), (3, (0, o3)), (4, (4, 1))]) (stN := []) (hsN := [jzQ_371, jgh, (100, [], jS0), jgh, jgh, jgh, jgh, (130, [], [17, 18, 19, 20, 21, 22]), (101, [], [0, r7, 0, 0, 0, 0]), jgh, jgh, jgh, jgh, jgh, jgh, jgh, jgh, (100, [], (jenc (jlg 0))), (100, [], (jenc (jlg 1))), (100, [], (jenc (jlg 2))), (100, [], (jenc (jlg 3))), (100, [], (jenc (jlg 4))), (100, [], (jenc (jlg 5)))]) (c1 := 0) (s1 := 0) (c2 := 80) (s2 := 4280) (by exact rfl) ?_ (by omega) (by omega)
  refine jT_xaload_n (v := (4, 0)) (pcN := 13) jIQ_299_12 rfl rfl rfl ?_
  refine jT_xgetf (a := 0) (t := 1) (ci := 14) (fi := 9) (c := jzQ_371) (v := (4, 8)) (pcN := 16) jIQ_299_13 rfl rfl rfl rfl rfl rfl rfl ?_
  refine jT_xiconst (k := 2) (pcN := 17) jIQ_299_16 rfl ?_
  refine jT_xiload_n (v := (0, r8)) (pcN := 18) jIQ_299_17 rfl rfl rfl ?_
  refine jT_xi2l (x := r8) (z := r8) (pcN := 19) jIQ_299_18 rfl (jw_idd (by omega) (by omega)) rfl ?_
  refine jT_adv 1 (pcN := 20) (LN := [(0, (4, 0)), (1, (0, r7)), (2, (0, r8)), (3, (0, o3)), (4, (4, 1))]) (stN := []) (hsN := [jzQ_371, jgh, (100, [], jS0), jgh, jgh, jgh, jgh, (130, [], [17, 18, 19, 20, 21, 22]), (101, [], [0, r7, r8, 0, 0, 0]), jgh, jgh, jgh, jgh, jgh, jgh, jgh, jgh, (100, [], (jenc (jlg 0))), (100, [], (jenc (jlg 1))), (100, [], (jenc (jlg 2))), (100, [], (jenc (jlg 3))), (100, [], (jenc (jlg 4))), (100, [], (jenc (jlg 5)))]) (c1 := 0) (s1 := 0) (c2 := 80) (s2 := 4280) (by exact rfl) ?_ (by omega) (by omega)
  refine jT_xaload_n (v := (4, 0)) (pcN := 21) jIQ_299_20 rfl rfl rfl ?_
  refine jT_callB [0, 2, 3, 4, 5, 6, 7, 8, 9, 10, 11, 12, 13, 14, 15, 16, 17, 18, 19, 20, 21, 22] (y := 209) (pcN := 24) (dC := 6) (bc1 := 60) (bc2 := 3210) (c1 := 20) (c2 := 1070) (as := [(4, 0)]) (asC := [(4, 0)]) (LN := [(0, (4, 0)), (1, (0, r7)), (2, (0, r8)), (3, (0, o3)), (4, (4, 1))]) (stN := []) (hsC := [jzQ_20, jgh, jgh, jgh, jgh, jgh, (130, [], [16, 17, 18, 19, 20, 21]), (101, [], [0, r7, r8, 0, 0, 0]), jgh, jgh, jgh, jgh, jgh, jgh, jgh, jgh, (100, [], (jenc (jlg 0))), (100, [], (jenc (jlg 1))), (100, [], (jenc (jlg 2))), (100, [], (jenc (jlg 3))), (100, [], (jenc (jlg 4))), (100, [], (jenc (jlg 5)))]) (hsD := [jzQ_20, jgh, jgh, jgh, jgh, jgh, (130, [], [16, 17, 18, 19, 20, 21]), (101, [], [-(jkn r7 r8), r7, r8, 0, 0, 0]), jgh, jgh, jgh, jgh, jgh, jgh, jgh, jgh, (100, [], (jenc (jlg 0))), (100, [], (jenc (jlg 1))), (100, [], (jenc (jlg 2))), (100, [], (jenc (jlg 3))), (100, [], (jenc (jlg 4))), (100, [], (jenc (jlg 5)))]) (v := (1, jkn r7 r8)) (st2 := [(1, jkn r7 r8)]) (hs2 := [jzQ_371, jgh, (100, [], jS0), jgh, jgh, jgh, jgh, (130, [], [17, 18, 19, 20, 21, 22]), (101, [], [-(jkn r7 r8), r7, r8, 0, 0, 0]), jgh, jgh, jgh, jgh, jgh, jgh, jgh, jgh, (100, [], (jenc (jlg 0))), (100, [], (jenc (jlg 1))), (100, [], (jenc (jlg 2))), (100, [], (jenc (jlg 3))), (100, [], (jenc (jlg 4))), (100, [], (jenc (jlg 5)))]) (jQ_209_176 (d := 0) (by omega) (by omega) (by omega) (by omega) (by omega)) (by rfl) (by rfl) (by rfl) (by rfl) ⟨rfl, rfl, rfl, rfl, rfl, rfl, rfl, rfl, rfl, rfl, rfl, rfl, rfl, rfl, rfl, rfl, rfl, rfl, rfl, rfl, rfl, rfl, trivial⟩ (by rfl) (by rfl) (by omega) (by show 23 ≤ 23; omega) (by omega) (by omega) rfl rfl ?_
  have hb_q1 := jkn_b (b := r7) (c := r8) (by omega) (by omega)
  generalize hq_q1 : jkn r7 r8 = q1 at hb_q1 ⊢
  refine jT_eq (LN := [(0, (4, 0)), (1, (0, r7)), (2, (0, r8)), (3, (0, o3)), (4, (4, 1))]) (stN := [(1, q1)]) (hsN := [jzQ_371, jgh, (100, [], jS0), jgh, jgh, jgh, jgh, (130, [], [17, 18, 19, 20, 21, 22]), (101, [], [-q1, r7, r8, 0, 0, 0]), jgh, jgh, jgh, jgh, jgh, jgh, jgh, jgh, (100, [], (jenc (jlg 0))), (100, [], (jenc (jlg 1))), (100, [], (jenc (jlg 2))), (100, [], (jenc (jlg 3))), (100, [], (jenc (jlg 4))), (100, [], (jenc (jlg 5)))]) (rfl) (rfl) (by simp only [List.cons.injEq, Prod.mk.injEq, and_true, true_and] <;> ((try unfold jw); (try unfold jwl); omega)) ?_
  refine jT_xlstore (v := (1, q1)) (LN := [(5, (1, q1)), (0, (4, 0)), (1, (0, r7)), (2, (0, r8)), (3, (0, o3)), (4, (4, 1))]) (pcN := 26) jIQ_299_24 rfl rfl rfl rfl ?_
  have g_3 : 0 ≤ (jlz (-q1) r7 r8 0 0 0).sign := by rw [← hq_q1]; exact jkn_s (by omega) (by omega)
  refine jT_xlload (v := (1, q1)) (pcN := 28) jIQ_299_26 rfl rfl rfl ?_
  refine jT_xaload_n (v := (4, 0)) (pcN := 29) jIQ_299_28 rfl rfl rfl ?_
  refine jT_xgetf (a := 0) (t := 1) (ci := 14) (fi := 9) (c := jzQ_371) (v := (4, 8)) (pcN := 32) jIQ_299_29 rfl rfl rfl rfl rfl rfl rfl ?_
  refine jT_xiconst (k := 0) (pcN := 33) jIQ_299_32 rfl ?_
  refine jT_lald (x := -q1) (a := 8) (j := 0) (fs := []) (X := [-q1, r7, r8, 0, 0, 0]) jIQ_299_33 rfl rfl rfl rfl ?_
  refine jT_eq (LN := [(5, (1, q1)), (0, (4, 0)), (1, (0, r7)), (2, (0, r8)), (3, (0, o3)), (4, (4, 1))]) (stN := [(1, -q1), (1, q1)]) (hsN := [jzQ_371, jgh, (100, [], jS0), jgh, jgh, jgh, jgh, (130, [], [17, 18, 19, 20, 21, 22]), (101, [], [-q1, r7, r8, 0, 0, 0]), jgh, jgh, jgh, jgh, jgh, jgh, jgh, jgh, (100, [], (jenc (jlg 0))), (100, [], (jenc (jlg 1))), (100, [], (jenc (jlg 2))), (100, [], (jenc (jlg 3))), (100, [], (jenc (jlg 4))), (100, [], (jenc (jlg 5)))]) rfl rfl rfl ?_
  refine jT_adv 1 (pcN := 35) (LN := [(5, (1, q1)), (0, (4, 0)), (1, (0, r7)), (2, (0, r8)), (3, (0, o3)), (4, (4, 1))]) (stN := [(1, -(-q1)), (1, q1)]) (hsN := [jzQ_371, jgh, (100, [], jS0), jgh, jgh, jgh, jgh, (130, [], [17, 18, 19, 20, 21, 22]), (101, [], [-q1, r7, r8, 0, 0, 0]), jgh, jgh, jgh, jgh, jgh, jgh, jgh, jgh, (100, [], (jenc (jlg 0))), (100, [], (jenc (jlg 1))), (100, [], (jenc (jlg 2))), (100, [], (jenc (jlg 3))), (100, [], (jenc (jlg 4))), (100, [], (jenc (jlg 5)))]) (c1 := 0) (s1 := 0) (c2 := 20) (s2 := 1070) (by exact rfl) ?_ (by omega) (by omega)
  refine jT_eq (LN := [(5, (1, q1)), (0, (4, 0)), (1, (0, r7)), (2, (0, r8)), (3, (0, o3)), (4, (4, 1))]) (stN := [(1, q1), (1, q1)]) (hsN := [jzQ_371, jgh, (100, [], jS0), jgh, jgh, jgh, jgh, (130, [], [17, 18, 19, 20, 21, 22]), (101, [], [-q1, r7, r8, 0, 0, 0]), jgh, jgh, jgh, jgh, jgh, jgh, jgh, jgh, (100, [], (jenc (jlg 0))), (100, [], (jenc (jlg 1))), (100, [], (jenc (jlg 2))), (100, [], (jenc (jlg 3))), (100, [], (jenc (jlg 4))), (100, [], (jenc (jlg 5)))]) (rfl) (by simp only [List.cons.injEq, Prod.mk.injEq, and_true, true_and] <;> ((try unfold jw); (try unfold jwl); omega)) (rfl) ?_
  refine jT_lcmp (a := q1) (b := q1) (z := 0) (by rfl) (by rfl) (jwl_idd (by omega) (by omega)) (jwl_idd (by omega) (by omega)) (by rw [decide_eq_false (show ¬ ((q1 : Int) < q1) by omega), decide_eq_true (show (q1 : Int) = q1 by omega)]; rfl) ?_
  refine jT_xifF (t := 54) (pcN := 39) jIQ_299_36 rfl (by decide +kernel) rfl rfl ?_
  refine jT_xaload_n (v := (4, 0)) (pcN := 40) jIQ_299_39 rfl rfl rfl ?_
  refine jT_xaload_n (v := (4, 0)) (pcN := 41) jIQ_299_40 rfl rfl rfl ?_
  refine jT_xgetf (a := 0) (t := 1) (ci := 14) (fi := 1) (c := jzQ_371) (v := (4, 2)) (pcN := 44) jIQ_299_41 rfl rfl rfl rfl rfl rfl rfl ?_
  refine jT_xbipush (k := 7) (pcN := 46) jIQ_299_44 (by decide) rfl ?_
  refine jT_xiload_n (v := (0, o3)) (pcN := 47) jIQ_299_46 rfl rfl rfl ?_
  refine jT_ximul (x := 7) (y := o3) (z := 7 * o3) (pcN := 48) jIQ_299_47 rfl (rfl) rfl ?_
  refine jT_callA [0, 2, 3, 4, 5, 6, 7, 8, 9, 10, 11, 12, 13, 14, 15, 16, 17, 18, 19, 20, 21, 22] (y := 240) (pcN := 51) (dC := 4) (bc1 := 20) (bc2 := 1070) (c1 := 0) (c2 := 0) (as := [(4, 0), (4, 2), (0, 7 * o3)]) (asC := [(4, 0), (4, 1), (0, 7 * o3)]) (LN := [(5, (1, q1)), (0, (4, 0)), (1, (0, r7)), (2, (0, r8)), (3, (0, o3)), (4, (4, 1))]) (stN := []) (hsC := [jzQ_20, (100, [], jS0), jgh, jgh, jgh, jgh, (130, [], [16, 17, 18, 19, 20, 21]), (101, [], [-q1, r7, r8, 0, 0, 0]), jgh, jgh, jgh, jgh, jgh, jgh, jgh, jgh, (100, [], (jenc (jlg 0))), (100, [], (jenc (jlg 1))), (100, [], (jenc (jlg 2))), (100, [], (jenc (jlg 3))), (100, [], (jenc (jlg 4))), (100, [], (jenc (jlg 5)))]) (ex := [(101, [], [-q1, r7, r8, 0, 0, 0])]) (v := (0, (jlz (-q1) r7 r8 0 0 0).sign)) (st2 := [(0, (jlz (-q1) r7 r8 0 0 0).sign)]) (hs2 := [jzQ_371, jgh, (100, [], jS0), jgh, jgh, jgh, jgh, (130, [], [17, 18, 19, 20, 21, 22]), (101, [], [-q1, r7, r8, 0, 0, 0]), jgh, jgh, jgh, jgh, jgh, jgh, jgh, jgh, (100, [], (jenc (jlg 0))), (100, [], (jenc (jlg 1))), (100, [], (jenc (jlg 2))), (100, [], (jenc (jlg 3))), (100, [], (jenc (jlg 4))), (100, [], (jenc (jlg 5))), (101, [], [-q1, r7, r8, 0, 0, 0])]) (jQ_240_177 (d := 0) (by omega) (by omega) (by omega) (by omega) (by omega) (by omega) (by omega) (by omega)) (by rfl) (by rfl) (by rfl) (by rfl) ⟨rfl, rfl, rfl, rfl, rfl, rfl, rfl, rfl, rfl, rfl, rfl, rfl, rfl, rfl, rfl, rfl, rfl, rfl, rfl, rfl, rfl, rfl, trivial⟩ (by rfl) (by rfl) (by omega) (by show 23 ≤ 23; omega) (by omega) (by omega) rfl rfl ?_
  have hb_q2 := jsgn_b (jlz (-q1) r7 r8 0 0 0)
  generalize hq_q2 : (jlz (-q1) r7 r8 0 0 0).sign = q2 at hb_q2 g_3 ⊢
  refine jT_ifF (a := q2) (t := 56) (by rfl) (by rfl) (by rfl) (jw_idd (by omega) (by omega)) (by simp only [jcP] <;> omega) ?_
  refine jT_xiconst (k := 0) (pcN := 55) jIQ_299_54 rfl ?_
  subst hq_q2
  subst hq_q1
  exact jT_ret rfl (by decide) (by show 23 ≤ 24; omega) (by omega) (by omega) ⟨rfl, rfl, rfl⟩
theorem jQ_299_323 {xs : List Int} {d : Nat} {o3 r7 r8 u21_0 u21_1 u21_2 u21_3 u21_4 u21_5 : Int} (h_o3 : 0 ≤ o3 ∧ o3 ≤ 7) (h_r7 : (-20) ≤ r7 ∧ r7 ≤ 20) (h_r8 : (-10) ≤ r8 ∧ r8 ≤ 10) (g_0 : r7 < 0) : jT xs (d + 7) 299 23 0 [(0, (4, 0)), (1, (0, r7)), (2, (0, r8)), (3, (0, o3)), (4, (4, 1))] [] [jzQ_371, jgh, (100, [], jS0), jgh, jgh, jgh, jgh, (130, [], [17, 18, 19, 20, 21, 22]), (101, [], [u21_0, u21_1, u21_2, u21_3, u21_4, u21_5]), jgh, jgh, jgh, jgh, jgh, jgh, jgh, jgh, (100, [], (jenc (jlg 0))), (100, [], (jenc (jlg 1))), (100, [], (jenc (jlg 2))), (100, [], (jenc (jlg 3))), (100, [], (jenc (jlg 4))), (100, [], (jenc (jlg 5)))] 80 4280 (fun k v hsN => k = 0 ∧ v = (0, 0) ∧ hsN = [jzQ_371, jgh, (100, [], jS0), jgh, jgh, jgh, jgh, (130, [], [17, 18, 19, 20, 21, 22]), (101, [], [-(jkn r7 r8), r7, r8, 0, 0, 0]), jgh, jgh, jgh, jgh, jgh, jgh, jgh, jgh, (100, [], (jenc (jlg 0))), (100, [], (jenc (jlg 1))), (100, [], (jenc (jlg 2))), (100, [], (jenc (jlg 3))), (100, [], (jenc (jlg 4))), (100, [], (jenc (jlg 5))), (101, [], [-(jkn r7 r8), r7, r8, 0, 0, 0])]) := by
  refine jT_xaload_n (v := (4, 0)) (pcN := 1) jIQ_299_0 rfl rfl rfl ?_
  refine jT_callB [0, 2, 3, 4, 5, 6, 7, 8, 9, 10, 11, 12, 13, 14, 15, 16] (y := 193) (pcN := 4) (dC := 0) (bc1 := 0) (bc2 := 0) (c1 := 80) (c2 := 4280) (as := [(4, 0)]) (asC := [(4, 0)]) (LN := [(0, (4, 0)), (1, (0, r7)), (2, (0, r8)), (3, (0, o3)), (4, (4, 1))]) (stN := []) (hsC := [jzQ_20, jgh, jgh, jgh, jgh, jgh, jgh, (101, [], [u21_0, u21_1, u21_2, u21_3, u21_4, u21_5]), jgh, jgh, jgh, jgh, jgh, jgh, jgh, jgh]) (hsD := jpQ_394) (v := (9, 0)) (st2 := []) (hs2 := jpQ_546) (jQ_193_319 (d := 0)) (by rfl) (by rfl) (by rfl) (by rfl) ⟨rfl, rfl, rfl, rfl, rfl, rfl, rfl, rfl, rfl, rfl, rfl, rfl, rfl, rfl, rfl, rfl, trivial⟩ (by rfl) (by rfl) (by omega) (by show 23 ≤ 23; omega) (by omega) (by omega) rfl rfl ?_
  refine jT_xaload_n (v := (4, 0)) (pcN := 5) jIQ_299_4 rfl rfl rfl ?_
  refine jT_xgetf (a := 0) (t := 1) (ci := 14) (fi := 9) (c := jzQ_371) (v := (4, 8)) (pcN := 8) jIQ_299_5 rfl rfl rfl rfl rfl rfl rfl ?_
  refine jT_xiconst (k := 1) (pcN := 9) jIQ_299_8 rfl ?_
  refine jT_xiload_n (v := (0, r7)) (pcN := 10) jIQ_299_9 rfl rfl rfl ?_
  refine jT_xi2l (x := r7) (z := r7) (pcN := 11) jIQ_299_10 rfl (jw_idd (by omega) (by omega)) rfl ?_
  refine jT_adv 1 (pcN := 12) (LN := [(0, (4, 0)), (1, (0, r7)), (2, (0, r8)), (3, (0, o3)), (4, (4, 1))]) (stN := []) (hsN := [jzQ_371, jgh, (100, [], jS0), jgh, jgh, jgh, jgh, (130, [], [17, 18, 19, 20, 21, 22]), (101, [], [0, r7, 0, 0, 0, 0]), jgh, jgh, jgh, jgh, jgh, jgh, jgh, jgh, (100, [], (jenc (jlg 0))), (100, [], (jenc (jlg 1))), (100, [], (jenc (jlg 2))), (100, [], (jenc (jlg 3))), (100, [], (jenc (jlg 4))), (100, [], (jenc (jlg 5)))]) (c1 := 0) (s1 := 0) (c2 := 80) (s2 := 4280) (by exact rfl) ?_ (by omega) (by omega)
  refine jT_xaload_n (v := (4, 0)) (pcN := 13) jIQ_299_12 rfl rfl rfl ?_
  refine jT_xgetf (a := 0) (t := 1) (ci := 14) (fi := 9) (c := jzQ_371) (v := (4, 8)) (pcN := 16) jIQ_299_13 rfl rfl rfl rfl rfl rfl rfl ?_
  refine jT_xiconst (k := 2) (pcN := 17) jIQ_299_16 rfl ?_
  refine jT_xiload_n (v := (0, r8)) (pcN := 18) jIQ_299_17 rfl rfl rfl ?_
  refine jT_xi2l (x := r8) (z := r8) (pcN := 19) jIQ_299_18 rfl (jw_idd (by omega) (by omega)) rfl ?_
  refine jT_adv 1 (pcN := 20) (LN := [(0, (4, 0)), (1, (0, r7)), (2, (0, r8)), (3, (0, o3)), (4, (4, 1))]) (stN := []) (hsN := [jzQ_371, jgh, (100, [], jS0), jgh, jgh, jgh, jgh, (130, [], [17, 18, 19, 20, 21, 22]), (101, [], [0, r7, r8, 0, 0, 0]), jgh, jgh, jgh, jgh, jgh, jgh, jgh, jgh, (100, [], (jenc (jlg 0))), (100, [], (jenc (jlg 1))), (100, [], (jenc (jlg 2))), (100, [], (jenc (jlg 3))), (100, [], (jenc (jlg 4))), (100, [], (jenc (jlg 5)))]) (c1 := 0) (s1 := 0) (c2 := 80) (s2 := 4280) (by exact rfl) ?_ (by omega) (by omega)
  refine jT_xaload_n (v := (4, 0)) (pcN := 21) jIQ_299_20 rfl rfl rfl ?_
  refine jT_callB [0, 2, 3, 4, 5, 6, 7, 8, 9, 10, 11, 12, 13, 14, 15, 16, 17, 18, 19, 20, 21, 22] (y := 209) (pcN := 24) (dC := 6) (bc1 := 60) (bc2 := 3210) (c1 := 20) (c2 := 1070) (as := [(4, 0)]) (asC := [(4, 0)]) (LN := [(0, (4, 0)), (1, (0, r7)), (2, (0, r8)), (3, (0, o3)), (4, (4, 1))]) (stN := []) (hsC := [jzQ_20, jgh, jgh, jgh, jgh, jgh, (130, [], [16, 17, 18, 19, 20, 21]), (101, [], [0, r7, r8, 0, 0, 0]), jgh, jgh, jgh, jgh, jgh, jgh, jgh, jgh, (100, [], (jenc (jlg 0))), (100, [], (jenc (jlg 1))), (100, [], (jenc (jlg 2))), (100, [], (jenc (jlg 3))), (100, [], (jenc (jlg 4))), (100, [], (jenc (jlg 5)))]) (hsD := [jzQ_20, jgh, jgh, jgh, jgh, jgh, (130, [], [16, 17, 18, 19, 20, 21]), (101, [], [-(jkn r7 r8), r7, r8, 0, 0, 0]), jgh, jgh, jgh, jgh, jgh, jgh, jgh, jgh, (100, [], (jenc (jlg 0))), (100, [], (jenc (jlg 1))), (100, [], (jenc (jlg 2))), (100, [], (jenc (jlg 3))), (100, [], (jenc (jlg 4))), (100, [], (jenc (jlg 5)))]) (v := (1, jkn r7 r8)) (st2 := [(1, jkn r7 r8)]) (hs2 := [jzQ_371, jgh, (100, [], jS0), jgh, jgh, jgh, jgh, (130, [], [17, 18, 19, 20, 21, 22]), (101, [], [-(jkn r7 r8), r7, r8, 0, 0, 0]), jgh, jgh, jgh, jgh, jgh, jgh, jgh, jgh, (100, [], (jenc (jlg 0))), (100, [], (jenc (jlg 1))), (100, [], (jenc (jlg 2))), (100, [], (jenc (jlg 3))), (100, [], (jenc (jlg 4))), (100, [], (jenc (jlg 5)))]) (jQ_209_179 (d := 0) (by omega) (by omega) (by omega)) (by rfl) (by rfl) (by rfl) (by rfl) ⟨rfl, rfl, rfl, rfl, rfl, rfl, rfl, rfl, rfl, rfl, rfl, rfl, rfl, rfl, rfl, rfl, rfl, rfl, rfl, rfl, rfl, rfl, trivial⟩ (by rfl) (by rfl) (by omega) (by show 23 ≤ 23; omega) (by omega) (by omega) rfl rfl ?_
  have hb_q1 := jkn_b (b := r7) (c := r8) (by omega) (by omega)
  generalize hq_q1 : jkn r7 r8 = q1 at hb_q1 ⊢
  refine jT_eq (LN := [(0, (4, 0)), (1, (0, r7)), (2, (0, r8)), (3, (0, o3)), (4, (4, 1))]) (stN := [(1, q1)]) (hsN := [jzQ_371, jgh, (100, [], jS0), jgh, jgh, jgh, jgh, (130, [], [17, 18, 19, 20, 21, 22]), (101, [], [-q1, r7, r8, 0, 0, 0]), jgh, jgh, jgh, jgh, jgh, jgh, jgh, jgh, (100, [], (jenc (jlg 0))), (100, [], (jenc (jlg 1))), (100, [], (jenc (jlg 2))), (100, [], (jenc (jlg 3))), (100, [], (jenc (jlg 4))), (100, [], (jenc (jlg 5)))]) (rfl) (rfl) (by simp only [List.cons.injEq, Prod.mk.injEq, and_true, true_and] <;> ((try unfold jw); (try unfold jwl); omega)) ?_
  refine jT_xlstore (v := (1, q1)) (LN := [(5, (1, q1)), (0, (4, 0)), (1, (0, r7)), (2, (0, r8)), (3, (0, o3)), (4, (4, 1))]) (pcN := 26) jIQ_299_24 rfl rfl rfl rfl ?_
  have g_1 : 0 ≤ (jlz (-q1) r7 r8 0 0 0).sign := by rw [← hq_q1]; exact jkn_s (by omega) (by omega)
  refine jT_xlload (v := (1, q1)) (pcN := 28) jIQ_299_26 rfl rfl rfl ?_
  refine jT_xaload_n (v := (4, 0)) (pcN := 29) jIQ_299_28 rfl rfl rfl ?_
  refine jT_xgetf (a := 0) (t := 1) (ci := 14) (fi := 9) (c := jzQ_371) (v := (4, 8)) (pcN := 32) jIQ_299_29 rfl rfl rfl rfl rfl rfl rfl ?_
  refine jT_xiconst (k := 0) (pcN := 33) jIQ_299_32 rfl ?_
  refine jT_lald (x := -q1) (a := 8) (j := 0) (fs := []) (X := [-q1, r7, r8, 0, 0, 0]) jIQ_299_33 rfl rfl rfl rfl ?_
  refine jT_eq (LN := [(5, (1, q1)), (0, (4, 0)), (1, (0, r7)), (2, (0, r8)), (3, (0, o3)), (4, (4, 1))]) (stN := [(1, -q1), (1, q1)]) (hsN := [jzQ_371, jgh, (100, [], jS0), jgh, jgh, jgh, jgh, (130, [], [17, 18, 19, 20, 21, 22]), (101, [], [-q1, r7, r8, 0, 0, 0]), jgh, jgh, jgh, jgh, jgh, jgh, jgh, jgh, (100, [], (jenc (jlg 0))), (100, [], (jenc (jlg 1))), (100, [], (jenc (jlg 2))), (100, [], (jenc (jlg 3))), (100, [], (jenc (jlg 4))), (100, [], (jenc (jlg 5)))]) rfl rfl rfl ?_
  refine jT_adv 1 (pcN := 35) (LN := [(5, (1, q1)), (0, (4, 0)), (1, (0, r7)), (2, (0, r8)), (3, (0, o3)), (4, (4, 1))]) (stN := [(1, -(-q1)), (1, q1)]) (hsN := [jzQ_371, jgh, (100, [], jS0), jgh, jgh, jgh, jgh, (130, [], [17, 18, 19, 20, 21, 22]), (101, [], [-q1, r7, r8, 0, 0, 0]), jgh, jgh, jgh, jgh, jgh, jgh, jgh, jgh, (100, [], (jenc (jlg 0))), (100, [], (jenc (jlg 1))), (100, [], (jenc (jlg 2))), (100, [], (jenc (jlg 3))), (100, [], (jenc (jlg 4))), (100, [], (jenc (jlg 5)))]) (c1 := 0) (s1 := 0) (c2 := 20) (s2 := 1070) (by exact rfl) ?_ (by omega) (by omega)
  refine jT_eq (LN := [(5, (1, q1)), (0, (4, 0)), (1, (0, r7)), (2, (0, r8)), (3, (0, o3)), (4, (4, 1))]) (stN := [(1, q1), (1, q1)]) (hsN := [jzQ_371, jgh, (100, [], jS0), jgh, jgh, jgh, jgh, (130, [], [17, 18, 19, 20, 21, 22]), (101, [], [-q1, r7, r8, 0, 0, 0]), jgh, jgh, jgh, jgh, jgh, jgh, jgh, jgh, (100, [], (jenc (jlg 0))), (100, [], (jenc (jlg 1))), (100, [], (jenc (jlg 2))), (100, [], (jenc (jlg 3))), (100, [], (jenc (jlg 4))), (100, [], (jenc (jlg 5)))]) (rfl) (by simp only [List.cons.injEq, Prod.mk.injEq, and_true, true_and] <;> ((try unfold jw); (try unfold jwl); omega)) (rfl) ?_
  refine jT_lcmp (a := q1) (b := q1) (z := 0) (by rfl) (by rfl) (jwl_idd (by omega) (by omega)) (jwl_idd (by omega) (by omega)) (by rw [decide_eq_false (show ¬ ((q1 : Int) < q1) by omega), decide_eq_true (show (q1 : Int) = q1 by omega)]; rfl) ?_
  refine jT_xifF (t := 54) (pcN := 39) jIQ_299_36 rfl (by decide +kernel) rfl rfl ?_
  refine jT_xaload_n (v := (4, 0)) (pcN := 40) jIQ_299_39 rfl rfl rfl ?_
  refine jT_xaload_n (v := (4, 0)) (pcN := 41) jIQ_299_40 rfl rfl rfl ?_
  refine jT_xgetf (a := 0) (t := 1) (ci := 14) (fi := 1) (c := jzQ_371) (v := (4, 2)) (pcN := 44) jIQ_299_41 rfl rfl rfl rfl rfl rfl rfl ?_
  refine jT_xbipush (k := 7) (pcN := 46) jIQ_299_44 (by decide) rfl ?_
  refine jT_xiload_n (v := (0, o3)) (pcN := 47) jIQ_299_46 rfl rfl rfl ?_
  refine jT_ximul (x := 7) (y := o3) (z := 7 * o3) (pcN := 48) jIQ_299_47 rfl (rfl) rfl ?_
  refine jT_callA [0, 2, 3, 4, 5, 6, 7, 8, 9, 10, 11, 12, 13, 14, 15, 16, 17, 18, 19, 20, 21, 22] (y := 240) (pcN := 51) (dC := 4) (bc1 := 20) (bc2 := 1070) (c1 := 0) (c2 := 0) (as := [(4, 0), (4, 2), (0, 7 * o3)]) (asC := [(4, 0), (4, 1), (0, 7 * o3)]) (LN := [(5, (1, q1)), (0, (4, 0)), (1, (0, r7)), (2, (0, r8)), (3, (0, o3)), (4, (4, 1))]) (stN := []) (hsC := [jzQ_20, (100, [], jS0), jgh, jgh, jgh, jgh, (130, [], [16, 17, 18, 19, 20, 21]), (101, [], [-q1, r7, r8, 0, 0, 0]), jgh, jgh, jgh, jgh, jgh, jgh, jgh, jgh, (100, [], (jenc (jlg 0))), (100, [], (jenc (jlg 1))), (100, [], (jenc (jlg 2))), (100, [], (jenc (jlg 3))), (100, [], (jenc (jlg 4))), (100, [], (jenc (jlg 5)))]) (ex := [(101, [], [-q1, r7, r8, 0, 0, 0])]) (v := (0, (jlz (-q1) r7 r8 0 0 0).sign)) (st2 := [(0, (jlz (-q1) r7 r8 0 0 0).sign)]) (hs2 := [jzQ_371, jgh, (100, [], jS0), jgh, jgh, jgh, jgh, (130, [], [17, 18, 19, 20, 21, 22]), (101, [], [-q1, r7, r8, 0, 0, 0]), jgh, jgh, jgh, jgh, jgh, jgh, jgh, jgh, (100, [], (jenc (jlg 0))), (100, [], (jenc (jlg 1))), (100, [], (jenc (jlg 2))), (100, [], (jenc (jlg 3))), (100, [], (jenc (jlg 4))), (100, [], (jenc (jlg 5))), (101, [], [-q1, r7, r8, 0, 0, 0])]) (jQ_240_180 (d := 0) (by omega) (by omega) (by omega) (by omega) (by omega) (by omega)) (by rfl) (by rfl) (by rfl) (by rfl) ⟨rfl, rfl, rfl, rfl, rfl, rfl, rfl, rfl, rfl, rfl, rfl, rfl, rfl, rfl, rfl, rfl, rfl, rfl, rfl, rfl, rfl, rfl, trivial⟩ (by rfl) (by rfl) (by omega) (by show 23 ≤ 23; omega) (by omega) (by omega) rfl rfl ?_
  have hb_q2 := jsgn_b (jlz (-q1) r7 r8 0 0 0)
  generalize hq_q2 : (jlz (-q1) r7 r8 0 0 0).sign = q2 at hb_q2 g_1 ⊢
  refine jT_ifF (a := q2) (t := 56) (by rfl) (by rfl) (by rfl) (jw_idd (by omega) (by omega)) (by simp only [jcP] <;> omega) ?_
  refine jT_xiconst (k := 0) (pcN := 55) jIQ_299_54 rfl ?_
  subst hq_q2
  subst hq_q1
  exact jT_ret rfl (by decide) (by show 23 ≤ 24; omega) (by omega) (by omega) ⟨rfl, rfl, rfl⟩
def jzQ_797 : JC := (9, [(4, 32), (4, 33), (4, 34), (4, 35), (4, 36)], [])
def jzQ_798 : JC := (114, [], [43, 43, 43, 43, 43, 43, 43, 43])
def jpQ_799 : List JC := [jzQ_744, jzQ_745, (101, [], [0]), jgh, (8, [(4, 30), (4, 31)], []), jgh, jgh, jgh, jgh, jgh, jgh, (101, [], [0, 0, 0, 0, 0, 0]), (101, [], [0, 0, 0, 0, 0, 0]), jgh, jzQ_797, (100, [], jS0), jgh, jgh, jgh, jgh, (130, [], [37, 38, 39, 40, 41, 42]), (101, [], [0, 0, 0, 0, 0, 0]), jgh, jgh, jgh, jgh, jgh, jgh, jgh, jgh, jgh, (101, [], [0, 0, 0, 0, 0, 0]), jzQ_798, jgh, jgh, jgh, jgh, (100, [], (jenc (jlg 0))), (100, [], (jenc (jlg 1))), (100, [], (jenc (jlg 2))), (100, [], (jenc (jlg 3))), (100, [], (jenc (jlg 4))), (100, [], (jenc (jlg 5))), (4, [(4, 44), (1, 1)], []), (101, [], [0, 0, 0, 0, 0, 0])]
def jpQ_800 : List JC := [jzQ_744, jzQ_745, (101, [], [0]), jgh, (8, [(4, 30), (4, 31)], []), jgh, jgh, jgh, jgh, jgh, jgh, jgh, (101, [], [0, 0, 0, 0, 0, 0]), jgh, jzQ_797, (100, [], jS0), jgh, jgh, jgh, jgh, (130, [], [37, 38, 39, 40, 41, 42]), (101, [], [0, 0, 0, 0, 0, 0]), jgh, jgh, jgh, jgh, jgh, jgh, jgh, jgh, jgh, (101, [], [0, 0, 0, 0, 0, 0]), jzQ_798, jgh, jgh, jgh, jgh, (100, [], (jenc (jlg 0))), (100, [], (jenc (jlg 1))), (100, [], (jenc (jlg 2))), (100, [], (jenc (jlg 3))), (100, [], (jenc (jlg 4))), (100, [], (jenc (jlg 5))), (4, [(4, 44), (1, 1)], []), (101, [], [0, 0, 0, 0, 0, 0]), (101, [], [1, 0, 0, 0, 0, 0]), (4, [(4, 45), (1, 1)], [])]
def jpQ_801 : List JC := [jzQ_744, jzQ_745, (101, [], [0]), jgh, (8, [(4, 30), (4, 31)], []), jgh, jgh, jgh, jgh, jgh, jgh, jgh, (101, [], [0, 0, 0, 0, 0, 0]), jgh, jzQ_797, (100, [], jS0), jgh, jgh, jgh, jgh, (130, [], [37, 38, 39, 40, 41, 42]), jgh, jgh, jgh, jgh, jgh, jgh, jgh, jgh, jgh, jgh, (101, [], [0, 0, 0, 0, 0, 0]), jzQ_798, jgh, jgh, jgh, jgh, (100, [], (jenc (jlg 0))), (100, [], (jenc (jlg 1))), (100, [], (jenc (jlg 2))), (100, [], (jenc (jlg 3))), (100, [], (jenc (jlg 4))), (100, [], (jenc (jlg 5))), (4, [(4, 44), (1, 1)], []), (101, [], [0, 0, 0, 0, 0, 0]), (101, [], [1, 0, 0, 0, 0, 0]), (4, [(4, 45), (1, 1)], []), (101, [], [(-1), 0, 0, 0, 0, 0]), (100, [], (jenc 0)), (100, [], (jenc (-1))), (100, [], (jenc ((-1) * (jlg 0)))), (100, [], [0, 0, 0])]
theorem jIQ_379_2958 : jmI (jm 379) 2958 = (.aload_n 3, 1) := by rfl
theorem jIQ_379_2959 : jmI (jm 379) 2959 = (.iconst 0, 1) := by rfl
theorem jIQ_379_2960 : jmI (jm 379) 2960 = (.laload, 1) := by rfl
theorem jIQ_379_2961 : jmI (jm 379) 2961 = (.iload 7, 2) := by rfl
theorem jIQ_379_2963 : jmI (jm 379) 2963 = (.i2l, 1) := by rfl
theorem jIQ_379_2965 : jmI (jm 379) 2965 = (.ifCond .eq 5, 3) := by rfl
set_option maxRecDepth 100000 in
theorem jL_38_4 {d : Nat} {x0 x1 x2 x3 x4 : Int} (h_x0 : (-2147483648) ≤ x0 ∧ x0 ≤ 2147483647) (h_x1 : 0 ≤ x1 ∧ x1 ≤ 20) (h_x2 : 0 ≤ x2 ∧ x2 ≤ 10) (h_x3 : 0 ≤ x3 ∧ x3 ≤ 7) (h_x4 : 0 ≤ x4 ∧ x4 ≤ 0) : jT [x0, x1, x2, x3, x4] (d + 11) 379 45 2881 [(5, (0, 0)), (4, (4, 3)), (3, (4, 2)), (2, (4, 1)), (1, (4, 0)), (0, (6, 0))] [] jpQ_799 68887 3685265 (fun k v hsN => k = 0 ∧ v = (0, 1)) := by
  refine jT_xaload_n (v := (4, 0)) (pcN := 2882) jIQ_379_2881 rfl rfl rfl ?_
  refine jT_xaload_n (v := (6, 0)) (pcN := 2883) jIQ_379_2882 rfl rfl rfl ?_
  refine jT_xiload (v := (0, 0)) (pcN := 2885) jIQ_379_2883 rfl rfl rfl ?_
  refine jT_xiconst (k := 1) (pcN := 2886) jIQ_379_2885 rfl ?_
  refine jT_xiadd (x := 0) (y := 1) (z := 1) (pcN := 2887) jIQ_379_2886 rfl (by decide) rfl ?_
  refine jT_adv 1 (pcN := 2888) (LN := [(5, (0, 0)), (4, (4, 3)), (3, (4, 2)), (2, (4, 1)), (1, (4, 0)), (0, (6, 0))]) (stN := [(0, x1), (4, 0)]) (hsN := jpQ_799) (c1 := 0) (s1 := 0) (c2 := 68887) (s2 := 3685265) (by exact rfl) ?_ (by omega) (by omega)
  refine jT_xaload_n (v := (6, 0)) (pcN := 2889) jIQ_379_2888 rfl rfl rfl ?_
  refine jT_xiload (v := (0, 0)) (pcN := 2891) jIQ_379_2889 rfl rfl rfl ?_
  refine jT_xiconst (k := 2) (pcN := 2892) jIQ_379_2891 rfl ?_
  refine jT_xiadd (x := 0) (y := 2) (z := 2) (pcN := 2893) jIQ_379_2892 rfl (by decide) rfl ?_
  refine jT_adv 1 (pcN := 2894) (LN := [(5, (0, 0)), (4, (4, 3)), (3, (4, 2)), (2, (4, 1)), (1, (4, 0)), (0, (6, 0))]) (stN := [(0, x2), (0, x1), (4, 0)]) (hsN := jpQ_799) (c1 := 0) (s1 := 0) (c2 := 68887) (s2 := 3685265) (by exact rfl) ?_ (by omega) (by omega)
  refine jT_xaload_n (v := (6, 0)) (pcN := 2895) jIQ_379_2894 rfl rfl rfl ?_
  refine jT_xiload (v := (0, 0)) (pcN := 2897) jIQ_379_2895 rfl rfl rfl ?_
  refine jT_xiconst (k := 3) (pcN := 2898) jIQ_379_2897 rfl ?_
  refine jT_xiadd (x := 0) (y := 3) (z := 3) (pcN := 2899) jIQ_379_2898 rfl (by decide) rfl ?_
  refine jT_adv 1 (pcN := 2900) (LN := [(5, (0, 0)), (4, (4, 3)), (3, (4, 2)), (2, (4, 1)), (1, (4, 0)), (0, (6, 0))]) (stN := [(0, x3), (0, x2), (0, x1), (4, 0)]) (hsN := jpQ_799) (c1 := 0) (s1 := 0) (c2 := 68887) (s2 := 3685265) (by exact rfl) ?_ (by omega) (by omega)
  refine jT_xaload_n (v := (6, 0)) (pcN := 2901) jIQ_379_2900 rfl rfl rfl ?_
  refine jT_xiload (v := (0, 0)) (pcN := 2903) jIQ_379_2901 rfl rfl rfl ?_
  refine jT_xiconst (k := 4) (pcN := 2904) jIQ_379_2903 rfl ?_
  refine jT_xiadd (x := 0) (y := 4) (z := 4) (pcN := 2905) jIQ_379_2904 rfl (by decide) rfl ?_
  refine jT_adv 1 (pcN := 2906) (LN := [(5, (0, 0)), (4, (4, 3)), (3, (4, 2)), (2, (4, 1)), (1, (4, 0)), (0, (6, 0))]) (stN := [(0, x4), (0, x3), (0, x2), (0, x1), (4, 0)]) (hsN := jpQ_799) (c1 := 0) (s1 := 0) (c2 := 68887) (s2 := 3685265) (by exact rfl) ?_ (by omega) (by omega)
  refine jT_eq (LN := [(5, (0, 0)), (4, (4, 3)), (3, (4, 2)), (2, (4, 1)), (1, (4, 0)), (0, (6, 0))]) (stN := [(0, 0), (0, x3), (0, x2), (0, x1), (4, 0)]) (hsN := [jzQ_744, jzQ_745, (101, [], [0]), jgh, (8, [(4, 30), (4, 31)], []), jgh, jgh, jgh, jgh, jgh, jgh, (101, [], [0, 0, 0, 0, 0, 0]), (101, [], [0, 0, 0, 0, 0, 0]), jgh, jzQ_797, (100, [], jS0), jgh, jgh, jgh, jgh, (130, [], [37, 38, 39, 40, 41, 42]), (101, [], [0, 0, 0, 0, 0, 0]), jgh, jgh, jgh, jgh, jgh, jgh, jgh, jgh, jgh, (101, [], [0, 0, 0, 0, 0, 0]), jzQ_798, jgh, jgh, jgh, jgh, (100, [], (jenc (jlg 0))), (100, [], (jenc (jlg 1))), (100, [], (jenc (jlg 2))), (100, [], (jenc (jlg 3))), (100, [], (jenc (jlg 4))), (100, [], (jenc (jlg 5))), (4, [(4, 44), (1, 1)], []), (101, [], [0, 0, 0, 0, 0, 0])]) (rfl) (by simp only [List.cons.injEq, Prod.mk.injEq, and_true, true_and] <;> ((try unfold jw); (try unfold jwl); omega)) (rfl) ?_
  refine jT_xaload_n (v := (4, 2)) (pcN := 2907) jIQ_379_2906 rfl rfl rfl ?_
  refine jT_fB [0, 2, 4, 5, 6, 7, 8, 9, 10, 11, 12, 13, 14, 30, 31, 32, 33, 34, 35, 36, 43, 44] 45 (y := 362) (pcN := 2910) (dC := 6) (bc1 := 2) (bc2 := 8) (c1 := 68885) (c2 := 3685257) (as := [(4, 0), (0, x1), (0, x2), (0, x3), (0, 0), (4, 2)]) (asC := [(4, 0), (0, x1), (0, x2), (0, x3), (0, 0), (4, 1)]) (LN := [(5, (0, 0)), (4, (4, 3)), (3, (4, 2)), (2, (4, 1)), (1, (4, 0)), (0, (6, 0))]) (stN := []) (hsC := jpQ_340) (hsD := jpQ_336) (v := (0, 0)) (st2 := [(0, 0)]) (hs2 := jpQ_800) (jQ_362_134 (d := 0) (by omega) (by omega) (by omega)) (by rfl) (by rfl) (by decide +kernel) (by rfl) (by rfl) (by omega) (by omega) (by omega) (by omega) rfl (by decide +kernel) ?_
  refine jT_xistore (v := (0, 0)) (LN := [(6, (0, 0)), (5, (0, 0)), (4, (4, 3)), (3, (4, 2)), (2, (4, 1)), (1, (4, 0)), (0, (6, 0))]) (pcN := 2912) jIQ_379_2910 rfl rfl rfl rfl ?_
  refine jT_xaload_n (v := (4, 1)) (pcN := 2913) jIQ_379_2912 rfl rfl rfl ?_
  refine jT_xaload_n (v := (6, 0)) (pcN := 2914) jIQ_379_2913 rfl rfl rfl ?_
  refine jT_xiload (v := (0, 0)) (pcN := 2916) jIQ_379_2914 rfl rfl rfl ?_
  refine jT_xiconst (k := 1) (pcN := 2917) jIQ_379_2916 rfl ?_
  refine jT_xiadd (x := 0) (y := 1) (z := 1) (pcN := 2918) jIQ_379_2917 rfl (by decide) rfl ?_
  refine jT_adv 1 (pcN := 2919) (LN := [(6, (0, 0)), (5, (0, 0)), (4, (4, 3)), (3, (4, 2)), (2, (4, 1)), (1, (4, 0)), (0, (6, 0))]) (stN := [(0, x1), (4, 1)]) (hsN := jpQ_800) (c1 := 0) (s1 := 0) (c2 := 68885) (s2 := 3685257) (by exact rfl) ?_ (by omega) (by omega)
  refine jT_xaload_n (v := (6, 0)) (pcN := 2920) jIQ_379_2919 rfl rfl rfl ?_
  refine jT_xiload (v := (0, 0)) (pcN := 2922) jIQ_379_2920 rfl rfl rfl ?_
  refine jT_xiconst (k := 2) (pcN := 2923) jIQ_379_2922 rfl ?_
  refine jT_xiadd (x := 0) (y := 2) (z := 2) (pcN := 2924) jIQ_379_2923 rfl (by decide) rfl ?_
  refine jT_adv 1 (pcN := 2925) (LN := [(6, (0, 0)), (5, (0, 0)), (4, (4, 3)), (3, (4, 2)), (2, (4, 1)), (1, (4, 0)), (0, (6, 0))]) (stN := [(0, x2), (0, x1), (4, 1)]) (hsN := jpQ_800) (c1 := 0) (s1 := 0) (c2 := 68885) (s2 := 3685257) (by exact rfl) ?_ (by omega) (by omega)
  refine jT_xaload_n (v := (6, 0)) (pcN := 2926) jIQ_379_2925 rfl rfl rfl ?_
  refine jT_xiload (v := (0, 0)) (pcN := 2928) jIQ_379_2926 rfl rfl rfl ?_
  refine jT_xiconst (k := 3) (pcN := 2929) jIQ_379_2928 rfl ?_
  refine jT_xiadd (x := 0) (y := 3) (z := 3) (pcN := 2930) jIQ_379_2929 rfl (by decide) rfl ?_
  refine jT_adv 1 (pcN := 2931) (LN := [(6, (0, 0)), (5, (0, 0)), (4, (4, 3)), (3, (4, 2)), (2, (4, 1)), (1, (4, 0)), (0, (6, 0))]) (stN := [(0, x3), (0, x2), (0, x1), (4, 1)]) (hsN := jpQ_800) (c1 := 0) (s1 := 0) (c2 := 68885) (s2 := 3685257) (by exact rfl) ?_ (by omega) (by omega)
  refine jT_xaload_n (v := (6, 0)) (pcN := 2932) jIQ_379_2931 rfl rfl rfl ?_
  refine jT_xiload (v := (0, 0)) (pcN := 2934) jIQ_379_2932 rfl rfl rfl ?_
  refine jT_xiconst (k := 4) (pcN := 2935) jIQ_379_2934 rfl ?_
  refine jT_xiadd (x := 0) (y := 4) (z := 4) (pcN := 2936) jIQ_379_2935 rfl (by decide) rfl ?_
  refine jT_adv 1 (pcN := 2937) (LN := [(6, (0, 0)), (5, (0, 0)), (4, (4, 3)), (3, (4, 2)), (2, (4, 1)), (1, (4, 0)), (0, (6, 0))]) (stN := [(0, x4), (0, x3), (0, x2), (0, x1), (4, 1)]) (hsN := jpQ_800) (c1 := 0) (s1 := 0) (c2 := 68885) (s2 := 3685257) (by exact rfl) ?_ (by omega) (by omega)
  refine jT_eq (LN := [(6, (0, 0)), (5, (0, 0)), (4, (4, 3)), (3, (4, 2)), (2, (4, 1)), (1, (4, 0)), (0, (6, 0))]) (stN := [(0, 0), (0, x3), (0, x2), (0, x1), (4, 1)]) (hsN := [jzQ_744, jzQ_745, (101, [], [0]), jgh, (8, [(4, 30), (4, 31)], []), jgh, jgh, jgh, jgh, jgh, jgh, jgh, (101, [], [0, 0, 0, 0, 0, 0]), jgh, jzQ_797, (100, [], jS0), jgh, jgh, jgh, jgh, (130, [], [37, 38, 39, 40, 41, 42]), (101, [], [0, 0, 0, 0, 0, 0]), jgh, jgh, jgh, jgh, jgh, jgh, jgh, jgh, jgh, (101, [], [0, 0, 0, 0, 0, 0]), jzQ_798, jgh, jgh, jgh, jgh, (100, [], (jenc (jlg 0))), (100, [], (jenc (jlg 1))), (100, [], (jenc (jlg 2))), (100, [], (jenc (jlg 3))), (100, [], (jenc (jlg 4))), (100, [], (jenc (jlg 5))), (4, [(4, 44), (1, 1)], []), (101, [], [0, 0, 0, 0, 0, 0]), (101, [], [1, 0, 0, 0, 0, 0]), (4, [(4, 45), (1, 1)], [])]) (rfl) (by simp only [List.cons.injEq, Prod.mk.injEq, and_true, true_and] <;> ((try unfold jw); (try unfold jwl); omega)) (rfl) ?_
  refine jT_fB [1, 15, 16, 17, 18, 19, 20, 21, 22, 23, 24, 25, 26, 27, 28, 29, 37, 38, 39, 40, 41, 42] 47 (y := 298) (pcN := 2940) (dC := 10) (bc1 := 68885) (bc2 := 3685257) (c1 := 0) (c2 := 0) (as := [(4, 1), (0, x1), (0, x2), (0, x3), (0, 0)]) (asC := [(4, 0), (0, x1), (0, x2), (0, x3), (0, 0)]) (LN := [(6, (0, 0)), (5, (0, 0)), (4, (4, 3)), (3, (4, 2)), (2, (4, 1)), (1, (4, 0)), (0, (6, 0))]) (stN := []) (hsC := jpQ_573) (hsD := jpQ_628) (v := (0, 0)) (st2 := [(0, 0)]) (hs2 := jpQ_801) (jQ_298_189 (d := 0) (by omega) (by omega) (by omega)) (by rfl) (by rfl) (by decide +kernel) (by rfl) (by rfl) (by omega) (by omega) (by omega) (by omega) rfl (by decide +kernel) ?_
  refine jT_xistore (v := (0, 0)) (LN := [(7, (0, 0)), (6, (0, 0)), (5, (0, 0)), (4, (4, 3)), (3, (4, 2)), (2, (4, 1)), (1, (4, 0)), (0, (6, 0))]) (pcN := 2942) jIQ_379_2940 rfl rfl rfl rfl ?_
  refine jT_xaload_n (v := (4, 1)) (pcN := 2943) jIQ_379_2942 rfl rfl rfl ?_
  refine jT_fR [1, 15, 16, 17, 18, 19, 20, 21, 22, 23, 24, 25, 26, 27, 28, 29] 52 (y := 186) (pcN := 2946) (dC := 0) (bc1 := 0) (bc2 := 0) (c1 := 0) (c2 := 0) (as := [(4, 1)]) (asC := [(4, 0)]) (LN := [(7, (0, 0)), (6, (0, 0)), (5, (0, 0)), (4, (4, 3)), (3, (4, 2)), (2, (4, 1)), (1, (4, 0)), (0, (6, 0))]) (stN := []) (hsC := jpQ_21) (v := (0, 0)) (st2 := [(0, 0)]) (jQ_186_190 (d := 0)) (by rfl) (by rfl) (by decide +kernel) (by rfl) (by rfl) (by omega) (by omega) (by omega) (by omega) rfl ?_
  refine jT_xiload (v := (0, 0)) (pcN := 2948) jIQ_379_2946 rfl rfl rfl ?_
  refine jT_xicT (pcN := 2953) jIQ_379_2948 rfl (by decide +kernel) rfl ?_
  refine jT_xiload (v := (0, 0)) (pcN := 2955) jIQ_379_2953 rfl rfl rfl ?_
  refine jT_xifF (t := 2970) (pcN := 2958) jIQ_379_2955 rfl (by decide +kernel) rfl rfl ?_
  refine jT_xaload_n (v := (4, 2)) (pcN := 2959) jIQ_379_2958 rfl rfl rfl ?_
  refine jT_xiconst (k := 0) (pcN := 2960) jIQ_379_2959 rfl ?_
  refine jT_lald (x := 0) (a := 2) (j := 0) (fs := []) (X := [0]) jIQ_379_2960 rfl rfl rfl rfl ?_
  refine jT_eq (LN := [(7, (0, 0)), (6, (0, 0)), (5, (0, 0)), (4, (4, 3)), (3, (4, 2)), (2, (4, 1)), (1, (4, 0)), (0, (6, 0))]) (stN := [(1, 0)]) (hsN := jpQ_801) rfl rfl rfl ?_
  refine jT_xiload (v := (0, 0)) (pcN := 2963) jIQ_379_2961 rfl rfl rfl ?_
  refine jT_xi2l (x := 0) (z := 0) (pcN := 2964) jIQ_379_2963 rfl (by decide +kernel) rfl ?_
  refine jT_lcmp (a := 0) (b := 0) (z := 0) (by rfl) (by rfl) (by decide +kernel) (by decide +kernel) (by decide) ?_
  refine jT_xifT (pcN := 2970) jIQ_379_2965 rfl (by decide +kernel) rfl ?_
  refine jT_xgoto (pcN := 3740) jIQ_379_2970 rfl ?_
  refine jT_xiinc (x := 0) (z := 5) (LN := [(5, (0, 5)), (7, (0, 0)), (6, (0, 0)), (4, (4, 3)), (3, (4, 2)), (2, (4, 1)), (1, (4, 0)), (0, (6, 0))]) (pcN := 3743) jIQ_379_3740 rfl rfl (by decide) rfl rfl ?_
  refine jT_xgoto (pcN := 28) jIQ_379_3743 rfl ?_
  refine jT_xiload (v := (0, 5)) (pcN := 30) jIQ_379_28 rfl rfl rfl ?_
  refine jT_xaload_n (v := (6, 0)) (pcN := 31) jIQ_379_30 rfl rfl rfl ?_
  refine jT_adv 1 (pcN := 32) (LN := [(5, (0, 5)), (7, (0, 0)), (6, (0, 0)), (4, (4, 3)), (3, (4, 2)), (2, (4, 1)), (1, (4, 0)), (0, (6, 0))]) (stN := [(0, 5), (0, 5)]) (hsN := jpQ_801) (c1 := 0) (s1 := 0) (c2 := 0) (s2 := 0) (by exact rfl) ?_ (by omega) (by omega)
  refine jT_xiconst (k := 5) (pcN := 33) jIQ_379_32 rfl ?_
  refine jT_xisub (x := 5) (y := 5) (z := 0) (pcN := 34) jIQ_379_33 rfl (by decide) rfl ?_
  refine jT_xicT (pcN := 3746) jIQ_379_34 rfl (by decide +kernel) rfl ?_
  refine jT_xiconst (k := 1) (pcN := 3747) jIQ_379_3746 rfl ?_
  exact jT_ret rfl (by decide) (by show 45 ≤ 52; decide) (by omega) (by omega) ⟨rfl, rfl⟩
theorem jQ_161_324 {xs : List Int} {d : Nat} {k12_0 k12_1 k12_2 k12_3 k12_4 k12_5 o4 r7 r8 u11_0 u11_1 u11_2 u11_3 u11_4 u11_5 : Int} (h_k12_0 : 1 ≤ k12_0 ∧ k12_0 ≤ 100) (h_k12_1 : 2 ≤ k12_1 ∧ k12_1 ≤ 158) (h_k12_2 : 2 ≤ k12_2 ∧ k12_2 ≤ 232) (h_k12_3 : 3 ≤ k12_3 ∧ k12_3 ≤ 281) (h_k12_4 : 3 ≤ k12_4 ∧ k12_4 ≤ 346) (h_k12_5 : 4 ≤ k12_5 ∧ k12_5 ≤ 370) (h_o4 : 1 ≤ o4 ∧ o4 ≤ 100) (h_r7 : (-20) ≤ r7 ∧ r7 ≤ 20) (h_r8 : (-10) ≤ r8 ∧ r8 ≤ 10) (g_0 : 0 < r7) (g_1 : -(((108917793695 * r7 + 159561683699 * r8) / 68719476736) * o4) + (r7 * k12_1) + (r8 * k12_2) - 1 < 0) (g_2 : -(((108917793695 * r7 + 159561683699 * r8) / 68719476736) * o4) + (r7 * k12_1) + (r8 * k12_2) < 0) : jT xs (d + 2) 161 15 0 [(0, (4, 0)), (1, (0, r7)), (2, (0, r8)), (3, (4, 1)), (4, (0, o4))] [] [jzQ_16, jgh, (8, [(4, 13), (4, 14)], []), jgh, jgh, jgh, jgh, jgh, jgh, (101, [], [u11_0, u11_1, u11_2, u11_3, u11_4, u11_5]), (101, [], [k12_0, k12_1, k12_2, k12_3, k12_4, k12_5]), jgh, jgh, jgh, jgh] 0 0 (fun k v hsN => k = 0 ∧ v = (0, 0) ∧ hsN = [jzQ_16, jgh, (8, [(4, 13), (4, 14)], []), jgh, jgh, jgh, jgh, jgh, jgh, (101, [], [0, r7, r8, 0, 0, 0]), (101, [], [k12_0, k12_1, k12_2, k12_3, k12_4, k12_5]), jgh, jgh, jgh, jgh]) := by
  refine jT_xiload_n (v := (0, r7)) (pcN := 1) jIQ_161_0 rfl rfl rfl ?_
  refine jT_ifT (a := r7) (t := 10) (by rfl) (by rfl) (by rfl) (jw_idd (by omega) (by omega)) (by simp only [jcP] <;> omega) ?_
  refine jT_xiconst (k := 0) (pcN := 11) jIQ_161_10 rfl ?_
  refine jT_xistore (v := (0, 0)) (LN := [(5, (0, 0)), (0, (4, 0)), (1, (0, r7)), (2, (0, r8)), (3, (4, 1)), (4, (0, o4))]) (pcN := 13) jIQ_161_11 rfl rfl rfl rfl ?_
  refine jT_xiload (v := (0, 0)) (pcN := 15) jIQ_161_13 rfl rfl rfl ?_
  refine jT_xbipush (k := 6) (pcN := 17) jIQ_161_15 (by decide) rfl ?_
  refine jT_xicF (t := 56) (pcN := 20) jIQ_161_17 rfl (by decide +kernel) rfl rfl ?_
  refine jT_xaload_n (v := (4, 0)) (pcN := 21) jIQ_161_20 rfl rfl rfl ?_
  refine jT_xgetf (a := 0) (t := 1) (ci := 13) (fi := 7) (c := jzQ_16) (v := (4, 9)) (pcN := 24) jIQ_161_21 rfl rfl rfl rfl rfl rfl rfl ?_
  refine jT_xiload (v := (0, 0)) (pcN := 26) jIQ_161_24 rfl rfl rfl ?_
  refine jT_xiload (v := (0, 0)) (pcN := 28) jIQ_161_26 rfl rfl rfl ?_
  refine jT_xiconst (k := 1) (pcN := 29) jIQ_161_28 rfl ?_
  refine jT_xicT (pcN := 37) jIQ_161_29 rfl (by decide +kernel) rfl ?_
  refine jT_xiload (v := (0, 0)) (pcN := 39) jIQ_161_37 rfl rfl rfl ?_
  refine jT_xiconst (k := 2) (pcN := 40) jIQ_161_39 rfl ?_
  refine jT_xicT (pcN := 48) jIQ_161_40 rfl (by decide +kernel) rfl ?_
  refine jT_xlconst (z := 0) (pcN := 49) jIQ_161_48 rfl rfl ?_
  refine jT_adv 1 (pcN := 50) (LN := [(5, (0, 0)), (0, (4, 0)), (1, (0, r7)), (2, (0, r8)), (3, (4, 1)), (4, (0, o4))]) (stN := []) (hsN := [jzQ_16, jgh, (8, [(4, 13), (4, 14)], []), jgh, jgh, jgh, jgh, jgh, jgh, (101, [], [0, u11_1, u11_2, u11_3, u11_4, u11_5]), (101, [], [k12_0, k12_1, k12_2, k12_3, k12_4, k12_5]), jgh, jgh, jgh, jgh]) (c1 := 0) (s1 := 0) (c2 := 0) (s2 := 0) (by exact rfl) ?_ (by omega) (by omega)
  refine jT_xiinc (x := 0) (z := 1) (LN := [(5, (0, 1)), (0, (4, 0)), (1, (0, r7)), (2, (0, r8)), (3, (4, 1)), (4, (0, o4))]) (pcN := 53) jIQ_161_50 rfl rfl (by decide) rfl rfl ?_
  refine jT_xgoto (pcN := 13) jIQ_161_53 rfl ?_
  refine jT_xiload (v := (0, 1)) (pcN := 15) jIQ_161_13 rfl rfl rfl ?_
  refine jT_xbipush (k := 6) (pcN := 17) jIQ_161_15 (by decide) rfl ?_
  refine jT_xicF (t := 56) (pcN := 20) jIQ_161_17 rfl (by decide +kernel) rfl rfl ?_
  refine jT_xaload_n (v := (4, 0)) (pcN := 21) jIQ_161_20 rfl rfl rfl ?_
  refine jT_xgetf (a := 0) (t := 1) (ci := 13) (fi := 7) (c := jzQ_16) (v := (4, 9)) (pcN := 24) jIQ_161_21 rfl rfl rfl rfl rfl rfl rfl ?_
  refine jT_xiload (v := (0, 1)) (pcN := 26) jIQ_161_24 rfl rfl rfl ?_
  refine jT_xiload (v := (0, 1)) (pcN := 28) jIQ_161_26 rfl rfl rfl ?_
  refine jT_xiconst (k := 1) (pcN := 29) jIQ_161_28 rfl ?_
  refine jT_xicF (t := 37) (pcN := 32) jIQ_161_29 rfl (by decide +kernel) rfl rfl ?_
  refine jT_xiload_n (v := (0, r7)) (pcN := 33) jIQ_161_32 rfl rfl rfl ?_
  refine jT_xi2l (x := r7) (z := r7) (pcN := 34) jIQ_161_33 rfl (jw_idd (by omega) (by omega)) rfl ?_
  refine jT_xgoto (pcN := 49) jIQ_161_34 rfl ?_
  refine jT_adv 1 (pcN := 50) (LN := [(5, (0, 1)), (0, (4, 0)), (1, (0, r7)), (2, (0, r8)), (3, (4, 1)), (4, (0, o4))]) (stN := []) (hsN := [jzQ_16, jgh, (8, [(4, 13), (4, 14)], []), jgh, jgh, jgh, jgh, jgh, jgh, (101, [], [0, r7, u11_2, u11_3, u11_4, u11_5]), (101, [], [k12_0, k12_1, k12_2, k12_3, k12_4, k12_5]), jgh, jgh, jgh, jgh]) (c1 := 0) (s1 := 0) (c2 := 0) (s2 := 0) (by exact rfl) ?_ (by omega) (by omega)
  refine jT_xiinc (x := 1) (z := 2) (LN := [(5, (0, 2)), (0, (4, 0)), (1, (0, r7)), (2, (0, r8)), (3, (4, 1)), (4, (0, o4))]) (pcN := 53) jIQ_161_50 rfl rfl (by decide) rfl rfl ?_
  refine jT_xgoto (pcN := 13) jIQ_161_53 rfl ?_
  refine jT_xiload (v := (0, 2)) (pcN := 15) jIQ_161_13 rfl rfl rfl ?_
  refine jT_xbipush (k := 6) (pcN := 17) jIQ_161_15 (by decide) rfl ?_
  refine jT_xicF (t := 56) (pcN := 20) jIQ_161_17 rfl (by decide +kernel) rfl rfl ?_
  refine jT_xaload_n (v := (4, 0)) (pcN := 21) jIQ_161_20 rfl rfl rfl ?_
  refine jT_xgetf (a := 0) (t := 1) (ci := 13) (fi := 7) (c := jzQ_16) (v := (4, 9)) (pcN := 24) jIQ_161_21 rfl rfl rfl rfl rfl rfl rfl ?_
  refine jT_xiload (v := (0, 2)) (pcN := 26) jIQ_161_24 rfl rfl rfl ?_
  refine jT_xiload (v := (0, 2)) (pcN := 28) jIQ_161_26 rfl rfl rfl ?_
  refine jT_xiconst (k := 1) (pcN := 29) jIQ_161_28 rfl ?_
  refine jT_xicT (pcN := 37) jIQ_161_29 rfl (by decide +kernel) rfl ?_
  refine jT_xiload (v := (0, 2)) (pcN := 39) jIQ_161_37 rfl rfl rfl ?_
  refine jT_xiconst (k := 2) (pcN := 40) jIQ_161_39 rfl ?_
  refine jT_xicF (t := 48) (pcN := 43) jIQ_161_40 rfl (by decide +kernel) rfl rfl ?_
  refine jT_xiload_n (v := (0, r8)) (pcN := 44) jIQ_161_43 rfl rfl rfl ?_
  refine jT_xi2l (x := r8) (z := r8) (pcN := 45) jIQ_161_44 rfl (jw_idd (by omega) (by omega)) rfl ?_
  refine jT_xgoto (pcN := 49) jIQ_161_45 rfl ?_
  refine jT_adv 1 (pcN := 50) (LN := [(5, (0, 2)), (0, (4, 0)), (1, (0, r7)), (2, (0, r8)), (3, (4, 1)), (4, (0, o4))]) (stN := []) (hsN := [jzQ_16, jgh, (8, [(4, 13), (4, 14)], []), jgh, jgh, jgh, jgh, jgh, jgh, (101, [], [0, r7, r8, u11_3, u11_4, u11_5]), (101, [], [k12_0, k12_1, k12_2, k12_3, k12_4, k12_5]), jgh, jgh, jgh, jgh]) (c1 := 0) (s1 := 0) (c2 := 0) (s2 := 0) (by exact rfl) ?_ (by omega) (by omega)
  refine jT_xiinc (x := 2) (z := 3) (LN := [(5, (0, 3)), (0, (4, 0)), (1, (0, r7)), (2, (0, r8)), (3, (4, 1)), (4, (0, o4))]) (pcN := 53) jIQ_161_50 rfl rfl (by decide) rfl rfl ?_
  refine jT_xgoto (pcN := 13) jIQ_161_53 rfl ?_
  refine jT_xiload (v := (0, 3)) (pcN := 15) jIQ_161_13 rfl rfl rfl ?_
  refine jT_xbipush (k := 6) (pcN := 17) jIQ_161_15 (by decide) rfl ?_
  refine jT_xicF (t := 56) (pcN := 20) jIQ_161_17 rfl (by decide +kernel) rfl rfl ?_
  refine jT_xaload_n (v := (4, 0)) (pcN := 21) jIQ_161_20 rfl rfl rfl ?_
  refine jT_xgetf (a := 0) (t := 1) (ci := 13) (fi := 7) (c := jzQ_16) (v := (4, 9)) (pcN := 24) jIQ_161_21 rfl rfl rfl rfl rfl rfl rfl ?_
  refine jT_xiload (v := (0, 3)) (pcN := 26) jIQ_161_24 rfl rfl rfl ?_
  refine jT_xiload (v := (0, 3)) (pcN := 28) jIQ_161_26 rfl rfl rfl ?_
  refine jT_xiconst (k := 1) (pcN := 29) jIQ_161_28 rfl ?_
  refine jT_xicT (pcN := 37) jIQ_161_29 rfl (by decide +kernel) rfl ?_
  refine jT_xiload (v := (0, 3)) (pcN := 39) jIQ_161_37 rfl rfl rfl ?_
  refine jT_xiconst (k := 2) (pcN := 40) jIQ_161_39 rfl ?_
  refine jT_xicT (pcN := 48) jIQ_161_40 rfl (by decide +kernel) rfl ?_
  refine jT_xlconst (z := 0) (pcN := 49) jIQ_161_48 rfl rfl ?_
  refine jT_adv 1 (pcN := 50) (LN := [(5, (0, 3)), (0, (4, 0)), (1, (0, r7)), (2, (0, r8)), (3, (4, 1)), (4, (0, o4))]) (stN := []) (hsN := [jzQ_16, jgh, (8, [(4, 13), (4, 14)], []), jgh, jgh, jgh, jgh, jgh, jgh, (101, [], [0, r7, r8, 0, u11_4, u11_5]), (101, [], [k12_0, k12_1, k12_2, k12_3, k12_4, k12_5]), jgh, jgh, jgh, jgh]) (c1 := 0) (s1 := 0) (c2 := 0) (s2 := 0) (by exact rfl) ?_ (by omega) (by omega)
  refine jT_xiinc (x := 3) (z := 4) (LN := [(5, (0, 4)), (0, (4, 0)), (1, (0, r7)), (2, (0, r8)), (3, (4, 1)), (4, (0, o4))]) (pcN := 53) jIQ_161_50 rfl rfl (by decide) rfl rfl ?_
  refine jT_xgoto (pcN := 13) jIQ_161_53 rfl ?_
  refine jT_xiload (v := (0, 4)) (pcN := 15) jIQ_161_13 rfl rfl rfl ?_
  refine jT_xbipush (k := 6) (pcN := 17) jIQ_161_15 (by decide) rfl ?_
  refine jT_xicF (t := 56) (pcN := 20) jIQ_161_17 rfl (by decide +kernel) rfl rfl ?_
  refine jT_xaload_n (v := (4, 0)) (pcN := 21) jIQ_161_20 rfl rfl rfl ?_
  refine jT_xgetf (a := 0) (t := 1) (ci := 13) (fi := 7) (c := jzQ_16) (v := (4, 9)) (pcN := 24) jIQ_161_21 rfl rfl rfl rfl rfl rfl rfl ?_
  refine jT_xiload (v := (0, 4)) (pcN := 26) jIQ_161_24 rfl rfl rfl ?_
  refine jT_xiload (v := (0, 4)) (pcN := 28) jIQ_161_26 rfl rfl rfl ?_
  refine jT_xiconst (k := 1) (pcN := 29) jIQ_161_28 rfl ?_
  refine jT_xicT (pcN := 37) jIQ_161_29 rfl (by decide +kernel) rfl ?_
  refine jT_xiload (v := (0, 4)) (pcN := 39) jIQ_161_37 rfl rfl rfl ?_
  refine jT_xiconst (k := 2) (pcN := 40) jIQ_161_39 rfl ?_
  refine jT_xicT (pcN := 48) jIQ_161_40 rfl (by decide +kernel) rfl ?_
  refine jT_xlconst (z := 0) (pcN := 49) jIQ_161_48 rfl rfl ?_
  refine jT_adv 1 (pcN := 50) (LN := [(5, (0, 4)), (0, (4, 0)), (1, (0, r7)), (2, (0, r8)), (3, (4, 1)), (4, (0, o4))]) (stN := []) (hsN := [jzQ_16, jgh, (8, [(4, 13), (4, 14)], []), jgh, jgh, jgh, jgh, jgh, jgh, (101, [], [0, r7, r8, 0, 0, u11_5]), (101, [], [k12_0, k12_1, k12_2, k12_3, k12_4, k12_5]), jgh, jgh, jgh, jgh]) (c1 := 0) (s1 := 0) (c2 := 0) (s2 := 0) (by exact rfl) ?_ (by omega) (by omega)
  refine jT_xiinc (x := 4) (z := 5) (LN := [(5, (0, 5)), (0, (4, 0)), (1, (0, r7)), (2, (0, r8)), (3, (4, 1)), (4, (0, o4))]) (pcN := 53) jIQ_161_50 rfl rfl (by decide) rfl rfl ?_
  refine jT_xgoto (pcN := 13) jIQ_161_53 rfl ?_
  refine jT_xiload (v := (0, 5)) (pcN := 15) jIQ_161_13 rfl rfl rfl ?_
  refine jT_xbipush (k := 6) (pcN := 17) jIQ_161_15 (by decide) rfl ?_
  refine jT_xicF (t := 56) (pcN := 20) jIQ_161_17 rfl (by decide +kernel) rfl rfl ?_
  refine jT_xaload_n (v := (4, 0)) (pcN := 21) jIQ_161_20 rfl rfl rfl ?_
  refine jT_xgetf (a := 0) (t := 1) (ci := 13) (fi := 7) (c := jzQ_16) (v := (4, 9)) (pcN := 24) jIQ_161_21 rfl rfl rfl rfl rfl rfl rfl ?_
  refine jT_xiload (v := (0, 5)) (pcN := 26) jIQ_161_24 rfl rfl rfl ?_
  refine jT_xiload (v := (0, 5)) (pcN := 28) jIQ_161_26 rfl rfl rfl ?_
  refine jT_xiconst (k := 1) (pcN := 29) jIQ_161_28 rfl ?_
  refine jT_xicT (pcN := 37) jIQ_161_29 rfl (by decide +kernel) rfl ?_
  refine jT_xiload (v := (0, 5)) (pcN := 39) jIQ_161_37 rfl rfl rfl ?_
  refine jT_xiconst (k := 2) (pcN := 40) jIQ_161_39 rfl ?_
  refine jT_xicT (pcN := 48) jIQ_161_40 rfl (by decide +kernel) rfl ?_
  refine jT_xlconst (z := 0) (pcN := 49) jIQ_161_48 rfl rfl ?_
  refine jT_adv 1 (pcN := 50) (LN := [(5, (0, 5)), (0, (4, 0)), (1, (0, r7)), (2, (0, r8)), (3, (4, 1)), (4, (0, o4))]) (stN := []) (hsN := [jzQ_16, jgh, (8, [(4, 13), (4, 14)], []), jgh, jgh, jgh, jgh, jgh, jgh, (101, [], [0, r7, r8, 0, 0, 0]), (101, [], [k12_0, k12_1, k12_2, k12_3, k12_4, k12_5]), jgh, jgh, jgh, jgh]) (c1 := 0) (s1 := 0) (c2 := 0) (s2 := 0) (by exact rfl) ?_ (by omega) (by omega)
  refine jT_xiinc (x := 5) (z := 6) (LN := [(5, (0, 6)), (0, (4, 0)), (1, (0, r7)), (2, (0, r8)), (3, (4, 1)), (4, (0, o4))]) (pcN := 53) jIQ_161_50 rfl rfl (by decide) rfl rfl ?_
  refine jT_xgoto (pcN := 13) jIQ_161_53 rfl ?_
  refine jT_xiload (v := (0, 6)) (pcN := 15) jIQ_161_13 rfl rfl rfl ?_
  refine jT_xbipush (k := 6) (pcN := 17) jIQ_161_15 (by decide) rfl ?_
  refine jT_xicT (pcN := 56) jIQ_161_17 rfl (by decide +kernel) rfl ?_
  refine jT_xaload_n (v := (4, 0)) (pcN := 57) jIQ_161_56 rfl rfl rfl ?_
  refine jT_xgetf (a := 0) (t := 1) (ci := 13) (fi := 0) (c := jzQ_16) (v := (4, 2)) (pcN := 60) jIQ_161_57 rfl rfl rfl rfl rfl rfl rfl ?_
  refine jT_xaload_n (v := (4, 0)) (pcN := 61) jIQ_161_60 rfl rfl rfl ?_
  refine jT_xgetf (a := 0) (t := 1) (ci := 13) (fi := 7) (c := jzQ_16) (v := (4, 9)) (pcN := 64) jIQ_161_61 rfl rfl rfl rfl rfl rfl rfl ?_
  refine jT_xlconst (z := 1) (pcN := 65) jIQ_161_64 rfl rfl ?_
  refine jT_xlconst (z := 1) (pcN := 66) jIQ_161_65 rfl rfl ?_
  refine jT_callA [2, 9, 13, 14] (y := 45) (pcN := 69) (dC := 1) (bc1 := 0) (bc2 := 0) (c1 := 0) (c2 := 0) (as := [(4, 2), (4, 9), (1, 1), (1, 1)]) (asC := [(4, 0), (4, 1), (1, 1), (1, 1)]) (LN := [(5, (0, 6)), (0, (4, 0)), (1, (0, r7)), (2, (0, r8)), (3, (4, 1)), (4, (0, o4))]) (stN := []) (hsC := [(8, [(4, 2), (4, 3)], []), (101, [], [0, r7, r8, 0, 0, 0]), jgh, jgh]) (ex := []) (v := (1, (108917793695 * r7 + 159561683699 * r8) / 68719476736)) (st2 := [(1, (108917793695 * r7 + 159561683699 * r8) / 68719476736)]) (hs2 := [jzQ_16, jgh, (8, [(4, 13), (4, 14)], []), jgh, jgh, jgh, jgh, jgh, jgh, (101, [], [0, r7, r8, 0, 0, 0]), (101, [], [k12_0, k12_1, k12_2, k12_3, k12_4, k12_5]), jgh, jgh, jgh, jgh]) (jQl_sp45_116 (d := 0) (by omega) (by omega)) (by rfl) (by rfl) (by rfl) (by rfl) ⟨rfl, rfl, rfl, rfl, trivial⟩ (by rfl) (by rfl) (by omega) (by show 15 ≤ 15; omega) (by omega) (by omega) rfl rfl ?_
  have hb_q1 : (-60) ≤ (108917793695 * r7 + 159561683699 * r8) / 68719476736 ∧ (108917793695 * r7 + 159561683699 * r8) / 68719476736 ≤ 60 := ⟨by omega, by omega⟩
  generalize hq_q1 : (108917793695 * r7 + 159561683699 * r8) / 68719476736 = q1 at hb_q1 g_1 g_2 ⊢
  refine jT_xlstore (v := (1, q1)) (LN := [(5, (1, q1)), (0, (4, 0)), (1, (0, r7)), (2, (0, r8)), (3, (4, 1)), (4, (0, o4))]) (pcN := 71) jIQ_161_69 rfl rfl rfl rfl ?_
  have g_3 : 0 ≤ (-68719476736) * q1 + 108917793694 * r7 + 159561683698 * r8 - 1 := by have := jcg (b := r7) (c := r8) (by omega) (by omega) (by omega); rw [hq_q1] at this; omega
  have g_4 : 0 ≤ (-68719476736) * q1 + 108917793694 * r7 + 159561683700 * r8 - 1 := by have := jcg (b := r7) (c := r8) (by omega) (by omega) (by omega); rw [hq_q1] at this; omega
  have g_5 : 0 ≤ (-68719476736) * q1 + 108917793696 * r7 + 159561683698 * r8 - 1 := by have := jcg (b := r7) (c := r8) (by omega) (by omega) (by omega); rw [hq_q1] at this; omega
  have g_6 : 0 ≤ (-68719476736) * q1 + 108917793696 * r7 + 159561683700 * r8 - 1 := by have := jcg (b := r7) (c := r8) (by omega) (by omega) (by omega); rw [hq_q1] at this; omega
  refine jT_xiload (v := (0, o4)) (pcN := 73) jIQ_161_71 rfl rfl rfl ?_
  refine jT_ifF (a := o4) (t := 107) (by rfl) (by rfl) (by rfl) (jw_idd (by omega) (by omega)) (by simp only [jcP] <;> omega) ?_
  refine jT_xiload_n (v := (0, r7)) (pcN := 77) jIQ_161_76 rfl rfl rfl ?_
  refine jT_xi2l (x := r7) (z := r7) (pcN := 78) jIQ_161_77 rfl (jw_idd (by omega) (by omega)) rfl ?_
  refine jT_xaload_n (v := (4, 0)) (pcN := 79) jIQ_161_78 rfl rfl rfl ?_
  refine jT_xgetf (a := 0) (t := 1) (ci := 13) (fi := 8) (c := jzQ_16) (v := (4, 10)) (pcN := 82) jIQ_161_79 rfl rfl rfl rfl rfl rfl rfl ?_
  refine jT_xiconst (k := 1) (pcN := 83) jIQ_161_82 rfl ?_
  refine jT_lald (x := k12_1) (a := 10) (j := 1) (fs := []) (X := [k12_0, k12_1, k12_2, k12_3, k12_4, k12_5]) jIQ_161_83 rfl rfl rfl rfl ?_
  refine jT_eq (LN := [(5, (1, q1)), (0, (4, 0)), (1, (0, r7)), (2, (0, r8)), (3, (4, 1)), (4, (0, o4))]) (stN := [(1, k12_1), (1, r7)]) (hsN := [jzQ_16, jgh, (8, [(4, 13), (4, 14)], []), jgh, jgh, jgh, jgh, jgh, jgh, (101, [], [0, r7, r8, 0, 0, 0]), (101, [], [k12_0, k12_1, k12_2, k12_3, k12_4, k12_5]), jgh, jgh, jgh, jgh]) rfl rfl rfl ?_
  refine jT_xlmul (x := r7) (y := k12_1) (z := r7 * k12_1) (pcN := 85) jIQ_161_84 rfl rfl rfl ?_
  have hb_q2 := jmul_b2 (x := r7) (y := k12_1) (k := 1) (l := 2) (m := 20) (n := 158) (by omega) (by omega) (by omega) (by omega) (by omega) (by omega)
  have hb_q2 : 2 ≤ r7 * k12_1 ∧ r7 * k12_1 ≤ 3160 := ⟨by omega, by omega⟩
  generalize hq_q2 : r7 * k12_1 = q2 at hb_q2 g_1 g_2 ⊢
  refine jT_xiload_n (v := (0, r8)) (pcN := 86) jIQ_161_85 rfl rfl rfl ?_
  refine jT_xi2l (x := r8) (z := r8) (pcN := 87) jIQ_161_86 rfl (jw_idd (by omega) (by omega)) rfl ?_
  refine jT_xaload_n (v := (4, 0)) (pcN := 88) jIQ_161_87 rfl rfl rfl ?_
  refine jT_xgetf (a := 0) (t := 1) (ci := 13) (fi := 8) (c := jzQ_16) (v := (4, 10)) (pcN := 91) jIQ_161_88 rfl rfl rfl rfl rfl rfl rfl ?_
  refine jT_xiconst (k := 2) (pcN := 92) jIQ_161_91 rfl ?_
  refine jT_lald (x := k12_2) (a := 10) (j := 2) (fs := []) (X := [k12_0, k12_1, k12_2, k12_3, k12_4, k12_5]) jIQ_161_92 rfl rfl rfl rfl ?_
  refine jT_eq (LN := [(5, (1, q1)), (0, (4, 0)), (1, (0, r7)), (2, (0, r8)), (3, (4, 1)), (4, (0, o4))]) (stN := [(1, k12_2), (1, r8), (1, q2)]) (hsN := [jzQ_16, jgh, (8, [(4, 13), (4, 14)], []), jgh, jgh, jgh, jgh, jgh, jgh, (101, [], [0, r7, r8, 0, 0, 0]), (101, [], [k12_0, k12_1, k12_2, k12_3, k12_4, k12_5]), jgh, jgh, jgh, jgh]) rfl rfl rfl ?_
  refine jT_xlmul (x := r8) (y := k12_2) (z := r8 * k12_2) (pcN := 94) jIQ_161_93 rfl rfl rfl ?_
  have hb_q3 := jmul_bs (x := r8) (y := k12_2) (m := 10) (n := 232) (by omega) (by omega) (by omega) (by omega)
  have hb_q3 : (-2320) ≤ r8 * k12_2 ∧ r8 * k12_2 ≤ 2320 := ⟨by omega, by omega⟩
  generalize hq_q3 : r8 * k12_2 = q3 at hb_q3 g_1 g_2 ⊢
  refine jT_xladd (x := q2) (y := q3) (z := q2 + q3) (pcN := 95) jIQ_161_94 rfl (rfl) rfl ?_
  refine jT_xlload (v := (1, q1)) (pcN := 97) jIQ_161_95 rfl rfl rfl ?_
  refine jT_xiload (v := (0, o4)) (pcN := 99) jIQ_161_97 rfl rfl rfl ?_
  refine jT_xi2l (x := o4) (z := o4) (pcN := 100) jIQ_161_99 rfl (jw_idd (by omega) (by omega)) rfl ?_
  refine jT_xlmul (x := q1) (y := o4) (z := q1 * o4) (pcN := 101) jIQ_161_100 rfl rfl rfl ?_
  have hb_q4 := jmul_bs (x := q1) (y := o4) (m := 60) (n := 100) (by omega) (by omega) (by omega) (by omega)
  have hb_q4 : (-6000) ≤ q1 * o4 ∧ q1 * o4 ≤ 6000 := ⟨by omega, by omega⟩
  generalize hq_q4 : q1 * o4 = q4 at hb_q4 g_1 g_2 ⊢
  refine jT_lcmp (a := q2 + q3) (b := q4) (z := (-1)) (by rfl) (by rfl) (jwl_idd (by omega) (by omega)) (jwl_idd (by omega) (by omega)) (by rw [decide_eq_false (show ¬ ((q4 : Int) < q2 + q3) by omega), decide_eq_false (show ¬ ((q2 + q3 : Int) = q4) by omega)]; rfl) ?_
  refine jT_xifF (t := 107) (pcN := 105) jIQ_161_102 rfl (by decide +kernel) rfl rfl ?_
  refine jT_xiconst (k := 0) (pcN := 106) jIQ_161_105 rfl ?_
  subst hq_q4
  subst hq_q3
  subst hq_q2
  subst hq_q1
  exact jT_ret rfl (by decide) (by show 15 ≤ 15; omega) (by omega) (by omega) ⟨rfl, rfl, rfl⟩
theorem jQ_161_325 {xs : List Int} {d : Nat} {k12_0 k12_1 k12_2 k12_3 k12_4 k12_5 o4 r7 r8 u11_0 u11_1 u11_2 u11_3 u11_4 u11_5 : Int} (h_k12_0 : 1 ≤ k12_0 ∧ k12_0 ≤ 100) (h_k12_1 : 2 ≤ k12_1 ∧ k12_1 ≤ 158) (h_k12_2 : 2 ≤ k12_2 ∧ k12_2 ≤ 232) (h_k12_3 : 3 ≤ k12_3 ∧ k12_3 ≤ 281) (h_k12_4 : 3 ≤ k12_4 ∧ k12_4 ≤ 346) (h_k12_5 : 4 ≤ k12_5 ∧ k12_5 ≤ 370) (h_o4 : 1 ≤ o4 ∧ o4 ≤ 100) (h_r7 : (-20) ≤ r7 ∧ r7 ≤ 20) (h_r8 : (-10) ≤ r8 ∧ r8 ≤ 10) (g_0 : 0 < r7) (g_1 : -(((108917793695 * r7 + 159561683699 * r8) / 68719476736) * o4) + (r7 * k12_1) + (r8 * k12_2) - 1 < 0) (g_2 : 0 ≤ -(((108917793695 * r7 + 159561683699 * r8) / 68719476736) * o4) + (r7 * k12_1) + (r8 * k12_2)) : jT xs (d + 2) 161 16 0 [(0, (4, 0)), (1, (0, r7)), (2, (0, r8)), (3, (4, 1)), (4, (0, o4))] [] [jzQ_16, (4, [(4, 13), (1, 1)], []), (8, [(4, 14), (4, 15)], []), jgh, jgh, jgh, jgh, jgh, jgh, (101, [], [u11_0, u11_1, u11_2, u11_3, u11_4, u11_5]), (101, [], [k12_0, k12_1, k12_2, k12_3, k12_4, k12_5]), jgh, jgh, (101, [], [0, 0, 0, 0, 0, 0]), jgh, jgh] 0 0 (fun k v hsN => k = 0 ∧ v = (0, 0) ∧ hsN = [jzQ_16, (4, [(4, 13), (1, 1)], []), (8, [(4, 14), (4, 15)], []), jgh, jgh, jgh, jgh, jgh, jgh, (101, [], [(108917793695 * r7 + 159561683699 * r8) / 68719476736, -r7, -r8, 0, 0, 0]), (101, [], [k12_0, k12_1, k12_2, k12_3, k12_4, k12_5]), jgh, jgh, (101, [], [0, 0, 0, 0, 0, 0]), jgh, jgh]) := by
  refine jT_xiload_n (v := (0, r7)) (pcN := 1) jIQ_161_0 rfl rfl rfl ?_
  refine jT_ifT (a := r7) (t := 10) (by rfl) (by rfl) (by rfl) (jw_idd (by omega) (by omega)) (by simp only [jcP] <;> omega) ?_
  refine jT_xiconst (k := 0) (pcN := 11) jIQ_161_10 rfl ?_
  refine jT_xistore (v := (0, 0)) (LN := [(5, (0, 0)), (0, (4, 0)), (1, (0, r7)), (2, (0, r8)), (3, (4, 1)), (4, (0, o4))]) (pcN := 13) jIQ_161_11 rfl rfl rfl rfl ?_
  refine jT_xiload (v := (0, 0)) (pcN := 15) jIQ_161_13 rfl rfl rfl ?_
  refine jT_xbipush (k := 6) (pcN := 17) jIQ_161_15 (by decide) rfl ?_
  refine jT_xicF (t := 56) (pcN := 20) jIQ_161_17 rfl (by decide +kernel) rfl rfl ?_
  refine jT_xaload_n (v := (4, 0)) (pcN := 21) jIQ_161_20 rfl rfl rfl ?_
  refine jT_xgetf (a := 0) (t := 1) (ci := 13) (fi := 7) (c := jzQ_16) (v := (4, 9)) (pcN := 24) jIQ_161_21 rfl rfl rfl rfl rfl rfl rfl ?_
  refine jT_xiload (v := (0, 0)) (pcN := 26) jIQ_161_24 rfl rfl rfl ?_
  refine jT_xiload (v := (0, 0)) (pcN := 28) jIQ_161_26 rfl rfl rfl ?_
  refine jT_xiconst (k := 1) (pcN := 29) jIQ_161_28 rfl ?_
  refine jT_xicT (pcN := 37) jIQ_161_29 rfl (by decide +kernel) rfl ?_
  refine jT_xiload (v := (0, 0)) (pcN := 39) jIQ_161_37 rfl rfl rfl ?_
  refine jT_xiconst (k := 2) (pcN := 40) jIQ_161_39 rfl ?_
  refine jT_xicT (pcN := 48) jIQ_161_40 rfl (by decide +kernel) rfl ?_
  refine jT_xlconst (z := 0) (pcN := 49) jIQ_161_48 rfl rfl ?_
  refine jT_adv 1 (pcN := 50) (LN := [(5, (0, 0)), (0, (4, 0)), (1, (0, r7)), (2, (0, r8)), (3, (4, 1)), (4, (0, o4))]) (stN := []) (hsN := [jzQ_16, (4, [(4, 13), (1, 1)], []), (8, [(4, 14), (4, 15)], []), jgh, jgh, jgh, jgh, jgh, jgh, (101, [], [0, u11_1, u11_2, u11_3, u11_4, u11_5]), (101, [], [k12_0, k12_1, k12_2, k12_3, k12_4, k12_5]), jgh, jgh, (101, [], [0, 0, 0, 0, 0, 0]), jgh, jgh]) (c1 := 0) (s1 := 0) (c2 := 0) (s2 := 0) (by exact rfl) ?_ (by omega) (by omega)
  refine jT_xiinc (x := 0) (z := 1) (LN := [(5, (0, 1)), (0, (4, 0)), (1, (0, r7)), (2, (0, r8)), (3, (4, 1)), (4, (0, o4))]) (pcN := 53) jIQ_161_50 rfl rfl (by decide) rfl rfl ?_
  refine jT_xgoto (pcN := 13) jIQ_161_53 rfl ?_
  refine jT_xiload (v := (0, 1)) (pcN := 15) jIQ_161_13 rfl rfl rfl ?_
  refine jT_xbipush (k := 6) (pcN := 17) jIQ_161_15 (by decide) rfl ?_
  refine jT_xicF (t := 56) (pcN := 20) jIQ_161_17 rfl (by decide +kernel) rfl rfl ?_
  refine jT_xaload_n (v := (4, 0)) (pcN := 21) jIQ_161_20 rfl rfl rfl ?_
  refine jT_xgetf (a := 0) (t := 1) (ci := 13) (fi := 7) (c := jzQ_16) (v := (4, 9)) (pcN := 24) jIQ_161_21 rfl rfl rfl rfl rfl rfl rfl ?_
  refine jT_xiload (v := (0, 1)) (pcN := 26) jIQ_161_24 rfl rfl rfl ?_
  refine jT_xiload (v := (0, 1)) (pcN := 28) jIQ_161_26 rfl rfl rfl ?_
  refine jT_xiconst (k := 1) (pcN := 29) jIQ_161_28 rfl ?_
  refine jT_xicF (t := 37) (pcN := 32) jIQ_161_29 rfl (by decide +kernel) rfl rfl ?_
  refine jT_xiload_n (v := (0, r7)) (pcN := 33) jIQ_161_32 rfl rfl rfl ?_
  refine jT_xi2l (x := r7) (z := r7) (pcN := 34) jIQ_161_33 rfl (jw_idd (by omega) (by omega)) rfl ?_
  refine jT_xgoto (pcN := 49) jIQ_161_34 rfl ?_
  refine jT_adv 1 (pcN := 50) (LN := [(5, (0, 1)), (0, (4, 0)), (1, (0, r7)), (2, (0, r8)), (3, (4, 1)), (4, (0, o4))]) (stN := []) (hsN := [jzQ_16, (4, [(4, 13), (1, 1)], []), (8, [(4, 14), (4, 15)], []), jgh, jgh, jgh, jgh, jgh, jgh, (101, [], [0, r7, u11_2, u11_3, u11_4, u11_5]), (101, [], [k12_0, k12_1, k12_2, k12_3, k12_4, k12_5]), jgh, jgh, (101, [], [0, 0, 0, 0, 0, 0]), jgh, jgh]) (c1 := 0) (s1 := 0) (c2 := 0) (s2 := 0) (by exact rfl) ?_ (by omega) (by omega)
  refine jT_xiinc (x := 1) (z := 2) (LN := [(5, (0, 2)), (0, (4, 0)), (1, (0, r7)), (2, (0, r8)), (3, (4, 1)), (4, (0, o4))]) (pcN := 53) jIQ_161_50 rfl rfl (by decide) rfl rfl ?_
  refine jT_xgoto (pcN := 13) jIQ_161_53 rfl ?_
  refine jT_xiload (v := (0, 2)) (pcN := 15) jIQ_161_13 rfl rfl rfl ?_
  refine jT_xbipush (k := 6) (pcN := 17) jIQ_161_15 (by decide) rfl ?_
  refine jT_xicF (t := 56) (pcN := 20) jIQ_161_17 rfl (by decide +kernel) rfl rfl ?_
  refine jT_xaload_n (v := (4, 0)) (pcN := 21) jIQ_161_20 rfl rfl rfl ?_
  refine jT_xgetf (a := 0) (t := 1) (ci := 13) (fi := 7) (c := jzQ_16) (v := (4, 9)) (pcN := 24) jIQ_161_21 rfl rfl rfl rfl rfl rfl rfl ?_
  refine jT_xiload (v := (0, 2)) (pcN := 26) jIQ_161_24 rfl rfl rfl ?_
  refine jT_xiload (v := (0, 2)) (pcN := 28) jIQ_161_26 rfl rfl rfl ?_
  refine jT_xiconst (k := 1) (pcN := 29) jIQ_161_28 rfl ?_
  refine jT_xicT (pcN := 37) jIQ_161_29 rfl (by decide +kernel) rfl ?_
  refine jT_xiload (v := (0, 2)) (pcN := 39) jIQ_161_37 rfl rfl rfl ?_
  refine jT_xiconst (k := 2) (pcN := 40) jIQ_161_39 rfl ?_
  refine jT_xicF (t := 48) (pcN := 43) jIQ_161_40 rfl (by decide +kernel) rfl rfl ?_
  refine jT_xiload_n (v := (0, r8)) (pcN := 44) jIQ_161_43 rfl rfl rfl ?_
  refine jT_xi2l (x := r8) (z := r8) (pcN := 45) jIQ_161_44 rfl (jw_idd (by omega) (by omega)) rfl ?_
  refine jT_xgoto (pcN := 49) jIQ_161_45 rfl ?_
  refine jT_adv 1 (pcN := 50) (LN := [(5, (0, 2)), (0, (4, 0)), (1, (0, r7)), (2, (0, r8)), (3, (4, 1)), (4, (0, o4))]) (stN := []) (hsN := [jzQ_16, (4, [(4, 13), (1, 1)], []), (8, [(4, 14), (4, 15)], []), jgh, jgh, jgh, jgh, jgh, jgh, (101, [], [0, r7, r8, u11_3, u11_4, u11_5]), (101, [], [k12_0, k12_1, k12_2, k12_3, k12_4, k12_5]), jgh, jgh, (101, [], [0, 0, 0, 0, 0, 0]), jgh, jgh]) (c1 := 0) (s1 := 0) (c2 := 0) (s2 := 0) (by exact rfl) ?_ (by omega) (by omega)
  refine jT_xiinc (x := 2) (z := 3) (LN := [(5, (0, 3)), (0, (4, 0)), (1, (0, r7)), (2, (0, r8)), (3, (4, 1)), (4, (0, o4))]) (pcN := 53) jIQ_161_50 rfl rfl (by decide) rfl rfl ?_
  refine jT_xgoto (pcN := 13) jIQ_161_53 rfl ?_
  refine jT_xiload (v := (0, 3)) (pcN := 15) jIQ_161_13 rfl rfl rfl ?_
  refine jT_xbipush (k := 6) (pcN := 17) jIQ_161_15 (by decide) rfl ?_
  refine jT_xicF (t := 56) (pcN := 20) jIQ_161_17 rfl (by decide +kernel) rfl rfl ?_
  refine jT_xaload_n (v := (4, 0)) (pcN := 21) jIQ_161_20 rfl rfl rfl ?_
  refine jT_xgetf (a := 0) (t := 1) (ci := 13) (fi := 7) (c := jzQ_16) (v := (4, 9)) (pcN := 24) jIQ_161_21 rfl rfl rfl rfl rfl rfl rfl ?_
  refine jT_xiload (v := (0, 3)) (pcN := 26) jIQ_161_24 rfl rfl rfl ?_
  refine jT_xiload (v := (0, 3)) (pcN := 28) jIQ_161_26 rfl rfl rfl ?_
  refine jT_xiconst (k := 1) (pcN := 29) jIQ_161_28 rfl ?_
  refine jT_xicT (pcN := 37) jIQ_161_29 rfl (by decide +kernel) rfl ?_
  refine jT_xiload (v := (0, 3)) (pcN := 39) jIQ_161_37 rfl rfl rfl ?_
  refine jT_xiconst (k := 2) (pcN := 40) jIQ_161_39 rfl ?_
  refine jT_xicT (pcN := 48) jIQ_161_40 rfl (by decide +kernel) rfl ?_
  refine jT_xlconst (z := 0) (pcN := 49) jIQ_161_48 rfl rfl ?_
  refine jT_adv 1 (pcN := 50) (LN := [(5, (0, 3)), (0, (4, 0)), (1, (0, r7)), (2, (0, r8)), (3, (4, 1)), (4, (0, o4))]) (stN := []) (hsN := [jzQ_16, (4, [(4, 13), (1, 1)], []), (8, [(4, 14), (4, 15)], []), jgh, jgh, jgh, jgh, jgh, jgh, (101, [], [0, r7, r8, 0, u11_4, u11_5]), (101, [], [k12_0, k12_1, k12_2, k12_3, k12_4, k12_5]), jgh, jgh, (101, [], [0, 0, 0, 0, 0, 0]), jgh, jgh]) (c1 := 0) (s1 := 0) (c2 := 0) (s2 := 0) (by exact rfl) ?_ (by omega) (by omega)
  refine jT_xiinc (x := 3) (z := 4) (LN := [(5, (0, 4)), (0, (4, 0)), (1, (0, r7)), (2, (0, r8)), (3, (4, 1)), (4, (0, o4))]) (pcN := 53) jIQ_161_50 rfl rfl (by decide) rfl rfl ?_
  refine jT_xgoto (pcN := 13) jIQ_161_53 rfl ?_
  refine jT_xiload (v := (0, 4)) (pcN := 15) jIQ_161_13 rfl rfl rfl ?_
  refine jT_xbipush (k := 6) (pcN := 17) jIQ_161_15 (by decide) rfl ?_
  refine jT_xicF (t := 56) (pcN := 20) jIQ_161_17 rfl (by decide +kernel) rfl rfl ?_
  refine jT_xaload_n (v := (4, 0)) (pcN := 21) jIQ_161_20 rfl rfl rfl ?_
  refine jT_xgetf (a := 0) (t := 1) (ci := 13) (fi := 7) (c := jzQ_16) (v := (4, 9)) (pcN := 24) jIQ_161_21 rfl rfl rfl rfl rfl rfl rfl ?_
  refine jT_xiload (v := (0, 4)) (pcN := 26) jIQ_161_24 rfl rfl rfl ?_
  refine jT_xiload (v := (0, 4)) (pcN := 28) jIQ_161_26 rfl rfl rfl ?_
  refine jT_xiconst (k := 1) (pcN := 29) jIQ_161_28 rfl ?_
  refine jT_xicT (pcN := 37) jIQ_161_29 rfl (by decide +kernel) rfl ?_
  refine jT_xiload (v := (0, 4)) (pcN := 39) jIQ_161_37 rfl rfl rfl ?_
  refine jT_xiconst (k := 2) (pcN := 40) jIQ_161_39 rfl ?_
  refine jT_xicT (pcN := 48) jIQ_161_40 rfl (by decide +kernel) rfl ?_
  refine jT_xlconst (z := 0) (pcN := 49) jIQ_161_48 rfl rfl ?_
  refine jT_adv 1 (pcN := 50) (LN := [(5, (0, 4)), (0, (4, 0)), (1, (0, r7)), (2, (0, r8)), (3, (4, 1)), (4, (0, o4))]) (stN := []) (hsN := [jzQ_16, (4, [(4, 13), (1, 1)], []), (8, [(4, 14), (4, 15)], []), jgh, jgh, jgh, jgh, jgh, jgh, (101, [], [0, r7, r8, 0, 0, u11_5]), (101, [], [k12_0, k12_1, k12_2, k12_3, k12_4, k12_5]), jgh, jgh, (101, [], [0, 0, 0, 0, 0, 0]), jgh, jgh]) (c1 := 0) (s1 := 0) (c2 := 0) (s2 := 0) (by exact rfl) ?_ (by omega) (by omega)
  refine jT_xiinc (x := 4) (z := 5) (LN := [(5, (0, 5)), (0, (4, 0)), (1, (0, r7)), (2, (0, r8)), (3, (4, 1)), (4, (0, o4))]) (pcN := 53) jIQ_161_50 rfl rfl (by decide) rfl rfl ?_
  refine jT_xgoto (pcN := 13) jIQ_161_53 rfl ?_
  refine jT_xiload (v := (0, 5)) (pcN := 15) jIQ_161_13 rfl rfl rfl ?_
  refine jT_xbipush (k := 6) (pcN := 17) jIQ_161_15 (by decide) rfl ?_
  refine jT_xicF (t := 56) (pcN := 20) jIQ_161_17 rfl (by decide +kernel) rfl rfl ?_
  refine jT_xaload_n (v := (4, 0)) (pcN := 21) jIQ_161_20 rfl rfl rfl ?_
  refine jT_xgetf (a := 0) (t := 1) (ci := 13) (fi := 7) (c := jzQ_16) (v := (4, 9)) (pcN := 24) jIQ_161_21 rfl rfl rfl rfl rfl rfl rfl ?_
  refine jT_xiload (v := (0, 5)) (pcN := 26) jIQ_161_24 rfl rfl rfl ?_
  refine jT_xiload (v := (0, 5)) (pcN := 28) jIQ_161_26 rfl rfl rfl ?_
  refine jT_xiconst (k := 1) (pcN := 29) jIQ_161_28 rfl ?_
  refine jT_xicT (pcN := 37) jIQ_161_29 rfl (by decide +kernel) rfl ?_
  refine jT_xiload (v := (0, 5)) (pcN := 39) jIQ_161_37 rfl rfl rfl ?_
  refine jT_xiconst (k := 2) (pcN := 40) jIQ_161_39 rfl ?_
  refine jT_xicT (pcN := 48) jIQ_161_40 rfl (by decide +kernel) rfl ?_
  refine jT_xlconst (z := 0) (pcN := 49) jIQ_161_48 rfl rfl ?_
  refine jT_adv 1 (pcN := 50) (LN := [(5, (0, 5)), (0, (4, 0)), (1, (0, r7)), (2, (0, r8)), (3, (4, 1)), (4, (0, o4))]) (stN := []) (hsN := [jzQ_16, (4, [(4, 13), (1, 1)], []), (8, [(4, 14), (4, 15)], []), jgh, jgh, jgh, jgh, jgh, jgh, (101, [], [0, r7, r8, 0, 0, 0]), (101, [], [k12_0, k12_1, k12_2, k12_3, k12_4, k12_5]), jgh, jgh, (101, [], [0, 0, 0, 0, 0, 0]), jgh, jgh]) (c1 := 0) (s1 := 0) (c2 := 0) (s2 := 0) (by exact rfl) ?_ (by omega) (by omega)
  refine jT_xiinc (x := 5) (z := 6) (LN := [(5, (0, 6)), (0, (4, 0)), (1, (0, r7)), (2, (0, r8)), (3, (4, 1)), (4, (0, o4))]) (pcN := 53) jIQ_161_50 rfl rfl (by decide) rfl rfl ?_
  refine jT_xgoto (pcN := 13) jIQ_161_53 rfl ?_
  refine jT_xiload (v := (0, 6)) (pcN := 15) jIQ_161_13 rfl rfl rfl ?_
  refine jT_xbipush (k := 6) (pcN := 17) jIQ_161_15 (by decide) rfl ?_
  refine jT_xicT (pcN := 56) jIQ_161_17 rfl (by decide +kernel) rfl ?_
  refine jT_xaload_n (v := (4, 0)) (pcN := 57) jIQ_161_56 rfl rfl rfl ?_
  refine jT_xgetf (a := 0) (t := 1) (ci := 13) (fi := 0) (c := jzQ_16) (v := (4, 2)) (pcN := 60) jIQ_161_57 rfl rfl rfl rfl rfl rfl rfl ?_
  refine jT_xaload_n (v := (4, 0)) (pcN := 61) jIQ_161_60 rfl rfl rfl ?_
  refine jT_xgetf (a := 0) (t := 1) (ci := 13) (fi := 7) (c := jzQ_16) (v := (4, 9)) (pcN := 64) jIQ_161_61 rfl rfl rfl rfl rfl rfl rfl ?_
  refine jT_xlconst (z := 1) (pcN := 65) jIQ_161_64 rfl rfl ?_
  refine jT_xlconst (z := 1) (pcN := 66) jIQ_161_65 rfl rfl ?_
  refine jT_callA [2, 9, 14, 15] (y := 45) (pcN := 69) (dC := 1) (bc1 := 0) (bc2 := 0) (c1 := 0) (c2 := 0) (as := [(4, 2), (4, 9), (1, 1), (1, 1)]) (asC := [(4, 0), (4, 1), (1, 1), (1, 1)]) (LN := [(5, (0, 6)), (0, (4, 0)), (1, (0, r7)), (2, (0, r8)), (3, (4, 1)), (4, (0, o4))]) (stN := []) (hsC := [(8, [(4, 2), (4, 3)], []), (101, [], [0, r7, r8, 0, 0, 0]), jgh, jgh]) (ex := []) (v := (1, (108917793695 * r7 + 159561683699 * r8) / 68719476736)) (st2 := [(1, (108917793695 * r7 + 159561683699 * r8) / 68719476736)]) (hs2 := [jzQ_16, (4, [(4, 13), (1, 1)], []), (8, [(4, 14), (4, 15)], []), jgh, jgh, jgh, jgh, jgh, jgh, (101, [], [0, r7, r8, 0, 0, 0]), (101, [], [k12_0, k12_1, k12_2, k12_3, k12_4, k12_5]), jgh, jgh, (101, [], [0, 0, 0, 0, 0, 0]), jgh, jgh]) (jQl_sp45_116 (d := 0) (by omega) (by omega)) (by rfl) (by rfl) (by rfl) (by rfl) ⟨rfl, rfl, rfl, rfl, trivial⟩ (by rfl) (by rfl) (by omega) (by show 16 ≤ 16; omega) (by omega) (by omega) rfl rfl ?_
  have hb_q1 : (-60) ≤ (108917793695 * r7 + 159561683699 * r8) / 68719476736 ∧ (108917793695 * r7 + 159561683699 * r8) / 68719476736 ≤ 60 := ⟨by omega, by omega⟩
  generalize hq_q1 : (108917793695 * r7 + 159561683699 * r8) / 68719476736 = q1 at hb_q1 g_1 g_2 ⊢
  refine jT_xlstore (v := (1, q1)) (LN := [(5, (1, q1)), (0, (4, 0)), (1, (0, r7)), (2, (0, r8)), (3, (4, 1)), (4, (0, o4))]) (pcN := 71) jIQ_161_69 rfl rfl rfl rfl ?_
  have g_3 : 0 ≤ (-68719476736) * q1 + 108917793694 * r7 + 159561683698 * r8 - 1 := by have := jcg (b := r7) (c := r8) (by omega) (by omega) (by omega); rw [hq_q1] at this; omega
  have g_4 : 0 ≤ (-68719476736) * q1 + 108917793694 * r7 + 159561683700 * r8 - 1 := by have := jcg (b := r7) (c := r8) (by omega) (by omega) (by omega); rw [hq_q1] at this; omega
  have g_5 : 0 ≤ (-68719476736) * q1 + 108917793696 * r7 + 159561683698 * r8 - 1 := by have := jcg (b := r7) (c := r8) (by omega) (by omega) (by omega); rw [hq_q1] at this; omega
  have g_6 : 0 ≤ (-68719476736) * q1 + 108917793696 * r7 + 159561683700 * r8 - 1 := by have := jcg (b := r7) (c := r8) (by omega) (by omega) (by omega); rw [hq_q1] at this; omega
  refine jT_xiload (v := (0, o4)) (pcN := 73) jIQ_161_71 rfl rfl rfl ?_
  refine jT_ifF (a := o4) (t := 107) (by rfl) (by rfl) (by rfl) (jw_idd (by omega) (by omega)) (by simp only [jcP] <;> omega) ?_
  refine jT_xiload_n (v := (0, r7)) (pcN := 77) jIQ_161_76 rfl rfl rfl ?_
  refine jT_xi2l (x := r7) (z := r7) (pcN := 78) jIQ_161_77 rfl (jw_idd (by omega) (by omega)) rfl ?_
  refine jT_xaload_n (v := (4, 0)) (pcN := 79) jIQ_161_78 rfl rfl rfl ?_
  refine jT_xgetf (a := 0) (t := 1) (ci := 13) (fi := 8) (c := jzQ_16) (v := (4, 10)) (pcN := 82) jIQ_161_79 rfl rfl rfl rfl rfl rfl rfl ?_
  refine jT_xiconst (k := 1) (pcN := 83) jIQ_161_82 rfl ?_
  refine jT_lald (x := k12_1) (a := 10) (j := 1) (fs := []) (X := [k12_0, k12_1, k12_2, k12_3, k12_4, k12_5]) jIQ_161_83 rfl rfl rfl rfl ?_
  refine jT_eq (LN := [(5, (1, q1)), (0, (4, 0)), (1, (0, r7)), (2, (0, r8)), (3, (4, 1)), (4, (0, o4))]) (stN := [(1, k12_1), (1, r7)]) (hsN := [jzQ_16, (4, [(4, 13), (1, 1)], []), (8, [(4, 14), (4, 15)], []), jgh, jgh, jgh, jgh, jgh, jgh, (101, [], [0, r7, r8, 0, 0, 0]), (101, [], [k12_0, k12_1, k12_2, k12_3, k12_4, k12_5]), jgh, jgh, (101, [], [0, 0, 0, 0, 0, 0]), jgh, jgh]) rfl rfl rfl ?_
  refine jT_xlmul (x := r7) (y := k12_1) (z := r7 * k12_1) (pcN := 85) jIQ_161_84 rfl rfl rfl ?_
  have hb_q2 := jmul_b2 (x := r7) (y := k12_1) (k := 1) (l := 2) (m := 20) (n := 158) (by omega) (by omega) (by omega) (by omega) (by omega) (by omega)
  have hb_q2 : 2 ≤ r7 * k12_1 ∧ r7 * k12_1 ≤ 3160 := ⟨by omega, by omega⟩
  generalize hq_q2 : r7 * k12_1 = q2 at hb_q2 g_1 g_2 ⊢
  refine jT_xiload_n (v := (0, r8)) (pcN := 86) jIQ_161_85 rfl rfl rfl ?_
  refine jT_xi2l (x := r8) (z := r8) (pcN := 87) jIQ_161_86 rfl (jw_idd (by omega) (by omega)) rfl ?_
  refine jT_xaload_n (v := (4, 0)) (pcN := 88) jIQ_161_87 rfl rfl rfl ?_
  refine jT_xgetf (a := 0) (t := 1) (ci := 13) (fi := 8) (c := jzQ_16) (v := (4, 10)) (pcN := 91) jIQ_161_88 rfl rfl rfl rfl rfl rfl rfl ?_
  refine jT_xiconst (k := 2) (pcN := 92) jIQ_161_91 rfl ?_
  refine jT_lald (x := k12_2) (a := 10) (j := 2) (fs := []) (X := [k12_0, k12_1, k12_2, k12_3, k12_4, k12_5]) jIQ_161_92 rfl rfl rfl rfl ?_
  refine jT_eq (LN := [(5, (1, q1)), (0, (4, 0)), (1, (0, r7)), (2, (0, r8)), (3, (4, 1)), (4, (0, o4))]) (stN := [(1, k12_2), (1, r8), (1, q2)]) (hsN := [jzQ_16, (4, [(4, 13), (1, 1)], []), (8, [(4, 14), (4, 15)], []), jgh, jgh, jgh, jgh, jgh, jgh, (101, [], [0, r7, r8, 0, 0, 0]), (101, [], [k12_0, k12_1, k12_2, k12_3, k12_4, k12_5]), jgh, jgh, (101, [], [0, 0, 0, 0, 0, 0]), jgh, jgh]) rfl rfl rfl ?_
  refine jT_xlmul (x := r8) (y := k12_2) (z := r8 * k12_2) (pcN := 94) jIQ_161_93 rfl rfl rfl ?_
  have hb_q3 := jmul_bs (x := r8) (y := k12_2) (m := 10) (n := 232) (by omega) (by omega) (by omega) (by omega)
  have hb_q3 : (-2320) ≤ r8 * k12_2 ∧ r8 * k12_2 ≤ 2320 := ⟨by omega, by omega⟩
  generalize hq_q3 : r8 * k12_2 = q3 at hb_q3 g_1 g_2 ⊢
  refine jT_xladd (x := q2) (y := q3) (z := q2 + q3) (pcN := 95) jIQ_161_94 rfl (rfl) rfl ?_
  refine jT_xlload (v := (1, q1)) (pcN := 97) jIQ_161_95 rfl rfl rfl ?_
  refine jT_xiload (v := (0, o4)) (pcN := 99) jIQ_161_97 rfl rfl rfl ?_
  refine jT_xi2l (x := o4) (z := o4) (pcN := 100) jIQ_161_99 rfl (jw_idd (by omega) (by omega)) rfl ?_
  refine jT_xlmul (x := q1) (y := o4) (z := q1 * o4) (pcN := 101) jIQ_161_100 rfl rfl rfl ?_
  have hb_q4 := jmul_bs (x := q1) (y := o4) (m := 60) (n := 100) (by omega) (by omega) (by omega) (by omega)
  have hb_q4 : (-6000) ≤ q1 * o4 ∧ q1 * o4 ≤ 6000 := ⟨by omega, by omega⟩
  generalize hq_q4 : q1 * o4 = q4 at hb_q4 g_1 g_2 ⊢
  refine jT_lcmp (a := q2 + q3) (b := q4) (z := 0) (by rfl) (by rfl) (jwl_idd (by omega) (by omega)) (jwl_idd (by omega) (by omega)) (by rw [decide_eq_false (show ¬ ((q4 : Int) < q2 + q3) by omega), decide_eq_true (show (q2 + q3 : Int) = q4 by omega)]; rfl) ?_
  refine jT_xifT (pcN := 107) jIQ_161_102 rfl (by decide +kernel) rfl ?_
  refine jT_xaload_n (v := (4, 0)) (pcN := 108) jIQ_161_107 rfl rfl rfl ?_
  refine jT_xgetf (a := 0) (t := 1) (ci := 13) (fi := 7) (c := jzQ_16) (v := (4, 9)) (pcN := 111) jIQ_161_108 rfl rfl rfl rfl rfl rfl rfl ?_
  refine jT_xiconst (k := 0) (pcN := 112) jIQ_161_111 rfl ?_
  refine jT_xlload (v := (1, q1)) (pcN := 114) jIQ_161_112 rfl rfl rfl ?_
  refine jT_adv 2 (pcN := 116) (LN := [(5, (1, q1)), (0, (4, 0)), (1, (0, r7)), (2, (0, r8)), (3, (4, 1)), (4, (0, o4))]) (stN := []) (hsN := [jzQ_16, (4, [(4, 13), (1, 1)], []), (8, [(4, 14), (4, 15)], []), jgh, jgh, jgh, jgh, jgh, jgh, (101, [], [-q1, r7, r8, 0, 0, 0]), (101, [], [k12_0, k12_1, k12_2, k12_3, k12_4, k12_5]), jgh, jgh, (101, [], [0, 0, 0, 0, 0, 0]), jgh, jgh]) (c1 := 0) (s1 := 0) (c2 := 0) (s2 := 0) (by exact rfl) ?_ (by omega) (by omega)
  refine jT_xiconst (k := 0) (pcN := 117) jIQ_161_116 rfl ?_
  refine jT_xistore (v := (0, 0)) (LN := [(7, (0, 0)), (5, (1, q1)), (0, (4, 0)), (1, (0, r7)), (2, (0, r8)), (3, (4, 1)), (4, (0, o4))]) (pcN := 119) jIQ_161_117 rfl rfl rfl rfl ?_
  refine jT_xiload (v := (0, 0)) (pcN := 121) jIQ_161_119 rfl rfl rfl ?_
  refine jT_xbipush (k := 6) (pcN := 123) jIQ_161_121 (by decide) rfl ?_
  refine jT_xicF (t := 159) (pcN := 126) jIQ_161_123 rfl (by decide +kernel) rfl rfl ?_
  refine jT_xaload_n (v := (4, 0)) (pcN := 127) jIQ_161_126 rfl rfl rfl ?_
  refine jT_xgetf (a := 0) (t := 1) (ci := 13) (fi := 7) (c := jzQ_16) (v := (4, 9)) (pcN := 130) jIQ_161_127 rfl rfl rfl rfl rfl rfl rfl ?_
  refine jT_xiload (v := (0, 0)) (pcN := 132) jIQ_161_130 rfl rfl rfl ?_
  refine jT_xaload_n (v := (4, 1)) (pcN := 133) jIQ_161_132 rfl rfl rfl ?_
  refine jT_xgetf (a := 1) (t := 2) (ci := 4) (fi := 0) (c := (4, [(4, 13), (1, 1)], [])) (v := (4, 13)) (pcN := 136) jIQ_161_133 rfl rfl rfl rfl rfl rfl rfl ?_
  refine jT_xiload (v := (0, 0)) (pcN := 138) jIQ_161_136 rfl rfl rfl ?_
  refine jT_lald (x := 0) (a := 13) (j := 0) (fs := []) (X := [0, 0, 0, 0, 0, 0]) jIQ_161_138 rfl rfl rfl rfl ?_
  refine jT_eq (LN := [(7, (0, 0)), (5, (1, q1)), (0, (4, 0)), (1, (0, r7)), (2, (0, r8)), (3, (4, 1)), (4, (0, o4))]) (stN := [(1, 0), (0, 0), (4, 9)]) (hsN := [jzQ_16, (4, [(4, 13), (1, 1)], []), (8, [(4, 14), (4, 15)], []), jgh, jgh, jgh, jgh, jgh, jgh, (101, [], [-q1, r7, r8, 0, 0, 0]), (101, [], [k12_0, k12_1, k12_2, k12_3, k12_4, k12_5]), jgh, jgh, (101, [], [0, 0, 0, 0, 0, 0]), jgh, jgh]) rfl rfl rfl ?_
  refine jT_xaload_n (v := (4, 0)) (pcN := 140) jIQ_161_139 rfl rfl rfl ?_
  refine jT_xgetf (a := 0) (t := 1) (ci := 13) (fi := 7) (c := jzQ_16) (v := (4, 9)) (pcN := 143) jIQ_161_140 rfl rfl rfl rfl rfl rfl rfl ?_
  refine jT_xiload (v := (0, 0)) (pcN := 145) jIQ_161_143 rfl rfl rfl ?_
  refine jT_lald (x := -q1) (a := 9) (j := 0) (fs := []) (X := [-q1, r7, r8, 0, 0, 0]) jIQ_161_145 rfl rfl rfl rfl ?_
  refine jT_eq (LN := [(7, (0, 0)), (5, (1, q1)), (0, (4, 0)), (1, (0, r7)), (2, (0, r8)), (3, (4, 1)), (4, (0, o4))]) (stN := [(1, -q1), (1, 0), (0, 0), (4, 9)]) (hsN := [jzQ_16, (4, [(4, 13), (1, 1)], []), (8, [(4, 14), (4, 15)], []), jgh, jgh, jgh, jgh, jgh, jgh, (101, [], [-q1, r7, r8, 0, 0, 0]), (101, [], [k12_0, k12_1, k12_2, k12_3, k12_4, k12_5]), jgh, jgh, (101, [], [0, 0, 0, 0, 0, 0]), jgh, jgh]) rfl rfl rfl ?_
  refine jT_xaload_n (v := (4, 1)) (pcN := 147) jIQ_161_146 rfl rfl rfl ?_
  refine jT_xgetf (a := 1) (t := 2) (ci := 4) (fi := 1) (c := (4, [(4, 13), (1, 1)], [])) (v := (1, 1)) (pcN := 150) jIQ_161_147 rfl rfl rfl rfl rfl rfl rfl ?_
  refine jT_xlmul (x := -q1) (y := 1) (z := -q1) (pcN := 151) jIQ_161_150 rfl (by omega) rfl ?_
  refine jT_xlsub (x := 0) (y := -q1) (z := q1) (pcN := 152) jIQ_161_151 rfl (by omega) rfl ?_
  refine jT_adv 1 (pcN := 153) (LN := [(7, (0, 0)), (5, (1, q1)), (0, (4, 0)), (1, (0, r7)), (2, (0, r8)), (3, (4, 1)), (4, (0, o4))]) (stN := []) (hsN := [jzQ_16, (4, [(4, 13), (1, 1)], []), (8, [(4, 14), (4, 15)], []), jgh, jgh, jgh, jgh, jgh, jgh, (101, [], [q1, r7, r8, 0, 0, 0]), (101, [], [k12_0, k12_1, k12_2, k12_3, k12_4, k12_5]), jgh, jgh, (101, [], [0, 0, 0, 0, 0, 0]), jgh, jgh]) (c1 := 0) (s1 := 0) (c2 := 0) (s2 := 0) (by exact rfl) ?_ (by omega) (by omega)
  refine jT_xiinc (x := 0) (z := 1) (LN := [(7, (0, 1)), (5, (1, q1)), (0, (4, 0)), (1, (0, r7)), (2, (0, r8)), (3, (4, 1)), (4, (0, o4))]) (pcN := 156) jIQ_161_153 rfl rfl (by decide) rfl rfl ?_
  refine jT_xgoto (pcN := 119) jIQ_161_156 rfl ?_
  refine jT_xiload (v := (0, 1)) (pcN := 121) jIQ_161_119 rfl rfl rfl ?_
  refine jT_xbipush (k := 6) (pcN := 123) jIQ_161_121 (by decide) rfl ?_
  refine jT_xicF (t := 159) (pcN := 126) jIQ_161_123 rfl (by decide +kernel) rfl rfl ?_
  refine jT_xaload_n (v := (4, 0)) (pcN := 127) jIQ_161_126 rfl rfl rfl ?_
  refine jT_xgetf (a := 0) (t := 1) (ci := 13) (fi := 7) (c := jzQ_16) (v := (4, 9)) (pcN := 130) jIQ_161_127 rfl rfl rfl rfl rfl rfl rfl ?_
  refine jT_xiload (v := (0, 1)) (pcN := 132) jIQ_161_130 rfl rfl rfl ?_
  refine jT_xaload_n (v := (4, 1)) (pcN := 133) jIQ_161_132 rfl rfl rfl ?_
  refine jT_xgetf (a := 1) (t := 2) (ci := 4) (fi := 0) (c := (4, [(4, 13), (1, 1)], [])) (v := (4, 13)) (pcN := 136) jIQ_161_133 rfl rfl rfl rfl rfl rfl rfl ?_
  refine jT_xiload (v := (0, 1)) (pcN := 138) jIQ_161_136 rfl rfl rfl ?_
  refine jT_lald (x := 0) (a := 13) (j := 1) (fs := []) (X := [0, 0, 0, 0, 0, 0]) jIQ_161_138 rfl rfl rfl rfl ?_
  refine jT_eq (LN := [(7, (0, 1)), (5, (1, q1)), (0, (4, 0)), (1, (0, r7)), (2, (0, r8)), (3, (4, 1)), (4, (0, o4))]) (stN := [(1, 0), (0, 1), (4, 9)]) (hsN := [jzQ_16, (4, [(4, 13), (1, 1)], []), (8, [(4, 14), (4, 15)], []), jgh, jgh, jgh, jgh, jgh, jgh, (101, [], [q1, r7, r8, 0, 0, 0]), (101, [], [k12_0, k12_1, k12_2, k12_3, k12_4, k12_5]), jgh, jgh, (101, [], [0, 0, 0, 0, 0, 0]), jgh, jgh]) rfl rfl rfl ?_
  refine jT_xaload_n (v := (4, 0)) (pcN := 140) jIQ_161_139 rfl rfl rfl ?_
  refine jT_xgetf (a := 0) (t := 1) (ci := 13) (fi := 7) (c := jzQ_16) (v := (4, 9)) (pcN := 143) jIQ_161_140 rfl rfl rfl rfl rfl rfl rfl ?_
  refine jT_xiload (v := (0, 1)) (pcN := 145) jIQ_161_143 rfl rfl rfl ?_
  refine jT_lald (x := r7) (a := 9) (j := 1) (fs := []) (X := [q1, r7, r8, 0, 0, 0]) jIQ_161_145 rfl rfl rfl rfl ?_
  refine jT_eq (LN := [(7, (0, 1)), (5, (1, q1)), (0, (4, 0)), (1, (0, r7)), (2, (0, r8)), (3, (4, 1)), (4, (0, o4))]) (stN := [(1, r7), (1, 0), (0, 1), (4, 9)]) (hsN := [jzQ_16, (4, [(4, 13), (1, 1)], []), (8, [(4, 14), (4, 15)], []), jgh, jgh, jgh, jgh, jgh, jgh, (101, [], [q1, r7, r8, 0, 0, 0]), (101, [], [k12_0, k12_1, k12_2, k12_3, k12_4, k12_5]), jgh, jgh, (101, [], [0, 0, 0, 0, 0, 0]), jgh, jgh]) rfl rfl rfl ?_
  refine jT_xaload_n (v := (4, 1)) (pcN := 147) jIQ_161_146 rfl rfl rfl ?_
  refine jT_xgetf (a := 1) (t := 2) (ci := 4) (fi := 1) (c := (4, [(4, 13), (1, 1)], [])) (v := (1, 1)) (pcN := 150) jIQ_161_147 rfl rfl rfl rfl rfl rfl rfl ?_
  refine jT_xlmul (x := r7) (y := 1) (z := r7) (pcN := 151) jIQ_161_150 rfl (by omega) rfl ?_
  refine jT_xlsub (x := 0) (y := r7) (z := -r7) (pcN := 152) jIQ_161_151 rfl (by omega) rfl ?_
  refine jT_adv 1 (pcN := 153) (LN := [(7, (0, 1)), (5, (1, q1)), (0, (4, 0)), (1, (0, r7)), (2, (0, r8)), (3, (4, 1)), (4, (0, o4))]) (stN := []) (hsN := [jzQ_16, (4, [(4, 13), (1, 1)], []), (8, [(4, 14), (4, 15)], []), jgh, jgh, jgh, jgh, jgh, jgh, (101, [], [q1, -r7, r8, 0, 0, 0]), (101, [], [k12_0, k12_1, k12_2, k12_3, k12_4, k12_5]), jgh, jgh, (101, [], [0, 0, 0, 0, 0, 0]), jgh, jgh]) (c1 := 0) (s1 := 0) (c2 := 0) (s2 := 0) (by exact rfl) ?_ (by omega) (by omega)
  refine jT_xiinc (x := 1) (z := 2) (LN := [(7, (0, 2)), (5, (1, q1)), (0, (4, 0)), (1, (0, r7)), (2, (0, r8)), (3, (4, 1)), (4, (0, o4))]) (pcN := 156) jIQ_161_153 rfl rfl (by decide) rfl rfl ?_
  refine jT_xgoto (pcN := 119) jIQ_161_156 rfl ?_
  refine jT_xiload (v := (0, 2)) (pcN := 121) jIQ_161_119 rfl rfl rfl ?_
  refine jT_xbipush (k := 6) (pcN := 123) jIQ_161_121 (by decide) rfl ?_
  refine jT_xicF (t := 159) (pcN := 126) jIQ_161_123 rfl (by decide +kernel) rfl rfl ?_
  refine jT_xaload_n (v := (4, 0)) (pcN := 127) jIQ_161_126 rfl rfl rfl ?_
  refine jT_xgetf (a := 0) (t := 1) (ci := 13) (fi := 7) (c := jzQ_16) (v := (4, 9)) (pcN := 130) jIQ_161_127 rfl rfl rfl rfl rfl rfl rfl ?_
  refine jT_xiload (v := (0, 2)) (pcN := 132) jIQ_161_130 rfl rfl rfl ?_
  refine jT_xaload_n (v := (4, 1)) (pcN := 133) jIQ_161_132 rfl rfl rfl ?_
  refine jT_xgetf (a := 1) (t := 2) (ci := 4) (fi := 0) (c := (4, [(4, 13), (1, 1)], [])) (v := (4, 13)) (pcN := 136) jIQ_161_133 rfl rfl rfl rfl rfl rfl rfl ?_
  refine jT_xiload (v := (0, 2)) (pcN := 138) jIQ_161_136 rfl rfl rfl ?_
  refine jT_lald (x := 0) (a := 13) (j := 2) (fs := []) (X := [0, 0, 0, 0, 0, 0]) jIQ_161_138 rfl rfl rfl rfl ?_
  refine jT_eq (LN := [(7, (0, 2)), (5, (1, q1)), (0, (4, 0)), (1, (0, r7)), (2, (0, r8)), (3, (4, 1)), (4, (0, o4))]) (stN := [(1, 0), (0, 2), (4, 9)]) (hsN := [jzQ_16, (4, [(4, 13), (1, 1)], []), (8, [(4, 14), (4, 15)], []), jgh, jgh, jgh, jgh, jgh, jgh, (101, [], [q1, -r7, r8, 0, 0, 0]), (101, [], [k12_0, k12_1, k12_2, k12_3, k12_4, k12_5]), jgh, jgh, (101, [], [0, 0, 0, 0, 0, 0]), jgh, jgh]) rfl rfl rfl ?_
  refine jT_xaload_n (v := (4, 0)) (pcN := 140) jIQ_161_139 rfl rfl rfl ?_
  refine jT_xgetf (a := 0) (t := 1) (ci := 13) (fi := 7) (c := jzQ_16) (v := (4, 9)) (pcN := 143) jIQ_161_140 rfl rfl rfl rfl rfl rfl rfl ?_
  refine jT_xiload (v := (0, 2)) (pcN := 145) jIQ_161_143 rfl rfl rfl ?_
  refine jT_lald (x := r8) (a := 9) (j := 2) (fs := []) (X := [q1, -r7, r8, 0, 0, 0]) jIQ_161_145 rfl rfl rfl rfl ?_
  refine jT_eq (LN := [(7, (0, 2)), (5, (1, q1)), (0, (4, 0)), (1, (0, r7)), (2, (0, r8)), (3, (4, 1)), (4, (0, o4))]) (stN := [(1, r8), (1, 0), (0, 2), (4, 9)]) (hsN := [jzQ_16, (4, [(4, 13), (1, 1)], []), (8, [(4, 14), (4, 15)], []), jgh, jgh, jgh, jgh, jgh, jgh, (101, [], [q1, -r7, r8, 0, 0, 0]), (101, [], [k12_0, k12_1, k12_2, k12_3, k12_4, k12_5]), jgh, jgh, (101, [], [0, 0, 0, 0, 0, 0]), jgh, jgh]) rfl rfl rfl ?_
  refine jT_xaload_n (v := (4, 1)) (pcN := 147) jIQ_161_146 rfl rfl rfl ?_
  refine jT_xgetf (a := 1) (t := 2) (ci := 4) (fi := 1) (c := (4, [(4, 13), (1, 1)], [])) (v := (1, 1)) (pcN := 150) jIQ_161_147 rfl rfl rfl rfl rfl rfl rfl ?_
  refine jT_xlmul (x := r8) (y := 1) (z := r8) (pcN := 151) jIQ_161_150 rfl (by omega) rfl ?_
  refine jT_xlsub (x := 0) (y := r8) (z := -r8) (pcN := 152) jIQ_161_151 rfl (by omega) rfl ?_
  refine jT_adv 1 (pcN := 153) (LN := [(7, (0, 2)), (5, (1, q1)), (0, (4, 0)), (1, (0, r7)), (2, (0, r8)), (3, (4, 1)), (4, (0, o4))]) (stN := []) (hsN := [jzQ_16, (4, [(4, 13), (1, 1)], []), (8, [(4, 14), (4, 15)], []), jgh, jgh, jgh, jgh, jgh, jgh, (101, [], [q1, -r7, -r8, 0, 0, 0]), (101, [], [k12_0, k12_1, k12_2, k12_3, k12_4, k12_5]), jgh, jgh, (101, [], [0, 0, 0, 0, 0, 0]), jgh, jgh]) (c1 := 0) (s1 := 0) (c2 := 0) (s2 := 0) (by exact rfl) ?_ (by omega) (by omega)
  refine jT_xiinc (x := 2) (z := 3) (LN := [(7, (0, 3)), (5, (1, q1)), (0, (4, 0)), (1, (0, r7)), (2, (0, r8)), (3, (4, 1)), (4, (0, o4))]) (pcN := 156) jIQ_161_153 rfl rfl (by decide) rfl rfl ?_
  refine jT_xgoto (pcN := 119) jIQ_161_156 rfl ?_
  refine jT_xiload (v := (0, 3)) (pcN := 121) jIQ_161_119 rfl rfl rfl ?_
  refine jT_xbipush (k := 6) (pcN := 123) jIQ_161_121 (by decide) rfl ?_
  refine jT_xicF (t := 159) (pcN := 126) jIQ_161_123 rfl (by decide +kernel) rfl rfl ?_
  refine jT_xaload_n (v := (4, 0)) (pcN := 127) jIQ_161_126 rfl rfl rfl ?_
  refine jT_xgetf (a := 0) (t := 1) (ci := 13) (fi := 7) (c := jzQ_16) (v := (4, 9)) (pcN := 130) jIQ_161_127 rfl rfl rfl rfl rfl rfl rfl ?_
  refine jT_xiload (v := (0, 3)) (pcN := 132) jIQ_161_130 rfl rfl rfl ?_
  refine jT_xaload_n (v := (4, 1)) (pcN := 133) jIQ_161_132 rfl rfl rfl ?_
  refine jT_xgetf (a := 1) (t := 2) (ci := 4) (fi := 0) (c := (4, [(4, 13), (1, 1)], [])) (v := (4, 13)) (pcN := 136) jIQ_161_133 rfl rfl rfl rfl rfl rfl rfl ?_
  refine jT_xiload (v := (0, 3)) (pcN := 138) jIQ_161_136 rfl rfl rfl ?_
  refine jT_lald (x := 0) (a := 13) (j := 3) (fs := []) (X := [0, 0, 0, 0, 0, 0]) jIQ_161_138 rfl rfl rfl rfl ?_
  refine jT_eq (LN := [(7, (0, 3)), (5, (1, q1)), (0, (4, 0)), (1, (0, r7)), (2, (0, r8)), (3, (4, 1)), (4, (0, o4))]) (stN := [(1, 0), (0, 3), (4, 9)]) (hsN := [jzQ_16, (4, [(4, 13), (1, 1)], []), (8, [(4, 14), (4, 15)], []), jgh, jgh, jgh, jgh, jgh, jgh, (101, [], [q1, -r7, -r8, 0, 0, 0]), (101, [], [k12_0, k12_1, k12_2, k12_3, k12_4, k12_5]), jgh, jgh, (101, [], [0, 0, 0, 0, 0, 0]), jgh, jgh]) rfl rfl rfl ?_
  refine jT_xaload_n (v := (4, 0)) (pcN := 140) jIQ_161_139 rfl rfl rfl ?_
  refine jT_xgetf (a := 0) (t := 1) (ci := 13) (fi := 7) (c := jzQ_16) (v := (4, 9)) (pcN := 143) jIQ_161_140 rfl rfl rfl rfl rfl rfl rfl ?_
  refine jT_xiload (v := (0, 3)) (pcN := 145) jIQ_161_143 rfl rfl rfl ?_
  refine jT_lald (x := 0) (a := 9) (j := 3) (fs := []) (X := [q1, -r7, -r8, 0, 0, 0]) jIQ_161_145 rfl rfl rfl rfl ?_
  refine jT_eq (LN := [(7, (0, 3)), (5, (1, q1)), (0, (4, 0)), (1, (0, r7)), (2, (0, r8)), (3, (4, 1)), (4, (0, o4))]) (stN := [(1, 0), (1, 0), (0, 3), (4, 9)]) (hsN := [jzQ_16, (4, [(4, 13), (1, 1)], []), (8, [(4, 14), (4, 15)], []), jgh, jgh, jgh, jgh, jgh, jgh, (101, [], [q1, -r7, -r8, 0, 0, 0]), (101, [], [k12_0, k12_1, k12_2, k12_3, k12_4, k12_5]), jgh, jgh, (101, [], [0, 0, 0, 0, 0, 0]), jgh, jgh]) rfl rfl rfl ?_
  refine jT_xaload_n (v := (4, 1)) (pcN := 147) jIQ_161_146 rfl rfl rfl ?_
  refine jT_xgetf (a := 1) (t := 2) (ci := 4) (fi := 1) (c := (4, [(4, 13), (1, 1)], [])) (v := (1, 1)) (pcN := 150) jIQ_161_147 rfl rfl rfl rfl rfl rfl rfl ?_
  refine jT_xlmul (x := 0) (y := 1) (z := 0) (pcN := 151) jIQ_161_150 rfl (by decide) rfl ?_
  refine jT_xlsub (x := 0) (y := 0) (z := 0) (pcN := 152) jIQ_161_151 rfl (by decide) rfl ?_
  refine jT_adv 1 (pcN := 153) (LN := [(7, (0, 3)), (5, (1, q1)), (0, (4, 0)), (1, (0, r7)), (2, (0, r8)), (3, (4, 1)), (4, (0, o4))]) (stN := []) (hsN := [jzQ_16, (4, [(4, 13), (1, 1)], []), (8, [(4, 14), (4, 15)], []), jgh, jgh, jgh, jgh, jgh, jgh, (101, [], [q1, -r7, -r8, 0, 0, 0]), (101, [], [k12_0, k12_1, k12_2, k12_3, k12_4, k12_5]), jgh, jgh, (101, [], [0, 0, 0, 0, 0, 0]), jgh, jgh]) (c1 := 0) (s1 := 0) (c2 := 0) (s2 := 0) (by exact rfl) ?_ (by omega) (by omega)
  refine jT_xiinc (x := 3) (z := 4) (LN := [(7, (0, 4)), (5, (1, q1)), (0, (4, 0)), (1, (0, r7)), (2, (0, r8)), (3, (4, 1)), (4, (0, o4))]) (pcN := 156) jIQ_161_153 rfl rfl (by decide) rfl rfl ?_
  refine jT_xgoto (pcN := 119) jIQ_161_156 rfl ?_
  refine jT_xiload (v := (0, 4)) (pcN := 121) jIQ_161_119 rfl rfl rfl ?_
  refine jT_xbipush (k := 6) (pcN := 123) jIQ_161_121 (by decide) rfl ?_
  refine jT_xicF (t := 159) (pcN := 126) jIQ_161_123 rfl (by decide +kernel) rfl rfl ?_
  refine jT_xaload_n (v := (4, 0)) (pcN := 127) jIQ_161_126 rfl rfl rfl ?_
  refine jT_xgetf (a := 0) (t := 1) (ci := 13) (fi := 7) (c := jzQ_16) (v := (4, 9)) (pcN := 130) jIQ_161_127 rfl rfl rfl rfl rfl rfl rfl ?_
  refine jT_xiload (v := (0, 4)) (pcN := 132) jIQ_161_130 rfl rfl rfl ?_
  refine jT_xaload_n (v := (4, 1)) (pcN := 133) jIQ_161_132 rfl rfl rfl ?_
  refine jT_xgetf (a := 1) (t := 2) (ci := 4) (fi := 0) (c := (4, [(4, 13), (1, 1)], [])) (v := (4, 13)) (pcN := 136) jIQ_161_133 rfl rfl rfl rfl rfl rfl rfl ?_
  refine jT_xiload (v := (0, 4)) (pcN := 138) jIQ_161_136 rfl rfl rfl ?_
  refine jT_lald (x := 0) (a := 13) (j := 4) (fs := []) (X := [0, 0, 0, 0, 0, 0]) jIQ_161_138 rfl rfl rfl rfl ?_
  refine jT_eq (LN := [(7, (0, 4)), (5, (1, q1)), (0, (4, 0)), (1, (0, r7)), (2, (0, r8)), (3, (4, 1)), (4, (0, o4))]) (stN := [(1, 0), (0, 4), (4, 9)]) (hsN := [jzQ_16, (4, [(4, 13), (1, 1)], []), (8, [(4, 14), (4, 15)], []), jgh, jgh, jgh, jgh, jgh, jgh, (101, [], [q1, -r7, -r8, 0, 0, 0]), (101, [], [k12_0, k12_1, k12_2, k12_3, k12_4, k12_5]), jgh, jgh, (101, [], [0, 0, 0, 0, 0, 0]), jgh, jgh]) rfl rfl rfl ?_
  refine jT_xaload_n (v := (4, 0)) (pcN := 140) jIQ_161_139 rfl rfl rfl ?_
  refine jT_xgetf (a := 0) (t := 1) (ci := 13) (fi := 7) (c := jzQ_16) (v := (4, 9)) (pcN := 143) jIQ_161_140 rfl rfl rfl rfl rfl rfl rfl ?_
  refine jT_xiload (v := (0, 4)) (pcN := 145) jIQ_161_143 rfl rfl rfl ?_
  refine jT_lald (x := 0) (a := 9) (j := 4) (fs := []) (X := [q1, -r7, -r8, 0, 0, 0]) jIQ_161_145 rfl rfl rfl rfl ?_
  refine jT_eq (LN := [(7, (0, 4)), (5, (1, q1)), (0, (4, 0)), (1, (0, r7)), (2, (0, r8)), (3, (4, 1)), (4, (0, o4))]) (stN := [(1, 0), (1, 0), (0, 4), (4, 9)]) (hsN := [jzQ_16, (4, [(4, 13), (1, 1)], []), (8, [(4, 14), (4, 15)], []), jgh, jgh, jgh, jgh, jgh, jgh, (101, [], [q1, -r7, -r8, 0, 0, 0]), (101, [], [k12_0, k12_1, k12_2, k12_3, k12_4, k12_5]), jgh, jgh, (101, [], [0, 0, 0, 0, 0, 0]), jgh, jgh]) rfl rfl rfl ?_
  refine jT_xaload_n (v := (4, 1)) (pcN := 147) jIQ_161_146 rfl rfl rfl ?_
  refine jT_xgetf (a := 1) (t := 2) (ci := 4) (fi := 1) (c := (4, [(4, 13), (1, 1)], [])) (v := (1, 1)) (pcN := 150) jIQ_161_147 rfl rfl rfl rfl rfl rfl rfl ?_
  refine jT_xlmul (x := 0) (y := 1) (z := 0) (pcN := 151) jIQ_161_150 rfl (by decide) rfl ?_
  refine jT_xlsub (x := 0) (y := 0) (z := 0) (pcN := 152) jIQ_161_151 rfl (by decide) rfl ?_
  refine jT_adv 1 (pcN := 153) (LN := [(7, (0, 4)), (5, (1, q1)), (0, (4, 0)), (1, (0, r7)), (2, (0, r8)), (3, (4, 1)), (4, (0, o4))]) (stN := []) (hsN := [jzQ_16, (4, [(4, 13), (1, 1)], []), (8, [(4, 14), (4, 15)], []), jgh, jgh, jgh, jgh, jgh, jgh, (101, [], [q1, -r7, -r8, 0, 0, 0]), (101, [], [k12_0, k12_1, k12_2, k12_3, k12_4, k12_5]), jgh, jgh, (101, [], [0, 0, 0, 0, 0, 0]), jgh, jgh]) (c1 := 0) (s1 := 0) (c2 := 0) (s2 := 0) (by exact rfl) ?_ (by omega) (by omega)
  refine jT_xiinc (x := 4) (z := 5) (LN := [(7, (0, 5)), (5, (1, q1)), (0, (4, 0)), (1, (0, r7)), (2, (0, r8)), (3, (4, 1)), (4, (0, o4))]) (pcN := 156) jIQ_161_153 rfl rfl (by decide) rfl rfl ?_
  refine jT_xgoto (pcN := 119) jIQ_161_156 rfl ?_
  refine jT_xiload (v := (0, 5)) (pcN := 121) jIQ_161_119 rfl rfl rfl ?_
  refine jT_xbipush (k := 6) (pcN := 123) jIQ_161_121 (by decide) rfl ?_
  refine jT_xicF (t := 159) (pcN := 126) jIQ_161_123 rfl (by decide +kernel) rfl rfl ?_
  refine jT_xaload_n (v := (4, 0)) (pcN := 127) jIQ_161_126 rfl rfl rfl ?_
  refine jT_xgetf (a := 0) (t := 1) (ci := 13) (fi := 7) (c := jzQ_16) (v := (4, 9)) (pcN := 130) jIQ_161_127 rfl rfl rfl rfl rfl rfl rfl ?_
  refine jT_xiload (v := (0, 5)) (pcN := 132) jIQ_161_130 rfl rfl rfl ?_
  refine jT_xaload_n (v := (4, 1)) (pcN := 133) jIQ_161_132 rfl rfl rfl ?_
  refine jT_xgetf (a := 1) (t := 2) (ci := 4) (fi := 0) (c := (4, [(4, 13), (1, 1)], [])) (v := (4, 13)) (pcN := 136) jIQ_161_133 rfl rfl rfl rfl rfl rfl rfl ?_
  refine jT_xiload (v := (0, 5)) (pcN := 138) jIQ_161_136 rfl rfl rfl ?_
  refine jT_lald (x := 0) (a := 13) (j := 5) (fs := []) (X := [0, 0, 0, 0, 0, 0]) jIQ_161_138 rfl rfl rfl rfl ?_
  refine jT_eq (LN := [(7, (0, 5)), (5, (1, q1)), (0, (4, 0)), (1, (0, r7)), (2, (0, r8)), (3, (4, 1)), (4, (0, o4))]) (stN := [(1, 0), (0, 5), (4, 9)]) (hsN := [jzQ_16, (4, [(4, 13), (1, 1)], []), (8, [(4, 14), (4, 15)], []), jgh, jgh, jgh, jgh, jgh, jgh, (101, [], [q1, -r7, -r8, 0, 0, 0]), (101, [], [k12_0, k12_1, k12_2, k12_3, k12_4, k12_5]), jgh, jgh, (101, [], [0, 0, 0, 0, 0, 0]), jgh, jgh]) rfl rfl rfl ?_
  refine jT_xaload_n (v := (4, 0)) (pcN := 140) jIQ_161_139 rfl rfl rfl ?_
  refine jT_xgetf (a := 0) (t := 1) (ci := 13) (fi := 7) (c := jzQ_16) (v := (4, 9)) (pcN := 143) jIQ_161_140 rfl rfl rfl rfl rfl rfl rfl ?_
  refine jT_xiload (v := (0, 5)) (pcN := 145) jIQ_161_143 rfl rfl rfl ?_
  refine jT_lald (x := 0) (a := 9) (j := 5) (fs := []) (X := [q1, -r7, -r8, 0, 0, 0]) jIQ_161_145 rfl rfl rfl rfl ?_
  refine jT_eq (LN := [(7, (0, 5)), (5, (1, q1)), (0, (4, 0)), (1, (0, r7)), (2, (0, r8)), (3, (4, 1)), (4, (0, o4))]) (stN := [(1, 0), (1, 0), (0, 5), (4, 9)]) (hsN := [jzQ_16, (4, [(4, 13), (1, 1)], []), (8, [(4, 14), (4, 15)], []), jgh, jgh, jgh, jgh, jgh, jgh, (101, [], [q1, -r7, -r8, 0, 0, 0]), (101, [], [k12_0, k12_1, k12_2, k12_3, k12_4, k12_5]), jgh, jgh, (101, [], [0, 0, 0, 0, 0, 0]), jgh, jgh]) rfl rfl rfl ?_
  refine jT_xaload_n (v := (4, 1)) (pcN := 147) jIQ_161_146 rfl rfl rfl ?_
  refine jT_xgetf (a := 1) (t := 2) (ci := 4) (fi := 1) (c := (4, [(4, 13), (1, 1)], [])) (v := (1, 1)) (pcN := 150) jIQ_161_147 rfl rfl rfl rfl rfl rfl rfl ?_
  refine jT_xlmul (x := 0) (y := 1) (z := 0) (pcN := 151) jIQ_161_150 rfl (by decide) rfl ?_
  refine jT_xlsub (x := 0) (y := 0) (z := 0) (pcN := 152) jIQ_161_151 rfl (by decide) rfl ?_
  refine jT_adv 1 (pcN := 153) (LN := [(7, (0, 5)), (5, (1, q1)), (0, (4, 0)), (1, (0, r7)), (2, (0, r8)), (3, (4, 1)), (4, (0, o4))]) (stN := []) (hsN := [jzQ_16, (4, [(4, 13), (1, 1)], []), (8, [(4, 14), (4, 15)], []), jgh, jgh, jgh, jgh, jgh, jgh, (101, [], [q1, -r7, -r8, 0, 0, 0]), (101, [], [k12_0, k12_1, k12_2, k12_3, k12_4, k12_5]), jgh, jgh, (101, [], [0, 0, 0, 0, 0, 0]), jgh, jgh]) (c1 := 0) (s1 := 0) (c2 := 0) (s2 := 0) (by exact rfl) ?_ (by omega) (by omega)
  refine jT_xiinc (x := 5) (z := 6) (LN := [(7, (0, 6)), (5, (1, q1)), (0, (4, 0)), (1, (0, r7)), (2, (0, r8)), (3, (4, 1)), (4, (0, o4))]) (pcN := 156) jIQ_161_153 rfl rfl (by decide) rfl rfl ?_
  refine jT_xgoto (pcN := 119) jIQ_161_156 rfl ?_
  refine jT_xiload (v := (0, 6)) (pcN := 121) jIQ_161_119 rfl rfl rfl ?_
  refine jT_xbipush (k := 6) (pcN := 123) jIQ_161_121 (by decide) rfl ?_
  refine jT_xicT (pcN := 159) jIQ_161_123 rfl (by decide +kernel) rfl ?_
  refine jT_xaload_n (v := (4, 0)) (pcN := 160) jIQ_161_159 rfl rfl rfl ?_
  refine jT_xgetf (a := 0) (t := 1) (ci := 13) (fi := 0) (c := jzQ_16) (v := (4, 2)) (pcN := 163) jIQ_161_160 rfl rfl rfl rfl rfl rfl rfl ?_
  refine jT_xaload_n (v := (4, 0)) (pcN := 164) jIQ_161_163 rfl rfl rfl ?_
  refine jT_xgetf (a := 0) (t := 1) (ci := 13) (fi := 7) (c := jzQ_16) (v := (4, 9)) (pcN := 167) jIQ_161_164 rfl rfl rfl rfl rfl rfl rfl ?_
  refine jT_callA [2, 9, 14, 15] (y := 38) (pcN := 170) (dC := 1) (bc1 := 0) (bc2 := 0) (c1 := 0) (c2 := 0) (as := [(4, 2), (4, 9)]) (asC := [(4, 0), (4, 1)]) (LN := [(7, (0, 6)), (5, (1, q1)), (0, (4, 0)), (1, (0, r7)), (2, (0, r8)), (3, (4, 1)), (4, (0, o4))]) (stN := []) (hsC := [(8, [(4, 2), (4, 3)], []), (101, [], [q1, -r7, -r8, 0, 0, 0]), jgh, jgh]) (ex := []) (v := (0, (-1))) (st2 := [(0, (-1))]) (hs2 := [jzQ_16, (4, [(4, 13), (1, 1)], []), (8, [(4, 14), (4, 15)], []), jgh, jgh, jgh, jgh, jgh, jgh, (101, [], [q1, -r7, -r8, 0, 0, 0]), (101, [], [k12_0, k12_1, k12_2, k12_3, k12_4, k12_5]), jgh, jgh, (101, [], [0, 0, 0, 0, 0, 0]), jgh, jgh]) (jQl_sp38_117 (d := 0) (by omega) (by omega) (by omega) (by omega) (by omega) (by omega) (by omega)) (by rfl) (by rfl) (by rfl) (by rfl) ⟨rfl, rfl, rfl, rfl, trivial⟩ (by rfl) (by rfl) (by omega) (by show 16 ≤ 16; omega) (by omega) (by omega) rfl rfl ?_
  refine jT_xifT (pcN := 177) jIQ_161_170 rfl (by decide +kernel) rfl ?_
  refine jT_xiconst (k := 0) (pcN := 178) jIQ_161_177 rfl ?_
  subst hq_q4
  subst hq_q3
  subst hq_q2
  subst hq_q1
  exact jT_ret rfl (by decide) (by show 16 ≤ 16; omega) (by omega) (by omega) ⟨rfl, rfl, rfl⟩
theorem jQ_161_326 {xs : List Int} {d : Nat} {k12_0 k12_1 k12_2 k12_3 k12_4 k12_5 o4 r7 r8 u11_0 u11_1 u11_2 u11_3 u11_4 u11_5 : Int} (h_k12_0 : 1 ≤ k12_0 ∧ k12_0 ≤ 100) (h_k12_1 : 2 ≤ k12_1 ∧ k12_1 ≤ 158) (h_k12_2 : 2 ≤ k12_2 ∧ k12_2 ≤ 232) (h_k12_3 : 3 ≤ k12_3 ∧ k12_3 ≤ 281) (h_k12_4 : 3 ≤ k12_4 ∧ k12_4 ≤ 346) (h_k12_5 : 4 ≤ k12_5 ∧ k12_5 ≤ 370) (h_o4 : 1 ≤ o4 ∧ o4 ≤ 100) (h_r7 : (-20) ≤ r7 ∧ r7 ≤ 20) (h_r8 : (-10) ≤ r8 ∧ r8 ≤ 10) (g_0 : 0 < r7) (g_1 : 0 ≤ -(((108917793695 * r7 + 159561683699 * r8) / 68719476736) * o4) + (r7 * k12_1) + (r8 * k12_2) - 1) : jT xs (d + 2) 161 15 0 [(0, (4, 0)), (1, (0, r7)), (2, (0, r8)), (3, (4, 1)), (4, (0, o4))] [] [jzQ_16, jgh, (8, [(4, 13), (4, 14)], []), jgh, jgh, jgh, jgh, jgh, jgh, (101, [], [u11_0, u11_1, u11_2, u11_3, u11_4, u11_5]), (101, [], [k12_0, k12_1, k12_2, k12_3, k12_4, k12_5]), jgh, jgh, jgh, jgh] 0 0 (fun k v hsN => k = 0 ∧ v = (0, 0) ∧ hsN = [jzQ_16, jgh, (8, [(4, 13), (4, 14)], []), jgh, jgh, jgh, jgh, jgh, jgh, (101, [], [0, r7, r8, 0, 0, 0]), (101, [], [k12_0, k12_1, k12_2, k12_3, k12_4, k12_5]), jgh, jgh, jgh, jgh]) := by
  refine jT_xiload_n (v := (0, r7)) (pcN := 1) jIQ_161_0 rfl rfl rfl ?_
  refine jT_ifT (a := r7) (t := 10) (by rfl) (by rfl) (by rfl) (jw_idd (by omega) (by omega)) (by simp only [jcP] <;> omega) ?_
  refine jT_xiconst (k := 0) (pcN := 11) jIQ_161_10 rfl ?_
  refine jT_xistore (v := (0, 0)) (LN := [(5, (0, 0)), (0, (4, 0)), (1, (0, r7)), (2, (0, r8)), (3, (4, 1)), (4, (0, o4))]) (pcN := 13) jIQ_161_11 rfl rfl rfl rfl ?_
  refine jT_xiload (v := (0, 0)) (pcN := 15) jIQ_161_13 rfl rfl rfl ?_
  refine jT_xbipush (k := 6) (pcN := 17) jIQ_161_15 (by decide) rfl ?_
  refine jT_xicF (t := 56) (pcN := 20) jIQ_161_17 rfl (by decide +kernel) rfl rfl ?_
  refine jT_xaload_n (v := (4, 0)) (pcN := 21) jIQ_161_20 rfl rfl rfl ?_
  refine jT_xgetf (a := 0) (t := 1) (ci := 13) (fi := 7) (c := jzQ_16) (v := (4, 9)) (pcN := 24) jIQ_161_21 rfl rfl rfl rfl rfl rfl rfl ?_
  refine jT_xiload (v := (0, 0)) (pcN := 26) jIQ_161_24 rfl rfl rfl ?_
  refine jT_xiload (v := (0, 0)) (pcN := 28) jIQ_161_26 rfl rfl rfl ?_
  refine jT_xiconst (k := 1) (pcN := 29) jIQ_161_28 rfl ?_
  refine jT_xicT (pcN := 37) jIQ_161_29 rfl (by decide +kernel) rfl ?_
  refine jT_xiload (v := (0, 0)) (pcN := 39) jIQ_161_37 rfl rfl rfl ?_
  refine jT_xiconst (k := 2) (pcN := 40) jIQ_161_39 rfl ?_
  refine jT_xicT (pcN := 48) jIQ_161_40 rfl (by decide +kernel) rfl ?_
  refine jT_xlconst (z := 0) (pcN := 49) jIQ_161_48 rfl rfl ?_
  refine jT_adv 1 (pcN := 50) (LN := [(5, (0, 0)), (0, (4, 0)), (1, (0, r7)), (2, (0, r8)), (3, (4, 1)), (4, (0, o4))]) (stN := []) (hsN := [jzQ_16, jgh, (8, [(4, 13), (4, 14)], []), jgh, jgh, jgh, jgh, jgh, jgh, (101, [], [0, u11_1, u11_2, u11_3, u11_4, u11_5]), (101, [], [k12_0, k12_1, k12_2, k12_3, k12_4, k12_5]), jgh, jgh, jgh, jgh]) (c1 := 0) (s1 := 0) (c2 := 0) (s2 := 0) (by exact rfl) ?_ (by omega) (by omega)
  refine jT_xiinc (x := 0) (z := 1) (LN := [(5, (0, 1)), (0, (4, 0)), (1, (0, r7)), (2, (0, r8)), (3, (4, 1)), (4, (0, o4))]) (pcN := 53) jIQ_161_50 rfl rfl (by decide) rfl rfl ?_
  refine jT_xgoto (pcN := 13) jIQ_161_53 rfl ?_
  refine jT_xiload (v := (0, 1)) (pcN := 15) jIQ_161_13 rfl rfl rfl ?_
  refine jT_xbipush (k := 6) (pcN := 17) jIQ_161_15 (by decide) rfl ?_
  refine jT_xicF (t := 56) (pcN := 20) jIQ_161_17 rfl (by decide +kernel) rfl rfl ?_
  refine jT_xaload_n (v := (4, 0)) (pcN := 21) jIQ_161_20 rfl rfl rfl ?_
  refine jT_xgetf (a := 0) (t := 1) (ci := 13) (fi := 7) (c := jzQ_16) (v := (4, 9)) (pcN := 24) jIQ_161_21 rfl rfl rfl rfl rfl rfl rfl ?_
  refine jT_xiload (v := (0, 1)) (pcN := 26) jIQ_161_24 rfl rfl rfl ?_
  refine jT_xiload (v := (0, 1)) (pcN := 28) jIQ_161_26 rfl rfl rfl ?_
  refine jT_xiconst (k := 1) (pcN := 29) jIQ_161_28 rfl ?_
  refine jT_xicF (t := 37) (pcN := 32) jIQ_161_29 rfl (by decide +kernel) rfl rfl ?_
  refine jT_xiload_n (v := (0, r7)) (pcN := 33) jIQ_161_32 rfl rfl rfl ?_
  refine jT_xi2l (x := r7) (z := r7) (pcN := 34) jIQ_161_33 rfl (jw_idd (by omega) (by omega)) rfl ?_
  refine jT_xgoto (pcN := 49) jIQ_161_34 rfl ?_
  refine jT_adv 1 (pcN := 50) (LN := [(5, (0, 1)), (0, (4, 0)), (1, (0, r7)), (2, (0, r8)), (3, (4, 1)), (4, (0, o4))]) (stN := []) (hsN := [jzQ_16, jgh, (8, [(4, 13), (4, 14)], []), jgh, jgh, jgh, jgh, jgh, jgh, (101, [], [0, r7, u11_2, u11_3, u11_4, u11_5]), (101, [], [k12_0, k12_1, k12_2, k12_3, k12_4, k12_5]), jgh, jgh, jgh, jgh]) (c1 := 0) (s1 := 0) (c2 := 0) (s2 := 0) (by exact rfl) ?_ (by omega) (by omega)
  refine jT_xiinc (x := 1) (z := 2) (LN := [(5, (0, 2)), (0, (4, 0)), (1, (0, r7)), (2, (0, r8)), (3, (4, 1)), (4, (0, o4))]) (pcN := 53) jIQ_161_50 rfl rfl (by decide) rfl rfl ?_
  refine jT_xgoto (pcN := 13) jIQ_161_53 rfl ?_
  refine jT_xiload (v := (0, 2)) (pcN := 15) jIQ_161_13 rfl rfl rfl ?_
  refine jT_xbipush (k := 6) (pcN := 17) jIQ_161_15 (by decide) rfl ?_
  refine jT_xicF (t := 56) (pcN := 20) jIQ_161_17 rfl (by decide +kernel) rfl rfl ?_
  refine jT_xaload_n (v := (4, 0)) (pcN := 21) jIQ_161_20 rfl rfl rfl ?_
  refine jT_xgetf (a := 0) (t := 1) (ci := 13) (fi := 7) (c := jzQ_16) (v := (4, 9)) (pcN := 24) jIQ_161_21 rfl rfl rfl rfl rfl rfl rfl ?_
  refine jT_xiload (v := (0, 2)) (pcN := 26) jIQ_161_24 rfl rfl rfl ?_
  refine jT_xiload (v := (0, 2)) (pcN := 28) jIQ_161_26 rfl rfl rfl ?_
  refine jT_xiconst (k := 1) (pcN := 29) jIQ_161_28 rfl ?_
  refine jT_xicT (pcN := 37) jIQ_161_29 rfl (by decide +kernel) rfl ?_
  refine jT_xiload (v := (0, 2)) (pcN := 39) jIQ_161_37 rfl rfl rfl ?_
  refine jT_xiconst (k := 2) (pcN := 40) jIQ_161_39 rfl ?_
  refine jT_xicF (t := 48) (pcN := 43) jIQ_161_40 rfl (by decide +kernel) rfl rfl ?_
  refine jT_xiload_n (v := (0, r8)) (pcN := 44) jIQ_161_43 rfl rfl rfl ?_
  refine jT_xi2l (x := r8) (z := r8) (pcN := 45) jIQ_161_44 rfl (jw_idd (by omega) (by omega)) rfl ?_
  refine jT_xgoto (pcN := 49) jIQ_161_45 rfl ?_
  refine jT_adv 1 (pcN := 50) (LN := [(5, (0, 2)), (0, (4, 0)), (1, (0, r7)), (2, (0, r8)), (3, (4, 1)), (4, (0, o4))]) (stN := []) (hsN := [jzQ_16, jgh, (8, [(4, 13), (4, 14)], []), jgh, jgh, jgh, jgh, jgh, jgh, (101, [], [0, r7, r8, u11_3, u11_4, u11_5]), (101, [], [k12_0, k12_1, k12_2, k12_3, k12_4, k12_5]), jgh, jgh, jgh, jgh]) (c1 := 0) (s1 := 0) (c2 := 0) (s2 := 0) (by exact rfl) ?_ (by omega) (by omega)
  refine jT_xiinc (x := 2) (z := 3) (LN := [(5, (0, 3)), (0, (4, 0)), (1, (0, r7)), (2, (0, r8)), (3, (4, 1)), (4, (0, o4))]) (pcN := 53) jIQ_161_50 rfl rfl (by decide) rfl rfl ?_
  refine jT_xgoto (pcN := 13) jIQ_161_53 rfl ?_
  refine jT_xiload (v := (0, 3)) (pcN := 15) jIQ_161_13 rfl rfl rfl ?_
  refine jT_xbipush (k := 6) (pcN := 17) jIQ_161_15 (by decide) rfl ?_
  refine jT_xicF (t := 56) (pcN := 20) jIQ_161_17 rfl (by decide +kernel) rfl rfl ?_
  refine jT_xaload_n (v := (4, 0)) (pcN := 21) jIQ_161_20 rfl rfl rfl ?_
  refine jT_xgetf (a := 0) (t := 1) (ci := 13) (fi := 7) (c := jzQ_16) (v := (4, 9)) (pcN := 24) jIQ_161_21 rfl rfl rfl rfl rfl rfl rfl ?_
  refine jT_xiload (v := (0, 3)) (pcN := 26) jIQ_161_24 rfl rfl rfl ?_
  refine jT_xiload (v := (0, 3)) (pcN := 28) jIQ_161_26 rfl rfl rfl ?_
  refine jT_xiconst (k := 1) (pcN := 29) jIQ_161_28 rfl ?_
  refine jT_xicT (pcN := 37) jIQ_161_29 rfl (by decide +kernel) rfl ?_
  refine jT_xiload (v := (0, 3)) (pcN := 39) jIQ_161_37 rfl rfl rfl ?_
  refine jT_xiconst (k := 2) (pcN := 40) jIQ_161_39 rfl ?_
  refine jT_xicT (pcN := 48) jIQ_161_40 rfl (by decide +kernel) rfl ?_
  refine jT_xlconst (z := 0) (pcN := 49) jIQ_161_48 rfl rfl ?_
  refine jT_adv 1 (pcN := 50) (LN := [(5, (0, 3)), (0, (4, 0)), (1, (0, r7)), (2, (0, r8)), (3, (4, 1)), (4, (0, o4))]) (stN := []) (hsN := [jzQ_16, jgh, (8, [(4, 13), (4, 14)], []), jgh, jgh, jgh, jgh, jgh, jgh, (101, [], [0, r7, r8, 0, u11_4, u11_5]), (101, [], [k12_0, k12_1, k12_2, k12_3, k12_4, k12_5]), jgh, jgh, jgh, jgh]) (c1 := 0) (s1 := 0) (c2 := 0) (s2 := 0) (by exact rfl) ?_ (by omega) (by omega)
  refine jT_xiinc (x := 3) (z := 4) (LN := [(5, (0, 4)), (0, (4, 0)), (1, (0, r7)), (2, (0, r8)), (3, (4, 1)), (4, (0, o4))]) (pcN := 53) jIQ_161_50 rfl rfl (by decide) rfl rfl ?_
  refine jT_xgoto (pcN := 13) jIQ_161_53 rfl ?_
  refine jT_xiload (v := (0, 4)) (pcN := 15) jIQ_161_13 rfl rfl rfl ?_
  refine jT_xbipush (k := 6) (pcN := 17) jIQ_161_15 (by decide) rfl ?_
  refine jT_xicF (t := 56) (pcN := 20) jIQ_161_17 rfl (by decide +kernel) rfl rfl ?_
  refine jT_xaload_n (v := (4, 0)) (pcN := 21) jIQ_161_20 rfl rfl rfl ?_
  refine jT_xgetf (a := 0) (t := 1) (ci := 13) (fi := 7) (c := jzQ_16) (v := (4, 9)) (pcN := 24) jIQ_161_21 rfl rfl rfl rfl rfl rfl rfl ?_
  refine jT_xiload (v := (0, 4)) (pcN := 26) jIQ_161_24 rfl rfl rfl ?_
  refine jT_xiload (v := (0, 4)) (pcN := 28) jIQ_161_26 rfl rfl rfl ?_
  refine jT_xiconst (k := 1) (pcN := 29) jIQ_161_28 rfl ?_
  refine jT_xicT (pcN := 37) jIQ_161_29 rfl (by decide +kernel) rfl ?_
  refine jT_xiload (v := (0, 4)) (pcN := 39) jIQ_161_37 rfl rfl rfl ?_
  refine jT_xiconst (k := 2) (pcN := 40) jIQ_161_39 rfl ?_
  refine jT_xicT (pcN := 48) jIQ_161_40 rfl (by decide +kernel) rfl ?_
  refine jT_xlconst (z := 0) (pcN := 49) jIQ_161_48 rfl rfl ?_
  refine jT_adv 1 (pcN := 50) (LN := [(5, (0, 4)), (0, (4, 0)), (1, (0, r7)), (2, (0, r8)), (3, (4, 1)), (4, (0, o4))]) (stN := []) (hsN := [jzQ_16, jgh, (8, [(4, 13), (4, 14)], []), jgh, jgh, jgh, jgh, jgh, jgh, (101, [], [0, r7, r8, 0, 0, u11_5]), (101, [], [k12_0, k12_1, k12_2, k12_3, k12_4, k12_5]), jgh, jgh, jgh, jgh]) (c1 := 0) (s1 := 0) (c2 := 0) (s2 := 0) (by exact rfl) ?_ (by omega) (by omega)
  refine jT_xiinc (x := 4) (z := 5) (LN := [(5, (0, 5)), (0, (4, 0)), (1, (0, r7)), (2, (0, r8)), (3, (4, 1)), (4, (0, o4))]) (pcN := 53) jIQ_161_50 rfl rfl (by decide) rfl rfl ?_
  refine jT_xgoto (pcN := 13) jIQ_161_53 rfl ?_
  refine jT_xiload (v := (0, 5)) (pcN := 15) jIQ_161_13 rfl rfl rfl ?_
  refine jT_xbipush (k := 6) (pcN := 17) jIQ_161_15 (by decide) rfl ?_
  refine jT_xicF (t := 56) (pcN := 20) jIQ_161_17 rfl (by decide +kernel) rfl rfl ?_
  refine jT_xaload_n (v := (4, 0)) (pcN := 21) jIQ_161_20 rfl rfl rfl ?_
  refine jT_xgetf (a := 0) (t := 1) (ci := 13) (fi := 7) (c := jzQ_16) (v := (4, 9)) (pcN := 24) jIQ_161_21 rfl rfl rfl rfl rfl rfl rfl ?_
  refine jT_xiload (v := (0, 5)) (pcN := 26) jIQ_161_24 rfl rfl rfl ?_
  refine jT_xiload (v := (0, 5)) (pcN := 28) jIQ_161_26 rfl rfl rfl ?_
  refine jT_xiconst (k := 1) (pcN := 29) jIQ_161_28 rfl ?_
  refine jT_xicT (pcN := 37) jIQ_161_29 rfl (by decide +kernel) rfl ?_
  refine jT_xiload (v := (0, 5)) (pcN := 39) jIQ_161_37 rfl rfl rfl ?_
  refine jT_xiconst (k := 2) (pcN := 40) jIQ_161_39 rfl ?_
  refine jT_xicT (pcN := 48) jIQ_161_40 rfl (by decide +kernel) rfl ?_
  refine jT_xlconst (z := 0) (pcN := 49) jIQ_161_48 rfl rfl ?_
  refine jT_adv 1 (pcN := 50) (LN := [(5, (0, 5)), (0, (4, 0)), (1, (0, r7)), (2, (0, r8)), (3, (4, 1)), (4, (0, o4))]) (stN := []) (hsN := [jzQ_16, jgh, (8, [(4, 13), (4, 14)], []), jgh, jgh, jgh, jgh, jgh, jgh, (101, [], [0, r7, r8, 0, 0, 0]), (101, [], [k12_0, k12_1, k12_2, k12_3, k12_4, k12_5]), jgh, jgh, jgh, jgh]) (c1 := 0) (s1 := 0) (c2 := 0) (s2 := 0) (by exact rfl) ?_ (by omega) (by omega)
  refine jT_xiinc (x := 5) (z := 6) (LN := [(5, (0, 6)), (0, (4, 0)), (1, (0, r7)), (2, (0, r8)), (3, (4, 1)), (4, (0, o4))]) (pcN := 53) jIQ_161_50 rfl rfl (by decide) rfl rfl ?_
  refine jT_xgoto (pcN := 13) jIQ_161_53 rfl ?_
  refine jT_xiload (v := (0, 6)) (pcN := 15) jIQ_161_13 rfl rfl rfl ?_
  refine jT_xbipush (k := 6) (pcN := 17) jIQ_161_15 (by decide) rfl ?_
  refine jT_xicT (pcN := 56) jIQ_161_17 rfl (by decide +kernel) rfl ?_
  refine jT_xaload_n (v := (4, 0)) (pcN := 57) jIQ_161_56 rfl rfl rfl ?_
  refine jT_xgetf (a := 0) (t := 1) (ci := 13) (fi := 0) (c := jzQ_16) (v := (4, 2)) (pcN := 60) jIQ_161_57 rfl rfl rfl rfl rfl rfl rfl ?_
  refine jT_xaload_n (v := (4, 0)) (pcN := 61) jIQ_161_60 rfl rfl rfl ?_
  refine jT_xgetf (a := 0) (t := 1) (ci := 13) (fi := 7) (c := jzQ_16) (v := (4, 9)) (pcN := 64) jIQ_161_61 rfl rfl rfl rfl rfl rfl rfl ?_
  refine jT_xlconst (z := 1) (pcN := 65) jIQ_161_64 rfl rfl ?_
  refine jT_xlconst (z := 1) (pcN := 66) jIQ_161_65 rfl rfl ?_
  refine jT_callA [2, 9, 13, 14] (y := 45) (pcN := 69) (dC := 1) (bc1 := 0) (bc2 := 0) (c1 := 0) (c2 := 0) (as := [(4, 2), (4, 9), (1, 1), (1, 1)]) (asC := [(4, 0), (4, 1), (1, 1), (1, 1)]) (LN := [(5, (0, 6)), (0, (4, 0)), (1, (0, r7)), (2, (0, r8)), (3, (4, 1)), (4, (0, o4))]) (stN := []) (hsC := [(8, [(4, 2), (4, 3)], []), (101, [], [0, r7, r8, 0, 0, 0]), jgh, jgh]) (ex := []) (v := (1, (108917793695 * r7 + 159561683699 * r8) / 68719476736)) (st2 := [(1, (108917793695 * r7 + 159561683699 * r8) / 68719476736)]) (hs2 := [jzQ_16, jgh, (8, [(4, 13), (4, 14)], []), jgh, jgh, jgh, jgh, jgh, jgh, (101, [], [0, r7, r8, 0, 0, 0]), (101, [], [k12_0, k12_1, k12_2, k12_3, k12_4, k12_5]), jgh, jgh, jgh, jgh]) (jQl_sp45_116 (d := 0) (by omega) (by omega)) (by rfl) (by rfl) (by rfl) (by rfl) ⟨rfl, rfl, rfl, rfl, trivial⟩ (by rfl) (by rfl) (by omega) (by show 15 ≤ 15; omega) (by omega) (by omega) rfl rfl ?_
  have hb_q1 : (-60) ≤ (108917793695 * r7 + 159561683699 * r8) / 68719476736 ∧ (108917793695 * r7 + 159561683699 * r8) / 68719476736 ≤ 60 := ⟨by omega, by omega⟩
  generalize hq_q1 : (108917793695 * r7 + 159561683699 * r8) / 68719476736 = q1 at hb_q1 g_1 ⊢
  refine jT_xlstore (v := (1, q1)) (LN := [(5, (1, q1)), (0, (4, 0)), (1, (0, r7)), (2, (0, r8)), (3, (4, 1)), (4, (0, o4))]) (pcN := 71) jIQ_161_69 rfl rfl rfl rfl ?_
  have g_2 : 0 ≤ (-68719476736) * q1 + 108917793694 * r7 + 159561683698 * r8 - 1 := by have := jcg (b := r7) (c := r8) (by omega) (by omega) (by omega); rw [hq_q1] at this; omega
  have g_3 : 0 ≤ (-68719476736) * q1 + 108917793694 * r7 + 159561683700 * r8 - 1 := by have := jcg (b := r7) (c := r8) (by omega) (by omega) (by omega); rw [hq_q1] at this; omega
  have g_4 : 0 ≤ (-68719476736) * q1 + 108917793696 * r7 + 159561683698 * r8 - 1 := by have := jcg (b := r7) (c := r8) (by omega) (by omega) (by omega); rw [hq_q1] at this; omega
  have g_5 : 0 ≤ (-68719476736) * q1 + 108917793696 * r7 + 159561683700 * r8 - 1 := by have := jcg (b := r7) (c := r8) (by omega) (by omega) (by omega); rw [hq_q1] at this; omega
  refine jT_xiload (v := (0, o4)) (pcN := 73) jIQ_161_71 rfl rfl rfl ?_
  refine jT_ifF (a := o4) (t := 107) (by rfl) (by rfl) (by rfl) (jw_idd (by omega) (by omega)) (by simp only [jcP] <;> omega) ?_
  refine jT_xiload_n (v := (0, r7)) (pcN := 77) jIQ_161_76 rfl rfl rfl ?_
  refine jT_xi2l (x := r7) (z := r7) (pcN := 78) jIQ_161_77 rfl (jw_idd (by omega) (by omega)) rfl ?_
  refine jT_xaload_n (v := (4, 0)) (pcN := 79) jIQ_161_78 rfl rfl rfl ?_
  refine jT_xgetf (a := 0) (t := 1) (ci := 13) (fi := 8) (c := jzQ_16) (v := (4, 10)) (pcN := 82) jIQ_161_79 rfl rfl rfl rfl rfl rfl rfl ?_
  refine jT_xiconst (k := 1) (pcN := 83) jIQ_161_82 rfl ?_
  refine jT_lald (x := k12_1) (a := 10) (j := 1) (fs := []) (X := [k12_0, k12_1, k12_2, k12_3, k12_4, k12_5]) jIQ_161_83 rfl rfl rfl rfl ?_
  refine jT_eq (LN := [(5, (1, q1)), (0, (4, 0)), (1, (0, r7)), (2, (0, r8)), (3, (4, 1)), (4, (0, o4))]) (stN := [(1, k12_1), (1, r7)]) (hsN := [jzQ_16, jgh, (8, [(4, 13), (4, 14)], []), jgh, jgh, jgh, jgh, jgh, jgh, (101, [], [0, r7, r8, 0, 0, 0]), (101, [], [k12_0, k12_1, k12_2, k12_3, k12_4, k12_5]), jgh, jgh, jgh, jgh]) rfl rfl rfl ?_
  refine jT_xlmul (x := r7) (y := k12_1) (z := r7 * k12_1) (pcN := 85) jIQ_161_84 rfl rfl rfl ?_
  have hb_q2 := jmul_b2 (x := r7) (y := k12_1) (k := 1) (l := 2) (m := 20) (n := 158) (by omega) (by omega) (by omega) (by omega) (by omega) (by omega)
  have hb_q2 : 2 ≤ r7 * k12_1 ∧ r7 * k12_1 ≤ 3160 := ⟨by omega, by omega⟩
  generalize hq_q2 : r7 * k12_1 = q2 at hb_q2 g_1 ⊢
  refine jT_xiload_n (v := (0, r8)) (pcN := 86) jIQ_161_85 rfl rfl rfl ?_
  refine jT_xi2l (x := r8) (z := r8) (pcN := 87) jIQ_161_86 rfl (jw_idd (by omega) (by omega)) rfl ?_
  refine jT_xaload_n (v := (4, 0)) (pcN := 88) jIQ_161_87 rfl rfl rfl ?_
  refine jT_xgetf (a := 0) (t := 1) (ci := 13) (fi := 8) (c := jzQ_16) (v := (4, 10)) (pcN := 91) jIQ_161_88 rfl rfl rfl rfl rfl rfl rfl ?_
  refine jT_xiconst (k := 2) (pcN := 92) jIQ_161_91 rfl ?_
  refine jT_lald (x := k12_2) (a := 10) (j := 2) (fs := []) (X := [k12_0, k12_1, k12_2, k12_3, k12_4, k12_5]) jIQ_161_92 rfl rfl rfl rfl ?_
  refine jT_eq (LN := [(5, (1, q1)), (0, (4, 0)), (1, (0, r7)), (2, (0, r8)), (3, (4, 1)), (4, (0, o4))]) (stN := [(1, k12_2), (1, r8), (1, q2)]) (hsN := [jzQ_16, jgh, (8, [(4, 13), (4, 14)], []), jgh, jgh, jgh, jgh, jgh, jgh, (101, [], [0, r7, r8, 0, 0, 0]), (101, [], [k12_0, k12_1, k12_2, k12_3, k12_4, k12_5]), jgh, jgh, jgh, jgh]) rfl rfl rfl ?_
  refine jT_xlmul (x := r8) (y := k12_2) (z := r8 * k12_2) (pcN := 94) jIQ_161_93 rfl rfl rfl ?_
  have hb_q3 := jmul_bs (x := r8) (y := k12_2) (m := 10) (n := 232) (by omega) (by omega) (by omega) (by omega)
  have hb_q3 : (-2320) ≤ r8 * k12_2 ∧ r8 * k12_2 ≤ 2320 := ⟨by omega, by omega⟩
  generalize hq_q3 : r8 * k12_2 = q3 at hb_q3 g_1 ⊢
  refine jT_xladd (x := q2) (y := q3) (z := q2 + q3) (pcN := 95) jIQ_161_94 rfl (rfl) rfl ?_
  refine jT_xlload (v := (1, q1)) (pcN := 97) jIQ_161_95 rfl rfl rfl ?_
  refine jT_xiload (v := (0, o4)) (pcN := 99) jIQ_161_97 rfl rfl rfl ?_
  refine jT_xi2l (x := o4) (z := o4) (pcN := 100) jIQ_161_99 rfl (jw_idd (by omega) (by omega)) rfl ?_
  refine jT_xlmul (x := q1) (y := o4) (z := q1 * o4) (pcN := 101) jIQ_161_100 rfl rfl rfl ?_
  have hb_q4 := jmul_bs (x := q1) (y := o4) (m := 60) (n := 100) (by omega) (by omega) (by omega) (by omega)
  have hb_q4 : (-6000) ≤ q1 * o4 ∧ q1 * o4 ≤ 6000 := ⟨by omega, by omega⟩
  generalize hq_q4 : q1 * o4 = q4 at hb_q4 g_1 ⊢
  refine jT_lcmp (a := q2 + q3) (b := q4) (z := 1) (by rfl) (by rfl) (jwl_idd (by omega) (by omega)) (jwl_idd (by omega) (by omega)) (by rw [decide_eq_true (show (q4 : Int) < q2 + q3 by omega)]; rfl) ?_
  refine jT_xifF (t := 107) (pcN := 105) jIQ_161_102 rfl (by decide +kernel) rfl rfl ?_
  refine jT_xiconst (k := 0) (pcN := 106) jIQ_161_105 rfl ?_
  subst hq_q4
  subst hq_q3
  subst hq_q2
  subst hq_q1
  exact jT_ret rfl (by decide) (by show 15 ≤ 15; omega) (by omega) (by omega) ⟨rfl, rfl, rfl⟩
theorem jQ_161_327 {xs : List Int} {d : Nat} {k12_0 k12_1 k12_2 k12_3 k12_4 k12_5 o4 r7 r8 u11_0 u11_1 u11_2 u11_3 u11_4 u11_5 : Int} (h_k12_0 : 1 ≤ k12_0 ∧ k12_0 ≤ 100) (h_k12_1 : 2 ≤ k12_1 ∧ k12_1 ≤ 158) (h_k12_2 : 2 ≤ k12_2 ∧ k12_2 ≤ 232) (h_k12_3 : 3 ≤ k12_3 ∧ k12_3 ≤ 281) (h_k12_4 : 3 ≤ k12_4 ∧ k12_4 ≤ 346) (h_k12_5 : 4 ≤ k12_5 ∧ k12_5 ≤ 370) (h_o4 : 1 ≤ o4 ∧ o4 ≤ 100) (h_r7 : (-20) ≤ r7 ∧ r7 ≤ 20) (h_r8 : (-10) ≤ r8 ∧ r8 ≤ 10) (g_0 : 0 ≤ r7) (g_1 : r7 ≤ 0) (g_2 : 0 < r8) (g_3 : -(((108917793695 * r7 + 159561683699 * r8) / 68719476736) * o4) + (r7 * k12_1) + (r8 * k12_2) - 1 < 0) (g_4 : -(((108917793695 * r7 + 159561683699 * r8) / 68719476736) * o4) + (r7 * k12_1) + (r8 * k12_2) < 0) : jT xs (d + 2) 161 15 0 [(0, (4, 0)), (1, (0, r7)), (2, (0, r8)), (3, (4, 1)), (4, (0, o4))] [] [jzQ_16, jgh, (8, [(4, 13), (4, 14)], []), jgh, jgh, jgh, jgh, jgh, jgh, (101, [], [u11_0, u11_1, u11_2, u11_3, u11_4, u11_5]), (101, [], [k12_0, k12_1, k12_2, k12_3, k12_4, k12_5]), jgh, jgh, jgh, jgh] 0 0 (fun k v hsN => k = 0 ∧ v = (0, 0) ∧ hsN = [jzQ_16, jgh, (8, [(4, 13), (4, 14)], []), jgh, jgh, jgh, jgh, jgh, jgh, (101, [], [0, r7, r8, 0, 0, 0]), (101, [], [k12_0, k12_1, k12_2, k12_3, k12_4, k12_5]), jgh, jgh, jgh, jgh]) := by
  refine jT_xiload_n (v := (0, r7)) (pcN := 1) jIQ_161_0 rfl rfl rfl ?_
  refine jT_ifF (a := r7) (t := 10) (by rfl) (by rfl) (by rfl) (jw_idd (by omega) (by omega)) (by simp only [jcP] <;> omega) ?_
  refine jT_xiload_n (v := (0, r8)) (pcN := 5) jIQ_161_4 rfl rfl rfl ?_
  refine jT_ifT (a := r8) (t := 10) (by rfl) (by rfl) (by rfl) (jw_idd (by omega) (by omega)) (by simp only [jcP] <;> omega) ?_
  refine jT_xiconst (k := 0) (pcN := 11) jIQ_161_10 rfl ?_
  refine jT_xistore (v := (0, 0)) (LN := [(5, (0, 0)), (0, (4, 0)), (1, (0, r7)), (2, (0, r8)), (3, (4, 1)), (4, (0, o4))]) (pcN := 13) jIQ_161_11 rfl rfl rfl rfl ?_
  refine jT_xiload (v := (0, 0)) (pcN := 15) jIQ_161_13 rfl rfl rfl ?_
  refine jT_xbipush (k := 6) (pcN := 17) jIQ_161_15 (by decide) rfl ?_
  refine jT_xicF (t := 56) (pcN := 20) jIQ_161_17 rfl (by decide +kernel) rfl rfl ?_
  refine jT_xaload_n (v := (4, 0)) (pcN := 21) jIQ_161_20 rfl rfl rfl ?_
  refine jT_xgetf (a := 0) (t := 1) (ci := 13) (fi := 7) (c := jzQ_16) (v := (4, 9)) (pcN := 24) jIQ_161_21 rfl rfl rfl rfl rfl rfl rfl ?_
  refine jT_xiload (v := (0, 0)) (pcN := 26) jIQ_161_24 rfl rfl rfl ?_
  refine jT_xiload (v := (0, 0)) (pcN := 28) jIQ_161_26 rfl rfl rfl ?_
  refine jT_xiconst (k := 1) (pcN := 29) jIQ_161_28 rfl ?_
  refine jT_xicT (pcN := 37) jIQ_161_29 rfl (by decide +kernel) rfl ?_
  refine jT_xiload (v := (0, 0)) (pcN := 39) jIQ_161_37 rfl rfl rfl ?_
  refine jT_xiconst (k := 2) (pcN := 40) jIQ_161_39 rfl ?_
  refine jT_xicT (pcN := 48) jIQ_161_40 rfl (by decide +kernel) rfl ?_
  refine jT_xlconst (z := 0) (pcN := 49) jIQ_161_48 rfl rfl ?_
  refine jT_adv 1 (pcN := 50) (LN := [(5, (0, 0)), (0, (4, 0)), (1, (0, r7)), (2, (0, r8)), (3, (4, 1)), (4, (0, o4))]) (stN := []) (hsN := [jzQ_16, jgh, (8, [(4, 13), (4, 14)], []), jgh, jgh, jgh, jgh, jgh, jgh, (101, [], [0, u11_1, u11_2, u11_3, u11_4, u11_5]), (101, [], [k12_0, k12_1, k12_2, k12_3, k12_4, k12_5]), jgh, jgh, jgh, jgh]) (c1 := 0) (s1 := 0) (c2 := 0) (s2 := 0) (by exact rfl) ?_ (by omega) (by omega)
  refine jT_xiinc (x := 0) (z := 1) (LN := [(5, (0, 1)), (0, (4, 0)), (1, (0, r7)), (2, (0, r8)), (3, (4, 1)), (4, (0, o4))]) (pcN := 53) jIQ_161_50 rfl rfl (by decide) rfl rfl ?_
  refine jT_xgoto (pcN := 13) jIQ_161_53 rfl ?_
  refine jT_xiload (v := (0, 1)) (pcN := 15) jIQ_161_13 rfl rfl rfl ?_
  refine jT_xbipush (k := 6) (pcN := 17) jIQ_161_15 (by decide) rfl ?_
  refine jT_xicF (t := 56) (pcN := 20) jIQ_161_17 rfl (by decide +kernel) rfl rfl ?_
  refine jT_xaload_n (v := (4, 0)) (pcN := 21) jIQ_161_20 rfl rfl rfl ?_
  refine jT_xgetf (a := 0) (t := 1) (ci := 13) (fi := 7) (c := jzQ_16) (v := (4, 9)) (pcN := 24) jIQ_161_21 rfl rfl rfl rfl rfl rfl rfl ?_
  refine jT_xiload (v := (0, 1)) (pcN := 26) jIQ_161_24 rfl rfl rfl ?_
  refine jT_xiload (v := (0, 1)) (pcN := 28) jIQ_161_26 rfl rfl rfl ?_
  refine jT_xiconst (k := 1) (pcN := 29) jIQ_161_28 rfl ?_
  refine jT_xicF (t := 37) (pcN := 32) jIQ_161_29 rfl (by decide +kernel) rfl rfl ?_
  refine jT_xiload_n (v := (0, r7)) (pcN := 33) jIQ_161_32 rfl rfl rfl ?_
  refine jT_xi2l (x := r7) (z := r7) (pcN := 34) jIQ_161_33 rfl (jw_idd (by omega) (by omega)) rfl ?_
  refine jT_xgoto (pcN := 49) jIQ_161_34 rfl ?_
  refine jT_adv 1 (pcN := 50) (LN := [(5, (0, 1)), (0, (4, 0)), (1, (0, r7)), (2, (0, r8)), (3, (4, 1)), (4, (0, o4))]) (stN := []) (hsN := [jzQ_16, jgh, (8, [(4, 13), (4, 14)], []), jgh, jgh, jgh, jgh, jgh, jgh, (101, [], [0, r7, u11_2, u11_3, u11_4, u11_5]), (101, [], [k12_0, k12_1, k12_2, k12_3, k12_4, k12_5]), jgh, jgh, jgh, jgh]) (c1 := 0) (s1 := 0) (c2 := 0) (s2 := 0) (by exact rfl) ?_ (by omega) (by omega)
  refine jT_xiinc (x := 1) (z := 2) (LN := [(5, (0, 2)), (0, (4, 0)), (1, (0, r7)), (2, (0, r8)), (3, (4, 1)), (4, (0, o4))]) (pcN := 53) jIQ_161_50 rfl rfl (by decide) rfl rfl ?_
  refine jT_xgoto (pcN := 13) jIQ_161_53 rfl ?_
  refine jT_xiload (v := (0, 2)) (pcN := 15) jIQ_161_13 rfl rfl rfl ?_
  refine jT_xbipush (k := 6) (pcN := 17) jIQ_161_15 (by decide) rfl ?_
  refine jT_xicF (t := 56) (pcN := 20) jIQ_161_17 rfl (by decide +kernel) rfl rfl ?_
  refine jT_xaload_n (v := (4, 0)) (pcN := 21) jIQ_161_20 rfl rfl rfl ?_
  refine jT_xgetf (a := 0) (t := 1) (ci := 13) (fi := 7) (c := jzQ_16) (v := (4, 9)) (pcN := 24) jIQ_161_21 rfl rfl rfl rfl rfl rfl rfl ?_
  refine jT_xiload (v := (0, 2)) (pcN := 26) jIQ_161_24 rfl rfl rfl ?_
  refine jT_xiload (v := (0, 2)) (pcN := 28) jIQ_161_26 rfl rfl rfl ?_
  refine jT_xiconst (k := 1) (pcN := 29) jIQ_161_28 rfl ?_
  refine jT_xicT (pcN := 37) jIQ_161_29 rfl (by decide +kernel) rfl ?_
  refine jT_xiload (v := (0, 2)) (pcN := 39) jIQ_161_37 rfl rfl rfl ?_
  refine jT_xiconst (k := 2) (pcN := 40) jIQ_161_39 rfl ?_
  refine jT_xicF (t := 48) (pcN := 43) jIQ_161_40 rfl (by decide +kernel) rfl rfl ?_
  refine jT_xiload_n (v := (0, r8)) (pcN := 44) jIQ_161_43 rfl rfl rfl ?_
  refine jT_xi2l (x := r8) (z := r8) (pcN := 45) jIQ_161_44 rfl (jw_idd (by omega) (by omega)) rfl ?_
  refine jT_xgoto (pcN := 49) jIQ_161_45 rfl ?_
  refine jT_adv 1 (pcN := 50) (LN := [(5, (0, 2)), (0, (4, 0)), (1, (0, r7)), (2, (0, r8)), (3, (4, 1)), (4, (0, o4))]) (stN := []) (hsN := [jzQ_16, jgh, (8, [(4, 13), (4, 14)], []), jgh, jgh, jgh, jgh, jgh, jgh, (101, [], [0, r7, r8, u11_3, u11_4, u11_5]), (101, [], [k12_0, k12_1, k12_2, k12_3, k12_4, k12_5]), jgh, jgh, jgh, jgh]) (c1 := 0) (s1 := 0) (c2 := 0) (s2 := 0) (by exact rfl) ?_ (by omega) (by omega)
  refine jT_xiinc (x := 2) (z := 3) (LN := [(5, (0, 3)), (0, (4, 0)), (1, (0, r7)), (2, (0, r8)), (3, (4, 1)), (4, (0, o4))]) (pcN := 53) jIQ_161_50 rfl rfl (by decide) rfl rfl ?_
  refine jT_xgoto (pcN := 13) jIQ_161_53 rfl ?_
  refine jT_xiload (v := (0, 3)) (pcN := 15) jIQ_161_13 rfl rfl rfl ?_
  refine jT_xbipush (k := 6) (pcN := 17) jIQ_161_15 (by decide) rfl ?_
  refine jT_xicF (t := 56) (pcN := 20) jIQ_161_17 rfl (by decide +kernel) rfl rfl ?_
  refine jT_xaload_n (v := (4, 0)) (pcN := 21) jIQ_161_20 rfl rfl rfl ?_
  refine jT_xgetf (a := 0) (t := 1) (ci := 13) (fi := 7) (c := jzQ_16) (v := (4, 9)) (pcN := 24) jIQ_161_21 rfl rfl rfl rfl rfl rfl rfl ?_
  refine jT_xiload (v := (0, 3)) (pcN := 26) jIQ_161_24 rfl rfl rfl ?_
  refine jT_xiload (v := (0, 3)) (pcN := 28) jIQ_161_26 rfl rfl rfl ?_
  refine jT_xiconst (k := 1) (pcN := 29) jIQ_161_28 rfl ?_
  refine jT_xicT (pcN := 37) jIQ_161_29 rfl (by decide +kernel) rfl ?_
  refine jT_xiload (v := (0, 3)) (pcN := 39) jIQ_161_37 rfl rfl rfl ?_
  refine jT_xiconst (k := 2) (pcN := 40) jIQ_161_39 rfl ?_
  refine jT_xicT (pcN := 48) jIQ_161_40 rfl (by decide +kernel) rfl ?_
  refine jT_xlconst (z := 0) (pcN := 49) jIQ_161_48 rfl rfl ?_
  refine jT_adv 1 (pcN := 50) (LN := [(5, (0, 3)), (0, (4, 0)), (1, (0, r7)), (2, (0, r8)), (3, (4, 1)), (4, (0, o4))]) (stN := []) (hsN := [jzQ_16, jgh, (8, [(4, 13), (4, 14)], []), jgh, jgh, jgh, jgh, jgh, jgh, (101, [], [0, r7, r8, 0, u11_4, u11_5]), (101, [], [k12_0, k12_1, k12_2, k12_3, k12_4, k12_5]), jgh, jgh, jgh, jgh]) (c1 := 0) (s1 := 0) (c2 := 0) (s2 := 0) (by exact rfl) ?_ (by omega) (by omega)
  refine jT_xiinc (x := 3) (z := 4) (LN := [(5, (0, 4)), (0, (4, 0)), (1, (0, r7)), (2, (0, r8)), (3, (4, 1)), (4, (0, o4))]) (pcN := 53) jIQ_161_50 rfl rfl (by decide) rfl rfl ?_
  refine jT_xgoto (pcN := 13) jIQ_161_53 rfl ?_
  refine jT_xiload (v := (0, 4)) (pcN := 15) jIQ_161_13 rfl rfl rfl ?_
  refine jT_xbipush (k := 6) (pcN := 17) jIQ_161_15 (by decide) rfl ?_
  refine jT_xicF (t := 56) (pcN := 20) jIQ_161_17 rfl (by decide +kernel) rfl rfl ?_
  refine jT_xaload_n (v := (4, 0)) (pcN := 21) jIQ_161_20 rfl rfl rfl ?_
  refine jT_xgetf (a := 0) (t := 1) (ci := 13) (fi := 7) (c := jzQ_16) (v := (4, 9)) (pcN := 24) jIQ_161_21 rfl rfl rfl rfl rfl rfl rfl ?_
  refine jT_xiload (v := (0, 4)) (pcN := 26) jIQ_161_24 rfl rfl rfl ?_
  refine jT_xiload (v := (0, 4)) (pcN := 28) jIQ_161_26 rfl rfl rfl ?_
  refine jT_xiconst (k := 1) (pcN := 29) jIQ_161_28 rfl ?_
  refine jT_xicT (pcN := 37) jIQ_161_29 rfl (by decide +kernel) rfl ?_
  refine jT_xiload (v := (0, 4)) (pcN := 39) jIQ_161_37 rfl rfl rfl ?_
  refine jT_xiconst (k := 2) (pcN := 40) jIQ_161_39 rfl ?_
  refine jT_xicT (pcN := 48) jIQ_161_40 rfl (by decide +kernel) rfl ?_
  refine jT_xlconst (z := 0) (pcN := 49) jIQ_161_48 rfl rfl ?_
  refine jT_adv 1 (pcN := 50) (LN := [(5, (0, 4)), (0, (4, 0)), (1, (0, r7)), (2, (0, r8)), (3, (4, 1)), (4, (0, o4))]) (stN := []) (hsN := [jzQ_16, jgh, (8, [(4, 13), (4, 14)], []), jgh, jgh, jgh, jgh, jgh, jgh, (101, [], [0, r7, r8, 0, 0, u11_5]), (101, [], [k12_0, k12_1, k12_2, k12_3, k12_4, k12_5]), jgh, jgh, jgh, jgh]) (c1 := 0) (s1 := 0) (c2 := 0) (s2 := 0) (by exact rfl) ?_ (by omega) (by omega)
  refine jT_xiinc (x := 4) (z := 5) (LN := [(5, (0, 5)), (0, (4, 0)), (1, (0, r7)), (2, (0, r8)), (3, (4, 1)), (4, (0, o4))]) (pcN := 53) jIQ_161_50 rfl rfl (by decide) rfl rfl ?_
  refine jT_xgoto (pcN := 13) jIQ_161_53 rfl ?_
  refine jT_xiload (v := (0, 5)) (pcN := 15) jIQ_161_13 rfl rfl rfl ?_
  refine jT_xbipush (k := 6) (pcN := 17) jIQ_161_15 (by decide) rfl ?_
  refine jT_xicF (t := 56) (pcN := 20) jIQ_161_17 rfl (by decide +kernel) rfl rfl ?_
  refine jT_xaload_n (v := (4, 0)) (pcN := 21) jIQ_161_20 rfl rfl rfl ?_
  refine jT_xgetf (a := 0) (t := 1) (ci := 13) (fi := 7) (c := jzQ_16) (v := (4, 9)) (pcN := 24) jIQ_161_21 rfl rfl rfl rfl rfl rfl rfl ?_
  refine jT_xiload (v := (0, 5)) (pcN := 26) jIQ_161_24 rfl rfl rfl ?_
  refine jT_xiload (v := (0, 5)) (pcN := 28) jIQ_161_26 rfl rfl rfl ?_
  refine jT_xiconst (k := 1) (pcN := 29) jIQ_161_28 rfl ?_
  refine jT_xicT (pcN := 37) jIQ_161_29 rfl (by decide +kernel) rfl ?_
  refine jT_xiload (v := (0, 5)) (pcN := 39) jIQ_161_37 rfl rfl rfl ?_
  refine jT_xiconst (k := 2) (pcN := 40) jIQ_161_39 rfl ?_
  refine jT_xicT (pcN := 48) jIQ_161_40 rfl (by decide +kernel) rfl ?_
  refine jT_xlconst (z := 0) (pcN := 49) jIQ_161_48 rfl rfl ?_
  refine jT_adv 1 (pcN := 50) (LN := [(5, (0, 5)), (0, (4, 0)), (1, (0, r7)), (2, (0, r8)), (3, (4, 1)), (4, (0, o4))]) (stN := []) (hsN := [jzQ_16, jgh, (8, [(4, 13), (4, 14)], []), jgh, jgh, jgh, jgh, jgh, jgh, (101, [], [0, r7, r8, 0, 0, 0]), (101, [], [k12_0, k12_1, k12_2, k12_3, k12_4, k12_5]), jgh, jgh, jgh, jgh]) (c1 := 0) (s1 := 0) (c2 := 0) (s2 := 0) (by exact rfl) ?_ (by omega) (by omega)
  refine jT_xiinc (x := 5) (z := 6) (LN := [(5, (0, 6)), (0, (4, 0)), (1, (0, r7)), (2, (0, r8)), (3, (4, 1)), (4, (0, o4))]) (pcN := 53) jIQ_161_50 rfl rfl (by decide) rfl rfl ?_
  refine jT_xgoto (pcN := 13) jIQ_161_53 rfl ?_
  refine jT_xiload (v := (0, 6)) (pcN := 15) jIQ_161_13 rfl rfl rfl ?_
  refine jT_xbipush (k := 6) (pcN := 17) jIQ_161_15 (by decide) rfl ?_
  refine jT_xicT (pcN := 56) jIQ_161_17 rfl (by decide +kernel) rfl ?_
  refine jT_xaload_n (v := (4, 0)) (pcN := 57) jIQ_161_56 rfl rfl rfl ?_
  refine jT_xgetf (a := 0) (t := 1) (ci := 13) (fi := 0) (c := jzQ_16) (v := (4, 2)) (pcN := 60) jIQ_161_57 rfl rfl rfl rfl rfl rfl rfl ?_
  refine jT_xaload_n (v := (4, 0)) (pcN := 61) jIQ_161_60 rfl rfl rfl ?_
  refine jT_xgetf (a := 0) (t := 1) (ci := 13) (fi := 7) (c := jzQ_16) (v := (4, 9)) (pcN := 64) jIQ_161_61 rfl rfl rfl rfl rfl rfl rfl ?_
  refine jT_xlconst (z := 1) (pcN := 65) jIQ_161_64 rfl rfl ?_
  refine jT_xlconst (z := 1) (pcN := 66) jIQ_161_65 rfl rfl ?_
  refine jT_callA [2, 9, 13, 14] (y := 45) (pcN := 69) (dC := 1) (bc1 := 0) (bc2 := 0) (c1 := 0) (c2 := 0) (as := [(4, 2), (4, 9), (1, 1), (1, 1)]) (asC := [(4, 0), (4, 1), (1, 1), (1, 1)]) (LN := [(5, (0, 6)), (0, (4, 0)), (1, (0, r7)), (2, (0, r8)), (3, (4, 1)), (4, (0, o4))]) (stN := []) (hsC := [(8, [(4, 2), (4, 3)], []), (101, [], [0, r7, r8, 0, 0, 0]), jgh, jgh]) (ex := []) (v := (1, (108917793695 * r7 + 159561683699 * r8) / 68719476736)) (st2 := [(1, (108917793695 * r7 + 159561683699 * r8) / 68719476736)]) (hs2 := [jzQ_16, jgh, (8, [(4, 13), (4, 14)], []), jgh, jgh, jgh, jgh, jgh, jgh, (101, [], [0, r7, r8, 0, 0, 0]), (101, [], [k12_0, k12_1, k12_2, k12_3, k12_4, k12_5]), jgh, jgh, jgh, jgh]) (jQl_sp45_116 (d := 0) (by omega) (by omega)) (by rfl) (by rfl) (by rfl) (by rfl) ⟨rfl, rfl, rfl, rfl, trivial⟩ (by rfl) (by rfl) (by omega) (by show 15 ≤ 15; omega) (by omega) (by omega) rfl rfl ?_
  have hb_q1 : (-60) ≤ (108917793695 * r7 + 159561683699 * r8) / 68719476736 ∧ (108917793695 * r7 + 159561683699 * r8) / 68719476736 ≤ 60 := ⟨by omega, by omega⟩
  generalize hq_q1 : (108917793695 * r7 + 159561683699 * r8) / 68719476736 = q1 at hb_q1 g_3 g_4 ⊢
  refine jT_xlstore (v := (1, q1)) (LN := [(5, (1, q1)), (0, (4, 0)), (1, (0, r7)), (2, (0, r8)), (3, (4, 1)), (4, (0, o4))]) (pcN := 71) jIQ_161_69 rfl rfl rfl rfl ?_
  have g_5 : 0 ≤ (-68719476736) * q1 + 108917793694 * r7 + 159561683698 * r8 - 1 := by have := jcg (b := r7) (c := r8) (by omega) (by omega) (by omega); rw [hq_q1] at this; omega
  have g_6 : 0 ≤ (-68719476736) * q1 + 108917793694 * r7 + 159561683700 * r8 - 1 := by have := jcg (b := r7) (c := r8) (by omega) (by omega) (by omega); rw [hq_q1] at this; omega
  have g_7 : 0 ≤ (-68719476736) * q1 + 108917793696 * r7 + 159561683698 * r8 - 1 := by have := jcg (b := r7) (c := r8) (by omega) (by omega) (by omega); rw [hq_q1] at this; omega
  have g_8 : 0 ≤ (-68719476736) * q1 + 108917793696 * r7 + 159561683700 * r8 - 1 := by have := jcg (b := r7) (c := r8) (by omega) (by omega) (by omega); rw [hq_q1] at this; omega
  refine jT_xiload (v := (0, o4)) (pcN := 73) jIQ_161_71 rfl rfl rfl ?_
  refine jT_ifF (a := o4) (t := 107) (by rfl) (by rfl) (by rfl) (jw_idd (by omega) (by omega)) (by simp only [jcP] <;> omega) ?_
  refine jT_xiload_n (v := (0, r7)) (pcN := 77) jIQ_161_76 rfl rfl rfl ?_
  refine jT_xi2l (x := r7) (z := r7) (pcN := 78) jIQ_161_77 rfl (jw_idd (by omega) (by omega)) rfl ?_
  refine jT_xaload_n (v := (4, 0)) (pcN := 79) jIQ_161_78 rfl rfl rfl ?_
  refine jT_xgetf (a := 0) (t := 1) (ci := 13) (fi := 8) (c := jzQ_16) (v := (4, 10)) (pcN := 82) jIQ_161_79 rfl rfl rfl rfl rfl rfl rfl ?_
  refine jT_xiconst (k := 1) (pcN := 83) jIQ_161_82 rfl ?_
  refine jT_lald (x := k12_1) (a := 10) (j := 1) (fs := []) (X := [k12_0, k12_1, k12_2, k12_3, k12_4, k12_5]) jIQ_161_83 rfl rfl rfl rfl ?_
  refine jT_eq (LN := [(5, (1, q1)), (0, (4, 0)), (1, (0, r7)), (2, (0, r8)), (3, (4, 1)), (4, (0, o4))]) (stN := [(1, k12_1), (1, r7)]) (hsN := [jzQ_16, jgh, (8, [(4, 13), (4, 14)], []), jgh, jgh, jgh, jgh, jgh, jgh, (101, [], [0, r7, r8, 0, 0, 0]), (101, [], [k12_0, k12_1, k12_2, k12_3, k12_4, k12_5]), jgh, jgh, jgh, jgh]) rfl rfl rfl ?_
  refine jT_xlmul (x := r7) (y := k12_1) (z := r7 * k12_1) (pcN := 85) jIQ_161_84 rfl rfl rfl ?_
  have hb_q2 := jmul_b (x := r7) (y := k12_1) (m := 20) (n := 158) (by omega) (by omega) (by omega) (by omega)
  have hb_q2 : 0 ≤ r7 * k12_1 ∧ r7 * k12_1 ≤ 3160 := ⟨hb_q2.1, by omega⟩
  generalize hq_q2 : r7 * k12_1 = q2 at hb_q2 g_3 g_4 ⊢
  refine jT_xiload_n (v := (0, r8)) (pcN := 86) jIQ_161_85 rfl rfl rfl ?_
  refine jT_xi2l (x := r8) (z := r8) (pcN := 87) jIQ_161_86 rfl (jw_idd (by omega) (by omega)) rfl ?_
  refine jT_xaload_n (v := (4, 0)) (pcN := 88) jIQ_161_87 rfl rfl rfl ?_
  refine jT_xgetf (a := 0) (t := 1) (ci := 13) (fi := 8) (c := jzQ_16) (v := (4, 10)) (pcN := 91) jIQ_161_88 rfl rfl rfl rfl rfl rfl rfl ?_
  refine jT_xiconst (k := 2) (pcN := 92) jIQ_161_91 rfl ?_
  refine jT_lald (x := k12_2) (a := 10) (j := 2) (fs := []) (X := [k12_0, k12_1, k12_2, k12_3, k12_4, k12_5]) jIQ_161_92 rfl rfl rfl rfl ?_
  refine jT_eq (LN := [(5, (1, q1)), (0, (4, 0)), (1, (0, r7)), (2, (0, r8)), (3, (4, 1)), (4, (0, o4))]) (stN := [(1, k12_2), (1, r8), (1, q2)]) (hsN := [jzQ_16, jgh, (8, [(4, 13), (4, 14)], []), jgh, jgh, jgh, jgh, jgh, jgh, (101, [], [0, r7, r8, 0, 0, 0]), (101, [], [k12_0, k12_1, k12_2, k12_3, k12_4, k12_5]), jgh, jgh, jgh, jgh]) rfl rfl rfl ?_
  refine jT_xlmul (x := r8) (y := k12_2) (z := r8 * k12_2) (pcN := 94) jIQ_161_93 rfl rfl rfl ?_
  have hb_q3 := jmul_b2 (x := r8) (y := k12_2) (k := 1) (l := 2) (m := 10) (n := 232) (by omega) (by omega) (by omega) (by omega) (by omega) (by omega)
  have hb_q3 : 2 ≤ r8 * k12_2 ∧ r8 * k12_2 ≤ 2320 := ⟨by omega, by omega⟩
  generalize hq_q3 : r8 * k12_2 = q3 at hb_q3 g_3 g_4 ⊢
  refine jT_xladd (x := q2) (y := q3) (z := q2 + q3) (pcN := 95) jIQ_161_94 rfl (rfl) rfl ?_
  refine jT_xlload (v := (1, q1)) (pcN := 97) jIQ_161_95 rfl rfl rfl ?_
  refine jT_xiload (v := (0, o4)) (pcN := 99) jIQ_161_97 rfl rfl rfl ?_
  refine jT_xi2l (x := o4) (z := o4) (pcN := 100) jIQ_161_99 rfl (jw_idd (by omega) (by omega)) rfl ?_
  refine jT_xlmul (x := q1) (y := o4) (z := q1 * o4) (pcN := 101) jIQ_161_100 rfl rfl rfl ?_
  have hb_q4 := jmul_bs (x := q1) (y := o4) (m := 60) (n := 100) (by omega) (by omega) (by omega) (by omega)
  have hb_q4 : (-6000) ≤ q1 * o4 ∧ q1 * o4 ≤ 6000 := ⟨by omega, by omega⟩
  generalize hq_q4 : q1 * o4 = q4 at hb_q4 g_3 g_4 ⊢
  refine jT_lcmp (a := q2 + q3) (b := q4) (z := (-1)) (by rfl) (by rfl) (jwl_idd (by omega) (by omega)) (jwl_idd (by omega) (by omega)) (by rw [decide_eq_false (show ¬ ((q4 : Int) < q2 + q3) by omega), decide_eq_false (show ¬ ((q2 + q3 : Int) = q4) by omega)]; rfl) ?_
  refine jT_xifF (t := 107) (pcN := 105) jIQ_161_102 rfl (by decide +kernel) rfl rfl ?_
  refine jT_xiconst (k := 0) (pcN := 106) jIQ_161_105 rfl ?_
  subst hq_q4
  subst hq_q3
  subst hq_q2
  subst hq_q1
  exact jT_ret rfl (by decide) (by show 15 ≤ 15; omega) (by omega) (by omega) ⟨rfl, rfl, rfl⟩
theorem jQ_161_328 {xs : List Int} {d : Nat} {k12_0 k12_1 k12_2 k12_3 k12_4 k12_5 o4 r7 r8 u11_0 u11_1 u11_2 u11_3 u11_4 u11_5 : Int} (h_k12_0 : 1 ≤ k12_0 ∧ k12_0 ≤ 100) (h_k12_1 : 2 ≤ k12_1 ∧ k12_1 ≤ 158) (h_k12_2 : 2 ≤ k12_2 ∧ k12_2 ≤ 232) (h_k12_3 : 3 ≤ k12_3 ∧ k12_3 ≤ 281) (h_k12_4 : 3 ≤ k12_4 ∧ k12_4 ≤ 346) (h_k12_5 : 4 ≤ k12_5 ∧ k12_5 ≤ 370) (h_o4 : 1 ≤ o4 ∧ o4 ≤ 100) (h_r7 : (-20) ≤ r7 ∧ r7 ≤ 20) (h_r8 : (-10) ≤ r8 ∧ r8 ≤ 10) (g_0 : 0 ≤ r7) (g_1 : r7 ≤ 0) (g_2 : 0 < r8) (g_3 : -(((108917793695 * r7 + 159561683699 * r8) / 68719476736) * o4) + (r7 * k12_1) + (r8 * k12_2) - 1 < 0) (g_4 : 0 ≤ -(((108917793695 * r7 + 159561683699 * r8) / 68719476736) * o4) + (r7 * k12_1) + (r8 * k12_2)) : jT xs (d + 2) 161 16 0 [(0, (4, 0)), (1, (0, r7)), (2, (0, r8)), (3, (4, 1)), (4, (0, o4))] [] [jzQ_16, (4, [(4, 13), (1, 1)], []), (8, [(4, 14), (4, 15)], []), jgh, jgh, jgh, jgh, jgh, jgh, (101, [], [u11_0, u11_1, u11_2, u11_3, u11_4, u11_5]), (101, [], [k12_0, k12_1, k12_2, k12_3, k12_4, k12_5]), jgh, jgh, (101, [], [0, 0, 0, 0, 0, 0]), jgh, jgh] 0 0 (fun k v hsN => k = 0 ∧ v = (0, 0) ∧ hsN = [jzQ_16, (4, [(4, 13), (1, 1)], []), (8, [(4, 14), (4, 15)], []), jgh, jgh, jgh, jgh, jgh, jgh, (101, [], [(108917793695 * r7 + 159561683699 * r8) / 68719476736, -r7, -r8, 0, 0, 0]), (101, [], [k12_0, k12_1, k12_2, k12_3, k12_4, k12_5]), jgh, jgh, (101, [], [0, 0, 0, 0, 0, 0]), jgh, jgh]) := by
  refine jT_xiload_n (v := (0, r7)) (pcN := 1) jIQ_161_0 rfl rfl rfl ?_
  refine jT_ifF (a := r7) (t := 10) (by rfl) (by rfl) (by rfl) (jw_idd (by omega) (by omega)) (by simp only [jcP] <;> omega) ?_
  refine jT_xiload_n (v := (0, r8)) (pcN := 5) jIQ_161_4 rfl rfl rfl ?_
  refine jT_ifT (a := r8) (t := 10) (by rfl) (by rfl) (by rfl) (jw_idd (by omega) (by omega)) (by simp only [jcP] <;> omega) ?_
  refine jT_xiconst (k := 0) (pcN := 11) jIQ_161_10 rfl ?_
  refine jT_xistore (v := (0, 0)) (LN := [(5, (0, 0)), (0, (4, 0)), (1, (0, r7)), (2, (0, r8)), (3, (4, 1)), (4, (0, o4))]) (pcN := 13) jIQ_161_11 rfl rfl rfl rfl ?_
  refine jT_xiload (v := (0, 0)) (pcN := 15) jIQ_161_13 rfl rfl rfl ?_
  refine jT_xbipush (k := 6) (pcN := 17) jIQ_161_15 (by decide) rfl ?_
  refine jT_xicF (t := 56) (pcN := 20) jIQ_161_17 rfl (by decide +kernel) rfl rfl ?_
  refine jT_xaload_n (v := (4, 0)) (pcN := 21) jIQ_161_20 rfl rfl rfl ?_
  refine jT_xgetf (a := 0) (t := 1) (ci := 13) (fi := 7) (c := jzQ_16) (v := (4, 9)) (pcN := 24) jIQ_161_21 rfl rfl rfl rfl rfl rfl rfl ?_
  refine jT_xiload (v := (0, 0)) (pcN := 26) jIQ_161_24 rfl rfl rfl ?_
  refine jT_xiload (v := (0, 0)) (pcN := 28) jIQ_161_26 rfl rfl rfl ?_
  refine jT_xiconst (k := 1) (pcN := 29) jIQ_161_28 rfl ?_
  refine jT_xicT (pcN := 37) jIQ_161_29 rfl (by decide +kernel) rfl ?_
  refine jT_xiload (v := (0, 0)) (pcN := 39) jIQ_161_37 rfl rfl rfl ?_
  refine jT_xiconst (k := 2) (pcN := 40) jIQ_161_39 rfl ?_
  refine jT_xicT (pcN := 48) jIQ_161_40 rfl (by decide +kernel) rfl ?_
  refine jT_xlconst (z := 0) (pcN := 49) jIQ_161_48 rfl rfl ?_
  refine jT_adv 1 (pcN := 50) (LN := [(5, (0, 0)), (0, (4, 0)), (1, (0, r7)), (2, (0, r8)), (3, (4, 1)), (4, (0, o4))]) (stN := []) (hsN := [jzQ_16, (4, [(4, 13), (1, 1)], []), (8, [(4, 14), (4, 15)], []), jgh, jgh, jgh, jgh, jgh, jgh, (101, [], [0, u11_1, u11_2, u11_3, u11_4, u11_5]), (101, [], [k12_0, k12_1, k12_2, k12_3, k12_4, k12_5]), jgh, jgh, (101, [], [0, 0, 0, 0, 0, 0]), jgh, jgh]) (c1 := 0) (s1 := 0) (c2 := 0) (s2 := 0) (by exact rfl) ?_ (by omega) (by omega)
  refine jT_xiinc (x := 0) (z := 1) (LN := [(5, (0, 1)), (0, (4, 0)), (1, (0, r7)), (2, (0, r8)), (3, (4, 1)), (4, (0, o4))]) (pcN := 53) jIQ_161_50 rfl rfl (by decide) rfl rfl ?_
  refine jT_xgoto (pcN := 13) jIQ_161_53 rfl ?_
  refine jT_xiload (v := (0, 1)) (pcN := 15) jIQ_161_13 rfl rfl rfl ?_
  refine jT_xbipush (k := 6) (pcN := 17) jIQ_161_15 (by decide) rfl ?_
  refine jT_xicF (t := 56) (pcN := 20) jIQ_161_17 rfl (by decide +kernel) rfl rfl ?_
  refine jT_xaload_n (v := (4, 0)) (pcN := 21) jIQ_161_20 rfl rfl rfl ?_
  refine jT_xgetf (a := 0) (t := 1) (ci := 13) (fi := 7) (c := jzQ_16) (v := (4, 9)) (pcN := 24) jIQ_161_21 rfl rfl rfl rfl rfl rfl rfl ?_
  refine jT_xiload (v := (0, 1)) (pcN := 26) jIQ_161_24 rfl rfl rfl ?_
  refine jT_xiload (v := (0, 1)) (pcN := 28) jIQ_161_26 rfl rfl rfl ?_
  refine jT_xiconst (k := 1) (pcN := 29) jIQ_161_28 rfl ?_
  refine jT_xicF (t := 37) (pcN := 32) jIQ_161_29 rfl (by decide +kernel) rfl rfl ?_
  refine jT_xiload_n (v := (0, r7)) (pcN := 33) jIQ_161_32 rfl rfl rfl ?_
  refine jT_xi2l (x := r7) (z := r7) (pcN := 34) jIQ_161_33 rfl (jw_idd (by omega) (by omega)) rfl ?_
  refine jT_xgoto (pcN := 49) jIQ_161_34 rfl ?_
  refine jT_adv 1 (pcN := 50) (LN := [(5, (0, 1)), (0, (4, 0)), (1, (0, r7)), (2, (0, r8)), (3, (4, 1)), (4, (0, o4))]) (stN := []) (hsN := [jzQ_16, (4, [(4, 13), (1, 1)], []), (8, [(4, 14), (4, 15)], []), jgh, jgh, jgh, jgh, jgh, jgh, (101, [], [0, r7, u11_2, u11_3, u11_4, u11_5]), (101, [], [k12_0, k12_1, k12_2, k12_3, k12_4, k12_5]), jgh, jgh, (101, [], [0, 0, 0, 0, 0, 0]), jgh, jgh]) (c1 := 0) (s1 := 0) (c2 := 0) (s2 := 0) (by exact rfl) ?_ (by omega) (by omega)
  refine jT_xiinc (x := 1) (z := 2) (LN := [(5, (0, 2)), (0, (4, 0)), (1, (0, r7)), (2, (0, r8)), (3, (4, 1)), (4, (0, o4))]) (pcN := 53) jIQ_161_50 rfl rfl (by decide) rfl rfl ?_
  refine jT_xgoto (pcN := 13) jIQ_161_53 rfl ?_
  refine jT_xiload (v := (0, 2)) (pcN := 15) jIQ_161_13 rfl rfl rfl ?_
  refine jT_xbipush (k := 6) (pcN := 17) jIQ_161_15 (by decide) rfl ?_
  refine jT_xicF (t := 56) (pcN := 20) jIQ_161_17 rfl (by decide +kernel) rfl rfl ?_
  refine jT_xaload_n (v := (4, 0)) (pcN := 21) jIQ_161_20 rfl rfl rfl ?_
  refine jT_xgetf (a := 0) (t := 1) (ci := 13) (fi := 7) (c := jzQ_16) (v := (4, 9)) (pcN := 24) jIQ_161_21 rfl rfl rfl rfl rfl rfl rfl ?_
  refine jT_xiload (v := (0, 2)) (pcN := 26) jIQ_161_24 rfl rfl rfl ?_
  refine jT_xiload (v := (0, 2)) (pcN := 28) jIQ_161_26 rfl rfl rfl ?_
  refine jT_xiconst (k := 1) (pcN := 29) jIQ_161_28 rfl ?_
  refine jT_xicT (pcN := 37) jIQ_161_29 rfl (by decide +kernel) rfl ?_
  refine jT_xiload (v := (0, 2)) (pcN := 39) jIQ_161_37 rfl rfl rfl ?_
  refine jT_xiconst (k := 2) (pcN := 40) jIQ_161_39 rfl ?_
  refine jT_xicF (t := 48) (pcN := 43) jIQ_161_40 rfl (by decide +kernel) rfl rfl ?_
  refine jT_xiload_n (v := (0, r8)) (pcN := 44) jIQ_161_43 rfl rfl rfl ?_
  refine jT_xi2l (x := r8) (z := r8) (pcN := 45) jIQ_161_44 rfl (jw_idd (by omega) (by omega)) rfl ?_
  refine jT_xgoto (pcN := 49) jIQ_161_45 rfl ?_
  refine jT_adv 1 (pcN := 50) (LN := [(5, (0, 2)), (0, (4, 0)), (1, (0, r7)), (2, (0, r8)), (3, (4, 1)), (4, (0, o4))]) (stN := []) (hsN := [jzQ_16, (4, [(4, 13), (1, 1)], []), (8, [(4, 14), (4, 15)], []), jgh, jgh, jgh, jgh, jgh, jgh, (101, [], [0, r7, r8, u11_3, u11_4, u11_5]), (101, [], [k12_0, k12_1, k12_2, k12_3, k12_4, k12_5]), jgh, jgh, (101, [], [0, 0, 0, 0, 0, 0]), jgh, jgh]) (c1 := 0) (s1 := 0) (c2 := 0) (s2 := 0) (by exact rfl) ?_ (by omega) (by omega)
  refine jT_xiinc (x := 2) (z := 3) (LN := [(5, (0, 3)), (0, (4, 0)), (1, (0, r7)), (2, (0, r8)), (3, (4, 1)), (4, (0, o4))]) (pcN := 53) jIQ_161_50 rfl rfl (by decide) rfl rfl ?_
  refine jT_xgoto (pcN := 13) jIQ_161_53 rfl ?_
  refine jT_xiload (v := (0, 3)) (pcN := 15) jIQ_161_13 rfl rfl rfl ?_
  refine jT_xbipush (k := 6) (pcN := 17) jIQ_161_15 (by decide) rfl ?_
  refine jT_xicF (t := 56) (pcN := 20) jIQ_161_17 rfl (by decide +kernel) rfl rfl ?_
  refine jT_xaload_n (v := (4, 0)) (pcN := 21) jIQ_161_20 rfl rfl rfl ?_
  refine jT_xgetf (a := 0) (t := 1) (ci := 13) (fi := 7) (c := jzQ_16) (v := (4, 9)) (pcN := 24) jIQ_161_21 rfl rfl rfl rfl rfl rfl rfl ?_
  refine jT_xiload (v := (0, 3)) (pcN := 26) jIQ_161_24 rfl rfl rfl ?_
  refine jT_xiload (v := (0, 3)) (pcN := 28) jIQ_161_26 rfl rfl rfl ?_
  refine jT_xiconst (k := 1) (pcN := 29) jIQ_161_28 rfl ?_
  refine jT_xicT (pcN := 37) jIQ_161_29 rfl (by decide +kernel) rfl ?_
  refine jT_xiload (v := (0, 3)) (pcN := 39) jIQ_161_37 rfl rfl rfl ?_
  refine jT_xiconst (k := 2) (pcN := 40) jIQ_161_39 rfl ?_
  refine jT_xicT (pcN := 48) jIQ_161_40 rfl (by decide +kernel) rfl ?_
  refine jT_xlconst (z := 0) (pcN := 49) jIQ_161_48 rfl rfl ?_
  refine jT_adv 1 (pcN := 50) (LN := [(5, (0, 3)), (0, (4, 0)), (1, (0, r7)), (2, (0, r8)), (3, (4, 1)), (4, (0, o4))]) (stN := []) (hsN := [jzQ_16, (4, [(4, 13), (1, 1)], []), (8, [(4, 14), (4, 15)], []), jgh, jgh, jgh, jgh, jgh, jgh, (101, [], [0, r7, r8, 0, u11_4, u11_5]), (101, [], [k12_0, k12_1, k12_2, k12_3, k12_4, k12_5]), jgh, jgh, (101, [], [0, 0, 0, 0, 0, 0]), jgh, jgh]) (c1 := 0) (s1 := 0) (c2 := 0) (s2 := 0) (by exact rfl) ?_ (by omega) (by omega)
  refine jT_xiinc (x := 3) (z := 4) (LN := [(5, (0, 4)), (0, (4, 0)), (1, (0, r7)), (2, (0, r8)), (3, (4, 1)), (4, (0, o4))]) (pcN := 53) jIQ_161_50 rfl rfl (by decide) rfl rfl ?_
  refine jT_xgoto (pcN := 13) jIQ_161_53 rfl ?_
  refine jT_xiload (v := (0, 4)) (pcN := 15) jIQ_161_13 rfl rfl rfl ?_
  refine jT_xbipush (k := 6) (pcN := 17) jIQ_161_15 (by decide) rfl ?_
  refine jT_xicF (t := 56) (pcN := 20) jIQ_161_17 rfl (by decide +kernel) rfl rfl ?_
  refine jT_xaload_n (v := (4, 0)) (pcN := 21) jIQ_161_20 rfl rfl rfl ?_
  refine jT_xgetf (a := 0) (t := 1) (ci := 13) (fi := 7) (c := jzQ_16) (v := (4, 9)) (pcN := 24) jIQ_161_21 rfl rfl rfl rfl rfl rfl rfl ?_
  refine jT_xiload (v := (0, 4)) (pcN := 26) jIQ_161_24 rfl rfl rfl ?_
  refine jT_xiload (v := (0, 4)) (pcN := 28) jIQ_161_26 rfl rfl rfl ?_
  refine jT_xiconst (k := 1) (pcN := 29) jIQ_161_28 rfl ?_
  refine jT_xicT (pcN := 37) jIQ_161_29 rfl (by decide +kernel) rfl ?_
  refine jT_xiload (v := (0, 4)) (pcN := 39) jIQ_161_37 rfl rfl rfl ?_
  refine jT_xiconst (k := 2) (pcN := 40) jIQ_161_39 rfl ?_
  refine jT_xicT (pcN := 48) jIQ_161_40 rfl (by decide +kernel) rfl ?_
  refine jT_xlconst (z := 0) (pcN := 49) jIQ_161_48 rfl rfl ?_
  refine jT_adv 1 (pcN := 50) (LN := [(5, (0, 4)), (0, (4, 0)), (1, (0, r7)), (2, (0, r8)), (3, (4, 1)), (4, (0, o4))]) (stN := []) (hsN := [jzQ_16, (4, [(4, 13), (1, 1)], []), (8, [(4, 14), (4, 15)], []), jgh, jgh, jgh, jgh, jgh, jgh, (101, [], [0, r7, r8, 0, 0, u11_5]), (101, [], [k12_0, k12_1, k12_2, k12_3, k12_4, k12_5]), jgh, jgh, (101, [], [0, 0, 0, 0, 0, 0]), jgh, jgh]) (c1 := 0) (s1 := 0) (c2 := 0) (s2 := 0) (by exact rfl) ?_ (by omega) (by omega)
  refine jT_xiinc (x := 4) (z := 5) (LN := [(5, (0, 5)), (0, (4, 0)), (1, (0, r7)), (2, (0, r8)), (3, (4, 1)), (4, (0, o4))]) (pcN := 53) jIQ_161_50 rfl rfl (by decide) rfl rfl ?_
  refine jT_xgoto (pcN := 13) jIQ_161_53 rfl ?_
  refine jT_xiload (v := (0, 5)) (pcN := 15) jIQ_161_13 rfl rfl rfl ?_
  refine jT_xbipush (k := 6) (pcN := 17) jIQ_161_15 (by decide) rfl ?_
  refine jT_xicF (t := 56) (pcN := 20) jIQ_161_17 rfl (by decide +kernel) rfl rfl ?_
  refine jT_xaload_n (v := (4, 0)) (pcN := 21) jIQ_161_20 rfl rfl rfl ?_
  refine jT_xgetf (a := 0) (t := 1) (ci := 13) (fi := 7) (c := jzQ_16) (v := (4, 9)) (pcN := 24) jIQ_161_21 rfl rfl rfl rfl rfl rfl rfl ?_
  refine jT_xiload (v := (0, 5)) (pcN := 26) jIQ_161_24 rfl rfl rfl ?_
  refine jT_xiload (v := (0, 5)) (pcN := 28) jIQ_161_26 rfl rfl rfl ?_
  refine jT_xiconst (k := 1) (pcN := 29) jIQ_161_28 rfl ?_
  refine jT_xicT (pcN := 37) jIQ_161_29 rfl (by decide +kernel) rfl ?_
  refine jT_xiload (v := (0, 5)) (pcN := 39) jIQ_161_37 rfl rfl rfl ?_
  refine jT_xiconst (k := 2) (pcN := 40) jIQ_161_39 rfl ?_
  refine jT_xicT (pcN := 48) jIQ_161_40 rfl (by decide +kernel) rfl ?_
  refine jT_xlconst (z := 0) (pcN := 49) jIQ_161_48 rfl rfl ?_
  refine jT_adv 1 (pcN := 50) (LN := [(5, (0, 5)), (0, (4, 0)), (1, (0, r7)), (2, (0, r8)), (3, (4, 1)), (4, (0, o4))]) (stN := []) (hsN := [jzQ_16, (4, [(4, 13), (1, 1)], []), (8, [(4, 14), (4, 15)], []), jgh, jgh, jgh, jgh, jgh, jgh, (101, [], [0, r7, r8, 0, 0, 0]), (101, [], [k12_0, k12_1, k12_2, k12_3, k12_4, k12_5]), jgh, jgh, (101, [], [0, 0, 0, 0, 0, 0]), jgh, jgh]) (c1 := 0) (s1 := 0) (c2 := 0) (s2 := 0) (by exact rfl) ?_ (by omega) (by omega)
  refine jT_xiinc (x := 5) (z := 6) (LN := [(5, (0, 6)), (0, (4, 0)), (1, (0, r7)), (2, (0, r8)), (3, (4, 1)), (4, (0, o4))]) (pcN := 53) jIQ_161_50 rfl rfl (by decide) rfl rfl ?_
  refine jT_xgoto (pcN := 13) jIQ_161_53 rfl ?_
  refine jT_xiload (v := (0, 6)) (pcN := 15) jIQ_161_13 rfl rfl rfl ?_
  refine jT_xbipush (k := 6) (pcN := 17) jIQ_161_15 (by decide) rfl ?_
  refine jT_xicT (pcN := 56) jIQ_161_17 rfl (by decide +kernel) rfl ?_
  refine jT_xaload_n (v := (4, 0)) (pcN := 57) jIQ_161_56 rfl rfl rfl ?_
  refine jT_xgetf (a := 0) (t := 1) (ci := 13) (fi := 0) (c := jzQ_16) (v := (4, 2)) (pcN := 60) jIQ_161_57 rfl rfl rfl rfl rfl rfl rfl ?_
  refine jT_xaload_n (v := (4, 0)) (pcN := 61) jIQ_161_60 rfl rfl rfl ?_
  refine jT_xgetf (a := 0) (t := 1) (ci := 13) (fi := 7) (c := jzQ_16) (v := (4, 9)) (pcN := 64) jIQ_161_61 rfl rfl rfl rfl rfl rfl rfl ?_
  refine jT_xlconst (z := 1) (pcN := 65) jIQ_161_64 rfl rfl ?_
  refine jT_xlconst (z := 1) (pcN := 66) jIQ_161_65 rfl rfl ?_
  refine jT_callA [2, 9, 14, 15] (y := 45) (pcN := 69) (dC := 1) (bc1 := 0) (bc2 := 0) (c1 := 0) (c2 := 0) (as := [(4, 2), (4, 9), (1, 1), (1, 1)]) (asC := [(4, 0), (4, 1), (1, 1), (1, 1)]) (LN := [(5, (0, 6)), (0, (4, 0)), (1, (0, r7)), (2, (0, r8)), (3, (4, 1)), (4, (0, o4))]) (stN := []) (hsC := [(8, [(4, 2), (4, 3)], []), (101, [], [0, r7, r8, 0, 0, 0]), jgh, jgh]) (ex := []) (v := (1, (108917793695 * r7 + 159561683699 * r8) / 68719476736)) (st2 := [(1, (108917793695 * r7 + 159561683699 * r8) / 68719476736)]) (hs2 := [jzQ_16, (4, [(4, 13), (1, 1)], []), (8, [(4, 14), (4, 15)], []), jgh, jgh, jgh, jgh, jgh, jgh, (101, [], [0, r7, r8, 0, 0, 0]), (101, [], [k12_0, k12_1, k12_2, k12_3, k12_4, k12_5]), jgh, jgh, (101, [], [0, 0, 0, 0, 0, 0]), jgh, jgh]) (jQl_sp45_116 (d := 0) (by omega) (by omega)) (by rfl) (by rfl) (by rfl) (by rfl) ⟨rfl, rfl, rfl, rfl, trivial⟩ (by rfl) (by rfl) (by omega) (by show 16 ≤ 16; omega) (by omega) (by omega) rfl rfl ?_
  have hb_q1 : (-60) ≤ (108917793695 * r7 + 159561683699 * r8) / 68719476736 ∧ (108917793695 * r7 + 159561683699 * r8) / 68719476736 ≤ 60 := ⟨by omega, by omega⟩
  generalize hq_q1 : (108917793695 * r7 + 159561683699 * r8) / 68719476736 = q1 at hb_q1 g_3 g_4 ⊢
  refine jT_xlstore (v := (1, q1)) (LN := [(5, (1, q1)), (0, (4, 0)), (1, (0, r7)), (2, (0, r8)), (3, (4, 1)), (4, (0, o4))]) (pcN := 71) jIQ_161_69 rfl rfl rfl rfl ?_
  have g_5 : 0 ≤ (-68719476736) * q1 + 108917793694 * r7 + 159561683698 * r8 - 1 := by have := jcg (b := r7) (c := r8) (by omega) (by omega) (by omega); rw [hq_q1] at this; omega
  have g_6 : 0 ≤ (-68719476736) * q1 + 108917793694 * r7 + 159561683700 * r8 - 1 := by have := jcg (b := r7) (c := r8) (by omega) (by omega) (by omega); rw [hq_q1] at this; omega
  have g_7 : 0 ≤ (-68719476736) * q1 + 108917793696 * r7 + 159561683698 * r8 - 1 := by have := jcg (b := r7) (c := r8) (by omega) (by omega) (by omega); rw [hq_q1] at this; omega
  have g_8 : 0 ≤ (-68719476736) * q1 + 108917793696 * r7 + 159561683700 * r8 - 1 := by have := jcg (b := r7) (c := r8) (by omega) (by omega) (by omega); rw [hq_q1] at this; omega
  refine jT_xiload (v := (0, o4)) (pcN := 73) jIQ_161_71 rfl rfl rfl ?_
  refine jT_ifF (a := o4) (t := 107) (by rfl) (by rfl) (by rfl) (jw_idd (by omega) (by omega)) (by simp only [jcP] <;> omega) ?_
  refine jT_xiload_n (v := (0, r7)) (pcN := 77) jIQ_161_76 rfl rfl rfl ?_
  refine jT_xi2l (x := r7) (z := r7) (pcN := 78) jIQ_161_77 rfl (jw_idd (by omega) (by omega)) rfl ?_
  refine jT_xaload_n (v := (4, 0)) (pcN := 79) jIQ_161_78 rfl rfl rfl ?_
  refine jT_xgetf (a := 0) (t := 1) (ci := 13) (fi := 8) (c := jzQ_16) (v := (4, 10)) (pcN := 82) jIQ_161_79 rfl rfl rfl rfl rfl rfl rfl ?_
  refine jT_xiconst (k := 1) (pcN := 83) jIQ_161_82 rfl ?_
  refine jT_lald (x := k12_1) (a := 10) (j := 1) (fs := []) (X := [k12_0, k12_1, k12_2, k12_3, k12_4, k12_5]) jIQ_161_83 rfl rfl rfl rfl ?_
  refine jT_eq (LN := [(5, (1, q1)), (0, (4, 0)), (1, (0, r7)), (2, (0, r8)), (3, (4, 1)), (4, (0, o4))]) (stN := [(1, k12_1), (1, r7)]) (hsN := [jzQ_16, (4, [(4, 13), (1, 1)], []), (8, [(4, 14), (4, 15)], []), jgh, jgh, jgh, jgh, jgh, jgh, (101, [], [0, r7, r8, 0, 0, 0]), (101, [], [k12_0, k12_1, k12_2, k12_3, k12_4, k12_5]), jgh, jgh, (101, [], [0, 0, 0, 0, 0, 0]), jgh, jgh]) rfl rfl rfl ?_
  refine jT_xlmul (x := r7) (y := k12_1) (z := r7 * k12_1) (pcN := 85) jIQ_161_84 rfl rfl rfl ?_
  have hb_q2 := jmul_b (x := r7) (y := k12_1) (m := 20) (n := 158) (by omega) (by omega) (by omega) (by omega)
  have hb_q2 : 0 ≤ r7 * k12_1 ∧ r7 * k12_1 ≤ 3160 := ⟨hb_q2.1, by omega⟩
  generalize hq_q2 : r7 * k12_1 = q2 at hb_q2 g_3 g_4 ⊢
  refine jT_xiload_n (v := (0, r8)) (pcN := 86) jIQ_161_85 rfl rfl rfl ?_
  refine jT_xi2l (x := r8) (z := r8) (pcN := 87) jIQ_161_86 rfl (jw_idd (by omega) (by omega)) rfl ?_
  refine jT_xaload_n (v := (4, 0)) (pcN := 88) jIQ_161_87 rfl rfl rfl ?_
  refine jT_xgetf (a := 0) (t := 1) (ci := 13) (fi := 8) (c := jzQ_16) (v := (4, 10)) (pcN := 91) jIQ_161_88 rfl rfl rfl rfl rfl rfl rfl ?_
  refine jT_xiconst (k := 2) (pcN := 92) jIQ_161_91 rfl ?_
  refine jT_lald (x := k12_2) (a := 10) (j := 2) (fs := []) (X := [k12_0, k12_1, k12_2, k12_3, k12_4, k12_5]) jIQ_161_92 rfl rfl rfl rfl ?_
  refine jT_eq (LN := [(5, (1, q1)), (0, (4, 0)), (1, (0, r7)), (2, (0, r8)), (3, (4, 1)), (4, (0, o4))]) (stN := [(1, k12_2), (1, r8), (1, q2)]) (hsN := [jzQ_16, (4, [(4, 13), (1, 1)], []), (8, [(4, 14), (4, 15)], []), jgh, jgh, jgh, jgh, jgh, jgh, (101, [], [0, r7, r8, 0, 0, 0]), (101, [], [k12_0, k12_1, k12_2, k12_3, k12_4, k12_5]), jgh, jgh, (101, [], [0, 0, 0, 0, 0, 0]), jgh, jgh]) rfl rfl rfl ?_
  refine jT_xlmul (x := r8) (y := k12_2) (z := r8 * k12_2) (pcN := 94) jIQ_161_93 rfl rfl rfl ?_
  have hb_q3 := jmul_b2 (x := r8) (y := k12_2) (k := 1) (l := 2) (m := 10) (n := 232) (by omega) (by omega) (by omega) (by omega) (by omega) (by omega)
  have hb_q3 : 2 ≤ r8 * k12_2 ∧ r8 * k12_2 ≤ 2320 := ⟨by omega, by omega⟩
  generalize hq_q3 : r8 * k12_2 = q3 at hb_q3 g_3 g_4 ⊢
  refine jT_xladd (x := q2) (y := q3) (z := q2 + q3) (pcN := 95) jIQ_161_94 rfl (rfl) rfl ?_
  refine jT_xlload (v := (1, q1)) (pcN := 97) jIQ_161_95 rfl rfl rfl ?_
  refine jT_xiload (v := (0, o4)) (pcN := 99) jIQ_161_97 rfl rfl rfl ?_
  refine jT_xi2l (x := o4) (z := o4) (pcN := 100) jIQ_161_99 rfl (jw_idd (by omega) (by omega)) rfl ?_
  refine jT_xlmul (x := q1) (y := o4) (z := q1 * o4) (pcN := 101) jIQ_161_100 rfl rfl rfl ?_
  have hb_q4 := jmul_bs (x := q1) (y := o4) (m := 60) (n := 100) (by omega) (by omega) (by omega) (by omega)
  have hb_q4 : (-6000) ≤ q1 * o4 ∧ q1 * o4 ≤ 6000 := ⟨by omega, by omega⟩
  generalize hq_q4 : q1 * o4 = q4 at hb_q4 g_3 g_4 ⊢
  refine jT_lcmp (a := q2 + q3) (b := q4) (z := 0) (by rfl) (by rfl) (jwl_idd (by omega) (by omega)) (jwl_idd (by omega) (by omega)) (by rw [decide_eq_false (show ¬ ((q4 : Int) < q2 + q3) by omega), decide_eq_true (show (q2 + q3 : Int) = q4 by omega)]; rfl) ?_
  refine jT_xifT (pcN := 107) jIQ_161_102 rfl (by decide +kernel) rfl ?_
  refine jT_xaload_n (v := (4, 0)) (pcN := 108) jIQ_161_107 rfl rfl rfl ?_
  refine jT_xgetf (a := 0) (t := 1) (ci := 13) (fi := 7) (c := jzQ_16) (v := (4, 9)) (pcN := 111) jIQ_161_108 rfl rfl rfl rfl rfl rfl rfl ?_
  refine jT_xiconst (k := 0) (pcN := 112) jIQ_161_111 rfl ?_
  refine jT_xlload (v := (1, q1)) (pcN := 114) jIQ_161_112 rfl rfl rfl ?_
  refine jT_adv 2 (pcN := 116) (LN := [(5, (1, q1)), (0, (4, 0)), (1, (0, r7)), (2, (0, r8)), (3, (4, 1)), (4, (0, o4))]) (stN := []) (hsN := [jzQ_16, (4, [(4, 13), (1, 1)], []), (8, [(4, 14), (4, 15)], []), jgh, jgh, jgh, jgh, jgh, jgh, (101, [], [-q1, r7, r8, 0, 0, 0]), (101, [], [k12_0, k12_1, k12_2, k12_3, k12_4, k12_5]), jgh, jgh, (101, [], [0, 0, 0, 0, 0, 0]), jgh, jgh]) (c1 := 0) (s1 := 0) (c2 := 0) (s2 := 0) (by exact rfl) ?_ (by omega) (by omega)
  refine jT_xiconst (k := 0) (pcN := 117) jIQ_161_116 rfl ?_
  refine jT_xistore (v := (0, 0)) (LN := [(7, (0, 0)), (5, (1, q1)), (0, (4, 0)), (1, (0, r7)), (2, (0, r8)), (3, (4, 1)), (4, (0, o4))]) (pcN := 119) jIQ_161_117 rfl rfl rfl rfl ?_
  refine jT_xiload (v := (0, 0)) (pcN := 121) jIQ_161_119 rfl rfl rfl ?_
  refine jT_xbipush (k := 6) (pcN := 123) jIQ_161_121 (by decide) rfl ?_
  refine jT_xicF (t := 159) (pcN := 126) jIQ_161_123 rfl (by decide +kernel) rfl rfl ?_
  refine jT_xaload_n (v := (4, 0)) (pcN := 127) jIQ_161_126 rfl rfl rfl ?_
  refine jT_xgetf (a := 0) (t := 1) (ci := 13) (fi := 7) (c := jzQ_16) (v := (4, 9)) (pcN := 130) jIQ_161_127 rfl rfl rfl rfl rfl rfl rfl ?_
  refine jT_xiload (v := (0, 0)) (pcN := 132) jIQ_161_130 rfl rfl rfl ?_
  refine jT_xaload_n (v := (4, 1)) (pcN := 133) jIQ_161_132 rfl rfl rfl ?_
  refine jT_xgetf (a := 1) (t := 2) (ci := 4) (fi := 0) (c := (4, [(4, 13), (1, 1)], [])) (v := (4, 13)) (pcN := 136) jIQ_161_133 rfl rfl rfl rfl rfl rfl rfl ?_
  refine jT_xiload (v := (0, 0)) (pcN := 138) jIQ_161_136 rfl rfl rfl ?_
  refine jT_lald (x := 0) (a := 13) (j := 0) (fs := []) (X := [0, 0, 0, 0, 0, 0]) jIQ_161_138 rfl rfl rfl rfl ?_
  refine jT_eq (LN := [(7, (0, 0)), (5, (1, q1)), (0, (4, 0)), (1, (0, r7)), (2, (0, r8)), (3, (4, 1)), (4, (0, o4))]) (stN := [(1, 0), (0, 0), (4, 9)]) (hsN := [jzQ_16, (4, [(4, 13), (1, 1)], []), (8, [(4, 14), (4, 15)], []), jgh, jgh, jgh, jgh, jgh, jgh, (101, [], [-q1, r7, r8, 0, 0, 0]), (101, [], [k12_0, k12_1, k12_2, k12_3, k12_4, k12_5]), jgh, jgh, (101, [], [0, 0, 0, 0, 0, 0]), jgh, jgh]) rfl rfl rfl ?_
  refine jT_xaload_n (v := (4, 0)) (pcN := 140) jIQ_161_139 rfl rfl rfl ?_
  refine jT_xgetf (a := 0) (t := 1) (ci := 13) (fi := 7) (c := jzQ_16) (v := (4, 9)) (pcN := 143) jIQ_161_140 rfl rfl rfl rfl rfl rfl rfl ?_
  refine jT_xiload (v := (0, 0)) (pcN := 145) jIQ_161_143 rfl rfl rfl ?_
  refine jT_lald (x := -q1) (a := 9) (j := 0) (fs := []) (X := [-q1, r7, r8, 0, 0, 0]) jIQ_161_145 rfl rfl rfl rfl ?_
  refine jT_eq (LN := [(7, (0, 0)), (5, (1, q1)), (0, (4, 0)), (1, (0, r7)), (2, (0, r8)), (3, (4, 1)), (4, (0, o4))]) (stN := [(1, -q1), (1, 0), (0, 0), (4, 9)]) (hsN := [jzQ_16, (4, [(4, 13), (1, 1)], []), (8, [(4, 14), (4, 15)], []), jgh, jgh, jgh, jgh, jgh, jgh, (101, [], [-q1, r7, r8, 0, 0, 0]), (101, [], [k12_0, k12_1, k12_2, k12_3, k12_4, k12_5]), jgh, jgh, (101, [], [0, 0, 0, 0, 0, 0]), jgh, jgh]) rfl rfl rfl ?_
  refine jT_xaload_n (v := (4, 1)) (pcN := 147) jIQ_161_146 rfl rfl rfl ?_
  refine jT_xgetf (a := 1) (t := 2) (ci := 4) (fi := 1) (c := (4, [(4, 13), (1, 1)], [])) (v := (1, 1)) (pcN := 150) jIQ_161_147 rfl rfl rfl rfl rfl rfl rfl ?_
  refine jT_xlmul (x := -q1) (y := 1) (z := -q1) (pcN := 151) jIQ_161_150 rfl (by omega) rfl ?_
  refine jT_xlsub (x := 0) (y := -q1) (z := q1) (pcN := 152) jIQ_161_151 rfl (by omega) rfl ?_
  refine jT_adv 1 (pcN := 153) (LN := [(7, (0, 0)), (5, (1, q1)), (0, (4, 0)), (1, (0, r7)), (2, (0, r8)), (3, (4, 1)), (4, (0, o4))]) (stN := []) (hsN := [jzQ_16, (4, [(4, 13), (1, 1)], []), (8, [(4, 14), (4, 15)], []), jgh, jgh, jgh, jgh, jgh, jgh, (101, [], [q1, r7, r8, 0, 0, 0]), (101, [], [k12_0, k12_1, k12_2, k12_3, k12_4, k12_5]), jgh, jgh, (101, [], [0, 0, 0, 0, 0, 0]), jgh, jgh]) (c1 := 0) (s1 := 0) (c2 := 0) (s2 := 0) (by exact rfl) ?_ (by omega) (by omega)
  refine jT_xiinc (x := 0) (z := 1) (LN := [(7, (0, 1)), (5, (1, q1)), (0, (4, 0)), (1, (0, r7)), (2, (0, r8)), (3, (4, 1)), (4, (0, o4))]) (pcN := 156) jIQ_161_153 rfl rfl (by decide) rfl rfl ?_
  refine jT_xgoto (pcN := 119) jIQ_161_156 rfl ?_
  refine jT_xiload (v := (0, 1)) (pcN := 121) jIQ_161_119 rfl rfl rfl ?_
  refine jT_xbipush (k := 6) (pcN := 123) jIQ_161_121 (by decide) rfl ?_
  refine jT_xicF (t := 159) (pcN := 126) jIQ_161_123 rfl (by decide +kernel) rfl rfl ?_
  refine jT_xaload_n (v := (4, 0)) (pcN := 127) jIQ_161_126 rfl rfl rfl ?_
  refine jT_xgetf (a := 0) (t := 1) (ci := 13) (fi := 7) (c := jzQ_16) (v := (4, 9)) (pcN := 130) jIQ_161_127 rfl rfl rfl rfl rfl rfl rfl ?_
  refine jT_xiload (v := (0, 1)) (pcN := 132) jIQ_161_130 rfl rfl rfl ?_
  refine jT_xaload_n (v := (4, 1)) (pcN := 133) jIQ_161_132 rfl rfl rfl ?_
  refine jT_xgetf (a := 1) (t := 2) (ci := 4) (fi := 0) (c := (4, [(4, 13), (1, 1)], [])) (v := (4, 13)) (pcN := 136) jIQ_161_133 rfl rfl rfl rfl rfl rfl rfl ?_
  refine jT_xiload (v := (0, 1)) (pcN := 138) jIQ_161_136 rfl rfl rfl ?_
  refine jT_lald (x := 0) (a := 13) (j := 1) (fs := []) (X := [0, 0, 0, 0, 0, 0]) jIQ_161_138 rfl rfl rfl rfl ?_
  refine jT_eq (LN := [(7, (0, 1)), (5, (1, q1)), (0, (4, 0)), (1, (0, r7)), (2, (0, r8)), (3, (4, 1)), (4, (0, o4))]) (stN := [(1, 0), (0, 1), (4, 9)]) (hsN := [jzQ_16, (4, [(4, 13), (1, 1)], []), (8, [(4, 14), (4, 15)], []), jgh, jgh, jgh, jgh, jgh, jgh, (101, [], [q1, r7, r8, 0, 0, 0]), (101, [], [k12_0, k12_1, k12_2, k12_3, k12_4, k12_5]), jgh, jgh, (101, [], [0, 0, 0, 0, 0, 0]), jgh, jgh]) rfl rfl rfl ?_
  refine jT_xaload_n (v := (4, 0)) (pcN := 140) jIQ_161_139 rfl rfl rfl ?_
  refine jT_xgetf (a := 0) (t := 1) (ci := 13) (fi := 7) (c := jzQ_16) (v := (4, 9)) (pcN := 143) jIQ_161_140 rfl rfl rfl rfl rfl rfl rfl ?_
  refine jT_xiload (v := (0, 1)) (pcN := 145) jIQ_161_143 rfl rfl rfl ?_
  refine jT_lald (x := r7) (a := 9) (j := 1) (fs := []) (X := [q1, r7, r8, 0, 0, 0]) jIQ_161_145 rfl rfl rfl rfl ?_
  refine jT_eq (LN := [(7, (0, 1)), (5, (1, q1)), (0, (4, 0)), (1, (0, r7)), (2, (0, r8)), (3, (4, 1)), (4, (0, o4))]) (stN := [(1, r7), (1, 0), (0, 1), (4, 9)]) (hsN := [jzQ_16, (4, [(4, 13), (1, 1)], []), (8, [(4, 14), (4, 15)], []), jgh, jgh, jgh, jgh, jgh, jgh, (101, [], [q1, r7, r8, 0, 0, 0]), (101, [], [k12_0, k12_1, k12_2, k12_3, k12_4, k12_5]), jgh, jgh, (101, [], [0, 0, 0, 0, 0, 0]), jgh, jgh]) rfl rfl rfl ?_
  refine jT_xaload_n (v := (4, 1)) (pcN := 147) jIQ_161_146 rfl rfl rfl ?_
  refine jT_xgetf (a := 1) (t := 2) (ci := 4) (fi := 1) (c := (4, [(4, 13), (1, 1)], [])) (v := (1, 1)) (pcN := 150) jIQ_161_147 rfl rfl rfl rfl rfl rfl rfl ?_
  refine jT_xlmul (x := r7) (y := 1) (z := r7) (pcN := 151) jIQ_161_150 rfl (by omega) rfl ?_
  refine jT_xlsub (x := 0) (y := r7) (z := -r7) (pcN := 152) jIQ_161_151 rfl (by omega) rfl ?_
  refine jT_adv 1 (pcN := 153) (LN := [(7, (0, 1)), (5, (1, q1)), (0, (4, 0)), (1, (0, r7)), (2, (0, r8)), (3, (4, 1)), (4, (0, o4))]) (stN := []) (hsN := [jzQ_16, (4, [(4, 13), (1, 1)], []), (8, [(4, 14), (4, 15)], []), jgh, jgh, jgh, jgh, jgh, jgh, (101, [], [q1, -r7, r8, 0, 0, 0]), (101, [], [k12_0, k12_1, k12_2, k12_3, k12_4, k12_5]), jgh, jgh, (101, [], [0, 0, 0, 0, 0, 0]), jgh, jgh]) (c1 := 0) (s1 := 0) (c2 := 0) (s2 := 0) (by exact rfl) ?_ (by omega) (by omega)
  refine jT_xiinc (x := 1) (z := 2) (LN := [(7, (0, 2)), (5, (1, q1)), (0, (4, 0)), (1, (0, r7)), (2, (0, r8)), (3, (4, 1)), (4, (0, o4))]) (pcN := 156) jIQ_161_153 rfl rfl (by decide) rfl rfl ?_
  refine jT_xgoto (pcN := 119) jIQ_161_156 rfl ?_
  refine jT_xiload (v := (0, 2)) (pcN := 121) jIQ_161_119 rfl rfl rfl ?_
  refine jT_xbipush (k := 6) (pcN := 123) jIQ_161_121 (by decide) rfl ?_
  refine jT_xicF (t := 159) (pcN := 126) jIQ_161_123 rfl (by decide +kernel) rfl rfl ?_
  refine jT_xaload_n (v := (4, 0)) (pcN := 127) jIQ_161_126 rfl rfl rfl ?_
  refine jT_xgetf (a := 0) (t := 1) (ci := 13) (fi := 7) (c := jzQ_16) (v := (4, 9)) (pcN := 130) jIQ_161_127 rfl rfl rfl rfl rfl rfl rfl ?_
  refine jT_xiload (v := (0, 2)) (pcN := 132) jIQ_161_130 rfl rfl rfl ?_
  refine jT_xaload_n (v := (4, 1)) (pcN := 133) jIQ_161_132 rfl rfl rfl ?_
  refine jT_xgetf (a := 1) (t := 2) (ci := 4) (fi := 0) (c := (4, [(4, 13), (1, 1)], [])) (v := (4, 13)) (pcN := 136) jIQ_161_133 rfl rfl rfl rfl rfl rfl rfl ?_
  refine jT_xiload (v := (0, 2)) (pcN := 138) jIQ_161_136 rfl rfl rfl ?_
  refine jT_lald (x := 0) (a := 13) (j := 2) (fs := []) (X := [0, 0, 0, 0, 0, 0]) jIQ_161_138 rfl rfl rfl rfl ?_
  refine jT_eq (LN := [(7, (0, 2)), (5, (1, q1)), (0, (4, 0)), (1, (0, r7)), (2, (0, r8)), (3, (4, 1)), (4, (0, o4))]) (stN := [(1, 0), (0, 2), (4, 9)]) (hsN := [jzQ_16, (4, [(4, 13), (1, 1)], []), (8, [(4, 14), (4, 15)], []), jgh, jgh, jgh, jgh, jgh, jgh, (101, [], [q1, -r7, r8, 0, 0, 0]), (101, [], [k12_0, k12_1, k12_2, k12_3, k12_4, k12_5]), jgh, jgh, (101, [], [0, 0, 0, 0, 0, 0]), jgh, jgh]) rfl rfl rfl ?_
  refine jT_xaload_n (v := (4, 0)) (pcN := 140) jIQ_161_139 rfl rfl rfl ?_
  refine jT_xgetf (a := 0) (t := 1) (ci := 13) (fi := 7) (c := jzQ_16) (v := (4, 9)) (pcN := 143) jIQ_161_140 rfl rfl rfl rfl rfl rfl rfl ?_
  refine jT_xiload (v := (0, 2)) (pcN := 145) jIQ_161_143 rfl rfl rfl ?_
  refine jT_lald (x := r8) (a := 9) (j := 2) (fs := []) (X := [q1, -r7, r8, 0, 0, 0]) jIQ_161_145 rfl rfl rfl rfl ?_
  refine jT_eq (LN := [(7, (0, 2)), (5, (1, q1)), (0, (4, 0)), (1, (0, r7)), (2, (0, r8)), (3, (4, 1)), (4, (0, o4))]) (stN := [(1, r8), (1, 0), (0, 2), (4, 9)]) (hsN := [jzQ_16, (4, [(4, 13), (1, 1)], []), (8, [(4, 14), (4, 15)], []), jgh, jgh, jgh, jgh, jgh, jgh, (101, [], [q1, -r7, r8, 0, 0, 0]), (101, [], [k12_0, k12_1, k12_2, k12_3, k12_4, k12_5]), jgh, jgh, (101, [], [0, 0, 0, 0, 0, 0]), jgh, jgh]) rfl rfl rfl ?_
  refine jT_xaload_n (v := (4, 1)) (pcN := 147) jIQ_161_146 rfl rfl rfl ?_
  refine jT_xgetf (a := 1) (t := 2) (ci := 4) (fi := 1) (c := (4, [(4, 13), (1, 1)], [])) (v := (1, 1)) (pcN := 150) jIQ_161_147 rfl rfl rfl rfl rfl rfl rfl ?_
  refine jT_xlmul (x := r8) (y := 1) (z := r8) (pcN := 151) jIQ_161_150 rfl (by omega) rfl ?_
  refine jT_xlsub (x := 0) (y := r8) (z := -r8) (pcN := 152) jIQ_161_151 rfl (by omega) rfl ?_
  refine jT_adv 1 (pcN := 153) (LN := [(7, (0, 2)), (5, (1, q1)), (0, (4, 0)), (1, (0, r7)), (2, (0, r8)), (3, (4, 1)), (4, (0, o4))]) (stN := []) (hsN := [jzQ_16, (4, [(4, 13), (1, 1)], []), (8, [(4, 14), (4, 15)], []), jgh, jgh, jgh, jgh, jgh, jgh, (101, [], [q1, -r7, -r8, 0, 0, 0]), (101, [], [k12_0, k12_1, k12_2, k12_3, k12_4, k12_5]), jgh, jgh, (101, [], [0, 0, 0, 0, 0, 0]), jgh, jgh]) (c1 := 0) (s1 := 0) (c2 := 0) (s2 := 0) (by exact rfl) ?_ (by omega) (by omega)
  refine jT_xiinc (x := 2) (z := 3) (LN := [(7, (0, 3)), (5, (1, q1)), (0, (4, 0)), (1, (0, r7)), (2, (0, r8)), (3, (4, 1)), (4, (0, o4))]) (pcN := 156) jIQ_161_153 rfl rfl (by decide) rfl rfl ?_
  refine jT_xgoto (pcN := 119) jIQ_161_156 rfl ?_
  refine jT_xiload (v := (0, 3)) (pcN := 121) jIQ_161_119 rfl rfl rfl ?_
  refine jT_xbipush (k := 6) (pcN := 123) jIQ_161_121 (by decide) rfl ?_
  refine jT_xicF (t := 159) (pcN := 126) jIQ_161_123 rfl (by decide +kernel) rfl rfl ?_
  refine jT_xaload_n (v := (4, 0)) (pcN := 127) jIQ_161_126 rfl rfl rfl ?_
  refine jT_xgetf (a := 0) (t := 1) (ci := 13) (fi := 7) (c := jzQ_16) (v := (4, 9)) (pcN := 130) jIQ_161_127 rfl rfl rfl rfl rfl rfl rfl ?_
  refine jT_xiload (v := (0, 3)) (pcN := 132) jIQ_161_130 rfl rfl rfl ?_
  refine jT_xaload_n (v := (4, 1)) (pcN := 133) jIQ_161_132 rfl rfl rfl ?_
  refine jT_xgetf (a := 1) (t := 2) (ci := 4) (fi := 0) (c := (4, [(4, 13), (1, 1)], [])) (v := (4, 13)) (pcN := 136) jIQ_161_133 rfl rfl rfl rfl rfl rfl rfl ?_
  refine jT_xiload (v := (0, 3)) (pcN := 138) jIQ_161_136 rfl rfl rfl ?_
  refine jT_lald (x := 0) (a := 13) (j := 3) (fs := []) (X := [0, 0, 0, 0, 0, 0]) jIQ_161_138 rfl rfl rfl rfl ?_
  refine jT_eq (LN := [(7, (0, 3)), (5, (1, q1)), (0, (4, 0)), (1, (0, r7)), (2, (0, r8)), (3, (4, 1)), (4, (0, o4))]) (stN := [(1, 0), (0, 3), (4, 9)]) (hsN := [jzQ_16, (4, [(4, 13), (1, 1)], []), (8, [(4, 14), (4, 15)], []), jgh, jgh, jgh, jgh, jgh, jgh, (101, [], [q1, -r7, -r8, 0, 0, 0]), (101, [], [k12_0, k12_1, k12_2, k12_3, k12_4, k12_5]), jgh, jgh, (101, [], [0, 0, 0, 0, 0, 0]), jgh, jgh]) rfl rfl rfl ?_
  refine jT_xaload_n (v := (4, 0)) (pcN := 140) jIQ_161_139 rfl rfl rfl ?_
  refine jT_xgetf (a := 0) (t := 1) (ci := 13) (fi := 7) (c := jzQ_16) (v := (4, 9)) (pcN := 143) jIQ_161_140 rfl rfl rfl rfl rfl rfl rfl ?_
  refine jT_xiload (v := (0, 3)) (pcN := 145) jIQ_161_143 rfl rfl rfl ?_
  refine jT_lald (x := 0) (a := 9) (j := 3) (fs := []) (X := [q1, -r7, -r8, 0, 0, 0]) jIQ_161_145 rfl rfl rfl rfl ?_
  refine jT_eq (LN := [(7, (0, 3)), (5, (1, q1)), (0, (4, 0)), (1, (0, r7)), (2, (0, r8)), (3, (4, 1)), (4, (0, o4))]) (stN := [(1, 0), (1, 0), (0, 3), (4, 9)]) (hsN := [jzQ_16, (4, [(4, 13), (1, 1)], []), (8, [(4, 14), (4, 15)], []), jgh, jgh, jgh, jgh, jgh, jgh, (101, [], [q1, -r7, -r8, 0, 0, 0]), (101, [], [k12_0, k12_1, k12_2, k12_3, k12_4, k12_5]), jgh, jgh, (101, [], [0, 0, 0, 0, 0, 0]), jgh, jgh]) rfl rfl rfl ?_
  refine jT_xaload_n (v := (4, 1)) (pcN := 147) jIQ_161_146 rfl rfl rfl ?_
  refine jT_xgetf (a := 1) (t := 2) (ci := 4) (fi := 1) (c := (4, [(4, 13), (1, 1)], [])) (v := (1, 1)) (pcN := 150) jIQ_161_147 rfl rfl rfl rfl rfl rfl rfl ?_
  refine jT_xlmul (x := 0) (y := 1) (z := 0) (pcN := 151) jIQ_161_150 rfl (by decide) rfl ?_
  refine jT_xlsub (x := 0) (y := 0) (z := 0) (pcN := 152) jIQ_161_151 rfl (by decide) rfl ?_
  refine jT_adv 1 (pcN := 153) (LN := [(7, (0, 3)), (5, (1, q1)), (0, (4, 0)), (1, (0, r7)), (2, (0, r8)), (3, (4, 1)), (4, (0, o4))]) (stN := []) (hsN := [jzQ_16, (4, [(4, 13), (1, 1)], []), (8, [(4, 14), (4, 15)], []), jgh, jgh, jgh, jgh, jgh, jgh, (101, [], [q1, -r7, -r8, 0, 0, 0]), (101, [], [k12_0, k12_1, k12_2, k12_3, k12_4, k12_5]), jgh, jgh, (101, [], [0, 0, 0, 0, 0, 0]), jgh, jgh]) (c1 := 0) (s1 := 0) (c2 := 0) (s2 := 0) (by exact rfl) ?_ (by omega) (by omega)
  refine jT_xiinc (x := 3) (z := 4) (LN := [(7, (0, 4)), (5, (1, q1)), (0, (4, 0)), (1, (0, r7)), (2, (0, r8)), (3, (4, 1)), (4, (0, o4))]) (pcN := 156) jIQ_161_153 rfl rfl (by decide) rfl rfl ?_
  refine jT_xgoto (pcN := 119) jIQ_161_156 rfl ?_
  refine jT_xiload (v := (0, 4)) (pcN := 121) jIQ_161_119 rfl rfl rfl ?_
  refine jT_xbipush (k := 6) (pcN := 123) jIQ_161_121 (by decide) rfl ?_
  refine jT_xicF (t := 159) (pcN := 126) jIQ_161_123 rfl (by decide +kernel) rfl rfl ?_
  refine jT_xaload_n (v := (4, 0)) (pcN := 127) jIQ_161_126 rfl rfl rfl ?_
  refine jT_xgetf (a := 0) (t := 1) (ci := 13) (fi := 7) (c := jzQ_16) (v := (4, 9)) (pcN := 130) jIQ_161_127 rfl rfl rfl rfl rfl rfl rfl ?_
  refine jT_xiload (v := (0, 4)) (pcN := 132) jIQ_161_130 rfl rfl rfl ?_
  refine jT_xaload_n (v := (4, 1)) (pcN := 133) jIQ_161_132 rfl rfl rfl ?_
  refine jT_xgetf (a := 1) (t := 2) (ci := 4) (fi := 0) (c := (4, [(4, 13), (1, 1)], [])) (v := (4, 13)) (pcN := 136) jIQ_161_133 rfl rfl rfl rfl rfl rfl rfl ?_
  refine jT_xiload (v := (0, 4)) (pcN := 138) jIQ_161_136 rfl rfl rfl ?_
  refine jT_lald (x := 0) (a := 13) (j := 4) (fs := []) (X := [0, 0, 0, 0, 0, 0]) jIQ_161_138 rfl rfl rfl rfl ?_
  refine jT_eq (LN := [(7, (0, 4)), (5, (1, q1)), (0, (4, 0)), (1, (0, r7)), (2, (0, r8)), (3, (4, 1)), (4, (0, o4))]) (stN := [(1, 0), (0, 4), (4, 9)]) (hsN := [jzQ_16, (4, [(4, 13), (1, 1)], []), (8, [(4, 14), (4, 15)], []), jgh, jgh, jgh, jgh, jgh, jgh, (101, [], [q1, -r7, -r8, 0, 0, 0]), (101, [], [k12_0, k12_1, k12_2, k12_3, k12_4, k12_5]), jgh, jgh, (101, [], [0, 0, 0, 0, 0, 0]), jgh, jgh]) rfl rfl rfl ?_
  refine jT_xaload_n (v := (4, 0)) (pcN := 140) jIQ_161_139 rfl rfl rfl ?_
  refine jT_xgetf (a := 0) (t := 1) (ci := 13) (fi := 7) (c := jzQ_16) (v := (4, 9)) (pcN := 143) jIQ_161_140 rfl rfl rfl rfl rfl rfl rfl ?_
  refine jT_xiload (v := (0, 4)) (pcN := 145) jIQ_161_143 rfl rfl rfl ?_
  refine jT_lald (x := 0) (a := 9) (j := 4) (fs := []) (X := [q1, -r7, -r8, 0, 0, 0]) jIQ_161_145 rfl rfl rfl rfl ?_
  refine jT_eq (LN := [(7, (0, 4)), (5, (1, q1)), (0, (4, 0)), (1, (0, r7)), (2, (0, r8)), (3, (4, 1)), (4, (0, o4))]) (stN := [(1, 0), (1, 0), (0, 4), (4, 9)]) (hsN := [jzQ_16, (4, [(4, 13), (1, 1)], []), (8, [(4, 14), (4, 15)], []), jgh, jgh, jgh, jgh, jgh, jgh, (101, [], [q1, -r7, -r8, 0, 0, 0]), (101, [], [k12_0, k12_1, k12_2, k12_3, k12_4, k12_5]), jgh, jgh, (101, [], [0, 0, 0, 0, 0, 0]), jgh, jgh]) rfl rfl rfl ?_
  refine jT_xaload_n (v := (4, 1)) (pcN := 147) jIQ_161_146 rfl rfl rfl ?_
  refine jT_xgetf (a := 1) (t := 2) (ci := 4) (fi := 1) (c := (4, [(4, 13), (1, 1)], [])) (v := (1, 1)) (pcN := 150) jIQ_161_147 rfl rfl rfl rfl rfl rfl rfl ?_
  refine jT_xlmul (x := 0) (y := 1) (z := 0) (pcN := 151) jIQ_161_150 rfl (by decide) rfl ?_
  refine jT_xlsub (x := 0) (y := 0) (z := 0) (pcN := 152) jIQ_161_151 rfl (by decide) rfl ?_
  refine jT_adv 1 (pcN := 153) (LN := [(7, (0, 4)), (5, (1, q1)), (0, (4, 0)), (1, (0, r7)), (2, (0, r8)), (3, (4, 1)), (4, (0, o4))]) (stN := []) (hsN := [jzQ_16, (4, [(4, 13), (1, 1)], []), (8, [(4, 14), (4, 15)], []), jgh, jgh, jgh, jgh, jgh, jgh, (101, [], [q1, -r7, -r8, 0, 0, 0]), (101, [], [k12_0, k12_1, k12_2, k12_3, k12_4, k12_5]), jgh, jgh, (101, [], [0, 0, 0, 0, 0, 0]), jgh, jgh]) (c1 := 0) (s1 := 0) (c2 := 0) (s2 := 0) (by exact rfl) ?_ (by omega) (by omega)
  refine jT_xiinc (x := 4) (z := 5) (LN := [(7, (0, 5)), (5, (1, q1)), (0, (4, 0)), (1, (0, r7)), (2, (0, r8)), (3, (4, 1)), (4, (0, o4))]) (pcN := 156) jIQ_161_153 rfl rfl (by decide) rfl rfl ?_
  refine jT_xgoto (pcN := 119) jIQ_161_156 rfl ?_
  refine jT_xiload (v := (0, 5)) (pcN := 121) jIQ_161_119 rfl rfl rfl ?_
  refine jT_xbipush (k := 6) (pcN := 123) jIQ_161_121 (by decide) rfl ?_
  refine jT_xicF (t := 159) (pcN := 126) jIQ_161_123 rfl (by decide +kernel) rfl rfl ?_
  refine jT_xaload_n (v := (4, 0)) (pcN := 127) jIQ_161_126 rfl rfl rfl ?_
  refine jT_xgetf (a := 0) (t := 1) (ci := 13) (fi := 7) (c := jzQ_16) (v := (4, 9)) (pcN := 130) jIQ_161_127 rfl rfl rfl rfl rfl rfl rfl ?_
  refine jT_xiload (v := (0, 5)) (pcN := 132) jIQ_161_130 rfl rfl rfl ?_
  refine jT_xaload_n (v := (4, 1)) (pcN := 133) jIQ_161_132 rfl rfl rfl ?_
  refine jT_xgetf (a := 1) (t := 2) (ci := 4) (fi := 0) (c := (4, [(4, 13), (1, 1)], [])) (v := (4, 13)) (pcN := 136) jIQ_161_133 rfl rfl rfl rfl rfl rfl rfl ?_
  refine jT_xiload (v := (0, 5)) (pcN := 138) jIQ_161_136 rfl rfl rfl ?_
  refine jT_lald (x := 0) (a := 13) (j := 5) (fs := []) (X := [0, 0, 0, 0, 0, 0]) jIQ_161_138 rfl rfl rfl rfl ?_
  refine jT_eq (LN := [(7, (0, 5)), (5, (1, q1)), (0, (4, 0)), (1, (0, r7)), (2, (0, r8)), (3, (4, 1)), (4, (0, o4))]) (stN := [(1, 0), (0, 5), (4, 9)]) (hsN := [jzQ_16, (4, [(4, 13), (1, 1)], []), (8, [(4, 14), (4, 15)], []), jgh, jgh, jgh, jgh, jgh, jgh, (101, [], [q1, -r7, -r8, 0, 0, 0]), (101, [], [k12_0, k12_1, k12_2, k12_3, k12_4, k12_5]), jgh, jgh, (101, [], [0, 0, 0, 0, 0, 0]), jgh, jgh]) rfl rfl rfl ?_
  refine jT_xaload_n (v := (4, 0)) (pcN := 140) jIQ_161_139 rfl rfl rfl ?_
  refine jT_xgetf (a := 0) (t := 1) (ci := 13) (fi := 7) (c := jzQ_16) (v := (4, 9)) (pcN := 143) jIQ_161_140 rfl rfl rfl rfl rfl rfl rfl ?_
  refine jT_xiload (v := (0, 5)) (pcN := 145) jIQ_161_143 rfl rfl rfl ?_
  refine jT_lald (x := 0) (a := 9) (j := 5) (fs := []) (X := [q1, -r7, -r8, 0, 0, 0]) jIQ_161_145 rfl rfl rfl rfl ?_
  refine jT_eq (LN := [(7, (0, 5)), (5, (1, q1)), (0, (4, 0)), (1, (0, r7)), (2, (0, r8)), (3, (4, 1)), (4, (0, o4))]) (stN := [(1, 0), (1, 0), (0, 5), (4, 9)]) (hsN := [jzQ_16, (4, [(4, 13), (1, 1)], []), (8, [(4, 14), (4, 15)], []), jgh, jgh, jgh, jgh, jgh, jgh, (101, [], [q1, -r7, -r8, 0, 0, 0]), (101, [], [k12_0, k12_1, k12_2, k12_3, k12_4, k12_5]), jgh, jgh, (101, [], [0, 0, 0, 0, 0, 0]), jgh, jgh]) rfl rfl rfl ?_
  refine jT_xaload_n (v := (4, 1)) (pcN := 147) jIQ_161_146 rfl rfl rfl ?_
  refine jT_xgetf (a := 1) (t := 2) (ci := 4) (fi := 1) (c := (4, [(4, 13), (1, 1)], [])) (v := (1, 1)) (pcN := 150) jIQ_161_147 rfl rfl rfl rfl rfl rfl rfl ?_
  refine jT_xlmul (x := 0) (y := 1) (z := 0) (pcN := 151) jIQ_161_150 rfl (by decide) rfl ?_
  refine jT_xlsub (x := 0) (y := 0) (z := 0) (pcN := 152) jIQ_161_151 rfl (by decide) rfl ?_
  refine jT_adv 1 (pcN := 153) (LN := [(7, (0, 5)), (5, (1, q1)), (0, (4, 0)), (1, (0, r7)), (2, (0, r8)), (3, (4, 1)), (4, (0, o4))]) (stN := []) (hsN := [jzQ_16, (4, [(4, 13), (1, 1)], []), (8, [(4, 14), (4, 15)], []), jgh, jgh, jgh, jgh, jgh, jgh, (101, [], [q1, -r7, -r8, 0, 0, 0]), (101, [], [k12_0, k12_1, k12_2, k12_3, k12_4, k12_5]), jgh, jgh, (101, [], [0, 0, 0, 0, 0, 0]), jgh, jgh]) (c1 := 0) (s1 := 0) (c2 := 0) (s2 := 0) (by exact rfl) ?_ (by omega) (by omega)
  refine jT_xiinc (x := 5) (z := 6) (LN := [(7, (0, 6)), (5, (1, q1)), (0, (4, 0)), (1, (0, r7)), (2, (0, r8)), (3, (4, 1)), (4, (0, o4))]) (pcN := 156) jIQ_161_153 rfl rfl (by decide) rfl rfl ?_
  refine jT_xgoto (pcN := 119) jIQ_161_156 rfl ?_
  refine jT_xiload (v := (0, 6)) (pcN := 121) jIQ_161_119 rfl rfl rfl ?_
  refine jT_xbipush (k := 6) (pcN := 123) jIQ_161_121 (by decide) rfl ?_
  refine jT_xicT (pcN := 159) jIQ_161_123 rfl (by decide +kernel) rfl ?_
  refine jT_xaload_n (v := (4, 0)) (pcN := 160) jIQ_161_159 rfl rfl rfl ?_
  refine jT_xgetf (a := 0) (t := 1) (ci := 13) (fi := 0) (c := jzQ_16) (v := (4, 2)) (pcN := 163) jIQ_161_160 rfl rfl rfl rfl rfl rfl rfl ?_
  refine jT_xaload_n (v := (4, 0)) (pcN := 164) jIQ_161_163 rfl rfl rfl ?_
  refine jT_xgetf (a := 0) (t := 1) (ci := 13) (fi := 7) (c := jzQ_16) (v := (4, 9)) (pcN := 167) jIQ_161_164 rfl rfl rfl rfl rfl rfl rfl ?_
  refine jT_callA [2, 9, 14, 15] (y := 38) (pcN := 170) (dC := 1) (bc1 := 0) (bc2 := 0) (c1 := 0) (c2 := 0) (as := [(4, 2), (4, 9)]) (asC := [(4, 0), (4, 1)]) (LN := [(7, (0, 6)), (5, (1, q1)), (0, (4, 0)), (1, (0, r7)), (2, (0, r8)), (3, (4, 1)), (4, (0, o4))]) (stN := []) (hsC := [(8, [(4, 2), (4, 3)], []), (101, [], [q1, -r7, -r8, 0, 0, 0]), jgh, jgh]) (ex := []) (v := (0, (-1))) (st2 := [(0, (-1))]) (hs2 := [jzQ_16, (4, [(4, 13), (1, 1)], []), (8, [(4, 14), (4, 15)], []), jgh, jgh, jgh, jgh, jgh, jgh, (101, [], [q1, -r7, -r8, 0, 0, 0]), (101, [], [k12_0, k12_1, k12_2, k12_3, k12_4, k12_5]), jgh, jgh, (101, [], [0, 0, 0, 0, 0, 0]), jgh, jgh]) (jQl_sp38_117 (d := 0) (by omega) (by omega) (by omega) (by omega) (by omega) (by omega) (by omega)) (by rfl) (by rfl) (by rfl) (by rfl) ⟨rfl, rfl, rfl, rfl, trivial⟩ (by rfl) (by rfl) (by omega) (by show 16 ≤ 16; omega) (by omega) (by omega) rfl rfl ?_
  refine jT_xifT (pcN := 177) jIQ_161_170 rfl (by decide +kernel) rfl ?_
  refine jT_xiconst (k := 0) (pcN := 178) jIQ_161_177 rfl ?_
  subst hq_q4
  subst hq_q3
  subst hq_q2
  subst hq_q1
  exact jT_ret rfl (by decide) (by show 16 ≤ 16; omega) (by omega) (by omega) ⟨rfl, rfl, rfl⟩
theorem jQ_161_329 {xs : List Int} {d : Nat} {k12_0 k12_1 k12_2 k12_3 k12_4 k12_5 o4 r7 r8 u11_0 u11_1 u11_2 u11_3 u11_4 u11_5 : Int} (h_k12_0 : 1 ≤ k12_0 ∧ k12_0 ≤ 100) (h_k12_1 : 2 ≤ k12_1 ∧ k12_1 ≤ 158) (h_k12_2 : 2 ≤ k12_2 ∧ k12_2 ≤ 232) (h_k12_3 : 3 ≤ k12_3 ∧ k12_3 ≤ 281) (h_k12_4 : 3 ≤ k12_4 ∧ k12_4 ≤ 346) (h_k12_5 : 4 ≤ k12_5 ∧ k12_5 ≤ 370) (h_o4 : 1 ≤ o4 ∧ o4 ≤ 100) (h_r7 : (-20) ≤ r7 ∧ r7 ≤ 20) (h_r8 : (-10) ≤ r8 ∧ r8 ≤ 10) (g_0 : 0 ≤ r7) (g_1 : r7 ≤ 0) (g_2 : 0 < r8) (g_3 : 0 ≤ -(((108917793695 * r7 + 159561683699 * r8) / 68719476736) * o4) + (r7 * k12_1) + (r8 * k12_2) - 1) : jT xs (d + 2) 161 15 0 [(0, (4, 0)), (1, (0, r7)), (2, (0, r8)), (3, (4, 1)), (4, (0, o4))] [] [jzQ_16, jgh, (8, [(4, 13), (4, 14)], []), jgh, jgh, jgh, jgh, jgh, jgh, (101, [], [u11_0, u11_1, u11_2, u11_3, u11_4, u11_5]), (101, [], [k12_0, k12_1, k12_2, k12_3, k12_4, k12_5]), jgh, jgh, jgh, jgh] 0 0 (fun k v hsN => k = 0 ∧ v = (0, 0) ∧ hsN = [jzQ_16, jgh, (8, [(4, 13), (4, 14)], []), jgh, jgh, jgh, jgh, jgh, jgh, (101, [], [0, r7, r8, 0, 0, 0]), (101, [], [k12_0, k12_1, k12_2, k12_3, k12_4, k12_5]), jgh, jgh, jgh, jgh]) := by
  refine jT_xiload_n (v := (0, r7)) (pcN := 1) jIQ_161_0 rfl rfl rfl ?_
  refine jT_ifF (a := r7) (t := 10) (by rfl) (by rfl) (by rfl) (jw_idd (by omega) (by omega)) (by simp only [jcP] <;> omega) ?_
  refine jT_xiload_n (v := (0, r8)) (pcN := 5) jIQ_161_4 rfl rfl rfl ?_
  refine jT_ifT (a := r8) (t := 10) (by rfl) (by rfl) (by rfl) (jw_idd (by omega) (by omega)) (by simp only [jcP] <;> omega) ?_
  refine jT_xiconst (k := 0) (pcN := 11) jIQ_161_10 rfl ?_
  refine jT_xistore (v := (0, 0)) (LN := [(5, (0, 0)), (0, (4, 0)), (1, (0, r7)), (2, (0, r8)), (3, (4, 1)), (4, (0, o4))]) (pcN := 13) jIQ_161_11 rfl rfl rfl rfl ?_
  refine jT_xiload (v := (0, 0)) (pcN := 15) jIQ_161_13 rfl rfl rfl ?_
  refine jT_xbipush (k := 6) (pcN := 17) jIQ_161_15 (by decide) rfl ?_
  refine jT_xicF (t := 56) (pcN := 20) jIQ_161_17 rfl (by decide +kernel) rfl rfl ?_
  refine jT_xaload_n (v := (4, 0)) (pcN := 21) jIQ_161_20 rfl rfl rfl ?_
  refine jT_xgetf (a := 0) (t := 1) (ci := 13) (fi := 7) (c := jzQ_16) (v := (4, 9)) (pcN := 24) jIQ_161_21 rfl rfl rfl rfl rfl rfl rfl ?_
  refine jT_xiload (v := (0, 0)) (pcN := 26) jIQ_161_24 rfl rfl rfl ?_
  refine jT_xiload (v := (0, 0)) (pcN := 28) jIQ_161_26 rfl rfl rfl ?_
  refine jT_xiconst (k := 1) (pcN := 29) jIQ_161_28 rfl ?_
  refine jT_xicT (pcN := 37) jIQ_161_29 rfl (by decide +kernel) rfl ?_
  refine jT_xiload (v := (0, 0)) (pcN := 39) jIQ_161_37 rfl rfl rfl ?_
  refine jT_xiconst (k := 2) (pcN := 40) jIQ_161_39 rfl ?_
  refine jT_xicT (pcN := 48) jIQ_161_40 rfl (by decide +kernel) rfl ?_
  refine jT_xlconst (z := 0) (pcN := 49) jIQ_161_48 rfl rfl ?_
  refine jT_adv 1 (pcN := 50) (LN := [(5, (0, 0)), (0, (4, 0)), (1, (0, r7)), (2, (0, r8)), (3, (4, 1)), (4, (0, o4))]) (stN := []) (hsN := [jzQ_16, jgh, (8, [(4, 13), (4, 14)], []), jgh, jgh, jgh, jgh, jgh, jgh, (101, [], [0, u11_1, u11_2, u11_3, u11_4, u11_5]), (101, [], [k12_0, k12_1, k12_2, k12_3, k12_4, k12_5]), jgh, jgh, jgh, jgh]) (c1 := 0) (s1 := 0) (c2 := 0) (s2 := 0) (by exact rfl) ?_ (by omega) (by omega)
  refine jT_xiinc (x := 0) (z := 1) (LN := [(5, (0, 1)), (0, (4, 0)), (1, (0, r7)), (2, (0, r8)), (3, (4, 1)), (4, (0, o4))]) (pcN := 53) jIQ_161_50 rfl rfl (by decide) rfl rfl ?_
  refine jT_xgoto (pcN := 13) jIQ_161_53 rfl ?_
  refine jT_xiload (v := (0, 1)) (pcN := 15) jIQ_161_13 rfl rfl rfl ?_
  refine jT_xbipush (k := 6) (pcN := 17) jIQ_161_15 (by decide) rfl ?_
  refine jT_xicF (t := 56) (pcN := 20) jIQ_161_17 rfl (by decide +kernel) rfl rfl ?_
  refine jT_xaload_n (v := (4, 0)) (pcN := 21) jIQ_161_20 rfl rfl rfl ?_
  refine jT_xgetf (a := 0) (t := 1) (ci := 13) (fi := 7) (c := jzQ_16) (v := (4, 9)) (pcN := 24) jIQ_161_21 rfl rfl rfl rfl rfl rfl rfl ?_
  refine jT_xiload (v := (0, 1)) (pcN := 26) jIQ_161_24 rfl rfl rfl ?_
  refine jT_xiload (v := (0, 1)) (pcN := 28) jIQ_161_26 rfl rfl rfl ?_
  refine jT_xiconst (k := 1) (pcN := 29) jIQ_161_28 rfl ?_
  refine jT_xicF (t := 37) (pcN := 32) jIQ_161_29 rfl (by decide +kernel) rfl rfl ?_
  refine jT_xiload_n (v := (0, r7)) (pcN := 33) jIQ_161_32 rfl rfl rfl ?_
  refine jT_xi2l (x := r7) (z := r7) (pcN := 34) jIQ_161_33 rfl (jw_idd (by omega) (by omega)) rfl ?_
  refine jT_xgoto (pcN := 49) jIQ_161_34 rfl ?_
  refine jT_adv 1 (pcN := 50) (LN := [(5, (0, 1)), (0, (4, 0)), (1, (0, r7)), (2, (0, r8)), (3, (4, 1)), (4, (0, o4))]) (stN := []) (hsN := [jzQ_16, jgh, (8, [(4, 13), (4, 14)], []), jgh, jgh, jgh, jgh, jgh, jgh, (101, [], [0, r7, u11_2, u11_3, u11_4, u11_5]), (101, [], [k12_0, k12_1, k12_2, k12_3, k12_4, k12_5]), jgh, jgh, jgh, jgh]) (c1 := 0) (s1 := 0) (c2 := 0) (s2 := 0) (by exact rfl) ?_ (by omega) (by omega)
  refine jT_xiinc (x := 1) (z := 2) (LN := [(5, (0, 2)), (0, (4, 0)), (1, (0, r7)), (2, (0, r8)), (3, (4, 1)), (4, (0, o4))]) (pcN := 53) jIQ_161_50 rfl rfl (by decide) rfl rfl ?_
  refine jT_xgoto (pcN := 13) jIQ_161_53 rfl ?_
  refine jT_xiload (v := (0, 2)) (pcN := 15) jIQ_161_13 rfl rfl rfl ?_
  refine jT_xbipush (k := 6) (pcN := 17) jIQ_161_15 (by decide) rfl ?_
  refine jT_xicF (t := 56) (pcN := 20) jIQ_161_17 rfl (by decide +kernel) rfl rfl ?_
  refine jT_xaload_n (v := (4, 0)) (pcN := 21) jIQ_161_20 rfl rfl rfl ?_
  refine jT_xgetf (a := 0) (t := 1) (ci := 13) (fi := 7) (c := jzQ_16) (v := (4, 9)) (pcN := 24) jIQ_161_21 rfl rfl rfl rfl rfl rfl rfl ?_
  refine jT_xiload (v := (0, 2)) (pcN := 26) jIQ_161_24 rfl rfl rfl ?_
  refine jT_xiload (v := (0, 2)) (pcN := 28) jIQ_161_26 rfl rfl rfl ?_
  refine jT_xiconst (k := 1) (pcN := 29) jIQ_161_28 rfl ?_
  refine jT_xicT (pcN := 37) jIQ_161_29 rfl (by decide +kernel) rfl ?_
  refine jT_xiload (v := (0, 2)) (pcN := 39) jIQ_161_37 rfl rfl rfl ?_
  refine jT_xiconst (k := 2) (pcN := 40) jIQ_161_39 rfl ?_
  refine jT_xicF (t := 48) (pcN := 43) jIQ_161_40 rfl (by decide +kernel) rfl rfl ?_
  refine jT_xiload_n (v := (0, r8)) (pcN := 44) jIQ_161_43 rfl rfl rfl ?_
  refine jT_xi2l (x := r8) (z := r8) (pcN := 45) jIQ_161_44 rfl (jw_idd (by omega) (by omega)) rfl ?_
  refine jT_xgoto (pcN := 49) jIQ_161_45 rfl ?_
  refine jT_adv 1 (pcN := 50) (LN := [(5, (0, 2)), (0, (4, 0)), (1, (0, r7)), (2, (0, r8)), (3, (4, 1)), (4, (0, o4))]) (stN := []) (hsN := [jzQ_16, jgh, (8, [(4, 13), (4, 14)], []), jgh, jgh, jgh, jgh, jgh, jgh, (101, [], [0, r7, r8, u11_3, u11_4, u11_5]), (101, [], [k12_0, k12_1, k12_2, k12_3, k12_4, k12_5]), jgh, jgh, jgh, jgh]) (c1 := 0) (s1 := 0) (c2 := 0) (s2 := 0) (by exact rfl) ?_ (by omega) (by omega)
  refine jT_xiinc (x := 2) (z := 3) (LN := [(5, (0, 3)), (0, (4, 0)), (1, (0, r7)), (2, (0, r8)), (3, (4, 1)), (4, (0, o4))]) (pcN := 53) jIQ_161_50 rfl rfl (by decide) rfl rfl ?_
  refine jT_xgoto (pcN := 13) jIQ_161_53 rfl ?_
  refine jT_xiload (v := (0, 3)) (pcN := 15) jIQ_161_13 rfl rfl rfl ?_
  refine jT_xbipush (k := 6) (pcN := 17) jIQ_161_15 (by decide) rfl ?_
  refine jT_xicF (t := 56) (pcN := 20) jIQ_161_17 rfl (by decide +kernel) rfl rfl ?_
  refine jT_xaload_n (v := (4, 0)) (pcN := 21) jIQ_161_20 rfl rfl rfl ?_
  refine jT_xgetf (a := 0) (t := 1) (ci := 13) (fi := 7) (c := jzQ_16) (v := (4, 9)) (pcN := 24) jIQ_161_21 rfl rfl rfl rfl rfl rfl rfl ?_
  refine jT_xiload (v := (0, 3)) (pcN := 26) jIQ_161_24 rfl rfl rfl ?_
  refine jT_xiload (v := (0, 3)) (pcN := 28) jIQ_161_26 rfl rfl rfl ?_
  refine jT_xiconst (k := 1) (pcN := 29) jIQ_161_28 rfl ?_
  refine jT_xicT (pcN := 37) jIQ_161_29 rfl (by decide +kernel) rfl ?_
  refine jT_xiload (v := (0, 3)) (pcN := 39) jIQ_161_37 rfl rfl rfl ?_
  refine jT_xiconst (k := 2) (pcN := 40) jIQ_161_39 rfl ?_
  refine jT_xicT (pcN := 48) jIQ_161_40 rfl (by decide +kernel) rfl ?_
  refine jT_xlconst (z := 0) (pcN := 49) jIQ_161_48 rfl rfl ?_
  refine jT_adv 1 (pcN := 50) (LN := [(5, (0, 3)), (0, (4, 0)), (1, (0, r7)), (2, (0, r8)), (3, (4, 1)), (4, (0, o4))]) (stN := []) (hsN := [jzQ_16, jgh, (8, [(4, 13), (4, 14)], []), jgh, jgh, jgh, jgh, jgh, jgh, (101, [], [0, r7, r8, 0, u11_4, u11_5]), (101, [], [k12_0, k12_1, k12_2, k12_3, k12_4, k12_5]), jgh, jgh, jgh, jgh]) (c1 := 0) (s1 := 0) (c2 := 0) (s2 := 0) (by exact rfl) ?_ (by omega) (by omega)
  refine jT_xiinc (x := 3) (z := 4) (LN := [(5, (0, 4)), (0, (4, 0)), (1, (0, r7)), (2, (0, r8)), (3, (4, 1)), (4, (0, o4))]) (pcN := 53) jIQ_161_50 rfl rfl (by decide) rfl rfl ?_
  refine jT_xgoto (pcN := 13) jIQ_161_53 rfl ?_
  refine jT_xiload (v := (0, 4)) (pcN := 15) jIQ_161_13 rfl rfl rfl ?_
  refine jT_xbipush (k := 6) (pcN := 17) jIQ_161_15 (by decide) rfl ?_
  refine jT_xicF (t := 56) (pcN := 20) jIQ_161_17 rfl (by decide +kernel) rfl rfl ?_
  refine jT_xaload_n (v := (4, 0)) (pcN := 21) jIQ_161_20 rfl rfl rfl ?_
  refine jT_xgetf (a := 0) (t := 1) (ci := 13) (fi := 7) (c := jzQ_16) (v := (4, 9)) (pcN := 24) jIQ_161_21 rfl rfl rfl rfl rfl rfl rfl ?_
  refine jT_xiload (v := (0, 4)) (pcN := 26) jIQ_161_24 rfl rfl rfl ?_
  refine jT_xiload (v := (0, 4)) (pcN := 28) jIQ_161_26 rfl rfl rfl ?_
  refine jT_xiconst (k := 1) (pcN := 29) jIQ_161_28 rfl ?_
  refine jT_xicT (pcN := 37) jIQ_161_29 rfl (by decide +kernel) rfl ?_
  refine jT_xiload (v := (0, 4)) (pcN := 39) jIQ_161_37 rfl rfl rfl ?_
  refine jT_xiconst (k := 2) (pcN := 40) jIQ_161_39 rfl ?_
  refine jT_xicT (pcN := 48) jIQ_161_40 rfl (by decide +kernel) rfl ?_
  refine jT_xlconst (z := 0) (pcN := 49) jIQ_161_48 rfl rfl ?_
  refine jT_adv 1 (pcN := 50) (LN := [(5, (0, 4)), (0, (4, 0)), (1, (0, r7)), (2, (0, r8)), (3, (4, 1)), (4, (0, o4))]) (stN := []) (hsN := [jzQ_16, jgh, (8, [(4, 13), (4, 14)], []), jgh, jgh, jgh, jgh, jgh, jgh, (101, [], [0, r7, r8, 0, 0, u11_5]), (101, [], [k12_0, k12_1, k12_2, k12_3, k12_4, k12_5]), jgh, jgh, jgh, jgh]) (c1 := 0) (s1 := 0) (c2 := 0) (s2 := 0) (by exact rfl) ?_ (by omega) (by omega)
  refine jT_xiinc (x := 4) (z := 5) (LN := [(5, (0, 5)), (0, (4, 0)), (1, (0, r7)), (2, (0, r8)), (3, (4, 1)), (4, (0, o4))]) (pcN := 53) jIQ_161_50 rfl rfl (by decide) rfl rfl ?_
  refine jT_xgoto (pcN := 13) jIQ_161_53 rfl ?_
  refine jT_xiload (v := (0, 5)) (pcN := 15) jIQ_161_13 rfl rfl rfl ?_
  refine jT_xbipush (k := 6) (pcN := 17) jIQ_161_15 (by decide) rfl ?_
  refine jT_xicF (t := 56) (pcN := 20) jIQ_161_17 rfl (by decide +kernel) rfl rfl ?_
  refine jT_xaload_n (v := (4, 0)) (pcN := 21) jIQ_161_20 rfl rfl rfl ?_
  refine jT_xgetf (a := 0) (t := 1) (ci := 13) (fi := 7) (c := jzQ_16) (v := (4, 9)) (pcN := 24) jIQ_161_21 rfl rfl rfl rfl rfl rfl rfl ?_
  refine jT_xiload (v := (0, 5)) (pcN := 26) jIQ_161_24 rfl rfl rfl ?_
  refine jT_xiload (v := (0, 5)) (pcN := 28) jIQ_161_26 rfl rfl rfl ?_
  refine jT_xiconst (k := 1) (pcN := 29) jIQ_161_28 rfl ?_
  refine jT_xicT (pcN := 37) jIQ_161_29 rfl (by decide +kernel) rfl ?_
  refine jT_xiload (v := (0, 5)) (pcN := 39) jIQ_161_37 rfl rfl rfl ?_
  refine jT_xiconst (k := 2) (pcN := 40) jIQ_161_39 rfl ?_
  refine jT_xicT (pcN := 48) jIQ_161_40 rfl (by decide +kernel) rfl ?_
  refine jT_xlconst (z := 0) (pcN := 49) jIQ_161_48 rfl rfl ?_
  refine jT_adv 1 (pcN := 50) (LN := [(5, (0, 5)), (0, (4, 0)), (1, (0, r7)), (2, (0, r8)), (3, (4, 1)), (4, (0, o4))]) (stN := []) (hsN := [jzQ_16, jgh, (8, [(4, 13), (4, 14)], []), jgh, jgh, jgh, jgh, jgh, jgh, (101, [], [0, r7, r8, 0, 0, 0]), (101, [], [k12_0, k12_1, k12_2, k12_3, k12_4, k12_5]), jgh, jgh, jgh, jgh]) (c1 := 0) (s1 := 0) (c2 := 0) (s2 := 0) (by exact rfl) ?_ (by omega) (by omega)
  refine jT_xiinc (x := 5) (z := 6) (LN := [(5, (0, 6)), (0, (4, 0)), (1, (0, r7)), (2, (0, r8)), (3, (4, 1)), (4, (0, o4))]) (pcN := 53) jIQ_161_50 rfl rfl (by decide) rfl rfl ?_
  refine jT_xgoto (pcN := 13) jIQ_161_53 rfl ?_
  refine jT_xiload (v := (0, 6)) (pcN := 15) jIQ_161_13 rfl rfl rfl ?_
  refine jT_xbipush (k := 6) (pcN := 17) jIQ_161_15 (by decide) rfl ?_
  refine jT_xicT (pcN := 56) jIQ_161_17 rfl (by decide +kernel) rfl ?_
  refine jT_xaload_n (v := (4, 0)) (pcN := 57) jIQ_161_56 rfl rfl rfl ?_
  refine jT_xgetf (a := 0) (t := 1) (ci := 13) (fi := 0) (c := jzQ_16) (v := (4, 2)) (pcN := 60) jIQ_161_57 rfl rfl rfl rfl rfl rfl rfl ?_
  refine jT_xaload_n (v := (4, 0)) (pcN := 61) jIQ_161_60 rfl rfl rfl ?_
  refine jT_xgetf (a := 0) (t := 1) (ci := 13) (fi := 7) (c := jzQ_16) (v := (4, 9)) (pcN := 64) jIQ_161_61 rfl rfl rfl rfl rfl rfl rfl ?_
  refine jT_xlconst (z := 1) (pcN := 65) jIQ_161_64 rfl rfl ?_
  refine jT_xlconst (z := 1) (pcN := 66) jIQ_161_65 rfl rfl ?_
  refine jT_callA [2, 9, 13, 14] (y := 45) (pcN := 69) (dC := 1) (bc1 := 0) (bc2 := 0) (c1 := 0) (c2 := 0) (as := [(4, 2), (4, 9), (1, 1), (1, 1)]) (asC := [(4, 0), (4, 1), (1, 1), (1, 1)]) (LN := [(5, (0, 6)), (0, (4, 0)), (1, (0, r7)), (2, (0, r8)), (3, (4, 1)), (4, (0, o4))]) (stN := []) (hsC := [(8, [(4, 2), (4, 3)], []), (101, [], [0, r7, r8, 0, 0, 0]), jgh, jgh]) (ex := []) (v := (1, (108917793695 * r7 + 159561683699 * r8) / 68719476736)) (st2 := [(1, (108917793695 * r7 + 159561683699 * r8) / 68719476736)]) (hs2 := [jzQ_16, jgh, (8, [(4, 13), (4, 14)], []), jgh, jgh, jgh, jgh, jgh, jgh, (101, [], [0, r7, r8, 0, 0, 0]), (101, [], [k12_0, k12_1, k12_2, k12_3, k12_4, k12_5]), jgh, jgh, jgh, jgh]) (jQl_sp45_116 (d := 0) (by omega) (by omega)) (by rfl) (by rfl) (by rfl) (by rfl) ⟨rfl, rfl, rfl, rfl, trivial⟩ (by rfl) (by rfl) (by omega) (by show 15 ≤ 15; omega) (by omega) (by omega) rfl rfl ?_
  have hb_q1 : (-60) ≤ (108917793695 * r7 + 159561683699 * r8) / 68719476736 ∧ (108917793695 * r7 + 159561683699 * r8) / 68719476736 ≤ 60 := ⟨by omega, by omega⟩
  generalize hq_q1 : (108917793695 * r7 + 159561683699 * r8) / 68719476736 = q1 at hb_q1 g_3 ⊢
  refine jT_xlstore (v := (1, q1)) (LN := [(5, (1, q1)), (0, (4, 0)), (1, (0, r7)), (2, (0, r8)), (3, (4, 1)), (4, (0, o4))]) (pcN := 71) jIQ_161_69 rfl rfl rfl rfl ?_
  have g_4 : 0 ≤ (-68719476736) * q1 + 108917793694 * r7 + 159561683698 * r8 - 1 := by have := jcg (b := r7) (c := r8) (by omega) (by omega) (by omega); rw [hq_q1] at this; omega
  have g_5 : 0 ≤ (-68719476736) * q1 + 108917793694 * r7 + 159561683700 * r8 - 1 := by have := jcg (b := r7) (c := r8) (by omega) (by omega) (by omega); rw [hq_q1] at this; omega
  have g_6 : 0 ≤ (-68719476736) * q1 + 108917793696 * r7 + 159561683698 * r8 - 1 := by have := jcg (b := r7) (c := r8) (by omega) (by omega) (by omega); rw [hq_q1] at this; omega
  have g_7 : 0 ≤ (-68719476736) * q1 + 108917793696 * r7 + 159561683700 * r8 - 1 := by have := jcg (b := r7) (c := r8) (by omega) (by omega) (by omega); rw [hq_q1] at this; omega
  refine jT_xiload (v := (0, o4)) (pcN := 73) jIQ_161_71 rfl rfl rfl ?_
  refine jT_ifF (a := o4) (t := 107) (by rfl) (by rfl) (by rfl) (jw_idd (by omega) (by omega)) (by simp only [jcP] <;> omega) ?_
  refine jT_xiload_n (v := (0, r7)) (pcN := 77) jIQ_161_76 rfl rfl rfl ?_
  refine jT_xi2l (x := r7) (z := r7) (pcN := 78) jIQ_161_77 rfl (jw_idd (by omega) (by omega)) rfl ?_
  refine jT_xaload_n (v := (4, 0)) (pcN := 79) jIQ_161_78 rfl rfl rfl ?_
  refine jT_xgetf (a := 0) (t := 1) (ci := 13) (fi := 8) (c := jzQ_16) (v := (4, 10)) (pcN := 82) jIQ_161_79 rfl rfl rfl rfl rfl rfl rfl ?_
  refine jT_xiconst (k := 1) (pcN := 83) jIQ_161_82 rfl ?_
  refine jT_lald (x := k12_1) (a := 10) (j := 1) (fs := []) (X := [k12_0, k12_1, k12_2, k12_3, k12_4, k12_5]) jIQ_161_83 rfl rfl rfl rfl ?_
  refine jT_eq (LN := [(5, (1, q1)), (0, (4, 0)), (1, (0, r7)), (2, (0, r8)), (3, (4, 1)), (4, (0, o4))]) (stN := [(1, k12_1), (1, r7)]) (hsN := [jzQ_16, jgh, (8, [(4, 13), (4, 14)], []), jgh, jgh, jgh, jgh, jgh, jgh, (101, [], [0, r7, r8, 0, 0, 0]), (101, [], [k12_0, k12_1, k12_2, k12_3, k12_4, k12_5]), jgh, jgh, jgh, jgh]) rfl rfl rfl ?_
  refine jT_xlmul (x := r7) (y := k12_1) (z := r7 * k12_1) (pcN := 85) jIQ_161_84 rfl rfl rfl ?_
  have hb_q2 := jmul_b (x := r7) (y := k12_1) (m := 20) (n := 158) (by omega) (by omega) (by omega) (by omega)
  have hb_q2 : 0 ≤ r7 * k12_1 ∧ r7 * k12_1 ≤ 3160 := ⟨hb_q2.1, by omega⟩
  generalize hq_q2 : r7 * k12_1 = q2 at hb_q2 g_3 ⊢
  refine jT_xiload_n (v := (0, r8)) (pcN := 86) jIQ_161_85 rfl rfl rfl ?_
  refine jT_xi2l (x := r8) (z := r8) (pcN := 87) jIQ_161_86 rfl (jw_idd (by omega) (by omega)) rfl ?_
  refine jT_xaload_n (v := (4, 0)) (pcN := 88) jIQ_161_87 rfl rfl rfl ?_
  refine jT_xgetf (a := 0) (t := 1) (ci := 13) (fi := 8) (c := jzQ_16) (v := (4, 10)) (pcN := 91) jIQ_161_88 rfl rfl rfl rfl rfl rfl rfl ?_
  refine jT_xiconst (k := 2) (pcN := 92) jIQ_161_91 rfl ?_
  refine jT_lald (x := k12_2) (a := 10) (j := 2) (fs := []) (X := [k12_0, k12_1, k12_2, k12_3, k12_4, k12_5]) jIQ_161_92 rfl rfl rfl rfl ?_
  refine jT_eq (LN := [(5, (1, q1)), (0, (4, 0)), (1, (0, r7)), (2, (0, r8)), (3, (4, 1)), (4, (0, o4))]) (stN := [(1, k12_2), (1, r8), (1, q2)]) (hsN := [jzQ_16, jgh, (8, [(4, 13), (4, 14)], []), jgh, jgh, jgh, jgh, jgh, jgh, (101, [], [0, r7, r8, 0, 0, 0]), (101, [], [k12_0, k12_1, k12_2, k12_3, k12_4, k12_5]), jgh, jgh, jgh, jgh]) rfl rfl rfl ?_
  refine jT_xlmul (x := r8) (y := k12_2) (z := r8 * k12_2) (pcN := 94) jIQ_161_93 rfl rfl rfl ?_
  have hb_q3 := jmul_b2 (x := r8) (y := k12_2) (k := 1) (l := 2) (m := 10) (n := 232) (by omega) (by omega) (by omega) (by omega) (by omega) (by omega)
  have hb_q3 : 2 ≤ r8 * k12_2 ∧ r8 * k12_2 ≤ 2320 := ⟨by omega, by omega⟩
  generalize hq_q3 : r8 * k12_2 = q3 at hb_q3 g_3 ⊢
  refine jT_xladd (x := q2) (y := q3) (z := q2 + q3) (pcN := 95) jIQ_161_94 rfl (rfl) rfl ?_
  refine jT_xlload (v := (1, q1)) (pcN := 97) jIQ_161_95 rfl rfl rfl ?_
  refine jT_xiload (v := (0, o4)) (pcN := 99) jIQ_161_97 rfl rfl rfl ?_
  refine jT_xi2l (x := o4) (z := o4) (pcN := 100) jIQ_161_99 rfl (jw_idd (by omega) (by omega)) rfl ?_
  refine jT_xlmul (x := q1) (y := o4) (z := q1 * o4) (pcN := 101) jIQ_161_100 rfl rfl rfl ?_
  have hb_q4 := jmul_bs (x := q1) (y := o4) (m := 60) (n := 100) (by omega) (by omega) (by omega) (by omega)
  have hb_q4 : (-6000) ≤ q1 * o4 ∧ q1 * o4 ≤ 6000 := ⟨by omega, by omega⟩
  generalize hq_q4 : q1 * o4 = q4 at hb_q4 g_3 ⊢
  refine jT_lcmp (a := q2 + q3) (b := q4) (z := 1) (by rfl) (by rfl) (jwl_idd (by omega) (by omega)) (jwl_idd (by omega) (by omega)) (by rw [decide_eq_true (show (q4 : Int) < q2 + q3 by omega)]; rfl) ?_
  refine jT_xifF (t := 107) (pcN := 105) jIQ_161_102 rfl (by decide +kernel) rfl rfl ?_
  refine jT_xiconst (k := 0) (pcN := 106) jIQ_161_105 rfl ?_
  subst hq_q4
  subst hq_q3
  subst hq_q2
  subst hq_q1
  exact jT_ret rfl (by decide) (by show 15 ≤ 15; omega) (by omega) (by omega) ⟨rfl, rfl, rfl⟩
theorem jQ_161_330 {xs : List Int} {d : Nat} {k12_0 k12_1 k12_2 k12_3 k12_4 k12_5 o4 r7 r8 u11_0 u11_1 u11_2 u11_3 u11_4 u11_5 : Int} (h_k12_0 : 1 ≤ k12_0 ∧ k12_0 ≤ 100) (h_k12_1 : 2 ≤ k12_1 ∧ k12_1 ≤ 158) (h_k12_2 : 2 ≤ k12_2 ∧ k12_2 ≤ 232) (h_k12_3 : 3 ≤ k12_3 ∧ k12_3 ≤ 281) (h_k12_4 : 3 ≤ k12_4 ∧ k12_4 ≤ 346) (h_k12_5 : 4 ≤ k12_5 ∧ k12_5 ≤ 370) (h_o4 : 1 ≤ o4 ∧ o4 ≤ 100) (h_r7 : (-20) ≤ r7 ∧ r7 ≤ 20) (h_r8 : (-10) ≤ r8 ∧ r8 ≤ 10) (g_0 : 0 ≤ r7) (g_1 : r7 ≤ 0) (g_2 : r8 < 0) (g_3 : -(((108917793695 * r7 + 159561683699 * r8) / 68719476736) * o4) + (r7 * k12_1) + (r8 * k12_2) - 1 < 0) (g_4 : -(((108917793695 * r7 + 159561683699 * r8) / 68719476736) * o4) + (r7 * k12_1) + (r8 * k12_2) < 0) : jT xs (d + 2) 161 15 0 [(0, (4, 0)), (1, (0, r7)), (2, (0, r8)), (3, (4, 1)), (4, (0, o4))] [] [jzQ_16, jgh, (8, [(4, 13), (4, 14)], []), jgh, jgh, jgh, jgh, jgh, jgh, (101, [], [u11_0, u11_1, u11_2, u11_3, u11_4, u11_5]), (101, [], [k12_0, k12_1, k12_2, k12_3, k12_4, k12_5]), jgh, jgh, jgh, jgh] 0 0 (fun k v hsN => k = 0 ∧ v = (0, 0) ∧ hsN = [jzQ_16, jgh, (8, [(4, 13), (4, 14)], []), jgh, jgh, jgh, jgh, jgh, jgh, (101, [], [0, r7, r8, 0, 0, 0]), (101, [], [k12_0, k12_1, k12_2, k12_3, k12_4, k12_5]), jgh, jgh, jgh, jgh]) := by
  refine jT_xiload_n (v := (0, r7)) (pcN := 1) jIQ_161_0 rfl rfl rfl ?_
  refine jT_ifF (a := r7) (t := 10) (by rfl) (by rfl) (by rfl) (jw_idd (by omega) (by omega)) (by simp only [jcP] <;> omega) ?_
  refine jT_xiload_n (v := (0, r8)) (pcN := 5) jIQ_161_4 rfl rfl rfl ?_
  refine jT_ifT (a := r8) (t := 10) (by rfl) (by rfl) (by rfl) (jw_idd (by omega) (by omega)) (by simp only [jcP] <;> omega) ?_
  refine jT_xiconst (k := 0) (pcN := 11) jIQ_161_10 rfl ?_
  refine jT_xistore (v := (0, 0)) (LN := [(5, (0, 0)), (0, (4, 0)), (1, (0, r7)), (2, (0, r8)), (3, (4, 1)), (4, (0, o4))]) (pcN := 13) jIQ_161_11 rfl rfl rfl rfl ?_
  refine jT_xiload (v := (0, 0)) (pcN := 15) jIQ_161_13 rfl rfl rfl ?_
  refine jT_xbipush (k := 6) (pcN := 17) jIQ_161_15 (by decide) rfl ?_
  refine jT_xicF (t := 56) (pcN := 20) jIQ_161_17 rfl (by decide +kernel) rfl rfl ?_
  refine jT_xaload_n (v := (4, 0)) (pcN := 21) jIQ_161_20 rfl rfl rfl ?_
  refine jT_xgetf (a := 0) (t := 1) (ci := 13) (fi := 7) (c := jzQ_16) (v := (4, 9)) (pcN := 24) jIQ_161_21 rfl rfl rfl rfl rfl rfl rfl ?_
  refine jT_xiload (v := (0, 0)) (pcN := 26) jIQ_161_24 rfl rfl rfl ?_
  refine jT_xiload (v := (0, 0)) (pcN := 28) jIQ_161_26 rfl rfl rfl ?_
  refine jT_xiconst (k := 1) (pcN := 29) jIQ_161_28 rfl ?_
  refine jT_xicT (pcN := 37) jIQ_161_29 rfl (by decide +kernel) rfl ?_
  refine jT_xiload (v := (0, 0)) (pcN := 39) jIQ_161_37 rfl rfl rfl ?_
  refine jT_xiconst (k := 2) (pcN := 40) jIQ_161_39 rfl ?_
  refine jT_xicT (pcN := 48) jIQ_161_40 rfl (by decide +kernel) rfl ?_
  refine jT_xlconst (z := 0) (pcN := 49) jIQ_161_48 rfl rfl ?_
  refine jT_adv 1 (pcN := 50) (LN := [(5, (0, 0)), (0, (4, 0)), (1, (0, r7)), (2, (0, r8)), (3, (4, 1)), (4, (0, o4))]) (stN := []) (hsN := [jzQ_16, jgh, (8, [(4, 13), (4, 14)], []), jgh, jgh, jgh, jgh, jgh, jgh, (101, [], [0, u11_1, u11_2, u11_3, u11_4, u11_5]), (101, [], [k12_0, k12_1, k12_2, k12_3, k12_4, k12_5]), jgh, jgh, jgh, jgh]) (c1 := 0) (s1 := 0) (c2 := 0) (s2 := 0) (by exact rfl) ?_ (by omega) (by omega)
  refine jT_xiinc (x := 0) (z := 1) (LN := [(5, (0, 1)), (0, (4, 0)), (1, (0, r7)), (2, (0, r8)), (3, (4, 1)), (4, (0, o4))]) (pcN := 53) jIQ_161_50 rfl rfl (by decide) rfl rfl ?_
  refine jT_xgoto (pcN := 13) jIQ_161_53 rfl ?_
  refine jT_xiload (v := (0, 1)) (pcN := 15) jIQ_161_13 rfl rfl rfl ?_
  refine jT_xbipush (k := 6) (pcN := 17) jIQ_161_15 (by decide) rfl ?_
  refine jT_xicF (t := 56) (pcN := 20) jIQ_161_17 rfl (by decide +kernel) rfl rfl ?_
  refine jT_xaload_n (v := (4, 0)) (pcN := 21) jIQ_161_20 rfl rfl rfl ?_
  refine jT_xgetf (a := 0) (t := 1) (ci := 13) (fi := 7) (c := jzQ_16) (v := (4, 9)) (pcN := 24) jIQ_161_21 rfl rfl rfl rfl rfl rfl rfl ?_
  refine jT_xiload (v := (0, 1)) (pcN := 26) jIQ_161_24 rfl rfl rfl ?_
  refine jT_xiload (v := (0, 1)) (pcN := 28) jIQ_161_26 rfl rfl rfl ?_
  refine jT_xiconst (k := 1) (pcN := 29) jIQ_161_28 rfl ?_
  refine jT_xicF (t := 37) (pcN := 32) jIQ_161_29 rfl (by decide +kernel) rfl rfl ?_
  refine jT_xiload_n (v := (0, r7)) (pcN := 33) jIQ_161_32 rfl rfl rfl ?_
  refine jT_xi2l (x := r7) (z := r7) (pcN := 34) jIQ_161_33 rfl (jw_idd (by omega) (by omega)) rfl ?_
  refine jT_xgoto (pcN := 49) jIQ_161_34 rfl ?_
  refine jT_adv 1 (pcN := 50) (LN := [(5, (0, 1)), (0, (4, 0)), (1, (0, r7)), (2, (0, r8)), (3, (4, 1)), (4, (0, o4))]) (stN := []) (hsN := [jzQ_16, jgh, (8, [(4, 13), (4, 14)], []), jgh, jgh, jgh, jgh, jgh, jgh, (101, [], [0, r7, u11_2, u11_3, u11_4, u11_5]), (101, [], [k12_0, k12_1, k12_2, k12_3, k12_4, k12_5]), jgh, jgh, jgh, jgh]) (c1 := 0) (s1 := 0) (c2 := 0) (s2 := 0) (by exact rfl) ?_ (by omega) (by omega)
  refine jT_xiinc (x := 1) (z := 2) (LN := [(5, (0, 2)), (0, (4, 0)), (1, (0, r7)), (2, (0, r8)), (3, (4, 1)), (4, (0, o4))]) (pcN := 53) jIQ_161_50 rfl rfl (by decide) rfl rfl ?_
  refine jT_xgoto (pcN := 13) jIQ_161_53 rfl ?_
  refine jT_xiload (v := (0, 2)) (pcN := 15) jIQ_161_13 rfl rfl rfl ?_
  refine jT_xbipush (k := 6) (pcN := 17) jIQ_161_15 (by decide) rfl ?_
  refine jT_xicF (t := 56) (pcN := 20) jIQ_161_17 rfl (by decide +kernel) rfl rfl ?_
  refine jT_xaload_n (v := (4, 0)) (pcN := 21) jIQ_161_20 rfl rfl rfl ?_
  refine jT_xgetf (a := 0) (t := 1) (ci := 13) (fi := 7) (c := jzQ_16) (v := (4, 9)) (pcN := 24) jIQ_161_21 rfl rfl rfl rfl rfl rfl rfl ?_
  refine jT_xiload (v := (0, 2)) (pcN := 26) jIQ_161_24 rfl rfl rfl ?_
  refine jT_xiload (v := (0, 2)) (pcN := 28) jIQ_161_26 rfl rfl rfl ?_
  refine jT_xiconst (k := 1) (pcN := 29) jIQ_161_28 rfl ?_
  refine jT_xicT (pcN := 37) jIQ_161_29 rfl (by decide +kernel) rfl ?_
  refine jT_xiload (v := (0, 2)) (pcN := 39) jIQ_161_37 rfl rfl rfl ?_
  refine jT_xiconst (k := 2) (pcN := 40) jIQ_161_39 rfl ?_
  refine jT_xicF (t := 48) (pcN := 43) jIQ_161_40 rfl (by decide +kernel) rfl rfl ?_
  refine jT_xiload_n (v := (0, r8)) (pcN := 44) jIQ_161_43 rfl rfl rfl ?_
  refine jT_xi2l (x := r8) (z := r8) (pcN := 45) jIQ_161_44 rfl (jw_idd (by omega) (by omega)) rfl ?_
  refine jT_xgoto (pcN := 49) jIQ_161_45 rfl ?_
  refine jT_adv 1 (pcN := 50) (LN := [(5, (0, 2)), (0, (4, 0)), (1, (0, r7)), (2, (0, r8)), (3, (4, 1)), (4, (0, o4))]) (stN := []) (hsN := [jzQ_16, jgh, (8, [(4, 13), (4, 14)], []), jgh, jgh, jgh, jgh, jgh, jgh, (101, [], [0, r7, r8, u11_3, u11_4, u11_5]), (101, [], [k12_0, k12_1, k12_2, k12_3, k12_4, k12_5]), jgh, jgh, jgh, jgh]) (c1 := 0) (s1 := 0) (c2 := 0) (s2 := 0) (by exact rfl) ?_ (by omega) (by omega)
  refine jT_xiinc (x := 2) (z := 3) (LN := [(5, (0, 3)), (0, (4, 0)), (1, (0, r7)), (2, (0, r8)), (3, (4, 1)), (4, (0, o4))]) (pcN := 53) jIQ_161_50 rfl rfl (by decide) rfl rfl ?_
  refine jT_xgoto (pcN := 13) jIQ_161_53 rfl ?_
  refine jT_xiload (v := (0, 3)) (pcN := 15) jIQ_161_13 rfl rfl rfl ?_
  refine jT_xbipush (k := 6) (pcN := 17) jIQ_161_15 (by decide) rfl ?_
  refine jT_xicF (t := 56) (pcN := 20) jIQ_161_17 rfl (by decide +kernel) rfl rfl ?_
  refine jT_xaload_n (v := (4, 0)) (pcN := 21) jIQ_161_20 rfl rfl rfl ?_
  refine jT_xgetf (a := 0) (t := 1) (ci := 13) (fi := 7) (c := jzQ_16) (v := (4, 9)) (pcN := 24) jIQ_161_21 rfl rfl rfl rfl rfl rfl rfl ?_
  refine jT_xiload (v := (0, 3)) (pcN := 26) jIQ_161_24 rfl rfl rfl ?_
  refine jT_xiload (v := (0, 3)) (pcN := 28) jIQ_161_26 rfl rfl rfl ?_
  refine jT_xiconst (k := 1) (pcN := 29) jIQ_161_28 rfl ?_
  refine jT_xicT (pcN := 37) jIQ_161_29 rfl (by decide +kernel) rfl ?_
  refine jT_xiload (v := (0, 3)) (pcN := 39) jIQ_161_37 rfl rfl rfl ?_
  refine jT_xiconst (k := 2) (pcN := 40) jIQ_161_39 rfl ?_
  refine jT_xicT (pcN := 48) jIQ_161_40 rfl (by decide +kernel) rfl ?_
  refine jT_xlconst (z := 0) (pcN := 49) jIQ_161_48 rfl rfl ?_
  refine jT_adv 1 (pcN := 50) (LN := [(5, (0, 3)), (0, (4, 0)), (1, (0, r7)), (2, (0, r8)), (3, (4, 1)), (4, (0, o4))]) (stN := []) (hsN := [jzQ_16, jgh, (8, [(4, 13), (4, 14)], []), jgh, jgh, jgh, jgh, jgh, jgh, (101, [], [0, r7, r8, 0, u11_4, u11_5]), (101, [], [k12_0, k12_1, k12_2, k12_3, k12_4, k12_5]), jgh, jgh, jgh, jgh]) (c1 := 0) (s1 := 0) (c2 := 0) (s2 := 0) (by exact rfl) ?_ (by omega) (by omega)
  refine jT_xiinc (x := 3) (z := 4) (LN := [(5, (0, 4)), (0, (4, 0)), (1, (0, r7)), (2, (0, r8)), (3, (4, 1)), (4, (0, o4))]) (pcN := 53) jIQ_161_50 rfl rfl (by decide) rfl rfl ?_
  refine jT_xgoto (pcN := 13) jIQ_161_53 rfl ?_
  refine jT_xiload (v := (0, 4)) (pcN := 15) jIQ_161_13 rfl rfl rfl ?_
  refine jT_xbipush (k := 6) (pcN := 17) jIQ_161_15 (by decide) rfl ?_
  refine jT_xicF (t := 56) (pcN := 20) jIQ_161_17 rfl (by decide +kernel) rfl rfl ?_
  refine jT_xaload_n (v := (4, 0)) (pcN := 21) jIQ_161_20 rfl rfl rfl ?_
  refine jT_xgetf (a := 0) (t := 1) (ci := 13) (fi := 7) (c := jzQ_16) (v := (4, 9)) (pcN := 24) jIQ_161_21 rfl rfl rfl rfl rfl rfl rfl ?_
  refine jT_xiload (v := (0, 4)) (pcN := 26) jIQ_161_24 rfl rfl rfl ?_
  refine jT_xiload (v := (0, 4)) (pcN := 28) jIQ_161_26 rfl rfl rfl ?_
  refine jT_xiconst (k := 1) (pcN := 29) jIQ_161_28 rfl ?_
  refine jT_xicT (pcN := 37) jIQ_161_29 rfl (by decide +kernel) rfl ?_
  refine jT_xiload (v := (0, 4)) (pcN := 39) jIQ_161_37 rfl rfl rfl ?_
  refine jT_xiconst (k := 2) (pcN := 40) jIQ_161_39 rfl ?_
  refine jT_xicT (pcN := 48) jIQ_161_40 rfl (by decide +kernel) rfl ?_
  refine jT_xlconst (z := 0) (pcN := 49) jIQ_161_48 rfl rfl ?_
  refine jT_adv 1 (pcN := 50) (LN := [(5, (0, 4)), (0, (4, 0)), (1, (0, r7)), (2, (0, r8)), (3, (4, 1)), (4, (0, o4))]) (stN := []) (hsN := [jzQ_16, jgh, (8, [(4, 13), (4, 14)], []), jgh, jgh, jgh, jgh, jgh, jgh, (101, [], [0, r7, r8, 0, 0, u11_5]), (101, [], [k12_0, k12_1, k12_2, k12_3, k12_4, k12_5]), jgh, jgh, jgh, jgh]) (c1 := 0) (s1 := 0) (c2 := 0) (s2 := 0) (by exact rfl) ?_ (by omega) (by omega)
  refine jT_xiinc (x := 4) (z := 5) (LN := [(5, (0, 5)), (0, (4, 0)), (1, (0, r7)), (2, (0, r8)), (3, (4, 1)), (4, (0, o4))]) (pcN := 53) jIQ_161_50 rfl rfl (by decide) rfl rfl ?_
  refine jT_xgoto (pcN := 13) jIQ_161_53 rfl ?_
  refine jT_xiload (v := (0, 5)) (pcN := 15) jIQ_161_13 rfl rfl rfl ?_
  refine jT_xbipush (k := 6) (pcN := 17) jIQ_161_15 (by decide) rfl ?_
  refine jT_xicF (t := 56) (pcN := 20) jIQ_161_17 rfl (by decide +kernel) rfl rfl ?_
  refine jT_xaload_n (v := (4, 0)) (pcN := 21) jIQ_161_20 rfl rfl rfl ?_
  refine jT_xgetf (a := 0) (t := 1) (ci := 13) (fi := 7) (c := jzQ_16) (v := (4, 9)) (pcN := 24) jIQ_161_21 rfl rfl rfl rfl rfl rfl rfl ?_
  refine jT_xiload (v := (0, 5)) (pcN := 26) jIQ_161_24 rfl rfl rfl ?_
  refine jT_xiload (v := (0, 5)) (pcN := 28) jIQ_161_26 rfl rfl rfl ?_
  refine jT_xiconst (k := 1) (pcN := 29) jIQ_161_28 rfl ?_
  refine jT_xicT (pcN := 37) jIQ_161_29 rfl (by decide +kernel) rfl ?_
  refine jT_xiload (v := (0, 5)) (pcN := 39) jIQ_161_37 rfl rfl rfl ?_
  refine jT_xiconst (k := 2) (pcN := 40) jIQ_161_39 rfl ?_
  refine jT_xicT (pcN := 48) jIQ_161_40 rfl (by decide +kernel) rfl ?_
  refine jT_xlconst (z := 0) (pcN := 49) jIQ_161_48 rfl rfl ?_
  refine jT_adv 1 (pcN := 50) (LN := [(5, (0, 5)), (0, (4, 0)), (1, (0, r7)), (2, (0, r8)), (3, (4, 1)), (4, (0, o4))]) (stN := []) (hsN := [jzQ_16, jgh, (8, [(4, 13), (4, 14)], []), jgh, jgh, jgh, jgh, jgh, jgh, (101, [], [0, r7, r8, 0, 0, 0]), (101, [], [k12_0, k12_1, k12_2, k12_3, k12_4, k12_5]), jgh, jgh, jgh, jgh]) (c1 := 0) (s1 := 0) (c2 := 0) (s2 := 0) (by exact rfl) ?_ (by omega) (by omega)
  refine jT_xiinc (x := 5) (z := 6) (LN := [(5, (0, 6)), (0, (4, 0)), (1, (0, r7)), (2, (0, r8)), (3, (4, 1)), (4, (0, o4))]) (pcN := 53) jIQ_161_50 rfl rfl (by decide) rfl rfl ?_
  refine jT_xgoto (pcN := 13) jIQ_161_53 rfl ?_
  refine jT_xiload (v := (0, 6)) (pcN := 15) jIQ_161_13 rfl rfl rfl ?_
  refine jT_xbipush (k := 6) (pcN := 17) jIQ_161_15 (by decide) rfl ?_
  refine jT_xicT (pcN := 56) jIQ_161_17 rfl (by decide +kernel) rfl ?_
  refine jT_xaload_n (v := (4, 0)) (pcN := 57) jIQ_161_56 rfl rfl rfl ?_
  refine jT_xgetf (a := 0) (t := 1) (ci := 13) (fi := 0) (c := jzQ_16) (v := (4, 2)) (pcN := 60) jIQ_161_57 rfl rfl rfl rfl rfl rfl rfl ?_
  refine jT_xaload_n (v := (4, 0)) (pcN := 61) jIQ_161_60 rfl rfl rfl ?_
  refine jT_xgetf (a := 0) (t := 1) (ci := 13) (fi := 7) (c := jzQ_16) (v := (4, 9)) (pcN := 64) jIQ_161_61 rfl rfl rfl rfl rfl rfl rfl ?_
  refine jT_xlconst (z := 1) (pcN := 65) jIQ_161_64 rfl rfl ?_
  refine jT_xlconst (z := 1) (pcN := 66) jIQ_161_65 rfl rfl ?_
  refine jT_callA [2, 9, 13, 14] (y := 45) (pcN := 69) (dC := 1) (bc1 := 0) (bc2 := 0) (c1 := 0) (c2 := 0) (as := [(4, 2), (4, 9), (1, 1), (1, 1)]) (asC := [(4, 0), (4, 1), (1, 1), (1, 1)]) (LN := [(5, (0, 6)), (0, (4, 0)), (1, (0, r7)), (2, (0, r8)), (3, (4, 1)), (4, (0, o4))]) (stN := []) (hsC := [(8, [(4, 2), (4, 3)], []), (101, [], [0, r7, r8, 0, 0, 0]), jgh, jgh]) (ex := []) (v := (1, (108917793695 * r7 + 159561683699 * r8) / 68719476736)) (st2 := [(1, (108917793695 * r7 + 159561683699 * r8) / 68719476736)]) (hs2 := [jzQ_16, jgh, (8, [(4, 13), (4, 14)], []), jgh, jgh, jgh, jgh, jgh, jgh, (101, [], [0, r7, r8, 0, 0, 0]), (101, [], [k12_0, k12_1, k12_2, k12_3, k12_4, k12_5]), jgh, jgh, jgh, jgh]) (jQl_sp45_116 (d := 0) (by omega) (by omega)) (by rfl) (by rfl) (by rfl) (by rfl) ⟨rfl, rfl, rfl, rfl, trivial⟩ (by rfl) (by rfl) (by omega) (by show 15 ≤ 15; omega) (by omega) (by omega) rfl rfl ?_
  have hb_q1 : (-60) ≤ (108917793695 * r7 + 159561683699 * r8) / 68719476736 ∧ (108917793695 * r7 + 159561683699 * r8) / 68719476736 ≤ 60 := ⟨by omega, by omega⟩
  generalize hq_q1 : (108917793695 * r7 + 159561683699 * r8) / 68719476736 = q1 at hb_q1 g_3 g_4 ⊢
  refine jT_xlstore (v := (1, q1)) (LN := [(5, (1, q1)), (0, (4, 0)), (1, (0, r7)), (2, (0, r8)), (3, (4, 1)), (4, (0, o4))]) (pcN := 71) jIQ_161_69 rfl rfl rfl rfl ?_
  have g_5 : 0 ≤ (-68719476736) * q1 + 108917793694 * r7 + 159561683698 * r8 - 1 := by have := jcg (b := r7) (c := r8) (by omega) (by omega) (by omega); rw [hq_q1] at this; omega
  have g_6 : 0 ≤ (-68719476736) * q1 + 108917793694 * r7 + 159561683700 * r8 - 1 := by have := jcg (b := r7) (c := r8) (by omega) (by omega) (by omega); rw [hq_q1] at this; omega
  have g_7 : 0 ≤ (-68719476736) * q1 + 108917793696 * r7 + 159561683698 * r8 - 1 := by have := jcg (b := r7) (c := r8) (by omega) (by omega) (by omega); rw [hq_q1] at this; omega
  have g_8 : 0 ≤ (-68719476736) * q1 + 108917793696 * r7 + 159561683700 * r8 - 1 := by have := jcg (b := r7) (c := r8) (by omega) (by omega) (by omega); rw [hq_q1] at this; omega
  refine jT_xiload (v := (0, o4)) (pcN := 73) jIQ_161_71 rfl rfl rfl ?_
  refine jT_ifF (a := o4) (t := 107) (by rfl) (by rfl) (by rfl) (jw_idd (by omega) (by omega)) (by simp only [jcP] <;> omega) ?_
  refine jT_xiload_n (v := (0, r7)) (pcN := 77) jIQ_161_76 rfl rfl rfl ?_
  refine jT_xi2l (x := r7) (z := r7) (pcN := 78) jIQ_161_77 rfl (jw_idd (by omega) (by omega)) rfl ?_
  refine jT_xaload_n (v := (4, 0)) (pcN := 79) jIQ_161_78 rfl rfl rfl ?_
  refine jT_xgetf (a := 0) (t := 1) (ci := 13) (fi := 8) (c := jzQ_16) (v := (4, 10)) (pcN := 82) jIQ_161_79 rfl rfl rfl rfl rfl rfl rfl ?_
  refine jT_xiconst (k := 1) (pcN := 83) jIQ_161_82 rfl ?_
  refine jT_lald (x := k12_1) (a := 10) (j := 1) (fs := []) (X := [k12_0, k12_1, k12_2, k12_3, k12_4, k12_5]) jIQ_161_83 rfl rfl rfl rfl ?_
  refine jT_eq (LN := [(5, (1, q1)), (0, (4, 0)), (1, (0, r7)), (2, (0, r8)), (3, (4, 1)), (4, (0, o4))]) (stN := [(1, k12_1), (1, r7)]) (hsN := [jzQ_16, jgh, (8, [(4, 13), (4, 14)], []), jgh, jgh, jgh, jgh, jgh, jgh, (101, [], [0, r7, r8, 0, 0, 0]), (101, [], [k12_0, k12_1, k12_2, k12_3, k12_4, k12_5]), jgh, jgh, jgh, jgh]) rfl rfl rfl ?_
  refine jT_xlmul (x := r7) (y := k12_1) (z := r7 * k12_1) (pcN := 85) jIQ_161_84 rfl rfl rfl ?_
  have hb_q2 := jmul_b (x := r7) (y := k12_1) (m := 20) (n := 158) (by omega) (by omega) (by omega) (by omega)
  have hb_q2 : 0 ≤ r7 * k12_1 ∧ r7 * k12_1 ≤ 3160 := ⟨hb_q2.1, by omega⟩
  generalize hq_q2 : r7 * k12_1 = q2 at hb_q2 g_3 g_4 ⊢
  refine jT_xiload_n (v := (0, r8)) (pcN := 86) jIQ_161_85 rfl rfl rfl ?_
  refine jT_xi2l (x := r8) (z := r8) (pcN := 87) jIQ_161_86 rfl (jw_idd (by omega) (by omega)) rfl ?_
  refine jT_xaload_n (v := (4, 0)) (pcN := 88) jIQ_161_87 rfl rfl rfl ?_
  refine jT_xgetf (a := 0) (t := 1) (ci := 13) (fi := 8) (c := jzQ_16) (v := (4, 10)) (pcN := 91) jIQ_161_88 rfl rfl rfl rfl rfl rfl rfl ?_
  refine jT_xiconst (k := 2) (pcN := 92) jIQ_161_91 rfl ?_
  refine jT_lald (x := k12_2) (a := 10) (j := 2) (fs := []) (X := [k12_0, k12_1, k12_2, k12_3, k12_4, k12_5]) jIQ_161_92 rfl rfl rfl rfl ?_
  refine jT_eq (LN := [(5, (1, q1)), (0, (4, 0)), (1, (0, r7)), (2, (0, r8)), (3, (4, 1)), (4, (0, o4))]) (stN := [(1, k12_2), (1, r8), (1, q2)]) (hsN := [jzQ_16, jgh, (8, [(4, 13), (4, 14)], []), jgh, jgh, jgh, jgh, jgh, jgh, (101, [], [0, r7, r8, 0, 0, 0]), (101, [], [k12_0, k12_1, k12_2, k12_3, k12_4, k12_5]), jgh, jgh, jgh, jgh]) rfl rfl rfl ?_
  refine jT_xlmul (x := r8) (y := k12_2) (z := r8 * k12_2) (pcN := 94) jIQ_161_93 rfl rfl rfl ?_
  have hb_q3 := jmul_bs (x := r8) (y := k12_2) (m := 10) (n := 232) (by omega) (by omega) (by omega) (by omega)
  have hb_q3 : (-2320) ≤ r8 * k12_2 ∧ r8 * k12_2 ≤ 2320 := ⟨by omega, by omega⟩
  generalize hq_q3 : r8 * k12_2 = q3 at hb_q3 g_3 g_4 ⊢
  refine jT_xladd (x := q2) (y := q3) (z := q2 + q3) (pcN := 95) jIQ_161_94 rfl (rfl) rfl ?_
  refine jT_xlload (v := (1, q1)) (pcN := 97) jIQ_161_95 rfl rfl rfl ?_
  refine jT_xiload (v := (0, o4)) (pcN := 99) jIQ_161_97 rfl rfl rfl ?_
  refine jT_xi2l (x := o4) (z := o4) (pcN := 100) jIQ_161_99 rfl (jw_idd (by omega) (by omega)) rfl ?_
  refine jT_xlmul (x := q1) (y := o4) (z := q1 * o4) (pcN := 101) jIQ_161_100 rfl rfl rfl ?_
  have hb_q4 := jmul_bs (x := q1) (y := o4) (m := 60) (n := 100) (by omega) (by omega) (by omega) (by omega)
  have hb_q4 : (-6000) ≤ q1 * o4 ∧ q1 * o4 ≤ 6000 := ⟨by omega, by omega⟩
  generalize hq_q4 : q1 * o4 = q4 at hb_q4 g_3 g_4 ⊢
  refine jT_lcmp (a := q2 + q3) (b := q4) (z := (-1)) (by rfl) (by rfl) (jwl_idd (by omega) (by omega)) (jwl_idd (by omega) (by omega)) (by rw [decide_eq_false (show ¬ ((q4 : Int) < q2 + q3) by omega), decide_eq_false (show ¬ ((q2 + q3 : Int) = q4) by omega)]; rfl) ?_
  refine jT_xifF (t := 107) (pcN := 105) jIQ_161_102 rfl (by decide +kernel) rfl rfl ?_
  refine jT_xiconst (k := 0) (pcN := 106) jIQ_161_105 rfl ?_
  subst hq_q4
  subst hq_q3
  subst hq_q2
  subst hq_q1
  exact jT_ret rfl (by decide) (by show 15 ≤ 15; omega) (by omega) (by omega) ⟨rfl, rfl, rfl⟩
theorem jQ_161_331 {xs : List Int} {d : Nat} {k12_0 k12_1 k12_2 k12_3 k12_4 k12_5 o4 r7 r8 u11_0 u11_1 u11_2 u11_3 u11_4 u11_5 : Int} (h_k12_0 : 1 ≤ k12_0 ∧ k12_0 ≤ 100) (h_k12_1 : 2 ≤ k12_1 ∧ k12_1 ≤ 158) (h_k12_2 : 2 ≤ k12_2 ∧ k12_2 ≤ 232) (h_k12_3 : 3 ≤ k12_3 ∧ k12_3 ≤ 281) (h_k12_4 : 3 ≤ k12_4 ∧ k12_4 ≤ 346) (h_k12_5 : 4 ≤ k12_5 ∧ k12_5 ≤ 370) (h_o4 : 1 ≤ o4 ∧ o4 ≤ 100) (h_r7 : (-20) ≤ r7 ∧ r7 ≤ 20) (h_r8 : (-10) ≤ r8 ∧ r8 ≤ 10) (g_0 : 0 ≤ r7) (g_1 : r7 ≤ 0) (g_2 : r8 < 0) (g_3 : -(((108917793695 * r7 + 159561683699 * r8) / 68719476736) * o4) + (r7 * k12_1) + (r8 * k12_2) - 1 < 0) (g_4 : 0 ≤ -(((108917793695 * r7 + 159561683699 * r8) / 68719476736) * o4) + (r7 * k12_1) + (r8 * k12_2)) : jT xs (d + 2) 161 16 0 [(0, (4, 0)), (1, (0, r7)), (2, (0, r8)), (3, (4, 1)), (4, (0, o4))] [] [jzQ_16, (4, [(4, 13), (1, 1)], []), (8, [(4, 14), (4, 15)], []), jgh, jgh, jgh, jgh, jgh, jgh, (101, [], [u11_0, u11_1, u11_2, u11_3, u11_4, u11_5]), (101, [], [k12_0, k12_1, k12_2, k12_3, k12_4, k12_5]), jgh, jgh, (101, [], [0, 0, 0, 0, 0, 0]), jgh, jgh] 0 0 (fun k v hsN => k = 0 ∧ v = (0, 0) ∧ hsN = [jzQ_16, (4, [(4, 13), (1, 1)], []), (8, [(4, 14), (4, 15)], []), jgh, jgh, jgh, jgh, jgh, jgh, (101, [], [(108917793695 * r7 + 159561683699 * r8) / 68719476736, -r7, -r8, 0, 0, 0]), (101, [], [k12_0, k12_1, k12_2, k12_3, k12_4, k12_5]), jgh, jgh, (101, [], [0, 0, 0, 0, 0, 0]), jgh, jgh]) := by
  refine jT_xiload_n (v := (0, r7)) (pcN := 1) jIQ_161_0 rfl rfl rfl ?_
  refine jT_ifF (a := r7) (t := 10) (by rfl) (by rfl) (by rfl) (jw_idd (by omega) (by omega)) (by simp only [jcP] <;> omega) ?_
  refine jT_xiload_n (v := (0, r8)) (pcN := 5) jIQ_161_4 rfl rfl rfl ?_
  refine jT_ifT (a := r8) (t := 10) (by rfl) (by rfl) (by rfl) (jw_idd (by omega) (by omega)) (by simp only [jcP] <;> omega) ?_
  refine jT_xiconst (k := 0) (pcN := 11) jIQ_161_10 rfl ?_
  refine jT_xistore (v := (0, 0)) (LN := [(5, (0, 0)), (0, (4, 0)), (1, (0, r7)), (2, (0, r8)), (3, (4, 1)), (4, (0, o4))]) (pcN := 13) jIQ_161_11 rfl rfl rfl rfl ?_
  refine jT_xiload (v := (0, 0)) (pcN := 15) jIQ_161_13 rfl rfl rfl ?_
  refine jT_xbipush (k := 6) (pcN := 17) jIQ_161_15 (by decide) rfl ?_
  refine jT_xicF (t := 56) (pcN := 20) jIQ_161_17 rfl (by decide +kernel) rfl rfl ?_
  refine jT_xaload_n (v := (4, 0)) (pcN := 21) jIQ_161_20 rfl rfl rfl ?_
  refine jT_xgetf (a := 0) (t := 1) (ci := 13) (fi := 7) (c := jzQ_16) (v := (4, 9)) (pcN := 24) jIQ_161_21 rfl rfl rfl rfl rfl rfl rfl ?_
  refine jT_xiload (v := (0, 0)) (pcN := 26) jIQ_161_24 rfl rfl rfl ?_
  refine jT_xiload (v := (0, 0)) (pcN := 28) jIQ_161_26 rfl rfl rfl ?_
  refine jT_xiconst (k := 1) (pcN := 29) jIQ_161_28 rfl ?_
  refine jT_xicT (pcN := 37) jIQ_161_29 rfl (by decide +kernel) rfl ?_
  refine jT_xiload (v := (0, 0)) (pcN := 39) jIQ_161_37 rfl rfl rfl ?_
  refine jT_xiconst (k := 2) (pcN := 40) jIQ_161_39 rfl ?_
  refine jT_xicT (pcN := 48) jIQ_161_40 rfl (by decide +kernel) rfl ?_
  refine jT_xlconst (z := 0) (pcN := 49) jIQ_161_48 rfl rfl ?_
  refine jT_adv 1 (pcN := 50) (LN := [(5, (0, 0)), (0, (4, 0)), (1, (0, r7)), (2, (0, r8)), (3, (4, 1)), (4, (0, o4))]) (stN := []) (hsN := [jzQ_16, (4, [(4, 13), (1, 1)], []), (8, [(4, 14), (4, 15)], []), jgh, jgh, jgh, jgh, jgh, jgh, (101, [], [0, u11_1, u11_2, u11_3, u11_4, u11_5]), (101, [], [k12_0, k12_1, k12_2, k12_3, k12_4, k12_5]), jgh, jgh, (101, [], [0, 0, 0, 0, 0, 0]), jgh, jgh]) (c1 := 0) (s1 := 0) (c2 := 0) (s2 := 0) (by exact rfl) ?_ (by omega) (by omega)
  refine jT_xiinc (x := 0) (z := 1) (LN := [(5, (0, 1)), (0, (4, 0)), (1, (0, r7)), (2, (0, r8)), (3, (4, 1)), (4, (0, o4))]) (pcN := 53) jIQ_161_50 rfl rfl (by decide) rfl rfl ?_
  refine jT_xgoto (pcN := 13) jIQ_161_53 rfl ?_
  refine jT_xiload (v := (0, 1)) (pcN := 15) jIQ_161_13 rfl rfl rfl ?_
  refine jT_xbipush (k := 6) (pcN := 17) jIQ_161_15 (by decide) rfl ?_
  refine jT_xicF (t := 56) (pcN := 20) jIQ_161_17 rfl (by decide +kernel) rfl rfl ?_
  refine jT_xaload_n (v := (4, 0)) (pcN := 21) jIQ_161_20 rfl rfl rfl ?_
  refine jT_xgetf (a := 0) (t := 1) (ci := 13) (fi := 7) (c := jzQ_16) (v := (4, 9)) (pcN := 24) jIQ_161_21 rfl rfl rfl rfl rfl rfl rfl ?_
  refine jT_xiload (v := (0, 1)) (pcN := 26) jIQ_161_24 rfl rfl rfl ?_
  refine jT_xiload (v := (0, 1)) (pcN := 28) jIQ_161_26 rfl rfl rfl ?_
  refine jT_xiconst (k := 1) (pcN := 29) jIQ_161_28 rfl ?_
  refine jT_xicF (t := 37) (pcN := 32) jIQ_161_29 rfl (by decide +kernel) rfl rfl ?_
  refine jT_xiload_n (v := (0, r7)) (pcN := 33) jIQ_161_32 rfl rfl rfl ?_
  refine jT_xi2l (x := r7) (z := r7) (pcN := 34) jIQ_161_33 rfl (jw_idd (by omega) (by omega)) rfl ?_
  refine jT_xgoto (pcN := 49) jIQ_161_34 rfl ?_
  refine jT_adv 1 (pcN := 50) (LN := [(5, (0, 1)), (0, (4, 0)), (1, (0, r7)), (2, (0, r8)), (3, (4, 1)), (4, (0, o4))]) (stN := []) (hsN := [jzQ_16, (4, [(4, 13), (1, 1)], []), (8, [(4, 14), (4, 15)], []), jgh, jgh, jgh, jgh, jgh, jgh, (101, [], [0, r7, u11_2, u11_3, u11_4, u11_5]), (101, [], [k12_0, k12_1, k12_2, k12_3, k12_4, k12_5]), jgh, jgh, (101, [], [0, 0, 0, 0, 0, 0]), jgh, jgh]) (c1 := 0) (s1 := 0) (c2 := 0) (s2 := 0) (by exact rfl) ?_ (by omega) (by omega)
  refine jT_xiinc (x := 1) (z := 2) (LN := [(5, (0, 2)), (0, (4, 0)), (1, (0, r7)), (2, (0, r8)), (3, (4, 1)), (4, (0, o4))]) (pcN := 53) jIQ_161_50 rfl rfl (by decide) rfl rfl ?_
  refine jT_xgoto (pcN := 13) jIQ_161_53 rfl ?_
  refine jT_xiload (v := (0, 2)) (pcN := 15) jIQ_161_13 rfl rfl rfl ?_
  refine jT_xbipush (k := 6) (pcN := 17) jIQ_161_15 (by decide) rfl ?_
  refine jT_xicF (t := 56) (pcN := 20) jIQ_161_17 rfl (by decide +kernel) rfl rfl ?_
  refine jT_xaload_n (v := (4, 0)) (pcN := 21) jIQ_161_20 rfl rfl rfl ?_
  refine jT_xgetf (a := 0) (t := 1) (ci := 13) (fi := 7) (c := jzQ_16) (v := (4, 9)) (pcN := 24) jIQ_161_21 rfl rfl rfl rfl rfl rfl rfl ?_
  refine jT_xiload (v := (0, 2)) (pcN := 26) jIQ_161_24 rfl rfl rfl ?_
  refine jT_xiload (v := (0, 2)) (pcN := 28) jIQ_161_26 rfl rfl rfl ?_
  refine jT_xiconst (k := 1) (pcN := 29) jIQ_161_28 rfl ?_
  refine jT_xicT (pcN := 37) jIQ_161_29 rfl (by decide +kernel) rfl ?_
  refine jT_xiload (v := (0, 2)) (pcN := 39) jIQ_161_37 rfl rfl rfl ?_
  refine jT_xiconst (k := 2) (pcN := 40) jIQ_161_39 rfl ?_
  refine jT_xicF (t := 48) (pcN := 43) jIQ_161_40 rfl (by decide +kernel) rfl rfl ?_
  refine jT_xiload_n (v := (0, r8)) (pcN := 44) jIQ_161_43 rfl rfl rfl ?_
  refine jT_xi2l (x := r8) (z := r8) (pcN := 45) jIQ_161_44 rfl (jw_idd (by omega) (by omega)) rfl ?_
  refine jT_xgoto (pcN := 49) jIQ_161_45 rfl ?_
  refine jT_adv 1 (pcN := 50) (LN := [(5, (0, 2)), (0, (4, 0)), (1, (0, r7)), (2, (0, r8)), (3, (4, 1)), (4, (0, o4))]) (stN := []) (hsN := [jzQ_16, (4, [(4, 13), (1, 1)], []), (8, [(4, 14), (4, 15)], []), jgh, jgh, jgh, jgh, jgh, jgh, (101, [], [0, r7, r8, u11_3, u11_4, u11_5]), (101, [], [k12_0, k12_1, k12_2, k12_3, k12_4, k12_5]), jgh, jgh, (101, [], [0, 0, 0, 0, 0, 0]), jgh, jgh]) (c1 := 0) (s1 := 0) (c2 := 0) (s2 := 0) (by exact rfl) ?_ (by omega) (by omega)
  refine jT_xiinc (x := 2) (z := 3) (LN := [(5, (0, 3)), (0, (4, 0)), (1, (0, r7)), (2, (0, r8)), (3, (4, 1)), (4, (0, o4))]) (pcN := 53) jIQ_161_50 rfl rfl (by decide) rfl rfl ?_
  refine jT_xgoto (pcN := 13) jIQ_161_53 rfl ?_
  refine jT_xiload (v := (0, 3)) (pcN := 15) jIQ_161_13 rfl rfl rfl ?_
  refine jT_xbipush (k := 6) (pcN := 17) jIQ_161_15 (by decide) rfl ?_
  refine jT_xicF (t := 56) (pcN := 20) jIQ_161_17 rfl (by decide +kernel) rfl rfl ?_
  refine jT_xaload_n (v := (4, 0)) (pcN := 21) jIQ_161_20 rfl rfl rfl ?_
  refine jT_xgetf (a := 0) (t := 1) (ci := 13) (fi := 7) (c := jzQ_16) (v := (4, 9)) (pcN := 24) jIQ_161_21 rfl rfl rfl rfl rfl rfl rfl ?_
  refine jT_xiload (v := (0, 3)) (pcN := 26) jIQ_161_24 rfl rfl rfl ?_
  refine jT_xiload (v := (0, 3)) (pcN := 28) jIQ_161_26 rfl rfl rfl ?_
  refine jT_xiconst (k := 1) (pcN := 29) jIQ_161_28 rfl ?_
  refine jT_xicT (pcN := 37) jIQ_161_29 rfl (by decide +kernel) rfl ?_
  refine jT_xiload (v := (0, 3)) (pcN := 39) jIQ_161_37 rfl rfl rfl ?_
  refine jT_xiconst (k := 2) (pcN := 40) jIQ_161_39 rfl ?_
  refine jT_xicT (pcN := 48) jIQ_161_40 rfl (by decide +kernel) rfl ?_
  refine jT_xlconst (z := 0) (pcN := 49) jIQ_161_48 rfl rfl ?_
  refine jT_adv 1 (pcN := 50) (LN := [(5, (0, 3)), (0, (4, 0)), (1, (0, r7)), (2, (0, r8)), (3, (4, 1)), (4, (0, o4))]) (stN := []) (hsN := [jzQ_16, (4, [(4, 13), (1, 1)], []), (8, [(4, 14), (4, 15)], []), jgh, jgh, jgh, jgh, jgh, jgh, (101, [], [0, r7, r8, 0, u11_4, u11_5]), (101, [], [k12_0, k12_1, k12_2, k12_3, k12_4, k12_5]), jgh, jgh, (101, [], [0, 0, 0, 0, 0, 0]), jgh, jgh]) (c1 := 0) (s1 := 0) (c2 := 0) (s2 := 0) (by exact rfl) ?_ (by omega) (by omega)
  refine jT_xiinc (x := 3) (z := 4) (LN := [(5, (0, 4)), (0, (4, 0)), (1, (0, r7)), (2, (0, r8)), (3, (4, 1)), (4, (0, o4))]) (pcN := 53) jIQ_161_50 rfl rfl (by decide) rfl rfl ?_
  refine jT_xgoto (pcN := 13) jIQ_161_53 rfl ?_
  refine jT_xiload (v := (0, 4)) (pcN := 15) jIQ_161_13 rfl rfl rfl ?_
  refine jT_xbipush (k := 6) (pcN := 17) jIQ_161_15 (by decide) rfl ?_
  refine jT_xicF (t := 56) (pcN := 20) jIQ_161_17 rfl (by decide +kernel) rfl rfl ?_
  refine jT_xaload_n (v := (4, 0)) (pcN := 21) jIQ_161_20 rfl rfl rfl ?_
  refine jT_xgetf (a := 0) (t := 1) (ci := 13) (fi := 7) (c := jzQ_16) (v := (4, 9)) (pcN := 24) jIQ_161_21 rfl rfl rfl rfl rfl rfl rfl ?_
  refine jT_xiload (v := (0, 4)) (pcN := 26) jIQ_161_24 rfl rfl rfl ?_
  refine jT_xiload (v := (0, 4)) (pcN := 28) jIQ_161_26 rfl rfl rfl ?_
  refine jT_xiconst (k := 1) (pcN := 29) jIQ_161_28 rfl ?_
  refine jT_xicT (pcN := 37) jIQ_161_29 rfl (by decide +kernel) rfl ?_
  refine jT_xiload (v := (0, 4)) (pcN := 39) jIQ_161_37 rfl rfl rfl ?_
  refine jT_xiconst (k := 2) (pcN := 40) jIQ_161_39 rfl ?_
  refine jT_xicT (pcN := 48) jIQ_161_40 rfl (by decide +kernel) rfl ?_
  refine jT_xlconst (z := 0) (pcN := 49) jIQ_161_48 rfl rfl ?_
  refine jT_adv 1 (pcN := 50) (LN := [(5, (0, 4)), (0, (4, 0)), (1, (0, r7)), (2, (0, r8)), (3, (4, 1)), (4, (0, o4))]) (stN := []) (hsN := [jzQ_16, (4, [(4, 13), (1, 1)], []), (8, [(4, 14), (4, 15)], []), jgh, jgh, jgh, jgh, jgh, jgh, (101, [], [0, r7, r8, 0, 0, u11_5]), (101, [], [k12_0, k12_1, k12_2, k12_3, k12_4, k12_5]), jgh, jgh, (101, [], [0, 0, 0, 0, 0, 0]), jgh, jgh]) (c1 := 0) (s1 := 0) (c2 := 0) (s2 := 0) (by exact rfl) ?_ (by omega) (by omega)
  refine jT_xiinc (x := 4) (z := 5) (LN := [(5, (0, 5)), (0, (4, 0)), (1, (0, r7)), (2, (0, r8)), (3, (4, 1)), (4, (0, o4))]) (pcN := 53) jIQ_161_50 rfl rfl (by decide) rfl rfl ?_
  refine jT_xgoto (pcN := 13) jIQ_161_53 rfl ?_
  refine jT_xiload (v := (0, 5)) (pcN := 15) jIQ_161_13 rfl rfl rfl ?_
  refine jT_xbipush (k := 6) (pcN := 17) jIQ_161_15 (by decide) rfl ?_
  refine jT_xicF (t := 56) (pcN := 20) jIQ_161_17 rfl (by decide +kernel) rfl rfl ?_
  refine jT_xaload_n (v := (4, 0)) (pcN := 21) jIQ_161_20 rfl rfl rfl ?_
  refine jT_xgetf (a := 0) (t := 1) (ci := 13) (fi := 7) (c := jzQ_16) (v := (4, 9)) (pcN := 24) jIQ_161_21 rfl rfl rfl rfl rfl rfl rfl ?_
  refine jT_xiload (v := (0, 5)) (pcN := 26) jIQ_161_24 rfl rfl rfl ?_
  refine jT_xiload (v := (0, 5)) (pcN := 28) jIQ_161_26 rfl rfl rfl ?_
  refine jT_xiconst (k := 1) (pcN := 29) jIQ_161_28 rfl ?_
  refine jT_xicT (pcN := 37) jIQ_161_29 rfl (by decide +kernel) rfl ?_
  refine jT_xiload (v := (0, 5)) (pcN := 39) jIQ_161_37 rfl rfl rfl ?_
  refine jT_xiconst (k := 2) (pcN := 40) jIQ_161_39 rfl ?_
  refine jT_xicT (pcN := 48) jIQ_161_40 rfl (by decide +kernel) rfl ?_
  refine jT_xlconst (z := 0) (pcN := 49) jIQ_161_48 rfl rfl ?_
  refine jT_adv 1 (pcN := 50) (LN := [(5, (0, 5)), (0, (4, 0)), (1, (0, r7)), (2, (0, r8)), (3, (4, 1)), (4, (0, o4))]) (stN := []) (hsN := [jzQ_16, (4, [(4, 13), (1, 1)], []), (8, [(4, 14), (4, 15)], []), jgh, jgh, jgh, jgh, jgh, jgh, (101, [], [0, r7, r8, 0, 0, 0]), (101, [], [k12_0, k12_1, k12_2, k12_3, k12_4, k12_5]), jgh, jgh, (101, [], [0, 0, 0, 0, 0, 0]), jgh, jgh]) (c1 := 0) (s1 := 0) (c2 := 0) (s2 := 0) (by exact rfl) ?_ (by omega) (by omega)
  refine jT_xiinc (x := 5) (z := 6) (LN := [(5, (0, 6)), (0, (4, 0)), (1, (0, r7)), (2, (0, r8)), (3, (4, 1)), (4, (0, o4))]) (pcN := 53) jIQ_161_50 rfl rfl (by decide) rfl rfl ?_
  refine jT_xgoto (pcN := 13) jIQ_161_53 rfl ?_
  refine jT_xiload (v := (0, 6)) (pcN := 15) jIQ_161_13 rfl rfl rfl ?_
  refine jT_xbipush (k := 6) (pcN := 17) jIQ_161_15 (by decide) rfl ?_
  refine jT_xicT (pcN := 56) jIQ_161_17 rfl (by decide +kernel) rfl ?_
  refine jT_xaload_n (v := (4, 0)) (pcN := 57) jIQ_161_56 rfl rfl rfl ?_
  refine jT_xgetf (a := 0) (t := 1) (ci := 13) (fi := 0) (c := jzQ_16) (v := (4, 2)) (pcN := 60) jIQ_161_57 rfl rfl rfl rfl rfl rfl rfl ?_
  refine jT_xaload_n (v := (4, 0)) (pcN := 61) jIQ_161_60 rfl rfl rfl ?_
  refine jT_xgetf (a := 0) (t := 1) (ci := 13) (fi := 7) (c := jzQ_16) (v := (4, 9)) (pcN := 64) jIQ_161_61 rfl rfl rfl rfl rfl rfl rfl ?_
  refine jT_xlconst (z := 1) (pcN := 65) jIQ_161_64 rfl rfl ?_
  refine jT_xlconst (z := 1) (pcN := 66) jIQ_161_65 rfl rfl ?_
  refine jT_callA [2, 9, 14, 15] (y := 45) (pcN := 69) (dC := 1) (bc1 := 0) (bc2 := 0) (c1 := 0) (c2 := 0) (as := [(4, 2), (4, 9), (1, 1), (1, 1)]) (asC := [(4, 0), (4, 1), (1, 1), (1, 1)]) (LN := [(5, (0, 6)), (0, (4, 0)), (1, (0, r7)), (2, (0, r8)), (3, (4, 1)), (4, (0, o4))]) (stN := []) (hsC := [(8, [(4, 2), (4, 3)], []), (101, [], [0, r7, r8, 0, 0, 0]), jgh, jgh]) (ex := []) (v := (1, (108917793695 * r7 + 159561683699 * r8) / 68719476736)) (st2 := [(1, (108917793695 * r7 + 159561683699 * r8) / 68719476736)]) (hs2 := [jzQ_16, (4, [(4, 13), (1, 1)], []), (8, [(4, 14), (4, 15)], []), jgh, jgh, jgh, jgh, jgh, jgh, (101, [], [0, r7, r8, 0, 0, 0]), (101, [], [k12_0, k12_1, k12_2, k12_3, k12_4, k12_5]), jgh, jgh, (101, [], [0, 0, 0, 0, 0, 0]), jgh, jgh]) (jQl_sp45_116 (d := 0) (by omega) (by omega)) (by rfl) (by rfl) (by rfl) (by rfl) ⟨rfl, rfl, rfl, rfl, trivial⟩ (by rfl) (by rfl) (by omega) (by show 16 ≤ 16; omega) (by omega) (by omega) rfl rfl ?_
  have hb_q1 : (-60) ≤ (108917793695 * r7 + 159561683699 * r8) / 68719476736 ∧ (108917793695 * r7 + 159561683699 * r8) / 68719476736 ≤ 60 := ⟨by omega, by omega⟩
  generalize hq_q1 : (108917793695 * r7 + 159561683699 * r8) / 68719476736 = q1 at hb_q1 g_3 g_4 ⊢
  refine jT_xlstore (v := (1, q1)) (LN := [(5, (1, q1)), (0, (4, 0)), (1, (0, r7)), (2, (0, r8)), (3, (4, 1)), (4, (0, o4))]) (pcN := 71) jIQ_161_69 rfl rfl rfl rfl ?_
  have g_5 : 0 ≤ (-68719476736) * q1 + 108917793694 * r7 + 159561683698 * r8 - 1 := by have := jcg (b := r7) (c := r8) (by omega) (by omega) (by omega); rw [hq_q1] at this; omega
  have g_6 : 0 ≤ (-68719476736) * q1 + 108917793694 * r7 + 159561683700 * r8 - 1 := by have := jcg (b := r7) (c := r8) (by omega) (by omega) (by omega); rw [hq_q1] at this; omega
  have g_7 : 0 ≤ (-68719476736) * q1 + 108917793696 * r7 + 159561683698 * r8 - 1 := by have := jcg (b := r7) (c := r8) (by omega) (by omega) (by omega); rw [hq_q1] at this; omega
  have g_8 : 0 ≤ (-68719476736) * q1 + 108917793696 * r7 + 159561683700 * r8 - 1 := by have := jcg (b := r7) (c := r8) (by omega) (by omega) (by omega); rw [hq_q1] at this; omega
  refine jT_xiload (v := (0, o4)) (pcN := 73) jIQ_161_71 rfl rfl rfl ?_
  refine jT_ifF (a := o4) (t := 107) (by rfl) (by rfl) (by rfl) (jw_idd (by omega) (by omega)) (by simp only [jcP] <;> omega) ?_
  refine jT_xiload_n (v := (0, r7)) (pcN := 77) jIQ_161_76 rfl rfl rfl ?_
  refine jT_xi2l (x := r7) (z := r7) (pcN := 78) jIQ_161_77 rfl (jw_idd (by omega) (by omega)) rfl ?_
  refine jT_xaload_n (v := (4, 0)) (pcN := 79) jIQ_161_78 rfl rfl rfl ?_
  refine jT_xgetf (a := 0) (t := 1) (ci := 13) (fi := 8) (c := jzQ_16) (v := (4, 10)) (pcN := 82) jIQ_161_79 rfl rfl rfl rfl rfl rfl rfl ?_
  refine jT_xiconst (k := 1) (pcN := 83) jIQ_161_82 rfl ?_
  refine jT_lald (x := k12_1) (a := 10) (j := 1) (fs := []) (X := [k12_0, k12_1, k12_2, k12_3, k12_4, k12_5]) jIQ_161_83 rfl rfl rfl rfl ?_
  refine jT_eq (LN := [(5, (1, q1)), (0, (4, 0)), (1, (0, r7)), (2, (0, r8)), (3, (4, 1)), (4, (0, o4))]) (stN := [(1, k12_1), (1, r7)]) (hsN := [jzQ_16, (4, [(4, 13), (1, 1)], []), (8, [(4, 14), (4, 15)], []), jgh, jgh, jgh, jgh, jgh, jgh, (101, [], [0, r7, r8, 0, 0, 0]), (101, [], [k12_0, k12_1, k12_2, k12_3, k12_4, k12_5]), jgh, jgh, (101, [], [0, 0, 0, 0, 0, 0]), jgh, jgh]) rfl rfl rfl ?_
  refine jT_xlmul (x := r7) (y := k12_1) (z := r7 * k12_1) (pcN := 85) jIQ_161_84 rfl rfl rfl ?_
  have hb_q2 := jmul_b (x := r7) (y := k12_1) (m := 20) (n := 158) (by omega) (by omega) (by omega) (by omega)
  have hb_q2 : 0 ≤ r7 * k12_1 ∧ r7 * k12_1 ≤ 3160 := ⟨hb_q2.1, by omega⟩
  generalize hq_q2 : r7 * k12_1 = q2 at hb_q2 g_3 g_4 ⊢
  refine jT_xiload_n (v := (0, r8)) (pcN := 86) jIQ_161_85 rfl rfl rfl ?_
  refine jT_xi2l (x := r8) (z := r8) (pcN := 87) jIQ_161_86 rfl (jw_idd (by omega) (by omega)) rfl ?_
  refine jT_xaload_n (v := (4, 0)) (pcN := 88) jIQ_161_87 rfl rfl rfl ?_
  refine jT_xgetf (a := 0) (t := 1) (ci := 13) (fi := 8) (c := jzQ_16) (v := (4, 10)) (pcN := 91) jIQ_161_88 rfl rfl rfl rfl rfl rfl rfl ?_
  refine jT_xiconst (k := 2) (pcN := 92) jIQ_161_91 rfl ?_
  refine jT_lald (x := k12_2) (a := 10) (j := 2) (fs := []) (X := [k12_0, k12_1, k12_2, k12_3, k12_4, k12_5]) jIQ_161_92 rfl rfl rfl rfl ?_
  refine jT_eq (LN := [(5, (1, q1)), (0, (4, 0)), (1, (0, r7)), (2, (0, r8)), (3, (4, 1)), (4, (0, o4))]) (stN := [(1, k12_2), (1, r8), (1, q2)]) (hsN := [jzQ_16, (4, [(4, 13), (1, 1)], []), (8, [(4, 14), (4, 15)], []), jgh, jgh, jgh, jgh, jgh, jgh, (101, [], [0, r7, r8, 0, 0, 0]), (101, [], [k12_0, k12_1, k12_2, k12_3, k12_4, k12_5]), jgh, jgh, (101, [], [0, 0, 0, 0, 0, 0]), jgh, jgh]) rfl rfl rfl ?_
  refine jT_xlmul (x := r8) (y := k12_2) (z := r8 * k12_2) (pcN := 94) jIQ_161_93 rfl rfl rfl ?_
  have hb_q3 := jmul_bs (x := r8) (y := k12_2) (m := 10) (n := 232) (by omega) (by omega) (by omega) (by omega)
  have hb_q3 : (-2320) ≤ r8 * k12_2 ∧ r8 * k12_2 ≤ 2320 := ⟨by omega, by omega⟩
  generalize hq_q3 : r8 * k12_2 = q3 at hb_q3 g_3 g_4 ⊢
  refine jT_xladd (x := q2) (y := q3) (z := q2 + q3) (pcN := 95) jIQ_161_94 rfl (rfl) rfl ?_
  refine jT_xlload (v := (1, q1)) (pcN := 97) jIQ_161_95 rfl rfl rfl ?_
  refine jT_xiload (v := (0, o4)) (pcN := 99) jIQ_161_97 rfl rfl rfl ?_
  refine jT_xi2l (x := o4) (z := o4) (pcN := 100) jIQ_161_99 rfl (jw_idd (by omega) (by omega)) rfl ?_
  refine jT_xlmul (x := q1) (y := o4) (z := q1 * o4) (pcN := 101) jIQ_161_100 rfl rfl rfl ?_
  have hb_q4 := jmul_bs (x := q1) (y := o4) (m := 60) (n := 100) (by omega) (by omega) (by omega) (by omega)
  have hb_q4 : (-6000) ≤ q1 * o4 ∧ q1 * o4 ≤ 6000 := ⟨by omega, by omega⟩
  generalize hq_q4 : q1 * o4 = q4 at hb_q4 g_3 g_4 ⊢
  refine jT_lcmp (a := q2 + q3) (b := q4) (z := 0) (by rfl) (by rfl) (jwl_idd (by omega) (by omega)) (jwl_idd (by omega) (by omega)) (by rw [decide_eq_false (show ¬ ((q4 : Int) < q2 + q3) by omega), decide_eq_true (show (q2 + q3 : Int) = q4 by omega)]; rfl) ?_
  refine jT_xifT (pcN := 107) jIQ_161_102 rfl (by decide +kernel) rfl ?_
  refine jT_xaload_n (v := (4, 0)) (pcN := 108) jIQ_161_107 rfl rfl rfl ?_
  refine jT_xgetf (a := 0) (t := 1) (ci := 13) (fi := 7) (c := jzQ_16) (v := (4, 9)) (pcN := 111) jIQ_161_108 rfl rfl rfl rfl rfl rfl rfl ?_
  refine jT_xiconst (k := 0) (pcN := 112) jIQ_161_111 rfl ?_
  refine jT_xlload (v := (1, q1)) (pcN := 114) jIQ_161_112 rfl rfl rfl ?_
  refine jT_adv 2 (pcN := 116) (LN := [(5, (1, q1)), (0, (4, 0)), (1, (0, r7)), (2, (0, r8)), (3, (4, 1)), (4, (0, o4))]) (stN := []) (hsN := [jzQ_16, (4, [(4, 13), (1, 1)], []), (8, [(4, 14), (4, 15)], []), jgh, jgh, jgh, jgh, jgh, jgh, (101, [], [-q1, r7, r8, 0, 0, 0]), (101, [], [k12_0, k12_1, k12_2, k12_3, k12_4, k12_5]), jgh, jgh, (101, [], [0, 0, 0, 0, 0, 0]), jgh, jgh]) (c1 := 0) (s1 := 0) (c2 := 0) (s2 := 0) (by exact rfl) ?_ (by omega) (by omega)
  refine jT_xiconst (k := 0) (pcN := 117) jIQ_161_116 rfl ?_
  refine jT_xistore (v := (0, 0)) (LN := [(7, (0, 0)), (5, (1, q1)), (0, (4, 0)), (1, (0, r7)), (2, (0, r8)), (3, (4, 1)), (4, (0, o4))]) (pcN := 119) jIQ_161_117 rfl rfl rfl rfl ?_
  refine jT_xiload (v := (0, 0)) (pcN := 121) jIQ_161_119 rfl rfl rfl ?_
  refine jT_xbipush (k := 6) (pcN := 123) jIQ_161_121 (by decide) rfl ?_
  refine jT_xicF (t := 159) (pcN := 126) jIQ_161_123 rfl (by decide +kernel) rfl rfl ?_
  refine jT_xaload_n (v := (4, 0)) (pcN := 127) jIQ_161_126 rfl rfl rfl ?_
  refine jT_xgetf (a := 0) (t := 1) (ci := 13) (fi := 7) (c := jzQ_16) (v := (4, 9)) (pcN := 130) jIQ_161_127 rfl rfl rfl rfl rfl rfl rfl ?_
  refine jT_xiload (v := (0, 0)) (pcN := 132) jIQ_161_130 rfl rfl rfl ?_
  refine jT_xaload_n (v := (4, 1)) (pcN := 133) jIQ_161_132 rfl rfl rfl ?_
  refine jT_xgetf (a := 1) (t := 2) (ci := 4) (fi := 0) (c := (4, [(4, 13), (1, 1)], [])) (v := (4, 13)) (pcN := 136) jIQ_161_133 rfl rfl rfl rfl rfl rfl rfl ?_
  refine jT_xiload (v := (0, 0)) (pcN := 138) jIQ_161_136 rfl rfl rfl ?_
  refine jT_lald (x := 0) (a := 13) (j := 0) (fs := []) (X := [0, 0, 0, 0, 0, 0]) jIQ_161_138 rfl rfl rfl rfl ?_
  refine jT_eq (LN := [(7, (0, 0)), (5, (1, q1)), (0, (4, 0)), (1, (0, r7)), (2, (0, r8)), (3, (4, 1)), (4, (0, o4))]) (stN := [(1, 0), (0, 0), (4, 9)]) (hsN := [jzQ_16, (4, [(4, 13), (1, 1)], []), (8, [(4, 14), (4, 15)], []), jgh, jgh, jgh, jgh, jgh, jgh, (101, [], [-q1, r7, r8, 0, 0, 0]), (101, [], [k12_0, k12_1, k12_2, k12_3, k12_4, k12_5]), jgh, jgh, (101, [], [0, 0, 0, 0, 0, 0]), jgh, jgh]) rfl rfl rfl ?_
  refine jT_xaload_n (v := (4, 0)) (pcN := 140) jIQ_161_139 rfl rfl rfl ?_
  refine jT_xgetf (a := 0) (t := 1) (ci := 13) (fi := 7) (c := jzQ_16) (v := (4, 9)) (pcN := 143) jIQ_161_140 rfl rfl rfl rfl rfl rfl rfl ?_
  refine jT_xiload (v := (0, 0)) (pcN := 145) jIQ_161_143 rfl rfl rfl ?_
  refine jT_lald (x := -q1) (a := 9) (j := 0) (fs := []) (X := [-q1, r7, r8, 0, 0, 0]) jIQ_161_145 rfl rfl rfl rfl ?_
  refine jT_eq (LN := [(7, (0, 0)), (5, (1, q1)), (0, (4, 0)), (1, (0, r7)), (2, (0, r8)), (3, (4, 1)), (4, (0, o4))]) (stN := [(1, -q1), (1, 0), (0, 0), (4, 9)]) (hsN := [jzQ_16, (4, [(4, 13), (1, 1)], []), (8, [(4, 14), (4, 15)], []), jgh, jgh, jgh, jgh, jgh, jgh, (101, [], [-q1, r7, r8, 0, 0, 0]), (101, [], [k12_0, k12_1, k12_2, k12_3, k12_4, k12_5]), jgh, jgh, (101, [], [0, 0, 0, 0, 0, 0]), jgh, jgh]) rfl rfl rfl ?_
  refine jT_xaload_n (v := (4, 1)) (pcN := 147) jIQ_161_146 rfl rfl rfl ?_
  refine jT_xgetf (a := 1) (t := 2) (ci := 4) (fi := 1) (c := (4, [(4, 13), (1, 1)], [])) (v := (1, 1)) (pcN := 150) jIQ_161_147 rfl rfl rfl rfl rfl rfl rfl ?_
  refine jT_xlmul (x := -q1) (y := 1) (z := -q1) (pcN := 151) jIQ_161_150 rfl (by omega) rfl ?_
  refine jT_xlsub (x := 0) (y := -q1) (z := q1) (pcN := 152) jIQ_161_151 rfl (by omega) rfl ?_
  refine jT_adv 1 (pcN := 153) (LN := [(7, (0, 0)), (5, (1, q1)), (0, (4, 0)), (1, (0, r7)), (2, (0, r8)), (3, (4, 1)), (4, (0, o4))]) (stN := []) (hsN := [jzQ_16, (4, [(4, 13), (1, 1)], []), (8, [(4, 14), (4, 15)], []), jgh, jgh, jgh, jgh, jgh, jgh, (101, [], [q1, r7, r8, 0, 0, 0]), (101, [], [k12_0, k12_1, k12_2, k12_3, k12_4, k12_5]), jgh, jgh, (101, [], [0, 0, 0, 0, 0, 0]), jgh, jgh]) (c1 := 0) (s1 := 0) (c2 := 0) (s2 := 0) (by exact rfl) ?_ (by omega) (by omega)
  refine jT_xiinc (x := 0) (z := 1) (LN := [(7, (0, 1)), (5, (1, q1)), (0, (4, 0)), (1, (0, r7)), (2, (0, r8)), (3, (4, 1)), (4, (0, o4))]) (pcN := 156) jIQ_161_153 rfl rfl (by decide) rfl rfl ?_
  refine jT_xgoto (pcN := 119) jIQ_161_156 rfl ?_
  refine jT_xiload (v := (0, 1)) (pcN := 121) jIQ_161_119 rfl rfl rfl ?_
  refine jT_xbipush (k := 6) (pcN := 123) jIQ_161_121 (by decide) rfl ?_
  refine jT_xicF (t := 159) (pcN := 126) jIQ_161_123 rfl (by decide +kernel) rfl rfl ?_
  refine jT_xaload_n (v := (4, 0)) (pcN := 127) jIQ_161_126 rfl rfl rfl ?_
  refine jT_xgetf (a := 0) (t := 1) (ci := 13) (fi := 7) (c := jzQ_16) (v := (4, 9)) (pcN := 130) jIQ_161_127 rfl rfl rfl rfl rfl rfl rfl ?_
  refine jT_xiload (v := (0, 1)) (pcN := 132) jIQ_161_130 rfl rfl rfl ?_
  refine jT_xaload_n (v := (4, 1)) (pcN := 133) jIQ_161_132 rfl rfl rfl ?_
  refine jT_xgetf (a := 1) (t := 2) (ci := 4) (fi := 0) (c := (4, [(4, 13), (1, 1)], [])) (v := (4, 13)) (pcN := 136) jIQ_161_133 rfl rfl rfl rfl rfl rfl rfl ?_
  refine jT_xiload (v := (0, 1)) (pcN := 138) jIQ_161_136 rfl rfl rfl ?_
  refine jT_lald (x := 0) (a := 13) (j := 1) (fs := []) (X := [0, 0, 0, 0, 0, 0]) jIQ_161_138 rfl rfl rfl rfl ?_
  refine jT_eq (LN := [(7, (0, 1)), (5, (1, q1)), (0, (4, 0)), (1, (0, r7)), (2, (0, r8)), (3, (4, 1)), (4, (0, o4))]) (stN := [(1, 0), (0, 1), (4, 9)]) (hsN := [jzQ_16, (4, [(4, 13), (1, 1)], []), (8, [(4, 14), (4, 15)], []), jgh, jgh, jgh, jgh, jgh, jgh, (101, [], [q1, r7, r8, 0, 0, 0]), (101, [], [k12_0, k12_1, k12_2, k12_3, k12_4, k12_5]), jgh, jgh, (101, [], [0, 0, 0, 0, 0, 0]), jgh, jgh]) rfl rfl rfl ?_
  refine jT_xaload_n (v := (4, 0)) (pcN := 140) jIQ_161_139 rfl rfl rfl ?_
  refine jT_xgetf (a := 0) (t := 1) (ci := 13) (fi := 7) (c := jzQ_16) (v := (4, 9)) (pcN := 143) jIQ_161_140 rfl rfl rfl rfl rfl rfl rfl ?_
  refine jT_xiload (v := (0, 1)) (pcN := 145) jIQ_161_143 rfl rfl rfl ?_
  refine jT_lald (x := r7) (a := 9) (j := 1) (fs := []) (X := [q1, r7, r8, 0, 0, 0]) jIQ_161_145 rfl rfl rfl rfl ?_
  refine jT_eq (LN := [(7, (0, 1)), (5, (1, q1)), (0, (4, 0)), (1, (0, r7)), (2, (0, r8)), (3, (4, 1)), (4, (0, o4))]) (stN := [(1, r7), (1, 0), (0, 1), (4, 9)]) (hsN := [jzQ_16, (4, [(4, 13), (1, 1)], []), (8, [(4, 14), (4, 15)], []), jgh, jgh, jgh, jgh, jgh, jgh, (101, [], [q1, r7, r8, 0, 0, 0]), (101, [], [k12_0, k12_1, k12_2, k12_3, k12_4, k12_5]), jgh, jgh, (101, [], [0, 0, 0, 0, 0, 0]), jgh, jgh]) rfl rfl rfl ?_
  refine jT_xaload_n (v := (4, 1)) (pcN := 147) jIQ_161_146 rfl rfl rfl ?_
  refine jT_xgetf (a := 1) (t := 2) (ci := 4) (fi := 1) (c := (4, [(4, 13), (1, 1)], [])) (v := (1, 1)) (pcN := 150) jIQ_161_147 rfl rfl rfl rfl rfl rfl rfl ?_
  refine jT_xlmul (x := r7) (y := 1) (z := r7) (pcN := 151) jIQ_161_150 rfl (by omega) rfl ?_
  refine jT_xlsub (x := 0) (y := r7) (z := -r7) (pcN := 152) jIQ_161_151 rfl (by omega) rfl ?_
  refine jT_adv 1 (pcN := 153) (LN := [(7, (0, 1)), (5, (1, q1)), (0, (4, 0)), (1, (0, r7)), (2, (0, r8)), (3, (4, 1)), (4, (0, o4))]) (stN := []) (hsN := [jzQ_16, (4, [(4, 13), (1, 1)], []), (8, [(4, 14), (4, 15)], []), jgh, jgh, jgh, jgh, jgh, jgh, (101, [], [q1, -r7, r8, 0, 0, 0]), (101, [], [k12_0, k12_1, k12_2, k12_3, k12_4, k12_5]), jgh, jgh, (101, [], [0, 0, 0, 0, 0, 0]), jgh, jgh]) (c1 := 0) (s1 := 0) (c2 := 0) (s2 := 0) (by exact rfl) ?_ (by omega) (by omega)
  refine jT_xiinc (x := 1) (z := 2) (LN := [(7, (0, 2)), (5, (1, q1)), (0, (4, 0)), (1, (0, r7)), (2, (0, r8)), (3, (4, 1)), (4, (0, o4))]) (pcN := 156) jIQ_161_153 rfl rfl (by decide) rfl rfl ?_
  refine jT_xgoto (pcN := 119) jIQ_161_156 rfl ?_
  refine jT_xiload (v := (0, 2)) (pcN := 121) jIQ_161_119 rfl rfl rfl ?_
  refine jT_xbipush (k := 6) (pcN := 123) jIQ_161_121 (by decide) rfl ?_
  refine jT_xicF (t := 159) (pcN := 126) jIQ_161_123 rfl (by decide +kernel) rfl rfl ?_
  refine jT_xaload_n (v := (4, 0)) (pcN := 127) jIQ_161_126 rfl rfl rfl ?_
  refine jT_xgetf (a := 0) (t := 1) (ci := 13) (fi := 7) (c := jzQ_16) (v := (4, 9)) (pcN := 130) jIQ_161_127 rfl rfl rfl rfl rfl rfl rfl ?_
  refine jT_xiload (v := (0, 2)) (pcN := 132) jIQ_161_130 rfl rfl rfl ?_
  refine jT_xaload_n (v := (4, 1)) (pcN := 133) jIQ_161_132 rfl rfl rfl ?_
  refine jT_xgetf (a := 1) (t := 2) (ci := 4) (fi := 0) (c := (4, [(4, 13), (1, 1)], [])) (v := (4, 13)) (pcN := 136) jIQ_161_133 rfl rfl rfl rfl rfl rfl rfl ?_
  refine jT_xiload (v := (0, 2)) (pcN := 138) jIQ_161_136 rfl rfl rfl ?_
  refine jT_lald (x := 0) (a := 13) (j := 2) (fs := []) (X := [0, 0, 0, 0, 0, 0]) jIQ_161_138 rfl rfl rfl rfl ?_
  refine jT_eq (LN := [(7, (0, 2)), (5, (1, q1)), (0, (4, 0)), (1, (0, r7)), (2, (0, r8)), (3, (4, 1)), (4, (0, o4))]) (stN := [(1, 0), (0, 2), (4, 9)]) (hsN := [jzQ_16, (4, [(4, 13), (1, 1)], []), (8, [(4, 14), (4, 15)], []), jgh, jgh, jgh, jgh, jgh, jgh, (101, [], [q1, -r7, r8, 0, 0, 0]), (101, [], [k12_0, k12_1, k12_2, k12_3, k12_4, k12_5]), jgh, jgh, (101, [], [0, 0, 0, 0, 0, 0]), jgh, jgh]) rfl rfl rfl ?_
  refine jT_xaload_n (v := (4, 0)) (pcN := 140) jIQ_161_139 rfl rfl rfl ?_
  refine jT_xgetf (a := 0) (t := 1) (ci := 13) (fi := 7) (c := jzQ_16) (v := (4, 9)) (pcN := 143) jIQ_161_140 rfl rfl rfl rfl rfl rfl rfl ?_
  refine jT_xiload (v := (0, 2)) (pcN := 145) jIQ_161_143 rfl rfl rfl ?_
  refine jT_lald (x := r8) (a := 9) (j := 2) (fs := []) (X := [q1, -r7, r8, 0, 0, 0]) jIQ_161_145 rfl rfl rfl rfl ?_
  refine jT_eq (LN := [(7, (0, 2)), (5, (1, q1)), (0, (4, 0)), (1, (0, r7)), (2, (0, r8)), (3, (4, 1)), (4, (0, o4))]) (stN := [(1, r8), (1, 0), (0, 2), (4, 9)]) (hsN := [jzQ_16, (4, [(4, 13), (1, 1)], []), (8, [(4, 14), (4, 15)], []), jgh, jgh, jgh, jgh, jgh, jgh, (101, [], [q1, -r7, r8, 0, 0, 0]), (101, [], [k12_0, k12_1, k12_2, k12_3, k12_4, k12_5]), jgh, jgh, (101, [], [0, 0, 0, 0, 0, 0]), jgh, jgh]) rfl rfl rfl ?_
  refine jT_xaload_n (v := (4, 1)) (pcN := 147) jIQ_161_146 rfl rfl rfl ?_
  refine jT_xgetf (a := 1) (t := 2) (ci := 4) (fi := 1) (c := (4, [(4, 13), (1, 1)], [])) (v := (1, 1)) (pcN := 150) jIQ_161_147 rfl rfl rfl rfl rfl rfl rfl ?_
  refine jT_xlmul (x := r8) (y := 1) (z := r8) (pcN := 151) jIQ_161_150 rfl (by omega) rfl ?_
  refine jT_xlsub (x := 0) (y := r8) (z := -r8) (pcN := 152) jIQ_161_151 rfl (by omega) rfl ?_
  refine jT_adv 1 (pcN := 153) (LN := [(7, (0, 2)), (5, (1, q1)), (0, (4, 0)), (1, (0, r7)), (2, (0, r8)), (3, (4, 1)), (4, (0, o4))]) (stN := []) (hsN := [jzQ_16, (4, [(4, 13), (1, 1)], []), (8, [(4, 14), (4, 15)], []), jgh, jgh, jgh, jgh, jgh, jgh, (101, [], [q1, -r7, -r8, 0, 0, 0]), (101, [], [k12_0, k12_1, k12_2, k12_3, k12_4, k12_5]), jgh, jgh, (101, [], [0, 0, 0, 0, 0, 0]), jgh, jgh]) (c1 := 0) (s1 := 0) (c2 := 0) (s2 := 0) (by exact rfl) ?_ (by omega) (by omega)
  refine jT_xiinc (x := 2) (z := 3) (LN := [(7, (0, 3)), (5, (1, q1)), (0, (4, 0)), (1, (0, r7)), (2, (0, r8)), (3, (4, 1)), (4, (0, o4))]) (pcN := 156) jIQ_161_153 rfl rfl (by decide) rfl rfl ?_
  refine jT_xgoto (pcN := 119) jIQ_161_156 rfl ?_
  refine jT_xiload (v := (0, 3)) (pcN := 121) jIQ_161_119 rfl rfl rfl ?_
  refine jT_xbipush (k := 6) (pcN := 123) jIQ_161_121 (by decide) rfl ?_
  refine jT_xicF (t := 159) (pcN := 126) jIQ_161_123 rfl (by decide +kernel) rfl rfl ?_
  refine jT_xaload_n (v := (4, 0)) (pcN := 127) jIQ_161_126 rfl rfl rfl ?_
  refine jT_xgetf (a := 0) (t := 1) (ci := 13) (fi := 7) (c := jzQ_16) (v := (4, 9)) (pcN := 130) jIQ_161_127 rfl rfl rfl rfl rfl rfl rfl ?_
  refine jT_xiload (v := (0, 3)) (pcN := 132) jIQ_161_130 rfl rfl rfl ?_
  refine jT_xaload_n (v := (4, 1)) (pcN := 133) jIQ_161_132 rfl rfl rfl ?_
  refine jT_xgetf (a := 1) (t := 2) (ci := 4) (fi := 0) (c := (4, [(4, 13), (1, 1)], [])) (v := (4, 13)) (pcN := 136) jIQ_161_133 rfl rfl rfl rfl rfl rfl rfl ?_
  refine jT_xiload (v := (0, 3)) (pcN := 138) jIQ_161_136 rfl rfl rfl ?_
  refine jT_lald (x := 0) (a := 13) (j := 3) (fs := []) (X := [0, 0, 0, 0, 0, 0]) jIQ_161_138 rfl rfl rfl rfl ?_
  refine jT_eq (LN := [(7, (0, 3)), (5, (1, q1)), (0, (4, 0)), (1, (0, r7)), (2, (0, r8)), (3, (4, 1)), (4, (0, o4))]) (stN := [(1, 0), (0, 3), (4, 9)]) (hsN := [jzQ_16, (4, [(4, 13), (1, 1)], []), (8, [(4, 14), (4, 15)], []), jgh, jgh, jgh, jgh, jgh, jgh, (101, [], [q1, -r7, -r8, 0, 0, 0]), (101, [], [k12_0, k12_1, k12_2, k12_3, k12_4, k12_5]), jgh, jgh, (101, [], [0, 0, 0, 0, 0, 0]), jgh, jgh]) rfl rfl rfl ?_
  refine jT_xaload_n (v := (4, 0)) (pcN := 140) jIQ_161_139 rfl rfl rfl ?_
  refine jT_xgetf (a := 0) (t := 1) (ci := 13) (fi := 7) (c := jzQ_16) (v := (4, 9)) (pcN := 143) jIQ_161_140 rfl rfl rfl rfl rfl rfl rfl ?_
  refine jT_xiload (v := (0, 3)) (pcN := 145) jIQ_161_143 rfl rfl rfl ?_
  refine jT_lald (x := 0) (a := 9) (j := 3) (fs := []) (X := [q1, -r7, -r8, 0, 0, 0]) jIQ_161_145 rfl rfl rfl rfl ?_
  refine jT_eq (LN := [(7, (0, 3)), (5, (1, q1)), (0, (4, 0)), (1, (0, r7)), (2, (0, r8)), (3, (4, 1)), (4, (0, o4))]) (stN := [(1, 0), (1, 0), (0, 3), (4, 9)]) (hsN := [jzQ_16, (4, [(4, 13), (1, 1)], []), (8, [(4, 14), (4, 15)], []), jgh, jgh, jgh, jgh, jgh, jgh, (101, [], [q1, -r7, -r8, 0, 0, 0]), (101, [], [k12_0, k12_1, k12_2, k12_3, k12_4, k12_5]), jgh, jgh, (101, [], [0, 0, 0, 0, 0, 0]), jgh, jgh]) rfl rfl rfl ?_
  refine jT_xaload_n (v := (4, 1)) (pcN := 147) jIQ_161_146 rfl rfl rfl ?_
  refine jT_xgetf (a := 1) (t := 2) (ci := 4) (fi := 1) (c := (4, [(4, 13), (1, 1)], [])) (v := (1, 1)) (pcN := 150) jIQ_161_147 rfl rfl rfl rfl rfl rfl rfl ?_
  refine jT_xlmul (x := 0) (y := 1) (z := 0) (pcN := 151) jIQ_161_150 rfl (by decide) rfl ?_
  refine jT_xlsub (x := 0) (y := 0) (z := 0) (pcN := 152) jIQ_161_151 rfl (by decide) rfl ?_
  refine jT_adv 1 (pcN := 153) (LN := [(7, (0, 3)), (5, (1, q1)), (0, (4, 0)), (1, (0, r7)), (2, (0, r8)), (3, (4, 1)), (4, (0, o4))]) (stN := []) (hsN := [jzQ_16, (4, [(4, 13), (1, 1)], []), (8, [(4, 14), (4, 15)], []), jgh, jgh, jgh, jgh, jgh, jgh, (101, [], [q1, -r7, -r8, 0, 0, 0]), (101, [], [k12_0, k12_1, k12_2, k12_3, k12_4, k12_5]), jgh, jgh, (101, [], [0, 0, 0, 0, 0, 0]), jgh, jgh]) (c1 := 0) (s1 := 0) (c2 := 0) (s2 := 0) (by exact rfl) ?_ (by omega) (by omega)
  refine jT_xiinc (x := 3) (z := 4) (LN := [(7, (0, 4)), (5, (1, q1)), (0, (4, 0)), (1, (0, r7)), (2, (0, r8)), (3, (4, 1)), (4, (0, o4))]) (pcN := 156) jIQ_161_153 rfl rfl (by decide) rfl rfl ?_
  refine jT_xgoto (pcN := 119) jIQ_161_156 rfl ?_
  refine jT_xiload (v := (0, 4)) (pcN := 121) jIQ_161_119 rfl rfl rfl ?_
  refine jT_xbipush (k := 6) (pcN := 123) jIQ_161_121 (by decide) rfl ?_
  refine jT_xicF (t := 159) (pcN := 126) jIQ_161_123 rfl (by decide +kernel) rfl rfl ?_
  refine jT_xaload_n (v := (4, 0)) (pcN := 127) jIQ_161_126 rfl rfl rfl ?_
  refine jT_xgetf (a := 0) (t := 1) (ci := 13) (fi := 7) (c := jzQ_16) (v := (4, 9)) (pcN := 130) jIQ_161_127 rfl rfl rfl rfl rfl rfl rfl ?_
  refine jT_xiload (v := (0, 4)) (pcN := 132) jIQ_161_130 rfl rfl rfl ?_
  refine jT_xaload_n (v := (4, 1)) (pcN := 133) jIQ_161_132 rfl rfl rfl ?_
  refine jT_xgetf (a := 1) (t := 2) (ci := 4) (fi := 0) (c := (4, [(4, 13), (1, 1)], [])) (v := (4, 13)) (pcN := 136) jIQ_161_133 rfl rfl rfl rfl rfl rfl rfl ?_
  refine jT_xiload (v := (0, 4)) (pcN := 138) jIQ_161_136 rfl rfl rfl ?_
  refine jT_lald (x := 0) (a := 13) (j := 4) (fs := []) (X := [0, 0, 0, 0, 0, 0]) jIQ_161_138 rfl rfl rfl rfl ?_
  refine jT_eq (LN := [(7, (0, 4)), (5, (1, q1)), (0, (4, 0)), (1, (0, r7)), (2, (0, r8)), (3, (4, 1)), (4, (0, o4))]) (stN := [(1, 0), (0, 4), (4, 9)]) (hsN := [jzQ_16, (4, [(4, 13), (1, 1)], []), (8, [(4, 14), (4, 15)], []), jgh, jgh, jgh, jgh, jgh, jgh, (101, [], [q1, -r7, -r8, 0, 0, 0]), (101, [], [k12_0, k12_1, k12_2, k12_3, k12_4, k12_5]), jgh, jgh, (101, [], [0, 0, 0, 0, 0, 0]), jgh, jgh]) rfl rfl rfl ?_
  refine jT_xaload_n (v := (4, 0)) (pcN := 140) jIQ_161_139 rfl rfl rfl ?_
  refine jT_xgetf (a := 0) (t := 1) (ci := 13) (fi := 7) (c := jzQ_16) (v := (4, 9)) (pcN := 143) jIQ_161_140 rfl rfl rfl rfl rfl rfl rfl ?_
  refine jT_xiload (v := (0, 4)) (pcN := 145) jIQ_161_143 rfl rfl rfl ?_
  refine jT_lald (x := 0) (a := 9) (j := 4) (fs := []) (X := [q1, -r7, -r8, 0, 0, 0]) jIQ_161_145 rfl rfl rfl rfl ?_
  refine jT_eq (LN := [(7, (0, 4)), (5, (1, q1)), (0, (4, 0)), (1, (0, r7)), (2, (0, r8)), (3, (4, 1)), (4, (0, o4))]) (stN := [(1, 0), (1, 0), (0, 4), (4, 9)]) (hsN := [jzQ_16, (4, [(4, 13), (1, 1)], []), (8, [(4, 14), (4, 15)], []), jgh, jgh, jgh, jgh, jgh, jgh, (101, [], [q1, -r7, -r8, 0, 0, 0]), (101, [], [k12_0, k12_1, k12_2, k12_3, k12_4, k12_5]), jgh, jgh, (101, [], [0, 0, 0, 0, 0, 0]), jgh, jgh]) rfl rfl rfl ?_
  refine jT_xaload_n (v := (4, 1)) (pcN := 147) jIQ_161_146 rfl rfl rfl ?_
  refine jT_xgetf (a := 1) (t := 2) (ci := 4) (fi := 1) (c := (4, [(4, 13), (1, 1)], [])) (v := (1, 1)) (pcN := 150) jIQ_161_147 rfl rfl rfl rfl rfl rfl rfl ?_
  refine jT_xlmul (x := 0) (y := 1) (z := 0) (pcN := 151) jIQ_161_150 rfl (by decide) rfl ?_
  refine jT_xlsub (x := 0) (y := 0) (z := 0) (pcN := 152) jIQ_161_151 rfl (by decide) rfl ?_
  refine jT_adv 1 (pcN := 153) (LN := [(7, (0, 4)), (5, (1, q1)), (0, (4, 0)), (1, (0, r7)), (2, (0, r8)), (3, (4, 1)), (4, (0, o4))]) (stN := []) (hsN := [jzQ_16, (4, [(4, 13), (1, 1)], []), (8, [(4, 14), (4, 15)], []), jgh, jgh, jgh, jgh, jgh, jgh, (101, [], [q1, -r7, -r8, 0, 0, 0]), (101, [], [k12_0, k12_1, k12_2, k12_3, k12_4, k12_5]), jgh, jgh, (101, [], [0, 0, 0, 0, 0, 0]), jgh, jgh]) (c1 := 0) (s1 := 0) (c2 := 0) (s2 := 0) (by exact rfl) ?_ (by omega) (by omega)
  refine jT_xiinc (x := 4) (z := 5) (LN := [(7, (0, 5)), (5, (1, q1)), (0, (4, 0)), (1, (0, r7)), (2, (0, r8)), (3, (4, 1)), (4, (0, o4))]) (pcN := 156) jIQ_161_153 rfl rfl (by decide) rfl rfl ?_
  refine jT_xgoto (pcN := 119) jIQ_161_156 rfl ?_
  refine jT_xiload (v := (0, 5)) (pcN := 121) jIQ_161_119 rfl rfl rfl ?_
  refine jT_xbipush (k := 6) (pcN := 123) jIQ_161_121 (by decide) rfl ?_
  refine jT_xicF (t := 159) (pcN := 126) jIQ_161_123 rfl (by decide +kernel) rfl rfl ?_
  refine jT_xaload_n (v := (4, 0)) (pcN := 127) jIQ_161_126 rfl rfl rfl ?_
  refine jT_xgetf (a := 0) (t := 1) (ci := 13) (fi := 7) (c := jzQ_16) (v := (4, 9)) (pcN := 130) jIQ_161_127 rfl rfl rfl rfl rfl rfl rfl ?_
  refine jT_xiload (v := (0, 5)) (pcN := 132) jIQ_161_130 rfl rfl rfl ?_
  refine jT_xaload_n (v := (4, 1)) (pcN := 133) jIQ_161_132 rfl rfl rfl ?_
  refine jT_xgetf (a := 1) (t := 2) (ci := 4) (fi := 0) (c := (4, [(4, 13), (1, 1)], [])) (v := (4, 13)) (pcN := 136) jIQ_161_133 rfl rfl rfl rfl rfl rfl rfl ?_
  refine jT_xiload (v := (0, 5)) (pcN := 138) jIQ_161_136 rfl rfl rfl ?_
  refine jT_lald (x := 0) (a := 13) (j := 5) (fs := []) (X := [0, 0, 0, 0, 0, 0]) jIQ_161_138 rfl rfl rfl rfl ?_
  refine jT_eq (LN := [(7, (0, 5)), (5, (1, q1)), (0, (4, 0)), (1, (0, r7)), (2, (0, r8)), (3, (4, 1)), (4, (0, o4))]) (stN := [(1, 0), (0, 5), (4, 9)]) (hsN := [jzQ_16, (4, [(4, 13), (1, 1)], []), (8, [(4, 14), (4, 15)], []), jgh, jgh, jgh, jgh, jgh, jgh, (101, [], [q1, -r7, -r8, 0, 0, 0]), (101, [], [k12_0, k12_1, k12_2, k12_3, k12_4, k12_5]), jgh, jgh, (101, [], [0, 0, 0, 0, 0, 0]), jgh, jgh]) rfl rfl rfl ?_
  refine jT_xaload_n (v := (4, 0)) (pcN := 140) jIQ_161_139 rfl rfl rfl ?_
  refine jT_xgetf (a := 0) (t := 1) (ci := 13) (fi := 7) (c := jzQ_16) (v := (4, 9)) (pcN := 143) jIQ_161_140 rfl rfl rfl rfl rfl rfl rfl ?_
  refine jT_xiload (v := (0, 5)) (pcN := 145) jIQ_161_143 rfl rfl rfl ?_
  refine jT_lald (x := 0) (a := 9) (j := 5) (fs := []) (X := [q1, -r7, -r8, 0, 0, 0]) jIQ_161_145 rfl rfl rfl rfl ?_
  refine jT_eq (LN := [(7, (0, 5)), (5, (1, q1)), (0, (4, 0)), (1, (0, r7)), (2, (0, r8)), (3, (4, 1)), (4, (0, o4))]) (stN := [(1, 0), (1, 0), (0, 5), (4, 9)]) (hsN := [jzQ_16, (4, [(4, 13), (1, 1)], []), (8, [(4, 14), (4, 15)], []), jgh, jgh, jgh, jgh, jgh, jgh, (101, [], [q1, -r7, -r8, 0, 0, 0]), (101, [], [k12_0, k12_1, k12_2, k12_3, k12_4, k12_5]), jgh, jgh, (101, [], [0, 0, 0, 0, 0, 0]), jgh, jgh]) rfl rfl rfl ?_
  refine jT_xaload_n (v := (4, 1)) (pcN := 147) jIQ_161_146 rfl rfl rfl ?_
  refine jT_xgetf (a := 1) (t := 2) (ci := 4) (fi := 1) (c := (4, [(4, 13), (1, 1)], [])) (v := (1, 1)) (pcN := 150) jIQ_161_147 rfl rfl rfl rfl rfl rfl rfl ?_
  refine jT_xlmul (x := 0) (y := 1) (z := 0) (pcN := 151) jIQ_161_150 rfl (by decide) rfl ?_
  refine jT_xlsub (x := 0) (y := 0) (z := 0) (pcN := 152) jIQ_161_151 rfl (by decide) rfl ?_
  refine jT_adv 1 (pcN := 153) (LN := [(7, (0, 5)), (5, (1, q1)), (0, (4, 0)), (1, (0, r7)), (2, (0, r8)), (3, (4, 1)), (4, (0, o4))]) (stN := []) (hsN := [jzQ_16, (4, [(4, 13), (1, 1)], []), (8, [(4, 14), (4, 15)], []), jgh, jgh, jgh, jgh, jgh, jgh, (101, [], [q1, -r7, -r8, 0, 0, 0]), (101, [], [k12_0, k12_1, k12_2, k12_3, k12_4, k12_5]), jgh, jgh, (101, [], [0, 0, 0, 0, 0, 0]), jgh, jgh]) (c1 := 0) (s1 := 0) (c2 := 0) (s2 := 0) (by exact rfl) ?_ (by omega) (by omega)
  refine jT_xiinc (x := 5) (z := 6) (LN := [(7, (0, 6)), (5, (1, q1)), (0, (4, 0)), (1, (0, r7)), (2, (0, r8)), (3, (4, 1)), (4, (0, o4))]) (pcN := 156) jIQ_161_153 rfl rfl (by decide) rfl rfl ?_
  refine jT_xgoto (pcN := 119) jIQ_161_156 rfl ?_
  refine jT_xiload (v := (0, 6)) (pcN := 121) jIQ_161_119 rfl rfl rfl ?_
  refine jT_xbipush (k := 6) (pcN := 123) jIQ_161_121 (by decide) rfl ?_
  refine jT_xicT (pcN := 159) jIQ_161_123 rfl (by decide +kernel) rfl ?_
  refine jT_xaload_n (v := (4, 0)) (pcN := 160) jIQ_161_159 rfl rfl rfl ?_
  refine jT_xgetf (a := 0) (t := 1) (ci := 13) (fi := 0) (c := jzQ_16) (v := (4, 2)) (pcN := 163) jIQ_161_160 rfl rfl rfl rfl rfl rfl rfl ?_
  refine jT_xaload_n (v := (4, 0)) (pcN := 164) jIQ_161_163 rfl rfl rfl ?_
  refine jT_xgetf (a := 0) (t := 1) (ci := 13) (fi := 7) (c := jzQ_16) (v := (4, 9)) (pcN := 167) jIQ_161_164 rfl rfl rfl rfl rfl rfl rfl ?_
  refine jT_callA [2, 9, 14, 15] (y := 38) (pcN := 170) (dC := 1) (bc1 := 0) (bc2 := 0) (c1 := 0) (c2 := 0) (as := [(4, 2), (4, 9)]) (asC := [(4, 0), (4, 1)]) (LN := [(7, (0, 6)), (5, (1, q1)), (0, (4, 0)), (1, (0, r7)), (2, (0, r8)), (3, (4, 1)), (4, (0, o4))]) (stN := []) (hsC := [(8, [(4, 2), (4, 3)], []), (101, [], [q1, -r7, -r8, 0, 0, 0]), jgh, jgh]) (ex := []) (v := (0, (-1))) (st2 := [(0, (-1))]) (hs2 := [jzQ_16, (4, [(4, 13), (1, 1)], []), (8, [(4, 14), (4, 15)], []), jgh, jgh, jgh, jgh, jgh, jgh, (101, [], [q1, -r7, -r8, 0, 0, 0]), (101, [], [k12_0, k12_1, k12_2, k12_3, k12_4, k12_5]), jgh, jgh, (101, [], [0, 0, 0, 0, 0, 0]), jgh, jgh]) (jQl_sp38_117 (d := 0) (by omega) (by omega) (by omega) (by omega) (by omega) (by omega) (by omega)) (by rfl) (by rfl) (by rfl) (by rfl) ⟨rfl, rfl, rfl, rfl, trivial⟩ (by rfl) (by rfl) (by omega) (by show 16 ≤ 16; omega) (by omega) (by omega) rfl rfl ?_
  refine jT_xifT (pcN := 177) jIQ_161_170 rfl (by decide +kernel) rfl ?_
  refine jT_xiconst (k := 0) (pcN := 178) jIQ_161_177 rfl ?_
  subst hq_q4
  subst hq_q3
  subst hq_q2
  subst hq_q1
  exact jT_ret rfl (by decide) (by show 16 ≤ 16; omega) (by omega) (by omega) ⟨rfl, rfl, rfl⟩
theorem jQ_161_332 {xs : List Int} {d : Nat} {k12_0 k12_1 k12_2 k12_3 k12_4 k12_5 o4 r7 r8 u11_0 u11_1 u11_2 u11_3 u11_4 u11_5 : Int} (h_k12_0 : 1 ≤ k12_0 ∧ k12_0 ≤ 100) (h_k12_1 : 2 ≤ k12_1 ∧ k12_1 ≤ 158) (h_k12_2 : 2 ≤ k12_2 ∧ k12_2 ≤ 232) (h_k12_3 : 3 ≤ k12_3 ∧ k12_3 ≤ 281) (h_k12_4 : 3 ≤ k12_4 ∧ k12_4 ≤ 346) (h_k12_5 : 4 ≤ k12_5 ∧ k12_5 ≤ 370) (h_o4 : 1 ≤ o4 ∧ o4 ≤ 100) (h_r7 : (-20) ≤ r7 ∧ r7 ≤ 20) (h_r8 : (-10) ≤ r8 ∧ r8 ≤ 10) (g_0 : 0 ≤ r7) (g_1 : r7 ≤ 0) (g_2 : r8 < 0) (g_3 : 0 ≤ -(((108917793695 * r7 + 159561683699 * r8) / 68719476736) * o4) + (r7 * k12_1) + (r8 * k12_2) - 1) : jT xs (d + 2) 161 15 0 [(0, (4, 0)), (1, (0, r7)), (2, (0, r8)), (3, (4, 1)), (4, (0, o4))] [] [jzQ_16, jgh, (8, [(4, 13), (4, 14)], []), jgh, jgh, jgh, jgh, jgh, jgh, (101, [], [u11_0, u11_1, u11_2, u11_3, u11_4, u11_5]), (101, [], [k12_0, k12_1, k12_2, k12_3, k12_4, k12_5]), jgh, jgh, jgh, jgh] 0 0 (fun k v hsN => k = 0 ∧ v = (0, 0) ∧ hsN = [jzQ_16, jgh, (8, [(4, 13), (4, 14)], []), jgh, jgh, jgh, jgh, jgh, jgh, (101, [], [0, r7, r8, 0, 0, 0]), (101, [], [k12_0, k12_1, k12_2, k12_3, k12_4, k12_5]), jgh, jgh, jgh, jgh]) := by
  refine jT_xiload_n (v := (0, r7)) (pcN := 1) jIQ_161_0 rfl rfl rfl ?_
  refine jT_ifF (a := r7) (t := 10) (by rfl) (by rfl) (by rfl) (jw_idd (by omega) (by omega)) (by simp only [jcP] <;> omega) ?_
  refine jT_xiload_n (v := (0, r8)) (pcN := 5) jIQ_161_4 rfl rfl rfl ?_
  refine jT_ifT (a := r8) (t := 10) (by rfl) (by rfl) (by rfl) (jw_idd (by omega) (by omega)) (by simp only [jcP] <;> omega) ?_
  refine jT_xiconst (k := 0) (pcN := 11) jIQ_161_10 rfl ?_
  refine jT_xistore (v := (0, 0)) (LN := [(5, (0, 0)), (0, (4, 0)), (1, (0, r7)), (2, (0, r8)), (3, (4, 1)), (4, (0, o4))]) (pcN := 13) jIQ_161_11 rfl rfl rfl rfl ?_
  refine jT_xiload (v := (0, 0)) (pcN := 15) jIQ_161_13 rfl rfl rfl ?_
  refine jT_xbipush (k := 6) (pcN := 17) jIQ_161_15 (by decide) rfl ?_
  refine jT_xicF (t := 56) (pcN := 20) jIQ_161_17 rfl (by decide +kernel) rfl rfl ?_
  refine jT_xaload_n (v := (4, 0)) (pcN := 21) jIQ_161_20 rfl rfl rfl ?_
  refine jT_xgetf (a := 0) (t := 1) (ci := 13) (fi := 7) (c := jzQ_16) (v := (4, 9)) (pcN := 24) jIQ_161_21 rfl rfl rfl rfl rfl rfl rfl ?_
  refine jT_xiload (v := (0, 0)) (pcN := 26) jIQ_161_24 rfl rfl rfl ?_
  refine jT_xiload (v := (0, 0)) (pcN := 28) jIQ_161_26 rfl rfl rfl ?_
  refine jT_xiconst (k := 1) (pcN := 29) jIQ_161_28 rfl ?_
  refine jT_xicT (pcN := 37) jIQ_161_29 rfl (by decide +kernel) rfl ?_
  refine jT_xiload (v := (0, 0)) (pcN := 39) jIQ_161_37 rfl rfl rfl ?_
  refine jT_xiconst (k := 2) (pcN := 40) jIQ_161_39 rfl ?_
  refine jT_xicT (pcN := 48) jIQ_161_40 rfl (by decide +kernel) rfl ?_
  refine jT_xlconst (z := 0) (pcN := 49) jIQ_161_48 rfl rfl ?_
  refine jT_adv 1 (pcN := 50) (LN := [(5, (0, 0)), (0, (4, 0)), (1, (0, r7)), (2, (0, r8)), (3, (4, 1)), (4, (0, o4))]) (stN := []) (hsN := [jzQ_16, jgh, (8, [(4, 13), (4, 14)], []), jgh, jgh, jgh, jgh, jgh, jgh, (101, [], [0, u11_1, u11_2, u11_3, u11_4, u11_5]), (101, [], [k12_0, k12_1, k12_2, k12_3, k12_4, k12_5]), jgh, jgh, jgh, jgh]) (c1 := 0) (s1 := 0) (c2 := 0) (s2 := 0) (by exact rfl) ?_ (by omega) (by omega)
  refine jT_xiinc (x := 0) (z := 1) (LN := [(5, (0, 1)), (0, (4, 0)), (1, (0, r7)), (2, (0, r8)), (3, (4, 1)), (4, (0, o4))]) (pcN := 53) jIQ_161_50 rfl rfl (by decide) rfl rfl ?_
  refine jT_xgoto (pcN := 13) jIQ_161_53 rfl ?_
  refine jT_xiload (v := (0, 1)) (pcN := 15) jIQ_161_13 rfl rfl rfl ?_
  refine jT_xbipush (k := 6) (pcN := 17) jIQ_161_15 (by decide) rfl ?_
  refine jT_xicF (t := 56) (pcN := 20) jIQ_161_17 rfl (by decide +kernel) rfl rfl ?_
  refine jT_xaload_n (v := (4, 0)) (pcN := 21) jIQ_161_20 rfl rfl rfl ?_
  refine jT_xgetf (a := 0) (t := 1) (ci := 13) (fi := 7) (c := jzQ_16) (v := (4, 9)) (pcN := 24) jIQ_161_21 rfl rfl rfl rfl rfl rfl rfl ?_
  refine jT_xiload (v := (0, 1)) (pcN := 26) jIQ_161_24 rfl rfl rfl ?_
  refine jT_xiload (v := (0, 1)) (pcN := 28) jIQ_161_26 rfl rfl rfl ?_
  refine jT_xiconst (k := 1) (pcN := 29) jIQ_161_28 rfl ?_
  refine jT_xicF (t := 37) (pcN := 32) jIQ_161_29 rfl (by decide +kernel) rfl rfl ?_
  refine jT_xiload_n (v := (0, r7)) (pcN := 33) jIQ_161_32 rfl rfl rfl ?_
  refine jT_xi2l (x := r7) (z := r7) (pcN := 34) jIQ_161_33 rfl (jw_idd (by omega) (by omega)) rfl ?_
  refine jT_xgoto (pcN := 49) jIQ_161_34 rfl ?_
  refine jT_adv 1 (pcN := 50) (LN := [(5, (0, 1)), (0, (4, 0)), (1, (0, r7)), (2, (0, r8)), (3, (4, 1)), (4, (0, o4))]) (stN := []) (hsN := [jzQ_16, jgh, (8, [(4, 13), (4, 14)], []), jgh, jgh, jgh, jgh, jgh, jgh, (101, [], [0, r7, u11_2, u11_3, u11_4, u11_5]), (101, [], [k12_0, k12_1, k12_2, k12_3, k12_4, k12_5]), jgh, jgh, jgh, jgh]) (c1 := 0) (s1 := 0) (c2 := 0) (s2 := 0) (by exact rfl) ?_ (by omega) (by omega)
  refine jT_xiinc (x := 1) (z := 2) (LN := [(5, (0, 2)), (0, (4, 0)), (1, (0, r7)), (2, (0, r8)), (3, (4, 1)), (4, (0, o4))]) (pcN := 53) jIQ_161_50 rfl rfl (by decide) rfl rfl ?_
  refine jT_xgoto (pcN := 13) jIQ_161_53 rfl ?_
  refine jT_xiload (v := (0, 2)) (pcN := 15) jIQ_161_13 rfl rfl rfl ?_
  refine jT_xbipush (k := 6) (pcN := 17) jIQ_161_15 (by decide) rfl ?_
  refine jT_xicF (t := 56) (pcN := 20) jIQ_161_17 rfl (by decide +kernel) rfl rfl ?_
  refine jT_xaload_n (v := (4, 0)) (pcN := 21) jIQ_161_20 rfl rfl rfl ?_
  refine jT_xgetf (a := 0) (t := 1) (ci := 13) (fi := 7) (c := jzQ_16) (v := (4, 9)) (pcN := 24) jIQ_161_21 rfl rfl rfl rfl rfl rfl rfl ?_
  refine jT_xiload (v := (0, 2)) (pcN := 26) jIQ_161_24 rfl rfl rfl ?_
  refine jT_xiload (v := (0, 2)) (pcN := 28) jIQ_161_26 rfl rfl rfl ?_
  refine jT_xiconst (k := 1) (pcN := 29) jIQ_161_28 rfl ?_
  refine jT_xicT (pcN := 37) jIQ_161_29 rfl (by decide +kernel) rfl ?_
  refine jT_xiload (v := (0, 2)) (pcN := 39) jIQ_161_37 rfl rfl rfl ?_
  refine jT_xiconst (k := 2) (pcN := 40) jIQ_161_39 rfl ?_
  refine jT_xicF (t := 48) (pcN := 43) jIQ_161_40 rfl (by decide +kernel) rfl rfl ?_
  refine jT_xiload_n (v := (0, r8)) (pcN := 44) jIQ_161_43 rfl rfl rfl ?_
  refine jT_xi2l (x := r8) (z := r8) (pcN := 45) jIQ_161_44 rfl (jw_idd (by omega) (by omega)) rfl ?_
  refine jT_xgoto (pcN := 49) jIQ_161_45 rfl ?_
  refine jT_adv 1 (pcN := 50) (LN := [(5, (0, 2)), (0, (4, 0)), (1, (0, r7)), (2, (0, r8)), (3, (4, 1)), (4, (0, o4))]) (stN := []) (hsN := [jzQ_16, jgh, (8, [(4, 13), (4, 14)], []), jgh, jgh, jgh, jgh, jgh, jgh, (101, [], [0, r7, r8, u11_3, u11_4, u11_5]), (101, [], [k12_0, k12_1, k12_2, k12_3, k12_4, k12_5]), jgh, jgh, jgh, jgh]) (c1 := 0) (s1 := 0) (c2 := 0) (s2 := 0) (by exact rfl) ?_ (by omega) (by omega)
  refine jT_xiinc (x := 2) (z := 3) (LN := [(5, (0, 3)), (0, (4, 0)), (1, (0, r7)), (2, (0, r8)), (3, (4, 1)), (4, (0, o4))]) (pcN := 53) jIQ_161_50 rfl rfl (by decide) rfl rfl ?_
  refine jT_xgoto (pcN := 13) jIQ_161_53 rfl ?_
  refine jT_xiload (v := (0, 3)) (pcN := 15) jIQ_161_13 rfl rfl rfl ?_
  refine jT_xbipush (k := 6) (pcN := 17) jIQ_161_15 (by decide) rfl ?_
  refine jT_xicF (t := 56) (pcN := 20) jIQ_161_17 rfl (by decide +kernel) rfl rfl ?_
  refine jT_xaload_n (v := (4, 0)) (pcN := 21) jIQ_161_20 rfl rfl rfl ?_
  refine jT_xgetf (a := 0) (t := 1) (ci := 13) (fi := 7) (c := jzQ_16) (v := (4, 9)) (pcN := 24) jIQ_161_21 rfl rfl rfl rfl rfl rfl rfl ?_
  refine jT_xiload (v := (0, 3)) (pcN := 26) jIQ_161_24 rfl rfl rfl ?_
  refine jT_xiload (v := (0, 3)) (pcN := 28) jIQ_161_26 rfl rfl rfl ?_
  refine jT_xiconst (k := 1) (pcN := 29) jIQ_161_28 rfl ?_
  refine jT_xicT (pcN := 37) jIQ_161_29 rfl (by decide +kernel) rfl ?_
  refine jT_xiload (v := (0, 3)) (pcN := 39) jIQ_161_37 rfl rfl rfl ?_
  refine jT_xiconst (k := 2) (pcN := 40) jIQ_161_39 rfl ?_
  refine jT_xicT (pcN := 48) jIQ_161_40 rfl (by decide +kernel) rfl ?_
  refine jT_xlconst (z := 0) (pcN := 49) jIQ_161_48 rfl rfl ?_
  refine jT_adv 1 (pcN := 50) (LN := [(5, (0, 3)), (0, (4, 0)), (1, (0, r7)), (2, (0, r8)), (3, (4, 1)), (4, (0, o4))]) (stN := []) (hsN := [jzQ_16, jgh, (8, [(4, 13), (4, 14)], []), jgh, jgh, jgh, jgh, jgh, jgh, (101, [], [0, r7, r8, 0, u11_4, u11_5]), (101, [], [k12_0, k12_1, k12_2, k12_3, k12_4, k12_5]), jgh, jgh, jgh, jgh]) (c1 := 0) (s1 := 0) (c2 := 0) (s2 := 0) (by exact rfl) ?_ (by omega) (by omega)
  refine jT_xiinc (x := 3) (z := 4) (LN := [(5, (0, 4)), (0, (4, 0)), (1, (0, r7)), (2, (0, r8)), (3, (4, 1)), (4, (0, o4))]) (pcN := 53) jIQ_161_50 rfl rfl (by decide) rfl rfl ?_
  refine jT_xgoto (pcN := 13) jIQ_161_53 rfl ?_
  refine jT_xiload (v := (0, 4)) (pcN := 15) jIQ_161_13 rfl rfl rfl ?_
  refine jT_xbipush (k := 6) (pcN := 17) jIQ_161_15 (by decide) rfl ?_
  refine jT_xicF (t := 56) (pcN := 20) jIQ_161_17 rfl (by decide +kernel) rfl rfl ?_
  refine jT_xaload_n (v := (4, 0)) (pcN := 21) jIQ_161_20 rfl rfl rfl ?_
  refine jT_xgetf (a := 0) (t := 1) (ci := 13) (fi := 7) (c := jzQ_16) (v := (4, 9)) (pcN := 24) jIQ_161_21 rfl rfl rfl rfl rfl rfl rfl ?_
  refine jT_xiload (v := (0, 4)) (pcN := 26) jIQ_161_24 rfl rfl rfl ?_
  refine jT_xiload (v := (0, 4)) (pcN := 28) jIQ_161_26 rfl rfl rfl ?_
  refine jT_xiconst (k := 1) (pcN := 29) jIQ_161_28 rfl ?_
  refine jT_xicT (pcN := 37) jIQ_161_29 rfl (by decide +kernel) rfl ?_
  refine jT_xiload (v := (0, 4)) (pcN := 39) jIQ_161_37 rfl rfl rfl ?_
  refine jT_xiconst (k := 2) (pcN := 40) jIQ_161_39 rfl ?_
  refine jT_xicT (pcN := 48) jIQ_161_40 rfl (by decide +kernel) rfl ?_
  refine jT_xlconst (z := 0) (pcN := 49) jIQ_161_48 rfl rfl ?_
  refine jT_adv 1 (pcN := 50) (LN := [(5, (0, 4)), (0, (4, 0)), (1, (0, r7)), (2, (0, r8)), (3, (4, 1)), (4, (0, o4))]) (stN := []) (hsN := [jzQ_16, jgh, (8, [(4, 13), (4, 14)], []), jgh, jgh, jgh, jgh, jgh, jgh, (101, [], [0, r7, r8, 0, 0, u11_5]), (101, [], [k12_0, k12_1, k12_2, k12_3, k12_4, k12_5]), jgh, jgh, jgh, jgh]) (c1 := 0) (s1 := 0) (c2 := 0) (s2 := 0) (by exact rfl) ?_ (by omega) (by omega)
  refine jT_xiinc (x := 4) (z := 5) (LN := [(5, (0, 5)), (0, (4, 0)), (1, (0, r7)), (2, (0, r8)), (3, (4, 1)), (4, (0, o4))]) (pcN := 53) jIQ_161_50 rfl rfl (by decide) rfl rfl ?_
  refine jT_xgoto (pcN := 13) jIQ_161_53 rfl ?_
  refine jT_xiload (v := (0, 5)) (pcN := 15) jIQ_161_13 rfl rfl rfl ?_
  refine jT_xbipush (k := 6) (pcN := 17) jIQ_161_15 (by decide) rfl ?_
  refine jT_xicF (t := 56) (pcN := 20) jIQ_161_17 rfl (by decide +kernel) rfl rfl ?_
  refine jT_xaload_n (v := (4, 0)) (pcN := 21) jIQ_161_20 rfl rfl rfl ?_
  refine jT_xgetf (a := 0) (t := 1) (ci := 13) (fi := 7) (c := jzQ_16) (v := (4, 9)) (pcN := 24) jIQ_161_21 rfl rfl rfl rfl rfl rfl rfl ?_
  refine jT_xiload (v := (0, 5)) (pcN := 26) jIQ_161_24 rfl rfl rfl ?_
  refine jT_xiload (v := (0, 5)) (pcN := 28) jIQ_161_26 rfl rfl rfl ?_
  refine jT_xiconst (k := 1) (pcN := 29) jIQ_161_28 rfl ?_
  refine jT_xicT (pcN := 37) jIQ_161_29 rfl (by decide +kernel) rfl ?_
  refine jT_xiload (v := (0, 5)) (pcN := 39) jIQ_161_37 rfl rfl rfl ?_
  refine jT_xiconst (k := 2) (pcN := 40) jIQ_161_39 rfl ?_
  refine jT_xicT (pcN := 48) jIQ_161_40 rfl (by decide +kernel) rfl ?_
  refine jT_xlconst (z := 0) (pcN := 49) jIQ_161_48 rfl rfl ?_
  refine jT_adv 1 (pcN := 50) (LN := [(5, (0, 5)), (0, (4, 0)), (1, (0, r7)), (2, (0, r8)), (3, (4, 1)), (4, (0, o4))]) (stN := []) (hsN := [jzQ_16, jgh, (8, [(4, 13), (4, 14)], []), jgh, jgh, jgh, jgh, jgh, jgh, (101, [], [0, r7, r8, 0, 0, 0]), (101, [], [k12_0, k12_1, k12_2, k12_3, k12_4, k12_5]), jgh, jgh, jgh, jgh]) (c1 := 0) (s1 := 0) (c2 := 0) (s2 := 0) (by exact rfl) ?_ (by omega) (by omega)
  refine jT_xiinc (x := 5) (z := 6) (LN := [(5, (0, 6)), (0, (4, 0)), (1, (0, r7)), (2, (0, r8)), (3, (4, 1)), (4, (0, o4))]) (pcN := 53) jIQ_161_50 rfl rfl (by decide) rfl rfl ?_
  refine jT_xgoto (pcN := 13) jIQ_161_53 rfl ?_
  refine jT_xiload (v := (0, 6)) (pcN := 15) jIQ_161_13 rfl rfl rfl ?_
  refine jT_xbipush (k := 6) (pcN := 17) jIQ_161_15 (by decide) rfl ?_
  refine jT_xicT (pcN := 56) jIQ_161_17 rfl (by decide +kernel) rfl ?_
  refine jT_xaload_n (v := (4, 0)) (pcN := 57) jIQ_161_56 rfl rfl rfl ?_
  refine jT_xgetf (a := 0) (t := 1) (ci := 13) (fi := 0) (c := jzQ_16) (v := (4, 2)) (pcN := 60) jIQ_161_57 rfl rfl rfl rfl rfl rfl rfl ?_
  refine jT_xaload_n (v := (4, 0)) (pcN := 61) jIQ_161_60 rfl rfl rfl ?_
  refine jT_xgetf (a := 0) (t := 1) (ci := 13) (fi := 7) (c := jzQ_16) (v := (4, 9)) (pcN := 64) jIQ_161_61 rfl rfl rfl rfl rfl rfl rfl ?_
  refine jT_xlconst (z := 1) (pcN := 65) jIQ_161_64 rfl rfl ?_
  refine jT_xlconst (z := 1) (pcN := 66) jIQ_161_65 rfl rfl ?_
  refine jT_callA [2, 9, 13, 14] (y := 45) (pcN := 69) (dC := 1) (bc1 := 0) (bc2 := 0) (c1 := 0) (c2 := 0) (as := [(4, 2), (4, 9), (1, 1), (1, 1)]) (asC := [(4, 0), (4, 1), (1, 1), (1, 1)]) (LN := [(5, (0, 6)), (0, (4, 0)), (1, (0, r7)), (2, (0, r8)), (3, (4, 1)), (4, (0, o4))]) (stN := []) (hsC := [(8, [(4, 2), (4, 3)], []), (101, [], [0, r7, r8, 0, 0, 0]), jgh, jgh]) (ex := []) (v := (1, (108917793695 * r7 + 159561683699 * r8) / 68719476736)) (st2 := [(1, (108917793695 * r7 + 159561683699 * r8) / 68719476736)]) (hs2 := [jzQ_16, jgh, (8, [(4, 13), (4, 14)], []), jgh, jgh, jgh, jgh, jgh, jgh, (101, [], [0, r7, r8, 0, 0, 0]), (101, [], [k12_0, k12_1, k12_2, k12_3, k12_4, k12_5]), jgh, jgh, jgh, jgh]) (jQl_sp45_116 (d := 0) (by omega) (by omega)) (by rfl) (by rfl) (by rfl) (by rfl) ⟨rfl, rfl, rfl, rfl, trivial⟩ (by rfl) (by rfl) (by omega) (by show 15 ≤ 15; omega) (by omega) (by omega) rfl rfl ?_
  have hb_q1 : (-60) ≤ (108917793695 * r7 + 159561683699 * r8) / 68719476736 ∧ (108917793695 * r7 + 159561683699 * r8) / 68719476736 ≤ 60 := ⟨by omega, by omega⟩
  generalize hq_q1 : (108917793695 * r7 + 159561683699 * r8) / 68719476736 = q1 at hb_q1 g_3 ⊢
  refine jT_xlstore (v := (1, q1)) (LN := [(5, (1, q1)), (0, (4, 0)), (1, (0, r7)), (2, (0, r8)), (3, (4, 1)), (4, (0, o4))]) (pcN := 71) jIQ_161_69 rfl rfl rfl rfl ?_
  have g_4 : 0 ≤ (-68719476736) * q1 + 108917793694 * r7 + 159561683698 * r8 - 1 := by have := jcg (b := r7) (c := r8) (by omega) (by omega) (by omega); rw [hq_q1] at this; omega
  have g_5 : 0 ≤ (-68719476736) * q1 + 108917793694 * r7 + 159561683700 * r8 - 1 := by have := jcg (b := r7) (c := r8) (by omega) (by omega) (by omega); rw [hq_q1] at this; omega
  have g_6 : 0 ≤ (-68719476736) * q1 + 108917793696 * r7 + 159561683698 * r8 - 1 := by have := jcg (b := r7) (c := r8) (by omega) (by omega) (by omega); rw [hq_q1] at this; omega
  have g_7 : 0 ≤ (-68719476736) * q1 + 108917793696 * r7 + 159561683700 * r8 - 1 := by have := jcg (b := r7) (c := r8) (by omega) (by omega) (by omega); rw [hq_q1] at this; omega
  refine jT_xiload (v := (0, o4)) (pcN := 73) jIQ_161_71 rfl rfl rfl ?_
  refine jT_ifF (a := o4) (t := 107) (by rfl) (by rfl) (by rfl) (jw_idd (by omega) (by omega)) (by simp only [jcP] <;> omega) ?_
  refine jT_xiload_n (v := (0, r7)) (pcN := 77) jIQ_161_76 rfl rfl rfl ?_
  refine jT_xi2l (x := r7) (z := r7) (pcN := 78) jIQ_161_77 rfl (jw_idd (by omega) (by omega)) rfl ?_
  refine jT_xaload_n (v := (4, 0)) (pcN := 79) jIQ_161_78 rfl rfl rfl ?_
  refine jT_xgetf (a := 0) (t := 1) (ci := 13) (fi := 8) (c := jzQ_16) (v := (4, 10)) (pcN := 82) jIQ_161_79 rfl rfl rfl rfl rfl rfl rfl ?_
  refine jT_xiconst (k := 1) (pcN := 83) jIQ_161_82 rfl ?_
  refine jT_lald (x := k12_1) (a := 10) (j := 1) (fs := []) (X := [k12_0, k12_1, k12_2, k12_3, k12_4, k12_5]) jIQ_161_83 rfl rfl rfl rfl ?_
  refine jT_eq (LN := [(5, (1, q1)), (0, (4, 0)), (1, (0, r7)), (2, (0, r8)), (3, (4, 1)), (4, (0, o4))]) (stN := [(1, k12_1), (1, r7)]) (hsN := [jzQ_16, jgh, (8, [(4, 13), (4, 14)], []), jgh, jgh, jgh, jgh, jgh, jgh, (101, [], [0, r7, r8, 0, 0, 0]), (101, [], [k12_0, k12_1, k12_2, k12_3, k12_4, k12_5]), jgh, jgh, jgh, jgh]) rfl rfl rfl ?_
  refine jT_xlmul (x := r7) (y := k12_1) (z := r7 * k12_1) (pcN := 85) jIQ_161_84 rfl rfl rfl ?_
  have hb_q2 := jmul_b (x := r7) (y := k12_1) (m := 20) (n := 158) (by omega) (by omega) (by omega) (by omega)
  have hb_q2 : 0 ≤ r7 * k12_1 ∧ r7 * k12_1 ≤ 3160 := ⟨hb_q2.1, by omega⟩
  generalize hq_q2 : r7 * k12_1 = q2 at hb_q2 g_3 ⊢
  refine jT_xiload_n (v := (0, r8)) (pcN := 86) jIQ_161_85 rfl rfl rfl ?_
  refine jT_xi2l (x := r8) (z := r8) (pcN := 87) jIQ_161_86 rfl (jw_idd (by omega) (by omega)) rfl ?_
  refine jT_xaload_n (v := (4, 0)) (pcN := 88) jIQ_161_87 rfl rfl rfl ?_
  refine jT_xgetf (a := 0) (t := 1) (ci := 13) (fi := 8) (c := jzQ_16) (v := (4, 10)) (pcN := 91) jIQ_161_88 rfl rfl rfl rfl rfl rfl rfl ?_
  refine jT_xiconst (k := 2) (pcN := 92) jIQ_161_91 rfl ?_
  refine jT_lald (x := k12_2) (a := 10) (j := 2) (fs := []) (X := [k12_0, k12_1, k12_2, k12_3, k12_4, k12_5]) jIQ_161_92 rfl rfl rfl rfl ?_
  refine jT_eq (LN := [(5, (1, q1)), (0, (4, 0)), (1, (0, r7)), (2, (0, r8)), (3, (4, 1)), (4, (0, o4))]) (stN := [(1, k12_2), (1, r8), (1, q2)]) (hsN := [jzQ_16, jgh, (8, [(4, 13), (4, 14)], []), jgh, jgh, jgh, jgh, jgh, jgh, (101, [], [0, r7, r8, 0, 0, 0]), (101, [], [k12_0, k12_1, k12_2, k12_3, k12_4, k12_5]), jgh, jgh, jgh, jgh]) rfl rfl rfl ?_
  refine jT_xlmul (x := r8) (y := k12_2) (z := r8 * k12_2) (pcN := 94) jIQ_161_93 rfl rfl rfl ?_
  have hb_q3 := jmul_bs (x := r8) (y := k12_2) (m := 10) (n := 232) (by omega) (by omega) (by omega) (by omega)
  have hb_q3 : (-2320) ≤ r8 * k12_2 ∧ r8 * k12_2 ≤ 2320 := ⟨by omega, by omega⟩
  generalize hq_q3 : r8 * k12_2 = q3 at hb_q3 g_3 ⊢
  refine jT_xladd (x := q2) (y := q3) (z := q2 + q3) (pcN := 95) jIQ_161_94 rfl (rfl) rfl ?_
  refine jT_xlload (v := (1, q1)) (pcN := 97) jIQ_161_95 rfl rfl rfl ?_
  refine jT_xiload (v := (0, o4)) (pcN := 99) jIQ_161_97 rfl rfl rfl ?_
  refine jT_xi2l (x := o4) (z := o4) (pcN := 100) jIQ_161_99 rfl (jw_idd (by omega) (by omega)) rfl ?_
  refine jT_xlmul (x := q1) (y := o4) (z := q1 * o4) (pcN := 101) jIQ_161_100 rfl rfl rfl ?_
  have hb_q4 := jmul_bs (x := q1) (y := o4) (m := 60) (n := 100) (by omega) (by omega) (by omega) (by omega)
  have hb_q4 : (-6000) ≤ q1 * o4 ∧ q1 * o4 ≤ 6000 := ⟨by omega, by omega⟩
  generalize hq_q4 : q1 * o4 = q4 at hb_q4 g_3 ⊢
  refine jT_lcmp (a := q2 + q3) (b := q4) (z := 1) (by rfl) (by rfl) (jwl_idd (by omega) (by omega)) (jwl_idd (by omega) (by omega)) (by rw [decide_eq_true (show (q4 : Int) < q2 + q3 by omega)]; rfl) ?_
  refine jT_xifF (t := 107) (pcN := 105) jIQ_161_102 rfl (by decide +kernel) rfl rfl ?_
  refine jT_xiconst (k := 0) (pcN := 106) jIQ_161_105 rfl ?_
  subst hq_q4
  subst hq_q3
  subst hq_q2
  subst hq_q1
  exact jT_ret rfl (by decide) (by show 15 ≤ 15; omega) (by omega) (by omega) ⟨rfl, rfl, rfl⟩
theorem jQ_161_333 {xs : List Int} {d : Nat} {k12_0 k12_1 k12_2 k12_3 k12_4 k12_5 o4 r7 r8 u11_0 u11_1 u11_2 u11_3 u11_4 u11_5 : Int} (h_k12_0 : 1 ≤ k12_0 ∧ k12_0 ≤ 100) (h_k12_1 : 2 ≤ k12_1 ∧ k12_1 ≤ 158) (h_k12_2 : 2 ≤ k12_2 ∧ k12_2 ≤ 232) (h_k12_3 : 3 ≤ k12_3 ∧ k12_3 ≤ 281) (h_k12_4 : 3 ≤ k12_4 ∧ k12_4 ≤ 346) (h_k12_5 : 4 ≤ k12_5 ∧ k12_5 ≤ 370) (h_o4 : 1 ≤ o4 ∧ o4 ≤ 100) (h_r7 : (-20) ≤ r7 ∧ r7 ≤ 20) (h_r8 : (-10) ≤ r8 ∧ r8 ≤ 10) (g_0 : r7 < 0) (g_1 : -(((108917793695 * r7 + 159561683699 * r8) / 68719476736) * o4) + (r7 * k12_1) + (r8 * k12_2) - 1 < 0) (g_2 : -(((108917793695 * r7 + 159561683699 * r8) / 68719476736) * o4) + (r7 * k12_1) + (r8 * k12_2) < 0) : jT xs (d + 2) 161 15 0 [(0, (4, 0)), (1, (0, r7)), (2, (0, r8)), (3, (4, 1)), (4, (0, o4))] [] [jzQ_16, jgh, (8, [(4, 13), (4, 14)], []), jgh, jgh, jgh, jgh, jgh, jgh, (101, [], [u11_0, u11_1, u11_2, u11_3, u11_4, u11_5]), (101, [], [k12_0, k12_1, k12_2, k12_3, k12_4, k12_5]), jgh, jgh, jgh, jgh] 0 0 (fun k v hsN => k = 0 ∧ v = (0, 0) ∧ hsN = [jzQ_16, jgh, (8, [(4, 13), (4, 14)], []), jgh, jgh, jgh, jgh, jgh, jgh, (101, [], [0, r7, r8, 0, 0, 0]), (101, [], [k12_0, k12_1, k12_2, k12_3, k12_4, k12_5]), jgh, jgh, jgh, jgh]) := by
  refine jT_xiload_n (v := (0, r7)) (pcN := 1) jIQ_161_0 rfl rfl rfl ?_
  refine jT_ifT (a := r7) (t := 10) (by rfl) (by rfl) (by rfl) (jw_idd (by omega) (by omega)) (by simp only [jcP] <;> omega) ?_
  refine jT_xiconst (k := 0) (pcN := 11) jIQ_161_10 rfl ?_
  refine jT_xistore (v := (0, 0)) (LN := [(5, (0, 0)), (0, (4, 0)), (1, (0, r7)), (2, (0, r8)), (3, (4, 1)), (4, (0, o4))]) (pcN := 13) jIQ_161_11 rfl rfl rfl rfl ?_
  refine jT_xiload (v := (0, 0)) (pcN := 15) jIQ_161_13 rfl rfl rfl ?_
  refine jT_xbipush (k := 6) (pcN := 17) jIQ_161_15 (by decide) rfl ?_
  refine jT_xicF (t := 56) (pcN := 20) jIQ_161_17 rfl (by decide +kernel) rfl rfl ?_
  refine jT_xaload_n (v := (4, 0)) (pcN := 21) jIQ_161_20 rfl rfl rfl ?_
  refine jT_xgetf (a := 0) (t := 1) (ci := 13) (fi := 7) (c := jzQ_16) (v := (4, 9)) (pcN := 24) jIQ_161_21 rfl rfl rfl rfl rfl rfl rfl ?_
  refine jT_xiload (v := (0, 0)) (pcN := 26) jIQ_161_24 rfl rfl rfl ?_
  refine jT_xiload (v := (0, 0)) (pcN := 28) jIQ_161_26 rfl rfl rfl ?_
  refine jT_xiconst (k := 1) (pcN := 29) jIQ_161_28 rfl ?_
  refine jT_xicT (pcN := 37) jIQ_161_29 rfl (by decide +kernel) rfl ?_
  refine jT_xiload (v := (0, 0)) (pcN := 39) jIQ_161_37 rfl rfl rfl ?_
  refine jT_xiconst (k := 2) (pcN := 40) jIQ_161_39 rfl ?_
  refine jT_xicT (pcN := 48) jIQ_161_40 rfl (by decide +kernel) rfl ?_
  refine jT_xlconst (z := 0) (pcN := 49) jIQ_161_48 rfl rfl ?_
  refine jT_adv 1 (pcN := 50) (LN := [(5, (0, 0)), (0, (4, 0)), (1, (0, r7)), (2, (0, r8)), (3, (4, 1)), (4, (0, o4))]) (stN := []) (hsN := [jzQ_16, jgh, (8, [(4, 13), (4, 14)], []), jgh, jgh, jgh, jgh, jgh, jgh, (101, [], [0, u11_1, u11_2, u11_3, u11_4, u11_5]), (101, [], [k12_0, k12_1, k12_2, k12_3, k12_4, k12_5]), jgh, jgh, jgh, jgh]) (c1 := 0) (s1 := 0) (c2 := 0) (s2 := 0) (by exact rfl) ?_ (by omega) (by omega)
  refine jT_xiinc (x := 0) (z := 1) (LN := [(5, (0, 1)), (0, (4, 0)), (1, (0, r7)), (2, (0, r8)), (3, (4, 1)), (4, (0, o4))]) (pcN := 53) jIQ_161_50 rfl rfl (by decide) rfl rfl ?_
  refine jT_xgoto (pcN := 13) jIQ_161_53 rfl ?_
  refine jT_xiload (v := (0, 1)) (pcN := 15) jIQ_161_13 rfl rfl rfl ?_
  refine jT_xbipush (k := 6) (pcN := 17) jIQ_161_15 (by decide) rfl ?_
  refine jT_xicF (t := 56) (pcN := 20) jIQ_161_17 rfl (by decide +kernel) rfl rfl ?_
  refine jT_xaload_n (v := (4, 0)) (pcN := 21) jIQ_161_20 rfl rfl rfl ?_
  refine jT_xgetf (a := 0) (t := 1) (ci := 13) (fi := 7) (c := jzQ_16) (v := (4, 9)) (pcN := 24) jIQ_161_21 rfl rfl rfl rfl rfl rfl rfl ?_
  refine jT_xiload (v := (0, 1)) (pcN := 26) jIQ_161_24 rfl rfl rfl ?_
  refine jT_xiload (v := (0, 1)) (pcN := 28) jIQ_161_26 rfl rfl rfl ?_
  refine jT_xiconst (k := 1) (pcN := 29) jIQ_161_28 rfl ?_
  refine jT_xicF (t := 37) (pcN := 32) jIQ_161_29 rfl (by decide +kernel) rfl rfl ?_
  refine jT_xiload_n (v := (0, r7)) (pcN := 33) jIQ_161_32 rfl rfl rfl ?_
  refine jT_xi2l (x := r7) (z := r7) (pcN := 34) jIQ_161_33 rfl (jw_idd (by omega) (by omega)) rfl ?_
  refine jT_xgoto (pcN := 49) jIQ_161_34 rfl ?_
  refine jT_adv 1 (pcN := 50) (LN := [(5, (0, 1)), (0, (4, 0)), (1, (0, r7)), (2, (0, r8)), (3, (4, 1)), (4, (0, o4))]) (stN := []) (hsN := [jzQ_16, jgh, (8, [(4, 13), (4, 14)], []), jgh, jgh, jgh, jgh, jgh, jgh, (101, [], [0, r7, u11_2, u11_3, u11_4, u11_5]), (101, [], [k12_0, k12_1, k12_2, k12_3, k12_4, k12_5]), jgh, jgh, jgh, jgh]) (c1 := 0) (s1 := 0) (c2 := 0) (s2 := 0) (by exact rfl) ?_ (by omega) (by omega)
  refine jT_xiinc (x := 1) (z := 2) (LN := [(5, (0, 2)), (0, (4, 0)), (1, (0, r7)), (2, (0, r8)), (3, (4, 1)), (4, (0, o4))]) (pcN := 53) jIQ_161_50 rfl rfl (by decide) rfl rfl ?_
  refine jT_xgoto (pcN := 13) jIQ_161_53 rfl ?_
  refine jT_xiload (v := (0, 2)) (pcN := 15) jIQ_161_13 rfl rfl rfl ?_
  refine jT_xbipush (k := 6) (pcN := 17) jIQ_161_15 (by decide) rfl ?_
  refine jT_xicF (t := 56) (pcN := 20) jIQ_161_17 rfl (by decide +kernel) rfl rfl ?_
  refine jT_xaload_n (v := (4, 0)) (pcN := 21) jIQ_161_20 rfl rfl rfl ?_
  refine jT_xgetf (a := 0) (t := 1) (ci := 13) (fi := 7) (c := jzQ_16) (v := (4, 9)) (pcN := 24) jIQ_161_21 rfl rfl rfl rfl rfl rfl rfl ?_
  refine jT_xiload (v := (0, 2)) (pcN := 26) jIQ_161_24 rfl rfl rfl ?_
  refine jT_xiload (v := (0, 2)) (pcN := 28) jIQ_161_26 rfl rfl rfl ?_
  refine jT_xiconst (k := 1) (pcN := 29) jIQ_161_28 rfl ?_
  refine jT_xicT (pcN := 37) jIQ_161_29 rfl (by decide +kernel) rfl ?_
  refine jT_xiload (v := (0, 2)) (pcN := 39) jIQ_161_37 rfl rfl rfl ?_
  refine jT_xiconst (k := 2) (pcN := 40) jIQ_161_39 rfl ?_
  refine jT_xicF (t := 48) (pcN := 43) jIQ_161_40 rfl (by decide +kernel) rfl rfl ?_
  refine jT_xiload_n (v := (0, r8)) (pcN := 44) jIQ_161_43 rfl rfl rfl ?_
  refine jT_xi2l (x := r8) (z := r8) (pcN := 45) jIQ_161_44 rfl (jw_idd (by omega) (by omega)) rfl ?_
  refine jT_xgoto (pcN := 49) jIQ_161_45 rfl ?_
  refine jT_adv 1 (pcN := 50) (LN := [(5, (0, 2)), (0, (4, 0)), (1, (0, r7)), (2, (0, r8)), (3, (4, 1)), (4, (0, o4))]) (stN := []) (hsN := [jzQ_16, jgh, (8, [(4, 13), (4, 14)], []), jgh, jgh, jgh, jgh, jgh, jgh, (101, [], [0, r7, r8, u11_3, u11_4, u11_5]), (101, [], [k12_0, k12_1, k12_2, k12_3, k12_4, k12_5]), jgh, jgh, jgh, jgh]) (c1 := 0) (s1 := 0) (c2 := 0) (s2 := 0) (by exact rfl) ?_ (by omega) (by omega)
  refine jT_xiinc (x := 2) (z := 3) (LN := [(5, (0, 3)), (0, (4, 0)), (1, (0, r7)), (2, (0, r8)), (3, (4, 1)), (4, (0, o4))]) (pcN := 53) jIQ_161_50 rfl rfl (by decide) rfl rfl ?_
  refine jT_xgoto (pcN := 13) jIQ_161_53 rfl ?_
  refine jT_xiload (v := (0, 3)) (pcN := 15) jIQ_161_13 rfl rfl rfl ?_
  refine jT_xbipush (k := 6) (pcN := 17) jIQ_161_15 (by decide) rfl ?_
  refine jT_xicF (t := 56) (pcN := 20) jIQ_161_17 rfl (by decide +kernel) rfl rfl ?_
  refine jT_xaload_n (v := (4, 0)) (pcN := 21) jIQ_161_20 rfl rfl rfl ?_
  refine jT_xgetf (a := 0) (t := 1) (ci := 13) (fi := 7) (c := jzQ_16) (v := (4, 9)) (pcN := 24) jIQ_161_21 rfl rfl rfl rfl rfl rfl rfl ?_
  refine jT_xiload (v := (0, 3)) (pcN := 26) jIQ_161_24 rfl rfl rfl ?_
  refine jT_xiload (v := (0, 3)) (pcN := 28) jIQ_161_26 rfl rfl rfl ?_
  refine jT_xiconst (k := 1) (pcN := 29) jIQ_161_28 rfl ?_
  refine jT_xicT (pcN := 37) jIQ_161_29 rfl (by decide +kernel) rfl ?_
  refine jT_xiload (v := (0, 3)) (pcN := 39) jIQ_161_37 rfl rfl rfl ?_
  refine jT_xiconst (k := 2) (pcN := 40) jIQ_161_39 rfl ?_
  refine jT_xicT (pcN := 48) jIQ_161_40 rfl (by decide +kernel) rfl ?_
  refine jT_xlconst (z := 0) (pcN := 49) jIQ_161_48 rfl rfl ?_
  refine jT_adv 1 (pcN := 50) (LN := [(5, (0, 3)), (0, (4, 0)), (1, (0, r7)), (2, (0, r8)), (3, (4, 1)), (4, (0, o4))]) (stN := []) (hsN := [jzQ_16, jgh, (8, [(4, 13), (4, 14)], []), jgh, jgh, jgh, jgh, jgh, jgh, (101, [], [0, r7, r8, 0, u11_4, u11_5]), (101, [], [k12_0, k12_1, k12_2, k12_3, k12_4, k12_5]), jgh, jgh, jgh, jgh]) (c1 := 0) (s1 := 0) (c2 := 0) (s2 := 0) (by exact rfl) ?_ (by omega) (by omega)
  refine jT_xiinc (x := 3) (z := 4) (LN := [(5, (0, 4)), (0, (4, 0)), (1, (0, r7)), (2, (0, r8)), (3, (4, 1)), (4, (0, o4))]) (pcN := 53) jIQ_161_50 rfl rfl (by decide) rfl rfl ?_
  refine jT_xgoto (pcN := 13) jIQ_161_53 rfl ?_
  refine jT_xiload (v := (0, 4)) (pcN := 15) jIQ_161_13 rfl rfl rfl ?_
  refine jT_xbipush (k := 6) (pcN := 17) jIQ_161_15 (by decide) rfl ?_
  refine jT_xicF (t := 56) (pcN := 20) jIQ_161_17 rfl (by decide +kernel) rfl rfl ?_
  refine jT_xaload_n (v := (4, 0)) (pcN := 21) jIQ_161_20 rfl rfl rfl ?_
  refine jT_xgetf (a := 0) (t := 1) (ci := 13) (fi := 7) (c := jzQ_16) (v := (4, 9)) (pcN := 24) jIQ_161_21 rfl rfl rfl rfl rfl rfl rfl ?_
  refine jT_xiload (v := (0, 4)) (pcN := 26) jIQ_161_24 rfl rfl rfl ?_
  refine jT_xiload (v := (0, 4)) (pcN := 28) jIQ_161_26 rfl rfl rfl ?_
  refine jT_xiconst (k := 1) (pcN := 29) jIQ_161_28 rfl ?_
  refine jT_xicT (pcN := 37) jIQ_161_29 rfl (by decide +kernel) rfl ?_
  refine jT_xiload (v := (0, 4)) (pcN := 39) jIQ_161_37 rfl rfl rfl ?_
  refine jT_xiconst (k := 2) (pcN := 40) jIQ_161_39 rfl ?_
  refine jT_xicT (pcN := 48) jIQ_161_40 rfl (by decide +kernel) rfl ?_
  refine jT_xlconst (z := 0) (pcN := 49) jIQ_161_48 rfl rfl ?_
  refine jT_adv 1 (pcN := 50) (LN := [(5, (0, 4)), (0, (4, 0)), (1, (0, r7)), (2, (0, r8)), (3, (4, 1)), (4, (0, o4))]) (stN := []) (hsN := [jzQ_16, jgh, (8, [(4, 13), (4, 14)], []), jgh, jgh, jgh, jgh, jgh, jgh, (101, [], [0, r7, r8, 0, 0, u11_5]), (101, [], [k12_0, k12_1, k12_2, k12_3, k12_4, k12_5]), jgh, jgh, jgh, jgh]) (c1 := 0) (s1 := 0) (c2 := 0) (s2 := 0) (by exact rfl) ?_ (by omega) (by omega)
  refine jT_xiinc (x := 4) (z := 5) (LN := [(5, (0, 5)), (0, (4, 0)), (1, (0, r7)), (2, (0, r8)), (3, (4, 1)), (4, (0, o4))]) (pcN := 53) jIQ_161_50 rfl rfl (by decide) rfl rfl ?_
  refine jT_xgoto (pcN := 13) jIQ_161_53 rfl ?_
  refine jT_xiload (v := (0, 5)) (pcN := 15) jIQ_161_13 rfl rfl rfl ?_
  refine jT_xbipush (k := 6) (pcN := 17) jIQ_161_15 (by decide) rfl ?_
  refine jT_xicF (t := 56) (pcN := 20) jIQ_161_17 rfl (by decide +kernel) rfl rfl ?_
  refine jT_xaload_n (v := (4, 0)) (pcN := 21) jIQ_161_20 rfl rfl rfl ?_
  refine jT_xgetf (a := 0) (t := 1) (ci := 13) (fi := 7) (c := jzQ_16) (v := (4, 9)) (pcN := 24) jIQ_161_21 rfl rfl rfl rfl rfl rfl rfl ?_
  refine jT_xiload (v := (0, 5)) (pcN := 26) jIQ_161_24 rfl rfl rfl ?_
  refine jT_xiload (v := (0, 5)) (pcN := 28) jIQ_161_26 rfl rfl rfl ?_
  refine jT_xiconst (k := 1) (pcN := 29) jIQ_161_28 rfl ?_
  refine jT_xicT (pcN := 37) jIQ_161_29 rfl (by decide +kernel) rfl ?_
  refine jT_xiload (v := (0, 5)) (pcN := 39) jIQ_161_37 rfl rfl rfl ?_
  refine jT_xiconst (k := 2) (pcN := 40) jIQ_161_39 rfl ?_
  refine jT_xicT (pcN := 48) jIQ_161_40 rfl (by decide +kernel) rfl ?_
  refine jT_xlconst (z := 0) (pcN := 49) jIQ_161_48 rfl rfl ?_
  refine jT_adv 1 (pcN := 50) (LN := [(5, (0, 5)), (0, (4, 0)), (1, (0, r7)), (2, (0, r8)), (3, (4, 1)), (4, (0, o4))]) (stN := []) (hsN := [jzQ_16, jgh, (8, [(4, 13), (4, 14)], []), jgh, jgh, jgh, jgh, jgh, jgh, (101, [], [0, r7, r8, 0, 0, 0]), (101, [], [k12_0, k12_1, k12_2, k12_3, k12_4, k12_5]), jgh, jgh, jgh, jgh]) (c1 := 0) (s1 := 0) (c2 := 0) (s2 := 0) (by exact rfl) ?_ (by omega) (by omega)
  refine jT_xiinc (x := 5) (z := 6) (LN := [(5, (0, 6)), (0, (4, 0)), (1, (0, r7)), (2, (0, r8)), (3, (4, 1)), (4, (0, o4))]) (pcN := 53) jIQ_161_50 rfl rfl (by decide) rfl rfl ?_
  refine jT_xgoto (pcN := 13) jIQ_161_53 rfl ?_
  refine jT_xiload (v := (0, 6)) (pcN := 15) jIQ_161_13 rfl rfl rfl ?_
  refine jT_xbipush (k := 6) (pcN := 17) jIQ_161_15 (by decide) rfl ?_
  refine jT_xicT (pcN := 56) jIQ_161_17 rfl (by decide +kernel) rfl ?_
  refine jT_xaload_n (v := (4, 0)) (pcN := 57) jIQ_161_56 rfl rfl rfl ?_
  refine jT_xgetf (a := 0) (t := 1) (ci := 13) (fi := 0) (c := jzQ_16) (v := (4, 2)) (pcN := 60) jIQ_161_57 rfl rfl rfl rfl rfl rfl rfl ?_
  refine jT_xaload_n (v := (4, 0)) (pcN := 61) jIQ_161_60 rfl rfl rfl ?_
  refine jT_xgetf (a := 0) (t := 1) (ci := 13) (fi := 7) (c := jzQ_16) (v := (4, 9)) (pcN := 64) jIQ_161_61 rfl rfl rfl rfl rfl rfl rfl ?_
  refine jT_xlconst (z := 1) (pcN := 65) jIQ_161_64 rfl rfl ?_
  refine jT_xlconst (z := 1) (pcN := 66) jIQ_161_65 rfl rfl ?_
  refine jT_callA [2, 9, 13, 14] (y := 45) (pcN := 69) (dC := 1) (bc1 := 0) (bc2 := 0) (c1 := 0) (c2 := 0) (as := [(4, 2), (4, 9), (1, 1), (1, 1)]) (asC := [(4, 0), (4, 1), (1, 1), (1, 1)]) (LN := [(5, (0, 6)), (0, (4, 0)), (1, (0, r7)), (2, (0, r8)), (3, (4, 1)), (4, (0, o4))]) (stN := []) (hsC := [(8, [(4, 2), (4, 3)], []), (101, [], [0, r7, r8, 0, 0, 0]), jgh, jgh]) (ex := []) (v := (1, (108917793695 * r7 + 159561683699 * r8) / 68719476736)) (st2 := [(1, (108917793695 * r7 + 159561683699 * r8) / 68719476736)]) (hs2 := [jzQ_16, jgh, (8, [(4, 13), (4, 14)], []), jgh, jgh, jgh, jgh, jgh, jgh, (101, [], [0, r7, r8, 0, 0, 0]), (101, [], [k12_0, k12_1, k12_2, k12_3, k12_4, k12_5]), jgh, jgh, jgh, jgh]) (jQl_sp45_116 (d := 0) (by omega) (by omega)) (by rfl) (by rfl) (by rfl) (by rfl) ⟨rfl, rfl, rfl, rfl, trivial⟩ (by rfl) (by rfl) (by omega) (by show 15 ≤ 15; omega) (by omega) (by omega) rfl rfl ?_
  have hb_q1 : (-60) ≤ (108917793695 * r7 + 159561683699 * r8) / 68719476736 ∧ (108917793695 * r7 + 159561683699 * r8) / 68719476736 ≤ 60 := ⟨by omega, by omega⟩
  generalize hq_q1 : (108917793695 * r7 + 159561683699 * r8) / 68719476736 = q1 at hb_q1 g_1 g_2 ⊢
  refine jT_xlstore (v := (1, q1)) (LN := [(5, (1, q1)), (0, (4, 0)), (1, (0, r7)), (2, (0, r8)), (3, (4, 1)), (4, (0, o4))]) (pcN := 71) jIQ_161_69 rfl rfl rfl rfl ?_
  have g_3 : 0 ≤ (-68719476736) * q1 + 108917793694 * r7 + 159561683698 * r8 - 1 := by have := jcg (b := r7) (c := r8) (by omega) (by omega) (by omega); rw [hq_q1] at this; omega
  have g_4 : 0 ≤ (-68719476736) * q1 + 108917793694 * r7 + 159561683700 * r8 - 1 := by have := jcg (b := r7) (c := r8) (by omega) (by omega) (by omega); rw [hq_q1] at this; omega
  have g_5 : 0 ≤ (-68719476736) * q1 + 108917793696 * r7 + 159561683698 * r8 - 1 := by have := jcg (b := r7) (c := r8) (by omega) (by omega) (by omega); rw [hq_q1] at this; omega
  have g_6 : 0 ≤ (-68719476736) * q1 + 108917793696 * r7 + 159561683700 * r8 - 1 := by have := jcg (b := r7) (c := r8) (by omega) (by omega) (by omega); rw [hq_q1] at this; omega
  refine jT_xiload (v := (0, o4)) (pcN := 73) jIQ_161_71 rfl rfl rfl ?_
  refine jT_ifF (a := o4) (t := 107) (by rfl) (by rfl) (by rfl) (jw_idd (by omega) (by omega)) (by simp only [jcP] <;> omega) ?_
  refine jT_xiload_n (v := (0, r7)) (pcN := 77) jIQ_161_76 rfl rfl rfl ?_
  refine jT_xi2l (x := r7) (z := r7) (pcN := 78) jIQ_161_77 rfl (jw_idd (by omega) (by omega)) rfl ?_
  refine jT_xaload_n (v := (4, 0)) (pcN := 79) jIQ_161_78 rfl rfl rfl ?_
  refine jT_xgetf (a := 0) (t := 1) (ci := 13) (fi := 8) (c := jzQ_16) (v := (4, 10)) (pcN := 82) jIQ_161_79 rfl rfl rfl rfl rfl rfl rfl ?_
  refine jT_xiconst (k := 1) (pcN := 83) jIQ_161_82 rfl ?_
  refine jT_lald (x := k12_1) (a := 10) (j := 1) (fs := []) (X := [k12_0, k12_1, k12_2, k12_3, k12_4, k12_5]) jIQ_161_83 rfl rfl rfl rfl ?_
  refine jT_eq (LN := [(5, (1, q1)), (0, (4, 0)), (1, (0, r7)), (2, (0, r8)), (3, (4, 1)), (4, (0, o4))]) (stN := [(1, k12_1), (1, r7)]) (hsN := [jzQ_16, jgh, (8, [(4, 13), (4, 14)], []), jgh, jgh, jgh, jgh, jgh, jgh, (101, [], [0, r7, r8, 0, 0, 0]), (101, [], [k12_0, k12_1, k12_2, k12_3, k12_4, k12_5]), jgh, jgh, jgh, jgh]) rfl rfl rfl ?_
  refine jT_xlmul (x := r7) (y := k12_1) (z := r7 * k12_1) (pcN := 85) jIQ_161_84 rfl rfl rfl ?_
  have hb_q2 := jmul_bs (x := r7) (y := k12_1) (m := 20) (n := 158) (by omega) (by omega) (by omega) (by omega)
  have hb_q2 : (-3160) ≤ r7 * k12_1 ∧ r7 * k12_1 ≤ 3160 := ⟨by omega, by omega⟩
  generalize hq_q2 : r7 * k12_1 = q2 at hb_q2 g_1 g_2 ⊢
  refine jT_xiload_n (v := (0, r8)) (pcN := 86) jIQ_161_85 rfl rfl rfl ?_
  refine jT_xi2l (x := r8) (z := r8) (pcN := 87) jIQ_161_86 rfl (jw_idd (by omega) (by omega)) rfl ?_
  refine jT_xaload_n (v := (4, 0)) (pcN := 88) jIQ_161_87 rfl rfl rfl ?_
  refine jT_xgetf (a := 0) (t := 1) (ci := 13) (fi := 8) (c := jzQ_16) (v := (4, 10)) (pcN := 91) jIQ_161_88 rfl rfl rfl rfl rfl rfl rfl ?_
  refine jT_xiconst (k := 2) (pcN := 92) jIQ_161_91 rfl ?_
  refine jT_lald (x := k12_2) (a := 10) (j := 2) (fs := []) (X := [k12_0, k12_1, k12_2, k12_3, k12_4, k12_5]) jIQ_161_92 rfl rfl rfl rfl ?_
  refine jT_eq (LN := [(5, (1, q1)), (0, (4, 0)), (1, (0, r7)), (2, (0, r8)), (3, (4, 1)), (4, (0, o4))]) (stN := [(1, k12_2), (1, r8), (1, q2)]) (hsN := [jzQ_16, jgh, (8, [(4, 13), (4, 14)], []), jgh, jgh, jgh, jgh, jgh, jgh, (101, [], [0, r7, r8, 0, 0, 0]), (101, [], [k12_0, k12_1, k12_2, k12_3, k12_4, k12_5]), jgh, jgh, jgh, jgh]) rfl rfl rfl ?_
  refine jT_xlmul (x := r8) (y := k12_2) (z := r8 * k12_2) (pcN := 94) jIQ_161_93 rfl rfl rfl ?_
  have hb_q3 := jmul_bs (x := r8) (y := k12_2) (m := 10) (n := 232) (by omega) (by omega) (by omega) (by omega)
  have hb_q3 : (-2320) ≤ r8 * k12_2 ∧ r8 * k12_2 ≤ 2320 := ⟨by omega, by omega⟩
  generalize hq_q3 : r8 * k12_2 = q3 at hb_q3 g_1 g_2 ⊢
  refine jT_xladd (x := q2) (y := q3) (z := q2 + q3) (pcN := 95) jIQ_161_94 rfl (rfl) rfl ?_
  refine jT_xlload (v := (1, q1)) (pcN := 97) jIQ_161_95 rfl rfl rfl ?_
  refine jT_xiload (v := (0, o4)) (pcN := 99) jIQ_161_97 rfl rfl rfl ?_
  refine jT_xi2l (x := o4) (z := o4) (pcN := 100) jIQ_161_99 rfl (jw_idd (by omega) (by omega)) rfl ?_
  refine jT_xlmul (x := q1) (y := o4) (z := q1 * o4) (pcN := 101) jIQ_161_100 rfl rfl rfl ?_
  have hb_q4 := jmul_bs (x := q1) (y := o4) (m := 60) (n := 100) (by omega) (by omega) (by omega) (by omega)
  have hb_q4 : (-6000) ≤ q1 * o4 ∧ q1 * o4 ≤ 6000 := ⟨by omega, by omega⟩
  generalize hq_q4 : q1 * o4 = q4 at hb_q4 g_1 g_2 ⊢
  refine jT_lcmp (a := q2 + q3) (b := q4) (z := (-1)) (by rfl) (by rfl) (jwl_idd (by omega) (by omega)) (jwl_idd (by omega) (by omega)) (by rw [decide_eq_false (show ¬ ((q4 : Int) < q2 + q3) by omega), decide_eq_false (show ¬ ((q2 + q3 : Int) = q4) by omega)]; rfl) ?_
  refine jT_xifF (t := 107) (pcN := 105) jIQ_161_102 rfl (by decide +kernel) rfl rfl ?_
  refine jT_xiconst (k := 0) (pcN := 106) jIQ_161_105 rfl ?_
  subst hq_q4
  subst hq_q3
  subst hq_q2
  subst hq_q1
  exact jT_ret rfl (by decide) (by show 15 ≤ 15; omega) (by omega) (by omega) ⟨rfl, rfl, rfl⟩
theorem jQ_161_334 {xs : List Int} {d : Nat} {k12_0 k12_1 k12_2 k12_3 k12_4 k12_5 o4 r7 r8 u11_0 u11_1 u11_2 u11_3 u11_4 u11_5 : Int} (h_k12_0 : 1 ≤ k12_0 ∧ k12_0 ≤ 100) (h_k12_1 : 2 ≤ k12_1 ∧ k12_1 ≤ 158) (h_k12_2 : 2 ≤ k12_2 ∧ k12_2 ≤ 232) (h_k12_3 : 3 ≤ k12_3 ∧ k12_3 ≤ 281) (h_k12_4 : 3 ≤ k12_4 ∧ k12_4 ≤ 346) (h_k12_5 : 4 ≤ k12_5 ∧ k12_5 ≤ 370) (h_o4 : 1 ≤ o4 ∧ o4 ≤ 100) (h_r7 : (-20) ≤ r7 ∧ r7 ≤ 20) (h_r8 : (-10) ≤ r8 ∧ r8 ≤ 10) (g_0 : r7 < 0) (g_1 : -(((108917793695 * r7 + 159561683699 * r8) / 68719476736) * o4) + (r7 * k12_1) + (r8 * k12_2) - 1 < 0) (g_2 : 0 ≤ -(((108917793695 * r7 + 159561683699 * r8) / 68719476736) * o4) + (r7 * k12_1) + (r8 * k12_2)) : jT xs (d + 2) 161 16 0 [(0, (4, 0)), (1, (0, r7)), (2, (0, r8)), (3, (4, 1)), (4, (0, o4))] [] [jzQ_16, (4, [(4, 13), (1, 1)], []), (8, [(4, 14), (4, 15)], []), jgh, jgh, jgh, jgh, jgh, jgh, (101, [], [u11_0, u11_1, u11_2, u11_3, u11_4, u11_5]), (101, [], [k12_0, k12_1, k12_2, k12_3, k12_4, k12_5]), jgh, jgh, (101, [], [0, 0, 0, 0, 0, 0]), jgh, jgh] 0 0 (fun k v hsN => k = 0 ∧ v = (0, 0) ∧ hsN = [jzQ_16, (4, [(4, 13), (1, 1)], []), (8, [(4, 14), (4, 15)], []), jgh, jgh, jgh, jgh, jgh, jgh, (101, [], [(108917793695 * r7 + 159561683699 * r8) / 68719476736, -r7, -r8, 0, 0, 0]), (101, [], [k12_0, k12_1, k12_2, k12_3, k12_4, k12_5]), jgh, jgh, (101, [], [0, 0, 0, 0, 0, 0]), jgh, jgh]) := by
  refine jT_xiload_n (v := (0, r7)) (pcN := 1) jIQ_161_0 rfl rfl rfl ?_
  refine jT_ifT (a := r7) (t := 10) (by rfl) (by rfl) (by rfl) (jw_idd (by omega) (by omega)) (by simp only [jcP] <;> omega) ?_
  refine jT_xiconst (k := 0) (pcN := 11) jIQ_161_10 rfl ?_
  refine jT_xistore (v := (0, 0)) (LN := [(5, (0, 0)), (0, (4, 0)), (1, (0, r7)), (2, (0, r8)), (3, (4, 1)), (4, (0, o4))]) (pcN := 13) jIQ_161_11 rfl rfl rfl rfl ?_
  refine jT_xiload (v := (0, 0)) (pcN := 15) jIQ_161_13 rfl rfl rfl ?_
  refine jT_xbipush (k := 6) (pcN := 17) jIQ_161_15 (by decide) rfl ?_
  refine jT_xicF (t := 56) (pcN := 20) jIQ_161_17 rfl (by decide +kernel) rfl rfl ?_
  refine jT_xaload_n (v := (4, 0)) (pcN := 21) jIQ_161_20 rfl rfl rfl ?_
  refine jT_xgetf (a := 0) (t := 1) (ci := 13) (fi := 7) (c := jzQ_16) (v := (4, 9)) (pcN := 24) jIQ_161_21 rfl rfl rfl rfl rfl rfl rfl ?_
  refine jT_xiload (v := (0, 0)) (pcN := 26) jIQ_161_24 rfl rfl rfl ?_
  refine jT_xiload (v := (0, 0)) (pcN := 28) jIQ_161_26 rfl rfl rfl ?_
  refine jT_xiconst (k := 1) (pcN := 29) jIQ_161_28 rfl ?_
  refine jT_xicT (pcN := 37) jIQ_161_29 rfl (by decide +kernel) rfl ?_
  refine jT_xiload (v := (0, 0)) (pcN := 39) jIQ_161_37 rfl rfl rfl ?_
  refine jT_xiconst (k := 2) (pcN := 40) jIQ_161_39 rfl ?_
  refine jT_xicT (pcN := 48) jIQ_161_40 rfl (by decide +kernel) rfl ?_
  refine jT_xlconst (z := 0) (pcN := 49) jIQ_161_48 rfl rfl ?_
  refine jT_adv 1 (pcN := 50) (LN := [(5, (0, 0)), (0, (4, 0)), (1, (0, r7)), (2, (0, r8)), (3, (4, 1)), (4, (0, o4))]) (stN := []) (hsN := [jzQ_16, (4, [(4, 13), (1, 1)], []), (8, [(4, 14), (4, 15)], []), jgh, jgh, jgh, jgh, jgh, jgh, (101, [], [0, u11_1, u11_2, u11_3, u11_4, u11_5]), (101, [], [k12_0, k12_1, k12_2, k12_3, k12_4, k12_5]), jgh, jgh, (101, [], [0, 0, 0, 0, 0, 0]), jgh, jgh]) (c1 := 0) (s1 := 0) (c2 := 0) (s2 := 0) (by exact rfl) ?_ (by omega) (by omega)
  refine jT_xiinc (x := 0) (z := 1) (LN := [(5, (0, 1)), (0, (4, 0)), (1, (0, r7)), (2, (0, r8)), (3, (4, 1)), (4, (0, o4))]) (pcN := 53) jIQ_161_50 rfl rfl (by decide) rfl rfl ?_
  refine jT_xgoto (pcN := 13) jIQ_161_53 rfl ?_
  refine jT_xiload (v := (0, 1)) (pcN := 15) jIQ_161_13 rfl rfl rfl ?_
  refine jT_xbipush (k := 6) (pcN := 17) jIQ_161_15 (by decide) rfl ?_
  refine jT_xicF (t := 56) (pcN := 20) jIQ_161_17 rfl (by decide +kernel) rfl rfl ?_
  refine jT_xaload_n (v := (4, 0)) (pcN := 21) jIQ_161_20 rfl rfl rfl ?_
  refine jT_xgetf (a := 0) (t := 1) (ci := 13) (fi := 7) (c := jzQ_16) (v := (4, 9)) (pcN := 24) jIQ_161_21 rfl rfl rfl rfl rfl rfl rfl ?_
  refine jT_xiload (v := (0, 1)) (pcN := 26) jIQ_161_24 rfl rfl rfl ?_
  refine jT_xiload (v := (0, 1)) (pcN := 28) jIQ_161_26 rfl rfl rfl ?_
  refine jT_xiconst (k := 1) (pcN := 29) jIQ_161_28 rfl ?_
  refine jT_xicF (t := 37) (pcN := 32) jIQ_161_29 rfl (by decide +kernel) rfl rfl ?_
  refine jT_xiload_n (v := (0, r7)) (pcN := 33) jIQ_161_32 rfl rfl rfl ?_
  refine jT_xi2l (x := r7) (z := r7) (pcN := 34) jIQ_161_33 rfl (jw_idd (by omega) (by omega)) rfl ?_
  refine jT_xgoto (pcN := 49) jIQ_161_34 rfl ?_
  refine jT_adv 1 (pcN := 50) (LN := [(5, (0, 1)), (0, (4, 0)), (1, (0, r7)), (2, (0, r8)), (3, (4, 1)), (4, (0, o4))]) (stN := []) (hsN := [jzQ_16, (4, [(4, 13), (1, 1)], []), (8, [(4, 14), (4, 15)], []), jgh, jgh, jgh, jgh, jgh, jgh, (101, [], [0, r7, u11_2, u11_3, u11_4, u11_5]), (101, [], [k12_0, k12_1, k12_2, k12_3, k12_4, k12_5]), jgh, jgh, (101, [], [0, 0, 0, 0, 0, 0]), jgh, jgh]) (c1 := 0) (s1 := 0) (c2 := 0) (s2 := 0) (by exact rfl) ?_ (by omega) (by omega)
  refine jT_xiinc (x := 1) (z := 2) (LN := [(5, (0, 2)), (0, (4, 0)), (1, (0, r7)), (2, (0, r8)), (3, (4, 1)), (4, (0, o4))]) (pcN := 53) jIQ_161_50 rfl rfl (by decide) rfl rfl ?_
  refine jT_xgoto (pcN := 13) jIQ_161_53 rfl ?_
  refine jT_xiload (v := (0, 2)) (pcN := 15) jIQ_161_13 rfl rfl rfl ?_
  refine jT_xbipush (k := 6) (pcN := 17) jIQ_161_15 (by decide) rfl ?_
  refine jT_xicF (t := 56) (pcN := 20) jIQ_161_17 rfl (by decide +kernel) rfl rfl ?_
  refine jT_xaload_n (v := (4, 0)) (pcN := 21) jIQ_161_20 rfl rfl rfl ?_
  refine jT_xgetf (a := 0) (t := 1) (ci := 13) (fi := 7) (c := jzQ_16) (v := (4, 9)) (pcN := 24) jIQ_161_21 rfl rfl rfl rfl rfl rfl rfl ?_
  refine jT_xiload (v := (0, 2)) (pcN := 26) jIQ_161_24 rfl rfl rfl ?_
  refine jT_xiload (v := (0, 2)) (pcN := 28) jIQ_161_26 rfl rfl rfl ?_
  refine jT_xiconst (k := 1) (pcN := 29) jIQ_161_28 rfl ?_
  refine jT_xicT (pcN := 37) jIQ_161_29 rfl (by decide +kernel) rfl ?_
  refine jT_xiload (v := (0, 2)) (pcN := 39) jIQ_161_37 rfl rfl rfl ?_
  refine jT_xiconst (k := 2) (pcN := 40) jIQ_161_39 rfl ?_
  refine jT_xicF (t := 48) (pcN := 43) jIQ_161_40 rfl (by decide +kernel) rfl rfl ?_
  refine jT_xiload_n (v := (0, r8)) (pcN := 44) jIQ_161_43 rfl rfl rfl ?_
  refine jT_xi2l (x := r8) (z := r8) (pcN := 45) jIQ_161_44 rfl (jw_idd (by omega) (by omega)) rfl ?_
  refine jT_xgoto (pcN := 49) jIQ_161_45 rfl ?_
  refine jT_adv 1 (pcN := 50) (LN := [(5, (0, 2)), (0, (4, 0)), (1, (0, r7)), (2, (0, r8)), (3, (4, 1)), (4, (0, o4))]) (stN := []) (hsN := [jzQ_16, (4, [(4, 13), (1, 1)], []), (8, [(4, 14), (4, 15)], []), jgh, jgh, jgh, jgh, jgh, jgh, (101, [], [0, r7, r8, u11_3, u11_4, u11_5]), (101, [], [k12_0, k12_1, k12_2, k12_3, k12_4, k12_5]), jgh, jgh, (101, [], [0, 0, 0, 0, 0, 0]), jgh, jgh]) (c1 := 0) (s1 := 0) (c2 := 0) (s2 := 0) (by exact rfl) ?_ (by omega) (by omega)
  refine jT_xiinc (x := 2) (z := 3) (LN := [(5, (0, 3)), (0, (4, 0)), (1, (0, r7)), (2, (0, r8)), (3, (4, 1)), (4, (0, o4))]) (pcN := 53) jIQ_161_50 rfl rfl (by decide) rfl rfl ?_
  refine jT_xgoto (pcN := 13) jIQ_161_53 rfl ?_
  refine jT_xiload (v := (0, 3)) (pcN := 15) jIQ_161_13 rfl rfl rfl ?_
  refine jT_xbipush (k := 6) (pcN := 17) jIQ_161_15 (by decide) rfl ?_
  refine jT_xicF (t := 56) (pcN := 20) jIQ_161_17 rfl (by decide +kernel) rfl rfl ?_
  refine jT_xaload_n (v := (4, 0)) (pcN := 21) jIQ_161_20 rfl rfl rfl ?_
  refine jT_xgetf (a := 0) (t := 1) (ci := 13) (fi := 7) (c := jzQ_16) (v := (4, 9)) (pcN := 24) jIQ_161_21 rfl rfl rfl rfl rfl rfl rfl ?_
  refine jT_xiload (v := (0, 3)) (pcN := 26) jIQ_161_24 rfl rfl rfl ?_
  refine jT_xiload (v := (0, 3)) (pcN := 28) jIQ_161_26 rfl rfl rfl ?_
  refine jT_xiconst (k := 1) (pcN := 29) jIQ_161_28 rfl ?_
  refine jT_xicT (pcN := 37) jIQ_161_29 rfl (by decide +kernel) rfl ?_
  refine jT_xiload (v := (0, 3)) (pcN := 39) jIQ_161_37 rfl rfl rfl ?_
  refine jT_xiconst (k := 2) (pcN := 40) jIQ_161_39 rfl ?_
  refine jT_xicT (pcN := 48) jIQ_161_40 rfl (by decide +kernel) rfl ?_
  refine jT_xlconst (z := 0) (pcN := 49) jIQ_161_48 rfl rfl ?_
  refine jT_adv 1 (pcN := 50) (LN := [(5, (0, 3)), (0, (4, 0)), (1, (0, r7)), (2, (0, r8)), (3, (4, 1)), (4, (0, o4))]) (stN := []) (hsN := [jzQ_16, (4, [(4, 13), (1, 1)], []), (8, [(4, 14), (4, 15)], []), jgh, jgh, jgh, jgh, jgh, jgh, (101, [], [0, r7, r8, 0, u11_4, u11_5]), (101, [], [k12_0, k12_1, k12_2, k12_3, k12_4, k12_5]), jgh, jgh, (101, [], [0, 0, 0, 0, 0, 0]), jgh, jgh]) (c1 := 0) (s1 := 0) (c2 := 0) (s2 := 0) (by exact rfl) ?_ (by omega) (by omega)
  refine jT_xiinc (x := 3) (z := 4) (LN := [(5, (0, 4)), (0, (4, 0)), (1, (0, r7)), (2, (0, r8)), (3, (4, 1)), (4, (0, o4))]) (pcN := 53) jIQ_161_50 rfl rfl (by decide) rfl rfl ?_
  refine jT_xgoto (pcN := 13) jIQ_161_53 rfl ?_
  refine jT_xiload (v := (0, 4)) (pcN := 15) jIQ_161_13 rfl rfl rfl ?_
  refine jT_xbipush (k := 6) (pcN := 17) jIQ_161_15 (by decide) rfl ?_
  refine jT_xicF (t := 56) (pcN := 20) jIQ_161_17 rfl (by decide +kernel) rfl rfl ?_
  refine jT_xaload_n (v := (4, 0)) (pcN := 21) jIQ_161_20 rfl rfl rfl ?_
  refine jT_xgetf (a := 0) (t := 1) (ci := 13) (fi := 7) (c := jzQ_16) (v := (4, 9)) (pcN := 24) jIQ_161_21 rfl rfl rfl rfl rfl rfl rfl ?_
  refine jT_xiload (v := (0, 4)) (pcN := 26) jIQ_161_24 rfl rfl rfl ?_
  refine jT_xiload (v := (0, 4)) (pcN := 28) jIQ_161_26 rfl rfl rfl ?_
  refine jT_xiconst (k := 1) (pcN := 29) jIQ_161_28 rfl ?_
  refine jT_xicT (pcN := 37) jIQ_161_29 rfl (by decide +kernel) rfl ?_
  refine jT_xiload (v := (0, 4)) (pcN := 39) jIQ_161_37 rfl rfl rfl ?_
  refine jT_xiconst (k := 2) (pcN := 40) jIQ_161_39 rfl ?_
  refine jT_xicT (pcN := 48) jIQ_161_40 rfl (by decide +kernel) rfl ?_
  refine jT_xlconst (z := 0) (pcN := 49) jIQ_161_48 rfl rfl ?_
  refine jT_adv 1 (pcN := 50) (LN := [(5, (0, 4)), (0, (4, 0)), (1, (0, r7)), (2, (0, r8)), (3, (4, 1)), (4, (0, o4))]) (stN := []) (hsN := [jzQ_16, (4, [(4, 13), (1, 1)], []), (8, [(4, 14), (4, 15)], []), jgh, jgh, jgh, jgh, jgh, jgh, (101, [], [0, r7, r8, 0, 0, u11_5]), (101, [], [k12_0, k12_1, k12_2, k12_3, k12_4, k12_5]), jgh, jgh, (101, [], [0, 0, 0, 0, 0, 0]), jgh, jgh]) (c1 := 0) (s1 := 0) (c2 := 0) (s2 := 0) (by exact rfl) ?_ (by omega) (by omega)
  refine jT_xiinc (x := 4) (z := 5) (LN := [(5, (0, 5)), (0, (4, 0)), (1, (0, r7)), (2, (0, r8)), (3, (4, 1)), (4, (0, o4))]) (pcN := 53) jIQ_161_50 rfl rfl (by decide) rfl rfl ?_
  refine jT_xgoto (pcN := 13) jIQ_161_53 rfl ?_
  refine jT_xiload (v := (0, 5)) (pcN := 15) jIQ_161_13 rfl rfl rfl ?_
  refine jT_xbipush (k := 6) (pcN := 17) jIQ_161_15 (by decide) rfl ?_
  refine jT_xicF (t := 56) (pcN := 20) jIQ_161_17 rfl (by decide +kernel) rfl rfl ?_
  refine jT_xaload_n (v := (4, 0)) (pcN := 21) jIQ_161_20 rfl rfl rfl ?_
  refine jT_xgetf (a := 0) (t := 1) (ci := 13) (fi := 7) (c := jzQ_16) (v := (4, 9)) (pcN := 24) jIQ_161_21 rfl rfl rfl rfl rfl rfl rfl ?_
  refine jT_xiload (v := (0, 5)) (pcN := 26) jIQ_161_24 rfl rfl rfl ?_
  refine jT_xiload (v := (0, 5)) (pcN := 28) jIQ_161_26 rfl rfl rfl ?_
  refine jT_xiconst (k := 1) (pcN := 29) jIQ_161_28 rfl ?_
  refine jT_xicT (pcN := 37) jIQ_161_29 rfl (by decide +kernel) rfl ?_
  refine jT_xiload (v := (0, 5)) (pcN := 39) jIQ_161_37 rfl rfl rfl ?_
  refine jT_xiconst (k := 2) (pcN := 40) jIQ_161_39 rfl ?_
  refine jT_xicT (pcN := 48) jIQ_161_40 rfl (by decide +kernel) rfl ?_
  refine jT_xlconst (z := 0) (pcN := 49) jIQ_161_48 rfl rfl ?_
  refine jT_adv 1 (pcN := 50) (LN := [(5, (0, 5)), (0, (4, 0)), (1, (0, r7)), (2, (0, r8)), (3, (4, 1)), (4, (0, o4))]) (stN := []) (hsN := [jzQ_16, (4, [(4, 13), (1, 1)], []), (8, [(4, 14), (4, 15)], []), jgh, jgh, jgh, jgh, jgh, jgh, (101, [], [0, r7, r8, 0, 0, 0]), (101, [], [k12_0, k12_1, k12_2, k12_3, k12_4, k12_5]), jgh, jgh, (101, [], [0, 0, 0, 0, 0, 0]), jgh, jgh]) (c1 := 0) (s1 := 0) (c2 := 0) (s2 := 0) (by exact rfl) ?_ (by omega) (by omega)
  refine jT_xiinc (x := 5) (z := 6) (LN := [(5, (0, 6)), (0, (4, 0)), (1, (0, r7)), (2, (0, r8)), (3, (4, 1)), (4, (0, o4))]) (pcN := 53) jIQ_161_50 rfl rfl (by decide) rfl rfl ?_
  refine jT_xgoto (pcN := 13) jIQ_161_53 rfl ?_
  refine jT_xiload (v := (0, 6)) (pcN := 15) jIQ_161_13 rfl rfl rfl ?_
  refine jT_xbipush (k := 6) (pcN := 17) jIQ_161_15 (by decide) rfl ?_
  refine jT_xicT (pcN := 56) jIQ_161_17 rfl (by decide +kernel) rfl ?_
  refine jT_xaload_n (v := (4, 0)) (pcN := 57) jIQ_161_56 rfl rfl rfl ?_
  refine jT_xgetf (a := 0) (t := 1) (ci := 13) (fi := 0) (c := jzQ_16) (v := (4, 2)) (pcN := 60) jIQ_161_57 rfl rfl rfl rfl rfl rfl rfl ?_
  refine jT_xaload_n (v := (4, 0)) (pcN := 61) jIQ_161_60 rfl rfl rfl ?_
  refine jT_xgetf (a := 0) (t := 1) (ci := 13) (fi := 7) (c := jzQ_16) (v := (4, 9)) (pcN := 64) jIQ_161_61 rfl rfl rfl rfl rfl rfl rfl ?_
  refine jT_xlconst (z := 1) (pcN := 65) jIQ_161_64 rfl rfl ?_
  refine jT_xlconst (z := 1) (pcN := 66) jIQ_161_65 rfl rfl ?_
  refine jT_callA [2, 9, 14, 15] (y := 45) (pcN := 69) (dC := 1) (bc1 := 0) (bc2 := 0) (c1 := 0) (c2 := 0) (as := [(4, 2), (4, 9), (1, 1), (1, 1)]) (asC := [(4, 0), (4, 1), (1, 1), (1, 1)]) (LN := [(5, (0, 6)), (0, (4, 0)), (1, (0, r7)), (2, (0, r8)), (3, (4, 1)), (4, (0, o4))]) (stN := []) (hsC := [(8, [(4, 2), (4, 3)], []), (101, [], [0, r7, r8, 0, 0, 0]), jgh, jgh]) (ex := []) (v := (1, (108917793695 * r7 + 159561683699 * r8) / 68719476736)) (st2 := [(1, (108917793695 * r7 + 159561683699 * r8) / 68719476736)]) (hs2 := [jzQ_16, (4, [(4, 13), (1, 1)], []), (8, [(4, 14), (4, 15)], []), jgh, jgh, jgh, jgh, jgh, jgh, (101, [], [0, r7, r8, 0, 0, 0]), (101, [], [k12_0, k12_1, k12_2, k12_3, k12_4, k12_5]), jgh, jgh, (101, [], [0, 0, 0, 0, 0, 0]), jgh, jgh]) (jQl_sp45_116 (d := 0) (by omega) (by omega)) (by rfl) (by rfl) (by rfl) (by rfl) ⟨rfl, rfl, rfl, rfl, trivial⟩ (by rfl) (by rfl) (by omega) (by show 16 ≤ 16; omega) (by omega) (by omega) rfl rfl ?_
  have hb_q1 : (-60) ≤ (108917793695 * r7 + 159561683699 * r8) / 68719476736 ∧ (108917793695 * r7 + 159561683699 * r8) / 68719476736 ≤ 60 := ⟨by omega, by omega⟩
  generalize hq_q1 : (108917793695 * r7 + 159561683699 * r8) / 68719476736 = q1 at hb_q1 g_1 g_2 ⊢
  refine jT_xlstore (v := (1, q1)) (LN := [(5, (1, q1)), (0, (4, 0)), (1, (0, r7)), (2, (0, r8)), (3, (4, 1)), (4, (0, o4))]) (pcN := 71) jIQ_161_69 rfl rfl rfl rfl ?_
  have g_3 : 0 ≤ (-68719476736) * q1 + 108917793694 * r7 + 159561683698 * r8 - 1 := by have := jcg (b := r7) (c := r8) (by omega) (by omega) (by omega); rw [hq_q1] at this; omega
  have g_4 : 0 ≤ (-68719476736) * q1 + 108917793694 * r7 + 159561683700 * r8 - 1 := by have := jcg (b := r7) (c := r8) (by omega) (by omega) (by omega); rw [hq_q1] at this; omega
  have g_5 : 0 ≤ (-68719476736) * q1 + 108917793696 * r7 + 159561683698 * r8 - 1 := by have := jcg (b := r7) (c := r8) (by omega) (by omega) (by omega); rw [hq_q1] at this; omega
  have g_6 : 0 ≤ (-68719476736) * q1 + 108917793696 * r7 + 159561683700 * r8 - 1 := by have := jcg (b := r7) (c := r8) (by omega) (by omega) (by omega); rw [hq_q1] at this; omega
  refine jT_xiload (v := (0, o4)) (pcN := 73) jIQ_161_71 rfl rfl rfl ?_
  refine jT_ifF (a := o4) (t := 107) (by rfl) (by rfl) (by rfl) (jw_idd (by omega) (by omega)) (by simp only [jcP] <;> omega) ?_
  refine jT_xiload_n (v := (0, r7)) (pcN := 77) jIQ_161_76 rfl rfl rfl ?_
  refine jT_xi2l (x := r7) (z := r7) (pcN := 78) jIQ_161_77 rfl (jw_idd (by omega) (by omega)) rfl ?_
  refine jT_xaload_n (v := (4, 0)) (pcN := 79) jIQ_161_78 rfl rfl rfl ?_
  refine jT_xgetf (a := 0) (t := 1) (ci := 13) (fi := 8) (c := jzQ_16) (v := (4, 10)) (pcN := 82) jIQ_161_79 rfl rfl rfl rfl rfl rfl rfl ?_
  refine jT_xiconst (k := 1) (pcN := 83) jIQ_161_82 rfl ?_
  refine jT_lald (x := k12_1) (a := 10) (j := 1) (fs := []) (X := [k12_0, k12_1, k12_2, k12_3, k12_4, k12_5]) jIQ_161_83 rfl rfl rfl rfl ?_
  refine jT_eq (LN := [(5, (1, q1)), (0, (4, 0)), (1, (0, r7)), (2, (0, r8)), (3, (4, 1)), (4, (0, o4))]) (stN := [(1, k12_1), (1, r7)]) (hsN := [jzQ_16, (4, [(4, 13), (1, 1)], []), (8, [(4, 14), (4, 15)], []), jgh, jgh, jgh, jgh, jgh, jgh, (101, [], [0, r7, r8, 0, 0, 0]), (101, [], [k12_0, k12_1, k12_2, k12_3, k12_4, k12_5]), jgh, jgh, (101, [], [0, 0, 0, 0, 0, 0]), jgh, jgh]) rfl rfl rfl ?_
  refine jT_xlmul (x := r7) (y := k12_1) (z := r7 * k12_1) (pcN := 85) jIQ_161_84 rfl rfl rfl ?_
  have hb_q2 := jmul_bs (x := r7) (y := k12_1) (m := 20) (n := 158) (by omega) (by omega) (by omega) (by omega)
  have hb_q2 : (-3160) ≤ r7 * k12_1 ∧ r7 * k12_1 ≤ 3160 := ⟨by omega, by omega⟩
  generalize hq_q2 : r7 * k12_1 = q2 at hb_q2 g_1 g_2 ⊢
  refine jT_xiload_n (v := (0, r8)) (pcN := 86) jIQ_161_85 rfl rfl rfl ?_
  refine jT_xi2l (x := r8) (z := r8) (pcN := 87) jIQ_161_86 rfl (jw_idd (by omega) (by omega)) rfl ?_
  refine jT_xaload_n (v := (4, 0)) (pcN := 88) jIQ_161_87 rfl rfl rfl ?_
  refine jT_xgetf (a := 0) (t := 1) (ci := 13) (fi := 8) (c := jzQ_16) (v := (4, 10)) (pcN := 91) jIQ_161_88 rfl rfl rfl rfl rfl rfl rfl ?_
  refine jT_xiconst (k := 2) (pcN := 92) jIQ_161_91 rfl ?_
  refine jT_lald (x := k12_2) (a := 10) (j := 2) (fs := []) (X := [k12_0, k12_1, k12_2, k12_3, k12_4, k12_5]) jIQ_161_92 rfl rfl rfl rfl ?_
  refine jT_eq (LN := [(5, (1, q1)), (0, (4, 0)), (1, (0, r7)), (2, (0, r8)), (3, (4, 1)), (4, (0, o4))]) (stN := [(1, k12_2), (1, r8), (1, q2)]) (hsN := [jzQ_16, (4, [(4, 13), (1, 1)], []), (8, [(4, 14), (4, 15)], []), jgh, jgh, jgh, jgh, jgh, jgh, (101, [], [0, r7, r8, 0, 0, 0]), (101, [], [k12_0, k12_1, k12_2, k12_3, k12_4, k12_5]), jgh, jgh, (101, [], [0, 0, 0, 0, 0, 0]), jgh, jgh]) rfl rfl rfl ?_
  refine jT_xlmul (x := r8) (y := k12_2) (z := r8 * k12_2) (pcN := 94) jIQ_161_93 rfl rfl rfl ?_
  have hb_q3 := jmul_bs (x := r8) (y := k12_2) (m := 10) (n := 232) (by omega) (by omega) (by omega) (by omega)
  have hb_q3 : (-2320) ≤ r8 * k12_2 ∧ r8 * k12_2 ≤ 2320 := ⟨by omega, by omega⟩
  generalize hq_q3 : r8 * k12_2 = q3 at hb_q3 g_1 g_2 ⊢
  refine jT_xladd (x := q2) (y := q3) (z := q2 + q3) (pcN := 95) jIQ_161_94 rfl (rfl) rfl ?_
  refine jT_xlload (v := (1, q1)) (pcN := 97) jIQ_161_95 rfl rfl rfl ?_
  refine jT_xiload (v := (0, o4)) (pcN := 99) jIQ_161_97 rfl rfl rfl ?_
  refine jT_xi2l (x := o4) (z := o4) (pcN := 100) jIQ_161_99 rfl (jw_idd (by omega) (by omega)) rfl ?_
  refine jT_xlmul (x := q1) (y := o4) (z := q1 * o4) (pcN := 101) jIQ_161_100 rfl rfl rfl ?_
  have hb_q4 := jmul_bs (x := q1) (y := o4) (m := 60) (n := 100) (by omega) (by omega) (by omega) (by omega)
  have hb_q4 : (-6000) ≤ q1 * o4 ∧ q1 * o4 ≤ 6000 := ⟨by omega, by omega⟩
  generalize hq_q4 : q1 * o4 = q4 at hb_q4 g_1 g_2 ⊢
  refine jT_lcmp (a := q2 + q3) (b := q4) (z := 0) (by rfl) (by rfl) (jwl_idd (by omega) (by omega)) (jwl_idd (by omega) (by omega)) (by rw [decide_eq_false (show ¬ ((q4 : Int) < q2 + q3) by omega), decide_eq_true (show (q2 + q3 : Int) = q4 by omega)]; rfl) ?_
  refine jT_xifT (pcN := 107) jIQ_161_102 rfl (by decide +kernel) rfl ?_
  refine jT_xaload_n (v := (4, 0)) (pcN := 108) jIQ_161_107 rfl rfl rfl ?_
  refine jT_xgetf (a := 0) (t := 1) (ci := 13) (fi := 7) (c := jzQ_16) (v := (4, 9)) (pcN := 111) jIQ_161_108 rfl rfl rfl rfl rfl rfl rfl ?_
  refine jT_xiconst (k := 0) (pcN := 112) jIQ_161_111 rfl ?_
  refine jT_xlload (v := (1, q1)) (pcN := 114) jIQ_161_112 rfl rfl rfl ?_
  refine jT_adv 2 (pcN := 116) (LN := [(5, (1, q1)), (0, (4, 0)), (1, (0, r7)), (2, (0, r8)), (3, (4, 1)), (4, (0, o4))]) (stN := []) (hsN := [jzQ_16, (4, [(4, 13), (1, 1)], []), (8, [(4, 14), (4, 15)], []), jgh, jgh, jgh, jgh, jgh, jgh, (101, [], [-q1, r7, r8, 0, 0, 0]), (101, [], [k12_0, k12_1, k12_2, k12_3, k12_4, k12_5]), jgh, jgh, (101, [], [0, 0, 0, 0, 0, 0]), jgh, jgh]) (c1 := 0) (s1 := 0) (c2 := 0) (s2 := 0) (by exact rfl) ?_ (by omega) (by omega)
  refine jT_xiconst (k := 0) (pcN := 117) jIQ_161_116 rfl ?_
  refine jT_xistore (v := (0, 0)) (LN := [(7, (0, 0)), (5, (1, q1)), (0, (4, 0)), (1, (0, r7)), (2, (0, r8)), (3, (4, 1)), (4, (0, o4))]) (pcN := 119) jIQ_161_117 rfl rfl rfl rfl ?_
  refine jT_xiload (v := (0, 0)) (pcN := 121) jIQ_161_119 rfl rfl rfl ?_
  refine jT_xbipush (k := 6) (pcN := 123) jIQ_161_121 (by decide) rfl ?_
  refine jT_xicF (t := 159) (pcN := 126) jIQ_161_123 rfl (by decide +kernel) rfl rfl ?_
  refine jT_xaload_n (v := (4, 0)) (pcN := 127) jIQ_161_126 rfl rfl rfl ?_
  refine jT_xgetf (a := 0) (t := 1) (ci := 13) (fi := 7) (c := jzQ_16) (v := (4, 9)) (pcN := 130) jIQ_161_127 rfl rfl rfl rfl rfl rfl rfl ?_
  refine jT_xiload (v := (0, 0)) (pcN := 132) jIQ_161_130 rfl rfl rfl ?_
  refine jT_xaload_n (v := (4, 1)) (pcN := 133) jIQ_161_132 rfl rfl rfl ?_
  refine jT_xgetf (a := 1) (t := 2) (ci := 4) (fi := 0) (c := (4, [(4, 13), (1, 1)], [])) (v := (4, 13)) (pcN := 136) jIQ_161_133 rfl rfl rfl rfl rfl rfl rfl ?_
  refine jT_xiload (v := (0, 0)) (pcN := 138) jIQ_161_136 rfl rfl rfl ?_
  refine jT_lald (x := 0) (a := 13) (j := 0) (fs := []) (X := [0, 0, 0, 0, 0, 0]) jIQ_161_138 rfl rfl rfl rfl ?_
  refine jT_eq (LN := [(7, (0, 0)), (5, (1, q1)), (0, (4, 0)), (1, (0, r7)), (2, (0, r8)), (3, (4, 1)), (4, (0, o4))]) (stN := [(1, 0), (0, 0), (4, 9)]) (hsN := [jzQ_16, (4, [(4, 13), (1, 1)], []), (8, [(4, 14), (4, 15)], []), jgh, jgh, jgh, jgh, jgh, jgh, (101, [], [-q1, r7, r8, 0, 0, 0]), (101, [], [k12_0, k12_1, k12_2, k12_3, k12_4, k12_5]), jgh, jgh, (101, [], [0, 0, 0, 0, 0, 0]), jgh, jgh]) rfl rfl rfl ?_
  refine jT_xaload_n (v := (4, 0)) (pcN := 140) jIQ_161_139 rfl rfl rfl ?_
  refine jT_xgetf (a := 0) (t := 1) (ci := 13) (fi := 7) (c := jzQ_16) (v := (4, 9)) (pcN := 143) jIQ_161_140 rfl rfl rfl rfl rfl rfl rfl ?_
  refine jT_xiload (v := (0, 0)) (pcN := 145) jIQ_161_143 rfl rfl rfl ?_
  refine jT_lald (x := -q1) (a := 9) (j := 0) (fs := []) (X := [-q1, r7, r8, 0, 0, 0]) jIQ_161_145 rfl rfl rfl rfl ?_
  refine jT_eq (LN := [(7, (0, 0)), (5, (1, q1)), (0, (4, 0)), (1, (0, r7)), (2, (0, r8)), (3, (4, 1)), (4, (0, o4))]) (stN := [(1, -q1), (1, 0), (0, 0), (4, 9)]) (hsN := [jzQ_16, (4, [(4, 13), (1, 1)], []), (8, [(4, 14), (4, 15)], []), jgh, jgh, jgh, jgh, jgh, jgh, (101, [], [-q1, r7, r8, 0, 0, 0]), (101, [], [k12_0, k12_1, k12_2, k12_3, k12_4, k12_5]), jgh, jgh, (101, [], [0, 0, 0, 0, 0, 0]), jgh, jgh]) rfl rfl rfl ?_
  refine jT_xaload_n (v := (4, 1)) (pcN := 147) jIQ_161_146 rfl rfl rfl ?_
  refine jT_xgetf (a := 1) (t := 2) (ci := 4) (fi := 1) (c := (4, [(4, 13), (1, 1)], [])) (v := (1, 1)) (pcN := 150) jIQ_161_147 rfl rfl rfl rfl rfl rfl rfl ?_
  refine jT_xlmul (x := -q1) (y := 1) (z := -q1) (pcN := 151) jIQ_161_150 rfl (by omega) rfl ?_
  refine jT_xlsub (x := 0) (y := -q1) (z := q1) (pcN := 152) jIQ_161_151 rfl (by omega) rfl ?_
  refine jT_adv 1 (pcN := 153) (LN := [(7, (0, 0)), (5, (1, q1)), (0, (4, 0)), (1, (0, r7)), (2, (0, r8)), (3, (4, 1)), (4, (0, o4))]) (stN := []) (hsN := [jzQ_16, (4, [(4, 13), (1, 1)], []), (8, [(4, 14), (4, 15)], []), jgh, jgh, jgh, jgh, jgh, jgh, (101, [], [q1, r7, r8, 0, 0, 0]), (101, [], [k12_0, k12_1, k12_2, k12_3, k12_4, k12_5]), jgh, jgh, (101, [], [0, 0, 0, 0, 0, 0]), jgh, jgh]) (c1 := 0) (s1 := 0) (c2 := 0) (s2 := 0) (by exact rfl) ?_ (by omega) (by omega)
  refine jT_xiinc (x := 0) (z := 1) (LN := [(7, (0, 1)), (5, (1, q1)), (0, (4, 0)), (1, (0, r7)), (2, (0, r8)), (3, (4, 1)), (4, (0, o4))]) (pcN := 156) jIQ_161_153 rfl rfl (by decide) rfl rfl ?_
  refine jT_xgoto (pcN := 119) jIQ_161_156 rfl ?_
  refine jT_xiload (v := (0, 1)) (pcN := 121) jIQ_161_119 rfl rfl rfl ?_
  refine jT_xbipush (k := 6) (pcN := 123) jIQ_161_121 (by decide) rfl ?_
  refine jT_xicF (t := 159) (pcN := 126) jIQ_161_123 rfl (by decide +kernel) rfl rfl ?_
  refine jT_xaload_n (v := (4, 0)) (pcN := 127) jIQ_161_126 rfl rfl rfl ?_
  refine jT_xgetf (a := 0) (t := 1) (ci := 13) (fi := 7) (c := jzQ_16) (v := (4, 9)) (pcN := 130) jIQ_161_127 rfl rfl rfl rfl rfl rfl rfl ?_
  refine jT_xiload (v := (0, 1)) (pcN := 132) jIQ_161_130 rfl rfl rfl ?_
  refine jT_xaload_n (v := (4, 1)) (pcN := 133) jIQ_161_132 rfl rfl rfl ?_
  refine jT_xgetf (a := 1) (t := 2) (ci := 4) (fi := 0) (c := (4, [(4, 13), (1, 1)], [])) (v := (4, 13)) (pcN := 136) jIQ_161_133 rfl rfl rfl rfl rfl rfl rfl ?_
  refine jT_xiload (v := (0, 1)) (pcN := 138) jIQ_161_136 rfl rfl rfl ?_
  refine jT_lald (x := 0) (a := 13) (j := 1) (fs := []) (X := [0, 0, 0, 0, 0, 0]) jIQ_161_138 rfl rfl rfl rfl ?_
  refine jT_eq (LN := [(7, (0, 1)), (5, (1, q1)), (0, (4, 0)), (1, (0, r7)), (2, (0, r8)), (3, (4, 1)), (4, (0, o4))]) (stN := [(1, 0), (0, 1), (4, 9)]) (hsN := [jzQ_16, (4, [(4, 13), (1, 1)], []), (8, [(4, 14), (4, 15)], []), jgh, jgh, jgh, jgh, jgh, jgh, (101, [], [q1, r7, r8, 0, 0, 0]), (101, [], [k12_0, k12_1, k12_2, k12_3, k12_4, k12_5]), jgh, jgh, (101, [], [0, 0, 0, 0, 0, 0]), jgh, jgh]) rfl rfl rfl ?_
  refine jT_xaload_n (v := (4, 0)) (pcN := 140) jIQ_161_139 rfl rfl rfl ?_
  refine jT_xgetf (a := 0) (t := 1) (ci := 13) (fi := 7) (c := jzQ_16) (v := (4, 9)) (pcN := 143) jIQ_161_140 rfl rfl rfl rfl rfl rfl rfl ?_
  refine jT_xiload (v := (0, 1)) (pcN := 145) jIQ_161_143 rfl rfl rfl ?_
  refine jT_lald (x := r7) (a := 9) (j := 1) (fs := []) (X := [q1, r7, r8, 0, 0, 0]) jIQ_161_145 rfl rfl rfl rfl ?_
  refine jT_eq (LN := [(7, (0, 1)), (5, (1, q1)), (0, (4, 0)), (1, (0, r7)), (2, (0, r8)), (3, (4, 1)), (4, (0, o4))]) (stN := [(1, r7), (1, 0), (0, 1), (4, 9)]) (hsN := [jzQ_16, (4, [(4, 13), (1, 1)], []), (8, [(4, 14), (4, 15)], []), jgh, jgh, jgh, jgh, jgh, jgh, (101, [], [q1, r7, r8, 0, 0, 0]), (101, [], [k12_0, k12_1, k12_2, k12_3, k12_4, k12_5]), jgh, jgh, (101, [], [0, 0, 0, 0, 0, 0]), jgh, jgh]) rfl rfl rfl ?_
  refine jT_xaload_n (v := (4, 1)) (pcN := 147) jIQ_161_146 rfl rfl rfl ?_
  refine jT_xgetf (a := 1) (t := 2) (ci := 4) (fi := 1) (c := (4, [(4, 13), (1, 1)], [])) (v := (1, 1)) (pcN := 150) jIQ_161_147 rfl rfl rfl rfl rfl rfl rfl ?_
  refine jT_xlmul (x := r7) (y := 1) (z := r7) (pcN := 151) jIQ_161_150 rfl (by omega) rfl ?_
  refine jT_xlsub (x := 0) (y := r7) (z := -r7) (pcN := 152) jIQ_161_151 rfl (by omega) rfl ?_
  refine jT_adv 1 (pcN := 153) (LN := [(7, (0, 1)), (5, (1, q1)), (0, (4, 0)), (1, (0, r7)), (2, (0, r8)), (3, (4, 1)), (4, (0, o4))]) (stN := []) (hsN := [jzQ_16, (4, [(4, 13), (1, 1)], []), (8, [(4, 14), (4, 15)], []), jgh, jgh, jgh, jgh, jgh, jgh, (101, [], [q1, -r7, r8, 0, 0, 0]), (101, [], [k12_0, k12_1, k12_2, k12_3, k12_4, k12_5]), jgh, jgh, (101, [], [0, 0, 0, 0, 0, 0]), jgh, jgh]) (c1 := 0) (s1 := 0) (c2 := 0) (s2 := 0) (by exact rfl) ?_ (by omega) (by omega)
  refine jT_xiinc (x := 1) (z := 2) (LN := [(7, (0, 2)), (5, (1, q1)), (0, (4, 0)), (1, (0, r7)), (2, (0, r8)), (3, (4, 1)), (4, (0, o4))]) (pcN := 156) jIQ_161_153 rfl rfl (by decide) rfl rfl ?_
  refine jT_xgoto (pcN := 119) jIQ_161_156 rfl ?_
  refine jT_xiload (v := (0, 2)) (pcN := 121) jIQ_161_119 rfl rfl rfl ?_
  refine jT_xbipush (k := 6) (pcN := 123) jIQ_161_121 (by decide) rfl ?_
  refine jT_xicF (t := 159) (pcN := 126) jIQ_161_123 rfl (by decide +kernel) rfl rfl ?_
  refine jT_xaload_n (v := (4, 0)) (pcN := 127) jIQ_161_126 rfl rfl rfl ?_
  refine jT_xgetf (a := 0) (t := 1) (ci := 13) (fi := 7) (c := jzQ_16) (v := (4, 9)) (pcN := 130) jIQ_161_127 rfl rfl rfl rfl rfl rfl rfl ?_
  refine jT_xiload (v := (0, 2)) (pcN := 132) jIQ_161_130 rfl rfl rfl ?_
  refine jT_xaload_n (v := (4, 1)) (pcN := 133) jIQ_161_132 rfl rfl rfl ?_
  refine jT_xgetf (a := 1) (t := 2) (ci := 4) (fi := 0) (c := (4, [(4, 13), (1, 1)], [])) (v := (4, 13)) (pcN := 136) jIQ_161_133 rfl rfl rfl rfl rfl rfl rfl ?_
  refine jT_xiload (v := (0, 2)) (pcN := 138) jIQ_161_136 rfl rfl rfl ?_
  refine jT_lald (x := 0) (a := 13) (j := 2) (fs := []) (X := [0, 0, 0, 0, 0, 0]) jIQ_161_138 rfl rfl rfl rfl ?_
  refine jT_eq (LN := [(7, (0, 2)), (5, (1, q1)), (0, (4, 0)), (1, (0, r7)), (2, (0, r8)), (3, (4, 1)), (4, (0, o4))]) (stN := [(1, 0), (0, 2), (4, 9)]) (hsN := [jzQ_16, (4, [(4, 13), (1, 1)], []), (8, [(4, 14), (4, 15)], []), jgh, jgh, jgh, jgh, jgh, jgh, (101, [], [q1, -r7, r8, 0, 0, 0]), (101, [], [k12_0, k12_1, k12_2, k12_3, k12_4, k12_5]), jgh, jgh, (101, [], [0, 0, 0, 0, 0, 0]), jgh, jgh]) rfl rfl rfl ?_
  refine jT_xaload_n (v := (4, 0)) (pcN := 140) jIQ_161_139 rfl rfl rfl ?_
  refine jT_xgetf (a := 0) (t := 1) (ci := 13) (fi := 7) (c := jzQ_16) (v := (4, 9)) (pcN := 143) jIQ_161_140 rfl rfl rfl rfl rfl rfl rfl ?_
  refine jT_xiload (v := (0, 2)) (pcN := 145) jIQ_161_143 rfl rfl rfl ?_
  refine jT_lald (x := r8) (a := 9) (j := 2) (fs := []) (X := [q1, -r7, r8, 0, 0, 0]) jIQ_161_145 rfl rfl rfl rfl ?_
  refine jT_eq (LN := [(7, (0, 2)), (5, (1, q1)), (0, (4, 0)), (1, (0, r7)), (2, (0, r8)), (3, (4, 1)), (4, (0, o4))]) (stN := [(1, r8), (1, 0), (0, 2), (4, 9)]) (hsN := [jzQ_16, (4, [(4, 13), (1, 1)], []), (8, [(4, 14), (4, 15)], []), jgh, jgh, jgh, jgh, jgh, jgh, (101, [], [q1, -r7, r8, 0, 0, 0]), (101, [], [k12_0, k12_1, k12_2, k12_3, k12_4, k12_5]), jgh, jgh, (101, [], [0, 0, 0, 0, 0, 0]), jgh, jgh]) rfl rfl rfl ?_
  refine jT_xaload_n (v := (4, 1)) (pcN := 147) jIQ_161_146 rfl rfl rfl ?_
  refine jT_xgetf (a := 1) (t := 2) (ci := 4) (fi := 1) (c := (4, [(4, 13), (1, 1)], [])) (v := (1, 1)) (pcN := 150) jIQ_161_147 rfl rfl rfl rfl rfl rfl rfl ?_
  refine jT_xlmul (x := r8) (y := 1) (z := r8) (pcN := 151) jIQ_161_150 rfl (by omega) rfl ?_
  refine jT_xlsub (x := 0) (y := r8) (z := -r8) (pcN := 152) jIQ_161_151 rfl (by omega) rfl ?_
  refine jT_adv 1 (pcN := 153) (LN := [(7, (0, 2)), (5, (1, q1)), (0, (4, 0)), (1, (0, r7)), (2, (0, r8)), (3, (4, 1)), (4, (0, o4))]) (stN := []) (hsN := [jzQ_16, (4, [(4, 13), (1, 1)], []), (8, [(4, 14), (4, 15)], []), jgh, jgh, jgh, jgh, jgh, jgh, (101, [], [q1, -r7, -r8, 0, 0, 0]), (101, [], [k12_0, k12_1, k12_2, k12_3, k12_4, k12_5]), jgh, jgh, (101, [], [0, 0, 0, 0, 0, 0]), jgh, jgh]) (c1 := 0) (s1 := 0) (c2 := 0) (s2 := 0) (by exact rfl) ?_ (by omega) (by omega)
  refine jT_xiinc (x := 2) (z := 3) (LN := [(7, (0, 3)), (5, (1, q1)), (0, (4, 0)), (1, (0, r7)), (2, (0, r8)), (3, (4, 1)), (4, (0, o4))]) (pcN := 156) jIQ_161_153 rfl rfl (by decide) rfl rfl ?_
  refine jT_xgoto (pcN := 119) jIQ_161_156 rfl ?_
  refine jT_xiload (v := (0, 3)) (pcN := 121) jIQ_161_119 rfl rfl rfl ?_
  refine jT_xbipush (k := 6) (pcN := 123) jIQ_161_121 (by decide) rfl ?_
  refine jT_xicF (t := 159) (pcN := 126) jIQ_161_123 rfl (by decide +kernel) rfl rfl ?_
  refine jT_xaload_n (v := (4, 0)) (pcN := 127) jIQ_161_126 rfl rfl rfl ?_
  refine jT_xgetf (a := 0) (t := 1) (ci := 13) (fi := 7) (c := jzQ_16) (v := (4, 9)) (pcN := 130) jIQ_161_127 rfl rfl rfl rfl rfl rfl rfl ?_
  refine jT_xiload (v := (0, 3)) (pcN := 132) jIQ_161_130 rfl rfl rfl ?_
  refine jT_xaload_n (v := (4, 1)) (pcN := 133) jIQ_161_132 rfl rfl rfl ?_
  refine jT_xgetf (a := 1) (t := 2) (ci := 4) (fi := 0) (c := (4, [(4, 13), (1, 1)], [])) (v := (4, 13)) (pcN := 136) jIQ_161_133 rfl rfl rfl rfl rfl rfl rfl ?_
  refine jT_xiload (v := (0, 3)) (pcN := 138) jIQ_161_136 rfl rfl rfl ?_
  refine jT_lald (x := 0) (a := 13) (j := 3) (fs := []) (X := [0, 0, 0, 0, 0, 0]) jIQ_161_138 rfl rfl rfl rfl ?_
  refine jT_eq (LN := [(7, (0, 3)), (5, (1, q1)), (0, (4, 0)), (1, (0, r7)), (2, (0, r8)), (3, (4, 1)), (4, (0, o4))]) (stN := [(1, 0), (0, 3), (4, 9)]) (hsN := [jzQ_16, (4, [(4, 13), (1, 1)], []), (8, [(4, 14), (4, 15)], []), jgh, jgh, jgh, jgh, jgh, jgh, (101, [], [q1, -r7, -r8, 0, 0, 0]), (101, [], [k12_0, k12_1, k12_2, k12_3, k12_4, k12_5]), jgh, jgh, (101, [], [0, 0, 0, 0, 0, 0]), jgh, jgh]) rfl rfl rfl ?_
  refine jT_xaload_n (v := (4, 0)) (pcN := 140) jIQ_161_139 rfl rfl rfl ?_
  refine jT_xgetf (a := 0) (t := 1) (ci := 13) (fi := 7) (c := jzQ_16) (v := (4, 9)) (pcN := 143) jIQ_161_140 rfl rfl rfl rfl rfl rfl rfl ?_
  refine jT_xiload (v := (0, 3)) (pcN := 145) jIQ_161_143 rfl rfl rfl ?_
  refine jT_lald (x := 0) (a := 9) (j := 3) (fs := []) (X := [q1, -r7, -r8, 0, 0, 0]) jIQ_161_145 rfl rfl rfl rfl ?_
  refine jT_eq (LN := [(7, (0, 3)), (5, (1, q1)), (0, (4, 0)), (1, (0, r7)), (2, (0, r8)), (3, (4, 1)), (4, (0, o4))]) (stN := [(1, 0), (1, 0), (0, 3), (4, 9)]) (hsN := [jzQ_16, (4, [(4, 13), (1, 1)], []), (8, [(4, 14), (4, 15)], []), jgh, jgh, jgh, jgh, jgh, jgh, (101, [], [q1, -r7, -r8, 0, 0, 0]), (101, [], [k12_0, k12_1, k12_2, k12_3, k12_4, k12_5]), jgh, jgh, (101, [], [0, 0, 0, 0, 0, 0]), jgh, jgh]) rfl rfl rfl ?_
  refine jT_xaload_n (v := (4, 1)) (pcN := 147) jIQ_161_146 rfl rfl rfl ?_
  refine jT_xgetf (a := 1) (t := 2) (ci := 4) (fi := 1) (c := (4, [(4, 13), (1, 1)], [])) (v := (1, 1)) (pcN := 150) jIQ_161_147 rfl rfl rfl rfl rfl rfl rfl ?_
  refine jT_xlmul (x := 0) (y := 1) (z := 0) (pcN := 151) jIQ_161_150 rfl (by decide) rfl ?_
  refine jT_xlsub (x := 0) (y := 0) (z := 0) (pcN := 152) jIQ_161_151 rfl (by decide) rfl ?_
  refine jT_adv 1 (pcN := 153) (LN := [(7, (0, 3)), (5, (1, q1)), (0, (4, 0)), (1, (0, r7)), (2, (0, r8)), (3, (4, 1)), (4, (0, o4))]) (stN := []) (hsN := [jzQ_16, (4, [(4, 13), (1, 1)], []), (8, [(4, 14), (4, 15)], []), jgh, jgh, jgh, jgh, jgh, jgh, (101, [], [q1, -r7, -r8, 0, 0, 0]), (101, [], [k12_0, k12_1, k12_2, k12_3, k12_4, k12_5]), jgh, jgh, (101, [], [0, 0, 0, 0, 0, 0]), jgh, jgh]) (c1 := 0) (s1 := 0) (c2 := 0) (s2 := 0) (by exact rfl) ?_ (by omega) (by omega)
  refine jT_xiinc (x := 3) (z := 4) (LN := [(7, (0, 4)), (5, (1, q1)), (0, (4, 0)), (1, (0, r7)), (2, (0, r8)), (3, (4, 1)), (4, (0, o4))]) (pcN := 156) jIQ_161_153 rfl rfl (by decide) rfl rfl ?_
  refine jT_xgoto (pcN := 119) jIQ_161_156 rfl ?_
  refine jT_xiload (v := (0, 4)) (pcN := 121) jIQ_161_119 rfl rfl rfl ?_
  refine jT_xbipush (k := 6) (pcN := 123) jIQ_161_121 (by decide) rfl ?_
  refine jT_xicF (t := 159) (pcN := 126) jIQ_161_123 rfl (by decide +kernel) rfl rfl ?_
  refine jT_xaload_n (v := (4, 0)) (pcN := 127) jIQ_161_126 rfl rfl rfl ?_
  refine jT_xgetf (a := 0) (t := 1) (ci := 13) (fi := 7) (c := jzQ_16) (v := (4, 9)) (pcN := 130) jIQ_161_127 rfl rfl rfl rfl rfl rfl rfl ?_
  refine jT_xiload (v := (0, 4)) (pcN := 132) jIQ_161_130 rfl rfl rfl ?_
  refine jT_xaload_n (v := (4, 1)) (pcN := 133) jIQ_161_132 rfl rfl rfl ?_
  refine jT_xgetf (a := 1) (t := 2) (ci := 4) (fi := 0) (c := (4, [(4, 13), (1, 1)], [])) (v := (4, 13)) (pcN := 136) jIQ_161_133 rfl rfl rfl rfl rfl rfl rfl ?_
  refine jT_xiload (v := (0, 4)) (pcN := 138) jIQ_161_136 rfl rfl rfl ?_
  refine jT_lald (x := 0) (a := 13) (j := 4) (fs := []) (X := [0, 0, 0, 0, 0, 0]) jIQ_161_138 rfl rfl rfl rfl ?_
  refine jT_eq (LN := [(7, (0, 4)), (5, (1, q1)), (0, (4, 0)), (1, (0, r7)), (2, (0, r8)), (3, (4, 1)), (4, (0, o4))]) (stN := [(1, 0), (0, 4), (4, 9)]) (hsN := [jzQ_16, (4, [(4, 13), (1, 1)], []), (8, [(4, 14), (4, 15)], []), jgh, jgh, jgh, jgh, jgh, jgh, (101, [], [q1, -r7, -r8, 0, 0, 0]), (101, [], [k12_0, k12_1, k12_2, k12_3, k12_4, k12_5]), jgh, jgh, (101, [], [0, 0, 0, 0, 0, 0]), jgh, jgh]) rfl rfl rfl ?_
  refine jT_xaload_n (v := (4, 0)) (pcN := 140) jIQ_161_139 rfl rfl rfl ?_
  refine jT_xgetf (a := 0) (t := 1) (ci := 13) (fi := 7) (c := jzQ_16) (v := (4, 9)) (pcN := 143) jIQ_161_140 rfl rfl rfl rfl rfl rfl rfl ?_
  refine jT_xiload (v := (0, 4)) (pcN := 145) jIQ_161_143 rfl rfl rfl ?_
  refine jT_lald (x := 0) (a := 9) (j := 4) (fs := []) (X := [q1, -r7, -r8, 0, 0, 0]) jIQ_161_145 rfl rfl rfl rfl ?_
  refine jT_eq (LN := [(7, (0, 4)), (5, (1, q1)), (0, (4, 0)), (1, (0, r7)), (2, (0, r8)), (3, (4, 1)), (4, (0, o4))]) (stN := [(1, 0), (1, 0), (0, 4), (4, 9)]) (hsN := [jzQ_16, (4, [(4, 13), (1, 1)], []), (8, [(4, 14), (4, 15)], []), jgh, jgh, jgh, jgh, jgh, jgh, (101, [], [q1, -r7, -r8, 0, 0, 0]), (101, [], [k12_0, k12_1, k12_2, k12_3, k12_4, k12_5]), jgh, jgh, (101, [], [0, 0, 0, 0, 0, 0]), jgh, jgh]) rfl rfl rfl ?_
  refine jT_xaload_n (v := (4, 1)) (pcN := 147) jIQ_161_146 rfl rfl rfl ?_
  refine jT_xgetf (a := 1) (t := 2) (ci := 4) (fi := 1) (c := (4, [(4, 13), (1, 1)], [])) (v := (1, 1)) (pcN := 150) jIQ_161_147 rfl rfl rfl rfl rfl rfl rfl ?_
  refine jT_xlmul (x := 0) (y := 1) (z := 0) (pcN := 151) jIQ_161_150 rfl (by decide) rfl ?_
  refine jT_xlsub (x := 0) (y := 0) (z := 0) (pcN := 152) jIQ_161_151 rfl (by decide) rfl ?_
  refine jT_adv 1 (pcN := 153) (LN := [(7, (0, 4)), (5, (1, q1)), (0, (4, 0)), (1, (0, r7)), (2, (0, r8)), (3, (4, 1)), (4, (0, o4))]) (stN := []) (hsN := [jzQ_16, (4, [(4, 13), (1, 1)], []), (8, [(4, 14), (4, 15)], []), jgh, jgh, jgh, jgh, jgh, jgh, (101, [], [q1, -r7, -r8, 0, 0, 0]), (101, [], [k12_0, k12_1, k12_2, k12_3, k12_4, k12_5]), jgh, jgh, (101, [], [0, 0, 0, 0, 0, 0]), jgh, jgh]) (c1 := 0) (s1 := 0) (c2 := 0) (s2 := 0) (by exact rfl) ?_ (by omega) (by omega)
  refine jT_xiinc (x := 4) (z := 5) (LN := [(7, (0, 5)), (5, (1, q1)), (0, (4, 0)), (1, (0, r7)), (2, (0, r8)), (3, (4, 1)), (4, (0, o4))]) (pcN := 156) jIQ_161_153 rfl rfl (by decide) rfl rfl ?_
  refine jT_xgoto (pcN := 119) jIQ_161_156 rfl ?_
  refine jT_xiload (v := (0, 5)) (pcN := 121) jIQ_161_119 rfl rfl rfl ?_
  refine jT_xbipush (k := 6) (pcN := 123) jIQ_161_121 (by decide) rfl ?_
  refine jT_xicF (t := 159) (pcN := 126) jIQ_161_123 rfl (by decide +kernel) rfl rfl ?_
  refine jT_xaload_n (v := (4, 0)) (pcN := 127) jIQ_161_126 rfl rfl rfl ?_
  refine jT_xgetf (a := 0) (t := 1) (ci := 13) (fi := 7) (c := jzQ_16) (v := (4, 9)) (pcN := 130) jIQ_161_127 rfl rfl rfl rfl rfl rfl rfl ?_
  refine jT_xiload (v := (0, 5)) (pcN := 132) jIQ_161_130 rfl rfl rfl ?_
  refine jT_xaload_n (v := (4, 1)) (pcN := 133) jIQ_161_132 rfl rfl rfl ?_
  refine jT_xgetf (a := 1) (t := 2) (ci := 4) (fi := 0) (c := (4, [(4, 13), (1, 1)], [])) (v := (4, 13)) (pcN := 136) jIQ_161_133 rfl rfl rfl rfl rfl rfl rfl ?_
  refine jT_xiload (v := (0, 5)) (pcN := 138) jIQ_161_136 rfl rfl rfl ?_
  refine jT_lald (x := 0) (a := 13) (j := 5) (fs := []) (X := [0, 0, 0, 0, 0, 0]) jIQ_161_138 rfl rfl rfl rfl ?_
  refine jT_eq (LN := [(7, (0, 5)), (5, (1, q1)), (0, (4, 0)), (1, (0, r7)), (2, (0, r8)), (3, (4, 1)), (4, (0, o4))]) (stN := [(1, 0), (0, 5), (4, 9)]) (hsN := [jzQ_16, (4, [(4, 13), (1, 1)], []), (8, [(4, 14), (4, 15)], []), jgh, jgh, jgh, jgh, jgh, jgh, (101, [], [q1, -r7, -r8, 0, 0, 0]), (101, [], [k12_0, k12_1, k12_2, k12_3, k12_4, k12_5]), jgh, jgh, (101, [], [0, 0, 0, 0, 0, 0]), jgh, jgh]) rfl rfl rfl ?_
  refine jT_xaload_n (v := (4, 0)) (pcN := 140) jIQ_161_139 rfl rfl rfl ?_
  refine jT_xgetf (a := 0) (t := 1) (ci := 13) (fi := 7) (c := jzQ_16) (v := (4, 9)) (pcN := 143) jIQ_161_140 rfl rfl rfl rfl rfl rfl rfl ?_
  refine jT_xiload (v := (0, 5)) (pcN := 145) jIQ_161_143 rfl rfl rfl ?_
  refine jT_lald (x := 0) (a := 9) (j := 5) (fs := []) (X := [q1, -r7, -r8, 0, 0, 0]) jIQ_161_145 rfl rfl rfl rfl ?_
  refine jT_eq (LN := [(7, (0, 5)), (5, (1, q1)), (0, (4, 0)), (1, (0, r7)), (2, (0, r8)), (3, (4, 1)), (4, (0, o4))]) (stN := [(1, 0), (1, 0), (0, 5), (4, 9)]) (hsN := [jzQ_16, (4, [(4, 13), (1, 1)], []), (8, [(4, 14), (4, 15)], []), jgh, jgh, jgh, jgh, jgh, jgh, (101, [], [q1, -r7, -r8, 0, 0, 0]), (101, [], [k12_0, k12_1, k12_2, k12_3, k12_4, k12_5]), jgh, jgh, (101, [], [0, 0, 0, 0, 0, 0]), jgh, jgh]) rfl rfl rfl ?_
  refine jT_xaload_n (v := (4, 1)) (pcN := 147) jIQ_161_146 rfl rfl rfl ?_
  refine jT_xgetf (a := 1) (t := 2) (ci := 4) (fi := 1) (c := (4, [(4, 13), (1, 1)], [])) (v := (1, 1)) (pcN := 150) jIQ_161_147 rfl rfl rfl rfl rfl rfl rfl ?_
  refine jT_xlmul (x := 0) (y := 1) (z := 0) (pcN := 151) jIQ_161_150 rfl (by decide) rfl ?_
  refine jT_xlsub (x := 0) (y := 0) (z := 0) (pcN := 152) jIQ_161_151 rfl (by decide) rfl ?_
  refine jT_adv 1 (pcN := 153) (LN := [(7, (0, 5)), (5, (1, q1)), (0, (4, 0)), (1, (0, r7)), (2, (0, r8)), (3, (4, 1)), (4, (0, o4))]) (stN := []) (hsN := [jzQ_16, (4, [(4, 13), (1, 1)], []), (8, [(4, 14), (4, 15)], []), jgh, jgh, jgh, jgh, jgh, jgh, (101, [], [q1, -r7, -r8, 0, 0, 0]), (101, [], [k12_0, k12_1, k12_2, k12_3, k12_4, k12_5]), jgh, jgh, (101, [], [0, 0, 0, 0, 0, 0]), jgh, jgh]) (c1 := 0) (s1 := 0) (c2 := 0) (s2 := 0) (by exact rfl) ?_ (by omega) (by omega)
  refine jT_xiinc (x := 5) (z := 6) (LN := [(7, (0, 6)), (5, (1, q1)), (0, (4, 0)), (1, (0, r7)), (2, (0, r8)), (3, (4, 1)), (4, (0, o4))]) (pcN := 156) jIQ_161_153 rfl rfl (by decide) rfl rfl ?_
  refine jT_xgoto (pcN := 119) jIQ_161_156 rfl ?_
  refine jT_xiload (v := (0, 6)) (pcN := 121) jIQ_161_119 rfl rfl rfl ?_
  refine jT_xbipush (k := 6) (pcN := 123) jIQ_161_121 (by decide) rfl ?_
  refine jT_xicT (pcN := 159) jIQ_161_123 rfl (by decide +kernel) rfl ?_
  refine jT_xaload_n (v := (4, 0)) (pcN := 160) jIQ_161_159 rfl rfl rfl ?_
  refine jT_xgetf (a := 0) (t := 1) (ci := 13) (fi := 0) (c := jzQ_16) (v := (4, 2)) (pcN := 163) jIQ_161_160 rfl rfl rfl rfl rfl rfl rfl ?_
  refine jT_xaload_n (v := (4, 0)) (pcN := 164) jIQ_161_163 rfl rfl rfl ?_
  refine jT_xgetf (a := 0) (t := 1) (ci := 13) (fi := 7) (c := jzQ_16) (v := (4, 9)) (pcN := 167) jIQ_161_164 rfl rfl rfl rfl rfl rfl rfl ?_
  refine jT_callA [2, 9, 14, 15] (y := 38) (pcN := 170) (dC := 1) (bc1 := 0) (bc2 := 0) (c1 := 0) (c2 := 0) (as := [(4, 2), (4, 9)]) (asC := [(4, 0), (4, 1)]) (LN := [(7, (0, 6)), (5, (1, q1)), (0, (4, 0)), (1, (0, r7)), (2, (0, r8)), (3, (4, 1)), (4, (0, o4))]) (stN := []) (hsC := [(8, [(4, 2), (4, 3)], []), (101, [], [q1, -r7, -r8, 0, 0, 0]), jgh, jgh]) (ex := []) (v := (0, (-1))) (st2 := [(0, (-1))]) (hs2 := [jzQ_16, (4, [(4, 13), (1, 1)], []), (8, [(4, 14), (4, 15)], []), jgh, jgh, jgh, jgh, jgh, jgh, (101, [], [q1, -r7, -r8, 0, 0, 0]), (101, [], [k12_0, k12_1, k12_2, k12_3, k12_4, k12_5]), jgh, jgh, (101, [], [0, 0, 0, 0, 0, 0]), jgh, jgh]) (jQl_sp38_117 (d := 0) (by omega) (by omega) (by omega) (by omega) (by omega) (by omega) (by omega)) (by rfl) (by rfl) (by rfl) (by rfl) ⟨rfl, rfl, rfl, rfl, trivial⟩ (by rfl) (by rfl) (by omega) (by show 16 ≤ 16; omega) (by omega) (by omega) rfl rfl ?_
  refine jT_xifT (pcN := 177) jIQ_161_170 rfl (by decide +kernel) rfl ?_
  refine jT_xiconst (k := 0) (pcN := 178) jIQ_161_177 rfl ?_
  subst hq_q4
  subst hq_q3
  subst hq_q2
  subst hq_q1
  exact jT_ret rfl (by decide) (by show 16 ≤ 16; omega) (by omega) (by omega) ⟨rfl, rfl, rfl⟩
theorem jQ_161_335 {xs : List Int} {d : Nat} {k12_0 k12_1 k12_2 k12_3 k12_4 k12_5 o4 r7 r8 u11_0 u11_1 u11_2 u11_3 u11_4 u11_5 : Int} (h_k12_0 : 1 ≤ k12_0 ∧ k12_0 ≤ 100) (h_k12_1 : 2 ≤ k12_1 ∧ k12_1 ≤ 158) (h_k12_2 : 2 ≤ k12_2 ∧ k12_2 ≤ 232) (h_k12_3 : 3 ≤ k12_3 ∧ k12_3 ≤ 281) (h_k12_4 : 3 ≤ k12_4 ∧ k12_4 ≤ 346) (h_k12_5 : 4 ≤ k12_5 ∧ k12_5 ≤ 370) (h_o4 : 1 ≤ o4 ∧ o4 ≤ 100) (h_r7 : (-20) ≤ r7 ∧ r7 ≤ 20) (h_r8 : (-10) ≤ r8 ∧ r8 ≤ 10) (g_0 : r7 < 0) (g_1 : 0 ≤ -(((108917793695 * r7 + 159561683699 * r8) / 68719476736) * o4) + (r7 * k12_1) + (r8 * k12_2) - 1) : jT xs (d + 2) 161 15 0 [(0, (4, 0)), (1, (0, r7)), (2, (0, r8)), (3, (4, 1)), (4, (0, o4))] [] [jzQ_16, jgh, (8, [(4, 13), (4, 14)], []), jgh, jgh, jgh, jgh, jgh, jgh, (101, [], [u11_0, u11_1, u11_2, u11_3, u11_4, u11_5]), (101, [], [k12_0, k12_1, k12_2, k12_3, k12_4, k12_5]), jgh, jgh, jgh, jgh] 0 0 (fun k v hsN => k = 0 ∧ v = (0, 0) ∧ hsN = [jzQ_16, jgh, (8, [(4, 13), (4, 14)], []), jgh, jgh, jgh, jgh, jgh, jgh, (101, [], [0, r7, r8, 0, 0, 0]), (101, [], [k12_0, k12_1, k12_2, k12_3, k12_4, k12_5]), jgh, jgh, jgh, jgh]) := by
  refine jT_xiload_n (v := (0, r7)) (pcN := 1) jIQ_161_0 rfl rfl rfl ?_
  refine jT_ifT (a := r7) (t := 10) (by rfl) (by rfl) (by rfl) (jw_idd (by omega) (by omega)) (by simp only [jcP] <;> omega) ?_
  refine jT_xiconst (k := 0) (pcN := 11) jIQ_161_10 rfl ?_
  refine jT_xistore (v := (0, 0)) (LN := [(5, (0, 0)), (0, (4, 0)), (1, (0, r7)), (2, (0, r8)), (3, (4, 1)), (4, (0, o4))]) (pcN := 13) jIQ_161_11 rfl rfl rfl rfl ?_
  refine jT_xiload (v := (0, 0)) (pcN := 15) jIQ_161_13 rfl rfl rfl ?_
  refine jT_xbipush (k := 6) (pcN := 17) jIQ_161_15 (by decide) rfl ?_
  refine jT_xicF (t := 56) (pcN := 20) jIQ_161_17 rfl (by decide +kernel) rfl rfl ?_
  refine jT_xaload_n (v := (4, 0)) (pcN := 21) jIQ_161_20 rfl rfl rfl ?_
  refine jT_xgetf (a := 0) (t := 1) (ci := 13) (fi := 7) (c := jzQ_16) (v := (4, 9)) (pcN := 24) jIQ_161_21 rfl rfl rfl rfl rfl rfl rfl ?_
  refine jT_xiload (v := (0, 0)) (pcN := 26) jIQ_161_24 rfl rfl rfl ?_
  refine jT_xiload (v := (0, 0)) (pcN := 28) jIQ_161_26 rfl rfl rfl ?_
  refine jT_xiconst (k := 1) (pcN := 29) jIQ_161_28 rfl ?_
  refine jT_xicT (pcN := 37) jIQ_161_29 rfl (by decide +kernel) rfl ?_
  refine jT_xiload (v := (0, 0)) (pcN := 39) jIQ_161_37 rfl rfl rfl ?_
  refine jT_xiconst (k := 2) (pcN := 40) jIQ_161_39 rfl ?_
  refine jT_xicT (pcN := 48) jIQ_161_40 rfl (by decide +kernel) rfl ?_
  refine jT_xlconst (z := 0) (pcN := 49) jIQ_161_48 rfl rfl ?_
  refine jT_adv 1 (pcN := 50) (LN := [(5, (0, 0)), (0, (4, 0)), (1, (0, r7)), (2, (0, r8)), (3, (4, 1)), (4, (0, o4))]) (stN := []) (hsN := [jzQ_16, jgh, (8, [(4, 13), (4, 14)], []), jgh, jgh, jgh, jgh, jgh, jgh, (101, [], [0, u11_1, u11_2, u11_3, u11_4, u11_5]), (101, [], [k12_0, k12_1, k12_2, k12_3, k12_4, k12_5]), jgh, jgh, jgh, jgh]) (c1 := 0) (s1 := 0) (c2 := 0) (s2 := 0) (by exact rfl) ?_ (by omega) (by omega)
  refine jT_xiinc (x := 0) (z := 1) (LN := [(5, (0, 1)), (0, (4, 0)), (1, (0, r7)), (2, (0, r8)), (3, (4, 1)), (4, (0, o4))]) (pcN := 53) jIQ_161_50 rfl rfl (by decide) rfl rfl ?_
  refine jT_xgoto (pcN := 13) jIQ_161_53 rfl ?_
  refine jT_xiload (v := (0, 1)) (pcN := 15) jIQ_161_13 rfl rfl rfl ?_
  refine jT_xbipush (k := 6) (pcN := 17) jIQ_161_15 (by decide) rfl ?_
  refine jT_xicF (t := 56) (pcN := 20) jIQ_161_17 rfl (by decide +kernel) rfl rfl ?_
  refine jT_xaload_n (v := (4, 0)) (pcN := 21) jIQ_161_20 rfl rfl rfl ?_
  refine jT_xgetf (a := 0) (t := 1) (ci := 13) (fi := 7) (c := jzQ_16) (v := (4, 9)) (pcN := 24) jIQ_161_21 rfl rfl rfl rfl rfl rfl rfl ?_
  refine jT_xiload (v := (0, 1)) (pcN := 26) jIQ_161_24 rfl rfl rfl ?_
  refine jT_xiload (v := (0, 1)) (pcN := 28) jIQ_161_26 rfl rfl rfl ?_
  refine jT_xiconst (k := 1) (pcN := 29) jIQ_161_28 rfl ?_
  refine jT_xicF (t := 37) (pcN := 32) jIQ_161_29 rfl (by decide +kernel) rfl rfl ?_
  refine jT_xiload_n (v := (0, r7)) (pcN := 33) jIQ_161_32 rfl rfl rfl ?_
  refine jT_xi2l (x := r7) (z := r7) (pcN := 34) jIQ_161_33 rfl (jw_idd (by omega) (by omega)) rfl ?_
  refine jT_xgoto (pcN := 49) jIQ_161_34 rfl ?_
  refine jT_adv 1 (pcN := 50) (LN := [(5, (0, 1)), (0, (4, 0)), (1, (0, r7)), (2, (0, r8)), (3, (4, 1)), (4, (0, o4))]) (stN := []) (hsN := [jzQ_16, jgh, (8, [(4, 13), (4, 14)], []), jgh, jgh, jgh, jgh, jgh, jgh, (101, [], [0, r7, u11_2, u11_3, u11_4, u11_5]), (101, [], [k12_0, k12_1, k12_2, k12_3, k12_4, k12_5]), jgh, jgh, jgh, jgh]) (c1 := 0) (s1 := 0) (c2 := 0) (s2 := 0) (by exact rfl) ?_ (by omega) (by omega)
  refine jT_xiinc (x := 1) (z := 2) (LN := [(5, (0, 2)), (0, (4, 0)), (1, (0, r7)), (2, (0, r8)), (3, (4, 1)), (4, (0, o4))]) (pcN := 53) jIQ_161_50 rfl rfl (by decide) rfl rfl ?_
  refine jT_xgoto (pcN := 13) jIQ_161_53 rfl ?_
  refine jT_xiload (v := (0, 2)) (pcN := 15) jIQ_161_13 rfl rfl rfl ?_
  refine jT_xbipush (k := 6) (pcN := 17) jIQ_161_15 (by decide) rfl ?_
  refine jT_xicF (t := 56) (pcN := 20) jIQ_161_17 rfl (by decide +kernel) rfl rfl ?_
  refine jT_xaload_n (v := (4, 0)) (pcN := 21) jIQ_161_20 rfl rfl rfl ?_
  refine jT_xgetf (a := 0) (t := 1) (ci := 13) (fi := 7) (c := jzQ_16) (v := (4, 9)) (pcN := 24) jIQ_161_21 rfl rfl rfl rfl rfl rfl rfl ?_
  refine jT_xiload (v := (0, 2)) (pcN := 26) jIQ_161_24 rfl rfl rfl ?_
  refine jT_xiload (v := (0, 2)) (pcN := 28) jIQ_161_26 rfl rfl rfl ?_
  refine jT_xiconst (k := 1) (pcN := 29) jIQ_161_28 rfl ?_
  refine jT_xicT (pcN := 37) jIQ_161_29 rfl (by decide +kernel) rfl ?_
  refine jT_xiload (v := (0, 2)) (pcN := 39) jIQ_161_37 rfl rfl rfl ?_
  refine jT_xiconst (k := 2) (pcN := 40) jIQ_161_39 rfl ?_
  refine jT_xicF (t := 48) (pcN := 43) jIQ_161_40 rfl (by decide +kernel) rfl rfl ?_
  refine jT_xiload_n (v := (0, r8)) (pcN := 44) jIQ_161_43 rfl rfl rfl ?_
  refine jT_xi2l (x := r8) (z := r8) (pcN := 45) jIQ_161_44 rfl (jw_idd (by omega) (by omega)) rfl ?_
  refine jT_xgoto (pcN := 49) jIQ_161_45 rfl ?_
  refine jT_adv 1 (pcN := 50) (LN := [(5, (0, 2)), (0, (4, 0)), (1, (0, r7)), (2, (0, r8)), (3, (4, 1)), (4, (0, o4))]) (stN := []) (hsN := [jzQ_16, jgh, (8, [(4, 13), (4, 14)], []), jgh, jgh, jgh, jgh, jgh, jgh, (101, [], [0, r7, r8, u11_3, u11_4, u11_5]), (101, [], [k12_0, k12_1, k12_2, k12_3, k12_4, k12_5]), jgh, jgh, jgh, jgh]) (c1 := 0) (s1 := 0) (c2 := 0) (s2 := 0) (by exact rfl) ?_ (by omega) (by omega)
  refine jT_xiinc (x := 2) (z := 3) (LN := [(5, (0, 3)), (0, (4, 0)), (1, (0, r7)), (2, (0, r8)), (3, (4, 1)), (4, (0, o4))]) (pcN := 53) jIQ_161_50 rfl rfl (by decide) rfl rfl ?_
  refine jT_xgoto (pcN := 13) jIQ_161_53 rfl ?_
  refine jT_xiload (v := (0, 3)) (pcN := 15) jIQ_161_13 rfl rfl rfl ?_
  refine jT_xbipush (k := 6) (pcN := 17) jIQ_161_15 (by decide) rfl ?_
  refine jT_xicF (t := 56) (pcN := 20) jIQ_161_17 rfl (by decide +kernel) rfl rfl ?_
  refine jT_xaload_n (v := (4, 0)) (pcN := 21) jIQ_161_20 rfl rfl rfl ?_
  refine jT_xgetf (a := 0) (t := 1) (ci := 13) (fi := 7) (c := jzQ_16) (v := (4, 9)) (pcN := 24) jIQ_161_21 rfl rfl rfl rfl rfl rfl rfl ?_
  refine jT_xiload (v := (0, 3)) (pcN := 26) jIQ_161_24 rfl rfl rfl ?_
  refine jT_xiload (v := (0, 3)) (pcN := 28) jIQ_161_26 rfl rfl rfl ?_
  refine jT_xiconst (k := 1) (pcN := 29) jIQ_161_28 rfl ?_
  refine jT_xicT (pcN := 37) jIQ_161_29 rfl (by decide +kernel) rfl ?_
  refine jT_xiload (v := (0, 3)) (pcN := 39) jIQ_161_37 rfl rfl rfl ?_
  refine jT_xiconst (k := 2) (pcN := 40) jIQ_161_39 rfl ?_
  refine jT_xicT (pcN := 48) jIQ_161_40 rfl (by decide +kernel) rfl ?_
  refine jT_xlconst (z := 0) (pcN := 49) jIQ_161_48 rfl rfl ?_
  refine jT_adv 1 (pcN := 50) (LN := [(5, (0, 3)), (0, (4, 0)), (1, (0, r7)), (2, (0, r8)), (3, (4, 1)), (4, (0, o4))]) (stN := []) (hsN := [jzQ_16, jgh, (8, [(4, 13), (4, 14)], []), jgh, jgh, jgh, jgh, jgh, jgh, (101, [], [0, r7, r8, 0, u11_4, u11_5]), (101, [], [k12_0, k12_1, k12_2, k12_3, k12_4, k12_5]), jgh, jgh, jgh, jgh]) (c1 := 0) (s1 := 0) (c2 := 0) (s2 := 0) (by exact rfl) ?_ (by omega) (by omega)
  refine jT_xiinc (x := 3) (z := 4) (LN := [(5, (0, 4)), (0, (4, 0)), (1, (0, r7)), (2, (0, r8)), (3, (4, 1)), (4, (0, o4))]) (pcN := 53) jIQ_161_50 rfl rfl (by decide) rfl rfl ?_
  refine jT_xgoto (pcN := 13) jIQ_161_53 rfl ?_
  refine jT_xiload (v := (0, 4)) (pcN := 15) jIQ_161_13 rfl rfl rfl ?_
  refine jT_xbipush (k := 6) (pcN := 17) jIQ_161_15 (by decide) rfl ?_
  refine jT_xicF (t := 56) (pcN := 20) jIQ_161_17 rfl (by decide +kernel) rfl rfl ?_
  refine jT_xaload_n (v := (4, 0)) (pcN := 21) jIQ_161_20 rfl rfl rfl ?_
  refine jT_xgetf (a := 0) (t := 1) (ci := 13) (fi := 7) (c := jzQ_16) (v := (4, 9)) (pcN := 24) jIQ_161_21 rfl rfl rfl rfl rfl rfl rfl ?_
  refine jT_xiload (v := (0, 4)) (pcN := 26) jIQ_161_24 rfl rfl rfl ?_
  refine jT_xiload (v := (0, 4)) (pcN := 28) jIQ_161_26 rfl rfl rfl ?_
  refine jT_xiconst (k := 1) (pcN := 29) jIQ_161_28 rfl ?_
  refine jT_xicT (pcN := 37) jIQ_161_29 rfl (by decide +kernel) rfl ?_
  refine jT_xiload (v := (0, 4)) (pcN := 39) jIQ_161_37 rfl rfl rfl ?_
  refine jT_xiconst (k := 2) (pcN := 40) jIQ_161_39 rfl ?_
  refine jT_xicT (pcN := 48) jIQ_161_40 rfl (by decide +kernel) rfl ?_
  refine jT_xlconst (z := 0) (pcN := 49) jIQ_161_48 rfl rfl ?_
  refine jT_adv 1 (pcN := 50) (LN := [(5, (0, 4)), (0, (4, 0)), (1, (0, r7)), (2, (0, r8)), (3, (4, 1)), (4, (0, o4))]) (stN := []) (hsN := [jzQ_16, jgh, (8, [(4, 13), (4, 14)], []), jgh, jgh, jgh, jgh, jgh, jgh, (101, [], [0, r7, r8, 0, 0, u11_5]), (101, [], [k12_0, k12_1, k12_2, k12_3, k12_4, k12_5]), jgh, jgh, jgh, jgh]) (c1 := 0) (s1 := 0) (c2 := 0) (s2 := 0) (by exact rfl) ?_ (by omega) (by omega)
  refine jT_xiinc (x := 4) (z := 5) (LN := [(5, (0, 5)), (0, (4, 0)), (1, (0, r7)), (2, (0, r8)), (3, (4, 1)), (4, (0, o4))]) (pcN := 53) jIQ_161_50 rfl rfl (by decide) rfl rfl ?_
  refine jT_xgoto (pcN := 13) jIQ_161_53 rfl ?_
  refine jT_xiload (v := (0, 5)) (pcN := 15) jIQ_161_13 rfl rfl rfl ?_
  refine jT_xbipush (k := 6) (pcN := 17) jIQ_161_15 (by decide) rfl ?_
  refine jT_xicF (t := 56) (pcN := 20) jIQ_161_17 rfl (by decide +kernel) rfl rfl ?_
  refine jT_xaload_n (v := (4, 0)) (pcN := 21) jIQ_161_20 rfl rfl rfl ?_
  refine jT_xgetf (a := 0) (t := 1) (ci := 13) (fi := 7) (c := jzQ_16) (v := (4, 9)) (pcN := 24) jIQ_161_21 rfl rfl rfl rfl rfl rfl rfl ?_
  refine jT_xiload (v := (0, 5)) (pcN := 26) jIQ_161_24 rfl rfl rfl ?_
  refine jT_xiload (v := (0, 5)) (pcN := 28) jIQ_161_26 rfl rfl rfl ?_
  refine jT_xiconst (k := 1) (pcN := 29) jIQ_161_28 rfl ?_
  refine jT_xicT (pcN := 37) jIQ_161_29 rfl (by decide +kernel) rfl ?_
  refine jT_xiload (v := (0, 5)) (pcN := 39) jIQ_161_37 rfl rfl rfl ?_
  refine jT_xiconst (k := 2) (pcN := 40) jIQ_161_39 rfl ?_
  refine jT_xicT (pcN := 48) jIQ_161_40 rfl (by decide +kernel) rfl ?_
  refine jT_xlconst (z := 0) (pcN := 49) jIQ_161_48 rfl rfl ?_
  refine jT_adv 1 (pcN := 50) (LN := [(5, (0, 5)), (0, (4, 0)), (1, (0, r7)), (2, (0, r8)), (3, (4, 1)), (4, (0, o4))]) (stN := []) (hsN := [jzQ_16, jgh, (8, [(4, 13), (4, 14)], []), jgh, jgh, jgh, jgh, jgh, jgh, (101, [], [0, r7, r8, 0, 0, 0]), (101, [], [k12_0, k12_1, k12_2, k12_3, k12_4, k12_5]), jgh, jgh, jgh, jgh]) (c1 := 0) (s1 := 0) (c2 := 0) (s2 := 0) (by exact rfl) ?_ (by omega) (by omega)
  refine jT_xiinc (x := 5) (z := 6) (LN := [(5, (0, 6)), (0, (4, 0)), (1, (0, r7)), (2, (0, r8)), (3, (4, 1)), (4, (0, o4))]) (pcN := 53) jIQ_161_50 rfl rfl (by decide) rfl rfl ?_
  refine jT_xgoto (pcN := 13) jIQ_161_53 rfl ?_
  refine jT_xiload (v := (0, 6)) (pcN := 15) jIQ_161_13 rfl rfl rfl ?_
  refine jT_xbipush (k := 6) (pcN := 17) jIQ_161_15 (by decide) rfl ?_
  refine jT_xicT (pcN := 56) jIQ_161_17 rfl (by decide +kernel) rfl ?_
  refine jT_xaload_n (v := (4, 0)) (pcN := 57) jIQ_161_56 rfl rfl rfl ?_
  refine jT_xgetf (a := 0) (t := 1) (ci := 13) (fi := 0) (c := jzQ_16) (v := (4, 2)) (pcN := 60) jIQ_161_57 rfl rfl rfl rfl rfl rfl rfl ?_
  refine jT_xaload_n (v := (4, 0)) (pcN := 61) jIQ_161_60 rfl rfl rfl ?_
  refine jT_xgetf (a := 0) (t := 1) (ci := 13) (fi := 7) (c := jzQ_16) (v := (4, 9)) (pcN := 64) jIQ_161_61 rfl rfl rfl rfl rfl rfl rfl ?_
  refine jT_xlconst (z := 1) (pcN := 65) jIQ_161_64 rfl rfl ?_
  refine jT_xlconst (z := 1) (pcN := 66) jIQ_161_65 rfl rfl ?_
  refine jT_callA [2, 9, 13, 14] (y := 45) (pcN := 69) (dC := 1) (bc1 := 0) (bc2 := 0) (c1 := 0) (c2 := 0) (as := [(4, 2), (4, 9), (1, 1), (1, 1)]) (asC := [(4, 0), (4, 1), (1, 1), (1, 1)]) (LN := [(5, (0, 6)), (0, (4, 0)), (1, (0, r7)), (2, (0, r8)), (3, (4, 1)), (4, (0, o4))]) (stN := []) (hsC := [(8, [(4, 2), (4, 3)], []), (101, [], [0, r7, r8, 0, 0, 0]), jgh, jgh]) (ex := []) (v := (1, (108917793695 * r7 + 159561683699 * r8) / 68719476736)) (st2 := [(1, (108917793695 * r7 + 159561683699 * r8) / 68719476736)]) (hs2 := [jzQ_16, jgh, (8, [(4, 13), (4, 14)], []), jgh, jgh, jgh, jgh, jgh, jgh, (101, [], [0, r7, r8, 0, 0, 0]), (101, [], [k12_0, k12_1, k12_2, k12_3, k12_4, k12_5]), jgh, jgh, jgh, jgh]) (jQl_sp45_116 (d := 0) (by omega) (by omega)) (by rfl) (by rfl) (by rfl) (by rfl) ⟨rfl, rfl, rfl, rfl, trivial⟩ (by rfl) (by rfl) (by omega) (by show 15 ≤ 15; omega) (by omega) (by omega) rfl rfl ?_
  have hb_q1 : (-60) ≤ (108917793695 * r7 + 159561683699 * r8) / 68719476736 ∧ (108917793695 * r7 + 159561683699 * r8) / 68719476736 ≤ 60 := ⟨by omega, by omega⟩
  generalize hq_q1 : (108917793695 * r7 + 159561683699 * r8) / 68719476736 = q1 at hb_q1 g_1 ⊢
  refine jT_xlstore (v := (1, q1)) (LN := [(5, (1, q1)), (0, (4, 0)), (1, (0, r7)), (2, (0, r8)), (3, (4, 1)), (4, (0, o4))]) (pcN := 71) jIQ_161_69 rfl rfl rfl rfl ?_
  have g_2 : 0 ≤ (-68719476736) * q1 + 108917793694 * r7 + 159561683698 * r8 - 1 := by have := jcg (b := r7) (c := r8) (by omega) (by omega) (by omega); rw [hq_q1] at this; omega
  have g_3 : 0 ≤ (-68719476736) * q1 + 108917793694 * r7 + 159561683700 * r8 - 1 := by have := jcg (b := r7) (c := r8) (by omega) (by omega) (by omega); rw [hq_q1] at this; omega
  have g_4 : 0 ≤ (-68719476736) * q1 + 108917793696 * r7 + 159561683698 * r8 - 1 := by have := jcg (b := r7) (c := r8) (by omega) (by omega) (by omega); rw [hq_q1] at this; omega
  have g_5 : 0 ≤ (-68719476736) * q1 + 108917793696 * r7 + 159561683700 * r8 - 1 := by have := jcg (b := r7) (c := r8) (by omega) (by omega) (by omega); rw [hq_q1] at this; omega
  refine jT_xiload (v := (0, o4)) (pcN := 73) jIQ_161_71 rfl rfl rfl ?_
  refine jT_ifF (a := o4) (t := 107) (by rfl) (by rfl) (by rfl) (jw_idd (by omega) (by omega)) (by simp only [jcP] <;> omega) ?_
  refine jT_xiload_n (v := (0, r7)) (pcN := 77) jIQ_161_76 rfl rfl rfl ?_
  refine jT_xi2l (x := r7) (z := r7) (pcN := 78) jIQ_161_77 rfl (jw_idd (by omega) (by omega)) rfl ?_
  refine jT_xaload_n (v := (4, 0)) (pcN := 79) jIQ_161_78 rfl rfl rfl ?_
  refine jT_xgetf (a := 0) (t := 1) (ci := 13) (fi := 8) (c := jzQ_16) (v := (4, 10)) (pcN := 82) jIQ_161_79 rfl rfl rfl rfl rfl rfl rfl ?_
  refine jT_xiconst (k := 1) (pcN := 83) jIQ_161_82 rfl ?_
  refine jT_lald (x := k12_1) (a := 10) (j := 1) (fs := []) (X := [k12_0, k12_1, k12_2, k12_3, k12_4, k12_5]) jIQ_161_83 rfl rfl rfl rfl ?_
  refine jT_eq (LN := [(5, (1, q1)), (0, (4, 0)), (1, (0, r7)), (2, (0, r8)), (3, (4, 1)), (4, (0, o4))]) (stN := [(1, k12_1), (1, r7)]) (hsN := [jzQ_16, jgh, (8, [(4, 13), (4, 14)], []), jgh, jgh, jgh, jgh, jgh, jgh, (101, [], [0, r7, r8, 0, 0, 0]), (101, [], [k12_0, k12_1, k12_2, k12_3, k12_4, k12_5]), jgh, jgh, jgh, jgh]) rfl rfl rfl ?_
  refine jT_xlmul (x := r7) (y := k12_1) (z := r7 * k12_1) (pcN := 85) jIQ_161_84 rfl rfl rfl ?_
  have hb_q2 := jmul_bs (x := r7) (y := k12_1) (m := 20) (n := 158) (by omega) (by omega) (by omega) (by omega)
  have hb_q2 : (-3160) ≤ r7 * k12_1 ∧ r7 * k12_1 ≤ 3160 := ⟨by omega, by omega⟩
  generalize hq_q2 : r7 * k12_1 = q2 at hb_q2 g_1 ⊢
  refine jT_xiload_n (v := (0, r8)) (pcN := 86) jIQ_161_85 rfl rfl rfl ?_
  refine jT_xi2l (x := r8) (z := r8) (pcN := 87) jIQ_161_86 rfl (jw_idd (by omega) (by omega)) rfl ?_
  refine jT_xaload_n (v := (4, 0)) (pcN := 88) jIQ_161_87 rfl rfl rfl ?_
  refine jT_xgetf (a := 0) (t := 1) (ci := 13) (fi := 8) (c := jzQ_16) (v := (4, 10)) (pcN := 91) jIQ_161_88 rfl rfl rfl rfl rfl rfl rfl ?_
  refine jT_xiconst (k := 2) (pcN := 92) jIQ_161_91 rfl ?_
  refine jT_lald (x := k12_2) (a := 10) (j := 2) (fs := []) (X := [k12_0, k12_1, k12_2, k12_3, k12_4, k12_5]) jIQ_161_92 rfl rfl rfl rfl ?_
  refine jT_eq (LN := [(5, (1, q1)), (0, (4, 0)), (1, (0, r7)), (2, (0, r8)), (3, (4, 1)), (4, (0, o4))]) (stN := [(1, k12_2), (1, r8), (1, q2)]) (hsN := [jzQ_16, jgh, (8, [(4, 13), (4, 14)], []), jgh, jgh, jgh, jgh, jgh, jgh, (101, [], [0, r7, r8, 0, 0, 0]), (101, [], [k12_0, k12_1, k12_2, k12_3, k12_4, k12_5]), jgh, jgh, jgh, jgh]) rfl rfl rfl ?_
  refine jT_xlmul (x := r8) (y := k12_2) (z := r8 * k12_2) (pcN := 94) jIQ_161_93 rfl rfl rfl ?_
  have hb_q3 := jmul_bs (x := r8) (y := k12_2) (m := 10) (n := 232) (by omega) (by omega) (by omega) (by omega)
  have hb_q3 : (-2320) ≤ r8 * k12_2 ∧ r8 * k12_2 ≤ 2320 := ⟨by omega, by omega⟩
  generalize hq_q3 : r8 * k12_2 = q3 at hb_q3 g_1 ⊢
  refine jT_xladd (x := q2) (y := q3) (z := q2 + q3) (pcN := 95) jIQ_161_94 rfl (rfl) rfl ?_
  refine jT_xlload (v := (1, q1)) (pcN := 97) jIQ_161_95 rfl rfl rfl ?_
  refine jT_xiload (v := (0, o4)) (pcN := 99) jIQ_161_97 rfl rfl rfl ?_
  refine jT_xi2l (x := o4) (z := o4) (pcN := 100) jIQ_161_99 rfl (jw_idd (by omega) (by omega)) rfl ?_
  refine jT_xlmul (x := q1) (y := o4) (z := q1 * o4) (pcN := 101) jIQ_161_100 rfl rfl rfl ?_
  have hb_q4 := jmul_bs (x := q1) (y := o4) (m := 60) (n := 100) (by omega) (by omega) (by omega) (by omega)
  have hb_q4 : (-6000) ≤ q1 * o4 ∧ q1 * o4 ≤ 6000 := ⟨by omega, by omega⟩
  generalize hq_q4 : q1 * o4 = q4 at hb_q4 g_1 ⊢
  refine jT_lcmp (a := q2 + q3) (b := q4) (z := 1) (by rfl) (by rfl) (jwl_idd (by omega) (by omega)) (jwl_idd (by omega) (by omega)) (by rw [decide_eq_true (show (q4 : Int) < q2 + q3 by omega)]; rfl) ?_
  refine jT_xifF (t := 107) (pcN := 105) jIQ_161_102 rfl (by decide +kernel) rfl rfl ?_
  refine jT_xiconst (k := 0) (pcN := 106) jIQ_161_105 rfl ?_
  subst hq_q4
  subst hq_q3
  subst hq_q2
  subst hq_q1
  exact jT_ret rfl (by decide) (by show 15 ≤ 15; omega) (by omega) (by omega) ⟨rfl, rfl, rfl⟩
set_option maxRecDepth 100000 in
theorem jL_38_5 {d : Nat} {x0 x1 x2 x3 x4 : Int} (h_x0 : (-2147483648) ≤ x0 ∧ x0 ≤ 2147483647) (h_x1 : 0 ≤ x1 ∧ x1 ≤ 20) (h_x2 : 0 ≤ x2 ∧ x2 ≤ 10) (h_x3 : 0 ≤ x3 ∧ x3 ≤ 7) (h_x4 : 1 ≤ x4 ∧ x4 ≤ 100) : jT [x0, x1, x2, x3, x4] (d + 11) 379 45 2881 [(5, (0, 0)), (4, (4, 3)), (3, (4, 2)), (2, (4, 1)), (1, (4, 0)), (0, (6, 0))] [] jpQ_799 69073 3694931 (fun k v hsN => k = 0 ∧ v = (0, 1)) := by
  refine jT_xaload_n (v := (4, 0)) (pcN := 2882) jIQ_379_2881 rfl rfl rfl ?_
  refine jT_xaload_n (v := (6, 0)) (pcN := 2883) jIQ_379_2882 rfl rfl rfl ?_
  refine jT_xiload (v := (0, 0)) (pcN := 2885) jIQ_379_2883 rfl rfl rfl ?_
  refine jT_xiconst (k := 1) (pcN := 2886) jIQ_379_2885 rfl ?_
  refine jT_xiadd (x := 0) (y := 1) (z := 1) (pcN := 2887) jIQ_379_2886 rfl (by decide) rfl ?_
  refine jT_adv 1 (pcN := 2888) (LN := [(5, (0, 0)), (4, (4, 3)), (3, (4, 2)), (2, (4, 1)), (1, (4, 0)), (0, (6, 0))]) (stN := [(0, x1), (4, 0)]) (hsN := jpQ_799) (c1 := 0) (s1 := 0) (c2 := 69073) (s2 := 3694931) (by exact rfl) ?_ (by omega) (by omega)
  refine jT_xaload_n (v := (6, 0)) (pcN := 2889) jIQ_379_2888 rfl rfl rfl ?_
  refine jT_xiload (v := (0, 0)) (pcN := 2891) jIQ_379_2889 rfl rfl rfl ?_
  refine jT_xiconst (k := 2) (pcN := 2892) jIQ_379_2891 rfl ?_
  refine jT_xiadd (x := 0) (y := 2) (z := 2) (pcN := 2893) jIQ_379_2892 rfl (by decide) rfl ?_
  refine jT_adv 1 (pcN := 2894) (LN := [(5, (0, 0)), (4, (4, 3)), (3, (4, 2)), (2, (4, 1)), (1, (4, 0)), (0, (6, 0))]) (stN := [(0, x2), (0, x1), (4, 0)]) (hsN := jpQ_799) (c1 := 0) (s1 := 0) (c2 := 69073) (s2 := 3694931) (by exact rfl) ?_ (by omega) (by omega)
  refine jT_xaload_n (v := (6, 0)) (pcN := 2895) jIQ_379_2894 rfl rfl rfl ?_
  refine jT_xiload (v := (0, 0)) (pcN := 2897) jIQ_379_2895 rfl rfl rfl ?_
  refine jT_xiconst (k := 3) (pcN := 2898) jIQ_379_2897 rfl ?_
  refine jT_xiadd (x := 0) (y := 3) (z := 3) (pcN := 2899) jIQ_379_2898 rfl (by decide) rfl ?_
  refine jT_adv 1 (pcN := 2900) (LN := [(5, (0, 0)), (4, (4, 3)), (3, (4, 2)), (2, (4, 1)), (1, (4, 0)), (0, (6, 0))]) (stN := [(0, x3), (0, x2), (0, x1), (4, 0)]) (hsN := jpQ_799) (c1 := 0) (s1 := 0) (c2 := 69073) (s2 := 3694931) (by exact rfl) ?_ (by omega) (by omega)
  refine jT_xaload_n (v := (6, 0)) (pcN := 2901) jIQ_379_2900 rfl rfl rfl ?_
  refine jT_xiload (v := (0, 0)) (pcN := 2903) jIQ_379_2901 rfl rfl rfl ?_
  refine jT_xiconst (k := 4) (pcN := 2904) jIQ_379_2903 rfl ?_
  refine jT_xiadd (x := 0) (y := 4) (z := 4) (pcN := 2905) jIQ_379_2904 rfl (by decide) rfl ?_
  refine jT_adv 1 (pcN := 2906) (LN := [(5, (0, 0)), (4, (4, 3)), (3, (4, 2)), (2, (4, 1)), (1, (4, 0)), (0, (6, 0))]) (stN := [(0, x4), (0, x3), (0, x2), (0, x1), (4, 0)]) (hsN := jpQ_799) (c1 := 0) (s1 := 0) (c2 := 69073) (s2 := 3694931) (by exact rfl) ?_ (by omega) (by omega)
  refine jT_xaload_n (v := (4, 2)) (pcN := 2907) jIQ_379_2906 rfl rfl rfl ?_
  refine jT_fB [0, 2, 4, 5, 6, 7, 8, 9, 10, 11, 12, 13, 14, 30, 31, 32, 33, 34, 35, 36, 43, 44] 45 (y := 362) (pcN := 2910) (dC := 6) (bc1 := 2) (bc2 := 8) (c1 := 69071) (c2 := 3694923) (as := [(4, 0), (0, x1), (0, x2), (0, x3), (0, x4), (4, 2)]) (asC := [(4, 0), (0, x1), (0, x2), (0, x3), (0, x4), (4, 1)]) (LN := [(5, (0, 0)), (4, (4, 3)), (3, (4, 2)), (2, (4, 1)), (1, (4, 0)), (0, (6, 0))]) (stN := []) (hsC := jpQ_340) (hsD := [jzQ_16, (101, [], [0]), (8, [(4, 13), (4, 14)], []), jgh, jgh, jgh, jgh, jgh, jgh, jgh, (101, [], [(2 * x4 + 1) / 2, (((217835587388 * x4) / 68719476736) + 1) / 2, (((319123367396 * x4) / 68719476736) + 1) / 2, (((385839922510 * x4) / 68719476736) + 1) / 2, (((475460661270 * x4) / 68719476736) + 1) / 2, (((508584562244 * x4) / 68719476736) + 1) / 2]), jgh, jzQ_334, jgh, (101, [], [0, 0, 0, 0, 0, 0]), jzQ_335, jgh, jgh, jgh, jgh, (4, [(4, 21), (1, 1)], []), (101, [], [0, 0, 0, 0, 0, 0]), (101, [], [1, 0, 0, 0, 0, 0]), (4, [(4, 22), (1, 1)], [])]) (v := (0, 0)) (st2 := [(0, 0)]) (hs2 := [jzQ_744, jzQ_745, (101, [], [0]), jgh, (8, [(4, 30), (4, 31)], []), jgh, jgh, jgh, jgh, jgh, jgh, jgh, (101, [], [(2 * x4 + 1) / 2, (((217835587388 * x4) / 68719476736) + 1) / 2, (((319123367396 * x4) / 68719476736) + 1) / 2, (((385839922510 * x4) / 68719476736) + 1) / 2, (((475460661270 * x4) / 68719476736) + 1) / 2, (((508584562244 * x4) / 68719476736) + 1) / 2]), jgh, jzQ_797, (100, [], jS0), jgh, jgh, jgh, jgh, (130, [], [37, 38, 39, 40, 41, 42]), (101, [], [0, 0, 0, 0, 0, 0]), jgh, jgh, jgh, jgh, jgh, jgh, jgh, jgh, jgh, (101, [], [0, 0, 0, 0, 0, 0]), jzQ_798, jgh, jgh, jgh, jgh, (100, [], (jenc (jlg 0))), (100, [], (jenc (jlg 1))), (100, [], (jenc (jlg 2))), (100, [], (jenc (jlg 3))), (100, [], (jenc (jlg 4))), (100, [], (jenc (jlg 5))), (4, [(4, 44), (1, 1)], []), (101, [], [0, 0, 0, 0, 0, 0]), (101, [], [1, 0, 0, 0, 0, 0]), (4, [(4, 45), (1, 1)], [])]) (jQ_362_261 (d := 0) (by omega) (by omega) (by omega) (by omega)) (by rfl) (by rfl) (by decide +kernel) (by rfl) (by rfl) (by omega) (by omega) (by omega) (by omega) rfl rfl ?_
  have hb_q1 : 1 ≤ (2 * x4 + 1) / 2 ∧ (2 * x4 + 1) / 2 ≤ 100 := ⟨by omega, by omega⟩
  generalize hq_q1 : (2 * x4 + 1) / 2 = q1 at hb_q1 ⊢
  have hb_q2 : 2 ≤ (((217835587388 * x4) / 68719476736) + 1) / 2 ∧ (((217835587388 * x4) / 68719476736) + 1) / 2 ≤ 158 := ⟨by omega, by omega⟩
  generalize hq_q2 : (((217835587388 * x4) / 68719476736) + 1) / 2 = q2 at hb_q2 ⊢
  have hb_q3 : 2 ≤ (((319123367396 * x4) / 68719476736) + 1) / 2 ∧ (((319123367396 * x4) / 68719476736) + 1) / 2 ≤ 232 := ⟨by omega, by omega⟩
  generalize hq_q3 : (((319123367396 * x4) / 68719476736) + 1) / 2 = q3 at hb_q3 ⊢
  have hb_q4 : 3 ≤ (((385839922510 * x4) / 68719476736) + 1) / 2 ∧ (((385839922510 * x4) / 68719476736) + 1) / 2 ≤ 281 := ⟨by omega, by omega⟩
  generalize hq_q4 : (((385839922510 * x4) / 68719476736) + 1) / 2 = q4 at hb_q4 ⊢
  have hb_q5 : 3 ≤ (((475460661270 * x4) / 68719476736) + 1) / 2 ∧ (((475460661270 * x4) / 68719476736) + 1) / 2 ≤ 346 := ⟨by omega, by omega⟩
  generalize hq_q5 : (((475460661270 * x4) / 68719476736) + 1) / 2 = q5 at hb_q5 ⊢
  have hb_q6 : 4 ≤ (((508584562244 * x4) / 68719476736) + 1) / 2 ∧ (((508584562244 * x4) / 68719476736) + 1) / 2 ≤ 370 := ⟨by omega, by omega⟩
  generalize hq_q6 : (((508584562244 * x4) / 68719476736) + 1) / 2 = q6 at hb_q6 ⊢
  refine jT_xistore (v := (0, 0)) (LN := [(6, (0, 0)), (5, (0, 0)), (4, (4, 3)), (3, (4, 2)), (2, (4, 1)), (1, (4, 0)), (0, (6, 0))]) (pcN := 2912) jIQ_379_2910 rfl rfl rfl rfl ?_
  refine jT_xaload_n (v := (4, 1)) (pcN := 2913) jIQ_379_2912 rfl rfl rfl ?_
  refine jT_xaload_n (v := (6, 0)) (pcN := 2914) jIQ_379_2913 rfl rfl rfl ?_
  refine jT_xiload (v := (0, 0)) (pcN := 2916) jIQ_379_2914 rfl rfl rfl ?_
  refine jT_xiconst (k := 1) (pcN := 2917) jIQ_379_2916 rfl ?_
  refine jT_xiadd (x := 0) (y := 1) (z := 1) (pcN := 2918) jIQ_379_2917 rfl (by decide) rfl ?_
  refine jT_adv 1 (pcN := 2919) (LN := [(6, (0, 0)), (5, (0, 0)), (4, (4, 3)), (3, (4, 2)), (2, (4, 1)), (1, (4, 0)), (0, (6, 0))]) (stN := [(0, x1), (4, 1)]) (hsN := [jzQ_744, jzQ_745, (101, [], [0]), jgh, (8, [(4, 30), (4, 31)], []), jgh, jgh, jgh, jgh, jgh, jgh, jgh, (101, [], [q1, q2, q3, q4, q5, q6]), jgh, jzQ_797, (100, [], jS0), jgh, jgh, jgh, jgh, (130, [], [37, 38, 39, 40, 41, 42]), (101, [], [0, 0, 0, 0, 0, 0]), jgh, jgh, jgh, jgh, jgh, jgh, jgh, jgh, jgh, (101, [], [0, 0, 0, 0, 0, 0]), jzQ_798, jgh, jgh, jgh, jgh, (100, [], (jenc (jlg 0))), (100, [], (jenc (jlg 1))), (100, [], (jenc (jlg 2))), (100, [], (jenc (jlg 3))), (100, [], (jenc (jlg 4))), (100, [], (jenc (jlg 5))), (4, [(4, 44), (1, 1)], []), (101, [], [0, 0, 0, 0, 0, 0]), (101, [], [1, 0, 0, 0, 0, 0]), (4, [(4, 45), (1, 1)], [])]) (c1 := 0) (s1 := 0) (c2 := 69071) (s2 := 3694923) (by exact rfl) ?_ (by omega) (by omega)
  refine jT_xaload_n (v := (6, 0)) (pcN := 2920) jIQ_379_2919 rfl rfl rfl ?_
  refine jT_xiload (v := (0, 0)) (pcN := 2922) jIQ_379_2920 rfl rfl rfl ?_
  refine jT_xiconst (k := 2) (pcN := 2923) jIQ_379_2922 rfl ?_
  refine jT_xiadd (x := 0) (y := 2) (z := 2) (pcN := 2924) jIQ_379_2923 rfl (by decide) rfl ?_
  refine jT_adv 1 (pcN := 2925) (LN := [(6, (0, 0)), (5, (0, 0)), (4, (4, 3)), (3, (4, 2)), (2, (4, 1)), (1, (4, 0)), (0, (6, 0))]) (stN := [(0, x2), (0, x1), (4, 1)]) (hsN := [jzQ_744, jzQ_745, (101, [], [0]), jgh, (8, [(4, 30), (4, 31)], []), jgh, jgh, jgh, jgh, jgh, jgh, jgh, (101, [], [q1, q2, q3, q4, q5, q6]), jgh, jzQ_797, (100, [], jS0), jgh, jgh, jgh, jgh, (130, [], [37, 38, 39, 40, 41, 42]), (101, [], [0, 0, 0, 0, 0, 0]), jgh, jgh, jgh, jgh, jgh, jgh, jgh, jgh, jgh, (101, [], [0, 0, 0, 0, 0, 0]), jzQ_798, jgh, jgh, jgh, jgh, (100, [], (jenc (jlg 0))), (100, [], (jenc (jlg 1))), (100, [], (jenc (jlg 2))), (100, [], (jenc (jlg 3))), (100, [], (jenc (jlg 4))), (100, [], (jenc (jlg 5))), (4, [(4, 44), (1, 1)], []), (101, [], [0, 0, 0, 0, 0, 0]), (101, [], [1, 0, 0, 0, 0, 0]), (4, [(4, 45), (1, 1)], [])]) (c1 := 0) (s1 := 0) (c2 := 69071) (s2 := 3694923) (by exact rfl) ?_ (by omega) (by omega)
  refine jT_xaload_n (v := (6, 0)) (pcN := 2926) jIQ_379_2925 rfl rfl rfl ?_
  refine jT_xiload (v := (0, 0)) (pcN := 2928) jIQ_379_2926 rfl rfl rfl ?_
  refine jT_xiconst (k := 3) (pcN := 2929) jIQ_379_2928 rfl ?_
  refine jT_xiadd (x := 0) (y := 3) (z := 3) (pcN := 2930) jIQ_379_2929 rfl (by decide) rfl ?_
  refine jT_adv 1 (pcN := 2931) (LN := [(6, (0, 0)), (5, (0, 0)), (4, (4, 3)), (3, (4, 2)), (2, (4, 1)), (1, (4, 0)), (0, (6, 0))]) (stN := [(0, x3), (0, x2), (0, x1), (4, 1)]) (hsN := [jzQ_744, jzQ_745, (101, [], [0]), jgh, (8, [(4, 30), (4, 31)], []), jgh, jgh, jgh, jgh, jgh, jgh, jgh, (101, [], [q1, q2, q3, q4, q5, q6]), jgh, jzQ_797, (100, [], jS0), jgh, jgh, jgh, jgh, (130, [], [37, 38, 39, 40, 41, 42]), (101, [], [0, 0, 0, 0, 0, 0]), jgh, jgh, jgh, jgh, jgh, jgh, jgh, jgh, jgh, (101, [], [0, 0, 0, 0, 0, 0]), jzQ_798, jgh, jgh, jgh, jgh, (100, [], (jenc (jlg 0))), (100, [], (jenc (jlg 1))), (100, [], (jenc (jlg 2))), (100, [], (jenc (jlg 3))), (100, [], (jenc (jlg 4))), (100, [], (jenc (jlg 5))), (4, [(4, 44), (1, 1)], []), (101, [], [0, 0, 0, 0, 0, 0]), (101, [], [1, 0, 0, 0, 0, 0]), (4, [(4, 45), (1, 1)], [])]) (c1 := 0) (s1 := 0) (c2 := 69071) (s2 := 3694923) (by exact rfl) ?_ (by omega) (by omega)
  refine jT_xaload_n (v := (6, 0)) (pcN := 2932) jIQ_379_2931 rfl rfl rfl ?_
  refine jT_xiload (v := (0, 0)) (pcN := 2934) jIQ_379_2932 rfl rfl rfl ?_
  refine jT_xiconst (k := 4) (pcN := 2935) jIQ_379_2934 rfl ?_
  refine jT_xiadd (x := 0) (y := 4) (z := 4) (pcN := 2936) jIQ_379_2935 rfl (by decide) rfl ?_
  refine jT_adv 1 (pcN := 2937) (LN := [(6, (0, 0)), (5, (0, 0)), (4, (4, 3)), (3, (4, 2)), (2, (4, 1)), (1, (4, 0)), (0, (6, 0))]) (stN := [(0, x4), (0, x3), (0, x2), (0, x1), (4, 1)]) (hsN := [jzQ_744, jzQ_745, (101, [], [0]), jgh, (8, [(4, 30), (4, 31)], []), jgh, jgh, jgh, jgh, jgh, jgh, jgh, (101, [], [q1, q2, q3, q4, q5, q6]), jgh, jzQ_797, (100, [], jS0), jgh, jgh, jgh, jgh, (130, [], [37, 38, 39, 40, 41, 42]), (101, [], [0, 0, 0, 0, 0, 0]), jgh, jgh, jgh, jgh, jgh, jgh, jgh, jgh, jgh, (101, [], [0, 0, 0, 0, 0, 0]), jzQ_798, jgh, jgh, jgh, jgh, (100, [], (jenc (jlg 0))), (100, [], (jenc (jlg 1))), (100, [], (jenc (jlg 2))), (100, [], (jenc (jlg 3))), (100, [], (jenc (jlg 4))), (100, [], (jenc (jlg 5))), (4, [(4, 44), (1, 1)], []), (101, [], [0, 0, 0, 0, 0, 0]), (101, [], [1, 0, 0, 0, 0, 0]), (4, [(4, 45), (1, 1)], [])]) (c1 := 0) (s1 := 0) (c2 := 69071) (s2 := 3694923) (by exact rfl) ?_ (by omega) (by omega)
  refine jT_callB [1, 15, 16, 17, 18, 19, 20, 21, 22, 23, 24, 25, 26, 27, 28, 29, 37, 38, 39, 40, 41, 42] (y := 298) (pcN := 2940) (dC := 10) (bc1 := 69071) (bc2 := 3694923) (c1 := 0) (c2 := 0) (as := [(4, 1), (0, x1), (0, x2), (0, x3), (0, x4)]) (asC := [(4, 0), (0, x1), (0, x2), (0, x3), (0, x4)]) (LN := [(6, (0, 0)), (5, (0, 0)), (4, (4, 3)), (3, (4, 2)), (2, (4, 1)), (1, (4, 0)), (0, (6, 0))]) (stN := []) (hsC := jpQ_573) (hsD := [jzQ_20, (100, [], jS0), jgh, jgh, jgh, jgh, (130, [], [16, 17, 18, 19, 20, 21]), jgh, jgh, jgh, jgh, jgh, jgh, jgh, jgh, jgh, (100, [], (jenc (jlg 0))), (100, [], (jenc (jlg 1))), (100, [], (jenc (jlg 2))), (100, [], (jenc (jlg 3))), (100, [], (jenc (jlg 4))), (100, [], (jenc (jlg 5))), (101, [], [(-1), 0, 0, 0, 0, 0]), (100, [], (jenc 0)), (100, [], (jenc (-1))), (100, [], (jenc ((-1) * (jlg 0)))), (100, [], [jbp0 x4, jbp1 x4, jbp2 x4])]) (v := (0, 0)) (st2 := [(0, 0)]) (hs2 := [jzQ_744, jzQ_745, (101, [], [0]), jgh, (8, [(4, 30), (4, 31)], []), jgh, jgh, jgh, jgh, jgh, jgh, jgh, (101, [], [q1, q2, q3, q4, q5, q6]), jgh, jzQ_797, (100, [], jS0), jgh, jgh, jgh, jgh, (130, [], [37, 38, 39, 40, 41, 42]), jgh, jgh, jgh, jgh, jgh, jgh, jgh, jgh, jgh, jgh, (101, [], [0, 0, 0, 0, 0, 0]), jzQ_798, jgh, jgh, jgh, jgh, (100, [], (jenc (jlg 0))), (100, [], (jenc (jlg 1))), (100, [], (jenc (jlg 2))), (100, [], (jenc (jlg 3))), (100, [], (jenc (jlg 4))), (100, [], (jenc (jlg 5))), (4, [(4, 44), (1, 1)], []), (101, [], [0, 0, 0, 0, 0, 0]), (101, [], [1, 0, 0, 0, 0, 0]), (4, [(4, 45), (1, 1)], []), (101, [], [(-1), 0, 0, 0, 0, 0]), (100, [], (jenc 0)), (100, [], (jenc (-1))), (100, [], (jenc ((-1) * (jlg 0)))), (100, [], [jbp0 x4, jbp1 x4, jbp2 x4])]) (jQ_298_297 (d := 0) (by omega) (by omega) (by omega) (by omega)) (by rfl) (by rfl) (by rfl) (by rfl) ⟨rfl, rfl, rfl, rfl, rfl, rfl, rfl, rfl, rfl, rfl, rfl, rfl, rfl, rfl, rfl, rfl, rfl, rfl, rfl, rfl, rfl, rfl, trivial⟩ (by rfl) (by rfl) (by omega) (by show 45 ≤ 47; omega) (by omega) (by omega) rfl rfl ?_
  have hb_q7 := jbp_b0 (p := x4) (by omega)
  generalize hq_q7 : jbp0 x4 = q7 at hb_q7 ⊢
  have hb_q8 := jbp_b1 (p := x4) (by omega)
  generalize hq_q8 : jbp1 x4 = q8 at hb_q8 ⊢
  have hb_q9 := jbp_b2 (p := x4) (by omega)
  generalize hq_q9 : jbp2 x4 = q9 at hb_q9 ⊢
  refine jT_xistore (v := (0, 0)) (LN := [(7, (0, 0)), (6, (0, 0)), (5, (0, 0)), (4, (4, 3)), (3, (4, 2)), (2, (4, 1)), (1, (4, 0)), (0, (6, 0))]) (pcN := 2942) jIQ_379_2940 rfl rfl rfl rfl ?_
  refine jT_xaload_n (v := (4, 1)) (pcN := 2943) jIQ_379_2942 rfl rfl rfl ?_
  refine jT_callA [1, 15, 16, 17, 18, 19, 20, 21, 22, 23, 24, 25, 26, 27, 28, 29] (y := 186) (pcN := 2946) (dC := 0) (bc1 := 0) (bc2 := 0) (c1 := 0) (c2 := 0) (as := [(4, 1)]) (asC := [(4, 0)]) (LN := [(7, (0, 0)), (6, (0, 0)), (5, (0, 0)), (4, (4, 3)), (3, (4, 2)), (2, (4, 1)), (1, (4, 0)), (0, (6, 0))]) (stN := []) (hsC := jpQ_21) (ex := []) (v := (0, 0)) (st2 := [(0, 0)]) (hs2 := [jzQ_744, jzQ_745, (101, [], [0]), jgh, (8, [(4, 30), (4, 31)], []), jgh, jgh, jgh, jgh, jgh, jgh, jgh, (101, [], [q1, q2, q3, q4, q5, q6]), jgh, jzQ_797, (100, [], jS0), jgh, jgh, jgh, jgh, (130, [], [37, 38, 39, 40, 41, 42]), jgh, jgh, jgh, jgh, jgh, jgh, jgh, jgh, jgh, jgh, (101, [], [0, 0, 0, 0, 0, 0]), jzQ_798, jgh, jgh, jgh, jgh, (100, [], (jenc (jlg 0))), (100, [], (jenc (jlg 1))), (100, [], (jenc (jlg 2))), (100, [], (jenc (jlg 3))), (100, [], (jenc (jlg 4))), (100, [], (jenc (jlg 5))), (4, [(4, 44), (1, 1)], []), (101, [], [0, 0, 0, 0, 0, 0]), (101, [], [1, 0, 0, 0, 0, 0]), (4, [(4, 45), (1, 1)], []), (101, [], [(-1), 0, 0, 0, 0, 0]), (100, [], (jenc 0)), (100, [], (jenc (-1))), (100, [], (jenc ((-1) * (jlg 0)))), (100, [], [q7, q8, q9])]) (jQ_186_190 (d := 0)) (by rfl) (by rfl) (by rfl) (by rfl) ⟨rfl, rfl, rfl, rfl, rfl, rfl, rfl, rfl, rfl, rfl, rfl, rfl, rfl, rfl, rfl, rfl, trivial⟩ (by rfl) (by rfl) (by omega) (by show 45 ≤ 52; omega) (by omega) (by omega) rfl rfl ?_
  refine jT_xiload (v := (0, 0)) (pcN := 2948) jIQ_379_2946 rfl rfl rfl ?_
  refine jT_xicT (pcN := 2953) jIQ_379_2948 rfl (by decide +kernel) rfl ?_
  refine jT_xiload (v := (0, 0)) (pcN := 2955) jIQ_379_2953 rfl rfl rfl ?_
  refine jT_xifF (t := 2970) (pcN := 2958) jIQ_379_2955 rfl (by decide +kernel) rfl rfl ?_
  refine jT_xaload_n (v := (4, 2)) (pcN := 2959) jIQ_379_2958 rfl rfl rfl ?_
  refine jT_xiconst (k := 0) (pcN := 2960) jIQ_379_2959 rfl ?_
  refine jT_lald (x := 0) (a := 2) (j := 0) (fs := []) (X := [0]) jIQ_379_2960 rfl rfl rfl rfl ?_
  refine jT_eq (LN := [(7, (0, 0)), (6, (0, 0)), (5, (0, 0)), (4, (4, 3)), (3, (4, 2)), (2, (4, 1)), (1, (4, 0)), (0, (6, 0))]) (stN := [(1, 0)]) (hsN := [jzQ_744, jzQ_745, (101, [], [0]), jgh, (8, [(4, 30), (4, 31)], []), jgh, jgh, jgh, jgh, jgh, jgh, jgh, (101, [], [q1, q2, q3, q4, q5, q6]), jgh, jzQ_797, (100, [], jS0), jgh, jgh, jgh, jgh, (130, [], [37, 38, 39, 40, 41, 42]), jgh, jgh, jgh, jgh, jgh, jgh, jgh, jgh, jgh, jgh, (101, [], [0, 0, 0, 0, 0, 0]), jzQ_798, jgh, jgh, jgh, jgh, (100, [], (jenc (jlg 0))), (100, [], (jenc (jlg 1))), (100, [], (jenc (jlg 2))), (100, [], (jenc (jlg 3))), (100, [], (jenc (jlg 4))), (100, [], (jenc (jlg 5))), (4, [(4, 44), (1, 1)], []), (101, [], [0, 0, 0, 0, 0, 0]), (101, [], [1, 0, 0, 0, 0, 0]), (4, [(4, 45), (1, 1)], []), (101, [], [(-1), 0, 0, 0, 0, 0]), (100, [], (jenc 0)), (100, [], (jenc (-1))), (100, [], (jenc ((-1) * (jlg 0)))), (100, [], [q7, q8, q9])]) rfl rfl rfl ?_
  refine jT_xiload (v := (0, 0)) (pcN := 2963) jIQ_379_2961 rfl rfl rfl ?_
  refine jT_xi2l (x := 0) (z := 0) (pcN := 2964) jIQ_379_2963 rfl (by decide +kernel) rfl ?_
  refine jT_lcmp (a := 0) (b := 0) (z := 0) (by rfl) (by rfl) (by decide +kernel) (by decide +kernel) (by decide) ?_
  refine jT_xifT (pcN := 2970) jIQ_379_2965 rfl (by decide +kernel) rfl ?_
  refine jT_xgoto (pcN := 3740) jIQ_379_2970 rfl ?_
  refine jT_xiinc (x := 0) (z := 5) (LN := [(5, (0, 5)), (7, (0, 0)), (6, (0, 0)), (4, (4, 3)), (3, (4, 2)), (2, (4, 1)), (1, (4, 0)), (0, (6, 0))]) (pcN := 3743) jIQ_379_3740 rfl rfl (by decide) rfl rfl ?_
  refine jT_xgoto (pcN := 28) jIQ_379_3743 rfl ?_
  refine jT_xiload (v := (0, 5)) (pcN := 30) jIQ_379_28 rfl rfl rfl ?_
  refine jT_xaload_n (v := (6, 0)) (pcN := 31) jIQ_379_30 rfl rfl rfl ?_
  refine jT_adv 1 (pcN := 32) (LN := [(5, (0, 5)), (7, (0, 0)), (6, (0, 0)), (4, (4, 3)), (3, (4, 2)), (2, (4, 1)), (1, (4, 0)), (0, (6, 0))]) (stN := [(0, 5), (0, 5)]) (hsN := [jzQ_744, jzQ_745, (101, [], [0]), jgh, (8, [(4, 30), (4, 31)], []), jgh, jgh, jgh, jgh, jgh, jgh, jgh, (101, [], [q1, q2, q3, q4, q5, q6]), jgh, jzQ_797, (100, [], jS0), jgh, jgh, jgh, jgh, (130, [], [37, 38, 39, 40, 41, 42]), jgh, jgh, jgh, jgh, jgh, jgh, jgh, jgh, jgh, jgh, (101, [], [0, 0, 0, 0, 0, 0]), jzQ_798, jgh, jgh, jgh, jgh, (100, [], (jenc (jlg 0))), (100, [], (jenc (jlg 1))), (100, [], (jenc (jlg 2))), (100, [], (jenc (jlg 3))), (100, [], (jenc (jlg 4))), (100, [], (jenc (jlg 5))), (4, [(4, 44), (1, 1)], []), (101, [], [0, 0, 0, 0, 0, 0]), (101, [], [1, 0, 0, 0, 0, 0]), (4, [(4, 45), (1, 1)], []), (101, [], [(-1), 0, 0, 0, 0, 0]), (100, [], (jenc 0)), (100, [], (jenc (-1))), (100, [], (jenc ((-1) * (jlg 0)))), (100, [], [q7, q8, q9])]) (c1 := 0) (s1 := 0) (c2 := 0) (s2 := 0) (by exact rfl) ?_ (by omega) (by omega)
  refine jT_xiconst (k := 5) (pcN := 33) jIQ_379_32 rfl ?_
  refine jT_xisub (x := 5) (y := 5) (z := 0) (pcN := 34) jIQ_379_33 rfl (by decide) rfl ?_
  refine jT_xicT (pcN := 3746) jIQ_379_34 rfl (by decide +kernel) rfl ?_
  refine jT_xiconst (k := 1) (pcN := 3747) jIQ_379_3746 rfl ?_
  exact jT_ret rfl (by decide) (by show 45 ≤ 52; decide) (by omega) (by omega) ⟨rfl, rfl⟩
set_option maxRecDepth 100000 in
theorem jL_38_6 {d : Nat} {x0 x1 x2 x3 x4 : Int} (h_x0 : (-2147483648) ≤ x0 ∧ x0 ≤ 2147483647) (h_x1 : 0 ≤ x1 ∧ x1 ≤ 20) (h_x2 : 0 ≤ x2 ∧ x2 ≤ 10) (h_x3 : 8 ≤ x3 ∧ x3 ≤ 2147483647) (h_x4 : 0 ≤ x4 ∧ x4 ≤ 100) : jT [x0, x1, x2, x3, x4] (d + 3) 379 30 2881 [(5, (0, 0)), (4, (4, 3)), (3, (4, 2)), (2, (4, 1)), (1, (4, 0)), (0, (6, 0))] [] jpQ_746 1 6 (fun k v hsN => k = 0 ∧ v = (0, 1)) := by
  refine jT_xaload_n (v := (4, 0)) (pcN := 2882) jIQ_379_2881 rfl rfl rfl ?_
  refine jT_xaload_n (v := (6, 0)) (pcN := 2883) jIQ_379_2882 rfl rfl rfl ?_
  refine jT_xiload (v := (0, 0)) (pcN := 2885) jIQ_379_2883 rfl rfl rfl ?_
  refine jT_xiconst (k := 1) (pcN := 2886) jIQ_379_2885 rfl ?_
  refine jT_xiadd (x := 0) (y := 1) (z := 1) (pcN := 2887) jIQ_379_2886 rfl (by decide) rfl ?_
  refine jT_adv 1 (pcN := 2888) (LN := [(5, (0, 0)), (4, (4, 3)), (3, (4, 2)), (2, (4, 1)), (1, (4, 0)), (0, (6, 0))]) (stN := [(0, x1), (4, 0)]) (hsN := jpQ_746) (c1 := 0) (s1 := 0) (c2 := 1) (s2 := 6) (by exact rfl) ?_ (by omega) (by omega)
  refine jT_xaload_n (v := (6, 0)) (pcN := 2889) jIQ_379_2888 rfl rfl rfl ?_
  refine jT_xiload (v := (0, 0)) (pcN := 2891) jIQ_379_2889 rfl rfl rfl ?_
  refine jT_xiconst (k := 2) (pcN := 2892) jIQ_379_2891 rfl ?_
  refine jT_xiadd (x := 0) (y := 2) (z := 2) (pcN := 2893) jIQ_379_2892 rfl (by decide) rfl ?_
  refine jT_adv 1 (pcN := 2894) (LN := [(5, (0, 0)), (4, (4, 3)), (3, (4, 2)), (2, (4, 1)), (1, (4, 0)), (0, (6, 0))]) (stN := [(0, x2), (0, x1), (4, 0)]) (hsN := jpQ_746) (c1 := 0) (s1 := 0) (c2 := 1) (s2 := 6) (by exact rfl) ?_ (by omega) (by omega)
  refine jT_xaload_n (v := (6, 0)) (pcN := 2895) jIQ_379_2894 rfl rfl rfl ?_
  refine jT_xiload (v := (0, 0)) (pcN := 2897) jIQ_379_2895 rfl rfl rfl ?_
  refine jT_xiconst (k := 3) (pcN := 2898) jIQ_379_2897 rfl ?_
  refine jT_xiadd (x := 0) (y := 3) (z := 3) (pcN := 2899) jIQ_379_2898 rfl (by decide) rfl ?_
  refine jT_adv 1 (pcN := 2900) (LN := [(5, (0, 0)), (4, (4, 3)), (3, (4, 2)), (2, (4, 1)), (1, (4, 0)), (0, (6, 0))]) (stN := [(0, x3), (0, x2), (0, x1), (4, 0)]) (hsN := jpQ_746) (c1 := 0) (s1 := 0) (c2 := 1) (s2 := 6) (by exact rfl) ?_ (by omega) (by omega)
  refine jT_xaload_n (v := (6, 0)) (pcN := 2901) jIQ_379_2900 rfl rfl rfl ?_
  refine jT_xiload (v := (0, 0)) (pcN := 2903) jIQ_379_2901 rfl rfl rfl ?_
  refine jT_xiconst (k := 4) (pcN := 2904) jIQ_379_2903 rfl ?_
  refine jT_xiadd (x := 0) (y := 4) (z := 4) (pcN := 2905) jIQ_379_2904 rfl (by decide) rfl ?_
  refine jT_adv 1 (pcN := 2906) (LN := [(5, (0, 0)), (4, (4, 3)), (3, (4, 2)), (2, (4, 1)), (1, (4, 0)), (0, (6, 0))]) (stN := [(0, x4), (0, x3), (0, x2), (0, x1), (4, 0)]) (hsN := jpQ_746) (c1 := 0) (s1 := 0) (c2 := 1) (s2 := 6) (by exact rfl) ?_ (by omega) (by omega)
  refine jT_xaload_n (v := (4, 2)) (pcN := 2907) jIQ_379_2906 rfl rfl rfl ?_
  refine jT_fR [0, 2, 4, 5, 6, 7, 8, 9, 10, 11, 12, 13, 14] 30 (y := 362) (pcN := 2910) (dC := 2) (bc1 := 1) (bc2 := 6) (c1 := 0) (c2 := 0) (as := [(4, 0), (0, x1), (0, x2), (0, x3), (0, x4), (4, 2)]) (asC := [(4, 0), (0, x1), (0, x2), (0, x3), (0, x4), (4, 1)]) (LN := [(5, (0, 0)), (4, (4, 3)), (3, (4, 2)), (2, (4, 1)), (1, (4, 0)), (0, (6, 0))]) (stN := []) (hsC := jpQ_17) (v := (0, 2)) (st2 := [(0, 2)]) (jQ_362_300 (d := 0) (by omega) (by omega) (by omega) (by omega)) (by rfl) (by rfl) (by decide +kernel) (by rfl) (by rfl) (by omega) (by omega) (by omega) (by omega) rfl ?_
  refine jT_xistore (v := (0, 2)) (LN := [(6, (0, 2)), (5, (0, 0)), (4, (4, 3)), (3, (4, 2)), (2, (4, 1)), (1, (4, 0)), (0, (6, 0))]) (pcN := 2912) jIQ_379_2910 rfl rfl rfl rfl ?_
  refine jT_xaload_n (v := (4, 1)) (pcN := 2913) jIQ_379_2912 rfl rfl rfl ?_
  refine jT_xaload_n (v := (6, 0)) (pcN := 2914) jIQ_379_2913 rfl rfl rfl ?_
  refine jT_xiload (v := (0, 0)) (pcN := 2916) jIQ_379_2914 rfl rfl rfl ?_
  refine jT_xiconst (k := 1) (pcN := 2917) jIQ_379_2916 rfl ?_
  refine jT_xiadd (x := 0) (y := 1) (z := 1) (pcN := 2918) jIQ_379_2917 rfl (by decide) rfl ?_
  refine jT_adv 1 (pcN := 2919) (LN := [(6, (0, 2)), (5, (0, 0)), (4, (4, 3)), (3, (4, 2)), (2, (4, 1)), (1, (4, 0)), (0, (6, 0))]) (stN := [(0, x1), (4, 1)]) (hsN := jpQ_746) (c1 := 0) (s1 := 0) (c2 := 0) (s2 := 0) (by exact rfl) ?_ (by omega) (by omega)
  refine jT_xaload_n (v := (6, 0)) (pcN := 2920) jIQ_379_2919 rfl rfl rfl ?_
  refine jT_xiload (v := (0, 0)) (pcN := 2922) jIQ_379_2920 rfl rfl rfl ?_
  refine jT_xiconst (k := 2) (pcN := 2923) jIQ_379_2922 rfl ?_
  refine jT_xiadd (x := 0) (y := 2) (z := 2) (pcN := 2924) jIQ_379_2923 rfl (by decide) rfl ?_
  refine jT_adv 1 (pcN := 2925) (LN := [(6, (0, 2)), (5, (0, 0)), (4, (4, 3)), (3, (4, 2)), (2, (4, 1)), (1, (4, 0)), (0, (6, 0))]) (stN := [(0, x2), (0, x1), (4, 1)]) (hsN := jpQ_746) (c1 := 0) (s1 := 0) (c2 := 0) (s2 := 0) (by exact rfl) ?_ (by omega) (by omega)
  refine jT_xaload_n (v := (6, 0)) (pcN := 2926) jIQ_379_2925 rfl rfl rfl ?_
  refine jT_xiload (v := (0, 0)) (pcN := 2928) jIQ_379_2926 rfl rfl rfl ?_
  refine jT_xiconst (k := 3) (pcN := 2929) jIQ_379_2928 rfl ?_
  refine jT_xiadd (x := 0) (y := 3) (z := 3) (pcN := 2930) jIQ_379_2929 rfl (by decide) rfl ?_
  refine jT_adv 1 (pcN := 2931) (LN := [(6, (0, 2)), (5, (0, 0)), (4, (4, 3)), (3, (4, 2)), (2, (4, 1)), (1, (4, 0)), (0, (6, 0))]) (stN := [(0, x3), (0, x2), (0, x1), (4, 1)]) (hsN := jpQ_746) (c1 := 0) (s1 := 0) (c2 := 0) (s2 := 0) (by exact rfl) ?_ (by omega) (by omega)
  refine jT_xaload_n (v := (6, 0)) (pcN := 2932) jIQ_379_2931 rfl rfl rfl ?_
  refine jT_xiload (v := (0, 0)) (pcN := 2934) jIQ_379_2932 rfl rfl rfl ?_
  refine jT_xiconst (k := 4) (pcN := 2935) jIQ_379_2934 rfl ?_
  refine jT_xiadd (x := 0) (y := 4) (z := 4) (pcN := 2936) jIQ_379_2935 rfl (by decide) rfl ?_
  refine jT_adv 1 (pcN := 2937) (LN := [(6, (0, 2)), (5, (0, 0)), (4, (4, 3)), (3, (4, 2)), (2, (4, 1)), (1, (4, 0)), (0, (6, 0))]) (stN := [(0, x4), (0, x3), (0, x2), (0, x1), (4, 1)]) (hsN := jpQ_746) (c1 := 0) (s1 := 0) (c2 := 0) (s2 := 0) (by exact rfl) ?_ (by omega) (by omega)
  refine jT_fB [1, 15, 16, 17, 18, 19, 20, 21, 22, 23, 24, 25, 26, 27, 28, 29] 30 (y := 298) (pcN := 2940) (dC := 2) (bc1 := 0) (bc2 := 0) (c1 := 0) (c2 := 0) (as := [(4, 1), (0, x1), (0, x2), (0, x3), (0, x4)]) (asC := [(4, 0), (0, x1), (0, x2), (0, x3), (0, x4)]) (LN := [(6, (0, 2)), (5, (0, 0)), (4, (4, 3)), (3, (4, 2)), (2, (4, 1)), (1, (4, 0)), (0, (6, 0))]) (stN := []) (hsC := jpQ_21) (hsD := jpQ_61) (v := (0, 0)) (st2 := [(0, 0)]) (hs2 := jpQ_796) (jQ_298_302 (d := 0) (by omega) (by omega) (by omega) (by omega)) (by rfl) (by rfl) (by decide +kernel) (by rfl) (by rfl) (by omega) (by omega) (by omega) (by omega) rfl (by decide +kernel) ?_
  refine jT_xistore (v := (0, 0)) (LN := [(7, (0, 0)), (6, (0, 2)), (5, (0, 0)), (4, (4, 3)), (3, (4, 2)), (2, (4, 1)), (1, (4, 0)), (0, (6, 0))]) (pcN := 2942) jIQ_379_2940 rfl rfl rfl rfl ?_
  refine jT_xaload_n (v := (4, 1)) (pcN := 2943) jIQ_379_2942 rfl rfl rfl ?_
  refine jT_fR [1, 15, 16, 17, 18, 19, 20, 21, 22, 23, 24, 25, 26, 27, 28, 29] 30 (y := 186) (pcN := 2946) (dC := 0) (bc1 := 0) (bc2 := 0) (c1 := 0) (c2 := 0) (as := [(4, 1)]) (asC := [(4, 0)]) (LN := [(7, (0, 0)), (6, (0, 2)), (5, (0, 0)), (4, (4, 3)), (3, (4, 2)), (2, (4, 1)), (1, (4, 0)), (0, (6, 0))]) (stN := []) (hsC := jpQ_61) (v := (0, 2)) (st2 := [(0, 2)]) (jQ_186_25 (d := 0)) (by rfl) (by rfl) (by decide +kernel) (by rfl) (by rfl) (by omega) (by omega) (by omega) (by omega) rfl ?_
  refine jT_xiload (v := (0, 2)) (pcN := 2948) jIQ_379_2946 rfl rfl rfl ?_
  refine jT_xicT (pcN := 2953) jIQ_379_2948 rfl (by decide +kernel) rfl ?_
  refine jT_xiload (v := (0, 2)) (pcN := 2955) jIQ_379_2953 rfl rfl rfl ?_
  refine jT_xifT (pcN := 2970) jIQ_379_2955 rfl (by decide +kernel) rfl ?_
  refine jT_xgoto (pcN := 3740) jIQ_379_2970 rfl ?_
  refine jT_xiinc (x := 0) (z := 5) (LN := [(5, (0, 5)), (7, (0, 0)), (6, (0, 2)), (4, (4, 3)), (3, (4, 2)), (2, (4, 1)), (1, (4, 0)), (0, (6, 0))]) (pcN := 3743) jIQ_379_3740 rfl rfl (by decide) rfl rfl ?_
  refine jT_xgoto (pcN := 28) jIQ_379_3743 rfl ?_
  refine jT_xiload (v := (0, 5)) (pcN := 30) jIQ_379_28 rfl rfl rfl ?_
  refine jT_xaload_n (v := (6, 0)) (pcN := 31) jIQ_379_30 rfl rfl rfl ?_
  refine jT_adv 1 (pcN := 32) (LN := [(5, (0, 5)), (7, (0, 0)), (6, (0, 2)), (4, (4, 3)), (3, (4, 2)), (2, (4, 1)), (1, (4, 0)), (0, (6, 0))]) (stN := [(0, 5), (0, 5)]) (hsN := jpQ_796) (c1 := 0) (s1 := 0) (c2 := 0) (s2 := 0) (by exact rfl) ?_ (by omega) (by omega)
  refine jT_xiconst (k := 5) (pcN := 33) jIQ_379_32 rfl ?_
  refine jT_xisub (x := 5) (y := 5) (z := 0) (pcN := 34) jIQ_379_33 rfl (by decide) rfl ?_
  refine jT_xicT (pcN := 3746) jIQ_379_34 rfl (by decide +kernel) rfl ?_
  refine jT_xiconst (k := 1) (pcN := 3747) jIQ_379_3746 rfl ?_
  exact jT_ret rfl (by decide) (by show 30 ≤ 30; decide) (by omega) (by omega) ⟨rfl, rfl⟩
set_option maxRecDepth 100000 in
theorem jL_38_7 {d : Nat} {x0 x1 x2 x3 x4 : Int} (h_x0 : (-2147483648) ≤ x0 ∧ x0 ≤ 2147483647) (h_x1 : 0 ≤ x1 ∧ x1 ≤ 20) (h_x2 : 0 ≤ x2 ∧ x2 ≤ 10) (h_x3 : (-2147483648) ≤ x3 ∧ x3 ≤ 2147483647) (h_x4 : 101 ≤ x4 ∧ x4 ≤ 2147483647) : jT [x0, x1, x2, x3, x4] (d + 3) 379 30 2881 [(5, (0, 0)), (4, (4, 3)), (3, (4, 2)), (2, (4, 1)), (1, (4, 0)), (0, (6, 0))] [] jpQ_746 1 6 (fun k v hsN => k = 0 ∧ v = (0, 1)) := by
  refine jT_xaload_n (v := (4, 0)) (pcN := 2882) jIQ_379_2881 rfl rfl rfl ?_
  refine jT_xaload_n (v := (6, 0)) (pcN := 2883) jIQ_379_2882 rfl rfl rfl ?_
  refine jT_xiload (v := (0, 0)) (pcN := 2885) jIQ_379_2883 rfl rfl rfl ?_
  refine jT_xiconst (k := 1) (pcN := 2886) jIQ_379_2885 rfl ?_
  refine jT_xiadd (x := 0) (y := 1) (z := 1) (pcN := 2887) jIQ_379_2886 rfl (by decide) rfl ?_
  refine jT_adv 1 (pcN := 2888) (LN := [(5, (0, 0)), (4, (4, 3)), (3, (4, 2)), (2, (4, 1)), (1, (4, 0)), (0, (6, 0))]) (stN := [(0, x1), (4, 0)]) (hsN := jpQ_746) (c1 := 0) (s1 := 0) (c2 := 1) (s2 := 6) (by exact rfl) ?_ (by omega) (by omega)
  refine jT_xaload_n (v := (6, 0)) (pcN := 2889) jIQ_379_2888 rfl rfl rfl ?_
  refine jT_xiload (v := (0, 0)) (pcN := 2891) jIQ_379_2889 rfl rfl rfl ?_
  refine jT_xiconst (k := 2) (pcN := 2892) jIQ_379_2891 rfl ?_
  refine jT_xiadd (x := 0) (y := 2) (z := 2) (pcN := 2893) jIQ_379_2892 rfl (by decide) rfl ?_
  refine jT_adv 1 (pcN := 2894) (LN := [(5, (0, 0)), (4, (4, 3)), (3, (4, 2)), (2, (4, 1)), (1, (4, 0)), (0, (6, 0))]) (stN := [(0, x2), (0, x1), (4, 0)]) (hsN := jpQ_746) (c1 := 0) (s1 := 0) (c2 := 1) (s2 := 6) (by exact rfl) ?_ (by omega) (by omega)
  refine jT_xaload_n (v := (6, 0)) (pcN := 2895) jIQ_379_2894 rfl rfl rfl ?_
  refine jT_xiload (v := (0, 0)) (pcN := 2897) jIQ_379_2895 rfl rfl rfl ?_
  refine jT_xiconst (k := 3) (pcN := 2898) jIQ_379_2897 rfl ?_
  refine jT_xiadd (x := 0) (y := 3) (z := 3) (pcN := 2899) jIQ_379_2898 rfl (by decide) rfl ?_
  refine jT_adv 1 (pcN := 2900) (LN := [(5, (0, 0)), (4, (4, 3)), (3, (4, 2)), (2, (4, 1)), (1, (4, 0)), (0, (6, 0))]) (stN := [(0, x3), (0, x2), (0, x1), (4, 0)]) (hsN := jpQ_746) (c1 := 0) (s1 := 0) (c2 := 1) (s2 := 6) (by exact rfl) ?_ (by omega) (by omega)
  refine jT_xaload_n (v := (6, 0)) (pcN := 2901) jIQ_379_2900 rfl rfl rfl ?_
  refine jT_xiload (v := (0, 0)) (pcN := 2903) jIQ_379_2901 rfl rfl rfl ?_
  refine jT_xiconst (k := 4) (pcN := 2904) jIQ_379_2903 rfl ?_
  refine jT_xiadd (x := 0) (y := 4) (z := 4) (pcN := 2905) jIQ_379_2904 rfl (by decide) rfl ?_
  refine jT_adv 1 (pcN := 2906) (LN := [(5, (0, 0)), (4, (4, 3)), (3, (4, 2)), (2, (4, 1)), (1, (4, 0)), (0, (6, 0))]) (stN := [(0, x4), (0, x3), (0, x2), (0, x1), (4, 0)]) (hsN := jpQ_746) (c1 := 0) (s1 := 0) (c2 := 1) (s2 := 6) (by exact rfl) ?_ (by omega) (by omega)
  refine jT_xaload_n (v := (4, 2)) (pcN := 2907) jIQ_379_2906 rfl rfl rfl ?_
  refine jT_fR [0, 2, 4, 5, 6, 7, 8, 9, 10, 11, 12, 13, 14] 30 (y := 362) (pcN := 2910) (dC := 2) (bc1 := 1) (bc2 := 6) (c1 := 0) (c2 := 0) (as := [(4, 0), (0, x1), (0, x2), (0, x3), (0, x4), (4, 2)]) (asC := [(4, 0), (0, x1), (0, x2), (0, x3), (0, x4), (4, 1)]) (LN := [(5, (0, 0)), (4, (4, 3)), (3, (4, 2)), (2, (4, 1)), (1, (4, 0)), (0, (6, 0))]) (stN := []) (hsC := jpQ_17) (v := (0, 1)) (st2 := [(0, 1)]) (jQ_362_305 (d := 0) (by omega) (by omega) (by omega) (by omega)) (by rfl) (by rfl) (by decide +kernel) (by rfl) (by rfl) (by omega) (by omega) (by omega) (by omega) rfl ?_
  refine jT_xistore (v := (0, 1)) (LN := [(6, (0, 1)), (5, (0, 0)), (4, (4, 3)), (3, (4, 2)), (2, (4, 1)), (1, (4, 0)), (0, (6, 0))]) (pcN := 2912) jIQ_379_2910 rfl rfl rfl rfl ?_
  refine jT_xaload_n (v := (4, 1)) (pcN := 2913) jIQ_379_2912 rfl rfl rfl ?_
  refine jT_xaload_n (v := (6, 0)) (pcN := 2914) jIQ_379_2913 rfl rfl rfl ?_
  refine jT_xiload (v := (0, 0)) (pcN := 2916) jIQ_379_2914 rfl rfl rfl ?_
  refine jT_xiconst (k := 1) (pcN := 2917) jIQ_379_2916 rfl ?_
  refine jT_xiadd (x := 0) (y := 1) (z := 1) (pcN := 2918) jIQ_379_2917 rfl (by decide) rfl ?_
  refine jT_adv 1 (pcN := 2919) (LN := [(6, (0, 1)), (5, (0, 0)), (4, (4, 3)), (3, (4, 2)), (2, (4, 1)), (1, (4, 0)), (0, (6, 0))]) (stN := [(0, x1), (4, 1)]) (hsN := jpQ_746) (c1 := 0) (s1 := 0) (c2 := 0) (s2 := 0) (by exact rfl) ?_ (by omega) (by omega)
  refine jT_xaload_n (v := (6, 0)) (pcN := 2920) jIQ_379_2919 rfl rfl rfl ?_
  refine jT_xiload (v := (0, 0)) (pcN := 2922) jIQ_379_2920 rfl rfl rfl ?_
  refine jT_xiconst (k := 2) (pcN := 2923) jIQ_379_2922 rfl ?_
  refine jT_xiadd (x := 0) (y := 2) (z := 2) (pcN := 2924) jIQ_379_2923 rfl (by decide) rfl ?_
  refine jT_adv 1 (pcN := 2925) (LN := [(6, (0, 1)), (5, (0, 0)), (4, (4, 3)), (3, (4, 2)), (2, (4, 1)), (1, (4, 0)), (0, (6, 0))]) (stN := [(0, x2), (0, x1), (4, 1)]) (hsN := jpQ_746) (c1 := 0) (s1 := 0) (c2 := 0) (s2 := 0) (by exact rfl) ?_ (by omega) (by omega)
  refine jT_xaload_n (v := (6, 0)) (pcN := 2926) jIQ_379_2925 rfl rfl rfl ?_
  refine jT_xiload (v := (0, 0)) (pcN := 2928) jIQ_379_2926 rfl rfl rfl ?_
  refine jT_xiconst (k := 3) (pcN := 2929) jIQ_379_2928 rfl ?_
  refine jT_xiadd (x := 0) (y := 3) (z := 3) (pcN := 2930) jIQ_379_2929 rfl (by decide) rfl ?_
  refine jT_adv 1 (pcN := 2931) (LN := [(6, (0, 1)), (5, (0, 0)), (4, (4, 3)), (3, (4, 2)), (2, (4, 1)), (1, (4, 0)), (0, (6, 0))]) (stN := [(0, x3), (0, x2), (0, x1), (4, 1)]) (hsN := jpQ_746) (c1 := 0) (s1 := 0) (c2 := 0) (s2 := 0) (by exact rfl) ?_ (by omega) (by omega)
  refine jT_xaload_n (v := (6, 0)) (pcN := 2932) jIQ_379_2931 rfl rfl rfl ?_
  refine jT_xiload (v := (0, 0)) (pcN := 2934) jIQ_379_2932 rfl rfl rfl ?_
  refine jT_xiconst (k := 4) (pcN := 2935) jIQ_379_2934 rfl ?_
  refine jT_xiadd (x := 0) (y := 4) (z := 4) (pcN := 2936) jIQ_379_2935 rfl (by decide) rfl ?_
  refine jT_adv 1 (pcN := 2937) (LN := [(6, (0, 1)), (5, (0, 0)), (4, (4, 3)), (3, (4, 2)), (2, (4, 1)), (1, (4, 0)), (0, (6, 0))]) (stN := [(0, x4), (0, x3), (0, x2), (0, x1), (4, 1)]) (hsN := jpQ_746) (c1 := 0) (s1 := 0) (c2 := 0) (s2 := 0) (by exact rfl) ?_ (by omega) (by omega)
  refine jT_fB [1, 15, 16, 17, 18, 19, 20, 21, 22, 23, 24, 25, 26, 27, 28, 29] 30 (y := 298) (pcN := 2940) (dC := 1) (bc1 := 0) (bc2 := 0) (c1 := 0) (c2 := 0) (as := [(4, 1), (0, x1), (0, x2), (0, x3), (0, x4)]) (asC := [(4, 0), (0, x1), (0, x2), (0, x3), (0, x4)]) (LN := [(6, (0, 1)), (5, (0, 0)), (4, (4, 3)), (3, (4, 2)), (2, (4, 1)), (1, (4, 0)), (0, (6, 0))]) (stN := []) (hsC := jpQ_21) (hsD := jpQ_19) (v := (0, 0)) (st2 := [(0, 0)]) (hs2 := jpQ_779) (jQ_298_306 (d := 0) (by omega) (by omega) (by omega) (by omega)) (by rfl) (by rfl) (by decide +kernel) (by rfl) (by rfl) (by omega) (by omega) (by omega) (by omega) rfl (by decide +kernel) ?_
  refine jT_xistore (v := (0, 0)) (LN := [(7, (0, 0)), (6, (0, 1)), (5, (0, 0)), (4, (4, 3)), (3, (4, 2)), (2, (4, 1)), (1, (4, 0)), (0, (6, 0))]) (pcN := 2942) jIQ_379_2940 rfl rfl rfl rfl ?_
  refine jT_xaload_n (v := (4, 1)) (pcN := 2943) jIQ_379_2942 rfl rfl rfl ?_
  refine jT_fR [1, 15, 16, 17, 18, 19, 20, 21, 22, 23, 24, 25, 26, 27, 28, 29] 30 (y := 186) (pcN := 2946) (dC := 0) (bc1 := 0) (bc2 := 0) (c1 := 0) (c2 := 0) (as := [(4, 1)]) (asC := [(4, 0)]) (LN := [(7, (0, 0)), (6, (0, 1)), (5, (0, 0)), (4, (4, 3)), (3, (4, 2)), (2, (4, 1)), (1, (4, 0)), (0, (6, 0))]) (stN := []) (hsC := jpQ_19) (v := (0, 1)) (st2 := [(0, 1)]) (jQ_186_6 (d := 0)) (by rfl) (by rfl) (by decide +kernel) (by rfl) (by rfl) (by omega) (by omega) (by omega) (by omega) rfl ?_
  refine jT_xiload (v := (0, 1)) (pcN := 2948) jIQ_379_2946 rfl rfl rfl ?_
  refine jT_xicT (pcN := 2953) jIQ_379_2948 rfl (by decide +kernel) rfl ?_
  refine jT_xiload (v := (0, 1)) (pcN := 2955) jIQ_379_2953 rfl rfl rfl ?_
  refine jT_xifT (pcN := 2970) jIQ_379_2955 rfl (by decide +kernel) rfl ?_
  refine jT_xgoto (pcN := 3740) jIQ_379_2970 rfl ?_
  refine jT_xiinc (x := 0) (z := 5) (LN := [(5, (0, 5)), (7, (0, 0)), (6, (0, 1)), (4, (4, 3)), (3, (4, 2)), (2, (4, 1)), (1, (4, 0)), (0, (6, 0))]) (pcN := 3743) jIQ_379_3740 rfl rfl (by decide) rfl rfl ?_
  refine jT_xgoto (pcN := 28) jIQ_379_3743 rfl ?_
  refine jT_xiload (v := (0, 5)) (pcN := 30) jIQ_379_28 rfl rfl rfl ?_
  refine jT_xaload_n (v := (6, 0)) (pcN := 31) jIQ_379_30 rfl rfl rfl ?_
  refine jT_adv 1 (pcN := 32) (LN := [(5, (0, 5)), (7, (0, 0)), (6, (0, 1)), (4, (4, 3)), (3, (4, 2)), (2, (4, 1)), (1, (4, 0)), (0, (6, 0))]) (stN := [(0, 5), (0, 5)]) (hsN := jpQ_779) (c1 := 0) (s1 := 0) (c2 := 0) (s2 := 0) (by exact rfl) ?_ (by omega) (by omega)
  refine jT_xiconst (k := 5) (pcN := 33) jIQ_379_32 rfl ?_
  refine jT_xisub (x := 5) (y := 5) (z := 0) (pcN := 34) jIQ_379_33 rfl (by decide) rfl ?_
  refine jT_xicT (pcN := 3746) jIQ_379_34 rfl (by decide +kernel) rfl ?_
  refine jT_xiconst (k := 1) (pcN := 3747) jIQ_379_3746 rfl ?_
  exact jT_ret rfl (by decide) (by show 30 ≤ 30; decide) (by omega) (by omega) ⟨rfl, rfl⟩
set_option maxRecDepth 100000 in
theorem jL_38_8 {d : Nat} {x0 x1 x2 x3 x4 : Int} (h_x0 : (-2147483648) ≤ x0 ∧ x0 ≤ 2147483647) (h_x1 : 0 ≤ x1 ∧ x1 ≤ 20) (h_x2 : 11 ≤ x2 ∧ x2 ≤ 2147483647) (h_x3 : (-2147483648) ≤ x3 ∧ x3 ≤ 2147483647) (h_x4 : (-2147483648) ≤ x4 ∧ x4 ≤ 2147483647) : jT [x0, x1, x2, x3, x4] (d + 3) 379 30 2881 [(5, (0, 0)), (4, (4, 3)), (3, (4, 2)), (2, (4, 1)), (1, (4, 0)), (0, (6, 0))] [] jpQ_746 1 6 (fun k v hsN => k = 0 ∧ v = (0, 1)) := by
  refine jT_xaload_n (v := (4, 0)) (pcN := 2882) jIQ_379_2881 rfl rfl rfl ?_
  refine jT_xaload_n (v := (6, 0)) (pcN := 2883) jIQ_379_2882 rfl rfl rfl ?_
  refine jT_xiload (v := (0, 0)) (pcN := 2885) jIQ_379_2883 rfl rfl rfl ?_
  refine jT_xiconst (k := 1) (pcN := 2886) jIQ_379_2885 rfl ?_
  refine jT_xiadd (x := 0) (y := 1) (z := 1) (pcN := 2887) jIQ_379_2886 rfl (by decide) rfl ?_
  refine jT_adv 1 (pcN := 2888) (LN := [(5, (0, 0)), (4, (4, 3)), (3, (4, 2)), (2, (4, 1)), (1, (4, 0)), (0, (6, 0))]) (stN := [(0, x1), (4, 0)]) (hsN := jpQ_746) (c1 := 0) (s1 := 0) (c2 := 1) (s2 := 6) (by exact rfl) ?_ (by omega) (by omega)
  refine jT_xaload_n (v := (6, 0)) (pcN := 2889) jIQ_379_2888 rfl rfl rfl ?_
  refine jT_xiload (v := (0, 0)) (pcN := 2891) jIQ_379_2889 rfl rfl rfl ?_
  refine jT_xiconst (k := 2) (pcN := 2892) jIQ_379_2891 rfl ?_
  refine jT_xiadd (x := 0) (y := 2) (z := 2) (pcN := 2893) jIQ_379_2892 rfl (by decide) rfl ?_
  refine jT_adv 1 (pcN := 2894) (LN := [(5, (0, 0)), (4, (4, 3)), (3, (4, 2)), (2, (4, 1)), (1, (4, 0)), (0, (6, 0))]) (stN := [(0, x2), (0, x1), (4, 0)]) (hsN := jpQ_746) (c1 := 0) (s1 := 0) (c2 := 1) (s2 := 6) (by exact rfl) ?_ (by omega) (by omega)
  refine jT_xaload_n (v := (6, 0)) (pcN := 2895) jIQ_379_2894 rfl rfl rfl ?_
  refine jT_xiload (v := (0, 0)) (pcN := 2897) jIQ_379_2895 rfl rfl rfl ?_
  refine jT_xiconst (k := 3) (pcN := 2898) jIQ_379_2897 rfl ?_
  refine jT_xiadd (x := 0) (y := 3) (z := 3) (pcN := 2899) jIQ_379_2898 rfl (by decide) rfl ?_
  refine jT_adv 1 (pcN := 2900) (LN := [(5, (0, 0)), (4, (4, 3)), (3, (4, 2)), (2, (4, 1)), (1, (4, 0)), (0, (6, 0))]) (stN := [(0, x3), (0, x2), (0, x1), (4, 0)]) (hsN := jpQ_746) (c1 := 0) (s1 := 0) (c2 := 1) (s2 := 6) (by exact rfl) ?_ (by omega) (by omega)
  refine jT_xaload_n (v := (6, 0)) (pcN := 2901) jIQ_379_2900 rfl rfl rfl ?_
  refine jT_xiload (v := (0, 0)) (pcN := 2903) jIQ_379_2901 rfl rfl rfl ?_
  refine jT_xiconst (k := 4) (pcN := 2904) jIQ_379_2903 rfl ?_
  refine jT_xiadd (x := 0) (y := 4) (z := 4) (pcN := 2905) jIQ_379_2904 rfl (by decide) rfl ?_
  refine jT_adv 1 (pcN := 2906) (LN := [(5, (0, 0)), (4, (4, 3)), (3, (4, 2)), (2, (4, 1)), (1, (4, 0)), (0, (6, 0))]) (stN := [(0, x4), (0, x3), (0, x2), (0, x1), (4, 0)]) (hsN := jpQ_746) (c1 := 0) (s1 := 0) (c2 := 1) (s2 := 6) (by exact rfl) ?_ (by omega) (by omega)
  refine jT_xaload_n (v := (4, 2)) (pcN := 2907) jIQ_379_2906 rfl rfl rfl ?_
  refine jT_fR [0, 2, 4, 5, 6, 7, 8, 9, 10, 11, 12, 13, 14] 30 (y := 362) (pcN := 2910) (dC := 2) (bc1 := 1) (bc2 := 6) (c1 := 0) (c2 := 0) (as := [(4, 0), (0, x1), (0, x2), (0, x3), (0, x4), (4, 2)]) (asC := [(4, 0), (0, x1), (0, x2), (0, x3), (0, x4), (4, 1)]) (LN := [(5, (0, 0)), (4, (4, 3)), (3, (4, 2)), (2, (4, 1)), (1, (4, 0)), (0, (6, 0))]) (stN := []) (hsC := jpQ_17) (v := (0, 1)) (st2 := [(0, 1)]) (jQ_362_309 (d := 0) (by omega) (by omega) (by omega) (by omega)) (by rfl) (by rfl) (by decide +kernel) (by rfl) (by rfl) (by omega) (by omega) (by omega) (by omega) rfl ?_
  refine jT_xistore (v := (0, 1)) (LN := [(6, (0, 1)), (5, (0, 0)), (4, (4, 3)), (3, (4, 2)), (2, (4, 1)), (1, (4, 0)), (0, (6, 0))]) (pcN := 2912) jIQ_379_2910 rfl rfl rfl rfl ?_
  refine jT_xaload_n (v := (4, 1)) (pcN := 2913) jIQ_379_2912 rfl rfl rfl ?_
  refine jT_xaload_n (v := (6, 0)) (pcN := 2914) jIQ_379_2913 rfl rfl rfl ?_
  refine jT_xiload (v := (0, 0)) (pcN := 2916) jIQ_379_2914 rfl rfl rfl ?_
  refine jT_xiconst (k := 1) (pcN := 2917) jIQ_379_2916 rfl ?_
  refine jT_xiadd (x := 0) (y := 1) (z := 1) (pcN := 2918) jIQ_379_2917 rfl (by decide) rfl ?_
  refine jT_adv 1 (pcN := 2919) (LN := [(6, (0, 1)), (5, (0, 0)), (4, (4, 3)), (3, (4, 2)), (2, (4, 1)), (1, (4, 0)), (0, (6, 0))]) (stN := [(0, x1), (4, 1)]) (hsN := jpQ_746) (c1 := 0) (s1 := 0) (c2 := 0) (s2 := 0) (by exact rfl) ?_ (by omega) (by omega)
  refine jT_xaload_n (v := (6, 0)) (pcN := 2920) jIQ_379_2919 rfl rfl rfl ?_
  refine jT_xiload (v := (0, 0)) (pcN := 2922) jIQ_379_2920 rfl rfl rfl ?_
  refine jT_xiconst (k := 2) (pcN := 2923) jIQ_379_2922 rfl ?_
  refine jT_xiadd (x := 0) (y := 2) (z := 2) (pcN := 2924) jIQ_379_2923 rfl (by decide) rfl ?_
  refine jT_adv 1 (pcN := 2925) (LN := [(6, (0, 1)), (5, (0, 0)), (4, (4, 3)), (3, (4, 2)), (2, (4, 1)), (1, (4, 0)), (0, (6, 0))]) (stN := [(0, x2), (0, x1), (4, 1)]) (hsN := jpQ_746) (c1 := 0) (s1 := 0) (c2 := 0) (s2 := 0) (by exact rfl) ?_ (by omega) (by omega)
  refine jT_xaload_n (v := (6, 0)) (pcN := 2926) jIQ_379_2925 rfl rfl rfl ?_
  refine jT_xiload (v := (0, 0)) (pcN := 2928) jIQ_379_2926 rfl rfl rfl ?_
  refine jT_xiconst (k := 3) (pcN := 2929) jIQ_379_2928 rfl ?_
  refine jT_xiadd (x := 0) (y := 3) (z := 3) (pcN := 2930) jIQ_379_2929 rfl (by decide) rfl ?_
  refine jT_adv 1 (pcN := 2931) (LN := [(6, (0, 1)), (5, (0, 0)), (4, (4, 3)), (3, (4, 2)), (2, (4, 1)), (1, (4, 0)), (0, (6, 0))]) (stN := [(0, x3), (0, x2), (0, x1), (4, 1)]) (hsN := jpQ_746) (c1 := 0) (s1 := 0) (c2 := 0) (s2 := 0) (by exact rfl) ?_ (by omega) (by omega)
  refine jT_xaload_n (v := (6, 0)) (pcN := 2932) jIQ_379_2931 rfl rfl rfl ?_
  refine jT_xiload (v := (0, 0)) (pcN := 2934) jIQ_379_2932 rfl rfl rfl ?_
  refine jT_xiconst (k := 4) (pcN := 2935) jIQ_379_2934 rfl ?_
  refine jT_xiadd (x := 0) (y := 4) (z := 4) (pcN := 2936) jIQ_379_2935 rfl (by decide) rfl ?_
  refine jT_adv 1 (pcN := 2937) (LN := [(6, (0, 1)), (5, (0, 0)), (4, (4, 3)), (3, (4, 2)), (2, (4, 1)), (1, (4, 0)), (0, (6, 0))]) (stN := [(0, x4), (0, x3), (0, x2), (0, x1), (4, 1)]) (hsN := jpQ_746) (c1 := 0) (s1 := 0) (c2 := 0) (s2 := 0) (by exact rfl) ?_ (by omega) (by omega)
  refine jT_fB [1, 15, 16, 17, 18, 19, 20, 21, 22, 23, 24, 25, 26, 27, 28, 29] 30 (y := 298) (pcN := 2940) (dC := 1) (bc1 := 0) (bc2 := 0) (c1 := 0) (c2 := 0) (as := [(4, 1), (0, x1), (0, x2), (0, x3), (0, x4)]) (asC := [(4, 0), (0, x1), (0, x2), (0, x3), (0, x4)]) (LN := [(6, (0, 1)), (5, (0, 0)), (4, (4, 3)), (3, (4, 2)), (2, (4, 1)), (1, (4, 0)), (0, (6, 0))]) (stN := []) (hsC := jpQ_21) (hsD := jpQ_19) (v := (0, 0)) (st2 := [(0, 0)]) (hs2 := jpQ_779) (jQ_298_310 (d := 0) (by omega) (by omega) (by omega) (by omega)) (by rfl) (by rfl) (by decide +kernel) (by rfl) (by rfl) (by omega) (by omega) (by omega) (by omega) rfl (by decide +kernel) ?_
  refine jT_xistore (v := (0, 0)) (LN := [(7, (0, 0)), (6, (0, 1)), (5, (0, 0)), (4, (4, 3)), (3, (4, 2)), (2, (4, 1)), (1, (4, 0)), (0, (6, 0))]) (pcN := 2942) jIQ_379_2940 rfl rfl rfl rfl ?_
  refine jT_xaload_n (v := (4, 1)) (pcN := 2943) jIQ_379_2942 rfl rfl rfl ?_
  refine jT_fR [1, 15, 16, 17, 18, 19, 20, 21, 22, 23, 24, 25, 26, 27, 28, 29] 30 (y := 186) (pcN := 2946) (dC := 0) (bc1 := 0) (bc2 := 0) (c1 := 0) (c2 := 0) (as := [(4, 1)]) (asC := [(4, 0)]) (LN := [(7, (0, 0)), (6, (0, 1)), (5, (0, 0)), (4, (4, 3)), (3, (4, 2)), (2, (4, 1)), (1, (4, 0)), (0, (6, 0))]) (stN := []) (hsC := jpQ_19) (v := (0, 1)) (st2 := [(0, 1)]) (jQ_186_6 (d := 0)) (by rfl) (by rfl) (by decide +kernel) (by rfl) (by rfl) (by omega) (by omega) (by omega) (by omega) rfl ?_
  refine jT_xiload (v := (0, 1)) (pcN := 2948) jIQ_379_2946 rfl rfl rfl ?_
  refine jT_xicT (pcN := 2953) jIQ_379_2948 rfl (by decide +kernel) rfl ?_
  refine jT_xiload (v := (0, 1)) (pcN := 2955) jIQ_379_2953 rfl rfl rfl ?_
  refine jT_xifT (pcN := 2970) jIQ_379_2955 rfl (by decide +kernel) rfl ?_
  refine jT_xgoto (pcN := 3740) jIQ_379_2970 rfl ?_
  refine jT_xiinc (x := 0) (z := 5) (LN := [(5, (0, 5)), (7, (0, 0)), (6, (0, 1)), (4, (4, 3)), (3, (4, 2)), (2, (4, 1)), (1, (4, 0)), (0, (6, 0))]) (pcN := 3743) jIQ_379_3740 rfl rfl (by decide) rfl rfl ?_
  refine jT_xgoto (pcN := 28) jIQ_379_3743 rfl ?_
  refine jT_xiload (v := (0, 5)) (pcN := 30) jIQ_379_28 rfl rfl rfl ?_
  refine jT_xaload_n (v := (6, 0)) (pcN := 31) jIQ_379_30 rfl rfl rfl ?_
  refine jT_adv 1 (pcN := 32) (LN := [(5, (0, 5)), (7, (0, 0)), (6, (0, 1)), (4, (4, 3)), (3, (4, 2)), (2, (4, 1)), (1, (4, 0)), (0, (6, 0))]) (stN := [(0, 5), (0, 5)]) (hsN := jpQ_779) (c1 := 0) (s1 := 0) (c2 := 0) (s2 := 0) (by exact rfl) ?_ (by omega) (by omega)
  refine jT_xiconst (k := 5) (pcN := 33) jIQ_379_32 rfl ?_
  refine jT_xisub (x := 5) (y := 5) (z := 0) (pcN := 34) jIQ_379_33 rfl (by decide) rfl ?_
  refine jT_xicT (pcN := 3746) jIQ_379_34 rfl (by decide +kernel) rfl ?_
  refine jT_xiconst (k := 1) (pcN := 3747) jIQ_379_3746 rfl ?_
  exact jT_ret rfl (by decide) (by show 30 ≤ 30; decide) (by omega) (by omega) ⟨rfl, rfl⟩
set_option maxRecDepth 100000 in
theorem jL_38_9 {d : Nat} {x0 x1 x2 x3 x4 : Int} (h_x0 : (-2147483648) ≤ x0 ∧ x0 ≤ 2147483647) (h_x1 : 21 ≤ x1 ∧ x1 ≤ 2147483647) (h_x2 : (-2147483648) ≤ x2 ∧ x2 ≤ 2147483647) (h_x3 : (-2147483648) ≤ x3 ∧ x3 ≤ 2147483647) (h_x4 : (-2147483648) ≤ x4 ∧ x4 ≤ 2147483647) : jT [x0, x1, x2, x3, x4] (d + 3) 379 30 2881 [(5, (0, 0)), (4, (4, 3)), (3, (4, 2)), (2, (4, 1)), (1, (4, 0)), (0, (6, 0))] [] jpQ_746 1 6 (fun k v hsN => k = 0 ∧ v = (0, 1)) := by
  refine jT_xaload_n (v := (4, 0)) (pcN := 2882) jIQ_379_2881 rfl rfl rfl ?_
  refine jT_xaload_n (v := (6, 0)) (pcN := 2883) jIQ_379_2882 rfl rfl rfl ?_
  refine jT_xiload (v := (0, 0)) (pcN := 2885) jIQ_379_2883 rfl rfl rfl ?_
  refine jT_xiconst (k := 1) (pcN := 2886) jIQ_379_2885 rfl ?_
  refine jT_xiadd (x := 0) (y := 1) (z := 1) (pcN := 2887) jIQ_379_2886 rfl (by decide) rfl ?_
  refine jT_adv 1 (pcN := 2888) (LN := [(5, (0, 0)), (4, (4, 3)), (3, (4, 2)), (2, (4, 1)), (1, (4, 0)), (0, (6, 0))]) (stN := [(0, x1), (4, 0)]) (hsN := jpQ_746) (c1 := 0) (s1 := 0) (c2 := 1) (s2 := 6) (by exact rfl) ?_ (by omega) (by omega)
  refine jT_xaload_n (v := (6, 0)) (pcN := 2889) jIQ_379_2888 rfl rfl rfl ?_
  refine jT_xiload (v := (0, 0)) (pcN := 2891) jIQ_379_2889 rfl rfl rfl ?_
  refine jT_xiconst (k := 2) (pcN := 2892) jIQ_379_2891 rfl ?_
  refine jT_xiadd (x := 0) (y := 2) (z := 2) (pcN := 2893) jIQ_379_2892 rfl (by decide) rfl ?_
  refine jT_adv 1 (pcN := 2894) (LN := [(5, (0, 0)), (4, (4, 3)), (3, (4, 2)), (2, (4, 1)), (1, (4, 0)), (0, (6, 0))]) (stN := [(0, x2), (0, x1), (4, 0)]) (hsN := jpQ_746) (c1 := 0) (s1 := 0) (c2 := 1) (s2 := 6) (by exact rfl) ?_ (by omega) (by omega)
  refine jT_xaload_n (v := (6, 0)) (pcN := 2895) jIQ_379_2894 rfl rfl rfl ?_
  refine jT_xiload (v := (0, 0)) (pcN := 2897) jIQ_379_2895 rfl rfl rfl ?_
  refine jT_xiconst (k := 3) (pcN := 2898) jIQ_379_2897 rfl ?_
  refine jT_xiadd (x := 0) (y := 3) (z := 3) (pcN := 2899) jIQ_379_2898 rfl (by decide) rfl ?_
  refine jT_adv 1 (pcN := 2900) (LN := [(5, (0, 0)), (4, (4, 3)), (3, (4, 2)), (2, (4, 1)), (1, (4, 0)), (0, (6, 0))]) (stN := [(0, x3), (0, x2), (0, x1), (4, 0)]) (hsN := jpQ_746) (c1 := 0) (s1 := 0) (c2 := 1) (s2 := 6) (by exact rfl) ?_ (by omega) (by omega)
  refine jT_xaload_n (v := (6, 0)) (pcN := 2901) jIQ_379_2900 rfl rfl rfl ?_
  refine jT_xiload (v := (0, 0)) (pcN := 2903) jIQ_379_2901 rfl rfl rfl ?_
  refine jT_xiconst (k := 4) (pcN := 2904) jIQ_379_2903 rfl ?_
  refine jT_xiadd (x := 0) (y := 4) (z := 4) (pcN := 2905) jIQ_379_2904 rfl (by decide) rfl ?_
  refine jT_adv 1 (pcN := 2906) (LN := [(5, (0, 0)), (4, (4, 3)), (3, (4, 2)), (2, (4, 1)), (1, (4, 0)), (0, (6, 0))]) (stN := [(0, x4), (0, x3), (0, x2), (0, x1), (4, 0)]) (hsN := jpQ_746) (c1 := 0) (s1 := 0) (c2 := 1) (s2 := 6) (by exact rfl) ?_ (by omega) (by omega)
  refine jT_xaload_n (v := (4, 2)) (pcN := 2907) jIQ_379_2906 rfl rfl rfl ?_
  refine jT_fR [0, 2, 4, 5, 6, 7, 8, 9, 10, 11, 12, 13, 14] 30 (y := 362) (pcN := 2910) (dC := 2) (bc1 := 1) (bc2 := 6) (c1 := 0) (c2 := 0) (as := [(4, 0), (0, x1), (0, x2), (0, x3), (0, x4), (4, 2)]) (asC := [(4, 0), (0, x1), (0, x2), (0, x3), (0, x4), (4, 1)]) (LN := [(5, (0, 0)), (4, (4, 3)), (3, (4, 2)), (2, (4, 1)), (1, (4, 0)), (0, (6, 0))]) (stN := []) (hsC := jpQ_17) (v := (0, 1)) (st2 := [(0, 1)]) (jQ_362_313 (d := 0) (by omega) (by omega) (by omega) (by omega)) (by rfl) (by rfl) (by decide +kernel) (by rfl) (by rfl) (by omega) (by omega) (by omega) (by omega) rfl ?_
  refine jT_xistore (v := (0, 1)) (LN := [(6, (0, 1)), (5, (0, 0)), (4, (4, 3)), (3, (4, 2)), (2, (4, 1)), (1, (4, 0)), (0, (6, 0))]) (pcN := 2912) jIQ_379_2910 rfl rfl rfl rfl ?_
  refine jT_xaload_n (v := (4, 1)) (pcN := 2913) jIQ_379_2912 rfl rfl rfl ?_
  refine jT_xaload_n (v := (6, 0)) (pcN := 2914) jIQ_379_2913 rfl rfl rfl ?_
  refine jT_xiload (v := (0, 0)) (pcN := 2916) jIQ_379_2914 rfl rfl rfl ?_
  refine jT_xiconst (k := 1) (pcN := 2917) jIQ_379_2916 rfl ?_
  refine jT_xiadd (x := 0) (y := 1) (z := 1) (pcN := 2918) jIQ_379_2917 rfl (by decide) rfl ?_
  refine jT_adv 1 (pcN := 2919) (LN := [(6, (0, 1)), (5, (0, 0)), (4, (4, 3)), (3, (4, 2)), (2, (4, 1)), (1, (4, 0)), (0, (6, 0))]) (stN := [(0, x1), (4, 1)]) (hsN := jpQ_746) (c1 := 0) (s1 := 0) (c2 := 0) (s2 := 0) (by exact rfl) ?_ (by omega) (by omega)
  refine jT_xaload_n (v := (6, 0)) (pcN := 2920) jIQ_379_2919 rfl rfl rfl ?_
  refine jT_xiload (v := (0, 0)) (pcN := 2922) jIQ_379_2920 rfl rfl rfl ?_
  refine jT_xiconst (k := 2) (pcN := 2923) jIQ_379_2922 rfl ?_
  refine jT_xiadd (x := 0) (y := 2) (z := 2) (pcN := 2924) jIQ_379_2923 rfl (by decide) rfl ?_
  refine jT_adv 1 (pcN := 2925) (LN := [(6, (0, 1)), (5, (0, 0)), (4, (4, 3)), (3, (4, 2)), (2, (4, 1)), (1, (4, 0)), (0, (6, 0))]) (stN := [(0, x2), (0, x1), (4, 1)]) (hsN := jpQ_746) (c1 := 0) (s1 := 0) (c2 := 0) (s2 := 0) (by exact rfl) ?_ (by omega) (by omega)
  refine jT_xaload_n (v := (6, 0)) (pcN := 2926) jIQ_379_2925 rfl rfl rfl ?_
  refine jT_xiload (v := (0, 0)) (pcN := 2928) jIQ_379_2926 rfl rfl rfl ?_
  refine jT_xiconst (k := 3) (pcN := 2929) jIQ_379_2928 rfl ?_
  refine jT_xiadd (x := 0) (y := 3) (z := 3) (pcN := 2930) jIQ_379_2929 rfl (by decide) rfl ?_
  refine jT_adv 1 (pcN := 2931) (LN := [(6, (0, 1)), (5, (0, 0)), (4, (4, 3)), (3, (4, 2)), (2, (4, 1)), (1, (4, 0)), (0, (6, 0))]) (stN := [(0, x3), (0, x2), (0, x1), (4, 1)]) (hsN := jpQ_746) (c1 := 0) (s1 := 0) (c2 := 0) (s2 := 0) (by exact rfl) ?_ (by omega) (by omega)
  refine jT_xaload_n (v := (6, 0)) (pcN := 2932) jIQ_379_2931 rfl rfl rfl ?_
  refine jT_xiload (v := (0, 0)) (pcN := 2934) jIQ_379_2932 rfl rfl rfl ?_
  refine jT_xiconst (k := 4) (pcN := 2935) jIQ_379_2934 rfl ?_
  refine jT_xiadd (x := 0) (y := 4) (z := 4) (pcN := 2936) jIQ_379_2935 rfl (by decide) rfl ?_
  refine jT_adv 1 (pcN := 2937) (LN := [(6, (0, 1)), (5, (0, 0)), (4, (4, 3)), (3, (4, 2)), (2, (4, 1)), (1, (4, 0)), (0, (6, 0))]) (stN := [(0, x4), (0, x3), (0, x2), (0, x1), (4, 1)]) (hsN := jpQ_746) (c1 := 0) (s1 := 0) (c2 := 0) (s2 := 0) (by exact rfl) ?_ (by omega) (by omega)
  refine jT_fB [1, 15, 16, 17, 18, 19, 20, 21, 22, 23, 24, 25, 26, 27, 28, 29] 30 (y := 298) (pcN := 2940) (dC := 1) (bc1 := 0) (bc2 := 0) (c1 := 0) (c2 := 0) (as := [(4, 1), (0, x1), (0, x2), (0, x3), (0, x4)]) (asC := [(4, 0), (0, x1), (0, x2), (0, x3), (0, x4)]) (LN := [(6, (0, 1)), (5, (0, 0)), (4, (4, 3)), (3, (4, 2)), (2, (4, 1)), (1, (4, 0)), (0, (6, 0))]) (stN := []) (hsC := jpQ_21) (hsD := jpQ_19) (v := (0, 0)) (st2 := [(0, 0)]) (hs2 := jpQ_779) (jQ_298_314 (d := 0) (by omega) (by omega) (by omega) (by omega)) (by rfl) (by rfl) (by decide +kernel) (by rfl) (by rfl) (by omega) (by omega) (by omega) (by omega) rfl (by decide +kernel) ?_
  refine jT_xistore (v := (0, 0)) (LN := [(7, (0, 0)), (6, (0, 1)), (5, (0, 0)), (4, (4, 3)), (3, (4, 2)), (2, (4, 1)), (1, (4, 0)), (0, (6, 0))]) (pcN := 2942) jIQ_379_2940 rfl rfl rfl rfl ?_
  refine jT_xaload_n (v := (4, 1)) (pcN := 2943) jIQ_379_2942 rfl rfl rfl ?_
  refine jT_fR [1, 15, 16, 17, 18, 19, 20, 21, 22, 23, 24, 25, 26, 27, 28, 29] 30 (y := 186) (pcN := 2946) (dC := 0) (bc1 := 0) (bc2 := 0) (c1 := 0) (c2 := 0) (as := [(4, 1)]) (asC := [(4, 0)]) (LN := [(7, (0, 0)), (6, (0, 1)), (5, (0, 0)), (4, (4, 3)), (3, (4, 2)), (2, (4, 1)), (1, (4, 0)), (0, (6, 0))]) (stN := []) (hsC := jpQ_19) (v := (0, 1)) (st2 := [(0, 1)]) (jQ_186_6 (d := 0)) (by rfl) (by rfl) (by decide +kernel) (by rfl) (by rfl) (by omega) (by omega) (by omega) (by omega) rfl ?_
  refine jT_xiload (v := (0, 1)) (pcN := 2948) jIQ_379_2946 rfl rfl rfl ?_
  refine jT_xicT (pcN := 2953) jIQ_379_2948 rfl (by decide +kernel) rfl ?_
  refine jT_xiload (v := (0, 1)) (pcN := 2955) jIQ_379_2953 rfl rfl rfl ?_
  refine jT_xifT (pcN := 2970) jIQ_379_2955 rfl (by decide +kernel) rfl ?_
  refine jT_xgoto (pcN := 3740) jIQ_379_2970 rfl ?_
  refine jT_xiinc (x := 0) (z := 5) (LN := [(5, (0, 5)), (7, (0, 0)), (6, (0, 1)), (4, (4, 3)), (3, (4, 2)), (2, (4, 1)), (1, (4, 0)), (0, (6, 0))]) (pcN := 3743) jIQ_379_3740 rfl rfl (by decide) rfl rfl ?_
  refine jT_xgoto (pcN := 28) jIQ_379_3743 rfl ?_
  refine jT_xiload (v := (0, 5)) (pcN := 30) jIQ_379_28 rfl rfl rfl ?_
  refine jT_xaload_n (v := (6, 0)) (pcN := 31) jIQ_379_30 rfl rfl rfl ?_
  refine jT_adv 1 (pcN := 32) (LN := [(5, (0, 5)), (7, (0, 0)), (6, (0, 1)), (4, (4, 3)), (3, (4, 2)), (2, (4, 1)), (1, (4, 0)), (0, (6, 0))]) (stN := [(0, 5), (0, 5)]) (hsN := jpQ_779) (c1 := 0) (s1 := 0) (c2 := 0) (s2 := 0) (by exact rfl) ?_ (by omega) (by omega)
  refine jT_xiconst (k := 5) (pcN := 33) jIQ_379_32 rfl ?_
  refine jT_xisub (x := 5) (y := 5) (z := 0) (pcN := 34) jIQ_379_33 rfl (by decide) rfl ?_
  refine jT_xicT (pcN := 3746) jIQ_379_34 rfl (by decide +kernel) rfl ?_
  refine jT_xiconst (k := 1) (pcN := 3747) jIQ_379_3746 rfl ?_
  exact jT_ret rfl (by decide) (by show 30 ≤ 30; decide) (by omega) (by omega) ⟨rfl, rfl⟩
