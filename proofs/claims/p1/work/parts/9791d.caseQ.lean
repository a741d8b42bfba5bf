/-! the law, case by case: 38 -/
theorem jQ_47_220 {xs : List Int} {d : Nat} {x4 : Int} (h_x4 : 1 ≤ x4 ∧ x4 ≤ 100) : jT xs (d + 2) 47 4 0 [(0, (4, 0)), (1, (4, 1)), (2, (0, x4))] [] jpQ_86 0 0 (fun k v hsN => k = 0 ∧ v = (9, 0) ∧ hsN = [(8, [(4, 2), (4, 3)], []), (101, [], [(2 * x4 + 1) / 2, (((217835587388 * x4) / 68719476736) + 1) / 2, (((319123367396 * x4) / 68719476736) + 1) / 2, (((385839922510 * x4) / 68719476736) + 1) / 2, (((475460661270 * x4) / 68719476736) + 1) / 2, (((508584562244 * x4) / 68719476736) + 1) / 2]), jgh, (101, [], [0, 0, 0, 0, 0, 0])]) := by
  refine jT_xiconst (k := 0) (pcN := 1) jIQ_47_0 rfl ?_
  refine jT_xistore_n (v := (0, 0)) (LN := [(3, (0, 0)), (0, (4, 0)), (1, (4, 1)), (2, (0, x4))]) (pcN := 2) jIQ_47_1 rfl rfl rfl rfl ?_
  refine jT_xiload_n (v := (0, 0)) (pcN := 3) jIQ_47_2 rfl rfl rfl ?_
  refine jT_xbipush (k := 6) (pcN := 5) jIQ_47_3 (by decide) rfl ?_
  refine jT_xicF (t := 21) (pcN := 8) jIQ_47_5 rfl (by decide +kernel) rfl rfl ?_
  refine jT_xaload_n (v := (4, 0)) (pcN := 9) jIQ_47_8 rfl rfl rfl ?_
  refine jT_xgetf (a := 0) (t := 1) (ci := 8) (fi := 1) (c := (8, [(4, 2), (4, 3)], [])) (v := (4, 3)) (pcN := 12) jIQ_47_9 rfl rfl rfl rfl rfl rfl rfl ?_
  refine jT_xiload_n (v := (0, 0)) (pcN := 13) jIQ_47_12 rfl rfl rfl ?_
  refine jT_xlconst (z := 0) (pcN := 14) jIQ_47_13 rfl rfl ?_
  refine jT_adv 1 (pcN := 15) (LN := [(3, (0, 0)), (0, (4, 0)), (1, (4, 1)), (2, (0, x4))]) (stN := []) (hsN := jpQ_85) (c1 := 0) (s1 := 0) (c2 := 0) (s2 := 0) (by exact rfl) ?_ (by omega) (by omega)
  refine jT_xiinc (x := 0) (z := 1) (LN := [(3, (0, 1)), (0, (4, 0)), (1, (4, 1)), (2, (0, x4))]) (pcN := 18) jIQ_47_15 rfl rfl (by decide) rfl rfl ?_
  refine jT_xgoto (pcN := 2) jIQ_47_18 rfl ?_
  refine jT_xiload_n (v := (0, 1)) (pcN := 3) jIQ_47_2 rfl rfl rfl ?_
  refine jT_xbipush (k := 6) (pcN := 5) jIQ_47_3 (by decide) rfl ?_
  refine jT_xicF (t := 21) (pcN := 8) jIQ_47_5 rfl (by decide +kernel) rfl rfl ?_
  refine jT_xaload_n (v := (4, 0)) (pcN := 9) jIQ_47_8 rfl rfl rfl ?_
  refine jT_xgetf (a := 0) (t := 1) (ci := 8) (fi := 1) (c := (8, [(4, 2), (4, 3)], [])) (v := (4, 3)) (pcN := 12) jIQ_47_9 rfl rfl rfl rfl rfl rfl rfl ?_
  refine jT_xiload_n (v := (0, 1)) (pcN := 13) jIQ_47_12 rfl rfl rfl ?_
  refine jT_xlconst (z := 0) (pcN := 14) jIQ_47_13 rfl rfl ?_
  refine jT_adv 1 (pcN := 15) (LN := [(3, (0, 1)), (0, (4, 0)), (1, (4, 1)), (2, (0, x4))]) (stN := []) (hsN := jpQ_85) (c1 := 0) (s1 := 0) (c2 := 0) (s2 := 0) (by exact rfl) ?_ (by omega) (by omega)
  refine jT_xiinc (x := 1) (z := 2) (LN := [(3, (0, 2)), (0, (4, 0)), (1, (4, 1)), (2, (0, x4))]) (pcN := 18) jIQ_47_15 rfl rfl (by decide) rfl rfl ?_
  refine jT_xgoto (pcN := 2) jIQ_47_18 rfl ?_
  refine jT_xiload_n (v := (0, 2)) (pcN := 3) jIQ_47_2 rfl rfl rfl ?_
  refine jT_xbipush (k := 6) (pcN := 5) jIQ_47_3 (by decide) rfl ?_
  refine jT_xicF (t := 21) (pcN := 8) jIQ_47_5 rfl (by decide +kernel) rfl rfl ?_
  refine jT_xaload_n (v := (4, 0)) (pcN := 9) jIQ_47_8 rfl rfl rfl ?_
  refine jT_xgetf (a := 0) (t := 1) (ci := 8) (fi := 1) (c := (8, [(4, 2), (4, 3)], [])) (v := (4, 3)) (pcN := 12) jIQ_47_9 rfl rfl rfl rfl rfl rfl rfl ?_
  refine jT_xiload_n (v := (0, 2)) (pcN := 13) jIQ_47_12 rfl rfl rfl ?_
  refine jT_xlconst (z := 0) (pcN := 14) jIQ_47_13 rfl rfl ?_
  refine jT_adv 1 (pcN := 15) (LN := [(3, (0, 2)), (0, (4, 0)), (1, (4, 1)), (2, (0, x4))]) (stN := []) (hsN := jpQ_85) (c1 := 0) (s1 := 0) (c2 := 0) (s2 := 0) (by exact rfl) ?_ (by omega) (by omega)
  refine jT_xiinc (x := 2) (z := 3) (LN := [(3, (0, 3)), (0, (4, 0)), (1, (4, 1)), (2, (0, x4))]) (pcN := 18) jIQ_47_15 rfl rfl (by decide) rfl rfl ?_
  refine jT_xgoto (pcN := 2) jIQ_47_18 rfl ?_
  refine jT_xiload_n (v := (0, 3)) (pcN := 3) jIQ_47_2 rfl rfl rfl ?_
  refine jT_xbipush (k := 6) (pcN := 5) jIQ_47_3 (by decide) rfl ?_
  refine jT_xicF (t := 21) (pcN := 8) jIQ_47_5 rfl (by decide +kernel) rfl rfl ?_
  refine jT_xaload_n (v := (4, 0)) (pcN := 9) jIQ_47_8 rfl rfl rfl ?_
  refine jT_xgetf (a := 0) (t := 1) (ci := 8) (fi := 1) (c := (8, [(4, 2), (4, 3)], [])) (v := (4, 3)) (pcN := 12) jIQ_47_9 rfl rfl rfl rfl rfl rfl rfl ?_
  refine jT_xiload_n (v := (0, 3)) (pcN := 13) jIQ_47_12 rfl rfl rfl ?_
  refine jT_xlconst (z := 0) (pcN := 14) jIQ_47_13 rfl rfl ?_
  refine jT_adv 1 (pcN := 15) (LN := [(3, (0, 3)), (0, (4, 0)), (1, (4, 1)), (2, (0, x4))]) (stN := []) (hsN := jpQ_85) (c1 := 0) (s1 := 0) (c2 := 0) (s2 := 0) (by exact rfl) ?_ (by omega) (by omega)
  refine jT_xiinc (x := 3) (z := 4) (LN := [(3, (0, 4)), (0, (4, 0)), (1, (4, 1)), (2, (0, x4))]) (pcN := 18) jIQ_47_15 rfl rfl (by decide) rfl rfl ?_
  refine jT_xgoto (pcN := 2) jIQ_47_18 rfl ?_
  refine jT_xiload_n (v := (0, 4)) (pcN := 3) jIQ_47_2 rfl rfl rfl ?_
  refine jT_xbipush (k := 6) (pcN := 5) jIQ_47_3 (by decide) rfl ?_
  refine jT_xicF (t := 21) (pcN := 8) jIQ_47_5 rfl (by decide +kernel) rfl rfl ?_
  refine jT_xaload_n (v := (4, 0)) (pcN := 9) jIQ_47_8 rfl rfl rfl ?_
  refine jT_xgetf (a := 0) (t := 1) (ci := 8) (fi := 1) (c := (8, [(4, 2), (4, 3)], [])) (v := (4, 3)) (pcN := 12) jIQ_47_9 rfl rfl rfl rfl rfl rfl rfl ?_
  refine jT_xiload_n (v := (0, 4)) (pcN := 13) jIQ_47_12 rfl rfl rfl ?_
  refine jT_xlconst (z := 0) (pcN := 14) jIQ_47_13 rfl rfl ?_
  refine jT_adv 1 (pcN := 15) (LN := [(3, (0, 4)), (0, (4, 0)), (1, (4, 1)), (2, (0, x4))]) (stN := []) (hsN := jpQ_85) (c1 := 0) (s1 := 0) (c2 := 0) (s2 := 0) (by exact rfl) ?_ (by omega) (by omega)
  refine jT_xiinc (x := 4) (z := 5) (LN := [(3, (0, 5)), (0, (4, 0)), (1, (4, 1)), (2, (0, x4))]) (pcN := 18) jIQ_47_15 rfl rfl (by decide) rfl rfl ?_
  refine jT_xgoto (pcN := 2) jIQ_47_18 rfl ?_
  refine jT_xiload_n (v := (0, 5)) (pcN := 3) jIQ_47_2 rfl rfl rfl ?_
  refine jT_xbipush (k := 6) (pcN := 5) jIQ_47_3 (by decide) rfl ?_
  refine jT_xicF (t := 21) (pcN := 8) jIQ_47_5 rfl (by decide +kernel) rfl rfl ?_
  refine jT_xaload_n (v := (4, 0)) (pcN := 9) jIQ_47_8 rfl rfl rfl ?_
  refine jT_xgetf (a := 0) (t := 1) (ci := 8) (fi := 1) (c := (8, [(4, 2), (4, 3)], [])) (v := (4, 3)) (pcN := 12) jIQ_47_9 rfl rfl rfl rfl rfl rfl rfl ?_
  refine jT_xiload_n (v := (0, 5)) (pcN := 13) jIQ_47_12 rfl rfl rfl ?_
  refine jT_xlconst (z := 0) (pcN := 14) jIQ_47_13 rfl rfl ?_
  refine jT_adv 1 (pcN := 15) (LN := [(3, (0, 5)), (0, (4, 0)), (1, (4, 1)), (2, (0, x4))]) (stN := []) (hsN := jpQ_85) (c1 := 0) (s1 := 0) (c2 := 0) (s2 := 0) (by exact rfl) ?_ (by omega) (by omega)
  refine jT_xiinc (x := 5) (z := 6) (LN := [(3, (0, 6)), (0, (4, 0)), (1, (4, 1)), (2, (0, x4))]) (pcN := 18) jIQ_47_15 rfl rfl (by decide) rfl rfl ?_
  refine jT_xgoto (pcN := 2) jIQ_47_18 rfl ?_
  refine jT_xiload_n (v := (0, 6)) (pcN := 3) jIQ_47_2 rfl rfl rfl ?_
  refine jT_xbipush (k := 6) (pcN := 5) jIQ_47_3 (by decide) rfl ?_
  refine jT_xicT (pcN := 21) jIQ_47_5 rfl (by decide +kernel) rfl ?_
  refine jT_xiconst (k := 0) (pcN := 22) jIQ_47_21 rfl ?_
  refine jT_xistore_n (v := (0, 0)) (LN := [(3, (0, 0)), (0, (4, 0)), (1, (4, 1)), (2, (0, x4))]) (pcN := 23) jIQ_47_22 rfl rfl rfl rfl ?_
  refine jT_xiload_n (v := (0, 0)) (pcN := 24) jIQ_47_23 rfl rfl rfl ?_
  refine jT_xbipush (k := 6) (pcN := 26) jIQ_47_24 (by decide) rfl ?_
  refine jT_xicF (t := 79) (pcN := 29) jIQ_47_26 rfl (by decide +kernel) rfl rfl ?_
  refine jT_xiload_n (v := (0, 0)) (pcN := 30) jIQ_47_29 rfl rfl rfl ?_
  refine jT_xaload_n (v := (4, 1)) (pcN := 31) jIQ_47_30 rfl rfl rfl ?_
  refine jT_adv 1 (pcN := 32) (LN := [(3, (0, 0)), (0, (4, 0)), (1, (4, 1)), (2, (0, x4))]) (stN := [(0, 6), (0, 0)]) (hsN := jpQ_85) (c1 := 0) (s1 := 0) (c2 := 0) (s2 := 0) (by exact rfl) ?_ (by omega) (by omega)
  refine jT_xicF (t := 79) (pcN := 35) jIQ_47_32 rfl (by decide +kernel) rfl rfl ?_
  refine jT_xaload_n (v := (4, 0)) (pcN := 36) jIQ_47_35 rfl rfl rfl ?_
  refine jT_xgetf (a := 0) (t := 1) (ci := 8) (fi := 1) (c := (8, [(4, 2), (4, 3)], [])) (v := (4, 3)) (pcN := 39) jIQ_47_36 rfl rfl rfl rfl rfl rfl rfl ?_
  refine jT_xiload_n (v := (0, 0)) (pcN := 40) jIQ_47_39 rfl rfl rfl ?_
  refine jT_xlconst (z := 1) (pcN := 41) jIQ_47_40 rfl rfl ?_
  refine jT_adv 1 (pcN := 42) (LN := [(3, (0, 0)), (0, (4, 0)), (1, (4, 1)), (2, (0, x4))]) (stN := []) (hsN := jpQ_79) (c1 := 0) (s1 := 0) (c2 := 0) (s2 := 0) (by exact rfl) ?_ (by omega) (by omega)
  refine jT_xaload_n (v := (4, 1)) (pcN := 43) jIQ_47_42 rfl rfl rfl ?_
  refine jT_xiload_n (v := (0, 0)) (pcN := 44) jIQ_47_43 rfl rfl rfl ?_
  refine jT_xaload_n (v := (4, 0)) (pcN := 45) jIQ_47_44 rfl rfl rfl ?_
  refine jT_xaload_n (v := (4, 0)) (pcN := 46) jIQ_47_45 rfl rfl rfl ?_
  refine jT_xgetf (a := 0) (t := 1) (ci := 8) (fi := 1) (c := (8, [(4, 2), (4, 3)], [])) (v := (4, 3)) (pcN := 49) jIQ_47_46 rfl rfl rfl rfl rfl rfl rfl ?_
  refine jT_xlconst (z := 1) (pcN := 50) jIQ_47_49 rfl rfl ?_
  refine jT_adv 1 (pcN := 53) (LN := [(3, (0, 0)), (0, (4, 0)), (1, (4, 1)), (2, (0, x4))]) (stN := [(1, 2), (1, 1), (4, 3), (4, 0), (0, 0), (4, 1)]) (hsN := jpQ_79) (c1 := 0) (s1 := 0) (c2 := 0) (s2 := 0) (by exact rfl) ?_ (by omega) (by omega)
  refine jT_xiload_n (v := (0, x4)) (pcN := 54) jIQ_47_53 rfl rfl rfl ?_
  refine jT_xi2l (x := x4) (z := x4) (pcN := 55) jIQ_47_54 rfl (jw_idd (by omega) (by omega)) rfl ?_
  refine jT_xlmul (x := 2) (y := x4) (z := 2 * x4) (pcN := 56) jIQ_47_55 rfl (rfl) rfl ?_
  refine jT_fR [0, 3, 2] 4 (y := 45) (pcN := 59) (dC := 1) (bc1 := 0) (bc2 := 0) (c1 := 0) (c2 := 0) (as := [(4, 0), (4, 3), (1, 1), (1, 2 * x4)]) (asC := [(4, 0), (4, 1), (1, 1), (1, 2 * x4)]) (LN := [(3, (0, 0)), (0, (4, 0)), (1, (4, 1)), (2, (0, x4))]) (stN := [(0, 0), (4, 1)]) (hsC := [(8, [(4, 2), (4, 1)], []), (101, [], [1, 0, 0, 0, 0, 0]), jgh]) (v := (1, 2 * x4)) (st2 := [(1, 2 * x4), (0, 0), (4, 1)]) (jQ_45_193 (d := 0) (by omega)) (by rfl) (by rfl) (by decide +kernel) (by rfl) (by rfl) (by omega) (by omega) (by omega) (by omega) rfl ?_
  refine jT_xlconst (z := 1) (pcN := 60) jIQ_47_59 rfl rfl ?_
  refine jT_xladd (x := 2 * x4) (y := 1) (z := 2 * x4 + 1) (pcN := 61) jIQ_47_60 rfl (by omega) rfl ?_
  refine jT_xiconst (k := 2) (pcN := 62) jIQ_47_61 rfl ?_
  refine jT_fR [] 4 (y := 374) (pcN := 65) (dC := 1) (bc1 := 0) (bc2 := 0) (c1 := 0) (c2 := 0) (as := [(1, 2 * x4 + 1), (0, 2)]) (asC := [(1, 2 * x4 + 1), (0, 2)]) (LN := [(3, (0, 0)), (0, (4, 0)), (1, (4, 1)), (2, (0, x4))]) (stN := [(0, 0), (4, 1)]) (hsC := []) (v := (1, (2 * x4 + 1) / 2)) (st2 := [(1, (2 * x4 + 1) / 2), (0, 0), (4, 1)]) (jQ_374_194 (d := 0) (by omega)) (by rfl) (by rfl) (by decide +kernel) (by rfl) (by rfl) (by omega) (by omega) (by omega) (by omega) rfl ?_
  have hb_q1 : 1 ≤ (2 * x4 + 1) / 2 ∧ (2 * x4 + 1) / 2 ≤ 100 := ⟨by omega, by omega⟩
  generalize hq_q1 : (2 * x4 + 1) / 2 = q1 at hb_q1 ⊢
  refine jT_adv 1 (pcN := 66) (LN := [(3, (0, 0)), (0, (4, 0)), (1, (4, 1)), (2, (0, x4))]) (stN := []) (hsN := [(8, [(4, 2), (4, 3)], []), (101, [], [q1, 0, 0, 0, 0, 0]), jgh, (101, [], [1, 0, 0, 0, 0, 0])]) (c1 := 0) (s1 := 0) (c2 := 0) (s2 := 0) (by exact rfl) ?_ (by omega) (by omega)
  refine jT_xaload_n (v := (4, 0)) (pcN := 67) jIQ_47_66 rfl rfl rfl ?_
  refine jT_xgetf (a := 0) (t := 1) (ci := 8) (fi := 1) (c := (8, [(4, 2), (4, 3)], [])) (v := (4, 3)) (pcN := 70) jIQ_47_67 rfl rfl rfl rfl rfl rfl rfl ?_
  refine jT_xiload_n (v := (0, 0)) (pcN := 71) jIQ_47_70 rfl rfl rfl ?_
  refine jT_xlconst (z := 0) (pcN := 72) jIQ_47_71 rfl rfl ?_
  refine jT_adv 1 (pcN := 73) (LN := [(3, (0, 0)), (0, (4, 0)), (1, (4, 1)), (2, (0, x4))]) (stN := []) (hsN := [(8, [(4, 2), (4, 3)], []), (101, [], [q1, 0, 0, 0, 0, 0]), jgh, (101, [], [0, 0, 0, 0, 0, 0])]) (c1 := 0) (s1 := 0) (c2 := 0) (s2 := 0) (by exact rfl) ?_ (by omega) (by omega)
  refine jT_xiinc (x := 0) (z := 1) (LN := [(3, (0, 1)), (0, (4, 0)), (1, (4, 1)), (2, (0, x4))]) (pcN := 76) jIQ_47_73 rfl rfl (by decide) rfl rfl ?_
  refine jT_xgoto (pcN := 23) jIQ_47_76 rfl ?_
  refine jT_xiload_n (v := (0, 1)) (pcN := 24) jIQ_47_23 rfl rfl rfl ?_
  refine jT_xbipush (k := 6) (pcN := 26) jIQ_47_24 (by decide) rfl ?_
  refine jT_xicF (t := 79) (pcN := 29) jIQ_47_26 rfl (by decide +kernel) rfl rfl ?_
  refine jT_xiload_n (v := (0, 1)) (pcN := 30) jIQ_47_29 rfl rfl rfl ?_
  refine jT_xaload_n (v := (4, 1)) (pcN := 31) jIQ_47_30 rfl rfl rfl ?_
  refine jT_adv 1 (pcN := 32) (LN := [(3, (0, 1)), (0, (4, 0)), (1, (4, 1)), (2, (0, x4))]) (stN := [(0, 6), (0, 1)]) (hsN := [(8, [(4, 2), (4, 3)], []), (101, [], [q1, 0, 0, 0, 0, 0]), jgh, (101, [], [0, 0, 0, 0, 0, 0])]) (c1 := 0) (s1 := 0) (c2 := 0) (s2 := 0) (by exact rfl) ?_ (by omega) (by omega)
  refine jT_xicF (t := 79) (pcN := 35) jIQ_47_32 rfl (by decide +kernel) rfl rfl ?_
  refine jT_xaload_n (v := (4, 0)) (pcN := 36) jIQ_47_35 rfl rfl rfl ?_
  refine jT_xgetf (a := 0) (t := 1) (ci := 8) (fi := 1) (c := (8, [(4, 2), (4, 3)], [])) (v := (4, 3)) (pcN := 39) jIQ_47_36 rfl rfl rfl rfl rfl rfl rfl ?_
  refine jT_xiload_n (v := (0, 1)) (pcN := 40) jIQ_47_39 rfl rfl rfl ?_
  refine jT_xlconst (z := 1) (pcN := 41) jIQ_47_40 rfl rfl ?_
  refine jT_adv 1 (pcN := 42) (LN := [(3, (0, 1)), (0, (4, 0)), (1, (4, 1)), (2, (0, x4))]) (stN := []) (hsN := [(8, [(4, 2), (4, 3)], []), (101, [], [q1, 0, 0, 0, 0, 0]), jgh, (101, [], [0, 1, 0, 0, 0, 0])]) (c1 := 0) (s1 := 0) (c2 := 0) (s2 := 0) (by exact rfl) ?_ (by omega) (by omega)
  refine jT_xaload_n (v := (4, 1)) (pcN := 43) jIQ_47_42 rfl rfl rfl ?_
  refine jT_xiload_n (v := (0, 1)) (pcN := 44) jIQ_47_43 rfl rfl rfl ?_
  refine jT_xaload_n (v := (4, 0)) (pcN := 45) jIQ_47_44 rfl rfl rfl ?_
  refine jT_xaload_n (v := (4, 0)) (pcN := 46) jIQ_47_45 rfl rfl rfl ?_
  refine jT_xgetf (a := 0) (t := 1) (ci := 8) (fi := 1) (c := (8, [(4, 2), (4, 3)], [])) (v := (4, 3)) (pcN := 49) jIQ_47_46 rfl rfl rfl rfl rfl rfl rfl ?_
  refine jT_xlconst (z := 1) (pcN := 50) jIQ_47_49 rfl rfl ?_
  refine jT_adv 1 (pcN := 53) (LN := [(3, (0, 1)), (0, (4, 0)), (1, (4, 1)), (2, (0, x4))]) (stN := [(1, 2), (1, 1), (4, 3), (4, 0), (0, 1), (4, 1)]) (hsN := [(8, [(4, 2), (4, 3)], []), (101, [], [q1, 0, 0, 0, 0, 0]), jgh, (101, [], [0, 1, 0, 0, 0, 0])]) (c1 := 0) (s1 := 0) (c2 := 0) (s2 := 0) (by exact rfl) ?_ (by omega) (by omega)
  refine jT_xiload_n (v := (0, x4)) (pcN := 54) jIQ_47_53 rfl rfl rfl ?_
  refine jT_xi2l (x := x4) (z := x4) (pcN := 55) jIQ_47_54 rfl (jw_idd (by omega) (by omega)) rfl ?_
  refine jT_xlmul (x := 2) (y := x4) (z := 2 * x4) (pcN := 56) jIQ_47_55 rfl (rfl) rfl ?_
  refine jT_callA [0, 3, 2] (y := 45) (pcN := 59) (dC := 1) (bc1 := 0) (bc2 := 0) (c1 := 0) (c2 := 0) (as := [(4, 0), (4, 3), (1, 1), (1, 2 * x4)]) (asC := [(4, 0), (4, 1), (1, 1), (1, 2 * x4)]) (LN := [(3, (0, 1)), (0, (4, 0)), (1, (4, 1)), (2, (0, x4))]) (stN := [(0, 1), (4, 1)]) (hsC := [(8, [(4, 2), (4, 1)], []), (101, [], [0, 1, 0, 0, 0, 0]), jgh]) (ex := []) (v := (1, (217835587388 * x4) / 68719476736)) (st2 := [(1, (217835587388 * x4) / 68719476736), (0, 1), (4, 1)]) (hs2 := [(8, [(4, 2), (4, 3)], []), (101, [], [q1, 0, 0, 0, 0, 0]), jgh, (101, [], [0, 1, 0, 0, 0, 0])]) (jQ_45_198 (d := 0) (by omega)) (by rfl) (by rfl) (by rfl) (by rfl) ⟨rfl, rfl, rfl, trivial⟩ (by rfl) (by rfl) (by omega) (by show 4 ≤ 4; omega) (by omega) (by omega) rfl rfl ?_
  have hb_q2 : 3 ≤ (217835587388 * x4) / 68719476736 ∧ (217835587388 * x4) / 68719476736 ≤ 316 := ⟨by omega, by omega⟩
  generalize hq_q2 : (217835587388 * x4) / 68719476736 = q2 at hb_q2 ⊢
  refine jT_xlconst (z := 1) (pcN := 60) jIQ_47_59 rfl rfl ?_
  refine jT_xladd (x := q2) (y := 1) (z := q2 + 1) (pcN := 61) jIQ_47_60 rfl (rfl) rfl ?_
  refine jT_xiconst (k := 2) (pcN := 62) jIQ_47_61 rfl ?_
  refine jT_callA [] (y := 374) (pcN := 65) (dC := 1) (bc1 := 0) (bc2 := 0) (c1 := 0) (c2 := 0) (as := [(1, q2 + 1), (0, 2)]) (asC := [(1, q2 + 1), (0, 2)]) (LN := [(3, (0, 1)), (0, (4, 0)), (1, (4, 1)), (2, (0, x4))]) (stN := [(0, 1), (4, 1)]) (hsC := []) (ex := []) (v := (1, (q2 + 1) / 2)) (st2 := [(1, (q2 + 1) / 2), (0, 1), (4, 1)]) (hs2 := [(8, [(4, 2), (4, 3)], []), (101, [], [q1, 0, 0, 0, 0, 0]), jgh, (101, [], [0, 1, 0, 0, 0, 0])]) (jQ_374_199 (d := 0) (by omega)) (by rfl) (by rfl) (by rfl) (by rfl) trivial (by rfl) (by rfl) (by omega) (by show 4 ≤ 4; omega) (by omega) (by omega) rfl rfl ?_
  have hb_q3 : 2 ≤ (q2 + 1) / 2 ∧ (q2 + 1) / 2 ≤ 158 := ⟨by omega, by omega⟩
  generalize hq_q3 : (q2 + 1) / 2 = q3 at hb_q3 ⊢
  refine jT_adv 1 (pcN := 66) (LN := [(3, (0, 1)), (0, (4, 0)), (1, (4, 1)), (2, (0, x4))]) (stN := []) (hsN := [(8, [(4, 2), (4, 3)], []), (101, [], [q1, q3, 0, 0, 0, 0]), jgh, (101, [], [0, 1, 0, 0, 0, 0])]) (c1 := 0) (s1 := 0) (c2 := 0) (s2 := 0) (by exact rfl) ?_ (by omega) (by omega)
  refine jT_xaload_n (v := (4, 0)) (pcN := 67) jIQ_47_66 rfl rfl rfl ?_
  refine jT_xgetf (a := 0) (t := 1) (ci := 8) (fi := 1) (c := (8, [(4, 2), (4, 3)], [])) (v := (4, 3)) (pcN := 70) jIQ_47_67 rfl rfl rfl rfl rfl rfl rfl ?_
  refine jT_xiload_n (v := (0, 1)) (pcN := 71) jIQ_47_70 rfl rfl rfl ?_
  refine jT_xlconst (z := 0) (pcN := 72) jIQ_47_71 rfl rfl ?_
  refine jT_adv 1 (pcN := 73) (LN := [(3, (0, 1)), (0, (4, 0)), (1, (4, 1)), (2, (0, x4))]) (stN := []) (hsN := [(8, [(4, 2), (4, 3)], []), (101, [], [q1, q3, 0, 0, 0, 0]), jgh, (101, [], [0, 0, 0, 0, 0, 0])]) (c1 := 0) (s1 := 0) (c2 := 0) (s2 := 0) (by exact rfl) ?_ (by omega) (by omega)
  refine jT_xiinc (x := 1) (z := 2) (LN := [(3, (0, 2)), (0, (4, 0)), (1, (4, 1)), (2, (0, x4))]) (pcN := 76) jIQ_47_73 rfl rfl (by decide) rfl rfl ?_
  refine jT_xgoto (pcN := 23) jIQ_47_76 rfl ?_
  refine jT_xiload_n (v := (0, 2)) (pcN := 24) jIQ_47_23 rfl rfl rfl ?_
  refine jT_xbipush (k := 6) (pcN := 26) jIQ_47_24 (by decide) rfl ?_
  refine jT_xicF (t := 79) (pcN := 29) jIQ_47_26 rfl (by decide +kernel) rfl rfl ?_
  refine jT_xiload_n (v := (0, 2)) (pcN := 30) jIQ_47_29 rfl rfl rfl ?_
  refine jT_xaload_n (v := (4, 1)) (pcN := 31) jIQ_47_30 rfl rfl rfl ?_
  refine jT_adv 1 (pcN := 32) (LN := [(3, (0, 2)), (0, (4, 0)), (1, (4, 1)), (2, (0, x4))]) (stN := [(0, 6), (0, 2)]) (hsN := [(8, [(4, 2), (4, 3)], []), (101, [], [q1, q3, 0, 0, 0, 0]), jgh, (101, [], [0, 0, 0, 0, 0, 0])]) (c1 := 0) (s1 := 0) (c2 := 0) (s2 := 0) (by exact rfl) ?_ (by omega) (by omega)
  refine jT_xicF (t := 79) (pcN := 35) jIQ_47_32 rfl (by decide +kernel) rfl rfl ?_
  refine jT_xaload_n (v := (4, 0)) (pcN := 36) jIQ_47_35 rfl rfl rfl ?_
  refine jT_xgetf (a := 0) (t := 1) (ci := 8) (fi := 1) (c := (8, [(4, 2), (4, 3)], [])) (v := (4, 3)) (pcN := 39) jIQ_47_36 rfl rfl rfl rfl rfl rfl rfl ?_
  refine jT_xiload_n (v := (0, 2)) (pcN := 40) jIQ_47_39 rfl rfl rfl ?_
  refine jT_xlconst (z := 1) (pcN := 41) jIQ_47_40 rfl rfl ?_
  refine jT_adv 1 (pcN := 42) (LN := [(3, (0, 2)), (0, (4, 0)), (1, (4, 1)), (2, (0, x4))]) (stN := []) (hsN := [(8, [(4, 2), (4, 3)], []), (101, [], [q1, q3, 0, 0, 0, 0]), jgh, (101, [], [0, 0, 1, 0, 0, 0])]) (c1 := 0) (s1 := 0) (c2 := 0) (s2 := 0) (by exact rfl) ?_ (by omega) (by omega)
  refine jT_xaload_n (v := (4, 1)) (pcN := 43) jIQ_47_42 rfl rfl rfl ?_
  refine jT_xiload_n (v := (0, 2)) (pcN := 44) jIQ_47_43 rfl rfl rfl ?_
  refine jT_xaload_n (v := (4, 0)) (pcN := 45) jIQ_47_44 rfl rfl rfl ?_
  refine jT_xaload_n (v := (4, 0)) (pcN := 46) jIQ_47_45 rfl rfl rfl ?_
  refine jT_xgetf (a := 0) (t := 1) (ci := 8) (fi := 1) (c := (8, [(4, 2), (4, 3)], [])) (v := (4, 3)) (pcN := 49) jIQ_47_46 rfl rfl rfl rfl rfl rfl rfl ?_
  refine jT_xlconst (z := 1) (pcN := 50) jIQ_47_49 rfl rfl ?_
  refine jT_adv 1 (pcN := 53) (LN := [(3, (0, 2)), (0, (4, 0)), (1, (4, 1)), (2, (0, x4))]) (stN := [(1, 2), (1, 1), (4, 3), (4, 0), (0, 2), (4, 1)]) (hsN := [(8, [(4, 2), (4, 3)], []), (101, [], [q1, q3, 0, 0, 0, 0]), jgh, (101, [], [0, 0, 1, 0, 0, 0])]) (c1 := 0) (s1 := 0) (c2 := 0) (s2 := 0) (by exact rfl) ?_ (by omega) (by omega)
  refine jT_xiload_n (v := (0, x4)) (pcN := 54) jIQ_47_53 rfl rfl rfl ?_
  refine jT_xi2l (x := x4) (z := x4) (pcN := 55) jIQ_47_54 rfl (jw_idd (by omega) (by omega)) rfl ?_
  refine jT_xlmul (x := 2) (y := x4) (z := 2 * x4) (pcN := 56) jIQ_47_55 rfl (rfl) rfl ?_
  refine jT_callA [0, 3, 2] (y := 45) (pcN := 59) (dC := 1) (bc1 := 0) (bc2 := 0) (c1 := 0) (c2 := 0) (as := [(4, 0), (4, 3), (1, 1), (1, 2 * x4)]) (asC := [(4, 0), (4, 1), (1, 1), (1, 2 * x4)]) (LN := [(3, (0, 2)), (0, (4, 0)), (1, (4, 1)), (2, (0, x4))]) (stN := [(0, 2), (4, 1)]) (hsC := [(8, [(4, 2), (4, 1)], []), (101, [], [0, 0, 1, 0, 0, 0]), jgh]) (ex := []) (v := (1, (319123367396 * x4) / 68719476736)) (st2 := [(1, (319123367396 * x4) / 68719476736), (0, 2), (4, 1)]) (hs2 := [(8, [(4, 2), (4, 3)], []), (101, [], [q1, q3, 0, 0, 0, 0]), jgh, (101, [], [0, 0, 1, 0, 0, 0])]) (jQ_45_203 (d := 0) (by omega)) (by rfl) (by rfl) (by rfl) (by rfl) ⟨rfl, rfl, rfl, trivial⟩ (by rfl) (by rfl) (by omega) (by show 4 ≤ 4; omega) (by omega) (by omega) rfl rfl ?_
  have hb_q4 : 4 ≤ (319123367396 * x4) / 68719476736 ∧ (319123367396 * x4) / 68719476736 ≤ 464 := ⟨by omega, by omega⟩
  generalize hq_q4 : (319123367396 * x4) / 68719476736 = q4 at hb_q4 ⊢
  refine jT_xlconst (z := 1) (pcN := 60) jIQ_47_59 rfl rfl ?_
  refine jT_xladd (x := q4) (y := 1) (z := q4 + 1) (pcN := 61) jIQ_47_60 rfl (rfl) rfl ?_
  refine jT_xiconst (k := 2) (pcN := 62) jIQ_47_61 rfl ?_
  refine jT_callA [] (y := 374) (pcN := 65) (dC := 1) (bc1 := 0) (bc2 := 0) (c1 := 0) (c2 := 0) (as := [(1, q4 + 1), (0, 2)]) (asC := [(1, q4 + 1), (0, 2)]) (LN := [(3, (0, 2)), (0, (4, 0)), (1, (4, 1)), (2, (0, x4))]) (stN := [(0, 2), (4, 1)]) (hsC := []) (ex := []) (v := (1, (q4 + 1) / 2)) (st2 := [(1, (q4 + 1) / 2), (0, 2), (4, 1)]) (hs2 := [(8, [(4, 2), (4, 3)], []), (101, [], [q1, q3, 0, 0, 0, 0]), jgh, (101, [], [0, 0, 1, 0, 0, 0])]) (jQ_374_204 (d := 0) (by omega)) (by rfl) (by rfl) (by rfl) (by rfl) trivial (by rfl) (by rfl) (by omega) (by show 4 ≤ 4; omega) (by omega) (by omega) rfl rfl ?_
  have hb_q5 : 2 ≤ (q4 + 1) / 2 ∧ (q4 + 1) / 2 ≤ 232 := ⟨by omega, by omega⟩
  generalize hq_q5 : (q4 + 1) / 2 = q5 at hb_q5 ⊢
  refine jT_adv 1 (pcN := 66) (LN := [(3, (0, 2)), (0, (4, 0)), (1, (4, 1)), (2, (0, x4))]) (stN := []) (hsN := [(8, [(4, 2), (4, 3)], []), (101, [], [q1, q3, q5, 0, 0, 0]), jgh, (101, [], [0, 0, 1, 0, 0, 0])]) (c1 := 0) (s1 := 0) (c2 := 0) (s2 := 0) (by exact rfl) ?_ (by omega) (by omega)
  refine jT_xaload_n (v := (4, 0)) (pcN := 67) jIQ_47_66 rfl rfl rfl ?_
  refine jT_xgetf (a := 0) (t := 1) (ci := 8) (fi := 1) (c := (8, [(4, 2), (4, 3)], [])) (v := (4, 3)) (pcN := 70) jIQ_47_67 rfl rfl rfl rfl rfl rfl rfl ?_
  refine jT_xiload_n (v := (0, 2)) (pcN := 71) jIQ_47_70 rfl rfl rfl ?_
  refine jT_xlconst (z := 0) (pcN := 72) jIQ_47_71 rfl rfl ?_
  refine jT_adv 1 (pcN := 73) (LN := [(3, (0, 2)), (0, (4, 0)), (1, (4, 1)), (2, (0, x4))]) (stN := []) (hsN := [(8, [(4, 2), (4, 3)], []), (101, [], [q1, q3, q5, 0, 0, 0]), jgh, (101, [], [0, 0, 0, 0, 0, 0])]) (c1 := 0) (s1 := 0) (c2 := 0) (s2 := 0) (by exact rfl) ?_ (by omega) (by omega)
  refine jT_xiinc (x := 2) (z := 3) (LN := [(3, (0, 3)), (0, (4, 0)), (1, (4, 1)), (2, (0, x4))]) (pcN := 76) jIQ_47_73 rfl rfl (by decide) rfl rfl ?_
  refine jT_xgoto (pcN := 23) jIQ_47_76 rfl ?_
  refine jT_xiload_n (v := (0, 3)) (pcN := 24) jIQ_47_23 rfl rfl rfl ?_
  refine jT_xbipush (k := 6) (pcN := 26) jIQ_47_24 (by decide) rfl ?_
  refine jT_xicF (t := 79) (pcN := 29) jIQ_47_26 rfl (by decide +kernel) rfl rfl ?_
  refine jT_xiload_n (v := (0, 3)) (pcN := 30) jIQ_47_29 rfl rfl rfl ?_
  refine jT_xaload_n (v := (4, 1)) (pcN := 31) jIQ_47_30 rfl rfl rfl ?_
  refine jT_adv 1 (pcN := 32) (LN := [(3, (0, 3)), (0, (4, 0)), (1, (4, 1)), (2, (0, x4))]) (stN := [(0, 6), (0, 3)]) (hsN := [(8, [(4, 2), (4, 3)], []), (101, [], [q1, q3, q5, 0, 0, 0]), jgh, (101, [], [0, 0, 0, 0, 0, 0])]) (c1 := 0) (s1 := 0) (c2 := 0) (s2 := 0) (by exact rfl) ?_ (by omega) (by omega)
  refine jT_xicF (t := 79) (pcN := 35) jIQ_47_32 rfl (by decide +kernel) rfl rfl ?_
  refine jT_xaload_n (v := (4, 0)) (pcN := 36) jIQ_47_35 rfl rfl rfl ?_
  refine jT_xgetf (a := 0) (t := 1) (ci := 8) (fi := 1) (c := (8, [(4, 2), (4, 3)], [])) (v := (4, 3)) (pcN := 39) jIQ_47_36 rfl rfl rfl rfl rfl rfl rfl ?_
  refine jT_xiload_n (v := (0, 3)) (pcN := 40) jIQ_47_39 rfl rfl rfl ?_
  refine jT_xlconst (z := 1) (pcN := 41) jIQ_47_40 rfl rfl ?_
  refine jT_adv 1 (pcN := 42) (LN := [(3, (0, 3)), (0, (4, 0)), (1, (4, 1)), (2, (0, x4))]) (stN := []) (hsN := [(8, [(4, 2), (4, 3)], []), (101, [], [q1, q3, q5, 0, 0, 0]), jgh, (101, [], [0, 0, 0, 1, 0, 0])]) (c1 := 0) (s1 := 0) (c2 := 0) (s2 := 0) (by exact rfl) ?_ (by omega) (by omega)
  refine jT_xaload_n (v := (4, 1)) (pcN := 43) jIQ_47_42 rfl rfl rfl ?_
  refine jT_xiload_n (v := (0, 3)) (pcN := 44) jIQ_47_43 rfl rfl rfl ?_
  refine jT_xaload_n (v := (4, 0)) (pcN := 45) jIQ_47_44 rfl rfl rfl ?_
  refine jT_xaload_n (v := (4, 0)) (pcN := 46) jIQ_47_45 rfl rfl rfl ?_
  refine jT_xgetf (a := 0) (t := 1) (ci := 8) (fi := 1) (c := (8, [(4, 2), (4, 3)], [])) (v := (4, 3)) (pcN := 49) jIQ_47_46 rfl rfl rfl rfl rfl rfl rfl ?_
  refine jT_xlconst (z := 1) (pcN := 50) jIQ_47_49 rfl rfl ?_
  refine jT_adv 1 (pcN := 53) (LN := [(3, (0, 3)), (0, (4, 0)), (1, (4, 1)), (2, (0, x4))]) (stN := [(1, 2), (1, 1), (4, 3), (4, 0), (0, 3), (4, 1)]) (hsN := [(8, [(4, 2), (4, 3)], []), (101, [], [q1, q3, q5, 0, 0, 0]), jgh, (101, [], [0, 0, 0, 1, 0, 0])]) (c1 := 0) (s1 := 0) (c2 := 0) (s2 := 0) (by exact rfl) ?_ (by omega) (by omega)
  refine jT_xiload_n (v := (0, x4)) (pcN := 54) jIQ_47_53 rfl rfl rfl ?_
  refine jT_xi2l (x := x4) (z := x4) (pcN := 55) jIQ_47_54 rfl (jw_idd (by omega) (by omega)) rfl ?_
  refine jT_xlmul (x := 2) (y := x4) (z := 2 * x4) (pcN := 56) jIQ_47_55 rfl (rfl) rfl ?_
  refine jT_callA [0, 3, 2] (y := 45) (pcN := 59) (dC := 1) (bc1 := 0) (bc2 := 0) (c1 := 0) (c2 := 0) (as := [(4, 0), (4, 3), (1, 1), (1, 2 * x4)]) (asC := [(4, 0), (4, 1), (1, 1), (1, 2 * x4)]) (LN := [(3, (0, 3)), (0, (4, 0)), (1, (4, 1)), (2, (0, x4))]) (stN := [(0, 3), (4, 1)]) (hsC := [(8, [(4, 2), (4, 1)], []), (101, [], [0, 0, 0, 1, 0, 0]), jgh]) (ex := []) (v := (1, (385839922510 * x4) / 68719476736)) (st2 := [(1, (385839922510 * x4) / 68719476736), (0, 3), (4, 1)]) (hs2 := [(8, [(4, 2), (4, 3)], []), (101, [], [q1, q3, q5, 0, 0, 0]), jgh, (101, [], [0, 0, 0, 1, 0, 0])]) (jQ_45_208 (d := 0) (by omega)) (by rfl) (by rfl) (by rfl) (by rfl) ⟨rfl, rfl, rfl, trivial⟩ (by rfl) (by rfl) (by omega) (by show 4 ≤ 4; omega) (by omega) (by omega) rfl rfl ?_
  have hb_q6 : 5 ≤ (385839922510 * x4) / 68719476736 ∧ (385839922510 * x4) / 68719476736 ≤ 561 := ⟨by omega, by omega⟩
  generalize hq_q6 : (385839922510 * x4) / 68719476736 = q6 at hb_q6 ⊢
  refine jT_xlconst (z := 1) (pcN := 60) jIQ_47_59 rfl rfl ?_
  refine jT_xladd (x := q6) (y := 1) (z := q6 + 1) (pcN := 61) jIQ_47_60 rfl (rfl) rfl ?_
  refine jT_xiconst (k := 2) (pcN := 62) jIQ_47_61 rfl ?_
  refine jT_callA [] (y := 374) (pcN := 65) (dC := 1) (bc1 := 0) (bc2 := 0) (c1 := 0) (c2 := 0) (as := [(1, q6 + 1), (0, 2)]) (asC := [(1, q6 + 1), (0, 2)]) (LN := [(3, (0, 3)), (0, (4, 0)), (1, (4, 1)), (2, (0, x4))]) (stN := [(0, 3), (4, 1)]) (hsC := []) (ex := []) (v := (1, (q6 + 1) / 2)) (st2 := [(1, (q6 + 1) / 2), (0, 3), (4, 1)]) (hs2 := [(8, [(4, 2), (4, 3)], []), (101, [], [q1, q3, q5, 0, 0, 0]), jgh, (101, [], [0, 0, 0, 1, 0, 0])]) (jQ_374_209 (d := 0) (by omega)) (by rfl) (by rfl) (by rfl) (by rfl) trivial (by rfl) (by rfl) (by omega) (by show 4 ≤ 4; omega) (by omega) (by omega) rfl rfl ?_
  have hb_q7 : 3 ≤ (q6 + 1) / 2 ∧ (q6 + 1) / 2 ≤ 281 := ⟨by omega, by omega⟩
  generalize hq_q7 : (q6 + 1) / 2 = q7 at hb_q7 ⊢
  refine jT_adv 1 (pcN := 66) (LN := [(3, (0, 3)), (0, (4, 0)), (1, (4, 1)), (2, (0, x4))]) (stN := []) (hsN := [(8, [(4, 2), (4, 3)], []), (101, [], [q1, q3, q5, q7, 0, 0]), jgh, (101, [], [0, 0, 0, 1, 0, 0])]) (c1 := 0) (s1 := 0) (c2 := 0) (s2 := 0) (by exact rfl) ?_ (by omega) (by omega)
  refine jT_xaload_n (v := (4, 0)) (pcN := 67) jIQ_47_66 rfl rfl rfl ?_
  refine jT_xgetf (a := 0) (t := 1) (ci := 8) (fi := 1) (c := (8, [(4, 2), (4, 3)], [])) (v := (4, 3)) (pcN := 70) jIQ_47_67 rfl rfl rfl rfl rfl rfl rfl ?_
  refine jT_xiload_n (v := (0, 3)) (pcN := 71) jIQ_47_70 rfl rfl rfl ?_
  refine jT_xlconst (z := 0) (pcN := 72) jIQ_47_71 rfl rfl ?_
  refine jT_adv 1 (pcN := 73) (LN := [(3, (0, 3)), (0, (4, 0)), (1, (4, 1)), (2, (0, x4))]) (stN := []) (hsN := [(8, [(4, 2), (4, 3)], []), (101, [], [q1, q3, q5, q7, 0, 0]), jgh, (101, [], [0, 0, 0, 0, 0, 0])]) (c1 := 0) (s1 := 0) (c2 := 0) (s2 := 0) (by exact rfl) ?_ (by omega) (by omega)
  refine jT_xiinc (x := 3) (z := 4) (LN := [(3, (0, 4)), (0, (4, 0)), (1, (4, 1)), (2, (0, x4))]) (pcN := 76) jIQ_47_73 rfl rfl (by decide) rfl rfl ?_
  refine jT_xgoto (pcN := 23) jIQ_47_76 rfl ?_
  refine jT_xiload_n (v := (0, 4)) (pcN := 24) jIQ_47_23 rfl rfl rfl ?_
  refine jT_xbipush (k := 6) (pcN := 26) jIQ_47_24 (by decide) rfl ?_
  refine jT_xicF (t := 79) (pcN := 29) jIQ_47_26 rfl (by decide +kernel) rfl rfl ?_
  refine jT_xiload_n (v := (0, 4)) (pcN := 30) jIQ_47_29 rfl rfl rfl ?_
  refine jT_xaload_n (v := (4, 1)) (pcN := 31) jIQ_47_30 rfl rfl rfl ?_
  refine jT_adv 1 (pcN := 32) (LN := [(3, (0, 4)), (0, (4, 0)), (1, (4, 1)), (2, (0, x4))]) (stN := [(0, 6), (0, 4)]) (hsN := [(8, [(4, 2), (4, 3)], []), (101, [], [q1, q3, q5, q7, 0, 0]), jgh, (101, [], [0, 0, 0, 0, 0, 0])]) (c1 := 0) (s1 := 0) (c2 := 0) (s2 := 0) (by exact rfl) ?_ (by omega) (by omega)
  refine jT_xicF (t := 79) (pcN := 35) jIQ_47_32 rfl (by decide +kernel) rfl rfl ?_
  refine jT_xaload_n (v := (4, 0)) (pcN := 36) jIQ_47_35 rfl rfl rfl ?_
  refine jT_xgetf (a := 0) (t := 1) (ci := 8) (fi := 1) (c := (8, [(4, 2), (4, 3)], [])) (v := (4, 3)) (pcN := 39) jIQ_47_36 rfl rfl rfl rfl rfl rfl rfl ?_
  refine jT_xiload_n (v := (0, 4)) (pcN := 40) jIQ_47_39 rfl rfl rfl ?_
  refine jT_xlconst (z := 1) (pcN := 41) jIQ_47_40 rfl rfl ?_
  refine jT_adv 1 (pcN := 42) (LN := [(3, (0, 4)), (0, (4, 0)), (1, (4, 1)), (2, (0, x4))]) (stN := []) (hsN := [(8, [(4, 2), (4, 3)], []), (101, [], [q1, q3, q5, q7, 0, 0]), jgh, (101, [], [0, 0, 0, 0, 1, 0])]) (c1 := 0) (s1 := 0) (c2 := 0) (s2 := 0) (by exact rfl) ?_ (by omega) (by omega)
  refine jT_xaload_n (v := (4, 1)) (pcN := 43) jIQ_47_42 rfl rfl rfl ?_
  refine jT_xiload_n (v := (0, 4)) (pcN := 44) jIQ_47_43 rfl rfl rfl ?_
  refine jT_xaload_n (v := (4, 0)) (pcN := 45) jIQ_47_44 rfl rfl rfl ?_
  refine jT_xaload_n (v := (4, 0)) (pcN := 46) jIQ_47_45 rfl rfl rfl ?_
  refine jT_xgetf (a := 0) (t := 1) (ci := 8) (fi := 1) (c := (8, [(4, 2), (4, 3)], [])) (v := (4, 3)) (pcN := 49) jIQ_47_46 rfl rfl rfl rfl rfl rfl rfl ?_
  refine jT_xlconst (z := 1) (pcN := 50) jIQ_47_49 rfl rfl ?_
  refine jT_adv 1 (pcN := 53) (LN := [(3, (0, 4)), (0, (4, 0)), (1, (4, 1)), (2, (0, x4))]) (stN := [(1, 2), (1, 1), (4, 3), (4, 0), (0, 4), (4, 1)]) (hsN := [(8, [(4, 2), (4, 3)], []), (101, [], [q1, q3, q5, q7, 0, 0]), jgh, (101, [], [0, 0, 0, 0, 1, 0])]) (c1 := 0) (s1 := 0) (c2 := 0) (s2 := 0) (by exact rfl) ?_ (by omega) (by omega)
  refine jT_xiload_n (v := (0, x4)) (pcN := 54) jIQ_47_53 rfl rfl rfl ?_
  refine jT_xi2l (x := x4) (z := x4) (pcN := 55) jIQ_47_54 rfl (jw_idd (by omega) (by omega)) rfl ?_
  refine jT_xlmul (x := 2) (y := x4) (z := 2 * x4) (pcN := 56) jIQ_47_55 rfl (rfl) rfl ?_
  refine jT_callA [0, 3, 2] (y := 45) (pcN := 59) (dC := 1) (bc1 := 0) (bc2 := 0) (c1 := 0) (c2 := 0) (as := [(4, 0), (4, 3), (1, 1), (1, 2 * x4)]) (asC := [(4, 0), (4, 1), (1, 1), (1, 2 * x4)]) (LN := [(3, (0, 4)), (0, (4, 0)), (1, (4, 1)), (2, (0, x4))]) (stN := [(0, 4), (4, 1)]) (hsC := [(8, [(4, 2), (4, 1)], []), (101, [], [0, 0, 0, 0, 1, 0]), jgh]) (ex := []) (v := (1, (475460661270 * x4) / 68719476736)) (st2 := [(1, (475460661270 * x4) / 68719476736), (0, 4), (4, 1)]) (hs2 := [(8, [(4, 2), (4, 3)], []), (101, [], [q1, q3, q5, q7, 0, 0]), jgh, (101, [], [0, 0, 0, 0, 1, 0])]) (jQ_45_213 (d := 0) (by omega)) (by rfl) (by rfl) (by rfl) (by rfl) ⟨rfl, rfl, rfl, trivial⟩ (by rfl) (by rfl) (by omega) (by show 4 ≤ 4; omega) (by omega) (by omega) rfl rfl ?_
  have hb_q8 : 6 ≤ (475460661270 * x4) / 68719476736 ∧ (475460661270 * x4) / 68719476736 ≤ 691 := ⟨by omega, by omega⟩
  generalize hq_q8 : (475460661270 * x4) / 68719476736 = q8 at hb_q8 ⊢
  refine jT_xlconst (z := 1) (pcN := 60) jIQ_47_59 rfl rfl ?_
  refine jT_xladd (x := q8) (y := 1) (z := q8 + 1) (pcN := 61) jIQ_47_60 rfl (rfl) rfl ?_
  refine jT_xiconst (k := 2) (pcN := 62) jIQ_47_61 rfl ?_
  refine jT_callA [] (y := 374) (pcN := 65) (dC := 1) (bc1 := 0) (bc2 := 0) (c1 := 0) (c2 := 0) (as := [(1, q8 + 1), (0, 2)]) (asC := [(1, q8 + 1), (0, 2)]) (LN := [(3, (0, 4)), (0, (4, 0)), (1, (4, 1)), (2, (0, x4))]) (stN := [(0, 4), (4, 1)]) (hsC := []) (ex := []) (v := (1, (q8 + 1) / 2)) (st2 := [(1, (q8 + 1) / 2), (0, 4), (4, 1)]) (hs2 := [(8, [(4, 2), (4, 3)], []), (101, [], [q1, q3, q5, q7, 0, 0]), jgh, (101, [], [0, 0, 0, 0, 1, 0])]) (jQ_374_214 (d := 0) (by omega)) (by rfl) (by rfl) (by rfl) (by rfl) trivial (by rfl) (by rfl) (by omega) (by show 4 ≤ 4; omega) (by omega) (by omega) rfl rfl ?_
  have hb_q9 : 3 ≤ (q8 + 1) / 2 ∧ (q8 + 1) / 2 ≤ 346 := ⟨by omega, by omega⟩
  generalize hq_q9 : (q8 + 1) / 2 = q9 at hb_q9 ⊢
  refine jT_adv 1 (pcN := 66) (LN := [(3, (0, 4)), (0, (4, 0)), (1, (4, 1)), (2, (0, x4))]) (stN := []) (hsN := [(8, [(4, 2), (4, 3)], []), (101, [], [q1, q3, q5, q7, q9, 0]), jgh, (101, [], [0, 0, 0, 0, 1, 0])]) (c1 := 0) (s1 := 0) (c2 := 0) (s2 := 0) (by exact rfl) ?_ (by omega) (by omega)
  refine jT_xaload_n (v := (4, 0)) (pcN := 67) jIQ_47_66 rfl rfl rfl ?_
  refine jT_xgetf (a := 0) (t := 1) (ci := 8) (fi := 1) (c := (8, [(4, 2), (4, 3)], [])) (v := (4, 3)) (pcN := 70) jIQ_47_67 rfl rfl rfl rfl rfl rfl rfl ?_
  refine jT_xiload_n (v := (0, 4)) (pcN := 71) jIQ_47_70 rfl rfl rfl ?_
  refine jT_xlconst (z := 0) (pcN := 72) jIQ_47_71 rfl rfl ?_
  refine jT_adv 1 (pcN := 73) (LN := [(3, (0, 4)), (0, (4, 0)), (1, (4, 1)), (2, (0, x4))]) (stN := []) (hsN := [(8, [(4, 2), (4, 3)], []), (101, [], [q1, q3, q5, q7, q9, 0]), jgh, (101, [], [0, 0, 0, 0, 0, 0])]) (c1 := 0) (s1 := 0) (c2 := 0) (s2 := 0) (by exact rfl) ?_ (by omega) (by omega)
  refine jT_xiinc (x := 4) (z := 5) (LN := [(3, (0, 5)), (0, (4, 0)), (1, (4, 1)), (2, (0, x4))]) (pcN := 76) jIQ_47_73 rfl rfl (by decide) rfl rfl ?_
  refine jT_xgoto (pcN := 23) jIQ_47_76 rfl ?_
  refine jT_xiload_n (v := (0, 5)) (pcN := 24) jIQ_47_23 rfl rfl rfl ?_
  refine jT_xbipush (k := 6) (pcN := 26) jIQ_47_24 (by decide) rfl ?_
  refine jT_xicF (t := 79) (pcN := 29) jIQ_47_26 rfl (by decide +kernel) rfl rfl ?_
  refine jT_xiload_n (v := (0, 5)) (pcN := 30) jIQ_47_29 rfl rfl rfl ?_
  refine jT_xaload_n (v := (4, 1)) (pcN := 31) jIQ_47_30 rfl rfl rfl ?_
  refine jT_adv 1 (pcN := 32) (LN := [(3, (0, 5)), (0, (4, 0)), (1, (4, 1)), (2, (0, x4))]) (stN := [(0, 6), (0, 5)]) (hsN := [(8, [(4, 2), (4, 3)], []), (101, [], [q1, q3, q5, q7, q9, 0]), jgh, (101, [], [0, 0, 0, 0, 0, 0])]) (c1 := 0) (s1 := 0) (c2 := 0) (s2 := 0) (by exact rfl) ?_ (by omega) (by omega)
  refine jT_xicF (t := 79) (pcN := 35) jIQ_47_32 rfl (by decide +kernel) rfl rfl ?_
  refine jT_xaload_n (v := (4, 0)) (pcN := 36) jIQ_47_35 rfl rfl rfl ?_
  refine jT_xgetf (a := 0) (t := 1) (ci := 8) (fi := 1) (c := (8, [(4, 2), (4, 3)], [])) (v := (4, 3)) (pcN := 39) jIQ_47_36 rfl rfl rfl rfl rfl rfl rfl ?_
  refine jT_xiload_n (v := (0, 5)) (pcN := 40) jIQ_47_39 rfl rfl rfl ?_
  refine jT_xlconst (z := 1) (pcN := 41) jIQ_47_40 rfl rfl ?_
  refine jT_adv 1 (pcN := 42) (LN := [(3, (0, 5)), (0, (4, 0)), (1, (4, 1)), (2, (0, x4))]) (stN := []) (hsN := [(8, [(4, 2), (4, 3)], []), (101, [], [q1, q3, q5, q7, q9, 0]), jgh, (101, [], [0, 0, 0, 0, 0, 1])]) (c1 := 0) (s1 := 0) (c2 := 0) (s2 := 0) (by exact rfl) ?_ (by omega) (by omega)
  refine jT_xaload_n (v := (4, 1)) (pcN := 43) jIQ_47_42 rfl rfl rfl ?_
  refine jT_xiload_n (v := (0, 5)) (pcN := 44) jIQ_47_43 rfl rfl rfl ?_
  refine jT_xaload_n (v := (4, 0)) (pcN := 45) jIQ_47_44 rfl rfl rfl ?_
  refine jT_xaload_n (v := (4, 0)) (pcN := 46) jIQ_47_45 rfl rfl rfl ?_
  refine jT_xgetf (a := 0) (t := 1) (ci := 8) (fi := 1) (c := (8, [(4, 2), (4, 3)], [])) (v := (4, 3)) (pcN := 49) jIQ_47_46 rfl rfl rfl rfl rfl rfl rfl ?_
  refine jT_xlconst (z := 1) (pcN := 50) jIQ_47_49 rfl rfl ?_
  refine jT_adv 1 (pcN := 53) (LN := [(3, (0, 5)), (0, (4, 0)), (1, (4, 1)), (2, (0, x4))]) (stN := [(1, 2), (1, 1), (4, 3), (4, 0), (0, 5), (4, 1)]) (hsN := [(8, [(4, 2), (4, 3)], []), (101, [], [q1, q3, q5, q7, q9, 0]), jgh, (101, [], [0, 0, 0, 0, 0, 1])]) (c1 := 0) (s1 := 0) (c2 := 0) (s2 := 0) (by exact rfl) ?_ (by omega) (by omega)
  refine jT_xiload_n (v := (0, x4)) (pcN := 54) jIQ_47_53 rfl rfl rfl ?_
  refine jT_xi2l (x := x4) (z := x4) (pcN := 55) jIQ_47_54 rfl (jw_idd (by omega) (by omega)) rfl ?_
  refine jT_xlmul (x := 2) (y := x4) (z := 2 * x4) (pcN := 56) jIQ_47_55 rfl (rfl) rfl ?_
  refine jT_callA [0, 3, 2] (y := 45) (pcN := 59) (dC := 1) (bc1 := 0) (bc2 := 0) (c1 := 0) (c2 := 0) (as := [(4, 0), (4, 3), (1, 1), (1, 2 * x4)]) (asC := [(4, 0), (4, 1), (1, 1), (1, 2 * x4)]) (LN := [(3, (0, 5)), (0, (4, 0)), (1, (4, 1)), (2, (0, x4))]) (stN := [(0, 5), (4, 1)]) (hsC := [(8, [(4, 2), (4, 1)], []), (101, [], [0, 0, 0, 0, 0, 1]), jgh]) (ex := []) (v := (1, (508584562244 * x4) / 68719476736)) (st2 := [(1, (508584562244 * x4) / 68719476736), (0, 5), (4, 1)]) (hs2 := [(8, [(4, 2), (4, 3)], []), (101, [], [q1, q3, q5, q7, q9, 0]), jgh, (101, [], [0, 0, 0, 0, 0, 1])]) (jQ_45_218 (d := 0) (by omega)) (by rfl) (by rfl) (by rfl) (by rfl) ⟨rfl, rfl, rfl, trivial⟩ (by rfl) (by rfl) (by omega) (by show 4 ≤ 4; omega) (by omega) (by omega) rfl rfl ?_
  have hb_q10 : 7 ≤ (508584562244 * x4) / 68719476736 ∧ (508584562244 * x4) / 68719476736 ≤ 740 := ⟨by omega, by omega⟩
  generalize hq_q10 : (508584562244 * x4) / 68719476736 = q10 at hb_q10 ⊢
  refine jT_xlconst (z := 1) (pcN := 60) jIQ_47_59 rfl rfl ?_
  refine jT_xladd (x := q10) (y := 1) (z := q10 + 1) (pcN := 61) jIQ_47_60 rfl (rfl) rfl ?_
  refine jT_xiconst (k := 2) (pcN := 62) jIQ_47_61 rfl ?_
  refine jT_callA [] (y := 374) (pcN := 65) (dC := 1) (bc1 := 0) (bc2 := 0) (c1 := 0) (c2 := 0) (as := [(1, q10 + 1), (0, 2)]) (asC := [(1, q10 + 1), (0, 2)]) (LN := [(3, (0, 5)), (0, (4, 0)), (1, (4, 1)), (2, (0, x4))]) (stN := [(0, 5), (4, 1)]) (hsC := []) (ex := []) (v := (1, (q10 + 1) / 2)) (st2 := [(1, (q10 + 1) / 2), (0, 5), (4, 1)]) (hs2 := [(8, [(4, 2), (4, 3)], []), (101, [], [q1, q3, q5, q7, q9, 0]), jgh, (101, [], [0, 0, 0, 0, 0, 1])]) (jQ_374_219 (d := 0) (by omega)) (by rfl) (by rfl) (by rfl) (by rfl) trivial (by rfl) (by rfl) (by omega) (by show 4 ≤ 4; omega) (by omega) (by omega) rfl rfl ?_
  have hb_q11 : 4 ≤ (q10 + 1) / 2 ∧ (q10 + 1) / 2 ≤ 370 := ⟨by omega, by omega⟩
  generalize hq_q11 : (q10 + 1) / 2 = q11 at hb_q11 ⊢
  refine jT_adv 1 (pcN := 66) (LN := [(3, (0, 5)), (0, (4, 0)), (1, (4, 1)), (2, (0, x4))]) (stN := []) (hsN := [(8, [(4, 2), (4, 3)], []), (101, [], [q1, q3, q5, q7, q9, q11]), jgh, (101, [], [0, 0, 0, 0, 0, 1])]) (c1 := 0) (s1 := 0) (c2 := 0) (s2 := 0) (by exact rfl) ?_ (by omega) (by omega)
  refine jT_xaload_n (v := (4, 0)) (pcN := 67) jIQ_47_66 rfl rfl rfl ?_
  refine jT_xgetf (a := 0) (t := 1) (ci := 8) (fi := 1) (c := (8, [(4, 2), (4, 3)], [])) (v := (4, 3)) (pcN := 70) jIQ_47_67 rfl rfl rfl rfl rfl rfl rfl ?_
  refine jT_xiload_n (v := (0, 5)) (pcN := 71) jIQ_47_70 rfl rfl rfl ?_
  refine jT_xlconst (z := 0) (pcN := 72) jIQ_47_71 rfl rfl ?_
  refine jT_adv 1 (pcN := 73) (LN := [(3, (0, 5)), (0, (4, 0)), (1, (4, 1)), (2, (0, x4))]) (stN := []) (hsN := [(8, [(4, 2), (4, 3)], []), (101, [], [q1, q3, q5, q7, q9, q11]), jgh, (101, [], [0, 0, 0, 0, 0, 0])]) (c1 := 0) (s1 := 0) (c2 := 0) (s2 := 0) (by exact rfl) ?_ (by omega) (by omega)
  refine jT_xiinc (x := 5) (z := 6) (LN := [(3, (0, 6)), (0, (4, 0)), (1, (4, 1)), (2, (0, x4))]) (pcN := 76) jIQ_47_73 rfl rfl (by decide) rfl rfl ?_
  refine jT_xgoto (pcN := 23) jIQ_47_76 rfl ?_
  refine jT_xiload_n (v := (0, 6)) (pcN := 24) jIQ_47_23 rfl rfl rfl ?_
  refine jT_xbipush (k := 6) (pcN := 26) jIQ_47_24 (by decide) rfl ?_
  refine jT_xicT (pcN := 79) jIQ_47_26 rfl (by decide +kernel) rfl ?_
  subst hq_q11
  subst hq_q10
  subst hq_q9
  subst hq_q8
  subst hq_q7
  subst hq_q6
  subst hq_q5
  subst hq_q4
  subst hq_q3
  subst hq_q2
  subst hq_q1
  exact jT_ret rfl (by decide) (by show 4 ≤ 4; omega) (by omega) (by omega) ⟨rfl, rfl, rfl⟩
theorem jIQ_161_76 : jmI (jm 161) 76 = (.iload_n 1, 1) := by rfl
theorem jIQ_161_77 : jmI (jm 161) 77 = (.i2l, 1) := by rfl
theorem jIQ_161_78 : jmI (jm 161) 78 = (.aload_n 0, 1) := by rfl
theorem jIQ_161_79 : jmI (jm 161) 79 = (.getfield 54, 3) := by rfl
theorem jIQ_161_82 : jmI (jm 161) 82 = (.iconst 1, 1) := by rfl
theorem jIQ_161_83 : jmI (jm 161) 83 = (.laload, 1) := by rfl
theorem jIQ_161_84 : jmI (jm 161) 84 = (.lmul, 1) := by rfl
theorem jIQ_161_85 : jmI (jm 161) 85 = (.iload_n 2, 1) := by rfl
theorem jIQ_161_86 : jmI (jm 161) 86 = (.i2l, 1) := by rfl
theorem jIQ_161_87 : jmI (jm 161) 87 = (.aload_n 0, 1) := by rfl
theorem jIQ_161_88 : jmI (jm 161) 88 = (.getfield 54, 3) := by rfl
theorem jIQ_161_91 : jmI (jm 161) 91 = (.iconst 2, 1) := by rfl
theorem jIQ_161_92 : jmI (jm 161) 92 = (.laload, 1) := by rfl
theorem jIQ_161_93 : jmI (jm 161) 93 = (.lmul, 1) := by rfl
theorem jIQ_161_94 : jmI (jm 161) 94 = (.ladd, 1) := by rfl
theorem jIQ_161_95 : jmI (jm 161) 95 = (.lload 5, 2) := by rfl
theorem jIQ_161_97 : jmI (jm 161) 97 = (.iload 4, 2) := by rfl
theorem jIQ_161_99 : jmI (jm 161) 99 = (.i2l, 1) := by rfl
theorem jIQ_161_100 : jmI (jm 161) 100 = (.lmul, 1) := by rfl
theorem jIQ_161_102 : jmI (jm 161) 102 = (.ifCond .eq 5, 3) := by rfl
theorem jIQ_161_105 : jmI (jm 161) 105 = (.iconst 0, 1) := by rfl
theorem jQ_161_221 {xs : List Int} {d : Nat} {k86_0 k86_1 k86_2 k86_3 k86_4 k86_5 o4 r7 r8 u85_0 u85_1 u85_2 u85_3 u85_4 u85_5 : Int} (h_k86_0 : 1 ≤ k86_0 ∧ k86_0 ≤ 100) (h_k86_1 : 2 ≤ k86_1 ∧ k86_1 ≤ 158) (h_k86_2 : 2 ≤ k86_2 ∧ k86_2 ≤ 232) (h_k86_3 : 3 ≤ k86_3 ∧ k86_3 ≤ 281) (h_k86_4 : 3 ≤ k86_4 ∧ k86_4 ≤ 346) (h_k86_5 : 4 ≤ k86_5 ∧ k86_5 ≤ 370) (h_o4 : 1 ≤ o4 ∧ o4 ≤ 100) (h_r7 : (-20) ≤ r7 ∧ r7 ≤ 20) (h_r8 : (-10) ≤ r8 ∧ r8 ≤ 10) (g_0 : 0 < r7) (g_1 : -(((108917793695 * r7 + 159561683699 * r8) / 68719476736) * o4) + (r7 * k86_1) + (r8 * k86_2) - 1 < 0) (g_2 : -(((108917793695 * r7 + 159561683699 * r8) / 68719476736) * o4) + (r7 * k86_1) + (r8 * k86_2) < 0) : jT xs (d + 2) 161 15 0 [(0, (4, 0)), (1, (0, r7)), (2, (0, r8)), (3, (4, 1)), (4, (0, o4))] [] [jzQ_16, jgh, (8, [(4, 13), (4, 14)], []), jgh, jgh, jgh, jgh, jgh, jgh, (101, [], [u85_0, u85_1, u85_2, u85_3, u85_4, u85_5]), (101, [], [k86_0, k86_1, k86_2, k86_3, k86_4, k86_5]), jgh, jgh, jgh, jgh] 0 0 (fun k v hsN => k = 0 ∧ v = (0, 0) ∧ hsN = [jzQ_16, jgh, (8, [(4, 13), (4, 14)], []), jgh, jgh, jgh, jgh, jgh, jgh, (101, [], [0, r7, r8, 0, 0, 0]), (101, [], [k86_0, k86_1, k86_2, k86_3, k86_4, k86_5]), jgh, jgh, jgh, jgh]) := by
  refine jT_xiload_n (v := (0, r7)) (pcN := 1) jIQ_161_0 rfl rfl rfl ?_
  refine jT_ifT (a := r7) (t := 10) (by rfl) (by rfl) (by rfl) (jw_idd (by omega) (by omega)) (by simp only [jcP] <;> omega) ?_
  refine jT_xiconst (k := 0) (pcN := 11) jIQ_161_10 rfl ?_
  refine jT_xistore (v := (0, 0)) (LN := [(5, (0, 0)), (0, (4, 0)), (1, (0, r7)), (2, (0, r8)), (3, (4, 1)), (4, (0, o4))]) (pcN := 13) jIQ_161_11 rfl rfl rfl rfl ?_
  refine jT_xiload (v := (0, 0)) (pcN := 15) jIQ_161_13 rfl rfl rfl ?_
  refine jT_xbipush (k := 6) (pcN := 17) jIQ_161_15 (by decide) rfl ?_
  refine jT_xicF (t := 56) (pcN := 20) jIQ_161_17 rfl (by decide +kernel) rfl rfl ?_
  refine jT_xaload_n (v := (4, 0)) (pcN := 21) jIQ_161_20 rfl rfl rfl ?_
  refine jT_xgetf (a := 0) (t := 1) (ci := 13) (fi := 7) (c := jzQ_16) (v := (4, 9)) (pcN := 24) jIQ_161_21 rfl rfl rfl rfl rfl rfl rfl ?_
  refine jT_xiload (v := (0, 0)) (pcN := 26) jIQ_161_24 rfl rfl rfl ?_
  refine jT_xiload (v := (0, 0)) (pcN := 28) jIQ_161_26 rfl rfl rfl ?_
  refine jT_xiconst (k := 1) (pcN := 29) jIQ_161_28 rfl ?_
  refine jT_xicT (pcN := 37) jIQ_161_29 rfl (by decide +kernel) rfl ?_
  refine jT_xiload (v := (0, 0)) (pcN := 39) jIQ_161_37 rfl rfl rfl ?_
  refine jT_xiconst (k := 2) (pcN := 40) jIQ_161_39 rfl ?_
  refine jT_xicT (pcN := 48) jIQ_161_40 rfl (by decide +kernel) rfl ?_
  refine jT_xlconst (z := 0) (pcN := 49) jIQ_161_48 rfl rfl ?_
  refine jT_adv 1 (pcN := 50) (LN := [(5, (0, 0)), (0, (4, 0)), (1, (0, r7)), (2, (0, r8)), (3, (4, 1)), (4, (0, o4))]) (stN := []) (hsN := [jzQ_16, jgh, (8, [(4, 13), (4, 14)], []), jgh, jgh, jgh, jgh, jgh, jgh, (101, [], [0, u85_1, u85_2, u85_3, u85_4, u85_5]), (101, [], [k86_0, k86_1, k86_2, k86_3, k86_4, k86_5]), jgh, jgh, jgh, jgh]) (c1 := 0) (s1 := 0) (c2 := 0) (s2 := 0) (by exact rfl) ?_ (by omega) (by omega)
  refine jT_xiinc (x := 0) (z := 1) (LN := [(5, (0, 1)), (0, (4, 0)), (1, (0, r7)), (2, (0, r8)), (3, (4, 1)), (4, (0, o4))]) (pcN := 53) jIQ_161_50 rfl rfl (by decide) rfl rfl ?_
  refine jT_xgoto (pcN := 13) jIQ_161_53 rfl ?_
  refine jT_xiload (v := (0, 1)) (pcN := 15) jIQ_161_13 rfl rfl rfl ?_
  refine jT_xbipush (k := 6) (pcN := 17) jIQ_161_15 (by decide) rfl ?_
  refine jT_xicF (t := 56) (pcN := 20) jIQ_161_17 rfl (by decide +kernel) rfl rfl ?_
  refine jT_xaload_n (v := (4, 0)) (pcN := 21) jIQ_161_20 rfl rfl rfl ?_
  refine jT_xgetf (a := 0) (t := 1) (ci := 13) (fi := 7) (c := jzQ_16) (v := (4, 9)) (pcN := 24) jIQ_161_21 rfl rfl rfl rfl rfl rfl rfl ?_
  refine jT_xiload (v := (0, 1)) (pcN := 26) jIQ_161_24 rfl rfl rfl ?_
  refine jT_xiload (v := (0, 1)) (pcN := 28) jIQ_161_26 rfl rfl rfl ?_
  refine jT_xiconst (k := 1) (pcN := 29) jIQ_161_28 rfl ?_
  refine jT_xicF (t := 37) (pcN := 32) jIQ_161_29 rfl (by decide +kernel) rfl rfl ?_
  refine jT_xiload_n (v := (0, r7)) (pcN := 33) jIQ_161_32 rfl rfl rfl ?_
  refine jT_xi2l (x := r7) (z := r7) (pcN := 34) jIQ_161_33 rfl (jw_idd (by omega) (by omega)) rfl ?_
  refine jT_xgoto (pcN := 49) jIQ_161_34 rfl ?_
  refine jT_adv 1 (pcN := 50) (LN := [(5, (0, 1)), (0, (4, 0)), (1, (0, r7)), (2, (0, r8)), (3, (4, 1)), (4, (0, o4))]) (stN := []) (hsN := [jzQ_16, jgh, (8, [(4, 13), (4, 14)], []), jgh, jgh, jgh, jgh, jgh, jgh, (101, [], [0, r7, u85_2, u85_3, u85_4, u85_5]), (101, [], [k86_0, k86_1, k86_2, k86_3, k86_4, k86_5]), jgh, jgh, jgh, jgh]) (c1 := 0) (s1 := 0) (c2 := 0) (s2 := 0) (by exact rfl) ?_ (by omega) (by omega)
  refine jT_xiinc (x := 1) (z := 2) (LN := [(5, (0, 2)), (0, (4, 0)), (1, (0, r7)), (2, (0, r8)), (3, (4, 1)), (4, (0, o4))]) (pcN := 53) jIQ_161_50 rfl rfl (by decide) rfl rfl ?_
  refine jT_xgoto (pcN := 13) jIQ_161_53 rfl ?_
  refine jT_xiload (v := (0, 2)) (pcN := 15) jIQ_161_13 rfl rfl rfl ?_
  refine jT_xbipush (k := 6) (pcN := 17) jIQ_161_15 (by decide) rfl ?_
  refine jT_xicF (t := 56) (pcN := 20) jIQ_161_17 rfl (by decide +kernel) rfl rfl ?_
  refine jT_xaload_n (v := (4, 0)) (pcN := 21) jIQ_161_20 rfl rfl rfl ?_
  refine jT_xgetf (a := 0) (t := 1) (ci := 13) (fi := 7) (c := jzQ_16) (v := (4, 9)) (pcN := 24) jIQ_161_21 rfl rfl rfl rfl rfl rfl rfl ?_
  refine jT_xiload (v := (0, 2)) (pcN := 26) jIQ_161_24 rfl rfl rfl ?_
  refine jT_xiload (v := (0, 2)) (pcN := 28) jIQ_161_26 rfl rfl rfl ?_
  refine jT_xiconst (k := 1) (pcN := 29) jIQ_161_28 rfl ?_
  refine jT_xicT (pcN := 37) jIQ_161_29 rfl (by decide +kernel) rfl ?_
  refine jT_xiload (v := (0, 2)) (pcN := 39) jIQ_161_37 rfl rfl rfl ?_
  refine jT_xiconst (k := 2) (pcN := 40) jIQ_161_39 rfl ?_
  refine jT_xicF (t := 48) (pcN := 43) jIQ_161_40 rfl (by decide +kernel) rfl rfl ?_
  refine jT_xiload_n (v := (0, r8)) (pcN := 44) jIQ_161_43 rfl rfl rfl ?_
  refine jT_xi2l (x := r8) (z := r8) (pcN := 45) jIQ_161_44 rfl (jw_idd (by omega) (by omega)) rfl ?_
  refine jT_xgoto (pcN := 49) jIQ_161_45 rfl ?_
  refine jT_adv 1 (pcN := 50) (LN := [(5, (0, 2)), (0, (4, 0)), (1, (0, r7)), (2, (0, r8)), (3, (4, 1)), (4, (0, o4))]) (stN := []) (hsN := [jzQ_16, jgh, (8, [(4, 13), (4, 14)], []), jgh, jgh, jgh, jgh, jgh, jgh, (101, [], [0, r7, r8, u85_3, u85_4, u85_5]), (101, [], [k86_0, k86_1, k86_2, k86_3, k86_4, k86_5]), jgh, jgh, jgh, jgh]) (c1 := 0) (s1 := 0) (c2 := 0) (s2 := 0) (by exact rfl) ?_ (by omega) (by omega)
  refine jT_xiinc (x := 2) (z := 3) (LN := [(5, (0, 3)), (0, (4, 0)), (1, (0, r7)), (2, (0, r8)), (3, (4, 1)), (4, (0, o4))]) (pcN := 53) jIQ_161_50 rfl rfl (by decide) rfl rfl ?_
  refine jT_xgoto (pcN := 13) jIQ_161_53 rfl ?_
  refine jT_xiload (v := (0, 3)) (pcN := 15) jIQ_161_13 rfl rfl rfl ?_
  refine jT_xbipush (k := 6) (pcN := 17) jIQ_161_15 (by decide) rfl ?_
  refine jT_xicF (t := 56) (pcN := 20) jIQ_161_17 rfl (by decide +kernel) rfl rfl ?_
  refine jT_xaload_n (v := (4, 0)) (pcN := 21) jIQ_161_20 rfl rfl rfl ?_
  refine jT_xgetf (a := 0) (t := 1) (ci := 13) (fi := 7) (c := jzQ_16) (v := (4, 9)) (pcN := 24) jIQ_161_21 rfl rfl rfl rfl rfl rfl rfl ?_
  refine jT_xiload (v := (0, 3)) (pcN := 26) jIQ_161_24 rfl rfl rfl ?_
  refine jT_xiload (v := (0, 3)) (pcN := 28) jIQ_161_26 rfl rfl rfl ?_
  refine jT_xiconst (k := 1) (pcN := 29) jIQ_161_28 rfl ?_
  refine jT_xicT (pcN := 37) jIQ_161_29 rfl (by decide +kernel) rfl ?_
  refine jT_xiload (v := (0, 3)) (pcN := 39) jIQ_161_37 rfl rfl rfl ?_
  refine jT_xiconst (k := 2) (pcN := 40) jIQ_161_39 rfl ?_
  refine jT_xicT (pcN := 48) jIQ_161_40 rfl (by decide +kernel) rfl ?_
  refine jT_xlconst (z := 0) (pcN := 49) jIQ_161_48 rfl rfl ?_
  refine jT_adv 1 (pcN := 50) (LN := [(5, (0, 3)), (0, (4, 0)), (1, (0, r7)), (2, (0, r8)), (3, (4, 1)), (4, (0, o4))]) (stN := []) (hsN := [jzQ_16, jgh, (8, [(4, 13), (4, 14)], []), jgh, jgh, jgh, jgh, jgh, jgh, (101, [], [0, r7, r8, 0, u85_4, u85_5]), (101, [], [k86_0, k86_1, k86_2, k86_3, k86_4, k86_5]), jgh, jgh, jgh, jgh]) (c1 := 0) (s1 := 0) (c2 := 0) (s2 := 0) (by exact rfl) ?_ (by omega) (by omega)
  refine jT_xiinc (x := 3) (z := 4) (LN := [(5, (0, 4)), (0, (4, 0)), (1, (0, r7)), (2, (0, r8)), (3, (4, 1)), (4, (0, o4))]) (pcN := 53) jIQ_161_50 rfl rfl (by decide) rfl rfl ?_
  refine jT_xgoto (pcN := 13) jIQ_161_53 rfl ?_
  refine jT_xiload (v := (0, 4)) (pcN := 15) jIQ_161_13 rfl rfl rfl ?_
  refine jT_xbipush (k := 6) (pcN := 17) jIQ_161_15 (by decide) rfl ?_
  refine jT_xicF (t := 56) (pcN := 20) jIQ_161_17 rfl (by decide +kernel) rfl rfl ?_
  refine jT_xaload_n (v := (4, 0)) (pcN := 21) jIQ_161_20 rfl rfl rfl ?_
  refine jT_xgetf (a := 0) (t := 1) (ci := 13) (fi := 7) (c := jzQ_16) (v := (4, 9)) (pcN := 24) jIQ_161_21 rfl rfl rfl rfl rfl rfl rfl ?_
  refine jT_xiload (v := (0, 4)) (pcN := 26) jIQ_161_24 rfl rfl rfl ?_
  refine jT_xiload (v := (0, 4)) (pcN := 28) jIQ_161_26 rfl rfl rfl ?_
  refine jT_xiconst (k := 1) (pcN := 29) jIQ_161_28 rfl ?_
  refine jT_xicT (pcN := 37) jIQ_161_29 rfl (by decide +kernel) rfl ?_
  refine jT_xiload (v := (0, 4)) (pcN := 39) jIQ_161_37 rfl rfl rfl ?_
  refine jT_xiconst (k := 2) (pcN := 40) jIQ_161_39 rfl ?_
  refine jT_xicT (pcN := 48) jIQ_161_40 rfl (by decide +kernel) rfl ?_
  refine jT_xlconst (z := 0) (pcN := 49) jIQ_161_48 rfl rfl ?_
  refine jT_adv 1 (pcN := 50) (LN := [(5, (0, 4)), (0, (4, 0)), (1, (0, r7)), (2, (0, r8)), (3, (4, 1)), (4, (0, o4))]) (stN := []) (hsN := [jzQ_16, jgh, (8, [(4, 13), (4, 14)], []), jgh, jgh, jgh, jgh, jgh, jgh, (101, [], [0, r7, r8, 0, 0, u85_5]), (101, [], [k86_0, k86_1, k86_2, k86_3, k86_4, k86_5]), jgh, jgh, jgh, jgh]) (c1 := 0) (s1 := 0) (c2 := 0) (s2 := 0) (by exact rfl) ?_ (by omega) (by omega)
  refine jT_xiinc (x := 4) (z := 5) (LN := [(5, (0, 5)), (0, (4, 0)), (1, (0, r7)), (2, (0, r8)), (3, (4, 1)), (4, (0, o4))]) (pcN := 53) jIQ_161_50 rfl rfl (by decide) rfl rfl ?_
  refine jT_xgoto (pcN := 13) jIQ_161_53 rfl ?_
  refine jT_xiload (v := (0, 5)) (pcN := 15) jIQ_161_13 rfl rfl rfl ?_
  refine jT_xbipush (k := 6) (pcN := 17) jIQ_161_15 (by decide) rfl ?_
  refine jT_xicF (t := 56) (pcN := 20) jIQ_161_17 rfl (by decide +kernel) rfl rfl ?_
  refine jT_xaload_n (v := (4, 0)) (pcN := 21) jIQ_161_20 rfl rfl rfl ?_
  refine jT_xgetf (a := 0) (t := 1) (ci := 13) (fi := 7) (c := jzQ_16) (v := (4, 9)) (pcN := 24) jIQ_161_21 rfl rfl rfl rfl rfl rfl rfl ?_
  refine jT_xiload (v := (0, 5)) (pcN := 26) jIQ_161_24 rfl rfl rfl ?_
  refine jT_xiload (v := (0, 5)) (pcN := 28) jIQ_161_26 rfl rfl rfl ?_
  refine jT_xiconst (k := 1) (pcN := 29) jIQ_161_28 rfl ?_
  refine jT_xicT (pcN := 37) jIQ_161_29 rfl (by decide +kernel) rfl ?_
  refine jT_xiload (v := (0, 5)) (pcN := 39) jIQ_161_37 rfl rfl rfl ?_
  refine jT_xiconst (k := 2) (pcN := 40) jIQ_161_39 rfl ?_
  refine jT_xicT (pcN := 48) jIQ_161_40 rfl (by decide +kernel) rfl ?_
  refine jT_xlconst (z := 0) (pcN := 49) jIQ_161_48 rfl rfl ?_
  refine jT_adv 1 (pcN := 50) (LN := [(5, (0, 5)), (0, (4, 0)), (1, (0, r7)), (2, (0, r8)), (3, (4, 1)), (4, (0, o4))]) (stN := []) (hsN := [jzQ_16, jgh, (8, [(4, 13), (4, 14)], []), jgh, jgh, jgh, jgh, jgh, jgh, (101, [], [0, r7, r8, 0, 0, 0]), (101, [], [k86_0, k86_1, k86_2, k86_3, k86_4, k86_5]), jgh, jgh, jgh, jgh]) (c1 := 0) (s1 := 0) (c2 := 0) (s2 := 0) (by exact rfl) ?_ (by omega) (by omega)
  refine jT_xiinc (x := 5) (z := 6) (LN := [(5, (0, 6)), (0, (4, 0)), (1, (0, r7)), (2, (0, r8)), (3, (4, 1)), (4, (0, o4))]) (pcN := 53) jIQ_161_50 rfl rfl (by decide) rfl rfl ?_
  refine jT_xgoto (pcN := 13) jIQ_161_53 rfl ?_
  refine jT_xiload (v := (0, 6)) (pcN := 15) jIQ_161_13 rfl rfl rfl ?_
  refine jT_xbipush (k := 6) (pcN := 17) jIQ_161_15 (by decide) rfl ?_
  refine jT_xicT (pcN := 56) jIQ_161_17 rfl (by decide +kernel) rfl ?_
  refine jT_xaload_n (v := (4, 0)) (pcN := 57) jIQ_161_56 rfl rfl rfl ?_
  refine jT_xgetf (a := 0) (t := 1) (ci := 13) (fi := 0) (c := jzQ_16) (v := (4, 2)) (pcN := 60) jIQ_161_57 rfl rfl rfl rfl rfl rfl rfl ?_
  refine jT_xaload_n (v := (4, 0)) (pcN := 61) jIQ_161_60 rfl rfl rfl ?_
  refine jT_xgetf (a := 0) (t := 1) (ci := 13) (fi := 7) (c := jzQ_16) (v := (4, 9)) (pcN := 64) jIQ_161_61 rfl rfl rfl rfl rfl rfl rfl ?_
  refine jT_xlconst (z := 1) (pcN := 65) jIQ_161_64 rfl rfl ?_
  refine jT_xlconst (z := 1) (pcN := 66) jIQ_161_65 rfl rfl ?_
  refine jT_callA [2, 9, 13, 14] (y := 45) (pcN := 69) (dC := 1) (bc1 := 0) (bc2 := 0) (c1 := 0) (c2 := 0) (as := [(4, 2), (4, 9), (1, 1), (1, 1)]) (asC := [(4, 0), (4, 1), (1, 1), (1, 1)]) (LN := [(5, (0, 6)), (0, (4, 0)), (1, (0, r7)), (2, (0, r8)), (3, (4, 1)), (4, (0, o4))]) (stN := []) (hsC := [(8, [(4, 2), (4, 3)], []), (101, [], [0, r7, r8, 0, 0, 0]), jgh, jgh]) (ex := []) (v := (1, (108917793695 * r7 + 159561683699 * r8) / 68719476736)) (st2 := [(1, (108917793695 * r7 + 159561683699 * r8) / 68719476736)]) (hs2 := [jzQ_16, jgh, (8, [(4, 13), (4, 14)], []), jgh, jgh, jgh, jgh, jgh, jgh, (101, [], [0, r7, r8, 0, 0, 0]), (101, [], [k86_0, k86_1, k86_2, k86_3, k86_4, k86_5]), jgh, jgh, jgh, jgh]) (jQl_sp45_116 (d := 0) (by omega) (by omega)) (by rfl) (by rfl) (by rfl) (by rfl) ⟨rfl, rfl, rfl, rfl, trivial⟩ (by rfl) (by rfl) (by omega) (by show 15 ≤ 15; omega) (by omega) (by omega) rfl rfl ?_
  have hb_q1 : (-60) ≤ (108917793695 * r7 + 159561683699 * r8) / 68719476736 ∧ (108917793695 * r7 + 159561683699 * r8) / 68719476736 ≤ 60 := ⟨by omega, by omega⟩
  generalize hq_q1 : (108917793695 * r7 + 159561683699 * r8) / 68719476736 = q1 at hb_q1 g_1 g_2 ⊢
  refine jT_xlstore (v := (1, q1)) (LN := [(5, (1, q1)), (0, (4, 0)), (1, (0, r7)), (2, (0, r8)), (3, (4, 1)), (4, (0, o4))]) (pcN := 71) jIQ_161_69 rfl rfl rfl rfl ?_
  have g_3 : 0 ≤ (-68719476736) * q1 + 108917793694 * r7 + 159561683698 * r8 - 1 := by have := jcg (b := r7) (c := r8) (by omega) (by omega) (by omega); rw [hq_q1] at this; omega
  have g_4 : 0 ≤ (-68719476736) * q1 + 108917793694 * r7 + 159561683700 * r8 - 1 := by have := jcg (b := r7) (c := r8) (by omega) (by omega) (by omega); rw [hq_q1] at this; omega
  have g_5 : 0 ≤ (-68719476736) * q1 + 108917793696 * r7 + 159561683698 * r8 - 1 := by have := jcg (b := r7) (c := r8) (by omega) (by omega) (by omega); rw [hq_q1] at this; omega
  have g_6 : 0 ≤ (-68719476736) * q1 + 108917793696 * r7 + 159561683700 * r8 - 1 := by have := jcg (b := r7) (c := r8) (by omega) (by omega) (by omega); rw [hq_q1] at this; omega
  refine jT_xiload (v := (0, o4)) (pcN := 73) jIQ_161_71 rfl rfl rfl ?_
  refine jT_ifF (a := o4) (t := 107) (by rfl) (by rfl) (by rfl) (jw_idd (by omega) (by omega)) (by simp only [jcP] <;> omega) ?_
  refine jT_xiload_n (v := (0, r7)) (pcN := 77) jIQ_161_76 rfl rfl rfl ?_
  refine jT_xi2l (x := r7) (z := r7) (pcN := 78) jIQ_161_77 rfl (jw_idd (by omega) (by omega)) rfl ?_
  refine jT_xaload_n (v := (4, 0)) (pcN := 79) jIQ_161_78 rfl rfl rfl ?_
  refine jT_xgetf (a := 0) (t := 1) (ci := 13) (fi := 8) (c := jzQ_16) (v := (4, 10)) (pcN := 82) jIQ_161_79 rfl rfl rfl rfl rfl rfl rfl ?_
  refine jT_xiconst (k := 1) (pcN := 83) jIQ_161_82 rfl ?_
  refine jT_lald (x := k86_1) (a := 10) (j := 1) (fs := []) (X := [k86_0, k86_1, k86_2, k86_3, k86_4, k86_5]) jIQ_161_83 rfl rfl rfl rfl ?_
  refine jT_eq (LN := [(5, (1, q1)), (0, (4, 0)), (1, (0, r7)), (2, (0, r8)), (3, (4, 1)), (4, (0, o4))]) (stN := [(1, k86_1), (1, r7)]) (hsN := [jzQ_16, jgh, (8, [(4, 13), (4, 14)], []), jgh, jgh, jgh, jgh, jgh, jgh, (101, [], [0, r7, r8, 0, 0, 0]), (101, [], [k86_0, k86_1, k86_2, k86_3, k86_4, k86_5]), jgh, jgh, jgh, jgh]) rfl rfl rfl ?_
  refine jT_xlmul (x := r7) (y := k86_1) (z := r7 * k86_1) (pcN := 85) jIQ_161_84 rfl rfl rfl ?_
  have hb_q2 := jmul_b2 (x := r7) (y := k86_1) (k := 1) (l := 2) (m := 20) (n := 158) (by omega) (by omega) (by omega) (by omega) (by omega) (by omega)
  have hb_q2 : 2 ≤ r7 * k86_1 ∧ r7 * k86_1 ≤ 3160 := ⟨by omega, by omega⟩
  generalize hq_q2 : r7 * k86_1 = q2 at hb_q2 g_1 g_2 ⊢
  refine jT_xiload_n (v := (0, r8)) (pcN := 86) jIQ_161_85 rfl rfl rfl ?_
  refine jT_xi2l (x := r8) (z := r8) (pcN := 87) jIQ_161_86 rfl (jw_idd (by omega) (by omega)) rfl ?_
  refine jT_xaload_n (v := (4, 0)) (pcN := 88) jIQ_161_87 rfl rfl rfl ?_
  refine jT_xgetf (a := 0) (t := 1) (ci := 13) (fi := 8) (c := jzQ_16) (v := (4, 10)) (pcN := 91) jIQ_161_88 rfl rfl rfl rfl rfl rfl rfl ?_
  refine jT_xiconst (k := 2) (pcN := 92) jIQ_161_91 rfl ?_
  refine jT_lald (x := k86_2) (a := 10) (j := 2) (fs := []) (X := [k86_0, k86_1, k86_2, k86_3, k86_4, k86_5]) jIQ_161_92 rfl rfl rfl rfl ?_
  refine jT_eq (LN := [(5, (1, q1)), (0, (4, 0)), (1, (0, r7)), (2, (0, r8)), (3, (4, 1)), (4, (0, o4))]) (stN := [(1, k86_2), (1, r8), (1, q2)]) (hsN := [jzQ_16, jgh, (8, [(4, 13), (4, 14)], []), jgh, jgh, jgh, jgh, jgh, jgh, (101, [], [0, r7, r8, 0, 0, 0]), (101, [], [k86_0, k86_1, k86_2, k86_3, k86_4, k86_5]), jgh, jgh, jgh, jgh]) rfl rfl rfl ?_
  refine jT_xlmul (x := r8) (y := k86_2) (z := r8 * k86_2) (pcN := 94) jIQ_161_93 rfl rfl rfl ?_
  have hb_q3 := jmul_bs (x := r8) (y := k86_2) (m := 10) (n := 232) (by omega) (by omega) (by omega) (by omega)
  have hb_q3 : (-2320) ≤ r8 * k86_2 ∧ r8 * k86_2 ≤ 2320 := ⟨by omega, by omega⟩
  generalize hq_q3 : r8 * k86_2 = q3 at hb_q3 g_1 g_2 ⊢
  refine jT_xladd (x := q2) (y := q3) (z := q2 + q3) (pcN := 95) jIQ_161_94 rfl (rfl) rfl ?_
  refine jT_xlload (v := (1, q1)) (pcN := 97) jIQ_161_95 rfl rfl rfl ?_
  refine jT_xiload (v := (0, o4)) (pcN := 99) jIQ_161_97 rfl rfl rfl ?_
  refine jT_xi2l (x := o4) (z := o4) (pcN := 100) jIQ_161_99 rfl (jw_idd (by omega) (by omega)) rfl ?_
  refine jT_xlmul (x := q1) (y := o4) (z := q1 * o4) (pcN := 101) jIQ_161_100 rfl rfl rfl ?_
  have hb_q4 := jmul_bs (x := q1) (y := o4) (m := 60) (n := 100) (by omega) (by omega) (by omega) (by omega)
  have hb_q4 : (-6000) ≤ q1 * o4 ∧ q1 * o4 ≤ 6000 := ⟨by omega, by omega⟩
  generalize hq_q4 : q1 * o4 = q4 at hb_q4 g_1 g_2 ⊢
  refine jT_lcmp (a := q2 + q3) (b := q4) (z := (-1)) (by rfl) (by rfl) (jwl_idd (by omega) (by omega)) (jwl_idd (by omega) (by omega)) (by rw [decide_eq_false (show ¬ ((q4 : Int) < q2 + q3) by omega), decide_eq_false (show ¬ ((q2 + q3 : Int) = q4) by omega)]; rfl) ?_
  refine jT_xifF (t := 107) (pcN := 105) jIQ_161_102 rfl (by decide +kernel) rfl rfl ?_
  refine jT_xiconst (k := 0) (pcN := 106) jIQ_161_105 rfl ?_
  subst hq_q4
  subst hq_q3
  subst hq_q2
  subst hq_q1
  exact jT_ret rfl (by decide) (by show 15 ≤ 15; omega) (by omega) (by omega) ⟨rfl, rfl, rfl⟩
theorem jQ_161_222 {xs : List Int} {d : Nat} {k86_0 k86_1 k86_2 k86_3 k86_4 k86_5 o4 r7 r8 u85_0 u85_1 u85_2 u85_3 u85_4 u85_5 : Int} (h_k86_0 : 1 ≤ k86_0 ∧ k86_0 ≤ 100) (h_k86_1 : 2 ≤ k86_1 ∧ k86_1 ≤ 158) (h_k86_2 : 2 ≤ k86_2 ∧ k86_2 ≤ 232) (h_k86_3 : 3 ≤ k86_3 ∧ k86_3 ≤ 281) (h_k86_4 : 3 ≤ k86_4 ∧ k86_4 ≤ 346) (h_k86_5 : 4 ≤ k86_5 ∧ k86_5 ≤ 370) (h_o4 : 1 ≤ o4 ∧ o4 ≤ 100) (h_r7 : (-20) ≤ r7 ∧ r7 ≤ 20) (h_r8 : (-10) ≤ r8 ∧ r8 ≤ 10) (g_0 : 0 < r7) (g_1 : -(((108917793695 * r7 + 159561683699 * r8) / 68719476736) * o4) + (r7 * k86_1) + (r8 * k86_2) - 1 < 0) (g_2 : 0 ≤ -(((108917793695 * r7 + 159561683699 * r8) / 68719476736) * o4) + (r7 * k86_1) + (r8 * k86_2)) : jT xs (d + 2) 161 16 0 [(0, (4, 0)), (1, (0, r7)), (2, (0, r8)), (3, (4, 1)), (4, (0, o4))] [] [jzQ_16, (4, [(4, 13), (1, 1)], []), (8, [(4, 14), (4, 15)], []), jgh, jgh, jgh, jgh, jgh, jgh, (101, [], [u85_0, u85_1, u85_2, u85_3, u85_4, u85_5]), (101, [], [k86_0, k86_1, k86_2, k86_3, k86_4, k86_5]), jgh, jgh, (101, [], [0, 0, 0, 0, 0, 0]), jgh, jgh] 0 0 (fun k v hsN => k = 0 ∧ v = (0, 0) ∧ hsN = [jzQ_16, (4, [(4, 13), (1, 1)], []), (8, [(4, 14), (4, 15)], []), jgh, jgh, jgh, jgh, jgh, jgh, (101, [], [(108917793695 * r7 + 159561683699 * r8) / 68719476736, -r7, -r8, 0, 0, 0]), (101, [], [k86_0, k86_1, k86_2, k86_3, k86_4, k86_5]), jgh, jgh, (101, [], [0, 0, 0, 0, 0, 0]), jgh, jgh]) := by
  refine jT_xiload_n (v := (0, r7)) (pcN := 1) jIQ_161_0 rfl rfl rfl ?_
  refine jT_ifT (a := r7) (t := 10) (by rfl) (by rfl) (by rfl) (jw_idd (by omega) (by omega)) (by simp only [jcP] <;> omega) ?_
  refine jT_xiconst (k := 0) (pcN := 11) jIQ_161_10 rfl ?_
  refine jT_xistore (v := (0, 0)) (LN := [(5, (0, 0)), (0, (4, 0)), (1, (0, r7)), (2, (0, r8)), (3, (4, 1)), (4, (0, o4))]) (pcN := 13) jIQ_161_11 rfl rfl rfl rfl ?_
  refine jT_xiload (v := (0, 0)) (pcN := 15) jIQ_161_13 rfl rfl rfl ?_
  refine jT_xbipush (k := 6) (pcN := 17) jIQ_161_15 (by decide) rfl ?_
  refine jT_xicF (t := 56) (pcN := 20) jIQ_161_17 rfl (by decide +kernel) rfl rfl ?_
  refine jT_xaload_n (v := (4, 0)) (pcN := 21) jIQ_161_20 rfl rfl rfl ?_
  refine jT_xgetf (a := 0) (t := 1) (ci := 13) (fi := 7) (c := jzQ_16) (v := (4, 9)) (pcN := 24) jIQ_161_21 rfl rfl rfl rfl rfl rfl rfl ?_
  refine jT_xiload (v := (0, 0)) (pcN := 26) jIQ_161_24 rfl rfl rfl ?_
  refine jT_xiload (v := (0, 0)) (pcN := 28) jIQ_161_26 rfl rfl rfl ?_
  refine jT_xiconst (k := 1) (pcN := 29) jIQ_161_28 rfl ?_
  refine jT_xicT (pcN := 37) jIQ_161_29 rfl (by decide +kernel) rfl ?_
  refine jT_xiload (v := (0, 0)) (pcN := 39) jIQ_161_37 rfl rfl rfl ?_
  refine jT_xiconst (k := 2) (pcN := 40) jIQ_161_39 rfl ?_
  refine jT_xicT (pcN := 48) jIQ_161_40 rfl (by decide +kernel) rfl ?_
  refine jT_xlconst (z := 0) (pcN := 49) jIQ_161_48 rfl rfl ?_
  refine jT_adv 1 (pcN := 50) (LN := [(5, (0, 0)), (0, (4, 0)), (1, (0, r7)), (2, (0, r8)), (3, (4, 1)), (4, (0, o4))]) (stN := []) (hsN := [jzQ_16, (4, [(4, 13), (1, 1)], []), (8, [(4, 14), (4, 15)], []), jgh, jgh, jgh, jgh, jgh, jgh, (101, [], [0, u85_1, u85_2, u85_3, u85_4, u85_5]), (101, [], [k86_0, k86_1, k86_2, k86_3, k86_4, k86_5]), jgh, jgh, (101, [], [0, 0, 0, 0, 0, 0]), jgh, jgh]) (c1 := 0) (s1 := 0) (c2 := 0) (s2 := 0) (by exact rfl) ?_ (by omega) (by omega)
  refine jT_xiinc (x := 0) (z := 1) (LN := [(5, (0, 1)), (0, (4, 0)), (1, (0, r7)), (2, (0, r8)), (3, (4, 1)), (4, (0, o4))]) (pcN := 53) jIQ_161_50 rfl rfl (by decide) rfl rfl ?_
  refine jT_xgoto (pcN := 13) jIQ_161_53 rfl ?_
  refine jT_xiload (v := (0, 1)) (pcN := 15) jIQ_161_13 rfl rfl rfl ?_
  refine jT_xbipush (k := 6) (pcN := 17) jIQ_161_15 (by decide) rfl ?_
  refine jT_xicF (t := 56) (pcN := 20) jIQ_161_17 rfl (by decide +kernel) rfl rfl ?_
  refine jT_xaload_n (v := (4, 0)) (pcN := 21) jIQ_161_20 rfl rfl rfl ?_
  refine jT_xgetf (a := 0) (t := 1) (ci := 13) (fi := 7) (c := jzQ_16) (v := (4, 9)) (pcN := 24) jIQ_161_21 rfl rfl rfl rfl rfl rfl rfl ?_
  refine jT_xiload (v := (0, 1)) (pcN := 26) jIQ_161_24 rfl rfl rfl ?_
  refine jT_xiload (v := (0, 1)) (pcN := 28) jIQ_161_26 rfl rfl rfl ?_
  refine jT_xiconst (k := 1) (pcN := 29) jIQ_161_28 rfl ?_
  refine jT_xicF (t := 37) (pcN := 32) jIQ_161_29 rfl (by decide +kernel) rfl rfl ?_
  refine jT_xiload_n (v := (0, r7)) (pcN := 33) jIQ_161_32 rfl rfl rfl ?_
  refine jT_xi2l (x := r7) (z := r7) (pcN := 34) jIQ_161_33 rfl (jw_idd (by omega) (by omega)) rfl ?_
  refine jT_xgoto (pcN := 49) jIQ_161_34 rfl ?_
  refine jT_adv 1 (pcN := 50) (LN := [(5, (0, 1)), (0, (4, 0)), (1, (0, r7)), (2, (0, r8)), (3, (4, 1)), (4, (0, o4))]) (stN := []) (hsN := [jzQ_16, (4, [(4, 13), (1, 1)], []), (8, [(4, 14), (4, 15)], []), jgh, jgh, jgh, jgh, jgh, jgh, (101, [], [0, r7, u85_2, u85_3, u85_4, u85_5]), (101, [], [k86_0, k86_1, k86_2, k86_3, k86_4, k86_5]), jgh, jgh, (101, [], [0, 0, 0, 0, 0, 0]), jgh, jgh]) (c1 := 0) (s1 := 0) (c2 := 0) (s2 := 0) (by exact rfl) ?_ (by omega) (by omega)
  refine jT_xiinc (x := 1) (z := 2) (LN := [(5, (0, 2)), (0, (4, 0)), (1, (0, r7)), (2, (0, r8)), (3, (4, 1)), (4, (0, o4))]) (pcN := 53) jIQ_161_50 rfl rfl (by decide) rfl rfl ?_
  refine jT_xgoto (pcN := 13) jIQ_161_53 rfl ?_
  refine jT_xiload (v := (0, 2)) (pcN := 15) jIQ_161_13 rfl rfl rfl ?_
  refine jT_xbipush (k := 6) (pcN := 17) jIQ_161_15 (by decide) rfl ?_
  refine jT_xicF (t := 56) (pcN := 20) jIQ_161_17 rfl (by decide +kernel) rfl rfl ?_
  refine jT_xaload_n (v := (4, 0)) (pcN := 21) jIQ_161_20 rfl rfl rfl ?_
  refine jT_xgetf (a := 0) (t := 1) (ci := 13) (fi := 7) (c := jzQ_16) (v := (4, 9)) (pcN := 24) jIQ_161_21 rfl rfl rfl rfl rfl rfl rfl ?_
  refine jT_xiload (v := (0, 2)) (pcN := 26) jIQ_161_24 rfl rfl rfl ?_
  refine jT_xiload (v := (0, 2)) (pcN := 28) jIQ_161_26 rfl rfl rfl ?_
  refine jT_xiconst (k := 1) (pcN := 29) jIQ_161_28 rfl ?_
  refine jT_xicT (pcN := 37) jIQ_161_29 rfl (by decide +kernel) rfl ?_
  refine jT_xiload (v := (0, 2)) (pcN := 39) jIQ_161_37 rfl rfl rfl ?_
  refine jT_xiconst (k := 2) (pcN := 40) jIQ_161_39 rfl ?_
  refine jT_xicF (t := 48) (pcN := 43) jIQ_161_40 rfl (by decide +kernel) rfl rfl ?_
  refine jT_xiload_n (v := (0, r8)) (pcN := 44) jIQ_161_43 rfl rfl rfl ?_
  refine jT_xi2l (x := r8) (z := r8) (pcN := 45) jIQ_161_44 rfl (jw_idd (by omega) (by omega)) rfl ?_
  refine jT_xgoto (pcN := 49) jIQ_161_45 rfl ?_
  refine jT_adv 1 (pcN := 50) (LN := [(5, (0, 2)), (0, (4, 0)), (1, (0, r7)), (2, (0, r8)), (3, (4, 1)), (4, (0, o4))]) (stN := []) (hsN := [jzQ_16, (4, [(4, 13), (1, 1)], []), (8, [(4, 14), (4, 15)], []), jgh, jgh, jgh, jgh, jgh, jgh, (101, [], [0, r7, r8, u85_3, u85_4, u85_5]), (101, [], [k86_0, k86_1, k86_2, k86_3, k86_4, k86_5]), jgh, jgh, (101, [], [0, 0, 0, 0, 0, 0]), jgh, jgh]) (c1 := 0) (s1 := 0) (c2 := 0) (s2 := 0) (by exact rfl) ?_ (by omega) (by omega)
  refine jT_xiinc (x := 2) (z := 3) (LN := [(5, (0, 3)), (0, (4, 0)), (1, (0, r7)), (2, (0, r8)), (3, (4, 1)), (4, (0, o4))]) (pcN := 53) jIQ_161_50 rfl rfl (by decide) rfl rfl ?_
  refine jT_xgoto (pcN := 13) jIQ_161_53 rfl ?_
  refine jT_xiload (v := (0, 3)) (pcN := 15) jIQ_161_13 rfl rfl rfl ?_
  refine jT_xbipush (k := 6) (pcN := 17) jIQ_161_15 (by decide) rfl ?_
  refine jT_xicF (t := 56) (pcN := 20) jIQ_161_17 rfl (by decide +kernel) rfl rfl ?_
  refine jT_xaload_n (v := (4, 0)) (pcN := 21) jIQ_161_20 rfl rfl rfl ?_
  refine jT_xgetf (a := 0) (t := 1) (ci := 13) (fi := 7) (c := jzQ_16) (v := (4, 9)) (pcN := 24) jIQ_161_21 rfl rfl rfl rfl rfl rfl rfl ?_
  refine jT_xiload (v := (0, 3)) (pcN := 26) jIQ_161_24 rfl rfl rfl ?_
  refine jT_xiload (v := (0, 3)) (pcN := 28) jIQ_161_26 rfl rfl rfl ?_
  refine jT_xiconst (k := 1) (pcN := 29) jIQ_161_28 rfl ?_
  refine jT_xicT (pcN := 37) jIQ_161_29 rfl (by decide +kernel) rfl ?_
  refine jT_xiload (v := (0, 3)) (pcN := 39) jIQ_161_37 rfl rfl rfl ?_
  refine jT_xiconst (k := 2) (pcN := 40) jIQ_161_39 rfl ?_
  refine jT_xicT (pcN := 48) jIQ_161_40 rfl (by decide +kernel) rfl ?_
  refine jT_xlconst (z := 0) (pcN := 49) jIQ_161_48 rfl rfl ?_
  refine jT_adv 1 (pcN := 50) (LN := [(5, (0, 3)), (0, (4, 0)), (1, (0, r7)), (2, (0, r8)), (3, (4, 1)), (4, (0, o4))]) (stN := []) (hsN := [jzQ_16, (4, [(4, 13), (1, 1)], []), (8, [(4, 14), (4, 15)], []), jgh, jgh, jgh, jgh, jgh, jgh, (101, [], [0, r7, r8, 0, u85_4, u85_5]), (101, [], [k86_0, k86_1, k86_2, k86_3, k86_4, k86_5]), jgh, jgh, (101, [], [0, 0, 0, 0, 0, 0]), jgh, jgh]) (c1 := 0) (s1 := 0) (c2 := 0) (s2 := 0) (by exact rfl) ?_ (by omega) (by omega)
  refine jT_xiinc (x := 3) (z := 4) (LN := [(5, (0, 4)), (0, (4, 0)), (1, (0, r7)), (2, (0, r8)), (3, (4, 1)), (4, (0, o4))]) (pcN := 53) jIQ_161_50 rfl rfl (by decide) rfl rfl ?_
  refine jT_xgoto (pcN := 13) jIQ_161_53 rfl ?_
  refine jT_xiload (v := (0, 4)) (pcN := 15) jIQ_161_13 rfl rfl rfl ?_
  refine jT_xbipush (k := 6) (pcN := 17) jIQ_161_15 (by decide) rfl ?_
  refine jT_xicF (t := 56) (pcN := 20) jIQ_161_17 rfl (by decide +kernel) rfl rfl ?_
  refine jT_xaload_n (v := (4, 0)) (pcN := 21) jIQ_161_20 rfl rfl rfl ?_
  refine jT_xgetf (a := 0) (t := 1) (ci := 13) (fi := 7) (c := jzQ_16) (v := (4, 9)) (pcN := 24) jIQ_161_21 rfl rfl rfl rfl rfl rfl rfl ?_
  refine jT_xiload (v := (0, 4)) (pcN := 26) jIQ_161_24 rfl rfl rfl ?_
  refine jT_xiload (v := (0, 4)) (pcN := 28) jIQ_161_26 rfl rfl rfl ?_
  refine jT_xiconst (k := 1) (pcN := 29) jIQ_161_28 rfl ?_
  refine jT_xicT (pcN := 37) jIQ_161_29 rfl (by decide +kernel) rfl ?_
  refine jT_xiload (v := (0, 4)) (pcN := 39) jIQ_161_37 rfl rfl rfl ?_
  refine jT_xiconst (k := 2) (pcN := 40) jIQ_161_39 rfl ?_
  refine jT_xicT (pcN := 48) jIQ_161_40 rfl (by decide +kernel) rfl ?_
  refine jT_xlconst (z := 0) (pcN := 49) jIQ_161_48 rfl rfl ?_
  refine jT_adv 1 (pcN := 50) (LN := [(5, (0, 4)), (0, (4, 0)), (1, (0, r7)), (2, (0, r8)), (3, (4, 1)), (4, (0, o4))]) (stN := []) (hsN := [jzQ_16, (4, [(4, 13), (1, 1)], []), (8, [(4, 14), (4, 15)], []), jgh, jgh, jgh, jgh, jgh, jgh, (101, [], [0, r7, r8, 0, 0, u85_5]), (101, [], [k86_0, k86_1, k86_2, k86_3, k86_4, k86_5]), jgh, jgh, (101, [], [0, 0, 0, 0, 0, 0]), jgh, jgh]) (c1 := 0) (s1 := 0) (c2 := 0) (s2 := 0) (by exact rfl) ?_ (by omega) (by omega)
  refine jT_xiinc (x := 4) (z := 5) (LN := [(5, (0, 5)), (0, (4, 0)), (1, (0, r7)), (2, (0, r8)), (3, (4, 1)), (4, (0, o4))]) (pcN := 53) jIQ_161_50 rfl rfl (by decide) rfl rfl ?_
  refine jT_xgoto (pcN := 13) jIQ_161_53 rfl ?_
  refine jT_xiload (v := (0, 5)) (pcN := 15) jIQ_161_13 rfl rfl rfl ?_
  refine jT_xbipush (k := 6) (pcN := 17) jIQ_161_15 (by decide) rfl ?_
  refine jT_xicF (t := 56) (pcN := 20) jIQ_161_17 rfl (by decide +kernel) rfl rfl ?_
  refine jT_xaload_n (v := (4, 0)) (pcN := 21) jIQ_161_20 rfl rfl rfl ?_
  refine jT_xgetf (a := 0) (t := 1) (ci := 13) (fi := 7) (c := jzQ_16) (v := (4, 9)) (pcN := 24) jIQ_161_21 rfl rfl rfl rfl rfl rfl rfl ?_
  refine jT_xiload (v := (0, 5)) (pcN := 26) jIQ_161_24 rfl rfl rfl ?_
  refine jT_xiload (v := (0, 5)) (pcN := 28) jIQ_161_26 rfl rfl rfl ?_
  refine jT_xiconst (k := 1) (pcN := 29) jIQ_161_28 rfl ?_
  refine jT_xicT (pcN := 37) jIQ_161_29 rfl (by decide +kernel) rfl ?_
  refine jT_xiload (v := (0, 5)) (pcN := 39) jIQ_161_37 rfl rfl rfl ?_
  refine jT_xiconst (k := 2) (pcN := 40) jIQ_161_39 rfl ?_
  refine jT_xicT (pcN := 48) jIQ_161_40 rfl (by decide +kernel) rfl ?_
  refine jT_xlconst (z := 0) (pcN := 49) jIQ_161_48 rfl rfl ?_
  refine jT_adv 1 (pcN := 50) (LN := [(5, (0, 5)), (0, (4, 0)), (1, (0, r7)), (2, (0, r8)), (3, (4, 1)), (4, (0, o4))]) (stN := []) (hsN := [jzQ_16, (4, [(4, 13), (1, 1)], []), (8, [(4, 14), (4, 15)], []), jgh, jgh, jgh, jgh, jgh, jgh, (101, [], [0, r7, r8, 0, 0, 0]), (101, [], [k86_0, k86_1, k86_2, k86_3, k86_4, k86_5]), jgh, jgh, (101, [], [0, 0, 0, 0, 0, 0]), jgh, jgh]) (c1 := 0) (s1 := 0) (c2 := 0) (s2 := 0) (by exact rfl) ?_ (by omega) (by omega)
  refine jT_xiinc (x := 5) (z := 6) (LN := [(5, (0, 6)), (0, (4, 0)), (1, (0, r7)), (2, (0, r8)), (3, (4, 1)), (4, (0, o4))]) (pcN := 53) jIQ_161_50 rfl rfl (by decide) rfl rfl ?_
  refine jT_xgoto (pcN := 13) jIQ_161_53 rfl ?_
  refine jT_xiload (v := (0, 6)) (pcN := 15) jIQ_161_13 rfl rfl rfl ?_
  refine jT_xbipush (k := 6) (pcN := 17) jIQ_161_15 (by decide) rfl ?_
  refine jT_xicT (pcN := 56) jIQ_161_17 rfl (by decide +kernel) rfl ?_
  refine jT_xaload_n (v := (4, 0)) (pcN := 57) jIQ_161_56 rfl rfl rfl ?_
  refine jT_xgetf (a := 0) (t := 1) (ci := 13) (fi := 0) (c := jzQ_16) (v := (4, 2)) (pcN := 60) jIQ_161_57 rfl rfl rfl rfl rfl rfl rfl ?_
  refine jT_xaload_n (v := (4, 0)) (pcN := 61) jIQ_161_60 rfl rfl rfl ?_
  refine jT_xgetf (a := 0) (t := 1) (ci := 13) (fi := 7) (c := jzQ_16) (v := (4, 9)) (pcN := 64) jIQ_161_61 rfl rfl rfl rfl rfl rfl rfl ?_
  refine jT_xlconst (z := 1) (pcN := 65) jIQ_161_64 rfl rfl ?_
  refine jT_xlconst (z := 1) (pcN := 66) jIQ_161_65 rfl rfl ?_
  refine jT_callA [2, 9, 14, 15] (y := 45) (pcN := 69) (dC := 1) (bc1 := 0) (bc2 := 0) (c1 := 0) (c2 := 0) (as := [(4, 2), (4, 9), (1, 1), (1, 1)]) (asC := [(4, 0), (4, 1), (1, 1), (1, 1)]) (LN := [(5, (0, 6)), (0, (4, 0)), (1, (0, r7)), (2, (0, r8)), (3, (4, 1)), (4, (0, o4))]) (stN := []) (hsC := [(8, [(4, 2), (4, 3)], []), (101, [], [0, r7, r8, 0, 0, 0]), jgh, jgh]) (ex := []) (v := (1, (108917793695 * r7 + 159561683699 * r8) / 68719476736)) (st2 := [(1, (108917793695 * r7 + 159561683699 * r8) / 68719476736)]) (hs2 := [jzQ_16, (4, [(4, 13), (1, 1)], []), (8, [(4, 14), (4, 15)], []), jgh, jgh, jgh, jgh, jgh, jgh, (101, [], [0, r7, r8, 0, 0, 0]), (101, [], [k86_0, k86_1, k86_2, k86_3, k86_4, k86_5]), jgh, jgh, (101, [], [0, 0, 0, 0, 0, 0]), jgh, jgh]) (jQl_sp45_116 (d := 0) (by omega) (by omega)) (by rfl) (by rfl) (by rfl) (by rfl) ⟨rfl, rfl, rfl, rfl, trivial⟩ (by rfl) (by rfl) (by omega) (by show 16 ≤ 16; omega) (by omega) (by omega) rfl rfl ?_
  have hb_q1 : (-60) ≤ (108917793695 * r7 + 159561683699 * r8) / 68719476736 ∧ (108917793695 * r7 + 159561683699 * r8) / 68719476736 ≤ 60 := ⟨by omega, by omega⟩
  generalize hq_q1 : (108917793695 * r7 + 159561683699 * r8) / 68719476736 = q1 at hb_q1 g_1 g_2 ⊢
  refine jT_xlstore (v := (1, q1)) (LN := [(5, (1, q1)), (0, (4, 0)), (1, (0, r7)), (2, (0, r8)), (3, (4, 1)), (4, (0, o4))]) (pcN := 71) jIQ_161_69 rfl rfl rfl rfl ?_
  have g_3 : 0 ≤ (-68719476736) * q1 + 108917793694 * r7 + 159561683698 * r8 - 1 := by have := jcg (b := r7) (c := r8) (by omega) (by omega) (by omega); rw [hq_q1] at this; omega
  have g_4 : 0 ≤ (-68719476736) * q1 + 108917793694 * r7 + 159561683700 * r8 - 1 := by have := jcg (b := r7) (c := r8) (by omega) (by omega) (by omega); rw [hq_q1] at this; omega
  have g_5 : 0 ≤ (-68719476736) * q1 + 108917793696 * r7 + 159561683698 * r8 - 1 := by have := jcg (b := r7) (c := r8) (by omega) (by omega) (by omega); rw [hq_q1] at this; omega
  have g_6 : 0 ≤ (-68719476736) * q1 + 108917793696 * r7 + 159561683700 * r8 - 1 := by have := jcg (b := r7) (c := r8) (by omega) (by omega) (by omega); rw [hq_q1] at this; omega
  refine jT_xiload (v := (0, o4)) (pcN := 73) jIQ_161_71 rfl rfl rfl ?_
  refine jT_ifF (a := o4) (t := 107) (by rfl) (by rfl) (by rfl) (jw_idd (by omega) (by omega)) (by simp only [jcP] <;> omega) ?_
  refine jT_xiload_n (v := (0, r7)) (pcN := 77) jIQ_161_76 rfl rfl rfl ?_
  refine jT_xi2l (x := r7) (z := r7) (pcN := 78) jIQ_161_77 rfl (jw_idd (by omega) (by omega)) rfl ?_
  refine jT_xaload_n (v := (4, 0)) (pcN := 79) jIQ_161_78 rfl rfl rfl ?_
  refine jT_xgetf (a := 0) (t := 1) (ci := 13) (fi := 8) (c := jzQ_16) (v := (4, 10)) (pcN := 82) jIQ_161_79 rfl rfl rfl rfl rfl rfl rfl ?_
  refine jT_xiconst (k := 1) (pcN := 83) jIQ_161_82 rfl ?_
  refine jT_lald (x := k86_1) (a := 10) (j := 1) (fs := []) (X := [k86_0, k86_1, k86_2, k86_3, k86_4, k86_5]) jIQ_161_83 rfl rfl rfl rfl ?_
  refine jT_eq (LN := [(5, (1, q1)), (0, (4, 0)), (1, (0, r7)), (2, (0, r8)), (3, (4, 1)), (4, (0, o4))]) (stN := [(1, k86_1), (1, r7)]) (hsN := [jzQ_16, (4, [(4, 13), (1, 1)], []), (8, [(4, 14), (4, 15)], []), jgh, jgh, jgh, jgh, jgh, jgh, (101, [], [0, r7, r8, 0, 0, 0]), (101, [], [k86_0, k86_1, k86_2, k86_3, k86_4, k86_5]), jgh, jgh, (101, [], [0, 0, 0, 0, 0, 0]), jgh, jgh]) rfl rfl rfl ?_
  refine jT_xlmul (x := r7) (y := k86_1) (z := r7 * k86_1) (pcN := 85) jIQ_161_84 rfl rfl rfl ?_
  have hb_q2 := jmul_b2 (x := r7) (y := k86_1) (k := 1) (l := 2) (m := 20) (n := 158) (by omega) (by omega) (by omega) (by omega) (by omega) (by omega)
  have hb_q2 : 2 ≤ r7 * k86_1 ∧ r7 * k86_1 ≤ 3160 := ⟨by omega, by omega⟩
  generalize hq_q2 : r7 * k86_1 = q2 at hb_q2 g_1 g_2 ⊢
  refine jT_xiload_n (v := (0, r8)) (pcN := 86) jIQ_161_85 rfl rfl rfl ?_
  refine jT_xi2l (x := r8) (z := r8) (pcN := 87) jIQ_161_86 rfl (jw_idd (by omega) (by omega)) rfl ?_
  refine jT_xaload_n (v := (4, 0)) (pcN := 88) jIQ_161_87 rfl rfl rfl ?_
  refine jT_xgetf (a := 0) (t := 1) (ci := 13) (fi := 8) (c := jzQ_16) (v := (4, 10)) (pcN := 91) jIQ_161_88 rfl rfl rfl rfl rfl rfl rfl ?_
  refine jT_xiconst (k := 2) (pcN := 92) jIQ_161_91 rfl ?_
  refine jT_lald (x := k86_2) (a := 10) (j := 2) (fs := []) (X := [k86_0, k86_1, k86_2, k86_3, k86_4, k86_5]) jIQ_161_92 rfl rfl rfl rfl ?_
  refine jT_eq (LN := [(5, (1, q1)), (0, (4, 0)), (1, (0, r7)), (2, (0, r8)), (3, (4, 1)), (4, (0, o4))]) (stN := [(1, k86_2), (1, r8), (1, q2)]) (hsN := [jzQ_16, (4, [(4, 13), (1, 1)], []), (8, [(4, 14), (4, 15)], []), jgh, jgh, jgh, jgh, jgh, jgh, (101, [], [0, r7, r8, 0, 0, 0]), (101, [], [k86_0, k86_1, k86_2, k86_3, k86_4, k86_5]), jgh, jgh, (101, [], [0, 0, 0, 0, 0, 0]), jgh, jgh]) rfl rfl rfl ?_
  refine jT_xlmul (x := r8) (y := k86_2) (z := r8 * k86_2) (pcN := 94) jIQ_161_93 rfl rfl rfl ?_
  have hb_q3 := jmul_bs (x := r8) (y := k86_2) (m := 10) (n := 232) (by omega) (by omega) (by omega) (by omega)
  have hb_q3 : (-2320) ≤ r8 * k86_2 ∧ r8 * k86_2 ≤ 2320 := ⟨by omega, by omega⟩
  generalize hq_q3 : r8 * k86_2 = q3 at hb_q3 g_1 g_2 ⊢
  refine jT_xladd (x := q2) (y := q3) (z := q2 + q3) (pcN := 95) jIQ_161_94 rfl (rfl) rfl ?_
  refine jT_xlload (v := (1, q1)) (pcN := 97) jIQ_161_95 rfl rfl rfl ?_
  refine jT_xiload (v := (0, o4)) (pcN := 99) jIQ_161_97 rfl rfl rfl ?_
  refine jT_xi2l (x := o4) (z := o4) (pcN := 100) jIQ_161_99 rfl (jw_idd (by omega) (by omega)) rfl ?_
  refine jT_xlmul (x := q1) (y := o4) (z := q1 * o4) (pcN := 101) jIQ_161_100 rfl rfl rfl ?_
  have hb_q4 := jmul_bs (x := q1) (y := o4) (m := 60) (n := 100) (by omega) (by omega) (by omega) (by omega)
  have hb_q4 : (-6000) ≤ q1 * o4 ∧ q1 * o4 ≤ 6000 := ⟨by omega, by omega⟩
  generalize hq_q4 : q1 * o4 = q4 at hb_q4 g_1 g_2 ⊢
  refine jT_lcmp (a := q2 + q3) (b := q4) (z := 0) (by rfl) (by rfl) (jwl_idd (by omega) (by omega)) (jwl_idd (by omega) (by omega)) (by rw [decide_eq_false (show ¬ ((q4 : Int) < q2 + q3) by omega), decide_eq_true (show (q2 + q3 : Int) = q4 by omega)]; rfl) ?_
  refine jT_xifT (pcN := 107) jIQ_161_102 rfl (by decide +kernel) rfl ?_
  refine jT_xaload_n (v := (4, 0)) (pcN := 108) jIQ_161_107 rfl rfl rfl ?_
  refine jT_xgetf (a := 0) (t := 1) (ci := 13) (fi := 7) (c := jzQ_16) (v := (4, 9)) (pcN := 111) jIQ_161_108 rfl rfl rfl rfl rfl rfl rfl ?_
  refine jT_xiconst (k := 0) (pcN := 112) jIQ_161_111 rfl ?_
  refine jT_xlload (v := (1, q1)) (pcN := 114) jIQ_161_112 rfl rfl rfl ?_
  refine jT_adv 2 (pcN := 116) (LN := [(5, (1, q1)), (0, (4, 0)), (1, (0, r7)), (2, (0, r8)), (3, (4, 1)), (4, (0, o4))]) (stN := []) (hsN := [jzQ_16, (4, [(4, 13), (1, 1)], []), (8, [(4, 14), (4, 15)], []), jgh, jgh, jgh, jgh, jgh, jgh, (101, [], [-q1, r7, r8, 0, 0, 0]), (101, [], [k86_0, k86_1, k86_2, k86_3, k86_4, k86_5]), jgh, jgh, (101, [], [0, 0, 0, 0, 0, 0]), jgh, jgh]) (c1 := 0) (s1 := 0) (c2 := 0) (s2 := 0) (by exact rfl) ?_ (by omega) (by omega)
  refine jT_xiconst (k := 0) (pcN := 117) jIQ_161_116 rfl ?_
  refine jT_xistore (v := (0, 0)) (LN := [(7, (0, 0)), (5, (1, q1)), (0, (4, 0)), (1, (0, r7)), (2, (0, r8)), (3, (4, 1)), (4, (0, o4))]) (pcN := 119) jIQ_161_117 rfl rfl rfl rfl ?_
  refine jT_xiload (v := (0, 0)) (pcN := 121) jIQ_161_119 rfl rfl rfl ?_
  refine jT_xbipush (k := 6) (pcN := 123) jIQ_161_121 (by decide) rfl ?_
  refine jT_xicF (t := 159) (pcN := 126) jIQ_161_123 rfl (by decide +kernel) rfl rfl ?_
  refine jT_xaload_n (v := (4, 0)) (pcN := 127) jIQ_161_126 rfl rfl rfl ?_
  refine jT_xgetf (a := 0) (t := 1) (ci := 13) (fi := 7) (c := jzQ_16) (v := (4, 9)) (pcN := 130) jIQ_161_127 rfl rfl rfl rfl rfl rfl rfl ?_
  refine jT_xiload (v := (0, 0)) (pcN := 132) jIQ_161_130 rfl rfl rfl ?_
  refine jT_xaload_n (v := (4, 1)) (pcN := 133) jIQ_161_132 rfl rfl rfl ?_
  refine jT_xgetf (a := 1) (t := 2) (ci := 4) (fi := 0) (c := (4, [(4, 13), (1, 1)], [])) (v := (4, 13)) (pcN := 136) jIQ_161_133 rfl rfl rfl rfl rfl rfl rfl ?_
  refine jT_xiload (v := (0, 0)) (pcN := 138) jIQ_161_136 rfl rfl rfl ?_
  refine jT_lald (x := 0) (a := 13) (j := 0) (fs := []) (X := [0, 0, 0, 0, 0, 0]) jIQ_161_138 rfl rfl rfl rfl ?_
  refine jT_eq (LN := [(7, (0, 0)), (5, (1, q1)), (0, (4, 0)), (1, (0, r7)), (2, (0, r8)), (3, (4, 1)), (4, (0, o4))]) (stN := [(1, 0), (0, 0), (4, 9)]) (hsN := [jzQ_16, (4, [(4, 13), (1, 1)], []), (8, [(4, 14), (4, 15)], []), jgh, jgh, jgh, jgh, jgh, jgh, (101, [], [-q1, r7, r8, 0, 0, 0]), (101, [], [k86_0, k86_1, k86_2, k86_3, k86_4, k86_5]), jgh, jgh, (101, [], [0, 0, 0, 0, 0, 0]), jgh, jgh]) rfl rfl rfl ?_
  refine jT_xaload_n (v := (4, 0)) (pcN := 140) jIQ_161_139 rfl rfl rfl ?_
  refine jT_xgetf (a := 0) (t := 1) (ci := 13) (fi := 7) (c := jzQ_16) (v := (4, 9)) (pcN := 143) jIQ_161_140 rfl rfl rfl rfl rfl rfl rfl ?_
  refine jT_xiload (v := (0, 0)) (pcN := 145) jIQ_161_143 rfl rfl rfl ?_
  refine jT_lald (x := -q1) (a := 9) (j := 0) (fs := []) (X := [-q1, r7, r8, 0, 0, 0]) jIQ_161_145 rfl rfl rfl rfl ?_
  refine jT_eq (LN := [(7, (0, 0)), (5, (1, q1)), (0, (4, 0)), (1, (0, r7)), (2, (0, r8)), (3, (4, 1)), (4, (0, o4))]) (stN := [(1, -q1), (1, 0), (0, 0), (4, 9)]) (hsN := [jzQ_16, (4, [(4, 13), (1, 1)], []), (8, [(4, 14), (4, 15)], []), jgh, jgh, jgh, jgh, jgh, jgh, (101, [], [-q1, r7, r8, 0, 0, 0]), (101, [], [k86_0, k86_1, k86_2, k86_3, k86_4, k86_5]), jgh, jgh, (101, [], [0, 0, 0, 0, 0, 0]), jgh, jgh]) rfl rfl rfl ?_
  refine jT_xaload_n (v := (4, 1)) (pcN := 147) jIQ_161_146 rfl rfl rfl ?_
  refine jT_xgetf (a := 1) (t := 2) (ci := 4) (fi := 1) (c := (4, [(4, 13), (1, 1)], [])) (v := (1, 1)) (pcN := 150) jIQ_161_147 rfl rfl rfl rfl rfl rfl rfl ?_
  refine jT_xlmul (x := -q1) (y := 1) (z := -q1) (pcN := 151) jIQ_161_150 rfl (by omega) rfl ?_
  refine jT_xlsub (x := 0) (y := -q1) (z := q1) (pcN := 152) jIQ_161_151 rfl (by omega) rfl ?_
  refine jT_adv 1 (pcN := 153) (LN := [(7, (0, 0)), (5, (1, q1)), (0, (4, 0)), (1, (0, r7)), (2, (0, r8)), (3, (4, 1)), (4, (0, o4))]) (stN := []) (hsN := [jzQ_16, (4, [(4, 13), (1, 1)], []), (8, [(4, 14), (4, 15)], []), jgh, jgh, jgh, jgh, jgh, jgh, (101, [], [q1, r7, r8, 0, 0, 0]), (101, [], [k86_0, k86_1, k86_2, k86_3, k86_4, k86_5]), jgh, jgh, (101, [], [0, 0, 0, 0, 0, 0]), jgh, jgh]) (c1 := 0) (s1 := 0) (c2 := 0) (s2 := 0) (by exact rfl) ?_ (by omega) (by omega)
  refine jT_xiinc (x := 0) (z := 1) (LN := [(7, (0, 1)), (5, (1, q1)), (0, (4, 0)), (1, (0, r7)), (2, (0, r8)), (3, (4, 1)), (4, (0, o4))]) (pcN := 156) jIQ_161_153 rfl rfl (by decide) rfl rfl ?_
  refine jT_xgoto (pcN := 119) jIQ_161_156 rfl ?_
  refine jT_xiload (v := (0, 1)) (pcN := 121) jIQ_161_119 rfl rfl rfl ?_
  refine jT_xbipush (k := 6) (pcN := 123) jIQ_161_121 (by decide) rfl ?_
  refine jT_xicF (t := 159) (pcN := 126) jIQ_161_123 rfl (by decide +kernel) rfl rfl ?_
  refine jT_xaload_n (v := (4, 0)) (pcN := 127) jIQ_161_126 rfl rfl rfl ?_
  refine jT_xgetf (a := 0) (t := 1) (ci := 13) (fi := 7) (c := jzQ_16) (v := (4, 9)) (pcN := 130) jIQ_161_127 rfl rfl rfl rfl rfl rfl rfl ?_
  refine jT_xiload (v := (0, 1)) (pcN := 132) jIQ_161_130 rfl rfl rfl ?_
  refine jT_xaload_n (v := (4, 1)) (pcN := 133) jIQ_161_132 rfl rfl rfl ?_
  refine jT_xgetf (a := 1) (t := 2) (ci := 4) (fi := 0) (c := (4, [(4, 13), (1, 1)], [])) (v := (4, 13)) (pcN := 136) jIQ_161_133 rfl rfl rfl rfl rfl rfl rfl ?_
  refine jT_xiload (v := (0, 1)) (pcN := 138) jIQ_161_136 rfl rfl rfl ?_
  refine jT_lald (x := 0) (a := 13) (j := 1) (fs := []) (X := [0, 0, 0, 0, 0, 0]) jIQ_161_138 rfl rfl rfl rfl ?_
  refine jT_eq (LN := [(7, (0, 1)), (5, (1, q1)), (0, (4, 0)), (1, (0, r7)), (2, (0, r8)), (3, (4, 1)), (4, (0, o4))]) (stN := [(1, 0), (0, 1), (4, 9)]) (hsN := [jzQ_16, (4, [(4, 13), (1, 1)], []), (8, [(4, 14), (4, 15)], []), jgh, jgh, jgh, jgh, jgh, jgh, (101, [], [q1, r7, r8, 0, 0, 0]), (101, [], [k86_0, k86_1, k86_2, k86_3, k86_4, k86_5]), jgh, jgh, (101, [], [0, 0, 0, 0, 0, 0]), jgh, jgh]) rfl rfl rfl ?_
  refine jT_xaload_n (v := (4, 0)) (pcN := 140) jIQ_161_139 rfl rfl rfl ?_
  refine jT_xgetf (a := 0) (t := 1) (ci := 13) (fi := 7) (c := jzQ_16) (v := (4, 9)) (pcN := 143) jIQ_161_140 rfl rfl rfl rfl rfl rfl rfl ?_
  refine jT_xiload (v := (0, 1)) (pcN := 145) jIQ_161_143 rfl rfl rfl ?_
  refine jT_lald (x := r7) (a := 9) (j := 1) (fs := []) (X := [q1, r7, r8, 0, 0, 0]) jIQ_161_145 rfl rfl rfl rfl ?_
  refine jT_eq (LN := [(7, (0, 1)), (5, (1, q1)), (0, (4, 0)), (1, (0, r7)), (2, (0, r8)), (3, (4, 1)), (4, (0, o4))]) (stN := [(1, r7), (1, 0), (0, 1), (4, 9)]) (hsN := [jzQ_16, (4, [(4, 13), (1, 1)], []), (8, [(4, 14), (4, 15)], []), jgh, jgh, jgh, jgh, jgh, jgh, (101, [], [q1, r7, r8, 0, 0, 0]), (101, [], [k86_0, k86_1, k86_2, k86_3, k86_4, k86_5]), jgh, jgh, (101, [], [0, 0, 0, 0, 0, 0]), jgh, jgh]) rfl rfl rfl ?_
  refine jT_xaload_n (v := (4, 1)) (pcN := 147) jIQ_161_146 rfl rfl rfl ?_
  refine jT_xgetf (a := 1) (t := 2) (ci := 4) (fi := 1) (c := (4, [(4, 13), (1, 1)], [])) (v := (1, 1)) (pcN := 150) jIQ_161_147 rfl rfl rfl rfl rfl rfl rfl ?_
  refine jT_xlmul (x := r7) (y := 1) (z := r7) (pcN := 151) jIQ_161_150 rfl (by omega) rfl ?_
  refine jT_xlsub (x := 0) (y := r7) (z := -r7) (pcN := 152) jIQ_161_151 rfl (by omega) rfl ?_
  refine jT_adv 1 (pcN := 153) (LN := [(7, (0, 1)), (5, (1, q1)), (0, (4, 0)), (1, (0, r7)), (2, (0, r8)), (3, (4, 1)), (4, (0, o4))]) (stN := []) (hsN := [jzQ_16, (4, [(4, 13), (1, 1)], []), (8, [(4, 14), (4, 15)], []), jgh, jgh, jgh, jgh, jgh, jgh, (101, [], [q1, -r7, r8, 0, 0, 0]), (101, [], [k86_0, k86_1, k86_2, k86_3, k86_4, k86_5]), jgh, jgh, (101, [], [0, 0, 0, 0, 0, 0]), jgh, jgh]) (c1 := 0) (s1 := 0) (c2 := 0) (s2 := 0) (by exact rfl) ?_ (by omega) (by omega)
  refine jT_xiinc (x := 1) (z := 2) (LN := [(7, (0, 2)), (5, (1, q1)), (0, (4, 0)), (1, (0, r7)), (2, (0, r8)), (3, (4, 1)), (4, (0, o4))]) (pcN := 156) jIQ_161_153 rfl rfl (by decide) rfl rfl ?_
  refine jT_xgoto (pcN := 119) jIQ_161_156 rfl ?_
  refine jT_xiload (v := (0, 2)) (pcN := 121) jIQ_161_119 rfl rfl rfl ?_
  refine jT_xbipush (k := 6) (pcN := 123) jIQ_161_121 (by decide) rfl ?_
  refine jT_xicF (t := 159) (pcN := 126) jIQ_161_123 rfl (by decide +kernel) rfl rfl ?_
  refine jT_xaload_n (v := (4, 0)) (pcN := 127) jIQ_161_126 rfl rfl rfl ?_
  refine jT_xgetf (a := 0) (t := 1) (ci := 13) (fi := 7) (c := jzQ_16) (v := (4, 9)) (pcN := 130) jIQ_161_127 rfl rfl rfl rfl rfl rfl rfl ?_
  refine jT_xiload (v := (0, 2)) (pcN := 132) jIQ_161_130 rfl rfl rfl ?_
  refine jT_xaload_n (v := (4, 1)) (pcN := 133) jIQ_161_132 rfl rfl rfl ?_
  refine jT_xgetf (a := 1) (t := 2) (ci := 4) (fi := 0) (c := (4, [(4, 13), (1, 1)], [])) (v := (4, 13)) (pcN := 136) jIQ_161_133 rfl rfl rfl rfl rfl rfl rfl ?_
  refine jT_xiload (v := (0, 2)) (pcN := 138) jIQ_161_136 rfl rfl rfl ?_
  refine jT_lald (x := 0) (a := 13) (j := 2) (fs := []) (X := [0, 0, 0, 0, 0, 0]) jIQ_161_138 rfl rfl rfl rfl ?_
  refine jT_eq (LN := [(7, (0, 2)), (5, (1, q1)), (0, (4, 0)), (1, (0, r7)), (2, (0, r8)), (3, (4, 1)), (4, (0, o4))]) (stN := [(1, 0), (0, 2), (4, 9)]) (hsN := [jzQ_16, (4, [(4, 13), (1, 1)], []), (8, [(4, 14), (4, 15)], []), jgh, jgh, jgh, jgh, jgh, jgh, (101, [], [q1, -r7, r8, 0, 0, 0]), (101, [], [k86_0, k86_1, k86_2, k86_3, k86_4, k86_5]), jgh, jgh, (101, [], [0, 0, 0, 0, 0, 0]), jgh, jgh]) rfl rfl rfl ?_
  refine jT_xaload_n (v := (4, 0)) (pcN := 140) jIQ_161_139 rfl rfl rfl ?_
  refine jT_xgetf (a := 0) (t := 1) (ci := 13) (fi := 7) (c := jzQ_16) (v := (4, 9)) (pcN := 143) jIQ_161_140 rfl rfl rfl rfl rfl rfl rfl ?_
  refine jT_xiload (v := (0, 2)) (pcN := 145) jIQ_161_143 rfl rfl rfl ?_
  refine jT_lald (x := r8) (a := 9) (j := 2) (fs := []) (X := [q1, -r7, r8, 0, 0, 0]) jIQ_161_145 rfl rfl rfl rfl ?_
  refine jT_eq (LN := [(7, (0, 2)), (5, (1, q1)), (0, (4, 0)), (1, (0, r7)), (2, (0, r8)), (3, (4, 1)), (4, (0, o4))]) (stN := [(1, r8), (1, 0), (0, 2), (4, 9)]) (hsN := [jzQ_16, (4, [(4, 13), (1, 1)], []), (8, [(4, 14), (4, 15)], []), jgh, jgh, jgh, jgh, jgh, jgh, (101, [], [q1, -r7, r8, 0, 0, 0]), (101, [], [k86_0, k86_1, k86_2, k86_3, k86_4, k86_5]), jgh, jgh, (101, [], [0, 0, 0, 0, 0, 0]), jgh, jgh]) rfl rfl rfl ?_
  refine jT_xaload_n (v := (4, 1)) (pcN := 147) jIQ_161_146 rfl rfl rfl ?_
  refine jT_xgetf (a := 1) (t := 2) (ci := 4) (fi := 1) (c := (4, [(4, 13), (1, 1)], [])) (v := (1, 1)) (pcN := 150) jIQ_161_147 rfl rfl rfl rfl rfl rfl rfl ?_
  refine jT_xlmul (x := r8) (y := 1) (z := r8) (pcN := 151) jIQ_161_150 rfl (by omega) rfl ?_
  refine jT_xlsub (x := 0) (y := r8) (z := -r8) (pcN := 152) jIQ_161_151 rfl (by omega) rfl ?_
  refine jT_adv 1 (pcN := 153) (LN := [(7, (0, 2)), (5, (1, q1)), (0, (4, 0)), (1, (0, r7)), (2, (0, r8)), (3, (4, 1)), (4, (0, o4))]) (stN := []) (hsN := [jzQ_16, (4, [(4, 13), (1, 1)], []), (8, [(4, 14), (4, 15)], []), jgh, jgh, jgh, jgh, jgh, jgh, (101, [], [q1, -r7, -r8, 0, 0, 0]), (101, [], [k86_0, k86_1, k86_2, k86_3, k86_4, k86_5]), jgh, jgh, (101, [], [0, 0, 0, 0, 0, 0]), jgh, jgh]) (c1 := 0) (s1 := 0) (c2 := 0) (s2 := 0) (by exact rfl) ?_ (by omega) (by omega)
  refine jT_xiinc (x := 2) (z := 3) (LN := [(7, (0, 3)), (5, (1, q1)), (0, (4, 0)), (1, (0, r7)), (2, (0, r8)), (3, (4, 1)), (4, (0, o4))]) (pcN := 156) jIQ_161_153 rfl rfl (by decide) rfl rfl ?_
  refine jT_xgoto (pcN := 119) jIQ_161_156 rfl ?_
  refine jT_xiload (v := (0, 3)) (pcN := 121) jIQ_161_119 rfl rfl rfl ?_
  refine jT_xbipush (k := 6) (pcN := 123) jIQ_161_121 (by decide) rfl ?_
  refine jT_xicF (t := 159) (pcN := 126) jIQ_161_123 rfl (by decide +kernel) rfl rfl ?_
  refine jT_xaload_n (v := (4, 0)) (pcN := 127) jIQ_161_126 rfl rfl rfl ?_
  refine jT_xgetf (a := 0) (t := 1) (ci := 13) (fi := 7) (c := jzQ_16) (v := (4, 9)) (pcN := 130) jIQ_161_127 rfl rfl rfl rfl rfl rfl rfl ?_
  refine jT_xiload (v := (0, 3)) (pcN := 132) jIQ_161_130 rfl rfl rfl ?_
  refine jT_xaload_n (v := (4, 1)) (pcN := 133) jIQ_161_132 rfl rfl rfl ?_
  refine jT_xgetf (a := 1) (t := 2) (ci := 4) (fi := 0) (c := (4, [(4, 13), (1, 1)], [])) (v := (4, 13)) (pcN := 136) jIQ_161_133 rfl rfl rfl rfl rfl rfl rfl ?_
  refine jT_xiload (v := (0, 3)) (pcN := 138) jIQ_161_136 rfl rfl rfl ?_
  refine jT_lald (x := 0) (a := 13) (j := 3) (fs := []) (X := [0, 0, 0, 0, 0, 0]) jIQ_161_138 rfl rfl rfl rfl ?_
  refine jT_eq (LN := [(7, (0, 3)), (5, (1, q1)), (0, (4, 0)), (1, (0, r7)), (2, (0, r8)), (3, (4, 1)), (4, (0, o4))]) (stN := [(1, 0), (0, 3), (4, 9)]) (hsN := [jzQ_16, (4, [(4, 13), (1, 1)], []), (8, [(4, 14), (4, 15)], []), jgh, jgh, jgh, jgh, jgh, jgh, (101, [], [q1, -r7, -r8, 0, 0, 0]), (101, [], [k86_0, k86_1, k86_2, k86_3, k86_4, k86_5]), jgh, jgh, (101, [], [0, 0, 0, 0, 0, 0]), jgh, jgh]) rfl rfl rfl ?_
  refine jT_xaload_n (v := (4, 0)) (pcN := 140) jIQ_161_139 rfl rfl rfl ?_
  refine jT_xgetf (a := 0) (t := 1) (ci := 13) (fi := 7) (c := jzQ_16) (v := (4, 9)) (pcN := 143) jIQ_161_140 rfl rfl rfl rfl rfl rfl rfl ?_
  refine jT_xiload (v := (0, 3)) (pcN := 145) jIQ_161_143 rfl rfl rfl ?_
  refine jT_lald (x := 0) (a := 9) (j := 3) (fs := []) (X := [q1, -r7, -r8, 0, 0, 0]) jIQ_161_145 rfl rfl rfl rfl ?_
  refine jT_eq (LN := [(7, (0, 3)), (5, (1, q1)), (0, (4, 0)), (1, (0, r7)), (2, (0, r8)), (3, (4, 1)), (4, (0, o4))]) (stN := [(1, 0), (1, 0), (0, 3), (4, 9)]) (hsN := [jzQ_16, (4, [(4, 13), (1, 1)], []), (8, [(4, 14), (4, 15)], []), jgh, jgh, jgh, jgh, jgh, jgh, (101, [], [q1, -r7, -r8, 0, 0, 0]), (101, [], [k86_0, k86_1, k86_2, k86_3, k86_4, k86_5]), jgh, jgh, (101, [], [0, 0, 0, 0, 0, 0]), jgh, jgh]) rfl rfl rfl ?_
  refine jT_xaload_n (v := (4, 1)) (pcN := 147) jIQ_161_146 rfl rfl rfl ?_
  refine jT_xgetf (a := 1) (t := 2) (ci := 4) (fi := 1) (c := (4, [(4, 13), (1, 1)], [])) (v := (1, 1)) (pcN := 150) jIQ_161_147 rfl rfl rfl rfl rfl rfl rfl ?_
  refine jT_xlmul (x := 0) (y := 1) (z := 0) (pcN := 151) jIQ_161_150 rfl (by decide) rfl ?_
  refine jT_xlsub (x := 0) (y := 0) (z := 0) (pcN := 152) jIQ_161_151 rfl (by decide) rfl ?_
  refine jT_adv 1 (pcN := 153) (LN := [(7, (0, 3)), (5, (1, q1)), (0, (4, 0)), (1, (0, r7)), (2, (0, r8)), (3, (4, 1)), (4, (0, o4))]) (stN := []) (hsN := [jzQ_16, (4, [(4, 13), (1, 1)], []), (8, [(4, 14), (4, 15)], []), jgh, jgh, jgh, jgh, jgh, jgh, (101, [], [q1, -r7, -r8, 0, 0, 0]), (101, [], [k86_0, k86_1, k86_2, k86_3, k86_4, k86_5]), jgh, jgh, (101, [], [0, 0, 0, 0, 0, 0]), jgh, jgh]) (c1 := 0) (s1 := 0) (c2 := 0) (s2 := 0) (by exact rfl) ?_ (by omega) (by omega)
  refine jT_xiinc (x := 3) (z := 4) (LN := [(7, (0, 4)), (5, (1, q1)), (0, (4, 0)), (1, (0, r7)), (2, (0, r8)), (3, (4, 1)), (4, (0, o4))]) (pcN := 156) jIQ_161_153 rfl rfl (by decide) rfl rfl ?_
  refine jT_xgoto (pcN := 119) jIQ_161_156 rfl ?_
  refine jT_xiload (v := (0, 4)) (pcN := 121) jIQ_161_119 rfl rfl rfl ?_
  refine jT_xbipush (k := 6) (pcN := 123) jIQ_161_121 (by decide) rfl ?_
  refine jT_xicF (t := 159) (pcN := 126) jIQ_161_123 rfl (by decide +kernel) rfl rfl ?_
  refine jT_xaload_n (v := (4, 0)) (pcN := 127) jIQ_161_126 rfl rfl rfl ?_
  refine jT_xgetf (a := 0) (t := 1) (ci := 13) (fi := 7) (c := jzQ_16) (v := (4, 9)) (pcN := 130) jIQ_161_127 rfl rfl rfl rfl rfl rfl rfl ?_
  refine jT_xiload (v := (0, 4)) (pcN := 132) jIQ_161_130 rfl rfl rfl ?_
  refine jT_xaload_n (v := (4, 1)) (pcN := 133) jIQ_161_132 rfl rfl rfl ?_
  refine jT_xgetf (a := 1) (t := 2) (ci := 4) (fi := 0) (c := (4, [(4, 13), (1, 1)], [])) (v := (4, 13)) (pcN := 136) jIQ_161_133 rfl rfl rfl rfl rfl rfl rfl ?_
  refine jT_xiload (v := (0, 4)) (pcN := 138) jIQ_161_136 rfl rfl rfl ?_
  refine jT_lald (x := 0) (a := 13) (j := 4) (fs := []) (X := [0, 0, 0, 0, 0, 0]) jIQ_161_138 rfl rfl rfl rfl ?_
  refine jT_eq (LN := [(7, (0, 4)), (5, (1, q1)), (0, (4, 0)), (1, (0, r7)), (2, (0, r8)), (3, (4, 1)), (4, (0, o4))]) (stN := [(1, 0), (0, 4), (4, 9)]) (hsN := [jzQ_16, (4, [(4, 13), (1, 1)], []), (8, [(4, 14), (4, 15)], []), jgh, jgh, jgh, jgh, jgh, jgh, (101, [], [q1, -r7, -r8, 0, 0, 0]), (101, [], [k86_0, k86_1, k86_2, k86_3, k86_4, k86_5]), jgh, jgh, (101, [], [0, 0, 0, 0, 0, 0]), jgh, jgh]) rfl rfl rfl ?_
  refine jT_xaload_n (v := (4, 0)) (pcN := 140) jIQ_161_139 rfl rfl rfl ?_
  refine jT_xgetf (a := 0) (t := 1) (ci := 13) (fi := 7) (c := jzQ_16) (v := (4, 9)) (pcN := 143) jIQ_161_140 rfl rfl rfl rfl rfl rfl rfl ?_
  refine jT_xiload (v := (0, 4)) (pcN := 145) jIQ_161_143 rfl rfl rfl ?_
  refine jT_lald (x := 0) (a := 9) (j := 4) (fs := []) (X := [q1, -r7, -r8, 0, 0, 0]) jIQ_161_145 rfl rfl rfl rfl ?_
  refine jT_eq (LN := [(7, (0, 4)), (5, (1, q1)), (0, (4, 0)), (1, (0, r7)), (2, (0, r8)), (3, (4, 1)), (4, (0, o4))]) (stN := [(1, 0), (1, 0), (0, 4), (4, 9)]) (hsN := [jzQ_16, (4, [(4, 13), (1, 1)], []), (8, [(4, 14), (4, 15)], []), jgh, jgh, jgh, jgh, jgh, jgh, (101, [], [q1, -r7, -r8, 0, 0, 0]), (101, [], [k86_0, k86_1, k86_2, k86_3, k86_4, k86_5]), jgh, jgh, (101, [], [0, 0, 0, 0, 0, 0]), jgh, jgh]) rfl rfl rfl ?_
  refine jT_xaload_n (v := (4, 1)) (pcN := 147) jIQ_161_146 rfl rfl rfl ?_
  refine jT_xgetf (a := 1) (t := 2) (ci := 4) (fi := 1) (c := (4, [(4, 13), (1, 1)], [])) (v := (1, 1)) (pcN := 150) jIQ_161_147 rfl rfl rfl rfl rfl rfl rfl ?_
  refine jT_xlmul (x := 0) (y := 1) (z := 0) (pcN := 151) jIQ_161_150 rfl (by decide) rfl ?_
  refine jT_xlsub (x := 0) (y := 0) (z := 0) (pcN := 152) jIQ_161_151 rfl (by decide) rfl ?_
  refine jT_adv 1 (pcN := 153) (LN := [(7, (0, 4)), (5, (1, q1)), (0, (4, 0)), (1, (0, r7)), (2, (0, r8)), (3, (4, 1)), (4, (0, o4))]) (stN := []) (hsN := [jzQ_16, (4, [(4, 13), (1, 1)], []), (8, [(4, 14), (4, 15)], []), jgh, jgh, jgh, jgh, jgh, jgh, (101, [], [q1, -r7, -r8, 0, 0, 0]), (101, [], [k86_0, k86_1, k86_2, k86_3, k86_4, k86_5]), jgh, jgh, (101, [], [0, 0, 0, 0, 0, 0]), jgh, jgh]) (c1 := 0) (s1 := 0) (c2 := 0) (s2 := 0) (by exact rfl) ?_ (by omega) (by omega)
  refine jT_xiinc (x := 4) (z := 5) (LN := [(7, (0, 5)), (5, (1, q1)), (0, (4, 0)), (1, (0, r7)), (2, (0, r8)), (3, (4, 1)), (4, (0, o4))]) (pcN := 156) jIQ_161_153 rfl rfl (by decide) rfl rfl ?_
  refine jT_xgoto (pcN := 119) jIQ_161_156 rfl ?_
  refine jT_xiload (v := (0, 5)) (pcN := 121) jIQ_161_119 rfl rfl rfl ?_
  refine jT_xbipush (k := 6) (pcN := 123) jIQ_161_121 (by decide) rfl ?_
  refine jT_xicF (t := 159) (pcN := 126) jIQ_161_123 rfl (by decide +kernel) rfl rfl ?_
  refine jT_xaload_n (v := (4, 0)) (pcN := 127) jIQ_161_126 rfl rfl rfl ?_
  refine jT_xgetf (a := 0) (t := 1) (ci := 13) (fi := 7) (c := jzQ_16) (v := (4, 9)) (pcN := 130) jIQ_161_127 rfl rfl rfl rfl rfl rfl rfl ?_
  refine jT_xiload (v := (0, 5)) (pcN := 132) jIQ_161_130 rfl rfl rfl ?_
  refine jT_xaload_n (v := (4, 1)) (pcN := 133) jIQ_161_132 rfl rfl rfl ?_
  refine jT_xgetf (a := 1) (t := 2) (ci := 4) (fi := 0) (c := (4, [(4, 13), (1, 1)], [])) (v := (4, 13)) (pcN := 136) jIQ_161_133 rfl rfl rfl rfl rfl rfl rfl ?_
  refine jT_xiload (v := (0, 5)) (pcN := 138) jIQ_161_136 rfl rfl rfl ?_
  refine jT_lald (x := 0) (a := 13) (j := 5) (fs := []) (X := [0, 0, 0, 0, 0, 0]) jIQ_161_138 rfl rfl rfl rfl ?_
  refine jT_eq (LN := [(7, (0, 5)), (5, (1, q1)), (0, (4, 0)), (1, (0, r7)), (2, (0, r8)), (3, (4, 1)), (4, (0, o4))]) (stN := [(1, 0), (0, 5), (4, 9)]) (hsN := [jzQ_16, (4, [(4, 13), (1, 1)], []), (8, [(4, 14), (4, 15)], []), jgh, jgh, jgh, jgh, jgh, jgh, (101, [], [q1, -r7, -r8, 0, 0, 0]), (101, [], [k86_0, k86_1, k86_2, k86_3, k86_4, k86_5]), jgh, jgh, (101, [], [0, 0, 0, 0, 0, 0]), jgh, jgh]) rfl rfl rfl ?_
  refine jT_xaload_n (v := (4, 0)) (pcN := 140) jIQ_161_139 rfl rfl rfl ?_
  refine jT_xgetf (a := 0) (t := 1) (ci := 13) (fi := 7) (c := jzQ_16) (v := (4, 9)) (pcN := 143) jIQ_161_140 rfl rfl rfl rfl rfl rfl rfl ?_
  refine jT_xiload (v := (0, 5)) (pcN := 145) jIQ_161_143 rfl rfl rfl ?_
  refine jT_lald (x := 0) (a := 9) (j := 5) (fs := []) (X := [q1, -r7, -r8, 0, 0, 0]) jIQ_161_145 rfl rfl rfl rfl ?_
  refine jT_eq (LN := [(7, (0, 5)), (5, (1, q1)), (0, (4, 0)), (1, (0, r7)), (2, (0, r8)), (3, (4, 1)), (4, (0, o4))]) (stN := [(1, 0), (1, 0), (0, 5), (4, 9)]) (hsN := [jzQ_16, (4, [(4, 13), (1, 1)], []), (8, [(4, 14), (4, 15)], []), jgh, jgh, jgh, jgh, jgh, jgh, (101, [], [q1, -r7, -r8, 0, 0, 0]), (101, [], [k86_0, k86_1, k86_2, k86_3, k86_4, k86_5]), jgh, jgh, (101, [], [0, 0, 0, 0, 0, 0]), jgh, jgh]) rfl rfl rfl ?_
  refine jT_xaload_n (v := (4, 1)) (pcN := 147) jIQ_161_146 rfl rfl rfl ?_
  refine jT_xgetf (a := 1) (t := 2) (ci := 4) (fi := 1) (c := (4, [(4, 13), (1, 1)], [])) (v := (1, 1)) (pcN := 150) jIQ_161_147 rfl rfl rfl rfl rfl rfl rfl ?_
  refine jT_xlmul (x := 0) (y := 1) (z := 0) (pcN := 151) jIQ_161_150 rfl (by decide) rfl ?_
  refine jT_xlsub (x := 0) (y := 0) (z := 0) (pcN := 152) jIQ_161_151 rfl (by decide) rfl ?_
  refine jT_adv 1 (pcN := 153) (LN := [(7, (0, 5)), (5, (1, q1)), (0, (4, 0)), (1, (0, r7)), (2, (0, r8)), (3, (4, 1)), (4, (0, o4))]) (stN := []) (hsN := [jzQ_16, (4, [(4, 13), (1, 1)], []), (8, [(4, 14), (4, 15)], []), jgh, jgh, jgh, jgh, jgh, jgh, (101, [], [q1, -r7, -r8, 0, 0, 0]), (101, [], [k86_0, k86_1, k86_2, k86_3, k86_4, k86_5]), jgh, jgh, (101, [], [0, 0, 0, 0, 0, 0]), jgh, jgh]) (c1 := 0) (s1 := 0) (c2 := 0) (s2 := 0) (by exact rfl) ?_ (by omega) (by omega)
  refine jT_xiinc (x := 5) (z := 6) (LN := [(7, (0, 6)), (5, (1, q1)), (0, (4, 0)), (1, (0, r7)), (2, (0, r8)), (3, (4, 1)), (4, (0, o4))]) (pcN := 156) jIQ_161_153 rfl rfl (by decide) rfl rfl ?_
  refine jT_xgoto (pcN := 119) jIQ_161_156 rfl ?_
  refine jT_xiload (v := (0, 6)) (pcN := 121) jIQ_161_119 rfl rfl rfl ?_
  refine jT_xbipush (k := 6) (pcN := 123) jIQ_161_121 (by decide) rfl ?_
  refine jT_xicT (pcN := 159) jIQ_161_123 rfl (by decide +kernel) rfl ?_
  refine jT_xaload_n (v := (4, 0)) (pcN := 160) jIQ_161_159 rfl rfl rfl ?_
  refine jT_xgetf (a := 0) (t := 1) (ci := 13) (fi := 0) (c := jzQ_16) (v := (4, 2)) (pcN := 163) jIQ_161_160 rfl rfl rfl rfl rfl rfl rfl ?_
  refine jT_xaload_n (v := (4, 0)) (pcN := 164) jIQ_161_163 rfl rfl rfl ?_
  refine jT_xgetf (a := 0) (t := 1) (ci := 13) (fi := 7) (c := jzQ_16) (v := (4, 9)) (pcN := 167) jIQ_161_164 rfl rfl rfl rfl rfl rfl rfl ?_
  refine jT_callA [2, 9, 14, 15] (y := 38) (pcN := 170) (dC := 1) (bc1 := 0) (bc2 := 0) (c1 := 0) (c2 := 0) (as := [(4, 2), (4, 9)]) (asC := [(4, 0), (4, 1)]) (LN := [(7, (0, 6)), (5, (1, q1)), (0, (4, 0)), (1, (0, r7)), (2, (0, r8)), (3, (4, 1)), (4, (0, o4))]) (stN := []) (hsC := [(8, [(4, 2), (4, 3)], []), (101, [], [q1, -r7, -r8, 0, 0, 0]), jgh, jgh]) (ex := []) (v := (0, (-1))) (st2 := [(0, (-1))]) (hs2 := [jzQ_16, (4, [(4, 13), (1, 1)], []), (8, [(4, 14), (4, 15)], []), jgh, jgh, jgh, jgh, jgh, jgh, (101, [], [q1, -r7, -r8, 0, 0, 0]), (101, [], [k86_0, k86_1, k86_2, k86_3, k86_4, k86_5]), jgh, jgh, (101, [], [0, 0, 0, 0, 0, 0]), jgh, jgh]) (jQl_sp38_117 (d := 0) (by omega) (by omega) (by omega) (by omega) (by omega) (by omega) (by omega)) (by rfl) (by rfl) (by rfl) (by rfl) ⟨rfl, rfl, rfl, rfl, trivial⟩ (by rfl) (by rfl) (by omega) (by show 16 ≤ 16; omega) (by omega) (by omega) rfl rfl ?_
  refine jT_xifT (pcN := 177) jIQ_161_170 rfl (by decide +kernel) rfl ?_
  refine jT_xiconst (k := 0) (pcN := 178) jIQ_161_177 rfl ?_
  subst hq_q4
  subst hq_q3
  subst hq_q2
  subst hq_q1
  exact jT_ret rfl (by decide) (by show 16 ≤ 16; omega) (by omega) (by omega) ⟨rfl, rfl, rfl⟩
theorem jQ_161_223 {xs : List Int} {d : Nat} {k86_0 k86_1 k86_2 k86_3 k86_4 k86_5 o4 r7 r8 u85_0 u85_1 u85_2 u85_3 u85_4 u85_5 : Int} (h_k86_0 : 1 ≤ k86_0 ∧ k86_0 ≤ 100) (h_k86_1 : 2 ≤ k86_1 ∧ k86_1 ≤ 158) (h_k86_2 : 2 ≤ k86_2 ∧ k86_2 ≤ 232) (h_k86_3 : 3 ≤ k86_3 ∧ k86_3 ≤ 281) (h_k86_4 : 3 ≤ k86_4 ∧ k86_4 ≤ 346) (h_k86_5 : 4 ≤ k86_5 ∧ k86_5 ≤ 370) (h_o4 : 1 ≤ o4 ∧ o4 ≤ 100) (h_r7 : (-20) ≤ r7 ∧ r7 ≤ 20) (h_r8 : (-10) ≤ r8 ∧ r8 ≤ 10) (g_0 : 0 < r7) (g_1 : 0 ≤ -(((108917793695 * r7 + 159561683699 * r8) / 68719476736) * o4) + (r7 * k86_1) + (r8 * k86_2) - 1) : jT xs (d + 2) 161 15 0 [(0, (4, 0)), (1, (0, r7)), (2, (0, r8)), (3, (4, 1)), (4, (0, o4))] [] [jzQ_16, jgh, (8, [(4, 13), (4, 14)], []), jgh, jgh, jgh, jgh, jgh, jgh, (101, [], [u85_0, u85_1, u85_2, u85_3, u85_4, u85_5]), (101, [], [k86_0, k86_1, k86_2, k86_3, k86_4, k86_5]), jgh, jgh, jgh, jgh] 0 0 (fun k v hsN => k = 0 ∧ v = (0, 0) ∧ hsN = [jzQ_16, jgh, (8, [(4, 13), (4, 14)], []), jgh, jgh, jgh, jgh, jgh, jgh, (101, [], [0, r7, r8, 0, 0, 0]), (101, [], [k86_0, k86_1, k86_2, k86_3, k86_4, k86_5]), jgh, jgh, jgh, jgh]) := by
  refine jT_xiload_n (v := (0, r7)) (pcN := 1) jIQ_161_0 rfl rfl rfl ?_
  refine jT_ifT (a := r7) (t := 10) (by rfl) (by rfl) (by rfl) (jw_idd (by omega) (by omega)) (by simp only [jcP] <;> omega) ?_
  refine jT_xiconst (k := 0) (pcN := 11) jIQ_161_10 rfl ?_
  refine jT_xistore (v := (0, 0)) (LN := [(5, (0, 0)), (0, (4, 0)), (1, (0, r7)), (2, (0, r8)), (3, (4, 1)), (4, (0, o4))]) (pcN := 13) jIQ_161_11 rfl rfl rfl rfl ?_
  refine jT_xiload (v := (0, 0)) (pcN := 15) jIQ_161_13 rfl rfl rfl ?_
  refine jT_xbipush (k := 6) (pcN := 17) jIQ_161_15 (by decide) rfl ?_
  refine jT_xicF (t := 56) (pcN := 20) jIQ_161_17 rfl (by decide +kernel) rfl rfl ?_
  refine jT_xaload_n (v := (4, 0)) (pcN := 21) jIQ_161_20 rfl rfl rfl ?_
  refine jT_xgetf (a := 0) (t := 1) (ci := 13) (fi := 7) (c := jzQ_16) (v := (4, 9)) (pcN := 24) jIQ_161_21 rfl rfl rfl rfl rfl rfl rfl ?_
  refine jT_xiload (v := (0, 0)) (pcN := 26) jIQ_161_24 rfl rfl rfl ?_
  refine jT_xiload (v := (0, 0)) (pcN := 28) jIQ_161_26 rfl rfl rfl ?_
  refine jT_xiconst (k := 1) (pcN := 29) jIQ_161_28 rfl ?_
  refine jT_xicT (pcN := 37) jIQ_161_29 rfl (by decide +kernel) rfl ?_
  refine jT_xiload (v := (0, 0)) (pcN := 39) jIQ_161_37 rfl rfl rfl ?_
  refine jT_xiconst (k := 2) (pcN := 40) jIQ_161_39 rfl ?_
  refine jT_xicT (pcN := 48) jIQ_161_40 rfl (by decide +kernel) rfl ?_
  refine jT_xlconst (z := 0) (pcN := 49) jIQ_161_48 rfl rfl ?_
  refine jT_adv 1 (pcN := 50) (LN := [(5, (0, 0)), (0, (4, 0)), (1, (0, r7)), (2, (0, r8)), (3, (4, 1)), (4, (0, o4))]) (stN := []) (hsN := [jzQ_16, jgh, (8, [(4, 13), (4, 14)], []), jgh, jgh, jgh, jgh, jgh, jgh, (101, [], [0, u85_1, u85_2, u85_3, u85_4, u85_5]), (101, [], [k86_0, k86_1, k86_2, k86_3, k86_4, k86_5]), jgh, jgh, jgh, jgh]) (c1 := 0) (s1 := 0) (c2 := 0) (s2 := 0) (by exact rfl) ?_ (by omega) (by omega)
  refine jT_xiinc (x := 0) (z := 1) (LN := [(5, (0, 1)), (0, (4, 0)), (1, (0, r7)), (2, (0, r8)), (3, (4, 1)), (4, (0, o4))]) (pcN := 53) jIQ_161_50 rfl rfl (by decide) rfl rfl ?_
  refine jT_xgoto (pcN := 13) jIQ_161_53 rfl ?_
  refine jT_xiload (v := (0, 1)) (pcN := 15) jIQ_161_13 rfl rfl rfl ?_
  refine jT_xbipush (k := 6) (pcN := 17) jIQ_161_15 (by decide) rfl ?_
  refine jT_xicF (t := 56) (pcN := 20) jIQ_161_17 rfl (by decide +kernel) rfl rfl ?_
  refine jT_xaload_n (v := (4, 0)) (pcN := 21) jIQ_161_20 rfl rfl rfl ?_
  refine jT_xgetf (a := 0) (t := 1) (ci := 13) (fi := 7) (c := jzQ_16) (v := (4, 9)) (pcN := 24) jIQ_161_21 rfl rfl rfl rfl rfl rfl rfl ?_
  refine jT_xiload (v := (0, 1)) (pcN := 26) jIQ_161_24 rfl rfl rfl ?_
  refine jT_xiload (v := (0, 1)) (pcN := 28) jIQ_161_26 rfl rfl rfl ?_
  refine jT_xiconst (k := 1) (pcN := 29) jIQ_161_28 rfl ?_
  refine jT_xicF (t := 37) (pcN := 32) jIQ_161_29 rfl (by decide +kernel) rfl rfl ?_
  refine jT_xiload_n (v := (0, r7)) (pcN := 33) jIQ_161_32 rfl rfl rfl ?_
  refine jT_xi2l (x := r7) (z := r7) (pcN := 34) jIQ_161_33 rfl (jw_idd (by omega) (by omega)) rfl ?_
  refine jT_xgoto (pcN := 49) jIQ_161_34 rfl ?_
  refine jT_adv 1 (pcN := 50) (LN := [(5, (0, 1)), (0, (4, 0)), (1, (0, r7)), (2, (0, r8)), (3, (4, 1)), (4, (0, o4))]) (stN := []) (hsN := [jzQ_16, jgh, (8, [(4, 13), (4, 14)], []), jgh, jgh, jgh, jgh, jgh, jgh, (101, [], [0, r7, u85_2, u85_3, u85_4, u85_5]), (101, [], [k86_0, k86_1, k86_2, k86_3, k86_4, k86_5]), jgh, jgh, jgh, jgh]) (c1 := 0) (s1 := 0) (c2 := 0) (s2 := 0) (by exact rfl) ?_ (by omega) (by omega)
  refine jT_xiinc (x := 1) (z := 2) (LN := [(5, (0, 2)), (0, (4, 0)), (1, (0, r7)), (2, (0, r8)), (3, (4, 1)), (4, (0, o4))]) (pcN := 53) jIQ_161_50 rfl rfl (by decide) rfl rfl ?_
  refine jT_xgoto (pcN := 13) jIQ_161_53 rfl ?_
  refine jT_xiload (v := (0, 2)) (pcN := 15) jIQ_161_13 rfl rfl rfl ?_
  refine jT_xbipush (k := 6) (pcN := 17) jIQ_161_15 (by decide) rfl ?_
  refine jT_xicF (t := 56) (pcN := 20) jIQ_161_17 rfl (by decide +kernel) rfl rfl ?_
  refine jT_xaload_n (v := (4, 0)) (pcN := 21) jIQ_161_20 rfl rfl rfl ?_
  refine jT_xgetf (a := 0) (t := 1) (ci := 13) (fi := 7) (c := jzQ_16) (v := (4, 9)) (pcN := 24) jIQ_161_21 rfl rfl rfl rfl rfl rfl rfl ?_
  refine jT_xiload (v := (0, 2)) (pcN := 26) jIQ_161_24 rfl rfl rfl ?_
  refine jT_xiload (v := (0, 2)) (pcN := 28) jIQ_161_26 rfl rfl rfl ?_
  refine jT_xiconst (k := 1) (pcN := 29) jIQ_161_28 rfl ?_
  refine jT_xicT (pcN := 37) jIQ_161_29 rfl (by decide +kernel) rfl ?_
  refine jT_xiload (v := (0, 2)) (pcN := 39) jIQ_161_37 rfl rfl rfl ?_
  refine jT_xiconst (k := 2) (pcN := 40) jIQ_161_39 rfl ?_
  refine jT_xicF (t := 48) (pcN := 43) jIQ_161_40 rfl (by decide +kernel) rfl rfl ?_
  refine jT_xiload_n (v := (0, r8)) (pcN := 44) jIQ_161_43 rfl rfl rfl ?_
  refine jT_xi2l (x := r8) (z := r8) (pcN := 45) jIQ_161_44 rfl (jw_idd (by omega) (by omega)) rfl ?_
  refine jT_xgoto (pcN := 49) jIQ_161_45 rfl ?_
  refine jT_adv 1 (pcN := 50) (LN := [(5, (0, 2)), (0, (4, 0)), (1, (0, r7)), (2, (0, r8)), (3, (4, 1)), (4, (0, o4))]) (stN := []) (hsN := [jzQ_16, jgh, (8, [(4, 13), (4, 14)], []), jgh, jgh, jgh, jgh, jgh, jgh, (101, [], [0, r7, r8, u85_3, u85_4, u85_5]), (101, [], [k86_0, k86_1, k86_2, k86_3, k86_4, k86_5]), jgh, jgh, jgh, jgh]) (c1 := 0) (s1 := 0) (c2 := 0) (s2 := 0) (by exact rfl) ?_ (by omega) (by omega)
  refine jT_xiinc (x := 2) (z := 3) (LN := [(5, (0, 3)), (0, (4, 0)), (1, (0, r7)), (2, (0, r8)), (3, (4, 1)), (4, (0, o4))]) (pcN := 53) jIQ_161_50 rfl rfl (by decide) rfl rfl ?_
  refine jT_xgoto (pcN := 13) jIQ_161_53 rfl ?_
  refine jT_xiload (v := (0, 3)) (pcN := 15) jIQ_161_13 rfl rfl rfl ?_
  refine jT_xbipush (k := 6) (pcN := 17) jIQ_161_15 (by decide) rfl ?_
  refine jT_xicF (t := 56) (pcN := 20) jIQ_161_17 rfl (by decide +kernel) rfl rfl ?_
  refine jT_xaload_n (v := (4, 0)) (pcN := 21) jIQ_161_20 rfl rfl rfl ?_
  refine jT_xgetf (a := 0) (t := 1) (ci := 13) (fi := 7) (c := jzQ_16) (v := (4, 9)) (pcN := 24) jIQ_161_21 rfl rfl rfl rfl rfl rfl rfl ?_
  refine jT_xiload (v := (0, 3)) (pcN := 26) jIQ_161_24 rfl rfl rfl ?_
  refine jT_xiload (v := (0, 3)) (pcN := 28) jIQ_161_26 rfl rfl rfl ?_
  refine jT_xiconst (k := 1) (pcN := 29) jIQ_161_28 rfl ?_
  refine jT_xicT (pcN := 37) jIQ_161_29 rfl (by decide +kernel) rfl ?_
  refine jT_xiload (v := (0, 3)) (pcN := 39) jIQ_161_37 rfl rfl rfl ?_
  refine jT_xiconst (k := 2) (pcN := 40) jIQ_161_39 rfl ?_
  refine jT_xicT (pcN := 48) jIQ_161_40 rfl (by decide +kernel) rfl ?_
  refine jT_xlconst (z := 0) (pcN := 49) jIQ_161_48 rfl rfl ?_
  refine jT_adv 1 (pcN := 50) (LN := [(5, (0, 3)), (0, (4, 0)), (1, (0, r7)), (2, (0, r8)), (3, (4, 1)), (4, (0, o4))]) (stN := []) (hsN := [jzQ_16, jgh, (8, [(4, 13), (4, 14)], []), jgh, jgh, jgh, jgh, jgh, jgh, (101, [], [0, r7, r8, 0, u85_4, u85_5]), (101, [], [k86_0, k86_1, k86_2, k86_3, k86_4, k86_5]), jgh, jgh, jgh, jgh]) (c1 := 0) (s1 := 0) (c2 := 0) (s2 := 0) (by exact rfl) ?_ (by omega) (by omega)
  refine jT_xiinc (x := 3) (z := 4) (LN := [(5, (0, 4)), (0, (4, 0)), (1, (0, r7)), (2, (0, r8)), (3, (4, 1)), (4, (0, o4))]) (pcN := 53) jIQ_161_50 rfl rfl (by decide) rfl rfl ?_
  refine jT_xgoto (pcN := 13) jIQ_161_53 rfl ?_
  refine jT_xiload (v := (0, 4)) (pcN := 15) jIQ_161_13 rfl rfl rfl ?_
  refine jT_xbipush (k := 6) (pcN := 17) jIQ_161_15 (by decide) rfl ?_
  refine jT_xicF (t := 56) (pcN := 20) jIQ_161_17 rfl (by decide +kernel) rfl rfl ?_
  refine jT_xaload_n (v := (4, 0)) (pcN := 21) jIQ_161_20 rfl rfl rfl ?_
  refine jT_xgetf (a := 0) (t := 1) (ci := 13) (fi := 7) (c := jzQ_16) (v := (4, 9)) (pcN := 24) jIQ_161_21 rfl rfl rfl rfl rfl rfl rfl ?_
  refine jT_xiload (v := (0, 4)) (pcN := 26) jIQ_161_24 rfl rfl rfl ?_
  refine jT_xiload (v := (0, 4)) (pcN := 28) jIQ_161_26 rfl rfl rfl ?_
  refine jT_xiconst (k := 1) (pcN := 29) jIQ_161_28 rfl ?_
  refine jT_xicT (pcN := 37) jIQ_161_29 rfl (by decide +kernel) rfl ?_
  refine jT_xiload (v := (0, 4)) (pcN := 39) jIQ_161_37 rfl rfl rfl ?_
  refine jT_xiconst (k := 2) (pcN := 40) jIQ_161_39 rfl ?_
  refine jT_xicT (pcN := 48) jIQ_161_40 rfl (by decide +kernel) rfl ?_
  refine jT_xlconst (z := 0) (pcN := 49) jIQ_161_48 rfl rfl ?_
  refine jT_adv 1 (pcN := 50) (LN := [(5, (0, 4)), (0, (4, 0)), (1, (0, r7)), (2, (0, r8)), (3, (4, 1)), (4, (0, o4))]) (stN := []) (hsN := [jzQ_16, jgh, (8, [(4, 13), (4, 14)], []), jgh, jgh, jgh, jgh, jgh, jgh, (101, [], [0, r7, r8, 0, 0, u85_5]), (101, [], [k86_0, k86_1, k86_2, k86_3, k86_4, k86_5]), jgh, jgh, jgh, jgh]) (c1 := 0) (s1 := 0) (c2 := 0) (s2 := 0) (by exact rfl) ?_ (by omega) (by omega)
  refine jT_xiinc (x := 4) (z := 5) (LN := [(5, (0, 5)), (0, (4, 0)), (1, (0, r7)), (2, (0, r8)), (3, (4, 1)), (4, (0, o4))]) (pcN := 53) jIQ_161_50 rfl rfl (by decide) rfl rfl ?_
  refine jT_xgoto (pcN := 13) jIQ_161_53 rfl ?_
  refine jT_xiload (v := (0, 5)) (pcN := 15) jIQ_161_13 rfl rfl rfl ?_
  refine jT_xbipush (k := 6) (pcN := 17) jIQ_161_15 (by decide) rfl ?_
  refine jT_xicF (t := 56) (pcN := 20) jIQ_161_17 rfl (by decide +kernel) rfl rfl ?_
  refine jT_xaload_n (v := (4, 0)) (pcN := 21) jIQ_161_20 rfl rfl rfl ?_
  refine jT_xgetf (a := 0) (t := 1) (ci := 13) (fi := 7) (c := jzQ_16) (v := (4, 9)) (pcN := 24) jIQ_161_21 rfl rfl rfl rfl rfl rfl rfl ?_
  refine jT_xiload (v := (0, 5)) (pcN := 26) jIQ_161_24 rfl rfl rfl ?_
  refine jT_xiload (v := (0, 5)) (pcN := 28) jIQ_161_26 rfl rfl rfl ?_
  refine jT_xiconst (k := 1) (pcN := 29) jIQ_161_28 rfl ?_
  refine jT_xicT (pcN := 37) jIQ_161_29 rfl (by decide +kernel) rfl ?_
  refine jT_xiload (v := (0, 5)) (pcN := 39) jIQ_161_37 rfl rfl rfl ?_
  refine jT_xiconst (k := 2) (pcN := 40) jIQ_161_39 rfl ?_
  refine jT_xicT (pcN := 48) jIQ_161_40 rfl (by decide +kernel) rfl ?_
  refine jT_xlconst (z := 0) (pcN := 49) jIQ_161_48 rfl rfl ?_
  refine jT_adv 1 (pcN := 50) (LN := [(5, (0, 5)), (0, (4, 0)), (1, (0, r7)), (2, (0, r8)), (3, (4, 1)), (4, (0, o4))]) (stN := []) (hsN := [jzQ_16, jgh, (8, [(4, 13), (4, 14)], []), jgh, jgh, jgh, jgh, jgh, jgh, (101, [], [0, r7, r8, 0, 0, 0]), (101, [], [k86_0, k86_1, k86_2, k86_3, k86_4, k86_5]), jgh, jgh, jgh, jgh]) (c1 := 0) (s1 := 0) (c2 := 0) (s2 := 0) (by exact rfl) ?_ (by omega) (by omega)
  refine jT_xiinc (x := 5) (z := 6) (LN := [(5, (0, 6)), (0, (4, 0)), (1, (0, r7)), (2, (0, r8)), (3, (4, 1)), (4, (0, o4))]) (pcN := 53) jIQ_161_50 rfl rfl (by decide) rfl rfl ?_
  refine jT_xgoto (pcN := 13) jIQ_161_53 rfl ?_
  refine jT_xiload (v := (0, 6)) (pcN := 15) jIQ_161_13 rfl rfl rfl ?_
  refine jT_xbipush (k := 6) (pcN := 17) jIQ_161_15 (by decide) rfl ?_
  refine jT_xicT (pcN := 56) jIQ_161_17 rfl (by decide +kernel) rfl ?_
  refine jT_xaload_n (v := (4, 0)) (pcN := 57) jIQ_161_56 rfl rfl rfl ?_
  refine jT_xgetf (a := 0) (t := 1) (ci := 13) (fi := 0) (c := jzQ_16) (v := (4, 2)) (pcN := 60) jIQ_161_57 rfl rfl rfl rfl rfl rfl rfl ?_
  refine jT_xaload_n (v := (4, 0)) (pcN := 61) jIQ_161_60 rfl rfl rfl ?_
  refine jT_xgetf (a := 0) (t := 1) (ci := 13) (fi := 7) (c := jzQ_16) (v := (4, 9)) (pcN := 64) jIQ_161_61 rfl rfl rfl rfl rfl rfl rfl ?_
  refine jT_xlconst (z := 1) (pcN := 65) jIQ_161_64 rfl rfl ?_
  refine jT_xlconst (z := 1) (pcN := 66) jIQ_161_65 rfl rfl ?_
  refine jT_callA [2, 9, 13, 14] (y := 45) (pcN := 69) (dC := 1) (bc1 := 0) (bc2 := 0) (c1 := 0) (c2 := 0) (as := [(4, 2), (4, 9), (1, 1), (1, 1)]) (asC := [(4, 0), (4, 1), (1, 1), (1, 1)]) (LN := [(5, (0, 6)), (0, (4, 0)), (1, (0, r7)), (2, (0, r8)), (3, (4, 1)), (4, (0, o4))]) (stN := []) (hsC := [(8, [(4, 2), (4, 3)], []), (101, [], [0, r7, r8, 0, 0, 0]), jgh, jgh]) (ex := []) (v := (1, (108917793695 * r7 + 159561683699 * r8) / 68719476736)) (st2 := [(1, (108917793695 * r7 + 159561683699 * r8) / 68719476736)]) (hs2 := [jzQ_16, jgh, (8, [(4, 13), (4, 14)], []), jgh, jgh, jgh, jgh, jgh, jgh, (101, [], [0, r7, r8, 0, 0, 0]), (101, [], [k86_0, k86_1, k86_2, k86_3, k86_4, k86_5]), jgh, jgh, jgh, jgh]) (jQl_sp45_116 (d := 0) (by omega) (by omega)) (by rfl) (by rfl) (by rfl) (by rfl) ⟨rfl, rfl, rfl, rfl, trivial⟩ (by rfl) (by rfl) (by omega) (by show 15 ≤ 15; omega) (by omega) (by omega) rfl rfl ?_
  have hb_q1 : (-60) ≤ (108917793695 * r7 + 159561683699 * r8) / 68719476736 ∧ (108917793695 * r7 + 159561683699 * r8) / 68719476736 ≤ 60 := ⟨by omega, by omega⟩
  generalize hq_q1 : (108917793695 * r7 + 159561683699 * r8) / 68719476736 = q1 at hb_q1 g_1 ⊢
  refine jT_xlstore (v := (1, q1)) (LN := [(5, (1, q1)), (0, (4, 0)), (1, (0, r7)), (2, (0, r8)), (3, (4, 1)), (4, (0, o4))]) (pcN := 71) jIQ_161_69 rfl rfl rfl rfl ?_
  have g_2 : 0 ≤ (-68719476736) * q1 + 108917793694 * r7 + 159561683698 * r8 - 1 := by have := jcg (b := r7) (c := r8) (by omega) (by omega) (by omega); rw [hq_q1] at this; omega
  have g_3 : 0 ≤ (-68719476736) * q1 + 108917793694 * r7 + 159561683700 * r8 - 1 := by have := jcg (b := r7) (c := r8) (by omega) (by omega) (by omega); rw [hq_q1] at this; omega
  have g_4 : 0 ≤ (-68719476736) * q1 + 108917793696 * r7 + 159561683698 * r8 - 1 := by have := jcg (b := r7) (c := r8) (by omega) (by omega) (by omega); rw [hq_q1] at this; omega
  have g_5 : 0 ≤ (-68719476736) * q1 + 108917793696 * r7 + 159561683700 * r8 - 1 := by have := jcg (b := r7) (c := r8) (by omega) (by omega) (by omega); rw [hq_q1] at this; omega
  refine jT_xiload (v := (0, o4)) (pcN := 73) jIQ_161_71 rfl rfl rfl ?_
  refine jT_ifF (a := o4) (t := 107) (by rfl) (by rfl) (by rfl) (jw_idd (by omega) (by omega)) (by simp only [jcP] <;> omega) ?_
  refine jT_xiload_n (v := (0, r7)) (pcN := 77) jIQ_161_76 rfl rfl rfl ?_
  refine jT_xi2l (x := r7) (z := r7) (pcN := 78) jIQ_161_77 rfl (jw_idd (by omega) (by omega)) rfl ?_
  refine jT_xaload_n (v := (4, 0)) (pcN := 79) jIQ_161_78 rfl rfl rfl ?_
  refine jT_xgetf (a := 0) (t := 1) (ci := 13) (fi := 8) (c := jzQ_16) (v := (4, 10)) (pcN := 82) jIQ_161_79 rfl rfl rfl rfl rfl rfl rfl ?_
  refine jT_xiconst (k := 1) (pcN := 83) jIQ_161_82 rfl ?_
  refine jT_lald (x := k86_1) (a := 10) (j := 1) (fs := []) (X := [k86_0, k86_1, k86_2, k86_3, k86_4, k86_5]) jIQ_161_83 rfl rfl rfl rfl ?_
  refine jT_eq (LN := [(5, (1, q1)), (0, (4, 0)), (1, (0, r7)), (2, (0, r8)), (3, (4, 1)), (4, (0, o4))]) (stN := [(1, k86_1), (1, r7)]) (hsN := [jzQ_16, jgh, (8, [(4, 13), (4, 14)], []), jgh, jgh, jgh, jgh, jgh, jgh, (101, [], [0, r7, r8, 0, 0, 0]), (101, [], [k86_0, k86_1, k86_2, k86_3, k86_4, k86_5]), jgh, jgh, jgh, jgh]) rfl rfl rfl ?_
  refine jT_xlmul (x := r7) (y := k86_1) (z := r7 * k86_1) (pcN := 85) jIQ_161_84 rfl rfl rfl ?_
  have hb_q2 := jmul_b2 (x := r7) (y := k86_1) (k := 1) (l := 2) (m := 20) (n := 158) (by omega) (by omega) (by omega) (by omega) (by omega) (by omega)
  have hb_q2 : 2 ≤ r7 * k86_1 ∧ r7 * k86_1 ≤ 3160 := ⟨by omega, by omega⟩
  generalize hq_q2 : r7 * k86_1 = q2 at hb_q2 g_1 ⊢
  refine jT_xiload_n (v := (0, r8)) (pcN := 86) jIQ_161_85 rfl rfl rfl ?_
  refine jT_xi2l (x := r8) (z := r8) (pcN := 87) jIQ_161_86 rfl (jw_idd (by omega) (by omega)) rfl ?_
  refine jT_xaload_n (v := (4, 0)) (pcN := 88) jIQ_161_87 rfl rfl rfl ?_
  refine jT_xgetf (a := 0) (t := 1) (ci := 13) (fi := 8) (c := jzQ_16) (v := (4, 10)) (pcN := 91) jIQ_161_88 rfl rfl rfl rfl rfl rfl rfl ?_
  refine jT_xiconst (k := 2) (pcN := 92) jIQ_161_91 rfl ?_
  refine jT_lald (x := k86_2) (a := 10) (j := 2) (fs := []) (X := [k86_0, k86_1, k86_2, k86_3, k86_4, k86_5]) jIQ_161_92 rfl rfl rfl rfl ?_
  refine jT_eq (LN := [(5, (1, q1)), (0, (4, 0)), (1, (0, r7)), (2, (0, r8)), (3, (4, 1)), (4, (0, o4))]) (stN := [(1, k86_2), (1, r8), (1, q2)]) (hsN := [jzQ_16, jgh, (8, [(4, 13), (4, 14)], []), jgh, jgh, jgh, jgh, jgh, jgh, (101, [], [0, r7, r8, 0, 0, 0]), (101, [], [k86_0, k86_1, k86_2, k86_3, k86_4, k86_5]), jgh, jgh, jgh, jgh]) rfl rfl rfl ?_
  refine jT_xlmul (x := r8) (y := k86_2) (z := r8 * k86_2) (pcN := 94) jIQ_161_93 rfl rfl rfl ?_
  have hb_q3 := jmul_bs (x := r8) (y := k86_2) (m := 10) (n := 232) (by omega) (by omega) (by omega) (by omega)
  have hb_q3 : (-2320) ≤ r8 * k86_2 ∧ r8 * k86_2 ≤ 2320 := ⟨by omega, by omega⟩
  generalize hq_q3 : r8 * k86_2 = q3 at hb_q3 g_1 ⊢
  refine jT_xladd (x := q2) (y := q3) (z := q2 + q3) (pcN := 95) jIQ_161_94 rfl (rfl) rfl ?_
  refine jT_xlload (v := (1, q1)) (pcN := 97) jIQ_161_95 rfl rfl rfl ?_
  refine jT_xiload (v := (0, o4)) (pcN := 99) jIQ_161_97 rfl rfl rfl ?_
  refine jT_xi2l (x := o4) (z := o4) (pcN := 100) jIQ_161_99 rfl (jw_idd (by omega) (by omega)) rfl ?_
  refine jT_xlmul (x := q1) (y := o4) (z := q1 * o4) (pcN := 101) jIQ_161_100 rfl rfl rfl ?_
  have hb_q4 := jmul_bs (x := q1) (y := o4) (m := 60) (n := 100) (by omega) (by omega) (by omega) (by omega)
  have hb_q4 : (-6000) ≤ q1 * o4 ∧ q1 * o4 ≤ 6000 := ⟨by omega, by omega⟩
  generalize hq_q4 : q1 * o4 = q4 at hb_q4 g_1 ⊢
  refine jT_lcmp (a := q2 + q3) (b := q4) (z := 1) (by rfl) (by rfl) (jwl_idd (by omega) (by omega)) (jwl_idd (by omega) (by omega)) (by rw [decide_eq_true (show (q4 : Int) < q2 + q3 by omega)]; rfl) ?_
  refine jT_xifF (t := 107) (pcN := 105) jIQ_161_102 rfl (by decide +kernel) rfl rfl ?_
  refine jT_xiconst (k := 0) (pcN := 106) jIQ_161_105 rfl ?_
  subst hq_q4
  subst hq_q3
  subst hq_q2
  subst hq_q1
  exact jT_ret rfl (by decide) (by show 15 ≤ 15; omega) (by omega) (by omega) ⟨rfl, rfl, rfl⟩
theorem jQ_161_224 {xs : List Int} {d : Nat} {k86_0 k86_1 k86_2 k86_3 k86_4 k86_5 o4 r7 r8 u85_0 u85_1 u85_2 u85_3 u85_4 u85_5 : Int} (h_k86_0 : 1 ≤ k86_0 ∧ k86_0 ≤ 100) (h_k86_1 : 2 ≤ k86_1 ∧ k86_1 ≤ 158) (h_k86_2 : 2 ≤ k86_2 ∧ k86_2 ≤ 232) (h_k86_3 : 3 ≤ k86_3 ∧ k86_3 ≤ 281) (h_k86_4 : 3 ≤ k86_4 ∧ k86_4 ≤ 346) (h_k86_5 : 4 ≤ k86_5 ∧ k86_5 ≤ 370) (h_o4 : 1 ≤ o4 ∧ o4 ≤ 100) (h_r7 : (-20) ≤ r7 ∧ r7 ≤ 20) (h_r8 : (-10) ≤ r8 ∧ r8 ≤ 10) (g_0 : 0 ≤ r7) (g_1 : r7 ≤ 0) (g_2 : 0 < r8) (g_3 : -(((108917793695 * r7 + 159561683699 * r8) / 68719476736) * o4) + (r7 * k86_1) + (r8 * k86_2) - 1 < 0) (g_4 : -(((108917793695 * r7 + 159561683699 * r8) / 68719476736) * o4) + (r7 * k86_1) + (r8 * k86_2) < 0) : jT xs (d + 2) 161 15 0 [(0, (4, 0)), (1, (0, r7)), (2, (0, r8)), (3, (4, 1)), (4, (0, o4))] [] [jzQ_16, jgh, (8, [(4, 13), (4, 14)], []), jgh, jgh, jgh, jgh, jgh, jgh, (101, [], [u85_0, u85_1, u85_2, u85_3, u85_4, u85_5]), (101, [], [k86_0, k86_1, k86_2, k86_3, k86_4, k86_5]), jgh, jgh, jgh, jgh] 0 0 (fun k v hsN => k = 0 ∧ v = (0, 0) ∧ hsN = [jzQ_16, jgh, (8, [(4, 13), (4, 14)], []), jgh, jgh, jgh, jgh, jgh, jgh, (101, [], [0, r7, r8, 0, 0, 0]), (101, [], [k86_0, k86_1, k86_2, k86_3, k86_4, k86_5]), jgh, jgh, jgh, jgh]) := by
  refine jT_xiload_n (v := (0, r7)) (pcN := 1) jIQ_161_0 rfl rfl rfl ?_
  refine jT_ifF (a := r7) (t := 10) (by rfl) (by rfl) (by rfl) (jw_idd (by omega) (by omega)) (by simp only [jcP] <;> omega) ?_
  refine jT_xiload_n (v := (0, r8)) (pcN := 5) jIQ_161_4 rfl rfl rfl ?_
  refine jT_ifT (a := r8) (t := 10) (by rfl) (by rfl) (by rfl) (jw_idd (by omega) (by omega)) (by simp only [jcP] <;> omega) ?_
  refine jT_xiconst (k := 0) (pcN := 11) jIQ_161_10 rfl ?_
  refine jT_xistore (v := (0, 0)) (LN := [(5, (0, 0)), (0, (4, 0)), (1, (0, r7)), (2, (0, r8)), (3, (4, 1)), (4, (0, o4))]) (pcN := 13) jIQ_161_11 rfl rfl rfl rfl ?_
  refine jT_xiload (v := (0, 0)) (pcN := 15) jIQ_161_13 rfl rfl rfl ?_
  refine jT_xbipush (k := 6) (pcN := 17) jIQ_161_15 (by decide) rfl ?_
  refine jT_xicF (t := 56) (pcN := 20) jIQ_161_17 rfl (by decide +kernel) rfl rfl ?_
  refine jT_xaload_n (v := (4, 0)) (pcN := 21) jIQ_161_20 rfl rfl rfl ?_
  refine jT_xgetf (a := 0) (t := 1) (ci := 13) (fi := 7) (c := jzQ_16) (v := (4, 9)) (pcN := 24) jIQ_161_21 rfl rfl rfl rfl rfl rfl rfl ?_
  refine jT_xiload (v := (0, 0)) (pcN := 26) jIQ_161_24 rfl rfl rfl ?_
  refine jT_xiload (v := (0, 0)) (pcN := 28) jIQ_161_26 rfl rfl rfl ?_
  refine jT_xiconst (k := 1) (pcN := 29) jIQ_161_28 rfl ?_
  refine jT_xicT (pcN := 37) jIQ_161_29 rfl (by decide +kernel) rfl ?_
  refine jT_xiload (v := (0, 0)) (pcN := 39) jIQ_161_37 rfl rfl rfl ?_
  refine jT_xiconst (k := 2) (pcN := 40) jIQ_161_39 rfl ?_
  refine jT_xicT (pcN := 48) jIQ_161_40 rfl (by decide +kernel) rfl ?_
  refine jT_xlconst (z := 0) (pcN := 49) jIQ_161_48 rfl rfl ?_
  refine jT_adv 1 (pcN := 50) (LN := [(5, (0, 0)), (0, (4, 0)), (1, (0, r7)), (2, (0, r8)), (3, (4, 1)), (4, (0, o4))]) (stN := []) (hsN := [jzQ_16, jgh, (8, [(4, 13), (4, 14)], []), jgh, jgh, jgh, jgh, jgh, jgh, (101, [], [0, u85_1, u85_2, u85_3, u85_4, u85_5]), (101, [], [k86_0, k86_1, k86_2, k86_3, k86_4, k86_5]), jgh, jgh, jgh, jgh]) (c1 := 0) (s1 := 0) (c2 := 0) (s2 := 0) (by exact rfl) ?_ (by omega) (by omega)
  refine jT_xiinc (x := 0) (z := 1) (LN := [(5, (0, 1)), (0, (4, 0)), (1, (0, r7)), (2, (0, r8)), (3, (4, 1)), (4, (0, o4))]) (pcN := 53) jIQ_161_50 rfl rfl (by decide) rfl rfl ?_
  refine jT_xgoto (pcN := 13) jIQ_161_53 rfl ?_
  refine jT_xiload (v := (0, 1)) (pcN := 15) jIQ_161_13 rfl rfl rfl ?_
  refine jT_xbipush (k := 6) (pcN := 17) jIQ_161_15 (by decide) rfl ?_
  refine jT_xicF (t := 56) (pcN := 20) jIQ_161_17 rfl (by decide +kernel) rfl rfl ?_
  refine jT_xaload_n (v := (4, 0)) (pcN := 21) jIQ_161_20 rfl rfl rfl ?_
  refine jT_xgetf (a := 0) (t := 1) (ci := 13) (fi := 7) (c := jzQ_16) (v := (4, 9)) (pcN := 24) jIQ_161_21 rfl rfl rfl rfl rfl rfl rfl ?_
  refine jT_xiload (v := (0, 1)) (pcN := 26) jIQ_161_24 rfl rfl rfl ?_
  refine jT_xiload (v := (0, 1)) (pcN := 28) jIQ_161_26 rfl rfl rfl ?_
  refine jT_xiconst (k := 1) (pcN := 29) jIQ_161_28 rfl ?_
  refine jT_xicF (t := 37) (pcN := 32) jIQ_161_29 rfl (by decide +kernel) rfl rfl ?_
  refine jT_xiload_n (v := (0, r7)) (pcN := 33) jIQ_161_32 rfl rfl rfl ?_
  refine jT_xi2l (x := r7) (z := r7) (pcN := 34) jIQ_161_33 rfl (jw_idd (by omega) (by omega)) rfl ?_
  refine jT_xgoto (pcN := 49) jIQ_161_34 rfl ?_
  refine jT_adv 1 (pcN := 50) (LN := [(5, (0, 1)), (0, (4, 0)), (1, (0, r7)), (2, (0, r8)), (3, (4, 1)), (4, (0, o4))]) (stN := []) (hsN := [jzQ_16, jgh, (8, [(4, 13), (4, 14)], []), jgh, jgh, jgh, jgh, jgh, jgh, (101, [], [0, r7, u85_2, u85_3, u85_4, u85_5]), (101, [], [k86_0, k86_1, k86_2, k86_3, k86_4, k86_5]), jgh, jgh, jgh, jgh]) (c1 := 0) (s1 := 0) (c2 := 0) (s2 := 0) (by exact rfl) ?_ (by omega) (by omega)
  refine jT_xiinc (x := 1) (z := 2) (LN := [(5, (0, 2)), (0, (4, 0)), (1, (0, r7)), (2, (0, r8)), (3, (4, 1)), (4, (0, o4))]) (pcN := 53) jIQ_161_50 rfl rfl (by decide) rfl rfl ?_
  refine jT_xgoto (pcN := 13) jIQ_161_53 rfl ?_
  refine jT_xiload (v := (0, 2)) (pcN := 15) jIQ_161_13 rfl rfl rfl ?_
  refine jT_xbipush (k := 6) (pcN := 17) jIQ_161_15 (by decide) rfl ?_
  refine jT_xicF (t := 56) (pcN := 20) jIQ_161_17 rfl (by decide +kernel) rfl rfl ?_
  refine jT_xaload_n (v := (4, 0)) (pcN := 21) jIQ_161_20 rfl rfl rfl ?_
  refine jT_xgetf (a := 0) (t := 1) (ci := 13) (fi := 7) (c := jzQ_16) (v := (4, 9)) (pcN := 24) jIQ_161_21 rfl rfl rfl rfl rfl rfl rfl ?_
  refine jT_xiload (v := (0, 2)) (pcN := 26) jIQ_161_24 rfl rfl rfl ?_
  refine jT_xiload (v := (0, 2)) (pcN := 28) jIQ_161_26 rfl rfl rfl ?_
  refine jT_xiconst (k := 1) (pcN := 29) jIQ_161_28 rfl ?_
  refine jT_xicT (pcN := 37) jIQ_161_29 rfl (by decide +kernel) rfl ?_
  refine jT_xiload (v := (0, 2)) (pcN := 39) jIQ_161_37 rfl rfl rfl ?_
  refine jT_xiconst (k := 2) (pcN := 40) jIQ_161_39 rfl ?_
  refine jT_xicF (t := 48) (pcN := 43) jIQ_161_40 rfl (by decide +kernel) rfl rfl ?_
  refine jT_xiload_n (v := (0, r8)) (pcN := 44) jIQ_161_43 rfl rfl rfl ?_
  refine jT_xi2l (x := r8) (z := r8) (pcN := 45) jIQ_161_44 rfl (jw_idd (by omega) (by omega)) rfl ?_
  refine jT_xgoto (pcN := 49) jIQ_161_45 rfl ?_
  refine jT_adv 1 (pcN := 50) (LN := [(5, (0, 2)), (0, (4, 0)), (1, (0, r7)), (2, (0, r8)), (3, (4, 1)), (4, (0, o4))]) (stN := []) (hsN := [jzQ_16, jgh, (8, [(4, 13), (4, 14)], []), jgh, jgh, jgh, jgh, jgh, jgh, (101, [], [0, r7, r8, u85_3, u85_4, u85_5]), (101, [], [k86_0, k86_1, k86_2, k86_3, k86_4, k86_5]), jgh, jgh, jgh, jgh]) (c1 := 0) (s1 := 0) (c2 := 0) (s2 := 0) (by exact rfl) ?_ (by omega) (by omega)
  refine jT_xiinc (x := 2) (z := 3) (LN := [(5, (0, 3)), (0, (4, 0)), (1, (0, r7)), (2, (0, r8)), (3, (4, 1)), (4, (0, o4))]) (pcN := 53) jIQ_161_50 rfl rfl (by decide) rfl rfl ?_
  refine jT_xgoto (pcN := 13) jIQ_161_53 rfl ?_
  refine jT_xiload (v := (0, 3)) (pcN := 15) jIQ_161_13 rfl rfl rfl ?_
  refine jT_xbipush (k := 6) (pcN := 17) jIQ_161_15 (by decide) rfl ?_
  refine jT_xicF (t := 56) (pcN := 20) jIQ_161_17 rfl (by decide +kernel) rfl rfl ?_
  refine jT_xaload_n (v := (4, 0)) (pcN := 21) jIQ_161_20 rfl rfl rfl ?_
  refine jT_xgetf (a := 0) (t := 1) (ci := 13) (fi := 7) (c := jzQ_16) (v := (4, 9)) (pcN := 24) jIQ_161_21 rfl rfl rfl rfl rfl rfl rfl ?_
  refine jT_xiload (v := (0, 3)) (pcN := 26) jIQ_161_24 rfl rfl rfl ?_
  refine jT_xiload (v := (0, 3)) (pcN := 28) jIQ_161_26 rfl rfl rfl ?_
  refine jT_xiconst (k := 1) (pcN := 29) jIQ_161_28 rfl ?_
  refine jT_xicT (pcN := 37) jIQ_161_29 rfl (by decide +kernel) rfl ?_
  refine jT_xiload (v := (0, 3)) (pcN := 39) jIQ_161_37 rfl rfl rfl ?_
  refine jT_xiconst (k := 2) (pcN := 40) jIQ_161_39 rfl ?_
  refine jT_xicT (pcN := 48) jIQ_161_40 rfl (by decide +kernel) rfl ?_
  refine jT_xlconst (z := 0) (pcN := 49) jIQ_161_48 rfl rfl ?_
  refine jT_adv 1 (pcN := 50) (LN := [(5, (0, 3)), (0, (4, 0)), (1, (0, r7)), (2, (0, r8)), (3, (4, 1)), (4, (0, o4))]) (stN := []) (hsN := [jzQ_16, jgh, (8, [(4, 13), (4, 14)], []), jgh, jgh, jgh, jgh, jgh, jgh, (101, [], [0, r7, r8, 0, u85_4, u85_5]), (101, [], [k86_0, k86_1, k86_2, k86_3, k86_4, k86_5]), jgh, jgh, jgh, jgh]) (c1 := 0) (s1 := 0) (c2 := 0) (s2 := 0) (by exact rfl) ?_ (by omega) (by omega)
  refine jT_xiinc (x := 3) (z := 4) (LN := [(5, (0, 4)), (0, (4, 0)), (1, (0, r7)), (2, (0, r8)), (3, (4, 1)), (4, (0, o4))]) (pcN := 53) jIQ_161_50 rfl rfl (by decide) rfl rfl ?_
  refine jT_xgoto (pcN := 13) jIQ_161_53 rfl ?_
  refine jT_xiload (v := (0, 4)) (pcN := 15) jIQ_161_13 rfl rfl rfl ?_
  refine jT_xbipush (k := 6) (pcN := 17) jIQ_161_15 (by decide) rfl ?_
  refine jT_xicF (t := 56) (pcN := 20) jIQ_161_17 rfl (by decide +kernel) rfl rfl ?_
  refine jT_xaload_n (v := (4, 0)) (pcN := 21) jIQ_161_20 rfl rfl rfl ?_
  refine jT_xgetf (a := 0) (t := 1) (ci := 13) (fi := 7) (c := jzQ_16) (v := (4, 9)) (pcN := 24) jIQ_161_21 rfl rfl rfl rfl rfl rfl rfl ?_
  refine jT_xiload (v := (0, 4)) (pcN := 26) jIQ_161_24 rfl rfl rfl ?_
  refine jT_xiload (v := (0, 4)) (pcN := 28) jIQ_161_26 rfl rfl rfl ?_
  refine jT_xiconst (k := 1) (pcN := 29) jIQ_161_28 rfl ?_
  refine jT_xicT (pcN := 37) jIQ_161_29 rfl (by decide +kernel) rfl ?_
  refine jT_xiload (v := (0, 4)) (pcN := 39) jIQ_161_37 rfl rfl rfl ?_
  refine jT_xiconst (k := 2) (pcN := 40) jIQ_161_39 rfl ?_
  refine jT_xicT (pcN := 48) jIQ_161_40 rfl (by decide +kernel) rfl ?_
  refine jT_xlconst (z := 0) (pcN := 49) jIQ_161_48 rfl rfl ?_
  refine jT_adv 1 (pcN := 50) (LN := [(5, (0, 4)), (0, (4, 0)), (1, (0, r7)), (2, (0, r8)), (3, (4, 1)), (4, (0, o4))]) (stN := []) (hsN := [jzQ_16, jgh, (8, [(4, 13), (4, 14)], []), jgh, jgh, jgh, jgh, jgh, jgh, (101, [], [0, r7, r8, 0, 0, u85_5]), (101, [], [k86_0, k86_1, k86_2, k86_3, k86_4, k86_5]), jgh, jgh, jgh, jgh]) (c1 := 0) (s1 := 0) (c2 := 0) (s2 := 0) (by exact rfl) ?_ (by omega) (by omega)
  refine jT_xiinc (x := 4) (z := 5) (LN := [(5, (0, 5)), (0, (4, 0)), (1, (0, r7)), (2, (0, r8)), (3, (4, 1)), (4, (0, o4))]) (pcN := 53) jIQ_161_50 rfl rfl (by decide) rfl rfl ?_
  refine jT_xgoto (pcN := 13) jIQ_161_53 rfl ?_
  refine jT_xiload (v := (0, 5)) (pcN := 15) jIQ_161_13 rfl rfl rfl ?_
  refine jT_xbipush (k := 6) (pcN := 17) jIQ_161_15 (by decide) rfl ?_
  refine jT_xicF (t := 56) (pcN := 20) jIQ_161_17 rfl (by decide +kernel) rfl rfl ?_
  refine jT_xaload_n (v := (4, 0)) (pcN := 21) jIQ_161_20 rfl rfl rfl ?_
  refine jT_xgetf (a := 0) (t := 1) (ci := 13) (fi := 7) (c := jzQ_16) (v := (4, 9)) (pcN := 24) jIQ_161_21 rfl rfl rfl rfl rfl rfl rfl ?_
  refine jT_xiload (v := (0, 5)) (pcN := 26) jIQ_161_24 rfl rfl rfl ?_
  refine jT_xiload (v := (0, 5)) (pcN := 28) jIQ_161_26 rfl rfl rfl ?_
  refine jT_xiconst (k := 1) (pcN := 29) jIQ_161_28 rfl ?_
  refine jT_xicT (pcN := 37) jIQ_161_29 rfl (by decide +kernel) rfl ?_
  refine jT_xiload (v := (0, 5)) (pcN := 39) jIQ_161_37 rfl rfl rfl ?_
  refine jT_xiconst (k := 2) (pcN := 40) jIQ_161_39 rfl ?_
  refine jT_xicT (pcN := 48) jIQ_161_40 rfl (by decide +kernel) rfl ?_
  refine jT_xlconst (z := 0) (pcN := 49) jIQ_161_48 rfl rfl ?_
  refine jT_adv 1 (pcN := 50) (LN := [(5, (0, 5)), (0, (4, 0)), (1, (0, r7)), (2, (0, r8)), (3, (4, 1)), (4, (0, o4))]) (stN := []) (hsN := [jzQ_16, jgh, (8, [(4, 13), (4, 14)], []), jgh, jgh, jgh, jgh, jgh, jgh, (101, [], [0, r7, r8, 0, 0, 0]), (101, [], [k86_0, k86_1, k86_2, k86_3, k86_4, k86_5]), jgh, jgh, jgh, jgh]) (c1 := 0) (s1 := 0) (c2 := 0) (s2 := 0) (by exact rfl) ?_ (by omega) (by omega)
  refine jT_xiinc (x := 5) (z := 6) (LN := [(5, (0, 6)), (0, (4, 0)), (1, (0, r7)), (2, (0, r8)), (3, (4, 1)), (4, (0, o4))]) (pcN := 53) jIQ_161_50 rfl rfl (by decide) rfl rfl ?_
  refine jT_xgoto (pcN := 13) jIQ_161_53 rfl ?_
  refine jT_xiload (v := (0, 6)) (pcN := 15) jIQ_161_13 rfl rfl rfl ?_
  refine jT_xbipush (k := 6) (pcN := 17) jIQ_161_15 (by decide) rfl ?_
  refine jT_xicT (pcN := 56) jIQ_161_17 rfl (by decide +kernel) rfl ?_
  refine jT_xaload_n (v := (4, 0)) (pcN := 57) jIQ_161_56 rfl rfl rfl ?_
  refine jT_xgetf (a := 0) (t := 1) (ci := 13) (fi := 0) (c := jzQ_16) (v := (4, 2)) (pcN := 60) jIQ_161_57 rfl rfl rfl rfl rfl rfl rfl ?_
  refine jT_xaload_n (v := (4, 0)) (pcN := 61) jIQ_161_60 rfl rfl rfl ?_
  refine jT_xgetf (a := 0) (t := 1) (ci := 13) (fi := 7) (c := jzQ_16) (v := (4, 9)) (pcN := 64) jIQ_161_61 rfl rfl rfl rfl rfl rfl rfl ?_
  refine jT_xlconst (z := 1) (pcN := 65) jIQ_161_64 rfl rfl ?_
  refine jT_xlconst (z := 1) (pcN := 66) jIQ_161_65 rfl rfl ?_
  refine jT_callA [2, 9, 13, 14] (y := 45) (pcN := 69) (dC := 1) (bc1 := 0) (bc2 := 0) (c1 := 0) (c2 := 0) (as := [(4, 2), (4, 9), (1, 1), (1, 1)]) (asC := [(4, 0), (4, 1), (1, 1), (1, 1)]) (LN := [(5, (0, 6)), (0, (4, 0)), (1, (0, r7)), (2, (0, r8)), (3, (4, 1)), (4, (0, o4))]) (stN := []) (hsC := [(8, [(4, 2), (4, 3)], []), (101, [], [0, r7, r8, 0, 0, 0]), jgh, jgh]) (ex := []) (v := (1, (108917793695 * r7 + 159561683699 * r8) / 68719476736)) (st2 := [(1, (108917793695 * r7 + 159561683699 * r8) / 68719476736)]) (hs2 := [jzQ_16, jgh, (8, [(4, 13), (4, 14)], []), jgh, jgh, jgh, jgh, jgh, jgh, (101, [], [0, r7, r8, 0, 0, 0]), (101, [], [k86_0, k86_1, k86_2, k86_3, k86_4, k86_5]), jgh, jgh, jgh, jgh]) (jQl_sp45_116 (d := 0) (by omega) (by omega)) (by rfl) (by rfl) (by rfl) (by rfl) ⟨rfl, rfl, rfl, rfl, trivial⟩ (by rfl) (by rfl) (by omega) (by show 15 ≤ 15; omega) (by omega) (by omega) rfl rfl ?_
  have hb_q1 : (-60) ≤ (108917793695 * r7 + 159561683699 * r8) / 68719476736 ∧ (108917793695 * r7 + 159561683699 * r8) / 68719476736 ≤ 60 := ⟨by omega, by omega⟩
  generalize hq_q1 : (108917793695 * r7 + 159561683699 * r8) / 68719476736 = q1 at hb_q1 g_3 g_4 ⊢
  refine jT_xlstore (v := (1, q1)) (LN := [(5, (1, q1)), (0, (4, 0)), (1, (0, r7)), (2, (0, r8)), (3, (4, 1)), (4, (0, o4))]) (pcN := 71) jIQ_161_69 rfl rfl rfl rfl ?_
  have g_5 : 0 ≤ (-68719476736) * q1 + 108917793694 * r7 + 159561683698 * r8 - 1 := by have := jcg (b := r7) (c := r8) (by omega) (by omega) (by omega); rw [hq_q1] at this; omega
  have g_6 : 0 ≤ (-68719476736) * q1 + 108917793694 * r7 + 159561683700 * r8 - 1 := by have := jcg (b := r7) (c := r8) (by omega) (by omega) (by omega); rw [hq_q1] at this; omega
  have g_7 : 0 ≤ (-68719476736) * q1 + 108917793696 * r7 + 159561683698 * r8 - 1 := by have := jcg (b := r7) (c := r8) (by omega) (by omega) (by omega); rw [hq_q1] at this; omega
  have g_8 : 0 ≤ (-68719476736) * q1 + 108917793696 * r7 + 159561683700 * r8 - 1 := by have := jcg (b := r7) (c := r8) (by omega) (by omega) (by omega); rw [hq_q1] at this; omega
  refine jT_xiload (v := (0, o4)) (pcN := 73) jIQ_161_71 rfl rfl rfl ?_
  refine jT_ifF (a := o4) (t := 107) (by rfl) (by rfl) (by rfl) (jw_idd (by omega) (by omega)) (by simp only [jcP] <;> omega) ?_
  refine jT_xiload_n (v := (0, r7)) (pcN := 77) jIQ_161_76 rfl rfl rfl ?_
  refine jT_xi2l (x := r7) (z := r7) (pcN := 78) jIQ_161_77 rfl (jw_idd (by omega) (by omega)) rfl ?_
  refine jT_xaload_n (v := (4, 0)) (pcN := 79) jIQ_161_78 rfl rfl rfl ?_
  refine jT_xgetf (a := 0) (t := 1) (ci := 13) (fi := 8) (c := jzQ_16) (v := (4, 10)) (pcN := 82) jIQ_161_79 rfl rfl rfl rfl rfl rfl rfl ?_
  refine jT_xiconst (k := 1) (pcN := 83) jIQ_161_82 rfl ?_
  refine jT_lald (x := k86_1) (a := 10) (j := 1) (fs := []) (X := [k86_0, k86_1, k86_2, k86_3, k86_4, k86_5]) jIQ_161_83 rfl rfl rfl rfl ?_
  refine jT_eq (LN := [(5, (1, q1)), (0, (4, 0)), (1, (0, r7)), (2, (0, r8)), (3, (4, 1)), (4, (0, o4))]) (stN := [(1, k86_1), (1, r7)]) (hsN := [jzQ_16, jgh, (8, [(4, 13), (4, 14)], []), jgh, jgh, jgh, jgh, jgh, jgh, (101, [], [0, r7, r8, 0, 0, 0]), (101, [], [k86_0, k86_1, k86_2, k86_3, k86_4, k86_5]), jgh, jgh, jgh, jgh]) rfl rfl rfl ?_
  refine jT_xlmul (x := r7) (y := k86_1) (z := r7 * k86_1) (pcN := 85) jIQ_161_84 rfl rfl rfl ?_
  have hb_q2 := jmul_b (x := r7) (y := k86_1) (m := 20) (n := 158) (by omega) (by omega) (by omega) (by omega)
  have hb_q2 : 0 ≤ r7 * k86_1 ∧ r7 * k86_1 ≤ 3160 := ⟨hb_q2.1, by omega⟩
  generalize hq_q2 : r7 * k86_1 = q2 at hb_q2 g_3 g_4 ⊢
  refine jT_xiload_n (v := (0, r8)) (pcN := 86) jIQ_161_85 rfl rfl rfl ?_
  refine jT_xi2l (x := r8) (z := r8) (pcN := 87) jIQ_161_86 rfl (jw_idd (by omega) (by omega)) rfl ?_
  refine jT_xaload_n (v := (4, 0)) (pcN := 88) jIQ_161_87 rfl rfl rfl ?_
  refine jT_xgetf (a := 0) (t := 1) (ci := 13) (fi := 8) (c := jzQ_16) (v := (4, 10)) (pcN := 91) jIQ_161_88 rfl rfl rfl rfl rfl rfl rfl ?_
  refine jT_xiconst (k := 2) (pcN := 92) jIQ_161_91 rfl ?_
  refine jT_lald (x := k86_2) (a := 10) (j := 2) (fs := []) (X := [k86_0, k86_1, k86_2, k86_3, k86_4, k86_5]) jIQ_161_92 rfl rfl rfl rfl ?_
  refine jT_eq (LN := [(5, (1, q1)), (0, (4, 0)), (1, (0, r7)), (2, (0, r8)), (3, (4, 1)), (4, (0, o4))]) (stN := [(1, k86_2), (1, r8), (1, q2)]) (hsN := [jzQ_16, jgh, (8, [(4, 13), (4, 14)], []), jgh, jgh, jgh, jgh, jgh, jgh, (101, [], [0, r7, r8, 0, 0, 0]), (101, [], [k86_0, k86_1, k86_2, k86_3, k86_4, k86_5]), jgh, jgh, jgh, jgh]) rfl rfl rfl ?_
  refine jT_xlmul (x := r8) (y := k86_2) (z := r8 * k86_2) (pcN := 94) jIQ_161_93 rfl rfl rfl ?_
  have hb_q3 := jmul_b2 (x := r8) (y := k86_2) (k := 1) (l := 2) (m := 10) (n := 232) (by omega) (by omega) (by omega) (by omega) (by omega) (by omega)
  have hb_q3 : 2 ≤ r8 * k86_2 ∧ r8 * k86_2 ≤ 2320 := ⟨by omega, by omega⟩
  generalize hq_q3 : r8 * k86_2 = q3 at hb_q3 g_3 g_4 ⊢
  refine jT_xladd (x := q2) (y := q3) (z := q2 + q3) (pcN := 95) jIQ_161_94 rfl (rfl) rfl ?_
  refine jT_xlload (v := (1, q1)) (pcN := 97) jIQ_161_95 rfl rfl rfl ?_
  refine jT_xiload (v := (0, o4)) (pcN := 99) jIQ_161_97 rfl rfl rfl ?_
  refine jT_xi2l (x := o4) (z := o4) (pcN := 100) jIQ_161_99 rfl (jw_idd (by omega) (by omega)) rfl ?_
  refine jT_xlmul (x := q1) (y := o4) (z := q1 * o4) (pcN := 101) jIQ_161_100 rfl rfl rfl ?_
  have hb_q4 := jmul_bs (x := q1) (y := o4) (m := 60) (n := 100) (by omega) (by omega) (by omega) (by omega)
  have hb_q4 : (-6000) ≤ q1 * o4 ∧ q1 * o4 ≤ 6000 := ⟨by omega, by omega⟩
  generalize hq_q4 : q1 * o4 = q4 at hb_q4 g_3 g_4 ⊢
  refine jT_lcmp (a := q2 + q3) (b := q4) (z := (-1)) (by rfl) (by rfl) (jwl_idd (by omega) (by omega)) (jwl_idd (by omega) (by omega)) (by rw [decide_eq_false (show ¬ ((q4 : Int) < q2 + q3) by omega), decide_eq_false (show ¬ ((q2 + q3 : Int) = q4) by omega)]; rfl) ?_
  refine jT_xifF (t := 107) (pcN := 105) jIQ_161_102 rfl (by decide +kernel) rfl rfl ?_
  refine jT_xiconst (k := 0) (pcN := 106) jIQ_161_105 rfl ?_
  subst hq_q4
  subst hq_q3
  subst hq_q2
  subst hq_q1
  exact jT_ret rfl (by decide) (by show 15 ≤ 15; omega) (by omega) (by omega) ⟨rfl, rfl, rfl⟩
theorem jQ_161_225 {xs : List Int} {d : Nat} {k86_0 k86_1 k86_2 k86_3 k86_4 k86_5 o4 r7 r8 u85_0 u85_1 u85_2 u85_3 u85_4 u85_5 : Int} (h_k86_0 : 1 ≤ k86_0 ∧ k86_0 ≤ 100) (h_k86_1 : 2 ≤ k86_1 ∧ k86_1 ≤ 158) (h_k86_2 : 2 ≤ k86_2 ∧ k86_2 ≤ 232) (h_k86_3 : 3 ≤ k86_3 ∧ k86_3 ≤ 281) (h_k86_4 : 3 ≤ k86_4 ∧ k86_4 ≤ 346) (h_k86_5 : 4 ≤ k86_5 ∧ k86_5 ≤ 370) (h_o4 : 1 ≤ o4 ∧ o4 ≤ 100) (h_r7 : (-20) ≤ r7 ∧ r7 ≤ 20) (h_r8 : (-10) ≤ r8 ∧ r8 ≤ 10) (g_0 : 0 ≤ r7) (g_1 : r7 ≤ 0) (g_2 : 0 < r8) (g_3 : -(((108917793695 * r7 + 159561683699 * r8) / 68719476736) * o4) + (r7 * k86_1) + (r8 * k86_2) - 1 < 0) (g_4 : 0 ≤ -(((108917793695 * r7 + 159561683699 * r8) / 68719476736) * o4) + (r7 * k86_1) + (r8 * k86_2)) : jT xs (d + 2) 161 16 0 [(0, (4, 0)), (1, (0, r7)), (2, (0, r8)), (3, (4, 1)), (4, (0, o4))] [] [jzQ_16, (4, [(4, 13), (1, 1)], []), (8, [(4, 14), (4, 15)], []), jgh, jgh, jgh, jgh, jgh, jgh, (101, [], [u85_0, u85_1, u85_2, u85_3, u85_4, u85_5]), (101, [], [k86_0, k86_1, k86_2, k86_3, k86_4, k86_5]), jgh, jgh, (101, [], [0, 0, 0, 0, 0, 0]), jgh, jgh] 0 0 (fun k v hsN => k = 0 ∧ v = (0, 0) ∧ hsN = [jzQ_16, (4, [(4, 13), (1, 1)], []), (8, [(4, 14), (4, 15)], []), jgh, jgh, jgh, jgh, jgh, jgh, (101, [], [(108917793695 * r7 + 159561683699 * r8) / 68719476736, -r7, -r8, 0, 0, 0]), (101, [], [k86_0, k86_1, k86_2, k86_3, k86_4, k86_5]), jgh, jgh, (101, [], [0, 0, 0, 0, 0, 0]), jgh, jgh]) := by
  refine jT_xiload_n (v := (0, r7)) (pcN := 1) jIQ_161_0 rfl rfl rfl ?_
  refine jT_ifF (a := r7) (t := 10) (by rfl) (by rfl) (by rfl) (jw_idd (by omega) (by omega)) (by simp only [jcP] <;> omega) ?_
  refine jT_xiload_n (v := (0, r8)) (pcN := 5) jIQ_161_4 rfl rfl rfl ?_
  refine jT_ifT (a := r8) (t := 10) (by rfl) (by rfl) (by rfl) (jw_idd (by omega) (by omega)) (by simp only [jcP] <;> omega) ?_
  refine jT_xiconst (k := 0) (pcN := 11) jIQ_161_10 rfl ?_
  refine jT_xistore (v := (0, 0)) (LN := [(5, (0, 0)), (0, (4, 0)), (1, (0, r7)), (2, (0, r8)), (3, (4, 1)), (4, (0, o4))]) (pcN := 13) jIQ_161_11 rfl rfl rfl rfl ?_
  refine jT_xiload (v := (0, 0)) (pcN := 15) jIQ_161_13 rfl rfl rfl ?_
  refine jT_xbipush (k := 6) (pcN := 17) jIQ_161_15 (by decide) rfl ?_
  refine jT_xicF (t := 56) (pcN := 20) jIQ_161_17 rfl (by decide +kernel) rfl rfl ?_
  refine jT_xaload_n (v := (4, 0)) (pcN := 21) jIQ_161_20 rfl rfl rfl ?_
  refine jT_xgetf (a := 0) (t := 1) (ci := 13) (fi := 7) (c := jzQ_16) (v := (4, 9)) (pcN := 24) jIQ_161_21 rfl rfl rfl rfl rfl rfl rfl ?_
  refine jT_xiload (v := (0, 0)) (pcN := 26) jIQ_161_24 rfl rfl rfl ?_
  refine jT_xiload (v := (0, 0)) (pcN := 28) jIQ_161_26 rfl rfl rfl ?_
  refine jT_xiconst (k := 1) (pcN := 29) jIQ_161_28 rfl ?_
  refine jT_xicT (pcN := 37) jIQ_161_29 rfl (by decide +kernel) rfl ?_
  refine jT_xiload (v := (0, 0)) (pcN := 39) jIQ_161_37 rfl rfl rfl ?_
  refine jT_xiconst (k := 2) (pcN := 40) jIQ_161_39 rfl ?_
  refine jT_xicT (pcN := 48) jIQ_161_40 rfl (by decide +kernel) rfl ?_
  refine jT_xlconst (z := 0) (pcN := 49) jIQ_161_48 rfl rfl ?_
  refine jT_adv 1 (pcN := 50) (LN := [(5, (0, 0)), (0, (4, 0)), (1, (0, r7)), (2, (0, r8)), (3, (4, 1)), (4, (0, o4))]) (stN := []) (hsN := [jzQ_16, (4, [(4, 13), (1, 1)], []), (8, [(4, 14), (4, 15)], []), jgh, jgh, jgh, jgh, jgh, jgh, (101, [], [0, u85_1, u85_2, u85_3, u85_4, u85_5]), (101, [], [k86_0, k86_1, k86_2, k86_3, k86_4, k86_5]), jgh, jgh, (101, [], [0, 0, 0, 0, 0, 0]), jgh, jgh]) (c1 := 0) (s1 := 0) (c2 := 0) (s2 := 0) (by exact rfl) ?_ (by omega) (by omega)
  refine jT_xiinc (x := 0) (z := 1) (LN := [(5, (0, 1)), (0, (4, 0)), (1, (0, r7)), (2, (0, r8)), (3, (4, 1)), (4, (0, o4))]) (pcN := 53) jIQ_161_50 rfl rfl (by decide) rfl rfl ?_
  refine jT_xgoto (pcN := 13) jIQ_161_53 rfl ?_
  refine jT_xiload (v := (0, 1)) (pcN := 15) jIQ_161_13 rfl rfl rfl ?_
  refine jT_xbipush (k := 6) (pcN := 17) jIQ_161_15 (by decide) rfl ?_
  refine jT_xicF (t := 56) (pcN := 20) jIQ_161_17 rfl (by decide +kernel) rfl rfl ?_
  refine jT_xaload_n (v := (4, 0)) (pcN := 21) jIQ_161_20 rfl rfl rfl ?_
  refine jT_xgetf (a := 0) (t := 1) (ci := 13) (fi := 7) (c := jzQ_16) (v := (4, 9)) (pcN := 24) jIQ_161_21 rfl rfl rfl rfl rfl rfl rfl ?_
  refine jT_xiload (v := (0, 1)) (pcN := 26) jIQ_161_24 rfl rfl rfl ?_
  refine jT_xiload (v := (0, 1)) (pcN := 28) jIQ_161_26 rfl rfl rfl ?_
  refine jT_xiconst (k := 1) (pcN := 29) jIQ_161_28 rfl ?_
  refine jT_xicF (t := 37) (pcN := 32) jIQ_161_29 rfl (by decide +kernel) rfl rfl ?_
  refine jT_xiload_n (v := (0, r7)) (pcN := 33) jIQ_161_32 rfl rfl rfl ?_
  refine jT_xi2l (x := r7) (z := r7) (pcN := 34) jIQ_161_33 rfl (jw_idd (by omega) (by omega)) rfl ?_
  refine jT_xgoto (pcN := 49) jIQ_161_34 rfl ?_
  refine jT_adv 1 (pcN := 50) (LN := [(5, (0, 1)), (0, (4, 0)), (1, (0, r7)), (2, (0, r8)), (3, (4, 1)), (4, (0, o4))]) (stN := []) (hsN := [jzQ_16, (4, [(4, 13), (1, 1)], []), (8, [(4, 14), (4, 15)], []), jgh, jgh, jgh, jgh, jgh, jgh, (101, [], [0, r7, u85_2, u85_3, u85_4, u85_5]), (101, [], [k86_0, k86_1, k86_2, k86_3, k86_4, k86_5]), jgh, jgh, (101, [], [0, 0, 0, 0, 0, 0]), jgh, jgh]) (c1 := 0) (s1 := 0) (c2 := 0) (s2 := 0) (by exact rfl) ?_ (by omega) (by omega)
  refine jT_xiinc (x := 1) (z := 2) (LN := [(5, (0, 2)), (0, (4, 0)), (1, (0, r7)), (2, (0, r8)), (3, (4, 1)), (4, (0, o4))]) (pcN := 53) jIQ_161_50 rfl rfl (by decide) rfl rfl ?_
  refine jT_xgoto (pcN := 13) jIQ_161_53 rfl ?_
  refine jT_xiload (v := (0, 2)) (pcN := 15) jIQ_161_13 rfl rfl rfl ?_
  refine jT_xbipush (k := 6) (pcN := 17) jIQ_161_15 (by decide) rfl ?_
  refine jT_xicF (t := 56) (pcN := 20) jIQ_161_17 rfl (by decide +kernel) rfl rfl ?_
  refine jT_xaload_n (v := (4, 0)) (pcN := 21) jIQ_161_20 rfl rfl rfl ?_
  refine jT_xgetf (a := 0) (t := 1) (ci := 13) (fi := 7) (c := jzQ_16) (v := (4, 9)) (pcN := 24) jIQ_161_21 rfl rfl rfl rfl rfl rfl rfl ?_
  refine jT_xiload (v := (0, 2)) (pcN := 26) jIQ_161_24 rfl rfl rfl ?_
  refine jT_xiload (v := (0, 2)) (pcN := 28) jIQ_161_26 rfl rfl rfl ?_
  refine jT_xiconst (k := 1) (pcN := 29) jIQ_161_28 rfl ?_
  refine jT_xicT (pcN := 37) jIQ_161_29 rfl (by decide +kernel) rfl ?_
  refine jT_xiload (v := (0, 2)) (pcN := 39) jIQ_161_37 rfl rfl rfl ?_
  refine jT_xiconst (k := 2) (pcN := 40) jIQ_161_39 rfl ?_
  refine jT_xicF (t := 48) (pcN := 43) jIQ_161_40 rfl (by decide +kernel) rfl rfl ?_
  refine jT_xiload_n (v := (0, r8)) (pcN := 44) jIQ_161_43 rfl rfl rfl ?_
  refine jT_xi2l (x := r8) (z := r8) (pcN := 45) jIQ_161_44 rfl (jw_idd (by omega) (by omega)) rfl ?_
  refine jT_xgoto (pcN := 49) jIQ_161_45 rfl ?_
  refine jT_adv 1 (pcN := 50) (LN := [(5, (0, 2)), (0, (4, 0)), (1, (0, r7)), (2, (0, r8)), (3, (4, 1)), (4, (0, o4))]) (stN := []) (hsN := [jzQ_16, (4, [(4, 13), (1, 1)], []), (8, [(4, 14), (4, 15)], []), jgh, jgh, jgh, jgh, jgh, jgh, (101, [], [0, r7, r8, u85_3, u85_4, u85_5]), (101, [], [k86_0, k86_1, k86_2, k86_3, k86_4, k86_5]), jgh, jgh, (101, [], [0, 0, 0, 0, 0, 0]), jgh, jgh]) (c1 := 0) (s1 := 0) (c2 := 0) (s2 := 0) (by exact rfl) ?_ (by omega) (by omega)
  refine jT_xiinc (x := 2) (z := 3) (LN := [(5, (0, 3)), (0, (4, 0)), (1, (0, r7)), (2, (0, r8)), (3, (4, 1)), (4, (0, o4))]) (pcN := 53) jIQ_161_50 rfl rfl (by decide) rfl rfl ?_
  refine jT_xgoto (pcN := 13) jIQ_161_53 rfl ?_
  refine jT_xiload (v := (0, 3)) (pcN := 15) jIQ_161_13 rfl rfl rfl ?_
  refine jT_xbipush (k := 6) (pcN := 17) jIQ_161_15 (by decide) rfl ?_
  refine jT_xicF (t := 56) (pcN := 20) jIQ_161_17 rfl (by decide +kernel) rfl rfl ?_
  refine jT_xaload_n (v := (4, 0)) (pcN := 21) jIQ_161_20 rfl rfl rfl ?_
  refine jT_xgetf (a := 0) (t := 1) (ci := 13) (fi := 7) (c := jzQ_16) (v := (4, 9)) (pcN := 24) jIQ_161_21 rfl rfl rfl rfl rfl rfl rfl ?_
  refine jT_xiload (v := (0, 3)) (pcN := 26) jIQ_161_24 rfl rfl rfl ?_
  refine jT_xiload (v := (0, 3)) (pcN := 28) jIQ_161_26 rfl rfl rfl ?_
  refine jT_xiconst (k := 1) (pcN := 29) jIQ_161_28 rfl ?_
  refine jT_xicT (pcN := 37) jIQ_161_29 rfl (by decide +kernel) rfl ?_
  refine jT_xiload (v := (0, 3)) (pcN := 39) jIQ_161_37 rfl rfl rfl ?_
  refine jT_xiconst (k := 2) (pcN := 40) jIQ_161_39 rfl ?_
  refine jT_xicT (pcN := 48) jIQ_161_40 rfl (by decide +kernel) rfl ?_
  refine jT_xlconst (z := 0) (pcN := 49) jIQ_161_48 rfl rfl ?_
  refine jT_adv 1 (pcN := 50) (LN := [(5, (0, 3)), (0, (4, 0)), (1, (0, r7)), (2, (0, r8)), (3, (4, 1)), (4, (0, o4))]) (stN := []) (hsN := [jzQ_16, (4, [(4, 13), (1, 1)], []), (8, [(4, 14), (4, 15)], []), jgh, jgh, jgh, jgh, jgh, jgh, (101, [], [0, r7, r8, 0, u85_4, u85_5]), (101, [], [k86_0, k86_1, k86_2, k86_3, k86_4, k86_5]), jgh, jgh, (101, [], [0, 0, 0, 0, 0, 0]), jgh, jgh]) (c1 := 0) (s1 := 0) (c2 := 0) (s2 := 0) (by exact rfl) ?_ (by omega) (by omega)
  refine jT_xiinc (x := 3) (z := 4) (LN := [(5, (0, 4)), (0, (4, 0)), (1, (0, r7)), (2, (0, r8)), (3, (4, 1)), (4, (0, o4))]) (pcN := 53) jIQ_161_50 rfl rfl (by decide) rfl rfl ?_
  refine jT_xgoto (pcN := 13) jIQ_161_53 rfl ?_
  refine jT_xiload (v := (0, 4)) (pcN := 15) jIQ_161_13 rfl rfl rfl ?_
  refine jT_xbipush (k := 6) (pcN := 17) jIQ_161_15 (by decide) rfl ?_
  refine jT_xicF (t := 56) (pcN := 20) jIQ_161_17 rfl (by decide +kernel) rfl rfl ?_
  refine jT_xaload_n (v := (4, 0)) (pcN := 21) jIQ_161_20 rfl rfl rfl ?_
  refine jT_xgetf (a := 0) (t := 1) (ci := 13) (fi := 7) (c := jzQ_16) (v := (4, 9)) (pcN := 24) jIQ_161_21 rfl rfl rfl rfl rfl rfl rfl ?_
  refine jT_xiload (v := (0, 4)) (pcN := 26) jIQ_161_24 rfl rfl rfl ?_
  refine jT_xiload (v := (0, 4)) (pcN := 28) jIQ_161_26 rfl rfl rfl ?_
  refine jT_xiconst (k := 1) (pcN := 29) jIQ_161_28 rfl ?_
  refine jT_xicT (pcN := 37) jIQ_161_29 rfl (by decide +kernel) rfl ?_
  refine jT_xiload (v := (0, 4)) (pcN := 39) jIQ_161_37 rfl rfl rfl ?_
  refine jT_xiconst (k := 2) (pcN := 40) jIQ_161_39 rfl ?_
  refine jT_xicT (pcN := 48) jIQ_161_40 rfl (by decide +kernel) rfl ?_
  refine jT_xlconst (z := 0) (pcN := 49) jIQ_161_48 rfl rfl ?_
  refine jT_adv 1 (pcN := 50) (LN := [(5, (0, 4)), (0, (4, 0)), (1, (0, r7)), (2, (0, r8)), (3, (4, 1)), (4, (0, o4))]) (stN := []) (hsN := [jzQ_16, (4, [(4, 13), (1, 1)], []), (8, [(4, 14), (4, 15)], []), jgh, jgh, jgh, jgh, jgh, jgh, (101, [], [0, r7, r8, 0, 0, u85_5]), (101, [], [k86_0, k86_1, k86_2, k86_3, k86_4, k86_5]), jgh, jgh, (101, [], [0, 0, 0, 0, 0, 0]), jgh, jgh]) (c1 := 0) (s1 := 0) (c2 := 0) (s2 := 0) (by exact rfl) ?_ (by omega) (by omega)
  refine jT_xiinc (x := 4) (z := 5) (LN := [(5, (0, 5)), (0, (4, 0)), (1, (0, r7)), (2, (0, r8)), (3, (4, 1)), (4, (0, o4))]) (pcN := 53) jIQ_161_50 rfl rfl (by decide) rfl rfl ?_
  refine jT_xgoto (pcN := 13) jIQ_161_53 rfl ?_
  refine jT_xiload (v := (0, 5)) (pcN := 15) jIQ_161_13 rfl rfl rfl ?_
  refine jT_xbipush (k := 6) (pcN := 17) jIQ_161_15 (by decide) rfl ?_
  refine jT_xicF (t := 56) (pcN := 20) jIQ_161_17 rfl (by decide +kernel) rfl rfl ?_
  refine jT_xaload_n (v := (4, 0)) (pcN := 21) jIQ_161_20 rfl rfl rfl ?_
  refine jT_xgetf (a := 0) (t := 1) (ci := 13) (fi := 7) (c := jzQ_16) (v := (4, 9)) (pcN := 24) jIQ_161_21 rfl rfl rfl rfl rfl rfl rfl ?_
  refine jT_xiload (v := (0, 5)) (pcN := 26) jIQ_161_24 rfl rfl rfl ?_
  refine jT_xiload (v := (0, 5)) (pcN := 28) jIQ_161_26 rfl rfl rfl ?_
  refine jT_xiconst (k := 1) (pcN := 29) jIQ_161_28 rfl ?_
  refine jT_xicT (pcN := 37) jIQ_161_29 rfl (by decide +kernel) rfl ?_
  refine jT_xiload (v := (0, 5)) (pcN := 39) jIQ_161_37 rfl rfl rfl ?_
  refine jT_xiconst (k := 2) (pcN := 40) jIQ_161_39 rfl ?_
  refine jT_xicT (pcN := 48) jIQ_161_40 rfl (by decide +kernel) rfl ?_
  refine jT_xlconst (z := 0) (pcN := 49) jIQ_161_48 rfl rfl ?_
  refine jT_adv 1 (pcN := 50) (LN := [(5, (0, 5)), (0, (4, 0)), (1, (0, r7)), (2, (0, r8)), (3, (4, 1)), (4, (0, o4))]) (stN := []) (hsN := [jzQ_16, (4, [(4, 13), (1, 1)], []), (8, [(4, 14), (4, 15)], []), jgh, jgh, jgh, jgh, jgh, jgh, (101, [], [0, r7, r8, 0, 0, 0]), (101, [], [k86_0, k86_1, k86_2, k86_3, k86_4, k86_5]), jgh, jgh, (101, [], [0, 0, 0, 0, 0, 0]), jgh, jgh]) (c1 := 0) (s1 := 0) (c2 := 0) (s2 := 0) (by exact rfl) ?_ (by omega) (by omega)
  refine jT_xiinc (x := 5) (z := 6) (LN := [(5, (0, 6)), (0, (4, 0)), (1, (0, r7)), (2, (0, r8)), (3, (4, 1)), (4, (0, o4))]) (pcN := 53) jIQ_161_50 rfl rfl (by decide) rfl rfl ?_
  refine jT_xgoto (pcN := 13) jIQ_161_53 rfl ?_
  refine jT_xiload (v := (0, 6)) (pcN := 15) jIQ_161_13 rfl rfl rfl ?_
  refine jT_xbipush (k := 6) (pcN := 17) jIQ_161_15 (by decide) rfl ?_
  refine jT_xicT (pcN := 56) jIQ_161_17 rfl (by decide +kernel) rfl ?_
  refine jT_xaload_n (v := (4, 0)) (pcN := 57) jIQ_161_56 rfl rfl rfl ?_
  refine jT_xgetf (a := 0) (t := 1) (ci := 13) (fi := 0) (c := jzQ_16) (v := (4, 2)) (pcN := 60) jIQ_161_57 rfl rfl rfl rfl rfl rfl rfl ?_
  refine jT_xaload_n (v := (4, 0)) (pcN := 61) jIQ_161_60 rfl rfl rfl ?_
  refine jT_xgetf (a := 0) (t := 1) (ci := 13) (fi := 7) (c := jzQ_16) (v := (4, 9)) (pcN := 64) jIQ_161_61 rfl rfl rfl rfl rfl rfl rfl ?_
  refine jT_xlconst (z := 1) (pcN := 65) jIQ_161_64 rfl rfl ?_
  refine jT_xlconst (z := 1) (pcN := 66) jIQ_161_65 rfl rfl ?_
  refine jT_callA [2, 9, 14, 15] (y := 45) (pcN := 69) (dC := 1) (bc1 := 0) (bc2 := 0) (c1 := 0) (c2 := 0) (as := [(4, 2), (4, 9), (1, 1), (1, 1)]) (asC := [(4, 0), (4, 1), (1, 1), (1, 1)]) (LN := [(5, (0, 6)), (0, (4, 0)), (1, (0, r7)), (2, (0, r8)), (3, (4, 1)), (4, (0, o4))]) (stN := []) (hsC := [(8, [(4, 2), (4, 3)], []), (101, [], [0, r7, r8, 0, 0, 0]), jgh, jgh]) (ex := []) (v := (1, (108917793695 * r7 + 159561683699 * r8) / 68719476736)) (st2 := [(1, (108917793695 * r7 + 159561683699 * r8) / 68719476736)]) (hs2 := [jzQ_16, (4, [(4, 13), (1, 1)], []), (8, [(4, 14), (4, 15)], []), jgh, jgh, jgh, jgh, jgh, jgh, (101, [], [0, r7, r8, 0, 0, 0]), (101, [], [k86_0, k86_1, k86_2, k86_3, k86_4, k86_5]), jgh, jgh, (101, [], [0, 0, 0, 0, 0, 0]), jgh, jgh]) (jQl_sp45_116 (d := 0) (by omega) (by omega)) (by rfl) (by rfl) (by rfl) (by rfl) ⟨rfl, rfl, rfl, rfl, trivial⟩ (by rfl) (by rfl) (by omega) (by show 16 ≤ 16; omega) (by omega) (by omega) rfl rfl ?_
  have hb_q1 : (-60) ≤ (108917793695 * r7 + 159561683699 * r8) / 68719476736 ∧ (108917793695 * r7 + 159561683699 * r8) / 68719476736 ≤ 60 := ⟨by omega, by omega⟩
  generalize hq_q1 : (108917793695 * r7 + 159561683699 * r8) / 68719476736 = q1 at hb_q1 g_3 g_4 ⊢
  refine jT_xlstore (v := (1, q1)) (LN := [(5, (1, q1)), (0, (4, 0)), (1, (0, r7)), (2, (0, r8)), (3, (4, 1)), (4, (0, o4))]) (pcN := 71) jIQ_161_69 rfl rfl rfl rfl ?_
  have g_5 : 0 ≤ (-68719476736) * q1 + 108917793694 * r7 + 159561683698 * r8 - 1 := by have := jcg (b := r7) (c := r8) (by omega) (by omega) (by omega); rw [hq_q1] at this; omega
  have g_6 : 0 ≤ (-68719476736) * q1 + 108917793694 * r7 + 159561683700 * r8 - 1 := by have := jcg (b := r7) (c := r8) (by omega) (by omega) (by omega); rw [hq_q1] at this; omega
  have g_7 : 0 ≤ (-68719476736) * q1 + 108917793696 * r7 + 159561683698 * r8 - 1 := by have := jcg (b := r7) (c := r8) (by omega) (by omega) (by omega); rw [hq_q1] at this; omega
  have g_8 : 0 ≤ (-68719476736) * q1 + 108917793696 * r7 + 159561683700 * r8 - 1 := by have := jcg (b := r7) (c := r8) (by omega) (by omega) (by omega); rw [hq_q1] at this; omega
  refine jT_xiload (v := (0, o4)) (pcN := 73) jIQ_161_71 rfl rfl rfl ?_
  refine jT_ifF (a := o4) (t := 107) (by rfl) (by rfl) (by rfl) (jw_idd (by omega) (by omega)) (by simp only [jcP] <;> omega) ?_
  refine jT_xiload_n (v := (0, r7)) (pcN := 77) jIQ_161_76 rfl rfl rfl ?_
  refine jT_xi2l (x := r7) (z := r7) (pcN := 78) jIQ_161_77 rfl (jw_idd (by omega) (by omega)) rfl ?_
  refine jT_xaload_n (v := (4, 0)) (pcN := 79) jIQ_161_78 rfl rfl rfl ?_
  refine jT_xgetf (a := 0) (t := 1) (ci := 13) (fi := 8) (c := jzQ_16) (v := (4, 10)) (pcN := 82) jIQ_161_79 rfl rfl rfl rfl rfl rfl rfl ?_
  refine jT_xiconst (k := 1) (pcN := 83) jIQ_161_82 rfl ?_
  refine jT_lald (x := k86_1) (a := 10) (j := 1) (fs := []) (X := [k86_0, k86_1, k86_2, k86_3, k86_4, k86_5]) jIQ_161_83 rfl rfl rfl rfl ?_
  refine jT_eq (LN := [(5, (1, q1)), (0, (4, 0)), (1, (0, r7)), (2, (0, r8)), (3, (4, 1)), (4, (0, o4))]) (stN := [(1, k86_1), (1, r7)]) (hsN := [jzQ_16, (4, [(4, 13), (1, 1)], []), (8, [(4, 14), (4, 15)], []), jgh, jgh, jgh, jgh, jgh, jgh, (101, [], [0, r7, r8, 0, 0, 0]), (101, [], [k86_0, k86_1, k86_2, k86_3, k86_4, k86_5]), jgh, jgh, (101, [], [0, 0, 0, 0, 0, 0]), jgh, jgh]) rfl rfl rfl ?_
  refine jT_xlmul (x := r7) (y := k86_1) (z := r7 * k86_1) (pcN := 85) jIQ_161_84 rfl rfl rfl ?_
  have hb_q2 := jmul_b (x := r7) (y := k86_1) (m := 20) (n := 158) (by omega) (by omega) (by omega) (by omega)
  have hb_q2 : 0 ≤ r7 * k86_1 ∧ r7 * k86_1 ≤ 3160 := ⟨hb_q2.1, by omega⟩
  generalize hq_q2 : r7 * k86_1 = q2 at hb_q2 g_3 g_4 ⊢
  refine jT_xiload_n (v := (0, r8)) (pcN := 86) jIQ_161_85 rfl rfl rfl ?_
  refine jT_xi2l (x := r8) (z := r8) (pcN := 87) jIQ_161_86 rfl (jw_idd (by omega) (by omega)) rfl ?_
  refine jT_xaload_n (v := (4, 0)) (pcN := 88) jIQ_161_87 rfl rfl rfl ?_
  refine jT_xgetf (a := 0) (t := 1) (ci := 13) (fi := 8) (c := jzQ_16) (v := (4, 10)) (pcN := 91) jIQ_161_88 rfl rfl rfl rfl rfl rfl rfl ?_
  refine jT_xiconst (k := 2) (pcN := 92) jIQ_161_91 rfl ?_
  refine jT_lald (x := k86_2) (a := 10) (j := 2) (fs := []) (X := [k86_0, k86_1, k86_2, k86_3, k86_4, k86_5]) jIQ_161_92 rfl rfl rfl rfl ?_
  refine jT_eq (LN := [(5, (1, q1)), (0, (4, 0)), (1, (0, r7)), (2, (0, r8)), (3, (4, 1)), (4, (0, o4))]) (stN := [(1, k86_2), (1, r8), (1, q2)]) (hsN := [jzQ_16, (4, [(4, 13), (1, 1)], []), (8, [(4, 14), (4, 15)], []), jgh, jgh, jgh, jgh, jgh, jgh, (101, [], [0, r7, r8, 0, 0, 0]), (101, [], [k86_0, k86_1, k86_2, k86_3, k86_4, k86_5]), jgh, jgh, (101, [], [0, 0, 0, 0, 0, 0]), jgh, jgh]) rfl rfl rfl ?_
  refine jT_xlmul (x := r8) (y := k86_2) (z := r8 * k86_2) (pcN := 94) jIQ_161_93 rfl rfl rfl ?_
  have hb_q3 := jmul_b2 (x := r8) (y := k86_2) (k := 1) (l := 2) (m := 10) (n := 232) (by omega) (by omega) (by omega) (by omega) (by omega) (by omega)
  have hb_q3 : 2 ≤ r8 * k86_2 ∧ r8 * k86_2 ≤ 2320 := ⟨by omega, by omega⟩
  generalize hq_q3 : r8 * k86_2 = q3 at hb_q3 g_3 g_4 ⊢
  refine jT_xladd (x := q2) (y := q3) (z := q2 + q3) (pcN := 95) jIQ_161_94 rfl (rfl) rfl ?_
  refine jT_xlload (v := (1, q1)) (pcN := 97) jIQ_161_95 rfl rfl rfl ?_
  refine jT_xiload (v := (0, o4)) (pcN := 99) jIQ_161_97 rfl rfl rfl ?_
  refine jT_xi2l (x := o4) (z := o4) (pcN := 100) jIQ_161_99 rfl (jw_idd (by omega) (by omega)) rfl ?_
  refine jT_xlmul (x := q1) (y := o4) (z := q1 * o4) (pcN := 101) jIQ_161_100 rfl rfl rfl ?_
  have hb_q4 := jmul_bs (x := q1) (y := o4) (m := 60) (n := 100) (by omega) (by omega) (by omega) (by omega)
  have hb_q4 : (-6000) ≤ q1 * o4 ∧ q1 * o4 ≤ 6000 := ⟨by omega, by omega⟩
  generalize hq_q4 : q1 * o4 = q4 at hb_q4 g_3 g_4 ⊢
  refine jT_lcmp (a := q2 + q3) (b := q4) (z := 0) (by rfl) (by rfl) (jwl_idd (by omega) (by omega)) (jwl_idd (by omega) (by omega)) (by rw [decide_eq_false (show ¬ ((q4 : Int) < q2 + q3) by omega), decide_eq_true (show (q2 + q3 : Int) = q4 by omega)]; rfl) ?_
  refine jT_xifT (pcN := 107) jIQ_161_102 rfl (by decide +kernel) rfl ?_
  refine jT_xaload_n (v := (4, 0)) (pcN := 108) jIQ_161_107 rfl rfl rfl ?_
  refine jT_xgetf (a := 0) (t := 1) (ci := 13) (fi := 7) (c := jzQ_16) (v := (4, 9)) (pcN := 111) jIQ_161_108 rfl rfl rfl rfl rfl rfl rfl ?_
  refine jT_xiconst (k := 0) (pcN := 112) jIQ_161_111 rfl ?_
  refine jT_xlload (v := (1, q1)) (pcN := 114) jIQ_161_112 rfl rfl rfl ?_
  refine jT_adv 2 (pcN := 116) (LN := [(5, (1, q1)), (0, (4, 0)), (1, (0, r7)), (2, (0, r8)), (3, (4, 1)), (4, (0, o4))]) (stN := []) (hsN := [jzQ_16, (4, [(4, 13), (1, 1)], []), (8, [(4, 14), (4, 15)], []), jgh, jgh, jgh, jgh, jgh, jgh, (101, [], [-q1, r7, r8, 0, 0, 0]), (101, [], [k86_0, k86_1, k86_2, k86_3, k86_4, k86_5]), jgh, jgh, (101, [], [0, 0, 0, 0, 0, 0]), jgh, jgh]) (c1 := 0) (s1 := 0) (c2 := 0) (s2 := 0) (by exact rfl) ?_ (by omega) (by omega)
  refine jT_xiconst (k := 0) (pcN := 117) jIQ_161_116 rfl ?_
  refine jT_xistore (v := (0, 0)) (LN := [(7, (0, 0)), (5, (1, q1)), (0, (4, 0)), (1, (0, r7)), (2, (0, r8)), (3, (4, 1)), (4, (0, o4))]) (pcN := 119) jIQ_161_117 rfl rfl rfl rfl ?_
  refine jT_xiload (v := (0, 0)) (pcN := 121) jIQ_161_119 rfl rfl rfl ?_
  refine jT_xbipush (k := 6) (pcN := 123) jIQ_161_121 (by decide) rfl ?_
  refine jT_xicF (t := 159) (pcN := 126) jIQ_161_123 rfl (by decide +kernel) rfl rfl ?_
  refine jT_xaload_n (v := (4, 0)) (pcN := 127) jIQ_161_126 rfl rfl rfl ?_
  refine jT_xgetf (a := 0) (t := 1) (ci := 13) (fi := 7) (c := jzQ_16) (v := (4, 9)) (pcN := 130) jIQ_161_127 rfl rfl rfl rfl rfl rfl rfl ?_
  refine jT_xiload (v := (0, 0)) (pcN := 132) jIQ_161_130 rfl rfl rfl ?_
  refine jT_xaload_n (v := (4, 1)) (pcN := 133) jIQ_161_132 rfl rfl rfl ?_
  refine jT_xgetf (a := 1) (t := 2) (ci := 4) (fi := 0) (c := (4, [(4, 13), (1, 1)], [])) (v := (4, 13)) (pcN := 136) jIQ_161_133 rfl rfl rfl rfl rfl rfl rfl ?_
  refine jT_xiload (v := (0, 0)) (pcN := 138) jIQ_161_136 rfl rfl rfl ?_
  refine jT_lald (x := 0) (a := 13) (j := 0) (fs := []) (X := [0, 0, 0, 0, 0, 0]) jIQ_161_138 rfl rfl rfl rfl ?_
  refine jT_eq (LN := [(7, (0, 0)), (5, (1, q1)), (0, (4, 0)), (1, (0, r7)), (2, (0, r8)), (3, (4, 1)), (4, (0, o4))]) (stN := [(1, 0), (0, 0), (4, 9)]) (hsN := [jzQ_16, (4, [(4, 13), (1, 1)], []), (8, [(4, 14), (4, 15)], []), jgh, jgh, jgh, jgh, jgh, jgh, (101, [], [-q1, r7, r8, 0, 0, 0]), (101, [], [k86_0, k86_1, k86_2, k86_3, k86_4, k86_5]), jgh, jgh, (101, [], [0, 0, 0, 0, 0, 0]), jgh, jgh]) rfl rfl rfl ?_
  refine jT_xaload_n (v := (4, 0)) (pcN := 140) jIQ_161_139 rfl rfl rfl ?_
  refine jT_xgetf (a := 0) (t := 1) (ci := 13) (fi := 7) (c := jzQ_16) (v := (4, 9)) (pcN := 143) jIQ_161_140 rfl rfl rfl rfl rfl rfl rfl ?_
  refine jT_xiload (v := (0, 0)) (pcN := 145) jIQ_161_143 rfl rfl rfl ?_
  refine jT_lald (x := -q1) (a := 9) (j := 0) (fs := []) (X := [-q1, r7, r8, 0, 0, 0]) jIQ_161_145 rfl rfl rfl rfl ?_
  refine jT_eq (LN := [(7, (0, 0)), (5, (1, q1)), (0, (4, 0)), (1, (0, r7)), (2, (0, r8)), (3, (4, 1)), (4, (0, o4))]) (stN := [(1, -q1), (1, 0), (0, 0), (4, 9)]) (hsN := [jzQ_16, (4, [(4, 13), (1, 1)], []), (8, [(4, 14), (4, 15)], []), jgh, jgh, jgh, jgh, jgh, jgh, (101, [], [-q1, r7, r8, 0, 0, 0]), (101, [], [k86_0, k86_1, k86_2, k86_3, k86_4, k86_5]), jgh, jgh, (101, [], [0, 0, 0, 0, 0, 0]), jgh, jgh]) rfl rfl rfl ?_
  refine jT_xaload_n (v := (4, 1)) (pcN := 147) jIQ_161_146 rfl rfl rfl ?_
  refine jT_xgetf (a := 1) (t := 2) (ci := 4) (fi := 1) (c := (4, [(4, 13), (1, 1)], [])) (v := (1, 1)) (pcN := 150) jIQ_161_147 rfl rfl rfl rfl rfl rfl rfl ?_
  refine jT_xlmul (x := -q1) (y := 1) (z := -q1) (pcN := 151) jIQ_161_150 rfl (by omega) rfl ?_
  refine jT_xlsub (x := 0) (y := -q1) (z := q1) (pcN := 152) jIQ_161_151 rfl (by omega) rfl ?_
  refine jT_adv 1 (pcN := 153) (LN := [(7, (0, 0)), (5, (1, q1)), (0, (4, 0)), (1, (0, r7)), (2, (0, r8)), (3, (4, 1)), (4, (0, o4))]) (stN := []) (hsN := [jzQ_16, (4, [(4, 13), (1, 1)], []), (8, [(4, 14), (4, 15)], []), jgh, jgh, jgh, jgh, jgh, jgh, (101, [], [q1, r7, r8, 0, 0, 0]), (101, [], [k86_0, k86_1, k86_2, k86_3, k86_4, k86_5]), jgh, jgh, (101, [], [0, 0, 0, 0, 0, 0]), jgh, jgh]) (c1 := 0) (s1 := 0) (c2 := 0) (s2 := 0) (by exact rfl) ?_ (by omega) (by omega)
  refine jT_xiinc (x := 0) (z := 1) (LN := [(7, (0, 1)), (5, (1, q1)), (0, (4, 0)), (1, (0, r7)), (2, (0, r8)), (3, (4, 1)), (4, (0, o4))]) (pcN := 156) jIQ_161_153 rfl rfl (by decide) rfl rfl ?_
  refine jT_xgoto (pcN := 119) jIQ_161_156 rfl ?_
  refine jT_xiload (v := (0, 1)) (pcN := 121) jIQ_161_119 rfl rfl rfl ?_
  refine jT_xbipush (k := 6) (pcN := 123) jIQ_161_121 (by decide) rfl ?_
  refine jT_xicF (t := 159) (pcN := 126) jIQ_161_123 rfl (by decide +kernel) rfl rfl ?_
  refine jT_xaload_n (v := (4, 0)) (pcN := 127) jIQ_161_126 rfl rfl rfl ?_
  refine jT_xgetf (a := 0) (t := 1) (ci := 13) (fi := 7) (c := jzQ_16) (v := (4, 9)) (pcN := 130) jIQ_161_127 rfl rfl rfl rfl rfl rfl rfl ?_
  refine jT_xiload (v := (0, 1)) (pcN := 132) jIQ_161_130 rfl rfl rfl ?_
  refine jT_xaload_n (v := (4, 1)) (pcN := 133) jIQ_161_132 rfl rfl rfl ?_
  refine jT_xgetf (a := 1) (t := 2) (ci := 4) (fi := 0) (c := (4, [(4, 13), (1, 1)], [])) (v := (4, 13)) (pcN := 136) jIQ_161_133 rfl rfl rfl rfl rfl rfl rfl ?_
  refine jT_xiload (v := (0, 1)) (pcN := 138) jIQ_161_136 rfl rfl rfl ?_
  refine jT_lald (x := 0) (a := 13) (j := 1) (fs := []) (X := [0, 0, 0, 0, 0, 0]) jIQ_161_138 rfl rfl rfl rfl ?_
  refine jT_eq (LN := [(7, (0, 1)), (5, (1, q1)), (0, (4, 0)), (1, (0, r7)), (2, (0, r8)), (3, (4, 1)), (4, (0, o4))]) (stN := [(1, 0), (0, 1), (4, 9)]) (hsN := [jzQ_16, (4, [(4, 13), (1, 1)], []), (8, [(4, 14), (4, 15)], []), jgh, jgh, jgh, jgh, jgh, jgh, (101, [], [q1, r7, r8, 0, 0, 0]), (101, [], [k86_0, k86_1, k86_2, k86_3, k86_4, k86_5]), jgh, jgh, (101, [], [0, 0, 0, 0, 0, 0]), jgh, jgh]) rfl rfl rfl ?_
  refine jT_xaload_n (v := (4, 0)) (pcN := 140) jIQ_161_139 rfl rfl rfl ?_
  refine jT_xgetf (a := 0) (t := 1) (ci := 13) (fi := 7) (c := jzQ_16) (v := (4, 9)) (pcN := 143) jIQ_161_140 rfl rfl rfl rfl rfl rfl rfl ?_
  refine jT_xiload (v := (0, 1)) (pcN := 145) jIQ_161_143 rfl rfl rfl ?_
  refine jT_lald (x := r7) (a := 9) (j := 1) (fs := []) (X := [q1, r7, r8, 0, 0, 0]) jIQ_161_145 rfl rfl rfl rfl ?_
  refine jT_eq (LN := [(7, (0, 1)), (5, (1, q1)), (0, (4, 0)), (1, (0, r7)), (2, (0, r8)), (3, (4, 1)), (4, (0, o4))]) (stN := [(1, r7), (1, 0), (0, 1), (4, 9)]) (hsN := [jzQ_16, (4, [(4, 13), (1, 1)], []), (8, [(4, 14), (4, 15)], []), jgh, jgh, jgh, jgh, jgh, jgh, (101, [], [q1, r7, r8, 0, 0, 0]), (101, [], [k86_0, k86_1, k86_2, k86_3, k86_4, k86_5]), jgh, jgh, (101, [], [0, 0, 0, 0, 0, 0]), jgh, jgh]) rfl rfl rfl ?_
  refine jT_xaload_n (v := (4, 1)) (pcN := 147) jIQ_161_146 rfl rfl rfl ?_
  refine jT_xgetf (a := 1) (t := 2) (ci := 4) (fi := 1) (c := (4, [(4, 13), (1, 1)], [])) (v := (1, 1)) (pcN := 150) jIQ_161_147 rfl rfl rfl rfl rfl rfl rfl ?_
  refine jT_xlmul (x := r7) (y := 1) (z := r7) (pcN := 151) jIQ_161_150 rfl (by omega) rfl ?_
  refine jT_xlsub (x := 0) (y := r7) (z := -r7) (pcN := 152) jIQ_161_151 rfl (by omega) rfl ?_
  refine jT_adv 1 (pcN := 153) (LN := [(7, (0, 1)), (5, (1, q1)), (0, (4, 0)), (1, (0, r7)), (2, (0, r8)), (3, (4, 1)), (4, (0, o4))]) (stN := []) (hsN := [jzQ_16, (4, [(4, 13), (1, 1)], []), (8, [(4, 14), (4, 15)], []), jgh, jgh, jgh, jgh, jgh, jgh, (101, [], [q1, -r7, r8, 0, 0, 0]), (101, [], [k86_0, k86_1, k86_2, k86_3, k86_4, k86_5]), jgh, jgh, (101, [], [0, 0, 0, 0, 0, 0]), jgh, jgh]) (c1 := 0) (s1 := 0) (c2 := 0) (s2 := 0) (by exact rfl) ?_ (by omega) (by omega)
  refine jT_xiinc (x := 1) (z := 2) (LN := [(7, (0, 2)), (5, (1, q1)), (0, (4, 0)), (1, (0, r7)), (2, (0, r8)), (3, (4, 1)), (4, (0, o4))]) (pcN := 156) jIQ_161_153 rfl rfl (by decide) rfl rfl ?_
  refine jT_xgoto (pcN := 119) jIQ_161_156 rfl ?_
  refine jT_xiload (v := (0, 2)) (pcN := 121) jIQ_161_119 rfl rfl rfl ?_
  refine jT_xbipush (k := 6) (pcN := 123) jIQ_161_121 (by decide) rfl ?_
  refine jT_xicF (t := 159) (pcN := 126) jIQ_161_123 rfl (by decide +kernel) rfl rfl ?_
  refine jT_xaload_n (v := (4, 0)) (pcN := 127) jIQ_161_126 rfl rfl rfl ?_
  refine jT_xgetf (a := 0) (t := 1) (ci := 13) (fi := 7) (c := jzQ_16) (v := (4, 9)) (pcN := 130) jIQ_161_127 rfl rfl rfl rfl rfl rfl rfl ?_
  refine jT_xiload (v := (0, 2)) (pcN := 132) jIQ_161_130 rfl rfl rfl ?_
  refine jT_xaload_n (v := (4, 1)) (pcN := 133) jIQ_161_132 rfl rfl rfl ?_
  refine jT_xgetf (a := 1) (t := 2) (ci := 4) (fi := 0) (c := (4, [(4, 13), (1, 1)], [])) (v := (4, 13)) (pcN := 136) jIQ_161_133 rfl rfl rfl rfl rfl rfl rfl ?_
  refine jT_xiload (v := (0, 2)) (pcN := 138) jIQ_161_136 rfl rfl rfl ?_
  refine jT_lald (x := 0) (a := 13) (j := 2) (fs := []) (X := [0, 0, 0, 0, 0, 0]) jIQ_161_138 rfl rfl rfl rfl ?_
  refine jT_eq (LN := [(7, (0, 2)), (5, (1, q1)), (0, (4, 0)), (1, (0, r7)), (2, (0, r8)), (3, (4, 1)), (4, (0, o4))]) (stN := [(1, 0), (0, 2), (4, 9)]) (hsN := [jzQ_16, (4, [(4, 13), (1, 1)], []), (8, [(4, 14), (4, 15)], []), jgh, jgh, jgh, jgh, jgh, jgh, (101, [], [q1, -r7, r8, 0, 0, 0]), (101, [], [k86_0, k86_1, k86_2, k86_3, k86_4, k86_5]), jgh, jgh, (101, [], [0, 0, 0, 0, 0, 0]), jgh, jgh]) rfl rfl rfl ?_
  refine jT_xaload_n (v := (4, 0)) (pcN := 140) jIQ_161_139 rfl rfl rfl ?_
  refine jT_xgetf (a := 0) (t := 1) (ci := 13) (fi := 7) (c := jzQ_16) (v := (4, 9)) (pcN := 143) jIQ_161_140 rfl rfl rfl rfl rfl rfl rfl ?_
  refine jT_xiload (v := (0, 2)) (pcN := 145) jIQ_161_143 rfl rfl rfl ?_
  refine jT_lald (x := r8) (a := 9) (j := 2) (fs := []) (X := [q1, -r7, r8, 0, 0, 0]) jIQ_161_145 rfl rfl rfl rfl ?_
  refine jT_eq (LN := [(7, (0, 2)), (5, (1, q1)), (0, (4, 0)), (1, (0, r7)), (2, (0, r8)), (3, (4, 1)), (4, (0, o4))]) (stN := [(1, r8), (1, 0), (0, 2), (4, 9)]) (hsN := [jzQ_16, (4, [(4, 13), (1, 1)], []), (8, [(4, 14), (4, 15)], []), jgh, jgh, jgh, jgh, jgh, jgh, (101, [], [q1, -r7, r8, 0, 0, 0]), (101, [], [k86_0, k86_1, k86_2, k86_3, k86_4, k86_5]), jgh, jgh, (101, [], [0, 0, 0, 0, 0, 0]), jgh, jgh]) rfl rfl rfl ?_
  refine jT_xaload_n (v := (4, 1)) (pcN := 147) jIQ_161_146 rfl rfl rfl ?_
  refine jT_xgetf (a := 1) (t := 2) (ci := 4) (fi := 1) (c := (4, [(4, 13), (1, 1)], [])) (v := (1, 1)) (pcN := 150) jIQ_161_147 rfl rfl rfl rfl rfl rfl rfl ?_
  refine jT_xlmul (x := r8) (y := 1) (z := r8) (pcN := 151) jIQ_161_150 rfl (by omega) rfl ?_
  refine jT_xlsub (x := 0) (y := r8) (z := -r8) (pcN := 152) jIQ_161_151 rfl (by omega) rfl ?_
  refine jT_adv 1 (pcN := 153) (LN := [(7, (0, 2)), (5, (1, q1)), (0, (4, 0)), (1, (0, r7)), (2, (0, r8)), (3, (4, 1)), (4, (0, o4))]) (stN := []) (hsN := [jzQ_16, (4, [(4, 13), (1, 1)], []), (8, [(4, 14), (4, 15)], []), jgh, jgh, jgh, jgh, jgh, jgh, (101, [], [q1, -r7, -r8, 0, 0, 0]), (101, [], [k86_0, k86_1, k86_2, k86_3, k86_4, k86_5]), jgh, jgh, (101, [], [0, 0, 0, 0, 0, 0]), jgh, jgh]) (c1 := 0) (s1 := 0) (c2 := 0) (s2 := 0) (by exact rfl) ?_ (by omega) (by omega)
  refine jT_xiinc (x := 2) (z := 3) (LN := [(7, (0, 3)), (5, (1, q1)), (0, (4, 0)), (1, (0, r7)), (2, (0, r8)), (3, (4, 1)), (4, (0, o4))]) (pcN := 156) jIQ_161_153 rfl rfl (by decide) rfl rfl ?_
  refine jT_xgoto (pcN := 119) jIQ_161_156 rfl ?_
  refine jT_xiload (v := (0, 3)) (pcN := 121) jIQ_161_119 rfl rfl rfl ?_
  refine jT_xbipush (k := 6) (pcN := 123) jIQ_161_121 (by decide) rfl ?_
  refine jT_xicF (t := 159) (pcN := 126) jIQ_161_123 rfl (by decide +kernel) rfl rfl ?_
  refine jT_xaload_n (v := (4, 0)) (pcN := 127) jIQ_161_126 rfl rfl rfl ?_
  refine jT_xgetf (a := 0) (t := 1) (ci := 13) (fi := 7) (c := jzQ_16) (v := (4, 9)) (pcN := 130) jIQ_161_127 rfl rfl rfl rfl rfl rfl rfl ?_
  refine jT_xiload (v := (0, 3)) (pcN := 132) jIQ_161_130 rfl rfl rfl ?_
  refine jT_xaload_n (v := (4, 1)) (pcN := 133) jIQ_161_132 rfl rfl rfl ?_
  refine jT_xgetf (a := 1) (t := 2) (ci := 4) (fi := 0) (c := (4, [(4, 13), (1, 1)], [])) (v := (4, 13)) (pcN := 136) jIQ_161_133 rfl rfl rfl rfl rfl rfl rfl ?_
  refine jT_xiload (v := (0, 3)) (pcN := 138) jIQ_161_136 rfl rfl rfl ?_
  refine jT_lald (x := 0) (a := 13) (j := 3) (fs := []) (X := [0, 0, 0, 0, 0, 0]) jIQ_161_138 rfl rfl rfl rfl ?_
  refine jT_eq (LN := [(7, (0, 3)), (5, (1, q1)), (0, (4, 0)), (1, (0, r7)), (2, (0, r8)), (3, (4, 1)), (4, (0, o4))]) (stN := [(1, 0), (0, 3), (4, 9)]) (hsN := [jzQ_16, (4, [(4, 13), (1, 1)], []), (8, [(4, 14), (4, 15)], []), jgh, jgh, jgh, jgh, jgh, jgh, (101, [], [q1, -r7, -r8, 0, 0, 0]), (101, [], [k86_0, k86_1, k86_2, k86_3, k86_4, k86_5]), jgh, jgh, (101, [], [0, 0, 0, 0, 0, 0]), jgh, jgh]) rfl rfl rfl ?_
  refine jT_xaload_n (v := (4, 0)) (pcN := 140) jIQ_161_139 rfl rfl rfl ?_
  refine jT_xgetf (a := 0) (t := 1) (ci := 13) (fi := 7) (c := jzQ_16) (v := (4, 9)) (pcN := 143) jIQ_161_140 rfl rfl rfl rfl rfl rfl rfl ?_
  refine jT_xiload (v := (0, 3)) (pcN := 145) jIQ_161_143 rfl rfl rfl ?_
  refine jT_lald (x := 0) (a := 9) (j := 3) (fs := []) (X := [q1, -r7, -r8, 0, 0, 0]) jIQ_161_145 rfl rfl rfl rfl ?_
  refine jT_eq (LN := [(7, (0, 3)), (5, (1, q1)), (0, (4, 0)), (1, (0, r7)), (2, (0, r8)), (3, (4, 1)), (4, (0, o4))]) (stN := [(1, 0), (1, 0), (0, 3), (4, 9)]) (hsN := [jzQ_16, (4, [(4, 13), (1, 1)], []), (8, [(4, 14), (4, 15)], []), jgh, jgh, jgh, jgh, jgh, jgh, (101, [], [q1, -r7, -r8, 0, 0, 0]), (101, [], [k86_0, k86_1, k86_2, k86_3, k86_4, k86_5]), jgh, jgh, (101, [], [0, 0, 0, 0, 0, 0]), jgh, jgh]) rfl rfl rfl ?_
  refine jT_xaload_n (v := (4, 1)) (pcN := 147) jIQ_161_146 rfl rfl rfl ?_
  refine jT_xgetf (a := 1) (t := 2) (ci := 4) (fi := 1) (c := (4, [(4, 13), (1, 1)], [])) (v := (1, 1)) (pcN := 150) jIQ_161_147 rfl rfl rfl rfl rfl rfl rfl ?_
  refine jT_xlmul (x := 0) (y := 1) (z := 0) (pcN := 151) jIQ_161_150 rfl (by decide) rfl ?_
  refine jT_xlsub (x := 0) (y := 0) (z := 0) (pcN := 152) jIQ_161_151 rfl (by decide) rfl ?_
  refine jT_adv 1 (pcN := 153) (LN := [(7, (0, 3)), (5, (1, q1)), (0, (4, 0)), (1, (0, r7)), (2, (0, r8)), (3, (4, 1)), (4, (0, o4))]) (stN := []) (hsN := [jzQ_16, (4, [(4, 13), (1, 1)], []), (8, [(4, 14), (4, 15)], []), jgh, jgh, jgh, jgh, jgh, jgh, (101, [], [q1, -r7, -r8, 0, 0, 0]), (101, [], [k86_0, k86_1, k86_2, k86_3, k86_4, k86_5]), jgh, jgh, (101, [], [0, 0, 0, 0, 0, 0]), jgh, jgh]) (c1 := 0) (s1 := 0) (c2 := 0) (s2 := 0) (by exact rfl) ?_ (by omega) (by omega)
  refine jT_xiinc (x := 3) (z := 4) (LN := [(7, (0, 4)), (5, (1, q1)), (0, (4, 0)), (1, (0, r7)), (2, (0, r8)), (3, (4, 1)), (4, (0, o4))]) (pcN := 156) jIQ_161_153 rfl rfl (by decide) rfl rfl ?_
  refine jT_xgoto (pcN := 119) jIQ_161_156 rfl ?_
  refine jT_xiload (v := (0, 4)) (pcN := 121) jIQ_161_119 rfl rfl rfl ?_
  refine jT_xbipush (k := 6) (pcN := 123) jIQ_161_121 (by decide) rfl ?_
  refine jT_xicF (t := 159) (pcN := 126) jIQ_161_123 rfl (by decide +kernel) rfl rfl ?_
  refine jT_xaload_n (v := (4, 0)) (pcN := 127) jIQ_161_126 rfl rfl rfl ?_
  refine jT_xgetf (a := 0) (t := 1) (ci := 13) (fi := 7) (c := jzQ_16) (v := (4, 9)) (pcN := 130) jIQ_161_127 rfl rfl rfl rfl rfl rfl rfl ?_
  refine jT_xiload (v := (0, 4)) (pcN := 132) jIQ_161_130 rfl rfl rfl ?_
  refine jT_xaload_n (v := (4, 1)) (pcN := 133) jIQ_161_132 rfl rfl rfl ?_
  refine jT_xgetf (a := 1) (t := 2) (ci := 4) (fi := 0) (c := (4, [(4, 13), (1, 1)], [])) (v := (4, 13)) (pcN := 136) jIQ_161_133 rfl rfl rfl rfl rfl rfl rfl ?_
  refine jT_xiload (v := (0, 4)) (pcN := 138) jIQ_161_136 rfl rfl rfl ?_
  refine jT_lald (x := 0) (a := 13) (j := 4) (fs := []) (X := [0, 0, 0, 0, 0, 0]) jIQ_161_138 rfl rfl rfl rfl ?_
  refine jT_eq (LN := [(7, (0, 4)), (5, (1, q1)), (0, (4, 0)), (1, (0, r7)), (2, (0, r8)), (3, (4, 1)), (4, (0, o4))]) (stN := [(1, 0), (0, 4), (4, 9)]) (hsN := [jzQ_16, (4, [(4, 13), (1, 1)], []), (8, [(4, 14), (4, 15)], []), jgh, jgh, jgh, jgh, jgh, jgh, (101, [], [q1, -r7, -r8, 0, 0, 0]), (101, [], [k86_0, k86_1, k86_2, k86_3, k86_4, k86_5]), jgh, jgh, (101, [], [0, 0, 0, 0, 0, 0]), jgh, jgh]) rfl rfl rfl ?_
  refine jT_xaload_n (v := (4, 0)) (pcN := 140) jIQ_161_139 rfl rfl rfl ?_
  refine jT_xgetf (a := 0) (t := 1) (ci := 13) (fi := 7) (c := jzQ_16) (v := (4, 9)) (pcN := 143) jIQ_161_140 rfl rfl rfl rfl rfl rfl rfl ?_
  refine jT_xiload (v := (0, 4)) (pcN := 145) jIQ_161_143 rfl rfl rfl ?_
  refine jT_lald (x := 0) (a := 9) (j := 4) (fs := []) (X := [q1, -r7, -r8, 0, 0, 0]) jIQ_161_145 rfl rfl rfl rfl ?_
  refine jT_eq (LN := [(7, (0, 4)), (5, (1, q1)), (0, (4, 0)), (1, (0, r7)), (2, (0, r8)), (3, (4, 1)), (4, (0, o4))]) (stN := [(1, 0), (1, 0), (0, 4), (4, 9)]) (hsN := [jzQ_16, (4, [(4, 13), (1, 1)], []), (8, [(4, 14), (4, 15)], []), jgh, jgh, jgh, jgh, jgh, jgh, (101, [], [q1, -r7, -r8, 0, 0, 0]), (101, [], [k86_0, k86_1, k86_2, k86_3, k86_4, k86_5]), jgh, jgh, (101, [], [0, 0, 0, 0, 0, 0]), jgh, jgh]) rfl rfl rfl ?_
  refine jT_xaload_n (v := (4, 1)) (pcN := 147) jIQ_161_146 rfl rfl rfl ?_
  refine jT_xgetf (a := 1) (t := 2) (ci := 4) (fi := 1) (c := (4, [(4, 13), (1, 1)], [])) (v := (1, 1)) (pcN := 150) jIQ_161_147 rfl rfl rfl rfl rfl rfl rfl ?_
  refine jT_xlmul (x := 0) (y := 1) (z := 0) (pcN := 151) jIQ_161_150 rfl (by decide) rfl ?_
  refine jT_xlsub (x := 0) (y := 0) (z := 0) (pcN := 152) jIQ_161_151 rfl (by decide) rfl ?_
  refine jT_adv 1 (pcN := 153) (LN := [(7, (0, 4)), (5, (1, q1)), (0, (4, 0)), (1, (0, r7)), (2, (0, r8)), (3, (4, 1)), (4, (0, o4))]) (stN := []) (hsN := [jzQ_16, (4, [(4, 13), (1, 1)], []), (8, [(4, 14), (4, 15)], []), jgh, jgh, jgh, jgh, jgh, jgh, (101, [], [q1, -r7, -r8, 0, 0, 0]), (101, [], [k86_0, k86_1, k86_2, k86_3, k86_4, k86_5]), jgh, jgh, (101, [], [0, 0, 0, 0, 0, 0]), jgh, jgh]) (c1 := 0) (s1 := 0) (c2 := 0) (s2 := 0) (by exact rfl) ?_ (by omega) (by omega)
  refine jT_xiinc (x := 4) (z := 5) (LN := [(7, (0, 5)), (5, (1, q1)), (0, (4, 0)), (1, (0, r7)), (2, (0, r8)), (3, (4, 1)), (4, (0, o4))]) (pcN := 156) jIQ_161_153 rfl rfl (by decide) rfl rfl ?_
  refine jT_xgoto (pcN := 119) jIQ_161_156 rfl ?_
  refine jT_xiload (v := (0, 5)) (pcN := 121) jIQ_161_119 rfl rfl rfl ?_
  refine jT_xbipush (k := 6) (pcN := 123) jIQ_161_121 (by decide) rfl ?_
  refine jT_xicF (t := 159) (pcN := 126) jIQ_161_123 rfl (by decide +kernel) rfl rfl ?_
  refine jT_xaload_n (v := (4, 0)) (pcN := 127) jIQ_161_126 rfl rfl rfl ?_
  refine jT_xgetf (a := 0) (t := 1) (ci := 13) (fi := 7) (c := jzQ_16) (v := (4, 9)) (pcN := 130) jIQ_161_127 rfl rfl rfl rfl rfl rfl rfl ?_
  refine jT_xiload (v := (0, 5)) (pcN := 132) jIQ_161_130 rfl rfl rfl ?_
  refine jT_xaload_n (v := (4, 1)) (pcN := 133) jIQ_161_132 rfl rfl rfl ?_
  refine jT_xgetf (a := 1) (t := 2) (ci := 4) (fi := 0) (c := (4, [(4, 13), (1, 1)], [])) (v := (4, 13)) (pcN := 136) jIQ_161_133 rfl rfl rfl rfl rfl rfl rfl ?_
  refine jT_xiload (v := (0, 5)) (pcN := 138) jIQ_161_136 rfl rfl rfl ?_
  refine jT_lald (x := 0) (a := 13) (j := 5) (fs := []) (X := [0, 0, 0, 0, 0, 0]) jIQ_161_138 rfl rfl rfl rfl ?_
  refine jT_eq (LN := [(7, (0, 5)), (5, (1, q1)), (0, (4, 0)), (1, (0, r7)), (2, (0, r8)), (3, (4, 1)), (4, (0, o4))]) (stN := [(1, 0), (0, 5), (4, 9)]) (hsN := [jzQ_16, (4, [(4, 13), (1, 1)], []), (8, [(4, 14), (4, 15)], []), jgh, jgh, jgh, jgh, jgh, jgh, (101, [], [q1, -r7, -r8, 0, 0, 0]), (101, [], [k86_0, k86_1, k86_2, k86_3, k86_4, k86_5]), jgh, jgh, (101, [], [0, 0, 0, 0, 0, 0]), jgh, jgh]) rfl rfl rfl ?_
  refine jT_xaload_n (v := (4, 0)) (pcN := 140) jIQ_161_139 rfl rfl rfl ?_
  refine jT_xgetf (a := 0) (t := 1) (ci := 13) (fi := 7) (c := jzQ_16) (v := (4, 9)) (pcN := 143) jIQ_161_140 rfl rfl rfl rfl rfl rfl rfl ?_
  refine jT_xiload (v := (0, 5)) (pcN := 145) jIQ_161_143 rfl rfl rfl ?_
  refine jT_lald (x := 0) (a := 9) (j := 5) (fs := []) (X := [q1, -r7, -r8, 0, 0, 0]) jIQ_161_145 rfl rfl rfl rfl ?_
  refine jT_eq (LN := [(7, (0, 5)), (5, (1, q1)), (0, (4, 0)), (1, (0, r7)), (2, (0, r8)), (3, (4, 1)), (4, (0, o4))]) (stN := [(1, 0), (1, 0), (0, 5), (4, 9)]) (hsN := [jzQ_16, (4, [(4, 13), (1, 1)], []), (8, [(4, 14), (4, 15)], []), jgh, jgh, jgh, jgh, jgh, jgh, (101, [], [q1, -r7, -r8, 0, 0, 0]), (101, [], [k86_0, k86_1, k86_2, k86_3, k86_4, k86_5]), jgh, jgh, (101, [], [0, 0, 0, 0, 0, 0]), jgh, jgh]) rfl rfl rfl ?_
  refine jT_xaload_n (v := (4, 1)) (pcN := 147) jIQ_161_146 rfl rfl rfl ?_
  refine jT_xgetf (a := 1) (t := 2) (ci := 4) (fi := 1) (c := (4, [(4, 13), (1, 1)], [])) (v := (1, 1)) (pcN := 150) jIQ_161_147 rfl rfl rfl rfl rfl rfl rfl ?_
  refine jT_xlmul (x := 0) (y := 1) (z := 0) (pcN := 151) jIQ_161_150 rfl (by decide) rfl ?_
  refine jT_xlsub (x := 0) (y := 0) (z := 0) (pcN := 152) jIQ_161_151 rfl (by decide) rfl ?_
  refine jT_adv 1 (pcN := 153) (LN := [(7, (0, 5)), (5, (1, q1)), (0, (4, 0)), (1, (0, r7)), (2, (0, r8)), (3, (4, 1)), (4, (0, o4))]) (stN := []) (hsN := [jzQ_16, (4, [(4, 13), (1, 1)], []), (8, [(4, 14), (4, 15)], []), jgh, jgh, jgh, jgh, jgh, jgh, (101, [], [q1, -r7, -r8, 0, 0, 0]), (101, [], [k86_0, k86_1, k86_2, k86_3, k86_4, k86_5]), jgh, jgh, (101, [], [0, 0, 0, 0, 0, 0]), jgh, jgh]) (c1 := 0) (s1 := 0) (c2 := 0) (s2 := 0) (by exact rfl) ?_ (by omega) (by omega)
  refine jT_xiinc (x := 5) (z := 6) (LN := [(7, (0, 6)), (5, (1, q1)), (0, (4, 0)), (1, (0, r7)), (2, (0, r8)), (3, (4, 1)), (4, (0, o4))]) (pcN := 156) jIQ_161_153 rfl rfl (by decide) rfl rfl ?_
  refine jT_xgoto (pcN := 119) jIQ_161_156 rfl ?_
  refine jT_xiload (v := (0, 6)) (pcN := 121) jIQ_161_119 rfl rfl rfl ?_
  refine jT_xbipush (k := 6) (pcN := 123) jIQ_161_121 (by decide) rfl ?_
  refine jT_xicT (pcN := 159) jIQ_161_123 rfl (by decide +kernel) rfl ?_
  refine jT_xaload_n (v := (4, 0)) (pcN := 160) jIQ_161_159 rfl rfl rfl ?_
  refine jT_xgetf (a := 0) (t := 1) (ci := 13) (fi := 0) (c := jzQ_16) (v := (4, 2)) (pcN := 163) jIQ_161_160 rfl rfl rfl rfl rfl rfl rfl ?_
  refine jT_xaload_n (v := (4, 0)) (pcN := 164) jIQ_161_163 rfl rfl rfl ?_
  refine jT_xgetf (a := 0) (t := 1) (ci := 13) (fi := 7) (c := jzQ_16) (v := (4, 9)) (pcN := 167) jIQ_161_164 rfl rfl rfl rfl rfl rfl rfl ?_
  refine jT_callA [2, 9, 14, 15] (y := 38) (pcN := 170) (dC := 1) (bc1 := 0) (bc2 := 0) (c1 := 0) (c2 := 0) (as := [(4, 2), (4, 9)]) (asC := [(4, 0), (4, 1)]) (LN := [(7, (0, 6)), (5, (1, q1)), (0, (4, 0)), (1, (0, r7)), (2, (0, r8)), (3, (4, 1)), (4, (0, o4))]) (stN := []) (hsC := [(8, [(4, 2), (4, 3)], []), (101, [], [q1, -r7, -r8, 0, 0, 0]), jgh, jgh]) (ex := []) (v := (0, (-1))) (st2 := [(0, (-1))]) (hs2 := [jzQ_16, (4, [(4, 13), (1, 1)], []), (8, [(4, 14), (4, 15)], []), jgh, jgh, jgh, jgh, jgh, jgh, (101, [], [q1, -r7, -r8, 0, 0, 0]), (101, [], [k86_0, k86_1, k86_2, k86_3, k86_4, k86_5]), jgh, jgh, (101, [], [0, 0, 0, 0, 0, 0]), jgh, jgh]) (jQl_sp38_117 (d := 0) (by omega) (by omega) (by omega) (by omega) (by omega) (by omega) (by omega)) (by rfl) (by rfl) (by rfl) (by rfl) ⟨rfl, rfl, rfl, rfl, trivial⟩ (by rfl) (by rfl) (by omega) (by show 16 ≤ 16; omega) (by omega) (by omega) rfl rfl ?_
  refine jT_xifT (pcN := 177) jIQ_161_170 rfl (by decide +kernel) rfl ?_
  refine jT_xiconst (k := 0) (pcN := 178) jIQ_161_177 rfl ?_
  subst hq_q4
  subst hq_q3
  subst hq_q2
  subst hq_q1
  exact jT_ret rfl (by decide) (by show 16 ≤ 16; omega) (by omega) (by omega) ⟨rfl, rfl, rfl⟩
theorem jQ_161_226 {xs : List Int} {d : Nat} {k86_0 k86_1 k86_2 k86_3 k86_4 k86_5 o4 r7 r8 u85_0 u85_1 u85_2 u85_3 u85_4 u85_5 : Int} (h_k86_0 : 1 ≤ k86_0 ∧ k86_0 ≤ 100) (h_k86_1 : 2 ≤ k86_1 ∧ k86_1 ≤ 158) (h_k86_2 : 2 ≤ k86_2 ∧ k86_2 ≤ 232) (h_k86_3 : 3 ≤ k86_3 ∧ k86_3 ≤ 281) (h_k86_4 : 3 ≤ k86_4 ∧ k86_4 ≤ 346) (h_k86_5 : 4 ≤ k86_5 ∧ k86_5 ≤ 370) (h_o4 : 1 ≤ o4 ∧ o4 ≤ 100) (h_r7 : (-20) ≤ r7 ∧ r7 ≤ 20) (h_r8 : (-10) ≤ r8 ∧ r8 ≤ 10) (g_0 : 0 ≤ r7) (g_1 : r7 ≤ 0) (g_2 : 0 < r8) (g_3 : 0 ≤ -(((108917793695 * r7 + 159561683699 * r8) / 68719476736) * o4) + (r7 * k86_1) + (r8 * k86_2) - 1) : jT xs (d + 2) 161 15 0 [(0, (4, 0)), (1, (0, r7)), (2, (0, r8)), (3, (4, 1)), (4, (0, o4))] [] [jzQ_16, jgh, (8, [(4, 13), (4, 14)], []), jgh, jgh, jgh, jgh, jgh, jgh, (101, [], [u85_0, u85_1, u85_2, u85_3, u85_4, u85_5]), (101, [], [k86_0, k86_1, k86_2, k86_3, k86_4, k86_5]), jgh, jgh, jgh, jgh] 0 0 (fun k v hsN => k = 0 ∧ v = (0, 0) ∧ hsN = [jzQ_16, jgh, (8, [(4, 13), (4, 14)], []), jgh, jgh, jgh, jgh, jgh, jgh, (101, [], [0, r7, r8, 0, 0, 0]), (101, [], [k86_0, k86_1, k86_2, k86_3, k86_4, k86_5]), jgh, jgh, jgh, jgh]) := by
  refine jT_xiload_n (v := (0, r7)) (pcN := 1) jIQ_161_0 rfl rfl rfl ?_
  refine jT_ifF (a := r7) (t := 10) (by rfl) (by rfl) (by rfl) (jw_idd (by omega) (by omega)) (by simp only [jcP] <;> omega) ?_
  refine jT_xiload_n (v := (0, r8)) (pcN := 5) jIQ_161_4 rfl rfl rfl ?_
  refine jT_ifT (a := r8) (t := 10) (by rfl) (by rfl) (by rfl) (jw_idd (by omega) (by omega)) (by simp only [jcP] <;> omega) ?_
  refine jT_xiconst (k := 0) (pcN := 11) jIQ_161_10 rfl ?_
  refine jT_xistore (v := (0, 0)) (LN := [(5, (0, 0)), (0, (4, 0)), (1, (0, r7)), (2, (0, r8)), (3, (4, 1)), (4, (0, o4))]) (pcN := 13) jIQ_161_11 rfl rfl rfl rfl ?_
  refine jT_xiload (v := (0, 0)) (pcN := 15) jIQ_161_13 rfl rfl rfl ?_
  refine jT_xbipush (k := 6) (pcN := 17) jIQ_161_15 (by decide) rfl ?_
  refine jT_xicF (t := 56) (pcN := 20) jIQ_161_17 rfl (by decide +kernel) rfl rfl ?_
  refine jT_xaload_n (v := (4, 0)) (pcN := 21) jIQ_161_20 rfl rfl rfl ?_
  refine jT_xgetf (a := 0) (t := 1) (ci := 13) (fi := 7) (c := jzQ_16) (v := (4, 9)) (pcN := 24) jIQ_161_21 rfl rfl rfl rfl rfl rfl rfl ?_
  refine jT_xiload (v := (0, 0)) (pcN := 26) jIQ_161_24 rfl rfl rfl ?_
  refine jT_xiload (v := (0, 0)) (pcN := 28) jIQ_161_26 rfl rfl rfl ?_
  refine jT_xiconst (k := 1) (pcN := 29) jIQ_161_28 rfl ?_
  refine jT_xicT (pcN := 37) jIQ_161_29 rfl (by decide +kernel) rfl ?_
  refine jT_xiload (v := (0, 0)) (pcN := 39) jIQ_161_37 rfl rfl rfl ?_
  refine jT_xiconst (k := 2) (pcN := 40) jIQ_161_39 rfl ?_
  refine jT_xicT (pcN := 48) jIQ_161_40 rfl (by decide +kernel) rfl ?_
  refine jT_xlconst (z := 0) (pcN := 49) jIQ_161_48 rfl rfl ?_
  refine jT_adv 1 (pcN := 50) (LN := [(5, (0, 0)), (0, (4, 0)), (1, (0, r7)), (2, (0, r8)), (3, (4, 1)), (4, (0, o4))]) (stN := []) (hsN := [jzQ_16, jgh, (8, [(4, 13), (4, 14)], []), jgh, jgh, jgh, jgh, jgh, jgh, (101, [], [0, u85_1, u85_2, u85_3, u85_4, u85_5]), (101, [], [k86_0, k86_1, k86_2, k86_3, k86_4, k86_5]), jgh, jgh, jgh, jgh]) (c1 := 0) (s1 := 0) (c2 := 0) (s2 := 0) (by exact rfl) ?_ (by omega) (by omega)
  refine jT_xiinc (x := 0) (z := 1) (LN := [(5, (0, 1)), (0, (4, 0)), (1, (0, r7)), (2, (0, r8)), (3, (4, 1)), (4, (0, o4))]) (pcN := 53) jIQ_161_50 rfl rfl (by decide) rfl rfl ?_
  refine jT_xgoto (pcN := 13) jIQ_161_53 rfl ?_
  refine jT_xiload (v := (0, 1)) (pcN := 15) jIQ_161_13 rfl rfl rfl ?_
  refine jT_xbipush (k := 6) (pcN := 17) jIQ_161_15 (by decide) rfl ?_
  refine jT_xicF (t := 56) (pcN := 20) jIQ_161_17 rfl (by decide +kernel) rfl rfl ?_
  refine jT_xaload_n (v := (4, 0)) (pcN := 21) jIQ_161_20 rfl rfl rfl ?_
  refine jT_xgetf (a := 0) (t := 1) (ci := 13) (fi := 7) (c := jzQ_16) (v := (4, 9)) (pcN := 24) jIQ_161_21 rfl rfl rfl rfl rfl rfl rfl ?_
  refine jT_xiload (v := (0, 1)) (pcN := 26) jIQ_161_24 rfl rfl rfl ?_
  refine jT_xiload (v := (0, 1)) (pcN := 28) jIQ_161_26 rfl rfl rfl ?_
  refine jT_xiconst (k := 1) (pcN := 29) jIQ_161_28 rfl ?_
  refine jT_xicF (t := 37) (pcN := 32) jIQ_161_29 rfl (by decide +kernel) rfl rfl ?_
  refine jT_xiload_n (v := (0, r7)) (pcN := 33) jIQ_161_32 rfl rfl rfl ?_
  refine jT_xi2l (x := r7) (z := r7) (pcN := 34) jIQ_161_33 rfl (jw_idd (by omega) (by omega)) rfl ?_
  refine jT_xgoto (pcN := 49) jIQ_161_34 rfl ?_
  refine jT_adv 1 (pcN := 50) (LN := [(5, (0, 1)), (0, (4, 0)), (1, (0, r7)), (2, (0, r8)), (3, (4, 1)), (4, (0, o4))]) (stN := []) (hsN := [jzQ_16, jgh, (8, [(4, 13), (4, 14)], []), jgh, jgh, jgh, jgh, jgh, jgh, (101, [], [0, r7, u85_2, u85_3, u85_4, u85_5]), (101, [], [k86_0, k86_1, k86_2, k86_3, k86_4, k86_5]), jgh, jgh, jgh, jgh]) (c1 := 0) (s1 := 0) (c2 := 0) (s2 := 0) (by exact rfl) ?_ (by omega) (by omega)
  refine jT_xiinc (x := 1) (z := 2) (LN := [(5, (0, 2)), (0, (4, 0)), (1, (0, r7)), (2, (0, r8)), (3, (4, 1)), (4, (0, o4))]) (pcN := 53) jIQ_161_50 rfl rfl (by decide) rfl rfl ?_
  refine jT_xgoto (pcN := 13) jIQ_161_53 rfl ?_
  refine jT_xiload (v := (0, 2)) (pcN := 15) jIQ_161_13 rfl rfl rfl ?_
  refine jT_xbipush (k := 6) (pcN := 17) jIQ_161_15 (by decide) rfl ?_
  refine jT_xicF (t := 56) (pcN := 20) jIQ_161_17 rfl (by decide +kernel) rfl rfl ?_
  refine jT_xaload_n (v := (4, 0)) (pcN := 21) jIQ_161_20 rfl rfl rfl ?_
  refine jT_xgetf (a := 0) (t := 1) (ci := 13) (fi := 7) (c := jzQ_16) (v := (4, 9)) (pcN := 24) jIQ_161_21 rfl rfl rfl rfl rfl rfl rfl ?_
  refine jT_xiload (v := (0, 2)) (pcN := 26) jIQ_161_24 rfl rfl rfl ?_
  refine jT_xiload (v := (0, 2)) (pcN := 28) jIQ_161_26 rfl rfl rfl ?_
  refine jT_xiconst (k := 1) (pcN := 29) jIQ_161_28 rfl ?_
  refine jT_xicT (pcN := 37) jIQ_161_29 rfl (by decide +kernel) rfl ?_
  refine jT_xiload (v := (0, 2)) (pcN := 39) jIQ_161_37 rfl rfl rfl ?_
  refine jT_xiconst (k := 2) (pcN := 40) jIQ_161_39 rfl ?_
  refine jT_xicF (t := 48) (pcN := 43) jIQ_161_40 rfl (by decide +kernel) rfl rfl ?_
  refine jT_xiload_n (v := (0, r8)) (pcN := 44) jIQ_161_43 rfl rfl rfl ?_
  refine jT_xi2l (x := r8) (z := r8) (pcN := 45) jIQ_161_44 rfl (jw_idd (by omega) (by omega)) rfl ?_
  refine jT_xgoto (pcN := 49) jIQ_161_45 rfl ?_
  refine jT_adv 1 (pcN := 50) (LN := [(5, (0, 2)), (0, (4, 0)), (1, (0, r7)), (2, (0, r8)), (3, (4, 1)), (4, (0, o4))]) (stN := []) (hsN := [jzQ_16, jgh, (8, [(4, 13), (4, 14)], []), jgh, jgh, jgh, jgh, jgh, jgh, (101, [], [0, r7, r8, u85_3, u85_4, u85_5]), (101, [], [k86_0, k86_1, k86_2, k86_3, k86_4, k86_5]), jgh, jgh, jgh, jgh]) (c1 := 0) (s1 := 0) (c2 := 0) (s2 := 0) (by exact rfl) ?_ (by omega) (by omega)
  refine jT_xiinc (x := 2) (z := 3) (LN := [(5, (0, 3)), (0, (4, 0)), (1, (0, r7)), (2, (0, r8)), (3, (4, 1)), (4, (0, o4))]) (pcN := 53) jIQ_161_50 rfl rfl (by decide) rfl rfl ?_
  refine jT_xgoto (pcN := 13) jIQ_161_53 rfl ?_
  refine jT_xiload (v := (0, 3)) (pcN := 15) jIQ_161_13 rfl rfl rfl ?_
  refine jT_xbipush (k := 6) (pcN := 17) jIQ_161_15 (by decide) rfl ?_
  refine jT_xicF (t := 56) (pcN := 20) jIQ_161_17 rfl (by decide +kernel) rfl rfl ?_
  refine jT_xaload_n (v := (4, 0)) (pcN := 21) jIQ_161_20 rfl rfl rfl ?_
  refine jT_xgetf (a := 0) (t := 1) (ci := 13) (fi := 7) (c := jzQ_16) (v := (4, 9)) (pcN := 24) jIQ_161_21 rfl rfl rfl rfl rfl rfl rfl ?_
  refine jT_xiload (v := (0, 3)) (pcN := 26) jIQ_161_24 rfl rfl rfl ?_
  refine jT_xiload (v := (0, 3)) (pcN := 28) jIQ_161_26 rfl rfl rfl ?_
  refine jT_xiconst (k := 1) (pcN := 29) jIQ_161_28 rfl ?_
  refine jT_xicT (pcN := 37) jIQ_161_29 rfl (by decide +kernel) rfl ?_
  refine jT_xiload (v := (0, 3)) (pcN := 39) jIQ_161_37 rfl rfl rfl ?_
  refine jT_xiconst (k := 2) (pcN := 40) jIQ_161_39 rfl ?_
  refine jT_xicT (pcN := 48) jIQ_161_40 rfl (by decide +kernel) rfl ?_
  refine jT_xlconst (z := 0) (pcN := 49) jIQ_161_48 rfl rfl ?_
  refine jT_adv 1 (pcN := 50) (LN := [(5, (0, 3)), (0, (4, 0)), (1, (0, r7)), (2, (0, r8)), (3, (4, 1)), (4, (0, o4))]) (stN := []) (hsN := [jzQ_16, jgh, (8, [(4, 13), (4, 14)], []), jgh, jgh, jgh, jgh, jgh, jgh, (101, [], [0, r7, r8, 0, u85_4, u85_5]), (101, [], [k86_0, k86_1, k86_2, k86_3, k86_4, k86_5]), jgh, jgh, jgh, jgh]) (c1 := 0) (s1 := 0) (c2 := 0) (s2 := 0) (by exact rfl) ?_ (by omega) (by omega)
  refine jT_xiinc (x := 3) (z := 4) (LN := [(5, (0, 4)), (0, (4, 0)), (1, (0, r7)), (2, (0, r8)), (3, (4, 1)), (4, (0, o4))]) (pcN := 53) jIQ_161_50 rfl rfl (by decide) rfl rfl ?_
  refine jT_xgoto (pcN := 13) jIQ_161_53 rfl ?_
  refine jT_xiload (v := (0, 4)) (pcN := 15) jIQ_161_13 rfl rfl rfl ?_
  refine jT_xbipush (k := 6) (pcN := 17) jIQ_161_15 (by decide) rfl ?_
  refine jT_xicF (t := 56) (pcN := 20) jIQ_161_17 rfl (by decide +kernel) rfl rfl ?_
  refine jT_xaload_n (v := (4, 0)) (pcN := 21) jIQ_161_20 rfl rfl rfl ?_
  refine jT_xgetf (a := 0) (t := 1) (ci := 13) (fi := 7) (c := jzQ_16) (v := (4, 9)) (pcN := 24) jIQ_161_21 rfl rfl rfl rfl rfl rfl rfl ?_
  refine jT_xiload (v := (0, 4)) (pcN := 26) jIQ_161_24 rfl rfl rfl ?_
  refine jT_xiload (v := (0, 4)) (pcN := 28) jIQ_161_26 rfl rfl rfl ?_
  refine jT_xiconst (k := 1) (pcN := 29) jIQ_161_28 rfl ?_
  refine jT_xicT (pcN := 37) jIQ_161_29 rfl (by decide +kernel) rfl ?_
  refine jT_xiload (v := (0, 4)) (pcN := 39) jIQ_161_37 rfl rfl rfl ?_
  refine jT_xiconst (k := 2) (pcN := 40) jIQ_161_39 rfl ?_
  refine jT_xicT (pcN := 48) jIQ_161_40 rfl (by decide +kernel) rfl ?_
  refine jT_xlconst (z := 0) (pcN := 49) jIQ_161_48 rfl rfl ?_
  refine jT_adv 1 (pcN := 50) (LN := [(5, (0, 4)), (0, (4, 0)), (1, (0, r7)), (2, (0, r8)), (3, (4, 1)), (4, (0, o4))]) (stN := []) (hsN := [jzQ_16, jgh, (8, [(4, 13), (4, 14)], []), jgh, jgh, jgh, jgh, jgh, jgh, (101, [], [0, r7, r8, 0, 0, u85_5]), (101, [], [k86_0, k86_1, k86_2, k86_3, k86_4, k86_5]), jgh, jgh, jgh, jgh]) (c1 := 0) (s1 := 0) (c2 := 0) (s2 := 0) (by exact rfl) ?_ (by omega) (by omega)
  refine jT_xiinc (x := 4) (z := 5) (LN := [(5, (0, 5)), (0, (4, 0)), (1, (0, r7)), (2, (0, r8)), (3, (4, 1)), (4, (0, o4))]) (pcN := 53) jIQ_161_50 rfl rfl (by decide) rfl rfl ?_
  refine jT_xgoto (pcN := 13) jIQ_161_53 rfl ?_
  refine jT_xiload (v := (0, 5)) (pcN := 15) jIQ_161_13 rfl rfl rfl ?_
  refine jT_xbipush (k := 6) (pcN := 17) jIQ_161_15 (by decide) rfl ?_
  refine jT_xicF (t := 56) (pcN := 20) jIQ_161_17 rfl (by decide +kernel) rfl rfl ?_
  refine jT_xaload_n (v := (4, 0)) (pcN := 21) jIQ_161_20 rfl rfl rfl ?_
  refine jT_xgetf (a := 0) (t := 1) (ci := 13) (fi := 7) (c := jzQ_16) (v := (4, 9)) (pcN := 24) jIQ_161_21 rfl rfl rfl rfl rfl rfl rfl ?_
  refine jT_xiload (v := (0, 5)) (pcN := 26) jIQ_161_24 rfl rfl rfl ?_
  refine jT_xiload (v := (0, 5)) (pcN := 28) jIQ_161_26 rfl rfl rfl ?_
  refine jT_xiconst (k := 1) (pcN := 29) jIQ_161_28 rfl ?_
  refine jT_xicT (pcN := 37) jIQ_161_29 rfl (by decide +kernel) rfl ?_
  refine jT_xiload (v := (0, 5)) (pcN := 39) jIQ_161_37 rfl rfl rfl ?_
  refine jT_xiconst (k := 2) (pcN := 40) jIQ_161_39 rfl ?_
  refine jT_xicT (pcN := 48) jIQ_161_40 rfl (by decide +kernel) rfl ?_
  refine jT_xlconst (z := 0) (pcN := 49) jIQ_161_48 rfl rfl ?_
  refine jT_adv 1 (pcN := 50) (LN := [(5, (0, 5)), (0, (4, 0)), (1, (0, r7)), (2, (0, r8)), (3, (4, 1)), (4, (0, o4))]) (stN := []) (hsN := [jzQ_16, jgh, (8, [(4, 13), (4, 14)], []), jgh, jgh, jgh, jgh, jgh, jgh, (101, [], [0, r7, r8, 0, 0, 0]), (101, [], [k86_0, k86_1, k86_2, k86_3, k86_4, k86_5]), jgh, jgh, jgh, jgh]) (c1 := 0) (s1 := 0) (c2 := 0) (s2 := 0) (by exact rfl) ?_ (by omega) (by omega)
  refine jT_xiinc (x := 5) (z := 6) (LN := [(5, (0, 6)), (0, (4, 0)), (1, (0, r7)), (2, (0, r8)), (3, (4, 1)), (4, (0, o4))]) (pcN := 53) jIQ_161_50 rfl rfl (by decide) rfl rfl ?_
  refine jT_xgoto (pcN := 13) jIQ_161_53 rfl ?_
  refine jT_xiload (v := (0, 6)) (pcN := 15) jIQ_161_13 rfl rfl rfl ?_
  refine jT_xbipush (k := 6) (pcN := 17) jIQ_161_15 (by decide) rfl ?_
  refine jT_xicT (pcN := 56) jIQ_161_17 rfl (by decide +kernel) rfl ?_
  refine jT_xaload_n (v := (4, 0)) (pcN := 57) jIQ_161_56 rfl rfl rfl ?_
  refine jT_xgetf (a := 0) (t := 1) (ci := 13) (fi := 0) (c := jzQ_16) (v := (4, 2)) (pcN := 60) jIQ_161_57 rfl rfl rfl rfl rfl rfl rfl ?_
  refine jT_xaload_n (v := (4, 0)) (pcN := 61) jIQ_161_60 rfl rfl rfl ?_
  refine jT_xgetf (a := 0) (t := 1) (ci := 13) (fi := 7) (c := jzQ_16) (v := (4, 9)) (pcN := 64) jIQ_161_61 rfl rfl rfl rfl rfl rfl rfl ?_
  refine jT_xlconst (z := 1) (pcN := 65) jIQ_161_64 rfl rfl ?_
  refine jT_xlconst (z := 1) (pcN := 66) jIQ_161_65 rfl rfl ?_
  refine jT_callA [2, 9, 13, 14] (y := 45) (pcN := 69) (dC := 1) (bc1 := 0) (bc2 := 0) (c1 := 0) (c2 := 0) (as := [(4, 2), (4, 9), (1, 1), (1, 1)]) (asC := [(4, 0), (4, 1), (1, 1), (1, 1)]) (LN := [(5, (0, 6)), (0, (4, 0)), (1, (0, r7)), (2, (0, r8)), (3, (4, 1)), (4, (0, o4))]) (stN := []) (hsC := [(8, [(4, 2), (4, 3)], []), (101, [], [0, r7, r8, 0, 0, 0]), jgh, jgh]) (ex := []) (v := (1, (108917793695 * r7 + 159561683699 * r8) / 68719476736)) (st2 := [(1, (108917793695 * r7 + 159561683699 * r8) / 68719476736)]) (hs2 := [jzQ_16, jgh, (8, [(4, 13), (4, 14)], []), jgh, jgh, jgh, jgh, jgh, jgh, (101, [], [0, r7, r8, 0, 0, 0]), (101, [], [k86_0, k86_1, k86_2, k86_3, k86_4, k86_5]), jgh, jgh, jgh, jgh]) (jQl_sp45_116 (d := 0) (by omega) (by omega)) (by rfl) (by rfl) (by rfl) (by rfl) ⟨rfl, rfl, rfl, rfl, trivial⟩ (by rfl) (by rfl) (by omega) (by show 15 ≤ 15; omega) (by omega) (by omega) rfl rfl ?_
  have hb_q1 : (-60) ≤ (108917793695 * r7 + 159561683699 * r8) / 68719476736 ∧ (108917793695 * r7 + 159561683699 * r8) / 68719476736 ≤ 60 := ⟨by omega, by omega⟩
  generalize hq_q1 : (108917793695 * r7 + 159561683699 * r8) / 68719476736 = q1 at hb_q1 g_3 ⊢
  refine jT_xlstore (v := (1, q1)) (LN := [(5, (1, q1)), (0, (4, 0)), (1, (0, r7)), (2, (0, r8)), (3, (4, 1)), (4, (0, o4))]) (pcN := 71) jIQ_161_69 rfl rfl rfl rfl ?_
  have g_4 : 0 ≤ (-68719476736) * q1 + 108917793694 * r7 + 159561683698 * r8 - 1 := by have := jcg (b := r7) (c := r8) (by omega) (by omega) (by omega); rw [hq_q1] at this; omega
  have g_5 : 0 ≤ (-68719476736) * q1 + 108917793694 * r7 + 159561683700 * r8 - 1 := by have := jcg (b := r7) (c := r8) (by omega) (by omega) (by omega); rw [hq_q1] at this; omega
  have g_6 : 0 ≤ (-68719476736) * q1 + 108917793696 * r7 + 159561683698 * r8 - 1 := by have := jcg (b := r7) (c := r8) (by omega) (by omega) (by omega); rw [hq_q1] at this; omega
  have g_7 : 0 ≤ (-68719476736) * q1 + 108917793696 * r7 + 159561683700 * r8 - 1 := by have := jcg (b := r7) (c := r8) (by omega) (by omega) (by omega); rw [hq_q1] at this; omega
  refine jT_xiload (v := (0, o4)) (pcN := 73) jIQ_161_71 rfl rfl rfl ?_
  refine jT_ifF (a := o4) (t := 107) (by rfl) (by rfl) (by rfl) (jw_idd (by omega) (by omega)) (by simp only [jcP] <;> omega) ?_
  refine jT_xiload_n (v := (0, r7)) (pcN := 77) jIQ_161_76 rfl rfl rfl ?_
  refine jT_xi2l (x := r7) (z := r7) (pcN := 78) jIQ_161_77 rfl (jw_idd (by omega) (by omega)) rfl ?_
  refine jT_xaload_n (v := (4, 0)) (pcN := 79) jIQ_161_78 rfl rfl rfl ?_
  refine jT_xgetf (a := 0) (t := 1) (ci := 13) (fi := 8) (c := jzQ_16) (v := (4, 10)) (pcN := 82) jIQ_161_79 rfl rfl rfl rfl rfl rfl rfl ?_
  refine jT_xiconst (k := 1) (pcN := 83) jIQ_161_82 rfl ?_
  refine jT_lald (x := k86_1) (a := 10) (j := 1) (fs := []) (X := [k86_0, k86_1, k86_2, k86_3, k86_4, k86_5]) jIQ_161_83 rfl rfl rfl rfl ?_
  refine jT_eq (LN := [(5, (1, q1)), (0, (4, 0)), (1, (0, r7)), (2, (0, r8)), (3, (4, 1)), (4, (0, o4))]) (stN := [(1, k86_1), (1, r7)]) (hsN := [jzQ_16, jgh, (8, [(4, 13), (4, 14)], []), jgh, jgh, jgh, jgh, jgh, jgh, (101, [], [0, r7, r8, 0, 0, 0]), (101, [], [k86_0, k86_1, k86_2, k86_3, k86_4, k86_5]), jgh, jgh, jgh, jgh]) rfl rfl rfl ?_
  refine jT_xlmul (x := r7) (y := k86_1) (z := r7 * k86_1) (pcN := 85) jIQ_161_84 rfl rfl rfl ?_
  have hb_q2 := jmul_b (x := r7) (y := k86_1) (m := 20) (n := 158) (by omega) (by omega) (by omega) (by omega)
  have hb_q2 : 0 ≤ r7 * k86_1 ∧ r7 * k86_1 ≤ 3160 := ⟨hb_q2.1, by omega⟩
  generalize hq_q2 : r7 * k86_1 = q2 at hb_q2 g_3 ⊢
  refine jT_xiload_n (v := (0, r8)) (pcN := 86) jIQ_161_85 rfl rfl rfl ?_
  refine jT_xi2l (x := r8) (z := r8) (pcN := 87) jIQ_161_86 rfl (jw_idd (by omega) (by omega)) rfl ?_
  refine jT_xaload_n (v := (4, 0)) (pcN := 88) jIQ_161_87 rfl rfl rfl ?_
  refine jT_xgetf (a := 0) (t := 1) (ci := 13) (fi := 8) (c := jzQ_16) (v := (4, 10)) (pcN := 91) jIQ_161_88 rfl rfl rfl rfl rfl rfl rfl ?_
  refine jT_xiconst (k := 2) (pcN := 92) jIQ_161_91 rfl ?_
  refine jT_lald (x := k86_2) (a := 10) (j := 2) (fs := []) (X := [k86_0, k86_1, k86_2, k86_3, k86_4, k86_5]) jIQ_161_92 rfl rfl rfl rfl ?_
  refine jT_eq (LN := [(5, (1, q1)), (0, (4, 0)), (1, (0, r7)), (2, (0, r8)), (3, (4, 1)), (4, (0, o4))]) (stN := [(1, k86_2), (1, r8), (1, q2)]) (hsN := [jzQ_16, jgh, (8, [(4, 13), (4, 14)], []), jgh, jgh, jgh, jgh, jgh, jgh, (101, [], [0, r7, r8, 0, 0, 0]), (101, [], [k86_0, k86_1, k86_2, k86_3, k86_4, k86_5]), jgh, jgh, jgh, jgh]) rfl rfl rfl ?_
  refine jT_xlmul (x := r8) (y := k86_2) (z := r8 * k86_2) (pcN := 94) jIQ_161_93 rfl rfl rfl ?_
  have hb_q3 := jmul_b2 (x := r8) (y := k86_2) (k := 1) (l := 2) (m := 10) (n := 232) (by omega) (by omega) (by omega) (by omega) (by omega) (by omega)
  have hb_q3 : 2 ≤ r8 * k86_2 ∧ r8 * k86_2 ≤ 2320 := ⟨by omega, by omega⟩
  generalize hq_q3 : r8 * k86_2 = q3 at hb_q3 g_3 ⊢
  refine jT_xladd (x := q2) (y := q3) (z := q2 + q3) (pcN := 95) jIQ_161_94 rfl (rfl) rfl ?_
  refine jT_xlload (v := (1, q1)) (pcN := 97) jIQ_161_95 rfl rfl rfl ?_
  refine jT_xiload (v := (0, o4)) (pcN := 99) jIQ_161_97 rfl rfl rfl ?_
  refine jT_xi2l (x := o4) (z := o4) (pcN := 100) jIQ_161_99 rfl (jw_idd (by omega) (by omega)) rfl ?_
  refine jT_xlmul (x := q1) (y := o4) (z := q1 * o4) (pcN := 101) jIQ_161_100 rfl rfl rfl ?_
  have hb_q4 := jmul_bs (x := q1) (y := o4) (m := 60) (n := 100) (by omega) (by omega) (by omega) (by omega)
  have hb_q4 : (-6000) ≤ q1 * o4 ∧ q1 * o4 ≤ 6000 := ⟨by omega, by omega⟩
  generalize hq_q4 : q1 * o4 = q4 at hb_q4 g_3 ⊢
  refine jT_lcmp (a := q2 + q3) (b := q4) (z := 1) (by rfl) (by rfl) (jwl_idd (by omega) (by omega)) (jwl_idd (by omega) (by omega)) (by rw [decide_eq_true (show (q4 : Int) < q2 + q3 by omega)]; rfl) ?_
  refine jT_xifF (t := 107) (pcN := 105) jIQ_161_102 rfl (by decide +kernel) rfl rfl ?_
  refine jT_xiconst (k := 0) (pcN := 106) jIQ_161_105 rfl ?_
  subst hq_q4
  subst hq_q3
  subst hq_q2
  subst hq_q1
  exact jT_ret rfl (by decide) (by show 15 ≤ 15; omega) (by omega) (by omega) ⟨rfl, rfl, rfl⟩
theorem jQ_161_227 {xs : List Int} {d : Nat} {o4 r7 r8 : Int} (h_o4 : 1 ≤ o4 ∧ o4 ≤ 100) (h_r7 : (-20) ≤ r7 ∧ r7 ≤ 20) (h_r8 : (-10) ≤ r8 ∧ r8 ≤ 10) (g_0 : 0 ≤ r7) (g_1 : r7 ≤ 0) (g_2 : 0 ≤ r8) (g_3 : r8 ≤ 0) : jT xs d 161 2 0 [(0, (4, 0)), (1, (0, r7)), (2, (0, r8)), (3, (4, 1)), (4, (0, o4))] [] [jgh, jgh] 0 0 (fun k v hsN => k = 0 ∧ v = (0, 0) ∧ hsN = [jgh, jgh] ++ []) := by
  refine jT_xiload_n (v := (0, r7)) (pcN := 1) jIQ_161_0 rfl rfl rfl ?_
  refine jT_ifF (a := r7) (t := 10) (by rfl) (by rfl) (by rfl) (jw_idd (by omega) (by omega)) (by simp only [jcP] <;> omega) ?_
  refine jT_xiload_n (v := (0, r8)) (pcN := 5) jIQ_161_4 rfl rfl rfl ?_
  refine jT_ifF (a := r8) (t := 10) (by rfl) (by rfl) (by rfl) (jw_idd (by omega) (by omega)) (by simp only [jcP] <;> omega) ?_
  refine jT_xiconst (k := 0) (pcN := 9) jIQ_161_8 rfl ?_
  exact jT_ret rfl (by decide) (by show 2 ≤ 2; omega) (by omega) (by omega) ⟨rfl, rfl, rfl⟩
theorem jQ_161_228 {xs : List Int} {d : Nat} {k86_0 k86_1 k86_2 k86_3 k86_4 k86_5 o4 r7 r8 u85_0 u85_1 u85_2 u85_3 u85_4 u85_5 : Int} (h_k86_0 : 1 ≤ k86_0 ∧ k86_0 ≤ 100) (h_k86_1 : 2 ≤ k86_1 ∧ k86_1 ≤ 158) (h_k86_2 : 2 ≤ k86_2 ∧ k86_2 ≤ 232) (h_k86_3 : 3 ≤ k86_3 ∧ k86_3 ≤ 281) (h_k86_4 : 3 ≤ k86_4 ∧ k86_4 ≤ 346) (h_k86_5 : 4 ≤ k86_5 ∧ k86_5 ≤ 370) (h_o4 : 1 ≤ o4 ∧ o4 ≤ 100) (h_r7 : (-20) ≤ r7 ∧ r7 ≤ 20) (h_r8 : (-10) ≤ r8 ∧ r8 ≤ 10) (g_0 : 0 ≤ r7) (g_1 : r7 ≤ 0) (g_2 : r8 < 0) (g_3 : -(((108917793695 * r7 + 159561683699 * r8) / 68719476736) * o4) + (r7 * k86_1) + (r8 * k86_2) - 1 < 0) (g_4 : -(((108917793695 * r7 + 159561683699 * r8) / 68719476736) * o4) + (r7 * k86_1) + (r8 * k86_2) < 0) : jT xs (d + 2) 161 15 0 [(0, (4, 0)), (1, (0, r7)), (2, (0, r8)), (3, (4, 1)), (4, (0, o4))] [] [jzQ_16, jgh, (8, [(4, 13), (4, 14)], []), jgh, jgh, jgh, jgh, jgh, jgh, (101, [], [u85_0, u85_1, u85_2, u85_3, u85_4, u85_5]), (101, [], [k86_0, k86_1, k86_2, k86_3, k86_4, k86_5]), jgh, jgh, jgh, jgh] 0 0 (fun k v hsN => k = 0 ∧ v = (0, 0) ∧ hsN = [jzQ_16, jgh, (8, [(4, 13), (4, 14)], []), jgh, jgh, jgh, jgh, jgh, jgh, (101, [], [0, r7, r8, 0, 0, 0]), (101, [], [k86_0, k86_1, k86_2, k86_3, k86_4, k86_5]), jgh, jgh, jgh, jgh]) := by
  refine jT_xiload_n (v := (0, r7)) (pcN := 1) jIQ_161_0 rfl rfl rfl ?_
  refine jT_ifF (a := r7) (t := 10) (by rfl) (by rfl) (by rfl) (jw_idd (by omega) (by omega)) (by simp only [jcP] <;> omega) ?_
  refine jT_xiload_n (v := (0, r8)) (pcN := 5) jIQ_161_4 rfl rfl rfl ?_
  refine jT_ifT (a := r8) (t := 10) (by rfl) (by rfl) (by rfl) (jw_idd (by omega) (by omega)) (by simp only [jcP] <;> omega) ?_
  refine jT_xiconst (k := 0) (pcN := 11) jIQ_161_10 rfl ?_
  refine jT_xistore (v := (0, 0)) (LN := [(5, (0, 0)), (0, (4, 0)), (1, (0, r7)), (2, (0, r8)), (3, (4, 1)), (4, (0, o4))]) (pcN := 13) jIQ_161_11 rfl rfl rfl rfl ?_
  refine jT_xiload (v := (0, 0)) (pcN := 15) jIQ_161_13 rfl rfl rfl ?_
  refine jT_xbipush (k := 6) (pcN := 17) jIQ_161_15 (by decide) rfl ?_
  refine jT_xicF (t := 56) (pcN := 20) jIQ_161_17 rfl (by decide +kernel) rfl rfl ?_
  refine jT_xaload_n (v := (4, 0)) (pcN := 21) jIQ_161_20 rfl rfl rfl ?_
  refine jT_xgetf (a := 0) (t := 1) (ci := 13) (fi := 7) (c := jzQ_16) (v := (4, 9)) (pcN := 24) jIQ_161_21 rfl rfl rfl rfl rfl rfl rfl ?_
  refine jT_xiload (v := (0, 0)) (pcN := 26) jIQ_161_24 rfl rfl rfl ?_
  refine jT_xiload (v := (0, 0)) (pcN := 28) jIQ_161_26 rfl rfl rfl ?_
  refine jT_xiconst (k := 1) (pcN := 29) jIQ_161_28 rfl ?_
  refine jT_xicT (pcN := 37) jIQ_161_29 rfl (by decide +kernel) rfl ?_
  refine jT_xiload (v := (0, 0)) (pcN := 39) jIQ_161_37 rfl rfl rfl ?_
  refine jT_xiconst (k := 2) (pcN := 40) jIQ_161_39 rfl ?_
  refine jT_xicT (pcN := 48) jIQ_161_40 rfl (by decide +kernel) rfl ?_
  refine jT_xlconst (z := 0) (pcN := 49) jIQ_161_48 rfl rfl ?_
  refine jT_adv 1 (pcN := 50) (LN := [(5, (0, 0)), (0, (4, 0)), (1, (0, r7)), (2, (0, r8)), (3, (4, 1)), (4, (0, o4))]) (stN := []) (hsN := [jzQ_16, jgh, (8, [(4, 13), (4, 14)], []), jgh, jgh, jgh, jgh, jgh, jgh, (101, [], [0, u85_1, u85_2, u85_3, u85_4, u85_5]), (101, [], [k86_0, k86_1, k86_2, k86_3, k86_4, k86_5]), jgh, jgh, jgh, jgh]) (c1 := 0) (s1 := 0) (c2 := 0) (s2 := 0) (by exact rfl) ?_ (by omega) (by omega)
  refine jT_xiinc (x := 0) (z := 1) (LN := [(5, (0, 1)), (0, (4, 0)), (1, (0, r7)), (2, (0, r8)), (3, (4, 1)), (4, (0, o4))]) (pcN := 53) jIQ_161_50 rfl rfl (by decide) rfl rfl ?_
  refine jT_xgoto (pcN := 13) jIQ_161_53 rfl ?_
  refine jT_xiload (v := (0, 1)) (pcN := 15) jIQ_161_13 rfl rfl rfl ?_
  refine jT_xbipush (k := 6) (pcN := 17) jIQ_161_15 (by decide) rfl ?_
  refine jT_xicF (t := 56) (pcN := 20) jIQ_161_17 rfl (by decide +kernel) rfl rfl ?_
  refine jT_xaload_n (v := (4, 0)) (pcN := 21) jIQ_161_20 rfl rfl rfl ?_
  refine jT_xgetf (a := 0) (t := 1) (ci := 13) (fi := 7) (c := jzQ_16) (v := (4, 9)) (pcN := 24) jIQ_161_21 rfl rfl rfl rfl rfl rfl rfl ?_
  refine jT_xiload (v := (0, 1)) (pcN := 26) jIQ_161_24 rfl rfl rfl ?_
  refine jT_xiload (v := (0, 1)) (pcN := 28) jIQ_161_26 rfl rfl rfl ?_
  refine jT_xiconst (k := 1) (pcN := 29) jIQ_161_28 rfl ?_
  refine jT_xicF (t := 37) (pcN := 32) jIQ_161_29 rfl (by decide +kernel) rfl rfl ?_
  refine jT_xiload_n (v := (0, r7)) (pcN := 33) jIQ_161_32 rfl rfl rfl ?_
  refine jT_xi2l (x := r7) (z := r7) (pcN := 34) jIQ_161_33 rfl (jw_idd (by omega) (by omega)) rfl ?_
  refine jT_xgoto (pcN := 49) jIQ_161_34 rfl ?_
  refine jT_adv 1 (pcN := 50) (LN := [(5, (0, 1)), (0, (4, 0)), (1, (0, r7)), (2, (0, r8)), (3, (4, 1)), (4, (0, o4))]) (stN := []) (hsN := [jzQ_16, jgh, (8, [(4, 13), (4, 14)], []), jgh, jgh, jgh, jgh, jgh, jgh, (101, [], [0, r7, u85_2, u85_3, u85_4, u85_5]), (101, [], [k86_0, k86_1, k86_2, k86_3, k86_4, k86_5]), jgh, jgh, jgh, jgh]) (c1 := 0) (s1 := 0) (c2 := 0) (s2 := 0) (by exact rfl) ?_ (by omega) (by omega)
  refine jT_xiinc (x := 1) (z := 2) (LN := [(5, (0, 2)), (0, (4, 0)), (1, (0, r7)), (2, (0, r8)), (3, (4, 1)), (4, (0, o4))]) (pcN := 53) jIQ_161_50 rfl rfl (by decide) rfl rfl ?_
  refine jT_xgoto (pcN := 13) jIQ_161_53 rfl ?_
  refine jT_xiload (v := (0, 2)) (pcN := 15) jIQ_161_13 rfl rfl rfl ?_
  refine jT_xbipush (k := 6) (pcN := 17) jIQ_161_15 (by decide) rfl ?_
  refine jT_xicF (t := 56) (pcN := 20) jIQ_161_17 rfl (by decide +kernel) rfl rfl ?_
  refine jT_xaload_n (v := (4, 0)) (pcN := 21) jIQ_161_20 rfl rfl rfl ?_
  refine jT_xgetf (a := 0) (t := 1) (ci := 13) (fi := 7) (c := jzQ_16) (v := (4, 9)) (pcN := 24) jIQ_161_21 rfl rfl rfl rfl rfl rfl rfl ?_
  refine jT_xiload (v := (0, 2)) (pcN := 26) jIQ_161_24 rfl rfl rfl ?_
  refine jT_xiload (v := (0, 2)) (pcN := 28) jIQ_161_26 rfl rfl rfl ?_
  refine jT_xiconst (k := 1) (pcN := 29) jIQ_161_28 rfl ?_
  refine jT_xicT (pcN := 37) jIQ_161_29 rfl (by decide +kernel) rfl ?_
  refine jT_xiload (v := (0, 2)) (pcN := 39) jIQ_161_37 rfl rfl rfl ?_
  refine jT_xiconst (k := 2) (pcN := 40) jIQ_161_39 rfl ?_
  refine jT_xicF (t := 48) (pcN := 43) jIQ_161_40 rfl (by decide +kernel) rfl rfl ?_
  refine jT_xiload_n (v := (0, r8)) (pcN := 44) jIQ_161_43 rfl rfl rfl ?_
  refine jT_xi2l (x := r8) (z := r8) (pcN := 45) jIQ_161_44 rfl (jw_idd (by omega) (by omega)) rfl ?_
  refine jT_xgoto (pcN := 49) jIQ_161_45 rfl ?_
  refine jT_adv 1 (pcN := 50) (LN := [(5, (0, 2)), (0, (4, 0)), (1, (0, r7)), (2, (0, r8)), (3, (4, 1)), (4, (0, o4))]) (stN := []) (hsN := [jzQ_16, jgh, (8, [(4, 13), (4, 14)], []), jgh, jgh, jgh, jgh, jgh, jgh, (101, [], [0, r7, r8, u85_3, u85_4, u85_5]), (101, [], [k86_0, k86_1, k86_2, k86_3, k86_4, k86_5]), jgh, jgh, jgh, jgh]) (c1 := 0) (s1 := 0) (c2 := 0) (s2 := 0) (by exact rfl) ?_ (by omega) (by omega)
  refine jT_xiinc (x := 2) (z := 3) (LN := [(5, (0, 3)), (0, (4, 0)), (1, (0, r7)), (2, (0, r8)), (3, (4, 1)), (4, (0, o4))]) (pcN := 53) jIQ_161_50 rfl rfl (by decide) rfl rfl ?_
  refine jT_xgoto (pcN := 13) jIQ_161_53 rfl ?_
  refine jT_xiload (v := (0, 3)) (pcN := 15) jIQ_161_13 rfl rfl rfl ?_
  refine jT_xbipush (k := 6) (pcN := 17) jIQ_161_15 (by decide) rfl ?_
  refine jT_xicF (t := 56) (pcN := 20) jIQ_161_17 rfl (by decide +kernel) rfl rfl ?_
  refine jT_xaload_n (v := (4, 0)) (pcN := 21) jIQ_161_20 rfl rfl rfl ?_
  refine jT_xgetf (a := 0) (t := 1) (ci := 13) (fi := 7) (c := jzQ_16) (v := (4, 9)) (pcN := 24) jIQ_161_21 rfl rfl rfl rfl rfl rfl rfl ?_
  refine jT_xiload (v := (0, 3)) (pcN := 26) jIQ_161_24 rfl rfl rfl ?_
  refine jT_xiload (v := (0, 3)) (pcN := 28) jIQ_161_26 rfl rfl rfl ?_
  refine jT_xiconst (k := 1) (pcN := 29) jIQ_161_28 rfl ?_
  refine jT_xicT (pcN := 37) jIQ_161_29 rfl (by decide +kernel) rfl ?_
  refine jT_xiload (v := (0, 3)) (pcN := 39) jIQ_161_37 rfl rfl rfl ?_
  refine jT_xiconst (k := 2) (pcN := 40) jIQ_161_39 rfl ?_
  refine jT_xicT (pcN := 48) jIQ_161_40 rfl (by decide +kernel) rfl ?_
  refine jT_xlconst (z := 0) (pcN := 49) jIQ_161_48 rfl rfl ?_
  refine jT_adv 1 (pcN := 50) (LN := [(5, (0, 3)), (0, (4, 0)), (1, (0, r7)), (2, (0, r8)), (3, (4, 1)), (4, (0, o4))]) (stN := []) (hsN := [jzQ_16, jgh, (8, [(4, 13), (4, 14)], []), jgh, jgh, jgh, jgh, jgh, jgh, (101, [], [0, r7, r8, 0, u85_4, u85_5]), (101, [], [k86_0, k86_1, k86_2, k86_3, k86_4, k86_5]), jgh, jgh, jgh, jgh]) (c1 := 0) (s1 := 0) (c2 := 0) (s2 := 0) (by exact rfl) ?_ (by omega) (by omega)
  refine jT_xiinc (x := 3) (z := 4) (LN := [(5, (0, 4)), (0, (4, 0)), (1, (0, r7)), (2, (0, r8)), (3, (4, 1)), (4, (0, o4))]) (pcN := 53) jIQ_161_50 rfl rfl (by decide) rfl rfl ?_
  refine jT_xgoto (pcN := 13) jIQ_161_53 rfl ?_
  refine jT_xiload (v := (0, 4)) (pcN := 15) jIQ_161_13 rfl rfl rfl ?_
  refine jT_xbipush (k := 6) (pcN := 17) jIQ_161_15 (by decide) rfl ?_
  refine jT_xicF (t := 56) (pcN := 20) jIQ_161_17 rfl (by decide +kernel) rfl rfl ?_
  refine jT_xaload_n (v := (4, 0)) (pcN := 21) jIQ_161_20 rfl rfl rfl ?_
  refine jT_xgetf (a := 0) (t := 1) (ci := 13) (fi := 7) (c := jzQ_16) (v := (4, 9)) (pcN := 24) jIQ_161_21 rfl rfl rfl rfl rfl rfl rfl ?_
  refine jT_xiload (v := (0, 4)) (pcN := 26) jIQ_161_24 rfl rfl rfl ?_
  refine jT_xiload (v := (0, 4)) (pcN := 28) jIQ_161_26 rfl rfl rfl ?_
  refine jT_xiconst (k := 1) (pcN := 29) jIQ_161_28 rfl ?_
  refine jT_xicT (pcN := 37) jIQ_161_29 rfl (by decide +kernel) rfl ?_
  refine jT_xiload (v := (0, 4)) (pcN := 39) jIQ_161_37 rfl rfl rfl ?_
  refine jT_xiconst (k := 2) (pcN := 40) jIQ_161_39 rfl ?_
  refine jT_xicT (pcN := 48) jIQ_161_40 rfl (by decide +kernel) rfl ?_
  refine jT_xlconst (z := 0) (pcN := 49) jIQ_161_48 rfl rfl ?_
  refine jT_adv 1 (pcN := 50) (LN := [(5, (0, 4)), (0, (4, 0)), (1, (0, r7)), (2, (0, r8)), (3, (4, 1)), (4, (0, o4))]) (stN := []) (hsN := [jzQ_16, jgh, (8, [(4, 13), (4, 14)], []), jgh, jgh, jgh, jgh, jgh, jgh, (101, [], [0, r7, r8, 0, 0, u85_5]), (101, [], [k86_0, k86_1, k86_2, k86_3, k86_4, k86_5]), jgh, jgh, jgh, jgh]) (c1 := 0) (s1 := 0) (c2 := 0) (s2 := 0) (by exact rfl) ?_ (by omega) (by omega)
  refine jT_xiinc (x := 4) (z := 5) (LN := [(5, (0, 5)), (0, (4, 0)), (1, (0, r7)), (2, (0, r8)), (3, (4, 1)), (4, (0, o4))]) (pcN := 53) jIQ_161_50 rfl rfl (by decide) rfl rfl ?_
  refine jT_xgoto (pcN := 13) jIQ_161_53 rfl ?_
  refine jT_xiload (v := (0, 5)) (pcN := 15) jIQ_161_13 rfl rfl rfl ?_
  refine jT_xbipush (k := 6) (pcN := 17) jIQ_161_15 (by decide) rfl ?_
  refine jT_xicF (t := 56) (pcN := 20) jIQ_161_17 rfl (by decide +kernel) rfl rfl ?_
  refine jT_xaload_n (v := (4, 0)) (pcN := 21) jIQ_161_20 rfl rfl rfl ?_
  refine jT_xgetf (a := 0) (t := 1) (ci := 13) (fi := 7) (c := jzQ_16) (v := (4, 9)) (pcN := 24) jIQ_161_21 rfl rfl rfl rfl rfl rfl rfl ?_
  refine jT_xiload (v := (0, 5)) (pcN := 26) jIQ_161_24 rfl rfl rfl ?_
  refine jT_xiload (v := (0, 5)) (pcN := 28) jIQ_161_26 rfl rfl rfl ?_
  refine jT_xiconst (k := 1) (pcN := 29) jIQ_161_28 rfl ?_
  refine jT_xicT (pcN := 37) jIQ_161_29 rfl (by decide +kernel) rfl ?_
  refine jT_xiload (v := (0, 5)) (pcN := 39) jIQ_161_37 rfl rfl rfl ?_
  refine jT_xiconst (k := 2) (pcN := 40) jIQ_161_39 rfl ?_
  refine jT_xicT (pcN := 48) jIQ_161_40 rfl (by decide +kernel) rfl ?_
  refine jT_xlconst (z := 0) (pcN := 49) jIQ_161_48 rfl rfl ?_
  refine jT_adv 1 (pcN := 50) (LN := [(5, (0, 5)), (0, (4, 0)), (1, (0, r7)), (2, (0, r8)), (3, (4, 1)), (4, (0, o4))]) (stN := []) (hsN := [jzQ_16, jgh, (8, [(4, 13), (4, 14)], []), jgh, jgh, jgh, jgh, jgh, jgh, (101, [], [0, r7, r8, 0, 0, 0]), (101, [], [k86_0, k86_1, k86_2, k86_3, k86_4, k86_5]), jgh, jgh, jgh, jgh]) (c1 := 0) (s1 := 0) (c2 := 0) (s2 := 0) (by exact rfl) ?_ (by omega) (by omega)
  refine jT_xiinc (x := 5) (z := 6) (LN := [(5, (0, 6)), (0, (4, 0)), (1, (0, r7)), (2, (0, r8)), (3, (4, 1)), (4, (0, o4))]) (pcN := 53) jIQ_161_50 rfl rfl (by decide) rfl rfl ?_
  refine jT_xgoto (pcN := 13) jIQ_161_53 rfl ?_
  refine jT_xiload (v := (0, 6)) (pcN := 15) jIQ_161_13 rfl rfl rfl ?_
  refine jT_xbipush (k := 6) (pcN := 17) jIQ_161_15 (by decide) rfl ?_
  refine jT_xicT (pcN := 56) jIQ_161_17 rfl (by decide +kernel) rfl ?_
  refine jT_xaload_n (v := (4, 0)) (pcN := 57) jIQ_161_56 rfl rfl rfl ?_
  refine jT_xgetf (a := 0) (t := 1) (ci := 13) (fi := 0) (c := jzQ_16) (v := (4, 2)) (pcN := 60) jIQ_161_57 rfl rfl rfl rfl rfl rfl rfl ?_
  refine jT_xaload_n (v := (4, 0)) (pcN := 61) jIQ_161_60 rfl rfl rfl ?_
  refine jT_xgetf (a := 0) (t := 1) (ci := 13) (fi := 7) (c := jzQ_16) (v := (4, 9)) (pcN := 64) jIQ_161_61 rfl rfl rfl rfl rfl rfl rfl ?_
  refine jT_xlconst (z := 1) (pcN := 65) jIQ_161_64 rfl rfl ?_
  refine jT_xlconst (z := 1) (pcN := 66) jIQ_161_65 rfl rfl ?_
  refine jT_callA [2, 9, 13, 14] (y := 45) (pcN := 69) (dC := 1) (bc1 := 0) (bc2 := 0) (c1 := 0) (c2 := 0) (as := [(4, 2), (4, 9), (1, 1), (1, 1)]) (asC := [(4, 0), (4, 1), (1, 1), (1, 1)]) (LN := [(5, (0, 6)), (0, (4, 0)), (1, (0, r7)), (2, (0, r8)), (3, (4, 1)), (4, (0, o4))]) (stN := []) (hsC := [(8, [(4, 2), (4, 3)], []), (101, [], [0, r7, r8, 0, 0, 0]), jgh, jgh]) (ex := []) (v := (1, (108917793695 * r7 + 159561683699 * r8) / 68719476736)) (st2 := [(1, (108917793695 * r7 + 159561683699 * r8) / 68719476736)]) (hs2 := [jzQ_16, jgh, (8, [(4, 13), (4, 14)], []), jgh, jgh, jgh, jgh, jgh, jgh, (101, [], [0, r7, r8, 0, 0, 0]), (101, [], [k86_0, k86_1, k86_2, k86_3, k86_4, k86_5]), jgh, jgh, jgh, jgh]) (jQl_sp45_116 (d := 0) (by omega) (by omega)) (by rfl) (by rfl) (by rfl) (by rfl) ⟨rfl, rfl, rfl, rfl, trivial⟩ (by rfl) (by rfl) (by omega) (by show 15 ≤ 15; omega) (by omega) (by omega) rfl rfl ?_
  have hb_q1 : (-60) ≤ (108917793695 * r7 + 159561683699 * r8) / 68719476736 ∧ (108917793695 * r7 + 159561683699 * r8) / 68719476736 ≤ 60 := ⟨by omega, by omega⟩
  generalize hq_q1 : (108917793695 * r7 + 159561683699 * r8) / 68719476736 = q1 at hb_q1 g_3 g_4 ⊢
  refine jT_xlstore (v := (1, q1)) (LN := [(5, (1, q1)), (0, (4, 0)), (1, (0, r7)), (2, (0, r8)), (3, (4, 1)), (4, (0, o4))]) (pcN := 71) jIQ_161_69 rfl rfl rfl rfl ?_
  have g_5 : 0 ≤ (-68719476736) * q1 + 108917793694 * r7 + 159561683698 * r8 - 1 := by have := jcg (b := r7) (c := r8) (by omega) (by omega) (by omega); rw [hq_q1] at this; omega
  have g_6 : 0 ≤ (-68719476736) * q1 + 108917793694 * r7 + 159561683700 * r8 - 1 := by have := jcg (b := r7) (c := r8) (by omega) (by omega) (by omega); rw [hq_q1] at this; omega
  have g_7 : 0 ≤ (-68719476736) * q1 + 108917793696 * r7 + 159561683698 * r8 - 1 := by have := jcg (b := r7) (c := r8) (by omega) (by omega) (by omega); rw [hq_q1] at this; omega
  have g_8 : 0 ≤ (-68719476736) * q1 + 108917793696 * r7 + 159561683700 * r8 - 1 := by have := jcg (b := r7) (c := r8) (by omega) (by omega) (by omega); rw [hq_q1] at this; omega
  refine jT_xiload (v := (0, o4)) (pcN := 73) jIQ_161_71 rfl rfl rfl ?_
  refine jT_ifF (a := o4) (t := 107) (by rfl) (by rfl) (by rfl) (jw_idd (by omega) (by omega)) (by simp only [jcP] <;> omega) ?_
  refine jT_xiload_n (v := (0, r7)) (pcN := 77) jIQ_161_76 rfl rfl rfl ?_
  refine jT_xi2l (x := r7) (z := r7) (pcN := 78) jIQ_161_77 rfl (jw_idd (by omega) (by omega)) rfl ?_
  refine jT_xaload_n (v := (4, 0)) (pcN := 79) jIQ_161_78 rfl rfl rfl ?_
  refine jT_xgetf (a := 0) (t := 1) (ci := 13) (fi := 8) (c := jzQ_16) (v := (4, 10)) (pcN := 82) jIQ_161_79 rfl rfl rfl rfl rfl rfl rfl ?_
  refine jT_xiconst (k := 1) (pcN := 83) jIQ_161_82 rfl ?_
  refine jT_lald (x := k86_1) (a := 10) (j := 1) (fs := []) (X := [k86_0, k86_1, k86_2, k86_3, k86_4, k86_5]) jIQ_161_83 rfl rfl rfl rfl ?_
  refine jT_eq (LN := [(5, (1, q1)), (0, (4, 0)), (1, (0, r7)), (2, (0, r8)), (3, (4, 1)), (4, (0, o4))]) (stN := [(1, k86_1), (1, r7)]) (hsN := [jzQ_16, jgh, (8, [(4, 13), (4, 14)], []), jgh, jgh, jgh, jgh, jgh, jgh, (101, [], [0, r7, r8, 0, 0, 0]), (101, [], [k86_0, k86_1, k86_2, k86_3, k86_4, k86_5]), jgh, jgh, jgh, jgh]) rfl rfl rfl ?_
  refine jT_xlmul (x := r7) (y := k86_1) (z := r7 * k86_1) (pcN := 85) jIQ_161_84 rfl rfl rfl ?_
  have hb_q2 := jmul_b (x := r7) (y := k86_1) (m := 20) (n := 158) (by omega) (by omega) (by omega) (by omega)
  have hb_q2 : 0 ≤ r7 * k86_1 ∧ r7 * k86_1 ≤ 3160 := ⟨hb_q2.1, by omega⟩
  generalize hq_q2 : r7 * k86_1 = q2 at hb_q2 g_3 g_4 ⊢
  refine jT_xiload_n (v := (0, r8)) (pcN := 86) jIQ_161_85 rfl rfl rfl ?_
  refine jT_xi2l (x := r8) (z := r8) (pcN := 87) jIQ_161_86 rfl (jw_idd (by omega) (by omega)) rfl ?_
  refine jT_xaload_n (v := (4, 0)) (pcN := 88) jIQ_161_87 rfl rfl rfl ?_
  refine jT_xgetf (a := 0) (t := 1) (ci := 13) (fi := 8) (c := jzQ_16) (v := (4, 10)) (pcN := 91) jIQ_161_88 rfl rfl rfl rfl rfl rfl rfl ?_
  refine jT_xiconst (k := 2) (pcN := 92) jIQ_161_91 rfl ?_
  refine jT_lald (x := k86_2) (a := 10) (j := 2) (fs := []) (X := [k86_0, k86_1, k86_2, k86_3, k86_4, k86_5]) jIQ_161_92 rfl rfl rfl rfl ?_
  refine jT_eq (LN := [(5, (1, q1)), (0, (4, 0)), (1, (0, r7)), (2, (0, r8)), (3, (4, 1)), (4, (0, o4))]) (stN := [(1, k86_2), (1, r8), (1, q2)]) (hsN := [jzQ_16, jgh, (8, [(4, 13), (4, 14)], []), jgh, jgh, jgh, jgh, jgh, jgh, (101, [], [0, r7, r8, 0, 0, 0]), (101, [], [k86_0, k86_1, k86_2, k86_3, k86_4, k86_5]), jgh, jgh, jgh, jgh]) rfl rfl rfl ?_
  refine jT_xlmul (x := r8) (y := k86_2) (z := r8 * k86_2) (pcN := 94) jIQ_161_93 rfl rfl rfl ?_
  have hb_q3 := jmul_bs (x := r8) (y := k86_2) (m := 10) (n := 232) (by omega) (by omega) (by omega) (by omega)
  have hb_q3 : (-2320) ≤ r8 * k86_2 ∧ r8 * k86_2 ≤ 2320 := ⟨by omega, by omega⟩
  generalize hq_q3 : r8 * k86_2 = q3 at hb_q3 g_3 g_4 ⊢
  refine jT_xladd (x := q2) (y := q3) (z := q2 + q3) (pcN := 95) jIQ_161_94 rfl (rfl) rfl ?_
  refine jT_xlload (v := (1, q1)) (pcN := 97) jIQ_161_95 rfl rfl rfl ?_
  refine jT_xiload (v := (0, o4)) (pcN := 99) jIQ_161_97 rfl rfl rfl ?_
  refine jT_xi2l (x := o4) (z := o4) (pcN := 100) jIQ_161_99 rfl (jw_idd (by omega) (by omega)) rfl ?_
  refine jT_xlmul (x := q1) (y := o4) (z := q1 * o4) (pcN := 101) jIQ_161_100 rfl rfl rfl ?_
  have hb_q4 := jmul_bs (x := q1) (y := o4) (m := 60) (n := 100) (by omega) (by omega) (by omega) (by omega)
  have hb_q4 : (-6000) ≤ q1 * o4 ∧ q1 * o4 ≤ 6000 := ⟨by omega, by omega⟩
  generalize hq_q4 : q1 * o4 = q4 at hb_q4 g_3 g_4 ⊢
  refine jT_lcmp (a := q2 + q3) (b := q4) (z := (-1)) (by rfl) (by rfl) (jwl_idd (by omega) (by omega)) (jwl_idd (by omega) (by omega)) (by rw [decide_eq_false (show ¬ ((q4 : Int) < q2 + q3) by omega), decide_eq_false (show ¬ ((q2 + q3 : Int) = q4) by omega)]; rfl) ?_
  refine jT_xifF (t := 107) (pcN := 105) jIQ_161_102 rfl (by decide +kernel) rfl rfl ?_
  refine jT_xiconst (k := 0) (pcN := 106) jIQ_161_105 rfl ?_
  subst hq_q4
  subst hq_q3
  subst hq_q2
  subst hq_q1
  exact jT_ret rfl (by decide) (by show 15 ≤ 15; omega) (by omega) (by omega) ⟨rfl, rfl, rfl⟩
theorem jQ_161_229 {xs : List Int} {d : Nat} {k86_0 k86_1 k86_2 k86_3 k86_4 k86_5 o4 r7 r8 u85_0 u85_1 u85_2 u85_3 u85_4 u85_5 : Int} (h_k86_0 : 1 ≤ k86_0 ∧ k86_0 ≤ 100) (h_k86_1 : 2 ≤ k86_1 ∧ k86_1 ≤ 158) (h_k86_2 : 2 ≤ k86_2 ∧ k86_2 ≤ 232) (h_k86_3 : 3 ≤ k86_3 ∧ k86_3 ≤ 281) (h_k86_4 : 3 ≤ k86_4 ∧ k86_4 ≤ 346) (h_k86_5 : 4 ≤ k86_5 ∧ k86_5 ≤ 370) (h_o4 : 1 ≤ o4 ∧ o4 ≤ 100) (h_r7 : (-20) ≤ r7 ∧ r7 ≤ 20) (h_r8 : (-10) ≤ r8 ∧ r8 ≤ 10) (g_0 : 0 ≤ r7) (g_1 : r7 ≤ 0) (g_2 : r8 < 0) (g_3 : -(((108917793695 * r7 + 159561683699 * r8) / 68719476736) * o4) + (r7 * k86_1) + (r8 * k86_2) - 1 < 0) (g_4 : 0 ≤ -(((108917793695 * r7 + 159561683699 * r8) / 68719476736) * o4) + (r7 * k86_1) + (r8 * k86_2)) : jT xs (d + 2) 161 16 0 [(0, (4, 0)), (1, (0, r7)), (2, (0, r8)), (3, (4, 1)), (4, (0, o4))] [] [jzQ_16, (4, [(4, 13), (1, 1)], []), (8, [(4, 14), (4, 15)], []), jgh, jgh, jgh, jgh, jgh, jgh, (101, [], [u85_0, u85_1, u85_2, u85_3, u85_4, u85_5]), (101, [], [k86_0, k86_1, k86_2, k86_3, k86_4, k86_5]), jgh, jgh, (101, [], [0, 0, 0, 0, 0, 0]), jgh, jgh] 0 0 (fun k v hsN => k = 0 ∧ v = (0, 0) ∧ hsN = [jzQ_16, (4, [(4, 13), (1, 1)], []), (8, [(4, 14), (4, 15)], []), jgh, jgh, jgh, jgh, jgh, jgh, (101, [], [(108917793695 * r7 + 159561683699 * r8) / 68719476736, -r7, -r8, 0, 0, 0]), (101, [], [k86_0, k86_1, k86_2, k86_3, k86_4, k86_5]), jgh, jgh, (101, [], [0, 0, 0, 0, 0, 0]), jgh, jgh]) := by
  refine jT_xiload_n (v := (0, r7)) (pcN := 1) jIQ_161_0 rfl rfl rfl ?_
  refine jT_ifF (a := r7) (t := 10) (by rfl) (by rfl) (by rfl) (jw_idd (by omega) (by omega)) (by simp only [jcP] <;> omega) ?_
  refine jT_xiload_n (v := (0, r8)) (pcN := 5) jIQ_161_4 rfl rfl rfl ?_
  refine jT_ifT (a := r8) (t := 10) (by rfl) (by rfl) (by rfl) (jw_idd (by omega) (by omega)) (by simp only [jcP] <;> omega) ?_
  refine jT_xiconst (k := 0) (pcN := 11) jIQ_161_10 rfl ?_
  refine jT_xistore (v := (0, 0)) (LN := [(5, (0, 0)), (0, (4, 0)), (1, (0, r7)), (2, (0, r8)), (3, (4, 1)), (4, (0, o4))]) (pcN := 13) jIQ_161_11 rfl rfl rfl rfl ?_
  refine jT_xiload (v := (0, 0)) (pcN := 15) jIQ_161_13 rfl rfl rfl ?_
  refine jT_xbipush (k := 6) (pcN := 17) jIQ_161_15 (by decide) rfl ?_
  refine jT_xicF (t := 56) (pcN := 20) jIQ_161_17 rfl (by decide +kernel) rfl rfl ?_
  refine jT_xaload_n (v := (4, 0)) (pcN := 21) jIQ_161_20 rfl rfl rfl ?_
  refine jT_xgetf (a := 0) (t := 1) (ci := 13) (fi := 7) (c := jzQ_16) (v := (4, 9)) (pcN := 24) jIQ_161_21 rfl rfl rfl rfl rfl rfl rfl ?_
  refine jT_xiload (v := (0, 0)) (pcN := 26) jIQ_161_24 rfl rfl rfl ?_
  refine jT_xiload (v := (0, 0)) (pcN := 28) jIQ_161_26 rfl rfl rfl ?_
  refine jT_xiconst (k := 1) (pcN := 29) jIQ_161_28 rfl ?_
  refine jT_xicT (pcN := 37) jIQ_161_29 rfl (by decide +kernel) rfl ?_
  refine jT_xiload (v := (0, 0)) (pcN := 39) jIQ_161_37 rfl rfl rfl ?_
  refine jT_xiconst (k := 2) (pcN := 40) jIQ_161_39 rfl ?_
  refine jT_xicT (pcN := 48) jIQ_161_40 rfl (by decide +kernel) rfl ?_
  refine jT_xlconst (z := 0) (pcN := 49) jIQ_161_48 rfl rfl ?_
  refine jT_adv 1 (pcN := 50) (LN := [(5, (0, 0)), (0, (4, 0)), (1, (0, r7)), (2, (0, r8)), (3, (4, 1)), (4, (0, o4))]) (stN := []) (hsN := [jzQ_16, (4, [(4, 13), (1, 1)], []), (8, [(4, 14), (4, 15)], []), jgh, jgh, jgh, jgh, jgh, jgh, (101, [], [0, u85_1, u85_2, u85_3, u85_4, u85_5]), (101, [], [k86_0, k86_1, k86_2, k86_3, k86_4, k86_5]), jgh, jgh, (101, [], [0, 0, 0, 0, 0, 0]), jgh, jgh]) (c1 := 0) (s1 := 0) (c2 := 0) (s2 := 0) (by exact rfl) ?_ (by omega) (by omega)
  refine jT_xiinc (x := 0) (z := 1) (LN := [(5, (0, 1)), (0, (4, 0)), (1, (0, r7)), (2, (0, r8)), (3, (4, 1)), (4, (0, o4))]) (pcN := 53) jIQ_161_50 rfl rfl (by decide) rfl rfl ?_
  refine jT_xgoto (pcN := 13) jIQ_161_53 rfl ?_
  refine jT_xiload (v := (0, 1)) (pcN := 15) jIQ_161_13 rfl rfl rfl ?_
  refine jT_xbipush (k := 6) (pcN := 17) jIQ_161_15 (by decide) rfl ?_
  refine jT_xicF (t := 56) (pcN := 20) jIQ_161_17 rfl (by decide +kernel) rfl rfl ?_
  refine jT_xaload_n (v := (4, 0)) (pcN := 21) jIQ_161_20 rfl rfl rfl ?_
  refine jT_xgetf (a := 0) (t := 1) (ci := 13) (fi := 7) (c := jzQ_16) (v := (4, 9)) (pcN := 24) jIQ_161_21 rfl rfl rfl rfl rfl rfl rfl ?_
  refine jT_xiload (v := (0, 1)) (pcN := 26) jIQ_161_24 rfl rfl rfl ?_
  refine jT_xiload (v := (0, 1)) (pcN := 28) jIQ_161_26 rfl rfl rfl ?_
  refine jT_xiconst (k := 1) (pcN := 29) jIQ_161_28 rfl ?_
  refine jT_xicF (t := 37) (pcN := 32) jIQ_161_29 rfl (by decide +kernel) rfl rfl ?_
  refine jT_xiload_n (v := (0, r7)) (pcN := 33) jIQ_161_32 rfl rfl rfl ?_
  refine jT_xi2l (x := r7) (z := r7) (pcN := 34) jIQ_161_33 rfl (jw_idd (by omega) (by omega)) rfl ?_
  refine jT_xgoto (pcN := 49) jIQ_161_34 rfl ?_
  refine jT_adv 1 (pcN := 50) (LN := [(5, (0, 1)), (0, (4, 0)), (1, (0, r7)), (2, (0, r8)), (3, (4, 1)), (4, (0, o4))]) (stN := []) (hsN := [jzQ_16, (4, [(4, 13), (1, 1)], []), (8, [(4, 14), (4, 15)], []), jgh, jgh, jgh, jgh, jgh, jgh, (101, [], [0, r7, u85_2, u85_3, u85_4, u85_5]), (101, [], [k86_0, k86_1, k86_2, k86_3, k86_4, k86_5]), jgh, jgh, (101, [], [0, 0, 0, 0, 0, 0]), jgh, jgh]) (c1 := 0) (s1 := 0) (c2 := 0) (s2 := 0) (by exact rfl) ?_ (by omega) (by omega)
  refine jT_xiinc (x := 1) (z := 2) (LN := [(5, (0, 2)), (0, (4, 0)), (1, (0, r7)), (2, (0, r8)), (3, (4, 1)), (4, (0, o4))]) (pcN := 53) jIQ_161_50 rfl rfl (by decide) rfl rfl ?_
  refine jT_xgoto (pcN := 13) jIQ_161_53 rfl ?_
  refine jT_xiload (v := (0, 2)) (pcN := 15) jIQ_161_13 rfl rfl rfl ?_
  refine jT_xbipush (k := 6) (pcN := 17) jIQ_161_15 (by decide) rfl ?_
  refine jT_xicF (t := 56) (pcN := 20) jIQ_161_17 rfl (by decide +kernel) rfl rfl ?_
  refine jT_xaload_n (v := (4, 0)) (pcN := 21) jIQ_161_20 rfl rfl rfl ?_
  refine jT_xgetf (a := 0) (t := 1) (ci := 13) (fi := 7) (c := jzQ_16) (v := (4, 9)) (pcN := 24) jIQ_161_21 rfl rfl rfl rfl rfl rfl rfl ?_
  refine jT_xiload (v := (0, 2)) (pcN := 26) jIQ_161_24 rfl rfl rfl ?_
  refine jT_xiload (v := (0, 2)) (pcN := 28) jIQ_161_26 rfl rfl rfl ?_
  refine jT_xiconst (k := 1) (pcN := 29) jIQ_161_28 rfl ?_
  refine jT_xicT (pcN := 37) jIQ_161_29 rfl (by decide +kernel) rfl ?_
  refine jT_xiload (v := (0, 2)) (pcN := 39) jIQ_161_37 rfl rfl rfl ?_
  refine jT_xiconst (k := 2) (pcN := 40) jIQ_161_39 rfl ?_
  refine jT_xicF (t := 48) (pcN := 43) jIQ_161_40 rfl (by decide +kernel) rfl rfl ?_
  refine jT_xiload_n (v := (0, r8)) (pcN := 44) jIQ_161_43 rfl rfl rfl ?_
  refine jT_xi2l (x := r8) (z := r8) (pcN := 45) jIQ_161_44 rfl (jw_idd (by omega) (by omega)) rfl ?_
  refine jT_xgoto (pcN := 49) jIQ_161_45 rfl ?_
  refine jT_adv 1 (pcN := 50) (LN := [(5, (0, 2)), (0, (4, 0)), (1, (0, r7)), (2, (0, r8)), (3, (4, 1)), (4, (0, o4))]) (stN := []) (hsN := [jzQ_16, (4, [(4, 13), (1, 1)], []), (8, [(4, 14), (4, 15)], []), jgh, jgh, jgh, jgh, jgh, jgh, (101, [], [0, r7, r8, u85_3, u85_4, u85_5]), (101, [], [k86_0, k86_1, k86_2, k86_3, k86_4, k86_5]), jgh, jgh, (101, [], [0, 0, 0, 0, 0, 0]), jgh, jgh]) (c1 := 0) (s1 := 0) (c2 := 0) (s2 := 0) (by exact rfl) ?_ (by omega) (by omega)
  refine jT_xiinc (x := 2) (z := 3) (LN := [(5, (0, 3)), (0, (4, 0)), (1, (0, r7)), (2, (0, r8)), (3, (4, 1)), (4, (0, o4))]) (pcN := 53) jIQ_161_50 rfl rfl (by decide) rfl rfl ?_
  refine jT_xgoto (pcN := 13) jIQ_161_53 rfl ?_
  refine jT_xiload (v := (0, 3)) (pcN := 15) jIQ_161_13 rfl rfl rfl ?_
  refine jT_xbipush (k := 6) (pcN := 17) jIQ_161_15 (by decide) rfl ?_
  refine jT_xicF (t := 56) (pcN := 20) jIQ_161_17 rfl (by decide +kernel) rfl rfl ?_
  refine jT_xaload_n (v := (4, 0)) (pcN := 21) jIQ_161_20 rfl rfl rfl ?_
  refine jT_xgetf (a := 0) (t := 1) (ci := 13) (fi := 7) (c := jzQ_16) (v := (4, 9)) (pcN := 24) jIQ_161_21 rfl rfl rfl rfl rfl rfl rfl ?_
  refine jT_xiload (v := (0, 3)) (pcN := 26) jIQ_161_24 rfl rfl rfl ?_
  refine jT_xiload (v := (0, 3)) (pcN := 28) jIQ_161_26 rfl rfl rfl ?_
  refine jT_xiconst (k := 1) (pcN := 29) jIQ_161_28 rfl ?_
  refine jT_xicT (pcN := 37) jIQ_161_29 rfl (by decide +kernel) rfl ?_
  refine jT_xiload (v := (0, 3)) (pcN := 39) jIQ_161_37 rfl rfl rfl ?_
  refine jT_xiconst (k := 2) (pcN := 40) jIQ_161_39 rfl ?_
  refine jT_xicT (pcN := 48) jIQ_161_40 rfl (by decide +kernel) rfl ?_
  refine jT_xlconst (z := 0) (pcN := 49) jIQ_161_48 rfl rfl ?_
  refine jT_adv 1 (pcN := 50) (LN := [(5, (0, 3)), (0, (4, 0)), (1, (0, r7)), (2, (0, r8)), (3, (4, 1)), (4, (0, o4))]) (stN := []) (hsN := [jzQ_16, (4, [(4, 13), (1, 1)], []), (8, [(4, 14), (4, 15)], []), jgh, jgh, jgh, jgh, jgh, jgh, (101, [], [0, r7, r8, 0, u85_4, u85_5]), (101, [], [k86_0, k86_1, k86_2, k86_3, k86_4, k86_5]), jgh, jgh, (101, [], [0, 0, 0, 0, 0, 0]), jgh, jgh]) (c1 := 0) (s1 := 0) (c2 := 0) (s2 := 0) (by exact rfl) ?_ (by omega) (by omega)
  refine jT_xiinc (x := 3) (z := 4) (LN := [(5, (0, 4)), (0, (4, 0)), (1, (0, r7)), (2, (0, r8)), (3, (4, 1)), (4, (0, o4))]) (pcN := 53) jIQ_161_50 rfl rfl (by decide) rfl rfl ?_
  refine jT_xgoto (pcN := 13) jIQ_161_53 rfl ?_
  refine jT_xiload (v := (0, 4)) (pcN := 15) jIQ_161_13 rfl rfl rfl ?_
  refine jT_xbipush (k := 6) (pcN := 17) jIQ_161_15 (by decide) rfl ?_
  refine jT_xicF (t := 56) (pcN := 20) jIQ_161_17 rfl (by decide +kernel) rfl rfl ?_
  refine jT_xaload_n (v := (4, 0)) (pcN := 21) jIQ_161_20 rfl rfl rfl ?_
  refine jT_xgetf (a := 0) (t := 1) (ci := 13) (fi := 7) (c := jzQ_16) (v := (4, 9)) (pcN := 24) jIQ_161_21 rfl rfl rfl rfl rfl rfl rfl ?_
  refine jT_xiload (v := (0, 4)) (pcN := 26) jIQ_161_24 rfl rfl rfl ?_
  refine jT_xiload (v := (0, 4)) (pcN := 28) jIQ_161_26 rfl rfl rfl ?_
  refine jT_xiconst (k := 1) (pcN := 29) jIQ_161_28 rfl ?_
  refine jT_xicT (pcN := 37) jIQ_161_29 rfl (by decide +kernel) rfl ?_
  refine jT_xiload (v := (0, 4)) (pcN := 39) jIQ_161_37 rfl rfl rfl ?_
  refine jT_xiconst (k := 2) (pcN := 40) jIQ_161_39 rfl ?_
  refine jT_xicT (pcN := 48) jIQ_161_40 rfl (by decide +kernel) rfl ?_
  refine jT_xlconst (z := 0) (pcN := 49) jIQ_161_48 rfl rfl ?_
  refine jT_adv 1 (pcN := 50) (LN := [(5, (0, 4)), (0, (4, 0)), (1, (0, r7)), (2, (0, r8)), (3, (4, 1)), (4, (0, o4))]) (stN := []) (hsN := [jzQ_16, (4, [(4, 13), (1, 1)], []), (8, [(4, 14), (4, 15)], []), jgh, jgh, jgh, jgh, jgh, jgh, (101, [], [0, r7, r8, 0, 0, u85_5]), (101, [], [k86_0, k86_1, k86_2, k86_3, k86_4, k86_5]), jgh, jgh, (101, [], [0, 0, 0, 0, 0, 0]), jgh, jgh]) (c1 := 0) (s1 := 0) (c2 := 0) (s2 := 0) (by exact rfl) ?_ (by omega) (by omega)
  refine jT_xiinc (x := 4) (z := 5) (LN := [(5, (0, 5)), (0, (4, 0)), (1, (0, r7)), (2, (0, r8)), (3, (4, 1)), (4, (0, o4))]) (pcN := 53) jIQ_161_50 rfl rfl (by decide) rfl rfl ?_
  refine jT_xgoto (pcN := 13) jIQ_161_53 rfl ?_
  refine jT_xiload (v := (0, 5)) (pcN := 15) jIQ_161_13 rfl rfl rfl ?_
  refine jT_xbipush (k := 6) (pcN := 17) jIQ_161_15 (by decide) rfl ?_
  refine jT_xicF (t := 56) (pcN := 20) jIQ_161_17 rfl (by decide +kernel) rfl rfl ?_
  refine jT_xaload_n (v := (4, 0)) (pcN := 21) jIQ_161_20 rfl rfl rfl ?_
  refine jT_xgetf (a := 0) (t := 1) (ci := 13) (fi := 7) (c := jzQ_16) (v := (4, 9)) (pcN := 24) jIQ_161_21 rfl rfl rfl rfl rfl rfl rfl ?_
  refine jT_xiload (v := (0, 5)) (pcN := 26) jIQ_161_24 rfl rfl rfl ?_
  refine jT_xiload (v := (0, 5)) (pcN := 28) jIQ_161_26 rfl rfl rfl ?_
  refine jT_xiconst (k := 1) (pcN := 29) jIQ_161_28 rfl ?_
  refine jT_xicT (pcN := 37) jIQ_161_29 rfl (by decide +kernel) rfl ?_
  refine jT_xiload (v := (0, 5)) (pcN := 39) jIQ_161_37 rfl rfl rfl ?_
  refine jT_xiconst (k := 2) (pcN := 40) jIQ_161_39 rfl ?_
  refine jT_xicT (pcN := 48) jIQ_161_40 rfl (by decide +kernel) rfl ?_
  refine jT_xlconst (z := 0) (pcN := 49) jIQ_161_48 rfl rfl ?_
  refine jT_adv 1 (pcN := 50) (LN := [(5, (0, 5)), (0, (4, 0)), (1, (0, r7)), (2, (0, r8)), (3, (4, 1)), (4, (0, o4))]) (stN := []) (hsN := [jzQ_16, (4, [(4, 13), (1, 1)], []), (8, [(4, 14), (4, 15)], []), jgh, jgh, jgh, jgh, jgh, jgh, (101, [], [0, r7, r8, 0, 0, 0]), (101, [], [k86_0, k86_1, k86_2, k86_3, k86_4, k86_5]), jgh, jgh, (101, [], [0, 0, 0, 0, 0, 0]), jgh, jgh]) (c1 := 0) (s1 := 0) (c2 := 0) (s2 := 0) (by exact rfl) ?_ (by omega) (by omega)
  refine jT_xiinc (x := 5) (z := 6) (LN := [(5, (0, 6)), (0, (4, 0)), (1, (0, r7)), (2, (0, r8)), (3, (4, 1)), (4, (0, o4))]) (pcN := 53) jIQ_161_50 rfl rfl (by decide) rfl rfl ?_
  refine jT_xgoto (pcN := 13) jIQ_161_53 rfl ?_
  refine jT_xiload (v := (0, 6)) (pcN := 15) jIQ_161_13 rfl rfl rfl ?_
  refine jT_xbipush (k := 6) (pcN := 17) jIQ_161_15 (by decide) rfl ?_
  refine jT_xicT (pcN := 56) jIQ_161_17 rfl (by decide +kernel) rfl ?_
  refine jT_xaload_n (v := (4, 0)) (pcN := 57) jIQ_161_56 rfl rfl rfl ?_
  refine jT_xgetf (a := 0) (t := 1) (ci := 13) (fi := 0) (c := jzQ_16) (v := (4, 2)) (pcN := 60) jIQ_161_57 rfl rfl rfl rfl rfl rfl rfl ?_
  refine jT_xaload_n (v := (4, 0)) (pcN := 61) jIQ_161_60 rfl rfl rfl ?_
  refine jT_xgetf (a := 0) (t := 1) (ci := 13) (fi := 7) (c := jzQ_16) (v := (4, 9)) (pcN := 64) jIQ_161_61 rfl rfl rfl rfl rfl rfl rfl ?_
  refine jT_xlconst (z := 1) (pcN := 65) jIQ_161_64 rfl rfl ?_
  refine jT_xlconst (z := 1) (pcN := 66) jIQ_161_65 rfl rfl ?_
  refine jT_callA [2, 9, 14, 15] (y := 45) (pcN := 69) (dC := 1) (bc1 := 0) (bc2 := 0) (c1 := 0) (c2 := 0) (as := [(4, 2), (4, 9), (1, 1), (1, 1)]) (asC := [(4, 0), (4, 1), (1, 1), (1, 1)]) (LN := [(5, (0, 6)), (0, (4, 0)), (1, (0, r7)), (2, (0, r8)), (3, (4, 1)), (4, (0, o4))]) (stN := []) (hsC := [(8, [(4, 2), (4, 3)], []), (101, [], [0, r7, r8, 0, 0, 0]), jgh, jgh]) (ex := []) (v := (1, (108917793695 * r7 + 159561683699 * r8) / 68719476736)) (st2 := [(1, (108917793695 * r7 + 159561683699 * r8) / 68719476736)]) (hs2 := [jzQ_16, (4, [(4, 13), (1, 1)], []), (8, [(4, 14), (4, 15)], []), jgh, jgh, jgh, jgh, jgh, jgh, (101, [], [0, r7, r8, 0, 0, 0]), (101, [], [k86_0, k86_1, k86_2, k86_3, k86_4, k86_5]), jgh, jgh, (101, [], [0, 0, 0, 0, 0, 0]), jgh, jgh]) (jQl_sp45_116 (d := 0) (by omega) (by omega)) (by rfl) (by rfl) (by rfl) (by rfl) ⟨rfl, rfl, rfl, rfl, trivial⟩ (by rfl) (by rfl) (by omega) (by show 16 ≤ 16; omega) (by omega) (by omega) rfl rfl ?_
  have hb_q1 : (-60) ≤ (108917793695 * r7 + 159561683699 * r8) / 68719476736 ∧ (108917793695 * r7 + 159561683699 * r8) / 68719476736 ≤ 60 := ⟨by omega, by omega⟩
  generalize hq_q1 : (108917793695 * r7 + 159561683699 * r8) / 68719476736 = q1 at hb_q1 g_3 g_4 ⊢
  refine jT_xlstore (v := (1, q1)) (LN := [(5, (1, q1)), (0, (4, 0)), (1, (0, r7)), (2, (0, r8)), (3, (4, 1)), (4, (0, o4))]) (pcN := 71) jIQ_161_69 rfl rfl rfl rfl ?_
  have g_5 : 0 ≤ (-68719476736) * q1 + 108917793694 * r7 + 159561683698 * r8 - 1 := by have := jcg (b := r7) (c := r8) (by omega) (by omega) (by omega); rw [hq_q1] at this; omega
  have g_6 : 0 ≤ (-68719476736) * q1 + 108917793694 * r7 + 159561683700 * r8 - 1 := by have := jcg (b := r7) (c := r8) (by omega) (by omega) (by omega); rw [hq_q1] at this; omega
  have g_7 : 0 ≤ (-68719476736) * q1 + 108917793696 * r7 + 159561683698 * r8 - 1 := by have := jcg (b := r7) (c := r8) (by omega) (by omega) (by omega); rw [hq_q1] at this; omega
  have g_8 : 0 ≤ (-68719476736) * q1 + 108917793696 * r7 + 159561683700 * r8 - 1 := by have := jcg (b := r7) (c := r8) (by omega) (by omega) (by omega); rw [hq_q1] at this; omega
  refine jT_xiload (v := (0, o4)) (pcN := 73) jIQ_161_71 rfl rfl rfl ?_
  refine jT_ifF (a := o4) (t := 107) (by rfl) (by rfl) (by rfl) (jw_idd (by omega) (by omega)) (by simp only [jcP] <;> omega) ?_
  refine jT_xiload_n (v := (0, r7)) (pcN := 77) jIQ_161_76 rfl rfl rfl ?_
  refine jT_xi2l (x := r7) (z := r7) (pcN := 78) jIQ_161_77 rfl (jw_idd (by omega) (by omega)) rfl ?_
  refine jT_xaload_n (v := (4, 0)) (pcN := 79) jIQ_161_78 rfl rfl rfl ?_
  refine jT_xgetf (a := 0) (t := 1) (ci := 13) (fi := 8) (c := jzQ_16) (v := (4, 10)) (pcN := 82) jIQ_161_79 rfl rfl rfl rfl rfl rfl rfl ?_
  refine jT_xiconst (k := 1) (pcN := 83) jIQ_161_82 rfl ?_
  refine jT_lald (x := k86_1) (a := 10) (j := 1) (fs := []) (X := [k86_0, k86_1, k86_2, k86_3, k86_4, k86_5]) jIQ_161_83 rfl rfl rfl rfl ?_
  refine jT_eq (LN := [(5, (1, q1)), (0, (4, 0)), (1, (0, r7)), (2, (0, r8)), (3, (4, 1)), (4, (0, o4))]) (stN := [(1, k86_1), (1, r7)]) (hsN := [jzQ_16, (4, [(4, 13), (1, 1)], []), (8, [(4, 14), (4, 15)], []), jgh, jgh, jgh, jgh, jgh, jgh, (101, [], [0, r7, r8, 0, 0, 0]), (101, [], [k86_0, k86_1, k86_2, k86_3, k86_4, k86_5]), jgh, jgh, (101, [], [0, 0, 0, 0, 0, 0]), jgh, jgh]) rfl rfl rfl ?_
  refine jT_xlmul (x := r7) (y := k86_1) (z := r7 * k86_1) (pcN := 85) jIQ_161_84 rfl rfl rfl ?_
  have hb_q2 := jmul_b (x := r7) (y := k86_1) (m := 20) (n := 158) (by omega) (by omega) (by omega) (by omega)
  have hb_q2 : 0 ≤ r7 * k86_1 ∧ r7 * k86_1 ≤ 3160 := ⟨hb_q2.1, by omega⟩
  generalize hq_q2 : r7 * k86_1 = q2 at hb_q2 g_3 g_4 ⊢
  refine jT_xiload_n (v := (0, r8)) (pcN := 86) jIQ_161_85 rfl rfl rfl ?_
  refine jT_xi2l (x := r8) (z := r8) (pcN := 87) jIQ_161_86 rfl (jw_idd (by omega) (by omega)) rfl ?_
  refine jT_xaload_n (v := (4, 0)) (pcN := 88) jIQ_161_87 rfl rfl rfl ?_
  refine jT_xgetf (a := 0) (t := 1) (ci := 13) (fi := 8) (c := jzQ_16) (v := (4, 10)) (pcN := 91) jIQ_161_88 rfl rfl rfl rfl rfl rfl rfl ?_
  refine jT_xiconst (k := 2) (pcN := 92) jIQ_161_91 rfl ?_
  refine jT_lald (x := k86_2) (a := 10) (j := 2) (fs := []) (X := [k86_0, k86_1, k86_2, k86_3, k86_4, k86_5]) jIQ_161_92 rfl rfl rfl rfl ?_
  refine jT_eq (LN := [(5, (1, q1)), (0, (4, 0)), (1, (0, r7)), (2, (0, r8)), (3, (4, 1)), (4, (0, o4))]) (stN := [(1, k86_2), (1, r8), (1, q2)]) (hsN := [jzQ_16, (4, [(4, 13), (1, 1)], []), (8, [(4, 14), (4, 15)], []), jgh, jgh, jgh, jgh, jgh, jgh, (101, [], [0, r7, r8, 0, 0, 0]), (101, [], [k86_0, k86_1, k86_2, k86_3, k86_4, k86_5]), jgh, jgh, (101, [], [0, 0, 0, 0, 0, 0]), jgh, jgh]) rfl rfl rfl ?_
  refine jT_xlmul (x := r8) (y := k86_2) (z := r8 * k86_2) (pcN := 94) jIQ_161_93 rfl rfl rfl ?_
  have hb_q3 := jmul_bs (x := r8) (y := k86_2) (m := 10) (n := 232) (by omega) (by omega) (by omega) (by omega)
  have hb_q3 : (-2320) ≤ r8 * k86_2 ∧ r8 * k86_2 ≤ 2320 := ⟨by omega, by omega⟩
  generalize hq_q3 : r8 * k86_2 = q3 at hb_q3 g_3 g_4 ⊢
  refine jT_xladd (x := q2) (y := q3) (z := q2 + q3) (pcN := 95) jIQ_161_94 rfl (rfl) rfl ?_
  refine jT_xlload (v := (1, q1)) (pcN := 97) jIQ_161_95 rfl rfl rfl ?_
  refine jT_xiload (v := (0, o4)) (pcN := 99) jIQ_161_97 rfl rfl rfl ?_
  refine jT_xi2l (x := o4) (z := o4) (pcN := 100) jIQ_161_99 rfl (jw_idd (by omega) (by omega)) rfl ?_
  refine jT_xlmul (x := q1) (y := o4) (z := q1 * o4) (pcN := 101) jIQ_161_100 rfl rfl rfl ?_
  have hb_q4 := jmul_bs (x := q1) (y := o4) (m := 60) (n := 100) (by omega) (by omega) (by omega) (by omega)
  have hb_q4 : (-6000) ≤ q1 * o4 ∧ q1 * o4 ≤ 6000 := ⟨by omega, by omega⟩
  generalize hq_q4 : q1 * o4 = q4 at hb_q4 g_3 g_4 ⊢
  refine jT_lcmp (a := q2 + q3) (b := q4) (z := 0) (by rfl) (by rfl) (jwl_idd (by omega) (by omega)) (jwl_idd (by omega) (by omega)) (by rw [decide_eq_false (show ¬ ((q4 : Int) < q2 + q3) by omega), decide_eq_true (show (q2 + q3 : Int) = q4 by omega)]; rfl) ?_
  refine jT_xifT (pcN := 107) jIQ_161_102 rfl (by decide +kernel) rfl ?_
  refine jT_xaload_n (v := (4, 0)) (pcN := 108) jIQ_161_107 rfl rfl rfl ?_
  refine jT_xgetf (a := 0) (t := 1) (ci := 13) (fi := 7) (c := jzQ_16) (v := (4, 9)) (pcN := 111) jIQ_161_108 rfl rfl rfl rfl rfl rfl rfl ?_
  refine jT_xiconst (k := 0) (pcN := 112) jIQ_161_111 rfl ?_
  refine jT_xlload (v := (1, q1)) (pcN := 114) jIQ_161_112 rfl rfl rfl ?_
  refine jT_adv 2 (pcN := 116) (LN := [(5, (1, q1)), (0, (4, 0)), (1, (0, r7)), (2, (0, r8)), (3, (4, 1)), (4, (0, o4))]) (stN := []) (hsN := [jzQ_16, (4, [(4, 13), (1, 1)], []), (8, [(4, 14), (4, 15)], []), jgh, jgh, jgh, jgh, jgh, jgh, (101, [], [-q1, r7, r8, 0, 0, 0]), (101, [], [k86_0, k86_1, k86_2, k86_3, k86_4, k86_5]), jgh, jgh, (101, [], [0, 0, 0, 0, 0, 0]), jgh, jgh]) (c1 := 0) (s1 := 0) (c2 := 0) (s2 := 0) (by exact rfl) ?_ (by omega) (by omega)
  refine jT_xiconst (k := 0) (pcN := 117) jIQ_161_116 rfl ?_
  refine jT_xistore (v := (0, 0)) (LN := [(7, (0, 0)), (5, (1, q1)), (0, (4, 0)), (1, (0, r7)), (2, (0, r8)), (3, (4, 1)), (4, (0, o4))]) (pcN := 119) jIQ_161_117 rfl rfl rfl rfl ?_
  refine jT_xiload (v := (0, 0)) (pcN := 121) jIQ_161_119 rfl rfl rfl ?_
  refine jT_xbipush (k := 6) (pcN := 123) jIQ_161_121 (by decide) rfl ?_
  refine jT_xicF (t := 159) (pcN := 126) jIQ_161_123 rfl (by decide +kernel) rfl rfl ?_
  refine jT_xaload_n (v := (4, 0)) (pcN := 127) jIQ_161_126 rfl rfl rfl ?_
  refine jT_xgetf (a := 0) (t := 1) (ci := 13) (fi := 7) (c := jzQ_16) (v := (4, 9)) (pcN := 130) jIQ_161_127 rfl rfl rfl rfl rfl rfl rfl ?_
  refine jT_xiload (v := (0, 0)) (pcN := 132) jIQ_161_130 rfl rfl rfl ?_
  refine jT_xaload_n (v := (4, 1)) (pcN := 133) jIQ_161_132 rfl rfl rfl ?_
  refine jT_xgetf (a := 1) (t := 2) (ci := 4) (fi := 0) (c := (4, [(4, 13), (1, 1)], [])) (v := (4, 13)) (pcN := 136) jIQ_161_133 rfl rfl rfl rfl rfl rfl rfl ?_
  refine jT_xiload (v := (0, 0)) (pcN := 138) jIQ_161_136 rfl rfl rfl ?_
  refine jT_lald (x := 0) (a := 13) (j := 0) (fs := []) (X := [0, 0, 0, 0, 0, 0]) jIQ_161_138 rfl rfl rfl rfl ?_
  refine jT_eq (LN := [(7, (0, 0)), (5, (1, q1)), (0, (4, 0)), (1, (0, r7)), (2, (0, r8)), (3, (4, 1)), (4, (0, o4))]) (stN := [(1, 0), (0, 0), (4, 9)]) (hsN := [jzQ_16, (4, [(4, 13), (1, 1)], []), (8, [(4, 14), (4, 15)], []), jgh, jgh, jgh, jgh, jgh, jgh, (101, [], [-q1, r7, r8, 0, 0, 0]), (101, [], [k86_0, k86_1, k86_2, k86_3, k86_4, k86_5]), jgh, jgh, (101, [], [0, 0, 0, 0, 0, 0]), jgh, jgh]) rfl rfl rfl ?_
  refine jT_xaload_n (v := (4, 0)) (pcN := 140) jIQ_161_139 rfl rfl rfl ?_
  refine jT_xgetf (a := 0) (t := 1) (ci := 13) (fi := 7) (c := jzQ_16) (v := (4, 9)) (pcN := 143) jIQ_161_140 rfl rfl rfl rfl rfl rfl rfl ?_
  refine jT_xiload (v := (0, 0)) (pcN := 145) jIQ_161_143 rfl rfl rfl ?_
  refine jT_lald (x := -q1) (a := 9) (j := 0) (fs := []) (X := [-q1, r7, r8, 0, 0, 0]) jIQ_161_145 rfl rfl rfl rfl ?_
  refine jT_eq (LN := [(7, (0, 0)), (5, (1, q1)), (0, (4, 0)), (1, (0, r7)), (2, (0, r8)), (3, (4, 1)), (4, (0, o4))]) (stN := [(1, -q1), (1, 0), (0, 0), (4, 9)]) (hsN := [jzQ_16, (4, [(4, 13), (1, 1)], []), (8, [(4, 14), (4, 15)], []), jgh, jgh, jgh, jgh, jgh, jgh, (101, [], [-q1, r7, r8, 0, 0, 0]), (101, [], [k86_0, k86_1, k86_2, k86_3, k86_4, k86_5]), jgh, jgh, (101, [], [0, 0, 0, 0, 0, 0]), jgh, jgh]) rfl rfl rfl ?_
  refine jT_xaload_n (v := (4, 1)) (pcN := 147) jIQ_161_146 rfl rfl rfl ?_
  refine jT_xgetf (a := 1) (t := 2) (ci := 4) (fi := 1) (c := (4, [(4, 13), (1, 1)], [])) (v := (1, 1)) (pcN := 150) jIQ_161_147 rfl rfl rfl rfl rfl rfl rfl ?_
  refine jT_xlmul (x := -q1) (y := 1) (z := -q1) (pcN := 151) jIQ_161_150 rfl (by omega) rfl ?_
  refine jT_xlsub (x := 0) (y := -q1) (z := q1) (pcN := 152) jIQ_161_151 rfl (by omega) rfl ?_
  refine jT_adv 1 (pcN := 153) (LN := [(7, (0, 0)), (5, (1, q1)), (0, (4, 0)), (1, (0, r7)), (2, (0, r8)), (3, (4, 1)), (4, (0, o4))]) (stN := []) (hsN := [jzQ_16, (4, [(4, 13), (1, 1)], []), (8, [(4, 14), (4, 15)], []), jgh, jgh, jgh, jgh, jgh, jgh, (101, [], [q1, r7, r8, 0, 0, 0]), (101, [], [k86_0, k86_1, k86_2, k86_3, k86_4, k86_5]), jgh, jgh, (101, [], [0, 0, 0, 0, 0, 0]), jgh, jgh]) (c1 := 0) (s1 := 0) (c2 := 0) (s2 := 0) (by exact rfl) ?_ (by omega) (by omega)
  refine jT_xiinc (x := 0) (z := 1) (LN := [(7, (0, 1)), (5, (1, q1)), (0, (4, 0)), (1, (0, r7)), (2, (0, r8)), (3, (4, 1)), (4, (0, o4))]) (pcN := 156) jIQ_161_153 rfl rfl (by decide) rfl rfl ?_
  refine jT_xgoto (pcN := 119) jIQ_161_156 rfl ?_
  refine jT_xiload (v := (0, 1)) (pcN := 121) jIQ_161_119 rfl rfl rfl ?_
  refine jT_xbipush (k := 6) (pcN := 123) jIQ_161_121 (by decide) rfl ?_
  refine jT_xicF (t := 159) (pcN := 126) jIQ_161_123 rfl (by decide +kernel) rfl rfl ?_
  refine jT_xaload_n (v := (4, 0)) (pcN := 127) jIQ_161_126 rfl rfl rfl ?_
  refine jT_xgetf (a := 0) (t := 1) (ci := 13) (fi := 7) (c := jzQ_16) (v := (4, 9)) (pcN := 130) jIQ_161_127 rfl rfl rfl rfl rfl rfl rfl ?_
  refine jT_xiload (v := (0, 1)) (pcN := 132) jIQ_161_130 rfl rfl rfl ?_
  refine jT_xaload_n (v := (4, 1)) (pcN := 133) jIQ_161_132 rfl rfl rfl ?_
  refine jT_xgetf (a := 1) (t := 2) (ci := 4) (fi := 0) (c := (4, [(4, 13), (1, 1)], [])) (v := (4, 13)) (pcN := 136) jIQ_161_133 rfl rfl rfl rfl rfl rfl rfl ?_
  refine jT_xiload (v := (0, 1)) (pcN := 138) jIQ_161_136 rfl rfl rfl ?_
  refine jT_lald (x := 0) (a := 13) (j := 1) (fs := []) (X := [0, 0, 0, 0, 0, 0]) jIQ_161_138 rfl rfl rfl rfl ?_
  refine jT_eq (LN := [(7, (0, 1)), (5, (1, q1)), (0, (4, 0)), (1, (0, r7)), (2, (0, r8)), (3, (4, 1)), (4, (0, o4))]) (stN := [(1, 0), (0, 1), (4, 9)]) (hsN := [jzQ_16, (4, [(4, 13), (1, 1)], []), (8, [(4, 14), (4, 15)], []), jgh, jgh, jgh, jgh, jgh, jgh, (101, [], [q1, r7, r8, 0, 0, 0]), (101, [], [k86_0, k86_1, k86_2, k86_3, k86_4, k86_5]), jgh, jgh, (101, [], [0, 0, 0, 0, 0, 0]), jgh, jgh]) rfl rfl rfl ?_
  refine jT_xaload_n (v := (4, 0)) (pcN := 140) jIQ_161_139 rfl rfl rfl ?_
  refine jT_xgetf (a := 0) (t := 1) (ci := 13) (fi := 7) (c := jzQ_16) (v := (4, 9)) (pcN := 143) jIQ_161_140 rfl rfl rfl rfl rfl rfl rfl ?_
  refine jT_xiload (v := (0, 1)) (pcN := 145) jIQ_161_143 rfl rfl rfl ?_
  refine jT_lald (x := r7) (a := 9) (j := 1) (fs := []) (X := [q1, r7, r8, 0, 0, 0]) jIQ_161_145 rfl rfl rfl rfl ?_
  refine jT_eq (LN := [(7, (0, 1)), (5, (1, q1)), (0, (4, 0)), (1, (0, r7)), (2, (0, r8)), (3, (4, 1)), (4, (0, o4))]) (stN := [(1, r7), (1, 0), (0, 1), (4, 9)]) (hsN := [jzQ_16, (4, [(4, 13), (1, 1)], []), (8, [(4, 14), (4, 15)], []), jgh, jgh, jgh, jgh, jgh, jgh, (101, [], [q1, r7, r8, 0, 0, 0]), (101, [], [k86_0, k86_1, k86_2, k86_3, k86_4, k86_5]), jgh, jgh, (101, [], [0, 0, 0, 0, 0, 0]), jgh, jgh]) rfl rfl rfl ?_
  refine jT_xaload_n (v := (4, 1)) (pcN := 147) jIQ_161_146 rfl rfl rfl ?_
  refine jT_xgetf (a := 1) (t := 2) (ci := 4) (fi := 1) (c := (4, [(4, 13), (1, 1)], [])) (v := (1, 1)) (pcN := 150) jIQ_161_147 rfl rfl rfl rfl rfl rfl rfl ?_
  refine jT_xlmul (x := r7) (y := 1) (z := r7) (pcN := 151) jIQ_161_150 rfl (by omega) rfl ?_
  refine jT_xlsub (x := 0) (y := r7) (z := -r7) (pcN := 152) jIQ_161_151 rfl (by omega) rfl ?_
  refine jT_adv 1 (pcN := 153) (LN := [(7, (0, 1)), (5, (1, q1)), (0, (4, 0)), (1, (0, r7)), (2, (0, r8)), (3, (4, 1)), (4, (0, o4))]) (stN := []) (hsN := [jzQ_16, (4, [(4, 13), (1, 1)], []), (8, [(4, 14), (4, 15)], []), jgh, jgh, jgh, jgh, jgh, jgh, (101, [], [q1, -r7, r8, 0, 0, 0]), (101, [], [k86_0, k86_1, k86_2, k86_3, k86_4, k86_5]), jgh, jgh, (101, [], [0, 0, 0, 0, 0, 0]), jgh, jgh]) (c1 := 0) (s1 := 0) (c2 := 0) (s2 := 0) (by exact rfl) ?_ (by omega) (by omega)
  refine jT_xiinc (x := 1) (z := 2) (LN := [(7, (0, 2)), (5, (1, q1)), (0, (4, 0)), (1, (0, r7)), (2, (0, r8)), (3, (4, 1)), (4, (0, o4))]) (pcN := 156) jIQ_161_153 rfl rfl (by decide) rfl rfl ?_
  refine jT_xgoto (pcN := 119) jIQ_161_156 rfl ?_
  refine jT_xiload (v := (0, 2)) (pcN := 121) jIQ_161_119 rfl rfl rfl ?_
  refine jT_xbipush (k := 6) (pcN := 123) jIQ_161_121 (by decide) rfl ?_
  refine jT_xicF (t := 159) (pcN := 126) jIQ_161_123 rfl (by decide +kernel) rfl rfl ?_
  refine jT_xaload_n (v := (4, 0)) (pcN := 127) jIQ_161_126 rfl rfl rfl ?_
  refine jT_xgetf (a := 0) (t := 1) (ci := 13) (fi := 7) (c := jzQ_16) (v := (4, 9)) (pcN := 130) jIQ_161_127 rfl rfl rfl rfl rfl rfl rfl ?_
  refine jT_xiload (v := (0, 2)) (pcN := 132) jIQ_161_130 rfl rfl rfl ?_
  refine jT_xaload_n (v := (4, 1)) (pcN := 133) jIQ_161_132 rfl rfl rfl ?_
  refine jT_xgetf (a := 1) (t := 2) (ci := 4) (fi := 0) (c := (4, [(4, 13), (1, 1)], [])) (v := (4, 13)) (pcN := 136) jIQ_161_133 rfl rfl rfl rfl rfl rfl rfl ?_
  refine jT_xiload (v := (0, 2)) (pcN := 138) jIQ_161_136 rfl rfl rfl ?_
  refine jT_lald (x := 0) (a := 13) (j := 2) (fs := []) (X := [0, 0, 0, 0, 0, 0]) jIQ_161_138 rfl rfl rfl rfl ?_
  refine jT_eq (LN := [(7, (0, 2)), (5, (1, q1)), (0, (4, 0)), (1, (0, r7)), (2, (0, r8)), (3, (4, 1)), (4, (0, o4))]) (stN := [(1, 0), (0, 2), (4, 9)]) (hsN := [jzQ_16, (4, [(4, 13), (1, 1)], []), (8, [(4, 14), (4, 15)], []), jgh, jgh, jgh, jgh, jgh, jgh, (101, [], [q1, -r7, r8, 0, 0, 0]), (101, [], [k86_0, k86_1, k86_2, k86_3, k86_4, k86_5]), jgh, jgh, (101, [], [0, 0, 0, 0, 0, 0]), jgh, jgh]) rfl rfl rfl ?_
  refine jT_xaload_n (v := (4, 0)) (pcN := 140) jIQ_161_139 rfl rfl rfl ?_
  refine jT_xgetf (a := 0) (t := 1) (ci := 13) (fi := 7) (c := jzQ_16) (v := (4, 9)) (pcN := 143) jIQ_161_140 rfl rfl rfl rfl rfl rfl rfl ?_
  refine jT_xiload (v := (0, 2)) (pcN := 145) jIQ_161_143 rfl rfl rfl ?_
  refine jT_lald (x := r8) (a := 9) (j := 2) (fs := []) (X := [q1, -r7, r8, 0, 0, 0]) jIQ_161_145 rfl rfl rfl rfl ?_
  refine jT_eq (LN := [(7, (0, 2)), (5, (1, q1)), (0, (4, 0)), (1, (0, r7)), (2, (0, r8)), (3, (4, 1)), (4, (0, o4))]) (stN := [(1, r8), (1, 0), (0, 2), (4, 9)]) (hsN := [jzQ_16, (4, [(4, 13), (1, 1)], []), (8, [(4, 14), (4, 15)], []), jgh, jgh, jgh, jgh, jgh, jgh, (101, [], [q1, -r7, r8, 0, 0, 0]), (101, [], [k86_0, k86_1, k86_2, k86_3, k86_4, k86_5]), jgh, jgh, (101, [], [0, 0, 0, 0, 0, 0]), jgh, jgh]) rfl rfl rfl ?_
  refine jT_xaload_n (v := (4, 1)) (pcN := 147) jIQ_161_146 rfl rfl rfl ?_
  refine jT_xgetf (a := 1) (t := 2) (ci := 4) (fi := 1) (c := (4, [(4, 13), (1, 1)], [])) (v := (1, 1)) (pcN := 150) jIQ_161_147 rfl rfl rfl rfl rfl rfl rfl ?_
  refine jT_xlmul (x := r8) (y := 1) (z := r8) (pcN := 151) jIQ_161_150 rfl (by omega) rfl ?_
  refine jT_xlsub (x := 0) (y := r8) (z := -r8) (pcN := 152) jIQ_161_151 rfl (by omega) rfl ?_
  refine jT_adv 1 (pcN := 153) (LN := [(7, (0, 2)), (5, (1, q1)), (0, (4, 0)), (1, (0, r7)), (2, (0, r8)), (3, (4, 1)), (4, (0, o4))]) (stN := []) (hsN := [jzQ_16, (4, [(4, 13), (1, 1)], []), (8, [(4, 14), (4, 15)], []), jgh, jgh, jgh, jgh, jgh, jgh, (101, [], [q1, -r7, -r8, 0, 0, 0]), (101, [], [k86_0, k86_1, k86_2, k86_3, k86_4, k86_5]), jgh, jgh, (101, [], [0, 0, 0, 0, 0, 0]), jgh, jgh]) (c1 := 0) (s1 := 0) (c2 := 0) (s2 := 0) (by exact rfl) ?_ (by omega) (by omega)
  refine jT_xiinc (x := 2) (z := 3) (LN := [(7, (0, 3)), (5, (1, q1)), (0, (4, 0)), (1, (0, r7)), (2, (0, r8)), (3, (4, 1)), (4, (0, o4))]) (pcN := 156) jIQ_161_153 rfl rfl (by decide) rfl rfl ?_
  refine jT_xgoto (pcN := 119) jIQ_161_156 rfl ?_
  refine jT_xiload (v := (0, 3)) (pcN := 121) jIQ_161_119 rfl rfl rfl ?_
  refine jT_xbipush (k := 6) (pcN := 123) jIQ_161_121 (by decide) rfl ?_
  refine jT_xicF (t := 159) (pcN := 126) jIQ_161_123 rfl (by decide +kernel) rfl rfl ?_
  refine jT_xaload_n (v := (4, 0)) (pcN := 127) jIQ_161_126 rfl rfl rfl ?_
  refine jT_xgetf (a := 0) (t := 1) (ci := 13) (fi := 7) (c := jzQ_16) (v := (4, 9)) (pcN := 130) jIQ_161_127 rfl rfl rfl rfl rfl rfl rfl ?_
  refine jT_xiload (v := (0, 3)) (pcN := 132) jIQ_161_130 rfl rfl rfl ?_
  refine jT_xaload_n (v := (4, 1)) (pcN := 133) jIQ_161_132 rfl rfl rfl ?_
  refine jT_xgetf (a := 1) (t := 2) (ci := 4) (fi := 0) (c := (4, [(4, 13), (1, 1)], [])) (v := (4, 13)) (pcN := 136) jIQ_161_133 rfl rfl rfl rfl rfl rfl rfl ?_
  refine jT_xiload (v := (0, 3)) (pcN := 138) jIQ_161_136 rfl rfl rfl ?_
  refine jT_lald (x := 0) (a := 13) (j := 3) (fs := []) (X := [0, 0, 0, 0, 0, 0]) jIQ_161_138 rfl rfl rfl rfl ?_
  refine jT_eq (LN := [(7, (0, 3)), (5, (1, q1)), (0, (4, 0)), (1, (0, r7)), (2, (0, r8)), (3, (4, 1)), (4, (0, o4))]) (stN := [(1, 0), (0, 3), (4, 9)]) (hsN := [jzQ_16, (4, [(4, 13), (1, 1)], []), (8, [(4, 14), (4, 15)], []), jgh, jgh, jgh, jgh, jgh, jgh, (101, [], [q1, -r7, -r8, 0, 0, 0]), (101, [], [k86_0, k86_1, k86_2, k86_3, k86_4, k86_5]), jgh, jgh, (101, [], [0, 0, 0, 0, 0, 0]), jgh, jgh]) rfl rfl rfl ?_
  refine jT_xaload_n (v := (4, 0)) (pcN := 140) jIQ_161_139 rfl rfl rfl ?_
  refine jT_xgetf (a := 0) (t := 1) (ci := 13) (fi := 7) (c := jzQ_16) (v := (4, 9)) (pcN := 143) jIQ_161_140 rfl rfl rfl rfl rfl rfl rfl ?_
  refine jT_xiload (v := (0, 3)) (pcN := 145) jIQ_161_143 rfl rfl rfl ?_
  refine jT_lald (x := 0) (a := 9) (j := 3) (fs := []) (X := [q1, -r7, -r8, 0, 0, 0]) jIQ_161_145 rfl rfl rfl rfl ?_
  refine jT_eq (LN := [(7, (0, 3)), (5, (1, q1)), (0, (4, 0)), (1, (0, r7)), (2, (0, r8)), (3, (4, 1)), (4, (0, o4))]) (stN := [(1, 0), (1, 0), (0, 3), (4, 9)]) (hsN := [jzQ_16, (4, [(4, 13), (1, 1)], []), (8, [(4, 14), (4, 15)], []), jgh, jgh, jgh, jgh, jgh, jgh, (101, [], [q1, -r7, -r8, 0, 0, 0]), (101, [], [k86_0, k86_1, k86_2, k86_3, k86_4, k86_5]), jgh, jgh, (101, [], [0, 0, 0, 0, 0, 0]), jgh, jgh]) rfl rfl rfl ?_
  refine jT_xaload_n (v := (4, 1)) (pcN := 147) jIQ_161_146 rfl rfl rfl ?_
  refine jT_xgetf (a := 1) (t := 2) (ci := 4) (fi := 1) (c := (4, [(4, 13), (1, 1)], [])) (v := (1, 1)) (pcN := 150) jIQ_161_147 rfl rfl rfl rfl rfl rfl rfl ?_
  refine jT_xlmul (x := 0) (y := 1) (z := 0) (pcN := 151) jIQ_161_150 rfl (by decide) rfl ?_
  refine jT_xlsub (x := 0) (y := 0) (z := 0) (pcN := 152) jIQ_161_151 rfl (by decide) rfl ?_
  refine jT_adv 1 (pcN := 153) (LN := [(7, (0, 3)), (5, (1, q1)), (0, (4, 0)), (1, (0, r7)), (2, (0, r8)), (3, (4, 1)), (4, (0, o4))]) (stN := []) (hsN := [jzQ_16, (4, [(4, 13), (1, 1)], []), (8, [(4, 14), (4, 15)], []), jgh, jgh, jgh, jgh, jgh, jgh, (101, [], [q1, -r7, -r8, 0, 0, 0]), (101, [], [k86_0, k86_1, k86_2, k86_3, k86_4, k86_5]), jgh, jgh, (101, [], [0, 0, 0, 0, 0, 0]), jgh, jgh]) (c1 := 0) (s1 := 0) (c2 := 0) (s2 := 0) (by exact rfl) ?_ (by omega) (by omega)
  refine jT_xiinc (x := 3) (z := 4) (LN := [(7, (0, 4)), (5, (1, q1)), (0, (4, 0)), (1, (0, r7)), (2, (0, r8)), (3, (4, 1)), (4, (0, o4))]) (pcN := 156) jIQ_161_153 rfl rfl (by decide) rfl rfl ?_
  refine jT_xgoto (pcN := 119) jIQ_161_156 rfl ?_
  refine jT_xiload (v := (0, 4)) (pcN := 121) jIQ_161_119 rfl rfl rfl ?_
  refine jT_xbipush (k := 6) (pcN := 123) jIQ_161_121 (by decide) rfl ?_
  refine jT_xicF (t := 159) (pcN := 126) jIQ_161_123 rfl (by decide +kernel) rfl rfl ?_
  refine jT_xaload_n (v := (4, 0)) (pcN := 127) jIQ_161_126 rfl rfl rfl ?_
  refine jT_xgetf (a := 0) (t := 1) (ci := 13) (fi := 7) (c := jzQ_16) (v := (4, 9)) (pcN := 130) jIQ_161_127 rfl rfl rfl rfl rfl rfl rfl ?_
  refine jT_xiload (v := (0, 4)) (pcN := 132) jIQ_161_130 rfl rfl rfl ?_
  refine jT_xaload_n (v := (4, 1)) (pcN := 133) jIQ_161_132 rfl rfl rfl ?_
  refine jT_xgetf (a := 1) (t := 2) (ci := 4) (fi := 0) (c := (4, [(4, 13), (1, 1)], [])) (v := (4, 13)) (pcN := 136) jIQ_161_133 rfl rfl rfl rfl rfl rfl rfl ?_
  refine jT_xiload (v := (0, 4)) (pcN := 138) jIQ_161_136 rfl rfl rfl ?_
  refine jT_lald (x := 0) (a := 13) (j := 4) (fs := []) (X := [0, 0, 0, 0, 0, 0]) jIQ_161_138 rfl rfl rfl rfl ?_
  refine jT_eq (LN := [(7, (0, 4)), (5, (1, q1)), (0, (4, 0)), (1, (0, r7)), (2, (0, r8)), (3, (4, 1)), (4, (0, o4))]) (stN := [(1, 0), (0, 4), (4, 9)]) (hsN := [jzQ_16, (4, [(4, 13), (1, 1)], []), (8, [(4, 14), (4, 15)], []), jgh, jgh, jgh, jgh, jgh, jgh, (101, [], [q1, -r7, -r8, 0, 0, 0]), (101, [], [k86_0, k86_1, k86_2, k86_3, k86_4, k86_5]), jgh, jgh, (101, [], [0, 0, 0, 0, 0, 0]), jgh, jgh]) rfl rfl rfl ?_
  refine jT_xaload_n (v := (4, 0)) (pcN := 140) jIQ_161_139 rfl rfl rfl ?_
  refine jT_xgetf (a := 0) (t := 1) (ci := 13) (fi := 7) (c := jzQ_16) (v := (4, 9)) (pcN := 143) jIQ_161_140 rfl rfl rfl rfl rfl rfl rfl ?_
  refine jT_xiload (v := (0, 4)) (pcN := 145) jIQ_161_143 rfl rfl rfl ?_
  refine jT_lald (x := 0) (a := 9) (j := 4) (fs := []) (X := [q1, -r7, -r8, 0, 0, 0]) jIQ_161_145 rfl rfl rfl rfl ?_
  refine jT_eq (LN := [(7, (0, 4)), (5, (1, q1)), (0, (4, 0)), (1, (0, r7)), (2, (0, r8)), (3, (4, 1)), (4, (0, o4))]) (stN := [(1, 0), (1, 0), (0, 4), (4, 9)]) (hsN := [jzQ_16, (4, [(4, 13), (1, 1)], []), (8, [(4, 14), (4, 15)], []), jgh, jgh, jgh, jgh, jgh, jgh, (101, [], [q1, -r7, -r8, 0, 0, 0]), (101, [], [k86_0, k86_1, k86_2, k86_3, k86_4, k86_5]), jgh, jgh, (101, [], [0, 0, 0, 0, 0, 0]), jgh, jgh]) rfl rfl rfl ?_
  refine jT_xaload_n (v := (4, 1)) (pcN := 147) jIQ_161_146 rfl rfl rfl ?_
  refine jT_xgetf (a := 1) (t := 2) (ci := 4) (fi := 1) (c := (4, [(4, 13), (1, 1)], [])) (v := (1, 1)) (pcN := 150) jIQ_161_147 rfl rfl rfl rfl rfl rfl rfl ?_
  refine jT_xlmul (x := 0) (y := 1) (z := 0) (pcN := 151) jIQ_161_150 rfl (by decide) rfl ?_
  refine jT_xlsub (x := 0) (y := 0) (z := 0) (pcN := 152) jIQ_161_151 rfl (by decide) rfl ?_
  refine jT_adv 1 (pcN := 153) (LN := [(7, (0, 4)), (5, (1, q1)), (0, (4, 0)), (1, (0, r7)), (2, (0, r8)), (3, (4, 1)), (4, (0, o4))]) (stN := []) (hsN := [jzQ_16, (4, [(4, 13), (1, 1)], []), (8, [(4, 14), (4, 15)], []), jgh, jgh, jgh, jgh, jgh, jgh, (101, [], [q1, -r7, -r8, 0, 0, 0]), (101, [], [k86_0, k86_1, k86_2, k86_3, k86_4, k86_5]), jgh, jgh, (101, [], [0, 0, 0, 0, 0, 0]), jgh, jgh]) (c1 := 0) (s1 := 0) (c2 := 0) (s2 := 0) (by exact rfl) ?_ (by omega) (by omega)
  refine jT_xiinc (x := 4) (z := 5) (LN := [(7, (0, 5)), (5, (1, q1)), (0, (4, 0)), (1, (0, r7)), (2, (0, r8)), (3, (4, 1)), (4, (0, o4))]) (pcN := 156) jIQ_161_153 rfl rfl (by decide) rfl rfl ?_
  refine jT_xgoto (pcN := 119) jIQ_161_156 rfl ?_
  refine jT_xiload (v := (0, 5)) (pcN := 121) jIQ_161_119 rfl rfl rfl ?_
  refine jT_xbipush (k := 6) (pcN := 123) jIQ_161_121 (by decide) rfl ?_
  refine jT_xicF (t := 159) (pcN := 126) jIQ_161_123 rfl (by decide +kernel) rfl rfl ?_
  refine jT_xaload_n (v := (4, 0)) (pcN := 127) jIQ_161_126 rfl rfl rfl ?_
  refine jT_xgetf (a := 0) (t := 1) (ci := 13) (fi := 7) (c := jzQ_16) (v := (4, 9)) (pcN := 130) jIQ_161_127 rfl rfl rfl rfl rfl rfl rfl ?_
  refine jT_xiload (v := (0, 5)) (pcN := 132) jIQ_161_130 rfl rfl rfl ?_
  refine jT_xaload_n (v := (4, 1)) (pcN := 133) jIQ_161_132 rfl rfl rfl ?_
  refine jT_xgetf (a := 1) (t := 2) (ci := 4) (fi := 0) (c := (4, [(4, 13), (1, 1)], [])) (v := (4, 13)) (pcN := 136) jIQ_161_133 rfl rfl rfl rfl rfl rfl rfl ?_
  refine jT_xiload (v := (0, 5)) (pcN := 138) jIQ_161_136 rfl rfl rfl ?_
  refine jT_lald (x := 0) (a := 13) (j := 5) (fs := []) (X := [0, 0, 0, 0, 0, 0]) jIQ_161_138 rfl rfl rfl rfl ?_
  refine jT_eq (LN := [(7, (0, 5)), (5, (1, q1)), (0, (4, 0)), (1, (0, r7)), (2, (0, r8)), (3, (4, 1)), (4, (0, o4))]) (stN := [(1, 0), (0, 5), (4, 9)]) (hsN := [jzQ_16, (4, [(4, 13), (1, 1)], []), (8, [(4, 14), (4, 15)], []), jgh, jgh, jgh, jgh, jgh, jgh, (101, [], [q1, -r7, -r8, 0, 0, 0]), (101, [], [k86_0, k86_1, k86_2, k86_3, k86_4, k86_5]), jgh, jgh, (101, [], [0, 0, 0, 0, 0, 0]), jgh, jgh]) rfl rfl rfl ?_
  refine jT_xaload_n (v := (4, 0)) (pcN := 140) jIQ_161_139 rfl rfl rfl ?_
  refine jT_xgetf (a := 0) (t := 1) (ci := 13) (fi := 7) (c := jzQ_16) (v := (4, 9)) (pcN := 143) jIQ_161_140 rfl rfl rfl rfl rfl rfl rfl ?_
  refine jT_xiload (v := (0, 5)) (pcN := 145) jIQ_161_143 rfl rfl rfl ?_
  refine jT_lald (x := 0) (a := 9) (j := 5) (fs := []) (X := [q1, -r7, -r8, 0, 0, 0]) jIQ_161_145 rfl rfl rfl rfl ?_
  refine jT_eq (LN := [(7, (0, 5)), (5, (1, q1)), (0, (4, 0)), (1, (0, r7)), (2, (0, r8)), (3, (4, 1)), (4, (0, o4))]) (stN := [(1, 0), (1, 0), (0, 5), (4, 9)]) (hsN := [jzQ_16, (4, [(4, 13), (1, 1)], []), (8, [(4, 14), (4, 15)], []), jgh, jgh, jgh, jgh, jgh, jgh, (101, [], [q1, -r7, -r8, 0, 0, 0]), (101, [], [k86_0, k86_1, k86_2, k86_3, k86_4, k86_5]), jgh, jgh, (101, [], [0, 0, 0, 0, 0, 0]), jgh, jgh]) rfl rfl rfl ?_
  refine jT_xaload_n (v := (4, 1)) (pcN := 147) jIQ_161_146 rfl rfl rfl ?_
  refine jT_xgetf (a := 1) (t := 2) (ci := 4) (fi := 1) (c := (4, [(4, 13), (1, 1)], [])) (v := (1, 1)) (pcN := 150) jIQ_161_147 rfl rfl rfl rfl rfl rfl rfl ?_
  refine jT_xlmul (x := 0) (y := 1) (z := 0) (pcN := 151) jIQ_161_150 rfl (by decide) rfl ?_
  refine jT_xlsub (x := 0) (y := 0) (z := 0) (pcN := 152) jIQ_161_151 rfl (by decide) rfl ?_
  refine jT_adv 1 (pcN := 153) (LN := [(7, (0, 5)), (5, (1, q1)), (0, (4, 0)), (1, (0, r7)), (2, (0, r8)), (3, (4, 1)), (4, (0, o4))]) (stN := []) (hsN := [jzQ_16, (4, [(4, 13), (1, 1)], []), (8, [(4, 14), (4, 15)], []), jgh, jgh, jgh, jgh, jgh, jgh, (101, [], [q1, -r7, -r8, 0, 0, 0]), (101, [], [k86_0, k86_1, k86_2, k86_3, k86_4, k86_5]), jgh, jgh, (101, [], [0, 0, 0, 0, 0, 0]), jgh, jgh]) (c1 := 0) (s1 := 0) (c2 := 0) (s2 := 0) (by exact rfl) ?_ (by omega) (by omega)
  refine jT_xiinc (x := 5) (z := 6) (LN := [(7, (0, 6)), (5, (1, q1)), (0, (4, 0)), (1, (0, r7)), (2, (0, r8)), (3, (4, 1)), (4, (0, o4))]) (pcN := 156) jIQ_161_153 rfl rfl (by decide) rfl rfl ?_
  refine jT_xgoto (pcN := 119) jIQ_161_156 rfl ?_
  refine jT_xiload (v := (0, 6)) (pcN := 121) jIQ_161_119 rfl rfl rfl ?_
  refine jT_xbipush (k := 6) (pcN := 123) jIQ_161_121 (by decide) rfl ?_
  refine jT_xicT (pcN := 159) jIQ_161_123 rfl (by decide +kernel) rfl ?_
  refine jT_xaload_n (v := (4, 0)) (pcN := 160) jIQ_161_159 rfl rfl rfl ?_
  refine jT_xgetf (a := 0) (t := 1) (ci := 13) (fi := 0) (c := jzQ_16) (v := (4, 2)) (pcN := 163) jIQ_161_160 rfl rfl rfl rfl rfl rfl rfl ?_
  refine jT_xaload_n (v := (4, 0)) (pcN := 164) jIQ_161_163 rfl rfl rfl ?_
  refine jT_xgetf (a := 0) (t := 1) (ci := 13) (fi := 7) (c := jzQ_16) (v := (4, 9)) (pcN := 167) jIQ_161_164 rfl rfl rfl rfl rfl rfl rfl ?_
  refine jT_callA [2, 9, 14, 15] (y := 38) (pcN := 170) (dC := 1) (bc1 := 0) (bc2 := 0) (c1 := 0) (c2 := 0) (as := [(4, 2), (4, 9)]) (asC := [(4, 0), (4, 1)]) (LN := [(7, (0, 6)), (5, (1, q1)), (0, (4, 0)), (1, (0, r7)), (2, (0, r8)), (3, (4, 1)), (4, (0, o4))]) (stN := []) (hsC := [(8, [(4, 2), (4, 3)], []), (101, [], [q1, -r7, -r8, 0, 0, 0]), jgh, jgh]) (ex := []) (v := (0, (-1))) (st2 := [(0, (-1))]) (hs2 := [jzQ_16, (4, [(4, 13), (1, 1)], []), (8, [(4, 14), (4, 15)], []), jgh, jgh, jgh, jgh, jgh, jgh, (101, [], [q1, -r7, -r8, 0, 0, 0]), (101, [], [k86_0, k86_1, k86_2, k86_3, k86_4, k86_5]), jgh, jgh, (101, [], [0, 0, 0, 0, 0, 0]), jgh, jgh]) (jQl_sp38_117 (d := 0) (by omega) (by omega) (by omega) (by omega) (by omega) (by omega) (by omega)) (by rfl) (by rfl) (by rfl) (by rfl) ⟨rfl, rfl, rfl, rfl, trivial⟩ (by rfl) (by rfl) (by omega) (by show 16 ≤ 16; omega) (by omega) (by omega) rfl rfl ?_
  refine jT_xifT (pcN := 177) jIQ_161_170 rfl (by decide +kernel) rfl ?_
  refine jT_xiconst (k := 0) (pcN := 178) jIQ_161_177 rfl ?_
  subst hq_q4
  subst hq_q3
  subst hq_q2
  subst hq_q1
  exact jT_ret rfl (by decide) (by show 16 ≤ 16; omega) (by omega) (by omega) ⟨rfl, rfl, rfl⟩
theorem jQ_161_230 {xs : List Int} {d : Nat} {k86_0 k86_1 k86_2 k86_3 k86_4 k86_5 o4 r7 r8 u85_0 u85_1 u85_2 u85_3 u85_4 u85_5 : Int} (h_k86_0 : 1 ≤ k86_0 ∧ k86_0 ≤ 100) (h_k86_1 : 2 ≤ k86_1 ∧ k86_1 ≤ 158) (h_k86_2 : 2 ≤ k86_2 ∧ k86_2 ≤ 232) (h_k86_3 : 3 ≤ k86_3 ∧ k86_3 ≤ 281) (h_k86_4 : 3 ≤ k86_4 ∧ k86_4 ≤ 346) (h_k86_5 : 4 ≤ k86_5 ∧ k86_5 ≤ 370) (h_o4 : 1 ≤ o4 ∧ o4 ≤ 100) (h_r7 : (-20) ≤ r7 ∧ r7 ≤ 20) (h_r8 : (-10) ≤ r8 ∧ r8 ≤ 10) (g_0 : 0 ≤ r7) (g_1 : r7 ≤ 0) (g_2 : r8 < 0) (g_3 : 0 ≤ -(((108917793695 * r7 + 159561683699 * r8) / 68719476736) * o4) + (r7 * k86_1) + (r8 * k86_2) - 1) : jT xs (d + 2) 161 15 0 [(0, (4, 0)), (1, (0, r7)), (2, (0, r8)), (3, (4, 1)), (4, (0, o4))] [] [jzQ_16, jgh, (8, [(4, 13), (4, 14)], []), jgh, jgh, jgh, jgh, jgh, jgh, (101, [], [u85_0, u85_1, u85_2, u85_3, u85_4, u85_5]), (101, [], [k86_0, k86_1, k86_2, k86_3, k86_4, k86_5]), jgh, jgh, jgh, jgh] 0 0 (fun k v hsN => k = 0 ∧ v = (0, 0) ∧ hsN = [jzQ_16, jgh, (8, [(4, 13), (4, 14)], []), jgh, jgh, jgh, jgh, jgh, jgh, (101, [], [0, r7, r8, 0, 0, 0]), (101, [], [k86_0, k86_1, k86_2, k86_3, k86_4, k86_5]), jgh, jgh, jgh, jgh]) := by
  refine jT_xiload_n (v := (0, r7)) (pcN := 1) jIQ_161_0 rfl rfl rfl ?_
  refine jT_ifF (a := r7) (t := 10) (by rfl) (by rfl) (by rfl) (jw_idd (by omega) (by omega)) (by simp only [jcP] <;> omega) ?_
  refine jT_xiload_n (v := (0, r8)) (pcN := 5) jIQ_161_4 rfl rfl rfl ?_
  refine jT_ifT (a := r8) (t := 10) (by rfl) (by rfl) (by rfl) (jw_idd (by omega) (by omega)) (by simp only [jcP] <;> omega) ?_
  refine jT_xiconst (k := 0) (pcN := 11) jIQ_161_10 rfl ?_
  refine jT_xistore (v := (0, 0)) (LN := [(5, (0, 0)), (0, (4, 0)), (1, (0, r7)), (2, (0, r8)), (3, (4, 1)), (4, (0, o4))]) (pcN := 13) jIQ_161_11 rfl rfl rfl rfl ?_
  refine jT_xiload (v := (0, 0)) (pcN := 15) jIQ_161_13 rfl rfl rfl ?_
  refine jT_xbipush (k := 6) (pcN := 17) jIQ_161_15 (by decide) rfl ?_
  refine jT_xicF (t := 56) (pcN := 20) jIQ_161_17 rfl (by decide +kernel) rfl rfl ?_
  refine jT_xaload_n (v := (4, 0)) (pcN := 21) jIQ_161_20 rfl rfl rfl ?_
  refine jT_xgetf (a := 0) (t := 1) (ci := 13) (fi := 7) (c := jzQ_16) (v := (4, 9)) (pcN := 24) jIQ_161_21 rfl rfl rfl rfl rfl rfl rfl ?_
  refine jT_xiload (v := (0, 0)) (pcN := 26) jIQ_161_24 rfl rfl rfl ?_
  refine jT_xiload (v := (0, 0)) (pcN := 28) jIQ_161_26 rfl rfl rfl ?_
  refine jT_xiconst (k := 1) (pcN := 29) jIQ_161_28 rfl ?_
  refine jT_xicT (pcN := 37) jIQ_161_29 rfl (by decide +kernel) rfl ?_
  refine jT_xiload (v := (0, 0)) (pcN := 39) jIQ_161_37 rfl rfl rfl ?_
  refine jT_xiconst (k := 2) (pcN := 40) jIQ_161_39 rfl ?_
  refine jT_xicT (pcN := 48) jIQ_161_40 rfl (by decide +kernel) rfl ?_
  refine jT_xlconst (z := 0) (pcN := 49) jIQ_161_48 rfl rfl ?_
  refine jT_adv 1 (pcN := 50) (LN := [(5, (0, 0)), (0, (4, 0)), (1, (0, r7)), (2, (0, r8)), (3, (4, 1)), (4, (0, o4))]) (stN := []) (hsN := [jzQ_16, jgh, (8, [(4, 13), (4, 14)], []), jgh, jgh, jgh, jgh, jgh, jgh, (101, [], [0, u85_1, u85_2, u85_3, u85_4, u85_5]), (101, [], [k86_0, k86_1, k86_2, k86_3, k86_4, k86_5]), jgh, jgh, jgh, jgh]) (c1 := 0) (s1 := 0) (c2 := 0) (s2 := 0) (by exact rfl) ?_ (by omega) (by omega)
  refine jT_xiinc (x := 0) (z := 1) (LN := [(5, (0, 1)), (0, (4, 0)), (1, (0, r7)), (2, (0, r8)), (3, (4, 1)), (4, (0, o4))]) (pcN := 53) jIQ_161_50 rfl rfl (by decide) rfl rfl ?_
  refine jT_xgoto (pcN := 13) jIQ_161_53 rfl ?_
  refine jT_xiload (v := (0, 1)) (pcN := 15) jIQ_161_13 rfl rfl rfl ?_
  refine jT_xbipush (k := 6) (pcN := 17) jIQ_161_15 (by decide) rfl ?_
  refine jT_xicF (t := 56) (pcN := 20) jIQ_161_17 rfl (by decide +kernel) rfl rfl ?_
  refine jT_xaload_n (v := (4, 0)) (pcN := 21) jIQ_161_20 rfl rfl rfl ?_
  refine jT_xgetf (a := 0) (t := 1) (ci := 13) (fi := 7) (c := jzQ_16) (v := (4, 9)) (pcN := 24) jIQ_161_21 rfl rfl rfl rfl rfl rfl rfl ?_
  refine jT_xiload (v := (0, 1)) (pcN := 26) jIQ_161_24 rfl rfl rfl ?_
  refine jT_xiload (v := (0, 1)) (pcN := 28) jIQ_161_26 rfl rfl rfl ?_
  refine jT_xiconst (k := 1) (pcN := 29) jIQ_161_28 rfl ?_
  refine jT_xicF (t := 37) (pcN := 32) jIQ_161_29 rfl (by decide +kernel) rfl rfl ?_
  refine jT_xiload_n (v := (0, r7)) (pcN := 33) jIQ_161_32 rfl rfl rfl ?_
  refine jT_xi2l (x := r7) (z := r7) (pcN := 34) jIQ_161_33 rfl (jw_idd (by omega) (by omega)) rfl ?_
  refine jT_xgoto (pcN := 49) jIQ_161_34 rfl ?_
  refine jT_adv 1 (pcN := 50) (LN := [(5, (0, 1)), (0, (4, 0)), (1, (0, r7)), (2, (0, r8)), (3, (4, 1)), (4, (0, o4))]) (stN := []) (hsN := [jzQ_16, jgh, (8, [(4, 13), (4, 14)], []), jgh, jgh, jgh, jgh, jgh, jgh, (101, [], [0, r7, u85_2, u85_3, u85_4, u85_5]), (101, [], [k86_0, k86_1, k86_2, k86_3, k86_4, k86_5]), jgh, jgh, jgh, jgh]) (c1 := 0) (s1 := 0) (c2 := 0) (s2 := 0) (by exact rfl) ?_ (by omega) (by omega)
  refine jT_xiinc (x := 1) (z := 2) (LN := [(5, (0, 2)), (0, (4, 0)), (1, (0, r7)), (2, (0, r8)), (3, (4, 1)), (4, (0, o4))]) (pcN := 53) jIQ_161_50 rfl rfl (by decide) rfl rfl ?_
  refine jT_xgoto (pcN := 13) jIQ_161_53 rfl ?_
  refine jT_xiload (v := (0, 2)) (pcN := 15) jIQ_161_13 rfl rfl rfl ?_
  refine jT_xbipush (k := 6) (pcN := 17) jIQ_161_15 (by decide) rfl ?_
  refine jT_xicF (t := 56) (pcN := 20) jIQ_161_17 rfl (by decide +kernel) rfl rfl ?_
  refine jT_xaload_n (v := (4, 0)) (pcN := 21) jIQ_161_20 rfl rfl rfl ?_
  refine jT_xgetf (a := 0) (t := 1) (ci := 13) (fi := 7) (c := jzQ_16) (v := (4, 9)) (pcN := 24) jIQ_161_21 rfl rfl rfl rfl rfl rfl rfl ?_
  refine jT_xiload (v := (0, 2)) (pcN := 26) jIQ_161_24 rfl rfl rfl ?_
  refine jT_xiload (v := (0, 2)) (pcN := 28) jIQ_161_26 rfl rfl rfl ?_
  refine jT_xiconst (k := 1) (pcN := 29) jIQ_161_28 rfl ?_
  refine jT_xicT (pcN := 37) jIQ_161_29 rfl (by decide +kernel) rfl ?_
  refine jT_xiload (v := (0, 2)) (pcN := 39) jIQ_161_37 rfl rfl rfl ?_
  refine jT_xiconst (k := 2) (pcN := 40) jIQ_161_39 rfl ?_
  refine jT_xicF (t := 48) (pcN := 43) jIQ_161_40 rfl (by decide +kernel) rfl rfl ?_
  refine jT_xiload_n (v := (0, r8)) (pcN := 44) jIQ_161_43 rfl rfl rfl ?_
  refine jT_xi2l (x := r8) (z := r8) (pcN := 45) jIQ_161_44 rfl (jw_idd (by omega) (by omega)) rfl ?_
  refine jT_xgoto (pcN := 49) jIQ_161_45 rfl ?_
  refine jT_adv 1 (pcN := 50) (LN := [(5, (0, 2)), (0, (4, 0)), (1, (0, r7)), (2, (0, r8)), (3, (4, 1)), (4, (0, o4))]) (stN := []) (hsN := [jzQ_16, jgh, (8, [(4, 13), (4, 14)], []), jgh, jgh, jgh, jgh, jgh, jgh, (101, [], [0, r7, r8, u85_3, u85_4, u85_5]), (101, [], [k86_0, k86_1, k86_2, k86_3, k86_4, k86_5]), jgh, jgh, jgh, jgh]) (c1 := 0) (s1 := 0) (c2 := 0) (s2 := 0) (by exact rfl) ?_ (by omega) (by omega)
  refine jT_xiinc (x := 2) (z := 3) (LN := [(5, (0, 3)), (0, (4, 0)), (1, (0, r7)), (2, (0, r8)), (3, (4, 1)), (4, (0, o4))]) (pcN := 53) jIQ_161_50 rfl rfl (by decide) rfl rfl ?_
  refine jT_xgoto (pcN := 13) jIQ_161_53 rfl ?_
  refine jT_xiload (v := (0, 3)) (pcN := 15) jIQ_161_13 rfl rfl rfl ?_
  refine jT_xbipush (k := 6) (pcN := 17) jIQ_161_15 (by decide) rfl ?_
  refine jT_xicF (t := 56) (pcN := 20) jIQ_161_17 rfl (by decide +kernel) rfl rfl ?_
  refine jT_xaload_n (v := (4, 0)) (pcN := 21) jIQ_161_20 rfl rfl rfl ?_
  refine jT_xgetf (a := 0) (t := 1) (ci := 13) (fi := 7) (c := jzQ_16) (v := (4, 9)) (pcN := 24) jIQ_161_21 rfl rfl rfl rfl rfl rfl rfl ?_
  refine jT_xiload (v := (0, 3)) (pcN := 26) jIQ_161_24 rfl rfl rfl ?_
  refine jT_xiload (v := (0, 3)) (pcN := 28) jIQ_161_26 rfl rfl rfl ?_
  refine jT_xiconst (k := 1) (pcN := 29) jIQ_161_28 rfl ?_
  refine jT_xicT (pcN := 37) jIQ_161_29 rfl (by decide +kernel) rfl ?_
  refine jT_xiload (v := (0, 3)) (pcN := 39) jIQ_161_37 rfl rfl rfl ?_
  refine jT_xiconst (k := 2) (pcN := 40) jIQ_161_39 rfl ?_
  refine jT_xicT (pcN := 48) jIQ_161_40 rfl (by decide +kernel) rfl ?_
  refine jT_xlconst (z := 0) (pcN := 49) jIQ_161_48 rfl rfl ?_
  refine jT_adv 1 (pcN := 50) (LN := [(5, (0, 3)), (0, (4, 0)), (1, (0, r7)), (2, (0, r8)), (3, (4, 1)), (4, (0, o4))]) (stN := []) (hsN := [jzQ_16, jgh, (8, [(4, 13), (4, 14)], []), jgh, jgh, jgh, jgh, jgh, jgh, (101, [], [0, r7, r8, 0, u85_4, u85_5]), (101, [], [k86_0, k86_1, k86_2, k86_3, k86_4, k86_5]), jgh, jgh, jgh, jgh]) (c1 := 0) (s1 := 0) (c2 := 0) (s2 := 0) (by exact rfl) ?_ (by omega) (by omega)
  refine jT_xiinc (x := 3) (z := 4) (LN := [(5, (0, 4)), (0, (4, 0)), (1, (0, r7)), (2, (0, r8)), (3, (4, 1)), (4, (0, o4))]) (pcN := 53) jIQ_161_50 rfl rfl (by decide) rfl rfl ?_
  refine jT_xgoto (pcN := 13) jIQ_161_53 rfl ?_
  refine jT_xiload (v := (0, 4)) (pcN := 15) jIQ_161_13 rfl rfl rfl ?_
  refine jT_xbipush (k := 6) (pcN := 17) jIQ_161_15 (by decide) rfl ?_
  refine jT_xicF (t := 56) (pcN := 20) jIQ_161_17 rfl (by decide +kernel) rfl rfl ?_
  refine jT_xaload_n (v := (4, 0)) (pcN := 21) jIQ_161_20 rfl rfl rfl ?_
  refine jT_xgetf (a := 0) (t := 1) (ci := 13) (fi := 7) (c := jzQ_16) (v := (4, 9)) (pcN := 24) jIQ_161_21 rfl rfl rfl rfl rfl rfl rfl ?_
  refine jT_xiload (v := (0, 4)) (pcN := 26) jIQ_161_24 rfl rfl rfl ?_
  refine jT_xiload (v := (0, 4)) (pcN := 28) jIQ_161_26 rfl rfl rfl ?_
  refine jT_xiconst (k := 1) (pcN := 29) jIQ_161_28 rfl ?_
  refine jT_xicT (pcN := 37) jIQ_161_29 rfl (by decide +kernel) rfl ?_
  refine jT_xiload (v := (0, 4)) (pcN := 39) jIQ_161_37 rfl rfl rfl ?_
  refine jT_xiconst (k := 2) (pcN := 40) jIQ_161_39 rfl ?_
  refine jT_xicT (pcN := 48) jIQ_161_40 rfl (by decide +kernel) rfl ?_
  refine jT_xlconst (z := 0) (pcN := 49) jIQ_161_48 rfl rfl ?_
  refine jT_adv 1 (pcN := 50) (LN := [(5, (0, 4)), (0, (4, 0)), (1, (0, r7)), (2, (0, r8)), (3, (4, 1)), (4, (0, o4))]) (stN := []) (hsN := [jzQ_16, jgh, (8, [(4, 13), (4, 14)], []), jgh, jgh, jgh, jgh, jgh, jgh, (101, [], [0, r7, r8, 0, 0, u85_5]), (101, [], [k86_0, k86_1, k86_2, k86_3, k86_4, k86_5]), jgh, jgh, jgh, jgh]) (c1 := 0) (s1 := 0) (c2 := 0) (s2 := 0) (by exact rfl) ?_ (by omega) (by omega)
  refine jT_xiinc (x := 4) (z := 5) (LN := [(5, (0, 5)), (0, (4, 0)), (1, (0, r7)), (2, (0, r8)), (3, (4, 1)), (4, (0, o4))]) (pcN := 53) jIQ_161_50 rfl rfl (by decide) rfl rfl ?_
  refine jT_xgoto (pcN := 13) jIQ_161_53 rfl ?_
  refine jT_xiload (v := (0, 5)) (pcN := 15) jIQ_161_13 rfl rfl rfl ?_
  refine jT_xbipush (k := 6) (pcN := 17) jIQ_161_15 (by decide) rfl ?_
  refine jT_xicF (t := 56) (pcN := 20) jIQ_161_17 rfl (by decide +kernel) rfl rfl ?_
  refine jT_xaload_n (v := (4, 0)) (pcN := 21) jIQ_161_20 rfl rfl rfl ?_
  refine jT_xgetf (a := 0) (t := 1) (ci := 13) (fi := 7) (c := jzQ_16) (v := (4, 9)) (pcN := 24) jIQ_161_21 rfl rfl rfl rfl rfl rfl rfl ?_
  refine jT_xiload (v := (0, 5)) (pcN := 26) jIQ_161_24 rfl rfl rfl ?_
  refine jT_xiload (v := (0, 5)) (pcN := 28) jIQ_161_26 rfl rfl rfl ?_
  refine jT_xiconst (k := 1) (pcN := 29) jIQ_161_28 rfl ?_
  refine jT_xicT (pcN := 37) jIQ_161_29 rfl (by decide +kernel) rfl ?_
  refine jT_xiload (v := (0, 5)) (pcN := 39) jIQ_161_37 rfl rfl rfl ?_
  refine jT_xiconst (k := 2) (pcN := 40) jIQ_161_39 rfl ?_
  refine jT_xicT (pcN := 48) jIQ_161_40 rfl (by decide +kernel) rfl ?_
  refine jT_xlconst (z := 0) (pcN := 49) jIQ_161_48 rfl rfl ?_
  refine jT_adv 1 (pcN := 50) (LN := [(5, (0, 5)), (0, (4, 0)), (1, (0, r7)), (2, (0, r8)), (3, (4, 1)), (4, (0, o4))]) (stN := []) (hsN := [jzQ_16, jgh, (8, [(4, 13), (4, 14)], []), jgh, jgh, jgh, jgh, jgh, jgh, (101, [], [0, r7, r8, 0, 0, 0]), (101, [], [k86_0, k86_1, k86_2, k86_3, k86_4, k86_5]), jgh, jgh, jgh, jgh]) (c1 := 0) (s1 := 0) (c2 := 0) (s2 := 0) (by exact rfl) ?_ (by omega) (by omega)
  refine jT_xiinc (x := 5) (z := 6) (LN := [(5, (0, 6)), (0, (4, 0)), (1, (0, r7)), (2, (0, r8)), (3, (4, 1)), (4, (0, o4))]) (pcN := 53) jIQ_161_50 rfl rfl (by decide) rfl rfl ?_
  refine jT_xgoto (pcN := 13) jIQ_161_53 rfl ?_
  refine jT_xiload (v := (0, 6)) (pcN := 15) jIQ_161_13 rfl rfl rfl ?_
  refine jT_xbipush (k := 6) (pcN := 17) jIQ_161_15 (by decide) rfl ?_
  refine jT_xicT (pcN := 56) jIQ_161_17 rfl (by decide +kernel) rfl ?_
  refine jT_xaload_n (v := (4, 0)) (pcN := 57) jIQ_161_56 rfl rfl rfl ?_
  refine jT_xgetf (a := 0) (t := 1) (ci := 13) (fi := 0) (c := jzQ_16) (v := (4, 2)) (pcN := 60) jIQ_161_57 rfl rfl rfl rfl rfl rfl rfl ?_
  refine jT_xaload_n (v := (4, 0)) (pcN := 61) jIQ_161_60 rfl rfl rfl ?_
  refine jT_xgetf (a := 0) (t := 1) (ci := 13) (fi := 7) (c := jzQ_16) (v := (4, 9)) (pcN := 64) jIQ_161_61 rfl rfl rfl rfl rfl rfl rfl ?_
  refine jT_xlconst (z := 1) (pcN := 65) jIQ_161_64 rfl rfl ?_
  refine jT_xlconst (z := 1) (pcN := 66) jIQ_161_65 rfl rfl ?_
  refine jT_callA [2, 9, 13, 14] (y := 45) (pcN := 69) (dC := 1) (bc1 := 0) (bc2 := 0) (c1 := 0) (c2 := 0) (as := [(4, 2), (4, 9), (1, 1), (1, 1)]) (asC := [(4, 0), (4, 1), (1, 1), (1, 1)]) (LN := [(5, (0, 6)), (0, (4, 0)), (1, (0, r7)), (2, (0, r8)), (3, (4, 1)), (4, (0, o4))]) (stN := []) (hsC := [(8, [(4, 2), (4, 3)], []), (101, [], [0, r7, r8, 0, 0, 0]), jgh, jgh]) (ex := []) (v := (1, (108917793695 * r7 + 159561683699 * r8) / 68719476736)) (st2 := [(1, (108917793695 * r7 + 159561683699 * r8) / 68719476736)]) (hs2 := [jzQ_16, jgh, (8, [(4, 13), (4, 14)], []), jgh, jgh, jgh, jgh, jgh, jgh, (101, [], [0, r7, r8, 0, 0, 0]), (101, [], [k86_0, k86_1, k86_2, k86_3, k86_4, k86_5]), jgh, jgh, jgh, jgh]) (jQl_sp45_116 (d := 0) (by omega) (by omega)) (by rfl) (by rfl) (by rfl) (by rfl) ⟨rfl, rfl, rfl, rfl, trivial⟩ (by rfl) (by rfl) (by omega) (by show 15 ≤ 15; omega) (by omega) (by omega) rfl rfl ?_
  have hb_q1 : (-60) ≤ (108917793695 * r7 + 159561683699 * r8) / 68719476736 ∧ (108917793695 * r7 + 159561683699 * r8) / 68719476736 ≤ 60 := ⟨by omega, by omega⟩
  generalize hq_q1 : (108917793695 * r7 + 159561683699 * r8) / 68719476736 = q1 at hb_q1 g_3 ⊢
  refine jT_xlstore (v := (1, q1)) (LN := [(5, (1, q1)), (0, (4, 0)), (1, (0, r7)), (2, (0, r8)), (3, (4, 1)), (4, (0, o4))]) (pcN := 71) jIQ_161_69 rfl rfl rfl rfl ?_
  have g_4 : 0 ≤ (-68719476736) * q1 + 108917793694 * r7 + 159561683698 * r8 - 1 := by have := jcg (b := r7) (c := r8) (by omega) (by omega) (by omega); rw [hq_q1] at this; omega
  have g_5 : 0 ≤ (-68719476736) * q1 + 108917793694 * r7 + 159561683700 * r8 - 1 := by have := jcg (b := r7) (c := r8) (by omega) (by omega) (by omega); rw [hq_q1] at this; omega
  have g_6 : 0 ≤ (-68719476736) * q1 + 108917793696 * r7 + 159561683698 * r8 - 1 := by have := jcg (b := r7) (c := r8) (by omega) (by omega) (by omega); rw [hq_q1] at this; omega
  have g_7 : 0 ≤ (-68719476736) * q1 + 108917793696 * r7 + 159561683700 * r8 - 1 := by have := jcg (b := r7) (c := r8) (by omega) (by omega) (by omega); rw [hq_q1] at this; omega
  refine jT_xiload (v := (0, o4)) (pcN := 73) jIQ_161_71 rfl rfl rfl ?_
  refine jT_ifF (a := o4) (t := 107) (by rfl) (by rfl) (by rfl) (jw_idd (by omega) (by omega)) (by simp only [jcP] <;> omega) ?_
  refine jT_xiload_n (v := (0, r7)) (pcN := 77) jIQ_161_76 rfl rfl rfl ?_
  refine jT_xi2l (x := r7) (z := r7) (pcN := 78) jIQ_161_77 rfl (jw_idd (by omega) (by omega)) rfl ?_
  refine jT_xaload_n (v := (4, 0)) (pcN := 79) jIQ_161_78 rfl rfl rfl ?_
  refine jT_xgetf (a := 0) (t := 1) (ci := 13) (fi := 8) (c := jzQ_16) (v := (4, 10)) (pcN := 82) jIQ_161_79 rfl rfl rfl rfl rfl rfl rfl ?_
  refine jT_xiconst (k := 1) (pcN := 83) jIQ_161_82 rfl ?_
  refine jT_lald (x := k86_1) (a := 10) (j := 1) (fs := []) (X := [k86_0, k86_1, k86_2, k86_3, k86_4, k86_5]) jIQ_161_83 rfl rfl rfl rfl ?_
  refine jT_eq (LN := [(5, (1, q1)), (0, (4, 0)), (1, (0, r7)), (2, (0, r8)), (3, (4, 1)), (4, (0, o4))]) (stN := [(1, k86_1), (1, r7)]) (hsN := [jzQ_16, jgh, (8, [(4, 13), (4, 14)], []), jgh, jgh, jgh, jgh, jgh, jgh, (101, [], [0, r7, r8, 0, 0, 0]), (101, [], [k86_0, k86_1, k86_2, k86_3, k86_4, k86_5]), jgh, jgh, jgh, jgh]) rfl rfl rfl ?_
  refine jT_xlmul (x := r7) (y := k86_1) (z := r7 * k86_1) (pcN := 85) jIQ_161_84 rfl rfl rfl ?_
  have hb_q2 := jmul_b (x := r7) (y := k86_1) (m := 20) (n := 158) (by omega) (by omega) (by omega) (by omega)
  have hb_q2 : 0 ≤ r7 * k86_1 ∧ r7 * k86_1 ≤ 3160 := ⟨hb_q2.1, by omega⟩
  generalize hq_q2 : r7 * k86_1 = q2 at hb_q2 g_3 ⊢
  refine jT_xiload_n (v := (0, r8)) (pcN := 86) jIQ_161_85 rfl rfl rfl ?_
  refine jT_xi2l (x := r8) (z := r8) (pcN := 87) jIQ_161_86 rfl (jw_idd (by omega) (by omega)) rfl ?_
  refine jT_xaload_n (v := (4, 0)) (pcN := 88) jIQ_161_87 rfl rfl rfl ?_
  refine jT_xgetf (a := 0) (t := 1) (ci := 13) (fi := 8) (c := jzQ_16) (v := (4, 10)) (pcN := 91) jIQ_161_88 rfl rfl rfl rfl rfl rfl rfl ?_
  refine jT_xiconst (k := 2) (pcN := 92) jIQ_161_91 rfl ?_
  refine jT_lald (x := k86_2) (a := 10) (j := 2) (fs := []) (X := [k86_0, k86_1, k86_2, k86_3, k86_4, k86_5]) jIQ_161_92 rfl rfl rfl rfl ?_
  refine jT_eq (LN := [(5, (1, q1)), (0, (4, 0)), (1, (0, r7)), (2, (0, r8)), (3, (4, 1)), (4, (0, o4))]) (stN := [(1, k86_2), (1, r8), (1, q2)]) (hsN := [jzQ_16, jgh, (8, [(4, 13), (4, 14)], []), jgh, jgh, jgh, jgh, jgh, jgh, (101, [], [0, r7, r8, 0, 0, 0]), (101, [], [k86_0, k86_1, k86_2, k86_3, k86_4, k86_5]), jgh, jgh, jgh, jgh]) rfl rfl rfl ?_
  refine jT_xlmul (x := r8) (y := k86_2) (z := r8 * k86_2) (pcN := 94) jIQ_161_93 rfl rfl rfl ?_
  have hb_q3 := jmul_bs (x := r8) (y := k86_2) (m := 10) (n := 232) (by omega) (by omega) (by omega) (by omega)
  have hb_q3 : (-2320) ≤ r8 * k86_2 ∧ r8 * k86_2 ≤ 2320 := ⟨by omega, by omega⟩
  generalize hq_q3 : r8 * k86_2 = q3 at hb_q3 g_3 ⊢
  refine jT_xladd (x := q2) (y := q3) (z := q2 + q3) (pcN := 95) jIQ_161_94 rfl (rfl) rfl ?_
  refine jT_xlload (v := (1, q1)) (pcN := 97) jIQ_161_95 rfl rfl rfl ?_
  refine jT_xiload (v := (0, o4)) (pcN := 99) jIQ_161_97 rfl rfl rfl ?_
  refine jT_xi2l (x := o4) (z := o4) (pcN := 100) jIQ_161_99 rfl (jw_idd (by omega) (by omega)) rfl ?_
  refine jT_xlmul (x := q1) (y := o4) (z := q1 * o4) (pcN := 101) jIQ_161_100 rfl rfl rfl ?_
  have hb_q4 := jmul_bs (x := q1) (y := o4) (m := 60) (n := 100) (by omega) (by omega) (by omega) (by omega)
  have hb_q4 : (-6000) ≤ q1 * o4 ∧ q1 * o4 ≤ 6000 := ⟨by omega, by omega⟩
  generalize hq_q4 : q1 * o4 = q4 at hb_q4 g_3 ⊢
  refine jT_lcmp (a := q2 + q3) (b := q4) (z := 1) (by rfl) (by rfl) (jwl_idd (by omega) (by omega)) (jwl_idd (by omega) (by omega)) (by rw [decide_eq_true (show (q4 : Int) < q2 + q3 by omega)]; rfl) ?_
  refine jT_xifF (t := 107) (pcN := 105) jIQ_161_102 rfl (by decide +kernel) rfl rfl ?_
  refine jT_xiconst (k := 0) (pcN := 106) jIQ_161_105 rfl ?_
  subst hq_q4
  subst hq_q3
  subst hq_q2
  subst hq_q1
  exact jT_ret rfl (by decide) (by show 15 ≤ 15; omega) (by omega) (by omega) ⟨rfl, rfl, rfl⟩
theorem jQ_161_231 {xs : List Int} {d : Nat} {k86_0 k86_1 k86_2 k86_3 k86_4 k86_5 o4 r7 r8 u85_0 u85_1 u85_2 u85_3 u85_4 u85_5 : Int} (h_k86_0 : 1 ≤ k86_0 ∧ k86_0 ≤ 100) (h_k86_1 : 2 ≤ k86_1 ∧ k86_1 ≤ 158) (h_k86_2 : 2 ≤ k86_2 ∧ k86_2 ≤ 232) (h_k86_3 : 3 ≤ k86_3 ∧ k86_3 ≤ 281) (h_k86_4 : 3 ≤ k86_4 ∧ k86_4 ≤ 346) (h_k86_5 : 4 ≤ k86_5 ∧ k86_5 ≤ 370) (h_o4 : 1 ≤ o4 ∧ o4 ≤ 100) (h_r7 : (-20) ≤ r7 ∧ r7 ≤ 20) (h_r8 : (-10) ≤ r8 ∧ r8 ≤ 10) (g_0 : r7 < 0) (g_1 : -(((108917793695 * r7 + 159561683699 * r8) / 68719476736) * o4) + (r7 * k86_1) + (r8 * k86_2) - 1 < 0) (g_2 : -(((108917793695 * r7 + 159561683699 * r8) / 68719476736) * o4) + (r7 * k86_1) + (r8 * k86_2) < 0) : jT xs (d + 2) 161 15 0 [(0, (4, 0)), (1, (0, r7)), (2, (0, r8)), (3, (4, 1)), (4, (0, o4))] [] [jzQ_16, jgh, (8, [(4, 13), (4, 14)], []), jgh, jgh, jgh, jgh, jgh, jgh, (101, [], [u85_0, u85_1, u85_2, u85_3, u85_4, u85_5]), (101, [], [k86_0, k86_1, k86_2, k86_3, k86_4, k86_5]), jgh, jgh, jgh, jgh] 0 0 (fun k v hsN => k = 0 ∧ v = (0, 0) ∧ hsN = [jzQ_16, jgh, (8, [(4, 13), (4, 14)], []), jgh, jgh, jgh, jgh, jgh, jgh, (101, [], [0, r7, r8, 0, 0, 0]), (101, [], [k86_0, k86_1, k86_2, k86_3, k86_4, k86_5]), jgh, jgh, jgh, jgh]) := by
  refine jT_xiload_n (v := (0, r7)) (pcN := 1) jIQ_161_0 rfl rfl rfl ?_
  refine jT_ifT (a := r7) (t := 10) (by rfl) (by rfl) (by rfl) (jw_idd (by omega) (by omega)) (by simp only [jcP] <;> omega) ?_
  refine jT_xiconst (k := 0) (pcN := 11) jIQ_161_10 rfl ?_
  refine jT_xistore (v := (0, 0)) (LN := [(5, (0, 0)), (0, (4, 0)), (1, (0, r7)), (2, (0, r8)), (3, (4, 1)), (4, (0, o4))]) (pcN := 13) jIQ_161_11 rfl rfl rfl rfl ?_
  refine jT_xiload (v := (0, 0)) (pcN := 15) jIQ_161_13 rfl rfl rfl ?_
  refine jT_xbipush (k := 6) (pcN := 17) jIQ_161_15 (by decide) rfl ?_
  refine jT_xicF (t := 56) (pcN := 20) jIQ_161_17 rfl (by decide +kernel) rfl rfl ?_
  refine jT_xaload_n (v := (4, 0)) (pcN := 21) jIQ_161_20 rfl rfl rfl ?_
  refine jT_xgetf (a := 0) (t := 1) (ci := 13) (fi := 7) (c := jzQ_16) (v := (4, 9)) (pcN := 24) jIQ_161_21 rfl rfl rfl rfl rfl rfl rfl ?_
  refine jT_xiload (v := (0, 0)) (pcN := 26) jIQ_161_24 rfl rfl rfl ?_
  refine jT_xiload (v := (0, 0)) (pcN := 28) jIQ_161_26 rfl rfl rfl ?_
  refine jT_xiconst (k := 1) (pcN := 29) jIQ_161_28 rfl ?_
  refine jT_xicT (pcN := 37) jIQ_161_29 rfl (by decide +kernel) rfl ?_
  refine jT_xiload (v := (0, 0)) (pcN := 39) jIQ_161_37 rfl rfl rfl ?_
  refine jT_xiconst (k := 2) (pcN := 40) jIQ_161_39 rfl ?_
  refine jT_xicT (pcN := 48) jIQ_161_40 rfl (by decide +kernel) rfl ?_
  refine jT_xlconst (z := 0) (pcN := 49) jIQ_161_48 rfl rfl ?_
  refine jT_adv 1 (pcN := 50) (LN := [(5, (0, 0)), (0, (4, 0)), (1, (0, r7)), (2, (0, r8)), (3, (4, 1)), (4, (0, o4))]) (stN := []) (hsN := [jzQ_16, jgh, (8, [(4, 13), (4, 14)], []), jgh, jgh, jgh, jgh, jgh, jgh, (101, [], [0, u85_1, u85_2, u85_3, u85_4, u85_5]), (101, [], [k86_0, k86_1, k86_2, k86_3, k86_4, k86_5]), jgh, jgh, jgh, jgh]) (c1 := 0) (s1 := 0) (c2 := 0) (s2 := 0) (by exact rfl) ?_ (by omega) (by omega)
  refine jT_xiinc (x := 0) (z := 1) (LN := [(5, (0, 1)), (0, (4, 0)), (1, (0, r7)), (2, (0, r8)), (3, (4, 1)), (4, (0, o4))]) (pcN := 53) jIQ_161_50 rfl rfl (by decide) rfl rfl ?_
  refine jT_xgoto (pcN := 13) jIQ_161_53 rfl ?_
  refine jT_xiload (v := (0, 1)) (pcN := 15) jIQ_161_13 rfl rfl rfl ?_
  refine jT_xbipush (k := 6) (pcN := 17) jIQ_161_15 (by decide) rfl ?_
  refine jT_xicF (t := 56) (pcN := 20) jIQ_161_17 rfl (by decide +kernel) rfl rfl ?_
  refine jT_xaload_n (v := (4, 0)) (pcN := 21) jIQ_161_20 rfl rfl rfl ?_
  refine jT_xgetf (a := 0) (t := 1) (ci := 13) (fi := 7) (c := jzQ_16) (v := (4, 9)) (pcN := 24) jIQ_161_21 rfl rfl rfl rfl rfl rfl rfl ?_
  refine jT_xiload (v := (0, 1)) (pcN := 26) jIQ_161_24 rfl rfl rfl ?_
  refine jT_xiload (v := (0, 1)) (pcN := 28) jIQ_161_26 rfl rfl rfl ?_
  refine jT_xiconst (k := 1) (pcN := 29) jIQ_161_28 rfl ?_
  refine jT_xicF (t := 37) (pcN := 32) jIQ_161_29 rfl (by decide +kernel) rfl rfl ?_
  refine jT_xiload_n (v := (0, r7)) (pcN := 33) jIQ_161_32 rfl rfl rfl ?_
  refine jT_xi2l (x := r7) (z := r7) (pcN := 34) jIQ_161_33 rfl (jw_idd (by omega) (by omega)) rfl ?_
  refine jT_xgoto (pcN := 49) jIQ_161_34 rfl ?_
  refine jT_adv 1 (pcN := 50) (LN := [(5, (0, 1)), (0, (4, 0)), (1, (0, r7)), (2, (0, r8)), (3, (4, 1)), (4, (0, o4))]) (stN := []) (hsN := [jzQ_16, jgh, (8, [(4, 13), (4, 14)], []), jgh, jgh, jgh, jgh, jgh, jgh, (101, [], [0, r7, u85_2, u85_3, u85_4, u85_5]), (101, [], [k86_0, k86_1, k86_2, k86_3, k86_4, k86_5]), jgh, jgh, jgh, jgh]) (c1 := 0) (s1 := 0) (c2 := 0) (s2 := 0) (by exact rfl) ?_ (by omega) (by omega)
  refine jT_xiinc (x := 1) (z := 2) (LN := [(5, (0, 2)), (0, (4, 0)), (1, (0, r7)), (2, (0, r8)), (3, (4, 1)), (4, (0, o4))]) (pcN := 53) jIQ_161_50 rfl rfl (by decide) rfl rfl ?_
  refine jT_xgoto (pcN := 13) jIQ_161_53 rfl ?_
  refine jT_xiload (v := (0, 2)) (pcN := 15) jIQ_161_13 rfl rfl rfl ?_
  refine jT_xbipush (k := 6) (pcN := 17) jIQ_161_15 (by decide) rfl ?_
  refine jT_xicF (t := 56) (pcN := 20) jIQ_161_17 rfl (by decide +kernel) rfl rfl ?_
  refine jT_xaload_n (v := (4, 0)) (pcN := 21) jIQ_161_20 rfl rfl rfl ?_
  refine jT_xgetf (a := 0) (t := 1) (ci := 13) (fi := 7) (c := jzQ_16) (v := (4, 9)) (pcN := 24) jIQ_161_21 rfl rfl rfl rfl rfl rfl rfl ?_
  refine jT_xiload (v := (0, 2)) (pcN := 26) jIQ_161_24 rfl rfl rfl ?_
  refine jT_xiload (v := (0, 2)) (pcN := 28) jIQ_161_26 rfl rfl rfl ?_
  refine jT_xiconst (k := 1) (pcN := 29) jIQ_161_28 rfl ?_
  refine jT_xicT (pcN := 37) jIQ_161_29 rfl (by decide +kernel) rfl ?_
  refine jT_xiload (v := (0, 2)) (pcN := 39) jIQ_161_37 rfl rfl rfl ?_
  refine jT_xiconst (k := 2) (pcN := 40) jIQ_161_39 rfl ?_
  refine jT_xicF (t := 48) (pcN := 43) jIQ_161_40 rfl (by decide +kernel) rfl rfl ?_
  refine jT_xiload_n (v := (0, r8)) (pcN := 44) jIQ_161_43 rfl rfl rfl ?_
  refine jT_xi2l (x := r8) (z := r8) (pcN := 45) jIQ_161_44 rfl (jw_idd (by omega) (by omega)) rfl ?_
  refine jT_xgoto (pcN := 49) jIQ_161_45 rfl ?_
  refine jT_adv 1 (pcN := 50) (LN := [(5, (0, 2)), (0, (4, 0)), (1, (0, r7)), (2, (0, r8)), (3, (4, 1)), (4, (0, o4))]) (stN := []) (hsN := [jzQ_16, jgh, (8, [(4, 13), (4, 14)], []), jgh, jgh, jgh, jgh, jgh, jgh, (101, [], [0, r7, r8, u85_3, u85_4, u85_5]), (101, [], [k86_0, k86_1, k86_2, k86_3, k86_4, k86_5]), jgh, jgh, jgh, jgh]) (c1 := 0) (s1 := 0) (c2 := 0) (s2 := 0) (by exact rfl) ?_ (by omega) (by omega)
  refine jT_xiinc (x := 2) (z := 3) (LN := [(5, (0, 3)), (0, (4, 0)), (1, (0, r7)), (2, (0, r8)), (3, (4, 1)), (4, (0, o4))]) (pcN := 53) jIQ_161_50 rfl rfl (by decide) rfl rfl ?_
  refine jT_xgoto (pcN := 13) jIQ_161_53 rfl ?_
  refine jT_xiload (v := (0, 3)) (pcN := 15) jIQ_161_13 rfl rfl rfl ?_
  refine jT_xbipush (k := 6) (pcN := 17) jIQ_161_15 (by decide) rfl ?_
  refine jT_xicF (t := 56) (pcN := 20) jIQ_161_17 rfl (by decide +kernel) rfl rfl ?_
  refine jT_xaload_n (v := (4, 0)) (pcN := 21) jIQ_161_20 rfl rfl rfl ?_
  refine jT_xgetf (a := 0) (t := 1) (ci := 13) (fi := 7) (c := jzQ_16) (v := (4, 9)) (pcN := 24) jIQ_161_21 rfl rfl rfl rfl rfl rfl rfl ?_
  refine jT_xiload (v := (0, 3)) (pcN := 26) jIQ_161_24 rfl rfl rfl ?_
  refine jT_xiload (v := (0, 3)) (pcN := 28) jIQ_161_26 rfl rfl rfl ?_
  refine jT_xiconst (k := 1) (pcN := 29) jIQ_161_28 rfl ?_
  refine jT_xicT (pcN := 37) jIQ_161_29 rfl (by decide +kernel) rfl ?_
  refine jT_xiload (v := (0, 3)) (pcN := 39) jIQ_161_37 rfl rfl rfl ?_
  refine jT_xiconst (k := 2) (pcN := 40) jIQ_161_39 rfl ?_
  refine jT_xicT (pcN := 48) jIQ_161_40 rfl (by decide +kernel) rfl ?_
  refine jT_xlconst (z := 0) (pcN := 49) jIQ_161_48 rfl rfl ?_
  refine jT_adv 1 (pcN := 50) (LN := [(5, (0, 3)), (0, (4, 0)), (1, (0, r7)), (2, (0, r8)), (3, (4, 1)), (4, (0, o4))]) (stN := []) (hsN := [jzQ_16, jgh, (8, [(4, 13), (4, 14)], []), jgh, jgh, jgh, jgh, jgh, jgh, (101, [], [0, r7, r8, 0, u85_4, u85_5]), (101, [], [k86_0, k86_1, k86_2, k86_3, k86_4, k86_5]), jgh, jgh, jgh, jgh]) (c1 := 0) (s1 := 0) (c2 := 0) (s2 := 0) (by exact rfl) ?_ (by omega) (by omega)
  refine jT_xiinc (x := 3) (z := 4) (LN := [(5, (0, 4)), (0, (4, 0)), (1, (0, r7)), (2, (0, r8)), (3, (4, 1)), (4, (0, o4))]) (pcN := 53) jIQ_161_50 rfl rfl (by decide) rfl rfl ?_
  refine jT_xgoto (pcN := 13) jIQ_161_53 rfl ?_
  refine jT_xiload (v := (0, 4)) (pcN := 15) jIQ_161_13 rfl rfl rfl ?_
  refine jT_xbipush (k := 6) (pcN := 17) jIQ_161_15 (by decide) rfl ?_
  refine jT_xicF (t := 56) (pcN := 20) jIQ_161_17 rfl (by decide +kernel) rfl rfl ?_
  refine jT_xaload_n (v := (4, 0)) (pcN := 21) jIQ_161_20 rfl rfl rfl ?_
  refine jT_xgetf (a := 0) (t := 1) (ci := 13) (fi := 7) (c := jzQ_16) (v := (4, 9)) (pcN := 24) jIQ_161_21 rfl rfl rfl rfl rfl rfl rfl ?_
  refine jT_xiload (v := (0, 4)) (pcN := 26) jIQ_161_24 rfl rfl rfl ?_
  refine jT_xiload (v := (0, 4)) (pcN := 28) jIQ_161_26 rfl rfl rfl ?_
  refine jT_xiconst (k := 1) (pcN := 29) jIQ_161_28 rfl ?_
  refine jT_xicT (pcN := 37) jIQ_161_29 rfl (by decide +kernel) rfl ?_
  refine jT_xiload (v := (0, 4)) (pcN := 39) jIQ_161_37 rfl rfl rfl ?_
  refine jT_xiconst (k := 2) (pcN := 40) jIQ_161_39 rfl ?_
  refine jT_xicT (pcN := 48) jIQ_161_40 rfl (by decide +kernel) rfl ?_
  refine jT_xlconst (z := 0) (pcN := 49) jIQ_161_48 rfl rfl ?_
  refine jT_adv 1 (pcN := 50) (LN := [(5, (0, 4)), (0, (4, 0)), (1, (0, r7)), (2, (0, r8)), (3, (4, 1)), (4, (0, o4))]) (stN := []) (hsN := [jzQ_16, jgh, (8, [(4, 13), (4, 14)], []), jgh, jgh, jgh, jgh, jgh, jgh, (101, [], [0, r7, r8, 0, 0, u85_5]), (101, [], [k86_0, k86_1, k86_2, k86_3, k86_4, k86_5]), jgh, jgh, jgh, jgh]) (c1 := 0) (s1 := 0) (c2 := 0) (s2 := 0) (by exact rfl) ?_ (by omega) (by omega)
  refine jT_xiinc (x := 4) (z := 5) (LN := [(5, (0, 5)), (0, (4, 0)), (1, (0, r7)), (2, (0, r8)), (3, (4, 1)), (4, (0, o4))]) (pcN := 53) jIQ_161_50 rfl rfl (by decide) rfl rfl ?_
  refine jT_xgoto (pcN := 13) jIQ_161_53 rfl ?_
  refine jT_xiload (v := (0, 5)) (pcN := 15) jIQ_161_13 rfl rfl rfl ?_
  refine jT_xbipush (k := 6) (pcN := 17) jIQ_161_15 (by decide) rfl ?_
  refine jT_xicF (t := 56) (pcN := 20) jIQ_161_17 rfl (by decide +kernel) rfl rfl ?_
  refine jT_xaload_n (v := (4, 0)) (pcN := 21) jIQ_161_20 rfl rfl rfl ?_
  refine jT_xgetf (a := 0) (t := 1) (ci := 13) (fi := 7) (c := jzQ_16) (v := (4, 9)) (pcN := 24) jIQ_161_21 rfl rfl rfl rfl rfl rfl rfl ?_
  refine jT_xiload (v := (0, 5)) (pcN := 26) jIQ_161_24 rfl rfl rfl ?_
  refine jT_xiload (v := (0, 5)) (pcN := 28) jIQ_161_26 rfl rfl rfl ?_
  refine jT_xiconst (k := 1) (pcN := 29) jIQ_161_28 rfl ?_
  refine jT_xicT (pcN := 37) jIQ_161_29 rfl (by decide +kernel) rfl ?_
  refine jT_xiload (v := (0, 5)) (pcN := 39) jIQ_161_37 rfl rfl rfl ?_
  refine jT_xiconst (k := 2) (pcN := 40) jIQ_161_39 rfl ?_
  refine jT_xicT (pcN := 48) jIQ_161_40 rfl (by decide +kernel) rfl ?_
  refine jT_xlconst (z := 0) (pcN := 49) jIQ_161_48 rfl rfl ?_
  refine jT_adv 1 (pcN := 50) (LN := [(5, (0, 5)), (0, (4, 0)), (1, (0, r7)), (2, (0, r8)), (3, (4, 1)), (4, (0, o4))]) (stN := []) (hsN := [jzQ_16, jgh, (8, [(4, 13), (4, 14)], []), jgh, jgh, jgh, jgh, jgh, jgh, (101, [], [0, r7, r8, 0, 0, 0]), (101, [], [k86_0, k86_1, k86_2, k86_3, k86_4, k86_5]), jgh, jgh, jgh, jgh]) (c1 := 0) (s1 := 0) (c2 := 0) (s2 := 0) (by exact rfl) ?_ (by omega) (by omega)
  refine jT_xiinc (x := 5) (z := 6) (LN := [(5, (0, 6)), (0, (4, 0)), (1, (0, r7)), (2, (0, r8)), (3, (4, 1)), (4, (0, o4))]) (pcN := 53) jIQ_161_50 rfl rfl (by decide) rfl rfl ?_
  refine jT_xgoto (pcN := 13) jIQ_161_53 rfl ?_
  refine jT_xiload (v := (0, 6)) (pcN := 15) jIQ_161_13 rfl rfl rfl ?_
  refine jT_xbipush (k := 6) (pcN := 17) jIQ_161_15 (by decide) rfl ?_
  refine jT_xicT (pcN := 56) jIQ_161_17 rfl (by decide +kernel) rfl ?_
  refine jT_xaload_n (v := (4, 0)) (pcN := 57) jIQ_161_56 rfl rfl rfl ?_
  refine jT_xgetf (a := 0) (t := 1) (ci := 13) (fi := 0) (c := jzQ_16) (v := (4, 2)) (pcN := 60) jIQ_161_57 rfl rfl rfl rfl rfl rfl rfl ?_
  refine jT_xaload_n (v := (4, 0)) (pcN := 61) jIQ_161_60 rfl rfl rfl ?_
  refine jT_xgetf (a := 0) (t := 1) (ci := 13) (fi := 7) (c := jzQ_16) (v := (4, 9)) (pcN := 64) jIQ_161_61 rfl rfl rfl rfl rfl rfl rfl ?_
  refine jT_xlconst (z := 1) (pcN := 65) jIQ_161_64 rfl rfl ?_
  refine jT_xlconst (z := 1) (pcN := 66) jIQ_161_65 rfl rfl ?_
  refine jT_callA [2, 9, 13, 14] (y := 45) (pcN := 69) (dC := 1) (bc1 := 0) (bc2 := 0) (c1 := 0) (c2 := 0) (as := [(4, 2), (4, 9), (1, 1), (1, 1)]) (asC := [(4, 0), (4, 1), (1, 1), (1, 1)]) (LN := [(5, (0, 6)), (0, (4, 0)), (1, (0, r7)), (2, (0, r8)), (3, (4, 1)), (4, (0, o4))]) (stN := []) (hsC := [(8, [(4, 2), (4, 3)], []), (101, [], [0, r7, r8, 0, 0, 0]), jgh, jgh]) (ex := []) (v := (1, (108917793695 * r7 + 159561683699 * r8) / 68719476736)) (st2 := [(1, (108917793695 * r7 + 159561683699 * r8) / 68719476736)]) (hs2 := [jzQ_16, jgh, (8, [(4, 13), (4, 14)], []), jgh, jgh, jgh, jgh, jgh, jgh, (101, [], [0, r7, r8, 0, 0, 0]), (101, [], [k86_0, k86_1, k86_2, k86_3, k86_4, k86_5]), jgh, jgh, jgh, jgh]) (jQl_sp45_116 (d := 0) (by omega) (by omega)) (by rfl) (by rfl) (by rfl) (by rfl) ⟨rfl, rfl, rfl, rfl, trivial⟩ (by rfl) (by rfl) (by omega) (by show 15 ≤ 15; omega) (by omega) (by omega) rfl rfl ?_
  have hb_q1 : (-60) ≤ (108917793695 * r7 + 159561683699 * r8) / 68719476736 ∧ (108917793695 * r7 + 159561683699 * r8) / 68719476736 ≤ 60 := ⟨by omega, by omega⟩
  generalize hq_q1 : (108917793695 * r7 + 159561683699 * r8) / 68719476736 = q1 at hb_q1 g_1 g_2 ⊢
  refine jT_xlstore (v := (1, q1)) (LN := [(5, (1, q1)), (0, (4, 0)), (1, (0, r7)), (2, (0, r8)), (3, (4, 1)), (4, (0, o4))]) (pcN := 71) jIQ_161_69 rfl rfl rfl rfl ?_
  have g_3 : 0 ≤ (-68719476736) * q1 + 108917793694 * r7 + 159561683698 * r8 - 1 := by have := jcg (b := r7) (c := r8) (by omega) (by omega) (by omega); rw [hq_q1] at this; omega
  have g_4 : 0 ≤ (-68719476736) * q1 + 108917793694 * r7 + 159561683700 * r8 - 1 := by have := jcg (b := r7) (c := r8) (by omega) (by omega) (by omega); rw [hq_q1] at this; omega
  have g_5 : 0 ≤ (-68719476736) * q1 + 108917793696 * r7 + 159561683698 * r8 - 1 := by have := jcg (b := r7) (c := r8) (by omega) (by omega) (by omega); rw [hq_q1] at this; omega
  have g_6 : 0 ≤ (-68719476736) * q1 + 108917793696 * r7 + 159561683700 * r8 - 1 := by have := jcg (b := r7) (c := r8) (by omega) (by omega) (by omega); rw [hq_q1] at this; omega
  refine jT_xiload (v := (0, o4)) (pcN := 73) jIQ_161_71 rfl rfl rfl ?_
  refine jT_ifF (a := o4) (t := 107) (by rfl) (by rfl) (by rfl) (jw_idd (by omega) (by omega)) (by simp only [jcP] <;> omega) ?_
  refine jT_xiload_n (v := (0, r7)) (pcN := 77) jIQ_161_76 rfl rfl rfl ?_
  refine jT_xi2l (x := r7) (z := r7) (pcN := 78) jIQ_161_77 rfl (jw_idd (by omega) (by omega)) rfl ?_
  refine jT_xaload_n (v := (4, 0)) (pcN := 79) jIQ_161_78 rfl rfl rfl ?_
  refine jT_xgetf (a := 0) (t := 1) (ci := 13) (fi := 8) (c := jzQ_16) (v := (4, 10)) (pcN := 82) jIQ_161_79 rfl rfl rfl rfl rfl rfl rfl ?_
  refine jT_xiconst (k := 1) (pcN := 83) jIQ_161_82 rfl ?_
  refine jT_lald (x := k86_1) (a := 10) (j := 1) (fs := []) (X := [k86_0, k86_1, k86_2, k86_3, k86_4, k86_5]) jIQ_161_83 rfl rfl rfl rfl ?_
  refine jT_eq (LN := [(5, (1, q1)), (0, (4, 0)), (1, (0, r7)), (2, (0, r8)), (3, (4, 1)), (4, (0, o4))]) (stN := [(1, k86_1), (1, r7)]) (hsN := [jzQ_16, jgh, (8, [(4, 13), (4, 14)], []), jgh, jgh, jgh, jgh, jgh, jgh, (101, [], [0, r7, r8, 0, 0, 0]), (101, [], [k86_0, k86_1, k86_2, k86_3, k86_4, k86_5]), jgh, jgh, jgh, jgh]) rfl rfl rfl ?_
  refine jT_xlmul (x := r7) (y := k86_1) (z := r7 * k86_1) (pcN := 85) jIQ_161_84 rfl rfl rfl ?_
  have hb_q2 := jmul_bs (x := r7) (y := k86_1) (m := 20) (n := 158) (by omega) (by omega) (by omega) (by omega)
  have hb_q2 : (-3160) ≤ r7 * k86_1 ∧ r7 * k86_1 ≤ 3160 := ⟨by omega, by omega⟩
  generalize hq_q2 : r7 * k86_1 = q2 at hb_q2 g_1 g_2 ⊢
  refine jT_xiload_n (v := (0, r8)) (pcN := 86) jIQ_161_85 rfl rfl rfl ?_
  refine jT_xi2l (x := r8) (z := r8) (pcN := 87) jIQ_161_86 rfl (jw_idd (by omega) (by omega)) rfl ?_
  refine jT_xaload_n (v := (4, 0)) (pcN := 88) jIQ_161_87 rfl rfl rfl ?_
  refine jT_xgetf (a := 0) (t := 1) (ci := 13) (fi := 8) (c := jzQ_16) (v := (4, 10)) (pcN := 91) jIQ_161_88 rfl rfl rfl rfl rfl rfl rfl ?_
  refine jT_xiconst (k := 2) (pcN := 92) jIQ_161_91 rfl ?_
  refine jT_lald (x := k86_2) (a := 10) (j := 2) (fs := []) (X := [k86_0, k86_1, k86_2, k86_3, k86_4, k86_5]) jIQ_161_92 rfl rfl rfl rfl ?_
  refine jT_eq (LN := [(5, (1, q1)), (0, (4, 0)), (1, (0, r7)), (2, (0, r8)), (3, (4, 1)), (4, (0, o4))]) (stN := [(1, k86_2), (1, r8), (1, q2)]) (hsN := [jzQ_16, jgh, (8, [(4, 13), (4, 14)], []), jgh, jgh, jgh, jgh, jgh, jgh, (101, [], [0, r7, r8, 0, 0, 0]), (101, [], [k86_0, k86_1, k86_2, k86_3, k86_4, k86_5]), jgh, jgh, jgh, jgh]) rfl rfl rfl ?_
  refine jT_xlmul (x := r8) (y := k86_2) (z := r8 * k86_2) (pcN := 94) jIQ_161_93 rfl rfl rfl ?_
  have hb_q3 := jmul_bs (x := r8) (y := k86_2) (m := 10) (n := 232) (by omega) (by omega) (by omega) (by omega)
  have hb_q3 : (-2320) ≤ r8 * k86_2 ∧ r8 * k86_2 ≤ 2320 := ⟨by omega, by omega⟩
  generalize hq_q3 : r8 * k86_2 = q3 at hb_q3 g_1 g_2 ⊢
  refine jT_xladd (x := q2) (y := q3) (z := q2 + q3) (pcN := 95) jIQ_161_94 rfl (rfl) rfl ?_
  refine jT_xlload (v := (1, q1)) (pcN := 97) jIQ_161_95 rfl rfl rfl ?_
  refine jT_xiload (v := (0, o4)) (pcN := 99) jIQ_161_97 rfl rfl rfl ?_
  refine jT_xi2l (x := o4) (z := o4) (pcN := 100) jIQ_161_99 rfl (jw_idd (by omega) (by omega)) rfl ?_
  refine jT_xlmul (x := q1) (y := o4) (z := q1 * o4) (pcN := 101) jIQ_161_100 rfl rfl rfl ?_
  have hb_q4 := jmul_bs (x := q1) (y := o4) (m := 60) (n := 100) (by omega) (by omega) (by omega) (by omega)
  have hb_q4 : (-6000) ≤ q1 * o4 ∧ q1 * o4 ≤ 6000 := ⟨by omega, by omega⟩
  generalize hq_q4 : q1 * o4 = q4 at hb_q4 g_1 g_2 ⊢
  refine jT_lcmp (a := q2 + q3) (b := q4) (z := (-1)) (by rfl) (by rfl) (jwl_idd (by omega) (by omega)) (jwl_idd (by omega) (by omega)) (by rw [decide_eq_false (show ¬ ((q4 : Int) < q2 + q3) by omega), decide_eq_false (show ¬ ((q2 + q3 : Int) = q4) by omega)]; rfl) ?_
  refine jT_xifF (t := 107) (pcN := 105) jIQ_161_102 rfl (by decide +kernel) rfl rfl ?_
  refine jT_xiconst (k := 0) (pcN := 106) jIQ_161_105 rfl ?_
  subst hq_q4
  subst hq_q3
  subst hq_q2
  subst hq_q1
  exact jT_ret rfl (by decide) (by show 15 ≤ 15; omega) (by omega) (by omega) ⟨rfl, rfl, rfl⟩
theorem jQ_161_232 {xs : List Int} {d : Nat} {k86_0 k86_1 k86_2 k86_3 k86_4 k86_5 o4 r7 r8 u85_0 u85_1 u85_2 u85_3 u85_4 u85_5 : Int} (h_k86_0 : 1 ≤ k86_0 ∧ k86_0 ≤ 100) (h_k86_1 : 2 ≤ k86_1 ∧ k86_1 ≤ 158) (h_k86_2 : 2 ≤ k86_2 ∧ k86_2 ≤ 232) (h_k86_3 : 3 ≤ k86_3 ∧ k86_3 ≤ 281) (h_k86_4 : 3 ≤ k86_4 ∧ k86_4 ≤ 346) (h_k86_5 : 4 ≤ k86_5 ∧ k86_5 ≤ 370) (h_o4 : 1 ≤ o4 ∧ o4 ≤ 100) (h_r7 : (-20) ≤ r7 ∧ r7 ≤ 20) (h_r8 : (-10) ≤ r8 ∧ r8 ≤ 10) (g_0 : r7 < 0) (g_1 : -(((108917793695 * r7 + 159561683699 * r8) / 68719476736) * o4) + (r7 * k86_1) + (r8 * k86_2) - 1 < 0) (g_2 : 0 ≤ -(((108917793695 * r7 + 159561683699 * r8) / 68719476736) * o4) + (r7 * k86_1) + (r8 * k86_2)) : jT xs (d + 2) 161 16 0 [(0, (4, 0)), (1, (0, r7)), (2, (0, r8)), (3, (4, 1)), (4, (0, o4))] [] [jzQ_16, (4, [(4, 13), (1, 1)], []), (8, [(4, 14), (4, 15)], []), jgh, jgh, jgh, jgh, jgh, jgh, (101, [], [u85_0, u85_1, u85_2, u85_3, u85_4, u85_5]), (101, [], [k86_0, k86_1, k86_2, k86_3, k86_4, k86_5]), jgh, jgh, (101, [], [0, 0, 0, 0, 0, 0]), jgh, jgh] 0 0 (fun k v hsN => k = 0 ∧ v = (0, 0) ∧ hsN = [jzQ_16, (4, [(4, 13), (1, 1)], []), (8, [(4, 14), (4, 15)], []), jgh, jgh, jgh, jgh, jgh, jgh, (101, [], [(108917793695 * r7 + 159561683699 * r8) / 68719476736, -r7, -r8, 0, 0, 0]), (101, [], [k86_0, k86_1, k86_2, k86_3, k86_4, k86_5]), jgh, jgh, (101, [], [0, 0, 0, 0, 0, 0]), jgh, jgh]) := by
  refine jT_xiload_n (v := (0, r7)) (pcN := 1) jIQ_161_0 rfl rfl rfl ?_
  refine jT_ifT (a := r7) (t := 10) (by rfl) (by rfl) (by rfl) (jw_idd (by omega) (by omega)) (by simp only [jcP] <;> omega) ?_
  refine jT_xiconst (k := 0) (pcN := 11) jIQ_161_10 rfl ?_
  refine jT_xistore (v := (0, 0)) (LN := [(5, (0, 0)), (0, (4, 0)), (1, (0, r7)), (2, (0, r8)), (3, (4, 1)), (4, (0, o4))]) (pcN := 13) jIQ_161_11 rfl rfl rfl rfl ?_
  refine jT_xiload (v := (0, 0)) (pcN := 15) jIQ_161_13 rfl rfl rfl ?_
  refine jT_xbipush (k := 6) (pcN := 17) jIQ_161_15 (by decide) rfl ?_
  refine jT_xicF (t := 56) (pcN := 20) jIQ_161_17 rfl (by decide +kernel) rfl rfl ?_
  refine jT_xaload_n (v := (4, 0)) (pcN := 21) jIQ_161_20 rfl rfl rfl ?_
  refine jT_xgetf (a := 0) (t := 1) (ci := 13) (fi := 7) (c := jzQ_16) (v := (4, 9)) (pcN := 24) jIQ_161_21 rfl rfl rfl rfl rfl rfl rfl ?_
  refine jT_xiload (v := (0, 0)) (pcN := 26) jIQ_161_24 rfl rfl rfl ?_
  refine jT_xiload (v := (0, 0)) (pcN := 28) jIQ_161_26 rfl rfl rfl ?_
  refine jT_xiconst (k := 1) (pcN := 29) jIQ_161_28 rfl ?_
  refine jT_xicT (pcN := 37) jIQ_161_29 rfl (by decide +kernel) rfl ?_
  refine jT_xiload (v := (0, 0)) (pcN := 39) jIQ_161_37 rfl rfl rfl ?_
  refine jT_xiconst (k := 2) (pcN := 40) jIQ_161_39 rfl ?_
  refine jT_xicT (pcN := 48) jIQ_161_40 rfl (by decide +kernel) rfl ?_
  refine jT_xlconst (z := 0) (pcN := 49) jIQ_161_48 rfl rfl ?_
  refine jT_adv 1 (pcN := 50) (LN := [(5, (0, 0)), (0, (4, 0)), (1, (0, r7)), (2, (0, r8)), (3, (4, 1)), (4, (0, o4))]) (stN := []) (hsN := [jzQ_16, (4, [(4, 13), (1, 1)], []), (8, [(4, 14), (4, 15)], []), jgh, jgh, jgh, jgh, jgh, jgh, (101, [], [0, u85_1, u85_2, u85_3, u85_4, u85_5]), (101, [], [k86_0, k86_1, k86_2, k86_3, k86_4, k86_5]), jgh, jgh, (101, [], [0, 0, 0, 0, 0, 0]), jgh, jgh]) (c1 := 0) (s1 := 0) (c2 := 0) (s2 := 0) (by exact rfl) ?_ (by omega) (by omega)
  refine jT_xiinc (x := 0) (z := 1) (LN := [(5, (0, 1)), (0, (4, 0)), (1, (0, r7)), (2, (0, r8)), (3, (4, 1)), (4, (0, o4))]) (pcN := 53) jIQ_161_50 rfl rfl (by decide) rfl rfl ?_
  refine jT_xgoto (pcN := 13) jIQ_161_53 rfl ?_
  refine jT_xiload (v := (0, 1)) (pcN := 15) jIQ_161_13 rfl rfl rfl ?_
  refine jT_xbipush (k := 6) (pcN := 17) jIQ_161_15 (by decide) rfl ?_
  refine jT_xicF (t := 56) (pcN := 20) jIQ_161_17 rfl (by decide +kernel) rfl rfl ?_
  refine jT_xaload_n (v := (4, 0)) (pcN := 21) jIQ_161_20 rfl rfl rfl ?_
  refine jT_xgetf (a := 0) (t := 1) (ci := 13) (fi := 7) (c := jzQ_16) (v := (4, 9)) (pcN := 24) jIQ_161_21 rfl rfl rfl rfl rfl rfl rfl ?_
  refine jT_xiload (v := (0, 1)) (pcN := 26) jIQ_161_24 rfl rfl rfl ?_
  refine jT_xiload (v := (0, 1)) (pcN := 28) jIQ_161_26 rfl rfl rfl ?_
  refine jT_xiconst (k := 1) (pcN := 29) jIQ_161_28 rfl ?_
  refine jT_xicF (t := 37) (pcN := 32) jIQ_161_29 rfl (by decide +kernel) rfl rfl ?_
  refine jT_xiload_n (v := (0, r7)) (pcN := 33) jIQ_161_32 rfl rfl rfl ?_
  refine jT_xi2l (x := r7) (z := r7) (pcN := 34) jIQ_161_33 rfl (jw_idd (by omega) (by omega)) rfl ?_
  refine jT_xgoto (pcN := 49) jIQ_161_34 rfl ?_
  refine jT_adv 1 (pcN := 50) (LN := [(5, (0, 1)), (0, (4, 0)), (1, (0, r7)), (2, (0, r8)), (3, (4, 1)), (4, (0, o4))]) (stN := []) (hsN := [jzQ_16, (4, [(4, 13), (1, 1)], []), (8, [(4, 14), (4, 15)], []), jgh, jgh, jgh, jgh, jgh, jgh, (101, [], [0, r7, u85_2, u85_3, u85_4, u85_5]), (101, [], [k86_0, k86_1, k86_2, k86_3, k86_4, k86_5]), jgh, jgh, (101, [], [0, 0, 0, 0, 0, 0]), jgh, jgh]) (c1 := 0) (s1 := 0) (c2 := 0) (s2 := 0) (by exact rfl) ?_ (by omega) (by omega)
  refine jT_xiinc (x := 1) (z := 2) (LN := [(5, (0, 2)), (0, (4, 0)), (1, (0, r7)), (2, (0, r8)), (3, (4, 1)), (4, (0, o4))]) (pcN := 53) jIQ_161_50 rfl rfl (by decide) rfl rfl ?_
  refine jT_xgoto (pcN := 13) jIQ_161_53 rfl ?_
  refine jT_xiload (v := (0, 2)) (pcN := 15) jIQ_161_13 rfl rfl rfl ?_
  refine jT_xbipush (k := 6) (pcN := 17) jIQ_161_15 (by decide) rfl ?_
  refine jT_xicF (t := 56) (pcN := 20) jIQ_161_17 rfl (by decide +kernel) rfl rfl ?_
  refine jT_xaload_n (v := (4, 0)) (pcN := 21) jIQ_161_20 rfl rfl rfl ?_
  refine jT_xgetf (a := 0) (t := 1) (ci := 13) (fi := 7) (c := jzQ_16) (v := (4, 9)) (pcN := 24) jIQ_161_21 rfl rfl rfl rfl rfl rfl rfl ?_
  refine jT_xiload (v := (0, 2)) (pcN := 26) jIQ_161_24 rfl rfl rfl ?_
  refine jT_xiload (v := (0, 2)) (pcN := 28) jIQ_161_26 rfl rfl rfl ?_
  refine jT_xiconst (k := 1) (pcN := 29) jIQ_161_28 rfl ?_
  refine jT_xicT (pcN := 37) jIQ_161_29 rfl (by decide +kernel) rfl ?_
  refine jT_xiload (v := (0, 2)) (pcN := 39) jIQ_161_37 rfl rfl rfl ?_
  refine jT_xiconst (k := 2) (pcN := 40) jIQ_161_39 rfl ?_
  refine jT_xicF (t := 48) (pcN := 43) jIQ_161_40 rfl (by decide +kernel) rfl rfl ?_
  refine jT_xiload_n (v := (0, r8)) (pcN := 44) jIQ_161_43 rfl rfl rfl ?_
  refine jT_xi2l (x := r8) (z := r8) (pcN := 45) jIQ_161_44 rfl (jw_idd (by omega) (by omega)) rfl ?_
  refine jT_xgoto (pcN := 49) jIQ_161_45 rfl ?_
  refine jT_adv 1 (pcN := 50) (LN := [(5, (0, 2)), (0, (4, 0)), (1, (0, r7)), (2, (0, r8)), (3, (4, 1)), (4, (0, o4))]) (stN := []) (hsN := [jzQ_16, (4, [(4, 13), (1, 1)], []), (8, [(4, 14), (4, 15)], []), jgh, jgh, jgh, jgh, jgh, jgh, (101, [], [0, r7, r8, u85_3, u85_4, u85_5]), (101, [], [k86_0, k86_1, k86_2, k86_3, k86_4, k86_5]), jgh, jgh, (101, [], [0, 0, 0, 0, 0, 0]), jgh, jgh]) (c1 := 0) (s1 := 0) (c2 := 0) (s2 := 0) (by exact rfl) ?_ (by omega) (by omega)
  refine jT_xiinc (x := 2) (z := 3) (LN := [(5, (0, 3)), (0, (4, 0)), (1, (0, r7)), (2, (0, r8)), (3, (4, 1)), (4, (0, o4))]) (pcN := 53) jIQ_161_50 rfl rfl (by decide) rfl rfl ?_
  refine jT_xgoto (pcN := 13) jIQ_161_53 rfl ?_
  refine jT_xiload (v := (0, 3)) (pcN := 15) jIQ_161_13 rfl rfl rfl ?_
  refine jT_xbipush (k := 6) (pcN := 17) jIQ_161_15 (by decide) rfl ?_
  refine jT_xicF (t := 56) (pcN := 20) jIQ_161_17 rfl (by decide +kernel) rfl rfl ?_
  refine jT_xaload_n (v := (4, 0)) (pcN := 21) jIQ_161_20 rfl rfl rfl ?_
  refine jT_xgetf (a := 0) (t := 1) (ci := 13) (fi := 7) (c := jzQ_16) (v := (4, 9)) (pcN := 24) jIQ_161_21 rfl rfl rfl rfl rfl rfl rfl ?_
  refine jT_xiload (v := (0, 3)) (pcN := 26) jIQ_161_24 rfl rfl rfl ?_
  refine jT_xiload (v := (0, 3)) (pcN := 28) jIQ_161_26 rfl rfl rfl ?_
  refine jT_xiconst (k := 1) (pcN := 29) jIQ_161_28 rfl ?_
  refine jT_xicT (pcN := 37) jIQ_161_29 rfl (by decide +kernel) rfl ?_
  refine jT_xiload (v := (0, 3)) (pcN := 39) jIQ_161_37 rfl rfl rfl ?_
  refine jT_xiconst (k := 2) (pcN := 40) jIQ_161_39 rfl ?_
  refine jT_xicT (pcN := 48) jIQ_161_40 rfl (by decide +kernel) rfl ?_
  refine jT_xlconst (z := 0) (pcN := 49) jIQ_161_48 rfl rfl ?_
  refine jT_adv 1 (pcN := 50) (LN := [(5, (0, 3)), (0, (4, 0)), (1, (0, r7)), (2, (0, r8)), (3, (4, 1)), (4, (0, o4))]) (stN := []) (hsN := [jzQ_16, (4, [(4, 13), (1, 1)], []), (8, [(4, 14), (4, 15)], []), jgh, jgh, jgh, jgh, jgh, jgh, (101, [], [0, r7, r8, 0, u85_4, u85_5]), (101, [], [k86_0, k86_1, k86_2, k86_3, k86_4, k86_5]), jgh, jgh, (101, [], [0, 0, 0, 0, 0, 0]), jgh, jgh]) (c1 := 0) (s1 := 0) (c2 := 0) (s2 := 0) (by exact rfl) ?_ (by omega) (by omega)
  refine jT_xiinc (x := 3) (z := 4) (LN := [(5, (0, 4)), (0, (4, 0)), (1, (0, r7)), (2, (0, r8)), (3, (4, 1)), (4, (0, o4))]) (pcN := 53) jIQ_161_50 rfl rfl (by decide) rfl rfl ?_
  refine jT_xgoto (pcN := 13) jIQ_161_53 rfl ?_
  refine jT_xiload (v := (0, 4)) (pcN := 15) jIQ_161_13 rfl rfl rfl ?_
  refine jT_xbipush (k := 6) (pcN := 17) jIQ_161_15 (by decide) rfl ?_
  refine jT_xicF (t := 56) (pcN := 20) jIQ_161_17 rfl (by decide +kernel) rfl rfl ?_
  refine jT_xaload_n (v := (4, 0)) (pcN := 21) jIQ_161_20 rfl rfl rfl ?_
  refine jT_xgetf (a := 0) (t := 1) (ci := 13) (fi := 7) (c := jzQ_16) (v := (4, 9)) (pcN := 24) jIQ_161_21 rfl rfl rfl rfl rfl rfl rfl ?_
  refine jT_xiload (v := (0, 4)) (pcN := 26) jIQ_161_24 rfl rfl rfl ?_
  refine jT_xiload (v := (0, 4)) (pcN := 28) jIQ_161_26 rfl rfl rfl ?_
  refine jT_xiconst (k := 1) (pcN := 29) jIQ_161_28 rfl ?_
  refine jT_xicT (pcN := 37) jIQ_161_29 rfl (by decide +kernel) rfl ?_
  refine jT_xiload (v := (0, 4)) (pcN := 39) jIQ_161_37 rfl rfl rfl ?_
  refine jT_xiconst (k := 2) (pcN := 40) jIQ_161_39 rfl ?_
  refine jT_xicT (pcN := 48) jIQ_161_40 rfl (by decide +kernel) rfl ?_
  refine jT_xlconst (z := 0) (pcN := 49) jIQ_161_48 rfl rfl ?_
  refine jT_adv 1 (pcN := 50) (LN := [(5, (0, 4)), (0, (4, 0)), (1, (0, r7)), (2, (0, r8)), (3, (4, 1)), (4, (0, o4))]) (stN := []) (hsN := [jzQ_16, (4, [(4, 13), (1, 1)], []), (8, [(4, 14), (4, 15)], []), jgh, jgh, jgh, jgh, jgh, jgh, (101, [], [0, r7, r8, 0, 0, u85_5]), (101, [], [k86_0, k86_1, k86_2, k86_3, k86_4, k86_5]), jgh, jgh, (101, [], [0, 0, 0, 0, 0, 0]), jgh, jgh]) (c1 := 0) (s1 := 0) (c2 := 0) (s2 := 0) (by exact rfl) ?_ (by omega) (by omega)
  refine jT_xiinc (x := 4) (z := 5) (LN := [(5, (0, 5)), (0, (4, 0)), (1, (0, r7)), (2, (0, r8)), (3, (4, 1)), (4, (0, o4))]) (pcN := 53) jIQ_161_50 rfl rfl (by decide) rfl rfl ?_
  refine jT_xgoto (pcN := 13) jIQ_161_53 rfl ?_
  refine jT_xiload (v := (0, 5)) (pcN := 15) jIQ_161_13 rfl rfl rfl ?_
  refine jT_xbipush (k := 6) (pcN := 17) jIQ_161_15 (by decide) rfl ?_
  refine jT_xicF (t := 56) (pcN := 20) jIQ_161_17 rfl (by decide +kernel) rfl rfl ?_
  refine jT_xaload_n (v := (4, 0)) (pcN := 21) jIQ_161_20 rfl rfl rfl ?_
  refine jT_xgetf (a := 0) (t := 1) (ci := 13) (fi := 7) (c := jzQ_16) (v := (4, 9)) (pcN := 24) jIQ_161_21 rfl rfl rfl rfl rfl rfl rfl ?_
  refine jT_xiload (v := (0, 5)) (pcN := 26) jIQ_161_24 rfl rfl rfl ?_
  refine jT_xiload (v := (0, 5)) (pcN := 28) jIQ_161_26 rfl rfl rfl ?_
  refine jT_xiconst (k := 1) (pcN := 29) jIQ_161_28 rfl ?_
  refine jT_xicT (pcN := 37) jIQ_161_29 rfl (by decide +kernel) rfl ?_
  refine jT_xiload (v := (0, 5)) (pcN := 39) jIQ_161_37 rfl rfl rfl ?_
  refine jT_xiconst (k := 2) (pcN := 40) jIQ_161_39 rfl ?_
  refine jT_xicT (pcN := 48) jIQ_161_40 rfl (by decide +kernel) rfl ?_
  refine jT_xlconst (z := 0) (pcN := 49) jIQ_161_48 rfl rfl ?_
  refine jT_adv 1 (pcN := 50) (LN := [(5, (0, 5)), (0, (4, 0)), (1, (0, r7)), (2, (0, r8)), (3, (4, 1)), (4, (0, o4))]) (stN := []) (hsN := [jzQ_16, (4, [(4, 13), (1, 1)], []), (8, [(4, 14), (4, 15)], []), jgh, jgh, jgh, jgh, jgh, jgh, (101, [], [0, r7, r8, 0, 0, 0]), (101, [], [k86_0, k86_1, k86_2, k86_3, k86_4, k86_5]), jgh, jgh, (101, [], [0, 0, 0, 0, 0, 0]), jgh, jgh]) (c1 := 0) (s1 := 0) (c2 := 0) (s2 := 0) (by exact rfl) ?_ (by omega) (by omega)
  refine jT_xiinc (x := 5) (z := 6) (LN := [(5, (0, 6)), (0, (4, 0)), (1, (0, r7)), (2, (0, r8)), (3, (4, 1)), (4, (0, o4))]) (pcN := 53) jIQ_161_50 rfl rfl (by decide) rfl rfl ?_
  refine jT_xgoto (pcN := 13) jIQ_161_53 rfl ?_
  refine jT_xiload (v := (0, 6)) (pcN := 15) jIQ_161_13 rfl rfl rfl ?_
  refine jT_xbipush (k := 6) (pcN := 17) jIQ_161_15 (by decide) rfl ?_
  refine jT_xicT (pcN := 56) jIQ_161_17 rfl (by decide +kernel) rfl ?_
  refine jT_xaload_n (v := (4, 0)) (pcN := 57) jIQ_161_56 rfl rfl rfl ?_
  refine jT_xgetf (a := 0) (t := 1) (ci := 13) (fi := 0) (c := jzQ_16) (v := (4, 2)) (pcN := 60) jIQ_161_57 rfl rfl rfl rfl rfl rfl rfl ?_
  refine jT_xaload_n (v := (4, 0)) (pcN := 61) jIQ_161_60 rfl rfl rfl ?_
  refine jT_xgetf (a := 0) (t := 1) (ci := 13) (fi := 7) (c := jzQ_16) (v := (4, 9)) (pcN := 64) jIQ_161_61 rfl rfl rfl rfl rfl rfl rfl ?_
  refine jT_xlconst (z := 1) (pcN := 65) jIQ_161_64 rfl rfl ?_
  refine jT_xlconst (z := 1) (pcN := 66) jIQ_161_65 rfl rfl ?_
  refine jT_callA [2, 9, 14, 15] (y := 45) (pcN := 69) (dC := 1) (bc1 := 0) (bc2 := 0) (c1 := 0) (c2 := 0) (as := [(4, 2), (4, 9), (1, 1), (1, 1)]) (asC := [(4, 0), (4, 1), (1, 1), (1, 1)]) (LN := [(5, (0, 6)), (0, (4, 0)), (1, (0, r7)), (2, (0, r8)), (3, (4, 1)), (4, (0, o4))]) (stN := []) (hsC := [(8, [(4, 2), (4, 3)], []), (101, [], [0, r7, r8, 0, 0, 0]), jgh, jgh]) (ex := []) (v := (1, (108917793695 * r7 + 159561683699 * r8) / 68719476736)) (st2 := [(1, (108917793695 * r7 + 159561683699 * r8) / 68719476736)]) (hs2 := [jzQ_16, (4, [(4, 13), (1, 1)], []), (8, [(4, 14), (4, 15)], []), jgh, jgh, jgh, jgh, jgh, jgh, (101, [], [0, r7, r8, 0, 0, 0]), (101, [], [k86_0, k86_1, k86_2, k86_3, k86_4, k86_5]), jgh, jgh, (101, [], [0, 0, 0, 0, 0, 0]), jgh, jgh]) (jQl_sp45_116 (d := 0) (by omega) (by omega)) (by rfl) (by rfl) (by rfl) (by rfl) ⟨rfl, rfl, rfl, rfl, trivial⟩ (by rfl) (by rfl) (by omega) (by show 16 ≤ 16; omega) (by omega) (by omega) rfl rfl ?_
  have hb_q1 : (-60) ≤ (108917793695 * r7 + 159561683699 * r8) / 68719476736 ∧ (108917793695 * r7 + 159561683699 * r8) / 68719476736 ≤ 60 := ⟨by omega, by omega⟩
  generalize hq_q1 : (108917793695 * r7 + 159561683699 * r8) / 68719476736 = q1 at hb_q1 g_1 g_2 ⊢
  refine jT_xlstore (v := (1, q1)) (LN := [(5, (1, q1)), (0, (4, 0)), (1, (0, r7)), (2, (0, r8)), (3, (4, 1)), (4, (0, o4))]) (pcN := 71) jIQ_161_69 rfl rfl rfl rfl ?_
  have g_3 : 0 ≤ (-68719476736) * q1 + 108917793694 * r7 + 159561683698 * r8 - 1 := by have := jcg (b := r7) (c := r8) (by omega) (by omega) (by omega); rw [hq_q1] at this; omega
  have g_4 : 0 ≤ (-68719476736) * q1 + 108917793694 * r7 + 159561683700 * r8 - 1 := by have := jcg (b := r7) (c := r8) (by omega) (by omega) (by omega); rw [hq_q1] at this; omega
  have g_5 : 0 ≤ (-68719476736) * q1 + 108917793696 * r7 + 159561683698 * r8 - 1 := by have := jcg (b := r7) (c := r8) (by omega) (by omega) (by omega); rw [hq_q1] at this; omega
  have g_6 : 0 ≤ (-68719476736) * q1 + 108917793696 * r7 + 159561683700 * r8 - 1 := by have := jcg (b := r7) (c := r8) (by omega) (by omega) (by omega); rw [hq_q1] at this; omega
  refine jT_xiload (v := (0, o4)) (pcN := 73) jIQ_161_71 rfl rfl rfl ?_
  refine jT_ifF (a := o4) (t := 107) (by rfl) (by rfl) (by rfl) (jw_idd (by omega) (by omega)) (by simp only [jcP] <;> omega) ?_
  refine jT_xiload_n (v := (0, r7)) (pcN := 77) jIQ_161_76 rfl rfl rfl ?_
  refine jT_xi2l (x := r7) (z := r7) (pcN := 78) jIQ_161_77 rfl (jw_idd (by omega) (by omega)) rfl ?_
  refine jT_xaload_n (v := (4, 0)) (pcN := 79) jIQ_161_78 rfl rfl rfl ?_
  refine jT_xgetf (a := 0) (t := 1) (ci := 13) (fi := 8) (c := jzQ_16) (v := (4, 10)) (pcN := 82) jIQ_161_79 rfl rfl rfl rfl rfl rfl rfl ?_
  refine jT_xiconst (k := 1) (pcN := 83) jIQ_161_82 rfl ?_
  refine jT_lald (x := k86_1) (a := 10) (j := 1) (fs := []) (X := [k86_0, k86_1, k86_2, k86_3, k86_4, k86_5]) jIQ_161_83 rfl rfl rfl rfl ?_
  refine jT_eq (LN := [(5, (1, q1)), (0, (4, 0)), (1, (0, r7)), (2, (0, r8)), (3, (4, 1)), (4, (0, o4))]) (stN := [(1, k86_1), (1, r7)]) (hsN := [jzQ_16, (4, [(4, 13), (1, 1)], []), (8, [(4, 14), (4, 15)], []), jgh, jgh, jgh, jgh, jgh, jgh, (101, [], [0, r7, r8, 0, 0, 0]), (101, [], [k86_0, k86_1, k86_2, k86_3, k86_4, k86_5]), jgh, jgh, (101, [], [0, 0, 0, 0, 0, 0]), jgh, jgh]) rfl rfl rfl ?_
  refine jT_xlmul (x := r7) (y := k86_1) (z := r7 * k86_1) (pcN := 85) jIQ_161_84 rfl rfl rfl ?_
  have hb_q2 := jmul_bs (x := r7) (y := k86_1) (m := 20) (n := 158) (by omega) (by omega) (by omega) (by omega)
  have hb_q2 : (-3160) ≤ r7 * k86_1 ∧ r7 * k86_1 ≤ 3160 := ⟨by omega, by omega⟩
  generalize hq_q2 : r7 * k86_1 = q2 at hb_q2 g_1 g_2 ⊢
  refine jT_xiload_n (v := (0, r8)) (pcN := 86) jIQ_161_85 rfl rfl rfl ?_
  refine jT_xi2l (x := r8) (z := r8) (pcN := 87) jIQ_161_86 rfl (jw_idd (by omega) (by omega)) rfl ?_
  refine jT_xaload_n (v := (4, 0)) (pcN := 88) jIQ_161_87 rfl rfl rfl ?_
  refine jT_xgetf (a := 0) (t := 1) (ci := 13) (fi := 8) (c := jzQ_16) (v := (4, 10)) (pcN := 91) jIQ_161_88 rfl rfl rfl rfl rfl rfl rfl ?_
  refine jT_xiconst (k := 2) (pcN := 92) jIQ_161_91 rfl ?_
  refine jT_lald (x := k86_2) (a := 10) (j := 2) (fs := []) (X := [k86_0, k86_1, k86_2, k86_3, k86_4, k86_5]) jIQ_161_92 rfl rfl rfl rfl ?_
  refine jT_eq (LN := [(5, (1, q1)), (0, (4, 0)), (1, (0, r7)), (2, (0, r8)), (3, (4, 1)), (4, (0, o4))]) (stN := [(1, k86_2), (1, r8), (1, q2)]) (hsN := [jzQ_16, (4, [(4, 13), (1, 1)], []), (8, [(4, 14), (4, 15)], []), jgh, jgh, jgh, jgh, jgh, jgh, (101, [], [0, r7, r8, 0, 0, 0]), (101, [], [k86_0, k86_1, k86_2, k86_3, k86_4, k86_5]), jgh, jgh, (101, [], [0, 0, 0, 0, 0, 0]), jgh, jgh]) rfl rfl rfl ?_
  refine jT_xlmul (x := r8) (y := k86_2) (z := r8 * k86_2) (pcN := 94) jIQ_161_93 rfl rfl rfl ?_
  have hb_q3 := jmul_bs (x := r8) (y := k86_2) (m := 10) (n := 232) (by omega) (by omega) (by omega) (by omega)
  have hb_q3 : (-2320) ≤ r8 * k86_2 ∧ r8 * k86_2 ≤ 2320 := ⟨by omega, by omega⟩
  generalize hq_q3 : r8 * k86_2 = q3 at hb_q3 g_1 g_2 ⊢
  refine jT_xladd (x := q2) (y := q3) (z := q2 + q3) (pcN := 95) jIQ_161_94 rfl (rfl) rfl ?_
  refine jT_xlload (v := (1, q1)) (pcN := 97) jIQ_161_95 rfl rfl rfl ?_
  refine jT_xiload (v := (0, o4)) (pcN := 99) jIQ_161_97 rfl rfl rfl ?_
  refine jT_xi2l (x := o4) (z := o4) (pcN := 100) jIQ_161_99 rfl (jw_idd (by omega) (by omega)) rfl ?_
  refine jT_xlmul (x := q1) (y := o4) (z := q1 * o4) (pcN := 101) jIQ_161_100 rfl rfl rfl ?_
  have hb_q4 := jmul_bs (x := q1) (y := o4) (m := 60) (n := 100) (by omega) (by omega) (by omega) (by omega)
  have hb_q4 : (-6000) ≤ q1 * o4 ∧ q1 * o4 ≤ 6000 := ⟨by omega, by omega⟩
  generalize hq_q4 : q1 * o4 = q4 at hb_q4 g_1 g_2 ⊢
  refine jT_lcmp (a := q2 + q3) (b := q4) (z := 0) (by rfl) (by rfl) (jwl_idd (by omega) (by omega)) (jwl_idd (by omega) (by omega)) (by rw [decide_eq_false (show ¬ ((q4 : Int) < q2 + q3) by omega), decide_eq_true (show (q2 + q3 : Int) = q4 by omega)]; rfl) ?_
  refine jT_xifT (pcN := 107) jIQ_161_102 rfl (by decide +kernel) rfl ?_
  refine jT_xaload_n (v := (4, 0)) (pcN := 108) jIQ_161_107 rfl rfl rfl ?_
  refine jT_xgetf (a := 0) (t := 1) (ci := 13) (fi := 7) (c := jzQ_16) (v := (4, 9)) (pcN := 111) jIQ_161_108 rfl rfl rfl rfl rfl rfl rfl ?_
  refine jT_xiconst (k := 0) (pcN := 112) jIQ_161_111 rfl ?_
  refine jT_xlload (v := (1, q1)) (pcN := 114) jIQ_161_112 rfl rfl rfl ?_
  refine jT_adv 2 (pcN := 116) (LN := [(5, (1, q1)), (0, (4, 0)), (1, (0, r7)), (2, (0, r8)), (3, (4, 1)), (4, (0, o4))]) (stN := []) (hsN := [jzQ_16, (4, [(4, 13), (1, 1)], []), (8, [(4, 14), (4, 15)], []), jgh, jgh, jgh, jgh, jgh, jgh, (101, [], [-q1, r7, r8, 0, 0, 0]), (101, [], [k86_0, k86_1, k86_2, k86_3, k86_4, k86_5]), jgh, jgh, (101, [], [0, 0, 0, 0, 0, 0]), jgh, jgh]) (c1 := 0) (s1 := 0) (c2 := 0) (s2 := 0) (by exact rfl) ?_ (by omega) (by omega)
  refine jT_xiconst (k := 0) (pcN := 117) jIQ_161_116 rfl ?_
  refine jT_xistore (v := (0, 0)) (LN := [(7, (0, 0)), (5, (1, q1)), (0, (4, 0)), (1, (0, r7)), (2, (0, r8)), (3, (4, 1)), (4, (0, o4))]) (pcN := 119) jIQ_161_117 rfl rfl rfl rfl ?_
  refine jT_xiload (v := (0, 0)) (pcN := 121) jIQ_161_119 rfl rfl rfl ?_
  refine jT_xbipush (k := 6) (pcN := 123) jIQ_161_121 (by decide) rfl ?_
  refine jT_xicF (t := 159) (pcN := 126) jIQ_161_123 rfl (by decide +kernel) rfl rfl ?_
  refine jT_xaload_n (v := (4, 0)) (pcN := 127) jIQ_161_126 rfl rfl rfl ?_
  refine jT_xgetf (a := 0) (t := 1) (ci := 13) (fi := 7) (c := jzQ_16) (v := (4, 9)) (pcN := 130) jIQ_161_127 rfl rfl rfl rfl rfl rfl rfl ?_
  refine jT_xiload (v := (0, 0)) (pcN := 132) jIQ_161_130 rfl rfl rfl ?_
  refine jT_xaload_n (v := (4, 1)) (pcN := 133) jIQ_161_132 rfl rfl rfl ?_
  refine jT_xgetf (a := 1) (t := 2) (ci := 4) (fi := 0) (c := (4, [(4, 13), (1, 1)], [])) (v := (4, 13)) (pcN := 136) jIQ_161_133 rfl rfl rfl rfl rfl rfl rfl ?_
  refine jT_xiload (v := (0, 0)) (pcN := 138) jIQ_161_136 rfl rfl rfl ?_
  refine jT_lald (x := 0) (a := 13) (j := 0) (fs := []) (X := [0, 0, 0, 0, 0, 0]) jIQ_161_138 rfl rfl rfl rfl ?_
  refine jT_eq (LN := [(7, (0, 0)), (5, (1, q1)), (0, (4, 0)), (1, (0, r7)), (2, (0, r8)), (3, (4, 1)), (4, (0, o4))]) (stN := [(1, 0), (0, 0), (4, 9)]) (hsN := [jzQ_16, (4, [(4, 13), (1, 1)], []), (8, [(4, 14), (4, 15)], []), jgh, jgh, jgh, jgh, jgh, jgh, (101, [], [-q1, r7, r8, 0, 0, 0]), (101, [], [k86_0, k86_1, k86_2, k86_3, k86_4, k86_5]), jgh, jgh, (101, [], [0, 0, 0, 0, 0, 0]), jgh, jgh]) rfl rfl rfl ?_
  refine jT_xaload_n (v := (4, 0)) (pcN := 140) jIQ_161_139 rfl rfl rfl ?_
  refine jT_xgetf (a := 0) (t := 1) (ci := 13) (fi := 7) (c := jzQ_16) (v := (4, 9)) (pcN := 143) jIQ_161_140 rfl rfl rfl rfl rfl rfl rfl ?_
  refine jT_xiload (v := (0, 0)) (pcN := 145) jIQ_161_143 rfl rfl rfl ?_
  refine jT_lald (x := -q1) (a := 9) (j := 0) (fs := []) (X := [-q1, r7, r8, 0, 0, 0]) jIQ_161_145 rfl rfl rfl rfl ?_
  refine jT_eq (LN := [(7, (0, 0)), (5, (1, q1)), (0, (4, 0)), (1, (0, r7)), (2, (0, r8)), (3, (4, 1)), (4, (0, o4))]) (stN := [(1, -q1), (1, 0), (0, 0), (4, 9)]) (hsN := [jzQ_16, (4, [(4, 13), (1, 1)], []), (8, [(4, 14), (4, 15)], []), jgh, jgh, jgh, jgh, jgh, jgh, (101, [], [-q1, r7, r8, 0, 0, 0]), (101, [], [k86_0, k86_1, k86_2, k86_3, k86_4, k86_5]), jgh, jgh, (101, [], [0, 0, 0, 0, 0, 0]), jgh, jgh]) rfl rfl rfl ?_
  refine jT_xaload_n (v := (4, 1)) (pcN := 147) jIQ_161_146 rfl rfl rfl ?_
  refine jT_xgetf (a := 1) (t := 2) (ci := 4) (fi := 1) (c := (4, [(4, 13), (1, 1)], [])) (v := (1, 1)) (pcN := 150) jIQ_161_147 rfl rfl rfl rfl rfl rfl rfl ?_
  refine jT_xlmul (x := -q1) (y := 1) (z := -q1) (pcN := 151) jIQ_161_150 rfl (by omega) rfl ?_
  refine jT_xlsub (x := 0) (y := -q1) (z := q1) (pcN := 152) jIQ_161_151 rfl (by omega) rfl ?_
  refine jT_adv 1 (pcN := 153) (LN := [(7, (0, 0)), (5, (1, q1)), (0, (4, 0)), (1, (0, r7)), (2, (0, r8)), (3, (4, 1)), (4, (0, o4))]) (stN := []) (hsN := [jzQ_16, (4, [(4, 13), (1, 1)], []), (8, [(4, 14), (4, 15)], []), jgh, jgh, jgh, jgh, jgh, jgh, (101, [], [q1, r7, r8, 0, 0, 0]), (101, [], [k86_0, k86_1, k86_2, k86_3, k86_4, k86_5]), jgh, jgh, (101, [], [0, 0, 0, 0, 0, 0]), jgh, jgh]) (c1 := 0) (s1 := 0) (c2 := 0) (s2 := 0) (by exact rfl) ?_ (by omega) (by omega)
  refine jT_xiinc (x := 0) (z := 1) (LN := [(7, (0, 1)), (5, (1, q1)), (0, (4, 0)), (1, (0, r7)), (2, (0, r8)), (3, (4, 1)), (4, (0, o4))]) (pcN := 156) jIQ_161_153 rfl rfl (by decide) rfl rfl ?_
  refine jT_xgoto (pcN := 119) jIQ_161_156 rfl ?_
  refine jT_xiload (v := (0, 1)) (pcN := 121) jIQ_161_119 rfl rfl rfl ?_
  refine jT_xbipush (k := 6) (pcN := 123) jIQ_161_121 (by decide) rfl ?_
  refine jT_xicF (t := 159) (pcN := 126) jIQ_161_123 rfl (by decide +kernel) rfl rfl ?_
  refine jT_xaload_n (v := (4, 0)) (pcN := 127) jIQ_161_126 rfl rfl rfl ?_
  refine jT_xgetf (a := 0) (t := 1) (ci := 13) (fi := 7) (c := jzQ_16) (v := (4, 9)) (pcN := 130) jIQ_161_127 rfl rfl rfl rfl rfl rfl rfl ?_
  refine jT_xiload (v := (0, 1)) (pcN := 132) jIQ_161_130 rfl rfl rfl ?_
  refine jT_xaload_n (v := (4, 1)) (pcN := 133) jIQ_161_132 rfl rfl rfl ?_
  refine jT_xgetf (a := 1) (t := 2) (ci := 4) (fi := 0) (c := (4, [(4, 13), (1, 1)], [])) (v := (4, 13)) (pcN := 136) jIQ_161_133 rfl rfl rfl rfl rfl rfl rfl ?_
  refine jT_xiload (v := (0, 1)) (pcN := 138) jIQ_161_136 rfl rfl rfl ?_
  refine jT_lald (x := 0) (a := 13) (j := 1) (fs := []) (X := [0, 0, 0, 0, 0, 0]) jIQ_161_138 rfl rfl rfl rfl ?_
  refine jT_eq (LN := [(7, (0, 1)), (5, (1, q1)), (0, (4, 0)), (1, (0, r7)), (2, (0, r8)), (3, (4, 1)), (4, (0, o4))]) (stN := [(1, 0), (0, 1), (4, 9)]) (hsN := [jzQ_16, (4, [(4, 13), (1, 1)], []), (8, [(4, 14), (4, 15)], []), jgh, jgh, jgh, jgh, jgh, jgh, (101, [], [q1, r7, r8, 0, 0, 0]), (101, [], [k86_0, k86_1, k86_2, k86_3, k86_4, k86_5]), jgh, jgh, (101, [], [0, 0, 0, 0, 0, 0]), jgh, jgh]) rfl rfl rfl ?_
  refine jT_xaload_n (v := (4, 0)) (pcN := 140) jIQ_161_139 rfl rfl rfl ?_
  refine jT_xgetf (a := 0) (t := 1) (ci := 13) (fi := 7) (c := jzQ_16) (v := (4, 9)) (pcN := 143) jIQ_161_140 rfl rfl rfl rfl rfl rfl rfl ?_
  refine jT_xiload (v := (0, 1)) (pcN := 145) jIQ_161_143 rfl rfl rfl ?_
  refine jT_lald (x := r7) (a := 9) (j := 1) (fs := []) (X := [q1, r7, r8, 0, 0, 0]) jIQ_161_145 rfl rfl rfl rfl ?_
  refine jT_eq (LN := [(7, (0, 1)), (5, (1, q1)), (0, (4, 0)), (1, (0, r7)), (2, (0, r8)), (3, (4, 1)), (4, (0, o4))]) (stN := [(1, r7), (1, 0), (0, 1), (4, 9)]) (hsN := [jzQ_16, (4, [(4, 13), (1, 1)], []), (8, [(4, 14), (4, 15)], []), jgh, jgh, jgh, jgh, jgh, jgh, (101, [], [q1, r7, r8, 0, 0, 0]), (101, [], [k86_0, k86_1, k86_2, k86_3, k86_4, k86_5]), jgh, jgh, (101, [], [0, 0, 0, 0, 0, 0]), jgh, jgh]) rfl rfl rfl ?_
  refine jT_xaload_n (v := (4, 1)) (pcN := 147) jIQ_161_146 rfl rfl rfl ?_
  refine jT_xgetf (a := 1) (t := 2) (ci := 4) (fi := 1) (c := (4, [(4, 13), (1, 1)], [])) (v := (1, 1)) (pcN := 150) jIQ_161_147 rfl rfl rfl rfl rfl rfl rfl ?_
  refine jT_xlmul (x := r7) (y := 1) (z := r7) (pcN := 151) jIQ_161_150 rfl (by omega) rfl ?_
  refine jT_xlsub (x := 0) (y := r7) (z := -r7) (pcN := 152) jIQ_161_151 rfl (by omega) rfl ?_
  refine jT_adv 1 (pcN := 153) (LN := [(7, (0, 1)), (5, (1, q1)), (0, (4, 0)), (1, (0, r7)), (2, (0, r8)), (3, (4, 1)), (4, (0, o4))]) (stN := []) (hsN := [jzQ_16, (4, [(4, 13), (1, 1)], []), (8, [(4, 14), (4, 15)], []), jgh, jgh, jgh, jgh, jgh, jgh, (101, [], [q1, -r7, r8, 0, 0, 0]), (101, [], [k86_0, k86_1, k86_2, k86_3, k86_4, k86_5]), jgh, jgh, (101, [], [0, 0, 0, 0, 0, 0]), jgh, jgh]) (c1 := 0) (s1 := 0) (c2 := 0) (s2 := 0) (by exact rfl) ?_ (by omega) (by omega)
  refine jT_xiinc (x := 1) (z := 2) (LN := [(7, (0, 2)), (5, (1, q1)), (0, (4, 0)), (1, (0, r7)), (2, (0, r8)), (3, (4, 1)), (4, (0, o4))]) (pcN := 156) jIQ_161_153 rfl rfl (by decide) rfl rfl ?_
  refine jT_xgoto (pcN := 119) jIQ_161_156 rfl ?_
  refine jT_xiload (v := (0, 2)) (pcN := 121) jIQ_161_119 rfl rfl rfl ?_
  refine jT_xbipush (k := 6) (pcN := 123) jIQ_161_121 (by decide) rfl ?_
  refine jT_xicF (t := 159) (pcN := 126) jIQ_161_123 rfl (by decide +kernel) rfl rfl ?_
  refine jT_xaload_n (v := (4, 0)) (pcN := 127) jIQ_161_126 rfl rfl rfl ?_
  refine jT_xgetf (a := 0) (t := 1) (ci := 13) (fi := 7) (c := jzQ_16) (v := (4, 9)) (pcN := 130) jIQ_161_127 rfl rfl rfl rfl rfl rfl rfl ?_
  refine jT_xiload (v := (0, 2)) (pcN := 132) jIQ_161_130 rfl rfl rfl ?_
  refine jT_xaload_n (v := (4, 1)) (pcN := 133) jIQ_161_132 rfl rfl rfl ?_
  refine jT_xgetf (a := 1) (t := 2) (ci := 4) (fi := 0) (c := (4, [(4, 13), (1, 1)], [])) (v := (4, 13)) (pcN := 136) jIQ_161_133 rfl rfl rfl rfl rfl rfl rfl ?_
  refine jT_xiload (v := (0, 2)) (pcN := 138) jIQ_161_136 rfl rfl rfl ?_
  refine jT_lald (x := 0) (a := 13) (j := 2) (fs := []) (X := [0, 0, 0, 0, 0, 0]) jIQ_161_138 rfl rfl rfl rfl ?_
  refine jT_eq (LN := [(7, (0, 2)), (5, (1, q1)), (0, (4, 0)), (1, (0, r7)), (2, (0, r8)), (3, (4, 1)), (4, (0, o4))]) (stN := [(1, 0), (0, 2), (4, 9)]) (hsN := [jzQ_16, (4, [(4, 13), (1, 1)], []), (8, [(4, 14), (4, 15)], []), jgh, jgh, jgh, jgh, jgh, jgh, (101, [], [q1, -r7, r8, 0, 0, 0]), (101, [], [k86_0, k86_1, k86_2, k86_3, k86_4, k86_5]), jgh, jgh, (101, [], [0, 0, 0, 0, 0, 0]), jgh, jgh]) rfl rfl rfl ?_
  refine jT_xaload_n (v := (4, 0)) (pcN := 140) jIQ_161_139 rfl rfl rfl ?_
  refine jT_xgetf (a := 0) (t := 1) (ci := 13) (fi := 7) (c := jzQ_16) (v := (4, 9)) (pcN := 143) jIQ_161_140 rfl rfl rfl rfl rfl rfl rfl ?_
  refine jT_xiload (v := (0, 2)) (pcN := 145) jIQ_161_143 rfl rfl rfl ?_
  refine jT_lald (x := r8) (a := 9) (j := 2) (fs := []) (X := [q1, -r7, r8, 0, 0, 0]) jIQ_161_145 rfl rfl rfl rfl ?_
  refine jT_eq (LN := [(7, (0, 2)), (5, (1, q1)), (0, (4, 0)), (1, (0, r7)), (2, (0, r8)), (3, (4, 1)), (4, (0, o4))]) (stN := [(1, r8), (1, 0), (0, 2), (4, 9)]) (hsN := [jzQ_16, (4, [(4, 13), (1, 1)], []), (8, [(4, 14), (4, 15)], []), jgh, jgh, jgh, jgh, jgh, jgh, (101, [], [q1, -r7, r8, 0, 0, 0]), (101, [], [k86_0, k86_1, k86_2, k86_3, k86_4, k86_5]), jgh, jgh, (101, [], [0, 0, 0, 0, 0, 0]), jgh, jgh]) rfl rfl rfl ?_
  refine jT_xaload_n (v := (4, 1)) (pcN := 147) jIQ_161_146 rfl rfl rfl ?_
  refine jT_xgetf (a := 1) (t := 2) (ci := 4) (fi := 1) (c := (4, [(4, 13), (1, 1)], [])) (v := (1, 1)) (pcN := 150) jIQ_161_147 rfl rfl rfl rfl rfl rfl rfl ?_
  refine jT_xlmul (x := r8) (y := 1) (z := r8) (pcN := 151) jIQ_161_150 rfl (by omega) rfl ?_
  refine jT_xlsub (x := 0) (y := r8) (z := -r8) (pcN := 152) jIQ_161_151 rfl (by omega) rfl ?_
  refine jT_adv 1 (pcN := 153) (LN := [(7, (0, 2)), (5, (1, q1)), (0, (4, 0)), (1, (0, r7)), (2, (0, r8)), (3, (4, 1)), (4, (0, o4))]) (stN := []) (hsN := [jzQ_16, (4, [(4, 13), (1, 1)], []), (8, [(4, 14), (4, 15)], []), jgh, jgh, jgh, jgh, jgh, jgh, (101, [], [q1, -r7, -r8, 0, 0, 0]), (101, [], [k86_0, k86_1, k86_2, k86_3, k86_4, k86_5]), jgh, jgh, (101, [], [0, 0, 0, 0, 0, 0]), jgh, jgh]) (c1 := 0) (s1 := 0) (c2 := 0) (s2 := 0) (by exact rfl) ?_ (by omega) (by omega)
  refine jT_xiinc (x := 2) (z := 3) (LN := [(7, (0, 3)), (5, (1, q1)), (0, (4, 0)), (1, (0, r7)), (2, (0, r8)), (3, (4, 1)), (4, (0, o4))]) (pcN := 156) jIQ_161_153 rfl rfl (by decide) rfl rfl ?_
  refine jT_xgoto (pcN := 119) jIQ_161_156 rfl ?_
  refine jT_xiload (v := (0, 3)) (pcN := 121) jIQ_161_119 rfl rfl rfl ?_
  refine jT_xbipush (k := 6) (pcN := 123) jIQ_161_121 (by decide) rfl ?_
  refine jT_xicF (t := 159) (pcN := 126) jIQ_161_123 rfl (by decide +kernel) rfl rfl ?_
  refine jT_xaload_n (v := (4, 0)) (pcN := 127) jIQ_161_126 rfl rfl rfl ?_
  refine jT_xgetf (a := 0) (t := 1) (ci := 13) (fi := 7) (c := jzQ_16) (v := (4, 9)) (pcN := 130) jIQ_161_127 rfl rfl rfl rfl rfl rfl rfl ?_
  refine jT_xiload (v := (0, 3)) (pcN := 132) jIQ_161_130 rfl rfl rfl ?_
  refine jT_xaload_n (v := (4, 1)) (pcN := 133) jIQ_161_132 rfl rfl rfl ?_
  refine jT_xgetf (a := 1) (t := 2) (ci := 4) (fi := 0) (c := (4, [(4, 13), (1, 1)], [])) (v := (4, 13)) (pcN := 136) jIQ_161_133 rfl rfl rfl rfl rfl rfl rfl ?_
  refine jT_xiload (v := (0, 3)) (pcN := 138) jIQ_161_136 rfl rfl rfl ?_
  refine jT_lald (x := 0) (a := 13) (j := 3) (fs := []) (X := [0, 0, 0, 0, 0, 0]) jIQ_161_138 rfl rfl rfl rfl ?_
  refine jT_eq (LN := [(7, (0, 3)), (5, (1, q1)), (0, (4, 0)), (1, (0, r7)), (2, (0, r8)), (3, (4, 1)), (4, (0, o4))]) (stN := [(1, 0), (0, 3), (4, 9)]) (hsN := [jzQ_16, (4, [(4, 13), (1, 1)], []), (8, [(4, 14), (4, 15)], []), jgh, jgh, jgh, jgh, jgh, jgh, (101, [], [q1, -r7, -r8, 0, 0, 0]), (101, [], [k86_0, k86_1, k86_2, k86_3, k86_4, k86_5]), jgh, jgh, (101, [], [0, 0, 0, 0, 0, 0]), jgh, jgh]) rfl rfl rfl ?_
  refine jT_xaload_n (v := (4, 0)) (pcN := 140) jIQ_161_139 rfl rfl rfl ?_
  refine jT_xgetf (a := 0) (t := 1) (ci := 13) (fi := 7) (c := jzQ_16) (v := (4, 9)) (pcN := 143) jIQ_161_140 rfl rfl rfl rfl rfl rfl rfl ?_
  refine jT_xiload (v := (0, 3)) (pcN := 145) jIQ_161_143 rfl rfl rfl ?_
  refine jT_lald (x := 0) (a := 9) (j := 3) (fs := []) (X := [q1, -r7, -r8, 0, 0, 0]) jIQ_161_145 rfl rfl rfl rfl ?_
  refine jT_eq (LN := [(7, (0, 3)), (5, (1, q1)), (0, (4, 0)), (1, (0, r7)), (2, (0, r8)), (3, (4, 1)), (4, (0, o4))]) (stN := [(1, 0), (1, 0), (0, 3), (4, 9)]) (hsN := [jzQ_16, (4, [(4, 13), (1, 1)], []), (8, [(4, 14), (4, 15)], []), jgh, jgh, jgh, jgh, jgh, jgh, (101, [], [q1, -r7, -r8, 0, 0, 0]), (101, [], [k86_0, k86_1, k86_2, k86_3, k86_4, k86_5]), jgh, jgh, (101, [], [0, 0, 0, 0, 0, 0]), jgh, jgh]) rfl rfl rfl ?_
  refine jT_xaload_n (v := (4, 1)) (pcN := 147) jIQ_161_146 rfl rfl rfl ?_
  refine jT_xgetf (a := 1) (t := 2) (ci := 4) (fi := 1) (c := (4, [(4, 13), (1, 1)], [])) (v := (1, 1)) (pcN := 150) jIQ_161_147 rfl rfl rfl rfl rfl rfl rfl ?_
  refine jT_xlmul (x := 0) (y := 1) (z := 0) (pcN := 151) jIQ_161_150 rfl (by decide) rfl ?_
  refine jT_xlsub (x := 0) (y := 0) (z := 0) (pcN := 152) jIQ_161_151 rfl (by decide) rfl ?_
  refine jT_adv 1 (pcN := 153) (LN := [(7, (0, 3)), (5, (1, q1)), (0, (4, 0)), (1, (0, r7)), (2, (0, r8)), (3, (4, 1)), (4, (0, o4))]) (stN := []) (hsN := [jzQ_16, (4, [(4, 13), (1, 1)], []), (8, [(4, 14), (4, 15)], []), jgh, jgh, jgh, jgh, jgh, jgh, (101, [], [q1, -r7, -r8, 0, 0, 0]), (101, [], [k86_0, k86_1, k86_2, k86_3, k86_4, k86_5]), jgh, jgh, (101, [], [0, 0, 0, 0, 0, 0]), jgh, jgh]) (c1 := 0) (s1 := 0) (c2 := 0) (s2 := 0) (by exact rfl) ?_ (by omega) (by omega)
  refine jT_xiinc (x := 3) (z := 4) (LN := [(7, (0, 4)), (5, (1, q1)), (0, (4, 0)), (1, (0, r7)), (2, (0, r8)), (3, (4, 1)), (4, (0, o4))]) (pcN := 156) jIQ_161_153 rfl rfl (by decide) rfl rfl ?_
  refine jT_xgoto (pcN := 119) jIQ_161_156 rfl ?_
  refine jT_xiload (v := (0, 4)) (pcN := 121) jIQ_161_119 rfl rfl rfl ?_
  refine jT_xbipush (k := 6) (pcN := 123) jIQ_161_121 (by decide) rfl ?_
  refine jT_xicF (t := 159) (pcN := 126) jIQ_161_123 rfl (by decide +kernel) rfl rfl ?_
  refine jT_xaload_n (v := (4, 0)) (pcN := 127) jIQ_161_126 rfl rfl rfl ?_
  refine jT_xgetf (a := 0) (t := 1) (ci := 13) (fi := 7) (c := jzQ_16) (v := (4, 9)) (pcN := 130) jIQ_161_127 rfl rfl rfl rfl rfl rfl rfl ?_
  refine jT_xiload (v := (0, 4)) (pcN := 132) jIQ_161_130 rfl rfl rfl ?_
  refine jT_xaload_n (v := (4, 1)) (pcN := 133) jIQ_161_132 rfl rfl rfl ?_
  refine jT_xgetf (a := 1) (t := 2) (ci := 4) (fi := 0) (c := (4, [(4, 13), (1, 1)], [])) (v := (4, 13)) (pcN := 136) jIQ_161_133 rfl rfl rfl rfl rfl rfl rfl ?_
  refine jT_xiload (v := (0, 4)) (pcN := 138) jIQ_161_136 rfl rfl rfl ?_
  refine jT_lald (x := 0) (a := 13) (j := 4) (fs := []) (X := [0, 0, 0, 0, 0, 0]) jIQ_161_138 rfl rfl rfl rfl ?_
  refine jT_eq (LN := [(7, (0, 4)), (5, (1, q1)), (0, (4, 0)), (1, (0, r7)), (2, (0, r8)), (3, (4, 1)), (4, (0, o4))]) (stN := [(1, 0), (0, 4), (4, 9)]) (hsN := [jzQ_16, (4, [(4, 13), (1, 1)], []), (8, [(4, 14), (4, 15)], []), jgh, jgh, jgh, jgh, jgh, jgh, (101, [], [q1, -r7, -r8, 0, 0, 0]), (101, [], [k86_0, k86_1, k86_2, k86_3, k86_4, k86_5]), jgh, jgh, (101, [], [0, 0, 0, 0, 0, 0]), jgh, jgh]) rfl rfl rfl ?_
  refine jT_xaload_n (v := (4, 0)) (pcN := 140) jIQ_161_139 rfl rfl rfl ?_
  refine jT_xgetf (a := 0) (t := 1) (ci := 13) (fi := 7) (c := jzQ_16) (v := (4, 9)) (pcN := 143) jIQ_161_140 rfl rfl rfl rfl rfl rfl rfl ?_
  refine jT_xiload (v := (0, 4)) (pcN := 145) jIQ_161_143 rfl rfl rfl ?_
  refine jT_lald (x := 0) (a := 9) (j := 4) (fs := []) (X := [q1, -r7, -r8, 0, 0, 0]) jIQ_161_145 rfl rfl rfl rfl ?_
  refine jT_eq (LN := [(7, (0, 4)), (5, (1, q1)), (0, (4, 0)), (1, (0, r7)), (2, (0, r8)), (3, (4, 1)), (4, (0, o4))]) (stN := [(1, 0), (1, 0), (0, 4), (4, 9)]) (hsN := [jzQ_16, (4, [(4, 13), (1, 1)], []), (8, [(4, 14), (4, 15)], []), jgh, jgh, jgh, jgh, jgh, jgh, (101, [], [q1, -r7, -r8, 0, 0, 0]), (101, [], [k86_0, k86_1, k86_2, k86_3, k86_4, k86_5]), jgh, jgh, (101, [], [0, 0, 0, 0, 0, 0]), jgh, jgh]) rfl rfl rfl ?_
  refine jT_xaload_n (v := (4, 1)) (pcN := 147) jIQ_161_146 rfl rfl rfl ?_
  refine jT_xgetf (a := 1) (t := 2) (ci := 4) (fi := 1) (c := (4, [(4, 13), (1, 1)], [])) (v := (1, 1)) (pcN := 150) jIQ_161_147 rfl rfl rfl rfl rfl rfl rfl ?_
  refine jT_xlmul (x := 0) (y := 1) (z := 0) (pcN := 151) jIQ_161_150 rfl (by decide) rfl ?_
  refine jT_xlsub (x := 0) (y := 0) (z := 0) (pcN := 152) jIQ_161_151 rfl (by decide) rfl ?_
  refine jT_adv 1 (pcN := 153) (LN := [(7, (0, 4)), (5, (1, q1)), (0, (4, 0)), (1, (0, r7)), (2, (0, r8)), (3, (4, 1)), (4, (0, o4))]) (stN := []) (hsN := [jzQ_16, (4, [(4, 13), (1, 1)], []), (8, [(4, 14), (4, 15)], []), jgh, jgh, jgh, jgh, jgh, jgh, (101, [], [q1, -r7, -r8, 0, 0, 0]), (101, [], [k86_0, k86_1, k86_2, k86_3, k86_4, k86_5]), jgh, jgh, (101, [], [0, 0, 0, 0, 0, 0]), jgh, jgh]) (c1 := 0) (s1 := 0) (c2 := 0) (s2 := 0) (by exact rfl) ?_ (by omega) (by omega)
  refine jT_xiinc (x := 4) (z := 5) (LN := [(7, (0, 5)), (5, (1, q1)), (0, (4, 0)), (1, (0, r7)), (2, (0, r8)), (3, (4, 1)), (4, (0, o4))]) (pcN := 156) jIQ_161_153 rfl rfl (by decide) rfl rfl ?_
  refine jT_xgoto (pcN := 119) jIQ_161_156 rfl ?_
  refine jT_xiload (v := (0, 5)) (pcN := 121) jIQ_161_119 rfl rfl rfl ?_
  refine jT_xbipush (k := 6) (pcN := 123) jIQ_161_121 (by decide) rfl ?_
  refine jT_xicF (t := 159) (pcN := 126) jIQ_161_123 rfl (by decide +kernel) rfl rfl ?_
  refine jT_xaload_n (v := (4, 0)) (pcN := 127) jIQ_161_126 rfl rfl rfl ?_
  refine jT_xgetf (a := 0) (t := 1) (ci := 13) (fi := 7) (c := jzQ_16) (v := (4, 9)) (pcN := 130) jIQ_161_127 rfl rfl rfl rfl rfl rfl rfl ?_
  refine jT_xiload (v := (0, 5)) (pcN := 132) jIQ_161_130 rfl rfl rfl ?_
  refine jT_xaload_n (v := (4, 1)) (pcN := 133) jIQ_161_132 rfl rfl rfl ?_
  refine jT_xgetf (a := 1) (t := 2) (ci := 4) (fi := 0) (c := (4, [(4, 13), (1, 1)], [])) (v := (4, 13)) (pcN := 136) jIQ_161_133 rfl rfl rfl rfl rfl rfl rfl ?_
  refine jT_xiload (v := (0, 5)) (pcN := 138) jIQ_161_136 rfl rfl rfl ?_
  refine jT_lald (x := 0) (a := 13) (j := 5) (fs := []) (X := [0, 0, 0, 0, 0, 0]) jIQ_161_138 rfl rfl rfl rfl ?_
  refine jT_eq (LN := [(7, (0, 5)), (5, (1, q1)), (0, (4, 0)), (1, (0, r7)), (2, (0, r8)), (3, (4, 1)), (4, (0, o4))]) (stN := [(1, 0), (0, 5), (4, 9)]) (hsN := [jzQ_16, (4, [(4, 13), (1, 1)], []), (8, [(4, 14), (4, 15)], []), jgh, jgh, jgh, jgh, jgh, jgh, (101, [], [q1, -r7, -r8, 0, 0, 0]), (101, [], [k86_0, k86_1, k86_2, k86_3, k86_4, k86_5]), jgh, jgh, (101, [], [0, 0, 0, 0, 0, 0]), jgh, jgh]) rfl rfl rfl ?_
  refine jT_xaload_n (v := (4, 0)) (pcN := 140) jIQ_161_139 rfl rfl rfl ?_
  refine jT_xgetf (a := 0) (t := 1) (ci := 13) (fi := 7) (c := jzQ_16) (v := (4, 9)) (pcN := 143) jIQ_161_140 rfl rfl rfl rfl rfl rfl rfl ?_
  refine jT_xiload (v := (0, 5)) (pcN := 145) jIQ_161_143 rfl rfl rfl ?_
  refine jT_lald (x := 0) (a := 9) (j := 5) (fs := []) (X := [q1, -r7, -r8, 0, 0, 0]) jIQ_161_145 rfl rfl rfl rfl ?_
  refine jT_eq (LN := [(7, (0, 5)), (5, (1, q1)), (0, (4, 0)), (1, (0, r7)), (2, (0, r8)), (3, (4, 1)), (4, (0, o4))]) (stN := [(1, 0), (1, 0), (0, 5), (4, 9)]) (hsN := [jzQ_16, (4, [(4, 13), (1, 1)], []), (8, [(4, 14), (4, 15)], []), jgh, jgh, jgh, jgh, jgh, jgh, (101, [], [q1, -r7, -r8, 0, 0, 0]), (101, [], [k86_0, k86_1, k86_2, k86_3, k86_4, k86_5]), jgh, jgh, (101, [], [0, 0, 0, 0, 0, 0]), jgh, jgh]) rfl rfl rfl ?_
  refine jT_xaload_n (v := (4, 1)) (pcN := 147) jIQ_161_146 rfl rfl rfl ?_
  refine jT_xgetf (a := 1) (t := 2) (ci := 4) (fi := 1) (c := (4, [(4, 13), (1, 1)], [])) (v := (1, 1)) (pcN := 150) jIQ_161_147 rfl rfl rfl rfl rfl rfl rfl ?_
  refine jT_xlmul (x := 0) (y := 1) (z := 0) (pcN := 151) jIQ_161_150 rfl (by decide) rfl ?_
  refine jT_xlsub (x := 0) (y := 0) (z := 0) (pcN := 152) jIQ_161_151 rfl (by decide) rfl ?_
  refine jT_adv 1 (pcN := 153) (LN := [(7, (0, 5)), (5, (1, q1)), (0, (4, 0)), (1, (0, r7)), (2, (0, r8)), (3, (4, 1)), (4, (0, o4))]) (stN := []) (hsN := [jzQ_16, (4, [(4, 13), (1, 1)], []), (8, [(4, 14), (4, 15)], []), jgh, jgh, jgh, jgh, jgh, jgh, (101, [], [q1, -r7, -r8, 0, 0, 0]), (101, [], [k86_0, k86_1, k86_2, k86_3, k86_4, k86_5]), jgh, jgh, (101, [], [0, 0, 0, 0, 0, 0]), jgh, jgh]) (c1 := 0) (s1 := 0) (c2 := 0) (s2 := 0) (by exact rfl) ?_ (by omega) (by omega)
  refine jT_xiinc (x := 5) (z := 6) (LN := [(7, (0, 6)), (5, (1, q1)), (0, (4, 0)), (1, (0, r7)), (2, (0, r8)), (3, (4, 1)), (4, (0, o4))]) (pcN := 156) jIQ_161_153 rfl rfl (by decide) rfl rfl ?_
  refine jT_xgoto (pcN := 119) jIQ_161_156 rfl ?_
  refine jT_xiload (v := (0, 6)) (pcN := 121) jIQ_161_119 rfl rfl rfl ?_
  refine jT_xbipush (k := 6) (pcN := 123) jIQ_161_121 (by decide) rfl ?_
  refine jT_xicT (pcN := 159) jIQ_161_123 rfl (by decide +kernel) rfl ?_
  refine jT_xaload_n (v := (4, 0)) (pcN := 160) jIQ_161_159 rfl rfl rfl ?_
  refine jT_xgetf (a := 0) (t := 1) (ci := 13) (fi := 0) (c := jzQ_16) (v := (4, 2)) (pcN := 163) jIQ_161_160 rfl rfl rfl rfl rfl rfl rfl ?_
  refine jT_xaload_n (v := (4, 0)) (pcN := 164) jIQ_161_163 rfl rfl rfl ?_
  refine jT_xgetf (a := 0) (t := 1) (ci := 13) (fi := 7) (c := jzQ_16) (v := (4, 9)) (pcN := 167) jIQ_161_164 rfl rfl rfl rfl rfl rfl rfl ?_
  refine jT_callA [2, 9, 14, 15] (y := 38) (pcN := 170) (dC := 1) (bc1 := 0) (bc2 := 0) (c1 := 0) (c2 := 0) (as := [(4, 2), (4, 9)]) (asC := [(4, 0), (4, 1)]) (LN := [(7, (0, 6)), (5, (1, q1)), (0, (4, 0)), (1, (0, r7)), (2, (0, r8)), (3, (4, 1)), (4, (0, o4))]) (stN := []) (hsC := [(8, [(4, 2), (4, 3)], []), (101, [], [q1, -r7, -r8, 0, 0, 0]), jgh, jgh]) (ex := []) (v := (0, (-1))) (st2 := [(0, (-1))]) (hs2 := [jzQ_16, (4, [(4, 13), (1, 1)], []), (8, [(4, 14), (4, 15)], []), jgh, jgh, jgh, jgh, jgh, jgh, (101, [], [q1, -r7, -r8, 0, 0, 0]), (101, [], [k86_0, k86_1, k86_2, k86_3, k86_4, k86_5]), jgh, jgh, (101, [], [0, 0, 0, 0, 0, 0]), jgh, jgh]) (jQl_sp38_117 (d := 0) (by omega) (by omega) (by omega) (by omega) (by omega) (by omega) (by omega)) (by rfl) (by rfl) (by rfl) (by rfl) ⟨rfl, rfl, rfl, rfl, trivial⟩ (by rfl) (by rfl) (by omega) (by show 16 ≤ 16; omega) (by omega) (by omega) rfl rfl ?_
  refine jT_xifT (pcN := 177) jIQ_161_170 rfl (by decide +kernel) rfl ?_
  refine jT_xiconst (k := 0) (pcN := 178) jIQ_161_177 rfl ?_
  subst hq_q4
  subst hq_q3
  subst hq_q2
  subst hq_q1
  exact jT_ret rfl (by decide) (by show 16 ≤ 16; omega) (by omega) (by omega) ⟨rfl, rfl, rfl⟩
theorem jQ_161_233 {xs : List Int} {d : Nat} {k86_0 k86_1 k86_2 k86_3 k86_4 k86_5 o4 r7 r8 u85_0 u85_1 u85_2 u85_3 u85_4 u85_5 : Int} (h_k86_0 : 1 ≤ k86_0 ∧ k86_0 ≤ 100) (h_k86_1 : 2 ≤ k86_1 ∧ k86_1 ≤ 158) (h_k86_2 : 2 ≤ k86_2 ∧ k86_2 ≤ 232) (h_k86_3 : 3 ≤ k86_3 ∧ k86_3 ≤ 281) (h_k86_4 : 3 ≤ k86_4 ∧ k86_4 ≤ 346) (h_k86_5 : 4 ≤ k86_5 ∧ k86_5 ≤ 370) (h_o4 : 1 ≤ o4 ∧ o4 ≤ 100) (h_r7 : (-20) ≤ r7 ∧ r7 ≤ 20) (h_r8 : (-10) ≤ r8 ∧ r8 ≤ 10) (g_0 : r7 < 0) (g_1 : 0 ≤ -(((108917793695 * r7 + 159561683699 * r8) / 68719476736) * o4) + (r7 * k86_1) + (r8 * k86_2) - 1) : jT xs (d + 2) 161 15 0 [(0, (4, 0)), (1, (0, r7)), (2, (0, r8)), (3, (4, 1)), (4, (0, o4))] [] [jzQ_16, jgh, (8, [(4, 13), (4, 14)], []), jgh, jgh, jgh, jgh, jgh, jgh, (101, [], [u85_0, u85_1, u85_2, u85_3, u85_4, u85_5]), (101, [], [k86_0, k86_1, k86_2, k86_3, k86_4, k86_5]), jgh, jgh, jgh, jgh] 0 0 (fun k v hsN => k = 0 ∧ v = (0, 0) ∧ hsN = [jzQ_16, jgh, (8, [(4, 13), (4, 14)], []), jgh, jgh, jgh, jgh, jgh, jgh, (101, [], [0, r7, r8, 0, 0, 0]), (101, [], [k86_0, k86_1, k86_2, k86_3, k86_4, k86_5]), jgh, jgh, jgh, jgh]) := by
  refine jT_xiload_n (v := (0, r7)) (pcN := 1) jIQ_161_0 rfl rfl rfl ?_
  refine jT_ifT (a := r7) (t := 10) (by rfl) (by rfl) (by rfl) (jw_idd (by omega) (by omega)) (by simp only [jcP] <;> omega) ?_
  refine jT_xiconst (k := 0) (pcN := 11) jIQ_161_10 rfl ?_
  refine jT_xistore (v := (0, 0)) (LN := [(5, (0, 0)), (0, (4, 0)), (1, (0, r7)), (2, (0, r8)), (3, (4, 1)), (4, (0, o4))]) (pcN := 13) jIQ_161_11 rfl rfl rfl rfl ?_
  refine jT_xiload (v := (0, 0)) (pcN := 15) jIQ_161_13 rfl rfl rfl ?_
  refine jT_xbipush (k := 6) (pcN := 17) jIQ_161_15 (by decide) rfl ?_
  refine jT_xicF (t := 56) (pcN := 20) jIQ_161_17 rfl (by decide +kernel) rfl rfl ?_
  refine jT_xaload_n (v := (4, 0)) (pcN := 21) jIQ_161_20 rfl rfl rfl ?_
  refine jT_xgetf (a := 0) (t := 1) (ci := 13) (fi := 7) (c := jzQ_16) (v := (4, 9)) (pcN := 24) jIQ_161_21 rfl rfl rfl rfl rfl rfl rfl ?_
  refine jT_xiload (v := (0, 0)) (pcN := 26) jIQ_161_24 rfl rfl rfl ?_
  refine jT_xiload (v := (0, 0)) (pcN := 28) jIQ_161_26 rfl rfl rfl ?_
  refine jT_xiconst (k := 1) (pcN := 29) jIQ_161_28 rfl ?_
  refine jT_xicT (pcN := 37) jIQ_161_29 rfl (by decide +kernel) rfl ?_
  refine jT_xiload (v := (0, 0)) (pcN := 39) jIQ_161_37 rfl rfl rfl ?_
  refine jT_xiconst (k := 2) (pcN := 40) jIQ_161_39 rfl ?_
  refine jT_xicT (pcN := 48) jIQ_161_40 rfl (by decide +kernel) rfl ?_
  refine jT_xlconst (z := 0) (pcN := 49) jIQ_161_48 rfl rfl ?_
  refine jT_adv 1 (pcN := 50) (LN := [(5, (0, 0)), (0, (4, 0)), (1, (0, r7)), (2, (0, r8)), (3, (4, 1)), (4, (0, o4))]) (stN := []) (hsN := [jzQ_16, jgh, (8, [(4, 13), (4, 14)], []), jgh, jgh, jgh, jgh, jgh, jgh, (101, [], [0, u85_1, u85_2, u85_3, u85_4, u85_5]), (101, [], [k86_0, k86_1, k86_2, k86_3, k86_4, k86_5]), jgh, jgh, jgh, jgh]) (c1 := 0) (s1 := 0) (c2 := 0) (s2 := 0) (by exact rfl) ?_ (by omega) (by omega)
  refine jT_xiinc (x := 0) (z := 1) (LN := [(5, (0, 1)), (0, (4, 0)), (1, (0, r7)), (2, (0, r8)), (3, (4, 1)), (4, (0, o4))]) (pcN := 53) jIQ_161_50 rfl rfl (by decide) rfl rfl ?_
  refine jT_xgoto (pcN := 13) jIQ_161_53 rfl ?_
  refine jT_xiload (v := (0, 1)) (pcN := 15) jIQ_161_13 rfl rfl rfl ?_
  refine jT_xbipush (k := 6) (pcN := 17) jIQ_161_15 (by decide) rfl ?_
  refine jT_xicF (t := 56) (pcN := 20) jIQ_161_17 rfl (by decide +kernel) rfl rfl ?_
  refine jT_xaload_n (v := (4, 0)) (pcN := 21) jIQ_161_20 rfl rfl rfl ?_
  refine jT_xgetf (a := 0) (t := 1) (ci := 13) (fi := 7) (c := jzQ_16) (v := (4, 9)) (pcN := 24) jIQ_161_21 rfl rfl rfl rfl rfl rfl rfl ?_
  refine jT_xiload (v := (0, 1)) (pcN := 26) jIQ_161_24 rfl rfl rfl ?_
  refine jT_xiload (v := (0, 1)) (pcN := 28) jIQ_161_26 rfl rfl rfl ?_
  refine jT_xiconst (k := 1) (pcN := 29) jIQ_161_28 rfl ?_
  refine jT_xicF (t := 37) (pcN := 32) jIQ_161_29 rfl (by decide +kernel) rfl rfl ?_
  refine jT_xiload_n (v := (0, r7)) (pcN := 33) jIQ_161_32 rfl rfl rfl ?_
  refine jT_xi2l (x := r7) (z := r7) (pcN := 34) jIQ_161_33 rfl (jw_idd (by omega) (by omega)) rfl ?_
  refine jT_xgoto (pcN := 49) jIQ_161_34 rfl ?_
  refine jT_adv 1 (pcN := 50) (LN := [(5, (0, 1)), (0, (4, 0)), (1, (0, r7)), (2, (0, r8)), (3, (4, 1)), (4, (0, o4))]) (stN := []) (hsN := [jzQ_16, jgh, (8, [(4, 13), (4, 14)], []), jgh, jgh, jgh, jgh, jgh, jgh, (101, [], [0, r7, u85_2, u85_3, u85_4, u85_5]), (101, [], [k86_0, k86_1, k86_2, k86_3, k86_4, k86_5]), jgh, jgh, jgh, jgh]) (c1 := 0) (s1 := 0) (c2 := 0) (s2 := 0) (by exact rfl) ?_ (by omega) (by omega)
  refine jT_xiinc (x := 1) (z := 2) (LN := [(5, (0, 2)), (0, (4, 0)), (1, (0, r7)), (2, (0, r8)), (3, (4, 1)), (4, (0, o4))]) (pcN := 53) jIQ_161_50 rfl rfl (by decide) rfl rfl ?_
  refine jT_xgoto (pcN := 13) jIQ_161_53 rfl ?_
  refine jT_xiload (v := (0, 2)) (pcN := 15) jIQ_161_13 rfl rfl rfl ?_
  refine jT_xbipush (k := 6) (pcN := 17) jIQ_161_15 (by decide) rfl ?_
  refine jT_xicF (t := 56) (pcN := 20) jIQ_161_17 rfl (by decide +kernel) rfl rfl ?_
  refine jT_xaload_n (v := (4, 0)) (pcN := 21) jIQ_161_20 rfl rfl rfl ?_
  refine jT_xgetf (a := 0) (t := 1) (ci := 13) (fi := 7) (c := jzQ_16) (v := (4, 9)) (pcN := 24) jIQ_161_21 rfl rfl rfl rfl rfl rfl rfl ?_
  refine jT_xiload (v := (0, 2)) (pcN := 26) jIQ_161_24 rfl rfl rfl ?_
  refine jT_xiload (v := (0, 2)) (pcN := 28) jIQ_161_26 rfl rfl rfl ?_
  refine jT_xiconst (k := 1) (pcN := 29) jIQ_161_28 rfl ?_
  refine jT_xicT (pcN := 37) jIQ_161_29 rfl (by decide +kernel) rfl ?_
  refine jT_xiload (v := (0, 2)) (pcN := 39) jIQ_161_37 rfl rfl rfl ?_
  refine jT_xiconst (k := 2) (pcN := 40) jIQ_161_39 rfl ?_
  refine jT_xicF (t := 48) (pcN := 43) jIQ_161_40 rfl (by decide +kernel) rfl rfl ?_
  refine jT_xiload_n (v := (0, r8)) (pcN := 44) jIQ_161_43 rfl rfl rfl ?_
  refine jT_xi2l (x := r8) (z := r8) (pcN := 45) jIQ_161_44 rfl (jw_idd (by omega) (by omega)) rfl ?_
  refine jT_xgoto (pcN := 49) jIQ_161_45 rfl ?_
  refine jT_adv 1 (pcN := 50) (LN := [(5, (0, 2)), (0, (4, 0)), (1, (0, r7)), (2, (0, r8)), (3, (4, 1)), (4, (0, o4))]) (stN := []) (hsN := [jzQ_16, jgh, (8, [(4, 13), (4, 14)], []), jgh, jgh, jgh, jgh, jgh, jgh, (101, [], [0, r7, r8, u85_3, u85_4, u85_5]), (101, [], [k86_0, k86_1, k86_2, k86_3, k86_4, k86_5]), jgh, jgh, jgh, jgh]) (c1 := 0) (s1 := 0) (c2 := 0) (s2 := 0) (by exact rfl) ?_ (by omega) (by omega)
  refine jT_xiinc (x := 2) (z := 3) (LN := [(5, (0, 3)), (0, (4, 0)), (1, (0, r7)), (2, (0, r8)), (3, (4, 1)), (4, (0, o4))]) (pcN := 53) jIQ_161_50 rfl rfl (by decide) rfl rfl ?_
  refine jT_xgoto (pcN := 13) jIQ_161_53 rfl ?_
  refine jT_xiload (v := (0, 3)) (pcN := 15) jIQ_161_13 rfl rfl rfl ?_
  refine jT_xbipush (k := 6) (pcN := 17) jIQ_161_15 (by decide) rfl ?_
  refine jT_xicF (t := 56) (pcN := 20) jIQ_161_17 rfl (by decide +kernel) rfl rfl ?_
  refine jT_xaload_n (v := (4, 0)) (pcN := 21) jIQ_161_20 rfl rfl rfl ?_
  refine jT_xgetf (a := 0) (t := 1) (ci := 13) (fi := 7) (c := jzQ_16) (v := (4, 9)) (pcN := 24) jIQ_161_21 rfl rfl rfl rfl rfl rfl rfl ?_
  refine jT_xiload (v := (0, 3)) (pcN := 26) jIQ_161_24 rfl rfl rfl ?_
  refine jT_xiload (v := (0, 3)) (pcN := 28) jIQ_161_26 rfl rfl rfl ?_
  refine jT_xiconst (k := 1) (pcN := 29) jIQ_161_28 rfl ?_
  refine jT_xicT (pcN := 37) jIQ_161_29 rfl (by decide +kernel) rfl ?_
  refine jT_xiload (v := (0, 3)) (pcN := 39) jIQ_161_37 rfl rfl rfl ?_
  refine jT_xiconst (k := 2) (pcN := 40) jIQ_161_39 rfl ?_
  refine jT_xicT (pcN := 48) jIQ_161_40 rfl (by decide +kernel) rfl ?_
  refine jT_xlconst (z := 0) (pcN := 49) jIQ_161_48 rfl rfl ?_
  refine jT_adv 1 (pcN := 50) (LN := [(5, (0, 3)), (0, (4, 0)), (1, (0, r7)), (2, (0, r8)), (3, (4, 1)), (4, (0, o4))]) (stN := []) (hsN := [jzQ_16, jgh, (8, [(4, 13), (4, 14)], []), jgh, jgh, jgh, jgh, jgh, jgh, (101, [], [0, r7, r8, 0, u85_4, u85_5]), (101, [], [k86_0, k86_1, k86_2, k86_3, k86_4, k86_5]), jgh, jgh, jgh, jgh]) (c1 := 0) (s1 := 0) (c2 := 0) (s2 := 0) (by exact rfl) ?_ (by omega) (by omega)
  refine jT_xiinc (x := 3) (z := 4) (LN := [(5, (0, 4)), (0, (4, 0)), (1, (0, r7)), (2, (0, r8)), (3, (4, 1)), (4, (0, o4))]) (pcN := 53) jIQ_161_50 rfl rfl (by decide) rfl rfl ?_
  refine jT_xgoto (pcN := 13) jIQ_161_53 rfl ?_
  refine jT_xiload (v := (0, 4)) (pcN := 15) jIQ_161_13 rfl rfl rfl ?_
  refine jT_xbipush (k := 6) (pcN := 17) jIQ_161_15 (by decide) rfl ?_
  refine jT_xicF (t := 56) (pcN := 20) jIQ_161_17 rfl (by decide +kernel) rfl rfl ?_
  refine jT_xaload_n (v := (4, 0)) (pcN := 21) jIQ_161_20 rfl rfl rfl ?_
  refine jT_xgetf (a := 0) (t := 1) (ci := 13) (fi := 7) (c := jzQ_16) (v := (4, 9)) (pcN := 24) jIQ_161_21 rfl rfl rfl rfl rfl rfl rfl ?_
  refine jT_xiload (v := (0, 4)) (pcN := 26) jIQ_161_24 rfl rfl rfl ?_
  refine jT_xiload (v := (0, 4)) (pcN := 28) jIQ_161_26 rfl rfl rfl ?_
  refine jT_xiconst (k := 1) (pcN := 29) jIQ_161_28 rfl ?_
  refine jT_xicT (pcN := 37) jIQ_161_29 rfl (by decide +kernel) rfl ?_
  refine jT_xiload (v := (0, 4)) (pcN := 39) jIQ_161_37 rfl rfl rfl ?_
  refine jT_xiconst (k := 2) (pcN := 40) jIQ_161_39 rfl ?_
  refine jT_xicT (pcN := 48) jIQ_161_40 rfl (by decide +kernel) rfl ?_
  refine jT_xlconst (z := 0) (pcN := 49) jIQ_161_48 rfl rfl ?_
  refine jT_adv 1 (pcN := 50) (LN := [(5, (0, 4)), (0, (4, 0)), (1, (0, r7)), (2, (0, r8)), (3, (4, 1)), (4, (0, o4))]) (stN := []) (hsN := [jzQ_16, jgh, (8, [(4, 13), (4, 14)], []), jgh, jgh, jgh, jgh, jgh, jgh, (101, [], [0, r7, r8, 0, 0, u85_5]), (101, [], [k86_0, k86_1, k86_2, k86_3, k86_4, k86_5]), jgh, jgh, jgh, jgh]) (c1 := 0) (s1 := 0) (c2 := 0) (s2 := 0) (by exact rfl) ?_ (by omega) (by omega)
  refine jT_xiinc (x := 4) (z := 5) (LN := [(5, (0, 5)), (0, (4, 0)), (1, (0, r7)), (2, (0, r8)), (3, (4, 1)), (4, (0, o4))]) (pcN := 53) jIQ_161_50 rfl rfl (by decide) rfl rfl ?_
  refine jT_xgoto (pcN := 13) jIQ_161_53 rfl ?_
  refine jT_xiload (v := (0, 5)) (pcN := 15) jIQ_161_13 rfl rfl rfl ?_
  refine jT_xbipush (k := 6) (pcN := 17) jIQ_161_15 (by decide) rfl ?_
  refine jT_xicF (t := 56) (pcN := 20) jIQ_161_17 rfl (by decide +kernel) rfl rfl ?_
  refine jT_xaload_n (v := (4, 0)) (pcN := 21) jIQ_161_20 rfl rfl rfl ?_
  refine jT_xgetf (a := 0) (t := 1) (ci := 13) (fi := 7) (c := jzQ_16) (v := (4, 9)) (pcN := 24) jIQ_161_21 rfl rfl rfl rfl rfl rfl rfl ?_
  refine jT_xiload (v := (0, 5)) (pcN := 26) jIQ_161_24 rfl rfl rfl ?_
  refine jT_xiload (v := (0, 5)) (pcN := 28) jIQ_161_26 rfl rfl rfl ?_
  refine jT_xiconst (k := 1) (pcN := 29) jIQ_161_28 rfl ?_
  refine jT_xicT (pcN := 37) jIQ_161_29 rfl (by decide +kernel) rfl ?_
  refine jT_xiload (v := (0, 5)) (pcN := 39) jIQ_161_37 rfl rfl rfl ?_
  refine jT_xiconst (k := 2) (pcN := 40) jIQ_161_39 rfl ?_
  refine jT_xicT (pcN := 48) jIQ_161_40 rfl (by decide +kernel) rfl ?_
  refine jT_xlconst (z := 0) (pcN := 49) jIQ_161_48 rfl rfl ?_
  refine jT_adv 1 (pcN := 50) (LN := [(5, (0, 5)), (0, (4, 0)), (1, (0, r7)), (2, (0, r8)), (3, (4, 1)), (4, (0, o4))]) (stN := []) (hsN := [jzQ_16, jgh, (8, [(4, 13), (4, 14)], []), jgh, jgh, jgh, jgh, jgh, jgh, (101, [], [0, r7, r8, 0, 0, 0]), (101, [], [k86_0, k86_1, k86_2, k86_3, k86_4, k86_5]), jgh, jgh, jgh, jgh]) (c1 := 0) (s1 := 0) (c2 := 0) (s2 := 0) (by exact rfl) ?_ (by omega) (by omega)
  refine jT_xiinc (x := 5) (z := 6) (LN := [(5, (0, 6)), (0, (4, 0)), (1, (0, r7)), (2, (0, r8)), (3, (4, 1)), (4, (0, o4))]) (pcN := 53) jIQ_161_50 rfl rfl (by decide) rfl rfl ?_
  refine jT_xgoto (pcN := 13) jIQ_161_53 rfl ?_
  refine jT_xiload (v := (0, 6)) (pcN := 15) jIQ_161_13 rfl rfl rfl ?_
  refine jT_xbipush (k := 6) (pcN := 17) jIQ_161_15 (by decide) rfl ?_
  refine jT_xicT (pcN := 56) jIQ_161_17 rfl (by decide +kernel) rfl ?_
  refine jT_xaload_n (v := (4, 0)) (pcN := 57) jIQ_161_56 rfl rfl rfl ?_
  refine jT_xgetf (a := 0) (t := 1) (ci := 13) (fi := 0) (c := jzQ_16) (v := (4, 2)) (pcN := 60) jIQ_161_57 rfl rfl rfl rfl rfl rfl rfl ?_
  refine jT_xaload_n (v := (4, 0)) (pcN := 61) jIQ_161_60 rfl rfl rfl ?_
  refine jT_xgetf (a := 0) (t := 1) (ci := 13) (fi := 7) (c := jzQ_16) (v := (4, 9)) (pcN := 64) jIQ_161_61 rfl rfl rfl rfl rfl rfl rfl ?_
  refine jT_xlconst (z := 1) (pcN := 65) jIQ_161_64 rfl rfl ?_
  refine jT_xlconst (z := 1) (pcN := 66) jIQ_161_65 rfl rfl ?_
  refine jT_callA [2, 9, 13, 14] (y := 45) (pcN := 69) (dC := 1) (bc1 := 0) (bc2 := 0) (c1 := 0) (c2 := 0) (as := [(4, 2), (4, 9), (1, 1), (1, 1)]) (asC := [(4, 0), (4, 1), (1, 1), (1, 1)]) (LN := [(5, (0, 6)), (0, (4, 0)), (1, (0, r7)), (2, (0, r8)), (3, (4, 1)), (4, (0, o4))]) (stN := []) (hsC := [(8, [(4, 2), (4, 3)], []), (101, [], [0, r7, r8, 0, 0, 0]), jgh, jgh]) (ex := []) (v := (1, (108917793695 * r7 + 159561683699 * r8) / 68719476736)) (st2 := [(1, (108917793695 * r7 + 159561683699 * r8) / 68719476736)]) (hs2 := [jzQ_16, jgh, (8, [(4, 13), (4, 14)], []), jgh, jgh, jgh, jgh, jgh, jgh, (101, [], [0, r7, r8, 0, 0, 0]), (101, [], [k86_0, k86_1, k86_2, k86_3, k86_4, k86_5]), jgh, jgh, jgh, jgh]) (jQl_sp45_116 (d := 0) (by omega) (by omega)) (by rfl) (by rfl) (by rfl) (by rfl) ⟨rfl, rfl, rfl, rfl, trivial⟩ (by rfl) (by rfl) (by omega) (by show 15 ≤ 15; omega) (by omega) (by omega) rfl rfl ?_
  have hb_q1 : (-60) ≤ (108917793695 * r7 + 159561683699 * r8) / 68719476736 ∧ (108917793695 * r7 + 159561683699 * r8) / 68719476736 ≤ 60 := ⟨by omega, by omega⟩
  generalize hq_q1 : (108917793695 * r7 + 159561683699 * r8) / 68719476736 = q1 at hb_q1 g_1 ⊢
  refine jT_xlstore (v := (1, q1)) (LN := [(5, (1, q1)), (0, (4, 0)), (1, (0, r7)), (2, (0, r8)), (3, (4, 1)), (4, (0, o4))]) (pcN := 71) jIQ_161_69 rfl rfl rfl rfl ?_
  have g_2 : 0 ≤ (-68719476736) * q1 + 108917793694 * r7 + 159561683698 * r8 - 1 := by have := jcg (b := r7) (c := r8) (by omega) (by omega) (by omega); rw [hq_q1] at this; omega
  have g_3 : 0 ≤ (-68719476736) * q1 + 108917793694 * r7 + 159561683700 * r8 - 1 := by have := jcg (b := r7) (c := r8) (by omega) (by omega) (by omega); rw [hq_q1] at this; omega
  have g_4 : 0 ≤ (-68719476736) * q1 + 108917793696 * r7 + 159561683698 * r8 - 1 := by have := jcg (b := r7) (c := r8) (by omega) (by omega) (by omega); rw [hq_q1] at this; omega
  have g_5 : 0 ≤ (-68719476736) * q1 + 108917793696 * r7 + 159561683700 * r8 - 1 := by have := jcg (b := r7) (c := r8) (by omega) (by omega) (by omega); rw [hq_q1] at this; omega
  refine jT_xiload (v := (0, o4)) (pcN := 73) jIQ_161_71 rfl rfl rfl ?_
  refine jT_ifF (a := o4) (t := 107) (by rfl) (by rfl) (by rfl) (jw_idd (by omega) (by omega)) (by simp only [jcP] <;> omega) ?_
  refine jT_xiload_n (v := (0, r7)) (pcN := 77) jIQ_161_76 rfl rfl rfl ?_
  refine jT_xi2l (x := r7) (z := r7) (pcN := 78) jIQ_161_77 rfl (jw_idd (by omega) (by omega)) rfl ?_
  refine jT_xaload_n (v := (4, 0)) (pcN := 79) jIQ_161_78 rfl rfl rfl ?_
  refine jT_xgetf (a := 0) (t := 1) (ci := 13) (fi := 8) (c := jzQ_16) (v := (4, 10)) (pcN := 82) jIQ_161_79 rfl rfl rfl rfl rfl rfl rfl ?_
  refine jT_xiconst (k := 1) (pcN := 83) jIQ_161_82 rfl ?_
  refine jT_lald (x := k86_1) (a := 10) (j := 1) (fs := []) (X := [k86_0, k86_1, k86_2, k86_3, k86_4, k86_5]) jIQ_161_83 rfl rfl rfl rfl ?_
  refine jT_eq (LN := [(5, (1, q1)), (0, (4, 0)), (1, (0, r7)), (2, (0, r8)), (3, (4, 1)), (4, (0, o4))]) (stN := [(1, k86_1), (1, r7)]) (hsN := [jzQ_16, jgh, (8, [(4, 13), (4, 14)], []), jgh, jgh, jgh, jgh, jgh, jgh, (101, [], [0, r7, r8, 0, 0, 0]), (101, [], [k86_0, k86_1, k86_2, k86_3, k86_4, k86_5]), jgh, jgh, jgh, jgh]) rfl rfl rfl ?_
  refine jT_xlmul (x := r7) (y := k86_1) (z := r7 * k86_1) (pcN := 85) jIQ_161_84 rfl rfl rfl ?_
  have hb_q2 := jmul_bs (x := r7) (y := k86_1) (m := 20) (n := 158) (by omega) (by omega) (by omega) (by omega)
  have hb_q2 : (-3160) ≤ r7 * k86_1 ∧ r7 * k86_1 ≤ 3160 := ⟨by omega, by omega⟩
  generalize hq_q2 : r7 * k86_1 = q2 at hb_q2 g_1 ⊢
  refine jT_xiload_n (v := (0, r8)) (pcN := 86) jIQ_161_85 rfl rfl rfl ?_
  refine jT_xi2l (x := r8) (z := r8) (pcN := 87) jIQ_161_86 rfl (jw_idd (by omega) (by omega)) rfl ?_
  refine jT_xaload_n (v := (4, 0)) (pcN := 88) jIQ_161_87 rfl rfl rfl ?_
  refine jT_xgetf (a := 0) (t := 1) (ci := 13) (fi := 8) (c := jzQ_16) (v := (4, 10)) (pcN := 91) jIQ_161_88 rfl rfl rfl rfl rfl rfl rfl ?_
  refine jT_xiconst (k := 2) (pcN := 92) jIQ_161_91 rfl ?_
  refine jT_lald (x := k86_2) (a := 10) (j := 2) (fs := []) (X := [k86_0, k86_1, k86_2, k86_3, k86_4, k86_5]) jIQ_161_92 rfl rfl rfl rfl ?_
  refine jT_eq (LN := [(5, (1, q1)), (0, (4, 0)), (1, (0, r7)), (2, (0, r8)), (3, (4, 1)), (4, (0, o4))]) (stN := [(1, k86_2), (1, r8), (1, q2)]) (hsN := [jzQ_16, jgh, (8, [(4, 13), (4, 14)], []), jgh, jgh, jgh, jgh, jgh, jgh, (101, [], [0, r7, r8, 0, 0, 0]), (101, [], [k86_0, k86_1, k86_2, k86_3, k86_4, k86_5]), jgh, jgh, jgh, jgh]) rfl rfl rfl ?_
  refine jT_xlmul (x := r8) (y := k86_2) (z := r8 * k86_2) (pcN := 94) jIQ_161_93 rfl rfl rfl ?_
  have hb_q3 := jmul_bs (x := r8) (y := k86_2) (m := 10) (n := 232) (by omega) (by omega) (by omega) (by omega)
  have hb_q3 : (-2320) ≤ r8 * k86_2 ∧ r8 * k86_2 ≤ 2320 := ⟨by omega, by omega⟩
  generalize hq_q3 : r8 * k86_2 = q3 at hb_q3 g_1 ⊢
  refine jT_xladd (x := q2) (y := q3) (z := q2 + q3) (pcN := 95) jIQ_161_94 rfl (rfl) rfl ?_
  refine jT_xlload (v := (1, q1)) (pcN := 97) jIQ_161_95 rfl rfl rfl ?_
  refine jT_xiload (v := (0, o4)) (pcN := 99) jIQ_161_97 rfl rfl rfl ?_
  refine jT_xi2l (x := o4) (z := o4) (pcN := 100) jIQ_161_99 rfl (jw_idd (by omega) (by omega)) rfl ?_
  refine jT_xlmul (x := q1) (y := o4) (z := q1 * o4) (pcN := 101) jIQ_161_100 rfl rfl rfl ?_
  have hb_q4 := jmul_bs (x := q1) (y := o4) (m := 60) (n := 100) (by omega) (by omega) (by omega) (by omega)
  have hb_q4 : (-6000) ≤ q1 * o4 ∧ q1 * o4 ≤ 6000 := ⟨by omega, by omega⟩
  generalize hq_q4 : q1 * o4 = q4 at hb_q4 g_1 ⊢
  refine jT_lcmp (a := q2 + q3) (b := q4) (z := 1) (by rfl) (by rfl) (jwl_idd (by omega) (by omega)) (jwl_idd (by omega) (by omega)) (by rw [decide_eq_true (show (q4 : Int) < q2 + q3 by omega)]; rfl) ?_
  refine jT_xifF (t := 107) (pcN := 105) jIQ_161_102 rfl (by decide +kernel) rfl rfl ?_
  refine jT_xiconst (k := 0) (pcN := 106) jIQ_161_105 rfl ?_
  subst hq_q4
  subst hq_q3
  subst hq_q2
  subst hq_q1
  exact jT_ret rfl (by decide) (by show 15 ≤ 15; omega) (by omega) (by omega) ⟨rfl, rfl, rfl⟩
theorem jQ_161_234 {xs : List Int} {d : Nat} {k9_0 k9_1 k9_2 k9_3 k9_4 k9_5 o4 r7 r8 u8_0 u8_1 u8_2 u8_3 u8_4 u8_5 : Int} (h_k9_0 : 1 ≤ k9_0 ∧ k9_0 ≤ 100) (h_k9_1 : 2 ≤ k9_1 ∧ k9_1 ≤ 158) (h_k9_2 : 2 ≤ k9_2 ∧ k9_2 ≤ 232) (h_k9_3 : 3 ≤ k9_3 ∧ k9_3 ≤ 281) (h_k9_4 : 3 ≤ k9_4 ∧ k9_4 ≤ 346) (h_k9_5 : 4 ≤ k9_5 ∧ k9_5 ≤ 370) (h_o4 : 1 ≤ o4 ∧ o4 ≤ 100) (h_r7 : (-20) ≤ r7 ∧ r7 ≤ 20) (h_r8 : (-10) ≤ r8 ∧ r8 ≤ 10) (g_0 : 0 < r7) (g_1 : -(((108917793695 * r7 + 159561683699 * r8) / 68719476736) * o4) + (r7 * k9_1) + (r8 * k9_2) - 1 < 0) (g_2 : -(((108917793695 * r7 + 159561683699 * r8) / 68719476736) * o4) + (r7 * k9_1) + (r8 * k9_2) < 0) : jT xs (d + 2) 161 15 0 [(0, (4, 0)), (1, (0, r7)), (2, (0, r8)), (3, (4, 1)), (4, (0, o4))] [] [jzQ_16, jgh, (8, [(4, 13), (4, 14)], []), jgh, jgh, jgh, jgh, jgh, jgh, (101, [], [u8_0, u8_1, u8_2, u8_3, u8_4, u8_5]), (101, [], [k9_0, k9_1, k9_2, k9_3, k9_4, k9_5]), jgh, jgh, jgh, jgh] 0 0 (fun k v hsN => k = 0 ∧ v = (0, 0) ∧ hsN = [jzQ_16, jgh, (8, [(4, 13), (4, 14)], []), jgh, jgh, jgh, jgh, jgh, jgh, (101, [], [0, r7, r8, 0, 0, 0]), (101, [], [k9_0, k9_1, k9_2, k9_3, k9_4, k9_5]), jgh, jgh, jgh, jgh]) := by
  refine jT_xiload_n (v := (0, r7)) (pcN := 1) jIQ_161_0 rfl rfl rfl ?_
  refine jT_ifT (a := r7) (t := 10) (by rfl) (by rfl) (by rfl) (jw_idd (by omega) (by omega)) (by simp only [jcP] <;> omega) ?_
  refine jT_xiconst (k := 0) (pcN := 11) jIQ_161_10 rfl ?_
  refine jT_xistore (v := (0, 0)) (LN := [(5, (0, 0)), (0, (4, 0)), (1, (0, r7)), (2, (0, r8)), (3, (4, 1)), (4, (0, o4))]) (pcN := 13) jIQ_161_11 rfl rfl rfl rfl ?_
  refine jT_xiload (v := (0, 0)) (pcN := 15) jIQ_161_13 rfl rfl rfl ?_
  refine jT_xbipush (k := 6) (pcN := 17) jIQ_161_15 (by decide) rfl ?_
  refine jT_xicF (t := 56) (pcN := 20) jIQ_161_17 rfl (by decide +kernel) rfl rfl ?_
  refine jT_xaload_n (v := (4, 0)) (pcN := 21) jIQ_161_20 rfl rfl rfl ?_
  refine jT_xgetf (a := 0) (t := 1) (ci := 13) (fi := 7) (c := jzQ_16) (v := (4, 9)) (pcN := 24) jIQ_161_21 rfl rfl rfl rfl rfl rfl rfl ?_
  refine jT_xiload (v := (0, 0)) (pcN := 26) jIQ_161_24 rfl rfl rfl ?_
  refine jT_xiload (v := (0, 0)) (pcN := 28) jIQ_161_26 rfl rfl rfl ?_
  refine jT_xiconst (k := 1) (pcN := 29) jIQ_161_28 rfl ?_
  refine jT_xicT (pcN := 37) jIQ_161_29 rfl (by decide +kernel) rfl ?_
  refine jT_xiload (v := (0, 0)) (pcN := 39) jIQ_161_37 rfl rfl rfl ?_
  refine jT_xiconst (k := 2) (pcN := 40) jIQ_161_39 rfl ?_
  refine jT_xicT (pcN := 48) jIQ_161_40 rfl (by decide +kernel) rfl ?_
  refine jT_xlconst (z := 0) (pcN := 49) jIQ_161_48 rfl rfl ?_
  refine jT_adv 1 (pcN := 50) (LN := [(5, (0, 0)), (0, (4, 0)), (1, (0, r7)), (2, (0, r8)), (3, (4, 1)), (4, (0, o4))]) (stN := []) (hsN := [jzQ_16, jgh, (8, [(4, 13), (4, 14)], []), jgh, jgh, jgh, jgh, jgh, jgh, (101, [], [0, u8_1, u8_2, u8_3, u8_4, u8_5]), (101, [], [k9_0, k9_1, k9_2, k9_3, k9_4, k9_5]), jgh, jgh, jgh, jgh]) (c1 := 0) (s1 := 0) (c2 := 0) (s2 := 0) (by exact rfl) ?_ (by omega) (by omega)
  refine jT_xiinc (x := 0) (z := 1) (LN := [(5, (0, 1)), (0, (4, 0)), (1, (0, r7)), (2, (0, r8)), (3, (4, 1)), (4, (0, o4))]) (pcN := 53) jIQ_161_50 rfl rfl (by decide) rfl rfl ?_
  refine jT_xgoto (pcN := 13) jIQ_161_53 rfl ?_
  refine jT_xiload (v := (0, 1)) (pcN := 15) jIQ_161_13 rfl rfl rfl ?_
  refine jT_xbipush (k := 6) (pcN := 17) jIQ_161_15 (by decide) rfl ?_
  refine jT_xicF (t := 56) (pcN := 20) jIQ_161_17 rfl (by decide +kernel) rfl rfl ?_
  refine jT_xaload_n (v := (4, 0)) (pcN := 21) jIQ_161_20 rfl rfl rfl ?_
  refine jT_xgetf (a := 0) (t := 1) (ci := 13) (fi := 7) (c := jzQ_16) (v := (4, 9)) (pcN := 24) jIQ_161_21 rfl rfl rfl rfl rfl rfl rfl ?_
  refine jT_xiload (v := (0, 1)) (pcN := 26) jIQ_161_24 rfl rfl rfl ?_
  refine jT_xiload (v := (0, 1)) (pcN := 28) jIQ_161_26 rfl rfl rfl ?_
  refine jT_xiconst (k := 1) (pcN := 29) jIQ_161_28 rfl ?_
  refine jT_xicF (t := 37) (pcN := 32) jIQ_161_29 rfl (by decide +kernel) rfl rfl ?_
  refine jT_xiload_n (v := (0, r7)) (pcN := 33) jIQ_161_32 rfl rfl rfl ?_
  refine jT_xi2l (x := r7) (z := r7) (pcN := 34) jIQ_161_33 rfl (jw_idd (by omega) (by omega)) rfl ?_
  refine jT_xgoto (pcN := 49) jIQ_161_34 rfl ?_
  refine jT_adv 1 (pcN := 50) (LN := [(5, (0, 1)), (0, (4, 0)), (1, (0, r7)), (2, (0, r8)), (3, (4, 1)), (4, (0, o4))]) (stN := []) (hsN := [jzQ_16, jgh, (8, [(4, 13), (4, 14)], []), jgh, jgh, jgh, jgh, jgh, jgh, (101, [], [0, r7, u8_2, u8_3, u8_4, u8_5]), (101, [], [k9_0, k9_1, k9_2, k9_3, k9_4, k9_5]), jgh, jgh, jgh, jgh]) (c1 := 0) (s1 := 0) (c2 := 0) (s2 := 0) (by exact rfl) ?_ (by omega) (by omega)
  refine jT_xiinc (x := 1) (z := 2) (LN := [(5, (0, 2)), (0, (4, 0)), (1, (0, r7)), (2, (0, r8)), (3, (4, 1)), (4, (0, o4))]) (pcN := 53) jIQ_161_50 rfl rfl (by decide) rfl rfl ?_
  refine jT_xgoto (pcN := 13) jIQ_161_53 rfl ?_
  refine jT_xiload (v := (0, 2)) (pcN := 15) jIQ_161_13 rfl rfl rfl ?_
  refine jT_xbipush (k := 6) (pcN := 17) jIQ_161_15 (by decide) rfl ?_
  refine jT_xicF (t := 56) (pcN := 20) jIQ_161_17 rfl (by decide +kernel) rfl rfl ?_
  refine jT_xaload_n (v := (4, 0)) (pcN := 21) jIQ_161_20 rfl rfl rfl ?_
  refine jT_xgetf (a := 0) (t := 1) (ci := 13) (fi := 7) (c := jzQ_16) (v := (4, 9)) (pcN := 24) jIQ_161_21 rfl rfl rfl rfl rfl rfl rfl ?_
  refine jT_xiload (v := (0, 2)) (pcN := 26) jIQ_161_24 rfl rfl rfl ?_
  refine jT_xiload (v := (0, 2)) (pcN := 28) jIQ_161_26 rfl rfl rfl ?_
  refine jT_xiconst (k := 1) (pcN := 29) jIQ_161_28 rfl ?_
  refine jT_xicT (pcN := 37) jIQ_161_29 rfl (by decide +kernel) rfl ?_
  refine jT_xiload (v := (0, 2)) (pcN := 39) jIQ_161_37 rfl rfl rfl ?_
  refine jT_xiconst (k := 2) (pcN := 40) jIQ_161_39 rfl ?_
  refine jT_xicF (t := 48) (pcN := 43) jIQ_161_40 rfl (by decide +kernel) rfl rfl ?_
  refine jT_xiload_n (v := (0, r8)) (pcN := 44) jIQ_161_43 rfl rfl rfl ?_
  refine jT_xi2l (x := r8) (z := r8) (pcN := 45) jIQ_161_44 rfl (jw_idd (by omega) (by omega)) rfl ?_
  refine jT_xgoto (pcN := 49) jIQ_161_45 rfl ?_
  refine jT_adv 1 (pcN := 50) (LN := [(5, (0, 2)), (0, (4, 0)), (1, (0, r7)), (2, (0, r8)), (3, (4, 1)), (4, (0, o4))]) (stN := []) (hsN := [jzQ_16, jgh, (8, [(4, 13), (4, 14)], []), jgh, jgh, jgh, jgh, jgh, jgh, (101, [], [0, r7, r8, u8_3, u8_4, u8_5]), (101, [], [k9_0, k9_1, k9_2, k9_3, k9_4, k9_5]), jgh, jgh, jgh, jgh]) (c1 := 0) (s1 := 0) (c2 := 0) (s2 := 0) (by exact rfl) ?_ (by omega) (by omega)
  refine jT_xiinc (x := 2) (z := 3) (LN := [(5, (0, 3)), (0, (4, 0)), (1, (0, r7)), (2, (0, r8)), (3, (4, 1)), (4, (0, o4))]) (pcN := 53) jIQ_161_50 rfl rfl (by decide) rfl rfl ?_
  refine jT_xgoto (pcN := 13) jIQ_161_53 rfl ?_
  refine jT_xiload (v := (0, 3)) (pcN := 15) jIQ_161_13 rfl rfl rfl ?_
  refine jT_xbipush (k := 6) (pcN := 17) jIQ_161_15 (by decide) rfl ?_
  refine jT_xicF (t := 56) (pcN := 20) jIQ_161_17 rfl (by decide +kernel) rfl rfl ?_
  refine jT_xaload_n (v := (4, 0)) (pcN := 21) jIQ_161_20 rfl rfl rfl ?_
  refine jT_xgetf (a := 0) (t := 1) (ci := 13) (fi := 7) (c := jzQ_16) (v := (4, 9)) (pcN := 24) jIQ_161_21 rfl rfl rfl rfl rfl rfl rfl ?_
  refine jT_xiload (v := (0, 3)) (pcN := 26) jIQ_161_24 rfl rfl rfl ?_
  refine jT_xiload (v := (0, 3)) (pcN := 28) jIQ_161_26 rfl rfl rfl ?_
  refine jT_xiconst (k := 1) (pcN := 29) jIQ_161_28 rfl ?_
  refine jT_xicT (pcN := 37) jIQ_161_29 rfl (by decide +kernel) rfl ?_
  refine jT_xiload (v := (0, 3)) (pcN := 39) jIQ_161_37 rfl rfl rfl ?_
  refine jT_xiconst (k := 2) (pcN := 40) jIQ_161_39 rfl ?_
  refine jT_xicT (pcN := 48) jIQ_161_40 rfl (by decide +kernel) rfl ?_
  refine jT_xlconst (z := 0) (pcN := 49) jIQ_161_48 rfl rfl ?_
  refine jT_adv 1 (pcN := 50) (LN := [(5, (0, 3)), (0, (4, 0)), (1, (0, r7)), (2, (0, r8)), (3, (4, 1)), (4, (0, o4))]) (stN := []) (hsN := [jzQ_16, jgh, (8, [(4, 13), (4, 14)], []), jgh, jgh, jgh, jgh, jgh, jgh, (101, [], [0, r7, r8, 0, u8_4, u8_5]), (101, [], [k9_0, k9_1, k9_2, k9_3, k9_4, k9_5]), jgh, jgh, jgh, jgh]) (c1 := 0) (s1 := 0) (c2 := 0) (s2 := 0) (by exact rfl) ?_ (by omega) (by omega)
  refine jT_xiinc (x := 3) (z := 4) (LN := [(5, (0, 4)), (0, (4, 0)), (1, (0, r7)), (2, (0, r8)), (3, (4, 1)), (4, (0, o4))]) (pcN := 53) jIQ_161_50 rfl rfl (by decide) rfl rfl ?_
  refine jT_xgoto (pcN := 13) jIQ_161_53 rfl ?_
  refine jT_xiload (v := (0, 4)) (pcN := 15) jIQ_161_13 rfl rfl rfl ?_
  refine jT_xbipush (k := 6) (pcN := 17) jIQ_161_15 (by decide) rfl ?_
  refine jT_xicF (t := 56) (pcN := 20) jIQ_161_17 rfl (by decide +kernel) rfl rfl ?_
  refine jT_xaload_n (v := (4, 0)) (pcN := 21) jIQ_161_20 rfl rfl rfl ?_
  refine jT_xgetf (a := 0) (t := 1) (ci := 13) (fi := 7) (c := jzQ_16) (v := (4, 9)) (pcN := 24) jIQ_161_21 rfl rfl rfl rfl rfl rfl rfl ?_
  refine jT_xiload (v := (0, 4)) (pcN := 26) jIQ_161_24 rfl rfl rfl ?_
  refine jT_xiload (v := (0, 4)) (pcN := 28) jIQ_161_26 rfl rfl rfl ?_
  refine jT_xiconst (k := 1) (pcN := 29) jIQ_161_28 rfl ?_
  refine jT_xicT (pcN := 37) jIQ_161_29 rfl (by decide +kernel) rfl ?_
  refine jT_xiload (v := (0, 4)) (pcN := 39) jIQ_161_37 rfl rfl rfl ?_
  refine jT_xiconst (k := 2) (pcN := 40) jIQ_161_39 rfl ?_
  refine jT_xicT (pcN := 48) jIQ_161_40 rfl (by decide +kernel) rfl ?_
  refine jT_xlconst (z := 0) (pcN := 49) jIQ_161_48 rfl rfl ?_
  refine jT_adv 1 (pcN := 50) (LN := [(5, (0, 4)), (0, (4, 0)), (1, (0, r7)), (2, (0, r8)), (3, (4, 1)), (4, (0, o4))]) (stN := []) (hsN := [jzQ_16, jgh, (8, [(4, 13), (4, 14)], []), jgh, jgh, jgh, jgh, jgh, jgh, (101, [], [0, r7, r8, 0, 0, u8_5]), (101, [], [k9_0, k9_1, k9_2, k9_3, k9_4, k9_5]), jgh, jgh, jgh, jgh]) (c1 := 0) (s1 := 0) (c2 := 0) (s2 := 0) (by exact rfl) ?_ (by omega) (by omega)
  refine jT_xiinc (x := 4) (z := 5) (LN := [(5, (0, 5)), (0, (4, 0)), (1, (0, r7)), (2, (0, r8)), (3, (4, 1)), (4, (0, o4))]) (pcN := 53) jIQ_161_50 rfl rfl (by decide) rfl rfl ?_
  refine jT_xgoto (pcN := 13) jIQ_161_53 rfl ?_
  refine jT_xiload (v := (0, 5)) (pcN := 15) jIQ_161_13 rfl rfl rfl ?_
  refine jT_xbipush (k := 6) (pcN := 17) jIQ_161_15 (by decide) rfl ?_
  refine jT_xicF (t := 56) (pcN := 20) jIQ_161_17 rfl (by decide +kernel) rfl rfl ?_
  refine jT_xaload_n (v := (4, 0)) (pcN := 21) jIQ_161_20 rfl rfl rfl ?_
  refine jT_xgetf (a := 0) (t := 1) (ci := 13) (fi := 7) (c := jzQ_16) (v := (4, 9)) (pcN := 24) jIQ_161_21 rfl rfl rfl rfl rfl rfl rfl ?_
  refine jT_xiload (v := (0, 5)) (pcN := 26) jIQ_161_24 rfl rfl rfl ?_
  refine jT_xiload (v := (0, 5)) (pcN := 28) jIQ_161_26 rfl rfl rfl ?_
  refine jT_xiconst (k := 1) (pcN := 29) jIQ_161_28 rfl ?_
  refine jT_xicT (pcN := 37) jIQ_161_29 rfl (by decide +kernel) rfl ?_
  refine jT_xiload (v := (0, 5)) (pcN := 39) jIQ_161_37 rfl rfl rfl ?_
  refine jT_xiconst (k := 2) (pcN := 40) jIQ_161_39 rfl ?_
  refine jT_xicT (pcN := 48) jIQ_161_40 rfl (by decide +kernel) rfl ?_
  refine jT_xlconst (z := 0) (pcN := 49) jIQ_161_48 rfl rfl ?_
  refine jT_adv 1 (pcN := 50) (LN := [(5, (0, 5)), (0, (4, 0)), (1, (0, r7)), (2, (0, r8)), (3, (4, 1)), (4, (0, o4))]) (stN := []) (hsN := [jzQ_16, jgh, (8, [(4, 13), (4, 14)], []), jgh, jgh, jgh, jgh, jgh, jgh, (101, [], [0, r7, r8, 0, 0, 0]), (101, [], [k9_0, k9_1, k9_2, k9_3, k9_4, k9_5]), jgh, jgh, jgh, jgh]) (c1 := 0) (s1 := 0) (c2 := 0) (s2 := 0) (by exact rfl) ?_ (by omega) (by omega)
  refine jT_xiinc (x := 5) (z := 6) (LN := [(5, (0, 6)), (0, (4, 0)), (1, (0, r7)), (2, (0, r8)), (3, (4, 1)), (4, (0, o4))]) (pcN := 53) jIQ_161_50 rfl rfl (by decide) rfl rfl ?_
  refine jT_xgoto (pcN := 13) jIQ_161_53 rfl ?_
  refine jT_xiload (v := (0, 6)) (pcN := 15) jIQ_161_13 rfl rfl rfl ?_
  refine jT_xbipush (k := 6) (pcN := 17) jIQ_161_15 (by decide) rfl ?_
  refine jT_xicT (pcN := 56) jIQ_161_17 rfl (by decide +kernel) rfl ?_
  refine jT_xaload_n (v := (4, 0)) (pcN := 57) jIQ_161_56 rfl rfl rfl ?_
  refine jT_xgetf (a := 0) (t := 1) (ci := 13) (fi := 0) (c := jzQ_16) (v := (4, 2)) (pcN := 60) jIQ_161_57 rfl rfl rfl rfl rfl rfl rfl ?_
  refine jT_xaload_n (v := (4, 0)) (pcN := 61) jIQ_161_60 rfl rfl rfl ?_
  refine jT_xgetf (a := 0) (t := 1) (ci := 13) (fi := 7) (c := jzQ_16) (v := (4, 9)) (pcN := 64) jIQ_161_61 rfl rfl rfl rfl rfl rfl rfl ?_
  refine jT_xlconst (z := 1) (pcN := 65) jIQ_161_64 rfl rfl ?_
  refine jT_xlconst (z := 1) (pcN := 66) jIQ_161_65 rfl rfl ?_
  refine jT_callA [2, 9, 13, 14] (y := 45) (pcN := 69) (dC := 1) (bc1 := 0) (bc2 := 0) (c1 := 0) (c2 := 0) (as := [(4, 2), (4, 9), (1, 1), (1, 1)]) (asC := [(4, 0), (4, 1), (1, 1), (1, 1)]) (LN := [(5, (0, 6)), (0, (4, 0)), (1, (0, r7)), (2, (0, r8)), (3, (4, 1)), (4, (0, o4))]) (stN := []) (hsC := [(8, [(4, 2), (4, 3)], []), (101, [], [0, r7, r8, 0, 0, 0]), jgh, jgh]) (ex := []) (v := (1, (108917793695 * r7 + 159561683699 * r8) / 68719476736)) (st2 := [(1, (108917793695 * r7 + 159561683699 * r8) / 68719476736)]) (hs2 := [jzQ_16, jgh, (8, [(4, 13), (4, 14)], []), jgh, jgh, jgh, jgh, jgh, jgh, (101, [], [0, r7, r8, 0, 0, 0]), (101, [], [k9_0, k9_1, k9_2, k9_3, k9_4, k9_5]), jgh, jgh, jgh, jgh]) (jQl_sp45_116 (d := 0) (by omega) (by omega)) (by rfl) (by rfl) (by rfl) (by rfl) ⟨rfl, rfl, rfl, rfl, trivial⟩ (by rfl) (by rfl) (by omega) (by show 15 ≤ 15; omega) (by omega) (by omega) rfl rfl ?_
  have hb_q1 : (-60) ≤ (108917793695 * r7 + 159561683699 * r8) / 68719476736 ∧ (108917793695 * r7 + 159561683699 * r8) / 68719476736 ≤ 60 := ⟨by omega, by omega⟩
  generalize hq_q1 : (108917793695 * r7 + 159561683699 * r8) / 68719476736 = q1 at hb_q1 g_1 g_2 ⊢
  refine jT_xlstore (v := (1, q1)) (LN := [(5, (1, q1)), (0, (4, 0)), (1, (0, r7)), (2, (0, r8)), (3, (4, 1)), (4, (0, o4))]) (pcN := 71) jIQ_161_69 rfl rfl rfl rfl ?_
  have g_3 : 0 ≤ (-68719476736) * q1 + 108917793694 * r7 + 159561683698 * r8 - 1 := by have := jcg (b := r7) (c := r8) (by omega) (by omega) (by omega); rw [hq_q1] at this; omega
  have g_4 : 0 ≤ (-68719476736) * q1 + 108917793694 * r7 + 159561683700 * r8 - 1 := by have := jcg (b := r7) (c := r8) (by omega) (by omega) (by omega); rw [hq_q1] at this; omega
  have g_5 : 0 ≤ (-68719476736) * q1 + 108917793696 * r7 + 159561683698 * r8 - 1 := by have := jcg (b := r7) (c := r8) (by omega) (by omega) (by omega); rw [hq_q1] at this; omega
  have g_6 : 0 ≤ (-68719476736) * q1 + 108917793696 * r7 + 159561683700 * r8 - 1 := by have := jcg (b := r7) (c := r8) (by omega) (by omega) (by omega); rw [hq_q1] at this; omega
  refine jT_xiload (v := (0, o4)) (pcN := 73) jIQ_161_71 rfl rfl rfl ?_
  refine jT_ifF (a := o4) (t := 107) (by rfl) (by rfl) (by rfl) (jw_idd (by omega) (by omega)) (by simp only [jcP] <;> omega) ?_
  refine jT_xiload_n (v := (0, r7)) (pcN := 77) jIQ_161_76 rfl rfl rfl ?_
  refine jT_xi2l (x := r7) (z := r7) (pcN := 78) jIQ_161_77 rfl (jw_idd (by omega) (by omega)) rfl ?_
  refine jT_xaload_n (v := (4, 0)) (pcN := 79) jIQ_161_78 rfl rfl rfl ?_
  refine jT_xgetf (a := 0) (t := 1) (ci := 13) (fi := 8) (c := jzQ_16) (v := (4, 10)) (pcN := 82) jIQ_161_79 rfl rfl rfl rfl rfl rfl rfl ?_
  refine jT_xiconst (k := 1) (pcN := 83) jIQ_161_82 rfl ?_
  refine jT_lald (x := k9_1) (a := 10) (j := 1) (fs := []) (X := [k9_0, k9_1, k9_2, k9_3, k9_4, k9_5]) jIQ_161_83 rfl rfl rfl rfl ?_
  refine jT_eq (LN := [(5, (1, q1)), (0, (4, 0)), (1, (0, r7)), (2, (0, r8)), (3, (4, 1)), (4, (0, o4))]) (stN := [(1, k9_1), (1, r7)]) (hsN := [jzQ_16, jgh, (8, [(4, 13), (4, 14)], []), jgh, jgh, jgh, jgh, jgh, jgh, (101, [], [0, r7, r8, 0, 0, 0]), (101, [], [k9_0, k9_1, k9_2, k9_3, k9_4, k9_5]), jgh, jgh, jgh, jgh]) rfl rfl rfl ?_
  refine jT_xlmul (x := r7) (y := k9_1) (z := r7 * k9_1) (pcN := 85) jIQ_161_84 rfl rfl rfl ?_
  have hb_q2 := jmul_b2 (x := r7) (y := k9_1) (k := 1) (l := 2) (m := 20) (n := 158) (by omega) (by omega) (by omega) (by omega) (by omega) (by omega)
  have hb_q2 : 2 ≤ r7 * k9_1 ∧ r7 * k9_1 ≤ 3160 := ⟨by omega, by omega⟩
  generalize hq_q2 : r7 * k9_1 = q2 at hb_q2 g_1 g_2 ⊢
  refine jT_xiload_n (v := (0, r8)) (pcN := 86) jIQ_161_85 rfl rfl rfl ?_
  refine jT_xi2l (x := r8) (z := r8) (pcN := 87) jIQ_161_86 rfl (jw_idd (by omega) (by omega)) rfl ?_
  refine jT_xaload_n (v := (4, 0)) (pcN := 88) jIQ_161_87 rfl rfl rfl ?_
  refine jT_xgetf (a := 0) (t := 1) (ci := 13) (fi := 8) (c := jzQ_16) (v := (4, 10)) (pcN := 91) jIQ_161_88 rfl rfl rfl rfl rfl rfl rfl ?_
  refine jT_xiconst (k := 2) (pcN := 92) jIQ_161_91 rfl ?_
  refine jT_lald (x := k9_2) (a := 10) (j := 2) (fs := []) (X := [k9_0, k9_1, k9_2, k9_3, k9_4, k9_5]) jIQ_161_92 rfl rfl rfl rfl ?_
  refine jT_eq (LN := [(5, (1, q1)), (0, (4, 0)), (1, (0, r7)), (2, (0, r8)), (3, (4, 1)), (4, (0, o4))]) (stN := [(1, k9_2), (1, r8), (1, q2)]) (hsN := [jzQ_16, jgh, (8, [(4, 13), (4, 14)], []), jgh, jgh, jgh, jgh, jgh, jgh, (101, [], [0, r7, r8, 0, 0, 0]), (101, [], [k9_0, k9_1, k9_2, k9_3, k9_4, k9_5]), jgh, jgh, jgh, jgh]) rfl rfl rfl ?_
  refine jT_xlmul (x := r8) (y := k9_2) (z := r8 * k9_2) (pcN := 94) jIQ_161_93 rfl rfl rfl ?_
  have hb_q3 := jmul_bs (x := r8) (y := k9_2) (m := 10) (n := 232) (by omega) (by omega) (by omega) (by omega)
  have hb_q3 : (-2320) ≤ r8 * k9_2 ∧ r8 * k9_2 ≤ 2320 := ⟨by omega, by omega⟩
  generalize hq_q3 : r8 * k9_2 = q3 at hb_q3 g_1 g_2 ⊢
  refine jT_xladd (x := q2) (y := q3) (z := q2 + q3) (pcN := 95) jIQ_161_94 rfl (rfl) rfl ?_
  refine jT_xlload (v := (1, q1)) (pcN := 97) jIQ_161_95 rfl rfl rfl ?_
  refine jT_xiload (v := (0, o4)) (pcN := 99) jIQ_161_97 rfl rfl rfl ?_
  refine jT_xi2l (x := o4) (z := o4) (pcN := 100) jIQ_161_99 rfl (jw_idd (by omega) (by omega)) rfl ?_
  refine jT_xlmul (x := q1) (y := o4) (z := q1 * o4) (pcN := 101) jIQ_161_100 rfl rfl rfl ?_
  have hb_q4 := jmul_bs (x := q1) (y := o4) (m := 60) (n := 100) (by omega) (by omega) (by omega) (by omega)
  have hb_q4 : (-6000) ≤ q1 * o4 ∧ q1 * o4 ≤ 6000 := ⟨by omega, by omega⟩
  generalize hq_q4 : q1 * o4 = q4 at hb_q4 g_1 g_2 ⊢
  refine jT_lcmp (a := q2 + q3) (b := q4) (z := (-1)) (by rfl) (by rfl) (jwl_idd (by omega) (by omega)) (jwl_idd (by omega) (by omega)) (by rw [decide_eq_false (show ¬ ((q4 : Int) < q2 + q3) by omega), decide_eq_false (show ¬ ((q2 + q3 : Int) = q4) by omega)]; rfl) ?_
  refine jT_xifF (t := 107) (pcN := 105) jIQ_161_102 rfl (by decide +kernel) rfl rfl ?_
  refine jT_xiconst (k := 0) (pcN := 106) jIQ_161_105 rfl ?_
  subst hq_q4
  subst hq_q3
  subst hq_q2
  subst hq_q1
  exact jT_ret rfl (by decide) (by show 15 ≤ 15; omega) (by omega) (by omega) ⟨rfl, rfl, rfl⟩
theorem jQ_161_235 {xs : List Int} {d : Nat} {k9_0 k9_1 k9_2 k9_3 k9_4 k9_5 o4 r7 r8 u8_0 u8_1 u8_2 u8_3 u8_4 u8_5 : Int} (h_k9_0 : 1 ≤ k9_0 ∧ k9_0 ≤ 100) (h_k9_1 : 2 ≤ k9_1 ∧ k9_1 ≤ 158) (h_k9_2 : 2 ≤ k9_2 ∧ k9_2 ≤ 232) (h_k9_3 : 3 ≤ k9_3 ∧ k9_3 ≤ 281) (h_k9_4 : 3 ≤ k9_4 ∧ k9_4 ≤ 346) (h_k9_5 : 4 ≤ k9_5 ∧ k9_5 ≤ 370) (h_o4 : 1 ≤ o4 ∧ o4 ≤ 100) (h_r7 : (-20) ≤ r7 ∧ r7 ≤ 20) (h_r8 : (-10) ≤ r8 ∧ r8 ≤ 10) (g_0 : 0 < r7) (g_1 : -(((108917793695 * r7 + 159561683699 * r8) / 68719476736) * o4) + (r7 * k9_1) + (r8 * k9_2) - 1 < 0) (g_2 : 0 ≤ -(((108917793695 * r7 + 159561683699 * r8) / 68719476736) * o4) + (r7 * k9_1) + (r8 * k9_2)) : jT xs (d + 2) 161 16 0 [(0, (4, 0)), (1, (0, r7)), (2, (0, r8)), (3, (4, 1)), (4, (0, o4))] [] [jzQ_16, (4, [(4, 13), (1, 1)], []), (8, [(4, 14), (4, 15)], []), jgh, jgh, jgh, jgh, jgh, jgh, (101, [], [u8_0, u8_1, u8_2, u8_3, u8_4, u8_5]), (101, [], [k9_0, k9_1, k9_2, k9_3, k9_4, k9_5]), jgh, jgh, (101, [], [0, 0, 0, 0, 0, 0]), jgh, jgh] 0 0 (fun k v hsN => k = 0 ∧ v = (0, 0) ∧ hsN = [jzQ_16, (4, [(4, 13), (1, 1)], []), (8, [(4, 14), (4, 15)], []), jgh, jgh, jgh, jgh, jgh, jgh, (101, [], [(108917793695 * r7 + 159561683699 * r8) / 68719476736, -r7, -r8, 0, 0, 0]), (101, [], [k9_0, k9_1, k9_2, k9_3, k9_4, k9_5]), jgh, jgh, (101, [], [0, 0, 0, 0, 0, 0]), jgh, jgh]) := by
  refine jT_xiload_n (v := (0, r7)) (pcN := 1) jIQ_161_0 rfl rfl rfl ?_
  refine jT_ifT (a := r7) (t := 10) (by rfl) (by rfl) (by rfl) (jw_idd (by omega) (by omega)) (by simp only [jcP] <;> omega) ?_
  refine jT_xiconst (k := 0) (pcN := 11) jIQ_161_10 rfl ?_
  refine jT_xistore (v := (0, 0)) (LN := [(5, (0, 0)), (0, (4, 0)), (1, (0, r7)), (2, (0, r8)), (3, (4, 1)), (4, (0, o4))]) (pcN := 13) jIQ_161_11 rfl rfl rfl rfl ?_
  refine jT_xiload (v := (0, 0)) (pcN := 15) jIQ_161_13 rfl rfl rfl ?_
  refine jT_xbipush (k := 6) (pcN := 17) jIQ_161_15 (by decide) rfl ?_
  refine jT_xicF (t := 56) (pcN := 20) jIQ_161_17 rfl (by decide +kernel) rfl rfl ?_
  refine jT_xaload_n (v := (4, 0)) (pcN := 21) jIQ_161_20 rfl rfl rfl ?_
  refine jT_xgetf (a := 0) (t := 1) (ci := 13) (fi := 7) (c := jzQ_16) (v := (4, 9)) (pcN := 24) jIQ_161_21 rfl rfl rfl rfl rfl rfl rfl ?_
  refine jT_xiload (v := (0, 0)) (pcN := 26) jIQ_161_24 rfl rfl rfl ?_
  refine jT_xiload (v := (0, 0)) (pcN := 28) jIQ_161_26 rfl rfl rfl ?_
  refine jT_xiconst (k := 1) (pcN := 29) jIQ_161_28 rfl ?_
  refine jT_xicT (pcN := 37) jIQ_161_29 rfl (by decide +kernel) rfl ?_
  refine jT_xiload (v := (0, 0)) (pcN := 39) jIQ_161_37 rfl rfl rfl ?_
  refine jT_xiconst (k := 2) (pcN := 40) jIQ_161_39 rfl ?_
  refine jT_xicT (pcN := 48) jIQ_161_40 rfl (by decide +kernel) rfl ?_
  refine jT_xlconst (z := 0) (pcN := 49) jIQ_161_48 rfl rfl ?_
  refine jT_adv 1 (pcN := 50) (LN := [(5, (0, 0)), (0, (4, 0)), (1, (0, r7)), (2, (0, r8)), (3, (4, 1)), (4, (0, o4))]) (stN := []) (hsN := [jzQ_16, (4, [(4, 13), (1, 1)], []), (8, [(4, 14), (4, 15)], []), jgh, jgh, jgh, jgh, jgh, jgh, (101, [], [0, u8_1, u8_2, u8_3, u8_4, u8_5]), (101, [], [k9_0, k9_1, k9_2, k9_3, k9_4, k9_5]), jgh, jgh, (101, [], [0, 0, 0, 0, 0, 0]), jgh, jgh]) (c1 := 0) (s1 := 0) (c2 := 0) (s2 := 0) (by exact rfl) ?_ (by omega) (by omega)
  refine jT_xiinc (x := 0) (z := 1) (LN := [(5, (0, 1)), (0, (4, 0)), (1, (0, r7)), (2, (0, r8)), (3, (4, 1)), (4, (0, o4))]) (pcN := 53) jIQ_161_50 rfl rfl (by decide) rfl rfl ?_
  refine jT_xgoto (pcN := 13) jIQ_161_53 rfl ?_
  refine jT_xiload (v := (0, 1)) (pcN := 15) jIQ_161_13 rfl rfl rfl ?_
  refine jT_xbipush (k := 6) (pcN := 17) jIQ_161_15 (by decide) rfl ?_
  refine jT_xicF (t := 56) (pcN := 20) jIQ_161_17 rfl (by decide +kernel) rfl rfl ?_
  refine jT_xaload_n (v := (4, 0)) (pcN := 21) jIQ_161_20 rfl rfl rfl ?_
  refine jT_xgetf (a := 0) (t := 1) (ci := 13) (fi := 7) (c := jzQ_16) (v := (4, 9)) (pcN := 24) jIQ_161_21 rfl rfl rfl rfl rfl rfl rfl ?_
  refine jT_xiload (v := (0, 1)) (pcN := 26) jIQ_161_24 rfl rfl rfl ?_
  refine jT_xiload (v := (0, 1)) (pcN := 28) jIQ_161_26 rfl rfl rfl ?_
  refine jT_xiconst (k := 1) (pcN := 29) jIQ_161_28 rfl ?_
  refine jT_xicF (t := 37) (pcN := 32) jIQ_161_29 rfl (by decide +kernel) rfl rfl ?_
  refine jT_xiload_n (v := (0, r7)) (pcN := 33) jIQ_161_32 rfl rfl rfl ?_
  refine jT_xi2l (x := r7) (z := r7) (pcN := 34) jIQ_161_33 rfl (jw_idd (by omega) (by omega)) rfl ?_
  refine jT_xgoto (pcN := 49) jIQ_161_34 rfl ?_
  refine jT_adv 1 (pcN := 50) (LN := [(5, (0, 1)), (0, (4, 0)), (1, (0, r7)), (2, (0, r8)), (3, (4, 1)), (4, (0, o4))]) (stN := []) (hsN := [jzQ_16, (4, [(4, 13), (1, 1)], []), (8, [(4, 14), (4, 15)], []), jgh, jgh, jgh, jgh, jgh, jgh, (101, [], [0, r7, u8_2, u8_3, u8_4, u8_5]), (101, [], [k9_0, k9_1, k9_2, k9_3, k9_4, k9_5]), jgh, jgh, (101, [], [0, 0, 0, 0, 0, 0]), jgh, jgh]) (c1 := 0) (s1 := 0) (c2 := 0) (s2 := 0) (by exact rfl) ?_ (by omega) (by omega)
  refine jT_xiinc (x := 1) (z := 2) (LN := [(5, (0, 2)), (0, (4, 0)), (1, (0, r7)), (2, (0, r8)), (3, (4, 1)), (4, (0, o4))]) (pcN := 53) jIQ_161_50 rfl rfl (by decide) rfl rfl ?_
  refine jT_xgoto (pcN := 13) jIQ_161_53 rfl ?_
  refine jT_xiload (v := (0, 2)) (pcN := 15) jIQ_161_13 rfl rfl rfl ?_
  refine jT_xbipush (k := 6) (pcN := 17) jIQ_161_15 (by decide) rfl ?_
  refine jT_xicF (t := 56) (pcN := 20) jIQ_161_17 rfl (by decide +kernel) rfl rfl ?_
  refine jT_xaload_n (v := (4, 0)) (pcN := 21) jIQ_161_20 rfl rfl rfl ?_
  refine jT_xgetf (a := 0) (t := 1) (ci := 13) (fi := 7) (c := jzQ_16) (v := (4, 9)) (pcN := 24) jIQ_161_21 rfl rfl rfl rfl rfl rfl rfl ?_
  refine jT_xiload (v := (0, 2)) (pcN := 26) jIQ_161_24 rfl rfl rfl ?_
  refine jT_xiload (v := (0, 2)) (pcN := 28) jIQ_161_26 rfl rfl rfl ?_
  refine jT_xiconst (k := 1) (pcN := 29) jIQ_161_28 rfl ?_
  refine jT_xicT (pcN := 37) jIQ_161_29 rfl (by decide +kernel) rfl ?_
  refine jT_xiload (v := (0, 2)) (pcN := 39) jIQ_161_37 rfl rfl rfl ?_
  refine jT_xiconst (k := 2) (pcN := 40) jIQ_161_39 rfl ?_
  refine jT_xicF (t := 48) (pcN := 43) jIQ_161_40 rfl (by decide +kernel) rfl rfl ?_
  refine jT_xiload_n (v := (0, r8)) (pcN := 44) jIQ_161_43 rfl rfl rfl ?_
  refine jT_xi2l (x := r8) (z := r8) (pcN := 45) jIQ_161_44 rfl (jw_idd (by omega) (by omega)) rfl ?_
  refine jT_xgoto (pcN := 49) jIQ_161_45 rfl ?_
  refine jT_adv 1 (pcN := 50) (LN := [(5, (0, 2)), (0, (4, 0)), (1, (0, r7)), (2, (0, r8)), (3, (4, 1)), (4, (0, o4))]) (stN := []) (hsN := [jzQ_16, (4, [(4, 13), (1, 1)], []), (8, [(4, 14), (4, 15)], []), jgh, jgh, jgh, jgh, jgh, jgh, (101, [], [0, r7, r8, u8_3, u8_4, u8_5]), (101, [], [k9_0, k9_1, k9_2, k9_3, k9_4, k9_5]), jgh, jgh, (101, [], [0, 0, 0, 0, 0, 0]), jgh, jgh]) (c1 := 0) (s1 := 0) (c2 := 0) (s2 := 0) (by exact rfl) ?_ (by omega) (by omega)
  refine jT_xiinc (x := 2) (z := 3) (LN := [(5, (0, 3)), (0, (4, 0)), (1, (0, r7)), (2, (0, r8)), (3, (4, 1)), (4, (0, o4))]) (pcN := 53) jIQ_161_50 rfl rfl (by decide) rfl rfl ?_
  refine jT_xgoto (pcN := 13) jIQ_161_53 rfl ?_
  refine jT_xiload (v := (0, 3)) (pcN := 15) jIQ_161_13 rfl rfl rfl ?_
  refine jT_xbipush (k := 6) (pcN := 17) jIQ_161_15 (by decide) rfl ?_
  refine jT_xicF (t := 56) (pcN := 20) jIQ_161_17 rfl (by decide +kernel) rfl rfl ?_
  refine jT_xaload_n (v := (4, 0)) (pcN := 21) jIQ_161_20 rfl rfl rfl ?_
  refine jT_xgetf (a := 0) (t := 1) (ci := 13) (fi := 7) (c := jzQ_16) (v := (4, 9)) (pcN := 24) jIQ_161_21 rfl rfl rfl rfl rfl rfl rfl ?_
  refine jT_xiload (v := (0, 3)) (pcN := 26) jIQ_161_24 rfl rfl rfl ?_
  refine jT_xiload (v := (0, 3)) (pcN := 28) jIQ_161_26 rfl rfl rfl ?_
  refine jT_xiconst (k := 1) (pcN := 29) jIQ_161_28 rfl ?_
  refine jT_xicT (pcN := 37) jIQ_161_29 rfl (by decide +kernel) rfl ?_
  refine jT_xiload (v := (0, 3)) (pcN := 39) jIQ_161_37 rfl rfl rfl ?_
  refine jT_xiconst (k := 2) (pcN := 40) jIQ_161_39 rfl ?_
  refine jT_xicT (pcN := 48) jIQ_161_40 rfl (by decide +kernel) rfl ?_
  refine jT_xlconst (z := 0) (pcN := 49) jIQ_161_48 rfl rfl ?_
  refine jT_adv 1 (pcN := 50) (LN := [(5, (0, 3)), (0, (4, 0)), (1, (0, r7)), (2, (0, r8)), (3, (4, 1)), (4, (0, o4))]) (stN := []) (hsN := [jzQ_16, (4, [(4, 13), (1, 1)], []), (8, [(4, 14), (4, 15)], []), jgh, jgh, jgh, jgh, jgh, jgh, (101, [], [0, r7, r8, 0, u8_4, u8_5]), (101, [], [k9_0, k9_1, k9_2, k9_3, k9_4, k9_5]), jgh, jgh, (101, [], [0, 0, 0, 0, 0, 0]), jgh, jgh]) (c1 := 0) (s1 := 0) (c2 := 0) (s2 := 0) (by exact rfl) ?_ (by omega) (by omega)
  refine jT_xiinc (x := 3) (z := 4) (LN := [(5, (0, 4)), (0, (4, 0)), (1, (0, r7)), (2, (0, r8)), (3, (4, 1)), (4, (0, o4))]) (pcN := 53) jIQ_161_50 rfl rfl (by decide) rfl rfl ?_
  refine jT_xgoto (pcN := 13) jIQ_161_53 rfl ?_
  refine jT_xiload (v := (0, 4)) (pcN := 15) jIQ_161_13 rfl rfl rfl ?_
  refine jT_xbipush (k := 6) (pcN := 17) jIQ_161_15 (by decide) rfl ?_
  refine jT_xicF (t := 56) (pcN := 20) jIQ_161_17 rfl (by decide +kernel) rfl rfl ?_
  refine jT_xaload_n (v := (4, 0)) (pcN := 21) jIQ_161_20 rfl rfl rfl ?_
  refine jT_xgetf (a := 0) (t := 1) (ci := 13) (fi := 7) (c := jzQ_16) (v := (4, 9)) (pcN := 24) jIQ_161_21 rfl rfl rfl rfl rfl rfl rfl ?_
  refine jT_xiload (v := (0, 4)) (pcN := 26) jIQ_161_24 rfl rfl rfl ?_
  refine jT_xiload (v := (0, 4)) (pcN := 28) jIQ_161_26 rfl rfl rfl ?_
  refine jT_xiconst (k := 1) (pcN := 29) jIQ_161_28 rfl ?_
  refine jT_xicT (pcN := 37) jIQ_161_29 rfl (by decide +kernel) rfl ?_
  refine jT_xiload (v := (0, 4)) (pcN := 39) jIQ_161_37 rfl rfl rfl ?_
  refine jT_xiconst (k := 2) (pcN := 40) jIQ_161_39 rfl ?_
  refine jT_xicT (pcN := 48) jIQ_161_40 rfl (by decide +kernel) rfl ?_
  refine jT_xlconst (z := 0) (pcN := 49) jIQ_161_48 rfl rfl ?_
  refine jT_adv 1 (pcN := 50) (LN := [(5, (0, 4)), (0, (4, 0)), (1, (0, r7)), (2, (0, r8)), (3, (4, 1)), (4, (0, o4))]) (stN := []) (hsN := [jzQ_16, (4, [(4, 13), (1, 1)], []), (8, [(4, 14), (4, 15)], []), jgh, jgh, jgh, jgh, jgh, jgh, (101, [], [0, r7, r8, 0, 0, u8_5]), (101, [], [k9_0, k9_1, k9_2, k9_3, k9_4, k9_5]), jgh, jgh, (101, [], [0, 0, 0, 0, 0, 0]), jgh, jgh]) (c1 := 0) (s1 := 0) (c2 := 0) (s2 := 0) (by exact rfl) ?_ (by omega) (by omega)
  refine jT_xiinc (x := 4) (z := 5) (LN := [(5, (0, 5)), (0, (4, 0)), (1, (0, r7)), (2, (0, r8)), (3, (4, 1)), (4, (0, o4))]) (pcN := 53) jIQ_161_50 rfl rfl (by decide) rfl rfl ?_
  refine jT_xgoto (pcN := 13) jIQ_161_53 rfl ?_
  refine jT_xiload (v := (0, 5)) (pcN := 15) jIQ_161_13 rfl rfl rfl ?_
  refine jT_xbipush (k := 6) (pcN := 17) jIQ_161_15 (by decide) rfl ?_
  refine jT_xicF (t := 56) (pcN := 20) jIQ_161_17 rfl (by decide +kernel) rfl rfl ?_
  refine jT_xaload_n (v := (4, 0)) (pcN := 21) jIQ_161_20 rfl rfl rfl ?_
  refine jT_xgetf (a := 0) (t := 1) (ci := 13) (fi := 7) (c := jzQ_16) (v := (4, 9)) (pcN := 24) jIQ_161_21 rfl rfl rfl rfl rfl rfl rfl ?_
  refine jT_xiload (v := (0, 5)) (pcN := 26) jIQ_161_24 rfl rfl rfl ?_
  refine jT_xiload (v := (0, 5)) (pcN := 28) jIQ_161_26 rfl rfl rfl ?_
  refine jT_xiconst (k := 1) (pcN := 29) jIQ_161_28 rfl ?_
  refine jT_xicT (pcN := 37) jIQ_161_29 rfl (by decide +kernel) rfl ?_
  refine jT_xiload (v := (0, 5)) (pcN := 39) jIQ_161_37 rfl rfl rfl ?_
  refine jT_xiconst (k := 2) (pcN := 40) jIQ_161_39 rfl ?_
  refine jT_xicT (pcN := 48) jIQ_161_40 rfl (by decide +kernel) rfl ?_
  refine jT_xlconst (z := 0) (pcN := 49) jIQ_161_48 rfl rfl ?_
  refine jT_adv 1 (pcN := 50) (LN := [(5, (0, 5)), (0, (4, 0)), (1, (0, r7)), (2, (0, r8)), (3, (4, 1)), (4, (0, o4))]) (stN := []) (hsN := [jzQ_16, (4, [(4, 13), (1, 1)], []), (8, [(4, 14), (4, 15)], []), jgh, jgh, jgh, jgh, jgh, jgh, (101, [], [0, r7, r8, 0, 0, 0]), (101, [], [k9_0, k9_1, k9_2, k9_3, k9_4, k9_5]), jgh, jgh, (101, [], [0, 0, 0, 0, 0, 0]), jgh, jgh]) (c1 := 0) (s1 := 0) (c2 := 0) (s2 := 0) (by exact rfl) ?_ (by omega) (by omega)
  refine jT_xiinc (x := 5) (z := 6) (LN := [(5, (0, 6)), (0, (4, 0)), (1, (0, r7)), (2, (0, r8)), (3, (4, 1)), (4, (0, o4))]) (pcN := 53) jIQ_161_50 rfl rfl (by decide) rfl rfl ?_
  refine jT_xgoto (pcN := 13) jIQ_161_53 rfl ?_
  refine jT_xiload (v := (0, 6)) (pcN := 15) jIQ_161_13 rfl rfl rfl ?_
  refine jT_xbipush (k := 6) (pcN := 17) jIQ_161_15 (by decide) rfl ?_
  refine jT_xicT (pcN := 56) jIQ_161_17 rfl (by decide +kernel) rfl ?_
  refine jT_xaload_n (v := (4, 0)) (pcN := 57) jIQ_161_56 rfl rfl rfl ?_
  refine jT_xgetf (a := 0) (t := 1) (ci := 13) (fi := 0) (c := jzQ_16) (v := (4, 2)) (pcN := 60) jIQ_161_57 rfl rfl rfl rfl rfl rfl rfl ?_
  refine jT_xaload_n (v := (4, 0)) (pcN := 61) jIQ_161_60 rfl rfl rfl ?_
  refine jT_xgetf (a := 0) (t := 1) (ci := 13) (fi := 7) (c := jzQ_16) (v := (4, 9)) (pcN := 64) jIQ_161_61 rfl rfl rfl rfl rfl rfl rfl ?_
  refine jT_xlconst (z := 1) (pcN := 65) jIQ_161_64 rfl rfl ?_
  refine jT_xlconst (z := 1) (pcN := 66) jIQ_161_65 rfl rfl ?_
  refine jT_callA [2, 9, 14, 15] (y := 45) (pcN := 69) (dC := 1) (bc1 := 0) (bc2 := 0) (c1 := 0) (c2 := 0) (as := [(4, 2), (4, 9), (1, 1), (1, 1)]) (asC := [(4, 0), (4, 1), (1, 1), (1, 1)]) (LN := [(5, (0, 6)), (0, (4, 0)), (1, (0, r7)), (2, (0, r8)), (3, (4, 1)), (4, (0, o4))]) (stN := []) (hsC := [(8, [(4, 2), (4, 3)], []), (101, [], [0, r7, r8, 0, 0, 0]), jgh, jgh]) (ex := []) (v := (1, (108917793695 * r7 + 159561683699 * r8) / 68719476736)) (st2 := [(1, (108917793695 * r7 + 159561683699 * r8) / 68719476736)]) (hs2 := [jzQ_16, (4, [(4, 13), (1, 1)], []), (8, [(4, 14), (4, 15)], []), jgh, jgh, jgh, jgh, jgh, jgh, (101, [], [0, r7, r8, 0, 0, 0]), (101, [], [k9_0, k9_1, k9_2, k9_3, k9_4, k9_5]), jgh, jgh, (101, [], [0, 0, 0, 0, 0, 0]), jgh, jgh]) (jQl_sp45_116 (d := 0) (by omega) (by omega)) (by rfl) (by rfl) (by rfl) (by rfl) ⟨rfl, rfl, rfl, rfl, trivial⟩ (by rfl) (by rfl) (by omega) (by show 16 ≤ 16; omega) (by omega) (by omega) rfl rfl ?_
  have hb_q1 : (-60) ≤ (108917793695 * r7 + 159561683699 * r8) / 68719476736 ∧ (108917793695 * r7 + 159561683699 * r8) / 68719476736 ≤ 60 := ⟨by omega, by omega⟩
  generalize hq_q1 : (108917793695 * r7 + 159561683699 * r8) / 68719476736 = q1 at hb_q1 g_1 g_2 ⊢
  refine jT_xlstore (v := (1, q1)) (LN := [(5, (1, q1)), (0, (4, 0)), (1, (0, r7)), (2, (0, r8)), (3, (4, 1)), (4, (0, o4))]) (pcN := 71) jIQ_161_69 rfl rfl rfl rfl ?_
  have g_3 : 0 ≤ (-68719476736) * q1 + 108917793694 * r7 + 159561683698 * r8 - 1 := by have := jcg (b := r7) (c := r8) (by omega) (by omega) (by omega); rw [hq_q1] at this; omega
  have g_4 : 0 ≤ (-68719476736) * q1 + 108917793694 * r7 + 159561683700 * r8 - 1 := by have := jcg (b := r7) (c := r8) (by omega) (by omega) (by omega); rw [hq_q1] at this; omega
  have g_5 : 0 ≤ (-68719476736) * q1 + 108917793696 * r7 + 159561683698 * r8 - 1 := by have := jcg (b := r7) (c := r8) (by omega) (by omega) (by omega); rw [hq_q1] at this; omega
  have g_6 : 0 ≤ (-68719476736) * q1 + 108917793696 * r7 + 159561683700 * r8 - 1 := by have := jcg (b := r7) (c := r8) (by omega) (by omega) (by omega); rw [hq_q1] at this; omega
  refine jT_xiload (v := (0, o4)) (pcN := 73) jIQ_161_71 rfl rfl rfl ?_
  refine jT_ifF (a := o4) (t := 107) (by rfl) (by rfl) (by rfl) (jw_idd (by omega) (by omega)) (by simp only [jcP] <;> omega) ?_
  refine jT_xiload_n (v := (0, r7)) (pcN := 77) jIQ_161_76 rfl rfl rfl ?_
  refine jT_xi2l (x := r7) (z := r7) (pcN := 78) jIQ_161_77 rfl (jw_idd (by omega) (by omega)) rfl ?_
  refine jT_xaload_n (v := (4, 0)) (pcN := 79) jIQ_161_78 rfl rfl rfl ?_
  refine jT_xgetf (a := 0) (t := 1) (ci := 13) (fi := 8) (c := jzQ_16) (v := (4, 10)) (pcN := 82) jIQ_161_79 rfl rfl rfl rfl rfl rfl rfl ?_
  refine jT_xiconst (k := 1) (pcN := 83) jIQ_161_82 rfl ?_
  refine jT_lald (x := k9_1) (a := 10) (j := 1) (fs := []) (X := [k9_0, k9_1, k9_2, k9_3, k9_4, k9_5]) jIQ_161_83 rfl rfl rfl rfl ?_
  refine jT_eq (LN := [(5, (1, q1)), (0, (4, 0)), (1, (0, r7)), (2, (0, r8)), (3, (4, 1)), (4, (0, o4))]) (stN := [(1, k9_1), (1, r7)]) (hsN := [jzQ_16, (4, [(4, 13), (1, 1)], []), (8, [(4, 14), (4, 15)], []), jgh, jgh, jgh, jgh, jgh, jgh, (101, [], [0, r7, r8, 0, 0, 0]), (101, [], [k9_0, k9_1, k9_2, k9_3, k9_4, k9_5]), jgh, jgh, (101, [], [0, 0, 0, 0, 0, 0]), jgh, jgh]) rfl rfl rfl ?_
  refine jT_xlmul (x := r7) (y := k9_1) (z := r7 * k9_1) (pcN := 85) jIQ_161_84 rfl rfl rfl ?_
  have hb_q2 := jmul_b2 (x := r7) (y := k9_1) (k := 1) (l := 2) (m := 20) (n := 158) (by omega) (by omega) (by omega) (by omega) (by omega) (by omega)
  have hb_q2 : 2 ≤ r7 * k9_1 ∧ r7 * k9_1 ≤ 3160 := ⟨by omega, by omega⟩
  generalize hq_q2 : r7 * k9_1 = q2 at hb_q2 g_1 g_2 ⊢
  refine jT_xiload_n (v := (0, r8)) (pcN := 86) jIQ_161_85 rfl rfl rfl ?_
  refine jT_xi2l (x := r8) (z := r8) (pcN := 87) jIQ_161_86 rfl (jw_idd (by omega) (by omega)) rfl ?_
  refine jT_xaload_n (v := (4, 0)) (pcN := 88) jIQ_161_87 rfl rfl rfl ?_
  refine jT_xgetf (a := 0) (t := 1) (ci := 13) (fi := 8) (c := jzQ_16) (v := (4, 10)) (pcN := 91) jIQ_161_88 rfl rfl rfl rfl rfl rfl rfl ?_
  refine jT_xiconst (k := 2) (pcN := 92) jIQ_161_91 rfl ?_
  refine jT_lald (x := k9_2) (a := 10) (j := 2) (fs := []) (X := [k9_0, k9_1, k9_2, k9_3, k9_4, k9_5]) jIQ_161_92 rfl rfl rfl rfl ?_
  refine jT_eq (LN := [(5, (1, q1)), (0, (4, 0)), (1, (0, r7)), (2, (0, r8)), (3, (4, 1)), (4, (0, o4))]) (stN := [(1, k9_2), (1, r8), (1, q2)]) (hsN := [jzQ_16, (4, [(4, 13), (1, 1)], []), (8, [(4, 14), (4, 15)], []), jgh, jgh, jgh, jgh, jgh, jgh, (101, [], [0, r7, r8, 0, 0, 0]), (101, [], [k9_0, k9_1, k9_2, k9_3, k9_4, k9_5]), jgh, jgh, (101, [], [0, 0, 0, 0, 0, 0]), jgh, jgh]) rfl rfl rfl ?_
  refine jT_xlmul (x := r8) (y := k9_2) (z := r8 * k9_2) (pcN := 94) jIQ_161_93 rfl rfl rfl ?_
  have hb_q3 := jmul_bs (x := r8) (y := k9_2) (m := 10) (n := 232) (by omega) (by omega) (by omega) (by omega)
  have hb_q3 : (-2320) ≤ r8 * k9_2 ∧ r8 * k9_2 ≤ 2320 := ⟨by omega, by omega⟩
  generalize hq_q3 : r8 * k9_2 = q3 at hb_q3 g_1 g_2 ⊢
  refine jT_xladd (x := q2) (y := q3) (z := q2 + q3) (pcN := 95) jIQ_161_94 rfl (rfl) rfl ?_
  refine jT_xlload (v := (1, q1)) (pcN := 97) jIQ_161_95 rfl rfl rfl ?_
  refine jT_xiload (v := (0, o4)) (pcN := 99) jIQ_161_97 rfl rfl rfl ?_
  refine jT_xi2l (x := o4) (z := o4) (pcN := 100) jIQ_161_99 rfl (jw_idd (by omega) (by omega)) rfl ?_
  refine jT_xlmul (x := q1) (y := o4) (z := q1 * o4) (pcN := 101) jIQ_161_100 rfl rfl rfl ?_
  have hb_q4 := jmul_bs (x := q1) (y := o4) (m := 60) (n := 100) (by omega) (by omega) (by omega) (by omega)
  have hb_q4 : (-6000) ≤ q1 * o4 ∧ q1 * o4 ≤ 6000 := ⟨by omega, by omega⟩
  generalize hq_q4 : q1 * o4 = q4 at hb_q4 g_1 g_2 ⊢
  refine jT_lcmp (a := q2 + q3) (b := q4) (z := 0) (by rfl) (by rfl) (jwl_idd (by omega) (by omega)) (jwl_idd (by omega) (by omega)) (by rw [decide_eq_false (show ¬ ((q4 : Int) < q2 + q3) by omega), decide_eq_true (show (q2 + q3 : Int) = q4 by omega)]; rfl) ?_
  refine jT_xifT (pcN := 107) jIQ_161_102 rfl (by decide +kernel) rfl ?_
  refine jT_xaload_n (v := (4, 0)) (pcN := 108) jIQ_161_107 rfl rfl rfl ?_
  refine jT_xgetf (a := 0) (t := 1) (ci := 13) (fi := 7) (c := jzQ_16) (v := (4, 9)) (pcN := 111) jIQ_161_108 rfl rfl rfl rfl rfl rfl rfl ?_
  refine jT_xiconst (k := 0) (pcN := 112) jIQ_161_111 rfl ?_
  refine jT_xlload (v := (1, q1)) (pcN := 114) jIQ_161_112 rfl rfl rfl ?_
  refine jT_adv 2 (pcN := 116) (LN := [(5, (1, q1)), (0, (4, 0)), (1, (0, r7)), (2, (0, r8)), (3, (4, 1)), (4, (0, o4))]) (stN := []) (hsN := [jzQ_16, (4, [(4, 13), (1, 1)], []), (8, [(4, 14), (4, 15)], []), jgh, jgh, jgh, jgh, jgh, jgh, (101, [], [-q1, r7, r8, 0, 0, 0]), (101, [], [k9_0, k9_1, k9_2, k9_3, k9_4, k9_5]), jgh, jgh, (101, [], [0, 0, 0, 0, 0, 0]), jgh, jgh]) (c1 := 0) (s1 := 0) (c2 := 0) (s2 := 0) (by exact rfl) ?_ (by omega) (by omega)
  refine jT_xiconst (k := 0) (pcN := 117) jIQ_161_116 rfl ?_
  refine jT_xistore (v := (0, 0)) (LN := [(7, (0, 0)), (5, (1, q1)), (0, (4, 0)), (1, (0, r7)), (2, (0, r8)), (3, (4, 1)), (4, (0, o4))]) (pcN := 119) jIQ_161_117 rfl rfl rfl rfl ?_
  refine jT_xiload (v := (0, 0)) (pcN := 121) jIQ_161_119 rfl rfl rfl ?_
  refine jT_xbipush (k := 6) (pcN := 123) jIQ_161_121 (by decide) rfl ?_
  refine jT_xicF (t := 159) (pcN := 126) jIQ_161_123 rfl (by decide +kernel) rfl rfl ?_
  refine jT_xaload_n (v := (4, 0)) (pcN := 127) jIQ_161_126 rfl rfl rfl ?_
  refine jT_xgetf (a := 0) (t := 1) (ci := 13) (fi := 7) (c := jzQ_16) (v := (4, 9)) (pcN := 130) jIQ_161_127 rfl rfl rfl rfl rfl rfl rfl ?_
  refine jT_xiload (v := (0, 0)) (pcN := 132) jIQ_161_130 rfl rfl rfl ?_
  refine jT_xaload_n (v := (4, 1)) (pcN := 133) jIQ_161_132 rfl rfl rfl ?_
  refine jT_xgetf (a := 1) (t := 2) (ci := 4) (fi := 0) (c := (4, [(4, 13), (1, 1)], [])) (v := (4, 13)) (pcN := 136) jIQ_161_133 rfl rfl rfl rfl rfl rfl rfl ?_
  refine jT_xiload (v := (0, 0)) (pcN := 138) jIQ_161_136 rfl rfl rfl ?_
  refine jT_lald (x := 0) (a := 13) (j := 0) (fs := []) (X := [0, 0, 0, 0, 0, 0]) jIQ_161_138 rfl rfl rfl rfl ?_
  refine jT_eq (LN := [(7, (0, 0)), (5, (1, q1)), (0, (4, 0)), (1, (0, r7)), (2, (0, r8)), (3, (4, 1)), (4, (0, o4))]) (stN := [(1, 0), (0, 0), (4, 9)]) (hsN := [jzQ_16, (4, [(4, 13), (1, 1)], []), (8, [(4, 14), (4, 15)], []), jgh, jgh, jgh, jgh, jgh, jgh, (101, [], [-q1, r7, r8, 0, 0, 0]), (101, [], [k9_0, k9_1, k9_2, k9_3, k9_4, k9_5]), jgh, jgh, (101, [], [0, 0, 0, 0, 0, 0]), jgh, jgh]) rfl rfl rfl ?_
  refine jT_xaload_n (v := (4, 0)) (pcN := 140) jIQ_161_139 rfl rfl rfl ?_
  refine jT_xgetf (a := 0) (t := 1) (ci := 13) (fi := 7) (c := jzQ_16) (v := (4, 9)) (pcN := 143) jIQ_161_140 rfl rfl rfl rfl rfl rfl rfl ?_
  refine jT_xiload (v := (0, 0)) (pcN := 145) jIQ_161_143 rfl rfl rfl ?_
  refine jT_lald (x := -q1) (a := 9) (j := 0) (fs := []) (X := [-q1, r7, r8, 0, 0, 0]) jIQ_161_145 rfl rfl rfl rfl ?_
  refine jT_eq (LN := [(7, (0, 0)), (5, (1, q1)), (0, (4, 0)), (1, (0, r7)), (2, (0, r8)), (3, (4, 1)), (4, (0, o4))]) (stN := [(1, -q1), (1, 0), (0, 0), (4, 9)]) (hsN := [jzQ_16, (4, [(4, 13), (1, 1)], []), (8, [(4, 14), (4, 15)], []), jgh, jgh, jgh, jgh, jgh, jgh, (101, [], [-q1, r7, r8, 0, 0, 0]), (101, [], [k9_0, k9_1, k9_2, k9_3, k9_4, k9_5]), jgh, jgh, (101, [], [0, 0, 0, 0, 0, 0]), jgh, jgh]) rfl rfl rfl ?_
  refine jT_xaload_n (v := (4, 1)) (pcN := 147) jIQ_161_146 rfl rfl rfl ?_
  refine jT_xgetf (a := 1) (t := 2) (ci := 4) (fi := 1) (c := (4, [(4, 13), (1, 1)], [])) (v := (1, 1)) (pcN := 150) jIQ_161_147 rfl rfl rfl rfl rfl rfl rfl ?_
  refine jT_xlmul (x := -q1) (y := 1) (z := -q1) (pcN := 151) jIQ_161_150 rfl (by omega) rfl ?_
  refine jT_xlsub (x := 0) (y := -q1) (z := q1) (pcN := 152) jIQ_161_151 rfl (by omega) rfl ?_
  refine jT_adv 1 (pcN := 153) (LN := [(7, (0, 0)), (5, (1, q1)), (0, (4, 0)), (1, (0, r7)), (2, (0, r8)), (3, (4, 1)), (4, (0, o4))]) (stN := []) (hsN := [jzQ_16, (4, [(4, 13), (1, 1)], []), (8, [(4, 14), (4, 15)], []), jgh, jgh, jgh, jgh, jgh, jgh, (101, [], [q1, r7, r8, 0, 0, 0]), (101, [], [k9_0, k9_1, k9_2, k9_3, k9_4, k9_5]), jgh, jgh, (101, [], [0, 0, 0, 0, 0, 0]), jgh, jgh]) (c1 := 0) (s1 := 0) (c2 := 0) (s2 := 0) (by exact rfl) ?_ (by omega) (by omega)
  refine jT_xiinc (x := 0) (z := 1) (LN := [(7, (0, 1)), (5, (1, q1)), (0, (4, 0)), (1, (0, r7)), (2, (0, r8)), (3, (4, 1)), (4, (0, o4))]) (pcN := 156) jIQ_161_153 rfl rfl (by decide) rfl rfl ?_
  refine jT_xgoto (pcN := 119) jIQ_161_156 rfl ?_
  refine jT_xiload (v := (0, 1)) (pcN := 121) jIQ_161_119 rfl rfl rfl ?_
  refine jT_xbipush (k := 6) (pcN := 123) jIQ_161_121 (by decide) rfl ?_
  refine jT_xicF (t := 159) (pcN := 126) jIQ_161_123 rfl (by decide +kernel) rfl rfl ?_
  refine jT_xaload_n (v := (4, 0)) (pcN := 127) jIQ_161_126 rfl rfl rfl ?_
  refine jT_xgetf (a := 0) (t := 1) (ci := 13) (fi := 7) (c := jzQ_16) (v := (4, 9)) (pcN := 130) jIQ_161_127 rfl rfl rfl rfl rfl rfl rfl ?_
  refine jT_xiload (v := (0, 1)) (pcN := 132) jIQ_161_130 rfl rfl rfl ?_
  refine jT_xaload_n (v := (4, 1)) (pcN := 133) jIQ_161_132 rfl rfl rfl ?_
  refine jT_xgetf (a := 1) (t := 2) (ci := 4) (fi := 0) (c := (4, [(4, 13), (1, 1)], [])) (v := (4, 13)) (pcN := 136) jIQ_161_133 rfl rfl rfl rfl rfl rfl rfl ?_
  refine jT_xiload (v := (0, 1)) (pcN := 138) jIQ_161_136 rfl rfl rfl ?_
  refine jT_lald (x := 0) (a := 13) (j := 1) (fs := []) (X := [0, 0, 0, 0, 0, 0]) jIQ_161_138 rfl rfl rfl rfl ?_
  refine jT_eq (LN := [(7, (0, 1)), (5, (1, q1)), (0, (4, 0)), (1, (0, r7)), (2, (0, r8)), (3, (4, 1)), (4, (0, o4))]) (stN := [(1, 0), (0, 1), (4, 9)]) (hsN := [jzQ_16, (4, [(4, 13), (1, 1)], []), (8, [(4, 14), (4, 15)], []), jgh, jgh, jgh, jgh, jgh, jgh, (101, [], [q1, r7, r8, 0, 0, 0]), (101, [], [k9_0, k9_1, k9_2, k9_3, k9_4, k9_5]), jgh, jgh, (101, [], [0, 0, 0, 0, 0, 0]), jgh, jgh]) rfl rfl rfl ?_
  refine jT_xaload_n (v := (4, 0)) (pcN := 140) jIQ_161_139 rfl rfl rfl ?_
  refine jT_xgetf (a := 0) (t := 1) (ci := 13) (fi := 7) (c := jzQ_16) (v := (4, 9)) (pcN := 143) jIQ_161_140 rfl rfl rfl rfl rfl rfl rfl ?_
  refine jT_xiload (v := (0, 1)) (pcN := 145) jIQ_161_143 rfl rfl rfl ?_
  refine jT_lald (x := r7) (a := 9) (j := 1) (fs := []) (X := [q1, r7, r8, 0, 0, 0]) jIQ_161_145 rfl rfl rfl rfl ?_
  refine jT_eq (LN := [(7, (0, 1)), (5, (1, q1)), (0, (4, 0)), (1, (0, r7)), (2, (0, r8)), (3, (4, 1)), (4, (0, o4))]) (stN := [(1, r7), (1, 0), (0, 1), (4, 9)]) (hsN := [jzQ_16, (4, [(4, 13), (1, 1)], []), (8, [(4, 14), (4, 15)], []), jgh, jgh, jgh, jgh, jgh, jgh, (101, [], [q1, r7, r8, 0, 0, 0]), (101, [], [k9_0, k9_1, k9_2, k9_3, k9_4, k9_5]), jgh, jgh, (101, [], [0, 0, 0, 0, 0, 0]), jgh, jgh]) rfl rfl rfl ?_
  refine jT_xaload_n (v := (4, 1)) (pcN := 147) jIQ_161_146 rfl rfl rfl ?_
  refine jT_xgetf (a := 1) (t := 2) (ci := 4) (fi := 1) (c := (4, [(4, 13), (1, 1)], [])) (v := (1, 1)) (pcN := 150) jIQ_161_147 rfl rfl rfl rfl rfl rfl rfl ?_
  refine jT_xlmul (x := r7) (y := 1) (z := r7) (pcN := 151) jIQ_161_150 rfl (by omega) rfl ?_
  refine jT_xlsub (x := 0) (y := r7) (z := -r7) (pcN := 152) jIQ_161_151 rfl (by omega) rfl ?_
  refine jT_adv 1 (pcN := 153) (LN := [(7, (0, 1)), (5, (1, q1)), (0, (4, 0)), (1, (0, r7)), (2, (0, r8)), (3, (4, 1)), (4, (0, o4))]) (stN := []) (hsN := [jzQ_16, (4, [(4, 13), (1, 1)], []), (8, [(4, 14), (4, 15)], []), jgh, jgh, jgh, jgh, jgh, jgh, (101, [], [q1, -r7, r8, 0, 0, 0]), (101, [], [k9_0, k9_1, k9_2, k9_3, k9_4, k9_5]), jgh, jgh, (101, [], [0, 0, 0, 0, 0, 0]), jgh, jgh]) (c1 := 0) (s1 := 0) (c2 := 0) (s2 := 0) (by exact rfl) ?_ (by omega) (by omega)
  refine jT_xiinc (x := 1) (z := 2) (LN := [(7, (0, 2)), (5, (1, q1)), (0, (4, 0)), (1, (0, r7)), (2, (0, r8)), (3, (4, 1)), (4, (0, o4))]) (pcN := 156) jIQ_161_153 rfl rfl (by decide) rfl rfl ?_
  refine jT_xgoto (pcN := 119) jIQ_161_156 rfl ?_
  refine jT_xiload (v := (0, 2)) (pcN := 121) jIQ_161_119 rfl rfl rfl ?_
  refine jT_xbipush (k := 6) (pcN := 123) jIQ_161_121 (by decide) rfl ?_
  refine jT_xicF (t := 159) (pcN := 126) jIQ_161_123 rfl (by decide +kernel) rfl rfl ?_
  refine jT_xaload_n (v := (4, 0)) (pcN := 127) jIQ_161_126 rfl rfl rfl ?_
  refine jT_xgetf (a := 0) (t := 1) (ci := 13) (fi := 7) (c := jzQ_16) (v := (4, 9)) (pcN := 130) jIQ_161_127 rfl rfl rfl rfl rfl rfl rfl ?_
  refine jT_xiload (v := (0, 2)) (pcN := 132) jIQ_161_130 rfl rfl rfl ?_
  refine jT_xaload_n (v := (4, 1)) (pcN := 133) jIQ_161_132 rfl rfl rfl ?_
  refine jT_xgetf (a := 1) (t := 2) (ci := 4) (fi := 0) (c := (4, [(4, 13), (1, 1)], [])) (v := (4, 13)) (pcN := 136) jIQ_161_133 rfl rfl rfl rfl rfl rfl rfl ?_
  refine jT_xiload (v := (0, 2)) (pcN := 138) jIQ_161_136 rfl rfl rfl ?_
  refine jT_lald (x := 0) (a := 13) (j := 2) (fs := []) (X := [0, 0, 0, 0, 0, 0]) jIQ_161_138 rfl rfl rfl rfl ?_
  refine jT_eq (LN := [(7, (0, 2)), (5, (1, q1)), (0, (4, 0)), (1, (0, r7)), (2, (0, r8)), (3, (4, 1)), (4, (0, o4))]) (stN := [(1, 0), (0, 2), (4, 9)]) (hsN := [jzQ_16, (4, [(4, 13), (1, 1)], []), (8, [(4, 14), (4, 15)], []), jgh, jgh, jgh, jgh, jgh, jgh, (101, [], [q1, -r7, r8, 0, 0, 0]), (101, [], [k9_0, k9_1, k9_2, k9_3, k9_4, k9_5]), jgh, jgh, (101, [], [0, 0, 0, 0, 0, 0]), jgh, jgh]) rfl rfl rfl ?_
  refine jT_xaload_n (v := (4, 0)) (pcN := 140) jIQ_161_139 rfl rfl rfl ?_
  refine jT_xgetf (a := 0) (t := 1) (ci := 13) (fi := 7) (c := jzQ_16) (v := (4, 9)) (pcN := 143) jIQ_161_140 rfl rfl rfl rfl rfl rfl rfl ?_
  refine jT_xiload (v := (0, 2)) (pcN := 145) jIQ_161_143 rfl rfl rfl ?_
  refine jT_lald (x := r8) (a := 9) (j := 2) (fs := []) (X := [q1, -r7, r8, 0, 0, 0]) jIQ_161_145 rfl rfl rfl rfl ?_
  refine jT_eq (LN := [(7, (0, 2)), (5, (1, q1)), (0, (4, 0)), (1, (0, r7)), (2, (0, r8)), (3, (4, 1)), (4, (0, o4))]) (stN := [(1, r8), (1, 0), (0, 2), (4, 9)]) (hsN := [jzQ_16, (4, [(4, 13), (1, 1)], []), (8, [(4, 14), (4, 15)], []), jgh, jgh, jgh, jgh, jgh, jgh, (101, [], [q1, -r7, r8, 0, 0, 0]), (101, [], [k9_0, k9_1, k9_2, k9_3, k9_4, k9_5]), jgh, jgh, (101, [], [0, 0, 0, 0, 0, 0]), jgh, jgh]) rfl rfl rfl ?_
  refine jT_xaload_n (v := (4, 1)) (pcN := 147) jIQ_161_146 rfl rfl rfl ?_
  refine jT_xgetf (a := 1) (t := 2) (ci := 4) (fi := 1) (c := (4, [(4, 13), (1, 1)], [])) (v := (1, 1)) (pcN := 150) jIQ_161_147 rfl rfl rfl rfl rfl rfl rfl ?_
  refine jT_xlmul (x := r8) (y := 1) (z := r8) (pcN := 151) jIQ_161_150 rfl (by omega) rfl ?_
  refine jT_xlsub (x := 0) (y := r8) (z := -r8) (pcN := 152) jIQ_161_151 rfl (by omega) rfl ?_
  refine jT_adv 1 (pcN := 153) (LN := [(7, (0, 2)), (5, (1, q1)), (0, (4, 0)), (1, (0, r7)), (2, (0, r8)), (3, (4, 1)), (4, (0, o4))]) (stN := []) (hsN := [jzQ_16, (4, [(4, 13), (1, 1)], []), (8, [(4, 14), (4, 15)], []), jgh, jgh, jgh, jgh, jgh, jgh, (101, [], [q1, -r7, -r8, 0, 0, 0]), (101, [], [k9_0, k9_1, k9_2, k9_3, k9_4, k9_5]), jgh, jgh, (101, [], [0, 0, 0, 0, 0, 0]), jgh, jgh]) (c1 := 0) (s1 := 0) (c2 := 0) (s2 := 0) (by exact rfl) ?_ (by omega) (by omega)
  refine jT_xiinc (x := 2) (z := 3) (LN := [(7, (0, 3)), (5, (1, q1)), (0, (4, 0)), (1, (0, r7)), (2, (0, r8)), (3, (4, 1)), (4, (0, o4))]) (pcN := 156) jIQ_161_153 rfl rfl (by decide) rfl rfl ?_
  refine jT_xgoto (pcN := 119) jIQ_161_156 rfl ?_
  refine jT_xiload (v := (0, 3)) (pcN := 121) jIQ_161_119 rfl rfl rfl ?_
  refine jT_xbipush (k := 6) (pcN := 123) jIQ_161_121 (by decide) rfl ?_
  refine jT_xicF (t := 159) (pcN := 126) jIQ_161_123 rfl (by decide +kernel) rfl rfl ?_
  refine jT_xaload_n (v := (4, 0)) (pcN := 127) jIQ_161_126 rfl rfl rfl ?_
  refine jT_xgetf (a := 0) (t := 1) (ci := 13) (fi := 7) (c := jzQ_16) (v := (4, 9)) (pcN := 130) jIQ_161_127 rfl rfl rfl rfl rfl rfl rfl ?_
  refine jT_xiload (v := (0, 3)) (pcN := 132) jIQ_161_130 rfl rfl rfl ?_
  refine jT_xaload_n (v := (4, 1)) (pcN := 133) jIQ_161_132 rfl rfl rfl ?_
  refine jT_xgetf (a := 1) (t := 2) (ci := 4) (fi := 0) (c := (4, [(4, 13), (1, 1)], [])) (v := (4, 13)) (pcN := 136) jIQ_161_133 rfl rfl rfl rfl rfl rfl rfl ?_
  refine jT_xiload (v := (0, 3)) (pcN := 138) jIQ_161_136 rfl rfl rfl ?_
  refine jT_lald (x := 0) (a := 13) (j := 3) (fs := []) (X := [0, 0, 0, 0, 0, 0]) jIQ_161_138 rfl rfl rfl rfl ?_
  refine jT_eq (LN := [(7, (0, 3)), (5, (1, q1)), (0, (4, 0)), (1, (0, r7)), (2, (0, r8)), (3, (4, 1)), (4, (0, o4))]) (stN := [(1, 0), (0, 3), (4, 9)]) (hsN := [jzQ_16, (4, [(4, 13), (1, 1)], []), (8, [(4, 14), (4, 15)], []), jgh, jgh, jgh, jgh, jgh, jgh, (101, [], [q1, -r7, -r8, 0, 0, 0]), (101, [], [k9_0, k9_1, k9_2, k9_3, k9_4, k9_5]), jgh, jgh, (101, [], [0, 0, 0, 0, 0, 0]), jgh, jgh]) rfl rfl rfl ?_
  refine jT_xaload_n (v := (4, 0)) (pcN := 140) jIQ_161_139 rfl rfl rfl ?_
  refine jT_xgetf (a := 0) (t := 1) (ci := 13) (fi := 7) (c := jzQ_16) (v := (4, 9)) (pcN := 143) jIQ_161_140 rfl rfl rfl rfl rfl rfl rfl ?_
  refine jT_xiload (v := (0, 3)) (pcN := 145) jIQ_161_143 rfl rfl rfl ?_
  refine jT_lald (x := 0) (a := 9) (j := 3) (fs := []) (X := [q1, -r7, -r8, 0, 0, 0]) jIQ_161_145 rfl rfl rfl rfl ?_
  refine jT_eq (LN := [(7, (0, 3)), (5, (1, q1)), (0, (4, 0)), (1, (0, r7)), (2, (0, r8)), (3, (4, 1)), (4, (0, o4))]) (stN := [(1, 0), (1, 0), (0, 3), (4, 9)]) (hsN := [jzQ_16, (4, [(4, 13), (1, 1)], []), (8, [(4, 14), (4, 15)], []), jgh, jgh, jgh, jgh, jgh, jgh, (101, [], [q1, -r7, -r8, 0, 0, 0]), (101, [], [k9_0, k9_1, k9_2, k9_3, k9_4, k9_5]), jgh, jgh, (101, [], [0, 0, 0, 0, 0, 0]), jgh, jgh]) rfl rfl rfl ?_
  refine jT_xaload_n (v := (4, 1)) (pcN := 147) jIQ_161_146 rfl rfl rfl ?_
  refine jT_xgetf (a := 1) (t := 2) (ci := 4) (fi := 1) (c := (4, [(4, 13), (1, 1)], [])) (v := (1, 1)) (pcN := 150) jIQ_161_147 rfl rfl rfl rfl rfl rfl rfl ?_
  refine jT_xlmul (x := 0) (y := 1) (z := 0) (pcN := 151) jIQ_161_150 rfl (by decide) rfl ?_
  refine jT_xlsub (x := 0) (y := 0) (z := 0) (pcN := 152) jIQ_161_151 rfl (by decide) rfl ?_
  refine jT_adv 1 (pcN := 153) (LN := [(7, (0, 3)), (5, (1, q1)), (0, (4, 0)), (1, (0, r7)), (2, (0, r8)), (3, (4, 1)), (4, (0, o4))]) (stN := []) (hsN := [jzQ_16, (4, [(4, 13), (1, 1)], []), (8, [(4, 14), (4, 15)], []), jgh, jgh, jgh, jgh, jgh, jgh, (101, [], [q1, -r7, -r8, 0, 0, 0]), (101, [], [k9_0, k9_1, k9_2, k9_3, k9_4, k9_5]), jgh, jgh, (101, [], [0, 0, 0, 0, 0, 0]), jgh, jgh]) (c1 := 0) (s1 := 0) (c2 := 0) (s2 := 0) (by exact rfl) ?_ (by omega) (by omega)
  refine jT_xiinc (x := 3) (z := 4) (LN := [(7, (0, 4)), (5, (1, q1)), (0, (4, 0)), (1, (0, r7)), (2, (0, r8)), (3, (4, 1)), (4, (0, o4))]) (pcN := 156) jIQ_161_153 rfl rfl (by decide) rfl rfl ?_
  refine jT_xgoto (pcN := 119) jIQ_161_156 rfl ?_
  refine jT_xiload (v := (0, 4)) (pcN := 121) jIQ_161_119 rfl rfl rfl ?_
  refine jT_xbipush (k := 6) (pcN := 123) jIQ_161_121 (by decide) rfl ?_
  refine jT_xicF (t := 159) (pcN := 126) jIQ_161_123 rfl (by decide +kernel) rfl rfl ?_
  refine jT_xaload_n (v := (4, 0)) (pcN := 127) jIQ_161_126 rfl rfl rfl ?_
  refine jT_xgetf (a := 0) (t := 1) (ci := 13) (fi := 7) (c := jzQ_16) (v := (4, 9)) (pcN := 130) jIQ_161_127 rfl rfl rfl rfl rfl rfl rfl ?_
  refine jT_xiload (v := (0, 4)) (pcN := 132) jIQ_161_130 rfl rfl rfl ?_
  refine jT_xaload_n (v := (4, 1)) (pcN := 133) jIQ_161_132 rfl rfl rfl ?_
  refine jT_xgetf (a := 1) (t := 2) (ci := 4) (fi := 0) (c := (4, [(4, 13), (1, 1)], [])) (v := (4, 13)) (pcN := 136) jIQ_161_133 rfl rfl rfl rfl rfl rfl rfl ?_
  refine jT_xiload (v := (0, 4)) (pcN := 138) jIQ_161_136 rfl rfl rfl ?_
  refine jT_lald (x := 0) (a := 13) (j := 4) (fs := []) (X := [0, 0, 0, 0, 0, 0]) jIQ_161_138 rfl rfl rfl rfl ?_
  refine jT_eq (LN := [(7, (0, 4)), (5, (1, q1)), (0, (4, 0)), (1, (0, r7)), (2, (0, r8)), (3, (4, 1)), (4, (0, o4))]) (stN := [(1, 0), (0, 4), (4, 9)]) (hsN := [jzQ_16, (4, [(4, 13), (1, 1)], []), (8, [(4, 14), (4, 15)], []), jgh, jgh, jgh, jgh, jgh, jgh, (101, [], [q1, -r7, -r8, 0, 0, 0]), (101, [], [k9_0, k9_1, k9_2, k9_3, k9_4, k9_5]), jgh, jgh, (101, [], [0, 0, 0, 0, 0, 0]), jgh, jgh]) rfl rfl rfl ?_
  refine jT_xaload_n (v := (4, 0)) (pcN := 140) jIQ_161_139 rfl rfl rfl ?_
  refine jT_xgetf (a := 0) (t := 1) (ci := 13) (fi := 7) (c := jzQ_16) (v := (4, 9)) (pcN := 143) jIQ_161_140 rfl rfl rfl rfl rfl rfl rfl ?_
  refine jT_xiload (v := (0, 4)) (pcN := 145) jIQ_161_143 rfl rfl rfl ?_
  refine jT_lald (x := 0) (a := 9) (j := 4) (fs := []) (X := [q1, -r7, -r8, 0, 0, 0]) jIQ_161_145 rfl rfl rfl rfl ?_
  refine jT_eq (LN := [(7, (0, 4)), (5, (1, q1)), (0, (4, 0)), (1, (0, r7)), (2, (0, r8)), (3, (4, 1)), (4, (0, o4))]) (stN := [(1, 0), (1, 0), (0, 4), (4, 9)]) (hsN := [jzQ_16, (4, [(4, 13), (1, 1)], []), (8, [(4, 14), (4, 15)], []), jgh, jgh, jgh, jgh, jgh, jgh, (101, [], [q1, -r7, -r8, 0, 0, 0]), (101, [], [k9_0, k9_1, k9_2, k9_3, k9_4, k9_5]), jgh, jgh, (101, [], [0, 0, 0, 0, 0, 0]), jgh, jgh]) rfl rfl rfl ?_
  refine jT_xaload_n (v := (4, 1)) (pcN := 147) jIQ_161_146 rfl rfl rfl ?_
  refine jT_xgetf (a := 1) (t := 2) (ci := 4) (fi := 1) (c := (4, [(4, 13), (1, 1)], [])) (v := (1, 1)) (pcN := 150) jIQ_161_147 rfl rfl rfl rfl rfl rfl rfl ?_
  refine jT_xlmul (x := 0) (y := 1) (z := 0) (pcN := 151) jIQ_161_150 rfl (by decide) rfl ?_
  refine jT_xlsub (x := 0) (y := 0) (z := 0) (pcN := 152) jIQ_161_151 rfl (by decide) rfl ?_
  refine jT_adv 1 (pcN := 153) (LN := [(7, (0, 4)), (5, (1, q1)), (0, (4, 0)), (1, (0, r7)), (2, (0, r8)), (3, (4, 1)), (4, (0, o4))]) (stN := []) (hsN := [jzQ_16, (4, [(4, 13), (1, 1)], []), (8, [(4, 14), (4, 15)], []), jgh, jgh, jgh, jgh, jgh, jgh, (101, [], [q1, -r7, -r8, 0, 0, 0]), (101, [], [k9_0, k9_1, k9_2, k9_3, k9_4, k9_5]), jgh, jgh, (101, [], [0, 0, 0, 0, 0, 0]), jgh, jgh]) (c1 := 0) (s1 := 0) (c2 := 0) (s2 := 0) (by exact rfl) ?_ (by omega) (by omega)
  refine jT_xiinc (x := 4) (z := 5) (LN := [(7, (0, 5)), (5, (1, q1)), (0, (4, 0)), (1, (0, r7)), (2, (0, r8)), (3, (4, 1)), (4, (0, o4))]) (pcN := 156) jIQ_161_153 rfl rfl (by decide) rfl rfl ?_
  refine jT_xgoto (pcN := 119) jIQ_161_156 rfl ?_
  refine jT_xiload (v := (0, 5)) (pcN := 121) jIQ_161_119 rfl rfl rfl ?_
  refine jT_xbipush (k := 6) (pcN := 123) jIQ_161_121 (by decide) rfl ?_
  refine jT_xicF (t := 159) (pcN := 126) jIQ_161_123 rfl (by decide +kernel) rfl rfl ?_
  refine jT_xaload_n (v := (4, 0)) (pcN := 127) jIQ_161_126 rfl rfl rfl ?_
  refine jT_xgetf (a := 0) (t := 1) (ci := 13) (fi := 7) (c := jzQ_16) (v := (4, 9)) (pcN := 130) jIQ_161_127 rfl rfl rfl rfl rfl rfl rfl ?_
  refine jT_xiload (v := (0, 5)) (pcN := 132) jIQ_161_130 rfl rfl rfl ?_
  refine jT_xaload_n (v := (4, 1)) (pcN := 133) jIQ_161_132 rfl rfl rfl ?_
  refine jT_xgetf (a := 1) (t := 2) (ci := 4) (fi := 0) (c := (4, [(4, 13), (1, 1)], [])) (v := (4, 13)) (pcN := 136) jIQ_161_133 rfl rfl rfl rfl rfl rfl rfl ?_
  refine jT_xiload (v := (0, 5)) (pcN := 138) jIQ_161_136 rfl rfl rfl ?_
  refine jT_lald (x := 0) (a := 13) (j := 5) (fs := []) (X := [0, 0, 0, 0, 0, 0]) jIQ_161_138 rfl rfl rfl rfl ?_
  refine jT_eq (LN := [(7, (0, 5)), (5, (1, q1)), (0, (4, 0)), (1, (0, r7)), (2, (0, r8)), (3, (4, 1)), (4, (0, o4))]) (stN := [(1, 0), (0, 5), (4, 9)]) (hsN := [jzQ_16, (4, [(4, 13), (1, 1)], []), (8, [(4, 14), (4, 15)], []), jgh, jgh, jgh, jgh, jgh, jgh, (101, [], [q1, -r7, -r8, 0, 0, 0]), (101, [], [k9_0, k9_1, k9_2, k9_3, k9_4, k9_5]), jgh, jgh, (101, [], [0, 0, 0, 0, 0, 0]), jgh, jgh]) rfl rfl rfl ?_
  refine jT_xaload_n (v := (4, 0)) (pcN := 140) jIQ_161_139 rfl rfl rfl ?_
  refine jT_xgetf (a := 0) (t := 1) (ci := 13) (fi := 7) (c := jzQ_16) (v := (4, 9)) (pcN := 143) jIQ_161_140 rfl rfl rfl rfl rfl rfl rfl ?_
  refine jT_xiload (v := (0, 5)) (pcN := 145) jIQ_161_143 rfl rfl rfl ?_
  refine jT_lald (x := 0) (a := 9) (j := 5) (fs := []) (X := [q1, -r7, -r8, 0, 0, 0]) jIQ_161_145 rfl rfl rfl rfl ?_
  refine jT_eq (LN := [(7, (0, 5)), (5, (1, q1)), (0, (4, 0)), (1, (0, r7)), (2, (0, r8)), (3, (4, 1)), (4, (0, o4))]) (stN := [(1, 0), (1, 0), (0, 5), (4, 9)]) (hsN := [jzQ_16, (4, [(4, 13), (1, 1)], []), (8, [(4, 14), (4, 15)], []), jgh, jgh, jgh, jgh, jgh, jgh, (101, [], [q1, -r7, -r8, 0, 0, 0]), (101, [], [k9_0, k9_1, k9_2, k9_3, k9_4, k9_5]), jgh, jgh, (101, [], [0, 0, 0, 0, 0, 0]), jgh, jgh]) rfl rfl rfl ?_
  refine jT_xaload_n (v := (4, 1)) (pcN := 147) jIQ_161_146 rfl rfl rfl ?_
  refine jT_xgetf (a := 1) (t := 2) (ci := 4) (fi := 1) (c := (4, [(4, 13), (1, 1)], [])) (v := (1, 1)) (pcN := 150) jIQ_161_147 rfl rfl rfl rfl rfl rfl rfl ?_
  refine jT_xlmul (x := 0) (y := 1) (z := 0) (pcN := 151) jIQ_161_150 rfl (by decide) rfl ?_
  refine jT_xlsub (x := 0) (y := 0) (z := 0) (pcN := 152) jIQ_161_151 rfl (by decide) rfl ?_
  refine jT_adv 1 (pcN := 153) (LN := [(7, (0, 5)), (5, (1, q1)), (0, (4, 0)), (1, (0, r7)), (2, (0, r8)), (3, (4, 1)), (4, (0, o4))]) (stN := []) (hsN := [jzQ_16, (4, [(4, 13), (1, 1)], []), (8, [(4, 14), (4, 15)], []), jgh, jgh, jgh, jgh, jgh, jgh, (101, [], [q1, -r7, -r8, 0, 0, 0]), (101, [], [k9_0, k9_1, k9_2, k9_3, k9_4, k9_5]), jgh, jgh, (101, [], [0, 0, 0, 0, 0, 0]), jgh, jgh]) (c1 := 0) (s1 := 0) (c2 := 0) (s2 := 0) (by exact rfl) ?_ (by omega) (by omega)
  refine jT_xiinc (x := 5) (z := 6) (LN := [(7, (0, 6)), (5, (1, q1)), (0, (4, 0)), (1, (0, r7)), (2, (0, r8)), (3, (4, 1)), (4, (0, o4))]) (pcN := 156) jIQ_161_153 rfl rfl (by decide) rfl rfl ?_
  refine jT_xgoto (pcN := 119) jIQ_161_156 rfl ?_
  refine jT_xiload (v := (0, 6)) (pcN := 121) jIQ_161_119 rfl rfl rfl ?_
  refine jT_xbipush (k := 6) (pcN := 123) jIQ_161_121 (by decide) rfl ?_
  refine jT_xicT (pcN := 159) jIQ_161_123 rfl (by decide +kernel) rfl ?_
  refine jT_xaload_n (v := (4, 0)) (pcN := 160) jIQ_161_159 rfl rfl rfl ?_
  refine jT_xgetf (a := 0) (t := 1) (ci := 13) (fi := 0) (c := jzQ_16) (v := (4, 2)) (pcN := 163) jIQ_161_160 rfl rfl rfl rfl rfl rfl rfl ?_
  refine jT_xaload_n (v := (4, 0)) (pcN := 164) jIQ_161_163 rfl rfl rfl ?_
  refine jT_xgetf (a := 0) (t := 1) (ci := 13) (fi := 7) (c := jzQ_16) (v := (4, 9)) (pcN := 167) jIQ_161_164 rfl rfl rfl rfl rfl rfl rfl ?_
  refine jT_callA [2, 9, 14, 15] (y := 38) (pcN := 170) (dC := 1) (bc1 := 0) (bc2 := 0) (c1 := 0) (c2 := 0) (as := [(4, 2), (4, 9)]) (asC := [(4, 0), (4, 1)]) (LN := [(7, (0, 6)), (5, (1, q1)), (0, (4, 0)), (1, (0, r7)), (2, (0, r8)), (3, (4, 1)), (4, (0, o4))]) (stN := []) (hsC := [(8, [(4, 2), (4, 3)], []), (101, [], [q1, -r7, -r8, 0, 0, 0]), jgh, jgh]) (ex := []) (v := (0, (-1))) (st2 := [(0, (-1))]) (hs2 := [jzQ_16, (4, [(4, 13), (1, 1)], []), (8, [(4, 14), (4, 15)], []), jgh, jgh, jgh, jgh, jgh, jgh, (101, [], [q1, -r7, -r8, 0, 0, 0]), (101, [], [k9_0, k9_1, k9_2, k9_3, k9_4, k9_5]), jgh, jgh, (101, [], [0, 0, 0, 0, 0, 0]), jgh, jgh]) (jQl_sp38_117 (d := 0) (by omega) (by omega) (by omega) (by omega) (by omega) (by omega) (by omega)) (by rfl) (by rfl) (by rfl) (by rfl) ⟨rfl, rfl, rfl, rfl, trivial⟩ (by rfl) (by rfl) (by omega) (by show 16 ≤ 16; omega) (by omega) (by omega) rfl rfl ?_
  refine jT_xifT (pcN := 177) jIQ_161_170 rfl (by decide +kernel) rfl ?_
  refine jT_xiconst (k := 0) (pcN := 178) jIQ_161_177 rfl ?_
  subst hq_q4
  subst hq_q3
  subst hq_q2
  subst hq_q1
  exact jT_ret rfl (by decide) (by show 16 ≤ 16; omega) (by omega) (by omega) ⟨rfl, rfl, rfl⟩
theorem jQ_161_236 {xs : List Int} {d : Nat} {k9_0 k9_1 k9_2 k9_3 k9_4 k9_5 o4 r7 r8 u8_0 u8_1 u8_2 u8_3 u8_4 u8_5 : Int} (h_k9_0 : 1 ≤ k9_0 ∧ k9_0 ≤ 100) (h_k9_1 : 2 ≤ k9_1 ∧ k9_1 ≤ 158) (h_k9_2 : 2 ≤ k9_2 ∧ k9_2 ≤ 232) (h_k9_3 : 3 ≤ k9_3 ∧ k9_3 ≤ 281) (h_k9_4 : 3 ≤ k9_4 ∧ k9_4 ≤ 346) (h_k9_5 : 4 ≤ k9_5 ∧ k9_5 ≤ 370) (h_o4 : 1 ≤ o4 ∧ o4 ≤ 100) (h_r7 : (-20) ≤ r7 ∧ r7 ≤ 20) (h_r8 : (-10) ≤ r8 ∧ r8 ≤ 10) (g_0 : 0 < r7) (g_1 : 0 ≤ -(((108917793695 * r7 + 159561683699 * r8) / 68719476736) * o4) + (r7 * k9_1) + (r8 * k9_2) - 1) : jT xs (d + 2) 161 15 0 [(0, (4, 0)), (1, (0, r7)), (2, (0, r8)), (3, (4, 1)), (4, (0, o4))] [] [jzQ_16, jgh, (8, [(4, 13), (4, 14)], []), jgh, jgh, jgh, jgh, jgh, jgh, (101, [], [u8_0, u8_1, u8_2, u8_3, u8_4, u8_5]), (101, [], [k9_0, k9_1, k9_2, k9_3, k9_4, k9_5]), jgh, jgh, jgh, jgh] 0 0 (fun k v hsN => k = 0 ∧ v = (0, 0) ∧ hsN = [jzQ_16, jgh, (8, [(4, 13), (4, 14)], []), jgh, jgh, jgh, jgh, jgh, jgh, (101, [], [0, r7, r8, 0, 0, 0]), (101, [], [k9_0, k9_1, k9_2, k9_3, k9_4, k9_5]), jgh, jgh, jgh, jgh]) := by
  refine jT_xiload_n (v := (0, r7)) (pcN := 1) jIQ_161_0 rfl rfl rfl ?_
  refine jT_ifT (a := r7) (t := 10) (by rfl) (by rfl) (by rfl) (jw_idd (by omega) (by omega)) (by simp only [jcP] <;> omega) ?_
  refine jT_xiconst (k := 0) (pcN := 11) jIQ_161_10 rfl ?_
  refine jT_xistore (v := (0, 0)) (LN := [(5, (0, 0)), (0, (4, 0)), (1, (0, r7)), (2, (0, r8)), (3, (4, 1)), (4, (0, o4))]) (pcN := 13) jIQ_161_11 rfl rfl rfl rfl ?_
  refine jT_xiload (v := (0, 0)) (pcN := 15) jIQ_161_13 rfl rfl rfl ?_
  refine jT_xbipush (k := 6) (pcN := 17) jIQ_161_15 (by decide) rfl ?_
  refine jT_xicF (t := 56) (pcN := 20) jIQ_161_17 rfl (by decide +kernel) rfl rfl ?_
  refine jT_xaload_n (v := (4, 0)) (pcN := 21) jIQ_161_20 rfl rfl rfl ?_
  refine jT_xgetf (a := 0) (t := 1) (ci := 13) (fi := 7) (c := jzQ_16) (v := (4, 9)) (pcN := 24) jIQ_161_21 rfl rfl rfl rfl rfl rfl rfl ?_
  refine jT_xiload (v := (0, 0)) (pcN := 26) jIQ_161_24 rfl rfl rfl ?_
  refine jT_xiload (v := (0, 0)) (pcN := 28) jIQ_161_26 rfl rfl rfl ?_
  refine jT_xiconst (k := 1) (pcN := 29) jIQ_161_28 rfl ?_
  refine jT_xicT (pcN := 37) jIQ_161_29 rfl (by decide +kernel) rfl ?_
  refine jT_xiload (v := (0, 0)) (pcN := 39) jIQ_161_37 rfl rfl rfl ?_
  refine jT_xiconst (k := 2) (pcN := 40) jIQ_161_39 rfl ?_
  refine jT_xicT (pcN := 48) jIQ_161_40 rfl (by decide +kernel) rfl ?_
  refine jT_xlconst (z := 0) (pcN := 49) jIQ_161_48 rfl rfl ?_
  refine jT_adv 1 (pcN := 50) (LN := [(5, (0, 0)), (0, (4, 0)), (1, (0, r7)), (2, (0, r8)), (3, (4, 1)), (4, (0, o4))]) (stN := []) (hsN := [jzQ_16, jgh, (8, [(4, 13), (4, 14)], []), jgh, jgh, jgh, jgh, jgh, jgh, (101, [], [0, u8_1, u8_2, u8_3, u8_4, u8_5]), (101, [], [k9_0, k9_1, k9_2, k9_3, k9_4, k9_5]), jgh, jgh, jgh, jgh]) (c1 := 0) (s1 := 0) (c2 := 0) (s2 := 0) (by exact rfl) ?_ (by omega) (by omega)
  refine jT_xiinc (x := 0) (z := 1) (LN := [(5, (0, 1)), (0, (4, 0)), (1, (0, r7)), (2, (0, r8)), (3, (4, 1)), (4, (0, o4))]) (pcN := 53) jIQ_161_50 rfl rfl (by decide) rfl rfl ?_
  refine jT_xgoto (pcN := 13) jIQ_161_53 rfl ?_
  refine jT_xiload (v := (0, 1)) (pcN := 15) jIQ_161_13 rfl rfl rfl ?_
  refine jT_xbipush (k := 6) (pcN := 17) jIQ_161_15 (by decide) rfl ?_
  refine jT_xicF (t := 56) (pcN := 20) jIQ_161_17 rfl (by decide +kernel) rfl rfl ?_
  refine jT_xaload_n (v := (4, 0)) (pcN := 21) jIQ_161_20 rfl rfl rfl ?_
  refine jT_xgetf (a := 0) (t := 1) (ci := 13) (fi := 7) (c := jzQ_16) (v := (4, 9)) (pcN := 24) jIQ_161_21 rfl rfl rfl rfl rfl rfl rfl ?_
  refine jT_xiload (v := (0, 1)) (pcN := 26) jIQ_161_24 rfl rfl rfl ?_
  refine jT_xiload (v := (0, 1)) (pcN := 28) jIQ_161_26 rfl rfl rfl ?_
  refine jT_xiconst (k := 1) (pcN := 29) jIQ_161_28 rfl ?_
  refine jT_xicF (t := 37) (pcN := 32) jIQ_161_29 rfl (by decide +kernel) rfl rfl ?_
  refine jT_xiload_n (v := (0, r7)) (pcN := 33) jIQ_161_32 rfl rfl rfl ?_
  refine jT_xi2l (x := r7) (z := r7) (pcN := 34) jIQ_161_33 rfl (jw_idd (by omega) (by omega)) rfl ?_
  refine jT_xgoto (pcN := 49) jIQ_161_34 rfl ?_
  refine jT_adv 1 (pcN := 50) (LN := [(5, (0, 1)), (0, (4, 0)), (1, (0, r7)), (2, (0, r8)), (3, (4, 1)), (4, (0, o4))]) (stN := []) (hsN := [jzQ_16, jgh, (8, [(4, 13), (4, 14)], []), jgh, jgh, jgh, jgh, jgh, jgh, (101, [], [0, r7, u8_2, u8_3, u8_4, u8_5]), (101, [], [k9_0, k9_1, k9_2, k9_3, k9_4, k9_5]), jgh, jgh, jgh, jgh]) (c1 := 0) (s1 := 0) (c2 := 0) (s2 := 0) (by exact rfl) ?_ (by omega) (by omega)
  refine jT_xiinc (x := 1) (z := 2) (LN := [(5, (0, 2)), (0, (4, 0)), (1, (0, r7)), (2, (0, r8)), (3, (4, 1)), (4, (0, o4))]) (pcN := 53) jIQ_161_50 rfl rfl (by decide) rfl rfl ?_
  refine jT_xgoto (pcN := 13) jIQ_161_53 rfl ?_
  refine jT_xiload (v := (0, 2)) (pcN := 15) jIQ_161_13 rfl rfl rfl ?_
  refine jT_xbipush (k := 6) (pcN := 17) jIQ_161_15 (by decide) rfl ?_
  refine jT_xicF (t := 56) (pcN := 20) jIQ_161_17 rfl (by decide +kernel) rfl rfl ?_
  refine jT_xaload_n (v := (4, 0)) (pcN := 21) jIQ_161_20 rfl rfl rfl ?_
  refine jT_xgetf (a := 0) (t := 1) (ci := 13) (fi := 7) (c := jzQ_16) (v := (4, 9)) (pcN := 24) jIQ_161_21 rfl rfl rfl rfl rfl rfl rfl ?_
  refine jT_xiload (v := (0, 2)) (pcN := 26) jIQ_161_24 rfl rfl rfl ?_
  refine jT_xiload (v := (0, 2)) (pcN := 28) jIQ_161_26 rfl rfl rfl ?_
  refine jT_xiconst (k := 1) (pcN := 29) jIQ_161_28 rfl ?_
  refine jT_xicT (pcN := 37) jIQ_161_29 rfl (by decide +kernel) rfl ?_
  refine jT_xiload (v := (0, 2)) (pcN := 39) jIQ_161_37 rfl rfl rfl ?_
  refine jT_xiconst (k := 2) (pcN := 40) jIQ_161_39 rfl ?_
  refine jT_xicF (t := 48) (pcN := 43) jIQ_161_40 rfl (by decide +kernel) rfl rfl ?_
  refine jT_xiload_n (v := (0, r8)) (pcN := 44) jIQ_161_43 rfl rfl rfl ?_
  refine jT_xi2l (x := r8) (z := r8) (pcN := 45) jIQ_161_44 rfl (jw_idd (by omega) (by omega)) rfl ?_
  refine jT_xgoto (pcN := 49) jIQ_161_45 rfl ?_
  refine jT_adv 1 (pcN := 50) (LN := [(5, (0, 2)), (0, (4, 0)), (1, (0, r7)), (2, (0, r8)), (3, (4, 1)), (4, (0, o4))]) (stN := []) (hsN := [jzQ_16, jgh, (8, [(4, 13), (4, 14)], []), jgh, jgh, jgh, jgh, jgh, jgh, (101, [], [0, r7, r8, u8_3, u8_4, u8_5]), (101, [], [k9_0, k9_1, k9_2, k9_3, k9_4, k9_5]), jgh, jgh, jgh, jgh]) (c1 := 0) (s1 := 0) (c2 := 0) (s2 := 0) (by exact rfl) ?_ (by omega) (by omega)
  refine jT_xiinc (x := 2) (z := 3) (LN := [(5, (0, 3)), (0, (4, 0)), (1, (0, r7)), (2, (0, r8)), (3, (4, 1)), (4, (0, o4))]) (pcN := 53) jIQ_161_50 rfl rfl (by decide) rfl rfl ?_
  refine jT_xgoto (pcN := 13) jIQ_161_53 rfl ?_
  refine jT_xiload (v := (0, 3)) (pcN := 15) jIQ_161_13 rfl rfl rfl ?_
  refine jT_xbipush (k := 6) (pcN := 17) jIQ_161_15 (by decide) rfl ?_
  refine jT_xicF (t := 56) (pcN := 20) jIQ_161_17 rfl (by decide +kernel) rfl rfl ?_
  refine jT_xaload_n (v := (4, 0)) (pcN := 21) jIQ_161_20 rfl rfl rfl ?_
  refine jT_xgetf (a := 0) (t := 1) (ci := 13) (fi := 7) (c := jzQ_16) (v := (4, 9)) (pcN := 24) jIQ_161_21 rfl rfl rfl rfl rfl rfl rfl ?_
  refine jT_xiload (v := (0, 3)) (pcN := 26) jIQ_161_24 rfl rfl rfl ?_
  refine jT_xiload (v := (0, 3)) (pcN := 28) jIQ_161_26 rfl rfl rfl ?_
  refine jT_xiconst (k := 1) (pcN := 29) jIQ_161_28 rfl ?_
  refine jT_xicT (pcN := 37) jIQ_161_29 rfl (by decide +kernel) rfl ?_
  refine jT_xiload (v := (0, 3)) (pcN := 39) jIQ_161_37 rfl rfl rfl ?_
  refine jT_xiconst (k := 2) (pcN := 40) jIQ_161_39 rfl ?_
  refine jT_xicT (pcN := 48) jIQ_161_40 rfl (by decide +kernel) rfl ?_
  refine jT_xlconst (z := 0) (pcN := 49) jIQ_161_48 rfl rfl ?_
  refine jT_adv 1 (pcN := 50) (LN := [(5, (0, 3)), (0, (4, 0)), (1, (0, r7)), (2, (0, r8)), (3, (4, 1)), (4, (0, o4))]) (stN := []) (hsN := [jzQ_16, jgh, (8, [(4, 13), (4, 14)], []), jgh, jgh, jgh, jgh, jgh, jgh, (101, [], [0, r7, r8, 0, u8_4, u8_5]), (101, [], [k9_0, k9_1, k9_2, k9_3, k9_4, k9_5]), jgh, jgh, jgh, jgh]) (c1 := 0) (s1 := 0) (c2 := 0) (s2 := 0) (by exact rfl) ?_ (by omega) (by omega)
  refine jT_xiinc (x := 3) (z := 4) (LN := [(5, (0, 4)), (0, (4, 0)), (1, (0, r7)), (2, (0, r8)), (3, (4, 1)), (4, (0, o4))]) (pcN := 53) jIQ_161_50 rfl rfl (by decide) rfl rfl ?_
  refine jT_xgoto (pcN := 13) jIQ_161_53 rfl ?_
  refine jT_xiload (v := (0, 4)) (pcN := 15) jIQ_161_13 rfl rfl rfl ?_
  refine jT_xbipush (k := 6) (pcN := 17) jIQ_161_15 (by decide) rfl ?_
  refine jT_xicF (t := 56) (pcN := 20) jIQ_161_17 rfl (by decide +kernel) rfl rfl ?_
  refine jT_xaload_n (v := (4, 0)) (pcN := 21) jIQ_161_20 rfl rfl rfl ?_
  refine jT_xgetf (a := 0) (t := 1) (ci := 13) (fi := 7) (c := jzQ_16) (v := (4, 9)) (pcN := 24) jIQ_161_21 rfl rfl rfl rfl rfl rfl rfl ?_
  refine jT_xiload (v := (0, 4)) (pcN := 26) jIQ_161_24 rfl rfl rfl ?_
  refine jT_xiload (v := (0, 4)) (pcN := 28) jIQ_161_26 rfl rfl rfl ?_
  refine jT_xiconst (k := 1) (pcN := 29) jIQ_161_28 rfl ?_
  refine jT_xicT (pcN := 37) jIQ_161_29 rfl (by decide +kernel) rfl ?_
  refine jT_xiload (v := (0, 4)) (pcN := 39) jIQ_161_37 rfl rfl rfl ?_
  refine jT_xiconst (k := 2) (pcN := 40) jIQ_161_39 rfl ?_
  refine jT_xicT (pcN := 48) jIQ_161_40 rfl (by decide +kernel) rfl ?_
  refine jT_xlconst (z := 0) (pcN := 49) jIQ_161_48 rfl rfl ?_
  refine jT_adv 1 (pcN := 50) (LN := [(5, (0, 4)), (0, (4, 0)), (1, (0, r7)), (2, (0, r8)), (3, (4, 1)), (4, (0, o4))]) (stN := []) (hsN := [jzQ_16, jgh, (8, [(4, 13), (4, 14)], []), jgh, jgh, jgh, jgh, jgh, jgh, (101, [], [0, r7, r8, 0, 0, u8_5]), (101, [], [k9_0, k9_1, k9_2, k9_3, k9_4, k9_5]), jgh, jgh, jgh, jgh]) (c1 := 0) (s1 := 0) (c2 := 0) (s2 := 0) (by exact rfl) ?_ (by omega) (by omega)
  refine jT_xiinc (x := 4) (z := 5) (LN := [(5, (0, 5)), (0, (4, 0)), (1, (0, r7)), (2, (0, r8)), (3, (4, 1)), (4, (0, o4))]) (pcN := 53) jIQ_161_50 rfl rfl (by decide) rfl rfl ?_
  refine jT_xgoto (pcN := 13) jIQ_161_53 rfl ?_
  refine jT_xiload (v := (0, 5)) (pcN := 15) jIQ_161_13 rfl rfl rfl ?_
  refine jT_xbipush (k := 6) (pcN := 17) jIQ_161_15 (by decide) rfl ?_
  refine jT_xicF (t := 56) (pcN := 20) jIQ_161_17 rfl (by decide +kernel) rfl rfl ?_
  refine jT_xaload_n (v := (4, 0)) (pcN := 21) jIQ_161_20 rfl rfl rfl ?_
  refine jT_xgetf (a := 0) (t := 1) (ci := 13) (fi := 7) (c := jzQ_16) (v := (4, 9)) (pcN := 24) jIQ_161_21 rfl rfl rfl rfl rfl rfl rfl ?_
  refine jT_xiload (v := (0, 5)) (pcN := 26) jIQ_161_24 rfl rfl rfl ?_
  refine jT_xiload (v := (0, 5)) (pcN := 28) jIQ_161_26 rfl rfl rfl ?_
  refine jT_xiconst (k := 1) (pcN := 29) jIQ_161_28 rfl ?_
  refine jT_xicT (pcN := 37) jIQ_161_29 rfl (by decide +kernel) rfl ?_
  refine jT_xiload (v := (0, 5)) (pcN := 39) jIQ_161_37 rfl rfl rfl ?_
  refine jT_xiconst (k := 2) (pcN := 40) jIQ_161_39 rfl ?_
  refine jT_xicT (pcN := 48) jIQ_161_40 rfl (by decide +kernel) rfl ?_
  refine jT_xlconst (z := 0) (pcN := 49) jIQ_161_48 rfl rfl ?_
  refine jT_adv 1 (pcN := 50) (LN := [(5, (0, 5)), (0, (4, 0)), (1, (0, r7)), (2, (0, r8)), (3, (4, 1)), (4, (0, o4))]) (stN := []) (hsN := [jzQ_16, jgh, (8, [(4, 13), (4, 14)], []), jgh, jgh, jgh, jgh, jgh, jgh, (101, [], [0, r7, r8, 0, 0, 0]), (101, [], [k9_0, k9_1, k9_2, k9_3, k9_4, k9_5]), jgh, jgh, jgh, jgh]) (c1 := 0) (s1 := 0) (c2 := 0) (s2 := 0) (by exact rfl) ?_ (by omega) (by omega)
  refine jT_xiinc (x := 5) (z := 6) (LN := [(5, (0, 6)), (0, (4, 0)), (1, (0, r7)), (2, (0, r8)), (3, (4, 1)), (4, (0, o4))]) (pcN := 53) jIQ_161_50 rfl rfl (by decide) rfl rfl ?_
  refine jT_xgoto (pcN := 13) jIQ_161_53 rfl ?_
  refine jT_xiload (v := (0, 6)) (pcN := 15) jIQ_161_13 rfl rfl rfl ?_
  refine jT_xbipush (k := 6) (pcN := 17) jIQ_161_15 (by decide) rfl ?_
  refine jT_xicT (pcN := 56) jIQ_161_17 rfl (by decide +kernel) rfl ?_
  refine jT_xaload_n (v := (4, 0)) (pcN := 57) jIQ_161_56 rfl rfl rfl ?_
  refine jT_xgetf (a := 0) (t := 1) (ci := 13) (fi := 0) (c := jzQ_16) (v := (4, 2)) (pcN := 60) jIQ_161_57 rfl rfl rfl rfl rfl rfl rfl ?_
  refine jT_xaload_n (v := (4, 0)) (pcN := 61) jIQ_161_60 rfl rfl rfl ?_
  refine jT_xgetf (a := 0) (t := 1) (ci := 13) (fi := 7) (c := jzQ_16) (v := (4, 9)) (pcN := 64) jIQ_161_61 rfl rfl rfl rfl rfl rfl rfl ?_
  refine jT_xlconst (z := 1) (pcN := 65) jIQ_161_64 rfl rfl ?_
  refine jT_xlconst (z := 1) (pcN := 66) jIQ_161_65 rfl rfl ?_
  refine jT_callA [2, 9, 13, 14] (y := 45) (pcN := 69) (dC := 1) (bc1 := 0) (bc2 := 0) (c1 := 0) (c2 := 0) (as := [(4, 2), (4, 9), (1, 1), (1, 1)]) (asC := [(4, 0), (4, 1), (1, 1), (1, 1)]) (LN := [(5, (0, 6)), (0, (4, 0)), (1, (0, r7)), (2, (0, r8)), (3, (4, 1)), (4, (0, o4))]) (stN := []) (hsC := [(8, [(4, 2), (4, 3)], []), (101, [], [0, r7, r8, 0, 0, 0]), jgh, jgh]) (ex := []) (v := (1, (108917793695 * r7 + 159561683699 * r8) / 68719476736)) (st2 := [(1, (108917793695 * r7 + 159561683699 * r8) / 68719476736)]) (hs2 := [jzQ_16, jgh, (8, [(4, 13), (4, 14)], []), jgh, jgh, jgh, jgh, jgh, jgh, (101, [], [0, r7, r8, 0, 0, 0]), (101, [], [k9_0, k9_1, k9_2, k9_3, k9_4, k9_5]), jgh, jgh, jgh, jgh]) (jQl_sp45_116 (d := 0) (by omega) (by omega)) (by rfl) (by rfl) (by rfl) (by rfl) ⟨rfl, rfl, rfl, rfl, trivial⟩ (by rfl) (by rfl) (by omega) (by show 15 ≤ 15; omega) (by omega) (by omega) rfl rfl ?_
  have hb_q1 : (-60) ≤ (108917793695 * r7 + 159561683699 * r8) / 68719476736 ∧ (108917793695 * r7 + 159561683699 * r8) / 68719476736 ≤ 60 := ⟨by omega, by omega⟩
  generalize hq_q1 : (108917793695 * r7 + 159561683699 * r8) / 68719476736 = q1 at hb_q1 g_1 ⊢
  refine jT_xlstore (v := (1, q1)) (LN := [(5, (1, q1)), (0, (4, 0)), (1, (0, r7)), (2, (0, r8)), (3, (4, 1)), (4, (0, o4))]) (pcN := 71) jIQ_161_69 rfl rfl rfl rfl ?_
  have g_2 : 0 ≤ (-68719476736) * q1 + 108917793694 * r7 + 159561683698 * r8 - 1 := by have := jcg (b := r7) (c := r8) (by omega) (by omega) (by omega); rw [hq_q1] at this; omega
  have g_3 : 0 ≤ (-68719476736) * q1 + 108917793694 * r7 + 159561683700 * r8 - 1 := by have := jcg (b := r7) (c := r8) (by omega) (by omega) (by omega); rw [hq_q1] at this; omega
  have g_4 : 0 ≤ (-68719476736) * q1 + 108917793696 * r7 + 159561683698 * r8 - 1 := by have := jcg (b := r7) (c := r8) (by omega) (by omega) (by omega); rw [hq_q1] at this; omega
  have g_5 : 0 ≤ (-68719476736) * q1 + 108917793696 * r7 + 159561683700 * r8 - 1 := by have := jcg (b := r7) (c := r8) (by omega) (by omega) (by omega); rw [hq_q1] at this; omega
  refine jT_xiload (v := (0, o4)) (pcN := 73) jIQ_161_71 rfl rfl rfl ?_
  refine jT_ifF (a := o4) (t := 107) (by rfl) (by rfl) (by rfl) (jw_idd (by omega) (by omega)) (by simp only [jcP] <;> omega) ?_
  refine jT_xiload_n (v := (0, r7)) (pcN := 77) jIQ_161_76 rfl rfl rfl ?_
  refine jT_xi2l (x := r7) (z := r7) (pcN := 78) jIQ_161_77 rfl (jw_idd (by omega) (by omega)) rfl ?_
  refine jT_xaload_n (v := (4, 0)) (pcN := 79) jIQ_161_78 rfl rfl rfl ?_
  refine jT_xgetf (a := 0) (t := 1) (ci := 13) (fi := 8) (c := jzQ_16) (v := (4, 10)) (pcN := 82) jIQ_161_79 rfl rfl rfl rfl rfl rfl rfl ?_
  refine jT_xiconst (k := 1) (pcN := 83) jIQ_161_82 rfl ?_
  refine jT_lald (x := k9_1) (a := 10) (j := 1) (fs := []) (X := [k9_0, k9_1, k9_2, k9_3, k9_4, k9_5]) jIQ_161_83 rfl rfl rfl rfl ?_
  refine jT_eq (LN := [(5, (1, q1)), (0, (4, 0)), (1, (0, r7)), (2, (0, r8)), (3, (4, 1)), (4, (0, o4))]) (stN := [(1, k9_1), (1, r7)]) (hsN := [jzQ_16, jgh, (8, [(4, 13), (4, 14)], []), jgh, jgh, jgh, jgh, jgh, jgh, (101, [], [0, r7, r8, 0, 0, 0]), (101, [], [k9_0, k9_1, k9_2, k9_3, k9_4, k9_5]), jgh, jgh, jgh, jgh]) rfl rfl rfl ?_
  refine jT_xlmul (x := r7) (y := k9_1) (z := r7 * k9_1) (pcN := 85) jIQ_161_84 rfl rfl rfl ?_
  have hb_q2 := jmul_b2 (x := r7) (y := k9_1) (k := 1) (l := 2) (m := 20) (n := 158) (by omega) (by omega) (by omega) (by omega) (by omega) (by omega)
  have hb_q2 : 2 ≤ r7 * k9_1 ∧ r7 * k9_1 ≤ 3160 := ⟨by omega, by omega⟩
  generalize hq_q2 : r7 * k9_1 = q2 at hb_q2 g_1 ⊢
  refine jT_xiload_n (v := (0, r8)) (pcN := 86) jIQ_161_85 rfl rfl rfl ?_
  refine jT_xi2l (x := r8) (z := r8) (pcN := 87) jIQ_161_86 rfl (jw_idd (by omega) (by omega)) rfl ?_
  refine jT_xaload_n (v := (4, 0)) (pcN := 88) jIQ_161_87 rfl rfl rfl ?_
  refine jT_xgetf (a := 0) (t := 1) (ci := 13) (fi := 8) (c := jzQ_16) (v := (4, 10)) (pcN := 91) jIQ_161_88 rfl rfl rfl rfl rfl rfl rfl ?_
  refine jT_xiconst (k := 2) (pcN := 92) jIQ_161_91 rfl ?_
  refine jT_lald (x := k9_2) (a := 10) (j := 2) (fs := []) (X := [k9_0, k9_1, k9_2, k9_3, k9_4, k9_5]) jIQ_161_92 rfl rfl rfl rfl ?_
  refine jT_eq (LN := [(5, (1, q1)), (0, (4, 0)), (1, (0, r7)), (2, (0, r8)), (3, (4, 1)), (4, (0, o4))]) (stN := [(1, k9_2), (1, r8), (1, q2)]) (hsN := [jzQ_16, jgh, (8, [(4, 13), (4, 14)], []), jgh, jgh, jgh, jgh, jgh, jgh, (101, [], [0, r7, r8, 0, 0, 0]), (101, [], [k9_0, k9_1, k9_2, k9_3, k9_4, k9_5]), jgh, jgh, jgh, jgh]) rfl rfl rfl ?_
  refine jT_xlmul (x := r8) (y := k9_2) (z := r8 * k9_2) (pcN := 94) jIQ_161_93 rfl rfl rfl ?_
  have hb_q3 := jmul_bs (x := r8) (y := k9_2) (m := 10) (n := 232) (by omega) (by omega) (by omega) (by omega)
  have hb_q3 : (-2320) ≤ r8 * k9_2 ∧ r8 * k9_2 ≤ 2320 := ⟨by omega, by omega⟩
  generalize hq_q3 : r8 * k9_2 = q3 at hb_q3 g_1 ⊢
  refine jT_xladd (x := q2) (y := q3) (z := q2 + q3) (pcN := 95) jIQ_161_94 rfl (rfl) rfl ?_
  refine jT_xlload (v := (1, q1)) (pcN := 97) jIQ_161_95 rfl rfl rfl ?_
  refine jT_xiload (v := (0, o4)) (pcN := 99) jIQ_161_97 rfl rfl rfl ?_
  refine jT_xi2l (x := o4) (z := o4) (pcN := 100) jIQ_161_99 rfl (jw_idd (by omega) (by omega)) rfl ?_
  refine jT_xlmul (x := q1) (y := o4) (z := q1 * o4) (pcN := 101) jIQ_161_100 rfl rfl rfl ?_
  have hb_q4 := jmul_bs (x := q1) (y := o4) (m := 60) (n := 100) (by omega) (by omega) (by omega) (by omega)
  have hb_q4 : (-6000) ≤ q1 * o4 ∧ q1 * o4 ≤ 6000 := ⟨by omega, by omega⟩
  generalize hq_q4 : q1 * o4 = q4 at hb_q4 g_1 ⊢
  refine jT_lcmp (a := q2 + q3) (b := q4) (z := 1) (by rfl) (by rfl) (jwl_idd (by omega) (by omega)) (jwl_idd (by omega) (by omega)) (by rw [decide_eq_true (show (q4 : Int) < q2 + q3 by omega)]; rfl) ?_
  refine jT_xifF (t := 107) (pcN := 105) jIQ_161_102 rfl (by decide +kernel) rfl rfl ?_
  refine jT_xiconst (k := 0) (pcN := 106) jIQ_161_105 rfl ?_
  subst hq_q4
  subst hq_q3
  subst hq_q2
  subst hq_q1
  exact jT_ret rfl (by decide) (by show 15 ≤ 15; omega) (by omega) (by omega) ⟨rfl, rfl, rfl⟩
theorem jQ_161_237 {xs : List Int} {d : Nat} {k9_0 k9_1 k9_2 k9_3 k9_4 k9_5 o4 r7 r8 u8_0 u8_1 u8_2 u8_3 u8_4 u8_5 : Int} (h_k9_0 : 1 ≤ k9_0 ∧ k9_0 ≤ 100) (h_k9_1 : 2 ≤ k9_1 ∧ k9_1 ≤ 158) (h_k9_2 : 2 ≤ k9_2 ∧ k9_2 ≤ 232) (h_k9_3 : 3 ≤ k9_3 ∧ k9_3 ≤ 281) (h_k9_4 : 3 ≤ k9_4 ∧ k9_4 ≤ 346) (h_k9_5 : 4 ≤ k9_5 ∧ k9_5 ≤ 370) (h_o4 : 1 ≤ o4 ∧ o4 ≤ 100) (h_r7 : (-20) ≤ r7 ∧ r7 ≤ 20) (h_r8 : (-10) ≤ r8 ∧ r8 ≤ 10) (g_0 : 0 ≤ r7) (g_1 : r7 ≤ 0) (g_2 : 0 < r8) (g_3 : -(((108917793695 * r7 + 159561683699 * r8) / 68719476736) * o4) + (r7 * k9_1) + (r8 * k9_2) - 1 < 0) (g_4 : -(((108917793695 * r7 + 159561683699 * r8) / 68719476736) * o4) + (r7 * k9_1) + (r8 * k9_2) < 0) : jT xs (d + 2) 161 15 0 [(0, (4, 0)), (1, (0, r7)), (2, (0, r8)), (3, (4, 1)), (4, (0, o4))] [] [jzQ_16, jgh, (8, [(4, 13), (4, 14)], []), jgh, jgh, jgh, jgh, jgh, jgh, (101, [], [u8_0, u8_1, u8_2, u8_3, u8_4, u8_5]), (101, [], [k9_0, k9_1, k9_2, k9_3, k9_4, k9_5]), jgh, jgh, jgh, jgh] 0 0 (fun k v hsN => k = 0 ∧ v = (0, 0) ∧ hsN = [jzQ_16, jgh, (8, [(4, 13), (4, 14)], []), jgh, jgh, jgh, jgh, jgh, jgh, (101, [], [0, r7, r8, 0, 0, 0]), (101, [], [k9_0, k9_1, k9_2, k9_3, k9_4, k9_5]), jgh, jgh, jgh, jgh]) := by
  refine jT_xiload_n (v := (0, r7)) (pcN := 1) jIQ_161_0 rfl rfl rfl ?_
  refine jT_ifF (a := r7) (t := 10) (by rfl) (by rfl) (by rfl) (jw_idd (by omega) (by omega)) (by simp only [jcP] <;> omega) ?_
  refine jT_xiload_n (v := (0, r8)) (pcN := 5) jIQ_161_4 rfl rfl rfl ?_
  refine jT_ifT (a := r8) (t := 10) (by rfl) (by rfl) (by rfl) (jw_idd (by omega) (by omega)) (by simp only [jcP] <;> omega) ?_
  refine jT_xiconst (k := 0) (pcN := 11) jIQ_161_10 rfl ?_
  refine jT_xistore (v := (0, 0)) (LN := [(5, (0, 0)), (0, (4, 0)), (1, (0, r7)), (2, (0, r8)), (3, (4, 1)), (4, (0, o4))]) (pcN := 13) jIQ_161_11 rfl rfl rfl rfl ?_
  refine jT_xiload (v := (0, 0)) (pcN := 15) jIQ_161_13 rfl rfl rfl ?_
  refine jT_xbipush (k := 6) (pcN := 17) jIQ_161_15 (by decide) rfl ?_
  refine jT_xicF (t := 56) (pcN := 20) jIQ_161_17 rfl (by decide +kernel) rfl rfl ?_
  refine jT_xaload_n (v := (4, 0)) (pcN := 21) jIQ_161_20 rfl rfl rfl ?_
  refine jT_xgetf (a := 0) (t := 1) (ci := 13) (fi := 7) (c := jzQ_16) (v := (4, 9)) (pcN := 24) jIQ_161_21 rfl rfl rfl rfl rfl rfl rfl ?_
  refine jT_xiload (v := (0, 0)) (pcN := 26) jIQ_161_24 rfl rfl rfl ?_
  refine jT_xiload (v := (0, 0)) (pcN := 28) jIQ_161_26 rfl rfl rfl ?_
  refine jT_xiconst (k := 1) (pcN := 29) jIQ_161_28 rfl ?_
  refine jT_xicT (pcN := 37) jIQ_161_29 rfl (by decide +kernel) rfl ?_
  refine jT_xiload (v := (0, 0)) (pcN := 39) jIQ_161_37 rfl rfl rfl ?_
  refine jT_xiconst (k := 2) (pcN := 40) jIQ_161_39 rfl ?_
  refine jT_xicT (pcN := 48) jIQ_161_40 rfl (by decide +kernel) rfl ?_
  refine jT_xlconst (z := 0) (pcN := 49) jIQ_161_48 rfl rfl ?_
  refine jT_adv 1 (pcN := 50) (LN := [(5, (0, 0)), (0, (4, 0)), (1, (0, r7)), (2, (0, r8)), (3, (4, 1)), (4, (0, o4))]) (stN := []) (hsN := [jzQ_16, jgh, (8, [(4, 13), (4, 14)], []), jgh, jgh, jgh, jgh, jgh, jgh, (101, [], [0, u8_1, u8_2, u8_3, u8_4, u8_5]), (101, [], [k9_0, k9_1, k9_2, k9_3, k9_4, k9_5]), jgh, jgh, jgh, jgh]) (c1 := 0) (s1 := 0) (c2 := 0) (s2 := 0) (by exact rfl) ?_ (by omega) (by omega)
  refine jT_xiinc (x := 0) (z := 1) (LN := [(5, (0, 1)), (0, (4, 0)), (1, (0, r7)), (2, (0, r8)), (3, (4, 1)), (4, (0, o4))]) (pcN := 53) jIQ_161_50 rfl rfl (by decide) rfl rfl ?_
  refine jT_xgoto (pcN := 13) jIQ_161_53 rfl ?_
  refine jT_xiload (v := (0, 1)) (pcN := 15) jIQ_161_13 rfl rfl rfl ?_
  refine jT_xbipush (k := 6) (pcN := 17) jIQ_161_15 (by decide) rfl ?_
  refine jT_xicF (t := 56) (pcN := 20) jIQ_161_17 rfl (by decide +kernel) rfl rfl ?_
  refine jT_xaload_n (v := (4, 0)) (pcN := 21) jIQ_161_20 rfl rfl rfl ?_
  refine jT_xgetf (a := 0) (t := 1) (ci := 13) (fi := 7) (c := jzQ_16) (v := (4, 9)) (pcN := 24) jIQ_161_21 rfl rfl rfl rfl rfl rfl rfl ?_
  refine jT_xiload (v := (0, 1)) (pcN := 26) jIQ_161_24 rfl rfl rfl ?_
  refine jT_xiload (v := (0, 1)) (pcN := 28) jIQ_161_26 rfl rfl rfl ?_
  refine jT_xiconst (k := 1) (pcN := 29) jIQ_161_28 rfl ?_
  refine jT_xicF (t := 37) (pcN := 32) jIQ_161_29 rfl (by decide +kernel) rfl rfl ?_
  refine jT_xiload_n (v := (0, r7)) (pcN := 33) jIQ_161_32 rfl rfl rfl ?_
  refine jT_xi2l (x := r7) (z := r7) (pcN := 34) jIQ_161_33 rfl (jw_idd (by omega) (by omega)) rfl ?_
  refine jT_xgoto (pcN := 49) jIQ_161_34 rfl ?_
  refine jT_adv 1 (pcN := 50) (LN := [(5, (0, 1)), (0, (4, 0)), (1, (0, r7)), (2, (0, r8)), (3, (4, 1)), (4, (0, o4))]) (stN := []) (hsN := [jzQ_16, jgh, (8, [(4, 13), (4, 14)], []), jgh, jgh, jgh, jgh, jgh, jgh, (101, [], [0, r7, u8_2, u8_3, u8_4, u8_5]), (101, [], [k9_0, k9_1, k9_2, k9_3, k9_4, k9_5]), jgh, jgh, jgh, jgh]) (c1 := 0) (s1 := 0) (c2 := 0) (s2 := 0) (by exact rfl) ?_ (by omega) (by omega)
  refine jT_xiinc (x := 1) (z := 2) (LN := [(5, (0, 2)), (0, (4, 0)), (1, (0, r7)), (2, (0, r8)), (3, (4, 1)), (4, (0, o4))]) (pcN := 53) jIQ_161_50 rfl rfl (by decide) rfl rfl ?_
  refine jT_xgoto (pcN := 13) jIQ_161_53 rfl ?_
  refine jT_xiload (v := (0, 2)) (pcN := 15) jIQ_161_13 rfl rfl rfl ?_
  refine jT_xbipush (k := 6) (pcN := 17) jIQ_161_15 (by decide) rfl ?_
  refine jT_xicF (t := 56) (pcN := 20) jIQ_161_17 rfl (by decide +kernel) rfl rfl ?_
  refine jT_xaload_n (v := (4, 0)) (pcN := 21) jIQ_161_20 rfl rfl rfl ?_
  refine jT_xgetf (a := 0) (t := 1) (ci := 13) (fi := 7) (c := jzQ_16) (v := (4, 9)) (pcN := 24) jIQ_161_21 rfl rfl rfl rfl rfl rfl rfl ?_
  refine jT_xiload (v := (0, 2)) (pcN := 26) jIQ_161_24 rfl rfl rfl ?_
  refine jT_xiload (v := (0, 2)) (pcN := 28) jIQ_161_26 rfl rfl rfl ?_
  refine jT_xiconst (k := 1) (pcN := 29) jIQ_161_28 rfl ?_
  refine jT_xicT (pcN := 37) jIQ_161_29 rfl (by decide +kernel) rfl ?_
  refine jT_xiload (v := (0, 2)) (pcN := 39) jIQ_161_37 rfl rfl rfl ?_
  refine jT_xiconst (k := 2) (pcN := 40) jIQ_161_39 rfl ?_
  refine jT_xicF (t := 48) (pcN := 43) jIQ_161_40 rfl (by decide +kernel) rfl rfl ?_
  refine jT_xiload_n (v := (0, r8)) (pcN := 44) jIQ_161_43 rfl rfl rfl ?_
  refine jT_xi2l (x := r8) (z := r8) (pcN := 45) jIQ_161_44 rfl (jw_idd (by omega) (by omega)) rfl ?_
  refine jT_xgoto (pcN := 49) jIQ_161_45 rfl ?_
  refine jT_adv 1 (pcN := 50) (LN := [(5, (0, 2)), (0, (4, 0)), (1, (0, r7)), (2, (0, r8)), (3, (4, 1)), (4, (0, o4))]) (stN := []) (hsN := [jzQ_16, jgh, (8, [(4, 13), (4, 14)], []), jgh, jgh, jgh, jgh, jgh, jgh, (101, [], [0, r7, r8, u8_3, u8_4, u8_5]), (101, [], [k9_0, k9_1, k9_2, k9_3, k9_4, k9_5]), jgh, jgh, jgh, jgh]) (c1 := 0) (s1 := 0) (c2 := 0) (s2 := 0) (by exact rfl) ?_ (by omega) (by omega)
  refine jT_xiinc (x := 2) (z := 3) (LN := [(5, (0, 3)), (0, (4, 0)), (1, (0, r7)), (2, (0, r8)), (3, (4, 1)), (4, (0, o4))]) (pcN := 53) jIQ_161_50 rfl rfl (by decide) rfl rfl ?_
  refine jT_xgoto (pcN := 13) jIQ_161_53 rfl ?_
  refine jT_xiload (v := (0, 3)) (pcN := 15) jIQ_161_13 rfl rfl rfl ?_
  refine jT_xbipush (k := 6) (pcN := 17) jIQ_161_15 (by decide) rfl ?_
  refine jT_xicF (t := 56) (pcN := 20) jIQ_161_17 rfl (by decide +kernel) rfl rfl ?_
  refine jT_xaload_n (v := (4, 0)) (pcN := 21) jIQ_161_20 rfl rfl rfl ?_
  refine jT_xgetf (a := 0) (t := 1) (ci := 13) (fi := 7) (c := jzQ_16) (v := (4, 9)) (pcN := 24) jIQ_161_21 rfl rfl rfl rfl rfl rfl rfl ?_
  refine jT_xiload (v := (0, 3)) (pcN := 26) jIQ_161_24 rfl rfl rfl ?_
  refine jT_xiload (v := (0, 3)) (pcN := 28) jIQ_161_26 rfl rfl rfl ?_
  refine jT_xiconst (k := 1) (pcN := 29) jIQ_161_28 rfl ?_
  refine jT_xicT (pcN := 37) jIQ_161_29 rfl (by decide +kernel) rfl ?_
  refine jT_xiload (v := (0, 3)) (pcN := 39) jIQ_161_37 rfl rfl rfl ?_
  refine jT_xiconst (k := 2) (pcN := 40) jIQ_161_39 rfl ?_
  refine jT_xicT (pcN := 48) jIQ_161_40 rfl (by decide +kernel) rfl ?_
  refine jT_xlconst (z := 0) (pcN := 49) jIQ_161_48 rfl rfl ?_
  refine jT_adv 1 (pcN := 50) (LN := [(5, (0, 3)), (0, (4, 0)), (1, (0, r7)), (2, (0, r8)), (3, (4, 1)), (4, (0, o4))]) (stN := []) (hsN := [jzQ_16, jgh, (8, [(4, 13), (4, 14)], []), jgh, jgh, jgh, jgh, jgh, jgh, (101, [], [0, r7, r8, 0, u8_4, u8_5]), (101, [], [k9_0, k9_1, k9_2, k9_3, k9_4, k9_5]), jgh, jgh, jgh, jgh]) (c1 := 0) (s1 := 0) (c2 := 0) (s2 := 0) (by exact rfl) ?_ (by omega) (by omega)
  refine jT_xiinc (x := 3) (z := 4) (LN := [(5, (0, 4)), (0, (4, 0)), (1, (0, r7)), (2, (0, r8)), (3, (4, 1)), (4, (0, o4))]) (pcN := 53) jIQ_161_50 rfl rfl (by decide) rfl rfl ?_
  refine jT_xgoto (pcN := 13) jIQ_161_53 rfl ?_
  refine jT_xiload (v := (0, 4)) (pcN := 15) jIQ_161_13 rfl rfl rfl ?_
  refine jT_xbipush (k := 6) (pcN := 17) jIQ_161_15 (by decide) rfl ?_
  refine jT_xicF (t := 56) (pcN := 20) jIQ_161_17 rfl (by decide +kernel) rfl rfl ?_
  refine jT_xaload_n (v := (4, 0)) (pcN := 21) jIQ_161_20 rfl rfl rfl ?_
  refine jT_xgetf (a := 0) (t := 1) (ci := 13) (fi := 7) (c := jzQ_16) (v := (4, 9)) (pcN := 24) jIQ_161_21 rfl rfl rfl rfl rfl rfl rfl ?_
  refine jT_xiload (v := (0, 4)) (pcN := 26) jIQ_161_24 rfl rfl rfl ?_
  refine jT_xiload (v := (0, 4)) (pcN := 28) jIQ_161_26 rfl rfl rfl ?_
  refine jT_xiconst (k := 1) (pcN := 29) jIQ_161_28 rfl ?_
  refine jT_xicT (pcN := 37) jIQ_161_29 rfl (by decide +kernel) rfl ?_
  refine jT_xiload (v := (0, 4)) (pcN := 39) jIQ_161_37 rfl rfl rfl ?_
  refine jT_xiconst (k := 2) (pcN := 40) jIQ_161_39 rfl ?_
  refine jT_xicT (pcN := 48) jIQ_161_40 rfl (by decide +kernel) rfl ?_
  refine jT_xlconst (z := 0) (pcN := 49) jIQ_161_48 rfl rfl ?_
  refine jT_adv 1 (pcN := 50) (LN := [(5, (0, 4)), (0, (4, 0)), (1, (0, r7)), (2, (0, r8)), (3, (4, 1)), (4, (0, o4))]) (stN := []) (hsN := [jzQ_16, jgh, (8, [(4, 13), (4, 14)], []), jgh, jgh, jgh, jgh, jgh, jgh, (101, [], [0, r7, r8, 0, 0, u8_5]), (101, [], [k9_0, k9_1, k9_2, k9_3, k9_4, k9_5]), jgh, jgh, jgh, jgh]) (c1 := 0) (s1 := 0) (c2 := 0) (s2 := 0) (by exact rfl) ?_ (by omega) (by omega)
  refine jT_xiinc (x := 4) (z := 5) (LN := [(5, (0, 5)), (0, (4, 0)), (1, (0, r7)), (2, (0, r8)), (3, (4, 1)), (4, (0, o4))]) (pcN := 53) jIQ_161_50 rfl rfl (by decide) rfl rfl ?_
  refine jT_xgoto (pcN := 13) jIQ_161_53 rfl ?_
  refine jT_xiload (v := (0, 5)) (pcN := 15) jIQ_161_13 rfl rfl rfl ?_
  refine jT_xbipush (k := 6) (pcN := 17) jIQ_161_15 (by decide) rfl ?_
  refine jT_xicF (t := 56) (pcN := 20) jIQ_161_17 rfl (by decide +kernel) rfl rfl ?_
  refine jT_xaload_n (v := (4, 0)) (pcN := 21) jIQ_161_20 rfl rfl rfl ?_
  refine jT_xgetf (a := 0) (t := 1) (ci := 13) (fi := 7) (c := jzQ_16) (v := (4, 9)) (pcN := 24) jIQ_161_21 rfl rfl rfl rfl rfl rfl rfl ?_
  refine jT_xiload (v := (0, 5)) (pcN := 26) jIQ_161_24 rfl rfl rfl ?_
  refine jT_xiload (v := (0, 5)) (pcN := 28) jIQ_161_26 rfl rfl rfl ?_
  refine jT_xiconst (k := 1) (pcN := 29) jIQ_161_28 rfl ?_
  refine jT_xicT (pcN := 37) jIQ_161_29 rfl (by decide +kernel) rfl ?_
  refine jT_xiload (v := (0, 5)) (pcN := 39) jIQ_161_37 rfl rfl rfl ?_
  refine jT_xiconst (k := 2) (pcN := 40) jIQ_161_39 rfl ?_
  refine jT_xicT (pcN := 48) jIQ_161_40 rfl (by decide +kernel) rfl ?_
  refine jT_xlconst (z := 0) (pcN := 49) jIQ_161_48 rfl rfl ?_
  refine jT_adv 1 (pcN := 50) (LN := [(5, (0, 5)), (0, (4, 0)), (1, (0, r7)), (2, (0, r8)), (3, (4, 1)), (4, (0, o4))]) (stN := []) (hsN := [jzQ_16, jgh, (8, [(4, 13), (4, 14)], []), jgh, jgh, jgh, jgh, jgh, jgh, (101, [], [0, r7, r8, 0, 0, 0]), (101, [], [k9_0, k9_1, k9_2, k9_3, k9_4, k9_5]), jgh, jgh, jgh, jgh]) (c1 := 0) (s1 := 0) (c2 := 0) (s2 := 0) (by exact rfl) ?_ (by omega) (by omega)
  refine jT_xiinc (x := 5) (z := 6) (LN := [(5, (0, 6)), (0, (4, 0)), (1, (0, r7)), (2, (0, r8)), (3, (4, 1)), (4, (0, o4))]) (pcN := 53) jIQ_161_50 rfl rfl (by decide) rfl rfl ?_
  refine jT_xgoto (pcN := 13) jIQ_161_53 rfl ?_
  refine jT_xiload (v := (0, 6)) (pcN := 15) jIQ_161_13 rfl rfl rfl ?_
  refine jT_xbipush (k := 6) (pcN := 17) jIQ_161_15 (by decide) rfl ?_
  refine jT_xicT (pcN := 56) jIQ_161_17 rfl (by decide +kernel) rfl ?_
  refine jT_xaload_n (v := (4, 0)) (pcN := 57) jIQ_161_56 rfl rfl rfl ?_
  refine jT_xgetf (a := 0) (t := 1) (ci := 13) (fi := 0) (c := jzQ_16) (v := (4, 2)) (pcN := 60) jIQ_161_57 rfl rfl rfl rfl rfl rfl rfl ?_
  refine jT_xaload_n (v := (4, 0)) (pcN := 61) jIQ_161_60 rfl rfl rfl ?_
  refine jT_xgetf (a := 0) (t := 1) (ci := 13) (fi := 7) (c := jzQ_16) (v := (4, 9)) (pcN := 64) jIQ_161_61 rfl rfl rfl rfl rfl rfl rfl ?_
  refine jT_xlconst (z := 1) (pcN := 65) jIQ_161_64 rfl rfl ?_
  refine jT_xlconst (z := 1) (pcN := 66) jIQ_161_65 rfl rfl ?_
  refine jT_callA [2, 9, 13, 14] (y := 45) (pcN := 69) (dC := 1) (bc1 := 0) (bc2 := 0) (c1 := 0) (c2 := 0) (as := [(4, 2), (4, 9), (1, 1), (1, 1)]) (asC := [(4, 0), (4, 1), (1, 1), (1, 1)]) (LN := [(5, (0, 6)), (0, (4, 0)), (1, (0, r7)), (2, (0, r8)), (3, (4, 1)), (4, (0, o4))]) (stN := []) (hsC := [(8, [(4, 2), (4, 3)], []), (101, [], [0, r7, r8, 0, 0, 0]), jgh, jgh]) (ex := []) (v := (1, (108917793695 * r7 + 159561683699 * r8) / 68719476736)) (st2 := [(1, (108917793695 * r7 + 159561683699 * r8) / 68719476736)]) (hs2 := [jzQ_16, jgh, (8, [(4, 13), (4, 14)], []), jgh, jgh, jgh, jgh, jgh, jgh, (101, [], [0, r7, r8, 0, 0, 0]), (101, [], [k9_0, k9_1, k9_2, k9_3, k9_4, k9_5]), jgh, jgh, jgh, jgh]) (jQl_sp45_116 (d := 0) (by omega) (by omega)) (by rfl) (by rfl) (by rfl) (by rfl) ⟨rfl, rfl, rfl, rfl, trivial⟩ (by rfl) (by rfl) (by omega) (by show 15 ≤ 15; omega) (by omega) (by omega) rfl rfl ?_
  have hb_q1 : (-60) ≤ (108917793695 * r7 + 159561683699 * r8) / 68719476736 ∧ (108917793695 * r7 + 159561683699 * r8) / 68719476736 ≤ 60 := ⟨by omega, by omega⟩
  generalize hq_q1 : (108917793695 * r7 + 159561683699 * r8) / 68719476736 = q1 at hb_q1 g_3 g_4 ⊢
  refine jT_xlstore (v := (1, q1)) (LN := [(5, (1, q1)), (0, (4, 0)), (1, (0, r7)), (2, (0, r8)), (3, (4, 1)), (4, (0, o4))]) (pcN := 71) jIQ_161_69 rfl rfl rfl rfl ?_
  have g_5 : 0 ≤ (-68719476736) * q1 + 108917793694 * r7 + 159561683698 * r8 - 1 := by have := jcg (b := r7) (c := r8) (by omega) (by omega) (by omega); rw [hq_q1] at this; omega
  have g_6 : 0 ≤ (-68719476736) * q1 + 108917793694 * r7 + 159561683700 * r8 - 1 := by have := jcg (b := r7) (c := r8) (by omega) (by omega) (by omega); rw [hq_q1] at this; omega
  have g_7 : 0 ≤ (-68719476736) * q1 + 108917793696 * r7 + 159561683698 * r8 - 1 := by have := jcg (b := r7) (c := r8) (by omega) (by omega) (by omega); rw [hq_q1] at this; omega
  have g_8 : 0 ≤ (-68719476736) * q1 + 108917793696 * r7 + 159561683700 * r8 - 1 := by have := jcg (b := r7) (c := r8) (by omega) (by omega) (by omega); rw [hq_q1] at this; omega
  refine jT_xiload (v := (0, o4)) (pcN := 73) jIQ_161_71 rfl rfl rfl ?_
  refine jT_ifF (a := o4) (t := 107) (by rfl) (by rfl) (by rfl) (jw_idd (by omega) (by omega)) (by simp only [jcP] <;> omega) ?_
  refine jT_xiload_n (v := (0, r7)) (pcN := 77) jIQ_161_76 rfl rfl rfl ?_
  refine jT_xi2l (x := r7) (z := r7) (pcN := 78) jIQ_161_77 rfl (jw_idd (by omega) (by omega)) rfl ?_
  refine jT_xaload_n (v := (4, 0)) (pcN := 79) jIQ_161_78 rfl rfl rfl ?_
  refine jT_xgetf (a := 0) (t := 1) (ci := 13) (fi := 8) (c := jzQ_16) (v := (4, 10)) (pcN := 82) jIQ_161_79 rfl rfl rfl rfl rfl rfl rfl ?_
  refine jT_xiconst (k := 1) (pcN := 83) jIQ_161_82 rfl ?_
  refine jT_lald (x := k9_1) (a := 10) (j := 1) (fs := []) (X := [k9_0, k9_1, k9_2, k9_3, k9_4, k9_5]) jIQ_161_83 rfl rfl rfl rfl ?_
  refine jT_eq (LN := [(5, (1, q1)), (0, (4, 0)), (1, (0, r7)), (2, (0, r8)), (3, (4, 1)), (4, (0, o4))]) (stN := [(1, k9_1), (1, r7)]) (hsN := [jzQ_16, jgh, (8, [(4, 13), (4, 14)], []), jgh, jgh, jgh, jgh, jgh, jgh, (101, [], [0, r7, r8, 0, 0, 0]), (101, [], [k9_0, k9_1, k9_2, k9_3, k9_4, k9_5]), jgh, jgh, jgh, jgh]) rfl rfl rfl ?_
  refine jT_xlmul (x := r7) (y := k9_1) (z := r7 * k9_1) (pcN := 85) jIQ_161_84 rfl rfl rfl ?_
  have hb_q2 := jmul_b (x := r7) (y := k9_1) (m := 20) (n := 158) (by omega) (by omega) (by omega) (by omega)
  have hb_q2 : 0 ≤ r7 * k9_1 ∧ r7 * k9_1 ≤ 3160 := ⟨hb_q2.1, by omega⟩
  generalize hq_q2 : r7 * k9_1 = q2 at hb_q2 g_3 g_4 ⊢
  refine jT_xiload_n (v := (0, r8)) (pcN := 86) jIQ_161_85 rfl rfl rfl ?_
  refine jT_xi2l (x := r8) (z := r8) (pcN := 87) jIQ_161_86 rfl (jw_idd (by omega) (by omega)) rfl ?_
  refine jT_xaload_n (v := (4, 0)) (pcN := 88) jIQ_161_87 rfl rfl rfl ?_
  refine jT_xgetf (a := 0) (t := 1) (ci := 13) (fi := 8) (c := jzQ_16) (v := (4, 10)) (pcN := 91) jIQ_161_88 rfl rfl rfl rfl rfl rfl rfl ?_
  refine jT_xiconst (k := 2) (pcN := 92) jIQ_161_91 rfl ?_
  refine jT_lald (x := k9_2) (a := 10) (j := 2) (fs := []) (X := [k9_0, k9_1, k9_2, k9_3, k9_4, k9_5]) jIQ_161_92 rfl rfl rfl rfl ?_
  refine jT_eq (LN := [(5, (1, q1)), (0, (4, 0)), (1, (0, r7)), (2, (0, r8)), (3, (4, 1)), (4, (0, o4))]) (stN := [(1, k9_2), (1, r8), (1, q2)]) (hsN := [jzQ_16, jgh, (8, [(4, 13), (4, 14)], []), jgh, jgh, jgh, jgh, jgh, jgh, (101, [], [0, r7, r8, 0, 0, 0]), (101, [], [k9_0, k9_1, k9_2, k9_3, k9_4, k9_5]), jgh, jgh, jgh, jgh]) rfl rfl rfl ?_
  refine jT_xlmul (x := r8) (y := k9_2) (z := r8 * k9_2) (pcN := 94) jIQ_161_93 rfl rfl rfl ?_
  have hb_q3 := jmul_b2 (x := r8) (y := k9_2) (k := 1) (l := 2) (m := 10) (n := 232) (by omega) (by omega) (by omega) (by omega) (by omega) (by omega)
  have hb_q3 : 2 ≤ r8 * k9_2 ∧ r8 * k9_2 ≤ 2320 := ⟨by omega, by omega⟩
  generalize hq_q3 : r8 * k9_2 = q3 at hb_q3 g_3 g_4 ⊢
  refine jT_xladd (x := q2) (y := q3) (z := q2 + q3) (pcN := 95) jIQ_161_94 rfl (rfl) rfl ?_
  refine jT_xlload (v := (1, q1)) (pcN := 97) jIQ_161_95 rfl rfl rfl ?_
  refine jT_xiload (v := (0, o4)) (pcN := 99) jIQ_161_97 rfl rfl rfl ?_
  refine jT_xi2l (x := o4) (z := o4) (pcN := 100) jIQ_161_99 rfl (jw_idd (by omega) (by omega)) rfl ?_
  refine jT_xlmul (x := q1) (y := o4) (z := q1 * o4) (pcN := 101) jIQ_161_100 rfl rfl rfl ?_
  have hb_q4 := jmul_bs (x := q1) (y := o4) (m := 60) (n := 100) (by omega) (by omega) (by omega) (by omega)
  have hb_q4 : (-6000) ≤ q1 * o4 ∧ q1 * o4 ≤ 6000 := ⟨by omega, by omega⟩
  generalize hq_q4 : q1 * o4 = q4 at hb_q4 g_3 g_4 ⊢
  refine jT_lcmp (a := q2 + q3) (b := q4) (z := (-1)) (by rfl) (by rfl) (jwl_idd (by omega) (by omega)) (jwl_idd (by omega) (by omega)) (by rw [decide_eq_false (show ¬ ((q4 : Int) < q2 + q3) by omega), decide_eq_false (show ¬ ((q2 + q3 : Int) = q4) by omega)]; rfl) ?_
  refine jT_xifF (t := 107) (pcN := 105) jIQ_161_102 rfl (by decide +kernel) rfl rfl ?_
  refine jT_xiconst (k := 0) (pcN := 106) jIQ_161_105 rfl ?_
  subst hq_q4
  subst hq_q3
  subst hq_q2
  subst hq_q1
  exact jT_ret rfl (by decide) (by show 15 ≤ 15; omega) (by omega) (by omega) ⟨rfl, rfl, rfl⟩
theorem jQ_161_238 {xs : List Int} {d : Nat} {k9_0 k9_1 k9_2 k9_3 k9_4 k9_5 o4 r7 r8 u8_0 u8_1 u8_2 u8_3 u8_4 u8_5 : Int} (h_k9_0 : 1 ≤ k9_0 ∧ k9_0 ≤ 100) (h_k9_1 : 2 ≤ k9_1 ∧ k9_1 ≤ 158) (h_k9_2 : 2 ≤ k9_2 ∧ k9_2 ≤ 232) (h_k9_3 : 3 ≤ k9_3 ∧ k9_3 ≤ 281) (h_k9_4 : 3 ≤ k9_4 ∧ k9_4 ≤ 346) (h_k9_5 : 4 ≤ k9_5 ∧ k9_5 ≤ 370) (h_o4 : 1 ≤ o4 ∧ o4 ≤ 100) (h_r7 : (-20) ≤ r7 ∧ r7 ≤ 20) (h_r8 : (-10) ≤ r8 ∧ r8 ≤ 10) (g_0 : 0 ≤ r7) (g_1 : r7 ≤ 0) (g_2 : 0 < r8) (g_3 : -(((108917793695 * r7 + 159561683699 * r8) / 68719476736) * o4) + (r7 * k9_1) + (r8 * k9_2) - 1 < 0) (g_4 : 0 ≤ -(((108917793695 * r7 + 159561683699 * r8) / 68719476736) * o4) + (r7 * k9_1) + (r8 * k9_2)) : jT xs (d + 2) 161 16 0 [(0, (4, 0)), (1, (0, r7)), (2, (0, r8)), (3, (4, 1)), (4, (0, o4))] [] [jzQ_16, (4, [(4, 13), (1, 1)], []), (8, [(4, 14), (4, 15)], []), jgh, jgh, jgh, jgh, jgh, jgh, (101, [], [u8_0, u8_1, u8_2, u8_3, u8_4, u8_5]), (101, [], [k9_0, k9_1, k9_2, k9_3, k9_4, k9_5]), jgh, jgh, (101, [], [0, 0, 0, 0, 0, 0]), jgh, jgh] 0 0 (fun k v hsN => k = 0 ∧ v = (0, 0) ∧ hsN = [jzQ_16, (4, [(4, 13), (1, 1)], []), (8, [(4, 14), (4, 15)], []), jgh, jgh, jgh, jgh, jgh, jgh, (101, [], [(108917793695 * r7 + 159561683699 * r8) / 68719476736, -r7, -r8, 0, 0, 0]), (101, [], [k9_0, k9_1, k9_2, k9_3, k9_4, k9_5]), jgh, jgh, (101, [], [0, 0, 0, 0, 0, 0]), jgh, jgh]) := by
  refine jT_xiload_n (v := (0, r7)) (pcN := 1) jIQ_161_0 rfl rfl rfl ?_
  refine jT_ifF (a := r7) (t := 10) (by rfl) (by rfl) (by rfl) (jw_idd (by omega) (by omega)) (by simp only [jcP] <;> omega) ?_
  refine jT_xiload_n (v := (0, r8)) (pcN := 5) jIQ_161_4 rfl rfl rfl ?_
  refine jT_ifT (a := r8) (t := 10) (by rfl) (by rfl) (by rfl) (jw_idd (by omega) (by omega)) (by simp only [jcP] <;> omega) ?_
  refine jT_xiconst (k := 0) (pcN := 11) jIQ_161_10 rfl ?_
  refine jT_xistore (v := (0, 0)) (LN := [(5, (0, 0)), (0, (4, 0)), (1, (0, r7)), (2, (0, r8)), (3, (4, 1)), (4, (0, o4))]) (pcN := 13) jIQ_161_11 rfl rfl rfl rfl ?_
  refine jT_xiload (v := (0, 0)) (pcN := 15) jIQ_161_13 rfl rfl rfl ?_
  refine jT_xbipush (k := 6) (pcN := 17) jIQ_161_15 (by decide) rfl ?_
  refine jT_xicF (t := 56) (pcN := 20) jIQ_161_17 rfl (by decide +kernel) rfl rfl ?_
  refine jT_xaload_n (v := (4, 0)) (pcN := 21) jIQ_161_20 rfl rfl rfl ?_
  refine jT_xgetf (a := 0) (t := 1) (ci := 13) (fi := 7) (c := jzQ_16) (v := (4, 9)) (pcN := 24) jIQ_161_21 rfl rfl rfl rfl rfl rfl rfl ?_
  refine jT_xiload (v := (0, 0)) (pcN := 26) jIQ_161_24 rfl rfl rfl ?_
  refine jT_xiload (v := (0, 0)) (pcN := 28) jIQ_161_26 rfl rfl rfl ?_
  refine jT_xiconst (k := 1) (pcN := 29) jIQ_161_28 rfl ?_
  refine jT_xicT (pcN := 37) jIQ_161_29 rfl (by decide +kernel) rfl ?_
  refine jT_xiload (v := (0, 0)) (pcN := 39) jIQ_161_37 rfl rfl rfl ?_
  refine jT_xiconst (k := 2) (pcN := 40) jIQ_161_39 rfl ?_
  refine jT_xicT (pcN := 48) jIQ_161_40 rfl (by decide +kernel) rfl ?_
  refine jT_xlconst (z := 0) (pcN := 49) jIQ_161_48 rfl rfl ?_
  refine jT_adv 1 (pcN := 50) (LN := [(5, (0, 0)), (0, (4, 0)), (1, (0, r7)), (2, (0, r8)), (3, (4, 1)), (4, (0, o4))]) (stN := []) (hsN := [jzQ_16, (4, [(4, 13), (1, 1)], []), (8, [(4, 14), (4, 15)], []), jgh, jgh, jgh, jgh, jgh, jgh, (101, [], [0, u8_1, u8_2, u8_3, u8_4, u8_5]), (101, [], [k9_0, k9_1, k9_2, k9_3, k9_4, k9_5]), jgh, jgh, (101, [], [0, 0, 0, 0, 0, 0]), jgh, jgh]) (c1 := 0) (s1 := 0) (c2 := 0) (s2 := 0) (by exact rfl) ?_ (by omega) (by omega)
  refine jT_xiinc (x := 0) (z := 1) (LN := [(5, (0, 1)), (0, (4, 0)), (1, (0, r7)), (2, (0, r8)), (3, (4, 1)), (4, (0, o4))]) (pcN := 53) jIQ_161_50 rfl rfl (by decide) rfl rfl ?_
  refine jT_xgoto (pcN := 13) jIQ_161_53 rfl ?_
  refine jT_xiload (v := (0, 1)) (pcN := 15) jIQ_161_13 rfl rfl rfl ?_
  refine jT_xbipush (k := 6) (pcN := 17) jIQ_161_15 (by decide) rfl ?_
  refine jT_xicF (t := 56) (pcN := 20) jIQ_161_17 rfl (by decide +kernel) rfl rfl ?_
  refine jT_xaload_n (v := (4, 0)) (pcN := 21) jIQ_161_20 rfl rfl rfl ?_
  refine jT_xgetf (a := 0) (t := 1) (ci := 13) (fi := 7) (c := jzQ_16) (v := (4, 9)) (pcN := 24) jIQ_161_21 rfl rfl rfl rfl rfl rfl rfl ?_
  refine jT_xiload (v := (0, 1)) (pcN := 26) jIQ_161_24 rfl rfl rfl ?_
  refine jT_xiload (v := (0, 1)) (pcN := 28) jIQ_161_26 rfl rfl rfl ?_
  refine jT_xiconst (k := 1) (pcN := 29) jIQ_161_28 rfl ?_
  refine jT_xicF (t := 37) (pcN := 32) jIQ_161_29 rfl (by decide +kernel) rfl rfl ?_
  refine jT_xiload_n (v := (0, r7)) (pcN := 33) jIQ_161_32 rfl rfl rfl ?_
  refine jT_xi2l (x := r7) (z := r7) (pcN := 34) jIQ_161_33 rfl (jw_idd (by omega) (by omega)) rfl ?_
  refine jT_xgoto (pcN := 49) jIQ_161_34 rfl ?_
  refine jT_adv 1 (pcN := 50) (LN := [(5, (0, 1)), (0, (4, 0)), (1, (0, r7)), (2, (0, r8)), (3, (4, 1)), (4, (0, o4))]) (stN := []) (hsN := [jzQ_16, (4, [(4, 13), (1, 1)], []), (8, [(4, 14), (4, 15)], []), jgh, jgh, jgh, jgh, jgh, jgh, (101, [], [0, r7, u8_2, u8_3, u8_4, u8_5]), (101, [], [k9_0, k9_1, k9_2, k9_3, k9_4, k9_5]), jgh, jgh, (101, [], [0, 0, 0, 0, 0, 0]), jgh, jgh]) (c1 := 0) (s1 := 0) (c2 := 0) (s2 := 0) (by exact rfl) ?_ (by omega) (by omega)
  refine jT_xiinc (x := 1) (z := 2) (LN := [(5, (0, 2)), (0, (4, 0)), (1, (0, r7)), (2, (0, r8)), (3, (4, 1)), (4, (0, o4))]) (pcN := 53) jIQ_161_50 rfl rfl (by decide) rfl rfl ?_
  refine jT_xgoto (pcN := 13) jIQ_161_53 rfl ?_
  refine jT_xiload (v := (0, 2)) (pcN := 15) jIQ_161_13 rfl rfl rfl ?_
  refine jT_xbipush (k := 6) (pcN := 17) jIQ_161_15 (by decide) rfl ?_
  refine jT_xicF (t := 56) (pcN := 20) jIQ_161_17 rfl (by decide +kernel) rfl rfl ?_
  refine jT_xaload_n (v := (4, 0)) (pcN := 21) jIQ_161_20 rfl rfl rfl ?_
  refine jT_xgetf (a := 0) (t := 1) (ci := 13) (fi := 7) (c := jzQ_16) (v := (4, 9)) (pcN := 24) jIQ_161_21 rfl rfl rfl rfl rfl rfl rfl ?_
  refine jT_xiload (v := (0, 2)) (pcN := 26) jIQ_161_24 rfl rfl rfl ?_
  refine jT_xiload (v := (0, 2)) (pcN := 28) jIQ_161_26 rfl rfl rfl ?_
  refine jT_xiconst (k := 1) (pcN := 29) jIQ_161_28 rfl ?_
  refine jT_xicT (pcN := 37) jIQ_161_29 rfl (by decide +kernel) rfl ?_
  refine jT_xiload (v := (0, 2)) (pcN := 39) jIQ_161_37 rfl rfl rfl ?_
  refine jT_xiconst (k := 2) (pcN := 40) jIQ_161_39 rfl ?_
  refine jT_xicF (t := 48) (pcN := 43) jIQ_161_40 rfl (by decide +kernel) rfl rfl ?_
  refine jT_xiload_n (v := (0, r8)) (pcN := 44) jIQ_161_43 rfl rfl rfl ?_
  refine jT_xi2l (x := r8) (z := r8) (pcN := 45) jIQ_161_44 rfl (jw_idd (by omega) (by omega)) rfl ?_
  refine jT_xgoto (pcN := 49) jIQ_161_45 rfl ?_
  refine jT_adv 1 (pcN := 50) (LN := [(5, (0, 2)), (0, (4, 0)), (1, (0, r7)), (2, (0, r8)), (3, (4, 1)), (4, (0, o4))]) (stN := []) (hsN := [jzQ_16, (4, [(4, 13), (1, 1)], []), (8, [(4, 14), (4, 15)], []), jgh, jgh, jgh, jgh, jgh, jgh, (101, [], [0, r7, r8, u8_3, u8_4, u8_5]), (101, [], [k9_0, k9_1, k9_2, k9_3, k9_4, k9_5]), jgh, jgh, (101, [], [0, 0, 0, 0, 0, 0]), jgh, jgh]) (c1 := 0) (s1 := 0) (c2 := 0) (s2 := 0) (by exact rfl) ?_ (by omega) (by omega)
  refine jT_xiinc (x := 2) (z := 3) (LN := [(5, (0, 3)), (0, (4, 0)), (1, (0, r7)), (2, (0, r8)), (3, (4, 1)), (4, (0, o4))]) (pcN := 53) jIQ_161_50 rfl rfl (by decide) rfl rfl ?_
  refine jT_xgoto (pcN := 13) jIQ_161_53 rfl ?_
  refine jT_xiload (v := (0, 3)) (pcN := 15) jIQ_161_13 rfl rfl rfl ?_
  refine jT_xbipush (k := 6) (pcN := 17) jIQ_161_15 (by decide) rfl ?_
  refine jT_xicF (t := 56) (pcN := 20) jIQ_161_17 rfl (by decide +kernel) rfl rfl ?_
  refine jT_xaload_n (v := (4, 0)) (pcN := 21) jIQ_161_20 rfl rfl rfl ?_
  refine jT_xgetf (a := 0) (t := 1) (ci := 13) (fi := 7) (c := jzQ_16) (v := (4, 9)) (pcN := 24) jIQ_161_21 rfl rfl rfl rfl rfl rfl rfl ?_
  refine jT_xiload (v := (0, 3)) (pcN := 26) jIQ_161_24 rfl rfl rfl ?_
  refine jT_xiload (v := (0, 3)) (pcN := 28) jIQ_161_26 rfl rfl rfl ?_
  refine jT_xiconst (k := 1) (pcN := 29) jIQ_161_28 rfl ?_
  refine jT_xicT (pcN := 37) jIQ_161_29 rfl (by decide +kernel) rfl ?_
  refine jT_xiload (v := (0, 3)) (pcN := 39) jIQ_161_37 rfl rfl rfl ?_
  refine jT_xiconst (k := 2) (pcN := 40) jIQ_161_39 rfl ?_
  refine jT_xicT (pcN := 48) jIQ_161_40 rfl (by decide +kernel) rfl ?_
  refine jT_xlconst (z := 0) (pcN := 49) jIQ_161_48 rfl rfl ?_
  refine jT_adv 1 (pcN := 50) (LN := [(5, (0, 3)), (0, (4, 0)), (1, (0, r7)), (2, (0, r8)), (3, (4, 1)), (4, (0, o4))]) (stN := []) (hsN := [jzQ_16, (4, [(4, 13), (1, 1)], []), (8, [(4, 14), (4, 15)], []), jgh, jgh, jgh, jgh, jgh, jgh, (101, [], [0, r7, r8, 0, u8_4, u8_5]), (101, [], [k9_0, k9_1, k9_2, k9_3, k9_4, k9_5]), jgh, jgh, (101, [], [0, 0, 0, 0, 0, 0]), jgh, jgh]) (c1 := 0) (s1 := 0) (c2 := 0) (s2 := 0) (by exact rfl) ?_ (by omega) (by omega)
  refine jT_xiinc (x := 3) (z := 4) (LN := [(5, (0, 4)), (0, (4, 0)), (1, (0, r7)), (2, (0, r8)), (3, (4, 1)), (4, (0, o4))]) (pcN := 53) jIQ_161_50 rfl rfl (by decide) rfl rfl ?_
  refine jT_xgoto (pcN := 13) jIQ_161_53 rfl ?_
  refine jT_xiload (v := (0, 4)) (pcN := 15) jIQ_161_13 rfl rfl rfl ?_
  refine jT_xbipush (k := 6) (pcN := 17) jIQ_161_15 (by decide) rfl ?_
  refine jT_xicF (t := 56) (pcN := 20) jIQ_161_17 rfl (by decide +kernel) rfl rfl ?_
  refine jT_xaload_n (v := (4, 0)) (pcN := 21) jIQ_161_20 rfl rfl rfl ?_
  refine jT_xgetf (a := 0) (t := 1) (ci := 13) (fi := 7) (c := jzQ_16) (v := (4, 9)) (pcN := 24) jIQ_161_21 rfl rfl rfl rfl rfl rfl rfl ?_
  refine jT_xiload (v := (0, 4)) (pcN := 26) jIQ_161_24 rfl rfl rfl ?_
  refine jT_xiload (v := (0, 4)) (pcN := 28) jIQ_161_26 rfl rfl rfl ?_
  refine jT_xiconst (k := 1) (pcN := 29) jIQ_161_28 rfl ?_
  refine jT_xicT (pcN := 37) jIQ_161_29 rfl (by decide +kernel) rfl ?_
  refine jT_xiload (v := (0, 4)) (pcN := 39) jIQ_161_37 rfl rfl rfl ?_
  refine jT_xiconst (k := 2) (pcN := 40) jIQ_161_39 rfl ?_
  refine jT_xicT (pcN := 48) jIQ_161_40 rfl (by decide +kernel) rfl ?_
  refine jT_xlconst (z := 0) (pcN := 49) jIQ_161_48 rfl rfl ?_
  refine jT_adv 1 (pcN := 50) (LN := [(5, (0, 4)), (0, (4, 0)), (1, (0, r7)), (2, (0, r8)), (3, (4, 1)), (4, (0, o4))]) (stN := []) (hsN := [jzQ_16, (4, [(4, 13), (1, 1)], []), (8, [(4, 14), (4, 15)], []), jgh, jgh, jgh, jgh, jgh, jgh, (101, [], [0, r7, r8, 0, 0, u8_5]), (101, [], [k9_0, k9_1, k9_2, k9_3, k9_4, k9_5]), jgh, jgh, (101, [], [0, 0, 0, 0, 0, 0]), jgh, jgh]) (c1 := 0) (s1 := 0) (c2 := 0) (s2 := 0) (by exact rfl) ?_ (by omega) (by omega)
  refine jT_xiinc (x := 4) (z := 5) (LN := [(5, (0, 5)), (0, (4, 0)), (1, (0, r7)), (2, (0, r8)), (3, (4, 1)), (4, (0, o4))]) (pcN := 53) jIQ_161_50 rfl rfl (by decide) rfl rfl ?_
  refine jT_xgoto (pcN := 13) jIQ_161_53 rfl ?_
  refine jT_xiload (v := (0, 5)) (pcN := 15) jIQ_161_13 rfl rfl rfl ?_
  refine jT_xbipush (k := 6) (pcN := 17) jIQ_161_15 (by decide) rfl ?_
  refine jT_xicF (t := 56) (pcN := 20) jIQ_161_17 rfl (by decide +kernel) rfl rfl ?_
  refine jT_xaload_n (v := (4, 0)) (pcN := 21) jIQ_161_20 rfl rfl rfl ?_
  refine jT_xgetf (a := 0) (t := 1) (ci := 13) (fi := 7) (c := jzQ_16) (v := (4, 9)) (pcN := 24) jIQ_161_21 rfl rfl rfl rfl rfl rfl rfl ?_
  refine jT_xiload (v := (0, 5)) (pcN := 26) jIQ_161_24 rfl rfl rfl ?_
  refine jT_xiload (v := (0, 5)) (pcN := 28) jIQ_161_26 rfl rfl rfl ?_
  refine jT_xiconst (k := 1) (pcN := 29) jIQ_161_28 rfl ?_
  refine jT_xicT (pcN := 37) jIQ_161_29 rfl (by decide +kernel) rfl ?_
  refine jT_xiload (v := (0, 5)) (pcN := 39) jIQ_161_37 rfl rfl rfl ?_
  refine jT_xiconst (k := 2) (pcN := 40) jIQ_161_39 rfl ?_
  refine jT_xicT (pcN := 48) jIQ_161_40 rfl (by decide +kernel) rfl ?_
  refine jT_xlconst (z := 0) (pcN := 49) jIQ_161_48 rfl rfl ?_
  refine jT_adv 1 (pcN := 50) (LN := [(5, (0, 5)), (0, (4, 0)), (1, (0, r7)), (2, (0, r8)), (3, (4, 1)), (4, (0, o4))]) (stN := []) (hsN := [jzQ_16, (4, [(4, 13), (1, 1)], []), (8, [(4, 14), (4, 15)], []), jgh, jgh, jgh, jgh, jgh, jgh, (101, [], [0, r7, r8, 0, 0, 0]), (101, [], [k9_0, k9_1, k9_2, k9_3, k9_4, k9_5]), jgh, jgh, (101, [], [0, 0, 0, 0, 0, 0]), jgh, jgh]) (c1 := 0) (s1 := 0) (c2 := 0) (s2 := 0) (by exact rfl) ?_ (by omega) (by omega)
  refine jT_xiinc (x := 5) (z := 6) (LN := [(5, (0, 6)), (0, (4, 0)), (1, (0, r7)), (2, (0, r8)), (3, (4, 1)), (4, (0, o4))]) (pcN := 53) jIQ_161_50 rfl rfl (by decide) rfl rfl ?_
  refine jT_xgoto (pcN := 13) jIQ_161_53 rfl ?_
  refine jT_xiload (v := (0, 6)) (pcN := 15) jIQ_161_13 rfl rfl rfl ?_
  refine jT_xbipush (k := 6) (pcN := 17) jIQ_161_15 (by decide) rfl ?_
  refine jT_xicT (pcN := 56) jIQ_161_17 rfl (by decide +kernel) rfl ?_
  refine jT_xaload_n (v := (4, 0)) (pcN := 57) jIQ_161_56 rfl rfl rfl ?_
  refine jT_xgetf (a := 0) (t := 1) (ci := 13) (fi := 0) (c := jzQ_16) (v := (4, 2)) (pcN := 60) jIQ_161_57 rfl rfl rfl rfl rfl rfl rfl ?_
  refine jT_xaload_n (v := (4, 0)) (pcN := 61) jIQ_161_60 rfl rfl rfl ?_
  refine jT_xgetf (a := 0) (t := 1) (ci := 13) (fi := 7) (c := jzQ_16) (v := (4, 9)) (pcN := 64) jIQ_161_61 rfl rfl rfl rfl rfl rfl rfl ?_
  refine jT_xlconst (z := 1) (pcN := 65) jIQ_161_64 rfl rfl ?_
  refine jT_xlconst (z := 1) (pcN := 66) jIQ_161_65 rfl rfl ?_
  refine jT_callA [2, 9, 14, 15] (y := 45) (pcN := 69) (dC := 1) (bc1 := 0) (bc2 := 0) (c1 := 0) (c2 := 0) (as := [(4, 2), (4, 9), (1, 1), (1, 1)]) (asC := [(4, 0), (4, 1), (1, 1), (1, 1)]) (LN := [(5, (0, 6)), (0, (4, 0)), (1, (0, r7)), (2, (0, r8)), (3, (4, 1)), (4, (0, o4))]) (stN := []) (hsC := [(8, [(4, 2), (4, 3)], []), (101, [], [0, r7, r8, 0, 0, 0]), jgh, jgh]) (ex := []) (v := (1, (108917793695 * r7 + 159561683699 * r8) / 68719476736)) (st2 := [(1, (108917793695 * r7 + 159561683699 * r8) / 68719476736)]) (hs2 := [jzQ_16, (4, [(4, 13), (1, 1)], []), (8, [(4, 14), (4, 15)], []), jgh, jgh, jgh, jgh, jgh, jgh, (101, [], [0, r7, r8, 0, 0, 0]), (101, [], [k9_0, k9_1, k9_2, k9_3, k9_4, k9_5]), jgh, jgh, (101, [], [0, 0, 0, 0, 0, 0]), jgh, jgh]) (jQl_sp45_116 (d := 0) (by omega) (by omega)) (by rfl) (by rfl) (by rfl) (by rfl) ⟨rfl, rfl, rfl, rfl, trivial⟩ (by rfl) (by rfl) (by omega) (by show 16 ≤ 16; omega) (by omega) (by omega) rfl rfl ?_
  have hb_q1 : (-60) ≤ (108917793695 * r7 + 159561683699 * r8) / 68719476736 ∧ (108917793695 * r7 + 159561683699 * r8) / 68719476736 ≤ 60 := ⟨by omega, by omega⟩
  generalize hq_q1 : (108917793695 * r7 + 159561683699 * r8) / 68719476736 = q1 at hb_q1 g_3 g_4 ⊢
  refine jT_xlstore (v := (1, q1)) (LN := [(5, (1, q1)), (0, (4, 0)), (1, (0, r7)), (2, (0, r8)), (3, (4, 1)), (4, (0, o4))]) (pcN := 71) jIQ_161_69 rfl rfl rfl rfl ?_
  have g_5 : 0 ≤ (-68719476736) * q1 + 108917793694 * r7 + 159561683698 * r8 - 1 := by have := jcg (b := r7) (c := r8) (by omega) (by omega) (by omega); rw [hq_q1] at this; omega
  have g_6 : 0 ≤ (-68719476736) * q1 + 108917793694 * r7 + 159561683700 * r8 - 1 := by have := jcg (b := r7) (c := r8) (by omega) (by omega) (by omega); rw [hq_q1] at this; omega
  have g_7 : 0 ≤ (-68719476736) * q1 + 108917793696 * r7 + 159561683698 * r8 - 1 := by have := jcg (b := r7) (c := r8) (by omega) (by omega) (by omega); rw [hq_q1] at this; omega
  have g_8 : 0 ≤ (-68719476736) * q1 + 108917793696 * r7 + 159561683700 * r8 - 1 := by have := jcg (b := r7) (c := r8) (by omega) (by omega) (by omega); rw [hq_q1] at this; omega
  refine jT_xiload (v := (0, o4)) (pcN := 73) jIQ_161_71 rfl rfl rfl ?_
  refine jT_ifF (a := o4) (t := 107) (by rfl) (by rfl) (by rfl) (jw_idd (by omega) (by omega)) (by simp only [jcP] <;> omega) ?_
  refine jT_xiload_n (v := (0, r7)) (pcN := 77) jIQ_161_76 rfl rfl rfl ?_
  refine jT_xi2l (x := r7) (z := r7) (pcN := 78) jIQ_161_77 rfl (jw_idd (by omega) (by omega)) rfl ?_
  refine jT_xaload_n (v := (4, 0)) (pcN := 79) jIQ_161_78 rfl rfl rfl ?_
  refine jT_xgetf (a := 0) (t := 1) (ci := 13) (fi := 8) (c := jzQ_16) (v := (4, 10)) (pcN := 82) jIQ_161_79 rfl rfl rfl rfl rfl rfl rfl ?_
  refine jT_xiconst (k := 1) (pcN := 83) jIQ_161_82 rfl ?_
  refine jT_lald (x := k9_1) (a := 10) (j := 1) (fs := []) (X := [k9_0, k9_1, k9_2, k9_3, k9_4, k9_5]) jIQ_161_83 rfl rfl rfl rfl ?_
  refine jT_eq (LN := [(5, (1, q1)), (0, (4, 0)), (1, (0, r7)), (2, (0, r8)), (3, (4, 1)), (4, (0, o4))]) (stN := [(1, k9_1), (1, r7)]) (hsN := [jzQ_16, (4, [(4, 13), (1, 1)], []), (8, [(4, 14), (4, 15)], []), jgh, jgh, jgh, jgh, jgh, jgh, (101, [], [0, r7, r8, 0, 0, 0]), (101, [], [k9_0, k9_1, k9_2, k9_3, k9_4, k9_5]), jgh, jgh, (101, [], [0, 0, 0, 0, 0, 0]), jgh, jgh]) rfl rfl rfl ?_
  refine jT_xlmul (x := r7) (y := k9_1) (z := r7 * k9_1) (pcN := 85) jIQ_161_84 rfl rfl rfl ?_
  have hb_q2 := jmul_b (x := r7) (y := k9_1) (m := 20) (n := 158) (by omega) (by omega) (by omega) (by omega)
  have hb_q2 : 0 ≤ r7 * k9_1 ∧ r7 * k9_1 ≤ 3160 := ⟨hb_q2.1, by omega⟩
  generalize hq_q2 : r7 * k9_1 = q2 at hb_q2 g_3 g_4 ⊢
  refine jT_xiload_n (v := (0, r8)) (pcN := 86) jIQ_161_85 rfl rfl rfl ?_
  refine jT_xi2l (x := r8) (z := r8) (pcN := 87) jIQ_161_86 rfl (jw_idd (by omega) (by omega)) rfl ?_
  refine jT_xaload_n (v := (4, 0)) (pcN := 88) jIQ_161_87 rfl rfl rfl ?_
  refine jT_xgetf (a := 0) (t := 1) (ci := 13) (fi := 8) (c := jzQ_16) (v := (4, 10)) (pcN := 91) jIQ_161_88 rfl rfl rfl rfl rfl rfl rfl ?_
  refine jT_xiconst (k := 2) (pcN := 92) jIQ_161_91 rfl ?_
  refine jT_lald (x := k9_2) (a := 10) (j := 2) (fs := []) (X := [k9_0, k9_1, k9_2, k9_3, k9_4, k9_5]) jIQ_161_92 rfl rfl rfl rfl ?_
  refine jT_eq (LN := [(5, (1, q1)), (0, (4, 0)), (1, (0, r7)), (2, (0, r8)), (3, (4, 1)), (4, (0, o4))]) (stN := [(1, k9_2), (1, r8), (1, q2)]) (hsN := [jzQ_16, (4, [(4, 13), (1, 1)], []), (8, [(4, 14), (4, 15)], []), jgh, jgh, jgh, jgh, jgh, jgh, (101, [], [0, r7, r8, 0, 0, 0]), (101, [], [k9_0, k9_1, k9_2, k9_3, k9_4, k9_5]), jgh, jgh, (101, [], [0, 0, 0, 0, 0, 0]), jgh, jgh]) rfl rfl rfl ?_
  refine jT_xlmul (x := r8) (y := k9_2) (z := r8 * k9_2) (pcN := 94) jIQ_161_93 rfl rfl rfl ?_
  have hb_q3 := jmul_b2 (x := r8) (y := k9_2) (k := 1) (l := 2) (m := 10) (n := 232) (by omega) (by omega) (by omega) (by omega) (by omega) (by omega)
  have hb_q3 : 2 ≤ r8 * k9_2 ∧ r8 * k9_2 ≤ 2320 := ⟨by omega, by omega⟩
  generalize hq_q3 : r8 * k9_2 = q3 at hb_q3 g_3 g_4 ⊢
  refine jT_xladd (x := q2) (y := q3) (z := q2 + q3) (pcN := 95) jIQ_161_94 rfl (rfl) rfl ?_
  refine jT_xlload (v := (1, q1)) (pcN := 97) jIQ_161_95 rfl rfl rfl ?_
  refine jT_xiload (v := (0, o4)) (pcN := 99) jIQ_161_97 rfl rfl rfl ?_
  refine jT_xi2l (x := o4) (z := o4) (pcN := 100) jIQ_161_99 rfl (jw_idd (by omega) (by omega)) rfl ?_
  refine jT_xlmul (x := q1) (y := o4) (z := q1 * o4) (pcN := 101) jIQ_161_100 rfl rfl rfl ?_
  have hb_q4 := jmul_bs (x := q1) (y := o4) (m := 60) (n := 100) (by omega) (by omega) (by omega) (by omega)
  have hb_q4 : (-6000) ≤ q1 * o4 ∧ q1 * o4 ≤ 6000 := ⟨by omega, by omega⟩
  generalize hq_q4 : q1 * o4 = q4 at hb_q4 g_3 g_4 ⊢
  refine jT_lcmp (a := q2 + q3) (b := q4) (z := 0) (by rfl) (by rfl) (jwl_idd (by omega) (by omega)) (jwl_idd (by omega) (by omega)) (by rw [decide_eq_false (show ¬ ((q4 : Int) < q2 + q3) by omega), decide_eq_true (show (q2 + q3 : Int) = q4 by omega)]; rfl) ?_
  refine jT_xifT (pcN := 107) jIQ_161_102 rfl (by decide +kernel) rfl ?_
  refine jT_xaload_n (v := (4, 0)) (pcN := 108) jIQ_161_107 rfl rfl rfl ?_
  refine jT_xgetf (a := 0) (t := 1) (ci := 13) (fi := 7) (c := jzQ_16) (v := (4, 9)) (pcN := 111) jIQ_161_108 rfl rfl rfl rfl rfl rfl rfl ?_
  refine jT_xiconst (k := 0) (pcN := 112) jIQ_161_111 rfl ?_
  refine jT_xlload (v := (1, q1)) (pcN := 114) jIQ_161_112 rfl rfl rfl ?_
  refine jT_adv 2 (pcN := 116) (LN := [(5, (1, q1)), (0, (4, 0)), (1, (0, r7)), (2, (0, r8)), (3, (4, 1)), (4, (0, o4))]) (stN := []) (hsN := [jzQ_16, (4, [(4, 13), (1, 1)], []), (8, [(4, 14), (4, 15)], []), jgh, jgh, jgh, jgh, jgh, jgh, (101, [], [-q1, r7, r8, 0, 0, 0]), (101, [], [k9_0, k9_1, k9_2, k9_3, k9_4, k9_5]), jgh, jgh, (101, [], [0, 0, 0, 0, 0, 0]), jgh, jgh]) (c1 := 0) (s1 := 0) (c2 := 0) (s2 := 0) (by exact rfl) ?_ (by omega) (by omega)
  refine jT_xiconst (k := 0) (pcN := 117) jIQ_161_116 rfl ?_
  refine jT_xistore (v := (0, 0)) (LN := [(7, (0, 0)), (5, (1, q1)), (0, (4, 0)), (1, (0, r7)), (2, (0, r8)), (3, (4, 1)), (4, (0, o4))]) (pcN := 119) jIQ_161_117 rfl rfl rfl rfl ?_
  refine jT_xiload (v := (0, 0)) (pcN := 121) jIQ_161_119 rfl rfl rfl ?_
  refine jT_xbipush (k := 6) (pcN := 123) jIQ_161_121 (by decide) rfl ?_
  refine jT_xicF (t := 159) (pcN := 126) jIQ_161_123 rfl (by decide +kernel) rfl rfl ?_
  refine jT_xaload_n (v := (4, 0)) (pcN := 127) jIQ_161_126 rfl rfl rfl ?_
  refine jT_xgetf (a := 0) (t := 1) (ci := 13) (fi := 7) (c := jzQ_16) (v := (4, 9)) (pcN := 130) jIQ_161_127 rfl rfl rfl rfl rfl rfl rfl ?_
  refine jT_xiload (v := (0, 0)) (pcN := 132) jIQ_161_130 rfl rfl rfl ?_
  refine jT_xaload_n (v := (4, 1)) (pcN := 133) jIQ_161_132 rfl rfl rfl ?_
  refine jT_xgetf (a := 1) (t := 2) (ci := 4) (fi := 0) (c := (4, [(4, 13), (1, 1)], [])) (v := (4, 13)) (pcN := 136) jIQ_161_133 rfl rfl rfl rfl rfl rfl rfl ?_
  refine jT_xiload (v := (0, 0)) (pcN := 138) jIQ_161_136 rfl rfl rfl ?_
  refine jT_lald (x := 0) (a := 13) (j := 0) (fs := []) (X := [0, 0, 0, 0, 0, 0]) jIQ_161_138 rfl rfl rfl rfl ?_
  refine jT_eq (LN := [(7, (0, 0)), (5, (1, q1)), (0, (4, 0)), (1, (0, r7)), (2, (0, r8)), (3, (4, 1)), (4, (0, o4))]) (stN := [(1, 0), (0, 0), (4, 9)]) (hsN := [jzQ_16, (4, [(4, 13), (1, 1)], []), (8, [(4, 14), (4, 15)], []), jgh, jgh, jgh, jgh, jgh, jgh, (101, [], [-q1, r7, r8, 0, 0, 0]), (101, [], [k9_0, k9_1, k9_2, k9_3, k9_4, k9_5]), jgh, jgh, (101, [], [0, 0, 0, 0, 0, 0]), jgh, jgh]) rfl rfl rfl ?_
  refine jT_xaload_n (v := (4, 0)) (pcN := 140) jIQ_161_139 rfl rfl rfl ?_
  refine jT_xgetf (a := 0) (t := 1) (ci := 13) (fi := 7) (c := jzQ_16) (v := (4, 9)) (pcN := 143) jIQ_161_140 rfl rfl rfl rfl rfl rfl rfl ?_
  refine jT_xiload (v := (0, 0)) (pcN := 145) jIQ_161_143 rfl rfl rfl ?_
  refine jT_lald (x := -q1) (a := 9) (j := 0) (fs := []) (X := [-q1, r7, r8, 0, 0, 0]) jIQ_161_145 rfl rfl rfl rfl ?_
  refine jT_eq (LN := [(7, (0, 0)), (5, (1, q1)), (0, (4, 0)), (1, (0, r7)), (2, (0, r8)), (3, (4, 1)), (4, (0, o4))]) (stN := [(1, -q1), (1, 0), (0, 0), (4, 9)]) (hsN := [jzQ_16, (4, [(4, 13), (1, 1)], []), (8, [(4, 14), (4, 15)], []), jgh, jgh, jgh, jgh, jgh, jgh, (101, [], [-q1, r7, r8, 0, 0, 0]), (101, [], [k9_0, k9_1, k9_2, k9_3, k9_4, k9_5]), jgh, jgh, (101, [], [0, 0, 0, 0, 0, 0]), jgh, jgh]) rfl rfl rfl ?_
  refine jT_xaload_n (v := (4, 1)) (pcN := 147) jIQ_161_146 rfl rfl rfl ?_
  refine jT_xgetf (a := 1) (t := 2) (ci := 4) (fi := 1) (c := (4, [(4, 13), (1, 1)], [])) (v := (1, 1)) (pcN := 150) jIQ_161_147 rfl rfl rfl rfl rfl rfl rfl ?_
  refine jT_xlmul (x := -q1) (y := 1) (z := -q1) (pcN := 151) jIQ_161_150 rfl (by omega) rfl ?_
  refine jT_xlsub (x := 0) (y := -q1) (z := q1) (pcN := 152) jIQ_161_151 rfl (by omega) rfl ?_
  refine jT_adv 1 (pcN := 153) (LN := [(7, (0, 0)), (5, (1, q1)), (0, (4, 0)), (1, (0, r7)), (2, (0, r8)), (3, (4, 1)), (4, (0, o4))]) (stN := []) (hsN := [jzQ_16, (4, [(4, 13), (1, 1)], []), (8, [(4, 14), (4, 15)], []), jgh, jgh, jgh, jgh, jgh, jgh, (101, [], [q1, r7, r8, 0, 0, 0]), (101, [], [k9_0, k9_1, k9_2, k9_3, k9_4, k9_5]), jgh, jgh, (101, [], [0, 0, 0, 0, 0, 0]), jgh, jgh]) (c1 := 0) (s1 := 0) (c2 := 0) (s2 := 0) (by exact rfl) ?_ (by omega) (by omega)
  refine jT_xiinc (x := 0) (z := 1) (LN := [(7, (0, 1)), (5, (1, q1)), (0, (4, 0)), (1, (0, r7)), (2, (0, r8)), (3, (4, 1)), (4, (0, o4))]) (pcN := 156) jIQ_161_153 rfl rfl (by decide) rfl rfl ?_
  refine jT_xgoto (pcN := 119) jIQ_161_156 rfl ?_
  refine jT_xiload (v := (0, 1)) (pcN := 121) jIQ_161_119 rfl rfl rfl ?_
  refine jT_xbipush (k := 6) (pcN := 123) jIQ_161_121 (by decide) rfl ?_
  refine jT_xicF (t := 159) (pcN := 126) jIQ_161_123 rfl (by decide +kernel) rfl rfl ?_
  refine jT_xaload_n (v := (4, 0)) (pcN := 127) jIQ_161_126 rfl rfl rfl ?_
  refine jT_xgetf (a := 0) (t := 1) (ci := 13) (fi := 7) (c := jzQ_16) (v := (4, 9)) (pcN := 130) jIQ_161_127 rfl rfl rfl rfl rfl rfl rfl ?_
  refine jT_xiload (v := (0, 1)) (pcN := 132) jIQ_161_130 rfl rfl rfl ?_
  refine jT_xaload_n (v := (4, 1)) (pcN := 133) jIQ_161_132 rfl rfl rfl ?_
  refine jT_xgetf (a := 1) (t := 2) (ci := 4) (fi := 0) (c := (4, [(4, 13), (1, 1)], [])) (v := (4, 13)) (pcN := 136) jIQ_161_133 rfl rfl rfl rfl rfl rfl rfl ?_
  refine jT_xiload (v := (0, 1)) (pcN := 138) jIQ_161_136 rfl rfl rfl ?_
  refine jT_lald (x := 0) (a := 13) (j := 1) (fs := []) (X := [0, 0, 0, 0, 0, 0]) jIQ_161_138 rfl rfl rfl rfl ?_
  refine jT_eq (LN := [(7, (0, 1)), (5, (1, q1)), (0, (4, 0)), (1, (0, r7)), (2, (0, r8)), (3, (4, 1)), (4, (0, o4))]) (stN := [(1, 0), (0, 1), (4, 9)]) (hsN := [jzQ_16, (4, [(4, 13), (1, 1)], []), (8, [(4, 14), (4, 15)], []), jgh, jgh, jgh, jgh, jgh, jgh, (101, [], [q1, r7, r8, 0, 0, 0]), (101, [], [k9_0, k9_1, k9_2, k9_3, k9_4, k9_5]), jgh, jgh, (101, [], [0, 0, 0, 0, 0, 0]), jgh, jgh]) rfl rfl rfl ?_
  refine jT_xaload_n (v := (4, 0)) (pcN := 140) jIQ_161_139 rfl rfl rfl ?_
  refine jT_xgetf (a := 0) (t := 1) (ci := 13) (fi := 7) (c := jzQ_16) (v := (4, 9)) (pcN := 143) jIQ_161_140 rfl rfl rfl rfl rfl rfl rfl ?_
  refine jT_xiload (v := (0, 1)) (pcN := 145) jIQ_161_143 rfl rfl rfl ?_
  refine jT_lald (x := r7) (a := 9) (j := 1) (fs := []) (X := [q1, r7, r8, 0, 0, 0]) jIQ_161_145 rfl rfl rfl rfl ?_
  refine jT_eq (LN := [(7, (0, 1)), (5, (1, q1)), (0, (4, 0)), (1, (0, r7)), (2, (0, r8)), (3, (4, 1)), (4, (0, o4))]) (stN := [(1, r7), (1, 0), (0, 1), (4, 9)]) (hsN := [jzQ_16, (4, [(4, 13), (1, 1)], []), (8, [(4, 14), (4, 15)], []), jgh, jgh, jgh, jgh, jgh, jgh, (101, [], [q1, r7, r8, 0, 0, 0]), (101, [], [k9_0, k9_1, k9_2, k9_3, k9_4, k9_5]), jgh, jgh, (101, [], [0, 0, 0, 0, 0, 0]), jgh, jgh]) rfl rfl rfl ?_
  refine jT_xaload_n (v := (4, 1)) (pcN := 147) jIQ_161_146 rfl rfl rfl ?_
  refine jT_xgetf (a := 1) (t := 2) (ci := 4) (fi := 1) (c := (4, [(4, 13), (1, 1)], [])) (v := (1, 1)) (pcN := 150) jIQ_161_147 rfl rfl rfl rfl rfl rfl rfl ?_
  refine jT_xlmul (x := r7) (y := 1) (z := r7) (pcN := 151) jIQ_161_150 rfl (by omega) rfl ?_
  refine jT_xlsub (x := 0) (y := r7) (z := -r7) (pcN := 152) jIQ_161_151 rfl (by omega) rfl ?_
  refine jT_adv 1 (pcN := 153) (LN := [(7, (0, 1)), (5, (1, q1)), (0, (4, 0)), (1, (0, r7)), (2, (0, r8)), (3, (4, 1)), (4, (0, o4))]) (stN := []) (hsN := [jzQ_16, (4, [(4, 13), (1, 1)], []), (8, [(4, 14), (4, 15)], []), jgh, jgh, jgh, jgh, jgh, jgh, (101, [], [q1, -r7, r8, 0, 0, 0]), (101, [], [k9_0, k9_1, k9_2, k9_3, k9_4, k9_5]), jgh, jgh, (101, [], [0, 0, 0, 0, 0, 0]), jgh, jgh]) (c1 := 0) (s1 := 0) (c2 := 0) (s2 := 0) (by exact rfl) ?_ (by omega) (by omega)
  refine jT_xiinc (x := 1) (z := 2) (LN := [(7, (0, 2)), (5, (1, q1)), (0, (4, 0)), (1, (0, r7)), (2, (0, r8)), (3, (4, 1)), (4, (0, o4))]) (pcN := 156) jIQ_161_153 rfl rfl (by decide) rfl rfl ?_
  refine jT_xgoto (pcN := 119) jIQ_161_156 rfl ?_
  refine jT_xiload (v := (0, 2)) (pcN := 121) jIQ_161_119 rfl rfl rfl ?_
  refine jT_xbipush (k := 6) (pcN := 123) jIQ_161_121 (by decide) rfl ?_
  refine jT_xicF (t := 159) (pcN := 126) jIQ_161_123 rfl (by decide +kernel) rfl rfl ?_
  refine jT_xaload_n (v := (4, 0)) (pcN := 127) jIQ_161_126 rfl rfl rfl ?_
  refine jT_xgetf (a := 0) (t := 1) (ci := 13) (fi := 7) (c := jzQ_16) (v := (4, 9)) (pcN := 130) jIQ_161_127 rfl rfl rfl rfl rfl rfl rfl ?_
  refine jT_xiload (v := (0, 2)) (pcN := 132) jIQ_161_130 rfl rfl rfl ?_
  refine jT_xaload_n (v := (4, 1)) (pcN := 133) jIQ_161_132 rfl rfl rfl ?_
  refine jT_xgetf (a := 1) (t := 2) (ci := 4) (fi := 0) (c := (4, [(4, 13), (1, 1)], [])) (v := (4, 13)) (pcN := 136) jIQ_161_133 rfl rfl rfl rfl rfl rfl rfl ?_
  refine jT_xiload (v := (0, 2)) (pcN := 138) jIQ_161_136 rfl rfl rfl ?_
  refine jT_lald (x := 0) (a := 13) (j := 2) (fs := []) (X := [0, 0, 0, 0, 0, 0]) jIQ_161_138 rfl rfl rfl rfl ?_
  refine jT_eq (LN := [(7, (0, 2)), (5, (1, q1)), (0, (4, 0)), (1, (0, r7)), (2, (0, r8)), (3, (4, 1)), (4, (0, o4))]) (stN := [(1, 0), (0, 2), (4, 9)]) (hsN := [jzQ_16, (4, [(4, 13), (1, 1)], []), (8, [(4, 14), (4, 15)], []), jgh, jgh, jgh, jgh, jgh, jgh, (101, [], [q1, -r7, r8, 0, 0, 0]), (101, [], [k9_0, k9_1, k9_2, k9_3, k9_4, k9_5]), jgh, jgh, (101, [], [0, 0, 0, 0, 0, 0]), jgh, jgh]) rfl rfl rfl ?_
  refine jT_xaload_n (v := (4, 0)) (pcN := 140) jIQ_161_139 rfl rfl rfl ?_
  refine jT_xgetf (a := 0) (t := 1) (ci := 13) (fi := 7) (c := jzQ_16) (v := (4, 9)) (pcN := 143) jIQ_161_140 rfl rfl rfl rfl rfl rfl rfl ?_
  refine jT_xiload (v := (0, 2)) (pcN := 145) jIQ_161_143 rfl rfl rfl ?_
  refine jT_lald (x := r8) (a := 9) (j := 2) (fs := []) (X := [q1, -r7, r8, 0, 0, 0]) jIQ_161_145 rfl rfl rfl rfl ?_
  refine jT_eq (LN := [(7, (0, 2)), (5, (1, q1)), (0, (4, 0)), (1, (0, r7)), (2, (0, r8)), (3, (4, 1)), (4, (0, o4))]) (stN := [(1, r8), (1, 0), (0, 2), (4, 9)]) (hsN := [jzQ_16, (4, [(4, 13), (1, 1)], []), (8, [(4, 14), (4, 15)], []), jgh, jgh, jgh, jgh, jgh, jgh, (101, [], [q1, -r7, r8, 0, 0, 0]), (101, [], [k9_0, k9_1, k9_2, k9_3, k9_4, k9_5]), jgh, jgh, (101, [], [0, 0, 0, 0, 0, 0]), jgh, jgh]) rfl rfl rfl ?_
  refine jT_xaload_n (v := (4, 1)) (pcN := 147) jIQ_161_146 rfl rfl rfl ?_
  refine jT_xgetf (a := 1) (t := 2) (ci := 4) (fi := 1) (c := (4, [(4, 13), (1, 1)], [])) (v := (1, 1)) (pcN := 150) jIQ_161_147 rfl rfl rfl rfl rfl rfl rfl ?_
  refine jT_xlmul (x := r8) (y := 1) (z := r8) (pcN := 151) jIQ_161_150 rfl (by omega) rfl ?_
  refine jT_xlsub (x := 0) (y := r8) (z := -r8) (pcN := 152) jIQ_161_151 rfl (by omega) rfl ?_
  refine jT_adv 1 (pcN := 153) (LN := [(7, (0, 2)), (5, (1, q1)), (0, (4, 0)), (1, (0, r7)), (2, (0, r8)), (3, (4, 1)), (4, (0, o4))]) (stN := []) (hsN := [jzQ_16, (4, [(4, 13), (1, 1)], []), (8, [(4, 14), (4, 15)], []), jgh, jgh, jgh, jgh, jgh, jgh, (101, [], [q1, -r7, -r8, 0, 0, 0]), (101, [], [k9_0, k9_1, k9_2, k9_3, k9_4, k9_5]), jgh, jgh, (101, [], [0, 0, 0, 0, 0, 0]), jgh, jgh]) (c1 := 0) (s1 := 0) (c2 := 0) (s2 := 0) (by exact rfl) ?_ (by omega) (by omega)
  refine jT_xiinc (x := 2) (z := 3) (LN := [(7, (0, 3)), (5, (1, q1)), (0, (4, 0)), (1, (0, r7)), (2, (0, r8)), (3, (4, 1)), (4, (0, o4))]) (pcN := 156) jIQ_161_153 rfl rfl (by decide) rfl rfl ?_
  refine jT_xgoto (pcN := 119) jIQ_161_156 rfl ?_
  refine jT_xiload (v := (0, 3)) (pcN := 121) jIQ_161_119 rfl rfl rfl ?_
  refine jT_xbipush (k := 6) (pcN := 123) jIQ_161_121 (by decide) rfl ?_
  refine jT_xicF (t := 159) (pcN := 126) jIQ_161_123 rfl (by decide +kernel) rfl rfl ?_
  refine jT_xaload_n (v := (4, 0)) (pcN := 127) jIQ_161_126 rfl rfl rfl ?_
  refine jT_xgetf (a := 0) (t := 1) (ci := 13) (fi := 7) (c := jzQ_16) (v := (4, 9)) (pcN := 130) jIQ_161_127 rfl rfl rfl rfl rfl rfl rfl ?_
  refine jT_xiload (v := (0, 3)) (pcN := 132) jIQ_161_130 rfl rfl rfl ?_
  refine jT_xaload_n (v := (4, 1)) (pcN := 133) jIQ_161_132 rfl rfl rfl ?_
  refine jT_xgetf (a := 1) (t := 2) (ci := 4) (fi := 0) (c := (4, [(4, 13), (1, 1)], [])) (v := (4, 13)) (pcN := 136) jIQ_161_133 rfl rfl rfl rfl rfl rfl rfl ?_
  refine jT_xiload (v := (0, 3)) (pcN := 138) jIQ_161_136 rfl rfl rfl ?_
  refine jT_lald (x := 0) (a := 13) (j := 3) (fs := []) (X := [0, 0, 0, 0, 0, 0]) jIQ_161_138 rfl rfl rfl rfl ?_
  refine jT_eq (LN := [(7, (0, 3)), (5, (1, q1)), (0, (4, 0)), (1, (0, r7)), (2, (0, r8)), (3, (4, 1)), (4, (0, o4))]) (stN := [(1, 0), (0, 3), (4, 9)]) (hsN := [jzQ_16, (4, [(4, 13), (1, 1)], []), (8, [(4, 14), (4, 15)], []), jgh, jgh, jgh, jgh, jgh, jgh, (101, [], [q1, -r7, -r8, 0, 0, 0]), (101, [], [k9_0, k9_1, k9_2, k9_3, k9_4, k9_5]), jgh, jgh, (101, [], [0, 0, 0, 0, 0, 0]), jgh, jgh]) rfl rfl rfl ?_
  refine jT_xaload_n (v := (4, 0)) (pcN := 140) jIQ_161_139 rfl rfl rfl ?_
  refine jT_xgetf (a := 0) (t := 1) (ci := 13) (fi := 7) (c := jzQ_16) (v := (4, 9)) (pcN := 143) jIQ_161_140 rfl rfl rfl rfl rfl rfl rfl ?_
  refine jT_xiload (v := (0, 3)) (pcN := 145) jIQ_161_143 rfl rfl rfl ?_
  refine jT_lald (x := 0) (a := 9) (j := 3) (fs := []) (X := [q1, -r7, -r8, 0, 0, 0]) jIQ_161_145 rfl rfl rfl rfl ?_
  refine jT_eq (LN := [(7, (0, 3)), (5, (1, q1)), (0, (4, 0)), (1, (0, r7)), (2, (0, r8)), (3, (4, 1)), (4, (0, o4))]) (stN := [(1, 0), (1, 0), (0, 3), (4, 9)]) (hsN := [jzQ_16, (4, [(4, 13), (1, 1)], []), (8, [(4, 14), (4, 15)], []), jgh, jgh, jgh, jgh, jgh, jgh, (101, [], [q1, -r7, -r8, 0, 0, 0]), (101, [], [k9_0, k9_1, k9_2, k9_3, k9_4, k9_5]), jgh, jgh, (101, [], [0, 0, 0, 0, 0, 0]), jgh, jgh]) rfl rfl rfl ?_
  refine jT_xaload_n (v := (4, 1)) (pcN := 147) jIQ_161_146 rfl rfl rfl ?_
  refine jT_xgetf (a := 1) (t := 2) (ci := 4) (fi := 1) (c := (4, [(4, 13), (1, 1)], [])) (v := (1, 1)) (pcN := 150) jIQ_161_147 rfl rfl rfl rfl rfl rfl rfl ?_
  refine jT_xlmul (x := 0) (y := 1) (z := 0) (pcN := 151) jIQ_161_150 rfl (by decide) rfl ?_
  refine jT_xlsub (x := 0) (y := 0) (z := 0) (pcN := 152) jIQ_161_151 rfl (by decide) rfl ?_
  refine jT_adv 1 (pcN := 153) (LN := [(7, (0, 3)), (5, (1, q1)), (0, (4, 0)), (1, (0, r7)), (2, (0, r8)), (3, (4, 1)), (4, (0, o4))]) (stN := []) (hsN := [jzQ_16, (4, [(4, 13), (1, 1)], []), (8, [(4, 14), (4, 15)], []), jgh, jgh, jgh, jgh, jgh, jgh, (101, [], [q1, -r7, -r8, 0, 0, 0]), (101, [], [k9_0, k9_1, k9_2, k9_3, k9_4, k9_5]), jgh, jgh, (101, [], [0, 0, 0, 0, 0, 0]), jgh, jgh]) (c1 := 0) (s1 := 0) (c2 := 0) (s2 := 0) (by exact rfl) ?_ (by omega) (by omega)
  refine jT_xiinc (x := 3) (z := 4) (LN := [(7, (0, 4)), (5, (1, q1)), (0, (4, 0)), (1, (0, r7)), (2, (0, r8)), (3, (4, 1)), (4, (0, o4))]) (pcN := 156) jIQ_161_153 rfl rfl (by decide) rfl rfl ?_
  refine jT_xgoto (pcN := 119) jIQ_161_156 rfl ?_
  refine jT_xiload (v := (0, 4)) (pcN := 121) jIQ_161_119 rfl rfl rfl ?_
  refine jT_xbipush (k := 6) (pcN := 123) jIQ_161_121 (by decide) rfl ?_
  refine jT_xicF (t := 159) (pcN := 126) jIQ_161_123 rfl (by decide +kernel) rfl rfl ?_
  refine jT_xaload_n (v := (4, 0)) (pcN := 127) jIQ_161_126 rfl rfl rfl ?_
  refine jT_xgetf (a := 0) (t := 1) (ci := 13) (fi := 7) (c := jzQ_16) (v := (4, 9)) (pcN := 130) jIQ_161_127 rfl rfl rfl rfl rfl rfl rfl ?_
  refine jT_xiload (v := (0, 4)) (pcN := 132) jIQ_161_130 rfl rfl rfl ?_
  refine jT_xaload_n (v := (4, 1)) (pcN := 133) jIQ_161_132 rfl rfl rfl ?_
  refine jT_xgetf (a := 1) (t := 2) (ci := 4) (fi := 0) (c := (4, [(4, 13), (1, 1)], [])) (v := (4, 13)) (pcN := 136) jIQ_161_133 rfl rfl rfl rfl rfl rfl rfl ?_
  refine jT_xiload (v := (0, 4)) (pcN := 138) jIQ_161_136 rfl rfl rfl ?_
  refine jT_lald (x := 0) (a := 13) (j := 4) (fs := []) (X := [0, 0, 0, 0, 0, 0]) jIQ_161_138 rfl rfl rfl rfl ?_
  refine jT_eq (LN := [(7, (0, 4)), (5, (1, q1)), (0, (4, 0)), (1, (0, r7)), (2, (0, r8)), (3, (4, 1)), (4, (0, o4))]) (stN := [(1, 0), (0, 4), (4, 9)]) (hsN := [jzQ_16, (4, [(4, 13), (1, 1)], []), (8, [(4, 14), (4, 15)], []), jgh, jgh, jgh, jgh, jgh, jgh, (101, [], [q1, -r7, -r8, 0, 0, 0]), (101, [], [k9_0, k9_1, k9_2, k9_3, k9_4, k9_5]), jgh, jgh, (101, [], [0, 0, 0, 0, 0, 0]), jgh, jgh]) rfl rfl rfl ?_
  refine jT_xaload_n (v := (4, 0)) (pcN := 140) jIQ_161_139 rfl rfl rfl ?_
  refine jT_xgetf (a := 0) (t := 1) (ci := 13) (fi := 7) (c := jzQ_16) (v := (4, 9)) (pcN := 143) jIQ_161_140 rfl rfl rfl rfl rfl rfl rfl ?_
  refine jT_xiload (v := (0, 4)) (pcN := 145) jIQ_161_143 rfl rfl rfl ?_
  refine jT_lald (x := 0) (a := 9) (j := 4) (fs := []) (X := [q1, -r7, -r8, 0, 0, 0]) jIQ_161_145 rfl rfl rfl rfl ?_
  refine jT_eq (LN := [(7, (0, 4)), (5, (1, q1)), (0, (4, 0)), (1, (0, r7)), (2, (0, r8)), (3, (4, 1)), (4, (0, o4))]) (stN := [(1, 0), (1, 0), (0, 4), (4, 9)]) (hsN := [jzQ_16, (4, [(4, 13), (1, 1)], []), (8, [(4, 14), (4, 15)], []), jgh, jgh, jgh, jgh, jgh, jgh, (101, [], [q1, -r7, -r8, 0, 0, 0]), (101, [], [k9_0, k9_1, k9_2, k9_3, k9_4, k9_5]), jgh, jgh, (101, [], [0, 0, 0, 0, 0, 0]), jgh, jgh]) rfl rfl rfl ?_
  refine jT_xaload_n (v := (4, 1)) (pcN := 147) jIQ_161_146 rfl rfl rfl ?_
  refine jT_xgetf (a := 1) (t := 2) (ci := 4) (fi := 1) (c := (4, [(4, 13), (1, 1)], [])) (v := (1, 1)) (pcN := 150) jIQ_161_147 rfl rfl rfl rfl rfl rfl rfl ?_
  refine jT_xlmul (x := 0) (y := 1) (z := 0) (pcN := 151) jIQ_161_150 rfl (by decide) rfl ?_
  refine jT_xlsub (x := 0) (y := 0) (z := 0) (pcN := 152) jIQ_161_151 rfl (by decide) rfl ?_
  refine jT_adv 1 (pcN := 153) (LN := [(7, (0, 4)), (5, (1, q1)), (0, (4, 0)), (1, (0, r7)), (2, (0, r8)), (3, (4, 1)), (4, (0, o4))]) (stN := []) (hsN := [jzQ_16, (4, [(4, 13), (1, 1)], []), (8, [(4, 14), (4, 15)], []), jgh, jgh, jgh, jgh, jgh, jgh, (101, [], [q1, -r7, -r8, 0, 0, 0]), (101, [], [k9_0, k9_1, k9_2, k9_3, k9_4, k9_5]), jgh, jgh, (101, [], [0, 0, 0, 0, 0, 0]), jgh, jgh]) (c1 := 0) (s1 := 0) (c2 := 0) (s2 := 0) (by exact rfl) ?_ (by omega) (by omega)
  refine jT_xiinc (x := 4) (z := 5) (LN := [(7, (0, 5)), (5, (1, q1)), (0, (4, 0)), (1, (0, r7)), (2, (0, r8)), (3, (4, 1)), (4, (0, o4))]) (pcN := 156) jIQ_161_153 rfl rfl (by decide) rfl rfl ?_
  refine jT_xgoto (pcN := 119) jIQ_161_156 rfl ?_
  refine jT_xiload (v := (0, 5)) (pcN := 121) jIQ_161_119 rfl rfl rfl ?_
  refine jT_xbipush (k := 6) (pcN := 123) jIQ_161_121 (by decide) rfl ?_
  refine jT_xicF (t := 159) (pcN := 126) jIQ_161_123 rfl (by decide +kernel) rfl rfl ?_
  refine jT_xaload_n (v := (4, 0)) (pcN := 127) jIQ_161_126 rfl rfl rfl ?_
  refine jT_xgetf (a := 0) (t := 1) (ci := 13) (fi := 7) (c := jzQ_16) (v := (4, 9)) (pcN := 130) jIQ_161_127 rfl rfl rfl rfl rfl rfl rfl ?_
  refine jT_xiload (v := (0, 5)) (pcN := 132) jIQ_161_130 rfl rfl rfl ?_
  refine jT_xaload_n (v := (4, 1)) (pcN := 133) jIQ_161_132 rfl rfl rfl ?_
  refine jT_xgetf (a := 1) (t := 2) (ci := 4) (fi := 0) (c := (4, [(4, 13), (1, 1)], [])) (v := (4, 13)) (pcN := 136) jIQ_161_133 rfl rfl rfl rfl rfl rfl rfl ?_
  refine jT_xiload (v := (0, 5)) (pcN := 138) jIQ_161_136 rfl rfl rfl ?_
  refine jT_lald (x := 0) (a := 13) (j := 5) (fs := []) (X := [0, 0, 0, 0, 0, 0]) jIQ_161_138 rfl rfl rfl rfl ?_
  refine jT_eq (LN := [(7, (0, 5)), (5, (1, q1)), (0, (4, 0)), (1, (0, r7)), (2, (0, r8)), (3, (4, 1)), (4, (0, o4))]) (stN := [(1, 0), (0, 5), (4, 9)]) (hsN := [jzQ_16, (4, [(4, 13), (1, 1)], []), (8, [(4, 14), (4, 15)], []), jgh, jgh, jgh, jgh, jgh, jgh, (101, [], [q1, -r7, -r8, 0, 0, 0]), (101, [], [k9_0, k9_1, k9_2, k9_3, k9_4, k9_5]), jgh, jgh, (101, [], [0, 0, 0, 0, 0, 0]), jgh, jgh]) rfl rfl rfl ?_
  refine jT_xaload_n (v := (4, 0)) (pcN := 140) jIQ_161_139 rfl rfl rfl ?_
  refine jT_xgetf (a := 0) (t := 1) (ci := 13) (fi := 7) (c := jzQ_16) (v := (4, 9)) (pcN := 143) jIQ_161_140 rfl rfl rfl rfl rfl rfl rfl ?_
  refine jT_xiload (v := (0, 5)) (pcN := 145) jIQ_161_143 rfl rfl rfl ?_
  refine jT_lald (x := 0) (a := 9) (j := 5) (fs := []) (X := [q1, -r7, -r8, 0, 0, 0]) jIQ_161_145 rfl rfl rfl rfl ?_
  refine jT_eq (LN := [(7, (0, 5)), (5, (1, q1)), (0, (4, 0)), (1, (0, r7)), (2, (0, r8)), (3, (4, 1)), (4, (0, o4))]) (stN := [(1, 0), (1, 0), (0, 5), (4, 9)]) (hsN := [jzQ_16, (4, [(4, 13), (1, 1)], []), (8, [(4, 14), (4, 15)], []), jgh, jgh, jgh, jgh, jgh, jgh, (101, [], [q1, -r7, -r8, 0, 0, 0]), (101, [], [k9_0, k9_1, k9_2, k9_3, k9_4, k9_5]), jgh, jgh, (101, [], [0, 0, 0, 0, 0, 0]), jgh, jgh]) rfl rfl rfl ?_
  refine jT_xaload_n (v := (4, 1)) (pcN := 147) jIQ_161_146 rfl rfl rfl ?_
  refine jT_xgetf (a := 1) (t := 2) (ci := 4) (fi := 1) (c := (4, [(4, 13), (1, 1)], [])) (v := (1, 1)) (pcN := 150) jIQ_161_147 rfl rfl rfl rfl rfl rfl rfl ?_
  refine jT_xlmul (x := 0) (y := 1) (z := 0) (pcN := 151) jIQ_161_150 rfl (by decide) rfl ?_
  refine jT_xlsub (x := 0) (y := 0) (z := 0) (pcN := 152) jIQ_161_151 rfl (by decide) rfl ?_
  refine jT_adv 1 (pcN := 153) (LN := [(7, (0, 5)), (5, (1, q1)), (0, (4, 0)), (1, (0, r7)), (2, (0, r8)), (3, (4, 1)), (4, (0, o4))]) (stN := []) (hsN := [jzQ_16, (4, [(4, 13), (1, 1)], []), (8, [(4, 14), (4, 15)], []), jgh, jgh, jgh, jgh, jgh, jgh, (101, [], [q1, -r7, -r8, 0, 0, 0]), (101, [], [k9_0, k9_1, k9_2, k9_3, k9_4, k9_5]), jgh, jgh, (101, [], [0, 0, 0, 0, 0, 0]), jgh, jgh]) (c1 := 0) (s1 := 0) (c2 := 0) (s2 := 0) (by exact rfl) ?_ (by omega) (by omega)
  refine jT_xiinc (x := 5) (z := 6) (LN := [(7, (0, 6)), (5, (1, q1)), (0, (4, 0)), (1, (0, r7)), (2, (0, r8)), (3, (4, 1)), (4, (0, o4))]) (pcN := 156) jIQ_161_153 rfl rfl (by decide) rfl rfl ?_
  refine jT_xgoto (pcN := 119) jIQ_161_156 rfl ?_
  refine jT_xiload (v := (0, 6)) (pcN := 121) jIQ_161_119 rfl rfl rfl ?_
  refine jT_xbipush (k := 6) (pcN := 123) jIQ_161_121 (by decide) rfl ?_
  refine jT_xicT (pcN := 159) jIQ_161_123 rfl (by decide +kernel) rfl ?_
  refine jT_xaload_n (v := (4, 0)) (pcN := 160) jIQ_161_159 rfl rfl rfl ?_
  refine jT_xgetf (a := 0) (t := 1) (ci := 13) (fi := 0) (c := jzQ_16) (v := (4, 2)) (pcN := 163) jIQ_161_160 rfl rfl rfl rfl rfl rfl rfl ?_
  refine jT_xaload_n (v := (4, 0)) (pcN := 164) jIQ_161_163 rfl rfl rfl ?_
  refine jT_xgetf (a := 0) (t := 1) (ci := 13) (fi := 7) (c := jzQ_16) (v := (4, 9)) (pcN := 167) jIQ_161_164 rfl rfl rfl rfl rfl rfl rfl ?_
  refine jT_callA [2, 9, 14, 15] (y := 38) (pcN := 170) (dC := 1) (bc1 := 0) (bc2 := 0) (c1 := 0) (c2 := 0) (as := [(4, 2), (4, 9)]) (asC := [(4, 0), (4, 1)]) (LN := [(7, (0, 6)), (5, (1, q1)), (0, (4, 0)), (1, (0, r7)), (2, (0, r8)), (3, (4, 1)), (4, (0, o4))]) (stN := []) (hsC := [(8, [(4, 2), (4, 3)], []), (101, [], [q1, -r7, -r8, 0, 0, 0]), jgh, jgh]) (ex := []) (v := (0, (-1))) (st2 := [(0, (-1))]) (hs2 := [jzQ_16, (4, [(4, 13), (1, 1)], []), (8, [(4, 14), (4, 15)], []), jgh, jgh, jgh, jgh, jgh, jgh, (101, [], [q1, -r7, -r8, 0, 0, 0]), (101, [], [k9_0, k9_1, k9_2, k9_3, k9_4, k9_5]), jgh, jgh, (101, [], [0, 0, 0, 0, 0, 0]), jgh, jgh]) (jQl_sp38_117 (d := 0) (by omega) (by omega) (by omega) (by omega) (by omega) (by omega) (by omega)) (by rfl) (by rfl) (by rfl) (by rfl) ⟨rfl, rfl, rfl, rfl, trivial⟩ (by rfl) (by rfl) (by omega) (by show 16 ≤ 16; omega) (by omega) (by omega) rfl rfl ?_
  refine jT_xifT (pcN := 177) jIQ_161_170 rfl (by decide +kernel) rfl ?_
  refine jT_xiconst (k := 0) (pcN := 178) jIQ_161_177 rfl ?_
  subst hq_q4
  subst hq_q3
  subst hq_q2
  subst hq_q1
  exact jT_ret rfl (by decide) (by show 16 ≤ 16; omega) (by omega) (by omega) ⟨rfl, rfl, rfl⟩
theorem jQ_161_239 {xs : List Int} {d : Nat} {k9_0 k9_1 k9_2 k9_3 k9_4 k9_5 o4 r7 r8 u8_0 u8_1 u8_2 u8_3 u8_4 u8_5 : Int} (h_k9_0 : 1 ≤ k9_0 ∧ k9_0 ≤ 100) (h_k9_1 : 2 ≤ k9_1 ∧ k9_1 ≤ 158) (h_k9_2 : 2 ≤ k9_2 ∧ k9_2 ≤ 232) (h_k9_3 : 3 ≤ k9_3 ∧ k9_3 ≤ 281) (h_k9_4 : 3 ≤ k9_4 ∧ k9_4 ≤ 346) (h_k9_5 : 4 ≤ k9_5 ∧ k9_5 ≤ 370) (h_o4 : 1 ≤ o4 ∧ o4 ≤ 100) (h_r7 : (-20) ≤ r7 ∧ r7 ≤ 20) (h_r8 : (-10) ≤ r8 ∧ r8 ≤ 10) (g_0 : 0 ≤ r7) (g_1 : r7 ≤ 0) (g_2 : 0 < r8) (g_3 : 0 ≤ -(((108917793695 * r7 + 159561683699 * r8) / 68719476736) * o4) + (r7 * k9_1) + (r8 * k9_2) - 1) : jT xs (d + 2) 161 15 0 [(0, (4, 0)), (1, (0, r7)), (2, (0, r8)), (3, (4, 1)), (4, (0, o4))] [] [jzQ_16, jgh, (8, [(4, 13), (4, 14)], []), jgh, jgh, jgh, jgh, jgh, jgh, (101, [], [u8_0, u8_1, u8_2, u8_3, u8_4, u8_5]), (101, [], [k9_0, k9_1, k9_2, k9_3, k9_4, k9_5]), jgh, jgh, jgh, jgh] 0 0 (fun k v hsN => k = 0 ∧ v = (0, 0) ∧ hsN = [jzQ_16, jgh, (8, [(4, 13), (4, 14)], []), jgh, jgh, jgh, jgh, jgh, jgh, (101, [], [0, r7, r8, 0, 0, 0]), (101, [], [k9_0, k9_1, k9_2, k9_3, k9_4, k9_5]), jgh, jgh, jgh, jgh]) := by
  refine jT_xiload_n (v := (0, r7)) (pcN := 1) jIQ_161_0 rfl rfl rfl ?_
  refine jT_ifF (a := r7) (t := 10) (by rfl) (by rfl) (by rfl) (jw_idd (by omega) (by omega)) (by simp only [jcP] <;> omega) ?_
  refine jT_xiload_n (v := (0, r8)) (pcN := 5) jIQ_161_4 rfl rfl rfl ?_
  refine jT_ifT (a := r8) (t := 10) (by rfl) (by rfl) (by rfl) (jw_idd (by omega) (by omega)) (by simp only [jcP] <;> omega) ?_
  refine jT_xiconst (k := 0) (pcN := 11) jIQ_161_10 rfl ?_
  refine jT_xistore (v := (0, 0)) (LN := [(5, (0, 0)), (0, (4, 0)), (1, (0, r7)), (2, (0, r8)), (3, (4, 1)), (4, (0, o4))]) (pcN := 13) jIQ_161_11 rfl rfl rfl rfl ?_
  refine jT_xiload (v := (0, 0)) (pcN := 15) jIQ_161_13 rfl rfl rfl ?_
  refine jT_xbipush (k := 6) (pcN := 17) jIQ_161_15 (by decide) rfl ?_
  refine jT_xicF (t := 56) (pcN := 20) jIQ_161_17 rfl (by decide +kernel) rfl rfl ?_
  refine jT_xaload_n (v := (4, 0)) (pcN := 21) jIQ_161_20 rfl rfl rfl ?_
  refine jT_xgetf (a := 0) (t := 1) (ci := 13) (fi := 7) (c := jzQ_16) (v := (4, 9)) (pcN := 24) jIQ_161_21 rfl rfl rfl rfl rfl rfl rfl ?_
  refine jT_xiload (v := (0, 0)) (pcN := 26) jIQ_161_24 rfl rfl rfl ?_
  refine jT_xiload (v := (0, 0)) (pcN := 28) jIQ_161_26 rfl rfl rfl ?_
  refine jT_xiconst (k := 1) (pcN := 29) jIQ_161_28 rfl ?_
  refine jT_xicT (pcN := 37) jIQ_161_29 rfl (by decide +kernel) rfl ?_
  refine jT_xiload (v := (0, 0)) (pcN := 39) jIQ_161_37 rfl rfl rfl ?_
  refine jT_xiconst (k := 2) (pcN := 40) jIQ_161_39 rfl ?_
  refine jT_xicT (pcN := 48) jIQ_161_40 rfl (by decide +kernel) rfl ?_
  refine jT_xlconst (z := 0) (pcN := 49) jIQ_161_48 rfl rfl ?_
  refine jT_adv 1 (pcN := 50) (LN := [(5, (0, 0)), (0, (4, 0)), (1, (0, r7)), (2, (0, r8)), (3, (4, 1)), (4, (0, o4))]) (stN := []) (hsN := [jzQ_16, jgh, (8, [(4, 13), (4, 14)], []), jgh, jgh, jgh, jgh, jgh, jgh, (101, [], [0, u8_1, u8_2, u8_3, u8_4, u8_5]), (101, [], [k9_0, k9_1, k9_2, k9_3, k9_4, k9_5]), jgh, jgh, jgh, jgh]) (c1 := 0) (s1 := 0) (c2 := 0) (s2 := 0) (by exact rfl) ?_ (by omega) (by omega)
  refine jT_xiinc (x := 0) (z := 1) (LN := [(5, (0, 1)), (0, (4, 0)), (1, (0, r7)), (2, (0, r8)), (3, (4, 1)), (4, (0, o4))]) (pcN := 53) jIQ_161_50 rfl rfl (by decide) rfl rfl ?_
  refine jT_xgoto (pcN := 13) jIQ_161_53 rfl ?_
  refine jT_xiload (v := (0, 1)) (pcN := 15) jIQ_161_13 rfl rfl rfl ?_
  refine jT_xbipush (k := 6) (pcN := 17) jIQ_161_15 (by decide) rfl ?_
  refine jT_xicF (t := 56) (pcN := 20) jIQ_161_17 rfl (by decide +kernel) rfl rfl ?_
  refine jT_xaload_n (v := (4, 0)) (pcN := 21) jIQ_161_20 rfl rfl rfl ?_
  refine jT_xgetf (a := 0) (t := 1) (ci := 13) (fi := 7) (c := jzQ_16) (v := (4, 9)) (pcN := 24) jIQ_161_21 rfl rfl rfl rfl rfl rfl rfl ?_
  refine jT_xiload (v := (0, 1)) (pcN := 26) jIQ_161_24 rfl rfl rfl ?_
  refine jT_xiload (v := (0, 1)) (pcN := 28) jIQ_161_26 rfl rfl rfl ?_
  refine jT_xiconst (k := 1) (pcN := 29) jIQ_161_28 rfl ?_
  refine jT_xicF (t := 37) (pcN := 32) jIQ_161_29 rfl (by decide +kernel) rfl rfl ?_
  refine jT_xiload_n (v := (0, r7)) (pcN := 33) jIQ_161_32 rfl rfl rfl ?_
  refine jT_xi2l (x := r7) (z := r7) (pcN := 34) jIQ_161_33 rfl (jw_idd (by omega) (by omega)) rfl ?_
  refine jT_xgoto (pcN := 49) jIQ_161_34 rfl ?_
  refine jT_adv 1 (pcN := 50) (LN := [(5, (0, 1)), (0, (4, 0)), (1, (0, r7)), (2, (0, r8)), (3, (4, 1)), (4, (0, o4))]) (stN := []) (hsN := [jzQ_16, jgh, (8, [(4, 13), (4, 14)], []), jgh, jgh, jgh, jgh, jgh, jgh, (101, [], [0, r7, u8_2, u8_3, u8_4, u8_5]), (101, [], [k9_0, k9_1, k9_2, k9_3, k9_4, k9_5]), jgh, jgh, jgh, jgh]) (c1 := 0) (s1 := 0) (c2 := 0) (s2 := 0) (by exact rfl) ?_ (by omega) (by omega)
  refine jT_xiinc (x := 1) (z := 2) (LN := [(5, (0, 2)), (0, (4, 0)), (1, (0, r7)), (2, (0, r8)), (3, (4, 1)), (4, (0, o4))]) (pcN := 53) jIQ_161_50 rfl rfl (by decide) rfl rfl ?_
  refine jT_xgoto (pcN := 13) jIQ_161_53 rfl ?_
  refine jT_xiload (v := (0, 2)) (pcN := 15) jIQ_161_13 rfl rfl rfl ?_
  refine jT_xbipush (k := 6) (pcN := 17) jIQ_161_15 (by decide) rfl ?_
  refine jT_xicF (t := 56) (pcN := 20) jIQ_161_17 rfl (by decide +kernel) rfl rfl ?_
  refine jT_xaload_n (v := (4, 0)) (pcN := 21) jIQ_161_20 rfl rfl rfl ?_
  refine jT_xgetf (a := 0) (t := 1) (ci := 13) (fi := 7) (c := jzQ_16) (v := (4, 9)) (pcN := 24) jIQ_161_21 rfl rfl rfl rfl rfl rfl rfl ?_
  refine jT_xiload (v := (0, 2)) (pcN := 26) jIQ_161_24 rfl rfl rfl ?_
  refine jT_xiload (v := (0, 2)) (pcN := 28) jIQ_161_26 rfl rfl rfl ?_
  refine jT_xiconst (k := 1) (pcN := 29) jIQ_161_28 rfl ?_
  refine jT_xicT (pcN := 37) jIQ_161_29 rfl (by decide +kernel) rfl ?_
  refine jT_xiload (v := (0, 2)) (pcN := 39) jIQ_161_37 rfl rfl rfl ?_
  refine jT_xiconst (k := 2) (pcN := 40) jIQ_161_39 rfl ?_
  refine jT_xicF (t := 48) (pcN := 43) jIQ_161_40 rfl (by decide +kernel) rfl rfl ?_
  refine jT_xiload_n (v := (0, r8)) (pcN := 44) jIQ_161_43 rfl rfl rfl ?_
  refine jT_xi2l (x := r8) (z := r8) (pcN := 45) jIQ_161_44 rfl (jw_idd (by omega) (by omega)) rfl ?_
  refine jT_xgoto (pcN := 49) jIQ_161_45 rfl ?_
  refine jT_adv 1 (pcN := 50) (LN := [(5, (0, 2)), (0, (4, 0)), (1, (0, r7)), (2, (0, r8)), (3, (4, 1)), (4, (0, o4))]) (stN := []) (hsN := [jzQ_16, jgh, (8, [(4, 13), (4, 14)], []), jgh, jgh, jgh, jgh, jgh, jgh, (101, [], [0, r7, r8, u8_3, u8_4, u8_5]), (101, [], [k9_0, k9_1, k9_2, k9_3, k9_4, k9_5]), jgh, jgh, jgh, jgh]) (c1 := 0) (s1 := 0) (c2 := 0) (s2 := 0) (by exact rfl) ?_ (by omega) (by omega)
  refine jT_xiinc (x := 2) (z := 3) (LN := [(5, (0, 3)), (0, (4, 0)), (1, (0, r7)), (2, (0, r8)), (3, (4, 1)), (4, (0, o4))]) (pcN := 53) jIQ_161_50 rfl rfl (by decide) rfl rfl ?_
  refine jT_xgoto (pcN := 13) jIQ_161_53 rfl ?_
  refine jT_xiload (v := (0, 3)) (pcN := 15) jIQ_161_13 rfl rfl rfl ?_
  refine jT_xbipush (k := 6) (pcN := 17) jIQ_161_15 (by decide) rfl ?_
  refine jT_xicF (t := 56) (pcN := 20) jIQ_161_17 rfl (by decide +kernel) rfl rfl ?_
  refine jT_xaload_n (v := (4, 0)) (pcN := 21) jIQ_161_20 rfl rfl rfl ?_
  refine jT_xgetf (a := 0) (t := 1) (ci := 13) (fi := 7) (c := jzQ_16) (v := (4, 9)) (pcN := 24) jIQ_161_21 rfl rfl rfl rfl rfl rfl rfl ?_
  refine jT_xiload (v := (0, 3)) (pcN := 26) jIQ_161_24 rfl rfl rfl ?_
  refine jT_xiload (v := (0, 3)) (pcN := 28) jIQ_161_26 rfl rfl rfl ?_
  refine jT_xiconst (k := 1) (pcN := 29) jIQ_161_28 rfl ?_
  refine jT_xicT (pcN := 37) jIQ_161_29 rfl (by decide +kernel) rfl ?_
  refine jT_xiload (v := (0, 3)) (pcN := 39) jIQ_161_37 rfl rfl rfl ?_
  refine jT_xiconst (k := 2) (pcN := 40) jIQ_161_39 rfl ?_
  refine jT_xicT (pcN := 48) jIQ_161_40 rfl (by decide +kernel) rfl ?_
  refine jT_xlconst (z := 0) (pcN := 49) jIQ_161_48 rfl rfl ?_
  refine jT_adv 1 (pcN := 50) (LN := [(5, (0, 3)), (0, (4, 0)), (1, (0, r7)), (2, (0, r8)), (3, (4, 1)), (4, (0, o4))]) (stN := []) (hsN := [jzQ_16, jgh, (8, [(4, 13), (4, 14)], []), jgh, jgh, jgh, jgh, jgh, jgh, (101, [], [0, r7, r8, 0, u8_4, u8_5]), (101, [], [k9_0, k9_1, k9_2, k9_3, k9_4, k9_5]), jgh, jgh, jgh, jgh]) (c1 := 0) (s1 := 0) (c2 := 0) (s2 := 0) (by exact rfl) ?_ (by omega) (by omega)
  refine jT_xiinc (x := 3) (z := 4) (LN := [(5, (0, 4)), (0, (4, 0)), (1, (0, r7)), (2, (0, r8)), (3, (4, 1)), (4, (0, o4))]) (pcN := 53) jIQ_161_50 rfl rfl (by decide) rfl rfl ?_
  refine jT_xgoto (pcN := 13) jIQ_161_53 rfl ?_
  refine jT_xiload (v := (0, 4)) (pcN := 15) jIQ_161_13 rfl rfl rfl ?_
  refine jT_xbipush (k := 6) (pcN := 17) jIQ_161_15 (by decide) rfl ?_
  refine jT_xicF (t := 56) (pcN := 20) jIQ_161_17 rfl (by decide +kernel) rfl rfl ?_
  refine jT_xaload_n (v := (4, 0)) (pcN := 21) jIQ_161_20 rfl rfl rfl ?_
  refine jT_xgetf (a := 0) (t := 1) (ci := 13) (fi := 7) (c := jzQ_16) (v := (4, 9)) (pcN := 24) jIQ_161_21 rfl rfl rfl rfl rfl rfl rfl ?_
  refine jT_xiload (v := (0, 4)) (pcN := 26) jIQ_161_24 rfl rfl rfl ?_
  refine jT_xiload (v := (0, 4)) (pcN := 28) jIQ_161_26 rfl rfl rfl ?_
  refine jT_xiconst (k := 1) (pcN := 29) jIQ_161_28 rfl ?_
  refine jT_xicT (pcN := 37) jIQ_161_29 rfl (by decide +kernel) rfl ?_
  refine jT_xiload (v := (0, 4)) (pcN := 39) jIQ_161_37 rfl rfl rfl ?_
  refine jT_xiconst (k := 2) (pcN := 40) jIQ_161_39 rfl ?_
  refine jT_xicT (pcN := 48) jIQ_161_40 rfl (by decide +kernel) rfl ?_
  refine jT_xlconst (z := 0) (pcN := 49) jIQ_161_48 rfl rfl ?_
  refine jT_adv 1 (pcN := 50) (LN := [(5, (0, 4)), (0, (4, 0)), (1, (0, r7)), (2, (0, r8)), (3, (4, 1)), (4, (0, o4))]) (stN := []) (hsN := [jzQ_16, jgh, (8, [(4, 13), (4, 14)], []), jgh, jgh, jgh, jgh, jgh, jgh, (101, [], [0, r7, r8, 0, 0, u8_5]), (101, [], [k9_0, k9_1, k9_2, k9_3, k9_4, k9_5]), jgh, jgh, jgh, jgh]) (c1 := 0) (s1 := 0) (c2 := 0) (s2 := 0) (by exact rfl) ?_ (by omega) (by omega)
  refine jT_xiinc (x := 4) (z := 5) (LN := [(5, (0, 5)), (0, (4, 0)), (1, (0, r7)), (2, (0, r8)), (3, (4, 1)), (4, (0, o4))]) (pcN := 53) jIQ_161_50 rfl rfl (by decide) rfl rfl ?_
  refine jT_xgoto (pcN := 13) jIQ_161_53 rfl ?_
  refine jT_xiload (v := (0, 5)) (pcN := 15) jIQ_161_13 rfl rfl rfl ?_
  refine jT_xbipush (k := 6) (pcN := 17) jIQ_161_15 (by decide) rfl ?_
  refine jT_xicF (t := 56) (pcN := 20) jIQ_161_17 rfl (by decide +kernel) rfl rfl ?_
  refine jT_xaload_n (v := (4, 0)) (pcN := 21) jIQ_161_20 rfl rfl rfl ?_
  refine jT_xgetf (a := 0) (t := 1) (ci := 13) (fi := 7) (c := jzQ_16) (v := (4, 9)) (pcN := 24) jIQ_161_21 rfl rfl rfl rfl rfl rfl rfl ?_
  refine jT_xiload (v := (0, 5)) (pcN := 26) jIQ_161_24 rfl rfl rfl ?_
  refine jT_xiload (v := (0, 5)) (pcN := 28) jIQ_161_26 rfl rfl rfl ?_
  refine jT_xiconst (k := 1) (pcN := 29) jIQ_161_28 rfl ?_
  refine jT_xicT (pcN := 37) jIQ_161_29 rfl (by decide +kernel) rfl ?_
  refine jT_xiload (v := (0, 5)) (pcN := 39) jIQ_161_37 rfl rfl rfl ?_
  refine jT_xiconst (k := 2) (pcN := 40) jIQ_161_39 rfl ?_
  refine jT_xicT (pcN := 48) jIQ_161_40 rfl (by decide +kernel) rfl ?_
  refine jT_xlconst (z := 0) (pcN := 49) jIQ_161_48 rfl rfl ?_
  refine jT_adv 1 (pcN := 50) (LN := [(5, (0, 5)), (0, (4, 0)), (1, (0, r7)), (2, (0, r8)), (3, (4, 1)), (4, (0, o4))]) (stN := []) (hsN := [jzQ_16, jgh, (8, [(4, 13), (4, 14)], []), jgh, jgh, jgh, jgh, jgh, jgh, (101, [], [0, r7, r8, 0, 0, 0]), (101, [], [k9_0, k9_1, k9_2, k9_3, k9_4, k9_5]), jgh, jgh, jgh, jgh]) (c1 := 0) (s1 := 0) (c2 := 0) (s2 := 0) (by exact rfl) ?_ (by omega) (by omega)
  refine jT_xiinc (x := 5) (z := 6) (LN := [(5, (0, 6)), (0, (4, 0)), (1, (0, r7)), (2, (0, r8)), (3, (4, 1)), (4, (0, o4))]) (pcN := 53) jIQ_161_50 rfl rfl (by decide) rfl rfl ?_
  refine jT_xgoto (pcN := 13) jIQ_161_53 rfl ?_
  refine jT_xiload (v := (0, 6)) (pcN := 15) jIQ_161_13 rfl rfl rfl ?_
  refine jT_xbipush (k := 6) (pcN := 17) jIQ_161_15 (by decide) rfl ?_
  refine jT_xicT (pcN := 56) jIQ_161_17 rfl (by decide +kernel) rfl ?_
  refine jT_xaload_n (v := (4, 0)) (pcN := 57) jIQ_161_56 rfl rfl rfl ?_
  refine jT_xgetf (a := 0) (t := 1) (ci := 13) (fi := 0) (c := jzQ_16) (v := (4, 2)) (pcN := 60) jIQ_161_57 rfl rfl rfl rfl rfl rfl rfl ?_
  refine jT_xaload_n (v := (4, 0)) (pcN := 61) jIQ_161_60 rfl rfl rfl ?_
  refine jT_xgetf (a := 0) (t := 1) (ci := 13) (fi := 7) (c := jzQ_16) (v := (4, 9)) (pcN := 64) jIQ_161_61 rfl rfl rfl rfl rfl rfl rfl ?_
  refine jT_xlconst (z := 1) (pcN := 65) jIQ_161_64 rfl rfl ?_
  refine jT_xlconst (z := 1) (pcN := 66) jIQ_161_65 rfl rfl ?_
  refine jT_callA [2, 9, 13, 14] (y := 45) (pcN := 69) (dC := 1) (bc1 := 0) (bc2 := 0) (c1 := 0) (c2 := 0) (as := [(4, 2), (4, 9), (1, 1), (1, 1)]) (asC := [(4, 0), (4, 1), (1, 1), (1, 1)]) (LN := [(5, (0, 6)), (0, (4, 0)), (1, (0, r7)), (2, (0, r8)), (3, (4, 1)), (4, (0, o4))]) (stN := []) (hsC := [(8, [(4, 2), (4, 3)], []), (101, [], [0, r7, r8, 0, 0, 0]), jgh, jgh]) (ex := []) (v := (1, (108917793695 * r7 + 159561683699 * r8) / 68719476736)) (st2 := [(1, (108917793695 * r7 + 159561683699 * r8) / 68719476736)]) (hs2 := [jzQ_16, jgh, (8, [(4, 13), (4, 14)], []), jgh, jgh, jgh, jgh, jgh, jgh, (101, [], [0, r7, r8, 0, 0, 0]), (101, [], [k9_0, k9_1, k9_2, k9_3, k9_4, k9_5]), jgh, jgh, jgh, jgh]) (jQl_sp45_116 (d := 0) (by omega) (by omega)) (by rfl) (by rfl) (by rfl) (by rfl) ⟨rfl, rfl, rfl, rfl, trivial⟩ (by rfl) (by rfl) (by omega) (by show 15 ≤ 15; omega) (by omega) (by omega) rfl rfl ?_
  have hb_q1 : (-60) ≤ (108917793695 * r7 + 159561683699 * r8) / 68719476736 ∧ (108917793695 * r7 + 159561683699 * r8) / 68719476736 ≤ 60 := ⟨by omega, by omega⟩
  generalize hq_q1 : (108917793695 * r7 + 159561683699 * r8) / 68719476736 = q1 at hb_q1 g_3 ⊢
  refine jT_xlstore (v := (1, q1)) (LN := [(5, (1, q1)), (0, (4, 0)), (1, (0, r7)), (2, (0, r8)), (3, (4, 1)), (4, (0, o4))]) (pcN := 71) jIQ_161_69 rfl rfl rfl rfl ?_
  have g_4 : 0 ≤ (-68719476736) * q1 + 108917793694 * r7 + 159561683698 * r8 - 1 := by have := jcg (b := r7) (c := r8) (by omega) (by omega) (by omega); rw [hq_q1] at this; omega
  have g_5 : 0 ≤ (-68719476736) * q1 + 108917793694 * r7 + 159561683700 * r8 - 1 := by have := jcg (b := r7) (c := r8) (by omega) (by omega) (by omega); rw [hq_q1] at this; omega
  have g_6 : 0 ≤ (-68719476736) * q1 + 108917793696 * r7 + 159561683698 * r8 - 1 := by have := jcg (b := r7) (c := r8) (by omega) (by omega) (by omega); rw [hq_q1] at this; omega
  have g_7 : 0 ≤ (-68719476736) * q1 + 108917793696 * r7 + 159561683700 * r8 - 1 := by have := jcg (b := r7) (c := r8) (by omega) (by omega) (by omega); rw [hq_q1] at this; omega
  refine jT_xiload (v := (0, o4)) (pcN := 73) jIQ_161_71 rfl rfl rfl ?_
  refine jT_ifF (a := o4) (t := 107) (by rfl) (by rfl) (by rfl) (jw_idd (by omega) (by omega)) (by simp only [jcP] <;> omega) ?_
  refine jT_xiload_n (v := (0, r7)) (pcN := 77) jIQ_161_76 rfl rfl rfl ?_
  refine jT_xi2l (x := r7) (z := r7) (pcN := 78) jIQ_161_77 rfl (jw_idd (by omega) (by omega)) rfl ?_
  refine jT_xaload_n (v := (4, 0)) (pcN := 79) jIQ_161_78 rfl rfl rfl ?_
  refine jT_xgetf (a := 0) (t := 1) (ci := 13) (fi := 8) (c := jzQ_16) (v := (4, 10)) (pcN := 82) jIQ_161_79 rfl rfl rfl rfl rfl rfl rfl ?_
  refine jT_xiconst (k := 1) (pcN := 83) jIQ_161_82 rfl ?_
  refine jT_lald (x := k9_1) (a := 10) (j := 1) (fs := []) (X := [k9_0, k9_1, k9_2, k9_3, k9_4, k9_5]) jIQ_161_83 rfl rfl rfl rfl ?_
  refine jT_eq (LN := [(5, (1, q1)), (0, (4, 0)), (1, (0, r7)), (2, (0, r8)), (3, (4, 1)), (4, (0, o4))]) (stN := [(1, k9_1), (1, r7)]) (hsN := [jzQ_16, jgh, (8, [(4, 13), (4, 14)], []), jgh, jgh, jgh, jgh, jgh, jgh, (101, [], [0, r7, r8, 0, 0, 0]), (101, [], [k9_0, k9_1, k9_2, k9_3, k9_4, k9_5]), jgh, jgh, jgh, jgh]) rfl rfl rfl ?_
  refine jT_xlmul (x := r7) (y := k9_1) (z := r7 * k9_1) (pcN := 85) jIQ_161_84 rfl rfl rfl ?_
  have hb_q2 := jmul_b (x := r7) (y := k9_1) (m := 20) (n := 158) (by omega) (by omega) (by omega) (by omega)
  have hb_q2 : 0 ≤ r7 * k9_1 ∧ r7 * k9_1 ≤ 3160 := ⟨hb_q2.1, by omega⟩
  generalize hq_q2 : r7 * k9_1 = q2 at hb_q2 g_3 ⊢
  refine jT_xiload_n (v := (0, r8)) (pcN := 86) jIQ_161_85 rfl rfl rfl ?_
  refine jT_xi2l (x := r8) (z := r8) (pcN := 87) jIQ_161_86 rfl (jw_idd (by omega) (by omega)) rfl ?_
  refine jT_xaload_n (v := (4, 0)) (pcN := 88) jIQ_161_87 rfl rfl rfl ?_
  refine jT_xgetf (a := 0) (t := 1) (ci := 13) (fi := 8) (c := jzQ_16) (v := (4, 10)) (pcN := 91) jIQ_161_88 rfl rfl rfl rfl rfl rfl rfl ?_
  refine jT_xiconst (k := 2) (pcN := 92) jIQ_161_91 rfl ?_
  refine jT_lald (x := k9_2) (a := 10) (j := 2) (fs := []) (X := [k9_0, k9_1, k9_2, k9_3, k9_4, k9_5]) jIQ_161_92 rfl rfl rfl rfl ?_
  refine jT_eq (LN := [(5, (1, q1)), (0, (4, 0)), (1, (0, r7)), (2, (0, r8)), (3, (4, 1)), (4, (0, o4))]) (stN := [(1, k9_2), (1, r8), (1, q2)]) (hsN := [jzQ_16, jgh, (8, [(4, 13), (4, 14)], []), jgh, jgh, jgh, jgh, jgh, jgh, (101, [], [0, r7, r8, 0, 0, 0]), (101, [], [k9_0, k9_1, k9_2, k9_3, k9_4, k9_5]), jgh, jgh, jgh, jgh]) rfl rfl rfl ?_
  refine jT_xlmul (x := r8) (y := k9_2) (z := r8 * k9_2) (pcN := 94) jIQ_161_93 rfl rfl rfl ?_
  have hb_q3 := jmul_b2 (x := r8) (y := k9_2) (k := 1) (l := 2) (m := 10) (n := 232) (by omega) (by omega) (by omega) (by omega) (by omega) (by omega)
  have hb_q3 : 2 ≤ r8 * k9_2 ∧ r8 * k9_2 ≤ 2320 := ⟨by omega, by omega⟩
  generalize hq_q3 : r8 * k9_2 = q3 at hb_q3 g_3 ⊢
  refine jT_xladd (x := q2) (y := q3) (z := q2 + q3) (pcN := 95) jIQ_161_94 rfl (rfl) rfl ?_
  refine jT_xlload (v := (1, q1)) (pcN := 97) jIQ_161_95 rfl rfl rfl ?_
  refine jT_xiload (v := (0, o4)) (pcN := 99) jIQ_161_97 rfl rfl rfl ?_
  refine jT_xi2l (x := o4) (z := o4) (pcN := 100) jIQ_161_99 rfl (jw_idd (by omega) (by omega)) rfl ?_
  refine jT_xlmul (x := q1) (y := o4) (z := q1 * o4) (pcN := 101) jIQ_161_100 rfl rfl rfl ?_
  have hb_q4 := jmul_bs (x := q1) (y := o4) (m := 60) (n := 100) (by omega) (by omega) (by omega) (by omega)
  have hb_q4 : (-6000) ≤ q1 * o4 ∧ q1 * o4 ≤ 6000 := ⟨by omega, by omega⟩
  generalize hq_q4 : q1 * o4 = q4 at hb_q4 g_3 ⊢
  refine jT_lcmp (a := q2 + q3) (b := q4) (z := 1) (by rfl) (by rfl) (jwl_idd (by omega) (by omega)) (jwl_idd (by omega) (by omega)) (by rw [decide_eq_true (show (q4 : Int) < q2 + q3 by omega)]; rfl) ?_
  refine jT_xifF (t := 107) (pcN := 105) jIQ_161_102 rfl (by decide +kernel) rfl rfl ?_
  refine jT_xiconst (k := 0) (pcN := 106) jIQ_161_105 rfl ?_
  subst hq_q4
  subst hq_q3
  subst hq_q2
  subst hq_q1
  exact jT_ret rfl (by decide) (by show 15 ≤ 15; omega) (by omega) (by omega) ⟨rfl, rfl, rfl⟩
theorem jQ_161_240 {xs : List Int} {d : Nat} {k9_0 k9_1 k9_2 k9_3 k9_4 k9_5 o4 r7 r8 u8_0 u8_1 u8_2 u8_3 u8_4 u8_5 : Int} (h_k9_0 : 1 ≤ k9_0 ∧ k9_0 ≤ 100) (h_k9_1 : 2 ≤ k9_1 ∧ k9_1 ≤ 158) (h_k9_2 : 2 ≤ k9_2 ∧ k9_2 ≤ 232) (h_k9_3 : 3 ≤ k9_3 ∧ k9_3 ≤ 281) (h_k9_4 : 3 ≤ k9_4 ∧ k9_4 ≤ 346) (h_k9_5 : 4 ≤ k9_5 ∧ k9_5 ≤ 370) (h_o4 : 1 ≤ o4 ∧ o4 ≤ 100) (h_r7 : (-20) ≤ r7 ∧ r7 ≤ 20) (h_r8 : (-10) ≤ r8 ∧ r8 ≤ 10) (g_0 : 0 ≤ r7) (g_1 : r7 ≤ 0) (g_2 : r8 < 0) (g_3 : -(((108917793695 * r7 + 159561683699 * r8) / 68719476736) * o4) + (r7 * k9_1) + (r8 * k9_2) - 1 < 0) (g_4 : -(((108917793695 * r7 + 159561683699 * r8) / 68719476736) * o4) + (r7 * k9_1) + (r8 * k9_2) < 0) : jT xs (d + 2) 161 15 0 [(0, (4, 0)), (1, (0, r7)), (2, (0, r8)), (3, (4, 1)), (4, (0, o4))] [] [jzQ_16, jgh, (8, [(4, 13), (4, 14)], []), jgh, jgh, jgh, jgh, jgh, jgh, (101, [], [u8_0, u8_1, u8_2, u8_3, u8_4, u8_5]), (101, [], [k9_0, k9_1, k9_2, k9_3, k9_4, k9_5]), jgh, jgh, jgh, jgh] 0 0 (fun k v hsN => k = 0 ∧ v = (0, 0) ∧ hsN = [jzQ_16, jgh, (8, [(4, 13), (4, 14)], []), jgh, jgh, jgh, jgh, jgh, jgh, (101, [], [0, r7, r8, 0, 0, 0]), (101, [], [k9_0, k9_1, k9_2, k9_3, k9_4, k9_5]), jgh, jgh, jgh, jgh]) := by
  refine jT_xiload_n (v := (0, r7)) (pcN := 1) jIQ_161_0 rfl rfl rfl ?_
  refine jT_ifF (a := r7) (t := 10) (by rfl) (by rfl) (by rfl) (jw_idd (by omega) (by omega)) (by simp only [jcP] <;> omega) ?_
  refine jT_xiload_n (v := (0, r8)) (pcN := 5) jIQ_161_4 rfl rfl rfl ?_
  refine jT_ifT (a := r8) (t := 10) (by rfl) (by rfl) (by rfl) (jw_idd (by omega) (by omega)) (by simp only [jcP] <;> omega) ?_
  refine jT_xiconst (k := 0) (pcN := 11) jIQ_161_10 rfl ?_
  refine jT_xistore (v := (0, 0)) (LN := [(5, (0, 0)), (0, (4, 0)), (1, (0, r7)), (2, (0, r8)), (3, (4, 1)), (4, (0, o4))]) (pcN := 13) jIQ_161_11 rfl rfl rfl rfl ?_
  refine jT_xiload (v := (0, 0)) (pcN := 15) jIQ_161_13 rfl rfl rfl ?_
  refine jT_xbipush (k := 6) (pcN := 17) jIQ_161_15 (by decide) rfl ?_
  refine jT_xicF (t := 56) (pcN := 20) jIQ_161_17 rfl (by decide +kernel) rfl rfl ?_
  refine jT_xaload_n (v := (4, 0)) (pcN := 21) jIQ_161_20 rfl rfl rfl ?_
  refine jT_xgetf (a := 0) (t := 1) (ci := 13) (fi := 7) (c := jzQ_16) (v := (4, 9)) (pcN := 24) jIQ_161_21 rfl rfl rfl rfl rfl rfl rfl ?_
  refine jT_xiload (v := (0, 0)) (pcN := 26) jIQ_161_24 rfl rfl rfl ?_
  refine jT_xiload (v := (0, 0)) (pcN := 28) jIQ_161_26 rfl rfl rfl ?_
  refine jT_xiconst (k := 1) (pcN := 29) jIQ_161_28 rfl ?_
  refine jT_xicT (pcN := 37) jIQ_161_29 rfl (by decide +kernel) rfl ?_
  refine jT_xiload (v := (0, 0)) (pcN := 39) jIQ_161_37 rfl rfl rfl ?_
  refine jT_xiconst (k := 2) (pcN := 40) jIQ_161_39 rfl ?_
  refine jT_xicT (pcN := 48) jIQ_161_40 rfl (by decide +kernel) rfl ?_
  refine jT_xlconst (z := 0) (pcN := 49) jIQ_161_48 rfl rfl ?_
  refine jT_adv 1 (pcN := 50) (LN := [(5, (0, 0)), (0, (4, 0)), (1, (0, r7)), (2, (0, r8)), (3, (4, 1)), (4, (0, o4))]) (stN := []) (hsN := [jzQ_16, jgh, (8, [(4, 13), (4, 14)], []), jgh, jgh, jgh, jgh, jgh, jgh, (101, [], [0, u8_1, u8_2, u8_3, u8_4, u8_5]), (101, [], [k9_0, k9_1, k9_2, k9_3, k9_4, k9_5]), jgh, jgh, jgh, jgh]) (c1 := 0) (s1 := 0) (c2 := 0) (s2 := 0) (by exact rfl) ?_ (by omega) (by omega)
  refine jT_xiinc (x := 0) (z := 1) (LN := [(5, (0, 1)), (0, (4, 0)), (1, (0, r7)), (2, (0, r8)), (3, (4, 1)), (4, (0, o4))]) (pcN := 53) jIQ_161_50 rfl rfl (by decide) rfl rfl ?_
  refine jT_xgoto (pcN := 13) jIQ_161_53 rfl ?_
  refine jT_xiload (v := (0, 1)) (pcN := 15) jIQ_161_13 rfl rfl rfl ?_
  refine jT_xbipush (k := 6) (pcN := 17) jIQ_161_15 (by decide) rfl ?_
  refine jT_xicF (t := 56) (pcN := 20) jIQ_161_17 rfl (by decide +kernel) rfl rfl ?_
  refine jT_xaload_n (v := (4, 0)) (pcN := 21) jIQ_161_20 rfl rfl rfl ?_
  refine jT_xgetf (a := 0) (t := 1) (ci := 13) (fi := 7) (c := jzQ_16) (v := (4, 9)) (pcN := 24) jIQ_161_21 rfl rfl rfl rfl rfl rfl rfl ?_
  refine jT_xiload (v := (0, 1)) (pcN := 26) jIQ_161_24 rfl rfl rfl ?_
  refine jT_xiload (v := (0, 1)) (pcN := 28) jIQ_161_26 rfl rfl rfl ?_
  refine jT_xiconst (k := 1) (pcN := 29) jIQ_161_28 rfl ?_
  refine jT_xicF (t := 37) (pcN := 32) jIQ_161_29 rfl (by decide +kernel) rfl rfl ?_
  refine jT_xiload_n (v := (0, r7)) (pcN := 33) jIQ_161_32 rfl rfl rfl ?_
  refine jT_xi2l (x := r7) (z := r7) (pcN := 34) jIQ_161_33 rfl (jw_idd (by omega) (by omega)) rfl ?_
  refine jT_xgoto (pcN := 49) jIQ_161_34 rfl ?_
  refine jT_adv 1 (pcN := 50) (LN := [(5, (0, 1)), (0, (4, 0)), (1, (0, r7)), (2, (0, r8)), (3, (4, 1)), (4, (0, o4))]) (stN := []) (hsN := [jzQ_16, jgh, (8, [(4, 13), (4, 14)], []), jgh, jgh, jgh, jgh, jgh, jgh, (101, [], [0, r7, u8_2, u8_3, u8_4, u8_5]), (101, [], [k9_0, k9_1, k9_2, k9_3, k9_4, k9_5]), jgh, jgh, jgh, jgh]) (c1 := 0) (s1 := 0) (c2 := 0) (s2 := 0) (by exact rfl) ?_ (by omega) (by omega)
  refine jT_xiinc (x := 1) (z := 2) (LN := [(5, (0, 2)), (0, (4, 0)), (1, (0, r7)), (2, (0, r8)), (3, (4, 1)), (4, (0, o4))]) (pcN := 53) jIQ_161_50 rfl rfl (by decide) rfl rfl ?_
  refine jT_xgoto (pcN := 13) jIQ_161_53 rfl ?_
  refine jT_xiload (v := (0, 2)) (pcN := 15) jIQ_161_13 rfl rfl rfl ?_
  refine jT_xbipush (k := 6) (pcN := 17) jIQ_161_15 (by decide) rfl ?_
  refine jT_xicF (t := 56) (pcN := 20) jIQ_161_17 rfl (by decide +kernel) rfl rfl ?_
  refine jT_xaload_n (v := (4, 0)) (pcN := 21) jIQ_161_20 rfl rfl rfl ?_
  refine jT_xgetf (a := 0) (t := 1) (ci := 13) (fi := 7) (c := jzQ_16) (v := (4, 9)) (pcN := 24) jIQ_161_21 rfl rfl rfl rfl rfl rfl rfl ?_
  refine jT_xiload (v := (0, 2)) (pcN := 26) jIQ_161_24 rfl rfl rfl ?_
  refine jT_xiload (v := (0, 2)) (pcN := 28) jIQ_161_26 rfl rfl rfl ?_
  refine jT_xiconst (k := 1) (pcN := 29) jIQ_161_28 rfl ?_
  refine jT_xicT (pcN := 37) jIQ_161_29 rfl (by decide +kernel) rfl ?_
  refine jT_xiload (v := (0, 2)) (pcN := 39) jIQ_161_37 rfl rfl rfl ?_
  refine jT_xiconst (k := 2) (pcN := 40) jIQ_161_39 rfl ?_
  refine jT_xicF (t := 48) (pcN := 43) jIQ_161_40 rfl (by decide +kernel) rfl rfl ?_
  refine jT_xiload_n (v := (0, r8)) (pcN := 44) jIQ_161_43 rfl rfl rfl ?_
  refine jT_xi2l (x := r8) (z := r8) (pcN := 45) jIQ_161_44 rfl (jw_idd (by omega) (by omega)) rfl ?_
  refine jT_xgoto (pcN := 49) jIQ_161_45 rfl ?_
  refine jT_adv 1 (pcN := 50) (LN := [(5, (0, 2)), (0, (4, 0)), (1, (0, r7)), (2, (0, r8)), (3, (4, 1)), (4, (0, o4))]) (stN := []) (hsN := [jzQ_16, jgh, (8, [(4, 13), (4, 14)], []), jgh, jgh, jgh, jgh, jgh, jgh, (101, [], [0, r7, r8, u8_3, u8_4, u8_5]), (101, [], [k9_0, k9_1, k9_2, k9_3, k9_4, k9_5]), jgh, jgh, jgh, jgh]) (c1 := 0) (s1 := 0) (c2 := 0) (s2 := 0) (by exact rfl) ?_ (by omega) (by omega)
  refine jT_xiinc (x := 2) (z := 3) (LN := [(5, (0, 3)), (0, (4, 0)), (1, (0, r7)), (2, (0, r8)), (3, (4, 1)), (4, (0, o4))]) (pcN := 53) jIQ_161_50 rfl rfl (by decide) rfl rfl ?_
  refine jT_xgoto (pcN := 13) jIQ_161_53 rfl ?_
  refine jT_xiload (v := (0, 3)) (pcN := 15) jIQ_161_13 rfl rfl rfl ?_
  refine jT_xbipush (k := 6) (pcN := 17) jIQ_161_15 (by decide) rfl ?_
  refine jT_xicF (t := 56) (pcN := 20) jIQ_161_17 rfl (by decide +kernel) rfl rfl ?_
  refine jT_xaload_n (v := (4, 0)) (pcN := 21) jIQ_161_20 rfl rfl rfl ?_
  refine jT_xgetf (a := 0) (t := 1) (ci := 13) (fi := 7) (c := jzQ_16) (v := (4, 9)) (pcN := 24) jIQ_161_21 rfl rfl rfl rfl rfl rfl rfl ?_
  refine jT_xiload (v := (0, 3)) (pcN := 26) jIQ_161_24 rfl rfl rfl ?_
  refine jT_xiload (v := (0, 3)) (pcN := 28) jIQ_161_26 rfl rfl rfl ?_
  refine jT_xiconst (k := 1) (pcN := 29) jIQ_161_28 rfl ?_
  refine jT_xicT (pcN := 37) jIQ_161_29 rfl (by decide +kernel) rfl ?_
  refine jT_xiload (v := (0, 3)) (pcN := 39) jIQ_161_37 rfl rfl rfl ?_
  refine jT_xiconst (k := 2) (pcN := 40) jIQ_161_39 rfl ?_
  refine jT_xicT (pcN := 48) jIQ_161_40 rfl (by decide +kernel) rfl ?_
  refine jT_xlconst (z := 0) (pcN := 49) jIQ_161_48 rfl rfl ?_
  refine jT_adv 1 (pcN := 50) (LN := [(5, (0, 3)), (0, (4, 0)), (1, (0, r7)), (2, (0, r8)), (3, (4, 1)), (4, (0, o4))]) (stN := []) (hsN := [jzQ_16, jgh, (8, [(4, 13), (4, 14)], []), jgh, jgh, jgh, jgh, jgh, jgh, (101, [], [0, r7, r8, 0, u8_4, u8_5]), (101, [], [k9_0, k9_1, k9_2, k9_3, k9_4, k9_5]), jgh, jgh, jgh, jgh]) (c1 := 0) (s1 := 0) (c2 := 0) (s2 := 0) (by exact rfl) ?_ (by omega) (by omega)
  refine jT_xiinc (x := 3) (z := 4) (LN := [(5, (0, 4)), (0, (4, 0)), (1, (0, r7)), (2, (0, r8)), (3, (4, 1)), (4, (0, o4))]) (pcN := 53) jIQ_161_50 rfl rfl (by decide) rfl rfl ?_
  refine jT_xgoto (pcN := 13) jIQ_161_53 rfl ?_
  refine jT_xiload (v := (0, 4)) (pcN := 15) jIQ_161_13 rfl rfl rfl ?_
  refine jT_xbipush (k := 6) (pcN := 17) jIQ_161_15 (by decide) rfl ?_
  refine jT_xicF (t := 56) (pcN := 20) jIQ_161_17 rfl (by decide +kernel) rfl rfl ?_
  refine jT_xaload_n (v := (4, 0)) (pcN := 21) jIQ_161_20 rfl rfl rfl ?_
  refine jT_xgetf (a := 0) (t := 1) (ci := 13) (fi := 7) (c := jzQ_16) (v := (4, 9)) (pcN := 24) jIQ_161_21 rfl rfl rfl rfl rfl rfl rfl ?_
  refine jT_xiload (v := (0, 4)) (pcN := 26) jIQ_161_24 rfl rfl rfl ?_
  refine jT_xiload (v := (0, 4)) (pcN := 28) jIQ_161_26 rfl rfl rfl ?_
  refine jT_xiconst (k := 1) (pcN := 29) jIQ_161_28 rfl ?_
  refine jT_xicT (pcN := 37) jIQ_161_29 rfl (by decide +kernel) rfl ?_
  refine jT_xiload (v := (0, 4)) (pcN := 39) jIQ_161_37 rfl rfl rfl ?_
  refine jT_xiconst (k := 2) (pcN := 40) jIQ_161_39 rfl ?_
  refine jT_xicT (pcN := 48) jIQ_161_40 rfl (by decide +kernel) rfl ?_
  refine jT_xlconst (z := 0) (pcN := 49) jIQ_161_48 rfl rfl ?_
  refine jT_adv 1 (pcN := 50) (LN := [(5, (0, 4)), (0, (4, 0)), (1, (0, r7)), (2, (0, r8)), (3, (4, 1)), (4, (0, o4))]) (stN := []) (hsN := [jzQ_16, jgh, (8, [(4, 13), (4, 14)], []), jgh, jgh, jgh, jgh, jgh, jgh, (101, [], [0, r7, r8, 0, 0, u8_5]), (101, [], [k9_0, k9_1, k9_2, k9_3, k9_4, k9_5]), jgh, jgh, jgh, jgh]) (c1 := 0) (s1 := 0) (c2 := 0) (s2 := 0) (by exact rfl) ?_ (by omega) (by omega)
  refine jT_xiinc (x := 4) (z := 5) (LN := [(5, (0, 5)), (0, (4, 0)), (1, (0, r7)), (2, (0, r8)), (3, (4, 1)), (4, (0, o4))]) (pcN := 53) jIQ_161_50 rfl rfl (by decide) rfl rfl ?_
  refine jT_xgoto (pcN := 13) jIQ_161_53 rfl ?_
  refine jT_xiload (v := (0, 5)) (pcN := 15) jIQ_161_13 rfl rfl rfl ?_
  refine jT_xbipush (k := 6) (pcN := 17) jIQ_161_15 (by decide) rfl ?_
  refine jT_xicF (t := 56) (pcN := 20) jIQ_161_17 rfl (by decide +kernel) rfl rfl ?_
  refine jT_xaload_n (v := (4, 0)) (pcN := 21) jIQ_161_20 rfl rfl rfl ?_
  refine jT_xgetf (a := 0) (t := 1) (ci := 13) (fi := 7) (c := jzQ_16) (v := (4, 9)) (pcN := 24) jIQ_161_21 rfl rfl rfl rfl rfl rfl rfl ?_
  refine jT_xiload (v := (0, 5)) (pcN := 26) jIQ_161_24 rfl rfl rfl ?_
  refine jT_xiload (v := (0, 5)) (pcN := 28) jIQ_161_26 rfl rfl rfl ?_
  refine jT_xiconst (k := 1) (pcN := 29) jIQ_161_28 rfl ?_
  refine jT_xicT (pcN := 37) jIQ_161_29 rfl (by decide +kernel) rfl ?_
  refine jT_xiload (v := (0, 5)) (pcN := 39) jIQ_161_37 rfl rfl rfl ?_
  refine jT_xiconst (k := 2) (pcN := 40) jIQ_161_39 rfl ?_
  refine jT_xicT (pcN := 48) jIQ_161_40 rfl (by decide +kernel) rfl ?_
  refine jT_xlconst (z := 0) (pcN := 49) jIQ_161_48 rfl rfl ?_
  refine jT_adv 1 (pcN := 50) (LN := [(5, (0, 5)), (0, (4, 0)), (1, (0, r7)), (2, (0, r8)), (3, (4, 1)), (4, (0, o4))]) (stN := []) (hsN := [jzQ_16, jgh, (8, [(4, 13), (4, 14)], []), jgh, jgh, jgh, jgh, jgh, jgh, (101, [], [0, r7, r8, 0, 0, 0]), (101, [], [k9_0, k9_1, k9_2, k9_3, k9_4, k9_5]), jgh, jgh, jgh, jgh]) (c1 := 0) (s1 := 0) (c2 := 0) (s2 := 0) (by exact rfl) ?_ (by omega) (by omega)
  refine jT_xiinc (x := 5) (z := 6) (LN := [(5, (0, 6)), (0, (4, 0)), (1, (0, r7)), (2, (0, r8)), (3, (4, 1)), (4, (0, o4))]) (pcN := 53) jIQ_161_50 rfl rfl (by decide) rfl rfl ?_
  refine jT_xgoto (pcN := 13) jIQ_161_53 rfl ?_
  refine jT_xiload (v := (0, 6)) (pcN := 15) jIQ_161_13 rfl rfl rfl ?_
  refine jT_xbipush (k := 6) (pcN := 17) jIQ_161_15 (by decide) rfl ?_
  refine jT_xicT (pcN := 56) jIQ_161_17 rfl (by decide +kernel) rfl ?_
  refine jT_xaload_n (v := (4, 0)) (pcN := 57) jIQ_161_56 rfl rfl rfl ?_
  refine jT_xgetf (a := 0) (t := 1) (ci := 13) (fi := 0) (c := jzQ_16) (v := (4, 2)) (pcN := 60) jIQ_161_57 rfl rfl rfl rfl rfl rfl rfl ?_
  refine jT_xaload_n (v := (4, 0)) (pcN := 61) jIQ_161_60 rfl rfl rfl ?_
  refine jT_xgetf (a := 0) (t := 1) (ci := 13) (fi := 7) (c := jzQ_16) (v := (4, 9)) (pcN := 64) jIQ_161_61 rfl rfl rfl rfl rfl rfl rfl ?_
  refine jT_xlconst (z := 1) (pcN := 65) jIQ_161_64 rfl rfl ?_
  refine jT_xlconst (z := 1) (pcN := 66) jIQ_161_65 rfl rfl ?_
  refine jT_callA [2, 9, 13, 14] (y := 45) (pcN := 69) (dC := 1) (bc1 := 0) (bc2 := 0) (c1 := 0) (c2 := 0) (as := [(4, 2), (4, 9), (1, 1), (1, 1)]) (asC := [(4, 0), (4, 1), (1, 1), (1, 1)]) (LN := [(5, (0, 6)), (0, (4, 0)), (1, (0, r7)), (2, (0, r8)), (3, (4, 1)), (4, (0, o4))]) (stN := []) (hsC := [(8, [(4, 2), (4, 3)], []), (101, [], [0, r7, r8, 0, 0, 0]), jgh, jgh]) (ex := []) (v := (1, (108917793695 * r7 + 159561683699 * r8) / 68719476736)) (st2 := [(1, (108917793695 * r7 + 159561683699 * r8) / 68719476736)]) (hs2 := [jzQ_16, jgh, (8, [(4, 13), (4, 14)], []), jgh, jgh, jgh, jgh, jgh, jgh, (101, [], [0, r7, r8, 0, 0, 0]), (101, [], [k9_0, k9_1, k9_2, k9_3, k9_4, k9_5]), jgh, jgh, jgh, jgh]) (jQl_sp45_116 (d := 0) (by omega) (by omega)) (by rfl) (by rfl) (by rfl) (by rfl) ⟨rfl, rfl, rfl, rfl, trivial⟩ (by rfl) (by rfl) (by omega) (by show 15 ≤ 15; omega) (by omega) (by omega) rfl rfl ?_
  have hb_q1 : (-60) ≤ (108917793695 * r7 + 159561683699 * r8) / 68719476736 ∧ (108917793695 * r7 + 159561683699 * r8) / 68719476736 ≤ 60 := ⟨by omega, by omega⟩
  generalize hq_q1 : (108917793695 * r7 + 159561683699 * r8) / 68719476736 = q1 at hb_q1 g_3 g_4 ⊢
  refine jT_xlstore (v := (1, q1)) (LN := [(5, (1, q1)), (0, (4, 0)), (1, (0, r7)), (2, (0, r8)), (3, (4, 1)), (4, (0, o4))]) (pcN := 71) jIQ_161_69 rfl rfl rfl rfl ?_
  have g_5 : 0 ≤ (-68719476736) * q1 + 108917793694 * r7 + 159561683698 * r8 - 1 := by have := jcg (b := r7) (c := r8) (by omega) (by omega) (by omega); rw [hq_q1] at this; omega
  have g_6 : 0 ≤ (-68719476736) * q1 + 108917793694 * r7 + 159561683700 * r8 - 1 := by have := jcg (b := r7) (c := r8) (by omega) (by omega) (by omega); rw [hq_q1] at this; omega
  have g_7 : 0 ≤ (-68719476736) * q1 + 108917793696 * r7 + 159561683698 * r8 - 1 := by have := jcg (b := r7) (c := r8) (by omega) (by omega) (by omega); rw [hq_q1] at this; omega
  have g_8 : 0 ≤ (-68719476736) * q1 + 108917793696 * r7 + 159561683700 * r8 - 1 := by have := jcg (b := r7) (c := r8) (by omega) (by omega) (by omega); rw [hq_q1] at this; omega
  refine jT_xiload (v := (0, o4)) (pcN := 73) jIQ_161_71 rfl rfl rfl ?_
  refine jT_ifF (a := o4) (t := 107) (by rfl) (by rfl) (by rfl) (jw_idd (by omega) (by omega)) (by simp only [jcP] <;> omega) ?_
  refine jT_xiload_n (v := (0, r7)) (pcN := 77) jIQ_161_76 rfl rfl rfl ?_
  refine jT_xi2l (x := r7) (z := r7) (pcN := 78) jIQ_161_77 rfl (jw_idd (by omega) (by omega)) rfl ?_
  refine jT_xaload_n (v := (4, 0)) (pcN := 79) jIQ_161_78 rfl rfl rfl ?_
  refine jT_xgetf (a := 0) (t := 1) (ci := 13) (fi := 8) (c := jzQ_16) (v := (4, 10)) (pcN := 82) jIQ_161_79 rfl rfl rfl rfl rfl rfl rfl ?_
  refine jT_xiconst (k := 1) (pcN := 83) jIQ_161_82 rfl ?_
  refine jT_lald (x := k9_1) (a := 10) (j := 1) (fs := []) (X := [k9_0, k9_1, k9_2, k9_3, k9_4, k9_5]) jIQ_161_83 rfl rfl rfl rfl ?_
  refine jT_eq (LN := [(5, (1, q1)), (0, (4, 0)), (1, (0, r7)), (2, (0, r8)), (3, (4, 1)), (4, (0, o4))]) (stN := [(1, k9_1), (1, r7)]) (hsN := [jzQ_16, jgh, (8, [(4, 13), (4, 14)], []), jgh, jgh, jgh, jgh, jgh, jgh, (101, [], [0, r7, r8, 0, 0, 0]), (101, [], [k9_0, k9_1, k9_2, k9_3, k9_4, k9_5]), jgh, jgh, jgh, jgh]) rfl rfl rfl ?_
  refine jT_xlmul (x := r7) (y := k9_1) (z := r7 * k9_1) (pcN := 85) jIQ_161_84 rfl rfl rfl ?_
  have hb_q2 := jmul_b (x := r7) (y := k9_1) (m := 20) (n := 158) (by omega) (by omega) (by omega) (by omega)
  have hb_q2 : 0 ≤ r7 * k9_1 ∧ r7 * k9_1 ≤ 3160 := ⟨hb_q2.1, by omega⟩
  generalize hq_q2 : r7 * k9_1 = q2 at hb_q2 g_3 g_4 ⊢
  refine jT_xiload_n (v := (0, r8)) (pcN := 86) jIQ_161_85 rfl rfl rfl ?_
  refine jT_xi2l (x := r8) (z := r8) (pcN := 87) jIQ_161_86 rfl (jw_idd (by omega) (by omega)) rfl ?_
  refine jT_xaload_n (v := (4, 0)) (pcN := 88) jIQ_161_87 rfl rfl rfl ?_
  refine jT_xgetf (a := 0) (t := 1) (ci := 13) (fi := 8) (c := jzQ_16) (v := (4, 10)) (pcN := 91) jIQ_161_88 rfl rfl rfl rfl rfl rfl rfl ?_
  refine jT_xiconst (k := 2) (pcN := 92) jIQ_161_91 rfl ?_
  refine jT_lald (x := k9_2) (a := 10) (j := 2) (fs := []) (X := [k9_0, k9_1, k9_2, k9_3, k9_4, k9_5]) jIQ_161_92 rfl rfl rfl rfl ?_
  refine jT_eq (LN := [(5, (1, q1)), (0, (4, 0)), (1, (0, r7)), (2, (0, r8)), (3, (4, 1)), (4, (0, o4))]) (stN := [(1, k9_2), (1, r8), (1, q2)]) (hsN := [jzQ_16, jgh, (8, [(4, 13), (4, 14)], []), jgh, jgh, jgh, jgh, jgh, jgh, (101, [], [0, r7, r8, 0, 0, 0]), (101, [], [k9_0, k9_1, k9_2, k9_3, k9_4, k9_5]), jgh, jgh, jgh, jgh]) rfl rfl rfl ?_
  refine jT_xlmul (x := r8) (y := k9_2) (z := r8 * k9_2) (pcN := 94) jIQ_161_93 rfl rfl rfl ?_
  have hb_q3 := jmul_bs (x := r8) (y := k9_2) (m := 10) (n := 232) (by omega) (by omega) (by omega) (by omega)
  have hb_q3 : (-2320) ≤ r8 * k9_2 ∧ r8 * k9_2 ≤ 2320 := ⟨by omega, by omega⟩
  generalize hq_q3 : r8 * k9_2 = q3 at hb_q3 g_3 g_4 ⊢
  refine jT_xladd (x := q2) (y := q3) (z := q2 + q3) (pcN := 95) jIQ_161_94 rfl (rfl) rfl ?_
  refine jT_xlload (v := (1, q1)) (pcN := 97) jIQ_161_95 rfl rfl rfl ?_
  refine jT_xiload (v := (0, o4)) (pcN := 99) jIQ_161_97 rfl rfl rfl ?_
  refine jT_xi2l (x := o4) (z := o4) (pcN := 100) jIQ_161_99 rfl (jw_idd (by omega) (by omega)) rfl ?_
  refine jT_xlmul (x := q1) (y := o4) (z := q1 * o4) (pcN := 101) jIQ_161_100 rfl rfl rfl ?_
  have hb_q4 := jmul_bs (x := q1) (y := o4) (m := 60) (n := 100) (by omega) (by omega) (by omega) (by omega)
  have hb_q4 : (-6000) ≤ q1 * o4 ∧ q1 * o4 ≤ 6000 := ⟨by omega, by omega⟩
  generalize hq_q4 : q1 * o4 = q4 at hb_q4 g_3 g_4 ⊢
  refine jT_lcmp (a := q2 + q3) (b := q4) (z := (-1)) (by rfl) (by rfl) (jwl_idd (by omega) (by omega)) (jwl_idd (by omega) (by omega)) (by rw [decide_eq_false (show ¬ ((q4 : Int) < q2 + q3) by omega), decide_eq_false (show ¬ ((q2 + q3 : Int) = q4) by omega)]; rfl) ?_
  refine jT_xifF (t := 107) (pcN := 105) jIQ_161_102 rfl (by decide +kernel) rfl rfl ?_
  refine jT_xiconst (k := 0) (pcN := 106) jIQ_161_105 rfl ?_
  subst hq_q4
  subst hq_q3
  subst hq_q2
  subst hq_q1
  exact jT_ret rfl (by decide) (by show 15 ≤ 15; omega) (by omega) (by omega) ⟨rfl, rfl, rfl⟩
theorem jQ_161_241 {xs : List Int} {d : Nat} {k9_0 k9_1 k9_2 k9_3 k9_4 k9_5 o4 r7 r8 u8_0 u8_1 u8_2 u8_3 u8_4 u8_5 : Int} (h_k9_0 : 1 ≤ k9_0 ∧ k9_0 ≤ 100) (h_k9_1 : 2 ≤ k9_1 ∧ k9_1 ≤ 158) (h_k9_2 : 2 ≤ k9_2 ∧ k9_2 ≤ 232) (h_k9_3 : 3 ≤ k9_3 ∧ k9_3 ≤ 281) (h_k9_4 : 3 ≤ k9_4 ∧ k9_4 ≤ 346) (h_k9_5 : 4 ≤ k9_5 ∧ k9_5 ≤ 370) (h_o4 : 1 ≤ o4 ∧ o4 ≤ 100) (h_r7 : (-20) ≤ r7 ∧ r7 ≤ 20) (h_r8 : (-10) ≤ r8 ∧ r8 ≤ 10) (g_0 : 0 ≤ r7) (g_1 : r7 ≤ 0) (g_2 : r8 < 0) (g_3 : -(((108917793695 * r7 + 159561683699 * r8) / 68719476736) * o4) + (r7 * k9_1) + (r8 * k9_2) - 1 < 0) (g_4 : 0 ≤ -(((108917793695 * r7 + 159561683699 * r8) / 68719476736) * o4) + (r7 * k9_1) + (r8 * k9_2)) : jT xs (d + 2) 161 16 0 [(0, (4, 0)), (1, (0, r7)), (2, (0, r8)), (3, (4, 1)), (4, (0, o4))] [] [jzQ_16, (4, [(4, 13), (1, 1)], []), (8, [(4, 14), (4, 15)], []), jgh, jgh, jgh, jgh, jgh, jgh, (101, [], [u8_0, u8_1, u8_2, u8_3, u8_4, u8_5]), (101, [], [k9_0, k9_1, k9_2, k9_3, k9_4, k9_5]), jgh, jgh, (101, [], [0, 0, 0, 0, 0, 0]), jgh, jgh] 0 0 (fun k v hsN => k = 0 ∧ v = (0, 0) ∧ hsN = [jzQ_16, (4, [(4, 13), (1, 1)], []), (8, [(4, 14), (4, 15)], []), jgh, jgh, jgh, jgh, jgh, jgh, (101, [], [(108917793695 * r7 + 159561683699 * r8) / 68719476736, -r7, -r8, 0, 0, 0]), (101, [], [k9_0, k9_1, k9_2, k9_3, k9_4, k9_5]), jgh, jgh, (101, [], [0, 0, 0, 0, 0, 0]), jgh, jgh]) := by
  refine jT_xiload_n (v := (0, r7)) (pcN := 1) jIQ_161_0 rfl rfl rfl ?_
  refine jT_ifF (a := r7) (t := 10) (by rfl) (by rfl) (by rfl) (jw_idd (by omega) (by omega)) (by simp only [jcP] <;> omega) ?_
  refine jT_xiload_n (v := (0, r8)) (pcN := 5) jIQ_161_4 rfl rfl rfl ?_
  refine jT_ifT (a := r8) (t := 10) (by rfl) (by rfl) (by rfl) (jw_idd (by omega) (by omega)) (by simp only [jcP] <;> omega) ?_
  refine jT_xiconst (k := 0) (pcN := 11) jIQ_161_10 rfl ?_
  refine jT_xistore (v := (0, 0)) (LN := [(5, (0, 0)), (0, (4, 0)), (1, (0, r7)), (2, (0, r8)), (3, (4, 1)), (4, (0, o4))]) (pcN := 13) jIQ_161_11 rfl rfl rfl rfl ?_
  refine jT_xiload (v := (0, 0)) (pcN := 15) jIQ_161_13 rfl rfl rfl ?_
  refine jT_xbipush (k := 6) (pcN := 17) jIQ_161_15 (by decide) rfl ?_
  refine jT_xicF (t := 56) (pcN := 20) jIQ_161_17 rfl (by decide +kernel) rfl rfl ?_
  refine jT_xaload_n (v := (4, 0)) (pcN := 21) jIQ_161_20 rfl rfl rfl ?_
  refine jT_xgetf (a := 0) (t := 1) (ci := 13) (fi := 7) (c := jzQ_16) (v := (4, 9)) (pcN := 24) jIQ_161_21 rfl rfl rfl rfl rfl rfl rfl ?_
  refine jT_xiload (v := (0, 0)) (pcN := 26) jIQ_161_24 rfl rfl rfl ?_
  refine jT_xiload (v := (0, 0)) (pcN := 28) jIQ_161_26 rfl rfl rfl ?_
  refine jT_xiconst (k := 1) (pcN := 29) jIQ_161_28 rfl ?_
  refine jT_xicT (pcN := 37) jIQ_161_29 rfl (by decide +kernel) rfl ?_
  refine jT_xiload (v := (0, 0)) (pcN := 39) jIQ_161_37 rfl rfl rfl ?_
  refine jT_xiconst (k := 2) (pcN := 40) jIQ_161_39 rfl ?_
  refine jT_xicT (pcN := 48) jIQ_161_40 rfl (by decide +kernel) rfl ?_
  refine jT_xlconst (z := 0) (pcN := 49) jIQ_161_48 rfl rfl ?_
  refine jT_adv 1 (pcN := 50) (LN := [(5, (0, 0)), (0, (4, 0)), (1, (0, r7)), (2, (0, r8)), (3, (4, 1)), (4, (0, o4))]) (stN := []) (hsN := [jzQ_16, (4, [(4, 13), (1, 1)], []), (8, [(4, 14), (4, 15)], []), jgh, jgh, jgh, jgh, jgh, jgh, (101, [], [0, u8_1, u8_2, u8_3, u8_4, u8_5]), (101, [], [k9_0, k9_1, k9_2, k9_3, k9_4, k9_5]), jgh, jgh, (101, [], [0, 0, 0, 0, 0, 0]), jgh, jgh]) (c1 := 0) (s1 := 0) (c2 := 0) (s2 := 0) (by exact rfl) ?_ (by omega) (by omega)
  refine jT_xiinc (x := 0) (z := 1) (LN := [(5, (0, 1)), (0, (4, 0)), (1, (0, r7)), (2, (0, r8)), (3, (4, 1)), (4, (0, o4))]) (pcN := 53) jIQ_161_50 rfl rfl (by decide) rfl rfl ?_
  refine jT_xgoto (pcN := 13) jIQ_161_53 rfl ?_
  refine jT_xiload (v := (0, 1)) (pcN := 15) jIQ_161_13 rfl rfl rfl ?_
  refine jT_xbipush (k := 6) (pcN := 17) jIQ_161_15 (by decide) rfl ?_
  refine jT_xicF (t := 56) (pcN := 20) jIQ_161_17 rfl (by decide +kernel) rfl rfl ?_
  refine jT_xaload_n (v := (4, 0)) (pcN := 21) jIQ_161_20 rfl rfl rfl ?_
  refine jT_xgetf (a := 0) (t := 1) (ci := 13) (fi := 7) (c := jzQ_16) (v := (4, 9)) (pcN := 24) jIQ_161_21 rfl rfl rfl rfl rfl rfl rfl ?_
  refine jT_xiload (v := (0, 1)) (pcN := 26) jIQ_161_24 rfl rfl rfl ?_
  refine jT_xiload (v := (0, 1)) (pcN := 28) jIQ_161_26 rfl rfl rfl ?_
  refine jT_xiconst (k := 1) (pcN := 29) jIQ_161_28 rfl ?_
  refine jT_xicF (t := 37) (pcN := 32) jIQ_161_29 rfl (by decide +kernel) rfl rfl ?_
  refine jT_xiload_n (v := (0, r7)) (pcN := 33) jIQ_161_32 rfl rfl rfl ?_
  refine jT_xi2l (x := r7) (z := r7) (pcN := 34) jIQ_161_33 rfl (jw_idd (by omega) (by omega)) rfl ?_
  refine jT_xgoto (pcN := 49) jIQ_161_34 rfl ?_
  refine jT_adv 1 (pcN := 50) (LN := [(5, (0, 1)), (0, (4, 0)), (1, (0, r7)), (2, (0, r8)), (3, (4, 1)), (4, (0, o4))]) (stN := []) (hsN := [jzQ_16, (4, [(4, 13), (1, 1)], []), (8, [(4, 14), (4, 15)], []), jgh, jgh, jgh, jgh, jgh, jgh, (101, [], [0, r7, u8_2, u8_3, u8_4, u8_5]), (101, [], [k9_0, k9_1, k9_2, k9_3, k9_4, k9_5]), jgh, jgh, (101, [], [0, 0, 0, 0, 0, 0]), jgh, jgh]) (c1 := 0) (s1 := 0) (c2 := 0) (s2 := 0) (by exact rfl) ?_ (by omega) (by omega)
  refine jT_xiinc (x := 1) (z := 2) (LN := [(5, (0, 2)), (0, (4, 0)), (1, (0, r7)), (2, (0, r8)), (3, (4, 1)), (4, (0, o4))]) (pcN := 53) jIQ_161_50 rfl rfl (by decide) rfl rfl ?_
  refine jT_xgoto (pcN := 13) jIQ_161_53 rfl ?_
  refine jT_xiload (v := (0, 2)) (pcN := 15) jIQ_161_13 rfl rfl rfl ?_
  refine jT_xbipush (k := 6) (pcN := 17) jIQ_161_15 (by decide) rfl ?_
  refine jT_xicF (t := 56) (pcN := 20) jIQ_161_17 rfl (by decide +kernel) rfl rfl ?_
  refine jT_xaload_n (v := (4, 0)) (pcN := 21) jIQ_161_20 rfl rfl rfl ?_
  refine jT_xgetf (a := 0) (t := 1) (ci := 13) (fi := 7) (c := jzQ_16) (v := (4, 9)) (pcN := 24) jIQ_161_21 rfl rfl rfl rfl rfl rfl rfl ?_
  refine jT_xiload (v := (0, 2)) (pcN := 26) jIQ_161_24 rfl rfl rfl ?_
  refine jT_xiload (v := (0, 2)) (pcN := 28) jIQ_161_26 rfl rfl rfl ?_
  refine jT_xiconst (k := 1) (pcN := 29) jIQ_161_28 rfl ?_
  refine jT_xicT (pcN := 37) jIQ_161_29 rfl (by decide +kernel) rfl ?_
  refine jT_xiload (v := (0, 2)) (pcN := 39) jIQ_161_37 rfl rfl rfl ?_
  refine jT_xiconst (k := 2) (pcN := 40) jIQ_161_39 rfl ?_
  refine jT_xicF (t := 48) (pcN := 43) jIQ_161_40 rfl (by decide +kernel) rfl rfl ?_
  refine jT_xiload_n (v := (0, r8)) (pcN := 44) jIQ_161_43 rfl rfl rfl ?_
  refine jT_xi2l (x := r8) (z := r8) (pcN := 45) jIQ_161_44 rfl (jw_idd (by omega) (by omega)) rfl ?_
  refine jT_xgoto (pcN := 49) jIQ_161_45 rfl ?_
  refine jT_adv 1 (pcN := 50) (LN := [(5, (0, 2)), (0, (4, 0)), (1, (0, r7)), (2, (0, r8)), (3, (4, 1)), (4, (0, o4))]) (stN := []) (hsN := [jzQ_16, (4, [(4, 13), (1, 1)], []), (8, [(4, 14), (4, 15)], []), jgh, jgh, jgh, jgh, jgh, jgh, (101, [], [0, r7, r8, u8_3, u8_4, u8_5]), (101, [], [k9_0, k9_1, k9_2, k9_3, k9_4, k9_5]), jgh, jgh, (101, [], [0, 0, 0, 0, 0, 0]), jgh, jgh]) (c1 := 0) (s1 := 0) (c2 := 0) (s2 := 0) (by exact rfl) ?_ (by omega) (by omega)
  refine jT_xiinc (x := 2) (z := 3) (LN := [(5, (0, 3)), (0, (4, 0)), (1, (0, r7)), (2, (0, r8)), (3, (4, 1)), (4, (0, o4))]) (pcN := 53) jIQ_161_50 rfl rfl (by decide) rfl rfl ?_
  refine jT_xgoto (pcN := 13) jIQ_161_53 rfl ?_
  refine jT_xiload (v := (0, 3)) (pcN := 15) jIQ_161_13 rfl rfl rfl ?_
  refine jT_xbipush (k := 6) (pcN := 17) jIQ_161_15 (by decide) rfl ?_
  refine jT_xicF (t := 56) (pcN := 20) jIQ_161_17 rfl (by decide +kernel) rfl rfl ?_
  refine jT_xaload_n (v := (4, 0)) (pcN := 21) jIQ_161_20 rfl rfl rfl ?_
  refine jT_xgetf (a := 0) (t := 1) (ci := 13) (fi := 7) (c := jzQ_16) (v := (4, 9)) (pcN := 24) jIQ_161_21 rfl rfl rfl rfl rfl rfl rfl ?_
  refine jT_xiload (v := (0, 3)) (pcN := 26) jIQ_161_24 rfl rfl rfl ?_
  refine jT_xiload (v := (0, 3)) (pcN := 28) jIQ_161_26 rfl rfl rfl ?_
  refine jT_xiconst (k := 1) (pcN := 29) jIQ_161_28 rfl ?_
  refine jT_xicT (pcN := 37) jIQ_161_29 rfl (by decide +kernel) rfl ?_
  refine jT_xiload (v := (0, 3)) (pcN := 39) jIQ_161_37 rfl rfl rfl ?_
  refine jT_xiconst (k := 2) (pcN := 40) jIQ_161_39 rfl ?_
  refine jT_xicT (pcN := 48) jIQ_161_40 rfl (by decide +kernel) rfl ?_
  refine jT_xlconst (z := 0) (pcN := 49) jIQ_161_48 rfl rfl ?_
  refine jT_adv 1 (pcN := 50) (LN := [(5, (0, 3)), (0, (4, 0)), (1, (0, r7)), (2, (0, r8)), (3, (4, 1)), (4, (0, o4))]) (stN := []) (hsN := [jzQ_16, (4, [(4, 13), (1, 1)], []), (8, [(4, 14), (4, 15)], []), jgh, jgh, jgh, jgh, jgh, jgh, (101, [], [0, r7, r8, 0, u8_4, u8_5]), (101, [], [k9_0, k9_1, k9_2, k9_3, k9_4, k9_5]), jgh, jgh, (101, [], [0, 0, 0, 0, 0, 0]), jgh, jgh]) (c1 := 0) (s1 := 0) (c2 := 0) (s2 := 0) (by exact rfl) ?_ (by omega) (by omega)
  refine jT_xiinc (x := 3) (z := 4) (LN := [(5, (0, 4)), (0, (4, 0)), (1, (0, r7)), (2, (0, r8)), (3, (4, 1)), (4, (0, o4))]) (pcN := 53) jIQ_161_50 rfl rfl (by decide) rfl rfl ?_
  refine jT_xgoto (pcN := 13) jIQ_161_53 rfl ?_
  refine jT_xiload (v := (0, 4)) (pcN := 15) jIQ_161_13 rfl rfl rfl ?_
  refine jT_xbipush (k := 6) (pcN := 17) jIQ_161_15 (by decide) rfl ?_
  refine jT_xicF (t := 56) (pcN := 20) jIQ_161_17 rfl (by decide +kernel) rfl rfl ?_
  refine jT_xaload_n (v := (4, 0)) (pcN := 21) jIQ_161_20 rfl rfl rfl ?_
  refine jT_xgetf (a := 0) (t := 1) (ci := 13) (fi := 7) (c := jzQ_16) (v := (4, 9)) (pcN := 24) jIQ_161_21 rfl rfl rfl rfl rfl rfl rfl ?_
  refine jT_xiload (v := (0, 4)) (pcN := 26) jIQ_161_24 rfl rfl rfl ?_
  refine jT_xiload (v := (0, 4)) (pcN := 28) jIQ_161_26 rfl rfl rfl ?_
  refine jT_xiconst (k := 1) (pcN := 29) jIQ_161_28 rfl ?_
  refine jT_xicT (pcN := 37) jIQ_161_29 rfl (by decide +kernel) rfl ?_
  refine jT_xiload (v := (0, 4)) (pcN := 39) jIQ_161_37 rfl rfl rfl ?_
  refine jT_xiconst (k := 2) (pcN := 40) jIQ_161_39 rfl ?_
  refine jT_xicT (pcN := 48) jIQ_161_40 rfl (by decide +kernel) rfl ?_
  refine jT_xlconst (z := 0) (pcN := 49) jIQ_161_48 rfl rfl ?_
  refine jT_adv 1 (pcN := 50) (LN := [(5, (0, 4)), (0, (4, 0)), (1, (0, r7)), (2, (0, r8)), (3, (4, 1)), (4, (0, o4))]) (stN := []) (hsN := [jzQ_16, (4, [(4, 13), (1, 1)], []), (8, [(4, 14), (4, 15)], []), jgh, jgh, jgh, jgh, jgh, jgh, (101, [], [0, r7, r8, 0, 0, u8_5]), (101, [], [k9_0, k9_1, k9_2, k9_3, k9_4, k9_5]), jgh, jgh, (101, [], [0, 0, 0, 0, 0, 0]), jgh, jgh]) (c1 := 0) (s1 := 0) (c2 := 0) (s2 := 0) (by exact rfl) ?_ (by omega) (by omega)
  refine jT_xiinc (x := 4) (z := 5) (LN := [(5, (0, 5)), (0, (4, 0)), (1, (0, r7)), (2, (0, r8)), (3, (4, 1)), (4, (0, o4))]) (pcN := 53) jIQ_161_50 rfl rfl (by decide) rfl rfl ?_
  refine jT_xgoto (pcN := 13) jIQ_161_53 rfl ?_
  refine jT_xiload (v := (0, 5)) (pcN := 15) jIQ_161_13 rfl rfl rfl ?_
  refine jT_xbipush (k := 6) (pcN := 17) jIQ_161_15 (by decide) rfl ?_
  refine jT_xicF (t := 56) (pcN := 20) jIQ_161_17 rfl (by decide +kernel) rfl rfl ?_
  refine jT_xaload_n (v := (4, 0)) (pcN := 21) jIQ_161_20 rfl rfl rfl ?_
  refine jT_xgetf (a := 0) (t := 1) (ci := 13) (fi := 7) (c := jzQ_16) (v := (4, 9)) (pcN := 24) jIQ_161_21 rfl rfl rfl rfl rfl rfl rfl ?_
  refine jT_xiload (v := (0, 5)) (pcN := 26) jIQ_161_24 rfl rfl rfl ?_
  refine jT_xiload (v := (0, 5)) (pcN := 28) jIQ_161_26 rfl rfl rfl ?_
  refine jT_xiconst (k := 1) (pcN := 29) jIQ_161_28 rfl ?_
  refine jT_xicT (pcN := 37) jIQ_161_29 rfl (by decide +kernel) rfl ?_
  refine jT_xiload (v := (0, 5)) (pcN := 39) jIQ_161_37 rfl rfl rfl ?_
  refine jT_xiconst (k := 2) (pcN := 40) jIQ_161_39 rfl ?_
  refine jT_xicT (pcN := 48) jIQ_161_40 rfl (by decide +kernel) rfl ?_
  refine jT_xlconst (z := 0) (pcN := 49) jIQ_161_48 rfl rfl ?_
  refine jT_adv 1 (pcN := 50) (LN := [(5, (0, 5)), (0, (4, 0)), (1, (0, r7)), (2, (0, r8)), (3, (4, 1)), (4, (0, o4))]) (stN := []) (hsN := [jzQ_16, (4, [(4, 13), (1, 1)], []), (8, [(4, 14), (4, 15)], []), jgh, jgh, jgh, jgh, jgh, jgh, (101, [], [0, r7, r8, 0, 0, 0]), (101, [], [k9_0, k9_1, k9_2, k9_3, k9_4, k9_5]), jgh, jgh, (101, [], [0, 0, 0, 0, 0, 0]), jgh, jgh]) (c1 := 0) (s1 := 0) (c2 := 0) (s2 := 0) (by exact rfl) ?_ (by omega) (by omega)
  refine jT_xiinc (x := 5) (z := 6) (LN := [(5, (0, 6)), (0, (4, 0)), (1, (0, r7)), (2, (0, r8)), (3, (4, 1)), (4, (0, o4))]) (pcN := 53) jIQ_161_50 rfl rfl (by decide) rfl rfl ?_
  refine jT_xgoto (pcN := 13) jIQ_161_53 rfl ?_
  refine jT_xiload (v := (0, 6)) (pcN := 15) jIQ_161_13 rfl rfl rfl ?_
  refine jT_xbipush (k := 6) (pcN := 17) jIQ_161_15 (by decide) rfl ?_
  refine jT_xicT (pcN := 56) jIQ_161_17 rfl (by decide +kernel) rfl ?_
  refine jT_xaload_n (v := (4, 0)) (pcN := 57) jIQ_161_56 rfl rfl rfl ?_
  refine jT_xgetf (a := 0) (t := 1) (ci := 13) (fi := 0) (c := jzQ_16) (v := (4, 2)) (pcN := 60) jIQ_161_57 rfl rfl rfl rfl rfl rfl rfl ?_
  refine jT_xaload_n (v := (4, 0)) (pcN := 61) jIQ_161_60 rfl rfl rfl ?_
  refine jT_xgetf (a := 0) (t := 1) (ci := 13) (fi := 7) (c := jzQ_16) (v := (4, 9)) (pcN := 64) jIQ_161_61 rfl rfl rfl rfl rfl rfl rfl ?_
  refine jT_xlconst (z := 1) (pcN := 65) jIQ_161_64 rfl rfl ?_
  refine jT_xlconst (z := 1) (pcN := 66) jIQ_161_65 rfl rfl ?_
  refine jT_callA [2, 9, 14, 15] (y := 45) (pcN := 69) (dC := 1) (bc1 := 0) (bc2 := 0) (c1 := 0) (c2 := 0) (as := [(4, 2), (4, 9), (1, 1), (1, 1)]) (asC := [(4, 0), (4, 1), (1, 1), (1, 1)]) (LN := [(5, (0, 6)), (0, (4, 0)), (1, (0, r7)), (2, (0, r8)), (3, (4, 1)), (4, (0, o4))]) (stN := []) (hsC := [(8, [(4, 2), (4, 3)], []), (101, [], [0, r7, r8, 0, 0, 0]), jgh, jgh]) (ex := []) (v := (1, (108917793695 * r7 + 159561683699 * r8) / 68719476736)) (st2 := [(1, (108917793695 * r7 + 159561683699 * r8) / 68719476736)]) (hs2 := [jzQ_16, (4, [(4, 13), (1, 1)], []), (8, [(4, 14), (4, 15)], []), jgh, jgh, jgh, jgh, jgh, jgh, (101, [], [0, r7, r8, 0, 0, 0]), (101, [], [k9_0, k9_1, k9_2, k9_3, k9_4, k9_5]), jgh, jgh, (101, [], [0, 0, 0, 0, 0, 0]), jgh, jgh]) (jQl_sp45_116 (d := 0) (by omega) (by omega)) (by rfl) (by rfl) (by rfl) (by rfl) ⟨rfl, rfl, rfl, rfl, trivial⟩ (by rfl) (by rfl) (by omega) (by show 16 ≤ 16; omega) (by omega) (by omega) rfl rfl ?_
  have hb_q1 : (-60) ≤ (108917793695 * r7 + 159561683699 * r8) / 68719476736 ∧ (108917793695 * r7 + 159561683699 * r8) / 68719476736 ≤ 60 := ⟨by omega, by omega⟩
  generalize hq_q1 : (108917793695 * r7 + 159561683699 * r8) / 68719476736 = q1 at hb_q1 g_3 g_4 ⊢
  refine jT_xlstore (v := (1, q1)) (LN := [(5, (1, q1)), (0, (4, 0)), (1, (0, r7)), (2, (0, r8)), (3, (4, 1)), (4, (0, o4))]) (pcN := 71) jIQ_161_69 rfl rfl rfl rfl ?_
  have g_5 : 0 ≤ (-68719476736) * q1 + 108917793694 * r7 + 159561683698 * r8 - 1 := by have := jcg (b := r7) (c := r8) (by omega) (by omega) (by omega); rw [hq_q1] at this; omega
  have g_6 : 0 ≤ (-68719476736) * q1 + 108917793694 * r7 + 159561683700 * r8 - 1 := by have := jcg (b := r7) (c := r8) (by omega) (by omega) (by omega); rw [hq_q1] at this; omega
  have g_7 : 0 ≤ (-68719476736) * q1 + 108917793696 * r7 + 159561683698 * r8 - 1 := by have := jcg (b := r7) (c := r8) (by omega) (by omega) (by omega); rw [hq_q1] at this; omega
  have g_8 : 0 ≤ (-68719476736) * q1 + 108917793696 * r7 + 159561683700 * r8 - 1 := by have := jcg (b := r7) (c := r8) (by omega) (by omega) (by omega); rw [hq_q1] at this; omega
  refine jT_xiload (v := (0, o4)) (pcN := 73) jIQ_161_71 rfl rfl rfl ?_
  refine jT_ifF (a := o4) (t := 107) (by rfl) (by rfl) (by rfl) (jw_idd (by omega) (by omega)) (by simp only [jcP] <;> omega) ?_
  refine jT_xiload_n (v := (0, r7)) (pcN := 77) jIQ_161_76 rfl rfl rfl ?_
  refine jT_xi2l (x := r7) (z := r7) (pcN := 78) jIQ_161_77 rfl (jw_idd (by omega) (by omega)) rfl ?_
  refine jT_xaload_n (v := (4, 0)) (pcN := 79) jIQ_161_78 rfl rfl rfl ?_
  refine jT_xgetf (a := 0) (t := 1) (ci := 13) (fi := 8) (c := jzQ_16) (v := (4, 10)) (pcN := 82) jIQ_161_79 rfl rfl rfl rfl rfl rfl rfl ?_
  refine jT_xiconst (k := 1) (pcN := 83) jIQ_161_82 rfl ?_
  refine jT_lald (x := k9_1) (a := 10) (j := 1) (fs := []) (X := [k9_0, k9_1, k9_2, k9_3, k9_4, k9_5]) jIQ_161_83 rfl rfl rfl rfl ?_
  refine jT_eq (LN := [(5, (1, q1)), (0, (4, 0)), (1, (0, r7)), (2, (0, r8)), (3, (4, 1)), (4, (0, o4))]) (stN := [(1, k9_1), (1, r7)]) (hsN := [jzQ_16, (4, [(4, 13), (1, 1)], []), (8, [(4, 14), (4, 15)], []), jgh, jgh, jgh, jgh, jgh, jgh, (101, [], [0, r7, r8, 0, 0, 0]), (101, [], [k9_0, k9_1, k9_2, k9_3, k9_4, k9_5]), jgh, jgh, (101, [], [0, 0, 0, 0, 0, 0]), jgh, jgh]) rfl rfl rfl ?_
  refine jT_xlmul (x := r7) (y := k9_1) (z := r7 * k9_1) (pcN := 85) jIQ_161_84 rfl rfl rfl ?_
  have hb_q2 := jmul_b (x := r7) (y := k9_1) (m := 20) (n := 158) (by omega) (by omega) (by omega) (by omega)
  have hb_q2 : 0 ≤ r7 * k9_1 ∧ r7 * k9_1 ≤ 3160 := ⟨hb_q2.1, by omega⟩
  generalize hq_q2 : r7 * k9_1 = q2 at hb_q2 g_3 g_4 ⊢
  refine jT_xiload_n (v := (0, r8)) (pcN := 86) jIQ_161_85 rfl rfl rfl ?_
  refine jT_xi2l (x := r8) (z := r8) (pcN := 87) jIQ_161_86 rfl (jw_idd (by omega) (by omega)) rfl ?_
  refine jT_xaload_n (v := (4, 0)) (pcN := 88) jIQ_161_87 rfl rfl rfl ?_
  refine jT_xgetf (a := 0) (t := 1) (ci := 13) (fi := 8) (c := jzQ_16) (v := (4, 10)) (pcN := 91) jIQ_161_88 rfl rfl rfl rfl rfl rfl rfl ?_
  refine jT_xiconst (k := 2) (pcN := 92) jIQ_161_91 rfl ?_
  refine jT_lald (x := k9_2) (a := 10) (j := 2) (fs := []) (X := [k9_0, k9_1, k9_2, k9_3, k9_4, k9_5]) jIQ_161_92 rfl rfl rfl rfl ?_
  refine jT_eq (LN := [(5, (1, q1)), (0, (4, 0)), (1, (0, r7)), (2, (0, r8)), (3, (4, 1)), (4, (0, o4))]) (stN := [(1, k9_2), (1, r8), (1, q2)]) (hsN := [jzQ_16, (4, [(4, 13), (1, 1)], []), (8, [(4, 14), (4, 15)], []), jgh, jgh, jgh, jgh, jgh, jgh, (101, [], [0, r7, r8, 0, 0, 0]), (101, [], [k9_0, k9_1, k9_2, k9_3, k9_4, k9_5]), jgh, jgh, (101, [], [0, 0, 0, 0, 0, 0]), jgh, jgh]) rfl rfl rfl ?_
  refine jT_xlmul (x := r8) (y := k9_2) (z := r8 * k9_2) (pcN := 94) jIQ_161_93 rfl rfl rfl ?_
  have hb_q3 := jmul_bs (x := r8) (y := k9_2) (m := 10) (n := 232) (by omega) (by omega) (by omega) (by omega)
  have hb_q3 : (-2320) ≤ r8 * k9_2 ∧ r8 * k9_2 ≤ 2320 := ⟨by omega, by omega⟩
  generalize hq_q3 : r8 * k9_2 = q3 at hb_q3 g_3 g_4 ⊢
  refine jT_xladd (x := q2) (y := q3) (z := q2 + q3) (pcN := 95) jIQ_161_94 rfl (rfl) rfl ?_
  refine jT_xlload (v := (1, q1)) (pcN := 97) jIQ_161_95 rfl rfl rfl ?_
  refine jT_xiload (v := (0, o4)) (pcN := 99) jIQ_161_97 rfl rfl rfl ?_
  refine jT_xi2l (x := o4) (z := o4) (pcN := 100) jIQ_161_99 rfl (jw_idd (by omega) (by omega)) rfl ?_
  refine jT_xlmul (x := q1) (y := o4) (z := q1 * o4) (pcN := 101) jIQ_161_100 rfl rfl rfl ?_
  have hb_q4 := jmul_bs (x := q1) (y := o4) (m := 60) (n := 100) (by omega) (by omega) (by omega) (by omega)
  have hb_q4 : (-6000) ≤ q1 * o4 ∧ q1 * o4 ≤ 6000 := ⟨by omega, by omega⟩
  generalize hq_q4 : q1 * o4 = q4 at hb_q4 g_3 g_4 ⊢
  refine jT_lcmp (a := q2 + q3) (b := q4) (z := 0) (by rfl) (by rfl) (jwl_idd (by omega) (by omega)) (jwl_idd (by omega) (by omega)) (by rw [decide_eq_false (show ¬ ((q4 : Int) < q2 + q3) by omega), decide_eq_true (show (q2 + q3 : Int) = q4 by omega)]; rfl) ?_
  refine jT_xifT (pcN := 107) jIQ_161_102 rfl (by decide +kernel) rfl ?_
  refine jT_xaload_n (v := (4, 0)) (pcN := 108) jIQ_161_107 rfl rfl rfl ?_
  refine jT_xgetf (a := 0) (t := 1) (ci := 13) (fi := 7) (c := jzQ_16) (v := (4, 9)) (pcN := 111) jIQ_161_108 rfl rfl rfl rfl rfl rfl rfl ?_
  refine jT_xiconst (k := 0) (pcN := 112) jIQ_161_111 rfl ?_
  refine jT_xlload (v := (1, q1)) (pcN := 114) jIQ_161_112 rfl rfl rfl ?_
  refine jT_adv 2 (pcN := 116) (LN := [(5, (1, q1)), (0, (4, 0)), (1, (0, r7)), (2, (0, r8)), (3, (4, 1)), (4, (0, o4))]) (stN := []) (hsN := [jzQ_16, (4, [(4, 13), (1, 1)], []), (8, [(4, 14), (4, 15)], []), jgh, jgh, jgh, jgh, jgh, jgh, (101, [], [-q1, r7, r8, 0, 0, 0]), (101, [], [k9_0, k9_1, k9_2, k9_3, k9_4, k9_5]), jgh, jgh, (101, [], [0, 0, 0, 0, 0, 0]), jgh, jgh]) (c1 := 0) (s1 := 0) (c2 := 0) (s2 := 0) (by exact rfl) ?_ (by omega) (by omega)
  refine jT_xiconst (k := 0) (pcN := 117) jIQ_161_116 rfl ?_
  refine jT_xistore (v := (0, 0)) (LN := [(7, (0, 0)), (5, (1, q1)), (0, (4, 0)), (1, (0, r7)), (2, (0, r8)), (3, (4, 1)), (4, (0, o4))]) (pcN := 119) jIQ_161_117 rfl rfl rfl rfl ?_
  refine jT_xiload (v := (0, 0)) (pcN := 121) jIQ_161_119 rfl rfl rfl ?_
  refine jT_xbipush (k := 6) (pcN := 123) jIQ_161_121 (by decide) rfl ?_
  refine jT_xicF (t := 159) (pcN := 126) jIQ_161_123 rfl (by decide +kernel) rfl rfl ?_
  refine jT_xaload_n (v := (4, 0)) (pcN := 127) jIQ_161_126 rfl rfl rfl ?_
  refine jT_xgetf (a := 0) (t := 1) (ci := 13) (fi := 7) (c := jzQ_16) (v := (4, 9)) (pcN := 130) jIQ_161_127 rfl rfl rfl rfl rfl rfl rfl ?_
  refine jT_xiload (v := (0, 0)) (pcN := 132) jIQ_161_130 rfl rfl rfl ?_
  refine jT_xaload_n (v := (4, 1)) (pcN := 133) jIQ_161_132 rfl rfl rfl ?_
  refine jT_xgetf (a := 1) (t := 2) (ci := 4) (fi := 0) (c := (4, [(4, 13), (1, 1)], [])) (v := (4, 13)) (pcN := 136) jIQ_161_133 rfl rfl rfl rfl rfl rfl rfl ?_
  refine jT_xiload (v := (0, 0)) (pcN := 138) jIQ_161_136 rfl rfl rfl ?_
  refine jT_lald (x := 0) (a := 13) (j := 0) (fs := []) (X := [0, 0, 0, 0, 0, 0]) jIQ_161_138 rfl rfl rfl rfl ?_
  refine jT_eq (LN := [(7, (0, 0)), (5, (1, q1)), (0, (4, 0)), (1, (0, r7)), (2, (0, r8)), (3, (4, 1)), (4, (0, o4))]) (stN := [(1, 0), (0, 0), (4, 9)]) (hsN := [jzQ_16, (4, [(4, 13), (1, 1)], []), (8, [(4, 14), (4, 15)], []), jgh, jgh, jgh, jgh, jgh, jgh, (101, [], [-q1, r7, r8, 0, 0, 0]), (101, [], [k9_0, k9_1, k9_2, k9_3, k9_4, k9_5]), jgh, jgh, (101, [], [0, 0, 0, 0, 0, 0]), jgh, jgh]) rfl rfl rfl ?_
  refine jT_xaload_n (v := (4, 0)) (pcN := 140) jIQ_161_139 rfl rfl rfl ?_
  refine jT_xgetf (a := 0) (t := 1) (ci := 13) (fi := 7) (c := jzQ_16) (v := (4, 9)) (pcN := 143) jIQ_161_140 rfl rfl rfl rfl rfl rfl rfl ?_
  refine jT_xiload (v := (0, 0)) (pcN := 145) jIQ_161_143 rfl rfl rfl ?_
  refine jT_lald (x := -q1) (a := 9) (j := 0) (fs := []) (X := [-q1, r7, r8, 0, 0, 0]) jIQ_161_145 rfl rfl rfl rfl ?_
  refine jT_eq (LN := [(7, (0, 0)), (5, (1, q1)), (0, (4, 0)), (1, (0, r7)), (2, (0, r8)), (3, (4, 1)), (4, (0, o4))]) (stN := [(1, -q1), (1, 0), (0, 0), (4, 9)]) (hsN := [jzQ_16, (4, [(4, 13), (1, 1)], []), (8, [(4, 14), (4, 15)], []), jgh, jgh, jgh, jgh, jgh, jgh, (101, [], [-q1, r7, r8, 0, 0, 0]), (101, [], [k9_0, k9_1, k9_2, k9_3, k9_4, k9_5]), jgh, jgh, (101, [], [0, 0, 0, 0, 0, 0]), jgh, jgh]) rfl rfl rfl ?_
  refine jT_xaload_n (v := (4, 1)) (pcN := 147) jIQ_161_146 rfl rfl rfl ?_
  refine jT_xgetf (a := 1) (t := 2) (ci := 4) (fi := 1) (c := (4, [(4, 13), (1, 1)], [])) (v := (1, 1)) (pcN := 150) jIQ_161_147 rfl rfl rfl rfl rfl rfl rfl ?_
  refine jT_xlmul (x := -q1) (y := 1) (z := -q1) (pcN := 151) jIQ_161_150 rfl (by omega) rfl ?_
  refine jT_xlsub (x := 0) (y := -q1) (z := q1) (pcN := 152) jIQ_161_151 rfl (by omega) rfl ?_
  refine jT_adv 1 (pcN := 153) (LN := [(7, (0, 0)), (5, (1, q1)), (0, (4, 0)), (1, (0, r7)), (2, (0, r8)), (3, (4, 1)), (4, (0, o4))]) (stN := []) (hsN := [jzQ_16, (4, [(4, 13), (1, 1)], []), (8, [(4, 14), (4, 15)], []), jgh, jgh, jgh, jgh, jgh, jgh, (101, [], [q1, r7, r8, 0, 0, 0]), (101, [], [k9_0, k9_1, k9_2, k9_3, k9_4, k9_5]), jgh, jgh, (101, [], [0, 0, 0, 0, 0, 0]), jgh, jgh]) (c1 := 0) (s1 := 0) (c2 := 0) (s2 := 0) (by exact rfl) ?_ (by omega) (by omega)
  refine jT_xiinc (x := 0) (z := 1) (LN := [(7, (0, 1)), (5, (1, q1)), (0, (4, 0)), (1, (0, r7)), (2, (0, r8)), (3, (4, 1)), (4, (0, o4))]) (pcN := 156) jIQ_161_153 rfl rfl (by decide) rfl rfl ?_
  refine jT_xgoto (pcN := 119) jIQ_161_156 rfl ?_
  refine jT_xiload (v := (0, 1)) (pcN := 121) jIQ_161_119 rfl rfl rfl ?_
  refine jT_xbipush (k := 6) (pcN := 123) jIQ_161_121 (by decide) rfl ?_
  refine jT_xicF (t := 159) (pcN := 126) jIQ_161_123 rfl (by decide +kernel) rfl rfl ?_
  refine jT_xaload_n (v := (4, 0)) (pcN := 127) jIQ_161_126 rfl rfl rfl ?_
  refine jT_xgetf (a := 0) (t := 1) (ci := 13) (fi := 7) (c := jzQ_16) (v := (4, 9)) (pcN := 130) jIQ_161_127 rfl rfl rfl rfl rfl rfl rfl ?_
  refine jT_xiload (v := (0, 1)) (pcN := 132) jIQ_161_130 rfl rfl rfl ?_
  refine jT_xaload_n (v := (4, 1)) (pcN := 133) jIQ_161_132 rfl rfl rfl ?_
  refine jT_xgetf (a := 1) (t := 2) (ci := 4) (fi := 0) (c := (4, [(4, 13), (1, 1)], [])) (v := (4, 13)) (pcN := 136) jIQ_161_133 rfl rfl rfl rfl rfl rfl rfl ?_
  refine jT_xiload (v := (0, 1)) (pcN := 138) jIQ_161_136 rfl rfl rfl ?_
  refine jT_lald (x := 0) (a := 13) (j := 1) (fs := []) (X := [0, 0, 0, 0, 0, 0]) jIQ_161_138 rfl rfl rfl rfl ?_
  refine jT_eq (LN := [(7, (0, 1)), (5, (1, q1)), (0, (4, 0)), (1, (0, r7)), (2, (0, r8)), (3, (4, 1)), (4, (0, o4))]) (stN := [(1, 0), (0, 1), (4, 9)]) (hsN := [jzQ_16, (4, [(4, 13), (1, 1)], []), (8, [(4, 14), (4, 15)], []), jgh, jgh, jgh, jgh, jgh, jgh, (101, [], [q1, r7, r8, 0, 0, 0]), (101, [], [k9_0, k9_1, k9_2, k9_3, k9_4, k9_5]), jgh, jgh, (101, [], [0, 0, 0, 0, 0, 0]), jgh, jgh]) rfl rfl rfl ?_
  refine jT_xaload_n (v := (4, 0)) (pcN := 140) jIQ_161_139 rfl rfl rfl ?_
  refine jT_xgetf (a := 0) (t := 1) (ci := 13) (fi := 7) (c := jzQ_16) (v := (4, 9)) (pcN := 143) jIQ_161_140 rfl rfl rfl rfl rfl rfl rfl ?_
  refine jT_xiload (v := (0, 1)) (pcN := 145) jIQ_161_143 rfl rfl rfl ?_
  refine jT_lald (x := r7) (a := 9) (j := 1) (fs := []) (X := [q1, r7, r8, 0, 0, 0]) jIQ_161_145 rfl rfl rfl rfl ?_
  refine jT_eq (LN := [(7, (0, 1)), (5, (1, q1)), (0, (4, 0)), (1, (0, r7)), (2, (0, r8)), (3, (4, 1)), (4, (0, o4))]) (stN := [(1, r7), (1, 0), (0, 1), (4, 9)]) (hsN := [jzQ_16, (4, [(4, 13), (1, 1)], []), (8, [(4, 14), (4, 15)], []), jgh, jgh, jgh, jgh, jgh, jgh, (101, [], [q1, r7, r8, 0, 0, 0]), (101, [], [k9_0, k9_1, k9_2, k9_3, k9_4, k9_5]), jgh, jgh, (101, [], [0, 0, 0, 0, 0, 0]), jgh, jgh]) rfl rfl rfl ?_
  refine jT_xaload_n (v := (4, 1)) (pcN := 147) jIQ_161_146 rfl rfl rfl ?_
  refine jT_xgetf (a := 1) (t := 2) (ci := 4) (fi := 1) (c := (4, [(4, 13), (1, 1)], [])) (v := (1, 1)) (pcN := 150) jIQ_161_147 rfl rfl rfl rfl rfl rfl rfl ?_
  refine jT_xlmul (x := r7) (y := 1) (z := r7) (pcN := 151) jIQ_161_150 rfl (by omega) rfl ?_
  refine jT_xlsub (x := 0) (y := r7) (z := -r7) (pcN := 152) jIQ_161_151 rfl (by omega) rfl ?_
  refine jT_adv 1 (pcN := 153) (LN := [(7, (0, 1)), (5, (1, q1)), (0, (4, 0)), (1, (0, r7)), (2, (0, r8)), (3, (4, 1)), (4, (0, o4))]) (stN := []) (hsN := [jzQ_16, (4, [(4, 13), (1, 1)], []), (8, [(4, 14), (4, 15)], []), jgh, jgh, jgh, jgh, jgh, jgh, (101, [], [q1, -r7, r8, 0, 0, 0]), (101, [], [k9_0, k9_1, k9_2, k9_3, k9_4, k9_5]), jgh, jgh, (101, [], [0, 0, 0, 0, 0, 0]), jgh, jgh]) (c1 := 0) (s1 := 0) (c2 := 0) (s2 := 0) (by exact rfl) ?_ (by omega) (by omega)
  refine jT_xiinc (x := 1) (z := 2) (LN := [(7, (0, 2)), (5, (1, q1)), (0, (4, 0)), (1, (0, r7)), (2, (0, r8)), (3, (4, 1)), (4, (0, o4))]) (pcN := 156) jIQ_161_153 rfl rfl (by decide) rfl rfl ?_
  refine jT_xgoto (pcN := 119) jIQ_161_156 rfl ?_
  refine jT_xiload (v := (0, 2)) (pcN := 121) jIQ_161_119 rfl rfl rfl ?_
  refine jT_xbipush (k := 6) (pcN := 123) jIQ_161_121 (by decide) rfl ?_
  refine jT_xicF (t := 159) (pcN := 126) jIQ_161_123 rfl (by decide +kernel) rfl rfl ?_
  refine jT_xaload_n (v := (4, 0)) (pcN := 127) jIQ_161_126 rfl rfl rfl ?_
  refine jT_xgetf (a := 0) (t := 1) (ci := 13) (fi := 7) (c := jzQ_16) (v := (4, 9)) (pcN := 130) jIQ_161_127 rfl rfl rfl rfl rfl rfl rfl ?_
  refine jT_xiload (v := (0, 2)) (pcN := 132) jIQ_161_130 rfl rfl rfl ?_
  refine jT_xaload_n (v := (4, 1)) (pcN := 133) jIQ_161_132 rfl rfl rfl ?_
  refine jT_xgetf (a := 1) (t := 2) (ci := 4) (fi := 0) (c := (4, [(4, 13), (1, 1)], [])) (v := (4, 13)) (pcN := 136) jIQ_161_133 rfl rfl rfl rfl rfl rfl rfl ?_
  refine jT_xiload (v := (0, 2)) (pcN := 138) jIQ_161_136 rfl rfl rfl ?_
  refine jT_lald (x := 0) (a := 13) (j := 2) (fs := []) (X := [0, 0, 0, 0, 0, 0]) jIQ_161_138 rfl rfl rfl rfl ?_
  refine jT_eq (LN := [(7, (0, 2)), (5, (1, q1)), (0, (4, 0)), (1, (0, r7)), (2, (0, r8)), (3, (4, 1)), (4, (0, o4))]) (stN := [(1, 0), (0, 2), (4, 9)]) (hsN := [jzQ_16, (4, [(4, 13), (1, 1)], []), (8, [(4, 14), (4, 15)], []), jgh, jgh, jgh, jgh, jgh, jgh, (101, [], [q1, -r7, r8, 0, 0, 0]), (101, [], [k9_0, k9_1, k9_2, k9_3, k9_4, k9_5]), jgh, jgh, (101, [], [0, 0, 0, 0, 0, 0]), jgh, jgh]) rfl rfl rfl ?_
  refine jT_xaload_n (v := (4, 0)) (pcN := 140) jIQ_161_139 rfl rfl rfl ?_
  refine jT_xgetf (a := 0) (t := 1) (ci := 13) (fi := 7) (c := jzQ_16) (v := (4, 9)) (pcN := 143) jIQ_161_140 rfl rfl rfl rfl rfl rfl rfl ?_
  refine jT_xiload (v := (0, 2)) (pcN := 145) jIQ_161_143 rfl rfl rfl ?_
  refine jT_lald (x := r8) (a := 9) (j := 2) (fs := []) (X := [q1, -r7, r8, 0, 0, 0]) jIQ_161_145 rfl rfl rfl rfl ?_
  refine jT_eq (LN := [(7, (0, 2)), (5, (1, q1)), (0, (4, 0)), (1, (0, r7)), (2, (0, r8)), (3, (4, 1)), (4, (0, o4))]) (stN := [(1, r8), (1, 0), (0, 2), (4, 9)]) (hsN := [jzQ_16, (4, [(4, 13), (1, 1)], []), (8, [(4, 14), (4, 15)], []), jgh, jgh, jgh, jgh, jgh, jgh, (101, [], [q1, -r7, r8, 0, 0, 0]), (101, [], [k9_0, k9_1, k9_2, k9_3, k9_4, k9_5]), jgh, jgh, (101, [], [0, 0, 0, 0, 0, 0]), jgh, jgh]) rfl rfl rfl ?_
  refine jT_xaload_n (v := (4, 1)) (pcN := 147) jIQ_161_146 rfl rfl rfl ?_
  refine jT_xgetf (a := 1) (t := 2) (ci := 4) (fi := 1) (c := (4, [(4, 13), (1, 1)], [])) (v := (1, 1)) (pcN := 150) jIQ_161_147 rfl rfl rfl rfl rfl rfl rfl ?_
  refine jT_xlmul (x := r8) (y := 1) (z := r8) (pcN := 151) jIQ_161_150 rfl (by omega) rfl ?_
  refine jT_xlsub (x := 0) (y := r8) (z := -r8) (pcN := 152) jIQ_161_151 rfl (by omega) rfl ?_
  refine jT_adv 1 (pcN := 153) (LN := [(7, (0, 2)), (5, (1, q1)), (0, (4, 0)), (1, (0, r7)), (2, (0, r8)), (3, (4, 1)), (4, (0, o4))]) (stN := []) (hsN := [jzQ_16, (4, [(4, 13), (1, 1)], []), (8, [(4, 14), (4, 15)], []), jgh, jgh, jgh, jgh, jgh, jgh, (101, [], [q1, -r7, -r8, 0, 0, 0]), (101, [], [k9_0, k9_1, k9_2, k9_3, k9_4, k9_5]), jgh, jgh, (101, [], [0, 0, 0, 0, 0, 0]), jgh, jgh]) (c1 := 0) (s1 := 0) (c2 := 0) (s2 := 0) (by exact rfl) ?_ (by omega) (by omega)
  refine jT_xiinc (x := 2) (z := 3) (LN := [(7, (0, 3)), (5, (1, q1)), (0, (4, 0)), (1, (0, r7)), (2, (0, r8)), (3, (4, 1)), (4, (0, o4))]) (pcN := 156) jIQ_161_153 rfl rfl (by decide) rfl rfl ?_
  refine jT_xgoto (pcN := 119) jIQ_161_156 rfl ?_
  refine jT_xiload (v := (0, 3)) (pcN := 121) jIQ_161_119 rfl rfl rfl ?_
  refine jT_xbipush (k := 6) (pcN := 123) jIQ_161_121 (by decide) rfl ?_
  refine jT_xicF (t := 159) (pcN := 126) jIQ_161_123 rfl (by decide +kernel) rfl rfl ?_
  refine jT_xaload_n (v := (4, 0)) (pcN := 127) jIQ_161_126 rfl rfl rfl ?_
  refine jT_xgetf (a := 0) (t := 1) (ci := 13) (fi := 7) (c := jzQ_16) (v := (4, 9)) (pcN := 130) jIQ_161_127 rfl rfl rfl rfl rfl rfl rfl ?_
  refine jT_xiload (v := (0, 3)) (pcN := 132) jIQ_161_130 rfl rfl rfl ?_
  refine jT_xaload_n (v := (4, 1)) (pcN := 133) jIQ_161_132 rfl rfl rfl ?_
  refine jT_xgetf (a := 1) (t := 2) (ci := 4) (fi := 0) (c := (4, [(4, 13), (1, 1)], [])) (v := (4, 13)) (pcN := 136) jIQ_161_133 rfl rfl rfl rfl rfl rfl rfl ?_
  refine jT_xiload (v := (0, 3)) (pcN := 138) jIQ_161_136 rfl rfl rfl ?_
  refine jT_lald (x := 0) (a := 13) (j := 3) (fs := []) (X := [0, 0, 0, 0, 0, 0]) jIQ_161_138 rfl rfl rfl rfl ?_
  refine jT_eq (LN := [(7, (0, 3)), (5, (1, q1)), (0, (4, 0)), (1, (0, r7)), (2, (0, r8)), (3, (4, 1)), (4, (0, o4))]) (stN := [(1, 0), (0, 3), (4, 9)]) (hsN := [jzQ_16, (4, [(4, 13), (1, 1)], []), (8, [(4, 14), (4, 15)], []), jgh, jgh, jgh, jgh, jgh, jgh, (101, [], [q1, -r7, -r8, 0, 0, 0]), (101, [], [k9_0, k9_1, k9_2, k9_3, k9_4, k9_5]), jgh, jgh, (101, [], [0, 0, 0, 0, 0, 0]), jgh, jgh]) rfl rfl rfl ?_
  refine jT_xaload_n (v := (4, 0)) (pcN := 140) jIQ_161_139 rfl rfl rfl ?_
  refine jT_xgetf (a := 0) (t := 1) (ci := 13) (fi := 7) (c := jzQ_16) (v := (4, 9)) (pcN := 143) jIQ_161_140 rfl rfl rfl rfl rfl rfl rfl ?_
  refine jT_xiload (v := (0, 3)) (pcN := 145) jIQ_161_143 rfl rfl rfl ?_
  refine jT_lald (x := 0) (a := 9) (j := 3) (fs := []) (X := [q1, -r7, -r8, 0, 0, 0]) jIQ_161_145 rfl rfl rfl rfl ?_
  refine jT_eq (LN := [(7, (0, 3)), (5, (1, q1)), (0, (4, 0)), (1, (0, r7)), (2, (0, r8)), (3, (4, 1)), (4, (0, o4))]) (stN := [(1, 0), (1, 0), (0, 3), (4, 9)]) (hsN := [jzQ_16, (4, [(4, 13), (1, 1)], []), (8, [(4, 14), (4, 15)], []), jgh, jgh, jgh, jgh, jgh, jgh, (101, [], [q1, -r7, -r8, 0, 0, 0]), (101, [], [k9_0, k9_1, k9_2, k9_3, k9_4, k9_5]), jgh, jgh, (101, [], [0, 0, 0, 0, 0, 0]), jgh, jgh]) rfl rfl rfl ?_
  refine jT_xaload_n (v := (4, 1)) (pcN := 147) jIQ_161_146 rfl rfl rfl ?_
  refine jT_xgetf (a := 1) (t := 2) (ci := 4) (fi := 1) (c := (4, [(4, 13), (1, 1)], [])) (v := (1, 1)) (pcN := 150) jIQ_161_147 rfl rfl rfl rfl rfl rfl rfl ?_
  refine jT_xlmul (x := 0) (y := 1) (z := 0) (pcN := 151) jIQ_161_150 rfl (by decide) rfl ?_
  refine jT_xlsub (x := 0) (y := 0) (z := 0) (pcN := 152) jIQ_161_151 rfl (by decide) rfl ?_
  refine jT_adv 1 (pcN := 153) (LN := [(7, (0, 3)), (5, (1, q1)), (0, (4, 0)), (1, (0, r7)), (2, (0, r8)), (3, (4, 1)), (4, (0, o4))]) (stN := []) (hsN := [jzQ_16, (4, [(4, 13), (1, 1)], []), (8, [(4, 14), (4, 15)], []), jgh, jgh, jgh, jgh, jgh, jgh, (101, [], [q1, -r7, -r8, 0, 0, 0]), (101, [], [k9_0, k9_1, k9_2, k9_3, k9_4, k9_5]), jgh, jgh, (101, [], [0, 0, 0, 0, 0, 0]), jgh, jgh]) (c1 := 0) (s1 := 0) (c2 := 0) (s2 := 0) (by exact rfl) ?_ (by omega) (by omega)
  refine jT_xiinc (x := 3) (z := 4) (LN := [(7, (0, 4)), (5, (1, q1)), (0, (4, 0)), (1, (0, r7)), (2, (0, r8)), (3, (4, 1)), (4, (0, o4))]) (pcN := 156) jIQ_161_153 rfl rfl (by decide) rfl rfl ?_
  refine jT_xgoto (pcN := 119) jIQ_161_156 rfl ?_
  refine jT_xiload (v := (0, 4)) (pcN := 121) jIQ_161_119 rfl rfl rfl ?_
  refine jT_xbipush (k := 6) (pcN := 123) jIQ_161_121 (by decide) rfl ?_
  refine jT_xicF (t := 159) (pcN := 126) jIQ_161_123 rfl (by decide +kernel) rfl rfl ?_
  refine jT_xaload_n (v := (4, 0)) (pcN := 127) jIQ_161_126 rfl rfl rfl ?_
  refine jT_xgetf (a := 0) (t := 1) (ci := 13) (fi := 7) (c := jzQ_16) (v := (4, 9)) (pcN := 130) jIQ_161_127 rfl rfl rfl rfl rfl rfl rfl ?_
  refine jT_xiload (v := (0, 4)) (pcN := 132) jIQ_161_130 rfl rfl rfl ?_
  refine jT_xaload_n (v := (4, 1)) (pcN := 133) jIQ_161_132 rfl rfl rfl ?_
  refine jT_xgetf (a := 1) (t := 2) (ci := 4) (fi := 0) (c := (4, [(4, 13), (1, 1)], [])) (v := (4, 13)) (pcN := 136) jIQ_161_133 rfl rfl rfl rfl rfl rfl rfl ?_
  refine jT_xiload (v := (0, 4)) (pcN := 138) jIQ_161_136 rfl rfl rfl ?_
  refine jT_lald (x := 0) (a := 13) (j := 4) (fs := []) (X := [0, 0, 0, 0, 0, 0]) jIQ_161_138 rfl rfl rfl rfl ?_
  refine jT_eq (LN := [(7, (0, 4)), (5, (1, q1)), (0, (4, 0)), (1, (0, r7)), (2, (0, r8)), (3, (4, 1)), (4, (0, o4))]) (stN := [(1, 0), (0, 4), (4, 9)]) (hsN := [jzQ_16, (4, [(4, 13), (1, 1)], []), (8, [(4, 14), (4, 15)], []), jgh, jgh, jgh, jgh, jgh, jgh, (101, [], [q1, -r7, -r8, 0, 0, 0]), (101, [], [k9_0, k9_1, k9_2, k9_3, k9_4, k9_5]), jgh, jgh, (101, [], [0, 0, 0, 0, 0, 0]), jgh, jgh]) rfl rfl rfl ?_
  refine jT_xaload_n (v := (4, 0)) (pcN := 140) jIQ_161_139 rfl rfl rfl ?_
  refine jT_xgetf (a := 0) (t := 1) (ci := 13) (fi := 7) (c := jzQ_16) (v := (4, 9)) (pcN := 143) jIQ_161_140 rfl rfl rfl rfl rfl rfl rfl ?_
  refine jT_xiload (v := (0, 4)) (pcN := 145) jIQ_161_143 rfl rfl rfl ?_
  refine jT_lald (x := 0) (a := 9) (j := 4) (fs := []) (X := [q1, -r7, -r8, 0, 0, 0]) jIQ_161_145 rfl rfl rfl rfl ?_
  refine jT_eq (LN := [(7, (0, 4)), (5, (1, q1)), (0, (4, 0)), (1, (0, r7)), (2, (0, r8)), (3, (4, 1)), (4, (0, o4))]) (stN := [(1, 0), (1, 0), (0, 4), (4, 9)]) (hsN := [jzQ_16, (4, [(4, 13), (1, 1)], []), (8, [(4, 14), (4, 15)], []), jgh, jgh, jgh, jgh, jgh, jgh, (101, [], [q1, -r7, -r8, 0, 0, 0]), (101, [], [k9_0, k9_1, k9_2, k9_3, k9_4, k9_5]), jgh, jgh, (101, [], [0, 0, 0, 0, 0, 0]), jgh, jgh]) rfl rfl rfl ?_
  refine jT_xaload_n (v := (4, 1)) (pcN := 147) jIQ_161_146 rfl rfl rfl ?_
  refine jT_xgetf (a := 1) (t := 2) (ci := 4) (fi := 1) (c := (4, [(4, 13), (1, 1)], [])) (v := (1, 1)) (pcN := 150) jIQ_161_147 rfl rfl rfl rfl rfl rfl rfl ?_
  refine jT_xlmul (x := 0) (y := 1) (z := 0) (pcN := 151) jIQ_161_150 rfl (by decide) rfl ?_
  refine jT_xlsub (x := 0) (y := 0) (z := 0) (pcN := 152) jIQ_161_151 rfl (by decide) rfl ?_
  refine jT_adv 1 (pcN := 153) (LN := [(7, (0, 4)), (5, (1, q1)), (0, (4, 0)), (1, (0, r7)), (2, (0, r8)), (3, (4, 1)), (4, (0, o4))]) (stN := []) (hsN := [jzQ_16, (4, [(4, 13), (1, 1)], []), (8, [(4, 14), (4, 15)], []), jgh, jgh, jgh, jgh, jgh, jgh, (101, [], [q1, -r7, -r8, 0, 0, 0]), (101, [], [k9_0, k9_1, k9_2, k9_3, k9_4, k9_5]), jgh, jgh, (101, [], [0, 0, 0, 0, 0, 0]), jgh, jgh]) (c1 := 0) (s1 := 0) (c2 := 0) (s2 := 0) (by exact rfl) ?_ (by omega) (by omega)
  refine jT_xiinc (x := 4) (z := 5) (LN := [(7, (0, 5)), (5, (1, q1)), (0, (4, 0)), (1, (0, r7)), (2, (0, r8)), (3, (4, 1)), (4, (0, o4))]) (pcN := 156) jIQ_161_153 rfl rfl (by decide) rfl rfl ?_
  refine jT_xgoto (pcN := 119) jIQ_161_156 rfl ?_
  refine jT_xiload (v := (0, 5)) (pcN := 121) jIQ_161_119 rfl rfl rfl ?_
  refine jT_xbipush (k := 6) (pcN := 123) jIQ_161_121 (by decide) rfl ?_
  refine jT_xicF (t := 159) (pcN := 126) jIQ_161_123 rfl (by decide +kernel) rfl rfl ?_
  refine jT_xaload_n (v := (4, 0)) (pcN := 127) jIQ_161_126 rfl rfl rfl ?_
  refine jT_xgetf (a := 0) (t := 1) (ci := 13) (fi := 7) (c := jzQ_16) (v := (4, 9)) (pcN := 130) jIQ_161_127 rfl rfl rfl rfl rfl rfl rfl ?_
  refine jT_xiload (v := (0, 5)) (pcN := 132) jIQ_161_130 rfl rfl rfl ?_
  refine jT_xaload_n (v := (4, 1)) (pcN := 133) jIQ_161_132 rfl rfl rfl ?_
  refine jT_xgetf (a := 1) (t := 2) (ci := 4) (fi := 0) (c := (4, [(4, 13), (1, 1)], [])) (v := (4, 13)) (pcN := 136) jIQ_161_133 rfl rfl rfl rfl rfl rfl rfl ?_
  refine jT_xiload (v := (0, 5)) (pcN := 138) jIQ_161_136 rfl rfl rfl ?_
  refine jT_lald (x := 0) (a := 13) (j := 5) (fs := []) (X := [0, 0, 0, 0, 0, 0]) jIQ_161_138 rfl rfl rfl rfl ?_
  refine jT_eq (LN := [(7, (0, 5)), (5, (1, q1)), (0, (4, 0)), (1, (0, r7)), (2, (0, r8)), (3, (4, 1)), (4, (0, o4))]) (stN := [(1, 0), (0, 5), (4, 9)]) (hsN := [jzQ_16, (4, [(4, 13), (1, 1)], []), (8, [(4, 14), (4, 15)], []), jgh, jgh, jgh, jgh, jgh, jgh, (101, [], [q1, -r7, -r8, 0, 0, 0]), (101, [], [k9_0, k9_1, k9_2, k9_3, k9_4, k9_5]), jgh, jgh, (101, [], [0, 0, 0, 0, 0, 0]), jgh, jgh]) rfl rfl rfl ?_
  refine jT_xaload_n (v := (4, 0)) (pcN := 140) jIQ_161_139 rfl rfl rfl ?_
  refine jT_xgetf (a := 0) (t := 1) (ci := 13) (fi := 7) (c := jzQ_16) (v := (4, 9)) (pcN := 143) jIQ_161_140 rfl rfl rfl rfl rfl rfl rfl ?_
  refine jT_xiload (v := (0, 5)) (pcN := 145) jIQ_161_143 rfl rfl rfl ?_
  refine jT_lald (x := 0) (a := 9) (j := 5) (fs := []) (X := [q1, -r7, -r8, 0, 0, 0]) jIQ_161_145 rfl rfl rfl rfl ?_
  refine jT_eq (LN := [(7, (0, 5)), (5, (1, q1)), (0, (4, 0)), (1, (0, r7)), (2, (0, r8)), (3, (4, 1)), (4, (0, o4))]) (stN := [(1, 0), (1, 0), (0, 5), (4, 9)]) (hsN := [jzQ_16, (4, [(4, 13), (1, 1)], []), (8, [(4, 14), (4, 15)], []), jgh, jgh, jgh, jgh, jgh, jgh, (101, [], [q1, -r7, -r8, 0, 0, 0]), (101, [], [k9_0, k9_1, k9_2, k9_3, k9_4, k9_5]), jgh, jgh, (101, [], [0, 0, 0, 0, 0, 0]), jgh, jgh]) rfl rfl rfl ?_
  refine jT_xaload_n (v := (4, 1)) (pcN := 147) jIQ_161_146 rfl rfl rfl ?_
  refine jT_xgetf (a := 1) (t := 2) (ci := 4) (fi := 1) (c := (4, [(4, 13), (1, 1)], [])) (v := (1, 1)) (pcN := 150) jIQ_161_147 rfl rfl rfl rfl rfl rfl rfl ?_
  refine jT_xlmul (x := 0) (y := 1) (z := 0) (pcN := 151) jIQ_161_150 rfl (by decide) rfl ?_
  refine jT_xlsub (x := 0) (y := 0) (z := 0) (pcN := 152) jIQ_161_151 rfl (by decide) rfl ?_
  refine jT_adv 1 (pcN := 153) (LN := [(7, (0, 5)), (5, (1, q1)), (0, (4, 0)), (1, (0, r7)), (2, (0, r8)), (3, (4, 1)), (4, (0, o4))]) (stN := []) (hsN := [jzQ_16, (4, [(4, 13), (1, 1)], []), (8, [(4, 14), (4, 15)], []), jgh, jgh, jgh, jgh, jgh, jgh, (101, [], [q1, -r7, -r8, 0, 0, 0]), (101, [], [k9_0, k9_1, k9_2, k9_3, k9_4, k9_5]), jgh, jgh, (101, [], [0, 0, 0, 0, 0, 0]), jgh, jgh]) (c1 := 0) (s1 := 0) (c2 := 0) (s2 := 0) (by exact rfl) ?_ (by omega) (by omega)
  refine jT_xiinc (x := 5) (z := 6) (LN := [(7, (0, 6)), (5, (1, q1)), (0, (4, 0)), (1, (0, r7)), (2, (0, r8)), (3, (4, 1)), (4, (0, o4))]) (pcN := 156) jIQ_161_153 rfl rfl (by decide) rfl rfl ?_
  refine jT_xgoto (pcN := 119) jIQ_161_156 rfl ?_
  refine jT_xiload (v := (0, 6)) (pcN := 121) jIQ_161_119 rfl rfl rfl ?_
  refine jT_xbipush (k := 6) (pcN := 123) jIQ_161_121 (by decide) rfl ?_
  refine jT_xicT (pcN := 159) jIQ_161_123 rfl (by decide +kernel) rfl ?_
  refine jT_xaload_n (v := (4, 0)) (pcN := 160) jIQ_161_159 rfl rfl rfl ?_
  refine jT_xgetf (a := 0) (t := 1) (ci := 13) (fi := 0) (c := jzQ_16) (v := (4, 2)) (pcN := 163) jIQ_161_160 rfl rfl rfl rfl rfl rfl rfl ?_
  refine jT_xaload_n (v := (4, 0)) (pcN := 164) jIQ_161_163 rfl rfl rfl ?_
  refine jT_xgetf (a := 0) (t := 1) (ci := 13) (fi := 7) (c := jzQ_16) (v := (4, 9)) (pcN := 167) jIQ_161_164 rfl rfl rfl rfl rfl rfl rfl ?_
  refine jT_callA [2, 9, 14, 15] (y := 38) (pcN := 170) (dC := 1) (bc1 := 0) (bc2 := 0) (c1 := 0) (c2 := 0) (as := [(4, 2), (4, 9)]) (asC := [(4, 0), (4, 1)]) (LN := [(7, (0, 6)), (5, (1, q1)), (0, (4, 0)), (1, (0, r7)), (2, (0, r8)), (3, (4, 1)), (4, (0, o4))]) (stN := []) (hsC := [(8, [(4, 2), (4, 3)], []), (101, [], [q1, -r7, -r8, 0, 0, 0]), jgh, jgh]) (ex := []) (v := (0, (-1))) (st2 := [(0, (-1))]) (hs2 := [jzQ_16, (4, [(4, 13), (1, 1)], []), (8, [(4, 14), (4, 15)], []), jgh, jgh, jgh, jgh, jgh, jgh, (101, [], [q1, -r7, -r8, 0, 0, 0]), (101, [], [k9_0, k9_1, k9_2, k9_3, k9_4, k9_5]), jgh, jgh, (101, [], [0, 0, 0, 0, 0, 0]), jgh, jgh]) (jQl_sp38_117 (d := 0) (by omega) (by omega) (by omega) (by omega) (by omega) (by omega) (by omega)) (by rfl) (by rfl) (by rfl) (by rfl) ⟨rfl, rfl, rfl, rfl, trivial⟩ (by rfl) (by rfl) (by omega) (by show 16 ≤ 16; omega) (by omega) (by omega) rfl rfl ?_
  refine jT_xifT (pcN := 177) jIQ_161_170 rfl (by decide +kernel) rfl ?_
  refine jT_xiconst (k := 0) (pcN := 178) jIQ_161_177 rfl ?_
  subst hq_q4
  subst hq_q3
  subst hq_q2
  subst hq_q1
  exact jT_ret rfl (by decide) (by show 16 ≤ 16; omega) (by omega) (by omega) ⟨rfl, rfl, rfl⟩
theorem jQ_161_242 {xs : List Int} {d : Nat} {k9_0 k9_1 k9_2 k9_3 k9_4 k9_5 o4 r7 r8 u8_0 u8_1 u8_2 u8_3 u8_4 u8_5 : Int} (h_k9_0 : 1 ≤ k9_0 ∧ k9_0 ≤ 100) (h_k9_1 : 2 ≤ k9_1 ∧ k9_1 ≤ 158) (h_k9_2 : 2 ≤ k9_2 ∧ k9_2 ≤ 232) (h_k9_3 : 3 ≤ k9_3 ∧ k9_3 ≤ 281) (h_k9_4 : 3 ≤ k9_4 ∧ k9_4 ≤ 346) (h_k9_5 : 4 ≤ k9_5 ∧ k9_5 ≤ 370) (h_o4 : 1 ≤ o4 ∧ o4 ≤ 100) (h_r7 : (-20) ≤ r7 ∧ r7 ≤ 20) (h_r8 : (-10) ≤ r8 ∧ r8 ≤ 10) (g_0 : 0 ≤ r7) (g_1 : r7 ≤ 0) (g_2 : r8 < 0) (g_3 : 0 ≤ -(((108917793695 * r7 + 159561683699 * r8) / 68719476736) * o4) + (r7 * k9_1) + (r8 * k9_2) - 1) : jT xs (d + 2) 161 15 0 [(0, (4, 0)), (1, (0, r7)), (2, (0, r8)), (3, (4, 1)), (4, (0, o4))] [] [jzQ_16, jgh, (8, [(4, 13), (4, 14)], []), jgh, jgh, jgh, jgh, jgh, jgh, (101, [], [u8_0, u8_1, u8_2, u8_3, u8_4, u8_5]), (101, [], [k9_0, k9_1, k9_2, k9_3, k9_4, k9_5]), jgh, jgh, jgh, jgh] 0 0 (fun k v hsN => k = 0 ∧ v = (0, 0) ∧ hsN = [jzQ_16, jgh, (8, [(4, 13), (4, 14)], []), jgh, jgh, jgh, jgh, jgh, jgh, (101, [], [0, r7, r8, 0, 0, 0]), (101, [], [k9_0, k9_1, k9_2, k9_3, k9_4, k9_5]), jgh, jgh, jgh, jgh]) := by
  refine jT_xiload_n (v := (0, r7)) (pcN := 1) jIQ_161_0 rfl rfl rfl ?_
  refine jT_ifF (a := r7) (t := 10) (by rfl) (by rfl) (by rfl) (jw_idd (by omega) (by omega)) (by simp only [jcP] <;> omega) ?_
  refine jT_xiload_n (v := (0, r8)) (pcN := 5) jIQ_161_4 rfl rfl rfl ?_
  refine jT_ifT (a := r8) (t := 10) (by rfl) (by rfl) (by rfl) (jw_idd (by omega) (by omega)) (by simp only [jcP] <;> omega) ?_
  refine jT_xiconst (k := 0) (pcN := 11) jIQ_161_10 rfl ?_
  refine jT_xistore (v := (0, 0)) (LN := [(5, (0, 0)), (0, (4, 0)), (1, (0, r7)), (2, (0, r8)), (3, (4, 1)), (4, (0, o4))]) (pcN := 13) jIQ_161_11 rfl rfl rfl rfl ?_
  refine jT_xiload (v := (0, 0)) (pcN := 15) jIQ_161_13 rfl rfl rfl ?_
  refine jT_xbipush (k := 6) (pcN := 17) jIQ_161_15 (by decide) rfl ?_
  refine jT_xicF (t := 56) (pcN := 20) jIQ_161_17 rfl (by decide +kernel) rfl rfl ?_
  refine jT_xaload_n (v := (4, 0)) (pcN := 21) jIQ_161_20 rfl rfl rfl ?_
  refine jT_xgetf (a := 0) (t := 1) (ci := 13) (fi := 7) (c := jzQ_16) (v := (4, 9)) (pcN := 24) jIQ_161_21 rfl rfl rfl rfl rfl rfl rfl ?_
  refine jT_xiload (v := (0, 0)) (pcN := 26) jIQ_161_24 rfl rfl rfl ?_
  refine jT_xiload (v := (0, 0)) (pcN := 28) jIQ_161_26 rfl rfl rfl ?_
  refine jT_xiconst (k := 1) (pcN := 29) jIQ_161_28 rfl ?_
  refine jT_xicT (pcN := 37) jIQ_161_29 rfl (by decide +kernel) rfl ?_
  refine jT_xiload (v := (0, 0)) (pcN := 39) jIQ_161_37 rfl rfl rfl ?_
  refine jT_xiconst (k := 2) (pcN := 40) jIQ_161_39 rfl ?_
  refine jT_xicT (pcN := 48) jIQ_161_40 rfl (by decide +kernel) rfl ?_
  refine jT_xlconst (z := 0) (pcN := 49) jIQ_161_48 rfl rfl ?_
  refine jT_adv 1 (pcN := 50) (LN := [(5, (0, 0)), (0, (4, 0)), (1, (0, r7)), (2, (0, r8)), (3, (4, 1)), (4, (0, o4))]) (stN := []) (hsN := [jzQ_16, jgh, (8, [(4, 13), (4, 14)], []), jgh, jgh, jgh, jgh, jgh, jgh, (101, [], [0, u8_1, u8_2, u8_3, u8_4, u8_5]), (101, [], [k9_0, k9_1, k9_2, k9_3, k9_4, k9_5]), jgh, jgh, jgh, jgh]) (c1 := 0) (s1 := 0) (c2 := 0) (s2 := 0) (by exact rfl) ?_ (by omega) (by omega)
  refine jT_xiinc (x := 0) (z := 1) (LN := [(5, (0, 1)), (0, (4, 0)), (1, (0, r7)), (2, (0, r8)), (3, (4, 1)), (4, (0, o4))]) (pcN := 53) jIQ_161_50 rfl rfl (by decide) rfl rfl ?_
  refine jT_xgoto (pcN := 13) jIQ_161_53 rfl ?_
  refine jT_xiload (v := (0, 1)) (pcN := 15) jIQ_161_13 rfl rfl rfl ?_
  refine jT_xbipush (k := 6) (pcN := 17) jIQ_161_15 (by decide) rfl ?_
  refine jT_xicF (t := 56) (pcN := 20) jIQ_161_17 rfl (by decide +kernel) rfl rfl ?_
  refine jT_xaload_n (v := (4, 0)) (pcN := 21) jIQ_161_20 rfl rfl rfl ?_
  refine jT_xgetf (a := 0) (t := 1) (ci := 13) (fi := 7) (c := jzQ_16) (v := (4, 9)) (pcN := 24) jIQ_161_21 rfl rfl rfl rfl rfl rfl rfl ?_
  refine jT_xiload (v := (0, 1)) (pcN := 26) jIQ_161_24 rfl rfl rfl ?_
  refine jT_xiload (v := (0, 1)) (pcN := 28) jIQ_161_26 rfl rfl rfl ?_
  refine jT_xiconst (k := 1) (pcN := 29) jIQ_161_28 rfl ?_
  refine jT_xicF (t := 37) (pcN := 32) jIQ_161_29 rfl (by decide +kernel) rfl rfl ?_
  refine jT_xiload_n (v := (0, r7)) (pcN := 33) jIQ_161_32 rfl rfl rfl ?_
  refine jT_xi2l (x := r7) (z := r7) (pcN := 34) jIQ_161_33 rfl (jw_idd (by omega) (by omega)) rfl ?_
  refine jT_xgoto (pcN := 49) jIQ_161_34 rfl ?_
  refine jT_adv 1 (pcN := 50) (LN := [(5, (0, 1)), (0, (4, 0)), (1, (0, r7)), (2, (0, r8)), (3, (4, 1)), (4, (0, o4))]) (stN := []) (hsN := [jzQ_16, jgh, (8, [(4, 13), (4, 14)], []), jgh, jgh, jgh, jgh, jgh, jgh, (101, [], [0, r7, u8_2, u8_3, u8_4, u8_5]), (101, [], [k9_0, k9_1, k9_2, k9_3, k9_4, k9_5]), jgh, jgh, jgh, jgh]) (c1 := 0) (s1 := 0) (c2 := 0) (s2 := 0) (by exact rfl) ?_ (by omega) (by omega)
  refine jT_xiinc (x := 1) (z := 2) (LN := [(5, (0, 2)), (0, (4, 0)), (1, (0, r7)), (2, (0, r8)), (3, (4, 1)), (4, (0, o4))]) (pcN := 53) jIQ_161_50 rfl rfl (by decide) rfl rfl ?_
  refine jT_xgoto (pcN := 13) jIQ_161_53 rfl ?_
  refine jT_xiload (v := (0, 2)) (pcN := 15) jIQ_161_13 rfl rfl rfl ?_
  refine jT_xbipush (k := 6) (pcN := 17) jIQ_161_15 (by decide) rfl ?_
  refine jT_xicF (t := 56) (pcN := 20) jIQ_161_17 rfl (by decide +kernel) rfl rfl ?_
  refine jT_xaload_n (v := (4, 0)) (pcN := 21) jIQ_161_20 rfl rfl rfl ?_
  refine jT_xgetf (a := 0) (t := 1) (ci := 13) (fi := 7) (c := jzQ_16) (v := (4, 9)) (pcN := 24) jIQ_161_21 rfl rfl rfl rfl rfl rfl rfl ?_
  refine jT_xiload (v := (0, 2)) (pcN := 26) jIQ_161_24 rfl rfl rfl ?_
  refine jT_xiload (v := (0, 2)) (pcN := 28) jIQ_161_26 rfl rfl rfl ?_
  refine jT_xiconst (k := 1) (pcN := 29) jIQ_161_28 rfl ?_
  refine jT_xicT (pcN := 37) jIQ_161_29 rfl (by decide +kernel) rfl ?_
  refine jT_xiload (v := (0, 2)) (pcN := 39) jIQ_161_37 rfl rfl rfl ?_
  refine jT_xiconst (k := 2) (pcN := 40) jIQ_161_39 rfl ?_
  refine jT_xicF (t := 48) (pcN := 43) jIQ_161_40 rfl (by decide +kernel) rfl rfl ?_
  refine jT_xiload_n (v := (0, r8)) (pcN := 44) jIQ_161_43 rfl rfl rfl ?_
  refine jT_xi2l (x := r8) (z := r8) (pcN := 45) jIQ_161_44 rfl (jw_idd (by omega) (by omega)) rfl ?_
  refine jT_xgoto (pcN := 49) jIQ_161_45 rfl ?_
  refine jT_adv 1 (pcN := 50) (LN := [(5, (0, 2)), (0, (4, 0)), (1, (0, r7)), (2, (0, r8)), (3, (4, 1)), (4, (0, o4))]) (stN := []) (hsN := [jzQ_16, jgh, (8, [(4, 13), (4, 14)], []), jgh, jgh, jgh, jgh, jgh, jgh, (101, [], [0, r7, r8, u8_3, u8_4, u8_5]), (101, [], [k9_0, k9_1, k9_2, k9_3, k9_4, k9_5]), jgh, jgh, jgh, jgh]) (c1 := 0) (s1 := 0) (c2 := 0) (s2 := 0) (by exact rfl) ?_ (by omega) (by omega)
  refine jT_xiinc (x := 2) (z := 3) (LN := [(5, (0, 3)), (0, (4, 0)), (1, (0, r7)), (2, (0, r8)), (3, (4, 1)), (4, (0, o4))]) (pcN := 53) jIQ_161_50 rfl rfl (by decide) rfl rfl ?_
  refine jT_xgoto (pcN := 13) jIQ_161_53 rfl ?_
  refine jT_xiload (v := (0, 3)) (pcN := 15) jIQ_161_13 rfl rfl rfl ?_
  refine jT_xbipush (k := 6) (pcN := 17) jIQ_161_15 (by decide) rfl ?_
  refine jT_xicF (t := 56) (pcN := 20) jIQ_161_17 rfl (by decide +kernel) rfl rfl ?_
  refine jT_xaload_n (v := (4, 0)) (pcN := 21) jIQ_161_20 rfl rfl rfl ?_
  refine jT_xgetf (a := 0) (t := 1) (ci := 13) (fi := 7) (c := jzQ_16) (v := (4, 9)) (pcN := 24) jIQ_161_21 rfl rfl rfl rfl rfl rfl rfl ?_
  refine jT_xiload (v := (0, 3)) (pcN := 26) jIQ_161_24 rfl rfl rfl ?_
  refine jT_xiload (v := (0, 3)) (pcN := 28) jIQ_161_26 rfl rfl rfl ?_
  refine jT_xiconst (k := 1) (pcN := 29) jIQ_161_28 rfl ?_
  refine jT_xicT (pcN := 37) jIQ_161_29 rfl (by decide +kernel) rfl ?_
  refine jT_xiload (v := (0, 3)) (pcN := 39) jIQ_161_37 rfl rfl rfl ?_
  refine jT_xiconst (k := 2) (pcN := 40) jIQ_161_39 rfl ?_
  refine jT_xicT (pcN := 48) jIQ_161_40 rfl (by decide +kernel) rfl ?_
  refine jT_xlconst (z := 0) (pcN := 49) jIQ_161_48 rfl rfl ?_
  refine jT_adv 1 (pcN := 50) (LN := [(5, (0, 3)), (0, (4, 0)), (1, (0, r7)), (2, (0, r8)), (3, (4, 1)), (4, (0, o4))]) (stN := []) (hsN := [jzQ_16, jgh, (8, [(4, 13), (4, 14)], []), jgh, jgh, jgh, jgh, jgh, jgh, (101, [], [0, r7, r8, 0, u8_4, u8_5]), (101, [], [k9_0, k9_1, k9_2, k9_3, k9_4, k9_5]), jgh, jgh, jgh, jgh]) (c1 := 0) (s1 := 0) (c2 := 0) (s2 := 0) (by exact rfl) ?_ (by omega) (by omega)
  refine jT_xiinc (x := 3) (z := 4) (LN := [(5, (0, 4)), (0, (4, 0)), (1, (0, r7)), (2, (0, r8)), (3, (4, 1)), (4, (0, o4))]) (pcN := 53) jIQ_161_50 rfl rfl (by decide) rfl rfl ?_
  refine jT_xgoto (pcN := 13) jIQ_161_53 rfl ?_
  refine jT_xiload (v := (0, 4)) (pcN := 15) jIQ_161_13 rfl rfl rfl ?_
  refine jT_xbipush (k := 6) (pcN := 17) jIQ_161_15 (by decide) rfl ?_
  refine jT_xicF (t := 56) (pcN := 20) jIQ_161_17 rfl (by decide +kernel) rfl rfl ?_
  refine jT_xaload_n (v := (4, 0)) (pcN := 21) jIQ_161_20 rfl rfl rfl ?_
  refine jT_xgetf (a := 0) (t := 1) (ci := 13) (fi := 7) (c := jzQ_16) (v := (4, 9)) (pcN := 24) jIQ_161_21 rfl rfl rfl rfl rfl rfl rfl ?_
  refine jT_xiload (v := (0, 4)) (pcN := 26) jIQ_161_24 rfl rfl rfl ?_
  refine jT_xiload (v := (0, 4)) (pcN := 28) jIQ_161_26 rfl rfl rfl ?_
  refine jT_xiconst (k := 1) (pcN := 29) jIQ_161_28 rfl ?_
  refine jT_xicT (pcN := 37) jIQ_161_29 rfl (by decide +kernel) rfl ?_
  refine jT_xiload (v := (0, 4)) (pcN := 39) jIQ_161_37 rfl rfl rfl ?_
  refine jT_xiconst (k := 2) (pcN := 40) jIQ_161_39 rfl ?_
  refine jT_xicT (pcN := 48) jIQ_161_40 rfl (by decide +kernel) rfl ?_
  refine jT_xlconst (z := 0) (pcN := 49) jIQ_161_48 rfl rfl ?_
  refine jT_adv 1 (pcN := 50) (LN := [(5, (0, 4)), (0, (4, 0)), (1, (0, r7)), (2, (0, r8)), (3, (4, 1)), (4, (0, o4))]) (stN := []) (hsN := [jzQ_16, jgh, (8, [(4, 13), (4, 14)], []), jgh, jgh, jgh, jgh, jgh, jgh, (101, [], [0, r7, r8, 0, 0, u8_5]), (101, [], [k9_0, k9_1, k9_2, k9_3, k9_4, k9_5]), jgh, jgh, jgh, jgh]) (c1 := 0) (s1 := 0) (c2 := 0) (s2 := 0) (by exact rfl) ?_ (by omega) (by omega)
  refine jT_xiinc (x := 4) (z := 5) (LN := [(5, (0, 5)), (0, (4, 0)), (1, (0, r7)), (2, (0, r8)), (3, (4, 1)), (4, (0, o4))]) (pcN := 53) jIQ_161_50 rfl rfl (by decide) rfl rfl ?_
  refine jT_xgoto (pcN := 13) jIQ_161_53 rfl ?_
  refine jT_xiload (v := (0, 5)) (pcN := 15) jIQ_161_13 rfl rfl rfl ?_
  refine jT_xbipush (k := 6) (pcN := 17) jIQ_161_15 (by decide) rfl ?_
  refine jT_xicF (t := 56) (pcN := 20) jIQ_161_17 rfl (by decide +kernel) rfl rfl ?_
  refine jT_xaload_n (v := (4, 0)) (pcN := 21) jIQ_161_20 rfl rfl rfl ?_
  refine jT_xgetf (a := 0) (t := 1) (ci := 13) (fi := 7) (c := jzQ_16) (v := (4, 9)) (pcN := 24) jIQ_161_21 rfl rfl rfl rfl rfl rfl rfl ?_
  refine jT_xiload (v := (0, 5)) (pcN := 26) jIQ_161_24 rfl rfl rfl ?_
  refine jT_xiload (v := (0, 5)) (pcN := 28) jIQ_161_26 rfl rfl rfl ?_
  refine jT_xiconst (k := 1) (pcN := 29) jIQ_161_28 rfl ?_
  refine jT_xicT (pcN := 37) jIQ_161_29 rfl (by decide +kernel) rfl ?_
  refine jT_xiload (v := (0, 5)) (pcN := 39) jIQ_161_37 rfl rfl rfl ?_
  refine jT_xiconst (k := 2) (pcN := 40) jIQ_161_39 rfl ?_
  refine jT_xicT (pcN := 48) jIQ_161_40 rfl (by decide +kernel) rfl ?_
  refine jT_xlconst (z := 0) (pcN := 49) jIQ_161_48 rfl rfl ?_
  refine jT_adv 1 (pcN := 50) (LN := [(5, (0, 5)), (0, (4, 0)), (1, (0, r7)), (2, (0, r8)), (3, (4, 1)), (4, (0, o4))]) (stN := []) (hsN := [jzQ_16, jgh, (8, [(4, 13), (4, 14)], []), jgh, jgh, jgh, jgh, jgh, jgh, (101, [], [0, r7, r8, 0, 0, 0]), (101, [], [k9_0, k9_1, k9_2, k9_3, k9_4, k9_5]), jgh, jgh, jgh, jgh]) (c1 := 0) (s1 := 0) (c2 := 0) (s2 := 0) (by exact rfl) ?_ (by omega) (by omega)
  refine jT_xiinc (x := 5) (z := 6) (LN := [(5, (0, 6)), (0, (4, 0)), (1, (0, r7)), (2, (0, r8)), (3, (4, 1)), (4, (0, o4))]) (pcN := 53) jIQ_161_50 rfl rfl (by decide) rfl rfl ?_
  refine jT_xgoto (pcN := 13) jIQ_161_53 rfl ?_
  refine jT_xiload (v := (0, 6)) (pcN := 15) jIQ_161_13 rfl rfl rfl ?_
  refine jT_xbipush (k := 6) (pcN := 17) jIQ_161_15 (by decide) rfl ?_
  refine jT_xicT (pcN := 56) jIQ_161_17 rfl (by decide +kernel) rfl ?_
  refine jT_xaload_n (v := (4, 0)) (pcN := 57) jIQ_161_56 rfl rfl rfl ?_
  refine jT_xgetf (a := 0) (t := 1) (ci := 13) (fi := 0) (c := jzQ_16) (v := (4, 2)) (pcN := 60) jIQ_161_57 rfl rfl rfl rfl rfl rfl rfl ?_
  refine jT_xaload_n (v := (4, 0)) (pcN := 61) jIQ_161_60 rfl rfl rfl ?_
  refine jT_xgetf (a := 0) (t := 1) (ci := 13) (fi := 7) (c := jzQ_16) (v := (4, 9)) (pcN := 64) jIQ_161_61 rfl rfl rfl rfl rfl rfl rfl ?_
  refine jT_xlconst (z := 1) (pcN := 65) jIQ_161_64 rfl rfl ?_
  refine jT_xlconst (z := 1) (pcN := 66) jIQ_161_65 rfl rfl ?_
  refine jT_callA [2, 9, 13, 14] (y := 45) (pcN := 69) (dC := 1) (bc1 := 0) (bc2 := 0) (c1 := 0) (c2 := 0) (as := [(4, 2), (4, 9), (1, 1), (1, 1)]) (asC := [(4, 0), (4, 1), (1, 1), (1, 1)]) (LN := [(5, (0, 6)), (0, (4, 0)), (1, (0, r7)), (2, (0, r8)), (3, (4, 1)), (4, (0, o4))]) (stN := []) (hsC := [(8, [(4, 2), (4, 3)], []), (101, [], [0, r7, r8, 0, 0, 0]), jgh, jgh]) (ex := []) (v := (1, (108917793695 * r7 + 159561683699 * r8) / 68719476736)) (st2 := [(1, (108917793695 * r7 + 159561683699 * r8) / 68719476736)]) (hs2 := [jzQ_16, jgh, (8, [(4, 13), (4, 14)], []), jgh, jgh, jgh, jgh, jgh, jgh, (101, [], [0, r7, r8, 0, 0, 0]), (101, [], [k9_0, k9_1, k9_2, k9_3, k9_4, k9_5]), jgh, jgh, jgh, jgh]) (jQl_sp45_116 (d := 0) (by omega) (by omega)) (by rfl) (by rfl) (by rfl) (by rfl) ⟨rfl, rfl, rfl, rfl, trivial⟩ (by rfl) (by rfl) (by omega) (by show 15 ≤ 15; omega) (by omega) (by omega) rfl rfl ?_
  have hb_q1 : (-60) ≤ (108917793695 * r7 + 159561683699 * r8) / 68719476736 ∧ (108917793695 * r7 + 159561683699 * r8) / 68719476736 ≤ 60 := ⟨by omega, by omega⟩
  generalize hq_q1 : (108917793695 * r7 + 159561683699 * r8) / 68719476736 = q1 at hb_q1 g_3 ⊢
  refine jT_xlstore (v := (1, q1)) (LN := [(5, (1, q1)), (0, (4, 0)), (1, (0, r7)), (2, (0, r8)), (3, (4, 1)), (4, (0, o4))]) (pcN := 71) jIQ_161_69 rfl rfl rfl rfl ?_
  have g_4 : 0 ≤ (-68719476736) * q1 + 108917793694 * r7 + 159561683698 * r8 - 1 := by have := jcg (b := r7) (c := r8) (by omega) (by omega) (by omega); rw [hq_q1] at this; omega
  have g_5 : 0 ≤ (-68719476736) * q1 + 108917793694 * r7 + 159561683700 * r8 - 1 := by have := jcg (b := r7) (c := r8) (by omega) (by omega) (by omega); rw [hq_q1] at this; omega
  have g_6 : 0 ≤ (-68719476736) * q1 + 108917793696 * r7 + 159561683698 * r8 - 1 := by have := jcg (b := r7) (c := r8) (by omega) (by omega) (by omega); rw [hq_q1] at this; omega
  have g_7 : 0 ≤ (-68719476736) * q1 + 108917793696 * r7 + 159561683700 * r8 - 1 := by have := jcg (b := r7) (c := r8) (by omega) (by omega) (by omega); rw [hq_q1] at this; omega
  refine jT_xiload (v := (0, o4)) (pcN := 73) jIQ_161_71 rfl rfl rfl ?_
  refine jT_ifF (a := o4) (t := 107) (by rfl) (by rfl) (by rfl) (jw_idd (by omega) (by omega)) (by simp only [jcP] <;> omega) ?_
  refine jT_xiload_n (v := (0, r7)) (pcN := 77) jIQ_161_76 rfl rfl rfl ?_
  refine jT_xi2l (x := r7) (z := r7) (pcN := 78) jIQ_161_77 rfl (jw_idd (by omega) (by omega)) rfl ?_
  refine jT_xaload_n (v := (4, 0)) (pcN := 79) jIQ_161_78 rfl rfl rfl ?_
  refine jT_xgetf (a := 0) (t := 1) (ci := 13) (fi := 8) (c := jzQ_16) (v := (4, 10)) (pcN := 82) jIQ_161_79 rfl rfl rfl rfl rfl rfl rfl ?_
  refine jT_xiconst (k := 1) (pcN := 83) jIQ_161_82 rfl ?_
  refine jT_lald (x := k9_1) (a := 10) (j := 1) (fs := []) (X := [k9_0, k9_1, k9_2, k9_3, k9_4, k9_5]) jIQ_161_83 rfl rfl rfl rfl ?_
  refine jT_eq (LN := [(5, (1, q1)), (0, (4, 0)), (1, (0, r7)), (2, (0, r8)), (3, (4, 1)), (4, (0, o4))]) (stN := [(1, k9_1), (1, r7)]) (hsN := [jzQ_16, jgh, (8, [(4, 13), (4, 14)], []), jgh, jgh, jgh, jgh, jgh, jgh, (101, [], [0, r7, r8, 0, 0, 0]), (101, [], [k9_0, k9_1, k9_2, k9_3, k9_4, k9_5]), jgh, jgh, jgh, jgh]) rfl rfl rfl ?_
  refine jT_xlmul (x := r7) (y := k9_1) (z := r7 * k9_1) (pcN := 85) jIQ_161_84 rfl rfl rfl ?_
  have hb_q2 := jmul_b (x := r7) (y := k9_1) (m := 20) (n := 158) (by omega) (by omega) (by omega) (by omega)
  have hb_q2 : 0 ≤ r7 * k9_1 ∧ r7 * k9_1 ≤ 3160 := ⟨hb_q2.1, by omega⟩
  generalize hq_q2 : r7 * k9_1 = q2 at hb_q2 g_3 ⊢
  refine jT_xiload_n (v := (0, r8)) (pcN := 86) jIQ_161_85 rfl rfl rfl ?_
  refine jT_xi2l (x := r8) (z := r8) (pcN := 87) jIQ_161_86 rfl (jw_idd (by omega) (by omega)) rfl ?_
  refine jT_xaload_n (v := (4, 0)) (pcN := 88) jIQ_161_87 rfl rfl rfl ?_
  refine jT_xgetf (a := 0) (t := 1) (ci := 13) (fi := 8) (c := jzQ_16) (v := (4, 10)) (pcN := 91) jIQ_161_88 rfl rfl rfl rfl rfl rfl rfl ?_
  refine jT_xiconst (k := 2) (pcN := 92) jIQ_161_91 rfl ?_
  refine jT_lald (x := k9_2) (a := 10) (j := 2) (fs := []) (X := [k9_0, k9_1, k9_2, k9_3, k9_4, k9_5]) jIQ_161_92 rfl rfl rfl rfl ?_
  refine jT_eq (LN := [(5, (1, q1)), (0, (4, 0)), (1, (0, r7)), (2, (0, r8)), (3, (4, 1)), (4, (0, o4))]) (stN := [(1, k9_2), (1, r8), (1, q2)]) (hsN := [jzQ_16, jgh, (8, [(4, 13), (4, 14)], []), jgh, jgh, jgh, jgh, jgh, jgh, (101, [], [0, r7, r8, 0, 0, 0]), (101, [], [k9_0, k9_1, k9_2, k9_3, k9_4, k9_5]), jgh, jgh, jgh, jgh]) rfl rfl rfl ?_
  refine jT_xlmul (x := r8) (y := k9_2) (z := r8 * k9_2) (pcN := 94) jIQ_161_93 rfl rfl rfl ?_
  have hb_q3 := jmul_bs (x := r8) (y := k9_2) (m := 10) (n := 232) (by omega) (by omega) (by omega) (by omega)
  have hb_q3 : (-2320) ≤ r8 * k9_2 ∧ r8 * k9_2 ≤ 2320 := ⟨by omega, by omega⟩
  generalize hq_q3 : r8 * k9_2 = q3 at hb_q3 g_3 ⊢
  refine jT_xladd (x := q2) (y := q3) (z := q2 + q3) (pcN := 95) jIQ_161_94 rfl (rfl) rfl ?_
  refine jT_xlload (v := (1, q1)) (pcN := 97) jIQ_161_95 rfl rfl rfl ?_
  refine jT_xiload (v := (0, o4)) (pcN := 99) jIQ_161_97 rfl rfl rfl ?_
  refine jT_xi2l (x := o4) (z := o4) (pcN := 100) jIQ_161_99 rfl (jw_idd (by omega) (by omega)) rfl ?_
  refine jT_xlmul (x := q1) (y := o4) (z := q1 * o4) (pcN := 101) jIQ_161_100 rfl rfl rfl ?_
  have hb_q4 := jmul_bs (x := q1) (y := o4) (m := 60) (n := 100) (by omega) (by omega) (by omega) (by omega)
  have hb_q4 : (-6000) ≤ q1 * o4 ∧ q1 * o4 ≤ 6000 := ⟨by omega, by omega⟩
  generalize hq_q4 : q1 * o4 = q4 at hb_q4 g_3 ⊢
  refine jT_lcmp (a := q2 + q3) (b := q4) (z := 1) (by rfl) (by rfl) (jwl_idd (by omega) (by omega)) (jwl_idd (by omega) (by omega)) (by rw [decide_eq_true (show (q4 : Int) < q2 + q3 by omega)]; rfl) ?_
  refine jT_xifF (t := 107) (pcN := 105) jIQ_161_102 rfl (by decide +kernel) rfl rfl ?_
  refine jT_xiconst (k := 0) (pcN := 106) jIQ_161_105 rfl ?_
  subst hq_q4
  subst hq_q3
  subst hq_q2
  subst hq_q1
  exact jT_ret rfl (by decide) (by show 15 ≤ 15; omega) (by omega) (by omega) ⟨rfl, rfl, rfl⟩
theorem jQ_161_243 {xs : List Int} {d : Nat} {k9_0 k9_1 k9_2 k9_3 k9_4 k9_5 o4 r7 r8 u8_0 u8_1 u8_2 u8_3 u8_4 u8_5 : Int} (h_k9_0 : 1 ≤ k9_0 ∧ k9_0 ≤ 100) (h_k9_1 : 2 ≤ k9_1 ∧ k9_1 ≤ 158) (h_k9_2 : 2 ≤ k9_2 ∧ k9_2 ≤ 232) (h_k9_3 : 3 ≤ k9_3 ∧ k9_3 ≤ 281) (h_k9_4 : 3 ≤ k9_4 ∧ k9_4 ≤ 346) (h_k9_5 : 4 ≤ k9_5 ∧ k9_5 ≤ 370) (h_o4 : 1 ≤ o4 ∧ o4 ≤ 100) (h_r7 : (-20) ≤ r7 ∧ r7 ≤ 20) (h_r8 : (-10) ≤ r8 ∧ r8 ≤ 10) (g_0 : r7 < 0) (g_1 : -(((108917793695 * r7 + 159561683699 * r8) / 68719476736) * o4) + (r7 * k9_1) + (r8 * k9_2) - 1 < 0) (g_2 : -(((108917793695 * r7 + 159561683699 * r8) / 68719476736) * o4) + (r7 * k9_1) + (r8 * k9_2) < 0) : jT xs (d + 2) 161 15 0 [(0, (4, 0)), (1, (0, r7)), (2, (0, r8)), (3, (4, 1)), (4, (0, o4))] [] [jzQ_16, jgh, (8, [(4, 13), (4, 14)], []), jgh, jgh, jgh, jgh, jgh, jgh, (101, [], [u8_0, u8_1, u8_2, u8_3, u8_4, u8_5]), (101, [], [k9_0, k9_1, k9_2, k9_3, k9_4, k9_5]), jgh, jgh, jgh, jgh] 0 0 (fun k v hsN => k = 0 ∧ v = (0, 0) ∧ hsN = [jzQ_16, jgh, (8, [(4, 13), (4, 14)], []), jgh, jgh, jgh, jgh, jgh, jgh, (101, [], [0, r7, r8, 0, 0, 0]), (101, [], [k9_0, k9_1, k9_2, k9_3, k9_4, k9_5]), jgh, jgh, jgh, jgh]) := by
  refine jT_xiload_n (v := (0, r7)) (pcN := 1) jIQ_161_0 rfl rfl rfl ?_
  refine jT_ifT (a := r7) (t := 10) (by rfl) (by rfl) (by rfl) (jw_idd (by omega) (by omega)) (by simp only [jcP] <;> omega) ?_
  refine jT_xiconst (k := 0) (pcN := 11) jIQ_161_10 rfl ?_
  refine jT_xistore (v := (0, 0)) (LN := [(5, (0, 0)), (0, (4, 0)), (1, (0, r7)), (2, (0, r8)), (3, (4, 1)), (4, (0, o4))]) (pcN := 13) jIQ_161_11 rfl rfl rfl rfl ?_
  refine jT_xiload (v := (0, 0)) (pcN := 15) jIQ_161_13 rfl rfl rfl ?_
  refine jT_xbipush (k := 6) (pcN := 17) jIQ_161_15 (by decide) rfl ?_
  refine jT_xicF (t := 56) (pcN := 20) jIQ_161_17 rfl (by decide +kernel) rfl rfl ?_
  refine jT_xaload_n (v := (4, 0)) (pcN := 21) jIQ_161_20 rfl rfl rfl ?_
  refine jT_xgetf (a := 0) (t := 1) (ci := 13) (fi := 7) (c := jzQ_16) (v := (4, 9)) (pcN := 24) jIQ_161_21 rfl rfl rfl rfl rfl rfl rfl ?_
  refine jT_xiload (v := (0, 0)) (pcN := 26) jIQ_161_24 rfl rfl rfl ?_
  refine jT_xiload (v := (0, 0)) (pcN := 28) jIQ_161_26 rfl rfl rfl ?_
  refine jT_xiconst (k := 1) (pcN := 29) jIQ_161_28 rfl ?_
  refine jT_xicT (pcN := 37) jIQ_161_29 rfl (by decide +kernel) rfl ?_
  refine jT_xiload (v := (0, 0)) (pcN := 39) jIQ_161_37 rfl rfl rfl ?_
  refine jT_xiconst (k := 2) (pcN := 40) jIQ_161_39 rfl ?_
  refine jT_xicT (pcN := 48) jIQ_161_40 rfl (by decide +kernel) rfl ?_
  refine jT_xlconst (z := 0) (pcN := 49) jIQ_161_48 rfl rfl ?_
  refine jT_adv 1 (pcN := 50) (LN := [(5, (0, 0)), (0, (4, 0)), (1, (0, r7)), (2, (0, r8)), (3, (4, 1)), (4, (0, o4))]) (stN := []) (hsN := [jzQ_16, jgh, (8, [(4, 13), (4, 14)], []), jgh, jgh, jgh, jgh, jgh, jgh, (101, [], [0, u8_1, u8_2, u8_3, u8_4, u8_5]), (101, [], [k9_0, k9_1, k9_2, k9_3, k9_4, k9_5]), jgh, jgh, jgh, jgh]) (c1 := 0) (s1 := 0) (c2 := 0) (s2 := 0) (by exact rfl) ?_ (by omega) (by omega)
  refine jT_xiinc (x := 0) (z := 1) (LN := [(5, (0, 1)), (0, (4, 0)), (1, (0, r7)), (2, (0, r8)), (3, (4, 1)), (4, (0, o4))]) (pcN := 53) jIQ_161_50 rfl rfl (by decide) rfl rfl ?_
  refine jT_xgoto (pcN := 13) jIQ_161_53 rfl ?_
  refine jT_xiload (v := (0, 1)) (pcN := 15) jIQ_161_13 rfl rfl rfl ?_
  refine jT_xbipush (k := 6) (pcN := 17) jIQ_161_15 (by decide) rfl ?_
  refine jT_xicF (t := 56) (pcN := 20) jIQ_161_17 rfl (by decide +kernel) rfl rfl ?_
  refine jT_xaload_n (v := (4, 0)) (pcN := 21) jIQ_161_20 rfl rfl rfl ?_
  refine jT_xgetf (a := 0) (t := 1) (ci := 13) (fi := 7) (c := jzQ_16) (v := (4, 9)) (pcN := 24) jIQ_161_21 rfl rfl rfl rfl rfl rfl rfl ?_
  refine jT_xiload (v := (0, 1)) (pcN := 26) jIQ_161_24 rfl rfl rfl ?_
  refine jT_xiload (v := (0, 1)) (pcN := 28) jIQ_161_26 rfl rfl rfl ?_
  refine jT_xiconst (k := 1) (pcN := 29) jIQ_161_28 rfl ?_
  refine jT_xicF (t := 37) (pcN := 32) jIQ_161_29 rfl (by decide +kernel) rfl rfl ?_
  refine jT_xiload_n (v := (0, r7)) (pcN := 33) jIQ_161_32 rfl rfl rfl ?_
  refine jT_xi2l (x := r7) (z := r7) (pcN := 34) jIQ_161_33 rfl (jw_idd (by omega) (by omega)) rfl ?_
  refine jT_xgoto (pcN := 49) jIQ_161_34 rfl ?_
  refine jT_adv 1 (pcN := 50) (LN := [(5, (0, 1)), (0, (4, 0)), (1, (0, r7)), (2, (0, r8)), (3, (4, 1)), (4, (0, o4))]) (stN := []) (hsN := [jzQ_16, jgh, (8, [(4, 13), (4, 14)], []), jgh, jgh, jgh, jgh, jgh, jgh, (101, [], [0, r7, u8_2, u8_3, u8_4, u8_5]), (101, [], [k9_0, k9_1, k9_2, k9_3, k9_4, k9_5]), jgh, jgh, jgh, jgh]) (c1 := 0) (s1 := 0) (c2 := 0) (s2 := 0) (by exact rfl) ?_ (by omega) (by omega)
  refine jT_xiinc (x := 1) (z := 2) (LN := [(5, (0, 2)), (0, (4, 0)), (1, (0, r7)), (2, (0, r8)), (3, (4, 1)), (4, (0, o4))]) (pcN := 53) jIQ_161_50 rfl rfl (by decide) rfl rfl ?_
  refine jT_xgoto (pcN := 13) jIQ_161_53 rfl ?_
  refine jT_xiload (v := (0, 2)) (pcN := 15) jIQ_161_13 rfl rfl rfl ?_
  refine jT_xbipush (k := 6) (pcN := 17) jIQ_161_15 (by decide) rfl ?_
  refine jT_xicF (t := 56) (pcN := 20) jIQ_161_17 rfl (by decide +kernel) rfl rfl ?_
  refine jT_xaload_n (v := (4, 0)) (pcN := 21) jIQ_161_20 rfl rfl rfl ?_
  refine jT_xgetf (a := 0) (t := 1) (ci := 13) (fi := 7) (c := jzQ_16) (v := (4, 9)) (pcN := 24) jIQ_161_21 rfl rfl rfl rfl rfl rfl rfl ?_
  refine jT_xiload (v := (0, 2)) (pcN := 26) jIQ_161_24 rfl rfl rfl ?_
  refine jT_xiload (v := (0, 2)) (pcN := 28) jIQ_161_26 rfl rfl rfl ?_
  refine jT_xiconst (k := 1) (pcN := 29) jIQ_161_28 rfl ?_
  refine jT_xicT (pcN := 37) jIQ_161_29 rfl (by decide +kernel) rfl ?_
  refine jT_xiload (v := (0, 2)) (pcN := 39) jIQ_161_37 rfl rfl rfl ?_
  refine jT_xiconst (k := 2) (pcN := 40) jIQ_161_39 rfl ?_
  refine jT_xicF (t := 48) (pcN := 43) jIQ_161_40 rfl (by decide +kernel) rfl rfl ?_
  refine jT_xiload_n (v := (0, r8)) (pcN := 44) jIQ_161_43 rfl rfl rfl ?_
  refine jT_xi2l (x := r8) (z := r8) (pcN := 45) jIQ_161_44 rfl (jw_idd (by omega) (by omega)) rfl ?_
  refine jT_xgoto (pcN := 49) jIQ_161_45 rfl ?_
  refine jT_adv 1 (pcN := 50) (LN := [(5, (0, 2)), (0, (4, 0)), (1, (0, r7)), (2, (0, r8)), (3, (4, 1)), (4, (0, o4))]) (stN := []) (hsN := [jzQ_16, jgh, (8, [(4, 13), (4, 14)], []), jgh, jgh, jgh, jgh, jgh, jgh, (101, [], [0, r7, r8, u8_3, u8_4, u8_5]), (101, [], [k9_0, k9_1, k9_2, k9_3, k9_4, k9_5]), jgh, jgh, jgh, jgh]) (c1 := 0) (s1 := 0) (c2 := 0) (s2 := 0) (by exact rfl) ?_ (by omega) (by omega)
  refine jT_xiinc (x := 2) (z := 3) (LN := [(5, (0, 3)), (0, (4, 0)), (1, (0, r7)), (2, (0, r8)), (3, (4, 1)), (4, (0, o4))]) (pcN := 53) jIQ_161_50 rfl rfl (by decide) rfl rfl ?_
  refine jT_xgoto (pcN := 13) jIQ_161_53 rfl ?_
  refine jT_xiload (v := (0, 3)) (pcN := 15) jIQ_161_13 rfl rfl rfl ?_
  refine jT_xbipush (k := 6) (pcN := 17) jIQ_161_15 (by decide) rfl ?_
  refine jT_xicF (t := 56) (pcN := 20) jIQ_161_17 rfl (by decide +kernel) rfl rfl ?_
  refine jT_xaload_n (v := (4, 0)) (pcN := 21) jIQ_161_20 rfl rfl rfl ?_
  refine jT_xgetf (a := 0) (t := 1) (ci := 13) (fi := 7) (c := jzQ_16) (v := (4, 9)) (pcN := 24) jIQ_161_21 rfl rfl rfl rfl rfl rfl rfl ?_
  refine jT_xiload (v := (0, 3)) (pcN := 26) jIQ_161_24 rfl rfl rfl ?_
  refine jT_xiload (v := (0, 3)) (pcN := 28) jIQ_161_26 rfl rfl rfl ?_
  refine jT_xiconst (k := 1) (pcN := 29) jIQ_161_28 rfl ?_
  refine jT_xicT (pcN := 37) jIQ_161_29 rfl (by decide +kernel) rfl ?_
  refine jT_xiload (v := (0, 3)) (pcN := 39) jIQ_161_37 rfl rfl rfl ?_
  refine jT_xiconst (k := 2) (pcN := 40) jIQ_161_39 rfl ?_
  refine jT_xicT (pcN := 48) jIQ_161_40 rfl (by decide +kernel) rfl ?_
  refine jT_xlconst (z := 0) (pcN := 49) jIQ_161_48 rfl rfl ?_
  refine jT_adv 1 (pcN := 50) (LN := [(5, (0, 3)), (0, (4, 0)), (1, (0, r7)), (2, (0, r8)), (3, (4, 1)), (4, (0, o4))]) (stN := []) (hsN := [jzQ_16, jgh, (8, [(4, 13), (4, 14)], []), jgh, jgh, jgh, jgh, jgh, jgh, (101, [], [0, r7, r8, 0, u8_4, u8_5]), (101, [], [k9_0, k9_1, k9_2, k9_3, k9_4, k9_5]), jgh, jgh, jgh, jgh]) (c1 := 0) (s1 := 0) (c2 := 0) (s2 := 0) (by exact rfl) ?_ (by omega) (by omega)
  refine jT_xiinc (x := 3) (z := 4) (LN := [(5, (0, 4)), (0, (4, 0)), (1, (0, r7)), (2, (0, r8)), (3, (4, 1)), (4, (0, o4))]) (pcN := 53) jIQ_161_50 rfl rfl (by decide) rfl rfl ?_
  refine jT_xgoto (pcN := 13) jIQ_161_53 rfl ?_
  refine jT_xiload (v := (0, 4)) (pcN := 15) jIQ_161_13 rfl rfl rfl ?_
  refine jT_xbipush (k := 6) (pcN := 17) jIQ_161_15 (by decide) rfl ?_
  refine jT_xicF (t := 56) (pcN := 20) jIQ_161_17 rfl (by decide +kernel) rfl rfl ?_
  refine jT_xaload_n (v := (4, 0)) (pcN := 21) jIQ_161_20 rfl rfl rfl ?_
  refine jT_xgetf (a := 0) (t := 1) (ci := 13) (fi := 7) (c := jzQ_16) (v := (4, 9)) (pcN := 24) jIQ_161_21 rfl rfl rfl rfl rfl rfl rfl ?_
  refine jT_xiload (v := (0, 4)) (pcN := 26) jIQ_161_24 rfl rfl rfl ?_
  refine jT_xiload (v := (0, 4)) (pcN := 28) jIQ_161_26 rfl rfl rfl ?_
  refine jT_xiconst (k := 1) (pcN := 29) jIQ_161_28 rfl ?_
  refine jT_xicT (pcN := 37) jIQ_161_29 rfl (by decide +kernel) rfl ?_
  refine jT_xiload (v := (0, 4)) (pcN := 39) jIQ_161_37 rfl rfl rfl ?_
  refine jT_xiconst (k := 2) (pcN := 40) jIQ_161_39 rfl ?_
  refine jT_xicT (pcN := 48) jIQ_161_40 rfl (by decide +kernel) rfl ?_
  refine jT_xlconst (z := 0) (pcN := 49) jIQ_161_48 rfl rfl ?_
  refine jT_adv 1 (pcN := 50) (LN := [(5, (0, 4)), (0, (4, 0)), (1, (0, r7)), (2, (0, r8)), (3, (4, 1)), (4, (0, o4))]) (stN := []) (hsN := [jzQ_16, jgh, (8, [(4, 13), (4, 14)], []), jgh, jgh, jgh, jgh, jgh, jgh, (101, [], [0, r7, r8, 0, 0, u8_5]), (101, [], [k9_0, k9_1, k9_2, k9_3, k9_4, k9_5]), jgh, jgh, jgh, jgh]) (c1 := 0) (s1 := 0) (c2 := 0) (s2 := 0) (by exact rfl) ?_ (by omega) (by omega)
  refine jT_xiinc (x := 4) (z := 5) (LN := [(5, (0, 5)), (0, (4, 0)), (1, (0, r7)), (2, (0, r8)), (3, (4, 1)), (4, (0, o4))]) (pcN := 53) jIQ_161_50 rfl rfl (by decide) rfl rfl ?_
  refine jT_xgoto (pcN := 13) jIQ_161_53 rfl ?_
  refine jT_xiload (v := (0, 5)) (pcN := 15) jIQ_161_13 rfl rfl rfl ?_
  refine jT_xbipush (k := 6) (pcN := 17) jIQ_161_15 (by decide) rfl ?_
  refine jT_xicF (t := 56) (pcN := 20) jIQ_161_17 rfl (by decide +kernel) rfl rfl ?_
  refine jT_xaload_n (v := (4, 0)) (pcN := 21) jIQ_161_20 rfl rfl rfl ?_
  refine jT_xgetf (a := 0) (t := 1) (ci := 13) (fi := 7) (c := jzQ_16) (v := (4, 9)) (pcN := 24) jIQ_161_21 rfl rfl rfl rfl rfl rfl rfl ?_
  refine jT_xiload (v := (0, 5)) (pcN := 26) jIQ_161_24 rfl rfl rfl ?_
  refine jT_xiload (v := (0, 5)) (pcN := 28) jIQ_161_26 rfl rfl rfl ?_
  refine jT_xiconst (k := 1) (pcN := 29) jIQ_161_28 rfl ?_
  refine jT_xicT (pcN := 37) jIQ_161_29 rfl (by decide +kernel) rfl ?_
  refine jT_xiload (v := (0, 5)) (pcN := 39) jIQ_161_37 rfl rfl rfl ?_
  refine jT_xiconst (k := 2) (pcN := 40) jIQ_161_39 rfl ?_
  refine jT_xicT (pcN := 48) jIQ_161_40 rfl (by decide +kernel) rfl ?_
  refine jT_xlconst (z := 0) (pcN := 49) jIQ_161_48 rfl rfl ?_
  refine jT_adv 1 (pcN := 50) (LN := [(5, (0, 5)), (0, (4, 0)), (1, (0, r7)), (2, (0, r8)), (3, (4, 1)), (4, (0, o4))]) (stN := []) (hsN := [jzQ_16, jgh, (8, [(4, 13), (4, 14)], []), jgh, jgh, jgh, jgh, jgh, jgh, (101, [], [0, r7, r8, 0, 0, 0]), (101, [], [k9_0, k9_1, k9_2, k9_3, k9_4, k9_5]), jgh, jgh, jgh, jgh]) (c1 := 0) (s1 := 0) (c2 := 0) (s2 := 0) (by exact rfl) ?_ (by omega) (by omega)
  refine jT_xiinc (x := 5) (z := 6) (LN := [(5, (0, 6)), (0, (4, 0)), (1, (0, r7)), (2, (0, r8)), (3, (4, 1)), (4, (0, o4))]) (pcN := 53) jIQ_161_50 rfl rfl (by decide) rfl rfl ?_
  refine jT_xgoto (pcN := 13) jIQ_161_53 rfl ?_
  refine jT_xiload (v := (0, 6)) (pcN := 15) jIQ_161_13 rfl rfl rfl ?_
  refine jT_xbipush (k := 6) (pcN := 17) jIQ_161_15 (by decide) rfl ?_
  refine jT_xicT (pcN := 56) jIQ_161_17 rfl (by decide +kernel) rfl ?_
  refine jT_xaload_n (v := (4, 0)) (pcN := 57) jIQ_161_56 rfl rfl rfl ?_
  refine jT_xgetf (a := 0) (t := 1) (ci := 13) (fi := 0) (c := jzQ_16) (v := (4, 2)) (pcN := 60) jIQ_161_57 rfl rfl rfl rfl rfl rfl rfl ?_
  refine jT_xaload_n (v := (4, 0)) (pcN := 61) jIQ_161_60 rfl rfl rfl ?_
  refine jT_xgetf (a := 0) (t := 1) (ci := 13) (fi := 7) (c := jzQ_16) (v := (4, 9)) (pcN := 64) jIQ_161_61 rfl rfl rfl rfl rfl rfl rfl ?_
  refine jT_xlconst (z := 1) (pcN := 65) jIQ_161_64 rfl rfl ?_
  refine jT_xlconst (z := 1) (pcN := 66) jIQ_161_65 rfl rfl ?_
  refine jT_callA [2, 9, 13, 14] (y := 45) (pcN := 69) (dC := 1) (bc1 := 0) (bc2 := 0) (c1 := 0) (c2 := 0) (as := [(4, 2), (4, 9), (1, 1), (1, 1)]) (asC := [(4, 0), (4, 1), (1, 1), (1, 1)]) (LN := [(5, (0, 6)), (0, (4, 0)), (1, (0, r7)), (2, (0, r8)), (3, (4, 1)), (4, (0, o4))]) (stN := []) (hsC := [(8, [(4, 2), (4, 3)], []), (101, [], [0, r7, r8, 0, 0, 0]), jgh, jgh]) (ex := []) (v := (1, (108917793695 * r7 + 159561683699 * r8) / 68719476736)) (st2 := [(1, (108917793695 * r7 + 159561683699 * r8) / 68719476736)]) (hs2 := [jzQ_16, jgh, (8, [(4, 13), (4, 14)], []), jgh, jgh, jgh, jgh, jgh, jgh, (101, [], [0, r7, r8, 0, 0, 0]), (101, [], [k9_0, k9_1, k9_2, k9_3, k9_4, k9_5]), jgh, jgh, jgh, jgh]) (jQl_sp45_116 (d := 0) (by omega) (by omega)) (by rfl) (by rfl) (by rfl) (by rfl) ⟨rfl, rfl, rfl, rfl, trivial⟩ (by rfl) (by rfl) (by omega) (by show 15 ≤ 15; omega) (by omega) (by omega) rfl rfl ?_
  have hb_q1 : (-60) ≤ (108917793695 * r7 + 159561683699 * r8) / 68719476736 ∧ (108917793695 * r7 + 159561683699 * r8) / 68719476736 ≤ 60 := ⟨by omega, by omega⟩
  generalize hq_q1 : (108917793695 * r7 + 159561683699 * r8) / 68719476736 = q1 at hb_q1 g_1 g_2 ⊢
  refine jT_xlstore (v := (1, q1)) (LN := [(5, (1, q1)), (0, (4, 0)), (1, (0, r7)), (2, (0, r8)), (3, (4, 1)), (4, (0, o4))]) (pcN := 71) jIQ_161_69 rfl rfl rfl rfl ?_
  have g_3 : 0 ≤ (-68719476736) * q1 + 108917793694 * r7 + 159561683698 * r8 - 1 := by have := jcg (b := r7) (c := r8) (by omega) (by omega) (by omega); rw [hq_q1] at this; omega
  have g_4 : 0 ≤ (-68719476736) * q1 + 108917793694 * r7 + 159561683700 * r8 - 1 := by have := jcg (b := r7) (c := r8) (by omega) (by omega) (by omega); rw [hq_q1] at this; omega
  have g_5 : 0 ≤ (-68719476736) * q1 + 108917793696 * r7 + 159561683698 * r8 - 1 := by have := jcg (b := r7) (c := r8) (by omega) (by omega) (by omega); rw [hq_q1] at this; omega
  have g_6 : 0 ≤ (-68719476736) * q1 + 108917793696 * r7 + 159561683700 * r8 - 1 := by have := jcg (b := r7) (c := r8) (by omega) (by omega) (by omega); rw [hq_q1] at this; omega
  refine jT_xiload (v := (0, o4)) (pcN := 73) jIQ_161_71 rfl rfl rfl ?_
  refine jT_ifF (a := o4) (t := 107) (by rfl) (by rfl) (by rfl) (jw_idd (by omega) (by omega)) (by simp only [jcP] <;> omega) ?_
  refine jT_xiload_n (v := (0, r7)) (pcN := 77) jIQ_161_76 rfl rfl rfl ?_
  refine jT_xi2l (x := r7) (z := r7) (pcN := 78) jIQ_161_77 rfl (jw_idd (by omega) (by omega)) rfl ?_
  refine jT_xaload_n (v := (4, 0)) (pcN := 79) jIQ_161_78 rfl rfl rfl ?_
  refine jT_xgetf (a := 0) (t := 1) (ci := 13) (fi := 8) (c := jzQ_16) (v := (4, 10)) (pcN := 82) jIQ_161_79 rfl rfl rfl rfl rfl rfl rfl ?_
  refine jT_xiconst (k := 1) (pcN := 83) jIQ_161_82 rfl ?_
  refine jT_lald (x := k9_1) (a := 10) (j := 1) (fs := []) (X := [k9_0, k9_1, k9_2, k9_3, k9_4, k9_5]) jIQ_161_83 rfl rfl rfl rfl ?_
  refine jT_eq (LN := [(5, (1, q1)), (0, (4, 0)), (1, (0, r7)), (2, (0, r8)), (3, (4, 1)), (4, (0, o4))]) (stN := [(1, k9_1), (1, r7)]) (hsN := [jzQ_16, jgh, (8, [(4, 13), (4, 14)], []), jgh, jgh, jgh, jgh, jgh, jgh, (101, [], [0, r7, r8, 0, 0, 0]), (101, [], [k9_0, k9_1, k9_2, k9_3, k9_4, k9_5]), jgh, jgh, jgh, jgh]) rfl rfl rfl ?_
  refine jT_xlmul (x := r7) (y := k9_1) (z := r7 * k9_1) (pcN := 85) jIQ_161_84 rfl rfl rfl ?_
  have hb_q2 := jmul_bs (x := r7) (y := k9_1) (m := 20) (n := 158) (by omega) (by omega) (by omega) (by omega)
  have hb_q2 : (-3160) ≤ r7 * k9_1 ∧ r7 * k9_1 ≤ 3160 := ⟨by omega, by omega⟩
  generalize hq_q2 : r7 * k9_1 = q2 at hb_q2 g_1 g_2 ⊢
  refine jT_xiload_n (v := (0, r8)) (pcN := 86) jIQ_161_85 rfl rfl rfl ?_
  refine jT_xi2l (x := r8) (z := r8) (pcN := 87) jIQ_161_86 rfl (jw_idd (by omega) (by omega)) rfl ?_
  refine jT_xaload_n (v := (4, 0)) (pcN := 88) jIQ_161_87 rfl rfl rfl ?_
  refine jT_xgetf (a := 0) (t := 1) (ci := 13) (fi := 8) (c := jzQ_16) (v := (4, 10)) (pcN := 91) jIQ_161_88 rfl rfl rfl rfl rfl rfl rfl ?_
  refine jT_xiconst (k := 2) (pcN := 92) jIQ_161_91 rfl ?_
  refine jT_lald (x := k9_2) (a := 10) (j := 2) (fs := []) (X := [k9_0, k9_1, k9_2, k9_3, k9_4, k9_5]) jIQ_161_92 rfl rfl rfl rfl ?_
  refine jT_eq (LN := [(5, (1, q1)), (0, (4, 0)), (1, (0, r7)), (2, (0, r8)), (3, (4, 1)), (4, (0, o4))]) (stN := [(1, k9_2), (1, r8), (1, q2)]) (hsN := [jzQ_16, jgh, (8, [(4, 13), (4, 14)], []), jgh, jgh, jgh, jgh, jgh, jgh, (101, [], [0, r7, r8, 0, 0, 0]), (101, [], [k9_0, k9_1, k9_2, k9_3, k9_4, k9_5]), jgh, jgh, jgh, jgh]) rfl rfl rfl ?_
  refine jT_xlmul (x := r8) (y := k9_2) (z := r8 * k9_2) (pcN := 94) jIQ_161_93 rfl rfl rfl ?_
  have hb_q3 := jmul_bs (x := r8) (y := k9_2) (m := 10) (n := 232) (by omega) (by omega) (by omega) (by omega)
  have hb_q3 : (-2320) ≤ r8 * k9_2 ∧ r8 * k9_2 ≤ 2320 := ⟨by omega, by omega⟩
  generalize hq_q3 : r8 * k9_2 = q3 at hb_q3 g_1 g_2 ⊢
  refine jT_xladd (x := q2) (y := q3) (z := q2 + q3) (pcN := 95) jIQ_161_94 rfl (rfl) rfl ?_
  refine jT_xlload (v := (1, q1)) (pcN := 97) jIQ_161_95 rfl rfl rfl ?_
  refine jT_xiload (v := (0, o4)) (pcN := 99) jIQ_161_97 rfl rfl rfl ?_
  refine jT_xi2l (x := o4) (z := o4) (pcN := 100) jIQ_161_99 rfl (jw_idd (by omega) (by omega)) rfl ?_
  refine jT_xlmul (x := q1) (y := o4) (z := q1 * o4) (pcN := 101) jIQ_161_100 rfl rfl rfl ?_
  have hb_q4 := jmul_bs (x := q1) (y := o4) (m := 60) (n := 100) (by omega) (by omega) (by omega) (by omega)
  have hb_q4 : (-6000) ≤ q1 * o4 ∧ q1 * o4 ≤ 6000 := ⟨by omega, by omega⟩
  generalize hq_q4 : q1 * o4 = q4 at hb_q4 g_1 g_2 ⊢
  refine jT_lcmp (a := q2 + q3) (b := q4) (z := (-1)) (by rfl) (by rfl) (jwl_idd (by omega) (by omega)) (jwl_idd (by omega) (by omega)) (by rw [decide_eq_false (show ¬ ((q4 : Int) < q2 + q3) by omega), decide_eq_false (show ¬ ((q2 + q3 : Int) = q4) by omega)]; rfl) ?_
  refine jT_xifF (t := 107) (pcN := 105) jIQ_161_102 rfl (by decide +kernel) rfl rfl ?_
  refine jT_xiconst (k := 0) (pcN := 106) jIQ_161_105 rfl ?_
  subst hq_q4
  subst hq_q3
  subst hq_q2
  subst hq_q1
  exact jT_ret rfl (by decide) (by show 15 ≤ 15; omega) (by omega) (by omega) ⟨rfl, rfl, rfl⟩
theorem jQ_161_244 {xs : List Int} {d : Nat} {k9_0 k9_1 k9_2 k9_3 k9_4 k9_5 o4 r7 r8 u8_0 u8_1 u8_2 u8_3 u8_4 u8_5 : Int} (h_k9_0 : 1 ≤ k9_0 ∧ k9_0 ≤ 100) (h_k9_1 : 2 ≤ k9_1 ∧ k9_1 ≤ 158) (h_k9_2 : 2 ≤ k9_2 ∧ k9_2 ≤ 232) (h_k9_3 : 3 ≤ k9_3 ∧ k9_3 ≤ 281) (h_k9_4 : 3 ≤ k9_4 ∧ k9_4 ≤ 346) (h_k9_5 : 4 ≤ k9_5 ∧ k9_5 ≤ 370) (h_o4 : 1 ≤ o4 ∧ o4 ≤ 100) (h_r7 : (-20) ≤ r7 ∧ r7 ≤ 20) (h_r8 : (-10) ≤ r8 ∧ r8 ≤ 10) (g_0 : r7 < 0) (g_1 : -(((108917793695 * r7 + 159561683699 * r8) / 68719476736) * o4) + (r7 * k9_1) + (r8 * k9_2) - 1 < 0) (g_2 : 0 ≤ -(((108917793695 * r7 + 159561683699 * r8) / 68719476736) * o4) + (r7 * k9_1) + (r8 * k9_2)) : jT xs (d + 2) 161 16 0 [(0, (4, 0)), (1, (0, r7)), (2, (0, r8)), (3, (4, 1)), (4, (0, o4))] [] [jzQ_16, (4, [(4, 13), (1, 1)], []), (8, [(4, 14), (4, 15)], []), jgh, jgh, jgh, jgh, jgh, jgh, (101, [], [u8_0, u8_1, u8_2, u8_3, u8_4, u8_5]), (101, [], [k9_0, k9_1, k9_2, k9_3, k9_4, k9_5]), jgh, jgh, (101, [], [0, 0, 0, 0, 0, 0]), jgh, jgh] 0 0 (fun k v hsN => k = 0 ∧ v = (0, 0) ∧ hsN = [jzQ_16, (4, [(4, 13), (1, 1)], []), (8, [(4, 14), (4, 15)], []), jgh, jgh, jgh, jgh, jgh, jgh, (101, [], [(108917793695 * r7 + 159561683699 * r8) / 68719476736, -r7, -r8, 0, 0, 0]), (101, [], [k9_0, k9_1, k9_2, k9_3, k9_4, k9_5]), jgh, jgh, (101, [], [0, 0, 0, 0, 0, 0]), jgh, jgh]) := by
  refine jT_xiload_n (v := (0, r7)) (pcN := 1) jIQ_161_0 rfl rfl rfl ?_
  refine jT_ifT (a := r7) (t := 10) (by rfl) (by rfl) (by rfl) (jw_idd (by omega) (by omega)) (by simp only [jcP] <;> omega) ?_
  refine jT_xiconst (k := 0) (pcN := 11) jIQ_161_10 rfl ?_
  refine jT_xistore (v := (0, 0)) (LN := [(5, (0, 0)), (0, (4, 0)), (1, (0, r7)), (2, (0, r8)), (3, (4, 1)), (4, (0, o4))]) (pcN := 13) jIQ_161_11 rfl rfl rfl rfl ?_
  refine jT_xiload (v := (0, 0)) (pcN := 15) jIQ_161_13 rfl rfl rfl ?_
  refine jT_xbipush (k := 6) (pcN := 17) jIQ_161_15 (by decide) rfl ?_
  refine jT_xicF (t := 56) (pcN := 20) jIQ_161_17 rfl (by decide +kernel) rfl rfl ?_
  refine jT_xaload_n (v := (4, 0)) (pcN := 21) jIQ_161_20 rfl rfl rfl ?_
  refine jT_xgetf (a := 0) (t := 1) (ci := 13) (fi := 7) (c := jzQ_16) (v := (4, 9)) (pcN := 24) jIQ_161_21 rfl rfl rfl rfl rfl rfl rfl ?_
  refine jT_xiload (v := (0, 0)) (pcN := 26) jIQ_161_24 rfl rfl rfl ?_
  refine jT_xiload (v := (0, 0)) (pcN := 28) jIQ_161_26 rfl rfl rfl ?_
  refine jT_xiconst (k := 1) (pcN := 29) jIQ_161_28 rfl ?_
  refine jT_xicT (pcN := 37) jIQ_161_29 rfl (by decide +kernel) rfl ?_
  refine jT_xiload (v := (0, 0)) (pcN := 39) jIQ_161_37 rfl rfl rfl ?_
  refine jT_xiconst (k := 2) (pcN := 40) jIQ_161_39 rfl ?_
  refine jT_xicT (pcN := 48) jIQ_161_40 rfl (by decide +kernel) rfl ?_
  refine jT_xlconst (z := 0) (pcN := 49) jIQ_161_48 rfl rfl ?_
  refine jT_adv 1 (pcN := 50) (LN := [(5, (0, 0)), (0, (4, 0)), (1, (0, r7)), (2, (0, r8)), (3, (4, 1)), (4, (0, o4))]) (stN := []) (hsN := [jzQ_16, (4, [(4, 13), (1, 1)], []), (8, [(4, 14), (4, 15)], []), jgh, jgh, jgh, jgh, jgh, jgh, (101, [], [0, u8_1, u8_2, u8_3, u8_4, u8_5]), (101, [], [k9_0, k9_1, k9_2, k9_3, k9_4, k9_5]), jgh, jgh, (101, [], [0, 0, 0, 0, 0, 0]), jgh, jgh]) (c1 := 0) (s1 := 0) (c2 := 0) (s2 := 0) (by exact rfl) ?_ (by omega) (by omega)
  refine jT_xiinc (x := 0) (z := 1) (LN := [(5, (0, 1)), (0, (4, 0)), (1, (0, r7)), (2, (0, r8)), (3, (4, 1)), (4, (0, o4))]) (pcN := 53) jIQ_161_50 rfl rfl (by decide) rfl rfl ?_
  refine jT_xgoto (pcN := 13) jIQ_161_53 rfl ?_
  refine jT_xiload (v := (0, 1)) (pcN := 15) jIQ_161_13 rfl rfl rfl ?_
  refine jT_xbipush (k := 6) (pcN := 17) jIQ_161_15 (by decide) rfl ?_
  refine jT_xicF (t := 56) (pcN := 20) jIQ_161_17 rfl (by decide +kernel) rfl rfl ?_
  refine jT_xaload_n (v := (4, 0)) (pcN := 21) jIQ_161_20 rfl rfl rfl ?_
  refine jT_xgetf (a := 0) (t := 1) (ci := 13) (fi := 7) (c := jzQ_16) (v := (4, 9)) (pcN := 24) jIQ_161_21 rfl rfl rfl rfl rfl rfl rfl ?_
  refine jT_xiload (v := (0, 1)) (pcN := 26) jIQ_161_24 rfl rfl rfl ?_
  refine jT_xiload (v := (0, 1)) (pcN := 28) jIQ_161_26 rfl rfl rfl ?_
  refine jT_xiconst (k := 1) (pcN := 29) jIQ_161_28 rfl ?_
  refine jT_xicF (t := 37) (pcN := 32) jIQ_161_29 rfl (by decide +kernel) rfl rfl ?_
  refine jT_xiload_n (v := (0, r7)) (pcN := 33) jIQ_161_32 rfl rfl rfl ?_
  refine jT_xi2l (x := r7) (z := r7) (pcN := 34) jIQ_161_33 rfl (jw_idd (by omega) (by omega)) rfl ?_
  refine jT_xgoto (pcN := 49) jIQ_161_34 rfl ?_
  refine jT_adv 1 (pcN := 50) (LN := [(5, (0, 1)), (0, (4, 0)), (1, (0, r7)), (2, (0, r8)), (3, (4, 1)), (4, (0, o4))]) (stN := []) (hsN := [jzQ_16, (4, [(4, 13), (1, 1)], []), (8, [(4, 14), (4, 15)], []), jgh, jgh, jgh, jgh, jgh, jgh, (101, [], [0, r7, u8_2, u8_3, u8_4, u8_5]), (101, [], [k9_0, k9_1, k9_2, k9_3, k9_4, k9_5]), jgh, jgh, (101, [], [0, 0, 0, 0, 0, 0]), jgh, jgh]) (c1 := 0) (s1 := 0) (c2 := 0) (s2 := 0) (by exact rfl) ?_ (by omega) (by omega)
  refine jT_xiinc (x := 1) (z := 2) (LN := [(5, (0, 2)), (0, (4, 0)), (1, (0, r7)), (2, (0, r8)), (3, (4, 1)), (4, (0, o4))]) (pcN := 53) jIQ_161_50 rfl rfl (by decide) rfl rfl ?_
  refine jT_xgoto (pcN := 13) jIQ_161_53 rfl ?_
  refine jT_xiload (v := (0, 2)) (pcN := 15) jIQ_161_13 rfl rfl rfl ?_
  refine jT_xbipush (k := 6) (pcN := 17) jIQ_161_15 (by decide) rfl ?_
  refine jT_xicF (t := 56) (pcN := 20) jIQ_161_17 rfl (by decide +kernel) rfl rfl ?_
  refine jT_xaload_n (v := (4, 0)) (pcN := 21) jIQ_161_20 rfl rfl rfl ?_
  refine jT_xgetf (a := 0) (t := 1) (ci := 13) (fi := 7) (c := jzQ_16) (v := (4, 9)) (pcN := 24) jIQ_161_21 rfl rfl rfl rfl rfl rfl rfl ?_
  refine jT_xiload (v := (0, 2)) (pcN := 26) jIQ_161_24 rfl rfl rfl ?_
  refine jT_xiload (v := (0, 2)) (pcN := 28) jIQ_161_26 rfl rfl rfl ?_
  refine jT_xiconst (k := 1) (pcN := 29) jIQ_161_28 rfl ?_
  refine jT_xicT (pcN := 37) jIQ_161_29 rfl (by decide +kernel) rfl ?_
  refine jT_xiload (v := (0, 2)) (pcN := 39) jIQ_161_37 rfl rfl rfl ?_
  refine jT_xiconst (k := 2) (pcN := 40) jIQ_161_39 rfl ?_
  refine jT_xicF (t := 48) (pcN := 43) jIQ_161_40 rfl (by decide +kernel) rfl rfl ?_
  refine jT_xiload_n (v := (0, r8)) (pcN := 44) jIQ_161_43 rfl rfl rfl ?_
  refine jT_xi2l (x := r8) (z := r8) (pcN := 45) jIQ_161_44 rfl (jw_idd (by omega) (by omega)) rfl ?_
  refine jT_xgoto (pcN := 49) jIQ_161_45 rfl ?_
  refine jT_adv 1 (pcN := 50) (LN := [(5, (0, 2)), (0, (4, 0)), (1, (0, r7)), (2, (0, r8)), (3, (4, 1)), (4, (0, o4))]) (stN := []) (hsN := [jzQ_16, (4, [(4, 13), (1, 1)], []), (8, [(4, 14), (4, 15)], []), jgh, jgh, jgh, jgh, jgh, jgh, (101, [], [0, r7, r8, u8_3, u8_4, u8_5]), (101, [], [k9_0, k9_1, k9_2, k9_3, k9_4, k9_5]), jgh, jgh, (101, [], [0, 0, 0, 0, 0, 0]), jgh, jgh]) (c1 := 0) (s1 := 0) (c2 := 0) (s2 := 0) (by exact rfl) ?_ (by omega) (by omega)
  refine jT_xiinc (x := 2) (z := 3) (LN := [(5, (0, 3)), (0, (4, 0)), (1, (0, r7)), (2, (0, r8)), (3, (4, 1)), (4, (0, o4))]) (pcN := 53) jIQ_161_50 rfl rfl (by decide) rfl rfl ?_
  refine jT_xgoto (pcN := 13) jIQ_161_53 rfl ?_
  refine jT_xiload (v := (0, 3)) (pcN := 15) jIQ_161_13 rfl rfl rfl ?_
  refine jT_xbipush (k := 6) (pcN := 17) jIQ_161_15 (by decide) rfl ?_
  refine jT_xicF (t := 56) (pcN := 20) jIQ_161_17 rfl (by decide +kernel) rfl rfl ?_
  refine jT_xaload_n (v := (4, 0)) (pcN := 21) jIQ_161_20 rfl rfl rfl ?_
  refine jT_xgetf (a := 0) (t := 1) (ci := 13) (fi := 7) (c := jzQ_16) (v := (4, 9)) (pcN := 24) jIQ_161_21 rfl rfl rfl rfl rfl rfl rfl ?_
  refine jT_xiload (v := (0, 3)) (pcN := 26) jIQ_161_24 rfl rfl rfl ?_
  refine jT_xiload (v := (0, 3)) (pcN := 28) jIQ_161_26 rfl rfl rfl ?_
  refine jT_xiconst (k := 1) (pcN := 29) jIQ_161_28 rfl ?_
  refine jT_xicT (pcN := 37) jIQ_161_29 rfl (by decide +kernel) rfl ?_
  refine jT_xiload (v := (0, 3)) (pcN := 39) jIQ_161_37 rfl rfl rfl ?_
  refine jT_xiconst (k := 2) (pcN := 40) jIQ_161_39 rfl ?_
  refine jT_xicT (pcN := 48) jIQ_161_40 rfl (by decide +kernel) rfl ?_
  refine jT_xlconst (z := 0) (pcN := 49) jIQ_161_48 rfl rfl ?_
  refine jT_adv 1 (pcN := 50) (LN := [(5, (0, 3)), (0, (4, 0)), (1, (0, r7)), (2, (0, r8)), (3, (4, 1)), (4, (0, o4))]) (stN := []) (hsN := [jzQ_16, (4, [(4, 13), (1, 1)], []), (8, [(4, 14), (4, 15)], []), jgh, jgh, jgh, jgh, jgh, jgh, (101, [], [0, r7, r8, 0, u8_4, u8_5]), (101, [], [k9_0, k9_1, k9_2, k9_3, k9_4, k9_5]), jgh, jgh, (101, [], [0, 0, 0, 0, 0, 0]), jgh, jgh]) (c1 := 0) (s1 := 0) (c2 := 0) (s2 := 0) (by exact rfl) ?_ (by omega) (by omega)
  refine jT_xiinc (x := 3) (z := 4) (LN := [(5, (0, 4)), (0, (4, 0)), (1, (0, r7)), (2, (0, r8)), (3, (4, 1)), (4, (0, o4))]) (pcN := 53) jIQ_161_50 rfl rfl (by decide) rfl rfl ?_
  refine jT_xgoto (pcN := 13) jIQ_161_53 rfl ?_
  refine jT_xiload (v := (0, 4)) (pcN := 15) jIQ_161_13 rfl rfl rfl ?_
  refine jT_xbipush (k := 6) (pcN := 17) jIQ_161_15 (by decide) rfl ?_
  refine jT_xicF (t := 56) (pcN := 20) jIQ_161_17 rfl (by decide +kernel) rfl rfl ?_
  refine jT_xaload_n (v := (4, 0)) (pcN := 21) jIQ_161_20 rfl rfl rfl ?_
  refine jT_xgetf (a := 0) (t := 1) (ci := 13) (fi := 7) (c := jzQ_16) (v := (4, 9)) (pcN := 24) jIQ_161_21 rfl rfl rfl rfl rfl rfl rfl ?_
  refine jT_xiload (v := (0, 4)) (pcN := 26) jIQ_161_24 rfl rfl rfl ?_
  refine jT_xiload (v := (0, 4)) (pcN := 28) jIQ_161_26 rfl rfl rfl ?_
  refine jT_xiconst (k := 1) (pcN := 29) jIQ_161_28 rfl ?_
  refine jT_xicT (pcN := 37) jIQ_161_29 rfl (by decide +kernel) rfl ?_
  refine jT_xiload (v := (0, 4)) (pcN := 39) jIQ_161_37 rfl rfl rfl ?_
  refine jT_xiconst (k := 2) (pcN := 40) jIQ_161_39 rfl ?_
  refine jT_xicT (pcN := 48) jIQ_161_40 rfl (by decide +kernel) rfl ?_
  refine jT_xlconst (z := 0) (pcN := 49) jIQ_161_48 rfl rfl ?_
  refine jT_adv 1 (pcN := 50) (LN := [(5, (0, 4)), (0, (4, 0)), (1, (0, r7)), (2, (0, r8)), (3, (4, 1)), (4, (0, o4))]) (stN := []) (hsN := [jzQ_16, (4, [(4, 13), (1, 1)], []), (8, [(4, 14), (4, 15)], []), jgh, jgh, jgh, jgh, jgh, jgh, (101, [], [0, r7, r8, 0, 0, u8_5]), (101, [], [k9_0, k9_1, k9_2, k9_3, k9_4, k9_5]), jgh, jgh, (101, [], [0, 0, 0, 0, 0, 0]), jgh, jgh]) (c1 := 0) (s1 := 0) (c2 := 0) (s2 := 0) (by exact rfl) ?_ (by omega) (by omega)
  refine jT_xiinc (x := 4) (z := 5) (LN := [(5, (0, 5)), (0, (4, 0)), (1, (0, r7)), (2, (0, r8)), (3, (4, 1)), (4, (0, o4))]) (pcN := 53) jIQ_161_50 rfl rfl (by decide) rfl rfl ?_
  refine jT_xgoto (pcN := 13) jIQ_161_53 rfl ?_
  refine jT_xiload (v := (0, 5)) (pcN := 15) jIQ_161_13 rfl rfl rfl ?_
  refine jT_xbipush (k := 6) (pcN := 17) jIQ_161_15 (by decide) rfl ?_
  refine jT_xicF (t := 56) (pcN := 20) jIQ_161_17 rfl (by decide +kernel) rfl rfl ?_
  refine jT_xaload_n (v := (4, 0)) (pcN := 21) jIQ_161_20 rfl rfl rfl ?_
  refine jT_xgetf (a := 0) (t := 1) (ci := 13) (fi := 7) (c := jzQ_16) (v := (4, 9)) (pcN := 24) jIQ_161_21 rfl rfl rfl rfl rfl rfl rfl ?_
  refine jT_xiload (v := (0, 5)) (pcN := 26) jIQ_161_24 rfl rfl rfl ?_
  refine jT_xiload (v := (0, 5)) (pcN := 28) jIQ_161_26 rfl rfl rfl ?_
  refine jT_xiconst (k := 1) (pcN := 29) jIQ_161_28 rfl ?_
  refine jT_xicT (pcN := 37) jIQ_161_29 rfl (by decide +kernel) rfl ?_
  refine jT_xiload (v := (0, 5)) (pcN := 39) jIQ_161_37 rfl rfl rfl ?_
  refine jT_xiconst (k := 2) (pcN := 40) jIQ_161_39 rfl ?_
  refine jT_xicT (pcN := 48) jIQ_161_40 rfl (by decide +kernel) rfl ?_
  refine jT_xlconst (z := 0) (pcN := 49) jIQ_161_48 rfl rfl ?_
  refine jT_adv 1 (pcN := 50) (LN := [(5, (0, 5)), (0, (4, 0)), (1, (0, r7)), (2, (0, r8)), (3, (4, 1)), (4, (0, o4))]) (stN := []) (hsN := [jzQ_16, (4, [(4, 13), (1, 1)], []), (8, [(4, 14), (4, 15)], []), jgh, jgh, jgh, jgh, jgh, jgh, (101, [], [0, r7, r8, 0, 0, 0]), (101, [], [k9_0, k9_1, k9_2, k9_3, k9_4, k9_5]), jgh, jgh, (101, [], [0, 0, 0, 0, 0, 0]), jgh, jgh]) (c1 := 0) (s1 := 0) (c2 := 0) (s2 := 0) (by exact rfl) ?_ (by omega) (by omega)
  refine jT_xiinc (x := 5) (z := 6) (LN := [(5, (0, 6)), (0, (4, 0)), (1, (0, r7)), (2, (0, r8)), (3, (4, 1)), (4, (0, o4))]) (pcN := 53) jIQ_161_50 rfl rfl (by decide) rfl rfl ?_
  refine jT_xgoto (pcN := 13) jIQ_161_53 rfl ?_
  refine jT_xiload (v := (0, 6)) (pcN := 15) jIQ_161_13 rfl rfl rfl ?_
  refine jT_xbipush (k := 6) (pcN := 17) jIQ_161_15 (by decide) rfl ?_
  refine jT_xicT (pcN := 56) jIQ_161_17 rfl (by decide +kernel) rfl ?_
  refine jT_xaload_n (v := (4, 0)) (pcN := 57) jIQ_161_56 rfl rfl rfl ?_
  refine jT_xgetf (a := 0) (t := 1) (ci := 13) (fi := 0) (c := jzQ_16) (v := (4, 2)) (pcN := 60) jIQ_161_57 rfl rfl rfl rfl rfl rfl rfl ?_
  refine jT_xaload_n (v := (4, 0)) (pcN := 61) jIQ_161_60 rfl rfl rfl ?_
  refine jT_xgetf (a := 0) (t := 1) (ci := 13) (fi := 7) (c := jzQ_16) (v := (4, 9)) (pcN := 64) jIQ_161_61 rfl rfl rfl rfl rfl rfl rfl ?_
  refine jT_xlconst (z := 1) (pcN := 65) jIQ_161_64 rfl rfl ?_
  refine jT_xlconst (z := 1) (pcN := 66) jIQ_161_65 rfl rfl ?_
  refine jT_callA [2, 9, 14, 15] (y := 45) (pcN := 69) (dC := 1) (bc1 := 0) (bc2 := 0) (c1 := 0) (c2 := 0) (as := [(4, 2), (4, 9), (1, 1), (1, 1)]) (asC := [(4, 0), (4, 1), (1, 1), (1, 1)]) (LN := [(5, (0, 6)), (0, (4, 0)), (1, (0, r7)), (2, (0, r8)), (3, (4, 1)), (4, (0, o4))]) (stN := []) (hsC := [(8, [(4, 2), (4, 3)], []), (101, [], [0, r7, r8, 0, 0, 0]), jgh, jgh]) (ex := []) (v := (1, (108917793695 * r7 + 159561683699 * r8) / 68719476736)) (st2 := [(1, (108917793695 * r7 + 159561683699 * r8) / 68719476736)]) (hs2 := [jzQ_16, (4, [(4, 13), (1, 1)], []), (8, [(4, 14), (4, 15)], []), jgh, jgh, jgh, jgh, jgh, jgh, (101, [], [0, r7, r8, 0, 0, 0]), (101, [], [k9_0, k9_1, k9_2, k9_3, k9_4, k9_5]), jgh, jgh, (101, [], [0, 0, 0, 0, 0, 0]), jgh, jgh]) (jQl_sp45_116 (d := 0) (by omega) (by omega)) (by rfl) (by rfl) (by rfl) (by rfl) ⟨rfl, rfl, rfl, rfl, trivial⟩ (by rfl) (by rfl) (by omega) (by show 16 ≤ 16; omega) (by omega) (by omega) rfl rfl ?_
  have hb_q1 : (-60) ≤ (108917793695 * r7 + 159561683699 * r8) / 68719476736 ∧ (108917793695 * r7 + 159561683699 * r8) / 68719476736 ≤ 60 := ⟨by omega, by omega⟩
  generalize hq_q1 : (108917793695 * r7 + 159561683699 * r8) / 68719476736 = q1 at hb_q1 g_1 g_2 ⊢
  refine jT_xlstore (v := (1, q1)) (LN := [(5, (1, q1)), (0, (4, 0)), (1, (0, r7)), (2, (0, r8)), (3, (4, 1)), (4, (0, o4))]) (pcN := 71) jIQ_161_69 rfl rfl rfl rfl ?_
  have g_3 : 0 ≤ (-68719476736) * q1 + 108917793694 * r7 + 159561683698 * r8 - 1 := by have := jcg (b := r7) (c := r8) (by omega) (by omega) (by omega); rw [hq_q1] at this; omega
  have g_4 : 0 ≤ (-68719476736) * q1 + 108917793694 * r7 + 159561683700 * r8 - 1 := by have := jcg (b := r7) (c := r8) (by omega) (by omega) (by omega); rw [hq_q1] at this; omega
  have g_5 : 0 ≤ (-68719476736) * q1 + 108917793696 * r7 + 159561683698 * r8 - 1 := by have := jcg (b := r7) (c := r8) (by omega) (by omega) (by omega); rw [hq_q1] at this; omega
  have g_6 : 0 ≤ (-68719476736) * q1 + 108917793696 * r7 + 159561683700 * r8 - 1 := by have := jcg (b := r7) (c := r8) (by omega) (by omega) (by omega); rw [hq_q1] at this; omega
  refine jT_xiload (v := (0, o4)) (pcN := 73) jIQ_161_71 rfl rfl rfl ?_
  refine jT_ifF (a := o4) (t := 107) (by rfl) (by rfl) (by rfl) (jw_idd (by omega) (by omega)) (by simp only [jcP] <;> omega) ?_
  refine jT_xiload_n (v := (0, r7)) (pcN := 77) jIQ_161_76 rfl rfl rfl ?_
  refine jT_xi2l (x := r7) (z := r7) (pcN := 78) jIQ_161_77 rfl (jw_idd (by omega) (by omega)) rfl ?_
  refine jT_xaload_n (v := (4, 0)) (pcN := 79) jIQ_161_78 rfl rfl rfl ?_
  refine jT_xgetf (a := 0) (t := 1) (ci := 13) (fi := 8) (c := jzQ_16) (v := (4, 10)) (pcN := 82) jIQ_161_79 rfl rfl rfl rfl rfl rfl rfl ?_
  refine jT_xiconst (k := 1) (pcN := 83) jIQ_161_82 rfl ?_
  refine jT_lald (x := k9_1) (a := 10) (j := 1) (fs := []) (X := [k9_0, k9_1, k9_2, k9_3, k9_4, k9_5]) jIQ_161_83 rfl rfl rfl rfl ?_
  refine jT_eq (LN := [(5, (1, q1)), (0, (4, 0)), (1, (0, r7)), (2, (0, r8)), (3, (4, 1)), (4, (0, o4))]) (stN := [(1, k9_1), (1, r7)]) (hsN := [jzQ_16, (4, [(4, 13), (1, 1)], []), (8, [(4, 14), (4, 15)], []), jgh, jgh, jgh, jgh, jgh, jgh, (101, [], [0, r7, r8, 0, 0, 0]), (101, [], [k9_0, k9_1, k9_2, k9_3, k9_4, k9_5]), jgh, jgh, (101, [], [0, 0, 0, 0, 0, 0]), jgh, jgh]) rfl rfl rfl ?_
  refine jT_xlmul (x := r7) (y := k9_1) (z := r7 * k9_1) (pcN := 85) jIQ_161_84 rfl rfl rfl ?_
  have hb_q2 := jmul_bs (x := r7) (y := k9_1) (m := 20) (n := 158) (by omega) (by omega) (by omega) (by omega)
  have hb_q2 : (-3160) ≤ r7 * k9_1 ∧ r7 * k9_1 ≤ 3160 := ⟨by omega, by omega⟩
  generalize hq_q2 : r7 * k9_1 = q2 at hb_q2 g_1 g_2 ⊢
  refine jT_xiload_n (v := (0, r8)) (pcN := 86) jIQ_161_85 rfl rfl rfl ?_
  refine jT_xi2l (x := r8) (z := r8) (pcN := 87) jIQ_161_86 rfl (jw_idd (by omega) (by omega)) rfl ?_
  refine jT_xaload_n (v := (4, 0)) (pcN := 88) jIQ_161_87 rfl rfl rfl ?_
  refine jT_xgetf (a := 0) (t := 1) (ci := 13) (fi := 8) (c := jzQ_16) (v := (4, 10)) (pcN := 91) jIQ_161_88 rfl rfl rfl rfl rfl rfl rfl ?_
  refine jT_xiconst (k := 2) (pcN := 92) jIQ_161_91 rfl ?_
  refine jT_lald (x := k9_2) (a := 10) (j := 2) (fs := []) (X := [k9_0, k9_1, k9_2, k9_3, k9_4, k9_5]) jIQ_161_92 rfl rfl rfl rfl ?_
  refine jT_eq (LN := [(5, (1, q1)), (0, (4, 0)), (1, (0, r7)), (2, (0, r8)), (3, (4, 1)), (4, (0, o4))]) (stN := [(1, k9_2), (1, r8), (1, q2)]) (hsN := [jzQ_16, (4, [(4, 13), (1, 1)], []), (8, [(4, 14), (4, 15)], []), jgh, jgh, jgh, jgh, jgh, jgh, (101, [], [0, r7, r8, 0, 0, 0]), (101, [], [k9_0, k9_1, k9_2, k9_3, k9_4, k9_5]), jgh, jgh, (101, [], [0, 0, 0, 0, 0, 0]), jgh, jgh]) rfl rfl rfl ?_
  refine jT_xlmul (x := r8) (y := k9_2) (z := r8 * k9_2) (pcN := 94) jIQ_161_93 rfl rfl rfl ?_
  have hb_q3 := jmul_bs (x := r8) (y := k9_2) (m := 10) (n := 232) (by omega) (by omega) (by omega) (by omega)
  have hb_q3 : (-2320) ≤ r8 * k9_2 ∧ r8 * k9_2 ≤ 2320 := ⟨by omega, by omega⟩
  generalize hq_q3 : r8 * k9_2 = q3 at hb_q3 g_1 g_2 ⊢
  refine jT_xladd (x := q2) (y := q3) (z := q2 + q3) (pcN := 95) jIQ_161_94 rfl (rfl) rfl ?_
  refine jT_xlload (v := (1, q1)) (pcN := 97) jIQ_161_95 rfl rfl rfl ?_
  refine jT_xiload (v := (0, o4)) (pcN := 99) jIQ_161_97 rfl rfl rfl ?_
  refine jT_xi2l (x := o4) (z := o4) (pcN := 100) jIQ_161_99 rfl (jw_idd (by omega) (by omega)) rfl ?_
  refine jT_xlmul (x := q1) (y := o4) (z := q1 * o4) (pcN := 101) jIQ_161_100 rfl rfl rfl ?_
  have hb_q4 := jmul_bs (x := q1) (y := o4) (m := 60) (n := 100) (by omega) (by omega) (by omega) (by omega)
  have hb_q4 : (-6000) ≤ q1 * o4 ∧ q1 * o4 ≤ 6000 := ⟨by omega, by omega⟩
  generalize hq_q4 : q1 * o4 = q4 at hb_q4 g_1 g_2 ⊢
  refine jT_lcmp (a := q2 + q3) (b := q4) (z := 0) (by rfl) (by rfl) (jwl_idd (by omega) (by omega)) (jwl_idd (by omega) (by omega)) (by rw [decide_eq_false (show ¬ ((q4 : Int) < q2 + q3) by omega), decide_eq_true (show (q2 + q3 : Int) = q4 by omega)]; rfl) ?_
  refine jT_xifT (pcN := 107) jIQ_161_102 rfl (by decide +kernel) rfl ?_
  refine jT_xaload_n (v := (4, 0)) (pcN := 108) jIQ_161_107 rfl rfl rfl ?_
  refine jT_xgetf (a := 0) (t := 1) (ci := 13) (fi := 7) (c := jzQ_16) (v := (4, 9)) (pcN := 111) jIQ_161_108 rfl rfl rfl rfl rfl rfl rfl ?_
  refine jT_xiconst (k := 0) (pcN := 112) jIQ_161_111 rfl ?_
  refine jT_xlload (v := (1, q1)) (pcN := 114) jIQ_161_112 rfl rfl rfl ?_
  refine jT_adv 2 (pcN := 116) (LN := [(5, (1, q1)), (0, (4, 0)), (1, (0, r7)), (2, (0, r8)), (3, (4, 1)), (4, (0, o4))]) (stN := []) (hsN := [jzQ_16, (4, [(4, 13), (1, 1)], []), (8, [(4, 14), (4, 15)], []), jgh, jgh, jgh, jgh, jgh, jgh, (101, [], [-q1, r7, r8, 0, 0, 0]), (101, [], [k9_0, k9_1, k9_2, k9_3, k9_4, k9_5]), jgh, jgh, (101, [], [0, 0, 0, 0, 0, 0]), jgh, jgh]) (c1 := 0) (s1 := 0) (c2 := 0) (s2 := 0) (by exact rfl) ?_ (by omega) (by omega)
  refine jT_xiconst (k := 0) (pcN := 117) jIQ_161_116 rfl ?_
  refine jT_xistore (v := (0, 0)) (LN := [(7, (0, 0)), (5, (1, q1)), (0, (4, 0)), (1, (0, r7)), (2, (0, r8)), (3, (4, 1)), (4, (0, o4))]) (pcN := 119) jIQ_161_117 rfl rfl rfl rfl ?_
  refine jT_xiload (v := (0, 0)) (pcN := 121) jIQ_161_119 rfl rfl rfl ?_
  refine jT_xbipush (k := 6) (pcN := 123) jIQ_161_121 (by decide) rfl ?_
  refine jT_xicF (t := 159) (pcN := 126) jIQ_161_123 rfl (by decide +kernel) rfl rfl ?_
  refine jT_xaload_n (v := (4, 0)) (pcN := 127) jIQ_161_126 rfl rfl rfl ?_
  refine jT_xgetf (a := 0) (t := 1) (ci := 13) (fi := 7) (c := jzQ_16) (v := (4, 9)) (pcN := 130) jIQ_161_127 rfl rfl rfl rfl rfl rfl rfl ?_
  refine jT_xiload (v := (0, 0)) (pcN := 132) jIQ_161_130 rfl rfl rfl ?_
  refine jT_xaload_n (v := (4, 1)) (pcN := 133) jIQ_161_132 rfl rfl rfl ?_
  refine jT_xgetf (a := 1) (t := 2) (ci := 4) (fi := 0) (c := (4, [(4, 13), (1, 1)], [])) (v := (4, 13)) (pcN := 136) jIQ_161_133 rfl rfl rfl rfl rfl rfl rfl ?_
  refine jT_xiload (v := (0, 0)) (pcN := 138) jIQ_161_136 rfl rfl rfl ?_
  refine jT_lald (x := 0) (a := 13) (j := 0) (fs := []) (X := [0, 0, 0, 0, 0, 0]) jIQ_161_138 rfl rfl rfl rfl ?_
  refine jT_eq (LN := [(7, (0, 0)), (5, (1, q1)), (0, (4, 0)), (1, (0, r7)), (2, (0, r8)), (3, (4, 1)), (4, (0, o4))]) (stN := [(1, 0), (0, 0), (4, 9)]) (hsN := [jzQ_16, (4, [(4, 13), (1, 1)], []), (8, [(4, 14), (4, 15)], []), jgh, jgh, jgh, jgh, jgh, jgh, (101, [], [-q1, r7, r8, 0, 0, 0]), (101, [], [k9_0, k9_1, k9_2, k9_3, k9_4, k9_5]), jgh, jgh, (101, [], [0, 0, 0, 0, 0, 0]), jgh, jgh]) rfl rfl rfl ?_
  refine jT_xaload_n (v := (4, 0)) (pcN := 140) jIQ_161_139 rfl rfl rfl ?_
  refine jT_xgetf (a := 0) (t := 1) (ci := 13) (fi := 7) (c := jzQ_16) (v := (4, 9)) (pcN := 143) jIQ_161_140 rfl rfl rfl rfl rfl rfl rfl ?_
  refine jT_xiload (v := (0, 0)) (pcN := 145) jIQ_161_143 rfl rfl rfl ?_
  refine jT_lald (x := -q1) (a := 9) (j := 0) (fs := []) (X := [-q1, r7, r8, 0, 0, 0]) jIQ_161_145 rfl rfl rfl rfl ?_
  refine jT_eq (LN := [(7, (0, 0)), (5, (1, q1)), (0, (4, 0)), (1, (0, r7)), (2, (0, r8)), (3, (4, 1)), (4, (0, o4))]) (stN := [(1, -q1), (1, 0), (0, 0), (4, 9)]) (hsN := [jzQ_16, (4, [(4, 13), (1, 1)], []), (8, [(4, 14), (4, 15)], []), jgh, jgh, jgh, jgh, jgh, jgh, (101, [], [-q1, r7, r8, 0, 0, 0]), (101, [], [k9_0, k9_1, k9_2, k9_3, k9_4, k9_5]), jgh, jgh, (101, [], [0, 0, 0, 0, 0, 0]), jgh, jgh]) rfl rfl rfl ?_
  refine jT_xaload_n (v := (4, 1)) (pcN := 147) jIQ_161_146 rfl rfl rfl ?_
  refine jT_xgetf (a := 1) (t := 2) (ci := 4) (fi := 1) (c := (4, [(4, 13), (1, 1)], [])) (v := (1, 1)) (pcN := 150) jIQ_161_147 rfl rfl rfl rfl rfl rfl rfl ?_
  refine jT_xlmul (x := -q1) (y := 1) (z := -q1) (pcN := 151) jIQ_161_150 rfl (by omega) rfl ?_
  refine jT_xlsub (x := 0) (y := -q1) (z := q1) (pcN := 152) jIQ_161_151 rfl (by omega) rfl ?_
  refine jT_adv 1 (pcN := 153) (LN := [(7, (0, 0)), (5, (1, q1)), (0, (4, 0)), (1, (0, r7)), (2, (0, r8)), (3, (4, 1)), (4, (0, o4))]) (stN := []) (hsN := [jzQ_16, (4, [(4, 13), (1, 1)], []), (8, [(4, 14), (4, 15)], []), jgh, jgh, jgh, jgh, jgh, jgh, (101, [], [q1, r7, r8, 0, 0, 0]), (101, [], [k9_0, k9_1, k9_2, k9_3, k9_4, k9_5]), jgh, jgh, (101, [], [0, 0, 0, 0, 0, 0]), jgh, jgh]) (c1 := 0) (s1 := 0) (c2 := 0) (s2 := 0) (by exact rfl) ?_ (by omega) (by omega)
  refine jT_xiinc (x := 0) (z := 1) (LN := [(7, (0, 1)), (5, (1, q1)), (0, (4, 0)), (1, (0, r7)), (2, (0, r8)), (3, (4, 1)), (4, (0, o4))]) (pcN := 156) jIQ_161_153 rfl rfl (by decide) rfl rfl ?_
  refine jT_xgoto (pcN := 119) jIQ_161_156 rfl ?_
  refine jT_xiload (v := (0, 1)) (pcN := 121) jIQ_161_119 rfl rfl rfl ?_
  refine jT_xbipush (k := 6) (pcN := 123) jIQ_161_121 (by decide) rfl ?_
  refine jT_xicF (t := 159) (pcN := 126) jIQ_161_123 rfl (by decide +kernel) rfl rfl ?_
  refine jT_xaload_n (v := (4, 0)) (pcN := 127) jIQ_161_126 rfl rfl rfl ?_
  refine jT_xgetf (a := 0) (t := 1) (ci := 13) (fi := 7) (c := jzQ_16) (v := (4, 9)) (pcN := 130) jIQ_161_127 rfl rfl rfl rfl rfl rfl rfl ?_
  refine jT_xiload (v := (0, 1)) (pcN := 132) jIQ_161_130 rfl rfl rfl ?_
  refine jT_xaload_n (v := (4, 1)) (pcN := 133) jIQ_161_132 rfl rfl rfl ?_
  refine jT_xgetf (a := 1) (t := 2) (ci := 4) (fi := 0) (c := (4, [(4, 13), (1, 1)], [])) (v := (4, 13)) (pcN := 136) jIQ_161_133 rfl rfl rfl rfl rfl rfl rfl ?_
  refine jT_xiload (v := (0, 1)) (pcN := 138) jIQ_161_136 rfl rfl rfl ?_
  refine jT_lald (x := 0) (a := 13) (j := 1) (fs := []) (X := [0, 0, 0, 0, 0, 0]) jIQ_161_138 rfl rfl rfl rfl ?_
  refine jT_eq (LN := [(7, (0, 1)), (5, (1, q1)), (0, (4, 0)), (1, (0, r7)), (2, (0, r8)), (3, (4, 1)), (4, (0, o4))]) (stN := [(1, 0), (0, 1), (4, 9)]) (hsN := [jzQ_16, (4, [(4, 13), (1, 1)], []), (8, [(4, 14), (4, 15)], []), jgh, jgh, jgh, jgh, jgh, jgh, (101, [], [q1, r7, r8, 0, 0, 0]), (101, [], [k9_0, k9_1, k9_2, k9_3, k9_4, k9_5]), jgh, jgh, (101, [], [0, 0, 0, 0, 0, 0]), jgh, jgh]) rfl rfl rfl ?_
  refine jT_xaload_n (v := (4, 0)) (pcN := 140) jIQ_161_139 rfl rfl rfl ?_
  refine jT_xgetf (a := 0) (t := 1) (ci := 13) (fi := 7) (c := jzQ_16) (v := (4, 9)) (pcN := 143) jIQ_161_140 rfl rfl rfl rfl rfl rfl rfl ?_
  refine jT_xiload (v := (0, 1)) (pcN := 145) jIQ_161_143 rfl rfl rfl ?_
  refine jT_lald (x := r7) (a := 9) (j := 1) (fs := []) (X := [q1, r7, r8, 0, 0, 0]) jIQ_161_145 rfl rfl rfl rfl ?_
  refine jT_eq (LN := [(7, (0, 1)), (5, (1, q1)), (0, (4, 0)), (1, (0, r7)), (2, (0, r8)), (3, (4, 1)), (4, (0, o4))]) (stN := [(1, r7), (1, 0), (0, 1), (4, 9)]) (hsN := [jzQ_16, (4, [(4, 13), (1, 1)], []), (8, [(4, 14), (4, 15)], []), jgh, jgh, jgh, jgh, jgh, jgh, (101, [], [q1, r7, r8, 0, 0, 0]), (101, [], [k9_0, k9_1, k9_2, k9_3, k9_4, k9_5]), jgh, jgh, (101, [], [0, 0, 0, 0, 0, 0]), jgh, jgh]) rfl rfl rfl ?_
  refine jT_xaload_n (v := (4, 1)) (pcN := 147) jIQ_161_146 rfl rfl rfl ?_
  refine jT_xgetf (a := 1) (t := 2) (ci := 4) (fi := 1) (c := (4, [(4, 13), (1, 1)], [])) (v := (1, 1)) (pcN := 150) jIQ_161_147 rfl rfl rfl rfl rfl rfl rfl ?_
  refine jT_xlmul (x := r7) (y := 1) (z := r7) (pcN := 151) jIQ_161_150 rfl (by omega) rfl ?_
  refine jT_xlsub (x := 0) (y := r7) (z := -r7) (pcN := 152) jIQ_161_151 rfl (by omega) rfl ?_
  refine jT_adv 1 (pcN := 153) (LN := [(7, (0, 1)), (5, (1, q1)), (0, (4, 0)), (1, (0, r7)), (2, (0, r8)), (3, (4, 1)), (4, (0, o4))]) (stN := []) (hsN := [jzQ_16, (4, [(4, 13), (1, 1)], []), (8, [(4, 14), (4, 15)], []), jgh, jgh, jgh, jgh, jgh, jgh, (101, [], [q1, -r7, r8, 0, 0, 0]), (101, [], [k9_0, k9_1, k9_2, k9_3, k9_4, k9_5]), jgh, jgh, (101, [], [0, 0, 0, 0, 0, 0]), jgh, jgh]) (c1 := 0) (s1 := 0) (c2 := 0) (s2 := 0) (by exact rfl) ?_ (by omega) (by omega)
  refine jT_xiinc (x := 1) (z := 2) (LN := [(7, (0, 2)), (5, (1, q1)), (0, (4, 0)), (1, (0, r7)), (2, (0, r8)), (3, (4, 1)), (4, (0, o4))]) (pcN := 156) jIQ_161_153 rfl rfl (by decide) rfl rfl ?_
  refine jT_xgoto (pcN := 119) jIQ_161_156 rfl ?_
  refine jT_xiload (v := (0, 2)) (pcN := 121) jIQ_161_119 rfl rfl rfl ?_
  refine jT_xbipush (k := 6) (pcN := 123) jIQ_161_121 (by decide) rfl ?_
  refine jT_xicF (t := 159) (pcN := 126) jIQ_161_123 rfl (by decide +kernel) rfl rfl ?_
  refine jT_xaload_n (v := (4, 0)) (pcN := 127) jIQ_161_126 rfl rfl rfl ?_
  refine jT_xgetf (a := 0) (t := 1) (ci := 13) (fi := 7) (c := jzQ_16) (v := (4, 9)) (pcN := 130) jIQ_161_127 rfl rfl rfl rfl rfl rfl rfl ?_
  refine jT_xiload (v := (0, 2)) (pcN := 132) jIQ_161_130 rfl rfl rfl ?_
  refine jT_xaload_n (v := (4, 1)) (pcN := 133) jIQ_161_132 rfl rfl rfl ?_
  refine jT_xgetf (a := 1) (t := 2) (ci := 4) (fi := 0) (c := (4, [(4, 13), (1, 1)], [])) (v := (4, 13)) (pcN := 136) jIQ_161_133 rfl rfl rfl rfl rfl rfl rfl ?_
  refine jT_xiload (v := (0, 2)) (pcN := 138) jIQ_161_136 rfl rfl rfl ?_
  refine jT_lald (x := 0) (a := 13) (j := 2) (fs := []) (X := [0, 0, 0, 0, 0, 0]) jIQ_161_138 rfl rfl rfl rfl ?_
  refine jT_eq (LN := [(7, (0, 2)), (5, (1, q1)), (0, (4, 0)), (1, (0, r7)), (2, (0, r8)), (3, (4, 1)), (4, (0, o4))]) (stN := [(1, 0), (0, 2), (4, 9)]) (hsN := [jzQ_16, (4, [(4, 13), (1, 1)], []), (8, [(4, 14), (4, 15)], []), jgh, jgh, jgh, jgh, jgh, jgh, (101, [], [q1, -r7, r8, 0, 0, 0]), (101, [], [k9_0, k9_1, k9_2, k9_3, k9_4, k9_5]), jgh, jgh, (101, [], [0, 0, 0, 0, 0, 0]), jgh, jgh]) rfl rfl rfl ?_
  refine jT_xaload_n (v := (4, 0)) (pcN := 140) jIQ_161_139 rfl rfl rfl ?_
  refine jT_xgetf (a := 0) (t := 1) (ci := 13) (fi := 7) (c := jzQ_16) (v := (4, 9)) (pcN := 143) jIQ_161_140 rfl rfl rfl rfl rfl rfl rfl ?_
  refine jT_xiload (v := (0, 2)) (pcN := 145) jIQ_161_143 rfl rfl rfl ?_
  refine jT_lald (x := r8) (a := 9) (j := 2) (fs := []) (X := [q1, -r7, r8, 0, 0, 0]) jIQ_161_145 rfl rfl rfl rfl ?_
  refine jT_eq (LN := [(7, (0, 2)), (5, (1, q1)), (0, (4, 0)), (1, (0, r7)), (2, (0, r8)), (3, (4, 1)), (4, (0, o4))]) (stN := [(1, r8), (1, 0), (0, 2), (4, 9)]) (hsN := [jzQ_16, (4, [(4, 13), (1, 1)], []), (8, [(4, 14), (4, 15)], []), jgh, jgh, jgh, jgh, jgh, jgh, (101, [], [q1, -r7, r8, 0, 0, 0]), (101, [], [k9_0, k9_1, k9_2, k9_3, k9_4, k9_5]), jgh, jgh, (101, [], [0, 0, 0, 0, 0, 0]), jgh, jgh]) rfl rfl rfl ?_
  refine jT_xaload_n (v := (4, 1)) (pcN := 147) jIQ_161_146 rfl rfl rfl ?_
  refine jT_xgetf (a := 1) (t := 2) (ci := 4) (fi := 1) (c := (4, [(4, 13), (1, 1)], [])) (v := (1, 1)) (pcN := 150) jIQ_161_147 rfl rfl rfl rfl rfl rfl rfl ?_
  refine jT_xlmul (x := r8) (y := 1) (z := r8) (pcN := 151) jIQ_161_150 rfl (by omega) rfl ?_
  refine jT_xlsub (x := 0) (y := r8) (z := -r8) (pcN := 152) jIQ_161_151 rfl (by omega) rfl ?_
  refine jT_adv 1 (pcN := 153) (LN := [(7, (0, 2)), (5, (1, q1)), (0, (4, 0)), (1, (0, r7)), (2, (0, r8)), (3, (4, 1)), (4, (0, o4))]) (stN := []) (hsN := [jzQ_16, (4, [(4, 13), (1, 1)], []), (8, [(4, 14), (4, 15)], []), jgh, jgh, jgh, jgh, jgh, jgh, (101, [], [q1, -r7, -r8, 0, 0, 0]), (101, [], [k9_0, k9_1, k9_2, k9_3, k9_4, k9_5]), jgh, jgh, (101, [], [0, 0, 0, 0, 0, 0]), jgh, jgh]) (c1 := 0) (s1 := 0) (c2 := 0) (s2 := 0) (by exact rfl) ?_ (by omega) (by omega)
  refine jT_xiinc (x := 2) (z := 3) (LN := [(7, (0, 3)), (5, (1, q1)), (0, (4, 0)), (1, (0, r7)), (2, (0, r8)), (3, (4, 1)), (4, (0, o4))]) (pcN := 156) jIQ_161_153 rfl rfl (by decide) rfl rfl ?_
  refine jT_xgoto (pcN := 119) jIQ_161_156 rfl ?_
  refine jT_xiload (v := (0, 3)) (pcN := 121) jIQ_161_119 rfl rfl rfl ?_
  refine jT_xbipush (k := 6) (pcN := 123) jIQ_161_121 (by decide) rfl ?_
  refine jT_xicF (t := 159) (pcN := 126) jIQ_161_123 rfl (by decide +kernel) rfl rfl ?_
  refine jT_xaload_n (v := (4, 0)) (pcN := 127) jIQ_161_126 rfl rfl rfl ?_
  refine jT_xgetf (a := 0) (t := 1) (ci := 13) (fi := 7) (c := jzQ_16) (v := (4, 9)) (pcN := 130) jIQ_161_127 rfl rfl rfl rfl rfl rfl rfl ?_
  refine jT_xiload (v := (0, 3)) (pcN := 132) jIQ_161_130 rfl rfl rfl ?_
  refine jT_xaload_n (v := (4, 1)) (pcN := 133) jIQ_161_132 rfl rfl rfl ?_
  refine jT_xgetf (a := 1) (t := 2) (ci := 4) (fi := 0) (c := (4, [(4, 13), (1, 1)], [])) (v := (4, 13)) (pcN := 136) jIQ_161_133 rfl rfl rfl rfl rfl rfl rfl ?_
  refine jT_xiload (v := (0, 3)) (pcN := 138) jIQ_161_136 rfl rfl rfl ?_
  refine jT_lald (x := 0) (a := 13) (j := 3) (fs := []) (X := [0, 0, 0, 0, 0, 0]) jIQ_161_138 rfl rfl rfl rfl ?_
  refine jT_eq (LN := [(7, (0, 3)), (5, (1, q1)), (0, (4, 0)), (1, (0, r7)), (2, (0, r8)), (3, (4, 1)), (4, (0, o4))]) (stN := [(1, 0), (0, 3), (4, 9)]) (hsN := [jzQ_16, (4, [(4, 13), (1, 1)], []), (8, [(4, 14), (4, 15)], []), jgh, jgh, jgh, jgh, jgh, jgh, (101, [], [q1, -r7, -r8, 0, 0, 0]), (101, [], [k9_0, k9_1, k9_2, k9_3, k9_4, k9_5]), jgh, jgh, (101, [], [0, 0, 0, 0, 0, 0]), jgh, jgh]) rfl rfl rfl ?_
  refine jT_xaload_n (v := (4, 0)) (pcN := 140) jIQ_161_139 rfl rfl rfl ?_
  refine jT_xgetf (a := 0) (t := 1) (ci := 13) (fi := 7) (c := jzQ_16) (v := (4, 9)) (pcN := 143) jIQ_161_140 rfl rfl rfl rfl rfl rfl rfl ?_
  refine jT_xiload (v := (0, 3)) (pcN := 145) jIQ_161_143 rfl rfl rfl ?_
  refine jT_lald (x := 0) (a := 9) (j := 3) (fs := []) (X := [q1, -r7, -r8, 0, 0, 0]) jIQ_161_145 rfl rfl rfl rfl ?_
  refine jT_eq (LN := [(7, (0, 3)), (5, (1, q1)), (0, (4, 0)), (1, (0, r7)), (2, (0, r8)), (3, (4, 1)), (4, (0, o4))]) (stN := [(1, 0), (1, 0), (0, 3), (4, 9)]) (hsN := [jzQ_16, (4, [(4, 13), (1, 1)], []), (8, [(4, 14), (4, 15)], []), jgh, jgh, jgh, jgh, jgh, jgh, (101, [], [q1, -r7, -r8, 0, 0, 0]), (101, [], [k9_0, k9_1, k9_2, k9_3, k9_4, k9_5]), jgh, jgh, (101, [], [0, 0, 0, 0, 0, 0]), jgh, jgh]) rfl rfl rfl ?_
  refine jT_xaload_n (v := (4, 1)) (pcN := 147) jIQ_161_146 rfl rfl rfl ?_
  refine jT_xgetf (a := 1) (t := 2) (ci := 4) (fi := 1) (c := (4, [(4, 13), (1, 1)], [])) (v := (1, 1)) (pcN := 150) jIQ_161_147 rfl rfl rfl rfl rfl rfl rfl ?_
  refine jT_xlmul (x := 0) (y := 1) (z := 0) (pcN := 151) jIQ_161_150 rfl (by decide) rfl ?_
  refine jT_xlsub (x := 0) (y := 0) (z := 0) (pcN := 152) jIQ_161_151 rfl (by decide) rfl ?_
  refine jT_adv 1 (pcN := 153) (LN := [(7, (0, 3)), (5, (1, q1)), (0, (4, 0)), (1, (0, r7)), (2, (0, r8)), (3, (4, 1)), (4, (0, o4))]) (stN := []) (hsN := [jzQ_16, (4, [(4, 13), (1, 1)], []), (8, [(4, 14), (4, 15)], []), jgh, jgh, jgh, jgh, jgh, jgh, (101, [], [q1, -r7, -r8, 0, 0, 0]), (101, [], [k9_0, k9_1, k9_2, k9_3, k9_4, k9_5]), jgh, jgh, (101, [], [0, 0, 0, 0, 0, 0]), jgh, jgh]) (c1 := 0) (s1 := 0) (c2 := 0) (s2 := 0) (by exact rfl) ?_ (by omega) (by omega)
  refine jT_xiinc (x := 3) (z := 4) (LN := [(7, (0, 4)), (5, (1, q1)), (0, (4, 0)), (1, (0, r7)), (2, (0, r8)), (3, (4, 1)), (4, (0, o4))]) (pcN := 156) jIQ_161_153 rfl rfl (by decide) rfl rfl ?_
  refine jT_xgoto (pcN := 119) jIQ_161_156 rfl ?_
  refine jT_xiload (v := (0, 4)) (pcN := 121) jIQ_161_119 rfl rfl rfl ?_
  refine jT_xbipush (k := 6) (pcN := 123) jIQ_161_121 (by decide) rfl ?_
  refine jT_xicF (t := 159) (pcN := 126) jIQ_161_123 rfl (by decide +kernel) rfl rfl ?_
  refine jT_xaload_n (v := (4, 0)) (pcN := 127) jIQ_161_126 rfl rfl rfl ?_
  refine jT_xgetf (a := 0) (t := 1) (ci := 13) (fi := 7) (c := jzQ_16) (v := (4, 9)) (pcN := 130) jIQ_161_127 rfl rfl rfl rfl rfl rfl rfl ?_
  refine jT_xiload (v := (0, 4)) (pcN := 132) jIQ_161_130 rfl rfl rfl ?_
  refine jT_xaload_n (v := (4, 1)) (pcN := 133) jIQ_161_132 rfl rfl rfl ?_
  refine jT_xgetf (a := 1) (t := 2) (ci := 4) (fi := 0) (c := (4, [(4, 13), (1, 1)], [])) (v := (4, 13)) (pcN := 136) jIQ_161_133 rfl rfl rfl rfl rfl rfl rfl ?_
  refine jT_xiload (v := (0, 4)) (pcN := 138) jIQ_161_136 rfl rfl rfl ?_
  refine jT_lald (x := 0) (a := 13) (j := 4) (fs := []) (X := [0, 0, 0, 0, 0, 0]) jIQ_161_138 rfl rfl rfl rfl ?_
  refine jT_eq (LN := [(7, (0, 4)), (5, (1, q1)), (0, (4, 0)), (1, (0, r7)), (2, (0, r8)), (3, (4, 1)), (4, (0, o4))]) (stN := [(1, 0), (0, 4), (4, 9)]) (hsN := [jzQ_16, (4, [(4, 13), (1, 1)], []), (8, [(4, 14), (4, 15)], []), jgh, jgh, jgh, jgh, jgh, jgh, (101, [], [q1, -r7, -r8, 0, 0, 0]), (101, [], [k9_0, k9_1, k9_2, k9_3, k9_4, k9_5]), jgh, jgh, (101, [], [0, 0, 0, 0, 0, 0]), jgh, jgh]) rfl rfl rfl ?_
  refine jT_xaload_n (v := (4, 0)) (pcN := 140) jIQ_161_139 rfl rfl rfl ?_
  refine jT_xgetf (a := 0) (t := 1) (ci := 13) (fi := 7) (c := jzQ_16) (v := (4, 9)) (pcN := 143) jIQ_161_140 rfl rfl rfl rfl rfl rfl rfl ?_
  refine jT_xiload (v := (0, 4)) (pcN := 145) jIQ_161_143 rfl rfl rfl ?_
  refine jT_lald (x := 0) (a := 9) (j := 4) (fs := []) (X := [q1, -r7, -r8, 0, 0, 0]) jIQ_161_145 rfl rfl rfl rfl ?_
  refine jT_eq (LN := [(7, (0, 4)), (5, (1, q1)), (0, (4, 0)), (1, (0, r7)), (2, (0, r8)), (3, (4, 1)), (4, (0, o4))]) (stN := [(1, 0), (1, 0), (0, 4), (4, 9)]) (hsN := [jzQ_16, (4, [(4, 13), (1, 1)], []), (8, [(4, 14), (4, 15)], []), jgh, jgh, jgh, jgh, jgh, jgh, (101, [], [q1, -r7, -r8, 0, 0, 0]), (101, [], [k9_0, k9_1, k9_2, k9_3, k9_4, k9_5]), jgh, jgh, (101, [], [0, 0, 0, 0, 0, 0]), jgh, jgh]) rfl rfl rfl ?_
  refine jT_xaload_n (v := (4, 1)) (pcN := 147) jIQ_161_146 rfl rfl rfl ?_
  refine jT_xgetf (a := 1) (t := 2) (ci := 4) (fi := 1) (c := (4, [(4, 13), (1, 1)], [])) (v := (1, 1)) (pcN := 150) jIQ_161_147 rfl rfl rfl rfl rfl rfl rfl ?_
  refine jT_xlmul (x := 0) (y := 1) (z := 0) (pcN := 151) jIQ_161_150 rfl (by decide) rfl ?_
  refine jT_xlsub (x := 0) (y := 0) (z := 0) (pcN := 152) jIQ_161_151 rfl (by decide) rfl ?_
  refine jT_adv 1 (pcN := 153) (LN := [(7, (0, 4)), (5, (1, q1)), (0, (4, 0)), (1, (0, r7)), (2, (0, r8)), (3, (4, 1)), (4, (0, o4))]) (stN := []) (hsN := [jzQ_16, (4, [(4, 13), (1, 1)], []), (8, [(4, 14), (4, 15)], []), jgh, jgh, jgh, jgh, jgh, jgh, (101, [], [q1, -r7, -r8, 0, 0, 0]), (101, [], [k9_0, k9_1, k9_2, k9_3, k9_4, k9_5]), jgh, jgh, (101, [], [0, 0, 0, 0, 0, 0]), jgh, jgh]) (c1 := 0) (s1 := 0) (c2 := 0) (s2 := 0) (by exact rfl) ?_ (by omega) (by omega)
  refine jT_xiinc (x := 4) (z := 5) (LN := [(7, (0, 5)), (5, (1, q1)), (0, (4, 0)), (1, (0, r7)), (2, (0, r8)), (3, (4, 1)), (4, (0, o4))]) (pcN := 156) jIQ_161_153 rfl rfl (by decide) rfl rfl ?_
  refine jT_xgoto (pcN := 119) jIQ_161_156 rfl ?_
  refine jT_xiload (v := (0, 5)) (pcN := 121) jIQ_161_119 rfl rfl rfl ?_
  refine jT_xbipush (k := 6) (pcN := 123) jIQ_161_121 (by decide) rfl ?_
  refine jT_xicF (t := 159) (pcN := 126) jIQ_161_123 rfl (by decide +kernel) rfl rfl ?_
  refine jT_xaload_n (v := (4, 0)) (pcN := 127) jIQ_161_126 rfl rfl rfl ?_
  refine jT_xgetf (a := 0) (t := 1) (ci := 13) (fi := 7) (c := jzQ_16) (v := (4, 9)) (pcN := 130) jIQ_161_127 rfl rfl rfl rfl rfl rfl rfl ?_
  refine jT_xiload (v := (0, 5)) (pcN := 132) jIQ_161_130 rfl rfl rfl ?_
  refine jT_xaload_n (v := (4, 1)) (pcN := 133) jIQ_161_132 rfl rfl rfl ?_
  refine jT_xgetf (a := 1) (t := 2) (ci := 4) (fi := 0) (c := (4, [(4, 13), (1, 1)], [])) (v := (4, 13)) (pcN := 136) jIQ_161_133 rfl rfl rfl rfl rfl rfl rfl ?_
  refine jT_xiload (v := (0, 5)) (pcN := 138) jIQ_161_136 rfl rfl rfl ?_
  refine jT_lald (x := 0) (a := 13) (j := 5) (fs := []) (X := [0, 0, 0, 0, 0, 0]) jIQ_161_138 rfl rfl rfl rfl ?_
  refine jT_eq (LN := [(7, (0, 5)), (5, (1, q1)), (0, (4, 0)), (1, (0, r7)), (2, (0, r8)), (3, (4, 1)), (4, (0, o4))]) (stN := [(1, 0), (0, 5), (4, 9)]) (hsN := [jzQ_16, (4, [(4, 13), (1, 1)], []), (8, [(4, 14), (4, 15)], []), jgh, jgh, jgh, jgh, jgh, jgh, (101, [], [q1, -r7, -r8, 0, 0, 0]), (101, [], [k9_0, k9_1, k9_2, k9_3, k9_4, k9_5]), jgh, jgh, (101, [], [0, 0, 0, 0, 0, 0]), jgh, jgh]) rfl rfl rfl ?_
  refine jT_xaload_n (v := (4, 0)) (pcN := 140) jIQ_161_139 rfl rfl rfl ?_
  refine jT_xgetf (a := 0) (t := 1) (ci := 13) (fi := 7) (c := jzQ_16) (v := (4, 9)) (pcN := 143) jIQ_161_140 rfl rfl rfl rfl rfl rfl rfl ?_
  refine jT_xiload (v := (0, 5)) (pcN := 145) jIQ_161_143 rfl rfl rfl ?_
  refine jT_lald (x := 0) (a := 9) (j := 5) (fs := []) (X := [q1, -r7, -r8, 0, 0, 0]) jIQ_161_145 rfl rfl rfl rfl ?_
  refine jT_eq (LN := [(7, (0, 5)), (5, (1, q1)), (0, (4, 0)), (1, (0, r7)), (2, (0, r8)), (3, (4, 1)), (4, (0, o4))]) (stN := [(1, 0), (1, 0), (0, 5), (4, 9)]) (hsN := [jzQ_16, (4, [(4, 13), (1, 1)], []), (8, [(4, 14), (4, 15)], []), jgh, jgh, jgh, jgh, jgh, jgh, (101, [], [q1, -r7, -r8, 0, 0, 0]), (101, [], [k9_0, k9_1, k9_2, k9_3, k9_4, k9_5]), jgh, jgh, (101, [], [0, 0, 0, 0, 0, 0]), jgh, jgh]) rfl rfl rfl ?_
  refine jT_xaload_n (v := (4, 1)) (pcN := 147) jIQ_161_146 rfl rfl rfl ?_
  refine jT_xgetf (a := 1) (t := 2) (ci := 4) (fi := 1) (c := (4, [(4, 13), (1, 1)], [])) (v := (1, 1)) (pcN := 150) jIQ_161_147 rfl rfl rfl rfl rfl rfl rfl ?_
  refine jT_xlmul (x := 0) (y := 1) (z := 0) (pcN := 151) jIQ_161_150 rfl (by decide) rfl ?_
  refine jT_xlsub (x := 0) (y := 0) (z := 0) (pcN := 152) jIQ_161_151 rfl (by decide) rfl ?_
  refine jT_adv 1 (pcN := 153) (LN := [(7, (0, 5)), (5, (1, q1)), (0, (4, 0)), (1, (0, r7)), (2, (0, r8)), (3, (4, 1)), (4, (0, o4))]) (stN := []) (hsN := [jzQ_16, (4, [(4, 13), (1, 1)], []), (8, [(4, 14), (4, 15)], []), jgh, jgh, jgh, jgh, jgh, jgh, (101, [], [q1, -r7, -r8, 0, 0, 0]), (101, [], [k9_0, k9_1, k9_2, k9_3, k9_4, k9_5]), jgh, jgh, (101, [], [0, 0, 0, 0, 0, 0]), jgh, jgh]) (c1 := 0) (s1 := 0) (c2 := 0) (s2 := 0) (by exact rfl) ?_ (by omega) (by omega)
  refine jT_xiinc (x := 5) (z := 6) (LN := [(7, (0, 6)), (5, (1, q1)), (0, (4, 0)), (1, (0, r7)), (2, (0, r8)), (3, (4, 1)), (4, (0, o4))]) (pcN := 156) jIQ_161_153 rfl rfl (by decide) rfl rfl ?_
  refine jT_xgoto (pcN := 119) jIQ_161_156 rfl ?_
  refine jT_xiload (v := (0, 6)) (pcN := 121) jIQ_161_119 rfl rfl rfl ?_
  refine jT_xbipush (k := 6) (pcN := 123) jIQ_161_121 (by decide) rfl ?_
  refine jT_xicT (pcN := 159) jIQ_161_123 rfl (by decide +kernel) rfl ?_
  refine jT_xaload_n (v := (4, 0)) (pcN := 160) jIQ_161_159 rfl rfl rfl ?_
  refine jT_xgetf (a := 0) (t := 1) (ci := 13) (fi := 0) (c := jzQ_16) (v := (4, 2)) (pcN := 163) jIQ_161_160 rfl rfl rfl rfl rfl rfl rfl ?_
  refine jT_xaload_n (v := (4, 0)) (pcN := 164) jIQ_161_163 rfl rfl rfl ?_
  refine jT_xgetf (a := 0) (t := 1) (ci := 13) (fi := 7) (c := jzQ_16) (v := (4, 9)) (pcN := 167) jIQ_161_164 rfl rfl rfl rfl rfl rfl rfl ?_
  refine jT_callA [2, 9, 14, 15] (y := 38) (pcN := 170) (dC := 1) (bc1 := 0) (bc2 := 0) (c1 := 0) (c2 := 0) (as := [(4, 2), (4, 9)]) (asC := [(4, 0), (4, 1)]) (LN := [(7, (0, 6)), (5, (1, q1)), (0, (4, 0)), (1, (0, r7)), (2, (0, r8)), (3, (4, 1)), (4, (0, o4))]) (stN := []) (hsC := [(8, [(4, 2), (4, 3)], []), (101, [], [q1, -r7, -r8, 0, 0, 0]), jgh, jgh]) (ex := []) (v := (0, (-1))) (st2 := [(0, (-1))]) (hs2 := [jzQ_16, (4, [(4, 13), (1, 1)], []), (8, [(4, 14), (4, 15)], []), jgh, jgh, jgh, jgh, jgh, jgh, (101, [], [q1, -r7, -r8, 0, 0, 0]), (101, [], [k9_0, k9_1, k9_2, k9_3, k9_4, k9_5]), jgh, jgh, (101, [], [0, 0, 0, 0, 0, 0]), jgh, jgh]) (jQl_sp38_117 (d := 0) (by omega) (by omega) (by omega) (by omega) (by omega) (by omega) (by omega)) (by rfl) (by rfl) (by rfl) (by rfl) ⟨rfl, rfl, rfl, rfl, trivial⟩ (by rfl) (by rfl) (by omega) (by show 16 ≤ 16; omega) (by omega) (by omega) rfl rfl ?_
  refine jT_xifT (pcN := 177) jIQ_161_170 rfl (by decide +kernel) rfl ?_
  refine jT_xiconst (k := 0) (pcN := 178) jIQ_161_177 rfl ?_
  subst hq_q4
  subst hq_q3
  subst hq_q2
  subst hq_q1
  exact jT_ret rfl (by decide) (by show 16 ≤ 16; omega) (by omega) (by omega) ⟨rfl, rfl, rfl⟩
theorem jQ_161_245 {xs : List Int} {d : Nat} {k9_0 k9_1 k9_2 k9_3 k9_4 k9_5 o4 r7 r8 u8_0 u8_1 u8_2 u8_3 u8_4 u8_5 : Int} (h_k9_0 : 1 ≤ k9_0 ∧ k9_0 ≤ 100) (h_k9_1 : 2 ≤ k9_1 ∧ k9_1 ≤ 158) (h_k9_2 : 2 ≤ k9_2 ∧ k9_2 ≤ 232) (h_k9_3 : 3 ≤ k9_3 ∧ k9_3 ≤ 281) (h_k9_4 : 3 ≤ k9_4 ∧ k9_4 ≤ 346) (h_k9_5 : 4 ≤ k9_5 ∧ k9_5 ≤ 370) (h_o4 : 1 ≤ o4 ∧ o4 ≤ 100) (h_r7 : (-20) ≤ r7 ∧ r7 ≤ 20) (h_r8 : (-10) ≤ r8 ∧ r8 ≤ 10) (g_0 : r7 < 0) (g_1 : 0 ≤ -(((108917793695 * r7 + 159561683699 * r8) / 68719476736) * o4) + (r7 * k9_1) + (r8 * k9_2) - 1) : jT xs (d + 2) 161 15 0 [(0, (4, 0)), (1, (0, r7)), (2, (0, r8)), (3, (4, 1)), (4, (0, o4))] [] [jzQ_16, jgh, (8, [(4, 13), (4, 14)], []), jgh, jgh, jgh, jgh, jgh, jgh, (101, [], [u8_0, u8_1, u8_2, u8_3, u8_4, u8_5]), (101, [], [k9_0, k9_1, k9_2, k9_3, k9_4, k9_5]), jgh, jgh, jgh, jgh] 0 0 (fun k v hsN => k = 0 ∧ v = (0, 0) ∧ hsN = [jzQ_16, jgh, (8, [(4, 13), (4, 14)], []), jgh, jgh, jgh, jgh, jgh, jgh, (101, [], [0, r7, r8, 0, 0, 0]), (101, [], [k9_0, k9_1, k9_2, k9_3, k9_4, k9_5]), jgh, jgh, jgh, jgh]) := by
  refine jT_xiload_n (v := (0, r7)) (pcN := 1) jIQ_161_0 rfl rfl rfl ?_
  refine jT_ifT (a := r7) (t := 10) (by rfl) (by rfl) (by rfl) (jw_idd (by omega) (by omega)) (by simp only [jcP] <;> omega) ?_
  refine jT_xiconst (k := 0) (pcN := 11) jIQ_161_10 rfl ?_
  refine jT_xistore (v := (0, 0)) (LN := [(5, (0, 0)), (0, (4, 0)), (1, (0, r7)), (2, (0, r8)), (3, (4, 1)), (4, (0, o4))]) (pcN := 13) jIQ_161_11 rfl rfl rfl rfl ?_
  refine jT_xiload (v := (0, 0)) (pcN := 15) jIQ_161_13 rfl rfl rfl ?_
  refine jT_xbipush (k := 6) (pcN := 17) jIQ_161_15 (by decide) rfl ?_
  refine jT_xicF (t := 56) (pcN := 20) jIQ_161_17 rfl (by decide +kernel) rfl rfl ?_
  refine jT_xaload_n (v := (4, 0)) (pcN := 21) jIQ_161_20 rfl rfl rfl ?_
  refine jT_xgetf (a := 0) (t := 1) (ci := 13) (fi := 7) (c := jzQ_16) (v := (4, 9)) (pcN := 24) jIQ_161_21 rfl rfl rfl rfl rfl rfl rfl ?_
  refine jT_xiload (v := (0, 0)) (pcN := 26) jIQ_161_24 rfl rfl rfl ?_
  refine jT_xiload (v := (0, 0)) (pcN := 28) jIQ_161_26 rfl rfl rfl ?_
  refine jT_xiconst (k := 1) (pcN := 29) jIQ_161_28 rfl ?_
  refine jT_xicT (pcN := 37) jIQ_161_29 rfl (by decide +kernel) rfl ?_
  refine jT_xiload (v := (0, 0)) (pcN := 39) jIQ_161_37 rfl rfl rfl ?_
  refine jT_xiconst (k := 2) (pcN := 40) jIQ_161_39 rfl ?_
  refine jT_xicT (pcN := 48) jIQ_161_40 rfl (by decide +kernel) rfl ?_
  refine jT_xlconst (z := 0) (pcN := 49) jIQ_161_48 rfl rfl ?_
  refine jT_adv 1 (pcN := 50) (LN := [(5, (0, 0)), (0, (4, 0)), (1, (0, r7)), (2, (0, r8)), (3, (4, 1)), (4, (0, o4))]) (stN := []) (hsN := [jzQ_16, jgh, (8, [(4, 13), (4, 14)], []), jgh, jgh, jgh, jgh, jgh, jgh, (101, [], [0, u8_1, u8_2, u8_3, u8_4, u8_5]), (101, [], [k9_0, k9_1, k9_2, k9_3, k9_4, k9_5]), jgh, jgh, jgh, jgh]) (c1 := 0) (s1 := 0) (c2 := 0) (s2 := 0) (by exact rfl) ?_ (by omega) (by omega)
  refine jT_xiinc (x := 0) (z := 1) (LN := [(5, (0, 1)), (0, (4, 0)), (1, (0, r7)), (2, (0, r8)), (3, (4, 1)), (4, (0, o4))]) (pcN := 53) jIQ_161_50 rfl rfl (by decide) rfl rfl ?_
  refine jT_xgoto (pcN := 13) jIQ_161_53 rfl ?_
  refine jT_xiload (v := (0, 1)) (pcN := 15) jIQ_161_13 rfl rfl rfl ?_
  refine jT_xbipush (k := 6) (pcN := 17) jIQ_161_15 (by decide) rfl ?_
  refine jT_xicF (t := 56) (pcN := 20) jIQ_161_17 rfl (by decide +kernel) rfl rfl ?_
  refine jT_xaload_n (v := (4, 0)) (pcN := 21) jIQ_161_20 rfl rfl rfl ?_
  refine jT_xgetf (a := 0) (t := 1) (ci := 13) (fi := 7) (c := jzQ_16) (v := (4, 9)) (pcN := 24) jIQ_161_21 rfl rfl rfl rfl rfl rfl rfl ?_
  refine jT_xiload (v := (0, 1)) (pcN := 26) jIQ_161_24 rfl rfl rfl ?_
  refine jT_xiload (v := (0, 1)) (pcN := 28) jIQ_161_26 rfl rfl rfl ?_
  refine jT_xiconst (k := 1) (pcN := 29) jIQ_161_28 rfl ?_
  refine jT_xicF (t := 37) (pcN := 32) jIQ_161_29 rfl (by decide +kernel) rfl rfl ?_
  refine jT_xiload_n (v := (0, r7)) (pcN := 33) jIQ_161_32 rfl rfl rfl ?_
  refine jT_xi2l (x := r7) (z := r7) (pcN := 34) jIQ_161_33 rfl (jw_idd (by omega) (by omega)) rfl ?_
  refine jT_xgoto (pcN := 49) jIQ_161_34 rfl ?_
  refine jT_adv 1 (pcN := 50) (LN := [(5, (0, 1)), (0, (4, 0)), (1, (0, r7)), (2, (0, r8)), (3, (4, 1)), (4, (0, o4))]) (stN := []) (hsN := [jzQ_16, jgh, (8, [(4, 13), (4, 14)], []), jgh, jgh, jgh, jgh, jgh, jgh, (101, [], [0, r7, u8_2, u8_3, u8_4, u8_5]), (101, [], [k9_0, k9_1, k9_2, k9_3, k9_4, k9_5]), jgh, jgh, jgh, jgh]) (c1 := 0) (s1 := 0) (c2 := 0) (s2 := 0) (by exact rfl) ?_ (by omega) (by omega)
  refine jT_xiinc (x := 1) (z := 2) (LN := [(5, (0, 2)), (0, (4, 0)), (1, (0, r7)), (2, (0, r8)), (3, (4, 1)), (4, (0, o4))]) (pcN := 53) jIQ_161_50 rfl rfl (by decide) rfl rfl ?_
  refine jT_xgoto (pcN := 13) jIQ_161_53 rfl ?_
  refine jT_xiload (v := (0, 2)) (pcN := 15) jIQ_161_13 rfl rfl rfl ?_
  refine jT_xbipush (k := 6) (pcN := 17) jIQ_161_15 (by decide) rfl ?_
  refine jT_xicF (t := 56) (pcN := 20) jIQ_161_17 rfl (by decide +kernel) rfl rfl ?_
  refine jT_xaload_n (v := (4, 0)) (pcN := 21) jIQ_161_20 rfl rfl rfl ?_
  refine jT_xgetf (a := 0) (t := 1) (ci := 13) (fi := 7) (c := jzQ_16) (v := (4, 9)) (pcN := 24) jIQ_161_21 rfl rfl rfl rfl rfl rfl rfl ?_
  refine jT_xiload (v := (0, 2)) (pcN := 26) jIQ_161_24 rfl rfl rfl ?_
  refine jT_xiload (v := (0, 2)) (pcN := 28) jIQ_161_26 rfl rfl rfl ?_
  refine jT_xiconst (k := 1) (pcN := 29) jIQ_161_28 rfl ?_
  refine jT_xicT (pcN := 37) jIQ_161_29 rfl (by decide +kernel) rfl ?_
  refine jT_xiload (v := (0, 2)) (pcN := 39) jIQ_161_37 rfl rfl rfl ?_
  refine jT_xiconst (k := 2) (pcN := 40) jIQ_161_39 rfl ?_
  refine jT_xicF (t := 48) (pcN := 43) jIQ_161_40 rfl (by decide +kernel) rfl rfl ?_
  refine jT_xiload_n (v := (0, r8)) (pcN := 44) jIQ_161_43 rfl rfl rfl ?_
  refine jT_xi2l (x := r8) (z := r8) (pcN := 45) jIQ_161_44 rfl (jw_idd (by omega) (by omega)) rfl ?_
  refine jT_xgoto (pcN := 49) jIQ_161_45 rfl ?_
  refine jT_adv 1 (pcN := 50) (LN := [(5, (0, 2)), (0, (4, 0)), (1, (0, r7)), (2, (0, r8)), (3, (4, 1)), (4, (0, o4))]) (stN := []) (hsN := [jzQ_16, jgh, (8, [(4, 13), (4, 14)], []), jgh, jgh, jgh, jgh, jgh, jgh, (101, [], [0, r7, r8, u8_3, u8_4, u8_5]), (101, [], [k9_0, k9_1, k9_2, k9_3, k9_4, k9_5]), jgh, jgh, jgh, jgh]) (c1 := 0) (s1 := 0) (c2 := 0) (s2 := 0) (by exact rfl) ?_ (by omega) (by omega)
  refine jT_xiinc (x := 2) (z := 3) (LN := [(5, (0, 3)), (0, (4, 0)), (1, (0, r7)), (2, (0, r8)), (3, (4, 1)), (4, (0, o4))]) (pcN := 53) jIQ_161_50 rfl rfl (by decide) rfl rfl ?_
  refine jT_xgoto (pcN := 13) jIQ_161_53 rfl ?_
  refine jT_xiload (v := (0, 3)) (pcN := 15) jIQ_161_13 rfl rfl rfl ?_
  refine jT_xbipush (k := 6) (pcN := 17) jIQ_161_15 (by decide) rfl ?_
  refine jT_xicF (t := 56) (pcN := 20) jIQ_161_17 rfl (by decide +kernel) rfl rfl ?_
  refine jT_xaload_n (v := (4, 0)) (pcN := 21) jIQ_161_20 rfl rfl rfl ?_
  refine jT_xgetf (a := 0) (t := 1) (ci := 13) (fi := 7) (c := jzQ_16) (v := (4, 9)) (pcN := 24) jIQ_161_21 rfl rfl rfl rfl rfl rfl rfl ?_
  refine jT_xiload (v := (0, 3)) (pcN := 26) jIQ_161_24 rfl rfl rfl ?_
  refine jT_xiload (v := (0, 3)) (pcN := 28) jIQ_161_26 rfl rfl rfl ?_
  refine jT_xiconst (k := 1) (pcN := 29) jIQ_161_28 rfl ?_
  refine jT_xicT (pcN := 37) jIQ_161_29 rfl (by decide +kernel) rfl ?_
  refine jT_xiload (v := (0, 3)) (pcN := 39) jIQ_161_37 rfl rfl rfl ?_
  refine jT_xiconst (k := 2) (pcN := 40) jIQ_161_39 rfl ?_
  refine jT_xicT (pcN := 48) jIQ_161_40 rfl (by decide +kernel) rfl ?_
  refine jT_xlconst (z := 0) (pcN := 49) jIQ_161_48 rfl rfl ?_
  refine jT_adv 1 (pcN := 50) (LN := [(5, (0, 3)), (0, (4, 0)), (1, (0, r7)), (2, (0, r8)), (3, (4, 1)), (4, (0, o4))]) (stN := []) (hsN := [jzQ_16, jgh, (8, [(4, 13), (4, 14)], []), jgh, jgh, jgh, jgh, jgh, jgh, (101, [], [0, r7, r8, 0, u8_4, u8_5]), (101, [], [k9_0, k9_1, k9_2, k9_3, k9_4, k9_5]), jgh, jgh, jgh, jgh]) (c1 := 0) (s1 := 0) (c2 := 0) (s2 := 0) (by exact rfl) ?_ (by omega) (by omega)
  refine jT_xiinc (x := 3) (z := 4) (LN := [(5, (0, 4)), (0, (4, 0)), (1, (0, r7)), (2, (0, r8)), (3, (4, 1)), (4, (0, o4))]) (pcN := 53) jIQ_161_50 rfl rfl (by decide) rfl rfl ?_
  refine jT_xgoto (pcN := 13) jIQ_161_53 rfl ?_
  refine jT_xiload (v := (0, 4)) (pcN := 15) jIQ_161_13 rfl rfl rfl ?_
  refine jT_xbipush (k := 6) (pcN := 17) jIQ_161_15 (by decide) rfl ?_
  refine jT_xicF (t := 56) (pcN := 20) jIQ_161_17 rfl (by decide +kernel) rfl rfl ?_
  refine jT_xaload_n (v := (4, 0)) (pcN := 21) jIQ_161_20 rfl rfl rfl ?_
  refine jT_xgetf (a := 0) (t := 1) (ci := 13) (fi := 7) (c := jzQ_16) (v := (4, 9)) (pcN := 24) jIQ_161_21 rfl rfl rfl rfl rfl rfl rfl ?_
  refine jT_xiload (v := (0, 4)) (pcN := 26) jIQ_161_24 rfl rfl rfl ?_
  refine jT_xiload (v := (0, 4)) (pcN := 28) jIQ_161_26 rfl rfl rfl ?_
  refine jT_xiconst (k := 1) (pcN := 29) jIQ_161_28 rfl ?_
  refine jT_xicT (pcN := 37) jIQ_161_29 rfl (by decide +kernel) rfl ?_
  refine jT_xiload (v := (0, 4)) (pcN := 39) jIQ_161_37 rfl rfl rfl ?_
  refine jT_xiconst (k := 2) (pcN := 40) jIQ_161_39 rfl ?_
  refine jT_xicT (pcN := 48) jIQ_161_40 rfl (by decide +kernel) rfl ?_
  refine jT_xlconst (z := 0) (pcN := 49) jIQ_161_48 rfl rfl ?_
  refine jT_adv 1 (pcN := 50) (LN := [(5, (0, 4)), (0, (4, 0)), (1, (0, r7)), (2, (0, r8)), (3, (4, 1)), (4, (0, o4))]) (stN := []) (hsN := [jzQ_16, jgh, (8, [(4, 13), (4, 14)], []), jgh, jgh, jgh, jgh, jgh, jgh, (101, [], [0, r7, r8, 0, 0, u8_5]), (101, [], [k9_0, k9_1, k9_2, k9_3, k9_4, k9_5]), jgh, jgh, jgh, jgh]) (c1 := 0) (s1 := 0) (c2 := 0) (s2 := 0) (by exact rfl) ?_ (by omega) (by omega)
  refine jT_xiinc (x := 4) (z := 5) (LN := [(5, (0, 5)), (0, (4, 0)), (1, (0, r7)), (2, (0, r8)), (3, (4, 1)), (4, (0, o4))]) (pcN := 53) jIQ_161_50 rfl rfl (by decide) rfl rfl ?_
  refine jT_xgoto (pcN := 13) jIQ_161_53 rfl ?_
  refine jT_xiload (v := (0, 5)) (pcN := 15) jIQ_161_13 rfl rfl rfl ?_
  refine jT_xbipush (k := 6) (pcN := 17) jIQ_161_15 (by decide) rfl ?_
  refine jT_xicF (t := 56) (pcN := 20) jIQ_161_17 rfl (by decide +kernel) rfl rfl ?_
  refine jT_xaload_n (v := (4, 0)) (pcN := 21) jIQ_161_20 rfl rfl rfl ?_
  refine jT_xgetf (a := 0) (t := 1) (ci := 13) (fi := 7) (c := jzQ_16) (v := (4, 9)) (pcN := 24) jIQ_161_21 rfl rfl rfl rfl rfl rfl rfl ?_
  refine jT_xiload (v := (0, 5)) (pcN := 26) jIQ_161_24 rfl rfl rfl ?_
  refine jT_xiload (v := (0, 5)) (pcN := 28) jIQ_161_26 rfl rfl rfl ?_
  refine jT_xiconst (k := 1) (pcN := 29) jIQ_161_28 rfl ?_
  refine jT_xicT (pcN := 37) jIQ_161_29 rfl (by decide +kernel) rfl ?_
  refine jT_xiload (v := (0, 5)) (pcN := 39) jIQ_161_37 rfl rfl rfl ?_
  refine jT_xiconst (k := 2) (pcN := 40) jIQ_161_39 rfl ?_
  refine jT_xicT (pcN := 48) jIQ_161_40 rfl (by decide +kernel) rfl ?_
  refine jT_xlconst (z := 0) (pcN := 49) jIQ_161_48 rfl rfl ?_
  refine jT_adv 1 (pcN := 50) (LN := [(5, (0, 5)), (0, (4, 0)), (1, (0, r7)), (2, (0, r8)), (3, (4, 1)), (4, (0, o4))]) (stN := []) (hsN := [jzQ_16, jgh, (8, [(4, 13), (4, 14)], []), jgh, jgh, jgh, jgh, jgh, jgh, (101, [], [0, r7, r8, 0, 0, 0]), (101, [], [k9_0, k9_1, k9_2, k9_3, k9_4, k9_5]), jgh, jgh, jgh, jgh]) (c1 := 0) (s1 := 0) (c2 := 0) (s2 := 0) (by exact rfl) ?_ (by omega) (by omega)
  refine jT_xiinc (x := 5) (z := 6) (LN := [(5, (0, 6)), (0, (4, 0)), (1, (0, r7)), (2, (0, r8)), (3, (4, 1)), (4, (0, o4))]) (pcN := 53) jIQ_161_50 rfl rfl (by decide) rfl rfl ?_
  refine jT_xgoto (pcN := 13) jIQ_161_53 rfl ?_
  refine jT_xiload (v := (0, 6)) (pcN := 15) jIQ_161_13 rfl rfl rfl ?_
  refine jT_xbipush (k := 6) (pcN := 17) jIQ_161_15 (by decide) rfl ?_
  refine jT_xicT (pcN := 56) jIQ_161_17 rfl (by decide +kernel) rfl ?_
  refine jT_xaload_n (v := (4, 0)) (pcN := 57) jIQ_161_56 rfl rfl rfl ?_
  refine jT_xgetf (a := 0) (t := 1) (ci := 13) (fi := 0) (c := jzQ_16) (v := (4, 2)) (pcN := 60) jIQ_161_57 rfl rfl rfl rfl rfl rfl rfl ?_
  refine jT_xaload_n (v := (4, 0)) (pcN := 61) jIQ_161_60 rfl rfl rfl ?_
  refine jT_xgetf (a := 0) (t := 1) (ci := 13) (fi := 7) (c := jzQ_16) (v := (4, 9)) (pcN := 64) jIQ_161_61 rfl rfl rfl rfl rfl rfl rfl ?_
  refine jT_xlconst (z := 1) (pcN := 65) jIQ_161_64 rfl rfl ?_
  refine jT_xlconst (z := 1) (pcN := 66) jIQ_161_65 rfl rfl ?_
  refine jT_callA [2, 9, 13, 14] (y := 45) (pcN := 69) (dC := 1) (bc1 := 0) (bc2 := 0) (c1 := 0) (c2 := 0) (as := [(4, 2), (4, 9), (1, 1), (1, 1)]) (asC := [(4, 0), (4, 1), (1, 1), (1, 1)]) (LN := [(5, (0, 6)), (0, (4, 0)), (1, (0, r7)), (2, (0, r8)), (3, (4, 1)), (4, (0, o4))]) (stN := []) (hsC := [(8, [(4, 2), (4, 3)], []), (101, [], [0, r7, r8, 0, 0, 0]), jgh, jgh]) (ex := []) (v := (1, (108917793695 * r7 + 159561683699 * r8) / 68719476736)) (st2 := [(1, (108917793695 * r7 + 159561683699 * r8) / 68719476736)]) (hs2 := [jzQ_16, jgh, (8, [(4, 13), (4, 14)], []), jgh, jgh, jgh, jgh, jgh, jgh, (101, [], [0, r7, r8, 0, 0, 0]), (101, [], [k9_0, k9_1, k9_2, k9_3, k9_4, k9_5]), jgh, jgh, jgh, jgh]) (jQl_sp45_116 (d := 0) (by omega) (by omega)) (by rfl) (by rfl) (by rfl) (by rfl) ⟨rfl, rfl, rfl, rfl, trivial⟩ (by rfl) (by rfl) (by omega) (by show 15 ≤ 15; omega) (by omega) (by omega) rfl rfl ?_
  have hb_q1 : (-60) ≤ (108917793695 * r7 + 159561683699 * r8) / 68719476736 ∧ (108917793695 * r7 + 159561683699 * r8) / 68719476736 ≤ 60 := ⟨by omega, by omega⟩
  generalize hq_q1 : (108917793695 * r7 + 159561683699 * r8) / 68719476736 = q1 at hb_q1 g_1 ⊢
  refine jT_xlstore (v := (1, q1)) (LN := [(5, (1, q1)), (0, (4, 0)), (1, (0, r7)), (2, (0, r8)), (3, (4, 1)), (4, (0, o4))]) (pcN := 71) jIQ_161_69 rfl rfl rfl rfl ?_
  have g_2 : 0 ≤ (-68719476736) * q1 + 108917793694 * r7 + 159561683698 * r8 - 1 := by have := jcg (b := r7) (c := r8) (by omega) (by omega) (by omega); rw [hq_q1] at this; omega
  have g_3 : 0 ≤ (-68719476736) * q1 + 108917793694 * r7 + 159561683700 * r8 - 1 := by have := jcg (b := r7) (c := r8) (by omega) (by omega) (by omega); rw [hq_q1] at this; omega
  have g_4 : 0 ≤ (-68719476736) * q1 + 108917793696 * r7 + 159561683698 * r8 - 1 := by have := jcg (b := r7) (c := r8) (by omega) (by omega) (by omega); rw [hq_q1] at this; omega
  have g_5 : 0 ≤ (-68719476736) * q1 + 108917793696 * r7 + 159561683700 * r8 - 1 := by have := jcg (b := r7) (c := r8) (by omega) (by omega) (by omega); rw [hq_q1] at this; omega
  refine jT_xiload (v := (0, o4)) (pcN := 73) jIQ_161_71 rfl rfl rfl ?_
  refine jT_ifF (a := o4) (t := 107) (by rfl) (by rfl) (by rfl) (jw_idd (by omega) (by omega)) (by simp only [jcP] <;> omega) ?_
  refine jT_xiload_n (v := (0, r7)) (pcN := 77) jIQ_161_76 rfl rfl rfl ?_
  refine jT_xi2l (x := r7) (z := r7) (pcN := 78) jIQ_161_77 rfl (jw_idd (by omega) (by omega)) rfl ?_
  refine jT_xaload_n (v := (4, 0)) (pcN := 79) jIQ_161_78 rfl rfl rfl ?_
  refine jT_xgetf (a := 0) (t := 1) (ci := 13) (fi := 8) (c := jzQ_16) (v := (4, 10)) (pcN := 82) jIQ_161_79 rfl rfl rfl rfl rfl rfl rfl ?_
  refine jT_xiconst (k := 1) (pcN := 83) jIQ_161_82 rfl ?_
  refine jT_lald (x := k9_1) (a := 10) (j := 1) (fs := []) (X := [k9_0, k9_1, k9_2, k9_3, k9_4, k9_5]) jIQ_161_83 rfl rfl rfl rfl ?_
  refine jT_eq (LN := [(5, (1, q1)), (0, (4, 0)), (1, (0, r7)), (2, (0, r8)), (3, (4, 1)), (4, (0, o4))]) (stN := [(1, k9_1), (1, r7)]) (hsN := [jzQ_16, jgh, (8, [(4, 13), (4, 14)], []), jgh, jgh, jgh, jgh, jgh, jgh, (101, [], [0, r7, r8, 0, 0, 0]), (101, [], [k9_0, k9_1, k9_2, k9_3, k9_4, k9_5]), jgh, jgh, jgh, jgh]) rfl rfl rfl ?_
  refine jT_xlmul (x := r7) (y := k9_1) (z := r7 * k9_1) (pcN := 85) jIQ_161_84 rfl rfl rfl ?_
  have hb_q2 := jmul_bs (x := r7) (y := k9_1) (m := 20) (n := 158) (by omega) (by omega) (by omega) (by omega)
  have hb_q2 : (-3160) ≤ r7 * k9_1 ∧ r7 * k9_1 ≤ 3160 := ⟨by omega, by omega⟩
  generalize hq_q2 : r7 * k9_1 = q2 at hb_q2 g_1 ⊢
  refine jT_xiload_n (v := (0, r8)) (pcN := 86) jIQ_161_85 rfl rfl rfl ?_
  refine jT_xi2l (x := r8) (z := r8) (pcN := 87) jIQ_161_86 rfl (jw_idd (by omega) (by omega)) rfl ?_
  refine jT_xaload_n (v := (4, 0)) (pcN := 88) jIQ_161_87 rfl rfl rfl ?_
  refine jT_xgetf (a := 0) (t := 1) (ci := 13) (fi := 8) (c := jzQ_16) (v := (4, 10)) (pcN := 91) jIQ_161_88 rfl rfl rfl rfl rfl rfl rfl ?_
  refine jT_xiconst (k := 2) (pcN := 92) jIQ_161_91 rfl ?_
  refine jT_lald (x := k9_2) (a := 10) (j := 2) (fs := []) (X := [k9_0, k9_1, k9_2, k9_3, k9_4, k9_5]) jIQ_161_92 rfl rfl rfl rfl ?_
  refine jT_eq (LN := [(5, (1, q1)), (0, (4, 0)), (1, (0, r7)), (2, (0, r8)), (3, (4, 1)), (4, (0, o4))]) (stN := [(1, k9_2), (1, r8), (1, q2)]) (hsN := [jzQ_16, jgh, (8, [(4, 13), (4, 14)], []), jgh, jgh, jgh, jgh, jgh, jgh, (101, [], [0, r7, r8, 0, 0, 0]), (101, [], [k9_0, k9_1, k9_2, k9_3, k9_4, k9_5]), jgh, jgh, jgh, jgh]) rfl rfl rfl ?_
  refine jT_xlmul (x := r8) (y := k9_2) (z := r8 * k9_2) (pcN := 94) jIQ_161_93 rfl rfl rfl ?_
  have hb_q3 := jmul_bs (x := r8) (y := k9_2) (m := 10) (n := 232) (by omega) (by omega) (by omega) (by omega)
  have hb_q3 : (-2320) ≤ r8 * k9_2 ∧ r8 * k9_2 ≤ 2320 := ⟨by omega, by omega⟩
  generalize hq_q3 : r8 * k9_2 = q3 at hb_q3 g_1 ⊢
  refine jT_xladd (x := q2) (y := q3) (z := q2 + q3) (pcN := 95) jIQ_161_94 rfl (rfl) rfl ?_
  refine jT_xlload (v := (1, q1)) (pcN := 97) jIQ_161_95 rfl rfl rfl ?_
  refine jT_xiload (v := (0, o4)) (pcN := 99) jIQ_161_97 rfl rfl rfl ?_
  refine jT_xi2l (x := o4) (z := o4) (pcN := 100) jIQ_161_99 rfl (jw_idd (by omega) (by omega)) rfl ?_
  refine jT_xlmul (x := q1) (y := o4) (z := q1 * o4) (pcN := 101) jIQ_161_100 rfl rfl rfl ?_
  have hb_q4 := jmul_bs (x := q1) (y := o4) (m := 60) (n := 100) (by omega) (by omega) (by omega) (by omega)
  have hb_q4 : (-6000) ≤ q1 * o4 ∧ q1 * o4 ≤ 6000 := ⟨by omega, by omega⟩
  generalize hq_q4 : q1 * o4 = q4 at hb_q4 g_1 ⊢
  refine jT_lcmp (a := q2 + q3) (b := q4) (z := 1) (by rfl) (by rfl) (jwl_idd (by omega) (by omega)) (jwl_idd (by omega) (by omega)) (by rw [decide_eq_true (show (q4 : Int) < q2 + q3 by omega)]; rfl) ?_
  refine jT_xifF (t := 107) (pcN := 105) jIQ_161_102 rfl (by decide +kernel) rfl rfl ?_
  refine jT_xiconst (k := 0) (pcN := 106) jIQ_161_105 rfl ?_
  subst hq_q4
  subst hq_q3
  subst hq_q2
  subst hq_q1
  exact jT_ret rfl (by decide) (by show 15 ≤ 15; omega) (by omega) (by omega) ⟨rfl, rfl, rfl⟩
set_option maxHeartbeats 20000000 in
theorem jQl_gc_247 {xs : List Int} {d b1 b2 : Nat} {Q : Nat → JV → List JC → Prop} (hd : 3 < d) {y1 y2 r7 o4 k9_0 k9_1 k9_2 k9_3 k9_4 k9_5 : Int} (h_y1 : 0 ≤ y1 ∧ y1 ≤ 20) (h_y2 : 0 ≤ y2 ∧ y2 ≤ 10) (h_r7 : (-20) ≤ r7 ∧ r7 ≤ 20) (h_o4 : 1 ≤ o4 ∧ o4 ≤ 100) (h_k9_0 : 1 ≤ k9_0 ∧ k9_0 ≤ 100) (h_k9_1 : 2 ≤ k9_1 ∧ k9_1 ≤ 158) (h_k9_2 : 2 ≤ k9_2 ∧ k9_2 ≤ 232) (h_k9_3 : 3 ≤ k9_3 ∧ k9_3 ≤ 281) (h_k9_4 : 3 ≤ k9_4 ∧ k9_4 ≤ 346) (h_k9_5 : 4 ≤ k9_5 ∧ k9_5 ≤ 370) (h : ∀ (u8_0 u8_1 u8_2 u8_3 u8_4 u8_5 : Int), jT xs d 160 21 137 [(7, (0, r7)), (6, (0, 0)), (5, (4, 19)), (0, (4, 0)), (1, (0, y1)), (2, (0, y2)), (4, (0, o4))] [] [jzQ_7, (8, [(4, 12), (4, 13)], []), jgh, jgh, jgh, jgh, jgh, jgh, (101, [], [u8_0, u8_1, u8_2, u8_3, u8_4, u8_5]), (101, [], [k9_0, k9_1, k9_2, k9_3, k9_4, k9_5]), jgh, jzQ_296, jgh, (101, [], [0, 0, 0, 0, 0, 0]), jzQ_297, jgh, jgh, jgh, jgh, (4, [(4, 20), (1, 1)], []), (101, [], [0, 0, 0, 0, 0, 0]), (101, [], [1, 0, 0, 0, 0, 0]), (4, [(4, 21), (1, 1)], [])] b1 b2 Q) : ∀ (q : Nat) (r8 u8_0 u8_1 u8_2 u8_3 u8_4 u8_5 : Int), -y2 ≤ r8 → r8 + (q : Int) = y2 + 1 → jT xs d 160 21 100 [(8, (0, r8)), (7, (0, r7)), (6, (0, 0)), (5, (4, 19)), (0, (4, 0)), (1, (0, y1)), (2, (0, y2)), (4, (0, o4))] [] [jzQ_7, (8, [(4, 12), (4, 13)], []), jgh, jgh, jgh, jgh, jgh, jgh, (101, [], [u8_0, u8_1, u8_2, u8_3, u8_4, u8_5]), (101, [], [k9_0, k9_1, k9_2, k9_3, k9_4, k9_5]), jgh, jzQ_296, jgh, (101, [], [0, 0, 0, 0, 0, 0]), jzQ_297, jgh, jgh, jgh, jgh, (4, [(4, 20), (1, 1)], []), (101, [], [0, 0, 0, 0, 0, 0]), (101, [], [1, 0, 0, 0, 0, 0]), (4, [(4, 21), (1, 1)], [])] (b1 + 0 * q) (b2 + 0 * q) Q := by
  intro q
  induction q with
  | zero =>
    intro r8 u8_0 u8_1 u8_2 u8_3 u8_4 u8_5 h0 ht
    have e : r8 = y2 + 1 := by omega
    subst r8
    refine jT.mono (b1 := b1) (b2 := b2) ?_ (Nat.le_refl _) (by omega) (by omega) (fun _ _ _ z => z)
    refine jT_xiload (v := (0, y2 + 1)) (pcN := 102) jIQ_160_100 rfl rfl rfl ?_
    refine jT_xiload_n (v := (0, y2)) (pcN := 103) jIQ_160_102 rfl rfl rfl ?_
    refine jT_icT (a := y2 + 1) (b := y2) (t := 137) (by rfl) (by rfl) (by rfl) (jw_idd (by omega) (by omega)) (jw_idd (by omega) (by omega)) (by simp only [jcP] <;> omega) ?_
    refine jT_loc (LN := [(7, (0, r7)), (6, (0, 0)), (5, (4, 19)), (0, (4, 0)), (1, (0, y1)), (2, (0, y2)), (4, (0, o4))]) (by show List.Nodup [7, 6, 5, 0, 1, 2, 4]; decide) (by intro q hq; simp only [List.mem_cons, List.not_mem_nil, or_false] at hq; rcases hq with rfl | rfl | rfl | rfl | rfl | rfl | rfl <;> rfl) ?_
    exact h u8_0 u8_1 u8_2 u8_3 u8_4 u8_5
  | succ q ih =>
    intro r8 u8_0 u8_1 u8_2 u8_3 u8_4 u8_5 h0 ht
    have h_r8 : (-10) ≤ r8 ∧ r8 ≤ 10 := by omega
    have g_0 : r8 - y2 ≤ 0 := by omega
    refine jT.mono (b1 := b1 + 0 * q + 0) (b2 := b2 + 0 * q + 0) ?_ (Nat.le_refl _) (by omega) (by omega) (fun _ _ _ z => z)
    rcases (show (r7 < 0) ∨ (0 ≤ r7 ∧ r7 ≤ 0) ∨ (0 < r7) by omega) with g_1 | ⟨g_1, g_2⟩ | g_1
    · rcases (show (0 ≤ -(((108917793695 * r7 + 159561683699 * r8) / 68719476736) * o4) + (r7 * k9_1) + (r8 * k9_2) - 1) ∨ (-(((108917793695 * r7 + 159561683699 * r8) / 68719476736) * o4) + (r7 * k9_1) + (r8 * k9_2) - 1 < 0) by omega) with g_2 | g_2
      · refine jT_xiload (v := (0, r8)) (pcN := 102) jIQ_160_100 rfl rfl rfl ?_
        refine jT_xiload_n (v := (0, y2)) (pcN := 103) jIQ_160_102 rfl rfl rfl ?_
        refine jT_icF (a := r8) (b := y2) (t := 137) (by rfl) (by rfl) (by rfl) (jw_idd (by omega) (by omega)) (jw_idd (by omega) (by omega)) (by simp only [jcP] <;> omega) ?_
        refine jT_xiload (v := (0, 0)) (pcN := 108) jIQ_160_106 rfl rfl rfl ?_
        refine jT_xaload_n (v := (4, 0)) (pcN := 109) jIQ_160_108 rfl rfl rfl ?_
        refine jT_xiload (v := (0, r7)) (pcN := 111) jIQ_160_109 rfl rfl rfl ?_
        refine jT_xiload (v := (0, r8)) (pcN := 113) jIQ_160_111 rfl rfl rfl ?_
        refine jT_xaload (v := (4, 19)) (pcN := 115) jIQ_160_113 rfl rfl rfl ?_
        refine jT_xiload (v := (0, o4)) (pcN := 117) jIQ_160_115 rfl rfl rfl ?_
        refine jT_callB [0, 19, 1, 2, 3, 4, 5, 6, 7, 8, 9, 10, 11, 12, 13] (y := 161) (pcN := 120) (dC := 2) (bc1 := 0) (bc2 := 0) (c1 := (b1 + 0 * q + 0)) (c2 := (b2 + 0 * q + 0)) (as := [(4, 0), (0, r7), (0, r8), (4, 19), (0, o4)]) (asC := [(4, 0), (0, r7), (0, r8), (4, 1), (0, o4)]) (LN := [(8, (0, r8)), (7, (0, r7)), (6, (0, 0)), (5, (4, 19)), (0, (4, 0)), (1, (0, y1)), (2, (0, y2)), (4, (0, o4))]) (stN := [(0, 0)]) (hsC := [jzQ_16, jgh, (8, [(4, 13), (4, 14)], []), jgh, jgh, jgh, jgh, jgh, jgh, (101, [], [u8_0, u8_1, u8_2, u8_3, u8_4, u8_5]), (101, [], [k9_0, k9_1, k9_2, k9_3, k9_4, k9_5]), jgh, jgh, jgh, jgh]) (hsD := [jzQ_16, jgh, (8, [(4, 13), (4, 14)], []), jgh, jgh, jgh, jgh, jgh, jgh, (101, [], [0, r7, r8, 0, 0, 0]), (101, [], [k9_0, k9_1, k9_2, k9_3, k9_4, k9_5]), jgh, jgh, jgh, jgh]) (v := (0, 0)) (st2 := [(0, 0), (0, 0)]) (hs2 := [jzQ_7, (8, [(4, 12), (4, 13)], []), jgh, jgh, jgh, jgh, jgh, jgh, (101, [], [0, r7, r8, 0, 0, 0]), (101, [], [k9_0, k9_1, k9_2, k9_3, k9_4, k9_5]), jgh, jzQ_296, jgh, (101, [], [0, 0, 0, 0, 0, 0]), jzQ_297, jgh, jgh, jgh, jgh, (4, [(4, 20), (1, 1)], []), (101, [], [0, 0, 0, 0, 0, 0]), (101, [], [1, 0, 0, 0, 0, 0]), (4, [(4, 21), (1, 1)], [])]) (jQ_161_245 (d := 0) (by omega) (by omega) (by omega) (by omega) (by omega) (by omega) (by omega) (by omega) (by omega) (by omega) (by omega)) (by rfl) (by rfl) (by rfl) (by rfl) ⟨rfl, rfl, rfl, rfl, rfl, rfl, rfl, rfl, rfl, rfl, rfl, rfl, rfl, rfl, rfl, trivial⟩ (by rfl) (by rfl) (by omega) (by show 21 ≤ 23; omega) (by omega) (by omega) rfl rfl ?_
        refine jT_xifT (pcN := 127) jIQ_160_120 rfl (by decide +kernel) rfl ?_
        refine jT_xiconst (k := 0) (pcN := 128) jIQ_160_127 rfl ?_
        refine jT_xiadd (x := 0) (y := 0) (z := 0) (pcN := 129) jIQ_160_128 rfl (by decide) rfl ?_
        refine jT_xistore (v := (0, 0)) (LN := [(6, (0, 0)), (8, (0, r8)), (7, (0, r7)), (5, (4, 19)), (0, (4, 0)), (1, (0, y1)), (2, (0, y2)), (4, (0, o4))]) (pcN := 131) jIQ_160_129 rfl rfl rfl rfl ?_
        refine jT_xiinc (x := r8) (z := r8 + 1) (LN := [(8, (0, r8 + 1)), (6, (0, 0)), (7, (0, r7)), (5, (4, 19)), (0, (4, 0)), (1, (0, y1)), (2, (0, y2)), (4, (0, o4))]) (pcN := 134) jIQ_160_131 rfl rfl (rfl) rfl rfl ?_
        refine jT_xgoto (pcN := 100) jIQ_160_134 rfl ?_
        refine jT_loc (LN := [(8, (0, r8 + 1)), (7, (0, r7)), (6, (0, 0)), (5, (4, 19)), (0, (4, 0)), (1, (0, y1)), (2, (0, y2)), (4, (0, o4))]) (by show List.Nodup [8, 7, 6, 5, 0, 1, 2, 4]; decide) (by intro q hq; simp only [List.mem_cons, List.not_mem_nil, or_false] at hq; rcases hq with rfl | rfl | rfl | rfl | rfl | rfl | rfl | rfl <;> rfl) ?_
        exact ih (r8 + 1) 0 r7 r8 0 0 0 (by omega) (by omega)
      · rcases (show (0 ≤ -(((108917793695 * r7 + 159561683699 * r8) / 68719476736) * o4) + (r7 * k9_1) + (r8 * k9_2)) ∨ (-(((108917793695 * r7 + 159561683699 * r8) / 68719476736) * o4) + (r7 * k9_1) + (r8 * k9_2) < 0) by omega) with g_3 | g_3
        · refine jT_xiload (v := (0, r8)) (pcN := 102) jIQ_160_100 rfl rfl rfl ?_
          refine jT_xiload_n (v := (0, y2)) (pcN := 103) jIQ_160_102 rfl rfl rfl ?_
          refine jT_icF (a := r8) (b := y2) (t := 137) (by rfl) (by rfl) (by rfl) (jw_idd (by omega) (by omega)) (jw_idd (by omega) (by omega)) (by simp only [jcP] <;> omega) ?_
          refine jT_xiload (v := (0, 0)) (pcN := 108) jIQ_160_106 rfl rfl rfl ?_
          refine jT_xaload_n (v := (4, 0)) (pcN := 109) jIQ_160_108 rfl rfl rfl ?_
          refine jT_xiload (v := (0, r7)) (pcN := 111) jIQ_160_109 rfl rfl rfl ?_
          refine jT_xiload (v := (0, r8)) (pcN := 113) jIQ_160_111 rfl rfl rfl ?_
          refine jT_xaload (v := (4, 19)) (pcN := 115) jIQ_160_113 rfl rfl rfl ?_
          refine jT_xiload (v := (0, o4)) (pcN := 117) jIQ_160_115 rfl rfl rfl ?_
          refine jT_callB [0, 19, 1, 2, 3, 4, 5, 6, 7, 8, 9, 10, 11, 20, 12, 13] (y := 161) (pcN := 120) (dC := 2) (bc1 := 0) (bc2 := 0) (c1 := (b1 + 0 * q + 0)) (c2 := (b2 + 0 * q + 0)) (as := [(4, 0), (0, r7), (0, r8), (4, 19), (0, o4)]) (asC := [(4, 0), (0, r7), (0, r8), (4, 1), (0, o4)]) (LN := [(8, (0, r8)), (7, (0, r7)), (6, (0, 0)), (5, (4, 19)), (0, (4, 0)), (1, (0, y1)), (2, (0, y2)), (4, (0, o4))]) (stN := [(0, 0)]) (hsC := [jzQ_16, (4, [(4, 13), (1, 1)], []), (8, [(4, 14), (4, 15)], []), jgh, jgh, jgh, jgh, jgh, jgh, (101, [], [u8_0, u8_1, u8_2, u8_3, u8_4, u8_5]), (101, [], [k9_0, k9_1, k9_2, k9_3, k9_4, k9_5]), jgh, jgh, (101, [], [0, 0, 0, 0, 0, 0]), jgh, jgh]) (hsD := [jzQ_16, (4, [(4, 13), (1, 1)], []), (8, [(4, 14), (4, 15)], []), jgh, jgh, jgh, jgh, jgh, jgh, (101, [], [(108917793695 * r7 + 159561683699 * r8) / 68719476736, -r7, -r8, 0, 0, 0]), (101, [], [k9_0, k9_1, k9_2, k9_3, k9_4, k9_5]), jgh, jgh, (101, [], [0, 0, 0, 0, 0, 0]), jgh, jgh]) (v := (0, 0)) (st2 := [(0, 0), (0, 0)]) (hs2 := [jzQ_7, (8, [(4, 12), (4, 13)], []), jgh, jgh, jgh, jgh, jgh, jgh, (101, [], [(108917793695 * r7 + 159561683699 * r8) / 68719476736, -r7, -r8, 0, 0, 0]), (101, [], [k9_0, k9_1, k9_2, k9_3, k9_4, k9_5]), jgh, jzQ_296, jgh, (101, [], [0, 0, 0, 0, 0, 0]), jzQ_297, jgh, jgh, jgh, jgh, (4, [(4, 20), (1, 1)], []), (101, [], [0, 0, 0, 0, 0, 0]), (101, [], [1, 0, 0, 0, 0, 0]), (4, [(4, 21), (1, 1)], [])]) (jQ_161_244 (d := 0) (by omega) (by omega) (by omega) (by omega) (by omega) (by omega) (by omega) (by omega) (by omega) (by omega) (by omega) (by omega)) (by rfl) (by rfl) (by rfl) (by rfl) ⟨rfl, rfl, rfl, rfl, rfl, rfl, rfl, rfl, rfl, rfl, rfl, rfl, rfl, rfl, rfl, rfl, trivial⟩ (by rfl) (by rfl) (by omega) (by show 21 ≤ 23; omega) (by omega) (by omega) rfl rfl ?_
          have hb_q1 : (-60) ≤ (108917793695 * r7 + 159561683699 * r8) / 68719476736 ∧ (108917793695 * r7 + 159561683699 * r8) / 68719476736 ≤ 60 := ⟨by omega, by omega⟩
          generalize hq_q1 : (108917793695 * r7 + 159561683699 * r8) / 68719476736 = q1 at hb_q1 g_2 g_3 ⊢
          refine jT_xifT (pcN := 127) jIQ_160_120 rfl (by decide +kernel) rfl ?_
          refine jT_xiconst (k := 0) (pcN := 128) jIQ_160_127 rfl ?_
          refine jT_xiadd (x := 0) (y := 0) (z := 0) (pcN := 129) jIQ_160_128 rfl (by decide) rfl ?_
          refine jT_xistore (v := (0, 0)) (LN := [(6, (0, 0)), (8, (0, r8)), (7, (0, r7)), (5, (4, 19)), (0, (4, 0)), (1, (0, y1)), (2, (0, y2)), (4, (0, o4))]) (pcN := 131) jIQ_160_129 rfl rfl rfl rfl ?_
          refine jT_xiinc (x := r8) (z := r8 + 1) (LN := [(8, (0, r8 + 1)), (6, (0, 0)), (7, (0, r7)), (5, (4, 19)), (0, (4, 0)), (1, (0, y1)), (2, (0, y2)), (4, (0, o4))]) (pcN := 134) jIQ_160_131 rfl rfl (rfl) rfl rfl ?_
          refine jT_xgoto (pcN := 100) jIQ_160_134 rfl ?_
          refine jT_loc (LN := [(8, (0, r8 + 1)), (7, (0, r7)), (6, (0, 0)), (5, (4, 19)), (0, (4, 0)), (1, (0, y1)), (2, (0, y2)), (4, (0, o4))]) (by show List.Nodup [8, 7, 6, 5, 0, 1, 2, 4]; decide) (by intro q hq; simp only [List.mem_cons, List.not_mem_nil, or_false] at hq; rcases hq with rfl | rfl | rfl | rfl | rfl | rfl | rfl | rfl <;> rfl) ?_
          exact ih (r8 + 1) q1 (-r7) (-r8) 0 0 0 (by omega) (by omega)
        · refine jT_xiload (v := (0, r8)) (pcN := 102) jIQ_160_100 rfl rfl rfl ?_
          refine jT_xiload_n (v := (0, y2)) (pcN := 103) jIQ_160_102 rfl rfl rfl ?_
          refine jT_icF (a := r8) (b := y2) (t := 137) (by rfl) (by rfl) (by rfl) (jw_idd (by omega) (by omega)) (jw_idd (by omega) (by omega)) (by simp only [jcP] <;> omega) ?_
          refine jT_xiload (v := (0, 0)) (pcN := 108) jIQ_160_106 rfl rfl rfl ?_
          refine jT_xaload_n (v := (4, 0)) (pcN := 109) jIQ_160_108 rfl rfl rfl ?_
          refine jT_xiload (v := (0, r7)) (pcN := 111) jIQ_160_109 rfl rfl rfl ?_
          refine jT_xiload (v := (0, r8)) (pcN := 113) jIQ_160_111 rfl rfl rfl ?_
          refine jT_xaload (v := (4, 19)) (pcN := 115) jIQ_160_113 rfl rfl rfl ?_
          refine jT_xiload (v := (0, o4)) (pcN := 117) jIQ_160_115 rfl rfl rfl ?_
          refine jT_callB [0, 19, 1, 2, 3, 4, 5, 6, 7, 8, 9, 10, 11, 12, 13] (y := 161) (pcN := 120) (dC := 2) (bc1 := 0) (bc2 := 0) (c1 := (b1 + 0 * q + 0)) (c2 := (b2 + 0 * q + 0)) (as := [(4, 0), (0, r7), (0, r8), (4, 19), (0, o4)]) (asC := [(4, 0), (0, r7), (0, r8), (4, 1), (0, o4)]) (LN := [(8, (0, r8)), (7, (0, r7)), (6, (0, 0)), (5, (4, 19)), (0, (4, 0)), (1, (0, y1)), (2, (0, y2)), (4, (0, o4))]) (stN := [(0, 0)]) (hsC := [jzQ_16, jgh, (8, [(4, 13), (4, 14)], []), jgh, jgh, jgh, jgh, jgh, jgh, (101, [], [u8_0, u8_1, u8_2, u8_3, u8_4, u8_5]), (101, [], [k9_0, k9_1, k9_2, k9_3, k9_4, k9_5]), jgh, jgh, jgh, jgh]) (hsD := [jzQ_16, jgh, (8, [(4, 13), (4, 14)], []), jgh, jgh, jgh, jgh, jgh, jgh, (101, [], [0, r7, r8, 0, 0, 0]), (101, [], [k9_0, k9_1, k9_2, k9_3, k9_4, k9_5]), jgh, jgh, jgh, jgh]) (v := (0, 0)) (st2 := [(0, 0), (0, 0)]) (hs2 := [jzQ_7, (8, [(4, 12), (4, 13)], []), jgh, jgh, jgh, jgh, jgh, jgh, (101, [], [0, r7, r8, 0, 0, 0]), (101, [], [k9_0, k9_1, k9_2, k9_3, k9_4, k9_5]), jgh, jzQ_296, jgh, (101, [], [0, 0, 0, 0, 0, 0]), jzQ_297, jgh, jgh, jgh, jgh, (4, [(4, 20), (1, 1)], []), (101, [], [0, 0, 0, 0, 0, 0]), (101, [], [1, 0, 0, 0, 0, 0]), (4, [(4, 21), (1, 1)], [])]) (jQ_161_243 (d := 0) (by omega) (by omega) (by omega) (by omega) (by omega) (by omega) (by omega) (by omega) (by omega) (by omega) (by omega) (by omega)) (by rfl) (by rfl) (by rfl) (by rfl) ⟨rfl, rfl, rfl, rfl, rfl, rfl, rfl, rfl, rfl, rfl, rfl, rfl, rfl, rfl, rfl, trivial⟩ (by rfl) (by rfl) (by omega) (by show 21 ≤ 23; omega) (by omega) (by omega) rfl rfl ?_
          refine jT_xifT (pcN := 127) jIQ_160_120 rfl (by decide +kernel) rfl ?_
          refine jT_xiconst (k := 0) (pcN := 128) jIQ_160_127 rfl ?_
          refine jT_xiadd (x := 0) (y := 0) (z := 0) (pcN := 129) jIQ_160_128 rfl (by decide) rfl ?_
          refine jT_xistore (v := (0, 0)) (LN := [(6, (0, 0)), (8, (0, r8)), (7, (0, r7)), (5, (4, 19)), (0, (4, 0)), (1, (0, y1)), (2, (0, y2)), (4, (0, o4))]) (pcN := 131) jIQ_160_129 rfl rfl rfl rfl ?_
          refine jT_xiinc (x := r8) (z := r8 + 1) (LN := [(8, (0, r8 + 1)), (6, (0, 0)), (7, (0, r7)), (5, (4, 19)), (0, (4, 0)), (1, (0, y1)), (2, (0, y2)), (4, (0, o4))]) (pcN := 134) jIQ_160_131 rfl rfl (rfl) rfl rfl ?_
          refine jT_xgoto (pcN := 100) jIQ_160_134 rfl ?_
          refine jT_loc (LN := [(8, (0, r8 + 1)), (7, (0, r7)), (6, (0, 0)), (5, (4, 19)), (0, (4, 0)), (1, (0, y1)), (2, (0, y2)), (4, (0, o4))]) (by show List.Nodup [8, 7, 6, 5, 0, 1, 2, 4]; decide) (by intro q hq; simp only [List.mem_cons, List.not_mem_nil, or_false] at hq; rcases hq with rfl | rfl | rfl | rfl | rfl | rfl | rfl | rfl <;> rfl) ?_
          exact ih (r8 + 1) 0 r7 r8 0 0 0 (by omega) (by omega)
    · rcases (show (r8 < 0) ∨ (0 ≤ r8 ∧ r8 ≤ 0) ∨ (0 < r8) by omega) with g_3 | ⟨g_3, g_4⟩ | g_3
      · rcases (show (0 ≤ -(((108917793695 * r7 + 159561683699 * r8) / 68719476736) * o4) + (r7 * k9_1) + (r8 * k9_2) - 1) ∨ (-(((108917793695 * r7 + 159561683699 * r8) / 68719476736) * o4) + (r7 * k9_1) + (r8 * k9_2) - 1 < 0) by omega) with g_4 | g_4
        · refine jT_xiload (v := (0, r8)) (pcN := 102) jIQ_160_100 rfl rfl rfl ?_
          refine jT_xiload_n (v := (0, y2)) (pcN := 103) jIQ_160_102 rfl rfl rfl ?_
          refine jT_icF (a := r8) (b := y2) (t := 137) (by rfl) (by rfl) (by rfl) (jw_idd (by omega) (by omega)) (jw_idd (by omega) (by omega)) (by simp only [jcP] <;> omega) ?_
          refine jT_xiload (v := (0, 0)) (pcN := 108) jIQ_160_106 rfl rfl rfl ?_
          refine jT_xaload_n (v := (4, 0)) (pcN := 109) jIQ_160_108 rfl rfl rfl ?_
          refine jT_xiload (v := (0, r7)) (pcN := 111) jIQ_160_109 rfl rfl rfl ?_
          refine jT_xiload (v := (0, r8)) (pcN := 113) jIQ_160_111 rfl rfl rfl ?_
          refine jT_xaload (v := (4, 19)) (pcN := 115) jIQ_160_113 rfl rfl rfl ?_
          refine jT_xiload (v := (0, o4)) (pcN := 117) jIQ_160_115 rfl rfl rfl ?_
          refine jT_callB [0, 19, 1, 2, 3, 4, 5, 6, 7, 8, 9, 10, 11, 12, 13] (y := 161) (pcN := 120) (dC := 2) (bc1 := 0) (bc2 := 0) (c1 := (b1 + 0 * q + 0)) (c2 := (b2 + 0 * q + 0)) (as := [(4, 0), (0, r7), (0, r8), (4, 19), (0, o4)]) (asC := [(4, 0), (0, r7), (0, r8), (4, 1), (0, o4)]) (LN := [(8, (0, r8)), (7, (0, r7)), (6, (0, 0)), (5, (4, 19)), (0, (4, 0)), (1, (0, y1)), (2, (0, y2)), (4, (0, o4))]) (stN := [(0, 0)]) (hsC := [jzQ_16, jgh, (8, [(4, 13), (4, 14)], []), jgh, jgh, jgh, jgh, jgh, jgh, (101, [], [u8_0, u8_1, u8_2, u8_3, u8_4, u8_5]), (101, [], [k9_0, k9_1, k9_2, k9_3, k9_4, k9_5]), jgh, jgh, jgh, jgh]) (hsD := [jzQ_16, jgh, (8, [(4, 13), (4, 14)], []), jgh, jgh, jgh, jgh, jgh, jgh, (101, [], [0, r7, r8, 0, 0, 0]), (101, [], [k9_0, k9_1, k9_2, k9_3, k9_4, k9_5]), jgh, jgh, jgh, jgh]) (v := (0, 0)) (st2 := [(0, 0), (0, 0)]) (hs2 := [jzQ_7, (8, [(4, 12), (4, 13)], []), jgh, jgh, jgh, jgh, jgh, jgh, (101, [], [0, r7, r8, 0, 0, 0]), (101, [], [k9_0, k9_1, k9_2, k9_3, k9_4, k9_5]), jgh, jzQ_296, jgh, (101, [], [0, 0, 0, 0, 0, 0]), jzQ_297, jgh, jgh, jgh, jgh, (4, [(4, 20), (1, 1)], []), (101, [], [0, 0, 0, 0, 0, 0]), (101, [], [1, 0, 0, 0, 0, 0]), (4, [(4, 21), (1, 1)], [])]) (jQ_161_242 (d := 0) (by omega) (by omega) (by omega) (by omega) (by omega) (by omega) (by omega) (by omega) (by omega) (by omega) (by omega) (by omega) (by omega)) (by rfl) (by rfl) (by rfl) (by rfl) ⟨rfl, rfl, rfl, rfl, rfl, rfl, rfl, rfl, rfl, rfl, rfl, rfl, rfl, rfl, rfl, trivial⟩ (by rfl) (by rfl) (by omega) (by show 21 ≤ 23; omega) (by omega) (by omega) rfl rfl ?_
          refine jT_xifT (pcN := 127) jIQ_160_120 rfl (by decide +kernel) rfl ?_
          refine jT_xiconst (k := 0) (pcN := 128) jIQ_160_127 rfl ?_
          refine jT_xiadd (x := 0) (y := 0) (z := 0) (pcN := 129) jIQ_160_128 rfl (by decide) rfl ?_
          refine jT_xistore (v := (0, 0)) (LN := [(6, (0, 0)), (8, (0, r8)), (7, (0, r7)), (5, (4, 19)), (0, (4, 0)), (1, (0, y1)), (2, (0, y2)), (4, (0, o4))]) (pcN := 131) jIQ_160_129 rfl rfl rfl rfl ?_
          refine jT_xiinc (x := r8) (z := r8 + 1) (LN := [(8, (0, r8 + 1)), (6, (0, 0)), (7, (0, r7)), (5, (4, 19)), (0, (4, 0)), (1, (0, y1)), (2, (0, y2)), (4, (0, o4))]) (pcN := 134) jIQ_160_131 rfl rfl (rfl) rfl rfl ?_
          refine jT_xgoto (pcN := 100) jIQ_160_134 rfl ?_
          refine jT_loc (LN := [(8, (0, r8 + 1)), (7, (0, r7)), (6, (0, 0)), (5, (4, 19)), (0, (4, 0)), (1, (0, y1)), (2, (0, y2)), (4, (0, o4))]) (by show List.Nodup [8, 7, 6, 5, 0, 1, 2, 4]; decide) (by intro q hq; simp only [List.mem_cons, List.not_mem_nil, or_false] at hq; rcases hq with rfl | rfl | rfl | rfl | rfl | rfl | rfl | rfl <;> rfl) ?_
          exact ih (r8 + 1) 0 r7 r8 0 0 0 (by omega) (by omega)
        · rcases (show (0 ≤ -(((108917793695 * r7 + 159561683699 * r8) / 68719476736) * o4) + (r7 * k9_1) + (r8 * k9_2)) ∨ (-(((108917793695 * r7 + 159561683699 * r8) / 68719476736) * o4) + (r7 * k9_1) + (r8 * k9_2) < 0) by omega) with g_5 | g_5
          · refine jT_xiload (v := (0, r8)) (pcN := 102) jIQ_160_100 rfl rfl rfl ?_
            refine jT_xiload_n (v := (0, y2)) (pcN := 103) jIQ_160_102 rfl rfl rfl ?_
            refine jT_icF (a := r8) (b := y2) (t := 137) (by rfl) (by rfl) (by rfl) (jw_idd (by omega) (by omega)) (jw_idd (by omega) (by omega)) (by simp only [jcP] <;> omega) ?_
            refine jT_xiload (v := (0, 0)) (pcN := 108) jIQ_160_106 rfl rfl rfl ?_
            refine jT_xaload_n (v := (4, 0)) (pcN := 109) jIQ_160_108 rfl rfl rfl ?_
            refine jT_xiload (v := (0, r7)) (pcN := 111) jIQ_160_109 rfl rfl rfl ?_
            refine jT_xiload (v := (0, r8)) (pcN := 113) jIQ_160_111 rfl rfl rfl ?_
            refine jT_xaload (v := (4, 19)) (pcN := 115) jIQ_160_113 rfl rfl rfl ?_
            refine jT_xiload (v := (0, o4)) (pcN := 117) jIQ_160_115 rfl rfl rfl ?_
            refine jT_callB [0, 19, 1, 2, 3, 4, 5, 6, 7, 8, 9, 10, 11, 20, 12, 13] (y := 161) (pcN := 120) (dC := 2) (bc1 := 0) (bc2 := 0) (c1 := (b1 + 0 * q + 0)) (c2 := (b2 + 0 * q + 0)) (as := [(4, 0), (0, r7), (0, r8), (4, 19), (0, o4)]) (asC := [(4, 0), (0, r7), (0, r8), (4, 1), (0, o4)]) (LN := [(8, (0, r8)), (7, (0, r7)), (6, (0, 0)), (5, (4, 19)), (0, (4, 0)), (1, (0, y1)), (2, (0, y2)), (4, (0, o4))]) (stN := [(0, 0)]) (hsC := [jzQ_16, (4, [(4, 13), (1, 1)], []), (8, [(4, 14), (4, 15)], []), jgh, jgh, jgh, jgh, jgh, jgh, (101, [], [u8_0, u8_1, u8_2, u8_3, u8_4, u8_5]), (101, [], [k9_0, k9_1, k9_2, k9_3, k9_4, k9_5]), jgh, jgh, (101, [], [0, 0, 0, 0, 0, 0]), jgh, jgh]) (hsD := [jzQ_16, (4, [(4, 13), (1, 1)], []), (8, [(4, 14), (4, 15)], []), jgh, jgh, jgh, jgh, jgh, jgh, (101, [], [(108917793695 * r7 + 159561683699 * r8) / 68719476736, -r7, -r8, 0, 0, 0]), (101, [], [k9_0, k9_1, k9_2, k9_3, k9_4, k9_5]), jgh, jgh, (101, [], [0, 0, 0, 0, 0, 0]), jgh, jgh]) (v := (0, 0)) (st2 := [(0, 0), (0, 0)]) (hs2 := [jzQ_7, (8, [(4, 12), (4, 13)], []), jgh, jgh, jgh, jgh, jgh, jgh, (101, [], [(108917793695 * r7 + 159561683699 * r8) / 68719476736, -r7, -r8, 0, 0, 0]), (101, [], [k9_0, k9_1, k9_2, k9_3, k9_4, k9_5]), jgh, jzQ_296, jgh, (101, [], [0, 0, 0, 0, 0, 0]), jzQ_297, jgh, jgh, jgh, jgh, (4, [(4, 20), (1, 1)], []), (101, [], [0, 0, 0, 0, 0, 0]), (101, [], [1, 0, 0, 0, 0, 0]), (4, [(4, 21), (1, 1)], [])]) (jQ_161_241 (d := 0) (by omega) (by omega) (by omega) (by omega) (by omega) (by omega) (by omega) (by omega) (by omega) (by omega) (by omega) (by omega) (by omega) (by omega)) (by rfl) (by rfl) (by rfl) (by rfl) ⟨rfl, rfl, rfl, rfl, rfl, rfl, rfl, rfl, rfl, rfl, rfl, rfl, rfl, rfl, rfl, rfl, trivial⟩ (by rfl) (by rfl) (by omega) (by show 21 ≤ 23; omega) (by omega) (by omega) rfl rfl ?_
            have hb_q1 : (-60) ≤ (108917793695 * r7 + 159561683699 * r8) / 68719476736 ∧ (108917793695 * r7 + 159561683699 * r8) / 68719476736 ≤ 60 := ⟨by omega, by omega⟩
            generalize hq_q1 : (108917793695 * r7 + 159561683699 * r8) / 68719476736 = q1 at hb_q1 g_4 g_5 ⊢
            refine jT_xifT (pcN := 127) jIQ_160_120 rfl (by decide +kernel) rfl ?_
            refine jT_xiconst (k := 0) (pcN := 128) jIQ_160_127 rfl ?_
            refine jT_xiadd (x := 0) (y := 0) (z := 0) (pcN := 129) jIQ_160_128 rfl (by decide) rfl ?_
            refine jT_xistore (v := (0, 0)) (LN := [(6, (0, 0)), (8, (0, r8)), (7, (0, r7)), (5, (4, 19)), (0, (4, 0)), (1, (0, y1)), (2, (0, y2)), (4, (0, o4))]) (pcN := 131) jIQ_160_129 rfl rfl rfl rfl ?_
            refine jT_xiinc (x := r8) (z := r8 + 1) (LN := [(8, (0, r8 + 1)), (6, (0, 0)), (7, (0, r7)), (5, (4, 19)), (0, (4, 0)), (1, (0, y1)), (2, (0, y2)), (4, (0, o4))]) (pcN := 134) jIQ_160_131 rfl rfl (rfl) rfl rfl ?_
            refine jT_xgoto (pcN := 100) jIQ_160_134 rfl ?_
            refine jT_loc (LN := [(8, (0, r8 + 1)), (7, (0, r7)), (6, (0, 0)), (5, (4, 19)), (0, (4, 0)), (1, (0, y1)), (2, (0, y2)), (4, (0, o4))]) (by show List.Nodup [8, 7, 6, 5, 0, 1, 2, 4]; decide) (by intro q hq; simp only [List.mem_cons, List.not_mem_nil, or_false] at hq; rcases hq with rfl | rfl | rfl | rfl | rfl | rfl | rfl | rfl <;> rfl) ?_
            exact ih (r8 + 1) q1 (-r7) (-r8) 0 0 0 (by omega) (by omega)
          · refine jT_xiload (v := (0, r8)) (pcN := 102) jIQ_160_100 rfl rfl rfl ?_
            refine jT_xiload_n (v := (0, y2)) (pcN := 103) jIQ_160_102 rfl rfl rfl ?_
            refine jT_icF (a := r8) (b := y2) (t := 137) (by rfl) (by rfl) (by rfl) (jw_idd (by omega) (by omega)) (jw_idd (by omega) (by omega)) (by simp only [jcP] <;> omega) ?_
            refine jT_xiload (v := (0, 0)) (pcN := 108) jIQ_160_106 rfl rfl rfl ?_
            refine jT_xaload_n (v := (4, 0)) (pcN := 109) jIQ_160_108 rfl rfl rfl ?_
            refine jT_xiload (v := (0, r7)) (pcN := 111) jIQ_160_109 rfl rfl rfl ?_
            refine jT_xiload (v := (0, r8)) (pcN := 113) jIQ_160_111 rfl rfl rfl ?_
            refine jT_xaload (v := (4, 19)) (pcN := 115) jIQ_160_113 rfl rfl rfl ?_
            refine jT_xiload (v := (0, o4)) (pcN := 117) jIQ_160_115 rfl rfl rfl ?_
            refine jT_callB [0, 19, 1, 2, 3, 4, 5, 6, 7, 8, 9, 10, 11, 12, 13] (y := 161) (pcN := 120) (dC := 2) (bc1 := 0) (bc2 := 0) (c1 := (b1 + 0 * q + 0)) (c2 := (b2 + 0 * q + 0)) (as := [(4, 0), (0, r7), (0, r8), (4, 19), (0, o4)]) (asC := [(4, 0), (0, r7), (0, r8), (4, 1), (0, o4)]) (LN := [(8, (0, r8)), (7, (0, r7)), (6, (0, 0)), (5, (4, 19)), (0, (4, 0)), (1, (0, y1)), (2, (0, y2)), (4, (0, o4))]) (stN := [(0, 0)]) (hsC := [jzQ_16, jgh, (8, [(4, 13), (4, 14)], []), jgh, jgh, jgh, jgh, jgh, jgh, (101, [], [u8_0, u8_1, u8_2, u8_3, u8_4, u8_5]), (101, [], [k9_0, k9_1, k9_2, k9_3, k9_4, k9_5]), jgh, jgh, jgh, jgh]) (hsD := [jzQ_16, jgh, (8, [(4, 13), (4, 14)], []), jgh, jgh, jgh, jgh, jgh, jgh, (101, [], [0, r7, r8, 0, 0, 0]), (101, [], [k9_0, k9_1, k9_2, k9_3, k9_4, k9_5]), jgh, jgh, jgh, jgh]) (v := (0, 0)) (st2 := [(0, 0), (0, 0)]) (hs2 := [jzQ_7, (8, [(4, 12), (4, 13)], []), jgh, jgh, jgh, jgh, jgh, jgh, (101, [], [0, r7, r8, 0, 0, 0]), (101, [], [k9_0, k9_1, k9_2, k9_3, k9_4, k9_5]), jgh, jzQ_296, jgh, (101, [], [0, 0, 0, 0, 0, 0]), jzQ_297, jgh, jgh, jgh, jgh, (4, [(4, 20), (1, 1)], []), (101, [], [0, 0, 0, 0, 0, 0]), (101, [], [1, 0, 0, 0, 0, 0]), (4, [(4, 21), (1, 1)], [])]) (jQ_161_240 (d := 0) (by omega) (by omega) (by omega) (by omega) (by omega) (by omega) (by omega) (by omega) (by omega) (by omega) (by omega) (by omega) (by omega) (by omega)) (by rfl) (by rfl) (by rfl) (by rfl) ⟨rfl, rfl, rfl, rfl, rfl, rfl, rfl, rfl, rfl, rfl, rfl, rfl, rfl, rfl, rfl, trivial⟩ (by rfl) (by rfl) (by omega) (by show 21 ≤ 23; omega) (by omega) (by omega) rfl rfl ?_
            refine jT_xifT (pcN := 127) jIQ_160_120 rfl (by decide +kernel) rfl ?_
            refine jT_xiconst (k := 0) (pcN := 128) jIQ_160_127 rfl ?_
            refine jT_xiadd (x := 0) (y := 0) (z := 0) (pcN := 129) jIQ_160_128 rfl (by decide) rfl ?_
            refine jT_xistore (v := (0, 0)) (LN := [(6, (0, 0)), (8, (0, r8)), (7, (0, r7)), (5, (4, 19)), (0, (4, 0)), (1, (0, y1)), (2, (0, y2)), (4, (0, o4))]) (pcN := 131) jIQ_160_129 rfl rfl rfl rfl ?_
            refine jT_xiinc (x := r8) (z := r8 + 1) (LN := [(8, (0, r8 + 1)), (6, (0, 0)), (7, (0, r7)), (5, (4, 19)), (0, (4, 0)), (1, (0, y1)), (2, (0, y2)), (4, (0, o4))]) (pcN := 134) jIQ_160_131 rfl rfl (rfl) rfl rfl ?_
            refine jT_xgoto (pcN := 100) jIQ_160_134 rfl ?_
            refine jT_loc (LN := [(8, (0, r8 + 1)), (7, (0, r7)), (6, (0, 0)), (5, (4, 19)), (0, (4, 0)), (1, (0, y1)), (2, (0, y2)), (4, (0, o4))]) (by show List.Nodup [8, 7, 6, 5, 0, 1, 2, 4]; decide) (by intro q hq; simp only [List.mem_cons, List.not_mem_nil, or_false] at hq; rcases hq with rfl | rfl | rfl | rfl | rfl | rfl | rfl | rfl <;> rfl) ?_
            exact ih (r8 + 1) 0 r7 r8 0 0 0 (by omega) (by omega)
      · refine jT_xiload (v := (0, r8)) (pcN := 102) jIQ_160_100 rfl rfl rfl ?_
        refine jT_xiload_n (v := (0, y2)) (pcN := 103) jIQ_160_102 rfl rfl rfl ?_
        refine jT_icF (a := r8) (b := y2) (t := 137) (by rfl) (by rfl) (by rfl) (jw_idd (by omega) (by omega)) (jw_idd (by omega) (by omega)) (by simp only [jcP] <;> omega) ?_
        refine jT_xiload (v := (0, 0)) (pcN := 108) jIQ_160_106 rfl rfl rfl ?_
        refine jT_xaload_n (v := (4, 0)) (pcN := 109) jIQ_160_108 rfl rfl rfl ?_
        refine jT_xiload (v := (0, r7)) (pcN := 111) jIQ_160_109 rfl rfl rfl ?_
        refine jT_xiload (v := (0, r8)) (pcN := 113) jIQ_160_111 rfl rfl rfl ?_
        refine jT_xaload (v := (4, 19)) (pcN := 115) jIQ_160_113 rfl rfl rfl ?_
        refine jT_xiload (v := (0, o4)) (pcN := 117) jIQ_160_115 rfl rfl rfl ?_
        refine jT_callA [0, 19] (y := 161) (pcN := 120) (dC := 0) (bc1 := 0) (bc2 := 0) (c1 := (b1 + 0 * q + 0)) (c2 := (b2 + 0 * q + 0)) (as := [(4, 0), (0, r7), (0, r8), (4, 19), (0, o4)]) (asC := [(4, 0), (0, r7), (0, r8), (4, 1), (0, o4)]) (LN := [(8, (0, r8)), (7, (0, r7)), (6, (0, 0)), (5, (4, 19)), (0, (4, 0)), (1, (0, y1)), (2, (0, y2)), (4, (0, o4))]) (stN := [(0, 0)]) (hsC := [jgh, jgh]) (ex := []) (v := (0, 0)) (st2 := [(0, 0), (0, 0)]) (hs2 := [jzQ_7, (8, [(4, 12), (4, 13)], []), jgh, jgh, jgh, jgh, jgh, jgh, (101, [], [u8_0, u8_1, u8_2, u8_3, u8_4, u8_5]), (101, [], [k9_0, k9_1, k9_2, k9_3, k9_4, k9_5]), jgh, jzQ_296, jgh, (101, [], [0, 0, 0, 0, 0, 0]), jzQ_297, jgh, jgh, jgh, jgh, (4, [(4, 20), (1, 1)], []), (101, [], [0, 0, 0, 0, 0, 0]), (101, [], [1, 0, 0, 0, 0, 0]), (4, [(4, 21), (1, 1)], [])]) (jQ_161_227 (d := 0) (by omega) (by omega) (by omega) (by omega) (by omega) (by omega) (by omega)) (by rfl) (by rfl) (by rfl) (by rfl) ⟨rfl, rfl, trivial⟩ (by rfl) (by rfl) (by omega) (by show 21 ≤ 23; omega) (by omega) (by omega) rfl rfl ?_
        refine jT_xifT (pcN := 127) jIQ_160_120 rfl (by decide +kernel) rfl ?_
        refine jT_xiconst (k := 0) (pcN := 128) jIQ_160_127 rfl ?_
        refine jT_xiadd (x := 0) (y := 0) (z := 0) (pcN := 129) jIQ_160_128 rfl (by decide) rfl ?_
        refine jT_xistore (v := (0, 0)) (LN := [(6, (0, 0)), (8, (0, r8)), (7, (0, r7)), (5, (4, 19)), (0, (4, 0)), (1, (0, y1)), (2, (0, y2)), (4, (0, o4))]) (pcN := 131) jIQ_160_129 rfl rfl rfl rfl ?_
        refine jT_xiinc (x := r8) (z := r8 + 1) (LN := [(8, (0, r8 + 1)), (6, (0, 0)), (7, (0, r7)), (5, (4, 19)), (0, (4, 0)), (1, (0, y1)), (2, (0, y2)), (4, (0, o4))]) (pcN := 134) jIQ_160_131 rfl rfl (rfl) rfl rfl ?_
        refine jT_xgoto (pcN := 100) jIQ_160_134 rfl ?_
        refine jT_loc (LN := [(8, (0, r8 + 1)), (7, (0, r7)), (6, (0, 0)), (5, (4, 19)), (0, (4, 0)), (1, (0, y1)), (2, (0, y2)), (4, (0, o4))]) (by show List.Nodup [8, 7, 6, 5, 0, 1, 2, 4]; decide) (by intro q hq; simp only [List.mem_cons, List.not_mem_nil, or_false] at hq; rcases hq with rfl | rfl | rfl | rfl | rfl | rfl | rfl | rfl <;> rfl) ?_
        exact ih (r8 + 1) u8_0 u8_1 u8_2 u8_3 u8_4 u8_5 (by omega) (by omega)
      · rcases (show (0 ≤ -(((108917793695 * r7 + 159561683699 * r8) / 68719476736) * o4) + (r7 * k9_1) + (r8 * k9_2) - 1) ∨ (-(((108917793695 * r7 + 159561683699 * r8) / 68719476736) * o4) + (r7 * k9_1) + (r8 * k9_2) - 1 < 0) by omega) with g_4 | g_4
        · refine jT_xiload (v := (0, r8)) (pcN := 102) jIQ_160_100 rfl rfl rfl ?_
          refine jT_xiload_n (v := (0, y2)) (pcN := 103) jIQ_160_102 rfl rfl rfl ?_
          refine jT_icF (a := r8) (b := y2) (t := 137) (by rfl) (by rfl) (by rfl) (jw_idd (by omega) (by omega)) (jw_idd (by omega) (by omega)) (by simp only [jcP] <;> omega) ?_
          refine jT_xiload (v := (0, 0)) (pcN := 108) jIQ_160_106 rfl rfl rfl ?_
          refine jT_xaload_n (v := (4, 0)) (pcN := 109) jIQ_160_108 rfl rfl rfl ?_
          refine jT_xiload (v := (0, r7)) (pcN := 111) jIQ_160_109 rfl rfl rfl ?_
          refine jT_xiload (v := (0, r8)) (pcN := 113) jIQ_160_111 rfl rfl rfl ?_
          refine jT_xaload (v := (4, 19)) (pcN := 115) jIQ_160_113 rfl rfl rfl ?_
          refine jT_xiload (v := (0, o4)) (pcN := 117) jIQ_160_115 rfl rfl rfl ?_
          refine jT_callB [0, 19, 1, 2, 3, 4, 5, 6, 7, 8, 9, 10, 11, 12, 13] (y := 161) (pcN := 120) (dC := 2) (bc1 := 0) (bc2 := 0) (c1 := (b1 + 0 * q + 0)) (c2 := (b2 + 0 * q + 0)) (as := [(4, 0), (0, r7), (0, r8), (4, 19), (0, o4)]) (asC := [(4, 0), (0, r7), (0, r8), (4, 1), (0, o4)]) (LN := [(8, (0, r8)), (7, (0, r7)), (6, (0, 0)), (5, (4, 19)), (0, (4, 0)), (1, (0, y1)), (2, (0, y2)), (4, (0, o4))]) (stN := [(0, 0)]) (hsC := [jzQ_16, jgh, (8, [(4, 13), (4, 14)], []), jgh, jgh, jgh, jgh, jgh, jgh, (101, [], [u8_0, u8_1, u8_2, u8_3, u8_4, u8_5]), (101, [], [k9_0, k9_1, k9_2, k9_3, k9_4, k9_5]), jgh, jgh, jgh, jgh]) (hsD := [jzQ_16, jgh, (8, [(4, 13), (4, 14)], []), jgh, jgh, jgh, jgh, jgh, jgh, (101, [], [0, r7, r8, 0, 0, 0]), (101, [], [k9_0, k9_1, k9_2, k9_3, k9_4, k9_5]), jgh, jgh, jgh, jgh]) (v := (0, 0)) (st2 := [(0, 0), (0, 0)]) (hs2 := [jzQ_7, (8, [(4, 12), (4, 13)], []), jgh, jgh, jgh, jgh, jgh, jgh, (101, [], [0, r7, r8, 0, 0, 0]), (101, [], [k9_0, k9_1, k9_2, k9_3, k9_4, k9_5]), jgh, jzQ_296, jgh, (101, [], [0, 0, 0, 0, 0, 0]), jzQ_297, jgh, jgh, jgh, jgh, (4, [(4, 20), (1, 1)], []), (101, [], [0, 0, 0, 0, 0, 0]), (101, [], [1, 0, 0, 0, 0, 0]), (4, [(4, 21), (1, 1)], [])]) (jQ_161_239 (d := 0) (by omega) (by omega) (by omega) (by omega) (by omega) (by omega) (by omega) (by omega) (by omega) (by omega) (by omega) (by omega) (by omega)) (by rfl) (by rfl) (by rfl) (by rfl) ⟨rfl, rfl, rfl, rfl, rfl, rfl, rfl, rfl, rfl, rfl, rfl, rfl, rfl, rfl, rfl, trivial⟩ (by rfl) (by rfl) (by omega) (by show 21 ≤ 23; omega) (by omega) (by omega) rfl rfl ?_
          refine jT_xifT (pcN := 127) jIQ_160_120 rfl (by decide +kernel) rfl ?_
          refine jT_xiconst (k := 0) (pcN := 128) jIQ_160_127 rfl ?_
          refine jT_xiadd (x := 0) (y := 0) (z := 0) (pcN := 129) jIQ_160_128 rfl (by decide) rfl ?_
          refine jT_xistore (v := (0, 0)) (LN := [(6, (0, 0)), (8, (0, r8)), (7, (0, r7)), (5, (4, 19)), (0, (4, 0)), (1, (0, y1)), (2, (0, y2)), (4, (0, o4))]) (pcN := 131) jIQ_160_129 rfl rfl rfl rfl ?_
          refine jT_xiinc (x := r8) (z := r8 + 1) (LN := [(8, (0, r8 + 1)), (6, (0, 0)), (7, (0, r7)), (5, (4, 19)), (0, (4, 0)), (1, (0, y1)), (2, (0, y2)), (4, (0, o4))]) (pcN := 134) jIQ_160_131 rfl rfl (rfl) rfl rfl ?_
          refine jT_xgoto (pcN := 100) jIQ_160_134 rfl ?_
          refine jT_loc (LN := [(8, (0, r8 + 1)), (7, (0, r7)), (6, (0, 0)), (5, (4, 19)), (0, (4, 0)), (1, (0, y1)), (2, (0, y2)), (4, (0, o4))]) (by show List.Nodup [8, 7, 6, 5, 0, 1, 2, 4]; decide) (by intro q hq; simp only [List.mem_cons, List.not_mem_nil, or_false] at hq; rcases hq with rfl | rfl | rfl | rfl | rfl | rfl | rfl | rfl <;> rfl) ?_
          exact ih (r8 + 1) 0 r7 r8 0 0 0 (by omega) (by omega)
        · rcases (show (0 ≤ -(((108917793695 * r7 + 159561683699 * r8) / 68719476736) * o4) + (r7 * k9_1) + (r8 * k9_2)) ∨ (-(((108917793695 * r7 + 159561683699 * r8) / 68719476736) * o4) + (r7 * k9_1) + (r8 * k9_2) < 0) by omega) with g_5 | g_5
          · refine jT_xiload (v := (0, r8)) (pcN := 102) jIQ_160_100 rfl rfl rfl ?_
            refine jT_xiload_n (v := (0, y2)) (pcN := 103) jIQ_160_102 rfl rfl rfl ?_
            refine jT_icF (a := r8) (b := y2) (t := 137) (by rfl) (by rfl) (by rfl) (jw_idd (by omega) (by omega)) (jw_idd (by omega) (by omega)) (by simp only [jcP] <;> omega) ?_
            refine jT_xiload (v := (0, 0)) (pcN := 108) jIQ_160_106 rfl rfl rfl ?_
            refine jT_xaload_n (v := (4, 0)) (pcN := 109) jIQ_160_108 rfl rfl rfl ?_
            refine jT_xiload (v := (0, r7)) (pcN := 111) jIQ_160_109 rfl rfl rfl ?_
            refine jT_xiload (v := (0, r8)) (pcN := 113) jIQ_160_111 rfl rfl rfl ?_
            refine jT_xaload (v := (4, 19)) (pcN := 115) jIQ_160_113 rfl rfl rfl ?_
            refine jT_xiload (v := (0, o4)) (pcN := 117) jIQ_160_115 rfl rfl rfl ?_
            refine jT_callB [0, 19, 1, 2, 3, 4, 5, 6, 7, 8, 9, 10, 11, 20, 12, 13] (y := 161) (pcN := 120) (dC := 2) (bc1 := 0) (bc2 := 0) (c1 := (b1 + 0 * q + 0)) (c2 := (b2 + 0 * q + 0)) (as := [(4, 0), (0, r7), (0, r8), (4, 19), (0, o4)]) (asC := [(4, 0), (0, r7), (0, r8), (4, 1), (0, o4)]) (LN := [(8, (0, r8)), (7, (0, r7)), (6, (0, 0)), (5, (4, 19)), (0, (4, 0)), (1, (0, y1)), (2, (0, y2)), (4, (0, o4))]) (stN := [(0, 0)]) (hsC := [jzQ_16, (4, [(4, 13), (1, 1)], []), (8, [(4, 14), (4, 15)], []), jgh, jgh, jgh, jgh, jgh, jgh, (101, [], [u8_0, u8_1, u8_2, u8_3, u8_4, u8_5]), (101, [], [k9_0, k9_1, k9_2, k9_3, k9_4, k9_5]), jgh, jgh, (101, [], [0, 0, 0, 0, 0, 0]), jgh, jgh]) (hsD := [jzQ_16, (4, [(4, 13), (1, 1)], []), (8, [(4, 14), (4, 15)], []), jgh, jgh, jgh, jgh, jgh, jgh, (101, [], [(108917793695 * r7 + 159561683699 * r8) / 68719476736, -r7, -r8, 0, 0, 0]), (101, [], [k9_0, k9_1, k9_2, k9_3, k9_4, k9_5]), jgh, jgh, (101, [], [0, 0, 0, 0, 0, 0]), jgh, jgh]) (v := (0, 0)) (st2 := [(0, 0), (0, 0)]) (hs2 := [jzQ_7, (8, [(4, 12), (4, 13)], []), jgh, jgh, jgh, jgh, jgh, jgh, (101, [], [(108917793695 * r7 + 159561683699 * r8) / 68719476736, -r7, -r8, 0, 0, 0]), (101, [], [k9_0, k9_1, k9_2, k9_3, k9_4, k9_5]), jgh, jzQ_296, jgh, (101, [], [0, 0, 0, 0, 0, 0]), jzQ_297, jgh, jgh, jgh, jgh, (4, [(4, 20), (1, 1)], []), (101, [], [0, 0, 0, 0, 0, 0]), (101, [], [1, 0, 0, 0, 0, 0]), (4, [(4, 21), (1, 1)], [])]) (jQ_161_238 (d := 0) (by omega) (by omega) (by omega) (by omega) (by omega) (by omega) (by omega) (by omega) (by omega) (by omega) (by omega) (by omega) (by omega) (by omega)) (by rfl) (by rfl) (by rfl) (by rfl) ⟨rfl, rfl, rfl, rfl, rfl, rfl, rfl, rfl, rfl, rfl, rfl, rfl, rfl, rfl, rfl, rfl, trivial⟩ (by rfl) (by rfl) (by omega) (by show 21 ≤ 23; omega) (by omega) (by omega) rfl rfl ?_
            have hb_q1 : (-60) ≤ (108917793695 * r7 + 159561683699 * r8) / 68719476736 ∧ (108917793695 * r7 + 159561683699 * r8) / 68719476736 ≤ 60 := ⟨by omega, by omega⟩
            generalize hq_q1 : (108917793695 * r7 + 159561683699 * r8) / 68719476736 = q1 at hb_q1 g_4 g_5 ⊢
            refine jT_xifT (pcN := 127) jIQ_160_120 rfl (by decide +kernel) rfl ?_
            refine jT_xiconst (k := 0) (pcN := 128) jIQ_160_127 rfl ?_
            refine jT_xiadd (x := 0) (y := 0) (z := 0) (pcN := 129) jIQ_160_128 rfl (by decide) rfl ?_
            refine jT_xistore (v := (0, 0)) (LN := [(6, (0, 0)), (8, (0, r8)), (7, (0, r7)), (5, (4, 19)), (0, (4, 0)), (1, (0, y1)), (2, (0, y2)), (4, (0, o4))]) (pcN := 131) jIQ_160_129 rfl rfl rfl rfl ?_
            refine jT_xiinc (x := r8) (z := r8 + 1) (LN := [(8, (0, r8 + 1)), (6, (0, 0)), (7, (0, r7)), (5, (4, 19)), (0, (4, 0)), (1, (0, y1)), (2, (0, y2)), (4, (0, o4))]) (pcN := 134) jIQ_160_131 rfl rfl (rfl) rfl rfl ?_
            refine jT_xgoto (pcN := 100) jIQ_160_134 rfl ?_
            refine jT_loc (LN := [(8, (0, r8 + 1)), (7, (0, r7)), (6, (0, 0)), (5, (4, 19)), (0, (4, 0)), (1, (0, y1)), (2, (0, y2)), (4, (0, o4))]) (by show List.Nodup [8, 7, 6, 5, 0, 1, 2, 4]; decide) (by intro q hq; simp only [List.mem_cons, List.not_mem_nil, or_false] at hq; rcases hq with rfl | rfl | rfl | rfl | rfl | rfl | rfl | rfl <;> rfl) ?_
            exact ih (r8 + 1) q1 (-r7) (-r8) 0 0 0 (by omega) (by omega)
          · refine jT_xiload (v := (0, r8)) (pcN := 102) jIQ_160_100 rfl rfl rfl ?_
            refine jT_xiload_n (v := (0, y2)) (pcN := 103) jIQ_160_102 rfl rfl rfl ?_
            refine jT_icF (a := r8) (b := y2) (t := 137) (by rfl) (by rfl) (by rfl) (jw_idd (by omega) (by omega)) (jw_idd (by omega) (by omega)) (by simp only [jcP] <;> omega) ?_
            refine jT_xiload (v := (0, 0)) (pcN := 108) jIQ_160_106 rfl rfl rfl ?_
            refine jT_xaload_n (v := (4, 0)) (pcN := 109) jIQ_160_108 rfl rfl rfl ?_
            refine jT_xiload (v := (0, r7)) (pcN := 111) jIQ_160_109 rfl rfl rfl ?_
            refine jT_xiload (v := (0, r8)) (pcN := 113) jIQ_160_111 rfl rfl rfl ?_
            refine jT_xaload (v := (4, 19)) (pcN := 115) jIQ_160_113 rfl rfl rfl ?_
            refine jT_xiload (v := (0, o4)) (pcN := 117) jIQ_160_115 rfl rfl rfl ?_
            refine jT_callB [0, 19, 1, 2, 3, 4, 5, 6, 7, 8, 9, 10, 11, 12, 13] (y := 161) (pcN := 120) (dC := 2) (bc1 := 0) (bc2 := 0) (c1 := (b1 + 0 * q + 0)) (c2 := (b2 + 0 * q + 0)) (as := [(4, 0), (0, r7), (0, r8), (4, 19), (0, o4)]) (asC := [(4, 0), (0, r7), (0, r8), (4, 1), (0, o4)]) (LN := [(8, (0, r8)), (7, (0, r7)), (6, (0, 0)), (5, (4, 19)), (0, (4, 0)), (1, (0, y1)), (2, (0, y2)), (4, (0, o4))]) (stN := [(0, 0)]) (hsC := [jzQ_16, jgh, (8, [(4, 13), (4, 14)], []), jgh, jgh, jgh, jgh, jgh, jgh, (101, [], [u8_0, u8_1, u8_2, u8_3, u8_4, u8_5]), (101, [], [k9_0, k9_1, k9_2, k9_3, k9_4, k9_5]), jgh, jgh, jgh, jgh]) (hsD := [jzQ_16, jgh, (8, [(4, 13), (4, 14)], []), jgh, jgh, jgh, jgh, jgh, jgh, (101, [], [0, r7, r8, 0, 0, 0]), (101, [], [k9_0, k9_1, k9_2, k9_3, k9_4, k9_5]), jgh, jgh, jgh, jgh]) (v := (0, 0)) (st2 := [(0, 0), (0, 0)]) (hs2 := [jzQ_7, (8, [(4, 12), (4, 13)], []), jgh, jgh, jgh, jgh, jgh, jgh, (101, [], [0, r7, r8, 0, 0, 0]), (101, [], [k9_0, k9_1, k9_2, k9_3, k9_4, k9_5]), jgh, jzQ_296, jgh, (101, [], [0, 0, 0, 0, 0, 0]), jzQ_297, jgh, jgh, jgh, jgh, (4, [(4, 20), (1, 1)], []), (101, [], [0, 0, 0, 0, 0, 0]), (101, [], [1, 0, 0, 0, 0, 0]), (4, [(4, 21), (1, 1)], [])]) (jQ_161_237 (d := 0) (by omega) (by omega) (by omega) (by omega) (by omega) (by omega) (by omega) (by omega) (by omega) (by omega) (by omega) (by omega) (by omega) (by omega)) (by rfl) (by rfl) (by rfl) (by rfl) ⟨rfl, rfl, rfl, rfl, rfl, rfl, rfl, rfl, rfl, rfl, rfl, rfl, rfl, rfl, rfl, trivial⟩ (by rfl) (by rfl) (by omega) (by show 21 ≤ 23; omega) (by omega) (by omega) rfl rfl ?_
            refine jT_xifT (pcN := 127) jIQ_160_120 rfl (by decide +kernel) rfl ?_
            refine jT_xiconst (k := 0) (pcN := 128) jIQ_160_127 rfl ?_
            refine jT_xiadd (x := 0) (y := 0) (z := 0) (pcN := 129) jIQ_160_128 rfl (by decide) rfl ?_
            refine jT_xistore (v := (0, 0)) (LN := [(6, (0, 0)), (8, (0, r8)), (7, (0, r7)), (5, (4, 19)), (0, (4, 0)), (1, (0, y1)), (2, (0, y2)), (4, (0, o4))]) (pcN := 131) jIQ_160_129 rfl rfl rfl rfl ?_
            refine jT_xiinc (x := r8) (z := r8 + 1) (LN := [(8, (0, r8 + 1)), (6, (0, 0)), (7, (0, r7)), (5, (4, 19)), (0, (4, 0)), (1, (0, y1)), (2, (0, y2)), (4, (0, o4))]) (pcN := 134) jIQ_160_131 rfl rfl (rfl) rfl rfl ?_
            refine jT_xgoto (pcN := 100) jIQ_160_134 rfl ?_
            refine jT_loc (LN := [(8, (0, r8 + 1)), (7, (0, r7)), (6, (0, 0)), (5, (4, 19)), (0, (4, 0)), (1, (0, y1)), (2, (0, y2)), (4, (0, o4))]) (by show List.Nodup [8, 7, 6, 5, 0, 1, 2, 4]; decide) (by intro q hq; simp only [List.mem_cons, List.not_mem_nil, or_false] at hq; rcases hq with rfl | rfl | rfl | rfl | rfl | rfl | rfl | rfl <;> rfl) ?_
            exact ih (r8 + 1) 0 r7 r8 0 0 0 (by omega) (by omega)
    · rcases (show (0 ≤ -(((108917793695 * r7 + 159561683699 * r8) / 68719476736) * o4) + (r7 * k9_1) + (r8 * k9_2) - 1) ∨ (-(((108917793695 * r7 + 159561683699 * r8) / 68719476736) * o4) + (r7 * k9_1) + (r8 * k9_2) - 1 < 0) by omega) with g_2 | g_2
      · refine jT_xiload (v := (0, r8)) (pcN := 102) jIQ_160_100 rfl rfl rfl ?_
        refine jT_xiload_n (v := (0, y2)) (pcN := 103) jIQ_160_102 rfl rfl rfl ?_
        refine jT_icF (a := r8) (b := y2) (t := 137) (by rfl) (by rfl) (by rfl) (jw_idd (by omega) (by omega)) (jw_idd (by omega) (by omega)) (by simp only [jcP] <;> omega) ?_
        refine jT_xiload (v := (0, 0)) (pcN := 108) jIQ_160_106 rfl rfl rfl ?_
        refine jT_xaload_n (v := (4, 0)) (pcN := 109) jIQ_160_108 rfl rfl rfl ?_
        refine jT_xiload (v := (0, r7)) (pcN := 111) jIQ_160_109 rfl rfl rfl ?_
        refine jT_xiload (v := (0, r8)) (pcN := 113) jIQ_160_111 rfl rfl rfl ?_
        refine jT_xaload (v := (4, 19)) (pcN := 115) jIQ_160_113 rfl rfl rfl ?_
        refine jT_xiload (v := (0, o4)) (pcN := 117) jIQ_160_115 rfl rfl rfl ?_
        refine jT_callB [0, 19, 1, 2, 3, 4, 5, 6, 7, 8, 9, 10, 11, 12, 13] (y := 161) (pcN := 120) (dC := 2) (bc1 := 0) (bc2 := 0) (c1 := (b1 + 0 * q + 0)) (c2 := (b2 + 0 * q + 0)) (as := [(4, 0), (0, r7), (0, r8), (4, 19), (0, o4)]) (asC := [(4, 0), (0, r7), (0, r8), (4, 1), (0, o4)]) (LN := [(8, (0, r8)), (7, (0, r7)), (6, (0, 0)), (5, (4, 19)), (0, (4, 0)), (1, (0, y1)), (2, (0, y2)), (4, (0, o4))]) (stN := [(0, 0)]) (hsC := [jzQ_16, jgh, (8, [(4, 13), (4, 14)], []), jgh, jgh, jgh, jgh, jgh, jgh, (101, [], [u8_0, u8_1, u8_2, u8_3, u8_4, u8_5]), (101, [], [k9_0, k9_1, k9_2, k9_3, k9_4, k9_5]), jgh, jgh, jgh, jgh]) (hsD := [jzQ_16, jgh, (8, [(4, 13), (4, 14)], []), jgh, jgh, jgh, jgh, jgh, jgh, (101, [], [0, r7, r8, 0, 0, 0]), (101, [], [k9_0, k9_1, k9_2, k9_3, k9_4, k9_5]), jgh, jgh, jgh, jgh]) (v := (0, 0)) (st2 := [(0, 0), (0, 0)]) (hs2 := [jzQ_7, (8, [(4, 12), (4, 13)], []), jgh, jgh, jgh, jgh, jgh, jgh, (101, [], [0, r7, r8, 0, 0, 0]), (101, [], [k9_0, k9_1, k9_2, k9_3, k9_4, k9_5]), jgh, jzQ_296, jgh, (101, [], [0, 0, 0, 0, 0, 0]), jzQ_297, jgh, jgh, jgh, jgh, (4, [(4, 20), (1, 1)], []), (101, [], [0, 0, 0, 0, 0, 0]), (101, [], [1, 0, 0, 0, 0, 0]), (4, [(4, 21), (1, 1)], [])]) (jQ_161_236 (d := 0) (by omega) (by omega) (by omega) (by omega) (by omega) (by omega) (by omega) (by omega) (by omega) (by omega) (by omega)) (by rfl) (by rfl) (by rfl) (by rfl) ⟨rfl, rfl, rfl, rfl, rfl, rfl, rfl, rfl, rfl, rfl, rfl, rfl, rfl, rfl, rfl, trivial⟩ (by rfl) (by rfl) (by omega) (by show 21 ≤ 23; omega) (by omega) (by omega) rfl rfl ?_
        refine jT_xifT (pcN := 127) jIQ_160_120 rfl (by decide +kernel) rfl ?_
        refine jT_xiconst (k := 0) (pcN := 128) jIQ_160_127 rfl ?_
        refine jT_xiadd (x := 0) (y := 0) (z := 0) (pcN := 129) jIQ_160_128 rfl (by decide) rfl ?_
        refine jT_xistore (v := (0, 0)) (LN := [(6, (0, 0)), (8, (0, r8)), (7, (0, r7)), (5, (4, 19)), (0, (4, 0)), (1, (0, y1)), (2, (0, y2)), (4, (0, o4))]) (pcN := 131) jIQ_160_129 rfl rfl rfl rfl ?_
        refine jT_xiinc (x := r8) (z := r8 + 1) (LN := [(8, (0, r8 + 1)), (6, (0, 0)), (7, (0, r7)), (5, (4, 19)), (0, (4, 0)), (1, (0, y1)), (2, (0, y2)), (4, (0, o4))]) (pcN := 134) jIQ_160_131 rfl rfl (rfl) rfl rfl ?_
        refine jT_xgoto (pcN := 100) jIQ_160_134 rfl ?_
        refine jT_loc (LN := [(8, (0, r8 + 1)), (7, (0, r7)), (6, (0, 0)), (5, (4, 19)), (0, (4, 0)), (1, (0, y1)), (2, (0, y2)), (4, (0, o4))]) (by show List.Nodup [8, 7, 6, 5, 0, 1, 2, 4]; decide) (by intro q hq; simp only [List.mem_cons, List.not_mem_nil, or_false] at hq; rcases hq with rfl | rfl | rfl | rfl | rfl | rfl | rfl | rfl <;> rfl) ?_
        exact ih (r8 + 1) 0 r7 r8 0 0 0 (by omega) (by omega)
      · rcases (show (0 ≤ -(((108917793695 * r7 + 159561683699 * r8) / 68719476736) * o4) + (r7 * k9_1) + (r8 * k9_2)) ∨ (-(((108917793695 * r7 + 159561683699 * r8) / 68719476736) * o4) + (r7 * k9_1) + (r8 * k9_2) < 0) by omega) with g_3 | g_3
        · refine jT_xiload (v := (0, r8)) (pcN := 102) jIQ_160_100 rfl rfl rfl ?_
          refine jT_xiload_n (v := (0, y2)) (pcN := 103) jIQ_160_102 rfl rfl rfl ?_
          refine jT_icF (a := r8) (b := y2) (t := 137) (by rfl) (by rfl) (by rfl) (jw_idd (by omega) (by omega)) (jw_idd (by omega) (by omega)) (by simp only [jcP] <;> omega) ?_
          refine jT_xiload (v := (0, 0)) (pcN := 108) jIQ_160_106 rfl rfl rfl ?_
          refine jT_xaload_n (v := (4, 0)) (pcN := 109) jIQ_160_108 rfl rfl rfl ?_
          refine jT_xiload (v := (0, r7)) (pcN := 111) jIQ_160_109 rfl rfl rfl ?_
          refine jT_xiload (v := (0, r8)) (pcN := 113) jIQ_160_111 rfl rfl rfl ?_
          refine jT_xaload (v := (4, 19)) (pcN := 115) jIQ_160_113 rfl rfl rfl ?_
          refine jT_xiload (v := (0, o4)) (pcN := 117) jIQ_160_115 rfl rfl rfl ?_
          refine jT_callB [0, 19, 1, 2, 3, 4, 5, 6, 7, 8, 9, 10, 11, 20, 12, 13] (y := 161) (pcN := 120) (dC := 2) (bc1 := 0) (bc2 := 0) (c1 := (b1 + 0 * q + 0)) (c2 := (b2 + 0 * q + 0)) (as := [(4, 0), (0, r7), (0, r8), (4, 19), (0, o4)]) (asC := [(4, 0), (0, r7), (0, r8), (4, 1), (0, o4)]) (LN := [(8, (0, r8)), (7, (0, r7)), (6, (0, 0)), (5, (4, 19)), (0, (4, 0)), (1, (0, y1)), (2, (0, y2)), (4, (0, o4))]) (stN := [(0, 0)]) (hsC := [jzQ_16, (4, [(4, 13), (1, 1)], []), (8, [(4, 14), (4, 15)], []), jgh, jgh, jgh, jgh, jgh, jgh, (101, [], [u8_0, u8_1, u8_2, u8_3, u8_4, u8_5]), (101, [], [k9_0, k9_1, k9_2, k9_3, k9_4, k9_5]), jgh, jgh, (101, [], [0, 0, 0, 0, 0, 0]), jgh, jgh]) (hsD := [jzQ_16, (4, [(4, 13), (1, 1)], []), (8, [(4, 14), (4, 15)], []), jgh, jgh, jgh, jgh, jgh, jgh, (101, [], [(108917793695 * r7 + 159561683699 * r8) / 68719476736, -r7, -r8, 0, 0, 0]), (101, [], [k9_0, k9_1, k9_2, k9_3, k9_4, k9_5]), jgh, jgh, (101, [], [0, 0, 0, 0, 0, 0]), jgh, jgh]) (v := (0, 0)) (st2 := [(0, 0), (0, 0)]) (hs2 := [jzQ_7, (8, [(4, 12), (4, 13)], []), jgh, jgh, jgh, jgh, jgh, jgh, (101, [], [(108917793695 * r7 + 159561683699 * r8) / 68719476736, -r7, -r8, 0, 0, 0]), (101, [], [k9_0, k9_1, k9_2, k9_3, k9_4, k9_5]), jgh, jzQ_296, jgh, (101, [], [0, 0, 0, 0, 0, 0]), jzQ_297, jgh, jgh, jgh, jgh, (4, [(4, 20), (1, 1)], []), (101, [], [0, 0, 0, 0, 0, 0]), (101, [], [1, 0, 0, 0, 0, 0]), (4, [(4, 21), (1, 1)], [])]) (jQ_161_235 (d := 0) (by omega) (by omega) (by omega) (by omega) (by omega) (by omega) (by omega) (by omega) (by omega) (by omega) (by omega) (by omega)) (by rfl) (by rfl) (by rfl) (by rfl) ⟨rfl, rfl, rfl, rfl, rfl, rfl, rfl, rfl, rfl, rfl, rfl, rfl, rfl, rfl, rfl, rfl, trivial⟩ (by rfl) (by rfl) (by omega) (by show 21 ≤ 23; omega) (by omega) (by omega) rfl rfl ?_
          have hb_q1 : (-60) ≤ (108917793695 * r7 + 159561683699 * r8) / 68719476736 ∧ (108917793695 * r7 + 159561683699 * r8) / 68719476736 ≤ 60 := ⟨by omega, by omega⟩
          generalize hq_q1 : (108917793695 * r7 + 159561683699 * r8) / 68719476736 = q1 at hb_q1 g_2 g_3 ⊢
          refine jT_xifT (pcN := 127) jIQ_160_120 rfl (by decide +kernel) rfl ?_
          refine jT_xiconst (k := 0) (pcN := 128) jIQ_160_127 rfl ?_
          refine jT_xiadd (x := 0) (y := 0) (z := 0) (pcN := 129) jIQ_160_128 rfl (by decide) rfl ?_
          refine jT_xistore (v := (0, 0)) (LN := [(6, (0, 0)), (8, (0, r8)), (7, (0, r7)), (5, (4, 19)), (0, (4, 0)), (1, (0, y1)), (2, (0, y2)), (4, (0, o4))]) (pcN := 131) jIQ_160_129 rfl rfl rfl rfl ?_
          refine jT_xiinc (x := r8) (z := r8 + 1) (LN := [(8, (0, r8 + 1)), (6, (0, 0)), (7, (0, r7)), (5, (4, 19)), (0, (4, 0)), (1, (0, y1)), (2, (0, y2)), (4, (0, o4))]) (pcN := 134) jIQ_160_131 rfl rfl (rfl) rfl rfl ?_
          refine jT_xgoto (pcN := 100) jIQ_160_134 rfl ?_
          refine jT_loc (LN := [(8, (0, r8 + 1)), (7, (0, r7)), (6, (0, 0)), (5, (4, 19)), (0, (4, 0)), (1, (0, y1)), (2, (0, y2)), (4, (0, o4))]) (by show List.Nodup [8, 7, 6, 5, 0, 1, 2, 4]; decide) (by intro q hq; simp only [List.mem_cons, List.not_mem_nil, or_false] at hq; rcases hq with rfl | rfl | rfl | rfl | rfl | rfl | rfl | rfl <;> rfl) ?_
          exact ih (r8 + 1) q1 (-r7) (-r8) 0 0 0 (by omega) (by omega)
        · refine jT_xiload (v := (0, r8)) (pcN := 102) jIQ_160_100 rfl rfl rfl ?_
          refine jT_xiload_n (v := (0, y2)) (pcN := 103) jIQ_160_102 rfl rfl rfl ?_
          refine jT_icF (a := r8) (b := y2) (t := 137) (by rfl) (by rfl) (by rfl) (jw_idd (by omega) (by omega)) (jw_idd (by omega) (by omega)) (by simp only [jcP] <;> omega) ?_
          refine jT_xiload (v := (0, 0)) (pcN := 108) jIQ_160_106 rfl rfl rfl ?_
          refine jT_xaload_n (v := (4, 0)) (pcN := 109) jIQ_160_108 rfl rfl rfl ?_
          refine jT_xiload (v := (0, r7)) (pcN := 111) jIQ_160_109 rfl rfl rfl ?_
          refine jT_xiload (v := (0, r8)) (pcN := 113) jIQ_160_111 rfl rfl rfl ?_
          refine jT_xaload (v := (4, 19)) (pcN := 115) jIQ_160_113 rfl rfl rfl ?_
          refine jT_xiload (v := (0, o4)) (pcN := 117) jIQ_160_115 rfl rfl rfl ?_
          refine jT_callB [0, 19, 1, 2, 3, 4, 5, 6, 7, 8, 9, 10, 11, 12, 13] (y := 161) (pcN := 120) (dC := 2) (bc1 := 0) (bc2 := 0) (c1 := (b1 + 0 * q + 0)) (c2 := (b2 + 0 * q + 0)) (as := [(4, 0), (0, r7), (0, r8), (4, 19), (0, o4)]) (asC := [(4, 0), (0, r7), (0, r8), (4, 1), (0, o4)]) (LN := [(8, (0, r8)), (7, (0, r7)), (6, (0, 0)), (5, (4, 19)), (0, (4, 0)), (1, (0, y1)), (2, (0, y2)), (4, (0, o4))]) (stN := [(0, 0)]) (hsC := [jzQ_16, jgh, (8, [(4, 13), (4, 14)], []), jgh, jgh, jgh, jgh, jgh, jgh, (101, [], [u8_0, u8_1, u8_2, u8_3, u8_4, u8_5]), (101, [], [k9_0, k9_1, k9_2, k9_3, k9_4, k9_5]), jgh, jgh, jgh, jgh]) (hsD := [jzQ_16, jgh, (8, [(4, 13), (4, 14)], []), jgh, jgh, jgh, jgh, jgh, jgh, (101, [], [0, r7, r8, 0, 0, 0]), (101, [], [k9_0, k9_1, k9_2, k9_3, k9_4, k9_5]), jgh, jgh, jgh, jgh]) (v := (0, 0)) (st2 := [(0, 0), (0, 0)]) (hs2 := [jzQ_7, (8, [(4, 12), (4, 13)], []), jgh, jgh, jgh, jgh, jgh, jgh, (101, [], [0, r7, r8, 0, 0, 0]), (101, [], [k9_0, k9_1, k9_2, k9_3, k9_4, k9_5]), jgh, jzQ_296, jgh, (101, [], [0, 0, 0, 0, 0, 0]), jzQ_297, jgh, jgh, jgh, jgh, (4, [(4, 20), (1, 1)], []), (101, [], [0, 0, 0, 0, 0, 0]), (101, [], [1, 0, 0, 0, 0, 0]), (4, [(4, 21), (1, 1)], [])]) (jQ_161_234 (d := 0) (by omega) (by omega) (by omega) (by omega) (by omega) (by omega) (by omega) (by omega) (by omega) (by omega) (by omega) (by omega)) (by rfl) (by rfl) (by rfl) (by rfl) ⟨rfl, rfl, rfl, rfl, rfl, rfl, rfl, rfl, rfl, rfl, rfl, rfl, rfl, rfl, rfl, trivial⟩ (by rfl) (by rfl) (by omega) (by show 21 ≤ 23; omega) (by omega) (by omega) rfl rfl ?_
          refine jT_xifT (pcN := 127) jIQ_160_120 rfl (by decide +kernel) rfl ?_
          refine jT_xiconst (k := 0) (pcN := 128) jIQ_160_127 rfl ?_
          refine jT_xiadd (x := 0) (y := 0) (z := 0) (pcN := 129) jIQ_160_128 rfl (by decide) rfl ?_
          refine jT_xistore (v := (0, 0)) (LN := [(6, (0, 0)), (8, (0, r8)), (7, (0, r7)), (5, (4, 19)), (0, (4, 0)), (1, (0, y1)), (2, (0, y2)), (4, (0, o4))]) (pcN := 131) jIQ_160_129 rfl rfl rfl rfl ?_
          refine jT_xiinc (x := r8) (z := r8 + 1) (LN := [(8, (0, r8 + 1)), (6, (0, 0)), (7, (0, r7)), (5, (4, 19)), (0, (4, 0)), (1, (0, y1)), (2, (0, y2)), (4, (0, o4))]) (pcN := 134) jIQ_160_131 rfl rfl (rfl) rfl rfl ?_
          refine jT_xgoto (pcN := 100) jIQ_160_134 rfl ?_
          refine jT_loc (LN := [(8, (0, r8 + 1)), (7, (0, r7)), (6, (0, 0)), (5, (4, 19)), (0, (4, 0)), (1, (0, y1)), (2, (0, y2)), (4, (0, o4))]) (by show List.Nodup [8, 7, 6, 5, 0, 1, 2, 4]; decide) (by intro q hq; simp only [List.mem_cons, List.not_mem_nil, or_false] at hq; rcases hq with rfl | rfl | rfl | rfl | rfl | rfl | rfl | rfl <;> rfl) ?_
          exact ih (r8 + 1) 0 r7 r8 0 0 0 (by omega) (by omega)
theorem jQl_gc_246 {xs : List Int} {d b1 b2 : Nat} {Q : Nat → JV → List JC → Prop} (hd : 4 < d) {y1 y2 o4 k9_0 k9_1 k9_2 k9_3 k9_4 k9_5 : Int} (h_y1 : 0 ≤ y1 ∧ y1 ≤ 20) (h_y2 : 0 ≤ y2 ∧ y2 ≤ 10) (h_o4 : 1 ≤ o4 ∧ o4 ≤ 100) (h_k9_0 : 1 ≤ k9_0 ∧ k9_0 ≤ 100) (h_k9_1 : 2 ≤ k9_1 ∧ k9_1 ≤ 158) (h_k9_2 : 2 ≤ k9_2 ∧ k9_2 ≤ 232) (h_k9_3 : 3 ≤ k9_3 ∧ k9_3 ≤ 281) (h_k9_4 : 3 ≤ k9_4 ∧ k9_4 ≤ 346) (h_k9_5 : 4 ≤ k9_5 ∧ k9_5 ≤ 370) (h : ∀ (u8_0 u8_1 u8_2 u8_3 u8_4 u8_5 : Int), jT xs d 160 21 143 [(6, (0, 0))] [] [jzQ_7, (8, [(4, 12), (4, 13)], []), jgh, jgh, jgh, jgh, jgh, jgh, (101, [], [u8_0, u8_1, u8_2, u8_3, u8_4, u8_5]), (101, [], [k9_0, k9_1, k9_2, k9_3, k9_4, k9_5]), jgh, jzQ_296, jgh, (101, [], [0, 0, 0, 0, 0, 0]), jzQ_297, jgh, jgh, jgh, jgh, (4, [(4, 20), (1, 1)], []), (101, [], [0, 0, 0, 0, 0, 0]), (101, [], [1, 0, 0, 0, 0, 0]), (4, [(4, 21), (1, 1)], [])] b1 b2 Q) : ∀ (q : Nat) (r7 u8_0 u8_1 u8_2 u8_3 u8_4 u8_5 : Int), -y1 ≤ r7 → r7 + (q : Int) = y1 + 1 → jT xs d 160 21 90 [(7, (0, r7)), (6, (0, 0)), (5, (4, 19)), (0, (4, 0)), (1, (0, y1)), (2, (0, y2)), (4, (0, o4))] [] [jzQ_7, (8, [(4, 12), (4, 13)], []), jgh, jgh, jgh, jgh, jgh, jgh, (101, [], [u8_0, u8_1, u8_2, u8_3, u8_4, u8_5]), (101, [], [k9_0, k9_1, k9_2, k9_3, k9_4, k9_5]), jgh, jzQ_296, jgh, (101, [], [0, 0, 0, 0, 0, 0]), jzQ_297, jgh, jgh, jgh, jgh, (4, [(4, 20), (1, 1)], []), (101, [], [0, 0, 0, 0, 0, 0]), (101, [], [1, 0, 0, 0, 0, 0]), (4, [(4, 21), (1, 1)], [])] (b1 + 0 * q) (b2 + 0 * q) Q := by
  intro q
  induction q with
  | zero =>
    intro r7 u8_0 u8_1 u8_2 u8_3 u8_4 u8_5 h0 ht
    have e : r7 = y1 + 1 := by omega
    subst r7
    refine jT.mono (b1 := b1) (b2 := b2) ?_ (Nat.le_refl _) (by omega) (by omega) (fun _ _ _ z => z)
    refine jT_xiload (v := (0, y1 + 1)) (pcN := 92) jIQ_160_90 rfl rfl rfl ?_
    refine jT_xiload_n (v := (0, y1)) (pcN := 93) jIQ_160_92 rfl rfl rfl ?_
    refine jT_icT (a := y1 + 1) (b := y1) (t := 143) (by rfl) (by rfl) (by rfl) (jw_idd (by omega) (by omega)) (jw_idd (by omega) (by omega)) (by simp only [jcP] <;> omega) ?_
    refine jT_loc (LN := [(6, (0, 0))]) (by show List.Nodup [6]; decide) (by intro q hq; simp only [List.mem_cons, List.not_mem_nil, or_false] at hq; rcases hq with rfl <;> rfl) ?_
    exact h u8_0 u8_1 u8_2 u8_3 u8_4 u8_5
  | succ q ih =>
    intro r7 u8_0 u8_1 u8_2 u8_3 u8_4 u8_5 h0 ht
    have h_r7 : (-20) ≤ r7 ∧ r7 ≤ 20 := by omega
    have g_0 : r7 - y1 ≤ 0 := by omega
    refine jT.mono (b1 := b1 + 0 * q + 0) (b2 := b2 + 0 * q + 0) ?_ (Nat.le_refl _) (by omega) (by omega) (fun _ _ _ z => z)
    refine jT_xiload (v := (0, r7)) (pcN := 92) jIQ_160_90 rfl rfl rfl ?_
    refine jT_xiload_n (v := (0, y1)) (pcN := 93) jIQ_160_92 rfl rfl rfl ?_
    refine jT_icF (a := r7) (b := y1) (t := 143) (by rfl) (by rfl) (by rfl) (jw_idd (by omega) (by omega)) (jw_idd (by omega) (by omega)) (by simp only [jcP] <;> omega) ?_
    refine jT_xiload_n (v := (0, y2)) (pcN := 97) jIQ_160_96 rfl rfl rfl ?_
    refine jT_adv 1 (pcN := 98) (LN := [(7, (0, r7)), (6, (0, 0)), (5, (4, 19)), (0, (4, 0)), (1, (0, y1)), (2, (0, y2)), (4, (0, o4))]) (stN := [(0, -y2)]) (hsN := [jzQ_7, (8, [(4, 12), (4, 13)], []), jgh, jgh, jgh, jgh, jgh, jgh, (101, [], [u8_0, u8_1, u8_2, u8_3, u8_4, u8_5]), (101, [], [k9_0, k9_1, k9_2, k9_3, k9_4, k9_5]), jgh, jzQ_296, jgh, (101, [], [0, 0, 0, 0, 0, 0]), jzQ_297, jgh, jgh, jgh, jgh, (4, [(4, 20), (1, 1)], []), (101, [], [0, 0, 0, 0, 0, 0]), (101, [], [1, 0, 0, 0, 0, 0]), (4, [(4, 21), (1, 1)], [])]) (c1 := 0) (s1 := 0) (c2 := (b1 + 0 * q + 0)) (s2 := (b2 + 0 * q + 0)) (by exact rfl) ?_ (by omega) (by omega)
    refine jT_xistore (v := (0, -y2)) (LN := [(8, (0, -y2)), (7, (0, r7)), (6, (0, 0)), (5, (4, 19)), (0, (4, 0)), (1, (0, y1)), (2, (0, y2)), (4, (0, o4))]) (pcN := 100) jIQ_160_98 rfl rfl rfl rfl ?_
    refine jT_loc (LN := [(8, (0, -y2)), (7, (0, r7)), (6, (0, 0)), (5, (4, 19)), (0, (4, 0)), (1, (0, y1)), (2, (0, y2)), (4, (0, o4))]) (by show List.Nodup [8, 7, 6, 5, 0, 1, 2, 4]; decide) (by intro q hq; simp only [List.mem_cons, List.not_mem_nil, or_false] at hq; rcases hq with rfl | rfl | rfl | rfl | rfl | rfl | rfl | rfl <;> rfl) ?_
    refine jT.mono (jQl_gc_247 (b1 := (b1 + 0 * q + 0)) (b2 := (b2 + 0 * q + 0)) (by omega) (y1 := y1) (y2 := y2) (r7 := r7) (o4 := o4) (k9_0 := k9_0) (k9_1 := k9_1) (k9_2 := k9_2) (k9_3 := k9_3) (k9_4 := k9_4) (k9_5 := k9_5) (by omega) (by omega) (by omega) (by omega) (by omega) (by omega) (by omega) (by omega) (by omega) (by omega) (fun u8_0 u8_1 u8_2 u8_3 u8_4 u8_5 => ?_) ((y2 + 1 : Int) - (-y2)).toNat (-y2) u8_0 u8_1 u8_2 u8_3 u8_4 u8_5 (by omega) (by omega)) (Nat.le_refl _) (by omega) (by omega) (fun _ _ _ z => z)
    refine jT_xiinc (x := r7) (z := r7 + 1) (LN := [(7, (0, r7 + 1)), (6, (0, 0)), (5, (4, 19)), (0, (4, 0)), (1, (0, y1)), (2, (0, y2)), (4, (0, o4))]) (pcN := 140) jIQ_160_137 rfl rfl (rfl) rfl rfl ?_
    refine jT_xgoto (pcN := 90) jIQ_160_140 rfl ?_
    refine jT_loc (LN := [(7, (0, r7 + 1)), (6, (0, 0)), (5, (4, 19)), (0, (4, 0)), (1, (0, y1)), (2, (0, y2)), (4, (0, o4))]) (by show List.Nodup [7, 6, 5, 0, 1, 2, 4]; decide) (by intro q hq; simp only [List.mem_cons, List.not_mem_nil, or_false] at hq; rcases hq with rfl | rfl | rfl | rfl | rfl | rfl | rfl <;> rfl) ?_
    exact ih (r7 + 1) u8_0 u8_1 u8_2 u8_3 u8_4 u8_5 (by omega) (by omega)
theorem jIQ_160_143 : jmI (jm 160) 143 = (.iload 6, 2) := by rfl
theorem jQ_160_248 {xs : List Int} {d : Nat} {x1 x2 x3 x4 : Int} (h_x1 : 0 ≤ x1 ∧ x1 ≤ 20) (h_x2 : 0 ≤ x2 ∧ x2 ≤ 10) (h_x3 : 0 ≤ x3 ∧ x3 ≤ 7) (h_x4 : 1 ≤ x4 ∧ x4 ≤ 100) : jT xs (d + 5) 160 21 0 [(0, (4, 0)), (1, (0, x1)), (2, (0, x2)), (3, (0, x3)), (4, (0, x4))] [] jpQ_333 2 8 (fun k v hsN => k = 0 ∧ v = (0, 0) ∧ hsN = [jzQ_7, (8, [(4, 12), (4, 13)], []), jgh, jgh, jgh, jgh, jgh, jgh, jgh, (101, [], [(2 * x4 + 1) / 2, (((217835587388 * x4) / 68719476736) + 1) / 2, (((319123367396 * x4) / 68719476736) + 1) / 2, (((385839922510 * x4) / 68719476736) + 1) / 2, (((475460661270 * x4) / 68719476736) + 1) / 2, (((508584562244 * x4) / 68719476736) + 1) / 2]), jgh, jzQ_296, jgh, (101, [], [0, 0, 0, 0, 0, 0]), jzQ_297, jgh, jgh, jgh, jgh, (4, [(4, 20), (1, 1)], []), (101, [], [0, 0, 0, 0, 0, 0]), (101, [], [1, 0, 0, 0, 0, 0]), (4, [(4, 21), (1, 1)], [])]) := by
  refine jT_xaload_n (v := (4, 0)) (pcN := 1) jIQ_160_0 rfl rfl rfl ?_
  refine jT_xiload_n (v := (0, x1)) (pcN := 2) jIQ_160_1 rfl rfl rfl ?_
  refine jT_xiconst (k := 0) (pcN := 3) jIQ_160_2 rfl ?_
  refine jT_xbipush (k := 20) (pcN := 5) jIQ_160_3 (by decide) rfl ?_
  refine jT_fR [0] 21 (y := 116) (pcN := 8) (dC := 0) (bc1 := 0) (bc2 := 0) (c1 := 2) (c2 := 8) (as := [(4, 0), (0, x1), (0, 0), (0, 20)]) (asC := [(4, 0), (0, x1), (0, 0), (0, 20)]) (LN := [(0, (4, 0)), (1, (0, x1)), (2, (0, x2)), (3, (0, x3)), (4, (0, x4))]) (stN := []) (hsC := [jgh]) (v := (9, 0)) (st2 := []) (jQ_116_7 (d := 0) (by omega)) (by rfl) (by rfl) (by decide +kernel) (by rfl) (by rfl) (by omega) (by omega) (by omega) (by omega) rfl ?_
  refine jT_xaload_n (v := (4, 0)) (pcN := 9) jIQ_160_8 rfl rfl rfl ?_
  refine jT_xiload_n (v := (0, x2)) (pcN := 10) jIQ_160_9 rfl rfl rfl ?_
  refine jT_xiconst (k := 0) (pcN := 11) jIQ_160_10 rfl ?_
  refine jT_xbipush (k := 10) (pcN := 13) jIQ_160_11 (by decide) rfl ?_
  refine jT_fR [0] 21 (y := 116) (pcN := 16) (dC := 0) (bc1 := 0) (bc2 := 0) (c1 := 2) (c2 := 8) (as := [(4, 0), (0, x2), (0, 0), (0, 10)]) (asC := [(4, 0), (0, x2), (0, 0), (0, 10)]) (LN := [(0, (4, 0)), (1, (0, x1)), (2, (0, x2)), (3, (0, x3)), (4, (0, x4))]) (stN := []) (hsC := [jgh]) (v := (9, 0)) (st2 := []) (jQ_116_12 (d := 0) (by omega)) (by rfl) (by rfl) (by decide +kernel) (by rfl) (by rfl) (by omega) (by omega) (by omega) (by omega) rfl ?_
  refine jT_xaload_n (v := (4, 0)) (pcN := 17) jIQ_160_16 rfl rfl rfl ?_
  refine jT_xiload (v := (0, x4)) (pcN := 19) jIQ_160_17 rfl rfl rfl ?_
  refine jT_xiconst (k := 0) (pcN := 20) jIQ_160_19 rfl ?_
  refine jT_xbipush (k := 100) (pcN := 22) jIQ_160_20 (by decide) rfl ?_
  refine jT_fR [0] 21 (y := 116) (pcN := 25) (dC := 0) (bc1 := 0) (bc2 := 0) (c1 := 2) (c2 := 8) (as := [(4, 0), (0, x4), (0, 0), (0, 100)]) (asC := [(4, 0), (0, x4), (0, 0), (0, 100)]) (LN := [(0, (4, 0)), (1, (0, x1)), (2, (0, x2)), (3, (0, x3)), (4, (0, x4))]) (stN := []) (hsC := [jgh]) (v := (9, 0)) (st2 := []) (jQ_116_191 (d := 0) (by omega)) (by rfl) (by rfl) (by decide +kernel) (by rfl) (by rfl) (by omega) (by omega) (by omega) (by omega) rfl ?_
  refine jT_xaload_n (v := (4, 0)) (pcN := 26) jIQ_160_25 rfl rfl rfl ?_
  refine jT_xiload_n (v := (0, x3)) (pcN := 27) jIQ_160_26 rfl rfl rfl ?_
  refine jT_xbipush (k := 8) (pcN := 29) jIQ_160_27 (by decide) rfl ?_
  refine jT_fR [0] 21 (y := 115) (pcN := 32) (dC := 0) (bc1 := 0) (bc2 := 0) (c1 := 2) (c2 := 8) (as := [(4, 0), (0, x3), (0, 8)]) (asC := [(4, 0), (0, x3), (0, 8)]) (LN := [(0, (4, 0)), (1, (0, x1)), (2, (0, x2)), (3, (0, x3)), (4, (0, x4))]) (stN := []) (hsC := [jgh]) (v := (9, 0)) (st2 := []) (jQ_115_26 (d := 0) (by omega)) (by rfl) (by rfl) (by decide +kernel) (by rfl) (by rfl) (by omega) (by omega) (by omega) (by omega) rfl ?_
  refine jT_xaload_n (v := (4, 0)) (pcN := 33) jIQ_160_32 rfl rfl rfl ?_
  refine jT_xgetf (a := 0) (t := 1) (ci := 13) (fi := 11) (c := jzQ_7) (v := (4, 11)) (pcN := 36) jIQ_160_33 rfl rfl rfl rfl rfl rfl rfl ?_
  refine jT_xiload_n (v := (0, x3)) (pcN := 37) jIQ_160_36 rfl rfl rfl ?_
  refine jT_fR [11, 14, 15, 16, 17, 18, 19] 21 (y := 57) (pcN := 40) (dC := 0) (bc1 := 0) (bc2 := 0) (c1 := 2) (c2 := 8) (as := [(4, 11), (0, x3)]) (asC := [(4, 0), (0, x3)]) (LN := [(0, (4, 0)), (1, (0, x1)), (2, (0, x2)), (3, (0, x3)), (4, (0, x4))]) (stN := []) (hsC := jpQ_76) (v := (4, 6)) (st2 := [(4, 19)]) (jQ_57_27 (d := 0) (by omega)) (by rfl) (by rfl) (by decide +kernel) (by rfl) (by rfl) (by omega) (by omega) (by omega) (by omega) rfl ?_
  refine jT_xastore (v := (4, 19)) (LN := [(5, (4, 19)), (0, (4, 0)), (1, (0, x1)), (2, (0, x2)), (3, (0, x3)), (4, (0, x4))]) (pcN := 42) jIQ_160_40 rfl rfl rfl rfl ?_
  refine jT_xaload_n (v := (4, 0)) (pcN := 43) jIQ_160_42 rfl rfl rfl ?_
  refine jT_xgetf (a := 0) (t := 1) (ci := 13) (fi := 0) (c := jzQ_7) (v := (4, 1)) (pcN := 46) jIQ_160_43 rfl rfl rfl rfl rfl rfl rfl ?_
  refine jT_xaload (v := (4, 19)) (pcN := 48) jIQ_160_46 rfl rfl rfl ?_
  refine jT_xlconst (z := 1) (pcN := 49) jIQ_160_48 rfl rfl ?_
  refine jT_xlconst (z := 1) (pcN := 50) jIQ_160_49 rfl rfl ?_
  refine jT_fA [] 21 (y := 8) (pcN := 53) (dC := 2) (bc1 := 2) (bc2 := 8) (c1 := 0) (c2 := 0) (as := [(1, 1), (1, 1)]) (asC := [(1, 1), (1, 1)]) (LN := [(5, (4, 19)), (0, (4, 0)), (1, (0, x1)), (2, (0, x2)), (3, (0, x3)), (4, (0, x4))]) (stN := [(4, 19), (4, 1)]) (hsC := []) (ex := [(101, [], [1, 0, 0, 0, 0, 0]), (4, [(4, 0), (1, 1)], [])]) (v := (4, 1)) (st2 := [(4, 22), (4, 19), (4, 1)]) (hs2 := jpQ_298) (jQ_8_30 (d := 0)) (by rfl) (by rfl) (by decide +kernel) (by rfl) (by rfl) (by omega) (by omega) (by omega) (by omega) rfl (by decide +kernel) ?_
  refine jT_fB [1, 19, 22, 12, 13, 20, 21] 23 (y := 46) (pcN := 56) (dC := 2) (bc1 := 0) (bc2 := 0) (c1 := 0) (c2 := 0) (as := [(4, 1), (4, 19), (4, 22)]) (asC := [(4, 0), (4, 1), (4, 2)]) (LN := [(5, (4, 19)), (0, (4, 0)), (1, (0, x1)), (2, (0, x2)), (3, (0, x3)), (4, (0, x4))]) (stN := []) (hsC := jpQ_78) (hsD := jpQ_77) (v := (0, (-1))) (st2 := [(0, (-1))]) (hs2 := jpQ_299) (jQ_46_34 (d := 0)) (by rfl) (by rfl) (by decide +kernel) (by rfl) (by rfl) (by omega) (by omega) (by omega) (by omega) rfl (by decide +kernel) ?_
  refine jT_xifT (pcN := 70) jIQ_160_56 rfl (by decide +kernel) rfl ?_
  refine jT_xaload_n (v := (4, 0)) (pcN := 71) jIQ_160_70 rfl rfl rfl ?_
  refine jT_xgetf (a := 0) (t := 1) (ci := 13) (fi := 0) (c := jzQ_7) (v := (4, 1)) (pcN := 74) jIQ_160_71 rfl rfl rfl rfl rfl rfl rfl ?_
  refine jT_xaload_n (v := (4, 0)) (pcN := 75) jIQ_160_74 rfl rfl rfl ?_
  refine jT_xgetf (a := 0) (t := 1) (ci := 13) (fi := 8) (c := jzQ_7) (v := (4, 9)) (pcN := 78) jIQ_160_75 rfl rfl rfl rfl rfl rfl rfl ?_
  refine jT_xiload (v := (0, x4)) (pcN := 80) jIQ_160_78 rfl rfl rfl ?_
  refine jT_fB [1, 9, 12, 13] 23 (y := 47) (pcN := 83) (dC := 2) (bc1 := 0) (bc2 := 0) (c1 := 0) (c2 := 0) (as := [(4, 1), (4, 9), (0, x4)]) (asC := [(4, 0), (4, 1), (0, x4)]) (LN := [(5, (4, 19)), (0, (4, 0)), (1, (0, x1)), (2, (0, x2)), (3, (0, x3)), (4, (0, x4))]) (stN := []) (hsC := jpQ_86) (hsD := [(8, [(4, 2), (4, 3)], []), (101, [], [(2 * x4 + 1) / 2, (((217835587388 * x4) / 68719476736) + 1) / 2, (((319123367396 * x4) / 68719476736) + 1) / 2, (((385839922510 * x4) / 68719476736) + 1) / 2, (((475460661270 * x4) / 68719476736) + 1) / 2, (((508584562244 * x4) / 68719476736) + 1) / 2]), jgh, (101, [], [0, 0, 0, 0, 0, 0])]) (v := (9, 0)) (st2 := []) (hs2 := [jzQ_7, (8, [(4, 12), (4, 13)], []), jgh, jgh, jgh, jgh, jgh, jgh, (101, [], [0, 0, 0, 0, 0, 0]), (101, [], [(2 * x4 + 1) / 2, (((217835587388 * x4) / 68719476736) + 1) / 2, (((319123367396 * x4) / 68719476736) + 1) / 2, (((385839922510 * x4) / 68719476736) + 1) / 2, (((475460661270 * x4) / 68719476736) + 1) / 2, (((508584562244 * x4) / 68719476736) + 1) / 2]), jgh, jzQ_296, jgh, (101, [], [0, 0, 0, 0, 0, 0]), jzQ_297, jgh, jgh, jgh, jgh, (4, [(4, 20), (1, 1)], []), (101, [], [0, 0, 0, 0, 0, 0]), (101, [], [1, 0, 0, 0, 0, 0]), (4, [(4, 21), (1, 1)], [])]) (jQ_47_220 (d := 0) (by omega)) (by rfl) (by rfl) (by decide +kernel) (by rfl) (by rfl) (by omega) (by omega) (by omega) (by omega) rfl rfl ?_
  have hb_q1 : 1 ≤ (2 * x4 + 1) / 2 ∧ (2 * x4 + 1) / 2 ≤ 100 := ⟨by omega, by omega⟩
  generalize hq_q1 : (2 * x4 + 1) / 2 = q1 at hb_q1 ⊢
  have hb_q2 : 2 ≤ (((217835587388 * x4) / 68719476736) + 1) / 2 ∧ (((217835587388 * x4) / 68719476736) + 1) / 2 ≤ 158 := ⟨by omega, by omega⟩
  generalize hq_q2 : (((217835587388 * x4) / 68719476736) + 1) / 2 = q2 at hb_q2 ⊢
  have hb_q3 : 2 ≤ (((319123367396 * x4) / 68719476736) + 1) / 2 ∧ (((319123367396 * x4) / 68719476736) + 1) / 2 ≤ 232 := ⟨by omega, by omega⟩
  generalize hq_q3 : (((319123367396 * x4) / 68719476736) + 1) / 2 = q3 at hb_q3 ⊢
  have hb_q4 : 3 ≤ (((385839922510 * x4) / 68719476736) + 1) / 2 ∧ (((385839922510 * x4) / 68719476736) + 1) / 2 ≤ 281 := ⟨by omega, by omega⟩
  generalize hq_q4 : (((385839922510 * x4) / 68719476736) + 1) / 2 = q4 at hb_q4 ⊢
  have hb_q5 : 3 ≤ (((475460661270 * x4) / 68719476736) + 1) / 2 ∧ (((475460661270 * x4) / 68719476736) + 1) / 2 ≤ 346 := ⟨by omega, by omega⟩
  generalize hq_q5 : (((475460661270 * x4) / 68719476736) + 1) / 2 = q5 at hb_q5 ⊢
  have hb_q6 : 4 ≤ (((508584562244 * x4) / 68719476736) + 1) / 2 ∧ (((508584562244 * x4) / 68719476736) + 1) / 2 ≤ 370 := ⟨by omega, by omega⟩
  generalize hq_q6 : (((508584562244 * x4) / 68719476736) + 1) / 2 = q6 at hb_q6 ⊢
  refine jT_xiconst (k := 0) (pcN := 84) jIQ_160_83 rfl ?_
  refine jT_xistore (v := (0, 0)) (LN := [(6, (0, 0)), (5, (4, 19)), (0, (4, 0)), (1, (0, x1)), (2, (0, x2)), (3, (0, x3)), (4, (0, x4))]) (pcN := 86) jIQ_160_84 rfl rfl rfl rfl ?_
  refine jT_xiload_n (v := (0, x1)) (pcN := 87) jIQ_160_86 rfl rfl rfl ?_
  refine jT_adv 1 (pcN := 88) (LN := [(6, (0, 0)), (5, (4, 19)), (0, (4, 0)), (1, (0, x1)), (2, (0, x2)), (3, (0, x3)), (4, (0, x4))]) (stN := [(0, -x1)]) (hsN := [jzQ_7, (8, [(4, 12), (4, 13)], []), jgh, jgh, jgh, jgh, jgh, jgh, (101, [], [0, 0, 0, 0, 0, 0]), (101, [], [q1, q2, q3, q4, q5, q6]), jgh, jzQ_296, jgh, (101, [], [0, 0, 0, 0, 0, 0]), jzQ_297, jgh, jgh, jgh, jgh, (4, [(4, 20), (1, 1)], []), (101, [], [0, 0, 0, 0, 0, 0]), (101, [], [1, 0, 0, 0, 0, 0]), (4, [(4, 21), (1, 1)], [])]) (c1 := 0) (s1 := 0) (c2 := 0) (s2 := 0) (by exact rfl) ?_ (by omega) (by omega)
  refine jT_xistore (v := (0, -x1)) (LN := [(7, (0, -x1)), (6, (0, 0)), (5, (4, 19)), (0, (4, 0)), (1, (0, x1)), (2, (0, x2)), (3, (0, x3)), (4, (0, x4))]) (pcN := 90) jIQ_160_88 rfl rfl rfl rfl ?_
  refine jT_loc (LN := [(7, (0, -x1)), (6, (0, 0)), (5, (4, 19)), (0, (4, 0)), (1, (0, x1)), (2, (0, x2)), (4, (0, x4))]) (by show List.Nodup [7, 6, 5, 0, 1, 2, 4]; decide) (by intro q hq; simp only [List.mem_cons, List.not_mem_nil, or_false] at hq; rcases hq with rfl | rfl | rfl | rfl | rfl | rfl | rfl <;> rfl) ?_
  refine jT.mono (jQl_gc_246 (b1 := 0) (b2 := 0) (by omega) (y1 := x1) (y2 := x2) (o4 := x4) (k9_0 := q1) (k9_1 := q2) (k9_2 := q3) (k9_3 := q4) (k9_4 := q5) (k9_5 := q6) (by omega) (by omega) (by omega) (by omega) (by omega) (by omega) (by omega) (by omega) (by omega) (fun u8_0 u8_1 u8_2 u8_3 u8_4 u8_5 => ?_) ((x1 + 1 : Int) - (-x1)).toNat (-x1) 0 0 0 0 0 0 (by omega) (by omega)) (Nat.le_refl _) (by omega) (by omega) (fun _ _ _ z => z)
  refine jT_forget (a := 8) (c := (101, [], [u8_0, u8_1, u8_2, u8_3, u8_4, u8_5])) rfl rfl ?_
  refine jT_eq (LN := [(6, (0, 0))]) (stN := []) (hsN := [jzQ_7, (8, [(4, 12), (4, 13)], []), jgh, jgh, jgh, jgh, jgh, jgh, jgh, (101, [], [q1, q2, q3, q4, q5, q6]), jgh, jzQ_296, jgh, (101, [], [0, 0, 0, 0, 0, 0]), jzQ_297, jgh, jgh, jgh, jgh, (4, [(4, 20), (1, 1)], []), (101, [], [0, 0, 0, 0, 0, 0]), (101, [], [1, 0, 0, 0, 0, 0]), (4, [(4, 21), (1, 1)], [])]) rfl rfl rfl ?_
  refine jT_xiload (v := (0, 0)) (pcN := 145) jIQ_160_143 rfl rfl rfl ?_
  subst hq_q6
  subst hq_q5
  subst hq_q4
  subst hq_q3
  subst hq_q2
  subst hq_q1
  exact jT_ret rfl (by decide) (by show 21 ≤ 23; omega) (by omega) (by omega) ⟨rfl, rfl, rfl⟩
